/-! The class: rules, their reading -/
section M85
variable {l : Launch} {s0 : State} {D : va_G} {tys : List (ClassId × FieldType)} {a0 : Array Value} {A : Nat → Nat} {dT : Nat → ClassId} {s : PS}
set_option maxRecDepth 4000 in
theorem c7_put_19 (G : GX l s0 D tys a0 dT) (I : Bd s) {x : Int} (p0 : rng x) : CT l s0 D A dT 82 (rmN 82) [.ref (A 19), .int (Int32.ofInt x)] s (fun o t => Bd t ∧ Fm [16] [18] s t ∧ o = .inl none ∧ (True)) := by
  refine ct_ofX G (by decide) (Nat.le_of_ble_eq_true rfl) (fun k X E ET hRt hXt q => ?_)
  show WS k 0 [(0, .ref (A 19)), (1, .int (Int32.ofInt x))] [] _ 0 0
  have F : Fm [16] [18] s s := fm_rf _ _ s
  have b1 : (0 : Int) ≤ iI s 16 ∧ iI s 16 ≤ 200 := I.1 16
  refine z_aload_n X (x := A 19) (show cdA 82 0 = some (.aload_n 0, 1, 0, 0, 0) from rfl) (List.Mem.head _) ?_
  refine z_getI X 19 (show cdA 82 1 = some (.getfield 35, 3, 7, 9, 0) from rfl) (by decide) rfl rfl ?_
  have b2 : (0 : Int) ≤ iI s 16 ∧ iI s 16 ≤ 200 := I.1 16
  refine z_sipush X (show cdA 82 4 = some (.sipush 200, 3, 0, 0, 200) from rfl) ?_
  refine z_icmp_ge X (t := 30) (show cdA 82 7 = some (.if_icmp .ge 23, 3, 3, 0, 0) from rfl) (by decide) (rng_to _) (by decide) (fun g3 => ?_) (fun g3 => ?_)
  ·
    exact w_vret X.1 q hRt (ax_d X (show cdA 82 30 = some (.return_, 1, 0, 0, 0) from rfl)) (Nat.zero_le _) (Nat.zero_le _) ⟨_, rfl, I, F, rfl, trivial⟩
  ·
    refine z_aload_n X (x := A 19) (show cdA 82 10 = some (.aload_n 0, 1, 0, 0, 0) from rfl) (List.Mem.head _) ?_
    refine s_getR X 19 (show cdA 82 11 = some (.getfield 22, 3, 7, 7, 0) from rfl) (by decide) rfl rfl ?_
    refine z_aload_n X (x := A 19) (show cdA 82 14 = some (.aload_n 0, 1, 0, 0, 0) from rfl) (List.Mem.head _) ?_
    refine z_getI X 19 (show cdA 82 15 = some (.getfield 35, 3, 7, 9, 0) from rfl) (by decide) rfl rfl ?_
    have b4 : (0 : Int) ≤ iI s 16 ∧ iI s 16 ≤ 200 := I.1 16
    refine z_load_n X (x := x) (show cdA 82 18 = some (.iload_n 1, 1, 0, 0, 0) from rfl) (List.Mem.tail _ (List.Mem.head _)) ?_
    refine z_ast X 22 (show cdA 82 19 = some (.iastore, 1, 0, 0, 0) from rfl) (by decide) rfl (by first | exact b4.1 | omega) (show (iI s 16) < 200 by first | exact g3 | omega) (by decide) ?_
    obtain ⟨s5, hs5⟩ : ∃ x0, x0 = uC s 18 ((iI s 16)).toNat (Int32.ofInt x) := ⟨_, rfl⟩
    rw [← hs5]
    have Is5 : Bd s5 := by rw [hs5]; exact bd_C I (show ((-2147483648) : Int) ≤ x ∧ x ≤ 2147483647 by first | exact ⟨p0.1, p0.2⟩ | omega) ⟨by first | exact p0.1 | omega, by first | exact p0.2 | omega⟩
    have Fs5 := fm_C (i := ((iI s 16)).toNat) (x := Int32.ofInt x) F (show 18 ∈ _ by decide)
    rw [← hs5] at Fs5
    have ws5_16 : iI s5 16 = iI s 16 := by rw [hs5]; rfl
    refine z_aload_n X (x := A 19) (show cdA 82 20 = some (.aload_n 0, 1, 0, 0, 0) from rfl) (List.Mem.head _) ?_
    refine w_dup X.1 (ax_d X (show cdA 82 21 = some (.dup, 1, 0, 0, 0) from rfl)) rfl ?_
    refine z_getI X 19 (show cdA 82 22 = some (.getfield 35, 3, 7, 9, 0) from rfl) (by decide) rfl rfl ?_
    have b6 : (0 : Int) ≤ iI s5 16 ∧ iI s5 16 ≤ 200 := Is5.1 16
    refine z_const X (show cdA 82 25 = some (.iconst 1, 1, 0, 0, 0) from rfl) ?_
    refine z_add X (show cdA 82 26 = some (.iadd, 1, 0, 0, 0) from rfl) ?_
    refine s_putI X 19 (show cdA 82 27 = some (.putfield 35, 3, 7, 9, 0) from rfl) (by decide) rfl rfl (by decide) rfl rfl rfl ?_
    obtain ⟨s7, hs7⟩ : ∃ x0, x0 = uI s5 16 (Int32.ofInt ((iI s5 16) + 1)) := ⟨_, rfl⟩
    rw [← hs7]
    have Is7 : Bd s7 := by rw [hs7]; exact bd_I Is5 (show (0 : Int) ≤ ((iI s5 16) + 1) ∧ ((iI s5 16) + 1) ≤ 200 by first | exact ⟨oq_54f49eb5 b6.1, oq_c35a0598 ws5_16 g3⟩ | omega) ⟨by first | exact oq_74de1e16 b6.1 | omega, by first | exact oq_bb8d498d b6.2 | omega⟩
    have Fs7 := fm_I (x := Int32.ofInt ((iI s5 16) + 1)) Fs5 (show 16 ∈ _ by decide)
    rw [← hs7] at Fs7
    have vs7 : iI s7 16 = ((iI s5 16) + 1) := by rw [hs7]; exact iI_u ⟨by first | exact oq_74de1e16 b6.1 | omega, by first | exact oq_bb8d498d b6.2 | omega⟩
    exact w_vret X.1 q hRt (ax_d X (show cdA 82 30 = some (.return_, 1, 0, 0, 0) from rfl)) (Nat.zero_le _) (Nat.zero_le _) ⟨_, rfl, Is7, Fs7, rfl, trivial⟩
set_option maxRecDepth 4000 in
theorem c7_enter_19 (G : GX l s0 D tys a0 dT) (I : Bd s) (p0 : iI s 2 ≤ iI s 1) (p1 : iI s 4 ≤ iI s 2) : CT l s0 D A dT 80 (rmN 80) [.ref (A 19)] s (fun o t => Bd t ∧ Fm [2, 4, 6, 5, 7, 8, 19] [] s t ∧ ∃ e, o = .inl (some (.int (Int32.ofInt e))) ∧ rng e ∧ ((e = 0 ∨ (e = 1 ∧ iI s 19 ≤ 5 ∧ iI t 19 = iI s 19 + 1)) ∧ iI t 2 ≤ iI t 1 ∧ iI t 4 ≤ iI t 2)) := by
  refine ct_ofX G (by decide) (Nat.le_of_ble_eq_true rfl) (fun k X E ET hRt hXt q => ?_)
  show WS k 0 [(0, .ref (A 19))] [] _ 0 0
  have F : Fm [2, 4, 6, 5, 7, 8, 19] [] s s := fm_rf _ _ s
  have b1 : (0 : Int) ≤ iI s 2 ∧ iI s 2 ≤ 200 := I.1 2
  have b2 : (0 : Int) ≤ iI s 1 ∧ iI s 1 ≤ 200 := I.1 1
  have b3 : (0 : Int) ≤ iI s 4 ∧ iI s 4 ≤ 200 := I.1 4
  have b4 : ((-3) : Int) ≤ iI s 5 ∧ iI s 5 ≤ 255 := I.1 5
  have b5 : (0 : Int) ≤ iI s 6 ∧ iI s 6 ≤ 100000 := I.1 6
  have b6 : (0 : Int) ≤ iI s 19 ∧ iI s 19 ≤ 6 := I.1 19
  refine z_aload_n X (x := A 19) (show cdA 80 0 = some (.aload_n 0, 1, 0, 0, 0) from rfl) (List.Mem.head _) ?_
  refine z_getI X 19 (show cdA 80 1 = some (.getfield 44, 3, 7, 12, 0) from rfl) (by decide) rfl rfl ?_
  have b7 : (0 : Int) ≤ iI s 19 ∧ iI s 19 ≤ 6 := I.1 19
  refine z_bipush X (show cdA 80 4 = some (.bipush 6, 2, 0, 0, 6) from rfl) ?_
  refine z_icmp_lt X (t := 18) (show cdA 80 6 = some (.if_icmp .lt 12, 3, 2, 0, 0) from rfl) (by decide) (rng_to _) (by decide) (fun g8 => ?_) (fun g8 => ?_)
  ·
    refine z_aload_n X (x := A 19) (show cdA 80 18 = some (.aload_n 0, 1, 0, 0, 0) from rfl) (List.Mem.head _) ?_
    refine w_dup X.1 (ax_d X (show cdA 80 19 = some (.dup, 1, 0, 0, 0) from rfl)) rfl ?_
    refine z_getI X 19 (show cdA 80 20 = some (.getfield 44, 3, 7, 12, 0) from rfl) (by decide) rfl rfl ?_
    have b9 : (0 : Int) ≤ iI s 19 ∧ iI s 19 ≤ 6 := I.1 19
    refine z_const X (show cdA 80 23 = some (.iconst 1, 1, 0, 0, 0) from rfl) ?_
    refine z_add X (show cdA 80 24 = some (.iadd, 1, 0, 0, 0) from rfl) ?_
    refine s_putI X 19 (show cdA 80 25 = some (.putfield 44, 3, 7, 12, 0) from rfl) (by decide) rfl rfl (by decide) rfl rfl rfl ?_
    obtain ⟨s10, hs10⟩ : ∃ x0, x0 = uI s 19 (Int32.ofInt ((iI s 19) + 1)) := ⟨_, rfl⟩
    rw [← hs10]
    have Is10 : Bd s10 := by rw [hs10]; exact bd_I I (show (0 : Int) ≤ ((iI s 19) + 1) ∧ ((iI s 19) + 1) ≤ 6 by first | exact ⟨oq_54f49eb5 b9.1, oq_5bf54478 g8⟩ | omega) ⟨by first | exact oq_74de1e16 b9.1 | omega, by first | exact oq_5fe14c36 b9.2 | omega⟩
    have Fs10 := fm_I (x := Int32.ofInt ((iI s 19) + 1)) F (show 19 ∈ _ by decide)
    rw [← hs10] at Fs10
    have vs10 : iI s10 19 = ((iI s 19) + 1) := by rw [hs10]; exact iI_u ⟨by first | exact oq_74de1e16 b9.1 | omega, by first | exact oq_5fe14c36 b9.2 | omega⟩
    have ws10_2 : iI s10 2 = iI s 2 := by rw [hs10]; rfl
    have ws10_1 : iI s10 1 = iI s 1 := by rw [hs10]; rfl
    have ws10_4 : iI s10 4 = iI s 4 := by rw [hs10]; rfl
    have ws10_5 : iI s10 5 = iI s 5 := by rw [hs10]; rfl
    have ws10_6 : iI s10 6 = iI s 6 := by rw [hs10]; rfl
    refine z_aload_n X (x := A 19) (show cdA 80 28 = some (.aload_n 0, 1, 0, 0, 0) from rfl) (List.Mem.head _) ?_
    refine s_getR X 19 (show cdA 80 29 = some (.getfield 31, 3, 7, 0, 0) from rfl) (by decide) rfl rfl ?_
    refine z_callV X 1 (rm := rmN 129) (As := []) (st := []) (show cdA 80 32 = some (.invokevirtual 85, 3, 129, 0, 0) from rfl) rfl (by decide) rfl (by rw [E.1, E.2.1, E.2.2.1]; exact c10_step_1 G Is10 (by first | exact oq_e7b9ecab ws10_1 ws10_2 p0 | omega)) ⟨by rw [E.2.2.2]; exact (show (rmN 129).frames + 1 ≤ (rmN 80).frames by decide), by rw [E.2.2.2]; exact (show 8 + (mNL (miB 129) + 11) + (rmN 129).locals ≤ (rmN 80).locals by decide), by rw [E.2.2.2]; exact (show 0 + (rmN 129).cells ≤ (rmN 80).cells by decide), by rw [E.2.2.2]; exact (show 0 + (rmN 129).slots ≤ (rmN 80).slots by decide)⟩ (Nat.le_of_ble_eq_true rfl) (fun vv s11 hq => ?_) (fun ee s11 hq => ?_)
    rotate_left
    · obtain ⟨Is11, Fs11, hv, hps11⟩ := hq; cases hv
    obtain ⟨Is11, Fs11, hv, hps11⟩ := hq
    cases hv
    have Gs11 := fm_ts Fs10 Fs11 (by decide) (by decide)
    have b13 : (0 : Int) ≤ iI s11 2 ∧ iI s11 2 ≤ 200 := Is11.1 2
    have ws11_1 : iI s11 1 = iI s10 1 := fm_i Fs11 (by decide)
    have b14 : (0 : Int) ≤ iI s11 4 ∧ iI s11 4 ≤ 200 := Is11.1 4
    have b15 : ((-3) : Int) ≤ iI s11 5 ∧ iI s11 5 ≤ 255 := Is11.1 5
    have b16 : (0 : Int) ≤ iI s11 6 ∧ iI s11 6 ≤ 100000 := Is11.1 6
    have ws11_19 : iI s11 19 = iI s10 19 := fm_i Fs11 (by decide)
    show WS k 35 [(0, .ref (A 19))] [] (Wd A dT s11) 0 0
    refine z_const X (show cdA 80 35 = some (.iconst 1, 1, 0, 0, 0) from rfl) ?_
    exact w_iret X.1 q hRt (nar_ret (by first | exact Or.inr (by decide) | omega)) (ax_d X (show cdA 80 36 = some (.ireturn, 1, 0, 0, 0) from rfl)) (Nat.zero_le _) (Nat.zero_le _) ⟨_, rfl, Is11, Gs11, 1, rfl, (by decide), by first | exact ⟨Or.inr (And.intro (by decide) (And.intro (oq_a4cef127 g8) (oq_4b8d46b3 ws11_19 vs10))), hps11.1, hps11.2⟩ | omega⟩
  ·
    refine z_aload_n X (x := A 19) (show cdA 80 9 = some (.aload_n 0, 1, 0, 0, 0) from rfl) (List.Mem.head _) ?_
    refine s_getR X 19 (show cdA 80 10 = some (.getfield 31, 3, 7, 0, 0) from rfl) (by decide) rfl rfl ?_
    refine z_const X (show cdA 80 13 = some (.iconst 3, 1, 0, 0, 0) from rfl) ?_
    refine z_callV X 1 (rm := rmN 132) (As := [.int (Int32.ofInt 3)]) (st := []) (show cdA 80 14 = some (.invokevirtual 82, 3, 132, 0, 0) from rfl) rfl (by decide) rfl (by rw [E.1, E.2.1, E.2.2.1]; exact c10_refuse_1 G I (by first | exact ⟨by decide, by decide⟩ | omega)) ⟨by rw [E.2.2.2]; exact (show (rmN 132).frames + 1 ≤ (rmN 80).frames by decide), by rw [E.2.2.2]; exact (show 8 + (mNL (miB 132) + 11) + (rmN 132).locals ≤ (rmN 80).locals by decide), by rw [E.2.2.2]; exact (show 0 + (rmN 132).cells ≤ (rmN 80).cells by decide), by rw [E.2.2.2]; exact (show 0 + (rmN 132).slots ≤ (rmN 80).slots by decide)⟩ (Nat.le_of_ble_eq_true rfl) (fun vv s17 hq => ?_) (fun ee s17 hq => ?_)
    rotate_left
    · obtain ⟨Is17, Fs17, e18, hv, hrs17, hps17⟩ := hq; cases hv
    obtain ⟨Is17, Fs17, e18, hv, hrs17, hps17⟩ := hq
    cases hv
    have Gs17 := fm_ts F Fs17 (by decide) (by decide)
    have ws17_2 : iI s17 2 = iI s 2 := fm_i Fs17 (by decide)
    have ws17_1 : iI s17 1 = iI s 1 := fm_i Fs17 (by decide)
    have ws17_4 : iI s17 4 = iI s 4 := fm_i Fs17 (by decide)
    have ws17_5 : iI s17 5 = iI s 5 := fm_i Fs17 (by decide)
    have ws17_6 : iI s17 6 = iI s 6 := fm_i Fs17 (by decide)
    have ws17_19 : iI s17 19 = iI s 19 := fm_i Fs17 (by decide)
    show WS k 17 [(0, .ref (A 19))] [.int (Int32.ofInt e18)] (Wd A dT s17) 0 0
    exact w_iret X.1 q hRt (nar_ret (by first | exact Or.inl (hps17) | omega)) (ax_d X (show cdA 80 17 = some (.ireturn, 1, 0, 0, 0) from rfl)) (Nat.zero_le _) (Nat.zero_le _) ⟨_, rfl, Is17, Gs17, e18, rfl, hrs17, by first | exact ⟨Or.inl (hps17), oq_e7b9ecab ws17_1 ws17_2 p0, oq_e7b9ecab ws17_2 ws17_4 p1⟩ | omega⟩
set_option maxRecDepth 4000 in
theorem c7_pass_19 (G : GX l s0 D tys a0 dT) (I : Bd s) {x : Int} (p0 : rng x) (p1 : iI s 2 ≤ iI s 1) (p2 : iI s 4 ≤ iI s 2) : CT l s0 D A dT 81 (rmN 81) [.ref (A 19), .int (Int32.ofInt x)] s (fun o t => Bd t ∧ Fm [2, 4, 6, 5, 7, 8] [] s t ∧ ∃ e, o = .inl (some (.int (Int32.ofInt e))) ∧ rng e ∧ ((e = 0 ∨ e = 1) ∧ iI t 2 ≤ iI t 1 ∧ iI t 4 ≤ iI t 2)) := by
  refine ct_ofX G (by decide) (Nat.le_of_ble_eq_true rfl) (fun k X E ET hRt hXt q => ?_)
  show WS k 0 [(0, .ref (A 19)), (1, .int (Int32.ofInt x))] [] _ 0 0
  have F : Fm [2, 4, 6, 5, 7, 8] [] s s := fm_rf _ _ s
  have b1 : (0 : Int) ≤ iI s 2 ∧ iI s 2 ≤ 200 := I.1 2
  have b2 : (0 : Int) ≤ iI s 1 ∧ iI s 1 ≤ 200 := I.1 1
  have b3 : (0 : Int) ≤ iI s 4 ∧ iI s 4 ≤ 200 := I.1 4
  have b4 : ((-3) : Int) ≤ iI s 5 ∧ iI s 5 ≤ 255 := I.1 5
  have b5 : (0 : Int) ≤ iI s 6 ∧ iI s 6 ≤ 100000 := I.1 6
  refine z_aload_n X (x := A 19) (show cdA 81 0 = some (.aload_n 0, 1, 0, 0, 0) from rfl) (List.Mem.head _) ?_
  refine s_getR X 19 (show cdA 81 1 = some (.getfield 31, 3, 7, 0, 0) from rfl) (by decide) rfl rfl ?_
  refine z_getI X 1 (show cdA 81 4 = some (.getfield 47, 3, 10, 6, 0) from rfl) (by decide) rfl rfl ?_
  have b6 : ((-3) : Int) ≤ iI s 5 ∧ iI s 5 ≤ 255 := I.1 5
  refine z_load_n X (x := x) (show cdA 81 7 = some (.iload_n 1, 1, 0, 0, 0) from rfl) (List.Mem.tail _ (List.Mem.head _)) ?_
  refine z_icmp_eq X (t := 20) (show cdA 81 8 = some (.if_icmp .eq 12, 3, 0, 0, 0) from rfl) (by decide) (rng_to _) ⟨by first | exact p0.1 | omega, by first | exact p0.2 | omega⟩ (fun g7 => ?_) (fun g7 => ?_)
  ·
    refine z_aload_n X (x := A 19) (show cdA 81 20 = some (.aload_n 0, 1, 0, 0, 0) from rfl) (List.Mem.head _) ?_
    refine s_getR X 19 (show cdA 81 21 = some (.getfield 31, 3, 7, 0, 0) from rfl) (by decide) rfl rfl ?_
    refine z_callV X 1 (rm := rmN 129) (As := []) (st := []) (show cdA 81 24 = some (.invokevirtual 85, 3, 129, 0, 0) from rfl) rfl (by decide) rfl (by rw [E.1, E.2.1, E.2.2.1]; exact c10_step_1 G I (by first | exact p1 | omega)) ⟨by rw [E.2.2.2]; exact (show (rmN 129).frames + 1 ≤ (rmN 81).frames by decide), by rw [E.2.2.2]; exact (show 8 + (mNL (miB 129) + 11) + (rmN 129).locals ≤ (rmN 81).locals by decide), by rw [E.2.2.2]; exact (show 0 + (rmN 129).cells ≤ (rmN 81).cells by decide), by rw [E.2.2.2]; exact (show 0 + (rmN 129).slots ≤ (rmN 81).slots by decide)⟩ (Nat.le_of_ble_eq_true rfl) (fun vv s8 hq => ?_) (fun ee s8 hq => ?_)
    rotate_left
    · obtain ⟨Is8, Fs8, hv, hps8⟩ := hq; cases hv
    obtain ⟨Is8, Fs8, hv, hps8⟩ := hq
    cases hv
    have Gs8 := fm_ts F Fs8 (by decide) (by decide)
    have b10 : (0 : Int) ≤ iI s8 2 ∧ iI s8 2 ≤ 200 := Is8.1 2
    have ws8_1 : iI s8 1 = iI s 1 := fm_i Fs8 (by decide)
    have b11 : (0 : Int) ≤ iI s8 4 ∧ iI s8 4 ≤ 200 := Is8.1 4
    have b12 : ((-3) : Int) ≤ iI s8 5 ∧ iI s8 5 ≤ 255 := Is8.1 5
    have b13 : (0 : Int) ≤ iI s8 6 ∧ iI s8 6 ≤ 100000 := Is8.1 6
    show WS k 27 [(0, .ref (A 19)), (1, .int (Int32.ofInt x))] [] (Wd A dT s8) 0 0
    refine z_const X (show cdA 81 27 = some (.iconst 1, 1, 0, 0, 0) from rfl) ?_
    exact w_iret X.1 q hRt (nar_ret (by first | exact Or.inr (by decide) | omega)) (ax_d X (show cdA 81 28 = some (.ireturn, 1, 0, 0, 0) from rfl)) (Nat.zero_le _) (Nat.zero_le _) ⟨_, rfl, Is8, Gs8, 1, rfl, (by decide), by first | exact ⟨Or.inr (by decide), hps8.1, hps8.2⟩ | omega⟩
  ·
    refine z_aload_n X (x := A 19) (show cdA 81 11 = some (.aload_n 0, 1, 0, 0, 0) from rfl) (List.Mem.head _) ?_
    refine s_getR X 19 (show cdA 81 12 = some (.getfield 31, 3, 7, 0, 0) from rfl) (by decide) rfl rfl ?_
    refine z_const X (show cdA 81 15 = some (.iconst 1, 1, 0, 0, 0) from rfl) ?_
    refine z_callV X 1 (rm := rmN 132) (As := [.int (Int32.ofInt 1)]) (st := []) (show cdA 81 16 = some (.invokevirtual 82, 3, 132, 0, 0) from rfl) rfl (by decide) rfl (by rw [E.1, E.2.1, E.2.2.1]; exact c10_refuse_1 G I (by first | exact ⟨by decide, by decide⟩ | omega)) ⟨by rw [E.2.2.2]; exact (show (rmN 132).frames + 1 ≤ (rmN 81).frames by decide), by rw [E.2.2.2]; exact (show 8 + (mNL (miB 132) + 11) + (rmN 132).locals ≤ (rmN 81).locals by decide), by rw [E.2.2.2]; exact (show 0 + (rmN 132).cells ≤ (rmN 81).cells by decide), by rw [E.2.2.2]; exact (show 0 + (rmN 132).slots ≤ (rmN 81).slots by decide)⟩ (Nat.le_of_ble_eq_true rfl) (fun vv s14 hq => ?_) (fun ee s14 hq => ?_)
    rotate_left
    · obtain ⟨Is14, Fs14, e15, hv, hrs14, hps14⟩ := hq; cases hv
    obtain ⟨Is14, Fs14, e15, hv, hrs14, hps14⟩ := hq
    cases hv
    have Gs14 := fm_ts F Fs14 (by decide) (by decide)
    have ws14_2 : iI s14 2 = iI s 2 := fm_i Fs14 (by decide)
    have ws14_1 : iI s14 1 = iI s 1 := fm_i Fs14 (by decide)
    have ws14_4 : iI s14 4 = iI s 4 := fm_i Fs14 (by decide)
    have ws14_5 : iI s14 5 = iI s 5 := fm_i Fs14 (by decide)
    have ws14_6 : iI s14 6 = iI s 6 := fm_i Fs14 (by decide)
    show WS k 19 [(0, .ref (A 19)), (1, .int (Int32.ofInt x))] [.int (Int32.ofInt e15)] (Wd A dT s14) 0 0
    exact w_iret X.1 q hRt (nar_ret (by first | exact Or.inl (hps14) | omega)) (ax_d X (show cdA 81 19 = some (.ireturn, 1, 0, 0, 0) from rfl)) (Nat.zero_le _) (Nat.zero_le _) ⟨_, rfl, Is14, Gs14, e15, rfl, hrs14, by first | exact ⟨Or.inl (hps14), oq_e7b9ecab ws14_1 ws14_2 p1, oq_e7b9ecab ws14_2 ws14_4 p2⟩ | omega⟩
set_option maxRecDepth 4000 in
theorem c7_codeOfName_19 (G : GX l s0 D tys a0 dT) (SF : SF0 s0) (GT : TXs0 s0) (I : Bd s) (p0 : iI s 2 ≤ iI s 1) (p1 : iI s 4 ≤ iI s 2) : CT l s0 D A dT 79 (rmN 79) [.ref (A 19)] s (fun o t => Bd t ∧ Fm [] [] s t ∧ ∃ e, o = .inl (some (.int (Int32.ofInt e))) ∧ rng e ∧ (-20 ≤ e ∧ e ≤ -1)) := by
  refine ct_ofX G (by decide) (Nat.le_of_ble_eq_true rfl) (fun k X E ET hRt hXt q => ?_)
  show WS k 0 [(0, .ref (A 19))] [] _ 0 0
  have F : Fm [] [] s s := fm_rf _ _ s
  have b1 : (0 : Int) ≤ iI s 2 ∧ iI s 2 ≤ 200 := I.1 2
  have b2 : (0 : Int) ≤ iI s 1 ∧ iI s 1 ≤ 200 := I.1 1
  have b3 : (0 : Int) ≤ iI s 4 ∧ iI s 4 ≤ 200 := I.1 4
  have b4 : ((-3) : Int) ≤ iI s 5 ∧ iI s 5 ≤ 255 := I.1 5
  have b5 : (0 : Int) ≤ iI s 6 ∧ iI s 6 ≤ 100000 := I.1 6
  refine z_aload_n X (x := A 19) (show cdA 79 0 = some (.aload_n 0, 1, 0, 0, 0) from rfl) (List.Mem.head _) ?_
  refine s_getR X 19 (show cdA 79 1 = some (.getfield 31, 3, 7, 0, 0) from rfl) (by decide) rfl rfl ?_
  obtain ⟨tx136, q136, hR136, hS136⟩ := GT (136, 4) (by decide)
  refine w_ldcK X (show vk_R (kOwn k) 136 tx136 q136 (kS0 k) by rw [E.2.1, X.2.1.2.1]; exact hR136) (show decode (kCc k) 4 = .ok (.ldc 136, 2) by rw [X.2.1.1]; decide +kernel) ?_
  refine z_callV X 1 (rm := rmN 131) (As := [.ref q136]) (st := []) (show cdA 79 6 = some (.invokevirtual 76, 3, 131, 0, 0) from rfl) rfl (by decide) rfl (by rw [E.1, E.2.1, E.2.2.1]; exact c10_says G SF hS136 I (by first | exact p1 | omega)) ⟨by rw [E.2.2.2]; exact (show (rmN 131).frames + 1 ≤ (rmN 79).frames by decide), by rw [E.2.2.2]; exact (show 8 + (mNL (miB 131) + 11) + (rmN 131).locals ≤ (rmN 79).locals by decide), by rw [E.2.2.2]; exact (show 0 + (rmN 131).cells ≤ (rmN 79).cells by decide), by rw [E.2.2.2]; exact (show 0 + (rmN 131).slots ≤ (rmN 79).slots by decide)⟩ (Nat.le_of_ble_eq_true rfl) (fun vv s6 hq => ?_) (fun ee s6 hq => ?_)
  rotate_left
  · obtain ⟨Is6, Fs6, e7, hv, hrs6, hps6⟩ := hq; cases hv
  obtain ⟨Is6, Fs6, e7, hv, hrs6, hps6⟩ := hq
  cases hv
  have Gs6 := fm_ts F Fs6 (by decide) (by decide)
  have ws6_2 : iI s6 2 = iI s 2 := fm_i Fs6 (by decide)
  have ws6_1 : iI s6 1 = iI s 1 := fm_i Fs6 (by decide)
  have ws6_4 : iI s6 4 = iI s 4 := fm_i Fs6 (by decide)
  have ws6_5 : iI s6 5 = iI s 5 := fm_i Fs6 (by decide)
  have ws6_6 : iI s6 6 = iI s 6 := fm_i Fs6 (by decide)
  show WS k 9 [(0, .ref (A 19))] [.int (Int32.ofInt e7)] (Wd A dT s6) 0 0
  refine z_if_eq X (t := 16) (show cdA 79 9 = some (.ifCond .eq 7, 3, 0, 0, 0) from rfl) (by decide) hrs6 (fun g8 => ?_) (fun g8 => ?_)
  ·
    refine z_aload_n X (x := A 19) (show cdA 79 16 = some (.aload_n 0, 1, 0, 0, 0) from rfl) (List.Mem.head _) ?_
    refine s_getR X 19 (show cdA 79 17 = some (.getfield 31, 3, 7, 0, 0) from rfl) (by decide) rfl rfl ?_
    obtain ⟨tx138, q138, hR138, hS138⟩ := GT (138, 5) (by decide)
    refine w_ldcK X (show vk_R (kOwn k) 138 tx138 q138 (kS0 k) by rw [E.2.1, X.2.1.2.1]; exact hR138) (show decode (kCc k) 20 = .ok (.ldc 138, 2) by rw [X.2.1.1]; decide +kernel) ?_
    refine z_callV X 1 (rm := rmN 131) (As := [.ref q138]) (st := []) (show cdA 79 22 = some (.invokevirtual 76, 3, 131, 0, 0) from rfl) rfl (by decide) rfl (by rw [E.1, E.2.1, E.2.2.1]; exact c10_says G SF hS138 Is6 (by first | exact oq_e7b9ecab ws6_2 ws6_4 p1 | omega)) ⟨by rw [E.2.2.2]; exact (show (rmN 131).frames + 1 ≤ (rmN 79).frames by decide), by rw [E.2.2.2]; exact (show 8 + (mNL (miB 131) + 11) + (rmN 131).locals ≤ (rmN 79).locals by decide), by rw [E.2.2.2]; exact (show 0 + (rmN 131).cells ≤ (rmN 79).cells by decide), by rw [E.2.2.2]; exact (show 0 + (rmN 131).slots ≤ (rmN 79).slots by decide)⟩ (Nat.le_of_ble_eq_true rfl) (fun vv s9 hq => ?_) (fun ee s9 hq => ?_)
    rotate_left
    · obtain ⟨Is9, Fs9, e10, hv, hrs9, hps9⟩ := hq; cases hv
    obtain ⟨Is9, Fs9, e10, hv, hrs9, hps9⟩ := hq
    cases hv
    have Gs9 := fm_ts Gs6 Fs9 (by decide) (by decide)
    have ws9_2 : iI s9 2 = iI s6 2 := fm_i Fs9 (by decide)
    have ws9_1 : iI s9 1 = iI s6 1 := fm_i Fs9 (by decide)
    have ws9_4 : iI s9 4 = iI s6 4 := fm_i Fs9 (by decide)
    have ws9_5 : iI s9 5 = iI s6 5 := fm_i Fs9 (by decide)
    have ws9_6 : iI s9 6 = iI s6 6 := fm_i Fs9 (by decide)
    show WS k 25 [(0, .ref (A 19))] [.int (Int32.ofInt e10)] (Wd A dT s9) 0 0
    refine z_if_eq X (t := 33) (show cdA 79 25 = some (.ifCond .eq 8, 3, 0, 0, 0) from rfl) (by decide) hrs9 (fun g11 => ?_) (fun g11 => ?_)
    ·
      refine z_aload_n X (x := A 19) (show cdA 79 33 = some (.aload_n 0, 1, 0, 0, 0) from rfl) (List.Mem.head _) ?_
      refine s_getR X 19 (show cdA 79 34 = some (.getfield 31, 3, 7, 0, 0) from rfl) (by decide) rfl rfl ?_
      obtain ⟨tx140, q140, hR140, hS140⟩ := GT (140, 4) (by decide)
      refine w_ldcK X (show vk_R (kOwn k) 140 tx140 q140 (kS0 k) by rw [E.2.1, X.2.1.2.1]; exact hR140) (show decode (kCc k) 37 = .ok (.ldc 140, 2) by rw [X.2.1.1]; decide +kernel) ?_
      refine z_callV X 1 (rm := rmN 131) (As := [.ref q140]) (st := []) (show cdA 79 39 = some (.invokevirtual 76, 3, 131, 0, 0) from rfl) rfl (by decide) rfl (by rw [E.1, E.2.1, E.2.2.1]; exact c10_says G SF hS140 Is9 (by first | exact oq_4407eb3c ws9_2 ws9_4 ws6_2 ws6_4 p1 | omega)) ⟨by rw [E.2.2.2]; exact (show (rmN 131).frames + 1 ≤ (rmN 79).frames by decide), by rw [E.2.2.2]; exact (show 8 + (mNL (miB 131) + 11) + (rmN 131).locals ≤ (rmN 79).locals by decide), by rw [E.2.2.2]; exact (show 0 + (rmN 131).cells ≤ (rmN 79).cells by decide), by rw [E.2.2.2]; exact (show 0 + (rmN 131).slots ≤ (rmN 79).slots by decide)⟩ (Nat.le_of_ble_eq_true rfl) (fun vv s12 hq => ?_) (fun ee s12 hq => ?_)
      rotate_left
      · obtain ⟨Is12, Fs12, e13, hv, hrs12, hps12⟩ := hq; cases hv
      obtain ⟨Is12, Fs12, e13, hv, hrs12, hps12⟩ := hq
      cases hv
      have Gs12 := fm_ts Gs9 Fs12 (by decide) (by decide)
      have ws12_2 : iI s12 2 = iI s9 2 := fm_i Fs12 (by decide)
      have ws12_1 : iI s12 1 = iI s9 1 := fm_i Fs12 (by decide)
      have ws12_4 : iI s12 4 = iI s9 4 := fm_i Fs12 (by decide)
      have ws12_5 : iI s12 5 = iI s9 5 := fm_i Fs12 (by decide)
      have ws12_6 : iI s12 6 = iI s9 6 := fm_i Fs12 (by decide)
      show WS k 42 [(0, .ref (A 19))] [.int (Int32.ofInt e13)] (Wd A dT s12) 0 0
      refine z_if_eq X (t := 50) (show cdA 79 42 = some (.ifCond .eq 8, 3, 0, 0, 0) from rfl) (by decide) hrs12 (fun g14 => ?_) (fun g14 => ?_)
      ·
        refine z_aload_n X (x := A 19) (show cdA 79 50 = some (.aload_n 0, 1, 0, 0, 0) from rfl) (List.Mem.head _) ?_
        refine s_getR X 19 (show cdA 79 51 = some (.getfield 31, 3, 7, 0, 0) from rfl) (by decide) rfl rfl ?_
        obtain ⟨tx142, q142, hR142, hS142⟩ := GT (142, 5) (by decide)
        refine w_ldcK X (show vk_R (kOwn k) 142 tx142 q142 (kS0 k) by rw [E.2.1, X.2.1.2.1]; exact hR142) (show decode (kCc k) 54 = .ok (.ldc 142, 2) by rw [X.2.1.1]; decide +kernel) ?_
        refine z_callV X 1 (rm := rmN 131) (As := [.ref q142]) (st := []) (show cdA 79 56 = some (.invokevirtual 76, 3, 131, 0, 0) from rfl) rfl (by decide) rfl (by rw [E.1, E.2.1, E.2.2.1]; exact c10_says G SF hS142 Is12 (by first | exact oq_7f1a346e ws12_4 ws12_2 ws9_4 ws9_2 ws6_4 ws6_2 p1 | omega)) ⟨by rw [E.2.2.2]; exact (show (rmN 131).frames + 1 ≤ (rmN 79).frames by decide), by rw [E.2.2.2]; exact (show 8 + (mNL (miB 131) + 11) + (rmN 131).locals ≤ (rmN 79).locals by decide), by rw [E.2.2.2]; exact (show 0 + (rmN 131).cells ≤ (rmN 79).cells by decide), by rw [E.2.2.2]; exact (show 0 + (rmN 131).slots ≤ (rmN 79).slots by decide)⟩ (Nat.le_of_ble_eq_true rfl) (fun vv s15 hq => ?_) (fun ee s15 hq => ?_)
        rotate_left
        · obtain ⟨Is15, Fs15, e16, hv, hrs15, hps15⟩ := hq; cases hv
        obtain ⟨Is15, Fs15, e16, hv, hrs15, hps15⟩ := hq
        cases hv
        have Gs15 := fm_ts Gs12 Fs15 (by decide) (by decide)
        have ws15_2 : iI s15 2 = iI s12 2 := fm_i Fs15 (by decide)
        have ws15_1 : iI s15 1 = iI s12 1 := fm_i Fs15 (by decide)
        have ws15_4 : iI s15 4 = iI s12 4 := fm_i Fs15 (by decide)
        have ws15_5 : iI s15 5 = iI s12 5 := fm_i Fs15 (by decide)
        have ws15_6 : iI s15 6 = iI s12 6 := fm_i Fs15 (by decide)
        show WS k 59 [(0, .ref (A 19))] [.int (Int32.ofInt e16)] (Wd A dT s15) 0 0
        refine z_if_eq X (t := 67) (show cdA 79 59 = some (.ifCond .eq 8, 3, 0, 0, 0) from rfl) (by decide) hrs15 (fun g17 => ?_) (fun g17 => ?_)
        ·
          refine z_aload_n X (x := A 19) (show cdA 79 67 = some (.aload_n 0, 1, 0, 0, 0) from rfl) (List.Mem.head _) ?_
          refine s_getR X 19 (show cdA 79 68 = some (.getfield 31, 3, 7, 0, 0) from rfl) (by decide) rfl rfl ?_
          obtain ⟨tx144, q144, hR144, hS144⟩ := GT (144, 5) (by decide)
          refine w_ldcK X (show vk_R (kOwn k) 144 tx144 q144 (kS0 k) by rw [E.2.1, X.2.1.2.1]; exact hR144) (show decode (kCc k) 71 = .ok (.ldc 144, 2) by rw [X.2.1.1]; decide +kernel) ?_
          refine z_callV X 1 (rm := rmN 131) (As := [.ref q144]) (st := []) (show cdA 79 73 = some (.invokevirtual 76, 3, 131, 0, 0) from rfl) rfl (by decide) rfl (by rw [E.1, E.2.1, E.2.2.1]; exact c10_says G SF hS144 Is15 (by first | exact oq_969cff60 ws15_4 ws15_2 ws12_4 ws12_2 ws9_4 ws9_2 ws6_4 ws6_2 p1 | omega)) ⟨by rw [E.2.2.2]; exact (show (rmN 131).frames + 1 ≤ (rmN 79).frames by decide), by rw [E.2.2.2]; exact (show 8 + (mNL (miB 131) + 11) + (rmN 131).locals ≤ (rmN 79).locals by decide), by rw [E.2.2.2]; exact (show 0 + (rmN 131).cells ≤ (rmN 79).cells by decide), by rw [E.2.2.2]; exact (show 0 + (rmN 131).slots ≤ (rmN 79).slots by decide)⟩ (Nat.le_of_ble_eq_true rfl) (fun vv s18 hq => ?_) (fun ee s18 hq => ?_)
          rotate_left
          · obtain ⟨Is18, Fs18, e19, hv, hrs18, hps18⟩ := hq; cases hv
          obtain ⟨Is18, Fs18, e19, hv, hrs18, hps18⟩ := hq
          cases hv
          have Gs18 := fm_ts Gs15 Fs18 (by decide) (by decide)
          have ws18_2 : iI s18 2 = iI s15 2 := fm_i Fs18 (by decide)
          have ws18_1 : iI s18 1 = iI s15 1 := fm_i Fs18 (by decide)
          have ws18_4 : iI s18 4 = iI s15 4 := fm_i Fs18 (by decide)
          have ws18_5 : iI s18 5 = iI s15 5 := fm_i Fs18 (by decide)
          have ws18_6 : iI s18 6 = iI s15 6 := fm_i Fs18 (by decide)
          show WS k 76 [(0, .ref (A 19))] [.int (Int32.ofInt e19)] (Wd A dT s18) 0 0
          refine z_if_eq X (t := 84) (show cdA 79 76 = some (.ifCond .eq 8, 3, 0, 0, 0) from rfl) (by decide) hrs18 (fun g20 => ?_) (fun g20 => ?_)
          ·
            refine z_aload_n X (x := A 19) (show cdA 79 84 = some (.aload_n 0, 1, 0, 0, 0) from rfl) (List.Mem.head _) ?_
            refine s_getR X 19 (show cdA 79 85 = some (.getfield 31, 3, 7, 0, 0) from rfl) (by decide) rfl rfl ?_
            obtain ⟨tx146, q146, hR146, hS146⟩ := GT (146, 3) (by decide)
            refine w_ldcK X (show vk_R (kOwn k) 146 tx146 q146 (kS0 k) by rw [E.2.1, X.2.1.2.1]; exact hR146) (show decode (kCc k) 88 = .ok (.ldc 146, 2) by rw [X.2.1.1]; decide +kernel) ?_
            refine z_callV X 1 (rm := rmN 131) (As := [.ref q146]) (st := []) (show cdA 79 90 = some (.invokevirtual 76, 3, 131, 0, 0) from rfl) rfl (by decide) rfl (by rw [E.1, E.2.1, E.2.2.1]; exact c10_says G SF hS146 Is18 (by first | exact oq_31bdcab7 ws18_4 ws18_2 ws15_4 ws15_2 ws12_4 ws12_2 ws9_4 ws9_2 ws6_4 ws6_2 p1 | omega)) ⟨by rw [E.2.2.2]; exact (show (rmN 131).frames + 1 ≤ (rmN 79).frames by decide), by rw [E.2.2.2]; exact (show 8 + (mNL (miB 131) + 11) + (rmN 131).locals ≤ (rmN 79).locals by decide), by rw [E.2.2.2]; exact (show 0 + (rmN 131).cells ≤ (rmN 79).cells by decide), by rw [E.2.2.2]; exact (show 0 + (rmN 131).slots ≤ (rmN 79).slots by decide)⟩ (Nat.le_of_ble_eq_true rfl) (fun vv s21 hq => ?_) (fun ee s21 hq => ?_)
            rotate_left
            · obtain ⟨Is21, Fs21, e22, hv, hrs21, hps21⟩ := hq; cases hv
            obtain ⟨Is21, Fs21, e22, hv, hrs21, hps21⟩ := hq
            cases hv
            have Gs21 := fm_ts Gs18 Fs21 (by decide) (by decide)
            have ws21_2 : iI s21 2 = iI s18 2 := fm_i Fs21 (by decide)
            have ws21_1 : iI s21 1 = iI s18 1 := fm_i Fs21 (by decide)
            have ws21_4 : iI s21 4 = iI s18 4 := fm_i Fs21 (by decide)
            have ws21_5 : iI s21 5 = iI s18 5 := fm_i Fs21 (by decide)
            have ws21_6 : iI s21 6 = iI s18 6 := fm_i Fs21 (by decide)
            show WS k 93 [(0, .ref (A 19))] [.int (Int32.ofInt e22)] (Wd A dT s21) 0 0
            refine z_if_eq X (t := 101) (show cdA 79 93 = some (.ifCond .eq 8, 3, 0, 0, 0) from rfl) (by decide) hrs21 (fun g23 => ?_) (fun g23 => ?_)
            ·
              refine z_aload_n X (x := A 19) (show cdA 79 101 = some (.aload_n 0, 1, 0, 0, 0) from rfl) (List.Mem.head _) ?_
              refine s_getR X 19 (show cdA 79 102 = some (.getfield 31, 3, 7, 0, 0) from rfl) (by decide) rfl rfl ?_
              obtain ⟨tx148, q148, hR148, hS148⟩ := GT (148, 6) (by decide)
              refine w_ldcK X (show vk_R (kOwn k) 148 tx148 q148 (kS0 k) by rw [E.2.1, X.2.1.2.1]; exact hR148) (show decode (kCc k) 105 = .ok (.ldc 148, 2) by rw [X.2.1.1]; decide +kernel) ?_
              refine z_callV X 1 (rm := rmN 131) (As := [.ref q148]) (st := []) (show cdA 79 107 = some (.invokevirtual 76, 3, 131, 0, 0) from rfl) rfl (by decide) rfl (by rw [E.1, E.2.1, E.2.2.1]; exact c10_says G SF hS148 Is21 (by first | exact oq_671a0eb2 ws21_4 ws21_2 ws18_4 ws18_2 ws15_4 ws15_2 ws12_4 ws12_2 ws9_4 ws9_2 ws6_4 ws6_2 p1 | omega)) ⟨by rw [E.2.2.2]; exact (show (rmN 131).frames + 1 ≤ (rmN 79).frames by decide), by rw [E.2.2.2]; exact (show 8 + (mNL (miB 131) + 11) + (rmN 131).locals ≤ (rmN 79).locals by decide), by rw [E.2.2.2]; exact (show 0 + (rmN 131).cells ≤ (rmN 79).cells by decide), by rw [E.2.2.2]; exact (show 0 + (rmN 131).slots ≤ (rmN 79).slots by decide)⟩ (Nat.le_of_ble_eq_true rfl) (fun vv s24 hq => ?_) (fun ee s24 hq => ?_)
              rotate_left
              · obtain ⟨Is24, Fs24, e25, hv, hrs24, hps24⟩ := hq; cases hv
              obtain ⟨Is24, Fs24, e25, hv, hrs24, hps24⟩ := hq
              cases hv
              have Gs24 := fm_ts Gs21 Fs24 (by decide) (by decide)
              have ws24_2 : iI s24 2 = iI s21 2 := fm_i Fs24 (by decide)
              have ws24_1 : iI s24 1 = iI s21 1 := fm_i Fs24 (by decide)
              have ws24_4 : iI s24 4 = iI s21 4 := fm_i Fs24 (by decide)
              have ws24_5 : iI s24 5 = iI s21 5 := fm_i Fs24 (by decide)
              have ws24_6 : iI s24 6 = iI s21 6 := fm_i Fs24 (by decide)
              show WS k 110 [(0, .ref (A 19))] [.int (Int32.ofInt e25)] (Wd A dT s24) 0 0
              have N26 : ∀ e27 : Int, (((e25 = 0) ∧ e27 = (-20)) ∨ ((e25 ≠ 0) ∧ e27 = (-7))) → WS k 120 [(0, .ref (A 19))] [.int (Int32.ofInt e27)] (Wd A dT s24) 0 0 := by
                intro e27 he27
                have re27 : (-20) ≤ e27 ∧ e27 ≤ (-7) := by omega
                exact w_iret X.1 q hRt rfl (ax_d X (show cdA 79 120 = some (.ireturn, 1, 0, 0, 0) from rfl)) (Nat.zero_le _) (Nat.zero_le _) ⟨_, rfl, Is24, Gs24, e27, rfl, ⟨by first | exact oq_e12b0ae3 re27.1 | omega, by first | exact oq_6c09ee19 re27.2 | omega⟩, by first | exact ⟨re27.1, oq_f1d7362c re27.2⟩ | omega⟩
              refine z_if_eq X (t := 118) (show cdA 79 110 = some (.ifCond .eq 8, 3, 0, 0, 0) from rfl) (by decide) hrs24 (fun g28 => ?_) (fun g28 => ?_)
              ·
                refine z_bipush X (show cdA 79 118 = some (.bipush (-20), 2, 0, 0, (-20)) from rfl) ?_
                exact N26 _ (Or.inl ⟨g28, rfl⟩)
              ·
                refine z_bipush X (show cdA 79 113 = some (.bipush (-7), 2, 0, 0, (-7)) from rfl) ?_
                refine z_goto X (t := 120) (show cdA 79 115 = some (.goto 5, 3, 0, 0, 0) from rfl) (by decide) ?_
                exact N26 _ (Or.inr (⟨g28, rfl⟩))
            ·
              refine z_bipush X (show cdA 79 96 = some (.bipush (-6), 2, 0, 0, (-6)) from rfl) ?_
              refine z_goto X (t := 120) (show cdA 79 98 = some (.goto 22, 3, 0, 0, 0) from rfl) (by decide) ?_
              exact w_iret X.1 q hRt rfl (ax_d X (show cdA 79 120 = some (.ireturn, 1, 0, 0, 0) from rfl)) (Nat.zero_le _) (Nat.zero_le _) ⟨_, rfl, Is21, Gs21, (-6), rfl, (by decide), by first | exact ⟨by decide, by decide⟩ | omega⟩
          ·
            refine z_bipush X (show cdA 79 79 = some (.bipush (-5), 2, 0, 0, (-5)) from rfl) ?_
            refine z_goto X (t := 120) (show cdA 79 81 = some (.goto 39, 3, 0, 0, 0) from rfl) (by decide) ?_
            exact w_iret X.1 q hRt rfl (ax_d X (show cdA 79 120 = some (.ireturn, 1, 0, 0, 0) from rfl)) (Nat.zero_le _) (Nat.zero_le _) ⟨_, rfl, Is18, Gs18, (-5), rfl, (by decide), by first | exact ⟨by decide, by decide⟩ | omega⟩
        ·
          refine z_bipush X (show cdA 79 62 = some (.bipush (-4), 2, 0, 0, (-4)) from rfl) ?_
          refine z_goto X (t := 120) (show cdA 79 64 = some (.goto 56, 3, 0, 0, 0) from rfl) (by decide) ?_
          exact w_iret X.1 q hRt rfl (ax_d X (show cdA 79 120 = some (.ireturn, 1, 0, 0, 0) from rfl)) (Nat.zero_le _) (Nat.zero_le _) ⟨_, rfl, Is15, Gs15, (-4), rfl, (by decide), by first | exact ⟨by decide, by decide⟩ | omega⟩
      ·
        refine z_bipush X (show cdA 79 45 = some (.bipush (-3), 2, 0, 0, (-3)) from rfl) ?_
        refine z_goto X (t := 120) (show cdA 79 47 = some (.goto 73, 3, 0, 0, 0) from rfl) (by decide) ?_
        exact w_iret X.1 q hRt rfl (ax_d X (show cdA 79 120 = some (.ireturn, 1, 0, 0, 0) from rfl)) (Nat.zero_le _) (Nat.zero_le _) ⟨_, rfl, Is12, Gs12, (-3), rfl, (by decide), by first | exact ⟨by decide, by decide⟩ | omega⟩
    ·
      refine z_bipush X (show cdA 79 28 = some (.bipush (-2), 2, 0, 0, (-2)) from rfl) ?_
      refine z_goto X (t := 120) (show cdA 79 30 = some (.goto 90, 3, 0, 0, 0) from rfl) (by decide) ?_
      exact w_iret X.1 q hRt rfl (ax_d X (show cdA 79 120 = some (.ireturn, 1, 0, 0, 0) from rfl)) (Nat.zero_le _) (Nat.zero_le _) ⟨_, rfl, Is9, Gs9, (-2), rfl, (by decide), by first | exact ⟨by decide, by decide⟩ | omega⟩
  ·
    refine z_const X (show cdA 79 12 = some (.iconst (-1), 1, 0, 0, 0) from rfl) ?_
    refine z_goto X (t := 120) (show cdA 79 13 = some (.goto 107, 3, 0, 0, 0) from rfl) (by decide) ?_
    exact w_iret X.1 q hRt rfl (ax_d X (show cdA 79 120 = some (.ireturn, 1, 0, 0, 0) from rfl)) (Nat.zero_le _) (Nat.zero_le _) ⟨_, rfl, Is6, Gs6, (-1), rfl, (by decide), by first | exact ⟨by decide, by decide⟩ | omega⟩
set_option maxRecDepth 4000 in
theorem c7_two0 (G : GX l s0 D tys a0 dT) (SF : SF0 s0) (GT : TXs0 s0) (I : Bd s) {x : Int} (p0 : rng x) (p1 : iI s 2 ≤ iI s 1) (p2 : iI s 4 ≤ iI s 2) (p3 : 6 - iI s 19 ≤ ((0 : Nat) : Int)) : CT l s0 D A dT 78 (rkR (4 * (0))) [.ref (A 19), .int (Int32.ofInt x)] s (fun o t => Bd t ∧ Fm [2, 4, 6, 5, 7, 8, 19, 16] [18] s t ∧ ∃ e, o = .inl (some (.int (Int32.ofInt e))) ∧ rng e ∧ ((e = 0 ∨ (e = 1 ∧ iI t 19 = iI s 19)) ∧ iI t 2 ≤ iI t 1 ∧ iI t 4 ≤ iI t 2)) := by
  refine ct_ofX G (by decide) (Nat.le_of_ble_eq_true rfl) (fun k X E ET hRt hXt q => ?_)
  show WS k 0 [(0, .ref (A 19)), (1, .int (Int32.ofInt x))] [] _ 0 0
  have F : Fm [2, 4, 6, 5, 7, 8, 19, 16] [18] s s := fm_rf _ _ s
  have b1 : (0 : Int) ≤ iI s 2 ∧ iI s 2 ≤ 200 := I.1 2
  have b2 : (0 : Int) ≤ iI s 1 ∧ iI s 1 ≤ 200 := I.1 1
  have b3 : (0 : Int) ≤ iI s 4 ∧ iI s 4 ≤ 200 := I.1 4
  have b4 : ((-3) : Int) ≤ iI s 5 ∧ iI s 5 ≤ 255 := I.1 5
  have b5 : (0 : Int) ≤ iI s 6 ∧ iI s 6 ≤ 100000 := I.1 6
  have b6 : (0 : Int) ≤ iI s 19 ∧ iI s 19 ≤ 6 := I.1 19
  have b7 : (0 : Int) ≤ iI s 16 ∧ iI s 16 ≤ 200 := I.1 16
  refine z_aload_n X (x := A 19) (show cdA 78 0 = some (.aload_n 0, 1, 0, 0, 0) from rfl) (List.Mem.head _) ?_
  refine s_getR X 19 (show cdA 78 1 = some (.getfield 31, 3, 7, 0, 0) from rfl) (by decide) rfl rfl ?_
  refine z_callV X 1 (rm := rmN 129) (As := []) (st := []) (show cdA 78 4 = some (.invokevirtual 85, 3, 129, 0, 0) from rfl) rfl (by decide) rfl (by rw [E.1, E.2.1, E.2.2.1]; exact c10_step_1 G I (by first | exact p1 | omega)) ⟨by rw [E.2.2.2]; exact (show 7 + 1 ≤ (12 + (4 * (0))) from oq_e494e03c), by rw [E.2.2.2]; exact (show 8 + (1 + 11) + 121 ≤ (500 + 45 * (4 * (0))) from oq_635cae36), by rw [E.2.2.2]; exact Nat.le_refl 0, by rw [E.2.2.2]; exact Nat.le_refl 0⟩ (Nat.le_of_ble_eq_true rfl) (fun vv s8 hq => ?_) (fun ee s8 hq => ?_)
  rotate_left
  · obtain ⟨Is8, Fs8, hv, hps8⟩ := hq; cases hv
  obtain ⟨Is8, Fs8, hv, hps8⟩ := hq
  cases hv
  have Gs8 := fm_ts F Fs8 (by decide) (by decide)
  have b10 : (0 : Int) ≤ iI s8 2 ∧ iI s8 2 ≤ 200 := Is8.1 2
  have ws8_1 : iI s8 1 = iI s 1 := fm_i Fs8 (by decide)
  have b11 : (0 : Int) ≤ iI s8 4 ∧ iI s8 4 ≤ 200 := Is8.1 4
  have b12 : ((-3) : Int) ≤ iI s8 5 ∧ iI s8 5 ≤ 255 := Is8.1 5
  have b13 : (0 : Int) ≤ iI s8 6 ∧ iI s8 6 ≤ 100000 := Is8.1 6
  have ws8_19 : iI s8 19 = iI s 19 := fm_i Fs8 (by decide)
  have ws8_16 : iI s8 16 = iI s 16 := fm_i Fs8 (by decide)
  show WS k 7 [(0, .ref (A 19)), (1, .int (Int32.ofInt x))] [] (Wd A dT s8) 0 0
  refine z_aload_n X (x := A 19) (show cdA 78 7 = some (.aload_n 0, 1, 0, 0, 0) from rfl) (List.Mem.head _) ?_
  refine s_getR X 19 (show cdA 78 8 = some (.getfield 31, 3, 7, 0, 0) from rfl) (by decide) rfl rfl ?_
  refine z_getI X 1 (show cdA 78 11 = some (.getfield 47, 3, 10, 6, 0) from rfl) (by decide) rfl rfl ?_
  have b14 : ((-3) : Int) ≤ iI s8 5 ∧ iI s8 5 ≤ 255 := Is8.1 5
  refine z_bipush X (show cdA 78 14 = some (.bipush 40, 2, 0, 0, 40) from rfl) ?_
  refine z_icmp_eq X (t := 28) (show cdA 78 16 = some (.if_icmp .eq 12, 3, 0, 0, 0) from rfl) (by decide) (rng_to _) (by decide) (fun g15 => ?_) (fun g15 => ?_)
  ·
    refine z_aload_n X (x := A 19) (show cdA 78 28 = some (.aload_n 0, 1, 0, 0, 0) from rfl) (List.Mem.head _) ?_
    refine z_callV X 19 (rm := rmN 80) (As := []) (st := []) (show cdA 78 29 = some (.invokevirtual 113, 3, 80, 0, 0) from rfl) rfl (by decide) rfl (by rw [E.1, E.2.1, E.2.2.1]; exact c7_enter_19 G Is8 (by first | exact hps8.1 | omega) (by first | exact hps8.2 | omega)) ⟨by rw [E.2.2.2]; exact (show 8 + 1 ≤ (12 + (4 * (0))) from oq_f7912654), by rw [E.2.2.2]; exact (show 8 + (1 + 11) + 143 ≤ (500 + 45 * (4 * (0))) from oq_8994f6bd), by rw [E.2.2.2]; exact Nat.le_refl 0, by rw [E.2.2.2]; exact Nat.le_refl 0⟩ (Nat.le_of_ble_eq_true rfl) (fun vv s16 hq => ?_) (fun ee s16 hq => ?_)
    rotate_left
    · obtain ⟨Is16, Fs16, e17, hv, hrs16, hps16⟩ := hq; cases hv
    obtain ⟨Is16, Fs16, e17, hv, hrs16, hps16⟩ := hq
    cases hv
    have Gs16 := fm_ts Gs8 Fs16 (by decide) (by decide)
    have b18 : (0 : Int) ≤ iI s16 2 ∧ iI s16 2 ≤ 200 := Is16.1 2
    have ws16_1 : iI s16 1 = iI s8 1 := fm_i Fs16 (by decide)
    have b19 : (0 : Int) ≤ iI s16 4 ∧ iI s16 4 ≤ 200 := Is16.1 4
    have b20 : ((-3) : Int) ≤ iI s16 5 ∧ iI s16 5 ≤ 255 := Is16.1 5
    have b21 : (0 : Int) ≤ iI s16 6 ∧ iI s16 6 ≤ 100000 := Is16.1 6
    have b22 : (0 : Int) ≤ iI s16 19 ∧ iI s16 19 ≤ 6 := Is16.1 19
    have ws16_16 : iI s16 16 = iI s8 16 := fm_i Fs16 (by decide)
    show WS k 32 [(0, .ref (A 19)), (1, .int (Int32.ofInt x))] [.int (Int32.ofInt e17)] (Wd A dT s16) 0 0
    refine z_if_eq X (t := 67) (show cdA 78 32 = some (.ifCond .eq 35, 3, 0, 0, 0) from rfl) (by decide) hrs16 (fun g23 => ?_) (fun g23 => ?_)
    ·
      refine z_const X (show cdA 78 67 = some (.iconst 0, 1, 0, 0, 0) from rfl) ?_
      exact w_iret X.1 q hRt (nar_ret (by first | exact Or.inl (by decide) | omega)) (ax_d X (show cdA 78 68 = some (.ireturn, 1, 0, 0, 0) from rfl)) (Nat.zero_le _) (Nat.zero_le _) ⟨_, rfl, Is16, Gs16, 0, rfl, (by decide), by first | exact ⟨Or.inl (by decide), hps16.2.1, hps16.2.2⟩ | omega⟩
    ·
      exfalso
      omega
  ·
    refine z_aload_n X (x := A 19) (show cdA 78 19 = some (.aload_n 0, 1, 0, 0, 0) from rfl) (List.Mem.head _) ?_
    refine s_getR X 19 (show cdA 78 20 = some (.getfield 31, 3, 7, 0, 0) from rfl) (by decide) rfl rfl ?_
    refine z_const X (show cdA 78 23 = some (.iconst 1, 1, 0, 0, 0) from rfl) ?_
    refine z_callV X 1 (rm := rmN 132) (As := [.int (Int32.ofInt 1)]) (st := []) (show cdA 78 24 = some (.invokevirtual 82, 3, 132, 0, 0) from rfl) rfl (by decide) rfl (by rw [E.1, E.2.1, E.2.2.1]; exact c10_refuse_1 G Is8 (by first | exact ⟨by decide, by decide⟩ | omega)) ⟨by rw [E.2.2.2]; exact (show 7 + 1 ≤ (12 + (4 * (0))) from oq_e494e03c), by rw [E.2.2.2]; exact (show 8 + (2 + 11) + 122 ≤ (500 + 45 * (4 * (0))) from oq_812388c8), by rw [E.2.2.2]; exact Nat.le_refl 0, by rw [E.2.2.2]; exact Nat.le_refl 0⟩ (Nat.le_of_ble_eq_true rfl) (fun vv s24 hq => ?_) (fun ee s24 hq => ?_)
    rotate_left
    · obtain ⟨Is24, Fs24, e25, hv, hrs24, hps24⟩ := hq; cases hv
    obtain ⟨Is24, Fs24, e25, hv, hrs24, hps24⟩ := hq
    cases hv
    have Gs24 := fm_ts Gs8 Fs24 (by decide) (by decide)
    have ws24_2 : iI s24 2 = iI s8 2 := fm_i Fs24 (by decide)
    have ws24_1 : iI s24 1 = iI s8 1 := fm_i Fs24 (by decide)
    have ws24_4 : iI s24 4 = iI s8 4 := fm_i Fs24 (by decide)
    have ws24_5 : iI s24 5 = iI s8 5 := fm_i Fs24 (by decide)
    have ws24_6 : iI s24 6 = iI s8 6 := fm_i Fs24 (by decide)
    have ws24_19 : iI s24 19 = iI s8 19 := fm_i Fs24 (by decide)
    have ws24_16 : iI s24 16 = iI s8 16 := fm_i Fs24 (by decide)
    show WS k 27 [(0, .ref (A 19)), (1, .int (Int32.ofInt x))] [.int (Int32.ofInt e25)] (Wd A dT s24) 0 0
    exact w_iret X.1 q hRt (nar_ret (by first | exact Or.inl (hps24) | omega)) (ax_d X (show cdA 78 27 = some (.ireturn, 1, 0, 0, 0) from rfl)) (Nat.zero_le _) (Nat.zero_le _) ⟨_, rfl, Is24, Gs24, e25, rfl, hrs24, by first | exact ⟨Or.inl (hps24), oq_e7b9ecab ws24_1 ws24_2 hps8.1, oq_e7b9ecab ws24_2 ws24_4 hps8.2⟩ | omega⟩
set_option maxRecDepth 4000 in
theorem c7_twoS (G : GX l s0 D tys a0 dT) (SF : SF0 s0) (GT : TXs0 s0) {r : Nat} (hS : ∀ {s : PS} , Bd s → (iI s 2 ≤ iI s 1) → (iI s 4 ≤ iI s 2) → (6 - iI s 19 ≤ ((r : Nat) : Int)) → CT l s0 D A dT 75 (rkR (4 * (r) + 3)) [.ref (A 19)] s (fun o t => Bd t ∧ Fm [2, 4, 6, 5, 7, 8, 19, 16] [18] s t ∧ ∃ e, o = .inl (some (.int (Int32.ofInt e))) ∧ rng e ∧ ((e = 0 ∨ (e = 1 ∧ iI t 19 = iI s 19)) ∧ iI t 2 ≤ iI t 1 ∧ iI t 4 ≤ iI t 2))) (I : Bd s) {x : Int} (p0 : rng x) (p1 : iI s 2 ≤ iI s 1) (p2 : iI s 4 ≤ iI s 2) (p3 : 6 - iI s 19 ≤ ((r + 1 : Nat) : Int)) : CT l s0 D A dT 78 (rkR (4 * (r + 1))) [.ref (A 19), .int (Int32.ofInt x)] s (fun o t => Bd t ∧ Fm [2, 4, 6, 5, 7, 8, 19, 16] [18] s t ∧ ∃ e, o = .inl (some (.int (Int32.ofInt e))) ∧ rng e ∧ ((e = 0 ∨ (e = 1 ∧ iI t 19 = iI s 19)) ∧ iI t 2 ≤ iI t 1 ∧ iI t 4 ≤ iI t 2)) := by
  refine ct_ofX G (by decide) (Nat.le_of_ble_eq_true rfl) (fun k X E ET hRt hXt q => ?_)
  show WS k 0 [(0, .ref (A 19)), (1, .int (Int32.ofInt x))] [] _ 0 0
  have F : Fm [2, 4, 6, 5, 7, 8, 19, 16] [18] s s := fm_rf _ _ s
  have b1 : (0 : Int) ≤ iI s 2 ∧ iI s 2 ≤ 200 := I.1 2
  have b2 : (0 : Int) ≤ iI s 1 ∧ iI s 1 ≤ 200 := I.1 1
  have b3 : (0 : Int) ≤ iI s 4 ∧ iI s 4 ≤ 200 := I.1 4
  have b4 : ((-3) : Int) ≤ iI s 5 ∧ iI s 5 ≤ 255 := I.1 5
  have b5 : (0 : Int) ≤ iI s 6 ∧ iI s 6 ≤ 100000 := I.1 6
  have b6 : (0 : Int) ≤ iI s 19 ∧ iI s 19 ≤ 6 := I.1 19
  have b7 : (0 : Int) ≤ iI s 16 ∧ iI s 16 ≤ 200 := I.1 16
  refine z_aload_n X (x := A 19) (show cdA 78 0 = some (.aload_n 0, 1, 0, 0, 0) from rfl) (List.Mem.head _) ?_
  refine s_getR X 19 (show cdA 78 1 = some (.getfield 31, 3, 7, 0, 0) from rfl) (by decide) rfl rfl ?_
  refine z_callV X 1 (rm := rmN 129) (As := []) (st := []) (show cdA 78 4 = some (.invokevirtual 85, 3, 129, 0, 0) from rfl) rfl (by decide) rfl (by rw [E.1, E.2.1, E.2.2.1]; exact c10_step_1 G I (by first | exact p1 | omega)) ⟨by rw [E.2.2.2]; exact (show 7 + 1 ≤ (12 + (4 * (r + 1))) from oq_e86a2d6a r), by rw [E.2.2.2]; exact (show 8 + (1 + 11) + 121 ≤ (500 + 45 * (4 * (r + 1))) from oq_9756868e r), by rw [E.2.2.2]; exact Nat.le_refl 0, by rw [E.2.2.2]; exact Nat.le_refl 0⟩ (Nat.le_of_ble_eq_true rfl) (fun vv s8 hq => ?_) (fun ee s8 hq => ?_)
  rotate_left
  · obtain ⟨Is8, Fs8, hv, hps8⟩ := hq; cases hv
  obtain ⟨Is8, Fs8, hv, hps8⟩ := hq
  cases hv
  have Gs8 := fm_ts F Fs8 (by decide) (by decide)
  have b10 : (0 : Int) ≤ iI s8 2 ∧ iI s8 2 ≤ 200 := Is8.1 2
  have ws8_1 : iI s8 1 = iI s 1 := fm_i Fs8 (by decide)
  have b11 : (0 : Int) ≤ iI s8 4 ∧ iI s8 4 ≤ 200 := Is8.1 4
  have b12 : ((-3) : Int) ≤ iI s8 5 ∧ iI s8 5 ≤ 255 := Is8.1 5
  have b13 : (0 : Int) ≤ iI s8 6 ∧ iI s8 6 ≤ 100000 := Is8.1 6
  have ws8_19 : iI s8 19 = iI s 19 := fm_i Fs8 (by decide)
  have ws8_16 : iI s8 16 = iI s 16 := fm_i Fs8 (by decide)
  show WS k 7 [(0, .ref (A 19)), (1, .int (Int32.ofInt x))] [] (Wd A dT s8) 0 0
  refine z_aload_n X (x := A 19) (show cdA 78 7 = some (.aload_n 0, 1, 0, 0, 0) from rfl) (List.Mem.head _) ?_
  refine s_getR X 19 (show cdA 78 8 = some (.getfield 31, 3, 7, 0, 0) from rfl) (by decide) rfl rfl ?_
  refine z_getI X 1 (show cdA 78 11 = some (.getfield 47, 3, 10, 6, 0) from rfl) (by decide) rfl rfl ?_
  have b14 : ((-3) : Int) ≤ iI s8 5 ∧ iI s8 5 ≤ 255 := Is8.1 5
  refine z_bipush X (show cdA 78 14 = some (.bipush 40, 2, 0, 0, 40) from rfl) ?_
  refine z_icmp_eq X (t := 28) (show cdA 78 16 = some (.if_icmp .eq 12, 3, 0, 0, 0) from rfl) (by decide) (rng_to _) (by decide) (fun g15 => ?_) (fun g15 => ?_)
  ·
    refine z_aload_n X (x := A 19) (show cdA 78 28 = some (.aload_n 0, 1, 0, 0, 0) from rfl) (List.Mem.head _) ?_
    refine z_callV X 19 (rm := rmN 80) (As := []) (st := []) (show cdA 78 29 = some (.invokevirtual 113, 3, 80, 0, 0) from rfl) rfl (by decide) rfl (by rw [E.1, E.2.1, E.2.2.1]; exact c7_enter_19 G Is8 (by first | exact hps8.1 | omega) (by first | exact hps8.2 | omega)) ⟨by rw [E.2.2.2]; exact (show 8 + 1 ≤ (12 + (4 * (r + 1))) from oq_b3b61940 r), by rw [E.2.2.2]; exact (show 8 + (1 + 11) + 143 ≤ (500 + 45 * (4 * (r + 1))) from oq_5e0a067b r), by rw [E.2.2.2]; exact Nat.le_refl 0, by rw [E.2.2.2]; exact Nat.le_refl 0⟩ (Nat.le_of_ble_eq_true rfl) (fun vv s16 hq => ?_) (fun ee s16 hq => ?_)
    rotate_left
    · obtain ⟨Is16, Fs16, e17, hv, hrs16, hps16⟩ := hq; cases hv
    obtain ⟨Is16, Fs16, e17, hv, hrs16, hps16⟩ := hq
    cases hv
    have Gs16 := fm_ts Gs8 Fs16 (by decide) (by decide)
    have b18 : (0 : Int) ≤ iI s16 2 ∧ iI s16 2 ≤ 200 := Is16.1 2
    have ws16_1 : iI s16 1 = iI s8 1 := fm_i Fs16 (by decide)
    have b19 : (0 : Int) ≤ iI s16 4 ∧ iI s16 4 ≤ 200 := Is16.1 4
    have b20 : ((-3) : Int) ≤ iI s16 5 ∧ iI s16 5 ≤ 255 := Is16.1 5
    have b21 : (0 : Int) ≤ iI s16 6 ∧ iI s16 6 ≤ 100000 := Is16.1 6
    have b22 : (0 : Int) ≤ iI s16 19 ∧ iI s16 19 ≤ 6 := Is16.1 19
    have ws16_16 : iI s16 16 = iI s8 16 := fm_i Fs16 (by decide)
    show WS k 32 [(0, .ref (A 19)), (1, .int (Int32.ofInt x))] [.int (Int32.ofInt e17)] (Wd A dT s16) 0 0
    refine z_if_eq X (t := 67) (show cdA 78 32 = some (.ifCond .eq 35, 3, 0, 0, 0) from rfl) (by decide) hrs16 (fun g23 => ?_) (fun g23 => ?_)
    ·
      refine z_const X (show cdA 78 67 = some (.iconst 0, 1, 0, 0, 0) from rfl) ?_
      exact w_iret X.1 q hRt (nar_ret (by first | exact Or.inl (by decide) | omega)) (ax_d X (show cdA 78 68 = some (.ireturn, 1, 0, 0, 0) from rfl)) (Nat.zero_le _) (Nat.zero_le _) ⟨_, rfl, Is16, Gs16, 0, rfl, (by decide), by first | exact ⟨Or.inl (by decide), hps16.2.1, hps16.2.2⟩ | omega⟩
    ·
      refine z_aload_n X (x := A 19) (show cdA 78 35 = some (.aload_n 0, 1, 0, 0, 0) from rfl) (List.Mem.head _) ?_
      refine z_callV X 19 (rm := (rkR (4 * (r) + 3))) (As := []) (st := []) (show cdA 78 36 = some (.invokevirtual 88, 3, 75, 0, 0) from rfl) rfl (by decide) rfl (by rw [E.1, E.2.1, E.2.2.1]; exact hS Is16 (by first | exact hps16.2.1 | omega) (by first | exact hps16.2.2 | omega) (by omega)) ⟨by rw [E.2.2.2]; exact (show (12 + (4 * (r) + 3)) + 1 ≤ (12 + (4 * (r + 1))) from oq_cba25b15 r), by rw [E.2.2.2]; exact (show 8 + (3 + 11) + (500 + 45 * (4 * (r) + 3)) ≤ (500 + 45 * (4 * (r + 1))) from oq_42f07b36 r), by rw [E.2.2.2]; exact Nat.le_refl 0, by rw [E.2.2.2]; exact Nat.le_refl 0⟩ (Nat.le_of_ble_eq_true rfl) (fun vv s24 hq => ?_) (fun ee s24 hq => ?_)
      rotate_left
      · obtain ⟨Is24, Fs24, e25, hv, hrs24, hps24⟩ := hq; cases hv
      obtain ⟨Is24, Fs24, e25, hv, hrs24, hps24⟩ := hq
      cases hv
      have Gs24 := fm_ts Gs16 Fs24 (by decide) (by decide)
      have b26 : (0 : Int) ≤ iI s24 2 ∧ iI s24 2 ≤ 200 := Is24.1 2
      have ws24_1 : iI s24 1 = iI s16 1 := fm_i Fs24 (by decide)
      have b27 : (0 : Int) ≤ iI s24 4 ∧ iI s24 4 ≤ 200 := Is24.1 4
      have b28 : ((-3) : Int) ≤ iI s24 5 ∧ iI s24 5 ≤ 255 := Is24.1 5
      have b29 : (0 : Int) ≤ iI s24 6 ∧ iI s24 6 ≤ 100000 := Is24.1 6
      have b30 : (0 : Int) ≤ iI s24 19 ∧ iI s24 19 ≤ 6 := Is24.1 19
      have b31 : (0 : Int) ≤ iI s24 16 ∧ iI s24 16 ≤ 200 := Is24.1 16
      show WS k 39 [(0, .ref (A 19)), (1, .int (Int32.ofInt x))] [.int (Int32.ofInt e25)] (Wd A dT s24) 0 0
      refine z_if_eq X (t := 67) (show cdA 78 39 = some (.ifCond .eq 28, 3, 0, 0, 0) from rfl) (by decide) hrs24 (fun g32 => ?_) (fun g32 => ?_)
      ·
        refine z_const X (show cdA 78 67 = some (.iconst 0, 1, 0, 0, 0) from rfl) ?_
        exact w_iret X.1 q hRt (nar_ret (by first | exact Or.inl (by decide) | omega)) (ax_d X (show cdA 78 68 = some (.ireturn, 1, 0, 0, 0) from rfl)) (Nat.zero_le _) (Nat.zero_le _) ⟨_, rfl, Is24, Gs24, 0, rfl, (by decide), by first | exact ⟨Or.inl (by decide), by omega, by omega⟩ | omega⟩
      ·
        refine z_aload_n X (x := A 19) (show cdA 78 42 = some (.aload_n 0, 1, 0, 0, 0) from rfl) (List.Mem.head _) ?_
        refine z_bipush X (show cdA 78 43 = some (.bipush 44, 2, 0, 0, 44) from rfl) ?_
        refine z_callV X 19 (rm := rmN 81) (As := [.int (Int32.ofInt 44)]) (st := []) (show cdA 78 45 = some (.invokevirtual 95, 3, 81, 0, 0) from rfl) rfl (by decide) rfl (by rw [E.1, E.2.1, E.2.2.1]; exact c7_pass_19 G Is24 (by first | exact ⟨by decide, by decide⟩ | omega) (by omega) (by omega)) ⟨by rw [E.2.2.2]; exact (show 8 + 1 ≤ (12 + (4 * (r + 1))) from oq_b3b61940 r), by rw [E.2.2.2]; exact (show 8 + (2 + 11) + 143 ≤ (500 + 45 * (4 * (r + 1))) from oq_035df8d4 r), by rw [E.2.2.2]; exact Nat.le_refl 0, by rw [E.2.2.2]; exact Nat.le_refl 0⟩ (Nat.le_of_ble_eq_true rfl) (fun vv s33 hq => ?_) (fun ee s33 hq => ?_)
        rotate_left
        · obtain ⟨Is33, Fs33, e34, hv, hrs33, hps33⟩ := hq; cases hv
        obtain ⟨Is33, Fs33, e34, hv, hrs33, hps33⟩ := hq
        cases hv
        have Gs33 := fm_ts Gs24 Fs33 (by decide) (by decide)
        have b35 : (0 : Int) ≤ iI s33 2 ∧ iI s33 2 ≤ 200 := Is33.1 2
        have ws33_1 : iI s33 1 = iI s24 1 := fm_i Fs33 (by decide)
        have b36 : (0 : Int) ≤ iI s33 4 ∧ iI s33 4 ≤ 200 := Is33.1 4
        have b37 : ((-3) : Int) ≤ iI s33 5 ∧ iI s33 5 ≤ 255 := Is33.1 5
        have b38 : (0 : Int) ≤ iI s33 6 ∧ iI s33 6 ≤ 100000 := Is33.1 6
        have ws33_19 : iI s33 19 = iI s24 19 := fm_i Fs33 (by decide)
        have ws33_16 : iI s33 16 = iI s24 16 := fm_i Fs33 (by decide)
        show WS k 48 [(0, .ref (A 19)), (1, .int (Int32.ofInt x))] [.int (Int32.ofInt e34)] (Wd A dT s33) 0 0
        refine z_if_eq X (t := 67) (show cdA 78 48 = some (.ifCond .eq 19, 3, 0, 0, 0) from rfl) (by decide) hrs33 (fun g39 => ?_) (fun g39 => ?_)
        ·
          refine z_const X (show cdA 78 67 = some (.iconst 0, 1, 0, 0, 0) from rfl) ?_
          exact w_iret X.1 q hRt (nar_ret (by first | exact Or.inl (by decide) | omega)) (ax_d X (show cdA 78 68 = some (.ireturn, 1, 0, 0, 0) from rfl)) (Nat.zero_le _) (Nat.zero_le _) ⟨_, rfl, Is33, Gs33, 0, rfl, (by decide), by first | exact ⟨Or.inl (by decide), hps33.2.1, hps33.2.2⟩ | omega⟩
        ·
          refine z_aload_n X (x := A 19) (show cdA 78 51 = some (.aload_n 0, 1, 0, 0, 0) from rfl) (List.Mem.head _) ?_
          refine z_callV X 19 (rm := (rkR (4 * (r) + 3))) (As := []) (st := []) (show cdA 78 52 = some (.invokevirtual 88, 3, 75, 0, 0) from rfl) rfl (by decide) rfl (by rw [E.1, E.2.1, E.2.2.1]; exact hS Is33 (by first | exact hps33.2.1 | omega) (by first | exact hps33.2.2 | omega) (by omega)) ⟨by rw [E.2.2.2]; exact (show (12 + (4 * (r) + 3)) + 1 ≤ (12 + (4 * (r + 1))) from oq_cba25b15 r), by rw [E.2.2.2]; exact (show 8 + (3 + 11) + (500 + 45 * (4 * (r) + 3)) ≤ (500 + 45 * (4 * (r + 1))) from oq_42f07b36 r), by rw [E.2.2.2]; exact Nat.le_refl 0, by rw [E.2.2.2]; exact Nat.le_refl 0⟩ (Nat.le_of_ble_eq_true rfl) (fun vv s40 hq => ?_) (fun ee s40 hq => ?_)
          rotate_left
          · obtain ⟨Is40, Fs40, e41, hv, hrs40, hps40⟩ := hq; cases hv
          obtain ⟨Is40, Fs40, e41, hv, hrs40, hps40⟩ := hq
          cases hv
          have Gs40 := fm_ts Gs33 Fs40 (by decide) (by decide)
          have b42 : (0 : Int) ≤ iI s40 2 ∧ iI s40 2 ≤ 200 := Is40.1 2
          have ws40_1 : iI s40 1 = iI s33 1 := fm_i Fs40 (by decide)
          have b43 : (0 : Int) ≤ iI s40 4 ∧ iI s40 4 ≤ 200 := Is40.1 4
          have b44 : ((-3) : Int) ≤ iI s40 5 ∧ iI s40 5 ≤ 255 := Is40.1 5
          have b45 : (0 : Int) ≤ iI s40 6 ∧ iI s40 6 ≤ 100000 := Is40.1 6
          have b46 : (0 : Int) ≤ iI s40 19 ∧ iI s40 19 ≤ 6 := Is40.1 19
          have b47 : (0 : Int) ≤ iI s40 16 ∧ iI s40 16 ≤ 200 := Is40.1 16
          show WS k 55 [(0, .ref (A 19)), (1, .int (Int32.ofInt x))] [.int (Int32.ofInt e41)] (Wd A dT s40) 0 0
          refine z_if_eq X (t := 67) (show cdA 78 55 = some (.ifCond .eq 12, 3, 0, 0, 0) from rfl) (by decide) hrs40 (fun g48 => ?_) (fun g48 => ?_)
          ·
            refine z_const X (show cdA 78 67 = some (.iconst 0, 1, 0, 0, 0) from rfl) ?_
            exact w_iret X.1 q hRt (nar_ret (by first | exact Or.inl (by decide) | omega)) (ax_d X (show cdA 78 68 = some (.ireturn, 1, 0, 0, 0) from rfl)) (Nat.zero_le _) (Nat.zero_le _) ⟨_, rfl, Is40, Gs40, 0, rfl, (by decide), by first | exact ⟨Or.inl (by decide), by omega, by omega⟩ | omega⟩
          ·
            refine z_aload_n X (x := A 19) (show cdA 78 58 = some (.aload_n 0, 1, 0, 0, 0) from rfl) (List.Mem.head _) ?_
            refine z_bipush X (show cdA 78 59 = some (.bipush 41, 2, 0, 0, 41) from rfl) ?_
            refine z_callV X 19 (rm := rmN 81) (As := [.int (Int32.ofInt 41)]) (st := []) (show cdA 78 61 = some (.invokevirtual 95, 3, 81, 0, 0) from rfl) rfl (by decide) rfl (by rw [E.1, E.2.1, E.2.2.1]; exact c7_pass_19 G Is40 (by first | exact ⟨by decide, by decide⟩ | omega) (by omega) (by omega)) ⟨by rw [E.2.2.2]; exact (show 8 + 1 ≤ (12 + (4 * (r + 1))) from oq_b3b61940 r), by rw [E.2.2.2]; exact (show 8 + (2 + 11) + 143 ≤ (500 + 45 * (4 * (r + 1))) from oq_035df8d4 r), by rw [E.2.2.2]; exact Nat.le_refl 0, by rw [E.2.2.2]; exact Nat.le_refl 0⟩ (Nat.le_of_ble_eq_true rfl) (fun vv s49 hq => ?_) (fun ee s49 hq => ?_)
            rotate_left
            · obtain ⟨Is49, Fs49, e50, hv, hrs49, hps49⟩ := hq; cases hv
            obtain ⟨Is49, Fs49, e50, hv, hrs49, hps49⟩ := hq
            cases hv
            have Gs49 := fm_ts Gs40 Fs49 (by decide) (by decide)
            have b51 : (0 : Int) ≤ iI s49 2 ∧ iI s49 2 ≤ 200 := Is49.1 2
            have ws49_1 : iI s49 1 = iI s40 1 := fm_i Fs49 (by decide)
            have b52 : (0 : Int) ≤ iI s49 4 ∧ iI s49 4 ≤ 200 := Is49.1 4
            have b53 : ((-3) : Int) ≤ iI s49 5 ∧ iI s49 5 ≤ 255 := Is49.1 5
            have b54 : (0 : Int) ≤ iI s49 6 ∧ iI s49 6 ≤ 100000 := Is49.1 6
            have ws49_19 : iI s49 19 = iI s40 19 := fm_i Fs49 (by decide)
            have ws49_16 : iI s49 16 = iI s40 16 := fm_i Fs49 (by decide)
            show WS k 64 [(0, .ref (A 19)), (1, .int (Int32.ofInt x))] [.int (Int32.ofInt e50)] (Wd A dT s49) 0 0
            refine z_if_ne X (t := 69) (show cdA 78 64 = some (.ifCond .ne 5, 3, 1, 0, 0) from rfl) (by decide) hrs49 (fun g55 => ?_) (fun g55 => ?_)
            ·
              refine z_aload_n X (x := A 19) (show cdA 78 69 = some (.aload_n 0, 1, 0, 0, 0) from rfl) (List.Mem.head _) ?_
              refine w_dup X.1 (ax_d X (show cdA 78 70 = some (.dup, 1, 0, 0, 0) from rfl)) rfl ?_
              refine z_getI X 19 (show cdA 78 71 = some (.getfield 44, 3, 7, 12, 0) from rfl) (by decide) rfl rfl ?_
              have b56 : (0 : Int) ≤ iI s49 19 ∧ iI s49 19 ≤ 6 := Is49.1 19
              refine z_const X (show cdA 78 74 = some (.iconst 1, 1, 0, 0, 0) from rfl) ?_
              refine z_sub X (show cdA 78 75 = some (.isub, 1, 0, 0, 0) from rfl) ?_
              refine s_putI X 19 (show cdA 78 76 = some (.putfield 44, 3, 7, 12, 0) from rfl) (by decide) rfl rfl (by decide) rfl rfl rfl ?_
              obtain ⟨s57, hs57⟩ : ∃ x0, x0 = uI s49 19 (Int32.ofInt ((iI s49 19) - 1)) := ⟨_, rfl⟩
              rw [← hs57]
              have Is57 : Bd s57 := by rw [hs57]; exact bd_I Is49 (show (0 : Int) ≤ ((iI s49 19) - 1) ∧ ((iI s49 19) - 1) ≤ 6 by first | exact ⟨by omega, oq_a9606c0d b56.2⟩ | omega) ⟨by first | exact oq_c1e961c7 b56.1 | omega, by first | exact oq_b383b26c b56.2 | omega⟩
              have Fs57 := fm_I (x := Int32.ofInt ((iI s49 19) - 1)) Gs49 (show 19 ∈ _ by decide)
              rw [← hs57] at Fs57
              have vs57 : iI s57 19 = ((iI s49 19) - 1) := by rw [hs57]; exact iI_u ⟨by first | exact oq_c1e961c7 b56.1 | omega, by first | exact oq_b383b26c b56.2 | omega⟩
              have ws57_2 : iI s57 2 = iI s49 2 := by rw [hs57]; rfl
              have ws57_1 : iI s57 1 = iI s49 1 := by rw [hs57]; rfl
              have ws57_4 : iI s57 4 = iI s49 4 := by rw [hs57]; rfl
              have ws57_5 : iI s57 5 = iI s49 5 := by rw [hs57]; rfl
              have ws57_6 : iI s57 6 = iI s49 6 := by rw [hs57]; rfl
              have ws57_16 : iI s57 16 = iI s49 16 := by rw [hs57]; rfl
              refine z_aload_n X (x := A 19) (show cdA 78 79 = some (.aload_n 0, 1, 0, 0, 0) from rfl) (List.Mem.head _) ?_
              refine z_load_n X (x := x) (show cdA 78 80 = some (.iload_n 1, 1, 0, 0, 0) from rfl) (List.Mem.tail _ (List.Mem.head _)) ?_
              refine z_callV X 19 (rm := rmN 82) (As := [.int (Int32.ofInt x)]) (st := []) (show cdA 78 81 = some (.invokevirtual 103, 3, 82, 0, 0) from rfl) rfl (by decide) rfl (by rw [E.1, E.2.1, E.2.2.1]; exact c7_put_19 G Is57 (by first | exact ⟨p0.1, p0.2⟩ | omega)) ⟨by rw [E.2.2.2]; exact (show 6 + 1 ≤ (12 + (4 * (r + 1))) from oq_c97dc902 r), by rw [E.2.2.2]; exact (show 8 + (2 + 11) + 100 ≤ (500 + 45 * (4 * (r + 1))) from oq_b200f69d r), by rw [E.2.2.2]; exact Nat.le_refl 0, by rw [E.2.2.2]; exact Nat.le_refl 0⟩ (Nat.le_of_ble_eq_true rfl) (fun vv s58 hq => ?_) (fun ee s58 hq => ?_)
              rotate_left
              · obtain ⟨Is58, Fs58, hv, hps58⟩ := hq; cases hv
              obtain ⟨Is58, Fs58, hv, hps58⟩ := hq
              cases hv
              have Gs58 := fm_ts Fs57 Fs58 (by decide) (by decide)
              have ws58_2 : iI s58 2 = iI s57 2 := fm_i Fs58 (by decide)
              have ws58_1 : iI s58 1 = iI s57 1 := fm_i Fs58 (by decide)
              have ws58_4 : iI s58 4 = iI s57 4 := fm_i Fs58 (by decide)
              have ws58_5 : iI s58 5 = iI s57 5 := fm_i Fs58 (by decide)
              have ws58_6 : iI s58 6 = iI s57 6 := fm_i Fs58 (by decide)
              have ws58_19 : iI s58 19 = iI s57 19 := fm_i Fs58 (by decide)
              have b60 : (0 : Int) ≤ iI s58 16 ∧ iI s58 16 ≤ 200 := Is58.1 16
              show WS k 84 [(0, .ref (A 19)), (1, .int (Int32.ofInt x))] [] (Wd A dT s58) 0 0
              refine z_const X (show cdA 78 84 = some (.iconst 1, 1, 0, 0, 0) from rfl) ?_
              exact w_iret X.1 q hRt (nar_ret (by first | exact Or.inr (by decide) | omega)) (ax_d X (show cdA 78 85 = some (.ireturn, 1, 0, 0, 0) from rfl)) (Nat.zero_le _) (Nat.zero_le _) ⟨_, rfl, Is58, Gs58, 1, rfl, (by decide), by first | exact ⟨by omega, oq_4407eb3c ws58_1 ws58_2 ws57_1 ws57_2 hps49.2.1, oq_4407eb3c ws58_2 ws58_4 ws57_2 ws57_4 hps49.2.2⟩ | omega⟩
            ·
              refine z_const X (show cdA 78 67 = some (.iconst 0, 1, 0, 0, 0) from rfl) ?_
              exact w_iret X.1 q hRt (nar_ret (by first | exact Or.inl (by decide) | omega)) (ax_d X (show cdA 78 68 = some (.ireturn, 1, 0, 0, 0) from rfl)) (Nat.zero_le _) (Nat.zero_le _) ⟨_, rfl, Is49, Gs49, 0, rfl, (by decide), by first | exact ⟨Or.inl (by decide), hps49.2.1, hps49.2.2⟩ | omega⟩
  ·
    refine z_aload_n X (x := A 19) (show cdA 78 19 = some (.aload_n 0, 1, 0, 0, 0) from rfl) (List.Mem.head _) ?_
    refine s_getR X 19 (show cdA 78 20 = some (.getfield 31, 3, 7, 0, 0) from rfl) (by decide) rfl rfl ?_
    refine z_const X (show cdA 78 23 = some (.iconst 1, 1, 0, 0, 0) from rfl) ?_
    refine z_callV X 1 (rm := rmN 132) (As := [.int (Int32.ofInt 1)]) (st := []) (show cdA 78 24 = some (.invokevirtual 82, 3, 132, 0, 0) from rfl) rfl (by decide) rfl (by rw [E.1, E.2.1, E.2.2.1]; exact c10_refuse_1 G Is8 (by first | exact ⟨by decide, by decide⟩ | omega)) ⟨by rw [E.2.2.2]; exact (show 7 + 1 ≤ (12 + (4 * (r + 1))) from oq_e86a2d6a r), by rw [E.2.2.2]; exact (show 8 + (2 + 11) + 122 ≤ (500 + 45 * (4 * (r + 1))) from oq_8aa95fcd r), by rw [E.2.2.2]; exact Nat.le_refl 0, by rw [E.2.2.2]; exact Nat.le_refl 0⟩ (Nat.le_of_ble_eq_true rfl) (fun vv s61 hq => ?_) (fun ee s61 hq => ?_)
    rotate_left
    · obtain ⟨Is61, Fs61, e62, hv, hrs61, hps61⟩ := hq; cases hv
    obtain ⟨Is61, Fs61, e62, hv, hrs61, hps61⟩ := hq
    cases hv
    have Gs61 := fm_ts Gs8 Fs61 (by decide) (by decide)
    have ws61_2 : iI s61 2 = iI s8 2 := fm_i Fs61 (by decide)
    have ws61_1 : iI s61 1 = iI s8 1 := fm_i Fs61 (by decide)
    have ws61_4 : iI s61 4 = iI s8 4 := fm_i Fs61 (by decide)
    have ws61_5 : iI s61 5 = iI s8 5 := fm_i Fs61 (by decide)
    have ws61_6 : iI s61 6 = iI s8 6 := fm_i Fs61 (by decide)
    have ws61_19 : iI s61 19 = iI s8 19 := fm_i Fs61 (by decide)
    have ws61_16 : iI s61 16 = iI s8 16 := fm_i Fs61 (by decide)
    show WS k 27 [(0, .ref (A 19)), (1, .int (Int32.ofInt x))] [.int (Int32.ofInt e62)] (Wd A dT s61) 0 0
    exact w_iret X.1 q hRt (nar_ret (by first | exact Or.inl (hps61) | omega)) (ax_d X (show cdA 78 27 = some (.ireturn, 1, 0, 0, 0) from rfl)) (Nat.zero_le _) (Nat.zero_le _) ⟨_, rfl, Is61, Gs61, e62, rfl, hrs61, by first | exact ⟨Or.inl (hps61), oq_e7b9ecab ws61_1 ws61_2 hps8.1, oq_e7b9ecab ws61_2 ws61_4 hps8.2⟩ | omega⟩
set_option maxRecDepth 4000 in
theorem c7_unit0 (G : GX l s0 D tys a0 dT) (SF : SF0 s0) (GT : TXs0 s0) (hT : ∀ {s : PS} {x : Int}, Bd s → (rng x) → (iI s 2 ≤ iI s 1) → (iI s 4 ≤ iI s 2) → (6 - iI s 19 ≤ ((0 : Nat) : Int)) → CT l s0 D A dT 78 (rkR (4 * (0))) [.ref (A 19), .int (Int32.ofInt x)] s (fun o t => Bd t ∧ Fm [2, 4, 6, 5, 7, 8, 19, 16] [18] s t ∧ ∃ e, o = .inl (some (.int (Int32.ofInt e))) ∧ rng e ∧ ((e = 0 ∨ (e = 1 ∧ iI t 19 = iI s 19)) ∧ iI t 2 ≤ iI t 1 ∧ iI t 4 ≤ iI t 2))) (I : Bd s) (p0 : iI s 2 ≤ iI s 1) (p1 : iI s 4 ≤ iI s 2) (p2 : 6 - iI s 19 ≤ ((0 : Nat) : Int)) : CT l s0 D A dT 77 (rkR (4 * (0) + 1)) [.ref (A 19)] s (fun o t => Bd t ∧ Fm [2, 4, 6, 5, 7, 8, 19, 16] [18] s t ∧ ∃ e, o = .inl (some (.int (Int32.ofInt e))) ∧ rng e ∧ ((e = 0 ∨ (e = 1 ∧ iI t 19 = iI s 19)) ∧ iI t 2 ≤ iI t 1 ∧ iI t 4 ≤ iI t 2)) := by
  refine ct_ofX G (by decide) (Nat.le_of_ble_eq_true rfl) (fun k X E ET hRt hXt q => ?_)
  show WS k 0 [(0, .ref (A 19))] [] _ 0 0
  have F : Fm [2, 4, 6, 5, 7, 8, 19, 16] [18] s s := fm_rf _ _ s
  have b1 : (0 : Int) ≤ iI s 2 ∧ iI s 2 ≤ 200 := I.1 2
  have b2 : (0 : Int) ≤ iI s 1 ∧ iI s 1 ≤ 200 := I.1 1
  have b3 : (0 : Int) ≤ iI s 4 ∧ iI s 4 ≤ 200 := I.1 4
  have b4 : ((-3) : Int) ≤ iI s 5 ∧ iI s 5 ≤ 255 := I.1 5
  have b5 : (0 : Int) ≤ iI s 6 ∧ iI s 6 ≤ 100000 := I.1 6
  have b6 : (0 : Int) ≤ iI s 19 ∧ iI s 19 ≤ 6 := I.1 19
  have b7 : (0 : Int) ≤ iI s 16 ∧ iI s 16 ≤ 200 := I.1 16
  refine z_aload_n X (x := A 19) (show cdA 77 0 = some (.aload_n 0, 1, 0, 0, 0) from rfl) (List.Mem.head _) ?_
  refine s_getR X 19 (show cdA 77 1 = some (.getfield 31, 3, 7, 0, 0) from rfl) (by decide) rfl rfl ?_
  refine z_getI X 1 (show cdA 77 4 = some (.getfield 47, 3, 10, 6, 0) from rfl) (by decide) rfl rfl ?_
  have b8 : ((-3) : Int) ≤ iI s 5 ∧ iI s 5 ≤ 255 := I.1 5
  refine z_bipush X (show cdA 77 7 = some (.bipush (-2), 2, 0, 0, (-2)) from rfl) ?_
  refine z_icmp_ne X (t := 54) (show cdA 77 9 = some (.if_icmp .ne 45, 3, 1, 0, 0) from rfl) (by decide) (rng_to _) (by decide) (fun g9 => ?_) (fun g9 => ?_)
  ·
    refine z_aload_n X (x := A 19) (show cdA 77 54 = some (.aload_n 0, 1, 0, 0, 0) from rfl) (List.Mem.head _) ?_
    refine s_getR X 19 (show cdA 77 55 = some (.getfield 31, 3, 7, 0, 0) from rfl) (by decide) rfl rfl ?_
    refine z_getI X 1 (show cdA 77 58 = some (.getfield 47, 3, 10, 6, 0) from rfl) (by decide) rfl rfl ?_
    have b10 : ((-3) : Int) ≤ iI s 5 ∧ iI s 5 ≤ 255 := I.1 5
    refine z_bipush X (show cdA 77 61 = some (.bipush 40, 2, 0, 0, 40) from rfl) ?_
    refine z_icmp_ne X (t := 103) (show cdA 77 63 = some (.if_icmp .ne 40, 3, 1, 0, 0) from rfl) (by decide) (rng_to _) (by decide) (fun g11 => ?_) (fun g11 => ?_)
    ·
      refine z_aload_n X (x := A 19) (show cdA 77 103 = some (.aload_n 0, 1, 0, 0, 0) from rfl) (List.Mem.head _) ?_
      refine s_getR X 19 (show cdA 77 104 = some (.getfield 31, 3, 7, 0, 0) from rfl) (by decide) rfl rfl ?_
      obtain ⟨tx125, q125, hR125, hS125⟩ := GT (125, 5) (by decide)
      refine w_ldcK X (show vk_R (kOwn k) 125 tx125 q125 (kS0 k) by rw [E.2.1, X.2.1.2.1]; exact hR125) (show decode (kCc k) 107 = .ok (.ldc 125, 2) by rw [X.2.1.1]; decide +kernel) ?_
      refine z_callV X 1 (rm := rmN 131) (As := [.ref q125]) (st := []) (show cdA 77 109 = some (.invokevirtual 76, 3, 131, 0, 0) from rfl) rfl (by decide) rfl (by rw [E.1, E.2.1, E.2.2.1]; exact c10_says G SF hS125 I (by first | exact p1 | omega)) ⟨by rw [E.2.2.2]; exact (show 11 + 1 ≤ (12 + (4 * (0) + 1)) from oq_598d2d56), by rw [E.2.2.2]; exact (show 8 + (3 + 11) + 206 ≤ (500 + 45 * (4 * (0) + 1)) from oq_8d6a3487), by rw [E.2.2.2]; exact Nat.le_refl 0, by rw [E.2.2.2]; exact Nat.le_refl 0⟩ (Nat.le_of_ble_eq_true rfl) (fun vv s12 hq => ?_) (fun ee s12 hq => ?_)
      rotate_left
      · obtain ⟨Is12, Fs12, e13, hv, hrs12, hps12⟩ := hq; cases hv
      obtain ⟨Is12, Fs12, e13, hv, hrs12, hps12⟩ := hq
      cases hv
      have Gs12 := fm_ts F Fs12 (by decide) (by decide)
      have ws12_2 : iI s12 2 = iI s 2 := fm_i Fs12 (by decide)
      have ws12_1 : iI s12 1 = iI s 1 := fm_i Fs12 (by decide)
      have ws12_4 : iI s12 4 = iI s 4 := fm_i Fs12 (by decide)
      have ws12_5 : iI s12 5 = iI s 5 := fm_i Fs12 (by decide)
      have ws12_6 : iI s12 6 = iI s 6 := fm_i Fs12 (by decide)
      have ws12_19 : iI s12 19 = iI s 19 := fm_i Fs12 (by decide)
      have ws12_16 : iI s12 16 = iI s 16 := fm_i Fs12 (by decide)
      show WS k 112 [(0, .ref (A 19))] [.int (Int32.ofInt e13)] (Wd A dT s12) 0 0
      refine z_if_ne X (t := 127) (show cdA 77 112 = some (.ifCond .ne 15, 3, 1, 0, 0) from rfl) (by decide) hrs12 (fun g14 => ?_) (fun g14 => ?_)
      ·
        refine z_aload_n X (x := A 19) (show cdA 77 127 = some (.aload_n 0, 1, 0, 0, 0) from rfl) (List.Mem.head _) ?_
        refine z_aload_n X (x := A 19) (show cdA 77 128 = some (.aload_n 0, 1, 0, 0, 0) from rfl) (List.Mem.head _) ?_
        refine s_getR X 19 (show cdA 77 129 = some (.getfield 31, 3, 7, 0, 0) from rfl) (by decide) rfl rfl ?_
        obtain ⟨tx125, q125, hR125, hS125⟩ := GT (125, 5) (by decide)
        refine w_ldcK X (show vk_R (kOwn k) 125 tx125 q125 (kS0 k) by rw [E.2.1, X.2.1.2.1]; exact hR125) (show decode (kCc k) 132 = .ok (.ldc 125, 2) by rw [X.2.1.1]; decide +kernel) ?_
        refine z_callV X 1 (rm := rmN 131) (As := [.ref q125]) (st := [.ref (A 19)]) (show cdA 77 134 = some (.invokevirtual 76, 3, 131, 0, 0) from rfl) rfl (by decide) rfl (by rw [E.1, E.2.1, E.2.2.1]; exact c10_says G SF hS125 Is12 (by first | exact oq_e7b9ecab ws12_2 ws12_4 p1 | omega)) ⟨by rw [E.2.2.2]; exact (show 11 + 1 ≤ (12 + (4 * (0) + 1)) from oq_598d2d56), by rw [E.2.2.2]; exact (show 8 + (3 + 11) + 206 ≤ (500 + 45 * (4 * (0) + 1)) from oq_8d6a3487), by rw [E.2.2.2]; exact Nat.le_refl 0, by rw [E.2.2.2]; exact Nat.le_refl 0⟩ (Nat.le_of_ble_eq_true rfl) (fun vv s15 hq => ?_) (fun ee s15 hq => ?_)
        rotate_left
        · obtain ⟨Is15, Fs15, e16, hv, hrs15, hps15⟩ := hq; cases hv
        obtain ⟨Is15, Fs15, e16, hv, hrs15, hps15⟩ := hq
        cases hv
        have Gs15 := fm_ts Gs12 Fs15 (by decide) (by decide)
        have ws15_2 : iI s15 2 = iI s12 2 := fm_i Fs15 (by decide)
        have ws15_1 : iI s15 1 = iI s12 1 := fm_i Fs15 (by decide)
        have ws15_4 : iI s15 4 = iI s12 4 := fm_i Fs15 (by decide)
        have ws15_5 : iI s15 5 = iI s12 5 := fm_i Fs15 (by decide)
        have ws15_6 : iI s15 6 = iI s12 6 := fm_i Fs15 (by decide)
        have ws15_19 : iI s15 19 = iI s12 19 := fm_i Fs15 (by decide)
        have ws15_16 : iI s15 16 = iI s12 16 := fm_i Fs15 (by decide)
        show WS k 137 [(0, .ref (A 19))] [.int (Int32.ofInt e16), .ref (A 19)] (Wd A dT s15) 0 0
        have N17 : ∀ e18 : Int, (((e16 = 0) ∧ e18 = (-14)) ∨ ((e16 ≠ 0) ∧ e18 = (-13))) → WS k 147 [(0, .ref (A 19))] [.int (Int32.ofInt e18), .ref (A 19)] (Wd A dT s15) 0 0 := by
          intro e18 he18
          have re18 : (-14) ≤ e18 ∧ e18 ≤ (-13) := by omega
          refine z_callV X 19 (rm := (rkR (4 * (0)))) (As := [.int (Int32.ofInt e18)]) (st := []) (show cdA 77 147 = some (.invokevirtual 129, 3, 78, 0, 0) from rfl) rfl (by decide) rfl (by rw [E.1, E.2.1, E.2.2.1]; exact hT Is15 (by omega) (by first | exact oq_4407eb3c ws15_1 ws15_2 ws12_1 ws12_2 p0 | omega) (by first | exact oq_4407eb3c ws15_2 ws15_4 ws12_2 ws12_4 p1 | omega) (by first | exact oq_064f000d ws15_19 ws12_19 p2 | omega)) ⟨by rw [E.2.2.2]; exact (show (12 + (4 * (0))) + 1 ≤ (12 + (4 * (0) + 1)) from oq_46bc030d), by rw [E.2.2.2]; exact (show 8 + (2 + 11) + (500 + 45 * (4 * (0))) ≤ (500 + 45 * (4 * (0) + 1)) from oq_1283f125), by rw [E.2.2.2]; exact Nat.le_refl 0, by rw [E.2.2.2]; exact Nat.le_refl 0⟩ (Nat.le_of_ble_eq_true rfl) (fun vv s19 hq => ?_) (fun ee s19 hq => ?_)
          rotate_left
          · obtain ⟨Is19, Fs19, e20, hv, hrs19, hps19⟩ := hq; cases hv
          obtain ⟨Is19, Fs19, e20, hv, hrs19, hps19⟩ := hq
          cases hv
          have Gs19 := fm_ts Gs15 Fs19 (by decide) (by decide)
          have b21 : (0 : Int) ≤ iI s19 2 ∧ iI s19 2 ≤ 200 := Is19.1 2
          have ws19_1 : iI s19 1 = iI s15 1 := fm_i Fs19 (by decide)
          have b22 : (0 : Int) ≤ iI s19 4 ∧ iI s19 4 ≤ 200 := Is19.1 4
          have b23 : ((-3) : Int) ≤ iI s19 5 ∧ iI s19 5 ≤ 255 := Is19.1 5
          have b24 : (0 : Int) ≤ iI s19 6 ∧ iI s19 6 ≤ 100000 := Is19.1 6
          have b25 : (0 : Int) ≤ iI s19 19 ∧ iI s19 19 ≤ 6 := Is19.1 19
          have b26 : (0 : Int) ≤ iI s19 16 ∧ iI s19 16 ≤ 200 := Is19.1 16
          show WS k 150 [(0, .ref (A 19))] [.int (Int32.ofInt e20)] (Wd A dT s19) 0 0
          exact w_iret X.1 q hRt (nar_ret (by omega)) (ax_d X (show cdA 77 150 = some (.ireturn, 1, 0, 0, 0) from rfl)) (Nat.zero_le _) (Nat.zero_le _) ⟨_, rfl, Is19, Gs19, e20, rfl, hrs19, by omega⟩
        refine z_if_eq X (t := 145) (show cdA 77 137 = some (.ifCond .eq 8, 3, 0, 0, 0) from rfl) (by decide) hrs15 (fun g27 => ?_) (fun g27 => ?_)
        ·
          refine z_bipush X (show cdA 77 145 = some (.bipush (-14), 2, 0, 0, (-14)) from rfl) ?_
          exact N17 _ (Or.inl ⟨g27, rfl⟩)
        ·
          refine z_bipush X (show cdA 77 140 = some (.bipush (-13), 2, 0, 0, (-13)) from rfl) ?_
          refine z_goto X (t := 147) (show cdA 77 142 = some (.goto 5, 3, 0, 0, 0) from rfl) (by decide) ?_
          exact N17 _ (Or.inr (⟨g27, rfl⟩))
      ·
        refine z_aload_n X (x := A 19) (show cdA 77 115 = some (.aload_n 0, 1, 0, 0, 0) from rfl) (List.Mem.head _) ?_
        refine s_getR X 19 (show cdA 77 116 = some (.getfield 31, 3, 7, 0, 0) from rfl) (by decide) rfl rfl ?_
        obtain ⟨tx127, q127, hR127, hS127⟩ := GT (127, 4) (by decide)
        refine w_ldcK X (show vk_R (kOwn k) 127 tx127 q127 (kS0 k) by rw [E.2.1, X.2.1.2.1]; exact hR127) (show decode (kCc k) 119 = .ok (.ldc 127, 2) by rw [X.2.1.1]; decide +kernel) ?_
        refine z_callV X 1 (rm := rmN 131) (As := [.ref q127]) (st := []) (show cdA 77 121 = some (.invokevirtual 76, 3, 131, 0, 0) from rfl) rfl (by decide) rfl (by rw [E.1, E.2.1, E.2.2.1]; exact c10_says G SF hS127 Is12 (by first | exact oq_e7b9ecab ws12_2 ws12_4 p1 | omega)) ⟨by rw [E.2.2.2]; exact (show 11 + 1 ≤ (12 + (4 * (0) + 1)) from oq_598d2d56), by rw [E.2.2.2]; exact (show 8 + (3 + 11) + 206 ≤ (500 + 45 * (4 * (0) + 1)) from oq_8d6a3487), by rw [E.2.2.2]; exact Nat.le_refl 0, by rw [E.2.2.2]; exact Nat.le_refl 0⟩ (Nat.le_of_ble_eq_true rfl) (fun vv s28 hq => ?_) (fun ee s28 hq => ?_)
        rotate_left
        · obtain ⟨Is28, Fs28, e29, hv, hrs28, hps28⟩ := hq; cases hv
        obtain ⟨Is28, Fs28, e29, hv, hrs28, hps28⟩ := hq
        cases hv
        have Gs28 := fm_ts Gs12 Fs28 (by decide) (by decide)
        have ws28_2 : iI s28 2 = iI s12 2 := fm_i Fs28 (by decide)
        have ws28_1 : iI s28 1 = iI s12 1 := fm_i Fs28 (by decide)
        have ws28_4 : iI s28 4 = iI s12 4 := fm_i Fs28 (by decide)
        have ws28_5 : iI s28 5 = iI s12 5 := fm_i Fs28 (by decide)
        have ws28_6 : iI s28 6 = iI s12 6 := fm_i Fs28 (by decide)
        have ws28_19 : iI s28 19 = iI s12 19 := fm_i Fs28 (by decide)
        have ws28_16 : iI s28 16 = iI s12 16 := fm_i Fs28 (by decide)
        show WS k 124 [(0, .ref (A 19))] [.int (Int32.ofInt e29)] (Wd A dT s28) 0 0
        refine z_if_eq X (t := 151) (show cdA 77 124 = some (.ifCond .eq 27, 3, 0, 0, 0) from rfl) (by decide) hrs28 (fun g30 => ?_) (fun g30 => ?_)
        ·
          refine z_aload_n X (x := A 19) (show cdA 77 151 = some (.aload_n 0, 1, 0, 0, 0) from rfl) (List.Mem.head _) ?_
          refine z_callV X 19 (rm := rmN 79) (As := []) (st := []) (show cdA 77 152 = some (.invokevirtual 132, 3, 79, 0, 0) from rfl) rfl (by decide) rfl (by rw [E.1, E.2.1, E.2.2.1]; exact c7_codeOfName_19 G SF GT Is28 (by first | exact oq_4407eb3c ws28_1 ws28_2 ws12_1 ws12_2 p0 | omega) (by first | exact oq_4407eb3c ws28_2 ws28_4 ws12_2 ws12_4 p1 | omega)) ⟨by rw [E.2.2.2]; exact (show 12 + 1 ≤ (12 + (4 * (0) + 1)) from oq_0306f201), by rw [E.2.2.2]; exact (show 8 + (1 + 11) + 228 ≤ (500 + 45 * (4 * (0) + 1)) from oq_d926b11d), by rw [E.2.2.2]; exact Nat.le_refl 0, by rw [E.2.2.2]; exact Nat.le_refl 0⟩ (Nat.le_of_ble_eq_true rfl) (fun vv s31 hq => ?_) (fun ee s31 hq => ?_)
          rotate_left
          · obtain ⟨Is31, Fs31, e32, hv, hrs31, hps31⟩ := hq; cases hv
          obtain ⟨Is31, Fs31, e32, hv, hrs31, hps31⟩ := hq
          cases hv
          have Gs31 := fm_ts Gs28 Fs31 (by decide) (by decide)
          have ws31_2 : iI s31 2 = iI s28 2 := fm_i Fs31 (by decide)
          have ws31_1 : iI s31 1 = iI s28 1 := fm_i Fs31 (by decide)
          have ws31_4 : iI s31 4 = iI s28 4 := fm_i Fs31 (by decide)
          have ws31_5 : iI s31 5 = iI s28 5 := fm_i Fs31 (by decide)
          have ws31_6 : iI s31 6 = iI s28 6 := fm_i Fs31 (by decide)
          have ws31_19 : iI s31 19 = iI s28 19 := fm_i Fs31 (by decide)
          have ws31_16 : iI s31 16 = iI s28 16 := fm_i Fs31 (by decide)
          show WS k 155 [(0, .ref (A 19))] [.int (Int32.ofInt e32)] (Wd A dT s31) 0 0
          refine z_store_n X (lv' := [(1, .int (Int32.ofInt e32)), (0, .ref (A 19))]) (show cdA 77 155 = some (.istore_n 1, 1, 0, 0, 0) from rfl) (by decide) (fun _ h => h) ?_
          refine z_load_n X (x := e32) (show cdA 77 156 = some (.iload_n 1, 1, 0, 0, 0) from rfl) (List.Mem.head _) ?_
          refine z_bipush X (show cdA 77 157 = some (.bipush (-20), 2, 0, 0, (-20)) from rfl) ?_
          refine z_icmp_ne X (t := 171) (show cdA 77 159 = some (.if_icmp .ne 12, 3, 1, 0, 0) from rfl) (by decide) hrs31 (by decide) (fun g33 => ?_) (fun g33 => ?_)
          ·
            refine z_aload_n X (x := A 19) (show cdA 77 171 = some (.aload_n 0, 1, 0, 0, 0) from rfl) (List.Mem.tail _ (List.Mem.head _)) ?_
            refine z_load_n X (x := e32) (show cdA 77 172 = some (.iload_n 1, 1, 0, 0, 0) from rfl) (List.Mem.head _) ?_
            refine z_callV X 19 (rm := rmN 82) (As := [.int (Int32.ofInt e32)]) (st := []) (show cdA 77 173 = some (.invokevirtual 103, 3, 82, 0, 0) from rfl) rfl (by decide) rfl (by rw [E.1, E.2.1, E.2.2.1]; exact c7_put_19 G Is31 (by first | exact ⟨oq_e12b0ae3 hps31.1, oq_80ebb04a hps31.2⟩ | omega)) ⟨by rw [E.2.2.2]; exact (show 6 + 1 ≤ (12 + (4 * (0) + 1)) from oq_57ddffaa), by rw [E.2.2.2]; exact (show 8 + (2 + 11) + 100 ≤ (500 + 45 * (4 * (0) + 1)) from oq_9971bdcd), by rw [E.2.2.2]; exact Nat.le_refl 0, by rw [E.2.2.2]; exact Nat.le_refl 0⟩ (Nat.le_of_ble_eq_true rfl) (fun vv s34 hq => ?_) (fun ee s34 hq => ?_)
            rotate_left
            · obtain ⟨Is34, Fs34, hv, hps34⟩ := hq; cases hv
            obtain ⟨Is34, Fs34, hv, hps34⟩ := hq
            cases hv
            have Gs34 := fm_ts Gs31 Fs34 (by decide) (by decide)
            have ws34_2 : iI s34 2 = iI s31 2 := fm_i Fs34 (by decide)
            have ws34_1 : iI s34 1 = iI s31 1 := fm_i Fs34 (by decide)
            have ws34_4 : iI s34 4 = iI s31 4 := fm_i Fs34 (by decide)
            have ws34_5 : iI s34 5 = iI s31 5 := fm_i Fs34 (by decide)
            have ws34_6 : iI s34 6 = iI s31 6 := fm_i Fs34 (by decide)
            have ws34_19 : iI s34 19 = iI s31 19 := fm_i Fs34 (by decide)
            have b36 : (0 : Int) ≤ iI s34 16 ∧ iI s34 16 ≤ 200 := Is34.1 16
            show WS k 176 [(1, .int (Int32.ofInt e32)), (0, .ref (A 19))] [] (Wd A dT s34) 0 0
            refine z_aload_n X (x := A 19) (show cdA 77 176 = some (.aload_n 0, 1, 0, 0, 0) from rfl) (List.Mem.tail _ (List.Mem.head _)) ?_
            refine s_getR X 19 (show cdA 77 177 = some (.getfield 31, 3, 7, 0, 0) from rfl) (by decide) rfl rfl ?_
            refine z_callV X 1 (rm := rmN 129) (As := []) (st := []) (show cdA 77 180 = some (.invokevirtual 85, 3, 129, 0, 0) from rfl) rfl (by decide) rfl (by rw [E.1, E.2.1, E.2.2.1]; exact c10_step_1 G Is34 (by first | exact oq_25674cec ws34_1 ws34_2 ws31_1 ws31_2 ws28_1 ws28_2 ws12_1 ws12_2 p0 | omega)) ⟨by rw [E.2.2.2]; exact (show 7 + 1 ≤ (12 + (4 * (0) + 1)) from oq_547cef8b), by rw [E.2.2.2]; exact (show 8 + (1 + 11) + 121 ≤ (500 + 45 * (4 * (0) + 1)) from oq_0392e5c6), by rw [E.2.2.2]; exact Nat.le_refl 0, by rw [E.2.2.2]; exact Nat.le_refl 0⟩ (Nat.le_of_ble_eq_true rfl) (fun vv s37 hq => ?_) (fun ee s37 hq => ?_)
            rotate_left
            · obtain ⟨Is37, Fs37, hv, hps37⟩ := hq; cases hv
            obtain ⟨Is37, Fs37, hv, hps37⟩ := hq
            cases hv
            have Gs37 := fm_ts Gs34 Fs37 (by decide) (by decide)
            have b39 : (0 : Int) ≤ iI s37 2 ∧ iI s37 2 ≤ 200 := Is37.1 2
            have ws37_1 : iI s37 1 = iI s34 1 := fm_i Fs37 (by decide)
            have b40 : (0 : Int) ≤ iI s37 4 ∧ iI s37 4 ≤ 200 := Is37.1 4
            have b41 : ((-3) : Int) ≤ iI s37 5 ∧ iI s37 5 ≤ 255 := Is37.1 5
            have b42 : (0 : Int) ≤ iI s37 6 ∧ iI s37 6 ≤ 100000 := Is37.1 6
            have ws37_19 : iI s37 19 = iI s34 19 := fm_i Fs37 (by decide)
            have ws37_16 : iI s37 16 = iI s34 16 := fm_i Fs37 (by decide)
            show WS k 183 [(1, .int (Int32.ofInt e32)), (0, .ref (A 19))] [] (Wd A dT s37) 0 0
            refine z_const X (show cdA 77 183 = some (.iconst 1, 1, 0, 0, 0) from rfl) ?_
            exact w_iret X.1 q hRt (nar_ret (by first | exact Or.inr (by decide) | omega)) (ax_d X (show cdA 77 184 = some (.ireturn, 1, 0, 0, 0) from rfl)) (Nat.zero_le _) (Nat.zero_le _) ⟨_, rfl, Is37, Gs37, 1, rfl, (by decide), by first | exact ⟨Or.inr (And.intro (by decide) (oq_469c7eaf ws37_19 ws34_19 ws31_19 ws28_19 ws12_19)), hps37.1, hps37.2⟩ | omega⟩
          ·
            refine z_aload_n X (x := A 19) (show cdA 77 162 = some (.aload_n 0, 1, 0, 0, 0) from rfl) (List.Mem.tail _ (List.Mem.head _)) ?_
            refine s_getR X 19 (show cdA 77 163 = some (.getfield 31, 3, 7, 0, 0) from rfl) (by decide) rfl rfl ?_
            refine z_const X (show cdA 77 166 = some (.iconst 1, 1, 0, 0, 0) from rfl) ?_
            refine z_callV X 1 (rm := rmN 132) (As := [.int (Int32.ofInt 1)]) (st := []) (show cdA 77 167 = some (.invokevirtual 82, 3, 132, 0, 0) from rfl) rfl (by decide) rfl (by rw [E.1, E.2.1, E.2.2.1]; exact c10_refuse_1 G Is31 (by first | exact ⟨by decide, by decide⟩ | omega)) ⟨by rw [E.2.2.2]; exact (show 7 + 1 ≤ (12 + (4 * (0) + 1)) from oq_547cef8b), by rw [E.2.2.2]; exact (show 8 + (2 + 11) + 122 ≤ (500 + 45 * (4 * (0) + 1)) from oq_06c7c12d), by rw [E.2.2.2]; exact Nat.le_refl 0, by rw [E.2.2.2]; exact Nat.le_refl 0⟩ (Nat.le_of_ble_eq_true rfl) (fun vv s43 hq => ?_) (fun ee s43 hq => ?_)
            rotate_left
            · obtain ⟨Is43, Fs43, e44, hv, hrs43, hps43⟩ := hq; cases hv
            obtain ⟨Is43, Fs43, e44, hv, hrs43, hps43⟩ := hq
            cases hv
            have Gs43 := fm_ts Gs31 Fs43 (by decide) (by decide)
            have ws43_2 : iI s43 2 = iI s31 2 := fm_i Fs43 (by decide)
            have ws43_1 : iI s43 1 = iI s31 1 := fm_i Fs43 (by decide)
            have ws43_4 : iI s43 4 = iI s31 4 := fm_i Fs43 (by decide)
            have ws43_5 : iI s43 5 = iI s31 5 := fm_i Fs43 (by decide)
            have ws43_6 : iI s43 6 = iI s31 6 := fm_i Fs43 (by decide)
            have ws43_19 : iI s43 19 = iI s31 19 := fm_i Fs43 (by decide)
            have ws43_16 : iI s43 16 = iI s31 16 := fm_i Fs43 (by decide)
            show WS k 170 [(1, .int (Int32.ofInt e32)), (0, .ref (A 19))] [.int (Int32.ofInt e44)] (Wd A dT s43) 0 0
            exact w_iret X.1 q hRt (nar_ret (by first | exact Or.inl (hps43) | omega)) (ax_d X (show cdA 77 170 = some (.ireturn, 1, 0, 0, 0) from rfl)) (Nat.zero_le _) (Nat.zero_le _) ⟨_, rfl, Is43, Gs43, e44, rfl, hrs43, by first | exact ⟨Or.inl (hps43), oq_25674cec ws43_1 ws43_2 ws31_1 ws31_2 ws28_1 ws28_2 ws12_1 ws12_2 p0, oq_969cff60 ws43_4 ws43_2 ws31_4 ws31_2 ws28_4 ws28_2 ws12_4 ws12_2 p1⟩ | omega⟩
        ·
          refine z_aload_n X (x := A 19) (show cdA 77 127 = some (.aload_n 0, 1, 0, 0, 0) from rfl) (List.Mem.head _) ?_
          refine z_aload_n X (x := A 19) (show cdA 77 128 = some (.aload_n 0, 1, 0, 0, 0) from rfl) (List.Mem.head _) ?_
          refine s_getR X 19 (show cdA 77 129 = some (.getfield 31, 3, 7, 0, 0) from rfl) (by decide) rfl rfl ?_
          obtain ⟨tx125, q125, hR125, hS125⟩ := GT (125, 5) (by decide)
          refine w_ldcK X (show vk_R (kOwn k) 125 tx125 q125 (kS0 k) by rw [E.2.1, X.2.1.2.1]; exact hR125) (show decode (kCc k) 132 = .ok (.ldc 125, 2) by rw [X.2.1.1]; decide +kernel) ?_
          refine z_callV X 1 (rm := rmN 131) (As := [.ref q125]) (st := [.ref (A 19)]) (show cdA 77 134 = some (.invokevirtual 76, 3, 131, 0, 0) from rfl) rfl (by decide) rfl (by rw [E.1, E.2.1, E.2.2.1]; exact c10_says G SF hS125 Is28 (by first | exact oq_4407eb3c ws28_2 ws28_4 ws12_2 ws12_4 p1 | omega)) ⟨by rw [E.2.2.2]; exact (show 11 + 1 ≤ (12 + (4 * (0) + 1)) from oq_598d2d56), by rw [E.2.2.2]; exact (show 8 + (3 + 11) + 206 ≤ (500 + 45 * (4 * (0) + 1)) from oq_8d6a3487), by rw [E.2.2.2]; exact Nat.le_refl 0, by rw [E.2.2.2]; exact Nat.le_refl 0⟩ (Nat.le_of_ble_eq_true rfl) (fun vv s45 hq => ?_) (fun ee s45 hq => ?_)
          rotate_left
          · obtain ⟨Is45, Fs45, e46, hv, hrs45, hps45⟩ := hq; cases hv
          obtain ⟨Is45, Fs45, e46, hv, hrs45, hps45⟩ := hq
          cases hv
          have Gs45 := fm_ts Gs28 Fs45 (by decide) (by decide)
          have ws45_2 : iI s45 2 = iI s28 2 := fm_i Fs45 (by decide)
          have ws45_1 : iI s45 1 = iI s28 1 := fm_i Fs45 (by decide)
          have ws45_4 : iI s45 4 = iI s28 4 := fm_i Fs45 (by decide)
          have ws45_5 : iI s45 5 = iI s28 5 := fm_i Fs45 (by decide)
          have ws45_6 : iI s45 6 = iI s28 6 := fm_i Fs45 (by decide)
          have ws45_19 : iI s45 19 = iI s28 19 := fm_i Fs45 (by decide)
          have ws45_16 : iI s45 16 = iI s28 16 := fm_i Fs45 (by decide)
          show WS k 137 [(0, .ref (A 19))] [.int (Int32.ofInt e46), .ref (A 19)] (Wd A dT s45) 0 0
          have N47 : ∀ e48 : Int, (((e46 = 0) ∧ e48 = (-14)) ∨ ((e46 ≠ 0) ∧ e48 = (-13))) → WS k 147 [(0, .ref (A 19))] [.int (Int32.ofInt e48), .ref (A 19)] (Wd A dT s45) 0 0 := by
            intro e48 he48
            have re48 : (-14) ≤ e48 ∧ e48 ≤ (-13) := by omega
            refine z_callV X 19 (rm := (rkR (4 * (0)))) (As := [.int (Int32.ofInt e48)]) (st := []) (show cdA 77 147 = some (.invokevirtual 129, 3, 78, 0, 0) from rfl) rfl (by decide) rfl (by rw [E.1, E.2.1, E.2.2.1]; exact hT Is45 (by omega) (by first | exact oq_72ebe5a4 ws45_1 ws45_2 ws28_1 ws28_2 ws12_1 ws12_2 p0 | omega) (by first | exact oq_7f1a346e ws45_4 ws45_2 ws28_4 ws28_2 ws12_4 ws12_2 p1 | omega) (by first | exact oq_21fef13e ws45_19 ws28_19 ws12_19 p2 | omega)) ⟨by rw [E.2.2.2]; exact (show (12 + (4 * (0))) + 1 ≤ (12 + (4 * (0) + 1)) from oq_46bc030d), by rw [E.2.2.2]; exact (show 8 + (2 + 11) + (500 + 45 * (4 * (0))) ≤ (500 + 45 * (4 * (0) + 1)) from oq_1283f125), by rw [E.2.2.2]; exact Nat.le_refl 0, by rw [E.2.2.2]; exact Nat.le_refl 0⟩ (Nat.le_of_ble_eq_true rfl) (fun vv s49 hq => ?_) (fun ee s49 hq => ?_)
            rotate_left
            · obtain ⟨Is49, Fs49, e50, hv, hrs49, hps49⟩ := hq; cases hv
            obtain ⟨Is49, Fs49, e50, hv, hrs49, hps49⟩ := hq
            cases hv
            have Gs49 := fm_ts Gs45 Fs49 (by decide) (by decide)
            have b51 : (0 : Int) ≤ iI s49 2 ∧ iI s49 2 ≤ 200 := Is49.1 2
            have ws49_1 : iI s49 1 = iI s45 1 := fm_i Fs49 (by decide)
            have b52 : (0 : Int) ≤ iI s49 4 ∧ iI s49 4 ≤ 200 := Is49.1 4
            have b53 : ((-3) : Int) ≤ iI s49 5 ∧ iI s49 5 ≤ 255 := Is49.1 5
            have b54 : (0 : Int) ≤ iI s49 6 ∧ iI s49 6 ≤ 100000 := Is49.1 6
            have b55 : (0 : Int) ≤ iI s49 19 ∧ iI s49 19 ≤ 6 := Is49.1 19
            have b56 : (0 : Int) ≤ iI s49 16 ∧ iI s49 16 ≤ 200 := Is49.1 16
            show WS k 150 [(0, .ref (A 19))] [.int (Int32.ofInt e50)] (Wd A dT s49) 0 0
            exact w_iret X.1 q hRt (nar_ret (by omega)) (ax_d X (show cdA 77 150 = some (.ireturn, 1, 0, 0, 0) from rfl)) (Nat.zero_le _) (Nat.zero_le _) ⟨_, rfl, Is49, Gs49, e50, rfl, hrs49, by omega⟩
          refine z_if_eq X (t := 145) (show cdA 77 137 = some (.ifCond .eq 8, 3, 0, 0, 0) from rfl) (by decide) hrs45 (fun g57 => ?_) (fun g57 => ?_)
          ·
            refine z_bipush X (show cdA 77 145 = some (.bipush (-14), 2, 0, 0, (-14)) from rfl) ?_
            exact N47 _ (Or.inl ⟨g57, rfl⟩)
          ·
            refine z_bipush X (show cdA 77 140 = some (.bipush (-13), 2, 0, 0, (-13)) from rfl) ?_
            refine z_goto X (t := 147) (show cdA 77 142 = some (.goto 5, 3, 0, 0, 0) from rfl) (by decide) ?_
            exact N47 _ (Or.inr (⟨g57, rfl⟩))
    ·
      refine z_aload_n X (x := A 19) (show cdA 77 66 = some (.aload_n 0, 1, 0, 0, 0) from rfl) (List.Mem.head _) ?_
      refine z_callV X 19 (rm := rmN 80) (As := []) (st := []) (show cdA 77 67 = some (.invokevirtual 113, 3, 80, 0, 0) from rfl) rfl (by decide) rfl (by rw [E.1, E.2.1, E.2.2.1]; exact c7_enter_19 G I (by first | exact p0 | omega) (by first | exact p1 | omega)) ⟨by rw [E.2.2.2]; exact (show 8 + 1 ≤ (12 + (4 * (0) + 1)) from oq_a933ac9a), by rw [E.2.2.2]; exact (show 8 + (1 + 11) + 143 ≤ (500 + 45 * (4 * (0) + 1)) from oq_36a13c53), by rw [E.2.2.2]; exact Nat.le_refl 0, by rw [E.2.2.2]; exact Nat.le_refl 0⟩ (Nat.le_of_ble_eq_true rfl) (fun vv s58 hq => ?_) (fun ee s58 hq => ?_)
      rotate_left
      · obtain ⟨Is58, Fs58, e59, hv, hrs58, hps58⟩ := hq; cases hv
      obtain ⟨Is58, Fs58, e59, hv, hrs58, hps58⟩ := hq
      cases hv
      have Gs58 := fm_ts F Fs58 (by decide) (by decide)
      have b60 : (0 : Int) ≤ iI s58 2 ∧ iI s58 2 ≤ 200 := Is58.1 2
      have ws58_1 : iI s58 1 = iI s 1 := fm_i Fs58 (by decide)
      have b61 : (0 : Int) ≤ iI s58 4 ∧ iI s58 4 ≤ 200 := Is58.1 4
      have b62 : ((-3) : Int) ≤ iI s58 5 ∧ iI s58 5 ≤ 255 := Is58.1 5
      have b63 : (0 : Int) ≤ iI s58 6 ∧ iI s58 6 ≤ 100000 := Is58.1 6
      have b64 : (0 : Int) ≤ iI s58 19 ∧ iI s58 19 ≤ 6 := Is58.1 19
      have ws58_16 : iI s58 16 = iI s 16 := fm_i Fs58 (by decide)
      show WS k 70 [(0, .ref (A 19))] [.int (Int32.ofInt e59)] (Wd A dT s58) 0 0
      refine z_if_eq X (t := 89) (show cdA 77 70 = some (.ifCond .eq 19, 3, 0, 0, 0) from rfl) (by decide) hrs58 (fun g65 => ?_) (fun g65 => ?_)
      ·
        refine z_const X (show cdA 77 89 = some (.iconst 0, 1, 0, 0, 0) from rfl) ?_
        exact w_iret X.1 q hRt (nar_ret (by first | exact Or.inl (by decide) | omega)) (ax_d X (show cdA 77 90 = some (.ireturn, 1, 0, 0, 0) from rfl)) (Nat.zero_le _) (Nat.zero_le _) ⟨_, rfl, Is58, Gs58, 0, rfl, (by decide), by first | exact ⟨Or.inl (by decide), hps58.2.1, hps58.2.2⟩ | omega⟩
      ·
        exfalso
        omega
  ·
    refine z_aload_n X (x := A 19) (show cdA 77 12 = some (.aload_n 0, 1, 0, 0, 0) from rfl) (List.Mem.head _) ?_
    refine s_getR X 19 (show cdA 77 13 = some (.getfield 31, 3, 7, 0, 0) from rfl) (by decide) rfl rfl ?_
    refine z_getI X 1 (show cdA 77 16 = some (.getfield 122, 3, 10, 7, 0) from rfl) (by decide) rfl rfl ?_
    have b66 : (0 : Int) ≤ iI s 6 ∧ iI s 6 ≤ 100000 := I.1 6
    refine z_sipush X (show cdA 77 19 = some (.sipush 999, 3, 0, 0, 999) from rfl) ?_
    refine z_icmp_le X (t := 34) (show cdA 77 22 = some (.if_icmp .le 12, 3, 5, 0, 0) from rfl) (by decide) (rng_to _) (by decide) (fun g67 => ?_) (fun g67 => ?_)
    ·
      refine z_aload_n X (x := A 19) (show cdA 77 34 = some (.aload_n 0, 1, 0, 0, 0) from rfl) (List.Mem.head _) ?_
      refine z_aload_n X (x := A 19) (show cdA 77 35 = some (.aload_n 0, 1, 0, 0, 0) from rfl) (List.Mem.head _) ?_
      refine s_getR X 19 (show cdA 77 36 = some (.getfield 31, 3, 7, 0, 0) from rfl) (by decide) rfl rfl ?_
      refine z_getI X 1 (show cdA 77 39 = some (.getfield 122, 3, 10, 7, 0) from rfl) (by decide) rfl rfl ?_
      have b68 : (0 : Int) ≤ iI s 6 ∧ iI s 6 ≤ 100000 := I.1 6
      refine z_callV X 19 (rm := rmN 82) (As := [.int (Int32.ofInt (iI s 6))]) (st := []) (show cdA 77 42 = some (.invokevirtual 103, 3, 82, 0, 0) from rfl) rfl (by decide) rfl (by rw [E.1, E.2.1, E.2.2.1]; exact c7_put_19 G I (by first | exact ⟨oq_fa4e5087 b68.1, oq_25953902 b68.2⟩ | omega)) ⟨by rw [E.2.2.2]; exact (show 6 + 1 ≤ (12 + (4 * (0) + 1)) from oq_57ddffaa), by rw [E.2.2.2]; exact (show 8 + (2 + 11) + 100 ≤ (500 + 45 * (4 * (0) + 1)) from oq_9971bdcd), by rw [E.2.2.2]; exact Nat.le_refl 0, by rw [E.2.2.2]; exact Nat.le_refl 0⟩ (Nat.le_of_ble_eq_true rfl) (fun vv s69 hq => ?_) (fun ee s69 hq => ?_)
      rotate_left
      · obtain ⟨Is69, Fs69, hv, hps69⟩ := hq; cases hv
      obtain ⟨Is69, Fs69, hv, hps69⟩ := hq
      cases hv
      have Gs69 := fm_ts F Fs69 (by decide) (by decide)
      have ws69_2 : iI s69 2 = iI s 2 := fm_i Fs69 (by decide)
      have ws69_1 : iI s69 1 = iI s 1 := fm_i Fs69 (by decide)
      have ws69_4 : iI s69 4 = iI s 4 := fm_i Fs69 (by decide)
      have ws69_5 : iI s69 5 = iI s 5 := fm_i Fs69 (by decide)
      have ws69_6 : iI s69 6 = iI s 6 := fm_i Fs69 (by decide)
      have ws69_19 : iI s69 19 = iI s 19 := fm_i Fs69 (by decide)
      have b71 : (0 : Int) ≤ iI s69 16 ∧ iI s69 16 ≤ 200 := Is69.1 16
      show WS k 45 [(0, .ref (A 19))] [] (Wd A dT s69) 0 0
      refine z_aload_n X (x := A 19) (show cdA 77 45 = some (.aload_n 0, 1, 0, 0, 0) from rfl) (List.Mem.head _) ?_
      refine s_getR X 19 (show cdA 77 46 = some (.getfield 31, 3, 7, 0, 0) from rfl) (by decide) rfl rfl ?_
      refine z_callV X 1 (rm := rmN 129) (As := []) (st := []) (show cdA 77 49 = some (.invokevirtual 85, 3, 129, 0, 0) from rfl) rfl (by decide) rfl (by rw [E.1, E.2.1, E.2.2.1]; exact c10_step_1 G Is69 (by first | exact oq_e7b9ecab ws69_1 ws69_2 p0 | omega)) ⟨by rw [E.2.2.2]; exact (show 7 + 1 ≤ (12 + (4 * (0) + 1)) from oq_547cef8b), by rw [E.2.2.2]; exact (show 8 + (1 + 11) + 121 ≤ (500 + 45 * (4 * (0) + 1)) from oq_0392e5c6), by rw [E.2.2.2]; exact Nat.le_refl 0, by rw [E.2.2.2]; exact Nat.le_refl 0⟩ (Nat.le_of_ble_eq_true rfl) (fun vv s72 hq => ?_) (fun ee s72 hq => ?_)
      rotate_left
      · obtain ⟨Is72, Fs72, hv, hps72⟩ := hq; cases hv
      obtain ⟨Is72, Fs72, hv, hps72⟩ := hq
      cases hv
      have Gs72 := fm_ts Gs69 Fs72 (by decide) (by decide)
      have b74 : (0 : Int) ≤ iI s72 2 ∧ iI s72 2 ≤ 200 := Is72.1 2
      have ws72_1 : iI s72 1 = iI s69 1 := fm_i Fs72 (by decide)
      have b75 : (0 : Int) ≤ iI s72 4 ∧ iI s72 4 ≤ 200 := Is72.1 4
      have b76 : ((-3) : Int) ≤ iI s72 5 ∧ iI s72 5 ≤ 255 := Is72.1 5
      have b77 : (0 : Int) ≤ iI s72 6 ∧ iI s72 6 ≤ 100000 := Is72.1 6
      have ws72_19 : iI s72 19 = iI s69 19 := fm_i Fs72 (by decide)
      have ws72_16 : iI s72 16 = iI s69 16 := fm_i Fs72 (by decide)
      show WS k 52 [(0, .ref (A 19))] [] (Wd A dT s72) 0 0
      refine z_const X (show cdA 77 52 = some (.iconst 1, 1, 0, 0, 0) from rfl) ?_
      exact w_iret X.1 q hRt (nar_ret (by first | exact Or.inr (by decide) | omega)) (ax_d X (show cdA 77 53 = some (.ireturn, 1, 0, 0, 0) from rfl)) (Nat.zero_le _) (Nat.zero_le _) ⟨_, rfl, Is72, Gs72, 1, rfl, (by decide), by first | exact ⟨Or.inr (And.intro (by decide) (oq_1aa5be9e ws72_19 ws69_19)), hps72.1, hps72.2⟩ | omega⟩
    ·
      refine z_aload_n X (x := A 19) (show cdA 77 25 = some (.aload_n 0, 1, 0, 0, 0) from rfl) (List.Mem.head _) ?_
      refine s_getR X 19 (show cdA 77 26 = some (.getfield 31, 3, 7, 0, 0) from rfl) (by decide) rfl rfl ?_
      refine z_const X (show cdA 77 29 = some (.iconst 2, 1, 0, 0, 0) from rfl) ?_
      refine z_callV X 1 (rm := rmN 132) (As := [.int (Int32.ofInt 2)]) (st := []) (show cdA 77 30 = some (.invokevirtual 82, 3, 132, 0, 0) from rfl) rfl (by decide) rfl (by rw [E.1, E.2.1, E.2.2.1]; exact c10_refuse_1 G I (by first | exact ⟨by decide, by decide⟩ | omega)) ⟨by rw [E.2.2.2]; exact (show 7 + 1 ≤ (12 + (4 * (0) + 1)) from oq_547cef8b), by rw [E.2.2.2]; exact (show 8 + (2 + 11) + 122 ≤ (500 + 45 * (4 * (0) + 1)) from oq_06c7c12d), by rw [E.2.2.2]; exact Nat.le_refl 0, by rw [E.2.2.2]; exact Nat.le_refl 0⟩ (Nat.le_of_ble_eq_true rfl) (fun vv s78 hq => ?_) (fun ee s78 hq => ?_)
      rotate_left
      · obtain ⟨Is78, Fs78, e79, hv, hrs78, hps78⟩ := hq; cases hv
      obtain ⟨Is78, Fs78, e79, hv, hrs78, hps78⟩ := hq
      cases hv
      have Gs78 := fm_ts F Fs78 (by decide) (by decide)
      have ws78_2 : iI s78 2 = iI s 2 := fm_i Fs78 (by decide)
      have ws78_1 : iI s78 1 = iI s 1 := fm_i Fs78 (by decide)
      have ws78_4 : iI s78 4 = iI s 4 := fm_i Fs78 (by decide)
      have ws78_5 : iI s78 5 = iI s 5 := fm_i Fs78 (by decide)
      have ws78_6 : iI s78 6 = iI s 6 := fm_i Fs78 (by decide)
      have ws78_19 : iI s78 19 = iI s 19 := fm_i Fs78 (by decide)
      have ws78_16 : iI s78 16 = iI s 16 := fm_i Fs78 (by decide)
      show WS k 33 [(0, .ref (A 19))] [.int (Int32.ofInt e79)] (Wd A dT s78) 0 0
      exact w_iret X.1 q hRt (nar_ret (by first | exact Or.inl (hps78) | omega)) (ax_d X (show cdA 77 33 = some (.ireturn, 1, 0, 0, 0) from rfl)) (Nat.zero_le _) (Nat.zero_le _) ⟨_, rfl, Is78, Gs78, e79, rfl, hrs78, by first | exact ⟨Or.inl (hps78), oq_e7b9ecab ws78_1 ws78_2 p0, oq_e7b9ecab ws78_2 ws78_4 p1⟩ | omega⟩
set_option maxRecDepth 4000 in
theorem c7_unitS (G : GX l s0 D tys a0 dT) (SF : SF0 s0) (GT : TXs0 s0) {r : Nat} (hT : ∀ {s : PS} {x : Int}, Bd s → (rng x) → (iI s 2 ≤ iI s 1) → (iI s 4 ≤ iI s 2) → (6 - iI s 19 ≤ ((r + 1 : Nat) : Int)) → CT l s0 D A dT 78 (rkR (4 * (r + 1))) [.ref (A 19), .int (Int32.ofInt x)] s (fun o t => Bd t ∧ Fm [2, 4, 6, 5, 7, 8, 19, 16] [18] s t ∧ ∃ e, o = .inl (some (.int (Int32.ofInt e))) ∧ rng e ∧ ((e = 0 ∨ (e = 1 ∧ iI t 19 = iI s 19)) ∧ iI t 2 ≤ iI t 1 ∧ iI t 4 ≤ iI t 2))) (hS : ∀ {s : PS} , Bd s → (iI s 2 ≤ iI s 1) → (iI s 4 ≤ iI s 2) → (6 - iI s 19 ≤ ((r : Nat) : Int)) → CT l s0 D A dT 75 (rkR (4 * (r) + 3)) [.ref (A 19)] s (fun o t => Bd t ∧ Fm [2, 4, 6, 5, 7, 8, 19, 16] [18] s t ∧ ∃ e, o = .inl (some (.int (Int32.ofInt e))) ∧ rng e ∧ ((e = 0 ∨ (e = 1 ∧ iI t 19 = iI s 19)) ∧ iI t 2 ≤ iI t 1 ∧ iI t 4 ≤ iI t 2))) (I : Bd s) (p0 : iI s 2 ≤ iI s 1) (p1 : iI s 4 ≤ iI s 2) (p2 : 6 - iI s 19 ≤ ((r + 1 : Nat) : Int)) : CT l s0 D A dT 77 (rkR (4 * (r + 1) + 1)) [.ref (A 19)] s (fun o t => Bd t ∧ Fm [2, 4, 6, 5, 7, 8, 19, 16] [18] s t ∧ ∃ e, o = .inl (some (.int (Int32.ofInt e))) ∧ rng e ∧ ((e = 0 ∨ (e = 1 ∧ iI t 19 = iI s 19)) ∧ iI t 2 ≤ iI t 1 ∧ iI t 4 ≤ iI t 2)) := by
  refine ct_ofX G (by decide) (Nat.le_of_ble_eq_true rfl) (fun k X E ET hRt hXt q => ?_)
  show WS k 0 [(0, .ref (A 19))] [] _ 0 0
  have F : Fm [2, 4, 6, 5, 7, 8, 19, 16] [18] s s := fm_rf _ _ s
  have b1 : (0 : Int) ≤ iI s 2 ∧ iI s 2 ≤ 200 := I.1 2
  have b2 : (0 : Int) ≤ iI s 1 ∧ iI s 1 ≤ 200 := I.1 1
  have b3 : (0 : Int) ≤ iI s 4 ∧ iI s 4 ≤ 200 := I.1 4
  have b4 : ((-3) : Int) ≤ iI s 5 ∧ iI s 5 ≤ 255 := I.1 5
  have b5 : (0 : Int) ≤ iI s 6 ∧ iI s 6 ≤ 100000 := I.1 6
  have b6 : (0 : Int) ≤ iI s 19 ∧ iI s 19 ≤ 6 := I.1 19
  have b7 : (0 : Int) ≤ iI s 16 ∧ iI s 16 ≤ 200 := I.1 16
  refine z_aload_n X (x := A 19) (show cdA 77 0 = some (.aload_n 0, 1, 0, 0, 0) from rfl) (List.Mem.head _) ?_
  refine s_getR X 19 (show cdA 77 1 = some (.getfield 31, 3, 7, 0, 0) from rfl) (by decide) rfl rfl ?_
  refine z_getI X 1 (show cdA 77 4 = some (.getfield 47, 3, 10, 6, 0) from rfl) (by decide) rfl rfl ?_
  have b8 : ((-3) : Int) ≤ iI s 5 ∧ iI s 5 ≤ 255 := I.1 5
  refine z_bipush X (show cdA 77 7 = some (.bipush (-2), 2, 0, 0, (-2)) from rfl) ?_
  refine z_icmp_ne X (t := 54) (show cdA 77 9 = some (.if_icmp .ne 45, 3, 1, 0, 0) from rfl) (by decide) (rng_to _) (by decide) (fun g9 => ?_) (fun g9 => ?_)
  ·
    refine z_aload_n X (x := A 19) (show cdA 77 54 = some (.aload_n 0, 1, 0, 0, 0) from rfl) (List.Mem.head _) ?_
    refine s_getR X 19 (show cdA 77 55 = some (.getfield 31, 3, 7, 0, 0) from rfl) (by decide) rfl rfl ?_
    refine z_getI X 1 (show cdA 77 58 = some (.getfield 47, 3, 10, 6, 0) from rfl) (by decide) rfl rfl ?_
    have b10 : ((-3) : Int) ≤ iI s 5 ∧ iI s 5 ≤ 255 := I.1 5
    refine z_bipush X (show cdA 77 61 = some (.bipush 40, 2, 0, 0, 40) from rfl) ?_
    refine z_icmp_ne X (t := 103) (show cdA 77 63 = some (.if_icmp .ne 40, 3, 1, 0, 0) from rfl) (by decide) (rng_to _) (by decide) (fun g11 => ?_) (fun g11 => ?_)
    ·
      refine z_aload_n X (x := A 19) (show cdA 77 103 = some (.aload_n 0, 1, 0, 0, 0) from rfl) (List.Mem.head _) ?_
      refine s_getR X 19 (show cdA 77 104 = some (.getfield 31, 3, 7, 0, 0) from rfl) (by decide) rfl rfl ?_
      obtain ⟨tx125, q125, hR125, hS125⟩ := GT (125, 5) (by decide)
      refine w_ldcK X (show vk_R (kOwn k) 125 tx125 q125 (kS0 k) by rw [E.2.1, X.2.1.2.1]; exact hR125) (show decode (kCc k) 107 = .ok (.ldc 125, 2) by rw [X.2.1.1]; decide +kernel) ?_
      refine z_callV X 1 (rm := rmN 131) (As := [.ref q125]) (st := []) (show cdA 77 109 = some (.invokevirtual 76, 3, 131, 0, 0) from rfl) rfl (by decide) rfl (by rw [E.1, E.2.1, E.2.2.1]; exact c10_says G SF hS125 I (by first | exact p1 | omega)) ⟨by rw [E.2.2.2]; exact (show 11 + 1 ≤ (12 + (4 * (r + 1) + 1)) from oq_21805ac9 r), by rw [E.2.2.2]; exact (show 8 + (3 + 11) + 206 ≤ (500 + 45 * (4 * (r + 1) + 1)) from oq_1a54e9c9 r), by rw [E.2.2.2]; exact Nat.le_refl 0, by rw [E.2.2.2]; exact Nat.le_refl 0⟩ (Nat.le_of_ble_eq_true rfl) (fun vv s12 hq => ?_) (fun ee s12 hq => ?_)
      rotate_left
      · obtain ⟨Is12, Fs12, e13, hv, hrs12, hps12⟩ := hq; cases hv
      obtain ⟨Is12, Fs12, e13, hv, hrs12, hps12⟩ := hq
      cases hv
      have Gs12 := fm_ts F Fs12 (by decide) (by decide)
      have ws12_2 : iI s12 2 = iI s 2 := fm_i Fs12 (by decide)
      have ws12_1 : iI s12 1 = iI s 1 := fm_i Fs12 (by decide)
      have ws12_4 : iI s12 4 = iI s 4 := fm_i Fs12 (by decide)
      have ws12_5 : iI s12 5 = iI s 5 := fm_i Fs12 (by decide)
      have ws12_6 : iI s12 6 = iI s 6 := fm_i Fs12 (by decide)
      have ws12_19 : iI s12 19 = iI s 19 := fm_i Fs12 (by decide)
      have ws12_16 : iI s12 16 = iI s 16 := fm_i Fs12 (by decide)
      show WS k 112 [(0, .ref (A 19))] [.int (Int32.ofInt e13)] (Wd A dT s12) 0 0
      refine z_if_ne X (t := 127) (show cdA 77 112 = some (.ifCond .ne 15, 3, 1, 0, 0) from rfl) (by decide) hrs12 (fun g14 => ?_) (fun g14 => ?_)
      ·
        refine z_aload_n X (x := A 19) (show cdA 77 127 = some (.aload_n 0, 1, 0, 0, 0) from rfl) (List.Mem.head _) ?_
        refine z_aload_n X (x := A 19) (show cdA 77 128 = some (.aload_n 0, 1, 0, 0, 0) from rfl) (List.Mem.head _) ?_
        refine s_getR X 19 (show cdA 77 129 = some (.getfield 31, 3, 7, 0, 0) from rfl) (by decide) rfl rfl ?_
        obtain ⟨tx125, q125, hR125, hS125⟩ := GT (125, 5) (by decide)
        refine w_ldcK X (show vk_R (kOwn k) 125 tx125 q125 (kS0 k) by rw [E.2.1, X.2.1.2.1]; exact hR125) (show decode (kCc k) 132 = .ok (.ldc 125, 2) by rw [X.2.1.1]; decide +kernel) ?_
        refine z_callV X 1 (rm := rmN 131) (As := [.ref q125]) (st := [.ref (A 19)]) (show cdA 77 134 = some (.invokevirtual 76, 3, 131, 0, 0) from rfl) rfl (by decide) rfl (by rw [E.1, E.2.1, E.2.2.1]; exact c10_says G SF hS125 Is12 (by first | exact oq_e7b9ecab ws12_2 ws12_4 p1 | omega)) ⟨by rw [E.2.2.2]; exact (show 11 + 1 ≤ (12 + (4 * (r + 1) + 1)) from oq_21805ac9 r), by rw [E.2.2.2]; exact (show 8 + (3 + 11) + 206 ≤ (500 + 45 * (4 * (r + 1) + 1)) from oq_1a54e9c9 r), by rw [E.2.2.2]; exact Nat.le_refl 0, by rw [E.2.2.2]; exact Nat.le_refl 0⟩ (Nat.le_of_ble_eq_true rfl) (fun vv s15 hq => ?_) (fun ee s15 hq => ?_)
        rotate_left
        · obtain ⟨Is15, Fs15, e16, hv, hrs15, hps15⟩ := hq; cases hv
        obtain ⟨Is15, Fs15, e16, hv, hrs15, hps15⟩ := hq
        cases hv
        have Gs15 := fm_ts Gs12 Fs15 (by decide) (by decide)
        have ws15_2 : iI s15 2 = iI s12 2 := fm_i Fs15 (by decide)
        have ws15_1 : iI s15 1 = iI s12 1 := fm_i Fs15 (by decide)
        have ws15_4 : iI s15 4 = iI s12 4 := fm_i Fs15 (by decide)
        have ws15_5 : iI s15 5 = iI s12 5 := fm_i Fs15 (by decide)
        have ws15_6 : iI s15 6 = iI s12 6 := fm_i Fs15 (by decide)
        have ws15_19 : iI s15 19 = iI s12 19 := fm_i Fs15 (by decide)
        have ws15_16 : iI s15 16 = iI s12 16 := fm_i Fs15 (by decide)
        show WS k 137 [(0, .ref (A 19))] [.int (Int32.ofInt e16), .ref (A 19)] (Wd A dT s15) 0 0
        have N17 : ∀ e18 : Int, (((e16 = 0) ∧ e18 = (-14)) ∨ ((e16 ≠ 0) ∧ e18 = (-13))) → WS k 147 [(0, .ref (A 19))] [.int (Int32.ofInt e18), .ref (A 19)] (Wd A dT s15) 0 0 := by
          intro e18 he18
          have re18 : (-14) ≤ e18 ∧ e18 ≤ (-13) := by omega
          refine z_callV X 19 (rm := (rkR (4 * (r + 1)))) (As := [.int (Int32.ofInt e18)]) (st := []) (show cdA 77 147 = some (.invokevirtual 129, 3, 78, 0, 0) from rfl) rfl (by decide) rfl (by rw [E.1, E.2.1, E.2.2.1]; exact hT Is15 (by omega) (by first | exact oq_4407eb3c ws15_1 ws15_2 ws12_1 ws12_2 p0 | omega) (by first | exact oq_4407eb3c ws15_2 ws15_4 ws12_2 ws12_4 p1 | omega) (by first | exact oq_94b38e3b p2 ws15_19 ws12_19 | omega)) ⟨by rw [E.2.2.2]; exact (show (12 + (4 * (r + 1))) + 1 ≤ (12 + (4 * (r + 1) + 1)) from oq_183d1057 r), by rw [E.2.2.2]; exact (show 8 + (2 + 11) + (500 + 45 * (4 * (r + 1))) ≤ (500 + 45 * (4 * (r + 1) + 1)) from oq_ce6206a2 r), by rw [E.2.2.2]; exact Nat.le_refl 0, by rw [E.2.2.2]; exact Nat.le_refl 0⟩ (Nat.le_of_ble_eq_true rfl) (fun vv s19 hq => ?_) (fun ee s19 hq => ?_)
          rotate_left
          · obtain ⟨Is19, Fs19, e20, hv, hrs19, hps19⟩ := hq; cases hv
          obtain ⟨Is19, Fs19, e20, hv, hrs19, hps19⟩ := hq
          cases hv
          have Gs19 := fm_ts Gs15 Fs19 (by decide) (by decide)
          have b21 : (0 : Int) ≤ iI s19 2 ∧ iI s19 2 ≤ 200 := Is19.1 2
          have ws19_1 : iI s19 1 = iI s15 1 := fm_i Fs19 (by decide)
          have b22 : (0 : Int) ≤ iI s19 4 ∧ iI s19 4 ≤ 200 := Is19.1 4
          have b23 : ((-3) : Int) ≤ iI s19 5 ∧ iI s19 5 ≤ 255 := Is19.1 5
          have b24 : (0 : Int) ≤ iI s19 6 ∧ iI s19 6 ≤ 100000 := Is19.1 6
          have b25 : (0 : Int) ≤ iI s19 19 ∧ iI s19 19 ≤ 6 := Is19.1 19
          have b26 : (0 : Int) ≤ iI s19 16 ∧ iI s19 16 ≤ 200 := Is19.1 16
          show WS k 150 [(0, .ref (A 19))] [.int (Int32.ofInt e20)] (Wd A dT s19) 0 0
          exact w_iret X.1 q hRt (nar_ret (by omega)) (ax_d X (show cdA 77 150 = some (.ireturn, 1, 0, 0, 0) from rfl)) (Nat.zero_le _) (Nat.zero_le _) ⟨_, rfl, Is19, Gs19, e20, rfl, hrs19, by omega⟩
        refine z_if_eq X (t := 145) (show cdA 77 137 = some (.ifCond .eq 8, 3, 0, 0, 0) from rfl) (by decide) hrs15 (fun g27 => ?_) (fun g27 => ?_)
        ·
          refine z_bipush X (show cdA 77 145 = some (.bipush (-14), 2, 0, 0, (-14)) from rfl) ?_
          exact N17 _ (Or.inl ⟨g27, rfl⟩)
        ·
          refine z_bipush X (show cdA 77 140 = some (.bipush (-13), 2, 0, 0, (-13)) from rfl) ?_
          refine z_goto X (t := 147) (show cdA 77 142 = some (.goto 5, 3, 0, 0, 0) from rfl) (by decide) ?_
          exact N17 _ (Or.inr (⟨g27, rfl⟩))
      ·
        refine z_aload_n X (x := A 19) (show cdA 77 115 = some (.aload_n 0, 1, 0, 0, 0) from rfl) (List.Mem.head _) ?_
        refine s_getR X 19 (show cdA 77 116 = some (.getfield 31, 3, 7, 0, 0) from rfl) (by decide) rfl rfl ?_
        obtain ⟨tx127, q127, hR127, hS127⟩ := GT (127, 4) (by decide)
        refine w_ldcK X (show vk_R (kOwn k) 127 tx127 q127 (kS0 k) by rw [E.2.1, X.2.1.2.1]; exact hR127) (show decode (kCc k) 119 = .ok (.ldc 127, 2) by rw [X.2.1.1]; decide +kernel) ?_
        refine z_callV X 1 (rm := rmN 131) (As := [.ref q127]) (st := []) (show cdA 77 121 = some (.invokevirtual 76, 3, 131, 0, 0) from rfl) rfl (by decide) rfl (by rw [E.1, E.2.1, E.2.2.1]; exact c10_says G SF hS127 Is12 (by first | exact oq_e7b9ecab ws12_2 ws12_4 p1 | omega)) ⟨by rw [E.2.2.2]; exact (show 11 + 1 ≤ (12 + (4 * (r + 1) + 1)) from oq_21805ac9 r), by rw [E.2.2.2]; exact (show 8 + (3 + 11) + 206 ≤ (500 + 45 * (4 * (r + 1) + 1)) from oq_1a54e9c9 r), by rw [E.2.2.2]; exact Nat.le_refl 0, by rw [E.2.2.2]; exact Nat.le_refl 0⟩ (Nat.le_of_ble_eq_true rfl) (fun vv s28 hq => ?_) (fun ee s28 hq => ?_)
        rotate_left
        · obtain ⟨Is28, Fs28, e29, hv, hrs28, hps28⟩ := hq; cases hv
        obtain ⟨Is28, Fs28, e29, hv, hrs28, hps28⟩ := hq
        cases hv
        have Gs28 := fm_ts Gs12 Fs28 (by decide) (by decide)
        have ws28_2 : iI s28 2 = iI s12 2 := fm_i Fs28 (by decide)
        have ws28_1 : iI s28 1 = iI s12 1 := fm_i Fs28 (by decide)
        have ws28_4 : iI s28 4 = iI s12 4 := fm_i Fs28 (by decide)
        have ws28_5 : iI s28 5 = iI s12 5 := fm_i Fs28 (by decide)
        have ws28_6 : iI s28 6 = iI s12 6 := fm_i Fs28 (by decide)
        have ws28_19 : iI s28 19 = iI s12 19 := fm_i Fs28 (by decide)
        have ws28_16 : iI s28 16 = iI s12 16 := fm_i Fs28 (by decide)
        show WS k 124 [(0, .ref (A 19))] [.int (Int32.ofInt e29)] (Wd A dT s28) 0 0
        refine z_if_eq X (t := 151) (show cdA 77 124 = some (.ifCond .eq 27, 3, 0, 0, 0) from rfl) (by decide) hrs28 (fun g30 => ?_) (fun g30 => ?_)
        ·
          refine z_aload_n X (x := A 19) (show cdA 77 151 = some (.aload_n 0, 1, 0, 0, 0) from rfl) (List.Mem.head _) ?_
          refine z_callV X 19 (rm := rmN 79) (As := []) (st := []) (show cdA 77 152 = some (.invokevirtual 132, 3, 79, 0, 0) from rfl) rfl (by decide) rfl (by rw [E.1, E.2.1, E.2.2.1]; exact c7_codeOfName_19 G SF GT Is28 (by first | exact oq_4407eb3c ws28_1 ws28_2 ws12_1 ws12_2 p0 | omega) (by first | exact oq_4407eb3c ws28_2 ws28_4 ws12_2 ws12_4 p1 | omega)) ⟨by rw [E.2.2.2]; exact (show 12 + 1 ≤ (12 + (4 * (r + 1) + 1)) from oq_e4de711e r), by rw [E.2.2.2]; exact (show 8 + (1 + 11) + 228 ≤ (500 + 45 * (4 * (r + 1) + 1)) from oq_afe52482 r), by rw [E.2.2.2]; exact Nat.le_refl 0, by rw [E.2.2.2]; exact Nat.le_refl 0⟩ (Nat.le_of_ble_eq_true rfl) (fun vv s31 hq => ?_) (fun ee s31 hq => ?_)
          rotate_left
          · obtain ⟨Is31, Fs31, e32, hv, hrs31, hps31⟩ := hq; cases hv
          obtain ⟨Is31, Fs31, e32, hv, hrs31, hps31⟩ := hq
          cases hv
          have Gs31 := fm_ts Gs28 Fs31 (by decide) (by decide)
          have ws31_2 : iI s31 2 = iI s28 2 := fm_i Fs31 (by decide)
          have ws31_1 : iI s31 1 = iI s28 1 := fm_i Fs31 (by decide)
          have ws31_4 : iI s31 4 = iI s28 4 := fm_i Fs31 (by decide)
          have ws31_5 : iI s31 5 = iI s28 5 := fm_i Fs31 (by decide)
          have ws31_6 : iI s31 6 = iI s28 6 := fm_i Fs31 (by decide)
          have ws31_19 : iI s31 19 = iI s28 19 := fm_i Fs31 (by decide)
          have ws31_16 : iI s31 16 = iI s28 16 := fm_i Fs31 (by decide)
          show WS k 155 [(0, .ref (A 19))] [.int (Int32.ofInt e32)] (Wd A dT s31) 0 0
          refine z_store_n X (lv' := [(1, .int (Int32.ofInt e32)), (0, .ref (A 19))]) (show cdA 77 155 = some (.istore_n 1, 1, 0, 0, 0) from rfl) (by decide) (fun _ h => h) ?_
          refine z_load_n X (x := e32) (show cdA 77 156 = some (.iload_n 1, 1, 0, 0, 0) from rfl) (List.Mem.head _) ?_
          refine z_bipush X (show cdA 77 157 = some (.bipush (-20), 2, 0, 0, (-20)) from rfl) ?_
          refine z_icmp_ne X (t := 171) (show cdA 77 159 = some (.if_icmp .ne 12, 3, 1, 0, 0) from rfl) (by decide) hrs31 (by decide) (fun g33 => ?_) (fun g33 => ?_)
          ·
            refine z_aload_n X (x := A 19) (show cdA 77 171 = some (.aload_n 0, 1, 0, 0, 0) from rfl) (List.Mem.tail _ (List.Mem.head _)) ?_
            refine z_load_n X (x := e32) (show cdA 77 172 = some (.iload_n 1, 1, 0, 0, 0) from rfl) (List.Mem.head _) ?_
            refine z_callV X 19 (rm := rmN 82) (As := [.int (Int32.ofInt e32)]) (st := []) (show cdA 77 173 = some (.invokevirtual 103, 3, 82, 0, 0) from rfl) rfl (by decide) rfl (by rw [E.1, E.2.1, E.2.2.1]; exact c7_put_19 G Is31 (by first | exact ⟨oq_e12b0ae3 hps31.1, oq_80ebb04a hps31.2⟩ | omega)) ⟨by rw [E.2.2.2]; exact (show 6 + 1 ≤ (12 + (4 * (r + 1) + 1)) from oq_76ff689a r), by rw [E.2.2.2]; exact (show 8 + (2 + 11) + 100 ≤ (500 + 45 * (4 * (r + 1) + 1)) from oq_0822d50d r), by rw [E.2.2.2]; exact Nat.le_refl 0, by rw [E.2.2.2]; exact Nat.le_refl 0⟩ (Nat.le_of_ble_eq_true rfl) (fun vv s34 hq => ?_) (fun ee s34 hq => ?_)
            rotate_left
            · obtain ⟨Is34, Fs34, hv, hps34⟩ := hq; cases hv
            obtain ⟨Is34, Fs34, hv, hps34⟩ := hq
            cases hv
            have Gs34 := fm_ts Gs31 Fs34 (by decide) (by decide)
            have ws34_2 : iI s34 2 = iI s31 2 := fm_i Fs34 (by decide)
            have ws34_1 : iI s34 1 = iI s31 1 := fm_i Fs34 (by decide)
            have ws34_4 : iI s34 4 = iI s31 4 := fm_i Fs34 (by decide)
            have ws34_5 : iI s34 5 = iI s31 5 := fm_i Fs34 (by decide)
            have ws34_6 : iI s34 6 = iI s31 6 := fm_i Fs34 (by decide)
            have ws34_19 : iI s34 19 = iI s31 19 := fm_i Fs34 (by decide)
            have b36 : (0 : Int) ≤ iI s34 16 ∧ iI s34 16 ≤ 200 := Is34.1 16
            show WS k 176 [(1, .int (Int32.ofInt e32)), (0, .ref (A 19))] [] (Wd A dT s34) 0 0
            refine z_aload_n X (x := A 19) (show cdA 77 176 = some (.aload_n 0, 1, 0, 0, 0) from rfl) (List.Mem.tail _ (List.Mem.head _)) ?_
            refine s_getR X 19 (show cdA 77 177 = some (.getfield 31, 3, 7, 0, 0) from rfl) (by decide) rfl rfl ?_
            refine z_callV X 1 (rm := rmN 129) (As := []) (st := []) (show cdA 77 180 = some (.invokevirtual 85, 3, 129, 0, 0) from rfl) rfl (by decide) rfl (by rw [E.1, E.2.1, E.2.2.1]; exact c10_step_1 G Is34 (by first | exact oq_25674cec ws34_1 ws34_2 ws31_1 ws31_2 ws28_1 ws28_2 ws12_1 ws12_2 p0 | omega)) ⟨by rw [E.2.2.2]; exact (show 7 + 1 ≤ (12 + (4 * (r + 1) + 1)) from oq_9b435bb4 r), by rw [E.2.2.2]; exact (show 8 + (1 + 11) + 121 ≤ (500 + 45 * (4 * (r + 1) + 1)) from oq_f85a7cd7 r), by rw [E.2.2.2]; exact Nat.le_refl 0, by rw [E.2.2.2]; exact Nat.le_refl 0⟩ (Nat.le_of_ble_eq_true rfl) (fun vv s37 hq => ?_) (fun ee s37 hq => ?_)
            rotate_left
            · obtain ⟨Is37, Fs37, hv, hps37⟩ := hq; cases hv
            obtain ⟨Is37, Fs37, hv, hps37⟩ := hq
            cases hv
            have Gs37 := fm_ts Gs34 Fs37 (by decide) (by decide)
            have b39 : (0 : Int) ≤ iI s37 2 ∧ iI s37 2 ≤ 200 := Is37.1 2
            have ws37_1 : iI s37 1 = iI s34 1 := fm_i Fs37 (by decide)
            have b40 : (0 : Int) ≤ iI s37 4 ∧ iI s37 4 ≤ 200 := Is37.1 4
            have b41 : ((-3) : Int) ≤ iI s37 5 ∧ iI s37 5 ≤ 255 := Is37.1 5
            have b42 : (0 : Int) ≤ iI s37 6 ∧ iI s37 6 ≤ 100000 := Is37.1 6
            have ws37_19 : iI s37 19 = iI s34 19 := fm_i Fs37 (by decide)
            have ws37_16 : iI s37 16 = iI s34 16 := fm_i Fs37 (by decide)
            show WS k 183 [(1, .int (Int32.ofInt e32)), (0, .ref (A 19))] [] (Wd A dT s37) 0 0
            refine z_const X (show cdA 77 183 = some (.iconst 1, 1, 0, 0, 0) from rfl) ?_
            exact w_iret X.1 q hRt (nar_ret (by first | exact Or.inr (by decide) | omega)) (ax_d X (show cdA 77 184 = some (.ireturn, 1, 0, 0, 0) from rfl)) (Nat.zero_le _) (Nat.zero_le _) ⟨_, rfl, Is37, Gs37, 1, rfl, (by decide), by first | exact ⟨Or.inr (And.intro (by decide) (oq_469c7eaf ws37_19 ws34_19 ws31_19 ws28_19 ws12_19)), hps37.1, hps37.2⟩ | omega⟩
          ·
            refine z_aload_n X (x := A 19) (show cdA 77 162 = some (.aload_n 0, 1, 0, 0, 0) from rfl) (List.Mem.tail _ (List.Mem.head _)) ?_
            refine s_getR X 19 (show cdA 77 163 = some (.getfield 31, 3, 7, 0, 0) from rfl) (by decide) rfl rfl ?_
            refine z_const X (show cdA 77 166 = some (.iconst 1, 1, 0, 0, 0) from rfl) ?_
            refine z_callV X 1 (rm := rmN 132) (As := [.int (Int32.ofInt 1)]) (st := []) (show cdA 77 167 = some (.invokevirtual 82, 3, 132, 0, 0) from rfl) rfl (by decide) rfl (by rw [E.1, E.2.1, E.2.2.1]; exact c10_refuse_1 G Is31 (by first | exact ⟨by decide, by decide⟩ | omega)) ⟨by rw [E.2.2.2]; exact (show 7 + 1 ≤ (12 + (4 * (r + 1) + 1)) from oq_9b435bb4 r), by rw [E.2.2.2]; exact (show 8 + (2 + 11) + 122 ≤ (500 + 45 * (4 * (r + 1) + 1)) from oq_1c2c1baf r), by rw [E.2.2.2]; exact Nat.le_refl 0, by rw [E.2.2.2]; exact Nat.le_refl 0⟩ (Nat.le_of_ble_eq_true rfl) (fun vv s43 hq => ?_) (fun ee s43 hq => ?_)
            rotate_left
            · obtain ⟨Is43, Fs43, e44, hv, hrs43, hps43⟩ := hq; cases hv
            obtain ⟨Is43, Fs43, e44, hv, hrs43, hps43⟩ := hq
            cases hv
            have Gs43 := fm_ts Gs31 Fs43 (by decide) (by decide)
            have ws43_2 : iI s43 2 = iI s31 2 := fm_i Fs43 (by decide)
            have ws43_1 : iI s43 1 = iI s31 1 := fm_i Fs43 (by decide)
            have ws43_4 : iI s43 4 = iI s31 4 := fm_i Fs43 (by decide)
            have ws43_5 : iI s43 5 = iI s31 5 := fm_i Fs43 (by decide)
            have ws43_6 : iI s43 6 = iI s31 6 := fm_i Fs43 (by decide)
            have ws43_19 : iI s43 19 = iI s31 19 := fm_i Fs43 (by decide)
            have ws43_16 : iI s43 16 = iI s31 16 := fm_i Fs43 (by decide)
            show WS k 170 [(1, .int (Int32.ofInt e32)), (0, .ref (A 19))] [.int (Int32.ofInt e44)] (Wd A dT s43) 0 0
            exact w_iret X.1 q hRt (nar_ret (by first | exact Or.inl (hps43) | omega)) (ax_d X (show cdA 77 170 = some (.ireturn, 1, 0, 0, 0) from rfl)) (Nat.zero_le _) (Nat.zero_le _) ⟨_, rfl, Is43, Gs43, e44, rfl, hrs43, by first | exact ⟨Or.inl (hps43), oq_25674cec ws43_1 ws43_2 ws31_1 ws31_2 ws28_1 ws28_2 ws12_1 ws12_2 p0, oq_969cff60 ws43_4 ws43_2 ws31_4 ws31_2 ws28_4 ws28_2 ws12_4 ws12_2 p1⟩ | omega⟩
        ·
          refine z_aload_n X (x := A 19) (show cdA 77 127 = some (.aload_n 0, 1, 0, 0, 0) from rfl) (List.Mem.head _) ?_
          refine z_aload_n X (x := A 19) (show cdA 77 128 = some (.aload_n 0, 1, 0, 0, 0) from rfl) (List.Mem.head _) ?_
          refine s_getR X 19 (show cdA 77 129 = some (.getfield 31, 3, 7, 0, 0) from rfl) (by decide) rfl rfl ?_
          obtain ⟨tx125, q125, hR125, hS125⟩ := GT (125, 5) (by decide)
          refine w_ldcK X (show vk_R (kOwn k) 125 tx125 q125 (kS0 k) by rw [E.2.1, X.2.1.2.1]; exact hR125) (show decode (kCc k) 132 = .ok (.ldc 125, 2) by rw [X.2.1.1]; decide +kernel) ?_
          refine z_callV X 1 (rm := rmN 131) (As := [.ref q125]) (st := [.ref (A 19)]) (show cdA 77 134 = some (.invokevirtual 76, 3, 131, 0, 0) from rfl) rfl (by decide) rfl (by rw [E.1, E.2.1, E.2.2.1]; exact c10_says G SF hS125 Is28 (by first | exact oq_4407eb3c ws28_2 ws28_4 ws12_2 ws12_4 p1 | omega)) ⟨by rw [E.2.2.2]; exact (show 11 + 1 ≤ (12 + (4 * (r + 1) + 1)) from oq_21805ac9 r), by rw [E.2.2.2]; exact (show 8 + (3 + 11) + 206 ≤ (500 + 45 * (4 * (r + 1) + 1)) from oq_1a54e9c9 r), by rw [E.2.2.2]; exact Nat.le_refl 0, by rw [E.2.2.2]; exact Nat.le_refl 0⟩ (Nat.le_of_ble_eq_true rfl) (fun vv s45 hq => ?_) (fun ee s45 hq => ?_)
          rotate_left
          · obtain ⟨Is45, Fs45, e46, hv, hrs45, hps45⟩ := hq; cases hv
          obtain ⟨Is45, Fs45, e46, hv, hrs45, hps45⟩ := hq
          cases hv
          have Gs45 := fm_ts Gs28 Fs45 (by decide) (by decide)
          have ws45_2 : iI s45 2 = iI s28 2 := fm_i Fs45 (by decide)
          have ws45_1 : iI s45 1 = iI s28 1 := fm_i Fs45 (by decide)
          have ws45_4 : iI s45 4 = iI s28 4 := fm_i Fs45 (by decide)
          have ws45_5 : iI s45 5 = iI s28 5 := fm_i Fs45 (by decide)
          have ws45_6 : iI s45 6 = iI s28 6 := fm_i Fs45 (by decide)
          have ws45_19 : iI s45 19 = iI s28 19 := fm_i Fs45 (by decide)
          have ws45_16 : iI s45 16 = iI s28 16 := fm_i Fs45 (by decide)
          show WS k 137 [(0, .ref (A 19))] [.int (Int32.ofInt e46), .ref (A 19)] (Wd A dT s45) 0 0
          have N47 : ∀ e48 : Int, (((e46 = 0) ∧ e48 = (-14)) ∨ ((e46 ≠ 0) ∧ e48 = (-13))) → WS k 147 [(0, .ref (A 19))] [.int (Int32.ofInt e48), .ref (A 19)] (Wd A dT s45) 0 0 := by
            intro e48 he48
            have re48 : (-14) ≤ e48 ∧ e48 ≤ (-13) := by omega
            refine z_callV X 19 (rm := (rkR (4 * (r + 1)))) (As := [.int (Int32.ofInt e48)]) (st := []) (show cdA 77 147 = some (.invokevirtual 129, 3, 78, 0, 0) from rfl) rfl (by decide) rfl (by rw [E.1, E.2.1, E.2.2.1]; exact hT Is45 (by omega) (by first | exact oq_72ebe5a4 ws45_1 ws45_2 ws28_1 ws28_2 ws12_1 ws12_2 p0 | omega) (by first | exact oq_7f1a346e ws45_4 ws45_2 ws28_4 ws28_2 ws12_4 ws12_2 p1 | omega) (by first | exact oq_3ee132da p2 ws45_19 ws12_19 ws28_19 | omega)) ⟨by rw [E.2.2.2]; exact (show (12 + (4 * (r + 1))) + 1 ≤ (12 + (4 * (r + 1) + 1)) from oq_183d1057 r), by rw [E.2.2.2]; exact (show 8 + (2 + 11) + (500 + 45 * (4 * (r + 1))) ≤ (500 + 45 * (4 * (r + 1) + 1)) from oq_ce6206a2 r), by rw [E.2.2.2]; exact Nat.le_refl 0, by rw [E.2.2.2]; exact Nat.le_refl 0⟩ (Nat.le_of_ble_eq_true rfl) (fun vv s49 hq => ?_) (fun ee s49 hq => ?_)
            rotate_left
            · obtain ⟨Is49, Fs49, e50, hv, hrs49, hps49⟩ := hq; cases hv
            obtain ⟨Is49, Fs49, e50, hv, hrs49, hps49⟩ := hq
            cases hv
            have Gs49 := fm_ts Gs45 Fs49 (by decide) (by decide)
            have b51 : (0 : Int) ≤ iI s49 2 ∧ iI s49 2 ≤ 200 := Is49.1 2
            have ws49_1 : iI s49 1 = iI s45 1 := fm_i Fs49 (by decide)
            have b52 : (0 : Int) ≤ iI s49 4 ∧ iI s49 4 ≤ 200 := Is49.1 4
            have b53 : ((-3) : Int) ≤ iI s49 5 ∧ iI s49 5 ≤ 255 := Is49.1 5
            have b54 : (0 : Int) ≤ iI s49 6 ∧ iI s49 6 ≤ 100000 := Is49.1 6
            have b55 : (0 : Int) ≤ iI s49 19 ∧ iI s49 19 ≤ 6 := Is49.1 19
            have b56 : (0 : Int) ≤ iI s49 16 ∧ iI s49 16 ≤ 200 := Is49.1 16
            show WS k 150 [(0, .ref (A 19))] [.int (Int32.ofInt e50)] (Wd A dT s49) 0 0
            exact w_iret X.1 q hRt (nar_ret (by omega)) (ax_d X (show cdA 77 150 = some (.ireturn, 1, 0, 0, 0) from rfl)) (Nat.zero_le _) (Nat.zero_le _) ⟨_, rfl, Is49, Gs49, e50, rfl, hrs49, by omega⟩
          refine z_if_eq X (t := 145) (show cdA 77 137 = some (.ifCond .eq 8, 3, 0, 0, 0) from rfl) (by decide) hrs45 (fun g57 => ?_) (fun g57 => ?_)
          ·
            refine z_bipush X (show cdA 77 145 = some (.bipush (-14), 2, 0, 0, (-14)) from rfl) ?_
            exact N47 _ (Or.inl ⟨g57, rfl⟩)
          ·
            refine z_bipush X (show cdA 77 140 = some (.bipush (-13), 2, 0, 0, (-13)) from rfl) ?_
            refine z_goto X (t := 147) (show cdA 77 142 = some (.goto 5, 3, 0, 0, 0) from rfl) (by decide) ?_
            exact N47 _ (Or.inr (⟨g57, rfl⟩))
    ·
      refine z_aload_n X (x := A 19) (show cdA 77 66 = some (.aload_n 0, 1, 0, 0, 0) from rfl) (List.Mem.head _) ?_
      refine z_callV X 19 (rm := rmN 80) (As := []) (st := []) (show cdA 77 67 = some (.invokevirtual 113, 3, 80, 0, 0) from rfl) rfl (by decide) rfl (by rw [E.1, E.2.1, E.2.2.1]; exact c7_enter_19 G I (by first | exact p0 | omega) (by first | exact p1 | omega)) ⟨by rw [E.2.2.2]; exact (show 8 + 1 ≤ (12 + (4 * (r + 1) + 1)) from oq_8e0cc864 r), by rw [E.2.2.2]; exact (show 8 + (1 + 11) + 143 ≤ (500 + 45 * (4 * (r + 1) + 1)) from oq_333da77b r), by rw [E.2.2.2]; exact Nat.le_refl 0, by rw [E.2.2.2]; exact Nat.le_refl 0⟩ (Nat.le_of_ble_eq_true rfl) (fun vv s58 hq => ?_) (fun ee s58 hq => ?_)
      rotate_left
      · obtain ⟨Is58, Fs58, e59, hv, hrs58, hps58⟩ := hq; cases hv
      obtain ⟨Is58, Fs58, e59, hv, hrs58, hps58⟩ := hq
      cases hv
      have Gs58 := fm_ts F Fs58 (by decide) (by decide)
      have b60 : (0 : Int) ≤ iI s58 2 ∧ iI s58 2 ≤ 200 := Is58.1 2
      have ws58_1 : iI s58 1 = iI s 1 := fm_i Fs58 (by decide)
      have b61 : (0 : Int) ≤ iI s58 4 ∧ iI s58 4 ≤ 200 := Is58.1 4
      have b62 : ((-3) : Int) ≤ iI s58 5 ∧ iI s58 5 ≤ 255 := Is58.1 5
      have b63 : (0 : Int) ≤ iI s58 6 ∧ iI s58 6 ≤ 100000 := Is58.1 6
      have b64 : (0 : Int) ≤ iI s58 19 ∧ iI s58 19 ≤ 6 := Is58.1 19
      have ws58_16 : iI s58 16 = iI s 16 := fm_i Fs58 (by decide)
      show WS k 70 [(0, .ref (A 19))] [.int (Int32.ofInt e59)] (Wd A dT s58) 0 0
      refine z_if_eq X (t := 89) (show cdA 77 70 = some (.ifCond .eq 19, 3, 0, 0, 0) from rfl) (by decide) hrs58 (fun g65 => ?_) (fun g65 => ?_)
      ·
        refine z_const X (show cdA 77 89 = some (.iconst 0, 1, 0, 0, 0) from rfl) ?_
        exact w_iret X.1 q hRt (nar_ret (by first | exact Or.inl (by decide) | omega)) (ax_d X (show cdA 77 90 = some (.ireturn, 1, 0, 0, 0) from rfl)) (Nat.zero_le _) (Nat.zero_le _) ⟨_, rfl, Is58, Gs58, 0, rfl, (by decide), by first | exact ⟨Or.inl (by decide), hps58.2.1, hps58.2.2⟩ | omega⟩
      ·
        refine z_aload_n X (x := A 19) (show cdA 77 73 = some (.aload_n 0, 1, 0, 0, 0) from rfl) (List.Mem.head _) ?_
        refine z_callV X 19 (rm := (rkR (4 * (r) + 3))) (As := []) (st := []) (show cdA 77 74 = some (.invokevirtual 88, 3, 75, 0, 0) from rfl) rfl (by decide) rfl (by rw [E.1, E.2.1, E.2.2.1]; exact hS Is58 (by first | exact hps58.2.1 | omega) (by first | exact hps58.2.2 | omega) (by omega)) ⟨by rw [E.2.2.2]; exact (show (12 + (4 * (r) + 3)) + 1 ≤ (12 + (4 * (r + 1) + 1)) from oq_40927492 r), by rw [E.2.2.2]; exact (show 8 + (3 + 11) + (500 + 45 * (4 * (r) + 3)) ≤ (500 + 45 * (4 * (r + 1) + 1)) from oq_c8d9c730 r), by rw [E.2.2.2]; exact Nat.le_refl 0, by rw [E.2.2.2]; exact Nat.le_refl 0⟩ (Nat.le_of_ble_eq_true rfl) (fun vv s66 hq => ?_) (fun ee s66 hq => ?_)
        rotate_left
        · obtain ⟨Is66, Fs66, e67, hv, hrs66, hps66⟩ := hq; cases hv
        obtain ⟨Is66, Fs66, e67, hv, hrs66, hps66⟩ := hq
        cases hv
        have Gs66 := fm_ts Gs58 Fs66 (by decide) (by decide)
        have b68 : (0 : Int) ≤ iI s66 2 ∧ iI s66 2 ≤ 200 := Is66.1 2
        have ws66_1 : iI s66 1 = iI s58 1 := fm_i Fs66 (by decide)
        have b69 : (0 : Int) ≤ iI s66 4 ∧ iI s66 4 ≤ 200 := Is66.1 4
        have b70 : ((-3) : Int) ≤ iI s66 5 ∧ iI s66 5 ≤ 255 := Is66.1 5
        have b71 : (0 : Int) ≤ iI s66 6 ∧ iI s66 6 ≤ 100000 := Is66.1 6
        have b72 : (0 : Int) ≤ iI s66 19 ∧ iI s66 19 ≤ 6 := Is66.1 19
        have b73 : (0 : Int) ≤ iI s66 16 ∧ iI s66 16 ≤ 200 := Is66.1 16
        show WS k 77 [(0, .ref (A 19))] [.int (Int32.ofInt e67)] (Wd A dT s66) 0 0
        refine z_if_eq X (t := 89) (show cdA 77 77 = some (.ifCond .eq 12, 3, 0, 0, 0) from rfl) (by decide) hrs66 (fun g74 => ?_) (fun g74 => ?_)
        ·
          refine z_const X (show cdA 77 89 = some (.iconst 0, 1, 0, 0, 0) from rfl) ?_
          exact w_iret X.1 q hRt (nar_ret (by first | exact Or.inl (by decide) | omega)) (ax_d X (show cdA 77 90 = some (.ireturn, 1, 0, 0, 0) from rfl)) (Nat.zero_le _) (Nat.zero_le _) ⟨_, rfl, Is66, Gs66, 0, rfl, (by decide), by first | exact ⟨Or.inl (by decide), by omega, by omega⟩ | omega⟩
        ·
          refine z_aload_n X (x := A 19) (show cdA 77 80 = some (.aload_n 0, 1, 0, 0, 0) from rfl) (List.Mem.head _) ?_
          refine z_bipush X (show cdA 77 81 = some (.bipush 41, 2, 0, 0, 41) from rfl) ?_
          refine z_callV X 19 (rm := rmN 81) (As := [.int (Int32.ofInt 41)]) (st := []) (show cdA 77 83 = some (.invokevirtual 95, 3, 81, 0, 0) from rfl) rfl (by decide) rfl (by rw [E.1, E.2.1, E.2.2.1]; exact c7_pass_19 G Is66 (by first | exact ⟨by decide, by decide⟩ | omega) (by omega) (by omega)) ⟨by rw [E.2.2.2]; exact (show 8 + 1 ≤ (12 + (4 * (r + 1) + 1)) from oq_8e0cc864 r), by rw [E.2.2.2]; exact (show 8 + (2 + 11) + 143 ≤ (500 + 45 * (4 * (r + 1) + 1)) from oq_46451eae r), by rw [E.2.2.2]; exact Nat.le_refl 0, by rw [E.2.2.2]; exact Nat.le_refl 0⟩ (Nat.le_of_ble_eq_true rfl) (fun vv s75 hq => ?_) (fun ee s75 hq => ?_)
          rotate_left
          · obtain ⟨Is75, Fs75, e76, hv, hrs75, hps75⟩ := hq; cases hv
          obtain ⟨Is75, Fs75, e76, hv, hrs75, hps75⟩ := hq
          cases hv
          have Gs75 := fm_ts Gs66 Fs75 (by decide) (by decide)
          have b77 : (0 : Int) ≤ iI s75 2 ∧ iI s75 2 ≤ 200 := Is75.1 2
          have ws75_1 : iI s75 1 = iI s66 1 := fm_i Fs75 (by decide)
          have b78 : (0 : Int) ≤ iI s75 4 ∧ iI s75 4 ≤ 200 := Is75.1 4
          have b79 : ((-3) : Int) ≤ iI s75 5 ∧ iI s75 5 ≤ 255 := Is75.1 5
          have b80 : (0 : Int) ≤ iI s75 6 ∧ iI s75 6 ≤ 100000 := Is75.1 6
          have ws75_19 : iI s75 19 = iI s66 19 := fm_i Fs75 (by decide)
          have ws75_16 : iI s75 16 = iI s66 16 := fm_i Fs75 (by decide)
          show WS k 86 [(0, .ref (A 19))] [.int (Int32.ofInt e76)] (Wd A dT s75) 0 0
          refine z_if_ne X (t := 91) (show cdA 77 86 = some (.ifCond .ne 5, 3, 1, 0, 0) from rfl) (by decide) hrs75 (fun g81 => ?_) (fun g81 => ?_)
          ·
            refine z_aload_n X (x := A 19) (show cdA 77 91 = some (.aload_n 0, 1, 0, 0, 0) from rfl) (List.Mem.head _) ?_
            refine w_dup X.1 (ax_d X (show cdA 77 92 = some (.dup, 1, 0, 0, 0) from rfl)) rfl ?_
            refine z_getI X 19 (show cdA 77 93 = some (.getfield 44, 3, 7, 12, 0) from rfl) (by decide) rfl rfl ?_
            have b82 : (0 : Int) ≤ iI s75 19 ∧ iI s75 19 ≤ 6 := Is75.1 19
            refine z_const X (show cdA 77 96 = some (.iconst 1, 1, 0, 0, 0) from rfl) ?_
            refine z_sub X (show cdA 77 97 = some (.isub, 1, 0, 0, 0) from rfl) ?_
            refine s_putI X 19 (show cdA 77 98 = some (.putfield 44, 3, 7, 12, 0) from rfl) (by decide) rfl rfl (by decide) rfl rfl rfl ?_
            obtain ⟨s83, hs83⟩ : ∃ x0, x0 = uI s75 19 (Int32.ofInt ((iI s75 19) - 1)) := ⟨_, rfl⟩
            rw [← hs83]
            have Is83 : Bd s83 := by rw [hs83]; exact bd_I Is75 (show (0 : Int) ≤ ((iI s75 19) - 1) ∧ ((iI s75 19) - 1) ≤ 6 by first | exact ⟨by omega, oq_a9606c0d b82.2⟩ | omega) ⟨by first | exact oq_c1e961c7 b82.1 | omega, by first | exact oq_b383b26c b82.2 | omega⟩
            have Fs83 := fm_I (x := Int32.ofInt ((iI s75 19) - 1)) Gs75 (show 19 ∈ _ by decide)
            rw [← hs83] at Fs83
            have vs83 : iI s83 19 = ((iI s75 19) - 1) := by rw [hs83]; exact iI_u ⟨by first | exact oq_c1e961c7 b82.1 | omega, by first | exact oq_b383b26c b82.2 | omega⟩
            have ws83_2 : iI s83 2 = iI s75 2 := by rw [hs83]; rfl
            have ws83_1 : iI s83 1 = iI s75 1 := by rw [hs83]; rfl
            have ws83_4 : iI s83 4 = iI s75 4 := by rw [hs83]; rfl
            have ws83_5 : iI s83 5 = iI s75 5 := by rw [hs83]; rfl
            have ws83_6 : iI s83 6 = iI s75 6 := by rw [hs83]; rfl
            have ws83_16 : iI s83 16 = iI s75 16 := by rw [hs83]; rfl
            refine z_const X (show cdA 77 101 = some (.iconst 1, 1, 0, 0, 0) from rfl) ?_
            exact w_iret X.1 q hRt (nar_ret (by first | exact Or.inr (by decide) | omega)) (ax_d X (show cdA 77 102 = some (.ireturn, 1, 0, 0, 0) from rfl)) (Nat.zero_le _) (Nat.zero_le _) ⟨_, rfl, Is83, Fs83, 1, rfl, (by decide), by first | exact ⟨by omega, oq_e7b9ecab ws83_1 ws83_2 hps75.2.1, oq_e7b9ecab ws83_2 ws83_4 hps75.2.2⟩ | omega⟩
          ·
            refine z_const X (show cdA 77 89 = some (.iconst 0, 1, 0, 0, 0) from rfl) ?_
            exact w_iret X.1 q hRt (nar_ret (by first | exact Or.inl (by decide) | omega)) (ax_d X (show cdA 77 90 = some (.ireturn, 1, 0, 0, 0) from rfl)) (Nat.zero_le _) (Nat.zero_le _) ⟨_, rfl, Is75, Gs75, 0, rfl, (by decide), by first | exact ⟨Or.inl (by decide), hps75.2.1, hps75.2.2⟩ | omega⟩
  ·
    refine z_aload_n X (x := A 19) (show cdA 77 12 = some (.aload_n 0, 1, 0, 0, 0) from rfl) (List.Mem.head _) ?_
    refine s_getR X 19 (show cdA 77 13 = some (.getfield 31, 3, 7, 0, 0) from rfl) (by decide) rfl rfl ?_
    refine z_getI X 1 (show cdA 77 16 = some (.getfield 122, 3, 10, 7, 0) from rfl) (by decide) rfl rfl ?_
    have b84 : (0 : Int) ≤ iI s 6 ∧ iI s 6 ≤ 100000 := I.1 6
    refine z_sipush X (show cdA 77 19 = some (.sipush 999, 3, 0, 0, 999) from rfl) ?_
    refine z_icmp_le X (t := 34) (show cdA 77 22 = some (.if_icmp .le 12, 3, 5, 0, 0) from rfl) (by decide) (rng_to _) (by decide) (fun g85 => ?_) (fun g85 => ?_)
    ·
      refine z_aload_n X (x := A 19) (show cdA 77 34 = some (.aload_n 0, 1, 0, 0, 0) from rfl) (List.Mem.head _) ?_
      refine z_aload_n X (x := A 19) (show cdA 77 35 = some (.aload_n 0, 1, 0, 0, 0) from rfl) (List.Mem.head _) ?_
      refine s_getR X 19 (show cdA 77 36 = some (.getfield 31, 3, 7, 0, 0) from rfl) (by decide) rfl rfl ?_
      refine z_getI X 1 (show cdA 77 39 = some (.getfield 122, 3, 10, 7, 0) from rfl) (by decide) rfl rfl ?_
      have b86 : (0 : Int) ≤ iI s 6 ∧ iI s 6 ≤ 100000 := I.1 6
      refine z_callV X 19 (rm := rmN 82) (As := [.int (Int32.ofInt (iI s 6))]) (st := []) (show cdA 77 42 = some (.invokevirtual 103, 3, 82, 0, 0) from rfl) rfl (by decide) rfl (by rw [E.1, E.2.1, E.2.2.1]; exact c7_put_19 G I (by first | exact ⟨oq_fa4e5087 b86.1, oq_25953902 b86.2⟩ | omega)) ⟨by rw [E.2.2.2]; exact (show 6 + 1 ≤ (12 + (4 * (r + 1) + 1)) from oq_76ff689a r), by rw [E.2.2.2]; exact (show 8 + (2 + 11) + 100 ≤ (500 + 45 * (4 * (r + 1) + 1)) from oq_0822d50d r), by rw [E.2.2.2]; exact Nat.le_refl 0, by rw [E.2.2.2]; exact Nat.le_refl 0⟩ (Nat.le_of_ble_eq_true rfl) (fun vv s87 hq => ?_) (fun ee s87 hq => ?_)
      rotate_left
      · obtain ⟨Is87, Fs87, hv, hps87⟩ := hq; cases hv
      obtain ⟨Is87, Fs87, hv, hps87⟩ := hq
      cases hv
      have Gs87 := fm_ts F Fs87 (by decide) (by decide)
      have ws87_2 : iI s87 2 = iI s 2 := fm_i Fs87 (by decide)
      have ws87_1 : iI s87 1 = iI s 1 := fm_i Fs87 (by decide)
      have ws87_4 : iI s87 4 = iI s 4 := fm_i Fs87 (by decide)
      have ws87_5 : iI s87 5 = iI s 5 := fm_i Fs87 (by decide)
      have ws87_6 : iI s87 6 = iI s 6 := fm_i Fs87 (by decide)
      have ws87_19 : iI s87 19 = iI s 19 := fm_i Fs87 (by decide)
      have b89 : (0 : Int) ≤ iI s87 16 ∧ iI s87 16 ≤ 200 := Is87.1 16
      show WS k 45 [(0, .ref (A 19))] [] (Wd A dT s87) 0 0
      refine z_aload_n X (x := A 19) (show cdA 77 45 = some (.aload_n 0, 1, 0, 0, 0) from rfl) (List.Mem.head _) ?_
      refine s_getR X 19 (show cdA 77 46 = some (.getfield 31, 3, 7, 0, 0) from rfl) (by decide) rfl rfl ?_
      refine z_callV X 1 (rm := rmN 129) (As := []) (st := []) (show cdA 77 49 = some (.invokevirtual 85, 3, 129, 0, 0) from rfl) rfl (by decide) rfl (by rw [E.1, E.2.1, E.2.2.1]; exact c10_step_1 G Is87 (by first | exact oq_e7b9ecab ws87_1 ws87_2 p0 | omega)) ⟨by rw [E.2.2.2]; exact (show 7 + 1 ≤ (12 + (4 * (r + 1) + 1)) from oq_9b435bb4 r), by rw [E.2.2.2]; exact (show 8 + (1 + 11) + 121 ≤ (500 + 45 * (4 * (r + 1) + 1)) from oq_f85a7cd7 r), by rw [E.2.2.2]; exact Nat.le_refl 0, by rw [E.2.2.2]; exact Nat.le_refl 0⟩ (Nat.le_of_ble_eq_true rfl) (fun vv s90 hq => ?_) (fun ee s90 hq => ?_)
      rotate_left
      · obtain ⟨Is90, Fs90, hv, hps90⟩ := hq; cases hv
      obtain ⟨Is90, Fs90, hv, hps90⟩ := hq
      cases hv
      have Gs90 := fm_ts Gs87 Fs90 (by decide) (by decide)
      have b92 : (0 : Int) ≤ iI s90 2 ∧ iI s90 2 ≤ 200 := Is90.1 2
      have ws90_1 : iI s90 1 = iI s87 1 := fm_i Fs90 (by decide)
      have b93 : (0 : Int) ≤ iI s90 4 ∧ iI s90 4 ≤ 200 := Is90.1 4
      have b94 : ((-3) : Int) ≤ iI s90 5 ∧ iI s90 5 ≤ 255 := Is90.1 5
      have b95 : (0 : Int) ≤ iI s90 6 ∧ iI s90 6 ≤ 100000 := Is90.1 6
      have ws90_19 : iI s90 19 = iI s87 19 := fm_i Fs90 (by decide)
      have ws90_16 : iI s90 16 = iI s87 16 := fm_i Fs90 (by decide)
      show WS k 52 [(0, .ref (A 19))] [] (Wd A dT s90) 0 0
      refine z_const X (show cdA 77 52 = some (.iconst 1, 1, 0, 0, 0) from rfl) ?_
      exact w_iret X.1 q hRt (nar_ret (by first | exact Or.inr (by decide) | omega)) (ax_d X (show cdA 77 53 = some (.ireturn, 1, 0, 0, 0) from rfl)) (Nat.zero_le _) (Nat.zero_le _) ⟨_, rfl, Is90, Gs90, 1, rfl, (by decide), by first | exact ⟨Or.inr (And.intro (by decide) (oq_1aa5be9e ws90_19 ws87_19)), hps90.1, hps90.2⟩ | omega⟩
    ·
      refine z_aload_n X (x := A 19) (show cdA 77 25 = some (.aload_n 0, 1, 0, 0, 0) from rfl) (List.Mem.head _) ?_
      refine s_getR X 19 (show cdA 77 26 = some (.getfield 31, 3, 7, 0, 0) from rfl) (by decide) rfl rfl ?_
      refine z_const X (show cdA 77 29 = some (.iconst 2, 1, 0, 0, 0) from rfl) ?_
      refine z_callV X 1 (rm := rmN 132) (As := [.int (Int32.ofInt 2)]) (st := []) (show cdA 77 30 = some (.invokevirtual 82, 3, 132, 0, 0) from rfl) rfl (by decide) rfl (by rw [E.1, E.2.1, E.2.2.1]; exact c10_refuse_1 G I (by first | exact ⟨by decide, by decide⟩ | omega)) ⟨by rw [E.2.2.2]; exact (show 7 + 1 ≤ (12 + (4 * (r + 1) + 1)) from oq_9b435bb4 r), by rw [E.2.2.2]; exact (show 8 + (2 + 11) + 122 ≤ (500 + 45 * (4 * (r + 1) + 1)) from oq_1c2c1baf r), by rw [E.2.2.2]; exact Nat.le_refl 0, by rw [E.2.2.2]; exact Nat.le_refl 0⟩ (Nat.le_of_ble_eq_true rfl) (fun vv s96 hq => ?_) (fun ee s96 hq => ?_)
      rotate_left
      · obtain ⟨Is96, Fs96, e97, hv, hrs96, hps96⟩ := hq; cases hv
      obtain ⟨Is96, Fs96, e97, hv, hrs96, hps96⟩ := hq
      cases hv
      have Gs96 := fm_ts F Fs96 (by decide) (by decide)
      have ws96_2 : iI s96 2 = iI s 2 := fm_i Fs96 (by decide)
      have ws96_1 : iI s96 1 = iI s 1 := fm_i Fs96 (by decide)
      have ws96_4 : iI s96 4 = iI s 4 := fm_i Fs96 (by decide)
      have ws96_5 : iI s96 5 = iI s 5 := fm_i Fs96 (by decide)
      have ws96_6 : iI s96 6 = iI s 6 := fm_i Fs96 (by decide)
      have ws96_19 : iI s96 19 = iI s 19 := fm_i Fs96 (by decide)
      have ws96_16 : iI s96 16 = iI s 16 := fm_i Fs96 (by decide)
      show WS k 33 [(0, .ref (A 19))] [.int (Int32.ofInt e97)] (Wd A dT s96) 0 0
      exact w_iret X.1 q hRt (nar_ret (by first | exact Or.inl (hps96) | omega)) (ax_d X (show cdA 77 33 = some (.ireturn, 1, 0, 0, 0) from rfl)) (Nat.zero_le _) (Nat.zero_le _) ⟨_, rfl, Is96, Gs96, e97, rfl, hrs96, by first | exact ⟨Or.inl (hps96), oq_e7b9ecab ws96_1 ws96_2 p0, oq_e7b9ecab ws96_2 ws96_4 p1⟩ | omega⟩
set_option maxRecDepth 4000 in
theorem c7_prodS (G : GX l s0 D tys a0 dT) (SF : SF0 s0) (GT : TXs0 s0) {r : Nat} (hU : ∀ {s : PS} , Bd s → (iI s 2 ≤ iI s 1) → (iI s 4 ≤ iI s 2) → (6 - iI s 19 ≤ ((r : Nat) : Int)) → CT l s0 D A dT 77 (rkR (4 * (r) + 1)) [.ref (A 19)] s (fun o t => Bd t ∧ Fm [2, 4, 6, 5, 7, 8, 19, 16] [18] s t ∧ ∃ e, o = .inl (some (.int (Int32.ofInt e))) ∧ rng e ∧ ((e = 0 ∨ (e = 1 ∧ iI t 19 = iI s 19)) ∧ iI t 2 ≤ iI t 1 ∧ iI t 4 ≤ iI t 2))) (I : Bd s) (p0 : iI s 2 ≤ iI s 1) (p1 : iI s 4 ≤ iI s 2) (p2 : 6 - iI s 19 ≤ ((r : Nat) : Int)) : CT l s0 D A dT 76 (rkR (4 * (r) + 2)) [.ref (A 19)] s (fun o t => Bd t ∧ Fm [2, 4, 6, 5, 7, 8, 19, 16] [18] s t ∧ ∃ e, o = .inl (some (.int (Int32.ofInt e))) ∧ rng e ∧ ((e = 0 ∨ (e = 1 ∧ iI t 19 = iI s 19)) ∧ iI t 2 ≤ iI t 1 ∧ iI t 4 ≤ iI t 2)) := by
  refine ct_ofX G (by decide) (Nat.le_of_ble_eq_true rfl) (fun k X E ET hRt hXt q => ?_)
  show WS k 0 [(0, .ref (A 19))] [] _ 0 0
  have F : Fm [2, 4, 6, 5, 7, 8, 19, 16] [18] s s := fm_rf _ _ s
  have b1 : (0 : Int) ≤ iI s 2 ∧ iI s 2 ≤ 200 := I.1 2
  have b2 : (0 : Int) ≤ iI s 1 ∧ iI s 1 ≤ 200 := I.1 1
  have b3 : (0 : Int) ≤ iI s 4 ∧ iI s 4 ≤ 200 := I.1 4
  have b4 : ((-3) : Int) ≤ iI s 5 ∧ iI s 5 ≤ 255 := I.1 5
  have b5 : (0 : Int) ≤ iI s 6 ∧ iI s 6 ≤ 100000 := I.1 6
  have b6 : (0 : Int) ≤ iI s 19 ∧ iI s 19 ≤ 6 := I.1 19
  have b7 : (0 : Int) ≤ iI s 16 ∧ iI s 16 ≤ 200 := I.1 16
  have L11 : ∀ (n : Nat) (t : PS) (c : Int), Bd t → Fm [2, 4, 6, 5, 7, 8, 19, 16] [18] s t → (0 ≤ c ∧ c ≤ 200 ∧ iI t 19 = iI s 19 ∧ iI t 2 ≤ iI t 1 ∧ iI t 4 ≤ iI t 2) → (200 - c : Int).toNat < n → (∀ (t' : PS) (c' : Int), Bd t' → Fm [2, 4, 6, 5, 7, 8, 19, 16] [18] s t' → (0 ≤ c' ∧ c' ≤ 200 ∧ iI t' 19 = iI s 19 ∧ iI t' 2 ≤ iI t' 1 ∧ iI t' 4 ≤ iI t' 2) → WS k 89 [(0, .ref (A 19)), (1, .int (Int32.ofInt c'))] [] (Wd A dT t') 0 0) → WS k 11 [(0, .ref (A 19)), (1, .int (Int32.ofInt c))] [] (Wd A dT t) 0 0 := by
    intro n
    induction n with
    | zero =>
      intro t c I F hi hm kx
      exact absurd hm (Nat.not_lt_zero _)
    | succ n ih =>
      intro t c I F hi hm kx
      have b1001 : (0 : Int) ≤ iI t 2 ∧ iI t 2 ≤ 200 := I.1 2
      have b1002 : (0 : Int) ≤ iI t 1 ∧ iI t 1 ≤ 200 := I.1 1
      have b1003 : (0 : Int) ≤ iI t 4 ∧ iI t 4 ≤ 200 := I.1 4
      have b1004 : ((-3) : Int) ≤ iI t 5 ∧ iI t 5 ≤ 255 := I.1 5
      have b1005 : (0 : Int) ≤ iI t 6 ∧ iI t 6 ≤ 100000 := I.1 6
      have b1006 : (0 : Int) ≤ iI t 19 ∧ iI t 19 ≤ 6 := I.1 19
      have b1007 : (0 : Int) ≤ iI t 16 ∧ iI t 16 ≤ 200 := I.1 16
      refine z_load_n X (x := c) (show cdA 76 11 = some (.iload_n 1, 1, 0, 0, 0) from rfl) (List.Mem.tail _ (List.Mem.head _)) ?_
      refine z_sipush X (show cdA 76 12 = some (.sipush 200, 3, 0, 0, 200) from rfl) ?_
      refine z_icmp_ge X (t := 89) (show cdA 76 15 = some (.if_icmp .ge 74, 3, 3, 0, 0) from rfl) (by decide) ⟨by first | exact oq_fa4e5087 hi.1 | omega, by first | exact oq_52af2b96 hi.2.1 | omega⟩ (by decide) (fun g1008 => ?_) (fun g1008 => ?_)
      ·
        refine WS_lv (lv := [(0, .ref (A 19)), (1, .int (Int32.ofInt c))]) (List.forall_mem_cons.mpr ⟨(List.Mem.head _), (List.forall_mem_cons.mpr ⟨(List.Mem.tail _ (List.Mem.head _)), (fun q h => absurd h List.not_mem_nil)⟩)⟩) ?_
        exact kx _ c I F (by first | exact ⟨hi.1, hi.2.1, hi.2.2.1, hi.2.2.2.1, hi.2.2.2.2⟩ | omega)
      ·
        refine z_aload_n X (x := A 19) (show cdA 76 18 = some (.aload_n 0, 1, 0, 0, 0) from rfl) (List.Mem.head _) ?_
        refine s_getR X 19 (show cdA 76 19 = some (.getfield 31, 3, 7, 0, 0) from rfl) (by decide) rfl rfl ?_
        refine z_getI X 1 (show cdA 76 22 = some (.getfield 47, 3, 10, 6, 0) from rfl) (by decide) rfl rfl ?_
        have b1009 : ((-3) : Int) ≤ iI t 5 ∧ iI t 5 ≤ 255 := I.1 5
        refine z_bipush X (show cdA 76 25 = some (.bipush 42, 2, 0, 0, 42) from rfl) ?_
        refine z_icmp_eq X (t := 42) (show cdA 76 27 = some (.if_icmp .eq 15, 3, 0, 0, 0) from rfl) (by decide) (rng_to _) (by decide) (fun g1010 => ?_) (fun g1010 => ?_)
        ·
          refine z_aload_n X (x := A 19) (show cdA 76 42 = some (.aload_n 0, 1, 0, 0, 0) from rfl) (List.Mem.head _) ?_
          refine s_getR X 19 (show cdA 76 43 = some (.getfield 31, 3, 7, 0, 0) from rfl) (by decide) rfl rfl ?_
          refine z_getI X 1 (show cdA 76 46 = some (.getfield 47, 3, 10, 6, 0) from rfl) (by decide) rfl rfl ?_
          have b1011 : ((-3) : Int) ≤ iI t 5 ∧ iI t 5 ≤ 255 := I.1 5
          refine z_bipush X (show cdA 76 49 = some (.bipush 42, 2, 0, 0, 42) from rfl) ?_
          have N1012 : ∀ e1013 : Int, ((((iI t 5) ≠ 42) ∧ e1013 = (-12)) ∨ (((iI t 5) = 42) ∧ e1013 = (-11))) → WS k 61 [(0, .ref (A 19)), (1, .int (Int32.ofInt c))] [.int (Int32.ofInt e1013)] (Wd A dT t) 0 0 := by
            intro e1013 he1013
            have re1013 : (-12) ≤ e1013 ∧ e1013 ≤ (-11) := by omega
            refine z_store_n X (lv' := [(2, .int (Int32.ofInt e1013)), (0, .ref (A 19)), (1, .int (Int32.ofInt c))]) (show cdA 76 61 = some (.istore_n 2, 1, 0, 0, 0) from rfl) (by decide) (fun _ h => h) ?_
            refine z_aload_n X (x := A 19) (show cdA 76 62 = some (.aload_n 0, 1, 0, 0, 0) from rfl) (List.Mem.tail _ (List.Mem.head _)) ?_
            refine s_getR X 19 (show cdA 76 63 = some (.getfield 31, 3, 7, 0, 0) from rfl) (by decide) rfl rfl ?_
            refine z_callV X 1 (rm := rmN 129) (As := []) (st := []) (show cdA 76 66 = some (.invokevirtual 85, 3, 129, 0, 0) from rfl) rfl (by decide) rfl (by rw [E.1, E.2.1, E.2.2.1]; exact c10_step_1 G I (by first | exact hi.2.2.2.1 | omega)) ⟨by rw [E.2.2.2]; exact (show 7 + 1 ≤ (12 + (4 * (r) + 2)) from oq_4941a422 r), by rw [E.2.2.2]; exact (show 8 + (1 + 11) + 121 ≤ (500 + 45 * (4 * (r) + 2)) from oq_a823803b r), by rw [E.2.2.2]; exact Nat.le_refl 0, by rw [E.2.2.2]; exact Nat.le_refl 0⟩ (Nat.le_of_ble_eq_true rfl) (fun vv s1014 hq => ?_) (fun ee s1014 hq => ?_)
            rotate_left
            · obtain ⟨Is1014, Fs1014, hv, hps1014⟩ := hq; cases hv
            obtain ⟨Is1014, Fs1014, hv, hps1014⟩ := hq
            cases hv
            have Gs1014 := fm_ts F Fs1014 (by decide) (by decide)
            have b1016 : (0 : Int) ≤ iI s1014 2 ∧ iI s1014 2 ≤ 200 := Is1014.1 2
            have ws1014_1 : iI s1014 1 = iI t 1 := fm_i Fs1014 (by decide)
            have b1017 : (0 : Int) ≤ iI s1014 4 ∧ iI s1014 4 ≤ 200 := Is1014.1 4
            have b1018 : ((-3) : Int) ≤ iI s1014 5 ∧ iI s1014 5 ≤ 255 := Is1014.1 5
            have b1019 : (0 : Int) ≤ iI s1014 6 ∧ iI s1014 6 ≤ 100000 := Is1014.1 6
            have ws1014_19 : iI s1014 19 = iI t 19 := fm_i Fs1014 (by decide)
            have ws1014_16 : iI s1014 16 = iI t 16 := fm_i Fs1014 (by decide)
            show WS k 69 [(2, .int (Int32.ofInt e1013)), (0, .ref (A 19)), (1, .int (Int32.ofInt c))] [] (Wd A dT s1014) 0 0
            refine z_aload_n X (x := A 19) (show cdA 76 69 = some (.aload_n 0, 1, 0, 0, 0) from rfl) (List.Mem.tail _ (List.Mem.head _)) ?_
            refine z_callV X 19 (rm := (rkR (4 * (r) + 1))) (As := []) (st := []) (show cdA 76 70 = some (.invokevirtual 119, 3, 77, 0, 0) from rfl) rfl (by decide) rfl (by rw [E.1, E.2.1, E.2.2.1]; exact hU Is1014 (by first | exact hps1014.1 | omega) (by first | exact hps1014.2 | omega) (by first | exact oq_abe4e353 p2 ws1014_19 hi.2.2.1 | omega)) ⟨by rw [E.2.2.2]; exact (show (12 + (4 * (r) + 1)) + 1 ≤ (12 + (4 * (r) + 2)) from oq_dbb6b233 r), by rw [E.2.2.2]; exact (show 8 + (2 + 11) + (500 + 45 * (4 * (r) + 1)) ≤ (500 + 45 * (4 * (r) + 2)) from oq_0cecdb5e r), by rw [E.2.2.2]; exact Nat.le_refl 0, by rw [E.2.2.2]; exact Nat.le_refl 0⟩ (Nat.le_of_ble_eq_true rfl) (fun vv s1020 hq => ?_) (fun ee s1020 hq => ?_)
            rotate_left
            · obtain ⟨Is1020, Fs1020, e1021, hv, hrs1020, hps1020⟩ := hq; cases hv
            obtain ⟨Is1020, Fs1020, e1021, hv, hrs1020, hps1020⟩ := hq
            cases hv
            have Gs1020 := fm_ts Gs1014 Fs1020 (by decide) (by decide)
            have b1022 : (0 : Int) ≤ iI s1020 2 ∧ iI s1020 2 ≤ 200 := Is1020.1 2
            have ws1020_1 : iI s1020 1 = iI s1014 1 := fm_i Fs1020 (by decide)
            have b1023 : (0 : Int) ≤ iI s1020 4 ∧ iI s1020 4 ≤ 200 := Is1020.1 4
            have b1024 : ((-3) : Int) ≤ iI s1020 5 ∧ iI s1020 5 ≤ 255 := Is1020.1 5
            have b1025 : (0 : Int) ≤ iI s1020 6 ∧ iI s1020 6 ≤ 100000 := Is1020.1 6
            have b1026 : (0 : Int) ≤ iI s1020 19 ∧ iI s1020 19 ≤ 6 := Is1020.1 19
            have b1027 : (0 : Int) ≤ iI s1020 16 ∧ iI s1020 16 ≤ 200 := Is1020.1 16
            show WS k 73 [(2, .int (Int32.ofInt e1013)), (0, .ref (A 19)), (1, .int (Int32.ofInt c))] [.int (Int32.ofInt e1021)] (Wd A dT s1020) 0 0
            refine z_if_ne X (t := 78) (show cdA 76 73 = some (.ifCond .ne 5, 3, 1, 0, 0) from rfl) (by decide) hrs1020 (fun g1028 => ?_) (fun g1028 => ?_)
            ·
              refine z_aload_n X (x := A 19) (show cdA 76 78 = some (.aload_n 0, 1, 0, 0, 0) from rfl) (List.Mem.tail _ (List.Mem.head _)) ?_
              refine z_load_n X (x := e1013) (show cdA 76 79 = some (.iload_n 2, 1, 0, 0, 0) from rfl) (List.Mem.head _) ?_
              refine z_callV X 19 (rm := rmN 82) (As := [.int (Int32.ofInt e1013)]) (st := []) (show cdA 76 80 = some (.invokevirtual 103, 3, 82, 0, 0) from rfl) rfl (by decide) rfl (by rw [E.1, E.2.1, E.2.2.1]; exact c7_put_19 G Is1020 (by first | exact ⟨oq_b4ff86be re1013.1, oq_8c06164c re1013.2⟩ | omega)) ⟨by rw [E.2.2.2]; exact (show 6 + 1 ≤ (12 + (4 * (r) + 2)) from oq_d8760254 r), by rw [E.2.2.2]; exact (show 8 + (2 + 11) + 100 ≤ (500 + 45 * (4 * (r) + 2)) from oq_29829ae4 r), by rw [E.2.2.2]; exact Nat.le_refl 0, by rw [E.2.2.2]; exact Nat.le_refl 0⟩ (Nat.le_of_ble_eq_true rfl) (fun vv s1029 hq => ?_) (fun ee s1029 hq => ?_)
              rotate_left
              · obtain ⟨Is1029, Fs1029, hv, hps1029⟩ := hq; cases hv
              obtain ⟨Is1029, Fs1029, hv, hps1029⟩ := hq
              cases hv
              have Gs1029 := fm_ts Gs1020 Fs1029 (by decide) (by decide)
              have ws1029_2 : iI s1029 2 = iI s1020 2 := fm_i Fs1029 (by decide)
              have ws1029_1 : iI s1029 1 = iI s1020 1 := fm_i Fs1029 (by decide)
              have ws1029_4 : iI s1029 4 = iI s1020 4 := fm_i Fs1029 (by decide)
              have ws1029_5 : iI s1029 5 = iI s1020 5 := fm_i Fs1029 (by decide)
              have ws1029_6 : iI s1029 6 = iI s1020 6 := fm_i Fs1029 (by decide)
              have ws1029_19 : iI s1029 19 = iI s1020 19 := fm_i Fs1029 (by decide)
              have b1031 : (0 : Int) ≤ iI s1029 16 ∧ iI s1029 16 ≤ 200 := Is1029.1 16
              show WS k 83 [(2, .int (Int32.ofInt e1013)), (0, .ref (A 19)), (1, .int (Int32.ofInt c))] [] (Wd A dT s1029) 0 0
              refine z_inc X (x := c) (lv' := [(1, .int (Int32.ofInt (c + 1))), (2, .int (Int32.ofInt e1013)), (0, .ref (A 19))]) (show cdA 76 83 = some (.iinc 1 1, 3, 0, 0, 0) from rfl) (by decide) (List.Mem.tail _ (List.Mem.tail _ (List.Mem.head _))) (fun _ h => h) ?_
              refine z_goto X (t := 11) (show cdA 76 86 = some (.goto (-75), 3, 0, 0, 0) from rfl) (by decide) ?_
              refine WS_lv (lv := [(0, .ref (A 19)), (1, .int (Int32.ofInt (c + 1)))]) (List.forall_mem_cons.mpr ⟨(List.Mem.tail _ (List.Mem.tail _ (List.Mem.head _))), (List.forall_mem_cons.mpr ⟨(List.Mem.head _), (fun q h => absurd h List.not_mem_nil)⟩)⟩) ?_
              exact ih _ (c + 1) Is1029 Gs1029 (by omega) (by first | exact qk_me hm (by decide) (oq_1ab01402 g1008) | omega) kx
            ·
              refine z_const X (show cdA 76 76 = some (.iconst 0, 1, 0, 0, 0) from rfl) ?_
              exact w_iret X.1 q hRt (nar_ret (by first | exact Or.inl (by decide) | omega)) (ax_d X (show cdA 76 77 = some (.ireturn, 1, 0, 0, 0) from rfl)) (Nat.zero_le _) (Nat.zero_le _) ⟨_, rfl, Is1020, Gs1020, 0, rfl, (by decide), by first | exact ⟨Or.inl (by decide), by omega, by omega⟩ | omega⟩
          refine z_icmp_ne X (t := 59) (show cdA 76 51 = some (.if_icmp .ne 8, 3, 1, 0, 0) from rfl) (by decide) (rng_to _) (by decide) (fun g1032 => ?_) (fun g1032 => ?_)
          ·
            refine z_bipush X (show cdA 76 59 = some (.bipush (-12), 2, 0, 0, (-12)) from rfl) ?_
            exact N1012 _ (Or.inl ⟨g1032, rfl⟩)
          ·
            refine z_bipush X (show cdA 76 54 = some (.bipush (-11), 2, 0, 0, (-11)) from rfl) ?_
            refine z_goto X (t := 61) (show cdA 76 56 = some (.goto 5, 3, 0, 0, 0) from rfl) (by decide) ?_
            exact N1012 _ (Or.inr (⟨g1032, rfl⟩))
        ·
          refine z_aload_n X (x := A 19) (show cdA 76 30 = some (.aload_n 0, 1, 0, 0, 0) from rfl) (List.Mem.head _) ?_
          refine s_getR X 19 (show cdA 76 31 = some (.getfield 31, 3, 7, 0, 0) from rfl) (by decide) rfl rfl ?_
          refine z_getI X 1 (show cdA 76 34 = some (.getfield 47, 3, 10, 6, 0) from rfl) (by decide) rfl rfl ?_
          have b1033 : ((-3) : Int) ≤ iI t 5 ∧ iI t 5 ≤ 255 := I.1 5
          refine z_bipush X (show cdA 76 37 = some (.bipush 47, 2, 0, 0, 47) from rfl) ?_
          refine z_icmp_ne X (t := 89) (show cdA 76 39 = some (.if_icmp .ne 50, 3, 1, 0, 0) from rfl) (by decide) (rng_to _) (by decide) (fun g1034 => ?_) (fun g1034 => ?_)
          ·
            refine WS_lv (lv := [(0, .ref (A 19)), (1, .int (Int32.ofInt c))]) (List.forall_mem_cons.mpr ⟨(List.Mem.head _), (List.forall_mem_cons.mpr ⟨(List.Mem.tail _ (List.Mem.head _)), (fun q h => absurd h List.not_mem_nil)⟩)⟩) ?_
            exact kx _ c I F (by first | exact ⟨hi.1, hi.2.1, hi.2.2.1, hi.2.2.2.1, hi.2.2.2.2⟩ | omega)
          ·
            refine z_aload_n X (x := A 19) (show cdA 76 42 = some (.aload_n 0, 1, 0, 0, 0) from rfl) (List.Mem.head _) ?_
            refine s_getR X 19 (show cdA 76 43 = some (.getfield 31, 3, 7, 0, 0) from rfl) (by decide) rfl rfl ?_
            refine z_getI X 1 (show cdA 76 46 = some (.getfield 47, 3, 10, 6, 0) from rfl) (by decide) rfl rfl ?_
            have b1035 : ((-3) : Int) ≤ iI t 5 ∧ iI t 5 ≤ 255 := I.1 5
            refine z_bipush X (show cdA 76 49 = some (.bipush 42, 2, 0, 0, 42) from rfl) ?_
            have N1036 : ∀ e1037 : Int, ((((iI t 5) ≠ 42) ∧ e1037 = (-12)) ∨ (((iI t 5) = 42) ∧ e1037 = (-11))) → WS k 61 [(0, .ref (A 19)), (1, .int (Int32.ofInt c))] [.int (Int32.ofInt e1037)] (Wd A dT t) 0 0 := by
              intro e1037 he1037
              have re1037 : (-12) ≤ e1037 ∧ e1037 ≤ (-11) := by omega
              refine z_store_n X (lv' := [(2, .int (Int32.ofInt e1037)), (0, .ref (A 19)), (1, .int (Int32.ofInt c))]) (show cdA 76 61 = some (.istore_n 2, 1, 0, 0, 0) from rfl) (by decide) (fun _ h => h) ?_
              refine z_aload_n X (x := A 19) (show cdA 76 62 = some (.aload_n 0, 1, 0, 0, 0) from rfl) (List.Mem.tail _ (List.Mem.head _)) ?_
              refine s_getR X 19 (show cdA 76 63 = some (.getfield 31, 3, 7, 0, 0) from rfl) (by decide) rfl rfl ?_
              refine z_callV X 1 (rm := rmN 129) (As := []) (st := []) (show cdA 76 66 = some (.invokevirtual 85, 3, 129, 0, 0) from rfl) rfl (by decide) rfl (by rw [E.1, E.2.1, E.2.2.1]; exact c10_step_1 G I (by first | exact hi.2.2.2.1 | omega)) ⟨by rw [E.2.2.2]; exact (show 7 + 1 ≤ (12 + (4 * (r) + 2)) from oq_4941a422 r), by rw [E.2.2.2]; exact (show 8 + (1 + 11) + 121 ≤ (500 + 45 * (4 * (r) + 2)) from oq_a823803b r), by rw [E.2.2.2]; exact Nat.le_refl 0, by rw [E.2.2.2]; exact Nat.le_refl 0⟩ (Nat.le_of_ble_eq_true rfl) (fun vv s1038 hq => ?_) (fun ee s1038 hq => ?_)
              rotate_left
              · obtain ⟨Is1038, Fs1038, hv, hps1038⟩ := hq; cases hv
              obtain ⟨Is1038, Fs1038, hv, hps1038⟩ := hq
              cases hv
              have Gs1038 := fm_ts F Fs1038 (by decide) (by decide)
              have b1040 : (0 : Int) ≤ iI s1038 2 ∧ iI s1038 2 ≤ 200 := Is1038.1 2
              have ws1038_1 : iI s1038 1 = iI t 1 := fm_i Fs1038 (by decide)
              have b1041 : (0 : Int) ≤ iI s1038 4 ∧ iI s1038 4 ≤ 200 := Is1038.1 4
              have b1042 : ((-3) : Int) ≤ iI s1038 5 ∧ iI s1038 5 ≤ 255 := Is1038.1 5
              have b1043 : (0 : Int) ≤ iI s1038 6 ∧ iI s1038 6 ≤ 100000 := Is1038.1 6
              have ws1038_19 : iI s1038 19 = iI t 19 := fm_i Fs1038 (by decide)
              have ws1038_16 : iI s1038 16 = iI t 16 := fm_i Fs1038 (by decide)
              show WS k 69 [(2, .int (Int32.ofInt e1037)), (0, .ref (A 19)), (1, .int (Int32.ofInt c))] [] (Wd A dT s1038) 0 0
              refine z_aload_n X (x := A 19) (show cdA 76 69 = some (.aload_n 0, 1, 0, 0, 0) from rfl) (List.Mem.tail _ (List.Mem.head _)) ?_
              refine z_callV X 19 (rm := (rkR (4 * (r) + 1))) (As := []) (st := []) (show cdA 76 70 = some (.invokevirtual 119, 3, 77, 0, 0) from rfl) rfl (by decide) rfl (by rw [E.1, E.2.1, E.2.2.1]; exact hU Is1038 (by first | exact hps1038.1 | omega) (by first | exact hps1038.2 | omega) (by first | exact oq_abe4e353 p2 ws1038_19 hi.2.2.1 | omega)) ⟨by rw [E.2.2.2]; exact (show (12 + (4 * (r) + 1)) + 1 ≤ (12 + (4 * (r) + 2)) from oq_dbb6b233 r), by rw [E.2.2.2]; exact (show 8 + (2 + 11) + (500 + 45 * (4 * (r) + 1)) ≤ (500 + 45 * (4 * (r) + 2)) from oq_0cecdb5e r), by rw [E.2.2.2]; exact Nat.le_refl 0, by rw [E.2.2.2]; exact Nat.le_refl 0⟩ (Nat.le_of_ble_eq_true rfl) (fun vv s1044 hq => ?_) (fun ee s1044 hq => ?_)
              rotate_left
              · obtain ⟨Is1044, Fs1044, e1045, hv, hrs1044, hps1044⟩ := hq; cases hv
              obtain ⟨Is1044, Fs1044, e1045, hv, hrs1044, hps1044⟩ := hq
              cases hv
              have Gs1044 := fm_ts Gs1038 Fs1044 (by decide) (by decide)
              have b1046 : (0 : Int) ≤ iI s1044 2 ∧ iI s1044 2 ≤ 200 := Is1044.1 2
              have ws1044_1 : iI s1044 1 = iI s1038 1 := fm_i Fs1044 (by decide)
              have b1047 : (0 : Int) ≤ iI s1044 4 ∧ iI s1044 4 ≤ 200 := Is1044.1 4
              have b1048 : ((-3) : Int) ≤ iI s1044 5 ∧ iI s1044 5 ≤ 255 := Is1044.1 5
              have b1049 : (0 : Int) ≤ iI s1044 6 ∧ iI s1044 6 ≤ 100000 := Is1044.1 6
              have b1050 : (0 : Int) ≤ iI s1044 19 ∧ iI s1044 19 ≤ 6 := Is1044.1 19
              have b1051 : (0 : Int) ≤ iI s1044 16 ∧ iI s1044 16 ≤ 200 := Is1044.1 16
              show WS k 73 [(2, .int (Int32.ofInt e1037)), (0, .ref (A 19)), (1, .int (Int32.ofInt c))] [.int (Int32.ofInt e1045)] (Wd A dT s1044) 0 0
              refine z_if_ne X (t := 78) (show cdA 76 73 = some (.ifCond .ne 5, 3, 1, 0, 0) from rfl) (by decide) hrs1044 (fun g1052 => ?_) (fun g1052 => ?_)
              ·
                refine z_aload_n X (x := A 19) (show cdA 76 78 = some (.aload_n 0, 1, 0, 0, 0) from rfl) (List.Mem.tail _ (List.Mem.head _)) ?_
                refine z_load_n X (x := e1037) (show cdA 76 79 = some (.iload_n 2, 1, 0, 0, 0) from rfl) (List.Mem.head _) ?_
                refine z_callV X 19 (rm := rmN 82) (As := [.int (Int32.ofInt e1037)]) (st := []) (show cdA 76 80 = some (.invokevirtual 103, 3, 82, 0, 0) from rfl) rfl (by decide) rfl (by rw [E.1, E.2.1, E.2.2.1]; exact c7_put_19 G Is1044 (by first | exact ⟨oq_b4ff86be re1037.1, oq_8c06164c re1037.2⟩ | omega)) ⟨by rw [E.2.2.2]; exact (show 6 + 1 ≤ (12 + (4 * (r) + 2)) from oq_d8760254 r), by rw [E.2.2.2]; exact (show 8 + (2 + 11) + 100 ≤ (500 + 45 * (4 * (r) + 2)) from oq_29829ae4 r), by rw [E.2.2.2]; exact Nat.le_refl 0, by rw [E.2.2.2]; exact Nat.le_refl 0⟩ (Nat.le_of_ble_eq_true rfl) (fun vv s1053 hq => ?_) (fun ee s1053 hq => ?_)
                rotate_left
                · obtain ⟨Is1053, Fs1053, hv, hps1053⟩ := hq; cases hv
                obtain ⟨Is1053, Fs1053, hv, hps1053⟩ := hq
                cases hv
                have Gs1053 := fm_ts Gs1044 Fs1053 (by decide) (by decide)
                have ws1053_2 : iI s1053 2 = iI s1044 2 := fm_i Fs1053 (by decide)
                have ws1053_1 : iI s1053 1 = iI s1044 1 := fm_i Fs1053 (by decide)
                have ws1053_4 : iI s1053 4 = iI s1044 4 := fm_i Fs1053 (by decide)
                have ws1053_5 : iI s1053 5 = iI s1044 5 := fm_i Fs1053 (by decide)
                have ws1053_6 : iI s1053 6 = iI s1044 6 := fm_i Fs1053 (by decide)
                have ws1053_19 : iI s1053 19 = iI s1044 19 := fm_i Fs1053 (by decide)
                have b1055 : (0 : Int) ≤ iI s1053 16 ∧ iI s1053 16 ≤ 200 := Is1053.1 16
                show WS k 83 [(2, .int (Int32.ofInt e1037)), (0, .ref (A 19)), (1, .int (Int32.ofInt c))] [] (Wd A dT s1053) 0 0
                refine z_inc X (x := c) (lv' := [(1, .int (Int32.ofInt (c + 1))), (2, .int (Int32.ofInt e1037)), (0, .ref (A 19))]) (show cdA 76 83 = some (.iinc 1 1, 3, 0, 0, 0) from rfl) (by decide) (List.Mem.tail _ (List.Mem.tail _ (List.Mem.head _))) (fun _ h => h) ?_
                refine z_goto X (t := 11) (show cdA 76 86 = some (.goto (-75), 3, 0, 0, 0) from rfl) (by decide) ?_
                refine WS_lv (lv := [(0, .ref (A 19)), (1, .int (Int32.ofInt (c + 1)))]) (List.forall_mem_cons.mpr ⟨(List.Mem.tail _ (List.Mem.tail _ (List.Mem.head _))), (List.forall_mem_cons.mpr ⟨(List.Mem.head _), (fun q h => absurd h List.not_mem_nil)⟩)⟩) ?_
                exact ih _ (c + 1) Is1053 Gs1053 (by omega) (by first | exact qk_me hm (by decide) (oq_1ab01402 g1008) | omega) kx
              ·
                refine z_const X (show cdA 76 76 = some (.iconst 0, 1, 0, 0, 0) from rfl) ?_
                exact w_iret X.1 q hRt (nar_ret (by first | exact Or.inl (by decide) | omega)) (ax_d X (show cdA 76 77 = some (.ireturn, 1, 0, 0, 0) from rfl)) (Nat.zero_le _) (Nat.zero_le _) ⟨_, rfl, Is1044, Gs1044, 0, rfl, (by decide), by first | exact ⟨Or.inl (by decide), by omega, by omega⟩ | omega⟩
            refine z_icmp_ne X (t := 59) (show cdA 76 51 = some (.if_icmp .ne 8, 3, 1, 0, 0) from rfl) (by decide) (rng_to _) (by decide) (fun g1056 => ?_) (fun g1056 => ?_)
            ·
              refine z_bipush X (show cdA 76 59 = some (.bipush (-12), 2, 0, 0, (-12)) from rfl) ?_
              exact N1036 _ (Or.inl ⟨g1056, rfl⟩)
            ·
              refine z_bipush X (show cdA 76 54 = some (.bipush (-11), 2, 0, 0, (-11)) from rfl) ?_
              refine z_goto X (t := 61) (show cdA 76 56 = some (.goto 5, 3, 0, 0, 0) from rfl) (by decide) ?_
              exact N1036 _ (Or.inr (⟨g1056, rfl⟩))
  refine z_aload_n X (x := A 19) (show cdA 76 0 = some (.aload_n 0, 1, 0, 0, 0) from rfl) (List.Mem.head _) ?_
  refine z_callV X 19 (rm := (rkR (4 * (r) + 1))) (As := []) (st := []) (show cdA 76 1 = some (.invokevirtual 119, 3, 77, 0, 0) from rfl) rfl (by decide) rfl (by rw [E.1, E.2.1, E.2.2.1]; exact hU I (by first | exact p0 | omega) (by first | exact p1 | omega) (by first | exact p2 | omega)) ⟨by rw [E.2.2.2]; exact (show (12 + (4 * (r) + 1)) + 1 ≤ (12 + (4 * (r) + 2)) from oq_dbb6b233 r), by rw [E.2.2.2]; exact (show 8 + (2 + 11) + (500 + 45 * (4 * (r) + 1)) ≤ (500 + 45 * (4 * (r) + 2)) from oq_0cecdb5e r), by rw [E.2.2.2]; exact Nat.le_refl 0, by rw [E.2.2.2]; exact Nat.le_refl 0⟩ (Nat.le_of_ble_eq_true rfl) (fun vv s8 hq => ?_) (fun ee s8 hq => ?_)
  rotate_left
  · obtain ⟨Is8, Fs8, e9, hv, hrs8, hps8⟩ := hq; cases hv
  obtain ⟨Is8, Fs8, e9, hv, hrs8, hps8⟩ := hq
  cases hv
  have Gs8 := fm_ts F Fs8 (by decide) (by decide)
  have b10 : (0 : Int) ≤ iI s8 2 ∧ iI s8 2 ≤ 200 := Is8.1 2
  have ws8_1 : iI s8 1 = iI s 1 := fm_i Fs8 (by decide)
  have b11 : (0 : Int) ≤ iI s8 4 ∧ iI s8 4 ≤ 200 := Is8.1 4
  have b12 : ((-3) : Int) ≤ iI s8 5 ∧ iI s8 5 ≤ 255 := Is8.1 5
  have b13 : (0 : Int) ≤ iI s8 6 ∧ iI s8 6 ≤ 100000 := Is8.1 6
  have b14 : (0 : Int) ≤ iI s8 19 ∧ iI s8 19 ≤ 6 := Is8.1 19
  have b15 : (0 : Int) ≤ iI s8 16 ∧ iI s8 16 ≤ 200 := Is8.1 16
  show WS k 4 [(0, .ref (A 19))] [.int (Int32.ofInt e9)] (Wd A dT s8) 0 0
  refine z_if_ne X (t := 9) (show cdA 76 4 = some (.ifCond .ne 5, 3, 1, 0, 0) from rfl) (by decide) hrs8 (fun g16 => ?_) (fun g16 => ?_)
  ·
    refine z_const X (show cdA 76 9 = some (.iconst 0, 1, 0, 0, 0) from rfl) ?_
    refine z_store_n X (lv' := [(1, .int (Int32.ofInt 0)), (0, .ref (A 19))]) (show cdA 76 10 = some (.istore_n 1, 1, 0, 0, 0) from rfl) (by decide) (fun _ h => h) ?_
    refine WS_lv (lv := [(0, .ref (A 19)), (1, .int (Int32.ofInt 0))]) (List.forall_mem_cons.mpr ⟨(List.Mem.tail _ (List.Mem.head _)), (List.forall_mem_cons.mpr ⟨(List.Mem.head _), (fun q h => absurd h List.not_mem_nil)⟩)⟩) ?_
    refine L11 ((200 - 0 : Int).toNat + 1) s8 0 Is8 Gs8 (by omega) (Nat.lt_succ_self _) ?_
    intro s17 x18 Is17 Fs17 hs17
    have b19 : (0 : Int) ≤ iI s17 2 ∧ iI s17 2 ≤ 200 := Is17.1 2
    have b20 : (0 : Int) ≤ iI s17 1 ∧ iI s17 1 ≤ 200 := Is17.1 1
    have b21 : (0 : Int) ≤ iI s17 4 ∧ iI s17 4 ≤ 200 := Is17.1 4
    have b22 : ((-3) : Int) ≤ iI s17 5 ∧ iI s17 5 ≤ 255 := Is17.1 5
    have b23 : (0 : Int) ≤ iI s17 6 ∧ iI s17 6 ≤ 100000 := Is17.1 6
    have b24 : (0 : Int) ≤ iI s17 19 ∧ iI s17 19 ≤ 6 := Is17.1 19
    have b25 : (0 : Int) ≤ iI s17 16 ∧ iI s17 16 ≤ 200 := Is17.1 16
    refine z_const X (show cdA 76 89 = some (.iconst 1, 1, 0, 0, 0) from rfl) ?_
    exact w_iret X.1 q hRt (nar_ret (by first | exact Or.inr (by decide) | omega)) (ax_d X (show cdA 76 90 = some (.ireturn, 1, 0, 0, 0) from rfl)) (Nat.zero_le _) (Nat.zero_le _) ⟨_, rfl, Is17, Fs17, 1, rfl, (by decide), by first | exact ⟨Or.inr (And.intro (by decide) (hs17.2.2.1)), hs17.2.2.2.1, hs17.2.2.2.2⟩ | omega⟩
  ·
    refine z_const X (show cdA 76 7 = some (.iconst 0, 1, 0, 0, 0) from rfl) ?_
    exact w_iret X.1 q hRt (nar_ret (by first | exact Or.inl (by decide) | omega)) (ax_d X (show cdA 76 8 = some (.ireturn, 1, 0, 0, 0) from rfl)) (Nat.zero_le _) (Nat.zero_le _) ⟨_, rfl, Is8, Gs8, 0, rfl, (by decide), by first | exact ⟨Or.inl (by decide), by omega, by omega⟩ | omega⟩
set_option maxRecDepth 4000 in
theorem c7_sumS (G : GX l s0 D tys a0 dT) (SF : SF0 s0) (GT : TXs0 s0) {r : Nat} (hP : ∀ {s : PS} , Bd s → (iI s 2 ≤ iI s 1) → (iI s 4 ≤ iI s 2) → (6 - iI s 19 ≤ ((r : Nat) : Int)) → CT l s0 D A dT 76 (rkR (4 * (r) + 2)) [.ref (A 19)] s (fun o t => Bd t ∧ Fm [2, 4, 6, 5, 7, 8, 19, 16] [18] s t ∧ ∃ e, o = .inl (some (.int (Int32.ofInt e))) ∧ rng e ∧ ((e = 0 ∨ (e = 1 ∧ iI t 19 = iI s 19)) ∧ iI t 2 ≤ iI t 1 ∧ iI t 4 ≤ iI t 2))) (I : Bd s) (p0 : iI s 2 ≤ iI s 1) (p1 : iI s 4 ≤ iI s 2) (p2 : 6 - iI s 19 ≤ ((r : Nat) : Int)) : CT l s0 D A dT 75 (rkR (4 * (r) + 3)) [.ref (A 19)] s (fun o t => Bd t ∧ Fm [2, 4, 6, 5, 7, 8, 19, 16] [18] s t ∧ ∃ e, o = .inl (some (.int (Int32.ofInt e))) ∧ rng e ∧ ((e = 0 ∨ (e = 1 ∧ iI t 19 = iI s 19)) ∧ iI t 2 ≤ iI t 1 ∧ iI t 4 ≤ iI t 2)) := by
  refine ct_ofX G (by decide) (Nat.le_of_ble_eq_true rfl) (fun k X E ET hRt hXt q => ?_)
  show WS k 0 [(0, .ref (A 19))] [] _ 0 0
  have F : Fm [2, 4, 6, 5, 7, 8, 19, 16] [18] s s := fm_rf _ _ s
  have b1 : (0 : Int) ≤ iI s 2 ∧ iI s 2 ≤ 200 := I.1 2
  have b2 : (0 : Int) ≤ iI s 1 ∧ iI s 1 ≤ 200 := I.1 1
  have b3 : (0 : Int) ≤ iI s 4 ∧ iI s 4 ≤ 200 := I.1 4
  have b4 : ((-3) : Int) ≤ iI s 5 ∧ iI s 5 ≤ 255 := I.1 5
  have b5 : (0 : Int) ≤ iI s 6 ∧ iI s 6 ≤ 100000 := I.1 6
  have b6 : (0 : Int) ≤ iI s 19 ∧ iI s 19 ≤ 6 := I.1 19
  have b7 : (0 : Int) ≤ iI s 16 ∧ iI s 16 ≤ 200 := I.1 16
  have L11 : ∀ (n : Nat) (t : PS) (c : Int), Bd t → Fm [2, 4, 6, 5, 7, 8, 19, 16] [18] s t → (0 ≤ c ∧ c ≤ 200 ∧ iI t 19 = iI s 19 ∧ iI t 2 ≤ iI t 1 ∧ iI t 4 ≤ iI t 2) → (200 - c : Int).toNat < n → (∀ (t' : PS) (c' : Int), Bd t' → Fm [2, 4, 6, 5, 7, 8, 19, 16] [18] s t' → (0 ≤ c' ∧ c' ≤ 200 ∧ iI t' 19 = iI s 19 ∧ iI t' 2 ≤ iI t' 1 ∧ iI t' 4 ≤ iI t' 2) → WS k 89 [(0, .ref (A 19)), (1, .int (Int32.ofInt c'))] [] (Wd A dT t') 0 0) → WS k 11 [(0, .ref (A 19)), (1, .int (Int32.ofInt c))] [] (Wd A dT t) 0 0 := by
    intro n
    induction n with
    | zero =>
      intro t c I F hi hm kx
      exact absurd hm (Nat.not_lt_zero _)
    | succ n ih =>
      intro t c I F hi hm kx
      have b1001 : (0 : Int) ≤ iI t 2 ∧ iI t 2 ≤ 200 := I.1 2
      have b1002 : (0 : Int) ≤ iI t 1 ∧ iI t 1 ≤ 200 := I.1 1
      have b1003 : (0 : Int) ≤ iI t 4 ∧ iI t 4 ≤ 200 := I.1 4
      have b1004 : ((-3) : Int) ≤ iI t 5 ∧ iI t 5 ≤ 255 := I.1 5
      have b1005 : (0 : Int) ≤ iI t 6 ∧ iI t 6 ≤ 100000 := I.1 6
      have b1006 : (0 : Int) ≤ iI t 19 ∧ iI t 19 ≤ 6 := I.1 19
      have b1007 : (0 : Int) ≤ iI t 16 ∧ iI t 16 ≤ 200 := I.1 16
      refine z_load_n X (x := c) (show cdA 75 11 = some (.iload_n 1, 1, 0, 0, 0) from rfl) (List.Mem.tail _ (List.Mem.head _)) ?_
      refine z_sipush X (show cdA 75 12 = some (.sipush 200, 3, 0, 0, 200) from rfl) ?_
      refine z_icmp_ge X (t := 89) (show cdA 75 15 = some (.if_icmp .ge 74, 3, 3, 0, 0) from rfl) (by decide) ⟨by first | exact oq_fa4e5087 hi.1 | omega, by first | exact oq_52af2b96 hi.2.1 | omega⟩ (by decide) (fun g1008 => ?_) (fun g1008 => ?_)
      ·
        refine WS_lv (lv := [(0, .ref (A 19)), (1, .int (Int32.ofInt c))]) (List.forall_mem_cons.mpr ⟨(List.Mem.head _), (List.forall_mem_cons.mpr ⟨(List.Mem.tail _ (List.Mem.head _)), (fun q h => absurd h List.not_mem_nil)⟩)⟩) ?_
        exact kx _ c I F (by first | exact ⟨hi.1, hi.2.1, hi.2.2.1, hi.2.2.2.1, hi.2.2.2.2⟩ | omega)
      ·
        refine z_aload_n X (x := A 19) (show cdA 75 18 = some (.aload_n 0, 1, 0, 0, 0) from rfl) (List.Mem.head _) ?_
        refine s_getR X 19 (show cdA 75 19 = some (.getfield 31, 3, 7, 0, 0) from rfl) (by decide) rfl rfl ?_
        refine z_getI X 1 (show cdA 75 22 = some (.getfield 47, 3, 10, 6, 0) from rfl) (by decide) rfl rfl ?_
        have b1009 : ((-3) : Int) ≤ iI t 5 ∧ iI t 5 ≤ 255 := I.1 5
        refine z_bipush X (show cdA 75 25 = some (.bipush 43, 2, 0, 0, 43) from rfl) ?_
        refine z_icmp_eq X (t := 42) (show cdA 75 27 = some (.if_icmp .eq 15, 3, 0, 0, 0) from rfl) (by decide) (rng_to _) (by decide) (fun g1010 => ?_) (fun g1010 => ?_)
        ·
          refine z_aload_n X (x := A 19) (show cdA 75 42 = some (.aload_n 0, 1, 0, 0, 0) from rfl) (List.Mem.head _) ?_
          refine s_getR X 19 (show cdA 75 43 = some (.getfield 31, 3, 7, 0, 0) from rfl) (by decide) rfl rfl ?_
          refine z_getI X 1 (show cdA 75 46 = some (.getfield 47, 3, 10, 6, 0) from rfl) (by decide) rfl rfl ?_
          have b1011 : ((-3) : Int) ≤ iI t 5 ∧ iI t 5 ≤ 255 := I.1 5
          refine z_bipush X (show cdA 75 49 = some (.bipush 43, 2, 0, 0, 43) from rfl) ?_
          have N1012 : ∀ e1013 : Int, ((((iI t 5) ≠ 43) ∧ e1013 = (-10)) ∨ (((iI t 5) = 43) ∧ e1013 = (-9))) → WS k 61 [(0, .ref (A 19)), (1, .int (Int32.ofInt c))] [.int (Int32.ofInt e1013)] (Wd A dT t) 0 0 := by
            intro e1013 he1013
            have re1013 : (-10) ≤ e1013 ∧ e1013 ≤ (-9) := by omega
            refine z_store_n X (lv' := [(2, .int (Int32.ofInt e1013)), (0, .ref (A 19)), (1, .int (Int32.ofInt c))]) (show cdA 75 61 = some (.istore_n 2, 1, 0, 0, 0) from rfl) (by decide) (fun _ h => h) ?_
            refine z_aload_n X (x := A 19) (show cdA 75 62 = some (.aload_n 0, 1, 0, 0, 0) from rfl) (List.Mem.tail _ (List.Mem.head _)) ?_
            refine s_getR X 19 (show cdA 75 63 = some (.getfield 31, 3, 7, 0, 0) from rfl) (by decide) rfl rfl ?_
            refine z_callV X 1 (rm := rmN 129) (As := []) (st := []) (show cdA 75 66 = some (.invokevirtual 85, 3, 129, 0, 0) from rfl) rfl (by decide) rfl (by rw [E.1, E.2.1, E.2.2.1]; exact c10_step_1 G I (by first | exact hi.2.2.2.1 | omega)) ⟨by rw [E.2.2.2]; exact (show 7 + 1 ≤ (12 + (4 * (r) + 3)) from oq_c7636a98 r), by rw [E.2.2.2]; exact (show 8 + (1 + 11) + 121 ≤ (500 + 45 * (4 * (r) + 3)) from oq_aba64d1b r), by rw [E.2.2.2]; exact Nat.le_refl 0, by rw [E.2.2.2]; exact Nat.le_refl 0⟩ (Nat.le_of_ble_eq_true rfl) (fun vv s1014 hq => ?_) (fun ee s1014 hq => ?_)
            rotate_left
            · obtain ⟨Is1014, Fs1014, hv, hps1014⟩ := hq; cases hv
            obtain ⟨Is1014, Fs1014, hv, hps1014⟩ := hq
            cases hv
            have Gs1014 := fm_ts F Fs1014 (by decide) (by decide)
            have b1016 : (0 : Int) ≤ iI s1014 2 ∧ iI s1014 2 ≤ 200 := Is1014.1 2
            have ws1014_1 : iI s1014 1 = iI t 1 := fm_i Fs1014 (by decide)
            have b1017 : (0 : Int) ≤ iI s1014 4 ∧ iI s1014 4 ≤ 200 := Is1014.1 4
            have b1018 : ((-3) : Int) ≤ iI s1014 5 ∧ iI s1014 5 ≤ 255 := Is1014.1 5
            have b1019 : (0 : Int) ≤ iI s1014 6 ∧ iI s1014 6 ≤ 100000 := Is1014.1 6
            have ws1014_19 : iI s1014 19 = iI t 19 := fm_i Fs1014 (by decide)
            have ws1014_16 : iI s1014 16 = iI t 16 := fm_i Fs1014 (by decide)
            show WS k 69 [(2, .int (Int32.ofInt e1013)), (0, .ref (A 19)), (1, .int (Int32.ofInt c))] [] (Wd A dT s1014) 0 0
            refine z_aload_n X (x := A 19) (show cdA 75 69 = some (.aload_n 0, 1, 0, 0, 0) from rfl) (List.Mem.tail _ (List.Mem.head _)) ?_
            refine z_callV X 19 (rm := (rkR (4 * (r) + 2))) (As := []) (st := []) (show cdA 75 70 = some (.invokevirtual 116, 3, 76, 0, 0) from rfl) rfl (by decide) rfl (by rw [E.1, E.2.1, E.2.2.1]; exact hP Is1014 (by first | exact hps1014.1 | omega) (by first | exact hps1014.2 | omega) (by first | exact oq_abe4e353 p2 ws1014_19 hi.2.2.1 | omega)) ⟨by rw [E.2.2.2]; exact (show (12 + (4 * (r) + 2)) + 1 ≤ (12 + (4 * (r) + 3)) from oq_2e478062 r), by rw [E.2.2.2]; exact (show 8 + (3 + 11) + (500 + 45 * (4 * (r) + 2)) ≤ (500 + 45 * (4 * (r) + 3)) from oq_cdd7b804 r), by rw [E.2.2.2]; exact Nat.le_refl 0, by rw [E.2.2.2]; exact Nat.le_refl 0⟩ (Nat.le_of_ble_eq_true rfl) (fun vv s1020 hq => ?_) (fun ee s1020 hq => ?_)
            rotate_left
            · obtain ⟨Is1020, Fs1020, e1021, hv, hrs1020, hps1020⟩ := hq; cases hv
            obtain ⟨Is1020, Fs1020, e1021, hv, hrs1020, hps1020⟩ := hq
            cases hv
            have Gs1020 := fm_ts Gs1014 Fs1020 (by decide) (by decide)
            have b1022 : (0 : Int) ≤ iI s1020 2 ∧ iI s1020 2 ≤ 200 := Is1020.1 2
            have ws1020_1 : iI s1020 1 = iI s1014 1 := fm_i Fs1020 (by decide)
            have b1023 : (0 : Int) ≤ iI s1020 4 ∧ iI s1020 4 ≤ 200 := Is1020.1 4
            have b1024 : ((-3) : Int) ≤ iI s1020 5 ∧ iI s1020 5 ≤ 255 := Is1020.1 5
            have b1025 : (0 : Int) ≤ iI s1020 6 ∧ iI s1020 6 ≤ 100000 := Is1020.1 6
            have b1026 : (0 : Int) ≤ iI s1020 19 ∧ iI s1020 19 ≤ 6 := Is1020.1 19
            have b1027 : (0 : Int) ≤ iI s1020 16 ∧ iI s1020 16 ≤ 200 := Is1020.1 16
            show WS k 73 [(2, .int (Int32.ofInt e1013)), (0, .ref (A 19)), (1, .int (Int32.ofInt c))] [.int (Int32.ofInt e1021)] (Wd A dT s1020) 0 0
            refine z_if_ne X (t := 78) (show cdA 75 73 = some (.ifCond .ne 5, 3, 1, 0, 0) from rfl) (by decide) hrs1020 (fun g1028 => ?_) (fun g1028 => ?_)
            ·
              refine z_aload_n X (x := A 19) (show cdA 75 78 = some (.aload_n 0, 1, 0, 0, 0) from rfl) (List.Mem.tail _ (List.Mem.head _)) ?_
              refine z_load_n X (x := e1013) (show cdA 75 79 = some (.iload_n 2, 1, 0, 0, 0) from rfl) (List.Mem.head _) ?_
              refine z_callV X 19 (rm := rmN 82) (As := [.int (Int32.ofInt e1013)]) (st := []) (show cdA 75 80 = some (.invokevirtual 103, 3, 82, 0, 0) from rfl) rfl (by decide) rfl (by rw [E.1, E.2.1, E.2.2.1]; exact c7_put_19 G Is1020 (by first | exact ⟨oq_3d7a4679 re1013.1, oq_8ddf7954 re1013.2⟩ | omega)) ⟨by rw [E.2.2.2]; exact (show 6 + 1 ≤ (12 + (4 * (r) + 3)) from oq_1fdce876 r), by rw [E.2.2.2]; exact (show 8 + (2 + 11) + 100 ≤ (500 + 45 * (4 * (r) + 3)) from oq_55a309dd r), by rw [E.2.2.2]; exact Nat.le_refl 0, by rw [E.2.2.2]; exact Nat.le_refl 0⟩ (Nat.le_of_ble_eq_true rfl) (fun vv s1029 hq => ?_) (fun ee s1029 hq => ?_)
              rotate_left
              · obtain ⟨Is1029, Fs1029, hv, hps1029⟩ := hq; cases hv
              obtain ⟨Is1029, Fs1029, hv, hps1029⟩ := hq
              cases hv
              have Gs1029 := fm_ts Gs1020 Fs1029 (by decide) (by decide)
              have ws1029_2 : iI s1029 2 = iI s1020 2 := fm_i Fs1029 (by decide)
              have ws1029_1 : iI s1029 1 = iI s1020 1 := fm_i Fs1029 (by decide)
              have ws1029_4 : iI s1029 4 = iI s1020 4 := fm_i Fs1029 (by decide)
              have ws1029_5 : iI s1029 5 = iI s1020 5 := fm_i Fs1029 (by decide)
              have ws1029_6 : iI s1029 6 = iI s1020 6 := fm_i Fs1029 (by decide)
              have ws1029_19 : iI s1029 19 = iI s1020 19 := fm_i Fs1029 (by decide)
              have b1031 : (0 : Int) ≤ iI s1029 16 ∧ iI s1029 16 ≤ 200 := Is1029.1 16
              show WS k 83 [(2, .int (Int32.ofInt e1013)), (0, .ref (A 19)), (1, .int (Int32.ofInt c))] [] (Wd A dT s1029) 0 0
              refine z_inc X (x := c) (lv' := [(1, .int (Int32.ofInt (c + 1))), (2, .int (Int32.ofInt e1013)), (0, .ref (A 19))]) (show cdA 75 83 = some (.iinc 1 1, 3, 0, 0, 0) from rfl) (by decide) (List.Mem.tail _ (List.Mem.tail _ (List.Mem.head _))) (fun _ h => h) ?_
              refine z_goto X (t := 11) (show cdA 75 86 = some (.goto (-75), 3, 0, 0, 0) from rfl) (by decide) ?_
              refine WS_lv (lv := [(0, .ref (A 19)), (1, .int (Int32.ofInt (c + 1)))]) (List.forall_mem_cons.mpr ⟨(List.Mem.tail _ (List.Mem.tail _ (List.Mem.head _))), (List.forall_mem_cons.mpr ⟨(List.Mem.head _), (fun q h => absurd h List.not_mem_nil)⟩)⟩) ?_
              exact ih _ (c + 1) Is1029 Gs1029 (by omega) (by first | exact qk_me hm (by decide) (oq_1ab01402 g1008) | omega) kx
            ·
              refine z_const X (show cdA 75 76 = some (.iconst 0, 1, 0, 0, 0) from rfl) ?_
              exact w_iret X.1 q hRt (nar_ret (by first | exact Or.inl (by decide) | omega)) (ax_d X (show cdA 75 77 = some (.ireturn, 1, 0, 0, 0) from rfl)) (Nat.zero_le _) (Nat.zero_le _) ⟨_, rfl, Is1020, Gs1020, 0, rfl, (by decide), by first | exact ⟨Or.inl (by decide), by omega, by omega⟩ | omega⟩
          refine z_icmp_ne X (t := 59) (show cdA 75 51 = some (.if_icmp .ne 8, 3, 1, 0, 0) from rfl) (by decide) (rng_to _) (by decide) (fun g1032 => ?_) (fun g1032 => ?_)
          ·
            refine z_bipush X (show cdA 75 59 = some (.bipush (-10), 2, 0, 0, (-10)) from rfl) ?_
            exact N1012 _ (Or.inl ⟨g1032, rfl⟩)
          ·
            refine z_bipush X (show cdA 75 54 = some (.bipush (-9), 2, 0, 0, (-9)) from rfl) ?_
            refine z_goto X (t := 61) (show cdA 75 56 = some (.goto 5, 3, 0, 0, 0) from rfl) (by decide) ?_
            exact N1012 _ (Or.inr (⟨g1032, rfl⟩))
        ·
          refine z_aload_n X (x := A 19) (show cdA 75 30 = some (.aload_n 0, 1, 0, 0, 0) from rfl) (List.Mem.head _) ?_
          refine s_getR X 19 (show cdA 75 31 = some (.getfield 31, 3, 7, 0, 0) from rfl) (by decide) rfl rfl ?_
          refine z_getI X 1 (show cdA 75 34 = some (.getfield 47, 3, 10, 6, 0) from rfl) (by decide) rfl rfl ?_
          have b1033 : ((-3) : Int) ≤ iI t 5 ∧ iI t 5 ≤ 255 := I.1 5
          refine z_bipush X (show cdA 75 37 = some (.bipush 45, 2, 0, 0, 45) from rfl) ?_
          refine z_icmp_ne X (t := 89) (show cdA 75 39 = some (.if_icmp .ne 50, 3, 1, 0, 0) from rfl) (by decide) (rng_to _) (by decide) (fun g1034 => ?_) (fun g1034 => ?_)
          ·
            refine WS_lv (lv := [(0, .ref (A 19)), (1, .int (Int32.ofInt c))]) (List.forall_mem_cons.mpr ⟨(List.Mem.head _), (List.forall_mem_cons.mpr ⟨(List.Mem.tail _ (List.Mem.head _)), (fun q h => absurd h List.not_mem_nil)⟩)⟩) ?_
            exact kx _ c I F (by first | exact ⟨hi.1, hi.2.1, hi.2.2.1, hi.2.2.2.1, hi.2.2.2.2⟩ | omega)
          ·
            refine z_aload_n X (x := A 19) (show cdA 75 42 = some (.aload_n 0, 1, 0, 0, 0) from rfl) (List.Mem.head _) ?_
            refine s_getR X 19 (show cdA 75 43 = some (.getfield 31, 3, 7, 0, 0) from rfl) (by decide) rfl rfl ?_
            refine z_getI X 1 (show cdA 75 46 = some (.getfield 47, 3, 10, 6, 0) from rfl) (by decide) rfl rfl ?_
            have b1035 : ((-3) : Int) ≤ iI t 5 ∧ iI t 5 ≤ 255 := I.1 5
            refine z_bipush X (show cdA 75 49 = some (.bipush 43, 2, 0, 0, 43) from rfl) ?_
            have N1036 : ∀ e1037 : Int, ((((iI t 5) ≠ 43) ∧ e1037 = (-10)) ∨ (((iI t 5) = 43) ∧ e1037 = (-9))) → WS k 61 [(0, .ref (A 19)), (1, .int (Int32.ofInt c))] [.int (Int32.ofInt e1037)] (Wd A dT t) 0 0 := by
              intro e1037 he1037
              have re1037 : (-10) ≤ e1037 ∧ e1037 ≤ (-9) := by omega
              refine z_store_n X (lv' := [(2, .int (Int32.ofInt e1037)), (0, .ref (A 19)), (1, .int (Int32.ofInt c))]) (show cdA 75 61 = some (.istore_n 2, 1, 0, 0, 0) from rfl) (by decide) (fun _ h => h) ?_
              refine z_aload_n X (x := A 19) (show cdA 75 62 = some (.aload_n 0, 1, 0, 0, 0) from rfl) (List.Mem.tail _ (List.Mem.head _)) ?_
              refine s_getR X 19 (show cdA 75 63 = some (.getfield 31, 3, 7, 0, 0) from rfl) (by decide) rfl rfl ?_
              refine z_callV X 1 (rm := rmN 129) (As := []) (st := []) (show cdA 75 66 = some (.invokevirtual 85, 3, 129, 0, 0) from rfl) rfl (by decide) rfl (by rw [E.1, E.2.1, E.2.2.1]; exact c10_step_1 G I (by first | exact hi.2.2.2.1 | omega)) ⟨by rw [E.2.2.2]; exact (show 7 + 1 ≤ (12 + (4 * (r) + 3)) from oq_c7636a98 r), by rw [E.2.2.2]; exact (show 8 + (1 + 11) + 121 ≤ (500 + 45 * (4 * (r) + 3)) from oq_aba64d1b r), by rw [E.2.2.2]; exact Nat.le_refl 0, by rw [E.2.2.2]; exact Nat.le_refl 0⟩ (Nat.le_of_ble_eq_true rfl) (fun vv s1038 hq => ?_) (fun ee s1038 hq => ?_)
              rotate_left
              · obtain ⟨Is1038, Fs1038, hv, hps1038⟩ := hq; cases hv
              obtain ⟨Is1038, Fs1038, hv, hps1038⟩ := hq
              cases hv
              have Gs1038 := fm_ts F Fs1038 (by decide) (by decide)
              have b1040 : (0 : Int) ≤ iI s1038 2 ∧ iI s1038 2 ≤ 200 := Is1038.1 2
              have ws1038_1 : iI s1038 1 = iI t 1 := fm_i Fs1038 (by decide)
              have b1041 : (0 : Int) ≤ iI s1038 4 ∧ iI s1038 4 ≤ 200 := Is1038.1 4
              have b1042 : ((-3) : Int) ≤ iI s1038 5 ∧ iI s1038 5 ≤ 255 := Is1038.1 5
              have b1043 : (0 : Int) ≤ iI s1038 6 ∧ iI s1038 6 ≤ 100000 := Is1038.1 6
              have ws1038_19 : iI s1038 19 = iI t 19 := fm_i Fs1038 (by decide)
              have ws1038_16 : iI s1038 16 = iI t 16 := fm_i Fs1038 (by decide)
              show WS k 69 [(2, .int (Int32.ofInt e1037)), (0, .ref (A 19)), (1, .int (Int32.ofInt c))] [] (Wd A dT s1038) 0 0
              refine z_aload_n X (x := A 19) (show cdA 75 69 = some (.aload_n 0, 1, 0, 0, 0) from rfl) (List.Mem.tail _ (List.Mem.head _)) ?_
              refine z_callV X 19 (rm := (rkR (4 * (r) + 2))) (As := []) (st := []) (show cdA 75 70 = some (.invokevirtual 116, 3, 76, 0, 0) from rfl) rfl (by decide) rfl (by rw [E.1, E.2.1, E.2.2.1]; exact hP Is1038 (by first | exact hps1038.1 | omega) (by first | exact hps1038.2 | omega) (by first | exact oq_abe4e353 p2 ws1038_19 hi.2.2.1 | omega)) ⟨by rw [E.2.2.2]; exact (show (12 + (4 * (r) + 2)) + 1 ≤ (12 + (4 * (r) + 3)) from oq_2e478062 r), by rw [E.2.2.2]; exact (show 8 + (3 + 11) + (500 + 45 * (4 * (r) + 2)) ≤ (500 + 45 * (4 * (r) + 3)) from oq_cdd7b804 r), by rw [E.2.2.2]; exact Nat.le_refl 0, by rw [E.2.2.2]; exact Nat.le_refl 0⟩ (Nat.le_of_ble_eq_true rfl) (fun vv s1044 hq => ?_) (fun ee s1044 hq => ?_)
              rotate_left
              · obtain ⟨Is1044, Fs1044, e1045, hv, hrs1044, hps1044⟩ := hq; cases hv
              obtain ⟨Is1044, Fs1044, e1045, hv, hrs1044, hps1044⟩ := hq
              cases hv
              have Gs1044 := fm_ts Gs1038 Fs1044 (by decide) (by decide)
              have b1046 : (0 : Int) ≤ iI s1044 2 ∧ iI s1044 2 ≤ 200 := Is1044.1 2
              have ws1044_1 : iI s1044 1 = iI s1038 1 := fm_i Fs1044 (by decide)
              have b1047 : (0 : Int) ≤ iI s1044 4 ∧ iI s1044 4 ≤ 200 := Is1044.1 4
              have b1048 : ((-3) : Int) ≤ iI s1044 5 ∧ iI s1044 5 ≤ 255 := Is1044.1 5
              have b1049 : (0 : Int) ≤ iI s1044 6 ∧ iI s1044 6 ≤ 100000 := Is1044.1 6
              have b1050 : (0 : Int) ≤ iI s1044 19 ∧ iI s1044 19 ≤ 6 := Is1044.1 19
              have b1051 : (0 : Int) ≤ iI s1044 16 ∧ iI s1044 16 ≤ 200 := Is1044.1 16
              show WS k 73 [(2, .int (Int32.ofInt e1037)), (0, .ref (A 19)), (1, .int (Int32.ofInt c))] [.int (Int32.ofInt e1045)] (Wd A dT s1044) 0 0
              refine z_if_ne X (t := 78) (show cdA 75 73 = some (.ifCond .ne 5, 3, 1, 0, 0) from rfl) (by decide) hrs1044 (fun g1052 => ?_) (fun g1052 => ?_)
              ·
                refine z_aload_n X (x := A 19) (show cdA 75 78 = some (.aload_n 0, 1, 0, 0, 0) from rfl) (List.Mem.tail _ (List.Mem.head _)) ?_
                refine z_load_n X (x := e1037) (show cdA 75 79 = some (.iload_n 2, 1, 0, 0, 0) from rfl) (List.Mem.head _) ?_
                refine z_callV X 19 (rm := rmN 82) (As := [.int (Int32.ofInt e1037)]) (st := []) (show cdA 75 80 = some (.invokevirtual 103, 3, 82, 0, 0) from rfl) rfl (by decide) rfl (by rw [E.1, E.2.1, E.2.2.1]; exact c7_put_19 G Is1044 (by first | exact ⟨oq_3d7a4679 re1037.1, oq_8ddf7954 re1037.2⟩ | omega)) ⟨by rw [E.2.2.2]; exact (show 6 + 1 ≤ (12 + (4 * (r) + 3)) from oq_1fdce876 r), by rw [E.2.2.2]; exact (show 8 + (2 + 11) + 100 ≤ (500 + 45 * (4 * (r) + 3)) from oq_55a309dd r), by rw [E.2.2.2]; exact Nat.le_refl 0, by rw [E.2.2.2]; exact Nat.le_refl 0⟩ (Nat.le_of_ble_eq_true rfl) (fun vv s1053 hq => ?_) (fun ee s1053 hq => ?_)
                rotate_left
                · obtain ⟨Is1053, Fs1053, hv, hps1053⟩ := hq; cases hv
                obtain ⟨Is1053, Fs1053, hv, hps1053⟩ := hq
                cases hv
                have Gs1053 := fm_ts Gs1044 Fs1053 (by decide) (by decide)
                have ws1053_2 : iI s1053 2 = iI s1044 2 := fm_i Fs1053 (by decide)
                have ws1053_1 : iI s1053 1 = iI s1044 1 := fm_i Fs1053 (by decide)
                have ws1053_4 : iI s1053 4 = iI s1044 4 := fm_i Fs1053 (by decide)
                have ws1053_5 : iI s1053 5 = iI s1044 5 := fm_i Fs1053 (by decide)
                have ws1053_6 : iI s1053 6 = iI s1044 6 := fm_i Fs1053 (by decide)
                have ws1053_19 : iI s1053 19 = iI s1044 19 := fm_i Fs1053 (by decide)
                have b1055 : (0 : Int) ≤ iI s1053 16 ∧ iI s1053 16 ≤ 200 := Is1053.1 16
                show WS k 83 [(2, .int (Int32.ofInt e1037)), (0, .ref (A 19)), (1, .int (Int32.ofInt c))] [] (Wd A dT s1053) 0 0
                refine z_inc X (x := c) (lv' := [(1, .int (Int32.ofInt (c + 1))), (2, .int (Int32.ofInt e1037)), (0, .ref (A 19))]) (show cdA 75 83 = some (.iinc 1 1, 3, 0, 0, 0) from rfl) (by decide) (List.Mem.tail _ (List.Mem.tail _ (List.Mem.head _))) (fun _ h => h) ?_
                refine z_goto X (t := 11) (show cdA 75 86 = some (.goto (-75), 3, 0, 0, 0) from rfl) (by decide) ?_
                refine WS_lv (lv := [(0, .ref (A 19)), (1, .int (Int32.ofInt (c + 1)))]) (List.forall_mem_cons.mpr ⟨(List.Mem.tail _ (List.Mem.tail _ (List.Mem.head _))), (List.forall_mem_cons.mpr ⟨(List.Mem.head _), (fun q h => absurd h List.not_mem_nil)⟩)⟩) ?_
                exact ih _ (c + 1) Is1053 Gs1053 (by omega) (by first | exact qk_me hm (by decide) (oq_1ab01402 g1008) | omega) kx
              ·
                refine z_const X (show cdA 75 76 = some (.iconst 0, 1, 0, 0, 0) from rfl) ?_
                exact w_iret X.1 q hRt (nar_ret (by first | exact Or.inl (by decide) | omega)) (ax_d X (show cdA 75 77 = some (.ireturn, 1, 0, 0, 0) from rfl)) (Nat.zero_le _) (Nat.zero_le _) ⟨_, rfl, Is1044, Gs1044, 0, rfl, (by decide), by first | exact ⟨Or.inl (by decide), by omega, by omega⟩ | omega⟩
            refine z_icmp_ne X (t := 59) (show cdA 75 51 = some (.if_icmp .ne 8, 3, 1, 0, 0) from rfl) (by decide) (rng_to _) (by decide) (fun g1056 => ?_) (fun g1056 => ?_)
            ·
              refine z_bipush X (show cdA 75 59 = some (.bipush (-10), 2, 0, 0, (-10)) from rfl) ?_
              exact N1036 _ (Or.inl ⟨g1056, rfl⟩)
            ·
              refine z_bipush X (show cdA 75 54 = some (.bipush (-9), 2, 0, 0, (-9)) from rfl) ?_
              refine z_goto X (t := 61) (show cdA 75 56 = some (.goto 5, 3, 0, 0, 0) from rfl) (by decide) ?_
              exact N1036 _ (Or.inr (⟨g1056, rfl⟩))
  refine z_aload_n X (x := A 19) (show cdA 75 0 = some (.aload_n 0, 1, 0, 0, 0) from rfl) (List.Mem.head _) ?_
  refine z_callV X 19 (rm := (rkR (4 * (r) + 2))) (As := []) (st := []) (show cdA 75 1 = some (.invokevirtual 116, 3, 76, 0, 0) from rfl) rfl (by decide) rfl (by rw [E.1, E.2.1, E.2.2.1]; exact hP I (by first | exact p0 | omega) (by first | exact p1 | omega) (by first | exact p2 | omega)) ⟨by rw [E.2.2.2]; exact (show (12 + (4 * (r) + 2)) + 1 ≤ (12 + (4 * (r) + 3)) from oq_2e478062 r), by rw [E.2.2.2]; exact (show 8 + (3 + 11) + (500 + 45 * (4 * (r) + 2)) ≤ (500 + 45 * (4 * (r) + 3)) from oq_cdd7b804 r), by rw [E.2.2.2]; exact Nat.le_refl 0, by rw [E.2.2.2]; exact Nat.le_refl 0⟩ (Nat.le_of_ble_eq_true rfl) (fun vv s8 hq => ?_) (fun ee s8 hq => ?_)
  rotate_left
  · obtain ⟨Is8, Fs8, e9, hv, hrs8, hps8⟩ := hq; cases hv
  obtain ⟨Is8, Fs8, e9, hv, hrs8, hps8⟩ := hq
  cases hv
  have Gs8 := fm_ts F Fs8 (by decide) (by decide)
  have b10 : (0 : Int) ≤ iI s8 2 ∧ iI s8 2 ≤ 200 := Is8.1 2
  have ws8_1 : iI s8 1 = iI s 1 := fm_i Fs8 (by decide)
  have b11 : (0 : Int) ≤ iI s8 4 ∧ iI s8 4 ≤ 200 := Is8.1 4
  have b12 : ((-3) : Int) ≤ iI s8 5 ∧ iI s8 5 ≤ 255 := Is8.1 5
  have b13 : (0 : Int) ≤ iI s8 6 ∧ iI s8 6 ≤ 100000 := Is8.1 6
  have b14 : (0 : Int) ≤ iI s8 19 ∧ iI s8 19 ≤ 6 := Is8.1 19
  have b15 : (0 : Int) ≤ iI s8 16 ∧ iI s8 16 ≤ 200 := Is8.1 16
  show WS k 4 [(0, .ref (A 19))] [.int (Int32.ofInt e9)] (Wd A dT s8) 0 0
  refine z_if_ne X (t := 9) (show cdA 75 4 = some (.ifCond .ne 5, 3, 1, 0, 0) from rfl) (by decide) hrs8 (fun g16 => ?_) (fun g16 => ?_)
  ·
    refine z_const X (show cdA 75 9 = some (.iconst 0, 1, 0, 0, 0) from rfl) ?_
    refine z_store_n X (lv' := [(1, .int (Int32.ofInt 0)), (0, .ref (A 19))]) (show cdA 75 10 = some (.istore_n 1, 1, 0, 0, 0) from rfl) (by decide) (fun _ h => h) ?_
    refine WS_lv (lv := [(0, .ref (A 19)), (1, .int (Int32.ofInt 0))]) (List.forall_mem_cons.mpr ⟨(List.Mem.tail _ (List.Mem.head _)), (List.forall_mem_cons.mpr ⟨(List.Mem.head _), (fun q h => absurd h List.not_mem_nil)⟩)⟩) ?_
    refine L11 ((200 - 0 : Int).toNat + 1) s8 0 Is8 Gs8 (by omega) (Nat.lt_succ_self _) ?_
    intro s17 x18 Is17 Fs17 hs17
    have b19 : (0 : Int) ≤ iI s17 2 ∧ iI s17 2 ≤ 200 := Is17.1 2
    have b20 : (0 : Int) ≤ iI s17 1 ∧ iI s17 1 ≤ 200 := Is17.1 1
    have b21 : (0 : Int) ≤ iI s17 4 ∧ iI s17 4 ≤ 200 := Is17.1 4
    have b22 : ((-3) : Int) ≤ iI s17 5 ∧ iI s17 5 ≤ 255 := Is17.1 5
    have b23 : (0 : Int) ≤ iI s17 6 ∧ iI s17 6 ≤ 100000 := Is17.1 6
    have b24 : (0 : Int) ≤ iI s17 19 ∧ iI s17 19 ≤ 6 := Is17.1 19
    have b25 : (0 : Int) ≤ iI s17 16 ∧ iI s17 16 ≤ 200 := Is17.1 16
    refine z_const X (show cdA 75 89 = some (.iconst 1, 1, 0, 0, 0) from rfl) ?_
    exact w_iret X.1 q hRt (nar_ret (by first | exact Or.inr (by decide) | omega)) (ax_d X (show cdA 75 90 = some (.ireturn, 1, 0, 0, 0) from rfl)) (Nat.zero_le _) (Nat.zero_le _) ⟨_, rfl, Is17, Fs17, 1, rfl, (by decide), by first | exact ⟨Or.inr (And.intro (by decide) (hs17.2.2.1)), hs17.2.2.2.1, hs17.2.2.2.2⟩ | omega⟩
  ·
    refine z_const X (show cdA 75 7 = some (.iconst 0, 1, 0, 0, 0) from rfl) ?_
    exact w_iret X.1 q hRt (nar_ret (by first | exact Or.inl (by decide) | omega)) (ax_d X (show cdA 75 8 = some (.ireturn, 1, 0, 0, 0) from rfl)) (Nat.zero_le _) (Nat.zero_le _) ⟨_, rfl, Is8, Gs8, 0, rfl, (by decide), by first | exact ⟨Or.inl (by decide), by omega, by omega⟩ | omega⟩
theorem c7_sumr (G : GX l s0 D tys a0 dT) (SF : SF0 s0) (GT : TXs0 s0) (r : Nat) : (∀ {s : PS} {x : Int}, Bd s → (rng x) → (iI s 2 ≤ iI s 1) → (iI s 4 ≤ iI s 2) → (6 - iI s 19 ≤ ((r : Nat) : Int)) → CT l s0 D A dT 78 (rkR (4 * (r))) [.ref (A 19), .int (Int32.ofInt x)] s (fun o t => Bd t ∧ Fm [2, 4, 6, 5, 7, 8, 19, 16] [18] s t ∧ ∃ e, o = .inl (some (.int (Int32.ofInt e))) ∧ rng e ∧ ((e = 0 ∨ (e = 1 ∧ iI t 19 = iI s 19)) ∧ iI t 2 ≤ iI t 1 ∧ iI t 4 ≤ iI t 2))) ∧ (∀ {s : PS} , Bd s → (iI s 2 ≤ iI s 1) → (iI s 4 ≤ iI s 2) → (6 - iI s 19 ≤ ((r : Nat) : Int)) → CT l s0 D A dT 77 (rkR (4 * (r) + 1)) [.ref (A 19)] s (fun o t => Bd t ∧ Fm [2, 4, 6, 5, 7, 8, 19, 16] [18] s t ∧ ∃ e, o = .inl (some (.int (Int32.ofInt e))) ∧ rng e ∧ ((e = 0 ∨ (e = 1 ∧ iI t 19 = iI s 19)) ∧ iI t 2 ≤ iI t 1 ∧ iI t 4 ≤ iI t 2))) ∧ (∀ {s : PS} , Bd s → (iI s 2 ≤ iI s 1) → (iI s 4 ≤ iI s 2) → (6 - iI s 19 ≤ ((r : Nat) : Int)) → CT l s0 D A dT 76 (rkR (4 * (r) + 2)) [.ref (A 19)] s (fun o t => Bd t ∧ Fm [2, 4, 6, 5, 7, 8, 19, 16] [18] s t ∧ ∃ e, o = .inl (some (.int (Int32.ofInt e))) ∧ rng e ∧ ((e = 0 ∨ (e = 1 ∧ iI t 19 = iI s 19)) ∧ iI t 2 ≤ iI t 1 ∧ iI t 4 ≤ iI t 2))) ∧ (∀ {s : PS} , Bd s → (iI s 2 ≤ iI s 1) → (iI s 4 ≤ iI s 2) → (6 - iI s 19 ≤ ((r : Nat) : Int)) → CT l s0 D A dT 75 (rkR (4 * (r) + 3)) [.ref (A 19)] s (fun o t => Bd t ∧ Fm [2, 4, 6, 5, 7, 8, 19, 16] [18] s t ∧ ∃ e, o = .inl (some (.int (Int32.ofInt e))) ∧ rng e ∧ ((e = 0 ∨ (e = 1 ∧ iI t 19 = iI s 19)) ∧ iI t 2 ≤ iI t 1 ∧ iI t 4 ≤ iI t 2))) := by
  induction r with
  | zero =>
    have hT : ∀ {s : PS} {x : Int}, Bd s → (rng x) → (iI s 2 ≤ iI s 1) → (iI s 4 ≤ iI s 2) → (6 - iI s 19 ≤ ((0 : Nat) : Int)) → CT l s0 D A dT 78 (rkR (4 * (0))) [.ref (A 19), .int (Int32.ofInt x)] s (fun o t => Bd t ∧ Fm [2, 4, 6, 5, 7, 8, 19, 16] [18] s t ∧ ∃ e, o = .inl (some (.int (Int32.ofInt e))) ∧ rng e ∧ ((e = 0 ∨ (e = 1 ∧ iI t 19 = iI s 19)) ∧ iI t 2 ≤ iI t 1 ∧ iI t 4 ≤ iI t 2)) := fun {_ _} I p0 p1 p2 p3 => c7_two0 G SF GT I p0 p1 p2 p3
    have hU : ∀ {s : PS} , Bd s → (iI s 2 ≤ iI s 1) → (iI s 4 ≤ iI s 2) → (6 - iI s 19 ≤ ((0 : Nat) : Int)) → CT l s0 D A dT 77 (rkR (4 * (0) + 1)) [.ref (A 19)] s (fun o t => Bd t ∧ Fm [2, 4, 6, 5, 7, 8, 19, 16] [18] s t ∧ ∃ e, o = .inl (some (.int (Int32.ofInt e))) ∧ rng e ∧ ((e = 0 ∨ (e = 1 ∧ iI t 19 = iI s 19)) ∧ iI t 2 ≤ iI t 1 ∧ iI t 4 ≤ iI t 2)) := fun {_} I p0 p1 p2 => c7_unit0 G SF GT hT I p0 p1 p2
    have hP : ∀ {s : PS} , Bd s → (iI s 2 ≤ iI s 1) → (iI s 4 ≤ iI s 2) → (6 - iI s 19 ≤ ((0 : Nat) : Int)) → CT l s0 D A dT 76 (rkR (4 * (0) + 2)) [.ref (A 19)] s (fun o t => Bd t ∧ Fm [2, 4, 6, 5, 7, 8, 19, 16] [18] s t ∧ ∃ e, o = .inl (some (.int (Int32.ofInt e))) ∧ rng e ∧ ((e = 0 ∨ (e = 1 ∧ iI t 19 = iI s 19)) ∧ iI t 2 ≤ iI t 1 ∧ iI t 4 ≤ iI t 2)) := fun {_} I p0 p1 p2 => c7_prodS (r := 0) G SF GT hU I p0 p1 p2
    exact ⟨hT, hU, hP, fun {_} I p0 p1 p2 => c7_sumS (r := 0) G SF GT hP I p0 p1 p2⟩
  | succ r ih =>
    have hT : ∀ {s : PS} {x : Int}, Bd s → (rng x) → (iI s 2 ≤ iI s 1) → (iI s 4 ≤ iI s 2) → (6 - iI s 19 ≤ ((r + 1 : Nat) : Int)) → CT l s0 D A dT 78 (rkR (4 * (r + 1))) [.ref (A 19), .int (Int32.ofInt x)] s (fun o t => Bd t ∧ Fm [2, 4, 6, 5, 7, 8, 19, 16] [18] s t ∧ ∃ e, o = .inl (some (.int (Int32.ofInt e))) ∧ rng e ∧ ((e = 0 ∨ (e = 1 ∧ iI t 19 = iI s 19)) ∧ iI t 2 ≤ iI t 1 ∧ iI t 4 ≤ iI t 2)) := fun {_ _} I p0 p1 p2 p3 => c7_twoS (r := r) G SF GT ih.2.2.2 I p0 p1 p2 p3
    have hU : ∀ {s : PS} , Bd s → (iI s 2 ≤ iI s 1) → (iI s 4 ≤ iI s 2) → (6 - iI s 19 ≤ ((r + 1 : Nat) : Int)) → CT l s0 D A dT 77 (rkR (4 * (r + 1) + 1)) [.ref (A 19)] s (fun o t => Bd t ∧ Fm [2, 4, 6, 5, 7, 8, 19, 16] [18] s t ∧ ∃ e, o = .inl (some (.int (Int32.ofInt e))) ∧ rng e ∧ ((e = 0 ∨ (e = 1 ∧ iI t 19 = iI s 19)) ∧ iI t 2 ≤ iI t 1 ∧ iI t 4 ≤ iI t 2)) := fun {_} I p0 p1 p2 => c7_unitS (r := r) G SF GT hT ih.2.2.2 I p0 p1 p2
    have hP : ∀ {s : PS} , Bd s → (iI s 2 ≤ iI s 1) → (iI s 4 ≤ iI s 2) → (6 - iI s 19 ≤ ((r + 1 : Nat) : Int)) → CT l s0 D A dT 76 (rkR (4 * (r + 1) + 2)) [.ref (A 19)] s (fun o t => Bd t ∧ Fm [2, 4, 6, 5, 7, 8, 19, 16] [18] s t ∧ ∃ e, o = .inl (some (.int (Int32.ofInt e))) ∧ rng e ∧ ((e = 0 ∨ (e = 1 ∧ iI t 19 = iI s 19)) ∧ iI t 2 ≤ iI t 1 ∧ iI t 4 ≤ iI t 2)) := fun {_} I p0 p1 p2 => c7_prodS (r := r + 1) G SF GT hU I p0 p1 p2
    exact ⟨hT, hU, hP, fun {_} I p0 p1 p2 => c7_sumS (r := r + 1) G SF GT hP I p0 p1 p2⟩
set_option maxRecDepth 4000 in
theorem c7_test0 (G : GX l s0 D tys a0 dT) (SF : SF0 s0) (GT : TXs0 s0) (I : Bd s) (p0 : iI s 2 ≤ iI s 1) (p1 : iI s 4 ≤ iI s 2) (p2 : 6 - iI s 19 ≤ ((0 : Nat) : Int)) : CT l s0 D A dT 74 (rkR (32 + 3 * (0))) [.ref (A 19)] s (fun o t => Bd t ∧ Fm [2, 4, 6, 5, 7, 8, 19, 16] [18] s t ∧ ∃ e, o = .inl (some (.int (Int32.ofInt e))) ∧ rng e ∧ ((e = 0 ∨ (e = 1 ∧ iI t 19 = iI s 19)) ∧ iI t 2 ≤ iI t 1 ∧ iI t 4 ≤ iI t 2)) := by
  refine ct_ofX G (by decide) (Nat.le_of_ble_eq_true rfl) (fun k X E ET hRt hXt q => ?_)
  show WS k 0 [(0, .ref (A 19))] [] _ 0 0
  have F : Fm [2, 4, 6, 5, 7, 8, 19, 16] [18] s s := fm_rf _ _ s
  have b1 : (0 : Int) ≤ iI s 2 ∧ iI s 2 ≤ 200 := I.1 2
  have b2 : (0 : Int) ≤ iI s 1 ∧ iI s 1 ≤ 200 := I.1 1
  have b3 : (0 : Int) ≤ iI s 4 ∧ iI s 4 ≤ 200 := I.1 4
  have b4 : ((-3) : Int) ≤ iI s 5 ∧ iI s 5 ≤ 255 := I.1 5
  have b5 : (0 : Int) ≤ iI s 6 ∧ iI s 6 ≤ 100000 := I.1 6
  have b6 : (0 : Int) ≤ iI s 19 ∧ iI s 19 ≤ 6 := I.1 19
  have b7 : (0 : Int) ≤ iI s 16 ∧ iI s 16 ≤ 200 := I.1 16
  refine z_aload_n X (x := A 19) (show cdA 74 0 = some (.aload_n 0, 1, 0, 0, 0) from rfl) (List.Mem.head _) ?_
  refine s_getR X 19 (show cdA 74 1 = some (.getfield 31, 3, 7, 0, 0) from rfl) (by decide) rfl rfl ?_
  obtain ⟨tx111, q111, hR111, hS111⟩ := GT (111, 3) (by decide)
  refine w_ldcK X (show vk_R (kOwn k) 111 tx111 q111 (kS0 k) by rw [E.2.1, X.2.1.2.1]; exact hR111) (show decode (kCc k) 4 = .ok (.ldc 111, 2) by rw [X.2.1.1]; decide +kernel) ?_
  refine z_callV X 1 (rm := rmN 131) (As := [.ref q111]) (st := []) (show cdA 74 6 = some (.invokevirtual 76, 3, 131, 0, 0) from rfl) rfl (by decide) rfl (by rw [E.1, E.2.1, E.2.2.1]; exact c10_says G SF hS111 I (by first | exact p1 | omega)) ⟨by rw [E.2.2.2]; exact (show 11 + 1 ≤ (12 + (32 + 3 * (0))) from oq_f95a2bb1), by rw [E.2.2.2]; exact (show 8 + (3 + 11) + 206 ≤ (500 + 45 * (32 + 3 * (0))) from oq_70624d19), by rw [E.2.2.2]; exact Nat.le_refl 0, by rw [E.2.2.2]; exact Nat.le_refl 0⟩ (Nat.le_of_ble_eq_true rfl) (fun vv s8 hq => ?_) (fun ee s8 hq => ?_)
  rotate_left
  · obtain ⟨Is8, Fs8, e9, hv, hrs8, hps8⟩ := hq; cases hv
  obtain ⟨Is8, Fs8, e9, hv, hrs8, hps8⟩ := hq
  cases hv
  have Gs8 := fm_ts F Fs8 (by decide) (by decide)
  have ws8_2 : iI s8 2 = iI s 2 := fm_i Fs8 (by decide)
  have ws8_1 : iI s8 1 = iI s 1 := fm_i Fs8 (by decide)
  have ws8_4 : iI s8 4 = iI s 4 := fm_i Fs8 (by decide)
  have ws8_5 : iI s8 5 = iI s 5 := fm_i Fs8 (by decide)
  have ws8_6 : iI s8 6 = iI s 6 := fm_i Fs8 (by decide)
  have ws8_19 : iI s8 19 = iI s 19 := fm_i Fs8 (by decide)
  have ws8_16 : iI s8 16 = iI s 16 := fm_i Fs8 (by decide)
  show WS k 9 [(0, .ref (A 19))] [.int (Int32.ofInt e9)] (Wd A dT s8) 0 0
  refine z_if_eq X (t := 46) (show cdA 74 9 = some (.ifCond .eq 37, 3, 0, 0, 0) from rfl) (by decide) hrs8 (fun g10 => ?_) (fun g10 => ?_)
  ·
    refine z_aload_n X (x := A 19) (show cdA 74 46 = some (.aload_n 0, 1, 0, 0, 0) from rfl) (List.Mem.head _) ?_
    refine s_getR X 19 (show cdA 74 47 = some (.getfield 31, 3, 7, 0, 0) from rfl) (by decide) rfl rfl ?_
    refine z_getI X 1 (show cdA 74 50 = some (.getfield 47, 3, 10, 6, 0) from rfl) (by decide) rfl rfl ?_
    have b11 : ((-3) : Int) ≤ iI s8 5 ∧ iI s8 5 ≤ 255 := Is8.1 5
    refine z_bipush X (show cdA 74 53 = some (.bipush 91, 2, 0, 0, 91) from rfl) ?_
    refine z_icmp_ne X (t := 95) (show cdA 74 55 = some (.if_icmp .ne 40, 3, 1, 0, 0) from rfl) (by decide) (rng_to _) (by decide) (fun g12 => ?_) (fun g12 => ?_)
    ·
      refine z_aload_n X (x := A 19) (show cdA 74 95 = some (.aload_n 0, 1, 0, 0, 0) from rfl) (List.Mem.head _) ?_
      refine z_callV X 19 (rm := (rkR (4 * (7) + 3))) (As := []) (st := []) (show cdA 74 96 = some (.invokevirtual 88, 3, 75, 0, 0) from rfl) rfl (by decide) rfl (by rw [E.1, E.2.1, E.2.2.1]; exact (c7_sumr G SF GT 7).2.2.2 Is8 (by first | exact oq_e7b9ecab ws8_1 ws8_2 p0 | omega) (by first | exact oq_e7b9ecab ws8_2 ws8_4 p1 | omega) (by first | exact oq_ba167e5f ws8_19 b6.1 | omega)) ⟨by rw [E.2.2.2]; exact (show (12 + (4 * (7) + 3)) + 1 ≤ (12 + (32 + 3 * (0))) from oq_8943d30a), by rw [E.2.2.2]; exact (show 8 + (3 + 11) + (500 + 45 * (4 * (7) + 3)) ≤ (500 + 45 * (32 + 3 * (0))) from oq_a0b1cf65), by rw [E.2.2.2]; exact Nat.le_refl 0, by rw [E.2.2.2]; exact Nat.le_refl 0⟩ (Nat.le_of_ble_eq_true rfl) (fun vv s13 hq => ?_) (fun ee s13 hq => ?_)
      rotate_left
      · obtain ⟨Is13, Fs13, e14, hv, hrs13, hps13⟩ := hq; cases hv
      obtain ⟨Is13, Fs13, e14, hv, hrs13, hps13⟩ := hq
      cases hv
      have Gs13 := fm_ts Gs8 Fs13 (by decide) (by decide)
      have b15 : (0 : Int) ≤ iI s13 2 ∧ iI s13 2 ≤ 200 := Is13.1 2
      have ws13_1 : iI s13 1 = iI s8 1 := fm_i Fs13 (by decide)
      have b16 : (0 : Int) ≤ iI s13 4 ∧ iI s13 4 ≤ 200 := Is13.1 4
      have b17 : ((-3) : Int) ≤ iI s13 5 ∧ iI s13 5 ≤ 255 := Is13.1 5
      have b18 : (0 : Int) ≤ iI s13 6 ∧ iI s13 6 ≤ 100000 := Is13.1 6
      have b19 : (0 : Int) ≤ iI s13 19 ∧ iI s13 19 ≤ 6 := Is13.1 19
      have b20 : (0 : Int) ≤ iI s13 16 ∧ iI s13 16 ≤ 200 := Is13.1 16
      show WS k 99 [(0, .ref (A 19))] [.int (Int32.ofInt e14)] (Wd A dT s13) 0 0
      refine z_if_ne X (t := 104) (show cdA 74 99 = some (.ifCond .ne 5, 3, 1, 0, 0) from rfl) (by decide) hrs13 (fun g21 => ?_) (fun g21 => ?_)
      ·
        refine z_aload_n X (x := A 19) (show cdA 74 104 = some (.aload_n 0, 1, 0, 0, 0) from rfl) (List.Mem.head _) ?_
        refine s_getR X 19 (show cdA 74 105 = some (.getfield 31, 3, 7, 0, 0) from rfl) (by decide) rfl rfl ?_
        refine z_getI X 1 (show cdA 74 108 = some (.getfield 47, 3, 10, 6, 0) from rfl) (by decide) rfl rfl ?_
        have b22 : ((-3) : Int) ≤ iI s13 5 ∧ iI s13 5 ≤ 255 := Is13.1 5
        refine z_bipush X (show cdA 74 111 = some (.bipush 60, 2, 0, 0, 60) from rfl) ?_
        have N23 : ∀ e24 : Int, ((-20) ≤ e24 ∧ e24 ≤ (-15)) → WS k 157 [(0, .ref (A 19))] [.int (Int32.ofInt e24)] (Wd A dT s13) 0 0 := by
          intro e24 he24
          refine z_store_n X (lv' := [(1, .int (Int32.ofInt e24)), (0, .ref (A 19))]) (show cdA 74 157 = some (.istore_n 1, 1, 0, 0, 0) from rfl) (by decide) (fun _ h => h) ?_
          refine z_load_n X (x := e24) (show cdA 74 158 = some (.iload_n 1, 1, 0, 0, 0) from rfl) (List.Mem.head _) ?_
          refine z_bipush X (show cdA 74 159 = some (.bipush (-20), 2, 0, 0, (-20)) from rfl) ?_
          refine z_icmp_ne X (t := 173) (show cdA 74 161 = some (.if_icmp .ne 12, 3, 1, 0, 0) from rfl) (by decide) ⟨by first | exact oq_e12b0ae3 he24.1 | omega, by first | exact oq_86745356 he24.2 | omega⟩ (by decide) (fun g25 => ?_) (fun g25 => ?_)
          ·
            refine z_aload_n X (x := A 19) (show cdA 74 173 = some (.aload_n 0, 1, 0, 0, 0) from rfl) (List.Mem.tail _ (List.Mem.head _)) ?_
            refine s_getR X 19 (show cdA 74 174 = some (.getfield 31, 3, 7, 0, 0) from rfl) (by decide) rfl rfl ?_
            refine z_callV X 1 (rm := rmN 129) (As := []) (st := []) (show cdA 74 177 = some (.invokevirtual 85, 3, 129, 0, 0) from rfl) rfl (by decide) rfl (by rw [E.1, E.2.1, E.2.2.1]; exact c10_step_1 G Is13 (by omega)) ⟨by rw [E.2.2.2]; exact (show 7 + 1 ≤ (12 + (32 + 3 * (0))) from oq_98d05d0f), by rw [E.2.2.2]; exact (show 8 + (1 + 11) + 121 ≤ (500 + 45 * (32 + 3 * (0))) from oq_2a8149c4), by rw [E.2.2.2]; exact Nat.le_refl 0, by rw [E.2.2.2]; exact Nat.le_refl 0⟩ (Nat.le_of_ble_eq_true rfl) (fun vv s26 hq => ?_) (fun ee s26 hq => ?_)
            rotate_left
            · obtain ⟨Is26, Fs26, hv, hps26⟩ := hq; cases hv
            obtain ⟨Is26, Fs26, hv, hps26⟩ := hq
            cases hv
            have Gs26 := fm_ts Gs13 Fs26 (by decide) (by decide)
            have b28 : (0 : Int) ≤ iI s26 2 ∧ iI s26 2 ≤ 200 := Is26.1 2
            have ws26_1 : iI s26 1 = iI s13 1 := fm_i Fs26 (by decide)
            have b29 : (0 : Int) ≤ iI s26 4 ∧ iI s26 4 ≤ 200 := Is26.1 4
            have b30 : ((-3) : Int) ≤ iI s26 5 ∧ iI s26 5 ≤ 255 := Is26.1 5
            have b31 : (0 : Int) ≤ iI s26 6 ∧ iI s26 6 ≤ 100000 := Is26.1 6
            have ws26_19 : iI s26 19 = iI s13 19 := fm_i Fs26 (by decide)
            have ws26_16 : iI s26 16 = iI s13 16 := fm_i Fs26 (by decide)
            show WS k 180 [(1, .int (Int32.ofInt e24)), (0, .ref (A 19))] [] (Wd A dT s26) 0 0
            refine z_aload_n X (x := A 19) (show cdA 74 180 = some (.aload_n 0, 1, 0, 0, 0) from rfl) (List.Mem.tail _ (List.Mem.head _)) ?_
            refine z_callV X 19 (rm := (rkR (4 * (7) + 3))) (As := []) (st := []) (show cdA 74 181 = some (.invokevirtual 88, 3, 75, 0, 0) from rfl) rfl (by decide) rfl (by rw [E.1, E.2.1, E.2.2.1]; exact (c7_sumr G SF GT 7).2.2.2 Is26 (by first | exact hps26.1 | omega) (by first | exact hps26.2 | omega) (by first | exact oq_ba167e5f ws26_19 b19.1 | omega)) ⟨by rw [E.2.2.2]; exact (show (12 + (4 * (7) + 3)) + 1 ≤ (12 + (32 + 3 * (0))) from oq_8943d30a), by rw [E.2.2.2]; exact (show 8 + (3 + 11) + (500 + 45 * (4 * (7) + 3)) ≤ (500 + 45 * (32 + 3 * (0))) from oq_a0b1cf65), by rw [E.2.2.2]; exact Nat.le_refl 0, by rw [E.2.2.2]; exact Nat.le_refl 0⟩ (Nat.le_of_ble_eq_true rfl) (fun vv s32 hq => ?_) (fun ee s32 hq => ?_)
            rotate_left
            · obtain ⟨Is32, Fs32, e33, hv, hrs32, hps32⟩ := hq; cases hv
            obtain ⟨Is32, Fs32, e33, hv, hrs32, hps32⟩ := hq
            cases hv
            have Gs32 := fm_ts Gs26 Fs32 (by decide) (by decide)
            have b34 : (0 : Int) ≤ iI s32 2 ∧ iI s32 2 ≤ 200 := Is32.1 2
            have ws32_1 : iI s32 1 = iI s26 1 := fm_i Fs32 (by decide)
            have b35 : (0 : Int) ≤ iI s32 4 ∧ iI s32 4 ≤ 200 := Is32.1 4
            have b36 : ((-3) : Int) ≤ iI s32 5 ∧ iI s32 5 ≤ 255 := Is32.1 5
            have b37 : (0 : Int) ≤ iI s32 6 ∧ iI s32 6 ≤ 100000 := Is32.1 6
            have b38 : (0 : Int) ≤ iI s32 19 ∧ iI s32 19 ≤ 6 := Is32.1 19
            have b39 : (0 : Int) ≤ iI s32 16 ∧ iI s32 16 ≤ 200 := Is32.1 16
            show WS k 184 [(1, .int (Int32.ofInt e24)), (0, .ref (A 19))] [.int (Int32.ofInt e33)] (Wd A dT s32) 0 0
            refine z_if_ne X (t := 189) (show cdA 74 184 = some (.ifCond .ne 5, 3, 1, 0, 0) from rfl) (by decide) hrs32 (fun g40 => ?_) (fun g40 => ?_)
            ·
              refine z_aload_n X (x := A 19) (show cdA 74 189 = some (.aload_n 0, 1, 0, 0, 0) from rfl) (List.Mem.tail _ (List.Mem.head _)) ?_
              refine z_load_n X (x := e24) (show cdA 74 190 = some (.iload_n 1, 1, 0, 0, 0) from rfl) (List.Mem.head _) ?_
              refine z_callV X 19 (rm := rmN 82) (As := [.int (Int32.ofInt e24)]) (st := []) (show cdA 74 191 = some (.invokevirtual 103, 3, 82, 0, 0) from rfl) rfl (by decide) rfl (by rw [E.1, E.2.1, E.2.2.1]; exact c7_put_19 G Is32 (by first | exact ⟨oq_e12b0ae3 he24.1, oq_86745356 he24.2⟩ | omega)) ⟨by rw [E.2.2.2]; exact (show 6 + 1 ≤ (12 + (32 + 3 * (0))) from oq_af2bf85e), by rw [E.2.2.2]; exact (show 8 + (2 + 11) + 100 ≤ (500 + 45 * (32 + 3 * (0))) from oq_72040bf2), by rw [E.2.2.2]; exact Nat.le_refl 0, by rw [E.2.2.2]; exact Nat.le_refl 0⟩ (Nat.le_of_ble_eq_true rfl) (fun vv s41 hq => ?_) (fun ee s41 hq => ?_)
              rotate_left
              · obtain ⟨Is41, Fs41, hv, hps41⟩ := hq; cases hv
              obtain ⟨Is41, Fs41, hv, hps41⟩ := hq
              cases hv
              have Gs41 := fm_ts Gs32 Fs41 (by decide) (by decide)
              have ws41_2 : iI s41 2 = iI s32 2 := fm_i Fs41 (by decide)
              have ws41_1 : iI s41 1 = iI s32 1 := fm_i Fs41 (by decide)
              have ws41_4 : iI s41 4 = iI s32 4 := fm_i Fs41 (by decide)
              have ws41_5 : iI s41 5 = iI s32 5 := fm_i Fs41 (by decide)
              have ws41_6 : iI s41 6 = iI s32 6 := fm_i Fs41 (by decide)
              have ws41_19 : iI s41 19 = iI s32 19 := fm_i Fs41 (by decide)
              have b43 : (0 : Int) ≤ iI s41 16 ∧ iI s41 16 ≤ 200 := Is41.1 16
              show WS k 194 [(1, .int (Int32.ofInt e24)), (0, .ref (A 19))] [] (Wd A dT s41) 0 0
              refine z_const X (show cdA 74 194 = some (.iconst 1, 1, 0, 0, 0) from rfl) ?_
              exact w_iret X.1 q hRt (nar_ret (by first | exact Or.inr (by decide) | omega)) (ax_d X (show cdA 74 195 = some (.ireturn, 1, 0, 0, 0) from rfl)) (Nat.zero_le _) (Nat.zero_le _) ⟨_, rfl, Is41, Gs41, 1, rfl, (by decide), by omega⟩
            ·
              refine z_const X (show cdA 74 187 = some (.iconst 0, 1, 0, 0, 0) from rfl) ?_
              exact w_iret X.1 q hRt (nar_ret (by first | exact Or.inl (by decide) | omega)) (ax_d X (show cdA 74 188 = some (.ireturn, 1, 0, 0, 0) from rfl)) (Nat.zero_le _) (Nat.zero_le _) ⟨_, rfl, Is32, Gs32, 0, rfl, (by decide), by first | exact ⟨Or.inl (by decide), by omega, by omega⟩ | omega⟩
          ·
            refine z_aload_n X (x := A 19) (show cdA 74 164 = some (.aload_n 0, 1, 0, 0, 0) from rfl) (List.Mem.tail _ (List.Mem.head _)) ?_
            refine s_getR X 19 (show cdA 74 165 = some (.getfield 31, 3, 7, 0, 0) from rfl) (by decide) rfl rfl ?_
            refine z_const X (show cdA 74 168 = some (.iconst 1, 1, 0, 0, 0) from rfl) ?_
            refine z_callV X 1 (rm := rmN 132) (As := [.int (Int32.ofInt 1)]) (st := []) (show cdA 74 169 = some (.invokevirtual 82, 3, 132, 0, 0) from rfl) rfl (by decide) rfl (by rw [E.1, E.2.1, E.2.2.1]; exact c10_refuse_1 G Is13 (by first | exact ⟨by decide, by decide⟩ | omega)) ⟨by rw [E.2.2.2]; exact (show 7 + 1 ≤ (12 + (32 + 3 * (0))) from oq_98d05d0f), by rw [E.2.2.2]; exact (show 8 + (2 + 11) + 122 ≤ (500 + 45 * (32 + 3 * (0))) from oq_7c329781), by rw [E.2.2.2]; exact Nat.le_refl 0, by rw [E.2.2.2]; exact Nat.le_refl 0⟩ (Nat.le_of_ble_eq_true rfl) (fun vv s44 hq => ?_) (fun ee s44 hq => ?_)
            rotate_left
            · obtain ⟨Is44, Fs44, e45, hv, hrs44, hps44⟩ := hq; cases hv
            obtain ⟨Is44, Fs44, e45, hv, hrs44, hps44⟩ := hq
            cases hv
            have Gs44 := fm_ts Gs13 Fs44 (by decide) (by decide)
            have ws44_2 : iI s44 2 = iI s13 2 := fm_i Fs44 (by decide)
            have ws44_1 : iI s44 1 = iI s13 1 := fm_i Fs44 (by decide)
            have ws44_4 : iI s44 4 = iI s13 4 := fm_i Fs44 (by decide)
            have ws44_5 : iI s44 5 = iI s13 5 := fm_i Fs44 (by decide)
            have ws44_6 : iI s44 6 = iI s13 6 := fm_i Fs44 (by decide)
            have ws44_19 : iI s44 19 = iI s13 19 := fm_i Fs44 (by decide)
            have ws44_16 : iI s44 16 = iI s13 16 := fm_i Fs44 (by decide)
            show WS k 172 [(1, .int (Int32.ofInt e24)), (0, .ref (A 19))] [.int (Int32.ofInt e45)] (Wd A dT s44) 0 0
            exact w_iret X.1 q hRt (nar_ret (by first | exact Or.inl (hps44) | omega)) (ax_d X (show cdA 74 172 = some (.ireturn, 1, 0, 0, 0) from rfl)) (Nat.zero_le _) (Nat.zero_le _) ⟨_, rfl, Is44, Gs44, e45, rfl, hrs44, by first | exact ⟨Or.inl (hps44), by omega, by omega⟩ | omega⟩
        refine z_icmp_ne X (t := 121) (show cdA 74 113 = some (.if_icmp .ne 8, 3, 1, 0, 0) from rfl) (by decide) (rng_to _) (by decide) (fun g46 => ?_) (fun g46 => ?_)
        ·
          refine z_aload_n X (x := A 19) (show cdA 74 121 = some (.aload_n 0, 1, 0, 0, 0) from rfl) (List.Mem.head _) ?_
          refine s_getR X 19 (show cdA 74 122 = some (.getfield 31, 3, 7, 0, 0) from rfl) (by decide) rfl rfl ?_
          refine z_getI X 1 (show cdA 74 125 = some (.getfield 47, 3, 10, 6, 0) from rfl) (by decide) rfl rfl ?_
          have b47 : ((-3) : Int) ≤ iI s13 5 ∧ iI s13 5 ≤ 255 := Is13.1 5
          refine z_bipush X (show cdA 74 128 = some (.bipush 62, 2, 0, 0, 62) from rfl) ?_
          refine z_icmp_ne X (t := 138) (show cdA 74 130 = some (.if_icmp .ne 8, 3, 1, 0, 0) from rfl) (by decide) (rng_to _) (by decide) (fun g48 => ?_) (fun g48 => ?_)
          ·
            refine z_aload_n X (x := A 19) (show cdA 74 138 = some (.aload_n 0, 1, 0, 0, 0) from rfl) (List.Mem.head _) ?_
            refine s_getR X 19 (show cdA 74 139 = some (.getfield 31, 3, 7, 0, 0) from rfl) (by decide) rfl rfl ?_
            refine z_getI X 1 (show cdA 74 142 = some (.getfield 47, 3, 10, 6, 0) from rfl) (by decide) rfl rfl ?_
            have b49 : ((-3) : Int) ≤ iI s13 5 ∧ iI s13 5 ≤ 255 := Is13.1 5
            refine z_bipush X (show cdA 74 145 = some (.bipush 61, 2, 0, 0, 61) from rfl) ?_
            refine z_icmp_ne X (t := 155) (show cdA 74 147 = some (.if_icmp .ne 8, 3, 1, 0, 0) from rfl) (by decide) (rng_to _) (by decide) (fun g50 => ?_) (fun g50 => ?_)
            ·
              refine z_bipush X (show cdA 74 155 = some (.bipush (-20), 2, 0, 0, (-20)) from rfl) ?_
              exact N23 _ (by omega)
            ·
              refine z_bipush X (show cdA 74 150 = some (.bipush (-17), 2, 0, 0, (-17)) from rfl) ?_
              refine z_goto X (t := 157) (show cdA 74 152 = some (.goto 5, 3, 0, 0, 0) from rfl) (by decide) ?_
              exact N23 _ (by omega)
          ·
            refine z_bipush X (show cdA 74 133 = some (.bipush (-16), 2, 0, 0, (-16)) from rfl) ?_
            refine z_goto X (t := 157) (show cdA 74 135 = some (.goto 22, 3, 0, 0, 0) from rfl) (by decide) ?_
            exact N23 _ (by omega)
        ·
          refine z_bipush X (show cdA 74 116 = some (.bipush (-15), 2, 0, 0, (-15)) from rfl) ?_
          refine z_goto X (t := 157) (show cdA 74 118 = some (.goto 39, 3, 0, 0, 0) from rfl) (by decide) ?_
          exact N23 _ (by omega)
      ·
        refine z_const X (show cdA 74 102 = some (.iconst 0, 1, 0, 0, 0) from rfl) ?_
        exact w_iret X.1 q hRt (nar_ret (by first | exact Or.inl (by decide) | omega)) (ax_d X (show cdA 74 103 = some (.ireturn, 1, 0, 0, 0) from rfl)) (Nat.zero_le _) (Nat.zero_le _) ⟨_, rfl, Is13, Gs13, 0, rfl, (by decide), by first | exact ⟨Or.inl (by decide), by omega, by omega⟩ | omega⟩
    ·
      refine z_aload_n X (x := A 19) (show cdA 74 58 = some (.aload_n 0, 1, 0, 0, 0) from rfl) (List.Mem.head _) ?_
      refine z_callV X 19 (rm := rmN 80) (As := []) (st := []) (show cdA 74 59 = some (.invokevirtual 113, 3, 80, 0, 0) from rfl) rfl (by decide) rfl (by rw [E.1, E.2.1, E.2.2.1]; exact c7_enter_19 G Is8 (by first | exact oq_e7b9ecab ws8_1 ws8_2 p0 | omega) (by first | exact oq_e7b9ecab ws8_2 ws8_4 p1 | omega)) ⟨by rw [E.2.2.2]; exact (show 8 + 1 ≤ (12 + (32 + 3 * (0))) from oq_6e542e63), by rw [E.2.2.2]; exact (show 8 + (1 + 11) + 143 ≤ (500 + 45 * (32 + 3 * (0))) from oq_72d660e0), by rw [E.2.2.2]; exact Nat.le_refl 0, by rw [E.2.2.2]; exact Nat.le_refl 0⟩ (Nat.le_of_ble_eq_true rfl) (fun vv s51 hq => ?_) (fun ee s51 hq => ?_)
      rotate_left
      · obtain ⟨Is51, Fs51, e52, hv, hrs51, hps51⟩ := hq; cases hv
      obtain ⟨Is51, Fs51, e52, hv, hrs51, hps51⟩ := hq
      cases hv
      have Gs51 := fm_ts Gs8 Fs51 (by decide) (by decide)
      have b53 : (0 : Int) ≤ iI s51 2 ∧ iI s51 2 ≤ 200 := Is51.1 2
      have ws51_1 : iI s51 1 = iI s8 1 := fm_i Fs51 (by decide)
      have b54 : (0 : Int) ≤ iI s51 4 ∧ iI s51 4 ≤ 200 := Is51.1 4
      have b55 : ((-3) : Int) ≤ iI s51 5 ∧ iI s51 5 ≤ 255 := Is51.1 5
      have b56 : (0 : Int) ≤ iI s51 6 ∧ iI s51 6 ≤ 100000 := Is51.1 6
      have b57 : (0 : Int) ≤ iI s51 19 ∧ iI s51 19 ≤ 6 := Is51.1 19
      have ws51_16 : iI s51 16 = iI s8 16 := fm_i Fs51 (by decide)
      show WS k 62 [(0, .ref (A 19))] [.int (Int32.ofInt e52)] (Wd A dT s51) 0 0
      refine z_if_eq X (t := 81) (show cdA 74 62 = some (.ifCond .eq 19, 3, 0, 0, 0) from rfl) (by decide) hrs51 (fun g58 => ?_) (fun g58 => ?_)
      ·
        refine z_const X (show cdA 74 81 = some (.iconst 0, 1, 0, 0, 0) from rfl) ?_
        exact w_iret X.1 q hRt (nar_ret (by first | exact Or.inl (by decide) | omega)) (ax_d X (show cdA 74 82 = some (.ireturn, 1, 0, 0, 0) from rfl)) (Nat.zero_le _) (Nat.zero_le _) ⟨_, rfl, Is51, Gs51, 0, rfl, (by decide), by first | exact ⟨Or.inl (by decide), hps51.2.1, hps51.2.2⟩ | omega⟩
      ·
        exfalso
        omega
  ·
    refine z_aload_n X (x := A 19) (show cdA 74 12 = some (.aload_n 0, 1, 0, 0, 0) from rfl) (List.Mem.head _) ?_
    refine z_callV X 19 (rm := rmN 80) (As := []) (st := []) (show cdA 74 13 = some (.invokevirtual 113, 3, 80, 0, 0) from rfl) rfl (by decide) rfl (by rw [E.1, E.2.1, E.2.2.1]; exact c7_enter_19 G Is8 (by first | exact oq_e7b9ecab ws8_1 ws8_2 p0 | omega) (by first | exact oq_e7b9ecab ws8_2 ws8_4 p1 | omega)) ⟨by rw [E.2.2.2]; exact (show 8 + 1 ≤ (12 + (32 + 3 * (0))) from oq_6e542e63), by rw [E.2.2.2]; exact (show 8 + (1 + 11) + 143 ≤ (500 + 45 * (32 + 3 * (0))) from oq_72d660e0), by rw [E.2.2.2]; exact Nat.le_refl 0, by rw [E.2.2.2]; exact Nat.le_refl 0⟩ (Nat.le_of_ble_eq_true rfl) (fun vv s59 hq => ?_) (fun ee s59 hq => ?_)
    rotate_left
    · obtain ⟨Is59, Fs59, e60, hv, hrs59, hps59⟩ := hq; cases hv
    obtain ⟨Is59, Fs59, e60, hv, hrs59, hps59⟩ := hq
    cases hv
    have Gs59 := fm_ts Gs8 Fs59 (by decide) (by decide)
    have b61 : (0 : Int) ≤ iI s59 2 ∧ iI s59 2 ≤ 200 := Is59.1 2
    have ws59_1 : iI s59 1 = iI s8 1 := fm_i Fs59 (by decide)
    have b62 : (0 : Int) ≤ iI s59 4 ∧ iI s59 4 ≤ 200 := Is59.1 4
    have b63 : ((-3) : Int) ≤ iI s59 5 ∧ iI s59 5 ≤ 255 := Is59.1 5
    have b64 : (0 : Int) ≤ iI s59 6 ∧ iI s59 6 ≤ 100000 := Is59.1 6
    have b65 : (0 : Int) ≤ iI s59 19 ∧ iI s59 19 ≤ 6 := Is59.1 19
    have ws59_16 : iI s59 16 = iI s8 16 := fm_i Fs59 (by decide)
    show WS k 16 [(0, .ref (A 19))] [.int (Int32.ofInt e60)] (Wd A dT s59) 0 0
    refine z_if_eq X (t := 26) (show cdA 74 16 = some (.ifCond .eq 10, 3, 0, 0, 0) from rfl) (by decide) hrs59 (fun g66 => ?_) (fun g66 => ?_)
    ·
      refine z_const X (show cdA 74 26 = some (.iconst 0, 1, 0, 0, 0) from rfl) ?_
      exact w_iret X.1 q hRt (nar_ret (by first | exact Or.inl (by decide) | omega)) (ax_d X (show cdA 74 27 = some (.ireturn, 1, 0, 0, 0) from rfl)) (Nat.zero_le _) (Nat.zero_le _) ⟨_, rfl, Is59, Gs59, 0, rfl, (by decide), by first | exact ⟨Or.inl (by decide), hps59.2.1, hps59.2.2⟩ | omega⟩
    ·
      exfalso
      omega
set_option maxRecDepth 4000 in
theorem c7_testS (G : GX l s0 D tys a0 dT) (SF : SF0 s0) (GT : TXs0 s0) {r : Nat} (hT : ∀ {s : PS} , Bd s → (iI s 2 ≤ iI s 1) → (iI s 4 ≤ iI s 2) → (6 - iI s 19 ≤ ((r : Nat) : Int)) → CT l s0 D A dT 74 (rkR (32 + 3 * (r))) [.ref (A 19)] s (fun o t => Bd t ∧ Fm [2, 4, 6, 5, 7, 8, 19, 16] [18] s t ∧ ∃ e, o = .inl (some (.int (Int32.ofInt e))) ∧ rng e ∧ ((e = 0 ∨ (e = 1 ∧ iI t 19 = iI s 19)) ∧ iI t 2 ≤ iI t 1 ∧ iI t 4 ≤ iI t 2))) (hE : ∀ {s : PS} , Bd s → (iI s 2 ≤ iI s 1) → (iI s 4 ≤ iI s 2) → (6 - iI s 19 ≤ ((r : Nat) : Int)) → CT l s0 D A dT 72 (rkR (32 + 3 * (r) + 2)) [.ref (A 19)] s (fun o t => Bd t ∧ Fm [2, 4, 6, 5, 7, 8, 19, 16] [18] s t ∧ ∃ e, o = .inl (some (.int (Int32.ofInt e))) ∧ rng e ∧ ((e = 0 ∨ (e = 1 ∧ iI t 19 = iI s 19)) ∧ iI t 2 ≤ iI t 1 ∧ iI t 4 ≤ iI t 2))) (I : Bd s) (p0 : iI s 2 ≤ iI s 1) (p1 : iI s 4 ≤ iI s 2) (p2 : 6 - iI s 19 ≤ ((r + 1 : Nat) : Int)) : CT l s0 D A dT 74 (rkR (32 + 3 * (r + 1))) [.ref (A 19)] s (fun o t => Bd t ∧ Fm [2, 4, 6, 5, 7, 8, 19, 16] [18] s t ∧ ∃ e, o = .inl (some (.int (Int32.ofInt e))) ∧ rng e ∧ ((e = 0 ∨ (e = 1 ∧ iI t 19 = iI s 19)) ∧ iI t 2 ≤ iI t 1 ∧ iI t 4 ≤ iI t 2)) := by
  refine ct_ofX G (by decide) (Nat.le_of_ble_eq_true rfl) (fun k X E ET hRt hXt q => ?_)
  show WS k 0 [(0, .ref (A 19))] [] _ 0 0
  have F : Fm [2, 4, 6, 5, 7, 8, 19, 16] [18] s s := fm_rf _ _ s
  have b1 : (0 : Int) ≤ iI s 2 ∧ iI s 2 ≤ 200 := I.1 2
  have b2 : (0 : Int) ≤ iI s 1 ∧ iI s 1 ≤ 200 := I.1 1
  have b3 : (0 : Int) ≤ iI s 4 ∧ iI s 4 ≤ 200 := I.1 4
  have b4 : ((-3) : Int) ≤ iI s 5 ∧ iI s 5 ≤ 255 := I.1 5
  have b5 : (0 : Int) ≤ iI s 6 ∧ iI s 6 ≤ 100000 := I.1 6
  have b6 : (0 : Int) ≤ iI s 19 ∧ iI s 19 ≤ 6 := I.1 19
  have b7 : (0 : Int) ≤ iI s 16 ∧ iI s 16 ≤ 200 := I.1 16
  refine z_aload_n X (x := A 19) (show cdA 74 0 = some (.aload_n 0, 1, 0, 0, 0) from rfl) (List.Mem.head _) ?_
  refine s_getR X 19 (show cdA 74 1 = some (.getfield 31, 3, 7, 0, 0) from rfl) (by decide) rfl rfl ?_
  obtain ⟨tx111, q111, hR111, hS111⟩ := GT (111, 3) (by decide)
  refine w_ldcK X (show vk_R (kOwn k) 111 tx111 q111 (kS0 k) by rw [E.2.1, X.2.1.2.1]; exact hR111) (show decode (kCc k) 4 = .ok (.ldc 111, 2) by rw [X.2.1.1]; decide +kernel) ?_
  refine z_callV X 1 (rm := rmN 131) (As := [.ref q111]) (st := []) (show cdA 74 6 = some (.invokevirtual 76, 3, 131, 0, 0) from rfl) rfl (by decide) rfl (by rw [E.1, E.2.1, E.2.2.1]; exact c10_says G SF hS111 I (by first | exact p1 | omega)) ⟨by rw [E.2.2.2]; exact (show 11 + 1 ≤ (12 + (32 + 3 * (r + 1))) from oq_c9a3ea85 r), by rw [E.2.2.2]; exact (show 8 + (3 + 11) + 206 ≤ (500 + 45 * (32 + 3 * (r + 1))) from oq_5eb0540b r), by rw [E.2.2.2]; exact Nat.le_refl 0, by rw [E.2.2.2]; exact Nat.le_refl 0⟩ (Nat.le_of_ble_eq_true rfl) (fun vv s8 hq => ?_) (fun ee s8 hq => ?_)
  rotate_left
  · obtain ⟨Is8, Fs8, e9, hv, hrs8, hps8⟩ := hq; cases hv
  obtain ⟨Is8, Fs8, e9, hv, hrs8, hps8⟩ := hq
  cases hv
  have Gs8 := fm_ts F Fs8 (by decide) (by decide)
  have ws8_2 : iI s8 2 = iI s 2 := fm_i Fs8 (by decide)
  have ws8_1 : iI s8 1 = iI s 1 := fm_i Fs8 (by decide)
  have ws8_4 : iI s8 4 = iI s 4 := fm_i Fs8 (by decide)
  have ws8_5 : iI s8 5 = iI s 5 := fm_i Fs8 (by decide)
  have ws8_6 : iI s8 6 = iI s 6 := fm_i Fs8 (by decide)
  have ws8_19 : iI s8 19 = iI s 19 := fm_i Fs8 (by decide)
  have ws8_16 : iI s8 16 = iI s 16 := fm_i Fs8 (by decide)
  show WS k 9 [(0, .ref (A 19))] [.int (Int32.ofInt e9)] (Wd A dT s8) 0 0
  refine z_if_eq X (t := 46) (show cdA 74 9 = some (.ifCond .eq 37, 3, 0, 0, 0) from rfl) (by decide) hrs8 (fun g10 => ?_) (fun g10 => ?_)
  ·
    refine z_aload_n X (x := A 19) (show cdA 74 46 = some (.aload_n 0, 1, 0, 0, 0) from rfl) (List.Mem.head _) ?_
    refine s_getR X 19 (show cdA 74 47 = some (.getfield 31, 3, 7, 0, 0) from rfl) (by decide) rfl rfl ?_
    refine z_getI X 1 (show cdA 74 50 = some (.getfield 47, 3, 10, 6, 0) from rfl) (by decide) rfl rfl ?_
    have b11 : ((-3) : Int) ≤ iI s8 5 ∧ iI s8 5 ≤ 255 := Is8.1 5
    refine z_bipush X (show cdA 74 53 = some (.bipush 91, 2, 0, 0, 91) from rfl) ?_
    refine z_icmp_ne X (t := 95) (show cdA 74 55 = some (.if_icmp .ne 40, 3, 1, 0, 0) from rfl) (by decide) (rng_to _) (by decide) (fun g12 => ?_) (fun g12 => ?_)
    ·
      refine z_aload_n X (x := A 19) (show cdA 74 95 = some (.aload_n 0, 1, 0, 0, 0) from rfl) (List.Mem.head _) ?_
      refine z_callV X 19 (rm := (rkR (4 * (7) + 3))) (As := []) (st := []) (show cdA 74 96 = some (.invokevirtual 88, 3, 75, 0, 0) from rfl) rfl (by decide) rfl (by rw [E.1, E.2.1, E.2.2.1]; exact (c7_sumr G SF GT 7).2.2.2 Is8 (by first | exact oq_e7b9ecab ws8_1 ws8_2 p0 | omega) (by first | exact oq_e7b9ecab ws8_2 ws8_4 p1 | omega) (by first | exact oq_ba167e5f ws8_19 b6.1 | omega)) ⟨by rw [E.2.2.2]; exact (show (12 + (4 * (7) + 3)) + 1 ≤ (12 + (32 + 3 * (r + 1))) from oq_e0a8f0a0 r), by rw [E.2.2.2]; exact (show 8 + (3 + 11) + (500 + 45 * (4 * (7) + 3)) ≤ (500 + 45 * (32 + 3 * (r + 1))) from oq_eacdd764 r), by rw [E.2.2.2]; exact Nat.le_refl 0, by rw [E.2.2.2]; exact Nat.le_refl 0⟩ (Nat.le_of_ble_eq_true rfl) (fun vv s13 hq => ?_) (fun ee s13 hq => ?_)
      rotate_left
      · obtain ⟨Is13, Fs13, e14, hv, hrs13, hps13⟩ := hq; cases hv
      obtain ⟨Is13, Fs13, e14, hv, hrs13, hps13⟩ := hq
      cases hv
      have Gs13 := fm_ts Gs8 Fs13 (by decide) (by decide)
      have b15 : (0 : Int) ≤ iI s13 2 ∧ iI s13 2 ≤ 200 := Is13.1 2
      have ws13_1 : iI s13 1 = iI s8 1 := fm_i Fs13 (by decide)
      have b16 : (0 : Int) ≤ iI s13 4 ∧ iI s13 4 ≤ 200 := Is13.1 4
      have b17 : ((-3) : Int) ≤ iI s13 5 ∧ iI s13 5 ≤ 255 := Is13.1 5
      have b18 : (0 : Int) ≤ iI s13 6 ∧ iI s13 6 ≤ 100000 := Is13.1 6
      have b19 : (0 : Int) ≤ iI s13 19 ∧ iI s13 19 ≤ 6 := Is13.1 19
      have b20 : (0 : Int) ≤ iI s13 16 ∧ iI s13 16 ≤ 200 := Is13.1 16
      show WS k 99 [(0, .ref (A 19))] [.int (Int32.ofInt e14)] (Wd A dT s13) 0 0
      refine z_if_ne X (t := 104) (show cdA 74 99 = some (.ifCond .ne 5, 3, 1, 0, 0) from rfl) (by decide) hrs13 (fun g21 => ?_) (fun g21 => ?_)
      ·
        refine z_aload_n X (x := A 19) (show cdA 74 104 = some (.aload_n 0, 1, 0, 0, 0) from rfl) (List.Mem.head _) ?_
        refine s_getR X 19 (show cdA 74 105 = some (.getfield 31, 3, 7, 0, 0) from rfl) (by decide) rfl rfl ?_
        refine z_getI X 1 (show cdA 74 108 = some (.getfield 47, 3, 10, 6, 0) from rfl) (by decide) rfl rfl ?_
        have b22 : ((-3) : Int) ≤ iI s13 5 ∧ iI s13 5 ≤ 255 := Is13.1 5
        refine z_bipush X (show cdA 74 111 = some (.bipush 60, 2, 0, 0, 60) from rfl) ?_
        have N23 : ∀ e24 : Int, ((-20) ≤ e24 ∧ e24 ≤ (-15)) → WS k 157 [(0, .ref (A 19))] [.int (Int32.ofInt e24)] (Wd A dT s13) 0 0 := by
          intro e24 he24
          refine z_store_n X (lv' := [(1, .int (Int32.ofInt e24)), (0, .ref (A 19))]) (show cdA 74 157 = some (.istore_n 1, 1, 0, 0, 0) from rfl) (by decide) (fun _ h => h) ?_
          refine z_load_n X (x := e24) (show cdA 74 158 = some (.iload_n 1, 1, 0, 0, 0) from rfl) (List.Mem.head _) ?_
          refine z_bipush X (show cdA 74 159 = some (.bipush (-20), 2, 0, 0, (-20)) from rfl) ?_
          refine z_icmp_ne X (t := 173) (show cdA 74 161 = some (.if_icmp .ne 12, 3, 1, 0, 0) from rfl) (by decide) ⟨by first | exact oq_e12b0ae3 he24.1 | omega, by first | exact oq_86745356 he24.2 | omega⟩ (by decide) (fun g25 => ?_) (fun g25 => ?_)
          ·
            refine z_aload_n X (x := A 19) (show cdA 74 173 = some (.aload_n 0, 1, 0, 0, 0) from rfl) (List.Mem.tail _ (List.Mem.head _)) ?_
            refine s_getR X 19 (show cdA 74 174 = some (.getfield 31, 3, 7, 0, 0) from rfl) (by decide) rfl rfl ?_
            refine z_callV X 1 (rm := rmN 129) (As := []) (st := []) (show cdA 74 177 = some (.invokevirtual 85, 3, 129, 0, 0) from rfl) rfl (by decide) rfl (by rw [E.1, E.2.1, E.2.2.1]; exact c10_step_1 G Is13 (by omega)) ⟨by rw [E.2.2.2]; exact (show 7 + 1 ≤ (12 + (32 + 3 * (r + 1))) from oq_36a63932 r), by rw [E.2.2.2]; exact (show 8 + (1 + 11) + 121 ≤ (500 + 45 * (32 + 3 * (r + 1))) from oq_ab0c04be r), by rw [E.2.2.2]; exact Nat.le_refl 0, by rw [E.2.2.2]; exact Nat.le_refl 0⟩ (Nat.le_of_ble_eq_true rfl) (fun vv s26 hq => ?_) (fun ee s26 hq => ?_)
            rotate_left
            · obtain ⟨Is26, Fs26, hv, hps26⟩ := hq; cases hv
            obtain ⟨Is26, Fs26, hv, hps26⟩ := hq
            cases hv
            have Gs26 := fm_ts Gs13 Fs26 (by decide) (by decide)
            have b28 : (0 : Int) ≤ iI s26 2 ∧ iI s26 2 ≤ 200 := Is26.1 2
            have ws26_1 : iI s26 1 = iI s13 1 := fm_i Fs26 (by decide)
            have b29 : (0 : Int) ≤ iI s26 4 ∧ iI s26 4 ≤ 200 := Is26.1 4
            have b30 : ((-3) : Int) ≤ iI s26 5 ∧ iI s26 5 ≤ 255 := Is26.1 5
            have b31 : (0 : Int) ≤ iI s26 6 ∧ iI s26 6 ≤ 100000 := Is26.1 6
            have ws26_19 : iI s26 19 = iI s13 19 := fm_i Fs26 (by decide)
            have ws26_16 : iI s26 16 = iI s13 16 := fm_i Fs26 (by decide)
            show WS k 180 [(1, .int (Int32.ofInt e24)), (0, .ref (A 19))] [] (Wd A dT s26) 0 0
            refine z_aload_n X (x := A 19) (show cdA 74 180 = some (.aload_n 0, 1, 0, 0, 0) from rfl) (List.Mem.tail _ (List.Mem.head _)) ?_
            refine z_callV X 19 (rm := (rkR (4 * (7) + 3))) (As := []) (st := []) (show cdA 74 181 = some (.invokevirtual 88, 3, 75, 0, 0) from rfl) rfl (by decide) rfl (by rw [E.1, E.2.1, E.2.2.1]; exact (c7_sumr G SF GT 7).2.2.2 Is26 (by first | exact hps26.1 | omega) (by first | exact hps26.2 | omega) (by first | exact oq_ba167e5f ws26_19 b19.1 | omega)) ⟨by rw [E.2.2.2]; exact (show (12 + (4 * (7) + 3)) + 1 ≤ (12 + (32 + 3 * (r + 1))) from oq_e0a8f0a0 r), by rw [E.2.2.2]; exact (show 8 + (3 + 11) + (500 + 45 * (4 * (7) + 3)) ≤ (500 + 45 * (32 + 3 * (r + 1))) from oq_eacdd764 r), by rw [E.2.2.2]; exact Nat.le_refl 0, by rw [E.2.2.2]; exact Nat.le_refl 0⟩ (Nat.le_of_ble_eq_true rfl) (fun vv s32 hq => ?_) (fun ee s32 hq => ?_)
            rotate_left
            · obtain ⟨Is32, Fs32, e33, hv, hrs32, hps32⟩ := hq; cases hv
            obtain ⟨Is32, Fs32, e33, hv, hrs32, hps32⟩ := hq
            cases hv
            have Gs32 := fm_ts Gs26 Fs32 (by decide) (by decide)
            have b34 : (0 : Int) ≤ iI s32 2 ∧ iI s32 2 ≤ 200 := Is32.1 2
            have ws32_1 : iI s32 1 = iI s26 1 := fm_i Fs32 (by decide)
            have b35 : (0 : Int) ≤ iI s32 4 ∧ iI s32 4 ≤ 200 := Is32.1 4
            have b36 : ((-3) : Int) ≤ iI s32 5 ∧ iI s32 5 ≤ 255 := Is32.1 5
            have b37 : (0 : Int) ≤ iI s32 6 ∧ iI s32 6 ≤ 100000 := Is32.1 6
            have b38 : (0 : Int) ≤ iI s32 19 ∧ iI s32 19 ≤ 6 := Is32.1 19
            have b39 : (0 : Int) ≤ iI s32 16 ∧ iI s32 16 ≤ 200 := Is32.1 16
            show WS k 184 [(1, .int (Int32.ofInt e24)), (0, .ref (A 19))] [.int (Int32.ofInt e33)] (Wd A dT s32) 0 0
            refine z_if_ne X (t := 189) (show cdA 74 184 = some (.ifCond .ne 5, 3, 1, 0, 0) from rfl) (by decide) hrs32 (fun g40 => ?_) (fun g40 => ?_)
            ·
              refine z_aload_n X (x := A 19) (show cdA 74 189 = some (.aload_n 0, 1, 0, 0, 0) from rfl) (List.Mem.tail _ (List.Mem.head _)) ?_
              refine z_load_n X (x := e24) (show cdA 74 190 = some (.iload_n 1, 1, 0, 0, 0) from rfl) (List.Mem.head _) ?_
              refine z_callV X 19 (rm := rmN 82) (As := [.int (Int32.ofInt e24)]) (st := []) (show cdA 74 191 = some (.invokevirtual 103, 3, 82, 0, 0) from rfl) rfl (by decide) rfl (by rw [E.1, E.2.1, E.2.2.1]; exact c7_put_19 G Is32 (by first | exact ⟨oq_e12b0ae3 he24.1, oq_86745356 he24.2⟩ | omega)) ⟨by rw [E.2.2.2]; exact (show 6 + 1 ≤ (12 + (32 + 3 * (r + 1))) from oq_65b7d3a7 r), by rw [E.2.2.2]; exact (show 8 + (2 + 11) + 100 ≤ (500 + 45 * (32 + 3 * (r + 1))) from oq_bfe32ab2 r), by rw [E.2.2.2]; exact Nat.le_refl 0, by rw [E.2.2.2]; exact Nat.le_refl 0⟩ (Nat.le_of_ble_eq_true rfl) (fun vv s41 hq => ?_) (fun ee s41 hq => ?_)
              rotate_left
              · obtain ⟨Is41, Fs41, hv, hps41⟩ := hq; cases hv
              obtain ⟨Is41, Fs41, hv, hps41⟩ := hq
              cases hv
              have Gs41 := fm_ts Gs32 Fs41 (by decide) (by decide)
              have ws41_2 : iI s41 2 = iI s32 2 := fm_i Fs41 (by decide)
              have ws41_1 : iI s41 1 = iI s32 1 := fm_i Fs41 (by decide)
              have ws41_4 : iI s41 4 = iI s32 4 := fm_i Fs41 (by decide)
              have ws41_5 : iI s41 5 = iI s32 5 := fm_i Fs41 (by decide)
              have ws41_6 : iI s41 6 = iI s32 6 := fm_i Fs41 (by decide)
              have ws41_19 : iI s41 19 = iI s32 19 := fm_i Fs41 (by decide)
              have b43 : (0 : Int) ≤ iI s41 16 ∧ iI s41 16 ≤ 200 := Is41.1 16
              show WS k 194 [(1, .int (Int32.ofInt e24)), (0, .ref (A 19))] [] (Wd A dT s41) 0 0
              refine z_const X (show cdA 74 194 = some (.iconst 1, 1, 0, 0, 0) from rfl) ?_
              exact w_iret X.1 q hRt (nar_ret (by first | exact Or.inr (by decide) | omega)) (ax_d X (show cdA 74 195 = some (.ireturn, 1, 0, 0, 0) from rfl)) (Nat.zero_le _) (Nat.zero_le _) ⟨_, rfl, Is41, Gs41, 1, rfl, (by decide), by omega⟩
            ·
              refine z_const X (show cdA 74 187 = some (.iconst 0, 1, 0, 0, 0) from rfl) ?_
              exact w_iret X.1 q hRt (nar_ret (by first | exact Or.inl (by decide) | omega)) (ax_d X (show cdA 74 188 = some (.ireturn, 1, 0, 0, 0) from rfl)) (Nat.zero_le _) (Nat.zero_le _) ⟨_, rfl, Is32, Gs32, 0, rfl, (by decide), by first | exact ⟨Or.inl (by decide), by omega, by omega⟩ | omega⟩
          ·
            refine z_aload_n X (x := A 19) (show cdA 74 164 = some (.aload_n 0, 1, 0, 0, 0) from rfl) (List.Mem.tail _ (List.Mem.head _)) ?_
            refine s_getR X 19 (show cdA 74 165 = some (.getfield 31, 3, 7, 0, 0) from rfl) (by decide) rfl rfl ?_
            refine z_const X (show cdA 74 168 = some (.iconst 1, 1, 0, 0, 0) from rfl) ?_
            refine z_callV X 1 (rm := rmN 132) (As := [.int (Int32.ofInt 1)]) (st := []) (show cdA 74 169 = some (.invokevirtual 82, 3, 132, 0, 0) from rfl) rfl (by decide) rfl (by rw [E.1, E.2.1, E.2.2.1]; exact c10_refuse_1 G Is13 (by first | exact ⟨by decide, by decide⟩ | omega)) ⟨by rw [E.2.2.2]; exact (show 7 + 1 ≤ (12 + (32 + 3 * (r + 1))) from oq_36a63932 r), by rw [E.2.2.2]; exact (show 8 + (2 + 11) + 122 ≤ (500 + 45 * (32 + 3 * (r + 1))) from oq_562d3263 r), by rw [E.2.2.2]; exact Nat.le_refl 0, by rw [E.2.2.2]; exact Nat.le_refl 0⟩ (Nat.le_of_ble_eq_true rfl) (fun vv s44 hq => ?_) (fun ee s44 hq => ?_)
            rotate_left
            · obtain ⟨Is44, Fs44, e45, hv, hrs44, hps44⟩ := hq; cases hv
            obtain ⟨Is44, Fs44, e45, hv, hrs44, hps44⟩ := hq
            cases hv
            have Gs44 := fm_ts Gs13 Fs44 (by decide) (by decide)
            have ws44_2 : iI s44 2 = iI s13 2 := fm_i Fs44 (by decide)
            have ws44_1 : iI s44 1 = iI s13 1 := fm_i Fs44 (by decide)
            have ws44_4 : iI s44 4 = iI s13 4 := fm_i Fs44 (by decide)
            have ws44_5 : iI s44 5 = iI s13 5 := fm_i Fs44 (by decide)
            have ws44_6 : iI s44 6 = iI s13 6 := fm_i Fs44 (by decide)
            have ws44_19 : iI s44 19 = iI s13 19 := fm_i Fs44 (by decide)
            have ws44_16 : iI s44 16 = iI s13 16 := fm_i Fs44 (by decide)
            show WS k 172 [(1, .int (Int32.ofInt e24)), (0, .ref (A 19))] [.int (Int32.ofInt e45)] (Wd A dT s44) 0 0
            exact w_iret X.1 q hRt (nar_ret (by first | exact Or.inl (hps44) | omega)) (ax_d X (show cdA 74 172 = some (.ireturn, 1, 0, 0, 0) from rfl)) (Nat.zero_le _) (Nat.zero_le _) ⟨_, rfl, Is44, Gs44, e45, rfl, hrs44, by first | exact ⟨Or.inl (hps44), by omega, by omega⟩ | omega⟩
        refine z_icmp_ne X (t := 121) (show cdA 74 113 = some (.if_icmp .ne 8, 3, 1, 0, 0) from rfl) (by decide) (rng_to _) (by decide) (fun g46 => ?_) (fun g46 => ?_)
        ·
          refine z_aload_n X (x := A 19) (show cdA 74 121 = some (.aload_n 0, 1, 0, 0, 0) from rfl) (List.Mem.head _) ?_
          refine s_getR X 19 (show cdA 74 122 = some (.getfield 31, 3, 7, 0, 0) from rfl) (by decide) rfl rfl ?_
          refine z_getI X 1 (show cdA 74 125 = some (.getfield 47, 3, 10, 6, 0) from rfl) (by decide) rfl rfl ?_
          have b47 : ((-3) : Int) ≤ iI s13 5 ∧ iI s13 5 ≤ 255 := Is13.1 5
          refine z_bipush X (show cdA 74 128 = some (.bipush 62, 2, 0, 0, 62) from rfl) ?_
          refine z_icmp_ne X (t := 138) (show cdA 74 130 = some (.if_icmp .ne 8, 3, 1, 0, 0) from rfl) (by decide) (rng_to _) (by decide) (fun g48 => ?_) (fun g48 => ?_)
          ·
            refine z_aload_n X (x := A 19) (show cdA 74 138 = some (.aload_n 0, 1, 0, 0, 0) from rfl) (List.Mem.head _) ?_
            refine s_getR X 19 (show cdA 74 139 = some (.getfield 31, 3, 7, 0, 0) from rfl) (by decide) rfl rfl ?_
            refine z_getI X 1 (show cdA 74 142 = some (.getfield 47, 3, 10, 6, 0) from rfl) (by decide) rfl rfl ?_
            have b49 : ((-3) : Int) ≤ iI s13 5 ∧ iI s13 5 ≤ 255 := Is13.1 5
            refine z_bipush X (show cdA 74 145 = some (.bipush 61, 2, 0, 0, 61) from rfl) ?_
            refine z_icmp_ne X (t := 155) (show cdA 74 147 = some (.if_icmp .ne 8, 3, 1, 0, 0) from rfl) (by decide) (rng_to _) (by decide) (fun g50 => ?_) (fun g50 => ?_)
            ·
              refine z_bipush X (show cdA 74 155 = some (.bipush (-20), 2, 0, 0, (-20)) from rfl) ?_
              exact N23 _ (by omega)
            ·
              refine z_bipush X (show cdA 74 150 = some (.bipush (-17), 2, 0, 0, (-17)) from rfl) ?_
              refine z_goto X (t := 157) (show cdA 74 152 = some (.goto 5, 3, 0, 0, 0) from rfl) (by decide) ?_
              exact N23 _ (by omega)
          ·
            refine z_bipush X (show cdA 74 133 = some (.bipush (-16), 2, 0, 0, (-16)) from rfl) ?_
            refine z_goto X (t := 157) (show cdA 74 135 = some (.goto 22, 3, 0, 0, 0) from rfl) (by decide) ?_
            exact N23 _ (by omega)
        ·
          refine z_bipush X (show cdA 74 116 = some (.bipush (-15), 2, 0, 0, (-15)) from rfl) ?_
          refine z_goto X (t := 157) (show cdA 74 118 = some (.goto 39, 3, 0, 0, 0) from rfl) (by decide) ?_
          exact N23 _ (by omega)
      ·
        refine z_const X (show cdA 74 102 = some (.iconst 0, 1, 0, 0, 0) from rfl) ?_
        exact w_iret X.1 q hRt (nar_ret (by first | exact Or.inl (by decide) | omega)) (ax_d X (show cdA 74 103 = some (.ireturn, 1, 0, 0, 0) from rfl)) (Nat.zero_le _) (Nat.zero_le _) ⟨_, rfl, Is13, Gs13, 0, rfl, (by decide), by first | exact ⟨Or.inl (by decide), by omega, by omega⟩ | omega⟩
    ·
      refine z_aload_n X (x := A 19) (show cdA 74 58 = some (.aload_n 0, 1, 0, 0, 0) from rfl) (List.Mem.head _) ?_
      refine z_callV X 19 (rm := rmN 80) (As := []) (st := []) (show cdA 74 59 = some (.invokevirtual 113, 3, 80, 0, 0) from rfl) rfl (by decide) rfl (by rw [E.1, E.2.1, E.2.2.1]; exact c7_enter_19 G Is8 (by first | exact oq_e7b9ecab ws8_1 ws8_2 p0 | omega) (by first | exact oq_e7b9ecab ws8_2 ws8_4 p1 | omega)) ⟨by rw [E.2.2.2]; exact (show 8 + 1 ≤ (12 + (32 + 3 * (r + 1))) from oq_de5d5424 r), by rw [E.2.2.2]; exact (show 8 + (1 + 11) + 143 ≤ (500 + 45 * (32 + 3 * (r + 1))) from oq_8bb5ae4a r), by rw [E.2.2.2]; exact Nat.le_refl 0, by rw [E.2.2.2]; exact Nat.le_refl 0⟩ (Nat.le_of_ble_eq_true rfl) (fun vv s51 hq => ?_) (fun ee s51 hq => ?_)
      rotate_left
      · obtain ⟨Is51, Fs51, e52, hv, hrs51, hps51⟩ := hq; cases hv
      obtain ⟨Is51, Fs51, e52, hv, hrs51, hps51⟩ := hq
      cases hv
      have Gs51 := fm_ts Gs8 Fs51 (by decide) (by decide)
      have b53 : (0 : Int) ≤ iI s51 2 ∧ iI s51 2 ≤ 200 := Is51.1 2
      have ws51_1 : iI s51 1 = iI s8 1 := fm_i Fs51 (by decide)
      have b54 : (0 : Int) ≤ iI s51 4 ∧ iI s51 4 ≤ 200 := Is51.1 4
      have b55 : ((-3) : Int) ≤ iI s51 5 ∧ iI s51 5 ≤ 255 := Is51.1 5
      have b56 : (0 : Int) ≤ iI s51 6 ∧ iI s51 6 ≤ 100000 := Is51.1 6
      have b57 : (0 : Int) ≤ iI s51 19 ∧ iI s51 19 ≤ 6 := Is51.1 19
      have ws51_16 : iI s51 16 = iI s8 16 := fm_i Fs51 (by decide)
      show WS k 62 [(0, .ref (A 19))] [.int (Int32.ofInt e52)] (Wd A dT s51) 0 0
      refine z_if_eq X (t := 81) (show cdA 74 62 = some (.ifCond .eq 19, 3, 0, 0, 0) from rfl) (by decide) hrs51 (fun g58 => ?_) (fun g58 => ?_)
      ·
        refine z_const X (show cdA 74 81 = some (.iconst 0, 1, 0, 0, 0) from rfl) ?_
        exact w_iret X.1 q hRt (nar_ret (by first | exact Or.inl (by decide) | omega)) (ax_d X (show cdA 74 82 = some (.ireturn, 1, 0, 0, 0) from rfl)) (Nat.zero_le _) (Nat.zero_le _) ⟨_, rfl, Is51, Gs51, 0, rfl, (by decide), by first | exact ⟨Or.inl (by decide), hps51.2.1, hps51.2.2⟩ | omega⟩
      ·
        refine z_aload_n X (x := A 19) (show cdA 74 65 = some (.aload_n 0, 1, 0, 0, 0) from rfl) (List.Mem.head _) ?_
        refine z_callV X 19 (rm := (rkR (32 + 3 * (r) + 2))) (As := []) (st := []) (show cdA 74 66 = some (.invokevirtual 92, 3, 72, 0, 0) from rfl) rfl (by decide) rfl (by rw [E.1, E.2.1, E.2.2.1]; exact hE Is51 (by first | exact hps51.2.1 | omega) (by first | exact hps51.2.2 | omega) (by omega)) ⟨by rw [E.2.2.2]; exact (show (12 + (32 + 3 * (r) + 2)) + 1 ≤ (12 + (32 + 3 * (r + 1))) from oq_45eb8909 r), by rw [E.2.2.2]; exact (show 8 + (2 + 11) + (500 + 45 * (32 + 3 * (r) + 2)) ≤ (500 + 45 * (32 + 3 * (r + 1))) from oq_a5f4ad9d r), by rw [E.2.2.2]; exact Nat.le_refl 0, by rw [E.2.2.2]; exact Nat.le_refl 0⟩ (Nat.le_of_ble_eq_true rfl) (fun vv s59 hq => ?_) (fun ee s59 hq => ?_)
        rotate_left
        · obtain ⟨Is59, Fs59, e60, hv, hrs59, hps59⟩ := hq; cases hv
        obtain ⟨Is59, Fs59, e60, hv, hrs59, hps59⟩ := hq
        cases hv
        have Gs59 := fm_ts Gs51 Fs59 (by decide) (by decide)
        have b61 : (0 : Int) ≤ iI s59 2 ∧ iI s59 2 ≤ 200 := Is59.1 2
        have ws59_1 : iI s59 1 = iI s51 1 := fm_i Fs59 (by decide)
        have b62 : (0 : Int) ≤ iI s59 4 ∧ iI s59 4 ≤ 200 := Is59.1 4
        have b63 : ((-3) : Int) ≤ iI s59 5 ∧ iI s59 5 ≤ 255 := Is59.1 5
        have b64 : (0 : Int) ≤ iI s59 6 ∧ iI s59 6 ≤ 100000 := Is59.1 6
        have b65 : (0 : Int) ≤ iI s59 19 ∧ iI s59 19 ≤ 6 := Is59.1 19
        have b66 : (0 : Int) ≤ iI s59 16 ∧ iI s59 16 ≤ 200 := Is59.1 16
        show WS k 69 [(0, .ref (A 19))] [.int (Int32.ofInt e60)] (Wd A dT s59) 0 0
        refine z_if_eq X (t := 81) (show cdA 74 69 = some (.ifCond .eq 12, 3, 0, 0, 0) from rfl) (by decide) hrs59 (fun g67 => ?_) (fun g67 => ?_)
        ·
          refine z_const X (show cdA 74 81 = some (.iconst 0, 1, 0, 0, 0) from rfl) ?_
          exact w_iret X.1 q hRt (nar_ret (by first | exact Or.inl (by decide) | omega)) (ax_d X (show cdA 74 82 = some (.ireturn, 1, 0, 0, 0) from rfl)) (Nat.zero_le _) (Nat.zero_le _) ⟨_, rfl, Is59, Gs59, 0, rfl, (by decide), by first | exact ⟨Or.inl (by decide), by omega, by omega⟩ | omega⟩
        ·
          refine z_aload_n X (x := A 19) (show cdA 74 72 = some (.aload_n 0, 1, 0, 0, 0) from rfl) (List.Mem.head _) ?_
          refine z_bipush X (show cdA 74 73 = some (.bipush 93, 2, 0, 0, 93) from rfl) ?_
          refine z_callV X 19 (rm := rmN 81) (As := [.int (Int32.ofInt 93)]) (st := []) (show cdA 74 75 = some (.invokevirtual 95, 3, 81, 0, 0) from rfl) rfl (by decide) rfl (by rw [E.1, E.2.1, E.2.2.1]; exact c7_pass_19 G Is59 (by first | exact ⟨by decide, by decide⟩ | omega) (by omega) (by omega)) ⟨by rw [E.2.2.2]; exact (show 8 + 1 ≤ (12 + (32 + 3 * (r + 1))) from oq_de5d5424 r), by rw [E.2.2.2]; exact (show 8 + (2 + 11) + 143 ≤ (500 + 45 * (32 + 3 * (r + 1))) from oq_0961b7e0 r), by rw [E.2.2.2]; exact Nat.le_refl 0, by rw [E.2.2.2]; exact Nat.le_refl 0⟩ (Nat.le_of_ble_eq_true rfl) (fun vv s68 hq => ?_) (fun ee s68 hq => ?_)
          rotate_left
          · obtain ⟨Is68, Fs68, e69, hv, hrs68, hps68⟩ := hq; cases hv
          obtain ⟨Is68, Fs68, e69, hv, hrs68, hps68⟩ := hq
          cases hv
          have Gs68 := fm_ts Gs59 Fs68 (by decide) (by decide)
          have b70 : (0 : Int) ≤ iI s68 2 ∧ iI s68 2 ≤ 200 := Is68.1 2
          have ws68_1 : iI s68 1 = iI s59 1 := fm_i Fs68 (by decide)
          have b71 : (0 : Int) ≤ iI s68 4 ∧ iI s68 4 ≤ 200 := Is68.1 4
          have b72 : ((-3) : Int) ≤ iI s68 5 ∧ iI s68 5 ≤ 255 := Is68.1 5
          have b73 : (0 : Int) ≤ iI s68 6 ∧ iI s68 6 ≤ 100000 := Is68.1 6
          have ws68_19 : iI s68 19 = iI s59 19 := fm_i Fs68 (by decide)
          have ws68_16 : iI s68 16 = iI s59 16 := fm_i Fs68 (by decide)
          show WS k 78 [(0, .ref (A 19))] [.int (Int32.ofInt e69)] (Wd A dT s68) 0 0
          refine z_if_ne X (t := 83) (show cdA 74 78 = some (.ifCond .ne 5, 3, 1, 0, 0) from rfl) (by decide) hrs68 (fun g74 => ?_) (fun g74 => ?_)
          ·
            refine z_aload_n X (x := A 19) (show cdA 74 83 = some (.aload_n 0, 1, 0, 0, 0) from rfl) (List.Mem.head _) ?_
            refine w_dup X.1 (ax_d X (show cdA 74 84 = some (.dup, 1, 0, 0, 0) from rfl)) rfl ?_
            refine z_getI X 19 (show cdA 74 85 = some (.getfield 44, 3, 7, 12, 0) from rfl) (by decide) rfl rfl ?_
            have b75 : (0 : Int) ≤ iI s68 19 ∧ iI s68 19 ≤ 6 := Is68.1 19
            refine z_const X (show cdA 74 88 = some (.iconst 1, 1, 0, 0, 0) from rfl) ?_
            refine z_sub X (show cdA 74 89 = some (.isub, 1, 0, 0, 0) from rfl) ?_
            refine s_putI X 19 (show cdA 74 90 = some (.putfield 44, 3, 7, 12, 0) from rfl) (by decide) rfl rfl (by decide) rfl rfl rfl ?_
            obtain ⟨s76, hs76⟩ : ∃ x0, x0 = uI s68 19 (Int32.ofInt ((iI s68 19) - 1)) := ⟨_, rfl⟩
            rw [← hs76]
            have Is76 : Bd s76 := by rw [hs76]; exact bd_I Is68 (show (0 : Int) ≤ ((iI s68 19) - 1) ∧ ((iI s68 19) - 1) ≤ 6 by first | exact ⟨by omega, oq_a9606c0d b75.2⟩ | omega) ⟨by first | exact oq_c1e961c7 b75.1 | omega, by first | exact oq_b383b26c b75.2 | omega⟩
            have Fs76 := fm_I (x := Int32.ofInt ((iI s68 19) - 1)) Gs68 (show 19 ∈ _ by decide)
            rw [← hs76] at Fs76
            have vs76 : iI s76 19 = ((iI s68 19) - 1) := by rw [hs76]; exact iI_u ⟨by first | exact oq_c1e961c7 b75.1 | omega, by first | exact oq_b383b26c b75.2 | omega⟩
            have ws76_2 : iI s76 2 = iI s68 2 := by rw [hs76]; rfl
            have ws76_1 : iI s76 1 = iI s68 1 := by rw [hs76]; rfl
            have ws76_4 : iI s76 4 = iI s68 4 := by rw [hs76]; rfl
            have ws76_5 : iI s76 5 = iI s68 5 := by rw [hs76]; rfl
            have ws76_6 : iI s76 6 = iI s68 6 := by rw [hs76]; rfl
            have ws76_16 : iI s76 16 = iI s68 16 := by rw [hs76]; rfl
            refine z_const X (show cdA 74 93 = some (.iconst 1, 1, 0, 0, 0) from rfl) ?_
            exact w_iret X.1 q hRt (nar_ret (by first | exact Or.inr (by decide) | omega)) (ax_d X (show cdA 74 94 = some (.ireturn, 1, 0, 0, 0) from rfl)) (Nat.zero_le _) (Nat.zero_le _) ⟨_, rfl, Is76, Fs76, 1, rfl, (by decide), by first | exact ⟨by omega, oq_e7b9ecab ws76_1 ws76_2 hps68.2.1, oq_e7b9ecab ws76_2 ws76_4 hps68.2.2⟩ | omega⟩
          ·
            refine z_const X (show cdA 74 81 = some (.iconst 0, 1, 0, 0, 0) from rfl) ?_
            exact w_iret X.1 q hRt (nar_ret (by first | exact Or.inl (by decide) | omega)) (ax_d X (show cdA 74 82 = some (.ireturn, 1, 0, 0, 0) from rfl)) (Nat.zero_le _) (Nat.zero_le _) ⟨_, rfl, Is68, Gs68, 0, rfl, (by decide), by first | exact ⟨Or.inl (by decide), hps68.2.1, hps68.2.2⟩ | omega⟩
  ·
    refine z_aload_n X (x := A 19) (show cdA 74 12 = some (.aload_n 0, 1, 0, 0, 0) from rfl) (List.Mem.head _) ?_
    refine z_callV X 19 (rm := rmN 80) (As := []) (st := []) (show cdA 74 13 = some (.invokevirtual 113, 3, 80, 0, 0) from rfl) rfl (by decide) rfl (by rw [E.1, E.2.1, E.2.2.1]; exact c7_enter_19 G Is8 (by first | exact oq_e7b9ecab ws8_1 ws8_2 p0 | omega) (by first | exact oq_e7b9ecab ws8_2 ws8_4 p1 | omega)) ⟨by rw [E.2.2.2]; exact (show 8 + 1 ≤ (12 + (32 + 3 * (r + 1))) from oq_de5d5424 r), by rw [E.2.2.2]; exact (show 8 + (1 + 11) + 143 ≤ (500 + 45 * (32 + 3 * (r + 1))) from oq_8bb5ae4a r), by rw [E.2.2.2]; exact Nat.le_refl 0, by rw [E.2.2.2]; exact Nat.le_refl 0⟩ (Nat.le_of_ble_eq_true rfl) (fun vv s77 hq => ?_) (fun ee s77 hq => ?_)
    rotate_left
    · obtain ⟨Is77, Fs77, e78, hv, hrs77, hps77⟩ := hq; cases hv
    obtain ⟨Is77, Fs77, e78, hv, hrs77, hps77⟩ := hq
    cases hv
    have Gs77 := fm_ts Gs8 Fs77 (by decide) (by decide)
    have b79 : (0 : Int) ≤ iI s77 2 ∧ iI s77 2 ≤ 200 := Is77.1 2
    have ws77_1 : iI s77 1 = iI s8 1 := fm_i Fs77 (by decide)
    have b80 : (0 : Int) ≤ iI s77 4 ∧ iI s77 4 ≤ 200 := Is77.1 4
    have b81 : ((-3) : Int) ≤ iI s77 5 ∧ iI s77 5 ≤ 255 := Is77.1 5
    have b82 : (0 : Int) ≤ iI s77 6 ∧ iI s77 6 ≤ 100000 := Is77.1 6
    have b83 : (0 : Int) ≤ iI s77 19 ∧ iI s77 19 ≤ 6 := Is77.1 19
    have ws77_16 : iI s77 16 = iI s8 16 := fm_i Fs77 (by decide)
    show WS k 16 [(0, .ref (A 19))] [.int (Int32.ofInt e78)] (Wd A dT s77) 0 0
    refine z_if_eq X (t := 26) (show cdA 74 16 = some (.ifCond .eq 10, 3, 0, 0, 0) from rfl) (by decide) hrs77 (fun g84 => ?_) (fun g84 => ?_)
    ·
      refine z_const X (show cdA 74 26 = some (.iconst 0, 1, 0, 0, 0) from rfl) ?_
      exact w_iret X.1 q hRt (nar_ret (by first | exact Or.inl (by decide) | omega)) (ax_d X (show cdA 74 27 = some (.ireturn, 1, 0, 0, 0) from rfl)) (Nat.zero_le _) (Nat.zero_le _) ⟨_, rfl, Is77, Gs77, 0, rfl, (by decide), by first | exact ⟨Or.inl (by decide), hps77.2.1, hps77.2.2⟩ | omega⟩
    ·
      refine z_aload_n X (x := A 19) (show cdA 74 19 = some (.aload_n 0, 1, 0, 0, 0) from rfl) (List.Mem.head _) ?_
      refine z_callV X 19 (rm := (rkR (32 + 3 * (r)))) (As := []) (st := []) (show cdA 74 20 = some (.invokevirtual 106, 3, 74, 0, 0) from rfl) rfl (by decide) rfl (by rw [E.1, E.2.1, E.2.2.1]; exact hT Is77 (by first | exact hps77.2.1 | omega) (by first | exact hps77.2.2 | omega) (by omega)) ⟨by rw [E.2.2.2]; exact (show (12 + (32 + 3 * (r))) + 1 ≤ (12 + (32 + 3 * (r + 1))) from oq_a51edb0d r), by rw [E.2.2.2]; exact (show 8 + (2 + 11) + (500 + 45 * (32 + 3 * (r))) ≤ (500 + 45 * (32 + 3 * (r + 1))) from oq_75be701f r), by rw [E.2.2.2]; exact Nat.le_refl 0, by rw [E.2.2.2]; exact Nat.le_refl 0⟩ (Nat.le_of_ble_eq_true rfl) (fun vv s85 hq => ?_) (fun ee s85 hq => ?_)
      rotate_left
      · obtain ⟨Is85, Fs85, e86, hv, hrs85, hps85⟩ := hq; cases hv
      obtain ⟨Is85, Fs85, e86, hv, hrs85, hps85⟩ := hq
      cases hv
      have Gs85 := fm_ts Gs77 Fs85 (by decide) (by decide)
      have b87 : (0 : Int) ≤ iI s85 2 ∧ iI s85 2 ≤ 200 := Is85.1 2
      have ws85_1 : iI s85 1 = iI s77 1 := fm_i Fs85 (by decide)
      have b88 : (0 : Int) ≤ iI s85 4 ∧ iI s85 4 ≤ 200 := Is85.1 4
      have b89 : ((-3) : Int) ≤ iI s85 5 ∧ iI s85 5 ≤ 255 := Is85.1 5
      have b90 : (0 : Int) ≤ iI s85 6 ∧ iI s85 6 ≤ 100000 := Is85.1 6
      have b91 : (0 : Int) ≤ iI s85 19 ∧ iI s85 19 ≤ 6 := Is85.1 19
      have b92 : (0 : Int) ≤ iI s85 16 ∧ iI s85 16 ≤ 200 := Is85.1 16
      show WS k 23 [(0, .ref (A 19))] [.int (Int32.ofInt e86)] (Wd A dT s85) 0 0
      refine z_if_ne X (t := 28) (show cdA 74 23 = some (.ifCond .ne 5, 3, 1, 0, 0) from rfl) (by decide) hrs85 (fun g93 => ?_) (fun g93 => ?_)
      ·
        refine z_aload_n X (x := A 19) (show cdA 74 28 = some (.aload_n 0, 1, 0, 0, 0) from rfl) (List.Mem.head _) ?_
        refine w_dup X.1 (ax_d X (show cdA 74 29 = some (.dup, 1, 0, 0, 0) from rfl)) rfl ?_
        refine z_getI X 19 (show cdA 74 30 = some (.getfield 44, 3, 7, 12, 0) from rfl) (by decide) rfl rfl ?_
        have b94 : (0 : Int) ≤ iI s85 19 ∧ iI s85 19 ≤ 6 := Is85.1 19
        refine z_const X (show cdA 74 33 = some (.iconst 1, 1, 0, 0, 0) from rfl) ?_
        refine z_sub X (show cdA 74 34 = some (.isub, 1, 0, 0, 0) from rfl) ?_
        refine s_putI X 19 (show cdA 74 35 = some (.putfield 44, 3, 7, 12, 0) from rfl) (by decide) rfl rfl (by decide) rfl rfl rfl ?_
        obtain ⟨s95, hs95⟩ : ∃ x0, x0 = uI s85 19 (Int32.ofInt ((iI s85 19) - 1)) := ⟨_, rfl⟩
        rw [← hs95]
        have Is95 : Bd s95 := by rw [hs95]; exact bd_I Is85 (show (0 : Int) ≤ ((iI s85 19) - 1) ∧ ((iI s85 19) - 1) ≤ 6 by first | exact ⟨by omega, oq_a9606c0d b94.2⟩ | omega) ⟨by first | exact oq_c1e961c7 b94.1 | omega, by first | exact oq_b383b26c b94.2 | omega⟩
        have Fs95 := fm_I (x := Int32.ofInt ((iI s85 19) - 1)) Gs85 (show 19 ∈ _ by decide)
        rw [← hs95] at Fs95
        have vs95 : iI s95 19 = ((iI s85 19) - 1) := by rw [hs95]; exact iI_u ⟨by first | exact oq_c1e961c7 b94.1 | omega, by first | exact oq_b383b26c b94.2 | omega⟩
        have ws95_2 : iI s95 2 = iI s85 2 := by rw [hs95]; rfl
        have ws95_1 : iI s95 1 = iI s85 1 := by rw [hs95]; rfl
        have ws95_4 : iI s95 4 = iI s85 4 := by rw [hs95]; rfl
        have ws95_5 : iI s95 5 = iI s85 5 := by rw [hs95]; rfl
        have ws95_6 : iI s95 6 = iI s85 6 := by rw [hs95]; rfl
        have ws95_16 : iI s95 16 = iI s85 16 := by rw [hs95]; rfl
        refine z_aload_n X (x := A 19) (show cdA 74 38 = some (.aload_n 0, 1, 0, 0, 0) from rfl) (List.Mem.head _) ?_
        refine z_bipush X (show cdA 74 39 = some (.bipush (-8), 2, 0, 0, (-8)) from rfl) ?_
        refine z_callV X 19 (rm := rmN 82) (As := [.int (Int32.ofInt (-8))]) (st := []) (show cdA 74 41 = some (.invokevirtual 103, 3, 82, 0, 0) from rfl) rfl (by decide) rfl (by rw [E.1, E.2.1, E.2.2.1]; exact c7_put_19 G Is95 (by first | exact ⟨by decide, by decide⟩ | omega)) ⟨by rw [E.2.2.2]; exact (show 6 + 1 ≤ (12 + (32 + 3 * (r + 1))) from oq_65b7d3a7 r), by rw [E.2.2.2]; exact (show 8 + (2 + 11) + 100 ≤ (500 + 45 * (32 + 3 * (r + 1))) from oq_bfe32ab2 r), by rw [E.2.2.2]; exact Nat.le_refl 0, by rw [E.2.2.2]; exact Nat.le_refl 0⟩ (Nat.le_of_ble_eq_true rfl) (fun vv s96 hq => ?_) (fun ee s96 hq => ?_)
        rotate_left
        · obtain ⟨Is96, Fs96, hv, hps96⟩ := hq; cases hv
        obtain ⟨Is96, Fs96, hv, hps96⟩ := hq
        cases hv
        have Gs96 := fm_ts Fs95 Fs96 (by decide) (by decide)
        have ws96_2 : iI s96 2 = iI s95 2 := fm_i Fs96 (by decide)
        have ws96_1 : iI s96 1 = iI s95 1 := fm_i Fs96 (by decide)
        have ws96_4 : iI s96 4 = iI s95 4 := fm_i Fs96 (by decide)
        have ws96_5 : iI s96 5 = iI s95 5 := fm_i Fs96 (by decide)
        have ws96_6 : iI s96 6 = iI s95 6 := fm_i Fs96 (by decide)
        have ws96_19 : iI s96 19 = iI s95 19 := fm_i Fs96 (by decide)
        have b98 : (0 : Int) ≤ iI s96 16 ∧ iI s96 16 ≤ 200 := Is96.1 16
        show WS k 44 [(0, .ref (A 19))] [] (Wd A dT s96) 0 0
        refine z_const X (show cdA 74 44 = some (.iconst 1, 1, 0, 0, 0) from rfl) ?_
        exact w_iret X.1 q hRt (nar_ret (by first | exact Or.inr (by decide) | omega)) (ax_d X (show cdA 74 45 = some (.ireturn, 1, 0, 0, 0) from rfl)) (Nat.zero_le _) (Nat.zero_le _) ⟨_, rfl, Is96, Gs96, 1, rfl, (by decide), by omega⟩
      ·
        refine z_const X (show cdA 74 26 = some (.iconst 0, 1, 0, 0, 0) from rfl) ?_
        exact w_iret X.1 q hRt (nar_ret (by first | exact Or.inl (by decide) | omega)) (ax_d X (show cdA 74 27 = some (.ireturn, 1, 0, 0, 0) from rfl)) (Nat.zero_le _) (Nat.zero_le _) ⟨_, rfl, Is85, Gs85, 0, rfl, (by decide), by first | exact ⟨Or.inl (by decide), by omega, by omega⟩ | omega⟩
set_option maxRecDepth 4000 in
theorem c7_bothS (G : GX l s0 D tys a0 dT) (SF : SF0 s0) (GT : TXs0 s0) {r : Nat} (hT : ∀ {s : PS} , Bd s → (iI s 2 ≤ iI s 1) → (iI s 4 ≤ iI s 2) → (6 - iI s 19 ≤ ((r : Nat) : Int)) → CT l s0 D A dT 74 (rkR (32 + 3 * (r))) [.ref (A 19)] s (fun o t => Bd t ∧ Fm [2, 4, 6, 5, 7, 8, 19, 16] [18] s t ∧ ∃ e, o = .inl (some (.int (Int32.ofInt e))) ∧ rng e ∧ ((e = 0 ∨ (e = 1 ∧ iI t 19 = iI s 19)) ∧ iI t 2 ≤ iI t 1 ∧ iI t 4 ≤ iI t 2))) (I : Bd s) (p0 : iI s 2 ≤ iI s 1) (p1 : iI s 4 ≤ iI s 2) (p2 : 6 - iI s 19 ≤ ((r : Nat) : Int)) : CT l s0 D A dT 73 (rkR (32 + 3 * (r) + 1)) [.ref (A 19)] s (fun o t => Bd t ∧ Fm [2, 4, 6, 5, 7, 8, 19, 16] [18] s t ∧ ∃ e, o = .inl (some (.int (Int32.ofInt e))) ∧ rng e ∧ ((e = 0 ∨ (e = 1 ∧ iI t 19 = iI s 19)) ∧ iI t 2 ≤ iI t 1 ∧ iI t 4 ≤ iI t 2)) := by
  refine ct_ofX G (by decide) (Nat.le_of_ble_eq_true rfl) (fun k X E ET hRt hXt q => ?_)
  show WS k 0 [(0, .ref (A 19))] [] _ 0 0
  have F : Fm [2, 4, 6, 5, 7, 8, 19, 16] [18] s s := fm_rf _ _ s
  have b1 : (0 : Int) ≤ iI s 2 ∧ iI s 2 ≤ 200 := I.1 2
  have b2 : (0 : Int) ≤ iI s 1 ∧ iI s 1 ≤ 200 := I.1 1
  have b3 : (0 : Int) ≤ iI s 4 ∧ iI s 4 ≤ 200 := I.1 4
  have b4 : ((-3) : Int) ≤ iI s 5 ∧ iI s 5 ≤ 255 := I.1 5
  have b5 : (0 : Int) ≤ iI s 6 ∧ iI s 6 ≤ 100000 := I.1 6
  have b6 : (0 : Int) ≤ iI s 19 ∧ iI s 19 ≤ 6 := I.1 19
  have b7 : (0 : Int) ≤ iI s 16 ∧ iI s 16 ≤ 200 := I.1 16
  have L11 : ∀ (n : Nat) (t : PS) (c : Int), Bd t → Fm [2, 4, 6, 5, 7, 8, 19, 16] [18] s t → (0 ≤ c ∧ c ≤ 200 ∧ iI t 19 = iI s 19 ∧ iI t 2 ≤ iI t 1 ∧ iI t 4 ≤ iI t 2) → (200 - c : Int).toNat < n → (∀ (t' : PS) (c' : Int), Bd t' → Fm [2, 4, 6, 5, 7, 8, 19, 16] [18] s t' → (0 ≤ c' ∧ c' ≤ 200 ∧ iI t' 19 = iI s 19 ∧ iI t' 2 ≤ iI t' 1 ∧ iI t' 4 ≤ iI t' 2) → WS k 58 [(0, .ref (A 19)), (1, .int (Int32.ofInt c'))] [] (Wd A dT t') 0 0) → WS k 11 [(0, .ref (A 19)), (1, .int (Int32.ofInt c))] [] (Wd A dT t) 0 0 := by
    intro n
    induction n with
    | zero =>
      intro t c I F hi hm kx
      exact absurd hm (Nat.not_lt_zero _)
    | succ n ih =>
      intro t c I F hi hm kx
      have b1001 : (0 : Int) ≤ iI t 2 ∧ iI t 2 ≤ 200 := I.1 2
      have b1002 : (0 : Int) ≤ iI t 1 ∧ iI t 1 ≤ 200 := I.1 1
      have b1003 : (0 : Int) ≤ iI t 4 ∧ iI t 4 ≤ 200 := I.1 4
      have b1004 : ((-3) : Int) ≤ iI t 5 ∧ iI t 5 ≤ 255 := I.1 5
      have b1005 : (0 : Int) ≤ iI t 6 ∧ iI t 6 ≤ 100000 := I.1 6
      have b1006 : (0 : Int) ≤ iI t 19 ∧ iI t 19 ≤ 6 := I.1 19
      have b1007 : (0 : Int) ≤ iI t 16 ∧ iI t 16 ≤ 200 := I.1 16
      refine z_load_n X (x := c) (show cdA 73 11 = some (.iload_n 1, 1, 0, 0, 0) from rfl) (List.Mem.tail _ (List.Mem.head _)) ?_
      refine z_sipush X (show cdA 73 12 = some (.sipush 200, 3, 0, 0, 200) from rfl) ?_
      refine z_icmp_ge X (t := 58) (show cdA 73 15 = some (.if_icmp .ge 43, 3, 3, 0, 0) from rfl) (by decide) ⟨by first | exact oq_fa4e5087 hi.1 | omega, by first | exact oq_52af2b96 hi.2.1 | omega⟩ (by decide) (fun g1008 => ?_) (fun g1008 => ?_)
      ·
        refine WS_lv (lv := [(0, .ref (A 19)), (1, .int (Int32.ofInt c))]) (List.forall_mem_cons.mpr ⟨(List.Mem.head _), (List.forall_mem_cons.mpr ⟨(List.Mem.tail _ (List.Mem.head _)), (fun q h => absurd h List.not_mem_nil)⟩)⟩) ?_
        exact kx _ c I F (by first | exact ⟨hi.1, hi.2.1, hi.2.2.1, hi.2.2.2.1, hi.2.2.2.2⟩ | omega)
      ·
        refine z_aload_n X (x := A 19) (show cdA 73 18 = some (.aload_n 0, 1, 0, 0, 0) from rfl) (List.Mem.head _) ?_
        refine s_getR X 19 (show cdA 73 19 = some (.getfield 31, 3, 7, 0, 0) from rfl) (by decide) rfl rfl ?_
        obtain ⟨tx109, q109, hR109, hS109⟩ := GT (109, 3) (by decide)
        refine w_ldcK X (show vk_R (kOwn k) 109 tx109 q109 (kS0 k) by rw [E.2.1, X.2.1.2.1]; exact hR109) (show decode (kCc k) 22 = .ok (.ldc 109, 2) by rw [X.2.1.1]; decide +kernel) ?_
        refine z_callV X 1 (rm := rmN 131) (As := [.ref q109]) (st := []) (show cdA 73 24 = some (.invokevirtual 76, 3, 131, 0, 0) from rfl) rfl (by decide) rfl (by rw [E.1, E.2.1, E.2.2.1]; exact c10_says G SF hS109 I (by first | exact hi.2.2.2.2 | omega)) ⟨by rw [E.2.2.2]; exact (show 11 + 1 ≤ (12 + (32 + 3 * (r) + 1)) from oq_960124c6 r), by rw [E.2.2.2]; exact (show 8 + (3 + 11) + 206 ≤ (500 + 45 * (32 + 3 * (r) + 1)) from oq_7c76c90d r), by rw [E.2.2.2]; exact Nat.le_refl 0, by rw [E.2.2.2]; exact Nat.le_refl 0⟩ (Nat.le_of_ble_eq_true rfl) (fun vv s1009 hq => ?_) (fun ee s1009 hq => ?_)
        rotate_left
        · obtain ⟨Is1009, Fs1009, e1010, hv, hrs1009, hps1009⟩ := hq; cases hv
        obtain ⟨Is1009, Fs1009, e1010, hv, hrs1009, hps1009⟩ := hq
        cases hv
        have Gs1009 := fm_ts F Fs1009 (by decide) (by decide)
        have ws1009_2 : iI s1009 2 = iI t 2 := fm_i Fs1009 (by decide)
        have ws1009_1 : iI s1009 1 = iI t 1 := fm_i Fs1009 (by decide)
        have ws1009_4 : iI s1009 4 = iI t 4 := fm_i Fs1009 (by decide)
        have ws1009_5 : iI s1009 5 = iI t 5 := fm_i Fs1009 (by decide)
        have ws1009_6 : iI s1009 6 = iI t 6 := fm_i Fs1009 (by decide)
        have ws1009_19 : iI s1009 19 = iI t 19 := fm_i Fs1009 (by decide)
        have ws1009_16 : iI s1009 16 = iI t 16 := fm_i Fs1009 (by decide)
        show WS k 27 [(0, .ref (A 19)), (1, .int (Int32.ofInt c))] [.int (Int32.ofInt e1010)] (Wd A dT s1009) 0 0
        refine z_if_eq X (t := 58) (show cdA 73 27 = some (.ifCond .eq 31, 3, 0, 0, 0) from rfl) (by decide) hrs1009 (fun g1011 => ?_) (fun g1011 => ?_)
        ·
          refine WS_lv (lv := [(0, .ref (A 19)), (1, .int (Int32.ofInt c))]) (List.forall_mem_cons.mpr ⟨(List.Mem.head _), (List.forall_mem_cons.mpr ⟨(List.Mem.tail _ (List.Mem.head _)), (fun q h => absurd h List.not_mem_nil)⟩)⟩) ?_
          exact kx _ c Is1009 Gs1009 (by first | exact ⟨hi.1, hi.2.1, oq_1aa5be9e ws1009_19 hi.2.2.1, oq_e7b9ecab ws1009_1 ws1009_2 hi.2.2.2.1, oq_e7b9ecab ws1009_2 ws1009_4 hi.2.2.2.2⟩ | omega)
        ·
          refine z_aload_n X (x := A 19) (show cdA 73 30 = some (.aload_n 0, 1, 0, 0, 0) from rfl) (List.Mem.head _) ?_
          refine s_getR X 19 (show cdA 73 31 = some (.getfield 31, 3, 7, 0, 0) from rfl) (by decide) rfl rfl ?_
          refine z_callV X 1 (rm := rmN 129) (As := []) (st := []) (show cdA 73 34 = some (.invokevirtual 85, 3, 129, 0, 0) from rfl) rfl (by decide) rfl (by rw [E.1, E.2.1, E.2.2.1]; exact c10_step_1 G Is1009 (by first | exact oq_e7b9ecab ws1009_1 ws1009_2 hi.2.2.2.1 | omega)) ⟨by rw [E.2.2.2]; exact (show 7 + 1 ≤ (12 + (32 + 3 * (r) + 1)) from oq_7e7bafa7 r), by rw [E.2.2.2]; exact (show 8 + (1 + 11) + 121 ≤ (500 + 45 * (32 + 3 * (r) + 1)) from oq_f1058fdb r), by rw [E.2.2.2]; exact Nat.le_refl 0, by rw [E.2.2.2]; exact Nat.le_refl 0⟩ (Nat.le_of_ble_eq_true rfl) (fun vv s1012 hq => ?_) (fun ee s1012 hq => ?_)
          rotate_left
          · obtain ⟨Is1012, Fs1012, hv, hps1012⟩ := hq; cases hv
          obtain ⟨Is1012, Fs1012, hv, hps1012⟩ := hq
          cases hv
          have Gs1012 := fm_ts Gs1009 Fs1012 (by decide) (by decide)
          have b1014 : (0 : Int) ≤ iI s1012 2 ∧ iI s1012 2 ≤ 200 := Is1012.1 2
          have ws1012_1 : iI s1012 1 = iI s1009 1 := fm_i Fs1012 (by decide)
          have b1015 : (0 : Int) ≤ iI s1012 4 ∧ iI s1012 4 ≤ 200 := Is1012.1 4
          have b1016 : ((-3) : Int) ≤ iI s1012 5 ∧ iI s1012 5 ≤ 255 := Is1012.1 5
          have b1017 : (0 : Int) ≤ iI s1012 6 ∧ iI s1012 6 ≤ 100000 := Is1012.1 6
          have ws1012_19 : iI s1012 19 = iI s1009 19 := fm_i Fs1012 (by decide)
          have ws1012_16 : iI s1012 16 = iI s1009 16 := fm_i Fs1012 (by decide)
          show WS k 37 [(0, .ref (A 19)), (1, .int (Int32.ofInt c))] [] (Wd A dT s1012) 0 0
          refine z_aload_n X (x := A 19) (show cdA 73 37 = some (.aload_n 0, 1, 0, 0, 0) from rfl) (List.Mem.head _) ?_
          refine z_callV X 19 (rm := (rkR (32 + 3 * (r)))) (As := []) (st := []) (show cdA 73 38 = some (.invokevirtual 106, 3, 74, 0, 0) from rfl) rfl (by decide) rfl (by rw [E.1, E.2.1, E.2.2.1]; exact hT Is1012 (by first | exact hps1012.1 | omega) (by first | exact hps1012.2 | omega) (by first | exact oq_f4f80c46 p2 ws1012_19 hi.2.2.1 ws1009_19 | omega)) ⟨by rw [E.2.2.2]; exact (show (12 + (32 + 3 * (r))) + 1 ≤ (12 + (32 + 3 * (r) + 1)) from oq_2290fc41 r), by rw [E.2.2.2]; exact (show 8 + (2 + 11) + (500 + 45 * (32 + 3 * (r))) ≤ (500 + 45 * (32 + 3 * (r) + 1)) from oq_ab38c8cf r), by rw [E.2.2.2]; exact Nat.le_refl 0, by rw [E.2.2.2]; exact Nat.le_refl 0⟩ (Nat.le_of_ble_eq_true rfl) (fun vv s1018 hq => ?_) (fun ee s1018 hq => ?_)
          rotate_left
          · obtain ⟨Is1018, Fs1018, e1019, hv, hrs1018, hps1018⟩ := hq; cases hv
          obtain ⟨Is1018, Fs1018, e1019, hv, hrs1018, hps1018⟩ := hq
          cases hv
          have Gs1018 := fm_ts Gs1012 Fs1018 (by decide) (by decide)
          have b1020 : (0 : Int) ≤ iI s1018 2 ∧ iI s1018 2 ≤ 200 := Is1018.1 2
          have ws1018_1 : iI s1018 1 = iI s1012 1 := fm_i Fs1018 (by decide)
          have b1021 : (0 : Int) ≤ iI s1018 4 ∧ iI s1018 4 ≤ 200 := Is1018.1 4
          have b1022 : ((-3) : Int) ≤ iI s1018 5 ∧ iI s1018 5 ≤ 255 := Is1018.1 5
          have b1023 : (0 : Int) ≤ iI s1018 6 ∧ iI s1018 6 ≤ 100000 := Is1018.1 6
          have b1024 : (0 : Int) ≤ iI s1018 19 ∧ iI s1018 19 ≤ 6 := Is1018.1 19
          have b1025 : (0 : Int) ≤ iI s1018 16 ∧ iI s1018 16 ≤ 200 := Is1018.1 16
          show WS k 41 [(0, .ref (A 19)), (1, .int (Int32.ofInt c))] [.int (Int32.ofInt e1019)] (Wd A dT s1018) 0 0
          refine z_if_ne X (t := 46) (show cdA 73 41 = some (.ifCond .ne 5, 3, 1, 0, 0) from rfl) (by decide) hrs1018 (fun g1026 => ?_) (fun g1026 => ?_)
          ·
            refine z_aload_n X (x := A 19) (show cdA 73 46 = some (.aload_n 0, 1, 0, 0, 0) from rfl) (List.Mem.head _) ?_
            refine z_bipush X (show cdA 73 47 = some (.bipush (-18), 2, 0, 0, (-18)) from rfl) ?_
            refine z_callV X 19 (rm := rmN 82) (As := [.int (Int32.ofInt (-18))]) (st := []) (show cdA 73 49 = some (.invokevirtual 103, 3, 82, 0, 0) from rfl) rfl (by decide) rfl (by rw [E.1, E.2.1, E.2.2.1]; exact c7_put_19 G Is1018 (by first | exact ⟨by decide, by decide⟩ | omega)) ⟨by rw [E.2.2.2]; exact (show 6 + 1 ≤ (12 + (32 + 3 * (r) + 1)) from oq_b5194544 r), by rw [E.2.2.2]; exact (show 8 + (2 + 11) + 100 ≤ (500 + 45 * (32 + 3 * (r) + 1)) from oq_38be39c2 r), by rw [E.2.2.2]; exact Nat.le_refl 0, by rw [E.2.2.2]; exact Nat.le_refl 0⟩ (Nat.le_of_ble_eq_true rfl) (fun vv s1027 hq => ?_) (fun ee s1027 hq => ?_)
            rotate_left
            · obtain ⟨Is1027, Fs1027, hv, hps1027⟩ := hq; cases hv
            obtain ⟨Is1027, Fs1027, hv, hps1027⟩ := hq
            cases hv
            have Gs1027 := fm_ts Gs1018 Fs1027 (by decide) (by decide)
            have ws1027_2 : iI s1027 2 = iI s1018 2 := fm_i Fs1027 (by decide)
            have ws1027_1 : iI s1027 1 = iI s1018 1 := fm_i Fs1027 (by decide)
            have ws1027_4 : iI s1027 4 = iI s1018 4 := fm_i Fs1027 (by decide)
            have ws1027_5 : iI s1027 5 = iI s1018 5 := fm_i Fs1027 (by decide)
            have ws1027_6 : iI s1027 6 = iI s1018 6 := fm_i Fs1027 (by decide)
            have ws1027_19 : iI s1027 19 = iI s1018 19 := fm_i Fs1027 (by decide)
            have b1029 : (0 : Int) ≤ iI s1027 16 ∧ iI s1027 16 ≤ 200 := Is1027.1 16
            show WS k 52 [(0, .ref (A 19)), (1, .int (Int32.ofInt c))] [] (Wd A dT s1027) 0 0
            refine z_inc X (x := c) (lv' := [(1, .int (Int32.ofInt (c + 1))), (0, .ref (A 19))]) (show cdA 73 52 = some (.iinc 1 1, 3, 0, 0, 0) from rfl) (by decide) (List.Mem.tail _ (List.Mem.head _)) (fun _ h => h) ?_
            refine z_goto X (t := 11) (show cdA 73 55 = some (.goto (-44), 3, 0, 0, 0) from rfl) (by decide) ?_
            refine WS_lv (lv := [(0, .ref (A 19)), (1, .int (Int32.ofInt (c + 1)))]) (List.forall_mem_cons.mpr ⟨(List.Mem.tail _ (List.Mem.head _)), (List.forall_mem_cons.mpr ⟨(List.Mem.head _), (fun q h => absurd h List.not_mem_nil)⟩)⟩) ?_
            exact ih _ (c + 1) Is1027 Gs1027 (by omega) (by first | exact qk_me hm (by decide) (oq_1ab01402 g1008) | omega) kx
          ·
            refine z_const X (show cdA 73 44 = some (.iconst 0, 1, 0, 0, 0) from rfl) ?_
            exact w_iret X.1 q hRt (nar_ret (by first | exact Or.inl (by decide) | omega)) (ax_d X (show cdA 73 45 = some (.ireturn, 1, 0, 0, 0) from rfl)) (Nat.zero_le _) (Nat.zero_le _) ⟨_, rfl, Is1018, Gs1018, 0, rfl, (by decide), by first | exact ⟨Or.inl (by decide), by omega, by omega⟩ | omega⟩
  refine z_aload_n X (x := A 19) (show cdA 73 0 = some (.aload_n 0, 1, 0, 0, 0) from rfl) (List.Mem.head _) ?_
  refine z_callV X 19 (rm := (rkR (32 + 3 * (r)))) (As := []) (st := []) (show cdA 73 1 = some (.invokevirtual 106, 3, 74, 0, 0) from rfl) rfl (by decide) rfl (by rw [E.1, E.2.1, E.2.2.1]; exact hT I (by first | exact p0 | omega) (by first | exact p1 | omega) (by first | exact p2 | omega)) ⟨by rw [E.2.2.2]; exact (show (12 + (32 + 3 * (r))) + 1 ≤ (12 + (32 + 3 * (r) + 1)) from oq_2290fc41 r), by rw [E.2.2.2]; exact (show 8 + (2 + 11) + (500 + 45 * (32 + 3 * (r))) ≤ (500 + 45 * (32 + 3 * (r) + 1)) from oq_ab38c8cf r), by rw [E.2.2.2]; exact Nat.le_refl 0, by rw [E.2.2.2]; exact Nat.le_refl 0⟩ (Nat.le_of_ble_eq_true rfl) (fun vv s8 hq => ?_) (fun ee s8 hq => ?_)
  rotate_left
  · obtain ⟨Is8, Fs8, e9, hv, hrs8, hps8⟩ := hq; cases hv
  obtain ⟨Is8, Fs8, e9, hv, hrs8, hps8⟩ := hq
  cases hv
  have Gs8 := fm_ts F Fs8 (by decide) (by decide)
  have b10 : (0 : Int) ≤ iI s8 2 ∧ iI s8 2 ≤ 200 := Is8.1 2
  have ws8_1 : iI s8 1 = iI s 1 := fm_i Fs8 (by decide)
  have b11 : (0 : Int) ≤ iI s8 4 ∧ iI s8 4 ≤ 200 := Is8.1 4
  have b12 : ((-3) : Int) ≤ iI s8 5 ∧ iI s8 5 ≤ 255 := Is8.1 5
  have b13 : (0 : Int) ≤ iI s8 6 ∧ iI s8 6 ≤ 100000 := Is8.1 6
  have b14 : (0 : Int) ≤ iI s8 19 ∧ iI s8 19 ≤ 6 := Is8.1 19
  have b15 : (0 : Int) ≤ iI s8 16 ∧ iI s8 16 ≤ 200 := Is8.1 16
  show WS k 4 [(0, .ref (A 19))] [.int (Int32.ofInt e9)] (Wd A dT s8) 0 0
  refine z_if_ne X (t := 9) (show cdA 73 4 = some (.ifCond .ne 5, 3, 1, 0, 0) from rfl) (by decide) hrs8 (fun g16 => ?_) (fun g16 => ?_)
  ·
    refine z_const X (show cdA 73 9 = some (.iconst 0, 1, 0, 0, 0) from rfl) ?_
    refine z_store_n X (lv' := [(1, .int (Int32.ofInt 0)), (0, .ref (A 19))]) (show cdA 73 10 = some (.istore_n 1, 1, 0, 0, 0) from rfl) (by decide) (fun _ h => h) ?_
    refine WS_lv (lv := [(0, .ref (A 19)), (1, .int (Int32.ofInt 0))]) (List.forall_mem_cons.mpr ⟨(List.Mem.tail _ (List.Mem.head _)), (List.forall_mem_cons.mpr ⟨(List.Mem.head _), (fun q h => absurd h List.not_mem_nil)⟩)⟩) ?_
    refine L11 ((200 - 0 : Int).toNat + 1) s8 0 Is8 Gs8 (by omega) (Nat.lt_succ_self _) ?_
    intro s17 x18 Is17 Fs17 hs17
    have b19 : (0 : Int) ≤ iI s17 2 ∧ iI s17 2 ≤ 200 := Is17.1 2
    have b20 : (0 : Int) ≤ iI s17 1 ∧ iI s17 1 ≤ 200 := Is17.1 1
    have b21 : (0 : Int) ≤ iI s17 4 ∧ iI s17 4 ≤ 200 := Is17.1 4
    have b22 : ((-3) : Int) ≤ iI s17 5 ∧ iI s17 5 ≤ 255 := Is17.1 5
    have b23 : (0 : Int) ≤ iI s17 6 ∧ iI s17 6 ≤ 100000 := Is17.1 6
    have b24 : (0 : Int) ≤ iI s17 19 ∧ iI s17 19 ≤ 6 := Is17.1 19
    have b25 : (0 : Int) ≤ iI s17 16 ∧ iI s17 16 ≤ 200 := Is17.1 16
    refine z_const X (show cdA 73 58 = some (.iconst 1, 1, 0, 0, 0) from rfl) ?_
    exact w_iret X.1 q hRt (nar_ret (by first | exact Or.inr (by decide) | omega)) (ax_d X (show cdA 73 59 = some (.ireturn, 1, 0, 0, 0) from rfl)) (Nat.zero_le _) (Nat.zero_le _) ⟨_, rfl, Is17, Fs17, 1, rfl, (by decide), by first | exact ⟨Or.inr (And.intro (by decide) (hs17.2.2.1)), hs17.2.2.2.1, hs17.2.2.2.2⟩ | omega⟩
  ·
    refine z_const X (show cdA 73 7 = some (.iconst 0, 1, 0, 0, 0) from rfl) ?_
    exact w_iret X.1 q hRt (nar_ret (by first | exact Or.inl (by decide) | omega)) (ax_d X (show cdA 73 8 = some (.ireturn, 1, 0, 0, 0) from rfl)) (Nat.zero_le _) (Nat.zero_le _) ⟨_, rfl, Is8, Gs8, 0, rfl, (by decide), by first | exact ⟨Or.inl (by decide), by omega, by omega⟩ | omega⟩
set_option maxRecDepth 4000 in
theorem c7_eithS (G : GX l s0 D tys a0 dT) (SF : SF0 s0) (GT : TXs0 s0) {r : Nat} (hB : ∀ {s : PS} , Bd s → (iI s 2 ≤ iI s 1) → (iI s 4 ≤ iI s 2) → (6 - iI s 19 ≤ ((r : Nat) : Int)) → CT l s0 D A dT 73 (rkR (32 + 3 * (r) + 1)) [.ref (A 19)] s (fun o t => Bd t ∧ Fm [2, 4, 6, 5, 7, 8, 19, 16] [18] s t ∧ ∃ e, o = .inl (some (.int (Int32.ofInt e))) ∧ rng e ∧ ((e = 0 ∨ (e = 1 ∧ iI t 19 = iI s 19)) ∧ iI t 2 ≤ iI t 1 ∧ iI t 4 ≤ iI t 2))) (I : Bd s) (p0 : iI s 2 ≤ iI s 1) (p1 : iI s 4 ≤ iI s 2) (p2 : 6 - iI s 19 ≤ ((r : Nat) : Int)) : CT l s0 D A dT 72 (rkR (32 + 3 * (r) + 2)) [.ref (A 19)] s (fun o t => Bd t ∧ Fm [2, 4, 6, 5, 7, 8, 19, 16] [18] s t ∧ ∃ e, o = .inl (some (.int (Int32.ofInt e))) ∧ rng e ∧ ((e = 0 ∨ (e = 1 ∧ iI t 19 = iI s 19)) ∧ iI t 2 ≤ iI t 1 ∧ iI t 4 ≤ iI t 2)) := by
  refine ct_ofX G (by decide) (Nat.le_of_ble_eq_true rfl) (fun k X E ET hRt hXt q => ?_)
  show WS k 0 [(0, .ref (A 19))] [] _ 0 0
  have F : Fm [2, 4, 6, 5, 7, 8, 19, 16] [18] s s := fm_rf _ _ s
  have b1 : (0 : Int) ≤ iI s 2 ∧ iI s 2 ≤ 200 := I.1 2
  have b2 : (0 : Int) ≤ iI s 1 ∧ iI s 1 ≤ 200 := I.1 1
  have b3 : (0 : Int) ≤ iI s 4 ∧ iI s 4 ≤ 200 := I.1 4
  have b4 : ((-3) : Int) ≤ iI s 5 ∧ iI s 5 ≤ 255 := I.1 5
  have b5 : (0 : Int) ≤ iI s 6 ∧ iI s 6 ≤ 100000 := I.1 6
  have b6 : (0 : Int) ≤ iI s 19 ∧ iI s 19 ≤ 6 := I.1 19
  have b7 : (0 : Int) ≤ iI s 16 ∧ iI s 16 ≤ 200 := I.1 16
  have L11 : ∀ (n : Nat) (t : PS) (c : Int), Bd t → Fm [2, 4, 6, 5, 7, 8, 19, 16] [18] s t → (0 ≤ c ∧ c ≤ 200 ∧ iI t 19 = iI s 19 ∧ iI t 2 ≤ iI t 1 ∧ iI t 4 ≤ iI t 2) → (200 - c : Int).toNat < n → (∀ (t' : PS) (c' : Int), Bd t' → Fm [2, 4, 6, 5, 7, 8, 19, 16] [18] s t' → (0 ≤ c' ∧ c' ≤ 200 ∧ iI t' 19 = iI s 19 ∧ iI t' 2 ≤ iI t' 1 ∧ iI t' 4 ≤ iI t' 2) → WS k 58 [(0, .ref (A 19)), (1, .int (Int32.ofInt c'))] [] (Wd A dT t') 0 0) → WS k 11 [(0, .ref (A 19)), (1, .int (Int32.ofInt c))] [] (Wd A dT t) 0 0 := by
    intro n
    induction n with
    | zero =>
      intro t c I F hi hm kx
      exact absurd hm (Nat.not_lt_zero _)
    | succ n ih =>
      intro t c I F hi hm kx
      have b1001 : (0 : Int) ≤ iI t 2 ∧ iI t 2 ≤ 200 := I.1 2
      have b1002 : (0 : Int) ≤ iI t 1 ∧ iI t 1 ≤ 200 := I.1 1
      have b1003 : (0 : Int) ≤ iI t 4 ∧ iI t 4 ≤ 200 := I.1 4
      have b1004 : ((-3) : Int) ≤ iI t 5 ∧ iI t 5 ≤ 255 := I.1 5
      have b1005 : (0 : Int) ≤ iI t 6 ∧ iI t 6 ≤ 100000 := I.1 6
      have b1006 : (0 : Int) ≤ iI t 19 ∧ iI t 19 ≤ 6 := I.1 19
      have b1007 : (0 : Int) ≤ iI t 16 ∧ iI t 16 ≤ 200 := I.1 16
      refine z_load_n X (x := c) (show cdA 72 11 = some (.iload_n 1, 1, 0, 0, 0) from rfl) (List.Mem.tail _ (List.Mem.head _)) ?_
      refine z_sipush X (show cdA 72 12 = some (.sipush 200, 3, 0, 0, 200) from rfl) ?_
      refine z_icmp_ge X (t := 58) (show cdA 72 15 = some (.if_icmp .ge 43, 3, 3, 0, 0) from rfl) (by decide) ⟨by first | exact oq_fa4e5087 hi.1 | omega, by first | exact oq_52af2b96 hi.2.1 | omega⟩ (by decide) (fun g1008 => ?_) (fun g1008 => ?_)
      ·
        refine WS_lv (lv := [(0, .ref (A 19)), (1, .int (Int32.ofInt c))]) (List.forall_mem_cons.mpr ⟨(List.Mem.head _), (List.forall_mem_cons.mpr ⟨(List.Mem.tail _ (List.Mem.head _)), (fun q h => absurd h List.not_mem_nil)⟩)⟩) ?_
        exact kx _ c I F (by first | exact ⟨hi.1, hi.2.1, hi.2.2.1, hi.2.2.2.1, hi.2.2.2.2⟩ | omega)
      ·
        refine z_aload_n X (x := A 19) (show cdA 72 18 = some (.aload_n 0, 1, 0, 0, 0) from rfl) (List.Mem.head _) ?_
        refine s_getR X 19 (show cdA 72 19 = some (.getfield 31, 3, 7, 0, 0) from rfl) (by decide) rfl rfl ?_
        obtain ⟨tx101, q101, hR101, hS101⟩ := GT (101, 2) (by decide)
        refine w_ldcK X (show vk_R (kOwn k) 101 tx101 q101 (kS0 k) by rw [E.2.1, X.2.1.2.1]; exact hR101) (show decode (kCc k) 22 = .ok (.ldc 101, 2) by rw [X.2.1.1]; decide +kernel) ?_
        refine z_callV X 1 (rm := rmN 131) (As := [.ref q101]) (st := []) (show cdA 72 24 = some (.invokevirtual 76, 3, 131, 0, 0) from rfl) rfl (by decide) rfl (by rw [E.1, E.2.1, E.2.2.1]; exact c10_says G SF hS101 I (by first | exact hi.2.2.2.2 | omega)) ⟨by rw [E.2.2.2]; exact (show 11 + 1 ≤ (12 + (32 + 3 * (r) + 2)) from oq_3b8c0a4a r), by rw [E.2.2.2]; exact (show 8 + (3 + 11) + 206 ≤ (500 + 45 * (32 + 3 * (r) + 2)) from oq_c9883230 r), by rw [E.2.2.2]; exact Nat.le_refl 0, by rw [E.2.2.2]; exact Nat.le_refl 0⟩ (Nat.le_of_ble_eq_true rfl) (fun vv s1009 hq => ?_) (fun ee s1009 hq => ?_)
        rotate_left
        · obtain ⟨Is1009, Fs1009, e1010, hv, hrs1009, hps1009⟩ := hq; cases hv
        obtain ⟨Is1009, Fs1009, e1010, hv, hrs1009, hps1009⟩ := hq
        cases hv
        have Gs1009 := fm_ts F Fs1009 (by decide) (by decide)
        have ws1009_2 : iI s1009 2 = iI t 2 := fm_i Fs1009 (by decide)
        have ws1009_1 : iI s1009 1 = iI t 1 := fm_i Fs1009 (by decide)
        have ws1009_4 : iI s1009 4 = iI t 4 := fm_i Fs1009 (by decide)
        have ws1009_5 : iI s1009 5 = iI t 5 := fm_i Fs1009 (by decide)
        have ws1009_6 : iI s1009 6 = iI t 6 := fm_i Fs1009 (by decide)
        have ws1009_19 : iI s1009 19 = iI t 19 := fm_i Fs1009 (by decide)
        have ws1009_16 : iI s1009 16 = iI t 16 := fm_i Fs1009 (by decide)
        show WS k 27 [(0, .ref (A 19)), (1, .int (Int32.ofInt c))] [.int (Int32.ofInt e1010)] (Wd A dT s1009) 0 0
        refine z_if_eq X (t := 58) (show cdA 72 27 = some (.ifCond .eq 31, 3, 0, 0, 0) from rfl) (by decide) hrs1009 (fun g1011 => ?_) (fun g1011 => ?_)
        ·
          refine WS_lv (lv := [(0, .ref (A 19)), (1, .int (Int32.ofInt c))]) (List.forall_mem_cons.mpr ⟨(List.Mem.head _), (List.forall_mem_cons.mpr ⟨(List.Mem.tail _ (List.Mem.head _)), (fun q h => absurd h List.not_mem_nil)⟩)⟩) ?_
          exact kx _ c Is1009 Gs1009 (by first | exact ⟨hi.1, hi.2.1, oq_1aa5be9e ws1009_19 hi.2.2.1, oq_e7b9ecab ws1009_1 ws1009_2 hi.2.2.2.1, oq_e7b9ecab ws1009_2 ws1009_4 hi.2.2.2.2⟩ | omega)
        ·
          refine z_aload_n X (x := A 19) (show cdA 72 30 = some (.aload_n 0, 1, 0, 0, 0) from rfl) (List.Mem.head _) ?_
          refine s_getR X 19 (show cdA 72 31 = some (.getfield 31, 3, 7, 0, 0) from rfl) (by decide) rfl rfl ?_
          refine z_callV X 1 (rm := rmN 129) (As := []) (st := []) (show cdA 72 34 = some (.invokevirtual 85, 3, 129, 0, 0) from rfl) rfl (by decide) rfl (by rw [E.1, E.2.1, E.2.2.1]; exact c10_step_1 G Is1009 (by first | exact oq_e7b9ecab ws1009_1 ws1009_2 hi.2.2.2.1 | omega)) ⟨by rw [E.2.2.2]; exact (show 7 + 1 ≤ (12 + (32 + 3 * (r) + 2)) from oq_9d2e9ef6 r), by rw [E.2.2.2]; exact (show 8 + (1 + 11) + 121 ≤ (500 + 45 * (32 + 3 * (r) + 2)) from oq_41985971 r), by rw [E.2.2.2]; exact Nat.le_refl 0, by rw [E.2.2.2]; exact Nat.le_refl 0⟩ (Nat.le_of_ble_eq_true rfl) (fun vv s1012 hq => ?_) (fun ee s1012 hq => ?_)
          rotate_left
          · obtain ⟨Is1012, Fs1012, hv, hps1012⟩ := hq; cases hv
          obtain ⟨Is1012, Fs1012, hv, hps1012⟩ := hq
          cases hv
          have Gs1012 := fm_ts Gs1009 Fs1012 (by decide) (by decide)
          have b1014 : (0 : Int) ≤ iI s1012 2 ∧ iI s1012 2 ≤ 200 := Is1012.1 2
          have ws1012_1 : iI s1012 1 = iI s1009 1 := fm_i Fs1012 (by decide)
          have b1015 : (0 : Int) ≤ iI s1012 4 ∧ iI s1012 4 ≤ 200 := Is1012.1 4
          have b1016 : ((-3) : Int) ≤ iI s1012 5 ∧ iI s1012 5 ≤ 255 := Is1012.1 5
          have b1017 : (0 : Int) ≤ iI s1012 6 ∧ iI s1012 6 ≤ 100000 := Is1012.1 6
          have ws1012_19 : iI s1012 19 = iI s1009 19 := fm_i Fs1012 (by decide)
          have ws1012_16 : iI s1012 16 = iI s1009 16 := fm_i Fs1012 (by decide)
          show WS k 37 [(0, .ref (A 19)), (1, .int (Int32.ofInt c))] [] (Wd A dT s1012) 0 0
          refine z_aload_n X (x := A 19) (show cdA 72 37 = some (.aload_n 0, 1, 0, 0, 0) from rfl) (List.Mem.head _) ?_
          refine z_callV X 19 (rm := (rkR (32 + 3 * (r) + 1))) (As := []) (st := []) (show cdA 72 38 = some (.invokevirtual 98, 3, 73, 0, 0) from rfl) rfl (by decide) rfl (by rw [E.1, E.2.1, E.2.2.1]; exact hB Is1012 (by first | exact hps1012.1 | omega) (by first | exact hps1012.2 | omega) (by first | exact oq_f4f80c46 p2 ws1012_19 hi.2.2.1 ws1009_19 | omega)) ⟨by rw [E.2.2.2]; exact (show (12 + (32 + 3 * (r) + 1)) + 1 ≤ (12 + (32 + 3 * (r) + 2)) from oq_23399e95 r), by rw [E.2.2.2]; exact (show 8 + (2 + 11) + (500 + 45 * (32 + 3 * (r) + 1)) ≤ (500 + 45 * (32 + 3 * (r) + 2)) from oq_c23d4411 r), by rw [E.2.2.2]; exact Nat.le_refl 0, by rw [E.2.2.2]; exact Nat.le_refl 0⟩ (Nat.le_of_ble_eq_true rfl) (fun vv s1018 hq => ?_) (fun ee s1018 hq => ?_)
          rotate_left
          · obtain ⟨Is1018, Fs1018, e1019, hv, hrs1018, hps1018⟩ := hq; cases hv
          obtain ⟨Is1018, Fs1018, e1019, hv, hrs1018, hps1018⟩ := hq
          cases hv
          have Gs1018 := fm_ts Gs1012 Fs1018 (by decide) (by decide)
          have b1020 : (0 : Int) ≤ iI s1018 2 ∧ iI s1018 2 ≤ 200 := Is1018.1 2
          have ws1018_1 : iI s1018 1 = iI s1012 1 := fm_i Fs1018 (by decide)
          have b1021 : (0 : Int) ≤ iI s1018 4 ∧ iI s1018 4 ≤ 200 := Is1018.1 4
          have b1022 : ((-3) : Int) ≤ iI s1018 5 ∧ iI s1018 5 ≤ 255 := Is1018.1 5
          have b1023 : (0 : Int) ≤ iI s1018 6 ∧ iI s1018 6 ≤ 100000 := Is1018.1 6
          have b1024 : (0 : Int) ≤ iI s1018 19 ∧ iI s1018 19 ≤ 6 := Is1018.1 19
          have b1025 : (0 : Int) ≤ iI s1018 16 ∧ iI s1018 16 ≤ 200 := Is1018.1 16
          show WS k 41 [(0, .ref (A 19)), (1, .int (Int32.ofInt c))] [.int (Int32.ofInt e1019)] (Wd A dT s1018) 0 0
          refine z_if_ne X (t := 46) (show cdA 72 41 = some (.ifCond .ne 5, 3, 1, 0, 0) from rfl) (by decide) hrs1018 (fun g1026 => ?_) (fun g1026 => ?_)
          ·
            refine z_aload_n X (x := A 19) (show cdA 72 46 = some (.aload_n 0, 1, 0, 0, 0) from rfl) (List.Mem.head _) ?_
            refine z_bipush X (show cdA 72 47 = some (.bipush (-19), 2, 0, 0, (-19)) from rfl) ?_
            refine z_callV X 19 (rm := rmN 82) (As := [.int (Int32.ofInt (-19))]) (st := []) (show cdA 72 49 = some (.invokevirtual 103, 3, 82, 0, 0) from rfl) rfl (by decide) rfl (by rw [E.1, E.2.1, E.2.2.1]; exact c7_put_19 G Is1018 (by first | exact ⟨by decide, by decide⟩ | omega)) ⟨by rw [E.2.2.2]; exact (show 6 + 1 ≤ (12 + (32 + 3 * (r) + 2)) from oq_bd1a6d33 r), by rw [E.2.2.2]; exact (show 8 + (2 + 11) + 100 ≤ (500 + 45 * (32 + 3 * (r) + 2)) from oq_1addf0d0 r), by rw [E.2.2.2]; exact Nat.le_refl 0, by rw [E.2.2.2]; exact Nat.le_refl 0⟩ (Nat.le_of_ble_eq_true rfl) (fun vv s1027 hq => ?_) (fun ee s1027 hq => ?_)
            rotate_left
            · obtain ⟨Is1027, Fs1027, hv, hps1027⟩ := hq; cases hv
            obtain ⟨Is1027, Fs1027, hv, hps1027⟩ := hq
            cases hv
            have Gs1027 := fm_ts Gs1018 Fs1027 (by decide) (by decide)
            have ws1027_2 : iI s1027 2 = iI s1018 2 := fm_i Fs1027 (by decide)
            have ws1027_1 : iI s1027 1 = iI s1018 1 := fm_i Fs1027 (by decide)
            have ws1027_4 : iI s1027 4 = iI s1018 4 := fm_i Fs1027 (by decide)
            have ws1027_5 : iI s1027 5 = iI s1018 5 := fm_i Fs1027 (by decide)
            have ws1027_6 : iI s1027 6 = iI s1018 6 := fm_i Fs1027 (by decide)
            have ws1027_19 : iI s1027 19 = iI s1018 19 := fm_i Fs1027 (by decide)
            have b1029 : (0 : Int) ≤ iI s1027 16 ∧ iI s1027 16 ≤ 200 := Is1027.1 16
            show WS k 52 [(0, .ref (A 19)), (1, .int (Int32.ofInt c))] [] (Wd A dT s1027) 0 0
            refine z_inc X (x := c) (lv' := [(1, .int (Int32.ofInt (c + 1))), (0, .ref (A 19))]) (show cdA 72 52 = some (.iinc 1 1, 3, 0, 0, 0) from rfl) (by decide) (List.Mem.tail _ (List.Mem.head _)) (fun _ h => h) ?_
            refine z_goto X (t := 11) (show cdA 72 55 = some (.goto (-44), 3, 0, 0, 0) from rfl) (by decide) ?_
            refine WS_lv (lv := [(0, .ref (A 19)), (1, .int (Int32.ofInt (c + 1)))]) (List.forall_mem_cons.mpr ⟨(List.Mem.tail _ (List.Mem.head _)), (List.forall_mem_cons.mpr ⟨(List.Mem.head _), (fun q h => absurd h List.not_mem_nil)⟩)⟩) ?_
            exact ih _ (c + 1) Is1027 Gs1027 (by omega) (by first | exact qk_me hm (by decide) (oq_1ab01402 g1008) | omega) kx
          ·
            refine z_const X (show cdA 72 44 = some (.iconst 0, 1, 0, 0, 0) from rfl) ?_
            exact w_iret X.1 q hRt (nar_ret (by first | exact Or.inl (by decide) | omega)) (ax_d X (show cdA 72 45 = some (.ireturn, 1, 0, 0, 0) from rfl)) (Nat.zero_le _) (Nat.zero_le _) ⟨_, rfl, Is1018, Gs1018, 0, rfl, (by decide), by first | exact ⟨Or.inl (by decide), by omega, by omega⟩ | omega⟩
  refine z_aload_n X (x := A 19) (show cdA 72 0 = some (.aload_n 0, 1, 0, 0, 0) from rfl) (List.Mem.head _) ?_
  refine z_callV X 19 (rm := (rkR (32 + 3 * (r) + 1))) (As := []) (st := []) (show cdA 72 1 = some (.invokevirtual 98, 3, 73, 0, 0) from rfl) rfl (by decide) rfl (by rw [E.1, E.2.1, E.2.2.1]; exact hB I (by first | exact p0 | omega) (by first | exact p1 | omega) (by first | exact p2 | omega)) ⟨by rw [E.2.2.2]; exact (show (12 + (32 + 3 * (r) + 1)) + 1 ≤ (12 + (32 + 3 * (r) + 2)) from oq_23399e95 r), by rw [E.2.2.2]; exact (show 8 + (2 + 11) + (500 + 45 * (32 + 3 * (r) + 1)) ≤ (500 + 45 * (32 + 3 * (r) + 2)) from oq_c23d4411 r), by rw [E.2.2.2]; exact Nat.le_refl 0, by rw [E.2.2.2]; exact Nat.le_refl 0⟩ (Nat.le_of_ble_eq_true rfl) (fun vv s8 hq => ?_) (fun ee s8 hq => ?_)
  rotate_left
  · obtain ⟨Is8, Fs8, e9, hv, hrs8, hps8⟩ := hq; cases hv
  obtain ⟨Is8, Fs8, e9, hv, hrs8, hps8⟩ := hq
  cases hv
  have Gs8 := fm_ts F Fs8 (by decide) (by decide)
  have b10 : (0 : Int) ≤ iI s8 2 ∧ iI s8 2 ≤ 200 := Is8.1 2
  have ws8_1 : iI s8 1 = iI s 1 := fm_i Fs8 (by decide)
  have b11 : (0 : Int) ≤ iI s8 4 ∧ iI s8 4 ≤ 200 := Is8.1 4
  have b12 : ((-3) : Int) ≤ iI s8 5 ∧ iI s8 5 ≤ 255 := Is8.1 5
  have b13 : (0 : Int) ≤ iI s8 6 ∧ iI s8 6 ≤ 100000 := Is8.1 6
  have b14 : (0 : Int) ≤ iI s8 19 ∧ iI s8 19 ≤ 6 := Is8.1 19
  have b15 : (0 : Int) ≤ iI s8 16 ∧ iI s8 16 ≤ 200 := Is8.1 16
  show WS k 4 [(0, .ref (A 19))] [.int (Int32.ofInt e9)] (Wd A dT s8) 0 0
  refine z_if_ne X (t := 9) (show cdA 72 4 = some (.ifCond .ne 5, 3, 1, 0, 0) from rfl) (by decide) hrs8 (fun g16 => ?_) (fun g16 => ?_)
  ·
    refine z_const X (show cdA 72 9 = some (.iconst 0, 1, 0, 0, 0) from rfl) ?_
    refine z_store_n X (lv' := [(1, .int (Int32.ofInt 0)), (0, .ref (A 19))]) (show cdA 72 10 = some (.istore_n 1, 1, 0, 0, 0) from rfl) (by decide) (fun _ h => h) ?_
    refine WS_lv (lv := [(0, .ref (A 19)), (1, .int (Int32.ofInt 0))]) (List.forall_mem_cons.mpr ⟨(List.Mem.tail _ (List.Mem.head _)), (List.forall_mem_cons.mpr ⟨(List.Mem.head _), (fun q h => absurd h List.not_mem_nil)⟩)⟩) ?_
    refine L11 ((200 - 0 : Int).toNat + 1) s8 0 Is8 Gs8 (by omega) (Nat.lt_succ_self _) ?_
    intro s17 x18 Is17 Fs17 hs17
    have b19 : (0 : Int) ≤ iI s17 2 ∧ iI s17 2 ≤ 200 := Is17.1 2
    have b20 : (0 : Int) ≤ iI s17 1 ∧ iI s17 1 ≤ 200 := Is17.1 1
    have b21 : (0 : Int) ≤ iI s17 4 ∧ iI s17 4 ≤ 200 := Is17.1 4
    have b22 : ((-3) : Int) ≤ iI s17 5 ∧ iI s17 5 ≤ 255 := Is17.1 5
    have b23 : (0 : Int) ≤ iI s17 6 ∧ iI s17 6 ≤ 100000 := Is17.1 6
    have b24 : (0 : Int) ≤ iI s17 19 ∧ iI s17 19 ≤ 6 := Is17.1 19
    have b25 : (0 : Int) ≤ iI s17 16 ∧ iI s17 16 ≤ 200 := Is17.1 16
    refine z_const X (show cdA 72 58 = some (.iconst 1, 1, 0, 0, 0) from rfl) ?_
    exact w_iret X.1 q hRt (nar_ret (by first | exact Or.inr (by decide) | omega)) (ax_d X (show cdA 72 59 = some (.ireturn, 1, 0, 0, 0) from rfl)) (Nat.zero_le _) (Nat.zero_le _) ⟨_, rfl, Is17, Fs17, 1, rfl, (by decide), by first | exact ⟨Or.inr (And.intro (by decide) (hs17.2.2.1)), hs17.2.2.2.1, hs17.2.2.2.2⟩ | omega⟩
  ·
    refine z_const X (show cdA 72 7 = some (.iconst 0, 1, 0, 0, 0) from rfl) ?_
    exact w_iret X.1 q hRt (nar_ret (by first | exact Or.inl (by decide) | omega)) (ax_d X (show cdA 72 8 = some (.ireturn, 1, 0, 0, 0) from rfl)) (Nat.zero_le _) (Nat.zero_le _) ⟨_, rfl, Is8, Gs8, 0, rfl, (by decide), by first | exact ⟨Or.inl (by decide), by omega, by omega⟩ | omega⟩
theorem c7_eithr (G : GX l s0 D tys a0 dT) (SF : SF0 s0) (GT : TXs0 s0) (r : Nat) : (∀ {s : PS} , Bd s → (iI s 2 ≤ iI s 1) → (iI s 4 ≤ iI s 2) → (6 - iI s 19 ≤ ((r : Nat) : Int)) → CT l s0 D A dT 74 (rkR (32 + 3 * (r))) [.ref (A 19)] s (fun o t => Bd t ∧ Fm [2, 4, 6, 5, 7, 8, 19, 16] [18] s t ∧ ∃ e, o = .inl (some (.int (Int32.ofInt e))) ∧ rng e ∧ ((e = 0 ∨ (e = 1 ∧ iI t 19 = iI s 19)) ∧ iI t 2 ≤ iI t 1 ∧ iI t 4 ≤ iI t 2))) ∧ (∀ {s : PS} , Bd s → (iI s 2 ≤ iI s 1) → (iI s 4 ≤ iI s 2) → (6 - iI s 19 ≤ ((r : Nat) : Int)) → CT l s0 D A dT 73 (rkR (32 + 3 * (r) + 1)) [.ref (A 19)] s (fun o t => Bd t ∧ Fm [2, 4, 6, 5, 7, 8, 19, 16] [18] s t ∧ ∃ e, o = .inl (some (.int (Int32.ofInt e))) ∧ rng e ∧ ((e = 0 ∨ (e = 1 ∧ iI t 19 = iI s 19)) ∧ iI t 2 ≤ iI t 1 ∧ iI t 4 ≤ iI t 2))) ∧ (∀ {s : PS} , Bd s → (iI s 2 ≤ iI s 1) → (iI s 4 ≤ iI s 2) → (6 - iI s 19 ≤ ((r : Nat) : Int)) → CT l s0 D A dT 72 (rkR (32 + 3 * (r) + 2)) [.ref (A 19)] s (fun o t => Bd t ∧ Fm [2, 4, 6, 5, 7, 8, 19, 16] [18] s t ∧ ∃ e, o = .inl (some (.int (Int32.ofInt e))) ∧ rng e ∧ ((e = 0 ∨ (e = 1 ∧ iI t 19 = iI s 19)) ∧ iI t 2 ≤ iI t 1 ∧ iI t 4 ≤ iI t 2))) := by
  induction r with
  | zero =>
    have hT : ∀ {s : PS} , Bd s → (iI s 2 ≤ iI s 1) → (iI s 4 ≤ iI s 2) → (6 - iI s 19 ≤ ((0 : Nat) : Int)) → CT l s0 D A dT 74 (rkR (32 + 3 * (0))) [.ref (A 19)] s (fun o t => Bd t ∧ Fm [2, 4, 6, 5, 7, 8, 19, 16] [18] s t ∧ ∃ e, o = .inl (some (.int (Int32.ofInt e))) ∧ rng e ∧ ((e = 0 ∨ (e = 1 ∧ iI t 19 = iI s 19)) ∧ iI t 2 ≤ iI t 1 ∧ iI t 4 ≤ iI t 2)) := fun {_} I p0 p1 p2 => c7_test0 G SF GT I p0 p1 p2
    have hB : ∀ {s : PS} , Bd s → (iI s 2 ≤ iI s 1) → (iI s 4 ≤ iI s 2) → (6 - iI s 19 ≤ ((0 : Nat) : Int)) → CT l s0 D A dT 73 (rkR (32 + 3 * (0) + 1)) [.ref (A 19)] s (fun o t => Bd t ∧ Fm [2, 4, 6, 5, 7, 8, 19, 16] [18] s t ∧ ∃ e, o = .inl (some (.int (Int32.ofInt e))) ∧ rng e ∧ ((e = 0 ∨ (e = 1 ∧ iI t 19 = iI s 19)) ∧ iI t 2 ≤ iI t 1 ∧ iI t 4 ≤ iI t 2)) := fun {_} I p0 p1 p2 => c7_bothS (r := 0) G SF GT hT I p0 p1 p2
    exact ⟨hT, hB, fun {_} I p0 p1 p2 => c7_eithS (r := 0) G SF GT hB I p0 p1 p2⟩
  | succ r ih =>
    have hT : ∀ {s : PS} , Bd s → (iI s 2 ≤ iI s 1) → (iI s 4 ≤ iI s 2) → (6 - iI s 19 ≤ ((r + 1 : Nat) : Int)) → CT l s0 D A dT 74 (rkR (32 + 3 * (r + 1))) [.ref (A 19)] s (fun o t => Bd t ∧ Fm [2, 4, 6, 5, 7, 8, 19, 16] [18] s t ∧ ∃ e, o = .inl (some (.int (Int32.ofInt e))) ∧ rng e ∧ ((e = 0 ∨ (e = 1 ∧ iI t 19 = iI s 19)) ∧ iI t 2 ≤ iI t 1 ∧ iI t 4 ≤ iI t 2)) := fun {_} I p0 p1 p2 => c7_testS (r := r) G SF GT ih.1 ih.2.2 I p0 p1 p2
    have hB : ∀ {s : PS} , Bd s → (iI s 2 ≤ iI s 1) → (iI s 4 ≤ iI s 2) → (6 - iI s 19 ≤ ((r + 1 : Nat) : Int)) → CT l s0 D A dT 73 (rkR (32 + 3 * (r + 1) + 1)) [.ref (A 19)] s (fun o t => Bd t ∧ Fm [2, 4, 6, 5, 7, 8, 19, 16] [18] s t ∧ ∃ e, o = .inl (some (.int (Int32.ofInt e))) ∧ rng e ∧ ((e = 0 ∨ (e = 1 ∧ iI t 19 = iI s 19)) ∧ iI t 2 ≤ iI t 1 ∧ iI t 4 ≤ iI t 2)) := fun {_} I p0 p1 p2 => c7_bothS (r := r + 1) G SF GT hT I p0 p1 p2
    exact ⟨hT, hB, fun {_} I p0 p1 p2 => c7_eithS (r := r + 1) G SF GT hB I p0 p1 p2⟩
set_option maxRecDepth 4000 in
theorem c7_readClause_19 (G : GX l s0 D tys a0 dT) (SF : SF0 s0) (GT : TXs0 s0) (I : Bd s) {x : Int} (p0 : 0 ≤ x ∧ x ≤ 8) (p1 : iI s 2 ≤ iI s 1) (p2 : iI s 4 ≤ iI s 2) : CT l s0 D A dT 71 (rmN 71) [.ref (A 19), .int (Int32.ofInt x)] s (fun o t => Bd t ∧ Fm [2, 4, 6, 5, 7, 8, 19, 16, 17, 18] [18, 19] s t ∧ ∃ e, o = .inl (some (.int (Int32.ofInt e))) ∧ rng e ∧ ((e = 0 ∨ e = 1) ∧ iI t 2 ≤ iI t 1 ∧ iI t 4 ≤ iI t 2)) := by
  refine ct_ofX G (by decide) (Nat.le_of_ble_eq_true rfl) (fun k X E ET hRt hXt q => ?_)
  show WS k 0 [(0, .ref (A 19)), (1, .int (Int32.ofInt x))] [] _ 0 0
  have F : Fm [2, 4, 6, 5, 7, 8, 19, 16, 17, 18] [18, 19] s s := fm_rf _ _ s
  have b1 : (0 : Int) ≤ iI s 2 ∧ iI s 2 ≤ 200 := I.1 2
  have b2 : (0 : Int) ≤ iI s 1 ∧ iI s 1 ≤ 200 := I.1 1
  have b3 : (0 : Int) ≤ iI s 4 ∧ iI s 4 ≤ 200 := I.1 4
  have b4 : ((-3) : Int) ≤ iI s 5 ∧ iI s 5 ≤ 255 := I.1 5
  have b5 : (0 : Int) ≤ iI s 6 ∧ iI s 6 ≤ 100000 := I.1 6
  have b6 : (0 : Int) ≤ iI s 19 ∧ iI s 19 ≤ 6 := I.1 19
  have b7 : (0 : Int) ≤ iI s 16 ∧ iI s 16 ≤ 200 := I.1 16
  refine z_aload_n X (x := A 19) (show cdA 71 0 = some (.aload_n 0, 1, 0, 0, 0) from rfl) (List.Mem.head _) ?_
  refine s_getR X 19 (show cdA 71 1 = some (.getfield 31, 3, 7, 0, 0) from rfl) (by decide) rfl rfl ?_
  obtain ⟨tx74, q74, hR74, hS74⟩ := GT (74, 4) (by decide)
  refine w_ldcK X (show vk_R (kOwn k) 74 tx74 q74 (kS0 k) by rw [E.2.1, X.2.1.2.1]; exact hR74) (show decode (kCc k) 4 = .ok (.ldc 74, 2) by rw [X.2.1.1]; decide +kernel) ?_
  refine z_callV X 1 (rm := rmN 131) (As := [.ref q74]) (st := []) (show cdA 71 6 = some (.invokevirtual 76, 3, 131, 0, 0) from rfl) rfl (by decide) rfl (by rw [E.1, E.2.1, E.2.2.1]; exact c10_says G SF hS74 I (by first | exact p2 | omega)) ⟨by rw [E.2.2.2]; exact (show (rmN 131).frames + 1 ≤ (rmN 71).frames by decide), by rw [E.2.2.2]; exact (show 8 + (mNL (miB 131) + 11) + (rmN 131).locals ≤ (rmN 71).locals by decide), by rw [E.2.2.2]; exact (show 0 + (rmN 131).cells ≤ (rmN 71).cells by decide), by rw [E.2.2.2]; exact (show 0 + (rmN 131).slots ≤ (rmN 71).slots by decide)⟩ (Nat.le_of_ble_eq_true rfl) (fun vv s8 hq => ?_) (fun ee s8 hq => ?_)
  rotate_left
  · obtain ⟨Is8, Fs8, e9, hv, hrs8, hps8⟩ := hq; cases hv
  obtain ⟨Is8, Fs8, e9, hv, hrs8, hps8⟩ := hq
  cases hv
  have Gs8 := fm_ts F Fs8 (by decide) (by decide)
  have ws8_2 : iI s8 2 = iI s 2 := fm_i Fs8 (by decide)
  have ws8_1 : iI s8 1 = iI s 1 := fm_i Fs8 (by decide)
  have ws8_4 : iI s8 4 = iI s 4 := fm_i Fs8 (by decide)
  have ws8_5 : iI s8 5 = iI s 5 := fm_i Fs8 (by decide)
  have ws8_6 : iI s8 6 = iI s 6 := fm_i Fs8 (by decide)
  have ws8_19 : iI s8 19 = iI s 19 := fm_i Fs8 (by decide)
  have ws8_16 : iI s8 16 = iI s 16 := fm_i Fs8 (by decide)
  show WS k 9 [(0, .ref (A 19)), (1, .int (Int32.ofInt x))] [.int (Int32.ofInt e9)] (Wd A dT s8) 0 0
  refine z_store_n X (lv' := [(2, .int (Int32.ofInt e9)), (0, .ref (A 19)), (1, .int (Int32.ofInt x))]) (show cdA 71 9 = some (.istore_n 2, 1, 0, 0, 0) from rfl) (by decide) (fun _ h => h) ?_
  refine z_load_n X (x := e9) (show cdA 71 10 = some (.iload_n 2, 1, 0, 0, 0) from rfl) (List.Mem.head _) ?_
  refine z_if_ne X (t := 35) (show cdA 71 11 = some (.ifCond .ne 24, 3, 1, 0, 0) from rfl) (by decide) hrs8 (fun g10 => ?_) (fun g10 => ?_)
  ·
    refine z_load_n X (x := x) (show cdA 71 35 = some (.iload_n 1, 1, 0, 0, 0) from rfl) (List.Mem.tail _ (List.Mem.tail _ (List.Mem.head _))) ?_
    refine z_bipush X (show cdA 71 36 = some (.bipush 8, 2, 0, 0, 8) from rfl) ?_
    refine z_icmp_lt X (t := 50) (show cdA 71 38 = some (.if_icmp .lt 12, 3, 2, 0, 0) from rfl) (by decide) ⟨by first | exact oq_fa4e5087 p0.1 | omega, by first | exact oq_d3f5d874 p0.2 | omega⟩ (by decide) (fun g11 => ?_) (fun g11 => ?_)
    ·
      refine z_aload_n X (x := A 19) (show cdA 71 50 = some (.aload_n 0, 1, 0, 0, 0) from rfl) (List.Mem.tail _ (List.Mem.head _)) ?_
      refine s_getR X 19 (show cdA 71 51 = some (.getfield 31, 3, 7, 0, 0) from rfl) (by decide) rfl rfl ?_
      refine z_callV X 1 (rm := rmN 129) (As := []) (st := []) (show cdA 71 54 = some (.invokevirtual 85, 3, 129, 0, 0) from rfl) rfl (by decide) rfl (by rw [E.1, E.2.1, E.2.2.1]; exact c10_step_1 G Is8 (by first | exact oq_e7b9ecab ws8_1 ws8_2 p1 | omega)) ⟨by rw [E.2.2.2]; exact (show (rmN 129).frames + 1 ≤ (rmN 71).frames by decide), by rw [E.2.2.2]; exact (show 8 + (mNL (miB 129) + 11) + (rmN 129).locals ≤ (rmN 71).locals by decide), by rw [E.2.2.2]; exact (show 0 + (rmN 129).cells ≤ (rmN 71).cells by decide), by rw [E.2.2.2]; exact (show 0 + (rmN 129).slots ≤ (rmN 71).slots by decide)⟩ (Nat.le_of_ble_eq_true rfl) (fun vv s12 hq => ?_) (fun ee s12 hq => ?_)
      rotate_left
      · obtain ⟨Is12, Fs12, hv, hps12⟩ := hq; cases hv
      obtain ⟨Is12, Fs12, hv, hps12⟩ := hq
      cases hv
      have Gs12 := fm_ts Gs8 Fs12 (by decide) (by decide)
      have b14 : (0 : Int) ≤ iI s12 2 ∧ iI s12 2 ≤ 200 := Is12.1 2
      have ws12_1 : iI s12 1 = iI s8 1 := fm_i Fs12 (by decide)
      have b15 : (0 : Int) ≤ iI s12 4 ∧ iI s12 4 ≤ 200 := Is12.1 4
      have b16 : ((-3) : Int) ≤ iI s12 5 ∧ iI s12 5 ≤ 255 := Is12.1 5
      have b17 : (0 : Int) ≤ iI s12 6 ∧ iI s12 6 ≤ 100000 := Is12.1 6
      have ws12_19 : iI s12 19 = iI s8 19 := fm_i Fs12 (by decide)
      have ws12_16 : iI s12 16 = iI s8 16 := fm_i Fs12 (by decide)
      show WS k 57 [(2, .int (Int32.ofInt e9)), (0, .ref (A 19)), (1, .int (Int32.ofInt x))] [] (Wd A dT s12) 0 0
      refine z_load_n X (x := e9) (show cdA 71 57 = some (.iload_n 2, 1, 0, 0, 0) from rfl) (List.Mem.head _) ?_
      refine z_if_eq X (t := 71) (show cdA 71 58 = some (.ifCond .eq 13, 3, 0, 0, 0) from rfl) (by decide) hrs8 (fun g18 => ?_) (fun g18 => ?_)
      ·
        refine z_aload_n X (x := A 19) (show cdA 71 71 = some (.aload_n 0, 1, 0, 0, 0) from rfl) (List.Mem.tail _ (List.Mem.head _)) ?_
        refine z_callV X 19 (rm := (rkR (32 + 3 * (7) + 2))) (As := []) (st := []) (show cdA 71 72 = some (.invokevirtual 92, 3, 72, 0, 0) from rfl) rfl (by decide) rfl (by rw [E.1, E.2.1, E.2.2.1]; exact (c7_eithr G SF GT 7).2.2 Is12 (by first | exact hps12.1 | omega) (by first | exact hps12.2 | omega) (by first | exact oq_7d321bf4 ws12_19 ws8_19 b6.1 | omega)) ⟨by rw [E.2.2.2]; exact (show (12 + (32 + 3 * (7) + 2)) + 1 ≤ 68 from oq_2af1bc43), by rw [E.2.2.2]; exact (show 8 + (2 + 11) + (500 + 45 * (32 + 3 * (7) + 2)) ≤ 2996 from oq_3d00aaab), by rw [E.2.2.2]; exact Nat.le_refl 0, by rw [E.2.2.2]; exact Nat.le_refl 0⟩ (Nat.le_of_ble_eq_true rfl) (fun vv s19 hq => ?_) (fun ee s19 hq => ?_)
        rotate_left
        · obtain ⟨Is19, Fs19, e20, hv, hrs19, hps19⟩ := hq; cases hv
        obtain ⟨Is19, Fs19, e20, hv, hrs19, hps19⟩ := hq
        cases hv
        have Gs19 := fm_ts Gs12 Fs19 (by decide) (by decide)
        have b21 : (0 : Int) ≤ iI s19 2 ∧ iI s19 2 ≤ 200 := Is19.1 2
        have ws19_1 : iI s19 1 = iI s12 1 := fm_i Fs19 (by decide)
        have b22 : (0 : Int) ≤ iI s19 4 ∧ iI s19 4 ≤ 200 := Is19.1 4
        have b23 : ((-3) : Int) ≤ iI s19 5 ∧ iI s19 5 ≤ 255 := Is19.1 5
        have b24 : (0 : Int) ≤ iI s19 6 ∧ iI s19 6 ≤ 100000 := Is19.1 6
        have b25 : (0 : Int) ≤ iI s19 19 ∧ iI s19 19 ≤ 6 := Is19.1 19
        have b26 : (0 : Int) ≤ iI s19 16 ∧ iI s19 16 ≤ 200 := Is19.1 16
        show WS k 75 [(2, .int (Int32.ofInt e9)), (0, .ref (A 19)), (1, .int (Int32.ofInt x))] [.int (Int32.ofInt e20)] (Wd A dT s19) 0 0
        refine z_if_ne X (t := 80) (show cdA 71 75 = some (.ifCond .ne 5, 3, 1, 0, 0) from rfl) (by decide) hrs19 (fun g27 => ?_) (fun g27 => ?_)
        ·
          refine z_aload_n X (x := A 19) (show cdA 71 80 = some (.aload_n 0, 1, 0, 0, 0) from rfl) (List.Mem.tail _ (List.Mem.head _)) ?_
          refine z_bipush X (show cdA 71 81 = some (.bipush 59, 2, 0, 0, 59) from rfl) ?_
          refine z_callV X 19 (rm := rmN 81) (As := [.int (Int32.ofInt 59)]) (st := []) (show cdA 71 83 = some (.invokevirtual 95, 3, 81, 0, 0) from rfl) rfl (by decide) rfl (by rw [E.1, E.2.1, E.2.2.1]; exact c7_pass_19 G Is19 (by first | exact ⟨by decide, by decide⟩ | omega) (by first | exact oq_8a3fdbff g18 g10 | omega) (by first | exact oq_8a3fdbff g18 g10 | omega)) ⟨by rw [E.2.2.2]; exact (show (rmN 81).frames + 1 ≤ (rmN 71).frames by decide), by rw [E.2.2.2]; exact (show 8 + (mNL (miB 81) + 11) + (rmN 81).locals ≤ (rmN 71).locals by decide), by rw [E.2.2.2]; exact (show 0 + (rmN 81).cells ≤ (rmN 71).cells by decide), by rw [E.2.2.2]; exact (show 0 + (rmN 81).slots ≤ (rmN 71).slots by decide)⟩ (Nat.le_of_ble_eq_true rfl) (fun vv s28 hq => ?_) (fun ee s28 hq => ?_)
          rotate_left
          · obtain ⟨Is28, Fs28, e29, hv, hrs28, hps28⟩ := hq; cases hv
          obtain ⟨Is28, Fs28, e29, hv, hrs28, hps28⟩ := hq
          cases hv
          have Gs28 := fm_ts Gs19 Fs28 (by decide) (by decide)
          have b30 : (0 : Int) ≤ iI s28 2 ∧ iI s28 2 ≤ 200 := Is28.1 2
          have ws28_1 : iI s28 1 = iI s19 1 := fm_i Fs28 (by decide)
          have b31 : (0 : Int) ≤ iI s28 4 ∧ iI s28 4 ≤ 200 := Is28.1 4
          have b32 : ((-3) : Int) ≤ iI s28 5 ∧ iI s28 5 ≤ 255 := Is28.1 5
          have b33 : (0 : Int) ≤ iI s28 6 ∧ iI s28 6 ≤ 100000 := Is28.1 6
          have ws28_19 : iI s28 19 = iI s19 19 := fm_i Fs28 (by decide)
          have ws28_16 : iI s28 16 = iI s19 16 := fm_i Fs28 (by decide)
          show WS k 86 [(2, .int (Int32.ofInt e9)), (0, .ref (A 19)), (1, .int (Int32.ofInt x))] [.int (Int32.ofInt e29)] (Wd A dT s28) 0 0
          refine z_if_ne X (t := 91) (show cdA 71 86 = some (.ifCond .ne 5, 3, 1, 0, 0) from rfl) (by decide) hrs28 (fun g34 => ?_) (fun g34 => ?_)
          ·
            refine z_aload_n X (x := A 19) (show cdA 71 91 = some (.aload_n 0, 1, 0, 0, 0) from rfl) (List.Mem.tail _ (List.Mem.head _)) ?_
            refine s_getR X 19 (show cdA 71 92 = some (.getfield 25, 3, 7, 8, 0) from rfl) (by decide) rfl rfl ?_
            refine z_load_n X (x := x) (show cdA 71 95 = some (.iload_n 1, 1, 0, 0, 0) from rfl) (List.Mem.tail _ (List.Mem.tail _ (List.Mem.head _))) ?_
            refine z_aload_n X (x := A 19) (show cdA 71 96 = some (.aload_n 0, 1, 0, 0, 0) from rfl) (List.Mem.tail _ (List.Mem.head _)) ?_
            refine z_getI X 19 (show cdA 71 97 = some (.getfield 35, 3, 7, 9, 0) from rfl) (by decide) rfl rfl ?_
            have b35 : (0 : Int) ≤ iI s28 16 ∧ iI s28 16 ≤ 200 := Is28.1 16
            refine z_ast X 23 (show cdA 71 100 = some (.iastore, 1, 0, 0, 0) from rfl) (by decide) rfl (by first | exact p0.1 | omega) (show x < 8 by first | exact g11 | omega) (by decide) ?_
            obtain ⟨s36, hs36⟩ : ∃ x0, x0 = uC s28 19 (x).toNat (Int32.ofInt (iI s28 16)) := ⟨_, rfl⟩
            rw [← hs36]
            have Is36 : Bd s36 := by rw [hs36]; exact bd_C Is28 (show (0 : Int) ≤ (iI s28 16) ∧ (iI s28 16) ≤ 200 by first | exact ⟨b35.1, b35.2⟩ | omega) (rng_to _)
            have Fs36 := fm_C (i := (x).toNat) (x := Int32.ofInt (iI s28 16)) Gs28 (show 19 ∈ _ by decide)
            rw [← hs36] at Fs36
            have ws36_2 : iI s36 2 = iI s28 2 := by rw [hs36]; rfl
            have ws36_1 : iI s36 1 = iI s28 1 := by rw [hs36]; rfl
            have ws36_4 : iI s36 4 = iI s28 4 := by rw [hs36]; rfl
            have ws36_5 : iI s36 5 = iI s28 5 := by rw [hs36]; rfl
            have ws36_6 : iI s36 6 = iI s28 6 := by rw [hs36]; rfl
            have ws36_19 : iI s36 19 = iI s28 19 := by rw [hs36]; rfl
            have ws36_16 : iI s36 16 = iI s28 16 := by rw [hs36]; rfl
            refine z_load_n X (x := e9) (show cdA 71 101 = some (.iload_n 2, 1, 0, 0, 0) from rfl) (List.Mem.head _) ?_
            refine z_if_eq X (t := 113) (show cdA 71 102 = some (.ifCond .eq 11, 3, 0, 0, 0) from rfl) (by decide) hrs8 (fun g37 => ?_) (fun g37 => ?_)
            ·
              refine z_aload_n X (x := A 19) (show cdA 71 113 = some (.aload_n 0, 1, 0, 0, 0) from rfl) (List.Mem.tail _ (List.Mem.head _)) ?_
              refine w_dup X.1 (ax_d X (show cdA 71 114 = some (.dup, 1, 0, 0, 0) from rfl)) rfl ?_
              refine z_getI X 19 (show cdA 71 115 = some (.getfield 41, 3, 7, 11, 0) from rfl) (by decide) rfl rfl ?_
              have b38 : ((-2147483648) : Int) ≤ iI s36 18 ∧ iI s36 18 ≤ 2147483647 := Is36.1 18
              refine z_const X (show cdA 71 118 = some (.iconst 1, 1, 0, 0, 0) from rfl) ?_
              refine z_load_n X (x := x) (show cdA 71 119 = some (.iload_n 1, 1, 0, 0, 0) from rfl) (List.Mem.tail _ (List.Mem.tail _ (List.Mem.head _))) ?_
              refine z_bshl X (show cdA 71 120 = some (.ishl, 1, 0, 0, 0) from rfl) ?_
              refine z_any (fun y39 hy39 => ?_)
              refine z_bor X (show cdA 71 121 = some (.ior, 1, 0, 0, 0) from rfl) ?_
              refine z_any (fun y40 hy40 => ?_)
              refine s_putI X 19 (show cdA 71 122 = some (.putfield 41, 3, 7, 11, 0) from rfl) (by decide) rfl rfl (by decide) rfl rfl rfl ?_
              obtain ⟨s41, hs41⟩ : ∃ x0, x0 = uI s36 18 (Int32.ofInt y40) := ⟨_, rfl⟩
              rw [← hs41]
              have Is41 : Bd s41 := by rw [hs41]; exact bd_I Is36 (show ((-2147483648) : Int) ≤ y40 ∧ y40 ≤ 2147483647 by first | exact ⟨hy40.1, hy40.2⟩ | omega) hy40
              have Fs41 := fm_I (x := Int32.ofInt y40) Fs36 (show 18 ∈ _ by decide)
              rw [← hs41] at Fs41
              have vs41 : iI s41 18 = y40 := by rw [hs41]; exact iI_u hy40
              have ws41_2 : iI s41 2 = iI s36 2 := by rw [hs41]; rfl
              have ws41_1 : iI s41 1 = iI s36 1 := by rw [hs41]; rfl
              have ws41_4 : iI s41 4 = iI s36 4 := by rw [hs41]; rfl
              have ws41_5 : iI s41 5 = iI s36 5 := by rw [hs41]; rfl
              have ws41_6 : iI s41 6 = iI s36 6 := by rw [hs41]; rfl
              have ws41_19 : iI s41 19 = iI s36 19 := by rw [hs41]; rfl
              have ws41_16 : iI s41 16 = iI s36 16 := by rw [hs41]; rfl
              refine z_const X (show cdA 71 125 = some (.iconst 1, 1, 0, 0, 0) from rfl) ?_
              exact w_iret X.1 q hRt (nar_ret (by first | exact Or.inr (by decide) | omega)) (ax_d X (show cdA 71 126 = some (.ireturn, 1, 0, 0, 0) from rfl)) (Nat.zero_le _) (Nat.zero_le _) ⟨_, rfl, Is41, Fs41, 1, rfl, (by decide), by first | exact ⟨Or.inr (by decide), oq_4407eb3c ws41_1 ws41_2 ws36_1 ws36_2 hps28.2.1, oq_4407eb3c ws41_2 ws41_4 ws36_2 ws36_4 hps28.2.2⟩ | omega⟩
            ·
              refine z_aload_n X (x := A 19) (show cdA 71 105 = some (.aload_n 0, 1, 0, 0, 0) from rfl) (List.Mem.tail _ (List.Mem.head _)) ?_
              refine z_load_n X (x := x) (show cdA 71 106 = some (.iload_n 1, 1, 0, 0, 0) from rfl) (List.Mem.tail _ (List.Mem.tail _ (List.Mem.head _))) ?_
              refine s_putI X 19 (show cdA 71 107 = some (.putfield 38, 3, 7, 10, 0) from rfl) (by decide) rfl rfl (by decide) rfl rfl rfl ?_
              obtain ⟨s42, hs42⟩ : ∃ x0, x0 = uI s36 17 (Int32.ofInt x) := ⟨_, rfl⟩
              rw [← hs42]
              have Is42 : Bd s42 := by rw [hs42]; exact bd_I Is36 (show ((-1) : Int) ≤ x ∧ x ≤ 7 by first | exact ⟨oq_ca54ea22 p0.1, oq_78c639ed g11⟩ | omega) ⟨by first | exact oq_fa4e5087 p0.1 | omega, by first | exact oq_7bea7075 g11 | omega⟩
              have Fs42 := fm_I (x := Int32.ofInt x) Fs36 (show 17 ∈ _ by decide)
              rw [← hs42] at Fs42
              have vs42 : iI s42 17 = x := by rw [hs42]; exact iI_u ⟨by first | exact oq_fa4e5087 p0.1 | omega, by first | exact oq_7bea7075 g11 | omega⟩
              have ws42_2 : iI s42 2 = iI s36 2 := by rw [hs42]; rfl
              have ws42_1 : iI s42 1 = iI s36 1 := by rw [hs42]; rfl
              have ws42_4 : iI s42 4 = iI s36 4 := by rw [hs42]; rfl
              have ws42_5 : iI s42 5 = iI s36 5 := by rw [hs42]; rfl
              have ws42_6 : iI s42 6 = iI s36 6 := by rw [hs42]; rfl
              have ws42_19 : iI s42 19 = iI s36 19 := by rw [hs42]; rfl
              have ws42_16 : iI s42 16 = iI s36 16 := by rw [hs42]; rfl
              refine z_goto X (t := 125) (show cdA 71 110 = some (.goto 15, 3, 0, 0, 0) from rfl) (by decide) ?_
              refine z_const X (show cdA 71 125 = some (.iconst 1, 1, 0, 0, 0) from rfl) ?_
              exact w_iret X.1 q hRt (nar_ret (by first | exact Or.inr (by decide) | omega)) (ax_d X (show cdA 71 126 = some (.ireturn, 1, 0, 0, 0) from rfl)) (Nat.zero_le _) (Nat.zero_le _) ⟨_, rfl, Is42, Fs42, 1, rfl, (by decide), by first | exact ⟨Or.inr (by decide), oq_4407eb3c ws42_1 ws42_2 ws36_1 ws36_2 hps28.2.1, oq_4407eb3c ws42_2 ws42_4 ws36_2 ws36_4 hps28.2.2⟩ | omega⟩
          ·
            refine z_const X (show cdA 71 89 = some (.iconst 0, 1, 0, 0, 0) from rfl) ?_
            exact w_iret X.1 q hRt (nar_ret (by first | exact Or.inl (by decide) | omega)) (ax_d X (show cdA 71 90 = some (.ireturn, 1, 0, 0, 0) from rfl)) (Nat.zero_le _) (Nat.zero_le _) ⟨_, rfl, Is28, Gs28, 0, rfl, (by decide), by first | exact ⟨Or.inl (by decide), hps28.2.1, hps28.2.2⟩ | omega⟩
        ·
          refine z_const X (show cdA 71 78 = some (.iconst 0, 1, 0, 0, 0) from rfl) ?_
          exact w_iret X.1 q hRt (nar_ret (by first | exact Or.inl (by decide) | omega)) (ax_d X (show cdA 71 79 = some (.ireturn, 1, 0, 0, 0) from rfl)) (Nat.zero_le _) (Nat.zero_le _) ⟨_, rfl, Is19, Gs19, 0, rfl, (by decide), by first | exact ⟨Or.inl (by decide), oq_8a3fdbff g18 g10, oq_8a3fdbff g18 g10⟩ | omega⟩
      ·
        refine z_aload_n X (x := A 19) (show cdA 71 61 = some (.aload_n 0, 1, 0, 0, 0) from rfl) (List.Mem.tail _ (List.Mem.head _)) ?_
        refine z_callV X 19 (rm := (rkR (4 * (7) + 3))) (As := []) (st := []) (show cdA 71 62 = some (.invokevirtual 88, 3, 75, 0, 0) from rfl) rfl (by decide) rfl (by rw [E.1, E.2.1, E.2.2.1]; exact (c7_sumr G SF GT 7).2.2.2 Is12 (by first | exact hps12.1 | omega) (by first | exact hps12.2 | omega) (by first | exact oq_7d321bf4 ws12_19 ws8_19 b6.1 | omega)) ⟨by rw [E.2.2.2]; exact (show (12 + (4 * (7) + 3)) + 1 ≤ 68 from oq_4cedc687), by rw [E.2.2.2]; exact (show 8 + (3 + 11) + (500 + 45 * (4 * (7) + 3)) ≤ 2996 from oq_b0ed7f34), by rw [E.2.2.2]; exact Nat.le_refl 0, by rw [E.2.2.2]; exact Nat.le_refl 0⟩ (Nat.le_of_ble_eq_true rfl) (fun vv s43 hq => ?_) (fun ee s43 hq => ?_)
        rotate_left
        · obtain ⟨Is43, Fs43, e44, hv, hrs43, hps43⟩ := hq; cases hv
        obtain ⟨Is43, Fs43, e44, hv, hrs43, hps43⟩ := hq
        cases hv
        have Gs43 := fm_ts Gs12 Fs43 (by decide) (by decide)
        have b45 : (0 : Int) ≤ iI s43 2 ∧ iI s43 2 ≤ 200 := Is43.1 2
        have ws43_1 : iI s43 1 = iI s12 1 := fm_i Fs43 (by decide)
        have b46 : (0 : Int) ≤ iI s43 4 ∧ iI s43 4 ≤ 200 := Is43.1 4
        have b47 : ((-3) : Int) ≤ iI s43 5 ∧ iI s43 5 ≤ 255 := Is43.1 5
        have b48 : (0 : Int) ≤ iI s43 6 ∧ iI s43 6 ≤ 100000 := Is43.1 6
        have b49 : (0 : Int) ≤ iI s43 19 ∧ iI s43 19 ≤ 6 := Is43.1 19
        have b50 : (0 : Int) ≤ iI s43 16 ∧ iI s43 16 ≤ 200 := Is43.1 16
        show WS k 65 [(2, .int (Int32.ofInt e9)), (0, .ref (A 19)), (1, .int (Int32.ofInt x))] [.int (Int32.ofInt e44)] (Wd A dT s43) 0 0
        refine z_if_ne X (t := 80) (show cdA 71 65 = some (.ifCond .ne 15, 3, 1, 0, 0) from rfl) (by decide) hrs43 (fun g51 => ?_) (fun g51 => ?_)
        ·
          refine z_aload_n X (x := A 19) (show cdA 71 80 = some (.aload_n 0, 1, 0, 0, 0) from rfl) (List.Mem.tail _ (List.Mem.head _)) ?_
          refine z_bipush X (show cdA 71 81 = some (.bipush 59, 2, 0, 0, 59) from rfl) ?_
          refine z_callV X 19 (rm := rmN 81) (As := [.int (Int32.ofInt 59)]) (st := []) (show cdA 71 83 = some (.invokevirtual 95, 3, 81, 0, 0) from rfl) rfl (by decide) rfl (by rw [E.1, E.2.1, E.2.2.1]; exact c7_pass_19 G Is43 (by first | exact ⟨by decide, by decide⟩ | omega) (by omega) (by omega)) ⟨by rw [E.2.2.2]; exact (show (rmN 81).frames + 1 ≤ (rmN 71).frames by decide), by rw [E.2.2.2]; exact (show 8 + (mNL (miB 81) + 11) + (rmN 81).locals ≤ (rmN 71).locals by decide), by rw [E.2.2.2]; exact (show 0 + (rmN 81).cells ≤ (rmN 71).cells by decide), by rw [E.2.2.2]; exact (show 0 + (rmN 81).slots ≤ (rmN 71).slots by decide)⟩ (Nat.le_of_ble_eq_true rfl) (fun vv s52 hq => ?_) (fun ee s52 hq => ?_)
          rotate_left
          · obtain ⟨Is52, Fs52, e53, hv, hrs52, hps52⟩ := hq; cases hv
          obtain ⟨Is52, Fs52, e53, hv, hrs52, hps52⟩ := hq
          cases hv
          have Gs52 := fm_ts Gs43 Fs52 (by decide) (by decide)
          have b54 : (0 : Int) ≤ iI s52 2 ∧ iI s52 2 ≤ 200 := Is52.1 2
          have ws52_1 : iI s52 1 = iI s43 1 := fm_i Fs52 (by decide)
          have b55 : (0 : Int) ≤ iI s52 4 ∧ iI s52 4 ≤ 200 := Is52.1 4
          have b56 : ((-3) : Int) ≤ iI s52 5 ∧ iI s52 5 ≤ 255 := Is52.1 5
          have b57 : (0 : Int) ≤ iI s52 6 ∧ iI s52 6 ≤ 100000 := Is52.1 6
          have ws52_19 : iI s52 19 = iI s43 19 := fm_i Fs52 (by decide)
          have ws52_16 : iI s52 16 = iI s43 16 := fm_i Fs52 (by decide)
          show WS k 86 [(2, .int (Int32.ofInt e9)), (0, .ref (A 19)), (1, .int (Int32.ofInt x))] [.int (Int32.ofInt e53)] (Wd A dT s52) 0 0
          refine z_if_ne X (t := 91) (show cdA 71 86 = some (.ifCond .ne 5, 3, 1, 0, 0) from rfl) (by decide) hrs52 (fun g58 => ?_) (fun g58 => ?_)
          ·
            refine z_aload_n X (x := A 19) (show cdA 71 91 = some (.aload_n 0, 1, 0, 0, 0) from rfl) (List.Mem.tail _ (List.Mem.head _)) ?_
            refine s_getR X 19 (show cdA 71 92 = some (.getfield 25, 3, 7, 8, 0) from rfl) (by decide) rfl rfl ?_
            refine z_load_n X (x := x) (show cdA 71 95 = some (.iload_n 1, 1, 0, 0, 0) from rfl) (List.Mem.tail _ (List.Mem.tail _ (List.Mem.head _))) ?_
            refine z_aload_n X (x := A 19) (show cdA 71 96 = some (.aload_n 0, 1, 0, 0, 0) from rfl) (List.Mem.tail _ (List.Mem.head _)) ?_
            refine z_getI X 19 (show cdA 71 97 = some (.getfield 35, 3, 7, 9, 0) from rfl) (by decide) rfl rfl ?_
            have b59 : (0 : Int) ≤ iI s52 16 ∧ iI s52 16 ≤ 200 := Is52.1 16
            refine z_ast X 23 (show cdA 71 100 = some (.iastore, 1, 0, 0, 0) from rfl) (by decide) rfl (by first | exact p0.1 | omega) (show x < 8 by first | exact g11 | omega) (by decide) ?_
            obtain ⟨s60, hs60⟩ : ∃ x0, x0 = uC s52 19 (x).toNat (Int32.ofInt (iI s52 16)) := ⟨_, rfl⟩
            rw [← hs60]
            have Is60 : Bd s60 := by rw [hs60]; exact bd_C Is52 (show (0 : Int) ≤ (iI s52 16) ∧ (iI s52 16) ≤ 200 by first | exact ⟨b59.1, b59.2⟩ | omega) (rng_to _)
            have Fs60 := fm_C (i := (x).toNat) (x := Int32.ofInt (iI s52 16)) Gs52 (show 19 ∈ _ by decide)
            rw [← hs60] at Fs60
            have ws60_2 : iI s60 2 = iI s52 2 := by rw [hs60]; rfl
            have ws60_1 : iI s60 1 = iI s52 1 := by rw [hs60]; rfl
            have ws60_4 : iI s60 4 = iI s52 4 := by rw [hs60]; rfl
            have ws60_5 : iI s60 5 = iI s52 5 := by rw [hs60]; rfl
            have ws60_6 : iI s60 6 = iI s52 6 := by rw [hs60]; rfl
            have ws60_19 : iI s60 19 = iI s52 19 := by rw [hs60]; rfl
            have ws60_16 : iI s60 16 = iI s52 16 := by rw [hs60]; rfl
            refine z_load_n X (x := e9) (show cdA 71 101 = some (.iload_n 2, 1, 0, 0, 0) from rfl) (List.Mem.head _) ?_
            refine z_if_eq X (t := 113) (show cdA 71 102 = some (.ifCond .eq 11, 3, 0, 0, 0) from rfl) (by decide) hrs8 (fun g61 => ?_) (fun g61 => ?_)
            ·
              refine z_aload_n X (x := A 19) (show cdA 71 113 = some (.aload_n 0, 1, 0, 0, 0) from rfl) (List.Mem.tail _ (List.Mem.head _)) ?_
              refine w_dup X.1 (ax_d X (show cdA 71 114 = some (.dup, 1, 0, 0, 0) from rfl)) rfl ?_
              refine z_getI X 19 (show cdA 71 115 = some (.getfield 41, 3, 7, 11, 0) from rfl) (by decide) rfl rfl ?_
              have b62 : ((-2147483648) : Int) ≤ iI s60 18 ∧ iI s60 18 ≤ 2147483647 := Is60.1 18
              refine z_const X (show cdA 71 118 = some (.iconst 1, 1, 0, 0, 0) from rfl) ?_
              refine z_load_n X (x := x) (show cdA 71 119 = some (.iload_n 1, 1, 0, 0, 0) from rfl) (List.Mem.tail _ (List.Mem.tail _ (List.Mem.head _))) ?_
              refine z_bshl X (show cdA 71 120 = some (.ishl, 1, 0, 0, 0) from rfl) ?_
              refine z_any (fun y63 hy63 => ?_)
              refine z_bor X (show cdA 71 121 = some (.ior, 1, 0, 0, 0) from rfl) ?_
              refine z_any (fun y64 hy64 => ?_)
              refine s_putI X 19 (show cdA 71 122 = some (.putfield 41, 3, 7, 11, 0) from rfl) (by decide) rfl rfl (by decide) rfl rfl rfl ?_
              obtain ⟨s65, hs65⟩ : ∃ x0, x0 = uI s60 18 (Int32.ofInt y64) := ⟨_, rfl⟩
              rw [← hs65]
              have Is65 : Bd s65 := by rw [hs65]; exact bd_I Is60 (show ((-2147483648) : Int) ≤ y64 ∧ y64 ≤ 2147483647 by first | exact ⟨hy64.1, hy64.2⟩ | omega) hy64
              have Fs65 := fm_I (x := Int32.ofInt y64) Fs60 (show 18 ∈ _ by decide)
              rw [← hs65] at Fs65
              have vs65 : iI s65 18 = y64 := by rw [hs65]; exact iI_u hy64
              have ws65_2 : iI s65 2 = iI s60 2 := by rw [hs65]; rfl
              have ws65_1 : iI s65 1 = iI s60 1 := by rw [hs65]; rfl
              have ws65_4 : iI s65 4 = iI s60 4 := by rw [hs65]; rfl
              have ws65_5 : iI s65 5 = iI s60 5 := by rw [hs65]; rfl
              have ws65_6 : iI s65 6 = iI s60 6 := by rw [hs65]; rfl
              have ws65_19 : iI s65 19 = iI s60 19 := by rw [hs65]; rfl
              have ws65_16 : iI s65 16 = iI s60 16 := by rw [hs65]; rfl
              refine z_const X (show cdA 71 125 = some (.iconst 1, 1, 0, 0, 0) from rfl) ?_
              exact w_iret X.1 q hRt (nar_ret (by first | exact Or.inr (by decide) | omega)) (ax_d X (show cdA 71 126 = some (.ireturn, 1, 0, 0, 0) from rfl)) (Nat.zero_le _) (Nat.zero_le _) ⟨_, rfl, Is65, Fs65, 1, rfl, (by decide), by first | exact ⟨Or.inr (by decide), oq_4407eb3c ws65_1 ws65_2 ws60_1 ws60_2 hps52.2.1, oq_4407eb3c ws65_2 ws65_4 ws60_2 ws60_4 hps52.2.2⟩ | omega⟩
            ·
              refine z_aload_n X (x := A 19) (show cdA 71 105 = some (.aload_n 0, 1, 0, 0, 0) from rfl) (List.Mem.tail _ (List.Mem.head _)) ?_
              refine z_load_n X (x := x) (show cdA 71 106 = some (.iload_n 1, 1, 0, 0, 0) from rfl) (List.Mem.tail _ (List.Mem.tail _ (List.Mem.head _))) ?_
              refine s_putI X 19 (show cdA 71 107 = some (.putfield 38, 3, 7, 10, 0) from rfl) (by decide) rfl rfl (by decide) rfl rfl rfl ?_
              obtain ⟨s66, hs66⟩ : ∃ x0, x0 = uI s60 17 (Int32.ofInt x) := ⟨_, rfl⟩
              rw [← hs66]
              have Is66 : Bd s66 := by rw [hs66]; exact bd_I Is60 (show ((-1) : Int) ≤ x ∧ x ≤ 7 by first | exact ⟨oq_ca54ea22 p0.1, oq_78c639ed g11⟩ | omega) ⟨by first | exact oq_fa4e5087 p0.1 | omega, by first | exact oq_7bea7075 g11 | omega⟩
              have Fs66 := fm_I (x := Int32.ofInt x) Fs60 (show 17 ∈ _ by decide)
              rw [← hs66] at Fs66
              have vs66 : iI s66 17 = x := by rw [hs66]; exact iI_u ⟨by first | exact oq_fa4e5087 p0.1 | omega, by first | exact oq_7bea7075 g11 | omega⟩
              have ws66_2 : iI s66 2 = iI s60 2 := by rw [hs66]; rfl
              have ws66_1 : iI s66 1 = iI s60 1 := by rw [hs66]; rfl
              have ws66_4 : iI s66 4 = iI s60 4 := by rw [hs66]; rfl
              have ws66_5 : iI s66 5 = iI s60 5 := by rw [hs66]; rfl
              have ws66_6 : iI s66 6 = iI s60 6 := by rw [hs66]; rfl
              have ws66_19 : iI s66 19 = iI s60 19 := by rw [hs66]; rfl
              have ws66_16 : iI s66 16 = iI s60 16 := by rw [hs66]; rfl
              refine z_goto X (t := 125) (show cdA 71 110 = some (.goto 15, 3, 0, 0, 0) from rfl) (by decide) ?_
              refine z_const X (show cdA 71 125 = some (.iconst 1, 1, 0, 0, 0) from rfl) ?_
              exact w_iret X.1 q hRt (nar_ret (by first | exact Or.inr (by decide) | omega)) (ax_d X (show cdA 71 126 = some (.ireturn, 1, 0, 0, 0) from rfl)) (Nat.zero_le _) (Nat.zero_le _) ⟨_, rfl, Is66, Fs66, 1, rfl, (by decide), by first | exact ⟨Or.inr (by decide), oq_4407eb3c ws66_1 ws66_2 ws60_1 ws60_2 hps52.2.1, oq_4407eb3c ws66_2 ws66_4 ws60_2 ws60_4 hps52.2.2⟩ | omega⟩
          ·
            refine z_const X (show cdA 71 89 = some (.iconst 0, 1, 0, 0, 0) from rfl) ?_
            exact w_iret X.1 q hRt (nar_ret (by first | exact Or.inl (by decide) | omega)) (ax_d X (show cdA 71 90 = some (.ireturn, 1, 0, 0, 0) from rfl)) (Nat.zero_le _) (Nat.zero_le _) ⟨_, rfl, Is52, Gs52, 0, rfl, (by decide), by first | exact ⟨Or.inl (by decide), hps52.2.1, hps52.2.2⟩ | omega⟩
        ·
          refine z_goto X (t := 78) (show cdA 71 68 = some (.goto 10, 3, 0, 0, 0) from rfl) (by decide) ?_
          refine z_const X (show cdA 71 78 = some (.iconst 0, 1, 0, 0, 0) from rfl) ?_
          exact w_iret X.1 q hRt (nar_ret (by first | exact Or.inl (by decide) | omega)) (ax_d X (show cdA 71 79 = some (.ireturn, 1, 0, 0, 0) from rfl)) (Nat.zero_le _) (Nat.zero_le _) ⟨_, rfl, Is43, Gs43, 0, rfl, (by decide), by first | exact ⟨Or.inl (by decide), by omega, by omega⟩ | omega⟩
    ·
      refine z_aload_n X (x := A 19) (show cdA 71 41 = some (.aload_n 0, 1, 0, 0, 0) from rfl) (List.Mem.tail _ (List.Mem.head _)) ?_
      refine s_getR X 19 (show cdA 71 42 = some (.getfield 31, 3, 7, 0, 0) from rfl) (by decide) rfl rfl ?_
      refine z_const X (show cdA 71 45 = some (.iconst 3, 1, 0, 0, 0) from rfl) ?_
      refine z_callV X 1 (rm := rmN 132) (As := [.int (Int32.ofInt 3)]) (st := []) (show cdA 71 46 = some (.invokevirtual 82, 3, 132, 0, 0) from rfl) rfl (by decide) rfl (by rw [E.1, E.2.1, E.2.2.1]; exact c10_refuse_1 G Is8 (by first | exact ⟨by decide, by decide⟩ | omega)) ⟨by rw [E.2.2.2]; exact (show (rmN 132).frames + 1 ≤ (rmN 71).frames by decide), by rw [E.2.2.2]; exact (show 8 + (mNL (miB 132) + 11) + (rmN 132).locals ≤ (rmN 71).locals by decide), by rw [E.2.2.2]; exact (show 0 + (rmN 132).cells ≤ (rmN 71).cells by decide), by rw [E.2.2.2]; exact (show 0 + (rmN 132).slots ≤ (rmN 71).slots by decide)⟩ (Nat.le_of_ble_eq_true rfl) (fun vv s67 hq => ?_) (fun ee s67 hq => ?_)
      rotate_left
      · obtain ⟨Is67, Fs67, e68, hv, hrs67, hps67⟩ := hq; cases hv
      obtain ⟨Is67, Fs67, e68, hv, hrs67, hps67⟩ := hq
      cases hv
      have Gs67 := fm_ts Gs8 Fs67 (by decide) (by decide)
      have ws67_2 : iI s67 2 = iI s8 2 := fm_i Fs67 (by decide)
      have ws67_1 : iI s67 1 = iI s8 1 := fm_i Fs67 (by decide)
      have ws67_4 : iI s67 4 = iI s8 4 := fm_i Fs67 (by decide)
      have ws67_5 : iI s67 5 = iI s8 5 := fm_i Fs67 (by decide)
      have ws67_6 : iI s67 6 = iI s8 6 := fm_i Fs67 (by decide)
      have ws67_19 : iI s67 19 = iI s8 19 := fm_i Fs67 (by decide)
      have ws67_16 : iI s67 16 = iI s8 16 := fm_i Fs67 (by decide)
      show WS k 49 [(2, .int (Int32.ofInt e9)), (0, .ref (A 19)), (1, .int (Int32.ofInt x))] [.int (Int32.ofInt e68)] (Wd A dT s67) 0 0
      exact w_iret X.1 q hRt (nar_ret (by first | exact Or.inl (hps67) | omega)) (ax_d X (show cdA 71 49 = some (.ireturn, 1, 0, 0, 0) from rfl)) (Nat.zero_le _) (Nat.zero_le _) ⟨_, rfl, Is67, Gs67, e68, rfl, hrs67, by first | exact ⟨Or.inl (hps67), oq_4407eb3c ws67_1 ws67_2 ws8_1 ws8_2 p1, oq_4407eb3c ws67_2 ws67_4 ws8_2 ws8_4 p2⟩ | omega⟩
  ·
    refine z_aload_n X (x := A 19) (show cdA 71 14 = some (.aload_n 0, 1, 0, 0, 0) from rfl) (List.Mem.tail _ (List.Mem.head _)) ?_
    refine s_getR X 19 (show cdA 71 15 = some (.getfield 31, 3, 7, 0, 0) from rfl) (by decide) rfl rfl ?_
    obtain ⟨tx80, q80, hR80, hS80⟩ := GT (80, 4) (by decide)
    refine w_ldcK X (show vk_R (kOwn k) 80 tx80 q80 (kS0 k) by rw [E.2.1, X.2.1.2.1]; exact hR80) (show decode (kCc k) 18 = .ok (.ldc 80, 2) by rw [X.2.1.1]; decide +kernel) ?_
    refine z_callV X 1 (rm := rmN 131) (As := [.ref q80]) (st := []) (show cdA 71 20 = some (.invokevirtual 76, 3, 131, 0, 0) from rfl) rfl (by decide) rfl (by rw [E.1, E.2.1, E.2.2.1]; exact c10_says G SF hS80 Is8 (by first | exact oq_e7b9ecab ws8_2 ws8_4 p2 | omega)) ⟨by rw [E.2.2.2]; exact (show (rmN 131).frames + 1 ≤ (rmN 71).frames by decide), by rw [E.2.2.2]; exact (show 8 + (mNL (miB 131) + 11) + (rmN 131).locals ≤ (rmN 71).locals by decide), by rw [E.2.2.2]; exact (show 0 + (rmN 131).cells ≤ (rmN 71).cells by decide), by rw [E.2.2.2]; exact (show 0 + (rmN 131).slots ≤ (rmN 71).slots by decide)⟩ (Nat.le_of_ble_eq_true rfl) (fun vv s69 hq => ?_) (fun ee s69 hq => ?_)
    rotate_left
    · obtain ⟨Is69, Fs69, e70, hv, hrs69, hps69⟩ := hq; cases hv
    obtain ⟨Is69, Fs69, e70, hv, hrs69, hps69⟩ := hq
    cases hv
    have Gs69 := fm_ts Gs8 Fs69 (by decide) (by decide)
    have ws69_2 : iI s69 2 = iI s8 2 := fm_i Fs69 (by decide)
    have ws69_1 : iI s69 1 = iI s8 1 := fm_i Fs69 (by decide)
    have ws69_4 : iI s69 4 = iI s8 4 := fm_i Fs69 (by decide)
    have ws69_5 : iI s69 5 = iI s8 5 := fm_i Fs69 (by decide)
    have ws69_6 : iI s69 6 = iI s8 6 := fm_i Fs69 (by decide)
    have ws69_19 : iI s69 19 = iI s8 19 := fm_i Fs69 (by decide)
    have ws69_16 : iI s69 16 = iI s8 16 := fm_i Fs69 (by decide)
    show WS k 23 [(2, .int (Int32.ofInt e9)), (0, .ref (A 19)), (1, .int (Int32.ofInt x))] [.int (Int32.ofInt e70)] (Wd A dT s69) 0 0
    refine z_if_ne X (t := 35) (show cdA 71 23 = some (.ifCond .ne 12, 3, 1, 0, 0) from rfl) (by decide) hrs69 (fun g71 => ?_) (fun g71 => ?_)
    ·
      refine z_load_n X (x := x) (show cdA 71 35 = some (.iload_n 1, 1, 0, 0, 0) from rfl) (List.Mem.tail _ (List.Mem.tail _ (List.Mem.head _))) ?_
      refine z_bipush X (show cdA 71 36 = some (.bipush 8, 2, 0, 0, 8) from rfl) ?_
      refine z_icmp_lt X (t := 50) (show cdA 71 38 = some (.if_icmp .lt 12, 3, 2, 0, 0) from rfl) (by decide) ⟨by first | exact oq_fa4e5087 p0.1 | omega, by first | exact oq_d3f5d874 p0.2 | omega⟩ (by decide) (fun g72 => ?_) (fun g72 => ?_)
      ·
        refine z_aload_n X (x := A 19) (show cdA 71 50 = some (.aload_n 0, 1, 0, 0, 0) from rfl) (List.Mem.tail _ (List.Mem.head _)) ?_
        refine s_getR X 19 (show cdA 71 51 = some (.getfield 31, 3, 7, 0, 0) from rfl) (by decide) rfl rfl ?_
        refine z_callV X 1 (rm := rmN 129) (As := []) (st := []) (show cdA 71 54 = some (.invokevirtual 85, 3, 129, 0, 0) from rfl) rfl (by decide) rfl (by rw [E.1, E.2.1, E.2.2.1]; exact c10_step_1 G Is69 (by first | exact oq_4407eb3c ws69_1 ws69_2 ws8_1 ws8_2 p1 | omega)) ⟨by rw [E.2.2.2]; exact (show (rmN 129).frames + 1 ≤ (rmN 71).frames by decide), by rw [E.2.2.2]; exact (show 8 + (mNL (miB 129) + 11) + (rmN 129).locals ≤ (rmN 71).locals by decide), by rw [E.2.2.2]; exact (show 0 + (rmN 129).cells ≤ (rmN 71).cells by decide), by rw [E.2.2.2]; exact (show 0 + (rmN 129).slots ≤ (rmN 71).slots by decide)⟩ (Nat.le_of_ble_eq_true rfl) (fun vv s73 hq => ?_) (fun ee s73 hq => ?_)
        rotate_left
        · obtain ⟨Is73, Fs73, hv, hps73⟩ := hq; cases hv
        obtain ⟨Is73, Fs73, hv, hps73⟩ := hq
        cases hv
        have Gs73 := fm_ts Gs69 Fs73 (by decide) (by decide)
        have b75 : (0 : Int) ≤ iI s73 2 ∧ iI s73 2 ≤ 200 := Is73.1 2
        have ws73_1 : iI s73 1 = iI s69 1 := fm_i Fs73 (by decide)
        have b76 : (0 : Int) ≤ iI s73 4 ∧ iI s73 4 ≤ 200 := Is73.1 4
        have b77 : ((-3) : Int) ≤ iI s73 5 ∧ iI s73 5 ≤ 255 := Is73.1 5
        have b78 : (0 : Int) ≤ iI s73 6 ∧ iI s73 6 ≤ 100000 := Is73.1 6
        have ws73_19 : iI s73 19 = iI s69 19 := fm_i Fs73 (by decide)
        have ws73_16 : iI s73 16 = iI s69 16 := fm_i Fs73 (by decide)
        show WS k 57 [(2, .int (Int32.ofInt e9)), (0, .ref (A 19)), (1, .int (Int32.ofInt x))] [] (Wd A dT s73) 0 0
        refine z_load_n X (x := e9) (show cdA 71 57 = some (.iload_n 2, 1, 0, 0, 0) from rfl) (List.Mem.head _) ?_
        refine z_if_eq X (t := 71) (show cdA 71 58 = some (.ifCond .eq 13, 3, 0, 0, 0) from rfl) (by decide) hrs8 (fun g79 => ?_) (fun g79 => ?_)
        ·
          refine z_aload_n X (x := A 19) (show cdA 71 71 = some (.aload_n 0, 1, 0, 0, 0) from rfl) (List.Mem.tail _ (List.Mem.head _)) ?_
          refine z_callV X 19 (rm := (rkR (32 + 3 * (7) + 2))) (As := []) (st := []) (show cdA 71 72 = some (.invokevirtual 92, 3, 72, 0, 0) from rfl) rfl (by decide) rfl (by rw [E.1, E.2.1, E.2.2.1]; exact (c7_eithr G SF GT 7).2.2 Is73 (by first | exact hps73.1 | omega) (by first | exact hps73.2 | omega) (by first | exact oq_f6b99f75 ws73_19 ws69_19 ws8_19 b6.1 | omega)) ⟨by rw [E.2.2.2]; exact (show (12 + (32 + 3 * (7) + 2)) + 1 ≤ 68 from oq_2af1bc43), by rw [E.2.2.2]; exact (show 8 + (2 + 11) + (500 + 45 * (32 + 3 * (7) + 2)) ≤ 2996 from oq_3d00aaab), by rw [E.2.2.2]; exact Nat.le_refl 0, by rw [E.2.2.2]; exact Nat.le_refl 0⟩ (Nat.le_of_ble_eq_true rfl) (fun vv s80 hq => ?_) (fun ee s80 hq => ?_)
          rotate_left
          · obtain ⟨Is80, Fs80, e81, hv, hrs80, hps80⟩ := hq; cases hv
          obtain ⟨Is80, Fs80, e81, hv, hrs80, hps80⟩ := hq
          cases hv
          have Gs80 := fm_ts Gs73 Fs80 (by decide) (by decide)
          have b82 : (0 : Int) ≤ iI s80 2 ∧ iI s80 2 ≤ 200 := Is80.1 2
          have ws80_1 : iI s80 1 = iI s73 1 := fm_i Fs80 (by decide)
          have b83 : (0 : Int) ≤ iI s80 4 ∧ iI s80 4 ≤ 200 := Is80.1 4
          have b84 : ((-3) : Int) ≤ iI s80 5 ∧ iI s80 5 ≤ 255 := Is80.1 5
          have b85 : (0 : Int) ≤ iI s80 6 ∧ iI s80 6 ≤ 100000 := Is80.1 6
          have b86 : (0 : Int) ≤ iI s80 19 ∧ iI s80 19 ≤ 6 := Is80.1 19
          have b87 : (0 : Int) ≤ iI s80 16 ∧ iI s80 16 ≤ 200 := Is80.1 16
          show WS k 75 [(2, .int (Int32.ofInt e9)), (0, .ref (A 19)), (1, .int (Int32.ofInt x))] [.int (Int32.ofInt e81)] (Wd A dT s80) 0 0
          refine z_if_ne X (t := 80) (show cdA 71 75 = some (.ifCond .ne 5, 3, 1, 0, 0) from rfl) (by decide) hrs80 (fun g88 => ?_) (fun g88 => ?_)
          ·
            refine z_aload_n X (x := A 19) (show cdA 71 80 = some (.aload_n 0, 1, 0, 0, 0) from rfl) (List.Mem.tail _ (List.Mem.head _)) ?_
            refine z_bipush X (show cdA 71 81 = some (.bipush 59, 2, 0, 0, 59) from rfl) ?_
            refine z_callV X 19 (rm := rmN 81) (As := [.int (Int32.ofInt 59)]) (st := []) (show cdA 71 83 = some (.invokevirtual 95, 3, 81, 0, 0) from rfl) rfl (by decide) rfl (by rw [E.1, E.2.1, E.2.2.1]; exact c7_pass_19 G Is80 (by first | exact ⟨by decide, by decide⟩ | omega) (by omega) (by omega)) ⟨by rw [E.2.2.2]; exact (show (rmN 81).frames + 1 ≤ (rmN 71).frames by decide), by rw [E.2.2.2]; exact (show 8 + (mNL (miB 81) + 11) + (rmN 81).locals ≤ (rmN 71).locals by decide), by rw [E.2.2.2]; exact (show 0 + (rmN 81).cells ≤ (rmN 71).cells by decide), by rw [E.2.2.2]; exact (show 0 + (rmN 81).slots ≤ (rmN 71).slots by decide)⟩ (Nat.le_of_ble_eq_true rfl) (fun vv s89 hq => ?_) (fun ee s89 hq => ?_)
            rotate_left
            · obtain ⟨Is89, Fs89, e90, hv, hrs89, hps89⟩ := hq; cases hv
            obtain ⟨Is89, Fs89, e90, hv, hrs89, hps89⟩ := hq
            cases hv
            have Gs89 := fm_ts Gs80 Fs89 (by decide) (by decide)
            have b91 : (0 : Int) ≤ iI s89 2 ∧ iI s89 2 ≤ 200 := Is89.1 2
            have ws89_1 : iI s89 1 = iI s80 1 := fm_i Fs89 (by decide)
            have b92 : (0 : Int) ≤ iI s89 4 ∧ iI s89 4 ≤ 200 := Is89.1 4
            have b93 : ((-3) : Int) ≤ iI s89 5 ∧ iI s89 5 ≤ 255 := Is89.1 5
            have b94 : (0 : Int) ≤ iI s89 6 ∧ iI s89 6 ≤ 100000 := Is89.1 6
            have ws89_19 : iI s89 19 = iI s80 19 := fm_i Fs89 (by decide)
            have ws89_16 : iI s89 16 = iI s80 16 := fm_i Fs89 (by decide)
            show WS k 86 [(2, .int (Int32.ofInt e9)), (0, .ref (A 19)), (1, .int (Int32.ofInt x))] [.int (Int32.ofInt e90)] (Wd A dT s89) 0 0
            refine z_if_ne X (t := 91) (show cdA 71 86 = some (.ifCond .ne 5, 3, 1, 0, 0) from rfl) (by decide) hrs89 (fun g95 => ?_) (fun g95 => ?_)
            ·
              refine z_aload_n X (x := A 19) (show cdA 71 91 = some (.aload_n 0, 1, 0, 0, 0) from rfl) (List.Mem.tail _ (List.Mem.head _)) ?_
              refine s_getR X 19 (show cdA 71 92 = some (.getfield 25, 3, 7, 8, 0) from rfl) (by decide) rfl rfl ?_
              refine z_load_n X (x := x) (show cdA 71 95 = some (.iload_n 1, 1, 0, 0, 0) from rfl) (List.Mem.tail _ (List.Mem.tail _ (List.Mem.head _))) ?_
              refine z_aload_n X (x := A 19) (show cdA 71 96 = some (.aload_n 0, 1, 0, 0, 0) from rfl) (List.Mem.tail _ (List.Mem.head _)) ?_
              refine z_getI X 19 (show cdA 71 97 = some (.getfield 35, 3, 7, 9, 0) from rfl) (by decide) rfl rfl ?_
              have b96 : (0 : Int) ≤ iI s89 16 ∧ iI s89 16 ≤ 200 := Is89.1 16
              refine z_ast X 23 (show cdA 71 100 = some (.iastore, 1, 0, 0, 0) from rfl) (by decide) rfl (by first | exact p0.1 | omega) (show x < 8 by first | exact g72 | omega) (by decide) ?_
              obtain ⟨s97, hs97⟩ : ∃ x0, x0 = uC s89 19 (x).toNat (Int32.ofInt (iI s89 16)) := ⟨_, rfl⟩
              rw [← hs97]
              have Is97 : Bd s97 := by rw [hs97]; exact bd_C Is89 (show (0 : Int) ≤ (iI s89 16) ∧ (iI s89 16) ≤ 200 by first | exact ⟨b96.1, b96.2⟩ | omega) (rng_to _)
              have Fs97 := fm_C (i := (x).toNat) (x := Int32.ofInt (iI s89 16)) Gs89 (show 19 ∈ _ by decide)
              rw [← hs97] at Fs97
              have ws97_2 : iI s97 2 = iI s89 2 := by rw [hs97]; rfl
              have ws97_1 : iI s97 1 = iI s89 1 := by rw [hs97]; rfl
              have ws97_4 : iI s97 4 = iI s89 4 := by rw [hs97]; rfl
              have ws97_5 : iI s97 5 = iI s89 5 := by rw [hs97]; rfl
              have ws97_6 : iI s97 6 = iI s89 6 := by rw [hs97]; rfl
              have ws97_19 : iI s97 19 = iI s89 19 := by rw [hs97]; rfl
              have ws97_16 : iI s97 16 = iI s89 16 := by rw [hs97]; rfl
              refine z_load_n X (x := e9) (show cdA 71 101 = some (.iload_n 2, 1, 0, 0, 0) from rfl) (List.Mem.head _) ?_
              refine z_if_eq X (t := 113) (show cdA 71 102 = some (.ifCond .eq 11, 3, 0, 0, 0) from rfl) (by decide) hrs8 (fun g98 => ?_) (fun g98 => ?_)
              ·
                refine z_aload_n X (x := A 19) (show cdA 71 113 = some (.aload_n 0, 1, 0, 0, 0) from rfl) (List.Mem.tail _ (List.Mem.head _)) ?_
                refine w_dup X.1 (ax_d X (show cdA 71 114 = some (.dup, 1, 0, 0, 0) from rfl)) rfl ?_
                refine z_getI X 19 (show cdA 71 115 = some (.getfield 41, 3, 7, 11, 0) from rfl) (by decide) rfl rfl ?_
                have b99 : ((-2147483648) : Int) ≤ iI s97 18 ∧ iI s97 18 ≤ 2147483647 := Is97.1 18
                refine z_const X (show cdA 71 118 = some (.iconst 1, 1, 0, 0, 0) from rfl) ?_
                refine z_load_n X (x := x) (show cdA 71 119 = some (.iload_n 1, 1, 0, 0, 0) from rfl) (List.Mem.tail _ (List.Mem.tail _ (List.Mem.head _))) ?_
                refine z_bshl X (show cdA 71 120 = some (.ishl, 1, 0, 0, 0) from rfl) ?_
                refine z_any (fun y100 hy100 => ?_)
                refine z_bor X (show cdA 71 121 = some (.ior, 1, 0, 0, 0) from rfl) ?_
                refine z_any (fun y101 hy101 => ?_)
                refine s_putI X 19 (show cdA 71 122 = some (.putfield 41, 3, 7, 11, 0) from rfl) (by decide) rfl rfl (by decide) rfl rfl rfl ?_
                obtain ⟨s102, hs102⟩ : ∃ x0, x0 = uI s97 18 (Int32.ofInt y101) := ⟨_, rfl⟩
                rw [← hs102]
                have Is102 : Bd s102 := by rw [hs102]; exact bd_I Is97 (show ((-2147483648) : Int) ≤ y101 ∧ y101 ≤ 2147483647 by first | exact ⟨hy101.1, hy101.2⟩ | omega) hy101
                have Fs102 := fm_I (x := Int32.ofInt y101) Fs97 (show 18 ∈ _ by decide)
                rw [← hs102] at Fs102
                have vs102 : iI s102 18 = y101 := by rw [hs102]; exact iI_u hy101
                have ws102_2 : iI s102 2 = iI s97 2 := by rw [hs102]; rfl
                have ws102_1 : iI s102 1 = iI s97 1 := by rw [hs102]; rfl
                have ws102_4 : iI s102 4 = iI s97 4 := by rw [hs102]; rfl
                have ws102_5 : iI s102 5 = iI s97 5 := by rw [hs102]; rfl
                have ws102_6 : iI s102 6 = iI s97 6 := by rw [hs102]; rfl
                have ws102_19 : iI s102 19 = iI s97 19 := by rw [hs102]; rfl
                have ws102_16 : iI s102 16 = iI s97 16 := by rw [hs102]; rfl
                refine z_const X (show cdA 71 125 = some (.iconst 1, 1, 0, 0, 0) from rfl) ?_
                exact w_iret X.1 q hRt (nar_ret (by first | exact Or.inr (by decide) | omega)) (ax_d X (show cdA 71 126 = some (.ireturn, 1, 0, 0, 0) from rfl)) (Nat.zero_le _) (Nat.zero_le _) ⟨_, rfl, Is102, Fs102, 1, rfl, (by decide), by first | exact ⟨Or.inr (by decide), oq_4407eb3c ws102_1 ws102_2 ws97_1 ws97_2 hps89.2.1, oq_4407eb3c ws102_2 ws102_4 ws97_2 ws97_4 hps89.2.2⟩ | omega⟩
              ·
                refine z_aload_n X (x := A 19) (show cdA 71 105 = some (.aload_n 0, 1, 0, 0, 0) from rfl) (List.Mem.tail _ (List.Mem.head _)) ?_
                refine z_load_n X (x := x) (show cdA 71 106 = some (.iload_n 1, 1, 0, 0, 0) from rfl) (List.Mem.tail _ (List.Mem.tail _ (List.Mem.head _))) ?_
                refine s_putI X 19 (show cdA 71 107 = some (.putfield 38, 3, 7, 10, 0) from rfl) (by decide) rfl rfl (by decide) rfl rfl rfl ?_
                obtain ⟨s103, hs103⟩ : ∃ x0, x0 = uI s97 17 (Int32.ofInt x) := ⟨_, rfl⟩
                rw [← hs103]
                have Is103 : Bd s103 := by rw [hs103]; exact bd_I Is97 (show ((-1) : Int) ≤ x ∧ x ≤ 7 by first | exact ⟨oq_ca54ea22 p0.1, oq_78c639ed g72⟩ | omega) ⟨by first | exact oq_fa4e5087 p0.1 | omega, by first | exact oq_7bea7075 g72 | omega⟩
                have Fs103 := fm_I (x := Int32.ofInt x) Fs97 (show 17 ∈ _ by decide)
                rw [← hs103] at Fs103
                have vs103 : iI s103 17 = x := by rw [hs103]; exact iI_u ⟨by first | exact oq_fa4e5087 p0.1 | omega, by first | exact oq_7bea7075 g72 | omega⟩
                have ws103_2 : iI s103 2 = iI s97 2 := by rw [hs103]; rfl
                have ws103_1 : iI s103 1 = iI s97 1 := by rw [hs103]; rfl
                have ws103_4 : iI s103 4 = iI s97 4 := by rw [hs103]; rfl
                have ws103_5 : iI s103 5 = iI s97 5 := by rw [hs103]; rfl
                have ws103_6 : iI s103 6 = iI s97 6 := by rw [hs103]; rfl
                have ws103_19 : iI s103 19 = iI s97 19 := by rw [hs103]; rfl
                have ws103_16 : iI s103 16 = iI s97 16 := by rw [hs103]; rfl
                refine z_goto X (t := 125) (show cdA 71 110 = some (.goto 15, 3, 0, 0, 0) from rfl) (by decide) ?_
                refine z_const X (show cdA 71 125 = some (.iconst 1, 1, 0, 0, 0) from rfl) ?_
                exact w_iret X.1 q hRt (nar_ret (by first | exact Or.inr (by decide) | omega)) (ax_d X (show cdA 71 126 = some (.ireturn, 1, 0, 0, 0) from rfl)) (Nat.zero_le _) (Nat.zero_le _) ⟨_, rfl, Is103, Fs103, 1, rfl, (by decide), by first | exact ⟨Or.inr (by decide), oq_4407eb3c ws103_1 ws103_2 ws97_1 ws97_2 hps89.2.1, oq_4407eb3c ws103_2 ws103_4 ws97_2 ws97_4 hps89.2.2⟩ | omega⟩
            ·
              refine z_const X (show cdA 71 89 = some (.iconst 0, 1, 0, 0, 0) from rfl) ?_
              exact w_iret X.1 q hRt (nar_ret (by first | exact Or.inl (by decide) | omega)) (ax_d X (show cdA 71 90 = some (.ireturn, 1, 0, 0, 0) from rfl)) (Nat.zero_le _) (Nat.zero_le _) ⟨_, rfl, Is89, Gs89, 0, rfl, (by decide), by first | exact ⟨Or.inl (by decide), hps89.2.1, hps89.2.2⟩ | omega⟩
          ·
            refine z_const X (show cdA 71 78 = some (.iconst 0, 1, 0, 0, 0) from rfl) ?_
            exact w_iret X.1 q hRt (nar_ret (by first | exact Or.inl (by decide) | omega)) (ax_d X (show cdA 71 79 = some (.ireturn, 1, 0, 0, 0) from rfl)) (Nat.zero_le _) (Nat.zero_le _) ⟨_, rfl, Is80, Gs80, 0, rfl, (by decide), by first | exact ⟨Or.inl (by decide), by omega, by omega⟩ | omega⟩
        ·
          refine z_aload_n X (x := A 19) (show cdA 71 61 = some (.aload_n 0, 1, 0, 0, 0) from rfl) (List.Mem.tail _ (List.Mem.head _)) ?_
          refine z_callV X 19 (rm := (rkR (4 * (7) + 3))) (As := []) (st := []) (show cdA 71 62 = some (.invokevirtual 88, 3, 75, 0, 0) from rfl) rfl (by decide) rfl (by rw [E.1, E.2.1, E.2.2.1]; exact (c7_sumr G SF GT 7).2.2.2 Is73 (by first | exact hps73.1 | omega) (by first | exact hps73.2 | omega) (by first | exact oq_f6b99f75 ws73_19 ws69_19 ws8_19 b6.1 | omega)) ⟨by rw [E.2.2.2]; exact (show (12 + (4 * (7) + 3)) + 1 ≤ 68 from oq_4cedc687), by rw [E.2.2.2]; exact (show 8 + (3 + 11) + (500 + 45 * (4 * (7) + 3)) ≤ 2996 from oq_b0ed7f34), by rw [E.2.2.2]; exact Nat.le_refl 0, by rw [E.2.2.2]; exact Nat.le_refl 0⟩ (Nat.le_of_ble_eq_true rfl) (fun vv s104 hq => ?_) (fun ee s104 hq => ?_)
          rotate_left
          · obtain ⟨Is104, Fs104, e105, hv, hrs104, hps104⟩ := hq; cases hv
          obtain ⟨Is104, Fs104, e105, hv, hrs104, hps104⟩ := hq
          cases hv
          have Gs104 := fm_ts Gs73 Fs104 (by decide) (by decide)
          have b106 : (0 : Int) ≤ iI s104 2 ∧ iI s104 2 ≤ 200 := Is104.1 2
          have ws104_1 : iI s104 1 = iI s73 1 := fm_i Fs104 (by decide)
          have b107 : (0 : Int) ≤ iI s104 4 ∧ iI s104 4 ≤ 200 := Is104.1 4
          have b108 : ((-3) : Int) ≤ iI s104 5 ∧ iI s104 5 ≤ 255 := Is104.1 5
          have b109 : (0 : Int) ≤ iI s104 6 ∧ iI s104 6 ≤ 100000 := Is104.1 6
          have b110 : (0 : Int) ≤ iI s104 19 ∧ iI s104 19 ≤ 6 := Is104.1 19
          have b111 : (0 : Int) ≤ iI s104 16 ∧ iI s104 16 ≤ 200 := Is104.1 16
          show WS k 65 [(2, .int (Int32.ofInt e9)), (0, .ref (A 19)), (1, .int (Int32.ofInt x))] [.int (Int32.ofInt e105)] (Wd A dT s104) 0 0
          refine z_if_ne X (t := 80) (show cdA 71 65 = some (.ifCond .ne 15, 3, 1, 0, 0) from rfl) (by decide) hrs104 (fun g112 => ?_) (fun g112 => ?_)
          ·
            refine z_aload_n X (x := A 19) (show cdA 71 80 = some (.aload_n 0, 1, 0, 0, 0) from rfl) (List.Mem.tail _ (List.Mem.head _)) ?_
            refine z_bipush X (show cdA 71 81 = some (.bipush 59, 2, 0, 0, 59) from rfl) ?_
            refine z_callV X 19 (rm := rmN 81) (As := [.int (Int32.ofInt 59)]) (st := []) (show cdA 71 83 = some (.invokevirtual 95, 3, 81, 0, 0) from rfl) rfl (by decide) rfl (by rw [E.1, E.2.1, E.2.2.1]; exact c7_pass_19 G Is104 (by first | exact ⟨by decide, by decide⟩ | omega) (by first | exact oq_4e2d8064 g79 g10 | omega) (by first | exact oq_4e2d8064 g79 g10 | omega)) ⟨by rw [E.2.2.2]; exact (show (rmN 81).frames + 1 ≤ (rmN 71).frames by decide), by rw [E.2.2.2]; exact (show 8 + (mNL (miB 81) + 11) + (rmN 81).locals ≤ (rmN 71).locals by decide), by rw [E.2.2.2]; exact (show 0 + (rmN 81).cells ≤ (rmN 71).cells by decide), by rw [E.2.2.2]; exact (show 0 + (rmN 81).slots ≤ (rmN 71).slots by decide)⟩ (Nat.le_of_ble_eq_true rfl) (fun vv s113 hq => ?_) (fun ee s113 hq => ?_)
            rotate_left
            · obtain ⟨Is113, Fs113, e114, hv, hrs113, hps113⟩ := hq; cases hv
            obtain ⟨Is113, Fs113, e114, hv, hrs113, hps113⟩ := hq
            cases hv
            have Gs113 := fm_ts Gs104 Fs113 (by decide) (by decide)
            have b115 : (0 : Int) ≤ iI s113 2 ∧ iI s113 2 ≤ 200 := Is113.1 2
            have ws113_1 : iI s113 1 = iI s104 1 := fm_i Fs113 (by decide)
            have b116 : (0 : Int) ≤ iI s113 4 ∧ iI s113 4 ≤ 200 := Is113.1 4
            have b117 : ((-3) : Int) ≤ iI s113 5 ∧ iI s113 5 ≤ 255 := Is113.1 5
            have b118 : (0 : Int) ≤ iI s113 6 ∧ iI s113 6 ≤ 100000 := Is113.1 6
            have ws113_19 : iI s113 19 = iI s104 19 := fm_i Fs113 (by decide)
            have ws113_16 : iI s113 16 = iI s104 16 := fm_i Fs113 (by decide)
            show WS k 86 [(2, .int (Int32.ofInt e9)), (0, .ref (A 19)), (1, .int (Int32.ofInt x))] [.int (Int32.ofInt e114)] (Wd A dT s113) 0 0
            refine z_if_ne X (t := 91) (show cdA 71 86 = some (.ifCond .ne 5, 3, 1, 0, 0) from rfl) (by decide) hrs113 (fun g119 => ?_) (fun g119 => ?_)
            ·
              refine z_aload_n X (x := A 19) (show cdA 71 91 = some (.aload_n 0, 1, 0, 0, 0) from rfl) (List.Mem.tail _ (List.Mem.head _)) ?_
              refine s_getR X 19 (show cdA 71 92 = some (.getfield 25, 3, 7, 8, 0) from rfl) (by decide) rfl rfl ?_
              refine z_load_n X (x := x) (show cdA 71 95 = some (.iload_n 1, 1, 0, 0, 0) from rfl) (List.Mem.tail _ (List.Mem.tail _ (List.Mem.head _))) ?_
              refine z_aload_n X (x := A 19) (show cdA 71 96 = some (.aload_n 0, 1, 0, 0, 0) from rfl) (List.Mem.tail _ (List.Mem.head _)) ?_
              refine z_getI X 19 (show cdA 71 97 = some (.getfield 35, 3, 7, 9, 0) from rfl) (by decide) rfl rfl ?_
              have b120 : (0 : Int) ≤ iI s113 16 ∧ iI s113 16 ≤ 200 := Is113.1 16
              refine z_ast X 23 (show cdA 71 100 = some (.iastore, 1, 0, 0, 0) from rfl) (by decide) rfl (by first | exact p0.1 | omega) (show x < 8 by first | exact g72 | omega) (by decide) ?_
              obtain ⟨s121, hs121⟩ : ∃ x0, x0 = uC s113 19 (x).toNat (Int32.ofInt (iI s113 16)) := ⟨_, rfl⟩
              rw [← hs121]
              have Is121 : Bd s121 := by rw [hs121]; exact bd_C Is113 (show (0 : Int) ≤ (iI s113 16) ∧ (iI s113 16) ≤ 200 by first | exact ⟨b120.1, b120.2⟩ | omega) (rng_to _)
              have Fs121 := fm_C (i := (x).toNat) (x := Int32.ofInt (iI s113 16)) Gs113 (show 19 ∈ _ by decide)
              rw [← hs121] at Fs121
              have ws121_2 : iI s121 2 = iI s113 2 := by rw [hs121]; rfl
              have ws121_1 : iI s121 1 = iI s113 1 := by rw [hs121]; rfl
              have ws121_4 : iI s121 4 = iI s113 4 := by rw [hs121]; rfl
              have ws121_5 : iI s121 5 = iI s113 5 := by rw [hs121]; rfl
              have ws121_6 : iI s121 6 = iI s113 6 := by rw [hs121]; rfl
              have ws121_19 : iI s121 19 = iI s113 19 := by rw [hs121]; rfl
              have ws121_16 : iI s121 16 = iI s113 16 := by rw [hs121]; rfl
              refine z_load_n X (x := e9) (show cdA 71 101 = some (.iload_n 2, 1, 0, 0, 0) from rfl) (List.Mem.head _) ?_
              refine z_if_eq X (t := 113) (show cdA 71 102 = some (.ifCond .eq 11, 3, 0, 0, 0) from rfl) (by decide) hrs8 (fun g122 => ?_) (fun g122 => ?_)
              ·
                refine z_aload_n X (x := A 19) (show cdA 71 113 = some (.aload_n 0, 1, 0, 0, 0) from rfl) (List.Mem.tail _ (List.Mem.head _)) ?_
                refine w_dup X.1 (ax_d X (show cdA 71 114 = some (.dup, 1, 0, 0, 0) from rfl)) rfl ?_
                refine z_getI X 19 (show cdA 71 115 = some (.getfield 41, 3, 7, 11, 0) from rfl) (by decide) rfl rfl ?_
                have b123 : ((-2147483648) : Int) ≤ iI s121 18 ∧ iI s121 18 ≤ 2147483647 := Is121.1 18
                refine z_const X (show cdA 71 118 = some (.iconst 1, 1, 0, 0, 0) from rfl) ?_
                refine z_load_n X (x := x) (show cdA 71 119 = some (.iload_n 1, 1, 0, 0, 0) from rfl) (List.Mem.tail _ (List.Mem.tail _ (List.Mem.head _))) ?_
                refine z_bshl X (show cdA 71 120 = some (.ishl, 1, 0, 0, 0) from rfl) ?_
                refine z_any (fun y124 hy124 => ?_)
                refine z_bor X (show cdA 71 121 = some (.ior, 1, 0, 0, 0) from rfl) ?_
                refine z_any (fun y125 hy125 => ?_)
                refine s_putI X 19 (show cdA 71 122 = some (.putfield 41, 3, 7, 11, 0) from rfl) (by decide) rfl rfl (by decide) rfl rfl rfl ?_
                obtain ⟨s126, hs126⟩ : ∃ x0, x0 = uI s121 18 (Int32.ofInt y125) := ⟨_, rfl⟩
                rw [← hs126]
                have Is126 : Bd s126 := by rw [hs126]; exact bd_I Is121 (show ((-2147483648) : Int) ≤ y125 ∧ y125 ≤ 2147483647 by first | exact ⟨hy125.1, hy125.2⟩ | omega) hy125
                have Fs126 := fm_I (x := Int32.ofInt y125) Fs121 (show 18 ∈ _ by decide)
                rw [← hs126] at Fs126
                have vs126 : iI s126 18 = y125 := by rw [hs126]; exact iI_u hy125
                have ws126_2 : iI s126 2 = iI s121 2 := by rw [hs126]; rfl
                have ws126_1 : iI s126 1 = iI s121 1 := by rw [hs126]; rfl
                have ws126_4 : iI s126 4 = iI s121 4 := by rw [hs126]; rfl
                have ws126_5 : iI s126 5 = iI s121 5 := by rw [hs126]; rfl
                have ws126_6 : iI s126 6 = iI s121 6 := by rw [hs126]; rfl
                have ws126_19 : iI s126 19 = iI s121 19 := by rw [hs126]; rfl
                have ws126_16 : iI s126 16 = iI s121 16 := by rw [hs126]; rfl
                refine z_const X (show cdA 71 125 = some (.iconst 1, 1, 0, 0, 0) from rfl) ?_
                exact w_iret X.1 q hRt (nar_ret (by first | exact Or.inr (by decide) | omega)) (ax_d X (show cdA 71 126 = some (.ireturn, 1, 0, 0, 0) from rfl)) (Nat.zero_le _) (Nat.zero_le _) ⟨_, rfl, Is126, Fs126, 1, rfl, (by decide), by first | exact ⟨Or.inr (by decide), oq_4407eb3c ws126_1 ws126_2 ws121_1 ws121_2 hps113.2.1, oq_4407eb3c ws126_2 ws126_4 ws121_2 ws121_4 hps113.2.2⟩ | omega⟩
              ·
                refine z_aload_n X (x := A 19) (show cdA 71 105 = some (.aload_n 0, 1, 0, 0, 0) from rfl) (List.Mem.tail _ (List.Mem.head _)) ?_
                refine z_load_n X (x := x) (show cdA 71 106 = some (.iload_n 1, 1, 0, 0, 0) from rfl) (List.Mem.tail _ (List.Mem.tail _ (List.Mem.head _))) ?_
                refine s_putI X 19 (show cdA 71 107 = some (.putfield 38, 3, 7, 10, 0) from rfl) (by decide) rfl rfl (by decide) rfl rfl rfl ?_
                obtain ⟨s127, hs127⟩ : ∃ x0, x0 = uI s121 17 (Int32.ofInt x) := ⟨_, rfl⟩
                rw [← hs127]
                have Is127 : Bd s127 := by rw [hs127]; exact bd_I Is121 (show ((-1) : Int) ≤ x ∧ x ≤ 7 by first | exact ⟨oq_ca54ea22 p0.1, oq_78c639ed g72⟩ | omega) ⟨by first | exact oq_fa4e5087 p0.1 | omega, by first | exact oq_7bea7075 g72 | omega⟩
                have Fs127 := fm_I (x := Int32.ofInt x) Fs121 (show 17 ∈ _ by decide)
                rw [← hs127] at Fs127
                have vs127 : iI s127 17 = x := by rw [hs127]; exact iI_u ⟨by first | exact oq_fa4e5087 p0.1 | omega, by first | exact oq_7bea7075 g72 | omega⟩
                have ws127_2 : iI s127 2 = iI s121 2 := by rw [hs127]; rfl
                have ws127_1 : iI s127 1 = iI s121 1 := by rw [hs127]; rfl
                have ws127_4 : iI s127 4 = iI s121 4 := by rw [hs127]; rfl
                have ws127_5 : iI s127 5 = iI s121 5 := by rw [hs127]; rfl
                have ws127_6 : iI s127 6 = iI s121 6 := by rw [hs127]; rfl
                have ws127_19 : iI s127 19 = iI s121 19 := by rw [hs127]; rfl
                have ws127_16 : iI s127 16 = iI s121 16 := by rw [hs127]; rfl
                refine z_goto X (t := 125) (show cdA 71 110 = some (.goto 15, 3, 0, 0, 0) from rfl) (by decide) ?_
                refine z_const X (show cdA 71 125 = some (.iconst 1, 1, 0, 0, 0) from rfl) ?_
                exact w_iret X.1 q hRt (nar_ret (by first | exact Or.inr (by decide) | omega)) (ax_d X (show cdA 71 126 = some (.ireturn, 1, 0, 0, 0) from rfl)) (Nat.zero_le _) (Nat.zero_le _) ⟨_, rfl, Is127, Fs127, 1, rfl, (by decide), by first | exact ⟨Or.inr (by decide), oq_4407eb3c ws127_1 ws127_2 ws121_1 ws121_2 hps113.2.1, oq_4407eb3c ws127_2 ws127_4 ws121_2 ws121_4 hps113.2.2⟩ | omega⟩
            ·
              refine z_const X (show cdA 71 89 = some (.iconst 0, 1, 0, 0, 0) from rfl) ?_
              exact w_iret X.1 q hRt (nar_ret (by first | exact Or.inl (by decide) | omega)) (ax_d X (show cdA 71 90 = some (.ireturn, 1, 0, 0, 0) from rfl)) (Nat.zero_le _) (Nat.zero_le _) ⟨_, rfl, Is113, Gs113, 0, rfl, (by decide), by first | exact ⟨Or.inl (by decide), hps113.2.1, hps113.2.2⟩ | omega⟩
          ·
            refine z_goto X (t := 78) (show cdA 71 68 = some (.goto 10, 3, 0, 0, 0) from rfl) (by decide) ?_
            refine z_const X (show cdA 71 78 = some (.iconst 0, 1, 0, 0, 0) from rfl) ?_
            exact w_iret X.1 q hRt (nar_ret (by first | exact Or.inl (by decide) | omega)) (ax_d X (show cdA 71 79 = some (.ireturn, 1, 0, 0, 0) from rfl)) (Nat.zero_le _) (Nat.zero_le _) ⟨_, rfl, Is104, Gs104, 0, rfl, (by decide), by first | exact ⟨Or.inl (by decide), oq_4e2d8064 g79 g10, oq_4e2d8064 g79 g10⟩ | omega⟩
      ·
        refine z_aload_n X (x := A 19) (show cdA 71 41 = some (.aload_n 0, 1, 0, 0, 0) from rfl) (List.Mem.tail _ (List.Mem.head _)) ?_
        refine s_getR X 19 (show cdA 71 42 = some (.getfield 31, 3, 7, 0, 0) from rfl) (by decide) rfl rfl ?_
        refine z_const X (show cdA 71 45 = some (.iconst 3, 1, 0, 0, 0) from rfl) ?_
        refine z_callV X 1 (rm := rmN 132) (As := [.int (Int32.ofInt 3)]) (st := []) (show cdA 71 46 = some (.invokevirtual 82, 3, 132, 0, 0) from rfl) rfl (by decide) rfl (by rw [E.1, E.2.1, E.2.2.1]; exact c10_refuse_1 G Is69 (by first | exact ⟨by decide, by decide⟩ | omega)) ⟨by rw [E.2.2.2]; exact (show (rmN 132).frames + 1 ≤ (rmN 71).frames by decide), by rw [E.2.2.2]; exact (show 8 + (mNL (miB 132) + 11) + (rmN 132).locals ≤ (rmN 71).locals by decide), by rw [E.2.2.2]; exact (show 0 + (rmN 132).cells ≤ (rmN 71).cells by decide), by rw [E.2.2.2]; exact (show 0 + (rmN 132).slots ≤ (rmN 71).slots by decide)⟩ (Nat.le_of_ble_eq_true rfl) (fun vv s128 hq => ?_) (fun ee s128 hq => ?_)
        rotate_left
        · obtain ⟨Is128, Fs128, e129, hv, hrs128, hps128⟩ := hq; cases hv
        obtain ⟨Is128, Fs128, e129, hv, hrs128, hps128⟩ := hq
        cases hv
        have Gs128 := fm_ts Gs69 Fs128 (by decide) (by decide)
        have ws128_2 : iI s128 2 = iI s69 2 := fm_i Fs128 (by decide)
        have ws128_1 : iI s128 1 = iI s69 1 := fm_i Fs128 (by decide)
        have ws128_4 : iI s128 4 = iI s69 4 := fm_i Fs128 (by decide)
        have ws128_5 : iI s128 5 = iI s69 5 := fm_i Fs128 (by decide)
        have ws128_6 : iI s128 6 = iI s69 6 := fm_i Fs128 (by decide)
        have ws128_19 : iI s128 19 = iI s69 19 := fm_i Fs128 (by decide)
        have ws128_16 : iI s128 16 = iI s69 16 := fm_i Fs128 (by decide)
        show WS k 49 [(2, .int (Int32.ofInt e9)), (0, .ref (A 19)), (1, .int (Int32.ofInt x))] [.int (Int32.ofInt e129)] (Wd A dT s128) 0 0
        exact w_iret X.1 q hRt (nar_ret (by first | exact Or.inl (hps128) | omega)) (ax_d X (show cdA 71 49 = some (.ireturn, 1, 0, 0, 0) from rfl)) (Nat.zero_le _) (Nat.zero_le _) ⟨_, rfl, Is128, Gs128, e129, rfl, hrs128, by first | exact ⟨Or.inl (hps128), oq_72ebe5a4 ws128_1 ws128_2 ws69_1 ws69_2 ws8_1 ws8_2 p1, oq_7f1a346e ws128_4 ws128_2 ws69_4 ws69_2 ws8_4 ws8_2 p2⟩ | omega⟩
    ·
      refine z_aload_n X (x := A 19) (show cdA 71 26 = some (.aload_n 0, 1, 0, 0, 0) from rfl) (List.Mem.tail _ (List.Mem.head _)) ?_
      refine s_getR X 19 (show cdA 71 27 = some (.getfield 31, 3, 7, 0, 0) from rfl) (by decide) rfl rfl ?_
      refine z_const X (show cdA 71 30 = some (.iconst 1, 1, 0, 0, 0) from rfl) ?_
      refine z_callV X 1 (rm := rmN 132) (As := [.int (Int32.ofInt 1)]) (st := []) (show cdA 71 31 = some (.invokevirtual 82, 3, 132, 0, 0) from rfl) rfl (by decide) rfl (by rw [E.1, E.2.1, E.2.2.1]; exact c10_refuse_1 G Is69 (by first | exact ⟨by decide, by decide⟩ | omega)) ⟨by rw [E.2.2.2]; exact (show (rmN 132).frames + 1 ≤ (rmN 71).frames by decide), by rw [E.2.2.2]; exact (show 8 + (mNL (miB 132) + 11) + (rmN 132).locals ≤ (rmN 71).locals by decide), by rw [E.2.2.2]; exact (show 0 + (rmN 132).cells ≤ (rmN 71).cells by decide), by rw [E.2.2.2]; exact (show 0 + (rmN 132).slots ≤ (rmN 71).slots by decide)⟩ (Nat.le_of_ble_eq_true rfl) (fun vv s130 hq => ?_) (fun ee s130 hq => ?_)
      rotate_left
      · obtain ⟨Is130, Fs130, e131, hv, hrs130, hps130⟩ := hq; cases hv
      obtain ⟨Is130, Fs130, e131, hv, hrs130, hps130⟩ := hq
      cases hv
      have Gs130 := fm_ts Gs69 Fs130 (by decide) (by decide)
      have ws130_2 : iI s130 2 = iI s69 2 := fm_i Fs130 (by decide)
      have ws130_1 : iI s130 1 = iI s69 1 := fm_i Fs130 (by decide)
      have ws130_4 : iI s130 4 = iI s69 4 := fm_i Fs130 (by decide)
      have ws130_5 : iI s130 5 = iI s69 5 := fm_i Fs130 (by decide)
      have ws130_6 : iI s130 6 = iI s69 6 := fm_i Fs130 (by decide)
      have ws130_19 : iI s130 19 = iI s69 19 := fm_i Fs130 (by decide)
      have ws130_16 : iI s130 16 = iI s69 16 := fm_i Fs130 (by decide)
      show WS k 34 [(2, .int (Int32.ofInt e9)), (0, .ref (A 19)), (1, .int (Int32.ofInt x))] [.int (Int32.ofInt e131)] (Wd A dT s130) 0 0
      exact w_iret X.1 q hRt (nar_ret (by first | exact Or.inl (hps130) | omega)) (ax_d X (show cdA 71 34 = some (.ireturn, 1, 0, 0, 0) from rfl)) (Nat.zero_le _) (Nat.zero_le _) ⟨_, rfl, Is130, Gs130, e131, rfl, hrs130, by first | exact ⟨Or.inl (hps130), oq_72ebe5a4 ws130_1 ws130_2 ws69_1 ws69_2 ws8_1 ws8_2 p1, oq_7f1a346e ws130_4 ws130_2 ws69_4 ws69_2 ws8_4 ws8_2 p2⟩ | omega⟩
end M85
