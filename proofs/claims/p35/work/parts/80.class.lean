/-! The class: the storm -/
section ZH
theorem z_a8 {k : kx_T} {mn pc : Nat} {dT : Nat → ClassId} {lv : List (Nat × Value)} {st : List Value} {ce sl a b : Nat} {z : Int} {A : Nat → Nat} {s : PS} (X : AX k mn dT) {i : Int} (h : cdA mn pc = some (.aaload, 1, a, b, z)) (h0 : 0 ≤ i) (hi' : i < 8) (g : WS k (pc + 1) lv (.ref (A (93 + 10 * i.toNat)) :: st) (Wd A dT s) ce sl) : WS k pc lv (.int (Int32.ofInt i) :: .ref (A 84) :: st) (Wd A dT s) ce sl := by
  have hb : bsS 84 = .inl (5, 8, .inl ((List.range 8).map (fun j => aR (some (93 + 10 * j))))) := rfl
  have he := Wd_get (A := A) (dT := dT) (s := s) (show 84 < 518 by decide)
  rw [hb] at he
  rw [on_of h0]
  refine w_aald X.1 84 he (X.2.2.1 5) rfl (on_in (by omega) (by decide)) (ax_d X h) ?_
  have e : va_rf ((fun j => if j < 8 then cBr (vS A s) (.inl ((List.range 8).map (fun j => aR (some (93 + 10 * j))))) j else none) (Int32.ofNat i.toNat).toNatClampNeg) = .ref (A (93 + 10 * i.toNat)) := by
    show va_rf (if (Int32.ofNat i.toNat).toNatClampNeg < 8 then cR (vS A s) (((List.range 8).map (fun j => aR (some (93 + 10 * j)))).getD (Int32.ofNat i.toNat).toNatClampNeg (aR none)) else none) = _
    rw [on_cl (by omega), if_pos (by omega)]
    have hq : i.toNat < 8 := by omega
    generalize i.toNat = m at hq
    match m, hq with
    | 0, _ => rfl
    | 1, _ => rfl
    | 2, _ => rfl
    | 3, _ => rfl
    | 4, _ => rfl
    | 5, _ => rfl
    | 6, _ => rfl
    | 7, _ => rfl
    | n + 8, h => omega
  rw [e]
  exact g
end ZH
section M80
variable {l : Launch} {s0 : State} {D : va_G} {tys : List (ClassId × FieldType)} {a0 : Array Value} {A : Nat → Nat} {dT : Nat → ClassId} {s : PS}
set_option maxRecDepth 4000 in
theorem c8_isShut_67 (G : GX l s0 D tys a0 dT) (I : Bd s) {x : Int} (p0 : 0 ≤ x ∧ x ≤ 127) : CT l s0 D A dT 88 (rmN 88) [.ref (A 67), .int (Int32.ofInt x)] s (fun o t => Bd t ∧ Fm [] [] s t ∧ ∃ e, o = .inl (some (.int (Int32.ofInt e))) ∧ rng e ∧ (e = 0 ∨ e = 1)) := by
  refine ct_ofX G (by decide) (Nat.le_of_ble_eq_true rfl) (fun k X E ET hRt hXt q => ?_)
  show WS k 0 [(0, .ref (A 67)), (1, .int (Int32.ofInt x))] [] _ 0 0
  have F : Fm [] [] s s := fm_rf _ _ s
  refine z_load_n X (x := x) (show cdA 88 0 = some (.iload_n 1, 1, 0, 0, 0) from rfl) (List.Mem.tail _ (List.Mem.head _)) ?_
  refine z_bipush X (show cdA 88 1 = some (.bipush 64, 2, 0, 0, 64) from rfl) ?_
  have N1 : ∀ j2 : Int64, WS k 17 [(0, .ref (A 67)), (1, .int (Int32.ofInt x))] [.long j2] (Wd A dT s) 0 0 := by
    intro j2
    refine z_load_n X (x := x) (show cdA 88 17 = some (.iload_n 1, 1, 0, 0, 0) from rfl) (List.Mem.tail _ (List.Mem.head _)) ?_
    refine z_bipush X (show cdA 88 18 = some (.bipush 63, 2, 0, 0, 63) from rfl) ?_
    refine z_band X (show cdA 88 20 = some (.iand, 1, 0, 0, 0) from rfl) ?_
    refine z_any (fun y3 hy3 => ?_)
    refine w_lushr X.1 (ax_d X (show cdA 88 21 = some (.lushr, 1, 0, 0, 0) from rfl)) ?_
    refine z_anyJ (fun j4 => ?_)
    refine w_lconst X.1 (ax_d X (show cdA 88 22 = some (.lconst 1, 1, 0, 0, 0) from rfl)) rfl ?_
    refine z_anyJ (fun j5 => ?_)
    refine w_land X.1 (ax_d X (show cdA 88 23 = some (.land, 1, 0, 0, 0) from rfl)) ?_
    refine z_anyJ (fun j6 => ?_)
    refine w_lconst X.1 (ax_d X (show cdA 88 24 = some (.lconst 0, 1, 0, 0, 0) from rfl)) rfl ?_
    refine z_anyJ (fun j7 => ?_)
    refine w_lcmp X.1 (ax_d X (show cdA 88 25 = some (.lcmp, 1, 0, 0, 0) from rfl)) ?_
    refine z_any (fun y8 hy8 => ?_)
    have N9 : ∀ e10 : Int, (((y8 = 0) ∧ e10 = 0) ∨ ((y8 ≠ 0) ∧ e10 = 1)) → WS k 34 [(0, .ref (A 67)), (1, .int (Int32.ofInt x))] [.int (Int32.ofInt e10)] (Wd A dT s) 0 0 := by
      intro e10 he10
      have re10 : 0 ≤ e10 ∧ e10 ≤ 1 := by omega
      exact w_iret X.1 q hRt (nar_ret (by first | exact oq_31e518ae re10.2 re10.1 | omega)) (ax_d X (show cdA 88 34 = some (.ireturn, 1, 0, 0, 0) from rfl)) (Nat.zero_le _) (Nat.zero_le _) ⟨_, rfl, I, F, e10, rfl, ⟨by first | exact oq_fa4e5087 re10.1 | omega, by first | exact oq_22e1e6b0 re10.2 | omega⟩, by first | exact oq_31e518ae re10.2 re10.1 | omega⟩
    refine z_if_eq X (t := 33) (show cdA 88 26 = some (.ifCond .eq 7, 3, 0, 0, 0) from rfl) (by decide) hy8 (fun g11 => ?_) (fun g11 => ?_)
    ·
      refine z_const X (show cdA 88 33 = some (.iconst 0, 1, 0, 0, 0) from rfl) ?_
      exact N9 _ (Or.inl ⟨g11, rfl⟩)
    ·
      refine z_const X (show cdA 88 29 = some (.iconst 1, 1, 0, 0, 0) from rfl) ?_
      refine z_goto X (t := 34) (show cdA 88 30 = some (.goto 4, 3, 0, 0, 0) from rfl) (by decide) ?_
      exact N9 _ (Or.inr (⟨g11, rfl⟩))
  refine z_icmp_ge X (t := 13) (show cdA 88 3 = some (.if_icmp .ge 10, 3, 3, 0, 0) from rfl) (by decide) ⟨by first | exact oq_fa4e5087 p0.1 | omega, by first | exact oq_07d346ce p0.2 | omega⟩ (by decide) (fun g12 => ?_) (fun g12 => ?_)
  ·
    refine z_aload_n X (x := A 67) (show cdA 88 13 = some (.aload_n 0, 1, 0, 0, 0) from rfl) (List.Mem.head _) ?_
    refine z_getJ X 67 (show cdA 88 14 = some (.getfield 67, 3, 8, 5, 0) from rfl) (by decide) rfl rfl (fun j13 => ?_)
    exact N1 _
  ·
    refine z_aload_n X (x := A 67) (show cdA 88 6 = some (.aload_n 0, 1, 0, 0, 0) from rfl) (List.Mem.head _) ?_
    refine z_getJ X 67 (show cdA 88 7 = some (.getfield 63, 3, 8, 4, 0) from rfl) (by decide) rfl rfl (fun j14 => ?_)
    refine z_goto X (t := 17) (show cdA 88 10 = some (.goto 7, 3, 0, 0, 0) from rfl) (by decide) ?_
    exact N1 _
set_option maxRecDepth 4000 in
theorem c8_shut_67 (G : GX l s0 D tys a0 dT) (I : Bd s) {x y : Int} (p0 : 0 ≤ x ∧ x ≤ 127) (p1 : y = 0 ∨ y = 1) : CT l s0 D A dT 87 (rmN 87) [.ref (A 67), .int (Int32.ofInt x), .int (Int32.ofInt y)] s (fun o t => Bd t ∧ Fm [1000, 1001] [] s t ∧ ∃ e, o = .inl (some (.int (Int32.ofInt e))) ∧ rng e ∧ (e = 0 ∨ e = 1)) := by
  refine ct_ofX G (by decide) (Nat.le_of_ble_eq_true rfl) (fun k X E ET hRt hXt q => ?_)
  show WS k 0 [(0, .ref (A 67)), (1, .int (Int32.ofInt x)), (2, .int (Int32.ofInt y))] [] _ 0 0
  have F : Fm [1000, 1001] [] s s := fm_rf _ _ s
  refine z_aload_n X (x := A 67) (show cdA 87 0 = some (.aload_n 0, 1, 0, 0, 0) from rfl) (List.Mem.head _) ?_
  refine z_load_n X (x := x) (show cdA 87 1 = some (.iload_n 1, 1, 0, 0, 0) from rfl) (List.Mem.tail _ (List.Mem.head _)) ?_
  refine z_callV X 67 (rm := rmN 88) (As := [.int (Int32.ofInt x)]) (st := []) (show cdA 87 2 = some (.invokevirtual 59, 3, 88, 0, 0) from rfl) rfl (by decide) rfl (by rw [E.1, E.2.1, E.2.2.1]; exact c8_isShut_67 G I (by first | exact ⟨p0.1, p0.2⟩ | omega)) ⟨by rw [E.2.2.2]; exact (show (rmN 88).frames + 1 ≤ (rmN 87).frames by decide), by rw [E.2.2.2]; exact (show 8 + (mNL (miB 88) + 11) + (rmN 88).locals ≤ (rmN 87).locals by decide), by rw [E.2.2.2]; exact (show 0 + (rmN 88).cells ≤ (rmN 87).cells by decide), by rw [E.2.2.2]; exact (show 0 + (rmN 88).slots ≤ (rmN 87).slots by decide)⟩ (Nat.le_of_ble_eq_true rfl) (fun vv s1 hq => ?_) (fun ee s1 hq => ?_)
  rotate_left
  · obtain ⟨Is1, Fs1, e2, hv, hrs1, hps1⟩ := hq; cases hv
  obtain ⟨Is1, Fs1, e2, hv, hrs1, hps1⟩ := hq
  cases hv
  have Gs1 := fm_ts F Fs1 (by decide) (by decide)
  show WS k 5 [(0, .ref (A 67)), (1, .int (Int32.ofInt x)), (2, .int (Int32.ofInt y))] [.int (Int32.ofInt e2)] (Wd A dT s1) 0 0
  refine z_store_n X (lv' := [(3, .int (Int32.ofInt e2)), (0, .ref (A 67)), (1, .int (Int32.ofInt x)), (2, .int (Int32.ofInt y))]) (show cdA 87 5 = some (.istore_n 3, 1, 0, 0, 0) from rfl) (by decide) (fun _ h => h) ?_
  refine z_load_n X (x := e2) (show cdA 87 6 = some (.iload_n 3, 1, 0, 0, 0) from rfl) (List.Mem.head _) ?_
  refine z_load_n X (x := y) (show cdA 87 7 = some (.iload_n 2, 1, 0, 0, 0) from rfl) (List.Mem.tail _ (List.Mem.tail _ (List.Mem.tail _ (List.Mem.head _)))) ?_
  refine z_icmp_ne X (t := 15) (show cdA 87 8 = some (.if_icmp .ne 7, 3, 1, 0, 0) from rfl) (by decide) hrs1 ⟨by first | exact oq_bde653e9 p1 | omega, by first | exact oq_4ad2cb8b p1 | omega⟩ (fun g3 => ?_) (fun g3 => ?_)
  ·
    refine w_lconst X.1 (ax_d X (show cdA 87 15 = some (.lconst 1, 1, 0, 0, 0) from rfl)) rfl ?_
    refine z_anyJ (fun j4 => ?_)
    refine z_load_n X (x := x) (show cdA 87 16 = some (.iload_n 1, 1, 0, 0, 0) from rfl) (List.Mem.tail _ (List.Mem.tail _ (List.Mem.head _))) ?_
    refine z_bipush X (show cdA 87 17 = some (.bipush 63, 2, 0, 0, 63) from rfl) ?_
    refine z_band X (show cdA 87 19 = some (.iand, 1, 0, 0, 0) from rfl) ?_
    refine z_any (fun y5 hy5 => ?_)
    refine w_lshl X.1 (ax_d X (show cdA 87 20 = some (.lshl, 1, 0, 0, 0) from rfl)) ?_
    refine z_anyJ (fun j6 => ?_)
    refine w_lstore X.1 (lv' := [(4, .long j6), (3, .int (Int32.ofInt e2)), (0, .ref (A 67)), (1, .int (Int32.ofInt x)), (2, .int (Int32.ofInt y))]) (ax_d X (show cdA 87 21 = some (.lstore 4, 2, 0, 0, 0) from rfl)) (by rw [X.2.1.2.2]; decide) (fun _ h => h) ?_
    refine z_load_n X (x := x) (show cdA 87 23 = some (.iload_n 1, 1, 0, 0, 0) from rfl) (List.Mem.tail _ (List.Mem.tail _ (List.Mem.tail _ (List.Mem.head _)))) ?_
    refine z_bipush X (show cdA 87 24 = some (.bipush 64, 2, 0, 0, 64) from rfl) ?_
    refine z_icmp_ge X (t := 43) (show cdA 87 26 = some (.if_icmp .ge 17, 3, 3, 0, 0) from rfl) (by decide) ⟨by first | exact oq_fa4e5087 p0.1 | omega, by first | exact oq_07d346ce p0.2 | omega⟩ (by decide) (fun g7 => ?_) (fun g7 => ?_)
    ·
      refine z_aload_n X (x := A 67) (show cdA 87 43 = some (.aload_n 0, 1, 0, 0, 0) from rfl) (List.Mem.tail _ (List.Mem.tail _ (List.Mem.head _))) ?_
      refine w_dup X.1 (ax_d X (show cdA 87 44 = some (.dup, 1, 0, 0, 0) from rfl)) rfl ?_
      refine z_getJ X 67 (show cdA 87 45 = some (.getfield 67, 3, 8, 5, 0) from rfl) (by decide) rfl rfl (fun j8 => ?_)
      refine w_lload X.1 (ax_d X (show cdA 87 48 = some (.lload 4, 2, 0, 0, 0) from rfl)) (x := j6) (List.Mem.head _) ?_
      refine w_lxor X.1 (ax_d X (show cdA 87 50 = some (.lxor, 1, 0, 0, 0) from rfl)) ?_
      refine z_anyJ (fun j9 => ?_)
      refine s_putJ X 67 (show cdA 87 51 = some (.putfield 67, 3, 8, 5, 0) from rfl) (by decide) rfl rfl (by decide) rfl rfl rfl ?_
      obtain ⟨s10, hs10⟩ : ∃ x0, x0 = uJ s1 1 j9 := ⟨_, rfl⟩
      rw [← hs10]
      have Is10 : Bd s10 := by rw [hs10]; exact bd_J Is1
      have Fs10 : Fm [1000, 1001] [] s s10 := by rw [hs10]; exact fm_J Gs1 (show 1 + 1000 ∈ _ by decide)
      refine z_load_n X (x := e2) (show cdA 87 54 = some (.iload_n 3, 1, 0, 0, 0) from rfl) (List.Mem.tail _ (List.Mem.head _)) ?_
      exact w_iret X.1 q hRt (nar_ret (by first | exact hps1 | omega)) (ax_d X (show cdA 87 55 = some (.ireturn, 1, 0, 0, 0) from rfl)) (Nat.zero_le _) (Nat.zero_le _) ⟨_, rfl, Is10, Fs10, e2, rfl, hrs1, by first | exact hps1 | omega⟩
    ·
      refine z_aload_n X (x := A 67) (show cdA 87 29 = some (.aload_n 0, 1, 0, 0, 0) from rfl) (List.Mem.tail _ (List.Mem.tail _ (List.Mem.head _))) ?_
      refine w_dup X.1 (ax_d X (show cdA 87 30 = some (.dup, 1, 0, 0, 0) from rfl)) rfl ?_
      refine z_getJ X 67 (show cdA 87 31 = some (.getfield 63, 3, 8, 4, 0) from rfl) (by decide) rfl rfl (fun j11 => ?_)
      refine w_lload X.1 (ax_d X (show cdA 87 34 = some (.lload 4, 2, 0, 0, 0) from rfl)) (x := j6) (List.Mem.head _) ?_
      refine w_lxor X.1 (ax_d X (show cdA 87 36 = some (.lxor, 1, 0, 0, 0) from rfl)) ?_
      refine z_anyJ (fun j12 => ?_)
      refine s_putJ X 67 (show cdA 87 37 = some (.putfield 63, 3, 8, 4, 0) from rfl) (by decide) rfl rfl (by decide) rfl rfl rfl ?_
      obtain ⟨s13, hs13⟩ : ∃ x0, x0 = uJ s1 0 j12 := ⟨_, rfl⟩
      rw [← hs13]
      have Is13 : Bd s13 := by rw [hs13]; exact bd_J Is1
      have Fs13 : Fm [1000, 1001] [] s s13 := by rw [hs13]; exact fm_J Gs1 (show 0 + 1000 ∈ _ by decide)
      refine z_goto X (t := 54) (show cdA 87 40 = some (.goto 14, 3, 0, 0, 0) from rfl) (by decide) ?_
      refine z_load_n X (x := e2) (show cdA 87 54 = some (.iload_n 3, 1, 0, 0, 0) from rfl) (List.Mem.tail _ (List.Mem.head _)) ?_
      exact w_iret X.1 q hRt (nar_ret (by first | exact hps1 | omega)) (ax_d X (show cdA 87 55 = some (.ireturn, 1, 0, 0, 0) from rfl)) (Nat.zero_le _) (Nat.zero_le _) ⟨_, rfl, Is13, Fs13, e2, rfl, hrs1, by first | exact hps1 | omega⟩
  ·
    refine w_lconst X.1 (ax_d X (show cdA 87 11 = some (.lconst 0, 1, 0, 0, 0) from rfl)) rfl ?_
    refine z_anyJ (fun j14 => ?_)
    refine z_goto X (t := 21) (show cdA 87 12 = some (.goto 9, 3, 0, 0, 0) from rfl) (by decide) ?_
    refine w_lstore X.1 (lv' := [(4, .long j14), (3, .int (Int32.ofInt e2)), (0, .ref (A 67)), (1, .int (Int32.ofInt x)), (2, .int (Int32.ofInt y))]) (ax_d X (show cdA 87 21 = some (.lstore 4, 2, 0, 0, 0) from rfl)) (by rw [X.2.1.2.2]; decide) (fun _ h => h) ?_
    refine z_load_n X (x := x) (show cdA 87 23 = some (.iload_n 1, 1, 0, 0, 0) from rfl) (List.Mem.tail _ (List.Mem.tail _ (List.Mem.tail _ (List.Mem.head _)))) ?_
    refine z_bipush X (show cdA 87 24 = some (.bipush 64, 2, 0, 0, 64) from rfl) ?_
    refine z_icmp_ge X (t := 43) (show cdA 87 26 = some (.if_icmp .ge 17, 3, 3, 0, 0) from rfl) (by decide) ⟨by first | exact oq_fa4e5087 p0.1 | omega, by first | exact oq_07d346ce p0.2 | omega⟩ (by decide) (fun g15 => ?_) (fun g15 => ?_)
    ·
      refine z_aload_n X (x := A 67) (show cdA 87 43 = some (.aload_n 0, 1, 0, 0, 0) from rfl) (List.Mem.tail _ (List.Mem.tail _ (List.Mem.head _))) ?_
      refine w_dup X.1 (ax_d X (show cdA 87 44 = some (.dup, 1, 0, 0, 0) from rfl)) rfl ?_
      refine z_getJ X 67 (show cdA 87 45 = some (.getfield 67, 3, 8, 5, 0) from rfl) (by decide) rfl rfl (fun j16 => ?_)
      refine w_lload X.1 (ax_d X (show cdA 87 48 = some (.lload 4, 2, 0, 0, 0) from rfl)) (x := j14) (List.Mem.head _) ?_
      refine w_lxor X.1 (ax_d X (show cdA 87 50 = some (.lxor, 1, 0, 0, 0) from rfl)) ?_
      refine z_anyJ (fun j17 => ?_)
      refine s_putJ X 67 (show cdA 87 51 = some (.putfield 67, 3, 8, 5, 0) from rfl) (by decide) rfl rfl (by decide) rfl rfl rfl ?_
      obtain ⟨s18, hs18⟩ : ∃ x0, x0 = uJ s1 1 j17 := ⟨_, rfl⟩
      rw [← hs18]
      have Is18 : Bd s18 := by rw [hs18]; exact bd_J Is1
      have Fs18 : Fm [1000, 1001] [] s s18 := by rw [hs18]; exact fm_J Gs1 (show 1 + 1000 ∈ _ by decide)
      refine z_load_n X (x := e2) (show cdA 87 54 = some (.iload_n 3, 1, 0, 0, 0) from rfl) (List.Mem.tail _ (List.Mem.head _)) ?_
      exact w_iret X.1 q hRt (nar_ret (by first | exact hps1 | omega)) (ax_d X (show cdA 87 55 = some (.ireturn, 1, 0, 0, 0) from rfl)) (Nat.zero_le _) (Nat.zero_le _) ⟨_, rfl, Is18, Fs18, e2, rfl, hrs1, by first | exact hps1 | omega⟩
    ·
      refine z_aload_n X (x := A 67) (show cdA 87 29 = some (.aload_n 0, 1, 0, 0, 0) from rfl) (List.Mem.tail _ (List.Mem.tail _ (List.Mem.head _))) ?_
      refine w_dup X.1 (ax_d X (show cdA 87 30 = some (.dup, 1, 0, 0, 0) from rfl)) rfl ?_
      refine z_getJ X 67 (show cdA 87 31 = some (.getfield 63, 3, 8, 4, 0) from rfl) (by decide) rfl rfl (fun j19 => ?_)
      refine w_lload X.1 (ax_d X (show cdA 87 34 = some (.lload 4, 2, 0, 0, 0) from rfl)) (x := j14) (List.Mem.head _) ?_
      refine w_lxor X.1 (ax_d X (show cdA 87 36 = some (.lxor, 1, 0, 0, 0) from rfl)) ?_
      refine z_anyJ (fun j20 => ?_)
      refine s_putJ X 67 (show cdA 87 37 = some (.putfield 63, 3, 8, 4, 0) from rfl) (by decide) rfl rfl (by decide) rfl rfl rfl ?_
      obtain ⟨s21, hs21⟩ : ∃ x0, x0 = uJ s1 0 j20 := ⟨_, rfl⟩
      rw [← hs21]
      have Is21 : Bd s21 := by rw [hs21]; exact bd_J Is1
      have Fs21 : Fm [1000, 1001] [] s s21 := by rw [hs21]; exact fm_J Gs1 (show 0 + 1000 ∈ _ by decide)
      refine z_goto X (t := 54) (show cdA 87 40 = some (.goto 14, 3, 0, 0, 0) from rfl) (by decide) ?_
      refine z_load_n X (x := e2) (show cdA 87 54 = some (.iload_n 3, 1, 0, 0, 0) from rfl) (List.Mem.tail _ (List.Mem.head _)) ?_
      exact w_iret X.1 q hRt (nar_ret (by first | exact hps1 | omega)) (ax_d X (show cdA 87 55 = some (.ireturn, 1, 0, 0, 0) from rfl)) (Nat.zero_le _) (Nat.zero_le _) ⟨_, rfl, Is21, Fs21, e2, rfl, hrs1, by first | exact hps1 | omega⟩
set_option maxRecDepth 4000 in
theorem c8_mendOf_67 (G : GX l s0 D tys a0 dT) (I : Bd s) {x : Int} (p0 : rng x) : CT l s0 D A dT 90 (rmN 90) [.ref (A 67), .int (Int32.ofInt x)] s (fun o t => Bd t ∧ Fm [] [] s t ∧ ∃ e, o = .inl (some (.int (Int32.ofInt e))) ∧ rng e ∧ (True)) := by
  refine ct_ofX G (by decide) (Nat.le_of_ble_eq_true rfl) (fun k X E ET hRt hXt q => ?_)
  show WS k 0 [(0, .ref (A 67)), (1, .int (Int32.ofInt x))] [] _ 0 0
  have F : Fm [] [] s s := fm_rf _ _ s
  have b1 : (0 : Int) ≤ iI s 41 ∧ iI s 41 ≤ 12 := I.1 41
  have L2 : ∀ (n : Nat) (t : PS) (xv c : Int), Bd t → Fm [] [] s t → (rng xv ∧ 0 ≤ c ∧ c ≤ 8) → (8 - c : Int).toNat < n → (∀ (t' : PS) (c' : Int), Bd t' → Fm [] [] s t' → (rng xv ∧ 0 ≤ c' ∧ c' ≤ 8) → WS k 39 [(0, .ref (A 67)), (1, .int (Int32.ofInt xv)), (2, .int (Int32.ofInt c'))] [] (Wd A dT t') 0 0) → WS k 2 [(0, .ref (A 67)), (1, .int (Int32.ofInt xv)), (2, .int (Int32.ofInt c))] [] (Wd A dT t) 0 0 := by
    intro n
    induction n with
    | zero =>
      intro t xv c I F hi hm kx
      exact absurd hm (Nat.not_lt_zero _)
    | succ n ih =>
      intro t xv c I F hi hm kx
      have b1001 : (0 : Int) ≤ iI t 41 ∧ iI t 41 ≤ 12 := I.1 41
      refine z_load_n X (x := c) (show cdA 90 2 = some (.iload_n 2, 1, 0, 0, 0) from rfl) (List.Mem.tail _ (List.Mem.tail _ (List.Mem.head _))) ?_
      refine z_aload_n X (x := A 67) (show cdA 90 3 = some (.aload_n 0, 1, 0, 0, 0) from rfl) (List.Mem.head _) ?_
      refine z_getI X 67 (show cdA 90 4 = some (.getfield 77, 3, 8, 9, 0) from rfl) (by decide) rfl rfl ?_
      have b1002 : (0 : Int) ≤ iI t 41 ∧ iI t 41 ≤ 12 := I.1 41
      refine z_icmp_ge X (t := 39) (show cdA 90 7 = some (.if_icmp .ge 32, 3, 3, 0, 0) from rfl) (by decide) ⟨by first | exact oq_fa4e5087 hi.2.1 | omega, by first | exact oq_d3f5d874 hi.2.2 | omega⟩ (rng_to _) (fun g1003 => ?_) (fun g1003 => ?_)
      ·
        refine WS_lv (lv := [(0, .ref (A 67)), (1, .int (Int32.ofInt xv)), (2, .int (Int32.ofInt c))]) (List.forall_mem_cons.mpr ⟨(List.Mem.head _), (List.forall_mem_cons.mpr ⟨(List.Mem.tail _ (List.Mem.head _)), (List.forall_mem_cons.mpr ⟨(List.Mem.tail _ (List.Mem.tail _ (List.Mem.head _))), (fun q h => absurd h List.not_mem_nil)⟩)⟩)⟩) ?_
        exact kx _ c I F (by first | exact ⟨And.intro (hi.1.1) (hi.1.2), hi.2.1, hi.2.2⟩ | omega)
      ·
        refine z_load_n X (x := c) (show cdA 90 10 = some (.iload_n 2, 1, 0, 0, 0) from rfl) (List.Mem.tail _ (List.Mem.tail _ (List.Mem.head _))) ?_
        refine z_bipush X (show cdA 90 11 = some (.bipush 8, 2, 0, 0, 8) from rfl) ?_
        refine z_icmp_ge X (t := 39) (show cdA 90 13 = some (.if_icmp .ge 26, 3, 3, 0, 0) from rfl) (by decide) ⟨by first | exact oq_fa4e5087 hi.2.1 | omega, by first | exact oq_d3f5d874 hi.2.2 | omega⟩ (by decide) (fun g1004 => ?_) (fun g1004 => ?_)
        ·
          refine WS_lv (lv := [(0, .ref (A 67)), (1, .int (Int32.ofInt xv)), (2, .int (Int32.ofInt c))]) (List.forall_mem_cons.mpr ⟨(List.Mem.head _), (List.forall_mem_cons.mpr ⟨(List.Mem.tail _ (List.Mem.head _)), (List.forall_mem_cons.mpr ⟨(List.Mem.tail _ (List.Mem.tail _ (List.Mem.head _))), (fun q h => absurd h List.not_mem_nil)⟩)⟩)⟩) ?_
          exact kx _ c I F (by first | exact ⟨And.intro (hi.1.1) (hi.1.2), hi.2.1, hi.2.2⟩ | omega)
        ·
          refine z_aload_n X (x := A 67) (show cdA 90 16 = some (.aload_n 0, 1, 0, 0, 0) from rfl) (List.Mem.head _) ?_
          refine s_getR X 67 (show cdA 90 17 = some (.getfield 24, 3, 8, 8, 0) from rfl) (by decide) rfl rfl ?_
          refine z_load_n X (x := c) (show cdA 90 20 = some (.iload_n 2, 1, 0, 0, 0) from rfl) (List.Mem.tail _ (List.Mem.tail _ (List.Mem.head _))) ?_
          refine z_ald X 85 (show cdA 90 21 = some (.iaload, 1, 0, 0, 0) from rfl) (by decide) rfl (by first | exact hi.2.1 | omega) (show c < 12 by first | exact oq_ab4b4dd4 g1004 | omega) (by decide) ?_
          have b1005 : (0 : Int) ≤ iC t 72 (c).toNat ∧ iC t 72 (c).toNat ≤ 11 := I.2 72 _ (show (c).toNat < 12 by first | exact oq_31ffc319 g1004 | omega)
          refine z_load_n X (x := xv) (show cdA 90 22 = some (.iload_n 1, 1, 0, 0, 0) from rfl) (List.Mem.tail _ (List.Mem.head _)) ?_
          refine z_icmp_ne X (t := 33) (show cdA 90 23 = some (.if_icmp .ne 10, 3, 1, 0, 0) from rfl) (by decide) (rng_to _) ⟨by first | exact hi.1.1 | omega, by first | exact hi.1.2 | omega⟩ (fun g1006 => ?_) (fun g1006 => ?_)
          ·
            refine z_inc X (x := c) (lv' := [(2, .int (Int32.ofInt (c + 1))), (0, .ref (A 67)), (1, .int (Int32.ofInt xv))]) (show cdA 90 33 = some (.iinc 2 1, 3, 0, 0, 0) from rfl) (by decide) (List.Mem.tail _ (List.Mem.tail _ (List.Mem.head _))) (fun _ h => h) ?_
            refine z_goto X (t := 2) (show cdA 90 36 = some (.goto (-34), 3, 0, 0, 0) from rfl) (by decide) ?_
            refine WS_lv (lv := [(0, .ref (A 67)), (1, .int (Int32.ofInt xv)), (2, .int (Int32.ofInt (c + 1)))]) (List.forall_mem_cons.mpr ⟨(List.Mem.tail _ (List.Mem.head _)), (List.forall_mem_cons.mpr ⟨(List.Mem.tail _ (List.Mem.tail _ (List.Mem.head _))), (List.forall_mem_cons.mpr ⟨(List.Mem.head _), (fun q h => absurd h List.not_mem_nil)⟩)⟩)⟩) ?_
            exact ih _ xv (c + 1) I F (by first | exact ⟨And.intro (hi.1.1) (hi.1.2), oq_54f49eb5 hi.2.1, oq_0c7b19c3 g1004⟩ | omega) (by first | exact qk_me hm (by decide) (oq_9f368f35 g1004) | omega) kx
          ·
            refine z_aload_n X (x := A 67) (show cdA 90 26 = some (.aload_n 0, 1, 0, 0, 0) from rfl) (List.Mem.head _) ?_
            refine s_getR X 67 (show cdA 90 27 = some (.getfield 34, 3, 8, 12, 0) from rfl) (by decide) rfl rfl ?_
            refine z_load_n X (x := c) (show cdA 90 30 = some (.iload_n 2, 1, 0, 0, 0) from rfl) (List.Mem.tail _ (List.Mem.tail _ (List.Mem.head _))) ?_
            refine z_ald X 88 (show cdA 90 31 = some (.iaload, 1, 0, 0, 0) from rfl) (by decide) rfl (by first | exact hi.2.1 | omega) (show c < 8 by first | exact g1004 | omega) (by decide) ?_
            have b1007 : ((-2147483648) : Int) ≤ iC t 75 (c).toNat ∧ iC t 75 (c).toNat ≤ 2147483647 := I.2 75 _ (show (c).toNat < 8 by first | exact oq_db4b3b8b g1004 | omega)
            exact w_iret X.1 q hRt rfl (ax_d X (show cdA 90 32 = some (.ireturn, 1, 0, 0, 0) from rfl)) (Nat.zero_le _) (Nat.zero_le _) ⟨_, rfl, I, F, (iC t 75 (c).toNat), rfl, (rng_to _), trivial⟩
  refine z_const X (show cdA 90 0 = some (.iconst 0, 1, 0, 0, 0) from rfl) ?_
  refine z_store_n X (lv' := [(2, .int (Int32.ofInt 0)), (0, .ref (A 67)), (1, .int (Int32.ofInt x))]) (show cdA 90 1 = some (.istore_n 2, 1, 0, 0, 0) from rfl) (by decide) (fun _ h => h) ?_
  refine WS_lv (lv := [(0, .ref (A 67)), (1, .int (Int32.ofInt x)), (2, .int (Int32.ofInt 0))]) (List.forall_mem_cons.mpr ⟨(List.Mem.tail _ (List.Mem.head _)), (List.forall_mem_cons.mpr ⟨(List.Mem.tail _ (List.Mem.tail _ (List.Mem.head _))), (List.forall_mem_cons.mpr ⟨(List.Mem.head _), (fun q h => absurd h List.not_mem_nil)⟩)⟩)⟩) ?_
  refine L2 ((8 - 0 : Int).toNat + 1) s x 0 I F (by first | exact ⟨And.intro (p0.1) (p0.2), by decide, by decide⟩ | omega) (Nat.lt_succ_self _) ?_
  intro s2 x3 Is2 Fs2 hs2
  have b4 : (0 : Int) ≤ iI s2 41 ∧ iI s2 41 ≤ 12 := Is2.1 41
  refine z_const X (show cdA 90 39 = some (.iconst 0, 1, 0, 0, 0) from rfl) ?_
  exact w_iret X.1 q hRt rfl (ax_d X (show cdA 90 40 = some (.ireturn, 1, 0, 0, 0) from rfl)) (Nat.zero_le _) (Nat.zero_le _) ⟨_, rfl, Is2, Fs2, 0, rfl, (by decide), trivial⟩
set_option maxRecDepth 4000 in
theorem c8_spreadFrom_67 (G : GX l s0 D tys a0 dT) (I : Bd s) {x : Int} (p0 : 0 ≤ x ∧ x ≤ 127) : CT l s0 D A dT 94 (rmN 94) [.ref (A 67), .int (Int32.ofInt x)] s (fun o t => Bd t ∧ Fm [] [77, 78] s t ∧ o = .inl none ∧ (True)) := by
  refine ct_ofX G (by decide) (Nat.le_of_ble_eq_true rfl) (fun k X E ET hRt hXt q => ?_)
  show WS k 0 [(0, .ref (A 67)), (1, .int (Int32.ofInt x))] [] _ 0 0
  have F : Fm [] [77, 78] s s := fm_rf _ _ s
  have L41 : ∀ (n : Nat) (t : PS) (xv tl hd g : Int), Bd t → Fm [] [77, 78] s t → ((0 ≤ xv ∧ xv ≤ 127) ∧ (0 ≤ tl ∧ tl ≤ 128) ∧ (0 ≤ hd ∧ hd ≤ 127) ∧ 0 ≤ g ∧ g ≤ 6) → (6 - g : Int).toNat < n → (∀ (t' : PS) (tl' g' : Int), Bd t' → Fm [] [77, 78] s t' → ((0 ≤ xv ∧ xv ≤ 127) ∧ (0 ≤ tl' ∧ tl' ≤ 128) ∧ (0 ≤ hd ∧ hd ≤ 127) ∧ 0 ≤ g' ∧ g' ≤ 6) → WS k 131 [(0, .ref (A 67)), (1, .int (Int32.ofInt xv)), (2, .int (Int32.ofInt tl')), (3, .int (Int32.ofInt hd)), (4, .int (Int32.ofInt g'))] [] (Wd A dT t') 0 0) → WS k 41 [(0, .ref (A 67)), (1, .int (Int32.ofInt xv)), (2, .int (Int32.ofInt tl)), (3, .int (Int32.ofInt hd)), (4, .int (Int32.ofInt g))] [] (Wd A dT t) 0 0 := by
    intro n
    induction n with
    | zero =>
      intro t xv tl hd g I F hi hm kx
      exact absurd hm (Nat.not_lt_zero _)
    | succ n ih =>
      intro t xv tl hd g I F hi hm kx
      refine z_load X (x := g) (show cdA 94 41 = some (.iload 4, 2, 0, 0, 0) from rfl) (List.Mem.tail _ (List.Mem.tail _ (List.Mem.tail _ (List.Mem.tail _ (List.Mem.head _))))) ?_
      refine z_bipush X (show cdA 94 43 = some (.bipush 6, 2, 0, 0, 6) from rfl) ?_
      refine z_icmp_ge X (t := 131) (show cdA 94 45 = some (.if_icmp .ge 86, 3, 3, 0, 0) from rfl) (by decide) ⟨by first | exact oq_fa4e5087 hi.2.2.2.1 | omega, by first | exact oq_b301c3bf hi.2.2.2.2 | omega⟩ (by decide) (fun g1001 => ?_) (fun g1001 => ?_)
      ·
        refine WS_lv (lv := [(0, .ref (A 67)), (1, .int (Int32.ofInt xv)), (2, .int (Int32.ofInt tl)), (3, .int (Int32.ofInt hd)), (4, .int (Int32.ofInt g))]) (List.forall_mem_cons.mpr ⟨(List.Mem.head _), (List.forall_mem_cons.mpr ⟨(List.Mem.tail _ (List.Mem.head _)), (List.forall_mem_cons.mpr ⟨(List.Mem.tail _ (List.Mem.tail _ (List.Mem.head _))), (List.forall_mem_cons.mpr ⟨(List.Mem.tail _ (List.Mem.tail _ (List.Mem.tail _ (List.Mem.head _)))), (List.forall_mem_cons.mpr ⟨(List.Mem.tail _ (List.Mem.tail _ (List.Mem.tail _ (List.Mem.tail _ (List.Mem.head _))))), (fun q h => absurd h List.not_mem_nil)⟩)⟩)⟩)⟩)⟩) ?_
        exact kx _ tl g I F (by first | exact ⟨And.intro (hi.1.1) (hi.1.2), And.intro (hi.2.1.1) (hi.2.1.2), And.intro (hi.2.2.1.1) (hi.2.2.1.2), hi.2.2.2.1, hi.2.2.2.2⟩ | omega)
      ·
        refine z_aload_n X (x := A 67) (show cdA 94 48 = some (.aload_n 0, 1, 0, 0, 0) from rfl) (List.Mem.head _) ?_
        refine s_getR X 67 (show cdA 94 49 = some (.getfield 43, 3, 8, 16, 0) from rfl) (by decide) rfl rfl ?_
        refine z_load_n X (x := hd) (show cdA 94 52 = some (.iload_n 3, 1, 0, 0, 0) from rfl) (List.Mem.tail _ (List.Mem.tail _ (List.Mem.tail _ (List.Mem.head _)))) ?_
        refine z_ald X 91 (show cdA 94 53 = some (.iaload, 1, 0, 0, 0) from rfl) (by decide) rfl (by first | exact hi.2.2.1.1 | omega) (show hd < 128 by first | exact oq_31b2bf10 hi.2.2.1.2 | omega) (by decide) ?_
        have b1002 : (0 : Int) ≤ iC t 78 (hd).toNat ∧ iC t 78 (hd).toNat ≤ 127 := I.2 78 _ (show (hd).toNat < 128 by first | exact oq_c7f4e9c1 hi.2.2.1.2 | omega)
        refine z_load X (x := g) (show cdA 94 54 = some (.iload 4, 2, 0, 0, 0) from rfl) (List.Mem.tail _ (List.Mem.tail _ (List.Mem.tail _ (List.Mem.tail _ (List.Mem.head _))))) ?_
        refine z_callS X (rm := rmN 100) (As := [.int (Int32.ofInt (iC t 78 (hd).toNat)), .int (Int32.ofInt g)]) (st := []) (show cdA 94 56 = some (.invokestatic 152, 3, 100, 1, 0) from rfl) rfl (by rw [E.1, E.2.1, E.2.2.1]; exact c9_stepFrom G I (by first | exact ⟨b1002.1, b1002.2⟩ | omega) (by first | exact ⟨hi.2.2.2.1, oq_a4cef127 g1001⟩ | omega)) ⟨by rw [E.2.2.2]; exact (show (rmN 100).frames + 1 ≤ (rmN 94).frames by decide), by rw [E.2.2.2]; exact (show 8 + (mNL (miB 100) + 11) + (rmN 100).locals ≤ (rmN 94).locals by decide), by rw [E.2.2.2]; exact (show 0 + (rmN 100).cells ≤ (rmN 94).cells by decide), by rw [E.2.2.2]; exact (show 0 + (rmN 100).slots ≤ (rmN 94).slots by decide)⟩ (Nat.le_of_ble_eq_true rfl) (fun vv s1003 hq => ?_) (fun ee s1003 hq => ?_)
        rotate_left
        · obtain ⟨rfl, e1004, hv, hrs1003, hps1003⟩ := hq; cases hv
        obtain ⟨rfl, e1004, hv, hrs1003, hps1003⟩ := hq
        cases hv
        show WS k 59 [(0, .ref (A 67)), (1, .int (Int32.ofInt xv)), (2, .int (Int32.ofInt tl)), (3, .int (Int32.ofInt hd)), (4, .int (Int32.ofInt g))] [.int (Int32.ofInt e1004)] (Wd A dT t) 0 0
        refine z_store X (lv' := [(5, .int (Int32.ofInt e1004)), (0, .ref (A 67)), (1, .int (Int32.ofInt xv)), (2, .int (Int32.ofInt tl)), (3, .int (Int32.ofInt hd)), (4, .int (Int32.ofInt g))]) (show cdA 94 59 = some (.istore 5, 2, 0, 0, 0) from rfl) (by decide) (fun _ h => h) ?_
        refine z_load X (x := e1004) (show cdA 94 61 = some (.iload 5, 2, 0, 0, 0) from rfl) (List.Mem.head _) ?_
        refine z_const X (show cdA 94 63 = some (.iconst (-1), 1, 0, 0, 0) from rfl) ?_
        refine z_icmp_eq X (t := 125) (show cdA 94 64 = some (.if_icmp .eq 61, 3, 0, 0, 0) from rfl) (by decide) hrs1003 (by decide) (fun g1005 => ?_) (fun g1005 => ?_)
        ·
          refine z_inc X (x := g) (lv' := [(4, .int (Int32.ofInt (g + 1))), (5, .int (Int32.ofInt e1004)), (0, .ref (A 67)), (1, .int (Int32.ofInt xv)), (2, .int (Int32.ofInt tl)), (3, .int (Int32.ofInt hd))]) (show cdA 94 125 = some (.iinc 4 1, 3, 0, 0, 0) from rfl) (by decide) (List.Mem.tail _ (List.Mem.tail _ (List.Mem.tail _ (List.Mem.tail _ (List.Mem.tail _ (List.Mem.head _)))))) (fun _ h => h) ?_
          refine z_goto X (t := 41) (show cdA 94 128 = some (.goto (-87), 3, 0, 0, 0) from rfl) (by decide) ?_
          refine WS_lv (lv := [(0, .ref (A 67)), (1, .int (Int32.ofInt xv)), (2, .int (Int32.ofInt tl)), (3, .int (Int32.ofInt hd)), (4, .int (Int32.ofInt (g + 1)))]) (List.forall_mem_cons.mpr ⟨(List.Mem.tail _ (List.Mem.tail _ (List.Mem.head _))), (List.forall_mem_cons.mpr ⟨(List.Mem.tail _ (List.Mem.tail _ (List.Mem.tail _ (List.Mem.head _)))), (List.forall_mem_cons.mpr ⟨(List.Mem.tail _ (List.Mem.tail _ (List.Mem.tail _ (List.Mem.tail _ (List.Mem.head _))))), (List.forall_mem_cons.mpr ⟨(List.Mem.tail _ (List.Mem.tail _ (List.Mem.tail _ (List.Mem.tail _ (List.Mem.tail _ (List.Mem.head _)))))), (List.forall_mem_cons.mpr ⟨(List.Mem.head _), (fun q h => absurd h List.not_mem_nil)⟩)⟩)⟩)⟩)⟩) ?_
          exact ih _ xv tl hd (g + 1) I F (by first | exact ⟨And.intro (hi.1.1) (hi.1.2), And.intro (hi.2.1.1) (hi.2.1.2), And.intro (hi.2.2.1.1) (hi.2.2.1.2), oq_54f49eb5 hi.2.2.2.1, oq_5bf54478 g1001⟩ | omega) (by first | exact qk_me hm (by decide) (oq_2265a080 g1001) | omega) kx
        ·
          refine z_aload_n X (x := A 67) (show cdA 94 67 = some (.aload_n 0, 1, 0, 0, 0) from rfl) (List.Mem.tail _ (List.Mem.head _)) ?_
          refine s_getR X 67 (show cdA 94 68 = some (.getfield 40, 3, 8, 15, 0) from rfl) (by decide) rfl rfl ?_
          refine z_load X (x := e1004) (show cdA 94 71 = some (.iload 5, 2, 0, 0, 0) from rfl) (List.Mem.head _) ?_
          refine z_ald X 90 (show cdA 94 73 = some (.iaload, 1, 0, 0, 0) from rfl) (by decide) rfl (by first | exact oq_7a1025bf g1005 hps1003.1 | omega) (show e1004 < 128 by first | exact oq_31b2bf10 hps1003.2 | omega) (by decide) ?_
          have b1006 : ((-2147483648) : Int) ≤ iC t 77 (e1004).toNat ∧ iC t 77 (e1004).toNat ≤ 2147483647 := I.2 77 _ (show (e1004).toNat < 128 by first | exact oq_c7f4e9c1 hps1003.2 | omega)
          refine z_const X (show cdA 94 74 = some (.iconst (-1), 1, 0, 0, 0) from rfl) ?_
          refine z_icmp_ne X (t := 125) (show cdA 94 75 = some (.if_icmp .ne 50, 3, 1, 0, 0) from rfl) (by decide) (rng_to _) (by decide) (fun g1007 => ?_) (fun g1007 => ?_)
          ·
            refine z_inc X (x := g) (lv' := [(4, .int (Int32.ofInt (g + 1))), (5, .int (Int32.ofInt e1004)), (0, .ref (A 67)), (1, .int (Int32.ofInt xv)), (2, .int (Int32.ofInt tl)), (3, .int (Int32.ofInt hd))]) (show cdA 94 125 = some (.iinc 4 1, 3, 0, 0, 0) from rfl) (by decide) (List.Mem.tail _ (List.Mem.tail _ (List.Mem.tail _ (List.Mem.tail _ (List.Mem.tail _ (List.Mem.head _)))))) (fun _ h => h) ?_
            refine z_goto X (t := 41) (show cdA 94 128 = some (.goto (-87), 3, 0, 0, 0) from rfl) (by decide) ?_
            refine WS_lv (lv := [(0, .ref (A 67)), (1, .int (Int32.ofInt xv)), (2, .int (Int32.ofInt tl)), (3, .int (Int32.ofInt hd)), (4, .int (Int32.ofInt (g + 1)))]) (List.forall_mem_cons.mpr ⟨(List.Mem.tail _ (List.Mem.tail _ (List.Mem.head _))), (List.forall_mem_cons.mpr ⟨(List.Mem.tail _ (List.Mem.tail _ (List.Mem.tail _ (List.Mem.head _)))), (List.forall_mem_cons.mpr ⟨(List.Mem.tail _ (List.Mem.tail _ (List.Mem.tail _ (List.Mem.tail _ (List.Mem.head _))))), (List.forall_mem_cons.mpr ⟨(List.Mem.tail _ (List.Mem.tail _ (List.Mem.tail _ (List.Mem.tail _ (List.Mem.tail _ (List.Mem.head _)))))), (List.forall_mem_cons.mpr ⟨(List.Mem.head _), (fun q h => absurd h List.not_mem_nil)⟩)⟩)⟩)⟩)⟩) ?_
            exact ih _ xv tl hd (g + 1) I F (by first | exact ⟨And.intro (hi.1.1) (hi.1.2), And.intro (hi.2.1.1) (hi.2.1.2), And.intro (hi.2.2.1.1) (hi.2.2.1.2), oq_54f49eb5 hi.2.2.2.1, oq_5bf54478 g1001⟩ | omega) (by first | exact qk_me hm (by decide) (oq_2265a080 g1001) | omega) kx
          ·
            refine z_aload_n X (x := A 67) (show cdA 94 78 = some (.aload_n 0, 1, 0, 0, 0) from rfl) (List.Mem.tail _ (List.Mem.head _)) ?_
            refine z_load X (x := e1004) (show cdA 94 79 = some (.iload 5, 2, 0, 0, 0) from rfl) (List.Mem.head _) ?_
            refine z_callV X 67 (rm := rmN 88) (As := [.int (Int32.ofInt e1004)]) (st := []) (show cdA 94 81 = some (.invokevirtual 59, 3, 88, 0, 0) from rfl) rfl (by decide) rfl (by rw [E.1, E.2.1, E.2.2.1]; exact c8_isShut_67 G I (by first | exact ⟨oq_7a1025bf g1005 hps1003.1, hps1003.2⟩ | omega)) ⟨by rw [E.2.2.2]; exact (show (rmN 88).frames + 1 ≤ (rmN 94).frames by decide), by rw [E.2.2.2]; exact (show 8 + (mNL (miB 88) + 11) + (rmN 88).locals ≤ (rmN 94).locals by decide), by rw [E.2.2.2]; exact (show 0 + (rmN 88).cells ≤ (rmN 94).cells by decide), by rw [E.2.2.2]; exact (show 0 + (rmN 88).slots ≤ (rmN 94).slots by decide)⟩ (Nat.le_of_ble_eq_true rfl) (fun vv s1008 hq => ?_) (fun ee s1008 hq => ?_)
            rotate_left
            · obtain ⟨Is1008, Fs1008, e1009, hv, hrs1008, hps1008⟩ := hq; cases hv
            obtain ⟨Is1008, Fs1008, e1009, hv, hrs1008, hps1008⟩ := hq
            cases hv
            have Gs1008 := fm_ts F Fs1008 (by decide) (by decide)
            show WS k 84 [(5, .int (Int32.ofInt e1004)), (0, .ref (A 67)), (1, .int (Int32.ofInt xv)), (2, .int (Int32.ofInt tl)), (3, .int (Int32.ofInt hd)), (4, .int (Int32.ofInt g))] [.int (Int32.ofInt e1009)] (Wd A dT s1008) 0 0
            refine z_if_ne X (t := 125) (show cdA 94 84 = some (.ifCond .ne 41, 3, 1, 0, 0) from rfl) (by decide) hrs1008 (fun g1010 => ?_) (fun g1010 => ?_)
            ·
              refine z_inc X (x := g) (lv' := [(4, .int (Int32.ofInt (g + 1))), (5, .int (Int32.ofInt e1004)), (0, .ref (A 67)), (1, .int (Int32.ofInt xv)), (2, .int (Int32.ofInt tl)), (3, .int (Int32.ofInt hd))]) (show cdA 94 125 = some (.iinc 4 1, 3, 0, 0, 0) from rfl) (by decide) (List.Mem.tail _ (List.Mem.tail _ (List.Mem.tail _ (List.Mem.tail _ (List.Mem.tail _ (List.Mem.head _)))))) (fun _ h => h) ?_
              refine z_goto X (t := 41) (show cdA 94 128 = some (.goto (-87), 3, 0, 0, 0) from rfl) (by decide) ?_
              refine WS_lv (lv := [(0, .ref (A 67)), (1, .int (Int32.ofInt xv)), (2, .int (Int32.ofInt tl)), (3, .int (Int32.ofInt hd)), (4, .int (Int32.ofInt (g + 1)))]) (List.forall_mem_cons.mpr ⟨(List.Mem.tail _ (List.Mem.tail _ (List.Mem.head _))), (List.forall_mem_cons.mpr ⟨(List.Mem.tail _ (List.Mem.tail _ (List.Mem.tail _ (List.Mem.head _)))), (List.forall_mem_cons.mpr ⟨(List.Mem.tail _ (List.Mem.tail _ (List.Mem.tail _ (List.Mem.tail _ (List.Mem.head _))))), (List.forall_mem_cons.mpr ⟨(List.Mem.tail _ (List.Mem.tail _ (List.Mem.tail _ (List.Mem.tail _ (List.Mem.tail _ (List.Mem.head _)))))), (List.forall_mem_cons.mpr ⟨(List.Mem.head _), (fun q h => absurd h List.not_mem_nil)⟩)⟩)⟩)⟩)⟩) ?_
              exact ih _ xv tl hd (g + 1) Is1008 Gs1008 (by first | exact ⟨And.intro (hi.1.1) (hi.1.2), And.intro (hi.2.1.1) (hi.2.1.2), And.intro (hi.2.2.1.1) (hi.2.2.1.2), oq_54f49eb5 hi.2.2.2.1, oq_5bf54478 g1001⟩ | omega) (by first | exact qk_me hm (by decide) (oq_2265a080 g1001) | omega) kx
            ·
              refine z_load_n X (x := tl) (show cdA 94 87 = some (.iload_n 2, 1, 0, 0, 0) from rfl) (List.Mem.tail _ (List.Mem.tail _ (List.Mem.tail _ (List.Mem.head _)))) ?_
              refine z_sipush X (show cdA 94 88 = some (.sipush 128, 3, 0, 0, 128) from rfl) ?_
              refine z_icmp_ge X (t := 125) (show cdA 94 91 = some (.if_icmp .ge 34, 3, 3, 0, 0) from rfl) (by decide) ⟨by first | exact oq_fa4e5087 hi.2.1.1 | omega, by first | exact oq_4ee82282 hi.2.1.2 | omega⟩ (by decide) (fun g1011 => ?_) (fun g1011 => ?_)
              ·
                refine z_inc X (x := g) (lv' := [(4, .int (Int32.ofInt (g + 1))), (5, .int (Int32.ofInt e1004)), (0, .ref (A 67)), (1, .int (Int32.ofInt xv)), (2, .int (Int32.ofInt tl)), (3, .int (Int32.ofInt hd))]) (show cdA 94 125 = some (.iinc 4 1, 3, 0, 0, 0) from rfl) (by decide) (List.Mem.tail _ (List.Mem.tail _ (List.Mem.tail _ (List.Mem.tail _ (List.Mem.tail _ (List.Mem.head _)))))) (fun _ h => h) ?_
                refine z_goto X (t := 41) (show cdA 94 128 = some (.goto (-87), 3, 0, 0, 0) from rfl) (by decide) ?_
                refine WS_lv (lv := [(0, .ref (A 67)), (1, .int (Int32.ofInt xv)), (2, .int (Int32.ofInt tl)), (3, .int (Int32.ofInt hd)), (4, .int (Int32.ofInt (g + 1)))]) (List.forall_mem_cons.mpr ⟨(List.Mem.tail _ (List.Mem.tail _ (List.Mem.head _))), (List.forall_mem_cons.mpr ⟨(List.Mem.tail _ (List.Mem.tail _ (List.Mem.tail _ (List.Mem.head _)))), (List.forall_mem_cons.mpr ⟨(List.Mem.tail _ (List.Mem.tail _ (List.Mem.tail _ (List.Mem.tail _ (List.Mem.head _))))), (List.forall_mem_cons.mpr ⟨(List.Mem.tail _ (List.Mem.tail _ (List.Mem.tail _ (List.Mem.tail _ (List.Mem.tail _ (List.Mem.head _)))))), (List.forall_mem_cons.mpr ⟨(List.Mem.head _), (fun q h => absurd h List.not_mem_nil)⟩)⟩)⟩)⟩)⟩) ?_
                exact ih _ xv tl hd (g + 1) Is1008 Gs1008 (by first | exact ⟨And.intro (hi.1.1) (hi.1.2), And.intro (hi.2.1.1) (hi.2.1.2), And.intro (hi.2.2.1.1) (hi.2.2.1.2), oq_54f49eb5 hi.2.2.2.1, oq_5bf54478 g1001⟩ | omega) (by first | exact qk_me hm (by decide) (oq_2265a080 g1001) | omega) kx
              ·
                refine z_aload_n X (x := A 67) (show cdA 94 94 = some (.aload_n 0, 1, 0, 0, 0) from rfl) (List.Mem.tail _ (List.Mem.head _)) ?_
                refine s_getR X 67 (show cdA 94 95 = some (.getfield 40, 3, 8, 15, 0) from rfl) (by decide) rfl rfl ?_
                refine z_load X (x := e1004) (show cdA 94 98 = some (.iload 5, 2, 0, 0, 0) from rfl) (List.Mem.head _) ?_
                refine z_aload_n X (x := A 67) (show cdA 94 100 = some (.aload_n 0, 1, 0, 0, 0) from rfl) (List.Mem.tail _ (List.Mem.head _)) ?_
                refine s_getR X 67 (show cdA 94 101 = some (.getfield 40, 3, 8, 15, 0) from rfl) (by decide) rfl rfl ?_
                refine z_aload_n X (x := A 67) (show cdA 94 104 = some (.aload_n 0, 1, 0, 0, 0) from rfl) (List.Mem.tail _ (List.Mem.head _)) ?_
                refine s_getR X 67 (show cdA 94 105 = some (.getfield 43, 3, 8, 16, 0) from rfl) (by decide) rfl rfl ?_
                refine z_load_n X (x := hd) (show cdA 94 108 = some (.iload_n 3, 1, 0, 0, 0) from rfl) (List.Mem.tail _ (List.Mem.tail _ (List.Mem.tail _ (List.Mem.tail _ (List.Mem.head _))))) ?_
                refine z_ald X 91 (show cdA 94 109 = some (.iaload, 1, 0, 0, 0) from rfl) (by decide) rfl (by first | exact hi.2.2.1.1 | omega) (show hd < 128 by first | exact oq_31b2bf10 hi.2.2.1.2 | omega) (by decide) ?_
                have b1012 : (0 : Int) ≤ iC s1008 78 (hd).toNat ∧ iC s1008 78 (hd).toNat ≤ 127 := Is1008.2 78 _ (show (hd).toNat < 128 by first | exact oq_c7f4e9c1 hi.2.2.1.2 | omega)
                refine z_ald X 90 (show cdA 94 110 = some (.iaload, 1, 0, 0, 0) from rfl) (by decide) rfl (by first | exact b1012.1 | omega) (show (iC s1008 78 (hd).toNat) < 128 by first | exact oq_31b2bf10 b1012.2 | omega) (by decide) ?_
                have b1013 : ((-2147483648) : Int) ≤ iC s1008 77 ((iC s1008 78 (hd).toNat)).toNat ∧ iC s1008 77 ((iC s1008 78 (hd).toNat)).toNat ≤ 2147483647 := Is1008.2 77 _ (show ((iC s1008 78 (hd).toNat)).toNat < 128 by first | exact oq_c7f4e9c1 b1012.2 | omega)
                refine z_const X (show cdA 94 111 = some (.iconst 1, 1, 0, 0, 0) from rfl) ?_
                refine z_add X (show cdA 94 112 = some (.iadd, 1, 0, 0, 0) from rfl) ?_
                refine z_any (fun y1014 hy1014 => ?_)
                refine z_ast X 90 (show cdA 94 113 = some (.iastore, 1, 0, 0, 0) from rfl) (by decide) rfl (by first | exact oq_7a1025bf g1005 hps1003.1 | omega) (show e1004 < 128 by first | exact oq_31b2bf10 hps1003.2 | omega) (by decide) ?_
                obtain ⟨s1015, hs1015⟩ : ∃ x0, x0 = uC s1008 77 (e1004).toNat (Int32.ofInt y1014) := ⟨_, rfl⟩
                rw [← hs1015]
                have Is1015 : Bd s1015 := by rw [hs1015]; exact bd_C Is1008 (show ((-2147483648) : Int) ≤ y1014 ∧ y1014 ≤ 2147483647 by first | exact ⟨hy1014.1, hy1014.2⟩ | omega) hy1014
                have Fs1015 := fm_C (i := (e1004).toNat) (x := Int32.ofInt y1014) Gs1008 (show 77 ∈ _ by decide)
                rw [← hs1015] at Fs1015
                refine z_aload_n X (x := A 67) (show cdA 94 114 = some (.aload_n 0, 1, 0, 0, 0) from rfl) (List.Mem.tail _ (List.Mem.head _)) ?_
                refine s_getR X 67 (show cdA 94 115 = some (.getfield 43, 3, 8, 16, 0) from rfl) (by decide) rfl rfl ?_
                refine z_load_n X (x := tl) (show cdA 94 118 = some (.iload_n 2, 1, 0, 0, 0) from rfl) (List.Mem.tail _ (List.Mem.tail _ (List.Mem.tail _ (List.Mem.head _)))) ?_
                refine z_load X (x := e1004) (show cdA 94 119 = some (.iload 5, 2, 0, 0, 0) from rfl) (List.Mem.head _) ?_
                refine z_ast X 91 (show cdA 94 121 = some (.iastore, 1, 0, 0, 0) from rfl) (by decide) rfl (by first | exact hi.2.1.1 | omega) (show tl < 128 by first | exact g1011 | omega) (by decide) ?_
                obtain ⟨s1016, hs1016⟩ : ∃ x0, x0 = uC s1015 78 (tl).toNat (Int32.ofInt e1004) := ⟨_, rfl⟩
                rw [← hs1016]
                have Is1016 : Bd s1016 := by rw [hs1016]; exact bd_C Is1015 (show (0 : Int) ≤ e1004 ∧ e1004 ≤ 127 by first | exact ⟨oq_7a1025bf g1005 hps1003.1, hps1003.2⟩ | omega) hrs1003
                have Fs1016 := fm_C (i := (tl).toNat) (x := Int32.ofInt e1004) Fs1015 (show 78 ∈ _ by decide)
                rw [← hs1016] at Fs1016
                refine z_inc X (x := tl) (lv' := [(2, .int (Int32.ofInt (tl + 1))), (5, .int (Int32.ofInt e1004)), (0, .ref (A 67)), (1, .int (Int32.ofInt xv)), (3, .int (Int32.ofInt hd)), (4, .int (Int32.ofInt g))]) (show cdA 94 122 = some (.iinc 2 1, 3, 0, 0, 0) from rfl) (by decide) (List.Mem.tail _ (List.Mem.tail _ (List.Mem.tail _ (List.Mem.head _)))) (fun _ h => h) ?_
                refine z_inc X (x := g) (lv' := [(4, .int (Int32.ofInt (g + 1))), (2, .int (Int32.ofInt (tl + 1))), (5, .int (Int32.ofInt e1004)), (0, .ref (A 67)), (1, .int (Int32.ofInt xv)), (3, .int (Int32.ofInt hd))]) (show cdA 94 125 = some (.iinc 4 1, 3, 0, 0, 0) from rfl) (by decide) (List.Mem.tail _ (List.Mem.tail _ (List.Mem.tail _ (List.Mem.tail _ (List.Mem.tail _ (List.Mem.head _)))))) (fun _ h => h) ?_
                refine z_goto X (t := 41) (show cdA 94 128 = some (.goto (-87), 3, 0, 0, 0) from rfl) (by decide) ?_
                refine WS_lv (lv := [(0, .ref (A 67)), (1, .int (Int32.ofInt xv)), (2, .int (Int32.ofInt (tl + 1))), (3, .int (Int32.ofInt hd)), (4, .int (Int32.ofInt (g + 1)))]) (List.forall_mem_cons.mpr ⟨(List.Mem.tail _ (List.Mem.tail _ (List.Mem.tail _ (List.Mem.head _)))), (List.forall_mem_cons.mpr ⟨(List.Mem.tail _ (List.Mem.tail _ (List.Mem.tail _ (List.Mem.tail _ (List.Mem.head _))))), (List.forall_mem_cons.mpr ⟨(List.Mem.tail _ (List.Mem.head _)), (List.forall_mem_cons.mpr ⟨(List.Mem.tail _ (List.Mem.tail _ (List.Mem.tail _ (List.Mem.tail _ (List.Mem.tail _ (List.Mem.head _)))))), (List.forall_mem_cons.mpr ⟨(List.Mem.head _), (fun q h => absurd h List.not_mem_nil)⟩)⟩)⟩)⟩)⟩) ?_
                exact ih _ xv (tl + 1) hd (g + 1) Is1016 Fs1016 (by first | exact ⟨And.intro (hi.1.1) (hi.1.2), And.intro (oq_54f49eb5 hi.2.1.1) (oq_d2afb425 g1011), And.intro (hi.2.2.1.1) (hi.2.2.1.2), oq_54f49eb5 hi.2.2.2.1, oq_5bf54478 g1001⟩ | omega) (by first | exact qk_me hm (by decide) (oq_2265a080 g1001) | omega) kx
  have L26 : ∀ (n : Nat) (t : PS) (xv tl hd : Int), Bd t → Fm [] [77, 78] s t → ((0 ≤ xv ∧ xv ≤ 127) ∧ (0 ≤ tl ∧ tl ≤ 128) ∧ 0 ≤ hd ∧ hd ≤ 128) → (128 - hd : Int).toNat < n → (∀ (t' : PS) (tl' hd' : Int), Bd t' → Fm [] [77, 78] s t' → ((0 ≤ xv ∧ xv ≤ 127) ∧ (0 ≤ tl' ∧ tl' ≤ 128) ∧ 0 ≤ hd' ∧ hd' ≤ 128) → WS k 137 [(0, .ref (A 67)), (1, .int (Int32.ofInt xv)), (2, .int (Int32.ofInt tl')), (3, .int (Int32.ofInt hd'))] [] (Wd A dT t') 0 0) → WS k 26 [(0, .ref (A 67)), (1, .int (Int32.ofInt xv)), (2, .int (Int32.ofInt tl)), (3, .int (Int32.ofInt hd))] [] (Wd A dT t) 0 0 := by
    intro n
    induction n with
    | zero =>
      intro t xv tl hd I F hi hm kx
      exact absurd hm (Nat.not_lt_zero _)
    | succ n ih =>
      intro t xv tl hd I F hi hm kx
      refine z_load_n X (x := hd) (show cdA 94 26 = some (.iload_n 3, 1, 0, 0, 0) from rfl) (List.Mem.tail _ (List.Mem.tail _ (List.Mem.tail _ (List.Mem.head _)))) ?_
      refine z_load_n X (x := tl) (show cdA 94 27 = some (.iload_n 2, 1, 0, 0, 0) from rfl) (List.Mem.tail _ (List.Mem.tail _ (List.Mem.head _))) ?_
      refine z_icmp_ge X (t := 137) (show cdA 94 28 = some (.if_icmp .ge 109, 3, 3, 0, 0) from rfl) (by decide) ⟨by first | exact oq_fa4e5087 hi.2.2.1 | omega, by first | exact oq_4ee82282 hi.2.2.2 | omega⟩ ⟨by first | exact oq_fa4e5087 hi.2.1.1 | omega, by first | exact oq_4ee82282 hi.2.1.2 | omega⟩ (fun g2001 => ?_) (fun g2001 => ?_)
      ·
        refine WS_lv (lv := [(0, .ref (A 67)), (1, .int (Int32.ofInt xv)), (2, .int (Int32.ofInt tl)), (3, .int (Int32.ofInt hd))]) (List.forall_mem_cons.mpr ⟨(List.Mem.head _), (List.forall_mem_cons.mpr ⟨(List.Mem.tail _ (List.Mem.head _)), (List.forall_mem_cons.mpr ⟨(List.Mem.tail _ (List.Mem.tail _ (List.Mem.head _))), (List.forall_mem_cons.mpr ⟨(List.Mem.tail _ (List.Mem.tail _ (List.Mem.tail _ (List.Mem.head _)))), (fun q h => absurd h List.not_mem_nil)⟩)⟩)⟩)⟩) ?_
        exact kx _ tl hd I F (by first | exact ⟨And.intro (hi.1.1) (hi.1.2), And.intro (hi.2.1.1) (hi.2.1.2), hi.2.2.1, hi.2.2.2⟩ | omega)
      ·
        refine z_load_n X (x := hd) (show cdA 94 31 = some (.iload_n 3, 1, 0, 0, 0) from rfl) (List.Mem.tail _ (List.Mem.tail _ (List.Mem.tail _ (List.Mem.head _)))) ?_
        refine z_sipush X (show cdA 94 32 = some (.sipush 128, 3, 0, 0, 128) from rfl) ?_
        refine z_icmp_ge X (t := 137) (show cdA 94 35 = some (.if_icmp .ge 102, 3, 3, 0, 0) from rfl) (by decide) ⟨by first | exact oq_fa4e5087 hi.2.2.1 | omega, by first | exact oq_4ee82282 hi.2.2.2 | omega⟩ (by decide) (fun g2002 => ?_) (fun g2002 => ?_)
        ·
          refine WS_lv (lv := [(0, .ref (A 67)), (1, .int (Int32.ofInt xv)), (2, .int (Int32.ofInt tl)), (3, .int (Int32.ofInt hd))]) (List.forall_mem_cons.mpr ⟨(List.Mem.head _), (List.forall_mem_cons.mpr ⟨(List.Mem.tail _ (List.Mem.head _)), (List.forall_mem_cons.mpr ⟨(List.Mem.tail _ (List.Mem.tail _ (List.Mem.head _))), (List.forall_mem_cons.mpr ⟨(List.Mem.tail _ (List.Mem.tail _ (List.Mem.tail _ (List.Mem.head _)))), (fun q h => absurd h List.not_mem_nil)⟩)⟩)⟩)⟩) ?_
          exact kx _ tl hd I F (by first | exact ⟨And.intro (hi.1.1) (hi.1.2), And.intro (hi.2.1.1) (hi.2.1.2), hi.2.2.1, hi.2.2.2⟩ | omega)
        ·
          refine z_const X (show cdA 94 38 = some (.iconst 0, 1, 0, 0, 0) from rfl) ?_
          refine z_store X (lv' := [(4, .int (Int32.ofInt 0)), (0, .ref (A 67)), (1, .int (Int32.ofInt xv)), (2, .int (Int32.ofInt tl)), (3, .int (Int32.ofInt hd))]) (show cdA 94 39 = some (.istore 4, 2, 0, 0, 0) from rfl) (by decide) (fun _ h => h) ?_
          refine WS_lv (lv := [(0, .ref (A 67)), (1, .int (Int32.ofInt xv)), (2, .int (Int32.ofInt tl)), (3, .int (Int32.ofInt hd)), (4, .int (Int32.ofInt 0))]) (List.forall_mem_cons.mpr ⟨(List.Mem.tail _ (List.Mem.head _)), (List.forall_mem_cons.mpr ⟨(List.Mem.tail _ (List.Mem.tail _ (List.Mem.head _))), (List.forall_mem_cons.mpr ⟨(List.Mem.tail _ (List.Mem.tail _ (List.Mem.tail _ (List.Mem.head _)))), (List.forall_mem_cons.mpr ⟨(List.Mem.tail _ (List.Mem.tail _ (List.Mem.tail _ (List.Mem.tail _ (List.Mem.head _))))), (List.forall_mem_cons.mpr ⟨(List.Mem.head _), (fun q h => absurd h List.not_mem_nil)⟩)⟩)⟩)⟩)⟩) ?_
          refine L41 ((6 - 0 : Int).toNat + 1) t xv tl hd 0 I F (by first | exact ⟨And.intro (hi.1.1) (hi.1.2), And.intro (hi.2.1.1) (hi.2.1.2), And.intro (hi.2.2.1) (oq_04367f15 g2002), by decide, by decide⟩ | omega) (Nat.lt_succ_self _) ?_
          intro s2003 x2004 x2005 Is2003 Fs2003 hs2003
          refine z_inc X (x := hd) (lv' := [(3, .int (Int32.ofInt (hd + 1))), (0, .ref (A 67)), (1, .int (Int32.ofInt xv)), (2, .int (Int32.ofInt x2004)), (4, .int (Int32.ofInt x2005))]) (show cdA 94 131 = some (.iinc 3 1, 3, 0, 0, 0) from rfl) (by decide) (List.Mem.tail _ (List.Mem.tail _ (List.Mem.tail _ (List.Mem.head _)))) (fun _ h => h) ?_
          refine z_goto X (t := 26) (show cdA 94 134 = some (.goto (-108), 3, 0, 0, 0) from rfl) (by decide) ?_
          refine WS_lv (lv := [(0, .ref (A 67)), (1, .int (Int32.ofInt xv)), (2, .int (Int32.ofInt x2004)), (3, .int (Int32.ofInt (hd + 1)))]) (List.forall_mem_cons.mpr ⟨(List.Mem.tail _ (List.Mem.head _)), (List.forall_mem_cons.mpr ⟨(List.Mem.tail _ (List.Mem.tail _ (List.Mem.head _))), (List.forall_mem_cons.mpr ⟨(List.Mem.tail _ (List.Mem.tail _ (List.Mem.tail _ (List.Mem.head _)))), (List.forall_mem_cons.mpr ⟨(List.Mem.head _), (fun q h => absurd h List.not_mem_nil)⟩)⟩)⟩)⟩) ?_
          exact ih _ xv x2004 (hd + 1) Is2003 Fs2003 (by first | exact ⟨And.intro (hs2003.1.1) (hs2003.1.2), And.intro (hs2003.2.1.1) (hs2003.2.1.2), oq_54f49eb5 hs2003.2.2.1.1, oq_e4399267 hs2003.2.2.1.2⟩ | omega) (by first | exact qk_me hm (by decide) (oq_7e05e720 hs2003.2.2.1.2) | omega) kx
  refine z_aload_n X (x := A 67) (show cdA 94 0 = some (.aload_n 0, 1, 0, 0, 0) from rfl) (List.Mem.head _) ?_
  refine s_getR X 67 (show cdA 94 1 = some (.getfield 40, 3, 8, 15, 0) from rfl) (by decide) rfl rfl ?_
  refine z_const X (show cdA 94 4 = some (.iconst (-1), 1, 0, 0, 0) from rfl) ?_
  refine z_callS X (rm := rmN 312) (As := [.ref (A 90), .int (Int32.ofInt (-1))]) (st := []) (show cdA 94 5 = some (.invokestatic 93, 3, 312, 1, 0) from rfl) rfl (by rw [E.1, E.2.1, E.2.2.1]; exact j_fill_90 G I (by first | exact ⟨by decide, by decide⟩ | omega)) ⟨by rw [E.2.2.2]; exact (show (rmN 312).frames + 1 ≤ (rmN 94).frames by decide), by rw [E.2.2.2]; exact (show 8 + (mNL (miB 312) + 11) + (rmN 312).locals ≤ (rmN 94).locals by decide), by rw [E.2.2.2]; exact (show 0 + (rmN 312).cells ≤ (rmN 94).cells by decide), by rw [E.2.2.2]; exact (show 0 + (rmN 312).slots ≤ (rmN 94).slots by decide)⟩ (Nat.le_of_ble_eq_true rfl) (fun vv s1 hq => ?_) (fun ee s1 hq => ?_)
  rotate_left
  · obtain ⟨Is1, Fs1, hv, hps1⟩ := hq; cases hv
  obtain ⟨Is1, Fs1, hv, hps1⟩ := hq
  cases hv
  have Gs1 := fm_ts F Fs1 (by decide) (by decide)
  show WS k 8 [(0, .ref (A 67)), (1, .int (Int32.ofInt x))] [] (Wd A dT s1) 0 0
  refine z_aload_n X (x := A 67) (show cdA 94 8 = some (.aload_n 0, 1, 0, 0, 0) from rfl) (List.Mem.head _) ?_
  refine s_getR X 67 (show cdA 94 9 = some (.getfield 40, 3, 8, 15, 0) from rfl) (by decide) rfl rfl ?_
  refine z_load_n X (x := x) (show cdA 94 12 = some (.iload_n 1, 1, 0, 0, 0) from rfl) (List.Mem.tail _ (List.Mem.head _)) ?_
  refine z_const X (show cdA 94 13 = some (.iconst 0, 1, 0, 0, 0) from rfl) ?_
  refine z_ast X 90 (show cdA 94 14 = some (.iastore, 1, 0, 0, 0) from rfl) (by decide) rfl (by first | exact p0.1 | omega) (show x < 128 by first | exact oq_31b2bf10 p0.2 | omega) (by decide) ?_
  obtain ⟨s3, hs3⟩ : ∃ x0, x0 = uC s1 77 (x).toNat (Int32.ofInt 0) := ⟨_, rfl⟩
  rw [← hs3]
  have Is3 : Bd s3 := by rw [hs3]; exact bd_C Is1 (show ((-2147483648) : Int) ≤ 0 ∧ 0 ≤ 2147483647 by first | exact ⟨by decide, by decide⟩ | omega) (by decide)
  have Fs3 := fm_C (i := (x).toNat) (x := Int32.ofInt 0) Gs1 (show 77 ∈ _ by decide)
  rw [← hs3] at Fs3
  refine z_aload_n X (x := A 67) (show cdA 94 15 = some (.aload_n 0, 1, 0, 0, 0) from rfl) (List.Mem.head _) ?_
  refine s_getR X 67 (show cdA 94 16 = some (.getfield 43, 3, 8, 16, 0) from rfl) (by decide) rfl rfl ?_
  refine z_const X (show cdA 94 19 = some (.iconst 0, 1, 0, 0, 0) from rfl) ?_
  refine z_load_n X (x := x) (show cdA 94 20 = some (.iload_n 1, 1, 0, 0, 0) from rfl) (List.Mem.tail _ (List.Mem.head _)) ?_
  refine z_ast X 91 (show cdA 94 21 = some (.iastore, 1, 0, 0, 0) from rfl) (by decide) rfl (by decide) (show 0 < 128 by decide) (by decide) ?_
  obtain ⟨s4, hs4⟩ : ∃ x0, x0 = uC s3 78 (0 : Int).toNat (Int32.ofInt x) := ⟨_, rfl⟩
  rw [← hs4]
  have Is4 : Bd s4 := by rw [hs4]; exact bd_C Is3 (show (0 : Int) ≤ x ∧ x ≤ 127 by first | exact ⟨p0.1, p0.2⟩ | omega) ⟨by first | exact oq_fa4e5087 p0.1 | omega, by first | exact oq_07d346ce p0.2 | omega⟩
  have Fs4 := fm_C (i := (0 : Int).toNat) (x := Int32.ofInt x) Fs3 (show 78 ∈ _ by decide)
  rw [← hs4] at Fs4
  refine z_const X (show cdA 94 22 = some (.iconst 1, 1, 0, 0, 0) from rfl) ?_
  refine z_store_n X (lv' := [(2, .int (Int32.ofInt 1)), (0, .ref (A 67)), (1, .int (Int32.ofInt x))]) (show cdA 94 23 = some (.istore_n 2, 1, 0, 0, 0) from rfl) (by decide) (fun _ h => h) ?_
  refine z_const X (show cdA 94 24 = some (.iconst 0, 1, 0, 0, 0) from rfl) ?_
  refine z_store_n X (lv' := [(3, .int (Int32.ofInt 0)), (2, .int (Int32.ofInt 1)), (0, .ref (A 67)), (1, .int (Int32.ofInt x))]) (show cdA 94 25 = some (.istore_n 3, 1, 0, 0, 0) from rfl) (by decide) (fun _ h => h) ?_
  refine WS_lv (lv := [(0, .ref (A 67)), (1, .int (Int32.ofInt x)), (2, .int (Int32.ofInt 1)), (3, .int (Int32.ofInt 0))]) (List.forall_mem_cons.mpr ⟨(List.Mem.tail _ (List.Mem.tail _ (List.Mem.head _))), (List.forall_mem_cons.mpr ⟨(List.Mem.tail _ (List.Mem.tail _ (List.Mem.tail _ (List.Mem.head _)))), (List.forall_mem_cons.mpr ⟨(List.Mem.tail _ (List.Mem.head _)), (List.forall_mem_cons.mpr ⟨(List.Mem.head _), (fun q h => absurd h List.not_mem_nil)⟩)⟩)⟩)⟩) ?_
  refine L26 ((128 - 0 : Int).toNat + 1) s4 x 1 0 Is4 Fs4 (by first | exact ⟨And.intro (p0.1) (p0.2), And.intro (by decide) (by decide), by decide, by decide⟩ | omega) (Nat.lt_succ_self _) ?_
  intro s5 x6 x7 Is5 Fs5 hs5
  exact w_vret X.1 q hRt (ax_d X (show cdA 94 137 = some (.return_, 1, 0, 0, 0) from rfl)) (Nat.zero_le _) (Nat.zero_le _) ⟨_, rfl, Is5, Fs5, rfl, trivial⟩
set_option maxRecDepth 4000 in
theorem c8_anyFull_67 (G : GX l s0 D tys a0 dT) (I : Bd s) {x : Int} (p0 : 0 ≤ x ∧ x ≤ 255) (p1 : iI s 41 ≤ 8) : CT l s0 D A dT 98 (rmN 98) [.ref (A 67), .int (Int32.ofInt x)] s (fun o t => Bd t ∧ Fm [] [67, 20, 87, 96, 105, 114, 123, 132, 141, 150] s t ∧ ∃ e, o = .inl (some (.int (Int32.ofInt e))) ∧ rng e ∧ (e = 0 ∨ e = 1)) := by
  refine ct_ofX G (by decide) (Nat.le_of_ble_eq_true rfl) (fun k X E ET hRt hXt q => ?_)
  show WS k 0 [(0, .ref (A 67)), (1, .int (Int32.ofInt x))] [] _ 0 0
  have F : Fm [] [67, 20, 87, 96, 105, 114, 123, 132, 141, 150] s s := fm_rf _ _ s
  have b1 : (0 : Int) ≤ iI s 41 ∧ iI s 41 ≤ 12 := I.1 41
  have L2 : ∀ (n : Nat) (t : PS) (xv c : Int), Bd t → Fm [] [67, 20, 87, 96, 105, 114, 123, 132, 141, 150] s t → ((0 ≤ xv ∧ xv ≤ 255) ∧ 0 ≤ c ∧ c ≤ 8 ∧ iI t 41 ≤ 8) → (8 - c : Int).toNat < n → (∀ (t' : PS) (c' : Int), Bd t' → Fm [] [67, 20, 87, 96, 105, 114, 123, 132, 141, 150] s t' → ((0 ≤ xv ∧ xv ≤ 255) ∧ 0 ≤ c' ∧ c' ≤ 8 ∧ iI t' 41 ≤ 8) → WS k 74 [(0, .ref (A 67)), (1, .int (Int32.ofInt xv)), (2, .int (Int32.ofInt c'))] [] (Wd A dT t') 0 0) → WS k 2 [(0, .ref (A 67)), (1, .int (Int32.ofInt xv)), (2, .int (Int32.ofInt c))] [] (Wd A dT t) 0 0 := by
    intro n
    induction n with
    | zero =>
      intro t xv c I F hi hm kx
      exact absurd hm (Nat.not_lt_zero _)
    | succ n ih =>
      intro t xv c I F hi hm kx
      have b1001 : (0 : Int) ≤ iI t 41 ∧ iI t 41 ≤ 12 := I.1 41
      refine z_load_n X (x := c) (show cdA 98 2 = some (.iload_n 2, 1, 0, 0, 0) from rfl) (List.Mem.tail _ (List.Mem.tail _ (List.Mem.head _))) ?_
      refine z_aload_n X (x := A 67) (show cdA 98 3 = some (.aload_n 0, 1, 0, 0, 0) from rfl) (List.Mem.head _) ?_
      refine z_getI X 67 (show cdA 98 4 = some (.getfield 77, 3, 8, 9, 0) from rfl) (by decide) rfl rfl ?_
      have b1002 : (0 : Int) ≤ iI t 41 ∧ iI t 41 ≤ 12 := I.1 41
      refine z_icmp_ge X (t := 74) (show cdA 98 7 = some (.if_icmp .ge 67, 3, 3, 0, 0) from rfl) (by decide) ⟨by first | exact oq_fa4e5087 hi.2.1 | omega, by first | exact oq_d3f5d874 hi.2.2.1 | omega⟩ (rng_to _) (fun g1003 => ?_) (fun g1003 => ?_)
      ·
        refine WS_lv (lv := [(0, .ref (A 67)), (1, .int (Int32.ofInt xv)), (2, .int (Int32.ofInt c))]) (List.forall_mem_cons.mpr ⟨(List.Mem.head _), (List.forall_mem_cons.mpr ⟨(List.Mem.tail _ (List.Mem.head _)), (List.forall_mem_cons.mpr ⟨(List.Mem.tail _ (List.Mem.tail _ (List.Mem.head _))), (fun q h => absurd h List.not_mem_nil)⟩)⟩)⟩) ?_
        exact kx _ c I F (by first | exact ⟨And.intro (hi.1.1) (hi.1.2), hi.2.1, hi.2.2.1, hi.2.2.2⟩ | omega)
      ·
        refine z_load_n X (x := xv) (show cdA 98 10 = some (.iload_n 1, 1, 0, 0, 0) from rfl) (List.Mem.tail _ (List.Mem.head _)) ?_
        refine z_load_n X (x := c) (show cdA 98 11 = some (.iload_n 2, 1, 0, 0, 0) from rfl) (List.Mem.tail _ (List.Mem.tail _ (List.Mem.head _))) ?_
        refine z_bshr X (show cdA 98 12 = some (.ishr, 1, 0, 0, 0) from rfl) ?_
        refine z_any (fun y1004 hy1004 => ?_)
        refine z_const X (show cdA 98 13 = some (.iconst 1, 1, 0, 0, 0) from rfl) ?_
        refine z_band X (show cdA 98 14 = some (.iand, 1, 0, 0, 0) from rfl) ?_
        refine z_any (fun y1005 hy1005 => ?_)
        have N1006 : ∀ e1007 : Int, (((y1005 = 0) ∧ e1007 = 0) ∨ ((y1005 ≠ 0) ∧ e1007 = 1)) → WS k 23 [(0, .ref (A 67)), (1, .int (Int32.ofInt xv)), (2, .int (Int32.ofInt c))] [.int (Int32.ofInt e1007)] (Wd A dT t) 0 0 := by
          intro e1007 he1007
          have re1007 : 0 ≤ e1007 ∧ e1007 ≤ 1 := by omega
          refine z_store_n X (lv' := [(3, .int (Int32.ofInt e1007)), (0, .ref (A 67)), (1, .int (Int32.ofInt xv)), (2, .int (Int32.ofInt c))]) (show cdA 98 23 = some (.istore_n 3, 1, 0, 0, 0) from rfl) (by decide) (fun _ h => h) ?_
          refine z_aload_n X (x := A 67) (show cdA 98 24 = some (.aload_n 0, 1, 0, 0, 0) from rfl) (List.Mem.tail _ (List.Mem.head _)) ?_
          refine s_getR X 67 (show cdA 98 25 = some (.getfield 12, 3, 8, 1, 0) from rfl) (by decide) rfl rfl ?_
          refine s_getR X 68 (show cdA 98 28 = some (.getfield 87, 3, 9, 12, 0) from rfl) (by decide) rfl rfl ?_
          refine z_aload_n X (x := A 67) (show cdA 98 31 = some (.aload_n 0, 1, 0, 0, 0) from rfl) (List.Mem.tail _ (List.Mem.head _)) ?_
          refine s_getR X 67 (show cdA 98 32 = some (.getfield 24, 3, 8, 8, 0) from rfl) (by decide) rfl rfl ?_
          refine z_load_n X (x := c) (show cdA 98 35 = some (.iload_n 2, 1, 0, 0, 0) from rfl) (List.Mem.tail _ (List.Mem.tail _ (List.Mem.tail _ (List.Mem.head _)))) ?_
          refine z_ald X 85 (show cdA 98 36 = some (.iaload, 1, 0, 0, 0) from rfl) (by decide) rfl (by first | exact hi.2.1 | omega) (show c < 12 by first | exact oq_368c59ca hi.2.2.1 | omega) (by decide) ?_
          have b1008 : (0 : Int) ≤ iC t 72 (c).toNat ∧ iC t 72 (c).toNat ≤ 11 := I.2 72 _ (show (c).toNat < 12 by first | exact oq_f3a5066e hi.2.2.1 | omega)
          refine z_load_n X (x := e1007) (show cdA 98 37 = some (.iload_n 3, 1, 0, 0, 0) from rfl) (List.Mem.head _) ?_
          have N1009 : ∀ e1010 : Int, (((e1007 = 0) ∧ e1010 = 0) ∨ ((e1007 ≠ 0) ∧ ((0 : Int) ≤ iI t 39 ∧ iI t 39 ≤ 23) ∧ ((0 : Int) ≤ iC t 72 (c).toNat ∧ iC t 72 (c).toNat ≤ 11) ∧ ((0 : Int) ≤ iC t 11 ((((iI t 39) * 12) + (iC t 72 (c).toNat))).toNat ∧ iC t 11 ((((iI t 39) * 12) + (iC t 72 (c).toNat))).toNat ≤ 50) ∧ e1010 = (iC t 11 ((((iI t 39) * 12) + (iC t 72 (c).toNat))).toNat))) → WS k 67 [(3, .int (Int32.ofInt e1007)), (0, .ref (A 67)), (1, .int (Int32.ofInt xv)), (2, .int (Int32.ofInt c))] [.int (Int32.ofInt e1010), .int (Int32.ofInt (iC t 72 (c).toNat)), .ref (A 79)] (Wd A dT t) 0 0 := by
            intro e1010 he1010
            refine z_ast X 79 (show cdA 98 67 = some (.iastore, 1, 0, 0, 0) from rfl) (by decide) rfl (by first | exact b1008.1 | omega) (show (iC t 72 (c).toNat) < 288 by first | exact oq_760f2641 b1008.2 | omega) (by decide) ?_
            obtain ⟨s1011, hs1011⟩ : ∃ x0, x0 = uC t 67 ((iC t 72 (c).toNat)).toNat (Int32.ofInt e1010) := ⟨_, rfl⟩
            rw [← hs1011]
            have Is1011 : Bd s1011 := by rw [hs1011]; exact bd_C I (show (0 : Int) ≤ e1010 ∧ e1010 ≤ 50 by first | exact ⟨oq_80b52fe0 he1010, oq_4021a32f he1010⟩ | omega) ⟨by first | exact oq_9b4da494 he1010 | omega, by first | exact oq_90ebf3a2 he1010 | omega⟩
            have Fs1011 := fm_C (i := ((iC t 72 (c).toNat)).toNat) (x := Int32.ofInt e1010) F (show 67 ∈ _ by decide)
            rw [← hs1011] at Fs1011
            have ws1011_41 : iI s1011 41 = iI t 41 := by rw [hs1011]; rfl
            refine z_inc X (x := c) (lv' := [(2, .int (Int32.ofInt (c + 1))), (3, .int (Int32.ofInt e1007)), (0, .ref (A 67)), (1, .int (Int32.ofInt xv))]) (show cdA 98 68 = some (.iinc 2 1, 3, 0, 0, 0) from rfl) (by decide) (List.Mem.tail _ (List.Mem.tail _ (List.Mem.tail _ (List.Mem.head _)))) (fun _ h => h) ?_
            refine z_goto X (t := 2) (show cdA 98 71 = some (.goto (-69), 3, 0, 0, 0) from rfl) (by decide) ?_
            refine WS_lv (lv := [(0, .ref (A 67)), (1, .int (Int32.ofInt xv)), (2, .int (Int32.ofInt (c + 1)))]) (List.forall_mem_cons.mpr ⟨(List.Mem.tail _ (List.Mem.tail _ (List.Mem.head _))), (List.forall_mem_cons.mpr ⟨(List.Mem.tail _ (List.Mem.tail _ (List.Mem.tail _ (List.Mem.head _)))), (List.forall_mem_cons.mpr ⟨(List.Mem.head _), (fun q h => absurd h List.not_mem_nil)⟩)⟩)⟩) ?_
            exact ih _ xv (c + 1) Is1011 Fs1011 (by first | exact ⟨And.intro (hi.1.1) (hi.1.2), oq_54f49eb5 hi.2.1, oq_f6204d84 g1003 hi.2.2.2, oq_86ef0b17 ws1011_41 hi.2.2.2⟩ | omega) (by first | exact qk_me hm (by decide) (oq_ccc5e5e0 g1003 hi.2.2.2) | omega) kx
          refine z_if_eq X (t := 66) (show cdA 98 38 = some (.ifCond .eq 28, 3, 0, 0, 0) from rfl) (by decide) ⟨by first | exact oq_fa4e5087 re1007.1 | omega, by first | exact oq_22e1e6b0 re1007.2 | omega⟩ (fun g1012 => ?_) (fun g1012 => ?_)
          ·
            refine z_const X (show cdA 98 66 = some (.iconst 0, 1, 0, 0, 0) from rfl) ?_
            exact N1009 _ (Or.inl ⟨g1012, rfl⟩)
          ·
            refine z_aload_n X (x := A 67) (show cdA 98 41 = some (.aload_n 0, 1, 0, 0, 0) from rfl) (List.Mem.tail _ (List.Mem.head _)) ?_
            refine s_getR X 67 (show cdA 98 42 = some (.getfield 49, 3, 8, 0, 0) from rfl) (by decide) rfl rfl ?_
            refine s_getR X 3 (show cdA 98 45 = some (.getfield 87, 3, 9, 12, 0) from rfl) (by decide) rfl rfl ?_
            refine z_aload_n X (x := A 67) (show cdA 98 48 = some (.aload_n 0, 1, 0, 0, 0) from rfl) (List.Mem.tail _ (List.Mem.head _)) ?_
            refine z_getI X 67 (show cdA 98 49 = some (.getfield 70, 3, 8, 6, 0) from rfl) (by decide) rfl rfl ?_
            have b1013 : (0 : Int) ≤ iI t 39 ∧ iI t 39 ≤ 23 := I.1 39
            refine z_bipush X (show cdA 98 52 = some (.bipush 12, 2, 0, 0, 12) from rfl) ?_
            refine z_mul X (show cdA 98 54 = some (.imul, 1, 0, 0, 0) from rfl) ?_
            refine z_aload_n X (x := A 67) (show cdA 98 55 = some (.aload_n 0, 1, 0, 0, 0) from rfl) (List.Mem.tail _ (List.Mem.head _)) ?_
            refine s_getR X 67 (show cdA 98 56 = some (.getfield 24, 3, 8, 8, 0) from rfl) (by decide) rfl rfl ?_
            refine z_load_n X (x := c) (show cdA 98 59 = some (.iload_n 2, 1, 0, 0, 0) from rfl) (List.Mem.tail _ (List.Mem.tail _ (List.Mem.tail _ (List.Mem.head _)))) ?_
            refine z_ald X 85 (show cdA 98 60 = some (.iaload, 1, 0, 0, 0) from rfl) (by decide) rfl (by first | exact hi.2.1 | omega) (show c < 12 by first | exact oq_368c59ca hi.2.2.1 | omega) (by decide) ?_
            have b1014 : (0 : Int) ≤ iC t 72 (c).toNat ∧ iC t 72 (c).toNat ≤ 11 := I.2 72 _ (show (c).toNat < 12 by first | exact oq_f3a5066e hi.2.2.1 | omega)
            refine z_add X (show cdA 98 61 = some (.iadd, 1, 0, 0, 0) from rfl) ?_
            refine z_ald X 14 (show cdA 98 62 = some (.iaload, 1, 0, 0, 0) from rfl) (by decide) rfl (by first | exact oq_0f03f1de b1013.1 b1014.1 | omega) (show (((iI t 39) * 12) + (iC t 72 (c).toNat)) < 288 by first | exact oq_74a4833a b1013.2 b1014.2 | omega) (by decide) ?_
            have b1015 : (0 : Int) ≤ iC t 11 ((((iI t 39) * 12) + (iC t 72 (c).toNat))).toNat ∧ iC t 11 ((((iI t 39) * 12) + (iC t 72 (c).toNat))).toNat ≤ 50 := I.2 11 _ (show ((((iI t 39) * 12) + (iC t 72 (c).toNat))).toNat < 288 by first | exact oq_5aa97b8f b1013.2 b1014.2 | omega)
            refine z_goto X (t := 67) (show cdA 98 63 = some (.goto 4, 3, 0, 0, 0) from rfl) (by decide) ?_
            exact N1009 _ (Or.inr (⟨g1012, b1013, b1014, b1015, rfl⟩))
        refine z_if_eq X (t := 22) (show cdA 98 15 = some (.ifCond .eq 7, 3, 0, 0, 0) from rfl) (by decide) hy1005 (fun g1016 => ?_) (fun g1016 => ?_)
        ·
          refine z_const X (show cdA 98 22 = some (.iconst 0, 1, 0, 0, 0) from rfl) ?_
          exact N1006 _ (Or.inl ⟨g1016, rfl⟩)
        ·
          refine z_const X (show cdA 98 18 = some (.iconst 1, 1, 0, 0, 0) from rfl) ?_
          refine z_goto X (t := 23) (show cdA 98 19 = some (.goto 4, 3, 0, 0, 0) from rfl) (by decide) ?_
          exact N1006 _ (Or.inr (⟨g1016, rfl⟩))
  have L76 : ∀ (n : Nat) (t : PS) (p : Int), Bd t → Fm [] [67, 20, 87, 96, 105, 114, 123, 132, 141, 150] s t → (0 ≤ p ∧ p ≤ 8) → (8 - p : Int).toNat < n → (∀ (t' : PS) (p' : Int), Bd t' → Fm [] [67, 20, 87, 96, 105, 114, 123, 132, 141, 150] s t' → (0 ≤ p' ∧ p' ≤ 8) → WS k 124 [(0, .ref (A 67)), (2, .int (Int32.ofInt p'))] [] (Wd A dT t') 0 0) → WS k 76 [(0, .ref (A 67)), (2, .int (Int32.ofInt p))] [] (Wd A dT t) 0 0 := by
    intro n
    induction n with
    | zero =>
      intro t p I F hi hm kx
      exact absurd hm (Nat.not_lt_zero _)
    | succ n ih =>
      intro t p I F hi hm kx
      have b2001 : (0 : Int) ≤ iI t 41 ∧ iI t 41 ≤ 12 := I.1 41
      refine z_load_n X (x := p) (show cdA 98 76 = some (.iload_n 2, 1, 0, 0, 0) from rfl) (List.Mem.tail _ (List.Mem.head _)) ?_
      refine z_bipush X (show cdA 98 77 = some (.bipush 8, 2, 0, 0, 8) from rfl) ?_
      refine z_icmp_ge X (t := 124) (show cdA 98 79 = some (.if_icmp .ge 45, 3, 3, 0, 0) from rfl) (by decide) ⟨by first | exact oq_fa4e5087 hi.1 | omega, by first | exact oq_d3f5d874 hi.2 | omega⟩ (by decide) (fun g2002 => ?_) (fun g2002 => ?_)
      ·
        refine WS_lv (lv := [(0, .ref (A 67)), (2, .int (Int32.ofInt p))]) (List.forall_mem_cons.mpr ⟨(List.Mem.head _), (List.forall_mem_cons.mpr ⟨(List.Mem.tail _ (List.Mem.head _)), (fun q h => absurd h List.not_mem_nil)⟩)⟩) ?_
        exact kx _ p I F (by first | exact ⟨hi.1, hi.2⟩ | omega)
      ·
        refine z_aload_n X (x := A 67) (show cdA 98 82 = some (.aload_n 0, 1, 0, 0, 0) from rfl) (List.Mem.head _) ?_
        refine s_getR X 67 (show cdA 98 83 = some (.getfield 52, 3, 8, 2, 0) from rfl) (by decide) rfl rfl ?_
        refine z_load_n X (x := p) (show cdA 98 86 = some (.iload_n 2, 1, 0, 0, 0) from rfl) (List.Mem.tail _ (List.Mem.head _)) ?_
        refine z_callV X 25 (rm := rmN 30) (As := [.int (Int32.ofInt p)]) (st := []) (show cdA 98 87 = some (.invokevirtual 170, 3, 30, 0, 0) from rfl) rfl (by decide) rfl (by rw [E.1, E.2.1, E.2.2.1]; exact c3_hasCells_25 G I (by first | exact ⟨hi.1, oq_78c639ed g2002⟩ | omega)) ⟨by rw [E.2.2.2]; exact (show (rmN 30).frames + 1 ≤ (rmN 98).frames by decide), by rw [E.2.2.2]; exact (show 8 + (mNL (miB 30) + 11) + (rmN 30).locals ≤ (rmN 98).locals by decide), by rw [E.2.2.2]; exact (show 0 + (rmN 30).cells ≤ (rmN 98).cells by decide), by rw [E.2.2.2]; exact (show 0 + (rmN 30).slots ≤ (rmN 98).slots by decide)⟩ (Nat.le_of_ble_eq_true rfl) (fun vv s2003 hq => ?_) (fun ee s2003 hq => ?_)
        rotate_left
        · obtain ⟨Is2003, Fs2003, e2004, hv, hrs2003, hps2003⟩ := hq; cases hv
        obtain ⟨Is2003, Fs2003, e2004, hv, hrs2003, hps2003⟩ := hq
        cases hv
        have Gs2003 := fm_ts F Fs2003 (by decide) (by decide)
        have ws2003_41 : iI s2003 41 = iI t 41 := fm_i Fs2003 (by decide)
        show WS k 90 [(0, .ref (A 67)), (2, .int (Int32.ofInt p))] [.int (Int32.ofInt e2004)] (Wd A dT s2003) 0 0
        refine z_if_eq X (t := 118) (show cdA 98 90 = some (.ifCond .eq 28, 3, 0, 0, 0) from rfl) (by decide) hrs2003 (fun g2005 => ?_) (fun g2005 => ?_)
        ·
          refine z_inc X (x := p) (lv' := [(2, .int (Int32.ofInt (p + 1))), (0, .ref (A 67))]) (show cdA 98 118 = some (.iinc 2 1, 3, 0, 0, 0) from rfl) (by decide) (List.Mem.tail _ (List.Mem.head _)) (fun _ h => h) ?_
          refine z_goto X (t := 76) (show cdA 98 121 = some (.goto (-45), 3, 0, 0, 0) from rfl) (by decide) ?_
          refine WS_lv (lv := [(0, .ref (A 67)), (2, .int (Int32.ofInt (p + 1)))]) (List.forall_mem_cons.mpr ⟨(List.Mem.tail _ (List.Mem.head _)), (List.forall_mem_cons.mpr ⟨(List.Mem.head _), (fun q h => absurd h List.not_mem_nil)⟩)⟩) ?_
          exact ih _ (p + 1) Is2003 Gs2003 (by first | exact ⟨oq_54f49eb5 hi.1, oq_0c7b19c3 g2002⟩ | omega) (by first | exact qk_me hm (by decide) (oq_9f368f35 g2002) | omega) kx
        ·
          refine z_aload_n X (x := A 67) (show cdA 98 93 = some (.aload_n 0, 1, 0, 0, 0) from rfl) (List.Mem.head _) ?_
          refine s_getR X 67 (show cdA 98 94 = some (.getfield 20, 3, 8, 3, 0) from rfl) (by decide) rfl rfl ?_
          refine z_load_n X (x := p) (show cdA 98 97 = some (.iload_n 2, 1, 0, 0, 0) from rfl) (List.Mem.tail _ (List.Mem.head _)) ?_
          refine z_a8 X (show cdA 98 98 = some (.aaload, 1, 0, 0, 0) from rfl) (by omega) (show p < 8 by omega) ?_
          rcases (show p = 0 ∨ p = 1 ∨ p = 2 ∨ p = 3 ∨ p = 4 ∨ p = 5 ∨ p = 6 ∨ p = 7 by omega) with gs | gs | gs | gs | gs | gs | gs | gs
          ·
            have e8 : 93 + 10 * (p : Int).toNat = 93 := by omega
            rw [e8]
            refine z_const X (show cdA 98 99 = some (.iconst 0, 1, 0, 0, 0) from rfl) ?_
            refine z_const X (show cdA 98 100 = some (.iconst (-1), 1, 0, 0, 0) from rfl) ?_
            refine z_callV X 93 (rm := rmN 4) (As := [.int (Int32.ofInt 0), .int (Int32.ofInt (-1))]) (st := []) (show cdA 98 101 = some (.invokevirtual 173, 3, 4, 0, 0) from rfl) rfl (by decide) rfl (by rw [E.1, E.2.1, E.2.2.1]; exact c0_loadAt_93 G Is2003 (by first | exact ⟨by decide, by decide⟩ | omega) (by first | exact ⟨by decide, by decide⟩ | omega)) ⟨by rw [E.2.2.2]; exact (show (rmN 4).frames + 1 ≤ (rmN 98).frames by decide), by rw [E.2.2.2]; exact (show 8 + (mNL (miB 4) + 11) + (rmN 4).locals ≤ (rmN 98).locals by decide), by rw [E.2.2.2]; exact (show 0 + (rmN 4).cells ≤ (rmN 98).cells by decide), by rw [E.2.2.2]; exact (show 0 + (rmN 4).slots ≤ (rmN 98).slots by decide)⟩ (Nat.le_of_ble_eq_true rfl) (fun vv s2006 hq => ?_) (fun ee s2006 hq => ?_)
            rotate_left
            · obtain ⟨Is2006, Fs2006, e2007, hv, hrs2006, hps2006⟩ := hq; cases hv
            obtain ⟨Is2006, Fs2006, e2007, hv, hrs2006, hps2006⟩ := hq
            cases hv
            have Gs2006 := fm_ts Gs2003 Fs2006 (by decide) (by decide)
            have ws2006_41 : iI s2006 41 = iI s2003 41 := fm_i Fs2006 (by decide)
            show WS k 104 [(0, .ref (A 67)), (2, .int (Int32.ofInt p))] [.int (Int32.ofInt e2007)] (Wd A dT s2006) 0 0
            refine z_aload_n X (x := A 67) (show cdA 98 104 = some (.aload_n 0, 1, 0, 0, 0) from rfl) (List.Mem.head _) ?_
            refine s_getR X 67 (show cdA 98 105 = some (.getfield 52, 3, 8, 2, 0) from rfl) (by decide) rfl rfl ?_
            refine s_getR X 25 (show cdA 98 108 = some (.getfield 176, 3, 3, 3, 0) from rfl) (by decide) rfl rfl ?_
            refine z_load_n X (x := p) (show cdA 98 111 = some (.iload_n 2, 1, 0, 0, 0) from rfl) (List.Mem.tail _ (List.Mem.head _)) ?_
            refine z_ald X 29 (show cdA 98 112 = some (.iaload, 1, 0, 0, 0) from rfl) (by decide) rfl (by first | exact hi.1 | omega) (show p < 8 by first | exact g2002 | omega) (by decide) ?_
            have b2008 : (0 : Int) ≤ iC s2006 24 (p).toNat ∧ iC s2006 24 (p).toNat ≤ 9999 := Is2006.2 24 _ (show (p).toNat < 8 by first | exact oq_db4b3b8b g2002 | omega)
            refine z_icmp_le X (t := 118) (show cdA 98 113 = some (.if_icmp .le 5, 3, 5, 0, 0) from rfl) (by decide) hrs2006 (rng_to _) (fun g2009 => ?_) (fun g2009 => ?_)
            ·
              refine z_inc X (x := p) (lv' := [(2, .int (Int32.ofInt (p + 1))), (0, .ref (A 67))]) (show cdA 98 118 = some (.iinc 2 1, 3, 0, 0, 0) from rfl) (by decide) (List.Mem.tail _ (List.Mem.head _)) (fun _ h => h) ?_
              refine z_goto X (t := 76) (show cdA 98 121 = some (.goto (-45), 3, 0, 0, 0) from rfl) (by decide) ?_
              refine WS_lv (lv := [(0, .ref (A 67)), (2, .int (Int32.ofInt (p + 1)))]) (List.forall_mem_cons.mpr ⟨(List.Mem.tail _ (List.Mem.head _)), (List.forall_mem_cons.mpr ⟨(List.Mem.head _), (fun q h => absurd h List.not_mem_nil)⟩)⟩) ?_
              exact ih _ (p + 1) Is2006 Gs2006 (by first | exact ⟨oq_54f49eb5 hi.1, oq_0c7b19c3 g2002⟩ | omega) (by first | exact qk_me hm (by decide) (oq_9f368f35 g2002) | omega) kx
            ·
              refine z_const X (show cdA 98 116 = some (.iconst 1, 1, 0, 0, 0) from rfl) ?_
              exact w_iret X.1 q hRt (nar_ret (by first | exact Or.inr (by decide) | omega)) (ax_d X (show cdA 98 117 = some (.ireturn, 1, 0, 0, 0) from rfl)) (Nat.zero_le _) (Nat.zero_le _) ⟨_, rfl, Is2006, Gs2006, 1, rfl, (by decide), by first | exact Or.inr (by decide) | omega⟩
          ·
            have e8 : 93 + 10 * (p : Int).toNat = 103 := by omega
            rw [e8]
            refine z_const X (show cdA 98 99 = some (.iconst 0, 1, 0, 0, 0) from rfl) ?_
            refine z_const X (show cdA 98 100 = some (.iconst (-1), 1, 0, 0, 0) from rfl) ?_
            refine z_callV X 103 (rm := rmN 4) (As := [.int (Int32.ofInt 0), .int (Int32.ofInt (-1))]) (st := []) (show cdA 98 101 = some (.invokevirtual 173, 3, 4, 0, 0) from rfl) rfl (by decide) rfl (by rw [E.1, E.2.1, E.2.2.1]; exact c0_loadAt_103 G Is2003 (by first | exact ⟨by decide, by decide⟩ | omega) (by first | exact ⟨by decide, by decide⟩ | omega)) ⟨by rw [E.2.2.2]; exact (show (rmN 4).frames + 1 ≤ (rmN 98).frames by decide), by rw [E.2.2.2]; exact (show 8 + (mNL (miB 4) + 11) + (rmN 4).locals ≤ (rmN 98).locals by decide), by rw [E.2.2.2]; exact (show 0 + (rmN 4).cells ≤ (rmN 98).cells by decide), by rw [E.2.2.2]; exact (show 0 + (rmN 4).slots ≤ (rmN 98).slots by decide)⟩ (Nat.le_of_ble_eq_true rfl) (fun vv s2010 hq => ?_) (fun ee s2010 hq => ?_)
            rotate_left
            · obtain ⟨Is2010, Fs2010, e2011, hv, hrs2010, hps2010⟩ := hq; cases hv
            obtain ⟨Is2010, Fs2010, e2011, hv, hrs2010, hps2010⟩ := hq
            cases hv
            have Gs2010 := fm_ts Gs2003 Fs2010 (by decide) (by decide)
            have ws2010_41 : iI s2010 41 = iI s2003 41 := fm_i Fs2010 (by decide)
            show WS k 104 [(0, .ref (A 67)), (2, .int (Int32.ofInt p))] [.int (Int32.ofInt e2011)] (Wd A dT s2010) 0 0
            refine z_aload_n X (x := A 67) (show cdA 98 104 = some (.aload_n 0, 1, 0, 0, 0) from rfl) (List.Mem.head _) ?_
            refine s_getR X 67 (show cdA 98 105 = some (.getfield 52, 3, 8, 2, 0) from rfl) (by decide) rfl rfl ?_
            refine s_getR X 25 (show cdA 98 108 = some (.getfield 176, 3, 3, 3, 0) from rfl) (by decide) rfl rfl ?_
            refine z_load_n X (x := p) (show cdA 98 111 = some (.iload_n 2, 1, 0, 0, 0) from rfl) (List.Mem.tail _ (List.Mem.head _)) ?_
            refine z_ald X 29 (show cdA 98 112 = some (.iaload, 1, 0, 0, 0) from rfl) (by decide) rfl (by first | exact hi.1 | omega) (show p < 8 by first | exact g2002 | omega) (by decide) ?_
            have b2012 : (0 : Int) ≤ iC s2010 24 (p).toNat ∧ iC s2010 24 (p).toNat ≤ 9999 := Is2010.2 24 _ (show (p).toNat < 8 by first | exact oq_db4b3b8b g2002 | omega)
            refine z_icmp_le X (t := 118) (show cdA 98 113 = some (.if_icmp .le 5, 3, 5, 0, 0) from rfl) (by decide) hrs2010 (rng_to _) (fun g2013 => ?_) (fun g2013 => ?_)
            ·
              refine z_inc X (x := p) (lv' := [(2, .int (Int32.ofInt (p + 1))), (0, .ref (A 67))]) (show cdA 98 118 = some (.iinc 2 1, 3, 0, 0, 0) from rfl) (by decide) (List.Mem.tail _ (List.Mem.head _)) (fun _ h => h) ?_
              refine z_goto X (t := 76) (show cdA 98 121 = some (.goto (-45), 3, 0, 0, 0) from rfl) (by decide) ?_
              refine WS_lv (lv := [(0, .ref (A 67)), (2, .int (Int32.ofInt (p + 1)))]) (List.forall_mem_cons.mpr ⟨(List.Mem.tail _ (List.Mem.head _)), (List.forall_mem_cons.mpr ⟨(List.Mem.head _), (fun q h => absurd h List.not_mem_nil)⟩)⟩) ?_
              exact ih _ (p + 1) Is2010 Gs2010 (by first | exact ⟨oq_54f49eb5 hi.1, oq_0c7b19c3 g2002⟩ | omega) (by first | exact qk_me hm (by decide) (oq_9f368f35 g2002) | omega) kx
            ·
              refine z_const X (show cdA 98 116 = some (.iconst 1, 1, 0, 0, 0) from rfl) ?_
              exact w_iret X.1 q hRt (nar_ret (by first | exact Or.inr (by decide) | omega)) (ax_d X (show cdA 98 117 = some (.ireturn, 1, 0, 0, 0) from rfl)) (Nat.zero_le _) (Nat.zero_le _) ⟨_, rfl, Is2010, Gs2010, 1, rfl, (by decide), by first | exact Or.inr (by decide) | omega⟩
          ·
            have e8 : 93 + 10 * (p : Int).toNat = 113 := by omega
            rw [e8]
            refine z_const X (show cdA 98 99 = some (.iconst 0, 1, 0, 0, 0) from rfl) ?_
            refine z_const X (show cdA 98 100 = some (.iconst (-1), 1, 0, 0, 0) from rfl) ?_
            refine z_callV X 113 (rm := rmN 4) (As := [.int (Int32.ofInt 0), .int (Int32.ofInt (-1))]) (st := []) (show cdA 98 101 = some (.invokevirtual 173, 3, 4, 0, 0) from rfl) rfl (by decide) rfl (by rw [E.1, E.2.1, E.2.2.1]; exact c0_loadAt_113 G Is2003 (by first | exact ⟨by decide, by decide⟩ | omega) (by first | exact ⟨by decide, by decide⟩ | omega)) ⟨by rw [E.2.2.2]; exact (show (rmN 4).frames + 1 ≤ (rmN 98).frames by decide), by rw [E.2.2.2]; exact (show 8 + (mNL (miB 4) + 11) + (rmN 4).locals ≤ (rmN 98).locals by decide), by rw [E.2.2.2]; exact (show 0 + (rmN 4).cells ≤ (rmN 98).cells by decide), by rw [E.2.2.2]; exact (show 0 + (rmN 4).slots ≤ (rmN 98).slots by decide)⟩ (Nat.le_of_ble_eq_true rfl) (fun vv s2014 hq => ?_) (fun ee s2014 hq => ?_)
            rotate_left
            · obtain ⟨Is2014, Fs2014, e2015, hv, hrs2014, hps2014⟩ := hq; cases hv
            obtain ⟨Is2014, Fs2014, e2015, hv, hrs2014, hps2014⟩ := hq
            cases hv
            have Gs2014 := fm_ts Gs2003 Fs2014 (by decide) (by decide)
            have ws2014_41 : iI s2014 41 = iI s2003 41 := fm_i Fs2014 (by decide)
            show WS k 104 [(0, .ref (A 67)), (2, .int (Int32.ofInt p))] [.int (Int32.ofInt e2015)] (Wd A dT s2014) 0 0
            refine z_aload_n X (x := A 67) (show cdA 98 104 = some (.aload_n 0, 1, 0, 0, 0) from rfl) (List.Mem.head _) ?_
            refine s_getR X 67 (show cdA 98 105 = some (.getfield 52, 3, 8, 2, 0) from rfl) (by decide) rfl rfl ?_
            refine s_getR X 25 (show cdA 98 108 = some (.getfield 176, 3, 3, 3, 0) from rfl) (by decide) rfl rfl ?_
            refine z_load_n X (x := p) (show cdA 98 111 = some (.iload_n 2, 1, 0, 0, 0) from rfl) (List.Mem.tail _ (List.Mem.head _)) ?_
            refine z_ald X 29 (show cdA 98 112 = some (.iaload, 1, 0, 0, 0) from rfl) (by decide) rfl (by first | exact hi.1 | omega) (show p < 8 by first | exact g2002 | omega) (by decide) ?_
            have b2016 : (0 : Int) ≤ iC s2014 24 (p).toNat ∧ iC s2014 24 (p).toNat ≤ 9999 := Is2014.2 24 _ (show (p).toNat < 8 by first | exact oq_db4b3b8b g2002 | omega)
            refine z_icmp_le X (t := 118) (show cdA 98 113 = some (.if_icmp .le 5, 3, 5, 0, 0) from rfl) (by decide) hrs2014 (rng_to _) (fun g2017 => ?_) (fun g2017 => ?_)
            ·
              refine z_inc X (x := p) (lv' := [(2, .int (Int32.ofInt (p + 1))), (0, .ref (A 67))]) (show cdA 98 118 = some (.iinc 2 1, 3, 0, 0, 0) from rfl) (by decide) (List.Mem.tail _ (List.Mem.head _)) (fun _ h => h) ?_
              refine z_goto X (t := 76) (show cdA 98 121 = some (.goto (-45), 3, 0, 0, 0) from rfl) (by decide) ?_
              refine WS_lv (lv := [(0, .ref (A 67)), (2, .int (Int32.ofInt (p + 1)))]) (List.forall_mem_cons.mpr ⟨(List.Mem.tail _ (List.Mem.head _)), (List.forall_mem_cons.mpr ⟨(List.Mem.head _), (fun q h => absurd h List.not_mem_nil)⟩)⟩) ?_
              exact ih _ (p + 1) Is2014 Gs2014 (by first | exact ⟨oq_54f49eb5 hi.1, oq_0c7b19c3 g2002⟩ | omega) (by first | exact qk_me hm (by decide) (oq_9f368f35 g2002) | omega) kx
            ·
              refine z_const X (show cdA 98 116 = some (.iconst 1, 1, 0, 0, 0) from rfl) ?_
              exact w_iret X.1 q hRt (nar_ret (by first | exact Or.inr (by decide) | omega)) (ax_d X (show cdA 98 117 = some (.ireturn, 1, 0, 0, 0) from rfl)) (Nat.zero_le _) (Nat.zero_le _) ⟨_, rfl, Is2014, Gs2014, 1, rfl, (by decide), by first | exact Or.inr (by decide) | omega⟩
          ·
            have e8 : 93 + 10 * (p : Int).toNat = 123 := by omega
            rw [e8]
            refine z_const X (show cdA 98 99 = some (.iconst 0, 1, 0, 0, 0) from rfl) ?_
            refine z_const X (show cdA 98 100 = some (.iconst (-1), 1, 0, 0, 0) from rfl) ?_
            refine z_callV X 123 (rm := rmN 4) (As := [.int (Int32.ofInt 0), .int (Int32.ofInt (-1))]) (st := []) (show cdA 98 101 = some (.invokevirtual 173, 3, 4, 0, 0) from rfl) rfl (by decide) rfl (by rw [E.1, E.2.1, E.2.2.1]; exact c0_loadAt_123 G Is2003 (by first | exact ⟨by decide, by decide⟩ | omega) (by first | exact ⟨by decide, by decide⟩ | omega)) ⟨by rw [E.2.2.2]; exact (show (rmN 4).frames + 1 ≤ (rmN 98).frames by decide), by rw [E.2.2.2]; exact (show 8 + (mNL (miB 4) + 11) + (rmN 4).locals ≤ (rmN 98).locals by decide), by rw [E.2.2.2]; exact (show 0 + (rmN 4).cells ≤ (rmN 98).cells by decide), by rw [E.2.2.2]; exact (show 0 + (rmN 4).slots ≤ (rmN 98).slots by decide)⟩ (Nat.le_of_ble_eq_true rfl) (fun vv s2018 hq => ?_) (fun ee s2018 hq => ?_)
            rotate_left
            · obtain ⟨Is2018, Fs2018, e2019, hv, hrs2018, hps2018⟩ := hq; cases hv
            obtain ⟨Is2018, Fs2018, e2019, hv, hrs2018, hps2018⟩ := hq
            cases hv
            have Gs2018 := fm_ts Gs2003 Fs2018 (by decide) (by decide)
            have ws2018_41 : iI s2018 41 = iI s2003 41 := fm_i Fs2018 (by decide)
            show WS k 104 [(0, .ref (A 67)), (2, .int (Int32.ofInt p))] [.int (Int32.ofInt e2019)] (Wd A dT s2018) 0 0
            refine z_aload_n X (x := A 67) (show cdA 98 104 = some (.aload_n 0, 1, 0, 0, 0) from rfl) (List.Mem.head _) ?_
            refine s_getR X 67 (show cdA 98 105 = some (.getfield 52, 3, 8, 2, 0) from rfl) (by decide) rfl rfl ?_
            refine s_getR X 25 (show cdA 98 108 = some (.getfield 176, 3, 3, 3, 0) from rfl) (by decide) rfl rfl ?_
            refine z_load_n X (x := p) (show cdA 98 111 = some (.iload_n 2, 1, 0, 0, 0) from rfl) (List.Mem.tail _ (List.Mem.head _)) ?_
            refine z_ald X 29 (show cdA 98 112 = some (.iaload, 1, 0, 0, 0) from rfl) (by decide) rfl (by first | exact hi.1 | omega) (show p < 8 by first | exact g2002 | omega) (by decide) ?_
            have b2020 : (0 : Int) ≤ iC s2018 24 (p).toNat ∧ iC s2018 24 (p).toNat ≤ 9999 := Is2018.2 24 _ (show (p).toNat < 8 by first | exact oq_db4b3b8b g2002 | omega)
            refine z_icmp_le X (t := 118) (show cdA 98 113 = some (.if_icmp .le 5, 3, 5, 0, 0) from rfl) (by decide) hrs2018 (rng_to _) (fun g2021 => ?_) (fun g2021 => ?_)
            ·
              refine z_inc X (x := p) (lv' := [(2, .int (Int32.ofInt (p + 1))), (0, .ref (A 67))]) (show cdA 98 118 = some (.iinc 2 1, 3, 0, 0, 0) from rfl) (by decide) (List.Mem.tail _ (List.Mem.head _)) (fun _ h => h) ?_
              refine z_goto X (t := 76) (show cdA 98 121 = some (.goto (-45), 3, 0, 0, 0) from rfl) (by decide) ?_
              refine WS_lv (lv := [(0, .ref (A 67)), (2, .int (Int32.ofInt (p + 1)))]) (List.forall_mem_cons.mpr ⟨(List.Mem.tail _ (List.Mem.head _)), (List.forall_mem_cons.mpr ⟨(List.Mem.head _), (fun q h => absurd h List.not_mem_nil)⟩)⟩) ?_
              exact ih _ (p + 1) Is2018 Gs2018 (by first | exact ⟨oq_54f49eb5 hi.1, oq_0c7b19c3 g2002⟩ | omega) (by first | exact qk_me hm (by decide) (oq_9f368f35 g2002) | omega) kx
            ·
              refine z_const X (show cdA 98 116 = some (.iconst 1, 1, 0, 0, 0) from rfl) ?_
              exact w_iret X.1 q hRt (nar_ret (by first | exact Or.inr (by decide) | omega)) (ax_d X (show cdA 98 117 = some (.ireturn, 1, 0, 0, 0) from rfl)) (Nat.zero_le _) (Nat.zero_le _) ⟨_, rfl, Is2018, Gs2018, 1, rfl, (by decide), by first | exact Or.inr (by decide) | omega⟩
          ·
            have e8 : 93 + 10 * (p : Int).toNat = 133 := by omega
            rw [e8]
            refine z_const X (show cdA 98 99 = some (.iconst 0, 1, 0, 0, 0) from rfl) ?_
            refine z_const X (show cdA 98 100 = some (.iconst (-1), 1, 0, 0, 0) from rfl) ?_
            refine z_callV X 133 (rm := rmN 4) (As := [.int (Int32.ofInt 0), .int (Int32.ofInt (-1))]) (st := []) (show cdA 98 101 = some (.invokevirtual 173, 3, 4, 0, 0) from rfl) rfl (by decide) rfl (by rw [E.1, E.2.1, E.2.2.1]; exact c0_loadAt_133 G Is2003 (by first | exact ⟨by decide, by decide⟩ | omega) (by first | exact ⟨by decide, by decide⟩ | omega)) ⟨by rw [E.2.2.2]; exact (show (rmN 4).frames + 1 ≤ (rmN 98).frames by decide), by rw [E.2.2.2]; exact (show 8 + (mNL (miB 4) + 11) + (rmN 4).locals ≤ (rmN 98).locals by decide), by rw [E.2.2.2]; exact (show 0 + (rmN 4).cells ≤ (rmN 98).cells by decide), by rw [E.2.2.2]; exact (show 0 + (rmN 4).slots ≤ (rmN 98).slots by decide)⟩ (Nat.le_of_ble_eq_true rfl) (fun vv s2022 hq => ?_) (fun ee s2022 hq => ?_)
            rotate_left
            · obtain ⟨Is2022, Fs2022, e2023, hv, hrs2022, hps2022⟩ := hq; cases hv
            obtain ⟨Is2022, Fs2022, e2023, hv, hrs2022, hps2022⟩ := hq
            cases hv
            have Gs2022 := fm_ts Gs2003 Fs2022 (by decide) (by decide)
            have ws2022_41 : iI s2022 41 = iI s2003 41 := fm_i Fs2022 (by decide)
            show WS k 104 [(0, .ref (A 67)), (2, .int (Int32.ofInt p))] [.int (Int32.ofInt e2023)] (Wd A dT s2022) 0 0
            refine z_aload_n X (x := A 67) (show cdA 98 104 = some (.aload_n 0, 1, 0, 0, 0) from rfl) (List.Mem.head _) ?_
            refine s_getR X 67 (show cdA 98 105 = some (.getfield 52, 3, 8, 2, 0) from rfl) (by decide) rfl rfl ?_
            refine s_getR X 25 (show cdA 98 108 = some (.getfield 176, 3, 3, 3, 0) from rfl) (by decide) rfl rfl ?_
            refine z_load_n X (x := p) (show cdA 98 111 = some (.iload_n 2, 1, 0, 0, 0) from rfl) (List.Mem.tail _ (List.Mem.head _)) ?_
            refine z_ald X 29 (show cdA 98 112 = some (.iaload, 1, 0, 0, 0) from rfl) (by decide) rfl (by first | exact hi.1 | omega) (show p < 8 by first | exact g2002 | omega) (by decide) ?_
            have b2024 : (0 : Int) ≤ iC s2022 24 (p).toNat ∧ iC s2022 24 (p).toNat ≤ 9999 := Is2022.2 24 _ (show (p).toNat < 8 by first | exact oq_db4b3b8b g2002 | omega)
            refine z_icmp_le X (t := 118) (show cdA 98 113 = some (.if_icmp .le 5, 3, 5, 0, 0) from rfl) (by decide) hrs2022 (rng_to _) (fun g2025 => ?_) (fun g2025 => ?_)
            ·
              refine z_inc X (x := p) (lv' := [(2, .int (Int32.ofInt (p + 1))), (0, .ref (A 67))]) (show cdA 98 118 = some (.iinc 2 1, 3, 0, 0, 0) from rfl) (by decide) (List.Mem.tail _ (List.Mem.head _)) (fun _ h => h) ?_
              refine z_goto X (t := 76) (show cdA 98 121 = some (.goto (-45), 3, 0, 0, 0) from rfl) (by decide) ?_
              refine WS_lv (lv := [(0, .ref (A 67)), (2, .int (Int32.ofInt (p + 1)))]) (List.forall_mem_cons.mpr ⟨(List.Mem.tail _ (List.Mem.head _)), (List.forall_mem_cons.mpr ⟨(List.Mem.head _), (fun q h => absurd h List.not_mem_nil)⟩)⟩) ?_
              exact ih _ (p + 1) Is2022 Gs2022 (by first | exact ⟨oq_54f49eb5 hi.1, oq_0c7b19c3 g2002⟩ | omega) (by first | exact qk_me hm (by decide) (oq_9f368f35 g2002) | omega) kx
            ·
              refine z_const X (show cdA 98 116 = some (.iconst 1, 1, 0, 0, 0) from rfl) ?_
              exact w_iret X.1 q hRt (nar_ret (by first | exact Or.inr (by decide) | omega)) (ax_d X (show cdA 98 117 = some (.ireturn, 1, 0, 0, 0) from rfl)) (Nat.zero_le _) (Nat.zero_le _) ⟨_, rfl, Is2022, Gs2022, 1, rfl, (by decide), by first | exact Or.inr (by decide) | omega⟩
          ·
            have e8 : 93 + 10 * (p : Int).toNat = 143 := by omega
            rw [e8]
            refine z_const X (show cdA 98 99 = some (.iconst 0, 1, 0, 0, 0) from rfl) ?_
            refine z_const X (show cdA 98 100 = some (.iconst (-1), 1, 0, 0, 0) from rfl) ?_
            refine z_callV X 143 (rm := rmN 4) (As := [.int (Int32.ofInt 0), .int (Int32.ofInt (-1))]) (st := []) (show cdA 98 101 = some (.invokevirtual 173, 3, 4, 0, 0) from rfl) rfl (by decide) rfl (by rw [E.1, E.2.1, E.2.2.1]; exact c0_loadAt_143 G Is2003 (by first | exact ⟨by decide, by decide⟩ | omega) (by first | exact ⟨by decide, by decide⟩ | omega)) ⟨by rw [E.2.2.2]; exact (show (rmN 4).frames + 1 ≤ (rmN 98).frames by decide), by rw [E.2.2.2]; exact (show 8 + (mNL (miB 4) + 11) + (rmN 4).locals ≤ (rmN 98).locals by decide), by rw [E.2.2.2]; exact (show 0 + (rmN 4).cells ≤ (rmN 98).cells by decide), by rw [E.2.2.2]; exact (show 0 + (rmN 4).slots ≤ (rmN 98).slots by decide)⟩ (Nat.le_of_ble_eq_true rfl) (fun vv s2026 hq => ?_) (fun ee s2026 hq => ?_)
            rotate_left
            · obtain ⟨Is2026, Fs2026, e2027, hv, hrs2026, hps2026⟩ := hq; cases hv
            obtain ⟨Is2026, Fs2026, e2027, hv, hrs2026, hps2026⟩ := hq
            cases hv
            have Gs2026 := fm_ts Gs2003 Fs2026 (by decide) (by decide)
            have ws2026_41 : iI s2026 41 = iI s2003 41 := fm_i Fs2026 (by decide)
            show WS k 104 [(0, .ref (A 67)), (2, .int (Int32.ofInt p))] [.int (Int32.ofInt e2027)] (Wd A dT s2026) 0 0
            refine z_aload_n X (x := A 67) (show cdA 98 104 = some (.aload_n 0, 1, 0, 0, 0) from rfl) (List.Mem.head _) ?_
            refine s_getR X 67 (show cdA 98 105 = some (.getfield 52, 3, 8, 2, 0) from rfl) (by decide) rfl rfl ?_
            refine s_getR X 25 (show cdA 98 108 = some (.getfield 176, 3, 3, 3, 0) from rfl) (by decide) rfl rfl ?_
            refine z_load_n X (x := p) (show cdA 98 111 = some (.iload_n 2, 1, 0, 0, 0) from rfl) (List.Mem.tail _ (List.Mem.head _)) ?_
            refine z_ald X 29 (show cdA 98 112 = some (.iaload, 1, 0, 0, 0) from rfl) (by decide) rfl (by first | exact hi.1 | omega) (show p < 8 by first | exact g2002 | omega) (by decide) ?_
            have b2028 : (0 : Int) ≤ iC s2026 24 (p).toNat ∧ iC s2026 24 (p).toNat ≤ 9999 := Is2026.2 24 _ (show (p).toNat < 8 by first | exact oq_db4b3b8b g2002 | omega)
            refine z_icmp_le X (t := 118) (show cdA 98 113 = some (.if_icmp .le 5, 3, 5, 0, 0) from rfl) (by decide) hrs2026 (rng_to _) (fun g2029 => ?_) (fun g2029 => ?_)
            ·
              refine z_inc X (x := p) (lv' := [(2, .int (Int32.ofInt (p + 1))), (0, .ref (A 67))]) (show cdA 98 118 = some (.iinc 2 1, 3, 0, 0, 0) from rfl) (by decide) (List.Mem.tail _ (List.Mem.head _)) (fun _ h => h) ?_
              refine z_goto X (t := 76) (show cdA 98 121 = some (.goto (-45), 3, 0, 0, 0) from rfl) (by decide) ?_
              refine WS_lv (lv := [(0, .ref (A 67)), (2, .int (Int32.ofInt (p + 1)))]) (List.forall_mem_cons.mpr ⟨(List.Mem.tail _ (List.Mem.head _)), (List.forall_mem_cons.mpr ⟨(List.Mem.head _), (fun q h => absurd h List.not_mem_nil)⟩)⟩) ?_
              exact ih _ (p + 1) Is2026 Gs2026 (by first | exact ⟨oq_54f49eb5 hi.1, oq_0c7b19c3 g2002⟩ | omega) (by first | exact qk_me hm (by decide) (oq_9f368f35 g2002) | omega) kx
            ·
              refine z_const X (show cdA 98 116 = some (.iconst 1, 1, 0, 0, 0) from rfl) ?_
              exact w_iret X.1 q hRt (nar_ret (by first | exact Or.inr (by decide) | omega)) (ax_d X (show cdA 98 117 = some (.ireturn, 1, 0, 0, 0) from rfl)) (Nat.zero_le _) (Nat.zero_le _) ⟨_, rfl, Is2026, Gs2026, 1, rfl, (by decide), by first | exact Or.inr (by decide) | omega⟩
          ·
            have e8 : 93 + 10 * (p : Int).toNat = 153 := by omega
            rw [e8]
            refine z_const X (show cdA 98 99 = some (.iconst 0, 1, 0, 0, 0) from rfl) ?_
            refine z_const X (show cdA 98 100 = some (.iconst (-1), 1, 0, 0, 0) from rfl) ?_
            refine z_callV X 153 (rm := rmN 4) (As := [.int (Int32.ofInt 0), .int (Int32.ofInt (-1))]) (st := []) (show cdA 98 101 = some (.invokevirtual 173, 3, 4, 0, 0) from rfl) rfl (by decide) rfl (by rw [E.1, E.2.1, E.2.2.1]; exact c0_loadAt_153 G Is2003 (by first | exact ⟨by decide, by decide⟩ | omega) (by first | exact ⟨by decide, by decide⟩ | omega)) ⟨by rw [E.2.2.2]; exact (show (rmN 4).frames + 1 ≤ (rmN 98).frames by decide), by rw [E.2.2.2]; exact (show 8 + (mNL (miB 4) + 11) + (rmN 4).locals ≤ (rmN 98).locals by decide), by rw [E.2.2.2]; exact (show 0 + (rmN 4).cells ≤ (rmN 98).cells by decide), by rw [E.2.2.2]; exact (show 0 + (rmN 4).slots ≤ (rmN 98).slots by decide)⟩ (Nat.le_of_ble_eq_true rfl) (fun vv s2030 hq => ?_) (fun ee s2030 hq => ?_)
            rotate_left
            · obtain ⟨Is2030, Fs2030, e2031, hv, hrs2030, hps2030⟩ := hq; cases hv
            obtain ⟨Is2030, Fs2030, e2031, hv, hrs2030, hps2030⟩ := hq
            cases hv
            have Gs2030 := fm_ts Gs2003 Fs2030 (by decide) (by decide)
            have ws2030_41 : iI s2030 41 = iI s2003 41 := fm_i Fs2030 (by decide)
            show WS k 104 [(0, .ref (A 67)), (2, .int (Int32.ofInt p))] [.int (Int32.ofInt e2031)] (Wd A dT s2030) 0 0
            refine z_aload_n X (x := A 67) (show cdA 98 104 = some (.aload_n 0, 1, 0, 0, 0) from rfl) (List.Mem.head _) ?_
            refine s_getR X 67 (show cdA 98 105 = some (.getfield 52, 3, 8, 2, 0) from rfl) (by decide) rfl rfl ?_
            refine s_getR X 25 (show cdA 98 108 = some (.getfield 176, 3, 3, 3, 0) from rfl) (by decide) rfl rfl ?_
            refine z_load_n X (x := p) (show cdA 98 111 = some (.iload_n 2, 1, 0, 0, 0) from rfl) (List.Mem.tail _ (List.Mem.head _)) ?_
            refine z_ald X 29 (show cdA 98 112 = some (.iaload, 1, 0, 0, 0) from rfl) (by decide) rfl (by first | exact hi.1 | omega) (show p < 8 by first | exact g2002 | omega) (by decide) ?_
            have b2032 : (0 : Int) ≤ iC s2030 24 (p).toNat ∧ iC s2030 24 (p).toNat ≤ 9999 := Is2030.2 24 _ (show (p).toNat < 8 by first | exact oq_db4b3b8b g2002 | omega)
            refine z_icmp_le X (t := 118) (show cdA 98 113 = some (.if_icmp .le 5, 3, 5, 0, 0) from rfl) (by decide) hrs2030 (rng_to _) (fun g2033 => ?_) (fun g2033 => ?_)
            ·
              refine z_inc X (x := p) (lv' := [(2, .int (Int32.ofInt (p + 1))), (0, .ref (A 67))]) (show cdA 98 118 = some (.iinc 2 1, 3, 0, 0, 0) from rfl) (by decide) (List.Mem.tail _ (List.Mem.head _)) (fun _ h => h) ?_
              refine z_goto X (t := 76) (show cdA 98 121 = some (.goto (-45), 3, 0, 0, 0) from rfl) (by decide) ?_
              refine WS_lv (lv := [(0, .ref (A 67)), (2, .int (Int32.ofInt (p + 1)))]) (List.forall_mem_cons.mpr ⟨(List.Mem.tail _ (List.Mem.head _)), (List.forall_mem_cons.mpr ⟨(List.Mem.head _), (fun q h => absurd h List.not_mem_nil)⟩)⟩) ?_
              exact ih _ (p + 1) Is2030 Gs2030 (by first | exact ⟨oq_54f49eb5 hi.1, oq_0c7b19c3 g2002⟩ | omega) (by first | exact qk_me hm (by decide) (oq_9f368f35 g2002) | omega) kx
            ·
              refine z_const X (show cdA 98 116 = some (.iconst 1, 1, 0, 0, 0) from rfl) ?_
              exact w_iret X.1 q hRt (nar_ret (by first | exact Or.inr (by decide) | omega)) (ax_d X (show cdA 98 117 = some (.ireturn, 1, 0, 0, 0) from rfl)) (Nat.zero_le _) (Nat.zero_le _) ⟨_, rfl, Is2030, Gs2030, 1, rfl, (by decide), by first | exact Or.inr (by decide) | omega⟩
          ·
            have e8 : 93 + 10 * (p : Int).toNat = 163 := by omega
            rw [e8]
            refine z_const X (show cdA 98 99 = some (.iconst 0, 1, 0, 0, 0) from rfl) ?_
            refine z_const X (show cdA 98 100 = some (.iconst (-1), 1, 0, 0, 0) from rfl) ?_
            refine z_callV X 163 (rm := rmN 4) (As := [.int (Int32.ofInt 0), .int (Int32.ofInt (-1))]) (st := []) (show cdA 98 101 = some (.invokevirtual 173, 3, 4, 0, 0) from rfl) rfl (by decide) rfl (by rw [E.1, E.2.1, E.2.2.1]; exact c0_loadAt_163 G Is2003 (by first | exact ⟨by decide, by decide⟩ | omega) (by first | exact ⟨by decide, by decide⟩ | omega)) ⟨by rw [E.2.2.2]; exact (show (rmN 4).frames + 1 ≤ (rmN 98).frames by decide), by rw [E.2.2.2]; exact (show 8 + (mNL (miB 4) + 11) + (rmN 4).locals ≤ (rmN 98).locals by decide), by rw [E.2.2.2]; exact (show 0 + (rmN 4).cells ≤ (rmN 98).cells by decide), by rw [E.2.2.2]; exact (show 0 + (rmN 4).slots ≤ (rmN 98).slots by decide)⟩ (Nat.le_of_ble_eq_true rfl) (fun vv s2034 hq => ?_) (fun ee s2034 hq => ?_)
            rotate_left
            · obtain ⟨Is2034, Fs2034, e2035, hv, hrs2034, hps2034⟩ := hq; cases hv
            obtain ⟨Is2034, Fs2034, e2035, hv, hrs2034, hps2034⟩ := hq
            cases hv
            have Gs2034 := fm_ts Gs2003 Fs2034 (by decide) (by decide)
            have ws2034_41 : iI s2034 41 = iI s2003 41 := fm_i Fs2034 (by decide)
            show WS k 104 [(0, .ref (A 67)), (2, .int (Int32.ofInt p))] [.int (Int32.ofInt e2035)] (Wd A dT s2034) 0 0
            refine z_aload_n X (x := A 67) (show cdA 98 104 = some (.aload_n 0, 1, 0, 0, 0) from rfl) (List.Mem.head _) ?_
            refine s_getR X 67 (show cdA 98 105 = some (.getfield 52, 3, 8, 2, 0) from rfl) (by decide) rfl rfl ?_
            refine s_getR X 25 (show cdA 98 108 = some (.getfield 176, 3, 3, 3, 0) from rfl) (by decide) rfl rfl ?_
            refine z_load_n X (x := p) (show cdA 98 111 = some (.iload_n 2, 1, 0, 0, 0) from rfl) (List.Mem.tail _ (List.Mem.head _)) ?_
            refine z_ald X 29 (show cdA 98 112 = some (.iaload, 1, 0, 0, 0) from rfl) (by decide) rfl (by first | exact hi.1 | omega) (show p < 8 by first | exact g2002 | omega) (by decide) ?_
            have b2036 : (0 : Int) ≤ iC s2034 24 (p).toNat ∧ iC s2034 24 (p).toNat ≤ 9999 := Is2034.2 24 _ (show (p).toNat < 8 by first | exact oq_db4b3b8b g2002 | omega)
            refine z_icmp_le X (t := 118) (show cdA 98 113 = some (.if_icmp .le 5, 3, 5, 0, 0) from rfl) (by decide) hrs2034 (rng_to _) (fun g2037 => ?_) (fun g2037 => ?_)
            ·
              refine z_inc X (x := p) (lv' := [(2, .int (Int32.ofInt (p + 1))), (0, .ref (A 67))]) (show cdA 98 118 = some (.iinc 2 1, 3, 0, 0, 0) from rfl) (by decide) (List.Mem.tail _ (List.Mem.head _)) (fun _ h => h) ?_
              refine z_goto X (t := 76) (show cdA 98 121 = some (.goto (-45), 3, 0, 0, 0) from rfl) (by decide) ?_
              refine WS_lv (lv := [(0, .ref (A 67)), (2, .int (Int32.ofInt (p + 1)))]) (List.forall_mem_cons.mpr ⟨(List.Mem.tail _ (List.Mem.head _)), (List.forall_mem_cons.mpr ⟨(List.Mem.head _), (fun q h => absurd h List.not_mem_nil)⟩)⟩) ?_
              exact ih _ (p + 1) Is2034 Gs2034 (by first | exact ⟨oq_54f49eb5 hi.1, oq_0c7b19c3 g2002⟩ | omega) (by first | exact qk_me hm (by decide) (oq_9f368f35 g2002) | omega) kx
            ·
              refine z_const X (show cdA 98 116 = some (.iconst 1, 1, 0, 0, 0) from rfl) ?_
              exact w_iret X.1 q hRt (nar_ret (by first | exact Or.inr (by decide) | omega)) (ax_d X (show cdA 98 117 = some (.ireturn, 1, 0, 0, 0) from rfl)) (Nat.zero_le _) (Nat.zero_le _) ⟨_, rfl, Is2034, Gs2034, 1, rfl, (by decide), by first | exact Or.inr (by decide) | omega⟩
  refine z_const X (show cdA 98 0 = some (.iconst 0, 1, 0, 0, 0) from rfl) ?_
  refine z_store_n X (lv' := [(2, .int (Int32.ofInt 0)), (0, .ref (A 67)), (1, .int (Int32.ofInt x))]) (show cdA 98 1 = some (.istore_n 2, 1, 0, 0, 0) from rfl) (by decide) (fun _ h => h) ?_
  refine WS_lv (lv := [(0, .ref (A 67)), (1, .int (Int32.ofInt x)), (2, .int (Int32.ofInt 0))]) (List.forall_mem_cons.mpr ⟨(List.Mem.tail _ (List.Mem.head _)), (List.forall_mem_cons.mpr ⟨(List.Mem.tail _ (List.Mem.tail _ (List.Mem.head _))), (List.forall_mem_cons.mpr ⟨(List.Mem.head _), (fun q h => absurd h List.not_mem_nil)⟩)⟩)⟩) ?_
  refine L2 ((8 - 0 : Int).toNat + 1) s x 0 I F (by first | exact ⟨And.intro (p0.1) (p0.2), by decide, by decide, p1⟩ | omega) (Nat.lt_succ_self _) ?_
  intro s2 x3 Is2 Fs2 hs2
  have b4 : (0 : Int) ≤ iI s2 41 ∧ iI s2 41 ≤ 12 := Is2.1 41
  refine z_const X (show cdA 98 74 = some (.iconst 0, 1, 0, 0, 0) from rfl) ?_
  refine z_store_n X (lv' := [(2, .int (Int32.ofInt 0)), (0, .ref (A 67)), (1, .int (Int32.ofInt x))]) (show cdA 98 75 = some (.istore_n 2, 1, 0, 0, 0) from rfl) (by decide) (fun _ h => h) ?_
  refine WS_lv (lv := [(0, .ref (A 67)), (2, .int (Int32.ofInt 0))]) (List.forall_mem_cons.mpr ⟨(List.Mem.tail _ (List.Mem.head _)), (List.forall_mem_cons.mpr ⟨(List.Mem.head _), (fun q h => absurd h List.not_mem_nil)⟩)⟩) ?_
  refine L76 ((8 - 0 : Int).toNat + 1) s2 0 Is2 Fs2 (by first | exact ⟨by decide, by decide⟩ | omega) (Nat.lt_succ_self _) ?_
  intro s5 x6 Is5 Fs5 hs5
  have b7 : (0 : Int) ≤ iI s5 41 ∧ iI s5 41 ≤ 12 := Is5.1 41
  refine z_const X (show cdA 98 124 = some (.iconst 0, 1, 0, 0, 0) from rfl) ?_
  exact w_iret X.1 q hRt (nar_ret (by first | exact Or.inl (by decide) | omega)) (ax_d X (show cdA 98 125 = some (.ireturn, 1, 0, 0, 0) from rfl)) (Nat.zero_le _) (Nat.zero_le _) ⟨_, rfl, Is5, Fs5, 0, rfl, (by decide), by first | exact Or.inl (by decide) | omega⟩
set_option maxRecDepth 4000 in
theorem c8_fits_67 (G : GX l s0 D tys a0 dT) (I : Bd s) {x : Int} (p0 : 0 ≤ x ∧ x ≤ 255) (p1 : iI s 41 ≤ 8) : CT l s0 D A dT 97 (rmN 97) [.ref (A 67), .int (Int32.ofInt x)] s (fun o t => Bd t ∧ Fm [] [67, 20, 76, 87, 96, 105, 114, 123, 132, 141, 150] s t ∧ ∃ e, o = .inl (some (.int (Int32.ofInt e))) ∧ rng e ∧ (e = 0 ∨ e = 1)) := by
  refine ct_ofX G (by decide) (Nat.le_of_ble_eq_true rfl) (fun k X E ET hRt hXt q => ?_)
  show WS k 0 [(0, .ref (A 67)), (1, .int (Int32.ofInt x))] [] _ 0 0
  have F : Fm [] [67, 20, 76, 87, 96, 105, 114, 123, 132, 141, 150] s s := fm_rf _ _ s
  refine z_aload_n X (x := A 67) (show cdA 97 0 = some (.aload_n 0, 1, 0, 0, 0) from rfl) (List.Mem.head _) ?_
  refine s_getR X 67 (show cdA 97 1 = some (.getfield 37, 3, 8, 14, 0) from rfl) (by decide) rfl rfl ?_
  refine z_load_n X (x := x) (show cdA 97 4 = some (.iload_n 1, 1, 0, 0, 0) from rfl) (List.Mem.tail _ (List.Mem.head _)) ?_
  refine z_ald X 89 (show cdA 97 5 = some (.iaload, 1, 0, 0, 0) from rfl) (by decide) rfl (by first | exact p0.1 | omega) (show x < 256 by first | exact oq_29e5dbe2 p0.2 | omega) (by decide) ?_
  have b1 : ((-2147483648) : Int) ≤ iC s 76 (x).toNat ∧ iC s 76 (x).toNat ≤ 2147483647 := I.2 76 _ (show (x).toNat < 256 by first | exact oq_c39a26fc p0.2 | omega)
  refine z_if_ne X (t := 28) (show cdA 97 6 = some (.ifCond .ne 22, 3, 1, 0, 0) from rfl) (by decide) (rng_to _) (fun g2 => ?_) (fun g2 => ?_)
  ·
    refine z_aload_n X (x := A 67) (show cdA 97 28 = some (.aload_n 0, 1, 0, 0, 0) from rfl) (List.Mem.head _) ?_
    refine s_getR X 67 (show cdA 97 29 = some (.getfield 37, 3, 8, 14, 0) from rfl) (by decide) rfl rfl ?_
    refine z_load_n X (x := x) (show cdA 97 32 = some (.iload_n 1, 1, 0, 0, 0) from rfl) (List.Mem.tail _ (List.Mem.head _)) ?_
    refine z_ald X 89 (show cdA 97 33 = some (.iaload, 1, 0, 0, 0) from rfl) (by decide) rfl (by first | exact p0.1 | omega) (show x < 256 by first | exact oq_29e5dbe2 p0.2 | omega) (by decide) ?_
    have b3 : ((-2147483648) : Int) ≤ iC s 76 (x).toNat ∧ iC s 76 (x).toNat ≤ 2147483647 := I.2 76 _ (show (x).toNat < 256 by first | exact oq_c39a26fc p0.2 | omega)
    refine z_const X (show cdA 97 34 = some (.iconst 1, 1, 0, 0, 0) from rfl) ?_
    have N4 : ∀ e5 : Int, ((((iC s 76 (x).toNat) ≠ 1) ∧ e5 = 0) ∨ (((iC s 76 (x).toNat) = 1) ∧ e5 = 1)) → WS k 43 [(0, .ref (A 67)), (1, .int (Int32.ofInt x))] [.int (Int32.ofInt e5)] (Wd A dT s) 0 0 := by
      intro e5 he5
      have re5 : 0 ≤ e5 ∧ e5 ≤ 1 := by omega
      exact w_iret X.1 q hRt (nar_ret (by first | exact oq_ca60608d re5.2 re5.1 he5 | omega)) (ax_d X (show cdA 97 43 = some (.ireturn, 1, 0, 0, 0) from rfl)) (Nat.zero_le _) (Nat.zero_le _) ⟨_, rfl, I, F, e5, rfl, ⟨by first | exact oq_fa4e5087 re5.1 | omega, by first | exact oq_22e1e6b0 re5.2 | omega⟩, by first | exact oq_ca60608d re5.2 re5.1 he5 | omega⟩
    refine z_icmp_ne X (t := 42) (show cdA 97 35 = some (.if_icmp .ne 7, 3, 1, 0, 0) from rfl) (by decide) (rng_to _) (by decide) (fun g6 => ?_) (fun g6 => ?_)
    ·
      refine z_const X (show cdA 97 42 = some (.iconst 0, 1, 0, 0, 0) from rfl) ?_
      exact N4 _ (Or.inl ⟨g6, rfl⟩)
    ·
      refine z_const X (show cdA 97 38 = some (.iconst 1, 1, 0, 0, 0) from rfl) ?_
      refine z_goto X (t := 43) (show cdA 97 39 = some (.goto 4, 3, 0, 0, 0) from rfl) (by decide) ?_
      exact N4 _ (Or.inr (⟨g6, rfl⟩))
  ·
    refine z_aload_n X (x := A 67) (show cdA 97 9 = some (.aload_n 0, 1, 0, 0, 0) from rfl) (List.Mem.head _) ?_
    refine s_getR X 67 (show cdA 97 10 = some (.getfield 37, 3, 8, 14, 0) from rfl) (by decide) rfl rfl ?_
    refine z_load_n X (x := x) (show cdA 97 13 = some (.iload_n 1, 1, 0, 0, 0) from rfl) (List.Mem.tail _ (List.Mem.head _)) ?_
    refine z_aload_n X (x := A 67) (show cdA 97 14 = some (.aload_n 0, 1, 0, 0, 0) from rfl) (List.Mem.head _) ?_
    refine z_load_n X (x := x) (show cdA 97 15 = some (.iload_n 1, 1, 0, 0, 0) from rfl) (List.Mem.tail _ (List.Mem.head _)) ?_
    refine z_callV X 67 (rm := rmN 98) (As := [.int (Int32.ofInt x)]) (st := [.int (Int32.ofInt x), .ref (A 89)]) (show cdA 97 16 = some (.invokevirtual 167, 3, 98, 0, 0) from rfl) rfl (by decide) rfl (by rw [E.1, E.2.1, E.2.2.1]; exact c8_anyFull_67 G I (by first | exact ⟨p0.1, p0.2⟩ | omega) (by first | exact p1 | omega)) ⟨by rw [E.2.2.2]; exact (show (rmN 98).frames + 1 ≤ (rmN 97).frames by decide), by rw [E.2.2.2]; exact (show 8 + (mNL (miB 98) + 11) + (rmN 98).locals ≤ (rmN 97).locals by decide), by rw [E.2.2.2]; exact (show 0 + (rmN 98).cells ≤ (rmN 97).cells by decide), by rw [E.2.2.2]; exact (show 0 + (rmN 98).slots ≤ (rmN 97).slots by decide)⟩ (Nat.le_of_ble_eq_true rfl) (fun vv s7 hq => ?_) (fun ee s7 hq => ?_)
    rotate_left
    · obtain ⟨Is7, Fs7, e8, hv, hrs7, hps7⟩ := hq; cases hv
    obtain ⟨Is7, Fs7, e8, hv, hrs7, hps7⟩ := hq
    cases hv
    have Gs7 := fm_ts F Fs7 (by decide) (by decide)
    show WS k 19 [(0, .ref (A 67)), (1, .int (Int32.ofInt x))] [.int (Int32.ofInt e8), .int (Int32.ofInt x), .ref (A 89)] (Wd A dT s7) 0 0
    have N9 : ∀ e10 : Int, (((e8 = 0) ∧ e10 = 1) ∨ ((e8 ≠ 0) ∧ e10 = 2)) → WS k 27 [(0, .ref (A 67)), (1, .int (Int32.ofInt x))] [.int (Int32.ofInt e10), .int (Int32.ofInt x), .ref (A 89)] (Wd A dT s7) 0 0 := by
      intro e10 he10
      have re10 : 1 ≤ e10 ∧ e10 ≤ 2 := by omega
      refine z_ast X 89 (show cdA 97 27 = some (.iastore, 1, 0, 0, 0) from rfl) (by decide) rfl (by first | exact p0.1 | omega) (show x < 256 by first | exact oq_29e5dbe2 p0.2 | omega) (by decide) ?_
      obtain ⟨s11, hs11⟩ : ∃ x0, x0 = uC s7 76 (x).toNat (Int32.ofInt e10) := ⟨_, rfl⟩
      rw [← hs11]
      have Is11 : Bd s11 := by rw [hs11]; exact bd_C Is7 (show ((-2147483648) : Int) ≤ e10 ∧ e10 ≤ 2147483647 by first | exact ⟨oq_9462313e re10.1, oq_861e1648 re10.2⟩ | omega) ⟨by first | exact oq_9462313e re10.1 | omega, by first | exact oq_861e1648 re10.2 | omega⟩
      have Fs11 := fm_C (i := (x).toNat) (x := Int32.ofInt e10) Gs7 (show 76 ∈ _ by decide)
      rw [← hs11] at Fs11
      refine z_aload_n X (x := A 67) (show cdA 97 28 = some (.aload_n 0, 1, 0, 0, 0) from rfl) (List.Mem.head _) ?_
      refine s_getR X 67 (show cdA 97 29 = some (.getfield 37, 3, 8, 14, 0) from rfl) (by decide) rfl rfl ?_
      refine z_load_n X (x := x) (show cdA 97 32 = some (.iload_n 1, 1, 0, 0, 0) from rfl) (List.Mem.tail _ (List.Mem.head _)) ?_
      refine z_ald X 89 (show cdA 97 33 = some (.iaload, 1, 0, 0, 0) from rfl) (by decide) rfl (by first | exact p0.1 | omega) (show x < 256 by first | exact oq_29e5dbe2 p0.2 | omega) (by decide) ?_
      have b12 : ((-2147483648) : Int) ≤ iC s11 76 (x).toNat ∧ iC s11 76 (x).toNat ≤ 2147483647 := Is11.2 76 _ (show (x).toNat < 256 by first | exact oq_c39a26fc p0.2 | omega)
      refine z_const X (show cdA 97 34 = some (.iconst 1, 1, 0, 0, 0) from rfl) ?_
      have N13 : ∀ e14 : Int, ((((iC s11 76 (x).toNat) ≠ 1) ∧ e14 = 0) ∨ (((iC s11 76 (x).toNat) = 1) ∧ e14 = 1)) → WS k 43 [(0, .ref (A 67)), (1, .int (Int32.ofInt x))] [.int (Int32.ofInt e14)] (Wd A dT s11) 0 0 := by
        intro e14 he14
        have re14 : 0 ≤ e14 ∧ e14 ≤ 1 := by omega
        exact w_iret X.1 q hRt (nar_ret (by first | exact oq_ca60608d re14.2 re14.1 he14 | omega)) (ax_d X (show cdA 97 43 = some (.ireturn, 1, 0, 0, 0) from rfl)) (Nat.zero_le _) (Nat.zero_le _) ⟨_, rfl, Is11, Fs11, e14, rfl, ⟨by first | exact oq_fa4e5087 re14.1 | omega, by first | exact oq_22e1e6b0 re14.2 | omega⟩, by first | exact oq_ca60608d re14.2 re14.1 he14 | omega⟩
      refine z_icmp_ne X (t := 42) (show cdA 97 35 = some (.if_icmp .ne 7, 3, 1, 0, 0) from rfl) (by decide) (rng_to _) (by decide) (fun g15 => ?_) (fun g15 => ?_)
      ·
        refine z_const X (show cdA 97 42 = some (.iconst 0, 1, 0, 0, 0) from rfl) ?_
        exact N13 _ (Or.inl ⟨g15, rfl⟩)
      ·
        refine z_const X (show cdA 97 38 = some (.iconst 1, 1, 0, 0, 0) from rfl) ?_
        refine z_goto X (t := 43) (show cdA 97 39 = some (.goto 4, 3, 0, 0, 0) from rfl) (by decide) ?_
        exact N13 _ (Or.inr (⟨g15, rfl⟩))
    refine z_if_eq X (t := 26) (show cdA 97 19 = some (.ifCond .eq 7, 3, 0, 0, 0) from rfl) (by decide) hrs7 (fun g16 => ?_) (fun g16 => ?_)
    ·
      refine z_const X (show cdA 97 26 = some (.iconst 1, 1, 0, 0, 0) from rfl) ?_
      exact N9 _ (Or.inl ⟨g16, rfl⟩)
    ·
      refine z_const X (show cdA 97 22 = some (.iconst 2, 1, 0, 0, 0) from rfl) ?_
      refine z_goto X (t := 27) (show cdA 97 23 = some (.goto 4, 3, 0, 0, 0) from rfl) (by decide) ?_
      exact N9 _ (Or.inr (⟨g16, rfl⟩))
set_option maxRecDepth 4000 in
theorem c8_try0 (G : GX l s0 D tys a0 dT) (I : Bd s) {x y z w v : Int} (p0 : 0 ≤ x ∧ x ≤ iI s 41) (p1 : iI s 41 - x ≤ ((0 : Nat) : Int)) (p2 : iI s 41 ≤ 8) (p3 : rng y) (p4 : rng z) (p5 : rng w) (p6 : 0 ≤ v ∧ v ≤ 255) : CT l s0 D A dT 96 (rkR (30 + (0))) [.ref (A 67), .int (Int32.ofInt x), .int (Int32.ofInt y), .int (Int32.ofInt z), .int (Int32.ofInt w), .int (Int32.ofInt v)] s (fun o t => Bd t ∧ Fm [42] [67, 20, 76, 74, 75, 87, 96, 105, 114, 123, 132, 141, 150] s t ∧ o = .inl none ∧ (True)) := by
  refine ct_ofX G (by decide) (Nat.le_of_ble_eq_true rfl) (fun k X E ET hRt hXt q => ?_)
  show WS k 0 [(0, .ref (A 67)), (1, .int (Int32.ofInt x)), (2, .int (Int32.ofInt y)), (3, .int (Int32.ofInt z)), (4, .int (Int32.ofInt w)), (5, .int (Int32.ofInt v))] [] _ 0 0
  have F : Fm [42] [67, 20, 76, 74, 75, 87, 96, 105, 114, 123, 132, 141, 150] s s := fm_rf _ _ s
  have b1 : (0 : Int) ≤ iI s 41 ∧ iI s 41 ≤ 12 := I.1 41
  refine z_load_n X (x := y) (show cdA 96 0 = some (.iload_n 2, 1, 0, 0, 0) from rfl) (List.Mem.tail _ (List.Mem.tail _ (List.Mem.head _))) ?_
  refine z_aload_n X (x := A 67) (show cdA 96 1 = some (.aload_n 0, 1, 0, 0, 0) from rfl) (List.Mem.head _) ?_
  refine z_getI X 67 (show cdA 96 2 = some (.getfield 102, 3, 8, 13, 0) from rfl) (by decide) rfl rfl ?_
  have b2 : ((-2147483648) : Int) ≤ iI s 42 ∧ iI s 42 ≤ 2147483647 := I.1 42
  refine z_icmp_lt X (t := 9) (show cdA 96 5 = some (.if_icmp .lt 4, 3, 2, 0, 0) from rfl) (by decide) ⟨by first | exact p3.1 | omega, by first | exact p3.2 | omega⟩ (rng_to _) (fun g3 => ?_) (fun g3 => ?_)
  ·
    refine z_load_n X (x := x) (show cdA 96 9 = some (.iload_n 1, 1, 0, 0, 0) from rfl) (List.Mem.tail _ (List.Mem.head _)) ?_
    refine z_aload_n X (x := A 67) (show cdA 96 10 = some (.aload_n 0, 1, 0, 0, 0) from rfl) (List.Mem.head _) ?_
    refine z_getI X 67 (show cdA 96 11 = some (.getfield 77, 3, 8, 9, 0) from rfl) (by decide) rfl rfl ?_
    have b4 : (0 : Int) ≤ iI s 41 ∧ iI s 41 ≤ 12 := I.1 41
    refine z_icmp_lt X (t := 49) (show cdA 96 14 = some (.if_icmp .lt 35, 3, 2, 0, 0) from rfl) (by decide) ⟨by first | exact oq_fa4e5087 p0.1 | omega, by first | exact oq_39d2cc6e p0.2 b4.2 | omega⟩ (rng_to _) (fun g5 => ?_) (fun g5 => ?_)
    ·
      exfalso
      omega
    ·
      refine z_aload_n X (x := A 67) (show cdA 96 17 = some (.aload_n 0, 1, 0, 0, 0) from rfl) (List.Mem.head _) ?_
      refine z_load X (x := v) (show cdA 96 18 = some (.iload 5, 2, 0, 0, 0) from rfl) (List.Mem.tail _ (List.Mem.tail _ (List.Mem.tail _ (List.Mem.tail _ (List.Mem.tail _ (List.Mem.head _)))))) ?_
      refine z_callV X 67 (rm := rmN 97) (As := [.int (Int32.ofInt v)]) (st := []) (show cdA 96 20 = some (.invokevirtual 158, 3, 97, 0, 0) from rfl) rfl (by decide) rfl (by rw [E.1, E.2.1, E.2.2.1]; exact c8_fits_67 G I (by first | exact ⟨p6.1, p6.2⟩ | omega) (by first | exact p2 | omega)) ⟨by rw [E.2.2.2]; exact (show 10 + 1 ≤ (12 + (30 + (0))) from oq_c3e2e0a8), by rw [E.2.2.2]; exact (show 8 + (2 + 11) + 195 ≤ (500 + 45 * (30 + (0))) from oq_a90377cd), by rw [E.2.2.2]; exact Nat.le_refl 0, by rw [E.2.2.2]; exact Nat.le_refl 0⟩ (Nat.le_of_ble_eq_true rfl) (fun vv s6 hq => ?_) (fun ee s6 hq => ?_)
      rotate_left
      · obtain ⟨Is6, Fs6, e7, hv, hrs6, hps6⟩ := hq; cases hv
      obtain ⟨Is6, Fs6, e7, hv, hrs6, hps6⟩ := hq
      cases hv
      have Gs6 := fm_ts F Fs6 (by decide) (by decide)
      have ws6_41 : iI s6 41 = iI s 41 := fm_i Fs6 (by decide)
      show WS k 23 [(0, .ref (A 67)), (1, .int (Int32.ofInt x)), (2, .int (Int32.ofInt y)), (3, .int (Int32.ofInt z)), (4, .int (Int32.ofInt w)), (5, .int (Int32.ofInt v))] [.int (Int32.ofInt e7)] (Wd A dT s6) 0 0
      refine z_if_eq X (t := 48) (show cdA 96 23 = some (.ifCond .eq 25, 3, 0, 0, 0) from rfl) (by decide) hrs6 (fun g8 => ?_) (fun g8 => ?_)
      ·
        exact w_vret X.1 q hRt (ax_d X (show cdA 96 48 = some (.return_, 1, 0, 0, 0) from rfl)) (Nat.zero_le _) (Nat.zero_le _) ⟨_, rfl, Is6, Gs6, rfl, trivial⟩
      ·
        refine z_aload_n X (x := A 67) (show cdA 96 26 = some (.aload_n 0, 1, 0, 0, 0) from rfl) (List.Mem.head _) ?_
        refine z_load_n X (x := y) (show cdA 96 27 = some (.iload_n 2, 1, 0, 0, 0) from rfl) (List.Mem.tail _ (List.Mem.tail _ (List.Mem.head _))) ?_
        refine s_putI X 67 (show cdA 96 28 = some (.putfield 102, 3, 8, 13, 0) from rfl) (by decide) rfl rfl (by decide) rfl rfl rfl ?_
        obtain ⟨s9, hs9⟩ : ∃ x0, x0 = uI s6 42 (Int32.ofInt y) := ⟨_, rfl⟩
        rw [← hs9]
        have Is9 : Bd s9 := by rw [hs9]; exact bd_I Is6 (show ((-2147483648) : Int) ≤ y ∧ y ≤ 2147483647 by first | exact ⟨p3.1, p3.2⟩ | omega) ⟨by first | exact p3.1 | omega, by first | exact p3.2 | omega⟩
        have Fs9 := fm_I (x := Int32.ofInt y) Gs6 (show 42 ∈ _ by decide)
        rw [← hs9] at Fs9
        have vs9 : iI s9 42 = y := by rw [hs9]; exact iI_u ⟨by first | exact p3.1 | omega, by first | exact p3.2 | omega⟩
        have ws9_41 : iI s9 41 = iI s6 41 := by rw [hs9]; rfl
        refine z_aload_n X (x := A 67) (show cdA 96 31 = some (.aload_n 0, 1, 0, 0, 0) from rfl) (List.Mem.head _) ?_
        refine s_getR X 67 (show cdA 96 32 = some (.getfield 31, 3, 8, 11, 0) from rfl) (by decide) rfl rfl ?_
        refine z_const X (show cdA 96 35 = some (.iconst 0, 1, 0, 0, 0) from rfl) ?_
        refine z_aload_n X (x := A 67) (show cdA 96 36 = some (.aload_n 0, 1, 0, 0, 0) from rfl) (List.Mem.head _) ?_
        refine s_getR X 67 (show cdA 96 37 = some (.getfield 34, 3, 8, 12, 0) from rfl) (by decide) rfl rfl ?_
        refine z_const X (show cdA 96 40 = some (.iconst 0, 1, 0, 0, 0) from rfl) ?_
        refine z_aload_n X (x := A 67) (show cdA 96 41 = some (.aload_n 0, 1, 0, 0, 0) from rfl) (List.Mem.head _) ?_
        refine z_getI X 67 (show cdA 96 42 = some (.getfield 77, 3, 8, 9, 0) from rfl) (by decide) rfl rfl ?_
        have b10 : (0 : Int) ≤ iI s9 41 ∧ iI s9 41 ≤ 12 := Is9.1 41
        refine z_copy X Is9 87 88 (st := []) (show cdA 96 45 = some (.invokestatic 161, 3, 0, 5, 0) from rfl) (by decide) (by decide) rfl rfl (by omega) (by omega) (by omega) (show 0 + (iI s9 41) ≤ ((8 : Nat) : Int) by omega) (show 0 + (iI s9 41) ≤ ((8 : Nat) : Int) by omega) (by decide) (by rw [E.2.2.2]; exact (show 1 ≤ (12 + (30 + (0))) by omega)) (by rw [E.2.2.2]; exact (show 0 + 40 ≤ (500 + 45 * (30 + (0))) by omega)) (fun s11 Is11 Fs11 => ?_)
        have Gs11 := fm_ts Fs9 Fs11 (by decide) (by decide)
        have ws11_41 : iI s11 41 = iI s9 41 := fm_i Fs11 (by decide)
        exact w_vret X.1 q hRt (ax_d X (show cdA 96 48 = some (.return_, 1, 0, 0, 0) from rfl)) (Nat.zero_le _) (Nat.zero_le _) ⟨_, rfl, Is11, Gs11, rfl, trivial⟩
  ·
    exact w_vret X.1 q hRt (ax_d X (show cdA 96 8 = some (.return_, 1, 0, 0, 0) from rfl)) (Nat.zero_le _) (Nat.zero_le _) ⟨_, rfl, I, F, rfl, trivial⟩
set_option maxRecDepth 4000 in
theorem c8_tryS (G : GX l s0 D tys a0 dT) {r : Nat} (hR : ∀ {s : PS} {x y z w v : Int}, Bd s → (0 ≤ x ∧ x ≤ iI s 41) → (iI s 41 - x ≤ ((r : Nat) : Int)) → (iI s 41 ≤ 8) → (rng y) → (rng z) → (rng w) → (0 ≤ v ∧ v ≤ 255) → CT l s0 D A dT 96 (rkR (30 + (r))) [.ref (A 67), .int (Int32.ofInt x), .int (Int32.ofInt y), .int (Int32.ofInt z), .int (Int32.ofInt w), .int (Int32.ofInt v)] s (fun o t => Bd t ∧ Fm [42] [67, 20, 76, 74, 75, 87, 96, 105, 114, 123, 132, 141, 150] s t ∧ o = .inl none ∧ (True))) (I : Bd s) {x y z w v : Int} (p0 : 0 ≤ x ∧ x ≤ iI s 41) (p1 : iI s 41 - x ≤ ((r + 1 : Nat) : Int)) (p2 : iI s 41 ≤ 8) (p3 : rng y) (p4 : rng z) (p5 : rng w) (p6 : 0 ≤ v ∧ v ≤ 255) : CT l s0 D A dT 96 (rkR (30 + (r + 1))) [.ref (A 67), .int (Int32.ofInt x), .int (Int32.ofInt y), .int (Int32.ofInt z), .int (Int32.ofInt w), .int (Int32.ofInt v)] s (fun o t => Bd t ∧ Fm [42] [67, 20, 76, 74, 75, 87, 96, 105, 114, 123, 132, 141, 150] s t ∧ o = .inl none ∧ (True)) := by
  refine ct_ofX G (by decide) (Nat.le_of_ble_eq_true rfl) (fun k X E ET hRt hXt q => ?_)
  show WS k 0 [(0, .ref (A 67)), (1, .int (Int32.ofInt x)), (2, .int (Int32.ofInt y)), (3, .int (Int32.ofInt z)), (4, .int (Int32.ofInt w)), (5, .int (Int32.ofInt v))] [] _ 0 0
  have F : Fm [42] [67, 20, 76, 74, 75, 87, 96, 105, 114, 123, 132, 141, 150] s s := fm_rf _ _ s
  have b1 : (0 : Int) ≤ iI s 41 ∧ iI s 41 ≤ 12 := I.1 41
  refine z_load_n X (x := y) (show cdA 96 0 = some (.iload_n 2, 1, 0, 0, 0) from rfl) (List.Mem.tail _ (List.Mem.tail _ (List.Mem.head _))) ?_
  refine z_aload_n X (x := A 67) (show cdA 96 1 = some (.aload_n 0, 1, 0, 0, 0) from rfl) (List.Mem.head _) ?_
  refine z_getI X 67 (show cdA 96 2 = some (.getfield 102, 3, 8, 13, 0) from rfl) (by decide) rfl rfl ?_
  have b2 : ((-2147483648) : Int) ≤ iI s 42 ∧ iI s 42 ≤ 2147483647 := I.1 42
  refine z_icmp_lt X (t := 9) (show cdA 96 5 = some (.if_icmp .lt 4, 3, 2, 0, 0) from rfl) (by decide) ⟨by first | exact p3.1 | omega, by first | exact p3.2 | omega⟩ (rng_to _) (fun g3 => ?_) (fun g3 => ?_)
  ·
    refine z_load_n X (x := x) (show cdA 96 9 = some (.iload_n 1, 1, 0, 0, 0) from rfl) (List.Mem.tail _ (List.Mem.head _)) ?_
    refine z_aload_n X (x := A 67) (show cdA 96 10 = some (.aload_n 0, 1, 0, 0, 0) from rfl) (List.Mem.head _) ?_
    refine z_getI X 67 (show cdA 96 11 = some (.getfield 77, 3, 8, 9, 0) from rfl) (by decide) rfl rfl ?_
    have b4 : (0 : Int) ≤ iI s 41 ∧ iI s 41 ≤ 12 := I.1 41
    refine z_icmp_lt X (t := 49) (show cdA 96 14 = some (.if_icmp .lt 35, 3, 2, 0, 0) from rfl) (by decide) ⟨by first | exact oq_fa4e5087 p0.1 | omega, by first | exact oq_39d2cc6e p0.2 b4.2 | omega⟩ (rng_to _) (fun g5 => ?_) (fun g5 => ?_)
    ·
      refine z_aload_n X (x := A 67) (show cdA 96 49 = some (.aload_n 0, 1, 0, 0, 0) from rfl) (List.Mem.head _) ?_
      refine s_getR X 67 (show cdA 96 50 = some (.getfield 49, 3, 8, 0, 0) from rfl) (by decide) rfl rfl ?_
      refine s_getR X 3 (show cdA 96 53 = some (.getfield 87, 3, 9, 12, 0) from rfl) (by decide) rfl rfl ?_
      refine z_aload_n X (x := A 67) (show cdA 96 56 = some (.aload_n 0, 1, 0, 0, 0) from rfl) (List.Mem.head _) ?_
      refine z_getI X 67 (show cdA 96 57 = some (.getfield 70, 3, 8, 6, 0) from rfl) (by decide) rfl rfl ?_
      have b6 : (0 : Int) ≤ iI s 39 ∧ iI s 39 ≤ 23 := I.1 39
      refine z_bipush X (show cdA 96 60 = some (.bipush 12, 2, 0, 0, 12) from rfl) ?_
      refine z_mul X (show cdA 96 62 = some (.imul, 1, 0, 0, 0) from rfl) ?_
      refine z_aload_n X (x := A 67) (show cdA 96 63 = some (.aload_n 0, 1, 0, 0, 0) from rfl) (List.Mem.head _) ?_
      refine s_getR X 67 (show cdA 96 64 = some (.getfield 24, 3, 8, 8, 0) from rfl) (by decide) rfl rfl ?_
      refine z_load_n X (x := x) (show cdA 96 67 = some (.iload_n 1, 1, 0, 0, 0) from rfl) (List.Mem.tail _ (List.Mem.head _)) ?_
      refine z_ald X 85 (show cdA 96 68 = some (.iaload, 1, 0, 0, 0) from rfl) (by decide) rfl (by first | exact p0.1 | omega) (show x < 12 by first | exact oq_f36e82a8 g5 b4.2 | omega) (by decide) ?_
      have b7 : (0 : Int) ≤ iC s 72 (x).toNat ∧ iC s 72 (x).toNat ≤ 11 := I.2 72 _ (show (x).toNat < 12 by first | exact oq_2dac6850 g5 b4.2 | omega)
      refine z_add X (show cdA 96 69 = some (.iadd, 1, 0, 0, 0) from rfl) ?_
      refine z_ald X 14 (show cdA 96 70 = some (.iaload, 1, 0, 0, 0) from rfl) (by decide) rfl (by first | exact oq_0f03f1de b6.1 b7.1 | omega) (show (((iI s 39) * 12) + (iC s 72 (x).toNat)) < 288 by first | exact oq_74a4833a b6.2 b7.2 | omega) (by decide) ?_
      have b8 : (0 : Int) ≤ iC s 11 ((((iI s 39) * 12) + (iC s 72 (x).toNat))).toNat ∧ iC s 11 ((((iI s 39) * 12) + (iC s 72 (x).toNat))).toNat ≤ 50 := I.2 11 _ (show ((((iI s 39) * 12) + (iC s 72 (x).toNat))).toNat < 288 by first | exact oq_5aa97b8f b6.2 b7.2 | omega)
      refine z_store X (lv' := [(6, .int (Int32.ofInt (iC s 11 ((((iI s 39) * 12) + (iC s 72 (x).toNat))).toNat))), (0, .ref (A 67)), (1, .int (Int32.ofInt x)), (2, .int (Int32.ofInt y)), (3, .int (Int32.ofInt z)), (4, .int (Int32.ofInt w)), (5, .int (Int32.ofInt v))]) (show cdA 96 71 = some (.istore 6, 2, 0, 0, 0) from rfl) (by decide) (fun _ h => h) ?_
      refine z_aload_n X (x := A 67) (show cdA 96 73 = some (.aload_n 0, 1, 0, 0, 0) from rfl) (List.Mem.tail _ (List.Mem.head _)) ?_
      refine s_getR X 67 (show cdA 96 74 = some (.getfield 28, 3, 8, 10, 0) from rfl) (by decide) rfl rfl ?_
      refine z_load_n X (x := x) (show cdA 96 77 = some (.iload_n 1, 1, 0, 0, 0) from rfl) (List.Mem.tail _ (List.Mem.tail _ (List.Mem.head _))) ?_
      refine z_ald X 86 (show cdA 96 78 = some (.iaload, 1, 0, 0, 0) from rfl) (by decide) rfl (by first | exact p0.1 | omega) (show x < 8 by first | exact oq_7f5b2e79 g5 p2 | omega) (by decide) ?_
      have b9 : ((-2147483648) : Int) ≤ iC s 73 (x).toNat ∧ iC s 73 (x).toNat ≤ 2147483647 := I.2 73 _ (show (x).toNat < 8 by first | exact oq_67be0351 g5 p2 | omega)
      refine z_const X (show cdA 96 79 = some (.iconst (-1), 1, 0, 0, 0) from rfl) ?_
      refine z_icmp_eq X (t := 114) (show cdA 96 80 = some (.if_icmp .eq 34, 3, 0, 0, 0) from rfl) (by decide) (rng_to _) (by decide) (fun g10 => ?_) (fun g10 => ?_)
      ·
        refine z_load_n X (x := z) (show cdA 96 114 = some (.iload_n 3, 1, 0, 0, 0) from rfl) (List.Mem.tail _ (List.Mem.tail _ (List.Mem.tail _ (List.Mem.tail _ (List.Mem.head _))))) ?_
        refine z_if_le X (t := 146) (show cdA 96 115 = some (.ifCond .le 31, 3, 5, 0, 0) from rfl) (by decide) ⟨by first | exact p4.1 | omega, by first | exact p4.2 | omega⟩ (fun g11 => ?_) (fun g11 => ?_)
        ·
          refine z_load X (x := w) (show cdA 96 146 = some (.iload 4, 2, 0, 0, 0) from rfl) (List.Mem.tail _ (List.Mem.tail _ (List.Mem.tail _ (List.Mem.tail _ (List.Mem.tail _ (List.Mem.head _)))))) ?_
          refine z_if_le X (t := 179) (show cdA 96 148 = some (.ifCond .le 31, 3, 5, 0, 0) from rfl) (by decide) ⟨by first | exact p5.1 | omega, by first | exact p5.2 | omega⟩ (fun g12 => ?_) (fun g12 => ?_)
          ·
            exact w_vret X.1 q hRt (ax_d X (show cdA 96 179 = some (.return_, 1, 0, 0, 0) from rfl)) (Nat.zero_le _) (Nat.zero_le _) ⟨_, rfl, I, F, rfl, trivial⟩
          ·
            refine z_aload_n X (x := A 67) (show cdA 96 151 = some (.aload_n 0, 1, 0, 0, 0) from rfl) (List.Mem.tail _ (List.Mem.head _)) ?_
            refine s_getR X 67 (show cdA 96 152 = some (.getfield 31, 3, 8, 11, 0) from rfl) (by decide) rfl rfl ?_
            refine z_load_n X (x := x) (show cdA 96 155 = some (.iload_n 1, 1, 0, 0, 0) from rfl) (List.Mem.tail _ (List.Mem.tail _ (List.Mem.head _))) ?_
            refine z_const X (show cdA 96 156 = some (.iconst 3, 1, 0, 0, 0) from rfl) ?_
            refine z_ast X 87 (show cdA 96 157 = some (.iastore, 1, 0, 0, 0) from rfl) (by decide) rfl (by first | exact p0.1 | omega) (show x < 8 by first | exact oq_7f5b2e79 g5 p2 | omega) (by decide) ?_
            obtain ⟨s13, hs13⟩ : ∃ x0, x0 = uC s 74 (x).toNat (Int32.ofInt 3) := ⟨_, rfl⟩
            rw [← hs13]
            have Is13 : Bd s13 := by rw [hs13]; exact bd_C I (show ((-2147483648) : Int) ≤ 3 ∧ 3 ≤ 2147483647 by first | exact ⟨by decide, by decide⟩ | omega) (by decide)
            have Fs13 := fm_C (i := (x).toNat) (x := Int32.ofInt 3) F (show 74 ∈ _ by decide)
            rw [← hs13] at Fs13
            have ws13_41 : iI s13 41 = iI s 41 := by rw [hs13]; rfl
            refine z_aload_n X (x := A 67) (show cdA 96 158 = some (.aload_n 0, 1, 0, 0, 0) from rfl) (List.Mem.tail _ (List.Mem.head _)) ?_
            refine z_load_n X (x := x) (show cdA 96 159 = some (.iload_n 1, 1, 0, 0, 0) from rfl) (List.Mem.tail _ (List.Mem.tail _ (List.Mem.head _))) ?_
            refine z_const X (show cdA 96 160 = some (.iconst 1, 1, 0, 0, 0) from rfl) ?_
            refine z_add X (show cdA 96 161 = some (.iadd, 1, 0, 0, 0) from rfl) ?_
            refine z_load_n X (x := y) (show cdA 96 162 = some (.iload_n 2, 1, 0, 0, 0) from rfl) (List.Mem.tail _ (List.Mem.tail _ (List.Mem.tail _ (List.Mem.head _)))) ?_
            refine z_bipush X (show cdA 96 163 = some (.bipush 60, 2, 0, 0, 60) from rfl) ?_
            refine z_load X (x := (iC s 11 ((((iI s 39) * 12) + (iC s 72 (x).toNat))).toNat)) (show cdA 96 165 = some (.iload 6, 2, 0, 0, 0) from rfl) (List.Mem.head _) ?_
            refine z_mul X (show cdA 96 167 = some (.imul, 1, 0, 0, 0) from rfl) ?_
            refine z_add X (show cdA 96 168 = some (.iadd, 1, 0, 0, 0) from rfl) ?_
            refine z_any (fun y14 hy14 => ?_)
            refine z_load_n X (x := z) (show cdA 96 169 = some (.iload_n 3, 1, 0, 0, 0) from rfl) (List.Mem.tail _ (List.Mem.tail _ (List.Mem.tail _ (List.Mem.tail _ (List.Mem.head _))))) ?_
            refine z_load X (x := w) (show cdA 96 170 = some (.iload 4, 2, 0, 0, 0) from rfl) (List.Mem.tail _ (List.Mem.tail _ (List.Mem.tail _ (List.Mem.tail _ (List.Mem.tail _ (List.Mem.head _)))))) ?_
            refine z_const X (show cdA 96 172 = some (.iconst 1, 1, 0, 0, 0) from rfl) ?_
            refine z_sub X (show cdA 96 173 = some (.isub, 1, 0, 0, 0) from rfl) ?_
            refine z_load X (x := v) (show cdA 96 174 = some (.iload 5, 2, 0, 0, 0) from rfl) (List.Mem.tail _ (List.Mem.tail _ (List.Mem.tail _ (List.Mem.tail _ (List.Mem.tail _ (List.Mem.tail _ (List.Mem.head _))))))) ?_
            refine z_callV X 67 (rm := (rkR (30 + (r)))) (As := [.int (Int32.ofInt (x + 1)), .int (Int32.ofInt y14), .int (Int32.ofInt z), .int (Int32.ofInt (w - 1)), .int (Int32.ofInt v)]) (st := []) (show cdA 96 176 = some (.invokevirtual 105, 3, 96, 0, 0) from rfl) rfl (by decide) rfl (by rw [E.1, E.2.1, E.2.2.1]; exact hR Is13 (by first | exact ⟨p0.1, oq_bdc35239 ws13_41 g5⟩ | omega) (by omega) (by first | exact oq_86ef0b17 ws13_41 p2 | omega) (by first | exact ⟨p3.1, p3.2⟩ | omega) (by first | exact ⟨p4.1, p4.2⟩ | omega) (by first | exact ⟨p5.1, p5.2⟩ | omega) (by first | exact ⟨p6.1, p6.2⟩ | omega)) ⟨by rw [E.2.2.2]; exact (show (12 + (30 + (r))) + 1 ≤ (12 + (30 + (r + 1))) from oq_bb14859f r), by rw [E.2.2.2]; exact (show 8 + (7 + 11) + (500 + 45 * (30 + (r))) ≤ (500 + 45 * (30 + (r + 1))) from oq_0bdccef0 r), by rw [E.2.2.2]; exact Nat.le_refl 0, by rw [E.2.2.2]; exact Nat.le_refl 0⟩ (Nat.le_of_ble_eq_true rfl) (fun vv s15 hq => ?_) (fun ee s15 hq => ?_)
            rotate_left
            · obtain ⟨Is15, Fs15, hv, hps15⟩ := hq; cases hv
            obtain ⟨Is15, Fs15, hv, hps15⟩ := hq
            cases hv
            have Gs15 := fm_ts Fs13 Fs15 (by decide) (by decide)
            have ws15_41 : iI s15 41 = iI s13 41 := fm_i Fs15 (by decide)
            show WS k 179 [(6, .int (Int32.ofInt (iC s 11 ((((iI s 39) * 12) + (iC s 72 (x).toNat))).toNat))), (0, .ref (A 67)), (1, .int (Int32.ofInt x)), (2, .int (Int32.ofInt y)), (3, .int (Int32.ofInt z)), (4, .int (Int32.ofInt w)), (5, .int (Int32.ofInt v))] [] (Wd A dT s15) 0 0
            exact w_vret X.1 q hRt (ax_d X (show cdA 96 179 = some (.return_, 1, 0, 0, 0) from rfl)) (Nat.zero_le _) (Nat.zero_le _) ⟨_, rfl, Is15, Gs15, rfl, trivial⟩
        ·
          refine z_aload_n X (x := A 67) (show cdA 96 118 = some (.aload_n 0, 1, 0, 0, 0) from rfl) (List.Mem.tail _ (List.Mem.head _)) ?_
          refine s_getR X 67 (show cdA 96 119 = some (.getfield 31, 3, 8, 11, 0) from rfl) (by decide) rfl rfl ?_
          refine z_load_n X (x := x) (show cdA 96 122 = some (.iload_n 1, 1, 0, 0, 0) from rfl) (List.Mem.tail _ (List.Mem.tail _ (List.Mem.head _))) ?_
          refine z_const X (show cdA 96 123 = some (.iconst 2, 1, 0, 0, 0) from rfl) ?_
          refine z_ast X 87 (show cdA 96 124 = some (.iastore, 1, 0, 0, 0) from rfl) (by decide) rfl (by first | exact p0.1 | omega) (show x < 8 by first | exact oq_7f5b2e79 g5 p2 | omega) (by decide) ?_
          obtain ⟨s17, hs17⟩ : ∃ x0, x0 = uC s 74 (x).toNat (Int32.ofInt 2) := ⟨_, rfl⟩
          rw [← hs17]
          have Is17 : Bd s17 := by rw [hs17]; exact bd_C I (show ((-2147483648) : Int) ≤ 2 ∧ 2 ≤ 2147483647 by first | exact ⟨by decide, by decide⟩ | omega) (by decide)
          have Fs17 := fm_C (i := (x).toNat) (x := Int32.ofInt 2) F (show 74 ∈ _ by decide)
          rw [← hs17] at Fs17
          have ws17_41 : iI s17 41 = iI s 41 := by rw [hs17]; rfl
          refine z_aload_n X (x := A 67) (show cdA 96 125 = some (.aload_n 0, 1, 0, 0, 0) from rfl) (List.Mem.tail _ (List.Mem.head _)) ?_
          refine z_load_n X (x := x) (show cdA 96 126 = some (.iload_n 1, 1, 0, 0, 0) from rfl) (List.Mem.tail _ (List.Mem.tail _ (List.Mem.head _))) ?_
          refine z_const X (show cdA 96 127 = some (.iconst 1, 1, 0, 0, 0) from rfl) ?_
          refine z_add X (show cdA 96 128 = some (.iadd, 1, 0, 0, 0) from rfl) ?_
          refine z_load_n X (x := y) (show cdA 96 129 = some (.iload_n 2, 1, 0, 0, 0) from rfl) (List.Mem.tail _ (List.Mem.tail _ (List.Mem.tail _ (List.Mem.head _)))) ?_
          refine z_bipush X (show cdA 96 130 = some (.bipush 15, 2, 0, 0, 15) from rfl) ?_
          refine z_load X (x := (iC s 11 ((((iI s 39) * 12) + (iC s 72 (x).toNat))).toNat)) (show cdA 96 132 = some (.iload 6, 2, 0, 0, 0) from rfl) (List.Mem.head _) ?_
          refine z_mul X (show cdA 96 134 = some (.imul, 1, 0, 0, 0) from rfl) ?_
          refine z_add X (show cdA 96 135 = some (.iadd, 1, 0, 0, 0) from rfl) ?_
          refine z_any (fun y18 hy18 => ?_)
          refine z_load_n X (x := z) (show cdA 96 136 = some (.iload_n 3, 1, 0, 0, 0) from rfl) (List.Mem.tail _ (List.Mem.tail _ (List.Mem.tail _ (List.Mem.tail _ (List.Mem.head _))))) ?_
          refine z_const X (show cdA 96 137 = some (.iconst 1, 1, 0, 0, 0) from rfl) ?_
          refine z_sub X (show cdA 96 138 = some (.isub, 1, 0, 0, 0) from rfl) ?_
          refine z_load X (x := w) (show cdA 96 139 = some (.iload 4, 2, 0, 0, 0) from rfl) (List.Mem.tail _ (List.Mem.tail _ (List.Mem.tail _ (List.Mem.tail _ (List.Mem.tail _ (List.Mem.head _)))))) ?_
          refine z_load X (x := v) (show cdA 96 141 = some (.iload 5, 2, 0, 0, 0) from rfl) (List.Mem.tail _ (List.Mem.tail _ (List.Mem.tail _ (List.Mem.tail _ (List.Mem.tail _ (List.Mem.tail _ (List.Mem.head _))))))) ?_
          refine z_callV X 67 (rm := (rkR (30 + (r)))) (As := [.int (Int32.ofInt (x + 1)), .int (Int32.ofInt y18), .int (Int32.ofInt (z - 1)), .int (Int32.ofInt w), .int (Int32.ofInt v)]) (st := []) (show cdA 96 143 = some (.invokevirtual 105, 3, 96, 0, 0) from rfl) rfl (by decide) rfl (by rw [E.1, E.2.1, E.2.2.1]; exact hR Is17 (by first | exact ⟨p0.1, oq_bdc35239 ws17_41 g5⟩ | omega) (by omega) (by first | exact oq_86ef0b17 ws17_41 p2 | omega) (by first | exact ⟨p3.1, p3.2⟩ | omega) (by first | exact ⟨p4.1, p4.2⟩ | omega) (by first | exact ⟨p5.1, p5.2⟩ | omega) (by first | exact ⟨p6.1, p6.2⟩ | omega)) ⟨by rw [E.2.2.2]; exact (show (12 + (30 + (r))) + 1 ≤ (12 + (30 + (r + 1))) from oq_bb14859f r), by rw [E.2.2.2]; exact (show 8 + (7 + 11) + (500 + 45 * (30 + (r))) ≤ (500 + 45 * (30 + (r + 1))) from oq_0bdccef0 r), by rw [E.2.2.2]; exact Nat.le_refl 0, by rw [E.2.2.2]; exact Nat.le_refl 0⟩ (Nat.le_of_ble_eq_true rfl) (fun vv s19 hq => ?_) (fun ee s19 hq => ?_)
          rotate_left
          · obtain ⟨Is19, Fs19, hv, hps19⟩ := hq; cases hv
          obtain ⟨Is19, Fs19, hv, hps19⟩ := hq
          cases hv
          have Gs19 := fm_ts Fs17 Fs19 (by decide) (by decide)
          have ws19_41 : iI s19 41 = iI s17 41 := fm_i Fs19 (by decide)
          show WS k 146 [(6, .int (Int32.ofInt (iC s 11 ((((iI s 39) * 12) + (iC s 72 (x).toNat))).toNat))), (0, .ref (A 67)), (1, .int (Int32.ofInt x)), (2, .int (Int32.ofInt y)), (3, .int (Int32.ofInt z)), (4, .int (Int32.ofInt w)), (5, .int (Int32.ofInt v))] [] (Wd A dT s19) 0 0
          refine z_load X (x := w) (show cdA 96 146 = some (.iload 4, 2, 0, 0, 0) from rfl) (List.Mem.tail _ (List.Mem.tail _ (List.Mem.tail _ (List.Mem.tail _ (List.Mem.tail _ (List.Mem.head _)))))) ?_
          refine z_if_le X (t := 179) (show cdA 96 148 = some (.ifCond .le 31, 3, 5, 0, 0) from rfl) (by decide) ⟨by first | exact p5.1 | omega, by first | exact p5.2 | omega⟩ (fun g21 => ?_) (fun g21 => ?_)
          ·
            exact w_vret X.1 q hRt (ax_d X (show cdA 96 179 = some (.return_, 1, 0, 0, 0) from rfl)) (Nat.zero_le _) (Nat.zero_le _) ⟨_, rfl, Is19, Gs19, rfl, trivial⟩
          ·
            refine z_aload_n X (x := A 67) (show cdA 96 151 = some (.aload_n 0, 1, 0, 0, 0) from rfl) (List.Mem.tail _ (List.Mem.head _)) ?_
            refine s_getR X 67 (show cdA 96 152 = some (.getfield 31, 3, 8, 11, 0) from rfl) (by decide) rfl rfl ?_
            refine z_load_n X (x := x) (show cdA 96 155 = some (.iload_n 1, 1, 0, 0, 0) from rfl) (List.Mem.tail _ (List.Mem.tail _ (List.Mem.head _))) ?_
            refine z_const X (show cdA 96 156 = some (.iconst 3, 1, 0, 0, 0) from rfl) ?_
            refine z_ast X 87 (show cdA 96 157 = some (.iastore, 1, 0, 0, 0) from rfl) (by decide) rfl (by first | exact p0.1 | omega) (show x < 8 by first | exact oq_7f5b2e79 g5 p2 | omega) (by decide) ?_
            obtain ⟨s22, hs22⟩ : ∃ x0, x0 = uC s19 74 (x).toNat (Int32.ofInt 3) := ⟨_, rfl⟩
            rw [← hs22]
            have Is22 : Bd s22 := by rw [hs22]; exact bd_C Is19 (show ((-2147483648) : Int) ≤ 3 ∧ 3 ≤ 2147483647 by first | exact ⟨by decide, by decide⟩ | omega) (by decide)
            have Fs22 := fm_C (i := (x).toNat) (x := Int32.ofInt 3) Gs19 (show 74 ∈ _ by decide)
            rw [← hs22] at Fs22
            have ws22_41 : iI s22 41 = iI s19 41 := by rw [hs22]; rfl
            refine z_aload_n X (x := A 67) (show cdA 96 158 = some (.aload_n 0, 1, 0, 0, 0) from rfl) (List.Mem.tail _ (List.Mem.head _)) ?_
            refine z_load_n X (x := x) (show cdA 96 159 = some (.iload_n 1, 1, 0, 0, 0) from rfl) (List.Mem.tail _ (List.Mem.tail _ (List.Mem.head _))) ?_
            refine z_const X (show cdA 96 160 = some (.iconst 1, 1, 0, 0, 0) from rfl) ?_
            refine z_add X (show cdA 96 161 = some (.iadd, 1, 0, 0, 0) from rfl) ?_
            refine z_load_n X (x := y) (show cdA 96 162 = some (.iload_n 2, 1, 0, 0, 0) from rfl) (List.Mem.tail _ (List.Mem.tail _ (List.Mem.tail _ (List.Mem.head _)))) ?_
            refine z_bipush X (show cdA 96 163 = some (.bipush 60, 2, 0, 0, 60) from rfl) ?_
            refine z_load X (x := (iC s 11 ((((iI s 39) * 12) + (iC s 72 (x).toNat))).toNat)) (show cdA 96 165 = some (.iload 6, 2, 0, 0, 0) from rfl) (List.Mem.head _) ?_
            refine z_mul X (show cdA 96 167 = some (.imul, 1, 0, 0, 0) from rfl) ?_
            refine z_add X (show cdA 96 168 = some (.iadd, 1, 0, 0, 0) from rfl) ?_
            refine z_any (fun y23 hy23 => ?_)
            refine z_load_n X (x := z) (show cdA 96 169 = some (.iload_n 3, 1, 0, 0, 0) from rfl) (List.Mem.tail _ (List.Mem.tail _ (List.Mem.tail _ (List.Mem.tail _ (List.Mem.head _))))) ?_
            refine z_load X (x := w) (show cdA 96 170 = some (.iload 4, 2, 0, 0, 0) from rfl) (List.Mem.tail _ (List.Mem.tail _ (List.Mem.tail _ (List.Mem.tail _ (List.Mem.tail _ (List.Mem.head _)))))) ?_
            refine z_const X (show cdA 96 172 = some (.iconst 1, 1, 0, 0, 0) from rfl) ?_
            refine z_sub X (show cdA 96 173 = some (.isub, 1, 0, 0, 0) from rfl) ?_
            refine z_load X (x := v) (show cdA 96 174 = some (.iload 5, 2, 0, 0, 0) from rfl) (List.Mem.tail _ (List.Mem.tail _ (List.Mem.tail _ (List.Mem.tail _ (List.Mem.tail _ (List.Mem.tail _ (List.Mem.head _))))))) ?_
            refine z_callV X 67 (rm := (rkR (30 + (r)))) (As := [.int (Int32.ofInt (x + 1)), .int (Int32.ofInt y23), .int (Int32.ofInt z), .int (Int32.ofInt (w - 1)), .int (Int32.ofInt v)]) (st := []) (show cdA 96 176 = some (.invokevirtual 105, 3, 96, 0, 0) from rfl) rfl (by decide) rfl (by rw [E.1, E.2.1, E.2.2.1]; exact hR Is22 (by first | exact ⟨p0.1, oq_f4b75477 ws22_41 g5 ws19_41 ws17_41⟩ | omega) (by omega) (by first | exact oq_e14d47df ws22_41 ws19_41 ws17_41 p2 | omega) (by first | exact ⟨p3.1, p3.2⟩ | omega) (by first | exact ⟨p4.1, p4.2⟩ | omega) (by first | exact ⟨p5.1, p5.2⟩ | omega) (by first | exact ⟨p6.1, p6.2⟩ | omega)) ⟨by rw [E.2.2.2]; exact (show (12 + (30 + (r))) + 1 ≤ (12 + (30 + (r + 1))) from oq_bb14859f r), by rw [E.2.2.2]; exact (show 8 + (7 + 11) + (500 + 45 * (30 + (r))) ≤ (500 + 45 * (30 + (r + 1))) from oq_0bdccef0 r), by rw [E.2.2.2]; exact Nat.le_refl 0, by rw [E.2.2.2]; exact Nat.le_refl 0⟩ (Nat.le_of_ble_eq_true rfl) (fun vv s24 hq => ?_) (fun ee s24 hq => ?_)
            rotate_left
            · obtain ⟨Is24, Fs24, hv, hps24⟩ := hq; cases hv
            obtain ⟨Is24, Fs24, hv, hps24⟩ := hq
            cases hv
            have Gs24 := fm_ts Fs22 Fs24 (by decide) (by decide)
            have ws24_41 : iI s24 41 = iI s22 41 := fm_i Fs24 (by decide)
            show WS k 179 [(6, .int (Int32.ofInt (iC s 11 ((((iI s 39) * 12) + (iC s 72 (x).toNat))).toNat))), (0, .ref (A 67)), (1, .int (Int32.ofInt x)), (2, .int (Int32.ofInt y)), (3, .int (Int32.ofInt z)), (4, .int (Int32.ofInt w)), (5, .int (Int32.ofInt v))] [] (Wd A dT s24) 0 0
            exact w_vret X.1 q hRt (ax_d X (show cdA 96 179 = some (.return_, 1, 0, 0, 0) from rfl)) (Nat.zero_le _) (Nat.zero_le _) ⟨_, rfl, Is24, Gs24, rfl, trivial⟩
      ·
        refine z_aload_n X (x := A 67) (show cdA 96 83 = some (.aload_n 0, 1, 0, 0, 0) from rfl) (List.Mem.tail _ (List.Mem.head _)) ?_
        refine s_getR X 67 (show cdA 96 84 = some (.getfield 31, 3, 8, 11, 0) from rfl) (by decide) rfl rfl ?_
        refine z_load_n X (x := x) (show cdA 96 87 = some (.iload_n 1, 1, 0, 0, 0) from rfl) (List.Mem.tail _ (List.Mem.tail _ (List.Mem.head _))) ?_
        refine z_const X (show cdA 96 88 = some (.iconst 1, 1, 0, 0, 0) from rfl) ?_
        refine z_ast X 87 (show cdA 96 89 = some (.iastore, 1, 0, 0, 0) from rfl) (by decide) rfl (by first | exact p0.1 | omega) (show x < 8 by first | exact oq_7f5b2e79 g5 p2 | omega) (by decide) ?_
        obtain ⟨s26, hs26⟩ : ∃ x0, x0 = uC s 74 (x).toNat (Int32.ofInt 1) := ⟨_, rfl⟩
        rw [← hs26]
        have Is26 : Bd s26 := by rw [hs26]; exact bd_C I (show ((-2147483648) : Int) ≤ 1 ∧ 1 ≤ 2147483647 by first | exact ⟨by decide, by decide⟩ | omega) (by decide)
        have Fs26 := fm_C (i := (x).toNat) (x := Int32.ofInt 1) F (show 74 ∈ _ by decide)
        rw [← hs26] at Fs26
        have ws26_41 : iI s26 41 = iI s 41 := by rw [hs26]; rfl
        refine z_aload_n X (x := A 67) (show cdA 96 90 = some (.aload_n 0, 1, 0, 0, 0) from rfl) (List.Mem.tail _ (List.Mem.head _)) ?_
        refine z_load_n X (x := x) (show cdA 96 91 = some (.iload_n 1, 1, 0, 0, 0) from rfl) (List.Mem.tail _ (List.Mem.tail _ (List.Mem.head _))) ?_
        refine z_const X (show cdA 96 92 = some (.iconst 1, 1, 0, 0, 0) from rfl) ?_
        refine z_add X (show cdA 96 93 = some (.iadd, 1, 0, 0, 0) from rfl) ?_
        refine z_load_n X (x := y) (show cdA 96 94 = some (.iload_n 2, 1, 0, 0, 0) from rfl) (List.Mem.tail _ (List.Mem.tail _ (List.Mem.tail _ (List.Mem.head _)))) ?_
        refine z_aload_n X (x := A 67) (show cdA 96 95 = some (.aload_n 0, 1, 0, 0, 0) from rfl) (List.Mem.tail _ (List.Mem.head _)) ?_
        refine s_getR X 67 (show cdA 96 96 = some (.getfield 28, 3, 8, 10, 0) from rfl) (by decide) rfl rfl ?_
        refine z_load_n X (x := x) (show cdA 96 99 = some (.iload_n 1, 1, 0, 0, 0) from rfl) (List.Mem.tail _ (List.Mem.tail _ (List.Mem.head _))) ?_
        refine z_ald X 86 (show cdA 96 100 = some (.iaload, 1, 0, 0, 0) from rfl) (by decide) rfl (by first | exact p0.1 | omega) (show x < 8 by first | exact oq_7f5b2e79 g5 p2 | omega) (by decide) ?_
        have b27 : ((-2147483648) : Int) ≤ iC s26 73 (x).toNat ∧ iC s26 73 (x).toNat ≤ 2147483647 := Is26.2 73 _ (show (x).toNat < 8 by first | exact oq_67be0351 g5 p2 | omega)
        refine z_add X (show cdA 96 101 = some (.iadd, 1, 0, 0, 0) from rfl) ?_
        refine z_any (fun y28 hy28 => ?_)
        refine z_load_n X (x := z) (show cdA 96 102 = some (.iload_n 3, 1, 0, 0, 0) from rfl) (List.Mem.tail _ (List.Mem.tail _ (List.Mem.tail _ (List.Mem.tail _ (List.Mem.head _))))) ?_
        refine z_load X (x := w) (show cdA 96 103 = some (.iload 4, 2, 0, 0, 0) from rfl) (List.Mem.tail _ (List.Mem.tail _ (List.Mem.tail _ (List.Mem.tail _ (List.Mem.tail _ (List.Mem.head _)))))) ?_
        refine z_load X (x := v) (show cdA 96 105 = some (.iload 5, 2, 0, 0, 0) from rfl) (List.Mem.tail _ (List.Mem.tail _ (List.Mem.tail _ (List.Mem.tail _ (List.Mem.tail _ (List.Mem.tail _ (List.Mem.head _))))))) ?_
        refine z_const X (show cdA 96 107 = some (.iconst 1, 1, 0, 0, 0) from rfl) ?_
        refine z_load_n X (x := x) (show cdA 96 108 = some (.iload_n 1, 1, 0, 0, 0) from rfl) (List.Mem.tail _ (List.Mem.tail _ (List.Mem.head _))) ?_
        refine z_shl1 X (show cdA 96 109 = some (.ishl, 1, 0, 0, 0) from rfl) (by first | exact ⟨p0.1, oq_e4d7f3c5 g5 b4.2⟩ | omega) (fun y29 hy29 iy29 jy29 ky29 => ?_)
        refine z_orb X (show cdA 96 110 = some (.ior, 1, 0, 0, 0) from rfl) 8 (by decide) (show 0 ≤ v ∧ v < 2 ^ 8 by omega) (show 0 ≤ y29 ∧ y29 < 2 ^ 8 by omega) (fun y30 hy30 iy30 => ?_)
        have ib31 : y30 < 256 := iy30
        refine z_callV X 67 (rm := (rkR (30 + (r)))) (As := [.int (Int32.ofInt (x + 1)), .int (Int32.ofInt y28), .int (Int32.ofInt z), .int (Int32.ofInt w), .int (Int32.ofInt y30)]) (st := []) (show cdA 96 111 = some (.invokevirtual 105, 3, 96, 0, 0) from rfl) rfl (by decide) rfl (by rw [E.1, E.2.1, E.2.2.1]; exact hR Is26 (by first | exact ⟨p0.1, oq_bdc35239 ws26_41 g5⟩ | omega) (by omega) (by first | exact oq_86ef0b17 ws26_41 p2 | omega) (by first | exact ⟨p3.1, p3.2⟩ | omega) (by first | exact ⟨p4.1, p4.2⟩ | omega) (by first | exact ⟨p5.1, p5.2⟩ | omega) (by first | exact ⟨p6.1, p6.2⟩ | omega)) ⟨by rw [E.2.2.2]; exact (show (12 + (30 + (r))) + 1 ≤ (12 + (30 + (r + 1))) from oq_bb14859f r), by rw [E.2.2.2]; exact (show 8 + (7 + 11) + (500 + 45 * (30 + (r))) ≤ (500 + 45 * (30 + (r + 1))) from oq_0bdccef0 r), by rw [E.2.2.2]; exact Nat.le_refl 0, by rw [E.2.2.2]; exact Nat.le_refl 0⟩ (Nat.le_of_ble_eq_true rfl) (fun vv s32 hq => ?_) (fun ee s32 hq => ?_)
        rotate_left
        · obtain ⟨Is32, Fs32, hv, hps32⟩ := hq; cases hv
        obtain ⟨Is32, Fs32, hv, hps32⟩ := hq
        cases hv
        have Gs32 := fm_ts Fs26 Fs32 (by decide) (by decide)
        have ws32_41 : iI s32 41 = iI s26 41 := fm_i Fs32 (by decide)
        show WS k 114 [(6, .int (Int32.ofInt (iC s 11 ((((iI s 39) * 12) + (iC s 72 (x).toNat))).toNat))), (0, .ref (A 67)), (1, .int (Int32.ofInt x)), (2, .int (Int32.ofInt y)), (3, .int (Int32.ofInt z)), (4, .int (Int32.ofInt w)), (5, .int (Int32.ofInt v))] [] (Wd A dT s32) 0 0
        refine z_load_n X (x := z) (show cdA 96 114 = some (.iload_n 3, 1, 0, 0, 0) from rfl) (List.Mem.tail _ (List.Mem.tail _ (List.Mem.tail _ (List.Mem.tail _ (List.Mem.head _))))) ?_
        refine z_if_le X (t := 146) (show cdA 96 115 = some (.ifCond .le 31, 3, 5, 0, 0) from rfl) (by decide) ⟨by first | exact p4.1 | omega, by first | exact p4.2 | omega⟩ (fun g34 => ?_) (fun g34 => ?_)
        ·
          refine z_load X (x := w) (show cdA 96 146 = some (.iload 4, 2, 0, 0, 0) from rfl) (List.Mem.tail _ (List.Mem.tail _ (List.Mem.tail _ (List.Mem.tail _ (List.Mem.tail _ (List.Mem.head _)))))) ?_
          refine z_if_le X (t := 179) (show cdA 96 148 = some (.ifCond .le 31, 3, 5, 0, 0) from rfl) (by decide) ⟨by first | exact p5.1 | omega, by first | exact p5.2 | omega⟩ (fun g35 => ?_) (fun g35 => ?_)
          ·
            exact w_vret X.1 q hRt (ax_d X (show cdA 96 179 = some (.return_, 1, 0, 0, 0) from rfl)) (Nat.zero_le _) (Nat.zero_le _) ⟨_, rfl, Is32, Gs32, rfl, trivial⟩
          ·
            refine z_aload_n X (x := A 67) (show cdA 96 151 = some (.aload_n 0, 1, 0, 0, 0) from rfl) (List.Mem.tail _ (List.Mem.head _)) ?_
            refine s_getR X 67 (show cdA 96 152 = some (.getfield 31, 3, 8, 11, 0) from rfl) (by decide) rfl rfl ?_
            refine z_load_n X (x := x) (show cdA 96 155 = some (.iload_n 1, 1, 0, 0, 0) from rfl) (List.Mem.tail _ (List.Mem.tail _ (List.Mem.head _))) ?_
            refine z_const X (show cdA 96 156 = some (.iconst 3, 1, 0, 0, 0) from rfl) ?_
            refine z_ast X 87 (show cdA 96 157 = some (.iastore, 1, 0, 0, 0) from rfl) (by decide) rfl (by first | exact p0.1 | omega) (show x < 8 by first | exact oq_7f5b2e79 g5 p2 | omega) (by decide) ?_
            obtain ⟨s36, hs36⟩ : ∃ x0, x0 = uC s32 74 (x).toNat (Int32.ofInt 3) := ⟨_, rfl⟩
            rw [← hs36]
            have Is36 : Bd s36 := by rw [hs36]; exact bd_C Is32 (show ((-2147483648) : Int) ≤ 3 ∧ 3 ≤ 2147483647 by first | exact ⟨by decide, by decide⟩ | omega) (by decide)
            have Fs36 := fm_C (i := (x).toNat) (x := Int32.ofInt 3) Gs32 (show 74 ∈ _ by decide)
            rw [← hs36] at Fs36
            have ws36_41 : iI s36 41 = iI s32 41 := by rw [hs36]; rfl
            refine z_aload_n X (x := A 67) (show cdA 96 158 = some (.aload_n 0, 1, 0, 0, 0) from rfl) (List.Mem.tail _ (List.Mem.head _)) ?_
            refine z_load_n X (x := x) (show cdA 96 159 = some (.iload_n 1, 1, 0, 0, 0) from rfl) (List.Mem.tail _ (List.Mem.tail _ (List.Mem.head _))) ?_
            refine z_const X (show cdA 96 160 = some (.iconst 1, 1, 0, 0, 0) from rfl) ?_
            refine z_add X (show cdA 96 161 = some (.iadd, 1, 0, 0, 0) from rfl) ?_
            refine z_load_n X (x := y) (show cdA 96 162 = some (.iload_n 2, 1, 0, 0, 0) from rfl) (List.Mem.tail _ (List.Mem.tail _ (List.Mem.tail _ (List.Mem.head _)))) ?_
            refine z_bipush X (show cdA 96 163 = some (.bipush 60, 2, 0, 0, 60) from rfl) ?_
            refine z_load X (x := (iC s 11 ((((iI s 39) * 12) + (iC s 72 (x).toNat))).toNat)) (show cdA 96 165 = some (.iload 6, 2, 0, 0, 0) from rfl) (List.Mem.head _) ?_
            refine z_mul X (show cdA 96 167 = some (.imul, 1, 0, 0, 0) from rfl) ?_
            refine z_add X (show cdA 96 168 = some (.iadd, 1, 0, 0, 0) from rfl) ?_
            refine z_any (fun y37 hy37 => ?_)
            refine z_load_n X (x := z) (show cdA 96 169 = some (.iload_n 3, 1, 0, 0, 0) from rfl) (List.Mem.tail _ (List.Mem.tail _ (List.Mem.tail _ (List.Mem.tail _ (List.Mem.head _))))) ?_
            refine z_load X (x := w) (show cdA 96 170 = some (.iload 4, 2, 0, 0, 0) from rfl) (List.Mem.tail _ (List.Mem.tail _ (List.Mem.tail _ (List.Mem.tail _ (List.Mem.tail _ (List.Mem.head _)))))) ?_
            refine z_const X (show cdA 96 172 = some (.iconst 1, 1, 0, 0, 0) from rfl) ?_
            refine z_sub X (show cdA 96 173 = some (.isub, 1, 0, 0, 0) from rfl) ?_
            refine z_load X (x := v) (show cdA 96 174 = some (.iload 5, 2, 0, 0, 0) from rfl) (List.Mem.tail _ (List.Mem.tail _ (List.Mem.tail _ (List.Mem.tail _ (List.Mem.tail _ (List.Mem.tail _ (List.Mem.head _))))))) ?_
            refine z_callV X 67 (rm := (rkR (30 + (r)))) (As := [.int (Int32.ofInt (x + 1)), .int (Int32.ofInt y37), .int (Int32.ofInt z), .int (Int32.ofInt (w - 1)), .int (Int32.ofInt v)]) (st := []) (show cdA 96 176 = some (.invokevirtual 105, 3, 96, 0, 0) from rfl) rfl (by decide) rfl (by rw [E.1, E.2.1, E.2.2.1]; exact hR Is36 (by first | exact ⟨p0.1, oq_f4b75477 ws36_41 g5 ws32_41 ws26_41⟩ | omega) (by omega) (by first | exact oq_e14d47df ws36_41 ws32_41 ws26_41 p2 | omega) (by first | exact ⟨p3.1, p3.2⟩ | omega) (by first | exact ⟨p4.1, p4.2⟩ | omega) (by first | exact ⟨p5.1, p5.2⟩ | omega) (by first | exact ⟨p6.1, p6.2⟩ | omega)) ⟨by rw [E.2.2.2]; exact (show (12 + (30 + (r))) + 1 ≤ (12 + (30 + (r + 1))) from oq_bb14859f r), by rw [E.2.2.2]; exact (show 8 + (7 + 11) + (500 + 45 * (30 + (r))) ≤ (500 + 45 * (30 + (r + 1))) from oq_0bdccef0 r), by rw [E.2.2.2]; exact Nat.le_refl 0, by rw [E.2.2.2]; exact Nat.le_refl 0⟩ (Nat.le_of_ble_eq_true rfl) (fun vv s38 hq => ?_) (fun ee s38 hq => ?_)
            rotate_left
            · obtain ⟨Is38, Fs38, hv, hps38⟩ := hq; cases hv
            obtain ⟨Is38, Fs38, hv, hps38⟩ := hq
            cases hv
            have Gs38 := fm_ts Fs36 Fs38 (by decide) (by decide)
            have ws38_41 : iI s38 41 = iI s36 41 := fm_i Fs38 (by decide)
            show WS k 179 [(6, .int (Int32.ofInt (iC s 11 ((((iI s 39) * 12) + (iC s 72 (x).toNat))).toNat))), (0, .ref (A 67)), (1, .int (Int32.ofInt x)), (2, .int (Int32.ofInt y)), (3, .int (Int32.ofInt z)), (4, .int (Int32.ofInt w)), (5, .int (Int32.ofInt v))] [] (Wd A dT s38) 0 0
            exact w_vret X.1 q hRt (ax_d X (show cdA 96 179 = some (.return_, 1, 0, 0, 0) from rfl)) (Nat.zero_le _) (Nat.zero_le _) ⟨_, rfl, Is38, Gs38, rfl, trivial⟩
        ·
          refine z_aload_n X (x := A 67) (show cdA 96 118 = some (.aload_n 0, 1, 0, 0, 0) from rfl) (List.Mem.tail _ (List.Mem.head _)) ?_
          refine s_getR X 67 (show cdA 96 119 = some (.getfield 31, 3, 8, 11, 0) from rfl) (by decide) rfl rfl ?_
          refine z_load_n X (x := x) (show cdA 96 122 = some (.iload_n 1, 1, 0, 0, 0) from rfl) (List.Mem.tail _ (List.Mem.tail _ (List.Mem.head _))) ?_
          refine z_const X (show cdA 96 123 = some (.iconst 2, 1, 0, 0, 0) from rfl) ?_
          refine z_ast X 87 (show cdA 96 124 = some (.iastore, 1, 0, 0, 0) from rfl) (by decide) rfl (by first | exact p0.1 | omega) (show x < 8 by first | exact oq_7f5b2e79 g5 p2 | omega) (by decide) ?_
          obtain ⟨s40, hs40⟩ : ∃ x0, x0 = uC s32 74 (x).toNat (Int32.ofInt 2) := ⟨_, rfl⟩
          rw [← hs40]
          have Is40 : Bd s40 := by rw [hs40]; exact bd_C Is32 (show ((-2147483648) : Int) ≤ 2 ∧ 2 ≤ 2147483647 by first | exact ⟨by decide, by decide⟩ | omega) (by decide)
          have Fs40 := fm_C (i := (x).toNat) (x := Int32.ofInt 2) Gs32 (show 74 ∈ _ by decide)
          rw [← hs40] at Fs40
          have ws40_41 : iI s40 41 = iI s32 41 := by rw [hs40]; rfl
          refine z_aload_n X (x := A 67) (show cdA 96 125 = some (.aload_n 0, 1, 0, 0, 0) from rfl) (List.Mem.tail _ (List.Mem.head _)) ?_
          refine z_load_n X (x := x) (show cdA 96 126 = some (.iload_n 1, 1, 0, 0, 0) from rfl) (List.Mem.tail _ (List.Mem.tail _ (List.Mem.head _))) ?_
          refine z_const X (show cdA 96 127 = some (.iconst 1, 1, 0, 0, 0) from rfl) ?_
          refine z_add X (show cdA 96 128 = some (.iadd, 1, 0, 0, 0) from rfl) ?_
          refine z_load_n X (x := y) (show cdA 96 129 = some (.iload_n 2, 1, 0, 0, 0) from rfl) (List.Mem.tail _ (List.Mem.tail _ (List.Mem.tail _ (List.Mem.head _)))) ?_
          refine z_bipush X (show cdA 96 130 = some (.bipush 15, 2, 0, 0, 15) from rfl) ?_
          refine z_load X (x := (iC s 11 ((((iI s 39) * 12) + (iC s 72 (x).toNat))).toNat)) (show cdA 96 132 = some (.iload 6, 2, 0, 0, 0) from rfl) (List.Mem.head _) ?_
          refine z_mul X (show cdA 96 134 = some (.imul, 1, 0, 0, 0) from rfl) ?_
          refine z_add X (show cdA 96 135 = some (.iadd, 1, 0, 0, 0) from rfl) ?_
          refine z_any (fun y41 hy41 => ?_)
          refine z_load_n X (x := z) (show cdA 96 136 = some (.iload_n 3, 1, 0, 0, 0) from rfl) (List.Mem.tail _ (List.Mem.tail _ (List.Mem.tail _ (List.Mem.tail _ (List.Mem.head _))))) ?_
          refine z_const X (show cdA 96 137 = some (.iconst 1, 1, 0, 0, 0) from rfl) ?_
          refine z_sub X (show cdA 96 138 = some (.isub, 1, 0, 0, 0) from rfl) ?_
          refine z_load X (x := w) (show cdA 96 139 = some (.iload 4, 2, 0, 0, 0) from rfl) (List.Mem.tail _ (List.Mem.tail _ (List.Mem.tail _ (List.Mem.tail _ (List.Mem.tail _ (List.Mem.head _)))))) ?_
          refine z_load X (x := v) (show cdA 96 141 = some (.iload 5, 2, 0, 0, 0) from rfl) (List.Mem.tail _ (List.Mem.tail _ (List.Mem.tail _ (List.Mem.tail _ (List.Mem.tail _ (List.Mem.tail _ (List.Mem.head _))))))) ?_
          refine z_callV X 67 (rm := (rkR (30 + (r)))) (As := [.int (Int32.ofInt (x + 1)), .int (Int32.ofInt y41), .int (Int32.ofInt (z - 1)), .int (Int32.ofInt w), .int (Int32.ofInt v)]) (st := []) (show cdA 96 143 = some (.invokevirtual 105, 3, 96, 0, 0) from rfl) rfl (by decide) rfl (by rw [E.1, E.2.1, E.2.2.1]; exact hR Is40 (by first | exact ⟨p0.1, oq_f4b75477 ws40_41 g5 ws32_41 ws26_41⟩ | omega) (by omega) (by first | exact oq_e14d47df ws40_41 ws32_41 ws26_41 p2 | omega) (by first | exact ⟨p3.1, p3.2⟩ | omega) (by first | exact ⟨p4.1, p4.2⟩ | omega) (by first | exact ⟨p5.1, p5.2⟩ | omega) (by first | exact ⟨p6.1, p6.2⟩ | omega)) ⟨by rw [E.2.2.2]; exact (show (12 + (30 + (r))) + 1 ≤ (12 + (30 + (r + 1))) from oq_bb14859f r), by rw [E.2.2.2]; exact (show 8 + (7 + 11) + (500 + 45 * (30 + (r))) ≤ (500 + 45 * (30 + (r + 1))) from oq_0bdccef0 r), by rw [E.2.2.2]; exact Nat.le_refl 0, by rw [E.2.2.2]; exact Nat.le_refl 0⟩ (Nat.le_of_ble_eq_true rfl) (fun vv s42 hq => ?_) (fun ee s42 hq => ?_)
          rotate_left
          · obtain ⟨Is42, Fs42, hv, hps42⟩ := hq; cases hv
          obtain ⟨Is42, Fs42, hv, hps42⟩ := hq
          cases hv
          have Gs42 := fm_ts Fs40 Fs42 (by decide) (by decide)
          have ws42_41 : iI s42 41 = iI s40 41 := fm_i Fs42 (by decide)
          show WS k 146 [(6, .int (Int32.ofInt (iC s 11 ((((iI s 39) * 12) + (iC s 72 (x).toNat))).toNat))), (0, .ref (A 67)), (1, .int (Int32.ofInt x)), (2, .int (Int32.ofInt y)), (3, .int (Int32.ofInt z)), (4, .int (Int32.ofInt w)), (5, .int (Int32.ofInt v))] [] (Wd A dT s42) 0 0
          refine z_load X (x := w) (show cdA 96 146 = some (.iload 4, 2, 0, 0, 0) from rfl) (List.Mem.tail _ (List.Mem.tail _ (List.Mem.tail _ (List.Mem.tail _ (List.Mem.tail _ (List.Mem.head _)))))) ?_
          refine z_if_le X (t := 179) (show cdA 96 148 = some (.ifCond .le 31, 3, 5, 0, 0) from rfl) (by decide) ⟨by first | exact p5.1 | omega, by first | exact p5.2 | omega⟩ (fun g44 => ?_) (fun g44 => ?_)
          ·
            exact w_vret X.1 q hRt (ax_d X (show cdA 96 179 = some (.return_, 1, 0, 0, 0) from rfl)) (Nat.zero_le _) (Nat.zero_le _) ⟨_, rfl, Is42, Gs42, rfl, trivial⟩
          ·
            refine z_aload_n X (x := A 67) (show cdA 96 151 = some (.aload_n 0, 1, 0, 0, 0) from rfl) (List.Mem.tail _ (List.Mem.head _)) ?_
            refine s_getR X 67 (show cdA 96 152 = some (.getfield 31, 3, 8, 11, 0) from rfl) (by decide) rfl rfl ?_
            refine z_load_n X (x := x) (show cdA 96 155 = some (.iload_n 1, 1, 0, 0, 0) from rfl) (List.Mem.tail _ (List.Mem.tail _ (List.Mem.head _))) ?_
            refine z_const X (show cdA 96 156 = some (.iconst 3, 1, 0, 0, 0) from rfl) ?_
            refine z_ast X 87 (show cdA 96 157 = some (.iastore, 1, 0, 0, 0) from rfl) (by decide) rfl (by first | exact p0.1 | omega) (show x < 8 by first | exact oq_7f5b2e79 g5 p2 | omega) (by decide) ?_
            obtain ⟨s45, hs45⟩ : ∃ x0, x0 = uC s42 74 (x).toNat (Int32.ofInt 3) := ⟨_, rfl⟩
            rw [← hs45]
            have Is45 : Bd s45 := by rw [hs45]; exact bd_C Is42 (show ((-2147483648) : Int) ≤ 3 ∧ 3 ≤ 2147483647 by first | exact ⟨by decide, by decide⟩ | omega) (by decide)
            have Fs45 := fm_C (i := (x).toNat) (x := Int32.ofInt 3) Gs42 (show 74 ∈ _ by decide)
            rw [← hs45] at Fs45
            have ws45_41 : iI s45 41 = iI s42 41 := by rw [hs45]; rfl
            refine z_aload_n X (x := A 67) (show cdA 96 158 = some (.aload_n 0, 1, 0, 0, 0) from rfl) (List.Mem.tail _ (List.Mem.head _)) ?_
            refine z_load_n X (x := x) (show cdA 96 159 = some (.iload_n 1, 1, 0, 0, 0) from rfl) (List.Mem.tail _ (List.Mem.tail _ (List.Mem.head _))) ?_
            refine z_const X (show cdA 96 160 = some (.iconst 1, 1, 0, 0, 0) from rfl) ?_
            refine z_add X (show cdA 96 161 = some (.iadd, 1, 0, 0, 0) from rfl) ?_
            refine z_load_n X (x := y) (show cdA 96 162 = some (.iload_n 2, 1, 0, 0, 0) from rfl) (List.Mem.tail _ (List.Mem.tail _ (List.Mem.tail _ (List.Mem.head _)))) ?_
            refine z_bipush X (show cdA 96 163 = some (.bipush 60, 2, 0, 0, 60) from rfl) ?_
            refine z_load X (x := (iC s 11 ((((iI s 39) * 12) + (iC s 72 (x).toNat))).toNat)) (show cdA 96 165 = some (.iload 6, 2, 0, 0, 0) from rfl) (List.Mem.head _) ?_
            refine z_mul X (show cdA 96 167 = some (.imul, 1, 0, 0, 0) from rfl) ?_
            refine z_add X (show cdA 96 168 = some (.iadd, 1, 0, 0, 0) from rfl) ?_
            refine z_any (fun y46 hy46 => ?_)
            refine z_load_n X (x := z) (show cdA 96 169 = some (.iload_n 3, 1, 0, 0, 0) from rfl) (List.Mem.tail _ (List.Mem.tail _ (List.Mem.tail _ (List.Mem.tail _ (List.Mem.head _))))) ?_
            refine z_load X (x := w) (show cdA 96 170 = some (.iload 4, 2, 0, 0, 0) from rfl) (List.Mem.tail _ (List.Mem.tail _ (List.Mem.tail _ (List.Mem.tail _ (List.Mem.tail _ (List.Mem.head _)))))) ?_
            refine z_const X (show cdA 96 172 = some (.iconst 1, 1, 0, 0, 0) from rfl) ?_
            refine z_sub X (show cdA 96 173 = some (.isub, 1, 0, 0, 0) from rfl) ?_
            refine z_load X (x := v) (show cdA 96 174 = some (.iload 5, 2, 0, 0, 0) from rfl) (List.Mem.tail _ (List.Mem.tail _ (List.Mem.tail _ (List.Mem.tail _ (List.Mem.tail _ (List.Mem.tail _ (List.Mem.head _))))))) ?_
            refine z_callV X 67 (rm := (rkR (30 + (r)))) (As := [.int (Int32.ofInt (x + 1)), .int (Int32.ofInt y46), .int (Int32.ofInt z), .int (Int32.ofInt (w - 1)), .int (Int32.ofInt v)]) (st := []) (show cdA 96 176 = some (.invokevirtual 105, 3, 96, 0, 0) from rfl) rfl (by decide) rfl (by rw [E.1, E.2.1, E.2.2.1]; exact hR Is45 (by first | exact ⟨p0.1, oq_59c47c10 ws45_41 ws42_41 ws40_41 ws32_41 ws26_41 g5⟩ | omega) (by omega) (by first | exact oq_4e421259 ws45_41 ws42_41 ws40_41 ws32_41 ws26_41 p2 | omega) (by first | exact ⟨p3.1, p3.2⟩ | omega) (by first | exact ⟨p4.1, p4.2⟩ | omega) (by first | exact ⟨p5.1, p5.2⟩ | omega) (by first | exact ⟨p6.1, p6.2⟩ | omega)) ⟨by rw [E.2.2.2]; exact (show (12 + (30 + (r))) + 1 ≤ (12 + (30 + (r + 1))) from oq_bb14859f r), by rw [E.2.2.2]; exact (show 8 + (7 + 11) + (500 + 45 * (30 + (r))) ≤ (500 + 45 * (30 + (r + 1))) from oq_0bdccef0 r), by rw [E.2.2.2]; exact Nat.le_refl 0, by rw [E.2.2.2]; exact Nat.le_refl 0⟩ (Nat.le_of_ble_eq_true rfl) (fun vv s47 hq => ?_) (fun ee s47 hq => ?_)
            rotate_left
            · obtain ⟨Is47, Fs47, hv, hps47⟩ := hq; cases hv
            obtain ⟨Is47, Fs47, hv, hps47⟩ := hq
            cases hv
            have Gs47 := fm_ts Fs45 Fs47 (by decide) (by decide)
            have ws47_41 : iI s47 41 = iI s45 41 := fm_i Fs47 (by decide)
            show WS k 179 [(6, .int (Int32.ofInt (iC s 11 ((((iI s 39) * 12) + (iC s 72 (x).toNat))).toNat))), (0, .ref (A 67)), (1, .int (Int32.ofInt x)), (2, .int (Int32.ofInt y)), (3, .int (Int32.ofInt z)), (4, .int (Int32.ofInt w)), (5, .int (Int32.ofInt v))] [] (Wd A dT s47) 0 0
            exact w_vret X.1 q hRt (ax_d X (show cdA 96 179 = some (.return_, 1, 0, 0, 0) from rfl)) (Nat.zero_le _) (Nat.zero_le _) ⟨_, rfl, Is47, Gs47, rfl, trivial⟩
    ·
      refine z_aload_n X (x := A 67) (show cdA 96 17 = some (.aload_n 0, 1, 0, 0, 0) from rfl) (List.Mem.head _) ?_
      refine z_load X (x := v) (show cdA 96 18 = some (.iload 5, 2, 0, 0, 0) from rfl) (List.Mem.tail _ (List.Mem.tail _ (List.Mem.tail _ (List.Mem.tail _ (List.Mem.tail _ (List.Mem.head _)))))) ?_
      refine z_callV X 67 (rm := rmN 97) (As := [.int (Int32.ofInt v)]) (st := []) (show cdA 96 20 = some (.invokevirtual 158, 3, 97, 0, 0) from rfl) rfl (by decide) rfl (by rw [E.1, E.2.1, E.2.2.1]; exact c8_fits_67 G I (by first | exact ⟨p6.1, p6.2⟩ | omega) (by first | exact p2 | omega)) ⟨by rw [E.2.2.2]; exact (show 10 + 1 ≤ (12 + (30 + (r + 1))) from oq_70312ee3 r), by rw [E.2.2.2]; exact (show 8 + (2 + 11) + 195 ≤ (500 + 45 * (30 + (r + 1))) from oq_8f886a78 r), by rw [E.2.2.2]; exact Nat.le_refl 0, by rw [E.2.2.2]; exact Nat.le_refl 0⟩ (Nat.le_of_ble_eq_true rfl) (fun vv s49 hq => ?_) (fun ee s49 hq => ?_)
      rotate_left
      · obtain ⟨Is49, Fs49, e50, hv, hrs49, hps49⟩ := hq; cases hv
      obtain ⟨Is49, Fs49, e50, hv, hrs49, hps49⟩ := hq
      cases hv
      have Gs49 := fm_ts F Fs49 (by decide) (by decide)
      have ws49_41 : iI s49 41 = iI s 41 := fm_i Fs49 (by decide)
      show WS k 23 [(0, .ref (A 67)), (1, .int (Int32.ofInt x)), (2, .int (Int32.ofInt y)), (3, .int (Int32.ofInt z)), (4, .int (Int32.ofInt w)), (5, .int (Int32.ofInt v))] [.int (Int32.ofInt e50)] (Wd A dT s49) 0 0
      refine z_if_eq X (t := 48) (show cdA 96 23 = some (.ifCond .eq 25, 3, 0, 0, 0) from rfl) (by decide) hrs49 (fun g51 => ?_) (fun g51 => ?_)
      ·
        exact w_vret X.1 q hRt (ax_d X (show cdA 96 48 = some (.return_, 1, 0, 0, 0) from rfl)) (Nat.zero_le _) (Nat.zero_le _) ⟨_, rfl, Is49, Gs49, rfl, trivial⟩
      ·
        refine z_aload_n X (x := A 67) (show cdA 96 26 = some (.aload_n 0, 1, 0, 0, 0) from rfl) (List.Mem.head _) ?_
        refine z_load_n X (x := y) (show cdA 96 27 = some (.iload_n 2, 1, 0, 0, 0) from rfl) (List.Mem.tail _ (List.Mem.tail _ (List.Mem.head _))) ?_
        refine s_putI X 67 (show cdA 96 28 = some (.putfield 102, 3, 8, 13, 0) from rfl) (by decide) rfl rfl (by decide) rfl rfl rfl ?_
        obtain ⟨s52, hs52⟩ : ∃ x0, x0 = uI s49 42 (Int32.ofInt y) := ⟨_, rfl⟩
        rw [← hs52]
        have Is52 : Bd s52 := by rw [hs52]; exact bd_I Is49 (show ((-2147483648) : Int) ≤ y ∧ y ≤ 2147483647 by first | exact ⟨p3.1, p3.2⟩ | omega) ⟨by first | exact p3.1 | omega, by first | exact p3.2 | omega⟩
        have Fs52 := fm_I (x := Int32.ofInt y) Gs49 (show 42 ∈ _ by decide)
        rw [← hs52] at Fs52
        have vs52 : iI s52 42 = y := by rw [hs52]; exact iI_u ⟨by first | exact p3.1 | omega, by first | exact p3.2 | omega⟩
        have ws52_41 : iI s52 41 = iI s49 41 := by rw [hs52]; rfl
        refine z_aload_n X (x := A 67) (show cdA 96 31 = some (.aload_n 0, 1, 0, 0, 0) from rfl) (List.Mem.head _) ?_
        refine s_getR X 67 (show cdA 96 32 = some (.getfield 31, 3, 8, 11, 0) from rfl) (by decide) rfl rfl ?_
        refine z_const X (show cdA 96 35 = some (.iconst 0, 1, 0, 0, 0) from rfl) ?_
        refine z_aload_n X (x := A 67) (show cdA 96 36 = some (.aload_n 0, 1, 0, 0, 0) from rfl) (List.Mem.head _) ?_
        refine s_getR X 67 (show cdA 96 37 = some (.getfield 34, 3, 8, 12, 0) from rfl) (by decide) rfl rfl ?_
        refine z_const X (show cdA 96 40 = some (.iconst 0, 1, 0, 0, 0) from rfl) ?_
        refine z_aload_n X (x := A 67) (show cdA 96 41 = some (.aload_n 0, 1, 0, 0, 0) from rfl) (List.Mem.head _) ?_
        refine z_getI X 67 (show cdA 96 42 = some (.getfield 77, 3, 8, 9, 0) from rfl) (by decide) rfl rfl ?_
        have b53 : (0 : Int) ≤ iI s52 41 ∧ iI s52 41 ≤ 12 := Is52.1 41
        refine z_copy X Is52 87 88 (st := []) (show cdA 96 45 = some (.invokestatic 161, 3, 0, 5, 0) from rfl) (by decide) (by decide) rfl rfl (by omega) (by omega) (by omega) (show 0 + (iI s52 41) ≤ ((8 : Nat) : Int) by omega) (show 0 + (iI s52 41) ≤ ((8 : Nat) : Int) by omega) (by decide) (by rw [E.2.2.2]; exact (show 1 ≤ (12 + (30 + (r + 1))) by omega)) (by rw [E.2.2.2]; exact (show 0 + 40 ≤ (500 + 45 * (30 + (r + 1))) by omega)) (fun s54 Is54 Fs54 => ?_)
        have Gs54 := fm_ts Fs52 Fs54 (by decide) (by decide)
        have ws54_41 : iI s54 41 = iI s52 41 := fm_i Fs54 (by decide)
        exact w_vret X.1 q hRt (ax_d X (show cdA 96 48 = some (.return_, 1, 0, 0, 0) from rfl)) (Nat.zero_le _) (Nat.zero_le _) ⟨_, rfl, Is54, Gs54, rfl, trivial⟩
  ·
    exact w_vret X.1 q hRt (ax_d X (show cdA 96 8 = some (.return_, 1, 0, 0, 0) from rfl)) (Nat.zero_le _) (Nat.zero_le _) ⟨_, rfl, I, F, rfl, trivial⟩
theorem c8_tryr (G : GX l s0 D tys a0 dT) (r : Nat) : ∀ {s : PS} {x y z w v : Int}, Bd s → (0 ≤ x ∧ x ≤ iI s 41) → (iI s 41 - x ≤ ((r : Nat) : Int)) → (iI s 41 ≤ 8) → (rng y) → (rng z) → (rng w) → (0 ≤ v ∧ v ≤ 255) → CT l s0 D A dT 96 (rkR (30 + (r))) [.ref (A 67), .int (Int32.ofInt x), .int (Int32.ofInt y), .int (Int32.ofInt z), .int (Int32.ofInt w), .int (Int32.ofInt v)] s (fun o t => Bd t ∧ Fm [42] [67, 20, 76, 74, 75, 87, 96, 105, 114, 123, 132, 141, 150] s t ∧ o = .inl none ∧ (True)) := by
  induction r with
  | zero => exact fun {_ _ _ _ _ _} I p0 p1 p2 p3 p4 p5 p6 => c8_try0 G I p0 p1 p2 p3 p4 p5 p6
  | succ r ih => exact fun {_ _ _ _ _ _} I p0 p1 p2 p3 p4 p5 p6 => c8_tryS G ih I p0 p1 p2 p3 p4 p5 p6
end M80
