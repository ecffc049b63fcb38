section
theorem oq_ab4b4dd4 {a0 : Int} (h0 : a0 < 8) : a0 < 12 := by omega
theorem oq_31ffc319 {a0 : Int} (h0 : a0 < 8) : (a0 : Int).toNat < 12 := by omega
theorem oq_368c59ca {a0 : Int} (h0 : a0 ≤ 8) : a0 < 12 := by omega
theorem oq_f3a5066e {a0 : Int} (h0 : a0 ≤ 8) : (a0 : Int).toNat < 12 := by omega
theorem oq_760f2641 {a0 : Int} (h0 : a0 ≤ 11) : a0 < 288 := by omega
theorem oq_80b52fe0 {a0 a1 a2 a3 a4 : Int} (h0 : ((a0 = 0 ∧ a1 = 0) ∨ (a0 ≠ 0 ∧ ((0 ≤ a2 ∧ a2 ≤ 23) ∧ ((0 ≤ a3 ∧ a3 ≤ 11) ∧ ((0 ≤ a4 ∧ a4 ≤ 50) ∧ a1 = a4)))))) : 0 ≤ a1 := by omega
theorem oq_4021a32f {a0 a1 a2 a3 a4 : Int} (h0 : ((a0 = 0 ∧ a1 = 0) ∨ (a0 ≠ 0 ∧ ((0 ≤ a2 ∧ a2 ≤ 23) ∧ ((0 ≤ a3 ∧ a3 ≤ 11) ∧ ((0 ≤ a4 ∧ a4 ≤ 50) ∧ a1 = a4)))))) : a1 ≤ 50 := by omega
theorem oq_9b4da494 {a0 a1 a2 a3 a4 : Int} (h0 : ((a0 = 0 ∧ a1 = 0) ∨ (a0 ≠ 0 ∧ ((0 ≤ a2 ∧ a2 ≤ 23) ∧ ((0 ≤ a3 ∧ a3 ≤ 11) ∧ ((0 ≤ a4 ∧ a4 ≤ 50) ∧ a1 = a4)))))) : (-2147483648) ≤ a1 := by omega
theorem oq_90ebf3a2 {a0 a1 a2 a3 a4 : Int} (h0 : ((a0 = 0 ∧ a1 = 0) ∨ (a0 ≠ 0 ∧ ((0 ≤ a2 ∧ a2 ≤ 23) ∧ ((0 ≤ a3 ∧ a3 ≤ 11) ∧ ((0 ≤ a4 ∧ a4 ≤ 50) ∧ a1 = a4)))))) : a1 ≤ 2147483647 := by omega
theorem oq_74a4833a {a0 a1 : Int} (h0 : a0 ≤ 23) (h1 : a1 ≤ 11) : ((a0 * 12) + a1) < 288 := by omega
theorem oq_5aa97b8f {a0 a1 : Int} (h0 : a0 ≤ 23) (h1 : a1 ≤ 11) : (((a0 * 12) + a1) : Int).toNat < 288 := by omega
theorem oq_ca60608d {a0 a1 : Int} (h0 : a0 ≤ 1) (h1 : 0 ≤ a0) (h2 : ((a1 ≠ 1 ∧ a0 = 0) ∨ (a1 = 1 ∧ a0 = 1))) : (a0 = 0 ∨ a0 = 1) := by omega
theorem oq_c3e2e0a8 : 10 + 1 ≤ (12 + (30 + (0))) := by omega
theorem oq_a90377cd : 8 + (2 + 11) + 195 ≤ (500 + 45 * (30 + (0))) := by omega
theorem oq_bdc35239 {a0 a1 a2 : Int} (h0 : a0 = a1) (h1 : a2 < a1) : a2 ≤ a0 := by omega
theorem oq_bb14859f (r : Nat) : (12 + (30 + (r))) + 1 ≤ (12 + (30 + (r + 1))) := by omega
theorem oq_0bdccef0 (r : Nat) : 8 + (7 + 11) + (500 + 45 * (30 + (r))) ≤ (500 + 45 * (30 + (r + 1))) := by omega
theorem oq_f4b75477 {a0 a1 a2 a3 a4 : Int} (h0 : a0 = a1) (h1 : a2 < a3) (h2 : a1 = a4) (h3 : a4 = a3) : a2 ≤ a0 := by omega
theorem oq_59c47c10 {a0 a1 a2 a3 a4 a5 a6 : Int} (h0 : a0 = a1) (h1 : a1 = a2) (h2 : a2 = a3) (h3 : a3 = a4) (h4 : a4 = a5) (h5 : a6 < a5) : a6 ≤ a0 := by omega
theorem oq_4e421259 {a0 a1 a2 a3 a4 a5 : Int} (h0 : a0 = a1) (h1 : a1 = a2) (h2 : a2 = a3) (h3 : a3 = a4) (h4 : a4 = a5) (h5 : a5 ≤ 8) : a0 ≤ 8 := by omega
theorem oq_70312ee3 (r : Nat) : 10 + 1 ≤ (12 + (30 + (r + 1))) := by omega
theorem oq_8f886a78 (r : Nat) : 8 + (2 + 11) + 195 ≤ (500 + 45 * (30 + (r + 1))) := by omega
/-! The class: the storm -/
section ZH
theorem z_a8 {k : kx_T} {mn pc : Nat} {dT : Nat → ClassId} {lv : List (Nat × Value)} {st : List Value} {ce sl a b : Nat} {z : Int} {A : Nat → Nat} {s : PS} (X : AX k mn dT) {i : Int} (h : cdA mn pc = some (.aaload, 1, a, b, z)) (h0 : 0 ≤ i) (hi' : i < 8) (g : WS k (pc + 1) lv (.ref (A (93 + 10 * i.toNat)) :: st) (Wd A dT s) ce sl) : WS k pc lv (.int (Int32.ofInt i) :: .ref (A 84) :: st) (Wd A dT s) ce sl := by
  have hb : bsS 84 = .inl (5, 8, .inl ((List.range 8).map (fun j => aR (some (93 + 10 * j))))) := rfl
  have he := Wd_get (A := A) (dT := dT) (s := s) (show 84 < 518 by decide)
  rw [hb] at he
  rw [on_of h0]
  refine w_aald X.1 84 he (X.2.2.1 5) rfl (on_in (by omega) (by decide)) (ax_d X h) ?_
  have e : va_rf ((fun j => if j < 8 then cBr (vS A s) (.inl ((List.range 8).map (fun j => aR (some (93 + 10 * j))))) j else none) (Int32.ofNat i.toNat).toNatClampNeg) = .ref (A (93 + 10 * i.toNat)) := by
    show va_rf (if (Int32.ofNat i.toNat).toNatClampNeg < 8 then cR (vS A s) (((List.range 8).map (fun j => aR (some (93 + 10 * j)))).getD (Int32.ofNat i.toNat).toNatClampNeg (aR none)) else none) = _
    rw [on_cl (by omega), if_pos (by omega)]
    have hq : i.toNat < 8 := by omega
    generalize i.toNat = m at hq
    match m, hq with
    | 0, _ => rfl
    | 1, _ => rfl
    | 2, _ => rfl
    | 3, _ => rfl
    | 4, _ => rfl
    | 5, _ => rfl
    | 6, _ => rfl
    | 7, _ => rfl
    | n + 8, h => omega
  rw [e]
  exact g
end ZH
section M80
variable {l : Launch} {s0 : State} {D : va_G} {tys : List (ClassId × FieldType)} {a0 : Array Value} {A : Nat → Nat} {dT : Nat → ClassId} {s : PS}
set_option maxRecDepth 4000 in
theorem c8_isShut_67 (G : GX l s0 D tys a0 dT) (I : Bd s) {x : Int} (p0 : 0 ≤ x ∧ x ≤ 127) : CT l s0 D A dT 88 (rmN 88) [.ref (A 67), .int (Int32.ofInt x)] s (fun o t => Bd t ∧ Fm [] [] s t ∧ ∃ e, o = .inl (some (.int (Int32.ofInt e))) ∧ rng e ∧ (e = 0 ∨ e = 1)) := by
  refine ct_ofX G (by decide) (Nat.le_of_ble_eq_true rfl) (fun k X E ET hRt hXt q => ?_)
  show WS k 0 [(0, .ref (A 67)), (1, .int (Int32.ofInt x))] [] _ 0 0
  have F : Fm [] [] s s := fm_rf _ _ s
  refine z_load_n X (x := x) rfl (List.Mem.tail _ (List.Mem.head _)) (z_bipush X rfl ?_)
  have N1 : ∀ j2 : Int64, WS k 17 [(0, .ref (A 67)), (1, .int (Int32.ofInt x))] [.long j2] (Wd A dT s) 0 0 := by
    intro j2
    refine z_load_n X (x := x) rfl (List.Mem.tail _ (List.Mem.head _)) (z_bipush X rfl (z_band X rfl (z_any (fun y3 hy3 => ?_))))
    refine w_lushr X.1 (ax_d X (show cdA 88 21 = some (.lushr, 1, 0, 0, 0) from rfl)) (z_anyJ (fun j4 => ?_))
    refine w_lconst X.1 (ax_d X (show cdA 88 22 = some (.lconst 1, 1, 0, 0, 0) from rfl)) rfl (z_anyJ (fun j5 => ?_))
    refine w_land X.1 (ax_d X (show cdA 88 23 = some (.land, 1, 0, 0, 0) from rfl)) (z_anyJ (fun j6 => ?_))
    refine w_lconst X.1 (ax_d X (show cdA 88 24 = some (.lconst 0, 1, 0, 0, 0) from rfl)) rfl (z_anyJ (fun j7 => ?_))
    refine w_lcmp X.1 (ax_d X (show cdA 88 25 = some (.lcmp, 1, 0, 0, 0) from rfl)) (z_any (fun y8 hy8 => ?_))
    have N9 : ∀ e10 : Int, (((y8 = 0) ∧ e10 = 0) ∨ ((y8 ≠ 0) ∧ e10 = 1)) → WS k 34 [(0, .ref (A 67)), (1, .int (Int32.ofInt x))] [.int (Int32.ofInt e10)] (Wd A dT s) 0 0 := by
      intro e10 he10
      have re10 : 0 ≤ e10 ∧ e10 ≤ 1 := by first | (clear he10; omega) | omega
      exact w_iret X.1 q hRt (nar_ret (by first | exact oq_31e518ae re10.2 re10.1 | omega)) (ax_d X (show cdA 88 34 = some (.ireturn, 1, 0, 0, 0) from rfl)) (Nat.zero_le _) (Nat.zero_le _) ⟨_, rfl, I, F, e10, rfl, ⟨by first | exact oq_fa4e5087 re10.1 | omega, by first | exact oq_22e1e6b0 re10.2 | omega⟩, by first | exact oq_31e518ae re10.2 re10.1 | omega⟩
    refine z_if_eq X (t := 33) rfl rfl hy8 (fun g11 => ?_) (fun g11 => ?_)
    ·
      exact z_const X rfl (N9 _ (Or.inl ⟨g11, rfl⟩))
    ·
      exact z_const X rfl (z_goto X (t := 34) rfl rfl (N9 _ (Or.inr (⟨g11, rfl⟩))))
  refine z_icmp_ge X (t := 13) rfl rfl ⟨by first | exact oq_fa4e5087 p0.1 | omega, by first | exact oq_07d346ce p0.2 | omega⟩ (by decide) (fun g12 => ?_) (fun g12 => ?_)
  ·
    refine z_aload_n X (x := A 67) rfl (List.Mem.head _) (z_getJ X 67 rfl (by decide) rfl rfl (fun j13 => ?_))
    exact N1 _
  ·
    refine z_aload_n X (x := A 67) rfl (List.Mem.head _) (z_getJ X 67 rfl (by decide) rfl rfl (fun j14 => ?_))
    exact z_goto X (t := 17) rfl rfl (N1 _)
set_option maxRecDepth 4000 in
theorem c8_shut_67 (G : GX l s0 D tys a0 dT) (I : Bd s) {x y : Int} (p0 : 0 ≤ x ∧ x ≤ 127) (p1 : y = 0 ∨ y = 1) : CT l s0 D A dT 87 (rmN 87) [.ref (A 67), .int (Int32.ofInt x), .int (Int32.ofInt y)] s (fun o t => Bd t ∧ Fm [1000, 1001] [] s t ∧ ∃ e, o = .inl (some (.int (Int32.ofInt e))) ∧ rng e ∧ (e = 0 ∨ e = 1)) := by
  refine ct_ofX G (by decide) (Nat.le_of_ble_eq_true rfl) (fun k X E ET hRt hXt q => ?_)
  show WS k 0 [(0, .ref (A 67)), (1, .int (Int32.ofInt x)), (2, .int (Int32.ofInt y))] [] _ 0 0
  have F : Fm [1000, 1001] [] s s := fm_rf _ _ s
  refine z_aload_n X (x := A 67) rfl (List.Mem.head _) (z_load_n X (x := x) rfl (List.Mem.tail _ (List.Mem.head _)) (zcV_i0 X E 67 (As := [.int (Int32.ofInt x)]) (st := []) rfl rfl rfl rfl (c8_isShut_67 G I (by first | exact ⟨p0.1, p0.2⟩ | omega)) rfl (Nat.le_of_ble_eq_true rfl) (fun s1 e2 Is1 Fs1 hrs1 hps1 => ?_)))
  have Gs1 := fm_tq F Fs1 rfl rfl
  refine z_store_n X (lv' := [(3, .int (Int32.ofInt e2)), (0, .ref (A 67)), (1, .int (Int32.ofInt x)), (2, .int (Int32.ofInt y))]) rfl (by decide) (fun _ h => h) (z_load_n X (x := e2) rfl (List.Mem.head _) (z_load_n X (x := y) rfl (List.Mem.tail _ (List.Mem.tail _ (List.Mem.tail _ (List.Mem.head _)))) (z_icmp_ne X (t := 15) rfl rfl hrs1 ⟨by first | exact oq_bde653e9 p1 | omega, by first | exact oq_4ad2cb8b p1 | omega⟩ (fun g3 => ?_) (fun g3 => ?_))))
  ·
    refine w_lconst X.1 (ax_d X (show cdA 87 15 = some (.lconst 1, 1, 0, 0, 0) from rfl)) rfl (z_anyJ (fun j4 => ?_))
    refine z_load_n X (x := x) rfl (List.Mem.tail _ (List.Mem.tail _ (List.Mem.head _))) (z_bipush X rfl (z_band X rfl (z_any (fun y5 hy5 => ?_))))
    refine w_lshl X.1 (ax_d X (show cdA 87 20 = some (.lshl, 1, 0, 0, 0) from rfl)) (z_anyJ (fun j6 => ?_))
    refine w_lstore X.1 (lv' := [(4, .long j6), (3, .int (Int32.ofInt e2)), (0, .ref (A 67)), (1, .int (Int32.ofInt x)), (2, .int (Int32.ofInt y))]) (ax_d X (show cdA 87 21 = some (.lstore 4, 2, 0, 0, 0) from rfl)) (by rw [X.2.1.2.2]; decide) (fun _ h => h) (z_load_n X (x := x) rfl (List.Mem.tail _ (List.Mem.tail _ (List.Mem.tail _ (List.Mem.head _)))) (z_bipush X rfl (z_icmp_ge X (t := 43) rfl rfl ⟨by first | exact oq_fa4e5087 p0.1 | omega, by first | exact oq_07d346ce p0.2 | omega⟩ (by decide) (fun g7 => ?_) (fun g7 => ?_))))
    ·
      refine z_aload_n X (x := A 67) rfl (List.Mem.tail _ (List.Mem.tail _ (List.Mem.head _))) (w_dup X.1 (ax_d X (show cdA 87 44 = some (.dup, 1, 0, 0, 0) from rfl)) rfl (z_getJ X 67 rfl (by decide) rfl rfl (fun j8 => ?_)))
      refine w_lload X.1 (ax_d X (show cdA 87 48 = some (.lload 4, 2, 0, 0, 0) from rfl)) (x := j6) (List.Mem.head _) (w_lxor X.1 (ax_d X (show cdA 87 50 = some (.lxor, 1, 0, 0, 0) from rfl)) (z_anyJ (fun j9 => ?_)))
      refine s_putJ X 67 rfl (c518_ok rfl) rfl rfl (by decide) rfl rfl rfl (wd_gen (fun s10 hs10 => ?_))
      have Is10 : Bd s10 := eqB hs10 (bd_J Is1)
      have Fs10 : Fm [1000, 1001] [] s s10 := by rw [hs10]; exact fm_J Gs1 (show 1 + 1000 ∈ _ by decide)
      refine z_load_n X (x := e2) rfl (List.Mem.tail _ (List.Mem.head _)) ?_
      exact w_iret X.1 q hRt (nar_ret (by first | exact hps1 | omega)) (ax_d X (show cdA 87 55 = some (.ireturn, 1, 0, 0, 0) from rfl)) (Nat.zero_le _) (Nat.zero_le _) ⟨_, rfl, Is10, Fs10, e2, rfl, hrs1, by first | exact hps1 | omega⟩
    ·
      refine z_aload_n X (x := A 67) rfl (List.Mem.tail _ (List.Mem.tail _ (List.Mem.head _))) (w_dup X.1 (ax_d X (show cdA 87 30 = some (.dup, 1, 0, 0, 0) from rfl)) rfl (z_getJ X 67 rfl (by decide) rfl rfl (fun j11 => ?_)))
      refine w_lload X.1 (ax_d X (show cdA 87 34 = some (.lload 4, 2, 0, 0, 0) from rfl)) (x := j6) (List.Mem.head _) (w_lxor X.1 (ax_d X (show cdA 87 36 = some (.lxor, 1, 0, 0, 0) from rfl)) (z_anyJ (fun j12 => ?_)))
      refine s_putJ X 67 rfl (c518_ok rfl) rfl rfl (by decide) rfl rfl rfl (wd_gen (fun s13 hs13 => ?_))
      have Is13 : Bd s13 := eqB hs13 (bd_J Is1)
      have Fs13 : Fm [1000, 1001] [] s s13 := by rw [hs13]; exact fm_J Gs1 (show 0 + 1000 ∈ _ by decide)
      refine z_goto X (t := 54) rfl rfl (z_load_n X (x := e2) rfl (List.Mem.tail _ (List.Mem.head _)) ?_)
      exact w_iret X.1 q hRt (nar_ret (by first | exact hps1 | omega)) (ax_d X (show cdA 87 55 = some (.ireturn, 1, 0, 0, 0) from rfl)) (Nat.zero_le _) (Nat.zero_le _) ⟨_, rfl, Is13, Fs13, e2, rfl, hrs1, by first | exact hps1 | omega⟩
  ·
    refine w_lconst X.1 (ax_d X (show cdA 87 11 = some (.lconst 0, 1, 0, 0, 0) from rfl)) rfl (z_anyJ (fun j14 => ?_))
    refine z_goto X (t := 21) rfl rfl (w_lstore X.1 (lv' := [(4, .long j14), (3, .int (Int32.ofInt e2)), (0, .ref (A 67)), (1, .int (Int32.ofInt x)), (2, .int (Int32.ofInt y))]) (ax_d X (show cdA 87 21 = some (.lstore 4, 2, 0, 0, 0) from rfl)) (by rw [X.2.1.2.2]; decide) (fun _ h => h) (z_load_n X (x := x) rfl (List.Mem.tail _ (List.Mem.tail _ (List.Mem.tail _ (List.Mem.head _)))) (z_bipush X rfl (z_icmp_ge X (t := 43) rfl rfl ⟨by first | exact oq_fa4e5087 p0.1 | omega, by first | exact oq_07d346ce p0.2 | omega⟩ (by decide) (fun g15 => ?_) (fun g15 => ?_)))))
    ·
      refine z_aload_n X (x := A 67) rfl (List.Mem.tail _ (List.Mem.tail _ (List.Mem.head _))) (w_dup X.1 (ax_d X (show cdA 87 44 = some (.dup, 1, 0, 0, 0) from rfl)) rfl (z_getJ X 67 rfl (by decide) rfl rfl (fun j16 => ?_)))
      refine w_lload X.1 (ax_d X (show cdA 87 48 = some (.lload 4, 2, 0, 0, 0) from rfl)) (x := j14) (List.Mem.head _) (w_lxor X.1 (ax_d X (show cdA 87 50 = some (.lxor, 1, 0, 0, 0) from rfl)) (z_anyJ (fun j17 => ?_)))
      refine s_putJ X 67 rfl (c518_ok rfl) rfl rfl (by decide) rfl rfl rfl (wd_gen (fun s18 hs18 => ?_))
      have Is18 : Bd s18 := eqB hs18 (bd_J Is1)
      have Fs18 : Fm [1000, 1001] [] s s18 := by rw [hs18]; exact fm_J Gs1 (show 1 + 1000 ∈ _ by decide)
      refine z_load_n X (x := e2) rfl (List.Mem.tail _ (List.Mem.head _)) ?_
      exact w_iret X.1 q hRt (nar_ret (by first | exact hps1 | omega)) (ax_d X (show cdA 87 55 = some (.ireturn, 1, 0, 0, 0) from rfl)) (Nat.zero_le _) (Nat.zero_le _) ⟨_, rfl, Is18, Fs18, e2, rfl, hrs1, by first | exact hps1 | omega⟩
    ·
      refine z_aload_n X (x := A 67) rfl (List.Mem.tail _ (List.Mem.tail _ (List.Mem.head _))) (w_dup X.1 (ax_d X (show cdA 87 30 = some (.dup, 1, 0, 0, 0) from rfl)) rfl (z_getJ X 67 rfl (by decide) rfl rfl (fun j19 => ?_)))
      refine w_lload X.1 (ax_d X (show cdA 87 34 = some (.lload 4, 2, 0, 0, 0) from rfl)) (x := j14) (List.Mem.head _) (w_lxor X.1 (ax_d X (show cdA 87 36 = some (.lxor, 1, 0, 0, 0) from rfl)) (z_anyJ (fun j20 => ?_)))
      refine s_putJ X 67 rfl (c518_ok rfl) rfl rfl (by decide) rfl rfl rfl (wd_gen (fun s21 hs21 => ?_))
      have Is21 : Bd s21 := eqB hs21 (bd_J Is1)
      have Fs21 : Fm [1000, 1001] [] s s21 := by rw [hs21]; exact fm_J Gs1 (show 0 + 1000 ∈ _ by decide)
      refine z_goto X (t := 54) rfl rfl (z_load_n X (x := e2) rfl (List.Mem.tail _ (List.Mem.head _)) ?_)
      exact w_iret X.1 q hRt (nar_ret (by first | exact hps1 | omega)) (ax_d X (show cdA 87 55 = some (.ireturn, 1, 0, 0, 0) from rfl)) (Nat.zero_le _) (Nat.zero_le _) ⟨_, rfl, Is21, Fs21, e2, rfl, hrs1, by first | exact hps1 | omega⟩
set_option maxRecDepth 4000 in
theorem c8_mendOf_67 (G : GX l s0 D tys a0 dT) (I : Bd s) {x : Int} (p0 : rng x) : CT l s0 D A dT 90 (rmN 90) [.ref (A 67), .int (Int32.ofInt x)] s (fun o t => Bd t ∧ Fm [] [] s t ∧ ∃ e, o = .inl (some (.int (Int32.ofInt e))) ∧ rng e ∧ (True)) := by
  refine ct_ofX G (by decide) (Nat.le_of_ble_eq_true rfl) (fun k X E ET hRt hXt q => ?_)
  show WS k 0 [(0, .ref (A 67)), (1, .int (Int32.ofInt x))] [] _ 0 0
  have F : Fm [] [] s s := fm_rf _ _ s
  have b1 := bi_41 I
  have L2 : ∀ (n : Nat) (t : PS) (xv c : Int), Bd t → Fm [] [] s t → (rng xv ∧ 0 ≤ c ∧ c ≤ 8) → (8 - c : Int).toNat < n → (∀ (t' : PS) (c' : Int), Bd t' → Fm [] [] s t' → (rng xv ∧ 0 ≤ c' ∧ c' ≤ 8) → WS k 39 [(0, .ref (A 67)), (1, .int (Int32.ofInt xv)), (2, .int (Int32.ofInt c'))] [] (Wd A dT t') 0 0) → WS k 2 [(0, .ref (A 67)), (1, .int (Int32.ofInt xv)), (2, .int (Int32.ofInt c))] [] (Wd A dT t) 0 0 := by
    intro n
    induction n with
    | zero =>
      intro t xv c I F hi hm kx
      exact absurd hm (Nat.not_lt_zero _)
    | succ n ih =>
      intro t xv c I F hi hm kx
      have b1001 := bi_41 I
      refine z_load_n X (x := c) rfl (List.Mem.tail _ (List.Mem.tail _ (List.Mem.head _))) (z_aload_n X (x := A 67) rfl (List.Mem.head _) (z_getI X 67 rfl (c518_ok rfl) rfl rfl ?_))
      have b1002 := bi_41 I
      refine z_icmp_ge X (t := 39) rfl rfl ⟨by first | exact oq_fa4e5087 hi.2.1 | omega, by first | exact oq_d3f5d874 hi.2.2 | omega⟩ (rng_to _) (fun g1003 => ?_) (fun g1003 => ?_)
      ·
        refine WS_pq [0, 1, 2] (lv' := [(0, .ref (A 67)), (1, .int (Int32.ofInt xv)), (2, .int (Int32.ofInt c))]) rfl ?_
        exact kx _ c I F (by first | exact ⟨And.intro (hi.1.1) (hi.1.2), hi.2.1, hi.2.2⟩ | omega)
      ·
        refine z_load_n X (x := c) rfl (List.Mem.tail _ (List.Mem.tail _ (List.Mem.head _))) (z_bipush X rfl (z_icmp_ge X (t := 39) rfl rfl ⟨by first | exact oq_fa4e5087 hi.2.1 | omega, by first | exact oq_d3f5d874 hi.2.2 | omega⟩ (by decide) (fun g1004 => ?_) (fun g1004 => ?_)))
        ·
          refine WS_pq [0, 1, 2] (lv' := [(0, .ref (A 67)), (1, .int (Int32.ofInt xv)), (2, .int (Int32.ofInt c))]) rfl ?_
          exact kx _ c I F (by first | exact ⟨And.intro (hi.1.1) (hi.1.2), hi.2.1, hi.2.2⟩ | omega)
        ·
          refine z_aload_n X (x := A 67) rfl (List.Mem.head _) (s_getR X 67 rfl (c518_ok rfl) rfl rfl (z_load_n X (x := c) rfl (List.Mem.tail _ (List.Mem.tail _ (List.Mem.head _))) (z_ald X 85 rfl (c518_ok rfl) rfl (by first | exact hi.2.1 | omega) (show c < 12 by first | exact oq_ab4b4dd4 g1004 | omega) (cbig_ok rfl) ?_)))
          have b1005 := bc_72 I (show (c).toNat < 12 by first | exact oq_31ffc319 g1004 | omega)
          refine z_load_n X (x := xv) rfl (List.Mem.tail _ (List.Mem.head _)) (z_icmp_ne X (t := 33) rfl rfl (rng_to _) ⟨by first | exact hi.1.1 | omega, by first | exact hi.1.2 | omega⟩ (fun g1006 => ?_) (fun g1006 => ?_))
          ·
            refine z_inc X (x := c) (lv' := [(2, .int (Int32.ofInt (c + 1))), (0, .ref (A 67)), (1, .int (Int32.ofInt xv))]) rfl (by decide) (List.Mem.tail _ (List.Mem.tail _ (List.Mem.head _))) (fun _ h => h) (z_goto X (t := 2) rfl rfl (WS_pq [1, 2, 0] (lv' := [(0, .ref (A 67)), (1, .int (Int32.ofInt xv)), (2, .int (Int32.ofInt (c + 1)))]) rfl ?_))
            exact ih _ xv (c + 1) I F (by first | exact ⟨And.intro (hi.1.1) (hi.1.2), oq_54f49eb5 hi.2.1, oq_0c7b19c3 g1004⟩ | omega) (by first | exact qk_me hm (by decide) (oq_9f368f35 g1004) | omega) kx
          ·
            refine z_aload_n X (x := A 67) rfl (List.Mem.head _) (s_getR X 67 rfl (c518_ok rfl) rfl rfl (z_load_n X (x := c) rfl (List.Mem.tail _ (List.Mem.tail _ (List.Mem.head _))) (z_ald X 88 rfl (c518_ok rfl) rfl (by first | exact hi.2.1 | omega) (show c < 8 by first | exact g1004 | omega) (cbig_ok rfl) ?_)))
            have b1007 := bc_75 I (show (c).toNat < 8 by first | exact oq_db4b3b8b g1004 | omega)
            exact w_iret X.1 q hRt rfl (ax_d X (show cdA 90 32 = some (.ireturn, 1, 0, 0, 0) from rfl)) (Nat.zero_le _) (Nat.zero_le _) ⟨_, rfl, I, F, (iC t 75 (c).toNat), rfl, (rng_to _), trivial⟩
  refine z_const X rfl (z_store_n X (lv' := [(2, .int (Int32.ofInt 0)), (0, .ref (A 67)), (1, .int (Int32.ofInt x))]) rfl (by decide) (fun _ h => h) (WS_pq [1, 2, 0] (lv' := [(0, .ref (A 67)), (1, .int (Int32.ofInt x)), (2, .int (Int32.ofInt 0))]) rfl (L2 ((8 - 0 : Int).toNat + 1) s x 0 I F (by first | exact ⟨And.intro (p0.1) (p0.2), by decide, by decide⟩ | omega) (Nat.lt_succ_self _) ?_)))
  intro s2 x3 Is2 Fs2 hs2
  have b4 := bi_41 Is2
  refine z_const X rfl ?_
  exact w_iret X.1 q hRt rfl (ax_d X (show cdA 90 40 = some (.ireturn, 1, 0, 0, 0) from rfl)) (Nat.zero_le _) (Nat.zero_le _) ⟨_, rfl, Is2, Fs2, 0, rfl, (by decide), trivial⟩
set_option maxRecDepth 4000 in
theorem c8_spreadFrom_67 (G : GX l s0 D tys a0 dT) (I : Bd s) {x : Int} (p0 : 0 ≤ x ∧ x ≤ 127) : CT l s0 D A dT 94 (rmN 94) [.ref (A 67), .int (Int32.ofInt x)] s (fun o t => Bd t ∧ Fm [] [77, 78] s t ∧ o = .inl none ∧ (True)) := by
  refine ct_ofX G (by decide) (Nat.le_of_ble_eq_true rfl) (fun k X E ET hRt hXt q => ?_)
  show WS k 0 [(0, .ref (A 67)), (1, .int (Int32.ofInt x))] [] _ 0 0
  have F : Fm [] [77, 78] s s := fm_rf _ _ s
  have L41 : ∀ (n : Nat) (t : PS) (xv tl hd g : Int), Bd t → Fm [] [77, 78] s t → ((0 ≤ xv ∧ xv ≤ 127) ∧ (0 ≤ tl ∧ tl ≤ 128) ∧ (0 ≤ hd ∧ hd ≤ 127) ∧ 0 ≤ g ∧ g ≤ 6) → (6 - g : Int).toNat < n → (∀ (t' : PS) (tl' g' : Int), Bd t' → Fm [] [77, 78] s t' → ((0 ≤ xv ∧ xv ≤ 127) ∧ (0 ≤ tl' ∧ tl' ≤ 128) ∧ (0 ≤ hd ∧ hd ≤ 127) ∧ 0 ≤ g' ∧ g' ≤ 6) → WS k 131 [(0, .ref (A 67)), (1, .int (Int32.ofInt xv)), (2, .int (Int32.ofInt tl')), (3, .int (Int32.ofInt hd)), (4, .int (Int32.ofInt g'))] [] (Wd A dT t') 0 0) → WS k 41 [(0, .ref (A 67)), (1, .int (Int32.ofInt xv)), (2, .int (Int32.ofInt tl)), (3, .int (Int32.ofInt hd)), (4, .int (Int32.ofInt g))] [] (Wd A dT t) 0 0 := by
    intro n
    induction n with
    | zero =>
      intro t xv tl hd g I F hi hm kx
      exact absurd hm (Nat.not_lt_zero _)
    | succ n ih =>
      intro t xv tl hd g I F hi hm kx
      refine z_load X (x := g) rfl (List.Mem.tail _ (List.Mem.tail _ (List.Mem.tail _ (List.Mem.tail _ (List.Mem.head _))))) (z_bipush X rfl (z_icmp_ge X (t := 131) rfl rfl ⟨by first | exact oq_fa4e5087 hi.2.2.2.1 | omega, by first | exact oq_b301c3bf hi.2.2.2.2 | omega⟩ (by decide) (fun g1001 => ?_) (fun g1001 => ?_)))
      ·
        refine WS_pq [0, 1, 2, 3, 4] (lv' := [(0, .ref (A 67)), (1, .int (Int32.ofInt xv)), (2, .int (Int32.ofInt tl)), (3, .int (Int32.ofInt hd)), (4, .int (Int32.ofInt g))]) rfl ?_
        exact kx _ tl g I F (by first | exact ⟨And.intro (hi.1.1) (hi.1.2), And.intro (hi.2.1.1) (hi.2.1.2), And.intro (hi.2.2.1.1) (hi.2.2.1.2), hi.2.2.2.1, hi.2.2.2.2⟩ | omega)
      ·
        refine z_aload_n X (x := A 67) rfl (List.Mem.head _) (s_getR X 67 rfl (c518_ok rfl) rfl rfl (z_load_n X (x := hd) rfl (List.Mem.tail _ (List.Mem.tail _ (List.Mem.tail _ (List.Mem.head _)))) (z_ald X 91 rfl (c518_ok rfl) rfl (by first | exact hi.2.2.1.1 | omega) (show hd < 128 by first | exact oq_31b2bf10 hi.2.2.1.2 | omega) (cbig_ok rfl) ?_)))
        have b1002 := bc_78 I (show (hd).toNat < 128 by first | exact oq_c7f4e9c1 hi.2.2.1.2 | omega)
        refine z_load X (x := g) rfl (List.Mem.tail _ (List.Mem.tail _ (List.Mem.tail _ (List.Mem.tail _ (List.Mem.head _))))) (z_callS X (rm := rmN 100) (As := [.int (Int32.ofInt (iC t 78 (hd).toNat)), .int (Int32.ofInt g)]) (st := []) rfl rfl (by rw [E.1, E.2.1, E.2.2.1]; exact c9_stepFrom G I (by first | exact ⟨b1002.1, b1002.2⟩ | omega) (by first | exact ⟨hi.2.2.2.1, oq_a4cef127 g1001⟩ | omega)) ⟨by rw [E.2.2.2]; exact (show (rmN 100).frames + 1 ≤ (rmN 94).frames by decide), by rw [E.2.2.2]; exact (show 8 + (mNL (miB 100) + 11) + (rmN 100).locals ≤ (rmN 94).locals by decide), by rw [E.2.2.2]; exact (show 0 + (rmN 100).cells ≤ (rmN 94).cells by decide), by rw [E.2.2.2]; exact (show 0 + (rmN 100).slots ≤ (rmN 94).slots by decide)⟩ (Nat.le_of_ble_eq_true rfl) (fun vv s1003 hq => ?_) (fun ee s1003 hq => ?_))
        rotate_left
        · obtain ⟨rfl, e1004, hv, hrs1003, hps1003⟩ := hq; cases hv
        obtain ⟨rfl, e1004, hv, hrs1003, hps1003⟩ := hq
        cases hv
        show WS k 59 [(0, .ref (A 67)), (1, .int (Int32.ofInt xv)), (2, .int (Int32.ofInt tl)), (3, .int (Int32.ofInt hd)), (4, .int (Int32.ofInt g))] [.int (Int32.ofInt e1004)] (Wd A dT t) 0 0
        refine z_store X (lv' := [(5, .int (Int32.ofInt e1004)), (0, .ref (A 67)), (1, .int (Int32.ofInt xv)), (2, .int (Int32.ofInt tl)), (3, .int (Int32.ofInt hd)), (4, .int (Int32.ofInt g))]) rfl (by decide) (fun _ h => h) (z_load X (x := e1004) rfl (List.Mem.head _) (z_const X rfl (z_icmp_eq X (t := 125) rfl rfl hrs1003 (by decide) (fun g1005 => ?_) (fun g1005 => ?_))))
        ·
          refine z_inc X (x := g) (lv' := [(4, .int (Int32.ofInt (g + 1))), (5, .int (Int32.ofInt e1004)), (0, .ref (A 67)), (1, .int (Int32.ofInt xv)), (2, .int (Int32.ofInt tl)), (3, .int (Int32.ofInt hd))]) rfl (by decide) (List.Mem.tail _ (List.Mem.tail _ (List.Mem.tail _ (List.Mem.tail _ (List.Mem.tail _ (List.Mem.head _)))))) (fun _ h => h) (z_goto X (t := 41) rfl rfl (WS_pq [2, 3, 4, 5, 0] (lv' := [(0, .ref (A 67)), (1, .int (Int32.ofInt xv)), (2, .int (Int32.ofInt tl)), (3, .int (Int32.ofInt hd)), (4, .int (Int32.ofInt (g + 1)))]) rfl ?_))
          exact ih _ xv tl hd (g + 1) I F (by first | exact ⟨And.intro (hi.1.1) (hi.1.2), And.intro (hi.2.1.1) (hi.2.1.2), And.intro (hi.2.2.1.1) (hi.2.2.1.2), oq_54f49eb5 hi.2.2.2.1, oq_5bf54478 g1001⟩ | omega) (by first | exact qk_me hm (by decide) (oq_2265a080 g1001) | omega) kx
        ·
          refine z_aload_n X (x := A 67) rfl (List.Mem.tail _ (List.Mem.head _)) (s_getR X 67 rfl (c518_ok rfl) rfl rfl (z_load X (x := e1004) rfl (List.Mem.head _) (z_ald X 90 rfl (c518_ok rfl) rfl (by first | exact oq_7a1025bf g1005 hps1003.1 | omega) (show e1004 < 128 by first | exact oq_31b2bf10 hps1003.2 | omega) (cbig_ok rfl) ?_)))
          have b1006 := bc_77 I (show (e1004).toNat < 128 by first | exact oq_c7f4e9c1 hps1003.2 | omega)
          refine z_const X rfl (z_icmp_ne X (t := 125) rfl rfl (rng_to _) (by decide) (fun g1007 => ?_) (fun g1007 => ?_))
          ·
            refine z_inc X (x := g) (lv' := [(4, .int (Int32.ofInt (g + 1))), (5, .int (Int32.ofInt e1004)), (0, .ref (A 67)), (1, .int (Int32.ofInt xv)), (2, .int (Int32.ofInt tl)), (3, .int (Int32.ofInt hd))]) rfl (by decide) (List.Mem.tail _ (List.Mem.tail _ (List.Mem.tail _ (List.Mem.tail _ (List.Mem.tail _ (List.Mem.head _)))))) (fun _ h => h) (z_goto X (t := 41) rfl rfl (WS_pq [2, 3, 4, 5, 0] (lv' := [(0, .ref (A 67)), (1, .int (Int32.ofInt xv)), (2, .int (Int32.ofInt tl)), (3, .int (Int32.ofInt hd)), (4, .int (Int32.ofInt (g + 1)))]) rfl ?_))
            exact ih _ xv tl hd (g + 1) I F (by first | exact ⟨And.intro (hi.1.1) (hi.1.2), And.intro (hi.2.1.1) (hi.2.1.2), And.intro (hi.2.2.1.1) (hi.2.2.1.2), oq_54f49eb5 hi.2.2.2.1, oq_5bf54478 g1001⟩ | omega) (by first | exact qk_me hm (by decide) (oq_2265a080 g1001) | omega) kx
          ·
            refine z_aload_n X (x := A 67) rfl (List.Mem.tail _ (List.Mem.head _)) (z_load X (x := e1004) rfl (List.Mem.head _) (zcV_i0 X E 67 (As := [.int (Int32.ofInt e1004)]) (st := []) rfl rfl rfl rfl (c8_isShut_67 G I (by first | exact ⟨oq_7a1025bf g1005 hps1003.1, hps1003.2⟩ | omega)) rfl (Nat.le_of_ble_eq_true rfl) (fun s1008 e1009 Is1008 Fs1008 hrs1008 hps1008 => ?_)))
            have Gs1008 := fm_tq F Fs1008 rfl rfl
            refine z_if_ne X (t := 125) rfl rfl hrs1008 (fun g1010 => ?_) (fun g1010 => ?_)
            ·
              refine z_inc X (x := g) (lv' := [(4, .int (Int32.ofInt (g + 1))), (5, .int (Int32.ofInt e1004)), (0, .ref (A 67)), (1, .int (Int32.ofInt xv)), (2, .int (Int32.ofInt tl)), (3, .int (Int32.ofInt hd))]) rfl (by decide) (List.Mem.tail _ (List.Mem.tail _ (List.Mem.tail _ (List.Mem.tail _ (List.Mem.tail _ (List.Mem.head _)))))) (fun _ h => h) (z_goto X (t := 41) rfl rfl (WS_pq [2, 3, 4, 5, 0] (lv' := [(0, .ref (A 67)), (1, .int (Int32.ofInt xv)), (2, .int (Int32.ofInt tl)), (3, .int (Int32.ofInt hd)), (4, .int (Int32.ofInt (g + 1)))]) rfl ?_))
              exact ih _ xv tl hd (g + 1) Is1008 Gs1008 (by first | exact ⟨And.intro (hi.1.1) (hi.1.2), And.intro (hi.2.1.1) (hi.2.1.2), And.intro (hi.2.2.1.1) (hi.2.2.1.2), oq_54f49eb5 hi.2.2.2.1, oq_5bf54478 g1001⟩ | omega) (by first | exact qk_me hm (by decide) (oq_2265a080 g1001) | omega) kx
            ·
              refine z_load_n X (x := tl) rfl (List.Mem.tail _ (List.Mem.tail _ (List.Mem.tail _ (List.Mem.head _)))) (z_sipush X rfl (z_icmp_ge X (t := 125) rfl rfl ⟨by first | exact oq_fa4e5087 hi.2.1.1 | omega, by first | exact oq_4ee82282 hi.2.1.2 | omega⟩ (by decide) (fun g1011 => ?_) (fun g1011 => ?_)))
              ·
                refine z_inc X (x := g) (lv' := [(4, .int (Int32.ofInt (g + 1))), (5, .int (Int32.ofInt e1004)), (0, .ref (A 67)), (1, .int (Int32.ofInt xv)), (2, .int (Int32.ofInt tl)), (3, .int (Int32.ofInt hd))]) rfl (by decide) (List.Mem.tail _ (List.Mem.tail _ (List.Mem.tail _ (List.Mem.tail _ (List.Mem.tail _ (List.Mem.head _)))))) (fun _ h => h) (z_goto X (t := 41) rfl rfl (WS_pq [2, 3, 4, 5, 0] (lv' := [(0, .ref (A 67)), (1, .int (Int32.ofInt xv)), (2, .int (Int32.ofInt tl)), (3, .int (Int32.ofInt hd)), (4, .int (Int32.ofInt (g + 1)))]) rfl ?_))
                exact ih _ xv tl hd (g + 1) Is1008 Gs1008 (by first | exact ⟨And.intro (hi.1.1) (hi.1.2), And.intro (hi.2.1.1) (hi.2.1.2), And.intro (hi.2.2.1.1) (hi.2.2.1.2), oq_54f49eb5 hi.2.2.2.1, oq_5bf54478 g1001⟩ | omega) (by first | exact qk_me hm (by decide) (oq_2265a080 g1001) | omega) kx
              ·
                refine z_aload_n X (x := A 67) rfl (List.Mem.tail _ (List.Mem.head _)) (s_getR X 67 rfl (c518_ok rfl) rfl rfl (z_load X (x := e1004) rfl (List.Mem.head _) (z_aload_n X (x := A 67) rfl (List.Mem.tail _ (List.Mem.head _)) (s_getR X 67 rfl (c518_ok rfl) rfl rfl (z_aload_n X (x := A 67) rfl (List.Mem.tail _ (List.Mem.head _)) (s_getR X 67 rfl (c518_ok rfl) rfl rfl (z_load_n X (x := hd) rfl (List.Mem.tail _ (List.Mem.tail _ (List.Mem.tail _ (List.Mem.tail _ (List.Mem.head _))))) (z_ald X 91 rfl (c518_ok rfl) rfl (by first | exact hi.2.2.1.1 | omega) (show hd < 128 by first | exact oq_31b2bf10 hi.2.2.1.2 | omega) (cbig_ok rfl) ?_))))))))
                have b1012 := bc_78 Is1008 (show (hd).toNat < 128 by first | exact oq_c7f4e9c1 hi.2.2.1.2 | omega)
                refine z_ald X 90 rfl (c518_ok rfl) rfl (by first | exact b1012.1 | omega) (show (iC s1008 78 (hd).toNat) < 128 by first | exact oq_31b2bf10 b1012.2 | omega) (cbig_ok rfl) ?_
                have b1013 := bc_77 Is1008 (show ((iC s1008 78 (hd).toNat)).toNat < 128 by first | exact oq_c7f4e9c1 b1012.2 | omega)
                refine z_const X rfl (z_add X rfl (z_any (fun y1014 hy1014 => ?_)))
                refine z_ast X 90 rfl (c518_ok rfl) rfl (by first | exact oq_7a1025bf g1005 hps1003.1 | omega) (show e1004 < 128 by first | exact oq_31b2bf10 hps1003.2 | omega) (cbig_ok rfl) (wd_gen (fun s1015 hs1015 => ?_))
                have Is1015 : Bd s1015 := eqB hs1015 (bd_C Is1008 (show ((-2147483648) : Int) ≤ y1014 ∧ y1014 ≤ 2147483647 by first | exact ⟨hy1014.1, hy1014.2⟩ | omega) hy1014)
                have Fs1015 := eqF hs1015 (fm_C Gs1008 (inl_ok (a := 77) rfl))
                refine z_aload_n X (x := A 67) rfl (List.Mem.tail _ (List.Mem.head _)) (s_getR X 67 rfl (c518_ok rfl) rfl rfl (z_load_n X (x := tl) rfl (List.Mem.tail _ (List.Mem.tail _ (List.Mem.tail _ (List.Mem.head _)))) (z_load X (x := e1004) rfl (List.Mem.head _) (z_ast X 91 rfl (c518_ok rfl) rfl (by first | exact hi.2.1.1 | omega) (show tl < 128 by first | exact g1011 | omega) (cbig_ok rfl) (wd_gen (fun s1016 hs1016 => ?_))))))
                have Is1016 : Bd s1016 := eqB hs1016 (bd_C Is1015 (show (0 : Int) ≤ e1004 ∧ e1004 ≤ 127 by first | exact ⟨oq_7a1025bf g1005 hps1003.1, hps1003.2⟩ | omega) hrs1003)
                have Fs1016 := eqF hs1016 (fm_C Fs1015 (inl_ok (a := 78) rfl))
                refine z_inc X (x := tl) (lv' := [(2, .int (Int32.ofInt (tl + 1))), (5, .int (Int32.ofInt e1004)), (0, .ref (A 67)), (1, .int (Int32.ofInt xv)), (3, .int (Int32.ofInt hd)), (4, .int (Int32.ofInt g))]) rfl (by decide) (List.Mem.tail _ (List.Mem.tail _ (List.Mem.tail _ (List.Mem.head _)))) (fun _ h => h) (z_inc X (x := g) (lv' := [(4, .int (Int32.ofInt (g + 1))), (2, .int (Int32.ofInt (tl + 1))), (5, .int (Int32.ofInt e1004)), (0, .ref (A 67)), (1, .int (Int32.ofInt xv)), (3, .int (Int32.ofInt hd))]) rfl (by decide) (List.Mem.tail _ (List.Mem.tail _ (List.Mem.tail _ (List.Mem.tail _ (List.Mem.tail _ (List.Mem.head _)))))) (fun _ h => h) (z_goto X (t := 41) rfl rfl (WS_pq [3, 4, 1, 5, 0] (lv' := [(0, .ref (A 67)), (1, .int (Int32.ofInt xv)), (2, .int (Int32.ofInt (tl + 1))), (3, .int (Int32.ofInt hd)), (4, .int (Int32.ofInt (g + 1)))]) rfl ?_)))
                exact ih _ xv (tl + 1) hd (g + 1) Is1016 Fs1016 (by first | exact ⟨And.intro (hi.1.1) (hi.1.2), And.intro (oq_54f49eb5 hi.2.1.1) (oq_d2afb425 g1011), And.intro (hi.2.2.1.1) (hi.2.2.1.2), oq_54f49eb5 hi.2.2.2.1, oq_5bf54478 g1001⟩ | omega) (by first | exact qk_me hm (by decide) (oq_2265a080 g1001) | omega) kx
  have L26 : ∀ (n : Nat) (t : PS) (xv tl hd : Int), Bd t → Fm [] [77, 78] s t → ((0 ≤ xv ∧ xv ≤ 127) ∧ (0 ≤ tl ∧ tl ≤ 128) ∧ 0 ≤ hd ∧ hd ≤ 128) → (128 - hd : Int).toNat < n → (∀ (t' : PS) (tl' hd' : Int), Bd t' → Fm [] [77, 78] s t' → ((0 ≤ xv ∧ xv ≤ 127) ∧ (0 ≤ tl' ∧ tl' ≤ 128) ∧ 0 ≤ hd' ∧ hd' ≤ 128) → WS k 137 [(0, .ref (A 67)), (1, .int (Int32.ofInt xv)), (2, .int (Int32.ofInt tl')), (3, .int (Int32.ofInt hd'))] [] (Wd A dT t') 0 0) → WS k 26 [(0, .ref (A 67)), (1, .int (Int32.ofInt xv)), (2, .int (Int32.ofInt tl)), (3, .int (Int32.ofInt hd))] [] (Wd A dT t) 0 0 := by
    intro n
    induction n with
    | zero =>
      intro t xv tl hd I F hi hm kx
      exact absurd hm (Nat.not_lt_zero _)
    | succ n ih =>
      intro t xv tl hd I F hi hm kx
      refine z_load_n X (x := hd) rfl (List.Mem.tail _ (List.Mem.tail _ (List.Mem.tail _ (List.Mem.head _)))) (z_load_n X (x := tl) rfl (List.Mem.tail _ (List.Mem.tail _ (List.Mem.head _))) (z_icmp_ge X (t := 137) rfl rfl ⟨by first | exact oq_fa4e5087 hi.2.2.1 | omega, by first | exact oq_4ee82282 hi.2.2.2 | omega⟩ ⟨by first | exact oq_fa4e5087 hi.2.1.1 | omega, by first | exact oq_4ee82282 hi.2.1.2 | omega⟩ (fun g2001 => ?_) (fun g2001 => ?_)))
      ·
        refine WS_pq [0, 1, 2, 3] (lv' := [(0, .ref (A 67)), (1, .int (Int32.ofInt xv)), (2, .int (Int32.ofInt tl)), (3, .int (Int32.ofInt hd))]) rfl ?_
        exact kx _ tl hd I F (by first | exact ⟨And.intro (hi.1.1) (hi.1.2), And.intro (hi.2.1.1) (hi.2.1.2), hi.2.2.1, hi.2.2.2⟩ | omega)
      ·
        refine z_load_n X (x := hd) rfl (List.Mem.tail _ (List.Mem.tail _ (List.Mem.tail _ (List.Mem.head _)))) (z_sipush X rfl (z_icmp_ge X (t := 137) rfl rfl ⟨by first | exact oq_fa4e5087 hi.2.2.1 | omega, by first | exact oq_4ee82282 hi.2.2.2 | omega⟩ (by decide) (fun g2002 => ?_) (fun g2002 => ?_)))
        ·
          refine WS_pq [0, 1, 2, 3] (lv' := [(0, .ref (A 67)), (1, .int (Int32.ofInt xv)), (2, .int (Int32.ofInt tl)), (3, .int (Int32.ofInt hd))]) rfl ?_
          exact kx _ tl hd I F (by first | exact ⟨And.intro (hi.1.1) (hi.1.2), And.intro (hi.2.1.1) (hi.2.1.2), hi.2.2.1, hi.2.2.2⟩ | omega)
        ·
          refine z_const X rfl (z_store X (lv' := [(4, .int (Int32.ofInt 0)), (0, .ref (A 67)), (1, .int (Int32.ofInt xv)), (2, .int (Int32.ofInt tl)), (3, .int (Int32.ofInt hd))]) rfl (by decide) (fun _ h => h) (WS_pq [1, 2, 3, 4, 0] (lv' := [(0, .ref (A 67)), (1, .int (Int32.ofInt xv)), (2, .int (Int32.ofInt tl)), (3, .int (Int32.ofInt hd)), (4, .int (Int32.ofInt 0))]) rfl (L41 ((6 - 0 : Int).toNat + 1) t xv tl hd 0 I F (by first | exact ⟨And.intro (hi.1.1) (hi.1.2), And.intro (hi.2.1.1) (hi.2.1.2), And.intro (hi.2.2.1) (oq_04367f15 g2002), by decide, by decide⟩ | omega) (Nat.lt_succ_self _) ?_)))
          intro s2003 x2004 x2005 Is2003 Fs2003 hs2003
          refine z_inc X (x := hd) (lv' := [(3, .int (Int32.ofInt (hd + 1))), (0, .ref (A 67)), (1, .int (Int32.ofInt xv)), (2, .int (Int32.ofInt x2004)), (4, .int (Int32.ofInt x2005))]) rfl (by decide) (List.Mem.tail _ (List.Mem.tail _ (List.Mem.tail _ (List.Mem.head _)))) (fun _ h => h) (z_goto X (t := 26) rfl rfl (WS_pq [1, 2, 3, 0] (lv' := [(0, .ref (A 67)), (1, .int (Int32.ofInt xv)), (2, .int (Int32.ofInt x2004)), (3, .int (Int32.ofInt (hd + 1)))]) rfl ?_))
          exact ih _ xv x2004 (hd + 1) Is2003 Fs2003 (by first | exact ⟨And.intro (hs2003.1.1) (hs2003.1.2), And.intro (hs2003.2.1.1) (hs2003.2.1.2), oq_54f49eb5 hs2003.2.2.1.1, oq_e4399267 hs2003.2.2.1.2⟩ | omega) (by first | exact qk_me hm (by decide) (oq_7e05e720 hs2003.2.2.1.2) | omega) kx
  refine z_aload_n X (x := A 67) rfl (List.Mem.head _) (s_getR X 67 rfl (c518_ok rfl) rfl rfl (z_const X rfl (zcS_v0 X E (As := [.ref (A 90), .int (Int32.ofInt (-1))]) (st := []) rfl rfl (j_fill_90 G I (by first | exact ⟨by decide, by decide⟩ | omega)) rfl (Nat.le_of_ble_eq_true rfl) (fun s1 Is1 Fs1 hps1 => ?_))))
  have Gs1 := fm_tq F Fs1 rfl rfl
  refine z_aload_n X (x := A 67) rfl (List.Mem.head _) (s_getR X 67 rfl (c518_ok rfl) rfl rfl (z_load_n X (x := x) rfl (List.Mem.tail _ (List.Mem.head _)) (z_const X rfl (z_ast X 90 rfl (c518_ok rfl) rfl (by first | exact p0.1 | omega) (show x < 128 by first | exact oq_31b2bf10 p0.2 | omega) (cbig_ok rfl) (wd_gen (fun s3 hs3 => ?_))))))
  have Is3 : Bd s3 := eqB hs3 (bd_C Is1 (show ((-2147483648) : Int) ≤ 0 ∧ 0 ≤ 2147483647 by first | exact ⟨by decide, by decide⟩ | omega) (by decide))
  have Fs3 := eqF hs3 (fm_C Gs1 (inl_ok (a := 77) rfl))
  refine z_aload_n X (x := A 67) rfl (List.Mem.head _) (s_getR X 67 rfl (c518_ok rfl) rfl rfl (z_const X rfl (z_load_n X (x := x) rfl (List.Mem.tail _ (List.Mem.head _)) (z_ast X 91 rfl (c518_ok rfl) rfl (by decide) (show 0 < 128 by decide) (cbig_ok rfl) (wd_gen (fun s4 hs4 => ?_))))))
  have Is4 : Bd s4 := eqB hs4 (bd_C Is3 (show (0 : Int) ≤ x ∧ x ≤ 127 by first | exact ⟨p0.1, p0.2⟩ | omega) ⟨by first | exact oq_fa4e5087 p0.1 | omega, by first | exact oq_07d346ce p0.2 | omega⟩)
  have Fs4 := eqF hs4 (fm_C Fs3 (inl_ok (a := 78) rfl))
  refine z_const X rfl (z_store_n X (lv' := [(2, .int (Int32.ofInt 1)), (0, .ref (A 67)), (1, .int (Int32.ofInt x))]) rfl (by decide) (fun _ h => h) (z_const X rfl (z_store_n X (lv' := [(3, .int (Int32.ofInt 0)), (2, .int (Int32.ofInt 1)), (0, .ref (A 67)), (1, .int (Int32.ofInt x))]) rfl (by decide) (fun _ h => h) (WS_pq [2, 3, 1, 0] (lv' := [(0, .ref (A 67)), (1, .int (Int32.ofInt x)), (2, .int (Int32.ofInt 1)), (3, .int (Int32.ofInt 0))]) rfl (L26 ((128 - 0 : Int).toNat + 1) s4 x 1 0 Is4 Fs4 (by first | exact ⟨And.intro (p0.1) (p0.2), And.intro (by decide) (by decide), by decide, by decide⟩ | omega) (Nat.lt_succ_self _) ?_)))))
  intro s5 x6 x7 Is5 Fs5 hs5
  exact w_vret X.1 q hRt (ax_d X (show cdA 94 137 = some (.return_, 1, 0, 0, 0) from rfl)) (Nat.zero_le _) (Nat.zero_le _) ⟨_, rfl, Is5, Fs5, rfl, trivial⟩
set_option maxRecDepth 4000 in
theorem c8_anyFull_67 (G : GX l s0 D tys a0 dT) (I : Bd s) {x : Int} (p0 : 0 ≤ x ∧ x ≤ 255) (p1 : iI s 41 ≤ 8) : CT l s0 D A dT 98 (rmN 98) [.ref (A 67), .int (Int32.ofInt x)] s (fun o t => Bd t ∧ Fm [] [67, 20, 87, 96, 105, 114, 123, 132, 141, 150] s t ∧ ∃ e, o = .inl (some (.int (Int32.ofInt e))) ∧ rng e ∧ (e = 0 ∨ e = 1)) := by
  refine ct_ofX G (by decide) (Nat.le_of_ble_eq_true rfl) (fun k X E ET hRt hXt q => ?_)
  show WS k 0 [(0, .ref (A 67)), (1, .int (Int32.ofInt x))] [] _ 0 0
  have F : Fm [] [67, 20, 87, 96, 105, 114, 123, 132, 141, 150] s s := fm_rf _ _ s
  have b1 := bi_41 I
  have L2 : ∀ (n : Nat) (t : PS) (xv c : Int), Bd t → Fm [] [67, 20, 87, 96, 105, 114, 123, 132, 141, 150] s t → ((0 ≤ xv ∧ xv ≤ 255) ∧ 0 ≤ c ∧ c ≤ 8 ∧ iI t 41 ≤ 8) → (8 - c : Int).toNat < n → (∀ (t' : PS) (c' : Int), Bd t' → Fm [] [67, 20, 87, 96, 105, 114, 123, 132, 141, 150] s t' → ((0 ≤ xv ∧ xv ≤ 255) ∧ 0 ≤ c' ∧ c' ≤ 8 ∧ iI t' 41 ≤ 8) → WS k 74 [(0, .ref (A 67)), (1, .int (Int32.ofInt xv)), (2, .int (Int32.ofInt c'))] [] (Wd A dT t') 0 0) → WS k 2 [(0, .ref (A 67)), (1, .int (Int32.ofInt xv)), (2, .int (Int32.ofInt c))] [] (Wd A dT t) 0 0 := by
    intro n
    induction n with
    | zero =>
      intro t xv c I F hi hm kx
      exact absurd hm (Nat.not_lt_zero _)
    | succ n ih =>
      intro t xv c I F hi hm kx
      have b1001 := bi_41 I
      refine z_load_n X (x := c) rfl (List.Mem.tail _ (List.Mem.tail _ (List.Mem.head _))) (z_aload_n X (x := A 67) rfl (List.Mem.head _) (z_getI X 67 rfl (c518_ok rfl) rfl rfl ?_))
      have b1002 := bi_41 I
      refine z_icmp_ge X (t := 74) rfl rfl ⟨by first | exact oq_fa4e5087 hi.2.1 | omega, by first | exact oq_d3f5d874 hi.2.2.1 | omega⟩ (rng_to _) (fun g1003 => ?_) (fun g1003 => ?_)
      ·
        refine WS_pq [0, 1, 2] (lv' := [(0, .ref (A 67)), (1, .int (Int32.ofInt xv)), (2, .int (Int32.ofInt c))]) rfl ?_
        exact kx _ c I F (by first | exact ⟨And.intro (hi.1.1) (hi.1.2), hi.2.1, hi.2.2.1, hi.2.2.2⟩ | omega)
      ·
        refine z_load_n X (x := xv) rfl (List.Mem.tail _ (List.Mem.head _)) (z_load_n X (x := c) rfl (List.Mem.tail _ (List.Mem.tail _ (List.Mem.head _))) (z_bshr X rfl (z_any (fun y1004 hy1004 => ?_))))
        refine z_const X rfl (z_band X rfl (z_any (fun y1005 hy1005 => ?_)))
        have N1006 : ∀ e1007 : Int, (((y1005 = 0) ∧ e1007 = 0) ∨ ((y1005 ≠ 0) ∧ e1007 = 1)) → WS k 23 [(0, .ref (A 67)), (1, .int (Int32.ofInt xv)), (2, .int (Int32.ofInt c))] [.int (Int32.ofInt e1007)] (Wd A dT t) 0 0 := by
          intro e1007 he1007
          have re1007 : 0 ≤ e1007 ∧ e1007 ≤ 1 := by first | (clear he1007; omega) | omega
          refine z_store_n X (lv' := [(3, .int (Int32.ofInt e1007)), (0, .ref (A 67)), (1, .int (Int32.ofInt xv)), (2, .int (Int32.ofInt c))]) rfl (by decide) (fun _ h => h) (z_aload_n X (x := A 67) rfl (List.Mem.tail _ (List.Mem.head _)) (s_getR X 67 rfl (c518_ok rfl) rfl rfl (s_getR X 68 rfl (c518_ok rfl) rfl rfl (z_aload_n X (x := A 67) rfl (List.Mem.tail _ (List.Mem.head _)) (s_getR X 67 rfl (c518_ok rfl) rfl rfl (z_load_n X (x := c) rfl (List.Mem.tail _ (List.Mem.tail _ (List.Mem.tail _ (List.Mem.head _)))) (z_ald X 85 rfl (c518_ok rfl) rfl (by first | exact hi.2.1 | omega) (show c < 12 by first | exact oq_368c59ca hi.2.2.1 | omega) (cbig_ok rfl) ?_)))))))
          have b1008 := bc_72 I (show (c).toNat < 12 by first | exact oq_f3a5066e hi.2.2.1 | omega)
          refine z_load_n X (x := e1007) rfl (List.Mem.head _) ?_
          have N1009 : ∀ e1010 : Int, (((e1007 = 0) ∧ e1010 = 0) ∨ ((e1007 ≠ 0) ∧ ((0 : Int) ≤ iI t 39 ∧ iI t 39 ≤ 23) ∧ ((0 : Int) ≤ iC t 72 (c).toNat ∧ iC t 72 (c).toNat ≤ 11) ∧ ((0 : Int) ≤ iC t 11 ((((iI t 39) * 12) + (iC t 72 (c).toNat))).toNat ∧ iC t 11 ((((iI t 39) * 12) + (iC t 72 (c).toNat))).toNat ≤ 50) ∧ e1010 = (iC t 11 ((((iI t 39) * 12) + (iC t 72 (c).toNat))).toNat))) → WS k 67 [(3, .int (Int32.ofInt e1007)), (0, .ref (A 67)), (1, .int (Int32.ofInt xv)), (2, .int (Int32.ofInt c))] [.int (Int32.ofInt e1010), .int (Int32.ofInt (iC t 72 (c).toNat)), .ref (A 79)] (Wd A dT t) 0 0 := by
            intro e1010 he1010
            refine z_ast X 79 rfl (c518_ok rfl) rfl (by first | exact b1008.1 | omega) (show (iC t 72 (c).toNat) < 288 by first | exact oq_760f2641 b1008.2 | omega) (cbig_ok rfl) (wd_gen (fun s1011 hs1011 => ?_))
            have Is1011 : Bd s1011 := eqB hs1011 (bd_C I (show (0 : Int) ≤ e1010 ∧ e1010 ≤ 50 by first | exact ⟨oq_80b52fe0 he1010, oq_4021a32f he1010⟩ | omega) ⟨by first | exact oq_9b4da494 he1010 | omega, by first | exact oq_90ebf3a2 he1010 | omega⟩)
            have Fs1011 := eqF hs1011 (fm_C F (inl_ok (a := 67) rfl))
            have ws1011_41 : iI s1011 41 = iI t 41 := eqI hs1011 rfl
            refine z_inc X (x := c) (lv' := [(2, .int (Int32.ofInt (c + 1))), (3, .int (Int32.ofInt e1007)), (0, .ref (A 67)), (1, .int (Int32.ofInt xv))]) rfl (by decide) (List.Mem.tail _ (List.Mem.tail _ (List.Mem.tail _ (List.Mem.head _)))) (fun _ h => h) (z_goto X (t := 2) rfl rfl (WS_pq [2, 3, 0] (lv' := [(0, .ref (A 67)), (1, .int (Int32.ofInt xv)), (2, .int (Int32.ofInt (c + 1)))]) rfl ?_))
            exact ih _ xv (c + 1) Is1011 Fs1011 (by first | exact ⟨And.intro (hi.1.1) (hi.1.2), oq_54f49eb5 hi.2.1, oq_f6204d84 g1003 hi.2.2.2, oq_86ef0b17 ws1011_41 hi.2.2.2⟩ | omega) (by first | exact qk_me hm (by decide) (oq_ccc5e5e0 g1003 hi.2.2.2) | omega) kx
          refine z_if_eq X (t := 66) rfl rfl ⟨by first | exact oq_fa4e5087 re1007.1 | omega, by first | exact oq_22e1e6b0 re1007.2 | omega⟩ (fun g1012 => ?_) (fun g1012 => ?_)
          ·
            exact z_const X rfl (N1009 _ (Or.inl ⟨g1012, rfl⟩))
          ·
            refine z_aload_n X (x := A 67) rfl (List.Mem.tail _ (List.Mem.head _)) (s_getR X 67 rfl (c518_ok rfl) rfl rfl (s_getR X 3 rfl (c518_ok rfl) rfl rfl (z_aload_n X (x := A 67) rfl (List.Mem.tail _ (List.Mem.head _)) (z_getI X 67 rfl (c518_ok rfl) rfl rfl ?_))))
            have b1013 := bi_39 I
            refine z_bipush X rfl (z_mul X rfl (z_aload_n X (x := A 67) rfl (List.Mem.tail _ (List.Mem.head _)) (s_getR X 67 rfl (c518_ok rfl) rfl rfl (z_load_n X (x := c) rfl (List.Mem.tail _ (List.Mem.tail _ (List.Mem.tail _ (List.Mem.head _)))) (z_ald X 85 rfl (c518_ok rfl) rfl (by first | exact hi.2.1 | omega) (show c < 12 by first | exact oq_368c59ca hi.2.2.1 | omega) (cbig_ok rfl) ?_)))))
            have b1014 := bc_72 I (show (c).toNat < 12 by first | exact oq_f3a5066e hi.2.2.1 | omega)
            refine z_add X rfl (z_ald X 14 rfl (c518_ok rfl) rfl (by first | exact oq_0f03f1de b1013.1 b1014.1 | omega) (show (((iI t 39) * 12) + (iC t 72 (c).toNat)) < 288 by first | exact oq_74a4833a b1013.2 b1014.2 | omega) (cbig_ok rfl) ?_)
            have b1015 := bc_11 I (show ((((iI t 39) * 12) + (iC t 72 (c).toNat))).toNat < 288 by first | exact oq_5aa97b8f b1013.2 b1014.2 | omega)
            exact z_goto X (t := 67) rfl rfl (N1009 _ (Or.inr (⟨g1012, b1013, b1014, b1015, rfl⟩)))
        refine z_if_eq X (t := 22) rfl rfl hy1005 (fun g1016 => ?_) (fun g1016 => ?_)
        ·
          exact z_const X rfl (N1006 _ (Or.inl ⟨g1016, rfl⟩))
        ·
          exact z_const X rfl (z_goto X (t := 23) rfl rfl (N1006 _ (Or.inr (⟨g1016, rfl⟩))))
  have L76 : ∀ (n : Nat) (t : PS) (p : Int), Bd t → Fm [] [67, 20, 87, 96, 105, 114, 123, 132, 141, 150] s t → (0 ≤ p ∧ p ≤ 8) → (8 - p : Int).toNat < n → (∀ (t' : PS) (p' : Int), Bd t' → Fm [] [67, 20, 87, 96, 105, 114, 123, 132, 141, 150] s t' → (0 ≤ p' ∧ p' ≤ 8) → WS k 124 [(0, .ref (A 67)), (2, .int (Int32.ofInt p'))] [] (Wd A dT t') 0 0) → WS k 76 [(0, .ref (A 67)), (2, .int (Int32.ofInt p))] [] (Wd A dT t) 0 0 := by
    intro n
    induction n with
    | zero =>
      intro t p I F hi hm kx
      exact absurd hm (Nat.not_lt_zero _)
    | succ n ih =>
      intro t p I F hi hm kx
      have b2001 := bi_41 I
      refine z_load_n X (x := p) rfl (List.Mem.tail _ (List.Mem.head _)) (z_bipush X rfl (z_icmp_ge X (t := 124) rfl rfl ⟨by first | exact oq_fa4e5087 hi.1 | omega, by first | exact oq_d3f5d874 hi.2 | omega⟩ (by decide) (fun g2002 => ?_) (fun g2002 => ?_)))
      ·
        refine WS_pq [0, 1] (lv' := [(0, .ref (A 67)), (2, .int (Int32.ofInt p))]) rfl ?_
        exact kx _ p I F (by first | exact ⟨hi.1, hi.2⟩ | omega)
      ·
        refine z_aload_n X (x := A 67) rfl (List.Mem.head _) (s_getR X 67 rfl (c518_ok rfl) rfl rfl (z_load_n X (x := p) rfl (List.Mem.tail _ (List.Mem.head _)) (zcV_i0 X E 25 (As := [.int (Int32.ofInt p)]) (st := []) rfl rfl rfl rfl (c3_hasCells_25 G I (by first | exact ⟨hi.1, oq_78c639ed g2002⟩ | omega)) rfl (Nat.le_of_ble_eq_true rfl) (fun s2003 e2004 Is2003 Fs2003 hrs2003 hps2003 => ?_))))
        have Gs2003 := fm_tq F Fs2003 rfl rfl
        have ws2003_41 : iI s2003 41 = iI t 41 := fm_iq Fs2003 rfl
        refine z_if_eq X (t := 118) rfl rfl hrs2003 (fun g2005 => ?_) (fun g2005 => ?_)
        ·
          refine z_inc X (x := p) (lv' := [(2, .int (Int32.ofInt (p + 1))), (0, .ref (A 67))]) rfl (by decide) (List.Mem.tail _ (List.Mem.head _)) (fun _ h => h) (z_goto X (t := 76) rfl rfl (WS_pq [1, 0] (lv' := [(0, .ref (A 67)), (2, .int (Int32.ofInt (p + 1)))]) rfl ?_))
          exact ih _ (p + 1) Is2003 Gs2003 (by first | exact ⟨oq_54f49eb5 hi.1, oq_0c7b19c3 g2002⟩ | omega) (by first | exact qk_me hm (by decide) (oq_9f368f35 g2002) | omega) kx
        ·
          refine z_aload_n X (x := A 67) rfl (List.Mem.head _) (s_getR X 67 rfl (c518_ok rfl) rfl rfl (z_load_n X (x := p) rfl (List.Mem.tail _ (List.Mem.head _)) (z_a8 X rfl (by first | (clear g2005 hps2003; omega) | (clear hps2003; omega) | omega) (show p < 8 by first | (clear g2005 hps2003; omega) | (clear hps2003; omega) | omega) ?_)))
          rcases (show p = 0 ∨ p = 1 ∨ p = 2 ∨ p = 3 ∨ p = 4 ∨ p = 5 ∨ p = 6 ∨ p = 7 by omega) with gs | gs | gs | gs | gs | gs | gs | gs
          ·
            have e8 : 93 + 10 * (p : Int).toNat = 93 := by first | (clear g2005 hps2003; omega) | (clear hps2003; omega) | omega
            rw [e8]
            refine z_const X rfl (z_const X rfl (zcV_i0 X E 93 (As := [.int (Int32.ofInt 0), .int (Int32.ofInt (-1))]) (st := []) rfl rfl rfl rfl (c0_loadAt_93 G Is2003 (by first | exact ⟨by decide, by decide⟩ | omega) (by first | exact ⟨by decide, by decide⟩ | omega)) rfl (Nat.le_of_ble_eq_true rfl) (fun s2006 e2007 Is2006 Fs2006 hrs2006 hps2006 => ?_)))
            have Gs2006 := fm_tq Gs2003 Fs2006 rfl rfl
            have ws2006_41 : iI s2006 41 = iI s2003 41 := fm_iq Fs2006 rfl
            refine z_aload_n X (x := A 67) rfl (List.Mem.head _) (s_getR X 67 rfl (c518_ok rfl) rfl rfl (s_getR X 25 rfl (c518_ok rfl) rfl rfl (z_load_n X (x := p) rfl (List.Mem.tail _ (List.Mem.head _)) (z_ald X 29 rfl (c518_ok rfl) rfl (by first | exact hi.1 | omega) (show p < 8 by first | exact g2002 | omega) (cbig_ok rfl) ?_))))
            have b2008 := bc_24 Is2006 (show (p).toNat < 8 by first | exact oq_db4b3b8b g2002 | omega)
            refine z_icmp_le X (t := 118) rfl rfl hrs2006 (rng_to _) (fun g2009 => ?_) (fun g2009 => ?_)
            ·
              refine z_inc X (x := p) (lv' := [(2, .int (Int32.ofInt (p + 1))), (0, .ref (A 67))]) rfl (by decide) (List.Mem.tail _ (List.Mem.head _)) (fun _ h => h) (z_goto X (t := 76) rfl rfl (WS_pq [1, 0] (lv' := [(0, .ref (A 67)), (2, .int (Int32.ofInt (p + 1)))]) rfl ?_))
              exact ih _ (p + 1) Is2006 Gs2006 (by first | exact ⟨oq_54f49eb5 hi.1, oq_0c7b19c3 g2002⟩ | omega) (by first | exact qk_me hm (by decide) (oq_9f368f35 g2002) | omega) kx
            ·
              refine z_const X rfl ?_
              exact w_iret X.1 q hRt (nar_ret (by first | exact Or.inr (by decide) | omega)) (ax_d X (show cdA 98 117 = some (.ireturn, 1, 0, 0, 0) from rfl)) (Nat.zero_le _) (Nat.zero_le _) ⟨_, rfl, Is2006, Gs2006, 1, rfl, (by decide), by first | exact Or.inr (by decide) | omega⟩
          ·
            have e8 : 93 + 10 * (p : Int).toNat = 103 := by first | (clear g2005 hps2003; omega) | (clear hps2003; omega) | omega
            rw [e8]
            refine z_const X rfl (z_const X rfl (zcV_i0 X E 103 (As := [.int (Int32.ofInt 0), .int (Int32.ofInt (-1))]) (st := []) rfl rfl rfl rfl (c0_loadAt_103 G Is2003 (by first | exact ⟨by decide, by decide⟩ | omega) (by first | exact ⟨by decide, by decide⟩ | omega)) rfl (Nat.le_of_ble_eq_true rfl) (fun s2010 e2011 Is2010 Fs2010 hrs2010 hps2010 => ?_)))
            have Gs2010 := fm_tq Gs2003 Fs2010 rfl rfl
            have ws2010_41 : iI s2010 41 = iI s2003 41 := fm_iq Fs2010 rfl
            refine z_aload_n X (x := A 67) rfl (List.Mem.head _) (s_getR X 67 rfl (c518_ok rfl) rfl rfl (s_getR X 25 rfl (c518_ok rfl) rfl rfl (z_load_n X (x := p) rfl (List.Mem.tail _ (List.Mem.head _)) (z_ald X 29 rfl (c518_ok rfl) rfl (by first | exact hi.1 | omega) (show p < 8 by first | exact g2002 | omega) (cbig_ok rfl) ?_))))
            have b2012 := bc_24 Is2010 (show (p).toNat < 8 by first | exact oq_db4b3b8b g2002 | omega)
            refine z_icmp_le X (t := 118) rfl rfl hrs2010 (rng_to _) (fun g2013 => ?_) (fun g2013 => ?_)
            ·
              refine z_inc X (x := p) (lv' := [(2, .int (Int32.ofInt (p + 1))), (0, .ref (A 67))]) rfl (by decide) (List.Mem.tail _ (List.Mem.head _)) (fun _ h => h) (z_goto X (t := 76) rfl rfl (WS_pq [1, 0] (lv' := [(0, .ref (A 67)), (2, .int (Int32.ofInt (p + 1)))]) rfl ?_))
              exact ih _ (p + 1) Is2010 Gs2010 (by first | exact ⟨oq_54f49eb5 hi.1, oq_0c7b19c3 g2002⟩ | omega) (by first | exact qk_me hm (by decide) (oq_9f368f35 g2002) | omega) kx
            ·
              refine z_const X rfl ?_
              exact w_iret X.1 q hRt (nar_ret (by first | exact Or.inr (by decide) | omega)) (ax_d X (show cdA 98 117 = some (.ireturn, 1, 0, 0, 0) from rfl)) (Nat.zero_le _) (Nat.zero_le _) ⟨_, rfl, Is2010, Gs2010, 1, rfl, (by decide), by first | exact Or.inr (by decide) | omega⟩
          ·
            have e8 : 93 + 10 * (p : Int).toNat = 113 := by first | (clear g2005 hps2003; omega) | (clear hps2003; omega) | omega
            rw [e8]
            refine z_const X rfl (z_const X rfl (zcV_i0 X E 113 (As := [.int (Int32.ofInt 0), .int (Int32.ofInt (-1))]) (st := []) rfl rfl rfl rfl (c0_loadAt_113 G Is2003 (by first | exact ⟨by decide, by decide⟩ | omega) (by first | exact ⟨by decide, by decide⟩ | omega)) rfl (Nat.le_of_ble_eq_true rfl) (fun s2014 e2015 Is2014 Fs2014 hrs2014 hps2014 => ?_)))
            have Gs2014 := fm_tq Gs2003 Fs2014 rfl rfl
            have ws2014_41 : iI s2014 41 = iI s2003 41 := fm_iq Fs2014 rfl
            refine z_aload_n X (x := A 67) rfl (List.Mem.head _) (s_getR X 67 rfl (c518_ok rfl) rfl rfl (s_getR X 25 rfl (c518_ok rfl) rfl rfl (z_load_n X (x := p) rfl (List.Mem.tail _ (List.Mem.head _)) (z_ald X 29 rfl (c518_ok rfl) rfl (by first | exact hi.1 | omega) (show p < 8 by first | exact g2002 | omega) (cbig_ok rfl) ?_))))
            have b2016 := bc_24 Is2014 (show (p).toNat < 8 by first | exact oq_db4b3b8b g2002 | omega)
            refine z_icmp_le X (t := 118) rfl rfl hrs2014 (rng_to _) (fun g2017 => ?_) (fun g2017 => ?_)
            ·
              refine z_inc X (x := p) (lv' := [(2, .int (Int32.ofInt (p + 1))), (0, .ref (A 67))]) rfl (by decide) (List.Mem.tail _ (List.Mem.head _)) (fun _ h => h) (z_goto X (t := 76) rfl rfl (WS_pq [1, 0] (lv' := [(0, .ref (A 67)), (2, .int (Int32.ofInt (p + 1)))]) rfl ?_))
              exact ih _ (p + 1) Is2014 Gs2014 (by first | exact ⟨oq_54f49eb5 hi.1, oq_0c7b19c3 g2002⟩ | omega) (by first | exact qk_me hm (by decide) (oq_9f368f35 g2002) | omega) kx
            ·
              refine z_const X rfl ?_
              exact w_iret X.1 q hRt (nar_ret (by first | exact Or.inr (by decide) | omega)) (ax_d X (show cdA 98 117 = some (.ireturn, 1, 0, 0, 0) from rfl)) (Nat.zero_le _) (Nat.zero_le _) ⟨_, rfl, Is2014, Gs2014, 1, rfl, (by decide), by first | exact Or.inr (by decide) | omega⟩
          ·
            have e8 : 93 + 10 * (p : Int).toNat = 123 := by first | (clear g2005 hps2003; omega) | (clear hps2003; omega) | omega
            rw [e8]
            refine z_const X rfl (z_const X rfl (zcV_i0 X E 123 (As := [.int (Int32.ofInt 0), .int (Int32.ofInt (-1))]) (st := []) rfl rfl rfl rfl (c0_loadAt_123 G Is2003 (by first | exact ⟨by decide, by decide⟩ | omega) (by first | exact ⟨by decide, by decide⟩ | omega)) rfl (Nat.le_of_ble_eq_true rfl) (fun s2018 e2019 Is2018 Fs2018 hrs2018 hps2018 => ?_)))
            have Gs2018 := fm_tq Gs2003 Fs2018 rfl rfl
            have ws2018_41 : iI s2018 41 = iI s2003 41 := fm_iq Fs2018 rfl
            refine z_aload_n X (x := A 67) rfl (List.Mem.head _) (s_getR X 67 rfl (c518_ok rfl) rfl rfl (s_getR X 25 rfl (c518_ok rfl) rfl rfl (z_load_n X (x := p) rfl (List.Mem.tail _ (List.Mem.head _)) (z_ald X 29 rfl (c518_ok rfl) rfl (by first | exact hi.1 | omega) (show p < 8 by first | exact g2002 | omega) (cbig_ok rfl) ?_))))
            have b2020 := bc_24 Is2018 (show (p).toNat < 8 by first | exact oq_db4b3b8b g2002 | omega)
            refine z_icmp_le X (t := 118) rfl rfl hrs2018 (rng_to _) (fun g2021 => ?_) (fun g2021 => ?_)
            ·
              refine z_inc X (x := p) (lv' := [(2, .int (Int32.ofInt (p + 1))), (0, .ref (A 67))]) rfl (by decide) (List.Mem.tail _ (List.Mem.head _)) (fun _ h => h) (z_goto X (t := 76) rfl rfl (WS_pq [1, 0] (lv' := [(0, .ref (A 67)), (2, .int (Int32.ofInt (p + 1)))]) rfl ?_))
              exact ih _ (p + 1) Is2018 Gs2018 (by first | exact ⟨oq_54f49eb5 hi.1, oq_0c7b19c3 g2002⟩ | omega) (by first | exact qk_me hm (by decide) (oq_9f368f35 g2002) | omega) kx
            ·
              refine z_const X rfl ?_
              exact w_iret X.1 q hRt (nar_ret (by first | exact Or.inr (by decide) | omega)) (ax_d X (show cdA 98 117 = some (.ireturn, 1, 0, 0, 0) from rfl)) (Nat.zero_le _) (Nat.zero_le _) ⟨_, rfl, Is2018, Gs2018, 1, rfl, (by decide), by first | exact Or.inr (by decide) | omega⟩
          ·
            have e8 : 93 + 10 * (p : Int).toNat = 133 := by first | (clear g2005 hps2003; omega) | (clear hps2003; omega) | omega
            rw [e8]
            refine z_const X rfl (z_const X rfl (zcV_i0 X E 133 (As := [.int (Int32.ofInt 0), .int (Int32.ofInt (-1))]) (st := []) rfl rfl rfl rfl (c0_loadAt_133 G Is2003 (by first | exact ⟨by decide, by decide⟩ | omega) (by first | exact ⟨by decide, by decide⟩ | omega)) rfl (Nat.le_of_ble_eq_true rfl) (fun s2022 e2023 Is2022 Fs2022 hrs2022 hps2022 => ?_)))
            have Gs2022 := fm_tq Gs2003 Fs2022 rfl rfl
            have ws2022_41 : iI s2022 41 = iI s2003 41 := fm_iq Fs2022 rfl
            refine z_aload_n X (x := A 67) rfl (List.Mem.head _) (s_getR X 67 rfl (c518_ok rfl) rfl rfl (s_getR X 25 rfl (c518_ok rfl) rfl rfl (z_load_n X (x := p) rfl (List.Mem.tail _ (List.Mem.head _)) (z_ald X 29 rfl (c518_ok rfl) rfl (by first | exact hi.1 | omega) (show p < 8 by first | exact g2002 | omega) (cbig_ok rfl) ?_))))
            have b2024 := bc_24 Is2022 (show (p).toNat < 8 by first | exact oq_db4b3b8b g2002 | omega)
            refine z_icmp_le X (t := 118) rfl rfl hrs2022 (rng_to _) (fun g2025 => ?_) (fun g2025 => ?_)
            ·
              refine z_inc X (x := p) (lv' := [(2, .int (Int32.ofInt (p + 1))), (0, .ref (A 67))]) rfl (by decide) (List.Mem.tail _ (List.Mem.head _)) (fun _ h => h) (z_goto X (t := 76) rfl rfl (WS_pq [1, 0] (lv' := [(0, .ref (A 67)), (2, .int (Int32.ofInt (p + 1)))]) rfl ?_))
              exact ih _ (p + 1) Is2022 Gs2022 (by first | exact ⟨oq_54f49eb5 hi.1, oq_0c7b19c3 g2002⟩ | omega) (by first | exact qk_me hm (by decide) (oq_9f368f35 g2002) | omega) kx
            ·
              refine z_const X rfl ?_
              exact w_iret X.1 q hRt (nar_ret (by first | exact Or.inr (by decide) | omega)) (ax_d X (show cdA 98 117 = some (.ireturn, 1, 0, 0, 0) from rfl)) (Nat.zero_le _) (Nat.zero_le _) ⟨_, rfl, Is2022, Gs2022, 1, rfl, (by decide), by first | exact Or.inr (by decide) | omega⟩
          ·
            have e8 : 93 + 10 * (p : Int).toNat = 143 := by first | (clear g2005 hps2003; omega) | (clear hps2003; omega) | omega
            rw [e8]
            refine z_const X rfl (z_const X rfl (zcV_i0 X E 143 (As := [.int (Int32.ofInt 0), .int (Int32.ofInt (-1))]) (st := []) rfl rfl rfl rfl (c0_loadAt_143 G Is2003 (by first | exact ⟨by decide, by decide⟩ | omega) (by first | exact ⟨by decide, by decide⟩ | omega)) rfl (Nat.le_of_ble_eq_true rfl) (fun s2026 e2027 Is2026 Fs2026 hrs2026 hps2026 => ?_)))
            have Gs2026 := fm_tq Gs2003 Fs2026 rfl rfl
            have ws2026_41 : iI s2026 41 = iI s2003 41 := fm_iq Fs2026 rfl
            refine z_aload_n X (x := A 67) rfl (List.Mem.head _) (s_getR X 67 rfl (c518_ok rfl) rfl rfl (s_getR X 25 rfl (c518_ok rfl) rfl rfl (z_load_n X (x := p) rfl (List.Mem.tail _ (List.Mem.head _)) (z_ald X 29 rfl (c518_ok rfl) rfl (by first | exact hi.1 | omega) (show p < 8 by first | exact g2002 | omega) (cbig_ok rfl) ?_))))
            have b2028 := bc_24 Is2026 (show (p).toNat < 8 by first | exact oq_db4b3b8b g2002 | omega)
            refine z_icmp_le X (t := 118) rfl rfl hrs2026 (rng_to _) (fun g2029 => ?_) (fun g2029 => ?_)
            ·
              refine z_inc X (x := p) (lv' := [(2, .int (Int32.ofInt (p + 1))), (0, .ref (A 67))]) rfl (by decide) (List.Mem.tail _ (List.Mem.head _)) (fun _ h => h) (z_goto X (t := 76) rfl rfl (WS_pq [1, 0] (lv' := [(0, .ref (A 67)), (2, .int (Int32.ofInt (p + 1)))]) rfl ?_))
              exact ih _ (p + 1) Is2026 Gs2026 (by first | exact ⟨oq_54f49eb5 hi.1, oq_0c7b19c3 g2002⟩ | omega) (by first | exact qk_me hm (by decide) (oq_9f368f35 g2002) | omega) kx
            ·
              refine z_const X rfl ?_
              exact w_iret X.1 q hRt (nar_ret (by first | exact Or.inr (by decide) | omega)) (ax_d X (show cdA 98 117 = some (.ireturn, 1, 0, 0, 0) from rfl)) (Nat.zero_le _) (Nat.zero_le _) ⟨_, rfl, Is2026, Gs2026, 1, rfl, (by decide), by first | exact Or.inr (by decide) | omega⟩
          ·
            have e8 : 93 + 10 * (p : Int).toNat = 153 := by first | (clear g2005 hps2003; omega) | (clear hps2003; omega) | omega
            rw [e8]
            refine z_const X rfl (z_const X rfl (zcV_i0 X E 153 (As := [.int (Int32.ofInt 0), .int (Int32.ofInt (-1))]) (st := []) rfl rfl rfl rfl (c0_loadAt_153 G Is2003 (by first | exact ⟨by decide, by decide⟩ | omega) (by first | exact ⟨by decide, by decide⟩ | omega)) rfl (Nat.le_of_ble_eq_true rfl) (fun s2030 e2031 Is2030 Fs2030 hrs2030 hps2030 => ?_)))
            have Gs2030 := fm_tq Gs2003 Fs2030 rfl rfl
            have ws2030_41 : iI s2030 41 = iI s2003 41 := fm_iq Fs2030 rfl
            refine z_aload_n X (x := A 67) rfl (List.Mem.head _) (s_getR X 67 rfl (c518_ok rfl) rfl rfl (s_getR X 25 rfl (c518_ok rfl) rfl rfl (z_load_n X (x := p) rfl (List.Mem.tail _ (List.Mem.head _)) (z_ald X 29 rfl (c518_ok rfl) rfl (by first | exact hi.1 | omega) (show p < 8 by first | exact g2002 | omega) (cbig_ok rfl) ?_))))
            have b2032 := bc_24 Is2030 (show (p).toNat < 8 by first | exact oq_db4b3b8b g2002 | omega)
            refine z_icmp_le X (t := 118) rfl rfl hrs2030 (rng_to _) (fun g2033 => ?_) (fun g2033 => ?_)
            ·
              refine z_inc X (x := p) (lv' := [(2, .int (Int32.ofInt (p + 1))), (0, .ref (A 67))]) rfl (by decide) (List.Mem.tail _ (List.Mem.head _)) (fun _ h => h) (z_goto X (t := 76) rfl rfl (WS_pq [1, 0] (lv' := [(0, .ref (A 67)), (2, .int (Int32.ofInt (p + 1)))]) rfl ?_))
              exact ih _ (p + 1) Is2030 Gs2030 (by first | exact ⟨oq_54f49eb5 hi.1, oq_0c7b19c3 g2002⟩ | omega) (by first | exact qk_me hm (by decide) (oq_9f368f35 g2002) | omega) kx
            ·
              refine z_const X rfl ?_
              exact w_iret X.1 q hRt (nar_ret (by first | exact Or.inr (by decide) | omega)) (ax_d X (show cdA 98 117 = some (.ireturn, 1, 0, 0, 0) from rfl)) (Nat.zero_le _) (Nat.zero_le _) ⟨_, rfl, Is2030, Gs2030, 1, rfl, (by decide), by first | exact Or.inr (by decide) | omega⟩
          ·
            have e8 : 93 + 10 * (p : Int).toNat = 163 := by first | (clear g2005 hps2003; omega) | (clear hps2003; omega) | omega
            rw [e8]
            refine z_const X rfl (z_const X rfl (zcV_i0 X E 163 (As := [.int (Int32.ofInt 0), .int (Int32.ofInt (-1))]) (st := []) rfl rfl rfl rfl (c0_loadAt_163 G Is2003 (by first | exact ⟨by decide, by decide⟩ | omega) (by first | exact ⟨by decide, by decide⟩ | omega)) rfl (Nat.le_of_ble_eq_true rfl) (fun s2034 e2035 Is2034 Fs2034 hrs2034 hps2034 => ?_)))
            have Gs2034 := fm_tq Gs2003 Fs2034 rfl rfl
            have ws2034_41 : iI s2034 41 = iI s2003 41 := fm_iq Fs2034 rfl
            refine z_aload_n X (x := A 67) rfl (List.Mem.head _) (s_getR X 67 rfl (c518_ok rfl) rfl rfl (s_getR X 25 rfl (c518_ok rfl) rfl rfl (z_load_n X (x := p) rfl (List.Mem.tail _ (List.Mem.head _)) (z_ald X 29 rfl (c518_ok rfl) rfl (by first | exact hi.1 | omega) (show p < 8 by first | exact g2002 | omega) (cbig_ok rfl) ?_))))
            have b2036 := bc_24 Is2034 (show (p).toNat < 8 by first | exact oq_db4b3b8b g2002 | omega)
            refine z_icmp_le X (t := 118) rfl rfl hrs2034 (rng_to _) (fun g2037 => ?_) (fun g2037 => ?_)
            ·
              refine z_inc X (x := p) (lv' := [(2, .int (Int32.ofInt (p + 1))), (0, .ref (A 67))]) rfl (by decide) (List.Mem.tail _ (List.Mem.head _)) (fun _ h => h) (z_goto X (t := 76) rfl rfl (WS_pq [1, 0] (lv' := [(0, .ref (A 67)), (2, .int (Int32.ofInt (p + 1)))]) rfl ?_))
              exact ih _ (p + 1) Is2034 Gs2034 (by first | exact ⟨oq_54f49eb5 hi.1, oq_0c7b19c3 g2002⟩ | omega) (by first | exact qk_me hm (by decide) (oq_9f368f35 g2002) | omega) kx
            ·
              refine z_const X rfl ?_
              exact w_iret X.1 q hRt (nar_ret (by first | exact Or.inr (by decide) | omega)) (ax_d X (show cdA 98 117 = some (.ireturn, 1, 0, 0, 0) from rfl)) (Nat.zero_le _) (Nat.zero_le _) ⟨_, rfl, Is2034, Gs2034, 1, rfl, (by decide), by first | exact Or.inr (by decide) | omega⟩
  refine z_const X rfl (z_store_n X (lv' := [(2, .int (Int32.ofInt 0)), (0, .ref (A 67)), (1, .int (Int32.ofInt x))]) rfl (by decide) (fun _ h => h) (WS_pq [1, 2, 0] (lv' := [(0, .ref (A 67)), (1, .int (Int32.ofInt x)), (2, .int (Int32.ofInt 0))]) rfl (L2 ((8 - 0 : Int).toNat + 1) s x 0 I F (by first | exact ⟨And.intro (p0.1) (p0.2), by decide, by decide, p1⟩ | omega) (Nat.lt_succ_self _) ?_)))
  intro s2 x3 Is2 Fs2 hs2
  have b4 := bi_41 Is2
  refine z_const X rfl (z_store_n X (lv' := [(2, .int (Int32.ofInt 0)), (0, .ref (A 67)), (1, .int (Int32.ofInt x))]) rfl (by decide) (fun _ h => h) (WS_pq [1, 0] (lv' := [(0, .ref (A 67)), (2, .int (Int32.ofInt 0))]) rfl (L76 ((8 - 0 : Int).toNat + 1) s2 0 Is2 Fs2 (by first | exact ⟨by decide, by decide⟩ | omega) (Nat.lt_succ_self _) ?_)))
  intro s5 x6 Is5 Fs5 hs5
  have b7 := bi_41 Is5
  refine z_const X rfl ?_
  exact w_iret X.1 q hRt (nar_ret (by first | exact Or.inl (by decide) | omega)) (ax_d X (show cdA 98 125 = some (.ireturn, 1, 0, 0, 0) from rfl)) (Nat.zero_le _) (Nat.zero_le _) ⟨_, rfl, Is5, Fs5, 0, rfl, (by decide), by first | exact Or.inl (by decide) | omega⟩
set_option maxRecDepth 4000 in
theorem c8_fits_67 (G : GX l s0 D tys a0 dT) (I : Bd s) {x : Int} (p0 : 0 ≤ x ∧ x ≤ 255) (p1 : iI s 41 ≤ 8) : CT l s0 D A dT 97 (rmN 97) [.ref (A 67), .int (Int32.ofInt x)] s (fun o t => Bd t ∧ Fm [] [67, 20, 76, 87, 96, 105, 114, 123, 132, 141, 150] s t ∧ ∃ e, o = .inl (some (.int (Int32.ofInt e))) ∧ rng e ∧ (e = 0 ∨ e = 1)) := by
  refine ct_ofX G (by decide) (Nat.le_of_ble_eq_true rfl) (fun k X E ET hRt hXt q => ?_)
  show WS k 0 [(0, .ref (A 67)), (1, .int (Int32.ofInt x))] [] _ 0 0
  have F : Fm [] [67, 20, 76, 87, 96, 105, 114, 123, 132, 141, 150] s s := fm_rf _ _ s
  refine z_aload_n X (x := A 67) rfl (List.Mem.head _) (s_getR X 67 rfl (c518_ok rfl) rfl rfl (z_load_n X (x := x) rfl (List.Mem.tail _ (List.Mem.head _)) (z_ald X 89 rfl (c518_ok rfl) rfl (by first | exact p0.1 | omega) (show x < 256 by first | exact oq_29e5dbe2 p0.2 | omega) (cbig_ok rfl) ?_)))
  have b1 := bc_76 I (show (x).toNat < 256 by first | exact oq_c39a26fc p0.2 | omega)
  refine z_if_ne X (t := 28) rfl rfl (rng_to _) (fun g2 => ?_) (fun g2 => ?_)
  ·
    refine z_aload_n X (x := A 67) rfl (List.Mem.head _) (s_getR X 67 rfl (c518_ok rfl) rfl rfl (z_load_n X (x := x) rfl (List.Mem.tail _ (List.Mem.head _)) (z_ald X 89 rfl (c518_ok rfl) rfl (by first | exact p0.1 | omega) (show x < 256 by first | exact oq_29e5dbe2 p0.2 | omega) (cbig_ok rfl) ?_)))
    have b3 := bc_76 I (show (x).toNat < 256 by first | exact oq_c39a26fc p0.2 | omega)
    refine z_const X rfl ?_
    have N4 : ∀ e5 : Int, ((((iC s 76 (x).toNat) ≠ 1) ∧ e5 = 0) ∨ (((iC s 76 (x).toNat) = 1) ∧ e5 = 1)) → WS k 43 [(0, .ref (A 67)), (1, .int (Int32.ofInt x))] [.int (Int32.ofInt e5)] (Wd A dT s) 0 0 := by
      intro e5 he5
      have re5 : 0 ≤ e5 ∧ e5 ≤ 1 := by first | (clear he5 g2; omega) | (clear g2; omega) | omega
      exact w_iret X.1 q hRt (nar_ret (by first | exact oq_ca60608d re5.2 re5.1 he5 | omega)) (ax_d X (show cdA 97 43 = some (.ireturn, 1, 0, 0, 0) from rfl)) (Nat.zero_le _) (Nat.zero_le _) ⟨_, rfl, I, F, e5, rfl, ⟨by first | exact oq_fa4e5087 re5.1 | omega, by first | exact oq_22e1e6b0 re5.2 | omega⟩, by first | exact oq_ca60608d re5.2 re5.1 he5 | omega⟩
    refine z_icmp_ne X (t := 42) rfl rfl (rng_to _) (by decide) (fun g6 => ?_) (fun g6 => ?_)
    ·
      exact z_const X rfl (N4 _ (Or.inl ⟨g6, rfl⟩))
    ·
      exact z_const X rfl (z_goto X (t := 43) rfl rfl (N4 _ (Or.inr (⟨g6, rfl⟩))))
  ·
    refine z_aload_n X (x := A 67) rfl (List.Mem.head _) (s_getR X 67 rfl (c518_ok rfl) rfl rfl (z_load_n X (x := x) rfl (List.Mem.tail _ (List.Mem.head _)) (z_aload_n X (x := A 67) rfl (List.Mem.head _) (z_load_n X (x := x) rfl (List.Mem.tail _ (List.Mem.head _)) (zcV_i0 X E 67 (As := [.int (Int32.ofInt x)]) (st := [.int (Int32.ofInt x), .ref (A 89)]) rfl rfl rfl rfl (c8_anyFull_67 G I (by first | exact ⟨p0.1, p0.2⟩ | omega) (by first | exact p1 | omega)) rfl (Nat.le_of_ble_eq_true rfl) (fun s7 e8 Is7 Fs7 hrs7 hps7 => ?_))))))
    have Gs7 := fm_tq F Fs7 rfl rfl
    have N9 : ∀ e10 : Int, (((e8 = 0) ∧ e10 = 1) ∨ ((e8 ≠ 0) ∧ e10 = 2)) → WS k 27 [(0, .ref (A 67)), (1, .int (Int32.ofInt x))] [.int (Int32.ofInt e10), .int (Int32.ofInt x), .ref (A 89)] (Wd A dT s7) 0 0 := by
      intro e10 he10
      have re10 : 1 ≤ e10 ∧ e10 ≤ 2 := by first | (clear he10 hps7; omega) | (clear hps7; omega) | omega
      refine z_ast X 89 rfl (c518_ok rfl) rfl (by first | exact p0.1 | omega) (show x < 256 by first | exact oq_29e5dbe2 p0.2 | omega) (cbig_ok rfl) (wd_gen (fun s11 hs11 => ?_))
      have Is11 : Bd s11 := eqB hs11 (bd_C Is7 (show ((-2147483648) : Int) ≤ e10 ∧ e10 ≤ 2147483647 by first | exact ⟨oq_9462313e re10.1, oq_861e1648 re10.2⟩ | omega) ⟨by first | exact oq_9462313e re10.1 | omega, by first | exact oq_861e1648 re10.2 | omega⟩)
      have Fs11 := eqF hs11 (fm_C Gs7 (inl_ok (a := 76) rfl))
      refine z_aload_n X (x := A 67) rfl (List.Mem.head _) (s_getR X 67 rfl (c518_ok rfl) rfl rfl (z_load_n X (x := x) rfl (List.Mem.tail _ (List.Mem.head _)) (z_ald X 89 rfl (c518_ok rfl) rfl (by first | exact p0.1 | omega) (show x < 256 by first | exact oq_29e5dbe2 p0.2 | omega) (cbig_ok rfl) ?_)))
      have b12 := bc_76 Is11 (show (x).toNat < 256 by first | exact oq_c39a26fc p0.2 | omega)
      refine z_const X rfl ?_
      have N13 : ∀ e14 : Int, ((((iC s11 76 (x).toNat) ≠ 1) ∧ e14 = 0) ∨ (((iC s11 76 (x).toNat) = 1) ∧ e14 = 1)) → WS k 43 [(0, .ref (A 67)), (1, .int (Int32.ofInt x))] [.int (Int32.ofInt e14)] (Wd A dT s11) 0 0 := by
        intro e14 he14
        have re14 : 0 ≤ e14 ∧ e14 ≤ 1 := by first | (clear he14 he10 hps7; omega) | (clear he10 hps7; omega) | omega
        exact w_iret X.1 q hRt (nar_ret (by first | exact oq_ca60608d re14.2 re14.1 he14 | omega)) (ax_d X (show cdA 97 43 = some (.ireturn, 1, 0, 0, 0) from rfl)) (Nat.zero_le _) (Nat.zero_le _) ⟨_, rfl, Is11, Fs11, e14, rfl, ⟨by first | exact oq_fa4e5087 re14.1 | omega, by first | exact oq_22e1e6b0 re14.2 | omega⟩, by first | exact oq_ca60608d re14.2 re14.1 he14 | omega⟩
      refine z_icmp_ne X (t := 42) rfl rfl (rng_to _) (by decide) (fun g15 => ?_) (fun g15 => ?_)
      ·
        exact z_const X rfl (N13 _ (Or.inl ⟨g15, rfl⟩))
      ·
        exact z_const X rfl (z_goto X (t := 43) rfl rfl (N13 _ (Or.inr (⟨g15, rfl⟩))))
    refine z_if_eq X (t := 26) rfl rfl hrs7 (fun g16 => ?_) (fun g16 => ?_)
    ·
      exact z_const X rfl (N9 _ (Or.inl ⟨g16, rfl⟩))
    ·
      exact z_const X rfl (z_goto X (t := 27) rfl rfl (N9 _ (Or.inr (⟨g16, rfl⟩))))
set_option maxRecDepth 4000 in
theorem c8_try0 (G : GX l s0 D tys a0 dT) (I : Bd s) {x y z w v : Int} (p0 : 0 ≤ x ∧ x ≤ iI s 41) (p1 : iI s 41 - x ≤ ((0 : Nat) : Int)) (p2 : iI s 41 ≤ 8) (p3 : rng y) (p4 : rng z) (p5 : rng w) (p6 : 0 ≤ v ∧ v ≤ 255) : CT l s0 D A dT 96 (rkR (30 + (0))) [.ref (A 67), .int (Int32.ofInt x), .int (Int32.ofInt y), .int (Int32.ofInt z), .int (Int32.ofInt w), .int (Int32.ofInt v)] s (fun o t => Bd t ∧ Fm [42] [67, 20, 76, 74, 75, 87, 96, 105, 114, 123, 132, 141, 150] s t ∧ o = .inl none ∧ (True)) := by
  refine ct_ofX G (by decide) (Nat.le_of_ble_eq_true rfl) (fun k X E ET hRt hXt q => ?_)
  show WS k 0 [(0, .ref (A 67)), (1, .int (Int32.ofInt x)), (2, .int (Int32.ofInt y)), (3, .int (Int32.ofInt z)), (4, .int (Int32.ofInt w)), (5, .int (Int32.ofInt v))] [] _ 0 0
  have F : Fm [42] [67, 20, 76, 74, 75, 87, 96, 105, 114, 123, 132, 141, 150] s s := fm_rf _ _ s
  have b1 := bi_41 I
  refine z_load_n X (x := y) rfl (List.Mem.tail _ (List.Mem.tail _ (List.Mem.head _))) (z_aload_n X (x := A 67) rfl (List.Mem.head _) (z_getI X 67 rfl (c518_ok rfl) rfl rfl ?_))
  have b2 := bi_42 I
  refine z_icmp_lt X (t := 9) rfl rfl ⟨by first | exact p3.1 | omega, by first | exact p3.2 | omega⟩ (rng_to _) (fun g3 => ?_) (fun g3 => ?_)
  ·
    refine z_load_n X (x := x) rfl (List.Mem.tail _ (List.Mem.head _)) (z_aload_n X (x := A 67) rfl (List.Mem.head _) (z_getI X 67 rfl (c518_ok rfl) rfl rfl ?_))
    have b4 := bi_41 I
    refine z_icmp_lt X (t := 49) rfl rfl ⟨by first | exact oq_fa4e5087 p0.1 | omega, by first | exact oq_39d2cc6e p0.2 b4.2 | omega⟩ (rng_to _) (fun g5 => ?_) (fun g5 => ?_)
    ·
      exfalso
      omega
    ·
      refine z_aload_n X (x := A 67) rfl (List.Mem.head _) (z_load X (x := v) rfl (List.Mem.tail _ (List.Mem.tail _ (List.Mem.tail _ (List.Mem.tail _ (List.Mem.tail _ (List.Mem.head _)))))) (z_callV X 67 (rm := rmN 97) (As := [.int (Int32.ofInt v)]) (st := []) rfl rfl (by decide) rfl (by rw [E.1, E.2.1, E.2.2.1]; exact c8_fits_67 G I (by first | exact ⟨p6.1, p6.2⟩ | omega) (by first | exact p2 | omega)) ⟨by rw [E.2.2.2]; exact (show 10 + 1 ≤ (12 + (30 + (0))) from oq_c3e2e0a8), by rw [E.2.2.2]; exact (show 8 + (2 + 11) + 195 ≤ (500 + 45 * (30 + (0))) from oq_a90377cd), by rw [E.2.2.2]; exact Nat.le_refl 0, by rw [E.2.2.2]; exact Nat.le_refl 0⟩ (Nat.le_of_ble_eq_true rfl) (fun vv s6 hq => ?_) (fun ee s6 hq => ?_)))
      rotate_left
      · obtain ⟨Is6, Fs6, e7, hv, hrs6, hps6⟩ := hq; cases hv
      obtain ⟨Is6, Fs6, e7, hv, hrs6, hps6⟩ := hq
      cases hv
      have Gs6 := fm_tq F Fs6 rfl rfl
      have ws6_41 : iI s6 41 = iI s 41 := fm_iq Fs6 rfl
      show WS k 23 [(0, .ref (A 67)), (1, .int (Int32.ofInt x)), (2, .int (Int32.ofInt y)), (3, .int (Int32.ofInt z)), (4, .int (Int32.ofInt w)), (5, .int (Int32.ofInt v))] [.int (Int32.ofInt e7)] (Wd A dT s6) 0 0
      refine z_if_eq X (t := 48) rfl rfl hrs6 (fun g8 => ?_) (fun g8 => ?_)
      ·
        exact w_vret X.1 q hRt (ax_d X (show cdA 96 48 = some (.return_, 1, 0, 0, 0) from rfl)) (Nat.zero_le _) (Nat.zero_le _) ⟨_, rfl, Is6, Gs6, rfl, trivial⟩
      ·
        refine z_aload_n X (x := A 67) rfl (List.Mem.head _) (z_load_n X (x := y) rfl (List.Mem.tail _ (List.Mem.tail _ (List.Mem.head _))) (s_putI X 67 rfl (c518_ok rfl) rfl rfl (by decide) rfl rfl rfl (wd_gen (fun s9 hs9 => ?_))))
        have Is9 : Bd s9 := eqB hs9 (bd_I Is6 (show ((-2147483648) : Int) ≤ y ∧ y ≤ 2147483647 by first | exact ⟨p3.1, p3.2⟩ | omega) ⟨by first | exact p3.1 | omega, by first | exact p3.2 | omega⟩)
        have Fs9 := eqF hs9 (fm_I Gs6 (inl_ok (a := 42) rfl))
        have vs9 : iI s9 42 = y := eqI hs9 (iI_u ⟨by first | exact p3.1 | omega, by first | exact p3.2 | omega⟩)
        have ws9_41 : iI s9 41 = iI s6 41 := eqI hs9 rfl
        refine z_aload_n X (x := A 67) rfl (List.Mem.head _) (s_getR X 67 rfl (c518_ok rfl) rfl rfl (z_const X rfl (z_aload_n X (x := A 67) rfl (List.Mem.head _) (s_getR X 67 rfl (c518_ok rfl) rfl rfl (z_const X rfl (z_aload_n X (x := A 67) rfl (List.Mem.head _) (z_getI X 67 rfl (c518_ok rfl) rfl rfl ?_)))))))
        have b10 := bi_41 Is9
        refine z_copy X Is9 87 88 (st := []) rfl (by decide) (by decide) rfl rfl (by first | (clear g8 hps6; omega) | (clear hps6; omega) | omega) (by first | (clear g8 hps6; omega) | (clear hps6; omega) | omega) (by first | (clear g8 hps6; omega) | (clear hps6; omega) | omega) (show 0 + (iI s9 41) ≤ ((8 : Nat) : Int) by first | (clear g8 hps6; omega) | (clear hps6; omega) | omega) (show 0 + (iI s9 41) ≤ ((8 : Nat) : Int) by first | (clear g8 hps6; omega) | (clear hps6; omega) | omega) (by decide) (by rw [E.2.2.2]; exact (show 1 ≤ (12 + (30 + (0))) by decide)) (by rw [E.2.2.2]; exact (show 0 + 40 ≤ (500 + 45 * (30 + (0))) by decide)) (fun s11 Is11 Fs11 => ?_)
        have Gs11 := fm_tq Fs9 Fs11 rfl rfl
        have ws11_41 : iI s11 41 = iI s9 41 := fm_iq Fs11 rfl
        exact w_vret X.1 q hRt (ax_d X (show cdA 96 48 = some (.return_, 1, 0, 0, 0) from rfl)) (Nat.zero_le _) (Nat.zero_le _) ⟨_, rfl, Is11, Gs11, rfl, trivial⟩
  ·
    exact w_vret X.1 q hRt (ax_d X (show cdA 96 8 = some (.return_, 1, 0, 0, 0) from rfl)) (Nat.zero_le _) (Nat.zero_le _) ⟨_, rfl, I, F, rfl, trivial⟩
set_option maxRecDepth 4000 in
theorem c8_tryS (G : GX l s0 D tys a0 dT) {r : Nat} (hR : ∀ {s : PS} {x y z w v : Int}, Bd s → (0 ≤ x ∧ x ≤ iI s 41) → (iI s 41 - x ≤ ((r : Nat) : Int)) → (iI s 41 ≤ 8) → (rng y) → (rng z) → (rng w) → (0 ≤ v ∧ v ≤ 255) → CT l s0 D A dT 96 (rkR (30 + (r))) [.ref (A 67), .int (Int32.ofInt x), .int (Int32.ofInt y), .int (Int32.ofInt z), .int (Int32.ofInt w), .int (Int32.ofInt v)] s (fun o t => Bd t ∧ Fm [42] [67, 20, 76, 74, 75, 87, 96, 105, 114, 123, 132, 141, 150] s t ∧ o = .inl none ∧ (True))) (I : Bd s) {x y z w v : Int} (p0 : 0 ≤ x ∧ x ≤ iI s 41) (p1 : iI s 41 - x ≤ ((r + 1 : Nat) : Int)) (p2 : iI s 41 ≤ 8) (p3 : rng y) (p4 : rng z) (p5 : rng w) (p6 : 0 ≤ v ∧ v ≤ 255) : CT l s0 D A dT 96 (rkR (30 + (r + 1))) [.ref (A 67), .int (Int32.ofInt x), .int (Int32.ofInt y), .int (Int32.ofInt z), .int (Int32.ofInt w), .int (Int32.ofInt v)] s (fun o t => Bd t ∧ Fm [42] [67, 20, 76, 74, 75, 87, 96, 105, 114, 123, 132, 141, 150] s t ∧ o = .inl none ∧ (True)) := by
  refine ct_ofX G (by decide) (Nat.le_of_ble_eq_true rfl) (fun k X E ET hRt hXt q => ?_)
  show WS k 0 [(0, .ref (A 67)), (1, .int (Int32.ofInt x)), (2, .int (Int32.ofInt y)), (3, .int (Int32.ofInt z)), (4, .int (Int32.ofInt w)), (5, .int (Int32.ofInt v))] [] _ 0 0
  have F : Fm [42] [67, 20, 76, 74, 75, 87, 96, 105, 114, 123, 132, 141, 150] s s := fm_rf _ _ s
  have b1 := bi_41 I
  refine z_load_n X (x := y) rfl (List.Mem.tail _ (List.Mem.tail _ (List.Mem.head _))) (z_aload_n X (x := A 67) rfl (List.Mem.head _) (z_getI X 67 rfl (c518_ok rfl) rfl rfl ?_))
  have b2 := bi_42 I
  refine z_icmp_lt X (t := 9) rfl rfl ⟨by first | exact p3.1 | omega, by first | exact p3.2 | omega⟩ (rng_to _) (fun g3 => ?_) (fun g3 => ?_)
  ·
    refine z_load_n X (x := x) rfl (List.Mem.tail _ (List.Mem.head _)) (z_aload_n X (x := A 67) rfl (List.Mem.head _) (z_getI X 67 rfl (c518_ok rfl) rfl rfl ?_))
    have b4 := bi_41 I
    refine z_icmp_lt X (t := 49) rfl rfl ⟨by first | exact oq_fa4e5087 p0.1 | omega, by first | exact oq_39d2cc6e p0.2 b4.2 | omega⟩ (rng_to _) (fun g5 => ?_) (fun g5 => ?_)
    ·
      refine z_aload_n X (x := A 67) rfl (List.Mem.head _) (s_getR X 67 rfl (c518_ok rfl) rfl rfl (s_getR X 3 rfl (c518_ok rfl) rfl rfl (z_aload_n X (x := A 67) rfl (List.Mem.head _) (z_getI X 67 rfl (c518_ok rfl) rfl rfl ?_))))
      have b6 := bi_39 I
      refine z_bipush X rfl (z_mul X rfl (z_aload_n X (x := A 67) rfl (List.Mem.head _) (s_getR X 67 rfl (c518_ok rfl) rfl rfl (z_load_n X (x := x) rfl (List.Mem.tail _ (List.Mem.head _)) (z_ald X 85 rfl (c518_ok rfl) rfl (by first | exact p0.1 | omega) (show x < 12 by first | exact oq_f36e82a8 g5 b4.2 | omega) (cbig_ok rfl) ?_)))))
      have b7 := bc_72 I (show (x).toNat < 12 by first | exact oq_2dac6850 g5 b4.2 | omega)
      refine z_add X rfl (z_ald X 14 rfl (c518_ok rfl) rfl (by first | exact oq_0f03f1de b6.1 b7.1 | omega) (show (((iI s 39) * 12) + (iC s 72 (x).toNat)) < 288 by first | exact oq_74a4833a b6.2 b7.2 | omega) (cbig_ok rfl) ?_)
      have b8 := bc_11 I (show ((((iI s 39) * 12) + (iC s 72 (x).toNat))).toNat < 288 by first | exact oq_5aa97b8f b6.2 b7.2 | omega)
      refine z_store X (lv' := [(6, .int (Int32.ofInt (iC s 11 ((((iI s 39) * 12) + (iC s 72 (x).toNat))).toNat))), (0, .ref (A 67)), (1, .int (Int32.ofInt x)), (2, .int (Int32.ofInt y)), (3, .int (Int32.ofInt z)), (4, .int (Int32.ofInt w)), (5, .int (Int32.ofInt v))]) rfl (by decide) (fun _ h => h) (z_aload_n X (x := A 67) rfl (List.Mem.tail _ (List.Mem.head _)) (s_getR X 67 rfl (c518_ok rfl) rfl rfl (z_load_n X (x := x) rfl (List.Mem.tail _ (List.Mem.tail _ (List.Mem.head _))) (z_ald X 86 rfl (c518_ok rfl) rfl (by first | exact p0.1 | omega) (show x < 8 by first | exact oq_7f5b2e79 g5 p2 | omega) (cbig_ok rfl) ?_))))
      have b9 := bc_73 I (show (x).toNat < 8 by first | exact oq_67be0351 g5 p2 | omega)
      refine z_const X rfl (z_icmp_eq X (t := 114) rfl rfl (rng_to _) (by decide) (fun g10 => ?_) (fun g10 => ?_))
      ·
        refine z_load_n X (x := z) rfl (List.Mem.tail _ (List.Mem.tail _ (List.Mem.tail _ (List.Mem.tail _ (List.Mem.head _))))) (z_if_le X (t := 146) rfl rfl ⟨by first | exact p4.1 | omega, by first | exact p4.2 | omega⟩ (fun g11 => ?_) (fun g11 => ?_))
        ·
          refine z_load X (x := w) rfl (List.Mem.tail _ (List.Mem.tail _ (List.Mem.tail _ (List.Mem.tail _ (List.Mem.tail _ (List.Mem.head _)))))) (z_if_le X (t := 179) rfl rfl ⟨by first | exact p5.1 | omega, by first | exact p5.2 | omega⟩ (fun g12 => ?_) (fun g12 => ?_))
          ·
            exact w_vret X.1 q hRt (ax_d X (show cdA 96 179 = some (.return_, 1, 0, 0, 0) from rfl)) (Nat.zero_le _) (Nat.zero_le _) ⟨_, rfl, I, F, rfl, trivial⟩
          ·
            refine z_aload_n X (x := A 67) rfl (List.Mem.tail _ (List.Mem.head _)) (s_getR X 67 rfl (c518_ok rfl) rfl rfl (z_load_n X (x := x) rfl (List.Mem.tail _ (List.Mem.tail _ (List.Mem.head _))) (z_const X rfl (z_ast X 87 rfl (c518_ok rfl) rfl (by first | exact p0.1 | omega) (show x < 8 by first | exact oq_7f5b2e79 g5 p2 | omega) (cbig_ok rfl) (wd_gen (fun s13 hs13 => ?_))))))
            have Is13 : Bd s13 := eqB hs13 (bd_C I (show ((-2147483648) : Int) ≤ 3 ∧ 3 ≤ 2147483647 by first | exact ⟨by decide, by decide⟩ | omega) (by decide))
            have Fs13 := eqF hs13 (fm_C F (inl_ok (a := 74) rfl))
            have ws13_41 : iI s13 41 = iI s 41 := eqI hs13 rfl
            refine z_aload_n X (x := A 67) rfl (List.Mem.tail _ (List.Mem.head _)) (z_load_n X (x := x) rfl (List.Mem.tail _ (List.Mem.tail _ (List.Mem.head _))) (z_const X rfl (z_add X rfl (z_load_n X (x := y) rfl (List.Mem.tail _ (List.Mem.tail _ (List.Mem.tail _ (List.Mem.head _)))) (z_bipush X rfl (z_load X (x := (iC s 11 ((((iI s 39) * 12) + (iC s 72 (x).toNat))).toNat)) rfl (List.Mem.head _) (z_mul X rfl (z_add X rfl (z_any (fun y14 hy14 => ?_))))))))))
            refine z_load_n X (x := z) rfl (List.Mem.tail _ (List.Mem.tail _ (List.Mem.tail _ (List.Mem.tail _ (List.Mem.head _))))) (z_load X (x := w) rfl (List.Mem.tail _ (List.Mem.tail _ (List.Mem.tail _ (List.Mem.tail _ (List.Mem.tail _ (List.Mem.head _)))))) (z_const X rfl (z_sub X rfl (z_load X (x := v) rfl (List.Mem.tail _ (List.Mem.tail _ (List.Mem.tail _ (List.Mem.tail _ (List.Mem.tail _ (List.Mem.tail _ (List.Mem.head _))))))) (z_callV X 67 (rm := (rkR (30 + (r)))) (As := [.int (Int32.ofInt (x + 1)), .int (Int32.ofInt y14), .int (Int32.ofInt z), .int (Int32.ofInt (w - 1)), .int (Int32.ofInt v)]) (st := []) rfl rfl (by decide) rfl (by rw [E.1, E.2.1, E.2.2.1]; exact hR Is13 (by first | exact ⟨p0.1, oq_bdc35239 ws13_41 g5⟩ | omega) (by omega) (by first | exact oq_86ef0b17 ws13_41 p2 | omega) (by first | exact ⟨p3.1, p3.2⟩ | omega) (by first | exact ⟨p4.1, p4.2⟩ | omega) (by first | exact ⟨p5.1, p5.2⟩ | omega) (by first | exact ⟨p6.1, p6.2⟩ | omega)) ⟨by rw [E.2.2.2]; exact (show (12 + (30 + (r))) + 1 ≤ (12 + (30 + (r + 1))) from oq_bb14859f r), by rw [E.2.2.2]; exact (show 8 + (7 + 11) + (500 + 45 * (30 + (r))) ≤ (500 + 45 * (30 + (r + 1))) from oq_0bdccef0 r), by rw [E.2.2.2]; exact Nat.le_refl 0, by rw [E.2.2.2]; exact Nat.le_refl 0⟩ (Nat.le_of_ble_eq_true rfl) (fun vv s15 hq => ?_) (fun ee s15 hq => ?_))))))
            rotate_left
            · obtain ⟨Is15, Fs15, hv, hps15⟩ := hq; cases hv
            obtain ⟨Is15, Fs15, hv, hps15⟩ := hq
            cases hv
            have Gs15 := fm_tq Fs13 Fs15 rfl rfl
            have ws15_41 : iI s15 41 = iI s13 41 := fm_iq Fs15 rfl
            show WS k 179 [(6, .int (Int32.ofInt (iC s 11 ((((iI s 39) * 12) + (iC s 72 (x).toNat))).toNat))), (0, .ref (A 67)), (1, .int (Int32.ofInt x)), (2, .int (Int32.ofInt y)), (3, .int (Int32.ofInt z)), (4, .int (Int32.ofInt w)), (5, .int (Int32.ofInt v))] [] (Wd A dT s15) 0 0
            exact w_vret X.1 q hRt (ax_d X (show cdA 96 179 = some (.return_, 1, 0, 0, 0) from rfl)) (Nat.zero_le _) (Nat.zero_le _) ⟨_, rfl, Is15, Gs15, rfl, trivial⟩
        ·
          refine z_aload_n X (x := A 67) rfl (List.Mem.tail _ (List.Mem.head _)) (s_getR X 67 rfl (c518_ok rfl) rfl rfl (z_load_n X (x := x) rfl (List.Mem.tail _ (List.Mem.tail _ (List.Mem.head _))) (z_const X rfl (z_ast X 87 rfl (c518_ok rfl) rfl (by first | exact p0.1 | omega) (show x < 8 by first | exact oq_7f5b2e79 g5 p2 | omega) (cbig_ok rfl) (wd_gen (fun s17 hs17 => ?_))))))
          have Is17 : Bd s17 := eqB hs17 (bd_C I (show ((-2147483648) : Int) ≤ 2 ∧ 2 ≤ 2147483647 by first | exact ⟨by decide, by decide⟩ | omega) (by decide))
          have Fs17 := eqF hs17 (fm_C F (inl_ok (a := 74) rfl))
          have ws17_41 : iI s17 41 = iI s 41 := eqI hs17 rfl
          refine z_aload_n X (x := A 67) rfl (List.Mem.tail _ (List.Mem.head _)) (z_load_n X (x := x) rfl (List.Mem.tail _ (List.Mem.tail _ (List.Mem.head _))) (z_const X rfl (z_add X rfl (z_load_n X (x := y) rfl (List.Mem.tail _ (List.Mem.tail _ (List.Mem.tail _ (List.Mem.head _)))) (z_bipush X rfl (z_load X (x := (iC s 11 ((((iI s 39) * 12) + (iC s 72 (x).toNat))).toNat)) rfl (List.Mem.head _) (z_mul X rfl (z_add X rfl (z_any (fun y18 hy18 => ?_))))))))))
          refine z_load_n X (x := z) rfl (List.Mem.tail _ (List.Mem.tail _ (List.Mem.tail _ (List.Mem.tail _ (List.Mem.head _))))) (z_const X rfl (z_sub X rfl (z_load X (x := w) rfl (List.Mem.tail _ (List.Mem.tail _ (List.Mem.tail _ (List.Mem.tail _ (List.Mem.tail _ (List.Mem.head _)))))) (z_load X (x := v) rfl (List.Mem.tail _ (List.Mem.tail _ (List.Mem.tail _ (List.Mem.tail _ (List.Mem.tail _ (List.Mem.tail _ (List.Mem.head _))))))) (z_callV X 67 (rm := (rkR (30 + (r)))) (As := [.int (Int32.ofInt (x + 1)), .int (Int32.ofInt y18), .int (Int32.ofInt (z - 1)), .int (Int32.ofInt w), .int (Int32.ofInt v)]) (st := []) rfl rfl (by decide) rfl (by rw [E.1, E.2.1, E.2.2.1]; exact hR Is17 (by first | exact ⟨p0.1, oq_bdc35239 ws17_41 g5⟩ | omega) (by omega) (by first | exact oq_86ef0b17 ws17_41 p2 | omega) (by first | exact ⟨p3.1, p3.2⟩ | omega) (by first | exact ⟨p4.1, p4.2⟩ | omega) (by first | exact ⟨p5.1, p5.2⟩ | omega) (by first | exact ⟨p6.1, p6.2⟩ | omega)) ⟨by rw [E.2.2.2]; exact (show (12 + (30 + (r))) + 1 ≤ (12 + (30 + (r + 1))) from oq_bb14859f r), by rw [E.2.2.2]; exact (show 8 + (7 + 11) + (500 + 45 * (30 + (r))) ≤ (500 + 45 * (30 + (r + 1))) from oq_0bdccef0 r), by rw [E.2.2.2]; exact Nat.le_refl 0, by rw [E.2.2.2]; exact Nat.le_refl 0⟩ (Nat.le_of_ble_eq_true rfl) (fun vv s19 hq => ?_) (fun ee s19 hq => ?_))))))
          rotate_left
          · obtain ⟨Is19, Fs19, hv, hps19⟩ := hq; cases hv
          obtain ⟨Is19, Fs19, hv, hps19⟩ := hq
          cases hv
          have Gs19 := fm_tq Fs17 Fs19 rfl rfl
          have ws19_41 : iI s19 41 = iI s17 41 := fm_iq Fs19 rfl
          show WS k 146 [(6, .int (Int32.ofInt (iC s 11 ((((iI s 39) * 12) + (iC s 72 (x).toNat))).toNat))), (0, .ref (A 67)), (1, .int (Int32.ofInt x)), (2, .int (Int32.ofInt y)), (3, .int (Int32.ofInt z)), (4, .int (Int32.ofInt w)), (5, .int (Int32.ofInt v))] [] (Wd A dT s19) 0 0
          refine z_load X (x := w) rfl (List.Mem.tail _ (List.Mem.tail _ (List.Mem.tail _ (List.Mem.tail _ (List.Mem.tail _ (List.Mem.head _)))))) (z_if_le X (t := 179) rfl rfl ⟨by first | exact p5.1 | omega, by first | exact p5.2 | omega⟩ (fun g21 => ?_) (fun g21 => ?_))
          ·
            exact w_vret X.1 q hRt (ax_d X (show cdA 96 179 = some (.return_, 1, 0, 0, 0) from rfl)) (Nat.zero_le _) (Nat.zero_le _) ⟨_, rfl, Is19, Gs19, rfl, trivial⟩
          ·
            refine z_aload_n X (x := A 67) rfl (List.Mem.tail _ (List.Mem.head _)) (s_getR X 67 rfl (c518_ok rfl) rfl rfl (z_load_n X (x := x) rfl (List.Mem.tail _ (List.Mem.tail _ (List.Mem.head _))) (z_const X rfl (z_ast X 87 rfl (c518_ok rfl) rfl (by first | exact p0.1 | omega) (show x < 8 by first | exact oq_7f5b2e79 g5 p2 | omega) (cbig_ok rfl) (wd_gen (fun s22 hs22 => ?_))))))
            have Is22 : Bd s22 := eqB hs22 (bd_C Is19 (show ((-2147483648) : Int) ≤ 3 ∧ 3 ≤ 2147483647 by first | exact ⟨by decide, by decide⟩ | omega) (by decide))
            have Fs22 := eqF hs22 (fm_C Gs19 (inl_ok (a := 74) rfl))
            have ws22_41 : iI s22 41 = iI s19 41 := eqI hs22 rfl
            refine z_aload_n X (x := A 67) rfl (List.Mem.tail _ (List.Mem.head _)) (z_load_n X (x := x) rfl (List.Mem.tail _ (List.Mem.tail _ (List.Mem.head _))) (z_const X rfl (z_add X rfl (z_load_n X (x := y) rfl (List.Mem.tail _ (List.Mem.tail _ (List.Mem.tail _ (List.Mem.head _)))) (z_bipush X rfl (z_load X (x := (iC s 11 ((((iI s 39) * 12) + (iC s 72 (x).toNat))).toNat)) rfl (List.Mem.head _) (z_mul X rfl (z_add X rfl (z_any (fun y23 hy23 => ?_))))))))))
            refine z_load_n X (x := z) rfl (List.Mem.tail _ (List.Mem.tail _ (List.Mem.tail _ (List.Mem.tail _ (List.Mem.head _))))) (z_load X (x := w) rfl (List.Mem.tail _ (List.Mem.tail _ (List.Mem.tail _ (List.Mem.tail _ (List.Mem.tail _ (List.Mem.head _)))))) (z_const X rfl (z_sub X rfl (z_load X (x := v) rfl (List.Mem.tail _ (List.Mem.tail _ (List.Mem.tail _ (List.Mem.tail _ (List.Mem.tail _ (List.Mem.tail _ (List.Mem.head _))))))) (z_callV X 67 (rm := (rkR (30 + (r)))) (As := [.int (Int32.ofInt (x + 1)), .int (Int32.ofInt y23), .int (Int32.ofInt z), .int (Int32.ofInt (w - 1)), .int (Int32.ofInt v)]) (st := []) rfl rfl (by decide) rfl (by rw [E.1, E.2.1, E.2.2.1]; exact hR Is22 (by first | exact ⟨p0.1, oq_f4b75477 ws22_41 g5 ws19_41 ws17_41⟩ | omega) (by omega) (by first | exact oq_e14d47df ws22_41 ws19_41 ws17_41 p2 | omega) (by first | exact ⟨p3.1, p3.2⟩ | omega) (by first | exact ⟨p4.1, p4.2⟩ | omega) (by first | exact ⟨p5.1, p5.2⟩ | omega) (by first | exact ⟨p6.1, p6.2⟩ | omega)) ⟨by rw [E.2.2.2]; exact (show (12 + (30 + (r))) + 1 ≤ (12 + (30 + (r + 1))) from oq_bb14859f r), by rw [E.2.2.2]; exact (show 8 + (7 + 11) + (500 + 45 * (30 + (r))) ≤ (500 + 45 * (30 + (r + 1))) from oq_0bdccef0 r), by rw [E.2.2.2]; exact Nat.le_refl 0, by rw [E.2.2.2]; exact Nat.le_refl 0⟩ (Nat.le_of_ble_eq_true rfl) (fun vv s24 hq => ?_) (fun ee s24 hq => ?_))))))
            rotate_left
            · obtain ⟨Is24, Fs24, hv, hps24⟩ := hq; cases hv
            obtain ⟨Is24, Fs24, hv, hps24⟩ := hq
            cases hv
            have Gs24 := fm_tq Fs22 Fs24 rfl rfl
            have ws24_41 : iI s24 41 = iI s22 41 := fm_iq Fs24 rfl
            show WS k 179 [(6, .int (Int32.ofInt (iC s 11 ((((iI s 39) * 12) + (iC s 72 (x).toNat))).toNat))), (0, .ref (A 67)), (1, .int (Int32.ofInt x)), (2, .int (Int32.ofInt y)), (3, .int (Int32.ofInt z)), (4, .int (Int32.ofInt w)), (5, .int (Int32.ofInt v))] [] (Wd A dT s24) 0 0
            exact w_vret X.1 q hRt (ax_d X (show cdA 96 179 = some (.return_, 1, 0, 0, 0) from rfl)) (Nat.zero_le _) (Nat.zero_le _) ⟨_, rfl, Is24, Gs24, rfl, trivial⟩
      ·
        refine z_aload_n X (x := A 67) rfl (List.Mem.tail _ (List.Mem.head _)) (s_getR X 67 rfl (c518_ok rfl) rfl rfl (z_load_n X (x := x) rfl (List.Mem.tail _ (List.Mem.tail _ (List.Mem.head _))) (z_const X rfl (z_ast X 87 rfl (c518_ok rfl) rfl (by first | exact p0.1 | omega) (show x < 8 by first | exact oq_7f5b2e79 g5 p2 | omega) (cbig_ok rfl) (wd_gen (fun s26 hs26 => ?_))))))
        have Is26 : Bd s26 := eqB hs26 (bd_C I (show ((-2147483648) : Int) ≤ 1 ∧ 1 ≤ 2147483647 by first | exact ⟨by decide, by decide⟩ | omega) (by decide))
        have Fs26 := eqF hs26 (fm_C F (inl_ok (a := 74) rfl))
        have ws26_41 : iI s26 41 = iI s 41 := eqI hs26 rfl
        refine z_aload_n X (x := A 67) rfl (List.Mem.tail _ (List.Mem.head _)) (z_load_n X (x := x) rfl (List.Mem.tail _ (List.Mem.tail _ (List.Mem.head _))) (z_const X rfl (z_add X rfl (z_load_n X (x := y) rfl (List.Mem.tail _ (List.Mem.tail _ (List.Mem.tail _ (List.Mem.head _)))) (z_aload_n X (x := A 67) rfl (List.Mem.tail _ (List.Mem.head _)) (s_getR X 67 rfl (c518_ok rfl) rfl rfl (z_load_n X (x := x) rfl (List.Mem.tail _ (List.Mem.tail _ (List.Mem.head _))) (z_ald X 86 rfl (c518_ok rfl) rfl (by first | exact p0.1 | omega) (show x < 8 by first | exact oq_7f5b2e79 g5 p2 | omega) (cbig_ok rfl) ?_))))))))
        have b27 := bc_73 Is26 (show (x).toNat < 8 by first | exact oq_67be0351 g5 p2 | omega)
        refine z_add X rfl (z_any (fun y28 hy28 => ?_))
        refine z_load_n X (x := z) rfl (List.Mem.tail _ (List.Mem.tail _ (List.Mem.tail _ (List.Mem.tail _ (List.Mem.head _))))) (z_load X (x := w) rfl (List.Mem.tail _ (List.Mem.tail _ (List.Mem.tail _ (List.Mem.tail _ (List.Mem.tail _ (List.Mem.head _)))))) (z_load X (x := v) rfl (List.Mem.tail _ (List.Mem.tail _ (List.Mem.tail _ (List.Mem.tail _ (List.Mem.tail _ (List.Mem.tail _ (List.Mem.head _))))))) (z_const X rfl (z_load_n X (x := x) rfl (List.Mem.tail _ (List.Mem.tail _ (List.Mem.head _))) (z_shl1 X rfl (by first | exact ⟨p0.1, oq_e4d7f3c5 g5 b4.2⟩ | omega) (fun y29 hy29 iy29 jy29 ky29 => ?_))))))
        refine z_orb X rfl 8 (by decide) (show 0 ≤ v ∧ v < 2 ^ 8 by first | (clear g10; omega) | omega) (show 0 ≤ y29 ∧ y29 < 2 ^ 8 by first | (clear g10; omega) | omega) (fun y30 hy30 iy30 => ?_)
        have ib31 : y30 < 256 := iy30
        refine z_callV X 67 (rm := (rkR (30 + (r)))) (As := [.int (Int32.ofInt (x + 1)), .int (Int32.ofInt y28), .int (Int32.ofInt z), .int (Int32.ofInt w), .int (Int32.ofInt y30)]) (st := []) rfl rfl (by decide) rfl (by rw [E.1, E.2.1, E.2.2.1]; exact hR Is26 (by first | exact ⟨p0.1, oq_bdc35239 ws26_41 g5⟩ | omega) (by first | (clear g10; omega) | omega) (by first | exact oq_86ef0b17 ws26_41 p2 | omega) (by first | exact ⟨p3.1, p3.2⟩ | omega) (by first | exact ⟨p4.1, p4.2⟩ | omega) (by first | exact ⟨p5.1, p5.2⟩ | omega) (by first | exact ⟨p6.1, p6.2⟩ | omega)) ⟨by rw [E.2.2.2]; exact (show (12 + (30 + (r))) + 1 ≤ (12 + (30 + (r + 1))) from oq_bb14859f r), by rw [E.2.2.2]; exact (show 8 + (7 + 11) + (500 + 45 * (30 + (r))) ≤ (500 + 45 * (30 + (r + 1))) from oq_0bdccef0 r), by rw [E.2.2.2]; exact Nat.le_refl 0, by rw [E.2.2.2]; exact Nat.le_refl 0⟩ (Nat.le_of_ble_eq_true rfl) (fun vv s32 hq => ?_) (fun ee s32 hq => ?_)
        rotate_left
        · obtain ⟨Is32, Fs32, hv, hps32⟩ := hq; cases hv
        obtain ⟨Is32, Fs32, hv, hps32⟩ := hq
        cases hv
        have Gs32 := fm_tq Fs26 Fs32 rfl rfl
        have ws32_41 : iI s32 41 = iI s26 41 := fm_iq Fs32 rfl
        show WS k 114 [(6, .int (Int32.ofInt (iC s 11 ((((iI s 39) * 12) + (iC s 72 (x).toNat))).toNat))), (0, .ref (A 67)), (1, .int (Int32.ofInt x)), (2, .int (Int32.ofInt y)), (3, .int (Int32.ofInt z)), (4, .int (Int32.ofInt w)), (5, .int (Int32.ofInt v))] [] (Wd A dT s32) 0 0
        refine z_load_n X (x := z) rfl (List.Mem.tail _ (List.Mem.tail _ (List.Mem.tail _ (List.Mem.tail _ (List.Mem.head _))))) (z_if_le X (t := 146) rfl rfl ⟨by first | exact p4.1 | omega, by first | exact p4.2 | omega⟩ (fun g34 => ?_) (fun g34 => ?_))
        ·
          refine z_load X (x := w) rfl (List.Mem.tail _ (List.Mem.tail _ (List.Mem.tail _ (List.Mem.tail _ (List.Mem.tail _ (List.Mem.head _)))))) (z_if_le X (t := 179) rfl rfl ⟨by first | exact p5.1 | omega, by first | exact p5.2 | omega⟩ (fun g35 => ?_) (fun g35 => ?_))
          ·
            exact w_vret X.1 q hRt (ax_d X (show cdA 96 179 = some (.return_, 1, 0, 0, 0) from rfl)) (Nat.zero_le _) (Nat.zero_le _) ⟨_, rfl, Is32, Gs32, rfl, trivial⟩
          ·
            refine z_aload_n X (x := A 67) rfl (List.Mem.tail _ (List.Mem.head _)) (s_getR X 67 rfl (c518_ok rfl) rfl rfl (z_load_n X (x := x) rfl (List.Mem.tail _ (List.Mem.tail _ (List.Mem.head _))) (z_const X rfl (z_ast X 87 rfl (c518_ok rfl) rfl (by first | exact p0.1 | omega) (show x < 8 by first | exact oq_7f5b2e79 g5 p2 | omega) (cbig_ok rfl) (wd_gen (fun s36 hs36 => ?_))))))
            have Is36 : Bd s36 := eqB hs36 (bd_C Is32 (show ((-2147483648) : Int) ≤ 3 ∧ 3 ≤ 2147483647 by first | exact ⟨by decide, by decide⟩ | omega) (by decide))
            have Fs36 := eqF hs36 (fm_C Gs32 (inl_ok (a := 74) rfl))
            have ws36_41 : iI s36 41 = iI s32 41 := eqI hs36 rfl
            refine z_aload_n X (x := A 67) rfl (List.Mem.tail _ (List.Mem.head _)) (z_load_n X (x := x) rfl (List.Mem.tail _ (List.Mem.tail _ (List.Mem.head _))) (z_const X rfl (z_add X rfl (z_load_n X (x := y) rfl (List.Mem.tail _ (List.Mem.tail _ (List.Mem.tail _ (List.Mem.head _)))) (z_bipush X rfl (z_load X (x := (iC s 11 ((((iI s 39) * 12) + (iC s 72 (x).toNat))).toNat)) rfl (List.Mem.head _) (z_mul X rfl (z_add X rfl (z_any (fun y37 hy37 => ?_))))))))))
            refine z_load_n X (x := z) rfl (List.Mem.tail _ (List.Mem.tail _ (List.Mem.tail _ (List.Mem.tail _ (List.Mem.head _))))) (z_load X (x := w) rfl (List.Mem.tail _ (List.Mem.tail _ (List.Mem.tail _ (List.Mem.tail _ (List.Mem.tail _ (List.Mem.head _)))))) (z_const X rfl (z_sub X rfl (z_load X (x := v) rfl (List.Mem.tail _ (List.Mem.tail _ (List.Mem.tail _ (List.Mem.tail _ (List.Mem.tail _ (List.Mem.tail _ (List.Mem.head _))))))) (z_callV X 67 (rm := (rkR (30 + (r)))) (As := [.int (Int32.ofInt (x + 1)), .int (Int32.ofInt y37), .int (Int32.ofInt z), .int (Int32.ofInt (w - 1)), .int (Int32.ofInt v)]) (st := []) rfl rfl (by decide) rfl (by rw [E.1, E.2.1, E.2.2.1]; exact hR Is36 (by first | exact ⟨p0.1, oq_f4b75477 ws36_41 g5 ws32_41 ws26_41⟩ | omega) (by first | (clear g10; omega) | omega) (by first | exact oq_e14d47df ws36_41 ws32_41 ws26_41 p2 | omega) (by first | exact ⟨p3.1, p3.2⟩ | omega) (by first | exact ⟨p4.1, p4.2⟩ | omega) (by first | exact ⟨p5.1, p5.2⟩ | omega) (by first | exact ⟨p6.1, p6.2⟩ | omega)) ⟨by rw [E.2.2.2]; exact (show (12 + (30 + (r))) + 1 ≤ (12 + (30 + (r + 1))) from oq_bb14859f r), by rw [E.2.2.2]; exact (show 8 + (7 + 11) + (500 + 45 * (30 + (r))) ≤ (500 + 45 * (30 + (r + 1))) from oq_0bdccef0 r), by rw [E.2.2.2]; exact Nat.le_refl 0, by rw [E.2.2.2]; exact Nat.le_refl 0⟩ (Nat.le_of_ble_eq_true rfl) (fun vv s38 hq => ?_) (fun ee s38 hq => ?_))))))
            rotate_left
            · obtain ⟨Is38, Fs38, hv, hps38⟩ := hq; cases hv
            obtain ⟨Is38, Fs38, hv, hps38⟩ := hq
            cases hv
            have Gs38 := fm_tq Fs36 Fs38 rfl rfl
            have ws38_41 : iI s38 41 = iI s36 41 := fm_iq Fs38 rfl
            show WS k 179 [(6, .int (Int32.ofInt (iC s 11 ((((iI s 39) * 12) + (iC s 72 (x).toNat))).toNat))), (0, .ref (A 67)), (1, .int (Int32.ofInt x)), (2, .int (Int32.ofInt y)), (3, .int (Int32.ofInt z)), (4, .int (Int32.ofInt w)), (5, .int (Int32.ofInt v))] [] (Wd A dT s38) 0 0
            exact w_vret X.1 q hRt (ax_d X (show cdA 96 179 = some (.return_, 1, 0, 0, 0) from rfl)) (Nat.zero_le _) (Nat.zero_le _) ⟨_, rfl, Is38, Gs38, rfl, trivial⟩
        ·
          refine z_aload_n X (x := A 67) rfl (List.Mem.tail _ (List.Mem.head _)) (s_getR X 67 rfl (c518_ok rfl) rfl rfl (z_load_n X (x := x) rfl (List.Mem.tail _ (List.Mem.tail _ (List.Mem.head _))) (z_const X rfl (z_ast X 87 rfl (c518_ok rfl) rfl (by first | exact p0.1 | omega) (show x < 8 by first | exact oq_7f5b2e79 g5 p2 | omega) (cbig_ok rfl) (wd_gen (fun s40 hs40 => ?_))))))
          have Is40 : Bd s40 := eqB hs40 (bd_C Is32 (show ((-2147483648) : Int) ≤ 2 ∧ 2 ≤ 2147483647 by first | exact ⟨by decide, by decide⟩ | omega) (by decide))
          have Fs40 := eqF hs40 (fm_C Gs32 (inl_ok (a := 74) rfl))
          have ws40_41 : iI s40 41 = iI s32 41 := eqI hs40 rfl
          refine z_aload_n X (x := A 67) rfl (List.Mem.tail _ (List.Mem.head _)) (z_load_n X (x := x) rfl (List.Mem.tail _ (List.Mem.tail _ (List.Mem.head _))) (z_const X rfl (z_add X rfl (z_load_n X (x := y) rfl (List.Mem.tail _ (List.Mem.tail _ (List.Mem.tail _ (List.Mem.head _)))) (z_bipush X rfl (z_load X (x := (iC s 11 ((((iI s 39) * 12) + (iC s 72 (x).toNat))).toNat)) rfl (List.Mem.head _) (z_mul X rfl (z_add X rfl (z_any (fun y41 hy41 => ?_))))))))))
          refine z_load_n X (x := z) rfl (List.Mem.tail _ (List.Mem.tail _ (List.Mem.tail _ (List.Mem.tail _ (List.Mem.head _))))) (z_const X rfl (z_sub X rfl (z_load X (x := w) rfl (List.Mem.tail _ (List.Mem.tail _ (List.Mem.tail _ (List.Mem.tail _ (List.Mem.tail _ (List.Mem.head _)))))) (z_load X (x := v) rfl (List.Mem.tail _ (List.Mem.tail _ (List.Mem.tail _ (List.Mem.tail _ (List.Mem.tail _ (List.Mem.tail _ (List.Mem.head _))))))) (z_callV X 67 (rm := (rkR (30 + (r)))) (As := [.int (Int32.ofInt (x + 1)), .int (Int32.ofInt y41), .int (Int32.ofInt (z - 1)), .int (Int32.ofInt w), .int (Int32.ofInt v)]) (st := []) rfl rfl (by decide) rfl (by rw [E.1, E.2.1, E.2.2.1]; exact hR Is40 (by first | exact ⟨p0.1, oq_f4b75477 ws40_41 g5 ws32_41 ws26_41⟩ | omega) (by first | (clear g10; omega) | omega) (by first | exact oq_e14d47df ws40_41 ws32_41 ws26_41 p2 | omega) (by first | exact ⟨p3.1, p3.2⟩ | omega) (by first | exact ⟨p4.1, p4.2⟩ | omega) (by first | exact ⟨p5.1, p5.2⟩ | omega) (by first | exact ⟨p6.1, p6.2⟩ | omega)) ⟨by rw [E.2.2.2]; exact (show (12 + (30 + (r))) + 1 ≤ (12 + (30 + (r + 1))) from oq_bb14859f r), by rw [E.2.2.2]; exact (show 8 + (7 + 11) + (500 + 45 * (30 + (r))) ≤ (500 + 45 * (30 + (r + 1))) from oq_0bdccef0 r), by rw [E.2.2.2]; exact Nat.le_refl 0, by rw [E.2.2.2]; exact Nat.le_refl 0⟩ (Nat.le_of_ble_eq_true rfl) (fun vv s42 hq => ?_) (fun ee s42 hq => ?_))))))
          rotate_left
          · obtain ⟨Is42, Fs42, hv, hps42⟩ := hq; cases hv
          obtain ⟨Is42, Fs42, hv, hps42⟩ := hq
          cases hv
          have Gs42 := fm_tq Fs40 Fs42 rfl rfl
          have ws42_41 : iI s42 41 = iI s40 41 := fm_iq Fs42 rfl
          show WS k 146 [(6, .int (Int32.ofInt (iC s 11 ((((iI s 39) * 12) + (iC s 72 (x).toNat))).toNat))), (0, .ref (A 67)), (1, .int (Int32.ofInt x)), (2, .int (Int32.ofInt y)), (3, .int (Int32.ofInt z)), (4, .int (Int32.ofInt w)), (5, .int (Int32.ofInt v))] [] (Wd A dT s42) 0 0
          refine z_load X (x := w) rfl (List.Mem.tail _ (List.Mem.tail _ (List.Mem.tail _ (List.Mem.tail _ (List.Mem.tail _ (List.Mem.head _)))))) (z_if_le X (t := 179) rfl rfl ⟨by first | exact p5.1 | omega, by first | exact p5.2 | omega⟩ (fun g44 => ?_) (fun g44 => ?_))
          ·
            exact w_vret X.1 q hRt (ax_d X (show cdA 96 179 = some (.return_, 1, 0, 0, 0) from rfl)) (Nat.zero_le _) (Nat.zero_le _) ⟨_, rfl, Is42, Gs42, rfl, trivial⟩
          ·
            refine z_aload_n X (x := A 67) rfl (List.Mem.tail _ (List.Mem.head _)) (s_getR X 67 rfl (c518_ok rfl) rfl rfl (z_load_n X (x := x) rfl (List.Mem.tail _ (List.Mem.tail _ (List.Mem.head _))) (z_const X rfl (z_ast X 87 rfl (c518_ok rfl) rfl (by first | exact p0.1 | omega) (show x < 8 by first | exact oq_7f5b2e79 g5 p2 | omega) (cbig_ok rfl) (wd_gen (fun s45 hs45 => ?_))))))
            have Is45 : Bd s45 := eqB hs45 (bd_C Is42 (show ((-2147483648) : Int) ≤ 3 ∧ 3 ≤ 2147483647 by first | exact ⟨by decide, by decide⟩ | omega) (by decide))
            have Fs45 := eqF hs45 (fm_C Gs42 (inl_ok (a := 74) rfl))
            have ws45_41 : iI s45 41 = iI s42 41 := eqI hs45 rfl
            refine z_aload_n X (x := A 67) rfl (List.Mem.tail _ (List.Mem.head _)) (z_load_n X (x := x) rfl (List.Mem.tail _ (List.Mem.tail _ (List.Mem.head _))) (z_const X rfl (z_add X rfl (z_load_n X (x := y) rfl (List.Mem.tail _ (List.Mem.tail _ (List.Mem.tail _ (List.Mem.head _)))) (z_bipush X rfl (z_load X (x := (iC s 11 ((((iI s 39) * 12) + (iC s 72 (x).toNat))).toNat)) rfl (List.Mem.head _) (z_mul X rfl (z_add X rfl (z_any (fun y46 hy46 => ?_))))))))))
            refine z_load_n X (x := z) rfl (List.Mem.tail _ (List.Mem.tail _ (List.Mem.tail _ (List.Mem.tail _ (List.Mem.head _))))) (z_load X (x := w) rfl (List.Mem.tail _ (List.Mem.tail _ (List.Mem.tail _ (List.Mem.tail _ (List.Mem.tail _ (List.Mem.head _)))))) (z_const X rfl (z_sub X rfl (z_load X (x := v) rfl (List.Mem.tail _ (List.Mem.tail _ (List.Mem.tail _ (List.Mem.tail _ (List.Mem.tail _ (List.Mem.tail _ (List.Mem.head _))))))) (z_callV X 67 (rm := (rkR (30 + (r)))) (As := [.int (Int32.ofInt (x + 1)), .int (Int32.ofInt y46), .int (Int32.ofInt z), .int (Int32.ofInt (w - 1)), .int (Int32.ofInt v)]) (st := []) rfl rfl (by decide) rfl (by rw [E.1, E.2.1, E.2.2.1]; exact hR Is45 (by first | exact ⟨p0.1, oq_59c47c10 ws45_41 ws42_41 ws40_41 ws32_41 ws26_41 g5⟩ | omega) (by first | (clear g10; omega) | omega) (by first | exact oq_4e421259 ws45_41 ws42_41 ws40_41 ws32_41 ws26_41 p2 | omega) (by first | exact ⟨p3.1, p3.2⟩ | omega) (by first | exact ⟨p4.1, p4.2⟩ | omega) (by first | exact ⟨p5.1, p5.2⟩ | omega) (by first | exact ⟨p6.1, p6.2⟩ | omega)) ⟨by rw [E.2.2.2]; exact (show (12 + (30 + (r))) + 1 ≤ (12 + (30 + (r + 1))) from oq_bb14859f r), by rw [E.2.2.2]; exact (show 8 + (7 + 11) + (500 + 45 * (30 + (r))) ≤ (500 + 45 * (30 + (r + 1))) from oq_0bdccef0 r), by rw [E.2.2.2]; exact Nat.le_refl 0, by rw [E.2.2.2]; exact Nat.le_refl 0⟩ (Nat.le_of_ble_eq_true rfl) (fun vv s47 hq => ?_) (fun ee s47 hq => ?_))))))
            rotate_left
            · obtain ⟨Is47, Fs47, hv, hps47⟩ := hq; cases hv
            obtain ⟨Is47, Fs47, hv, hps47⟩ := hq
            cases hv
            have Gs47 := fm_tq Fs45 Fs47 rfl rfl
            have ws47_41 : iI s47 41 = iI s45 41 := fm_iq Fs47 rfl
            show WS k 179 [(6, .int (Int32.ofInt (iC s 11 ((((iI s 39) * 12) + (iC s 72 (x).toNat))).toNat))), (0, .ref (A 67)), (1, .int (Int32.ofInt x)), (2, .int (Int32.ofInt y)), (3, .int (Int32.ofInt z)), (4, .int (Int32.ofInt w)), (5, .int (Int32.ofInt v))] [] (Wd A dT s47) 0 0
            exact w_vret X.1 q hRt (ax_d X (show cdA 96 179 = some (.return_, 1, 0, 0, 0) from rfl)) (Nat.zero_le _) (Nat.zero_le _) ⟨_, rfl, Is47, Gs47, rfl, trivial⟩
    ·
      refine z_aload_n X (x := A 67) rfl (List.Mem.head _) (z_load X (x := v) rfl (List.Mem.tail _ (List.Mem.tail _ (List.Mem.tail _ (List.Mem.tail _ (List.Mem.tail _ (List.Mem.head _)))))) (z_callV X 67 (rm := rmN 97) (As := [.int (Int32.ofInt v)]) (st := []) rfl rfl (by decide) rfl (by rw [E.1, E.2.1, E.2.2.1]; exact c8_fits_67 G I (by first | exact ⟨p6.1, p6.2⟩ | omega) (by first | exact p2 | omega)) ⟨by rw [E.2.2.2]; exact (show 10 + 1 ≤ (12 + (30 + (r + 1))) from oq_70312ee3 r), by rw [E.2.2.2]; exact (show 8 + (2 + 11) + 195 ≤ (500 + 45 * (30 + (r + 1))) from oq_8f886a78 r), by rw [E.2.2.2]; exact Nat.le_refl 0, by rw [E.2.2.2]; exact Nat.le_refl 0⟩ (Nat.le_of_ble_eq_true rfl) (fun vv s49 hq => ?_) (fun ee s49 hq => ?_)))
      rotate_left
      · obtain ⟨Is49, Fs49, e50, hv, hrs49, hps49⟩ := hq; cases hv
      obtain ⟨Is49, Fs49, e50, hv, hrs49, hps49⟩ := hq
      cases hv
      have Gs49 := fm_tq F Fs49 rfl rfl
      have ws49_41 : iI s49 41 = iI s 41 := fm_iq Fs49 rfl
      show WS k 23 [(0, .ref (A 67)), (1, .int (Int32.ofInt x)), (2, .int (Int32.ofInt y)), (3, .int (Int32.ofInt z)), (4, .int (Int32.ofInt w)), (5, .int (Int32.ofInt v))] [.int (Int32.ofInt e50)] (Wd A dT s49) 0 0
      refine z_if_eq X (t := 48) rfl rfl hrs49 (fun g51 => ?_) (fun g51 => ?_)
      ·
        exact w_vret X.1 q hRt (ax_d X (show cdA 96 48 = some (.return_, 1, 0, 0, 0) from rfl)) (Nat.zero_le _) (Nat.zero_le _) ⟨_, rfl, Is49, Gs49, rfl, trivial⟩
      ·
        refine z_aload_n X (x := A 67) rfl (List.Mem.head _) (z_load_n X (x := y) rfl (List.Mem.tail _ (List.Mem.tail _ (List.Mem.head _))) (s_putI X 67 rfl (c518_ok rfl) rfl rfl (by decide) rfl rfl rfl (wd_gen (fun s52 hs52 => ?_))))
        have Is52 : Bd s52 := eqB hs52 (bd_I Is49 (show ((-2147483648) : Int) ≤ y ∧ y ≤ 2147483647 by first | exact ⟨p3.1, p3.2⟩ | omega) ⟨by first | exact p3.1 | omega, by first | exact p3.2 | omega⟩)
        have Fs52 := eqF hs52 (fm_I Gs49 (inl_ok (a := 42) rfl))
        have vs52 : iI s52 42 = y := eqI hs52 (iI_u ⟨by first | exact p3.1 | omega, by first | exact p3.2 | omega⟩)
        have ws52_41 : iI s52 41 = iI s49 41 := eqI hs52 rfl
        refine z_aload_n X (x := A 67) rfl (List.Mem.head _) (s_getR X 67 rfl (c518_ok rfl) rfl rfl (z_const X rfl (z_aload_n X (x := A 67) rfl (List.Mem.head _) (s_getR X 67 rfl (c518_ok rfl) rfl rfl (z_const X rfl (z_aload_n X (x := A 67) rfl (List.Mem.head _) (z_getI X 67 rfl (c518_ok rfl) rfl rfl ?_)))))))
        have b53 := bi_41 Is52
        refine z_copy X Is52 87 88 (st := []) rfl (by decide) (by decide) rfl rfl (by first | (clear g51 hps49; omega) | (clear hps49; omega) | omega) (by first | (clear g51 hps49; omega) | (clear hps49; omega) | omega) (by first | (clear g51 hps49; omega) | (clear hps49; omega) | omega) (show 0 + (iI s52 41) ≤ ((8 : Nat) : Int) by first | (clear g51 hps49; omega) | (clear hps49; omega) | omega) (show 0 + (iI s52 41) ≤ ((8 : Nat) : Int) by first | (clear g51 hps49; omega) | (clear hps49; omega) | omega) (by decide) (by rw [E.2.2.2]; exact (show 1 ≤ (12 + (30 + (r + 1))) by first | (clear g51 hps49; omega) | (clear hps49; omega) | omega)) (by rw [E.2.2.2]; exact (show 0 + 40 ≤ (500 + 45 * (30 + (r + 1))) by first | (clear g51 hps49; omega) | (clear hps49; omega) | omega)) (fun s54 Is54 Fs54 => ?_)
        have Gs54 := fm_tq Fs52 Fs54 rfl rfl
        have ws54_41 : iI s54 41 = iI s52 41 := fm_iq Fs54 rfl
        exact w_vret X.1 q hRt (ax_d X (show cdA 96 48 = some (.return_, 1, 0, 0, 0) from rfl)) (Nat.zero_le _) (Nat.zero_le _) ⟨_, rfl, Is54, Gs54, rfl, trivial⟩
  ·
    exact w_vret X.1 q hRt (ax_d X (show cdA 96 8 = some (.return_, 1, 0, 0, 0) from rfl)) (Nat.zero_le _) (Nat.zero_le _) ⟨_, rfl, I, F, rfl, trivial⟩
theorem c8_tryr (G : GX l s0 D tys a0 dT) (r : Nat) : ∀ {s : PS} {x y z w v : Int}, Bd s → (0 ≤ x ∧ x ≤ iI s 41) → (iI s 41 - x ≤ ((r : Nat) : Int)) → (iI s 41 ≤ 8) → (rng y) → (rng z) → (rng w) → (0 ≤ v ∧ v ≤ 255) → CT l s0 D A dT 96 (rkR (30 + (r))) [.ref (A 67), .int (Int32.ofInt x), .int (Int32.ofInt y), .int (Int32.ofInt z), .int (Int32.ofInt w), .int (Int32.ofInt v)] s (fun o t => Bd t ∧ Fm [42] [67, 20, 76, 74, 75, 87, 96, 105, 114, 123, 132, 141, 150] s t ∧ o = .inl none ∧ (True)) := by
  induction r with
  | zero => exact fun {_ _ _ _ _ _} I p0 p1 p2 p3 p4 p5 p6 => c8_try0 G I p0 p1 p2 p3 p4 p5 p6
  | succ r ih => exact fun {_ _ _ _ _ _} I p0 p1 p2 p3 p4 p5 p6 => c8_tryS G ih I p0 p1 p2 p3 p4 p5 p6
end M80
end
section
theorem oq_8ac469bd {a0 a1 a2 a3 : Int} (h0 : a0 = a1) (h1 : a1 ≤ a2) (h2 : a2 < a3) (h3 : a3 ≤ 12) : a0 < 12 := by omega
theorem oq_b50d5e62 {a0 a1 : Int} (h0 : a0 = (a1 + 1)) (h1 : 0 ≤ a1) : 0 ≤ a0 := by omega
theorem oq_0b35aa92 {a0 : Int} (h0 : a0 = 0) : 0 ≤ a0 := by omega
theorem oq_0544552b {a0 a1 : Int} (h0 : a0 = 0) (h1 : a1 = 0) : a1 ≤ a0 := by omega
/-! The class: what the storm hits -/
/-- how many of the lowest n bits of b stand -/
def bcn (b : Int) : Nat → Int
  | 0 => 0
  | n + 1 => bcn b n + b / 2 ^ n % 2
def bcN (m : Nat) : Nat := 0 + m / 1 % 2 + m / 2 % 2 + m / 4 % 2 + m / 8 % 2 + m / 16 % 2 + m / 32 % 2 + m / 64 % 2 + m / 128 % 2 + m / 256 % 2 + m / 512 % 2 + m / 1024 % 2 + m / 2048 % 2
def bcM (m : Nat) : Nat → Nat
  | 0 => 0
  | n + 1 => bcM m n + m / 2 ^ n % 2
theorem cast_bit (m n : Nat) : ((m / 2 ^ n % 2 : Nat) : Int) = (m : Int) / 2 ^ n % 2 := by
  first | norm_cast | simp | (push_cast; rfl)
theorem bcn_M {m : Nat} : ∀ n : Nat, bcn (m : Int) n = (bcM m n : Int)
  | 0 => rfl
  | n + 1 => by
    show bcn (m : Int) n + (m : Int) / 2 ^ n % 2 = ((bcM m n + m / 2 ^ n % 2 : Nat) : Int)
    rw [bcn_M n, ← cast_bit]
    exact (Int.natCast_add _ _).symm
theorem bcn_12 {m : Nat} : bcn (m : Int) 12 = (bcN m : Int) := bcn_M 12
theorem add4_ {A B C D x z w : Nat} (h : A ≤ B + x) (g : C ≤ D + z) (k : x + z ≤ w) : A + C ≤ B + D + w := by omega
theorem bit_or_ (m y i : Nat) : Nat.lor m (2 ^ y) / 2 ^ i % 2 ≤ m / 2 ^ i % 2 + (if y = i then 1 else 0) := by
  have e : Nat.lor m (2 ^ y) = m ||| 2 ^ y := rfl
  rw [e, ← Nat.toNat_testBit, ← Nat.toNat_testBit m i, Nat.testBit_or, Nat.testBit_two_pow]
  by_cases c : y = i
  · rw [if_pos c, decide_eq_true c]
    cases m.testBit i <;> decide
  · rw [if_neg c, decide_eq_false c, Bool.or_false]
    exact Nat.le_refl _
theorem bcM_or_ (m y : Nat) : ∀ n : Nat, bcM (Nat.lor m (2 ^ y)) n ≤ bcM m n + (if y < n then 1 else 0)
  | 0 => Nat.zero_le _
  | n + 1 => add4_ (bcM_or_ m y n) (bit_or_ m y n) (by
    by_cases c : y = n
    · rw [if_pos c, if_neg (by omega), if_pos (by omega)]
      decide
    · rw [if_neg c]
      by_cases d : y < n
      · rw [if_pos d, if_pos (by omega)]
        decide
      · rw [if_neg d, if_neg (by omega)]
        decide)
theorem bcN_or {m y : Nat} (hm : m < 4096) (hy : y < 12) : bcN (Nat.lor m (2 ^ y)) ≤ bcN m + 1 ∧ Nat.lor m (2 ^ y) < 4096 := by
  have h := bcM_or_ m y 12
  rw [if_pos hy] at h
  have hm' : m < 2 ^ 12 := hm
  have r : m ||| 2 ^ y < 2 ^ 12 := Nat.or_lt_two_pow hm' (Nat.pow_lt_pow_right (by decide) hy)
  exact ⟨h, r⟩
theorem bcn_mono {b : Int} {n m : Nat} (h : n ≤ m) : bcn b n ≤ bcn b m := by
  induction m with
  | zero => rw [Nat.le_zero.mp h]; exact Int.le_refl _
  | succ m ih =>
    by_cases e : n = m + 1
    · rw [e]; exact Int.le_refl _
    · have := ih (by omega)
      have h2 : 0 ≤ b / 2 ^ m % 2 := Int.emod_nonneg _ (by decide)
      show bcn b n ≤ bcn b m + b / 2 ^ m % 2
      omega
theorem shl_v {y : Int} (h : 0 ≤ y ∧ y ≤ 11) : Int32.ofInt 1 <<< (Int32.ofInt y &&& 31) = Int32.ofInt ((2 ^ y.toNat : Nat) : Int) := by
  have : y = 0 ∨ y = 1 ∨ y = 2 ∨ y = 3 ∨ y = 4 ∨ y = 5 ∨ y = 6 ∨ y = 7 ∨ y = 8 ∨ y = 9 ∨ y = 10 ∨ y = 11 := by omega
  rcases this with e | e | e | e | e | e | e | e | e | e | e | e <;> subst e <;> decide +kernel
section ZI
variable {k : kx_T} {mn pc : Nat} {dT : Nat → ClassId} {lv : List (Nat × Value)} {st : List Value} {ws : va_W} {ce sl a b a' b' : Nat} {z z' : Int}
theorem z_shor (X : AX k mn dT) {x y : Int} (h : cdA mn pc = some (.ishl, 1, a, b, z)) (h' : cdA mn (pc + 1) = some (.ior, 1, a', b', z')) (hx : 0 ≤ x ∧ x ≤ 4095) (hy : 0 ≤ y ∧ y ≤ 11) (g : ∀ e : Int, 0 ≤ e → e ≤ 4095 → bcn e 12 ≤ bcn x 12 + 1 → WS k (pc + 1 + 1) lv (.int (Int32.ofInt e) :: st) ws ce sl) : WS k pc lv (.int (Int32.ofInt y) :: .int (Int32.ofInt 1) :: .int (Int32.ofInt x) :: st) ws ce sl := by
  refine z_bshl X h ?_
  rw [shl_v hy]
  refine z_bor X h' ?_
  have ex : x = ((x.toNat : Nat) : Int) := by omega
  obtain ⟨q1, q2⟩ := bcN_or (m := x.toNat) (y := y.toNat) (by omega) (by omega)
  have e0 : Int32.ofInt x ||| Int32.ofInt ((2 ^ y.toNat : Nat) : Int) = Int32.ofInt ((Nat.lor x.toNat (2 ^ y.toNat) : Nat) : Int) := by
    have hp : 2 ^ y.toNat ≤ 2 ^ 11 := Nat.pow_le_pow_right (by decide) (by omega)
    have h11 : 2 ^ 11 = 2048 := by decide
    rw [h11] at hp
    generalize 2 ^ y.toNat = p at hp q2
    rw [← z_or]
    have e1 : zN x = x.toNat := by unfold zN; omega
    have e2 : zN (p : Int) = p := by unfold zN; omega
    rw [e1, e2]
    unfold zOf
    rw [if_pos (Nat.ble_eq.mpr (by omega))]
  rw [e0]
  refine g _ (by omega) (by omega) ?_
  have e5 : bcn x 12 = (bcN x.toNat : Int) := (congrArg (fun q => bcn q 12) ex).trans bcn_12
  rw [bcn_12, e5]
  omega
end ZI
section M81
variable {l : Launch} {s0 : State} {D : va_G} {tys : List (ClassId × FieldType)} {a0 : Array Value} {A : Nat → Nat} {dT : Nat → ClassId} {s : PS}
set_option maxRecDepth 4000 in
theorem c8_findHits_67 (G : GX l s0 D tys a0 dT) (I : Bd s) {x : Int} (p0 : 0 ≤ x ∧ x ≤ 23) : CT l s0 D A dT 89 (rmN 89) [.ref (A 67), .int (Int32.ofInt x)] s (fun o t => Bd t ∧ Fm [39, 40, 41] [72] s t ∧ o = .inl none ∧ (bcn (iI t 40) 12 ≤ iI t 41)) := by
  refine ct_ofX G (by decide) (Nat.le_of_ble_eq_true rfl) (fun k X E ET hRt hXt q => ?_)
  show WS k 0 [(0, .ref (A 67)), (1, .int (Int32.ofInt x))] [] _ 0 0
  have F : Fm [39, 40, 41] [72] s s := fm_rf _ _ s
  have b1 := bi_9 I
  have b2 := bi_39 I
  have b3 := bi_40 I
  have b4 := bi_41 I
  have L17 : ∀ (n : Nat) (t : PS) (c : Int), Bd t → Fm [39, 40, 41] [72] s t → (0 ≤ c ∧ c ≤ 12 ∧ 0 ≤ iI t 41 ∧ iI t 41 ≤ c ∧ bcn (iI t 40) 12 ≤ iI t 41) → (12 - c : Int).toNat < n → (∀ (t' : PS) (c' : Int), Bd t' → Fm [39, 40, 41] [72] s t' → (0 ≤ c' ∧ c' ≤ 12 ∧ 0 ≤ iI t' 41 ∧ iI t' 41 ≤ c' ∧ bcn (iI t' 40) 12 ≤ iI t' 41) → WS k 136 [(0, .ref (A 67)), (2, .int (Int32.ofInt c'))] [] (Wd A dT t') 0 0) → WS k 17 [(0, .ref (A 67)), (2, .int (Int32.ofInt c))] [] (Wd A dT t) 0 0 := by
    intro n
    induction n with
    | zero =>
      intro t c I F hi hm kx
      exact absurd hm (Nat.not_lt_zero _)
    | succ n ih =>
      intro t c I F hi hm kx
      have b1001 := bi_9 I
      have b1002 := bi_39 I
      have b1003 := bi_40 I
      have b1004 := bi_41 I
      refine z_load_n X (x := c) rfl (List.Mem.tail _ (List.Mem.head _)) (z_aload_n X (x := A 67) rfl (List.Mem.head _) (s_getR X 67 rfl (c518_ok rfl) rfl rfl (z_getI X 3 rfl (c518_ok rfl) rfl rfl ?_)))
      have b1005 := bi_9 I
      refine z_icmp_ge X (t := 136) rfl rfl ⟨by first | exact oq_fa4e5087 hi.1 | omega, by first | exact oq_78843a64 hi.2.1 | omega⟩ (rng_to _) (fun g1006 => ?_) (fun g1006 => ?_)
      ·
        refine WS_pq [0, 1] (lv' := [(0, .ref (A 67)), (2, .int (Int32.ofInt c))]) rfl ?_
        exact kx _ c I F (by first | exact ⟨hi.1, hi.2.1, b1004.1, hi.2.2.2.1, hi.2.2.2.2⟩ | omega)
      ·
        refine z_aload_n X (x := A 67) rfl (List.Mem.head _) (s_getR X 67 rfl (c518_ok rfl) rfl rfl (s_getR X 3 rfl (c518_ok rfl) rfl rfl (z_load_n X (x := c) rfl (List.Mem.tail _ (List.Mem.head _)) (z_const X rfl (z_mul X rfl (z_lald X 6 rfl (c518_ok rfl) rfl (by first | exact oq_cfc6ac54 hi.1 | omega) (show (c * 2) < 24 by first | exact oq_e062d2c8 g1006 b1005.2 | omega) (cbig_ok rfl) (fun j1007 => ?_)))))))
        refine z_aload_n X (x := A 67) rfl (List.Mem.head _) (z_getJ X 67 rfl (by decide) rfl rfl (fun j1008 => ?_))
        refine w_land X.1 (ax_d X (show cdA 89 43 = some (.land, 1, 0, 0, 0) from rfl)) (z_anyJ (fun j1009 => ?_))
        refine z_aload_n X (x := A 67) rfl (List.Mem.head _) (s_getR X 67 rfl (c518_ok rfl) rfl rfl (s_getR X 3 rfl (c518_ok rfl) rfl rfl (z_load_n X (x := c) rfl (List.Mem.tail _ (List.Mem.head _)) (z_const X rfl (z_mul X rfl (z_const X rfl (z_add X rfl (z_lald X 6 rfl (c518_ok rfl) rfl (by first | exact oq_8a3e0277 hi.1 | omega) (show ((c * 2) + 1) < 24 by first | exact oq_0edc0603 g1006 b1005.2 | omega) (cbig_ok rfl) (fun j1010 => ?_)))))))))
        refine z_aload_n X (x := A 67) rfl (List.Mem.head _) (z_getJ X 67 rfl (by decide) rfl rfl (fun j1011 => ?_))
        refine w_land X.1 (ax_d X (show cdA 89 61 = some (.land, 1, 0, 0, 0) from rfl)) (z_anyJ (fun j1012 => ?_))
        refine w_lor X.1 (ax_d X (show cdA 89 62 = some (.lor, 1, 0, 0, 0) from rfl)) (z_anyJ (fun j1013 => ?_))
        refine w_lconst X.1 (ax_d X (show cdA 89 63 = some (.lconst 0, 1, 0, 0, 0) from rfl)) rfl (z_anyJ (fun j1014 => ?_))
        refine w_lcmp X.1 (ax_d X (show cdA 89 64 = some (.lcmp, 1, 0, 0, 0) from rfl)) (z_any (fun y1015 hy1015 => ?_))
        have N1016 : ∀ e1017 : Int, (((y1015 = 0) ∧ e1017 = 0) ∨ ((y1015 ≠ 0) ∧ e1017 = 1)) → WS k 73 [(0, .ref (A 67)), (2, .int (Int32.ofInt c))] [.int (Int32.ofInt e1017)] (Wd A dT t) 0 0 := by
          intro e1017 he1017
          have re1017 : 0 ≤ e1017 ∧ e1017 ≤ 1 := by first | (clear he1017; omega) | omega
          refine z_store_n X (lv' := [(3, .int (Int32.ofInt e1017)), (0, .ref (A 67)), (2, .int (Int32.ofInt c))]) rfl (by decide) (fun _ h => h) (z_load_n X (x := e1017) rfl (List.Mem.head _) (z_if_eq X (t := 130) rfl rfl ⟨by first | exact oq_fa4e5087 re1017.1 | omega, by first | exact oq_22e1e6b0 re1017.2 | omega⟩ (fun g1018 => ?_) (fun g1018 => ?_)))
          ·
            refine z_inc X (x := c) (lv' := [(2, .int (Int32.ofInt (c + 1))), (3, .int (Int32.ofInt e1017)), (0, .ref (A 67))]) rfl (by decide) (List.Mem.tail _ (List.Mem.tail _ (List.Mem.head _))) (fun _ h => h) (z_goto X (t := 17) rfl rfl (WS_pq [2, 0] (lv' := [(0, .ref (A 67)), (2, .int (Int32.ofInt (c + 1)))]) rfl ?_))
            exact ih _ (c + 1) I F (by first | exact ⟨oq_54f49eb5 hi.1, oq_4dae995e g1006 b1005.2, b1004.1, oq_03182e9e hi.2.2.2.1, hi.2.2.2.2⟩ | omega) (by first | exact qk_me hm (by decide) (oq_b575e8c1 g1006 b1005.2) | omega) kx
          ·
            refine z_aload_n X (x := A 67) rfl (List.Mem.tail _ (List.Mem.head _)) (s_getR X 67 rfl (c518_ok rfl) rfl rfl (s_getR X 3 rfl (c518_ok rfl) rfl rfl (z_aload_n X (x := A 67) rfl (List.Mem.tail _ (List.Mem.head _)) (z_getI X 67 rfl (c518_ok rfl) rfl rfl ?_))))
            have b1019 := bi_39 I
            refine z_bipush X rfl (z_mul X rfl (z_load_n X (x := c) rfl (List.Mem.tail _ (List.Mem.tail _ (List.Mem.head _))) (z_add X rfl (z_ald X 14 rfl (c518_ok rfl) rfl (by first | exact oq_0f03f1de b1019.1 hi.1 | omega) (show (((iI t 39) * 12) + c) < 288 by first | exact oq_45988efc b1019.2 g1006 b1005.2 | omega) (cbig_ok rfl) ?_))))
            have b1020 := bc_11 I (show ((((iI t 39) * 12) + c)).toNat < 288 by first | exact oq_8395bb7c b1019.2 g1006 b1005.2 | omega)
            refine z_if_le X (t := 130) rfl rfl (rng_to _) (fun g1021 => ?_) (fun g1021 => ?_)
            ·
              refine z_inc X (x := c) (lv' := [(2, .int (Int32.ofInt (c + 1))), (3, .int (Int32.ofInt e1017)), (0, .ref (A 67))]) rfl (by decide) (List.Mem.tail _ (List.Mem.tail _ (List.Mem.head _))) (fun _ h => h) (z_goto X (t := 17) rfl rfl (WS_pq [2, 0] (lv' := [(0, .ref (A 67)), (2, .int (Int32.ofInt (c + 1)))]) rfl ?_))
              exact ih _ (c + 1) I F (by first | exact ⟨oq_54f49eb5 hi.1, oq_4dae995e g1006 b1005.2, b1004.1, oq_03182e9e hi.2.2.2.1, hi.2.2.2.2⟩ | omega) (by first | exact qk_me hm (by decide) (oq_b575e8c1 g1006 b1005.2) | omega) kx
            ·
              refine z_aload_n X (x := A 67) rfl (List.Mem.tail _ (List.Mem.head _)) (w_dup X.1 (ax_d X (show cdA 89 99 = some (.dup, 1, 0, 0, 0) from rfl)) rfl (z_getI X 67 rfl (c518_ok rfl) rfl rfl ?_))
              have b1022 := bi_40 I
              refine z_const X rfl (z_load_n X (x := c) rfl (List.Mem.tail _ (List.Mem.tail _ (List.Mem.head _))) (z_shor X rfl rfl (show 0 ≤ (iI t 40) ∧ (iI t 40) ≤ 4095 by first | (clear g1018 he1017; omega) | (clear he1017; omega) | omega) (show 0 ≤ c ∧ c ≤ 11 by first | (clear g1018 he1017; omega) | (clear he1017; omega) | omega) (fun e1023 he1023 ie1023 je1023 => ?_)))
              show WS k 107 [(3, .int (Int32.ofInt e1017)), (0, .ref (A 67)), (2, .int (Int32.ofInt c))] [.int (Int32.ofInt e1023), .ref (A 67)] (Wd A dT t) 0 0
              refine s_putI X 67 rfl (c518_ok rfl) rfl rfl (by decide) rfl rfl rfl (wd_gen (fun s1024 hs1024 => ?_))
              have Is1024 : Bd s1024 := eqB hs1024 (bd_I I (show (0 : Int) ≤ e1023 ∧ e1023 ≤ 4095 by first | (clear g1018 he1017; omega) | (clear he1017; omega) | omega) ⟨by first | (clear g1018 he1017; omega) | (clear he1017; omega) | omega, by first | (clear g1018 he1017; omega) | (clear he1017; omega) | omega⟩)
              have Fs1024 := eqF hs1024 (fm_I F (inl_ok (a := 40) rfl))
              have vs1024 : iI s1024 40 = e1023 := eqI hs1024 (iI_u ⟨by first | (clear g1018 he1017; omega) | (clear he1017; omega) | omega, by first | (clear g1018 he1017; omega) | (clear he1017; omega) | omega⟩)
              have ws1024_9 : iI s1024 9 = iI t 9 := eqI hs1024 rfl
              have ws1024_39 : iI s1024 39 = iI t 39 := eqI hs1024 rfl
              have ws1024_41 : iI s1024 41 = iI t 41 := eqI hs1024 rfl
              refine z_aload_n X (x := A 67) rfl (List.Mem.tail _ (List.Mem.head _)) (s_getR X 67 rfl (c518_ok rfl) rfl rfl (z_aload_n X (x := A 67) rfl (List.Mem.tail _ (List.Mem.head _)) (z_getI X 67 rfl (c518_ok rfl) rfl rfl ?_)))
              have b1025 := bi_41 Is1024
              refine z_load_n X (x := c) rfl (List.Mem.tail _ (List.Mem.tail _ (List.Mem.head _))) (z_ast X 85 rfl (c518_ok rfl) rfl (by first | exact b1025.1 | omega) (show (iI s1024 41) < 12 by first | exact oq_8ac469bd ws1024_41 hi.2.2.2.1 g1006 b1005.2 | omega) (cbig_ok rfl) (wd_gen (fun s1026 hs1026 => ?_)))
              have Is1026 : Bd s1026 := eqB hs1026 (bd_C Is1024 (show (0 : Int) ≤ c ∧ c ≤ 11 by first | exact ⟨hi.1, oq_e4d7f3c5 g1006 b1005.2⟩ | omega) ⟨by first | exact oq_fa4e5087 hi.1 | omega, by first | exact oq_78843a64 hi.2.1 | omega⟩)
              have Fs1026 := eqF hs1026 (fm_C Fs1024 (inl_ok (a := 72) rfl))
              have ws1026_9 : iI s1026 9 = iI s1024 9 := eqI hs1026 rfl
              have ws1026_39 : iI s1026 39 = iI s1024 39 := eqI hs1026 rfl
              have ws1026_40 : iI s1026 40 = iI s1024 40 := eqI hs1026 rfl
              have ws1026_41 : iI s1026 41 = iI s1024 41 := eqI hs1026 rfl
              refine z_aload_n X (x := A 67) rfl (List.Mem.tail _ (List.Mem.head _)) (w_dup X.1 (ax_d X (show cdA 89 121 = some (.dup, 1, 0, 0, 0) from rfl)) rfl (z_getI X 67 rfl (c518_ok rfl) rfl rfl ?_))
              have b1027 := bi_41 Is1026
              refine z_const X rfl (z_add X rfl (s_putI X 67 rfl (c518_ok rfl) rfl rfl (by decide) rfl rfl rfl (wd_gen (fun s1028 hs1028 => ?_))))
              have Is1028 : Bd s1028 := eqB hs1028 (bd_I Is1026 (show (0 : Int) ≤ ((iI s1026 41) + 1) ∧ ((iI s1026 41) + 1) ≤ 12 by first | exact ⟨oq_54f49eb5 b1027.1, oq_1fea0193 ws1026_41 ws1024_41 hi.2.2.2.1 g1006 b1005.2⟩ | omega) ⟨by first | exact oq_74de1e16 b1027.1 | omega, by first | exact oq_76a8a5b7 b1027.2 | omega⟩)
              have Fs1028 := eqF hs1028 (fm_I Fs1026 (inl_ok (a := 41) rfl))
              have vs1028 : iI s1028 41 = ((iI s1026 41) + 1) := eqI hs1028 (iI_u ⟨by first | exact oq_74de1e16 b1027.1 | omega, by first | exact oq_76a8a5b7 b1027.2 | omega⟩)
              have ws1028_9 : iI s1028 9 = iI s1026 9 := eqI hs1028 rfl
              have ws1028_39 : iI s1028 39 = iI s1026 39 := eqI hs1028 rfl
              have ws1028_40 : iI s1028 40 = iI s1026 40 := eqI hs1028 rfl
              have bz1029 : bcn (iI s1028 40) 12 = bcn (e1023) 12 := by rw [show iI s1028 40 = e1023 by first | (clear g1018 he1017; omega) | (clear he1017; omega) | omega]
              refine z_inc X (x := c) (lv' := [(2, .int (Int32.ofInt (c + 1))), (3, .int (Int32.ofInt e1017)), (0, .ref (A 67))]) rfl (by decide) (List.Mem.tail _ (List.Mem.tail _ (List.Mem.head _))) (fun _ h => h) (z_goto X (t := 17) rfl rfl (WS_pq [2, 0] (lv' := [(0, .ref (A 67)), (2, .int (Int32.ofInt (c + 1)))]) rfl ?_))
              exact ih _ (c + 1) Is1028 Fs1028 (by first | exact ⟨oq_54f49eb5 hi.1, oq_4dae995e g1006 b1005.2, oq_b50d5e62 vs1028 b1027.1, oq_ecb13324 vs1028 hi.2.2.2.1 ws1026_41 ws1024_41, by first | (clear g1018 he1017; omega) | (clear he1017; omega) | omega⟩ | omega) (by first | exact qk_me hm (by decide) (oq_b575e8c1 g1006 b1005.2) | omega) kx
        refine z_if_eq X (t := 72) rfl rfl hy1015 (fun g1030 => ?_) (fun g1030 => ?_)
        ·
          exact z_const X rfl (N1016 _ (Or.inl ⟨g1030, rfl⟩))
        ·
          exact z_const X rfl (z_goto X (t := 73) rfl rfl (N1016 _ (Or.inr (⟨g1030, rfl⟩))))
  refine z_aload_n X (x := A 67) rfl (List.Mem.head _) (z_load_n X (x := x) rfl (List.Mem.tail _ (List.Mem.head _)) (s_putI X 67 rfl (c518_ok rfl) rfl rfl (by decide) rfl rfl rfl (wd_gen (fun s5 hs5 => ?_))))
  have Is5 : Bd s5 := eqB hs5 (bd_I I (show (0 : Int) ≤ x ∧ x ≤ 23 by first | exact ⟨p0.1, p0.2⟩ | omega) ⟨by first | exact oq_fa4e5087 p0.1 | omega, by first | exact oq_1a42ef34 p0.2 | omega⟩)
  have Fs5 := eqF hs5 (fm_I F (inl_ok (a := 39) rfl))
  have vs5 : iI s5 39 = x := eqI hs5 (iI_u ⟨by first | exact oq_fa4e5087 p0.1 | omega, by first | exact oq_1a42ef34 p0.2 | omega⟩)
  have ws5_9 : iI s5 9 = iI s 9 := eqI hs5 rfl
  have ws5_40 : iI s5 40 = iI s 40 := eqI hs5 rfl
  have ws5_41 : iI s5 41 = iI s 41 := eqI hs5 rfl
  refine z_aload_n X (x := A 67) rfl (List.Mem.head _) (z_const X rfl (s_putI X 67 rfl (c518_ok rfl) rfl rfl (by decide) rfl rfl rfl (wd_gen (fun s6 hs6 => ?_))))
  have Is6 : Bd s6 := eqB hs6 (bd_I Is5 (show (0 : Int) ≤ 0 ∧ 0 ≤ 4095 by first | exact ⟨by decide, by decide⟩ | omega) (by decide))
  have Fs6 := eqF hs6 (fm_I Fs5 (inl_ok (a := 40) rfl))
  have vs6 : iI s6 40 = 0 := eqI hs6 (iI_u (by decide))
  have ws6_9 : iI s6 9 = iI s5 9 := eqI hs6 rfl
  have ws6_39 : iI s6 39 = iI s5 39 := eqI hs6 rfl
  have ws6_41 : iI s6 41 = iI s5 41 := eqI hs6 rfl
  refine z_aload_n X (x := A 67) rfl (List.Mem.head _) (z_const X rfl (s_putI X 67 rfl (c518_ok rfl) rfl rfl (by decide) rfl rfl rfl (wd_gen (fun s7 hs7 => ?_))))
  have Is7 : Bd s7 := eqB hs7 (bd_I Is6 (show (0 : Int) ≤ 0 ∧ 0 ≤ 12 by first | exact ⟨by decide, by decide⟩ | omega) (by decide))
  have Fs7 := eqF hs7 (fm_I Fs6 (inl_ok (a := 41) rfl))
  have vs7 : iI s7 41 = 0 := eqI hs7 (iI_u (by decide))
  have ws7_9 : iI s7 9 = iI s6 9 := eqI hs7 rfl
  have ws7_39 : iI s7 39 = iI s6 39 := eqI hs7 rfl
  have ws7_40 : iI s7 40 = iI s6 40 := eqI hs7 rfl
  have bz8 : bcn (iI s7 40) 12 = 0 := by rw [show iI s7 40 = 0 by omega]; decide
  refine z_const X rfl (z_store_n X (lv' := [(2, .int (Int32.ofInt 0)), (0, .ref (A 67)), (1, .int (Int32.ofInt x))]) rfl (by decide) (fun _ h => h) (WS_pq [1, 0] (lv' := [(0, .ref (A 67)), (2, .int (Int32.ofInt 0))]) rfl (L17 ((12 - 0 : Int).toNat + 1) s7 0 Is7 Fs7 (by first | exact ⟨by decide, by decide, oq_0b35aa92 vs7, oq_1af0b4f8 vs7, oq_0544552b vs7 bz8⟩ | omega) (Nat.lt_succ_self _) ?_)))
  intro s9 x10 Is9 Fs9 hs9
  have b11 := bi_9 Is9
  have b12 := bi_39 Is9
  have b13 := bi_40 Is9
  have b14 := bi_41 Is9
  exact w_vret X.1 q hRt (ax_d X (show cdA 89 136 = some (.return_, 1, 0, 0, 0) from rfl)) (Nat.zero_le _) (Nat.zero_le _) ⟨_, rfl, Is9, Fs9, rfl, by first | exact hs9.2.2.2.2 | omega⟩
end M81
end
section
theorem oq_a3ef31b4 {a0 : Int} (h0 : a0 ≤ 4) : a0 < 7 := by omega
theorem oq_f1a80867 {a0 : Int} (h0 : a0 ≤ 4) : (a0 : Int).toNat < 7 := by omega
theorem oq_c876a415 {a0 a1 a2 a3 a4 : Int} (h0 : ((a0 ≠ (-1) ∧ (a0 ≠ (-2) ∧ (((-2147483648) ≤ a1 ∧ a1 ≤ 2147483647) ∧ a2 = a1))) ∨ ((a0 ≠ (-1) ∧ (a0 = (-2) ∧ (((-2147483648) ≤ a3 ∧ a3 ≤ 2147483647) ∧ a2 = a3))) ∨ (a0 = (-1) ∧ (((-2147483648) ≤ a4 ∧ a4 ≤ 2147483647) ∧ a2 = a4))))) : (-2147483648) ≤ a2 := by omega
theorem oq_a59aa581 {a0 a1 a2 a3 a4 : Int} (h0 : ((a0 ≠ (-1) ∧ (a0 ≠ (-2) ∧ (((-2147483648) ≤ a1 ∧ a1 ≤ 2147483647) ∧ a2 = a1))) ∨ ((a0 ≠ (-1) ∧ (a0 = (-2) ∧ (((-2147483648) ≤ a3 ∧ a3 ≤ 2147483647) ∧ a2 = a3))) ∨ (a0 = (-1) ∧ (((-2147483648) ≤ a4 ∧ a4 ≤ 2147483647) ∧ a2 = a4))))) : a2 ≤ 2147483647 := by omega
theorem oq_b7e30c53 {a0 a1 a2 : Int} (h0 : a0 < a1) (h1 : a2 ≤ 23) (h2 : a1 ≤ 6) : ((a0 * 24) + a2) < 144 := by omega
theorem oq_8c922985 {a0 a1 a2 : Int} (h0 : a0 < a1) (h1 : a2 ≤ 23) (h2 : a1 ≤ 6) : (((a0 * 24) + a2) : Int).toNat < 144 := by omega
theorem oq_551cb5a9 {a0 a1 a2 : Int} (h0 : ((a0 = 0 ∧ a1 = (-1)) ∨ (a0 ≠ 0 ∧ (((-2147483648) ≤ a2 ∧ a2 ≤ 2147483647) ∧ a1 = a2)))) : (-2147483648) ≤ a1 := by omega
theorem oq_f5d7515b {a0 a1 a2 : Int} (h0 : ((a0 = 0 ∧ a1 = (-1)) ∨ (a0 ≠ 0 ∧ (((-2147483648) ≤ a2 ∧ a2 ≤ 2147483647) ∧ a1 = a2)))) : a1 ≤ 2147483647 := by omega
theorem oq_6314942f {a0 a1 a2 a3 a4 : Int} (h0 : ((a0 ≠ (-1) ∧ (a0 ≠ (-2) ∧ ((0 ≤ a1 ∧ a1 ≤ 5) ∧ a2 = a1))) ∨ ((a0 ≠ (-1) ∧ (a0 = (-2) ∧ ((0 ≤ a3 ∧ a3 ≤ 23) ∧ a2 = a3))) ∨ (a0 = (-1) ∧ (((-2147483648) ≤ a4 ∧ a4 ≤ 2147483647) ∧ a2 = a4))))) : (-2147483648) ≤ a2 := by omega
theorem oq_80eb1a87 {a0 a1 a2 a3 a4 : Int} (h0 : ((a0 ≠ (-1) ∧ (a0 ≠ (-2) ∧ ((0 ≤ a1 ∧ a1 ≤ 5) ∧ a2 = a1))) ∨ ((a0 ≠ (-1) ∧ (a0 = (-2) ∧ ((0 ≤ a3 ∧ a3 ≤ 23) ∧ a2 = a3))) ∨ (a0 = (-1) ∧ (((-2147483648) ≤ a4 ∧ a4 ≤ 2147483647) ∧ a2 = a4))))) : a2 ≤ 2147483647 := by omega
theorem oq_06ae99d7 {a0 a1 a2 : Int} (h0 : a0 ≠ 0) (h1 : a1 ≤ a2) (h2 : ((a0 ≠ 0 ∧ a2 = 8) ∨ (a0 = 0 ∧ a2 = 24))) (h3 : 0 ≤ a0) : a1 ≤ 8 := by omega
theorem oq_9a71296a {a0 a1 : Int} (h0 : a0 ≤ a1) (h1 : a1 ≤ 24) : a0 ≤ 24 := by omega
theorem oq_c7ff8bdb {a0 : Int} (h0 : a0 ≠ 5) (h1 : a0 ≠ 4) (h2 : a0 ≤ 5) : a0 < 4 := by omega
theorem oq_241c03de {a0 : Int} (h0 : a0 ≠ 5) (h1 : a0 ≠ 4) (h2 : a0 ≤ 5) : (a0 : Int).toNat < 4 := by omega
theorem oq_21dab0cf {a0 a1 a2 a3 : Int} (h0 : ((a0 = (-1) ∧ a1 = a0) ∨ ((a0 ≠ (-1) ∧ (a2 ≠ 0 ∧ (((-2147483648) ≤ a3 ∧ a3 ≤ 2147483647) ∧ a1 = a3))) ∨ (a0 ≠ (-1) ∧ (a2 = 0 ∧ a1 = a0))))) (h1 : (-1) ≤ a0) : (-2147483648) ≤ a1 := by omega
theorem oq_d0297410 {a0 a1 a2 a3 : Int} (h0 : ((a0 = (-1) ∧ a1 = a0) ∨ ((a0 ≠ (-1) ∧ (a2 ≠ 0 ∧ (((-2147483648) ≤ a3 ∧ a3 ≤ 2147483647) ∧ a1 = a3))) ∨ (a0 ≠ (-1) ∧ (a2 = 0 ∧ a1 = a0))))) (h1 : a0 ≤ 11) : a1 ≤ 2147483647 := by omega
theorem oq_6ab87361 {a0 : Int} (h0 : a0 ≤ 100) : a0 ≤ 200 := by omega
/-! The class: its own methods -/
section M82
variable {l : Launch} {s0 : State} {D : va_G} {tys : List (ClassId × FieldType)} {a0 : Array Value} {A : Nat → Nat} {dT : Nat → ClassId} {s : PS}
set_option maxRecDepth 4000 in
theorem cs_needWithin (G : GX l s0 D tys a0 dT) (I : Bd s) {x y z : Int} (p0 : rng x) (p1 : rng y) (p2 : rng z) : CT l s0 D A dT 184 (rmN 184) [.ref (A 0), .int (Int32.ofInt x), .int (Int32.ofInt y), .int (Int32.ofInt z)] s (fun o t => Bd t ∧ Fm [] [] s t ∧ ((o = .inl none ∧ (y ≤ x ∧ x ≤ z)) ∨ ∃ x : Nat, o = .inr (exN x) ∧ (x = 0))) := by
  refine ct_ofX G (by decide) (Nat.le_of_ble_eq_true rfl) (fun k X E ET hRt hXt q => ?_)
  show WS k 0 [(0, .ref (A 0)), (1, .int (Int32.ofInt x)), (2, .int (Int32.ofInt y)), (3, .int (Int32.ofInt z))] [] _ 0 0
  have F : Fm [] [] s s := fm_rf _ _ s
  refine z_load_n X (x := x) rfl (List.Mem.tail _ (List.Mem.head _)) (z_load_n X (x := y) rfl (List.Mem.tail _ (List.Mem.tail _ (List.Mem.head _))) (z_icmp_lt X (t := 10) rfl rfl ⟨by first | exact p0.1 | omega, by first | exact p0.2 | omega⟩ ⟨by first | exact p1.1 | omega, by first | exact p1.2 | omega⟩ (fun g1 => ?_) (fun g1 => ?_)))
  ·
    exact z_throw G X E ET hXt q (st := []) rfl (by decide) (by decide) (Nat.le_of_ble_eq_true rfl) (show 0 + 1 ≤ 1 by decide) (show 0 + 6 ≤ 6 by decide) (show 0 + 1 ≤ 1 by decide) (show 0 + 6 ≤ 6 by decide) ⟨_, rfl, I, F, Or.inr ⟨0, rfl, by omega⟩⟩
  ·
    refine z_load_n X (x := x) rfl (List.Mem.tail _ (List.Mem.head _)) (z_load_n X (x := z) rfl (List.Mem.tail _ (List.Mem.tail _ (List.Mem.tail _ (List.Mem.head _)))) (z_icmp_le X (t := 21) rfl rfl ⟨by first | exact p0.1 | omega, by first | exact p0.2 | omega⟩ ⟨by first | exact p2.1 | omega, by first | exact p2.2 | omega⟩ (fun g2 => ?_) (fun g2 => ?_)))
    ·
      exact w_vret X.1 q hRt (ax_d X (show cdA 184 21 = some (.return_, 1, 0, 0, 0) from rfl)) (Nat.zero_le _) (Nat.zero_le _) ⟨_, rfl, I, F, Or.inl ⟨rfl, by first | exact ⟨g1, g2⟩ | omega⟩⟩
    ·
      exact z_throw G X E ET hXt q (st := []) rfl (by decide) (by decide) (Nat.le_of_ble_eq_true rfl) (show 0 + 1 ≤ 1 by decide) (show 0 + 6 ≤ 6 by decide) (show 0 + 1 ≤ 1 by decide) (show 0 + 6 ≤ 6 by decide) ⟨_, rfl, I, F, Or.inr ⟨0, rfl, by omega⟩⟩
set_option maxRecDepth 4000 in
theorem cs_needPiece (G : GX l s0 D tys a0 dT) (I : Bd s) {x : Int} (p0 : rng x) : CT l s0 D A dT 182 (rmN 182) [.ref (A 0), .int (Int32.ofInt x)] s (fun o t => Bd t ∧ Fm [] [] s t ∧ ((o = .inl none ∧ (0 ≤ x ∧ x ≤ 7)) ∨ ∃ x : Nat, o = .inr (exN x) ∧ (x = 0))) := by
  refine ct_ofX G (by decide) (Nat.le_of_ble_eq_true rfl) (fun k X E ET hRt hXt q => ?_)
  show WS k 0 [(0, .ref (A 0)), (1, .int (Int32.ofInt x))] [] _ 0 0
  have F : Fm [] [] s s := fm_rf _ _ s
  refine z_aload_n X (x := A 0) rfl (List.Mem.head _) (z_load_n X (x := x) rfl (List.Mem.tail _ (List.Mem.head _)) (z_const X rfl (z_bipush X rfl (z_callV X 0 (rm := rmN 184) (As := [.int (Int32.ofInt x), .int (Int32.ofInt 0), .int (Int32.ofInt 7)]) (st := []) rfl rfl (by decide) rfl (by rw [E.1, E.2.1, E.2.2.1]; exact cs_needWithin G I (by first | exact ⟨p0.1, p0.2⟩ | omega) (by first | exact ⟨by decide, by decide⟩ | omega) (by first | exact ⟨by decide, by decide⟩ | omega)) ⟨by rw [E.2.2.2]; exact (show (rmN 184).frames + 1 ≤ (rmN 182).frames by decide), by rw [E.2.2.2]; exact (show 8 + (mNL (miB 184) + 11) + (rmN 184).locals ≤ (rmN 182).locals by decide), by rw [E.2.2.2]; exact (show 0 + 1 ≤ 1 by decide), by rw [E.2.2.2]; exact (show 0 + 6 ≤ 6 by decide)⟩ (Nat.le_of_ble_eq_true rfl) (fun vv s1 hq => ?_) (fun ee s1 hq => ?_)))))
  rotate_left
  · obtain ⟨Is1, Fs1, (⟨hv, hps1⟩ | ⟨xx, hv, hps1⟩)⟩ := hq
    · cases hv
    · cases hv
      have Gs1 := fm_tq F Fs1 rfl rfl
      exact x_out X.1 q (fun x hx => (hXt x hx).elim) (show 1 ≤ 1 by decide) (show 6 ≤ 6 by decide) ⟨_, rfl, Is1, Gs1, Or.inr ⟨xx, rfl, by omega⟩⟩
  obtain ⟨Is1, Fs1, (⟨hv, hps1⟩ | ⟨xx, hv, hps1⟩)⟩ := hq
  rotate_left
  · cases hv
  cases hv
  have Gs1 := fm_tq F Fs1 rfl rfl
  show WS k 8 [(0, .ref (A 0)), (1, .int (Int32.ofInt x))] [] (Wd A dT s1) 1 6
  exact w_vret X.1 q hRt (ax_d X (show cdA 182 8 = some (.return_, 1, 0, 0, 0) from rfl)) (show 1 ≤ 1 by decide) (show 6 ≤ 6 by decide) ⟨_, rfl, Is1, Gs1, Or.inl ⟨rfl, by first | exact ⟨hps1.1, hps1.2⟩ | omega⟩⟩
set_option maxRecDepth 4000 in
theorem cs_needQuarter (G : GX l s0 D tys a0 dT) (I : Bd s) {x : Int} (p0 : rng x) : CT l s0 D A dT 183 (rmN 183) [.ref (A 0), .int (Int32.ofInt x)] s (fun o t => Bd t ∧ Fm [] [] s t ∧ ((o = .inl none ∧ (0 ≤ x ∧ x ≤ 23)) ∨ ∃ x : Nat, o = .inr (exN x) ∧ (x = 0))) := by
  refine ct_ofX G (by decide) (Nat.le_of_ble_eq_true rfl) (fun k X E ET hRt hXt q => ?_)
  show WS k 0 [(0, .ref (A 0)), (1, .int (Int32.ofInt x))] [] _ 0 0
  have F : Fm [] [] s s := fm_rf _ _ s
  refine z_aload_n X (x := A 0) rfl (List.Mem.head _) (z_load_n X (x := x) rfl (List.Mem.tail _ (List.Mem.head _)) (z_const X rfl (z_bipush X rfl (z_callV X 0 (rm := rmN 184) (As := [.int (Int32.ofInt x), .int (Int32.ofInt 0), .int (Int32.ofInt 23)]) (st := []) rfl rfl (by decide) rfl (by rw [E.1, E.2.1, E.2.2.1]; exact cs_needWithin G I (by first | exact ⟨p0.1, p0.2⟩ | omega) (by first | exact ⟨by decide, by decide⟩ | omega) (by first | exact ⟨by decide, by decide⟩ | omega)) ⟨by rw [E.2.2.2]; exact (show (rmN 184).frames + 1 ≤ (rmN 183).frames by decide), by rw [E.2.2.2]; exact (show 8 + (mNL (miB 184) + 11) + (rmN 184).locals ≤ (rmN 183).locals by decide), by rw [E.2.2.2]; exact (show 0 + 1 ≤ 1 by decide), by rw [E.2.2.2]; exact (show 0 + 6 ≤ 6 by decide)⟩ (Nat.le_of_ble_eq_true rfl) (fun vv s1 hq => ?_) (fun ee s1 hq => ?_)))))
  rotate_left
  · obtain ⟨Is1, Fs1, (⟨hv, hps1⟩ | ⟨xx, hv, hps1⟩)⟩ := hq
    · cases hv
    · cases hv
      have Gs1 := fm_tq F Fs1 rfl rfl
      exact x_out X.1 q (fun x hx => (hXt x hx).elim) (show 1 ≤ 1 by decide) (show 6 ≤ 6 by decide) ⟨_, rfl, Is1, Gs1, Or.inr ⟨xx, rfl, by omega⟩⟩
  obtain ⟨Is1, Fs1, (⟨hv, hps1⟩ | ⟨xx, hv, hps1⟩)⟩ := hq
  rotate_left
  · cases hv
  cases hv
  have Gs1 := fm_tq F Fs1 rfl rfl
  show WS k 8 [(0, .ref (A 0)), (1, .int (Int32.ofInt x))] [] (Wd A dT s1) 1 6
  exact w_vret X.1 q hRt (ax_d X (show cdA 183 8 = some (.return_, 1, 0, 0, 0) from rfl)) (show 1 ≤ 1 by decide) (show 6 ≤ 6 by decide) ⟨_, rfl, Is1, Gs1, Or.inl ⟨rfl, by first | exact ⟨hps1.1, hps1.2⟩ | omega⟩⟩
set_option maxRecDepth 4000 in
theorem cs_needCell (G : GX l s0 D tys a0 dT) (I : Bd s) {x : Int} (p0 : rng x) : CT l s0 D A dT 181 (rmN 181) [.ref (A 0), .int (Int32.ofInt x)] s (fun o t => Bd t ∧ Fm [] [] s t ∧ ((o = .inl none ∧ (0 ≤ x ∧ x ≤ 127)) ∨ ∃ x : Nat, o = .inr (exN x) ∧ (x = 2))) := by
  refine ct_ofX G (by decide) (Nat.le_of_ble_eq_true rfl) (fun k X E ET hRt hXt q => ?_)
  show WS k 0 [(0, .ref (A 0)), (1, .int (Int32.ofInt x))] [] _ 0 0
  have F : Fm [] [] s s := fm_rf _ _ s
  refine z_load_n X (x := x) rfl (List.Mem.tail _ (List.Mem.head _)) (z_if_lt X (t := 11) rfl rfl ⟨by first | exact p0.1 | omega, by first | exact p0.2 | omega⟩ (fun g1 => ?_) (fun g1 => ?_))
  ·
    exact z_throw G X E ET hXt q (st := []) rfl (by decide) (by decide) (Nat.le_of_ble_eq_true rfl) (show 0 + 1 ≤ 1 by decide) (show 0 + 6 ≤ 6 by decide) (show 0 + 1 ≤ 1 by decide) (show 0 + 6 ≤ 6 by decide) ⟨_, rfl, I, F, Or.inr ⟨2, rfl, by omega⟩⟩
  ·
    refine z_load_n X (x := x) rfl (List.Mem.tail _ (List.Mem.head _)) (z_sipush X rfl (z_icmp_lt X (t := 22) rfl rfl ⟨by first | exact p0.1 | omega, by first | exact p0.2 | omega⟩ (by decide) (fun g2 => ?_) (fun g2 => ?_)))
    ·
      exact w_vret X.1 q hRt (ax_d X (show cdA 181 22 = some (.return_, 1, 0, 0, 0) from rfl)) (Nat.zero_le _) (Nat.zero_le _) ⟨_, rfl, I, F, Or.inl ⟨rfl, by first | exact ⟨g1, oq_04367f15 g2⟩ | omega⟩⟩
    ·
      exact z_throw G X E ET hXt q (st := []) rfl (by decide) (by decide) (Nat.le_of_ble_eq_true rfl) (show 0 + 1 ≤ 1 by decide) (show 0 + 6 ≤ 6 by decide) (show 0 + 1 ≤ 1 by decide) (show 0 + 6 ≤ 6 by decide) ⟨_, rfl, I, F, Or.inr ⟨2, rfl, by omega⟩⟩
set_option maxRecDepth 4000 in
theorem cs_listenTo (G : GX l s0 D tys a0 dT) (I : Bd s) {x : Int} (p0 : 0 ≤ x ∧ x ≤ 7) : CT l s0 D A dT 179 (rmN 179) [.ref (A 0), .int (Int32.ofInt x)] s (fun o t => Bd t ∧ Fm [22, 23] [33, 26, 27, 28, 29, 30, 31, 32] s t ∧ o = .inl none ∧ (True)) := by
  refine ct_ofX G (by decide) (Nat.le_of_ble_eq_true rfl) (fun k X E ET hRt hXt q => ?_)
  show WS k 0 [(0, .ref (A 0)), (1, .int (Int32.ofInt x))] [] _ 0 0
  have F : Fm [22, 23] [33, 26, 27, 28, 29, 30, 31, 32] s s := fm_rf _ _ s
  refine z_aload_n X (x := A 0) rfl (List.Mem.head _) (s_getR X 0 rfl (c518_ok rfl) rfl rfl (z_aload_n X (x := A 0) rfl (List.Mem.head _) (s_getR X 0 rfl (c518_ok rfl) rfl rfl (s_getR X 25 rfl (c518_ok rfl) rfl rfl (z_load_n X (x := x) rfl (List.Mem.tail _ (List.Mem.head _)) (z_lald X 27 rfl (c518_ok rfl) rfl (by first | exact p0.1 | omega) (show x < 8 by first | exact oq_aaea290e p0.2 | omega) (cbig_ok rfl) (fun j1 => ?_)))))))
  refine z_aload_n X (x := A 0) rfl (List.Mem.head _) (s_getR X 0 rfl (c518_ok rfl) rfl rfl (s_getR X 25 rfl (c518_ok rfl) rfl rfl (z_load_n X (x := x) rfl (List.Mem.tail _ (List.Mem.head _)) (z_lald X 28 rfl (c518_ok rfl) rfl (by first | exact p0.1 | omega) (show x < 8 by first | exact oq_aaea290e p0.2 | omega) (cbig_ok rfl) (fun j2 => ?_)))))
  refine z_const X rfl (zcV_v0 X E 31 (As := [.long j1, .long j2, .int (Int32.ofInt 1)]) (st := []) rfl rfl rfl rfl (c0_listen_31 G I (by first | exact ⟨by decide, by decide⟩ | omega)) rfl (Nat.le_of_ble_eq_true rfl) (fun s3 Is3 Fs3 hps3 => ?_))
  have Gs3 := fm_tq F Fs3 rfl rfl
  exact w_vret X.1 q hRt (ax_d X (show cdA 179 26 = some (.return_, 1, 0, 0, 0) from rfl)) (Nat.zero_le _) (Nat.zero_le _) ⟨_, rfl, Is3, Gs3, rfl, trivial⟩
set_option maxRecDepth 4000 in
theorem cs_fault (G : GX l s0 D tys a0 dT) (I : Bd s)  : CT l s0 D A dT 138 (rmN 138) [.ref (A 0)] s (fun o t => Bd t ∧ Fm [] [] s t ∧ ∃ e, o = .inl (some (.int (Int32.ofInt e))) ∧ rng e ∧ (True)) := by
  refine ct_ofX G (by decide) (Nat.le_of_ble_eq_true rfl) (fun k X E ET hRt hXt q => ?_)
  show WS k 0 [(0, .ref (A 0))] [] _ 0 0
  have F : Fm [] [] s s := fm_rf _ _ s
  refine z_aload_n X (x := A 0) rfl (List.Mem.head _) (s_getR X 0 rfl (c518_ok rfl) rfl rfl (z_getI X 1 rfl (c518_ok rfl) rfl rfl ?_))
  have b1 := bi_8 I
  exact w_iret X.1 q hRt rfl (ax_d X (show cdA 138 7 = some (.ireturn, 1, 0, 0, 0) from rfl)) (Nat.zero_le _) (Nat.zero_le _) ⟨_, rfl, I, F, (iI s 8), rfl, (rng_to _), trivial⟩
set_option maxRecDepth 4000 in
theorem cs_neck (G : GX l s0 D tys a0 dT) (I : Bd s) {x y : Int} (p0 : rng x) (p1 : rng y) : CT l s0 D A dT 149 (rmN 149) [.ref (A 0), .int (Int32.ofInt x), .int (Int32.ofInt y)] s (fun o t => Bd t ∧ Fm [] [] s t ∧ ((∃ e, o = .inl (some (.int (Int32.ofInt e))) ∧ rng e ∧ (True)) ∨ ∃ x : Nat, o = .inr (exN x) ∧ (x = 0))) := by
  refine ct_ofX G (by decide) (Nat.le_of_ble_eq_true rfl) (fun k X E ET hRt hXt q => ?_)
  show WS k 0 [(0, .ref (A 0)), (1, .int (Int32.ofInt x)), (2, .int (Int32.ofInt y))] [] _ 0 0
  have F : Fm [] [] s s := fm_rf _ _ s
  refine z_aload_n X (x := A 0) rfl (List.Mem.head _) (z_load_n X (x := x) rfl (List.Mem.tail _ (List.Mem.head _)) (z_callV X 0 (rm := rmN 182) (As := [.int (Int32.ofInt x)]) (st := []) rfl rfl (by decide) rfl (by rw [E.1, E.2.1, E.2.2.1]; exact cs_needPiece G I (by first | exact ⟨p0.1, p0.2⟩ | omega)) ⟨by rw [E.2.2.2]; exact (show (rmN 182).frames + 1 ≤ (rmN 149).frames by decide), by rw [E.2.2.2]; exact (show 8 + (mNL (miB 182) + 11) + (rmN 182).locals ≤ (rmN 149).locals by decide), by rw [E.2.2.2]; exact (show 0 + 1 ≤ 1 by decide), by rw [E.2.2.2]; exact (show 0 + 6 ≤ 6 by decide)⟩ (Nat.le_of_ble_eq_true rfl) (fun vv s1 hq => ?_) (fun ee s1 hq => ?_)))
  rotate_left
  · obtain ⟨Is1, Fs1, (⟨hv, hps1⟩ | ⟨xx, hv, hps1⟩)⟩ := hq
    · cases hv
    · cases hv
      have Gs1 := fm_tq F Fs1 rfl rfl
      exact x_out X.1 q (fun x hx => (hXt x hx).elim) (show 1 ≤ 1 by decide) (show 6 ≤ 6 by decide) ⟨_, rfl, Is1, Gs1, Or.inr ⟨xx, rfl, by omega⟩⟩
  obtain ⟨Is1, Fs1, (⟨hv, hps1⟩ | ⟨xx, hv, hps1⟩)⟩ := hq
  rotate_left
  · cases hv
  cases hv
  have Gs1 := fm_tq F Fs1 rfl rfl
  show WS k 5 [(0, .ref (A 0)), (1, .int (Int32.ofInt x)), (2, .int (Int32.ofInt y))] [] (Wd A dT s1) 1 6
  refine z_aload_n X (x := A 0) rfl (List.Mem.head _) (s_getR X 0 rfl (c518_ok rfl) rfl rfl (z_load_n X (x := x) rfl (List.Mem.tail _ (List.Mem.head _)) (z_load_n X (x := y) rfl (List.Mem.tail _ (List.Mem.tail _ (List.Mem.head _))) (z_callV X 25 (rm := rmN 36) (As := [.int (Int32.ofInt x), .int (Int32.ofInt y)]) (st := []) rfl rfl (by decide) rfl (by rw [E.1, E.2.1, E.2.2.1]; exact c3_neckAt_25 G Is1 (by first | exact ⟨hps1.1, hps1.2⟩ | omega) (by first | exact ⟨p1.1, p1.2⟩ | omega)) ⟨by rw [E.2.2.2]; exact (show (rmN 36).frames + 1 ≤ (rmN 149).frames by decide), by rw [E.2.2.2]; exact (show 8 + (mNL (miB 36) + 11) + (rmN 36).locals ≤ (rmN 149).locals by decide), by rw [E.2.2.2]; exact (show 1 + 0 ≤ 1 by decide), by rw [E.2.2.2]; exact (show 6 + 0 ≤ 6 by decide)⟩ (Nat.le_of_ble_eq_true rfl) (fun vv s3 hq => ?_) (fun ee s3 hq => ?_)))))
  rotate_left
  · obtain ⟨Is3, Fs3, e4, hv, hrs3, hps3⟩ := hq; cases hv
  obtain ⟨Is3, Fs3, e4, hv, hrs3, hps3⟩ := hq
  cases hv
  have Gs3 := fm_tq Gs1 Fs3 rfl rfl
  show WS k 14 [(0, .ref (A 0)), (1, .int (Int32.ofInt x)), (2, .int (Int32.ofInt y))] [.int (Int32.ofInt e4)] (Wd A dT s3) 1 6
  exact w_iret X.1 q hRt rfl (ax_d X (show cdA 149 14 = some (.ireturn, 1, 0, 0, 0) from rfl)) (show 1 ≤ 1 by decide) (show 6 ≤ 6 by decide) ⟨_, rfl, Is3, Gs3, Or.inl ⟨e4, rfl, hrs3, trivial⟩⟩
set_option maxRecDepth 4000 in
theorem cs_shorts (G : GX l s0 D tys a0 dT) (I : Bd s) {x : Int} (p0 : rng x) : CT l s0 D A dT 150 (rmN 150) [.ref (A 0), .int (Int32.ofInt x)] s (fun o t => Bd t ∧ Fm [] [] s t ∧ ((∃ e, o = .inl (some (.int (Int32.ofInt e))) ∧ rng e ∧ (True)) ∨ ∃ x : Nat, o = .inr (exN x) ∧ (x = 0))) := by
  refine ct_ofX G (by decide) (Nat.le_of_ble_eq_true rfl) (fun k X E ET hRt hXt q => ?_)
  show WS k 0 [(0, .ref (A 0)), (1, .int (Int32.ofInt x))] [] _ 0 0
  have F : Fm [] [] s s := fm_rf _ _ s
  refine z_aload_n X (x := A 0) rfl (List.Mem.head _) (z_load_n X (x := x) rfl (List.Mem.tail _ (List.Mem.head _)) (z_callV X 0 (rm := rmN 182) (As := [.int (Int32.ofInt x)]) (st := []) rfl rfl (by decide) rfl (by rw [E.1, E.2.1, E.2.2.1]; exact cs_needPiece G I (by first | exact ⟨p0.1, p0.2⟩ | omega)) ⟨by rw [E.2.2.2]; exact (show (rmN 182).frames + 1 ≤ (rmN 150).frames by decide), by rw [E.2.2.2]; exact (show 8 + (mNL (miB 182) + 11) + (rmN 182).locals ≤ (rmN 150).locals by decide), by rw [E.2.2.2]; exact (show 0 + 1 ≤ 1 by decide), by rw [E.2.2.2]; exact (show 0 + 6 ≤ 6 by decide)⟩ (Nat.le_of_ble_eq_true rfl) (fun vv s1 hq => ?_) (fun ee s1 hq => ?_)))
  rotate_left
  · obtain ⟨Is1, Fs1, (⟨hv, hps1⟩ | ⟨xx, hv, hps1⟩)⟩ := hq
    · cases hv
    · cases hv
      have Gs1 := fm_tq F Fs1 rfl rfl
      exact x_out X.1 q (fun x hx => (hXt x hx).elim) (show 1 ≤ 1 by decide) (show 6 ≤ 6 by decide) ⟨_, rfl, Is1, Gs1, Or.inr ⟨xx, rfl, by omega⟩⟩
  obtain ⟨Is1, Fs1, (⟨hv, hps1⟩ | ⟨xx, hv, hps1⟩)⟩ := hq
  rotate_left
  · cases hv
  cases hv
  have Gs1 := fm_tq F Fs1 rfl rfl
  show WS k 5 [(0, .ref (A 0)), (1, .int (Int32.ofInt x))] [] (Wd A dT s1) 1 6
  refine z_aload_n X (x := A 0) rfl (List.Mem.head _) (s_getR X 0 rfl (c518_ok rfl) rfl rfl (z_aload_n X (x := A 0) rfl (List.Mem.head _) (s_getR X 0 rfl (c518_ok rfl) rfl rfl (z_getI X 25 rfl (c518_ok rfl) rfl rfl ?_))))
  have b3 := bi_21 Is1
  refine z_aload_n X (x := A 0) rfl (List.Mem.head _) (s_getR X 0 rfl (c518_ok rfl) rfl rfl (s_getR X 25 rfl (c518_ok rfl) rfl rfl (z_load_n X (x := x) rfl (List.Mem.tail _ (List.Mem.head _)) (z_lald X 27 rfl (c518_ok rfl) rfl (by first | exact hps1.1 | omega) (show x < 8 by first | exact oq_aaea290e hps1.2 | omega) (cbig_ok rfl) (fun j4 => ?_)))))
  refine z_aload_n X (x := A 0) rfl (List.Mem.head _) (s_getR X 0 rfl (c518_ok rfl) rfl rfl (s_getR X 25 rfl (c518_ok rfl) rfl rfl (z_load_n X (x := x) rfl (List.Mem.tail _ (List.Mem.head _)) (z_lald X 28 rfl (c518_ok rfl) rfl (by first | exact hps1.1 | omega) (show x < 8 by first | exact oq_aaea290e hps1.2 | omega) (cbig_ok rfl) (fun j5 => ?_)))))
  refine z_callV X 3 (rm := rmN 119) (As := [.int (Int32.ofInt (iI s1 21)), .long j4, .long j5]) (st := []) rfl rfl (by decide) rfl (by rw [E.1, E.2.1, E.2.2.1]; exact c9_shorterThan_3 G Is1 (by first | exact ⟨b3.1, b3.2⟩ | omega)) ⟨by rw [E.2.2.2]; exact (show (rmN 119).frames + 1 ≤ (rmN 150).frames by decide), by rw [E.2.2.2]; exact (show 8 + (mNL (miB 119) + 11) + (rmN 119).locals ≤ (rmN 150).locals by decide), by rw [E.2.2.2]; exact (show 1 + 0 ≤ 1 by decide), by rw [E.2.2.2]; exact (show 6 + 0 ≤ 6 by decide)⟩ (Nat.le_of_ble_eq_true rfl) (fun vv s6 hq => ?_) (fun ee s6 hq => ?_)
  rotate_left
  · obtain ⟨Is6, Fs6, e7, hv, hrs6, hps6⟩ := hq; cases hv
  obtain ⟨Is6, Fs6, e7, hv, hrs6, hps6⟩ := hq
  cases hv
  have Gs6 := fm_tq Gs1 Fs6 rfl rfl
  show WS k 37 [(0, .ref (A 0)), (1, .int (Int32.ofInt x))] [.int (Int32.ofInt e7)] (Wd A dT s6) 1 6
  exact w_iret X.1 q hRt rfl (ax_d X (show cdA 150 37 = some (.ireturn, 1, 0, 0, 0) from rfl)) (show 1 ≤ 1 by decide) (show 6 ≤ 6 by decide) ⟨_, rfl, Is6, Gs6, Or.inl ⟨e7, rfl, hrs6, trivial⟩⟩
set_option maxRecDepth 4000 in
theorem cs_length (G : GX l s0 D tys a0 dT) (I : Bd s) {x : Int} (p0 : rng x) : CT l s0 D A dT 151 (rmN 151) [.ref (A 0), .int (Int32.ofInt x)] s (fun o t => Bd t ∧ Fm [21] [] s t ∧ ((∃ e, o = .inl (some (.int (Int32.ofInt e))) ∧ rng e ∧ (True)) ∨ ∃ x : Nat, o = .inr (exN x) ∧ (x = 0))) := by
  refine ct_ofX G (by decide) (Nat.le_of_ble_eq_true rfl) (fun k X E ET hRt hXt q => ?_)
  show WS k 0 [(0, .ref (A 0)), (1, .int (Int32.ofInt x))] [] _ 0 0
  have F : Fm [21] [] s s := fm_rf _ _ s
  refine z_aload_n X (x := A 0) rfl (List.Mem.head _) (z_load_n X (x := x) rfl (List.Mem.tail _ (List.Mem.head _)) (z_const X rfl (z_bipush X rfl (z_callV X 0 (rm := rmN 184) (As := [.int (Int32.ofInt x), .int (Int32.ofInt 0), .int (Int32.ofInt 9)]) (st := []) rfl rfl (by decide) rfl (by rw [E.1, E.2.1, E.2.2.1]; exact cs_needWithin G I (by first | exact ⟨p0.1, p0.2⟩ | omega) (by first | exact ⟨by decide, by decide⟩ | omega) (by first | exact ⟨by decide, by decide⟩ | omega)) ⟨by rw [E.2.2.2]; exact (show (rmN 184).frames + 1 ≤ (rmN 151).frames by decide), by rw [E.2.2.2]; exact (show 8 + (mNL (miB 184) + 11) + (rmN 184).locals ≤ (rmN 151).locals by decide), by rw [E.2.2.2]; exact (show 0 + 1 ≤ 1 by decide), by rw [E.2.2.2]; exact (show 0 + 6 ≤ 6 by decide)⟩ (Nat.le_of_ble_eq_true rfl) (fun vv s1 hq => ?_) (fun ee s1 hq => ?_)))))
  rotate_left
  · obtain ⟨Is1, Fs1, (⟨hv, hps1⟩ | ⟨xx, hv, hps1⟩)⟩ := hq
    · cases hv
    · cases hv
      have Gs1 := fm_tq F Fs1 rfl rfl
      exact x_out X.1 q (fun x hx => (hXt x hx).elim) (show 1 ≤ 1 by decide) (show 6 ≤ 6 by decide) ⟨_, rfl, Is1, Gs1, Or.inr ⟨xx, rfl, by omega⟩⟩
  obtain ⟨Is1, Fs1, (⟨hv, hps1⟩ | ⟨xx, hv, hps1⟩)⟩ := hq
  rotate_left
  · cases hv
  cases hv
  have Gs1 := fm_tq F Fs1 rfl rfl
  show WS k 8 [(0, .ref (A 0)), (1, .int (Int32.ofInt x))] [] (Wd A dT s1) 1 6
  refine z_aload_n X (x := A 0) rfl (List.Mem.head _) (s_getR X 0 rfl (c518_ok rfl) rfl rfl (z_getI X 25 rfl (c518_ok rfl) rfl rfl ?_))
  have b3 := bi_21 Is1
  refine z_store_n X (lv' := [(2, .int (Int32.ofInt (iI s1 21))), (0, .ref (A 0)), (1, .int (Int32.ofInt x))]) rfl (by decide) (fun _ h => h) (z_aload_n X (x := A 0) rfl (List.Mem.tail _ (List.Mem.head _)) (s_getR X 0 rfl (c518_ok rfl) rfl rfl (z_load_n X (x := x) rfl (List.Mem.tail _ (List.Mem.tail _ (List.Mem.head _))) (s_putI X 25 rfl (c518_ok rfl) rfl rfl (by decide) rfl rfl rfl (wd_gen (fun s4 hs4 => ?_))))))
  have Is4 : Bd s4 := eqB hs4 (bd_I Is1 (show (0 : Int) ≤ x ∧ x ≤ 9 by first | exact ⟨hps1.1, hps1.2⟩ | omega) ⟨by first | exact p0.1 | omega, by first | exact p0.2 | omega⟩)
  have Fs4 := eqF hs4 (fm_I Gs1 (inl_ok (a := 21) rfl))
  have vs4 : iI s4 21 = x := eqI hs4 (iI_u ⟨by first | exact p0.1 | omega, by first | exact p0.2 | omega⟩)
  refine z_load_n X (x := (iI s1 21)) rfl (List.Mem.head _) ?_
  exact w_iret X.1 q hRt rfl (ax_d X (show cdA 151 25 = some (.ireturn, 1, 0, 0, 0) from rfl)) (show 1 ≤ 1 by decide) (show 6 ≤ 6 by decide) ⟨_, rfl, Is4, Fs4, Or.inl ⟨(iI s1 21), rfl, (rng_to _), trivial⟩⟩
set_option maxRecDepth 4000 in
theorem cs_edge (G : GX l s0 D tys a0 dT) (I : Bd s) {x : Int} (p0 : rng x) : CT l s0 D A dT 152 (rmN 152) [.ref (A 0), .int (Int32.ofInt x)] s (fun o t => Bd t ∧ Fm [] [] s t ∧ ((∃ e, o = .inl (some (.int (Int32.ofInt e))) ∧ rng e ∧ (True)) ∨ ∃ x : Nat, o = .inr (exN x) ∧ (x = 0))) := by
  refine ct_ofX G (by decide) (Nat.le_of_ble_eq_true rfl) (fun k X E ET hRt hXt q => ?_)
  show WS k 0 [(0, .ref (A 0)), (1, .int (Int32.ofInt x))] [] _ 0 0
  have F : Fm [] [] s s := fm_rf _ _ s
  refine z_aload_n X (x := A 0) rfl (List.Mem.head _) (z_load_n X (x := x) rfl (List.Mem.tail _ (List.Mem.head _)) (z_callV X 0 (rm := rmN 182) (As := [.int (Int32.ofInt x)]) (st := []) rfl rfl (by decide) rfl (by rw [E.1, E.2.1, E.2.2.1]; exact cs_needPiece G I (by first | exact ⟨p0.1, p0.2⟩ | omega)) ⟨by rw [E.2.2.2]; exact (show (rmN 182).frames + 1 ≤ (rmN 152).frames by decide), by rw [E.2.2.2]; exact (show 8 + (mNL (miB 182) + 11) + (rmN 182).locals ≤ (rmN 152).locals by decide), by rw [E.2.2.2]; exact (show 0 + 1 ≤ 1 by decide), by rw [E.2.2.2]; exact (show 0 + 6 ≤ 6 by decide)⟩ (Nat.le_of_ble_eq_true rfl) (fun vv s1 hq => ?_) (fun ee s1 hq => ?_)))
  rotate_left
  · obtain ⟨Is1, Fs1, (⟨hv, hps1⟩ | ⟨xx, hv, hps1⟩)⟩ := hq
    · cases hv
    · cases hv
      have Gs1 := fm_tq F Fs1 rfl rfl
      exact x_out X.1 q (fun x hx => (hXt x hx).elim) (show 1 ≤ 1 by decide) (show 6 ≤ 6 by decide) ⟨_, rfl, Is1, Gs1, Or.inr ⟨xx, rfl, by omega⟩⟩
  obtain ⟨Is1, Fs1, (⟨hv, hps1⟩ | ⟨xx, hv, hps1⟩)⟩ := hq
  rotate_left
  · cases hv
  cases hv
  have Gs1 := fm_tq F Fs1 rfl rfl
  show WS k 5 [(0, .ref (A 0)), (1, .int (Int32.ofInt x))] [] (Wd A dT s1) 1 6
  refine z_aload_n X (x := A 0) rfl (List.Mem.head _) (s_getR X 0 rfl (c518_ok rfl) rfl rfl (z_load_n X (x := x) rfl (List.Mem.tail _ (List.Mem.head _)) (z_aload_n X (x := A 0) rfl (List.Mem.head _) (s_getR X 0 rfl (c518_ok rfl) rfl rfl (z_const X rfl (z_callV X 3 (rm := rmN 112) (As := [.int (Int32.ofInt 0)]) (st := [.int (Int32.ofInt x), .ref (A 25)]) rfl rfl (by decide) rfl (by rw [E.1, E.2.1, E.2.2.1]; exact c9_allMeets_3 G Is1 (by first | exact ⟨by decide, by decide⟩ | omega)) ⟨by rw [E.2.2.2]; exact (show (rmN 112).frames + 1 ≤ (rmN 152).frames by decide), by rw [E.2.2.2]; exact (show 8 + (mNL (miB 112) + 11) + (rmN 112).locals ≤ (rmN 152).locals by decide), by rw [E.2.2.2]; exact (show 1 + 0 ≤ 1 by decide), by rw [E.2.2.2]; exact (show 6 + 0 ≤ 6 by decide)⟩ (Nat.le_of_ble_eq_true rfl) (fun vv s3 hq => ?_) (fun ee s3 hq => ?_)))))))
  rotate_left
  · obtain ⟨Is3, Fs3, e4, hv, hrs3, hps3⟩ := hq; cases hv
  obtain ⟨Is3, Fs3, e4, hv, hrs3, hps3⟩ := hq
  cases hv
  have Gs3 := fm_tq Gs1 Fs3 rfl rfl
  show WS k 18 [(0, .ref (A 0)), (1, .int (Int32.ofInt x))] [.long e4, .int (Int32.ofInt x), .ref (A 25)] (Wd A dT s3) 1 6
  refine z_aload_n X (x := A 0) rfl (List.Mem.head _) (s_getR X 0 rfl (c518_ok rfl) rfl rfl (z_const X rfl (z_callV X 3 (rm := rmN 112) (As := [.int (Int32.ofInt 1)]) (st := [.long e4, .int (Int32.ofInt x), .ref (A 25)]) rfl rfl (by decide) rfl (by rw [E.1, E.2.1, E.2.2.1]; exact c9_allMeets_3 G Is3 (by first | exact ⟨by decide, by decide⟩ | omega)) ⟨by rw [E.2.2.2]; exact (show (rmN 112).frames + 1 ≤ (rmN 152).frames by decide), by rw [E.2.2.2]; exact (show 8 + (mNL (miB 112) + 11) + (rmN 112).locals ≤ (rmN 152).locals by decide), by rw [E.2.2.2]; exact (show 1 + 0 ≤ 1 by decide), by rw [E.2.2.2]; exact (show 6 + 0 ≤ 6 by decide)⟩ (Nat.le_of_ble_eq_true rfl) (fun vv s5 hq => ?_) (fun ee s5 hq => ?_))))
  rotate_left
  · obtain ⟨Is5, Fs5, e6, hv, hrs5, hps5⟩ := hq; cases hv
  obtain ⟨Is5, Fs5, e6, hv, hrs5, hps5⟩ := hq
  cases hv
  have Gs5 := fm_tq Gs3 Fs5 rfl rfl
  show WS k 26 [(0, .ref (A 0)), (1, .int (Int32.ofInt x))] [.long e6, .long e4, .int (Int32.ofInt x), .ref (A 25)] (Wd A dT s5) 1 6
  refine z_callV X 25 (rm := rmN 38) (As := [.int (Int32.ofInt x), .long e4, .long e6]) (st := []) rfl rfl (by decide) rfl (by rw [E.1, E.2.1, E.2.2.1]; exact c3_countAtEdge_25 G Is5 (by first | exact ⟨hps1.1, hps1.2⟩ | omega)) ⟨by rw [E.2.2.2]; exact (show (rmN 38).frames + 1 ≤ (rmN 152).frames by decide), by rw [E.2.2.2]; exact (show 8 + (mNL (miB 38) + 11) + (rmN 38).locals ≤ (rmN 152).locals by decide), by rw [E.2.2.2]; exact (show 1 + 0 ≤ 1 by decide), by rw [E.2.2.2]; exact (show 6 + 0 ≤ 6 by decide)⟩ (Nat.le_of_ble_eq_true rfl) (fun vv s7 hq => ?_) (fun ee s7 hq => ?_)
  rotate_left
  · obtain ⟨Is7, Fs7, e8, hv, hrs7, hps7⟩ := hq; cases hv
  obtain ⟨Is7, Fs7, e8, hv, hrs7, hps7⟩ := hq
  cases hv
  have Gs7 := fm_tq Gs5 Fs7 rfl rfl
  show WS k 29 [(0, .ref (A 0)), (1, .int (Int32.ofInt x))] [.int (Int32.ofInt e8)] (Wd A dT s7) 1 6
  exact w_iret X.1 q hRt rfl (ax_d X (show cdA 152 29 = some (.ireturn, 1, 0, 0, 0) from rfl)) (show 1 ≤ 1 by decide) (show 6 ≤ 6 by decide) ⟨_, rfl, Is7, Gs7, Or.inl ⟨e8, rfl, hrs7, trivial⟩⟩
set_option maxRecDepth 4000 in
theorem cs_region (G : GX l s0 D tys a0 dT) (I : Bd s) {x : Int} (p0 : rng x) : CT l s0 D A dT 157 (rmN 157) [.ref (A 0), .int (Int32.ofInt x)] s (fun o t => Bd t ∧ Fm [28] [39] s t ∧ ((∃ e, o = .inl (some (.int (Int32.ofInt e))) ∧ rng e ∧ (True)) ∨ ∃ x : Nat, o = .inr (exN x) ∧ (x = 2))) := by
  refine ct_ofX G (by decide) (Nat.le_of_ble_eq_true rfl) (fun k X E ET hRt hXt q => ?_)
  show WS k 0 [(0, .ref (A 0)), (1, .int (Int32.ofInt x))] [] _ 0 0
  have F : Fm [28] [39] s s := fm_rf _ _ s
  refine z_aload_n X (x := A 0) rfl (List.Mem.head _) (z_load_n X (x := x) rfl (List.Mem.tail _ (List.Mem.head _)) (z_callV X 0 (rm := rmN 181) (As := [.int (Int32.ofInt x)]) (st := []) rfl rfl (by decide) rfl (by rw [E.1, E.2.1, E.2.2.1]; exact cs_needCell G I (by first | exact ⟨p0.1, p0.2⟩ | omega)) ⟨by rw [E.2.2.2]; exact (show (rmN 181).frames + 1 ≤ (rmN 157).frames by decide), by rw [E.2.2.2]; exact (show 8 + (mNL (miB 181) + 11) + (rmN 181).locals ≤ (rmN 157).locals by decide), by rw [E.2.2.2]; exact (show 0 + 1 ≤ 1 by decide), by rw [E.2.2.2]; exact (show 0 + 6 ≤ 6 by decide)⟩ (Nat.le_of_ble_eq_true rfl) (fun vv s1 hq => ?_) (fun ee s1 hq => ?_)))
  rotate_left
  · obtain ⟨Is1, Fs1, (⟨hv, hps1⟩ | ⟨xx, hv, hps1⟩)⟩ := hq
    · cases hv
    · cases hv
      have Gs1 := fm_tq F Fs1 rfl rfl
      exact x_out X.1 q (fun x hx => (hXt x hx).elim) (show 1 ≤ 1 by decide) (show 6 ≤ 6 by decide) ⟨_, rfl, Is1, Gs1, Or.inr ⟨xx, rfl, by omega⟩⟩
  obtain ⟨Is1, Fs1, (⟨hv, hps1⟩ | ⟨xx, hv, hps1⟩)⟩ := hq
  rotate_left
  · cases hv
  cases hv
  have Gs1 := fm_tq F Fs1 rfl rfl
  show WS k 5 [(0, .ref (A 0)), (1, .int (Int32.ofInt x))] [] (Wd A dT s1) 1 6
  refine z_aload_n X (x := A 0) rfl (List.Mem.head _) (s_getR X 0 rfl (c518_ok rfl) rfl rfl (z_load_n X (x := x) rfl (List.Mem.tail _ (List.Mem.head _)) (z_callV X 46 (rm := rmN 54) (As := [.int (Int32.ofInt x)]) (st := []) rfl rfl (by decide) rfl (by rw [E.1, E.2.1, E.2.2.1]; exact c5_add_46 G Is1 (by first | exact ⟨hps1.1, hps1.2⟩ | omega)) ⟨by rw [E.2.2.2]; exact (show (rmN 54).frames + 1 ≤ (rmN 157).frames by decide), by rw [E.2.2.2]; exact (show 8 + (mNL (miB 54) + 11) + (rmN 54).locals ≤ (rmN 157).locals by decide), by rw [E.2.2.2]; exact (show 1 + 0 ≤ 1 by decide), by rw [E.2.2.2]; exact (show 6 + 0 ≤ 6 by decide)⟩ (Nat.le_of_ble_eq_true rfl) (fun vv s3 hq => ?_) (fun ee s3 hq => ?_))))
  rotate_left
  · obtain ⟨Is3, Fs3, e4, hv, hrs3, hps3⟩ := hq; cases hv
  obtain ⟨Is3, Fs3, e4, hv, hrs3, hps3⟩ := hq
  cases hv
  have Gs3 := fm_tq Gs1 Fs3 rfl rfl
  show WS k 13 [(0, .ref (A 0)), (1, .int (Int32.ofInt x))] [.int (Int32.ofInt e4)] (Wd A dT s3) 1 6
  exact w_iret X.1 q hRt rfl (ax_d X (show cdA 157 13 = some (.ireturn, 1, 0, 0, 0) from rfl)) (show 1 ≤ 1 by decide) (show 6 ≤ 6 by decide) ⟨_, rfl, Is3, Gs3, Or.inl ⟨e4, rfl, hrs3, trivial⟩⟩
set_option maxRecDepth 4000 in
theorem cs_parted (G : GX l s0 D tys a0 dT) (I : Bd s) {x y : Int} (p0 : rng x) (p1 : rng y) : CT l s0 D A dT 158 (rmN 158) [.ref (A 0), .int (Int32.ofInt x), .int (Int32.ofInt y)] s (fun o t => Bd t ∧ Fm [22, 23, 24, 31, 29, 30] [33, 26, 27, 28, 29, 30, 31, 32, 20, 40, 41, 42, 45, 43, 44] s t ∧ ((∃ e, o = .inl (some (.int (Int32.ofInt e))) ∧ rng e ∧ (True)) ∨ ∃ x : Nat, o = .inr (exN x) ∧ (x = 0))) := by
  refine ct_ofX G (by decide) (Nat.le_of_ble_eq_true rfl) (fun k X E ET hRt hXt q => ?_)
  show WS k 0 [(0, .ref (A 0)), (1, .int (Int32.ofInt x)), (2, .int (Int32.ofInt y))] [] _ 0 0
  have F : Fm [22, 23, 24, 31, 29, 30] [33, 26, 27, 28, 29, 30, 31, 32, 20, 40, 41, 42, 45, 43, 44] s s := fm_rf _ _ s
  have b1 := bi_28 I
  refine z_aload_n X (x := A 0) rfl (List.Mem.head _) (z_load_n X (x := x) rfl (List.Mem.tail _ (List.Mem.head _)) (z_const X rfl (z_const X rfl (z_callV X 0 (rm := rmN 184) (As := [.int (Int32.ofInt x), .int (Int32.ofInt 1), .int (Int32.ofInt 3)]) (st := []) rfl rfl (by decide) rfl (by rw [E.1, E.2.1, E.2.2.1]; exact cs_needWithin G I (by first | exact ⟨p0.1, p0.2⟩ | omega) (by first | exact ⟨by decide, by decide⟩ | omega) (by first | exact ⟨by decide, by decide⟩ | omega)) ⟨by rw [E.2.2.2]; exact (show (rmN 184).frames + 1 ≤ (rmN 158).frames by decide), by rw [E.2.2.2]; exact (show 8 + (mNL (miB 184) + 11) + (rmN 184).locals ≤ (rmN 158).locals by decide), by rw [E.2.2.2]; exact (show 0 + 1 ≤ 2 by decide), by rw [E.2.2.2]; exact (show 0 + 6 ≤ 12 by decide)⟩ (Nat.le_of_ble_eq_true rfl) (fun vv s2 hq => ?_) (fun ee s2 hq => ?_)))))
  rotate_left
  · obtain ⟨Is2, Fs2, (⟨hv, hps2⟩ | ⟨xx, hv, hps2⟩)⟩ := hq
    · cases hv
    · cases hv
      have Gs2 := fm_tq F Fs2 rfl rfl
      have ws2_28 : iI s2 28 = iI s 28 := fm_iq Fs2 rfl
      exact x_out X.1 q (fun x hx => (hXt x hx).elim) (show 1 ≤ 2 by decide) (show 6 ≤ 12 by decide) ⟨_, rfl, Is2, Gs2, Or.inr ⟨xx, rfl, by omega⟩⟩
  obtain ⟨Is2, Fs2, (⟨hv, hps2⟩ | ⟨xx, hv, hps2⟩)⟩ := hq
  rotate_left
  · cases hv
  cases hv
  have Gs2 := fm_tq F Fs2 rfl rfl
  have ws2_28 : iI s2 28 = iI s 28 := fm_iq Fs2 rfl
  show WS k 7 [(0, .ref (A 0)), (1, .int (Int32.ofInt x)), (2, .int (Int32.ofInt y))] [] (Wd A dT s2) 1 6
  refine z_aload_n X (x := A 0) rfl (List.Mem.head _) (z_load_n X (x := y) rfl (List.Mem.tail _ (List.Mem.tail _ (List.Mem.head _))) (z_bipush X rfl (z_bipush X rfl (z_callV X 0 (rm := rmN 184) (As := [.int (Int32.ofInt y), .int (Int32.ofInt (-2)), .int (Int32.ofInt 7)]) (st := []) rfl rfl (by decide) rfl (by rw [E.1, E.2.1, E.2.2.1]; exact cs_needWithin G Is2 (by first | exact ⟨p1.1, p1.2⟩ | omega) (by first | exact ⟨by decide, by decide⟩ | omega) (by first | exact ⟨by decide, by decide⟩ | omega)) ⟨by rw [E.2.2.2]; exact (show (rmN 184).frames + 1 ≤ (rmN 158).frames by decide), by rw [E.2.2.2]; exact (show 8 + (mNL (miB 184) + 11) + (rmN 184).locals ≤ (rmN 158).locals by decide), by rw [E.2.2.2]; exact (show 1 + 1 ≤ 2 by decide), by rw [E.2.2.2]; exact (show 6 + 6 ≤ 12 by decide)⟩ (Nat.le_of_ble_eq_true rfl) (fun vv s4 hq => ?_) (fun ee s4 hq => ?_)))))
  rotate_left
  · obtain ⟨Is4, Fs4, (⟨hv, hps4⟩ | ⟨xx, hv, hps4⟩)⟩ := hq
    · cases hv
    · cases hv
      have Gs4 := fm_tq Gs2 Fs4 rfl rfl
      have ws4_28 : iI s4 28 = iI s2 28 := fm_iq Fs4 rfl
      exact x_out X.1 q (fun x hx => (hXt x hx).elim) (show (1 + 1) ≤ 2 by decide) (show (6 + 6) ≤ 12 by decide) ⟨_, rfl, Is4, Gs4, Or.inr ⟨xx, rfl, by first | (clear hps2; omega) | omega⟩⟩
  obtain ⟨Is4, Fs4, (⟨hv, hps4⟩ | ⟨xx, hv, hps4⟩)⟩ := hq
  rotate_left
  · cases hv
  cases hv
  have Gs4 := fm_tq Gs2 Fs4 rfl rfl
  have ws4_28 : iI s4 28 = iI s2 28 := fm_iq Fs4 rfl
  show WS k 16 [(0, .ref (A 0)), (1, .int (Int32.ofInt x)), (2, .int (Int32.ofInt y))] [] (Wd A dT s4) (1 + 1) (6 + 6)
  refine z_load_n X (x := y) rfl (List.Mem.tail _ (List.Mem.tail _ (List.Mem.head _))) (z_aload_n X (x := A 0) rfl (List.Mem.head _) (s_getR X 0 rfl (c518_ok rfl) rfl rfl (z_getI X 46 rfl (c518_ok rfl) rfl rfl ?_)))
  have b6 := bi_28 Is4
  refine z_icmp_ge X (t := 38) rfl rfl ⟨by first | exact p1.1 | omega, by first | exact p1.2 | omega⟩ (rng_to _) (fun g7 => ?_) (fun g7 => ?_)
  ·
    refine z_const X rfl ?_
    exact w_iret X.1 q hRt rfl (ax_d X (show cdA 158 39 = some (.ireturn, 1, 0, 0, 0) from rfl)) (show (1 + 1) ≤ 2 by decide) (show (6 + 6) ≤ 12 by decide) ⟨_, rfl, Is4, Gs4, Or.inl ⟨(-1), rfl, (by decide), trivial⟩⟩
  ·
    refine z_aload_n X (x := A 0) rfl (List.Mem.head _) (s_getR X 0 rfl (c518_ok rfl) rfl rfl (z_load_n X (x := x) rfl (List.Mem.tail _ (List.Mem.head _)) (z_callV X 46 (rm := rmN 55) (As := [.int (Int32.ofInt x)]) (st := []) rfl rfl (by decide) rfl (by rw [E.1, E.2.1, E.2.2.1]; exact c5_solve_46 G Is4 (by first | exact ⟨hps2.1, hps2.2⟩ | omega)) ⟨by rw [E.2.2.2]; exact (show (rmN 55).frames + 1 ≤ (rmN 158).frames by decide), by rw [E.2.2.2]; exact (show 8 + (mNL (miB 55) + 11) + (rmN 55).locals ≤ (rmN 158).locals by decide), by rw [E.2.2.2]; exact (show (1 + 1) + 0 ≤ 2 by decide), by rw [E.2.2.2]; exact (show (6 + 6) + 0 ≤ 12 by decide)⟩ (Nat.le_of_ble_eq_true rfl) (fun vv s8 hq => ?_) (fun ee s8 hq => ?_))))
    rotate_left
    · obtain ⟨Is8, Fs8, e9, hv, hrs8, hps8⟩ := hq; cases hv
    obtain ⟨Is8, Fs8, e9, hv, hrs8, hps8⟩ := hq
    cases hv
    have Gs8 := fm_tq Gs4 Fs8 rfl rfl
    have ws8_28 : iI s8 28 = iI s4 28 := fm_iq Fs8 rfl
    show WS k 35 [(0, .ref (A 0)), (1, .int (Int32.ofInt x)), (2, .int (Int32.ofInt y))] [.int (Int32.ofInt e9)] (Wd A dT s8) (1 + 1) (6 + 6)
    refine z_if_ne X (t := 40) rfl rfl hrs8 (fun g10 => ?_) (fun g10 => ?_)
    ·
      refine z_load_n X (x := y) rfl (List.Mem.tail _ (List.Mem.tail _ (List.Mem.head _))) (z_const X rfl ?_)
      have N11 : ∀ e12 : Int, (((y ≠ (-1)) ∧ (y ≠ (-2)) ∧ (((-2147483648) : Int) ≤ iC s8 45 (y).toNat ∧ iC s8 45 (y).toNat ≤ 2147483647) ∧ e12 = (iC s8 45 (y).toNat)) ∨ ((y ≠ (-1)) ∧ (y = (-2)) ∧ (((-2147483648) : Int) ≤ iI s8 30 ∧ iI s8 30 ≤ 2147483647) ∧ e12 = (iI s8 30)) ∨ ((y = (-1)) ∧ (((-2147483648) : Int) ≤ iI s8 29 ∧ iI s8 29 ≤ 2147483647) ∧ e12 = (iI s8 29))) → WS k 80 [(0, .ref (A 0)), (1, .int (Int32.ofInt x)), (2, .int (Int32.ofInt y))] [.int (Int32.ofInt e12)] (Wd A dT s8) (1 + 1) (6 + 6) := by
        intro e12 he12
        exact w_iret X.1 q hRt rfl (ax_d X (show cdA 158 80 = some (.ireturn, 1, 0, 0, 0) from rfl)) (show (1 + 1) ≤ 2 by decide) (show (6 + 6) ≤ 12 by decide) ⟨_, rfl, Is8, Gs8, Or.inl ⟨e12, rfl, ⟨by first | exact oq_c876a415 he12 | omega, by first | exact oq_a59aa581 he12 | omega⟩, trivial⟩⟩
      refine z_icmp_ne X (t := 55) rfl rfl ⟨by first | exact p1.1 | omega, by first | exact p1.2 | omega⟩ (by decide) (fun g13 => ?_) (fun g13 => ?_)
      ·
        refine z_load_n X (x := y) rfl (List.Mem.tail _ (List.Mem.tail _ (List.Mem.head _))) (z_bipush X rfl (z_icmp_ne X (t := 71) rfl rfl ⟨by first | exact p1.1 | omega, by first | exact p1.2 | omega⟩ (by decide) (fun g14 => ?_) (fun g14 => ?_)))
        ·
          refine z_aload_n X (x := A 0) rfl (List.Mem.head _) (s_getR X 0 rfl (c518_ok rfl) rfl rfl (s_getR X 46 rfl (c518_ok rfl) rfl rfl (z_load_n X (x := y) rfl (List.Mem.tail _ (List.Mem.tail _ (List.Mem.head _))) (z_ald X 53 rfl (c518_ok rfl) rfl (by first | exact oq_52fc8c25 g14 g13 hps4.1 | omega) (show y < 8 by first | exact oq_aaea290e hps4.2 | omega) (cbig_ok rfl) ?_))))
          have b15 := bc_45 Is8 (show (y).toNat < 8 by first | exact oq_c19a3aae hps4.2 | omega)
          exact N11 _ (Or.inl ⟨g13, g14, b15, rfl⟩)
        ·
          refine z_aload_n X (x := A 0) rfl (List.Mem.head _) (s_getR X 0 rfl (c518_ok rfl) rfl rfl (z_getI X 46 rfl (c518_ok rfl) rfl rfl ?_))
          have b16 := bi_30 Is8
          exact z_goto X (t := 80) rfl rfl (N11 _ (Or.inr (Or.inl ⟨g13, g14, b16, rfl⟩)))
      ·
        refine z_aload_n X (x := A 0) rfl (List.Mem.head _) (s_getR X 0 rfl (c518_ok rfl) rfl rfl (z_getI X 46 rfl (c518_ok rfl) rfl rfl ?_))
        have b17 := bi_29 Is8
        exact z_goto X (t := 80) rfl rfl (N11 _ (Or.inr (Or.inr (⟨g13, b17, rfl⟩))))
    ·
      refine z_const X rfl ?_
      exact w_iret X.1 q hRt rfl (ax_d X (show cdA 158 39 = some (.ireturn, 1, 0, 0, 0) from rfl)) (show (1 + 1) ≤ 2 by decide) (show (6 + 6) ≤ 12 by decide) ⟨_, rfl, Is8, Gs8, Or.inl ⟨(-1), rfl, (by decide), trivial⟩⟩
set_option maxRecDepth 4000 in
theorem cs_clear (G : GX l s0 D tys a0 dT) (I : Bd s)  : CT l s0 D A dT 159 (rmN 159) [.ref (A 0)] s (fun o t => Bd t ∧ Fm [28] [] s t ∧ ∃ e, o = .inl (some (.int (Int32.ofInt e))) ∧ rng e ∧ (True)) := by
  refine ct_ofX G (by decide) (Nat.le_of_ble_eq_true rfl) (fun k X E ET hRt hXt q => ?_)
  show WS k 0 [(0, .ref (A 0))] [] _ 0 0
  have F : Fm [28] [] s s := fm_rf _ _ s
  refine z_aload_n X (x := A 0) rfl (List.Mem.head _) (s_getR X 0 rfl (c518_ok rfl) rfl rfl (z_getI X 46 rfl (c518_ok rfl) rfl rfl ?_))
  have b1 := bi_28 I
  refine z_store_n X (lv' := [(1, .int (Int32.ofInt (iI s 28))), (0, .ref (A 0))]) rfl (by decide) (fun _ h => h) (z_aload_n X (x := A 0) rfl (List.Mem.tail _ (List.Mem.head _)) (s_getR X 0 rfl (c518_ok rfl) rfl rfl (z_const X rfl (s_putI X 46 rfl (c518_ok rfl) rfl rfl (by decide) rfl rfl rfl (wd_gen (fun s2 hs2 => ?_))))))
  have Is2 : Bd s2 := eqB hs2 (bd_I I (show (0 : Int) ≤ 0 ∧ 0 ≤ 8 by first | exact ⟨by decide, by decide⟩ | omega) (by decide))
  have Fs2 := eqF hs2 (fm_I F (inl_ok (a := 28) rfl))
  have vs2 : iI s2 28 = 0 := eqI hs2 (iI_u (by decide))
  exact z_load_n X (x := (iI s 28)) rfl (List.Mem.head _) (w_iret X.1 q hRt rfl (ax_d X (show cdA 159 17 = some (.ireturn, 1, 0, 0, 0) from rfl)) (Nat.zero_le _) (Nat.zero_le _) ⟨_, rfl, Is2, Fs2, (iI s 28), rfl, (rng_to _), trivial⟩)
set_option maxRecDepth 4000 in
theorem cs_configure (G : GX l s0 D tys a0 dT) (I : Bd s) {x : Int} (p0 : rng x) : CT l s0 D A dT 160 (rmN 160) [.ref (A 0), .int (Int32.ofInt x)] s (fun o t => Bd t ∧ Fm [32] [46] s t ∧ ((∃ e, o = .inl (some (.int (Int32.ofInt e))) ∧ rng e ∧ (True)) ∨ ∃ x : Nat, o = .inr (exN x) ∧ (x = 0))) := by
  refine ct_ofX G (by decide) (Nat.le_of_ble_eq_true rfl) (fun k X E ET hRt hXt q => ?_)
  show WS k 0 [(0, .ref (A 0)), (1, .int (Int32.ofInt x))] [] _ 0 0
  have F : Fm [32] [46] s s := fm_rf _ _ s
  have b1 := bi_32 I
  refine z_aload_n X (x := A 0) rfl (List.Mem.head _) (z_load_n X (x := x) rfl (List.Mem.tail _ (List.Mem.head _)) (z_const X rfl (z_ldcw X rfl (z_callV X 0 (rm := rmN 184) (As := [.int (Int32.ofInt x), .int (Int32.ofInt 0), .int (Int32.ofInt 16777215)]) (st := []) rfl rfl (by decide) rfl (by rw [E.1, E.2.1, E.2.2.1]; exact cs_needWithin G I (by first | exact ⟨p0.1, p0.2⟩ | omega) (by first | exact ⟨by decide, by decide⟩ | omega) (by first | exact ⟨by decide, by decide⟩ | omega)) ⟨by rw [E.2.2.2]; exact (show (rmN 184).frames + 1 ≤ (rmN 160).frames by decide), by rw [E.2.2.2]; exact (show 8 + (mNL (miB 184) + 11) + (rmN 184).locals ≤ (rmN 160).locals by decide), by rw [E.2.2.2]; exact (show 0 + 1 ≤ 1 by decide), by rw [E.2.2.2]; exact (show 0 + 6 ≤ 6 by decide)⟩ (Nat.le_of_ble_eq_true rfl) (fun vv s2 hq => ?_) (fun ee s2 hq => ?_)))))
  rotate_left
  · obtain ⟨Is2, Fs2, (⟨hv, hps2⟩ | ⟨xx, hv, hps2⟩)⟩ := hq
    · cases hv
    · cases hv
      have Gs2 := fm_tq F Fs2 rfl rfl
      have ws2_32 : iI s2 32 = iI s 32 := fm_iq Fs2 rfl
      exact x_out X.1 q (fun x hx => (hXt x hx).elim) (show 1 ≤ 1 by decide) (show 6 ≤ 6 by decide) ⟨_, rfl, Is2, Gs2, Or.inr ⟨xx, rfl, by omega⟩⟩
  obtain ⟨Is2, Fs2, (⟨hv, hps2⟩ | ⟨xx, hv, hps2⟩)⟩ := hq
  rotate_left
  · cases hv
  cases hv
  have Gs2 := fm_tq F Fs2 rfl rfl
  have ws2_32 : iI s2 32 = iI s 32 := fm_iq Fs2 rfl
  show WS k 9 [(0, .ref (A 0)), (1, .int (Int32.ofInt x))] [] (Wd A dT s2) 1 6
  refine z_aload_n X (x := A 0) rfl (List.Mem.head _) (s_getR X 0 rfl (c518_ok rfl) rfl rfl (z_load_n X (x := x) rfl (List.Mem.tail _ (List.Mem.head _)) (z_callV X 54 (rm := rmN 43) (As := [.int (Int32.ofInt x)]) (st := []) rfl rfl (by decide) rfl (by rw [E.1, E.2.1, E.2.2.1]; exact c4_add_54 G Is2 (by first | exact ⟨hps2.1, hps2.2⟩ | omega)) ⟨by rw [E.2.2.2]; exact (show (rmN 43).frames + 1 ≤ (rmN 160).frames by decide), by rw [E.2.2.2]; exact (show 8 + (mNL (miB 43) + 11) + (rmN 43).locals ≤ (rmN 160).locals by decide), by rw [E.2.2.2]; exact (show 1 + 0 ≤ 1 by decide), by rw [E.2.2.2]; exact (show 6 + 0 ≤ 6 by decide)⟩ (Nat.le_of_ble_eq_true rfl) (fun vv s4 hq => ?_) (fun ee s4 hq => ?_))))
  rotate_left
  · obtain ⟨Is4, Fs4, e5, hv, hrs4, hps4⟩ := hq; cases hv
  obtain ⟨Is4, Fs4, e5, hv, hrs4, hps4⟩ := hq
  cases hv
  have Gs4 := fm_tq Gs2 Fs4 rfl rfl
  have b6 := bi_32 Is4
  show WS k 17 [(0, .ref (A 0)), (1, .int (Int32.ofInt x))] [.int (Int32.ofInt e5)] (Wd A dT s4) 1 6
  exact w_iret X.1 q hRt rfl (ax_d X (show cdA 160 17 = some (.ireturn, 1, 0, 0, 0) from rfl)) (show 1 ≤ 1 by decide) (show 6 ≤ 6 by decide) ⟨_, rfl, Is4, Gs4, Or.inl ⟨e5, rfl, hrs4, trivial⟩⟩
set_option maxRecDepth 4000 in
theorem cs_pairs (G : GX l s0 D tys a0 dT) (I : Bd s) {x y : Int} (p0 : rng x) (p1 : rng y) (p2 : iI s 12 ≤ 8) : CT l s0 D A dT 161 (rmN 161) [.ref (A 0), .int (Int32.ofInt x), .int (Int32.ofInt y)] s (fun o t => Bd t ∧ Fm [22, 23, 24] [33, 26, 27, 28, 29, 30, 31, 32, 20, 48, 47] s t ∧ ((∃ e, o = .inl (some (.int (Int32.ofInt e))) ∧ rng e ∧ (True)) ∨ ∃ x : Nat, o = .inr (exN x) ∧ (x ≤ 1))) := by
  refine ct_ofX G (by decide) (Nat.le_of_ble_eq_true rfl) (fun k X E ET hRt hXt q => ?_)
  show WS k 0 [(0, .ref (A 0)), (1, .int (Int32.ofInt x)), (2, .int (Int32.ofInt y))] [] _ 0 0
  have F : Fm [22, 23, 24] [33, 26, 27, 28, 29, 30, 31, 32, 20, 48, 47] s s := fm_rf _ _ s
  have b1 := bi_32 I
  have b2 := bi_12 I
  refine z_load_n X (x := x) rfl (List.Mem.tail _ (List.Mem.head _)) (z_if_lt X (t := 15) rfl rfl ⟨by first | exact p0.1 | omega, by first | exact p0.2 | omega⟩ (fun g3 => ?_) (fun g3 => ?_))
  ·
    exact z_throw G X E ET hXt q (st := []) rfl (by decide) (by decide) (Nat.le_of_ble_eq_true rfl) (show 0 + 1 ≤ 2 by decide) (show 0 + 6 ≤ 12 by decide) (show 0 + 1 ≤ 2 by decide) (show 0 + 6 ≤ 12 by decide) ⟨_, rfl, I, F, Or.inr ⟨1, rfl, by omega⟩⟩
  ·
    refine z_load_n X (x := x) rfl (List.Mem.tail _ (List.Mem.head _)) (z_aload_n X (x := A 0) rfl (List.Mem.head _) (s_getR X 0 rfl (c518_ok rfl) rfl rfl (z_getI X 54 rfl (c518_ok rfl) rfl rfl ?_)))
    have b4 := bi_32 I
    refine z_icmp_lt X (t := 26) rfl rfl ⟨by first | exact p0.1 | omega, by first | exact p0.2 | omega⟩ (rng_to _) (fun g5 => ?_) (fun g5 => ?_)
    ·
      refine z_aload_n X (x := A 0) rfl (List.Mem.head _) (z_load_n X (x := y) rfl (List.Mem.tail _ (List.Mem.tail _ (List.Mem.head _))) (z_callV X 0 (rm := rmN 183) (As := [.int (Int32.ofInt y)]) (st := []) rfl rfl (by decide) rfl (by rw [E.1, E.2.1, E.2.2.1]; exact cs_needQuarter G I (by first | exact ⟨p1.1, p1.2⟩ | omega)) ⟨by rw [E.2.2.2]; exact (show (rmN 183).frames + 1 ≤ (rmN 161).frames by decide), by rw [E.2.2.2]; exact (show 8 + (mNL (miB 183) + 11) + (rmN 183).locals ≤ (rmN 161).locals by decide), by rw [E.2.2.2]; exact (show 0 + 1 ≤ 2 by decide), by rw [E.2.2.2]; exact (show 0 + 6 ≤ 12 by decide)⟩ (Nat.le_of_ble_eq_true rfl) (fun vv s6 hq => ?_) (fun ee s6 hq => ?_)))
      rotate_left
      · obtain ⟨Is6, Fs6, (⟨hv, hps6⟩ | ⟨xx, hv, hps6⟩)⟩ := hq
        · cases hv
        · cases hv
          have Gs6 := fm_tq F Fs6 rfl rfl
          have ws6_32 : iI s6 32 = iI s 32 := fm_iq Fs6 rfl
          have ws6_12 : iI s6 12 = iI s 12 := fm_iq Fs6 rfl
          exact x_out X.1 q (fun x hx => (hXt x hx).elim) (show 1 ≤ 2 by decide) (show 6 ≤ 12 by decide) ⟨_, rfl, Is6, Gs6, Or.inr ⟨xx, rfl, by omega⟩⟩
      obtain ⟨Is6, Fs6, (⟨hv, hps6⟩ | ⟨xx, hv, hps6⟩)⟩ := hq
      rotate_left
      · cases hv
      cases hv
      have Gs6 := fm_tq F Fs6 rfl rfl
      have ws6_32 : iI s6 32 = iI s 32 := fm_iq Fs6 rfl
      have ws6_12 : iI s6 12 = iI s 12 := fm_iq Fs6 rfl
      show WS k 31 [(0, .ref (A 0)), (1, .int (Int32.ofInt x)), (2, .int (Int32.ofInt y))] [] (Wd A dT s6) 1 6
      refine z_aload_n X (x := A 0) rfl (List.Mem.head _) (s_getR X 0 rfl (c518_ok rfl) rfl rfl (z_load_n X (x := x) rfl (List.Mem.tail _ (List.Mem.head _)) (z_callV X 54 (rm := rmN 45) (As := [.int (Int32.ofInt x)]) (st := []) rfl rfl (by decide) rfl (by rw [E.1, E.2.1, E.2.2.1]; exact c4_judge_54 G Is6 (by first | exact ⟨g3, oq_4af6a0a9 g5 b4.2⟩ | omega) (by first | exact oq_86ef0b17 ws6_12 p2 | omega)) ⟨by rw [E.2.2.2]; exact (show (rmN 45).frames + 1 ≤ (rmN 161).frames by decide), by rw [E.2.2.2]; exact (show 8 + (mNL (miB 45) + 11) + (rmN 45).locals ≤ (rmN 161).locals by decide), by rw [E.2.2.2]; exact (show 1 + 0 ≤ 2 by decide), by rw [E.2.2.2]; exact (show 6 + 0 ≤ 12 by decide)⟩ (Nat.le_of_ble_eq_true rfl) (fun vv s8 hq => ?_) (fun ee s8 hq => ?_))))
      rotate_left
      · obtain ⟨Is8, Fs8, hv, hps8⟩ := hq; cases hv
      obtain ⟨Is8, Fs8, hv, hps8⟩ := hq
      cases hv
      have Gs8 := fm_tq Gs6 Fs8 rfl rfl
      have ws8_32 : iI s8 32 = iI s6 32 := fm_iq Fs8 rfl
      have ws8_12 : iI s8 12 = iI s6 12 := fm_iq Fs8 rfl
      show WS k 39 [(0, .ref (A 0)), (1, .int (Int32.ofInt x)), (2, .int (Int32.ofInt y))] [] (Wd A dT s8) 1 6
      refine z_aload_n X (x := A 0) rfl (List.Mem.head _) (s_getR X 0 rfl (c518_ok rfl) rfl rfl (s_getR X 54 rfl (c518_ok rfl) rfl rfl (z_load_n X (x := x) rfl (List.Mem.tail _ (List.Mem.head _)) (z_bipush X rfl (z_mul X rfl (z_load_n X (x := y) rfl (List.Mem.tail _ (List.Mem.tail _ (List.Mem.head _))) (z_add X rfl (z_zald X 57 rfl (c518_ok rfl) rfl (by first | exact oq_4071a75f g3 hps6.1 | omega) (show ((x * 24) + y) < 144 by first | exact oq_b7e30c53 g5 hps6.2 b4.2 | omega) (cbig_ok rfl) ?_))))))))
      have b10 := bc_48 Is8 (show (((x * 24) + y)).toNat < 144 by first | exact oq_8c922985 g5 hps6.2 b4.2 | omega)
      have N11 : ∀ e12 : Int, ((((iC s8 48 (((x * 24) + y)).toNat) = 0) ∧ e12 = (-1)) ∨ (((iC s8 48 (((x * 24) + y)).toNat) ≠ 0) ∧ (((-2147483648) : Int) ≤ iC s8 47 (x).toNat ∧ iC s8 47 (x).toNat ≤ 2147483647) ∧ e12 = (iC s8 47 (x).toNat))) → WS k 69 [(0, .ref (A 0)), (1, .int (Int32.ofInt x)), (2, .int (Int32.ofInt y))] [.int (Int32.ofInt e12)] (Wd A dT s8) 1 6 := by
        intro e12 he12
        exact w_iret X.1 q hRt rfl (ax_d X (show cdA 161 69 = some (.ireturn, 1, 0, 0, 0) from rfl)) (show 1 ≤ 2 by decide) (show 6 ≤ 12 by decide) ⟨_, rfl, Is8, Gs8, Or.inl ⟨e12, rfl, ⟨by first | exact oq_551cb5a9 he12 | omega, by first | exact oq_f5d7515b he12 | omega⟩, trivial⟩⟩
      refine z_if_eq X (t := 68) rfl rfl (rng_to _) (fun g13 => ?_) (fun g13 => ?_)
      ·
        exact z_const X rfl (N11 _ (Or.inl ⟨g13, rfl⟩))
      ·
        refine z_aload_n X (x := A 0) rfl (List.Mem.head _) (s_getR X 0 rfl (c518_ok rfl) rfl rfl (s_getR X 54 rfl (c518_ok rfl) rfl rfl (z_load_n X (x := x) rfl (List.Mem.tail _ (List.Mem.head _)) (z_ald X 56 rfl (c518_ok rfl) rfl (by first | exact g3 | omega) (show x < 6 by first | exact oq_f35046fc g5 b4.2 | omega) (cbig_ok rfl) ?_))))
        have b14 := bc_47 Is8 (show (x).toNat < 6 by first | exact oq_77ac74ee g5 b4.2 | omega)
        exact z_goto X (t := 69) rfl rfl (N11 _ (Or.inr (⟨g13, b14, rfl⟩)))
    ·
      exact z_throw G X E ET hXt q (st := []) rfl (by decide) (by decide) (Nat.le_of_ble_eq_true rfl) (show 0 + 1 ≤ 2 by decide) (show 0 + 6 ≤ 12 by decide) (show 0 + 1 ≤ 2 by decide) (show 0 + 6 ≤ 12 by decide) ⟨_, rfl, I, F, Or.inr ⟨1, rfl, by omega⟩⟩
set_option maxRecDepth 4000 in
theorem cs_busy (G : GX l s0 D tys a0 dT) (I : Bd s) {x : Int} (p0 : rng x) : CT l s0 D A dT 162 (rmN 162) [.ref (A 0), .int (Int32.ofInt x)] s (fun o t => Bd t ∧ Fm [33] [] s t ∧ ((∃ e, o = .inl (some (.int (Int32.ofInt e))) ∧ rng e ∧ (True)) ∨ ∃ x : Nat, o = .inr (exN x) ∧ (x = 0))) := by
  refine ct_ofX G (by decide) (Nat.le_of_ble_eq_true rfl) (fun k X E ET hRt hXt q => ?_)
  show WS k 0 [(0, .ref (A 0)), (1, .int (Int32.ofInt x))] [] _ 0 0
  have F : Fm [33] [] s s := fm_rf _ _ s
  refine z_aload_n X (x := A 0) rfl (List.Mem.head _) (z_load_n X (x := x) rfl (List.Mem.tail _ (List.Mem.head _)) (z_const X rfl (z_ldcw X rfl (z_callV X 0 (rm := rmN 184) (As := [.int (Int32.ofInt x), .int (Int32.ofInt 0), .int (Int32.ofInt 100000)]) (st := []) rfl rfl (by decide) rfl (by rw [E.1, E.2.1, E.2.2.1]; exact cs_needWithin G I (by first | exact ⟨p0.1, p0.2⟩ | omega) (by first | exact ⟨by decide, by decide⟩ | omega) (by first | exact ⟨by decide, by decide⟩ | omega)) ⟨by rw [E.2.2.2]; exact (show (rmN 184).frames + 1 ≤ (rmN 162).frames by decide), by rw [E.2.2.2]; exact (show 8 + (mNL (miB 184) + 11) + (rmN 184).locals ≤ (rmN 162).locals by decide), by rw [E.2.2.2]; exact (show 0 + 1 ≤ 1 by decide), by rw [E.2.2.2]; exact (show 0 + 6 ≤ 6 by decide)⟩ (Nat.le_of_ble_eq_true rfl) (fun vv s1 hq => ?_) (fun ee s1 hq => ?_)))))
  rotate_left
  · obtain ⟨Is1, Fs1, (⟨hv, hps1⟩ | ⟨xx, hv, hps1⟩)⟩ := hq
    · cases hv
    · cases hv
      have Gs1 := fm_tq F Fs1 rfl rfl
      exact x_out X.1 q (fun x hx => (hXt x hx).elim) (show 1 ≤ 1 by decide) (show 6 ≤ 6 by decide) ⟨_, rfl, Is1, Gs1, Or.inr ⟨xx, rfl, by omega⟩⟩
  obtain ⟨Is1, Fs1, (⟨hv, hps1⟩ | ⟨xx, hv, hps1⟩)⟩ := hq
  rotate_left
  · cases hv
  cases hv
  have Gs1 := fm_tq F Fs1 rfl rfl
  show WS k 9 [(0, .ref (A 0)), (1, .int (Int32.ofInt x))] [] (Wd A dT s1) 1 6
  refine z_aload_n X (x := A 0) rfl (List.Mem.head _) (s_getR X 0 rfl (c518_ok rfl) rfl rfl (z_getI X 54 rfl (c518_ok rfl) rfl rfl ?_))
  have b3 := bi_33 Is1
  refine z_store_n X (lv' := [(2, .int (Int32.ofInt (iI s1 33))), (0, .ref (A 0)), (1, .int (Int32.ofInt x))]) rfl (by decide) (fun _ h => h) (z_aload_n X (x := A 0) rfl (List.Mem.tail _ (List.Mem.head _)) (s_getR X 0 rfl (c518_ok rfl) rfl rfl (z_load_n X (x := x) rfl (List.Mem.tail _ (List.Mem.tail _ (List.Mem.head _))) (s_putI X 54 rfl (c518_ok rfl) rfl rfl (by decide) rfl rfl rfl (wd_gen (fun s4 hs4 => ?_))))))
  have Is4 : Bd s4 := eqB hs4 (bd_I Is1 (show (0 : Int) ≤ x ∧ x ≤ 100000 by first | exact ⟨hps1.1, hps1.2⟩ | omega) ⟨by first | exact p0.1 | omega, by first | exact p0.2 | omega⟩)
  have Fs4 := eqF hs4 (fm_I Gs1 (inl_ok (a := 33) rfl))
  have vs4 : iI s4 33 = x := eqI hs4 (iI_u ⟨by first | exact p0.1 | omega, by first | exact p0.2 | omega⟩)
  refine z_load_n X (x := (iI s1 33)) rfl (List.Mem.head _) ?_
  exact w_iret X.1 q hRt rfl (ax_d X (show cdA 162 26 = some (.ireturn, 1, 0, 0, 0) from rfl)) (show 1 ≤ 1 by decide) (show 6 ≤ 6 by decide) ⟨_, rfl, Is4, Fs4, Or.inl ⟨(iI s1 33), rfl, (rng_to _), trivial⟩⟩
set_option maxRecDepth 4000 in
theorem cs_plan (G : GX l s0 D tys a0 dT) (I : Bd s) {x y : Int} (p0 : rng x) (p1 : rng y) (p2 : iI s 12 ≤ 8) : CT l s0 D A dT 163 (rmN 163) [.ref (A 0), .int (Int32.ofInt x), .int (Int32.ofInt y)] s (fun o t => Bd t ∧ Fm [22, 23, 24, 34, 35] [33, 26, 27, 28, 29, 30, 31, 32, 20, 48, 47, 49, 50, 51] s t ∧ ((∃ e, o = .inl (some (.int (Int32.ofInt e))) ∧ rng e ∧ (True)) ∨ ∃ x : Nat, o = .inr (exN x) ∧ (x = 0))) := by
  refine ct_ofX G (by decide) (Nat.le_of_ble_eq_true rfl) (fun k X E ET hRt hXt q => ?_)
  show WS k 0 [(0, .ref (A 0)), (1, .int (Int32.ofInt x)), (2, .int (Int32.ofInt y))] [] _ 0 0
  have F : Fm [22, 23, 24, 34, 35] [33, 26, 27, 28, 29, 30, 31, 32, 20, 48, 47, 49, 50, 51] s s := fm_rf _ _ s
  have b1 := bi_12 I
  refine z_aload_n X (x := A 0) rfl (List.Mem.head _) (z_load_n X (x := x) rfl (List.Mem.tail _ (List.Mem.head _)) (z_const X rfl (z_bipush X rfl (z_callV X 0 (rm := rmN 184) (As := [.int (Int32.ofInt x), .int (Int32.ofInt 0), .int (Int32.ofInt 23)]) (st := []) rfl rfl (by decide) rfl (by rw [E.1, E.2.1, E.2.2.1]; exact cs_needWithin G I (by first | exact ⟨p0.1, p0.2⟩ | omega) (by first | exact ⟨by decide, by decide⟩ | omega) (by first | exact ⟨by decide, by decide⟩ | omega)) ⟨by rw [E.2.2.2]; exact (show (rmN 184).frames + 1 ≤ (rmN 163).frames by decide), by rw [E.2.2.2]; exact (show 8 + (mNL (miB 184) + 11) + (rmN 184).locals ≤ (rmN 163).locals by decide), by rw [E.2.2.2]; exact (show 0 + 1 ≤ 2 by decide), by rw [E.2.2.2]; exact (show 0 + 6 ≤ 12 by decide)⟩ (Nat.le_of_ble_eq_true rfl) (fun vv s2 hq => ?_) (fun ee s2 hq => ?_)))))
  rotate_left
  · obtain ⟨Is2, Fs2, (⟨hv, hps2⟩ | ⟨xx, hv, hps2⟩)⟩ := hq
    · cases hv
    · cases hv
      have Gs2 := fm_tq F Fs2 rfl rfl
      have ws2_12 : iI s2 12 = iI s 12 := fm_iq Fs2 rfl
      exact x_out X.1 q (fun x hx => (hXt x hx).elim) (show 1 ≤ 2 by decide) (show 6 ≤ 12 by decide) ⟨_, rfl, Is2, Gs2, Or.inr ⟨xx, rfl, by omega⟩⟩
  obtain ⟨Is2, Fs2, (⟨hv, hps2⟩ | ⟨xx, hv, hps2⟩)⟩ := hq
  rotate_left
  · cases hv
  cases hv
  have Gs2 := fm_tq F Fs2 rfl rfl
  have ws2_12 : iI s2 12 = iI s 12 := fm_iq Fs2 rfl
  show WS k 8 [(0, .ref (A 0)), (1, .int (Int32.ofInt x)), (2, .int (Int32.ofInt y))] [] (Wd A dT s2) 1 6
  refine z_aload_n X (x := A 0) rfl (List.Mem.head _) (z_load_n X (x := y) rfl (List.Mem.tail _ (List.Mem.tail _ (List.Mem.head _))) (z_bipush X rfl (z_bipush X rfl (z_callV X 0 (rm := rmN 184) (As := [.int (Int32.ofInt y), .int (Int32.ofInt (-2)), .int (Int32.ofInt 23)]) (st := []) rfl rfl (by decide) rfl (by rw [E.1, E.2.1, E.2.2.1]; exact cs_needWithin G Is2 (by first | exact ⟨p1.1, p1.2⟩ | omega) (by first | exact ⟨by decide, by decide⟩ | omega) (by first | exact ⟨by decide, by decide⟩ | omega)) ⟨by rw [E.2.2.2]; exact (show (rmN 184).frames + 1 ≤ (rmN 163).frames by decide), by rw [E.2.2.2]; exact (show 8 + (mNL (miB 184) + 11) + (rmN 184).locals ≤ (rmN 163).locals by decide), by rw [E.2.2.2]; exact (show 1 + 1 ≤ 2 by decide), by rw [E.2.2.2]; exact (show 6 + 6 ≤ 12 by decide)⟩ (Nat.le_of_ble_eq_true rfl) (fun vv s4 hq => ?_) (fun ee s4 hq => ?_)))))
  rotate_left
  · obtain ⟨Is4, Fs4, (⟨hv, hps4⟩ | ⟨xx, hv, hps4⟩)⟩ := hq
    · cases hv
    · cases hv
      have Gs4 := fm_tq Gs2 Fs4 rfl rfl
      have ws4_12 : iI s4 12 = iI s2 12 := fm_iq Fs4 rfl
      exact x_out X.1 q (fun x hx => (hXt x hx).elim) (show (1 + 1) ≤ 2 by decide) (show (6 + 6) ≤ 12 by decide) ⟨_, rfl, Is4, Gs4, Or.inr ⟨xx, rfl, by first | (clear hps2; omega) | omega⟩⟩
  obtain ⟨Is4, Fs4, (⟨hv, hps4⟩ | ⟨xx, hv, hps4⟩)⟩ := hq
  rotate_left
  · cases hv
  cases hv
  have Gs4 := fm_tq Gs2 Fs4 rfl rfl
  have ws4_12 : iI s4 12 = iI s2 12 := fm_iq Fs4 rfl
  show WS k 17 [(0, .ref (A 0)), (1, .int (Int32.ofInt x)), (2, .int (Int32.ofInt y))] [] (Wd A dT s4) (1 + 1) (6 + 6)
  refine z_aload_n X (x := A 0) rfl (List.Mem.head _) (s_getR X 0 rfl (c518_ok rfl) rfl rfl (z_load_n X (x := x) rfl (List.Mem.tail _ (List.Mem.head _)) (z_callV X 54 (rm := rmN 48) (As := [.int (Int32.ofInt x)]) (st := []) rfl rfl (by decide) rfl (by rw [E.1, E.2.1, E.2.2.1]; exact c4_solve_54 G Is4 (by first | exact ⟨hps2.1, hps2.2⟩ | omega) (by first | exact oq_d7ce4408 ws4_12 ws2_12 p2 | omega)) ⟨by rw [E.2.2.2]; exact (show (rmN 48).frames + 1 ≤ (rmN 163).frames by decide), by rw [E.2.2.2]; exact (show 8 + (mNL (miB 48) + 11) + (rmN 48).locals ≤ (rmN 163).locals by decide), by rw [E.2.2.2]; exact (show (1 + 1) + 0 ≤ 2 by decide), by rw [E.2.2.2]; exact (show (6 + 6) + 0 ≤ 12 by decide)⟩ (Nat.le_of_ble_eq_true rfl) (fun vv s6 hq => ?_) (fun ee s6 hq => ?_))))
  rotate_left
  · obtain ⟨Is6, Fs6, e7, hv, hrs6, hps6⟩ := hq; cases hv
  obtain ⟨Is6, Fs6, e7, hv, hrs6, hps6⟩ := hq
  cases hv
  have Gs6 := fm_tq Gs4 Fs6 rfl rfl
  have ws6_12 : iI s6 12 = iI s4 12 := fm_iq Fs6 rfl
  show WS k 25 [(0, .ref (A 0)), (1, .int (Int32.ofInt x)), (2, .int (Int32.ofInt y))] [.int (Int32.ofInt e7)] (Wd A dT s6) (1 + 1) (6 + 6)
  refine z_if_ne X (t := 30) rfl rfl hrs6 (fun g8 => ?_) (fun g8 => ?_)
  ·
    refine z_load_n X (x := y) rfl (List.Mem.tail _ (List.Mem.tail _ (List.Mem.head _))) (z_const X rfl ?_)
    have N9 : ∀ e10 : Int, (((y ≠ (-1)) ∧ (y ≠ (-2)) ∧ ((0 : Int) ≤ iC s6 51 (y).toNat ∧ iC s6 51 (y).toNat ≤ 5) ∧ e10 = (iC s6 51 (y).toNat)) ∨ ((y ≠ (-1)) ∧ (y = (-2)) ∧ ((0 : Int) ≤ iI s6 35 ∧ iI s6 35 ≤ 23) ∧ e10 = (iI s6 35)) ∨ ((y = (-1)) ∧ (((-2147483648) : Int) ≤ iI s6 34 ∧ iI s6 34 ≤ 2147483647) ∧ e10 = (iI s6 34))) → WS k 70 [(0, .ref (A 0)), (1, .int (Int32.ofInt x)), (2, .int (Int32.ofInt y))] [.int (Int32.ofInt e10)] (Wd A dT s6) (1 + 1) (6 + 6) := by
      intro e10 he10
      exact w_iret X.1 q hRt rfl (ax_d X (show cdA 163 70 = some (.ireturn, 1, 0, 0, 0) from rfl)) (show (1 + 1) ≤ 2 by decide) (show (6 + 6) ≤ 12 by decide) ⟨_, rfl, Is6, Gs6, Or.inl ⟨e10, rfl, ⟨by first | exact oq_6314942f he10 | omega, by first | exact oq_80eb1a87 he10 | omega⟩, trivial⟩⟩
    refine z_icmp_ne X (t := 45) rfl rfl ⟨by first | exact p1.1 | omega, by first | exact p1.2 | omega⟩ (by decide) (fun g11 => ?_) (fun g11 => ?_)
    ·
      refine z_load_n X (x := y) rfl (List.Mem.tail _ (List.Mem.tail _ (List.Mem.head _))) (z_bipush X rfl (z_icmp_ne X (t := 61) rfl rfl ⟨by first | exact p1.1 | omega, by first | exact p1.2 | omega⟩ (by decide) (fun g12 => ?_) (fun g12 => ?_)))
      ·
        refine z_aload_n X (x := A 0) rfl (List.Mem.head _) (s_getR X 0 rfl (c518_ok rfl) rfl rfl (s_getR X 54 rfl (c518_ok rfl) rfl rfl (z_load_n X (x := y) rfl (List.Mem.tail _ (List.Mem.tail _ (List.Mem.head _))) (z_ald X 60 rfl (c518_ok rfl) rfl (by first | exact oq_52fc8c25 g12 g11 hps4.1 | omega) (show y < 24 by first | exact oq_7fdb8aa6 hps4.2 | omega) (cbig_ok rfl) ?_))))
        have b13 := bc_51 Is6 (show (y).toNat < 24 by first | exact oq_138251d6 hps4.2 | omega)
        exact N9 _ (Or.inl ⟨g11, g12, b13, rfl⟩)
      ·
        refine z_aload_n X (x := A 0) rfl (List.Mem.head _) (s_getR X 0 rfl (c518_ok rfl) rfl rfl (z_getI X 54 rfl (c518_ok rfl) rfl rfl ?_))
        have b14 := bi_35 Is6
        exact z_goto X (t := 70) rfl rfl (N9 _ (Or.inr (Or.inl ⟨g11, g12, b14, rfl⟩)))
    ·
      refine z_aload_n X (x := A 0) rfl (List.Mem.head _) (s_getR X 0 rfl (c518_ok rfl) rfl rfl (z_getI X 54 rfl (c518_ok rfl) rfl rfl ?_))
      have b15 := bi_34 Is6
      exact z_goto X (t := 70) rfl rfl (N9 _ (Or.inr (Or.inr (⟨g11, b15, rfl⟩))))
  ·
    refine z_const X rfl ?_
    exact w_iret X.1 q hRt rfl (ax_d X (show cdA 163 29 = some (.ireturn, 1, 0, 0, 0) from rfl)) (show (1 + 1) ≤ 2 by decide) (show (6 + 6) ≤ 12 by decide) ⟨_, rfl, Is6, Gs6, Or.inl ⟨(-1), rfl, (by decide), trivial⟩⟩
set_option maxRecDepth 4000 in
theorem cs_hours (G : GX l s0 D tys a0 dT) (I : Bd s) {x y : Int} (p0 : rng x) (p1 : rng y) : CT l s0 D A dT 164 (rmN 164) [.ref (A 0), .int (Int32.ofInt x), .int (Int32.ofInt y)] s (fun o t => Bd t ∧ Fm [36, 37] [] s t ∧ ((∃ e, o = .inl (some (.int (Int32.ofInt e))) ∧ rng e ∧ (True)) ∨ ∃ x : Nat, o = .inr (exN x) ∧ (x = 0))) := by
  refine ct_ofX G (by decide) (Nat.le_of_ble_eq_true rfl) (fun k X E ET hRt hXt q => ?_)
  show WS k 0 [(0, .ref (A 0)), (1, .int (Int32.ofInt x)), (2, .int (Int32.ofInt y))] [] _ 0 0
  have F : Fm [36, 37] [] s s := fm_rf _ _ s
  refine z_aload_n X (x := A 0) rfl (List.Mem.head _) (z_load_n X (x := x) rfl (List.Mem.tail _ (List.Mem.head _)) (z_const X rfl (z_const X rfl (z_callV X 0 (rm := rmN 184) (As := [.int (Int32.ofInt x), .int (Int32.ofInt 0), .int (Int32.ofInt 1)]) (st := []) rfl rfl (by decide) rfl (by rw [E.1, E.2.1, E.2.2.1]; exact cs_needWithin G I (by first | exact ⟨p0.1, p0.2⟩ | omega) (by first | exact ⟨by decide, by decide⟩ | omega) (by first | exact ⟨by decide, by decide⟩ | omega)) ⟨by rw [E.2.2.2]; exact (show (rmN 184).frames + 1 ≤ (rmN 164).frames by decide), by rw [E.2.2.2]; exact (show 8 + (mNL (miB 184) + 11) + (rmN 184).locals ≤ (rmN 164).locals by decide), by rw [E.2.2.2]; exact (show 0 + 1 ≤ 2 by decide), by rw [E.2.2.2]; exact (show 0 + 6 ≤ 12 by decide)⟩ (Nat.le_of_ble_eq_true rfl) (fun vv s1 hq => ?_) (fun ee s1 hq => ?_)))))
  rotate_left
  · obtain ⟨Is1, Fs1, (⟨hv, hps1⟩ | ⟨xx, hv, hps1⟩)⟩ := hq
    · cases hv
    · cases hv
      have Gs1 := fm_tq F Fs1 rfl rfl
      exact x_out X.1 q (fun x hx => (hXt x hx).elim) (show 1 ≤ 2 by decide) (show 6 ≤ 12 by decide) ⟨_, rfl, Is1, Gs1, Or.inr ⟨xx, rfl, by omega⟩⟩
  obtain ⟨Is1, Fs1, (⟨hv, hps1⟩ | ⟨xx, hv, hps1⟩)⟩ := hq
  rotate_left
  · cases hv
  cases hv
  have Gs1 := fm_tq F Fs1 rfl rfl
  show WS k 7 [(0, .ref (A 0)), (1, .int (Int32.ofInt x)), (2, .int (Int32.ofInt y))] [] (Wd A dT s1) 1 6
  refine z_aload_n X (x := A 0) rfl (List.Mem.head _) (z_load_n X (x := y) rfl (List.Mem.tail _ (List.Mem.tail _ (List.Mem.head _))) (z_const X rfl (z_load_n X (x := x) rfl (List.Mem.tail _ (List.Mem.head _)) ?_)))
  have N3 : ∀ e4 : Int, (((x ≠ 0) ∧ e4 = 8) ∨ ((x = 0) ∧ e4 = 24)) → WS k 21 [(0, .ref (A 0)), (1, .int (Int32.ofInt x)), (2, .int (Int32.ofInt y))] [.int (Int32.ofInt e4), .int (Int32.ofInt 1), .int (Int32.ofInt y), .ref (A 0)] (Wd A dT s1) 1 6 := by
    intro e4 he4
    have re4 : 8 ≤ e4 ∧ e4 ≤ 24 := by first | (clear he4 hps1; omega) | (clear hps1; omega) | omega
    refine z_callV X 0 (rm := rmN 184) (As := [.int (Int32.ofInt y), .int (Int32.ofInt 1), .int (Int32.ofInt e4)]) (st := []) rfl rfl (by decide) rfl (by rw [E.1, E.2.1, E.2.2.1]; exact cs_needWithin G Is1 (by first | exact ⟨p1.1, p1.2⟩ | omega) (by first | exact ⟨by decide, by decide⟩ | omega) (by first | exact ⟨oq_ebc40354 re4.1, oq_5bcd337f re4.2⟩ | omega)) ⟨by rw [E.2.2.2]; exact (show (rmN 184).frames + 1 ≤ (rmN 164).frames by decide), by rw [E.2.2.2]; exact (show 8 + (mNL (miB 184) + 11) + (rmN 184).locals ≤ (rmN 164).locals by decide), by rw [E.2.2.2]; exact (show 1 + 1 ≤ 2 by decide), by rw [E.2.2.2]; exact (show 6 + 6 ≤ 12 by decide)⟩ (Nat.le_of_ble_eq_true rfl) (fun vv s5 hq => ?_) (fun ee s5 hq => ?_)
    rotate_left
    · obtain ⟨Is5, Fs5, (⟨hv, hps5⟩ | ⟨xx, hv, hps5⟩)⟩ := hq
      · cases hv
      · cases hv
        have Gs5 := fm_tq Gs1 Fs5 rfl rfl
        exact x_out X.1 q (fun x hx => (hXt x hx).elim) (show (1 + 1) ≤ 2 by decide) (show (6 + 6) ≤ 12 by decide) ⟨_, rfl, Is5, Gs5, Or.inr ⟨xx, rfl, by first | (clear he4 hps1; omega) | (clear hps1; omega) | omega⟩⟩
    obtain ⟨Is5, Fs5, (⟨hv, hps5⟩ | ⟨xx, hv, hps5⟩)⟩ := hq
    rotate_left
    · cases hv
    cases hv
    have Gs5 := fm_tq Gs1 Fs5 rfl rfl
    show WS k 24 [(0, .ref (A 0)), (1, .int (Int32.ofInt x)), (2, .int (Int32.ofInt y))] [] (Wd A dT s5) (1 + 1) (6 + 6)
    refine z_load_n X (x := x) rfl (List.Mem.tail _ (List.Mem.head _)) (z_if_ne X (t := 39) rfl rfl ⟨by first | exact p0.1 | omega, by first | exact p0.2 | omega⟩ (fun g7 => ?_) (fun g7 => ?_))
    ·
      refine z_aload_n X (x := A 0) rfl (List.Mem.head _) (s_getR X 0 rfl (c518_ok rfl) rfl rfl (z_load_n X (x := y) rfl (List.Mem.tail _ (List.Mem.tail _ (List.Mem.head _))) (z_callV X 61 (rm := rmN 61) (As := [.int (Int32.ofInt y)]) (st := []) rfl rfl (by decide) rfl (by rw [E.1, E.2.1, E.2.2.1]; exact c6_setRest_61 G Is5 (by first | exact ⟨hps5.1, oq_06ae99d7 g7 hps5.2 he4 hps1.1⟩ | omega)) ⟨by rw [E.2.2.2]; exact (show (rmN 61).frames + 1 ≤ (rmN 164).frames by decide), by rw [E.2.2.2]; exact (show 8 + (mNL (miB 61) + 11) + (rmN 61).locals ≤ (rmN 164).locals by decide), by rw [E.2.2.2]; exact (show (1 + 1) + 0 ≤ 2 by decide), by rw [E.2.2.2]; exact (show (6 + 6) + 0 ≤ 12 by decide)⟩ (Nat.le_of_ble_eq_true rfl) (fun vv s8 hq => ?_) (fun ee s8 hq => ?_))))
      rotate_left
      · obtain ⟨Is8, Fs8, e9, hv, hrs8, hps8⟩ := hq; cases hv
      obtain ⟨Is8, Fs8, e9, hv, hrs8, hps8⟩ := hq
      cases hv
      have Gs8 := fm_tq Gs5 Fs8 rfl rfl
      show WS k 47 [(0, .ref (A 0)), (1, .int (Int32.ofInt x)), (2, .int (Int32.ofInt y))] [.int (Int32.ofInt e9)] (Wd A dT s8) (1 + 1) (6 + 6)
      exact w_iret X.1 q hRt rfl (ax_d X (show cdA 164 47 = some (.ireturn, 1, 0, 0, 0) from rfl)) (show (1 + 1) ≤ 2 by decide) (show (6 + 6) ≤ 12 by decide) ⟨_, rfl, Is8, Gs8, Or.inl ⟨e9, rfl, hrs8, trivial⟩⟩
    ·
      refine z_aload_n X (x := A 0) rfl (List.Mem.head _) (s_getR X 0 rfl (c518_ok rfl) rfl rfl (z_load_n X (x := y) rfl (List.Mem.tail _ (List.Mem.tail _ (List.Mem.head _))) (z_callV X 61 (rm := rmN 60) (As := [.int (Int32.ofInt y)]) (st := []) rfl rfl (by decide) rfl (by rw [E.1, E.2.1, E.2.2.1]; exact c6_setWork_61 G Is5 (by first | exact ⟨hps5.1, oq_9a71296a hps5.2 re4.2⟩ | omega)) ⟨by rw [E.2.2.2]; exact (show (rmN 60).frames + 1 ≤ (rmN 164).frames by decide), by rw [E.2.2.2]; exact (show 8 + (mNL (miB 60) + 11) + (rmN 60).locals ≤ (rmN 164).locals by decide), by rw [E.2.2.2]; exact (show (1 + 1) + 0 ≤ 2 by decide), by rw [E.2.2.2]; exact (show (6 + 6) + 0 ≤ 12 by decide)⟩ (Nat.le_of_ble_eq_true rfl) (fun vv s10 hq => ?_) (fun ee s10 hq => ?_))))
      rotate_left
      · obtain ⟨Is10, Fs10, e11, hv, hrs10, hps10⟩ := hq; cases hv
      obtain ⟨Is10, Fs10, e11, hv, hrs10, hps10⟩ := hq
      cases hv
      have Gs10 := fm_tq Gs5 Fs10 rfl rfl
      show WS k 36 [(0, .ref (A 0)), (1, .int (Int32.ofInt x)), (2, .int (Int32.ofInt y))] [.int (Int32.ofInt e11)] (Wd A dT s10) (1 + 1) (6 + 6)
      refine z_goto X (t := 47) rfl rfl ?_
      exact w_iret X.1 q hRt rfl (ax_d X (show cdA 164 47 = some (.ireturn, 1, 0, 0, 0) from rfl)) (show (1 + 1) ≤ 2 by decide) (show (6 + 6) ≤ 12 by decide) ⟨_, rfl, Is10, Gs10, Or.inl ⟨e11, rfl, hrs10, trivial⟩⟩
  refine z_if_ne X (t := 19) rfl rfl ⟨by first | exact p0.1 | omega, by first | exact p0.2 | omega⟩ (fun g12 => ?_) (fun g12 => ?_)
  ·
    exact z_bipush X rfl (N3 _ (Or.inl ⟨g12, rfl⟩))
  ·
    exact z_bipush X rfl (z_goto X (t := 21) rfl rfl (N3 _ (Or.inr (⟨g12, rfl⟩))))
set_option maxRecDepth 4000 in
theorem cs_ill (G : GX l s0 D tys a0 dT) (I : Bd s) {x y : Int} (p0 : rng x) (p1 : rng y) : CT l s0 D A dT 165 (rmN 165) [.ref (A 0), .int (Int32.ofInt x), .int (Int32.ofInt y)] s (fun o t => Bd t ∧ Fm [] [52] s t ∧ ((∃ e, o = .inl (some (.int (Int32.ofInt e))) ∧ rng e ∧ (True)) ∨ ∃ x : Nat, o = .inr (exN x) ∧ (x = 0 ∨ x = 2))) := by
  refine ct_ofX G (by decide) (Nat.le_of_ble_eq_true rfl) (fun k X E ET hRt hXt q => ?_)
  show WS k 0 [(0, .ref (A 0)), (1, .int (Int32.ofInt x)), (2, .int (Int32.ofInt y))] [] _ 0 0
  have F : Fm [] [52] s s := fm_rf _ _ s
  refine z_load_n X (x := x) rfl (List.Mem.tail _ (List.Mem.head _)) (z_if_lt X (t := 10) rfl rfl ⟨by first | exact p0.1 | omega, by first | exact p0.2 | omega⟩ (fun g1 => ?_) (fun g1 => ?_))
  ·
    exact z_throw G X E ET hXt q (st := []) rfl (by decide) (by decide) (Nat.le_of_ble_eq_true rfl) (show 0 + 1 ≤ 2 by decide) (show 0 + 6 ≤ 12 by decide) (show 0 + 1 ≤ 2 by decide) (show 0 + 6 ≤ 12 by decide) ⟨_, rfl, I, F, Or.inr ⟨2, rfl, by omega⟩⟩
  ·
    refine z_load_n X (x := x) rfl (List.Mem.tail _ (List.Mem.head _)) (z_bipush X rfl (z_icmp_lt X (t := 21) rfl rfl ⟨by first | exact p0.1 | omega, by first | exact p0.2 | omega⟩ (by decide) (fun g2 => ?_) (fun g2 => ?_)))
    ·
      refine z_aload_n X (x := A 0) rfl (List.Mem.head _) (z_load_n X (x := y) rfl (List.Mem.tail _ (List.Mem.tail _ (List.Mem.head _))) (z_const X rfl (z_bipush X rfl (z_callV X 0 (rm := rmN 184) (As := [.int (Int32.ofInt y), .int (Int32.ofInt 0), .int (Int32.ofInt 24)]) (st := []) rfl rfl (by decide) rfl (by rw [E.1, E.2.1, E.2.2.1]; exact cs_needWithin G I (by first | exact ⟨p1.1, p1.2⟩ | omega) (by first | exact ⟨by decide, by decide⟩ | omega) (by first | exact ⟨by decide, by decide⟩ | omega)) ⟨by rw [E.2.2.2]; exact (show (rmN 184).frames + 1 ≤ (rmN 165).frames by decide), by rw [E.2.2.2]; exact (show 8 + (mNL (miB 184) + 11) + (rmN 184).locals ≤ (rmN 165).locals by decide), by rw [E.2.2.2]; exact (show 0 + 1 ≤ 2 by decide), by rw [E.2.2.2]; exact (show 0 + 6 ≤ 12 by decide)⟩ (Nat.le_of_ble_eq_true rfl) (fun vv s3 hq => ?_) (fun ee s3 hq => ?_)))))
      rotate_left
      · obtain ⟨Is3, Fs3, (⟨hv, hps3⟩ | ⟨xx, hv, hps3⟩)⟩ := hq
        · cases hv
        · cases hv
          have Gs3 := fm_tq F Fs3 rfl rfl
          exact x_out X.1 q (fun x hx => (hXt x hx).elim) (show 1 ≤ 2 by decide) (show 6 ≤ 12 by decide) ⟨_, rfl, Is3, Gs3, Or.inr ⟨xx, rfl, by omega⟩⟩
      obtain ⟨Is3, Fs3, (⟨hv, hps3⟩ | ⟨xx, hv, hps3⟩)⟩ := hq
      rotate_left
      · cases hv
      cases hv
      have Gs3 := fm_tq F Fs3 rfl rfl
      show WS k 29 [(0, .ref (A 0)), (1, .int (Int32.ofInt x)), (2, .int (Int32.ofInt y))] [] (Wd A dT s3) 1 6
      refine z_aload_n X (x := A 0) rfl (List.Mem.head _) (s_getR X 0 rfl (c518_ok rfl) rfl rfl (s_getR X 61 rfl (c518_ok rfl) rfl rfl (z_load_n X (x := x) rfl (List.Mem.tail _ (List.Mem.head _)) (z_ald X 62 rfl (c518_ok rfl) rfl (by first | exact g1 | omega) (show x < 8 by first | exact g2 | omega) (cbig_ok rfl) ?_))))
      have b5 := bc_52 Is3 (show (x).toNat < 8 by first | exact oq_db4b3b8b g2 | omega)
      refine z_store_n X (lv' := [(3, .int (Int32.ofInt (iC s3 52 (x).toNat))), (0, .ref (A 0)), (1, .int (Int32.ofInt x)), (2, .int (Int32.ofInt y))]) rfl (by decide) (fun _ h => h) (z_aload_n X (x := A 0) rfl (List.Mem.tail _ (List.Mem.head _)) (s_getR X 0 rfl (c518_ok rfl) rfl rfl (s_getR X 61 rfl (c518_ok rfl) rfl rfl (z_load_n X (x := x) rfl (List.Mem.tail _ (List.Mem.tail _ (List.Mem.head _))) (z_load_n X (x := y) rfl (List.Mem.tail _ (List.Mem.tail _ (List.Mem.tail _ (List.Mem.head _)))) (z_ast X 62 rfl (c518_ok rfl) rfl (by first | exact g1 | omega) (show x < 8 by first | exact g2 | omega) (cbig_ok rfl) (wd_gen (fun s6 hs6 => ?_))))))))
      have Is6 : Bd s6 := eqB hs6 (bd_C Is3 (show (0 : Int) ≤ y ∧ y ≤ 24 by first | exact ⟨hps3.1, hps3.2⟩ | omega) ⟨by first | exact p1.1 | omega, by first | exact p1.2 | omega⟩)
      have Fs6 := eqF hs6 (fm_C Gs3 (inl_ok (a := 52) rfl))
      refine z_load_n X (x := (iC s3 52 (x).toNat)) rfl (List.Mem.head _) ?_
      exact w_iret X.1 q hRt rfl (ax_d X (show cdA 165 50 = some (.ireturn, 1, 0, 0, 0) from rfl)) (show 1 ≤ 2 by decide) (show 6 ≤ 12 by decide) ⟨_, rfl, Is6, Fs6, Or.inl ⟨(iC s3 52 (x).toNat), rfl, (rng_to _), trivial⟩⟩
    ·
      exact z_throw G X E ET hXt q (st := []) rfl (by decide) (by decide) (Nat.le_of_ble_eq_true rfl) (show 0 + 1 ≤ 2 by decide) (show 0 + 6 ≤ 12 by decide) (show 0 + 1 ≤ 2 by decide) (show 0 + 6 ≤ 12 by decide) ⟨_, rfl, I, F, Or.inr ⟨2, rfl, by omega⟩⟩
set_option maxRecDepth 4000 in
theorem cs_rota (G : GX l s0 D tys a0 dT) (I : Bd s) {x y z : Int} (p0 : rng x) (p1 : rng y) (p2 : rng z) (p3 : iI s 12 ≤ 8) : CT l s0 D A dT 166 (rmN 166) [.ref (A 0), .int (Int32.ofInt x), .int (Int32.ofInt y), .int (Int32.ofInt z)] s (fun o t => Bd t ∧ Fm [22, 23, 24, 34, 35, 38] [33, 26, 27, 28, 29, 30, 31, 32, 20, 48, 47, 49, 50, 51, 53, 54, 55, 56] s t ∧ ((∃ e, o = .inl (some (.int (Int32.ofInt e))) ∧ rng e ∧ (True)) ∨ ∃ x : Nat, o = .inr (exN x) ∧ (x = 0))) := by
  refine ct_ofX G (by decide) (Nat.le_of_ble_eq_true rfl) (fun k X E ET hRt hXt q => ?_)
  show WS k 0 [(0, .ref (A 0)), (1, .int (Int32.ofInt x)), (2, .int (Int32.ofInt y)), (3, .int (Int32.ofInt z))] [] _ 0 0
  have F : Fm [22, 23, 24, 34, 35, 38] [33, 26, 27, 28, 29, 30, 31, 32, 20, 48, 47, 49, 50, 51, 53, 54, 55, 56] s s := fm_rf _ _ s
  have b1 := bi_12 I
  refine z_aload_n X (x := A 0) rfl (List.Mem.head _) (z_load_n X (x := x) rfl (List.Mem.tail _ (List.Mem.head _)) (z_const X rfl (z_bipush X rfl (z_callV X 0 (rm := rmN 184) (As := [.int (Int32.ofInt x), .int (Int32.ofInt 1), .int (Int32.ofInt 8)]) (st := []) rfl rfl (by decide) rfl (by rw [E.1, E.2.1, E.2.2.1]; exact cs_needWithin G I (by first | exact ⟨p0.1, p0.2⟩ | omega) (by first | exact ⟨by decide, by decide⟩ | omega) (by first | exact ⟨by decide, by decide⟩ | omega)) ⟨by rw [E.2.2.2]; exact (show (rmN 184).frames + 1 ≤ (rmN 166).frames by decide), by rw [E.2.2.2]; exact (show 8 + (mNL (miB 184) + 11) + (rmN 184).locals ≤ (rmN 166).locals by decide), by rw [E.2.2.2]; exact (show 0 + 1 ≤ 3 by decide), by rw [E.2.2.2]; exact (show 0 + 6 ≤ 18 by decide)⟩ (Nat.le_of_ble_eq_true rfl) (fun vv s2 hq => ?_) (fun ee s2 hq => ?_)))))
  rotate_left
  · obtain ⟨Is2, Fs2, (⟨hv, hps2⟩ | ⟨xx, hv, hps2⟩)⟩ := hq
    · cases hv
    · cases hv
      have Gs2 := fm_tq F Fs2 rfl rfl
      have ws2_12 : iI s2 12 = iI s 12 := fm_iq Fs2 rfl
      exact x_out X.1 q (fun x hx => (hXt x hx).elim) (show 1 ≤ 3 by decide) (show 6 ≤ 18 by decide) ⟨_, rfl, Is2, Gs2, Or.inr ⟨xx, rfl, by omega⟩⟩
  obtain ⟨Is2, Fs2, (⟨hv, hps2⟩ | ⟨xx, hv, hps2⟩)⟩ := hq
  rotate_left
  · cases hv
  cases hv
  have Gs2 := fm_tq F Fs2 rfl rfl
  have ws2_12 : iI s2 12 = iI s 12 := fm_iq Fs2 rfl
  show WS k 8 [(0, .ref (A 0)), (1, .int (Int32.ofInt x)), (2, .int (Int32.ofInt y)), (3, .int (Int32.ofInt z))] [] (Wd A dT s2) 1 6
  refine z_aload_n X (x := A 0) rfl (List.Mem.head _) (z_load_n X (x := y) rfl (List.Mem.tail _ (List.Mem.tail _ (List.Mem.head _))) (z_const X rfl (z_bipush X rfl (z_callV X 0 (rm := rmN 184) (As := [.int (Int32.ofInt y), .int (Int32.ofInt 0), .int (Int32.ofInt 23)]) (st := []) rfl rfl (by decide) rfl (by rw [E.1, E.2.1, E.2.2.1]; exact cs_needWithin G Is2 (by first | exact ⟨p1.1, p1.2⟩ | omega) (by first | exact ⟨by decide, by decide⟩ | omega) (by first | exact ⟨by decide, by decide⟩ | omega)) ⟨by rw [E.2.2.2]; exact (show (rmN 184).frames + 1 ≤ (rmN 166).frames by decide), by rw [E.2.2.2]; exact (show 8 + (mNL (miB 184) + 11) + (rmN 184).locals ≤ (rmN 166).locals by decide), by rw [E.2.2.2]; exact (show 1 + 1 ≤ 3 by decide), by rw [E.2.2.2]; exact (show 6 + 6 ≤ 18 by decide)⟩ (Nat.le_of_ble_eq_true rfl) (fun vv s4 hq => ?_) (fun ee s4 hq => ?_)))))
  rotate_left
  · obtain ⟨Is4, Fs4, (⟨hv, hps4⟩ | ⟨xx, hv, hps4⟩)⟩ := hq
    · cases hv
    · cases hv
      have Gs4 := fm_tq Gs2 Fs4 rfl rfl
      have ws4_12 : iI s4 12 = iI s2 12 := fm_iq Fs4 rfl
      exact x_out X.1 q (fun x hx => (hXt x hx).elim) (show (1 + 1) ≤ 3 by decide) (show (6 + 6) ≤ 18 by decide) ⟨_, rfl, Is4, Gs4, Or.inr ⟨xx, rfl, by first | (clear hps2; omega) | omega⟩⟩
  obtain ⟨Is4, Fs4, (⟨hv, hps4⟩ | ⟨xx, hv, hps4⟩)⟩ := hq
  rotate_left
  · cases hv
  cases hv
  have Gs4 := fm_tq Gs2 Fs4 rfl rfl
  have ws4_12 : iI s4 12 = iI s2 12 := fm_iq Fs4 rfl
  show WS k 16 [(0, .ref (A 0)), (1, .int (Int32.ofInt x)), (2, .int (Int32.ofInt y)), (3, .int (Int32.ofInt z))] [] (Wd A dT s4) (1 + 1) (6 + 6)
  refine z_aload_n X (x := A 0) rfl (List.Mem.head _) (z_load_n X (x := z) rfl (List.Mem.tail _ (List.Mem.tail _ (List.Mem.tail _ (List.Mem.head _)))) (z_callV X 0 (rm := rmN 183) (As := [.int (Int32.ofInt z)]) (st := []) rfl rfl (by decide) rfl (by rw [E.1, E.2.1, E.2.2.1]; exact cs_needQuarter G Is4 (by first | exact ⟨p2.1, p2.2⟩ | omega)) ⟨by rw [E.2.2.2]; exact (show (rmN 183).frames + 1 ≤ (rmN 166).frames by decide), by rw [E.2.2.2]; exact (show 8 + (mNL (miB 183) + 11) + (rmN 183).locals ≤ (rmN 166).locals by decide), by rw [E.2.2.2]; exact (show (1 + 1) + 1 ≤ 3 by decide), by rw [E.2.2.2]; exact (show (6 + 6) + 6 ≤ 18 by decide)⟩ (Nat.le_of_ble_eq_true rfl) (fun vv s6 hq => ?_) (fun ee s6 hq => ?_)))
  rotate_left
  · obtain ⟨Is6, Fs6, (⟨hv, hps6⟩ | ⟨xx, hv, hps6⟩)⟩ := hq
    · cases hv
    · cases hv
      have Gs6 := fm_tq Gs4 Fs6 rfl rfl
      have ws6_12 : iI s6 12 = iI s4 12 := fm_iq Fs6 rfl
      exact x_out X.1 q (fun x hx => (hXt x hx).elim) (show ((1 + 1) + 1) ≤ 3 by decide) (show ((6 + 6) + 6) ≤ 18 by decide) ⟨_, rfl, Is6, Gs6, Or.inr ⟨xx, rfl, by first | (clear hps4 hps2; omega) | (clear hps2; omega) | omega⟩⟩
  obtain ⟨Is6, Fs6, (⟨hv, hps6⟩ | ⟨xx, hv, hps6⟩)⟩ := hq
  rotate_left
  · cases hv
  cases hv
  have Gs6 := fm_tq Gs4 Fs6 rfl rfl
  have ws6_12 : iI s6 12 = iI s4 12 := fm_iq Fs6 rfl
  show WS k 21 [(0, .ref (A 0)), (1, .int (Int32.ofInt x)), (2, .int (Int32.ofInt y)), (3, .int (Int32.ofInt z))] [] (Wd A dT s6) ((1 + 1) + 1) ((6 + 6) + 6)
  refine z_aload_n X (x := A 0) rfl (List.Mem.head _) (s_getR X 0 rfl (c518_ok rfl) rfl rfl (z_load_n X (x := y) rfl (List.Mem.tail _ (List.Mem.tail _ (List.Mem.head _))) (z_callV X 54 (rm := rmN 48) (As := [.int (Int32.ofInt y)]) (st := []) rfl rfl (by decide) rfl (by rw [E.1, E.2.1, E.2.2.1]; exact c4_solve_54 G Is6 (by first | exact ⟨hps4.1, hps4.2⟩ | omega) (by first | exact oq_e14d47df ws6_12 ws4_12 ws2_12 p3 | omega)) ⟨by rw [E.2.2.2]; exact (show (rmN 48).frames + 1 ≤ (rmN 166).frames by decide), by rw [E.2.2.2]; exact (show 8 + (mNL (miB 48) + 11) + (rmN 48).locals ≤ (rmN 166).locals by decide), by rw [E.2.2.2]; exact (show ((1 + 1) + 1) + 0 ≤ 3 by decide), by rw [E.2.2.2]; exact (show ((6 + 6) + 6) + 0 ≤ 18 by decide)⟩ (Nat.le_of_ble_eq_true rfl) (fun vv s8 hq => ?_) (fun ee s8 hq => ?_))))
  rotate_left
  · obtain ⟨Is8, Fs8, e9, hv, hrs8, hps8⟩ := hq; cases hv
  obtain ⟨Is8, Fs8, e9, hv, hrs8, hps8⟩ := hq
  cases hv
  have Gs8 := fm_tq Gs6 Fs8 rfl rfl
  have ws8_12 : iI s8 12 = iI s6 12 := fm_iq Fs8 rfl
  show WS k 29 [(0, .ref (A 0)), (1, .int (Int32.ofInt x)), (2, .int (Int32.ofInt y)), (3, .int (Int32.ofInt z))] [.int (Int32.ofInt e9)] (Wd A dT s8) ((1 + 1) + 1) ((6 + 6) + 6)
  refine z_if_ne X (t := 34) rfl rfl hrs8 (fun g10 => ?_) (fun g10 => ?_)
  ·
    refine z_aload_n X (x := A 0) rfl (List.Mem.head _) (s_getR X 0 rfl (c518_ok rfl) rfl rfl (z_load_n X (x := x) rfl (List.Mem.tail _ (List.Mem.head _)) (z_callV X 61 (rm := rmN 62) (As := [.int (Int32.ofInt x)]) (st := []) rfl rfl (by decide) rfl (by rw [E.1, E.2.1, E.2.2.1]; exact c6_run_61 G Is8 (by first | exact ⟨hps2.1, hps2.2⟩ | omega)) ⟨by rw [E.2.2.2]; exact (show (rmN 62).frames + 1 ≤ (rmN 166).frames by decide), by rw [E.2.2.2]; exact (show 8 + (mNL (miB 62) + 11) + (rmN 62).locals ≤ (rmN 166).locals by decide), by rw [E.2.2.2]; exact (show ((1 + 1) + 1) + 0 ≤ 3 by decide), by rw [E.2.2.2]; exact (show ((6 + 6) + 6) + 0 ≤ 18 by decide)⟩ (Nat.le_of_ble_eq_true rfl) (fun vv s11 hq => ?_) (fun ee s11 hq => ?_))))
    rotate_left
    · obtain ⟨Is11, Fs11, hv, hps11⟩ := hq; cases hv
    obtain ⟨Is11, Fs11, hv, hps11⟩ := hq
    cases hv
    have Gs11 := fm_tq Gs8 Fs11 rfl rfl
    have ws11_12 : iI s11 12 = iI s8 12 := fm_iq Fs11 rfl
    show WS k 42 [(0, .ref (A 0)), (1, .int (Int32.ofInt x)), (2, .int (Int32.ofInt y)), (3, .int (Int32.ofInt z))] [] (Wd A dT s11) ((1 + 1) + 1) ((6 + 6) + 6)
    refine z_aload_n X (x := A 0) rfl (List.Mem.head _) (s_getR X 0 rfl (c518_ok rfl) rfl rfl (s_getR X 61 rfl (c518_ok rfl) rfl rfl (z_load_n X (x := z) rfl (List.Mem.tail _ (List.Mem.tail _ (List.Mem.tail _ (List.Mem.head _)))) (z_ald X 66 rfl (c518_ok rfl) rfl (by first | exact hps6.1 | omega) (show z < 24 by first | exact oq_7fdb8aa6 hps6.2 | omega) (cbig_ok rfl) ?_))))
    have b13 := bc_56 Is11 (show (z).toNat < 24 by first | exact oq_138251d6 hps6.2 | omega)
    exact w_iret X.1 q hRt rfl (ax_d X (show cdA 166 51 = some (.ireturn, 1, 0, 0, 0) from rfl)) (show ((1 + 1) + 1) ≤ 3 by decide) (show ((6 + 6) + 6) ≤ 18 by decide) ⟨_, rfl, Is11, Gs11, Or.inl ⟨(iC s11 56 (z).toNat), rfl, (rng_to _), trivial⟩⟩
  ·
    refine z_const X rfl ?_
    exact w_iret X.1 q hRt rfl (ax_d X (show cdA 166 33 = some (.ireturn, 1, 0, 0, 0) from rfl)) (show ((1 + 1) + 1) ≤ 3 by decide) (show ((6 + 6) + 6) ≤ 18 by decide) ⟨_, rfl, Is8, Gs8, Or.inl ⟨(-1), rfl, (by decide), trivial⟩⟩
set_option maxRecDepth 4000 in
theorem cs_lacks (G : GX l s0 D tys a0 dT) (I : Bd s) {x y : Int} (p0 : rng x) (p1 : rng y) (p2 : iI s 12 ≤ 8) : CT l s0 D A dT 167 (rmN 167) [.ref (A 0), .int (Int32.ofInt x), .int (Int32.ofInt y)] s (fun o t => Bd t ∧ Fm [22, 23, 24, 34, 35, 38] [33, 26, 27, 28, 29, 30, 31, 32, 20, 48, 47, 49, 50, 51, 53, 54, 55, 56] s t ∧ ((∃ e, o = .inl (some (.int (Int32.ofInt e))) ∧ rng e ∧ (True)) ∨ ∃ x : Nat, o = .inr (exN x) ∧ (x = 0))) := by
  refine ct_ofX G (by decide) (Nat.le_of_ble_eq_true rfl) (fun k X E ET hRt hXt q => ?_)
  show WS k 0 [(0, .ref (A 0)), (1, .int (Int32.ofInt x)), (2, .int (Int32.ofInt y))] [] _ 0 0
  have F : Fm [22, 23, 24, 34, 35, 38] [33, 26, 27, 28, 29, 30, 31, 32, 20, 48, 47, 49, 50, 51, 53, 54, 55, 56] s s := fm_rf _ _ s
  have b1 := bi_12 I
  refine z_aload_n X (x := A 0) rfl (List.Mem.head _) (z_load_n X (x := x) rfl (List.Mem.tail _ (List.Mem.head _)) (z_const X rfl (z_bipush X rfl (z_callV X 0 (rm := rmN 184) (As := [.int (Int32.ofInt x), .int (Int32.ofInt 1), .int (Int32.ofInt 8)]) (st := []) rfl rfl (by decide) rfl (by rw [E.1, E.2.1, E.2.2.1]; exact cs_needWithin G I (by first | exact ⟨p0.1, p0.2⟩ | omega) (by first | exact ⟨by decide, by decide⟩ | omega) (by first | exact ⟨by decide, by decide⟩ | omega)) ⟨by rw [E.2.2.2]; exact (show (rmN 184).frames + 1 ≤ (rmN 167).frames by decide), by rw [E.2.2.2]; exact (show 8 + (mNL (miB 184) + 11) + (rmN 184).locals ≤ (rmN 167).locals by decide), by rw [E.2.2.2]; exact (show 0 + 1 ≤ 2 by decide), by rw [E.2.2.2]; exact (show 0 + 6 ≤ 12 by decide)⟩ (Nat.le_of_ble_eq_true rfl) (fun vv s2 hq => ?_) (fun ee s2 hq => ?_)))))
  rotate_left
  · obtain ⟨Is2, Fs2, (⟨hv, hps2⟩ | ⟨xx, hv, hps2⟩)⟩ := hq
    · cases hv
    · cases hv
      have Gs2 := fm_tq F Fs2 rfl rfl
      have ws2_12 : iI s2 12 = iI s 12 := fm_iq Fs2 rfl
      exact x_out X.1 q (fun x hx => (hXt x hx).elim) (show 1 ≤ 2 by decide) (show 6 ≤ 12 by decide) ⟨_, rfl, Is2, Gs2, Or.inr ⟨xx, rfl, by omega⟩⟩
  obtain ⟨Is2, Fs2, (⟨hv, hps2⟩ | ⟨xx, hv, hps2⟩)⟩ := hq
  rotate_left
  · cases hv
  cases hv
  have Gs2 := fm_tq F Fs2 rfl rfl
  have ws2_12 : iI s2 12 = iI s 12 := fm_iq Fs2 rfl
  show WS k 8 [(0, .ref (A 0)), (1, .int (Int32.ofInt x)), (2, .int (Int32.ofInt y))] [] (Wd A dT s2) 1 6
  refine z_aload_n X (x := A 0) rfl (List.Mem.head _) (z_load_n X (x := y) rfl (List.Mem.tail _ (List.Mem.tail _ (List.Mem.head _))) (z_const X rfl (z_bipush X rfl (z_callV X 0 (rm := rmN 184) (As := [.int (Int32.ofInt y), .int (Int32.ofInt 0), .int (Int32.ofInt 23)]) (st := []) rfl rfl (by decide) rfl (by rw [E.1, E.2.1, E.2.2.1]; exact cs_needWithin G Is2 (by first | exact ⟨p1.1, p1.2⟩ | omega) (by first | exact ⟨by decide, by decide⟩ | omega) (by first | exact ⟨by decide, by decide⟩ | omega)) ⟨by rw [E.2.2.2]; exact (show (rmN 184).frames + 1 ≤ (rmN 167).frames by decide), by rw [E.2.2.2]; exact (show 8 + (mNL (miB 184) + 11) + (rmN 184).locals ≤ (rmN 167).locals by decide), by rw [E.2.2.2]; exact (show 1 + 1 ≤ 2 by decide), by rw [E.2.2.2]; exact (show 6 + 6 ≤ 12 by decide)⟩ (Nat.le_of_ble_eq_true rfl) (fun vv s4 hq => ?_) (fun ee s4 hq => ?_)))))
  rotate_left
  · obtain ⟨Is4, Fs4, (⟨hv, hps4⟩ | ⟨xx, hv, hps4⟩)⟩ := hq
    · cases hv
    · cases hv
      have Gs4 := fm_tq Gs2 Fs4 rfl rfl
      have ws4_12 : iI s4 12 = iI s2 12 := fm_iq Fs4 rfl
      exact x_out X.1 q (fun x hx => (hXt x hx).elim) (show (1 + 1) ≤ 2 by decide) (show (6 + 6) ≤ 12 by decide) ⟨_, rfl, Is4, Gs4, Or.inr ⟨xx, rfl, by first | (clear hps2; omega) | omega⟩⟩
  obtain ⟨Is4, Fs4, (⟨hv, hps4⟩ | ⟨xx, hv, hps4⟩)⟩ := hq
  rotate_left
  · cases hv
  cases hv
  have Gs4 := fm_tq Gs2 Fs4 rfl rfl
  have ws4_12 : iI s4 12 = iI s2 12 := fm_iq Fs4 rfl
  show WS k 16 [(0, .ref (A 0)), (1, .int (Int32.ofInt x)), (2, .int (Int32.ofInt y))] [] (Wd A dT s4) (1 + 1) (6 + 6)
  refine z_aload_n X (x := A 0) rfl (List.Mem.head _) (s_getR X 0 rfl (c518_ok rfl) rfl rfl (z_load_n X (x := y) rfl (List.Mem.tail _ (List.Mem.tail _ (List.Mem.head _))) (z_callV X 54 (rm := rmN 48) (As := [.int (Int32.ofInt y)]) (st := []) rfl rfl (by decide) rfl (by rw [E.1, E.2.1, E.2.2.1]; exact c4_solve_54 G Is4 (by first | exact ⟨hps4.1, hps4.2⟩ | omega) (by first | exact oq_d7ce4408 ws4_12 ws2_12 p2 | omega)) ⟨by rw [E.2.2.2]; exact (show (rmN 48).frames + 1 ≤ (rmN 167).frames by decide), by rw [E.2.2.2]; exact (show 8 + (mNL (miB 48) + 11) + (rmN 48).locals ≤ (rmN 167).locals by decide), by rw [E.2.2.2]; exact (show (1 + 1) + 0 ≤ 2 by decide), by rw [E.2.2.2]; exact (show (6 + 6) + 0 ≤ 12 by decide)⟩ (Nat.le_of_ble_eq_true rfl) (fun vv s6 hq => ?_) (fun ee s6 hq => ?_))))
  rotate_left
  · obtain ⟨Is6, Fs6, e7, hv, hrs6, hps6⟩ := hq; cases hv
  obtain ⟨Is6, Fs6, e7, hv, hrs6, hps6⟩ := hq
  cases hv
  have Gs6 := fm_tq Gs4 Fs6 rfl rfl
  have ws6_12 : iI s6 12 = iI s4 12 := fm_iq Fs6 rfl
  show WS k 24 [(0, .ref (A 0)), (1, .int (Int32.ofInt x)), (2, .int (Int32.ofInt y))] [.int (Int32.ofInt e7)] (Wd A dT s6) (1 + 1) (6 + 6)
  refine z_if_ne X (t := 29) rfl rfl hrs6 (fun g8 => ?_) (fun g8 => ?_)
  ·
    refine z_aload_n X (x := A 0) rfl (List.Mem.head _) (s_getR X 0 rfl (c518_ok rfl) rfl rfl (z_load_n X (x := x) rfl (List.Mem.tail _ (List.Mem.head _)) (z_callV X 61 (rm := rmN 62) (As := [.int (Int32.ofInt x)]) (st := []) rfl rfl (by decide) rfl (by rw [E.1, E.2.1, E.2.2.1]; exact c6_run_61 G Is6 (by first | exact ⟨hps2.1, hps2.2⟩ | omega)) ⟨by rw [E.2.2.2]; exact (show (rmN 62).frames + 1 ≤ (rmN 167).frames by decide), by rw [E.2.2.2]; exact (show 8 + (mNL (miB 62) + 11) + (rmN 62).locals ≤ (rmN 167).locals by decide), by rw [E.2.2.2]; exact (show (1 + 1) + 0 ≤ 2 by decide), by rw [E.2.2.2]; exact (show (6 + 6) + 0 ≤ 12 by decide)⟩ (Nat.le_of_ble_eq_true rfl) (fun vv s9 hq => ?_) (fun ee s9 hq => ?_))))
    rotate_left
    · obtain ⟨Is9, Fs9, hv, hps9⟩ := hq; cases hv
    obtain ⟨Is9, Fs9, hv, hps9⟩ := hq
    cases hv
    have Gs9 := fm_tq Gs6 Fs9 rfl rfl
    have ws9_12 : iI s9 12 = iI s6 12 := fm_iq Fs9 rfl
    show WS k 37 [(0, .ref (A 0)), (1, .int (Int32.ofInt x)), (2, .int (Int32.ofInt y))] [] (Wd A dT s9) (1 + 1) (6 + 6)
    refine z_aload_n X (x := A 0) rfl (List.Mem.head _) (s_getR X 0 rfl (c518_ok rfl) rfl rfl (z_getI X 61 rfl (c518_ok rfl) rfl rfl ?_))
    have b11 := bi_38 Is9
    exact w_iret X.1 q hRt rfl (ax_d X (show cdA 167 44 = some (.ireturn, 1, 0, 0, 0) from rfl)) (show (1 + 1) ≤ 2 by decide) (show (6 + 6) ≤ 12 by decide) ⟨_, rfl, Is9, Gs9, Or.inl ⟨(iI s9 38), rfl, (rng_to _), trivial⟩⟩
  ·
    refine z_const X rfl ?_
    exact w_iret X.1 q hRt rfl (ax_d X (show cdA 167 28 = some (.ireturn, 1, 0, 0, 0) from rfl)) (show (1 + 1) ≤ 2 by decide) (show (6 + 6) ≤ 12 by decide) ⟨_, rfl, Is6, Gs6, Or.inl ⟨(-1), rfl, (by decide), trivial⟩⟩
set_option maxRecDepth 4000 in
theorem cs_enough (G : GX l s0 D tys a0 dT) (I : Bd s) {x : Int} (p0 : rng x) (p1 : iI s 12 ≤ 8) : CT l s0 D A dT 168 (rmN 168) [.ref (A 0), .int (Int32.ofInt x)] s (fun o t => Bd t ∧ Fm [22, 23, 24, 34, 35, 38] [33, 26, 27, 28, 29, 30, 31, 32, 20, 48, 47, 49, 50, 51, 53, 54, 55, 56] s t ∧ ((∃ e, o = .inl (some (.int (Int32.ofInt e))) ∧ rng e ∧ (True)) ∨ ∃ x : Nat, o = .inr (exN x) ∧ (x = 0))) := by
  refine ct_ofX G (by decide) (Nat.le_of_ble_eq_true rfl) (fun k X E ET hRt hXt q => ?_)
  show WS k 0 [(0, .ref (A 0)), (1, .int (Int32.ofInt x))] [] _ 0 0
  have F : Fm [22, 23, 24, 34, 35, 38] [33, 26, 27, 28, 29, 30, 31, 32, 20, 48, 47, 49, 50, 51, 53, 54, 55, 56] s s := fm_rf _ _ s
  have b1 := bi_12 I
  have L23 : ∀ (n : Nat) (t : PS) (c : Int), Bd t → Fm [22, 23, 24, 34, 35, 38] [33, 26, 27, 28, 29, 30, 31, 32, 20, 48, 47, 49, 50, 51, 53, 54, 55, 56] s t → (1 ≤ c ∧ c ≤ 9) → (9 - c : Int).toNat < n → (∀ (t' : PS) (c' : Int), Bd t' → Fm [22, 23, 24, 34, 35, 38] [33, 26, 27, 28, 29, 30, 31, 32, 20, 48, 47, 49, 50, 51, 53, 54, 55, 56] s t' → (1 ≤ c' ∧ c' ≤ 9) → WS k 55 [(0, .ref (A 0)), (2, .int (Int32.ofInt c'))] [] (Wd A dT t') 1 6) → WS k 23 [(0, .ref (A 0)), (2, .int (Int32.ofInt c))] [] (Wd A dT t) 1 6 := by
    intro n
    induction n with
    | zero =>
      intro t c I F hi hm kx
      exact absurd hm (Nat.not_lt_zero _)
    | succ n ih =>
      intro t c I F hi hm kx
      have b1001 := bi_12 I
      refine z_load_n X (x := c) rfl (List.Mem.tail _ (List.Mem.head _)) (z_bipush X rfl (z_icmp_gt X (t := 55) rfl rfl ⟨by first | exact oq_9462313e hi.1 | omega, by first | exact oq_f7e7bb0e hi.2 | omega⟩ (by decide) (fun g1002 => ?_) (fun g1002 => ?_)))
      ·
        refine WS_pq [0, 1] (lv' := [(0, .ref (A 0)), (2, .int (Int32.ofInt c))]) rfl ?_
        exact kx _ c I F (by first | exact ⟨hi.1, hi.2⟩ | omega)
      ·
        refine z_aload_n X (x := A 0) rfl (List.Mem.head _) (s_getR X 0 rfl (c518_ok rfl) rfl rfl (z_load_n X (x := c) rfl (List.Mem.tail _ (List.Mem.head _)) (z_callV X 61 (rm := rmN 62) (As := [.int (Int32.ofInt c)]) (st := []) rfl rfl (by decide) rfl (by rw [E.1, E.2.1, E.2.2.1]; exact c6_run_61 G I (by first | exact ⟨hi.1, g1002⟩ | omega)) ⟨by rw [E.2.2.2]; exact (show (rmN 62).frames + 1 ≤ (rmN 168).frames by decide), by rw [E.2.2.2]; exact (show 8 + (mNL (miB 62) + 11) + (rmN 62).locals ≤ (rmN 168).locals by decide), by rw [E.2.2.2]; exact (show 1 + 0 ≤ 1 by decide), by rw [E.2.2.2]; exact (show 6 + 0 ≤ 6 by decide)⟩ (Nat.le_of_ble_eq_true rfl) (fun vv s1003 hq => ?_) (fun ee s1003 hq => ?_))))
        rotate_left
        · obtain ⟨Is1003, Fs1003, hv, hps1003⟩ := hq; cases hv
        obtain ⟨Is1003, Fs1003, hv, hps1003⟩ := hq
        cases hv
        have Gs1003 := fm_tq F Fs1003 rfl rfl
        have ws1003_12 : iI s1003 12 = iI t 12 := fm_iq Fs1003 rfl
        show WS k 37 [(0, .ref (A 0)), (2, .int (Int32.ofInt c))] [] (Wd A dT s1003) 1 6
        refine z_aload_n X (x := A 0) rfl (List.Mem.head _) (s_getR X 0 rfl (c518_ok rfl) rfl rfl (z_getI X 61 rfl (c518_ok rfl) rfl rfl ?_))
        have b1005 := bi_38 Is1003
        refine z_if_ne X (t := 49) rfl rfl (rng_to _) (fun g1006 => ?_) (fun g1006 => ?_)
        ·
          refine z_inc X (x := c) (lv' := [(2, .int (Int32.ofInt (c + 1))), (0, .ref (A 0))]) rfl (by decide) (List.Mem.tail _ (List.Mem.head _)) (fun _ h => h) (z_goto X (t := 23) rfl rfl (WS_pq [1, 0] (lv' := [(0, .ref (A 0)), (2, .int (Int32.ofInt (c + 1)))]) rfl ?_))
          exact ih _ (c + 1) Is1003 Gs1003 (by first | exact ⟨oq_1e1a2df6 hi.1, oq_c5edd56f g1002⟩ | omega) (by first | exact qk_me hm (by decide) (oq_fa1cb672 g1002) | omega) kx
        ·
          refine z_load_n X (x := c) rfl (List.Mem.tail _ (List.Mem.head _)) ?_
          exact w_iret X.1 q hRt rfl (ax_d X (show cdA 168 48 = some (.ireturn, 1, 0, 0, 0) from rfl)) (show 1 ≤ 1 by decide) (show 6 ≤ 6 by decide) ⟨_, rfl, Is1003, Gs1003, Or.inl ⟨c, rfl, ⟨by first | exact oq_9462313e hi.1 | omega, by first | exact oq_d3f5d874 g1002 | omega⟩, trivial⟩⟩
  refine z_aload_n X (x := A 0) rfl (List.Mem.head _) (z_load_n X (x := x) rfl (List.Mem.tail _ (List.Mem.head _)) (z_const X rfl (z_bipush X rfl (z_callV X 0 (rm := rmN 184) (As := [.int (Int32.ofInt x), .int (Int32.ofInt 0), .int (Int32.ofInt 23)]) (st := []) rfl rfl (by decide) rfl (by rw [E.1, E.2.1, E.2.2.1]; exact cs_needWithin G I (by first | exact ⟨p0.1, p0.2⟩ | omega) (by first | exact ⟨by decide, by decide⟩ | omega) (by first | exact ⟨by decide, by decide⟩ | omega)) ⟨by rw [E.2.2.2]; exact (show (rmN 184).frames + 1 ≤ (rmN 168).frames by decide), by rw [E.2.2.2]; exact (show 8 + (mNL (miB 184) + 11) + (rmN 184).locals ≤ (rmN 168).locals by decide), by rw [E.2.2.2]; exact (show 0 + 1 ≤ 1 by decide), by rw [E.2.2.2]; exact (show 0 + 6 ≤ 6 by decide)⟩ (Nat.le_of_ble_eq_true rfl) (fun vv s2 hq => ?_) (fun ee s2 hq => ?_)))))
  rotate_left
  · obtain ⟨Is2, Fs2, (⟨hv, hps2⟩ | ⟨xx, hv, hps2⟩)⟩ := hq
    · cases hv
    · cases hv
      have Gs2 := fm_tq F Fs2 rfl rfl
      have ws2_12 : iI s2 12 = iI s 12 := fm_iq Fs2 rfl
      exact x_out X.1 q (fun x hx => (hXt x hx).elim) (show 1 ≤ 1 by decide) (show 6 ≤ 6 by decide) ⟨_, rfl, Is2, Gs2, Or.inr ⟨xx, rfl, by omega⟩⟩
  obtain ⟨Is2, Fs2, (⟨hv, hps2⟩ | ⟨xx, hv, hps2⟩)⟩ := hq
  rotate_left
  · cases hv
  cases hv
  have Gs2 := fm_tq F Fs2 rfl rfl
  have ws2_12 : iI s2 12 = iI s 12 := fm_iq Fs2 rfl
  show WS k 8 [(0, .ref (A 0)), (1, .int (Int32.ofInt x))] [] (Wd A dT s2) 1 6
  refine z_aload_n X (x := A 0) rfl (List.Mem.head _) (s_getR X 0 rfl (c518_ok rfl) rfl rfl (z_load_n X (x := x) rfl (List.Mem.tail _ (List.Mem.head _)) (z_callV X 54 (rm := rmN 48) (As := [.int (Int32.ofInt x)]) (st := []) rfl rfl (by decide) rfl (by rw [E.1, E.2.1, E.2.2.1]; exact c4_solve_54 G Is2 (by first | exact ⟨hps2.1, hps2.2⟩ | omega) (by first | exact oq_86ef0b17 ws2_12 p1 | omega)) ⟨by rw [E.2.2.2]; exact (show (rmN 48).frames + 1 ≤ (rmN 168).frames by decide), by rw [E.2.2.2]; exact (show 8 + (mNL (miB 48) + 11) + (rmN 48).locals ≤ (rmN 168).locals by decide), by rw [E.2.2.2]; exact (show 1 + 0 ≤ 1 by decide), by rw [E.2.2.2]; exact (show 6 + 0 ≤ 6 by decide)⟩ (Nat.le_of_ble_eq_true rfl) (fun vv s4 hq => ?_) (fun ee s4 hq => ?_))))
  rotate_left
  · obtain ⟨Is4, Fs4, e5, hv, hrs4, hps4⟩ := hq; cases hv
  obtain ⟨Is4, Fs4, e5, hv, hrs4, hps4⟩ := hq
  cases hv
  have Gs4 := fm_tq Gs2 Fs4 rfl rfl
  have ws4_12 : iI s4 12 = iI s2 12 := fm_iq Fs4 rfl
  show WS k 16 [(0, .ref (A 0)), (1, .int (Int32.ofInt x))] [.int (Int32.ofInt e5)] (Wd A dT s4) 1 6
  refine z_if_ne X (t := 21) rfl rfl hrs4 (fun g6 => ?_) (fun g6 => ?_)
  ·
    refine z_const X rfl (z_store_n X (lv' := [(2, .int (Int32.ofInt 1)), (0, .ref (A 0)), (1, .int (Int32.ofInt x))]) rfl (by decide) (fun _ h => h) (WS_pq [1, 0] (lv' := [(0, .ref (A 0)), (2, .int (Int32.ofInt 1))]) rfl (L23 ((9 - 1 : Int).toNat + 1) s4 1 Is4 Gs4 (by first | exact ⟨by decide, by decide⟩ | omega) (Nat.lt_succ_self _) ?_)))
    intro s7 x8 Is7 Fs7 hs7
    have b9 := bi_12 Is7
    refine z_const X rfl ?_
    exact w_iret X.1 q hRt rfl (ax_d X (show cdA 168 56 = some (.ireturn, 1, 0, 0, 0) from rfl)) (show 1 ≤ 1 by decide) (show 6 ≤ 6 by decide) ⟨_, rfl, Is7, Fs7, Or.inl ⟨(-1), rfl, (by decide), trivial⟩⟩
  ·
    refine z_const X rfl ?_
    exact w_iret X.1 q hRt rfl (ax_d X (show cdA 168 20 = some (.ireturn, 1, 0, 0, 0) from rfl)) (show 1 ≤ 1 by decide) (show 6 ≤ 6 by decide) ⟨_, rfl, Is4, Gs4, Or.inl ⟨(-1), rfl, (by decide), trivial⟩⟩
set_option maxRecDepth 4000 in
theorem cs_storm (G : GX l s0 D tys a0 dT) (I : Bd s) {x y : Int} (p0 : rng x) (p1 : y = 0 ∨ y = 1) : CT l s0 D A dT 169 (rmN 169) [.ref (A 0), .int (Int32.ofInt x), .int (Int32.ofInt y)] s (fun o t => Bd t ∧ Fm [1000, 1001] [] s t ∧ ((∃ e, o = .inl (some (.int (Int32.ofInt e))) ∧ rng e ∧ (e = 0 ∨ e = 1)) ∨ ∃ x : Nat, o = .inr (exN x) ∧ (x = 2))) := by
  refine ct_ofX G (by decide) (Nat.le_of_ble_eq_true rfl) (fun k X E ET hRt hXt q => ?_)
  show WS k 0 [(0, .ref (A 0)), (1, .int (Int32.ofInt x)), (2, .int (Int32.ofInt y))] [] _ 0 0
  have F : Fm [1000, 1001] [] s s := fm_rf _ _ s
  refine z_aload_n X (x := A 0) rfl (List.Mem.head _) (z_load_n X (x := x) rfl (List.Mem.tail _ (List.Mem.head _)) (z_callV X 0 (rm := rmN 181) (As := [.int (Int32.ofInt x)]) (st := []) rfl rfl (by decide) rfl (by rw [E.1, E.2.1, E.2.2.1]; exact cs_needCell G I (by first | exact ⟨p0.1, p0.2⟩ | omega)) ⟨by rw [E.2.2.2]; exact (show (rmN 181).frames + 1 ≤ (rmN 169).frames by decide), by rw [E.2.2.2]; exact (show 8 + (mNL (miB 181) + 11) + (rmN 181).locals ≤ (rmN 169).locals by decide), by rw [E.2.2.2]; exact (show 0 + 1 ≤ 1 by decide), by rw [E.2.2.2]; exact (show 0 + 6 ≤ 6 by decide)⟩ (Nat.le_of_ble_eq_true rfl) (fun vv s1 hq => ?_) (fun ee s1 hq => ?_)))
  rotate_left
  · obtain ⟨Is1, Fs1, (⟨hv, hps1⟩ | ⟨xx, hv, hps1⟩)⟩ := hq
    · cases hv
    · cases hv
      have Gs1 := fm_tq F Fs1 rfl rfl
      exact x_out X.1 q (fun x hx => (hXt x hx).elim) (show 1 ≤ 1 by decide) (show 6 ≤ 6 by decide) ⟨_, rfl, Is1, Gs1, Or.inr ⟨xx, rfl, by first | (clear p1; omega) | omega⟩⟩
  obtain ⟨Is1, Fs1, (⟨hv, hps1⟩ | ⟨xx, hv, hps1⟩)⟩ := hq
  rotate_left
  · cases hv
  cases hv
  have Gs1 := fm_tq F Fs1 rfl rfl
  show WS k 5 [(0, .ref (A 0)), (1, .int (Int32.ofInt x)), (2, .int (Int32.ofInt y))] [] (Wd A dT s1) 1 6
  refine z_aload_n X (x := A 0) rfl (List.Mem.head _) (s_getR X 0 rfl (c518_ok rfl) rfl rfl (z_load_n X (x := x) rfl (List.Mem.tail _ (List.Mem.head _)) (z_load_n X (x := y) rfl (List.Mem.tail _ (List.Mem.tail _ (List.Mem.head _))) (z_callV X 67 (rm := rmN 87) (As := [.int (Int32.ofInt x), .int (Int32.ofInt y)]) (st := []) rfl rfl (by decide) rfl (by rw [E.1, E.2.1, E.2.2.1]; exact c8_shut_67 G Is1 (by first | exact ⟨hps1.1, hps1.2⟩ | omega) (by first | exact p1 | omega)) ⟨by rw [E.2.2.2]; exact (show (rmN 87).frames + 1 ≤ (rmN 169).frames by decide), by rw [E.2.2.2]; exact (show 8 + (mNL (miB 87) + 11) + (rmN 87).locals ≤ (rmN 169).locals by decide), by rw [E.2.2.2]; exact (show 1 + 0 ≤ 1 by decide), by rw [E.2.2.2]; exact (show 6 + 0 ≤ 6 by decide)⟩ (Nat.le_of_ble_eq_true rfl) (fun vv s3 hq => ?_) (fun ee s3 hq => ?_)))))
  rotate_left
  · obtain ⟨Is3, Fs3, e4, hv, hrs3, hps3⟩ := hq; cases hv
  obtain ⟨Is3, Fs3, e4, hv, hrs3, hps3⟩ := hq
  cases hv
  have Gs3 := fm_tq Gs1 Fs3 rfl rfl
  show WS k 14 [(0, .ref (A 0)), (1, .int (Int32.ofInt x)), (2, .int (Int32.ofInt y))] [.int (Int32.ofInt e4)] (Wd A dT s3) 1 6
  exact w_iret X.1 q hRt (nar_ret (by first | exact hps3 | omega)) (ax_d X (show cdA 169 14 = some (.ireturn, 1, 0, 0, 0) from rfl)) (show 1 ≤ 1 by decide) (show 6 ≤ 6 by decide) ⟨_, rfl, Is3, Gs3, Or.inl ⟨e4, rfl, hrs3, by first | exact hps3 | omega⟩⟩
set_option maxRecDepth 4000 in
theorem cs_lead (G : GX l s0 D tys a0 dT) (I : Bd s) {x y z w : Int} (p0 : rng x) (p1 : rng y) (p2 : rng z) (p3 : w = 0 ∨ w = 1) : CT l s0 D A dT 173 (rmN 173) [.ref (A 0), .int (Int32.ofInt x), .int (Int32.ofInt y), .int (Int32.ofInt z), .int (Int32.ofInt w)] s (fun o t => Bd t ∧ Fm [22, 23] [33, 26, 27, 28, 29, 30, 31, 32, 20, 34] s t ∧ ((∃ e, o = .inl (some (.int (Int32.ofInt e))) ∧ rng e ∧ (True)) ∨ ∃ x : Nat, o = .inr (exN x) ∧ (x = 0))) := by
  refine ct_ofX G (by decide) (Nat.le_of_ble_eq_true rfl) (fun k X E ET hRt hXt q => ?_)
  show WS k 0 [(0, .ref (A 0)), (1, .int (Int32.ofInt x)), (2, .int (Int32.ofInt y)), (3, .int (Int32.ofInt z)), (4, .int (Int32.ofInt w))] [] _ 0 0
  have F : Fm [22, 23] [33, 26, 27, 28, 29, 30, 31, 32, 20, 34] s s := fm_rf _ _ s
  refine z_aload_n X (x := A 0) rfl (List.Mem.head _) (z_load_n X (x := x) rfl (List.Mem.tail _ (List.Mem.head _)) (z_callV X 0 (rm := rmN 182) (As := [.int (Int32.ofInt x)]) (st := []) rfl rfl (by decide) rfl (by rw [E.1, E.2.1, E.2.2.1]; exact cs_needPiece G I (by first | exact ⟨p0.1, p0.2⟩ | omega)) ⟨by rw [E.2.2.2]; exact (show (rmN 182).frames + 1 ≤ (rmN 173).frames by decide), by rw [E.2.2.2]; exact (show 8 + (mNL (miB 182) + 11) + (rmN 182).locals ≤ (rmN 173).locals by decide), by rw [E.2.2.2]; exact (show 0 + 1 ≤ 2 by decide), by rw [E.2.2.2]; exact (show 0 + 6 ≤ 12 by decide)⟩ (Nat.le_of_ble_eq_true rfl) (fun vv s1 hq => ?_) (fun ee s1 hq => ?_)))
  rotate_left
  · obtain ⟨Is1, Fs1, (⟨hv, hps1⟩ | ⟨xx, hv, hps1⟩)⟩ := hq
    · cases hv
    · cases hv
      have Gs1 := fm_tq F Fs1 rfl rfl
      exact x_out X.1 q (fun x hx => (hXt x hx).elim) (show 1 ≤ 2 by decide) (show 6 ≤ 12 by decide) ⟨_, rfl, Is1, Gs1, Or.inr ⟨xx, rfl, by first | (clear p3; omega) | omega⟩⟩
  obtain ⟨Is1, Fs1, (⟨hv, hps1⟩ | ⟨xx, hv, hps1⟩)⟩ := hq
  rotate_left
  · cases hv
  cases hv
  have Gs1 := fm_tq F Fs1 rfl rfl
  show WS k 5 [(0, .ref (A 0)), (1, .int (Int32.ofInt x)), (2, .int (Int32.ofInt y)), (3, .int (Int32.ofInt z)), (4, .int (Int32.ofInt w))] [] (Wd A dT s1) 1 6
  refine z_aload_n X (x := A 0) rfl (List.Mem.head _) (z_load_n X (x := y) rfl (List.Mem.tail _ (List.Mem.tail _ (List.Mem.head _))) (z_callV X 0 (rm := rmN 183) (As := [.int (Int32.ofInt y)]) (st := []) rfl rfl (by decide) rfl (by rw [E.1, E.2.1, E.2.2.1]; exact cs_needQuarter G Is1 (by first | exact ⟨p1.1, p1.2⟩ | omega)) ⟨by rw [E.2.2.2]; exact (show (rmN 183).frames + 1 ≤ (rmN 173).frames by decide), by rw [E.2.2.2]; exact (show 8 + (mNL (miB 183) + 11) + (rmN 183).locals ≤ (rmN 173).locals by decide), by rw [E.2.2.2]; exact (show 1 + 1 ≤ 2 by decide), by rw [E.2.2.2]; exact (show 6 + 6 ≤ 12 by decide)⟩ (Nat.le_of_ble_eq_true rfl) (fun vv s3 hq => ?_) (fun ee s3 hq => ?_)))
  rotate_left
  · obtain ⟨Is3, Fs3, (⟨hv, hps3⟩ | ⟨xx, hv, hps3⟩)⟩ := hq
    · cases hv
    · cases hv
      have Gs3 := fm_tq Gs1 Fs3 rfl rfl
      exact x_out X.1 q (fun x hx => (hXt x hx).elim) (show (1 + 1) ≤ 2 by decide) (show (6 + 6) ≤ 12 by decide) ⟨_, rfl, Is3, Gs3, Or.inr ⟨xx, rfl, by first | (clear hps1 p3; omega) | (clear p3; omega) | omega⟩⟩
  obtain ⟨Is3, Fs3, (⟨hv, hps3⟩ | ⟨xx, hv, hps3⟩)⟩ := hq
  rotate_left
  · cases hv
  cases hv
  have Gs3 := fm_tq Gs1 Fs3 rfl rfl
  show WS k 10 [(0, .ref (A 0)), (1, .int (Int32.ofInt x)), (2, .int (Int32.ofInt y)), (3, .int (Int32.ofInt z)), (4, .int (Int32.ofInt w))] [] (Wd A dT s3) (1 + 1) (6 + 6)
  refine z_aload_n X (x := A 0) rfl (List.Mem.head _) (z_load_n X (x := x) rfl (List.Mem.tail _ (List.Mem.head _)) (z_callV X 0 (rm := rmN 179) (As := [.int (Int32.ofInt x)]) (st := []) rfl rfl (by decide) rfl (by rw [E.1, E.2.1, E.2.2.1]; exact cs_listenTo G Is3 (by first | exact ⟨hps1.1, hps1.2⟩ | omega)) ⟨by rw [E.2.2.2]; exact (show (rmN 179).frames + 1 ≤ (rmN 173).frames by decide), by rw [E.2.2.2]; exact (show 8 + (mNL (miB 179) + 11) + (rmN 179).locals ≤ (rmN 173).locals by decide), by rw [E.2.2.2]; exact (show (1 + 1) + 0 ≤ 2 by decide), by rw [E.2.2.2]; exact (show (6 + 6) + 0 ≤ 12 by decide)⟩ (Nat.le_of_ble_eq_true rfl) (fun vv s5 hq => ?_) (fun ee s5 hq => ?_)))
  rotate_left
  · obtain ⟨Is5, Fs5, hv, hps5⟩ := hq; cases hv
  obtain ⟨Is5, Fs5, hv, hps5⟩ := hq
  cases hv
  have Gs5 := fm_tq Gs3 Fs5 rfl rfl
  show WS k 15 [(0, .ref (A 0)), (1, .int (Int32.ofInt x)), (2, .int (Int32.ofInt y)), (3, .int (Int32.ofInt z)), (4, .int (Int32.ofInt w))] [] (Wd A dT s5) (1 + 1) (6 + 6)
  refine z_aload_n X (x := A 0) rfl (List.Mem.head _) (s_getR X 0 rfl (c518_ok rfl) rfl rfl (z_load_n X (x := y) rfl (List.Mem.tail _ (List.Mem.tail _ (List.Mem.head _))) (z_load_n X (x := z) rfl (List.Mem.tail _ (List.Mem.tail _ (List.Mem.tail _ (List.Mem.head _)))) (z_callV X 31 (rm := rmN 8) (As := [.int (Int32.ofInt y), .int (Int32.ofInt z)]) (st := []) rfl rfl (by decide) rfl (by rw [E.1, E.2.1, E.2.2.1]; exact c0_leadAt_31 G Is5 (by first | exact ⟨hps3.1, hps3.2⟩ | omega) (by first | exact ⟨p2.1, p2.2⟩ | omega)) ⟨by rw [E.2.2.2]; exact (show (rmN 8).frames + 1 ≤ (rmN 173).frames by decide), by rw [E.2.2.2]; exact (show 8 + (mNL (miB 8) + 11) + (rmN 8).locals ≤ (rmN 173).locals by decide), by rw [E.2.2.2]; exact (show (1 + 1) + 0 ≤ 2 by decide), by rw [E.2.2.2]; exact (show (6 + 6) + 0 ≤ 12 by decide)⟩ (Nat.le_of_ble_eq_true rfl) (fun vv s7 hq => ?_) (fun ee s7 hq => ?_)))))
  rotate_left
  · obtain ⟨Is7, Fs7, e8, hv, hrs7, hps7⟩ := hq; cases hv
  obtain ⟨Is7, Fs7, e8, hv, hrs7, hps7⟩ := hq
  cases hv
  have Gs7 := fm_tq Gs5 Fs7 rfl rfl
  show WS k 24 [(0, .ref (A 0)), (1, .int (Int32.ofInt x)), (2, .int (Int32.ofInt y)), (3, .int (Int32.ofInt z)), (4, .int (Int32.ofInt w))] [.int (Int32.ofInt e8)] (Wd A dT s7) (1 + 1) (6 + 6)
  refine z_store X (lv' := [(5, .int (Int32.ofInt e8)), (0, .ref (A 0)), (1, .int (Int32.ofInt x)), (2, .int (Int32.ofInt y)), (3, .int (Int32.ofInt z)), (4, .int (Int32.ofInt w))]) rfl (by decide) (fun _ h => h) (z_load X (x := e8) rfl (List.Mem.head _) (z_const X rfl ?_))
  have N9 : ∀ e10 : Int, (((e8 = (-1)) ∧ e10 = e8) ∨ ((e8 ≠ (-1)) ∧ (w ≠ 0) ∧ (((-2147483648) : Int) ≤ iC s7 34 (e8).toNat ∧ iC s7 34 (e8).toNat ≤ 2147483647) ∧ e10 = (iC s7 34 (e8).toNat)) ∨ ((e8 ≠ (-1)) ∧ (w = 0) ∧ e10 = e8)) → WS k 52 [(5, .int (Int32.ofInt e8)), (0, .ref (A 0)), (1, .int (Int32.ofInt x)), (2, .int (Int32.ofInt y)), (3, .int (Int32.ofInt z)), (4, .int (Int32.ofInt w))] [.int (Int32.ofInt e10)] (Wd A dT s7) (1 + 1) (6 + 6) := by
    intro e10 he10
    exact w_iret X.1 q hRt rfl (ax_d X (show cdA 173 52 = some (.ireturn, 1, 0, 0, 0) from rfl)) (show (1 + 1) ≤ 2 by decide) (show (6 + 6) ≤ 12 by decide) ⟨_, rfl, Is7, Gs7, Or.inl ⟨e10, rfl, ⟨by first | exact oq_21dab0cf he10 hps7.1 | omega, by first | exact oq_d0297410 he10 hps7.2 | omega⟩, trivial⟩⟩
  refine z_icmp_eq X (t := 37) rfl rfl hrs7 (by decide) (fun g11 => ?_) (fun g11 => ?_)
  ·
    exact z_load X (x := e8) rfl (List.Mem.head _) (z_goto X (t := 52) rfl rfl (N9 _ (Or.inl ⟨g11, rfl⟩)))
  ·
    refine z_load X (x := w) rfl (List.Mem.tail _ (List.Mem.tail _ (List.Mem.tail _ (List.Mem.tail _ (List.Mem.tail _ (List.Mem.head _)))))) (z_if_ne X (t := 42) rfl rfl ⟨by first | exact oq_bde653e9 p3 | omega, by first | exact oq_4ad2cb8b p3 | omega⟩ (fun g12 => ?_) (fun g12 => ?_))
    ·
      refine z_aload_n X (x := A 0) rfl (List.Mem.tail _ (List.Mem.head _)) (s_getR X 0 rfl (c518_ok rfl) rfl rfl (s_getR X 31 rfl (c518_ok rfl) rfl rfl (z_load X (x := e8) rfl (List.Mem.head _) (z_ald X 40 rfl (c518_ok rfl) rfl (by first | exact oq_7a1025bf g11 hps7.1 | omega) (show e8 < 12 by first | exact oq_0ddfcfee hps7.2 | omega) (cbig_ok rfl) ?_))))
      have b13 := bc_34 Is7 (show (e8).toNat < 12 by first | exact oq_9c5fa447 hps7.2 | omega)
      exact N9 _ (Or.inr (Or.inl ⟨g11, g12, b13, rfl⟩))
    ·
      exact z_load X (x := e8) rfl (List.Mem.head _) (z_goto X (t := 52) rfl rfl (N9 _ (Or.inr (Or.inr (⟨g11, g12, rfl⟩)))))
set_option maxRecDepth 4000 in
theorem cs_quiet (G : GX l s0 D tys a0 dT) (I : Bd s) {x : Int} (p0 : rng x) : CT l s0 D A dT 175 (rmN 175) [.ref (A 0), .int (Int32.ofInt x)] s (fun o t => Bd t ∧ Fm [] [] s t ∧ ((∃ e, o = .inl (some (.int (Int32.ofInt e))) ∧ rng e ∧ (True)) ∨ ∃ x : Nat, o = .inr (exN x) ∧ (x = 2))) := by
  refine ct_ofX G (by decide) (Nat.le_of_ble_eq_true rfl) (fun k X E ET hRt hXt q => ?_)
  show WS k 0 [(0, .ref (A 0)), (1, .int (Int32.ofInt x))] [] _ 0 0
  have F : Fm [] [] s s := fm_rf _ _ s
  refine z_aload_n X (x := A 0) rfl (List.Mem.head _) (z_load_n X (x := x) rfl (List.Mem.tail _ (List.Mem.head _)) (z_callV X 0 (rm := rmN 181) (As := [.int (Int32.ofInt x)]) (st := []) rfl rfl (by decide) rfl (by rw [E.1, E.2.1, E.2.2.1]; exact cs_needCell G I (by first | exact ⟨p0.1, p0.2⟩ | omega)) ⟨by rw [E.2.2.2]; exact (show (rmN 181).frames + 1 ≤ (rmN 175).frames by decide), by rw [E.2.2.2]; exact (show 8 + (mNL (miB 181) + 11) + (rmN 181).locals ≤ (rmN 175).locals by decide), by rw [E.2.2.2]; exact (show 0 + 1 ≤ 1 by decide), by rw [E.2.2.2]; exact (show 0 + 6 ≤ 6 by decide)⟩ (Nat.le_of_ble_eq_true rfl) (fun vv s1 hq => ?_) (fun ee s1 hq => ?_)))
  rotate_left
  · obtain ⟨Is1, Fs1, (⟨hv, hps1⟩ | ⟨xx, hv, hps1⟩)⟩ := hq
    · cases hv
    · cases hv
      have Gs1 := fm_tq F Fs1 rfl rfl
      exact x_out X.1 q (fun x hx => (hXt x hx).elim) (show 1 ≤ 1 by decide) (show 6 ≤ 6 by decide) ⟨_, rfl, Is1, Gs1, Or.inr ⟨xx, rfl, by omega⟩⟩
  obtain ⟨Is1, Fs1, (⟨hv, hps1⟩ | ⟨xx, hv, hps1⟩)⟩ := hq
  rotate_left
  · cases hv
  cases hv
  have Gs1 := fm_tq F Fs1 rfl rfl
  show WS k 5 [(0, .ref (A 0)), (1, .int (Int32.ofInt x))] [] (Wd A dT s1) 1 6
  refine z_aload_n X (x := A 0) rfl (List.Mem.head _) (s_getR X 0 rfl (c518_ok rfl) rfl rfl (z_load_n X (x := x) rfl (List.Mem.tail _ (List.Mem.head _)) (z_callV X 3 (rm := rmN 121) (As := [.int (Int32.ofInt x)]) (st := []) rfl rfl (by decide) rfl (by rw [E.1, E.2.1, E.2.2.1]; exact c9_countsAt_3 G Is1 (by first | exact ⟨hps1.1, hps1.2⟩ | omega)) ⟨by rw [E.2.2.2]; exact (show (rmN 121).frames + 1 ≤ (rmN 175).frames by decide), by rw [E.2.2.2]; exact (show 8 + (mNL (miB 121) + 11) + (rmN 121).locals ≤ (rmN 175).locals by decide), by rw [E.2.2.2]; exact (show 1 + 0 ≤ 1 by decide), by rw [E.2.2.2]; exact (show 6 + 0 ≤ 6 by decide)⟩ (Nat.le_of_ble_eq_true rfl) (fun vv s3 hq => ?_) (fun ee s3 hq => ?_))))
  rotate_left
  · obtain ⟨Is3, Fs3, e4, hv, hrs3, hps3⟩ := hq; cases hv
  obtain ⟨Is3, Fs3, e4, hv, hrs3, hps3⟩ := hq
  cases hv
  have Gs3 := fm_tq Gs1 Fs3 rfl rfl
  show WS k 13 [(0, .ref (A 0)), (1, .int (Int32.ofInt x))] [.int (Int32.ofInt e4)] (Wd A dT s3) 1 6
  exact w_iret X.1 q hRt rfl (ax_d X (show cdA 175 13 = some (.ireturn, 1, 0, 0, 0) from rfl)) (show 1 ≤ 1 by decide) (show 6 ≤ 6 by decide) ⟨_, rfl, Is3, Gs3, Or.inl ⟨e4, rfl, hrs3, trivial⟩⟩
set_option maxRecDepth 4000 in
theorem cs_count (G : GX l s0 D tys a0 dT) (I : Bd s) {x : Int} (p0 : rng x) : CT l s0 D A dT 178 (rmN 178) [.ref (A 0), .int (Int32.ofInt x)] s (fun o t => Bd t ∧ Fm [] [] s t ∧ ∃ e, o = .inl (some (.int (Int32.ofInt e))) ∧ rng e ∧ (True)) := by
  refine ct_ofX G (by decide) (Nat.le_of_ble_eq_true rfl) (fun k X E ET hRt hXt q => ?_)
  show WS k 0 [(0, .ref (A 0)), (1, .int (Int32.ofInt x))] [] _ 0 0
  have F : Fm [] [] s s := fm_rf _ _ s
  refine z_load_n X (x := x) rfl (List.Mem.tail _ (List.Mem.head _)) ?_
  rcases (show x = 0 ∨ x = 1 ∨ x = 2 ∨ x = 3 ∨ x = 4 ∨ x = 5 ∨ x = 6 ∨ x = 7 ∨ x = 8 ∨ x = 9 ∨ (x < 0 ∨ 9 < x) by omega) with gs | gs | gs | gs | gs | gs | gs | gs | gs | gs | gs
  ·
    rw [gs]
    refine w_tabIn X.1 (dflt := 149) (lo := 0) (hi := 9) (offs := #[55, 63, 71, 79, 87, 95, 103, 111, 133, 141]) (len := 55) (off := 55) (t := 56) (ax_d X (show cdA 178 1 = some (.tableswitch 149 0 9 #[55, 63, 71, 79, 87, 95, 103, 111, 133, 141], 55, 0, 0, 0) from rfl)) (by decide) (by decide) (by decide) (by decide) (z_aload_n X (x := A 0) rfl (List.Mem.head _) (s_getR X 0 rfl (c518_ok rfl) rfl rfl (z_getI X 3 rfl (c518_ok rfl) rfl rfl ?_)))
    have b1 := bi_9 I
    exact w_iret X.1 q hRt rfl (ax_d X (show cdA 178 63 = some (.ireturn, 1, 0, 0, 0) from rfl)) (Nat.zero_le _) (Nat.zero_le _) ⟨_, rfl, I, F, (iI s 9), rfl, (rng_to _), trivial⟩
  ·
    rw [gs]
    refine w_tabIn X.1 (dflt := 149) (lo := 0) (hi := 9) (offs := #[55, 63, 71, 79, 87, 95, 103, 111, 133, 141]) (len := 55) (off := 63) (t := 64) (ax_d X (show cdA 178 1 = some (.tableswitch 149 0 9 #[55, 63, 71, 79, 87, 95, 103, 111, 133, 141], 55, 0, 0, 0) from rfl)) (by decide) (by decide) (by decide) (by decide) (z_aload_n X (x := A 0) rfl (List.Mem.head _) (s_getR X 0 rfl (c518_ok rfl) rfl rfl (z_getI X 19 rfl (c518_ok rfl) rfl rfl ?_)))
    have b2 := bi_12 I
    exact w_iret X.1 q hRt rfl (ax_d X (show cdA 178 71 = some (.ireturn, 1, 0, 0, 0) from rfl)) (Nat.zero_le _) (Nat.zero_le _) ⟨_, rfl, I, F, (iI s 12), rfl, (rng_to _), trivial⟩
  ·
    rw [gs]
    refine w_tabIn X.1 (dflt := 149) (lo := 0) (hi := 9) (offs := #[55, 63, 71, 79, 87, 95, 103, 111, 133, 141]) (len := 55) (off := 71) (t := 72) (ax_d X (show cdA 178 1 = some (.tableswitch 149 0 9 #[55, 63, 71, 79, 87, 95, 103, 111, 133, 141], 55, 0, 0, 0) from rfl)) (by decide) (by decide) (by decide) (by decide) (z_aload_n X (x := A 0) rfl (List.Mem.head _) (s_getR X 0 rfl (c518_ok rfl) rfl rfl (zcV_i0 X E 25 (As := []) (st := []) rfl rfl rfl rfl (c3_countPieces_25 G I ) rfl (Nat.le_of_ble_eq_true rfl) (fun s3 e4 Is3 Fs3 hrs3 hps3 => ?_))))
    have Gs3 := fm_tq F Fs3 rfl rfl
    exact w_iret X.1 q hRt rfl (ax_d X (show cdA 178 79 = some (.ireturn, 1, 0, 0, 0) from rfl)) (Nat.zero_le _) (Nat.zero_le _) ⟨_, rfl, Is3, Gs3, e4, rfl, hrs3, trivial⟩
  ·
    rw [gs]
    refine w_tabIn X.1 (dflt := 149) (lo := 0) (hi := 9) (offs := #[55, 63, 71, 79, 87, 95, 103, 111, 133, 141]) (len := 55) (off := 79) (t := 80) (ax_d X (show cdA 178 1 = some (.tableswitch 149 0 9 #[55, 63, 71, 79, 87, 95, 103, 111, 133, 141], 55, 0, 0, 0) from rfl)) (by decide) (by decide) (by decide) (by decide) (z_aload_n X (x := A 0) rfl (List.Mem.head _) (s_getR X 0 rfl (c518_ok rfl) rfl rfl (zcV_i0 X E 25 (As := []) (st := []) rfl rfl rfl rfl (c3_countShut_25 G I ) rfl (Nat.le_of_ble_eq_true rfl) (fun s5 e6 Is5 Fs5 hrs5 hps5 => ?_))))
    have Gs5 := fm_tq F Fs5 rfl rfl
    exact w_iret X.1 q hRt rfl (ax_d X (show cdA 178 87 = some (.ireturn, 1, 0, 0, 0) from rfl)) (Nat.zero_le _) (Nat.zero_le _) ⟨_, rfl, Is5, Gs5, e6, rfl, hrs5, trivial⟩
  ·
    rw [gs]
    refine w_tabIn X.1 (dflt := 149) (lo := 0) (hi := 9) (offs := #[55, 63, 71, 79, 87, 95, 103, 111, 133, 141]) (len := 55) (off := 87) (t := 88) (ax_d X (show cdA 178 1 = some (.tableswitch 149 0 9 #[55, 63, 71, 79, 87, 95, 103, 111, 133, 141], 55, 0, 0, 0) from rfl)) (by decide) (by decide) (by decide) (by decide) (z_aload_n X (x := A 0) rfl (List.Mem.head _) (s_getR X 0 rfl (c518_ok rfl) rfl rfl (z_getI X 46 rfl (c518_ok rfl) rfl rfl ?_)))
    have b7 := bi_28 I
    exact w_iret X.1 q hRt rfl (ax_d X (show cdA 178 95 = some (.ireturn, 1, 0, 0, 0) from rfl)) (Nat.zero_le _) (Nat.zero_le _) ⟨_, rfl, I, F, (iI s 28), rfl, (rng_to _), trivial⟩
  ·
    rw [gs]
    refine w_tabIn X.1 (dflt := 149) (lo := 0) (hi := 9) (offs := #[55, 63, 71, 79, 87, 95, 103, 111, 133, 141]) (len := 55) (off := 95) (t := 96) (ax_d X (show cdA 178 1 = some (.tableswitch 149 0 9 #[55, 63, 71, 79, 87, 95, 103, 111, 133, 141], 55, 0, 0, 0) from rfl)) (by decide) (by decide) (by decide) (by decide) (z_aload_n X (x := A 0) rfl (List.Mem.head _) (s_getR X 0 rfl (c518_ok rfl) rfl rfl (z_getI X 54 rfl (c518_ok rfl) rfl rfl ?_)))
    have b8 := bi_32 I
    exact w_iret X.1 q hRt rfl (ax_d X (show cdA 178 103 = some (.ireturn, 1, 0, 0, 0) from rfl)) (Nat.zero_le _) (Nat.zero_le _) ⟨_, rfl, I, F, (iI s 32), rfl, (rng_to _), trivial⟩
  ·
    rw [gs]
    refine w_tabIn X.1 (dflt := 149) (lo := 0) (hi := 9) (offs := #[55, 63, 71, 79, 87, 95, 103, 111, 133, 141]) (len := 55) (off := 103) (t := 104) (ax_d X (show cdA 178 1 = some (.tableswitch 149 0 9 #[55, 63, 71, 79, 87, 95, 103, 111, 133, 141], 55, 0, 0, 0) from rfl)) (by decide) (by decide) (by decide) (by decide) (z_aload_n X (x := A 0) rfl (List.Mem.head _) (s_getR X 0 rfl (c518_ok rfl) rfl rfl (z_getI X 173 rfl (c518_ok rfl) rfl rfl ?_)))
    have b9 := bi_70 I
    exact w_iret X.1 q hRt rfl (ax_d X (show cdA 178 111 = some (.ireturn, 1, 0, 0, 0) from rfl)) (Nat.zero_le _) (Nat.zero_le _) ⟨_, rfl, I, F, (iI s 70), rfl, (rng_to _), trivial⟩
  ·
    rw [gs]
    refine w_tabIn X.1 (dflt := 149) (lo := 0) (hi := 9) (offs := #[55, 63, 71, 79, 87, 95, 103, 111, 133, 141]) (len := 55) (off := 111) (t := 112) (ax_d X (show cdA 178 1 = some (.tableswitch 149 0 9 #[55, 63, 71, 79, 87, 95, 103, 111, 133, 141], 55, 0, 0, 0) from rfl)) (by decide) (by decide) (by decide) (by decide) (z_aload_n X (x := A 0) rfl (List.Mem.head _) (s_getR X 0 rfl (c518_ok rfl) rfl rfl (z_getJ X 67 rfl (by decide) rfl rfl (fun j10 => ?_))))
    refine zcS_i0 X E (As := [.long j10]) (st := []) rfl rfl (j_bitL G I ) rfl (Nat.le_of_ble_eq_true rfl) (fun s11 e12 Is11 Fs11 hrs11 hps11 => ?_)
    have Gs11 := fm_tq F Fs11 rfl rfl
    refine z_aload_n X (x := A 0) rfl (List.Mem.head _) (s_getR X 0 rfl (c518_ok rfl) rfl rfl (z_getJ X 67 rfl (by decide) rfl rfl (fun j13 => ?_)))
    refine zcS_i0 X E (As := [.long j13]) (st := [.int (Int32.ofInt e12)]) rfl rfl (j_bitL G Is11 ) rfl (Nat.le_of_ble_eq_true rfl) (fun s14 e15 Is14 Fs14 hrs14 hps14 => ?_)
    have Gs14 := fm_tq Gs11 Fs14 rfl rfl
    refine z_add X rfl (z_any (fun y16 hy16 => ?_))
    exact w_iret X.1 q hRt rfl (ax_d X (show cdA 178 133 = some (.ireturn, 1, 0, 0, 0) from rfl)) (Nat.zero_le _) (Nat.zero_le _) ⟨_, rfl, Is14, Gs14, y16, rfl, hy16, trivial⟩
  ·
    rw [gs]
    refine w_tabIn X.1 (dflt := 149) (lo := 0) (hi := 9) (offs := #[55, 63, 71, 79, 87, 95, 103, 111, 133, 141]) (len := 55) (off := 133) (t := 134) (ax_d X (show cdA 178 1 = some (.tableswitch 149 0 9 #[55, 63, 71, 79, 87, 95, 103, 111, 133, 141], 55, 0, 0, 0) from rfl)) (by decide) (by decide) (by decide) (by decide) (z_aload_n X (x := A 0) rfl (List.Mem.head _) (s_getR X 0 rfl (c518_ok rfl) rfl rfl (z_getI X 25 rfl (c518_ok rfl) rfl rfl ?_)))
    have b17 := bi_20 I
    exact w_iret X.1 q hRt rfl (ax_d X (show cdA 178 141 = some (.ireturn, 1, 0, 0, 0) from rfl)) (Nat.zero_le _) (Nat.zero_le _) ⟨_, rfl, I, F, (iI s 20), rfl, (rng_to _), trivial⟩
  ·
    rw [gs]
    refine w_tabIn X.1 (dflt := 149) (lo := 0) (hi := 9) (offs := #[55, 63, 71, 79, 87, 95, 103, 111, 133, 141]) (len := 55) (off := 141) (t := 142) (ax_d X (show cdA 178 1 = some (.tableswitch 149 0 9 #[55, 63, 71, 79, 87, 95, 103, 111, 133, 141], 55, 0, 0, 0) from rfl)) (by decide) (by decide) (by decide) (by decide) (z_aload_n X (x := A 0) rfl (List.Mem.head _) (s_getR X 0 rfl (c518_ok rfl) rfl rfl (z_getI X 1 rfl (c518_ok rfl) rfl rfl ?_)))
    have b18 := bi_0 I
    exact w_iret X.1 q hRt rfl (ax_d X (show cdA 178 149 = some (.ireturn, 1, 0, 0, 0) from rfl)) (Nat.zero_le _) (Nat.zero_le _) ⟨_, rfl, I, F, (iI s 0), rfl, (rng_to _), trivial⟩
  ·
    refine w_tabOut X.1 (dflt := 149) (lo := 0) (hi := 9) (offs := #[55, 63, 71, 79, 87, 95, 103, 111, 133, 141]) (len := 55) (t := 150) (ax_d X (show cdA 178 1 = some (.tableswitch 149 0 9 #[55, 63, 71, 79, 87, 95, 103, 111, 133, 141], 55, 0, 0, 0) from rfl)) (by rw [zi ⟨by omega, by omega⟩]; omega) (by decide) (z_const X rfl ?_)
    exact w_iret X.1 q hRt rfl (ax_d X (show cdA 178 151 = some (.ireturn, 1, 0, 0, 0) from rfl)) (Nat.zero_le _) (Nat.zero_le _) ⟨_, rfl, I, F, (-1), rfl, (by decide), trivial⟩
end M82
end
