/-! The class: fits, rota, regions, moves -/
section ZA
variable {k : kx_T} {mn pc : Nat} {dT : Nat → ClassId} {lv : List (Nat × Value)} {st : List Value} {ws : va_W} {ce sl a b : Nat} {z : Int}
theorem and_lel (y : Int32) {q : Int} (h0 : 0 ≤ q) (hq : q ≤ 2147483647) : 0 ≤ (Int32.ofInt q &&& y).toInt ∧ (Int32.ofInt q &&& y).toInt ≤ q := by
  rw [← ofi_to y, ← z_and]
  have e1 : zN q = q.toNat := by unfold zN; omega
  have e2 : Nat.land (zN q) (zN y.toInt) ≤ q.toNat := by rw [e1]; exact Nat.and_le_left
  have e3 : zOf (Nat.land (zN q) (zN y.toInt)) = (Nat.land (zN q) (zN y.toInt) : Int) := by
    unfold zOf
    rw [if_pos (Nat.ble_eq.mpr (by omega))]
  rw [e3, zi ⟨by omega, by omega⟩]
  omega
theorem z_andl (X : AX k mn dT) {y : Int32} {q : Int} (h : cdA mn pc = some (.iand, 1, a, b, z)) (h0 : 0 ≤ q) (hq : q ≤ 2147483647) (g : ∀ e : Int, 0 ≤ e → e ≤ q → WS k (pc + 1) lv (.int (Int32.ofInt e) :: st) ws ce sl) : WS k pc lv (.int y :: .int (Int32.ofInt q) :: st) ws ce sl := by
  refine w_iand X.1 (ax_d X h) ?_
  have := g _ (and_lel y h0 hq).1 (and_lel y h0 hq).2
  rwa [ofi_to] at this
theorem z_bxor (X : AX k mn dT) {x y : Int} (h : cdA mn pc = some (.ixor, 1, a, b, z)) (g : WS k (pc + 1) lv (.int (Int32.ofInt x ^^^ Int32.ofInt y) :: st) ws ce sl) : WS k pc lv (.int (Int32.ofInt y) :: .int (Int32.ofInt x) :: st) ws ce sl := w_ixor X.1 (ax_d X h) g
end ZA
section M75
variable {l : Launch} {s0 : State} {D : va_G} {tys : List (ClassId × FieldType)} {a0 : Array Value} {A : Nat → Nat} {dT : Nat → ClassId} {s : PS}
set_option maxRecDepth 4000 in
theorem c1_add_173 (G : GX l s0 D tys a0 dT) (I : Bd s) {x y : Int} (p0 : rng x) (p1 : y = 0 ∨ y = 1) : CT l s0 D A dT 11 (rmN 11) [.ref (A 173), .ref (A 39), .int (Int32.ofInt x), .int (Int32.ofInt y)] s (fun o t => Bd t ∧ Fm [70] [152, 153, 154] s t ∧ ∃ e, o = .inl (some (.int (Int32.ofInt e))) ∧ rng e ∧ (True)) := by
  refine ct_ofX G (by decide) (Nat.le_of_ble_eq_true rfl) (fun k X E ET hRt hXt q => ?_)
  show WS k 0 [(0, .ref (A 173)), (1, .ref (A 39)), (2, .int (Int32.ofInt x)), (3, .int (Int32.ofInt y))] [] _ 0 0
  have F : Fm [70] [152, 153, 154] s s := fm_rf _ _ s
  have b1 : (0 : Int) ≤ iI s 70 ∧ iI s 70 ≤ 40 := I.1 70
  refine z_aload_n X (x := A 173) (show cdA 11 0 = some (.aload_n 0, 1, 0, 0, 0) from rfl) (List.Mem.head _) ?_
  refine z_getI X 173 (show cdA 11 1 = some (.getfield 28, 3, 1, 3, 0) from rfl) (by decide) rfl rfl ?_
  have b2 : (0 : Int) ≤ iI s 70 ∧ iI s 70 ≤ 40 := I.1 70
  refine z_bipush X (show cdA 11 4 = some (.bipush 40, 2, 0, 0, 40) from rfl) ?_
  refine z_icmp_lt X (t := 11) (show cdA 11 6 = some (.if_icmp .lt 5, 3, 2, 0, 0) from rfl) (by decide) (rng_to _) (by decide) (fun g3 => ?_) (fun g3 => ?_)
  ·
    refine z_aload_n X (x := A 39) (show cdA 11 11 = some (.aload_n 1, 1, 0, 0, 0) from rfl) (List.Mem.tail _ (List.Mem.head _)) ?_
    refine z_const X (show cdA 11 12 = some (.iconst 0, 1, 0, 0, 0) from rfl) ?_
    refine z_aload_n X (x := A 173) (show cdA 11 13 = some (.aload_n 0, 1, 0, 0, 0) from rfl) (List.Mem.head _) ?_
    refine s_getR X 173 (show cdA 11 14 = some (.getfield 11, 3, 1, 0, 0) from rfl) (by decide) rfl rfl ?_
    refine z_aload_n X (x := A 173) (show cdA 11 17 = some (.aload_n 0, 1, 0, 0, 0) from rfl) (List.Mem.head _) ?_
    refine z_getI X 173 (show cdA 11 18 = some (.getfield 28, 3, 1, 3, 0) from rfl) (by decide) rfl rfl ?_
    have b4 : (0 : Int) ≤ iI s 70 ∧ iI s 70 ≤ 40 := I.1 70
    refine z_const X (show cdA 11 21 = some (.iconst 4, 1, 0, 0, 0) from rfl) ?_
    refine z_mul X (show cdA 11 22 = some (.imul, 1, 0, 0, 0) from rfl) ?_
    refine z_const X (show cdA 11 23 = some (.iconst 4, 1, 0, 0, 0) from rfl) ?_
    refine z_copy X I 39 174 (st := []) (show cdA 11 24 = some (.invokestatic 32, 3, 0, 5, 0) from rfl) (by decide) (by decide) rfl rfl (by omega) (by omega) (by omega) (show 0 + 4 ≤ ((7 : Nat) : Int) by omega) (show ((iI s 70) * 4) + 4 ≤ ((160 : Nat) : Int) by omega) (by decide) (by rw [E.2.2.2]; decide) (by rw [E.2.2.2]; exact Nat.le_of_ble_eq_true rfl) (fun s5 Is5 Fs5 => ?_)
    have Gs5 := fm_ts F Fs5 (by decide) (by decide)
    have ws5_70 : iI s5 70 = iI s 70 := fm_i Fs5 (by decide)
    refine z_aload_n X (x := A 173) (show cdA 11 27 = some (.aload_n 0, 1, 0, 0, 0) from rfl) (List.Mem.head _) ?_
    refine s_getR X 173 (show cdA 11 28 = some (.getfield 15, 3, 1, 1, 0) from rfl) (by decide) rfl rfl ?_
    refine z_aload_n X (x := A 173) (show cdA 11 31 = some (.aload_n 0, 1, 0, 0, 0) from rfl) (List.Mem.head _) ?_
    refine z_getI X 173 (show cdA 11 32 = some (.getfield 28, 3, 1, 3, 0) from rfl) (by decide) rfl rfl ?_
    have b6 : (0 : Int) ≤ iI s5 70 ∧ iI s5 70 ≤ 40 := Is5.1 70
    refine z_load_n X (x := x) (show cdA 11 35 = some (.iload_n 2, 1, 0, 0, 0) from rfl) (List.Mem.tail _ (List.Mem.tail _ (List.Mem.head _))) ?_
    refine z_ast X 175 (show cdA 11 36 = some (.iastore, 1, 0, 0, 0) from rfl) (by decide) rfl (by first | exact b6.1 | omega) (show (iI s5 70) < 40 by first | exact oq_acf68b34 ws5_70 g3 | omega) (by decide) ?_
    obtain ⟨s7, hs7⟩ : ∃ x0, x0 = uC s5 153 ((iI s5 70)).toNat (Int32.ofInt x) := ⟨_, rfl⟩
    rw [← hs7]
    have Is7 : Bd s7 := by rw [hs7]; exact bd_C Is5 (show ((-2147483648) : Int) ≤ x ∧ x ≤ 2147483647 by first | exact ⟨p0.1, p0.2⟩ | omega) ⟨by first | exact p0.1 | omega, by first | exact p0.2 | omega⟩
    have Fs7 := fm_C (i := ((iI s5 70)).toNat) (x := Int32.ofInt x) Gs5 (show 153 ∈ _ by decide)
    rw [← hs7] at Fs7
    have ws7_70 : iI s7 70 = iI s5 70 := by rw [hs7]; rfl
    refine z_aload_n X (x := A 173) (show cdA 11 37 = some (.aload_n 0, 1, 0, 0, 0) from rfl) (List.Mem.head _) ?_
    refine s_getR X 173 (show cdA 11 38 = some (.getfield 18, 3, 1, 2, 0) from rfl) (by decide) rfl rfl ?_
    refine z_aload_n X (x := A 173) (show cdA 11 41 = some (.aload_n 0, 1, 0, 0, 0) from rfl) (List.Mem.head _) ?_
    refine z_getI X 173 (show cdA 11 42 = some (.getfield 28, 3, 1, 3, 0) from rfl) (by decide) rfl rfl ?_
    have b8 : (0 : Int) ≤ iI s7 70 ∧ iI s7 70 ≤ 40 := Is7.1 70
    refine z_load_n X (x := y) (show cdA 11 45 = some (.iload_n 3, 1, 0, 0, 0) from rfl) (List.Mem.tail _ (List.Mem.tail _ (List.Mem.tail _ (List.Mem.head _)))) ?_
    refine z_zast X 176 (show cdA 11 46 = some (.bastore, 1, 0, 0, 0) from rfl) (by decide) rfl (by first | exact b8.1 | omega) (show (iI s7 70) < 40 by first | exact oq_c57cae74 ws7_70 ws5_70 g3 | omega) (by decide) (by first | exact p1 | omega) ?_
    obtain ⟨s9, hs9⟩ : ∃ x0, x0 = uC s7 154 ((iI s7 70)).toNat (Int32.ofInt y) := ⟨_, rfl⟩
    rw [← hs9]
    have Is9 : Bd s9 := by rw [hs9]; exact bd_C Is7 (show (0 : Int) ≤ y ∧ y ≤ 1 by first | exact ⟨oq_e4aca38c p1, oq_14617724 p1⟩ | omega) ⟨by first | exact oq_bde653e9 p1 | omega, by first | exact oq_4ad2cb8b p1 | omega⟩
    have Fs9 := fm_C (i := ((iI s7 70)).toNat) (x := Int32.ofInt y) Fs7 (show 154 ∈ _ by decide)
    rw [← hs9] at Fs9
    have ws9_70 : iI s9 70 = iI s7 70 := by rw [hs9]; rfl
    refine z_aload_n X (x := A 173) (show cdA 11 47 = some (.aload_n 0, 1, 0, 0, 0) from rfl) (List.Mem.head _) ?_
    refine w_dup X.1 (ax_d X (show cdA 11 48 = some (.dup, 1, 0, 0, 0) from rfl)) rfl ?_
    refine z_getI X 173 (show cdA 11 49 = some (.getfield 28, 3, 1, 3, 0) from rfl) (by decide) rfl rfl ?_
    have b10 : (0 : Int) ≤ iI s9 70 ∧ iI s9 70 ≤ 40 := Is9.1 70
    refine z_const X (show cdA 11 52 = some (.iconst 1, 1, 0, 0, 0) from rfl) ?_
    refine z_add X (show cdA 11 53 = some (.iadd, 1, 0, 0, 0) from rfl) ?_
    refine s_putI X 173 (show cdA 11 54 = some (.putfield 28, 3, 1, 3, 0) from rfl) (by decide) rfl rfl (by decide) rfl rfl rfl ?_
    obtain ⟨s11, hs11⟩ : ∃ x0, x0 = uI s9 70 (Int32.ofInt ((iI s9 70) + 1)) := ⟨_, rfl⟩
    rw [← hs11]
    have Is11 : Bd s11 := by rw [hs11]; exact bd_I Is9 (show (0 : Int) ≤ ((iI s9 70) + 1) ∧ ((iI s9 70) + 1) ≤ 40 by first | exact ⟨oq_54f49eb5 b10.1, oq_beb58a95 ws9_70 ws7_70 ws5_70 g3⟩ | omega) ⟨by first | exact oq_74de1e16 b10.1 | omega, by first | exact oq_c01d6c28 b10.2 | omega⟩
    have Fs11 := fm_I (x := Int32.ofInt ((iI s9 70) + 1)) Fs9 (show 70 ∈ _ by decide)
    rw [← hs11] at Fs11
    have vs11 : iI s11 70 = ((iI s9 70) + 1) := by rw [hs11]; exact iI_u ⟨by first | exact oq_74de1e16 b10.1 | omega, by first | exact oq_c01d6c28 b10.2 | omega⟩
    refine z_aload_n X (x := A 173) (show cdA 11 57 = some (.aload_n 0, 1, 0, 0, 0) from rfl) (List.Mem.head _) ?_
    refine z_getI X 173 (show cdA 11 58 = some (.getfield 28, 3, 1, 3, 0) from rfl) (by decide) rfl rfl ?_
    have b12 : (0 : Int) ≤ iI s11 70 ∧ iI s11 70 ≤ 40 := Is11.1 70
    refine z_const X (show cdA 11 61 = some (.iconst 1, 1, 0, 0, 0) from rfl) ?_
    refine z_sub X (show cdA 11 62 = some (.isub, 1, 0, 0, 0) from rfl) ?_
    exact w_iret X.1 q hRt rfl (ax_d X (show cdA 11 63 = some (.ireturn, 1, 0, 0, 0) from rfl)) (Nat.zero_le _) (Nat.zero_le _) ⟨_, rfl, Is11, Fs11, ((iI s11 70) - 1), rfl, ⟨by first | exact oq_c1e961c7 b12.1 | omega, by first | exact oq_86f8893e b12.2 | omega⟩, trivial⟩
  ·
    refine z_const X (show cdA 11 9 = some (.iconst (-1), 1, 0, 0, 0) from rfl) ?_
    exact w_iret X.1 q hRt rfl (ax_d X (show cdA 11 10 = some (.ireturn, 1, 0, 0, 0) from rfl)) (Nat.zero_le _) (Nat.zero_le _) ⟨_, rfl, I, F, (-1), rfl, (by decide), trivial⟩
set_option maxRecDepth 4000 in
theorem c1_anyRow_173 (G : GX l s0 D tys a0 dT) (I : Bd s)  : CT l s0 D A dT 14 (rmN 14) [.ref (A 173)] s (fun o t => Bd t ∧ Fm [] [] s t ∧ ∃ e, o = .inl (some (.int (Int32.ofInt e))) ∧ rng e ∧ (e = 0 ∨ e = 1)) := by
  refine ct_ofX G (by decide) (Nat.le_of_ble_eq_true rfl) (fun k X E ET hRt hXt q => ?_)
  show WS k 0 [(0, .ref (A 173))] [] _ 0 0
  have F : Fm [] [] s s := fm_rf _ _ s
  have b1 : (0 : Int) ≤ iI s 70 ∧ iI s 70 ≤ 40 := I.1 70
  have L2 : ∀ (n : Nat) (t : PS) (c : Int), Bd t → Fm [] [] s t → (0 ≤ c ∧ c ≤ 40) → (40 - c : Int).toNat < n → (∀ (t' : PS) (c' : Int), Bd t' → Fm [] [] s t' → (0 ≤ c' ∧ c' ≤ 40) → WS k 27 [(0, .ref (A 173)), (1, .int (Int32.ofInt c'))] [] (Wd A dT t') 0 0) → WS k 2 [(0, .ref (A 173)), (1, .int (Int32.ofInt c))] [] (Wd A dT t) 0 0 := by
    intro n
    induction n with
    | zero =>
      intro t c I F hi hm kx
      exact absurd hm (Nat.not_lt_zero _)
    | succ n ih =>
      intro t c I F hi hm kx
      have b1001 : (0 : Int) ≤ iI t 70 ∧ iI t 70 ≤ 40 := I.1 70
      refine z_load_n X (x := c) (show cdA 14 2 = some (.iload_n 1, 1, 0, 0, 0) from rfl) (List.Mem.tail _ (List.Mem.head _)) ?_
      refine z_aload_n X (x := A 173) (show cdA 14 3 = some (.aload_n 0, 1, 0, 0, 0) from rfl) (List.Mem.head _) ?_
      refine z_getI X 173 (show cdA 14 4 = some (.getfield 28, 3, 1, 3, 0) from rfl) (by decide) rfl rfl ?_
      have b1002 : (0 : Int) ≤ iI t 70 ∧ iI t 70 ≤ 40 := I.1 70
      refine z_icmp_ge X (t := 27) (show cdA 14 7 = some (.if_icmp .ge 20, 3, 3, 0, 0) from rfl) (by decide) ⟨by first | exact oq_fa4e5087 hi.1 | omega, by first | exact oq_227d2cd7 hi.2 | omega⟩ (rng_to _) (fun g1003 => ?_) (fun g1003 => ?_)
      ·
        refine WS_lv (lv := [(0, .ref (A 173)), (1, .int (Int32.ofInt c))]) (List.forall_mem_cons.mpr ⟨(List.Mem.head _), (List.forall_mem_cons.mpr ⟨(List.Mem.tail _ (List.Mem.head _)), (fun q h => absurd h List.not_mem_nil)⟩)⟩) ?_
        exact kx _ c I F (by first | exact ⟨hi.1, hi.2⟩ | omega)
      ·
        refine z_aload_n X (x := A 173) (show cdA 14 10 = some (.aload_n 0, 1, 0, 0, 0) from rfl) (List.Mem.head _) ?_
        refine s_getR X 173 (show cdA 14 11 = some (.getfield 18, 3, 1, 2, 0) from rfl) (by decide) rfl rfl ?_
        refine z_load_n X (x := c) (show cdA 14 14 = some (.iload_n 1, 1, 0, 0, 0) from rfl) (List.Mem.tail _ (List.Mem.head _)) ?_
        refine z_zald X 176 (show cdA 14 15 = some (.baload, 1, 0, 0, 0) from rfl) (by decide) rfl (by first | exact hi.1 | omega) (show c < 40 by first | exact oq_497ff6eb g1003 b1002.2 | omega) (by decide) ?_
        have b1004 : (0 : Int) ≤ iC t 154 (c).toNat ∧ iC t 154 (c).toNat ≤ 1 := I.2 154 _ (show (c).toNat < 40 by first | exact oq_23813e7c g1003 b1002.2 | omega)
        refine z_if_ne X (t := 21) (show cdA 14 16 = some (.ifCond .ne 5, 3, 1, 0, 0) from rfl) (by decide) (rng_to _) (fun g1005 => ?_) (fun g1005 => ?_)
        ·
          refine z_inc X (x := c) (lv' := [(1, .int (Int32.ofInt (c + 1))), (0, .ref (A 173))]) (show cdA 14 21 = some (.iinc 1 1, 3, 0, 0, 0) from rfl) (by decide) (List.Mem.tail _ (List.Mem.head _)) (fun _ h => h) ?_
          refine z_goto X (t := 2) (show cdA 14 24 = some (.goto (-22), 3, 0, 0, 0) from rfl) (by decide) ?_
          refine WS_lv (lv := [(0, .ref (A 173)), (1, .int (Int32.ofInt (c + 1)))]) (List.forall_mem_cons.mpr ⟨(List.Mem.tail _ (List.Mem.head _)), (List.forall_mem_cons.mpr ⟨(List.Mem.head _), (fun q h => absurd h List.not_mem_nil)⟩)⟩) ?_
          exact ih _ (c + 1) I F (by first | exact ⟨oq_54f49eb5 hi.1, oq_aa91b9d2 g1003 b1002.2⟩ | omega) (by first | exact qk_me hm (by decide) (oq_e7680c39 g1003 b1002.2) | omega) kx
        ·
          refine z_const X (show cdA 14 19 = some (.iconst 1, 1, 0, 0, 0) from rfl) ?_
          exact w_iret X.1 q hRt (nar_ret (by first | exact Or.inr (by decide) | omega)) (ax_d X (show cdA 14 20 = some (.ireturn, 1, 0, 0, 0) from rfl)) (Nat.zero_le _) (Nat.zero_le _) ⟨_, rfl, I, F, 1, rfl, (by decide), by first | exact Or.inr (by decide) | omega⟩
  refine z_const X (show cdA 14 0 = some (.iconst 0, 1, 0, 0, 0) from rfl) ?_
  refine z_store_n X (lv' := [(1, .int (Int32.ofInt 0)), (0, .ref (A 173))]) (show cdA 14 1 = some (.istore_n 1, 1, 0, 0, 0) from rfl) (by decide) (fun _ h => h) ?_
  refine WS_lv (lv := [(0, .ref (A 173)), (1, .int (Int32.ofInt 0))]) (List.forall_mem_cons.mpr ⟨(List.Mem.tail _ (List.Mem.head _)), (List.forall_mem_cons.mpr ⟨(List.Mem.head _), (fun q h => absurd h List.not_mem_nil)⟩)⟩) ?_
  refine L2 ((40 - 0 : Int).toNat + 1) s 0 I F (by first | exact ⟨by decide, by decide⟩ | omega) (Nat.lt_succ_self _) ?_
  intro s2 x3 Is2 Fs2 hs2
  have b4 : (0 : Int) ≤ iI s2 70 ∧ iI s2 70 ≤ 40 := Is2.1 70
  refine z_const X (show cdA 14 27 = some (.iconst 0, 1, 0, 0, 0) from rfl) ?_
  exact w_iret X.1 q hRt (nar_ret (by first | exact Or.inl (by decide) | omega)) (ax_d X (show cdA 14 28 = some (.ireturn, 1, 0, 0, 0) from rfl)) (Nat.zero_le _) (Nat.zero_le _) ⟨_, rfl, Is2, Fs2, 0, rfl, (by decide), by first | exact Or.inl (by decide) | omega⟩
set_option maxRecDepth 4000 in
theorem c1_nextTrial_173 (G : GX l s0 D tys a0 dT) (I : Bd s)  : CT l s0 D A dT 15 (rmN 15) [.ref (A 173)] s (fun o t => Bd t ∧ Fm [] [156] s t ∧ ∃ e, o = .inl (some (.int (Int32.ofInt e))) ∧ rng e ∧ (e = 0 ∨ e = 1)) := by
  refine ct_ofX G (by decide) (Nat.le_of_ble_eq_true rfl) (fun k X E ET hRt hXt q => ?_)
  show WS k 0 [(0, .ref (A 173))] [] _ 0 0
  have F : Fm [] [156] s s := fm_rf _ _ s
  have L2 : ∀ (n : Nat) (t : PS) (c : Int), Bd t → Fm [] [156] s t → (-1 ≤ c ∧ c ≤ 3) → (c + 1 : Int).toNat < n → (∀ (t' : PS) (c' : Int), Bd t' → Fm [] [156] s t' → (-1 ≤ c' ∧ c' ≤ 3) → WS k 41 [(0, .ref (A 173)), (1, .int (Int32.ofInt c'))] [] (Wd A dT t') 0 0) → WS k 2 [(0, .ref (A 173)), (1, .int (Int32.ofInt c))] [] (Wd A dT t) 0 0 := by
    intro n
    induction n with
    | zero =>
      intro t c I F hi hm kx
      exact absurd hm (Nat.not_lt_zero _)
    | succ n ih =>
      intro t c I F hi hm kx
      refine z_load_n X (x := c) (show cdA 15 2 = some (.iload_n 1, 1, 0, 0, 0) from rfl) (List.Mem.tail _ (List.Mem.head _)) ?_
      refine z_if_lt X (t := 41) (show cdA 15 3 = some (.ifCond .lt 38, 3, 2, 0, 0) from rfl) (by decide) ⟨by first | exact oq_97ee2c2a hi.1 | omega, by first | exact oq_c5520c83 hi.2 | omega⟩ (fun g1001 => ?_) (fun g1001 => ?_)
      ·
        refine WS_lv (lv := [(0, .ref (A 173)), (1, .int (Int32.ofInt c))]) (List.forall_mem_cons.mpr ⟨(List.Mem.head _), (List.forall_mem_cons.mpr ⟨(List.Mem.tail _ (List.Mem.head _)), (fun q h => absurd h List.not_mem_nil)⟩)⟩) ?_
        exact kx _ c I F (by first | exact ⟨hi.1, hi.2⟩ | omega)
      ·
        refine z_aload_n X (x := A 173) (show cdA 15 6 = some (.aload_n 0, 1, 0, 0, 0) from rfl) (List.Mem.head _) ?_
        refine s_getR X 173 (show cdA 15 7 = some (.getfield 25, 3, 1, 6, 0) from rfl) (by decide) rfl rfl ?_
        refine z_load_n X (x := c) (show cdA 15 10 = some (.iload_n 1, 1, 0, 0, 0) from rfl) (List.Mem.tail _ (List.Mem.head _)) ?_
        refine z_ald X 178 (show cdA 15 11 = some (.iaload, 1, 0, 0, 0) from rfl) (by decide) rfl (by first | exact g1001 | omega) (show c < 4 by first | exact oq_907d7be5 hi.2 | omega) (by decide) ?_
        have b1002 : ((-2147483648) : Int) ≤ iC t 156 (c).toNat ∧ iC t 156 (c).toNat ≤ 2147483647 := I.2 156 _ (show (c).toNat < 4 by first | exact oq_b6a8a4cc hi.2 | omega)
        refine z_const X (show cdA 15 12 = some (.iconst 4, 1, 0, 0, 0) from rfl) ?_
        refine z_icmp_ge X (t := 28) (show cdA 15 13 = some (.if_icmp .ge 15, 3, 3, 0, 0) from rfl) (by decide) (rng_to _) (by decide) (fun g1003 => ?_) (fun g1003 => ?_)
        ·
          refine z_aload_n X (x := A 173) (show cdA 15 28 = some (.aload_n 0, 1, 0, 0, 0) from rfl) (List.Mem.head _) ?_
          refine s_getR X 173 (show cdA 15 29 = some (.getfield 25, 3, 1, 6, 0) from rfl) (by decide) rfl rfl ?_
          refine z_load_n X (x := c) (show cdA 15 32 = some (.iload_n 1, 1, 0, 0, 0) from rfl) (List.Mem.tail _ (List.Mem.head _)) ?_
          refine z_const X (show cdA 15 33 = some (.iconst 0, 1, 0, 0, 0) from rfl) ?_
          refine z_ast X 178 (show cdA 15 34 = some (.iastore, 1, 0, 0, 0) from rfl) (by decide) rfl (by first | exact g1001 | omega) (show c < 4 by first | exact oq_907d7be5 hi.2 | omega) (by decide) ?_
          obtain ⟨s1004, hs1004⟩ : ∃ x0, x0 = uC t 156 (c).toNat (Int32.ofInt 0) := ⟨_, rfl⟩
          rw [← hs1004]
          have Is1004 : Bd s1004 := by rw [hs1004]; exact bd_C I (show ((-2147483648) : Int) ≤ 0 ∧ 0 ≤ 2147483647 by first | exact ⟨by decide, by decide⟩ | omega) (by decide)
          have Fs1004 := fm_C (i := (c).toNat) (x := Int32.ofInt 0) F (show 156 ∈ _ by decide)
          rw [← hs1004] at Fs1004
          refine z_inc X (x := c) (lv' := [(1, .int (Int32.ofInt (c + (-1)))), (0, .ref (A 173))]) (show cdA 15 35 = some (.iinc 1 (-1), 3, 0, 0, 0) from rfl) (by decide) (List.Mem.tail _ (List.Mem.head _)) (fun _ h => h) ?_
          refine z_goto X (t := 2) (show cdA 15 38 = some (.goto (-36), 3, 0, 0, 0) from rfl) (by decide) ?_
          refine WS_lv (lv := [(0, .ref (A 173)), (1, .int (Int32.ofInt (c + (-1))))]) (List.forall_mem_cons.mpr ⟨(List.Mem.tail _ (List.Mem.head _)), (List.forall_mem_cons.mpr ⟨(List.Mem.head _), (fun q h => absurd h List.not_mem_nil)⟩)⟩) ?_
          exact ih _ (c + (-1)) Is1004 Fs1004 (by first | exact ⟨oq_285ed02d g1001, oq_83f8f735 hi.2⟩ | omega) (by first | exact qk_me hm (by decide) (oq_7a276f11 g1001) | omega) kx
        ·
          refine z_aload_n X (x := A 173) (show cdA 15 16 = some (.aload_n 0, 1, 0, 0, 0) from rfl) (List.Mem.head _) ?_
          refine s_getR X 173 (show cdA 15 17 = some (.getfield 25, 3, 1, 6, 0) from rfl) (by decide) rfl rfl ?_
          refine z_load_n X (x := c) (show cdA 15 20 = some (.iload_n 1, 1, 0, 0, 0) from rfl) (List.Mem.tail _ (List.Mem.head _)) ?_
          refine w_dup2_11 X.1 (ax_d X (show cdA 15 21 = some (.dup2, 1, 0, 0, 0) from rfl)) rfl rfl ?_
          refine z_ald X 178 (show cdA 15 22 = some (.iaload, 1, 0, 0, 0) from rfl) (by decide) rfl (by first | exact g1001 | omega) (show c < 4 by first | exact oq_907d7be5 hi.2 | omega) (by decide) ?_
          have b1005 : ((-2147483648) : Int) ≤ iC t 156 (c).toNat ∧ iC t 156 (c).toNat ≤ 2147483647 := I.2 156 _ (show (c).toNat < 4 by first | exact oq_b6a8a4cc hi.2 | omega)
          refine z_const X (show cdA 15 23 = some (.iconst 1, 1, 0, 0, 0) from rfl) ?_
          refine z_add X (show cdA 15 24 = some (.iadd, 1, 0, 0, 0) from rfl) ?_
          refine z_ast X 178 (show cdA 15 25 = some (.iastore, 1, 0, 0, 0) from rfl) (by decide) rfl (by first | exact g1001 | omega) (show c < 4 by first | exact oq_907d7be5 hi.2 | omega) (by decide) ?_
          obtain ⟨s1006, hs1006⟩ : ∃ x0, x0 = uC t 156 (c).toNat (Int32.ofInt ((iC t 156 (c).toNat) + 1)) := ⟨_, rfl⟩
          rw [← hs1006]
          have Is1006 : Bd s1006 := by rw [hs1006]; exact bd_C I (show ((-2147483648) : Int) ≤ ((iC t 156 (c).toNat) + 1) ∧ ((iC t 156 (c).toNat) + 1) ≤ 2147483647 by first | exact ⟨oq_14afcb3e b1005.1, oq_176f24f4 g1003⟩ | omega) ⟨by first | exact oq_14afcb3e b1005.1 | omega, by first | exact oq_176f24f4 g1003 | omega⟩
          have Fs1006 := fm_C (i := (c).toNat) (x := Int32.ofInt ((iC t 156 (c).toNat) + 1)) F (show 156 ∈ _ by decide)
          rw [← hs1006] at Fs1006
          refine z_const X (show cdA 15 26 = some (.iconst 1, 1, 0, 0, 0) from rfl) ?_
          exact w_iret X.1 q hRt (nar_ret (by first | exact Or.inr (by decide) | omega)) (ax_d X (show cdA 15 27 = some (.ireturn, 1, 0, 0, 0) from rfl)) (Nat.zero_le _) (Nat.zero_le _) ⟨_, rfl, Is1006, Fs1006, 1, rfl, (by decide), by first | exact Or.inr (by decide) | omega⟩
  refine z_const X (show cdA 15 0 = some (.iconst 3, 1, 0, 0, 0) from rfl) ?_
  refine z_store_n X (lv' := [(1, .int (Int32.ofInt 3)), (0, .ref (A 173))]) (show cdA 15 1 = some (.istore_n 1, 1, 0, 0, 0) from rfl) (by decide) (fun _ h => h) ?_
  refine WS_lv (lv := [(0, .ref (A 173)), (1, .int (Int32.ofInt 3))]) (List.forall_mem_cons.mpr ⟨(List.Mem.tail _ (List.Mem.head _)), (List.forall_mem_cons.mpr ⟨(List.Mem.head _), (fun q h => absurd h List.not_mem_nil)⟩)⟩) ?_
  refine L2 ((3 + 1 : Int).toNat + 1) s 3 I F (by first | exact ⟨by decide, by decide⟩ | omega) (Nat.lt_succ_self _) ?_
  intro s1 x2 Is1 Fs1 hs1
  refine z_const X (show cdA 15 41 = some (.iconst 0, 1, 0, 0, 0) from rfl) ?_
  exact w_iret X.1 q hRt (nar_ret (by first | exact Or.inl (by decide) | omega)) (ax_d X (show cdA 15 42 = some (.ireturn, 1, 0, 0, 0) from rfl)) (Nat.zero_le _) (Nat.zero_le _) ⟨_, rfl, Is1, Fs1, 0, rfl, (by decide), by first | exact Or.inl (by decide) | omega⟩
set_option maxRecDepth 4000 in
theorem c1_offOf_178 (G : GX l s0 D tys a0 dT) (I : Bd s) {y : Int} (p0 : y = 0 ∨ y = 1) : CT l s0 D A dT 16 (rmN 16) [.ref (A 173), .ref (A 178), .int (Int32.ofInt y)] s (fun o t => Bd t ∧ Fm [] [] s t ∧ ∃ e, o = .inl (some (.int (Int32.ofInt e))) ∧ rng e ∧ (True)) := by
  refine ct_ofX G (by decide) (Nat.le_of_ble_eq_true rfl) (fun k X E ET hRt hXt q => ?_)
  show WS k 0 [(0, .ref (A 173)), (1, .ref (A 178)), (2, .int (Int32.ofInt y))] [] _ 0 0
  have F : Fm [] [] s s := fm_rf _ _ s
  have b1 : (0 : Int) ≤ iI s 70 ∧ iI s 70 ≤ 40 := I.1 70
  have L37 : ∀ (n : Nat) (t : PS) (yv sm0 rw fr c : Int), Bd t → Fm [] [] s t → ((yv = 0 ∨ yv = 1) ∧ rng sm0 ∧ (0 ≤ rw ∧ rw ≤ 39) ∧ rng fr ∧ 0 ≤ c ∧ c ≤ 4) → (4 - c : Int).toNat < n → (∀ (t' : PS) (fr' c' : Int), Bd t' → Fm [] [] s t' → ((yv = 0 ∨ yv = 1) ∧ rng sm0 ∧ (0 ≤ rw ∧ rw ≤ 39) ∧ rng fr' ∧ 0 ≤ c' ∧ c' ≤ 4) → WS k 71 [(0, .ref (A 173)), (1, .ref (A 178)), (2, .int (Int32.ofInt yv)), (3, .int (Int32.ofInt sm0)), (4, .int (Int32.ofInt rw)), (5, .int (Int32.ofInt fr')), (6, .int (Int32.ofInt c'))] [] (Wd A dT t') 0 0) → WS k 37 [(0, .ref (A 173)), (1, .ref (A 178)), (2, .int (Int32.ofInt yv)), (3, .int (Int32.ofInt sm0)), (4, .int (Int32.ofInt rw)), (5, .int (Int32.ofInt fr)), (6, .int (Int32.ofInt c))] [] (Wd A dT t) 0 0 := by
    intro n
    induction n with
    | zero =>
      intro t yv sm0 rw fr c I F hi hm kx
      exact absurd hm (Nat.not_lt_zero _)
    | succ n ih =>
      intro t yv sm0 rw fr c I F hi hm kx
      have b1001 : (0 : Int) ≤ iI t 70 ∧ iI t 70 ≤ 40 := I.1 70
      refine z_load X (x := c) (show cdA 16 37 = some (.iload 6, 2, 0, 0, 0) from rfl) (List.Mem.tail _ (List.Mem.tail _ (List.Mem.tail _ (List.Mem.tail _ (List.Mem.tail _ (List.Mem.tail _ (List.Mem.head _))))))) ?_
      refine z_const X (show cdA 16 39 = some (.iconst 4, 1, 0, 0, 0) from rfl) ?_
      refine z_icmp_ge X (t := 71) (show cdA 16 40 = some (.if_icmp .ge 31, 3, 3, 0, 0) from rfl) (by decide) ⟨by first | exact oq_fa4e5087 hi.2.2.2.2.1 | omega, by first | exact oq_4a4414da hi.2.2.2.2.2 | omega⟩ (by decide) (fun g1002 => ?_) (fun g1002 => ?_)
      ·
        refine WS_lv (lv := [(0, .ref (A 173)), (1, .ref (A 178)), (2, .int (Int32.ofInt yv)), (3, .int (Int32.ofInt sm0)), (4, .int (Int32.ofInt rw)), (5, .int (Int32.ofInt fr)), (6, .int (Int32.ofInt c))]) (List.forall_mem_cons.mpr ⟨(List.Mem.head _), (List.forall_mem_cons.mpr ⟨(List.Mem.tail _ (List.Mem.head _)), (List.forall_mem_cons.mpr ⟨(List.Mem.tail _ (List.Mem.tail _ (List.Mem.head _))), (List.forall_mem_cons.mpr ⟨(List.Mem.tail _ (List.Mem.tail _ (List.Mem.tail _ (List.Mem.head _)))), (List.forall_mem_cons.mpr ⟨(List.Mem.tail _ (List.Mem.tail _ (List.Mem.tail _ (List.Mem.tail _ (List.Mem.head _))))), (List.forall_mem_cons.mpr ⟨(List.Mem.tail _ (List.Mem.tail _ (List.Mem.tail _ (List.Mem.tail _ (List.Mem.tail _ (List.Mem.head _)))))), (List.forall_mem_cons.mpr ⟨(List.Mem.tail _ (List.Mem.tail _ (List.Mem.tail _ (List.Mem.tail _ (List.Mem.tail _ (List.Mem.tail _ (List.Mem.head _))))))), (fun q h => absurd h List.not_mem_nil)⟩)⟩)⟩)⟩)⟩)⟩)⟩) ?_
        exact kx _ fr c I F (by first | exact ⟨hi.1, And.intro (hi.2.1.1) (hi.2.1.2), And.intro (hi.2.2.1.1) (hi.2.2.1.2), And.intro (hi.2.2.2.1.1) (hi.2.2.2.1.2), hi.2.2.2.2.1, hi.2.2.2.2.2⟩ | omega)
      ·
        refine z_load X (x := fr) (show cdA 16 43 = some (.iload 5, 2, 0, 0, 0) from rfl) (List.Mem.tail _ (List.Mem.tail _ (List.Mem.tail _ (List.Mem.tail _ (List.Mem.tail _ (List.Mem.head _)))))) ?_
        refine z_aload_n X (x := A 178) (show cdA 16 45 = some (.aload_n 1, 1, 0, 0, 0) from rfl) (List.Mem.tail _ (List.Mem.head _)) ?_
        refine z_load X (x := c) (show cdA 16 46 = some (.iload 6, 2, 0, 0, 0) from rfl) (List.Mem.tail _ (List.Mem.tail _ (List.Mem.tail _ (List.Mem.tail _ (List.Mem.tail _ (List.Mem.tail _ (List.Mem.head _))))))) ?_
        refine z_ald X 178 (show cdA 16 48 = some (.iaload, 1, 0, 0, 0) from rfl) (by decide) rfl (by first | exact hi.2.2.2.2.1 | omega) (show c < 4 by first | exact g1002 | omega) (by decide) ?_
        have b1003 : ((-2147483648) : Int) ≤ iC t 156 (c).toNat ∧ iC t 156 (c).toNat ≤ 2147483647 := I.2 156 _ (show (c).toNat < 4 by first | exact oq_a274733e g1002 | omega)
        refine z_aload_n X (x := A 173) (show cdA 16 49 = some (.aload_n 0, 1, 0, 0, 0) from rfl) (List.Mem.head _) ?_
        refine s_getR X 173 (show cdA 16 50 = some (.getfield 11, 3, 1, 0, 0) from rfl) (by decide) rfl rfl ?_
        refine z_load X (x := rw) (show cdA 16 53 = some (.iload 4, 2, 0, 0, 0) from rfl) (List.Mem.tail _ (List.Mem.tail _ (List.Mem.tail _ (List.Mem.tail _ (List.Mem.head _))))) ?_
        refine z_const X (show cdA 16 55 = some (.iconst 4, 1, 0, 0, 0) from rfl) ?_
        refine z_mul X (show cdA 16 56 = some (.imul, 1, 0, 0, 0) from rfl) ?_
        refine z_load X (x := c) (show cdA 16 57 = some (.iload 6, 2, 0, 0, 0) from rfl) (List.Mem.tail _ (List.Mem.tail _ (List.Mem.tail _ (List.Mem.tail _ (List.Mem.tail _ (List.Mem.tail _ (List.Mem.head _))))))) ?_
        refine z_add X (show cdA 16 59 = some (.iadd, 1, 0, 0, 0) from rfl) ?_
        refine z_ald X 174 (show cdA 16 60 = some (.iaload, 1, 0, 0, 0) from rfl) (by decide) rfl (by first | exact oq_6af04329 hi.2.2.1.1 hi.2.2.2.2.1 | omega) (show ((rw * 4) + c) < 160 by first | exact oq_7259ae6f hi.2.2.1.2 g1002 | omega) (by decide) ?_
        have b1004 : ((-2147483648) : Int) ≤ iC t 152 (((rw * 4) + c)).toNat ∧ iC t 152 (((rw * 4) + c)).toNat ≤ 2147483647 := I.2 152 _ (show (((rw * 4) + c)).toNat < 160 by first | exact oq_04b9c373 hi.2.2.1.2 g1002 | omega)
        refine z_mul X (show cdA 16 61 = some (.imul, 1, 0, 0, 0) from rfl) ?_
        refine z_any (fun y1005 hy1005 => ?_)
        refine z_sub X (show cdA 16 62 = some (.isub, 1, 0, 0, 0) from rfl) ?_
        refine z_any (fun y1006 hy1006 => ?_)
        refine z_store X (lv' := [(5, .int (Int32.ofInt y1006)), (0, .ref (A 173)), (1, .ref (A 178)), (2, .int (Int32.ofInt yv)), (3, .int (Int32.ofInt sm0)), (4, .int (Int32.ofInt rw)), (6, .int (Int32.ofInt c))]) (show cdA 16 63 = some (.istore 5, 2, 0, 0, 0) from rfl) (by decide) (fun _ h => h) ?_
        refine z_inc X (x := c) (lv' := [(6, .int (Int32.ofInt (c + 1))), (5, .int (Int32.ofInt y1006)), (0, .ref (A 173)), (1, .ref (A 178)), (2, .int (Int32.ofInt yv)), (3, .int (Int32.ofInt sm0)), (4, .int (Int32.ofInt rw))]) (show cdA 16 65 = some (.iinc 6 1, 3, 0, 0, 0) from rfl) (by decide) (List.Mem.tail _ (List.Mem.tail _ (List.Mem.tail _ (List.Mem.tail _ (List.Mem.tail _ (List.Mem.tail _ (List.Mem.head _))))))) (fun _ h => h) ?_
        refine z_goto X (t := 37) (show cdA 16 68 = some (.goto (-31), 3, 0, 0, 0) from rfl) (by decide) ?_
        refine WS_lv (lv := [(0, .ref (A 173)), (1, .ref (A 178)), (2, .int (Int32.ofInt yv)), (3, .int (Int32.ofInt sm0)), (4, .int (Int32.ofInt rw)), (5, .int (Int32.ofInt y1006)), (6, .int (Int32.ofInt (c + 1)))]) (List.forall_mem_cons.mpr ⟨(List.Mem.tail _ (List.Mem.tail _ (List.Mem.head _))), (List.forall_mem_cons.mpr ⟨(List.Mem.tail _ (List.Mem.tail _ (List.Mem.tail _ (List.Mem.head _)))), (List.forall_mem_cons.mpr ⟨(List.Mem.tail _ (List.Mem.tail _ (List.Mem.tail _ (List.Mem.tail _ (List.Mem.head _))))), (List.forall_mem_cons.mpr ⟨(List.Mem.tail _ (List.Mem.tail _ (List.Mem.tail _ (List.Mem.tail _ (List.Mem.tail _ (List.Mem.head _)))))), (List.forall_mem_cons.mpr ⟨(List.Mem.tail _ (List.Mem.tail _ (List.Mem.tail _ (List.Mem.tail _ (List.Mem.tail _ (List.Mem.tail _ (List.Mem.head _))))))), (List.forall_mem_cons.mpr ⟨(List.Mem.tail _ (List.Mem.head _)), (List.forall_mem_cons.mpr ⟨(List.Mem.head _), (fun q h => absurd h List.not_mem_nil)⟩)⟩)⟩)⟩)⟩)⟩)⟩) ?_
        exact ih _ yv sm0 rw y1006 (c + 1) I F (by first | exact ⟨hi.1, And.intro (hi.2.1.1) (hi.2.1.2), And.intro (hi.2.2.1.1) (hi.2.2.1.2), And.intro (hy1006.1) (hy1006.2), oq_54f49eb5 hi.2.2.2.2.1, oq_5b7aaf9e g1002⟩ | omega) (by first | exact qk_me hm (by decide) (oq_de1b25d0 g1002) | omega) kx
  have L5 : ∀ (n : Nat) (t : PS) (yv sm0 rw : Int), Bd t → Fm [] [] s t → ((yv = 0 ∨ yv = 1) ∧ rng sm0 ∧ 0 ≤ rw ∧ rw ≤ 40) → (40 - rw : Int).toNat < n → (∀ (t' : PS) (sm0' rw' : Int), Bd t' → Fm [] [] s t' → ((yv = 0 ∨ yv = 1) ∧ rng sm0' ∧ 0 ≤ rw' ∧ rw' ≤ 40) → WS k 85 [(0, .ref (A 173)), (1, .ref (A 178)), (2, .int (Int32.ofInt yv)), (3, .int (Int32.ofInt sm0')), (4, .int (Int32.ofInt rw'))] [] (Wd A dT t') 0 0) → WS k 5 [(0, .ref (A 173)), (1, .ref (A 178)), (2, .int (Int32.ofInt yv)), (3, .int (Int32.ofInt sm0)), (4, .int (Int32.ofInt rw))] [] (Wd A dT t) 0 0 := by
    intro n
    induction n with
    | zero =>
      intro t yv sm0 rw I F hi hm kx
      exact absurd hm (Nat.not_lt_zero _)
    | succ n ih =>
      intro t yv sm0 rw I F hi hm kx
      have b2001 : (0 : Int) ≤ iI t 70 ∧ iI t 70 ≤ 40 := I.1 70
      refine z_load X (x := rw) (show cdA 16 5 = some (.iload 4, 2, 0, 0, 0) from rfl) (List.Mem.tail _ (List.Mem.tail _ (List.Mem.tail _ (List.Mem.tail _ (List.Mem.head _))))) ?_
      refine z_aload_n X (x := A 173) (show cdA 16 7 = some (.aload_n 0, 1, 0, 0, 0) from rfl) (List.Mem.head _) ?_
      refine z_getI X 173 (show cdA 16 8 = some (.getfield 28, 3, 1, 3, 0) from rfl) (by decide) rfl rfl ?_
      have b2002 : (0 : Int) ≤ iI t 70 ∧ iI t 70 ≤ 40 := I.1 70
      refine z_icmp_ge X (t := 85) (show cdA 16 11 = some (.if_icmp .ge 74, 3, 3, 0, 0) from rfl) (by decide) ⟨by first | exact oq_fa4e5087 hi.2.2.1 | omega, by first | exact oq_227d2cd7 hi.2.2.2 | omega⟩ (rng_to _) (fun g2003 => ?_) (fun g2003 => ?_)
      ·
        refine WS_lv (lv := [(0, .ref (A 173)), (1, .ref (A 178)), (2, .int (Int32.ofInt yv)), (3, .int (Int32.ofInt sm0)), (4, .int (Int32.ofInt rw))]) (List.forall_mem_cons.mpr ⟨(List.Mem.head _), (List.forall_mem_cons.mpr ⟨(List.Mem.tail _ (List.Mem.head _)), (List.forall_mem_cons.mpr ⟨(List.Mem.tail _ (List.Mem.tail _ (List.Mem.head _))), (List.forall_mem_cons.mpr ⟨(List.Mem.tail _ (List.Mem.tail _ (List.Mem.tail _ (List.Mem.head _)))), (List.forall_mem_cons.mpr ⟨(List.Mem.tail _ (List.Mem.tail _ (List.Mem.tail _ (List.Mem.tail _ (List.Mem.head _))))), (fun q h => absurd h List.not_mem_nil)⟩)⟩)⟩)⟩)⟩) ?_
        exact kx _ sm0 rw I F (by first | exact ⟨hi.1, And.intro (hi.2.1.1) (hi.2.1.2), hi.2.2.1, hi.2.2.2⟩ | omega)
      ·
        refine z_aload_n X (x := A 173) (show cdA 16 14 = some (.aload_n 0, 1, 0, 0, 0) from rfl) (List.Mem.head _) ?_
        refine s_getR X 173 (show cdA 16 15 = some (.getfield 18, 3, 1, 2, 0) from rfl) (by decide) rfl rfl ?_
        refine z_load X (x := rw) (show cdA 16 18 = some (.iload 4, 2, 0, 0, 0) from rfl) (List.Mem.tail _ (List.Mem.tail _ (List.Mem.tail _ (List.Mem.tail _ (List.Mem.head _))))) ?_
        refine z_zald X 176 (show cdA 16 20 = some (.baload, 1, 0, 0, 0) from rfl) (by decide) rfl (by first | exact hi.2.2.1 | omega) (show rw < 40 by first | exact oq_497ff6eb g2003 b2002.2 | omega) (by decide) ?_
        have b2004 : (0 : Int) ≤ iC t 154 (rw).toNat ∧ iC t 154 (rw).toNat ≤ 1 := I.2 154 _ (show (rw).toNat < 40 by first | exact oq_23813e7c g2003 b2002.2 | omega)
        refine z_load_n X (x := yv) (show cdA 16 21 = some (.iload_n 2, 1, 0, 0, 0) from rfl) (List.Mem.tail _ (List.Mem.tail _ (List.Mem.head _))) ?_
        refine z_icmp_ne X (t := 79) (show cdA 16 22 = some (.if_icmp .ne 57, 3, 1, 0, 0) from rfl) (by decide) (rng_to _) ⟨by first | exact oq_bde653e9 hi.1 | omega, by first | exact oq_4ad2cb8b hi.1 | omega⟩ (fun g2005 => ?_) (fun g2005 => ?_)
        ·
          refine z_inc X (x := rw) (lv' := [(4, .int (Int32.ofInt (rw + 1))), (0, .ref (A 173)), (1, .ref (A 178)), (2, .int (Int32.ofInt yv)), (3, .int (Int32.ofInt sm0))]) (show cdA 16 79 = some (.iinc 4 1, 3, 0, 0, 0) from rfl) (by decide) (List.Mem.tail _ (List.Mem.tail _ (List.Mem.tail _ (List.Mem.tail _ (List.Mem.head _))))) (fun _ h => h) ?_
          refine z_goto X (t := 5) (show cdA 16 82 = some (.goto (-77), 3, 0, 0, 0) from rfl) (by decide) ?_
          refine WS_lv (lv := [(0, .ref (A 173)), (1, .ref (A 178)), (2, .int (Int32.ofInt yv)), (3, .int (Int32.ofInt sm0)), (4, .int (Int32.ofInt (rw + 1)))]) (List.forall_mem_cons.mpr ⟨(List.Mem.tail _ (List.Mem.head _)), (List.forall_mem_cons.mpr ⟨(List.Mem.tail _ (List.Mem.tail _ (List.Mem.head _))), (List.forall_mem_cons.mpr ⟨(List.Mem.tail _ (List.Mem.tail _ (List.Mem.tail _ (List.Mem.head _)))), (List.forall_mem_cons.mpr ⟨(List.Mem.tail _ (List.Mem.tail _ (List.Mem.tail _ (List.Mem.tail _ (List.Mem.head _))))), (List.forall_mem_cons.mpr ⟨(List.Mem.head _), (fun q h => absurd h List.not_mem_nil)⟩)⟩)⟩)⟩)⟩) ?_
          exact ih _ yv sm0 (rw + 1) I F (by first | exact ⟨hi.1, And.intro (hi.2.1.1) (hi.2.1.2), oq_54f49eb5 hi.2.2.1, oq_aa91b9d2 g2003 b2002.2⟩ | omega) (by first | exact qk_me hm (by decide) (oq_e7680c39 g2003 b2002.2) | omega) kx
        ·
          refine z_aload_n X (x := A 173) (show cdA 16 25 = some (.aload_n 0, 1, 0, 0, 0) from rfl) (List.Mem.head _) ?_
          refine s_getR X 173 (show cdA 16 26 = some (.getfield 15, 3, 1, 1, 0) from rfl) (by decide) rfl rfl ?_
          refine z_load X (x := rw) (show cdA 16 29 = some (.iload 4, 2, 0, 0, 0) from rfl) (List.Mem.tail _ (List.Mem.tail _ (List.Mem.tail _ (List.Mem.tail _ (List.Mem.head _))))) ?_
          refine z_ald X 175 (show cdA 16 31 = some (.iaload, 1, 0, 0, 0) from rfl) (by decide) rfl (by first | exact hi.2.2.1 | omega) (show rw < 40 by first | exact oq_497ff6eb g2003 b2002.2 | omega) (by decide) ?_
          have b2006 : ((-2147483648) : Int) ≤ iC t 153 (rw).toNat ∧ iC t 153 (rw).toNat ≤ 2147483647 := I.2 153 _ (show (rw).toNat < 40 by first | exact oq_23813e7c g2003 b2002.2 | omega)
          refine z_store X (lv' := [(5, .int (Int32.ofInt (iC t 153 (rw).toNat))), (0, .ref (A 173)), (1, .ref (A 178)), (2, .int (Int32.ofInt yv)), (3, .int (Int32.ofInt sm0)), (4, .int (Int32.ofInt rw))]) (show cdA 16 32 = some (.istore 5, 2, 0, 0, 0) from rfl) (by decide) (fun _ h => h) ?_
          refine z_const X (show cdA 16 34 = some (.iconst 0, 1, 0, 0, 0) from rfl) ?_
          refine z_store X (lv' := [(6, .int (Int32.ofInt 0)), (5, .int (Int32.ofInt (iC t 153 (rw).toNat))), (0, .ref (A 173)), (1, .ref (A 178)), (2, .int (Int32.ofInt yv)), (3, .int (Int32.ofInt sm0)), (4, .int (Int32.ofInt rw))]) (show cdA 16 35 = some (.istore 6, 2, 0, 0, 0) from rfl) (by decide) (fun _ h => h) ?_
          refine WS_lv (lv := [(0, .ref (A 173)), (1, .ref (A 178)), (2, .int (Int32.ofInt yv)), (3, .int (Int32.ofInt sm0)), (4, .int (Int32.ofInt rw)), (5, .int (Int32.ofInt (iC t 153 (rw).toNat))), (6, .int (Int32.ofInt 0))]) (List.forall_mem_cons.mpr ⟨(List.Mem.tail _ (List.Mem.tail _ (List.Mem.head _))), (List.forall_mem_cons.mpr ⟨(List.Mem.tail _ (List.Mem.tail _ (List.Mem.tail _ (List.Mem.head _)))), (List.forall_mem_cons.mpr ⟨(List.Mem.tail _ (List.Mem.tail _ (List.Mem.tail _ (List.Mem.tail _ (List.Mem.head _))))), (List.forall_mem_cons.mpr ⟨(List.Mem.tail _ (List.Mem.tail _ (List.Mem.tail _ (List.Mem.tail _ (List.Mem.tail _ (List.Mem.head _)))))), (List.forall_mem_cons.mpr ⟨(List.Mem.tail _ (List.Mem.tail _ (List.Mem.tail _ (List.Mem.tail _ (List.Mem.tail _ (List.Mem.tail _ (List.Mem.head _))))))), (List.forall_mem_cons.mpr ⟨(List.Mem.tail _ (List.Mem.head _)), (List.forall_mem_cons.mpr ⟨(List.Mem.head _), (fun q h => absurd h List.not_mem_nil)⟩)⟩)⟩)⟩)⟩)⟩)⟩) ?_
          refine L37 ((4 - 0 : Int).toNat + 1) t yv sm0 rw (iC t 153 (rw).toNat) 0 I F (by first | exact ⟨hi.1, And.intro (hi.2.1.1) (hi.2.1.2), And.intro (hi.2.2.1) (oq_60d647b9 g2003 b2002.2), And.intro (b2006.1) (b2006.2), by decide, by decide⟩ | omega) (Nat.lt_succ_self _) ?_
          intro s2007 x2008 x2009 Is2007 Fs2007 hs2007
          have b2010 : (0 : Int) ≤ iI s2007 70 ∧ iI s2007 70 ≤ 40 := Is2007.1 70
          refine z_load_n X (x := sm0) (show cdA 16 71 = some (.iload_n 3, 1, 0, 0, 0) from rfl) (List.Mem.tail _ (List.Mem.tail _ (List.Mem.tail _ (List.Mem.head _)))) ?_
          refine z_load X (x := x2008) (show cdA 16 72 = some (.iload 5, 2, 0, 0, 0) from rfl) (List.Mem.tail _ (List.Mem.tail _ (List.Mem.tail _ (List.Mem.tail _ (List.Mem.tail _ (List.Mem.head _)))))) ?_
          refine z_abs X rfl (show cdA 16 74 = some (.invokestatic 64, 3, 299, 1, 0) from rfl) (by rw [E.2.2.2]; decide) (by rw [E.2.2.2]; exact Nat.le_of_ble_eq_true rfl) (Nat.zero_le _) (Nat.zero_le _) (fun e2011 he2011 => ?_)
          refine z_add X (show cdA 16 77 = some (.iadd, 1, 0, 0, 0) from rfl) ?_
          refine z_any (fun y2012 hy2012 => ?_)
          refine z_store_n X (lv' := [(3, .int (Int32.ofInt y2012)), (0, .ref (A 173)), (1, .ref (A 178)), (2, .int (Int32.ofInt yv)), (4, .int (Int32.ofInt rw)), (5, .int (Int32.ofInt x2008)), (6, .int (Int32.ofInt x2009))]) (show cdA 16 78 = some (.istore_n 3, 1, 0, 0, 0) from rfl) (by decide) (fun _ h => h) ?_
          refine z_inc X (x := rw) (lv' := [(4, .int (Int32.ofInt (rw + 1))), (3, .int (Int32.ofInt y2012)), (0, .ref (A 173)), (1, .ref (A 178)), (2, .int (Int32.ofInt yv)), (5, .int (Int32.ofInt x2008)), (6, .int (Int32.ofInt x2009))]) (show cdA 16 79 = some (.iinc 4 1, 3, 0, 0, 0) from rfl) (by decide) (List.Mem.tail _ (List.Mem.tail _ (List.Mem.tail _ (List.Mem.tail _ (List.Mem.head _))))) (fun _ h => h) ?_
          refine z_goto X (t := 5) (show cdA 16 82 = some (.goto (-77), 3, 0, 0, 0) from rfl) (by decide) ?_
          refine WS_lv (lv := [(0, .ref (A 173)), (1, .ref (A 178)), (2, .int (Int32.ofInt yv)), (3, .int (Int32.ofInt y2012)), (4, .int (Int32.ofInt (rw + 1)))]) (List.forall_mem_cons.mpr ⟨(List.Mem.tail _ (List.Mem.tail _ (List.Mem.head _))), (List.forall_mem_cons.mpr ⟨(List.Mem.tail _ (List.Mem.tail _ (List.Mem.tail _ (List.Mem.head _)))), (List.forall_mem_cons.mpr ⟨(List.Mem.tail _ (List.Mem.tail _ (List.Mem.tail _ (List.Mem.tail _ (List.Mem.head _))))), (List.forall_mem_cons.mpr ⟨(List.Mem.tail _ (List.Mem.head _)), (List.forall_mem_cons.mpr ⟨(List.Mem.head _), (fun q h => absurd h List.not_mem_nil)⟩)⟩)⟩)⟩)⟩) ?_
          exact ih _ yv y2012 (rw + 1) Is2007 Fs2007 (by first | exact ⟨hs2007.1, And.intro (hy2012.1) (hy2012.2), oq_54f49eb5 hs2007.2.2.1.1, oq_c93233a9 hs2007.2.2.1.2⟩ | omega) (by first | exact qk_me hm (by decide) (oq_3e505acc hs2007.2.2.1.2) | omega) kx
  refine z_const X (show cdA 16 0 = some (.iconst 0, 1, 0, 0, 0) from rfl) ?_
  refine z_store_n X (lv' := [(3, .int (Int32.ofInt 0)), (0, .ref (A 173)), (1, .ref (A 178)), (2, .int (Int32.ofInt y))]) (show cdA 16 1 = some (.istore_n 3, 1, 0, 0, 0) from rfl) (by decide) (fun _ h => h) ?_
  refine z_const X (show cdA 16 2 = some (.iconst 0, 1, 0, 0, 0) from rfl) ?_
  refine z_store X (lv' := [(4, .int (Int32.ofInt 0)), (3, .int (Int32.ofInt 0)), (0, .ref (A 173)), (1, .ref (A 178)), (2, .int (Int32.ofInt y))]) (show cdA 16 3 = some (.istore 4, 2, 0, 0, 0) from rfl) (by decide) (fun _ h => h) ?_
  refine WS_lv (lv := [(0, .ref (A 173)), (1, .ref (A 178)), (2, .int (Int32.ofInt y)), (3, .int (Int32.ofInt 0)), (4, .int (Int32.ofInt 0))]) (List.forall_mem_cons.mpr ⟨(List.Mem.tail _ (List.Mem.tail _ (List.Mem.head _))), (List.forall_mem_cons.mpr ⟨(List.Mem.tail _ (List.Mem.tail _ (List.Mem.tail _ (List.Mem.head _)))), (List.forall_mem_cons.mpr ⟨(List.Mem.tail _ (List.Mem.tail _ (List.Mem.tail _ (List.Mem.tail _ (List.Mem.head _))))), (List.forall_mem_cons.mpr ⟨(List.Mem.tail _ (List.Mem.head _)), (List.forall_mem_cons.mpr ⟨(List.Mem.head _), (fun q h => absurd h List.not_mem_nil)⟩)⟩)⟩)⟩)⟩) ?_
  refine L5 ((40 - 0 : Int).toNat + 1) s y 0 0 I F (by first | exact ⟨p0, And.intro (by decide) (by decide), by decide, by decide⟩ | omega) (Nat.lt_succ_self _) ?_
  intro s2 x3 x4 Is2 Fs2 hs2
  have b5 : (0 : Int) ≤ iI s2 70 ∧ iI s2 70 ≤ 40 := Is2.1 70
  refine z_load_n X (x := x3) (show cdA 16 85 = some (.iload_n 3, 1, 0, 0, 0) from rfl) (List.Mem.tail _ (List.Mem.tail _ (List.Mem.tail _ (List.Mem.head _)))) ?_
  exact w_iret X.1 q hRt rfl (ax_d X (show cdA 16 86 = some (.ireturn, 1, 0, 0, 0) from rfl)) (Nat.zero_le _) (Nat.zero_le _) ⟨_, rfl, Is2, Fs2, x3, rfl, ⟨by first | exact hs2.2.1.1 | omega, by first | exact hs2.2.1.2 | omega⟩, trivial⟩
set_option maxRecDepth 4000 in
theorem c1_offOf_177 (G : GX l s0 D tys a0 dT) (I : Bd s) {y : Int} (p0 : y = 0 ∨ y = 1) : CT l s0 D A dT 16 (rmN 16) [.ref (A 173), .ref (A 177), .int (Int32.ofInt y)] s (fun o t => Bd t ∧ Fm [] [] s t ∧ ∃ e, o = .inl (some (.int (Int32.ofInt e))) ∧ rng e ∧ (True)) := by
  refine ct_ofX G (by decide) (Nat.le_of_ble_eq_true rfl) (fun k X E ET hRt hXt q => ?_)
  show WS k 0 [(0, .ref (A 173)), (1, .ref (A 177)), (2, .int (Int32.ofInt y))] [] _ 0 0
  have F : Fm [] [] s s := fm_rf _ _ s
  have b1 : (0 : Int) ≤ iI s 70 ∧ iI s 70 ≤ 40 := I.1 70
  have L37 : ∀ (n : Nat) (t : PS) (yv sm0 rw fr c : Int), Bd t → Fm [] [] s t → ((yv = 0 ∨ yv = 1) ∧ rng sm0 ∧ (0 ≤ rw ∧ rw ≤ 39) ∧ rng fr ∧ 0 ≤ c ∧ c ≤ 4) → (4 - c : Int).toNat < n → (∀ (t' : PS) (fr' c' : Int), Bd t' → Fm [] [] s t' → ((yv = 0 ∨ yv = 1) ∧ rng sm0 ∧ (0 ≤ rw ∧ rw ≤ 39) ∧ rng fr' ∧ 0 ≤ c' ∧ c' ≤ 4) → WS k 71 [(0, .ref (A 173)), (1, .ref (A 177)), (2, .int (Int32.ofInt yv)), (3, .int (Int32.ofInt sm0)), (4, .int (Int32.ofInt rw)), (5, .int (Int32.ofInt fr')), (6, .int (Int32.ofInt c'))] [] (Wd A dT t') 0 0) → WS k 37 [(0, .ref (A 173)), (1, .ref (A 177)), (2, .int (Int32.ofInt yv)), (3, .int (Int32.ofInt sm0)), (4, .int (Int32.ofInt rw)), (5, .int (Int32.ofInt fr)), (6, .int (Int32.ofInt c))] [] (Wd A dT t) 0 0 := by
    intro n
    induction n with
    | zero =>
      intro t yv sm0 rw fr c I F hi hm kx
      exact absurd hm (Nat.not_lt_zero _)
    | succ n ih =>
      intro t yv sm0 rw fr c I F hi hm kx
      have b1001 : (0 : Int) ≤ iI t 70 ∧ iI t 70 ≤ 40 := I.1 70
      refine z_load X (x := c) (show cdA 16 37 = some (.iload 6, 2, 0, 0, 0) from rfl) (List.Mem.tail _ (List.Mem.tail _ (List.Mem.tail _ (List.Mem.tail _ (List.Mem.tail _ (List.Mem.tail _ (List.Mem.head _))))))) ?_
      refine z_const X (show cdA 16 39 = some (.iconst 4, 1, 0, 0, 0) from rfl) ?_
      refine z_icmp_ge X (t := 71) (show cdA 16 40 = some (.if_icmp .ge 31, 3, 3, 0, 0) from rfl) (by decide) ⟨by first | exact oq_fa4e5087 hi.2.2.2.2.1 | omega, by first | exact oq_4a4414da hi.2.2.2.2.2 | omega⟩ (by decide) (fun g1002 => ?_) (fun g1002 => ?_)
      ·
        refine WS_lv (lv := [(0, .ref (A 173)), (1, .ref (A 177)), (2, .int (Int32.ofInt yv)), (3, .int (Int32.ofInt sm0)), (4, .int (Int32.ofInt rw)), (5, .int (Int32.ofInt fr)), (6, .int (Int32.ofInt c))]) (List.forall_mem_cons.mpr ⟨(List.Mem.head _), (List.forall_mem_cons.mpr ⟨(List.Mem.tail _ (List.Mem.head _)), (List.forall_mem_cons.mpr ⟨(List.Mem.tail _ (List.Mem.tail _ (List.Mem.head _))), (List.forall_mem_cons.mpr ⟨(List.Mem.tail _ (List.Mem.tail _ (List.Mem.tail _ (List.Mem.head _)))), (List.forall_mem_cons.mpr ⟨(List.Mem.tail _ (List.Mem.tail _ (List.Mem.tail _ (List.Mem.tail _ (List.Mem.head _))))), (List.forall_mem_cons.mpr ⟨(List.Mem.tail _ (List.Mem.tail _ (List.Mem.tail _ (List.Mem.tail _ (List.Mem.tail _ (List.Mem.head _)))))), (List.forall_mem_cons.mpr ⟨(List.Mem.tail _ (List.Mem.tail _ (List.Mem.tail _ (List.Mem.tail _ (List.Mem.tail _ (List.Mem.tail _ (List.Mem.head _))))))), (fun q h => absurd h List.not_mem_nil)⟩)⟩)⟩)⟩)⟩)⟩)⟩) ?_
        exact kx _ fr c I F (by first | exact ⟨hi.1, And.intro (hi.2.1.1) (hi.2.1.2), And.intro (hi.2.2.1.1) (hi.2.2.1.2), And.intro (hi.2.2.2.1.1) (hi.2.2.2.1.2), hi.2.2.2.2.1, hi.2.2.2.2.2⟩ | omega)
      ·
        refine z_load X (x := fr) (show cdA 16 43 = some (.iload 5, 2, 0, 0, 0) from rfl) (List.Mem.tail _ (List.Mem.tail _ (List.Mem.tail _ (List.Mem.tail _ (List.Mem.tail _ (List.Mem.head _)))))) ?_
        refine z_aload_n X (x := A 177) (show cdA 16 45 = some (.aload_n 1, 1, 0, 0, 0) from rfl) (List.Mem.tail _ (List.Mem.head _)) ?_
        refine z_load X (x := c) (show cdA 16 46 = some (.iload 6, 2, 0, 0, 0) from rfl) (List.Mem.tail _ (List.Mem.tail _ (List.Mem.tail _ (List.Mem.tail _ (List.Mem.tail _ (List.Mem.tail _ (List.Mem.head _))))))) ?_
        refine z_ald X 177 (show cdA 16 48 = some (.iaload, 1, 0, 0, 0) from rfl) (by decide) rfl (by first | exact hi.2.2.2.2.1 | omega) (show c < 4 by first | exact g1002 | omega) (by decide) ?_
        have b1003 : ((-2147483648) : Int) ≤ iC t 155 (c).toNat ∧ iC t 155 (c).toNat ≤ 2147483647 := I.2 155 _ (show (c).toNat < 4 by first | exact oq_a274733e g1002 | omega)
        refine z_aload_n X (x := A 173) (show cdA 16 49 = some (.aload_n 0, 1, 0, 0, 0) from rfl) (List.Mem.head _) ?_
        refine s_getR X 173 (show cdA 16 50 = some (.getfield 11, 3, 1, 0, 0) from rfl) (by decide) rfl rfl ?_
        refine z_load X (x := rw) (show cdA 16 53 = some (.iload 4, 2, 0, 0, 0) from rfl) (List.Mem.tail _ (List.Mem.tail _ (List.Mem.tail _ (List.Mem.tail _ (List.Mem.head _))))) ?_
        refine z_const X (show cdA 16 55 = some (.iconst 4, 1, 0, 0, 0) from rfl) ?_
        refine z_mul X (show cdA 16 56 = some (.imul, 1, 0, 0, 0) from rfl) ?_
        refine z_load X (x := c) (show cdA 16 57 = some (.iload 6, 2, 0, 0, 0) from rfl) (List.Mem.tail _ (List.Mem.tail _ (List.Mem.tail _ (List.Mem.tail _ (List.Mem.tail _ (List.Mem.tail _ (List.Mem.head _))))))) ?_
        refine z_add X (show cdA 16 59 = some (.iadd, 1, 0, 0, 0) from rfl) ?_
        refine z_ald X 174 (show cdA 16 60 = some (.iaload, 1, 0, 0, 0) from rfl) (by decide) rfl (by first | exact oq_6af04329 hi.2.2.1.1 hi.2.2.2.2.1 | omega) (show ((rw * 4) + c) < 160 by first | exact oq_7259ae6f hi.2.2.1.2 g1002 | omega) (by decide) ?_
        have b1004 : ((-2147483648) : Int) ≤ iC t 152 (((rw * 4) + c)).toNat ∧ iC t 152 (((rw * 4) + c)).toNat ≤ 2147483647 := I.2 152 _ (show (((rw * 4) + c)).toNat < 160 by first | exact oq_04b9c373 hi.2.2.1.2 g1002 | omega)
        refine z_mul X (show cdA 16 61 = some (.imul, 1, 0, 0, 0) from rfl) ?_
        refine z_any (fun y1005 hy1005 => ?_)
        refine z_sub X (show cdA 16 62 = some (.isub, 1, 0, 0, 0) from rfl) ?_
        refine z_any (fun y1006 hy1006 => ?_)
        refine z_store X (lv' := [(5, .int (Int32.ofInt y1006)), (0, .ref (A 173)), (1, .ref (A 177)), (2, .int (Int32.ofInt yv)), (3, .int (Int32.ofInt sm0)), (4, .int (Int32.ofInt rw)), (6, .int (Int32.ofInt c))]) (show cdA 16 63 = some (.istore 5, 2, 0, 0, 0) from rfl) (by decide) (fun _ h => h) ?_
        refine z_inc X (x := c) (lv' := [(6, .int (Int32.ofInt (c + 1))), (5, .int (Int32.ofInt y1006)), (0, .ref (A 173)), (1, .ref (A 177)), (2, .int (Int32.ofInt yv)), (3, .int (Int32.ofInt sm0)), (4, .int (Int32.ofInt rw))]) (show cdA 16 65 = some (.iinc 6 1, 3, 0, 0, 0) from rfl) (by decide) (List.Mem.tail _ (List.Mem.tail _ (List.Mem.tail _ (List.Mem.tail _ (List.Mem.tail _ (List.Mem.tail _ (List.Mem.head _))))))) (fun _ h => h) ?_
        refine z_goto X (t := 37) (show cdA 16 68 = some (.goto (-31), 3, 0, 0, 0) from rfl) (by decide) ?_
        refine WS_lv (lv := [(0, .ref (A 173)), (1, .ref (A 177)), (2, .int (Int32.ofInt yv)), (3, .int (Int32.ofInt sm0)), (4, .int (Int32.ofInt rw)), (5, .int (Int32.ofInt y1006)), (6, .int (Int32.ofInt (c + 1)))]) (List.forall_mem_cons.mpr ⟨(List.Mem.tail _ (List.Mem.tail _ (List.Mem.head _))), (List.forall_mem_cons.mpr ⟨(List.Mem.tail _ (List.Mem.tail _ (List.Mem.tail _ (List.Mem.head _)))), (List.forall_mem_cons.mpr ⟨(List.Mem.tail _ (List.Mem.tail _ (List.Mem.tail _ (List.Mem.tail _ (List.Mem.head _))))), (List.forall_mem_cons.mpr ⟨(List.Mem.tail _ (List.Mem.tail _ (List.Mem.tail _ (List.Mem.tail _ (List.Mem.tail _ (List.Mem.head _)))))), (List.forall_mem_cons.mpr ⟨(List.Mem.tail _ (List.Mem.tail _ (List.Mem.tail _ (List.Mem.tail _ (List.Mem.tail _ (List.Mem.tail _ (List.Mem.head _))))))), (List.forall_mem_cons.mpr ⟨(List.Mem.tail _ (List.Mem.head _)), (List.forall_mem_cons.mpr ⟨(List.Mem.head _), (fun q h => absurd h List.not_mem_nil)⟩)⟩)⟩)⟩)⟩)⟩)⟩) ?_
        exact ih _ yv sm0 rw y1006 (c + 1) I F (by first | exact ⟨hi.1, And.intro (hi.2.1.1) (hi.2.1.2), And.intro (hi.2.2.1.1) (hi.2.2.1.2), And.intro (hy1006.1) (hy1006.2), oq_54f49eb5 hi.2.2.2.2.1, oq_5b7aaf9e g1002⟩ | omega) (by first | exact qk_me hm (by decide) (oq_de1b25d0 g1002) | omega) kx
  have L5 : ∀ (n : Nat) (t : PS) (yv sm0 rw : Int), Bd t → Fm [] [] s t → ((yv = 0 ∨ yv = 1) ∧ rng sm0 ∧ 0 ≤ rw ∧ rw ≤ 40) → (40 - rw : Int).toNat < n → (∀ (t' : PS) (sm0' rw' : Int), Bd t' → Fm [] [] s t' → ((yv = 0 ∨ yv = 1) ∧ rng sm0' ∧ 0 ≤ rw' ∧ rw' ≤ 40) → WS k 85 [(0, .ref (A 173)), (1, .ref (A 177)), (2, .int (Int32.ofInt yv)), (3, .int (Int32.ofInt sm0')), (4, .int (Int32.ofInt rw'))] [] (Wd A dT t') 0 0) → WS k 5 [(0, .ref (A 173)), (1, .ref (A 177)), (2, .int (Int32.ofInt yv)), (3, .int (Int32.ofInt sm0)), (4, .int (Int32.ofInt rw))] [] (Wd A dT t) 0 0 := by
    intro n
    induction n with
    | zero =>
      intro t yv sm0 rw I F hi hm kx
      exact absurd hm (Nat.not_lt_zero _)
    | succ n ih =>
      intro t yv sm0 rw I F hi hm kx
      have b2001 : (0 : Int) ≤ iI t 70 ∧ iI t 70 ≤ 40 := I.1 70
      refine z_load X (x := rw) (show cdA 16 5 = some (.iload 4, 2, 0, 0, 0) from rfl) (List.Mem.tail _ (List.Mem.tail _ (List.Mem.tail _ (List.Mem.tail _ (List.Mem.head _))))) ?_
      refine z_aload_n X (x := A 173) (show cdA 16 7 = some (.aload_n 0, 1, 0, 0, 0) from rfl) (List.Mem.head _) ?_
      refine z_getI X 173 (show cdA 16 8 = some (.getfield 28, 3, 1, 3, 0) from rfl) (by decide) rfl rfl ?_
      have b2002 : (0 : Int) ≤ iI t 70 ∧ iI t 70 ≤ 40 := I.1 70
      refine z_icmp_ge X (t := 85) (show cdA 16 11 = some (.if_icmp .ge 74, 3, 3, 0, 0) from rfl) (by decide) ⟨by first | exact oq_fa4e5087 hi.2.2.1 | omega, by first | exact oq_227d2cd7 hi.2.2.2 | omega⟩ (rng_to _) (fun g2003 => ?_) (fun g2003 => ?_)
      ·
        refine WS_lv (lv := [(0, .ref (A 173)), (1, .ref (A 177)), (2, .int (Int32.ofInt yv)), (3, .int (Int32.ofInt sm0)), (4, .int (Int32.ofInt rw))]) (List.forall_mem_cons.mpr ⟨(List.Mem.head _), (List.forall_mem_cons.mpr ⟨(List.Mem.tail _ (List.Mem.head _)), (List.forall_mem_cons.mpr ⟨(List.Mem.tail _ (List.Mem.tail _ (List.Mem.head _))), (List.forall_mem_cons.mpr ⟨(List.Mem.tail _ (List.Mem.tail _ (List.Mem.tail _ (List.Mem.head _)))), (List.forall_mem_cons.mpr ⟨(List.Mem.tail _ (List.Mem.tail _ (List.Mem.tail _ (List.Mem.tail _ (List.Mem.head _))))), (fun q h => absurd h List.not_mem_nil)⟩)⟩)⟩)⟩)⟩) ?_
        exact kx _ sm0 rw I F (by first | exact ⟨hi.1, And.intro (hi.2.1.1) (hi.2.1.2), hi.2.2.1, hi.2.2.2⟩ | omega)
      ·
        refine z_aload_n X (x := A 173) (show cdA 16 14 = some (.aload_n 0, 1, 0, 0, 0) from rfl) (List.Mem.head _) ?_
        refine s_getR X 173 (show cdA 16 15 = some (.getfield 18, 3, 1, 2, 0) from rfl) (by decide) rfl rfl ?_
        refine z_load X (x := rw) (show cdA 16 18 = some (.iload 4, 2, 0, 0, 0) from rfl) (List.Mem.tail _ (List.Mem.tail _ (List.Mem.tail _ (List.Mem.tail _ (List.Mem.head _))))) ?_
        refine z_zald X 176 (show cdA 16 20 = some (.baload, 1, 0, 0, 0) from rfl) (by decide) rfl (by first | exact hi.2.2.1 | omega) (show rw < 40 by first | exact oq_497ff6eb g2003 b2002.2 | omega) (by decide) ?_
        have b2004 : (0 : Int) ≤ iC t 154 (rw).toNat ∧ iC t 154 (rw).toNat ≤ 1 := I.2 154 _ (show (rw).toNat < 40 by first | exact oq_23813e7c g2003 b2002.2 | omega)
        refine z_load_n X (x := yv) (show cdA 16 21 = some (.iload_n 2, 1, 0, 0, 0) from rfl) (List.Mem.tail _ (List.Mem.tail _ (List.Mem.head _))) ?_
        refine z_icmp_ne X (t := 79) (show cdA 16 22 = some (.if_icmp .ne 57, 3, 1, 0, 0) from rfl) (by decide) (rng_to _) ⟨by first | exact oq_bde653e9 hi.1 | omega, by first | exact oq_4ad2cb8b hi.1 | omega⟩ (fun g2005 => ?_) (fun g2005 => ?_)
        ·
          refine z_inc X (x := rw) (lv' := [(4, .int (Int32.ofInt (rw + 1))), (0, .ref (A 173)), (1, .ref (A 177)), (2, .int (Int32.ofInt yv)), (3, .int (Int32.ofInt sm0))]) (show cdA 16 79 = some (.iinc 4 1, 3, 0, 0, 0) from rfl) (by decide) (List.Mem.tail _ (List.Mem.tail _ (List.Mem.tail _ (List.Mem.tail _ (List.Mem.head _))))) (fun _ h => h) ?_
          refine z_goto X (t := 5) (show cdA 16 82 = some (.goto (-77), 3, 0, 0, 0) from rfl) (by decide) ?_
          refine WS_lv (lv := [(0, .ref (A 173)), (1, .ref (A 177)), (2, .int (Int32.ofInt yv)), (3, .int (Int32.ofInt sm0)), (4, .int (Int32.ofInt (rw + 1)))]) (List.forall_mem_cons.mpr ⟨(List.Mem.tail _ (List.Mem.head _)), (List.forall_mem_cons.mpr ⟨(List.Mem.tail _ (List.Mem.tail _ (List.Mem.head _))), (List.forall_mem_cons.mpr ⟨(List.Mem.tail _ (List.Mem.tail _ (List.Mem.tail _ (List.Mem.head _)))), (List.forall_mem_cons.mpr ⟨(List.Mem.tail _ (List.Mem.tail _ (List.Mem.tail _ (List.Mem.tail _ (List.Mem.head _))))), (List.forall_mem_cons.mpr ⟨(List.Mem.head _), (fun q h => absurd h List.not_mem_nil)⟩)⟩)⟩)⟩)⟩) ?_
          exact ih _ yv sm0 (rw + 1) I F (by first | exact ⟨hi.1, And.intro (hi.2.1.1) (hi.2.1.2), oq_54f49eb5 hi.2.2.1, oq_aa91b9d2 g2003 b2002.2⟩ | omega) (by first | exact qk_me hm (by decide) (oq_e7680c39 g2003 b2002.2) | omega) kx
        ·
          refine z_aload_n X (x := A 173) (show cdA 16 25 = some (.aload_n 0, 1, 0, 0, 0) from rfl) (List.Mem.head _) ?_
          refine s_getR X 173 (show cdA 16 26 = some (.getfield 15, 3, 1, 1, 0) from rfl) (by decide) rfl rfl ?_
          refine z_load X (x := rw) (show cdA 16 29 = some (.iload 4, 2, 0, 0, 0) from rfl) (List.Mem.tail _ (List.Mem.tail _ (List.Mem.tail _ (List.Mem.tail _ (List.Mem.head _))))) ?_
          refine z_ald X 175 (show cdA 16 31 = some (.iaload, 1, 0, 0, 0) from rfl) (by decide) rfl (by first | exact hi.2.2.1 | omega) (show rw < 40 by first | exact oq_497ff6eb g2003 b2002.2 | omega) (by decide) ?_
          have b2006 : ((-2147483648) : Int) ≤ iC t 153 (rw).toNat ∧ iC t 153 (rw).toNat ≤ 2147483647 := I.2 153 _ (show (rw).toNat < 40 by first | exact oq_23813e7c g2003 b2002.2 | omega)
          refine z_store X (lv' := [(5, .int (Int32.ofInt (iC t 153 (rw).toNat))), (0, .ref (A 173)), (1, .ref (A 177)), (2, .int (Int32.ofInt yv)), (3, .int (Int32.ofInt sm0)), (4, .int (Int32.ofInt rw))]) (show cdA 16 32 = some (.istore 5, 2, 0, 0, 0) from rfl) (by decide) (fun _ h => h) ?_
          refine z_const X (show cdA 16 34 = some (.iconst 0, 1, 0, 0, 0) from rfl) ?_
          refine z_store X (lv' := [(6, .int (Int32.ofInt 0)), (5, .int (Int32.ofInt (iC t 153 (rw).toNat))), (0, .ref (A 173)), (1, .ref (A 177)), (2, .int (Int32.ofInt yv)), (3, .int (Int32.ofInt sm0)), (4, .int (Int32.ofInt rw))]) (show cdA 16 35 = some (.istore 6, 2, 0, 0, 0) from rfl) (by decide) (fun _ h => h) ?_
          refine WS_lv (lv := [(0, .ref (A 173)), (1, .ref (A 177)), (2, .int (Int32.ofInt yv)), (3, .int (Int32.ofInt sm0)), (4, .int (Int32.ofInt rw)), (5, .int (Int32.ofInt (iC t 153 (rw).toNat))), (6, .int (Int32.ofInt 0))]) (List.forall_mem_cons.mpr ⟨(List.Mem.tail _ (List.Mem.tail _ (List.Mem.head _))), (List.forall_mem_cons.mpr ⟨(List.Mem.tail _ (List.Mem.tail _ (List.Mem.tail _ (List.Mem.head _)))), (List.forall_mem_cons.mpr ⟨(List.Mem.tail _ (List.Mem.tail _ (List.Mem.tail _ (List.Mem.tail _ (List.Mem.head _))))), (List.forall_mem_cons.mpr ⟨(List.Mem.tail _ (List.Mem.tail _ (List.Mem.tail _ (List.Mem.tail _ (List.Mem.tail _ (List.Mem.head _)))))), (List.forall_mem_cons.mpr ⟨(List.Mem.tail _ (List.Mem.tail _ (List.Mem.tail _ (List.Mem.tail _ (List.Mem.tail _ (List.Mem.tail _ (List.Mem.head _))))))), (List.forall_mem_cons.mpr ⟨(List.Mem.tail _ (List.Mem.head _)), (List.forall_mem_cons.mpr ⟨(List.Mem.head _), (fun q h => absurd h List.not_mem_nil)⟩)⟩)⟩)⟩)⟩)⟩)⟩) ?_
          refine L37 ((4 - 0 : Int).toNat + 1) t yv sm0 rw (iC t 153 (rw).toNat) 0 I F (by first | exact ⟨hi.1, And.intro (hi.2.1.1) (hi.2.1.2), And.intro (hi.2.2.1) (oq_60d647b9 g2003 b2002.2), And.intro (b2006.1) (b2006.2), by decide, by decide⟩ | omega) (Nat.lt_succ_self _) ?_
          intro s2007 x2008 x2009 Is2007 Fs2007 hs2007
          have b2010 : (0 : Int) ≤ iI s2007 70 ∧ iI s2007 70 ≤ 40 := Is2007.1 70
          refine z_load_n X (x := sm0) (show cdA 16 71 = some (.iload_n 3, 1, 0, 0, 0) from rfl) (List.Mem.tail _ (List.Mem.tail _ (List.Mem.tail _ (List.Mem.head _)))) ?_
          refine z_load X (x := x2008) (show cdA 16 72 = some (.iload 5, 2, 0, 0, 0) from rfl) (List.Mem.tail _ (List.Mem.tail _ (List.Mem.tail _ (List.Mem.tail _ (List.Mem.tail _ (List.Mem.head _)))))) ?_
          refine z_abs X rfl (show cdA 16 74 = some (.invokestatic 64, 3, 299, 1, 0) from rfl) (by rw [E.2.2.2]; decide) (by rw [E.2.2.2]; exact Nat.le_of_ble_eq_true rfl) (Nat.zero_le _) (Nat.zero_le _) (fun e2011 he2011 => ?_)
          refine z_add X (show cdA 16 77 = some (.iadd, 1, 0, 0, 0) from rfl) ?_
          refine z_any (fun y2012 hy2012 => ?_)
          refine z_store_n X (lv' := [(3, .int (Int32.ofInt y2012)), (0, .ref (A 173)), (1, .ref (A 177)), (2, .int (Int32.ofInt yv)), (4, .int (Int32.ofInt rw)), (5, .int (Int32.ofInt x2008)), (6, .int (Int32.ofInt x2009))]) (show cdA 16 78 = some (.istore_n 3, 1, 0, 0, 0) from rfl) (by decide) (fun _ h => h) ?_
          refine z_inc X (x := rw) (lv' := [(4, .int (Int32.ofInt (rw + 1))), (3, .int (Int32.ofInt y2012)), (0, .ref (A 173)), (1, .ref (A 177)), (2, .int (Int32.ofInt yv)), (5, .int (Int32.ofInt x2008)), (6, .int (Int32.ofInt x2009))]) (show cdA 16 79 = some (.iinc 4 1, 3, 0, 0, 0) from rfl) (by decide) (List.Mem.tail _ (List.Mem.tail _ (List.Mem.tail _ (List.Mem.tail _ (List.Mem.head _))))) (fun _ h => h) ?_
          refine z_goto X (t := 5) (show cdA 16 82 = some (.goto (-77), 3, 0, 0, 0) from rfl) (by decide) ?_
          refine WS_lv (lv := [(0, .ref (A 173)), (1, .ref (A 177)), (2, .int (Int32.ofInt yv)), (3, .int (Int32.ofInt y2012)), (4, .int (Int32.ofInt (rw + 1)))]) (List.forall_mem_cons.mpr ⟨(List.Mem.tail _ (List.Mem.tail _ (List.Mem.head _))), (List.forall_mem_cons.mpr ⟨(List.Mem.tail _ (List.Mem.tail _ (List.Mem.tail _ (List.Mem.head _)))), (List.forall_mem_cons.mpr ⟨(List.Mem.tail _ (List.Mem.tail _ (List.Mem.tail _ (List.Mem.tail _ (List.Mem.head _))))), (List.forall_mem_cons.mpr ⟨(List.Mem.tail _ (List.Mem.head _)), (List.forall_mem_cons.mpr ⟨(List.Mem.head _), (fun q h => absurd h List.not_mem_nil)⟩)⟩)⟩)⟩)⟩) ?_
          exact ih _ yv y2012 (rw + 1) Is2007 Fs2007 (by first | exact ⟨hs2007.1, And.intro (hy2012.1) (hy2012.2), oq_54f49eb5 hs2007.2.2.1.1, oq_c93233a9 hs2007.2.2.1.2⟩ | omega) (by first | exact qk_me hm (by decide) (oq_3e505acc hs2007.2.2.1.2) | omega) kx
  refine z_const X (show cdA 16 0 = some (.iconst 0, 1, 0, 0, 0) from rfl) ?_
  refine z_store_n X (lv' := [(3, .int (Int32.ofInt 0)), (0, .ref (A 173)), (1, .ref (A 177)), (2, .int (Int32.ofInt y))]) (show cdA 16 1 = some (.istore_n 3, 1, 0, 0, 0) from rfl) (by decide) (fun _ h => h) ?_
  refine z_const X (show cdA 16 2 = some (.iconst 0, 1, 0, 0, 0) from rfl) ?_
  refine z_store X (lv' := [(4, .int (Int32.ofInt 0)), (3, .int (Int32.ofInt 0)), (0, .ref (A 173)), (1, .ref (A 177)), (2, .int (Int32.ofInt y))]) (show cdA 16 3 = some (.istore 4, 2, 0, 0, 0) from rfl) (by decide) (fun _ h => h) ?_
  refine WS_lv (lv := [(0, .ref (A 173)), (1, .ref (A 177)), (2, .int (Int32.ofInt y)), (3, .int (Int32.ofInt 0)), (4, .int (Int32.ofInt 0))]) (List.forall_mem_cons.mpr ⟨(List.Mem.tail _ (List.Mem.tail _ (List.Mem.head _))), (List.forall_mem_cons.mpr ⟨(List.Mem.tail _ (List.Mem.tail _ (List.Mem.tail _ (List.Mem.head _)))), (List.forall_mem_cons.mpr ⟨(List.Mem.tail _ (List.Mem.tail _ (List.Mem.tail _ (List.Mem.tail _ (List.Mem.head _))))), (List.forall_mem_cons.mpr ⟨(List.Mem.tail _ (List.Mem.head _)), (List.forall_mem_cons.mpr ⟨(List.Mem.head _), (fun q h => absurd h List.not_mem_nil)⟩)⟩)⟩)⟩)⟩) ?_
  refine L5 ((40 - 0 : Int).toNat + 1) s y 0 0 I F (by first | exact ⟨p0, And.intro (by decide) (by decide), by decide, by decide⟩ | omega) (Nat.lt_succ_self _) ?_
  intro s2 x3 x4 Is2 Fs2 hs2
  have b5 : (0 : Int) ≤ iI s2 70 ∧ iI s2 70 ≤ 40 := Is2.1 70
  refine z_load_n X (x := x3) (show cdA 16 85 = some (.iload_n 3, 1, 0, 0, 0) from rfl) (List.Mem.tail _ (List.Mem.tail _ (List.Mem.tail _ (List.Mem.head _)))) ?_
  exact w_iret X.1 q hRt rfl (ax_d X (show cdA 16 86 = some (.ireturn, 1, 0, 0, 0) from rfl)) (Nat.zero_le _) (Nat.zero_le _) ⟨_, rfl, Is2, Fs2, x3, rfl, ⟨by first | exact hs2.2.1.1 | omega, by first | exact hs2.2.1.2 | omega⟩, trivial⟩
set_option maxRecDepth 4000 in
theorem c1_offBack_173 (G : GX l s0 D tys a0 dT) (I : Bd s)  : CT l s0 D A dT 13 (rmN 13) [.ref (A 173)] s (fun o t => Bd t ∧ Fm [] [] s t ∧ ∃ e, o = .inl (some (.int (Int32.ofInt e))) ∧ rng e ∧ (True)) := by
  refine ct_ofX G (by decide) (Nat.le_of_ble_eq_true rfl) (fun k X E ET hRt hXt q => ?_)
  show WS k 0 [(0, .ref (A 173))] [] _ 0 0
  have F : Fm [] [] s s := fm_rf _ _ s
  refine z_aload_n X (x := A 173) (show cdA 13 0 = some (.aload_n 0, 1, 0, 0, 0) from rfl) (List.Mem.head _) ?_
  refine z_aload_n X (x := A 173) (show cdA 13 1 = some (.aload_n 0, 1, 0, 0, 0) from rfl) (List.Mem.head _) ?_
  refine s_getR X 173 (show cdA 13 2 = some (.getfield 22, 3, 1, 5, 0) from rfl) (by decide) rfl rfl ?_
  refine z_const X (show cdA 13 5 = some (.iconst 1, 1, 0, 0, 0) from rfl) ?_
  refine z_callV X 173 (rm := rmN 16) (As := [.ref (A 177), .int (Int32.ofInt 1)]) (st := []) (show cdA 13 6 = some (.invokevirtual 57, 3, 16, 0, 0) from rfl) rfl (by decide) rfl (by rw [E.1, E.2.1, E.2.2.1]; exact c1_offOf_177 G I (by first | exact Or.inr (by decide) | omega)) ⟨by rw [E.2.2.2]; exact (show (rmN 16).frames + 1 ≤ (rmN 13).frames by decide), by rw [E.2.2.2]; exact (show 8 + (mNL (miB 16) + 11) + (rmN 16).locals ≤ (rmN 13).locals by decide), by rw [E.2.2.2]; exact (show 0 + (rmN 16).cells ≤ (rmN 13).cells by decide), by rw [E.2.2.2]; exact (show 0 + (rmN 16).slots ≤ (rmN 13).slots by decide)⟩ (Nat.le_of_ble_eq_true rfl) (fun vv s1 hq => ?_) (fun ee s1 hq => ?_)
  rotate_left
  · obtain ⟨Is1, Fs1, e2, hv, hrs1, hps1⟩ := hq; cases hv
  obtain ⟨Is1, Fs1, e2, hv, hrs1, hps1⟩ := hq
  cases hv
  have Gs1 := fm_ts F Fs1 (by decide) (by decide)
  show WS k 9 [(0, .ref (A 173))] [.int (Int32.ofInt e2)] (Wd A dT s1) 0 0
  exact w_iret X.1 q hRt rfl (ax_d X (show cdA 13 9 = some (.ireturn, 1, 0, 0, 0) from rfl)) (Nat.zero_le _) (Nat.zero_le _) ⟨_, rfl, Is1, Gs1, e2, rfl, hrs1, trivial⟩
set_option maxRecDepth 4000 in
theorem c1_solve_173 (G : GX l s0 D tys a0 dT) (I : Bd s)  : CT l s0 D A dT 12 (rmN 12) [.ref (A 173)] s (fun o t => Bd t ∧ Fm [71, 72] [156, 155] s t ∧ ∃ e, o = .inl (some (.int (Int32.ofInt e))) ∧ rng e ∧ (e = 0 ∨ e = 1)) := by
  refine ct_ofX G (by decide) (Nat.le_of_ble_eq_true rfl) (fun k X E ET hRt hXt q => ?_)
  show WS k 0 [(0, .ref (A 173))] [] _ 0 0
  have F : Fm [71, 72] [156, 155] s s := fm_rf _ _ s
  have L48 : ∀ (n : Nat) (t : PS) (mo c : Int), Bd t → Fm [71, 72] [156, 155] s t → ((mo = 0 ∨ mo = 1) ∧ 0 ≤ c ∧ c ≤ 625) → (625 - c : Int).toNat < n → (∀ (t' : PS) (mo' c' : Int), Bd t' → Fm [71, 72] [156, 155] s t' → ((mo' = 0 ∨ mo' = 1) ∧ 0 ≤ c' ∧ c' ≤ 625) → WS k 107 [(0, .ref (A 173)), (1, .int (Int32.ofInt mo')), (2, .int (Int32.ofInt c'))] [] (Wd A dT t') 0 0) → WS k 48 [(0, .ref (A 173)), (1, .int (Int32.ofInt mo)), (2, .int (Int32.ofInt c))] [] (Wd A dT t) 0 0 := by
    intro n
    induction n with
    | zero =>
      intro t mo c I F hi hm kx
      exact absurd hm (Nat.not_lt_zero _)
    | succ n ih =>
      intro t mo c I F hi hm kx
      refine z_load_n X (x := c) (show cdA 12 48 = some (.iload_n 2, 1, 0, 0, 0) from rfl) (List.Mem.tail _ (List.Mem.tail _ (List.Mem.head _))) ?_
      refine z_sipush X (show cdA 12 49 = some (.sipush 625, 3, 0, 0, 625) from rfl) ?_
      refine z_icmp_ge X (t := 107) (show cdA 12 52 = some (.if_icmp .ge 55, 3, 3, 0, 0) from rfl) (by decide) ⟨by first | exact oq_fa4e5087 hi.2.1 | omega, by first | exact oq_82406429 hi.2.2 | omega⟩ (by decide) (fun g1001 => ?_) (fun g1001 => ?_)
      ·
        refine WS_lv (lv := [(0, .ref (A 173)), (1, .int (Int32.ofInt mo)), (2, .int (Int32.ofInt c))]) (List.forall_mem_cons.mpr ⟨(List.Mem.head _), (List.forall_mem_cons.mpr ⟨(List.Mem.tail _ (List.Mem.head _)), (List.forall_mem_cons.mpr ⟨(List.Mem.tail _ (List.Mem.tail _ (List.Mem.head _))), (fun q h => absurd h List.not_mem_nil)⟩)⟩)⟩) ?_
        exact kx _ mo c I F (by first | exact ⟨hi.1, hi.2.1, hi.2.2⟩ | omega)
      ·
        refine z_load_n X (x := mo) (show cdA 12 55 = some (.iload_n 1, 1, 0, 0, 0) from rfl) (List.Mem.tail _ (List.Mem.head _)) ?_
        refine z_if_eq X (t := 107) (show cdA 12 56 = some (.ifCond .eq 51, 3, 0, 0, 0) from rfl) (by decide) ⟨by first | exact oq_bde653e9 hi.1 | omega, by first | exact oq_4ad2cb8b hi.1 | omega⟩ (fun g1002 => ?_) (fun g1002 => ?_)
        ·
          refine WS_lv (lv := [(0, .ref (A 173)), (1, .int (Int32.ofInt mo)), (2, .int (Int32.ofInt c))]) (List.forall_mem_cons.mpr ⟨(List.Mem.head _), (List.forall_mem_cons.mpr ⟨(List.Mem.tail _ (List.Mem.head _)), (List.forall_mem_cons.mpr ⟨(List.Mem.tail _ (List.Mem.tail _ (List.Mem.head _))), (fun q h => absurd h List.not_mem_nil)⟩)⟩)⟩) ?_
          exact kx _ mo c I F (by first | exact ⟨hi.1, hi.2.1, hi.2.2⟩ | omega)
        ·
          refine z_aload_n X (x := A 173) (show cdA 12 59 = some (.aload_n 0, 1, 0, 0, 0) from rfl) (List.Mem.head _) ?_
          refine z_aload_n X (x := A 173) (show cdA 12 60 = some (.aload_n 0, 1, 0, 0, 0) from rfl) (List.Mem.head _) ?_
          refine s_getR X 173 (show cdA 12 61 = some (.getfield 25, 3, 1, 6, 0) from rfl) (by decide) rfl rfl ?_
          refine z_const X (show cdA 12 64 = some (.iconst 0, 1, 0, 0, 0) from rfl) ?_
          refine z_callV X 173 (rm := rmN 16) (As := [.ref (A 178), .int (Int32.ofInt 0)]) (st := []) (show cdA 12 65 = some (.invokevirtual 57, 3, 16, 0, 0) from rfl) rfl (by decide) rfl (by rw [E.1, E.2.1, E.2.2.1]; exact c1_offOf_178 G I (by first | exact Or.inl (by decide) | omega)) ⟨by rw [E.2.2.2]; exact (show (rmN 16).frames + 1 ≤ (rmN 12).frames by decide), by rw [E.2.2.2]; exact (show 8 + (mNL (miB 16) + 11) + (rmN 16).locals ≤ (rmN 12).locals by decide), by rw [E.2.2.2]; exact (show 0 + (rmN 16).cells ≤ (rmN 12).cells by decide), by rw [E.2.2.2]; exact (show 0 + (rmN 16).slots ≤ (rmN 12).slots by decide)⟩ (Nat.le_of_ble_eq_true rfl) (fun vv s1003 hq => ?_) (fun ee s1003 hq => ?_)
          rotate_left
          · obtain ⟨Is1003, Fs1003, e1004, hv, hrs1003, hps1003⟩ := hq; cases hv
          obtain ⟨Is1003, Fs1003, e1004, hv, hrs1003, hps1003⟩ := hq
          cases hv
          have Gs1003 := fm_ts F Fs1003 (by decide) (by decide)
          show WS k 68 [(0, .ref (A 173)), (1, .int (Int32.ofInt mo)), (2, .int (Int32.ofInt c))] [.int (Int32.ofInt e1004)] (Wd A dT s1003) 0 0
          refine z_store_n X (lv' := [(3, .int (Int32.ofInt e1004)), (0, .ref (A 173)), (1, .int (Int32.ofInt mo)), (2, .int (Int32.ofInt c))]) (show cdA 12 68 = some (.istore_n 3, 1, 0, 0, 0) from rfl) (by decide) (fun _ h => h) ?_
          refine z_load_n X (x := e1004) (show cdA 12 69 = some (.iload_n 3, 1, 0, 0, 0) from rfl) (List.Mem.head _) ?_
          refine z_aload_n X (x := A 173) (show cdA 12 70 = some (.aload_n 0, 1, 0, 0, 0) from rfl) (List.Mem.tail _ (List.Mem.head _)) ?_
          refine z_getI X 173 (show cdA 12 71 = some (.getfield 54, 3, 1, 7, 0) from rfl) (by decide) rfl rfl ?_
          have b1005 : ((-2147483648) : Int) ≤ iI s1003 72 ∧ iI s1003 72 ≤ 2147483647 := Is1003.1 72
          refine z_icmp_ge X (t := 96) (show cdA 12 74 = some (.if_icmp .ge 22, 3, 3, 0, 0) from rfl) (by decide) hrs1003 (rng_to _) (fun g1006 => ?_) (fun g1006 => ?_)
          ·
            refine z_aload_n X (x := A 173) (show cdA 12 96 = some (.aload_n 0, 1, 0, 0, 0) from rfl) (List.Mem.tail _ (List.Mem.head _)) ?_
            refine z_callV X 173 (rm := rmN 15) (As := []) (st := []) (show cdA 12 97 = some (.invokevirtual 61, 3, 15, 0, 0) from rfl) rfl (by decide) rfl (by rw [E.1, E.2.1, E.2.2.1]; exact c1_nextTrial_173 G Is1003 ) ⟨by rw [E.2.2.2]; exact (show (rmN 15).frames + 1 ≤ (rmN 12).frames by decide), by rw [E.2.2.2]; exact (show 8 + (mNL (miB 15) + 11) + (rmN 15).locals ≤ (rmN 12).locals by decide), by rw [E.2.2.2]; exact (show 0 + (rmN 15).cells ≤ (rmN 12).cells by decide), by rw [E.2.2.2]; exact (show 0 + (rmN 15).slots ≤ (rmN 12).slots by decide)⟩ (Nat.le_of_ble_eq_true rfl) (fun vv s1007 hq => ?_) (fun ee s1007 hq => ?_)
            rotate_left
            · obtain ⟨Is1007, Fs1007, e1008, hv, hrs1007, hps1007⟩ := hq; cases hv
            obtain ⟨Is1007, Fs1007, e1008, hv, hrs1007, hps1007⟩ := hq
            cases hv
            have Gs1007 := fm_ts Gs1003 Fs1007 (by decide) (by decide)
            show WS k 100 [(3, .int (Int32.ofInt e1004)), (0, .ref (A 173)), (1, .int (Int32.ofInt mo)), (2, .int (Int32.ofInt c))] [.int (Int32.ofInt e1008)] (Wd A dT s1007) 0 0
            refine z_store_n X (lv' := [(1, .int (Int32.ofInt e1008)), (3, .int (Int32.ofInt e1004)), (0, .ref (A 173)), (2, .int (Int32.ofInt c))]) (show cdA 12 100 = some (.istore_n 1, 1, 0, 0, 0) from rfl) (by decide) (fun _ h => h) ?_
            refine z_inc X (x := c) (lv' := [(2, .int (Int32.ofInt (c + 1))), (1, .int (Int32.ofInt e1008)), (3, .int (Int32.ofInt e1004)), (0, .ref (A 173))]) (show cdA 12 101 = some (.iinc 2 1, 3, 0, 0, 0) from rfl) (by decide) (List.Mem.tail _ (List.Mem.tail _ (List.Mem.tail _ (List.Mem.head _)))) (fun _ h => h) ?_
            refine z_goto X (t := 48) (show cdA 12 104 = some (.goto (-56), 3, 0, 0, 0) from rfl) (by decide) ?_
            refine WS_lv (lv := [(0, .ref (A 173)), (1, .int (Int32.ofInt e1008)), (2, .int (Int32.ofInt (c + 1)))]) (List.forall_mem_cons.mpr ⟨(List.Mem.tail _ (List.Mem.tail _ (List.Mem.tail _ (List.Mem.head _)))), (List.forall_mem_cons.mpr ⟨(List.Mem.tail _ (List.Mem.head _)), (List.forall_mem_cons.mpr ⟨(List.Mem.head _), (fun q h => absurd h List.not_mem_nil)⟩)⟩)⟩) ?_
            exact ih _ e1008 (c + 1) Is1007 Gs1007 (by first | exact ⟨hps1007, oq_54f49eb5 hi.2.1, oq_d524a3cb g1001⟩ | omega) (by first | exact qk_me hm (by decide) (oq_ad009edd g1001) | omega) kx
          ·
            refine z_aload_n X (x := A 173) (show cdA 12 77 = some (.aload_n 0, 1, 0, 0, 0) from rfl) (List.Mem.tail _ (List.Mem.head _)) ?_
            refine z_load_n X (x := e1004) (show cdA 12 78 = some (.iload_n 3, 1, 0, 0, 0) from rfl) (List.Mem.head _) ?_
            refine s_putI X 173 (show cdA 12 79 = some (.putfield 54, 3, 1, 7, 0) from rfl) (by decide) rfl rfl (by decide) rfl rfl rfl ?_
            obtain ⟨s1009, hs1009⟩ : ∃ x0, x0 = uI s1003 72 (Int32.ofInt e1004) := ⟨_, rfl⟩
            rw [← hs1009]
            have Is1009 : Bd s1009 := by rw [hs1009]; exact bd_I Is1003 (show ((-2147483648) : Int) ≤ e1004 ∧ e1004 ≤ 2147483647 by first | exact ⟨by omega, oq_ef392b12 g1006 b1005.2⟩ | omega) hrs1003
            have Fs1009 := fm_I (x := Int32.ofInt e1004) Gs1003 (show 72 ∈ _ by decide)
            rw [← hs1009] at Fs1009
            have vs1009 : iI s1009 72 = e1004 := by rw [hs1009]; exact iI_u hrs1003
            refine z_aload_n X (x := A 173) (show cdA 12 82 = some (.aload_n 0, 1, 0, 0, 0) from rfl) (List.Mem.tail _ (List.Mem.head _)) ?_
            refine s_getR X 173 (show cdA 12 83 = some (.getfield 25, 3, 1, 6, 0) from rfl) (by decide) rfl rfl ?_
            refine z_const X (show cdA 12 86 = some (.iconst 0, 1, 0, 0, 0) from rfl) ?_
            refine z_aload_n X (x := A 173) (show cdA 12 87 = some (.aload_n 0, 1, 0, 0, 0) from rfl) (List.Mem.tail _ (List.Mem.head _)) ?_
            refine s_getR X 173 (show cdA 12 88 = some (.getfield 22, 3, 1, 5, 0) from rfl) (by decide) rfl rfl ?_
            refine z_const X (show cdA 12 91 = some (.iconst 0, 1, 0, 0, 0) from rfl) ?_
            refine z_const X (show cdA 12 92 = some (.iconst 4, 1, 0, 0, 0) from rfl) ?_
            refine z_copy X Is1009 178 177 (st := []) (show cdA 12 93 = some (.invokestatic 32, 3, 0, 5, 0) from rfl) (by decide) (by decide) rfl rfl (by omega) (by omega) (by omega) (show 0 + 4 ≤ ((4 : Nat) : Int) by omega) (show 0 + 4 ≤ ((4 : Nat) : Int) by omega) (by decide) (by rw [E.2.2.2]; decide) (by rw [E.2.2.2]; exact Nat.le_of_ble_eq_true rfl) (fun s1010 Is1010 Fs1010 => ?_)
            have Gs1010 := fm_ts Fs1009 Fs1010 (by decide) (by decide)
            refine z_aload_n X (x := A 173) (show cdA 12 96 = some (.aload_n 0, 1, 0, 0, 0) from rfl) (List.Mem.tail _ (List.Mem.head _)) ?_
            refine z_callV X 173 (rm := rmN 15) (As := []) (st := []) (show cdA 12 97 = some (.invokevirtual 61, 3, 15, 0, 0) from rfl) rfl (by decide) rfl (by rw [E.1, E.2.1, E.2.2.1]; exact c1_nextTrial_173 G Is1010 ) ⟨by rw [E.2.2.2]; exact (show (rmN 15).frames + 1 ≤ (rmN 12).frames by decide), by rw [E.2.2.2]; exact (show 8 + (mNL (miB 15) + 11) + (rmN 15).locals ≤ (rmN 12).locals by decide), by rw [E.2.2.2]; exact (show 0 + (rmN 15).cells ≤ (rmN 12).cells by decide), by rw [E.2.2.2]; exact (show 0 + (rmN 15).slots ≤ (rmN 12).slots by decide)⟩ (Nat.le_of_ble_eq_true rfl) (fun vv s1011 hq => ?_) (fun ee s1011 hq => ?_)
            rotate_left
            · obtain ⟨Is1011, Fs1011, e1012, hv, hrs1011, hps1011⟩ := hq; cases hv
            obtain ⟨Is1011, Fs1011, e1012, hv, hrs1011, hps1011⟩ := hq
            cases hv
            have Gs1011 := fm_ts Gs1010 Fs1011 (by decide) (by decide)
            show WS k 100 [(3, .int (Int32.ofInt e1004)), (0, .ref (A 173)), (1, .int (Int32.ofInt mo)), (2, .int (Int32.ofInt c))] [.int (Int32.ofInt e1012)] (Wd A dT s1011) 0 0
            refine z_store_n X (lv' := [(1, .int (Int32.ofInt e1012)), (3, .int (Int32.ofInt e1004)), (0, .ref (A 173)), (2, .int (Int32.ofInt c))]) (show cdA 12 100 = some (.istore_n 1, 1, 0, 0, 0) from rfl) (by decide) (fun _ h => h) ?_
            refine z_inc X (x := c) (lv' := [(2, .int (Int32.ofInt (c + 1))), (1, .int (Int32.ofInt e1012)), (3, .int (Int32.ofInt e1004)), (0, .ref (A 173))]) (show cdA 12 101 = some (.iinc 2 1, 3, 0, 0, 0) from rfl) (by decide) (List.Mem.tail _ (List.Mem.tail _ (List.Mem.tail _ (List.Mem.head _)))) (fun _ h => h) ?_
            refine z_goto X (t := 48) (show cdA 12 104 = some (.goto (-56), 3, 0, 0, 0) from rfl) (by decide) ?_
            refine WS_lv (lv := [(0, .ref (A 173)), (1, .int (Int32.ofInt e1012)), (2, .int (Int32.ofInt (c + 1)))]) (List.forall_mem_cons.mpr ⟨(List.Mem.tail _ (List.Mem.tail _ (List.Mem.tail _ (List.Mem.head _)))), (List.forall_mem_cons.mpr ⟨(List.Mem.tail _ (List.Mem.head _)), (List.forall_mem_cons.mpr ⟨(List.Mem.head _), (fun q h => absurd h List.not_mem_nil)⟩)⟩)⟩) ?_
            exact ih _ e1012 (c + 1) Is1011 Gs1011 (by first | exact ⟨hps1011, oq_54f49eb5 hi.2.1, oq_d524a3cb g1001⟩ | omega) (by first | exact qk_me hm (by decide) (oq_ad009edd g1001) | omega) kx
  refine z_aload_n X (x := A 173) (show cdA 12 0 = some (.aload_n 0, 1, 0, 0, 0) from rfl) (List.Mem.head _) ?_
  refine z_callV X 173 (rm := rmN 14) (As := []) (st := []) (show cdA 12 1 = some (.invokevirtual 38, 3, 14, 0, 0) from rfl) rfl (by decide) rfl (by rw [E.1, E.2.1, E.2.2.1]; exact c1_anyRow_173 G I ) ⟨by rw [E.2.2.2]; exact (show (rmN 14).frames + 1 ≤ (rmN 12).frames by decide), by rw [E.2.2.2]; exact (show 8 + (mNL (miB 14) + 11) + (rmN 14).locals ≤ (rmN 12).locals by decide), by rw [E.2.2.2]; exact (show 0 + (rmN 14).cells ≤ (rmN 12).cells by decide), by rw [E.2.2.2]; exact (show 0 + (rmN 14).slots ≤ (rmN 12).slots by decide)⟩ (Nat.le_of_ble_eq_true rfl) (fun vv s1 hq => ?_) (fun ee s1 hq => ?_)
  rotate_left
  · obtain ⟨Is1, Fs1, e2, hv, hrs1, hps1⟩ := hq; cases hv
  obtain ⟨Is1, Fs1, e2, hv, hrs1, hps1⟩ := hq
  cases hv
  have Gs1 := fm_ts F Fs1 (by decide) (by decide)
  show WS k 4 [(0, .ref (A 173))] [.int (Int32.ofInt e2)] (Wd A dT s1) 0 0
  refine z_if_ne X (t := 9) (show cdA 12 4 = some (.ifCond .ne 5, 3, 1, 0, 0) from rfl) (by decide) hrs1 (fun g3 => ?_) (fun g3 => ?_)
  ·
    refine z_aload_n X (x := A 173) (show cdA 12 9 = some (.aload_n 0, 1, 0, 0, 0) from rfl) (List.Mem.head _) ?_
    refine z_getI X 173 (show cdA 12 10 = some (.getfield 42, 3, 1, 4, 0) from rfl) (by decide) rfl rfl ?_
    have b4 : ((-2147483648) : Int) ≤ iI s1 71 ∧ iI s1 71 ≤ 2147483647 := Is1.1 71
    refine z_aload_n X (x := A 173) (show cdA 12 13 = some (.aload_n 0, 1, 0, 0, 0) from rfl) (List.Mem.head _) ?_
    refine z_getI X 173 (show cdA 12 14 = some (.getfield 28, 3, 1, 3, 0) from rfl) (by decide) rfl rfl ?_
    have b5 : (0 : Int) ≤ iI s1 70 ∧ iI s1 70 ≤ 40 := Is1.1 70
    refine z_icmp_ne X (t := 22) (show cdA 12 17 = some (.if_icmp .ne 5, 3, 1, 0, 0) from rfl) (by decide) (rng_to _) (rng_to _) (fun g6 => ?_) (fun g6 => ?_)
    ·
      refine z_aload_n X (x := A 173) (show cdA 12 22 = some (.aload_n 0, 1, 0, 0, 0) from rfl) (List.Mem.head _) ?_
      refine z_aload_n X (x := A 173) (show cdA 12 23 = some (.aload_n 0, 1, 0, 0, 0) from rfl) (List.Mem.head _) ?_
      refine z_getI X 173 (show cdA 12 24 = some (.getfield 28, 3, 1, 3, 0) from rfl) (by decide) rfl rfl ?_
      have b7 : (0 : Int) ≤ iI s1 70 ∧ iI s1 70 ≤ 40 := Is1.1 70
      refine s_putI X 173 (show cdA 12 27 = some (.putfield 42, 3, 1, 4, 0) from rfl) (by decide) rfl rfl (by decide) rfl rfl rfl ?_
      obtain ⟨s8, hs8⟩ : ∃ x0, x0 = uI s1 71 (Int32.ofInt (iI s1 70)) := ⟨_, rfl⟩
      rw [← hs8]
      have Is8 : Bd s8 := by rw [hs8]; exact bd_I Is1 (show ((-2147483648) : Int) ≤ (iI s1 70) ∧ (iI s1 70) ≤ 2147483647 by first | exact ⟨oq_fa4e5087 b7.1, oq_227d2cd7 b7.2⟩ | omega) (rng_to _)
      have Fs8 := fm_I (x := Int32.ofInt (iI s1 70)) Gs1 (show 71 ∈ _ by decide)
      rw [← hs8] at Fs8
      have vs8 : iI s8 71 = (iI s1 70) := by rw [hs8]; exact iI_u (rng_to _)
      refine z_aload_n X (x := A 173) (show cdA 12 30 = some (.aload_n 0, 1, 0, 0, 0) from rfl) (List.Mem.head _) ?_
      refine s_getR X 173 (show cdA 12 31 = some (.getfield 25, 3, 1, 6, 0) from rfl) (by decide) rfl rfl ?_
      refine z_const X (show cdA 12 34 = some (.iconst 0, 1, 0, 0, 0) from rfl) ?_
      refine z_callS X (rm := rmN 312) (As := [.ref (A 178), .int (Int32.ofInt 0)]) (st := []) (show cdA 12 35 = some (.invokestatic 45, 3, 312, 1, 0) from rfl) rfl (by rw [E.1, E.2.1, E.2.2.1]; exact j_fill_178 G Is8 (by first | exact ⟨by decide, by decide⟩ | omega)) ⟨by rw [E.2.2.2]; exact (show (rmN 312).frames + 1 ≤ (rmN 12).frames by decide), by rw [E.2.2.2]; exact (show 8 + (mNL (miB 312) + 11) + (rmN 312).locals ≤ (rmN 12).locals by decide), by rw [E.2.2.2]; exact (show 0 + (rmN 312).cells ≤ (rmN 12).cells by decide), by rw [E.2.2.2]; exact (show 0 + (rmN 312).slots ≤ (rmN 12).slots by decide)⟩ (Nat.le_of_ble_eq_true rfl) (fun vv s9 hq => ?_) (fun ee s9 hq => ?_)
      rotate_left
      · obtain ⟨Is9, Fs9, hv, hps9⟩ := hq; cases hv
      obtain ⟨Is9, Fs9, hv, hps9⟩ := hq
      cases hv
      have Gs9 := fm_ts Fs8 Fs9 (by decide) (by decide)
      show WS k 38 [(0, .ref (A 173))] [] (Wd A dT s9) 0 0
      refine z_aload_n X (x := A 173) (show cdA 12 38 = some (.aload_n 0, 1, 0, 0, 0) from rfl) (List.Mem.head _) ?_
      refine z_ldc X (show cdA 12 39 = some (.ldc 53, 2, 0, 0, 2147483647) from rfl) ?_
      refine s_putI X 173 (show cdA 12 41 = some (.putfield 54, 3, 1, 7, 0) from rfl) (by decide) rfl rfl (by decide) rfl rfl rfl ?_
      obtain ⟨s11, hs11⟩ : ∃ x0, x0 = uI s9 72 (Int32.ofInt 2147483647) := ⟨_, rfl⟩
      rw [← hs11]
      have Is11 : Bd s11 := by rw [hs11]; exact bd_I Is9 (show ((-2147483648) : Int) ≤ 2147483647 ∧ 2147483647 ≤ 2147483647 by first | exact ⟨by decide, by decide⟩ | omega) (by decide)
      have Fs11 := fm_I (x := Int32.ofInt 2147483647) Gs9 (show 72 ∈ _ by decide)
      rw [← hs11] at Fs11
      have vs11 : iI s11 72 = 2147483647 := by rw [hs11]; exact iI_u (by decide)
      refine z_const X (show cdA 12 44 = some (.iconst 1, 1, 0, 0, 0) from rfl) ?_
      refine z_store_n X (lv' := [(1, .int (Int32.ofInt 1)), (0, .ref (A 173))]) (show cdA 12 45 = some (.istore_n 1, 1, 0, 0, 0) from rfl) (by decide) (fun _ h => h) ?_
      refine z_const X (show cdA 12 46 = some (.iconst 0, 1, 0, 0, 0) from rfl) ?_
      refine z_store_n X (lv' := [(2, .int (Int32.ofInt 0)), (1, .int (Int32.ofInt 1)), (0, .ref (A 173))]) (show cdA 12 47 = some (.istore_n 2, 1, 0, 0, 0) from rfl) (by decide) (fun _ h => h) ?_
      refine WS_lv (lv := [(0, .ref (A 173)), (1, .int (Int32.ofInt 1)), (2, .int (Int32.ofInt 0))]) (List.forall_mem_cons.mpr ⟨(List.Mem.tail _ (List.Mem.tail _ (List.Mem.head _))), (List.forall_mem_cons.mpr ⟨(List.Mem.tail _ (List.Mem.head _)), (List.forall_mem_cons.mpr ⟨(List.Mem.head _), (fun q h => absurd h List.not_mem_nil)⟩)⟩)⟩) ?_
      refine L48 ((625 - 0 : Int).toNat + 1) s11 1 0 Is11 Fs11 (by first | exact ⟨Or.inr (by decide), by decide, by decide⟩ | omega) (Nat.lt_succ_self _) ?_
      intro s12 x13 x14 Is12 Fs12 hs12
      refine z_const X (show cdA 12 107 = some (.iconst 1, 1, 0, 0, 0) from rfl) ?_
      exact w_iret X.1 q hRt (nar_ret (by first | exact Or.inr (by decide) | omega)) (ax_d X (show cdA 12 108 = some (.ireturn, 1, 0, 0, 0) from rfl)) (Nat.zero_le _) (Nat.zero_le _) ⟨_, rfl, Is12, Fs12, 1, rfl, (by decide), by first | exact Or.inr (by decide) | omega⟩
    ·
      refine z_const X (show cdA 12 20 = some (.iconst 1, 1, 0, 0, 0) from rfl) ?_
      exact w_iret X.1 q hRt (nar_ret (by first | exact Or.inr (by decide) | omega)) (ax_d X (show cdA 12 21 = some (.ireturn, 1, 0, 0, 0) from rfl)) (Nat.zero_le _) (Nat.zero_le _) ⟨_, rfl, Is1, Gs1, 1, rfl, (by decide), by first | exact Or.inr (by decide) | omega⟩
  ·
    refine z_const X (show cdA 12 7 = some (.iconst 0, 1, 0, 0, 0) from rfl) ?_
    exact w_iret X.1 q hRt (nar_ret (by first | exact Or.inl (by decide) | omega)) (ax_d X (show cdA 12 8 = some (.ireturn, 1, 0, 0, 0) from rfl)) (Nat.zero_le _) (Nat.zero_le _) ⟨_, rfl, Is1, Gs1, 0, rfl, (by decide), by first | exact Or.inl (by decide) | omega⟩
set_option maxRecDepth 4000 in
theorem c4_needAt_54 (G : GX l s0 D tys a0 dT) (I : Bd s) {x : Int} (p0 : 0 ≤ x ∧ x ≤ 23) : CT l s0 D A dT 44 (rmN 44) [.ref (A 54), .int (Int32.ofInt x)] s (fun o t => Bd t ∧ Fm [] [] s t ∧ ∃ e, o = .inl (some (.int (Int32.ofInt e))) ∧ rng e ∧ (True)) := by
  refine ct_ofX G (by decide) (Nat.le_of_ble_eq_true rfl) (fun k X E ET hRt hXt q => ?_)
  show WS k 0 [(0, .ref (A 54)), (1, .int (Int32.ofInt x))] [] _ 0 0
  have F : Fm [] [] s s := fm_rf _ _ s
  refine z_aload_n X (x := A 54) (show cdA 44 0 = some (.aload_n 0, 1, 0, 0, 0) from rfl) (List.Mem.head _) ?_
  refine s_getR X 54 (show cdA 44 1 = some (.getfield 19, 3, 4, 7, 0) from rfl) (by decide) rfl rfl ?_
  refine z_aload_n X (x := A 54) (show cdA 44 4 = some (.aload_n 0, 1, 0, 0, 0) from rfl) (List.Mem.head _) ?_
  refine s_getR X 54 (show cdA 44 5 = some (.getfield 32, 3, 4, 11, 0) from rfl) (by decide) rfl rfl ?_
  refine z_load_n X (x := x) (show cdA 44 8 = some (.iload_n 1, 1, 0, 0, 0) from rfl) (List.Mem.tail _ (List.Mem.head _)) ?_
  refine z_ald X 60 (show cdA 44 9 = some (.iaload, 1, 0, 0, 0) from rfl) (by decide) rfl (by first | exact p0.1 | omega) (show x < 24 by first | exact oq_7fdb8aa6 p0.2 | omega) (by decide) ?_
  have b1 : (0 : Int) ≤ iC s 51 (x).toNat ∧ iC s 51 (x).toNat ≤ 5 := I.2 51 _ (show (x).toNat < 24 by first | exact oq_138251d6 p0.2 | omega)
  refine z_ald X 56 (show cdA 44 10 = some (.iaload, 1, 0, 0, 0) from rfl) (by decide) rfl (by first | exact b1.1 | omega) (show (iC s 51 (x).toNat) < 6 by first | exact oq_9207f8f8 b1.2 | omega) (by decide) ?_
  have b2 : ((-2147483648) : Int) ≤ iC s 47 ((iC s 51 (x).toNat)).toNat ∧ iC s 47 ((iC s 51 (x).toNat)).toNat ≤ 2147483647 := I.2 47 _ (show ((iC s 51 (x).toNat)).toNat < 6 by first | exact oq_78f9cd89 b1.2 | omega)
  exact w_iret X.1 q hRt rfl (ax_d X (show cdA 44 11 = some (.ireturn, 1, 0, 0, 0) from rfl)) (Nat.zero_le _) (Nat.zero_le _) ⟨_, rfl, I, F, (iC s 47 ((iC s 51 (x).toNat)).toNat), rfl, (rng_to _), trivial⟩
set_option maxRecDepth 4000 in
theorem c4_add_54 (G : GX l s0 D tys a0 dT) (I : Bd s) {x : Int} (p0 : 0 ≤ x ∧ x ≤ 16777215) : CT l s0 D A dT 43 (rmN 43) [.ref (A 54), .int (Int32.ofInt x)] s (fun o t => Bd t ∧ Fm [32] [46] s t ∧ ∃ e, o = .inl (some (.int (Int32.ofInt e))) ∧ rng e ∧ ((iI s 32 ≤ 5 ∧ iI t 32 = iI s 32 + 1 ∧ e = iI s 32) ∨ (iI s 32 = 6 ∧ iI t 32 = 6 ∧ e = -1))) := by
  refine ct_ofX G (by decide) (Nat.le_of_ble_eq_true rfl) (fun k X E ET hRt hXt q => ?_)
  show WS k 0 [(0, .ref (A 54)), (1, .int (Int32.ofInt x))] [] _ 0 0
  have F : Fm [32] [46] s s := fm_rf _ _ s
  have b1 : (0 : Int) ≤ iI s 32 ∧ iI s 32 ≤ 6 := I.1 32
  refine z_aload_n X (x := A 54) (show cdA 43 0 = some (.aload_n 0, 1, 0, 0, 0) from rfl) (List.Mem.head _) ?_
  refine z_getI X 54 (show cdA 43 1 = some (.getfield 51, 3, 4, 5, 0) from rfl) (by decide) rfl rfl ?_
  have b2 : (0 : Int) ≤ iI s 32 ∧ iI s 32 ≤ 6 := I.1 32
  refine z_bipush X (show cdA 43 4 = some (.bipush 6, 2, 0, 0, 6) from rfl) ?_
  refine z_icmp_lt X (t := 11) (show cdA 43 6 = some (.if_icmp .lt 5, 3, 2, 0, 0) from rfl) (by decide) (rng_to _) (by decide) (fun g3 => ?_) (fun g3 => ?_)
  ·
    refine z_aload_n X (x := A 54) (show cdA 43 11 = some (.aload_n 0, 1, 0, 0, 0) from rfl) (List.Mem.head _) ?_
    refine s_getR X 54 (show cdA 43 12 = some (.getfield 11, 3, 4, 4, 0) from rfl) (by decide) rfl rfl ?_
    refine z_aload_n X (x := A 54) (show cdA 43 15 = some (.aload_n 0, 1, 0, 0, 0) from rfl) (List.Mem.head _) ?_
    refine z_getI X 54 (show cdA 43 16 = some (.getfield 51, 3, 4, 5, 0) from rfl) (by decide) rfl rfl ?_
    have b4 : (0 : Int) ≤ iI s 32 ∧ iI s 32 ≤ 6 := I.1 32
    refine z_load_n X (x := x) (show cdA 43 19 = some (.iload_n 1, 1, 0, 0, 0) from rfl) (List.Mem.tail _ (List.Mem.head _)) ?_
    refine z_ast X 55 (show cdA 43 20 = some (.iastore, 1, 0, 0, 0) from rfl) (by decide) rfl (by first | exact b4.1 | omega) (show (iI s 32) < 6 by first | exact g3 | omega) (by decide) ?_
    obtain ⟨s5, hs5⟩ : ∃ x0, x0 = uC s 46 ((iI s 32)).toNat (Int32.ofInt x) := ⟨_, rfl⟩
    rw [← hs5]
    have Is5 : Bd s5 := by rw [hs5]; exact bd_C I (show (0 : Int) ≤ x ∧ x ≤ 16777215 by first | exact ⟨p0.1, p0.2⟩ | omega) ⟨by first | exact oq_fa4e5087 p0.1 | omega, by first | exact oq_996e9f4e p0.2 | omega⟩
    have Fs5 := fm_C (i := ((iI s 32)).toNat) (x := Int32.ofInt x) F (show 46 ∈ _ by decide)
    rw [← hs5] at Fs5
    have ws5_32 : iI s5 32 = iI s 32 := by rw [hs5]; rfl
    refine z_aload_n X (x := A 54) (show cdA 43 21 = some (.aload_n 0, 1, 0, 0, 0) from rfl) (List.Mem.head _) ?_
    refine w_dup X.1 (ax_d X (show cdA 43 22 = some (.dup, 1, 0, 0, 0) from rfl)) rfl ?_
    refine z_getI X 54 (show cdA 43 23 = some (.getfield 51, 3, 4, 5, 0) from rfl) (by decide) rfl rfl ?_
    have b6 : (0 : Int) ≤ iI s5 32 ∧ iI s5 32 ≤ 6 := Is5.1 32
    refine z_const X (show cdA 43 26 = some (.iconst 1, 1, 0, 0, 0) from rfl) ?_
    refine z_add X (show cdA 43 27 = some (.iadd, 1, 0, 0, 0) from rfl) ?_
    refine s_putI X 54 (show cdA 43 28 = some (.putfield 51, 3, 4, 5, 0) from rfl) (by decide) rfl rfl (by decide) rfl rfl rfl ?_
    obtain ⟨s7, hs7⟩ : ∃ x0, x0 = uI s5 32 (Int32.ofInt ((iI s5 32) + 1)) := ⟨_, rfl⟩
    rw [← hs7]
    have Is7 : Bd s7 := by rw [hs7]; exact bd_I Is5 (show (0 : Int) ≤ ((iI s5 32) + 1) ∧ ((iI s5 32) + 1) ≤ 6 by first | exact ⟨oq_54f49eb5 b6.1, oq_d8f0483d ws5_32 g3⟩ | omega) ⟨by first | exact oq_74de1e16 b6.1 | omega, by first | exact oq_5fe14c36 b6.2 | omega⟩
    have Fs7 := fm_I (x := Int32.ofInt ((iI s5 32) + 1)) Fs5 (show 32 ∈ _ by decide)
    rw [← hs7] at Fs7
    have vs7 : iI s7 32 = ((iI s5 32) + 1) := by rw [hs7]; exact iI_u ⟨by first | exact oq_74de1e16 b6.1 | omega, by first | exact oq_5fe14c36 b6.2 | omega⟩
    refine z_aload_n X (x := A 54) (show cdA 43 31 = some (.aload_n 0, 1, 0, 0, 0) from rfl) (List.Mem.head _) ?_
    refine z_getI X 54 (show cdA 43 32 = some (.getfield 51, 3, 4, 5, 0) from rfl) (by decide) rfl rfl ?_
    have b8 : (0 : Int) ≤ iI s7 32 ∧ iI s7 32 ≤ 6 := Is7.1 32
    refine z_const X (show cdA 43 35 = some (.iconst 1, 1, 0, 0, 0) from rfl) ?_
    refine z_sub X (show cdA 43 36 = some (.isub, 1, 0, 0, 0) from rfl) ?_
    exact w_iret X.1 q hRt rfl (ax_d X (show cdA 43 37 = some (.ireturn, 1, 0, 0, 0) from rfl)) (Nat.zero_le _) (Nat.zero_le _) ⟨_, rfl, Is7, Fs7, ((iI s7 32) - 1), rfl, ⟨by first | exact oq_c1e961c7 b8.1 | omega, by first | exact oq_b383b26c b8.2 | omega⟩, by first | exact Or.inl (And.intro (oq_a4cef127 g3) (And.intro (oq_665cd23d vs7 ws5_32) (oq_5e19d6ec vs7 ws5_32))) | omega⟩
  ·
    refine z_const X (show cdA 43 9 = some (.iconst (-1), 1, 0, 0, 0) from rfl) ?_
    exact w_iret X.1 q hRt rfl (ax_d X (show cdA 43 10 = some (.ireturn, 1, 0, 0, 0) from rfl)) (Nat.zero_le _) (Nat.zero_le _) ⟨_, rfl, I, F, (-1), rfl, (by decide), by first | exact Or.inr (And.intro (oq_0dbc568f b2.2 g3) (And.intro (oq_0dbc568f b2.2 g3) (by decide))) | omega⟩
set_option maxRecDepth 4000 in
theorem c6_setWork_61 (G : GX l s0 D tys a0 dT) (I : Bd s) {x : Int} (p0 : 1 ≤ x ∧ x ≤ 24) : CT l s0 D A dT 60 (rmN 60) [.ref (A 61), .int (Int32.ofInt x)] s (fun o t => Bd t ∧ Fm [36] [] s t ∧ ∃ e, o = .inl (some (.int (Int32.ofInt e))) ∧ rng e ∧ (e = iI s 36 ∧ iI t 36 = x)) := by
  refine ct_ofX G (by decide) (Nat.le_of_ble_eq_true rfl) (fun k X E ET hRt hXt q => ?_)
  show WS k 0 [(0, .ref (A 61)), (1, .int (Int32.ofInt x))] [] _ 0 0
  have F : Fm [36] [] s s := fm_rf _ _ s
  have b1 : (1 : Int) ≤ iI s 36 ∧ iI s 36 ≤ 24 := I.1 36
  refine z_aload_n X (x := A 61) (show cdA 60 0 = some (.aload_n 0, 1, 0, 0, 0) from rfl) (List.Mem.head _) ?_
  refine z_getI X 61 (show cdA 60 1 = some (.getfield 9, 3, 6, 1, 0) from rfl) (by decide) rfl rfl ?_
  have b2 : (1 : Int) ≤ iI s 36 ∧ iI s 36 ≤ 24 := I.1 36
  refine z_store_n X (lv' := [(2, .int (Int32.ofInt (iI s 36))), (0, .ref (A 61)), (1, .int (Int32.ofInt x))]) (show cdA 60 4 = some (.istore_n 2, 1, 0, 0, 0) from rfl) (by decide) (fun _ h => h) ?_
  refine z_aload_n X (x := A 61) (show cdA 60 5 = some (.aload_n 0, 1, 0, 0, 0) from rfl) (List.Mem.tail _ (List.Mem.head _)) ?_
  refine z_load_n X (x := x) (show cdA 60 6 = some (.iload_n 1, 1, 0, 0, 0) from rfl) (List.Mem.tail _ (List.Mem.tail _ (List.Mem.head _))) ?_
  refine s_putI X 61 (show cdA 60 7 = some (.putfield 9, 3, 6, 1, 0) from rfl) (by decide) rfl rfl (by decide) rfl rfl rfl ?_
  obtain ⟨s3, hs3⟩ : ∃ x0, x0 = uI s 36 (Int32.ofInt x) := ⟨_, rfl⟩
  rw [← hs3]
  have Is3 : Bd s3 := by rw [hs3]; exact bd_I I (show (1 : Int) ≤ x ∧ x ≤ 24 by first | exact ⟨p0.1, p0.2⟩ | omega) ⟨by first | exact oq_9462313e p0.1 | omega, by first | exact oq_5bcd337f p0.2 | omega⟩
  have Fs3 := fm_I (x := Int32.ofInt x) F (show 36 ∈ _ by decide)
  rw [← hs3] at Fs3
  have vs3 : iI s3 36 = x := by rw [hs3]; exact iI_u ⟨by first | exact oq_9462313e p0.1 | omega, by first | exact oq_5bcd337f p0.2 | omega⟩
  refine z_load_n X (x := (iI s 36)) (show cdA 60 10 = some (.iload_n 2, 1, 0, 0, 0) from rfl) (List.Mem.head _) ?_
  exact w_iret X.1 q hRt rfl (ax_d X (show cdA 60 11 = some (.ireturn, 1, 0, 0, 0) from rfl)) (Nat.zero_le _) (Nat.zero_le _) ⟨_, rfl, Is3, Fs3, (iI s 36), rfl, (rng_to _), by first | exact ⟨by decide, vs3⟩ | omega⟩
set_option maxRecDepth 4000 in
theorem c6_setRest_61 (G : GX l s0 D tys a0 dT) (I : Bd s) {x : Int} (p0 : 1 ≤ x ∧ x ≤ 8) : CT l s0 D A dT 61 (rmN 61) [.ref (A 61), .int (Int32.ofInt x)] s (fun o t => Bd t ∧ Fm [37] [] s t ∧ ∃ e, o = .inl (some (.int (Int32.ofInt e))) ∧ rng e ∧ (e = iI s 37 ∧ iI t 37 = x)) := by
  refine ct_ofX G (by decide) (Nat.le_of_ble_eq_true rfl) (fun k X E ET hRt hXt q => ?_)
  show WS k 0 [(0, .ref (A 61)), (1, .int (Int32.ofInt x))] [] _ 0 0
  have F : Fm [37] [] s s := fm_rf _ _ s
  have b1 : (1 : Int) ≤ iI s 37 ∧ iI s 37 ≤ 8 := I.1 37
  refine z_aload_n X (x := A 61) (show cdA 61 0 = some (.aload_n 0, 1, 0, 0, 0) from rfl) (List.Mem.head _) ?_
  refine z_getI X 61 (show cdA 61 1 = some (.getfield 15, 3, 6, 2, 0) from rfl) (by decide) rfl rfl ?_
  have b2 : (1 : Int) ≤ iI s 37 ∧ iI s 37 ≤ 8 := I.1 37
  refine z_store_n X (lv' := [(2, .int (Int32.ofInt (iI s 37))), (0, .ref (A 61)), (1, .int (Int32.ofInt x))]) (show cdA 61 4 = some (.istore_n 2, 1, 0, 0, 0) from rfl) (by decide) (fun _ h => h) ?_
  refine z_aload_n X (x := A 61) (show cdA 61 5 = some (.aload_n 0, 1, 0, 0, 0) from rfl) (List.Mem.tail _ (List.Mem.head _)) ?_
  refine z_load_n X (x := x) (show cdA 61 6 = some (.iload_n 1, 1, 0, 0, 0) from rfl) (List.Mem.tail _ (List.Mem.tail _ (List.Mem.head _))) ?_
  refine s_putI X 61 (show cdA 61 7 = some (.putfield 15, 3, 6, 2, 0) from rfl) (by decide) rfl rfl (by decide) rfl rfl rfl ?_
  obtain ⟨s3, hs3⟩ : ∃ x0, x0 = uI s 37 (Int32.ofInt x) := ⟨_, rfl⟩
  rw [← hs3]
  have Is3 : Bd s3 := by rw [hs3]; exact bd_I I (show (1 : Int) ≤ x ∧ x ≤ 8 by first | exact ⟨p0.1, p0.2⟩ | omega) ⟨by first | exact oq_9462313e p0.1 | omega, by first | exact oq_d3f5d874 p0.2 | omega⟩
  have Fs3 := fm_I (x := Int32.ofInt x) F (show 37 ∈ _ by decide)
  rw [← hs3] at Fs3
  have vs3 : iI s3 37 = x := by rw [hs3]; exact iI_u ⟨by first | exact oq_9462313e p0.1 | omega, by first | exact oq_d3f5d874 p0.2 | omega⟩
  refine z_load_n X (x := (iI s 37)) (show cdA 61 10 = some (.iload_n 2, 1, 0, 0, 0) from rfl) (List.Mem.head _) ?_
  exact w_iret X.1 q hRt rfl (ax_d X (show cdA 61 11 = some (.ireturn, 1, 0, 0, 0) from rfl)) (Nat.zero_le _) (Nat.zero_le _) ⟨_, rfl, Is3, Fs3, (iI s 37), rfl, (rng_to _), by first | exact ⟨by decide, vs3⟩ | omega⟩
set_option maxRecDepth 4000 in
theorem c6_mayGoOn_61 (G : GX l s0 D tys a0 dT) (I : Bd s) {x y : Int} (p0 : 1 ≤ x ∧ x ≤ 8) (p1 : 0 ≤ y ∧ y ≤ 23) : CT l s0 D A dT 63 (rmN 63) [.ref (A 61), .int (Int32.ofInt x), .int (Int32.ofInt y)] s (fun o t => Bd t ∧ Fm [] [] s t ∧ ∃ e, o = .inl (some (.int (Int32.ofInt e))) ∧ rng e ∧ (True)) := by
  refine ct_ofX G (by decide) (Nat.le_of_ble_eq_true rfl) (fun k X E ET hRt hXt q => ?_)
  show WS k 0 [(0, .ref (A 61)), (1, .int (Int32.ofInt x)), (2, .int (Int32.ofInt y))] [] _ 0 0
  have F : Fm [] [] s s := fm_rf _ _ s
  have L5 : ∀ (n : Nat) (t : PS) (xv yv bi p : Int), Bd t → Fm [] [] s t → ((1 ≤ xv ∧ xv ≤ 8) ∧ (0 ≤ yv ∧ yv ≤ 23) ∧ rng bi ∧ 0 ≤ p ∧ p ≤ 8) → (8 - p : Int).toNat < n → (∀ (t' : PS) (bi' p' : Int), Bd t' → Fm [] [] s t' → ((1 ≤ xv ∧ xv ≤ 8) ∧ (0 ≤ yv ∧ yv ≤ 23) ∧ rng bi' ∧ 0 ≤ p' ∧ p' ≤ 8) → WS k 59 [(0, .ref (A 61)), (1, .int (Int32.ofInt xv)), (2, .int (Int32.ofInt yv)), (3, .int (Int32.ofInt bi')), (4, .int (Int32.ofInt p'))] [] (Wd A dT t') 0 0) → WS k 5 [(0, .ref (A 61)), (1, .int (Int32.ofInt xv)), (2, .int (Int32.ofInt yv)), (3, .int (Int32.ofInt bi)), (4, .int (Int32.ofInt p))] [] (Wd A dT t) 0 0 := by
    intro n
    induction n with
    | zero =>
      intro t xv yv bi p I F hi hm kx
      exact absurd hm (Nat.not_lt_zero _)
    | succ n ih =>
      intro t xv yv bi p I F hi hm kx
      refine z_load X (x := p) (show cdA 63 5 = some (.iload 4, 2, 0, 0, 0) from rfl) (List.Mem.tail _ (List.Mem.tail _ (List.Mem.tail _ (List.Mem.tail _ (List.Mem.head _))))) ?_
      refine z_load_n X (x := xv) (show cdA 63 7 = some (.iload_n 1, 1, 0, 0, 0) from rfl) (List.Mem.tail _ (List.Mem.head _)) ?_
      refine z_icmp_ge X (t := 59) (show cdA 63 8 = some (.if_icmp .ge 51, 3, 3, 0, 0) from rfl) (by decide) ⟨by first | exact oq_fa4e5087 hi.2.2.2.1 | omega, by first | exact oq_d3f5d874 hi.2.2.2.2 | omega⟩ ⟨by first | exact oq_9462313e hi.1.1 | omega, by first | exact oq_d3f5d874 hi.1.2 | omega⟩ (fun g1001 => ?_) (fun g1001 => ?_)
      ·
        refine WS_lv (lv := [(0, .ref (A 61)), (1, .int (Int32.ofInt xv)), (2, .int (Int32.ofInt yv)), (3, .int (Int32.ofInt bi)), (4, .int (Int32.ofInt p))]) (List.forall_mem_cons.mpr ⟨(List.Mem.head _), (List.forall_mem_cons.mpr ⟨(List.Mem.tail _ (List.Mem.head _)), (List.forall_mem_cons.mpr ⟨(List.Mem.tail _ (List.Mem.tail _ (List.Mem.head _))), (List.forall_mem_cons.mpr ⟨(List.Mem.tail _ (List.Mem.tail _ (List.Mem.tail _ (List.Mem.head _)))), (List.forall_mem_cons.mpr ⟨(List.Mem.tail _ (List.Mem.tail _ (List.Mem.tail _ (List.Mem.tail _ (List.Mem.head _))))), (fun q h => absurd h List.not_mem_nil)⟩)⟩)⟩)⟩)⟩) ?_
        exact kx _ bi p I F (by first | exact ⟨And.intro (hi.1.1) (hi.1.2), And.intro (hi.2.1.1) (hi.2.1.2), And.intro (hi.2.2.1.1) (hi.2.2.1.2), hi.2.2.2.1, hi.2.2.2.2⟩ | omega)
      ·
        refine z_aload_n X (x := A 61) (show cdA 63 11 = some (.aload_n 0, 1, 0, 0, 0) from rfl) (List.Mem.head _) ?_
        refine s_getR X 61 (show cdA 63 12 = some (.getfield 22, 3, 6, 4, 0) from rfl) (by decide) rfl rfl ?_
        refine z_load X (x := p) (show cdA 63 15 = some (.iload 4, 2, 0, 0, 0) from rfl) (List.Mem.tail _ (List.Mem.tail _ (List.Mem.tail _ (List.Mem.tail _ (List.Mem.head _))))) ?_
        refine z_ald X 63 (show cdA 63 17 = some (.iaload, 1, 0, 0, 0) from rfl) (by decide) rfl (by first | exact hi.2.2.2.1 | omega) (show p < 8 by first | exact oq_7f5b2e79 g1001 hi.1.2 | omega) (by decide) ?_
        have b1002 : ((-2147483648) : Int) ≤ iC t 53 (p).toNat ∧ iC t 53 (p).toNat ≤ 2147483647 := I.2 53 _ (show (p).toNat < 8 by first | exact oq_67be0351 g1001 hi.1.2 | omega)
        refine z_if_le X (t := 53) (show cdA 63 18 = some (.ifCond .le 35, 3, 5, 0, 0) from rfl) (by decide) (rng_to _) (fun g1003 => ?_) (fun g1003 => ?_)
        ·
          refine z_inc X (x := p) (lv' := [(4, .int (Int32.ofInt (p + 1))), (0, .ref (A 61)), (1, .int (Int32.ofInt xv)), (2, .int (Int32.ofInt yv)), (3, .int (Int32.ofInt bi))]) (show cdA 63 53 = some (.iinc 4 1, 3, 0, 0, 0) from rfl) (by decide) (List.Mem.tail _ (List.Mem.tail _ (List.Mem.tail _ (List.Mem.tail _ (List.Mem.head _))))) (fun _ h => h) ?_
          refine z_goto X (t := 5) (show cdA 63 56 = some (.goto (-51), 3, 0, 0, 0) from rfl) (by decide) ?_
          refine WS_lv (lv := [(0, .ref (A 61)), (1, .int (Int32.ofInt xv)), (2, .int (Int32.ofInt yv)), (3, .int (Int32.ofInt bi)), (4, .int (Int32.ofInt (p + 1)))]) (List.forall_mem_cons.mpr ⟨(List.Mem.tail _ (List.Mem.head _)), (List.forall_mem_cons.mpr ⟨(List.Mem.tail _ (List.Mem.tail _ (List.Mem.head _))), (List.forall_mem_cons.mpr ⟨(List.Mem.tail _ (List.Mem.tail _ (List.Mem.tail _ (List.Mem.head _)))), (List.forall_mem_cons.mpr ⟨(List.Mem.tail _ (List.Mem.tail _ (List.Mem.tail _ (List.Mem.tail _ (List.Mem.head _))))), (List.forall_mem_cons.mpr ⟨(List.Mem.head _), (fun q h => absurd h List.not_mem_nil)⟩)⟩)⟩)⟩)⟩) ?_
          exact ih _ xv yv bi (p + 1) I F (by first | exact ⟨And.intro (hi.1.1) (hi.1.2), And.intro (hi.2.1.1) (hi.2.1.2), And.intro (hi.2.2.1.1) (hi.2.2.1.2), oq_54f49eb5 hi.2.2.2.1, oq_f6204d84 g1001 hi.1.2⟩ | omega) (by first | exact qk_me hm (by decide) (oq_ccc5e5e0 g1001 hi.1.2) | omega) kx
        ·
          refine z_aload_n X (x := A 61) (show cdA 63 21 = some (.aload_n 0, 1, 0, 0, 0) from rfl) (List.Mem.head _) ?_
          refine s_getR X 61 (show cdA 63 22 = some (.getfield 22, 3, 6, 4, 0) from rfl) (by decide) rfl rfl ?_
          refine z_load X (x := p) (show cdA 63 25 = some (.iload 4, 2, 0, 0, 0) from rfl) (List.Mem.tail _ (List.Mem.tail _ (List.Mem.tail _ (List.Mem.tail _ (List.Mem.head _))))) ?_
          refine z_ald X 63 (show cdA 63 27 = some (.iaload, 1, 0, 0, 0) from rfl) (by decide) rfl (by first | exact hi.2.2.2.1 | omega) (show p < 8 by first | exact oq_7f5b2e79 g1001 hi.1.2 | omega) (by decide) ?_
          have b1004 : ((-2147483648) : Int) ≤ iC t 53 (p).toNat ∧ iC t 53 (p).toNat ≤ 2147483647 := I.2 53 _ (show (p).toNat < 8 by first | exact oq_67be0351 g1001 hi.1.2 | omega)
          refine z_aload_n X (x := A 61) (show cdA 63 28 = some (.aload_n 0, 1, 0, 0, 0) from rfl) (List.Mem.head _) ?_
          refine z_getI X 61 (show cdA 63 29 = some (.getfield 9, 3, 6, 1, 0) from rfl) (by decide) rfl rfl ?_
          have b1005 : (1 : Int) ≤ iI t 36 ∧ iI t 36 ≤ 24 := I.1 36
          refine z_icmp_ge X (t := 53) (show cdA 63 32 = some (.if_icmp .ge 21, 3, 3, 0, 0) from rfl) (by decide) (rng_to _) (rng_to _) (fun g1006 => ?_) (fun g1006 => ?_)
          ·
            refine z_inc X (x := p) (lv' := [(4, .int (Int32.ofInt (p + 1))), (0, .ref (A 61)), (1, .int (Int32.ofInt xv)), (2, .int (Int32.ofInt yv)), (3, .int (Int32.ofInt bi))]) (show cdA 63 53 = some (.iinc 4 1, 3, 0, 0, 0) from rfl) (by decide) (List.Mem.tail _ (List.Mem.tail _ (List.Mem.tail _ (List.Mem.tail _ (List.Mem.head _))))) (fun _ h => h) ?_
            refine z_goto X (t := 5) (show cdA 63 56 = some (.goto (-51), 3, 0, 0, 0) from rfl) (by decide) ?_
            refine WS_lv (lv := [(0, .ref (A 61)), (1, .int (Int32.ofInt xv)), (2, .int (Int32.ofInt yv)), (3, .int (Int32.ofInt bi)), (4, .int (Int32.ofInt (p + 1)))]) (List.forall_mem_cons.mpr ⟨(List.Mem.tail _ (List.Mem.head _)), (List.forall_mem_cons.mpr ⟨(List.Mem.tail _ (List.Mem.tail _ (List.Mem.head _))), (List.forall_mem_cons.mpr ⟨(List.Mem.tail _ (List.Mem.tail _ (List.Mem.tail _ (List.Mem.head _)))), (List.forall_mem_cons.mpr ⟨(List.Mem.tail _ (List.Mem.tail _ (List.Mem.tail _ (List.Mem.tail _ (List.Mem.head _))))), (List.forall_mem_cons.mpr ⟨(List.Mem.head _), (fun q h => absurd h List.not_mem_nil)⟩)⟩)⟩)⟩)⟩) ?_
            exact ih _ xv yv bi (p + 1) I F (by first | exact ⟨And.intro (hi.1.1) (hi.1.2), And.intro (hi.2.1.1) (hi.2.1.2), And.intro (hi.2.2.1.1) (hi.2.2.1.2), oq_54f49eb5 hi.2.2.2.1, oq_f6204d84 g1001 hi.1.2⟩ | omega) (by first | exact qk_me hm (by decide) (oq_ccc5e5e0 g1001 hi.1.2) | omega) kx
          ·
            refine z_load_n X (x := yv) (show cdA 63 35 = some (.iload_n 2, 1, 0, 0, 0) from rfl) (List.Mem.tail _ (List.Mem.tail _ (List.Mem.head _))) ?_
            refine z_aload_n X (x := A 61) (show cdA 63 36 = some (.aload_n 0, 1, 0, 0, 0) from rfl) (List.Mem.head _) ?_
            refine s_getR X 61 (show cdA 63 37 = some (.getfield 18, 3, 6, 3, 0) from rfl) (by decide) rfl rfl ?_
            refine z_load X (x := p) (show cdA 63 40 = some (.iload 4, 2, 0, 0, 0) from rfl) (List.Mem.tail _ (List.Mem.tail _ (List.Mem.tail _ (List.Mem.tail _ (List.Mem.head _))))) ?_
            refine z_ald X 62 (show cdA 63 42 = some (.iaload, 1, 0, 0, 0) from rfl) (by decide) rfl (by first | exact hi.2.2.2.1 | omega) (show p < 8 by first | exact oq_7f5b2e79 g1001 hi.1.2 | omega) (by decide) ?_
            have b1007 : (0 : Int) ≤ iC t 52 (p).toNat ∧ iC t 52 (p).toNat ≤ 24 := I.2 52 _ (show (p).toNat < 8 by first | exact oq_67be0351 g1001 hi.1.2 | omega)
            refine z_icmp_ge X (t := 53) (show cdA 63 43 = some (.if_icmp .ge 10, 3, 3, 0, 0) from rfl) (by decide) ⟨by first | exact oq_fa4e5087 hi.2.1.1 | omega, by first | exact oq_1a42ef34 hi.2.1.2 | omega⟩ (rng_to _) (fun g1008 => ?_) (fun g1008 => ?_)
            ·
              refine z_inc X (x := p) (lv' := [(4, .int (Int32.ofInt (p + 1))), (0, .ref (A 61)), (1, .int (Int32.ofInt xv)), (2, .int (Int32.ofInt yv)), (3, .int (Int32.ofInt bi))]) (show cdA 63 53 = some (.iinc 4 1, 3, 0, 0, 0) from rfl) (by decide) (List.Mem.tail _ (List.Mem.tail _ (List.Mem.tail _ (List.Mem.tail _ (List.Mem.head _))))) (fun _ h => h) ?_
              refine z_goto X (t := 5) (show cdA 63 56 = some (.goto (-51), 3, 0, 0, 0) from rfl) (by decide) ?_
              refine WS_lv (lv := [(0, .ref (A 61)), (1, .int (Int32.ofInt xv)), (2, .int (Int32.ofInt yv)), (3, .int (Int32.ofInt bi)), (4, .int (Int32.ofInt (p + 1)))]) (List.forall_mem_cons.mpr ⟨(List.Mem.tail _ (List.Mem.head _)), (List.forall_mem_cons.mpr ⟨(List.Mem.tail _ (List.Mem.tail _ (List.Mem.head _))), (List.forall_mem_cons.mpr ⟨(List.Mem.tail _ (List.Mem.tail _ (List.Mem.tail _ (List.Mem.head _)))), (List.forall_mem_cons.mpr ⟨(List.Mem.tail _ (List.Mem.tail _ (List.Mem.tail _ (List.Mem.tail _ (List.Mem.head _))))), (List.forall_mem_cons.mpr ⟨(List.Mem.head _), (fun q h => absurd h List.not_mem_nil)⟩)⟩)⟩)⟩)⟩) ?_
              exact ih _ xv yv bi (p + 1) I F (by first | exact ⟨And.intro (hi.1.1) (hi.1.2), And.intro (hi.2.1.1) (hi.2.1.2), And.intro (hi.2.2.1.1) (hi.2.2.1.2), oq_54f49eb5 hi.2.2.2.1, oq_f6204d84 g1001 hi.1.2⟩ | omega) (by first | exact qk_me hm (by decide) (oq_ccc5e5e0 g1001 hi.1.2) | omega) kx
            ·
              refine z_load_n X (x := bi) (show cdA 63 46 = some (.iload_n 3, 1, 0, 0, 0) from rfl) (List.Mem.tail _ (List.Mem.tail _ (List.Mem.tail _ (List.Mem.head _)))) ?_
              refine z_const X (show cdA 63 47 = some (.iconst 1, 1, 0, 0, 0) from rfl) ?_
              refine z_load X (x := p) (show cdA 63 48 = some (.iload 4, 2, 0, 0, 0) from rfl) (List.Mem.tail _ (List.Mem.tail _ (List.Mem.tail _ (List.Mem.tail _ (List.Mem.head _))))) ?_
              refine z_bshl X (show cdA 63 50 = some (.ishl, 1, 0, 0, 0) from rfl) ?_
              refine z_any (fun y1009 hy1009 => ?_)
              refine z_bor X (show cdA 63 51 = some (.ior, 1, 0, 0, 0) from rfl) ?_
              refine z_any (fun y1010 hy1010 => ?_)
              refine z_store_n X (lv' := [(3, .int (Int32.ofInt y1010)), (0, .ref (A 61)), (1, .int (Int32.ofInt xv)), (2, .int (Int32.ofInt yv)), (4, .int (Int32.ofInt p))]) (show cdA 63 52 = some (.istore_n 3, 1, 0, 0, 0) from rfl) (by decide) (fun _ h => h) ?_
              refine z_inc X (x := p) (lv' := [(4, .int (Int32.ofInt (p + 1))), (3, .int (Int32.ofInt y1010)), (0, .ref (A 61)), (1, .int (Int32.ofInt xv)), (2, .int (Int32.ofInt yv))]) (show cdA 63 53 = some (.iinc 4 1, 3, 0, 0, 0) from rfl) (by decide) (List.Mem.tail _ (List.Mem.tail _ (List.Mem.tail _ (List.Mem.tail _ (List.Mem.head _))))) (fun _ h => h) ?_
              refine z_goto X (t := 5) (show cdA 63 56 = some (.goto (-51), 3, 0, 0, 0) from rfl) (by decide) ?_
              refine WS_lv (lv := [(0, .ref (A 61)), (1, .int (Int32.ofInt xv)), (2, .int (Int32.ofInt yv)), (3, .int (Int32.ofInt y1010)), (4, .int (Int32.ofInt (p + 1)))]) (List.forall_mem_cons.mpr ⟨(List.Mem.tail _ (List.Mem.tail _ (List.Mem.head _))), (List.forall_mem_cons.mpr ⟨(List.Mem.tail _ (List.Mem.tail _ (List.Mem.tail _ (List.Mem.head _)))), (List.forall_mem_cons.mpr ⟨(List.Mem.tail _ (List.Mem.tail _ (List.Mem.tail _ (List.Mem.tail _ (List.Mem.head _))))), (List.forall_mem_cons.mpr ⟨(List.Mem.tail _ (List.Mem.head _)), (List.forall_mem_cons.mpr ⟨(List.Mem.head _), (fun q h => absurd h List.not_mem_nil)⟩)⟩)⟩)⟩)⟩) ?_
              exact ih _ xv yv y1010 (p + 1) I F (by first | exact ⟨And.intro (hi.1.1) (hi.1.2), And.intro (hi.2.1.1) (hi.2.1.2), And.intro (hy1010.1) (hy1010.2), oq_54f49eb5 hi.2.2.2.1, oq_f6204d84 g1001 hi.1.2⟩ | omega) (by first | exact qk_me hm (by decide) (oq_ccc5e5e0 g1001 hi.1.2) | omega) kx
  refine z_const X (show cdA 63 0 = some (.iconst 0, 1, 0, 0, 0) from rfl) ?_
  refine z_store_n X (lv' := [(3, .int (Int32.ofInt 0)), (0, .ref (A 61)), (1, .int (Int32.ofInt x)), (2, .int (Int32.ofInt y))]) (show cdA 63 1 = some (.istore_n 3, 1, 0, 0, 0) from rfl) (by decide) (fun _ h => h) ?_
  refine z_const X (show cdA 63 2 = some (.iconst 0, 1, 0, 0, 0) from rfl) ?_
  refine z_store X (lv' := [(4, .int (Int32.ofInt 0)), (3, .int (Int32.ofInt 0)), (0, .ref (A 61)), (1, .int (Int32.ofInt x)), (2, .int (Int32.ofInt y))]) (show cdA 63 3 = some (.istore 4, 2, 0, 0, 0) from rfl) (by decide) (fun _ h => h) ?_
  refine WS_lv (lv := [(0, .ref (A 61)), (1, .int (Int32.ofInt x)), (2, .int (Int32.ofInt y)), (3, .int (Int32.ofInt 0)), (4, .int (Int32.ofInt 0))]) (List.forall_mem_cons.mpr ⟨(List.Mem.tail _ (List.Mem.tail _ (List.Mem.head _))), (List.forall_mem_cons.mpr ⟨(List.Mem.tail _ (List.Mem.tail _ (List.Mem.tail _ (List.Mem.head _)))), (List.forall_mem_cons.mpr ⟨(List.Mem.tail _ (List.Mem.tail _ (List.Mem.tail _ (List.Mem.tail _ (List.Mem.head _))))), (List.forall_mem_cons.mpr ⟨(List.Mem.tail _ (List.Mem.head _)), (List.forall_mem_cons.mpr ⟨(List.Mem.head _), (fun q h => absurd h List.not_mem_nil)⟩)⟩)⟩)⟩)⟩) ?_
  refine L5 ((8 - 0 : Int).toNat + 1) s x y 0 0 I F (by first | exact ⟨And.intro (p0.1) (p0.2), And.intro (p1.1) (p1.2), And.intro (by decide) (by decide), by decide, by decide⟩ | omega) (Nat.lt_succ_self _) ?_
  intro s1 x2 x3 Is1 Fs1 hs1
  refine z_load_n X (x := x2) (show cdA 63 59 = some (.iload_n 3, 1, 0, 0, 0) from rfl) (List.Mem.tail _ (List.Mem.tail _ (List.Mem.tail _ (List.Mem.head _)))) ?_
  exact w_iret X.1 q hRt rfl (ax_d X (show cdA 63 60 = some (.ireturn, 1, 0, 0, 0) from rfl)) (Nat.zero_le _) (Nat.zero_le _) ⟨_, rfl, Is1, Fs1, x2, rfl, ⟨by first | exact hs1.2.2.1.1 | omega, by first | exact hs1.2.2.1.2 | omega⟩, trivial⟩
set_option maxRecDepth 4000 in
theorem c6_mayBegin_61 (G : GX l s0 D tys a0 dT) (I : Bd s) {x y : Int} (p0 : 1 ≤ x ∧ x ≤ 8) (p1 : 0 ≤ y ∧ y ≤ 23) : CT l s0 D A dT 64 (rmN 64) [.ref (A 61), .int (Int32.ofInt x), .int (Int32.ofInt y)] s (fun o t => Bd t ∧ Fm [] [] s t ∧ ∃ e, o = .inl (some (.int (Int32.ofInt e))) ∧ rng e ∧ (True)) := by
  refine ct_ofX G (by decide) (Nat.le_of_ble_eq_true rfl) (fun k X E ET hRt hXt q => ?_)
  show WS k 0 [(0, .ref (A 61)), (1, .int (Int32.ofInt x)), (2, .int (Int32.ofInt y))] [] _ 0 0
  have F : Fm [] [] s s := fm_rf _ _ s
  have L5 : ∀ (n : Nat) (t : PS) (xv yv bi p : Int), Bd t → Fm [] [] s t → ((1 ≤ xv ∧ xv ≤ 8) ∧ (0 ≤ yv ∧ yv ≤ 23) ∧ rng bi ∧ 0 ≤ p ∧ p ≤ 8) → (8 - p : Int).toNat < n → (∀ (t' : PS) (bi' p' : Int), Bd t' → Fm [] [] s t' → ((1 ≤ xv ∧ xv ≤ 8) ∧ (0 ≤ yv ∧ yv ≤ 23) ∧ rng bi' ∧ 0 ≤ p' ∧ p' ≤ 8) → WS k 56 [(0, .ref (A 61)), (1, .int (Int32.ofInt xv)), (2, .int (Int32.ofInt yv)), (3, .int (Int32.ofInt bi')), (4, .int (Int32.ofInt p'))] [] (Wd A dT t') 0 0) → WS k 5 [(0, .ref (A 61)), (1, .int (Int32.ofInt xv)), (2, .int (Int32.ofInt yv)), (3, .int (Int32.ofInt bi)), (4, .int (Int32.ofInt p))] [] (Wd A dT t) 0 0 := by
    intro n
    induction n with
    | zero =>
      intro t xv yv bi p I F hi hm kx
      exact absurd hm (Nat.not_lt_zero _)
    | succ n ih =>
      intro t xv yv bi p I F hi hm kx
      refine z_load X (x := p) (show cdA 64 5 = some (.iload 4, 2, 0, 0, 0) from rfl) (List.Mem.tail _ (List.Mem.tail _ (List.Mem.tail _ (List.Mem.tail _ (List.Mem.head _))))) ?_
      refine z_load_n X (x := xv) (show cdA 64 7 = some (.iload_n 1, 1, 0, 0, 0) from rfl) (List.Mem.tail _ (List.Mem.head _)) ?_
      refine z_icmp_ge X (t := 56) (show cdA 64 8 = some (.if_icmp .ge 48, 3, 3, 0, 0) from rfl) (by decide) ⟨by first | exact oq_fa4e5087 hi.2.2.2.1 | omega, by first | exact oq_d3f5d874 hi.2.2.2.2 | omega⟩ ⟨by first | exact oq_9462313e hi.1.1 | omega, by first | exact oq_d3f5d874 hi.1.2 | omega⟩ (fun g1001 => ?_) (fun g1001 => ?_)
      ·
        refine WS_lv (lv := [(0, .ref (A 61)), (1, .int (Int32.ofInt xv)), (2, .int (Int32.ofInt yv)), (3, .int (Int32.ofInt bi)), (4, .int (Int32.ofInt p))]) (List.forall_mem_cons.mpr ⟨(List.Mem.head _), (List.forall_mem_cons.mpr ⟨(List.Mem.tail _ (List.Mem.head _)), (List.forall_mem_cons.mpr ⟨(List.Mem.tail _ (List.Mem.tail _ (List.Mem.head _))), (List.forall_mem_cons.mpr ⟨(List.Mem.tail _ (List.Mem.tail _ (List.Mem.tail _ (List.Mem.head _)))), (List.forall_mem_cons.mpr ⟨(List.Mem.tail _ (List.Mem.tail _ (List.Mem.tail _ (List.Mem.tail _ (List.Mem.head _))))), (fun q h => absurd h List.not_mem_nil)⟩)⟩)⟩)⟩)⟩) ?_
        exact kx _ bi p I F (by first | exact ⟨And.intro (hi.1.1) (hi.1.2), And.intro (hi.2.1.1) (hi.2.1.2), And.intro (hi.2.2.1.1) (hi.2.2.1.2), hi.2.2.2.1, hi.2.2.2.2⟩ | omega)
      ·
        refine z_aload_n X (x := A 61) (show cdA 64 11 = some (.aload_n 0, 1, 0, 0, 0) from rfl) (List.Mem.head _) ?_
        refine s_getR X 61 (show cdA 64 12 = some (.getfield 22, 3, 6, 4, 0) from rfl) (by decide) rfl rfl ?_
        refine z_load X (x := p) (show cdA 64 15 = some (.iload 4, 2, 0, 0, 0) from rfl) (List.Mem.tail _ (List.Mem.tail _ (List.Mem.tail _ (List.Mem.tail _ (List.Mem.head _))))) ?_
        refine z_ald X 63 (show cdA 64 17 = some (.iaload, 1, 0, 0, 0) from rfl) (by decide) rfl (by first | exact hi.2.2.2.1 | omega) (show p < 8 by first | exact oq_7f5b2e79 g1001 hi.1.2 | omega) (by decide) ?_
        have b1002 : ((-2147483648) : Int) ≤ iC t 53 (p).toNat ∧ iC t 53 (p).toNat ≤ 2147483647 := I.2 53 _ (show (p).toNat < 8 by first | exact oq_67be0351 g1001 hi.1.2 | omega)
        refine z_if_ne X (t := 50) (show cdA 64 18 = some (.ifCond .ne 32, 3, 1, 0, 0) from rfl) (by decide) (rng_to _) (fun g1003 => ?_) (fun g1003 => ?_)
        ·
          refine z_inc X (x := p) (lv' := [(4, .int (Int32.ofInt (p + 1))), (0, .ref (A 61)), (1, .int (Int32.ofInt xv)), (2, .int (Int32.ofInt yv)), (3, .int (Int32.ofInt bi))]) (show cdA 64 50 = some (.iinc 4 1, 3, 0, 0, 0) from rfl) (by decide) (List.Mem.tail _ (List.Mem.tail _ (List.Mem.tail _ (List.Mem.tail _ (List.Mem.head _))))) (fun _ h => h) ?_
          refine z_goto X (t := 5) (show cdA 64 53 = some (.goto (-48), 3, 0, 0, 0) from rfl) (by decide) ?_
          refine WS_lv (lv := [(0, .ref (A 61)), (1, .int (Int32.ofInt xv)), (2, .int (Int32.ofInt yv)), (3, .int (Int32.ofInt bi)), (4, .int (Int32.ofInt (p + 1)))]) (List.forall_mem_cons.mpr ⟨(List.Mem.tail _ (List.Mem.head _)), (List.forall_mem_cons.mpr ⟨(List.Mem.tail _ (List.Mem.tail _ (List.Mem.head _))), (List.forall_mem_cons.mpr ⟨(List.Mem.tail _ (List.Mem.tail _ (List.Mem.tail _ (List.Mem.head _)))), (List.forall_mem_cons.mpr ⟨(List.Mem.tail _ (List.Mem.tail _ (List.Mem.tail _ (List.Mem.tail _ (List.Mem.head _))))), (List.forall_mem_cons.mpr ⟨(List.Mem.head _), (fun q h => absurd h List.not_mem_nil)⟩)⟩)⟩)⟩)⟩) ?_
          exact ih _ xv yv bi (p + 1) I F (by first | exact ⟨And.intro (hi.1.1) (hi.1.2), And.intro (hi.2.1.1) (hi.2.1.2), And.intro (hi.2.2.1.1) (hi.2.2.1.2), oq_54f49eb5 hi.2.2.2.1, oq_f6204d84 g1001 hi.1.2⟩ | omega) (by first | exact qk_me hm (by decide) (oq_ccc5e5e0 g1001 hi.1.2) | omega) kx
        ·
          refine z_load_n X (x := yv) (show cdA 64 21 = some (.iload_n 2, 1, 0, 0, 0) from rfl) (List.Mem.tail _ (List.Mem.tail _ (List.Mem.head _))) ?_
          refine z_aload_n X (x := A 61) (show cdA 64 22 = some (.aload_n 0, 1, 0, 0, 0) from rfl) (List.Mem.head _) ?_
          refine s_getR X 61 (show cdA 64 23 = some (.getfield 25, 3, 6, 5, 0) from rfl) (by decide) rfl rfl ?_
          refine z_load X (x := p) (show cdA 64 26 = some (.iload 4, 2, 0, 0, 0) from rfl) (List.Mem.tail _ (List.Mem.tail _ (List.Mem.tail _ (List.Mem.tail _ (List.Mem.head _))))) ?_
          refine z_ald X 64 (show cdA 64 28 = some (.iaload, 1, 0, 0, 0) from rfl) (by decide) rfl (by first | exact hi.2.2.2.1 | omega) (show p < 8 by first | exact oq_7f5b2e79 g1001 hi.1.2 | omega) (by decide) ?_
          have b1004 : ((-2147483648) : Int) ≤ iC t 54 (p).toNat ∧ iC t 54 (p).toNat ≤ 2147483647 := I.2 54 _ (show (p).toNat < 8 by first | exact oq_67be0351 g1001 hi.1.2 | omega)
          refine z_icmp_lt X (t := 50) (show cdA 64 29 = some (.if_icmp .lt 21, 3, 2, 0, 0) from rfl) (by decide) ⟨by first | exact oq_fa4e5087 hi.2.1.1 | omega, by first | exact oq_1a42ef34 hi.2.1.2 | omega⟩ (rng_to _) (fun g1005 => ?_) (fun g1005 => ?_)
          ·
            refine z_inc X (x := p) (lv' := [(4, .int (Int32.ofInt (p + 1))), (0, .ref (A 61)), (1, .int (Int32.ofInt xv)), (2, .int (Int32.ofInt yv)), (3, .int (Int32.ofInt bi))]) (show cdA 64 50 = some (.iinc 4 1, 3, 0, 0, 0) from rfl) (by decide) (List.Mem.tail _ (List.Mem.tail _ (List.Mem.tail _ (List.Mem.tail _ (List.Mem.head _))))) (fun _ h => h) ?_
            refine z_goto X (t := 5) (show cdA 64 53 = some (.goto (-48), 3, 0, 0, 0) from rfl) (by decide) ?_
            refine WS_lv (lv := [(0, .ref (A 61)), (1, .int (Int32.ofInt xv)), (2, .int (Int32.ofInt yv)), (3, .int (Int32.ofInt bi)), (4, .int (Int32.ofInt (p + 1)))]) (List.forall_mem_cons.mpr ⟨(List.Mem.tail _ (List.Mem.head _)), (List.forall_mem_cons.mpr ⟨(List.Mem.tail _ (List.Mem.tail _ (List.Mem.head _))), (List.forall_mem_cons.mpr ⟨(List.Mem.tail _ (List.Mem.tail _ (List.Mem.tail _ (List.Mem.head _)))), (List.forall_mem_cons.mpr ⟨(List.Mem.tail _ (List.Mem.tail _ (List.Mem.tail _ (List.Mem.tail _ (List.Mem.head _))))), (List.forall_mem_cons.mpr ⟨(List.Mem.head _), (fun q h => absurd h List.not_mem_nil)⟩)⟩)⟩)⟩)⟩) ?_
            exact ih _ xv yv bi (p + 1) I F (by first | exact ⟨And.intro (hi.1.1) (hi.1.2), And.intro (hi.2.1.1) (hi.2.1.2), And.intro (hi.2.2.1.1) (hi.2.2.1.2), oq_54f49eb5 hi.2.2.2.1, oq_f6204d84 g1001 hi.1.2⟩ | omega) (by first | exact qk_me hm (by decide) (oq_ccc5e5e0 g1001 hi.1.2) | omega) kx
          ·
            refine z_load_n X (x := yv) (show cdA 64 32 = some (.iload_n 2, 1, 0, 0, 0) from rfl) (List.Mem.tail _ (List.Mem.tail _ (List.Mem.head _))) ?_
            refine z_aload_n X (x := A 61) (show cdA 64 33 = some (.aload_n 0, 1, 0, 0, 0) from rfl) (List.Mem.head _) ?_
            refine s_getR X 61 (show cdA 64 34 = some (.getfield 18, 3, 6, 3, 0) from rfl) (by decide) rfl rfl ?_
            refine z_load X (x := p) (show cdA 64 37 = some (.iload 4, 2, 0, 0, 0) from rfl) (List.Mem.tail _ (List.Mem.tail _ (List.Mem.tail _ (List.Mem.tail _ (List.Mem.head _))))) ?_
            refine z_ald X 62 (show cdA 64 39 = some (.iaload, 1, 0, 0, 0) from rfl) (by decide) rfl (by first | exact hi.2.2.2.1 | omega) (show p < 8 by first | exact oq_7f5b2e79 g1001 hi.1.2 | omega) (by decide) ?_
            have b1006 : (0 : Int) ≤ iC t 52 (p).toNat ∧ iC t 52 (p).toNat ≤ 24 := I.2 52 _ (show (p).toNat < 8 by first | exact oq_67be0351 g1001 hi.1.2 | omega)
            refine z_icmp_ge X (t := 50) (show cdA 64 40 = some (.if_icmp .ge 10, 3, 3, 0, 0) from rfl) (by decide) ⟨by first | exact oq_fa4e5087 hi.2.1.1 | omega, by first | exact oq_1a42ef34 hi.2.1.2 | omega⟩ (rng_to _) (fun g1007 => ?_) (fun g1007 => ?_)
            ·
              refine z_inc X (x := p) (lv' := [(4, .int (Int32.ofInt (p + 1))), (0, .ref (A 61)), (1, .int (Int32.ofInt xv)), (2, .int (Int32.ofInt yv)), (3, .int (Int32.ofInt bi))]) (show cdA 64 50 = some (.iinc 4 1, 3, 0, 0, 0) from rfl) (by decide) (List.Mem.tail _ (List.Mem.tail _ (List.Mem.tail _ (List.Mem.tail _ (List.Mem.head _))))) (fun _ h => h) ?_
              refine z_goto X (t := 5) (show cdA 64 53 = some (.goto (-48), 3, 0, 0, 0) from rfl) (by decide) ?_
              refine WS_lv (lv := [(0, .ref (A 61)), (1, .int (Int32.ofInt xv)), (2, .int (Int32.ofInt yv)), (3, .int (Int32.ofInt bi)), (4, .int (Int32.ofInt (p + 1)))]) (List.forall_mem_cons.mpr ⟨(List.Mem.tail _ (List.Mem.head _)), (List.forall_mem_cons.mpr ⟨(List.Mem.tail _ (List.Mem.tail _ (List.Mem.head _))), (List.forall_mem_cons.mpr ⟨(List.Mem.tail _ (List.Mem.tail _ (List.Mem.tail _ (List.Mem.head _)))), (List.forall_mem_cons.mpr ⟨(List.Mem.tail _ (List.Mem.tail _ (List.Mem.tail _ (List.Mem.tail _ (List.Mem.head _))))), (List.forall_mem_cons.mpr ⟨(List.Mem.head _), (fun q h => absurd h List.not_mem_nil)⟩)⟩)⟩)⟩)⟩) ?_
              exact ih _ xv yv bi (p + 1) I F (by first | exact ⟨And.intro (hi.1.1) (hi.1.2), And.intro (hi.2.1.1) (hi.2.1.2), And.intro (hi.2.2.1.1) (hi.2.2.1.2), oq_54f49eb5 hi.2.2.2.1, oq_f6204d84 g1001 hi.1.2⟩ | omega) (by first | exact qk_me hm (by decide) (oq_ccc5e5e0 g1001 hi.1.2) | omega) kx
            ·
              refine z_load_n X (x := bi) (show cdA 64 43 = some (.iload_n 3, 1, 0, 0, 0) from rfl) (List.Mem.tail _ (List.Mem.tail _ (List.Mem.tail _ (List.Mem.head _)))) ?_
              refine z_const X (show cdA 64 44 = some (.iconst 1, 1, 0, 0, 0) from rfl) ?_
              refine z_load X (x := p) (show cdA 64 45 = some (.iload 4, 2, 0, 0, 0) from rfl) (List.Mem.tail _ (List.Mem.tail _ (List.Mem.tail _ (List.Mem.tail _ (List.Mem.head _))))) ?_
              refine z_bshl X (show cdA 64 47 = some (.ishl, 1, 0, 0, 0) from rfl) ?_
              refine z_any (fun y1008 hy1008 => ?_)
              refine z_bor X (show cdA 64 48 = some (.ior, 1, 0, 0, 0) from rfl) ?_
              refine z_any (fun y1009 hy1009 => ?_)
              refine z_store_n X (lv' := [(3, .int (Int32.ofInt y1009)), (0, .ref (A 61)), (1, .int (Int32.ofInt xv)), (2, .int (Int32.ofInt yv)), (4, .int (Int32.ofInt p))]) (show cdA 64 49 = some (.istore_n 3, 1, 0, 0, 0) from rfl) (by decide) (fun _ h => h) ?_
              refine z_inc X (x := p) (lv' := [(4, .int (Int32.ofInt (p + 1))), (3, .int (Int32.ofInt y1009)), (0, .ref (A 61)), (1, .int (Int32.ofInt xv)), (2, .int (Int32.ofInt yv))]) (show cdA 64 50 = some (.iinc 4 1, 3, 0, 0, 0) from rfl) (by decide) (List.Mem.tail _ (List.Mem.tail _ (List.Mem.tail _ (List.Mem.tail _ (List.Mem.head _))))) (fun _ h => h) ?_
              refine z_goto X (t := 5) (show cdA 64 53 = some (.goto (-48), 3, 0, 0, 0) from rfl) (by decide) ?_
              refine WS_lv (lv := [(0, .ref (A 61)), (1, .int (Int32.ofInt xv)), (2, .int (Int32.ofInt yv)), (3, .int (Int32.ofInt y1009)), (4, .int (Int32.ofInt (p + 1)))]) (List.forall_mem_cons.mpr ⟨(List.Mem.tail _ (List.Mem.tail _ (List.Mem.head _))), (List.forall_mem_cons.mpr ⟨(List.Mem.tail _ (List.Mem.tail _ (List.Mem.tail _ (List.Mem.head _)))), (List.forall_mem_cons.mpr ⟨(List.Mem.tail _ (List.Mem.tail _ (List.Mem.tail _ (List.Mem.tail _ (List.Mem.head _))))), (List.forall_mem_cons.mpr ⟨(List.Mem.tail _ (List.Mem.head _)), (List.forall_mem_cons.mpr ⟨(List.Mem.head _), (fun q h => absurd h List.not_mem_nil)⟩)⟩)⟩)⟩)⟩) ?_
              exact ih _ xv yv y1009 (p + 1) I F (by first | exact ⟨And.intro (hi.1.1) (hi.1.2), And.intro (hi.2.1.1) (hi.2.1.2), And.intro (hy1009.1) (hy1009.2), oq_54f49eb5 hi.2.2.2.1, oq_f6204d84 g1001 hi.1.2⟩ | omega) (by first | exact qk_me hm (by decide) (oq_ccc5e5e0 g1001 hi.1.2) | omega) kx
  refine z_const X (show cdA 64 0 = some (.iconst 0, 1, 0, 0, 0) from rfl) ?_
  refine z_store_n X (lv' := [(3, .int (Int32.ofInt 0)), (0, .ref (A 61)), (1, .int (Int32.ofInt x)), (2, .int (Int32.ofInt y))]) (show cdA 64 1 = some (.istore_n 3, 1, 0, 0, 0) from rfl) (by decide) (fun _ h => h) ?_
  refine z_const X (show cdA 64 2 = some (.iconst 0, 1, 0, 0, 0) from rfl) ?_
  refine z_store X (lv' := [(4, .int (Int32.ofInt 0)), (3, .int (Int32.ofInt 0)), (0, .ref (A 61)), (1, .int (Int32.ofInt x)), (2, .int (Int32.ofInt y))]) (show cdA 64 3 = some (.istore 4, 2, 0, 0, 0) from rfl) (by decide) (fun _ h => h) ?_
  refine WS_lv (lv := [(0, .ref (A 61)), (1, .int (Int32.ofInt x)), (2, .int (Int32.ofInt y)), (3, .int (Int32.ofInt 0)), (4, .int (Int32.ofInt 0))]) (List.forall_mem_cons.mpr ⟨(List.Mem.tail _ (List.Mem.tail _ (List.Mem.head _))), (List.forall_mem_cons.mpr ⟨(List.Mem.tail _ (List.Mem.tail _ (List.Mem.tail _ (List.Mem.head _)))), (List.forall_mem_cons.mpr ⟨(List.Mem.tail _ (List.Mem.tail _ (List.Mem.tail _ (List.Mem.tail _ (List.Mem.head _))))), (List.forall_mem_cons.mpr ⟨(List.Mem.tail _ (List.Mem.head _)), (List.forall_mem_cons.mpr ⟨(List.Mem.head _), (fun q h => absurd h List.not_mem_nil)⟩)⟩)⟩)⟩)⟩) ?_
  refine L5 ((8 - 0 : Int).toNat + 1) s x y 0 0 I F (by first | exact ⟨And.intro (p0.1) (p0.2), And.intro (p1.1) (p1.2), And.intro (by decide) (by decide), by decide, by decide⟩ | omega) (Nat.lt_succ_self _) ?_
  intro s1 x2 x3 Is1 Fs1 hs1
  refine z_load_n X (x := x2) (show cdA 64 56 = some (.iload_n 3, 1, 0, 0, 0) from rfl) (List.Mem.tail _ (List.Mem.tail _ (List.Mem.tail _ (List.Mem.head _)))) ?_
  exact w_iret X.1 q hRt rfl (ax_d X (show cdA 64 57 = some (.ireturn, 1, 0, 0, 0) from rfl)) (Nat.zero_le _) (Nat.zero_le _) ⟨_, rfl, Is1, Fs1, x2, rfl, ⟨by first | exact hs1.2.2.1.1 | omega, by first | exact hs1.2.2.1.2 | omega⟩, trivial⟩
set_option maxRecDepth 4000 in
theorem c6_fewestOf_61 (G : GX l s0 D tys a0 dT) (I : Bd s) {x y : Int} (p0 : rng x) (p1 : rng y) : CT l s0 D A dT 65 (rmN 65) [.ref (A 61), .int (Int32.ofInt x), .int (Int32.ofInt y)] s (fun o t => Bd t ∧ Fm [] [] s t ∧ ∃ e, o = .inl (some (.int (Int32.ofInt e))) ∧ rng e ∧ (True)) := by
  refine ct_ofX G (by decide) (Nat.le_of_ble_eq_true rfl) (fun k X E ET hRt hXt q => ?_)
  show WS k 0 [(0, .ref (A 61)), (1, .int (Int32.ofInt x)), (2, .int (Int32.ofInt y))] [] _ 0 0
  have F : Fm [] [] s s := fm_rf _ _ s
  have L17 : ∀ (n : Nat) (t : PS) (xv yv ch c nx p : Int), Bd t → Fm [] [] s t → (rng xv ∧ rng yv ∧ rng ch ∧ (0 ≤ c ∧ c < yv) ∧ (-1 ≤ nx ∧ nx ≤ 7) ∧ 0 ≤ p ∧ p ≤ 8) → (8 - p : Int).toNat < n → (∀ (t' : PS) (nx' p' : Int), Bd t' → Fm [] [] s t' → (rng xv ∧ rng yv ∧ rng ch ∧ (0 ≤ c ∧ c < yv) ∧ (-1 ≤ nx' ∧ nx' ≤ 7) ∧ 0 ≤ p' ∧ p' ≤ 8) → WS k 82 [(0, .ref (A 61)), (1, .int (Int32.ofInt xv)), (2, .int (Int32.ofInt yv)), (3, .int (Int32.ofInt ch)), (4, .int (Int32.ofInt c)), (5, .int (Int32.ofInt nx')), (6, .int (Int32.ofInt p'))] [] (Wd A dT t') 0 0) → WS k 17 [(0, .ref (A 61)), (1, .int (Int32.ofInt xv)), (2, .int (Int32.ofInt yv)), (3, .int (Int32.ofInt ch)), (4, .int (Int32.ofInt c)), (5, .int (Int32.ofInt nx)), (6, .int (Int32.ofInt p))] [] (Wd A dT t) 0 0 := by
    intro n
    induction n with
    | zero =>
      intro t xv yv ch c nx p I F hi hm kx
      exact absurd hm (Nat.not_lt_zero _)
    | succ n ih =>
      intro t xv yv ch c nx p I F hi hm kx
      refine z_load X (x := p) (show cdA 65 17 = some (.iload 6, 2, 0, 0, 0) from rfl) (List.Mem.tail _ (List.Mem.tail _ (List.Mem.tail _ (List.Mem.tail _ (List.Mem.tail _ (List.Mem.tail _ (List.Mem.head _))))))) ?_
      refine z_bipush X (show cdA 65 19 = some (.bipush 8, 2, 0, 0, 8) from rfl) ?_
      refine z_icmp_ge X (t := 82) (show cdA 65 21 = some (.if_icmp .ge 61, 3, 3, 0, 0) from rfl) (by decide) ⟨by first | exact oq_fa4e5087 hi.2.2.2.2.2.1 | omega, by first | exact oq_d3f5d874 hi.2.2.2.2.2.2 | omega⟩ (by decide) (fun g1001 => ?_) (fun g1001 => ?_)
      ·
        refine WS_lv (lv := [(0, .ref (A 61)), (1, .int (Int32.ofInt xv)), (2, .int (Int32.ofInt yv)), (3, .int (Int32.ofInt ch)), (4, .int (Int32.ofInt c)), (5, .int (Int32.ofInt nx)), (6, .int (Int32.ofInt p))]) (List.forall_mem_cons.mpr ⟨(List.Mem.head _), (List.forall_mem_cons.mpr ⟨(List.Mem.tail _ (List.Mem.head _)), (List.forall_mem_cons.mpr ⟨(List.Mem.tail _ (List.Mem.tail _ (List.Mem.head _))), (List.forall_mem_cons.mpr ⟨(List.Mem.tail _ (List.Mem.tail _ (List.Mem.tail _ (List.Mem.head _)))), (List.forall_mem_cons.mpr ⟨(List.Mem.tail _ (List.Mem.tail _ (List.Mem.tail _ (List.Mem.tail _ (List.Mem.head _))))), (List.forall_mem_cons.mpr ⟨(List.Mem.tail _ (List.Mem.tail _ (List.Mem.tail _ (List.Mem.tail _ (List.Mem.tail _ (List.Mem.head _)))))), (List.forall_mem_cons.mpr ⟨(List.Mem.tail _ (List.Mem.tail _ (List.Mem.tail _ (List.Mem.tail _ (List.Mem.tail _ (List.Mem.tail _ (List.Mem.head _))))))), (fun q h => absurd h List.not_mem_nil)⟩)⟩)⟩)⟩)⟩)⟩)⟩) ?_
        exact kx _ nx p I F (by first | exact ⟨And.intro (hi.1.1) (hi.1.2), And.intro (hi.2.1.1) (hi.2.1.2), And.intro (hi.2.2.1.1) (hi.2.2.1.2), And.intro (hi.2.2.2.1.1) (hi.2.2.2.1.2), And.intro (hi.2.2.2.2.1.1) (hi.2.2.2.2.1.2), hi.2.2.2.2.2.1, hi.2.2.2.2.2.2⟩ | omega)
      ·
        refine z_load_n X (x := xv) (show cdA 65 24 = some (.iload_n 1, 1, 0, 0, 0) from rfl) (List.Mem.tail _ (List.Mem.head _)) ?_
        refine z_load_n X (x := ch) (show cdA 65 25 = some (.iload_n 3, 1, 0, 0, 0) from rfl) (List.Mem.tail _ (List.Mem.tail _ (List.Mem.tail _ (List.Mem.head _)))) ?_
        refine z_const X (show cdA 65 26 = some (.iconst (-1), 1, 0, 0, 0) from rfl) ?_
        refine z_bxor X (show cdA 65 27 = some (.ixor, 1, 0, 0, 0) from rfl) ?_
        refine z_any (fun y1002 hy1002 => ?_)
        refine z_band X (show cdA 65 28 = some (.iand, 1, 0, 0, 0) from rfl) ?_
        refine z_any (fun y1003 hy1003 => ?_)
        refine z_load X (x := p) (show cdA 65 29 = some (.iload 6, 2, 0, 0, 0) from rfl) (List.Mem.tail _ (List.Mem.tail _ (List.Mem.tail _ (List.Mem.tail _ (List.Mem.tail _ (List.Mem.tail _ (List.Mem.head _))))))) ?_
        refine z_bshr X (show cdA 65 31 = some (.ishr, 1, 0, 0, 0) from rfl) ?_
        refine z_any (fun y1004 hy1004 => ?_)
        refine z_const X (show cdA 65 32 = some (.iconst 1, 1, 0, 0, 0) from rfl) ?_
        refine z_andm X (show cdA 65 33 = some (.iand, 1, 0, 0, 0) from rfl) (by decide) (by decide) (fun y1005 hy1005 gy1005 => ?_)
        have N1006 : ∀ e1007 : Int, (((y1005 = 0) ∧ e1007 = 0) ∨ ((y1005 ≠ 0) ∧ e1007 = 1)) → WS k 42 [(0, .ref (A 61)), (1, .int (Int32.ofInt xv)), (2, .int (Int32.ofInt yv)), (3, .int (Int32.ofInt ch)), (4, .int (Int32.ofInt c)), (5, .int (Int32.ofInt nx)), (6, .int (Int32.ofInt p))] [.int (Int32.ofInt e1007)] (Wd A dT t) 0 0 := by
          intro e1007 he1007
          have re1007 : 0 ≤ e1007 ∧ e1007 ≤ 1 := by omega
          refine z_store X (lv' := [(7, .int (Int32.ofInt e1007)), (0, .ref (A 61)), (1, .int (Int32.ofInt xv)), (2, .int (Int32.ofInt yv)), (3, .int (Int32.ofInt ch)), (4, .int (Int32.ofInt c)), (5, .int (Int32.ofInt nx)), (6, .int (Int32.ofInt p))]) (show cdA 65 42 = some (.istore 7, 2, 0, 0, 0) from rfl) (by decide) (fun _ h => h) ?_
          refine z_load X (x := e1007) (show cdA 65 44 = some (.iload 7, 2, 0, 0, 0) from rfl) (List.Mem.head _) ?_
          refine z_if_eq X (t := 76) (show cdA 65 46 = some (.ifCond .eq 30, 3, 0, 0, 0) from rfl) (by decide) ⟨by first | exact oq_fa4e5087 re1007.1 | omega, by first | exact oq_22e1e6b0 re1007.2 | omega⟩ (fun g1008 => ?_) (fun g1008 => ?_)
          ·
            refine z_inc X (x := p) (lv' := [(6, .int (Int32.ofInt (p + 1))), (7, .int (Int32.ofInt e1007)), (0, .ref (A 61)), (1, .int (Int32.ofInt xv)), (2, .int (Int32.ofInt yv)), (3, .int (Int32.ofInt ch)), (4, .int (Int32.ofInt c)), (5, .int (Int32.ofInt nx))]) (show cdA 65 76 = some (.iinc 6 1, 3, 0, 0, 0) from rfl) (by decide) (List.Mem.tail _ (List.Mem.tail _ (List.Mem.tail _ (List.Mem.tail _ (List.Mem.tail _ (List.Mem.tail _ (List.Mem.tail _ (List.Mem.head _)))))))) (fun _ h => h) ?_
            refine z_goto X (t := 17) (show cdA 65 79 = some (.goto (-62), 3, 0, 0, 0) from rfl) (by decide) ?_
            refine WS_lv (lv := [(0, .ref (A 61)), (1, .int (Int32.ofInt xv)), (2, .int (Int32.ofInt yv)), (3, .int (Int32.ofInt ch)), (4, .int (Int32.ofInt c)), (5, .int (Int32.ofInt nx)), (6, .int (Int32.ofInt (p + 1)))]) (List.forall_mem_cons.mpr ⟨(List.Mem.tail _ (List.Mem.tail _ (List.Mem.head _))), (List.forall_mem_cons.mpr ⟨(List.Mem.tail _ (List.Mem.tail _ (List.Mem.tail _ (List.Mem.head _)))), (List.forall_mem_cons.mpr ⟨(List.Mem.tail _ (List.Mem.tail _ (List.Mem.tail _ (List.Mem.tail _ (List.Mem.head _))))), (List.forall_mem_cons.mpr ⟨(List.Mem.tail _ (List.Mem.tail _ (List.Mem.tail _ (List.Mem.tail _ (List.Mem.tail _ (List.Mem.head _)))))), (List.forall_mem_cons.mpr ⟨(List.Mem.tail _ (List.Mem.tail _ (List.Mem.tail _ (List.Mem.tail _ (List.Mem.tail _ (List.Mem.tail _ (List.Mem.head _))))))), (List.forall_mem_cons.mpr ⟨(List.Mem.tail _ (List.Mem.tail _ (List.Mem.tail _ (List.Mem.tail _ (List.Mem.tail _ (List.Mem.tail _ (List.Mem.tail _ (List.Mem.head _)))))))), (List.forall_mem_cons.mpr ⟨(List.Mem.head _), (fun q h => absurd h List.not_mem_nil)⟩)⟩)⟩)⟩)⟩)⟩)⟩) ?_
            exact ih _ xv yv ch c nx (p + 1) I F (by first | exact ⟨And.intro (hi.1.1) (hi.1.2), And.intro (hi.2.1.1) (hi.2.1.2), And.intro (hi.2.2.1.1) (hi.2.2.1.2), And.intro (hi.2.2.2.1.1) (hi.2.2.2.1.2), And.intro (hi.2.2.2.2.1.1) (hi.2.2.2.2.1.2), oq_54f49eb5 hi.2.2.2.2.2.1, oq_0c7b19c3 g1001⟩ | omega) (by first | exact qk_me hm (by decide) (oq_9f368f35 g1001) | omega) kx
          ·
            refine z_load X (x := nx) (show cdA 65 49 = some (.iload 5, 2, 0, 0, 0) from rfl) (List.Mem.tail _ (List.Mem.tail _ (List.Mem.tail _ (List.Mem.tail _ (List.Mem.tail _ (List.Mem.tail _ (List.Mem.head _))))))) ?_
            refine z_const X (show cdA 65 51 = some (.iconst (-1), 1, 0, 0, 0) from rfl) ?_
            refine z_icmp_eq X (t := 72) (show cdA 65 52 = some (.if_icmp .eq 20, 3, 0, 0, 0) from rfl) (by decide) ⟨by first | exact oq_97ee2c2a hi.2.2.2.2.1.1 | omega, by first | exact oq_0e78ca7d hi.2.2.2.2.1.2 | omega⟩ (by decide) (fun g1009 => ?_) (fun g1009 => ?_)
            ·
              refine z_load X (x := p) (show cdA 65 72 = some (.iload 6, 2, 0, 0, 0) from rfl) (List.Mem.tail _ (List.Mem.tail _ (List.Mem.tail _ (List.Mem.tail _ (List.Mem.tail _ (List.Mem.tail _ (List.Mem.tail _ (List.Mem.head _)))))))) ?_
              refine z_store X (lv' := [(5, .int (Int32.ofInt p)), (7, .int (Int32.ofInt e1007)), (0, .ref (A 61)), (1, .int (Int32.ofInt xv)), (2, .int (Int32.ofInt yv)), (3, .int (Int32.ofInt ch)), (4, .int (Int32.ofInt c)), (6, .int (Int32.ofInt p))]) (show cdA 65 74 = some (.istore 5, 2, 0, 0, 0) from rfl) (by decide) (fun _ h => h) ?_
              refine z_inc X (x := p) (lv' := [(6, .int (Int32.ofInt (p + 1))), (5, .int (Int32.ofInt p)), (7, .int (Int32.ofInt e1007)), (0, .ref (A 61)), (1, .int (Int32.ofInt xv)), (2, .int (Int32.ofInt yv)), (3, .int (Int32.ofInt ch)), (4, .int (Int32.ofInt c))]) (show cdA 65 76 = some (.iinc 6 1, 3, 0, 0, 0) from rfl) (by decide) (List.Mem.tail _ (List.Mem.tail _ (List.Mem.tail _ (List.Mem.tail _ (List.Mem.tail _ (List.Mem.tail _ (List.Mem.tail _ (List.Mem.head _)))))))) (fun _ h => h) ?_
              refine z_goto X (t := 17) (show cdA 65 79 = some (.goto (-62), 3, 0, 0, 0) from rfl) (by decide) ?_
              refine WS_lv (lv := [(0, .ref (A 61)), (1, .int (Int32.ofInt xv)), (2, .int (Int32.ofInt yv)), (3, .int (Int32.ofInt ch)), (4, .int (Int32.ofInt c)), (5, .int (Int32.ofInt p)), (6, .int (Int32.ofInt (p + 1)))]) (List.forall_mem_cons.mpr ⟨(List.Mem.tail _ (List.Mem.tail _ (List.Mem.tail _ (List.Mem.head _)))), (List.forall_mem_cons.mpr ⟨(List.Mem.tail _ (List.Mem.tail _ (List.Mem.tail _ (List.Mem.tail _ (List.Mem.head _))))), (List.forall_mem_cons.mpr ⟨(List.Mem.tail _ (List.Mem.tail _ (List.Mem.tail _ (List.Mem.tail _ (List.Mem.tail _ (List.Mem.head _)))))), (List.forall_mem_cons.mpr ⟨(List.Mem.tail _ (List.Mem.tail _ (List.Mem.tail _ (List.Mem.tail _ (List.Mem.tail _ (List.Mem.tail _ (List.Mem.head _))))))), (List.forall_mem_cons.mpr ⟨(List.Mem.tail _ (List.Mem.tail _ (List.Mem.tail _ (List.Mem.tail _ (List.Mem.tail _ (List.Mem.tail _ (List.Mem.tail _ (List.Mem.head _)))))))), (List.forall_mem_cons.mpr ⟨(List.Mem.tail _ (List.Mem.head _)), (List.forall_mem_cons.mpr ⟨(List.Mem.head _), (fun q h => absurd h List.not_mem_nil)⟩)⟩)⟩)⟩)⟩)⟩)⟩) ?_
              exact ih _ xv yv ch c p (p + 1) I F (by first | exact ⟨And.intro (hi.1.1) (hi.1.2), And.intro (hi.2.1.1) (hi.2.1.2), And.intro (hi.2.2.1.1) (hi.2.2.1.2), And.intro (hi.2.2.2.1.1) (hi.2.2.2.1.2), And.intro (oq_ca54ea22 hi.2.2.2.2.2.1) (oq_78c639ed g1001), oq_54f49eb5 hi.2.2.2.2.2.1, oq_0c7b19c3 g1001⟩ | omega) (by first | exact qk_me hm (by decide) (oq_9f368f35 g1001) | omega) kx
            ·
              refine z_aload_n X (x := A 61) (show cdA 65 55 = some (.aload_n 0, 1, 0, 0, 0) from rfl) (List.Mem.tail _ (List.Mem.head _)) ?_
              refine s_getR X 61 (show cdA 65 56 = some (.getfield 28, 3, 6, 6, 0) from rfl) (by decide) rfl rfl ?_
              refine z_load X (x := p) (show cdA 65 59 = some (.iload 6, 2, 0, 0, 0) from rfl) (List.Mem.tail _ (List.Mem.tail _ (List.Mem.tail _ (List.Mem.tail _ (List.Mem.tail _ (List.Mem.tail _ (List.Mem.tail _ (List.Mem.head _)))))))) ?_
              refine z_ald X 65 (show cdA 65 61 = some (.iaload, 1, 0, 0, 0) from rfl) (by decide) rfl (by first | exact hi.2.2.2.2.2.1 | omega) (show p < 8 by first | exact g1001 | omega) (by decide) ?_
              have b1010 : ((-2147483648) : Int) ≤ iC t 55 (p).toNat ∧ iC t 55 (p).toNat ≤ 2147483647 := I.2 55 _ (show (p).toNat < 8 by first | exact oq_db4b3b8b g1001 | omega)
              refine z_aload_n X (x := A 61) (show cdA 65 62 = some (.aload_n 0, 1, 0, 0, 0) from rfl) (List.Mem.tail _ (List.Mem.head _)) ?_
              refine s_getR X 61 (show cdA 65 63 = some (.getfield 28, 3, 6, 6, 0) from rfl) (by decide) rfl rfl ?_
              refine z_load X (x := nx) (show cdA 65 66 = some (.iload 5, 2, 0, 0, 0) from rfl) (List.Mem.tail _ (List.Mem.tail _ (List.Mem.tail _ (List.Mem.tail _ (List.Mem.tail _ (List.Mem.tail _ (List.Mem.head _))))))) ?_
              refine z_ald X 65 (show cdA 65 68 = some (.iaload, 1, 0, 0, 0) from rfl) (by decide) rfl (by first | exact oq_7a1025bf g1009 hi.2.2.2.2.1.1 | omega) (show nx < 8 by first | exact oq_aaea290e hi.2.2.2.2.1.2 | omega) (by decide) ?_
              have b1011 : ((-2147483648) : Int) ≤ iC t 55 (nx).toNat ∧ iC t 55 (nx).toNat ≤ 2147483647 := I.2 55 _ (show (nx).toNat < 8 by first | exact oq_c19a3aae hi.2.2.2.2.1.2 | omega)
              refine z_icmp_ge X (t := 76) (show cdA 65 69 = some (.if_icmp .ge 7, 3, 3, 0, 0) from rfl) (by decide) (rng_to _) (rng_to _) (fun g1012 => ?_) (fun g1012 => ?_)
              ·
                refine z_inc X (x := p) (lv' := [(6, .int (Int32.ofInt (p + 1))), (7, .int (Int32.ofInt e1007)), (0, .ref (A 61)), (1, .int (Int32.ofInt xv)), (2, .int (Int32.ofInt yv)), (3, .int (Int32.ofInt ch)), (4, .int (Int32.ofInt c)), (5, .int (Int32.ofInt nx))]) (show cdA 65 76 = some (.iinc 6 1, 3, 0, 0, 0) from rfl) (by decide) (List.Mem.tail _ (List.Mem.tail _ (List.Mem.tail _ (List.Mem.tail _ (List.Mem.tail _ (List.Mem.tail _ (List.Mem.tail _ (List.Mem.head _)))))))) (fun _ h => h) ?_
                refine z_goto X (t := 17) (show cdA 65 79 = some (.goto (-62), 3, 0, 0, 0) from rfl) (by decide) ?_
                refine WS_lv (lv := [(0, .ref (A 61)), (1, .int (Int32.ofInt xv)), (2, .int (Int32.ofInt yv)), (3, .int (Int32.ofInt ch)), (4, .int (Int32.ofInt c)), (5, .int (Int32.ofInt nx)), (6, .int (Int32.ofInt (p + 1)))]) (List.forall_mem_cons.mpr ⟨(List.Mem.tail _ (List.Mem.tail _ (List.Mem.head _))), (List.forall_mem_cons.mpr ⟨(List.Mem.tail _ (List.Mem.tail _ (List.Mem.tail _ (List.Mem.head _)))), (List.forall_mem_cons.mpr ⟨(List.Mem.tail _ (List.Mem.tail _ (List.Mem.tail _ (List.Mem.tail _ (List.Mem.head _))))), (List.forall_mem_cons.mpr ⟨(List.Mem.tail _ (List.Mem.tail _ (List.Mem.tail _ (List.Mem.tail _ (List.Mem.tail _ (List.Mem.head _)))))), (List.forall_mem_cons.mpr ⟨(List.Mem.tail _ (List.Mem.tail _ (List.Mem.tail _ (List.Mem.tail _ (List.Mem.tail _ (List.Mem.tail _ (List.Mem.head _))))))), (List.forall_mem_cons.mpr ⟨(List.Mem.tail _ (List.Mem.tail _ (List.Mem.tail _ (List.Mem.tail _ (List.Mem.tail _ (List.Mem.tail _ (List.Mem.tail _ (List.Mem.head _)))))))), (List.forall_mem_cons.mpr ⟨(List.Mem.head _), (fun q h => absurd h List.not_mem_nil)⟩)⟩)⟩)⟩)⟩)⟩)⟩) ?_
                exact ih _ xv yv ch c nx (p + 1) I F (by first | exact ⟨And.intro (hi.1.1) (hi.1.2), And.intro (hi.2.1.1) (hi.2.1.2), And.intro (hi.2.2.1.1) (hi.2.2.1.2), And.intro (hi.2.2.2.1.1) (hi.2.2.2.1.2), And.intro (hi.2.2.2.2.1.1) (hi.2.2.2.2.1.2), oq_54f49eb5 hi.2.2.2.2.2.1, oq_0c7b19c3 g1001⟩ | omega) (by first | exact qk_me hm (by decide) (oq_9f368f35 g1001) | omega) kx
              ·
                refine z_load X (x := p) (show cdA 65 72 = some (.iload 6, 2, 0, 0, 0) from rfl) (List.Mem.tail _ (List.Mem.tail _ (List.Mem.tail _ (List.Mem.tail _ (List.Mem.tail _ (List.Mem.tail _ (List.Mem.tail _ (List.Mem.head _)))))))) ?_
                refine z_store X (lv' := [(5, .int (Int32.ofInt p)), (7, .int (Int32.ofInt e1007)), (0, .ref (A 61)), (1, .int (Int32.ofInt xv)), (2, .int (Int32.ofInt yv)), (3, .int (Int32.ofInt ch)), (4, .int (Int32.ofInt c)), (6, .int (Int32.ofInt p))]) (show cdA 65 74 = some (.istore 5, 2, 0, 0, 0) from rfl) (by decide) (fun _ h => h) ?_
                refine z_inc X (x := p) (lv' := [(6, .int (Int32.ofInt (p + 1))), (5, .int (Int32.ofInt p)), (7, .int (Int32.ofInt e1007)), (0, .ref (A 61)), (1, .int (Int32.ofInt xv)), (2, .int (Int32.ofInt yv)), (3, .int (Int32.ofInt ch)), (4, .int (Int32.ofInt c))]) (show cdA 65 76 = some (.iinc 6 1, 3, 0, 0, 0) from rfl) (by decide) (List.Mem.tail _ (List.Mem.tail _ (List.Mem.tail _ (List.Mem.tail _ (List.Mem.tail _ (List.Mem.tail _ (List.Mem.tail _ (List.Mem.head _)))))))) (fun _ h => h) ?_
                refine z_goto X (t := 17) (show cdA 65 79 = some (.goto (-62), 3, 0, 0, 0) from rfl) (by decide) ?_
                refine WS_lv (lv := [(0, .ref (A 61)), (1, .int (Int32.ofInt xv)), (2, .int (Int32.ofInt yv)), (3, .int (Int32.ofInt ch)), (4, .int (Int32.ofInt c)), (5, .int (Int32.ofInt p)), (6, .int (Int32.ofInt (p + 1)))]) (List.forall_mem_cons.mpr ⟨(List.Mem.tail _ (List.Mem.tail _ (List.Mem.tail _ (List.Mem.head _)))), (List.forall_mem_cons.mpr ⟨(List.Mem.tail _ (List.Mem.tail _ (List.Mem.tail _ (List.Mem.tail _ (List.Mem.head _))))), (List.forall_mem_cons.mpr ⟨(List.Mem.tail _ (List.Mem.tail _ (List.Mem.tail _ (List.Mem.tail _ (List.Mem.tail _ (List.Mem.head _)))))), (List.forall_mem_cons.mpr ⟨(List.Mem.tail _ (List.Mem.tail _ (List.Mem.tail _ (List.Mem.tail _ (List.Mem.tail _ (List.Mem.tail _ (List.Mem.head _))))))), (List.forall_mem_cons.mpr ⟨(List.Mem.tail _ (List.Mem.tail _ (List.Mem.tail _ (List.Mem.tail _ (List.Mem.tail _ (List.Mem.tail _ (List.Mem.tail _ (List.Mem.head _)))))))), (List.forall_mem_cons.mpr ⟨(List.Mem.tail _ (List.Mem.head _)), (List.forall_mem_cons.mpr ⟨(List.Mem.head _), (fun q h => absurd h List.not_mem_nil)⟩)⟩)⟩)⟩)⟩)⟩)⟩) ?_
                exact ih _ xv yv ch c p (p + 1) I F (by first | exact ⟨And.intro (hi.1.1) (hi.1.2), And.intro (hi.2.1.1) (hi.2.1.2), And.intro (hi.2.2.1.1) (hi.2.2.1.2), And.intro (hi.2.2.2.1.1) (hi.2.2.2.1.2), And.intro (oq_ca54ea22 hi.2.2.2.2.2.1) (oq_78c639ed g1001), oq_54f49eb5 hi.2.2.2.2.2.1, oq_0c7b19c3 g1001⟩ | omega) (by first | exact qk_me hm (by decide) (oq_9f368f35 g1001) | omega) kx
        refine z_if_eq X (t := 41) (show cdA 65 34 = some (.ifCond .eq 7, 3, 0, 0, 0) from rfl) (by decide) ⟨by first | exact oq_fa4e5087 hy1005 | omega, by first | exact oq_22e1e6b0 gy1005 | omega⟩ (fun g1013 => ?_) (fun g1013 => ?_)
        ·
          refine z_const X (show cdA 65 41 = some (.iconst 0, 1, 0, 0, 0) from rfl) ?_
          exact N1006 _ (Or.inl ⟨g1013, rfl⟩)
        ·
          refine z_const X (show cdA 65 37 = some (.iconst 1, 1, 0, 0, 0) from rfl) ?_
          refine z_goto X (t := 42) (show cdA 65 38 = some (.goto 4, 3, 0, 0, 0) from rfl) (by decide) ?_
          exact N1006 _ (Or.inr (⟨g1013, rfl⟩))
  have L5 : ∀ (n : Nat) (t : PS) (xv yv ch c : Int), Bd t → Fm [] [] s t → (rng xv ∧ rng yv ∧ rng ch ∧ 0 ≤ c ∧ (c = 0 ∨ c ≤ yv)) → (yv - c : Int).toNat < n → (∀ (t' : PS) (ch' c' : Int), Bd t' → Fm [] [] s t' → (rng xv ∧ rng yv ∧ rng ch' ∧ 0 ≤ c' ∧ (c' = 0 ∨ c' ≤ yv)) → WS k 103 [(0, .ref (A 61)), (1, .int (Int32.ofInt xv)), (2, .int (Int32.ofInt yv)), (3, .int (Int32.ofInt ch')), (4, .int (Int32.ofInt c'))] [] (Wd A dT t') 0 0) → WS k 5 [(0, .ref (A 61)), (1, .int (Int32.ofInt xv)), (2, .int (Int32.ofInt yv)), (3, .int (Int32.ofInt ch)), (4, .int (Int32.ofInt c))] [] (Wd A dT t) 0 0 := by
    intro n
    induction n with
    | zero =>
      intro t xv yv ch c I F hi hm kx
      exact absurd hm (Nat.not_lt_zero _)
    | succ n ih =>
      intro t xv yv ch c I F hi hm kx
      refine z_load X (x := c) (show cdA 65 5 = some (.iload 4, 2, 0, 0, 0) from rfl) (List.Mem.tail _ (List.Mem.tail _ (List.Mem.tail _ (List.Mem.tail _ (List.Mem.head _))))) ?_
      refine z_load_n X (x := yv) (show cdA 65 7 = some (.iload_n 2, 1, 0, 0, 0) from rfl) (List.Mem.tail _ (List.Mem.tail _ (List.Mem.head _))) ?_
      refine z_icmp_ge X (t := 103) (show cdA 65 8 = some (.if_icmp .ge 95, 3, 3, 0, 0) from rfl) (by decide) ⟨by first | exact oq_fa4e5087 hi.2.2.2.1 | omega, by first | exact oq_65e1730c hi.2.2.2.2 hi.2.1.2 | omega⟩ ⟨by first | exact hi.2.1.1 | omega, by first | exact hi.2.1.2 | omega⟩ (fun g2001 => ?_) (fun g2001 => ?_)
      ·
        refine WS_lv (lv := [(0, .ref (A 61)), (1, .int (Int32.ofInt xv)), (2, .int (Int32.ofInt yv)), (3, .int (Int32.ofInt ch)), (4, .int (Int32.ofInt c))]) (List.forall_mem_cons.mpr ⟨(List.Mem.head _), (List.forall_mem_cons.mpr ⟨(List.Mem.tail _ (List.Mem.head _)), (List.forall_mem_cons.mpr ⟨(List.Mem.tail _ (List.Mem.tail _ (List.Mem.head _))), (List.forall_mem_cons.mpr ⟨(List.Mem.tail _ (List.Mem.tail _ (List.Mem.tail _ (List.Mem.head _)))), (List.forall_mem_cons.mpr ⟨(List.Mem.tail _ (List.Mem.tail _ (List.Mem.tail _ (List.Mem.tail _ (List.Mem.head _))))), (fun q h => absurd h List.not_mem_nil)⟩)⟩)⟩)⟩)⟩) ?_
        exact kx _ ch c I F (by first | exact ⟨And.intro (hi.1.1) (hi.1.2), And.intro (hi.2.1.1) (hi.2.1.2), And.intro (hi.2.2.1.1) (hi.2.2.1.2), hi.2.2.2.1, hi.2.2.2.2⟩ | omega)
      ·
        refine z_const X (show cdA 65 11 = some (.iconst (-1), 1, 0, 0, 0) from rfl) ?_
        refine z_store X (lv' := [(5, .int (Int32.ofInt (-1))), (0, .ref (A 61)), (1, .int (Int32.ofInt xv)), (2, .int (Int32.ofInt yv)), (3, .int (Int32.ofInt ch)), (4, .int (Int32.ofInt c))]) (show cdA 65 12 = some (.istore 5, 2, 0, 0, 0) from rfl) (by decide) (fun _ h => h) ?_
        refine z_const X (show cdA 65 14 = some (.iconst 0, 1, 0, 0, 0) from rfl) ?_
        refine z_store X (lv' := [(6, .int (Int32.ofInt 0)), (5, .int (Int32.ofInt (-1))), (0, .ref (A 61)), (1, .int (Int32.ofInt xv)), (2, .int (Int32.ofInt yv)), (3, .int (Int32.ofInt ch)), (4, .int (Int32.ofInt c))]) (show cdA 65 15 = some (.istore 6, 2, 0, 0, 0) from rfl) (by decide) (fun _ h => h) ?_
        refine WS_lv (lv := [(0, .ref (A 61)), (1, .int (Int32.ofInt xv)), (2, .int (Int32.ofInt yv)), (3, .int (Int32.ofInt ch)), (4, .int (Int32.ofInt c)), (5, .int (Int32.ofInt (-1))), (6, .int (Int32.ofInt 0))]) (List.forall_mem_cons.mpr ⟨(List.Mem.tail _ (List.Mem.tail _ (List.Mem.head _))), (List.forall_mem_cons.mpr ⟨(List.Mem.tail _ (List.Mem.tail _ (List.Mem.tail _ (List.Mem.head _)))), (List.forall_mem_cons.mpr ⟨(List.Mem.tail _ (List.Mem.tail _ (List.Mem.tail _ (List.Mem.tail _ (List.Mem.head _))))), (List.forall_mem_cons.mpr ⟨(List.Mem.tail _ (List.Mem.tail _ (List.Mem.tail _ (List.Mem.tail _ (List.Mem.tail _ (List.Mem.head _)))))), (List.forall_mem_cons.mpr ⟨(List.Mem.tail _ (List.Mem.tail _ (List.Mem.tail _ (List.Mem.tail _ (List.Mem.tail _ (List.Mem.tail _ (List.Mem.head _))))))), (List.forall_mem_cons.mpr ⟨(List.Mem.tail _ (List.Mem.head _)), (List.forall_mem_cons.mpr ⟨(List.Mem.head _), (fun q h => absurd h List.not_mem_nil)⟩)⟩)⟩)⟩)⟩)⟩)⟩) ?_
        refine L17 ((8 - 0 : Int).toNat + 1) t xv yv ch c (-1) 0 I F (by first | exact ⟨And.intro (hi.1.1) (hi.1.2), And.intro (hi.2.1.1) (hi.2.1.2), And.intro (hi.2.2.1.1) (hi.2.2.1.2), And.intro (hi.2.2.2.1) (g2001), And.intro (by decide) (by decide), by decide, by decide⟩ | omega) (Nat.lt_succ_self _) ?_
        intro s2002 x2003 x2004 Is2002 Fs2002 hs2002
        refine z_load X (x := x2003) (show cdA 65 82 = some (.iload 5, 2, 0, 0, 0) from rfl) (List.Mem.tail _ (List.Mem.tail _ (List.Mem.tail _ (List.Mem.tail _ (List.Mem.tail _ (List.Mem.head _)))))) ?_
        refine z_const X (show cdA 65 84 = some (.iconst (-1), 1, 0, 0, 0) from rfl) ?_
        refine z_icmp_ne X (t := 90) (show cdA 65 85 = some (.if_icmp .ne 5, 3, 1, 0, 0) from rfl) (by decide) ⟨by first | exact oq_97ee2c2a hs2002.2.2.2.2.1.1 | omega, by first | exact oq_0e78ca7d hs2002.2.2.2.2.1.2 | omega⟩ (by decide) (fun g2005 => ?_) (fun g2005 => ?_)
        ·
          refine z_load_n X (x := ch) (show cdA 65 90 = some (.iload_n 3, 1, 0, 0, 0) from rfl) (List.Mem.tail _ (List.Mem.tail _ (List.Mem.tail _ (List.Mem.head _)))) ?_
          refine z_const X (show cdA 65 91 = some (.iconst 1, 1, 0, 0, 0) from rfl) ?_
          refine z_load X (x := x2003) (show cdA 65 92 = some (.iload 5, 2, 0, 0, 0) from rfl) (List.Mem.tail _ (List.Mem.tail _ (List.Mem.tail _ (List.Mem.tail _ (List.Mem.tail _ (List.Mem.head _)))))) ?_
          refine z_bshl X (show cdA 65 94 = some (.ishl, 1, 0, 0, 0) from rfl) ?_
          refine z_any (fun y2006 hy2006 => ?_)
          refine z_bor X (show cdA 65 95 = some (.ior, 1, 0, 0, 0) from rfl) ?_
          refine z_any (fun y2007 hy2007 => ?_)
          refine z_store_n X (lv' := [(3, .int (Int32.ofInt y2007)), (0, .ref (A 61)), (1, .int (Int32.ofInt xv)), (2, .int (Int32.ofInt yv)), (4, .int (Int32.ofInt c)), (5, .int (Int32.ofInt x2003)), (6, .int (Int32.ofInt x2004))]) (show cdA 65 96 = some (.istore_n 3, 1, 0, 0, 0) from rfl) (by decide) (fun _ h => h) ?_
          refine z_inc X (x := c) (lv' := [(4, .int (Int32.ofInt (c + 1))), (3, .int (Int32.ofInt y2007)), (0, .ref (A 61)), (1, .int (Int32.ofInt xv)), (2, .int (Int32.ofInt yv)), (5, .int (Int32.ofInt x2003)), (6, .int (Int32.ofInt x2004))]) (show cdA 65 97 = some (.iinc 4 1, 3, 0, 0, 0) from rfl) (by decide) (List.Mem.tail _ (List.Mem.tail _ (List.Mem.tail _ (List.Mem.tail _ (List.Mem.head _))))) (fun _ h => h) ?_
          refine z_goto X (t := 5) (show cdA 65 100 = some (.goto (-95), 3, 0, 0, 0) from rfl) (by decide) ?_
          refine WS_lv (lv := [(0, .ref (A 61)), (1, .int (Int32.ofInt xv)), (2, .int (Int32.ofInt yv)), (3, .int (Int32.ofInt y2007)), (4, .int (Int32.ofInt (c + 1)))]) (List.forall_mem_cons.mpr ⟨(List.Mem.tail _ (List.Mem.tail _ (List.Mem.head _))), (List.forall_mem_cons.mpr ⟨(List.Mem.tail _ (List.Mem.tail _ (List.Mem.tail _ (List.Mem.head _)))), (List.forall_mem_cons.mpr ⟨(List.Mem.tail _ (List.Mem.tail _ (List.Mem.tail _ (List.Mem.tail _ (List.Mem.head _))))), (List.forall_mem_cons.mpr ⟨(List.Mem.tail _ (List.Mem.head _)), (List.forall_mem_cons.mpr ⟨(List.Mem.head _), (fun q h => absurd h List.not_mem_nil)⟩)⟩)⟩)⟩)⟩) ?_
          exact ih _ xv yv y2007 (c + 1) Is2002 Fs2002 (by first | exact ⟨And.intro (hs2002.1.1) (hs2002.1.2), And.intro (hs2002.2.1.1) (hs2002.2.1.2), And.intro (hy2007.1) (hy2007.2), oq_54f49eb5 hs2002.2.2.2.1.1, Or.inr (oq_afc84a8d hs2002.2.2.2.1.2)⟩ | omega) (by first | exact qk_me hm (by decide) (oq_901836cd hs2002.2.2.2.1.2) | omega) kx
        ·
          refine z_load_n X (x := ch) (show cdA 65 88 = some (.iload_n 3, 1, 0, 0, 0) from rfl) (List.Mem.tail _ (List.Mem.tail _ (List.Mem.tail _ (List.Mem.head _)))) ?_
          exact w_iret X.1 q hRt rfl (ax_d X (show cdA 65 89 = some (.ireturn, 1, 0, 0, 0) from rfl)) (Nat.zero_le _) (Nat.zero_le _) ⟨_, rfl, Is2002, Fs2002, ch, rfl, ⟨by first | exact hs2002.2.2.1.1 | omega, by first | exact hs2002.2.2.1.2 | omega⟩, trivial⟩
  refine z_const X (show cdA 65 0 = some (.iconst 0, 1, 0, 0, 0) from rfl) ?_
  refine z_store_n X (lv' := [(3, .int (Int32.ofInt 0)), (0, .ref (A 61)), (1, .int (Int32.ofInt x)), (2, .int (Int32.ofInt y))]) (show cdA 65 1 = some (.istore_n 3, 1, 0, 0, 0) from rfl) (by decide) (fun _ h => h) ?_
  refine z_const X (show cdA 65 2 = some (.iconst 0, 1, 0, 0, 0) from rfl) ?_
  refine z_store X (lv' := [(4, .int (Int32.ofInt 0)), (3, .int (Int32.ofInt 0)), (0, .ref (A 61)), (1, .int (Int32.ofInt x)), (2, .int (Int32.ofInt y))]) (show cdA 65 3 = some (.istore 4, 2, 0, 0, 0) from rfl) (by decide) (fun _ h => h) ?_
  refine WS_lv (lv := [(0, .ref (A 61)), (1, .int (Int32.ofInt x)), (2, .int (Int32.ofInt y)), (3, .int (Int32.ofInt 0)), (4, .int (Int32.ofInt 0))]) (List.forall_mem_cons.mpr ⟨(List.Mem.tail _ (List.Mem.tail _ (List.Mem.head _))), (List.forall_mem_cons.mpr ⟨(List.Mem.tail _ (List.Mem.tail _ (List.Mem.tail _ (List.Mem.head _)))), (List.forall_mem_cons.mpr ⟨(List.Mem.tail _ (List.Mem.tail _ (List.Mem.tail _ (List.Mem.tail _ (List.Mem.head _))))), (List.forall_mem_cons.mpr ⟨(List.Mem.tail _ (List.Mem.head _)), (List.forall_mem_cons.mpr ⟨(List.Mem.head _), (fun q h => absurd h List.not_mem_nil)⟩)⟩)⟩)⟩)⟩) ?_
  refine L5 ((y - 0 : Int).toNat + 1) s x y 0 0 I F (by first | exact ⟨And.intro (p0.1) (p0.2), And.intro (p1.1) (p1.2), And.intro (by decide) (by decide), by decide, Or.inl (by decide)⟩ | omega) (Nat.lt_succ_self _) ?_
  intro s1 x2 x3 Is1 Fs1 hs1
  refine z_load_n X (x := x2) (show cdA 65 103 = some (.iload_n 3, 1, 0, 0, 0) from rfl) (List.Mem.tail _ (List.Mem.tail _ (List.Mem.tail _ (List.Mem.head _)))) ?_
  exact w_iret X.1 q hRt rfl (ax_d X (show cdA 65 104 = some (.ireturn, 1, 0, 0, 0) from rfl)) (Nat.zero_le _) (Nat.zero_le _) ⟨_, rfl, Is1, Fs1, x2, rfl, ⟨by first | exact hs1.2.2.1.1 | omega, by first | exact hs1.2.2.1.2 | omega⟩, trivial⟩
set_option maxRecDepth 4000 in
theorem c6_settle_61 (G : GX l s0 D tys a0 dT) (I : Bd s) {x y z : Int} (p0 : 1 ≤ x ∧ x ≤ 8) (p1 : 0 ≤ y ∧ y ≤ 23) (p2 : rng z) : CT l s0 D A dT 66 (rmN 66) [.ref (A 61), .int (Int32.ofInt x), .int (Int32.ofInt y), .int (Int32.ofInt z)] s (fun o t => Bd t ∧ Fm [] [53, 55, 54] s t ∧ o = .inl none ∧ (True)) := by
  refine ct_ofX G (by decide) (Nat.le_of_ble_eq_true rfl) (fun k X E ET hRt hXt q => ?_)
  show WS k 0 [(0, .ref (A 61)), (1, .int (Int32.ofInt x)), (2, .int (Int32.ofInt y)), (3, .int (Int32.ofInt z))] [] _ 0 0
  have F : Fm [] [53, 55, 54] s s := fm_rf _ _ s
  have L3 : ∀ (n : Nat) (t : PS) (xv yv zv p : Int), Bd t → Fm [] [53, 55, 54] s t → ((1 ≤ xv ∧ xv ≤ 8) ∧ (0 ≤ yv ∧ yv ≤ 23) ∧ rng zv ∧ 0 ≤ p ∧ p ≤ 8) → (8 - p : Int).toNat < n → (∀ (t' : PS) (p' : Int), Bd t' → Fm [] [53, 55, 54] s t' → ((1 ≤ xv ∧ xv ≤ 8) ∧ (0 ≤ yv ∧ yv ≤ 23) ∧ rng zv ∧ 0 ≤ p' ∧ p' ≤ 8) → WS k 80 [(0, .ref (A 61)), (1, .int (Int32.ofInt xv)), (2, .int (Int32.ofInt yv)), (3, .int (Int32.ofInt zv)), (4, .int (Int32.ofInt p'))] [] (Wd A dT t') 0 0) → WS k 3 [(0, .ref (A 61)), (1, .int (Int32.ofInt xv)), (2, .int (Int32.ofInt yv)), (3, .int (Int32.ofInt zv)), (4, .int (Int32.ofInt p))] [] (Wd A dT t) 0 0 := by
    intro n
    induction n with
    | zero =>
      intro t xv yv zv p I F hi hm kx
      exact absurd hm (Nat.not_lt_zero _)
    | succ n ih =>
      intro t xv yv zv p I F hi hm kx
      refine z_load X (x := p) (show cdA 66 3 = some (.iload 4, 2, 0, 0, 0) from rfl) (List.Mem.tail _ (List.Mem.tail _ (List.Mem.tail _ (List.Mem.tail _ (List.Mem.head _))))) ?_
      refine z_load_n X (x := xv) (show cdA 66 5 = some (.iload_n 1, 1, 0, 0, 0) from rfl) (List.Mem.tail _ (List.Mem.head _)) ?_
      refine z_icmp_ge X (t := 80) (show cdA 66 6 = some (.if_icmp .ge 74, 3, 3, 0, 0) from rfl) (by decide) ⟨by first | exact oq_fa4e5087 hi.2.2.2.1 | omega, by first | exact oq_d3f5d874 hi.2.2.2.2 | omega⟩ ⟨by first | exact oq_9462313e hi.1.1 | omega, by first | exact oq_d3f5d874 hi.1.2 | omega⟩ (fun g1001 => ?_) (fun g1001 => ?_)
      ·
        refine WS_lv (lv := [(0, .ref (A 61)), (1, .int (Int32.ofInt xv)), (2, .int (Int32.ofInt yv)), (3, .int (Int32.ofInt zv)), (4, .int (Int32.ofInt p))]) (List.forall_mem_cons.mpr ⟨(List.Mem.head _), (List.forall_mem_cons.mpr ⟨(List.Mem.tail _ (List.Mem.head _)), (List.forall_mem_cons.mpr ⟨(List.Mem.tail _ (List.Mem.tail _ (List.Mem.head _))), (List.forall_mem_cons.mpr ⟨(List.Mem.tail _ (List.Mem.tail _ (List.Mem.tail _ (List.Mem.head _)))), (List.forall_mem_cons.mpr ⟨(List.Mem.tail _ (List.Mem.tail _ (List.Mem.tail _ (List.Mem.tail _ (List.Mem.head _))))), (fun q h => absurd h List.not_mem_nil)⟩)⟩)⟩)⟩)⟩) ?_
        exact kx _ p I F (by first | exact ⟨And.intro (hi.1.1) (hi.1.2), And.intro (hi.2.1.1) (hi.2.1.2), And.intro (hi.2.2.1.1) (hi.2.2.1.2), hi.2.2.2.1, hi.2.2.2.2⟩ | omega)
      ·
        refine z_load_n X (x := zv) (show cdA 66 9 = some (.iload_n 3, 1, 0, 0, 0) from rfl) (List.Mem.tail _ (List.Mem.tail _ (List.Mem.tail _ (List.Mem.head _)))) ?_
        refine z_load X (x := p) (show cdA 66 10 = some (.iload 4, 2, 0, 0, 0) from rfl) (List.Mem.tail _ (List.Mem.tail _ (List.Mem.tail _ (List.Mem.tail _ (List.Mem.head _))))) ?_
        refine z_bshr X (show cdA 66 12 = some (.ishr, 1, 0, 0, 0) from rfl) ?_
        refine z_any (fun y1002 hy1002 => ?_)
        refine z_const X (show cdA 66 13 = some (.iconst 1, 1, 0, 0, 0) from rfl) ?_
        refine z_andm X (show cdA 66 14 = some (.iand, 1, 0, 0, 0) from rfl) (by decide) (by decide) (fun y1003 hy1003 gy1003 => ?_)
        refine z_if_eq X (t := 43) (show cdA 66 15 = some (.ifCond .eq 28, 3, 0, 0, 0) from rfl) (by decide) ⟨by first | exact oq_fa4e5087 hy1003 | omega, by first | exact oq_22e1e6b0 gy1003 | omega⟩ (fun g1004 => ?_) (fun g1004 => ?_)
        ·
          refine z_aload_n X (x := A 61) (show cdA 66 43 = some (.aload_n 0, 1, 0, 0, 0) from rfl) (List.Mem.head _) ?_
          refine s_getR X 61 (show cdA 66 44 = some (.getfield 22, 3, 6, 4, 0) from rfl) (by decide) rfl rfl ?_
          refine z_load X (x := p) (show cdA 66 47 = some (.iload 4, 2, 0, 0, 0) from rfl) (List.Mem.tail _ (List.Mem.tail _ (List.Mem.tail _ (List.Mem.tail _ (List.Mem.head _))))) ?_
          refine z_ald X 63 (show cdA 66 49 = some (.iaload, 1, 0, 0, 0) from rfl) (by decide) rfl (by first | exact hi.2.2.2.1 | omega) (show p < 8 by first | exact oq_7f5b2e79 g1001 hi.1.2 | omega) (by decide) ?_
          have b1005 : ((-2147483648) : Int) ≤ iC t 53 (p).toNat ∧ iC t 53 (p).toNat ≤ 2147483647 := I.2 53 _ (show (p).toNat < 8 by first | exact oq_67be0351 g1001 hi.1.2 | omega)
          refine z_if_le X (t := 74) (show cdA 66 50 = some (.ifCond .le 24, 3, 5, 0, 0) from rfl) (by decide) (rng_to _) (fun g1006 => ?_) (fun g1006 => ?_)
          ·
            refine z_inc X (x := p) (lv' := [(4, .int (Int32.ofInt (p + 1))), (0, .ref (A 61)), (1, .int (Int32.ofInt xv)), (2, .int (Int32.ofInt yv)), (3, .int (Int32.ofInt zv))]) (show cdA 66 74 = some (.iinc 4 1, 3, 0, 0, 0) from rfl) (by decide) (List.Mem.tail _ (List.Mem.tail _ (List.Mem.tail _ (List.Mem.tail _ (List.Mem.head _))))) (fun _ h => h) ?_
            refine z_goto X (t := 3) (show cdA 66 77 = some (.goto (-74), 3, 0, 0, 0) from rfl) (by decide) ?_
            refine WS_lv (lv := [(0, .ref (A 61)), (1, .int (Int32.ofInt xv)), (2, .int (Int32.ofInt yv)), (3, .int (Int32.ofInt zv)), (4, .int (Int32.ofInt (p + 1)))]) (List.forall_mem_cons.mpr ⟨(List.Mem.tail _ (List.Mem.head _)), (List.forall_mem_cons.mpr ⟨(List.Mem.tail _ (List.Mem.tail _ (List.Mem.head _))), (List.forall_mem_cons.mpr ⟨(List.Mem.tail _ (List.Mem.tail _ (List.Mem.tail _ (List.Mem.head _)))), (List.forall_mem_cons.mpr ⟨(List.Mem.tail _ (List.Mem.tail _ (List.Mem.tail _ (List.Mem.tail _ (List.Mem.head _))))), (List.forall_mem_cons.mpr ⟨(List.Mem.head _), (fun q h => absurd h List.not_mem_nil)⟩)⟩)⟩)⟩)⟩) ?_
            exact ih _ xv yv zv (p + 1) I F (by first | exact ⟨And.intro (hi.1.1) (hi.1.2), And.intro (hi.2.1.1) (hi.2.1.2), And.intro (hi.2.2.1.1) (hi.2.2.1.2), oq_54f49eb5 hi.2.2.2.1, oq_f6204d84 g1001 hi.1.2⟩ | omega) (by first | exact qk_me hm (by decide) (oq_ccc5e5e0 g1001 hi.1.2) | omega) kx
          ·
            refine z_aload_n X (x := A 61) (show cdA 66 53 = some (.aload_n 0, 1, 0, 0, 0) from rfl) (List.Mem.head _) ?_
            refine s_getR X 61 (show cdA 66 54 = some (.getfield 22, 3, 6, 4, 0) from rfl) (by decide) rfl rfl ?_
            refine z_load X (x := p) (show cdA 66 57 = some (.iload 4, 2, 0, 0, 0) from rfl) (List.Mem.tail _ (List.Mem.tail _ (List.Mem.tail _ (List.Mem.tail _ (List.Mem.head _))))) ?_
            refine z_const X (show cdA 66 59 = some (.iconst 0, 1, 0, 0, 0) from rfl) ?_
            refine z_ast X 63 (show cdA 66 60 = some (.iastore, 1, 0, 0, 0) from rfl) (by decide) rfl (by first | exact hi.2.2.2.1 | omega) (show p < 8 by first | exact oq_7f5b2e79 g1001 hi.1.2 | omega) (by decide) ?_
            obtain ⟨s1007, hs1007⟩ : ∃ x0, x0 = uC t 53 (p).toNat (Int32.ofInt 0) := ⟨_, rfl⟩
            rw [← hs1007]
            have Is1007 : Bd s1007 := by rw [hs1007]; exact bd_C I (show ((-2147483648) : Int) ≤ 0 ∧ 0 ≤ 2147483647 by first | exact ⟨by decide, by decide⟩ | omega) (by decide)
            have Fs1007 := fm_C (i := (p).toNat) (x := Int32.ofInt 0) F (show 53 ∈ _ by decide)
            rw [← hs1007] at Fs1007
            refine z_aload_n X (x := A 61) (show cdA 66 61 = some (.aload_n 0, 1, 0, 0, 0) from rfl) (List.Mem.head _) ?_
            refine s_getR X 61 (show cdA 66 62 = some (.getfield 25, 3, 6, 5, 0) from rfl) (by decide) rfl rfl ?_
            refine z_load X (x := p) (show cdA 66 65 = some (.iload 4, 2, 0, 0, 0) from rfl) (List.Mem.tail _ (List.Mem.tail _ (List.Mem.tail _ (List.Mem.tail _ (List.Mem.head _))))) ?_
            refine z_load_n X (x := yv) (show cdA 66 67 = some (.iload_n 2, 1, 0, 0, 0) from rfl) (List.Mem.tail _ (List.Mem.tail _ (List.Mem.head _))) ?_
            refine z_aload_n X (x := A 61) (show cdA 66 68 = some (.aload_n 0, 1, 0, 0, 0) from rfl) (List.Mem.head _) ?_
            refine z_getI X 61 (show cdA 66 69 = some (.getfield 15, 3, 6, 2, 0) from rfl) (by decide) rfl rfl ?_
            have b1008 : (1 : Int) ≤ iI s1007 37 ∧ iI s1007 37 ≤ 8 := Is1007.1 37
            refine z_add X (show cdA 66 72 = some (.iadd, 1, 0, 0, 0) from rfl) ?_
            refine z_ast X 64 (show cdA 66 73 = some (.iastore, 1, 0, 0, 0) from rfl) (by decide) rfl (by first | exact hi.2.2.2.1 | omega) (show p < 8 by first | exact oq_7f5b2e79 g1001 hi.1.2 | omega) (by decide) ?_
            obtain ⟨s1009, hs1009⟩ : ∃ x0, x0 = uC s1007 54 (p).toNat (Int32.ofInt (yv + (iI s1007 37))) := ⟨_, rfl⟩
            rw [← hs1009]
            have Is1009 : Bd s1009 := by rw [hs1009]; exact bd_C Is1007 (show ((-2147483648) : Int) ≤ (yv + (iI s1007 37)) ∧ (yv + (iI s1007 37)) ≤ 2147483647 by first | exact ⟨oq_00477806 hi.2.1.1 b1008.1, oq_2a8744a7 hi.2.1.2 b1008.2⟩ | omega) ⟨by first | exact oq_00477806 hi.2.1.1 b1008.1 | omega, by first | exact oq_2a8744a7 hi.2.1.2 b1008.2 | omega⟩
            have Fs1009 := fm_C (i := (p).toNat) (x := Int32.ofInt (yv + (iI s1007 37))) Fs1007 (show 54 ∈ _ by decide)
            rw [← hs1009] at Fs1009
            refine z_inc X (x := p) (lv' := [(4, .int (Int32.ofInt (p + 1))), (0, .ref (A 61)), (1, .int (Int32.ofInt xv)), (2, .int (Int32.ofInt yv)), (3, .int (Int32.ofInt zv))]) (show cdA 66 74 = some (.iinc 4 1, 3, 0, 0, 0) from rfl) (by decide) (List.Mem.tail _ (List.Mem.tail _ (List.Mem.tail _ (List.Mem.tail _ (List.Mem.head _))))) (fun _ h => h) ?_
            refine z_goto X (t := 3) (show cdA 66 77 = some (.goto (-74), 3, 0, 0, 0) from rfl) (by decide) ?_
            refine WS_lv (lv := [(0, .ref (A 61)), (1, .int (Int32.ofInt xv)), (2, .int (Int32.ofInt yv)), (3, .int (Int32.ofInt zv)), (4, .int (Int32.ofInt (p + 1)))]) (List.forall_mem_cons.mpr ⟨(List.Mem.tail _ (List.Mem.head _)), (List.forall_mem_cons.mpr ⟨(List.Mem.tail _ (List.Mem.tail _ (List.Mem.head _))), (List.forall_mem_cons.mpr ⟨(List.Mem.tail _ (List.Mem.tail _ (List.Mem.tail _ (List.Mem.head _)))), (List.forall_mem_cons.mpr ⟨(List.Mem.tail _ (List.Mem.tail _ (List.Mem.tail _ (List.Mem.tail _ (List.Mem.head _))))), (List.forall_mem_cons.mpr ⟨(List.Mem.head _), (fun q h => absurd h List.not_mem_nil)⟩)⟩)⟩)⟩)⟩) ?_
            exact ih _ xv yv zv (p + 1) Is1009 Fs1009 (by first | exact ⟨And.intro (hi.1.1) (hi.1.2), And.intro (hi.2.1.1) (hi.2.1.2), And.intro (hi.2.2.1.1) (hi.2.2.1.2), oq_54f49eb5 hi.2.2.2.1, oq_f6204d84 g1001 hi.1.2⟩ | omega) (by first | exact qk_me hm (by decide) (oq_ccc5e5e0 g1001 hi.1.2) | omega) kx
        ·
          refine z_aload_n X (x := A 61) (show cdA 66 18 = some (.aload_n 0, 1, 0, 0, 0) from rfl) (List.Mem.head _) ?_
          refine s_getR X 61 (show cdA 66 19 = some (.getfield 22, 3, 6, 4, 0) from rfl) (by decide) rfl rfl ?_
          refine z_load X (x := p) (show cdA 66 22 = some (.iload 4, 2, 0, 0, 0) from rfl) (List.Mem.tail _ (List.Mem.tail _ (List.Mem.tail _ (List.Mem.tail _ (List.Mem.head _))))) ?_
          refine w_dup2_11 X.1 (ax_d X (show cdA 66 24 = some (.dup2, 1, 0, 0, 0) from rfl)) rfl rfl ?_
          refine z_ald X 63 (show cdA 66 25 = some (.iaload, 1, 0, 0, 0) from rfl) (by decide) rfl (by first | exact hi.2.2.2.1 | omega) (show p < 8 by first | exact oq_7f5b2e79 g1001 hi.1.2 | omega) (by decide) ?_
          have b1010 : ((-2147483648) : Int) ≤ iC t 53 (p).toNat ∧ iC t 53 (p).toNat ≤ 2147483647 := I.2 53 _ (show (p).toNat < 8 by first | exact oq_67be0351 g1001 hi.1.2 | omega)
          refine z_const X (show cdA 66 26 = some (.iconst 1, 1, 0, 0, 0) from rfl) ?_
          refine z_add X (show cdA 66 27 = some (.iadd, 1, 0, 0, 0) from rfl) ?_
          refine z_any (fun y1011 hy1011 => ?_)
          refine z_ast X 63 (show cdA 66 28 = some (.iastore, 1, 0, 0, 0) from rfl) (by decide) rfl (by first | exact hi.2.2.2.1 | omega) (show p < 8 by first | exact oq_7f5b2e79 g1001 hi.1.2 | omega) (by decide) ?_
          obtain ⟨s1012, hs1012⟩ : ∃ x0, x0 = uC t 53 (p).toNat (Int32.ofInt y1011) := ⟨_, rfl⟩
          rw [← hs1012]
          have Is1012 : Bd s1012 := by rw [hs1012]; exact bd_C I (show ((-2147483648) : Int) ≤ y1011 ∧ y1011 ≤ 2147483647 by first | exact ⟨hy1011.1, hy1011.2⟩ | omega) hy1011
          have Fs1012 := fm_C (i := (p).toNat) (x := Int32.ofInt y1011) F (show 53 ∈ _ by decide)
          rw [← hs1012] at Fs1012
          refine z_aload_n X (x := A 61) (show cdA 66 29 = some (.aload_n 0, 1, 0, 0, 0) from rfl) (List.Mem.head _) ?_
          refine s_getR X 61 (show cdA 66 30 = some (.getfield 28, 3, 6, 6, 0) from rfl) (by decide) rfl rfl ?_
          refine z_load X (x := p) (show cdA 66 33 = some (.iload 4, 2, 0, 0, 0) from rfl) (List.Mem.tail _ (List.Mem.tail _ (List.Mem.tail _ (List.Mem.tail _ (List.Mem.head _))))) ?_
          refine w_dup2_11 X.1 (ax_d X (show cdA 66 35 = some (.dup2, 1, 0, 0, 0) from rfl)) rfl rfl ?_
          refine z_ald X 65 (show cdA 66 36 = some (.iaload, 1, 0, 0, 0) from rfl) (by decide) rfl (by first | exact hi.2.2.2.1 | omega) (show p < 8 by first | exact oq_7f5b2e79 g1001 hi.1.2 | omega) (by decide) ?_
          have b1013 : ((-2147483648) : Int) ≤ iC s1012 55 (p).toNat ∧ iC s1012 55 (p).toNat ≤ 2147483647 := Is1012.2 55 _ (show (p).toNat < 8 by first | exact oq_67be0351 g1001 hi.1.2 | omega)
          refine z_const X (show cdA 66 37 = some (.iconst 1, 1, 0, 0, 0) from rfl) ?_
          refine z_add X (show cdA 66 38 = some (.iadd, 1, 0, 0, 0) from rfl) ?_
          refine z_any (fun y1014 hy1014 => ?_)
          refine z_ast X 65 (show cdA 66 39 = some (.iastore, 1, 0, 0, 0) from rfl) (by decide) rfl (by first | exact hi.2.2.2.1 | omega) (show p < 8 by first | exact oq_7f5b2e79 g1001 hi.1.2 | omega) (by decide) ?_
          obtain ⟨s1015, hs1015⟩ : ∃ x0, x0 = uC s1012 55 (p).toNat (Int32.ofInt y1014) := ⟨_, rfl⟩
          rw [← hs1015]
          have Is1015 : Bd s1015 := by rw [hs1015]; exact bd_C Is1012 (show ((-2147483648) : Int) ≤ y1014 ∧ y1014 ≤ 2147483647 by first | exact ⟨hy1014.1, hy1014.2⟩ | omega) hy1014
          have Fs1015 := fm_C (i := (p).toNat) (x := Int32.ofInt y1014) Fs1012 (show 55 ∈ _ by decide)
          rw [← hs1015] at Fs1015
          refine z_goto X (t := 74) (show cdA 66 40 = some (.goto 34, 3, 0, 0, 0) from rfl) (by decide) ?_
          refine z_inc X (x := p) (lv' := [(4, .int (Int32.ofInt (p + 1))), (0, .ref (A 61)), (1, .int (Int32.ofInt xv)), (2, .int (Int32.ofInt yv)), (3, .int (Int32.ofInt zv))]) (show cdA 66 74 = some (.iinc 4 1, 3, 0, 0, 0) from rfl) (by decide) (List.Mem.tail _ (List.Mem.tail _ (List.Mem.tail _ (List.Mem.tail _ (List.Mem.head _))))) (fun _ h => h) ?_
          refine z_goto X (t := 3) (show cdA 66 77 = some (.goto (-74), 3, 0, 0, 0) from rfl) (by decide) ?_
          refine WS_lv (lv := [(0, .ref (A 61)), (1, .int (Int32.ofInt xv)), (2, .int (Int32.ofInt yv)), (3, .int (Int32.ofInt zv)), (4, .int (Int32.ofInt (p + 1)))]) (List.forall_mem_cons.mpr ⟨(List.Mem.tail _ (List.Mem.head _)), (List.forall_mem_cons.mpr ⟨(List.Mem.tail _ (List.Mem.tail _ (List.Mem.head _))), (List.forall_mem_cons.mpr ⟨(List.Mem.tail _ (List.Mem.tail _ (List.Mem.tail _ (List.Mem.head _)))), (List.forall_mem_cons.mpr ⟨(List.Mem.tail _ (List.Mem.tail _ (List.Mem.tail _ (List.Mem.tail _ (List.Mem.head _))))), (List.forall_mem_cons.mpr ⟨(List.Mem.head _), (fun q h => absurd h List.not_mem_nil)⟩)⟩)⟩)⟩)⟩) ?_
          exact ih _ xv yv zv (p + 1) Is1015 Fs1015 (by first | exact ⟨And.intro (hi.1.1) (hi.1.2), And.intro (hi.2.1.1) (hi.2.1.2), And.intro (hi.2.2.1.1) (hi.2.2.1.2), oq_54f49eb5 hi.2.2.2.1, oq_f6204d84 g1001 hi.1.2⟩ | omega) (by first | exact qk_me hm (by decide) (oq_ccc5e5e0 g1001 hi.1.2) | omega) kx
  refine z_const X (show cdA 66 0 = some (.iconst 0, 1, 0, 0, 0) from rfl) ?_
  refine z_store X (lv' := [(4, .int (Int32.ofInt 0)), (0, .ref (A 61)), (1, .int (Int32.ofInt x)), (2, .int (Int32.ofInt y)), (3, .int (Int32.ofInt z))]) (show cdA 66 1 = some (.istore 4, 2, 0, 0, 0) from rfl) (by decide) (fun _ h => h) ?_
  refine WS_lv (lv := [(0, .ref (A 61)), (1, .int (Int32.ofInt x)), (2, .int (Int32.ofInt y)), (3, .int (Int32.ofInt z)), (4, .int (Int32.ofInt 0))]) (List.forall_mem_cons.mpr ⟨(List.Mem.tail _ (List.Mem.head _)), (List.forall_mem_cons.mpr ⟨(List.Mem.tail _ (List.Mem.tail _ (List.Mem.head _))), (List.forall_mem_cons.mpr ⟨(List.Mem.tail _ (List.Mem.tail _ (List.Mem.tail _ (List.Mem.head _)))), (List.forall_mem_cons.mpr ⟨(List.Mem.tail _ (List.Mem.tail _ (List.Mem.tail _ (List.Mem.tail _ (List.Mem.head _))))), (List.forall_mem_cons.mpr ⟨(List.Mem.head _), (fun q h => absurd h List.not_mem_nil)⟩)⟩)⟩)⟩)⟩) ?_
  refine L3 ((8 - 0 : Int).toNat + 1) s x y z 0 I F (by first | exact ⟨And.intro (p0.1) (p0.2), And.intro (p1.1) (p1.2), And.intro (p2.1) (p2.2), by decide, by decide⟩ | omega) (Nat.lt_succ_self _) ?_
  intro s1 x2 Is1 Fs1 hs1
  exact w_vret X.1 q hRt (ax_d X (show cdA 66 80 = some (.return_, 1, 0, 0, 0) from rfl)) (Nat.zero_le _) (Nat.zero_le _) ⟨_, rfl, Is1, Fs1, rfl, trivial⟩
set_option maxRecDepth 4000 in
theorem c6_run_61 (G : GX l s0 D tys a0 dT) (I : Bd s) {x : Int} (p0 : 1 ≤ x ∧ x ≤ 8) : CT l s0 D A dT 62 (rmN 62) [.ref (A 61), .int (Int32.ofInt x)] s (fun o t => Bd t ∧ Fm [38] [53, 54, 55, 56] s t ∧ o = .inl none ∧ (True)) := by
  refine ct_ofX G (by decide) (Nat.le_of_ble_eq_true rfl) (fun k X E ET hRt hXt q => ?_)
  show WS k 0 [(0, .ref (A 61)), (1, .int (Int32.ofInt x))] [] _ 0 0
  have F : Fm [38] [53, 54, 55, 56] s s := fm_rf _ _ s
  have L31 : ∀ (n : Nat) (t : PS) (xv qq : Int), Bd t → Fm [38] [53, 54, 55, 56] s t → ((1 ≤ xv ∧ xv ≤ 8) ∧ 0 ≤ qq ∧ qq ≤ 24) → (24 - qq : Int).toNat < n → (∀ (t' : PS) (qq' : Int), Bd t' → Fm [38] [53, 54, 55, 56] s t' → ((1 ≤ xv ∧ xv ≤ 8) ∧ 0 ≤ qq' ∧ qq' ≤ 24) → WS k 119 [(0, .ref (A 61)), (1, .int (Int32.ofInt xv)), (2, .int (Int32.ofInt qq'))] [] (Wd A dT t') 0 0) → WS k 31 [(0, .ref (A 61)), (1, .int (Int32.ofInt xv)), (2, .int (Int32.ofInt qq))] [] (Wd A dT t) 0 0 := by
    intro n
    induction n with
    | zero =>
      intro t xv qq I F hi hm kx
      exact absurd hm (Nat.not_lt_zero _)
    | succ n ih =>
      intro t xv qq I F hi hm kx
      refine z_load_n X (x := qq) (show cdA 62 31 = some (.iload_n 2, 1, 0, 0, 0) from rfl) (List.Mem.tail _ (List.Mem.tail _ (List.Mem.head _))) ?_
      refine z_bipush X (show cdA 62 32 = some (.bipush 24, 2, 0, 0, 24) from rfl) ?_
      refine z_icmp_ge X (t := 119) (show cdA 62 34 = some (.if_icmp .ge 85, 3, 3, 0, 0) from rfl) (by decide) ⟨by first | exact oq_fa4e5087 hi.2.1 | omega, by first | exact oq_5bcd337f hi.2.2 | omega⟩ (by decide) (fun g1001 => ?_) (fun g1001 => ?_)
      ·
        refine WS_lv (lv := [(0, .ref (A 61)), (1, .int (Int32.ofInt xv)), (2, .int (Int32.ofInt qq))]) (List.forall_mem_cons.mpr ⟨(List.Mem.head _), (List.forall_mem_cons.mpr ⟨(List.Mem.tail _ (List.Mem.head _)), (List.forall_mem_cons.mpr ⟨(List.Mem.tail _ (List.Mem.tail _ (List.Mem.head _))), (fun q h => absurd h List.not_mem_nil)⟩)⟩)⟩) ?_
        exact kx _ qq I F (by first | exact ⟨And.intro (hi.1.1) (hi.1.2), hi.2.1, hi.2.2⟩ | omega)
      ·
        refine z_aload_n X (x := A 61) (show cdA 62 37 = some (.aload_n 0, 1, 0, 0, 0) from rfl) (List.Mem.head _) ?_
        refine s_getR X 61 (show cdA 62 38 = some (.getfield 34, 3, 6, 0, 0) from rfl) (by decide) rfl rfl ?_
        refine z_load_n X (x := qq) (show cdA 62 41 = some (.iload_n 2, 1, 0, 0, 0) from rfl) (List.Mem.tail _ (List.Mem.tail _ (List.Mem.head _))) ?_
        refine z_callV X 54 (rm := rmN 44) (As := [.int (Int32.ofInt qq)]) (st := []) (show cdA 62 42 = some (.invokevirtual 47, 3, 44, 0, 0) from rfl) rfl (by decide) rfl (by rw [E.1, E.2.1, E.2.2.1]; exact c4_needAt_54 G I (by first | exact ⟨hi.2.1, oq_c69fe266 g1001⟩ | omega)) ⟨by rw [E.2.2.2]; exact (show (rmN 44).frames + 1 ≤ (rmN 62).frames by decide), by rw [E.2.2.2]; exact (show 8 + (mNL (miB 44) + 11) + (rmN 44).locals ≤ (rmN 62).locals by decide), by rw [E.2.2.2]; exact (show 0 + (rmN 44).cells ≤ (rmN 62).cells by decide), by rw [E.2.2.2]; exact (show 0 + (rmN 44).slots ≤ (rmN 62).slots by decide)⟩ (Nat.le_of_ble_eq_true rfl) (fun vv s1002 hq => ?_) (fun ee s1002 hq => ?_)
        rotate_left
        · obtain ⟨Is1002, Fs1002, e1003, hv, hrs1002, hps1002⟩ := hq; cases hv
        obtain ⟨Is1002, Fs1002, e1003, hv, hrs1002, hps1002⟩ := hq
        cases hv
        have Gs1002 := fm_ts F Fs1002 (by decide) (by decide)
        show WS k 45 [(0, .ref (A 61)), (1, .int (Int32.ofInt xv)), (2, .int (Int32.ofInt qq))] [.int (Int32.ofInt e1003)] (Wd A dT s1002) 0 0
        refine z_store_n X (lv' := [(3, .int (Int32.ofInt e1003)), (0, .ref (A 61)), (1, .int (Int32.ofInt xv)), (2, .int (Int32.ofInt qq))]) (show cdA 62 45 = some (.istore_n 3, 1, 0, 0, 0) from rfl) (by decide) (fun _ h => h) ?_
        refine z_aload_n X (x := A 61) (show cdA 62 46 = some (.aload_n 0, 1, 0, 0, 0) from rfl) (List.Mem.tail _ (List.Mem.head _)) ?_
        refine z_aload_n X (x := A 61) (show cdA 62 47 = some (.aload_n 0, 1, 0, 0, 0) from rfl) (List.Mem.tail _ (List.Mem.head _)) ?_
        refine z_load_n X (x := xv) (show cdA 62 48 = some (.iload_n 1, 1, 0, 0, 0) from rfl) (List.Mem.tail _ (List.Mem.tail _ (List.Mem.head _))) ?_
        refine z_load_n X (x := qq) (show cdA 62 49 = some (.iload_n 2, 1, 0, 0, 0) from rfl) (List.Mem.tail _ (List.Mem.tail _ (List.Mem.tail _ (List.Mem.head _)))) ?_
        refine z_callV X 61 (rm := rmN 63) (As := [.int (Int32.ofInt xv), .int (Int32.ofInt qq)]) (st := [.ref (A 61)]) (show cdA 62 50 = some (.invokevirtual 53, 3, 63, 0, 0) from rfl) rfl (by decide) rfl (by rw [E.1, E.2.1, E.2.2.1]; exact c6_mayGoOn_61 G Is1002 (by first | exact ⟨hi.1.1, hi.1.2⟩ | omega) (by first | exact ⟨hi.2.1, oq_c69fe266 g1001⟩ | omega)) ⟨by rw [E.2.2.2]; exact (show (rmN 63).frames + 1 ≤ (rmN 62).frames by decide), by rw [E.2.2.2]; exact (show 8 + (mNL (miB 63) + 11) + (rmN 63).locals ≤ (rmN 62).locals by decide), by rw [E.2.2.2]; exact (show 0 + (rmN 63).cells ≤ (rmN 62).cells by decide), by rw [E.2.2.2]; exact (show 0 + (rmN 63).slots ≤ (rmN 62).slots by decide)⟩ (Nat.le_of_ble_eq_true rfl) (fun vv s1004 hq => ?_) (fun ee s1004 hq => ?_)
        rotate_left
        · obtain ⟨Is1004, Fs1004, e1005, hv, hrs1004, hps1004⟩ := hq; cases hv
        obtain ⟨Is1004, Fs1004, e1005, hv, hrs1004, hps1004⟩ := hq
        cases hv
        have Gs1004 := fm_ts Gs1002 Fs1004 (by decide) (by decide)
        show WS k 53 [(3, .int (Int32.ofInt e1003)), (0, .ref (A 61)), (1, .int (Int32.ofInt xv)), (2, .int (Int32.ofInt qq))] [.int (Int32.ofInt e1005), .ref (A 61)] (Wd A dT s1004) 0 0
        refine z_load_n X (x := e1003) (show cdA 62 53 = some (.iload_n 3, 1, 0, 0, 0) from rfl) (List.Mem.head _) ?_
        refine z_callV X 61 (rm := rmN 65) (As := [.int (Int32.ofInt e1005), .int (Int32.ofInt e1003)]) (st := []) (show cdA 62 54 = some (.invokevirtual 57, 3, 65, 0, 0) from rfl) rfl (by decide) rfl (by rw [E.1, E.2.1, E.2.2.1]; exact c6_fewestOf_61 G Is1004 (by omega) (by omega)) ⟨by rw [E.2.2.2]; exact (show (rmN 65).frames + 1 ≤ (rmN 62).frames by decide), by rw [E.2.2.2]; exact (show 8 + (mNL (miB 65) + 11) + (rmN 65).locals ≤ (rmN 62).locals by decide), by rw [E.2.2.2]; exact (show 0 + (rmN 65).cells ≤ (rmN 62).cells by decide), by rw [E.2.2.2]; exact (show 0 + (rmN 65).slots ≤ (rmN 62).slots by decide)⟩ (Nat.le_of_ble_eq_true rfl) (fun vv s1006 hq => ?_) (fun ee s1006 hq => ?_)
        rotate_left
        · obtain ⟨Is1006, Fs1006, e1007, hv, hrs1006, hps1006⟩ := hq; cases hv
        obtain ⟨Is1006, Fs1006, e1007, hv, hrs1006, hps1006⟩ := hq
        cases hv
        have Gs1006 := fm_ts Gs1004 Fs1006 (by decide) (by decide)
        show WS k 57 [(3, .int (Int32.ofInt e1003)), (0, .ref (A 61)), (1, .int (Int32.ofInt xv)), (2, .int (Int32.ofInt qq))] [.int (Int32.ofInt e1007)] (Wd A dT s1006) 0 0
        refine z_store X (lv' := [(4, .int (Int32.ofInt e1007)), (3, .int (Int32.ofInt e1003)), (0, .ref (A 61)), (1, .int (Int32.ofInt xv)), (2, .int (Int32.ofInt qq))]) (show cdA 62 57 = some (.istore 4, 2, 0, 0, 0) from rfl) (by decide) (fun _ h => h) ?_
        refine z_load X (x := e1007) (show cdA 62 59 = some (.iload 4, 2, 0, 0, 0) from rfl) (List.Mem.head _) ?_
        refine z_aload_n X (x := A 61) (show cdA 62 61 = some (.aload_n 0, 1, 0, 0, 0) from rfl) (List.Mem.tail _ (List.Mem.tail _ (List.Mem.head _))) ?_
        refine z_aload_n X (x := A 61) (show cdA 62 62 = some (.aload_n 0, 1, 0, 0, 0) from rfl) (List.Mem.tail _ (List.Mem.tail _ (List.Mem.head _))) ?_
        refine z_load_n X (x := xv) (show cdA 62 63 = some (.iload_n 1, 1, 0, 0, 0) from rfl) (List.Mem.tail _ (List.Mem.tail _ (List.Mem.tail _ (List.Mem.head _)))) ?_
        refine z_load_n X (x := qq) (show cdA 62 64 = some (.iload_n 2, 1, 0, 0, 0) from rfl) (List.Mem.tail _ (List.Mem.tail _ (List.Mem.tail _ (List.Mem.tail _ (List.Mem.head _))))) ?_
        refine z_callV X 61 (rm := rmN 64) (As := [.int (Int32.ofInt xv), .int (Int32.ofInt qq)]) (st := [.ref (A 61), .int (Int32.ofInt e1007)]) (show cdA 62 65 = some (.invokevirtual 60, 3, 64, 0, 0) from rfl) rfl (by decide) rfl (by rw [E.1, E.2.1, E.2.2.1]; exact c6_mayBegin_61 G Is1006 (by first | exact ⟨hi.1.1, hi.1.2⟩ | omega) (by first | exact ⟨hi.2.1, oq_c69fe266 g1001⟩ | omega)) ⟨by rw [E.2.2.2]; exact (show (rmN 64).frames + 1 ≤ (rmN 62).frames by decide), by rw [E.2.2.2]; exact (show 8 + (mNL (miB 64) + 11) + (rmN 64).locals ≤ (rmN 62).locals by decide), by rw [E.2.2.2]; exact (show 0 + (rmN 64).cells ≤ (rmN 62).cells by decide), by rw [E.2.2.2]; exact (show 0 + (rmN 64).slots ≤ (rmN 62).slots by decide)⟩ (Nat.le_of_ble_eq_true rfl) (fun vv s1008 hq => ?_) (fun ee s1008 hq => ?_)
        rotate_left
        · obtain ⟨Is1008, Fs1008, e1009, hv, hrs1008, hps1008⟩ := hq; cases hv
        obtain ⟨Is1008, Fs1008, e1009, hv, hrs1008, hps1008⟩ := hq
        cases hv
        have Gs1008 := fm_ts Gs1006 Fs1008 (by decide) (by decide)
        show WS k 68 [(4, .int (Int32.ofInt e1007)), (3, .int (Int32.ofInt e1003)), (0, .ref (A 61)), (1, .int (Int32.ofInt xv)), (2, .int (Int32.ofInt qq))] [.int (Int32.ofInt e1009), .ref (A 61), .int (Int32.ofInt e1007)] (Wd A dT s1008) 0 0
        refine z_load_n X (x := e1003) (show cdA 62 68 = some (.iload_n 3, 1, 0, 0, 0) from rfl) (List.Mem.tail _ (List.Mem.head _)) ?_
        refine z_load X (x := e1007) (show cdA 62 69 = some (.iload 4, 2, 0, 0, 0) from rfl) (List.Mem.head _) ?_
        refine z_callS X (rm := rmN 296) (As := [.int (Int32.ofInt e1007)]) (st := [.int (Int32.ofInt e1003), .int (Int32.ofInt e1009), .ref (A 61), .int (Int32.ofInt e1007)]) (show cdA 62 71 = some (.invokestatic 63, 3, 296, 1, 0) from rfl) rfl (by rw [E.1, E.2.1, E.2.2.1]; exact j_bitI G Is1008 (by omega)) ⟨by rw [E.2.2.2]; exact (show (rmN 296).frames + 1 ≤ (rmN 62).frames by decide), by rw [E.2.2.2]; exact (show 8 + (mNL (miB 296) + 11) + (rmN 296).locals ≤ (rmN 62).locals by decide), by rw [E.2.2.2]; exact (show 0 + (rmN 296).cells ≤ (rmN 62).cells by decide), by rw [E.2.2.2]; exact (show 0 + (rmN 296).slots ≤ (rmN 62).slots by decide)⟩ (Nat.le_of_ble_eq_true rfl) (fun vv s1010 hq => ?_) (fun ee s1010 hq => ?_)
        rotate_left
        · obtain ⟨Is1010, Fs1010, e1011, hv, hrs1010, hps1010⟩ := hq; cases hv
        obtain ⟨Is1010, Fs1010, e1011, hv, hrs1010, hps1010⟩ := hq
        cases hv
        have Gs1010 := fm_ts Gs1008 Fs1010 (by decide) (by decide)
        show WS k 74 [(4, .int (Int32.ofInt e1007)), (3, .int (Int32.ofInt e1003)), (0, .ref (A 61)), (1, .int (Int32.ofInt xv)), (2, .int (Int32.ofInt qq))] [.int (Int32.ofInt e1011), .int (Int32.ofInt e1003), .int (Int32.ofInt e1009), .ref (A 61), .int (Int32.ofInt e1007)] (Wd A dT s1010) 0 0
        refine z_sub X (show cdA 62 74 = some (.isub, 1, 0, 0, 0) from rfl) ?_
        refine z_any (fun y1012 hy1012 => ?_)
        refine z_callV X 61 (rm := rmN 65) (As := [.int (Int32.ofInt e1009), .int (Int32.ofInt y1012)]) (st := [.int (Int32.ofInt e1007)]) (show cdA 62 75 = some (.invokevirtual 57, 3, 65, 0, 0) from rfl) rfl (by decide) rfl (by rw [E.1, E.2.1, E.2.2.1]; exact c6_fewestOf_61 G Is1010 (by omega) (by first | exact ⟨hy1012.1, hy1012.2⟩ | omega)) ⟨by rw [E.2.2.2]; exact (show (rmN 65).frames + 1 ≤ (rmN 62).frames by decide), by rw [E.2.2.2]; exact (show 8 + (mNL (miB 65) + 11) + (rmN 65).locals ≤ (rmN 62).locals by decide), by rw [E.2.2.2]; exact (show 0 + (rmN 65).cells ≤ (rmN 62).cells by decide), by rw [E.2.2.2]; exact (show 0 + (rmN 65).slots ≤ (rmN 62).slots by decide)⟩ (Nat.le_of_ble_eq_true rfl) (fun vv s1013 hq => ?_) (fun ee s1013 hq => ?_)
        rotate_left
        · obtain ⟨Is1013, Fs1013, e1014, hv, hrs1013, hps1013⟩ := hq; cases hv
        obtain ⟨Is1013, Fs1013, e1014, hv, hrs1013, hps1013⟩ := hq
        cases hv
        have Gs1013 := fm_ts Gs1010 Fs1013 (by decide) (by decide)
        show WS k 78 [(4, .int (Int32.ofInt e1007)), (3, .int (Int32.ofInt e1003)), (0, .ref (A 61)), (1, .int (Int32.ofInt xv)), (2, .int (Int32.ofInt qq))] [.int (Int32.ofInt e1014), .int (Int32.ofInt e1007)] (Wd A dT s1013) 0 0
        refine z_bor X (show cdA 62 78 = some (.ior, 1, 0, 0, 0) from rfl) ?_
        refine z_any (fun y1015 hy1015 => ?_)
        refine z_store X (lv' := [(4, .int (Int32.ofInt y1015)), (3, .int (Int32.ofInt e1003)), (0, .ref (A 61)), (1, .int (Int32.ofInt xv)), (2, .int (Int32.ofInt qq))]) (show cdA 62 79 = some (.istore 4, 2, 0, 0, 0) from rfl) (by decide) (fun _ h => h) ?_
        refine z_aload_n X (x := A 61) (show cdA 62 81 = some (.aload_n 0, 1, 0, 0, 0) from rfl) (List.Mem.tail _ (List.Mem.tail _ (List.Mem.head _))) ?_
        refine w_dup X.1 (ax_d X (show cdA 62 82 = some (.dup, 1, 0, 0, 0) from rfl)) rfl ?_
        refine z_getI X 61 (show cdA 62 83 = some (.getfield 44, 3, 6, 8, 0) from rfl) (by decide) rfl rfl ?_
        have b1016 : ((-2147483648) : Int) ≤ iI s1013 38 ∧ iI s1013 38 ≤ 2147483647 := Is1013.1 38
        refine z_load_n X (x := e1003) (show cdA 62 86 = some (.iload_n 3, 1, 0, 0, 0) from rfl) (List.Mem.tail _ (List.Mem.head _)) ?_
        refine z_load X (x := y1015) (show cdA 62 87 = some (.iload 4, 2, 0, 0, 0) from rfl) (List.Mem.head _) ?_
        refine z_callS X (rm := rmN 296) (As := [.int (Int32.ofInt y1015)]) (st := [.int (Int32.ofInt e1003), .int (Int32.ofInt (iI s1013 38)), .ref (A 61)]) (show cdA 62 89 = some (.invokestatic 63, 3, 296, 1, 0) from rfl) rfl (by rw [E.1, E.2.1, E.2.2.1]; exact j_bitI G Is1013 (by first | exact ⟨hy1015.1, hy1015.2⟩ | omega)) ⟨by rw [E.2.2.2]; exact (show (rmN 296).frames + 1 ≤ (rmN 62).frames by decide), by rw [E.2.2.2]; exact (show 8 + (mNL (miB 296) + 11) + (rmN 296).locals ≤ (rmN 62).locals by decide), by rw [E.2.2.2]; exact (show 0 + (rmN 296).cells ≤ (rmN 62).cells by decide), by rw [E.2.2.2]; exact (show 0 + (rmN 296).slots ≤ (rmN 62).slots by decide)⟩ (Nat.le_of_ble_eq_true rfl) (fun vv s1017 hq => ?_) (fun ee s1017 hq => ?_)
        rotate_left
        · obtain ⟨Is1017, Fs1017, e1018, hv, hrs1017, hps1017⟩ := hq; cases hv
        obtain ⟨Is1017, Fs1017, e1018, hv, hrs1017, hps1017⟩ := hq
        cases hv
        have Gs1017 := fm_ts Gs1013 Fs1017 (by decide) (by decide)
        show WS k 92 [(4, .int (Int32.ofInt y1015)), (3, .int (Int32.ofInt e1003)), (0, .ref (A 61)), (1, .int (Int32.ofInt xv)), (2, .int (Int32.ofInt qq))] [.int (Int32.ofInt e1018), .int (Int32.ofInt e1003), .int (Int32.ofInt (iI s1013 38)), .ref (A 61)] (Wd A dT s1017) 0 0
        refine z_sub X (show cdA 62 92 = some (.isub, 1, 0, 0, 0) from rfl) ?_
        refine z_any (fun y1019 hy1019 => ?_)
        refine z_add X (show cdA 62 93 = some (.iadd, 1, 0, 0, 0) from rfl) ?_
        refine z_any (fun y1020 hy1020 => ?_)
        refine s_putI X 61 (show cdA 62 94 = some (.putfield 44, 3, 6, 8, 0) from rfl) (by decide) rfl rfl (by decide) rfl rfl rfl ?_
        obtain ⟨s1021, hs1021⟩ : ∃ x0, x0 = uI s1017 38 (Int32.ofInt y1020) := ⟨_, rfl⟩
        rw [← hs1021]
        have Is1021 : Bd s1021 := by rw [hs1021]; exact bd_I Is1017 (show ((-2147483648) : Int) ≤ y1020 ∧ y1020 ≤ 2147483647 by first | exact ⟨hy1020.1, hy1020.2⟩ | omega) hy1020
        have Fs1021 := fm_I (x := Int32.ofInt y1020) Gs1017 (show 38 ∈ _ by decide)
        rw [← hs1021] at Fs1021
        have vs1021 : iI s1021 38 = y1020 := by rw [hs1021]; exact iI_u hy1020
        refine z_aload_n X (x := A 61) (show cdA 62 97 = some (.aload_n 0, 1, 0, 0, 0) from rfl) (List.Mem.tail _ (List.Mem.tail _ (List.Mem.head _))) ?_
        refine s_getR X 61 (show cdA 62 98 = some (.getfield 31, 3, 6, 7, 0) from rfl) (by decide) rfl rfl ?_
        refine z_load_n X (x := qq) (show cdA 62 101 = some (.iload_n 2, 1, 0, 0, 0) from rfl) (List.Mem.tail _ (List.Mem.tail _ (List.Mem.tail _ (List.Mem.tail _ (List.Mem.head _))))) ?_
        refine z_load X (x := y1015) (show cdA 62 102 = some (.iload 4, 2, 0, 0, 0) from rfl) (List.Mem.head _) ?_
        refine z_ast X 66 (show cdA 62 104 = some (.iastore, 1, 0, 0, 0) from rfl) (by decide) rfl (by first | exact hi.2.1 | omega) (show qq < 24 by first | exact g1001 | omega) (by decide) ?_
        obtain ⟨s1022, hs1022⟩ : ∃ x0, x0 = uC s1021 56 (qq).toNat (Int32.ofInt y1015) := ⟨_, rfl⟩
        rw [← hs1022]
        have Is1022 : Bd s1022 := by rw [hs1022]; exact bd_C Is1021 (show ((-2147483648) : Int) ≤ y1015 ∧ y1015 ≤ 2147483647 by first | exact ⟨hy1015.1, hy1015.2⟩ | omega) hy1015
        have Fs1022 := fm_C (i := (qq).toNat) (x := Int32.ofInt y1015) Fs1021 (show 56 ∈ _ by decide)
        rw [← hs1022] at Fs1022
        refine z_aload_n X (x := A 61) (show cdA 62 105 = some (.aload_n 0, 1, 0, 0, 0) from rfl) (List.Mem.tail _ (List.Mem.tail _ (List.Mem.head _))) ?_
        refine z_load_n X (x := xv) (show cdA 62 106 = some (.iload_n 1, 1, 0, 0, 0) from rfl) (List.Mem.tail _ (List.Mem.tail _ (List.Mem.tail _ (List.Mem.head _)))) ?_
        refine z_load_n X (x := qq) (show cdA 62 107 = some (.iload_n 2, 1, 0, 0, 0) from rfl) (List.Mem.tail _ (List.Mem.tail _ (List.Mem.tail _ (List.Mem.tail _ (List.Mem.head _))))) ?_
        refine z_load X (x := y1015) (show cdA 62 108 = some (.iload 4, 2, 0, 0, 0) from rfl) (List.Mem.head _) ?_
        refine z_callV X 61 (rm := rmN 66) (As := [.int (Int32.ofInt xv), .int (Int32.ofInt qq), .int (Int32.ofInt y1015)]) (st := []) (show cdA 62 110 = some (.invokevirtual 68, 3, 66, 0, 0) from rfl) rfl (by decide) rfl (by rw [E.1, E.2.1, E.2.2.1]; exact c6_settle_61 G Is1022 (by first | exact ⟨hi.1.1, hi.1.2⟩ | omega) (by first | exact ⟨hi.2.1, oq_c69fe266 g1001⟩ | omega) (by first | exact ⟨hy1015.1, hy1015.2⟩ | omega)) ⟨by rw [E.2.2.2]; exact (show (rmN 66).frames + 1 ≤ (rmN 62).frames by decide), by rw [E.2.2.2]; exact (show 8 + (mNL (miB 66) + 11) + (rmN 66).locals ≤ (rmN 62).locals by decide), by rw [E.2.2.2]; exact (show 0 + (rmN 66).cells ≤ (rmN 62).cells by decide), by rw [E.2.2.2]; exact (show 0 + (rmN 66).slots ≤ (rmN 62).slots by decide)⟩ (Nat.le_of_ble_eq_true rfl) (fun vv s1023 hq => ?_) (fun ee s1023 hq => ?_)
        rotate_left
        · obtain ⟨Is1023, Fs1023, hv, hps1023⟩ := hq; cases hv
        obtain ⟨Is1023, Fs1023, hv, hps1023⟩ := hq
        cases hv
        have Gs1023 := fm_ts Fs1022 Fs1023 (by decide) (by decide)
        show WS k 113 [(4, .int (Int32.ofInt y1015)), (3, .int (Int32.ofInt e1003)), (0, .ref (A 61)), (1, .int (Int32.ofInt xv)), (2, .int (Int32.ofInt qq))] [] (Wd A dT s1023) 0 0
        refine z_inc X (x := qq) (lv' := [(2, .int (Int32.ofInt (qq + 1))), (4, .int (Int32.ofInt y1015)), (3, .int (Int32.ofInt e1003)), (0, .ref (A 61)), (1, .int (Int32.ofInt xv))]) (show cdA 62 113 = some (.iinc 2 1, 3, 0, 0, 0) from rfl) (by decide) (List.Mem.tail _ (List.Mem.tail _ (List.Mem.tail _ (List.Mem.tail _ (List.Mem.head _))))) (fun _ h => h) ?_
        refine z_goto X (t := 31) (show cdA 62 116 = some (.goto (-85), 3, 0, 0, 0) from rfl) (by decide) ?_
        refine WS_lv (lv := [(0, .ref (A 61)), (1, .int (Int32.ofInt xv)), (2, .int (Int32.ofInt (qq + 1)))]) (List.forall_mem_cons.mpr ⟨(List.Mem.tail _ (List.Mem.tail _ (List.Mem.tail _ (List.Mem.head _)))), (List.forall_mem_cons.mpr ⟨(List.Mem.tail _ (List.Mem.tail _ (List.Mem.tail _ (List.Mem.tail _ (List.Mem.head _))))), (List.forall_mem_cons.mpr ⟨(List.Mem.head _), (fun q h => absurd h List.not_mem_nil)⟩)⟩)⟩) ?_
        exact ih _ xv (qq + 1) Is1023 Gs1023 (by first | exact ⟨And.intro (hi.1.1) (hi.1.2), oq_54f49eb5 hi.2.1, oq_cec7cb2e g1001⟩ | omega) (by first | exact qk_me hm (by decide) (oq_ffa8317e g1001) | omega) kx
  refine z_aload_n X (x := A 61) (show cdA 62 0 = some (.aload_n 0, 1, 0, 0, 0) from rfl) (List.Mem.head _) ?_
  refine s_getR X 61 (show cdA 62 1 = some (.getfield 22, 3, 6, 4, 0) from rfl) (by decide) rfl rfl ?_
  refine z_const X (show cdA 62 4 = some (.iconst 0, 1, 0, 0, 0) from rfl) ?_
  refine z_callS X (rm := rmN 312) (As := [.ref (A 63), .int (Int32.ofInt 0)]) (st := []) (show cdA 62 5 = some (.invokestatic 38, 3, 312, 1, 0) from rfl) rfl (by rw [E.1, E.2.1, E.2.2.1]; exact j_fill_63 G I (by first | exact ⟨by decide, by decide⟩ | omega)) ⟨by rw [E.2.2.2]; exact (show (rmN 312).frames + 1 ≤ (rmN 62).frames by decide), by rw [E.2.2.2]; exact (show 8 + (mNL (miB 312) + 11) + (rmN 312).locals ≤ (rmN 62).locals by decide), by rw [E.2.2.2]; exact (show 0 + (rmN 312).cells ≤ (rmN 62).cells by decide), by rw [E.2.2.2]; exact (show 0 + (rmN 312).slots ≤ (rmN 62).slots by decide)⟩ (Nat.le_of_ble_eq_true rfl) (fun vv s1 hq => ?_) (fun ee s1 hq => ?_)
  rotate_left
  · obtain ⟨Is1, Fs1, hv, hps1⟩ := hq; cases hv
  obtain ⟨Is1, Fs1, hv, hps1⟩ := hq
  cases hv
  have Gs1 := fm_ts F Fs1 (by decide) (by decide)
  show WS k 8 [(0, .ref (A 61)), (1, .int (Int32.ofInt x))] [] (Wd A dT s1) 0 0
  refine z_aload_n X (x := A 61) (show cdA 62 8 = some (.aload_n 0, 1, 0, 0, 0) from rfl) (List.Mem.head _) ?_
  refine s_getR X 61 (show cdA 62 9 = some (.getfield 25, 3, 6, 5, 0) from rfl) (by decide) rfl rfl ?_
  refine z_const X (show cdA 62 12 = some (.iconst 0, 1, 0, 0, 0) from rfl) ?_
  refine z_callS X (rm := rmN 312) (As := [.ref (A 64), .int (Int32.ofInt 0)]) (st := []) (show cdA 62 13 = some (.invokestatic 38, 3, 312, 1, 0) from rfl) rfl (by rw [E.1, E.2.1, E.2.2.1]; exact j_fill_64 G Is1 (by first | exact ⟨by decide, by decide⟩ | omega)) ⟨by rw [E.2.2.2]; exact (show (rmN 312).frames + 1 ≤ (rmN 62).frames by decide), by rw [E.2.2.2]; exact (show 8 + (mNL (miB 312) + 11) + (rmN 312).locals ≤ (rmN 62).locals by decide), by rw [E.2.2.2]; exact (show 0 + (rmN 312).cells ≤ (rmN 62).cells by decide), by rw [E.2.2.2]; exact (show 0 + (rmN 312).slots ≤ (rmN 62).slots by decide)⟩ (Nat.le_of_ble_eq_true rfl) (fun vv s3 hq => ?_) (fun ee s3 hq => ?_)
  rotate_left
  · obtain ⟨Is3, Fs3, hv, hps3⟩ := hq; cases hv
  obtain ⟨Is3, Fs3, hv, hps3⟩ := hq
  cases hv
  have Gs3 := fm_ts Gs1 Fs3 (by decide) (by decide)
  show WS k 16 [(0, .ref (A 61)), (1, .int (Int32.ofInt x))] [] (Wd A dT s3) 0 0
  refine z_aload_n X (x := A 61) (show cdA 62 16 = some (.aload_n 0, 1, 0, 0, 0) from rfl) (List.Mem.head _) ?_
  refine s_getR X 61 (show cdA 62 17 = some (.getfield 28, 3, 6, 6, 0) from rfl) (by decide) rfl rfl ?_
  refine z_const X (show cdA 62 20 = some (.iconst 0, 1, 0, 0, 0) from rfl) ?_
  refine z_callS X (rm := rmN 312) (As := [.ref (A 65), .int (Int32.ofInt 0)]) (st := []) (show cdA 62 21 = some (.invokestatic 38, 3, 312, 1, 0) from rfl) rfl (by rw [E.1, E.2.1, E.2.2.1]; exact j_fill_65 G Is3 (by first | exact ⟨by decide, by decide⟩ | omega)) ⟨by rw [E.2.2.2]; exact (show (rmN 312).frames + 1 ≤ (rmN 62).frames by decide), by rw [E.2.2.2]; exact (show 8 + (mNL (miB 312) + 11) + (rmN 312).locals ≤ (rmN 62).locals by decide), by rw [E.2.2.2]; exact (show 0 + (rmN 312).cells ≤ (rmN 62).cells by decide), by rw [E.2.2.2]; exact (show 0 + (rmN 312).slots ≤ (rmN 62).slots by decide)⟩ (Nat.le_of_ble_eq_true rfl) (fun vv s5 hq => ?_) (fun ee s5 hq => ?_)
  rotate_left
  · obtain ⟨Is5, Fs5, hv, hps5⟩ := hq; cases hv
  obtain ⟨Is5, Fs5, hv, hps5⟩ := hq
  cases hv
  have Gs5 := fm_ts Gs3 Fs5 (by decide) (by decide)
  show WS k 24 [(0, .ref (A 61)), (1, .int (Int32.ofInt x))] [] (Wd A dT s5) 0 0
  refine z_aload_n X (x := A 61) (show cdA 62 24 = some (.aload_n 0, 1, 0, 0, 0) from rfl) (List.Mem.head _) ?_
  refine z_const X (show cdA 62 25 = some (.iconst 0, 1, 0, 0, 0) from rfl) ?_
  refine s_putI X 61 (show cdA 62 26 = some (.putfield 44, 3, 6, 8, 0) from rfl) (by decide) rfl rfl (by decide) rfl rfl rfl ?_
  obtain ⟨s7, hs7⟩ : ∃ x0, x0 = uI s5 38 (Int32.ofInt 0) := ⟨_, rfl⟩
  rw [← hs7]
  have Is7 : Bd s7 := by rw [hs7]; exact bd_I Is5 (show ((-2147483648) : Int) ≤ 0 ∧ 0 ≤ 2147483647 by first | exact ⟨by decide, by decide⟩ | omega) (by decide)
  have Fs7 := fm_I (x := Int32.ofInt 0) Gs5 (show 38 ∈ _ by decide)
  rw [← hs7] at Fs7
  have vs7 : iI s7 38 = 0 := by rw [hs7]; exact iI_u (by decide)
  refine z_const X (show cdA 62 29 = some (.iconst 0, 1, 0, 0, 0) from rfl) ?_
  refine z_store_n X (lv' := [(2, .int (Int32.ofInt 0)), (0, .ref (A 61)), (1, .int (Int32.ofInt x))]) (show cdA 62 30 = some (.istore_n 2, 1, 0, 0, 0) from rfl) (by decide) (fun _ h => h) ?_
  refine WS_lv (lv := [(0, .ref (A 61)), (1, .int (Int32.ofInt x)), (2, .int (Int32.ofInt 0))]) (List.forall_mem_cons.mpr ⟨(List.Mem.tail _ (List.Mem.head _)), (List.forall_mem_cons.mpr ⟨(List.Mem.tail _ (List.Mem.tail _ (List.Mem.head _))), (List.forall_mem_cons.mpr ⟨(List.Mem.head _), (fun q h => absurd h List.not_mem_nil)⟩)⟩)⟩) ?_
  refine L31 ((24 - 0 : Int).toNat + 1) s7 x 0 Is7 Fs7 (by first | exact ⟨And.intro (p0.1) (p0.2), by decide, by decide⟩ | omega) (Nat.lt_succ_self _) ?_
  intro s8 x9 Is8 Fs8 hs8
  exact w_vret X.1 q hRt (ax_d X (show cdA 62 119 = some (.return_, 1, 0, 0, 0) from rfl)) (Nat.zero_le _) (Nat.zero_le _) ⟨_, rfl, Is8, Fs8, rfl, trivial⟩
set_option maxRecDepth 4000 in
theorem c2_isWhole_41 (G : GX l s0 D tys a0 dT) (I : Bd s) {x : Int} (p0 : 0 ≤ x ∧ x ≤ 7) : CT l s0 D A dT 19 (rmN 19) [.ref (A 41), .int (Int32.ofInt x)] s (fun o t => Bd t ∧ Fm [] [] s t ∧ ∃ e, o = .inl (some (.int (Int32.ofInt e))) ∧ rng e ∧ (e = 0 ∨ e = 1)) := by
  refine ct_ofX G (by decide) (Nat.le_of_ble_eq_true rfl) (fun k X E ET hRt hXt q => ?_)
  show WS k 0 [(0, .ref (A 41)), (1, .int (Int32.ofInt x))] [] _ 0 0
  have F : Fm [] [] s s := fm_rf _ _ s
  refine z_aload_n X (x := A 41) (show cdA 19 0 = some (.aload_n 0, 1, 0, 0, 0) from rfl) (List.Mem.head _) ?_
  refine s_getR X 41 (show cdA 19 1 = some (.getfield 29, 3, 2, 1, 0) from rfl) (by decide) rfl rfl ?_
  refine s_getR X 25 (show cdA 19 4 = some (.getfield 41, 3, 3, 1, 0) from rfl) (by decide) rfl rfl ?_
  refine z_load_n X (x := x) (show cdA 19 7 = some (.iload_n 1, 1, 0, 0, 0) from rfl) (List.Mem.tail _ (List.Mem.head _)) ?_
  refine z_lald X 27 (show cdA 19 8 = some (.laload, 1, 0, 0, 0) from rfl) (by decide) rfl (by first | exact p0.1 | omega) (show x < 8 by first | exact oq_aaea290e p0.2 | omega) (by decide) (fun j1 => ?_)
  refine z_aload_n X (x := A 41) (show cdA 19 9 = some (.aload_n 0, 1, 0, 0, 0) from rfl) (List.Mem.head _) ?_
  refine s_getR X 41 (show cdA 19 10 = some (.getfield 29, 3, 2, 1, 0) from rfl) (by decide) rfl rfl ?_
  refine s_getR X 25 (show cdA 19 13 = some (.getfield 47, 3, 3, 2, 0) from rfl) (by decide) rfl rfl ?_
  refine z_load_n X (x := x) (show cdA 19 16 = some (.iload_n 1, 1, 0, 0, 0) from rfl) (List.Mem.tail _ (List.Mem.head _)) ?_
  refine z_lald X 28 (show cdA 19 17 = some (.laload, 1, 0, 0, 0) from rfl) (by decide) rfl (by first | exact p0.1 | omega) (show x < 8 by first | exact oq_aaea290e p0.2 | omega) (by decide) (fun j2 => ?_)
  refine z_callS X (rm := rmN 34) (As := [.long j1, .long j2]) (st := []) (show cdA 19 18 = some (.invokestatic 63, 3, 34, 1, 0) from rfl) rfl (by rw [E.1, E.2.1, E.2.2.1]; exact c3_hangs G I ) ⟨by rw [E.2.2.2]; exact (show (rmN 34).frames + 1 ≤ (rmN 19).frames by decide), by rw [E.2.2.2]; exact (show 8 + (mNL (miB 34) + 11) + (rmN 34).locals ≤ (rmN 19).locals by decide), by rw [E.2.2.2]; exact (show 0 + (rmN 34).cells ≤ (rmN 19).cells by decide), by rw [E.2.2.2]; exact (show 0 + (rmN 34).slots ≤ (rmN 19).slots by decide)⟩ (Nat.le_of_ble_eq_true rfl) (fun vv s3 hq => ?_) (fun ee s3 hq => ?_)
  rotate_left
  · obtain ⟨Is3, Fs3, e4, hv, hrs3, hps3⟩ := hq; cases hv
  obtain ⟨Is3, Fs3, e4, hv, hrs3, hps3⟩ := hq
  cases hv
  have Gs3 := fm_ts F Fs3 (by decide) (by decide)
  show WS k 21 [(0, .ref (A 41)), (1, .int (Int32.ofInt x))] [.int (Int32.ofInt e4)] (Wd A dT s3) 0 0
  exact w_iret X.1 q hRt (nar_ret (by first | exact hps3 | omega)) (ax_d X (show cdA 19 21 = some (.ireturn, 1, 0, 0, 0) from rfl)) (Nat.zero_le _) (Nat.zero_le _) ⟨_, rfl, Is3, Gs3, e4, rfl, hrs3, by first | exact hps3 | omega⟩
set_option maxRecDepth 4000 in
theorem c2_stands_41 (G : GX l s0 D tys a0 dT) (I : Bd s) {x : Int} (p0 : 0 ≤ x ∧ x ≤ 7) : CT l s0 D A dT 18 (rmN 18) [.ref (A 41), .int (Int32.ofInt x)] s (fun o t => Bd t ∧ Fm [22, 23, 24] [33, 26, 27, 28, 29, 30, 31, 32, 20] s t ∧ ∃ e, o = .inl (some (.int (Int32.ofInt e))) ∧ rng e ∧ (e = 0 ∨ e = 1)) := by
  refine ct_ofX G (by decide) (Nat.le_of_ble_eq_true rfl) (fun k X E ET hRt hXt q => ?_)
  show WS k 0 [(0, .ref (A 41)), (1, .int (Int32.ofInt x))] [] _ 0 0
  have F : Fm [22, 23, 24] [33, 26, 27, 28, 29, 30, 31, 32, 20] s s := fm_rf _ _ s
  refine z_aload_n X (x := A 41) (show cdA 18 0 = some (.aload_n 0, 1, 0, 0, 0) from rfl) (List.Mem.head _) ?_
  refine z_load_n X (x := x) (show cdA 18 1 = some (.iload_n 1, 1, 0, 0, 0) from rfl) (List.Mem.tail _ (List.Mem.head _)) ?_
  refine z_callV X 41 (rm := rmN 19) (As := [.int (Int32.ofInt x)]) (st := []) (show cdA 18 2 = some (.invokevirtual 37, 3, 19, 0, 0) from rfl) rfl (by decide) rfl (by rw [E.1, E.2.1, E.2.2.1]; exact c2_isWhole_41 G I (by first | exact ⟨p0.1, p0.2⟩ | omega)) ⟨by rw [E.2.2.2]; exact (show (rmN 19).frames + 1 ≤ (rmN 18).frames by decide), by rw [E.2.2.2]; exact (show 8 + (mNL (miB 19) + 11) + (rmN 19).locals ≤ (rmN 18).locals by decide), by rw [E.2.2.2]; exact (show 0 + (rmN 19).cells ≤ (rmN 18).cells by decide), by rw [E.2.2.2]; exact (show 0 + (rmN 19).slots ≤ (rmN 18).slots by decide)⟩ (Nat.le_of_ble_eq_true rfl) (fun vv s1 hq => ?_) (fun ee s1 hq => ?_)
  rotate_left
  · obtain ⟨Is1, Fs1, e2, hv, hrs1, hps1⟩ := hq; cases hv
  obtain ⟨Is1, Fs1, e2, hv, hrs1, hps1⟩ := hq
  cases hv
  have Gs1 := fm_ts F Fs1 (by decide) (by decide)
  show WS k 5 [(0, .ref (A 41)), (1, .int (Int32.ofInt x))] [.int (Int32.ofInt e2)] (Wd A dT s1) 0 0
  refine z_if_ne X (t := 10) (show cdA 18 5 = some (.ifCond .ne 5, 3, 1, 0, 0) from rfl) (by decide) hrs1 (fun g3 => ?_) (fun g3 => ?_)
  ·
    refine z_aload_n X (x := A 41) (show cdA 18 10 = some (.aload_n 0, 1, 0, 0, 0) from rfl) (List.Mem.head _) ?_
    refine s_getR X 41 (show cdA 18 11 = some (.getfield 33, 3, 2, 2, 0) from rfl) (by decide) rfl rfl ?_
    refine z_aload_n X (x := A 41) (show cdA 18 14 = some (.aload_n 0, 1, 0, 0, 0) from rfl) (List.Mem.head _) ?_
    refine s_getR X 41 (show cdA 18 15 = some (.getfield 29, 3, 2, 1, 0) from rfl) (by decide) rfl rfl ?_
    refine s_getR X 25 (show cdA 18 18 = some (.getfield 41, 3, 3, 1, 0) from rfl) (by decide) rfl rfl ?_
    refine z_load_n X (x := x) (show cdA 18 21 = some (.iload_n 1, 1, 0, 0, 0) from rfl) (List.Mem.tail _ (List.Mem.head _)) ?_
    refine z_lald X 27 (show cdA 18 22 = some (.laload, 1, 0, 0, 0) from rfl) (by decide) rfl (by first | exact p0.1 | omega) (show x < 8 by first | exact oq_aaea290e p0.2 | omega) (by decide) (fun j4 => ?_)
    refine z_aload_n X (x := A 41) (show cdA 18 23 = some (.aload_n 0, 1, 0, 0, 0) from rfl) (List.Mem.head _) ?_
    refine s_getR X 41 (show cdA 18 24 = some (.getfield 29, 3, 2, 1, 0) from rfl) (by decide) rfl rfl ?_
    refine s_getR X 25 (show cdA 18 27 = some (.getfield 47, 3, 3, 2, 0) from rfl) (by decide) rfl rfl ?_
    refine z_load_n X (x := x) (show cdA 18 30 = some (.iload_n 1, 1, 0, 0, 0) from rfl) (List.Mem.tail _ (List.Mem.head _)) ?_
    refine z_lald X 28 (show cdA 18 31 = some (.laload, 1, 0, 0, 0) from rfl) (by decide) rfl (by first | exact p0.1 | omega) (show x < 8 by first | exact oq_aaea290e p0.2 | omega) (by decide) (fun j5 => ?_)
    refine z_const X (show cdA 18 32 = some (.iconst 1, 1, 0, 0, 0) from rfl) ?_
    refine z_callV X 31 (rm := rmN 1) (As := [.long j4, .long j5, .int (Int32.ofInt 1)]) (st := []) (show cdA 18 33 = some (.invokevirtual 50, 3, 1, 0, 0) from rfl) rfl (by decide) rfl (by rw [E.1, E.2.1, E.2.2.1]; exact c0_listen_31 G Is1 (by first | exact ⟨by decide, by decide⟩ | omega)) ⟨by rw [E.2.2.2]; exact (show (rmN 1).frames + 1 ≤ (rmN 18).frames by decide), by rw [E.2.2.2]; exact (show 8 + (mNL (miB 1) + 11) + (rmN 1).locals ≤ (rmN 18).locals by decide), by rw [E.2.2.2]; exact (show 0 + (rmN 1).cells ≤ (rmN 18).cells by decide), by rw [E.2.2.2]; exact (show 0 + (rmN 1).slots ≤ (rmN 18).slots by decide)⟩ (Nat.le_of_ble_eq_true rfl) (fun vv s6 hq => ?_) (fun ee s6 hq => ?_)
    rotate_left
    · obtain ⟨Is6, Fs6, hv, hps6⟩ := hq; cases hv
    obtain ⟨Is6, Fs6, hv, hps6⟩ := hq
    cases hv
    have Gs6 := fm_ts Gs1 Fs6 (by decide) (by decide)
    show WS k 36 [(0, .ref (A 41)), (1, .int (Int32.ofInt x))] [] (Wd A dT s6) 0 0
    refine z_aload_n X (x := A 41) (show cdA 18 36 = some (.aload_n 0, 1, 0, 0, 0) from rfl) (List.Mem.head _) ?_
    refine s_getR X 41 (show cdA 18 37 = some (.getfield 33, 3, 2, 2, 0) from rfl) (by decide) rfl rfl ?_
    refine z_callV X 31 (rm := rmN 5) (As := []) (st := []) (show cdA 18 40 = some (.invokevirtual 56, 3, 5, 0, 0) from rfl) rfl (by decide) rfl (by rw [E.1, E.2.1, E.2.2.1]; exact c0_findPeak_31 G Is6 ) ⟨by rw [E.2.2.2]; exact (show (rmN 5).frames + 1 ≤ (rmN 18).frames by decide), by rw [E.2.2.2]; exact (show 8 + (mNL (miB 5) + 11) + (rmN 5).locals ≤ (rmN 18).locals by decide), by rw [E.2.2.2]; exact (show 0 + (rmN 5).cells ≤ (rmN 18).cells by decide), by rw [E.2.2.2]; exact (show 0 + (rmN 5).slots ≤ (rmN 18).slots by decide)⟩ (Nat.le_of_ble_eq_true rfl) (fun vv s8 hq => ?_) (fun ee s8 hq => ?_)
    rotate_left
    · obtain ⟨Is8, Fs8, e9, hv, hrs8, hps8⟩ := hq; cases hv
    obtain ⟨Is8, Fs8, e9, hv, hrs8, hps8⟩ := hq
    cases hv
    have Gs8 := fm_ts Gs6 Fs8 (by decide) (by decide)
    show WS k 43 [(0, .ref (A 41)), (1, .int (Int32.ofInt x))] [.int (Int32.ofInt e9)] (Wd A dT s8) 0 0
    refine z_aload_n X (x := A 41) (show cdA 18 43 = some (.aload_n 0, 1, 0, 0, 0) from rfl) (List.Mem.head _) ?_
    refine s_getR X 41 (show cdA 18 44 = some (.getfield 29, 3, 2, 1, 0) from rfl) (by decide) rfl rfl ?_
    refine s_getR X 25 (show cdA 18 47 = some (.getfield 60, 3, 3, 3, 0) from rfl) (by decide) rfl rfl ?_
    refine z_load_n X (x := x) (show cdA 18 50 = some (.iload_n 1, 1, 0, 0, 0) from rfl) (List.Mem.tail _ (List.Mem.head _)) ?_
    refine z_ald X 29 (show cdA 18 51 = some (.iaload, 1, 0, 0, 0) from rfl) (by decide) rfl (by first | exact p0.1 | omega) (show x < 8 by first | exact oq_aaea290e p0.2 | omega) (by decide) ?_
    have b10 : (0 : Int) ≤ iC s8 24 (x).toNat ∧ iC s8 24 (x).toNat ≤ 9999 := Is8.2 24 _ (show (x).toNat < 8 by first | exact oq_c19a3aae p0.2 | omega)
    have N11 : ∀ e12 : Int, ((((iC s8 24 (x).toNat) < e9) ∧ e12 = 0) ∨ ((e9 ≤ (iC s8 24 (x).toNat)) ∧ e12 = 1)) → WS k 60 [(0, .ref (A 41)), (1, .int (Int32.ofInt x))] [.int (Int32.ofInt e12)] (Wd A dT s8) 0 0 := by
      intro e12 he12
      have re12 : 0 ≤ e12 ∧ e12 ≤ 1 := by omega
      exact w_iret X.1 q hRt (nar_ret (by first | exact oq_31e518ae re12.2 re12.1 | omega)) (ax_d X (show cdA 18 60 = some (.ireturn, 1, 0, 0, 0) from rfl)) (Nat.zero_le _) (Nat.zero_le _) ⟨_, rfl, Is8, Gs8, e12, rfl, ⟨by first | exact oq_fa4e5087 re12.1 | omega, by first | exact oq_22e1e6b0 re12.2 | omega⟩, by first | exact oq_31e518ae re12.2 re12.1 | omega⟩
    refine z_icmp_gt X (t := 59) (show cdA 18 52 = some (.if_icmp .gt 7, 3, 4, 0, 0) from rfl) (by decide) hrs8 (rng_to _) (fun g13 => ?_) (fun g13 => ?_)
    ·
      refine z_const X (show cdA 18 59 = some (.iconst 0, 1, 0, 0, 0) from rfl) ?_
      exact N11 _ (Or.inl ⟨g13, rfl⟩)
    ·
      refine z_const X (show cdA 18 55 = some (.iconst 1, 1, 0, 0, 0) from rfl) ?_
      refine z_goto X (t := 60) (show cdA 18 56 = some (.goto 4, 3, 0, 0, 0) from rfl) (by decide) ?_
      exact N11 _ (Or.inr (⟨g13, rfl⟩))
  ·
    refine z_const X (show cdA 18 8 = some (.iconst 0, 1, 0, 0, 0) from rfl) ?_
    exact w_iret X.1 q hRt (nar_ret (by first | exact Or.inl (by decide) | omega)) (ax_d X (show cdA 18 9 = some (.ireturn, 1, 0, 0, 0) from rfl)) (Nat.zero_le _) (Nat.zero_le _) ⟨_, rfl, Is1, Gs1, 0, rfl, (by decide), by first | exact Or.inl (by decide) | omega⟩
set_option maxRecDepth 4000 in
theorem c2_weigh_41 (G : GX l s0 D tys a0 dT) (I : Bd s) {x : Int} (p0 : 0 ≤ x ∧ x ≤ 7) : CT l s0 D A dT 21 (rmN 21) [.ref (A 41), .int (Int32.ofInt x)] s (fun o t => Bd t ∧ Fm [22, 23, 24] [33, 26, 27, 28, 29, 30, 31, 32, 20, 36, 37] s t ∧ ∃ e, o = .inl (some (.int (Int32.ofInt e))) ∧ rng e ∧ (e = 0 ∨ e = 1)) := by
  refine ct_ofX G (by decide) (Nat.le_of_ble_eq_true rfl) (fun k X E ET hRt hXt q => ?_)
  show WS k 0 [(0, .ref (A 41)), (1, .int (Int32.ofInt x))] [] _ 0 0
  have F : Fm [22, 23, 24] [33, 26, 27, 28, 29, 30, 31, 32, 20, 36, 37] s s := fm_rf _ _ s
  refine z_aload_n X (x := A 41) (show cdA 21 0 = some (.aload_n 0, 1, 0, 0, 0) from rfl) (List.Mem.head _) ?_
  refine s_getR X 41 (show cdA 21 1 = some (.getfield 33, 3, 2, 2, 0) from rfl) (by decide) rfl rfl ?_
  refine z_aload_n X (x := A 41) (show cdA 21 4 = some (.aload_n 0, 1, 0, 0, 0) from rfl) (List.Mem.head _) ?_
  refine s_getR X 41 (show cdA 21 5 = some (.getfield 29, 3, 2, 1, 0) from rfl) (by decide) rfl rfl ?_
  refine s_getR X 25 (show cdA 21 8 = some (.getfield 41, 3, 3, 1, 0) from rfl) (by decide) rfl rfl ?_
  refine z_load_n X (x := x) (show cdA 21 11 = some (.iload_n 1, 1, 0, 0, 0) from rfl) (List.Mem.tail _ (List.Mem.head _)) ?_
  refine z_lald X 27 (show cdA 21 12 = some (.laload, 1, 0, 0, 0) from rfl) (by decide) rfl (by first | exact p0.1 | omega) (show x < 8 by first | exact oq_aaea290e p0.2 | omega) (by decide) (fun j1 => ?_)
  refine z_aload_n X (x := A 41) (show cdA 21 13 = some (.aload_n 0, 1, 0, 0, 0) from rfl) (List.Mem.head _) ?_
  refine s_getR X 41 (show cdA 21 14 = some (.getfield 29, 3, 2, 1, 0) from rfl) (by decide) rfl rfl ?_
  refine s_getR X 25 (show cdA 21 17 = some (.getfield 47, 3, 3, 2, 0) from rfl) (by decide) rfl rfl ?_
  refine z_load_n X (x := x) (show cdA 21 20 = some (.iload_n 1, 1, 0, 0, 0) from rfl) (List.Mem.tail _ (List.Mem.head _)) ?_
  refine z_lald X 28 (show cdA 21 21 = some (.laload, 1, 0, 0, 0) from rfl) (by decide) rfl (by first | exact p0.1 | omega) (show x < 8 by first | exact oq_aaea290e p0.2 | omega) (by decide) (fun j2 => ?_)
  refine z_const X (show cdA 21 22 = some (.iconst 1, 1, 0, 0, 0) from rfl) ?_
  refine z_callV X 31 (rm := rmN 1) (As := [.long j1, .long j2, .int (Int32.ofInt 1)]) (st := []) (show cdA 21 23 = some (.invokevirtual 50, 3, 1, 0, 0) from rfl) rfl (by decide) rfl (by rw [E.1, E.2.1, E.2.2.1]; exact c0_listen_31 G I (by first | exact ⟨by decide, by decide⟩ | omega)) ⟨by rw [E.2.2.2]; exact (show (rmN 1).frames + 1 ≤ (rmN 21).frames by decide), by rw [E.2.2.2]; exact (show 8 + (mNL (miB 1) + 11) + (rmN 1).locals ≤ (rmN 21).locals by decide), by rw [E.2.2.2]; exact (show 0 + (rmN 1).cells ≤ (rmN 21).cells by decide), by rw [E.2.2.2]; exact (show 0 + (rmN 1).slots ≤ (rmN 21).slots by decide)⟩ (Nat.le_of_ble_eq_true rfl) (fun vv s3 hq => ?_) (fun ee s3 hq => ?_)
  rotate_left
  · obtain ⟨Is3, Fs3, hv, hps3⟩ := hq; cases hv
  obtain ⟨Is3, Fs3, hv, hps3⟩ := hq
  cases hv
  have Gs3 := fm_ts F Fs3 (by decide) (by decide)
  show WS k 26 [(0, .ref (A 41)), (1, .int (Int32.ofInt x))] [] (Wd A dT s3) 0 0
  refine z_aload_n X (x := A 41) (show cdA 21 26 = some (.aload_n 0, 1, 0, 0, 0) from rfl) (List.Mem.head _) ?_
  refine s_getR X 41 (show cdA 21 27 = some (.getfield 15, 3, 2, 4, 0) from rfl) (by decide) rfl rfl ?_
  refine z_load_n X (x := x) (show cdA 21 30 = some (.iload_n 1, 1, 0, 0, 0) from rfl) (List.Mem.tail _ (List.Mem.head _)) ?_
  refine z_aload_n X (x := A 41) (show cdA 21 31 = some (.aload_n 0, 1, 0, 0, 0) from rfl) (List.Mem.head _) ?_
  refine s_getR X 41 (show cdA 21 32 = some (.getfield 33, 3, 2, 2, 0) from rfl) (by decide) rfl rfl ?_
  refine z_callV X 31 (rm := rmN 5) (As := []) (st := [.int (Int32.ofInt x), .ref (A 43)]) (show cdA 21 35 = some (.invokevirtual 56, 3, 5, 0, 0) from rfl) rfl (by decide) rfl (by rw [E.1, E.2.1, E.2.2.1]; exact c0_findPeak_31 G Is3 ) ⟨by rw [E.2.2.2]; exact (show (rmN 5).frames + 1 ≤ (rmN 21).frames by decide), by rw [E.2.2.2]; exact (show 8 + (mNL (miB 5) + 11) + (rmN 5).locals ≤ (rmN 21).locals by decide), by rw [E.2.2.2]; exact (show 0 + (rmN 5).cells ≤ (rmN 21).cells by decide), by rw [E.2.2.2]; exact (show 0 + (rmN 5).slots ≤ (rmN 21).slots by decide)⟩ (Nat.le_of_ble_eq_true rfl) (fun vv s5 hq => ?_) (fun ee s5 hq => ?_)
  rotate_left
  · obtain ⟨Is5, Fs5, e6, hv, hrs5, hps5⟩ := hq; cases hv
  obtain ⟨Is5, Fs5, e6, hv, hrs5, hps5⟩ := hq
  cases hv
  have Gs5 := fm_ts Gs3 Fs5 (by decide) (by decide)
  show WS k 38 [(0, .ref (A 41)), (1, .int (Int32.ofInt x))] [.int (Int32.ofInt e6), .int (Int32.ofInt x), .ref (A 43)] (Wd A dT s5) 0 0
  refine z_ast X 43 (show cdA 21 38 = some (.iastore, 1, 0, 0, 0) from rfl) (by decide) rfl (by first | exact p0.1 | omega) (show x < 8 by first | exact oq_aaea290e p0.2 | omega) (by decide) ?_
  obtain ⟨s7, hs7⟩ : ∃ x0, x0 = uC s5 36 (x).toNat (Int32.ofInt e6) := ⟨_, rfl⟩
  rw [← hs7]
  have Is7 : Bd s7 := by rw [hs7]; exact bd_C Is5 (show ((-2147483648) : Int) ≤ e6 ∧ e6 ≤ 2147483647 by omega) hrs5
  have Fs7 := fm_C (i := (x).toNat) (x := Int32.ofInt e6) Gs5 (show 36 ∈ _ by decide)
  rw [← hs7] at Fs7
  refine z_aload_n X (x := A 41) (show cdA 21 39 = some (.aload_n 0, 1, 0, 0, 0) from rfl) (List.Mem.head _) ?_
  refine s_getR X 41 (show cdA 21 40 = some (.getfield 19, 3, 2, 5, 0) from rfl) (by decide) rfl rfl ?_
  refine z_load_n X (x := x) (show cdA 21 43 = some (.iload_n 1, 1, 0, 0, 0) from rfl) (List.Mem.tail _ (List.Mem.head _)) ?_
  refine z_aload_n X (x := A 41) (show cdA 21 44 = some (.aload_n 0, 1, 0, 0, 0) from rfl) (List.Mem.head _) ?_
  refine s_getR X 41 (show cdA 21 45 = some (.getfield 33, 3, 2, 2, 0) from rfl) (by decide) rfl rfl ?_
  refine z_callV X 31 (rm := rmN 6) (As := []) (st := [.int (Int32.ofInt x), .ref (A 44)]) (show cdA 21 48 = some (.invokevirtual 73, 3, 6, 0, 0) from rfl) rfl (by decide) rfl (by rw [E.1, E.2.1, E.2.2.1]; exact c0_keptCounts_31 G Is7 ) ⟨by rw [E.2.2.2]; exact (show (rmN 6).frames + 1 ≤ (rmN 21).frames by decide), by rw [E.2.2.2]; exact (show 8 + (mNL (miB 6) + 11) + (rmN 6).locals ≤ (rmN 21).locals by decide), by rw [E.2.2.2]; exact (show 0 + (rmN 6).cells ≤ (rmN 21).cells by decide), by rw [E.2.2.2]; exact (show 0 + (rmN 6).slots ≤ (rmN 21).slots by decide)⟩ (Nat.le_of_ble_eq_true rfl) (fun vv s8 hq => ?_) (fun ee s8 hq => ?_)
  rotate_left
  · obtain ⟨Is8, Fs8, e9, hv, hrs8, hps8⟩ := hq; cases hv
  obtain ⟨Is8, Fs8, e9, hv, hrs8, hps8⟩ := hq
  cases hv
  have Gs8 := fm_ts Fs7 Fs8 (by decide) (by decide)
  show WS k 51 [(0, .ref (A 41)), (1, .int (Int32.ofInt x))] [.int (Int32.ofInt e9), .int (Int32.ofInt x), .ref (A 44)] (Wd A dT s8) 0 0
  refine z_ast X 44 (show cdA 21 51 = some (.iastore, 1, 0, 0, 0) from rfl) (by decide) rfl (by first | exact p0.1 | omega) (show x < 8 by first | exact oq_aaea290e p0.2 | omega) (by decide) ?_
  obtain ⟨s10, hs10⟩ : ∃ x0, x0 = uC s8 37 (x).toNat (Int32.ofInt e9) := ⟨_, rfl⟩
  rw [← hs10]
  have Is10 : Bd s10 := by rw [hs10]; exact bd_C Is8 (show ((-2147483648) : Int) ≤ e9 ∧ e9 ≤ 2147483647 by omega) hrs8
  have Fs10 := fm_C (i := (x).toNat) (x := Int32.ofInt e9) Gs8 (show 37 ∈ _ by decide)
  rw [← hs10] at Fs10
  refine z_aload_n X (x := A 41) (show cdA 21 52 = some (.aload_n 0, 1, 0, 0, 0) from rfl) (List.Mem.head _) ?_
  refine s_getR X 41 (show cdA 21 53 = some (.getfield 15, 3, 2, 4, 0) from rfl) (by decide) rfl rfl ?_
  refine z_load_n X (x := x) (show cdA 21 56 = some (.iload_n 1, 1, 0, 0, 0) from rfl) (List.Mem.tail _ (List.Mem.head _)) ?_
  refine z_ald X 43 (show cdA 21 57 = some (.iaload, 1, 0, 0, 0) from rfl) (by decide) rfl (by first | exact p0.1 | omega) (show x < 8 by first | exact oq_aaea290e p0.2 | omega) (by decide) ?_
  have b11 : ((-2147483648) : Int) ≤ iC s10 36 (x).toNat ∧ iC s10 36 (x).toNat ≤ 2147483647 := Is10.2 36 _ (show (x).toNat < 8 by first | exact oq_c19a3aae p0.2 | omega)
  refine z_aload_n X (x := A 41) (show cdA 21 58 = some (.aload_n 0, 1, 0, 0, 0) from rfl) (List.Mem.head _) ?_
  refine s_getR X 41 (show cdA 21 59 = some (.getfield 29, 3, 2, 1, 0) from rfl) (by decide) rfl rfl ?_
  refine s_getR X 25 (show cdA 21 62 = some (.getfield 60, 3, 3, 3, 0) from rfl) (by decide) rfl rfl ?_
  refine z_load_n X (x := x) (show cdA 21 65 = some (.iload_n 1, 1, 0, 0, 0) from rfl) (List.Mem.tail _ (List.Mem.head _)) ?_
  refine z_ald X 29 (show cdA 21 66 = some (.iaload, 1, 0, 0, 0) from rfl) (by decide) rfl (by first | exact p0.1 | omega) (show x < 8 by first | exact oq_aaea290e p0.2 | omega) (by decide) ?_
  have b12 : (0 : Int) ≤ iC s10 24 (x).toNat ∧ iC s10 24 (x).toNat ≤ 9999 := Is10.2 24 _ (show (x).toNat < 8 by first | exact oq_c19a3aae p0.2 | omega)
  have N13 : ∀ e14 : Int, ((((iC s10 24 (x).toNat) < (iC s10 36 (x).toNat)) ∧ e14 = 0) ∨ (((iC s10 36 (x).toNat) ≤ (iC s10 24 (x).toNat)) ∧ e14 = 1)) → WS k 75 [(0, .ref (A 41)), (1, .int (Int32.ofInt x))] [.int (Int32.ofInt e14)] (Wd A dT s10) 0 0 := by
    intro e14 he14
    have re14 : 0 ≤ e14 ∧ e14 ≤ 1 := by omega
    exact w_iret X.1 q hRt (nar_ret (by first | exact oq_71e169bb re14.2 re14.1 he14 | omega)) (ax_d X (show cdA 21 75 = some (.ireturn, 1, 0, 0, 0) from rfl)) (Nat.zero_le _) (Nat.zero_le _) ⟨_, rfl, Is10, Fs10, e14, rfl, ⟨by first | exact oq_fa4e5087 re14.1 | omega, by first | exact oq_22e1e6b0 re14.2 | omega⟩, by first | exact oq_71e169bb re14.2 re14.1 he14 | omega⟩
  refine z_icmp_gt X (t := 74) (show cdA 21 67 = some (.if_icmp .gt 7, 3, 4, 0, 0) from rfl) (by decide) (rng_to _) (rng_to _) (fun g15 => ?_) (fun g15 => ?_)
  ·
    refine z_const X (show cdA 21 74 = some (.iconst 0, 1, 0, 0, 0) from rfl) ?_
    exact N13 _ (Or.inl ⟨g15, rfl⟩)
  ·
    refine z_const X (show cdA 21 70 = some (.iconst 1, 1, 0, 0, 0) from rfl) ?_
    refine z_goto X (t := 75) (show cdA 21 71 = some (.goto 4, 3, 0, 0, 0) from rfl) (by decide) ?_
    exact N13 _ (Or.inr (⟨g15, rfl⟩))
set_option maxRecDepth 4000 in
theorem c2_measure_41 (G : GX l s0 D tys a0 dT) (I : Bd s)  : CT l s0 D A dT 20 (rmN 20) [.ref (A 41)] s (fun o t => Bd t ∧ Fm [22, 23, 24] [33, 26, 27, 28, 29, 30, 31, 32, 20, 36, 37, 35] s t ∧ o = .inl none ∧ (True)) := by
  refine ct_ofX G (by decide) (Nat.le_of_ble_eq_true rfl) (fun k X E ET hRt hXt q => ?_)
  show WS k 0 [(0, .ref (A 41))] [] _ 0 0
  have F : Fm [22, 23, 24] [33, 26, 27, 28, 29, 30, 31, 32, 20, 36, 37, 35] s s := fm_rf _ _ s
  have L2 : ∀ (n : Nat) (t : PS) (p : Int), Bd t → Fm [22, 23, 24] [33, 26, 27, 28, 29, 30, 31, 32, 20, 36, 37, 35] s t → (0 ≤ p ∧ p ≤ 8) → (8 - p : Int).toNat < n → (∀ (t' : PS) (p' : Int), Bd t' → Fm [22, 23, 24] [33, 26, 27, 28, 29, 30, 31, 32, 20, 36, 37, 35] s t' → (0 ≤ p' ∧ p' ≤ 8) → WS k 43 [(0, .ref (A 41)), (1, .int (Int32.ofInt p'))] [] (Wd A dT t') 0 0) → WS k 2 [(0, .ref (A 41)), (1, .int (Int32.ofInt p))] [] (Wd A dT t) 0 0 := by
    intro n
    induction n with
    | zero =>
      intro t p I F hi hm kx
      exact absurd hm (Nat.not_lt_zero _)
    | succ n ih =>
      intro t p I F hi hm kx
      refine z_load_n X (x := p) (show cdA 20 2 = some (.iload_n 1, 1, 0, 0, 0) from rfl) (List.Mem.tail _ (List.Mem.head _)) ?_
      refine z_bipush X (show cdA 20 3 = some (.bipush 8, 2, 0, 0, 8) from rfl) ?_
      refine z_icmp_ge X (t := 43) (show cdA 20 5 = some (.if_icmp .ge 38, 3, 3, 0, 0) from rfl) (by decide) ⟨by first | exact oq_fa4e5087 hi.1 | omega, by first | exact oq_d3f5d874 hi.2 | omega⟩ (by decide) (fun g1001 => ?_) (fun g1001 => ?_)
      ·
        refine WS_lv (lv := [(0, .ref (A 41)), (1, .int (Int32.ofInt p))]) (List.forall_mem_cons.mpr ⟨(List.Mem.head _), (List.forall_mem_cons.mpr ⟨(List.Mem.tail _ (List.Mem.head _)), (fun q h => absurd h List.not_mem_nil)⟩)⟩) ?_
        exact kx _ p I F (by first | exact ⟨hi.1, hi.2⟩ | omega)
      ·
        refine z_aload_n X (x := A 41) (show cdA 20 8 = some (.aload_n 0, 1, 0, 0, 0) from rfl) (List.Mem.head _) ?_
        refine s_getR X 41 (show cdA 20 9 = some (.getfield 9, 3, 2, 3, 0) from rfl) (by decide) rfl rfl ?_
        refine z_load_n X (x := p) (show cdA 20 12 = some (.iload_n 1, 1, 0, 0, 0) from rfl) (List.Mem.tail _ (List.Mem.head _)) ?_
        refine z_aload_n X (x := A 41) (show cdA 20 13 = some (.aload_n 0, 1, 0, 0, 0) from rfl) (List.Mem.head _) ?_
        refine s_getR X 41 (show cdA 20 14 = some (.getfield 29, 3, 2, 1, 0) from rfl) (by decide) rfl rfl ?_
        refine z_load_n X (x := p) (show cdA 20 17 = some (.iload_n 1, 1, 0, 0, 0) from rfl) (List.Mem.tail _ (List.Mem.head _)) ?_
        refine z_callV X 25 (rm := rmN 30) (As := [.int (Int32.ofInt p)]) (st := [.int (Int32.ofInt p), .ref (A 42)]) (show cdA 20 18 = some (.invokevirtual 67, 3, 30, 0, 0) from rfl) rfl (by decide) rfl (by rw [E.1, E.2.1, E.2.2.1]; exact c3_hasCells_25 G I (by first | exact ⟨hi.1, oq_78c639ed g1001⟩ | omega)) ⟨by rw [E.2.2.2]; exact (show (rmN 30).frames + 1 ≤ (rmN 20).frames by decide), by rw [E.2.2.2]; exact (show 8 + (mNL (miB 30) + 11) + (rmN 30).locals ≤ (rmN 20).locals by decide), by rw [E.2.2.2]; exact (show 0 + (rmN 30).cells ≤ (rmN 20).cells by decide), by rw [E.2.2.2]; exact (show 0 + (rmN 30).slots ≤ (rmN 20).slots by decide)⟩ (Nat.le_of_ble_eq_true rfl) (fun vv s1002 hq => ?_) (fun ee s1002 hq => ?_)
        rotate_left
        · obtain ⟨Is1002, Fs1002, e1003, hv, hrs1002, hps1002⟩ := hq; cases hv
        obtain ⟨Is1002, Fs1002, e1003, hv, hrs1002, hps1002⟩ := hq
        cases hv
        have Gs1002 := fm_ts F Fs1002 (by decide) (by decide)
        show WS k 21 [(0, .ref (A 41)), (1, .int (Int32.ofInt p))] [.int (Int32.ofInt e1003), .int (Int32.ofInt p), .ref (A 42)] (Wd A dT s1002) 0 0
        refine z_zast X 42 (show cdA 20 21 = some (.bastore, 1, 0, 0, 0) from rfl) (by decide) rfl (by first | exact hi.1 | omega) (show p < 8 by first | exact g1001 | omega) (by decide) (by first | exact hps1002 | omega) ?_
        obtain ⟨s1004, hs1004⟩ : ∃ x0, x0 = uC s1002 35 (p).toNat (Int32.ofInt e1003) := ⟨_, rfl⟩
        rw [← hs1004]
        have Is1004 : Bd s1004 := by rw [hs1004]; exact bd_C Is1002 (show (0 : Int) ≤ e1003 ∧ e1003 ≤ 1 by first | exact ⟨oq_e4aca38c hps1002, oq_14617724 hps1002⟩ | omega) hrs1002
        have Fs1004 := fm_C (i := (p).toNat) (x := Int32.ofInt e1003) Gs1002 (show 35 ∈ _ by decide)
        rw [← hs1004] at Fs1004
        refine z_aload_n X (x := A 41) (show cdA 20 22 = some (.aload_n 0, 1, 0, 0, 0) from rfl) (List.Mem.head _) ?_
        refine s_getR X 41 (show cdA 20 23 = some (.getfield 9, 3, 2, 3, 0) from rfl) (by decide) rfl rfl ?_
        refine z_load_n X (x := p) (show cdA 20 26 = some (.iload_n 1, 1, 0, 0, 0) from rfl) (List.Mem.tail _ (List.Mem.head _)) ?_
        refine z_zald X 42 (show cdA 20 27 = some (.baload, 1, 0, 0, 0) from rfl) (by decide) rfl (by first | exact hi.1 | omega) (show p < 8 by first | exact g1001 | omega) (by decide) ?_
        have b1005 : (0 : Int) ≤ iC s1004 35 (p).toNat ∧ iC s1004 35 (p).toNat ≤ 1 := Is1004.2 35 _ (show (p).toNat < 8 by first | exact oq_db4b3b8b g1001 | omega)
        refine z_if_eq X (t := 37) (show cdA 20 28 = some (.ifCond .eq 9, 3, 0, 0, 0) from rfl) (by decide) (rng_to _) (fun g1006 => ?_) (fun g1006 => ?_)
        ·
          refine z_inc X (x := p) (lv' := [(1, .int (Int32.ofInt (p + 1))), (0, .ref (A 41))]) (show cdA 20 37 = some (.iinc 1 1, 3, 0, 0, 0) from rfl) (by decide) (List.Mem.tail _ (List.Mem.head _)) (fun _ h => h) ?_
          refine z_goto X (t := 2) (show cdA 20 40 = some (.goto (-38), 3, 0, 0, 0) from rfl) (by decide) ?_
          refine WS_lv (lv := [(0, .ref (A 41)), (1, .int (Int32.ofInt (p + 1)))]) (List.forall_mem_cons.mpr ⟨(List.Mem.tail _ (List.Mem.head _)), (List.forall_mem_cons.mpr ⟨(List.Mem.head _), (fun q h => absurd h List.not_mem_nil)⟩)⟩) ?_
          exact ih _ (p + 1) Is1004 Fs1004 (by first | exact ⟨oq_54f49eb5 hi.1, oq_0c7b19c3 g1001⟩ | omega) (by first | exact qk_me hm (by decide) (oq_9f368f35 g1001) | omega) kx
        ·
          refine z_aload_n X (x := A 41) (show cdA 20 31 = some (.aload_n 0, 1, 0, 0, 0) from rfl) (List.Mem.head _) ?_
          refine z_load_n X (x := p) (show cdA 20 32 = some (.iload_n 1, 1, 0, 0, 0) from rfl) (List.Mem.tail _ (List.Mem.head _)) ?_
          refine z_callV X 41 (rm := rmN 21) (As := [.int (Int32.ofInt p)]) (st := []) (show cdA 20 33 = some (.invokevirtual 70, 3, 21, 0, 0) from rfl) rfl (by decide) rfl (by rw [E.1, E.2.1, E.2.2.1]; exact c2_weigh_41 G Is1004 (by first | exact ⟨hi.1, oq_78c639ed g1001⟩ | omega)) ⟨by rw [E.2.2.2]; exact (show (rmN 21).frames + 1 ≤ (rmN 20).frames by decide), by rw [E.2.2.2]; exact (show 8 + (mNL (miB 21) + 11) + (rmN 21).locals ≤ (rmN 20).locals by decide), by rw [E.2.2.2]; exact (show 0 + (rmN 21).cells ≤ (rmN 20).cells by decide), by rw [E.2.2.2]; exact (show 0 + (rmN 21).slots ≤ (rmN 20).slots by decide)⟩ (Nat.le_of_ble_eq_true rfl) (fun vv s1007 hq => ?_) (fun ee s1007 hq => ?_)
          rotate_left
          · obtain ⟨Is1007, Fs1007, e1008, hv, hrs1007, hps1007⟩ := hq; cases hv
          obtain ⟨Is1007, Fs1007, e1008, hv, hrs1007, hps1007⟩ := hq
          cases hv
          have Gs1007 := fm_ts Fs1004 Fs1007 (by decide) (by decide)
          show WS k 36 [(0, .ref (A 41)), (1, .int (Int32.ofInt p))] [.int (Int32.ofInt e1008)] (Wd A dT s1007) 0 0
          refine w_pop X.1 (ax_d X (show cdA 20 36 = some (.pop, 1, 0, 0, 0) from rfl)) rfl ?_
          refine z_inc X (x := p) (lv' := [(1, .int (Int32.ofInt (p + 1))), (0, .ref (A 41))]) (show cdA 20 37 = some (.iinc 1 1, 3, 0, 0, 0) from rfl) (by decide) (List.Mem.tail _ (List.Mem.head _)) (fun _ h => h) ?_
          refine z_goto X (t := 2) (show cdA 20 40 = some (.goto (-38), 3, 0, 0, 0) from rfl) (by decide) ?_
          refine WS_lv (lv := [(0, .ref (A 41)), (1, .int (Int32.ofInt (p + 1)))]) (List.forall_mem_cons.mpr ⟨(List.Mem.tail _ (List.Mem.head _)), (List.forall_mem_cons.mpr ⟨(List.Mem.head _), (fun q h => absurd h List.not_mem_nil)⟩)⟩) ?_
          exact ih _ (p + 1) Is1007 Gs1007 (by first | exact ⟨oq_54f49eb5 hi.1, oq_0c7b19c3 g1001⟩ | omega) (by first | exact qk_me hm (by decide) (oq_9f368f35 g1001) | omega) kx
  refine z_const X (show cdA 20 0 = some (.iconst 0, 1, 0, 0, 0) from rfl) ?_
  refine z_store_n X (lv' := [(1, .int (Int32.ofInt 0)), (0, .ref (A 41))]) (show cdA 20 1 = some (.istore_n 1, 1, 0, 0, 0) from rfl) (by decide) (fun _ h => h) ?_
  refine WS_lv (lv := [(0, .ref (A 41)), (1, .int (Int32.ofInt 0))]) (List.forall_mem_cons.mpr ⟨(List.Mem.tail _ (List.Mem.head _)), (List.forall_mem_cons.mpr ⟨(List.Mem.head _), (fun q h => absurd h List.not_mem_nil)⟩)⟩) ?_
  refine L2 ((8 - 0 : Int).toNat + 1) s 0 I F (by first | exact ⟨by decide, by decide⟩ | omega) (Nat.lt_succ_self _) ?_
  intro s1 x2 Is1 Fs1 hs1
  exact w_vret X.1 q hRt (ax_d X (show cdA 20 43 = some (.return_, 1, 0, 0, 0) from rfl)) (Nat.zero_le _) (Nat.zero_le _) ⟨_, rfl, Is1, Fs1, rfl, trivial⟩
set_option maxRecDepth 4000 in
theorem c2_priceNow_41 (G : GX l s0 D tys a0 dT) (I : Bd s)  : CT l s0 D A dT 22 (rmN 22) [.ref (A 41)] s (fun o t => Bd t ∧ Fm [] [] s t ∧ ∃ e, o = .inl (some (.int (Int32.ofInt e))) ∧ rng e ∧ (True)) := by
  refine ct_ofX G (by decide) (Nat.le_of_ble_eq_true rfl) (fun k X E ET hRt hXt q => ?_)
  show WS k 0 [(0, .ref (A 41))] [] _ 0 0
  have F : Fm [] [] s s := fm_rf _ _ s
  have L20 : ∀ (n : Nat) (t : PS) (pr gr le an p : Int), Bd t → Fm [] [] s t → (rng pr ∧ rng gr ∧ rng le ∧ (an = 0 ∨ an = 1) ∧ 0 ≤ p ∧ p ≤ 8) → (8 - p : Int).toNat < n → (∀ (t' : PS) (pr' gr' le' an' p' : Int), Bd t' → Fm [] [] s t' → (rng pr' ∧ rng gr' ∧ rng le' ∧ (an' = 0 ∨ an' = 1) ∧ 0 ≤ p' ∧ p' ≤ 8) → WS k 80 [(0, .ref (A 41)), (1, .int (Int32.ofInt pr')), (2, .int (Int32.ofInt gr')), (3, .int (Int32.ofInt le')), (4, .int (Int32.ofInt an')), (5, .int (Int32.ofInt p'))] [] (Wd A dT t') 0 0) → WS k 20 [(0, .ref (A 41)), (1, .int (Int32.ofInt pr)), (2, .int (Int32.ofInt gr)), (3, .int (Int32.ofInt le)), (4, .int (Int32.ofInt an)), (5, .int (Int32.ofInt p))] [] (Wd A dT t) 0 0 := by
    intro n
    induction n with
    | zero =>
      intro t pr gr le an p I F hi hm kx
      exact absurd hm (Nat.not_lt_zero _)
    | succ n ih =>
      intro t pr gr le an p I F hi hm kx
      refine z_load X (x := p) (show cdA 22 20 = some (.iload 5, 2, 0, 0, 0) from rfl) (List.Mem.tail _ (List.Mem.tail _ (List.Mem.tail _ (List.Mem.tail _ (List.Mem.tail _ (List.Mem.head _)))))) ?_
      refine z_bipush X (show cdA 22 22 = some (.bipush 8, 2, 0, 0, 8) from rfl) ?_
      refine z_icmp_ge X (t := 80) (show cdA 22 24 = some (.if_icmp .ge 56, 3, 3, 0, 0) from rfl) (by decide) ⟨by first | exact oq_fa4e5087 hi.2.2.2.2.1 | omega, by first | exact oq_d3f5d874 hi.2.2.2.2.2 | omega⟩ (by decide) (fun g1001 => ?_) (fun g1001 => ?_)
      ·
        refine WS_lv (lv := [(0, .ref (A 41)), (1, .int (Int32.ofInt pr)), (2, .int (Int32.ofInt gr)), (3, .int (Int32.ofInt le)), (4, .int (Int32.ofInt an)), (5, .int (Int32.ofInt p))]) (List.forall_mem_cons.mpr ⟨(List.Mem.head _), (List.forall_mem_cons.mpr ⟨(List.Mem.tail _ (List.Mem.head _)), (List.forall_mem_cons.mpr ⟨(List.Mem.tail _ (List.Mem.tail _ (List.Mem.head _))), (List.forall_mem_cons.mpr ⟨(List.Mem.tail _ (List.Mem.tail _ (List.Mem.tail _ (List.Mem.head _)))), (List.forall_mem_cons.mpr ⟨(List.Mem.tail _ (List.Mem.tail _ (List.Mem.tail _ (List.Mem.tail _ (List.Mem.head _))))), (List.forall_mem_cons.mpr ⟨(List.Mem.tail _ (List.Mem.tail _ (List.Mem.tail _ (List.Mem.tail _ (List.Mem.tail _ (List.Mem.head _)))))), (fun q h => absurd h List.not_mem_nil)⟩)⟩)⟩)⟩)⟩)⟩) ?_
        exact kx _ pr gr le an p I F (by first | exact ⟨And.intro (hi.1.1) (hi.1.2), And.intro (hi.2.1.1) (hi.2.1.2), And.intro (hi.2.2.1.1) (hi.2.2.1.2), hi.2.2.2.1, hi.2.2.2.2.1, hi.2.2.2.2.2⟩ | omega)
      ·
        refine z_aload_n X (x := A 41) (show cdA 22 27 = some (.aload_n 0, 1, 0, 0, 0) from rfl) (List.Mem.head _) ?_
        refine s_getR X 41 (show cdA 22 28 = some (.getfield 9, 3, 2, 3, 0) from rfl) (by decide) rfl rfl ?_
        refine z_load X (x := p) (show cdA 22 31 = some (.iload 5, 2, 0, 0, 0) from rfl) (List.Mem.tail _ (List.Mem.tail _ (List.Mem.tail _ (List.Mem.tail _ (List.Mem.tail _ (List.Mem.head _)))))) ?_
        refine z_zald X 42 (show cdA 22 33 = some (.baload, 1, 0, 0, 0) from rfl) (by decide) rfl (by first | exact hi.2.2.2.2.1 | omega) (show p < 8 by first | exact g1001 | omega) (by decide) ?_
        have b1002 : (0 : Int) ≤ iC t 35 (p).toNat ∧ iC t 35 (p).toNat ≤ 1 := I.2 35 _ (show (p).toNat < 8 by first | exact oq_db4b3b8b g1001 | omega)
        refine z_if_eq X (t := 74) (show cdA 22 34 = some (.ifCond .eq 40, 3, 0, 0, 0) from rfl) (by decide) (rng_to _) (fun g1003 => ?_) (fun g1003 => ?_)
        ·
          refine z_inc X (x := p) (lv' := [(5, .int (Int32.ofInt (p + 1))), (0, .ref (A 41)), (1, .int (Int32.ofInt pr)), (2, .int (Int32.ofInt gr)), (3, .int (Int32.ofInt le)), (4, .int (Int32.ofInt an))]) (show cdA 22 74 = some (.iinc 5 1, 3, 0, 0, 0) from rfl) (by decide) (List.Mem.tail _ (List.Mem.tail _ (List.Mem.tail _ (List.Mem.tail _ (List.Mem.tail _ (List.Mem.head _)))))) (fun _ h => h) ?_
          refine z_goto X (t := 20) (show cdA 22 77 = some (.goto (-57), 3, 0, 0, 0) from rfl) (by decide) ?_
          refine WS_lv (lv := [(0, .ref (A 41)), (1, .int (Int32.ofInt pr)), (2, .int (Int32.ofInt gr)), (3, .int (Int32.ofInt le)), (4, .int (Int32.ofInt an)), (5, .int (Int32.ofInt (p + 1)))]) (List.forall_mem_cons.mpr ⟨(List.Mem.tail _ (List.Mem.head _)), (List.forall_mem_cons.mpr ⟨(List.Mem.tail _ (List.Mem.tail _ (List.Mem.head _))), (List.forall_mem_cons.mpr ⟨(List.Mem.tail _ (List.Mem.tail _ (List.Mem.tail _ (List.Mem.head _)))), (List.forall_mem_cons.mpr ⟨(List.Mem.tail _ (List.Mem.tail _ (List.Mem.tail _ (List.Mem.tail _ (List.Mem.head _))))), (List.forall_mem_cons.mpr ⟨(List.Mem.tail _ (List.Mem.tail _ (List.Mem.tail _ (List.Mem.tail _ (List.Mem.tail _ (List.Mem.head _)))))), (List.forall_mem_cons.mpr ⟨(List.Mem.head _), (fun q h => absurd h List.not_mem_nil)⟩)⟩)⟩)⟩)⟩)⟩) ?_
          exact ih _ pr gr le an (p + 1) I F (by first | exact ⟨And.intro (hi.1.1) (hi.1.2), And.intro (hi.2.1.1) (hi.2.1.2), And.intro (hi.2.2.1.1) (hi.2.2.1.2), hi.2.2.2.1, oq_54f49eb5 hi.2.2.2.2.1, oq_0c7b19c3 g1001⟩ | omega) (by first | exact qk_me hm (by decide) (oq_9f368f35 g1001) | omega) kx
        ·
          refine z_const X (show cdA 22 37 = some (.iconst 1, 1, 0, 0, 0) from rfl) ?_
          refine z_store X (lv' := [(4, .int (Int32.ofInt 1)), (0, .ref (A 41)), (1, .int (Int32.ofInt pr)), (2, .int (Int32.ofInt gr)), (3, .int (Int32.ofInt le)), (5, .int (Int32.ofInt p))]) (show cdA 22 38 = some (.istore 4, 2, 0, 0, 0) from rfl) (by decide) (fun _ h => h) ?_
          refine z_load_n X (x := pr) (show cdA 22 40 = some (.iload_n 1, 1, 0, 0, 0) from rfl) (List.Mem.tail _ (List.Mem.tail _ (List.Mem.head _))) ?_
          refine z_aload_n X (x := A 41) (show cdA 22 41 = some (.aload_n 0, 1, 0, 0, 0) from rfl) (List.Mem.tail _ (List.Mem.head _)) ?_
          refine s_getR X 41 (show cdA 22 42 = some (.getfield 19, 3, 2, 5, 0) from rfl) (by decide) rfl rfl ?_
          refine z_load X (x := p) (show cdA 22 45 = some (.iload 5, 2, 0, 0, 0) from rfl) (List.Mem.tail _ (List.Mem.tail _ (List.Mem.tail _ (List.Mem.tail _ (List.Mem.tail _ (List.Mem.head _)))))) ?_
          refine z_ald X 44 (show cdA 22 47 = some (.iaload, 1, 0, 0, 0) from rfl) (by decide) rfl (by first | exact hi.2.2.2.2.1 | omega) (show p < 8 by first | exact g1001 | omega) (by decide) ?_
          have b1004 : ((-2147483648) : Int) ≤ iC t 37 (p).toNat ∧ iC t 37 (p).toNat ≤ 2147483647 := I.2 37 _ (show (p).toNat < 8 by first | exact oq_db4b3b8b g1001 | omega)
          refine z_sub X (show cdA 22 48 = some (.isub, 1, 0, 0, 0) from rfl) ?_
          refine z_any (fun y1005 hy1005 => ?_)
          refine z_store_n X (lv' := [(1, .int (Int32.ofInt y1005)), (4, .int (Int32.ofInt 1)), (0, .ref (A 41)), (2, .int (Int32.ofInt gr)), (3, .int (Int32.ofInt le)), (5, .int (Int32.ofInt p))]) (show cdA 22 49 = some (.istore_n 1, 1, 0, 0, 0) from rfl) (by decide) (fun _ h => h) ?_
          refine z_load_n X (x := gr) (show cdA 22 50 = some (.iload_n 2, 1, 0, 0, 0) from rfl) (List.Mem.tail _ (List.Mem.tail _ (List.Mem.tail _ (List.Mem.head _)))) ?_
          refine z_aload_n X (x := A 41) (show cdA 22 51 = some (.aload_n 0, 1, 0, 0, 0) from rfl) (List.Mem.tail _ (List.Mem.tail _ (List.Mem.head _))) ?_
          refine s_getR X 41 (show cdA 22 52 = some (.getfield 15, 3, 2, 4, 0) from rfl) (by decide) rfl rfl ?_
          refine z_load X (x := p) (show cdA 22 55 = some (.iload 5, 2, 0, 0, 0) from rfl) (List.Mem.tail _ (List.Mem.tail _ (List.Mem.tail _ (List.Mem.tail _ (List.Mem.tail _ (List.Mem.head _)))))) ?_
          refine z_ald X 43 (show cdA 22 57 = some (.iaload, 1, 0, 0, 0) from rfl) (by decide) rfl (by first | exact hi.2.2.2.2.1 | omega) (show p < 8 by first | exact g1001 | omega) (by decide) ?_
          have b1006 : ((-2147483648) : Int) ≤ iC t 36 (p).toNat ∧ iC t 36 (p).toNat ≤ 2147483647 := I.2 36 _ (show (p).toNat < 8 by first | exact oq_db4b3b8b g1001 | omega)
          refine z_max X (show cdA 22 58 = some (.invokestatic 85, 3, 0, 7, 0) from rfl) ⟨by first | exact hi.2.1.1 | omega, by first | exact hi.2.1.2 | omega⟩ (rng_to _) (by rw [E.2.2.2]; decide) (by rw [E.2.2.2]; exact Nat.le_of_ble_eq_true rfl) (Nat.zero_le _) (Nat.zero_le _) (fun e1007 he1007 => ?_)
          refine z_store_n X (lv' := [(2, .int (Int32.ofInt e1007)), (1, .int (Int32.ofInt y1005)), (4, .int (Int32.ofInt 1)), (0, .ref (A 41)), (3, .int (Int32.ofInt le)), (5, .int (Int32.ofInt p))]) (show cdA 22 61 = some (.istore_n 2, 1, 0, 0, 0) from rfl) (by decide) (fun _ h => h) ?_
          refine z_load_n X (x := le) (show cdA 22 62 = some (.iload_n 3, 1, 0, 0, 0) from rfl) (List.Mem.tail _ (List.Mem.tail _ (List.Mem.tail _ (List.Mem.tail _ (List.Mem.head _))))) ?_
          refine z_aload_n X (x := A 41) (show cdA 22 63 = some (.aload_n 0, 1, 0, 0, 0) from rfl) (List.Mem.tail _ (List.Mem.tail _ (List.Mem.tail _ (List.Mem.head _)))) ?_
          refine s_getR X 41 (show cdA 22 64 = some (.getfield 15, 3, 2, 4, 0) from rfl) (by decide) rfl rfl ?_
          refine z_load X (x := p) (show cdA 22 67 = some (.iload 5, 2, 0, 0, 0) from rfl) (List.Mem.tail _ (List.Mem.tail _ (List.Mem.tail _ (List.Mem.tail _ (List.Mem.tail _ (List.Mem.head _)))))) ?_
          refine z_ald X 43 (show cdA 22 69 = some (.iaload, 1, 0, 0, 0) from rfl) (by decide) rfl (by first | exact hi.2.2.2.2.1 | omega) (show p < 8 by first | exact g1001 | omega) (by decide) ?_
          have b1008 : ((-2147483648) : Int) ≤ iC t 36 (p).toNat ∧ iC t 36 (p).toNat ≤ 2147483647 := I.2 36 _ (show (p).toNat < 8 by first | exact oq_db4b3b8b g1001 | omega)
          refine z_min X (show cdA 22 70 = some (.invokestatic 91, 3, 0, 8, 0) from rfl) ⟨by first | exact hi.2.2.1.1 | omega, by first | exact hi.2.2.1.2 | omega⟩ (rng_to _) (by rw [E.2.2.2]; decide) (by rw [E.2.2.2]; exact Nat.le_of_ble_eq_true rfl) (Nat.zero_le _) (Nat.zero_le _) (fun e1009 he1009 => ?_)
          refine z_store_n X (lv' := [(3, .int (Int32.ofInt e1009)), (2, .int (Int32.ofInt e1007)), (1, .int (Int32.ofInt y1005)), (4, .int (Int32.ofInt 1)), (0, .ref (A 41)), (5, .int (Int32.ofInt p))]) (show cdA 22 73 = some (.istore_n 3, 1, 0, 0, 0) from rfl) (by decide) (fun _ h => h) ?_
          refine z_inc X (x := p) (lv' := [(5, .int (Int32.ofInt (p + 1))), (3, .int (Int32.ofInt e1009)), (2, .int (Int32.ofInt e1007)), (1, .int (Int32.ofInt y1005)), (4, .int (Int32.ofInt 1)), (0, .ref (A 41))]) (show cdA 22 74 = some (.iinc 5 1, 3, 0, 0, 0) from rfl) (by decide) (List.Mem.tail _ (List.Mem.tail _ (List.Mem.tail _ (List.Mem.tail _ (List.Mem.tail _ (List.Mem.head _)))))) (fun _ h => h) ?_
          refine z_goto X (t := 20) (show cdA 22 77 = some (.goto (-57), 3, 0, 0, 0) from rfl) (by decide) ?_
          refine WS_lv (lv := [(0, .ref (A 41)), (1, .int (Int32.ofInt y1005)), (2, .int (Int32.ofInt e1007)), (3, .int (Int32.ofInt e1009)), (4, .int (Int32.ofInt 1)), (5, .int (Int32.ofInt (p + 1)))]) (List.forall_mem_cons.mpr ⟨(List.Mem.tail _ (List.Mem.tail _ (List.Mem.tail _ (List.Mem.tail _ (List.Mem.tail _ (List.Mem.head _)))))), (List.forall_mem_cons.mpr ⟨(List.Mem.tail _ (List.Mem.tail _ (List.Mem.tail _ (List.Mem.head _)))), (List.forall_mem_cons.mpr ⟨(List.Mem.tail _ (List.Mem.tail _ (List.Mem.head _))), (List.forall_mem_cons.mpr ⟨(List.Mem.tail _ (List.Mem.head _)), (List.forall_mem_cons.mpr ⟨(List.Mem.tail _ (List.Mem.tail _ (List.Mem.tail _ (List.Mem.tail _ (List.Mem.head _))))), (List.forall_mem_cons.mpr ⟨(List.Mem.head _), (fun q h => absurd h List.not_mem_nil)⟩)⟩)⟩)⟩)⟩)⟩) ?_
          exact ih _ y1005 e1007 e1009 1 (p + 1) I F (by first | exact ⟨And.intro (hy1005.1) (hy1005.2), oq_27fc0cec b1008.2 he1007 hi.2.1.2 hi.2.1.1, oq_566e2836 he1009 b1008.1 hi.2.2.1.2 hi.2.2.1.1, Or.inr (by decide), oq_54f49eb5 hi.2.2.2.2.1, oq_0c7b19c3 g1001⟩ | omega) (by first | exact qk_me hm (by decide) (oq_9f368f35 g1001) | omega) kx
  refine z_aload_n X (x := A 41) (show cdA 22 0 = some (.aload_n 0, 1, 0, 0, 0) from rfl) (List.Mem.head _) ?_
  refine s_getR X 41 (show cdA 22 1 = some (.getfield 25, 3, 2, 0, 0) from rfl) (by decide) rfl rfl ?_
  refine z_callV X 3 (rm := rmN 124) (As := []) (st := []) (show cdA 22 4 = some (.invokevirtual 76, 3, 124, 0, 0) from rfl) rfl (by decide) rfl (by rw [E.1, E.2.1, E.2.2.1]; exact c9_countsOfSteps_3 G I ) ⟨by rw [E.2.2.2]; exact (show (rmN 124).frames + 1 ≤ (rmN 22).frames by decide), by rw [E.2.2.2]; exact (show 8 + (mNL (miB 124) + 11) + (rmN 124).locals ≤ (rmN 22).locals by decide), by rw [E.2.2.2]; exact (show 0 + (rmN 124).cells ≤ (rmN 22).cells by decide), by rw [E.2.2.2]; exact (show 0 + (rmN 124).slots ≤ (rmN 22).slots by decide)⟩ (Nat.le_of_ble_eq_true rfl) (fun vv s1 hq => ?_) (fun ee s1 hq => ?_)
  rotate_left
  · obtain ⟨Is1, Fs1, e2, hv, hrs1, hps1⟩ := hq; cases hv
  obtain ⟨Is1, Fs1, e2, hv, hrs1, hps1⟩ := hq
  cases hv
  have Gs1 := fm_ts F Fs1 (by decide) (by decide)
  show WS k 7 [(0, .ref (A 41))] [.int (Int32.ofInt e2)] (Wd A dT s1) 0 0
  refine z_store_n X (lv' := [(1, .int (Int32.ofInt e2)), (0, .ref (A 41))]) (show cdA 22 7 = some (.istore_n 1, 1, 0, 0, 0) from rfl) (by decide) (fun _ h => h) ?_
  refine z_ldc X (show cdA 22 8 = some (.ldc 83, 2, 0, 0, (-2147483648)) from rfl) ?_
  refine z_store_n X (lv' := [(2, .int (Int32.ofInt (-2147483648))), (1, .int (Int32.ofInt e2)), (0, .ref (A 41))]) (show cdA 22 10 = some (.istore_n 2, 1, 0, 0, 0) from rfl) (by decide) (fun _ h => h) ?_
  refine z_ldc X (show cdA 22 11 = some (.ldc 84, 2, 0, 0, 2147483647) from rfl) ?_
  refine z_store_n X (lv' := [(3, .int (Int32.ofInt 2147483647)), (2, .int (Int32.ofInt (-2147483648))), (1, .int (Int32.ofInt e2)), (0, .ref (A 41))]) (show cdA 22 13 = some (.istore_n 3, 1, 0, 0, 0) from rfl) (by decide) (fun _ h => h) ?_
  refine z_const X (show cdA 22 14 = some (.iconst 0, 1, 0, 0, 0) from rfl) ?_
  refine z_store X (lv' := [(4, .int (Int32.ofInt 0)), (3, .int (Int32.ofInt 2147483647)), (2, .int (Int32.ofInt (-2147483648))), (1, .int (Int32.ofInt e2)), (0, .ref (A 41))]) (show cdA 22 15 = some (.istore 4, 2, 0, 0, 0) from rfl) (by decide) (fun _ h => h) ?_
  refine z_const X (show cdA 22 17 = some (.iconst 0, 1, 0, 0, 0) from rfl) ?_
  refine z_store X (lv' := [(5, .int (Int32.ofInt 0)), (4, .int (Int32.ofInt 0)), (3, .int (Int32.ofInt 2147483647)), (2, .int (Int32.ofInt (-2147483648))), (1, .int (Int32.ofInt e2)), (0, .ref (A 41))]) (show cdA 22 18 = some (.istore 5, 2, 0, 0, 0) from rfl) (by decide) (fun _ h => h) ?_
  refine WS_lv (lv := [(0, .ref (A 41)), (1, .int (Int32.ofInt e2)), (2, .int (Int32.ofInt (-2147483648))), (3, .int (Int32.ofInt 2147483647)), (4, .int (Int32.ofInt 0)), (5, .int (Int32.ofInt 0))]) (List.forall_mem_cons.mpr ⟨(List.Mem.tail _ (List.Mem.tail _ (List.Mem.tail _ (List.Mem.tail _ (List.Mem.tail _ (List.Mem.head _)))))), (List.forall_mem_cons.mpr ⟨(List.Mem.tail _ (List.Mem.tail _ (List.Mem.tail _ (List.Mem.tail _ (List.Mem.head _))))), (List.forall_mem_cons.mpr ⟨(List.Mem.tail _ (List.Mem.tail _ (List.Mem.tail _ (List.Mem.head _)))), (List.forall_mem_cons.mpr ⟨(List.Mem.tail _ (List.Mem.tail _ (List.Mem.head _))), (List.forall_mem_cons.mpr ⟨(List.Mem.tail _ (List.Mem.head _)), (List.forall_mem_cons.mpr ⟨(List.Mem.head _), (fun q h => absurd h List.not_mem_nil)⟩)⟩)⟩)⟩)⟩)⟩) ?_
  refine L20 ((8 - 0 : Int).toNat + 1) s1 e2 (-2147483648) 2147483647 0 0 Is1 Gs1 (by first | exact ⟨by omega, And.intro (by decide) (by decide), And.intro (by decide) (by decide), Or.inl (by decide), by decide, by decide⟩ | omega) (Nat.lt_succ_self _) ?_
  intro s3 x4 x5 x6 x7 x8 Is3 Fs3 hs3
  refine z_load X (x := x7) (show cdA 22 80 = some (.iload 4, 2, 0, 0, 0) from rfl) (List.Mem.tail _ (List.Mem.tail _ (List.Mem.tail _ (List.Mem.tail _ (List.Mem.head _))))) ?_
  refine z_if_eq X (t := 96) (show cdA 22 82 = some (.ifCond .eq 14, 3, 0, 0, 0) from rfl) (by decide) ⟨by first | exact oq_bde653e9 hs3.2.2.2.1 | omega, by first | exact oq_4ad2cb8b hs3.2.2.2.1 | omega⟩ (fun g9 => ?_) (fun g9 => ?_)
  ·
    refine z_load_n X (x := x4) (show cdA 22 96 = some (.iload_n 1, 1, 0, 0, 0) from rfl) (List.Mem.tail _ (List.Mem.head _)) ?_
    exact w_iret X.1 q hRt rfl (ax_d X (show cdA 22 97 = some (.ireturn, 1, 0, 0, 0) from rfl)) (Nat.zero_le _) (Nat.zero_le _) ⟨_, rfl, Is3, Fs3, x4, rfl, ⟨by first | exact hs3.1.1 | omega, by first | exact hs3.1.2 | omega⟩, trivial⟩
  ·
    refine z_load_n X (x := x4) (show cdA 22 85 = some (.iload_n 1, 1, 0, 0, 0) from rfl) (List.Mem.tail _ (List.Mem.head _)) ?_
    refine z_bipush X (show cdA 22 86 = some (.bipush 10, 2, 0, 0, 10) from rfl) ?_
    refine z_load_n X (x := x5) (show cdA 22 88 = some (.iload_n 2, 1, 0, 0, 0) from rfl) (List.Mem.tail _ (List.Mem.tail _ (List.Mem.head _))) ?_
    refine z_load_n X (x := x6) (show cdA 22 89 = some (.iload_n 3, 1, 0, 0, 0) from rfl) (List.Mem.tail _ (List.Mem.tail _ (List.Mem.tail _ (List.Mem.head _)))) ?_
    refine z_sub X (show cdA 22 90 = some (.isub, 1, 0, 0, 0) from rfl) ?_
    refine z_any (fun y10 hy10 => ?_)
    refine z_mul X (show cdA 22 91 = some (.imul, 1, 0, 0, 0) from rfl) ?_
    refine z_any (fun y11 hy11 => ?_)
    refine z_add X (show cdA 22 92 = some (.iadd, 1, 0, 0, 0) from rfl) ?_
    refine z_any (fun y12 hy12 => ?_)
    refine z_goto X (t := 97) (show cdA 22 93 = some (.goto 4, 3, 0, 0, 0) from rfl) (by decide) ?_
    exact w_iret X.1 q hRt rfl (ax_d X (show cdA 22 97 = some (.ireturn, 1, 0, 0, 0) from rfl)) (Nat.zero_le _) (Nat.zero_le _) ⟨_, rfl, Is3, Fs3, y12, rfl, hy12, trivial⟩
set_option maxRecDepth 4000 in
theorem c2_mayMatter_41 (G : GX l s0 D tys a0 dT) (I : Bd s) {x : Int} (p0 : 0 ≤ x ∧ x ≤ 127) : CT l s0 D A dT 24 (rmN 24) [.ref (A 41), .int (Int32.ofInt x)] s (fun o t => Bd t ∧ Fm [] [] s t ∧ ∃ e, o = .inl (some (.int (Int32.ofInt e))) ∧ rng e ∧ (e = 0 ∨ e = 1)) := by
  refine ct_ofX G (by decide) (Nat.le_of_ble_eq_true rfl) (fun k X E ET hRt hXt q => ?_)
  show WS k 0 [(0, .ref (A 41)), (1, .int (Int32.ofInt x))] [] _ 0 0
  have F : Fm [] [] s s := fm_rf _ _ s
  refine z_aload_n X (x := A 41) (show cdA 24 0 = some (.aload_n 0, 1, 0, 0, 0) from rfl) (List.Mem.head _) ?_
  refine s_getR X 41 (show cdA 24 1 = some (.getfield 33, 3, 2, 2, 0) from rfl) (by decide) rfl rfl ?_
  refine s_getR X 31 (show cdA 24 4 = some (.getfield 121, 3, 0, 1, 0) from rfl) (by decide) rfl rfl ?_
  refine z_getI X 19 (show cdA 24 7 = some (.getfield 125, 3, 7, 6, 0) from rfl) (by decide) rfl rfl ?_
  have b1 : (0 : Int) ≤ iI s 15 ∧ iI s 15 ≤ 1 := I.1 15
  refine z_if_ne X (t := 24) (show cdA 24 10 = some (.ifCond .ne 14, 3, 1, 0, 0) from rfl) (by decide) (rng_to _) (fun g2 => ?_) (fun g2 => ?_)
  ·
    refine z_const X (show cdA 24 24 = some (.iconst 1, 1, 0, 0, 0) from rfl) ?_
    refine z_goto X (t := 29) (show cdA 24 25 = some (.goto 4, 3, 0, 0, 0) from rfl) (by decide) ?_
    exact w_iret X.1 q hRt (nar_ret (by first | exact Or.inr (by decide) | omega)) (ax_d X (show cdA 24 29 = some (.ireturn, 1, 0, 0, 0) from rfl)) (Nat.zero_le _) (Nat.zero_le _) ⟨_, rfl, I, F, 1, rfl, (by decide), by first | exact Or.inr (by decide) | omega⟩
  ·
    refine z_aload_n X (x := A 41) (show cdA 24 13 = some (.aload_n 0, 1, 0, 0, 0) from rfl) (List.Mem.head _) ?_
    refine s_getR X 41 (show cdA 24 14 = some (.getfield 25, 3, 2, 0, 0) from rfl) (by decide) rfl rfl ?_
    refine z_load_n X (x := x) (show cdA 24 17 = some (.iload_n 1, 1, 0, 0, 0) from rfl) (List.Mem.tail _ (List.Mem.head _)) ?_
    refine z_callV X 3 (rm := rmN 122) (As := [.int (Int32.ofInt x)]) (st := []) (show cdA 24 18 = some (.invokevirtual 131, 3, 122, 0, 0) from rfl) rfl (by decide) rfl (by rw [E.1, E.2.1, E.2.2.1]; exact c9_isVisited_3 G I (by first | exact ⟨p0.1, p0.2⟩ | omega)) ⟨by rw [E.2.2.2]; exact (show (rmN 122).frames + 1 ≤ (rmN 24).frames by decide), by rw [E.2.2.2]; exact (show 8 + (mNL (miB 122) + 11) + (rmN 122).locals ≤ (rmN 24).locals by decide), by rw [E.2.2.2]; exact (show 0 + (rmN 122).cells ≤ (rmN 24).cells by decide), by rw [E.2.2.2]; exact (show 0 + (rmN 122).slots ≤ (rmN 24).slots by decide)⟩ (Nat.le_of_ble_eq_true rfl) (fun vv s3 hq => ?_) (fun ee s3 hq => ?_)
    rotate_left
    · obtain ⟨Is3, Fs3, e4, hv, hrs3, hps3⟩ := hq; cases hv
    obtain ⟨Is3, Fs3, e4, hv, hrs3, hps3⟩ := hq
    cases hv
    have Gs3 := fm_ts F Fs3 (by decide) (by decide)
    show WS k 21 [(0, .ref (A 41)), (1, .int (Int32.ofInt x))] [.int (Int32.ofInt e4)] (Wd A dT s3) 0 0
    have N5 : ∀ e6 : Int, (((e4 = 0) ∧ e6 = 0) ∨ ((e4 ≠ 0) ∧ e6 = 1)) → WS k 29 [(0, .ref (A 41)), (1, .int (Int32.ofInt x))] [.int (Int32.ofInt e6)] (Wd A dT s3) 0 0 := by
      intro e6 he6
      have re6 : 0 ≤ e6 ∧ e6 ≤ 1 := by omega
      exact w_iret X.1 q hRt (nar_ret (by first | exact oq_54ac7134 re6.2 re6.1 he6 | omega)) (ax_d X (show cdA 24 29 = some (.ireturn, 1, 0, 0, 0) from rfl)) (Nat.zero_le _) (Nat.zero_le _) ⟨_, rfl, Is3, Gs3, e6, rfl, ⟨by first | exact oq_fa4e5087 re6.1 | omega, by first | exact oq_22e1e6b0 re6.2 | omega⟩, by first | exact oq_54ac7134 re6.2 re6.1 he6 | omega⟩
    refine z_if_eq X (t := 28) (show cdA 24 21 = some (.ifCond .eq 7, 3, 0, 0, 0) from rfl) (by decide) hrs3 (fun g7 => ?_) (fun g7 => ?_)
    ·
      refine z_const X (show cdA 24 28 = some (.iconst 0, 1, 0, 0, 0) from rfl) ?_
      exact N5 _ (Or.inl ⟨g7, rfl⟩)
    ·
      refine z_const X (show cdA 24 24 = some (.iconst 1, 1, 0, 0, 0) from rfl) ?_
      refine z_goto X (t := 29) (show cdA 24 25 = some (.goto 4, 3, 0, 0, 0) from rfl) (by decide) ?_
      exact N5 _ (Or.inr (⟨g7, rfl⟩))
set_option maxRecDepth 4000 in
theorem c2_compare_41 (G : GX l s0 D tys a0 dT) (I : Bd s) {x y z : Int} (p0 : 0 ≤ x ∧ x ≤ 127) (p1 : 0 ≤ y ∧ y ≤ 7) (p2 : rng z) : CT l s0 D A dT 26 (rmN 26) [.ref (A 41), .int (Int32.ofInt x), .int (Int32.ofInt y), .int (Int32.ofInt z)] s (fun o t => Bd t ∧ Fm [25, 26, 27] [] s t ∧ o = .inl none ∧ (True)) := by
  refine ct_ofX G (by decide) (Nat.le_of_ble_eq_true rfl) (fun k X E ET hRt hXt q => ?_)
  show WS k 0 [(0, .ref (A 41)), (1, .int (Int32.ofInt x)), (2, .int (Int32.ofInt y)), (3, .int (Int32.ofInt z))] [] _ 0 0
  have F : Fm [25, 26, 27] [] s s := fm_rf _ _ s
  refine z_load_n X (x := z) (show cdA 26 0 = some (.iload_n 3, 1, 0, 0, 0) from rfl) (List.Mem.tail _ (List.Mem.tail _ (List.Mem.tail _ (List.Mem.head _)))) ?_
  refine z_aload_n X (x := A 41) (show cdA 26 1 = some (.aload_n 0, 1, 0, 0, 0) from rfl) (List.Mem.head _) ?_
  refine z_getI X 41 (show cdA 26 2 = some (.getfield 104, 3, 2, 9, 0) from rfl) (by decide) rfl rfl ?_
  have b1 : ((-2147483648) : Int) ≤ iI s 27 ∧ iI s 27 ≤ 2147483647 := I.1 27
  refine z_icmp_ge X (t := 23) (show cdA 26 5 = some (.if_icmp .ge 18, 3, 3, 0, 0) from rfl) (by decide) ⟨by first | exact p2.1 | omega, by first | exact p2.2 | omega⟩ (rng_to _) (fun g2 => ?_) (fun g2 => ?_)
  ·
    exact w_vret X.1 q hRt (ax_d X (show cdA 26 23 = some (.return_, 1, 0, 0, 0) from rfl)) (Nat.zero_le _) (Nat.zero_le _) ⟨_, rfl, I, F, rfl, trivial⟩
  ·
    refine z_aload_n X (x := A 41) (show cdA 26 8 = some (.aload_n 0, 1, 0, 0, 0) from rfl) (List.Mem.head _) ?_
    refine z_load_n X (x := z) (show cdA 26 9 = some (.iload_n 3, 1, 0, 0, 0) from rfl) (List.Mem.tail _ (List.Mem.tail _ (List.Mem.tail _ (List.Mem.head _)))) ?_
    refine s_putI X 41 (show cdA 26 10 = some (.putfield 104, 3, 2, 9, 0) from rfl) (by decide) rfl rfl (by decide) rfl rfl rfl ?_
    obtain ⟨s3, hs3⟩ : ∃ x0, x0 = uI s 27 (Int32.ofInt z) := ⟨_, rfl⟩
    rw [← hs3]
    have Is3 : Bd s3 := by rw [hs3]; exact bd_I I (show ((-2147483648) : Int) ≤ z ∧ z ≤ 2147483647 by first | exact ⟨p2.1, p2.2⟩ | omega) ⟨by first | exact p2.1 | omega, by first | exact p2.2 | omega⟩
    have Fs3 := fm_I (x := Int32.ofInt z) F (show 27 ∈ _ by decide)
    rw [← hs3] at Fs3
    have vs3 : iI s3 27 = z := by rw [hs3]; exact iI_u ⟨by first | exact p2.1 | omega, by first | exact p2.2 | omega⟩
    refine z_aload_n X (x := A 41) (show cdA 26 13 = some (.aload_n 0, 1, 0, 0, 0) from rfl) (List.Mem.head _) ?_
    refine z_load_n X (x := x) (show cdA 26 14 = some (.iload_n 1, 1, 0, 0, 0) from rfl) (List.Mem.tail _ (List.Mem.head _)) ?_
    refine s_putI X 41 (show cdA 26 15 = some (.putfield 97, 3, 2, 7, 0) from rfl) (by decide) rfl rfl (by decide) rfl rfl rfl ?_
    obtain ⟨s4, hs4⟩ : ∃ x0, x0 = uI s3 25 (Int32.ofInt x) := ⟨_, rfl⟩
    rw [← hs4]
    have Is4 : Bd s4 := by rw [hs4]; exact bd_I Is3 (show ((-1) : Int) ≤ x ∧ x ≤ 127 by first | exact ⟨oq_ca54ea22 p0.1, p0.2⟩ | omega) ⟨by first | exact oq_fa4e5087 p0.1 | omega, by first | exact oq_07d346ce p0.2 | omega⟩
    have Fs4 := fm_I (x := Int32.ofInt x) Fs3 (show 25 ∈ _ by decide)
    rw [← hs4] at Fs4
    have vs4 : iI s4 25 = x := by rw [hs4]; exact iI_u ⟨by first | exact oq_fa4e5087 p0.1 | omega, by first | exact oq_07d346ce p0.2 | omega⟩
    refine z_aload_n X (x := A 41) (show cdA 26 18 = some (.aload_n 0, 1, 0, 0, 0) from rfl) (List.Mem.head _) ?_
    refine z_load_n X (x := y) (show cdA 26 19 = some (.iload_n 2, 1, 0, 0, 0) from rfl) (List.Mem.tail _ (List.Mem.tail _ (List.Mem.head _))) ?_
    refine s_putI X 41 (show cdA 26 20 = some (.putfield 144, 3, 2, 8, 0) from rfl) (by decide) rfl rfl (by decide) rfl rfl rfl ?_
    obtain ⟨s5, hs5⟩ : ∃ x0, x0 = uI s4 26 (Int32.ofInt y) := ⟨_, rfl⟩
    rw [← hs5]
    have Is5 : Bd s5 := by rw [hs5]; exact bd_I Is4 (show (0 : Int) ≤ y ∧ y ≤ 7 by first | exact ⟨p1.1, p1.2⟩ | omega) ⟨by first | exact oq_fa4e5087 p1.1 | omega, by first | exact oq_0e78ca7d p1.2 | omega⟩
    have Fs5 := fm_I (x := Int32.ofInt y) Fs4 (show 26 ∈ _ by decide)
    rw [← hs5] at Fs5
    have vs5 : iI s5 26 = y := by rw [hs5]; exact iI_u ⟨by first | exact oq_fa4e5087 p1.1 | omega, by first | exact oq_0e78ca7d p1.2 | omega⟩
    exact w_vret X.1 q hRt (ax_d X (show cdA 26 23 = some (.return_, 1, 0, 0, 0) from rfl)) (Nat.zero_le _) (Nat.zero_le _) ⟨_, rfl, Is5, Fs5, rfl, trivial⟩
set_option maxRecDepth 4000 in
theorem c2_tryCell_41 (G : GX l s0 D tys a0 dT) (I : Bd s) {x y z : Int} (p0 : 0 ≤ x ∧ x ≤ 127) (p1 : 0 ≤ y ∧ y ≤ 7) (p2 : rng z) : CT l s0 D A dT 25 (rmN 25) [.ref (A 41), .int (Int32.ofInt x), .int (Int32.ofInt y), .int (Int32.ofInt z)] s (fun o t => Bd t ∧ Fm [22, 23, 24, 25, 26, 27] [33, 26, 27, 28, 29, 30, 31, 32, 20, 36, 37, 21, 1022, 1023] s t ∧ o = .inl none ∧ (True)) := by
  refine ct_ofX G (by decide) (Nat.le_of_ble_eq_true rfl) (fun k X E ET hRt hXt q => ?_)
  show WS k 0 [(0, .ref (A 41)), (1, .int (Int32.ofInt x)), (2, .int (Int32.ofInt y)), (3, .int (Int32.ofInt z))] [] _ 0 0
  have F : Fm [22, 23, 24, 25, 26, 27] [33, 26, 27, 28, 29, 30, 31, 32, 20, 36, 37, 21, 1022, 1023] s s := fm_rf _ _ s
  have L98 : ∀ (n : Nat) (t : PS) (xv yv zv op ok p : Int), Bd t → Fm [22, 23, 24, 25, 26, 27] [33, 26, 27, 28, 29, 30, 31, 32, 20, 36, 37, 21, 1022, 1023] s t → ((0 ≤ xv ∧ xv ≤ 127) ∧ (0 ≤ yv ∧ yv ≤ 7) ∧ rng zv ∧ rng op ∧ rng ok ∧ 0 ≤ p ∧ p ≤ 8) → (8 - p : Int).toNat < n → (∀ (t' : PS) (p' : Int), Bd t' → Fm [22, 23, 24, 25, 26, 27] [33, 26, 27, 28, 29, 30, 31, 32, 20, 36, 37, 21, 1022, 1023] s t' → ((0 ≤ xv ∧ xv ≤ 127) ∧ (0 ≤ yv ∧ yv ≤ 7) ∧ rng zv ∧ rng op ∧ rng ok ∧ 0 ≤ p' ∧ p' ≤ 8) → WS k 206 [(0, .ref (A 41)), (1, .int (Int32.ofInt xv)), (2, .int (Int32.ofInt yv)), (3, .int (Int32.ofInt zv)), (5, .int (Int32.ofInt op)), (6, .int (Int32.ofInt ok)), (7, .int (Int32.ofInt p'))] [] (Wd A dT t') 0 0) → WS k 98 [(0, .ref (A 41)), (1, .int (Int32.ofInt xv)), (2, .int (Int32.ofInt yv)), (3, .int (Int32.ofInt zv)), (5, .int (Int32.ofInt op)), (6, .int (Int32.ofInt ok)), (7, .int (Int32.ofInt p))] [] (Wd A dT t) 0 0 := by
    intro n
    induction n with
    | zero =>
      intro t xv yv zv op ok p I F hi hm kx
      exact absurd hm (Nat.not_lt_zero _)
    | succ n ih =>
      intro t xv yv zv op ok p I F hi hm kx
      refine z_load X (x := p) (show cdA 25 98 = some (.iload 7, 2, 0, 0, 0) from rfl) (List.Mem.tail _ (List.Mem.tail _ (List.Mem.tail _ (List.Mem.tail _ (List.Mem.tail _ (List.Mem.tail _ (List.Mem.head _))))))) ?_
      refine z_bipush X (show cdA 25 100 = some (.bipush 8, 2, 0, 0, 8) from rfl) ?_
      refine z_icmp_ge X (t := 206) (show cdA 25 102 = some (.if_icmp .ge 104, 3, 3, 0, 0) from rfl) (by decide) ⟨by first | exact oq_fa4e5087 hi.2.2.2.2.2.1 | omega, by first | exact oq_d3f5d874 hi.2.2.2.2.2.2 | omega⟩ (by decide) (fun g1001 => ?_) (fun g1001 => ?_)
      ·
        refine WS_lv (lv := [(0, .ref (A 41)), (1, .int (Int32.ofInt xv)), (2, .int (Int32.ofInt yv)), (3, .int (Int32.ofInt zv)), (5, .int (Int32.ofInt op)), (6, .int (Int32.ofInt ok)), (7, .int (Int32.ofInt p))]) (List.forall_mem_cons.mpr ⟨(List.Mem.head _), (List.forall_mem_cons.mpr ⟨(List.Mem.tail _ (List.Mem.head _)), (List.forall_mem_cons.mpr ⟨(List.Mem.tail _ (List.Mem.tail _ (List.Mem.head _))), (List.forall_mem_cons.mpr ⟨(List.Mem.tail _ (List.Mem.tail _ (List.Mem.tail _ (List.Mem.head _)))), (List.forall_mem_cons.mpr ⟨(List.Mem.tail _ (List.Mem.tail _ (List.Mem.tail _ (List.Mem.tail _ (List.Mem.head _))))), (List.forall_mem_cons.mpr ⟨(List.Mem.tail _ (List.Mem.tail _ (List.Mem.tail _ (List.Mem.tail _ (List.Mem.tail _ (List.Mem.head _)))))), (List.forall_mem_cons.mpr ⟨(List.Mem.tail _ (List.Mem.tail _ (List.Mem.tail _ (List.Mem.tail _ (List.Mem.tail _ (List.Mem.tail _ (List.Mem.head _))))))), (fun q h => absurd h List.not_mem_nil)⟩)⟩)⟩)⟩)⟩)⟩)⟩) ?_
        exact kx _ p I F (by first | exact ⟨And.intro (hi.1.1) (hi.1.2), And.intro (hi.2.1.1) (hi.2.1.2), And.intro (hi.2.2.1.1) (hi.2.2.1.2), And.intro (hi.2.2.2.1.1) (hi.2.2.2.1.2), And.intro (hi.2.2.2.2.1.1) (hi.2.2.2.2.1.2), hi.2.2.2.2.2.1, hi.2.2.2.2.2.2⟩ | omega)
      ·
        refine z_load_n X (x := zv) (show cdA 25 105 = some (.iload_n 3, 1, 0, 0, 0) from rfl) (List.Mem.tail _ (List.Mem.tail _ (List.Mem.tail _ (List.Mem.head _)))) ?_
        refine z_load X (x := p) (show cdA 25 106 = some (.iload 7, 2, 0, 0, 0) from rfl) (List.Mem.tail _ (List.Mem.tail _ (List.Mem.tail _ (List.Mem.tail _ (List.Mem.tail _ (List.Mem.tail _ (List.Mem.head _))))))) ?_
        refine z_bshr X (show cdA 25 108 = some (.ishr, 1, 0, 0, 0) from rfl) ?_
        refine z_any (fun y1002 hy1002 => ?_)
        refine z_const X (show cdA 25 109 = some (.iconst 1, 1, 0, 0, 0) from rfl) ?_
        refine z_andm X (show cdA 25 110 = some (.iand, 1, 0, 0, 0) from rfl) (by decide) (by decide) (fun y1003 hy1003 gy1003 => ?_)
        refine z_if_eq X (t := 200) (show cdA 25 111 = some (.ifCond .eq 89, 3, 0, 0, 0) from rfl) (by decide) ⟨by first | exact oq_fa4e5087 hy1003 | omega, by first | exact oq_22e1e6b0 gy1003 | omega⟩ (fun g1004 => ?_) (fun g1004 => ?_)
        ·
          refine z_inc X (x := p) (lv' := [(7, .int (Int32.ofInt (p + 1))), (0, .ref (A 41)), (1, .int (Int32.ofInt xv)), (2, .int (Int32.ofInt yv)), (3, .int (Int32.ofInt zv)), (5, .int (Int32.ofInt op)), (6, .int (Int32.ofInt ok))]) (show cdA 25 200 = some (.iinc 7 1, 3, 0, 0, 0) from rfl) (by decide) (List.Mem.tail _ (List.Mem.tail _ (List.Mem.tail _ (List.Mem.tail _ (List.Mem.tail _ (List.Mem.tail _ (List.Mem.head _))))))) (fun _ h => h) ?_
          refine z_goto X (t := 98) (show cdA 25 203 = some (.goto (-105), 3, 0, 0, 0) from rfl) (by decide) ?_
          refine WS_lv (lv := [(0, .ref (A 41)), (1, .int (Int32.ofInt xv)), (2, .int (Int32.ofInt yv)), (3, .int (Int32.ofInt zv)), (5, .int (Int32.ofInt op)), (6, .int (Int32.ofInt ok)), (7, .int (Int32.ofInt (p + 1)))]) (List.forall_mem_cons.mpr ⟨(List.Mem.tail _ (List.Mem.head _)), (List.forall_mem_cons.mpr ⟨(List.Mem.tail _ (List.Mem.tail _ (List.Mem.head _))), (List.forall_mem_cons.mpr ⟨(List.Mem.tail _ (List.Mem.tail _ (List.Mem.tail _ (List.Mem.head _)))), (List.forall_mem_cons.mpr ⟨(List.Mem.tail _ (List.Mem.tail _ (List.Mem.tail _ (List.Mem.tail _ (List.Mem.head _))))), (List.forall_mem_cons.mpr ⟨(List.Mem.tail _ (List.Mem.tail _ (List.Mem.tail _ (List.Mem.tail _ (List.Mem.tail _ (List.Mem.head _)))))), (List.forall_mem_cons.mpr ⟨(List.Mem.tail _ (List.Mem.tail _ (List.Mem.tail _ (List.Mem.tail _ (List.Mem.tail _ (List.Mem.tail _ (List.Mem.head _))))))), (List.forall_mem_cons.mpr ⟨(List.Mem.head _), (fun q h => absurd h List.not_mem_nil)⟩)⟩)⟩)⟩)⟩)⟩)⟩) ?_
          exact ih _ xv yv zv op ok (p + 1) I F (by first | exact ⟨And.intro (hi.1.1) (hi.1.2), And.intro (hi.2.1.1) (hi.2.1.2), And.intro (hi.2.2.1.1) (hi.2.2.1.2), And.intro (hi.2.2.2.1.1) (hi.2.2.2.1.2), And.intro (hi.2.2.2.2.1.1) (hi.2.2.2.2.1.2), oq_54f49eb5 hi.2.2.2.2.2.1, oq_0c7b19c3 g1001⟩ | omega) (by first | exact qk_me hm (by decide) (oq_9f368f35 g1001) | omega) kx
        ·
          refine z_aload_n X (x := A 41) (show cdA 25 114 = some (.aload_n 0, 1, 0, 0, 0) from rfl) (List.Mem.head _) ?_
          refine s_getR X 41 (show cdA 25 115 = some (.getfield 15, 3, 2, 4, 0) from rfl) (by decide) rfl rfl ?_
          refine z_load X (x := p) (show cdA 25 118 = some (.iload 7, 2, 0, 0, 0) from rfl) (List.Mem.tail _ (List.Mem.tail _ (List.Mem.tail _ (List.Mem.tail _ (List.Mem.tail _ (List.Mem.tail _ (List.Mem.head _))))))) ?_
          refine z_ald X 43 (show cdA 25 120 = some (.iaload, 1, 0, 0, 0) from rfl) (by decide) rfl (by first | exact hi.2.2.2.2.2.1 | omega) (show p < 8 by first | exact g1001 | omega) (by decide) ?_
          have b1005 : ((-2147483648) : Int) ≤ iC t 36 (p).toNat ∧ iC t 36 (p).toNat ≤ 2147483647 := I.2 36 _ (show (p).toNat < 8 by first | exact oq_db4b3b8b g1001 | omega)
          refine z_store X (lv' := [(8, .int (Int32.ofInt (iC t 36 (p).toNat))), (0, .ref (A 41)), (1, .int (Int32.ofInt xv)), (2, .int (Int32.ofInt yv)), (3, .int (Int32.ofInt zv)), (5, .int (Int32.ofInt op)), (6, .int (Int32.ofInt ok)), (7, .int (Int32.ofInt p))]) (show cdA 25 121 = some (.istore 8, 2, 0, 0, 0) from rfl) (by decide) (fun _ h => h) ?_
          refine z_aload_n X (x := A 41) (show cdA 25 123 = some (.aload_n 0, 1, 0, 0, 0) from rfl) (List.Mem.tail _ (List.Mem.head _)) ?_
          refine s_getR X 41 (show cdA 25 124 = some (.getfield 19, 3, 2, 5, 0) from rfl) (by decide) rfl rfl ?_
          refine z_load X (x := p) (show cdA 25 127 = some (.iload 7, 2, 0, 0, 0) from rfl) (List.Mem.tail _ (List.Mem.tail _ (List.Mem.tail _ (List.Mem.tail _ (List.Mem.tail _ (List.Mem.tail _ (List.Mem.tail _ (List.Mem.head _)))))))) ?_
          refine z_ald X 44 (show cdA 25 129 = some (.iaload, 1, 0, 0, 0) from rfl) (by decide) rfl (by first | exact hi.2.2.2.2.2.1 | omega) (show p < 8 by first | exact g1001 | omega) (by decide) ?_
          have b1006 : ((-2147483648) : Int) ≤ iC t 37 (p).toNat ∧ iC t 37 (p).toNat ≤ 2147483647 := I.2 37 _ (show (p).toNat < 8 by first | exact oq_db4b3b8b g1001 | omega)
          refine z_store X (lv' := [(9, .int (Int32.ofInt (iC t 37 (p).toNat))), (8, .int (Int32.ofInt (iC t 36 (p).toNat))), (0, .ref (A 41)), (1, .int (Int32.ofInt xv)), (2, .int (Int32.ofInt yv)), (3, .int (Int32.ofInt zv)), (5, .int (Int32.ofInt op)), (6, .int (Int32.ofInt ok)), (7, .int (Int32.ofInt p))]) (show cdA 25 130 = some (.istore 9, 2, 0, 0, 0) from rfl) (by decide) (fun _ h => h) ?_
          refine z_aload_n X (x := A 41) (show cdA 25 132 = some (.aload_n 0, 1, 0, 0, 0) from rfl) (List.Mem.tail _ (List.Mem.tail _ (List.Mem.head _))) ?_
          refine s_getR X 41 (show cdA 25 133 = some (.getfield 29, 3, 2, 1, 0) from rfl) (by decide) rfl rfl ?_
          refine z_load_n X (x := xv) (show cdA 25 136 = some (.iload_n 1, 1, 0, 0, 0) from rfl) (List.Mem.tail _ (List.Mem.tail _ (List.Mem.tail _ (List.Mem.head _)))) ?_
          refine z_load X (x := p) (show cdA 25 137 = some (.iload 7, 2, 0, 0, 0) from rfl) (List.Mem.tail _ (List.Mem.tail _ (List.Mem.tail _ (List.Mem.tail _ (List.Mem.tail _ (List.Mem.tail _ (List.Mem.tail _ (List.Mem.tail _ (List.Mem.head _))))))))) ?_
          refine z_callV X 25 (rm := rmN 28) (As := [.int (Int32.ofInt xv), .int (Int32.ofInt p)]) (st := []) (show cdA 25 139 = some (.invokevirtual 138, 3, 28, 0, 0) from rfl) rfl (by decide) rfl (by rw [E.1, E.2.1, E.2.2.1]; exact c3_put_25 G I (by first | exact ⟨hi.1.1, hi.1.2⟩ | omega) (by first | exact ⟨oq_ca54ea22 hi.2.2.2.2.2.1, oq_78c639ed g1001⟩ | omega)) ⟨by rw [E.2.2.2]; exact (show (rmN 28).frames + 1 ≤ (rmN 25).frames by decide), by rw [E.2.2.2]; exact (show 8 + (mNL (miB 28) + 11) + (rmN 28).locals ≤ (rmN 25).locals by decide), by rw [E.2.2.2]; exact (show 0 + (rmN 28).cells ≤ (rmN 25).cells by decide), by rw [E.2.2.2]; exact (show 0 + (rmN 28).slots ≤ (rmN 25).slots by decide)⟩ (Nat.le_of_ble_eq_true rfl) (fun vv s1007 hq => ?_) (fun ee s1007 hq => ?_)
          rotate_left
          · obtain ⟨Is1007, Fs1007, e1008, hv, hrs1007, hps1007⟩ := hq; cases hv
          obtain ⟨Is1007, Fs1007, e1008, hv, hrs1007, hps1007⟩ := hq
          cases hv
          have Gs1007 := fm_ts F Fs1007 (by decide) (by decide)
          show WS k 142 [(9, .int (Int32.ofInt (iC t 37 (p).toNat))), (8, .int (Int32.ofInt (iC t 36 (p).toNat))), (0, .ref (A 41)), (1, .int (Int32.ofInt xv)), (2, .int (Int32.ofInt yv)), (3, .int (Int32.ofInt zv)), (5, .int (Int32.ofInt op)), (6, .int (Int32.ofInt ok)), (7, .int (Int32.ofInt p))] [.int (Int32.ofInt e1008)] (Wd A dT s1007) 0 0
          refine w_pop X.1 (ax_d X (show cdA 25 142 = some (.pop, 1, 0, 0, 0) from rfl)) rfl ?_
          refine z_aload_n X (x := A 41) (show cdA 25 143 = some (.aload_n 0, 1, 0, 0, 0) from rfl) (List.Mem.tail _ (List.Mem.tail _ (List.Mem.head _))) ?_
          refine s_getR X 41 (show cdA 25 144 = some (.getfield 22, 3, 2, 6, 0) from rfl) (by decide) rfl rfl ?_
          refine z_load X (x := p) (show cdA 25 147 = some (.iload 7, 2, 0, 0, 0) from rfl) (List.Mem.tail _ (List.Mem.tail _ (List.Mem.tail _ (List.Mem.tail _ (List.Mem.tail _ (List.Mem.tail _ (List.Mem.tail _ (List.Mem.tail _ (List.Mem.head _))))))))) ?_
          refine z_zald X 45 (show cdA 25 149 = some (.baload, 1, 0, 0, 0) from rfl) (by decide) rfl (by first | exact hi.2.2.2.2.2.1 | omega) (show p < 8 by first | exact g1001 | omega) (by decide) ?_
          have b1009 : (0 : Int) ≤ iC s1007 38 (p).toNat ∧ iC s1007 38 (p).toNat ≤ 1 := Is1007.2 38 _ (show (p).toNat < 8 by first | exact oq_db4b3b8b g1001 | omega)
          refine z_if_ne X (t := 162) (show cdA 25 150 = some (.ifCond .ne 12, 3, 1, 0, 0) from rfl) (by decide) (rng_to _) (fun g1010 => ?_) (fun g1010 => ?_)
          ·
            refine z_aload_n X (x := A 41) (show cdA 25 162 = some (.aload_n 0, 1, 0, 0, 0) from rfl) (List.Mem.tail _ (List.Mem.tail _ (List.Mem.head _))) ?_
            refine z_load X (x := p) (show cdA 25 163 = some (.iload 7, 2, 0, 0, 0) from rfl) (List.Mem.tail _ (List.Mem.tail _ (List.Mem.tail _ (List.Mem.tail _ (List.Mem.tail _ (List.Mem.tail _ (List.Mem.tail _ (List.Mem.tail _ (List.Mem.head _))))))))) ?_
            refine z_callV X 41 (rm := rmN 21) (As := [.int (Int32.ofInt p)]) (st := []) (show cdA 25 165 = some (.invokevirtual 70, 3, 21, 0, 0) from rfl) rfl (by decide) rfl (by rw [E.1, E.2.1, E.2.2.1]; exact c2_weigh_41 G Is1007 (by first | exact ⟨hi.2.2.2.2.2.1, oq_78c639ed g1001⟩ | omega)) ⟨by rw [E.2.2.2]; exact (show (rmN 21).frames + 1 ≤ (rmN 25).frames by decide), by rw [E.2.2.2]; exact (show 8 + (mNL (miB 21) + 11) + (rmN 21).locals ≤ (rmN 25).locals by decide), by rw [E.2.2.2]; exact (show 0 + (rmN 21).cells ≤ (rmN 25).cells by decide), by rw [E.2.2.2]; exact (show 0 + (rmN 21).slots ≤ (rmN 25).slots by decide)⟩ (Nat.le_of_ble_eq_true rfl) (fun vv s1011 hq => ?_) (fun ee s1011 hq => ?_)
            rotate_left
            · obtain ⟨Is1011, Fs1011, e1012, hv, hrs1011, hps1011⟩ := hq; cases hv
            obtain ⟨Is1011, Fs1011, e1012, hv, hrs1011, hps1011⟩ := hq
            cases hv
            have Gs1011 := fm_ts Gs1007 Fs1011 (by decide) (by decide)
            show WS k 168 [(9, .int (Int32.ofInt (iC t 37 (p).toNat))), (8, .int (Int32.ofInt (iC t 36 (p).toNat))), (0, .ref (A 41)), (1, .int (Int32.ofInt xv)), (2, .int (Int32.ofInt yv)), (3, .int (Int32.ofInt zv)), (5, .int (Int32.ofInt op)), (6, .int (Int32.ofInt ok)), (7, .int (Int32.ofInt p))] [.int (Int32.ofInt e1012)] (Wd A dT s1011) 0 0
            refine z_if_eq X (t := 182) (show cdA 25 168 = some (.ifCond .eq 14, 3, 0, 0, 0) from rfl) (by decide) hrs1011 (fun g1013 => ?_) (fun g1013 => ?_)
            ·
              refine z_aload_n X (x := A 41) (show cdA 25 182 = some (.aload_n 0, 1, 0, 0, 0) from rfl) (List.Mem.tail _ (List.Mem.tail _ (List.Mem.head _))) ?_
              refine s_getR X 41 (show cdA 25 183 = some (.getfield 15, 3, 2, 4, 0) from rfl) (by decide) rfl rfl ?_
              refine z_load X (x := p) (show cdA 25 186 = some (.iload 7, 2, 0, 0, 0) from rfl) (List.Mem.tail _ (List.Mem.tail _ (List.Mem.tail _ (List.Mem.tail _ (List.Mem.tail _ (List.Mem.tail _ (List.Mem.tail _ (List.Mem.tail _ (List.Mem.head _))))))))) ?_
              refine z_load X (x := (iC t 36 (p).toNat)) (show cdA 25 188 = some (.iload 8, 2, 0, 0, 0) from rfl) (List.Mem.tail _ (List.Mem.head _)) ?_
              refine z_ast X 43 (show cdA 25 190 = some (.iastore, 1, 0, 0, 0) from rfl) (by decide) rfl (by first | exact hi.2.2.2.2.2.1 | omega) (show p < 8 by first | exact g1001 | omega) (by decide) ?_
              obtain ⟨s1014, hs1014⟩ : ∃ x0, x0 = uC s1011 36 (p).toNat (Int32.ofInt (iC t 36 (p).toNat)) := ⟨_, rfl⟩
              rw [← hs1014]
              have Is1014 : Bd s1014 := by rw [hs1014]; exact bd_C Is1011 (show ((-2147483648) : Int) ≤ (iC t 36 (p).toNat) ∧ (iC t 36 (p).toNat) ≤ 2147483647 by first | exact ⟨b1005.1, b1005.2⟩ | omega) (rng_to _)
              have Fs1014 := fm_C (i := (p).toNat) (x := Int32.ofInt (iC t 36 (p).toNat)) Gs1011 (show 36 ∈ _ by decide)
              rw [← hs1014] at Fs1014
              refine z_aload_n X (x := A 41) (show cdA 25 191 = some (.aload_n 0, 1, 0, 0, 0) from rfl) (List.Mem.tail _ (List.Mem.tail _ (List.Mem.head _))) ?_
              refine s_getR X 41 (show cdA 25 192 = some (.getfield 19, 3, 2, 5, 0) from rfl) (by decide) rfl rfl ?_
              refine z_load X (x := p) (show cdA 25 195 = some (.iload 7, 2, 0, 0, 0) from rfl) (List.Mem.tail _ (List.Mem.tail _ (List.Mem.tail _ (List.Mem.tail _ (List.Mem.tail _ (List.Mem.tail _ (List.Mem.tail _ (List.Mem.tail _ (List.Mem.head _))))))))) ?_
              refine z_load X (x := (iC t 37 (p).toNat)) (show cdA 25 197 = some (.iload 9, 2, 0, 0, 0) from rfl) (List.Mem.head _) ?_
              refine z_ast X 44 (show cdA 25 199 = some (.iastore, 1, 0, 0, 0) from rfl) (by decide) rfl (by first | exact hi.2.2.2.2.2.1 | omega) (show p < 8 by first | exact g1001 | omega) (by decide) ?_
              obtain ⟨s1015, hs1015⟩ : ∃ x0, x0 = uC s1014 37 (p).toNat (Int32.ofInt (iC t 37 (p).toNat)) := ⟨_, rfl⟩
              rw [← hs1015]
              have Is1015 : Bd s1015 := by rw [hs1015]; exact bd_C Is1014 (show ((-2147483648) : Int) ≤ (iC t 37 (p).toNat) ∧ (iC t 37 (p).toNat) ≤ 2147483647 by first | exact ⟨b1006.1, b1006.2⟩ | omega) (rng_to _)
              have Fs1015 := fm_C (i := (p).toNat) (x := Int32.ofInt (iC t 37 (p).toNat)) Fs1014 (show 37 ∈ _ by decide)
              rw [← hs1015] at Fs1015
              refine z_inc X (x := p) (lv' := [(7, .int (Int32.ofInt (p + 1))), (9, .int (Int32.ofInt (iC t 37 (p).toNat))), (8, .int (Int32.ofInt (iC t 36 (p).toNat))), (0, .ref (A 41)), (1, .int (Int32.ofInt xv)), (2, .int (Int32.ofInt yv)), (3, .int (Int32.ofInt zv)), (5, .int (Int32.ofInt op)), (6, .int (Int32.ofInt ok))]) (show cdA 25 200 = some (.iinc 7 1, 3, 0, 0, 0) from rfl) (by decide) (List.Mem.tail _ (List.Mem.tail _ (List.Mem.tail _ (List.Mem.tail _ (List.Mem.tail _ (List.Mem.tail _ (List.Mem.tail _ (List.Mem.tail _ (List.Mem.head _))))))))) (fun _ h => h) ?_
              refine z_goto X (t := 98) (show cdA 25 203 = some (.goto (-105), 3, 0, 0, 0) from rfl) (by decide) ?_
              refine WS_lv (lv := [(0, .ref (A 41)), (1, .int (Int32.ofInt xv)), (2, .int (Int32.ofInt yv)), (3, .int (Int32.ofInt zv)), (5, .int (Int32.ofInt op)), (6, .int (Int32.ofInt ok)), (7, .int (Int32.ofInt (p + 1)))]) (List.forall_mem_cons.mpr ⟨(List.Mem.tail _ (List.Mem.tail _ (List.Mem.tail _ (List.Mem.head _)))), (List.forall_mem_cons.mpr ⟨(List.Mem.tail _ (List.Mem.tail _ (List.Mem.tail _ (List.Mem.tail _ (List.Mem.head _))))), (List.forall_mem_cons.mpr ⟨(List.Mem.tail _ (List.Mem.tail _ (List.Mem.tail _ (List.Mem.tail _ (List.Mem.tail _ (List.Mem.head _)))))), (List.forall_mem_cons.mpr ⟨(List.Mem.tail _ (List.Mem.tail _ (List.Mem.tail _ (List.Mem.tail _ (List.Mem.tail _ (List.Mem.tail _ (List.Mem.head _))))))), (List.forall_mem_cons.mpr ⟨(List.Mem.tail _ (List.Mem.tail _ (List.Mem.tail _ (List.Mem.tail _ (List.Mem.tail _ (List.Mem.tail _ (List.Mem.tail _ (List.Mem.head _)))))))), (List.forall_mem_cons.mpr ⟨(List.Mem.tail _ (List.Mem.tail _ (List.Mem.tail _ (List.Mem.tail _ (List.Mem.tail _ (List.Mem.tail _ (List.Mem.tail _ (List.Mem.tail _ (List.Mem.head _))))))))), (List.forall_mem_cons.mpr ⟨(List.Mem.head _), (fun q h => absurd h List.not_mem_nil)⟩)⟩)⟩)⟩)⟩)⟩)⟩) ?_
              exact ih _ xv yv zv op ok (p + 1) Is1015 Fs1015 (by first | exact ⟨And.intro (hi.1.1) (hi.1.2), And.intro (hi.2.1.1) (hi.2.1.2), And.intro (hi.2.2.1.1) (hi.2.2.1.2), And.intro (hi.2.2.2.1.1) (hi.2.2.2.1.2), And.intro (hi.2.2.2.2.1.1) (hi.2.2.2.2.1.2), oq_54f49eb5 hi.2.2.2.2.2.1, oq_0c7b19c3 g1001⟩ | omega) (by first | exact qk_me hm (by decide) (oq_9f368f35 g1001) | omega) kx
            ·
              refine z_aload_n X (x := A 41) (show cdA 25 171 = some (.aload_n 0, 1, 0, 0, 0) from rfl) (List.Mem.tail _ (List.Mem.tail _ (List.Mem.head _))) ?_
              refine z_load_n X (x := xv) (show cdA 25 172 = some (.iload_n 1, 1, 0, 0, 0) from rfl) (List.Mem.tail _ (List.Mem.tail _ (List.Mem.tail _ (List.Mem.head _)))) ?_
              refine z_load X (x := p) (show cdA 25 173 = some (.iload 7, 2, 0, 0, 0) from rfl) (List.Mem.tail _ (List.Mem.tail _ (List.Mem.tail _ (List.Mem.tail _ (List.Mem.tail _ (List.Mem.tail _ (List.Mem.tail _ (List.Mem.tail _ (List.Mem.head _))))))))) ?_
              refine z_aload_n X (x := A 41) (show cdA 25 175 = some (.aload_n 0, 1, 0, 0, 0) from rfl) (List.Mem.tail _ (List.Mem.tail _ (List.Mem.head _))) ?_
              refine z_callV X 41 (rm := rmN 22) (As := []) (st := [.int (Int32.ofInt p), .int (Int32.ofInt xv), .ref (A 41)]) (show cdA 25 176 = some (.invokevirtual 101, 3, 22, 0, 0) from rfl) rfl (by decide) rfl (by rw [E.1, E.2.1, E.2.2.1]; exact c2_priceNow_41 G Is1011 ) ⟨by rw [E.2.2.2]; exact (show (rmN 22).frames + 1 ≤ (rmN 25).frames by decide), by rw [E.2.2.2]; exact (show 8 + (mNL (miB 22) + 11) + (rmN 22).locals ≤ (rmN 25).locals by decide), by rw [E.2.2.2]; exact (show 0 + (rmN 22).cells ≤ (rmN 25).cells by decide), by rw [E.2.2.2]; exact (show 0 + (rmN 22).slots ≤ (rmN 25).slots by decide)⟩ (Nat.le_of_ble_eq_true rfl) (fun vv s1016 hq => ?_) (fun ee s1016 hq => ?_)
              rotate_left
              · obtain ⟨Is1016, Fs1016, e1017, hv, hrs1016, hps1016⟩ := hq; cases hv
              obtain ⟨Is1016, Fs1016, e1017, hv, hrs1016, hps1016⟩ := hq
              cases hv
              have Gs1016 := fm_ts Gs1011 Fs1016 (by decide) (by decide)
              show WS k 179 [(9, .int (Int32.ofInt (iC t 37 (p).toNat))), (8, .int (Int32.ofInt (iC t 36 (p).toNat))), (0, .ref (A 41)), (1, .int (Int32.ofInt xv)), (2, .int (Int32.ofInt yv)), (3, .int (Int32.ofInt zv)), (5, .int (Int32.ofInt op)), (6, .int (Int32.ofInt ok)), (7, .int (Int32.ofInt p))] [.int (Int32.ofInt e1017), .int (Int32.ofInt p), .int (Int32.ofInt xv), .ref (A 41)] (Wd A dT s1016) 0 0
              refine z_callV X 41 (rm := rmN 26) (As := [.int (Int32.ofInt xv), .int (Int32.ofInt p), .int (Int32.ofInt e1017)]) (st := []) (show cdA 25 179 = some (.invokevirtual 141, 3, 26, 0, 0) from rfl) rfl (by decide) rfl (by rw [E.1, E.2.1, E.2.2.1]; exact c2_compare_41 G Is1016 (by first | exact ⟨hi.1.1, hi.1.2⟩ | omega) (by first | exact ⟨hi.2.2.2.2.2.1, oq_78c639ed g1001⟩ | omega) (by omega)) ⟨by rw [E.2.2.2]; exact (show (rmN 26).frames + 1 ≤ (rmN 25).frames by decide), by rw [E.2.2.2]; exact (show 8 + (mNL (miB 26) + 11) + (rmN 26).locals ≤ (rmN 25).locals by decide), by rw [E.2.2.2]; exact (show 0 + (rmN 26).cells ≤ (rmN 25).cells by decide), by rw [E.2.2.2]; exact (show 0 + (rmN 26).slots ≤ (rmN 25).slots by decide)⟩ (Nat.le_of_ble_eq_true rfl) (fun vv s1018 hq => ?_) (fun ee s1018 hq => ?_)
              rotate_left
              · obtain ⟨Is1018, Fs1018, hv, hps1018⟩ := hq; cases hv
              obtain ⟨Is1018, Fs1018, hv, hps1018⟩ := hq
              cases hv
              have Gs1018 := fm_ts Gs1016 Fs1018 (by decide) (by decide)
              show WS k 182 [(9, .int (Int32.ofInt (iC t 37 (p).toNat))), (8, .int (Int32.ofInt (iC t 36 (p).toNat))), (0, .ref (A 41)), (1, .int (Int32.ofInt xv)), (2, .int (Int32.ofInt yv)), (3, .int (Int32.ofInt zv)), (5, .int (Int32.ofInt op)), (6, .int (Int32.ofInt ok)), (7, .int (Int32.ofInt p))] [] (Wd A dT s1018) 0 0
              refine z_aload_n X (x := A 41) (show cdA 25 182 = some (.aload_n 0, 1, 0, 0, 0) from rfl) (List.Mem.tail _ (List.Mem.tail _ (List.Mem.head _))) ?_
              refine s_getR X 41 (show cdA 25 183 = some (.getfield 15, 3, 2, 4, 0) from rfl) (by decide) rfl rfl ?_
              refine z_load X (x := p) (show cdA 25 186 = some (.iload 7, 2, 0, 0, 0) from rfl) (List.Mem.tail _ (List.Mem.tail _ (List.Mem.tail _ (List.Mem.tail _ (List.Mem.tail _ (List.Mem.tail _ (List.Mem.tail _ (List.Mem.tail _ (List.Mem.head _))))))))) ?_
              refine z_load X (x := (iC t 36 (p).toNat)) (show cdA 25 188 = some (.iload 8, 2, 0, 0, 0) from rfl) (List.Mem.tail _ (List.Mem.head _)) ?_
              refine z_ast X 43 (show cdA 25 190 = some (.iastore, 1, 0, 0, 0) from rfl) (by decide) rfl (by first | exact hi.2.2.2.2.2.1 | omega) (show p < 8 by first | exact g1001 | omega) (by decide) ?_
              obtain ⟨s1020, hs1020⟩ : ∃ x0, x0 = uC s1018 36 (p).toNat (Int32.ofInt (iC t 36 (p).toNat)) := ⟨_, rfl⟩
              rw [← hs1020]
              have Is1020 : Bd s1020 := by rw [hs1020]; exact bd_C Is1018 (show ((-2147483648) : Int) ≤ (iC t 36 (p).toNat) ∧ (iC t 36 (p).toNat) ≤ 2147483647 by first | exact ⟨b1005.1, b1005.2⟩ | omega) (rng_to _)
              have Fs1020 := fm_C (i := (p).toNat) (x := Int32.ofInt (iC t 36 (p).toNat)) Gs1018 (show 36 ∈ _ by decide)
              rw [← hs1020] at Fs1020
              refine z_aload_n X (x := A 41) (show cdA 25 191 = some (.aload_n 0, 1, 0, 0, 0) from rfl) (List.Mem.tail _ (List.Mem.tail _ (List.Mem.head _))) ?_
              refine s_getR X 41 (show cdA 25 192 = some (.getfield 19, 3, 2, 5, 0) from rfl) (by decide) rfl rfl ?_
              refine z_load X (x := p) (show cdA 25 195 = some (.iload 7, 2, 0, 0, 0) from rfl) (List.Mem.tail _ (List.Mem.tail _ (List.Mem.tail _ (List.Mem.tail _ (List.Mem.tail _ (List.Mem.tail _ (List.Mem.tail _ (List.Mem.tail _ (List.Mem.head _))))))))) ?_
              refine z_load X (x := (iC t 37 (p).toNat)) (show cdA 25 197 = some (.iload 9, 2, 0, 0, 0) from rfl) (List.Mem.head _) ?_
              refine z_ast X 44 (show cdA 25 199 = some (.iastore, 1, 0, 0, 0) from rfl) (by decide) rfl (by first | exact hi.2.2.2.2.2.1 | omega) (show p < 8 by first | exact g1001 | omega) (by decide) ?_
              obtain ⟨s1021, hs1021⟩ : ∃ x0, x0 = uC s1020 37 (p).toNat (Int32.ofInt (iC t 37 (p).toNat)) := ⟨_, rfl⟩
              rw [← hs1021]
              have Is1021 : Bd s1021 := by rw [hs1021]; exact bd_C Is1020 (show ((-2147483648) : Int) ≤ (iC t 37 (p).toNat) ∧ (iC t 37 (p).toNat) ≤ 2147483647 by first | exact ⟨b1006.1, b1006.2⟩ | omega) (rng_to _)
              have Fs1021 := fm_C (i := (p).toNat) (x := Int32.ofInt (iC t 37 (p).toNat)) Fs1020 (show 37 ∈ _ by decide)
              rw [← hs1021] at Fs1021
              refine z_inc X (x := p) (lv' := [(7, .int (Int32.ofInt (p + 1))), (9, .int (Int32.ofInt (iC t 37 (p).toNat))), (8, .int (Int32.ofInt (iC t 36 (p).toNat))), (0, .ref (A 41)), (1, .int (Int32.ofInt xv)), (2, .int (Int32.ofInt yv)), (3, .int (Int32.ofInt zv)), (5, .int (Int32.ofInt op)), (6, .int (Int32.ofInt ok))]) (show cdA 25 200 = some (.iinc 7 1, 3, 0, 0, 0) from rfl) (by decide) (List.Mem.tail _ (List.Mem.tail _ (List.Mem.tail _ (List.Mem.tail _ (List.Mem.tail _ (List.Mem.tail _ (List.Mem.tail _ (List.Mem.tail _ (List.Mem.head _))))))))) (fun _ h => h) ?_
              refine z_goto X (t := 98) (show cdA 25 203 = some (.goto (-105), 3, 0, 0, 0) from rfl) (by decide) ?_
              refine WS_lv (lv := [(0, .ref (A 41)), (1, .int (Int32.ofInt xv)), (2, .int (Int32.ofInt yv)), (3, .int (Int32.ofInt zv)), (5, .int (Int32.ofInt op)), (6, .int (Int32.ofInt ok)), (7, .int (Int32.ofInt (p + 1)))]) (List.forall_mem_cons.mpr ⟨(List.Mem.tail _ (List.Mem.tail _ (List.Mem.tail _ (List.Mem.head _)))), (List.forall_mem_cons.mpr ⟨(List.Mem.tail _ (List.Mem.tail _ (List.Mem.tail _ (List.Mem.tail _ (List.Mem.head _))))), (List.forall_mem_cons.mpr ⟨(List.Mem.tail _ (List.Mem.tail _ (List.Mem.tail _ (List.Mem.tail _ (List.Mem.tail _ (List.Mem.head _)))))), (List.forall_mem_cons.mpr ⟨(List.Mem.tail _ (List.Mem.tail _ (List.Mem.tail _ (List.Mem.tail _ (List.Mem.tail _ (List.Mem.tail _ (List.Mem.head _))))))), (List.forall_mem_cons.mpr ⟨(List.Mem.tail _ (List.Mem.tail _ (List.Mem.tail _ (List.Mem.tail _ (List.Mem.tail _ (List.Mem.tail _ (List.Mem.tail _ (List.Mem.head _)))))))), (List.forall_mem_cons.mpr ⟨(List.Mem.tail _ (List.Mem.tail _ (List.Mem.tail _ (List.Mem.tail _ (List.Mem.tail _ (List.Mem.tail _ (List.Mem.tail _ (List.Mem.tail _ (List.Mem.head _))))))))), (List.forall_mem_cons.mpr ⟨(List.Mem.head _), (fun q h => absurd h List.not_mem_nil)⟩)⟩)⟩)⟩)⟩)⟩)⟩) ?_
              exact ih _ xv yv zv op ok (p + 1) Is1021 Fs1021 (by first | exact ⟨And.intro (hi.1.1) (hi.1.2), And.intro (hi.2.1.1) (hi.2.1.2), And.intro (hi.2.2.1.1) (hi.2.2.1.2), And.intro (hi.2.2.2.1.1) (hi.2.2.2.1.2), And.intro (hi.2.2.2.2.1.1) (hi.2.2.2.2.1.2), oq_54f49eb5 hi.2.2.2.2.2.1, oq_0c7b19c3 g1001⟩ | omega) (by first | exact qk_me hm (by decide) (oq_9f368f35 g1001) | omega) kx
          ·
            refine z_aload_n X (x := A 41) (show cdA 25 153 = some (.aload_n 0, 1, 0, 0, 0) from rfl) (List.Mem.tail _ (List.Mem.tail _ (List.Mem.head _))) ?_
            refine z_load X (x := p) (show cdA 25 154 = some (.iload 7, 2, 0, 0, 0) from rfl) (List.Mem.tail _ (List.Mem.tail _ (List.Mem.tail _ (List.Mem.tail _ (List.Mem.tail _ (List.Mem.tail _ (List.Mem.tail _ (List.Mem.tail _ (List.Mem.head _))))))))) ?_
            refine z_callV X 41 (rm := rmN 19) (As := [.int (Int32.ofInt p)]) (st := []) (show cdA 25 156 = some (.invokevirtual 37, 3, 19, 0, 0) from rfl) rfl (by decide) rfl (by rw [E.1, E.2.1, E.2.2.1]; exact c2_isWhole_41 G Is1007 (by first | exact ⟨hi.2.2.2.2.2.1, oq_78c639ed g1001⟩ | omega)) ⟨by rw [E.2.2.2]; exact (show (rmN 19).frames + 1 ≤ (rmN 25).frames by decide), by rw [E.2.2.2]; exact (show 8 + (mNL (miB 19) + 11) + (rmN 19).locals ≤ (rmN 25).locals by decide), by rw [E.2.2.2]; exact (show 0 + (rmN 19).cells ≤ (rmN 25).cells by decide), by rw [E.2.2.2]; exact (show 0 + (rmN 19).slots ≤ (rmN 25).slots by decide)⟩ (Nat.le_of_ble_eq_true rfl) (fun vv s1022 hq => ?_) (fun ee s1022 hq => ?_)
            rotate_left
            · obtain ⟨Is1022, Fs1022, e1023, hv, hrs1022, hps1022⟩ := hq; cases hv
            obtain ⟨Is1022, Fs1022, e1023, hv, hrs1022, hps1022⟩ := hq
            cases hv
            have Gs1022 := fm_ts Gs1007 Fs1022 (by decide) (by decide)
            show WS k 159 [(9, .int (Int32.ofInt (iC t 37 (p).toNat))), (8, .int (Int32.ofInt (iC t 36 (p).toNat))), (0, .ref (A 41)), (1, .int (Int32.ofInt xv)), (2, .int (Int32.ofInt yv)), (3, .int (Int32.ofInt zv)), (5, .int (Int32.ofInt op)), (6, .int (Int32.ofInt ok)), (7, .int (Int32.ofInt p))] [.int (Int32.ofInt e1023)] (Wd A dT s1022) 0 0
            refine z_if_eq X (t := 182) (show cdA 25 159 = some (.ifCond .eq 23, 3, 0, 0, 0) from rfl) (by decide) hrs1022 (fun g1024 => ?_) (fun g1024 => ?_)
            ·
              refine z_aload_n X (x := A 41) (show cdA 25 182 = some (.aload_n 0, 1, 0, 0, 0) from rfl) (List.Mem.tail _ (List.Mem.tail _ (List.Mem.head _))) ?_
              refine s_getR X 41 (show cdA 25 183 = some (.getfield 15, 3, 2, 4, 0) from rfl) (by decide) rfl rfl ?_
              refine z_load X (x := p) (show cdA 25 186 = some (.iload 7, 2, 0, 0, 0) from rfl) (List.Mem.tail _ (List.Mem.tail _ (List.Mem.tail _ (List.Mem.tail _ (List.Mem.tail _ (List.Mem.tail _ (List.Mem.tail _ (List.Mem.tail _ (List.Mem.head _))))))))) ?_
              refine z_load X (x := (iC t 36 (p).toNat)) (show cdA 25 188 = some (.iload 8, 2, 0, 0, 0) from rfl) (List.Mem.tail _ (List.Mem.head _)) ?_
              refine z_ast X 43 (show cdA 25 190 = some (.iastore, 1, 0, 0, 0) from rfl) (by decide) rfl (by first | exact hi.2.2.2.2.2.1 | omega) (show p < 8 by first | exact g1001 | omega) (by decide) ?_
              obtain ⟨s1025, hs1025⟩ : ∃ x0, x0 = uC s1022 36 (p).toNat (Int32.ofInt (iC t 36 (p).toNat)) := ⟨_, rfl⟩
              rw [← hs1025]
              have Is1025 : Bd s1025 := by rw [hs1025]; exact bd_C Is1022 (show ((-2147483648) : Int) ≤ (iC t 36 (p).toNat) ∧ (iC t 36 (p).toNat) ≤ 2147483647 by first | exact ⟨b1005.1, b1005.2⟩ | omega) (rng_to _)
              have Fs1025 := fm_C (i := (p).toNat) (x := Int32.ofInt (iC t 36 (p).toNat)) Gs1022 (show 36 ∈ _ by decide)
              rw [← hs1025] at Fs1025
              refine z_aload_n X (x := A 41) (show cdA 25 191 = some (.aload_n 0, 1, 0, 0, 0) from rfl) (List.Mem.tail _ (List.Mem.tail _ (List.Mem.head _))) ?_
              refine s_getR X 41 (show cdA 25 192 = some (.getfield 19, 3, 2, 5, 0) from rfl) (by decide) rfl rfl ?_
              refine z_load X (x := p) (show cdA 25 195 = some (.iload 7, 2, 0, 0, 0) from rfl) (List.Mem.tail _ (List.Mem.tail _ (List.Mem.tail _ (List.Mem.tail _ (List.Mem.tail _ (List.Mem.tail _ (List.Mem.tail _ (List.Mem.tail _ (List.Mem.head _))))))))) ?_
              refine z_load X (x := (iC t 37 (p).toNat)) (show cdA 25 197 = some (.iload 9, 2, 0, 0, 0) from rfl) (List.Mem.head _) ?_
              refine z_ast X 44 (show cdA 25 199 = some (.iastore, 1, 0, 0, 0) from rfl) (by decide) rfl (by first | exact hi.2.2.2.2.2.1 | omega) (show p < 8 by first | exact g1001 | omega) (by decide) ?_
              obtain ⟨s1026, hs1026⟩ : ∃ x0, x0 = uC s1025 37 (p).toNat (Int32.ofInt (iC t 37 (p).toNat)) := ⟨_, rfl⟩
              rw [← hs1026]
              have Is1026 : Bd s1026 := by rw [hs1026]; exact bd_C Is1025 (show ((-2147483648) : Int) ≤ (iC t 37 (p).toNat) ∧ (iC t 37 (p).toNat) ≤ 2147483647 by first | exact ⟨b1006.1, b1006.2⟩ | omega) (rng_to _)
              have Fs1026 := fm_C (i := (p).toNat) (x := Int32.ofInt (iC t 37 (p).toNat)) Fs1025 (show 37 ∈ _ by decide)
              rw [← hs1026] at Fs1026
              refine z_inc X (x := p) (lv' := [(7, .int (Int32.ofInt (p + 1))), (9, .int (Int32.ofInt (iC t 37 (p).toNat))), (8, .int (Int32.ofInt (iC t 36 (p).toNat))), (0, .ref (A 41)), (1, .int (Int32.ofInt xv)), (2, .int (Int32.ofInt yv)), (3, .int (Int32.ofInt zv)), (5, .int (Int32.ofInt op)), (6, .int (Int32.ofInt ok))]) (show cdA 25 200 = some (.iinc 7 1, 3, 0, 0, 0) from rfl) (by decide) (List.Mem.tail _ (List.Mem.tail _ (List.Mem.tail _ (List.Mem.tail _ (List.Mem.tail _ (List.Mem.tail _ (List.Mem.tail _ (List.Mem.tail _ (List.Mem.head _))))))))) (fun _ h => h) ?_
              refine z_goto X (t := 98) (show cdA 25 203 = some (.goto (-105), 3, 0, 0, 0) from rfl) (by decide) ?_
              refine WS_lv (lv := [(0, .ref (A 41)), (1, .int (Int32.ofInt xv)), (2, .int (Int32.ofInt yv)), (3, .int (Int32.ofInt zv)), (5, .int (Int32.ofInt op)), (6, .int (Int32.ofInt ok)), (7, .int (Int32.ofInt (p + 1)))]) (List.forall_mem_cons.mpr ⟨(List.Mem.tail _ (List.Mem.tail _ (List.Mem.tail _ (List.Mem.head _)))), (List.forall_mem_cons.mpr ⟨(List.Mem.tail _ (List.Mem.tail _ (List.Mem.tail _ (List.Mem.tail _ (List.Mem.head _))))), (List.forall_mem_cons.mpr ⟨(List.Mem.tail _ (List.Mem.tail _ (List.Mem.tail _ (List.Mem.tail _ (List.Mem.tail _ (List.Mem.head _)))))), (List.forall_mem_cons.mpr ⟨(List.Mem.tail _ (List.Mem.tail _ (List.Mem.tail _ (List.Mem.tail _ (List.Mem.tail _ (List.Mem.tail _ (List.Mem.head _))))))), (List.forall_mem_cons.mpr ⟨(List.Mem.tail _ (List.Mem.tail _ (List.Mem.tail _ (List.Mem.tail _ (List.Mem.tail _ (List.Mem.tail _ (List.Mem.tail _ (List.Mem.head _)))))))), (List.forall_mem_cons.mpr ⟨(List.Mem.tail _ (List.Mem.tail _ (List.Mem.tail _ (List.Mem.tail _ (List.Mem.tail _ (List.Mem.tail _ (List.Mem.tail _ (List.Mem.tail _ (List.Mem.head _))))))))), (List.forall_mem_cons.mpr ⟨(List.Mem.head _), (fun q h => absurd h List.not_mem_nil)⟩)⟩)⟩)⟩)⟩)⟩)⟩) ?_
              exact ih _ xv yv zv op ok (p + 1) Is1026 Fs1026 (by first | exact ⟨And.intro (hi.1.1) (hi.1.2), And.intro (hi.2.1.1) (hi.2.1.2), And.intro (hi.2.2.1.1) (hi.2.2.1.2), And.intro (hi.2.2.2.1.1) (hi.2.2.2.1.2), And.intro (hi.2.2.2.2.1.1) (hi.2.2.2.2.1.2), oq_54f49eb5 hi.2.2.2.2.2.1, oq_0c7b19c3 g1001⟩ | omega) (by first | exact qk_me hm (by decide) (oq_9f368f35 g1001) | omega) kx
            ·
              refine z_aload_n X (x := A 41) (show cdA 25 162 = some (.aload_n 0, 1, 0, 0, 0) from rfl) (List.Mem.tail _ (List.Mem.tail _ (List.Mem.head _))) ?_
              refine z_load X (x := p) (show cdA 25 163 = some (.iload 7, 2, 0, 0, 0) from rfl) (List.Mem.tail _ (List.Mem.tail _ (List.Mem.tail _ (List.Mem.tail _ (List.Mem.tail _ (List.Mem.tail _ (List.Mem.tail _ (List.Mem.tail _ (List.Mem.head _))))))))) ?_
              refine z_callV X 41 (rm := rmN 21) (As := [.int (Int32.ofInt p)]) (st := []) (show cdA 25 165 = some (.invokevirtual 70, 3, 21, 0, 0) from rfl) rfl (by decide) rfl (by rw [E.1, E.2.1, E.2.2.1]; exact c2_weigh_41 G Is1022 (by first | exact ⟨hi.2.2.2.2.2.1, oq_78c639ed g1001⟩ | omega)) ⟨by rw [E.2.2.2]; exact (show (rmN 21).frames + 1 ≤ (rmN 25).frames by decide), by rw [E.2.2.2]; exact (show 8 + (mNL (miB 21) + 11) + (rmN 21).locals ≤ (rmN 25).locals by decide), by rw [E.2.2.2]; exact (show 0 + (rmN 21).cells ≤ (rmN 25).cells by decide), by rw [E.2.2.2]; exact (show 0 + (rmN 21).slots ≤ (rmN 25).slots by decide)⟩ (Nat.le_of_ble_eq_true rfl) (fun vv s1027 hq => ?_) (fun ee s1027 hq => ?_)
              rotate_left
              · obtain ⟨Is1027, Fs1027, e1028, hv, hrs1027, hps1027⟩ := hq; cases hv
              obtain ⟨Is1027, Fs1027, e1028, hv, hrs1027, hps1027⟩ := hq
              cases hv
              have Gs1027 := fm_ts Gs1022 Fs1027 (by decide) (by decide)
              show WS k 168 [(9, .int (Int32.ofInt (iC t 37 (p).toNat))), (8, .int (Int32.ofInt (iC t 36 (p).toNat))), (0, .ref (A 41)), (1, .int (Int32.ofInt xv)), (2, .int (Int32.ofInt yv)), (3, .int (Int32.ofInt zv)), (5, .int (Int32.ofInt op)), (6, .int (Int32.ofInt ok)), (7, .int (Int32.ofInt p))] [.int (Int32.ofInt e1028)] (Wd A dT s1027) 0 0
              refine z_if_eq X (t := 182) (show cdA 25 168 = some (.ifCond .eq 14, 3, 0, 0, 0) from rfl) (by decide) hrs1027 (fun g1029 => ?_) (fun g1029 => ?_)
              ·
                refine z_aload_n X (x := A 41) (show cdA 25 182 = some (.aload_n 0, 1, 0, 0, 0) from rfl) (List.Mem.tail _ (List.Mem.tail _ (List.Mem.head _))) ?_
                refine s_getR X 41 (show cdA 25 183 = some (.getfield 15, 3, 2, 4, 0) from rfl) (by decide) rfl rfl ?_
                refine z_load X (x := p) (show cdA 25 186 = some (.iload 7, 2, 0, 0, 0) from rfl) (List.Mem.tail _ (List.Mem.tail _ (List.Mem.tail _ (List.Mem.tail _ (List.Mem.tail _ (List.Mem.tail _ (List.Mem.tail _ (List.Mem.tail _ (List.Mem.head _))))))))) ?_
                refine z_load X (x := (iC t 36 (p).toNat)) (show cdA 25 188 = some (.iload 8, 2, 0, 0, 0) from rfl) (List.Mem.tail _ (List.Mem.head _)) ?_
                refine z_ast X 43 (show cdA 25 190 = some (.iastore, 1, 0, 0, 0) from rfl) (by decide) rfl (by first | exact hi.2.2.2.2.2.1 | omega) (show p < 8 by first | exact g1001 | omega) (by decide) ?_
                obtain ⟨s1030, hs1030⟩ : ∃ x0, x0 = uC s1027 36 (p).toNat (Int32.ofInt (iC t 36 (p).toNat)) := ⟨_, rfl⟩
                rw [← hs1030]
                have Is1030 : Bd s1030 := by rw [hs1030]; exact bd_C Is1027 (show ((-2147483648) : Int) ≤ (iC t 36 (p).toNat) ∧ (iC t 36 (p).toNat) ≤ 2147483647 by first | exact ⟨b1005.1, b1005.2⟩ | omega) (rng_to _)
                have Fs1030 := fm_C (i := (p).toNat) (x := Int32.ofInt (iC t 36 (p).toNat)) Gs1027 (show 36 ∈ _ by decide)
                rw [← hs1030] at Fs1030
                refine z_aload_n X (x := A 41) (show cdA 25 191 = some (.aload_n 0, 1, 0, 0, 0) from rfl) (List.Mem.tail _ (List.Mem.tail _ (List.Mem.head _))) ?_
                refine s_getR X 41 (show cdA 25 192 = some (.getfield 19, 3, 2, 5, 0) from rfl) (by decide) rfl rfl ?_
                refine z_load X (x := p) (show cdA 25 195 = some (.iload 7, 2, 0, 0, 0) from rfl) (List.Mem.tail _ (List.Mem.tail _ (List.Mem.tail _ (List.Mem.tail _ (List.Mem.tail _ (List.Mem.tail _ (List.Mem.tail _ (List.Mem.tail _ (List.Mem.head _))))))))) ?_
                refine z_load X (x := (iC t 37 (p).toNat)) (show cdA 25 197 = some (.iload 9, 2, 0, 0, 0) from rfl) (List.Mem.head _) ?_
                refine z_ast X 44 (show cdA 25 199 = some (.iastore, 1, 0, 0, 0) from rfl) (by decide) rfl (by first | exact hi.2.2.2.2.2.1 | omega) (show p < 8 by first | exact g1001 | omega) (by decide) ?_
                obtain ⟨s1031, hs1031⟩ : ∃ x0, x0 = uC s1030 37 (p).toNat (Int32.ofInt (iC t 37 (p).toNat)) := ⟨_, rfl⟩
                rw [← hs1031]
                have Is1031 : Bd s1031 := by rw [hs1031]; exact bd_C Is1030 (show ((-2147483648) : Int) ≤ (iC t 37 (p).toNat) ∧ (iC t 37 (p).toNat) ≤ 2147483647 by first | exact ⟨b1006.1, b1006.2⟩ | omega) (rng_to _)
                have Fs1031 := fm_C (i := (p).toNat) (x := Int32.ofInt (iC t 37 (p).toNat)) Fs1030 (show 37 ∈ _ by decide)
                rw [← hs1031] at Fs1031
                refine z_inc X (x := p) (lv' := [(7, .int (Int32.ofInt (p + 1))), (9, .int (Int32.ofInt (iC t 37 (p).toNat))), (8, .int (Int32.ofInt (iC t 36 (p).toNat))), (0, .ref (A 41)), (1, .int (Int32.ofInt xv)), (2, .int (Int32.ofInt yv)), (3, .int (Int32.ofInt zv)), (5, .int (Int32.ofInt op)), (6, .int (Int32.ofInt ok))]) (show cdA 25 200 = some (.iinc 7 1, 3, 0, 0, 0) from rfl) (by decide) (List.Mem.tail _ (List.Mem.tail _ (List.Mem.tail _ (List.Mem.tail _ (List.Mem.tail _ (List.Mem.tail _ (List.Mem.tail _ (List.Mem.tail _ (List.Mem.head _))))))))) (fun _ h => h) ?_
                refine z_goto X (t := 98) (show cdA 25 203 = some (.goto (-105), 3, 0, 0, 0) from rfl) (by decide) ?_
                refine WS_lv (lv := [(0, .ref (A 41)), (1, .int (Int32.ofInt xv)), (2, .int (Int32.ofInt yv)), (3, .int (Int32.ofInt zv)), (5, .int (Int32.ofInt op)), (6, .int (Int32.ofInt ok)), (7, .int (Int32.ofInt (p + 1)))]) (List.forall_mem_cons.mpr ⟨(List.Mem.tail _ (List.Mem.tail _ (List.Mem.tail _ (List.Mem.head _)))), (List.forall_mem_cons.mpr ⟨(List.Mem.tail _ (List.Mem.tail _ (List.Mem.tail _ (List.Mem.tail _ (List.Mem.head _))))), (List.forall_mem_cons.mpr ⟨(List.Mem.tail _ (List.Mem.tail _ (List.Mem.tail _ (List.Mem.tail _ (List.Mem.tail _ (List.Mem.head _)))))), (List.forall_mem_cons.mpr ⟨(List.Mem.tail _ (List.Mem.tail _ (List.Mem.tail _ (List.Mem.tail _ (List.Mem.tail _ (List.Mem.tail _ (List.Mem.head _))))))), (List.forall_mem_cons.mpr ⟨(List.Mem.tail _ (List.Mem.tail _ (List.Mem.tail _ (List.Mem.tail _ (List.Mem.tail _ (List.Mem.tail _ (List.Mem.tail _ (List.Mem.head _)))))))), (List.forall_mem_cons.mpr ⟨(List.Mem.tail _ (List.Mem.tail _ (List.Mem.tail _ (List.Mem.tail _ (List.Mem.tail _ (List.Mem.tail _ (List.Mem.tail _ (List.Mem.tail _ (List.Mem.head _))))))))), (List.forall_mem_cons.mpr ⟨(List.Mem.head _), (fun q h => absurd h List.not_mem_nil)⟩)⟩)⟩)⟩)⟩)⟩)⟩) ?_
                exact ih _ xv yv zv op ok (p + 1) Is1031 Fs1031 (by first | exact ⟨And.intro (hi.1.1) (hi.1.2), And.intro (hi.2.1.1) (hi.2.1.2), And.intro (hi.2.2.1.1) (hi.2.2.1.2), And.intro (hi.2.2.2.1.1) (hi.2.2.2.1.2), And.intro (hi.2.2.2.2.1.1) (hi.2.2.2.2.1.2), oq_54f49eb5 hi.2.2.2.2.2.1, oq_0c7b19c3 g1001⟩ | omega) (by first | exact qk_me hm (by decide) (oq_9f368f35 g1001) | omega) kx
              ·
                refine z_aload_n X (x := A 41) (show cdA 25 171 = some (.aload_n 0, 1, 0, 0, 0) from rfl) (List.Mem.tail _ (List.Mem.tail _ (List.Mem.head _))) ?_
                refine z_load_n X (x := xv) (show cdA 25 172 = some (.iload_n 1, 1, 0, 0, 0) from rfl) (List.Mem.tail _ (List.Mem.tail _ (List.Mem.tail _ (List.Mem.head _)))) ?_
                refine z_load X (x := p) (show cdA 25 173 = some (.iload 7, 2, 0, 0, 0) from rfl) (List.Mem.tail _ (List.Mem.tail _ (List.Mem.tail _ (List.Mem.tail _ (List.Mem.tail _ (List.Mem.tail _ (List.Mem.tail _ (List.Mem.tail _ (List.Mem.head _))))))))) ?_
                refine z_aload_n X (x := A 41) (show cdA 25 175 = some (.aload_n 0, 1, 0, 0, 0) from rfl) (List.Mem.tail _ (List.Mem.tail _ (List.Mem.head _))) ?_
                refine z_callV X 41 (rm := rmN 22) (As := []) (st := [.int (Int32.ofInt p), .int (Int32.ofInt xv), .ref (A 41)]) (show cdA 25 176 = some (.invokevirtual 101, 3, 22, 0, 0) from rfl) rfl (by decide) rfl (by rw [E.1, E.2.1, E.2.2.1]; exact c2_priceNow_41 G Is1027 ) ⟨by rw [E.2.2.2]; exact (show (rmN 22).frames + 1 ≤ (rmN 25).frames by decide), by rw [E.2.2.2]; exact (show 8 + (mNL (miB 22) + 11) + (rmN 22).locals ≤ (rmN 25).locals by decide), by rw [E.2.2.2]; exact (show 0 + (rmN 22).cells ≤ (rmN 25).cells by decide), by rw [E.2.2.2]; exact (show 0 + (rmN 22).slots ≤ (rmN 25).slots by decide)⟩ (Nat.le_of_ble_eq_true rfl) (fun vv s1032 hq => ?_) (fun ee s1032 hq => ?_)
                rotate_left
                · obtain ⟨Is1032, Fs1032, e1033, hv, hrs1032, hps1032⟩ := hq; cases hv
                obtain ⟨Is1032, Fs1032, e1033, hv, hrs1032, hps1032⟩ := hq
                cases hv
                have Gs1032 := fm_ts Gs1027 Fs1032 (by decide) (by decide)
                show WS k 179 [(9, .int (Int32.ofInt (iC t 37 (p).toNat))), (8, .int (Int32.ofInt (iC t 36 (p).toNat))), (0, .ref (A 41)), (1, .int (Int32.ofInt xv)), (2, .int (Int32.ofInt yv)), (3, .int (Int32.ofInt zv)), (5, .int (Int32.ofInt op)), (6, .int (Int32.ofInt ok)), (7, .int (Int32.ofInt p))] [.int (Int32.ofInt e1033), .int (Int32.ofInt p), .int (Int32.ofInt xv), .ref (A 41)] (Wd A dT s1032) 0 0
                refine z_callV X 41 (rm := rmN 26) (As := [.int (Int32.ofInt xv), .int (Int32.ofInt p), .int (Int32.ofInt e1033)]) (st := []) (show cdA 25 179 = some (.invokevirtual 141, 3, 26, 0, 0) from rfl) rfl (by decide) rfl (by rw [E.1, E.2.1, E.2.2.1]; exact c2_compare_41 G Is1032 (by first | exact ⟨hi.1.1, hi.1.2⟩ | omega) (by first | exact ⟨hi.2.2.2.2.2.1, oq_78c639ed g1001⟩ | omega) (by omega)) ⟨by rw [E.2.2.2]; exact (show (rmN 26).frames + 1 ≤ (rmN 25).frames by decide), by rw [E.2.2.2]; exact (show 8 + (mNL (miB 26) + 11) + (rmN 26).locals ≤ (rmN 25).locals by decide), by rw [E.2.2.2]; exact (show 0 + (rmN 26).cells ≤ (rmN 25).cells by decide), by rw [E.2.2.2]; exact (show 0 + (rmN 26).slots ≤ (rmN 25).slots by decide)⟩ (Nat.le_of_ble_eq_true rfl) (fun vv s1034 hq => ?_) (fun ee s1034 hq => ?_)
                rotate_left
                · obtain ⟨Is1034, Fs1034, hv, hps1034⟩ := hq; cases hv
                obtain ⟨Is1034, Fs1034, hv, hps1034⟩ := hq
                cases hv
                have Gs1034 := fm_ts Gs1032 Fs1034 (by decide) (by decide)
                show WS k 182 [(9, .int (Int32.ofInt (iC t 37 (p).toNat))), (8, .int (Int32.ofInt (iC t 36 (p).toNat))), (0, .ref (A 41)), (1, .int (Int32.ofInt xv)), (2, .int (Int32.ofInt yv)), (3, .int (Int32.ofInt zv)), (5, .int (Int32.ofInt op)), (6, .int (Int32.ofInt ok)), (7, .int (Int32.ofInt p))] [] (Wd A dT s1034) 0 0
                refine z_aload_n X (x := A 41) (show cdA 25 182 = some (.aload_n 0, 1, 0, 0, 0) from rfl) (List.Mem.tail _ (List.Mem.tail _ (List.Mem.head _))) ?_
                refine s_getR X 41 (show cdA 25 183 = some (.getfield 15, 3, 2, 4, 0) from rfl) (by decide) rfl rfl ?_
                refine z_load X (x := p) (show cdA 25 186 = some (.iload 7, 2, 0, 0, 0) from rfl) (List.Mem.tail _ (List.Mem.tail _ (List.Mem.tail _ (List.Mem.tail _ (List.Mem.tail _ (List.Mem.tail _ (List.Mem.tail _ (List.Mem.tail _ (List.Mem.head _))))))))) ?_
                refine z_load X (x := (iC t 36 (p).toNat)) (show cdA 25 188 = some (.iload 8, 2, 0, 0, 0) from rfl) (List.Mem.tail _ (List.Mem.head _)) ?_
                refine z_ast X 43 (show cdA 25 190 = some (.iastore, 1, 0, 0, 0) from rfl) (by decide) rfl (by first | exact hi.2.2.2.2.2.1 | omega) (show p < 8 by first | exact g1001 | omega) (by decide) ?_
                obtain ⟨s1036, hs1036⟩ : ∃ x0, x0 = uC s1034 36 (p).toNat (Int32.ofInt (iC t 36 (p).toNat)) := ⟨_, rfl⟩
                rw [← hs1036]
                have Is1036 : Bd s1036 := by rw [hs1036]; exact bd_C Is1034 (show ((-2147483648) : Int) ≤ (iC t 36 (p).toNat) ∧ (iC t 36 (p).toNat) ≤ 2147483647 by first | exact ⟨b1005.1, b1005.2⟩ | omega) (rng_to _)
                have Fs1036 := fm_C (i := (p).toNat) (x := Int32.ofInt (iC t 36 (p).toNat)) Gs1034 (show 36 ∈ _ by decide)
                rw [← hs1036] at Fs1036
                refine z_aload_n X (x := A 41) (show cdA 25 191 = some (.aload_n 0, 1, 0, 0, 0) from rfl) (List.Mem.tail _ (List.Mem.tail _ (List.Mem.head _))) ?_
                refine s_getR X 41 (show cdA 25 192 = some (.getfield 19, 3, 2, 5, 0) from rfl) (by decide) rfl rfl ?_
                refine z_load X (x := p) (show cdA 25 195 = some (.iload 7, 2, 0, 0, 0) from rfl) (List.Mem.tail _ (List.Mem.tail _ (List.Mem.tail _ (List.Mem.tail _ (List.Mem.tail _ (List.Mem.tail _ (List.Mem.tail _ (List.Mem.tail _ (List.Mem.head _))))))))) ?_
                refine z_load X (x := (iC t 37 (p).toNat)) (show cdA 25 197 = some (.iload 9, 2, 0, 0, 0) from rfl) (List.Mem.head _) ?_
                refine z_ast X 44 (show cdA 25 199 = some (.iastore, 1, 0, 0, 0) from rfl) (by decide) rfl (by first | exact hi.2.2.2.2.2.1 | omega) (show p < 8 by first | exact g1001 | omega) (by decide) ?_
                obtain ⟨s1037, hs1037⟩ : ∃ x0, x0 = uC s1036 37 (p).toNat (Int32.ofInt (iC t 37 (p).toNat)) := ⟨_, rfl⟩
                rw [← hs1037]
                have Is1037 : Bd s1037 := by rw [hs1037]; exact bd_C Is1036 (show ((-2147483648) : Int) ≤ (iC t 37 (p).toNat) ∧ (iC t 37 (p).toNat) ≤ 2147483647 by first | exact ⟨b1006.1, b1006.2⟩ | omega) (rng_to _)
                have Fs1037 := fm_C (i := (p).toNat) (x := Int32.ofInt (iC t 37 (p).toNat)) Fs1036 (show 37 ∈ _ by decide)
                rw [← hs1037] at Fs1037
                refine z_inc X (x := p) (lv' := [(7, .int (Int32.ofInt (p + 1))), (9, .int (Int32.ofInt (iC t 37 (p).toNat))), (8, .int (Int32.ofInt (iC t 36 (p).toNat))), (0, .ref (A 41)), (1, .int (Int32.ofInt xv)), (2, .int (Int32.ofInt yv)), (3, .int (Int32.ofInt zv)), (5, .int (Int32.ofInt op)), (6, .int (Int32.ofInt ok))]) (show cdA 25 200 = some (.iinc 7 1, 3, 0, 0, 0) from rfl) (by decide) (List.Mem.tail _ (List.Mem.tail _ (List.Mem.tail _ (List.Mem.tail _ (List.Mem.tail _ (List.Mem.tail _ (List.Mem.tail _ (List.Mem.tail _ (List.Mem.head _))))))))) (fun _ h => h) ?_
                refine z_goto X (t := 98) (show cdA 25 203 = some (.goto (-105), 3, 0, 0, 0) from rfl) (by decide) ?_
                refine WS_lv (lv := [(0, .ref (A 41)), (1, .int (Int32.ofInt xv)), (2, .int (Int32.ofInt yv)), (3, .int (Int32.ofInt zv)), (5, .int (Int32.ofInt op)), (6, .int (Int32.ofInt ok)), (7, .int (Int32.ofInt (p + 1)))]) (List.forall_mem_cons.mpr ⟨(List.Mem.tail _ (List.Mem.tail _ (List.Mem.tail _ (List.Mem.head _)))), (List.forall_mem_cons.mpr ⟨(List.Mem.tail _ (List.Mem.tail _ (List.Mem.tail _ (List.Mem.tail _ (List.Mem.head _))))), (List.forall_mem_cons.mpr ⟨(List.Mem.tail _ (List.Mem.tail _ (List.Mem.tail _ (List.Mem.tail _ (List.Mem.tail _ (List.Mem.head _)))))), (List.forall_mem_cons.mpr ⟨(List.Mem.tail _ (List.Mem.tail _ (List.Mem.tail _ (List.Mem.tail _ (List.Mem.tail _ (List.Mem.tail _ (List.Mem.head _))))))), (List.forall_mem_cons.mpr ⟨(List.Mem.tail _ (List.Mem.tail _ (List.Mem.tail _ (List.Mem.tail _ (List.Mem.tail _ (List.Mem.tail _ (List.Mem.tail _ (List.Mem.head _)))))))), (List.forall_mem_cons.mpr ⟨(List.Mem.tail _ (List.Mem.tail _ (List.Mem.tail _ (List.Mem.tail _ (List.Mem.tail _ (List.Mem.tail _ (List.Mem.tail _ (List.Mem.tail _ (List.Mem.head _))))))))), (List.forall_mem_cons.mpr ⟨(List.Mem.head _), (fun q h => absurd h List.not_mem_nil)⟩)⟩)⟩)⟩)⟩)⟩)⟩) ?_
                exact ih _ xv yv zv op ok (p + 1) Is1037 Fs1037 (by first | exact ⟨And.intro (hi.1.1) (hi.1.2), And.intro (hi.2.1.1) (hi.2.1.2), And.intro (hi.2.2.1.1) (hi.2.2.1.2), And.intro (hi.2.2.2.1.1) (hi.2.2.2.1.2), And.intro (hi.2.2.2.2.1.1) (hi.2.2.2.2.1.2), oq_54f49eb5 hi.2.2.2.2.2.1, oq_0c7b19c3 g1001⟩ | omega) (by first | exact qk_me hm (by decide) (oq_9f368f35 g1001) | omega) kx
  refine z_aload_n X (x := A 41) (show cdA 25 0 = some (.aload_n 0, 1, 0, 0, 0) from rfl) (List.Mem.head _) ?_
  refine s_getR X 41 (show cdA 25 1 = some (.getfield 22, 3, 2, 6, 0) from rfl) (by decide) rfl rfl ?_
  refine z_load_n X (x := y) (show cdA 25 4 = some (.iload_n 2, 1, 0, 0, 0) from rfl) (List.Mem.tail _ (List.Mem.tail _ (List.Mem.head _))) ?_
  refine z_zald X 45 (show cdA 25 5 = some (.baload, 1, 0, 0, 0) from rfl) (by decide) rfl (by first | exact p1.1 | omega) (show y < 8 by first | exact oq_aaea290e p1.2 | omega) (by decide) ?_
  have b1 : (0 : Int) ≤ iC s 38 (y).toNat ∧ iC s 38 (y).toNat ≤ 1 := I.2 38 _ (show (y).toNat < 8 by first | exact oq_c19a3aae p1.2 | omega)
  refine z_if_eq X (t := 25) (show cdA 25 6 = some (.ifCond .eq 19, 3, 0, 0, 0) from rfl) (by decide) (rng_to _) (fun g2 => ?_) (fun g2 => ?_)
  ·
    refine z_const X (show cdA 25 25 = some (.iconst 0, 1, 0, 0, 0) from rfl) ?_
    refine z_store X (lv' := [(4, .int (Int32.ofInt 0)), (0, .ref (A 41)), (1, .int (Int32.ofInt x)), (2, .int (Int32.ofInt y)), (3, .int (Int32.ofInt z))]) (show cdA 25 26 = some (.istore 4, 2, 0, 0, 0) from rfl) (by decide) (fun _ h => h) ?_
    refine z_aload_n X (x := A 41) (show cdA 25 28 = some (.aload_n 0, 1, 0, 0, 0) from rfl) (List.Mem.tail _ (List.Mem.head _)) ?_
    refine s_getR X 41 (show cdA 25 29 = some (.getfield 15, 3, 2, 4, 0) from rfl) (by decide) rfl rfl ?_
    refine z_load_n X (x := y) (show cdA 25 32 = some (.iload_n 2, 1, 0, 0, 0) from rfl) (List.Mem.tail _ (List.Mem.tail _ (List.Mem.tail _ (List.Mem.head _)))) ?_
    refine z_ald X 43 (show cdA 25 33 = some (.iaload, 1, 0, 0, 0) from rfl) (by decide) rfl (by first | exact p1.1 | omega) (show y < 8 by first | exact oq_aaea290e p1.2 | omega) (by decide) ?_
    have b3 : ((-2147483648) : Int) ≤ iC s 36 (y).toNat ∧ iC s 36 (y).toNat ≤ 2147483647 := I.2 36 _ (show (y).toNat < 8 by first | exact oq_c19a3aae p1.2 | omega)
    refine z_store X (lv' := [(5, .int (Int32.ofInt (iC s 36 (y).toNat))), (4, .int (Int32.ofInt 0)), (0, .ref (A 41)), (1, .int (Int32.ofInt x)), (2, .int (Int32.ofInt y)), (3, .int (Int32.ofInt z))]) (show cdA 25 34 = some (.istore 5, 2, 0, 0, 0) from rfl) (by decide) (fun _ h => h) ?_
    refine z_aload_n X (x := A 41) (show cdA 25 36 = some (.aload_n 0, 1, 0, 0, 0) from rfl) (List.Mem.tail _ (List.Mem.tail _ (List.Mem.head _))) ?_
    refine s_getR X 41 (show cdA 25 37 = some (.getfield 19, 3, 2, 5, 0) from rfl) (by decide) rfl rfl ?_
    refine z_load_n X (x := y) (show cdA 25 40 = some (.iload_n 2, 1, 0, 0, 0) from rfl) (List.Mem.tail _ (List.Mem.tail _ (List.Mem.tail _ (List.Mem.tail _ (List.Mem.head _))))) ?_
    refine z_ald X 44 (show cdA 25 41 = some (.iaload, 1, 0, 0, 0) from rfl) (by decide) rfl (by first | exact p1.1 | omega) (show y < 8 by first | exact oq_aaea290e p1.2 | omega) (by decide) ?_
    have b4 : ((-2147483648) : Int) ≤ iC s 37 (y).toNat ∧ iC s 37 (y).toNat ≤ 2147483647 := I.2 37 _ (show (y).toNat < 8 by first | exact oq_c19a3aae p1.2 | omega)
    refine z_store X (lv' := [(6, .int (Int32.ofInt (iC s 37 (y).toNat))), (5, .int (Int32.ofInt (iC s 36 (y).toNat))), (4, .int (Int32.ofInt 0)), (0, .ref (A 41)), (1, .int (Int32.ofInt x)), (2, .int (Int32.ofInt y)), (3, .int (Int32.ofInt z))]) (show cdA 25 42 = some (.istore 6, 2, 0, 0, 0) from rfl) (by decide) (fun _ h => h) ?_
    refine z_aload_n X (x := A 41) (show cdA 25 44 = some (.aload_n 0, 1, 0, 0, 0) from rfl) (List.Mem.tail _ (List.Mem.tail _ (List.Mem.tail _ (List.Mem.head _)))) ?_
    refine s_getR X 41 (show cdA 25 45 = some (.getfield 29, 3, 2, 1, 0) from rfl) (by decide) rfl rfl ?_
    refine z_load_n X (x := x) (show cdA 25 48 = some (.iload_n 1, 1, 0, 0, 0) from rfl) (List.Mem.tail _ (List.Mem.tail _ (List.Mem.tail _ (List.Mem.tail _ (List.Mem.head _))))) ?_
    refine z_const X (show cdA 25 49 = some (.iconst (-1), 1, 0, 0, 0) from rfl) ?_
    refine z_callV X 25 (rm := rmN 28) (As := [.int (Int32.ofInt x), .int (Int32.ofInt (-1))]) (st := []) (show cdA 25 50 = some (.invokevirtual 138, 3, 28, 0, 0) from rfl) rfl (by decide) rfl (by rw [E.1, E.2.1, E.2.2.1]; exact c3_put_25 G I (by first | exact ⟨p0.1, p0.2⟩ | omega) (by first | exact ⟨by decide, by decide⟩ | omega)) ⟨by rw [E.2.2.2]; exact (show (rmN 28).frames + 1 ≤ (rmN 25).frames by decide), by rw [E.2.2.2]; exact (show 8 + (mNL (miB 28) + 11) + (rmN 28).locals ≤ (rmN 25).locals by decide), by rw [E.2.2.2]; exact (show 0 + (rmN 28).cells ≤ (rmN 25).cells by decide), by rw [E.2.2.2]; exact (show 0 + (rmN 28).slots ≤ (rmN 25).slots by decide)⟩ (Nat.le_of_ble_eq_true rfl) (fun vv s5 hq => ?_) (fun ee s5 hq => ?_)
    rotate_left
    · obtain ⟨Is5, Fs5, e6, hv, hrs5, hps5⟩ := hq; cases hv
    obtain ⟨Is5, Fs5, e6, hv, hrs5, hps5⟩ := hq
    cases hv
    have Gs5 := fm_ts F Fs5 (by decide) (by decide)
    show WS k 53 [(6, .int (Int32.ofInt (iC s 37 (y).toNat))), (5, .int (Int32.ofInt (iC s 36 (y).toNat))), (4, .int (Int32.ofInt 0)), (0, .ref (A 41)), (1, .int (Int32.ofInt x)), (2, .int (Int32.ofInt y)), (3, .int (Int32.ofInt z))] [.int (Int32.ofInt e6)] (Wd A dT s5) 0 0
    refine w_pop X.1 (ax_d X (show cdA 25 53 = some (.pop, 1, 0, 0, 0) from rfl)) rfl ?_
    refine z_load X (x := 0) (show cdA 25 54 = some (.iload 4, 2, 0, 0, 0) from rfl) (List.Mem.tail _ (List.Mem.tail _ (List.Mem.head _))) ?_
    refine z_if_ne X (t := 206) (show cdA 25 56 = some (.ifCond .ne 150, 3, 1, 0, 0) from rfl) (by decide) (by decide) (fun g7 => ?_) (fun g7 => ?_)
    ·
      refine z_aload_n X (x := A 41) (show cdA 25 206 = some (.aload_n 0, 1, 0, 0, 0) from rfl) (List.Mem.tail _ (List.Mem.tail _ (List.Mem.tail _ (List.Mem.head _)))) ?_
      refine s_getR X 41 (show cdA 25 207 = some (.getfield 29, 3, 2, 1, 0) from rfl) (by decide) rfl rfl ?_
      refine z_load_n X (x := x) (show cdA 25 210 = some (.iload_n 1, 1, 0, 0, 0) from rfl) (List.Mem.tail _ (List.Mem.tail _ (List.Mem.tail _ (List.Mem.tail _ (List.Mem.head _))))) ?_
      refine z_load_n X (x := y) (show cdA 25 211 = some (.iload_n 2, 1, 0, 0, 0) from rfl) (List.Mem.tail _ (List.Mem.tail _ (List.Mem.tail _ (List.Mem.tail _ (List.Mem.tail _ (List.Mem.head _)))))) ?_
      refine z_callV X 25 (rm := rmN 28) (As := [.int (Int32.ofInt x), .int (Int32.ofInt y)]) (st := []) (show cdA 25 212 = some (.invokevirtual 138, 3, 28, 0, 0) from rfl) rfl (by decide) rfl (by rw [E.1, E.2.1, E.2.2.1]; exact c3_put_25 G Is5 (by first | exact ⟨p0.1, p0.2⟩ | omega) (by first | exact ⟨oq_ca54ea22 p1.1, p1.2⟩ | omega)) ⟨by rw [E.2.2.2]; exact (show (rmN 28).frames + 1 ≤ (rmN 25).frames by decide), by rw [E.2.2.2]; exact (show 8 + (mNL (miB 28) + 11) + (rmN 28).locals ≤ (rmN 25).locals by decide), by rw [E.2.2.2]; exact (show 0 + (rmN 28).cells ≤ (rmN 25).cells by decide), by rw [E.2.2.2]; exact (show 0 + (rmN 28).slots ≤ (rmN 25).slots by decide)⟩ (Nat.le_of_ble_eq_true rfl) (fun vv s8 hq => ?_) (fun ee s8 hq => ?_)
      rotate_left
      · obtain ⟨Is8, Fs8, e9, hv, hrs8, hps8⟩ := hq; cases hv
      obtain ⟨Is8, Fs8, e9, hv, hrs8, hps8⟩ := hq
      cases hv
      have Gs8 := fm_ts Gs5 Fs8 (by decide) (by decide)
      show WS k 215 [(6, .int (Int32.ofInt (iC s 37 (y).toNat))), (5, .int (Int32.ofInt (iC s 36 (y).toNat))), (4, .int (Int32.ofInt 0)), (0, .ref (A 41)), (1, .int (Int32.ofInt x)), (2, .int (Int32.ofInt y)), (3, .int (Int32.ofInt z))] [.int (Int32.ofInt e9)] (Wd A dT s8) 0 0
      refine w_pop X.1 (ax_d X (show cdA 25 215 = some (.pop, 1, 0, 0, 0) from rfl)) rfl ?_
      refine z_aload_n X (x := A 41) (show cdA 25 216 = some (.aload_n 0, 1, 0, 0, 0) from rfl) (List.Mem.tail _ (List.Mem.tail _ (List.Mem.tail _ (List.Mem.head _)))) ?_
      refine s_getR X 41 (show cdA 25 217 = some (.getfield 15, 3, 2, 4, 0) from rfl) (by decide) rfl rfl ?_
      refine z_load_n X (x := y) (show cdA 25 220 = some (.iload_n 2, 1, 0, 0, 0) from rfl) (List.Mem.tail _ (List.Mem.tail _ (List.Mem.tail _ (List.Mem.tail _ (List.Mem.tail _ (List.Mem.head _)))))) ?_
      refine z_load X (x := (iC s 36 (y).toNat)) (show cdA 25 221 = some (.iload 5, 2, 0, 0, 0) from rfl) (List.Mem.tail _ (List.Mem.head _)) ?_
      refine z_ast X 43 (show cdA 25 223 = some (.iastore, 1, 0, 0, 0) from rfl) (by decide) rfl (by first | exact p1.1 | omega) (show y < 8 by first | exact oq_aaea290e p1.2 | omega) (by decide) ?_
      obtain ⟨s10, hs10⟩ : ∃ x0, x0 = uC s8 36 (y).toNat (Int32.ofInt (iC s 36 (y).toNat)) := ⟨_, rfl⟩
      rw [← hs10]
      have Is10 : Bd s10 := by rw [hs10]; exact bd_C Is8 (show ((-2147483648) : Int) ≤ (iC s 36 (y).toNat) ∧ (iC s 36 (y).toNat) ≤ 2147483647 by first | exact ⟨b3.1, b3.2⟩ | omega) (rng_to _)
      have Fs10 := fm_C (i := (y).toNat) (x := Int32.ofInt (iC s 36 (y).toNat)) Gs8 (show 36 ∈ _ by decide)
      rw [← hs10] at Fs10
      refine z_aload_n X (x := A 41) (show cdA 25 224 = some (.aload_n 0, 1, 0, 0, 0) from rfl) (List.Mem.tail _ (List.Mem.tail _ (List.Mem.tail _ (List.Mem.head _)))) ?_
      refine s_getR X 41 (show cdA 25 225 = some (.getfield 19, 3, 2, 5, 0) from rfl) (by decide) rfl rfl ?_
      refine z_load_n X (x := y) (show cdA 25 228 = some (.iload_n 2, 1, 0, 0, 0) from rfl) (List.Mem.tail _ (List.Mem.tail _ (List.Mem.tail _ (List.Mem.tail _ (List.Mem.tail _ (List.Mem.head _)))))) ?_
      refine z_load X (x := (iC s 37 (y).toNat)) (show cdA 25 229 = some (.iload 6, 2, 0, 0, 0) from rfl) (List.Mem.head _) ?_
      refine z_ast X 44 (show cdA 25 231 = some (.iastore, 1, 0, 0, 0) from rfl) (by decide) rfl (by first | exact p1.1 | omega) (show y < 8 by first | exact oq_aaea290e p1.2 | omega) (by decide) ?_
      obtain ⟨s11, hs11⟩ : ∃ x0, x0 = uC s10 37 (y).toNat (Int32.ofInt (iC s 37 (y).toNat)) := ⟨_, rfl⟩
      rw [← hs11]
      have Is11 : Bd s11 := by rw [hs11]; exact bd_C Is10 (show ((-2147483648) : Int) ≤ (iC s 37 (y).toNat) ∧ (iC s 37 (y).toNat) ≤ 2147483647 by first | exact ⟨b4.1, b4.2⟩ | omega) (rng_to _)
      have Fs11 := fm_C (i := (y).toNat) (x := Int32.ofInt (iC s 37 (y).toNat)) Fs10 (show 37 ∈ _ by decide)
      rw [← hs11] at Fs11
      exact w_vret X.1 q hRt (ax_d X (show cdA 25 232 = some (.return_, 1, 0, 0, 0) from rfl)) (Nat.zero_le _) (Nat.zero_le _) ⟨_, rfl, Is11, Fs11, rfl, trivial⟩
    ·
      refine z_aload_n X (x := A 41) (show cdA 25 59 = some (.aload_n 0, 1, 0, 0, 0) from rfl) (List.Mem.tail _ (List.Mem.tail _ (List.Mem.tail _ (List.Mem.head _)))) ?_
      refine s_getR X 41 (show cdA 25 60 = some (.getfield 29, 3, 2, 1, 0) from rfl) (by decide) rfl rfl ?_
      refine z_load_n X (x := y) (show cdA 25 63 = some (.iload_n 2, 1, 0, 0, 0) from rfl) (List.Mem.tail _ (List.Mem.tail _ (List.Mem.tail _ (List.Mem.tail _ (List.Mem.tail _ (List.Mem.head _)))))) ?_
      refine z_callV X 25 (rm := rmN 30) (As := [.int (Int32.ofInt y)]) (st := []) (show cdA 25 64 = some (.invokevirtual 67, 3, 30, 0, 0) from rfl) rfl (by decide) rfl (by rw [E.1, E.2.1, E.2.2.1]; exact c3_hasCells_25 G Is5 (by first | exact ⟨p1.1, p1.2⟩ | omega)) ⟨by rw [E.2.2.2]; exact (show (rmN 30).frames + 1 ≤ (rmN 25).frames by decide), by rw [E.2.2.2]; exact (show 8 + (mNL (miB 30) + 11) + (rmN 30).locals ≤ (rmN 25).locals by decide), by rw [E.2.2.2]; exact (show 0 + (rmN 30).cells ≤ (rmN 25).cells by decide), by rw [E.2.2.2]; exact (show 0 + (rmN 30).slots ≤ (rmN 25).slots by decide)⟩ (Nat.le_of_ble_eq_true rfl) (fun vv s12 hq => ?_) (fun ee s12 hq => ?_)
      rotate_left
      · obtain ⟨Is12, Fs12, e13, hv, hrs12, hps12⟩ := hq; cases hv
      obtain ⟨Is12, Fs12, e13, hv, hrs12, hps12⟩ := hq
      cases hv
      have Gs12 := fm_ts Gs5 Fs12 (by decide) (by decide)
      show WS k 67 [(6, .int (Int32.ofInt (iC s 37 (y).toNat))), (5, .int (Int32.ofInt (iC s 36 (y).toNat))), (4, .int (Int32.ofInt 0)), (0, .ref (A 41)), (1, .int (Int32.ofInt x)), (2, .int (Int32.ofInt y)), (3, .int (Int32.ofInt z))] [.int (Int32.ofInt e13)] (Wd A dT s12) 0 0
      refine z_if_eq X (t := 206) (show cdA 25 67 = some (.ifCond .eq 139, 3, 0, 0, 0) from rfl) (by decide) hrs12 (fun g14 => ?_) (fun g14 => ?_)
      ·
        refine z_aload_n X (x := A 41) (show cdA 25 206 = some (.aload_n 0, 1, 0, 0, 0) from rfl) (List.Mem.tail _ (List.Mem.tail _ (List.Mem.tail _ (List.Mem.head _)))) ?_
        refine s_getR X 41 (show cdA 25 207 = some (.getfield 29, 3, 2, 1, 0) from rfl) (by decide) rfl rfl ?_
        refine z_load_n X (x := x) (show cdA 25 210 = some (.iload_n 1, 1, 0, 0, 0) from rfl) (List.Mem.tail _ (List.Mem.tail _ (List.Mem.tail _ (List.Mem.tail _ (List.Mem.head _))))) ?_
        refine z_load_n X (x := y) (show cdA 25 211 = some (.iload_n 2, 1, 0, 0, 0) from rfl) (List.Mem.tail _ (List.Mem.tail _ (List.Mem.tail _ (List.Mem.tail _ (List.Mem.tail _ (List.Mem.head _)))))) ?_
        refine z_callV X 25 (rm := rmN 28) (As := [.int (Int32.ofInt x), .int (Int32.ofInt y)]) (st := []) (show cdA 25 212 = some (.invokevirtual 138, 3, 28, 0, 0) from rfl) rfl (by decide) rfl (by rw [E.1, E.2.1, E.2.2.1]; exact c3_put_25 G Is12 (by first | exact ⟨p0.1, p0.2⟩ | omega) (by first | exact ⟨oq_ca54ea22 p1.1, p1.2⟩ | omega)) ⟨by rw [E.2.2.2]; exact (show (rmN 28).frames + 1 ≤ (rmN 25).frames by decide), by rw [E.2.2.2]; exact (show 8 + (mNL (miB 28) + 11) + (rmN 28).locals ≤ (rmN 25).locals by decide), by rw [E.2.2.2]; exact (show 0 + (rmN 28).cells ≤ (rmN 25).cells by decide), by rw [E.2.2.2]; exact (show 0 + (rmN 28).slots ≤ (rmN 25).slots by decide)⟩ (Nat.le_of_ble_eq_true rfl) (fun vv s15 hq => ?_) (fun ee s15 hq => ?_)
        rotate_left
        · obtain ⟨Is15, Fs15, e16, hv, hrs15, hps15⟩ := hq; cases hv
        obtain ⟨Is15, Fs15, e16, hv, hrs15, hps15⟩ := hq
        cases hv
        have Gs15 := fm_ts Gs12 Fs15 (by decide) (by decide)
        show WS k 215 [(6, .int (Int32.ofInt (iC s 37 (y).toNat))), (5, .int (Int32.ofInt (iC s 36 (y).toNat))), (4, .int (Int32.ofInt 0)), (0, .ref (A 41)), (1, .int (Int32.ofInt x)), (2, .int (Int32.ofInt y)), (3, .int (Int32.ofInt z))] [.int (Int32.ofInt e16)] (Wd A dT s15) 0 0
        refine w_pop X.1 (ax_d X (show cdA 25 215 = some (.pop, 1, 0, 0, 0) from rfl)) rfl ?_
        refine z_aload_n X (x := A 41) (show cdA 25 216 = some (.aload_n 0, 1, 0, 0, 0) from rfl) (List.Mem.tail _ (List.Mem.tail _ (List.Mem.tail _ (List.Mem.head _)))) ?_
        refine s_getR X 41 (show cdA 25 217 = some (.getfield 15, 3, 2, 4, 0) from rfl) (by decide) rfl rfl ?_
        refine z_load_n X (x := y) (show cdA 25 220 = some (.iload_n 2, 1, 0, 0, 0) from rfl) (List.Mem.tail _ (List.Mem.tail _ (List.Mem.tail _ (List.Mem.tail _ (List.Mem.tail _ (List.Mem.head _)))))) ?_
        refine z_load X (x := (iC s 36 (y).toNat)) (show cdA 25 221 = some (.iload 5, 2, 0, 0, 0) from rfl) (List.Mem.tail _ (List.Mem.head _)) ?_
        refine z_ast X 43 (show cdA 25 223 = some (.iastore, 1, 0, 0, 0) from rfl) (by decide) rfl (by first | exact p1.1 | omega) (show y < 8 by first | exact oq_aaea290e p1.2 | omega) (by decide) ?_
        obtain ⟨s17, hs17⟩ : ∃ x0, x0 = uC s15 36 (y).toNat (Int32.ofInt (iC s 36 (y).toNat)) := ⟨_, rfl⟩
        rw [← hs17]
        have Is17 : Bd s17 := by rw [hs17]; exact bd_C Is15 (show ((-2147483648) : Int) ≤ (iC s 36 (y).toNat) ∧ (iC s 36 (y).toNat) ≤ 2147483647 by first | exact ⟨b3.1, b3.2⟩ | omega) (rng_to _)
        have Fs17 := fm_C (i := (y).toNat) (x := Int32.ofInt (iC s 36 (y).toNat)) Gs15 (show 36 ∈ _ by decide)
        rw [← hs17] at Fs17
        refine z_aload_n X (x := A 41) (show cdA 25 224 = some (.aload_n 0, 1, 0, 0, 0) from rfl) (List.Mem.tail _ (List.Mem.tail _ (List.Mem.tail _ (List.Mem.head _)))) ?_
        refine s_getR X 41 (show cdA 25 225 = some (.getfield 19, 3, 2, 5, 0) from rfl) (by decide) rfl rfl ?_
        refine z_load_n X (x := y) (show cdA 25 228 = some (.iload_n 2, 1, 0, 0, 0) from rfl) (List.Mem.tail _ (List.Mem.tail _ (List.Mem.tail _ (List.Mem.tail _ (List.Mem.tail _ (List.Mem.head _)))))) ?_
        refine z_load X (x := (iC s 37 (y).toNat)) (show cdA 25 229 = some (.iload 6, 2, 0, 0, 0) from rfl) (List.Mem.head _) ?_
        refine z_ast X 44 (show cdA 25 231 = some (.iastore, 1, 0, 0, 0) from rfl) (by decide) rfl (by first | exact p1.1 | omega) (show y < 8 by first | exact oq_aaea290e p1.2 | omega) (by decide) ?_
        obtain ⟨s18, hs18⟩ : ∃ x0, x0 = uC s17 37 (y).toNat (Int32.ofInt (iC s 37 (y).toNat)) := ⟨_, rfl⟩
        rw [← hs18]
        have Is18 : Bd s18 := by rw [hs18]; exact bd_C Is17 (show ((-2147483648) : Int) ≤ (iC s 37 (y).toNat) ∧ (iC s 37 (y).toNat) ≤ 2147483647 by first | exact ⟨b4.1, b4.2⟩ | omega) (rng_to _)
        have Fs18 := fm_C (i := (y).toNat) (x := Int32.ofInt (iC s 37 (y).toNat)) Fs17 (show 37 ∈ _ by decide)
        rw [← hs18] at Fs18
        exact w_vret X.1 q hRt (ax_d X (show cdA 25 232 = some (.return_, 1, 0, 0, 0) from rfl)) (Nat.zero_le _) (Nat.zero_le _) ⟨_, rfl, Is18, Fs18, rfl, trivial⟩
      ·
        refine z_aload_n X (x := A 41) (show cdA 25 70 = some (.aload_n 0, 1, 0, 0, 0) from rfl) (List.Mem.tail _ (List.Mem.tail _ (List.Mem.tail _ (List.Mem.head _)))) ?_
        refine s_getR X 41 (show cdA 25 71 = some (.getfield 22, 3, 2, 6, 0) from rfl) (by decide) rfl rfl ?_
        refine z_load_n X (x := y) (show cdA 25 74 = some (.iload_n 2, 1, 0, 0, 0) from rfl) (List.Mem.tail _ (List.Mem.tail _ (List.Mem.tail _ (List.Mem.tail _ (List.Mem.tail _ (List.Mem.head _)))))) ?_
        refine z_zald X 45 (show cdA 25 75 = some (.baload, 1, 0, 0, 0) from rfl) (by decide) rfl (by first | exact p1.1 | omega) (show y < 8 by first | exact oq_aaea290e p1.2 | omega) (by decide) ?_
        have b19 : (0 : Int) ≤ iC s12 38 (y).toNat ∧ iC s12 38 (y).toNat ≤ 1 := Is12.2 38 _ (show (y).toNat < 8 by first | exact oq_c19a3aae p1.2 | omega)
        refine z_if_ne X (t := 87) (show cdA 25 76 = some (.ifCond .ne 11, 3, 1, 0, 0) from rfl) (by decide) (rng_to _) (fun g20 => ?_) (fun g20 => ?_)
        ·
          refine z_aload_n X (x := A 41) (show cdA 25 87 = some (.aload_n 0, 1, 0, 0, 0) from rfl) (List.Mem.tail _ (List.Mem.tail _ (List.Mem.tail _ (List.Mem.head _)))) ?_
          refine z_load_n X (x := y) (show cdA 25 88 = some (.iload_n 2, 1, 0, 0, 0) from rfl) (List.Mem.tail _ (List.Mem.tail _ (List.Mem.tail _ (List.Mem.tail _ (List.Mem.tail _ (List.Mem.head _)))))) ?_
          refine z_callV X 41 (rm := rmN 21) (As := [.int (Int32.ofInt y)]) (st := []) (show cdA 25 89 = some (.invokevirtual 70, 3, 21, 0, 0) from rfl) rfl (by decide) rfl (by rw [E.1, E.2.1, E.2.2.1]; exact c2_weigh_41 G Is12 (by first | exact ⟨p1.1, p1.2⟩ | omega)) ⟨by rw [E.2.2.2]; exact (show (rmN 21).frames + 1 ≤ (rmN 25).frames by decide), by rw [E.2.2.2]; exact (show 8 + (mNL (miB 21) + 11) + (rmN 21).locals ≤ (rmN 25).locals by decide), by rw [E.2.2.2]; exact (show 0 + (rmN 21).cells ≤ (rmN 25).cells by decide), by rw [E.2.2.2]; exact (show 0 + (rmN 21).slots ≤ (rmN 25).slots by decide)⟩ (Nat.le_of_ble_eq_true rfl) (fun vv s21 hq => ?_) (fun ee s21 hq => ?_)
          rotate_left
          · obtain ⟨Is21, Fs21, e22, hv, hrs21, hps21⟩ := hq; cases hv
          obtain ⟨Is21, Fs21, e22, hv, hrs21, hps21⟩ := hq
          cases hv
          have Gs21 := fm_ts Gs12 Fs21 (by decide) (by decide)
          show WS k 92 [(6, .int (Int32.ofInt (iC s 37 (y).toNat))), (5, .int (Int32.ofInt (iC s 36 (y).toNat))), (4, .int (Int32.ofInt 0)), (0, .ref (A 41)), (1, .int (Int32.ofInt x)), (2, .int (Int32.ofInt y)), (3, .int (Int32.ofInt z))] [.int (Int32.ofInt e22)] (Wd A dT s21) 0 0
          refine z_if_eq X (t := 206) (show cdA 25 92 = some (.ifCond .eq 114, 3, 0, 0, 0) from rfl) (by decide) hrs21 (fun g23 => ?_) (fun g23 => ?_)
          ·
            refine z_aload_n X (x := A 41) (show cdA 25 206 = some (.aload_n 0, 1, 0, 0, 0) from rfl) (List.Mem.tail _ (List.Mem.tail _ (List.Mem.tail _ (List.Mem.head _)))) ?_
            refine s_getR X 41 (show cdA 25 207 = some (.getfield 29, 3, 2, 1, 0) from rfl) (by decide) rfl rfl ?_
            refine z_load_n X (x := x) (show cdA 25 210 = some (.iload_n 1, 1, 0, 0, 0) from rfl) (List.Mem.tail _ (List.Mem.tail _ (List.Mem.tail _ (List.Mem.tail _ (List.Mem.head _))))) ?_
            refine z_load_n X (x := y) (show cdA 25 211 = some (.iload_n 2, 1, 0, 0, 0) from rfl) (List.Mem.tail _ (List.Mem.tail _ (List.Mem.tail _ (List.Mem.tail _ (List.Mem.tail _ (List.Mem.head _)))))) ?_
            refine z_callV X 25 (rm := rmN 28) (As := [.int (Int32.ofInt x), .int (Int32.ofInt y)]) (st := []) (show cdA 25 212 = some (.invokevirtual 138, 3, 28, 0, 0) from rfl) rfl (by decide) rfl (by rw [E.1, E.2.1, E.2.2.1]; exact c3_put_25 G Is21 (by first | exact ⟨p0.1, p0.2⟩ | omega) (by first | exact ⟨oq_ca54ea22 p1.1, p1.2⟩ | omega)) ⟨by rw [E.2.2.2]; exact (show (rmN 28).frames + 1 ≤ (rmN 25).frames by decide), by rw [E.2.2.2]; exact (show 8 + (mNL (miB 28) + 11) + (rmN 28).locals ≤ (rmN 25).locals by decide), by rw [E.2.2.2]; exact (show 0 + (rmN 28).cells ≤ (rmN 25).cells by decide), by rw [E.2.2.2]; exact (show 0 + (rmN 28).slots ≤ (rmN 25).slots by decide)⟩ (Nat.le_of_ble_eq_true rfl) (fun vv s24 hq => ?_) (fun ee s24 hq => ?_)
            rotate_left
            · obtain ⟨Is24, Fs24, e25, hv, hrs24, hps24⟩ := hq; cases hv
            obtain ⟨Is24, Fs24, e25, hv, hrs24, hps24⟩ := hq
            cases hv
            have Gs24 := fm_ts Gs21 Fs24 (by decide) (by decide)
            show WS k 215 [(6, .int (Int32.ofInt (iC s 37 (y).toNat))), (5, .int (Int32.ofInt (iC s 36 (y).toNat))), (4, .int (Int32.ofInt 0)), (0, .ref (A 41)), (1, .int (Int32.ofInt x)), (2, .int (Int32.ofInt y)), (3, .int (Int32.ofInt z))] [.int (Int32.ofInt e25)] (Wd A dT s24) 0 0
            refine w_pop X.1 (ax_d X (show cdA 25 215 = some (.pop, 1, 0, 0, 0) from rfl)) rfl ?_
            refine z_aload_n X (x := A 41) (show cdA 25 216 = some (.aload_n 0, 1, 0, 0, 0) from rfl) (List.Mem.tail _ (List.Mem.tail _ (List.Mem.tail _ (List.Mem.head _)))) ?_
            refine s_getR X 41 (show cdA 25 217 = some (.getfield 15, 3, 2, 4, 0) from rfl) (by decide) rfl rfl ?_
            refine z_load_n X (x := y) (show cdA 25 220 = some (.iload_n 2, 1, 0, 0, 0) from rfl) (List.Mem.tail _ (List.Mem.tail _ (List.Mem.tail _ (List.Mem.tail _ (List.Mem.tail _ (List.Mem.head _)))))) ?_
            refine z_load X (x := (iC s 36 (y).toNat)) (show cdA 25 221 = some (.iload 5, 2, 0, 0, 0) from rfl) (List.Mem.tail _ (List.Mem.head _)) ?_
            refine z_ast X 43 (show cdA 25 223 = some (.iastore, 1, 0, 0, 0) from rfl) (by decide) rfl (by first | exact p1.1 | omega) (show y < 8 by first | exact oq_aaea290e p1.2 | omega) (by decide) ?_
            obtain ⟨s26, hs26⟩ : ∃ x0, x0 = uC s24 36 (y).toNat (Int32.ofInt (iC s 36 (y).toNat)) := ⟨_, rfl⟩
            rw [← hs26]
            have Is26 : Bd s26 := by rw [hs26]; exact bd_C Is24 (show ((-2147483648) : Int) ≤ (iC s 36 (y).toNat) ∧ (iC s 36 (y).toNat) ≤ 2147483647 by first | exact ⟨b3.1, b3.2⟩ | omega) (rng_to _)
            have Fs26 := fm_C (i := (y).toNat) (x := Int32.ofInt (iC s 36 (y).toNat)) Gs24 (show 36 ∈ _ by decide)
            rw [← hs26] at Fs26
            refine z_aload_n X (x := A 41) (show cdA 25 224 = some (.aload_n 0, 1, 0, 0, 0) from rfl) (List.Mem.tail _ (List.Mem.tail _ (List.Mem.tail _ (List.Mem.head _)))) ?_
            refine s_getR X 41 (show cdA 25 225 = some (.getfield 19, 3, 2, 5, 0) from rfl) (by decide) rfl rfl ?_
            refine z_load_n X (x := y) (show cdA 25 228 = some (.iload_n 2, 1, 0, 0, 0) from rfl) (List.Mem.tail _ (List.Mem.tail _ (List.Mem.tail _ (List.Mem.tail _ (List.Mem.tail _ (List.Mem.head _)))))) ?_
            refine z_load X (x := (iC s 37 (y).toNat)) (show cdA 25 229 = some (.iload 6, 2, 0, 0, 0) from rfl) (List.Mem.head _) ?_
            refine z_ast X 44 (show cdA 25 231 = some (.iastore, 1, 0, 0, 0) from rfl) (by decide) rfl (by first | exact p1.1 | omega) (show y < 8 by first | exact oq_aaea290e p1.2 | omega) (by decide) ?_
            obtain ⟨s27, hs27⟩ : ∃ x0, x0 = uC s26 37 (y).toNat (Int32.ofInt (iC s 37 (y).toNat)) := ⟨_, rfl⟩
            rw [← hs27]
            have Is27 : Bd s27 := by rw [hs27]; exact bd_C Is26 (show ((-2147483648) : Int) ≤ (iC s 37 (y).toNat) ∧ (iC s 37 (y).toNat) ≤ 2147483647 by first | exact ⟨b4.1, b4.2⟩ | omega) (rng_to _)
            have Fs27 := fm_C (i := (y).toNat) (x := Int32.ofInt (iC s 37 (y).toNat)) Fs26 (show 37 ∈ _ by decide)
            rw [← hs27] at Fs27
            exact w_vret X.1 q hRt (ax_d X (show cdA 25 232 = some (.return_, 1, 0, 0, 0) from rfl)) (Nat.zero_le _) (Nat.zero_le _) ⟨_, rfl, Is27, Fs27, rfl, trivial⟩
          ·
            refine z_const X (show cdA 25 95 = some (.iconst 0, 1, 0, 0, 0) from rfl) ?_
            refine z_store X (lv' := [(7, .int (Int32.ofInt 0)), (6, .int (Int32.ofInt (iC s 37 (y).toNat))), (5, .int (Int32.ofInt (iC s 36 (y).toNat))), (4, .int (Int32.ofInt 0)), (0, .ref (A 41)), (1, .int (Int32.ofInt x)), (2, .int (Int32.ofInt y)), (3, .int (Int32.ofInt z))]) (show cdA 25 96 = some (.istore 7, 2, 0, 0, 0) from rfl) (by decide) (fun _ h => h) ?_
            refine WS_lv (lv := [(0, .ref (A 41)), (1, .int (Int32.ofInt x)), (2, .int (Int32.ofInt y)), (3, .int (Int32.ofInt z)), (5, .int (Int32.ofInt (iC s 36 (y).toNat))), (6, .int (Int32.ofInt (iC s 37 (y).toNat))), (7, .int (Int32.ofInt 0))]) (List.forall_mem_cons.mpr ⟨(List.Mem.tail _ (List.Mem.tail _ (List.Mem.tail _ (List.Mem.tail _ (List.Mem.head _))))), (List.forall_mem_cons.mpr ⟨(List.Mem.tail _ (List.Mem.tail _ (List.Mem.tail _ (List.Mem.tail _ (List.Mem.tail _ (List.Mem.head _)))))), (List.forall_mem_cons.mpr ⟨(List.Mem.tail _ (List.Mem.tail _ (List.Mem.tail _ (List.Mem.tail _ (List.Mem.tail _ (List.Mem.tail _ (List.Mem.head _))))))), (List.forall_mem_cons.mpr ⟨(List.Mem.tail _ (List.Mem.tail _ (List.Mem.tail _ (List.Mem.tail _ (List.Mem.tail _ (List.Mem.tail _ (List.Mem.tail _ (List.Mem.head _)))))))), (List.forall_mem_cons.mpr ⟨(List.Mem.tail _ (List.Mem.tail _ (List.Mem.head _))), (List.forall_mem_cons.mpr ⟨(List.Mem.tail _ (List.Mem.head _)), (List.forall_mem_cons.mpr ⟨(List.Mem.head _), (fun q h => absurd h List.not_mem_nil)⟩)⟩)⟩)⟩)⟩)⟩)⟩) ?_
            refine L98 ((8 - 0 : Int).toNat + 1) s21 x y z (iC s 36 (y).toNat) (iC s 37 (y).toNat) 0 Is21 Gs21 (by first | exact ⟨And.intro (p0.1) (p0.2), And.intro (p1.1) (p1.2), And.intro (p2.1) (p2.2), And.intro (b3.1) (b3.2), And.intro (b4.1) (b4.2), by decide, by decide⟩ | omega) (Nat.lt_succ_self _) ?_
            intro s28 x29 Is28 Fs28 hs28
            refine z_aload_n X (x := A 41) (show cdA 25 206 = some (.aload_n 0, 1, 0, 0, 0) from rfl) (List.Mem.head _) ?_
            refine s_getR X 41 (show cdA 25 207 = some (.getfield 29, 3, 2, 1, 0) from rfl) (by decide) rfl rfl ?_
            refine z_load_n X (x := x) (show cdA 25 210 = some (.iload_n 1, 1, 0, 0, 0) from rfl) (List.Mem.tail _ (List.Mem.head _)) ?_
            refine z_load_n X (x := y) (show cdA 25 211 = some (.iload_n 2, 1, 0, 0, 0) from rfl) (List.Mem.tail _ (List.Mem.tail _ (List.Mem.head _))) ?_
            refine z_callV X 25 (rm := rmN 28) (As := [.int (Int32.ofInt x), .int (Int32.ofInt y)]) (st := []) (show cdA 25 212 = some (.invokevirtual 138, 3, 28, 0, 0) from rfl) rfl (by decide) rfl (by rw [E.1, E.2.1, E.2.2.1]; exact c3_put_25 G Is28 (by first | exact ⟨hs28.1.1, hs28.1.2⟩ | omega) (by first | exact ⟨oq_ca54ea22 hs28.2.1.1, hs28.2.1.2⟩ | omega)) ⟨by rw [E.2.2.2]; exact (show (rmN 28).frames + 1 ≤ (rmN 25).frames by decide), by rw [E.2.2.2]; exact (show 8 + (mNL (miB 28) + 11) + (rmN 28).locals ≤ (rmN 25).locals by decide), by rw [E.2.2.2]; exact (show 0 + (rmN 28).cells ≤ (rmN 25).cells by decide), by rw [E.2.2.2]; exact (show 0 + (rmN 28).slots ≤ (rmN 25).slots by decide)⟩ (Nat.le_of_ble_eq_true rfl) (fun vv s30 hq => ?_) (fun ee s30 hq => ?_)
            rotate_left
            · obtain ⟨Is30, Fs30, e31, hv, hrs30, hps30⟩ := hq; cases hv
            obtain ⟨Is30, Fs30, e31, hv, hrs30, hps30⟩ := hq
            cases hv
            have Gs30 := fm_ts Fs28 Fs30 (by decide) (by decide)
            show WS k 215 [(0, .ref (A 41)), (1, .int (Int32.ofInt x)), (2, .int (Int32.ofInt y)), (3, .int (Int32.ofInt z)), (5, .int (Int32.ofInt (iC s 36 (y).toNat))), (6, .int (Int32.ofInt (iC s 37 (y).toNat))), (7, .int (Int32.ofInt x29))] [.int (Int32.ofInt e31)] (Wd A dT s30) 0 0
            refine w_pop X.1 (ax_d X (show cdA 25 215 = some (.pop, 1, 0, 0, 0) from rfl)) rfl ?_
            refine z_aload_n X (x := A 41) (show cdA 25 216 = some (.aload_n 0, 1, 0, 0, 0) from rfl) (List.Mem.head _) ?_
            refine s_getR X 41 (show cdA 25 217 = some (.getfield 15, 3, 2, 4, 0) from rfl) (by decide) rfl rfl ?_
            refine z_load_n X (x := y) (show cdA 25 220 = some (.iload_n 2, 1, 0, 0, 0) from rfl) (List.Mem.tail _ (List.Mem.tail _ (List.Mem.head _))) ?_
            refine z_load X (x := (iC s 36 (y).toNat)) (show cdA 25 221 = some (.iload 5, 2, 0, 0, 0) from rfl) (List.Mem.tail _ (List.Mem.tail _ (List.Mem.tail _ (List.Mem.tail _ (List.Mem.head _))))) ?_
            refine z_ast X 43 (show cdA 25 223 = some (.iastore, 1, 0, 0, 0) from rfl) (by decide) rfl (by first | exact hs28.2.1.1 | omega) (show y < 8 by first | exact oq_aaea290e hs28.2.1.2 | omega) (by decide) ?_
            obtain ⟨s32, hs32⟩ : ∃ x0, x0 = uC s30 36 (y).toNat (Int32.ofInt (iC s 36 (y).toNat)) := ⟨_, rfl⟩
            rw [← hs32]
            have Is32 : Bd s32 := by rw [hs32]; exact bd_C Is30 (show ((-2147483648) : Int) ≤ (iC s 36 (y).toNat) ∧ (iC s 36 (y).toNat) ≤ 2147483647 by first | exact ⟨hs28.2.2.2.1.1, hs28.2.2.2.1.2⟩ | omega) (rng_to _)
            have Fs32 := fm_C (i := (y).toNat) (x := Int32.ofInt (iC s 36 (y).toNat)) Gs30 (show 36 ∈ _ by decide)
            rw [← hs32] at Fs32
            refine z_aload_n X (x := A 41) (show cdA 25 224 = some (.aload_n 0, 1, 0, 0, 0) from rfl) (List.Mem.head _) ?_
            refine s_getR X 41 (show cdA 25 225 = some (.getfield 19, 3, 2, 5, 0) from rfl) (by decide) rfl rfl ?_
            refine z_load_n X (x := y) (show cdA 25 228 = some (.iload_n 2, 1, 0, 0, 0) from rfl) (List.Mem.tail _ (List.Mem.tail _ (List.Mem.head _))) ?_
            refine z_load X (x := (iC s 37 (y).toNat)) (show cdA 25 229 = some (.iload 6, 2, 0, 0, 0) from rfl) (List.Mem.tail _ (List.Mem.tail _ (List.Mem.tail _ (List.Mem.tail _ (List.Mem.tail _ (List.Mem.head _)))))) ?_
            refine z_ast X 44 (show cdA 25 231 = some (.iastore, 1, 0, 0, 0) from rfl) (by decide) rfl (by first | exact hs28.2.1.1 | omega) (show y < 8 by first | exact oq_aaea290e hs28.2.1.2 | omega) (by decide) ?_
            obtain ⟨s33, hs33⟩ : ∃ x0, x0 = uC s32 37 (y).toNat (Int32.ofInt (iC s 37 (y).toNat)) := ⟨_, rfl⟩
            rw [← hs33]
            have Is33 : Bd s33 := by rw [hs33]; exact bd_C Is32 (show ((-2147483648) : Int) ≤ (iC s 37 (y).toNat) ∧ (iC s 37 (y).toNat) ≤ 2147483647 by first | exact ⟨hs28.2.2.2.2.1.1, hs28.2.2.2.2.1.2⟩ | omega) (rng_to _)
            have Fs33 := fm_C (i := (y).toNat) (x := Int32.ofInt (iC s 37 (y).toNat)) Fs32 (show 37 ∈ _ by decide)
            rw [← hs33] at Fs33
            exact w_vret X.1 q hRt (ax_d X (show cdA 25 232 = some (.return_, 1, 0, 0, 0) from rfl)) (Nat.zero_le _) (Nat.zero_le _) ⟨_, rfl, Is33, Fs33, rfl, trivial⟩
        ·
          refine z_aload_n X (x := A 41) (show cdA 25 79 = some (.aload_n 0, 1, 0, 0, 0) from rfl) (List.Mem.tail _ (List.Mem.tail _ (List.Mem.tail _ (List.Mem.head _)))) ?_
          refine z_load_n X (x := y) (show cdA 25 80 = some (.iload_n 2, 1, 0, 0, 0) from rfl) (List.Mem.tail _ (List.Mem.tail _ (List.Mem.tail _ (List.Mem.tail _ (List.Mem.tail _ (List.Mem.head _)))))) ?_
          refine z_callV X 41 (rm := rmN 19) (As := [.int (Int32.ofInt y)]) (st := []) (show cdA 25 81 = some (.invokevirtual 37, 3, 19, 0, 0) from rfl) rfl (by decide) rfl (by rw [E.1, E.2.1, E.2.2.1]; exact c2_isWhole_41 G Is12 (by first | exact ⟨p1.1, p1.2⟩ | omega)) ⟨by rw [E.2.2.2]; exact (show (rmN 19).frames + 1 ≤ (rmN 25).frames by decide), by rw [E.2.2.2]; exact (show 8 + (mNL (miB 19) + 11) + (rmN 19).locals ≤ (rmN 25).locals by decide), by rw [E.2.2.2]; exact (show 0 + (rmN 19).cells ≤ (rmN 25).cells by decide), by rw [E.2.2.2]; exact (show 0 + (rmN 19).slots ≤ (rmN 25).slots by decide)⟩ (Nat.le_of_ble_eq_true rfl) (fun vv s34 hq => ?_) (fun ee s34 hq => ?_)
          rotate_left
          · obtain ⟨Is34, Fs34, e35, hv, hrs34, hps34⟩ := hq; cases hv
          obtain ⟨Is34, Fs34, e35, hv, hrs34, hps34⟩ := hq
          cases hv
          have Gs34 := fm_ts Gs12 Fs34 (by decide) (by decide)
          show WS k 84 [(6, .int (Int32.ofInt (iC s 37 (y).toNat))), (5, .int (Int32.ofInt (iC s 36 (y).toNat))), (4, .int (Int32.ofInt 0)), (0, .ref (A 41)), (1, .int (Int32.ofInt x)), (2, .int (Int32.ofInt y)), (3, .int (Int32.ofInt z))] [.int (Int32.ofInt e35)] (Wd A dT s34) 0 0
          refine z_if_eq X (t := 206) (show cdA 25 84 = some (.ifCond .eq 122, 3, 0, 0, 0) from rfl) (by decide) hrs34 (fun g36 => ?_) (fun g36 => ?_)
          ·
            refine z_aload_n X (x := A 41) (show cdA 25 206 = some (.aload_n 0, 1, 0, 0, 0) from rfl) (List.Mem.tail _ (List.Mem.tail _ (List.Mem.tail _ (List.Mem.head _)))) ?_
            refine s_getR X 41 (show cdA 25 207 = some (.getfield 29, 3, 2, 1, 0) from rfl) (by decide) rfl rfl ?_
            refine z_load_n X (x := x) (show cdA 25 210 = some (.iload_n 1, 1, 0, 0, 0) from rfl) (List.Mem.tail _ (List.Mem.tail _ (List.Mem.tail _ (List.Mem.tail _ (List.Mem.head _))))) ?_
            refine z_load_n X (x := y) (show cdA 25 211 = some (.iload_n 2, 1, 0, 0, 0) from rfl) (List.Mem.tail _ (List.Mem.tail _ (List.Mem.tail _ (List.Mem.tail _ (List.Mem.tail _ (List.Mem.head _)))))) ?_
            refine z_callV X 25 (rm := rmN 28) (As := [.int (Int32.ofInt x), .int (Int32.ofInt y)]) (st := []) (show cdA 25 212 = some (.invokevirtual 138, 3, 28, 0, 0) from rfl) rfl (by decide) rfl (by rw [E.1, E.2.1, E.2.2.1]; exact c3_put_25 G Is34 (by first | exact ⟨p0.1, p0.2⟩ | omega) (by first | exact ⟨oq_ca54ea22 p1.1, p1.2⟩ | omega)) ⟨by rw [E.2.2.2]; exact (show (rmN 28).frames + 1 ≤ (rmN 25).frames by decide), by rw [E.2.2.2]; exact (show 8 + (mNL (miB 28) + 11) + (rmN 28).locals ≤ (rmN 25).locals by decide), by rw [E.2.2.2]; exact (show 0 + (rmN 28).cells ≤ (rmN 25).cells by decide), by rw [E.2.2.2]; exact (show 0 + (rmN 28).slots ≤ (rmN 25).slots by decide)⟩ (Nat.le_of_ble_eq_true rfl) (fun vv s37 hq => ?_) (fun ee s37 hq => ?_)
            rotate_left
            · obtain ⟨Is37, Fs37, e38, hv, hrs37, hps37⟩ := hq; cases hv
            obtain ⟨Is37, Fs37, e38, hv, hrs37, hps37⟩ := hq
            cases hv
            have Gs37 := fm_ts Gs34 Fs37 (by decide) (by decide)
            show WS k 215 [(6, .int (Int32.ofInt (iC s 37 (y).toNat))), (5, .int (Int32.ofInt (iC s 36 (y).toNat))), (4, .int (Int32.ofInt 0)), (0, .ref (A 41)), (1, .int (Int32.ofInt x)), (2, .int (Int32.ofInt y)), (3, .int (Int32.ofInt z))] [.int (Int32.ofInt e38)] (Wd A dT s37) 0 0
            refine w_pop X.1 (ax_d X (show cdA 25 215 = some (.pop, 1, 0, 0, 0) from rfl)) rfl ?_
            refine z_aload_n X (x := A 41) (show cdA 25 216 = some (.aload_n 0, 1, 0, 0, 0) from rfl) (List.Mem.tail _ (List.Mem.tail _ (List.Mem.tail _ (List.Mem.head _)))) ?_
            refine s_getR X 41 (show cdA 25 217 = some (.getfield 15, 3, 2, 4, 0) from rfl) (by decide) rfl rfl ?_
            refine z_load_n X (x := y) (show cdA 25 220 = some (.iload_n 2, 1, 0, 0, 0) from rfl) (List.Mem.tail _ (List.Mem.tail _ (List.Mem.tail _ (List.Mem.tail _ (List.Mem.tail _ (List.Mem.head _)))))) ?_
            refine z_load X (x := (iC s 36 (y).toNat)) (show cdA 25 221 = some (.iload 5, 2, 0, 0, 0) from rfl) (List.Mem.tail _ (List.Mem.head _)) ?_
            refine z_ast X 43 (show cdA 25 223 = some (.iastore, 1, 0, 0, 0) from rfl) (by decide) rfl (by first | exact p1.1 | omega) (show y < 8 by first | exact oq_aaea290e p1.2 | omega) (by decide) ?_
            obtain ⟨s39, hs39⟩ : ∃ x0, x0 = uC s37 36 (y).toNat (Int32.ofInt (iC s 36 (y).toNat)) := ⟨_, rfl⟩
            rw [← hs39]
            have Is39 : Bd s39 := by rw [hs39]; exact bd_C Is37 (show ((-2147483648) : Int) ≤ (iC s 36 (y).toNat) ∧ (iC s 36 (y).toNat) ≤ 2147483647 by first | exact ⟨b3.1, b3.2⟩ | omega) (rng_to _)
            have Fs39 := fm_C (i := (y).toNat) (x := Int32.ofInt (iC s 36 (y).toNat)) Gs37 (show 36 ∈ _ by decide)
            rw [← hs39] at Fs39
            refine z_aload_n X (x := A 41) (show cdA 25 224 = some (.aload_n 0, 1, 0, 0, 0) from rfl) (List.Mem.tail _ (List.Mem.tail _ (List.Mem.tail _ (List.Mem.head _)))) ?_
            refine s_getR X 41 (show cdA 25 225 = some (.getfield 19, 3, 2, 5, 0) from rfl) (by decide) rfl rfl ?_
            refine z_load_n X (x := y) (show cdA 25 228 = some (.iload_n 2, 1, 0, 0, 0) from rfl) (List.Mem.tail _ (List.Mem.tail _ (List.Mem.tail _ (List.Mem.tail _ (List.Mem.tail _ (List.Mem.head _)))))) ?_
            refine z_load X (x := (iC s 37 (y).toNat)) (show cdA 25 229 = some (.iload 6, 2, 0, 0, 0) from rfl) (List.Mem.head _) ?_
            refine z_ast X 44 (show cdA 25 231 = some (.iastore, 1, 0, 0, 0) from rfl) (by decide) rfl (by first | exact p1.1 | omega) (show y < 8 by first | exact oq_aaea290e p1.2 | omega) (by decide) ?_
            obtain ⟨s40, hs40⟩ : ∃ x0, x0 = uC s39 37 (y).toNat (Int32.ofInt (iC s 37 (y).toNat)) := ⟨_, rfl⟩
            rw [← hs40]
            have Is40 : Bd s40 := by rw [hs40]; exact bd_C Is39 (show ((-2147483648) : Int) ≤ (iC s 37 (y).toNat) ∧ (iC s 37 (y).toNat) ≤ 2147483647 by first | exact ⟨b4.1, b4.2⟩ | omega) (rng_to _)
            have Fs40 := fm_C (i := (y).toNat) (x := Int32.ofInt (iC s 37 (y).toNat)) Fs39 (show 37 ∈ _ by decide)
            rw [← hs40] at Fs40
            exact w_vret X.1 q hRt (ax_d X (show cdA 25 232 = some (.return_, 1, 0, 0, 0) from rfl)) (Nat.zero_le _) (Nat.zero_le _) ⟨_, rfl, Is40, Fs40, rfl, trivial⟩
          ·
            refine z_aload_n X (x := A 41) (show cdA 25 87 = some (.aload_n 0, 1, 0, 0, 0) from rfl) (List.Mem.tail _ (List.Mem.tail _ (List.Mem.tail _ (List.Mem.head _)))) ?_
            refine z_load_n X (x := y) (show cdA 25 88 = some (.iload_n 2, 1, 0, 0, 0) from rfl) (List.Mem.tail _ (List.Mem.tail _ (List.Mem.tail _ (List.Mem.tail _ (List.Mem.tail _ (List.Mem.head _)))))) ?_
            refine z_callV X 41 (rm := rmN 21) (As := [.int (Int32.ofInt y)]) (st := []) (show cdA 25 89 = some (.invokevirtual 70, 3, 21, 0, 0) from rfl) rfl (by decide) rfl (by rw [E.1, E.2.1, E.2.2.1]; exact c2_weigh_41 G Is34 (by first | exact ⟨p1.1, p1.2⟩ | omega)) ⟨by rw [E.2.2.2]; exact (show (rmN 21).frames + 1 ≤ (rmN 25).frames by decide), by rw [E.2.2.2]; exact (show 8 + (mNL (miB 21) + 11) + (rmN 21).locals ≤ (rmN 25).locals by decide), by rw [E.2.2.2]; exact (show 0 + (rmN 21).cells ≤ (rmN 25).cells by decide), by rw [E.2.2.2]; exact (show 0 + (rmN 21).slots ≤ (rmN 25).slots by decide)⟩ (Nat.le_of_ble_eq_true rfl) (fun vv s41 hq => ?_) (fun ee s41 hq => ?_)
            rotate_left
            · obtain ⟨Is41, Fs41, e42, hv, hrs41, hps41⟩ := hq; cases hv
            obtain ⟨Is41, Fs41, e42, hv, hrs41, hps41⟩ := hq
            cases hv
            have Gs41 := fm_ts Gs34 Fs41 (by decide) (by decide)
            show WS k 92 [(6, .int (Int32.ofInt (iC s 37 (y).toNat))), (5, .int (Int32.ofInt (iC s 36 (y).toNat))), (4, .int (Int32.ofInt 0)), (0, .ref (A 41)), (1, .int (Int32.ofInt x)), (2, .int (Int32.ofInt y)), (3, .int (Int32.ofInt z))] [.int (Int32.ofInt e42)] (Wd A dT s41) 0 0
            refine z_if_eq X (t := 206) (show cdA 25 92 = some (.ifCond .eq 114, 3, 0, 0, 0) from rfl) (by decide) hrs41 (fun g43 => ?_) (fun g43 => ?_)
            ·
              refine z_aload_n X (x := A 41) (show cdA 25 206 = some (.aload_n 0, 1, 0, 0, 0) from rfl) (List.Mem.tail _ (List.Mem.tail _ (List.Mem.tail _ (List.Mem.head _)))) ?_
              refine s_getR X 41 (show cdA 25 207 = some (.getfield 29, 3, 2, 1, 0) from rfl) (by decide) rfl rfl ?_
              refine z_load_n X (x := x) (show cdA 25 210 = some (.iload_n 1, 1, 0, 0, 0) from rfl) (List.Mem.tail _ (List.Mem.tail _ (List.Mem.tail _ (List.Mem.tail _ (List.Mem.head _))))) ?_
              refine z_load_n X (x := y) (show cdA 25 211 = some (.iload_n 2, 1, 0, 0, 0) from rfl) (List.Mem.tail _ (List.Mem.tail _ (List.Mem.tail _ (List.Mem.tail _ (List.Mem.tail _ (List.Mem.head _)))))) ?_
              refine z_callV X 25 (rm := rmN 28) (As := [.int (Int32.ofInt x), .int (Int32.ofInt y)]) (st := []) (show cdA 25 212 = some (.invokevirtual 138, 3, 28, 0, 0) from rfl) rfl (by decide) rfl (by rw [E.1, E.2.1, E.2.2.1]; exact c3_put_25 G Is41 (by first | exact ⟨p0.1, p0.2⟩ | omega) (by first | exact ⟨oq_ca54ea22 p1.1, p1.2⟩ | omega)) ⟨by rw [E.2.2.2]; exact (show (rmN 28).frames + 1 ≤ (rmN 25).frames by decide), by rw [E.2.2.2]; exact (show 8 + (mNL (miB 28) + 11) + (rmN 28).locals ≤ (rmN 25).locals by decide), by rw [E.2.2.2]; exact (show 0 + (rmN 28).cells ≤ (rmN 25).cells by decide), by rw [E.2.2.2]; exact (show 0 + (rmN 28).slots ≤ (rmN 25).slots by decide)⟩ (Nat.le_of_ble_eq_true rfl) (fun vv s44 hq => ?_) (fun ee s44 hq => ?_)
              rotate_left
              · obtain ⟨Is44, Fs44, e45, hv, hrs44, hps44⟩ := hq; cases hv
              obtain ⟨Is44, Fs44, e45, hv, hrs44, hps44⟩ := hq
              cases hv
              have Gs44 := fm_ts Gs41 Fs44 (by decide) (by decide)
              show WS k 215 [(6, .int (Int32.ofInt (iC s 37 (y).toNat))), (5, .int (Int32.ofInt (iC s 36 (y).toNat))), (4, .int (Int32.ofInt 0)), (0, .ref (A 41)), (1, .int (Int32.ofInt x)), (2, .int (Int32.ofInt y)), (3, .int (Int32.ofInt z))] [.int (Int32.ofInt e45)] (Wd A dT s44) 0 0
              refine w_pop X.1 (ax_d X (show cdA 25 215 = some (.pop, 1, 0, 0, 0) from rfl)) rfl ?_
              refine z_aload_n X (x := A 41) (show cdA 25 216 = some (.aload_n 0, 1, 0, 0, 0) from rfl) (List.Mem.tail _ (List.Mem.tail _ (List.Mem.tail _ (List.Mem.head _)))) ?_
              refine s_getR X 41 (show cdA 25 217 = some (.getfield 15, 3, 2, 4, 0) from rfl) (by decide) rfl rfl ?_
              refine z_load_n X (x := y) (show cdA 25 220 = some (.iload_n 2, 1, 0, 0, 0) from rfl) (List.Mem.tail _ (List.Mem.tail _ (List.Mem.tail _ (List.Mem.tail _ (List.Mem.tail _ (List.Mem.head _)))))) ?_
              refine z_load X (x := (iC s 36 (y).toNat)) (show cdA 25 221 = some (.iload 5, 2, 0, 0, 0) from rfl) (List.Mem.tail _ (List.Mem.head _)) ?_
              refine z_ast X 43 (show cdA 25 223 = some (.iastore, 1, 0, 0, 0) from rfl) (by decide) rfl (by first | exact p1.1 | omega) (show y < 8 by first | exact oq_aaea290e p1.2 | omega) (by decide) ?_
              obtain ⟨s46, hs46⟩ : ∃ x0, x0 = uC s44 36 (y).toNat (Int32.ofInt (iC s 36 (y).toNat)) := ⟨_, rfl⟩
              rw [← hs46]
              have Is46 : Bd s46 := by rw [hs46]; exact bd_C Is44 (show ((-2147483648) : Int) ≤ (iC s 36 (y).toNat) ∧ (iC s 36 (y).toNat) ≤ 2147483647 by first | exact ⟨b3.1, b3.2⟩ | omega) (rng_to _)
              have Fs46 := fm_C (i := (y).toNat) (x := Int32.ofInt (iC s 36 (y).toNat)) Gs44 (show 36 ∈ _ by decide)
              rw [← hs46] at Fs46
              refine z_aload_n X (x := A 41) (show cdA 25 224 = some (.aload_n 0, 1, 0, 0, 0) from rfl) (List.Mem.tail _ (List.Mem.tail _ (List.Mem.tail _ (List.Mem.head _)))) ?_
              refine s_getR X 41 (show cdA 25 225 = some (.getfield 19, 3, 2, 5, 0) from rfl) (by decide) rfl rfl ?_
              refine z_load_n X (x := y) (show cdA 25 228 = some (.iload_n 2, 1, 0, 0, 0) from rfl) (List.Mem.tail _ (List.Mem.tail _ (List.Mem.tail _ (List.Mem.tail _ (List.Mem.tail _ (List.Mem.head _)))))) ?_
              refine z_load X (x := (iC s 37 (y).toNat)) (show cdA 25 229 = some (.iload 6, 2, 0, 0, 0) from rfl) (List.Mem.head _) ?_
              refine z_ast X 44 (show cdA 25 231 = some (.iastore, 1, 0, 0, 0) from rfl) (by decide) rfl (by first | exact p1.1 | omega) (show y < 8 by first | exact oq_aaea290e p1.2 | omega) (by decide) ?_
              obtain ⟨s47, hs47⟩ : ∃ x0, x0 = uC s46 37 (y).toNat (Int32.ofInt (iC s 37 (y).toNat)) := ⟨_, rfl⟩
              rw [← hs47]
              have Is47 : Bd s47 := by rw [hs47]; exact bd_C Is46 (show ((-2147483648) : Int) ≤ (iC s 37 (y).toNat) ∧ (iC s 37 (y).toNat) ≤ 2147483647 by first | exact ⟨b4.1, b4.2⟩ | omega) (rng_to _)
              have Fs47 := fm_C (i := (y).toNat) (x := Int32.ofInt (iC s 37 (y).toNat)) Fs46 (show 37 ∈ _ by decide)
              rw [← hs47] at Fs47
              exact w_vret X.1 q hRt (ax_d X (show cdA 25 232 = some (.return_, 1, 0, 0, 0) from rfl)) (Nat.zero_le _) (Nat.zero_le _) ⟨_, rfl, Is47, Fs47, rfl, trivial⟩
            ·
              refine z_const X (show cdA 25 95 = some (.iconst 0, 1, 0, 0, 0) from rfl) ?_
              refine z_store X (lv' := [(7, .int (Int32.ofInt 0)), (6, .int (Int32.ofInt (iC s 37 (y).toNat))), (5, .int (Int32.ofInt (iC s 36 (y).toNat))), (4, .int (Int32.ofInt 0)), (0, .ref (A 41)), (1, .int (Int32.ofInt x)), (2, .int (Int32.ofInt y)), (3, .int (Int32.ofInt z))]) (show cdA 25 96 = some (.istore 7, 2, 0, 0, 0) from rfl) (by decide) (fun _ h => h) ?_
              refine WS_lv (lv := [(0, .ref (A 41)), (1, .int (Int32.ofInt x)), (2, .int (Int32.ofInt y)), (3, .int (Int32.ofInt z)), (5, .int (Int32.ofInt (iC s 36 (y).toNat))), (6, .int (Int32.ofInt (iC s 37 (y).toNat))), (7, .int (Int32.ofInt 0))]) (List.forall_mem_cons.mpr ⟨(List.Mem.tail _ (List.Mem.tail _ (List.Mem.tail _ (List.Mem.tail _ (List.Mem.head _))))), (List.forall_mem_cons.mpr ⟨(List.Mem.tail _ (List.Mem.tail _ (List.Mem.tail _ (List.Mem.tail _ (List.Mem.tail _ (List.Mem.head _)))))), (List.forall_mem_cons.mpr ⟨(List.Mem.tail _ (List.Mem.tail _ (List.Mem.tail _ (List.Mem.tail _ (List.Mem.tail _ (List.Mem.tail _ (List.Mem.head _))))))), (List.forall_mem_cons.mpr ⟨(List.Mem.tail _ (List.Mem.tail _ (List.Mem.tail _ (List.Mem.tail _ (List.Mem.tail _ (List.Mem.tail _ (List.Mem.tail _ (List.Mem.head _)))))))), (List.forall_mem_cons.mpr ⟨(List.Mem.tail _ (List.Mem.tail _ (List.Mem.head _))), (List.forall_mem_cons.mpr ⟨(List.Mem.tail _ (List.Mem.head _)), (List.forall_mem_cons.mpr ⟨(List.Mem.head _), (fun q h => absurd h List.not_mem_nil)⟩)⟩)⟩)⟩)⟩)⟩)⟩) ?_
              refine L98 ((8 - 0 : Int).toNat + 1) s41 x y z (iC s 36 (y).toNat) (iC s 37 (y).toNat) 0 Is41 Gs41 (by first | exact ⟨And.intro (p0.1) (p0.2), And.intro (p1.1) (p1.2), And.intro (p2.1) (p2.2), And.intro (b3.1) (b3.2), And.intro (b4.1) (b4.2), by decide, by decide⟩ | omega) (Nat.lt_succ_self _) ?_
              intro s48 x49 Is48 Fs48 hs48
              refine z_aload_n X (x := A 41) (show cdA 25 206 = some (.aload_n 0, 1, 0, 0, 0) from rfl) (List.Mem.head _) ?_
              refine s_getR X 41 (show cdA 25 207 = some (.getfield 29, 3, 2, 1, 0) from rfl) (by decide) rfl rfl ?_
              refine z_load_n X (x := x) (show cdA 25 210 = some (.iload_n 1, 1, 0, 0, 0) from rfl) (List.Mem.tail _ (List.Mem.head _)) ?_
              refine z_load_n X (x := y) (show cdA 25 211 = some (.iload_n 2, 1, 0, 0, 0) from rfl) (List.Mem.tail _ (List.Mem.tail _ (List.Mem.head _))) ?_
              refine z_callV X 25 (rm := rmN 28) (As := [.int (Int32.ofInt x), .int (Int32.ofInt y)]) (st := []) (show cdA 25 212 = some (.invokevirtual 138, 3, 28, 0, 0) from rfl) rfl (by decide) rfl (by rw [E.1, E.2.1, E.2.2.1]; exact c3_put_25 G Is48 (by first | exact ⟨hs48.1.1, hs48.1.2⟩ | omega) (by first | exact ⟨oq_ca54ea22 hs48.2.1.1, hs48.2.1.2⟩ | omega)) ⟨by rw [E.2.2.2]; exact (show (rmN 28).frames + 1 ≤ (rmN 25).frames by decide), by rw [E.2.2.2]; exact (show 8 + (mNL (miB 28) + 11) + (rmN 28).locals ≤ (rmN 25).locals by decide), by rw [E.2.2.2]; exact (show 0 + (rmN 28).cells ≤ (rmN 25).cells by decide), by rw [E.2.2.2]; exact (show 0 + (rmN 28).slots ≤ (rmN 25).slots by decide)⟩ (Nat.le_of_ble_eq_true rfl) (fun vv s50 hq => ?_) (fun ee s50 hq => ?_)
              rotate_left
              · obtain ⟨Is50, Fs50, e51, hv, hrs50, hps50⟩ := hq; cases hv
              obtain ⟨Is50, Fs50, e51, hv, hrs50, hps50⟩ := hq
              cases hv
              have Gs50 := fm_ts Fs48 Fs50 (by decide) (by decide)
              show WS k 215 [(0, .ref (A 41)), (1, .int (Int32.ofInt x)), (2, .int (Int32.ofInt y)), (3, .int (Int32.ofInt z)), (5, .int (Int32.ofInt (iC s 36 (y).toNat))), (6, .int (Int32.ofInt (iC s 37 (y).toNat))), (7, .int (Int32.ofInt x49))] [.int (Int32.ofInt e51)] (Wd A dT s50) 0 0
              refine w_pop X.1 (ax_d X (show cdA 25 215 = some (.pop, 1, 0, 0, 0) from rfl)) rfl ?_
              refine z_aload_n X (x := A 41) (show cdA 25 216 = some (.aload_n 0, 1, 0, 0, 0) from rfl) (List.Mem.head _) ?_
              refine s_getR X 41 (show cdA 25 217 = some (.getfield 15, 3, 2, 4, 0) from rfl) (by decide) rfl rfl ?_
              refine z_load_n X (x := y) (show cdA 25 220 = some (.iload_n 2, 1, 0, 0, 0) from rfl) (List.Mem.tail _ (List.Mem.tail _ (List.Mem.head _))) ?_
              refine z_load X (x := (iC s 36 (y).toNat)) (show cdA 25 221 = some (.iload 5, 2, 0, 0, 0) from rfl) (List.Mem.tail _ (List.Mem.tail _ (List.Mem.tail _ (List.Mem.tail _ (List.Mem.head _))))) ?_
              refine z_ast X 43 (show cdA 25 223 = some (.iastore, 1, 0, 0, 0) from rfl) (by decide) rfl (by first | exact hs48.2.1.1 | omega) (show y < 8 by first | exact oq_aaea290e hs48.2.1.2 | omega) (by decide) ?_
              obtain ⟨s52, hs52⟩ : ∃ x0, x0 = uC s50 36 (y).toNat (Int32.ofInt (iC s 36 (y).toNat)) := ⟨_, rfl⟩
              rw [← hs52]
              have Is52 : Bd s52 := by rw [hs52]; exact bd_C Is50 (show ((-2147483648) : Int) ≤ (iC s 36 (y).toNat) ∧ (iC s 36 (y).toNat) ≤ 2147483647 by first | exact ⟨hs48.2.2.2.1.1, hs48.2.2.2.1.2⟩ | omega) (rng_to _)
              have Fs52 := fm_C (i := (y).toNat) (x := Int32.ofInt (iC s 36 (y).toNat)) Gs50 (show 36 ∈ _ by decide)
              rw [← hs52] at Fs52
              refine z_aload_n X (x := A 41) (show cdA 25 224 = some (.aload_n 0, 1, 0, 0, 0) from rfl) (List.Mem.head _) ?_
              refine s_getR X 41 (show cdA 25 225 = some (.getfield 19, 3, 2, 5, 0) from rfl) (by decide) rfl rfl ?_
              refine z_load_n X (x := y) (show cdA 25 228 = some (.iload_n 2, 1, 0, 0, 0) from rfl) (List.Mem.tail _ (List.Mem.tail _ (List.Mem.head _))) ?_
              refine z_load X (x := (iC s 37 (y).toNat)) (show cdA 25 229 = some (.iload 6, 2, 0, 0, 0) from rfl) (List.Mem.tail _ (List.Mem.tail _ (List.Mem.tail _ (List.Mem.tail _ (List.Mem.tail _ (List.Mem.head _)))))) ?_
              refine z_ast X 44 (show cdA 25 231 = some (.iastore, 1, 0, 0, 0) from rfl) (by decide) rfl (by first | exact hs48.2.1.1 | omega) (show y < 8 by first | exact oq_aaea290e hs48.2.1.2 | omega) (by decide) ?_
              obtain ⟨s53, hs53⟩ : ∃ x0, x0 = uC s52 37 (y).toNat (Int32.ofInt (iC s 37 (y).toNat)) := ⟨_, rfl⟩
              rw [← hs53]
              have Is53 : Bd s53 := by rw [hs53]; exact bd_C Is52 (show ((-2147483648) : Int) ≤ (iC s 37 (y).toNat) ∧ (iC s 37 (y).toNat) ≤ 2147483647 by first | exact ⟨hs48.2.2.2.2.1.1, hs48.2.2.2.2.1.2⟩ | omega) (rng_to _)
              have Fs53 := fm_C (i := (y).toNat) (x := Int32.ofInt (iC s 37 (y).toNat)) Fs52 (show 37 ∈ _ by decide)
              rw [← hs53] at Fs53
              exact w_vret X.1 q hRt (ax_d X (show cdA 25 232 = some (.return_, 1, 0, 0, 0) from rfl)) (Nat.zero_le _) (Nat.zero_le _) ⟨_, rfl, Is53, Fs53, rfl, trivial⟩
  ·
    refine z_aload_n X (x := A 41) (show cdA 25 9 = some (.aload_n 0, 1, 0, 0, 0) from rfl) (List.Mem.head _) ?_
    refine s_getR X 41 (show cdA 25 10 = some (.getfield 29, 3, 2, 1, 0) from rfl) (by decide) rfl rfl ?_
    refine z_load_n X (x := y) (show cdA 25 13 = some (.iload_n 2, 1, 0, 0, 0) from rfl) (List.Mem.tail _ (List.Mem.tail _ (List.Mem.head _))) ?_
    refine z_load_n X (x := x) (show cdA 25 14 = some (.iload_n 1, 1, 0, 0, 0) from rfl) (List.Mem.tail _ (List.Mem.head _)) ?_
    refine z_callV X 25 (rm := rmN 37) (As := [.int (Int32.ofInt y), .int (Int32.ofInt x)]) (st := []) (show cdA 25 15 = some (.invokevirtual 134, 3, 37, 0, 0) from rfl) rfl (by decide) rfl (by rw [E.1, E.2.1, E.2.2.1]; exact c3_hangsWithout_25 G I (by first | exact ⟨p1.1, p1.2⟩ | omega) (by first | exact ⟨p0.1, p0.2⟩ | omega)) ⟨by rw [E.2.2.2]; exact (show (rmN 37).frames + 1 ≤ (rmN 25).frames by decide), by rw [E.2.2.2]; exact (show 8 + (mNL (miB 37) + 11) + (rmN 37).locals ≤ (rmN 25).locals by decide), by rw [E.2.2.2]; exact (show 0 + (rmN 37).cells ≤ (rmN 25).cells by decide), by rw [E.2.2.2]; exact (show 0 + (rmN 37).slots ≤ (rmN 25).slots by decide)⟩ (Nat.le_of_ble_eq_true rfl) (fun vv s54 hq => ?_) (fun ee s54 hq => ?_)
    rotate_left
    · obtain ⟨Is54, Fs54, e55, hv, hrs54, hps54⟩ := hq; cases hv
    obtain ⟨Is54, Fs54, e55, hv, hrs54, hps54⟩ := hq
    cases hv
    have Gs54 := fm_ts F Fs54 (by decide) (by decide)
    show WS k 18 [(0, .ref (A 41)), (1, .int (Int32.ofInt x)), (2, .int (Int32.ofInt y)), (3, .int (Int32.ofInt z))] [.int (Int32.ofInt e55)] (Wd A dT s54) 0 0
    have N56 : ∀ e57 : Int, (((e55 ≠ 0) ∧ e57 = 0) ∨ ((e55 = 0) ∧ e57 = 1)) → WS k 26 [(0, .ref (A 41)), (1, .int (Int32.ofInt x)), (2, .int (Int32.ofInt y)), (3, .int (Int32.ofInt z))] [.int (Int32.ofInt e57)] (Wd A dT s54) 0 0 := by
      intro e57 he57
      have re57 : 0 ≤ e57 ∧ e57 ≤ 1 := by omega
      refine z_store X (lv' := [(4, .int (Int32.ofInt e57)), (0, .ref (A 41)), (1, .int (Int32.ofInt x)), (2, .int (Int32.ofInt y)), (3, .int (Int32.ofInt z))]) (show cdA 25 26 = some (.istore 4, 2, 0, 0, 0) from rfl) (by decide) (fun _ h => h) ?_
      refine z_aload_n X (x := A 41) (show cdA 25 28 = some (.aload_n 0, 1, 0, 0, 0) from rfl) (List.Mem.tail _ (List.Mem.head _)) ?_
      refine s_getR X 41 (show cdA 25 29 = some (.getfield 15, 3, 2, 4, 0) from rfl) (by decide) rfl rfl ?_
      refine z_load_n X (x := y) (show cdA 25 32 = some (.iload_n 2, 1, 0, 0, 0) from rfl) (List.Mem.tail _ (List.Mem.tail _ (List.Mem.tail _ (List.Mem.head _)))) ?_
      refine z_ald X 43 (show cdA 25 33 = some (.iaload, 1, 0, 0, 0) from rfl) (by decide) rfl (by first | exact p1.1 | omega) (show y < 8 by first | exact oq_aaea290e p1.2 | omega) (by decide) ?_
      have b58 : ((-2147483648) : Int) ≤ iC s54 36 (y).toNat ∧ iC s54 36 (y).toNat ≤ 2147483647 := Is54.2 36 _ (show (y).toNat < 8 by first | exact oq_c19a3aae p1.2 | omega)
      refine z_store X (lv' := [(5, .int (Int32.ofInt (iC s54 36 (y).toNat))), (4, .int (Int32.ofInt e57)), (0, .ref (A 41)), (1, .int (Int32.ofInt x)), (2, .int (Int32.ofInt y)), (3, .int (Int32.ofInt z))]) (show cdA 25 34 = some (.istore 5, 2, 0, 0, 0) from rfl) (by decide) (fun _ h => h) ?_
      refine z_aload_n X (x := A 41) (show cdA 25 36 = some (.aload_n 0, 1, 0, 0, 0) from rfl) (List.Mem.tail _ (List.Mem.tail _ (List.Mem.head _))) ?_
      refine s_getR X 41 (show cdA 25 37 = some (.getfield 19, 3, 2, 5, 0) from rfl) (by decide) rfl rfl ?_
      refine z_load_n X (x := y) (show cdA 25 40 = some (.iload_n 2, 1, 0, 0, 0) from rfl) (List.Mem.tail _ (List.Mem.tail _ (List.Mem.tail _ (List.Mem.tail _ (List.Mem.head _))))) ?_
      refine z_ald X 44 (show cdA 25 41 = some (.iaload, 1, 0, 0, 0) from rfl) (by decide) rfl (by first | exact p1.1 | omega) (show y < 8 by first | exact oq_aaea290e p1.2 | omega) (by decide) ?_
      have b59 : ((-2147483648) : Int) ≤ iC s54 37 (y).toNat ∧ iC s54 37 (y).toNat ≤ 2147483647 := Is54.2 37 _ (show (y).toNat < 8 by first | exact oq_c19a3aae p1.2 | omega)
      refine z_store X (lv' := [(6, .int (Int32.ofInt (iC s54 37 (y).toNat))), (5, .int (Int32.ofInt (iC s54 36 (y).toNat))), (4, .int (Int32.ofInt e57)), (0, .ref (A 41)), (1, .int (Int32.ofInt x)), (2, .int (Int32.ofInt y)), (3, .int (Int32.ofInt z))]) (show cdA 25 42 = some (.istore 6, 2, 0, 0, 0) from rfl) (by decide) (fun _ h => h) ?_
      refine z_aload_n X (x := A 41) (show cdA 25 44 = some (.aload_n 0, 1, 0, 0, 0) from rfl) (List.Mem.tail _ (List.Mem.tail _ (List.Mem.tail _ (List.Mem.head _)))) ?_
      refine s_getR X 41 (show cdA 25 45 = some (.getfield 29, 3, 2, 1, 0) from rfl) (by decide) rfl rfl ?_
      refine z_load_n X (x := x) (show cdA 25 48 = some (.iload_n 1, 1, 0, 0, 0) from rfl) (List.Mem.tail _ (List.Mem.tail _ (List.Mem.tail _ (List.Mem.tail _ (List.Mem.head _))))) ?_
      refine z_const X (show cdA 25 49 = some (.iconst (-1), 1, 0, 0, 0) from rfl) ?_
      refine z_callV X 25 (rm := rmN 28) (As := [.int (Int32.ofInt x), .int (Int32.ofInt (-1))]) (st := []) (show cdA 25 50 = some (.invokevirtual 138, 3, 28, 0, 0) from rfl) rfl (by decide) rfl (by rw [E.1, E.2.1, E.2.2.1]; exact c3_put_25 G Is54 (by first | exact ⟨p0.1, p0.2⟩ | omega) (by first | exact ⟨by decide, by decide⟩ | omega)) ⟨by rw [E.2.2.2]; exact (show (rmN 28).frames + 1 ≤ (rmN 25).frames by decide), by rw [E.2.2.2]; exact (show 8 + (mNL (miB 28) + 11) + (rmN 28).locals ≤ (rmN 25).locals by decide), by rw [E.2.2.2]; exact (show 0 + (rmN 28).cells ≤ (rmN 25).cells by decide), by rw [E.2.2.2]; exact (show 0 + (rmN 28).slots ≤ (rmN 25).slots by decide)⟩ (Nat.le_of_ble_eq_true rfl) (fun vv s60 hq => ?_) (fun ee s60 hq => ?_)
      rotate_left
      · obtain ⟨Is60, Fs60, e61, hv, hrs60, hps60⟩ := hq; cases hv
      obtain ⟨Is60, Fs60, e61, hv, hrs60, hps60⟩ := hq
      cases hv
      have Gs60 := fm_ts Gs54 Fs60 (by decide) (by decide)
      show WS k 53 [(6, .int (Int32.ofInt (iC s54 37 (y).toNat))), (5, .int (Int32.ofInt (iC s54 36 (y).toNat))), (4, .int (Int32.ofInt e57)), (0, .ref (A 41)), (1, .int (Int32.ofInt x)), (2, .int (Int32.ofInt y)), (3, .int (Int32.ofInt z))] [.int (Int32.ofInt e61)] (Wd A dT s60) 0 0
      refine w_pop X.1 (ax_d X (show cdA 25 53 = some (.pop, 1, 0, 0, 0) from rfl)) rfl ?_
      refine z_load X (x := e57) (show cdA 25 54 = some (.iload 4, 2, 0, 0, 0) from rfl) (List.Mem.tail _ (List.Mem.tail _ (List.Mem.head _))) ?_
      refine z_if_ne X (t := 206) (show cdA 25 56 = some (.ifCond .ne 150, 3, 1, 0, 0) from rfl) (by decide) ⟨by first | exact oq_fa4e5087 re57.1 | omega, by first | exact oq_22e1e6b0 re57.2 | omega⟩ (fun g62 => ?_) (fun g62 => ?_)
      ·
        refine z_aload_n X (x := A 41) (show cdA 25 206 = some (.aload_n 0, 1, 0, 0, 0) from rfl) (List.Mem.tail _ (List.Mem.tail _ (List.Mem.tail _ (List.Mem.head _)))) ?_
        refine s_getR X 41 (show cdA 25 207 = some (.getfield 29, 3, 2, 1, 0) from rfl) (by decide) rfl rfl ?_
        refine z_load_n X (x := x) (show cdA 25 210 = some (.iload_n 1, 1, 0, 0, 0) from rfl) (List.Mem.tail _ (List.Mem.tail _ (List.Mem.tail _ (List.Mem.tail _ (List.Mem.head _))))) ?_
        refine z_load_n X (x := y) (show cdA 25 211 = some (.iload_n 2, 1, 0, 0, 0) from rfl) (List.Mem.tail _ (List.Mem.tail _ (List.Mem.tail _ (List.Mem.tail _ (List.Mem.tail _ (List.Mem.head _)))))) ?_
        refine z_callV X 25 (rm := rmN 28) (As := [.int (Int32.ofInt x), .int (Int32.ofInt y)]) (st := []) (show cdA 25 212 = some (.invokevirtual 138, 3, 28, 0, 0) from rfl) rfl (by decide) rfl (by rw [E.1, E.2.1, E.2.2.1]; exact c3_put_25 G Is60 (by first | exact ⟨p0.1, p0.2⟩ | omega) (by first | exact ⟨oq_ca54ea22 p1.1, p1.2⟩ | omega)) ⟨by rw [E.2.2.2]; exact (show (rmN 28).frames + 1 ≤ (rmN 25).frames by decide), by rw [E.2.2.2]; exact (show 8 + (mNL (miB 28) + 11) + (rmN 28).locals ≤ (rmN 25).locals by decide), by rw [E.2.2.2]; exact (show 0 + (rmN 28).cells ≤ (rmN 25).cells by decide), by rw [E.2.2.2]; exact (show 0 + (rmN 28).slots ≤ (rmN 25).slots by decide)⟩ (Nat.le_of_ble_eq_true rfl) (fun vv s63 hq => ?_) (fun ee s63 hq => ?_)
        rotate_left
        · obtain ⟨Is63, Fs63, e64, hv, hrs63, hps63⟩ := hq; cases hv
        obtain ⟨Is63, Fs63, e64, hv, hrs63, hps63⟩ := hq
        cases hv
        have Gs63 := fm_ts Gs60 Fs63 (by decide) (by decide)
        show WS k 215 [(6, .int (Int32.ofInt (iC s54 37 (y).toNat))), (5, .int (Int32.ofInt (iC s54 36 (y).toNat))), (4, .int (Int32.ofInt e57)), (0, .ref (A 41)), (1, .int (Int32.ofInt x)), (2, .int (Int32.ofInt y)), (3, .int (Int32.ofInt z))] [.int (Int32.ofInt e64)] (Wd A dT s63) 0 0
        refine w_pop X.1 (ax_d X (show cdA 25 215 = some (.pop, 1, 0, 0, 0) from rfl)) rfl ?_
        refine z_aload_n X (x := A 41) (show cdA 25 216 = some (.aload_n 0, 1, 0, 0, 0) from rfl) (List.Mem.tail _ (List.Mem.tail _ (List.Mem.tail _ (List.Mem.head _)))) ?_
        refine s_getR X 41 (show cdA 25 217 = some (.getfield 15, 3, 2, 4, 0) from rfl) (by decide) rfl rfl ?_
        refine z_load_n X (x := y) (show cdA 25 220 = some (.iload_n 2, 1, 0, 0, 0) from rfl) (List.Mem.tail _ (List.Mem.tail _ (List.Mem.tail _ (List.Mem.tail _ (List.Mem.tail _ (List.Mem.head _)))))) ?_
        refine z_load X (x := (iC s54 36 (y).toNat)) (show cdA 25 221 = some (.iload 5, 2, 0, 0, 0) from rfl) (List.Mem.tail _ (List.Mem.head _)) ?_
        refine z_ast X 43 (show cdA 25 223 = some (.iastore, 1, 0, 0, 0) from rfl) (by decide) rfl (by first | exact p1.1 | omega) (show y < 8 by first | exact oq_aaea290e p1.2 | omega) (by decide) ?_
        obtain ⟨s65, hs65⟩ : ∃ x0, x0 = uC s63 36 (y).toNat (Int32.ofInt (iC s54 36 (y).toNat)) := ⟨_, rfl⟩
        rw [← hs65]
        have Is65 : Bd s65 := by rw [hs65]; exact bd_C Is63 (show ((-2147483648) : Int) ≤ (iC s54 36 (y).toNat) ∧ (iC s54 36 (y).toNat) ≤ 2147483647 by first | exact ⟨b58.1, b58.2⟩ | omega) (rng_to _)
        have Fs65 := fm_C (i := (y).toNat) (x := Int32.ofInt (iC s54 36 (y).toNat)) Gs63 (show 36 ∈ _ by decide)
        rw [← hs65] at Fs65
        refine z_aload_n X (x := A 41) (show cdA 25 224 = some (.aload_n 0, 1, 0, 0, 0) from rfl) (List.Mem.tail _ (List.Mem.tail _ (List.Mem.tail _ (List.Mem.head _)))) ?_
        refine s_getR X 41 (show cdA 25 225 = some (.getfield 19, 3, 2, 5, 0) from rfl) (by decide) rfl rfl ?_
        refine z_load_n X (x := y) (show cdA 25 228 = some (.iload_n 2, 1, 0, 0, 0) from rfl) (List.Mem.tail _ (List.Mem.tail _ (List.Mem.tail _ (List.Mem.tail _ (List.Mem.tail _ (List.Mem.head _)))))) ?_
        refine z_load X (x := (iC s54 37 (y).toNat)) (show cdA 25 229 = some (.iload 6, 2, 0, 0, 0) from rfl) (List.Mem.head _) ?_
        refine z_ast X 44 (show cdA 25 231 = some (.iastore, 1, 0, 0, 0) from rfl) (by decide) rfl (by first | exact p1.1 | omega) (show y < 8 by first | exact oq_aaea290e p1.2 | omega) (by decide) ?_
        obtain ⟨s66, hs66⟩ : ∃ x0, x0 = uC s65 37 (y).toNat (Int32.ofInt (iC s54 37 (y).toNat)) := ⟨_, rfl⟩
        rw [← hs66]
        have Is66 : Bd s66 := by rw [hs66]; exact bd_C Is65 (show ((-2147483648) : Int) ≤ (iC s54 37 (y).toNat) ∧ (iC s54 37 (y).toNat) ≤ 2147483647 by first | exact ⟨b59.1, b59.2⟩ | omega) (rng_to _)
        have Fs66 := fm_C (i := (y).toNat) (x := Int32.ofInt (iC s54 37 (y).toNat)) Fs65 (show 37 ∈ _ by decide)
        rw [← hs66] at Fs66
        exact w_vret X.1 q hRt (ax_d X (show cdA 25 232 = some (.return_, 1, 0, 0, 0) from rfl)) (Nat.zero_le _) (Nat.zero_le _) ⟨_, rfl, Is66, Fs66, rfl, trivial⟩
      ·
        refine z_aload_n X (x := A 41) (show cdA 25 59 = some (.aload_n 0, 1, 0, 0, 0) from rfl) (List.Mem.tail _ (List.Mem.tail _ (List.Mem.tail _ (List.Mem.head _)))) ?_
        refine s_getR X 41 (show cdA 25 60 = some (.getfield 29, 3, 2, 1, 0) from rfl) (by decide) rfl rfl ?_
        refine z_load_n X (x := y) (show cdA 25 63 = some (.iload_n 2, 1, 0, 0, 0) from rfl) (List.Mem.tail _ (List.Mem.tail _ (List.Mem.tail _ (List.Mem.tail _ (List.Mem.tail _ (List.Mem.head _)))))) ?_
        refine z_callV X 25 (rm := rmN 30) (As := [.int (Int32.ofInt y)]) (st := []) (show cdA 25 64 = some (.invokevirtual 67, 3, 30, 0, 0) from rfl) rfl (by decide) rfl (by rw [E.1, E.2.1, E.2.2.1]; exact c3_hasCells_25 G Is60 (by first | exact ⟨p1.1, p1.2⟩ | omega)) ⟨by rw [E.2.2.2]; exact (show (rmN 30).frames + 1 ≤ (rmN 25).frames by decide), by rw [E.2.2.2]; exact (show 8 + (mNL (miB 30) + 11) + (rmN 30).locals ≤ (rmN 25).locals by decide), by rw [E.2.2.2]; exact (show 0 + (rmN 30).cells ≤ (rmN 25).cells by decide), by rw [E.2.2.2]; exact (show 0 + (rmN 30).slots ≤ (rmN 25).slots by decide)⟩ (Nat.le_of_ble_eq_true rfl) (fun vv s67 hq => ?_) (fun ee s67 hq => ?_)
        rotate_left
        · obtain ⟨Is67, Fs67, e68, hv, hrs67, hps67⟩ := hq; cases hv
        obtain ⟨Is67, Fs67, e68, hv, hrs67, hps67⟩ := hq
        cases hv
        have Gs67 := fm_ts Gs60 Fs67 (by decide) (by decide)
        show WS k 67 [(6, .int (Int32.ofInt (iC s54 37 (y).toNat))), (5, .int (Int32.ofInt (iC s54 36 (y).toNat))), (4, .int (Int32.ofInt e57)), (0, .ref (A 41)), (1, .int (Int32.ofInt x)), (2, .int (Int32.ofInt y)), (3, .int (Int32.ofInt z))] [.int (Int32.ofInt e68)] (Wd A dT s67) 0 0
        refine z_if_eq X (t := 206) (show cdA 25 67 = some (.ifCond .eq 139, 3, 0, 0, 0) from rfl) (by decide) hrs67 (fun g69 => ?_) (fun g69 => ?_)
        ·
          refine z_aload_n X (x := A 41) (show cdA 25 206 = some (.aload_n 0, 1, 0, 0, 0) from rfl) (List.Mem.tail _ (List.Mem.tail _ (List.Mem.tail _ (List.Mem.head _)))) ?_
          refine s_getR X 41 (show cdA 25 207 = some (.getfield 29, 3, 2, 1, 0) from rfl) (by decide) rfl rfl ?_
          refine z_load_n X (x := x) (show cdA 25 210 = some (.iload_n 1, 1, 0, 0, 0) from rfl) (List.Mem.tail _ (List.Mem.tail _ (List.Mem.tail _ (List.Mem.tail _ (List.Mem.head _))))) ?_
          refine z_load_n X (x := y) (show cdA 25 211 = some (.iload_n 2, 1, 0, 0, 0) from rfl) (List.Mem.tail _ (List.Mem.tail _ (List.Mem.tail _ (List.Mem.tail _ (List.Mem.tail _ (List.Mem.head _)))))) ?_
          refine z_callV X 25 (rm := rmN 28) (As := [.int (Int32.ofInt x), .int (Int32.ofInt y)]) (st := []) (show cdA 25 212 = some (.invokevirtual 138, 3, 28, 0, 0) from rfl) rfl (by decide) rfl (by rw [E.1, E.2.1, E.2.2.1]; exact c3_put_25 G Is67 (by first | exact ⟨p0.1, p0.2⟩ | omega) (by first | exact ⟨oq_ca54ea22 p1.1, p1.2⟩ | omega)) ⟨by rw [E.2.2.2]; exact (show (rmN 28).frames + 1 ≤ (rmN 25).frames by decide), by rw [E.2.2.2]; exact (show 8 + (mNL (miB 28) + 11) + (rmN 28).locals ≤ (rmN 25).locals by decide), by rw [E.2.2.2]; exact (show 0 + (rmN 28).cells ≤ (rmN 25).cells by decide), by rw [E.2.2.2]; exact (show 0 + (rmN 28).slots ≤ (rmN 25).slots by decide)⟩ (Nat.le_of_ble_eq_true rfl) (fun vv s70 hq => ?_) (fun ee s70 hq => ?_)
          rotate_left
          · obtain ⟨Is70, Fs70, e71, hv, hrs70, hps70⟩ := hq; cases hv
          obtain ⟨Is70, Fs70, e71, hv, hrs70, hps70⟩ := hq
          cases hv
          have Gs70 := fm_ts Gs67 Fs70 (by decide) (by decide)
          show WS k 215 [(6, .int (Int32.ofInt (iC s54 37 (y).toNat))), (5, .int (Int32.ofInt (iC s54 36 (y).toNat))), (4, .int (Int32.ofInt e57)), (0, .ref (A 41)), (1, .int (Int32.ofInt x)), (2, .int (Int32.ofInt y)), (3, .int (Int32.ofInt z))] [.int (Int32.ofInt e71)] (Wd A dT s70) 0 0
          refine w_pop X.1 (ax_d X (show cdA 25 215 = some (.pop, 1, 0, 0, 0) from rfl)) rfl ?_
          refine z_aload_n X (x := A 41) (show cdA 25 216 = some (.aload_n 0, 1, 0, 0, 0) from rfl) (List.Mem.tail _ (List.Mem.tail _ (List.Mem.tail _ (List.Mem.head _)))) ?_
          refine s_getR X 41 (show cdA 25 217 = some (.getfield 15, 3, 2, 4, 0) from rfl) (by decide) rfl rfl ?_
          refine z_load_n X (x := y) (show cdA 25 220 = some (.iload_n 2, 1, 0, 0, 0) from rfl) (List.Mem.tail _ (List.Mem.tail _ (List.Mem.tail _ (List.Mem.tail _ (List.Mem.tail _ (List.Mem.head _)))))) ?_
          refine z_load X (x := (iC s54 36 (y).toNat)) (show cdA 25 221 = some (.iload 5, 2, 0, 0, 0) from rfl) (List.Mem.tail _ (List.Mem.head _)) ?_
          refine z_ast X 43 (show cdA 25 223 = some (.iastore, 1, 0, 0, 0) from rfl) (by decide) rfl (by first | exact p1.1 | omega) (show y < 8 by first | exact oq_aaea290e p1.2 | omega) (by decide) ?_
          obtain ⟨s72, hs72⟩ : ∃ x0, x0 = uC s70 36 (y).toNat (Int32.ofInt (iC s54 36 (y).toNat)) := ⟨_, rfl⟩
          rw [← hs72]
          have Is72 : Bd s72 := by rw [hs72]; exact bd_C Is70 (show ((-2147483648) : Int) ≤ (iC s54 36 (y).toNat) ∧ (iC s54 36 (y).toNat) ≤ 2147483647 by first | exact ⟨b58.1, b58.2⟩ | omega) (rng_to _)
          have Fs72 := fm_C (i := (y).toNat) (x := Int32.ofInt (iC s54 36 (y).toNat)) Gs70 (show 36 ∈ _ by decide)
          rw [← hs72] at Fs72
          refine z_aload_n X (x := A 41) (show cdA 25 224 = some (.aload_n 0, 1, 0, 0, 0) from rfl) (List.Mem.tail _ (List.Mem.tail _ (List.Mem.tail _ (List.Mem.head _)))) ?_
          refine s_getR X 41 (show cdA 25 225 = some (.getfield 19, 3, 2, 5, 0) from rfl) (by decide) rfl rfl ?_
          refine z_load_n X (x := y) (show cdA 25 228 = some (.iload_n 2, 1, 0, 0, 0) from rfl) (List.Mem.tail _ (List.Mem.tail _ (List.Mem.tail _ (List.Mem.tail _ (List.Mem.tail _ (List.Mem.head _)))))) ?_
          refine z_load X (x := (iC s54 37 (y).toNat)) (show cdA 25 229 = some (.iload 6, 2, 0, 0, 0) from rfl) (List.Mem.head _) ?_
          refine z_ast X 44 (show cdA 25 231 = some (.iastore, 1, 0, 0, 0) from rfl) (by decide) rfl (by first | exact p1.1 | omega) (show y < 8 by first | exact oq_aaea290e p1.2 | omega) (by decide) ?_
          obtain ⟨s73, hs73⟩ : ∃ x0, x0 = uC s72 37 (y).toNat (Int32.ofInt (iC s54 37 (y).toNat)) := ⟨_, rfl⟩
          rw [← hs73]
          have Is73 : Bd s73 := by rw [hs73]; exact bd_C Is72 (show ((-2147483648) : Int) ≤ (iC s54 37 (y).toNat) ∧ (iC s54 37 (y).toNat) ≤ 2147483647 by first | exact ⟨b59.1, b59.2⟩ | omega) (rng_to _)
          have Fs73 := fm_C (i := (y).toNat) (x := Int32.ofInt (iC s54 37 (y).toNat)) Fs72 (show 37 ∈ _ by decide)
          rw [← hs73] at Fs73
          exact w_vret X.1 q hRt (ax_d X (show cdA 25 232 = some (.return_, 1, 0, 0, 0) from rfl)) (Nat.zero_le _) (Nat.zero_le _) ⟨_, rfl, Is73, Fs73, rfl, trivial⟩
        ·
          refine z_aload_n X (x := A 41) (show cdA 25 70 = some (.aload_n 0, 1, 0, 0, 0) from rfl) (List.Mem.tail _ (List.Mem.tail _ (List.Mem.tail _ (List.Mem.head _)))) ?_
          refine s_getR X 41 (show cdA 25 71 = some (.getfield 22, 3, 2, 6, 0) from rfl) (by decide) rfl rfl ?_
          refine z_load_n X (x := y) (show cdA 25 74 = some (.iload_n 2, 1, 0, 0, 0) from rfl) (List.Mem.tail _ (List.Mem.tail _ (List.Mem.tail _ (List.Mem.tail _ (List.Mem.tail _ (List.Mem.head _)))))) ?_
          refine z_zald X 45 (show cdA 25 75 = some (.baload, 1, 0, 0, 0) from rfl) (by decide) rfl (by first | exact p1.1 | omega) (show y < 8 by first | exact oq_aaea290e p1.2 | omega) (by decide) ?_
          have b74 : (0 : Int) ≤ iC s67 38 (y).toNat ∧ iC s67 38 (y).toNat ≤ 1 := Is67.2 38 _ (show (y).toNat < 8 by first | exact oq_c19a3aae p1.2 | omega)
          refine z_if_ne X (t := 87) (show cdA 25 76 = some (.ifCond .ne 11, 3, 1, 0, 0) from rfl) (by decide) (rng_to _) (fun g75 => ?_) (fun g75 => ?_)
          ·
            refine z_aload_n X (x := A 41) (show cdA 25 87 = some (.aload_n 0, 1, 0, 0, 0) from rfl) (List.Mem.tail _ (List.Mem.tail _ (List.Mem.tail _ (List.Mem.head _)))) ?_
            refine z_load_n X (x := y) (show cdA 25 88 = some (.iload_n 2, 1, 0, 0, 0) from rfl) (List.Mem.tail _ (List.Mem.tail _ (List.Mem.tail _ (List.Mem.tail _ (List.Mem.tail _ (List.Mem.head _)))))) ?_
            refine z_callV X 41 (rm := rmN 21) (As := [.int (Int32.ofInt y)]) (st := []) (show cdA 25 89 = some (.invokevirtual 70, 3, 21, 0, 0) from rfl) rfl (by decide) rfl (by rw [E.1, E.2.1, E.2.2.1]; exact c2_weigh_41 G Is67 (by first | exact ⟨p1.1, p1.2⟩ | omega)) ⟨by rw [E.2.2.2]; exact (show (rmN 21).frames + 1 ≤ (rmN 25).frames by decide), by rw [E.2.2.2]; exact (show 8 + (mNL (miB 21) + 11) + (rmN 21).locals ≤ (rmN 25).locals by decide), by rw [E.2.2.2]; exact (show 0 + (rmN 21).cells ≤ (rmN 25).cells by decide), by rw [E.2.2.2]; exact (show 0 + (rmN 21).slots ≤ (rmN 25).slots by decide)⟩ (Nat.le_of_ble_eq_true rfl) (fun vv s76 hq => ?_) (fun ee s76 hq => ?_)
            rotate_left
            · obtain ⟨Is76, Fs76, e77, hv, hrs76, hps76⟩ := hq; cases hv
            obtain ⟨Is76, Fs76, e77, hv, hrs76, hps76⟩ := hq
            cases hv
            have Gs76 := fm_ts Gs67 Fs76 (by decide) (by decide)
            show WS k 92 [(6, .int (Int32.ofInt (iC s54 37 (y).toNat))), (5, .int (Int32.ofInt (iC s54 36 (y).toNat))), (4, .int (Int32.ofInt e57)), (0, .ref (A 41)), (1, .int (Int32.ofInt x)), (2, .int (Int32.ofInt y)), (3, .int (Int32.ofInt z))] [.int (Int32.ofInt e77)] (Wd A dT s76) 0 0
            refine z_if_eq X (t := 206) (show cdA 25 92 = some (.ifCond .eq 114, 3, 0, 0, 0) from rfl) (by decide) hrs76 (fun g78 => ?_) (fun g78 => ?_)
            ·
              refine z_aload_n X (x := A 41) (show cdA 25 206 = some (.aload_n 0, 1, 0, 0, 0) from rfl) (List.Mem.tail _ (List.Mem.tail _ (List.Mem.tail _ (List.Mem.head _)))) ?_
              refine s_getR X 41 (show cdA 25 207 = some (.getfield 29, 3, 2, 1, 0) from rfl) (by decide) rfl rfl ?_
              refine z_load_n X (x := x) (show cdA 25 210 = some (.iload_n 1, 1, 0, 0, 0) from rfl) (List.Mem.tail _ (List.Mem.tail _ (List.Mem.tail _ (List.Mem.tail _ (List.Mem.head _))))) ?_
              refine z_load_n X (x := y) (show cdA 25 211 = some (.iload_n 2, 1, 0, 0, 0) from rfl) (List.Mem.tail _ (List.Mem.tail _ (List.Mem.tail _ (List.Mem.tail _ (List.Mem.tail _ (List.Mem.head _)))))) ?_
              refine z_callV X 25 (rm := rmN 28) (As := [.int (Int32.ofInt x), .int (Int32.ofInt y)]) (st := []) (show cdA 25 212 = some (.invokevirtual 138, 3, 28, 0, 0) from rfl) rfl (by decide) rfl (by rw [E.1, E.2.1, E.2.2.1]; exact c3_put_25 G Is76 (by first | exact ⟨p0.1, p0.2⟩ | omega) (by first | exact ⟨oq_ca54ea22 p1.1, p1.2⟩ | omega)) ⟨by rw [E.2.2.2]; exact (show (rmN 28).frames + 1 ≤ (rmN 25).frames by decide), by rw [E.2.2.2]; exact (show 8 + (mNL (miB 28) + 11) + (rmN 28).locals ≤ (rmN 25).locals by decide), by rw [E.2.2.2]; exact (show 0 + (rmN 28).cells ≤ (rmN 25).cells by decide), by rw [E.2.2.2]; exact (show 0 + (rmN 28).slots ≤ (rmN 25).slots by decide)⟩ (Nat.le_of_ble_eq_true rfl) (fun vv s79 hq => ?_) (fun ee s79 hq => ?_)
              rotate_left
              · obtain ⟨Is79, Fs79, e80, hv, hrs79, hps79⟩ := hq; cases hv
              obtain ⟨Is79, Fs79, e80, hv, hrs79, hps79⟩ := hq
              cases hv
              have Gs79 := fm_ts Gs76 Fs79 (by decide) (by decide)
              show WS k 215 [(6, .int (Int32.ofInt (iC s54 37 (y).toNat))), (5, .int (Int32.ofInt (iC s54 36 (y).toNat))), (4, .int (Int32.ofInt e57)), (0, .ref (A 41)), (1, .int (Int32.ofInt x)), (2, .int (Int32.ofInt y)), (3, .int (Int32.ofInt z))] [.int (Int32.ofInt e80)] (Wd A dT s79) 0 0
              refine w_pop X.1 (ax_d X (show cdA 25 215 = some (.pop, 1, 0, 0, 0) from rfl)) rfl ?_
              refine z_aload_n X (x := A 41) (show cdA 25 216 = some (.aload_n 0, 1, 0, 0, 0) from rfl) (List.Mem.tail _ (List.Mem.tail _ (List.Mem.tail _ (List.Mem.head _)))) ?_
              refine s_getR X 41 (show cdA 25 217 = some (.getfield 15, 3, 2, 4, 0) from rfl) (by decide) rfl rfl ?_
              refine z_load_n X (x := y) (show cdA 25 220 = some (.iload_n 2, 1, 0, 0, 0) from rfl) (List.Mem.tail _ (List.Mem.tail _ (List.Mem.tail _ (List.Mem.tail _ (List.Mem.tail _ (List.Mem.head _)))))) ?_
              refine z_load X (x := (iC s54 36 (y).toNat)) (show cdA 25 221 = some (.iload 5, 2, 0, 0, 0) from rfl) (List.Mem.tail _ (List.Mem.head _)) ?_
              refine z_ast X 43 (show cdA 25 223 = some (.iastore, 1, 0, 0, 0) from rfl) (by decide) rfl (by first | exact p1.1 | omega) (show y < 8 by first | exact oq_aaea290e p1.2 | omega) (by decide) ?_
              obtain ⟨s81, hs81⟩ : ∃ x0, x0 = uC s79 36 (y).toNat (Int32.ofInt (iC s54 36 (y).toNat)) := ⟨_, rfl⟩
              rw [← hs81]
              have Is81 : Bd s81 := by rw [hs81]; exact bd_C Is79 (show ((-2147483648) : Int) ≤ (iC s54 36 (y).toNat) ∧ (iC s54 36 (y).toNat) ≤ 2147483647 by first | exact ⟨b58.1, b58.2⟩ | omega) (rng_to _)
              have Fs81 := fm_C (i := (y).toNat) (x := Int32.ofInt (iC s54 36 (y).toNat)) Gs79 (show 36 ∈ _ by decide)
              rw [← hs81] at Fs81
              refine z_aload_n X (x := A 41) (show cdA 25 224 = some (.aload_n 0, 1, 0, 0, 0) from rfl) (List.Mem.tail _ (List.Mem.tail _ (List.Mem.tail _ (List.Mem.head _)))) ?_
              refine s_getR X 41 (show cdA 25 225 = some (.getfield 19, 3, 2, 5, 0) from rfl) (by decide) rfl rfl ?_
              refine z_load_n X (x := y) (show cdA 25 228 = some (.iload_n 2, 1, 0, 0, 0) from rfl) (List.Mem.tail _ (List.Mem.tail _ (List.Mem.tail _ (List.Mem.tail _ (List.Mem.tail _ (List.Mem.head _)))))) ?_
              refine z_load X (x := (iC s54 37 (y).toNat)) (show cdA 25 229 = some (.iload 6, 2, 0, 0, 0) from rfl) (List.Mem.head _) ?_
              refine z_ast X 44 (show cdA 25 231 = some (.iastore, 1, 0, 0, 0) from rfl) (by decide) rfl (by first | exact p1.1 | omega) (show y < 8 by first | exact oq_aaea290e p1.2 | omega) (by decide) ?_
              obtain ⟨s82, hs82⟩ : ∃ x0, x0 = uC s81 37 (y).toNat (Int32.ofInt (iC s54 37 (y).toNat)) := ⟨_, rfl⟩
              rw [← hs82]
              have Is82 : Bd s82 := by rw [hs82]; exact bd_C Is81 (show ((-2147483648) : Int) ≤ (iC s54 37 (y).toNat) ∧ (iC s54 37 (y).toNat) ≤ 2147483647 by first | exact ⟨b59.1, b59.2⟩ | omega) (rng_to _)
              have Fs82 := fm_C (i := (y).toNat) (x := Int32.ofInt (iC s54 37 (y).toNat)) Fs81 (show 37 ∈ _ by decide)
              rw [← hs82] at Fs82
              exact w_vret X.1 q hRt (ax_d X (show cdA 25 232 = some (.return_, 1, 0, 0, 0) from rfl)) (Nat.zero_le _) (Nat.zero_le _) ⟨_, rfl, Is82, Fs82, rfl, trivial⟩
            ·
              refine z_const X (show cdA 25 95 = some (.iconst 0, 1, 0, 0, 0) from rfl) ?_
              refine z_store X (lv' := [(7, .int (Int32.ofInt 0)), (6, .int (Int32.ofInt (iC s54 37 (y).toNat))), (5, .int (Int32.ofInt (iC s54 36 (y).toNat))), (4, .int (Int32.ofInt e57)), (0, .ref (A 41)), (1, .int (Int32.ofInt x)), (2, .int (Int32.ofInt y)), (3, .int (Int32.ofInt z))]) (show cdA 25 96 = some (.istore 7, 2, 0, 0, 0) from rfl) (by decide) (fun _ h => h) ?_
              refine WS_lv (lv := [(0, .ref (A 41)), (1, .int (Int32.ofInt x)), (2, .int (Int32.ofInt y)), (3, .int (Int32.ofInt z)), (5, .int (Int32.ofInt (iC s54 36 (y).toNat))), (6, .int (Int32.ofInt (iC s54 37 (y).toNat))), (7, .int (Int32.ofInt 0))]) (List.forall_mem_cons.mpr ⟨(List.Mem.tail _ (List.Mem.tail _ (List.Mem.tail _ (List.Mem.tail _ (List.Mem.head _))))), (List.forall_mem_cons.mpr ⟨(List.Mem.tail _ (List.Mem.tail _ (List.Mem.tail _ (List.Mem.tail _ (List.Mem.tail _ (List.Mem.head _)))))), (List.forall_mem_cons.mpr ⟨(List.Mem.tail _ (List.Mem.tail _ (List.Mem.tail _ (List.Mem.tail _ (List.Mem.tail _ (List.Mem.tail _ (List.Mem.head _))))))), (List.forall_mem_cons.mpr ⟨(List.Mem.tail _ (List.Mem.tail _ (List.Mem.tail _ (List.Mem.tail _ (List.Mem.tail _ (List.Mem.tail _ (List.Mem.tail _ (List.Mem.head _)))))))), (List.forall_mem_cons.mpr ⟨(List.Mem.tail _ (List.Mem.tail _ (List.Mem.head _))), (List.forall_mem_cons.mpr ⟨(List.Mem.tail _ (List.Mem.head _)), (List.forall_mem_cons.mpr ⟨(List.Mem.head _), (fun q h => absurd h List.not_mem_nil)⟩)⟩)⟩)⟩)⟩)⟩)⟩) ?_
              refine L98 ((8 - 0 : Int).toNat + 1) s76 x y z (iC s54 36 (y).toNat) (iC s54 37 (y).toNat) 0 Is76 Gs76 (by first | exact ⟨And.intro (p0.1) (p0.2), And.intro (p1.1) (p1.2), And.intro (p2.1) (p2.2), And.intro (b58.1) (b58.2), And.intro (b59.1) (b59.2), by decide, by decide⟩ | omega) (Nat.lt_succ_self _) ?_
              intro s83 x84 Is83 Fs83 hs83
              refine z_aload_n X (x := A 41) (show cdA 25 206 = some (.aload_n 0, 1, 0, 0, 0) from rfl) (List.Mem.head _) ?_
              refine s_getR X 41 (show cdA 25 207 = some (.getfield 29, 3, 2, 1, 0) from rfl) (by decide) rfl rfl ?_
              refine z_load_n X (x := x) (show cdA 25 210 = some (.iload_n 1, 1, 0, 0, 0) from rfl) (List.Mem.tail _ (List.Mem.head _)) ?_
              refine z_load_n X (x := y) (show cdA 25 211 = some (.iload_n 2, 1, 0, 0, 0) from rfl) (List.Mem.tail _ (List.Mem.tail _ (List.Mem.head _))) ?_
              refine z_callV X 25 (rm := rmN 28) (As := [.int (Int32.ofInt x), .int (Int32.ofInt y)]) (st := []) (show cdA 25 212 = some (.invokevirtual 138, 3, 28, 0, 0) from rfl) rfl (by decide) rfl (by rw [E.1, E.2.1, E.2.2.1]; exact c3_put_25 G Is83 (by first | exact ⟨hs83.1.1, hs83.1.2⟩ | omega) (by first | exact ⟨oq_ca54ea22 hs83.2.1.1, hs83.2.1.2⟩ | omega)) ⟨by rw [E.2.2.2]; exact (show (rmN 28).frames + 1 ≤ (rmN 25).frames by decide), by rw [E.2.2.2]; exact (show 8 + (mNL (miB 28) + 11) + (rmN 28).locals ≤ (rmN 25).locals by decide), by rw [E.2.2.2]; exact (show 0 + (rmN 28).cells ≤ (rmN 25).cells by decide), by rw [E.2.2.2]; exact (show 0 + (rmN 28).slots ≤ (rmN 25).slots by decide)⟩ (Nat.le_of_ble_eq_true rfl) (fun vv s85 hq => ?_) (fun ee s85 hq => ?_)
              rotate_left
              · obtain ⟨Is85, Fs85, e86, hv, hrs85, hps85⟩ := hq; cases hv
              obtain ⟨Is85, Fs85, e86, hv, hrs85, hps85⟩ := hq
              cases hv
              have Gs85 := fm_ts Fs83 Fs85 (by decide) (by decide)
              show WS k 215 [(0, .ref (A 41)), (1, .int (Int32.ofInt x)), (2, .int (Int32.ofInt y)), (3, .int (Int32.ofInt z)), (5, .int (Int32.ofInt (iC s54 36 (y).toNat))), (6, .int (Int32.ofInt (iC s54 37 (y).toNat))), (7, .int (Int32.ofInt x84))] [.int (Int32.ofInt e86)] (Wd A dT s85) 0 0
              refine w_pop X.1 (ax_d X (show cdA 25 215 = some (.pop, 1, 0, 0, 0) from rfl)) rfl ?_
              refine z_aload_n X (x := A 41) (show cdA 25 216 = some (.aload_n 0, 1, 0, 0, 0) from rfl) (List.Mem.head _) ?_
              refine s_getR X 41 (show cdA 25 217 = some (.getfield 15, 3, 2, 4, 0) from rfl) (by decide) rfl rfl ?_
              refine z_load_n X (x := y) (show cdA 25 220 = some (.iload_n 2, 1, 0, 0, 0) from rfl) (List.Mem.tail _ (List.Mem.tail _ (List.Mem.head _))) ?_
              refine z_load X (x := (iC s54 36 (y).toNat)) (show cdA 25 221 = some (.iload 5, 2, 0, 0, 0) from rfl) (List.Mem.tail _ (List.Mem.tail _ (List.Mem.tail _ (List.Mem.tail _ (List.Mem.head _))))) ?_
              refine z_ast X 43 (show cdA 25 223 = some (.iastore, 1, 0, 0, 0) from rfl) (by decide) rfl (by first | exact hs83.2.1.1 | omega) (show y < 8 by first | exact oq_aaea290e hs83.2.1.2 | omega) (by decide) ?_
              obtain ⟨s87, hs87⟩ : ∃ x0, x0 = uC s85 36 (y).toNat (Int32.ofInt (iC s54 36 (y).toNat)) := ⟨_, rfl⟩
              rw [← hs87]
              have Is87 : Bd s87 := by rw [hs87]; exact bd_C Is85 (show ((-2147483648) : Int) ≤ (iC s54 36 (y).toNat) ∧ (iC s54 36 (y).toNat) ≤ 2147483647 by first | exact ⟨hs83.2.2.2.1.1, hs83.2.2.2.1.2⟩ | omega) (rng_to _)
              have Fs87 := fm_C (i := (y).toNat) (x := Int32.ofInt (iC s54 36 (y).toNat)) Gs85 (show 36 ∈ _ by decide)
              rw [← hs87] at Fs87
              refine z_aload_n X (x := A 41) (show cdA 25 224 = some (.aload_n 0, 1, 0, 0, 0) from rfl) (List.Mem.head _) ?_
              refine s_getR X 41 (show cdA 25 225 = some (.getfield 19, 3, 2, 5, 0) from rfl) (by decide) rfl rfl ?_
              refine z_load_n X (x := y) (show cdA 25 228 = some (.iload_n 2, 1, 0, 0, 0) from rfl) (List.Mem.tail _ (List.Mem.tail _ (List.Mem.head _))) ?_
              refine z_load X (x := (iC s54 37 (y).toNat)) (show cdA 25 229 = some (.iload 6, 2, 0, 0, 0) from rfl) (List.Mem.tail _ (List.Mem.tail _ (List.Mem.tail _ (List.Mem.tail _ (List.Mem.tail _ (List.Mem.head _)))))) ?_
              refine z_ast X 44 (show cdA 25 231 = some (.iastore, 1, 0, 0, 0) from rfl) (by decide) rfl (by first | exact hs83.2.1.1 | omega) (show y < 8 by first | exact oq_aaea290e hs83.2.1.2 | omega) (by decide) ?_
              obtain ⟨s88, hs88⟩ : ∃ x0, x0 = uC s87 37 (y).toNat (Int32.ofInt (iC s54 37 (y).toNat)) := ⟨_, rfl⟩
              rw [← hs88]
              have Is88 : Bd s88 := by rw [hs88]; exact bd_C Is87 (show ((-2147483648) : Int) ≤ (iC s54 37 (y).toNat) ∧ (iC s54 37 (y).toNat) ≤ 2147483647 by first | exact ⟨hs83.2.2.2.2.1.1, hs83.2.2.2.2.1.2⟩ | omega) (rng_to _)
              have Fs88 := fm_C (i := (y).toNat) (x := Int32.ofInt (iC s54 37 (y).toNat)) Fs87 (show 37 ∈ _ by decide)
              rw [← hs88] at Fs88
              exact w_vret X.1 q hRt (ax_d X (show cdA 25 232 = some (.return_, 1, 0, 0, 0) from rfl)) (Nat.zero_le _) (Nat.zero_le _) ⟨_, rfl, Is88, Fs88, rfl, trivial⟩
          ·
            refine z_aload_n X (x := A 41) (show cdA 25 79 = some (.aload_n 0, 1, 0, 0, 0) from rfl) (List.Mem.tail _ (List.Mem.tail _ (List.Mem.tail _ (List.Mem.head _)))) ?_
            refine z_load_n X (x := y) (show cdA 25 80 = some (.iload_n 2, 1, 0, 0, 0) from rfl) (List.Mem.tail _ (List.Mem.tail _ (List.Mem.tail _ (List.Mem.tail _ (List.Mem.tail _ (List.Mem.head _)))))) ?_
            refine z_callV X 41 (rm := rmN 19) (As := [.int (Int32.ofInt y)]) (st := []) (show cdA 25 81 = some (.invokevirtual 37, 3, 19, 0, 0) from rfl) rfl (by decide) rfl (by rw [E.1, E.2.1, E.2.2.1]; exact c2_isWhole_41 G Is67 (by first | exact ⟨p1.1, p1.2⟩ | omega)) ⟨by rw [E.2.2.2]; exact (show (rmN 19).frames + 1 ≤ (rmN 25).frames by decide), by rw [E.2.2.2]; exact (show 8 + (mNL (miB 19) + 11) + (rmN 19).locals ≤ (rmN 25).locals by decide), by rw [E.2.2.2]; exact (show 0 + (rmN 19).cells ≤ (rmN 25).cells by decide), by rw [E.2.2.2]; exact (show 0 + (rmN 19).slots ≤ (rmN 25).slots by decide)⟩ (Nat.le_of_ble_eq_true rfl) (fun vv s89 hq => ?_) (fun ee s89 hq => ?_)
            rotate_left
            · obtain ⟨Is89, Fs89, e90, hv, hrs89, hps89⟩ := hq; cases hv
            obtain ⟨Is89, Fs89, e90, hv, hrs89, hps89⟩ := hq
            cases hv
            have Gs89 := fm_ts Gs67 Fs89 (by decide) (by decide)
            show WS k 84 [(6, .int (Int32.ofInt (iC s54 37 (y).toNat))), (5, .int (Int32.ofInt (iC s54 36 (y).toNat))), (4, .int (Int32.ofInt e57)), (0, .ref (A 41)), (1, .int (Int32.ofInt x)), (2, .int (Int32.ofInt y)), (3, .int (Int32.ofInt z))] [.int (Int32.ofInt e90)] (Wd A dT s89) 0 0
            refine z_if_eq X (t := 206) (show cdA 25 84 = some (.ifCond .eq 122, 3, 0, 0, 0) from rfl) (by decide) hrs89 (fun g91 => ?_) (fun g91 => ?_)
            ·
              refine z_aload_n X (x := A 41) (show cdA 25 206 = some (.aload_n 0, 1, 0, 0, 0) from rfl) (List.Mem.tail _ (List.Mem.tail _ (List.Mem.tail _ (List.Mem.head _)))) ?_
              refine s_getR X 41 (show cdA 25 207 = some (.getfield 29, 3, 2, 1, 0) from rfl) (by decide) rfl rfl ?_
              refine z_load_n X (x := x) (show cdA 25 210 = some (.iload_n 1, 1, 0, 0, 0) from rfl) (List.Mem.tail _ (List.Mem.tail _ (List.Mem.tail _ (List.Mem.tail _ (List.Mem.head _))))) ?_
              refine z_load_n X (x := y) (show cdA 25 211 = some (.iload_n 2, 1, 0, 0, 0) from rfl) (List.Mem.tail _ (List.Mem.tail _ (List.Mem.tail _ (List.Mem.tail _ (List.Mem.tail _ (List.Mem.head _)))))) ?_
              refine z_callV X 25 (rm := rmN 28) (As := [.int (Int32.ofInt x), .int (Int32.ofInt y)]) (st := []) (show cdA 25 212 = some (.invokevirtual 138, 3, 28, 0, 0) from rfl) rfl (by decide) rfl (by rw [E.1, E.2.1, E.2.2.1]; exact c3_put_25 G Is89 (by first | exact ⟨p0.1, p0.2⟩ | omega) (by first | exact ⟨oq_ca54ea22 p1.1, p1.2⟩ | omega)) ⟨by rw [E.2.2.2]; exact (show (rmN 28).frames + 1 ≤ (rmN 25).frames by decide), by rw [E.2.2.2]; exact (show 8 + (mNL (miB 28) + 11) + (rmN 28).locals ≤ (rmN 25).locals by decide), by rw [E.2.2.2]; exact (show 0 + (rmN 28).cells ≤ (rmN 25).cells by decide), by rw [E.2.2.2]; exact (show 0 + (rmN 28).slots ≤ (rmN 25).slots by decide)⟩ (Nat.le_of_ble_eq_true rfl) (fun vv s92 hq => ?_) (fun ee s92 hq => ?_)
              rotate_left
              · obtain ⟨Is92, Fs92, e93, hv, hrs92, hps92⟩ := hq; cases hv
              obtain ⟨Is92, Fs92, e93, hv, hrs92, hps92⟩ := hq
              cases hv
              have Gs92 := fm_ts Gs89 Fs92 (by decide) (by decide)
              show WS k 215 [(6, .int (Int32.ofInt (iC s54 37 (y).toNat))), (5, .int (Int32.ofInt (iC s54 36 (y).toNat))), (4, .int (Int32.ofInt e57)), (0, .ref (A 41)), (1, .int (Int32.ofInt x)), (2, .int (Int32.ofInt y)), (3, .int (Int32.ofInt z))] [.int (Int32.ofInt e93)] (Wd A dT s92) 0 0
              refine w_pop X.1 (ax_d X (show cdA 25 215 = some (.pop, 1, 0, 0, 0) from rfl)) rfl ?_
              refine z_aload_n X (x := A 41) (show cdA 25 216 = some (.aload_n 0, 1, 0, 0, 0) from rfl) (List.Mem.tail _ (List.Mem.tail _ (List.Mem.tail _ (List.Mem.head _)))) ?_
              refine s_getR X 41 (show cdA 25 217 = some (.getfield 15, 3, 2, 4, 0) from rfl) (by decide) rfl rfl ?_
              refine z_load_n X (x := y) (show cdA 25 220 = some (.iload_n 2, 1, 0, 0, 0) from rfl) (List.Mem.tail _ (List.Mem.tail _ (List.Mem.tail _ (List.Mem.tail _ (List.Mem.tail _ (List.Mem.head _)))))) ?_
              refine z_load X (x := (iC s54 36 (y).toNat)) (show cdA 25 221 = some (.iload 5, 2, 0, 0, 0) from rfl) (List.Mem.tail _ (List.Mem.head _)) ?_
              refine z_ast X 43 (show cdA 25 223 = some (.iastore, 1, 0, 0, 0) from rfl) (by decide) rfl (by first | exact p1.1 | omega) (show y < 8 by first | exact oq_aaea290e p1.2 | omega) (by decide) ?_
              obtain ⟨s94, hs94⟩ : ∃ x0, x0 = uC s92 36 (y).toNat (Int32.ofInt (iC s54 36 (y).toNat)) := ⟨_, rfl⟩
              rw [← hs94]
              have Is94 : Bd s94 := by rw [hs94]; exact bd_C Is92 (show ((-2147483648) : Int) ≤ (iC s54 36 (y).toNat) ∧ (iC s54 36 (y).toNat) ≤ 2147483647 by first | exact ⟨b58.1, b58.2⟩ | omega) (rng_to _)
              have Fs94 := fm_C (i := (y).toNat) (x := Int32.ofInt (iC s54 36 (y).toNat)) Gs92 (show 36 ∈ _ by decide)
              rw [← hs94] at Fs94
              refine z_aload_n X (x := A 41) (show cdA 25 224 = some (.aload_n 0, 1, 0, 0, 0) from rfl) (List.Mem.tail _ (List.Mem.tail _ (List.Mem.tail _ (List.Mem.head _)))) ?_
              refine s_getR X 41 (show cdA 25 225 = some (.getfield 19, 3, 2, 5, 0) from rfl) (by decide) rfl rfl ?_
              refine z_load_n X (x := y) (show cdA 25 228 = some (.iload_n 2, 1, 0, 0, 0) from rfl) (List.Mem.tail _ (List.Mem.tail _ (List.Mem.tail _ (List.Mem.tail _ (List.Mem.tail _ (List.Mem.head _)))))) ?_
              refine z_load X (x := (iC s54 37 (y).toNat)) (show cdA 25 229 = some (.iload 6, 2, 0, 0, 0) from rfl) (List.Mem.head _) ?_
              refine z_ast X 44 (show cdA 25 231 = some (.iastore, 1, 0, 0, 0) from rfl) (by decide) rfl (by first | exact p1.1 | omega) (show y < 8 by first | exact oq_aaea290e p1.2 | omega) (by decide) ?_
              obtain ⟨s95, hs95⟩ : ∃ x0, x0 = uC s94 37 (y).toNat (Int32.ofInt (iC s54 37 (y).toNat)) := ⟨_, rfl⟩
              rw [← hs95]
              have Is95 : Bd s95 := by rw [hs95]; exact bd_C Is94 (show ((-2147483648) : Int) ≤ (iC s54 37 (y).toNat) ∧ (iC s54 37 (y).toNat) ≤ 2147483647 by first | exact ⟨b59.1, b59.2⟩ | omega) (rng_to _)
              have Fs95 := fm_C (i := (y).toNat) (x := Int32.ofInt (iC s54 37 (y).toNat)) Fs94 (show 37 ∈ _ by decide)
              rw [← hs95] at Fs95
              exact w_vret X.1 q hRt (ax_d X (show cdA 25 232 = some (.return_, 1, 0, 0, 0) from rfl)) (Nat.zero_le _) (Nat.zero_le _) ⟨_, rfl, Is95, Fs95, rfl, trivial⟩
            ·
              refine z_aload_n X (x := A 41) (show cdA 25 87 = some (.aload_n 0, 1, 0, 0, 0) from rfl) (List.Mem.tail _ (List.Mem.tail _ (List.Mem.tail _ (List.Mem.head _)))) ?_
              refine z_load_n X (x := y) (show cdA 25 88 = some (.iload_n 2, 1, 0, 0, 0) from rfl) (List.Mem.tail _ (List.Mem.tail _ (List.Mem.tail _ (List.Mem.tail _ (List.Mem.tail _ (List.Mem.head _)))))) ?_
              refine z_callV X 41 (rm := rmN 21) (As := [.int (Int32.ofInt y)]) (st := []) (show cdA 25 89 = some (.invokevirtual 70, 3, 21, 0, 0) from rfl) rfl (by decide) rfl (by rw [E.1, E.2.1, E.2.2.1]; exact c2_weigh_41 G Is89 (by first | exact ⟨p1.1, p1.2⟩ | omega)) ⟨by rw [E.2.2.2]; exact (show (rmN 21).frames + 1 ≤ (rmN 25).frames by decide), by rw [E.2.2.2]; exact (show 8 + (mNL (miB 21) + 11) + (rmN 21).locals ≤ (rmN 25).locals by decide), by rw [E.2.2.2]; exact (show 0 + (rmN 21).cells ≤ (rmN 25).cells by decide), by rw [E.2.2.2]; exact (show 0 + (rmN 21).slots ≤ (rmN 25).slots by decide)⟩ (Nat.le_of_ble_eq_true rfl) (fun vv s96 hq => ?_) (fun ee s96 hq => ?_)
              rotate_left
              · obtain ⟨Is96, Fs96, e97, hv, hrs96, hps96⟩ := hq; cases hv
              obtain ⟨Is96, Fs96, e97, hv, hrs96, hps96⟩ := hq
              cases hv
              have Gs96 := fm_ts Gs89 Fs96 (by decide) (by decide)
              show WS k 92 [(6, .int (Int32.ofInt (iC s54 37 (y).toNat))), (5, .int (Int32.ofInt (iC s54 36 (y).toNat))), (4, .int (Int32.ofInt e57)), (0, .ref (A 41)), (1, .int (Int32.ofInt x)), (2, .int (Int32.ofInt y)), (3, .int (Int32.ofInt z))] [.int (Int32.ofInt e97)] (Wd A dT s96) 0 0
              refine z_if_eq X (t := 206) (show cdA 25 92 = some (.ifCond .eq 114, 3, 0, 0, 0) from rfl) (by decide) hrs96 (fun g98 => ?_) (fun g98 => ?_)
              ·
                refine z_aload_n X (x := A 41) (show cdA 25 206 = some (.aload_n 0, 1, 0, 0, 0) from rfl) (List.Mem.tail _ (List.Mem.tail _ (List.Mem.tail _ (List.Mem.head _)))) ?_
                refine s_getR X 41 (show cdA 25 207 = some (.getfield 29, 3, 2, 1, 0) from rfl) (by decide) rfl rfl ?_
                refine z_load_n X (x := x) (show cdA 25 210 = some (.iload_n 1, 1, 0, 0, 0) from rfl) (List.Mem.tail _ (List.Mem.tail _ (List.Mem.tail _ (List.Mem.tail _ (List.Mem.head _))))) ?_
                refine z_load_n X (x := y) (show cdA 25 211 = some (.iload_n 2, 1, 0, 0, 0) from rfl) (List.Mem.tail _ (List.Mem.tail _ (List.Mem.tail _ (List.Mem.tail _ (List.Mem.tail _ (List.Mem.head _)))))) ?_
                refine z_callV X 25 (rm := rmN 28) (As := [.int (Int32.ofInt x), .int (Int32.ofInt y)]) (st := []) (show cdA 25 212 = some (.invokevirtual 138, 3, 28, 0, 0) from rfl) rfl (by decide) rfl (by rw [E.1, E.2.1, E.2.2.1]; exact c3_put_25 G Is96 (by first | exact ⟨p0.1, p0.2⟩ | omega) (by first | exact ⟨oq_ca54ea22 p1.1, p1.2⟩ | omega)) ⟨by rw [E.2.2.2]; exact (show (rmN 28).frames + 1 ≤ (rmN 25).frames by decide), by rw [E.2.2.2]; exact (show 8 + (mNL (miB 28) + 11) + (rmN 28).locals ≤ (rmN 25).locals by decide), by rw [E.2.2.2]; exact (show 0 + (rmN 28).cells ≤ (rmN 25).cells by decide), by rw [E.2.2.2]; exact (show 0 + (rmN 28).slots ≤ (rmN 25).slots by decide)⟩ (Nat.le_of_ble_eq_true rfl) (fun vv s99 hq => ?_) (fun ee s99 hq => ?_)
                rotate_left
                · obtain ⟨Is99, Fs99, e100, hv, hrs99, hps99⟩ := hq; cases hv
                obtain ⟨Is99, Fs99, e100, hv, hrs99, hps99⟩ := hq
                cases hv
                have Gs99 := fm_ts Gs96 Fs99 (by decide) (by decide)
                show WS k 215 [(6, .int (Int32.ofInt (iC s54 37 (y).toNat))), (5, .int (Int32.ofInt (iC s54 36 (y).toNat))), (4, .int (Int32.ofInt e57)), (0, .ref (A 41)), (1, .int (Int32.ofInt x)), (2, .int (Int32.ofInt y)), (3, .int (Int32.ofInt z))] [.int (Int32.ofInt e100)] (Wd A dT s99) 0 0
                refine w_pop X.1 (ax_d X (show cdA 25 215 = some (.pop, 1, 0, 0, 0) from rfl)) rfl ?_
                refine z_aload_n X (x := A 41) (show cdA 25 216 = some (.aload_n 0, 1, 0, 0, 0) from rfl) (List.Mem.tail _ (List.Mem.tail _ (List.Mem.tail _ (List.Mem.head _)))) ?_
                refine s_getR X 41 (show cdA 25 217 = some (.getfield 15, 3, 2, 4, 0) from rfl) (by decide) rfl rfl ?_
                refine z_load_n X (x := y) (show cdA 25 220 = some (.iload_n 2, 1, 0, 0, 0) from rfl) (List.Mem.tail _ (List.Mem.tail _ (List.Mem.tail _ (List.Mem.tail _ (List.Mem.tail _ (List.Mem.head _)))))) ?_
                refine z_load X (x := (iC s54 36 (y).toNat)) (show cdA 25 221 = some (.iload 5, 2, 0, 0, 0) from rfl) (List.Mem.tail _ (List.Mem.head _)) ?_
                refine z_ast X 43 (show cdA 25 223 = some (.iastore, 1, 0, 0, 0) from rfl) (by decide) rfl (by first | exact p1.1 | omega) (show y < 8 by first | exact oq_aaea290e p1.2 | omega) (by decide) ?_
                obtain ⟨s101, hs101⟩ : ∃ x0, x0 = uC s99 36 (y).toNat (Int32.ofInt (iC s54 36 (y).toNat)) := ⟨_, rfl⟩
                rw [← hs101]
                have Is101 : Bd s101 := by rw [hs101]; exact bd_C Is99 (show ((-2147483648) : Int) ≤ (iC s54 36 (y).toNat) ∧ (iC s54 36 (y).toNat) ≤ 2147483647 by first | exact ⟨b58.1, b58.2⟩ | omega) (rng_to _)
                have Fs101 := fm_C (i := (y).toNat) (x := Int32.ofInt (iC s54 36 (y).toNat)) Gs99 (show 36 ∈ _ by decide)
                rw [← hs101] at Fs101
                refine z_aload_n X (x := A 41) (show cdA 25 224 = some (.aload_n 0, 1, 0, 0, 0) from rfl) (List.Mem.tail _ (List.Mem.tail _ (List.Mem.tail _ (List.Mem.head _)))) ?_
                refine s_getR X 41 (show cdA 25 225 = some (.getfield 19, 3, 2, 5, 0) from rfl) (by decide) rfl rfl ?_
                refine z_load_n X (x := y) (show cdA 25 228 = some (.iload_n 2, 1, 0, 0, 0) from rfl) (List.Mem.tail _ (List.Mem.tail _ (List.Mem.tail _ (List.Mem.tail _ (List.Mem.tail _ (List.Mem.head _)))))) ?_
                refine z_load X (x := (iC s54 37 (y).toNat)) (show cdA 25 229 = some (.iload 6, 2, 0, 0, 0) from rfl) (List.Mem.head _) ?_
                refine z_ast X 44 (show cdA 25 231 = some (.iastore, 1, 0, 0, 0) from rfl) (by decide) rfl (by first | exact p1.1 | omega) (show y < 8 by first | exact oq_aaea290e p1.2 | omega) (by decide) ?_
                obtain ⟨s102, hs102⟩ : ∃ x0, x0 = uC s101 37 (y).toNat (Int32.ofInt (iC s54 37 (y).toNat)) := ⟨_, rfl⟩
                rw [← hs102]
                have Is102 : Bd s102 := by rw [hs102]; exact bd_C Is101 (show ((-2147483648) : Int) ≤ (iC s54 37 (y).toNat) ∧ (iC s54 37 (y).toNat) ≤ 2147483647 by first | exact ⟨b59.1, b59.2⟩ | omega) (rng_to _)
                have Fs102 := fm_C (i := (y).toNat) (x := Int32.ofInt (iC s54 37 (y).toNat)) Fs101 (show 37 ∈ _ by decide)
                rw [← hs102] at Fs102
                exact w_vret X.1 q hRt (ax_d X (show cdA 25 232 = some (.return_, 1, 0, 0, 0) from rfl)) (Nat.zero_le _) (Nat.zero_le _) ⟨_, rfl, Is102, Fs102, rfl, trivial⟩
              ·
                refine z_const X (show cdA 25 95 = some (.iconst 0, 1, 0, 0, 0) from rfl) ?_
                refine z_store X (lv' := [(7, .int (Int32.ofInt 0)), (6, .int (Int32.ofInt (iC s54 37 (y).toNat))), (5, .int (Int32.ofInt (iC s54 36 (y).toNat))), (4, .int (Int32.ofInt e57)), (0, .ref (A 41)), (1, .int (Int32.ofInt x)), (2, .int (Int32.ofInt y)), (3, .int (Int32.ofInt z))]) (show cdA 25 96 = some (.istore 7, 2, 0, 0, 0) from rfl) (by decide) (fun _ h => h) ?_
                refine WS_lv (lv := [(0, .ref (A 41)), (1, .int (Int32.ofInt x)), (2, .int (Int32.ofInt y)), (3, .int (Int32.ofInt z)), (5, .int (Int32.ofInt (iC s54 36 (y).toNat))), (6, .int (Int32.ofInt (iC s54 37 (y).toNat))), (7, .int (Int32.ofInt 0))]) (List.forall_mem_cons.mpr ⟨(List.Mem.tail _ (List.Mem.tail _ (List.Mem.tail _ (List.Mem.tail _ (List.Mem.head _))))), (List.forall_mem_cons.mpr ⟨(List.Mem.tail _ (List.Mem.tail _ (List.Mem.tail _ (List.Mem.tail _ (List.Mem.tail _ (List.Mem.head _)))))), (List.forall_mem_cons.mpr ⟨(List.Mem.tail _ (List.Mem.tail _ (List.Mem.tail _ (List.Mem.tail _ (List.Mem.tail _ (List.Mem.tail _ (List.Mem.head _))))))), (List.forall_mem_cons.mpr ⟨(List.Mem.tail _ (List.Mem.tail _ (List.Mem.tail _ (List.Mem.tail _ (List.Mem.tail _ (List.Mem.tail _ (List.Mem.tail _ (List.Mem.head _)))))))), (List.forall_mem_cons.mpr ⟨(List.Mem.tail _ (List.Mem.tail _ (List.Mem.head _))), (List.forall_mem_cons.mpr ⟨(List.Mem.tail _ (List.Mem.head _)), (List.forall_mem_cons.mpr ⟨(List.Mem.head _), (fun q h => absurd h List.not_mem_nil)⟩)⟩)⟩)⟩)⟩)⟩)⟩) ?_
                refine L98 ((8 - 0 : Int).toNat + 1) s96 x y z (iC s54 36 (y).toNat) (iC s54 37 (y).toNat) 0 Is96 Gs96 (by first | exact ⟨And.intro (p0.1) (p0.2), And.intro (p1.1) (p1.2), And.intro (p2.1) (p2.2), And.intro (b58.1) (b58.2), And.intro (b59.1) (b59.2), by decide, by decide⟩ | omega) (Nat.lt_succ_self _) ?_
                intro s103 x104 Is103 Fs103 hs103
                refine z_aload_n X (x := A 41) (show cdA 25 206 = some (.aload_n 0, 1, 0, 0, 0) from rfl) (List.Mem.head _) ?_
                refine s_getR X 41 (show cdA 25 207 = some (.getfield 29, 3, 2, 1, 0) from rfl) (by decide) rfl rfl ?_
                refine z_load_n X (x := x) (show cdA 25 210 = some (.iload_n 1, 1, 0, 0, 0) from rfl) (List.Mem.tail _ (List.Mem.head _)) ?_
                refine z_load_n X (x := y) (show cdA 25 211 = some (.iload_n 2, 1, 0, 0, 0) from rfl) (List.Mem.tail _ (List.Mem.tail _ (List.Mem.head _))) ?_
                refine z_callV X 25 (rm := rmN 28) (As := [.int (Int32.ofInt x), .int (Int32.ofInt y)]) (st := []) (show cdA 25 212 = some (.invokevirtual 138, 3, 28, 0, 0) from rfl) rfl (by decide) rfl (by rw [E.1, E.2.1, E.2.2.1]; exact c3_put_25 G Is103 (by first | exact ⟨hs103.1.1, hs103.1.2⟩ | omega) (by first | exact ⟨oq_ca54ea22 hs103.2.1.1, hs103.2.1.2⟩ | omega)) ⟨by rw [E.2.2.2]; exact (show (rmN 28).frames + 1 ≤ (rmN 25).frames by decide), by rw [E.2.2.2]; exact (show 8 + (mNL (miB 28) + 11) + (rmN 28).locals ≤ (rmN 25).locals by decide), by rw [E.2.2.2]; exact (show 0 + (rmN 28).cells ≤ (rmN 25).cells by decide), by rw [E.2.2.2]; exact (show 0 + (rmN 28).slots ≤ (rmN 25).slots by decide)⟩ (Nat.le_of_ble_eq_true rfl) (fun vv s105 hq => ?_) (fun ee s105 hq => ?_)
                rotate_left
                · obtain ⟨Is105, Fs105, e106, hv, hrs105, hps105⟩ := hq; cases hv
                obtain ⟨Is105, Fs105, e106, hv, hrs105, hps105⟩ := hq
                cases hv
                have Gs105 := fm_ts Fs103 Fs105 (by decide) (by decide)
                show WS k 215 [(0, .ref (A 41)), (1, .int (Int32.ofInt x)), (2, .int (Int32.ofInt y)), (3, .int (Int32.ofInt z)), (5, .int (Int32.ofInt (iC s54 36 (y).toNat))), (6, .int (Int32.ofInt (iC s54 37 (y).toNat))), (7, .int (Int32.ofInt x104))] [.int (Int32.ofInt e106)] (Wd A dT s105) 0 0
                refine w_pop X.1 (ax_d X (show cdA 25 215 = some (.pop, 1, 0, 0, 0) from rfl)) rfl ?_
                refine z_aload_n X (x := A 41) (show cdA 25 216 = some (.aload_n 0, 1, 0, 0, 0) from rfl) (List.Mem.head _) ?_
                refine s_getR X 41 (show cdA 25 217 = some (.getfield 15, 3, 2, 4, 0) from rfl) (by decide) rfl rfl ?_
                refine z_load_n X (x := y) (show cdA 25 220 = some (.iload_n 2, 1, 0, 0, 0) from rfl) (List.Mem.tail _ (List.Mem.tail _ (List.Mem.head _))) ?_
                refine z_load X (x := (iC s54 36 (y).toNat)) (show cdA 25 221 = some (.iload 5, 2, 0, 0, 0) from rfl) (List.Mem.tail _ (List.Mem.tail _ (List.Mem.tail _ (List.Mem.tail _ (List.Mem.head _))))) ?_
                refine z_ast X 43 (show cdA 25 223 = some (.iastore, 1, 0, 0, 0) from rfl) (by decide) rfl (by first | exact hs103.2.1.1 | omega) (show y < 8 by first | exact oq_aaea290e hs103.2.1.2 | omega) (by decide) ?_
                obtain ⟨s107, hs107⟩ : ∃ x0, x0 = uC s105 36 (y).toNat (Int32.ofInt (iC s54 36 (y).toNat)) := ⟨_, rfl⟩
                rw [← hs107]
                have Is107 : Bd s107 := by rw [hs107]; exact bd_C Is105 (show ((-2147483648) : Int) ≤ (iC s54 36 (y).toNat) ∧ (iC s54 36 (y).toNat) ≤ 2147483647 by first | exact ⟨hs103.2.2.2.1.1, hs103.2.2.2.1.2⟩ | omega) (rng_to _)
                have Fs107 := fm_C (i := (y).toNat) (x := Int32.ofInt (iC s54 36 (y).toNat)) Gs105 (show 36 ∈ _ by decide)
                rw [← hs107] at Fs107
                refine z_aload_n X (x := A 41) (show cdA 25 224 = some (.aload_n 0, 1, 0, 0, 0) from rfl) (List.Mem.head _) ?_
                refine s_getR X 41 (show cdA 25 225 = some (.getfield 19, 3, 2, 5, 0) from rfl) (by decide) rfl rfl ?_
                refine z_load_n X (x := y) (show cdA 25 228 = some (.iload_n 2, 1, 0, 0, 0) from rfl) (List.Mem.tail _ (List.Mem.tail _ (List.Mem.head _))) ?_
                refine z_load X (x := (iC s54 37 (y).toNat)) (show cdA 25 229 = some (.iload 6, 2, 0, 0, 0) from rfl) (List.Mem.tail _ (List.Mem.tail _ (List.Mem.tail _ (List.Mem.tail _ (List.Mem.tail _ (List.Mem.head _)))))) ?_
                refine z_ast X 44 (show cdA 25 231 = some (.iastore, 1, 0, 0, 0) from rfl) (by decide) rfl (by first | exact hs103.2.1.1 | omega) (show y < 8 by first | exact oq_aaea290e hs103.2.1.2 | omega) (by decide) ?_
                obtain ⟨s108, hs108⟩ : ∃ x0, x0 = uC s107 37 (y).toNat (Int32.ofInt (iC s54 37 (y).toNat)) := ⟨_, rfl⟩
                rw [← hs108]
                have Is108 : Bd s108 := by rw [hs108]; exact bd_C Is107 (show ((-2147483648) : Int) ≤ (iC s54 37 (y).toNat) ∧ (iC s54 37 (y).toNat) ≤ 2147483647 by first | exact ⟨hs103.2.2.2.2.1.1, hs103.2.2.2.2.1.2⟩ | omega) (rng_to _)
                have Fs108 := fm_C (i := (y).toNat) (x := Int32.ofInt (iC s54 37 (y).toNat)) Fs107 (show 37 ∈ _ by decide)
                rw [← hs108] at Fs108
                exact w_vret X.1 q hRt (ax_d X (show cdA 25 232 = some (.return_, 1, 0, 0, 0) from rfl)) (Nat.zero_le _) (Nat.zero_le _) ⟨_, rfl, Is108, Fs108, rfl, trivial⟩
    refine z_if_ne X (t := 25) (show cdA 25 18 = some (.ifCond .ne 7, 3, 1, 0, 0) from rfl) (by decide) hrs54 (fun g109 => ?_) (fun g109 => ?_)
    ·
      refine z_const X (show cdA 25 25 = some (.iconst 0, 1, 0, 0, 0) from rfl) ?_
      exact N56 _ (Or.inl ⟨g109, rfl⟩)
    ·
      refine z_const X (show cdA 25 21 = some (.iconst 1, 1, 0, 0, 0) from rfl) ?_
      refine z_goto X (t := 26) (show cdA 25 22 = some (.goto 4, 3, 0, 0, 0) from rfl) (by decide) ?_
      exact N56 _ (Or.inr (⟨g109, rfl⟩))
set_option maxRecDepth 4000 in
theorem c2_seek_41 (G : GX l s0 D tys a0 dT) (I : Bd s)  : CT l s0 D A dT 23 (rmN 23) [.ref (A 41)] s (fun o t => Bd t ∧ Fm [22, 23, 24, 25, 26, 27] [33, 26, 27, 28, 29, 30, 31, 32, 20, 36, 37, 21, 35, 38, 1022, 1023] s t ∧ ∃ e, o = .inl (some (.int (Int32.ofInt e))) ∧ rng e ∧ ((e = 0 ∨ e = 1) ∧ (e = 1 → 0 ≤ iI t 25))) := by
  refine ct_ofX G (by decide) (Nat.le_of_ble_eq_true rfl) (fun k X E ET hRt hXt q => ?_)
  show WS k 0 [(0, .ref (A 41))] [] _ 0 0
  have F : Fm [22, 23, 24, 25, 26, 27] [33, 26, 27, 28, 29, 30, 31, 32, 20, 36, 37, 21, 35, 38, 1022, 1023] s s := fm_rf _ _ s
  have b1 : ((-1) : Int) ≤ iI s 25 ∧ iI s 25 ≤ 127 := I.1 25
  have L6 : ∀ (n : Nat) (t : PS) (p : Int), Bd t → Fm [22, 23, 24, 25, 26, 27] [33, 26, 27, 28, 29, 30, 31, 32, 20, 36, 37, 21, 35, 38, 1022, 1023] s t → (0 ≤ p ∧ p ≤ 8) → (8 - p : Int).toNat < n → (∀ (t' : PS) (p' : Int), Bd t' → Fm [22, 23, 24, 25, 26, 27] [33, 26, 27, 28, 29, 30, 31, 32, 20, 36, 37, 21, 35, 38, 1022, 1023] s t' → (0 ≤ p' ∧ p' ≤ 8) → WS k 29 [(0, .ref (A 41)), (1, .int (Int32.ofInt p'))] [] (Wd A dT t') 0 0) → WS k 6 [(0, .ref (A 41)), (1, .int (Int32.ofInt p))] [] (Wd A dT t) 0 0 := by
    intro n
    induction n with
    | zero =>
      intro t p I F hi hm kx
      exact absurd hm (Nat.not_lt_zero _)
    | succ n ih =>
      intro t p I F hi hm kx
      have b1001 : ((-1) : Int) ≤ iI t 25 ∧ iI t 25 ≤ 127 := I.1 25
      refine z_load_n X (x := p) (show cdA 23 6 = some (.iload_n 1, 1, 0, 0, 0) from rfl) (List.Mem.tail _ (List.Mem.head _)) ?_
      refine z_bipush X (show cdA 23 7 = some (.bipush 8, 2, 0, 0, 8) from rfl) ?_
      refine z_icmp_ge X (t := 29) (show cdA 23 9 = some (.if_icmp .ge 20, 3, 3, 0, 0) from rfl) (by decide) ⟨by first | exact oq_fa4e5087 hi.1 | omega, by first | exact oq_d3f5d874 hi.2 | omega⟩ (by decide) (fun g1002 => ?_) (fun g1002 => ?_)
      ·
        refine WS_lv (lv := [(0, .ref (A 41)), (1, .int (Int32.ofInt p))]) (List.forall_mem_cons.mpr ⟨(List.Mem.head _), (List.forall_mem_cons.mpr ⟨(List.Mem.tail _ (List.Mem.head _)), (fun q h => absurd h List.not_mem_nil)⟩)⟩) ?_
        exact kx _ p I F (by first | exact ⟨hi.1, hi.2⟩ | omega)
      ·
        refine z_aload_n X (x := A 41) (show cdA 23 12 = some (.aload_n 0, 1, 0, 0, 0) from rfl) (List.Mem.head _) ?_
        refine s_getR X 41 (show cdA 23 13 = some (.getfield 22, 3, 2, 6, 0) from rfl) (by decide) rfl rfl ?_
        refine z_load_n X (x := p) (show cdA 23 16 = some (.iload_n 1, 1, 0, 0, 0) from rfl) (List.Mem.tail _ (List.Mem.head _)) ?_
        refine z_aload_n X (x := A 41) (show cdA 23 17 = some (.aload_n 0, 1, 0, 0, 0) from rfl) (List.Mem.head _) ?_
        refine z_load_n X (x := p) (show cdA 23 18 = some (.iload_n 1, 1, 0, 0, 0) from rfl) (List.Mem.tail _ (List.Mem.head _)) ?_
        refine z_callV X 41 (rm := rmN 19) (As := [.int (Int32.ofInt p)]) (st := [.int (Int32.ofInt p), .ref (A 45)]) (show cdA 23 19 = some (.invokevirtual 37, 3, 19, 0, 0) from rfl) rfl (by decide) rfl (by rw [E.1, E.2.1, E.2.2.1]; exact c2_isWhole_41 G I (by first | exact ⟨hi.1, oq_78c639ed g1002⟩ | omega)) ⟨by rw [E.2.2.2]; exact (show (rmN 19).frames + 1 ≤ (rmN 23).frames by decide), by rw [E.2.2.2]; exact (show 8 + (mNL (miB 19) + 11) + (rmN 19).locals ≤ (rmN 23).locals by decide), by rw [E.2.2.2]; exact (show 0 + (rmN 19).cells ≤ (rmN 23).cells by decide), by rw [E.2.2.2]; exact (show 0 + (rmN 19).slots ≤ (rmN 23).slots by decide)⟩ (Nat.le_of_ble_eq_true rfl) (fun vv s1003 hq => ?_) (fun ee s1003 hq => ?_)
        rotate_left
        · obtain ⟨Is1003, Fs1003, e1004, hv, hrs1003, hps1003⟩ := hq; cases hv
        obtain ⟨Is1003, Fs1003, e1004, hv, hrs1003, hps1003⟩ := hq
        cases hv
        have Gs1003 := fm_ts F Fs1003 (by decide) (by decide)
        have ws1003_25 : iI s1003 25 = iI t 25 := fm_i Fs1003 (by decide)
        show WS k 22 [(0, .ref (A 41)), (1, .int (Int32.ofInt p))] [.int (Int32.ofInt e1004), .int (Int32.ofInt p), .ref (A 45)] (Wd A dT s1003) 0 0
        refine z_zast X 45 (show cdA 23 22 = some (.bastore, 1, 0, 0, 0) from rfl) (by decide) rfl (by first | exact hi.1 | omega) (show p < 8 by first | exact g1002 | omega) (by decide) (by first | exact hps1003 | omega) ?_
        obtain ⟨s1005, hs1005⟩ : ∃ x0, x0 = uC s1003 38 (p).toNat (Int32.ofInt e1004) := ⟨_, rfl⟩
        rw [← hs1005]
        have Is1005 : Bd s1005 := by rw [hs1005]; exact bd_C Is1003 (show (0 : Int) ≤ e1004 ∧ e1004 ≤ 1 by first | exact ⟨oq_e4aca38c hps1003, oq_14617724 hps1003⟩ | omega) hrs1003
        have Fs1005 := fm_C (i := (p).toNat) (x := Int32.ofInt e1004) Gs1003 (show 38 ∈ _ by decide)
        rw [← hs1005] at Fs1005
        have ws1005_25 : iI s1005 25 = iI s1003 25 := by rw [hs1005]; rfl
        refine z_inc X (x := p) (lv' := [(1, .int (Int32.ofInt (p + 1))), (0, .ref (A 41))]) (show cdA 23 23 = some (.iinc 1 1, 3, 0, 0, 0) from rfl) (by decide) (List.Mem.tail _ (List.Mem.head _)) (fun _ h => h) ?_
        refine z_goto X (t := 6) (show cdA 23 26 = some (.goto (-20), 3, 0, 0, 0) from rfl) (by decide) ?_
        refine WS_lv (lv := [(0, .ref (A 41)), (1, .int (Int32.ofInt (p + 1)))]) (List.forall_mem_cons.mpr ⟨(List.Mem.tail _ (List.Mem.head _)), (List.forall_mem_cons.mpr ⟨(List.Mem.head _), (fun q h => absurd h List.not_mem_nil)⟩)⟩) ?_
        exact ih _ (p + 1) Is1005 Fs1005 (by first | exact ⟨oq_54f49eb5 hi.1, oq_0c7b19c3 g1002⟩ | omega) (by first | exact qk_me hm (by decide) (oq_9f368f35 g1002) | omega) kx
  have L44 : ∀ (n : Nat) (t : PS) (c : Int), Bd t → Fm [22, 23, 24, 25, 26, 27] [33, 26, 27, 28, 29, 30, 31, 32, 20, 36, 37, 21, 35, 38, 1022, 1023] s t → (0 ≤ c ∧ c ≤ 128) → (128 - c : Int).toNat < n → (∀ (t' : PS) (c' : Int), Bd t' → Fm [22, 23, 24, 25, 26, 27] [33, 26, 27, 28, 29, 30, 31, 32, 20, 36, 37, 21, 35, 38, 1022, 1023] s t' → (0 ≤ c' ∧ c' ≤ 128) → WS k 106 [(0, .ref (A 41)), (1, .int (Int32.ofInt c'))] [] (Wd A dT t') 0 0) → WS k 44 [(0, .ref (A 41)), (1, .int (Int32.ofInt c))] [] (Wd A dT t) 0 0 := by
    intro n
    induction n with
    | zero =>
      intro t c I F hi hm kx
      exact absurd hm (Nat.not_lt_zero _)
    | succ n ih =>
      intro t c I F hi hm kx
      have b2001 : ((-1) : Int) ≤ iI t 25 ∧ iI t 25 ≤ 127 := I.1 25
      refine z_load_n X (x := c) (show cdA 23 44 = some (.iload_n 1, 1, 0, 0, 0) from rfl) (List.Mem.tail _ (List.Mem.head _)) ?_
      refine z_sipush X (show cdA 23 45 = some (.sipush 128, 3, 0, 0, 128) from rfl) ?_
      refine z_icmp_ge X (t := 106) (show cdA 23 48 = some (.if_icmp .ge 58, 3, 3, 0, 0) from rfl) (by decide) ⟨by first | exact oq_fa4e5087 hi.1 | omega, by first | exact oq_4ee82282 hi.2 | omega⟩ (by decide) (fun g2002 => ?_) (fun g2002 => ?_)
      ·
        refine WS_lv (lv := [(0, .ref (A 41)), (1, .int (Int32.ofInt c))]) (List.forall_mem_cons.mpr ⟨(List.Mem.head _), (List.forall_mem_cons.mpr ⟨(List.Mem.tail _ (List.Mem.head _)), (fun q h => absurd h List.not_mem_nil)⟩)⟩) ?_
        exact kx _ c I F (by first | exact ⟨hi.1, hi.2⟩ | omega)
      ·
        refine z_aload_n X (x := A 41) (show cdA 23 51 = some (.aload_n 0, 1, 0, 0, 0) from rfl) (List.Mem.head _) ?_
        refine s_getR X 41 (show cdA 23 52 = some (.getfield 29, 3, 2, 1, 0) from rfl) (by decide) rfl rfl ?_
        refine s_getR X 25 (show cdA 23 55 = some (.getfield 107, 3, 3, 0, 0) from rfl) (by decide) rfl rfl ?_
        refine z_load_n X (x := c) (show cdA 23 58 = some (.iload_n 1, 1, 0, 0, 0) from rfl) (List.Mem.tail _ (List.Mem.head _)) ?_
        refine z_ald X 26 (show cdA 23 59 = some (.iaload, 1, 0, 0, 0) from rfl) (by decide) rfl (by first | exact hi.1 | omega) (show c < 128 by first | exact g2002 | omega) (by decide) ?_
        have b2003 : ((-1) : Int) ≤ iC t 21 (c).toNat ∧ iC t 21 (c).toNat ≤ 7 := I.2 21 _ (show (c).toNat < 128 by first | exact oq_afb89947 g2002 | omega)
        refine z_store_n X (lv' := [(2, .int (Int32.ofInt (iC t 21 (c).toNat))), (0, .ref (A 41)), (1, .int (Int32.ofInt c))]) (show cdA 23 60 = some (.istore_n 2, 1, 0, 0, 0) from rfl) (by decide) (fun _ h => h) ?_
        refine z_load_n X (x := (iC t 21 (c).toNat)) (show cdA 23 61 = some (.iload_n 2, 1, 0, 0, 0) from rfl) (List.Mem.head _) ?_
        refine z_const X (show cdA 23 62 = some (.iconst (-1), 1, 0, 0, 0) from rfl) ?_
        refine z_icmp_eq X (t := 100) (show cdA 23 63 = some (.if_icmp .eq 37, 3, 0, 0, 0) from rfl) (by decide) (rng_to _) (by decide) (fun g2004 => ?_) (fun g2004 => ?_)
        ·
          refine z_inc X (x := c) (lv' := [(1, .int (Int32.ofInt (c + 1))), (2, .int (Int32.ofInt (iC t 21 (c).toNat))), (0, .ref (A 41))]) (show cdA 23 100 = some (.iinc 1 1, 3, 0, 0, 0) from rfl) (by decide) (List.Mem.tail _ (List.Mem.tail _ (List.Mem.head _))) (fun _ h => h) ?_
          refine z_goto X (t := 44) (show cdA 23 103 = some (.goto (-59), 3, 0, 0, 0) from rfl) (by decide) ?_
          refine WS_lv (lv := [(0, .ref (A 41)), (1, .int (Int32.ofInt (c + 1)))]) (List.forall_mem_cons.mpr ⟨(List.Mem.tail _ (List.Mem.tail _ (List.Mem.head _))), (List.forall_mem_cons.mpr ⟨(List.Mem.head _), (fun q h => absurd h List.not_mem_nil)⟩)⟩) ?_
          exact ih _ (c + 1) I F (by first | exact ⟨oq_54f49eb5 hi.1, oq_d2afb425 g2002⟩ | omega) (by first | exact qk_me hm (by decide) (oq_c268b7bd g2002) | omega) kx
        ·
          refine z_aload_n X (x := A 41) (show cdA 23 66 = some (.aload_n 0, 1, 0, 0, 0) from rfl) (List.Mem.tail _ (List.Mem.head _)) ?_
          refine z_load_n X (x := c) (show cdA 23 67 = some (.iload_n 1, 1, 0, 0, 0) from rfl) (List.Mem.tail _ (List.Mem.tail _ (List.Mem.head _))) ?_
          refine z_callV X 41 (rm := rmN 24) (As := [.int (Int32.ofInt c)]) (st := []) (show cdA 23 68 = some (.invokevirtual 110, 3, 24, 0, 0) from rfl) rfl (by decide) rfl (by rw [E.1, E.2.1, E.2.2.1]; exact c2_mayMatter_41 G I (by first | exact ⟨hi.1, oq_04367f15 g2002⟩ | omega)) ⟨by rw [E.2.2.2]; exact (show (rmN 24).frames + 1 ≤ (rmN 23).frames by decide), by rw [E.2.2.2]; exact (show 8 + (mNL (miB 24) + 11) + (rmN 24).locals ≤ (rmN 23).locals by decide), by rw [E.2.2.2]; exact (show 0 + (rmN 24).cells ≤ (rmN 23).cells by decide), by rw [E.2.2.2]; exact (show 0 + (rmN 24).slots ≤ (rmN 23).slots by decide)⟩ (Nat.le_of_ble_eq_true rfl) (fun vv s2005 hq => ?_) (fun ee s2005 hq => ?_)
          rotate_left
          · obtain ⟨Is2005, Fs2005, e2006, hv, hrs2005, hps2005⟩ := hq; cases hv
          obtain ⟨Is2005, Fs2005, e2006, hv, hrs2005, hps2005⟩ := hq
          cases hv
          have Gs2005 := fm_ts F Fs2005 (by decide) (by decide)
          have ws2005_25 : iI s2005 25 = iI t 25 := fm_i Fs2005 (by decide)
          show WS k 71 [(2, .int (Int32.ofInt (iC t 21 (c).toNat))), (0, .ref (A 41)), (1, .int (Int32.ofInt c))] [.int (Int32.ofInt e2006)] (Wd A dT s2005) 0 0
          refine z_if_eq X (t := 100) (show cdA 23 71 = some (.ifCond .eq 29, 3, 0, 0, 0) from rfl) (by decide) hrs2005 (fun g2007 => ?_) (fun g2007 => ?_)
          ·
            refine z_inc X (x := c) (lv' := [(1, .int (Int32.ofInt (c + 1))), (2, .int (Int32.ofInt (iC t 21 (c).toNat))), (0, .ref (A 41))]) (show cdA 23 100 = some (.iinc 1 1, 3, 0, 0, 0) from rfl) (by decide) (List.Mem.tail _ (List.Mem.tail _ (List.Mem.head _))) (fun _ h => h) ?_
            refine z_goto X (t := 44) (show cdA 23 103 = some (.goto (-59), 3, 0, 0, 0) from rfl) (by decide) ?_
            refine WS_lv (lv := [(0, .ref (A 41)), (1, .int (Int32.ofInt (c + 1)))]) (List.forall_mem_cons.mpr ⟨(List.Mem.tail _ (List.Mem.tail _ (List.Mem.head _))), (List.forall_mem_cons.mpr ⟨(List.Mem.head _), (fun q h => absurd h List.not_mem_nil)⟩)⟩) ?_
            exact ih _ (c + 1) Is2005 Gs2005 (by first | exact ⟨oq_54f49eb5 hi.1, oq_d2afb425 g2002⟩ | omega) (by first | exact qk_me hm (by decide) (oq_c268b7bd g2002) | omega) kx
          ·
            refine z_aload_n X (x := A 41) (show cdA 23 74 = some (.aload_n 0, 1, 0, 0, 0) from rfl) (List.Mem.tail _ (List.Mem.head _)) ?_
            refine s_getR X 41 (show cdA 23 75 = some (.getfield 29, 3, 2, 1, 0) from rfl) (by decide) rfl rfl ?_
            refine z_load_n X (x := c) (show cdA 23 78 = some (.iload_n 1, 1, 0, 0, 0) from rfl) (List.Mem.tail _ (List.Mem.tail _ (List.Mem.head _))) ?_
            refine z_callV X 25 (rm := rmN 39) (As := [.int (Int32.ofInt c)]) (st := []) (show cdA 23 79 = some (.invokevirtual 113, 3, 39, 0, 0) from rfl) rfl (by decide) rfl (by rw [E.1, E.2.1, E.2.2.1]; exact c3_piecesBeside_25 G Is2005 (by first | exact ⟨hi.1, oq_04367f15 g2002⟩ | omega)) ⟨by rw [E.2.2.2]; exact (show (rmN 39).frames + 1 ≤ (rmN 23).frames by decide), by rw [E.2.2.2]; exact (show 8 + (mNL (miB 39) + 11) + (rmN 39).locals ≤ (rmN 23).locals by decide), by rw [E.2.2.2]; exact (show 0 + (rmN 39).cells ≤ (rmN 23).cells by decide), by rw [E.2.2.2]; exact (show 0 + (rmN 39).slots ≤ (rmN 23).slots by decide)⟩ (Nat.le_of_ble_eq_true rfl) (fun vv s2008 hq => ?_) (fun ee s2008 hq => ?_)
            rotate_left
            · obtain ⟨Is2008, Fs2008, e2009, hv, hrs2008, hps2008⟩ := hq; cases hv
            obtain ⟨Is2008, Fs2008, e2009, hv, hrs2008, hps2008⟩ := hq
            cases hv
            have Gs2008 := fm_ts Gs2005 Fs2008 (by decide) (by decide)
            have ws2008_25 : iI s2008 25 = iI s2005 25 := fm_i Fs2008 (by decide)
            show WS k 82 [(2, .int (Int32.ofInt (iC t 21 (c).toNat))), (0, .ref (A 41)), (1, .int (Int32.ofInt c))] [.int (Int32.ofInt e2009)] (Wd A dT s2008) 0 0
            refine z_const X (show cdA 23 82 = some (.iconst 1, 1, 0, 0, 0) from rfl) ?_
            refine z_load_n X (x := (iC t 21 (c).toNat)) (show cdA 23 83 = some (.iload_n 2, 1, 0, 0, 0) from rfl) (List.Mem.head _) ?_
            refine z_bshl X (show cdA 23 84 = some (.ishl, 1, 0, 0, 0) from rfl) ?_
            refine z_any (fun y2010 hy2010 => ?_)
            refine z_const X (show cdA 23 85 = some (.iconst (-1), 1, 0, 0, 0) from rfl) ?_
            refine z_bxor X (show cdA 23 86 = some (.ixor, 1, 0, 0, 0) from rfl) ?_
            refine z_any (fun y2011 hy2011 => ?_)
            refine z_band X (show cdA 23 87 = some (.iand, 1, 0, 0, 0) from rfl) ?_
            refine z_any (fun y2012 hy2012 => ?_)
            refine z_store_n X (lv' := [(3, .int (Int32.ofInt y2012)), (2, .int (Int32.ofInt (iC t 21 (c).toNat))), (0, .ref (A 41)), (1, .int (Int32.ofInt c))]) (show cdA 23 88 = some (.istore_n 3, 1, 0, 0, 0) from rfl) (by decide) (fun _ h => h) ?_
            refine z_load_n X (x := y2012) (show cdA 23 89 = some (.iload_n 3, 1, 0, 0, 0) from rfl) (List.Mem.head _) ?_
            refine z_if_eq X (t := 100) (show cdA 23 90 = some (.ifCond .eq 10, 3, 0, 0, 0) from rfl) (by decide) hy2012 (fun g2013 => ?_) (fun g2013 => ?_)
            ·
              refine z_inc X (x := c) (lv' := [(1, .int (Int32.ofInt (c + 1))), (3, .int (Int32.ofInt y2012)), (2, .int (Int32.ofInt (iC t 21 (c).toNat))), (0, .ref (A 41))]) (show cdA 23 100 = some (.iinc 1 1, 3, 0, 0, 0) from rfl) (by decide) (List.Mem.tail _ (List.Mem.tail _ (List.Mem.tail _ (List.Mem.head _)))) (fun _ h => h) ?_
              refine z_goto X (t := 44) (show cdA 23 103 = some (.goto (-59), 3, 0, 0, 0) from rfl) (by decide) ?_
              refine WS_lv (lv := [(0, .ref (A 41)), (1, .int (Int32.ofInt (c + 1)))]) (List.forall_mem_cons.mpr ⟨(List.Mem.tail _ (List.Mem.tail _ (List.Mem.tail _ (List.Mem.head _)))), (List.forall_mem_cons.mpr ⟨(List.Mem.head _), (fun q h => absurd h List.not_mem_nil)⟩)⟩) ?_
              exact ih _ (c + 1) Is2008 Gs2008 (by first | exact ⟨oq_54f49eb5 hi.1, oq_d2afb425 g2002⟩ | omega) (by first | exact qk_me hm (by decide) (oq_c268b7bd g2002) | omega) kx
            ·
              refine z_aload_n X (x := A 41) (show cdA 23 93 = some (.aload_n 0, 1, 0, 0, 0) from rfl) (List.Mem.tail _ (List.Mem.tail _ (List.Mem.head _))) ?_
              refine z_load_n X (x := c) (show cdA 23 94 = some (.iload_n 1, 1, 0, 0, 0) from rfl) (List.Mem.tail _ (List.Mem.tail _ (List.Mem.tail _ (List.Mem.head _)))) ?_
              refine z_load_n X (x := (iC t 21 (c).toNat)) (show cdA 23 95 = some (.iload_n 2, 1, 0, 0, 0) from rfl) (List.Mem.tail _ (List.Mem.head _)) ?_
              refine z_load_n X (x := y2012) (show cdA 23 96 = some (.iload_n 3, 1, 0, 0, 0) from rfl) (List.Mem.head _) ?_
              refine z_callV X 41 (rm := rmN 25) (As := [.int (Int32.ofInt c), .int (Int32.ofInt (iC t 21 (c).toNat)), .int (Int32.ofInt y2012)]) (st := []) (show cdA 23 97 = some (.invokevirtual 117, 3, 25, 0, 0) from rfl) rfl (by decide) rfl (by rw [E.1, E.2.1, E.2.2.1]; exact c2_tryCell_41 G Is2008 (by first | exact ⟨hi.1, oq_04367f15 g2002⟩ | omega) (by first | exact ⟨oq_7a1025bf g2004 b2003.1, b2003.2⟩ | omega) (by first | exact ⟨hy2012.1, hy2012.2⟩ | omega)) ⟨by rw [E.2.2.2]; exact (show (rmN 25).frames + 1 ≤ (rmN 23).frames by decide), by rw [E.2.2.2]; exact (show 8 + (mNL (miB 25) + 11) + (rmN 25).locals ≤ (rmN 23).locals by decide), by rw [E.2.2.2]; exact (show 0 + (rmN 25).cells ≤ (rmN 23).cells by decide), by rw [E.2.2.2]; exact (show 0 + (rmN 25).slots ≤ (rmN 23).slots by decide)⟩ (Nat.le_of_ble_eq_true rfl) (fun vv s2014 hq => ?_) (fun ee s2014 hq => ?_)
              rotate_left
              · obtain ⟨Is2014, Fs2014, hv, hps2014⟩ := hq; cases hv
              obtain ⟨Is2014, Fs2014, hv, hps2014⟩ := hq
              cases hv
              have Gs2014 := fm_ts Gs2008 Fs2014 (by decide) (by decide)
              have b2016 : ((-1) : Int) ≤ iI s2014 25 ∧ iI s2014 25 ≤ 127 := Is2014.1 25
              show WS k 100 [(3, .int (Int32.ofInt y2012)), (2, .int (Int32.ofInt (iC t 21 (c).toNat))), (0, .ref (A 41)), (1, .int (Int32.ofInt c))] [] (Wd A dT s2014) 0 0
              refine z_inc X (x := c) (lv' := [(1, .int (Int32.ofInt (c + 1))), (3, .int (Int32.ofInt y2012)), (2, .int (Int32.ofInt (iC t 21 (c).toNat))), (0, .ref (A 41))]) (show cdA 23 100 = some (.iinc 1 1, 3, 0, 0, 0) from rfl) (by decide) (List.Mem.tail _ (List.Mem.tail _ (List.Mem.tail _ (List.Mem.head _)))) (fun _ h => h) ?_
              refine z_goto X (t := 44) (show cdA 23 103 = some (.goto (-59), 3, 0, 0, 0) from rfl) (by decide) ?_
              refine WS_lv (lv := [(0, .ref (A 41)), (1, .int (Int32.ofInt (c + 1)))]) (List.forall_mem_cons.mpr ⟨(List.Mem.tail _ (List.Mem.tail _ (List.Mem.tail _ (List.Mem.head _)))), (List.forall_mem_cons.mpr ⟨(List.Mem.head _), (fun q h => absurd h List.not_mem_nil)⟩)⟩) ?_
              exact ih _ (c + 1) Is2014 Gs2014 (by first | exact ⟨oq_54f49eb5 hi.1, oq_d2afb425 g2002⟩ | omega) (by first | exact qk_me hm (by decide) (oq_c268b7bd g2002) | omega) kx
  refine z_aload_n X (x := A 41) (show cdA 23 0 = some (.aload_n 0, 1, 0, 0, 0) from rfl) (List.Mem.head _) ?_
  refine z_callV X 41 (rm := rmN 20) (As := []) (st := []) (show cdA 23 1 = some (.invokevirtual 94, 3, 20, 0, 0) from rfl) rfl (by decide) rfl (by rw [E.1, E.2.1, E.2.2.1]; exact c2_measure_41 G I ) ⟨by rw [E.2.2.2]; exact (show (rmN 20).frames + 1 ≤ (rmN 23).frames by decide), by rw [E.2.2.2]; exact (show 8 + (mNL (miB 20) + 11) + (rmN 20).locals ≤ (rmN 23).locals by decide), by rw [E.2.2.2]; exact (show 0 + (rmN 20).cells ≤ (rmN 23).cells by decide), by rw [E.2.2.2]; exact (show 0 + (rmN 20).slots ≤ (rmN 23).slots by decide)⟩ (Nat.le_of_ble_eq_true rfl) (fun vv s2 hq => ?_) (fun ee s2 hq => ?_)
  rotate_left
  · obtain ⟨Is2, Fs2, hv, hps2⟩ := hq; cases hv
  obtain ⟨Is2, Fs2, hv, hps2⟩ := hq
  cases hv
  have Gs2 := fm_ts F Fs2 (by decide) (by decide)
  have ws2_25 : iI s2 25 = iI s 25 := fm_i Fs2 (by decide)
  show WS k 4 [(0, .ref (A 41))] [] (Wd A dT s2) 0 0
  refine z_const X (show cdA 23 4 = some (.iconst 0, 1, 0, 0, 0) from rfl) ?_
  refine z_store_n X (lv' := [(1, .int (Int32.ofInt 0)), (0, .ref (A 41))]) (show cdA 23 5 = some (.istore_n 1, 1, 0, 0, 0) from rfl) (by decide) (fun _ h => h) ?_
  refine WS_lv (lv := [(0, .ref (A 41)), (1, .int (Int32.ofInt 0))]) (List.forall_mem_cons.mpr ⟨(List.Mem.tail _ (List.Mem.head _)), (List.forall_mem_cons.mpr ⟨(List.Mem.head _), (fun q h => absurd h List.not_mem_nil)⟩)⟩) ?_
  refine L6 ((8 - 0 : Int).toNat + 1) s2 0 Is2 Gs2 (by first | exact ⟨by decide, by decide⟩ | omega) (Nat.lt_succ_self _) ?_
  intro s4 x5 Is4 Fs4 hs4
  have b6 : ((-1) : Int) ≤ iI s4 25 ∧ iI s4 25 ≤ 127 := Is4.1 25
  refine z_aload_n X (x := A 41) (show cdA 23 29 = some (.aload_n 0, 1, 0, 0, 0) from rfl) (List.Mem.head _) ?_
  refine z_const X (show cdA 23 30 = some (.iconst (-1), 1, 0, 0, 0) from rfl) ?_
  refine s_putI X 41 (show cdA 23 31 = some (.putfield 97, 3, 2, 7, 0) from rfl) (by decide) rfl rfl (by decide) rfl rfl rfl ?_
  obtain ⟨s7, hs7⟩ : ∃ x0, x0 = uI s4 25 (Int32.ofInt (-1)) := ⟨_, rfl⟩
  rw [← hs7]
  have Is7 : Bd s7 := by rw [hs7]; exact bd_I Is4 (show ((-1) : Int) ≤ (-1) ∧ (-1) ≤ 127 by first | exact ⟨by decide, by decide⟩ | omega) (by decide)
  have Fs7 := fm_I (x := Int32.ofInt (-1)) Fs4 (show 25 ∈ _ by decide)
  rw [← hs7] at Fs7
  have vs7 : iI s7 25 = (-1) := by rw [hs7]; exact iI_u (by decide)
  refine z_aload_n X (x := A 41) (show cdA 23 34 = some (.aload_n 0, 1, 0, 0, 0) from rfl) (List.Mem.head _) ?_
  refine z_aload_n X (x := A 41) (show cdA 23 35 = some (.aload_n 0, 1, 0, 0, 0) from rfl) (List.Mem.head _) ?_
  refine z_callV X 41 (rm := rmN 22) (As := []) (st := [.ref (A 41)]) (show cdA 23 36 = some (.invokevirtual 101, 3, 22, 0, 0) from rfl) rfl (by decide) rfl (by rw [E.1, E.2.1, E.2.2.1]; exact c2_priceNow_41 G Is7 ) ⟨by rw [E.2.2.2]; exact (show (rmN 22).frames + 1 ≤ (rmN 23).frames by decide), by rw [E.2.2.2]; exact (show 8 + (mNL (miB 22) + 11) + (rmN 22).locals ≤ (rmN 23).locals by decide), by rw [E.2.2.2]; exact (show 0 + (rmN 22).cells ≤ (rmN 23).cells by decide), by rw [E.2.2.2]; exact (show 0 + (rmN 22).slots ≤ (rmN 23).slots by decide)⟩ (Nat.le_of_ble_eq_true rfl) (fun vv s8 hq => ?_) (fun ee s8 hq => ?_)
  rotate_left
  · obtain ⟨Is8, Fs8, e9, hv, hrs8, hps8⟩ := hq; cases hv
  obtain ⟨Is8, Fs8, e9, hv, hrs8, hps8⟩ := hq
  cases hv
  have Gs8 := fm_ts Fs7 Fs8 (by decide) (by decide)
  have ws8_25 : iI s8 25 = iI s7 25 := fm_i Fs8 (by decide)
  show WS k 39 [(0, .ref (A 41)), (1, .int (Int32.ofInt x5))] [.int (Int32.ofInt e9), .ref (A 41)] (Wd A dT s8) 0 0
  refine s_putI X 41 (show cdA 23 39 = some (.putfield 104, 3, 2, 9, 0) from rfl) (by decide) rfl rfl (by decide) rfl rfl rfl ?_
  obtain ⟨s10, hs10⟩ : ∃ x0, x0 = uI s8 27 (Int32.ofInt e9) := ⟨_, rfl⟩
  rw [← hs10]
  have Is10 : Bd s10 := by rw [hs10]; exact bd_I Is8 (show ((-2147483648) : Int) ≤ e9 ∧ e9 ≤ 2147483647 by omega) hrs8
  have Fs10 := fm_I (x := Int32.ofInt e9) Gs8 (show 27 ∈ _ by decide)
  rw [← hs10] at Fs10
  have vs10 : iI s10 27 = e9 := by rw [hs10]; exact iI_u hrs8
  have ws10_25 : iI s10 25 = iI s8 25 := by rw [hs10]; rfl
  refine z_const X (show cdA 23 42 = some (.iconst 0, 1, 0, 0, 0) from rfl) ?_
  refine z_store_n X (lv' := [(1, .int (Int32.ofInt 0)), (0, .ref (A 41))]) (show cdA 23 43 = some (.istore_n 1, 1, 0, 0, 0) from rfl) (by decide) (fun _ h => h) ?_
  refine WS_lv (lv := [(0, .ref (A 41)), (1, .int (Int32.ofInt 0))]) (List.forall_mem_cons.mpr ⟨(List.Mem.tail _ (List.Mem.head _)), (List.forall_mem_cons.mpr ⟨(List.Mem.head _), (fun q h => absurd h List.not_mem_nil)⟩)⟩) ?_
  refine L44 ((128 - 0 : Int).toNat + 1) s10 0 Is10 Fs10 (by first | exact ⟨by decide, by decide⟩ | omega) (Nat.lt_succ_self _) ?_
  intro s11 x12 Is11 Fs11 hs11
  have b13 : ((-1) : Int) ≤ iI s11 25 ∧ iI s11 25 ≤ 127 := Is11.1 25
  refine z_aload_n X (x := A 41) (show cdA 23 106 = some (.aload_n 0, 1, 0, 0, 0) from rfl) (List.Mem.head _) ?_
  refine z_getI X 41 (show cdA 23 107 = some (.getfield 97, 3, 2, 7, 0) from rfl) (by decide) rfl rfl ?_
  have b14 : ((-1) : Int) ≤ iI s11 25 ∧ iI s11 25 ≤ 127 := Is11.1 25
  refine z_const X (show cdA 23 110 = some (.iconst (-1), 1, 0, 0, 0) from rfl) ?_
  have N15 : ∀ e16 : Int, ((((iI s11 25) = (-1)) ∧ e16 = 0) ∨ (((iI s11 25) ≠ (-1)) ∧ e16 = 1)) → WS k 119 [(0, .ref (A 41)), (1, .int (Int32.ofInt x12))] [.int (Int32.ofInt e16)] (Wd A dT s11) 0 0 := by
    intro e16 he16
    have re16 : 0 ≤ e16 ∧ e16 ≤ 1 := by omega
    exact w_iret X.1 q hRt (nar_ret (by first | exact oq_31e518ae re16.2 re16.1 | omega)) (ax_d X (show cdA 23 119 = some (.ireturn, 1, 0, 0, 0) from rfl)) (Nat.zero_le _) (Nat.zero_le _) ⟨_, rfl, Is11, Fs11, e16, rfl, ⟨by first | exact oq_fa4e5087 re16.1 | omega, by first | exact oq_22e1e6b0 re16.2 | omega⟩, by first | exact ⟨oq_31e518ae re16.2 re16.1, oq_bde8ba10 he16 b14.1⟩ | omega⟩
  refine z_icmp_eq X (t := 118) (show cdA 23 111 = some (.if_icmp .eq 7, 3, 0, 0, 0) from rfl) (by decide) (rng_to _) (by decide) (fun g17 => ?_) (fun g17 => ?_)
  ·
    refine z_const X (show cdA 23 118 = some (.iconst 0, 1, 0, 0, 0) from rfl) ?_
    exact N15 _ (Or.inl ⟨g17, rfl⟩)
  ·
    refine z_const X (show cdA 23 114 = some (.iconst 1, 1, 0, 0, 0) from rfl) ?_
    refine z_goto X (t := 119) (show cdA 23 115 = some (.goto 4, 3, 0, 0, 0) from rfl) (by decide) ?_
    exact N15 _ (Or.inr (⟨g17, rfl⟩))
end M75
