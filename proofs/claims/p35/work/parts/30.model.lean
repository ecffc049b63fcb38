/-! The model: small methods -/
section M30
variable {l : Launch} {s0 : State} {D : va_G} {tys : List (ClassId × FieldType)} {a0 : Array Value} {A : Nat → Nat} {dT : Nat → ClassId} {s : PS}
theorem fm_i {L M : List Nat} {s t : PS} {k : Nat} (F : Fm L M s t) (h : k ∉ L) : iI t k = iI s k := congrArg Int32.toInt (F.1 k h)
theorem nar_ret {e : Int} (h : e = 0 ∨ e = 1) : narrow .boolean (.int (Int32.ofInt e)) = .int (Int32.ofInt e) := by rcases h with h | h <;> subst h <;> decide
theorem c_in (G : GX l s0 D tys a0 dT) {x lo hi : Int} (hx : rng x) (hl : rng lo) (hh : rng hi) : CT l s0 D A dT 188 (rmN 188) [.int (Int32.ofInt x), .int (Int32.ofInt lo), .int (Int32.ofInt hi)] s (fun o t => ∃ e, o = .inl (some (.int (Int32.ofInt e))) ∧ t = s ∧ ((e = 1 ∧ lo ≤ x ∧ x ≤ hi) ∨ (e = 0 ∧ (x < lo ∨ hi < x)))) := by
  refine ct_of G (by decide) (Nat.le_of_ble_eq_true rfl) (fun k X E hRt hXt q => ?_)
  show WS k 0 [(0, .int (Int32.ofInt x)), (1, .int (Int32.ofInt lo)), (2, .int (Int32.ofInt hi))] [] _ 0 0
  refine z_load_n X (x := x) (show cdA 188 0 = some (.iload_n 0, 1, 0, 0, 0) from rfl) (List.Mem.head _) ?_
  refine z_load_n X (x := lo) (show cdA 188 1 = some (.iload_n 1, 1, 0, 0, 0) from rfl) (List.Mem.tail _ (List.Mem.head _)) ?_
  refine z_icmp_lt X (t := 14) (show cdA 188 2 = some (.if_icmp .lt 12, 3, 2, 0, 0) from rfl) (by decide) ⟨by omega, by omega⟩ ⟨by omega, by omega⟩ (fun g1 => ?_) (fun g1 => ?_)
  ·
    refine z_const X (show cdA 188 14 = some (.iconst 0, 1, 0, 0, 0) from rfl) ?_
    refine w_iret X.1 q hRt (nar_ret (by omega)) (ax_d X (show cdA 188 15 = some (.ireturn, 1, 0, 0, 0) from rfl)) (Nat.zero_le _) (Nat.zero_le _) ⟨_, rfl, 0, rfl, rfl, by omega⟩
  ·
    refine z_load_n X (x := x) (show cdA 188 5 = some (.iload_n 0, 1, 0, 0, 0) from rfl) (List.Mem.head _) ?_
    refine z_load_n X (x := hi) (show cdA 188 6 = some (.iload_n 2, 1, 0, 0, 0) from rfl) (List.Mem.tail _ (List.Mem.tail _ (List.Mem.head _))) ?_
    refine z_icmp_gt X (t := 14) (show cdA 188 7 = some (.if_icmp .gt 7, 3, 4, 0, 0) from rfl) (by decide) ⟨by omega, by omega⟩ ⟨by omega, by omega⟩ (fun g2 => ?_) (fun g2 => ?_)
    ·
      refine z_const X (show cdA 188 14 = some (.iconst 0, 1, 0, 0, 0) from rfl) ?_
      refine w_iret X.1 q hRt (nar_ret (by omega)) (ax_d X (show cdA 188 15 = some (.ireturn, 1, 0, 0, 0) from rfl)) (Nat.zero_le _) (Nat.zero_le _) ⟨_, rfl, 0, rfl, rfl, by omega⟩
    ·
      refine z_const X (show cdA 188 10 = some (.iconst 1, 1, 0, 0, 0) from rfl) ?_
      refine z_goto X (t := 15) (show cdA 188 11 = some (.goto 4, 3, 0, 0, 0) from rfl) (by decide) ?_
      refine w_iret X.1 q hRt (nar_ret (by omega)) (ax_d X (show cdA 188 15 = some (.ireturn, 1, 0, 0, 0) from rfl)) (Nat.zero_le _) (Nat.zero_le _) ⟨_, rfl, 1, rfl, rfl, by omega⟩
theorem c_isDigit (G : GX l s0 D tys a0 dT) {x : Int} (hx : rng x) : CT l s0 D A dT 195 (rmN 195) [.int (Int32.ofInt x)] s (fun o t => ∃ e, o = .inl (some (.int (Int32.ofInt e))) ∧ t = s ∧ ((e = 1 ∧ 48 ≤ x ∧ x ≤ 57) ∨ (e = 0 ∧ (x < 48 ∨ 57 < x)))) := by
  refine ct_of G (by decide) (Nat.le_of_ble_eq_true rfl) (fun k X E hRt hXt q => ?_)
  show WS k 0 [(0, .int (Int32.ofInt x))] [] _ 0 0
  refine z_load_n X (x := x) (show cdA 195 0 = some (.iload_n 0, 1, 0, 0, 0) from rfl) (List.Mem.head _) ?_
  refine z_bipush X (show cdA 195 1 = some (.bipush 48, 2, 0, 0, 48) from rfl) ?_
  refine z_icmp_lt X (t := 16) (show cdA 195 3 = some (.if_icmp .lt 13, 3, 2, 0, 0) from rfl) (by decide) ⟨by omega, by omega⟩ ⟨by omega, by omega⟩ (fun g1 => ?_) (fun g1 => ?_)
  ·
    refine z_const X (show cdA 195 16 = some (.iconst 0, 1, 0, 0, 0) from rfl) ?_
    refine w_iret X.1 q hRt (nar_ret (by omega)) (ax_d X (show cdA 195 17 = some (.ireturn, 1, 0, 0, 0) from rfl)) (Nat.zero_le _) (Nat.zero_le _) ⟨_, rfl, 0, rfl, rfl, by omega⟩
  ·
    refine z_load_n X (x := x) (show cdA 195 6 = some (.iload_n 0, 1, 0, 0, 0) from rfl) (List.Mem.head _) ?_
    refine z_bipush X (show cdA 195 7 = some (.bipush 57, 2, 0, 0, 57) from rfl) ?_
    refine z_icmp_gt X (t := 16) (show cdA 195 9 = some (.if_icmp .gt 7, 3, 4, 0, 0) from rfl) (by decide) ⟨by omega, by omega⟩ ⟨by omega, by omega⟩ (fun g2 => ?_) (fun g2 => ?_)
    ·
      refine z_const X (show cdA 195 16 = some (.iconst 0, 1, 0, 0, 0) from rfl) ?_
      refine w_iret X.1 q hRt (nar_ret (by omega)) (ax_d X (show cdA 195 17 = some (.ireturn, 1, 0, 0, 0) from rfl)) (Nat.zero_le _) (Nat.zero_le _) ⟨_, rfl, 0, rfl, rfl, by omega⟩
    ·
      refine z_const X (show cdA 195 12 = some (.iconst 1, 1, 0, 0, 0) from rfl) ?_
      refine z_goto X (t := 17) (show cdA 195 13 = some (.goto 4, 3, 0, 0, 0) from rfl) (by decide) ?_
      refine w_iret X.1 q hRt (nar_ret (by omega)) (ax_d X (show cdA 195 17 = some (.ireturn, 1, 0, 0, 0) from rfl)) (Nat.zero_le _) (Nat.zero_le _) ⟨_, rfl, 1, rfl, rfl, by omega⟩
theorem c_bad (G : GX l s0 D tys a0 dT) (I : Bd s) {x w : Int} (hx : x = 0 ∨ x = 1) (hw : 1 ≤ w ∧ w ≤ 3) : CT l s0 D A dT 187 (rmN 187) [.ref (A 179), .int (Int32.ofInt x), .int (Int32.ofInt w)] s (fun o t => Bd t ∧ Fm [73] [] s t ∧ ∃ e, o = .inl (some (.int (Int32.ofInt e))) ∧ ((e = 0 ∧ iI t 73 = 0) ∨ (e = 1 ∧ iI t 73 ≠ 0)) ∧ (x = 1 → e = 1) ∧ (x = 0 → t = s)) := by
  refine ct_of G (by decide) (Nat.le_of_ble_eq_true rfl) (fun k X E hRt hXt q => ?_)
  show WS k 0 [(0, .ref (A 179)), (1, .int (Int32.ofInt x)), (2, .int (Int32.ofInt w))] [] _ 0 0
  have F : Fm [73] [] s s := fm_rf _ _ s
  refine z_load_n X (x := x) (show cdA 187 0 = some (.iload_n 1, 1, 0, 0, 0) from rfl) (List.Mem.tail _ (List.Mem.head _)) ?_
  refine z_if_eq X (t := 16) (show cdA 187 1 = some (.ifCond .eq 15, 3, 0, 0, 0) from rfl) (by decide) ⟨by omega, by omega⟩ (fun g1 => ?_) (fun g1 => ?_)
  ·
    refine z_aload_n X (x := A 179) (show cdA 187 16 = some (.aload_n 0, 1, 0, 0, 0) from rfl) (List.Mem.head _) ?_
    refine z_getI X 179 (show cdA 187 17 = some (.getfield 172, 3, 12, 0, 0) from rfl) (by decide) rfl rfl ?_
    have b2 : (0 : Int) ≤ iI s 73 ∧ iI s 73 ≤ 3 := I.1 73
    refine z_if_eq X (t := 27) (show cdA 187 20 = some (.ifCond .eq 7, 3, 0, 0, 0) from rfl) (by decide) ⟨by omega, by omega⟩ (fun g3 => ?_) (fun g3 => ?_)
    ·
      refine z_const X (show cdA 187 27 = some (.iconst 0, 1, 0, 0, 0) from rfl) ?_
      refine w_iret X.1 q hRt (nar_ret (by omega)) (ax_d X (show cdA 187 28 = some (.ireturn, 1, 0, 0, 0) from rfl)) (Nat.zero_le _) (Nat.zero_le _) ⟨_, rfl, I, F, 0, rfl, by omega, by omega, fun _ => rfl⟩
    ·
      refine z_const X (show cdA 187 23 = some (.iconst 1, 1, 0, 0, 0) from rfl) ?_
      refine z_goto X (t := 28) (show cdA 187 24 = some (.goto 4, 3, 0, 0, 0) from rfl) (by decide) ?_
      refine w_iret X.1 q hRt (nar_ret (by omega)) (ax_d X (show cdA 187 28 = some (.ireturn, 1, 0, 0, 0) from rfl)) (Nat.zero_le _) (Nat.zero_le _) ⟨_, rfl, I, F, 1, rfl, by omega, by omega, fun _ => rfl⟩
  ·
    refine z_aload_n X (x := A 179) (show cdA 187 4 = some (.aload_n 0, 1, 0, 0, 0) from rfl) (List.Mem.head _) ?_
    refine z_getI X 179 (show cdA 187 5 = some (.getfield 172, 3, 12, 0, 0) from rfl) (by decide) rfl rfl ?_
    have b4 : (0 : Int) ≤ iI s 73 ∧ iI s 73 ≤ 3 := I.1 73
    refine z_if_ne X (t := 16) (show cdA 187 8 = some (.ifCond .ne 8, 3, 1, 0, 0) from rfl) (by decide) ⟨by omega, by omega⟩ (fun g5 => ?_) (fun g5 => ?_)
    ·
      refine z_aload_n X (x := A 179) (show cdA 187 16 = some (.aload_n 0, 1, 0, 0, 0) from rfl) (List.Mem.head _) ?_
      refine z_getI X 179 (show cdA 187 17 = some (.getfield 172, 3, 12, 0, 0) from rfl) (by decide) rfl rfl ?_
      have b6 : (0 : Int) ≤ iI s 73 ∧ iI s 73 ≤ 3 := I.1 73
      refine z_if_eq X (t := 27) (show cdA 187 20 = some (.ifCond .eq 7, 3, 0, 0, 0) from rfl) (by decide) ⟨by omega, by omega⟩ (fun g7 => ?_) (fun g7 => ?_)
      ·
        refine z_const X (show cdA 187 27 = some (.iconst 0, 1, 0, 0, 0) from rfl) ?_
        refine w_iret X.1 q hRt (nar_ret (by omega)) (ax_d X (show cdA 187 28 = some (.ireturn, 1, 0, 0, 0) from rfl)) (Nat.zero_le _) (Nat.zero_le _) ⟨_, rfl, I, F, 0, rfl, by omega, by omega, fun _ => rfl⟩
      ·
        refine z_const X (show cdA 187 23 = some (.iconst 1, 1, 0, 0, 0) from rfl) ?_
        refine z_goto X (t := 28) (show cdA 187 24 = some (.goto 4, 3, 0, 0, 0) from rfl) (by decide) ?_
        refine w_iret X.1 q hRt (nar_ret (by omega)) (ax_d X (show cdA 187 28 = some (.ireturn, 1, 0, 0, 0) from rfl)) (Nat.zero_le _) (Nat.zero_le _) ⟨_, rfl, I, F, 1, rfl, by omega, by omega, fun _ => rfl⟩
    ·
      refine z_aload_n X (x := A 179) (show cdA 187 11 = some (.aload_n 0, 1, 0, 0, 0) from rfl) (List.Mem.head _) ?_
      refine z_load_n X (x := w) (show cdA 187 12 = some (.iload_n 2, 1, 0, 0, 0) from rfl) (List.Mem.tail _ (List.Mem.tail _ (List.Mem.head _))) ?_
      refine s_putI X 179 (show cdA 187 13 = some (.putfield 172, 3, 12, 0, 0) from rfl) (by decide) rfl rfl (by decide) rfl rfl rfl ?_
      obtain ⟨s8, hs8⟩ : ∃ x0, x0 = uI s 73 (Int32.ofInt w) := ⟨_, rfl⟩
      rw [← hs8]
      have Is8 : Bd s8 := by rw [hs8]; exact bd_I I (show (0 : Int) ≤ w ∧ w ≤ 3 by omega) ⟨by omega, by omega⟩
      have Fs8 := fm_I (x := Int32.ofInt w) F (show 73 ∈ _ by decide)
      rw [← hs8] at Fs8
      have vs8 : iI s8 73 = w := by rw [hs8]; exact iI_u ⟨by omega, by omega⟩
      refine z_aload_n X (x := A 179) (show cdA 187 16 = some (.aload_n 0, 1, 0, 0, 0) from rfl) (List.Mem.head _) ?_
      refine z_getI X 179 (show cdA 187 17 = some (.getfield 172, 3, 12, 0, 0) from rfl) (by decide) rfl rfl ?_
      have b9 : (0 : Int) ≤ iI s8 73 ∧ iI s8 73 ≤ 3 := Is8.1 73
      refine z_if_eq X (t := 27) (show cdA 187 20 = some (.ifCond .eq 7, 3, 0, 0, 0) from rfl) (by decide) ⟨by omega, by omega⟩ (fun g10 => ?_) (fun g10 => ?_)
      ·
        refine z_const X (show cdA 187 27 = some (.iconst 0, 1, 0, 0, 0) from rfl) ?_
        refine w_iret X.1 q hRt (nar_ret (by omega)) (ax_d X (show cdA 187 28 = some (.ireturn, 1, 0, 0, 0) from rfl)) (Nat.zero_le _) (Nat.zero_le _) ⟨_, rfl, Is8, Fs8, 0, rfl, by omega, by omega, fun h => absurd h (by omega)⟩
      ·
        refine z_const X (show cdA 187 23 = some (.iconst 1, 1, 0, 0, 0) from rfl) ?_
        refine z_goto X (t := 28) (show cdA 187 24 = some (.goto 4, 3, 0, 0, 0) from rfl) (by decide) ?_
        refine w_iret X.1 q hRt (nar_ret (by omega)) (ax_d X (show cdA 187 28 = some (.ireturn, 1, 0, 0, 0) from rfl)) (Nat.zero_le _) (Nat.zero_le _) ⟨_, rfl, Is8, Fs8, 1, rfl, by omega, by omega, fun h => absurd h (by omega)⟩
theorem c_wrong (G : GX l s0 D tys a0 dT) (I : Bd s) {w p : Int} (hw : 1 ≤ w ∧ w ≤ 9) (hp : -1 ≤ p ∧ p ≤ 400) : CT l s0 D A dT 194 (rmN 194) [.ref (A 179), .int (Int32.ofInt w), .int (Int32.ofInt p)] s (fun o t => Bd t ∧ Fm [79, 80] [] s t ∧ o = .inl none ∧ iI t 79 ≠ 0) := by
  refine ct_of G (by decide) (Nat.le_of_ble_eq_true rfl) (fun k X E hRt hXt q => ?_)
  show WS k 0 [(0, .ref (A 179)), (1, .int (Int32.ofInt w)), (2, .int (Int32.ofInt p))] [] _ 0 0
  have F : Fm [79, 80] [] s s := fm_rf _ _ s
  refine z_aload_n X (x := A 179) (show cdA 194 0 = some (.aload_n 0, 1, 0, 0, 0) from rfl) (List.Mem.head _) ?_
  refine z_getI X 179 (show cdA 194 1 = some (.getfield 191, 3, 12, 6, 0) from rfl) (by decide) rfl rfl ?_
  have b1 : (0 : Int) ≤ iI s 79 ∧ iI s 79 ≤ 9 := I.1 79
  refine z_if_ne X (t := 17) (show cdA 194 4 = some (.ifCond .ne 13, 3, 1, 0, 0) from rfl) (by decide) ⟨by omega, by omega⟩ (fun g2 => ?_) (fun g2 => ?_)
  ·
    exact w_vret X.1 q hRt (ax_d X (show cdA 194 17 = some (.return_, 1, 0, 0, 0) from rfl)) (Nat.zero_le _) (Nat.zero_le _) ⟨_, rfl, I, F, rfl, by omega⟩
  ·
    refine z_aload_n X (x := A 179) (show cdA 194 7 = some (.aload_n 0, 1, 0, 0, 0) from rfl) (List.Mem.head _) ?_
    refine z_load_n X (x := w) (show cdA 194 8 = some (.iload_n 1, 1, 0, 0, 0) from rfl) (List.Mem.tail _ (List.Mem.head _)) ?_
    refine s_putI X 179 (show cdA 194 9 = some (.putfield 191, 3, 12, 6, 0) from rfl) (by decide) rfl rfl (by decide) rfl rfl rfl ?_
    obtain ⟨s3, hs3⟩ : ∃ x0, x0 = uI s 79 (Int32.ofInt w) := ⟨_, rfl⟩
    rw [← hs3]
    have Is3 : Bd s3 := by rw [hs3]; exact bd_I I (show (0 : Int) ≤ w ∧ w ≤ 9 by omega) ⟨by omega, by omega⟩
    have Fs3 := fm_I (x := Int32.ofInt w) F (show 79 ∈ _ by decide)
    rw [← hs3] at Fs3
    have vs3 : iI s3 79 = w := by rw [hs3]; exact iI_u ⟨by omega, by omega⟩
    refine z_aload_n X (x := A 179) (show cdA 194 12 = some (.aload_n 0, 1, 0, 0, 0) from rfl) (List.Mem.head _) ?_
    refine z_load_n X (x := p) (show cdA 194 13 = some (.iload_n 2, 1, 0, 0, 0) from rfl) (List.Mem.tail _ (List.Mem.tail _ (List.Mem.head _))) ?_
    refine s_putI X 179 (show cdA 194 14 = some (.putfield 194, 3, 12, 7, 0) from rfl) (by decide) rfl rfl (by decide) rfl rfl rfl ?_
    obtain ⟨s4, hs4⟩ : ∃ x0, x0 = uI s3 80 (Int32.ofInt p) := ⟨_, rfl⟩
    rw [← hs4]
    have Is4 : Bd s4 := by rw [hs4]; exact bd_I Is3 (show ((-1) : Int) ≤ p ∧ p ≤ 400 by omega) ⟨by omega, by omega⟩
    have Fs4 := fm_I (x := Int32.ofInt p) Fs3 (show 80 ∈ _ by decide)
    rw [← hs4] at Fs4
    have vs4 : iI s4 80 = p := by rw [hs4]; exact iI_u ⟨by omega, by omega⟩
    have ws4_79 : iI s4 79 = iI s3 79 := by rw [hs4]; rfl
    exact w_vret X.1 q hRt (ax_d X (show cdA 194 17 = some (.return_, 1, 0, 0, 0) from rfl)) (Nat.zero_le _) (Nat.zero_le _) ⟨_, rfl, Is4, Fs4, rfl, by omega⟩
theorem c_byteAt (G : GX l s0 D tys a0 dT) (I : Bd s) {x : Int} (hx : 0 ≤ x ∧ x ≤ 2147483647) : CT l s0 D A dT 192 (rmN 192) [.ref (A 179), .int (Int32.ofInt x)] s (fun o t => t = s ∧ ∃ e, o = .inl (some (.int (Int32.ofInt e))) ∧ ((iI s 75 ≤ x ∧ e = -1) ∨ (x < iI s 75 ∧ 0 ≤ e ∧ e ≤ 255))) := by
  refine ct_of G (by decide) (Nat.le_of_ble_eq_true rfl) (fun k X E hRt hXt q => ?_)
  show WS k 0 [(0, .ref (A 179)), (1, .int (Int32.ofInt x))] [] _ 0 0
  refine z_load_n X (x := x) (show cdA 192 0 = some (.iload_n 1, 1, 0, 0, 0) from rfl) (List.Mem.tail _ (List.Mem.head _)) ?_
  refine z_aload_n X (x := A 179) (show cdA 192 1 = some (.aload_n 0, 1, 0, 0, 0) from rfl) (List.Mem.head _) ?_
  refine z_getI X 179 (show cdA 192 2 = some (.getfield 178, 3, 12, 2, 0) from rfl) (by decide) rfl rfl ?_
  have b1 : (0 : Int) ≤ iI s 75 ∧ iI s 75 ≤ 200 := I.1 75
  refine z_icmp_lt X (t := 12) (show cdA 192 5 = some (.if_icmp .lt 7, 3, 2, 0, 0) from rfl) (by decide) ⟨by omega, by omega⟩ ⟨by omega, by omega⟩ (fun g2 => ?_) (fun g2 => ?_)
  ·
    refine z_aload_n X (x := A 179) (show cdA 192 12 = some (.aload_n 0, 1, 0, 0, 0) from rfl) (List.Mem.head _) ?_
    refine z_getI X 179 (show cdA 192 13 = some (.getfield 181, 3, 12, 8, 0) from rfl) (by decide) rfl rfl ?_
    have b3 : (0 : Int) ≤ iI s 81 ∧ iI s 81 ≤ 1 := I.1 81
    refine z_if_ne X (t := 28) (show cdA 192 16 = some (.ifCond .ne 12, 3, 1, 0, 0) from rfl) (by decide) ⟨by omega, by omega⟩ (fun g4 => ?_) (fun g4 => ?_)
    ·
      refine z_aload_n X (x := A 179) (show cdA 192 28 = some (.aload_n 0, 1, 0, 0, 0) from rfl) (List.Mem.head _) ?_
      refine s_getR X 179 (show cdA 192 29 = some (.getfield 17, 3, 12, 10, 0) from rfl) (by decide) rfl rfl ?_
      refine z_load_n X (x := x) (show cdA 192 32 = some (.iload_n 1, 1, 0, 0, 0) from rfl) (List.Mem.tail _ (List.Mem.head _)) ?_
      refine z_ald X 181 (show cdA 192 33 = some (.iaload, 1, 0, 0, 0) from rfl) (by decide) rfl (by omega) (show x < 200 by omega) (by decide) ?_
      have b5 : (0 : Int) ≤ iC s 158 (x).toNat ∧ iC s 158 (x).toNat ≤ 255 := I.2 158 _ (show (x).toNat < 200 by omega)
      refine w_iret X.1 q hRt rfl (ax_d X (show cdA 192 34 = some (.ireturn, 1, 0, 0, 0) from rfl)) (Nat.zero_le _) (Nat.zero_le _) ⟨_, rfl, rfl, (iC s 158 (x).toNat), rfl, by omega⟩
    ·
      refine z_aload_n X (x := A 179) (show cdA 192 19 = some (.aload_n 0, 1, 0, 0, 0) from rfl) (List.Mem.head _) ?_
      refine s_getR X 179 (show cdA 192 20 = some (.getfield 13, 3, 12, 9, 0) from rfl) (by decide) rfl rfl ?_
      refine z_load_n X (x := x) (show cdA 192 23 = some (.iload_n 1, 1, 0, 0, 0) from rfl) (List.Mem.tail _ (List.Mem.head _)) ?_
      refine z_ald X 180 (show cdA 192 24 = some (.iaload, 1, 0, 0, 0) from rfl) (by decide) rfl (by omega) (show x < 200 by omega) (by decide) ?_
      have b6 : (0 : Int) ≤ iC s 157 (x).toNat ∧ iC s 157 (x).toNat ≤ 255 := I.2 157 _ (show (x).toNat < 200 by omega)
      refine z_goto X (t := 34) (show cdA 192 25 = some (.goto 9, 3, 0, 0, 0) from rfl) (by decide) ?_
      refine w_iret X.1 q hRt rfl (ax_d X (show cdA 192 34 = some (.ireturn, 1, 0, 0, 0) from rfl)) (Nat.zero_le _) (Nat.zero_le _) ⟨_, rfl, rfl, (iC s 157 (x).toNat), rfl, by omega⟩
  ·
    refine z_const X (show cdA 192 8 = some (.iconst (-1), 1, 0, 0, 0) from rfl) ?_
    refine z_goto X (t := 34) (show cdA 192 9 = some (.goto 25, 3, 0, 0, 0) from rfl) (by decide) ?_
    refine w_iret X.1 q hRt rfl (ax_d X (show cdA 192 34 = some (.ireturn, 1, 0, 0, 0) from rfl)) (Nat.zero_le _) (Nat.zero_le _) ⟨_, rfl, rfl, (-1), rfl, by omega⟩
theorem c_beginText (G : GX l s0 D tys a0 dT) (I : Bd s) {n : Int} (hn : 0 ≤ n ∧ n ≤ 200) : CT l s0 D A dT 197 (rmN 197) [.ref (A 179), .int (Int32.ofInt n)] s (fun o t => Bd t ∧ Fm [81, 75, 77, 78, 79, 80] [] s t ∧ o = .inl none ∧ iI t 75 = n ∧ iI t 77 = 0 ∧ iI t 78 = 0 ∧ iI t 79 = 0) := by
  refine ct_of G (by decide) (Nat.le_of_ble_eq_true rfl) (fun k X E hRt hXt q => ?_)
  show WS k 0 [(0, .ref (A 179)), (1, .int (Int32.ofInt n))] [] _ 0 0
  have F : Fm [81, 75, 77, 78, 79, 80] [] s s := fm_rf _ _ s
  refine z_aload_n X (x := A 179) (show cdA 197 0 = some (.aload_n 0, 1, 0, 0, 0) from rfl) (List.Mem.head _) ?_
  refine z_const X (show cdA 197 1 = some (.iconst 0, 1, 0, 0, 0) from rfl) ?_
  refine s_putI X 179 (show cdA 197 2 = some (.putfield 181, 3, 12, 8, 0) from rfl) (by decide) rfl rfl (by decide) rfl rfl rfl ?_
  obtain ⟨s1, hs1⟩ : ∃ x0, x0 = uI s 81 (Int32.ofInt 0) := ⟨_, rfl⟩
  rw [← hs1]
  have Is1 : Bd s1 := by rw [hs1]; exact bd_I I (show (0 : Int) ≤ 0 ∧ 0 ≤ 1 by omega) ⟨by omega, by omega⟩
  have Fs1 := fm_I (x := Int32.ofInt 0) F (show 81 ∈ _ by decide)
  rw [← hs1] at Fs1
  have vs1 : iI s1 81 = 0 := by rw [hs1]; exact iI_u ⟨by omega, by omega⟩
  have ws1_75 : iI s1 75 = iI s 75 := by rw [hs1]; rfl
  have ws1_77 : iI s1 77 = iI s 77 := by rw [hs1]; rfl
  have ws1_78 : iI s1 78 = iI s 78 := by rw [hs1]; rfl
  have ws1_79 : iI s1 79 = iI s 79 := by rw [hs1]; rfl
  refine z_aload_n X (x := A 179) (show cdA 197 5 = some (.aload_n 0, 1, 0, 0, 0) from rfl) (List.Mem.head _) ?_
  refine z_load_n X (x := n) (show cdA 197 6 = some (.iload_n 1, 1, 0, 0, 0) from rfl) (List.Mem.tail _ (List.Mem.head _)) ?_
  refine s_putI X 179 (show cdA 197 7 = some (.putfield 178, 3, 12, 2, 0) from rfl) (by decide) rfl rfl (by decide) rfl rfl rfl ?_
  obtain ⟨s2, hs2⟩ : ∃ x0, x0 = uI s1 75 (Int32.ofInt n) := ⟨_, rfl⟩
  rw [← hs2]
  have Is2 : Bd s2 := by rw [hs2]; exact bd_I Is1 (show (0 : Int) ≤ n ∧ n ≤ 200 by omega) ⟨by omega, by omega⟩
  have Fs2 := fm_I (x := Int32.ofInt n) Fs1 (show 75 ∈ _ by decide)
  rw [← hs2] at Fs2
  have vs2 : iI s2 75 = n := by rw [hs2]; exact iI_u ⟨by omega, by omega⟩
  have ws2_77 : iI s2 77 = iI s1 77 := by rw [hs2]; rfl
  have ws2_78 : iI s2 78 = iI s1 78 := by rw [hs2]; rfl
  have ws2_79 : iI s2 79 = iI s1 79 := by rw [hs2]; rfl
  refine z_aload_n X (x := A 179) (show cdA 197 10 = some (.aload_n 0, 1, 0, 0, 0) from rfl) (List.Mem.head _) ?_
  refine z_const X (show cdA 197 11 = some (.iconst 0, 1, 0, 0, 0) from rfl) ?_
  refine s_putI X 179 (show cdA 197 12 = some (.putfield 184, 3, 12, 4, 0) from rfl) (by decide) rfl rfl (by decide) rfl rfl rfl ?_
  obtain ⟨s3, hs3⟩ : ∃ x0, x0 = uI s2 77 (Int32.ofInt 0) := ⟨_, rfl⟩
  rw [← hs3]
  have Is3 : Bd s3 := by rw [hs3]; exact bd_I Is2 (show (0 : Int) ≤ 0 ∧ 0 ≤ 400 by omega) ⟨by omega, by omega⟩
  have Fs3 := fm_I (x := Int32.ofInt 0) Fs2 (show 77 ∈ _ by decide)
  rw [← hs3] at Fs3
  have vs3 : iI s3 77 = 0 := by rw [hs3]; exact iI_u ⟨by omega, by omega⟩
  have ws3_75 : iI s3 75 = iI s2 75 := by rw [hs3]; rfl
  have ws3_78 : iI s3 78 = iI s2 78 := by rw [hs3]; rfl
  have ws3_79 : iI s3 79 = iI s2 79 := by rw [hs3]; rfl
  refine z_aload_n X (x := A 179) (show cdA 197 15 = some (.aload_n 0, 1, 0, 0, 0) from rfl) (List.Mem.head _) ?_
  refine z_const X (show cdA 197 16 = some (.iconst 0, 1, 0, 0, 0) from rfl) ?_
  refine s_putI X 179 (show cdA 197 17 = some (.putfield 213, 3, 12, 5, 0) from rfl) (by decide) rfl rfl (by decide) rfl rfl rfl ?_
  obtain ⟨s4, hs4⟩ : ∃ x0, x0 = uI s3 78 (Int32.ofInt 0) := ⟨_, rfl⟩
  rw [← hs4]
  have Is4 : Bd s4 := by rw [hs4]; exact bd_I Is3 (show (0 : Int) ≤ 0 ∧ 0 ≤ 8 by omega) ⟨by omega, by omega⟩
  have Fs4 := fm_I (x := Int32.ofInt 0) Fs3 (show 78 ∈ _ by decide)
  rw [← hs4] at Fs4
  have vs4 : iI s4 78 = 0 := by rw [hs4]; exact iI_u ⟨by omega, by omega⟩
  have ws4_75 : iI s4 75 = iI s3 75 := by rw [hs4]; rfl
  have ws4_77 : iI s4 77 = iI s3 77 := by rw [hs4]; rfl
  have ws4_79 : iI s4 79 = iI s3 79 := by rw [hs4]; rfl
  refine z_aload_n X (x := A 179) (show cdA 197 20 = some (.aload_n 0, 1, 0, 0, 0) from rfl) (List.Mem.head _) ?_
  refine z_const X (show cdA 197 21 = some (.iconst 0, 1, 0, 0, 0) from rfl) ?_
  refine s_putI X 179 (show cdA 197 22 = some (.putfield 191, 3, 12, 6, 0) from rfl) (by decide) rfl rfl (by decide) rfl rfl rfl ?_
  obtain ⟨s5, hs5⟩ : ∃ x0, x0 = uI s4 79 (Int32.ofInt 0) := ⟨_, rfl⟩
  rw [← hs5]
  have Is5 : Bd s5 := by rw [hs5]; exact bd_I Is4 (show (0 : Int) ≤ 0 ∧ 0 ≤ 9 by omega) ⟨by omega, by omega⟩
  have Fs5 := fm_I (x := Int32.ofInt 0) Fs4 (show 79 ∈ _ by decide)
  rw [← hs5] at Fs5
  have vs5 : iI s5 79 = 0 := by rw [hs5]; exact iI_u ⟨by omega, by omega⟩
  have ws5_75 : iI s5 75 = iI s4 75 := by rw [hs5]; rfl
  have ws5_77 : iI s5 77 = iI s4 77 := by rw [hs5]; rfl
  have ws5_78 : iI s5 78 = iI s4 78 := by rw [hs5]; rfl
  refine z_aload_n X (x := A 179) (show cdA 197 25 = some (.aload_n 0, 1, 0, 0, 0) from rfl) (List.Mem.head _) ?_
  refine z_const X (show cdA 197 26 = some (.iconst (-1), 1, 0, 0, 0) from rfl) ?_
  refine s_putI X 179 (show cdA 197 27 = some (.putfield 194, 3, 12, 7, 0) from rfl) (by decide) rfl rfl (by decide) rfl rfl rfl ?_
  obtain ⟨s6, hs6⟩ : ∃ x0, x0 = uI s5 80 (Int32.ofInt (-1)) := ⟨_, rfl⟩
  rw [← hs6]
  have Is6 : Bd s6 := by rw [hs6]; exact bd_I Is5 (show ((-1) : Int) ≤ (-1) ∧ (-1) ≤ 400 by omega) ⟨by omega, by omega⟩
  have Fs6 := fm_I (x := Int32.ofInt (-1)) Fs5 (show 80 ∈ _ by decide)
  rw [← hs6] at Fs6
  have vs6 : iI s6 80 = (-1) := by rw [hs6]; exact iI_u ⟨by omega, by omega⟩
  have ws6_75 : iI s6 75 = iI s5 75 := by rw [hs6]; rfl
  have ws6_77 : iI s6 77 = iI s5 77 := by rw [hs6]; rfl
  have ws6_78 : iI s6 78 = iI s5 78 := by rw [hs6]; rfl
  have ws6_79 : iI s6 79 = iI s5 79 := by rw [hs6]; rfl
  exact w_vret X.1 q hRt (ax_d X (show cdA 197 30 = some (.return_, 1, 0, 0, 0) from rfl)) (Nat.zero_le _) (Nat.zero_le _) ⟨_, rfl, Is6, Fs6, rfl, by omega, by omega, by omega, by omega⟩
theorem c_blanks (G : GX l s0 D tys a0 dT) (I : Bd s) (hat : iI s 77 ≤ 399) : CT l s0 D A dT 193 (rmN 193) [.ref (A 179)] s (fun o t => Bd t ∧ Fm [77] [] s t ∧ o = .inl none ∧ iI s 77 ≤ iI t 77 ∧ (iI t 77 = iI s 77 ∨ iI t 77 ≤ iI s 75)) := by
  refine ct_of G (by decide) (Nat.le_of_ble_eq_true rfl) (fun k X E hRt hXt q => ?_)
  show WS k 0 [(0, .ref (A 179))] [] _ 0 0
  have hI := I
  suffices L : ∀ (n : Nat) (t : PS), Bd t → Fm [77] [] s t → iI s 77 ≤ iI t 77 → (iI t 77 = iI s 77 ∨ iI t 77 ≤ iI s 75) → iI s 75 - iI t 77 ≤ n → iI t 77 ≤ 399 → WS k 0 [(0, .ref (A 179))] [] (Wd A dT t) 0 0 from L (iI s 75 - iI s 77).toNat s I (fm_rf _ _ s) (by omega) (by omega) (by omega) hat
  clear hat hI I
  intro n
  induction n with
  | zero =>
      intro t I hF h1 h2 h3 h4
      have F : Fm [77] [] t t := fm_rf _ _ t
      have hsz := fm_i hF (show 75 ∉ [77] by decide)
      have b1 : (0 : Int) ≤ iI t 75 ∧ iI t 75 ≤ 200 := I.1 75
      refine z_aload_n X (x := A 179) (show cdA 193 0 = some (.aload_n 0, 1, 0, 0, 0) from rfl) (List.Mem.head _) ?_
      refine z_aload_n X (x := A 179) (show cdA 193 1 = some (.aload_n 0, 1, 0, 0, 0) from rfl) (List.Mem.head _) ?_
      refine z_getI X 179 (show cdA 193 2 = some (.getfield 184, 3, 12, 4, 0) from rfl) (by decide) rfl rfl ?_
      have b2 : (0 : Int) ≤ iI t 77 ∧ iI t 77 ≤ 400 := I.1 77
      refine z_callV X 179 (rm := rmN 192) (As := [.int (Int32.ofInt (iI t 77))]) (st := []) (show cdA 193 5 = some (.invokevirtual 187, 3, 192, 0, 0) from rfl) rfl (by decide) rfl (by rw [E.1, E.2.1, E.2.2.1]; exact c_byteAt G I ⟨by omega, by omega⟩) ⟨by rw [E.2.2.2]; exact (show (rmN 192).frames + 1 ≤ (rmN 193).frames by decide), by rw [E.2.2.2]; exact (show 8 + (mNL (miB 192) + 11) + (rmN 192).locals ≤ (rmN 193).locals by decide), by rw [E.2.2.2]; exact (show 0 + (rmN 192).cells ≤ (rmN 193).cells by decide), by rw [E.2.2.2]; exact (show 0 + (rmN 192).slots ≤ (rmN 193).slots by decide)⟩ (Nat.le_of_ble_eq_true rfl) (fun vv s3 hq => ?_) (fun ee s3 hq => ?_)
      rotate_left
      · obtain ⟨hst, e4, hv, hb⟩ := hq; cases hv
      obtain ⟨hst, e4, hv, hb⟩ := hq
      cases hv
      rw [hst]
      show WS k 8 [(0, .ref (A 179))] [.int (Int32.ofInt e4)] (Wd A dT t) 0 0
      refine z_bipush X (show cdA 193 8 = some (.bipush 32, 2, 0, 0, 32) from rfl) ?_
      refine z_icmp_ne X (t := 26) (show cdA 193 10 = some (.if_icmp .ne 16, 3, 1, 0, 0) from rfl) (by decide) ⟨by omega, by omega⟩ ⟨by omega, by omega⟩ (fun g5 => ?_) (fun g5 => ?_)
      ·
        exact w_vret X.1 q hRt (ax_d X (show cdA 193 26 = some (.return_, 1, 0, 0, 0) from rfl)) (Nat.zero_le _) (Nat.zero_le _) ⟨_, rfl, I, hF, rfl, by omega, by omega⟩
      ·
        refine z_aload_n X (x := A 179) (show cdA 193 13 = some (.aload_n 0, 1, 0, 0, 0) from rfl) (List.Mem.head _) ?_
        refine w_dup X.1 (ax_d X (show cdA 193 14 = some (.dup, 1, 0, 0, 0) from rfl)) rfl ?_
        refine z_getI X 179 (show cdA 193 15 = some (.getfield 184, 3, 12, 4, 0) from rfl) (by decide) rfl rfl ?_
        have b6 : (0 : Int) ≤ iI t 77 ∧ iI t 77 ≤ 400 := I.1 77
        refine z_const X (show cdA 193 18 = some (.iconst 1, 1, 0, 0, 0) from rfl) ?_
        refine z_add X (show cdA 193 19 = some (.iadd, 1, 0, 0, 0) from rfl) ?_
        refine s_putI X 179 (show cdA 193 20 = some (.putfield 184, 3, 12, 4, 0) from rfl) (by decide) rfl rfl (by decide) rfl rfl rfl ?_
        obtain ⟨s7, hs7⟩ : ∃ x0, x0 = uI t 77 (Int32.ofInt ((iI t 77) + 1)) := ⟨_, rfl⟩
        rw [← hs7]
        have Is7 : Bd s7 := by rw [hs7]; exact bd_I I (show (0 : Int) ≤ ((iI t 77) + 1) ∧ ((iI t 77) + 1) ≤ 400 by omega) ⟨by omega, by omega⟩
        have Fs7 := fm_I (x := Int32.ofInt ((iI t 77) + 1)) F (show 77 ∈ _ by decide)
        rw [← hs7] at Fs7
        have vs7 : iI s7 77 = ((iI t 77) + 1) := by rw [hs7]; exact iI_u ⟨by omega, by omega⟩
        have ws7_75 : iI s7 75 = iI t 75 := by rw [hs7]; rfl
        refine z_goto X (t := 0) (show cdA 193 23 = some (.goto (-23), 3, 0, 0, 0) from rfl) (by decide) ?_
        exfalso
        omega
  | succ n ih =>
      intro t I hF h1 h2 h3 h4
      have F : Fm [77] [] t t := fm_rf _ _ t
      have hsz := fm_i hF (show 75 ∉ [77] by decide)
      have b1 : (0 : Int) ≤ iI t 75 ∧ iI t 75 ≤ 200 := I.1 75
      refine z_aload_n X (x := A 179) (show cdA 193 0 = some (.aload_n 0, 1, 0, 0, 0) from rfl) (List.Mem.head _) ?_
      refine z_aload_n X (x := A 179) (show cdA 193 1 = some (.aload_n 0, 1, 0, 0, 0) from rfl) (List.Mem.head _) ?_
      refine z_getI X 179 (show cdA 193 2 = some (.getfield 184, 3, 12, 4, 0) from rfl) (by decide) rfl rfl ?_
      have b2 : (0 : Int) ≤ iI t 77 ∧ iI t 77 ≤ 400 := I.1 77
      refine z_callV X 179 (rm := rmN 192) (As := [.int (Int32.ofInt (iI t 77))]) (st := []) (show cdA 193 5 = some (.invokevirtual 187, 3, 192, 0, 0) from rfl) rfl (by decide) rfl (by rw [E.1, E.2.1, E.2.2.1]; exact c_byteAt G I ⟨by omega, by omega⟩) ⟨by rw [E.2.2.2]; exact (show (rmN 192).frames + 1 ≤ (rmN 193).frames by decide), by rw [E.2.2.2]; exact (show 8 + (mNL (miB 192) + 11) + (rmN 192).locals ≤ (rmN 193).locals by decide), by rw [E.2.2.2]; exact (show 0 + (rmN 192).cells ≤ (rmN 193).cells by decide), by rw [E.2.2.2]; exact (show 0 + (rmN 192).slots ≤ (rmN 193).slots by decide)⟩ (Nat.le_of_ble_eq_true rfl) (fun vv s3 hq => ?_) (fun ee s3 hq => ?_)
      rotate_left
      · obtain ⟨hst, e4, hv, hb⟩ := hq; cases hv
      obtain ⟨hst, e4, hv, hb⟩ := hq
      cases hv
      rw [hst]
      show WS k 8 [(0, .ref (A 179))] [.int (Int32.ofInt e4)] (Wd A dT t) 0 0
      refine z_bipush X (show cdA 193 8 = some (.bipush 32, 2, 0, 0, 32) from rfl) ?_
      refine z_icmp_ne X (t := 26) (show cdA 193 10 = some (.if_icmp .ne 16, 3, 1, 0, 0) from rfl) (by decide) ⟨by omega, by omega⟩ ⟨by omega, by omega⟩ (fun g5 => ?_) (fun g5 => ?_)
      ·
        exact w_vret X.1 q hRt (ax_d X (show cdA 193 26 = some (.return_, 1, 0, 0, 0) from rfl)) (Nat.zero_le _) (Nat.zero_le _) ⟨_, rfl, I, hF, rfl, by omega, by omega⟩
      ·
        refine z_aload_n X (x := A 179) (show cdA 193 13 = some (.aload_n 0, 1, 0, 0, 0) from rfl) (List.Mem.head _) ?_
        refine w_dup X.1 (ax_d X (show cdA 193 14 = some (.dup, 1, 0, 0, 0) from rfl)) rfl ?_
        refine z_getI X 179 (show cdA 193 15 = some (.getfield 184, 3, 12, 4, 0) from rfl) (by decide) rfl rfl ?_
        have b6 : (0 : Int) ≤ iI t 77 ∧ iI t 77 ≤ 400 := I.1 77
        refine z_const X (show cdA 193 18 = some (.iconst 1, 1, 0, 0, 0) from rfl) ?_
        refine z_add X (show cdA 193 19 = some (.iadd, 1, 0, 0, 0) from rfl) ?_
        refine s_putI X 179 (show cdA 193 20 = some (.putfield 184, 3, 12, 4, 0) from rfl) (by decide) rfl rfl (by decide) rfl rfl rfl ?_
        obtain ⟨s7, hs7⟩ : ∃ x0, x0 = uI t 77 (Int32.ofInt ((iI t 77) + 1)) := ⟨_, rfl⟩
        rw [← hs7]
        have Is7 : Bd s7 := by rw [hs7]; exact bd_I I (show (0 : Int) ≤ ((iI t 77) + 1) ∧ ((iI t 77) + 1) ≤ 400 by omega) ⟨by omega, by omega⟩
        have Fs7 := fm_I (x := Int32.ofInt ((iI t 77) + 1)) F (show 77 ∈ _ by decide)
        rw [← hs7] at Fs7
        have vs7 : iI s7 77 = ((iI t 77) + 1) := by rw [hs7]; exact iI_u ⟨by omega, by omega⟩
        have ws7_75 : iI s7 75 = iI t 75 := by rw [hs7]; rfl
        refine z_goto X (t := 0) (show cdA 193 23 = some (.goto (-23), 3, 0, 0, 0) from rfl) (by decide) ?_
        exact ih _ Is7 (fm_tr hF Fs7 (fun _ h => h) (fun _ h => h)) (by omega) (by omega) (by omega) (by omega)
end M30
