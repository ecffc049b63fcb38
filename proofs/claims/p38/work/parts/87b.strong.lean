theorem oq_9603bbcc {a0 : Int} (h0 : a0 < 40) : a0 ≠ 40 := by omega
theorem oq_1349e71a {a0 a1 a2 a3 a4 : Int} (h0 : a0 = (a1 + 1)) (h1 : a1 = a2) (h2 : a2 = a3) (h3 : a3 = a4) : (a0 - 1) = a4 := by omega
theorem oq_003dad9f {a0 a1 a2 a3 a4 : Int} (h0 : a0 = (a1 + 1)) (h1 : a1 = a2) (h2 : a2 = a3) (h3 : a3 = a4) : a0 = (a4 + 1) := by omega
theorem oq_cb92d216 {a0 : Int} (h0 : a0 ≤ 40) (h1 : 40 ≤ a0) : a0 = 40 := by omega
/-! Contracts that say what is answered -/
/-- the law's long -/
def iO (t : PS) : Int := (gD t 460 0).toInt
theorem iO_u {s : PS} {e : Int} (h : rng e) : iO (uD s 460 (0 : Int).toNat (Int32.ofInt e).toInt64) = e := by
  show ((if 460 = 460 then vp_updL (s.2.2.2.1 460) (0 : Int).toNat (Int32.ofInt e).toInt64 else s.2.2.2.1 460) 0).toInt = e
  rw [if_pos rfl]
  show ((if 0 = (0 : Int).toNat then (Int32.ofInt e).toInt64 else s.2.2.2.1 460 0)).toInt = e
  rw [if_pos (by decide), Int32.toInt_toInt64, zi h]
theorem fm_o {L M : List Nat} {s t : PS} (F : Fm L M s t) (h : 460 + 1000 ∉ M) : iO t = iO s := congrArg Int64.toInt (fm_dd F h)
section M87b
variable {l : Launch} {s0 : State} {D : va_G} {tys : List (ClassId × FieldType)} {a0 : Array Value} {A : Nat → Nat} {dT : Nat → ClassId} {s : PS}
set_option maxRecDepth 4000 in
theorem k_in2 (G : GX l s0 D tys a0 dT) (I : Bd s) {x y z : Int} (p0 : rng x) (p1 : rng y) (p2 : rng z) : CT l s0 D A dT 188 (rmN 188) [.int (Int32.ofInt x), .int (Int32.ofInt y), .int (Int32.ofInt z)] s (fun o t => s = t ∧ ∃ e, o = .inl (some (.int (Int32.ofInt e))) ∧ rng e ∧ ((e = 1 ∧ y ≤ x ∧ x ≤ z) ∨ (e = 0 ∧ (x < y ∨ z < x)))) := by
  refine ct_of G (by decide) (Nat.le_of_ble_eq_true rfl) (fun k X E hRt hXt q => ?_)
  show WS k 0 [(0, .int (Int32.ofInt x)), (1, .int (Int32.ofInt y)), (2, .int (Int32.ofInt z))] [] _ 0 0
  have F : Fm [] [] s s := fm_rf _ _ s
  refine z_load_n X (x := x) (show cdA 188 0 = some (.iload_n 0, 1, 0, 0, 0) from rfl) (List.Mem.head _) ?_
  refine z_load_n X (x := y) (show cdA 188 1 = some (.iload_n 1, 1, 0, 0, 0) from rfl) (List.Mem.tail _ (List.Mem.head _)) ?_
  have N1 : ∀ e2 : Int, (((x < y) ∧ e2 = 0) ∨ ((y ≤ x) ∧ (z < x) ∧ e2 = 0) ∨ ((y ≤ x) ∧ (x ≤ z) ∧ e2 = 1)) → WS k 15 [(0, .int (Int32.ofInt x)), (1, .int (Int32.ofInt y)), (2, .int (Int32.ofInt z))] [.int (Int32.ofInt e2)] (Wd A dT s) 0 0 := by
    intro e2 he2
    have re2 : 0 ≤ e2 ∧ e2 ≤ 1 := by first | (clear he2; omega) | omega
    exact w_iret X.1 q hRt (nar_ret (by first | (clear he2; omega) | omega)) (ax_d X (show cdA 188 15 = some (.ireturn, 1, 0, 0, 0) from rfl)) (Nat.zero_le _) (Nat.zero_le _) ⟨_, rfl, rfl, e2, rfl, ⟨by first | exact oq_fa4e5087 re2.1 | omega, by first | exact oq_22e1e6b0 re2.2 | omega⟩, by first | (clear he2; omega) | omega⟩
  refine z_icmp_lt X (t := 14) (show cdA 188 2 = some (.if_icmp .lt 12, 3, 2, 0, 0) from rfl) (by decide) ⟨by first | exact p0.1 | omega, by first | exact p0.2 | omega⟩ ⟨by first | exact p1.1 | omega, by first | exact p1.2 | omega⟩ (fun g3 => ?_) (fun g3 => ?_)
  ·
    refine z_const X (show cdA 188 14 = some (.iconst 0, 1, 0, 0, 0) from rfl) ?_
    exact N1 _ (Or.inl ⟨g3, rfl⟩)
  ·
    refine z_load_n X (x := x) (show cdA 188 5 = some (.iload_n 0, 1, 0, 0, 0) from rfl) (List.Mem.head _) ?_
    refine z_load_n X (x := z) (show cdA 188 6 = some (.iload_n 2, 1, 0, 0, 0) from rfl) (List.Mem.tail _ (List.Mem.tail _ (List.Mem.head _))) ?_
    refine z_icmp_gt X (t := 14) (show cdA 188 7 = some (.if_icmp .gt 7, 3, 4, 0, 0) from rfl) (by decide) ⟨by first | exact p0.1 | omega, by first | exact p0.2 | omega⟩ ⟨by first | exact p2.1 | omega, by first | exact p2.2 | omega⟩ (fun g4 => ?_) (fun g4 => ?_)
    ·
      refine z_const X (show cdA 188 14 = some (.iconst 0, 1, 0, 0, 0) from rfl) ?_
      exact N1 _ (Or.inr (Or.inl ⟨g3, g4, rfl⟩))
    ·
      refine z_const X (show cdA 188 10 = some (.iconst 1, 1, 0, 0, 0) from rfl) ?_
      refine z_goto X (t := 15) (show cdA 188 11 = some (.goto 4, 3, 0, 0, 0) from rfl) (by decide) ?_
      exact N1 _ (Or.inr (Or.inr (⟨g3, g4, rfl⟩)))
set_option maxRecDepth 4000 in
theorem k_bad2 (G : GX l s0 D tys a0 dT) (I : Bd s) {x y : Int} (p0 : x = 0 ∨ x = 1) (p1 : 1 ≤ y ∧ y ≤ 3) : CT l s0 D A dT 187 (rmN 187) [.ref (A 179), .int (Int32.ofInt x), .int (Int32.ofInt y)] s (fun o t => Bd t ∧ Fm [73] [] s t ∧ ∃ e, o = .inl (some (.int (Int32.ofInt e))) ∧ rng e ∧ (((x = 1 ∧ iI s 73 = 0 ∧ iI t 73 = y ∧ e = 1) ∨ ((x = 0 ∨ iI s 73 ≠ 0) ∧ iI t 73 = iI s 73 ∧ ((e = 0 ∧ iI s 73 = 0) ∨ (e = 1 ∧ iI s 73 ≠ 0)))))) := by
  refine ct_of G (by decide) (Nat.le_of_ble_eq_true rfl) (fun k X E hRt hXt q => ?_)
  show WS k 0 [(0, .ref (A 179)), (1, .int (Int32.ofInt x)), (2, .int (Int32.ofInt y))] [] _ 0 0
  have F : Fm [73] [] s s := fm_rf _ _ s
  have b1 : (0 : Int) ≤ iI s 73 ∧ iI s 73 ≤ 3 := I.1 73
  refine z_load_n X (x := x) (show cdA 187 0 = some (.iload_n 1, 1, 0, 0, 0) from rfl) (List.Mem.tail _ (List.Mem.head _)) ?_
  refine z_if_eq X (t := 16) (show cdA 187 1 = some (.ifCond .eq 15, 3, 0, 0, 0) from rfl) (by decide) ⟨by first | (clear p0; omega) | omega, by first | (clear p0; omega) | omega⟩ (fun g2 => ?_) (fun g2 => ?_)
  ·
    refine z_aload_n X (x := A 179) (show cdA 187 16 = some (.aload_n 0, 1, 0, 0, 0) from rfl) (List.Mem.head _) ?_
    refine z_getI X 179 (show cdA 187 17 = some (.getfield 172, 3, 12, 0, 0) from rfl) (by decide) rfl rfl ?_
    have b3 : (0 : Int) ≤ iI s 73 ∧ iI s 73 ≤ 3 := I.1 73
    have N4 : ∀ e5 : Int, ((((iI s 73) = 0) ∧ e5 = 0) ∨ (((iI s 73) ≠ 0) ∧ e5 = 1)) → WS k 28 [(0, .ref (A 179)), (1, .int (Int32.ofInt x)), (2, .int (Int32.ofInt y))] [.int (Int32.ofInt e5)] (Wd A dT s) 0 0 := by
      intro e5 he5
      have re5 : 0 ≤ e5 ∧ e5 ≤ 1 := by first | (clear he5 p0; omega) | (clear p0; omega) | omega
      exact w_iret X.1 q hRt (nar_ret (by first | (clear he5 p0; omega) | (clear p0; omega) | omega)) (ax_d X (show cdA 187 28 = some (.ireturn, 1, 0, 0, 0) from rfl)) (Nat.zero_le _) (Nat.zero_le _) ⟨_, rfl, I, F, e5, rfl, ⟨by first | exact oq_fa4e5087 re5.1 | omega, by first | exact oq_22e1e6b0 re5.2 | omega⟩, by first | (clear he5 p0; omega) | (clear p0; omega) | omega⟩
    refine z_if_eq X (t := 27) (show cdA 187 20 = some (.ifCond .eq 7, 3, 0, 0, 0) from rfl) (by decide) (rng_to _) (fun g6 => ?_) (fun g6 => ?_)
    ·
      refine z_const X (show cdA 187 27 = some (.iconst 0, 1, 0, 0, 0) from rfl) ?_
      exact N4 _ (Or.inl ⟨g6, rfl⟩)
    ·
      refine z_const X (show cdA 187 23 = some (.iconst 1, 1, 0, 0, 0) from rfl) ?_
      refine z_goto X (t := 28) (show cdA 187 24 = some (.goto 4, 3, 0, 0, 0) from rfl) (by decide) ?_
      exact N4 _ (Or.inr (⟨g6, rfl⟩))
  ·
    refine z_aload_n X (x := A 179) (show cdA 187 4 = some (.aload_n 0, 1, 0, 0, 0) from rfl) (List.Mem.head _) ?_
    refine z_getI X 179 (show cdA 187 5 = some (.getfield 172, 3, 12, 0, 0) from rfl) (by decide) rfl rfl ?_
    have b7 : (0 : Int) ≤ iI s 73 ∧ iI s 73 ≤ 3 := I.1 73
    refine z_if_ne X (t := 16) (show cdA 187 8 = some (.ifCond .ne 8, 3, 1, 0, 0) from rfl) (by decide) (rng_to _) (fun g8 => ?_) (fun g8 => ?_)
    ·
      refine z_aload_n X (x := A 179) (show cdA 187 16 = some (.aload_n 0, 1, 0, 0, 0) from rfl) (List.Mem.head _) ?_
      refine z_getI X 179 (show cdA 187 17 = some (.getfield 172, 3, 12, 0, 0) from rfl) (by decide) rfl rfl ?_
      have b9 : (0 : Int) ≤ iI s 73 ∧ iI s 73 ≤ 3 := I.1 73
      have N10 : ∀ e11 : Int, ((((iI s 73) = 0) ∧ e11 = 0) ∨ (((iI s 73) ≠ 0) ∧ e11 = 1)) → WS k 28 [(0, .ref (A 179)), (1, .int (Int32.ofInt x)), (2, .int (Int32.ofInt y))] [.int (Int32.ofInt e11)] (Wd A dT s) 0 0 := by
        intro e11 he11
        have re11 : 0 ≤ e11 ∧ e11 ≤ 1 := by first | (clear he11 g8 g2 p0; omega) | (clear g8 g2 p0; omega) | omega
        exact w_iret X.1 q hRt (nar_ret (by first | (clear he11 g8 g2 p0; omega) | (clear g8 g2 p0; omega) | omega)) (ax_d X (show cdA 187 28 = some (.ireturn, 1, 0, 0, 0) from rfl)) (Nat.zero_le _) (Nat.zero_le _) ⟨_, rfl, I, F, e11, rfl, ⟨by first | exact oq_fa4e5087 re11.1 | omega, by first | exact oq_22e1e6b0 re11.2 | omega⟩, by first | (clear he11 g8 g2 p0; omega) | (clear g8 g2 p0; omega) | omega⟩
      refine z_if_eq X (t := 27) (show cdA 187 20 = some (.ifCond .eq 7, 3, 0, 0, 0) from rfl) (by decide) (rng_to _) (fun g12 => ?_) (fun g12 => ?_)
      ·
        refine z_const X (show cdA 187 27 = some (.iconst 0, 1, 0, 0, 0) from rfl) ?_
        exact N10 _ (Or.inl ⟨g12, rfl⟩)
      ·
        refine z_const X (show cdA 187 23 = some (.iconst 1, 1, 0, 0, 0) from rfl) ?_
        refine z_goto X (t := 28) (show cdA 187 24 = some (.goto 4, 3, 0, 0, 0) from rfl) (by decide) ?_
        exact N10 _ (Or.inr (⟨g12, rfl⟩))
    ·
      refine z_aload_n X (x := A 179) (show cdA 187 11 = some (.aload_n 0, 1, 0, 0, 0) from rfl) (List.Mem.head _) ?_
      refine z_load_n X (x := y) (show cdA 187 12 = some (.iload_n 2, 1, 0, 0, 0) from rfl) (List.Mem.tail _ (List.Mem.tail _ (List.Mem.head _))) ?_
      refine s_putI X 179 (show cdA 187 13 = some (.putfield 172, 3, 12, 0, 0) from rfl) (by decide) rfl rfl (by decide) rfl rfl rfl ?_
      obtain ⟨s13, hs13⟩ : ∃ x0, x0 = uI s 73 (Int32.ofInt y) := ⟨_, rfl⟩
      rw [← hs13]
      have Is13 : Bd s13 := by rw [hs13]; exact bd_I I (show (0 : Int) ≤ y ∧ y ≤ 3 by first | exact ⟨oq_2a6e3b50 p1.1, p1.2⟩ | omega) ⟨by first | exact oq_9462313e p1.1 | omega, by first | exact oq_c5520c83 p1.2 | omega⟩
      have Fs13 := fm_I (x := Int32.ofInt y) F (show 73 ∈ _ by decide)
      rw [← hs13] at Fs13
      have vs13 : iI s13 73 = y := by rw [hs13]; exact iI_u ⟨by first | exact oq_9462313e p1.1 | omega, by first | exact oq_c5520c83 p1.2 | omega⟩
      have wos13 : iO s13 = iO s := by rw [hs13]; rfl
      refine z_aload_n X (x := A 179) (show cdA 187 16 = some (.aload_n 0, 1, 0, 0, 0) from rfl) (List.Mem.head _) ?_
      refine z_getI X 179 (show cdA 187 17 = some (.getfield 172, 3, 12, 0, 0) from rfl) (by decide) rfl rfl ?_
      have b14 : (0 : Int) ≤ iI s13 73 ∧ iI s13 73 ≤ 3 := Is13.1 73
      have N15 : ∀ e16 : Int, ((((iI s13 73) = 0) ∧ e16 = 0) ∨ (((iI s13 73) ≠ 0) ∧ e16 = 1)) → WS k 28 [(0, .ref (A 179)), (1, .int (Int32.ofInt x)), (2, .int (Int32.ofInt y))] [.int (Int32.ofInt e16)] (Wd A dT s13) 0 0 := by
        intro e16 he16
        have re16 : 0 ≤ e16 ∧ e16 ≤ 1 := by first | (clear he16 g2 p0; omega) | (clear g2 p0; omega) | omega
        exact w_iret X.1 q hRt (nar_ret (by first | (clear he16 g2 p0; omega) | (clear g2 p0; omega) | omega)) (ax_d X (show cdA 187 28 = some (.ireturn, 1, 0, 0, 0) from rfl)) (Nat.zero_le _) (Nat.zero_le _) ⟨_, rfl, Is13, Fs13, e16, rfl, ⟨by first | exact oq_fa4e5087 re16.1 | omega, by first | exact oq_22e1e6b0 re16.2 | omega⟩, by first | (clear he16 g2 p0; omega) | (clear g2 p0; omega) | omega⟩
      refine z_if_eq X (t := 27) (show cdA 187 20 = some (.ifCond .eq 7, 3, 0, 0, 0) from rfl) (by decide) (rng_to _) (fun g17 => ?_) (fun g17 => ?_)
      ·
        refine z_const X (show cdA 187 27 = some (.iconst 0, 1, 0, 0, 0) from rfl) ?_
        exact N15 _ (Or.inl ⟨g17, rfl⟩)
      ·
        refine z_const X (show cdA 187 23 = some (.iconst 1, 1, 0, 0, 0) from rfl) ?_
        refine z_goto X (t := 28) (show cdA 187 24 = some (.goto 4, 3, 0, 0, 0) from rfl) (by decide) ?_
        exact N15 _ (Or.inr (⟨g17, rfl⟩))
set_option maxRecDepth 4000 in
theorem cs_needWithin2 (G : GX l s0 D tys a0 dT) (I : Bd s) {v lo hi : Int} (p0 : rng v) (p1 : rng lo) (p2 : rng hi) : CT l s0 D A dT 184 (rmN 184) [.ref (A 0), .int (Int32.ofInt v), .int (Int32.ofInt lo), .int (Int32.ofInt hi)] s (fun o t => Bd t ∧ Fm [] [] s t ∧ ((o = .inl none ∧ (lo ≤ v ∧ v ≤ hi)) ∨ ∃ x : Nat, o = .inr (exN x) ∧ (x = 0 ∧ (v < lo ∨ hi < v)))) := by
  refine ct_ofX G (by decide) (Nat.le_of_ble_eq_true rfl) (fun k X E ET hRt hXt q => ?_)
  show WS k 0 [(0, .ref (A 0)), (1, .int (Int32.ofInt v)), (2, .int (Int32.ofInt lo)), (3, .int (Int32.ofInt hi))] [] _ 0 0
  have F : Fm [] [] s s := fm_rf _ _ s
  refine z_load_n X (x := v) (show cdA 184 0 = some (.iload_n 1, 1, 0, 0, 0) from rfl) (List.Mem.tail _ (List.Mem.head _)) ?_
  refine z_load_n X (x := lo) (show cdA 184 1 = some (.iload_n 2, 1, 0, 0, 0) from rfl) (List.Mem.tail _ (List.Mem.tail _ (List.Mem.head _))) ?_
  refine z_icmp_lt X (t := 10) (show cdA 184 2 = some (.if_icmp .lt 8, 3, 2, 0, 0) from rfl) (by decide) ⟨by first | exact p0.1 | omega, by first | exact p0.2 | omega⟩ ⟨by first | exact p1.1 | omega, by first | exact p1.2 | omega⟩ (fun g1 => ?_) (fun g1 => ?_)
  ·
    exact z_throw G X E ET hXt q (st := []) (show cdA 184 10 = some (.new 108, 3, 0, 2, 0) from rfl) (by decide) (by decide) (Nat.le_of_ble_eq_true rfl) (show 0 + 1 ≤ 1 by omega) (show 0 + 6 ≤ 6 by omega) (show 0 + 1 ≤ 1 by omega) (show 0 + 6 ≤ 6 by omega) ⟨_, rfl, I, F, Or.inr ⟨0, rfl, by omega⟩⟩
  ·
    refine z_load_n X (x := v) (show cdA 184 5 = some (.iload_n 1, 1, 0, 0, 0) from rfl) (List.Mem.tail _ (List.Mem.head _)) ?_
    refine z_load_n X (x := hi) (show cdA 184 6 = some (.iload_n 3, 1, 0, 0, 0) from rfl) (List.Mem.tail _ (List.Mem.tail _ (List.Mem.tail _ (List.Mem.head _)))) ?_
    refine z_icmp_le X (t := 21) (show cdA 184 7 = some (.if_icmp .le 14, 3, 5, 0, 0) from rfl) (by decide) ⟨by first | exact p0.1 | omega, by first | exact p0.2 | omega⟩ ⟨by first | exact p2.1 | omega, by first | exact p2.2 | omega⟩ (fun g2 => ?_) (fun g2 => ?_)
    ·
      exact w_vret X.1 q hRt (ax_d X (show cdA 184 21 = some (.return_, 1, 0, 0, 0) from rfl)) (Nat.zero_le _) (Nat.zero_le _) ⟨_, rfl, I, F, Or.inl ⟨rfl, by first | exact ⟨g1, g2⟩ | omega⟩⟩
    ·
      exact z_throw G X E ET hXt q (st := []) (show cdA 184 10 = some (.new 108, 3, 0, 2, 0) from rfl) (by decide) (by decide) (Nat.le_of_ble_eq_true rfl) (show 0 + 1 ≤ 1 by omega) (show 0 + 6 ≤ 6 by omega) (show 0 + 1 ≤ 1 by omega) (show 0 + 6 ≤ 6 by omega) ⟨_, rfl, I, F, Or.inr ⟨0, rfl, by omega⟩⟩
set_option maxRecDepth 4000 in
theorem k_did2 (G : GX l s0 D tys a0 dT) (I : Bd s) (jRLx : RLx s) {x y z w : Int} (p0 : rng x) (p1 : rng y) (p2 : rng z) (p3 : w = 0 ∨ w = 1) : CT l s0 D A dT 287 (rmN 287) [.ref (A 179), .int (Int32.ofInt x), .int (Int32.ofInt y), .int (Int32.ofInt z), .int (Int32.ofInt w)] s (fun o t => Bd t ∧ Fm [73, 107, 77, 75, 78, 79, 80, 81] [202, 204, 205, 206, 207, 208, 209, 210, 211, 212, 213, 214, 215, 216, 217, 218, 219, 220, 221, 222, 223, 224, 225, 226, 227, 203, 161, 230, 417, 418, 419, 420, 421, 422, 423, 424, 425, 426, 427, 428, 429, 430, 431, 432, 433, 434, 435, 436, 437, 438, 439, 440, 441, 442, 443, 444, 445, 446, 447, 448, 449, 450, 451, 452, 453, 454, 455, 456, 457, 459] s t ∧ RLx t ∧ ∃ e, o = .inl (some (.int (Int32.ofInt e))) ∧ rng e ∧ (((0 ≤ x ∧ x ≤ 7 ∧ 0 ≤ y ∧ y ≤ 23 ∧ 0 ≤ z ∧ z ≤ 9999 ∧ iI t 73 = 0 ∧ ((iI s 107 = 40 ∧ e = -1 ∧ iI t 107 = 40) ∨ (iI s 107 ≠ 40 ∧ e = iI s 107 ∧ iI t 107 = iI s 107 + 1))) ∨ ((x < 0 ∨ 7 < x ∨ y < 0 ∨ 23 < y ∨ z < 0 ∨ 9999 < z) ∧ iI t 73 = 1 ∧ iI t 107 = iI s 107)))) := by
  refine ct_of G (by decide) (Nat.le_of_ble_eq_true rfl) (fun k X E hRt hXt q => ?_)
  show WS k 0 [(0, .ref (A 179)), (1, .int (Int32.ofInt x)), (2, .int (Int32.ofInt y)), (3, .int (Int32.ofInt z)), (4, .int (Int32.ofInt w))] [] _ 0 0
  have F : Fm [73, 107, 77, 75, 78, 79, 80, 81] [202, 204, 205, 206, 207, 208, 209, 210, 211, 212, 213, 214, 215, 216, 217, 218, 219, 220, 221, 222, 223, 224, 225, 226, 227, 203, 161, 230, 417, 418, 419, 420, 421, 422, 423, 424, 425, 426, 427, 428, 429, 430, 431, 432, 433, 434, 435, 436, 437, 438, 439, 440, 441, 442, 443, 444, 445, 446, 447, 448, 449, 450, 451, 452, 453, 454, 455, 456, 457, 459] s s := fm_rf _ _ s
  have b1 : (0 : Int) ≤ iI s 73 ∧ iI s 73 ≤ 3 := I.1 73
  have b2 : (0 : Int) ≤ iI s 107 ∧ iI s 107 ≤ 40 := I.1 107
  have L79 : ∀ (n : Nat) (t : PS) (xv yv zv wv c : Int), Bd t → Fm [73, 107, 77, 75, 78, 79, 80, 81] [202, 204, 205, 206, 207, 208, 209, 210, 211, 212, 213, 214, 215, 216, 217, 218, 219, 220, 221, 222, 223, 224, 225, 226, 227, 203, 161, 230, 417, 418, 419, 420, 421, 422, 423, 424, 425, 426, 427, 428, 429, 430, 431, 432, 433, 434, 435, 436, 437, 438, 439, 440, 441, 442, 443, 444, 445, 446, 447, 448, 449, 450, 451, 452, 453, 454, 455, 456, 457, 459] s t → RLx t → (rng zv ∧ (wv = 0 ∨ wv = 1) ∧ 0 ≤ c ∧ c ≤ 4 ∧ iI t 107 ≤ 39 ∧ iI t 107 = iI s 107 ∧ iI t 73 = 0) → (4 - c : Int).toNat < n → (∀ (t' : PS) (c' : Int), Bd t' → Fm [73, 107, 77, 75, 78, 79, 80, 81] [202, 204, 205, 206, 207, 208, 209, 210, 211, 212, 213, 214, 215, 216, 217, 218, 219, 220, 221, 222, 223, 224, 225, 226, 227, 203, 161, 230, 417, 418, 419, 420, 421, 422, 423, 424, 425, 426, 427, 428, 429, 430, 431, 432, 433, 434, 435, 436, 437, 438, 439, 440, 441, 442, 443, 444, 445, 446, 447, 448, 449, 450, 451, 452, 453, 454, 455, 456, 457, 459] s t' → RLx t' → (rng zv ∧ (wv = 0 ∨ wv = 1) ∧ 0 ≤ c' ∧ c' ≤ 4 ∧ iI t' 107 ≤ 39 ∧ iI t' 107 = iI s 107 ∧ iI t' 73 = 0) → WS k 110 [(0, .ref (A 179)), (1, .int (Int32.ofInt xv)), (2, .int (Int32.ofInt yv)), (3, .int (Int32.ofInt zv)), (4, .int (Int32.ofInt wv)), (5, .int (Int32.ofInt c'))] [] (Wd A dT t') 0 0) → WS k 79 [(0, .ref (A 179)), (1, .int (Int32.ofInt xv)), (2, .int (Int32.ofInt yv)), (3, .int (Int32.ofInt zv)), (4, .int (Int32.ofInt wv)), (5, .int (Int32.ofInt c))] [] (Wd A dT t) 0 0 := by
    intro n
    induction n with
    | zero =>
      intro t xv yv zv wv c I F jjRLx hi hm kx
      exact absurd hm (Nat.not_lt_zero _)
    | succ n ih =>
      intro t xv yv zv wv c I F jjRLx hi hm kx
      have b1001 : (0 : Int) ≤ iI t 73 ∧ iI t 73 ≤ 3 := I.1 73
      have b1002 : (0 : Int) ≤ iI t 107 ∧ iI t 107 ≤ 40 := I.1 107
      refine z_load X (x := c) (show cdA 287 79 = some (.iload 5, 2, 0, 0, 0) from rfl) (List.Mem.tail _ (List.Mem.tail _ (List.Mem.tail _ (List.Mem.tail _ (List.Mem.tail _ (List.Mem.head _)))))) ?_
      refine z_const X (show cdA 287 81 = some (.iconst 4, 1, 0, 0, 0) from rfl) ?_
      refine z_icmp_ge X (t := 110) (show cdA 287 82 = some (.if_icmp .ge 28, 3, 3, 0, 0) from rfl) (by decide) ⟨by first | exact oq_fa4e5087 hi.2.2.1 | omega, by first | exact oq_4a4414da hi.2.2.2.1 | omega⟩ (by decide) (fun g1003 => ?_) (fun g1003 => ?_)
      ·
        refine WS_lv (lv := [(0, .ref (A 179)), (1, .int (Int32.ofInt xv)), (2, .int (Int32.ofInt yv)), (3, .int (Int32.ofInt zv)), (4, .int (Int32.ofInt wv)), (5, .int (Int32.ofInt c))]) (List.forall_mem_cons.mpr ⟨(List.Mem.head _), (List.forall_mem_cons.mpr ⟨(List.Mem.tail _ (List.Mem.head _)), (List.forall_mem_cons.mpr ⟨(List.Mem.tail _ (List.Mem.tail _ (List.Mem.head _))), (List.forall_mem_cons.mpr ⟨(List.Mem.tail _ (List.Mem.tail _ (List.Mem.tail _ (List.Mem.head _)))), (List.forall_mem_cons.mpr ⟨(List.Mem.tail _ (List.Mem.tail _ (List.Mem.tail _ (List.Mem.tail _ (List.Mem.head _))))), (List.forall_mem_cons.mpr ⟨(List.Mem.tail _ (List.Mem.tail _ (List.Mem.tail _ (List.Mem.tail _ (List.Mem.tail _ (List.Mem.head _)))))), (fun q h => absurd h List.not_mem_nil)⟩)⟩)⟩)⟩)⟩)⟩) ?_
        exact kx _ c I F jjRLx (by first | exact ⟨And.intro (hi.1.1) (hi.1.2), hi.2.1, hi.2.2.1, hi.2.2.2.1, hi.2.2.2.2.1, hi.2.2.2.2.2.1, hi.2.2.2.2.2.2⟩ | omega)
      ·
        refine z_aload_n X (x := A 179) (show cdA 287 85 = some (.aload_n 0, 1, 0, 0, 0) from rfl) (List.Mem.head _) ?_
        refine s_getR X 179 (show cdA 287 86 = some (.getfield 160, 3, 12, 77, 0) from rfl) (by decide) rfl rfl ?_
        refine z_aload_n X (x := A 179) (show cdA 287 89 = some (.aload_n 0, 1, 0, 0, 0) from rfl) (List.Mem.head _) ?_
        refine z_getI X 179 (show cdA 287 90 = some (.getfield 458, 3, 12, 76, 0) from rfl) (by decide) rfl rfl ?_
        have b1004 : (0 : Int) ≤ iI t 107 ∧ iI t 107 ≤ 40 := I.1 107
        refine z_aald X rw_473 (show cdA 287 93 = some (.aaload, 1, 0, 0, 0) from rfl) (by first | exact b1004.1 | omega) (show (iI t 107) < 40 by first | exact oq_2ca8b5c0 hi.2.2.2.2.1 | omega) (by decide) ?_
        refine z_load X (x := c) (show cdA 287 94 = some (.iload 5, 2, 0, 0, 0) from rfl) (List.Mem.tail _ (List.Mem.tail _ (List.Mem.tail _ (List.Mem.tail _ (List.Mem.tail _ (List.Mem.head _)))))) ?_
        refine z_aload_n X (x := A 179) (show cdA 287 96 = some (.aload_n 0, 1, 0, 0, 0) from rfl) (List.Mem.head _) ?_
        refine s_getR X 179 (show cdA 287 97 = some (.getfield 32, 3, 12, 21, 0) from rfl) (by decide) rfl rfl ?_
        refine z_load X (x := c) (show cdA 287 100 = some (.iload 5, 2, 0, 0, 0) from rfl) (List.Mem.tail _ (List.Mem.tail _ (List.Mem.tail _ (List.Mem.tail _ (List.Mem.tail _ (List.Mem.head _)))))) ?_
        refine z_ald X 184 (show cdA 287 102 = some (.iaload, 1, 0, 0, 0) from rfl) (by decide) rfl (by first | exact hi.2.2.1 | omega) (show c < 7 by first | exact oq_453ddee4 g1003 | omega) (by decide) ?_
        have b1005 : ((-2147483648) : Int) ≤ iC t 161 (c).toNat ∧ iC t 161 (c).toNat ≤ 2147483647 := I.2 161 _ (show (c).toNat < 7 by first | exact oq_c0b41090 g1003 | omega)
        refine z_ast2 X rw_473 (show cdA 287 103 = some (.iastore, 1, 0, 0, 0) from rfl) (show ((iI t 107) : Int).toNat < 40 by first | exact oq_61da41f2 hi.2.2.2.2.1 | omega) (by first | exact hi.2.2.1 | omega) (show c < 4 by first | exact g1003 | omega) (by decide) ?_
        obtain ⟨s1006, hs1006⟩ : ∃ x0, x0 = uC t (417 + ((iI t 107) : Int).toNat) (c : Int).toNat (Int32.ofInt (iC t 161 (c).toNat)) := ⟨_, rfl⟩
        rw [← hs1006]
        have Is1006 : Bd s1006 := by rw [hs1006]; exact rw_st rw_473 I (show ((iI t 107) : Int).toNat < 40 by first | exact oq_61da41f2 hi.2.2.2.2.1 | omega) (show ((-2147483648) : Int) ≤ (iC t 161 (c).toNat) ∧ (iC t 161 (c).toNat) ≤ 2147483647 by first | exact ⟨b1005.1, b1005.2⟩ | omega) (rng_to _)
        have Fs1006 := fm_C (i := (c : Int).toNat) (x := Int32.ofInt (iC t 161 (c).toNat)) F ((show ∀ j, j < 40 → 417 + j ∈ _ by decide) ((iI t 107) : Int).toNat (by first | exact oq_61da41f2 hi.2.2.2.2.1 | omega))
        rw [← hs1006] at Fs1006
        have ws1006_73 : iI s1006 73 = iI t 73 := by rw [hs1006]; rfl
        have ws1006_107 : iI s1006 107 = iI t 107 := by rw [hs1006]; rfl
        have fs1006 : Fm [] [417, 418, 419, 420, 421, 422, 423, 424, 425, 426, 427, 428, 429, 430, 431, 432, 433, 434, 435, 436, 437, 438, 439, 440, 441, 442, 443, 444, 445, 446, 447, 448, 449, 450, 451, 452, 453, 454, 455, 456] t s1006 := by rw [hs1006]; exact fm_C (fm_rf _ _ _) ((show ∀ j, j < 40 → 417 + j ∈ _ by decide) ((iI t 107) : Int).toNat (by first | exact oq_61da41f2 hi.2.2.2.2.1 | omega))
        have JRLx_s1006 : RLx s1006 := RLx_fm fs1006 (by decide) jjRLx
        refine z_inc X (x := c) (lv' := [(5, .int (Int32.ofInt (c + 1))), (0, .ref (A 179)), (1, .int (Int32.ofInt xv)), (2, .int (Int32.ofInt yv)), (3, .int (Int32.ofInt zv)), (4, .int (Int32.ofInt wv))]) (show cdA 287 104 = some (.iinc 5 1, 3, 0, 0, 0) from rfl) (by decide) (List.Mem.tail _ (List.Mem.tail _ (List.Mem.tail _ (List.Mem.tail _ (List.Mem.tail _ (List.Mem.head _)))))) (fun _ h => h) ?_
        refine z_goto X (t := 79) (show cdA 287 107 = some (.goto (-28), 3, 0, 0, 0) from rfl) (by decide) ?_
        refine WS_lv (lv := [(0, .ref (A 179)), (1, .int (Int32.ofInt xv)), (2, .int (Int32.ofInt yv)), (3, .int (Int32.ofInt zv)), (4, .int (Int32.ofInt wv)), (5, .int (Int32.ofInt (c + 1)))]) (List.forall_mem_cons.mpr ⟨(List.Mem.tail _ (List.Mem.head _)), (List.forall_mem_cons.mpr ⟨(List.Mem.tail _ (List.Mem.tail _ (List.Mem.head _))), (List.forall_mem_cons.mpr ⟨(List.Mem.tail _ (List.Mem.tail _ (List.Mem.tail _ (List.Mem.head _)))), (List.forall_mem_cons.mpr ⟨(List.Mem.tail _ (List.Mem.tail _ (List.Mem.tail _ (List.Mem.tail _ (List.Mem.head _))))), (List.forall_mem_cons.mpr ⟨(List.Mem.tail _ (List.Mem.tail _ (List.Mem.tail _ (List.Mem.tail _ (List.Mem.tail _ (List.Mem.head _)))))), (List.forall_mem_cons.mpr ⟨(List.Mem.head _), (fun q h => absurd h List.not_mem_nil)⟩)⟩)⟩)⟩)⟩)⟩) ?_
        exact ih _ xv yv zv wv (c + 1) Is1006 Fs1006 JRLx_s1006 (by first | exact ⟨And.intro (hi.1.1) (hi.1.2), hi.2.1, oq_54f49eb5 hi.2.2.1, oq_5b7aaf9e g1003, oq_bcf6953c ws1006_107 hi.2.2.2.2.1, oq_1aa5be9e ws1006_107 hi.2.2.2.2.2.1, oq_333640b7 ws1006_73 hi.2.2.2.2.2.2 b1001.1⟩ | omega) (by first | exact qk_me hm (by decide) (oq_de1b25d0 g1003) | omega) kx
  refine z_aload_n X (x := A 179) (show cdA 287 0 = some (.aload_n 0, 1, 0, 0, 0) from rfl) (List.Mem.head _) ?_
  refine z_const X (show cdA 287 1 = some (.iconst 0, 1, 0, 0, 0) from rfl) ?_
  refine s_putI X 179 (show cdA 287 2 = some (.putfield 172, 3, 12, 0, 0) from rfl) (by decide) rfl rfl (by decide) rfl rfl rfl ?_
  obtain ⟨s3, hs3⟩ : ∃ x0, x0 = uI s 73 (Int32.ofInt 0) := ⟨_, rfl⟩
  rw [← hs3]
  have Is3 : Bd s3 := by rw [hs3]; exact bd_I I (show (0 : Int) ≤ 0 ∧ 0 ≤ 3 by first | exact ⟨by decide, by decide⟩ | omega) (by decide)
  have Fs3 := fm_I (x := Int32.ofInt 0) F (show 73 ∈ _ by decide)
  rw [← hs3] at Fs3
  have vs3 : iI s3 73 = 0 := by rw [hs3]; exact iI_u (by decide)
  have ws3_107 : iI s3 107 = iI s 107 := by rw [hs3]; rfl
  have fs3 : Fm [73] [] s s3 := by rw [hs3]; exact fm_I (fm_rf _ _ _) (show 73 ∈ _ by decide)
  have JRLx_s3 : RLx s3 := RLx_fm fs3 (by decide) jRLx
  refine z_aload_n X (x := A 179) (show cdA 287 5 = some (.aload_n 0, 1, 0, 0, 0) from rfl) (List.Mem.head _) ?_
  refine z_load_n X (x := x) (show cdA 287 6 = some (.iload_n 1, 1, 0, 0, 0) from rfl) (List.Mem.tail _ (List.Mem.head _)) ?_
  refine z_const X (show cdA 287 7 = some (.iconst 0, 1, 0, 0, 0) from rfl) ?_
  refine z_bipush X (show cdA 287 8 = some (.bipush 7, 2, 0, 0, 7) from rfl) ?_
  refine z_callS X (rm := rmN 188) (As := [.int (Int32.ofInt x), .int (Int32.ofInt 0), .int (Int32.ofInt 7)]) (st := [.ref (A 179)]) (show cdA 287 10 = some (.invokestatic 209, 3, 188, 1, 0) from rfl) rfl (by rw [E.1, E.2.1, E.2.2.1]; exact k_in2 G Is3 (by first | exact ⟨p0.1, p0.2⟩ | omega) (by first | exact ⟨by decide, by decide⟩ | omega) (by first | exact ⟨by decide, by decide⟩ | omega)) ⟨by rw [E.2.2.2]; exact (show (rmN 188).frames + 1 ≤ (rmN 287).frames by decide), by rw [E.2.2.2]; exact (show 8 + (mNL (miB 188) + 11) + (rmN 188).locals ≤ (rmN 287).locals by decide), by rw [E.2.2.2]; exact (show 0 + (rmN 188).cells ≤ (rmN 287).cells by decide), by rw [E.2.2.2]; exact (show 0 + (rmN 188).slots ≤ (rmN 287).slots by decide)⟩ (Nat.le_of_ble_eq_true rfl) (fun vv s4 hq => ?_) (fun ee s4 hq => ?_)
  rotate_left
  · obtain ⟨rfl, e5, hv, hrs4, hps4⟩ := hq; cases hv
  obtain ⟨rfl, e5, hv, hrs4, hps4⟩ := hq
  cases hv
  show WS k 13 [(0, .ref (A 179)), (1, .int (Int32.ofInt x)), (2, .int (Int32.ofInt y)), (3, .int (Int32.ofInt z)), (4, .int (Int32.ofInt w))] [.int (Int32.ofInt e5), .ref (A 179)] (Wd A dT s3) 0 0
  refine z_if_eq X (t := 37) (show cdA 287 13 = some (.ifCond .eq 24, 3, 0, 0, 0) from rfl) (by decide) hrs4 (fun g6 => ?_) (fun g6 => ?_)
  ·
    refine z_const X (show cdA 287 37 = some (.iconst 1, 1, 0, 0, 0) from rfl) ?_
    refine z_goto X (t := 42) (show cdA 287 38 = some (.goto 4, 3, 0, 0, 0) from rfl) (by decide) ?_
    refine z_const X (show cdA 287 42 = some (.iconst 1, 1, 0, 0, 0) from rfl) ?_
    refine z_callV X 179 (rm := rmN 187) (As := [.int (Int32.ofInt 1), .int (Int32.ofInt 1)]) (st := []) (show cdA 287 43 = some (.invokevirtual 229, 3, 187, 0, 0) from rfl) rfl (by decide) rfl (by rw [E.1, E.2.1, E.2.2.1]; exact k_bad2 G Is3 (by first | exact Or.inr (by decide) | omega) (by first | exact ⟨by decide, by decide⟩ | omega)) ⟨by rw [E.2.2.2]; exact (show (rmN 187).frames + 1 ≤ (rmN 287).frames by decide), by rw [E.2.2.2]; exact (show 8 + (mNL (miB 187) + 11) + (rmN 187).locals ≤ (rmN 287).locals by decide), by rw [E.2.2.2]; exact (show 0 + (rmN 187).cells ≤ (rmN 287).cells by decide), by rw [E.2.2.2]; exact (show 0 + (rmN 187).slots ≤ (rmN 287).slots by decide)⟩ (Nat.le_of_ble_eq_true rfl) (fun vv s7 hq => ?_) (fun ee s7 hq => ?_)
    rotate_left
    · obtain ⟨Is7, Fs7, e8, hv, hrs7, hps7⟩ := hq; cases hv
    obtain ⟨Is7, Fs7, e8, hv, hrs7, hps7⟩ := hq
    cases hv
    have Gs7 := fm_ts Fs3 Fs7 (by decide) (by decide)
    have JRLx_s7 : RLx s7 := RLx_fm Fs7 (by decide) JRLx_s3
    have b9 : (0 : Int) ≤ iI s7 73 ∧ iI s7 73 ≤ 3 := Is7.1 73
    have ws7_107 : iI s7 107 = iI s3 107 := fm_i Fs7 (by decide)
    show WS k 46 [(0, .ref (A 179)), (1, .int (Int32.ofInt x)), (2, .int (Int32.ofInt y)), (3, .int (Int32.ofInt z)), (4, .int (Int32.ofInt w))] [.int (Int32.ofInt e8)] (Wd A dT s7) 0 0
    refine z_if_eq X (t := 51) (show cdA 287 46 = some (.ifCond .eq 5, 3, 0, 0, 0) from rfl) (by decide) hrs7 (fun g10 => ?_) (fun g10 => ?_)
    ·
      refine z_aload_n X (x := A 179) (show cdA 287 51 = some (.aload_n 0, 1, 0, 0, 0) from rfl) (List.Mem.head _) ?_
      refine z_getI X 179 (show cdA 287 52 = some (.getfield 458, 3, 12, 76, 0) from rfl) (by decide) rfl rfl ?_
      have b11 : (0 : Int) ≤ iI s7 107 ∧ iI s7 107 ≤ 40 := Is7.1 107
      refine z_bipush X (show cdA 287 55 = some (.bipush 40, 2, 0, 0, 40) from rfl) ?_
      refine z_icmp_ne X (t := 62) (show cdA 287 57 = some (.if_icmp .ne 5, 3, 1, 0, 0) from rfl) (by decide) (rng_to _) (by decide) (fun g12 => ?_) (fun g12 => ?_)
      ·
        refine z_aload_n X (x := A 179) (show cdA 287 62 = some (.aload_n 0, 1, 0, 0, 0) from rfl) (List.Mem.head _) ?_
        refine z_load_n X (x := x) (show cdA 287 63 = some (.iload_n 1, 1, 0, 0, 0) from rfl) (List.Mem.tail _ (List.Mem.head _)) ?_
        refine z_callV X 179 (rm := rmN 230) (As := [.int (Int32.ofInt x)]) (st := []) (show cdA 287 64 = some (.invokevirtual 327, 3, 230, 0, 0) from rfl) rfl (by decide) rfl (by rw [E.1, E.2.1, E.2.2.1]; exact k_setOf G Is7 (by first | exact ⟨p0.1, p0.2⟩ | omega)) ⟨by rw [E.2.2.2]; exact (show (rmN 230).frames + 1 ≤ (rmN 287).frames by decide), by rw [E.2.2.2]; exact (show 8 + (mNL (miB 230) + 11) + (rmN 230).locals ≤ (rmN 287).locals by decide), by rw [E.2.2.2]; exact (show 0 + (rmN 230).cells ≤ (rmN 287).cells by decide), by rw [E.2.2.2]; exact (show 0 + (rmN 230).slots ≤ (rmN 287).slots by decide)⟩ (Nat.le_of_ble_eq_true rfl) (fun vv s13 hq => ?_) (fun ee s13 hq => ?_)
        rotate_left
        · obtain ⟨Is13, Fs13, hv, hps13⟩ := hq; cases hv
        obtain ⟨Is13, Fs13, hv, hps13⟩ := hq
        cases hv
        have Gs13 := fm_ts Gs7 Fs13 (by decide) (by decide)
        have JRLx_s13 : RLx s13 := RLx_fm Fs13 (by decide) JRLx_s7
        have ws13_73 : iI s13 73 = iI s7 73 := fm_i Fs13 (by decide)
        have ws13_107 : iI s13 107 = iI s7 107 := fm_i Fs13 (by decide)
        show WS k 67 [(0, .ref (A 179)), (1, .int (Int32.ofInt x)), (2, .int (Int32.ofInt y)), (3, .int (Int32.ofInt z)), (4, .int (Int32.ofInt w))] [] (Wd A dT s13) 0 0
        refine z_aload_n X (x := A 179) (show cdA 287 67 = some (.aload_n 0, 1, 0, 0, 0) from rfl) (List.Mem.head _) ?_
        refine z_load_n X (x := y) (show cdA 287 68 = some (.iload_n 2, 1, 0, 0, 0) from rfl) (List.Mem.tail _ (List.Mem.tail _ (List.Mem.head _))) ?_
        refine z_callV X 179 (rm := rmN 222) (As := [.int (Int32.ofInt y)]) (st := []) (show cdA 287 69 = some (.invokevirtual 333, 3, 222, 0, 0) from rfl) rfl (by decide) rfl (by rw [E.1, E.2.1, E.2.2.1]; exact k_asTold G Is13 JRLx_s13 (by first | (clear g12 hps7 hps4 p3; omega) | (clear hps7 hps4 p3; omega) | omega)) ⟨by rw [E.2.2.2]; exact (show (rmN 222).frames + 1 ≤ (rmN 287).frames by decide), by rw [E.2.2.2]; exact (show 8 + (mNL (miB 222) + 11) + (rmN 222).locals ≤ (rmN 287).locals by decide), by rw [E.2.2.2]; exact (show 0 + (rmN 222).cells ≤ (rmN 287).cells by decide), by rw [E.2.2.2]; exact (show 0 + (rmN 222).slots ≤ (rmN 287).slots by decide)⟩ (Nat.le_of_ble_eq_true rfl) (fun vv s15 hq => ?_) (fun ee s15 hq => ?_)
        rotate_left
        · obtain ⟨Is15, Fs15, JRLx_s15, JNQ_s15, hv, hps15⟩ := hq; cases hv
        obtain ⟨Is15, Fs15, JRLx_s15, JNQ_s15, hv, hps15⟩ := hq
        cases hv
        have Gs15 := fm_ts Gs13 Fs15 (by decide) (by decide)
        have JRLx_s15 : RLx s15 := RLx_fm Fs15 (by decide) JRLx_s13
        have ws15_73 : iI s15 73 = iI s13 73 := fm_i Fs15 (by decide)
        have ws15_107 : iI s15 107 = iI s13 107 := fm_i Fs15 (by decide)
        show WS k 72 [(0, .ref (A 179)), (1, .int (Int32.ofInt x)), (2, .int (Int32.ofInt y)), (3, .int (Int32.ofInt z)), (4, .int (Int32.ofInt w))] [] (Wd A dT s15) 0 0
        refine z_aload_n X (x := A 179) (show cdA 287 72 = some (.aload_n 0, 1, 0, 0, 0) from rfl) (List.Mem.head _) ?_
        have JNW_s15 : NW s15 := NW_of JNQ_s15 JRLx_s15
        refine z_callV X 179 (rm := rmN 227) (As := []) (st := []) (show cdA 287 73 = some (.invokevirtual 318, 3, 227, 0, 0) from rfl) rfl (by decide) rfl (by rw [E.1, E.2.1, E.2.2.1]; exact k_listen G Is15 JNW_s15 ) ⟨by rw [E.2.2.2]; exact (show (rmN 227).frames + 1 ≤ (rmN 287).frames by decide), by rw [E.2.2.2]; exact (show 8 + (mNL (miB 227) + 11) + (rmN 227).locals ≤ (rmN 287).locals by decide), by rw [E.2.2.2]; exact (show 0 + (rmN 227).cells ≤ (rmN 287).cells by decide), by rw [E.2.2.2]; exact (show 0 + (rmN 227).slots ≤ (rmN 287).slots by decide)⟩ (Nat.le_of_ble_eq_true rfl) (fun vv s17 hq => ?_) (fun ee s17 hq => ?_)
        rotate_left
        · obtain ⟨Is17, Fs17, JNW_s17, hv, hps17⟩ := hq; cases hv
        obtain ⟨Is17, Fs17, JNW_s17, hv, hps17⟩ := hq
        cases hv
        have Gs17 := fm_ts Gs15 Fs17 (by decide) (by decide)
        have JRLx_s17 : RLx s17 := RLx_fm Fs17 (by decide) JRLx_s15
        have JNQ_s17 : NQ s17 := NQ_fm Fs17 (by decide) JNQ_s15
        have JNW_s17 : NW s17 := NW_fm Fs17 (by decide) JNW_s15
        have ws17_73 : iI s17 73 = iI s15 73 := fm_i Fs17 (by decide)
        have ws17_107 : iI s17 107 = iI s15 107 := fm_i Fs17 (by decide)
        show WS k 76 [(0, .ref (A 179)), (1, .int (Int32.ofInt x)), (2, .int (Int32.ofInt y)), (3, .int (Int32.ofInt z)), (4, .int (Int32.ofInt w))] [] (Wd A dT s17) 0 0
        refine z_const X (show cdA 287 76 = some (.iconst 0, 1, 0, 0, 0) from rfl) ?_
        refine z_store X (lv' := [(5, .int (Int32.ofInt 0)), (0, .ref (A 179)), (1, .int (Int32.ofInt x)), (2, .int (Int32.ofInt y)), (3, .int (Int32.ofInt z)), (4, .int (Int32.ofInt w))]) (show cdA 287 77 = some (.istore 5, 2, 0, 0, 0) from rfl) (by decide) (fun _ h => h) ?_
        refine WS_lv (lv := [(0, .ref (A 179)), (1, .int (Int32.ofInt x)), (2, .int (Int32.ofInt y)), (3, .int (Int32.ofInt z)), (4, .int (Int32.ofInt w)), (5, .int (Int32.ofInt 0))]) (List.forall_mem_cons.mpr ⟨(List.Mem.tail _ (List.Mem.head _)), (List.forall_mem_cons.mpr ⟨(List.Mem.tail _ (List.Mem.tail _ (List.Mem.head _))), (List.forall_mem_cons.mpr ⟨(List.Mem.tail _ (List.Mem.tail _ (List.Mem.tail _ (List.Mem.head _)))), (List.forall_mem_cons.mpr ⟨(List.Mem.tail _ (List.Mem.tail _ (List.Mem.tail _ (List.Mem.tail _ (List.Mem.head _))))), (List.forall_mem_cons.mpr ⟨(List.Mem.tail _ (List.Mem.tail _ (List.Mem.tail _ (List.Mem.tail _ (List.Mem.tail _ (List.Mem.head _)))))), (List.forall_mem_cons.mpr ⟨(List.Mem.head _), (fun q h => absurd h List.not_mem_nil)⟩)⟩)⟩)⟩)⟩)⟩) ?_
        refine L79 ((4 - 0 : Int).toNat + 1) s17 x y z w 0 Is17 Gs17 JRLx_s17 (by first | exact ⟨And.intro (p2.1) (p2.2), p3, by decide, by decide, by first | (clear g12 hps7 hps4 p3; omega) | (clear hps7 hps4 p3; omega) | omega, oq_d5af8cc9 ws17_107 ws3_107 ws15_107 ws7_107 ws13_107, by first | (clear g12 hps7 hps4 p3; omega) | (clear hps7 hps4 p3; omega) | omega⟩ | omega) (Nat.lt_succ_self _) ?_
        intro s19 x20 Is19 Fs19 JRLx_s19 hs19
        have b21 : (0 : Int) ≤ iI s19 73 ∧ iI s19 73 ≤ 3 := Is19.1 73
        have b22 : (0 : Int) ≤ iI s19 107 ∧ iI s19 107 ≤ 40 := Is19.1 107
        refine z_aload_n X (x := A 179) (show cdA 287 110 = some (.aload_n 0, 1, 0, 0, 0) from rfl) (List.Mem.head _) ?_
        refine s_getR X 179 (show cdA 287 111 = some (.getfield 163, 3, 12, 78, 0) from rfl) (by decide) rfl rfl ?_
        refine z_aload_n X (x := A 179) (show cdA 287 114 = some (.aload_n 0, 1, 0, 0, 0) from rfl) (List.Mem.head _) ?_
        refine z_getI X 179 (show cdA 287 115 = some (.getfield 458, 3, 12, 76, 0) from rfl) (by decide) rfl rfl ?_
        have b23 : (0 : Int) ≤ iI s19 107 ∧ iI s19 107 ≤ 40 := Is19.1 107
        refine z_load_n X (x := z) (show cdA 287 118 = some (.iload_n 3, 1, 0, 0, 0) from rfl) (List.Mem.tail _ (List.Mem.tail _ (List.Mem.tail _ (List.Mem.head _)))) ?_
        refine z_ast X 514 (show cdA 287 119 = some (.iastore, 1, 0, 0, 0) from rfl) (by decide) rfl (by first | exact b23.1 | omega) (show (iI s19 107) < 40 by first | exact oq_2ca8b5c0 hs19.2.2.2.2.1 | omega) (by decide) ?_
        obtain ⟨s24, hs24⟩ : ∃ x0, x0 = uC s19 457 ((iI s19 107)).toNat (Int32.ofInt z) := ⟨_, rfl⟩
        rw [← hs24]
        have Is24 : Bd s24 := by rw [hs24]; exact bd_C Is19 (show ((-2147483648) : Int) ≤ z ∧ z ≤ 2147483647 by first | exact ⟨hs19.1.1, hs19.1.2⟩ | omega) ⟨by first | exact hs19.1.1 | omega, by first | exact hs19.1.2 | omega⟩
        have Fs24 := fm_C (i := ((iI s19 107)).toNat) (x := Int32.ofInt z) Fs19 (show 457 ∈ _ by decide)
        rw [← hs24] at Fs24
        have ws24_73 : iI s24 73 = iI s19 73 := by rw [hs24]; rfl
        have ws24_107 : iI s24 107 = iI s19 107 := by rw [hs24]; rfl
        have fs24 : Fm [] [457] s19 s24 := by rw [hs24]; exact fm_C (fm_rf _ _ _) (show 457 ∈ _ by decide)
        have JRLx_s24 : RLx s24 := RLx_fm fs24 (by decide) JRLx_s19
        refine z_aload_n X (x := A 179) (show cdA 287 120 = some (.aload_n 0, 1, 0, 0, 0) from rfl) (List.Mem.head _) ?_
        refine s_getR X 179 (show cdA 287 121 = some (.getfield 169, 3, 12, 80, 0) from rfl) (by decide) rfl rfl ?_
        refine z_aload_n X (x := A 179) (show cdA 287 124 = some (.aload_n 0, 1, 0, 0, 0) from rfl) (List.Mem.head _) ?_
        refine z_getI X 179 (show cdA 287 125 = some (.getfield 458, 3, 12, 76, 0) from rfl) (by decide) rfl rfl ?_
        have b25 : (0 : Int) ≤ iI s24 107 ∧ iI s24 107 ≤ 40 := Is24.1 107
        refine z_load X (x := w) (show cdA 287 128 = some (.iload 4, 2, 0, 0, 0) from rfl) (List.Mem.tail _ (List.Mem.tail _ (List.Mem.tail _ (List.Mem.tail _ (List.Mem.head _))))) ?_
        refine z_zast X 516 (show cdA 287 130 = some (.bastore, 1, 0, 0, 0) from rfl) (by decide) rfl (by first | exact b25.1 | omega) (show (iI s24 107) < 40 by first | exact oq_e7509aa9 ws24_107 hs19.2.2.2.2.1 | omega) (by decide) (by first | exact hs19.2.1 | omega) ?_
        obtain ⟨s26, hs26⟩ : ∃ x0, x0 = uC s24 459 ((iI s24 107)).toNat (Int32.ofInt w) := ⟨_, rfl⟩
        rw [← hs26]
        have Is26 : Bd s26 := by rw [hs26]; exact bd_C Is24 (show (0 : Int) ≤ w ∧ w ≤ 1 by first | (clear g12 hps7 hps4 p3; omega) | (clear hps7 hps4 p3; omega) | omega) ⟨by first | (clear g12 hps7 hps4 p3; omega) | (clear hps7 hps4 p3; omega) | omega, by first | (clear g12 hps7 hps4 p3; omega) | (clear hps7 hps4 p3; omega) | omega⟩
        have Fs26 := fm_C (i := ((iI s24 107)).toNat) (x := Int32.ofInt w) Fs24 (show 459 ∈ _ by decide)
        rw [← hs26] at Fs26
        have ws26_73 : iI s26 73 = iI s24 73 := by rw [hs26]; rfl
        have ws26_107 : iI s26 107 = iI s24 107 := by rw [hs26]; rfl
        have fs26 : Fm [] [459] s24 s26 := by rw [hs26]; exact fm_C (fm_rf _ _ _) (show 459 ∈ _ by decide)
        have JRLx_s26 : RLx s26 := RLx_fm fs26 (by decide) JRLx_s24
        refine z_aload_n X (x := A 179) (show cdA 287 131 = some (.aload_n 0, 1, 0, 0, 0) from rfl) (List.Mem.head _) ?_
        refine w_dup X.1 (ax_d X (show cdA 287 132 = some (.dup, 1, 0, 0, 0) from rfl)) rfl ?_
        refine z_getI X 179 (show cdA 287 133 = some (.getfield 458, 3, 12, 76, 0) from rfl) (by decide) rfl rfl ?_
        have b27 : (0 : Int) ≤ iI s26 107 ∧ iI s26 107 ≤ 40 := Is26.1 107
        refine z_const X (show cdA 287 136 = some (.iconst 1, 1, 0, 0, 0) from rfl) ?_
        refine z_add X (show cdA 287 137 = some (.iadd, 1, 0, 0, 0) from rfl) ?_
        refine s_putI X 179 (show cdA 287 138 = some (.putfield 458, 3, 12, 76, 0) from rfl) (by decide) rfl rfl (by decide) rfl rfl rfl ?_
        obtain ⟨s28, hs28⟩ : ∃ x0, x0 = uI s26 107 (Int32.ofInt ((iI s26 107) + 1)) := ⟨_, rfl⟩
        rw [← hs28]
        have Is28 : Bd s28 := by rw [hs28]; exact bd_I Is26 (show (0 : Int) ≤ ((iI s26 107) + 1) ∧ ((iI s26 107) + 1) ≤ 40 by first | exact ⟨oq_54f49eb5 b27.1, oq_44ae331b ws26_107 ws24_107 hs19.2.2.2.2.1⟩ | omega) ⟨by first | exact oq_74de1e16 b27.1 | omega, by first | exact oq_c01d6c28 b27.2 | omega⟩
        have Fs28 := fm_I (x := Int32.ofInt ((iI s26 107) + 1)) Fs26 (show 107 ∈ _ by decide)
        rw [← hs28] at Fs28
        have vs28 : iI s28 107 = ((iI s26 107) + 1) := by rw [hs28]; exact iI_u ⟨by first | exact oq_74de1e16 b27.1 | omega, by first | exact oq_c01d6c28 b27.2 | omega⟩
        have ws28_73 : iI s28 73 = iI s26 73 := by rw [hs28]; rfl
        have fs28 : Fm [107] [] s26 s28 := by rw [hs28]; exact fm_I (fm_rf _ _ _) (show 107 ∈ _ by decide)
        have JRLx_s28 : RLx s28 := RLx_fm fs28 (by decide) JRLx_s26
        refine z_aload_n X (x := A 179) (show cdA 287 141 = some (.aload_n 0, 1, 0, 0, 0) from rfl) (List.Mem.head _) ?_
        refine z_getI X 179 (show cdA 287 142 = some (.getfield 458, 3, 12, 76, 0) from rfl) (by decide) rfl rfl ?_
        have b29 : (0 : Int) ≤ iI s28 107 ∧ iI s28 107 ≤ 40 := Is28.1 107
        refine z_const X (show cdA 287 145 = some (.iconst 1, 1, 0, 0, 0) from rfl) ?_
        refine z_sub X (show cdA 287 146 = some (.isub, 1, 0, 0, 0) from rfl) ?_
        exact w_iret X.1 q hRt rfl (ax_d X (show cdA 287 147 = some (.ireturn, 1, 0, 0, 0) from rfl)) (Nat.zero_le _) (Nat.zero_le _) ⟨_, rfl, Is28, Fs28, JRLx_s28, ((iI s28 107) - 1), rfl, ⟨by first | exact oq_c1e961c7 b29.1 | omega, by first | exact oq_86f8893e b29.2 | omega⟩, by first | (clear g12 hps7 hps4 p3; omega) | (clear hps7 hps4 p3; omega) | omega⟩
      ·
        refine z_const X (show cdA 287 60 = some (.iconst (-1), 1, 0, 0, 0) from rfl) ?_
        exact w_iret X.1 q hRt rfl (ax_d X (show cdA 287 61 = some (.ireturn, 1, 0, 0, 0) from rfl)) (Nat.zero_le _) (Nat.zero_le _) ⟨_, rfl, Is7, Gs7, JRLx_s7, (-1), rfl, (by decide), by first | (clear hps7 hps4 p3; omega) | (clear hps4 p3; omega) | omega⟩
    ·
      refine z_const X (show cdA 287 49 = some (.iconst 0, 1, 0, 0, 0) from rfl) ?_
      exact w_iret X.1 q hRt rfl (ax_d X (show cdA 287 50 = some (.ireturn, 1, 0, 0, 0) from rfl)) (Nat.zero_le _) (Nat.zero_le _) ⟨_, rfl, Is7, Gs7, JRLx_s7, 0, rfl, (by decide), by first | (clear g10 hps7 hps4 p3; omega) | (clear hps7 hps4 p3; omega) | omega⟩
  ·
    refine z_load_n X (x := y) (show cdA 287 16 = some (.iload_n 2, 1, 0, 0, 0) from rfl) (List.Mem.tail _ (List.Mem.tail _ (List.Mem.head _))) ?_
    refine z_const X (show cdA 287 17 = some (.iconst 0, 1, 0, 0, 0) from rfl) ?_
    refine z_bipush X (show cdA 287 18 = some (.bipush 23, 2, 0, 0, 23) from rfl) ?_
    refine z_callS X (rm := rmN 188) (As := [.int (Int32.ofInt y), .int (Int32.ofInt 0), .int (Int32.ofInt 23)]) (st := [.ref (A 179)]) (show cdA 287 20 = some (.invokestatic 209, 3, 188, 1, 0) from rfl) rfl (by rw [E.1, E.2.1, E.2.2.1]; exact k_in2 G Is3 (by first | exact ⟨p1.1, p1.2⟩ | omega) (by first | exact ⟨by decide, by decide⟩ | omega) (by first | exact ⟨by decide, by decide⟩ | omega)) ⟨by rw [E.2.2.2]; exact (show (rmN 188).frames + 1 ≤ (rmN 287).frames by decide), by rw [E.2.2.2]; exact (show 8 + (mNL (miB 188) + 11) + (rmN 188).locals ≤ (rmN 287).locals by decide), by rw [E.2.2.2]; exact (show 0 + (rmN 188).cells ≤ (rmN 287).cells by decide), by rw [E.2.2.2]; exact (show 0 + (rmN 188).slots ≤ (rmN 287).slots by decide)⟩ (Nat.le_of_ble_eq_true rfl) (fun vv s30 hq => ?_) (fun ee s30 hq => ?_)
    rotate_left
    · obtain ⟨rfl, e31, hv, hrs30, hps30⟩ := hq; cases hv
    obtain ⟨rfl, e31, hv, hrs30, hps30⟩ := hq
    cases hv
    show WS k 23 [(0, .ref (A 179)), (1, .int (Int32.ofInt x)), (2, .int (Int32.ofInt y)), (3, .int (Int32.ofInt z)), (4, .int (Int32.ofInt w))] [.int (Int32.ofInt e31), .ref (A 179)] (Wd A dT s3) 0 0
    refine z_if_eq X (t := 37) (show cdA 287 23 = some (.ifCond .eq 14, 3, 0, 0, 0) from rfl) (by decide) hrs30 (fun g32 => ?_) (fun g32 => ?_)
    ·
      refine z_const X (show cdA 287 37 = some (.iconst 1, 1, 0, 0, 0) from rfl) ?_
      refine z_goto X (t := 42) (show cdA 287 38 = some (.goto 4, 3, 0, 0, 0) from rfl) (by decide) ?_
      refine z_const X (show cdA 287 42 = some (.iconst 1, 1, 0, 0, 0) from rfl) ?_
      refine z_callV X 179 (rm := rmN 187) (As := [.int (Int32.ofInt 1), .int (Int32.ofInt 1)]) (st := []) (show cdA 287 43 = some (.invokevirtual 229, 3, 187, 0, 0) from rfl) rfl (by decide) rfl (by rw [E.1, E.2.1, E.2.2.1]; exact k_bad2 G Is3 (by first | exact Or.inr (by decide) | omega) (by first | exact ⟨by decide, by decide⟩ | omega)) ⟨by rw [E.2.2.2]; exact (show (rmN 187).frames + 1 ≤ (rmN 287).frames by decide), by rw [E.2.2.2]; exact (show 8 + (mNL (miB 187) + 11) + (rmN 187).locals ≤ (rmN 287).locals by decide), by rw [E.2.2.2]; exact (show 0 + (rmN 187).cells ≤ (rmN 287).cells by decide), by rw [E.2.2.2]; exact (show 0 + (rmN 187).slots ≤ (rmN 287).slots by decide)⟩ (Nat.le_of_ble_eq_true rfl) (fun vv s33 hq => ?_) (fun ee s33 hq => ?_)
      rotate_left
      · obtain ⟨Is33, Fs33, e34, hv, hrs33, hps33⟩ := hq; cases hv
      obtain ⟨Is33, Fs33, e34, hv, hrs33, hps33⟩ := hq
      cases hv
      have Gs33 := fm_ts Fs3 Fs33 (by decide) (by decide)
      have JRLx_s33 : RLx s33 := RLx_fm Fs33 (by decide) JRLx_s3
      have b35 : (0 : Int) ≤ iI s33 73 ∧ iI s33 73 ≤ 3 := Is33.1 73
      have ws33_107 : iI s33 107 = iI s3 107 := fm_i Fs33 (by decide)
      show WS k 46 [(0, .ref (A 179)), (1, .int (Int32.ofInt x)), (2, .int (Int32.ofInt y)), (3, .int (Int32.ofInt z)), (4, .int (Int32.ofInt w))] [.int (Int32.ofInt e34)] (Wd A dT s33) 0 0
      refine z_if_eq X (t := 51) (show cdA 287 46 = some (.ifCond .eq 5, 3, 0, 0, 0) from rfl) (by decide) hrs33 (fun g36 => ?_) (fun g36 => ?_)
      ·
        refine z_aload_n X (x := A 179) (show cdA 287 51 = some (.aload_n 0, 1, 0, 0, 0) from rfl) (List.Mem.head _) ?_
        refine z_getI X 179 (show cdA 287 52 = some (.getfield 458, 3, 12, 76, 0) from rfl) (by decide) rfl rfl ?_
        have b37 : (0 : Int) ≤ iI s33 107 ∧ iI s33 107 ≤ 40 := Is33.1 107
        refine z_bipush X (show cdA 287 55 = some (.bipush 40, 2, 0, 0, 40) from rfl) ?_
        refine z_icmp_ne X (t := 62) (show cdA 287 57 = some (.if_icmp .ne 5, 3, 1, 0, 0) from rfl) (by decide) (rng_to _) (by decide) (fun g38 => ?_) (fun g38 => ?_)
        ·
          refine z_aload_n X (x := A 179) (show cdA 287 62 = some (.aload_n 0, 1, 0, 0, 0) from rfl) (List.Mem.head _) ?_
          refine z_load_n X (x := x) (show cdA 287 63 = some (.iload_n 1, 1, 0, 0, 0) from rfl) (List.Mem.tail _ (List.Mem.head _)) ?_
          refine z_callV X 179 (rm := rmN 230) (As := [.int (Int32.ofInt x)]) (st := []) (show cdA 287 64 = some (.invokevirtual 327, 3, 230, 0, 0) from rfl) rfl (by decide) rfl (by rw [E.1, E.2.1, E.2.2.1]; exact k_setOf G Is33 (by first | exact ⟨p0.1, p0.2⟩ | omega)) ⟨by rw [E.2.2.2]; exact (show (rmN 230).frames + 1 ≤ (rmN 287).frames by decide), by rw [E.2.2.2]; exact (show 8 + (mNL (miB 230) + 11) + (rmN 230).locals ≤ (rmN 287).locals by decide), by rw [E.2.2.2]; exact (show 0 + (rmN 230).cells ≤ (rmN 287).cells by decide), by rw [E.2.2.2]; exact (show 0 + (rmN 230).slots ≤ (rmN 287).slots by decide)⟩ (Nat.le_of_ble_eq_true rfl) (fun vv s39 hq => ?_) (fun ee s39 hq => ?_)
          rotate_left
          · obtain ⟨Is39, Fs39, hv, hps39⟩ := hq; cases hv
          obtain ⟨Is39, Fs39, hv, hps39⟩ := hq
          cases hv
          have Gs39 := fm_ts Gs33 Fs39 (by decide) (by decide)
          have JRLx_s39 : RLx s39 := RLx_fm Fs39 (by decide) JRLx_s33
          have ws39_73 : iI s39 73 = iI s33 73 := fm_i Fs39 (by decide)
          have ws39_107 : iI s39 107 = iI s33 107 := fm_i Fs39 (by decide)
          show WS k 67 [(0, .ref (A 179)), (1, .int (Int32.ofInt x)), (2, .int (Int32.ofInt y)), (3, .int (Int32.ofInt z)), (4, .int (Int32.ofInt w))] [] (Wd A dT s39) 0 0
          refine z_aload_n X (x := A 179) (show cdA 287 67 = some (.aload_n 0, 1, 0, 0, 0) from rfl) (List.Mem.head _) ?_
          refine z_load_n X (x := y) (show cdA 287 68 = some (.iload_n 2, 1, 0, 0, 0) from rfl) (List.Mem.tail _ (List.Mem.tail _ (List.Mem.head _))) ?_
          refine z_callV X 179 (rm := rmN 222) (As := [.int (Int32.ofInt y)]) (st := []) (show cdA 287 69 = some (.invokevirtual 333, 3, 222, 0, 0) from rfl) rfl (by decide) rfl (by rw [E.1, E.2.1, E.2.2.1]; exact k_asTold G Is39 JRLx_s39 (by first | (clear g38 hps33 hps30 g6 hps4 p3; omega) | (clear hps33 hps30 g6 hps4 p3; omega) | omega)) ⟨by rw [E.2.2.2]; exact (show (rmN 222).frames + 1 ≤ (rmN 287).frames by decide), by rw [E.2.2.2]; exact (show 8 + (mNL (miB 222) + 11) + (rmN 222).locals ≤ (rmN 287).locals by decide), by rw [E.2.2.2]; exact (show 0 + (rmN 222).cells ≤ (rmN 287).cells by decide), by rw [E.2.2.2]; exact (show 0 + (rmN 222).slots ≤ (rmN 287).slots by decide)⟩ (Nat.le_of_ble_eq_true rfl) (fun vv s41 hq => ?_) (fun ee s41 hq => ?_)
          rotate_left
          · obtain ⟨Is41, Fs41, JRLx_s41, JNQ_s41, hv, hps41⟩ := hq; cases hv
          obtain ⟨Is41, Fs41, JRLx_s41, JNQ_s41, hv, hps41⟩ := hq
          cases hv
          have Gs41 := fm_ts Gs39 Fs41 (by decide) (by decide)
          have JRLx_s41 : RLx s41 := RLx_fm Fs41 (by decide) JRLx_s39
          have ws41_73 : iI s41 73 = iI s39 73 := fm_i Fs41 (by decide)
          have ws41_107 : iI s41 107 = iI s39 107 := fm_i Fs41 (by decide)
          show WS k 72 [(0, .ref (A 179)), (1, .int (Int32.ofInt x)), (2, .int (Int32.ofInt y)), (3, .int (Int32.ofInt z)), (4, .int (Int32.ofInt w))] [] (Wd A dT s41) 0 0
          refine z_aload_n X (x := A 179) (show cdA 287 72 = some (.aload_n 0, 1, 0, 0, 0) from rfl) (List.Mem.head _) ?_
          have JNW_s41 : NW s41 := NW_of JNQ_s41 JRLx_s41
          refine z_callV X 179 (rm := rmN 227) (As := []) (st := []) (show cdA 287 73 = some (.invokevirtual 318, 3, 227, 0, 0) from rfl) rfl (by decide) rfl (by rw [E.1, E.2.1, E.2.2.1]; exact k_listen G Is41 JNW_s41 ) ⟨by rw [E.2.2.2]; exact (show (rmN 227).frames + 1 ≤ (rmN 287).frames by decide), by rw [E.2.2.2]; exact (show 8 + (mNL (miB 227) + 11) + (rmN 227).locals ≤ (rmN 287).locals by decide), by rw [E.2.2.2]; exact (show 0 + (rmN 227).cells ≤ (rmN 287).cells by decide), by rw [E.2.2.2]; exact (show 0 + (rmN 227).slots ≤ (rmN 287).slots by decide)⟩ (Nat.le_of_ble_eq_true rfl) (fun vv s43 hq => ?_) (fun ee s43 hq => ?_)
          rotate_left
          · obtain ⟨Is43, Fs43, JNW_s43, hv, hps43⟩ := hq; cases hv
          obtain ⟨Is43, Fs43, JNW_s43, hv, hps43⟩ := hq
          cases hv
          have Gs43 := fm_ts Gs41 Fs43 (by decide) (by decide)
          have JRLx_s43 : RLx s43 := RLx_fm Fs43 (by decide) JRLx_s41
          have JNQ_s43 : NQ s43 := NQ_fm Fs43 (by decide) JNQ_s41
          have JNW_s43 : NW s43 := NW_fm Fs43 (by decide) JNW_s41
          have ws43_73 : iI s43 73 = iI s41 73 := fm_i Fs43 (by decide)
          have ws43_107 : iI s43 107 = iI s41 107 := fm_i Fs43 (by decide)
          show WS k 76 [(0, .ref (A 179)), (1, .int (Int32.ofInt x)), (2, .int (Int32.ofInt y)), (3, .int (Int32.ofInt z)), (4, .int (Int32.ofInt w))] [] (Wd A dT s43) 0 0
          refine z_const X (show cdA 287 76 = some (.iconst 0, 1, 0, 0, 0) from rfl) ?_
          refine z_store X (lv' := [(5, .int (Int32.ofInt 0)), (0, .ref (A 179)), (1, .int (Int32.ofInt x)), (2, .int (Int32.ofInt y)), (3, .int (Int32.ofInt z)), (4, .int (Int32.ofInt w))]) (show cdA 287 77 = some (.istore 5, 2, 0, 0, 0) from rfl) (by decide) (fun _ h => h) ?_
          refine WS_lv (lv := [(0, .ref (A 179)), (1, .int (Int32.ofInt x)), (2, .int (Int32.ofInt y)), (3, .int (Int32.ofInt z)), (4, .int (Int32.ofInt w)), (5, .int (Int32.ofInt 0))]) (List.forall_mem_cons.mpr ⟨(List.Mem.tail _ (List.Mem.head _)), (List.forall_mem_cons.mpr ⟨(List.Mem.tail _ (List.Mem.tail _ (List.Mem.head _))), (List.forall_mem_cons.mpr ⟨(List.Mem.tail _ (List.Mem.tail _ (List.Mem.tail _ (List.Mem.head _)))), (List.forall_mem_cons.mpr ⟨(List.Mem.tail _ (List.Mem.tail _ (List.Mem.tail _ (List.Mem.tail _ (List.Mem.head _))))), (List.forall_mem_cons.mpr ⟨(List.Mem.tail _ (List.Mem.tail _ (List.Mem.tail _ (List.Mem.tail _ (List.Mem.tail _ (List.Mem.head _)))))), (List.forall_mem_cons.mpr ⟨(List.Mem.head _), (fun q h => absurd h List.not_mem_nil)⟩)⟩)⟩)⟩)⟩)⟩) ?_
          refine L79 ((4 - 0 : Int).toNat + 1) s43 x y z w 0 Is43 Gs43 JRLx_s43 (by first | exact ⟨And.intro (p2.1) (p2.2), p3, by decide, by decide, by first | (clear g38 hps33 hps30 g6 hps4 p3; omega) | (clear hps33 hps30 g6 hps4 p3; omega) | omega, oq_d5af8cc9 ws43_107 ws3_107 ws41_107 ws33_107 ws39_107, by first | (clear g38 hps33 hps30 g6 hps4 p3; omega) | (clear hps33 hps30 g6 hps4 p3; omega) | omega⟩ | omega) (Nat.lt_succ_self _) ?_
          intro s45 x46 Is45 Fs45 JRLx_s45 hs45
          have b47 : (0 : Int) ≤ iI s45 73 ∧ iI s45 73 ≤ 3 := Is45.1 73
          have b48 : (0 : Int) ≤ iI s45 107 ∧ iI s45 107 ≤ 40 := Is45.1 107
          refine z_aload_n X (x := A 179) (show cdA 287 110 = some (.aload_n 0, 1, 0, 0, 0) from rfl) (List.Mem.head _) ?_
          refine s_getR X 179 (show cdA 287 111 = some (.getfield 163, 3, 12, 78, 0) from rfl) (by decide) rfl rfl ?_
          refine z_aload_n X (x := A 179) (show cdA 287 114 = some (.aload_n 0, 1, 0, 0, 0) from rfl) (List.Mem.head _) ?_
          refine z_getI X 179 (show cdA 287 115 = some (.getfield 458, 3, 12, 76, 0) from rfl) (by decide) rfl rfl ?_
          have b49 : (0 : Int) ≤ iI s45 107 ∧ iI s45 107 ≤ 40 := Is45.1 107
          refine z_load_n X (x := z) (show cdA 287 118 = some (.iload_n 3, 1, 0, 0, 0) from rfl) (List.Mem.tail _ (List.Mem.tail _ (List.Mem.tail _ (List.Mem.head _)))) ?_
          refine z_ast X 514 (show cdA 287 119 = some (.iastore, 1, 0, 0, 0) from rfl) (by decide) rfl (by first | exact b49.1 | omega) (show (iI s45 107) < 40 by first | exact oq_2ca8b5c0 hs45.2.2.2.2.1 | omega) (by decide) ?_
          obtain ⟨s50, hs50⟩ : ∃ x0, x0 = uC s45 457 ((iI s45 107)).toNat (Int32.ofInt z) := ⟨_, rfl⟩
          rw [← hs50]
          have Is50 : Bd s50 := by rw [hs50]; exact bd_C Is45 (show ((-2147483648) : Int) ≤ z ∧ z ≤ 2147483647 by first | exact ⟨hs45.1.1, hs45.1.2⟩ | omega) ⟨by first | exact hs45.1.1 | omega, by first | exact hs45.1.2 | omega⟩
          have Fs50 := fm_C (i := ((iI s45 107)).toNat) (x := Int32.ofInt z) Fs45 (show 457 ∈ _ by decide)
          rw [← hs50] at Fs50
          have ws50_73 : iI s50 73 = iI s45 73 := by rw [hs50]; rfl
          have ws50_107 : iI s50 107 = iI s45 107 := by rw [hs50]; rfl
          have fs50 : Fm [] [457] s45 s50 := by rw [hs50]; exact fm_C (fm_rf _ _ _) (show 457 ∈ _ by decide)
          have JRLx_s50 : RLx s50 := RLx_fm fs50 (by decide) JRLx_s45
          refine z_aload_n X (x := A 179) (show cdA 287 120 = some (.aload_n 0, 1, 0, 0, 0) from rfl) (List.Mem.head _) ?_
          refine s_getR X 179 (show cdA 287 121 = some (.getfield 169, 3, 12, 80, 0) from rfl) (by decide) rfl rfl ?_
          refine z_aload_n X (x := A 179) (show cdA 287 124 = some (.aload_n 0, 1, 0, 0, 0) from rfl) (List.Mem.head _) ?_
          refine z_getI X 179 (show cdA 287 125 = some (.getfield 458, 3, 12, 76, 0) from rfl) (by decide) rfl rfl ?_
          have b51 : (0 : Int) ≤ iI s50 107 ∧ iI s50 107 ≤ 40 := Is50.1 107
          refine z_load X (x := w) (show cdA 287 128 = some (.iload 4, 2, 0, 0, 0) from rfl) (List.Mem.tail _ (List.Mem.tail _ (List.Mem.tail _ (List.Mem.tail _ (List.Mem.head _))))) ?_
          refine z_zast X 516 (show cdA 287 130 = some (.bastore, 1, 0, 0, 0) from rfl) (by decide) rfl (by first | exact b51.1 | omega) (show (iI s50 107) < 40 by first | exact oq_e7509aa9 ws50_107 hs45.2.2.2.2.1 | omega) (by decide) (by first | exact hs45.2.1 | omega) ?_
          obtain ⟨s52, hs52⟩ : ∃ x0, x0 = uC s50 459 ((iI s50 107)).toNat (Int32.ofInt w) := ⟨_, rfl⟩
          rw [← hs52]
          have Is52 : Bd s52 := by rw [hs52]; exact bd_C Is50 (show (0 : Int) ≤ w ∧ w ≤ 1 by first | (clear g38 hps33 hps30 g6 hps4 p3; omega) | (clear hps33 hps30 g6 hps4 p3; omega) | omega) ⟨by first | (clear g38 hps33 hps30 g6 hps4 p3; omega) | (clear hps33 hps30 g6 hps4 p3; omega) | omega, by first | (clear g38 hps33 hps30 g6 hps4 p3; omega) | (clear hps33 hps30 g6 hps4 p3; omega) | omega⟩
          have Fs52 := fm_C (i := ((iI s50 107)).toNat) (x := Int32.ofInt w) Fs50 (show 459 ∈ _ by decide)
          rw [← hs52] at Fs52
          have ws52_73 : iI s52 73 = iI s50 73 := by rw [hs52]; rfl
          have ws52_107 : iI s52 107 = iI s50 107 := by rw [hs52]; rfl
          have fs52 : Fm [] [459] s50 s52 := by rw [hs52]; exact fm_C (fm_rf _ _ _) (show 459 ∈ _ by decide)
          have JRLx_s52 : RLx s52 := RLx_fm fs52 (by decide) JRLx_s50
          refine z_aload_n X (x := A 179) (show cdA 287 131 = some (.aload_n 0, 1, 0, 0, 0) from rfl) (List.Mem.head _) ?_
          refine w_dup X.1 (ax_d X (show cdA 287 132 = some (.dup, 1, 0, 0, 0) from rfl)) rfl ?_
          refine z_getI X 179 (show cdA 287 133 = some (.getfield 458, 3, 12, 76, 0) from rfl) (by decide) rfl rfl ?_
          have b53 : (0 : Int) ≤ iI s52 107 ∧ iI s52 107 ≤ 40 := Is52.1 107
          refine z_const X (show cdA 287 136 = some (.iconst 1, 1, 0, 0, 0) from rfl) ?_
          refine z_add X (show cdA 287 137 = some (.iadd, 1, 0, 0, 0) from rfl) ?_
          refine s_putI X 179 (show cdA 287 138 = some (.putfield 458, 3, 12, 76, 0) from rfl) (by decide) rfl rfl (by decide) rfl rfl rfl ?_
          obtain ⟨s54, hs54⟩ : ∃ x0, x0 = uI s52 107 (Int32.ofInt ((iI s52 107) + 1)) := ⟨_, rfl⟩
          rw [← hs54]
          have Is54 : Bd s54 := by rw [hs54]; exact bd_I Is52 (show (0 : Int) ≤ ((iI s52 107) + 1) ∧ ((iI s52 107) + 1) ≤ 40 by first | exact ⟨oq_54f49eb5 b53.1, oq_44ae331b ws52_107 ws50_107 hs45.2.2.2.2.1⟩ | omega) ⟨by first | exact oq_74de1e16 b53.1 | omega, by first | exact oq_c01d6c28 b53.2 | omega⟩
          have Fs54 := fm_I (x := Int32.ofInt ((iI s52 107) + 1)) Fs52 (show 107 ∈ _ by decide)
          rw [← hs54] at Fs54
          have vs54 : iI s54 107 = ((iI s52 107) + 1) := by rw [hs54]; exact iI_u ⟨by first | exact oq_74de1e16 b53.1 | omega, by first | exact oq_c01d6c28 b53.2 | omega⟩
          have ws54_73 : iI s54 73 = iI s52 73 := by rw [hs54]; rfl
          have fs54 : Fm [107] [] s52 s54 := by rw [hs54]; exact fm_I (fm_rf _ _ _) (show 107 ∈ _ by decide)
          have JRLx_s54 : RLx s54 := RLx_fm fs54 (by decide) JRLx_s52
          refine z_aload_n X (x := A 179) (show cdA 287 141 = some (.aload_n 0, 1, 0, 0, 0) from rfl) (List.Mem.head _) ?_
          refine z_getI X 179 (show cdA 287 142 = some (.getfield 458, 3, 12, 76, 0) from rfl) (by decide) rfl rfl ?_
          have b55 : (0 : Int) ≤ iI s54 107 ∧ iI s54 107 ≤ 40 := Is54.1 107
          refine z_const X (show cdA 287 145 = some (.iconst 1, 1, 0, 0, 0) from rfl) ?_
          refine z_sub X (show cdA 287 146 = some (.isub, 1, 0, 0, 0) from rfl) ?_
          exact w_iret X.1 q hRt rfl (ax_d X (show cdA 287 147 = some (.ireturn, 1, 0, 0, 0) from rfl)) (Nat.zero_le _) (Nat.zero_le _) ⟨_, rfl, Is54, Fs54, JRLx_s54, ((iI s54 107) - 1), rfl, ⟨by first | exact oq_c1e961c7 b55.1 | omega, by first | exact oq_86f8893e b55.2 | omega⟩, by first | (clear g38 hps33 hps30 g6 hps4 p3; omega) | (clear hps33 hps30 g6 hps4 p3; omega) | omega⟩
        ·
          refine z_const X (show cdA 287 60 = some (.iconst (-1), 1, 0, 0, 0) from rfl) ?_
          exact w_iret X.1 q hRt rfl (ax_d X (show cdA 287 61 = some (.ireturn, 1, 0, 0, 0) from rfl)) (Nat.zero_le _) (Nat.zero_le _) ⟨_, rfl, Is33, Gs33, JRLx_s33, (-1), rfl, (by decide), by first | (clear hps33 hps30 g6 hps4 p3; omega) | (clear hps30 g6 hps4 p3; omega) | omega⟩
      ·
        refine z_const X (show cdA 287 49 = some (.iconst 0, 1, 0, 0, 0) from rfl) ?_
        exact w_iret X.1 q hRt rfl (ax_d X (show cdA 287 50 = some (.ireturn, 1, 0, 0, 0) from rfl)) (Nat.zero_le _) (Nat.zero_le _) ⟨_, rfl, Is33, Gs33, JRLx_s33, 0, rfl, (by decide), by first | (clear g36 hps33 hps30 g6 hps4 p3; omega) | (clear hps33 hps30 g6 hps4 p3; omega) | omega⟩
    ·
      refine z_load_n X (x := z) (show cdA 287 26 = some (.iload_n 3, 1, 0, 0, 0) from rfl) (List.Mem.tail _ (List.Mem.tail _ (List.Mem.tail _ (List.Mem.head _)))) ?_
      refine z_const X (show cdA 287 27 = some (.iconst 0, 1, 0, 0, 0) from rfl) ?_
      refine z_sipush X (show cdA 287 28 = some (.sipush 9999, 3, 0, 0, 9999) from rfl) ?_
      refine z_callS X (rm := rmN 188) (As := [.int (Int32.ofInt z), .int (Int32.ofInt 0), .int (Int32.ofInt 9999)]) (st := [.ref (A 179)]) (show cdA 287 31 = some (.invokestatic 209, 3, 188, 1, 0) from rfl) rfl (by rw [E.1, E.2.1, E.2.2.1]; exact k_in2 G Is3 (by first | exact ⟨p2.1, p2.2⟩ | omega) (by first | exact ⟨by decide, by decide⟩ | omega) (by first | exact ⟨by decide, by decide⟩ | omega)) ⟨by rw [E.2.2.2]; exact (show (rmN 188).frames + 1 ≤ (rmN 287).frames by decide), by rw [E.2.2.2]; exact (show 8 + (mNL (miB 188) + 11) + (rmN 188).locals ≤ (rmN 287).locals by decide), by rw [E.2.2.2]; exact (show 0 + (rmN 188).cells ≤ (rmN 287).cells by decide), by rw [E.2.2.2]; exact (show 0 + (rmN 188).slots ≤ (rmN 287).slots by decide)⟩ (Nat.le_of_ble_eq_true rfl) (fun vv s56 hq => ?_) (fun ee s56 hq => ?_)
      rotate_left
      · obtain ⟨rfl, e57, hv, hrs56, hps56⟩ := hq; cases hv
      obtain ⟨rfl, e57, hv, hrs56, hps56⟩ := hq
      cases hv
      show WS k 34 [(0, .ref (A 179)), (1, .int (Int32.ofInt x)), (2, .int (Int32.ofInt y)), (3, .int (Int32.ofInt z)), (4, .int (Int32.ofInt w))] [.int (Int32.ofInt e57), .ref (A 179)] (Wd A dT s3) 0 0
      have N58 : ∀ e59 : Int, (((e57 ≠ 0) ∧ e59 = 0) ∨ ((e57 = 0) ∧ e59 = 1)) → WS k 42 [(0, .ref (A 179)), (1, .int (Int32.ofInt x)), (2, .int (Int32.ofInt y)), (3, .int (Int32.ofInt z)), (4, .int (Int32.ofInt w))] [.int (Int32.ofInt e59), .ref (A 179)] (Wd A dT s3) 0 0 := by
        intro e59 he59
        have re59 : 0 ≤ e59 ∧ e59 ≤ 1 := by first | (clear he59 hps56 g32 hps30 g6 hps4 p3; omega) | (clear hps56 g32 hps30 g6 hps4 p3; omega) | omega
        refine z_const X (show cdA 287 42 = some (.iconst 1, 1, 0, 0, 0) from rfl) ?_
        refine z_callV X 179 (rm := rmN 187) (As := [.int (Int32.ofInt e59), .int (Int32.ofInt 1)]) (st := []) (show cdA 287 43 = some (.invokevirtual 229, 3, 187, 0, 0) from rfl) rfl (by decide) rfl (by rw [E.1, E.2.1, E.2.2.1]; exact k_bad2 G Is3 (by first | (clear he59 hps56 g32 hps30 g6 hps4 p3; omega) | (clear hps56 g32 hps30 g6 hps4 p3; omega) | omega) (by first | exact ⟨by decide, by decide⟩ | omega)) ⟨by rw [E.2.2.2]; exact (show (rmN 187).frames + 1 ≤ (rmN 287).frames by decide), by rw [E.2.2.2]; exact (show 8 + (mNL (miB 187) + 11) + (rmN 187).locals ≤ (rmN 287).locals by decide), by rw [E.2.2.2]; exact (show 0 + (rmN 187).cells ≤ (rmN 287).cells by decide), by rw [E.2.2.2]; exact (show 0 + (rmN 187).slots ≤ (rmN 287).slots by decide)⟩ (Nat.le_of_ble_eq_true rfl) (fun vv s60 hq => ?_) (fun ee s60 hq => ?_)
        rotate_left
        · obtain ⟨Is60, Fs60, e61, hv, hrs60, hps60⟩ := hq; cases hv
        obtain ⟨Is60, Fs60, e61, hv, hrs60, hps60⟩ := hq
        cases hv
        have Gs60 := fm_ts Fs3 Fs60 (by decide) (by decide)
        have JRLx_s60 : RLx s60 := RLx_fm Fs60 (by decide) JRLx_s3
        have b62 : (0 : Int) ≤ iI s60 73 ∧ iI s60 73 ≤ 3 := Is60.1 73
        have ws60_107 : iI s60 107 = iI s3 107 := fm_i Fs60 (by decide)
        show WS k 46 [(0, .ref (A 179)), (1, .int (Int32.ofInt x)), (2, .int (Int32.ofInt y)), (3, .int (Int32.ofInt z)), (4, .int (Int32.ofInt w))] [.int (Int32.ofInt e61)] (Wd A dT s60) 0 0
        refine z_if_eq X (t := 51) (show cdA 287 46 = some (.ifCond .eq 5, 3, 0, 0, 0) from rfl) (by decide) hrs60 (fun g63 => ?_) (fun g63 => ?_)
        ·
          refine z_aload_n X (x := A 179) (show cdA 287 51 = some (.aload_n 0, 1, 0, 0, 0) from rfl) (List.Mem.head _) ?_
          refine z_getI X 179 (show cdA 287 52 = some (.getfield 458, 3, 12, 76, 0) from rfl) (by decide) rfl rfl ?_
          have b64 : (0 : Int) ≤ iI s60 107 ∧ iI s60 107 ≤ 40 := Is60.1 107
          refine z_bipush X (show cdA 287 55 = some (.bipush 40, 2, 0, 0, 40) from rfl) ?_
          refine z_icmp_ne X (t := 62) (show cdA 287 57 = some (.if_icmp .ne 5, 3, 1, 0, 0) from rfl) (by decide) (rng_to _) (by decide) (fun g65 => ?_) (fun g65 => ?_)
          ·
            refine z_aload_n X (x := A 179) (show cdA 287 62 = some (.aload_n 0, 1, 0, 0, 0) from rfl) (List.Mem.head _) ?_
            refine z_load_n X (x := x) (show cdA 287 63 = some (.iload_n 1, 1, 0, 0, 0) from rfl) (List.Mem.tail _ (List.Mem.head _)) ?_
            refine z_callV X 179 (rm := rmN 230) (As := [.int (Int32.ofInt x)]) (st := []) (show cdA 287 64 = some (.invokevirtual 327, 3, 230, 0, 0) from rfl) rfl (by decide) rfl (by rw [E.1, E.2.1, E.2.2.1]; exact k_setOf G Is60 (by first | exact ⟨p0.1, p0.2⟩ | omega)) ⟨by rw [E.2.2.2]; exact (show (rmN 230).frames + 1 ≤ (rmN 287).frames by decide), by rw [E.2.2.2]; exact (show 8 + (mNL (miB 230) + 11) + (rmN 230).locals ≤ (rmN 287).locals by decide), by rw [E.2.2.2]; exact (show 0 + (rmN 230).cells ≤ (rmN 287).cells by decide), by rw [E.2.2.2]; exact (show 0 + (rmN 230).slots ≤ (rmN 287).slots by decide)⟩ (Nat.le_of_ble_eq_true rfl) (fun vv s66 hq => ?_) (fun ee s66 hq => ?_)
            rotate_left
            · obtain ⟨Is66, Fs66, hv, hps66⟩ := hq; cases hv
            obtain ⟨Is66, Fs66, hv, hps66⟩ := hq
            cases hv
            have Gs66 := fm_ts Gs60 Fs66 (by decide) (by decide)
            have JRLx_s66 : RLx s66 := RLx_fm Fs66 (by decide) JRLx_s60
            have ws66_73 : iI s66 73 = iI s60 73 := fm_i Fs66 (by decide)
            have ws66_107 : iI s66 107 = iI s60 107 := fm_i Fs66 (by decide)
            show WS k 67 [(0, .ref (A 179)), (1, .int (Int32.ofInt x)), (2, .int (Int32.ofInt y)), (3, .int (Int32.ofInt z)), (4, .int (Int32.ofInt w))] [] (Wd A dT s66) 0 0
            refine z_aload_n X (x := A 179) (show cdA 287 67 = some (.aload_n 0, 1, 0, 0, 0) from rfl) (List.Mem.head _) ?_
            refine z_load_n X (x := y) (show cdA 287 68 = some (.iload_n 2, 1, 0, 0, 0) from rfl) (List.Mem.tail _ (List.Mem.tail _ (List.Mem.head _))) ?_
            refine z_callV X 179 (rm := rmN 222) (As := [.int (Int32.ofInt y)]) (st := []) (show cdA 287 69 = some (.invokevirtual 333, 3, 222, 0, 0) from rfl) rfl (by decide) rfl (by rw [E.1, E.2.1, E.2.2.1]; exact k_asTold G Is66 JRLx_s66 (by first | (clear g65 hps60 he59 hps56 g32 hps30 g6 hps4 p3; omega) | (clear hps60 he59 hps56 g32 hps30 g6 hps4 p3; omega) | omega)) ⟨by rw [E.2.2.2]; exact (show (rmN 222).frames + 1 ≤ (rmN 287).frames by decide), by rw [E.2.2.2]; exact (show 8 + (mNL (miB 222) + 11) + (rmN 222).locals ≤ (rmN 287).locals by decide), by rw [E.2.2.2]; exact (show 0 + (rmN 222).cells ≤ (rmN 287).cells by decide), by rw [E.2.2.2]; exact (show 0 + (rmN 222).slots ≤ (rmN 287).slots by decide)⟩ (Nat.le_of_ble_eq_true rfl) (fun vv s68 hq => ?_) (fun ee s68 hq => ?_)
            rotate_left
            · obtain ⟨Is68, Fs68, JRLx_s68, JNQ_s68, hv, hps68⟩ := hq; cases hv
            obtain ⟨Is68, Fs68, JRLx_s68, JNQ_s68, hv, hps68⟩ := hq
            cases hv
            have Gs68 := fm_ts Gs66 Fs68 (by decide) (by decide)
            have JRLx_s68 : RLx s68 := RLx_fm Fs68 (by decide) JRLx_s66
            have ws68_73 : iI s68 73 = iI s66 73 := fm_i Fs68 (by decide)
            have ws68_107 : iI s68 107 = iI s66 107 := fm_i Fs68 (by decide)
            show WS k 72 [(0, .ref (A 179)), (1, .int (Int32.ofInt x)), (2, .int (Int32.ofInt y)), (3, .int (Int32.ofInt z)), (4, .int (Int32.ofInt w))] [] (Wd A dT s68) 0 0
            refine z_aload_n X (x := A 179) (show cdA 287 72 = some (.aload_n 0, 1, 0, 0, 0) from rfl) (List.Mem.head _) ?_
            have JNW_s68 : NW s68 := NW_of JNQ_s68 JRLx_s68
            refine z_callV X 179 (rm := rmN 227) (As := []) (st := []) (show cdA 287 73 = some (.invokevirtual 318, 3, 227, 0, 0) from rfl) rfl (by decide) rfl (by rw [E.1, E.2.1, E.2.2.1]; exact k_listen G Is68 JNW_s68 ) ⟨by rw [E.2.2.2]; exact (show (rmN 227).frames + 1 ≤ (rmN 287).frames by decide), by rw [E.2.2.2]; exact (show 8 + (mNL (miB 227) + 11) + (rmN 227).locals ≤ (rmN 287).locals by decide), by rw [E.2.2.2]; exact (show 0 + (rmN 227).cells ≤ (rmN 287).cells by decide), by rw [E.2.2.2]; exact (show 0 + (rmN 227).slots ≤ (rmN 287).slots by decide)⟩ (Nat.le_of_ble_eq_true rfl) (fun vv s70 hq => ?_) (fun ee s70 hq => ?_)
            rotate_left
            · obtain ⟨Is70, Fs70, JNW_s70, hv, hps70⟩ := hq; cases hv
            obtain ⟨Is70, Fs70, JNW_s70, hv, hps70⟩ := hq
            cases hv
            have Gs70 := fm_ts Gs68 Fs70 (by decide) (by decide)
            have JRLx_s70 : RLx s70 := RLx_fm Fs70 (by decide) JRLx_s68
            have JNQ_s70 : NQ s70 := NQ_fm Fs70 (by decide) JNQ_s68
            have JNW_s70 : NW s70 := NW_fm Fs70 (by decide) JNW_s68
            have ws70_73 : iI s70 73 = iI s68 73 := fm_i Fs70 (by decide)
            have ws70_107 : iI s70 107 = iI s68 107 := fm_i Fs70 (by decide)
            show WS k 76 [(0, .ref (A 179)), (1, .int (Int32.ofInt x)), (2, .int (Int32.ofInt y)), (3, .int (Int32.ofInt z)), (4, .int (Int32.ofInt w))] [] (Wd A dT s70) 0 0
            refine z_const X (show cdA 287 76 = some (.iconst 0, 1, 0, 0, 0) from rfl) ?_
            refine z_store X (lv' := [(5, .int (Int32.ofInt 0)), (0, .ref (A 179)), (1, .int (Int32.ofInt x)), (2, .int (Int32.ofInt y)), (3, .int (Int32.ofInt z)), (4, .int (Int32.ofInt w))]) (show cdA 287 77 = some (.istore 5, 2, 0, 0, 0) from rfl) (by decide) (fun _ h => h) ?_
            refine WS_lv (lv := [(0, .ref (A 179)), (1, .int (Int32.ofInt x)), (2, .int (Int32.ofInt y)), (3, .int (Int32.ofInt z)), (4, .int (Int32.ofInt w)), (5, .int (Int32.ofInt 0))]) (List.forall_mem_cons.mpr ⟨(List.Mem.tail _ (List.Mem.head _)), (List.forall_mem_cons.mpr ⟨(List.Mem.tail _ (List.Mem.tail _ (List.Mem.head _))), (List.forall_mem_cons.mpr ⟨(List.Mem.tail _ (List.Mem.tail _ (List.Mem.tail _ (List.Mem.head _)))), (List.forall_mem_cons.mpr ⟨(List.Mem.tail _ (List.Mem.tail _ (List.Mem.tail _ (List.Mem.tail _ (List.Mem.head _))))), (List.forall_mem_cons.mpr ⟨(List.Mem.tail _ (List.Mem.tail _ (List.Mem.tail _ (List.Mem.tail _ (List.Mem.tail _ (List.Mem.head _)))))), (List.forall_mem_cons.mpr ⟨(List.Mem.head _), (fun q h => absurd h List.not_mem_nil)⟩)⟩)⟩)⟩)⟩)⟩) ?_
            refine L79 ((4 - 0 : Int).toNat + 1) s70 x y z w 0 Is70 Gs70 JRLx_s70 (by first | exact ⟨And.intro (p2.1) (p2.2), p3, by decide, by decide, by first | (clear g65 hps60 he59 hps56 g32 hps30 g6 hps4 p3; omega) | (clear hps60 he59 hps56 g32 hps30 g6 hps4 p3; omega) | omega, oq_d5af8cc9 ws70_107 ws3_107 ws68_107 ws60_107 ws66_107, by first | (clear g65 hps60 he59 hps56 g32 hps30 g6 hps4 p3; omega) | (clear hps60 he59 hps56 g32 hps30 g6 hps4 p3; omega) | omega⟩ | omega) (Nat.lt_succ_self _) ?_
            intro s72 x73 Is72 Fs72 JRLx_s72 hs72
            have b74 : (0 : Int) ≤ iI s72 73 ∧ iI s72 73 ≤ 3 := Is72.1 73
            have b75 : (0 : Int) ≤ iI s72 107 ∧ iI s72 107 ≤ 40 := Is72.1 107
            refine z_aload_n X (x := A 179) (show cdA 287 110 = some (.aload_n 0, 1, 0, 0, 0) from rfl) (List.Mem.head _) ?_
            refine s_getR X 179 (show cdA 287 111 = some (.getfield 163, 3, 12, 78, 0) from rfl) (by decide) rfl rfl ?_
            refine z_aload_n X (x := A 179) (show cdA 287 114 = some (.aload_n 0, 1, 0, 0, 0) from rfl) (List.Mem.head _) ?_
            refine z_getI X 179 (show cdA 287 115 = some (.getfield 458, 3, 12, 76, 0) from rfl) (by decide) rfl rfl ?_
            have b76 : (0 : Int) ≤ iI s72 107 ∧ iI s72 107 ≤ 40 := Is72.1 107
            refine z_load_n X (x := z) (show cdA 287 118 = some (.iload_n 3, 1, 0, 0, 0) from rfl) (List.Mem.tail _ (List.Mem.tail _ (List.Mem.tail _ (List.Mem.head _)))) ?_
            refine z_ast X 514 (show cdA 287 119 = some (.iastore, 1, 0, 0, 0) from rfl) (by decide) rfl (by first | exact b76.1 | omega) (show (iI s72 107) < 40 by first | exact oq_2ca8b5c0 hs72.2.2.2.2.1 | omega) (by decide) ?_
            obtain ⟨s77, hs77⟩ : ∃ x0, x0 = uC s72 457 ((iI s72 107)).toNat (Int32.ofInt z) := ⟨_, rfl⟩
            rw [← hs77]
            have Is77 : Bd s77 := by rw [hs77]; exact bd_C Is72 (show ((-2147483648) : Int) ≤ z ∧ z ≤ 2147483647 by first | exact ⟨hs72.1.1, hs72.1.2⟩ | omega) ⟨by first | exact hs72.1.1 | omega, by first | exact hs72.1.2 | omega⟩
            have Fs77 := fm_C (i := ((iI s72 107)).toNat) (x := Int32.ofInt z) Fs72 (show 457 ∈ _ by decide)
            rw [← hs77] at Fs77
            have ws77_73 : iI s77 73 = iI s72 73 := by rw [hs77]; rfl
            have ws77_107 : iI s77 107 = iI s72 107 := by rw [hs77]; rfl
            have fs77 : Fm [] [457] s72 s77 := by rw [hs77]; exact fm_C (fm_rf _ _ _) (show 457 ∈ _ by decide)
            have JRLx_s77 : RLx s77 := RLx_fm fs77 (by decide) JRLx_s72
            refine z_aload_n X (x := A 179) (show cdA 287 120 = some (.aload_n 0, 1, 0, 0, 0) from rfl) (List.Mem.head _) ?_
            refine s_getR X 179 (show cdA 287 121 = some (.getfield 169, 3, 12, 80, 0) from rfl) (by decide) rfl rfl ?_
            refine z_aload_n X (x := A 179) (show cdA 287 124 = some (.aload_n 0, 1, 0, 0, 0) from rfl) (List.Mem.head _) ?_
            refine z_getI X 179 (show cdA 287 125 = some (.getfield 458, 3, 12, 76, 0) from rfl) (by decide) rfl rfl ?_
            have b78 : (0 : Int) ≤ iI s77 107 ∧ iI s77 107 ≤ 40 := Is77.1 107
            refine z_load X (x := w) (show cdA 287 128 = some (.iload 4, 2, 0, 0, 0) from rfl) (List.Mem.tail _ (List.Mem.tail _ (List.Mem.tail _ (List.Mem.tail _ (List.Mem.head _))))) ?_
            refine z_zast X 516 (show cdA 287 130 = some (.bastore, 1, 0, 0, 0) from rfl) (by decide) rfl (by first | exact b78.1 | omega) (show (iI s77 107) < 40 by first | exact oq_e7509aa9 ws77_107 hs72.2.2.2.2.1 | omega) (by decide) (by first | exact hs72.2.1 | omega) ?_
            obtain ⟨s79, hs79⟩ : ∃ x0, x0 = uC s77 459 ((iI s77 107)).toNat (Int32.ofInt w) := ⟨_, rfl⟩
            rw [← hs79]
            have Is79 : Bd s79 := by rw [hs79]; exact bd_C Is77 (show (0 : Int) ≤ w ∧ w ≤ 1 by first | (clear g65 hps60 he59 hps56 g32 hps30 g6 hps4 p3; omega) | (clear hps60 he59 hps56 g32 hps30 g6 hps4 p3; omega) | omega) ⟨by first | (clear g65 hps60 he59 hps56 g32 hps30 g6 hps4 p3; omega) | (clear hps60 he59 hps56 g32 hps30 g6 hps4 p3; omega) | omega, by first | (clear g65 hps60 he59 hps56 g32 hps30 g6 hps4 p3; omega) | (clear hps60 he59 hps56 g32 hps30 g6 hps4 p3; omega) | omega⟩
            have Fs79 := fm_C (i := ((iI s77 107)).toNat) (x := Int32.ofInt w) Fs77 (show 459 ∈ _ by decide)
            rw [← hs79] at Fs79
            have ws79_73 : iI s79 73 = iI s77 73 := by rw [hs79]; rfl
            have ws79_107 : iI s79 107 = iI s77 107 := by rw [hs79]; rfl
            have fs79 : Fm [] [459] s77 s79 := by rw [hs79]; exact fm_C (fm_rf _ _ _) (show 459 ∈ _ by decide)
            have JRLx_s79 : RLx s79 := RLx_fm fs79 (by decide) JRLx_s77
            refine z_aload_n X (x := A 179) (show cdA 287 131 = some (.aload_n 0, 1, 0, 0, 0) from rfl) (List.Mem.head _) ?_
            refine w_dup X.1 (ax_d X (show cdA 287 132 = some (.dup, 1, 0, 0, 0) from rfl)) rfl ?_
            refine z_getI X 179 (show cdA 287 133 = some (.getfield 458, 3, 12, 76, 0) from rfl) (by decide) rfl rfl ?_
            have b80 : (0 : Int) ≤ iI s79 107 ∧ iI s79 107 ≤ 40 := Is79.1 107
            refine z_const X (show cdA 287 136 = some (.iconst 1, 1, 0, 0, 0) from rfl) ?_
            refine z_add X (show cdA 287 137 = some (.iadd, 1, 0, 0, 0) from rfl) ?_
            refine s_putI X 179 (show cdA 287 138 = some (.putfield 458, 3, 12, 76, 0) from rfl) (by decide) rfl rfl (by decide) rfl rfl rfl ?_
            obtain ⟨s81, hs81⟩ : ∃ x0, x0 = uI s79 107 (Int32.ofInt ((iI s79 107) + 1)) := ⟨_, rfl⟩
            rw [← hs81]
            have Is81 : Bd s81 := by rw [hs81]; exact bd_I Is79 (show (0 : Int) ≤ ((iI s79 107) + 1) ∧ ((iI s79 107) + 1) ≤ 40 by first | exact ⟨oq_54f49eb5 b80.1, oq_44ae331b ws79_107 ws77_107 hs72.2.2.2.2.1⟩ | omega) ⟨by first | exact oq_74de1e16 b80.1 | omega, by first | exact oq_c01d6c28 b80.2 | omega⟩
            have Fs81 := fm_I (x := Int32.ofInt ((iI s79 107) + 1)) Fs79 (show 107 ∈ _ by decide)
            rw [← hs81] at Fs81
            have vs81 : iI s81 107 = ((iI s79 107) + 1) := by rw [hs81]; exact iI_u ⟨by first | exact oq_74de1e16 b80.1 | omega, by first | exact oq_c01d6c28 b80.2 | omega⟩
            have ws81_73 : iI s81 73 = iI s79 73 := by rw [hs81]; rfl
            have fs81 : Fm [107] [] s79 s81 := by rw [hs81]; exact fm_I (fm_rf _ _ _) (show 107 ∈ _ by decide)
            have JRLx_s81 : RLx s81 := RLx_fm fs81 (by decide) JRLx_s79
            refine z_aload_n X (x := A 179) (show cdA 287 141 = some (.aload_n 0, 1, 0, 0, 0) from rfl) (List.Mem.head _) ?_
            refine z_getI X 179 (show cdA 287 142 = some (.getfield 458, 3, 12, 76, 0) from rfl) (by decide) rfl rfl ?_
            have b82 : (0 : Int) ≤ iI s81 107 ∧ iI s81 107 ≤ 40 := Is81.1 107
            refine z_const X (show cdA 287 145 = some (.iconst 1, 1, 0, 0, 0) from rfl) ?_
            refine z_sub X (show cdA 287 146 = some (.isub, 1, 0, 0, 0) from rfl) ?_
            exact w_iret X.1 q hRt rfl (ax_d X (show cdA 287 147 = some (.ireturn, 1, 0, 0, 0) from rfl)) (Nat.zero_le _) (Nat.zero_le _) ⟨_, rfl, Is81, Fs81, JRLx_s81, ((iI s81 107) - 1), rfl, ⟨by first | exact oq_c1e961c7 b82.1 | omega, by first | exact oq_86f8893e b82.2 | omega⟩, by first | (clear g65 hps60 he59 hps56 g32 hps30 g6 hps4 p3; omega) | (clear hps60 he59 hps56 g32 hps30 g6 hps4 p3; omega) | omega⟩
          ·
            refine z_const X (show cdA 287 60 = some (.iconst (-1), 1, 0, 0, 0) from rfl) ?_
            exact w_iret X.1 q hRt rfl (ax_d X (show cdA 287 61 = some (.ireturn, 1, 0, 0, 0) from rfl)) (Nat.zero_le _) (Nat.zero_le _) ⟨_, rfl, Is60, Gs60, JRLx_s60, (-1), rfl, (by decide), by first | (clear hps60 he59 hps56 g32 hps30 g6 hps4 p3; omega) | (clear he59 hps56 g32 hps30 g6 hps4 p3; omega) | omega⟩
        ·
          refine z_const X (show cdA 287 49 = some (.iconst 0, 1, 0, 0, 0) from rfl) ?_
          exact w_iret X.1 q hRt rfl (ax_d X (show cdA 287 50 = some (.ireturn, 1, 0, 0, 0) from rfl)) (Nat.zero_le _) (Nat.zero_le _) ⟨_, rfl, Is60, Gs60, JRLx_s60, 0, rfl, (by decide), by first | (clear g63 hps60 he59 hps56 g32 hps30 g6 hps4 p3; omega) | (clear hps60 he59 hps56 g32 hps30 g6 hps4 p3; omega) | omega⟩
      refine z_if_ne X (t := 41) (show cdA 287 34 = some (.ifCond .ne 7, 3, 1, 0, 0) from rfl) (by decide) hrs56 (fun g83 => ?_) (fun g83 => ?_)
      ·
        refine z_const X (show cdA 287 41 = some (.iconst 0, 1, 0, 0, 0) from rfl) ?_
        exact N58 _ (Or.inl ⟨g83, rfl⟩)
      ·
        refine z_const X (show cdA 287 37 = some (.iconst 1, 1, 0, 0, 0) from rfl) ?_
        refine z_goto X (t := 42) (show cdA 287 38 = some (.goto 4, 3, 0, 0, 0) from rfl) (by decide) ?_
        exact N58 _ (Or.inr (⟨g83, rfl⟩))
set_option maxRecDepth 4000 in
theorem c1_add2 (G : GX l s0 D tys a0 dT) (I : Bd s) {x y : Int} (p0 : rng x) (p1 : y = 0 ∨ y = 1) : CT l s0 D A dT 11 (rmN 11) [.ref (A 173), .ref (A 39), .int (Int32.ofInt x), .int (Int32.ofInt y)] s (fun o t => Bd t ∧ Fm [70] [152, 153, 154] s t ∧ ∃ e, o = .inl (some (.int (Int32.ofInt e))) ∧ rng e ∧ ((iI s 70 = 40 ∧ e = -1 ∧ iI t 70 = 40) ∨ (iI s 70 ≠ 40 ∧ e = iI s 70 ∧ iI t 70 = iI s 70 + 1))) := by
  refine ct_ofX G (by decide) (Nat.le_of_ble_eq_true rfl) (fun k X E ET hRt hXt q => ?_)
  show WS k 0 [(0, .ref (A 173)), (1, .ref (A 39)), (2, .int (Int32.ofInt x)), (3, .int (Int32.ofInt y))] [] _ 0 0
  have F : Fm [70] [152, 153, 154] s s := fm_rf _ _ s
  have b1 : (0 : Int) ≤ iI s 70 ∧ iI s 70 ≤ 40 := I.1 70
  refine z_aload_n X (x := A 173) (show cdA 11 0 = some (.aload_n 0, 1, 0, 0, 0) from rfl) (List.Mem.head _) ?_
  refine z_getI X 173 (show cdA 11 1 = some (.getfield 28, 3, 1, 3, 0) from rfl) (by decide) rfl rfl ?_
  have b2 : (0 : Int) ≤ iI s 70 ∧ iI s 70 ≤ 40 := I.1 70
  refine z_bipush X (show cdA 11 4 = some (.bipush 40, 2, 0, 0, 40) from rfl) ?_
  refine z_icmp_lt X (t := 11) (show cdA 11 6 = some (.if_icmp .lt 5, 3, 2, 0, 0) from rfl) (by decide) (rng_to _) (by decide) (fun g3 => ?_) (fun g3 => ?_)
  ·
    refine z_aload_n X (x := A 39) (show cdA 11 11 = some (.aload_n 1, 1, 0, 0, 0) from rfl) (List.Mem.tail _ (List.Mem.head _)) ?_
    refine z_const X (show cdA 11 12 = some (.iconst 0, 1, 0, 0, 0) from rfl) ?_
    refine z_aload_n X (x := A 173) (show cdA 11 13 = some (.aload_n 0, 1, 0, 0, 0) from rfl) (List.Mem.head _) ?_
    refine s_getR X 173 (show cdA 11 14 = some (.getfield 11, 3, 1, 0, 0) from rfl) (by decide) rfl rfl ?_
    refine z_aload_n X (x := A 173) (show cdA 11 17 = some (.aload_n 0, 1, 0, 0, 0) from rfl) (List.Mem.head _) ?_
    refine z_getI X 173 (show cdA 11 18 = some (.getfield 28, 3, 1, 3, 0) from rfl) (by decide) rfl rfl ?_
    have b4 : (0 : Int) ≤ iI s 70 ∧ iI s 70 ≤ 40 := I.1 70
    refine z_const X (show cdA 11 21 = some (.iconst 4, 1, 0, 0, 0) from rfl) ?_
    refine z_mul X (show cdA 11 22 = some (.imul, 1, 0, 0, 0) from rfl) ?_
    refine z_const X (show cdA 11 23 = some (.iconst 4, 1, 0, 0, 0) from rfl) ?_
    refine z_copy X I 39 174 (st := []) (show cdA 11 24 = some (.invokestatic 32, 3, 0, 5, 0) from rfl) (by decide) (by decide) rfl rfl (by first | (clear p1; omega) | omega) (by first | (clear p1; omega) | omega) (by first | (clear p1; omega) | omega) (show 0 + 4 ≤ ((7 : Nat) : Int) by first | (clear p1; omega) | omega) (show ((iI s 70) * 4) + 4 ≤ ((160 : Nat) : Int) by first | (clear p1; omega) | omega) (by decide) (by rw [E.2.2.2]; decide) (by rw [E.2.2.2]; exact Nat.le_of_ble_eq_true rfl) (fun s5 Is5 Fs5 => ?_)
    have Gs5 := fm_ts F Fs5 (by decide) (by decide)
    have ws5_70 : iI s5 70 = iI s 70 := fm_i Fs5 (by decide)
    refine z_aload_n X (x := A 173) (show cdA 11 27 = some (.aload_n 0, 1, 0, 0, 0) from rfl) (List.Mem.head _) ?_
    refine s_getR X 173 (show cdA 11 28 = some (.getfield 15, 3, 1, 1, 0) from rfl) (by decide) rfl rfl ?_
    refine z_aload_n X (x := A 173) (show cdA 11 31 = some (.aload_n 0, 1, 0, 0, 0) from rfl) (List.Mem.head _) ?_
    refine z_getI X 173 (show cdA 11 32 = some (.getfield 28, 3, 1, 3, 0) from rfl) (by decide) rfl rfl ?_
    have b6 : (0 : Int) ≤ iI s5 70 ∧ iI s5 70 ≤ 40 := Is5.1 70
    refine z_load_n X (x := x) (show cdA 11 35 = some (.iload_n 2, 1, 0, 0, 0) from rfl) (List.Mem.tail _ (List.Mem.tail _ (List.Mem.head _))) ?_
    refine z_ast X 175 (show cdA 11 36 = some (.iastore, 1, 0, 0, 0) from rfl) (by decide) rfl (by first | exact b6.1 | omega) (show (iI s5 70) < 40 by first | exact oq_acf68b34 ws5_70 g3 | omega) (by decide) ?_
    obtain ⟨s7, hs7⟩ : ∃ x0, x0 = uC s5 153 ((iI s5 70)).toNat (Int32.ofInt x) := ⟨_, rfl⟩
    rw [← hs7]
    have Is7 : Bd s7 := by rw [hs7]; exact bd_C Is5 (show ((-2147483648) : Int) ≤ x ∧ x ≤ 2147483647 by first | exact ⟨p0.1, p0.2⟩ | omega) ⟨by first | exact p0.1 | omega, by first | exact p0.2 | omega⟩
    have Fs7 := fm_C (i := ((iI s5 70)).toNat) (x := Int32.ofInt x) Gs5 (show 153 ∈ _ by decide)
    rw [← hs7] at Fs7
    have ws7_70 : iI s7 70 = iI s5 70 := by rw [hs7]; rfl
    refine z_aload_n X (x := A 173) (show cdA 11 37 = some (.aload_n 0, 1, 0, 0, 0) from rfl) (List.Mem.head _) ?_
    refine s_getR X 173 (show cdA 11 38 = some (.getfield 18, 3, 1, 2, 0) from rfl) (by decide) rfl rfl ?_
    refine z_aload_n X (x := A 173) (show cdA 11 41 = some (.aload_n 0, 1, 0, 0, 0) from rfl) (List.Mem.head _) ?_
    refine z_getI X 173 (show cdA 11 42 = some (.getfield 28, 3, 1, 3, 0) from rfl) (by decide) rfl rfl ?_
    have b8 : (0 : Int) ≤ iI s7 70 ∧ iI s7 70 ≤ 40 := Is7.1 70
    refine z_load_n X (x := y) (show cdA 11 45 = some (.iload_n 3, 1, 0, 0, 0) from rfl) (List.Mem.tail _ (List.Mem.tail _ (List.Mem.tail _ (List.Mem.head _)))) ?_
    refine z_zast X 176 (show cdA 11 46 = some (.bastore, 1, 0, 0, 0) from rfl) (by decide) rfl (by first | exact b8.1 | omega) (show (iI s7 70) < 40 by first | exact oq_c57cae74 ws7_70 ws5_70 g3 | omega) (by decide) (by first | exact p1 | omega) ?_
    obtain ⟨s9, hs9⟩ : ∃ x0, x0 = uC s7 154 ((iI s7 70)).toNat (Int32.ofInt y) := ⟨_, rfl⟩
    rw [← hs9]
    have Is9 : Bd s9 := by rw [hs9]; exact bd_C Is7 (show (0 : Int) ≤ y ∧ y ≤ 1 by first | (clear p1; omega) | omega) ⟨by first | (clear p1; omega) | omega, by first | (clear p1; omega) | omega⟩
    have Fs9 := fm_C (i := ((iI s7 70)).toNat) (x := Int32.ofInt y) Fs7 (show 154 ∈ _ by decide)
    rw [← hs9] at Fs9
    have ws9_70 : iI s9 70 = iI s7 70 := by rw [hs9]; rfl
    refine z_aload_n X (x := A 173) (show cdA 11 47 = some (.aload_n 0, 1, 0, 0, 0) from rfl) (List.Mem.head _) ?_
    refine w_dup X.1 (ax_d X (show cdA 11 48 = some (.dup, 1, 0, 0, 0) from rfl)) rfl ?_
    refine z_getI X 173 (show cdA 11 49 = some (.getfield 28, 3, 1, 3, 0) from rfl) (by decide) rfl rfl ?_
    have b10 : (0 : Int) ≤ iI s9 70 ∧ iI s9 70 ≤ 40 := Is9.1 70
    refine z_const X (show cdA 11 52 = some (.iconst 1, 1, 0, 0, 0) from rfl) ?_
    refine z_add X (show cdA 11 53 = some (.iadd, 1, 0, 0, 0) from rfl) ?_
    refine s_putI X 173 (show cdA 11 54 = some (.putfield 28, 3, 1, 3, 0) from rfl) (by decide) rfl rfl (by decide) rfl rfl rfl ?_
    obtain ⟨s11, hs11⟩ : ∃ x0, x0 = uI s9 70 (Int32.ofInt ((iI s9 70) + 1)) := ⟨_, rfl⟩
    rw [← hs11]
    have Is11 : Bd s11 := by rw [hs11]; exact bd_I Is9 (show (0 : Int) ≤ ((iI s9 70) + 1) ∧ ((iI s9 70) + 1) ≤ 40 by first | exact ⟨oq_54f49eb5 b10.1, oq_beb58a95 ws9_70 ws7_70 ws5_70 g3⟩ | omega) ⟨by first | exact oq_74de1e16 b10.1 | omega, by first | exact oq_c01d6c28 b10.2 | omega⟩
    have Fs11 := fm_I (x := Int32.ofInt ((iI s9 70) + 1)) Fs9 (show 70 ∈ _ by decide)
    rw [← hs11] at Fs11
    have vs11 : iI s11 70 = ((iI s9 70) + 1) := by rw [hs11]; exact iI_u ⟨by first | exact oq_74de1e16 b10.1 | omega, by first | exact oq_c01d6c28 b10.2 | omega⟩
    refine z_aload_n X (x := A 173) (show cdA 11 57 = some (.aload_n 0, 1, 0, 0, 0) from rfl) (List.Mem.head _) ?_
    refine z_getI X 173 (show cdA 11 58 = some (.getfield 28, 3, 1, 3, 0) from rfl) (by decide) rfl rfl ?_
    have b12 : (0 : Int) ≤ iI s11 70 ∧ iI s11 70 ≤ 40 := Is11.1 70
    refine z_const X (show cdA 11 61 = some (.iconst 1, 1, 0, 0, 0) from rfl) ?_
    refine z_sub X (show cdA 11 62 = some (.isub, 1, 0, 0, 0) from rfl) ?_
    exact w_iret X.1 q hRt rfl (ax_d X (show cdA 11 63 = some (.ireturn, 1, 0, 0, 0) from rfl)) (Nat.zero_le _) (Nat.zero_le _) ⟨_, rfl, Is11, Fs11, ((iI s11 70) - 1), rfl, ⟨by first | exact oq_c1e961c7 b12.1 | omega, by first | exact oq_86f8893e b12.2 | omega⟩, by first | exact Or.inr (And.intro (oq_9603bbcc g3) (And.intro (oq_1349e71a vs11 ws9_70 ws7_70 ws5_70) (oq_003dad9f vs11 ws9_70 ws7_70 ws5_70))) | omega⟩
  ·
    refine z_const X (show cdA 11 9 = some (.iconst (-1), 1, 0, 0, 0) from rfl) ?_
    exact w_iret X.1 q hRt rfl (ax_d X (show cdA 11 10 = some (.ireturn, 1, 0, 0, 0) from rfl)) (Nat.zero_le _) (Nat.zero_le _) ⟨_, rfl, I, F, (-1), rfl, (by decide), by first | exact Or.inl (And.intro (oq_cb92d216 b2.2 g3) (And.intro (by decide) (oq_cb92d216 b2.2 g3))) | omega⟩
set_option maxRecDepth 4000 in
theorem cs_needPiece2 (G : GX l s0 D tys a0 dT) (I : Bd s) {v : Int} (p0 : rng v) : CT l s0 D A dT 182 (rmN 182) [.ref (A 0), .int (Int32.ofInt v)] s (fun o t => Bd t ∧ Fm [] [] s t ∧ ((o = .inl none ∧ (0 ≤ v ∧ v ≤ 7)) ∨ ∃ x : Nat, o = .inr (exN x) ∧ (x = 0 ∧ (v < 0 ∨ 7 < v)))) := by
  refine ct_ofX G (by decide) (Nat.le_of_ble_eq_true rfl) (fun k X E ET hRt hXt q => ?_)
  show WS k 0 [(0, .ref (A 0)), (1, .int (Int32.ofInt v))] [] _ 0 0
  have F : Fm [] [] s s := fm_rf _ _ s
  refine z_aload_n X (x := A 0) (show cdA 182 0 = some (.aload_n 0, 1, 0, 0, 0) from rfl) (List.Mem.head _) ?_
  refine z_load_n X (x := v) (show cdA 182 1 = some (.iload_n 1, 1, 0, 0, 0) from rfl) (List.Mem.tail _ (List.Mem.head _)) ?_
  refine z_const X (show cdA 182 2 = some (.iconst 0, 1, 0, 0, 0) from rfl) ?_
  refine z_bipush X (show cdA 182 3 = some (.bipush 7, 2, 0, 0, 7) from rfl) ?_
  refine z_callV X 0 (rm := rmN 184) (As := [.int (Int32.ofInt v), .int (Int32.ofInt 0), .int (Int32.ofInt 7)]) (st := []) (show cdA 182 5 = some (.invokevirtual 151, 3, 184, 0, 0) from rfl) rfl (by decide) rfl (by rw [E.1, E.2.1, E.2.2.1]; exact cs_needWithin2 G I (by first | exact ⟨p0.1, p0.2⟩ | omega) (by first | exact ⟨by decide, by decide⟩ | omega) (by first | exact ⟨by decide, by decide⟩ | omega)) ⟨by rw [E.2.2.2]; exact (show (rmN 184).frames + 1 ≤ (rmN 182).frames by decide), by rw [E.2.2.2]; exact (show 8 + (mNL (miB 184) + 11) + (rmN 184).locals ≤ (rmN 182).locals by decide), by rw [E.2.2.2]; exact (show 0 + 1 ≤ 1 by omega), by rw [E.2.2.2]; exact (show 0 + 6 ≤ 6 by omega)⟩ (Nat.le_of_ble_eq_true rfl) (fun vv s1 hq => ?_) (fun ee s1 hq => ?_)
  rotate_left
  · obtain ⟨Is1, Fs1, (⟨hv, hps1⟩ | ⟨xx, hv, hps1⟩)⟩ := hq
    · cases hv
    · cases hv
      have Gs1 := fm_ts F Fs1 (by decide) (by decide)
      exact x_out X.1 q (fun x hx => (hXt x hx).elim) (show 1 ≤ 1 by omega) (show 6 ≤ 6 by omega) ⟨_, rfl, Is1, Gs1, Or.inr ⟨xx, rfl, by omega⟩⟩
  obtain ⟨Is1, Fs1, (⟨hv, hps1⟩ | ⟨xx, hv, hps1⟩)⟩ := hq
  rotate_left
  · cases hv
  cases hv
  have Gs1 := fm_ts F Fs1 (by decide) (by decide)
  show WS k 8 [(0, .ref (A 0)), (1, .int (Int32.ofInt v))] [] (Wd A dT s1) 1 6
  exact w_vret X.1 q hRt (ax_d X (show cdA 182 8 = some (.return_, 1, 0, 0, 0) from rfl)) (show 1 ≤ 1 by first | (clear hps1; omega) | omega) (show 6 ≤ 6 by first | (clear hps1; omega) | omega) ⟨_, rfl, Is1, Gs1, Or.inl ⟨rfl, by first | exact ⟨hps1.1, hps1.2⟩ | omega⟩⟩
set_option maxRecDepth 4000 in
theorem cs_needQuarter2 (G : GX l s0 D tys a0 dT) (I : Bd s) {v : Int} (p0 : rng v) : CT l s0 D A dT 183 (rmN 183) [.ref (A 0), .int (Int32.ofInt v)] s (fun o t => Bd t ∧ Fm [] [] s t ∧ ((o = .inl none ∧ (0 ≤ v ∧ v ≤ 23)) ∨ ∃ x : Nat, o = .inr (exN x) ∧ (x = 0 ∧ (v < 0 ∨ 23 < v)))) := by
  refine ct_ofX G (by decide) (Nat.le_of_ble_eq_true rfl) (fun k X E ET hRt hXt q => ?_)
  show WS k 0 [(0, .ref (A 0)), (1, .int (Int32.ofInt v))] [] _ 0 0
  have F : Fm [] [] s s := fm_rf _ _ s
  refine z_aload_n X (x := A 0) (show cdA 183 0 = some (.aload_n 0, 1, 0, 0, 0) from rfl) (List.Mem.head _) ?_
  refine z_load_n X (x := v) (show cdA 183 1 = some (.iload_n 1, 1, 0, 0, 0) from rfl) (List.Mem.tail _ (List.Mem.head _)) ?_
  refine z_const X (show cdA 183 2 = some (.iconst 0, 1, 0, 0, 0) from rfl) ?_
  refine z_bipush X (show cdA 183 3 = some (.bipush 23, 2, 0, 0, 23) from rfl) ?_
  refine z_callV X 0 (rm := rmN 184) (As := [.int (Int32.ofInt v), .int (Int32.ofInt 0), .int (Int32.ofInt 23)]) (st := []) (show cdA 183 5 = some (.invokevirtual 151, 3, 184, 0, 0) from rfl) rfl (by decide) rfl (by rw [E.1, E.2.1, E.2.2.1]; exact cs_needWithin2 G I (by first | exact ⟨p0.1, p0.2⟩ | omega) (by first | exact ⟨by decide, by decide⟩ | omega) (by first | exact ⟨by decide, by decide⟩ | omega)) ⟨by rw [E.2.2.2]; exact (show (rmN 184).frames + 1 ≤ (rmN 183).frames by decide), by rw [E.2.2.2]; exact (show 8 + (mNL (miB 184) + 11) + (rmN 184).locals ≤ (rmN 183).locals by decide), by rw [E.2.2.2]; exact (show 0 + 1 ≤ 1 by omega), by rw [E.2.2.2]; exact (show 0 + 6 ≤ 6 by omega)⟩ (Nat.le_of_ble_eq_true rfl) (fun vv s1 hq => ?_) (fun ee s1 hq => ?_)
  rotate_left
  · obtain ⟨Is1, Fs1, (⟨hv, hps1⟩ | ⟨xx, hv, hps1⟩)⟩ := hq
    · cases hv
    · cases hv
      have Gs1 := fm_ts F Fs1 (by decide) (by decide)
      exact x_out X.1 q (fun x hx => (hXt x hx).elim) (show 1 ≤ 1 by omega) (show 6 ≤ 6 by omega) ⟨_, rfl, Is1, Gs1, Or.inr ⟨xx, rfl, by omega⟩⟩
  obtain ⟨Is1, Fs1, (⟨hv, hps1⟩ | ⟨xx, hv, hps1⟩)⟩ := hq
  rotate_left
  · cases hv
  cases hv
  have Gs1 := fm_ts F Fs1 (by decide) (by decide)
  show WS k 8 [(0, .ref (A 0)), (1, .int (Int32.ofInt v))] [] (Wd A dT s1) 1 6
  exact w_vret X.1 q hRt (ax_d X (show cdA 183 8 = some (.return_, 1, 0, 0, 0) from rfl)) (show 1 ≤ 1 by first | (clear hps1; omega) | omega) (show 6 ≤ 6 by first | (clear hps1; omega) | omega) ⟨_, rfl, Is1, Gs1, Or.inl ⟨rfl, by first | exact ⟨hps1.1, hps1.2⟩ | omega⟩⟩
set_option maxRecDepth 4000 in
theorem cs_did2 (G : GX l s0 D tys a0 dT) (I : Bd s) {u v p w : Int} (p0 : rng u) (p1 : rng v) (p2 : rng p) (p3 : w = 0 ∨ w = 1) : CT l s0 D A dT 171 (rmN 171) [.ref (A 0), .int (Int32.ofInt u), .int (Int32.ofInt v), .int (Int32.ofInt p), .int (Int32.ofInt w)] s (fun o t => Bd t ∧ Fm [22, 23, 70] [33, 26, 27, 28, 29, 30, 31, 32, 152, 153, 154] s t ∧ ((∃ e, o = .inl (some (.int (Int32.ofInt e))) ∧ rng e ∧ (0 ≤ u ∧ u ≤ 7 ∧ 0 ≤ v ∧ v ≤ 23 ∧ 0 ≤ p ∧ p ≤ 9999 ∧ ((iI s 70 = 40 ∧ e = -1 ∧ iI t 70 = 40) ∨ (iI s 70 ≠ 40 ∧ e = iI s 70 ∧ iI t 70 = iI s 70 + 1)))) ∨ ∃ x : Nat, o = .inr (exN x) ∧ (x = 0 ∧ (u < 0 ∨ 7 < u ∨ v < 0 ∨ 23 < v ∨ p < 0 ∨ 9999 < p) ∧ iI t 70 = iI s 70))) := by
  refine ct_ofX G (by decide) (Nat.le_of_ble_eq_true rfl) (fun k X E ET hRt hXt q => ?_)
  show WS k 0 [(0, .ref (A 0)), (1, .int (Int32.ofInt u)), (2, .int (Int32.ofInt v)), (3, .int (Int32.ofInt p)), (4, .int (Int32.ofInt w))] [] _ 0 0
  have F : Fm [22, 23, 70] [33, 26, 27, 28, 29, 30, 31, 32, 152, 153, 154] s s := fm_rf _ _ s
  have b1 : (0 : Int) ≤ iI s 70 ∧ iI s 70 ≤ 40 := I.1 70
  refine z_aload_n X (x := A 0) (show cdA 171 0 = some (.aload_n 0, 1, 0, 0, 0) from rfl) (List.Mem.head _) ?_
  refine z_load_n X (x := u) (show cdA 171 1 = some (.iload_n 1, 1, 0, 0, 0) from rfl) (List.Mem.tail _ (List.Mem.head _)) ?_
  refine z_callV X 0 (rm := rmN 182) (As := [.int (Int32.ofInt u)]) (st := []) (show cdA 171 2 = some (.invokevirtual 180, 3, 182, 0, 0) from rfl) rfl (by decide) rfl (by rw [E.1, E.2.1, E.2.2.1]; exact cs_needPiece2 G I (by first | exact ⟨p0.1, p0.2⟩ | omega)) ⟨by rw [E.2.2.2]; exact (show (rmN 182).frames + 1 ≤ (rmN 171).frames by decide), by rw [E.2.2.2]; exact (show 8 + (mNL (miB 182) + 11) + (rmN 182).locals ≤ (rmN 171).locals by decide), by rw [E.2.2.2]; exact (show 0 + 1 ≤ 3 by first | (clear p3; omega) | omega), by rw [E.2.2.2]; exact (show 0 + 6 ≤ 18 by first | (clear p3; omega) | omega)⟩ (Nat.le_of_ble_eq_true rfl) (fun vv s2 hq => ?_) (fun ee s2 hq => ?_)
  rotate_left
  · obtain ⟨Is2, Fs2, (⟨hv, hps2⟩ | ⟨xx, hv, hps2⟩)⟩ := hq
    · cases hv
    · cases hv
      have Gs2 := fm_ts F Fs2 (by decide) (by decide)
      have ws2_70 : iI s2 70 = iI s 70 := fm_i Fs2 (by decide)
      exact x_out X.1 q (fun x hx => (hXt x hx).elim) (show 1 ≤ 3 by first | (clear p3; omega) | omega) (show 6 ≤ 18 by first | (clear p3; omega) | omega) ⟨_, rfl, Is2, Gs2, Or.inr ⟨xx, rfl, by first | (clear p3; omega) | omega⟩⟩
  obtain ⟨Is2, Fs2, (⟨hv, hps2⟩ | ⟨xx, hv, hps2⟩)⟩ := hq
  rotate_left
  · cases hv
  cases hv
  have Gs2 := fm_ts F Fs2 (by decide) (by decide)
  have ws2_70 : iI s2 70 = iI s 70 := fm_i Fs2 (by decide)
  show WS k 5 [(0, .ref (A 0)), (1, .int (Int32.ofInt u)), (2, .int (Int32.ofInt v)), (3, .int (Int32.ofInt p)), (4, .int (Int32.ofInt w))] [] (Wd A dT s2) 1 6
  refine z_aload_n X (x := A 0) (show cdA 171 5 = some (.aload_n 0, 1, 0, 0, 0) from rfl) (List.Mem.head _) ?_
  refine z_load_n X (x := v) (show cdA 171 6 = some (.iload_n 2, 1, 0, 0, 0) from rfl) (List.Mem.tail _ (List.Mem.tail _ (List.Mem.head _))) ?_
  refine z_callV X 0 (rm := rmN 183) (As := [.int (Int32.ofInt v)]) (st := []) (show cdA 171 7 = some (.invokevirtual 148, 3, 183, 0, 0) from rfl) rfl (by decide) rfl (by rw [E.1, E.2.1, E.2.2.1]; exact cs_needQuarter2 G Is2 (by first | exact ⟨p1.1, p1.2⟩ | omega)) ⟨by rw [E.2.2.2]; exact (show (rmN 183).frames + 1 ≤ (rmN 171).frames by decide), by rw [E.2.2.2]; exact (show 8 + (mNL (miB 183) + 11) + (rmN 183).locals ≤ (rmN 171).locals by decide), by rw [E.2.2.2]; exact (show 1 + 1 ≤ 3 by first | (clear hps2 p3; omega) | (clear p3; omega) | omega), by rw [E.2.2.2]; exact (show 6 + 6 ≤ 18 by first | (clear hps2 p3; omega) | (clear p3; omega) | omega)⟩ (Nat.le_of_ble_eq_true rfl) (fun vv s4 hq => ?_) (fun ee s4 hq => ?_)
  rotate_left
  · obtain ⟨Is4, Fs4, (⟨hv, hps4⟩ | ⟨xx, hv, hps4⟩)⟩ := hq
    · cases hv
    · cases hv
      have Gs4 := fm_ts Gs2 Fs4 (by decide) (by decide)
      have ws4_70 : iI s4 70 = iI s2 70 := fm_i Fs4 (by decide)
      exact x_out X.1 q (fun x hx => (hXt x hx).elim) (show (1 + 1) ≤ 3 by first | (clear hps2 p3; omega) | (clear p3; omega) | omega) (show (6 + 6) ≤ 18 by first | (clear hps2 p3; omega) | (clear p3; omega) | omega) ⟨_, rfl, Is4, Gs4, Or.inr ⟨xx, rfl, by first | (clear hps2 p3; omega) | (clear p3; omega) | omega⟩⟩
  obtain ⟨Is4, Fs4, (⟨hv, hps4⟩ | ⟨xx, hv, hps4⟩)⟩ := hq
  rotate_left
  · cases hv
  cases hv
  have Gs4 := fm_ts Gs2 Fs4 (by decide) (by decide)
  have ws4_70 : iI s4 70 = iI s2 70 := fm_i Fs4 (by decide)
  show WS k 10 [(0, .ref (A 0)), (1, .int (Int32.ofInt u)), (2, .int (Int32.ofInt v)), (3, .int (Int32.ofInt p)), (4, .int (Int32.ofInt w))] [] (Wd A dT s4) (1 + 1) (6 + 6)
  refine z_aload_n X (x := A 0) (show cdA 171 10 = some (.aload_n 0, 1, 0, 0, 0) from rfl) (List.Mem.head _) ?_
  refine z_load_n X (x := p) (show cdA 171 11 = some (.iload_n 3, 1, 0, 0, 0) from rfl) (List.Mem.tail _ (List.Mem.tail _ (List.Mem.tail _ (List.Mem.head _)))) ?_
  refine z_const X (show cdA 171 12 = some (.iconst 0, 1, 0, 0, 0) from rfl) ?_
  refine z_sipush X (show cdA 171 13 = some (.sipush 9999, 3, 0, 0, 9999) from rfl) ?_
  refine z_callV X 0 (rm := rmN 184) (As := [.int (Int32.ofInt p), .int (Int32.ofInt 0), .int (Int32.ofInt 9999)]) (st := []) (show cdA 171 16 = some (.invokevirtual 151, 3, 184, 0, 0) from rfl) rfl (by decide) rfl (by rw [E.1, E.2.1, E.2.2.1]; exact cs_needWithin2 G Is4 (by first | exact ⟨p2.1, p2.2⟩ | omega) (by first | exact ⟨by decide, by decide⟩ | omega) (by first | exact ⟨by decide, by decide⟩ | omega)) ⟨by rw [E.2.2.2]; exact (show (rmN 184).frames + 1 ≤ (rmN 171).frames by decide), by rw [E.2.2.2]; exact (show 8 + (mNL (miB 184) + 11) + (rmN 184).locals ≤ (rmN 171).locals by decide), by rw [E.2.2.2]; exact (show (1 + 1) + 1 ≤ 3 by first | (clear hps4 hps2 p3; omega) | (clear hps2 p3; omega) | omega), by rw [E.2.2.2]; exact (show (6 + 6) + 6 ≤ 18 by first | (clear hps4 hps2 p3; omega) | (clear hps2 p3; omega) | omega)⟩ (Nat.le_of_ble_eq_true rfl) (fun vv s6 hq => ?_) (fun ee s6 hq => ?_)
  rotate_left
  · obtain ⟨Is6, Fs6, (⟨hv, hps6⟩ | ⟨xx, hv, hps6⟩)⟩ := hq
    · cases hv
    · cases hv
      have Gs6 := fm_ts Gs4 Fs6 (by decide) (by decide)
      have ws6_70 : iI s6 70 = iI s4 70 := fm_i Fs6 (by decide)
      exact x_out X.1 q (fun x hx => (hXt x hx).elim) (show ((1 + 1) + 1) ≤ 3 by first | (clear hps4 hps2 p3; omega) | (clear hps2 p3; omega) | omega) (show ((6 + 6) + 6) ≤ 18 by first | (clear hps4 hps2 p3; omega) | (clear hps2 p3; omega) | omega) ⟨_, rfl, Is6, Gs6, Or.inr ⟨xx, rfl, by first | (clear hps4 hps2 p3; omega) | (clear hps2 p3; omega) | omega⟩⟩
  obtain ⟨Is6, Fs6, (⟨hv, hps6⟩ | ⟨xx, hv, hps6⟩)⟩ := hq
  rotate_left
  · cases hv
  cases hv
  have Gs6 := fm_ts Gs4 Fs6 (by decide) (by decide)
  have ws6_70 : iI s6 70 = iI s4 70 := fm_i Fs6 (by decide)
  show WS k 19 [(0, .ref (A 0)), (1, .int (Int32.ofInt u)), (2, .int (Int32.ofInt v)), (3, .int (Int32.ofInt p)), (4, .int (Int32.ofInt w))] [] (Wd A dT s6) ((1 + 1) + 1) ((6 + 6) + 6)
  refine z_aload_n X (x := A 0) (show cdA 171 19 = some (.aload_n 0, 1, 0, 0, 0) from rfl) (List.Mem.head _) ?_
  refine z_load_n X (x := u) (show cdA 171 20 = some (.iload_n 1, 1, 0, 0, 0) from rfl) (List.Mem.tail _ (List.Mem.head _)) ?_
  refine z_callV X 0 (rm := rmN 179) (As := [.int (Int32.ofInt u)]) (st := []) (show cdA 171 21 = some (.invokevirtual 186, 3, 179, 0, 0) from rfl) rfl (by decide) rfl (by rw [E.1, E.2.1, E.2.2.1]; exact cs_listenTo G Is6 (by first | exact ⟨hps2.1, hps2.2⟩ | omega)) ⟨by rw [E.2.2.2]; exact (show (rmN 179).frames + 1 ≤ (rmN 171).frames by decide), by rw [E.2.2.2]; exact (show 8 + (mNL (miB 179) + 11) + (rmN 179).locals ≤ (rmN 171).locals by decide), by rw [E.2.2.2]; exact (show ((1 + 1) + 1) + 0 ≤ 3 by first | (clear hps6 hps4 hps2 p3; omega) | (clear hps4 hps2 p3; omega) | omega), by rw [E.2.2.2]; exact (show ((6 + 6) + 6) + 0 ≤ 18 by first | (clear hps6 hps4 hps2 p3; omega) | (clear hps4 hps2 p3; omega) | omega)⟩ (Nat.le_of_ble_eq_true rfl) (fun vv s8 hq => ?_) (fun ee s8 hq => ?_)
  rotate_left
  · obtain ⟨Is8, Fs8, hv, hps8⟩ := hq; cases hv
  obtain ⟨Is8, Fs8, hv, hps8⟩ := hq
  cases hv
  have Gs8 := fm_ts Gs6 Fs8 (by decide) (by decide)
  have ws8_70 : iI s8 70 = iI s6 70 := fm_i Fs8 (by decide)
  show WS k 24 [(0, .ref (A 0)), (1, .int (Int32.ofInt u)), (2, .int (Int32.ofInt v)), (3, .int (Int32.ofInt p)), (4, .int (Int32.ofInt w))] [] (Wd A dT s8) ((1 + 1) + 1) ((6 + 6) + 6)
  refine z_aload_n X (x := A 0) (show cdA 171 24 = some (.aload_n 0, 1, 0, 0, 0) from rfl) (List.Mem.head _) ?_
  refine s_getR X 0 (show cdA 171 25 = some (.getfield 44, 3, 11, 4, 0) from rfl) (by decide) rfl rfl ?_
  refine z_load_n X (x := v) (show cdA 171 28 = some (.iload_n 2, 1, 0, 0, 0) from rfl) (List.Mem.tail _ (List.Mem.tail _ (List.Mem.head _))) ?_
  refine z_const X (show cdA 171 29 = some (.iconst (-1), 1, 0, 0, 0) from rfl) ?_
  refine z_callV X 31 (rm := rmN 3) (As := [.int (Int32.ofInt v), .int (Int32.ofInt (-1))]) (st := []) (show cdA 171 30 = some (.invokevirtual 345, 3, 3, 0, 0) from rfl) rfl (by decide) rfl (by rw [E.1, E.2.1, E.2.2.1]; exact c0_hear_31 G Is8 (by first | exact ⟨hps4.1, hps4.2⟩ | omega) (by first | exact ⟨by decide, by decide⟩ | omega)) ⟨by rw [E.2.2.2]; exact (show (rmN 3).frames + 1 ≤ (rmN 171).frames by decide), by rw [E.2.2.2]; exact (show 8 + (mNL (miB 3) + 11) + (rmN 3).locals ≤ (rmN 171).locals by decide), by rw [E.2.2.2]; exact (show ((1 + 1) + 1) + 0 ≤ 3 by first | (clear hps6 hps4 hps2 p3; omega) | (clear hps4 hps2 p3; omega) | omega), by rw [E.2.2.2]; exact (show ((6 + 6) + 6) + 0 ≤ 18 by first | (clear hps6 hps4 hps2 p3; omega) | (clear hps4 hps2 p3; omega) | omega)⟩ (Nat.le_of_ble_eq_true rfl) (fun vv s10 hq => ?_) (fun ee s10 hq => ?_)
  rotate_left
  · obtain ⟨Is10, Fs10, hv, hps10⟩ := hq; cases hv
  obtain ⟨Is10, Fs10, hv, hps10⟩ := hq
  cases hv
  have Gs10 := fm_ts Gs8 Fs10 (by decide) (by decide)
  have ws10_70 : iI s10 70 = iI s8 70 := fm_i Fs10 (by decide)
  show WS k 33 [(0, .ref (A 0)), (1, .int (Int32.ofInt u)), (2, .int (Int32.ofInt v)), (3, .int (Int32.ofInt p)), (4, .int (Int32.ofInt w))] [] (Wd A dT s10) ((1 + 1) + 1) ((6 + 6) + 6)
  refine z_aload_n X (x := A 0) (show cdA 171 33 = some (.aload_n 0, 1, 0, 0, 0) from rfl) (List.Mem.head _) ?_
  refine s_getR X 0 (show cdA 171 34 = some (.getfield 96, 3, 11, 10, 0) from rfl) (by decide) rfl rfl ?_
  refine z_aload_n X (x := A 0) (show cdA 171 37 = some (.aload_n 0, 1, 0, 0, 0) from rfl) (List.Mem.head _) ?_
  refine s_getR X 0 (show cdA 171 38 = some (.getfield 44, 3, 11, 4, 0) from rfl) (by decide) rfl rfl ?_
  refine s_getR X 31 (show cdA 171 41 = some (.getfield 192, 3, 0, 11, 0) from rfl) (by decide) rfl rfl ?_
  refine z_load_n X (x := p) (show cdA 171 44 = some (.iload_n 3, 1, 0, 0, 0) from rfl) (List.Mem.tail _ (List.Mem.tail _ (List.Mem.tail _ (List.Mem.head _)))) ?_
  refine z_load X (x := w) (show cdA 171 45 = some (.iload 4, 2, 0, 0, 0) from rfl) (List.Mem.tail _ (List.Mem.tail _ (List.Mem.tail _ (List.Mem.tail _ (List.Mem.head _))))) ?_
  refine z_callV X 173 (rm := rmN 11) (As := [.ref (A 39), .int (Int32.ofInt p), .int (Int32.ofInt w)]) (st := []) (show cdA 171 47 = some (.invokevirtual 349, 3, 11, 0, 0) from rfl) rfl (by decide) rfl (by rw [E.1, E.2.1, E.2.2.1]; exact c1_add2 G Is10 (by first | exact ⟨p2.1, p2.2⟩ | omega) (by first | exact p3 | omega)) ⟨by rw [E.2.2.2]; exact (show (rmN 11).frames + 1 ≤ (rmN 171).frames by decide), by rw [E.2.2.2]; exact (show 8 + (mNL (miB 11) + 11) + (rmN 11).locals ≤ (rmN 171).locals by decide), by rw [E.2.2.2]; exact (show ((1 + 1) + 1) + 0 ≤ 3 by first | (clear hps6 hps4 hps2 p3; omega) | (clear hps4 hps2 p3; omega) | omega), by rw [E.2.2.2]; exact (show ((6 + 6) + 6) + 0 ≤ 18 by first | (clear hps6 hps4 hps2 p3; omega) | (clear hps4 hps2 p3; omega) | omega)⟩ (Nat.le_of_ble_eq_true rfl) (fun vv s12 hq => ?_) (fun ee s12 hq => ?_)
  rotate_left
  · obtain ⟨Is12, Fs12, e13, hv, hrs12, hps12⟩ := hq; cases hv
  obtain ⟨Is12, Fs12, e13, hv, hrs12, hps12⟩ := hq
  cases hv
  have Gs12 := fm_ts Gs10 Fs12 (by decide) (by decide)
  have b14 : (0 : Int) ≤ iI s12 70 ∧ iI s12 70 ≤ 40 := Is12.1 70
  show WS k 50 [(0, .ref (A 0)), (1, .int (Int32.ofInt u)), (2, .int (Int32.ofInt v)), (3, .int (Int32.ofInt p)), (4, .int (Int32.ofInt w))] [.int (Int32.ofInt e13)] (Wd A dT s12) ((1 + 1) + 1) ((6 + 6) + 6)
  exact w_iret X.1 q hRt rfl (ax_d X (show cdA 171 50 = some (.ireturn, 1, 0, 0, 0) from rfl)) (show ((1 + 1) + 1) ≤ 3 by first | (clear hps12 hps6 hps4 hps2 p3; omega) | (clear hps6 hps4 hps2 p3; omega) | omega) (show ((6 + 6) + 6) ≤ 18 by first | (clear hps12 hps6 hps4 hps2 p3; omega) | (clear hps6 hps4 hps2 p3; omega) | omega) ⟨_, rfl, Is12, Gs12, Or.inl ⟨e13, rfl, hrs12, by first | exact ⟨hps2.1, hps2.2, hps4.1, hps4.2, hps6.1, hps6.2, by first | (clear hps12 hps6 hps4 hps2 p3; omega) | (clear hps6 hps4 hps2 p3; omega) | omega⟩ | omega⟩⟩
set_option maxRecDepth 4000 in
theorem lw_did2 (G : GX l s0 D tys a0 dT) (I : Bd s) {u v p w : Int} (p0 : rng u) (p1 : rng v) (p2 : rng p) (p3 : w = 0 ∨ w = 1) : CTL l s0 D A dT 345 (rmN 345) [.ref (A 0), .int (Int32.ofInt u), .int (Int32.ofInt v), .int (Int32.ofInt p), .int (Int32.ofInt w), .ref (A 517)] s (fun o t => Bd t ∧ Fm [22, 23, 70] [33, 26, 27, 28, 29, 30, 31, 32, 152, 153, 154, 1460] s t ∧ ∃ e, o = .inl (some (.int (Int32.ofInt e))) ∧ rng e ∧ ((e = 0 ∧ 0 ≤ u ∧ u ≤ 7 ∧ 0 ≤ v ∧ v ≤ 23 ∧ 0 ≤ p ∧ p ≤ 9999 ∧ ((iI s 70 = 40 ∧ iO t = -1 ∧ iI t 70 = 40) ∨ (iI s 70 ≠ 40 ∧ iO t = iI s 70 ∧ iI t 70 = iI s 70 + 1))) ∨ (e = 1 ∧ (u < 0 ∨ 7 < u ∨ v < 0 ∨ 23 < v ∨ p < 0 ∨ 9999 < p) ∧ iI t 70 = iI s 70))) := by
  refine ctL_of G (by decide) (Nat.le_of_ble_eq_true rfl) (by decide) (show cdA 345 0 = some (.aload 5, 2, 0, 0, 0) from rfl) (fun k X E ET hRt hEx q => ?_)
  show WS k 0 [(0, .ref (A 0)), (1, .int (Int32.ofInt u)), (2, .int (Int32.ofInt v)), (3, .int (Int32.ofInt p)), (4, .int (Int32.ofInt w)), (5, .ref (A 517))] [] _ 0 0
  have F : Fm [22, 23, 70] [33, 26, 27, 28, 29, 30, 31, 32, 152, 153, 154, 1460] s s := fm_rf _ _ s
  have hA := swA_rf A
  have b1 : (0 : Int) ≤ iI s 70 ∧ iI s 70 ≤ 40 := I.1 70
  refine z_aload X (x := A 517) (show cdA 345 0 = some (.aload 5, 2, 0, 0, 0) from rfl) (List.Mem.tail _ (List.Mem.tail _ (List.Mem.tail _ (List.Mem.tail _ (List.Mem.tail _ (List.Mem.head _)))))) ?_
  refine z_const X (show cdA 345 2 = some (.iconst 0, 1, 0, 0, 0) from rfl) ?_
  refine z_aload_n X (x := A 0) (show cdA 345 3 = some (.aload_n 0, 1, 0, 0, 0) from rfl) (List.Mem.head _) ?_
  refine z_load_n X (x := u) (show cdA 345 4 = some (.iload_n 1, 1, 0, 0, 0) from rfl) (List.Mem.tail _ (List.Mem.head _)) ?_
  refine z_load_n X (x := v) (show cdA 345 5 = some (.iload_n 2, 1, 0, 0, 0) from rfl) (List.Mem.tail _ (List.Mem.tail _ (List.Mem.head _))) ?_
  refine z_load_n X (x := p) (show cdA 345 6 = some (.iload_n 3, 1, 0, 0, 0) from rfl) (List.Mem.tail _ (List.Mem.tail _ (List.Mem.tail _ (List.Mem.head _)))) ?_
  refine z_load X (x := w) (show cdA 345 7 = some (.iload 4, 2, 0, 0, 0) from rfl) (List.Mem.tail _ (List.Mem.tail _ (List.Mem.tail _ (List.Mem.tail _ (List.Mem.head _))))) ?_
  refine z_callV X 0 (rm := rmN 171) (As := [.int (Int32.ofInt u), .int (Int32.ofInt v), .int (Int32.ofInt p), .int (Int32.ofInt w)]) (st := [.int (Int32.ofInt 0), .ref (A 517)]) (show cdA 345 9 = some (.invokevirtual 116, 3, 171, 0, 0) from rfl) rfl (by decide) rfl (by rw [E.1, E.2.1, E.2.2.1]; exact cs_did2 G I (by first | (clear p3; omega) | omega) (by first | (clear p3; omega) | omega) (by first | (clear p3; omega) | omega) (by first | (clear p3; omega) | omega)) ⟨by rw [E.2.2.2]; exact (show (rmN 171).frames + 1 ≤ (rmN 345).frames by decide), by rw [E.2.2.2]; exact (show 8 + (mNL (miB 171) + 11) + (rmN 171).locals ≤ (rmN 345).locals by decide), by rw [E.2.2.2]; exact (show 0 + (rmN 171).cells ≤ (rmN 345).cells by decide), by rw [E.2.2.2]; exact (show 0 + (rmN 171).slots ≤ (rmN 345).slots by decide)⟩ (Nat.le_of_ble_eq_true rfl) (fun vv s2 hq => ?_) (fun ee s2 hq => ?_)
  rotate_left
  · obtain ⟨Is2, Fs2, (⟨e3, hv, hrs2, hps2⟩ | ⟨xx, hv, hps2⟩)⟩ := hq
    · cases hv
    · cases hv
      rcases (show xx = 0 by omega) with gx
      ·
        subst gx
        have Gs2 := fm_ts F Fs2 (by decide) (by decide)
        have b4 : (0 : Int) ≤ iI s2 70 ∧ iI s2 70 ≤ 40 := Is2.1 70
        refine (hEx 9 0).2 17 rfl _ _ _ _ _ (fun q1 => ?_)
        show WS k 17 [(0, .ref (A 0)), (1, .int (Int32.ofInt u)), (2, .int (Int32.ofInt v)), (3, .int (Int32.ofInt p)), (4, .int (Int32.ofInt w)), (5, .ref (A 517))] [.ref q1] (Wd A dT s2) 3 18
        refine z_astore X (lv' := [(6, .ref q1), (0, .ref (A 0)), (1, .int (Int32.ofInt u)), (2, .int (Int32.ofInt v)), (3, .int (Int32.ofInt p)), (4, .int (Int32.ofInt w)), (5, .ref (A 517))]) (show cdA 345 17 = some (.astore 6, 2, 0, 0, 0) from rfl) (by decide) (fun _ h => h) ?_
        refine z_const X (show cdA 345 19 = some (.iconst 1, 1, 0, 0, 0) from rfl) ?_
        exact w_iret X.1 q hRt rfl (ax_d X (show cdA 345 20 = some (.ireturn, 1, 0, 0, 0) from rfl)) (show 3 ≤ 3 by first | (clear p3; omega) | omega) (show 18 ≤ 18 by first | (clear p3; omega) | omega) ⟨A, _, hA, rfl, Is2, Gs2, 1, rfl, (by decide), by first | (clear p3; omega) | omega⟩
  obtain ⟨Is2, Fs2, (⟨e3, hv, hrs2, hps2⟩ | ⟨xx, hv, hps2⟩)⟩ := hq
  rotate_left
  · cases hv
  cases hv
  have Gs2 := fm_ts F Fs2 (by decide) (by decide)
  have b5 : (0 : Int) ≤ iI s2 70 ∧ iI s2 70 ≤ 40 := Is2.1 70
  show WS k 12 [(0, .ref (A 0)), (1, .int (Int32.ofInt u)), (2, .int (Int32.ofInt v)), (3, .int (Int32.ofInt p)), (4, .int (Int32.ofInt w)), (5, .ref (A 517))] [.int (Int32.ofInt e3), .int (Int32.ofInt 0), .ref (A 517)] (Wd A dT s2) 3 18
  refine w_i2l X.1 (ax_d X (show cdA 345 12 = some (.i2l, 1, 0, 0, 0) from rfl)) ?_
  refine z_last X 517 (show cdA 345 13 = some (.lastore, 1, 0, 0, 0) from rfl) (by decide) rfl (by first | (clear hps2 p3; omega) | (clear p3; omega) | omega) (show 0 < 1 by first | (clear hps2 p3; omega) | (clear p3; omega) | omega) (by decide) ?_
  obtain ⟨s6, hs6⟩ : ∃ x0, x0 = uD s2 460 (0 : Int).toNat (Int32.ofInt e3).toInt64 := ⟨_, rfl⟩
  rw [← hs6]
  have Is6 : Bd s6 := by rw [hs6]; exact bd_D Is2
  have Fs6 : Fm [22, 23, 70] [33, 26, 27, 28, 29, 30, 31, 32, 152, 153, 154, 1460] s s6 := by rw [hs6]; exact fm_D Gs2 (show 460 + 1000 ∈ _ by decide)
  have ws6_70 : iI s6 70 = iI s2 70 := by rw [hs6]; rfl
  have oos6 : iO s6 = e3 := by rw [hs6]; exact iO_u (by first | (clear hps2 p3; omega) | (clear p3; omega) | omega)
  refine z_goto X (t := 21) (show cdA 345 14 = some (.goto 7, 3, 0, 0, 0) from rfl) (by decide) ?_
  refine z_const X (show cdA 345 21 = some (.iconst 0, 1, 0, 0, 0) from rfl) ?_
  exact w_iret X.1 q hRt rfl (ax_d X (show cdA 345 22 = some (.ireturn, 1, 0, 0, 0) from rfl)) (show 3 ≤ 3 by first | (clear hps2 p3; omega) | (clear p3; omega) | omega) (show 18 ≤ 18 by first | (clear hps2 p3; omega) | (clear p3; omega) | omega) ⟨A, _, hA, rfl, Is6, Fs6, 0, rfl, (by decide), by first | (clear hps2 p3; omega) | (clear p3; omega) | omega⟩
set_option maxRecDepth 4000 in
theorem k_thrown2 (G : GX l s0 D tys a0 dT) (I : Bd s)  : CT l s0 D A dT 186 (rmN 186) [.ref (A 179)] s (fun o t => s = t ∧ ∃ e, o = .inl (some (.int (Int32.ofInt e))) ∧ rng e ∧ (e = iI s 73)) := by
  refine ct_of G (by decide) (Nat.le_of_ble_eq_true rfl) (fun k X E hRt hXt q => ?_)
  show WS k 0 [(0, .ref (A 179))] [] _ 0 0
  have F : Fm [] [] s s := fm_rf _ _ s
  refine z_aload_n X (x := A 179) (show cdA 186 0 = some (.aload_n 0, 1, 0, 0, 0) from rfl) (List.Mem.head _) ?_
  refine z_getI X 179 (show cdA 186 1 = some (.getfield 172, 3, 12, 0, 0) from rfl) (by decide) rfl rfl ?_
  have b1 : (0 : Int) ≤ iI s 73 ∧ iI s 73 ≤ 3 := I.1 73
  exact w_iret X.1 q hRt rfl (ax_d X (show cdA 186 4 = some (.ireturn, 1, 0, 0, 0) from rfl)) (Nat.zero_le _) (Nat.zero_le _) ⟨_, rfl, rfl, (iI s 73), rfl, (rng_to _), by omega⟩
end M87b
