section
theorem oq_8ee220ae {a0 : Int} (h0 : a0 = 6) : (-2147483648) ≤ a0 := by omega
theorem oq_74760936 {a0 : Int} (h0 : a0 = 6) : a0 ≤ 2147483647 := by omega
theorem oq_1b4f739f {a0 a1 : Int} (h0 : a0 < a1) (h1 : a1 = 6) : (a0 + 1) ≤ 6 := by omega
theorem oq_cdf22f39 {a0 a1 : Int} (h0 : a0 < a1) (h1 : a1 = 6) : 0 < (6 - a0) := by omega
theorem oq_370ce5ec {a0 : Int} (h0 : 0 ≤ a0) : 0 ≤ (a0 * 24) := by omega
theorem oq_dec90bf3 {a0 a1 a2 : Int} (h0 : a0 ≤ 24) (h1 : a1 < a2) (h2 : a2 ≤ 12) : ((a1 * 24) + a0) ≤ 288 := by omega
theorem oq_90943592 {a0 : Int} (h0 : a0 ≤ 12) : a0 < 288 := by omega
theorem oq_e01dad39 {a0 : Int} (h0 : a0 ≤ 12) : (a0 : Int).toNat < 288 := by omega
theorem oq_539bce23 {a0 a1 a2 : Int} (h0 : a0 ≤ 0) (h1 : a0 ≠ 0) (h2 : 0 ≤ a0) : (a1 + 1) ≤ a2 := by omega
theorem oq_58770268 {a0 : Int} (h0 : a0 = 0) : (0 + a0) ≤ 24 := by omega
theorem oq_b9cccab4 {a0 a1 a2 : Int} (h0 : 0 < a0) (h1 : a0 = 0) : (a1 + 1) ≤ a2 := by omega
theorem oq_9a8da6b0 : (12 + (30 + (8))) + 1 ≤ 53 := by omega
theorem oq_deba6685 : 8 + (7 + 11) + (500 + 45 * (30 + (8))) ≤ 2326 := by omega
theorem oq_25fc3a3a {a0 a1 : Int} (h0 : a0 ≤ 1) (h1 : 0 ≤ a0) (h2 : ((a1 = 2147483647 ∧ a0 = 0) ∨ (a1 ≠ 2147483647 ∧ a0 = 1))) : (a0 = 0 ∨ a0 = 1) := by omega
/-! The class: the way round a storm, mends -/
/-- what the Statement gives of the static row RISING -/
def RS0 (s0 : State) : Prop := ∃ t : Nat, va_Z "SkyCuts$Storm" "RISING" "[I" (.ref t) (mb_F s0) s0 s0.heap ∧ va_T .int t 6 (fun j => .int (([5, 3, 1, 0, 2, 4] : List Int32).getD j 0)) (mb_F s0) s0 s0.heap
section ZR8
variable {k : kx_T} {mn pc : Nat} {dT : Nat → ClassId} {lv : List (Nat × Value)} {st : List Value} {ws : va_W} {ce sl a b a' b' q1 : Nat} {z z' : Int}
theorem z_ris (X : AX k 95 dT) (hZ : va_Z "SkyCuts$Storm" "RISING" "[I" (.ref q1) (mb_F (kS0 k)) (kS0 k) (kS0 k).heap) (g : WS k 3 lv (.ref q1 :: st) ws ce sl) : WS k 0 lv st ws ce sl := by
  intro H locs ls hP hD hS hlv
  exact va_gets (C := "SkyCuts$Storm") (ref := "SkyCuts$Storm") (n := "RISING") (d := "[I") (own := kOwn k) (index := 155) (A := kF k) X.1.1 X.1.2.1 ((hZ.moved X.1.2.2.2.2.1.alike).kept (fun a ha _ => X.1.2.2.2.2.2.2.2.1 a ha)) hS X.1.2.2.2.1 (kx_wd X.1 (Cond.fieldLink (kOwn k) 155 "SkyCuts$Storm" "RISING" "[I") (by rw [X.2.1.2.1]; exact chkW_ok (p := (7, 149)) (by decide +kernel))) (fun x h => h) (show decode (kCc k) 0 = .ok (.getstatic 155, 3) by rw [X.2.1.1]; decide +kernel) (g H locs ls hP hD hS hlv)
theorem kx_T0 (C : kx_ok k) {ty : FieldType} {t N : Nat} {f : Nat → Value} (h : va_T ty t N f (mb_F (kS0 k)) (kS0 k) (kS0 k).heap) : va_T ty t N f (kF k) (kS k) (kS k).heap := (h.moved C.2.2.2.2.1.alike).kept (fun a ha _ => C.2.2.2.2.2.2.2.1 a ha)
theorem z_tlen (X : AX k mn dT) {ty : FieldType} {t N : Nat} {f : Nat → Value} (h : cdA mn pc = some (.arraylength, 1, a, b, z)) (hT : va_T ty t N f (mb_F (kS0 k)) (kS0 k) (kS0 k).heap) {n : Int} (hn : Int32.ofNat N = Int32.ofInt n) (g : WS k (pc + 1) lv (.int (Int32.ofInt n) :: st) ws ce sl) : WS k pc lv (.ref t :: st) ws ce sl :=
  fun H locs ls hP hD hS hlv => va_tlen X.1.1 X.1.2.1 (kx_T0 X.1 hT) hS hn (ax_d X h) (g H locs ls hP hD hS hlv)
theorem z_rald (X : AX k mn dT) {i : Int} (h : cdA mn pc = some (.iaload, 1, a, b, z)) (hT : va_T .int q1 6 (fun j => .int (([5, 3, 1, 0, 2, 4] : List Int32).getD j 0)) (mb_F (kS0 k)) (kS0 k) (kS0 k).heap) (h0 : 0 ≤ i) (hi : i < 6) (g : ∀ e : Int, 0 ≤ e → e ≤ 5 → WS k (pc + 1) lv (.int (Int32.ofInt e) :: st) ws ce sl) : WS k pc lv (.int (Int32.ofInt i) :: .ref q1 :: st) ws ce sl := by
  intro H locs ls hP hD hS hlv
  rcases (show i = 0 ∨ i = 1 ∨ i = 2 ∨ i = 3 ∨ i = 4 ∨ i = 5 by omega) with e | e | e | e | e | e <;> subst e
  · exact va_ti (v := .int (Int32.ofInt 5)) X.1.1 X.1.2.1 (kx_T0 X.1 hT) hS (by unfold vp_in; decide +kernel) (congrArg Value.int (show ([5, 3, 1, 0, 2, 4] : List Int32).getD (Int32.ofInt 0).toNatClampNeg 0 = Int32.ofInt 5 by decide +kernel)) (ax_d X h) (g 5 (by decide) (by decide) H locs ls hP hD hS hlv)
  · exact va_ti (v := .int (Int32.ofInt 3)) X.1.1 X.1.2.1 (kx_T0 X.1 hT) hS (by unfold vp_in; decide +kernel) (congrArg Value.int (show ([5, 3, 1, 0, 2, 4] : List Int32).getD (Int32.ofInt 1).toNatClampNeg 0 = Int32.ofInt 3 by decide +kernel)) (ax_d X h) (g 3 (by decide) (by decide) H locs ls hP hD hS hlv)
  · exact va_ti (v := .int (Int32.ofInt 1)) X.1.1 X.1.2.1 (kx_T0 X.1 hT) hS (by unfold vp_in; decide +kernel) (congrArg Value.int (show ([5, 3, 1, 0, 2, 4] : List Int32).getD (Int32.ofInt 2).toNatClampNeg 0 = Int32.ofInt 1 by decide +kernel)) (ax_d X h) (g 1 (by decide) (by decide) H locs ls hP hD hS hlv)
  · exact va_ti (v := .int (Int32.ofInt 0)) X.1.1 X.1.2.1 (kx_T0 X.1 hT) hS (by unfold vp_in; decide +kernel) (congrArg Value.int (show ([5, 3, 1, 0, 2, 4] : List Int32).getD (Int32.ofInt 3).toNatClampNeg 0 = Int32.ofInt 0 by decide +kernel)) (ax_d X h) (g 0 (by decide) (by decide) H locs ls hP hD hS hlv)
  · exact va_ti (v := .int (Int32.ofInt 2)) X.1.1 X.1.2.1 (kx_T0 X.1 hT) hS (by unfold vp_in; decide +kernel) (congrArg Value.int (show ([5, 3, 1, 0, 2, 4] : List Int32).getD (Int32.ofInt 4).toNatClampNeg 0 = Int32.ofInt 2 by decide +kernel)) (ax_d X h) (g 2 (by decide) (by decide) H locs ls hP hD hS hlv)
  · exact va_ti (v := .int (Int32.ofInt 4)) X.1.1 X.1.2.1 (kx_T0 X.1 hT) hS (by unfold vp_in; decide +kernel) (congrArg Value.int (show ([5, 3, 1, 0, 2, 4] : List Int32).getD (Int32.ofInt 5).toNatClampNeg 0 = Int32.ofInt 4 by decide +kernel)) (ax_d X h) (g 4 (by decide) (by decide) H locs ls hP hD hS hlv)
theorem sh_sm_ : ∀ n : Nat, n < 12 → ((Int32.ofInt (n : Int) &&& 31).toBitVec.smod 32).toNat = n := by decide +kernel
theorem sh_nat_ (k : Nat) : (Int32.ofInt (k : Int)).toBitVec = BitVec.ofNat 32 k := by
  rw [Int32.toBitVec_ofInt, BitVec.ofInt_natCast]
theorem shr_n_ {m n : Nat} (hn : n < 12) : (Int32.ofInt (m : Int) >>> (Int32.ofInt (n : Int) &&& 31)) &&& Int32.ofInt 1 = Int32.ofInt ((m / 2 ^ n % 2 : Nat) : Int) := by
  have e := sh_sm_ n hn
  have hq : m / 2 ^ n % 2 < 2 := Nat.mod_lt _ (by decide)
  have hb : m.testBit n = decide (m / 2 ^ n % 2 = 1) := Nat.testBit_eq_decide_div_mod_eq
  generalize m / 2 ^ n % 2 = r at hq hb ⊢
  have b0 : (Int32.ofInt (m : Int) >>> (Int32.ofInt (n : Int) &&& 31)).toBitVec.getLsbD 0 = m.testBit n := by
    rw [Int32.toBitVec_shiftRight, BitVec.getLsbD_sshiftRight', e]
    simp only [Nat.add_zero]
    rw [if_pos (show n < 32 by omega), sh_nat_, BitVec.getLsbD_ofNat, decide_eq_true (show n < 32 by omega)]
    simp
  apply Int32.toBitVec.inj
  apply BitVec.eq_of_getLsbD_eq
  intro i hi
  have o : (Int32.ofInt 1).toBitVec.getLsbD i = decide (i = 0) := by
    have e1 : (Int32.ofInt 1).toBitVec = 1#32 := by decide
    rw [e1, BitVec.getLsbD_one]
    simp
  rw [Int32.toBitVec_and, BitVec.getLsbD_and, o, sh_nat_, BitVec.getLsbD_ofNat, decide_eq_true hi, Bool.true_and]
  by_cases c : i = 0
  · subst c
    rw [b0, decide_eq_true rfl, Bool.and_true, hb, Nat.testBit_zero, Nat.mod_eq_of_lt hq]
  · rw [decide_eq_false c, Bool.and_false]
    symm
    apply Nat.testBit_lt_two_pow
    exact Nat.lt_of_lt_of_le hq (Nat.pow_le_pow_right (n := 2) (by decide) (show 1 ≤ i by omega))
theorem shr_v {x y : Int} (hx : 0 ≤ x ∧ x ≤ 4095) (h : 0 ≤ y ∧ y ≤ 11) : (Int32.ofInt x >>> (Int32.ofInt y &&& 31)) &&& Int32.ofInt 1 = Int32.ofInt (x / 2 ^ y.toNat % 2) := by
  have ex : ((x.toNat : Nat) : Int) = x := by omega
  have ey : ((y.toNat : Nat) : Int) = y := by omega
  have h9 := shr_n_ (m := x.toNat) (n := y.toNat) (by omega)
  have h8 := cast_bit x.toNat y.toNat
  rw [h8, ex, ey] at h9
  exact h9
theorem z_bit (X : AX k mn dT) {x y : Int} (h : cdA mn pc = some (.ishr, 1, a, b, z)) (h1 : cdA mn (pc + 1) = some (.iconst 1, 1, 0, 0, 0)) (h' : cdA mn (pc + 1 + 1) = some (.iand, 1, a', b', z')) (hx : 0 ≤ x ∧ x ≤ 4095) (hy : 0 ≤ y ∧ y ≤ 11) (g : ∀ e : Int, 0 ≤ e → e ≤ 1 → bcn x (y + 1).toNat = bcn x y.toNat + e → bcn x (y + 1).toNat ≤ bcn x 12 → WS k (pc + 1 + 1 + 1) lv (.int (Int32.ofInt e) :: st) ws ce sl) : WS k pc lv (.int (Int32.ofInt y) :: .int (Int32.ofInt x) :: st) ws ce sl := by
  refine z_bshr X h (w_iconst X.1 (ax_d X h1) (w_iand X.1 (ax_d X h') ?_))
  rw [shr_v hx hy]
  have h0 : 0 ≤ x / 2 ^ y.toNat % 2 := Int.emod_nonneg _ (by decide)
  have h2 : x / 2 ^ y.toNat % 2 < 2 := Int.emod_lt_of_pos _ (by decide)
  have e1 : (y + 1).toNat = y.toNat + 1 := by omega
  refine g _ h0 (by omega) (by rw [e1]; rfl) (bcn_mono (by omega))
end ZR8
section M83
variable {l : Launch} {s0 : State} {D : va_G} {tys : List (ClassId × FieldType)} {a0 : Array Value} {A : Nat → Nat} {dT : Nat → ClassId} {s : PS}
set_option maxRecDepth 4000 in
theorem c8_nearerThan_67 (G : GX l s0 D tys a0 dT) (GR : RS0 s0) (I : Bd s) {x : Int} (p0 : 0 ≤ x ∧ x ≤ 127) : CT l s0 D A dT 95 (rmN 95) [.ref (A 67), .int (Int32.ofInt x)] s (fun o t => Bd t ∧ Fm [] [] s t ∧ ∃ e, o = .inl (some (.int (Int32.ofInt e))) ∧ rng e ∧ (0 ≤ e ∧ e ≤ 127)) := by
  refine ct_ofX G (by decide) (Nat.le_of_ble_eq_true rfl) (fun k X E ET hRt hXt q => ?_)
  show WS k 0 [(0, .ref (A 67)), (1, .int (Int32.ofInt x))] [] _ 0 0
  have F : Fm [] [] s s := fm_rf _ _ s
  obtain ⟨q1, hZ1, hT1⟩ := GR
  rw [← E.2.1] at hZ1 hT1
  have L10 : ∀ (n : Nat) (t : PS) (xv ln c : Int), Bd t → Fm [] [] s t → ((0 ≤ xv ∧ xv ≤ 127) ∧ ln = 6 ∧ 0 ≤ c ∧ c ≤ 6) → (6 - c : Int).toNat < n → (∀ (t' : PS) (c' : Int), Bd t' → Fm [] [] s t' → ((0 ≤ xv ∧ xv ≤ 127) ∧ ln = 6 ∧ 0 ≤ c' ∧ c' ≤ 6) → WS k 63 [(0, .ref (A 67)), (2, .ref q1), (1, .int (Int32.ofInt xv)), (3, .int (Int32.ofInt ln)), (4, .int (Int32.ofInt c'))] [] (Wd A dT t') 0 0) → WS k 10 [(0, .ref (A 67)), (2, .ref q1), (1, .int (Int32.ofInt xv)), (3, .int (Int32.ofInt ln)), (4, .int (Int32.ofInt c))] [] (Wd A dT t) 0 0 := by
    intro n
    induction n with
    | zero =>
      intro t xv ln c I F hi hm kx
      exact absurd hm (Nat.not_lt_zero _)
    | succ n ih =>
      intro t xv ln c I F hi hm kx
      refine z_load X (x := c) rfl (List.Mem.tail _ (List.Mem.tail _ (List.Mem.tail _ (List.Mem.tail _ (List.Mem.head _))))) (z_load_n X (x := ln) rfl (List.Mem.tail _ (List.Mem.tail _ (List.Mem.tail _ (List.Mem.head _)))) (z_icmp_ge X (t := 63) rfl rfl ⟨by first | exact oq_fa4e5087 hi.2.2.1 | omega, by first | exact oq_b301c3bf hi.2.2.2 | omega⟩ ⟨by first | exact oq_8ee220ae hi.2.1 | omega, by first | exact oq_74760936 hi.2.1 | omega⟩ (fun g1001 => ?_) (fun g1001 => ?_)))
      ·
        refine WS_pq [0, 1, 2, 3, 4] (lv' := [(0, .ref (A 67)), (2, .ref q1), (1, .int (Int32.ofInt xv)), (3, .int (Int32.ofInt ln)), (4, .int (Int32.ofInt c))]) rfl ?_
        exact kx _ c I F (by first | exact ⟨And.intro (hi.1.1) (hi.1.2), hi.2.1, hi.2.2.1, hi.2.2.2⟩ | omega)
      ·
        refine z_aload_n X (x := q1) rfl (List.Mem.tail _ (List.Mem.head _)) (z_load X (x := c) rfl (List.Mem.tail _ (List.Mem.tail _ (List.Mem.tail _ (List.Mem.tail _ (List.Mem.head _))))) (z_rald X rfl hT1 (by omega) (show c < 6 by omega) (fun e1002 he1002 ie1002 => ?_)))
        refine z_store X (lv' := [(5, .int (Int32.ofInt e1002)), (0, .ref (A 67)), (2, .ref q1), (1, .int (Int32.ofInt xv)), (3, .int (Int32.ofInt ln)), (4, .int (Int32.ofInt c))]) rfl (by decide) (fun _ h => h) (z_load_n X (x := xv) rfl (List.Mem.tail _ (List.Mem.tail _ (List.Mem.tail _ (List.Mem.head _)))) (z_load X (x := e1002) rfl (List.Mem.head _) (z_callS X (rm := rmN 100) (As := [.int (Int32.ofInt xv), .int (Int32.ofInt e1002)]) (st := []) rfl rfl (by rw [E.1, E.2.1, E.2.2.1]; exact c9_stepFrom G I (by first | exact ⟨hi.1.1, hi.1.2⟩ | omega) (by omega)) ⟨by rw [E.2.2.2]; exact (show (rmN 100).frames + 1 ≤ (rmN 95).frames by decide), by rw [E.2.2.2]; exact (show 8 + (mNL (miB 100) + 11) + (rmN 100).locals ≤ (rmN 95).locals by decide), by rw [E.2.2.2]; exact (show 0 + (rmN 100).cells ≤ (rmN 95).cells by decide), by rw [E.2.2.2]; exact (show 0 + (rmN 100).slots ≤ (rmN 95).slots by decide)⟩ (Nat.le_of_ble_eq_true rfl) (fun vv s1003 hq => ?_) (fun ee s1003 hq => ?_))))
        rotate_left
        · obtain ⟨rfl, e1004, hv, hrs1003, hps1003⟩ := hq; cases hv
        obtain ⟨rfl, e1004, hv, hrs1003, hps1003⟩ := hq
        cases hv
        show WS k 28 [(5, .int (Int32.ofInt e1002)), (0, .ref (A 67)), (2, .ref q1), (1, .int (Int32.ofInt xv)), (3, .int (Int32.ofInt ln)), (4, .int (Int32.ofInt c))] [.int (Int32.ofInt e1004)] (Wd A dT t) 0 0
        refine z_store X (lv' := [(6, .int (Int32.ofInt e1004)), (5, .int (Int32.ofInt e1002)), (0, .ref (A 67)), (2, .ref q1), (1, .int (Int32.ofInt xv)), (3, .int (Int32.ofInt ln)), (4, .int (Int32.ofInt c))]) rfl (by decide) (fun _ h => h) (z_load X (x := e1004) rfl (List.Mem.head _) (z_const X rfl (z_icmp_eq X (t := 57) rfl rfl hrs1003 (by decide) (fun g1005 => ?_) (fun g1005 => ?_))))
        ·
          refine z_inc X (x := c) (lv' := [(4, .int (Int32.ofInt (c + 1))), (6, .int (Int32.ofInt e1004)), (5, .int (Int32.ofInt e1002)), (0, .ref (A 67)), (2, .ref q1), (1, .int (Int32.ofInt xv)), (3, .int (Int32.ofInt ln))]) rfl (by decide) (List.Mem.tail _ (List.Mem.tail _ (List.Mem.tail _ (List.Mem.tail _ (List.Mem.tail _ (List.Mem.tail _ (List.Mem.head _))))))) (fun _ h => h) (z_goto X (t := 10) rfl rfl (WS_pq [3, 4, 5, 6, 0] (lv' := [(0, .ref (A 67)), (2, .ref q1), (1, .int (Int32.ofInt xv)), (3, .int (Int32.ofInt ln)), (4, .int (Int32.ofInt (c + 1)))]) rfl ?_))
          exact ih _ xv ln (c + 1) I F (by first | exact ⟨And.intro (hi.1.1) (hi.1.2), hi.2.1, oq_54f49eb5 hi.2.2.1, oq_1b4f739f g1001 hi.2.1⟩ | omega) (by first | exact qk_me hm (by decide) (oq_cdf22f39 g1001 hi.2.1) | omega) kx
        ·
          refine z_aload_n X (x := A 67) rfl (List.Mem.tail _ (List.Mem.tail _ (List.Mem.head _))) (s_getR X 67 rfl (c518_ok rfl) rfl rfl (z_load X (x := e1004) rfl (List.Mem.head _) (z_ald X 90 rfl (c518_ok rfl) rfl (by first | exact oq_7a1025bf g1005 hps1003.1 | omega) (show e1004 < 128 by first | exact oq_31b2bf10 hps1003.2 | omega) (cbig_ok rfl) ?_)))
          have b1006 := bc_77 I (show (e1004).toNat < 128 by first | exact oq_c7f4e9c1 hps1003.2 | omega)
          refine z_aload_n X (x := A 67) rfl (List.Mem.tail _ (List.Mem.tail _ (List.Mem.head _))) (s_getR X 67 rfl (c518_ok rfl) rfl rfl (z_load_n X (x := xv) rfl (List.Mem.tail _ (List.Mem.tail _ (List.Mem.tail _ (List.Mem.tail _ (List.Mem.head _))))) (z_ald X 90 rfl (c518_ok rfl) rfl (by first | exact hi.1.1 | omega) (show xv < 128 by first | exact oq_31b2bf10 hi.1.2 | omega) (cbig_ok rfl) ?_)))
          have b1007 := bc_77 I (show (xv).toNat < 128 by first | exact oq_c7f4e9c1 hi.1.2 | omega)
          refine z_const X rfl (z_sub X rfl (z_any (fun y1008 hy1008 => ?_)))
          refine z_icmp_ne X (t := 57) rfl rfl (rng_to _) hy1008 (fun g1009 => ?_) (fun g1009 => ?_)
          ·
            refine z_inc X (x := c) (lv' := [(4, .int (Int32.ofInt (c + 1))), (6, .int (Int32.ofInt e1004)), (5, .int (Int32.ofInt e1002)), (0, .ref (A 67)), (2, .ref q1), (1, .int (Int32.ofInt xv)), (3, .int (Int32.ofInt ln))]) rfl (by decide) (List.Mem.tail _ (List.Mem.tail _ (List.Mem.tail _ (List.Mem.tail _ (List.Mem.tail _ (List.Mem.tail _ (List.Mem.head _))))))) (fun _ h => h) (z_goto X (t := 10) rfl rfl (WS_pq [3, 4, 5, 6, 0] (lv' := [(0, .ref (A 67)), (2, .ref q1), (1, .int (Int32.ofInt xv)), (3, .int (Int32.ofInt ln)), (4, .int (Int32.ofInt (c + 1)))]) rfl ?_))
            exact ih _ xv ln (c + 1) I F (by first | exact ⟨And.intro (hi.1.1) (hi.1.2), hi.2.1, oq_54f49eb5 hi.2.2.1, oq_1b4f739f g1001 hi.2.1⟩ | omega) (by first | exact qk_me hm (by decide) (oq_cdf22f39 g1001 hi.2.1) | omega) kx
          ·
            refine z_load X (x := e1004) rfl (List.Mem.head _) ?_
            exact w_iret X.1 q hRt rfl (ax_d X (show cdA 95 56 = some (.ireturn, 1, 0, 0, 0) from rfl)) (Nat.zero_le _) (Nat.zero_le _) ⟨_, rfl, I, F, e1004, rfl, hrs1003, by first | exact ⟨oq_7a1025bf g1005 hps1003.1, hps1003.2⟩ | omega⟩
  refine z_ris X hZ1 (z_astore_n X (lv' := [(2, .ref q1), (0, .ref (A 67)), (1, .int (Int32.ofInt x))]) rfl (by decide) (fun _ h => h) (z_aload_n X (x := q1) rfl (List.Mem.head _) (z_tlen X rfl hT1 (n := 6) rfl (z_store_n X (lv' := [(3, .int (Int32.ofInt 6)), (2, .ref q1), (0, .ref (A 67)), (1, .int (Int32.ofInt x))]) rfl (by decide) (fun _ h => h) (z_const X rfl (z_store X (lv' := [(4, .int (Int32.ofInt 0)), (3, .int (Int32.ofInt 6)), (2, .ref q1), (0, .ref (A 67)), (1, .int (Int32.ofInt x))]) rfl (by decide) (fun _ h => h) (WS_pq [3, 2, 4, 1, 0] (lv' := [(0, .ref (A 67)), (2, .ref q1), (1, .int (Int32.ofInt x)), (3, .int (Int32.ofInt 6)), (4, .int (Int32.ofInt 0))]) rfl (L10 ((6 - 0 : Int).toNat + 1) s x 6 0 I F (by first | exact ⟨And.intro (p0.1) (p0.2), by decide, by decide, by decide⟩ | omega) (Nat.lt_succ_self _) ?_))))))))
  intro s1 x2 Is1 Fs1 hs1
  refine z_load_n X (x := x) rfl (List.Mem.tail _ (List.Mem.tail _ (List.Mem.head _))) ?_
  exact w_iret X.1 q hRt rfl (ax_d X (show cdA 95 64 = some (.ireturn, 1, 0, 0, 0) from rfl)) (Nat.zero_le _) (Nat.zero_le _) ⟨_, rfl, Is1, Fs1, x, rfl, ⟨by first | exact oq_fa4e5087 hs1.1.1 | omega, by first | exact oq_07d346ce hs1.1.2 | omega⟩, by first | exact ⟨hs1.1.1, hs1.1.2⟩ | omega⟩
set_option maxRecDepth 4000 in
theorem c8_findRound_67 (G : GX l s0 D tys a0 dT) (GR : RS0 s0) (I : Bd s) {x y : Int} (p0 : -1 ≤ x ∧ x ≤ 127) (p1 : -1 ≤ y ∧ y ≤ 127) : CT l s0 D A dT 93 (rmN 93) [.ref (A 67), .int (Int32.ofInt x), .int (Int32.ofInt y)] s (fun o t => Bd t ∧ Fm [] [77, 78, 79] s t ∧ ∃ e, o = .inl (some (.int (Int32.ofInt e))) ∧ rng e ∧ (0 ≤ e ∧ e ≤ 24)) := by
  refine ct_ofX G (by decide) (Nat.le_of_ble_eq_true rfl) (fun k X E ET hRt hXt q => ?_)
  show WS k 0 [(0, .ref (A 67)), (1, .int (Int32.ofInt x)), (2, .int (Int32.ofInt y))] [] _ 0 0
  have F : Fm [] [77, 78, 79] s s := fm_rf _ _ s
  have L65 : ∀ (n : Nat) (t : PS) (ln c : Int), Bd t → Fm [] [77, 78, 79] s t → ((1 ≤ ln ∧ ln ≤ 24) ∧ 1 ≤ c ∧ c ≤ 24) → (24 - c : Int).toNat < n → (∀ (t' : PS) (c' : Int), Bd t' → Fm [] [77, 78, 79] s t' → ((1 ≤ ln ∧ ln ≤ 24) ∧ 1 ≤ c' ∧ c' ≤ 24) → WS k 97 [(0, .ref (A 67)), (3, .int (Int32.ofInt ln)), (4, .int (Int32.ofInt c'))] [] (Wd A dT t') 0 0) → WS k 65 [(0, .ref (A 67)), (3, .int (Int32.ofInt ln)), (4, .int (Int32.ofInt c))] [] (Wd A dT t) 0 0 := by
    intro n
    induction n with
    | zero =>
      intro t ln c I F hi hm kx
      exact absurd hm (Nat.not_lt_zero _)
    | succ n ih =>
      intro t ln c I F hi hm kx
      refine z_load X (x := c) rfl (List.Mem.tail _ (List.Mem.tail _ (List.Mem.head _))) (z_load_n X (x := ln) rfl (List.Mem.tail _ (List.Mem.head _)) (z_icmp_ge X (t := 97) rfl rfl ⟨by first | exact oq_9462313e hi.2.1 | omega, by first | exact oq_5bcd337f hi.2.2 | omega⟩ ⟨by first | exact oq_9462313e hi.1.1 | omega, by first | exact oq_5bcd337f hi.1.2 | omega⟩ (fun g1001 => ?_) (fun g1001 => ?_)))
      ·
        refine WS_pq [0, 1, 2] (lv' := [(0, .ref (A 67)), (3, .int (Int32.ofInt ln)), (4, .int (Int32.ofInt c))]) rfl ?_
        exact kx _ c I F (by first | exact ⟨And.intro (hi.1.1) (hi.1.2), hi.2.1, hi.2.2⟩ | omega)
      ·
        refine z_aload_n X (x := A 67) rfl (List.Mem.head _) (s_getR X 67 rfl (c518_ok rfl) rfl rfl (z_load X (x := c) rfl (List.Mem.tail _ (List.Mem.tail _ (List.Mem.head _))) (z_aload_n X (x := A 67) rfl (List.Mem.head _) (z_aload_n X (x := A 67) rfl (List.Mem.head _) (s_getR X 67 rfl (c518_ok rfl) rfl rfl (z_load X (x := c) rfl (List.Mem.tail _ (List.Mem.tail _ (List.Mem.head _))) (z_const X rfl (z_sub X rfl (z_ald X 92 rfl (c518_ok rfl) rfl (by first | exact oq_02aa5459 hi.2.1 | omega) (show (c - 1) < 24 by first | exact oq_19cb6f5b hi.2.2 | omega) (cbig_ok rfl) ?_)))))))))
        have b1002 := bc_79 I (show ((c - 1)).toNat < 24 by first | exact oq_f976b25c hi.2.2 | omega)
        refine zcV_i0 X E 67 (As := [.int (Int32.ofInt (iC t 79 ((c - 1)).toNat))]) (st := [.int (Int32.ofInt c), .ref (A 92)]) rfl rfl rfl rfl (c8_nearerThan_67 G GR I (by first | exact ⟨b1002.1, b1002.2⟩ | omega)) rfl (Nat.le_of_ble_eq_true rfl) (fun s1003 e1004 Is1003 Fs1003 hrs1003 hps1003 => ?_)
        have Gs1003 := fm_tq F Fs1003 rfl rfl
        refine z_ast X 92 rfl (c518_ok rfl) rfl (by first | exact oq_2a6e3b50 hi.2.1 | omega) (show c < 24 by first | exact oq_8ff7beb9 g1001 hi.1.2 | omega) (cbig_ok rfl) (wd_gen (fun s1005 hs1005 => ?_))
        have Is1005 : Bd s1005 := eqB hs1005 (bd_C Is1003 (show (0 : Int) ≤ e1004 ∧ e1004 ≤ 127 by first | exact ⟨hps1003.1, hps1003.2⟩ | omega) hrs1003)
        have Fs1005 := eqF hs1005 (fm_C Gs1003 (inl_ok (a := 79) rfl))
        refine z_inc X (x := c) (lv' := [(4, .int (Int32.ofInt (c + 1))), (0, .ref (A 67)), (3, .int (Int32.ofInt ln))]) rfl (by decide) (List.Mem.tail _ (List.Mem.tail _ (List.Mem.head _))) (fun _ h => h) (z_goto X (t := 65) rfl rfl (WS_pq [1, 2, 0] (lv' := [(0, .ref (A 67)), (3, .int (Int32.ofInt ln)), (4, .int (Int32.ofInt (c + 1)))]) rfl ?_))
        exact ih _ ln (c + 1) Is1005 Fs1005 (by first | exact ⟨And.intro (hi.1.1) (hi.1.2), oq_1e1a2df6 hi.2.1, oq_41473be0 g1001 hi.1.2⟩ | omega) (by first | exact qk_me hm (by decide) (oq_9dea93e6 g1001 hi.1.2) | omega) kx
  refine z_load_n X (x := x) rfl (List.Mem.tail _ (List.Mem.head _)) (z_const X rfl (z_icmp_eq X (t := 26) rfl rfl ⟨by first | exact oq_97ee2c2a p0.1 | omega, by first | exact oq_07d346ce p0.2 | omega⟩ (by decide) (fun g1 => ?_) (fun g1 => ?_)))
  ·
    refine z_const X rfl ?_
    exact w_iret X.1 q hRt rfl (ax_d X (show cdA 93 27 = some (.ireturn, 1, 0, 0, 0) from rfl)) (Nat.zero_le _) (Nat.zero_le _) ⟨_, rfl, I, F, 0, rfl, (by decide), by first | exact ⟨by decide, by decide⟩ | omega⟩
  ·
    refine z_load_n X (x := y) rfl (List.Mem.tail _ (List.Mem.tail _ (List.Mem.head _))) (z_const X rfl (z_icmp_eq X (t := 26) rfl rfl ⟨by first | exact oq_97ee2c2a p1.1 | omega, by first | exact oq_07d346ce p1.2 | omega⟩ (by decide) (fun g2 => ?_) (fun g2 => ?_)))
    ·
      refine z_const X rfl ?_
      exact w_iret X.1 q hRt rfl (ax_d X (show cdA 93 27 = some (.ireturn, 1, 0, 0, 0) from rfl)) (Nat.zero_le _) (Nat.zero_le _) ⟨_, rfl, I, F, 0, rfl, (by decide), by first | exact ⟨by decide, by decide⟩ | omega⟩
    ·
      refine z_aload_n X (x := A 67) rfl (List.Mem.head _) (z_load_n X (x := x) rfl (List.Mem.tail _ (List.Mem.head _)) (zcV_i0 X E 67 (As := [.int (Int32.ofInt x)]) (st := []) rfl rfl rfl rfl (c8_isShut_67 G I (by first | exact ⟨oq_7a1025bf g1 p0.1, p0.2⟩ | omega)) rfl (Nat.le_of_ble_eq_true rfl) (fun s3 e4 Is3 Fs3 hrs3 hps3 => ?_)))
      have Gs3 := fm_tq F Fs3 rfl rfl
      refine z_if_ne X (t := 26) rfl rfl hrs3 (fun g5 => ?_) (fun g5 => ?_)
      ·
        refine z_const X rfl ?_
        exact w_iret X.1 q hRt rfl (ax_d X (show cdA 93 27 = some (.ireturn, 1, 0, 0, 0) from rfl)) (Nat.zero_le _) (Nat.zero_le _) ⟨_, rfl, Is3, Gs3, 0, rfl, (by decide), by first | exact ⟨by decide, by decide⟩ | omega⟩
      ·
        refine z_aload_n X (x := A 67) rfl (List.Mem.head _) (z_load_n X (x := y) rfl (List.Mem.tail _ (List.Mem.tail _ (List.Mem.head _))) (zcV_i0 X E 67 (As := [.int (Int32.ofInt y)]) (st := []) rfl rfl rfl rfl (c8_isShut_67 G Is3 (by first | exact ⟨oq_7a1025bf g2 p1.1, p1.2⟩ | omega)) rfl (Nat.le_of_ble_eq_true rfl) (fun s6 e7 Is6 Fs6 hrs6 hps6 => ?_)))
        have Gs6 := fm_tq Gs3 Fs6 rfl rfl
        refine z_if_eq X (t := 28) rfl rfl hrs6 (fun g8 => ?_) (fun g8 => ?_)
        ·
          refine z_aload_n X (x := A 67) rfl (List.Mem.head _) (z_load_n X (x := y) rfl (List.Mem.tail _ (List.Mem.tail _ (List.Mem.head _))) (zcV_v0 X E 67 (As := [.int (Int32.ofInt y)]) (st := []) rfl rfl rfl rfl (c8_spreadFrom_67 G Is6 (by first | exact ⟨oq_7a1025bf g2 p1.1, p1.2⟩ | omega)) rfl (Nat.le_of_ble_eq_true rfl) (fun s9 Is9 Fs9 hps9 => ?_)))
          have Gs9 := fm_tq Gs6 Fs9 rfl rfl
          refine z_aload_n X (x := A 67) rfl (List.Mem.head _) (s_getR X 67 rfl (c518_ok rfl) rfl rfl (z_load_n X (x := x) rfl (List.Mem.tail _ (List.Mem.head _)) (z_ald X 90 rfl (c518_ok rfl) rfl (by first | exact oq_7a1025bf g1 p0.1 | omega) (show x < 128 by first | exact oq_31b2bf10 p0.2 | omega) (cbig_ok rfl) ?_)))
          have b11 := bc_77 Is9 (show (x).toNat < 128 by first | exact oq_c7f4e9c1 p0.2 | omega)
          refine z_const X rfl (z_add X rfl (z_any (fun y12 hy12 => ?_)))
          refine z_store_n X (lv' := [(3, .int (Int32.ofInt y12)), (0, .ref (A 67)), (1, .int (Int32.ofInt x)), (2, .int (Int32.ofInt y))]) rfl (by decide) (fun _ h => h) (z_load_n X (x := y12) rfl (List.Mem.head _) (z_const X rfl (z_icmp_lt X (t := 53) rfl rfl hy12 (by decide) (fun g13 => ?_) (fun g13 => ?_))))
          ·
            refine z_const X rfl ?_
            exact w_iret X.1 q hRt rfl (ax_d X (show cdA 93 54 = some (.ireturn, 1, 0, 0, 0) from rfl)) (Nat.zero_le _) (Nat.zero_le _) ⟨_, rfl, Is9, Gs9, 0, rfl, (by decide), by first | exact ⟨by decide, by decide⟩ | omega⟩
          ·
            refine z_load_n X (x := y12) rfl (List.Mem.head _) (z_bipush X rfl (z_icmp_le X (t := 55) rfl rfl hy12 (by decide) (fun g14 => ?_) (fun g14 => ?_)))
            ·
              refine z_aload_n X (x := A 67) rfl (List.Mem.tail _ (List.Mem.head _)) (s_getR X 67 rfl (c518_ok rfl) rfl rfl (z_const X rfl (z_load_n X (x := x) rfl (List.Mem.tail _ (List.Mem.tail _ (List.Mem.head _))) (z_ast X 92 rfl (c518_ok rfl) rfl (by decide) (show 0 < 24 by decide) (cbig_ok rfl) (wd_gen (fun s15 hs15 => ?_))))))
              have Is15 : Bd s15 := eqB hs15 (bd_C Is9 (show (0 : Int) ≤ x ∧ x ≤ 127 by first | exact ⟨oq_7a1025bf g1 p0.1, p0.2⟩ | omega) ⟨by first | exact oq_97ee2c2a p0.1 | omega, by first | exact oq_07d346ce p0.2 | omega⟩)
              have Fs15 := eqF hs15 (fm_C Gs9 (inl_ok (a := 79) rfl))
              refine z_const X rfl (z_store X (lv' := [(4, .int (Int32.ofInt 1)), (3, .int (Int32.ofInt y12)), (0, .ref (A 67)), (1, .int (Int32.ofInt x)), (2, .int (Int32.ofInt y))]) rfl (by decide) (fun _ h => h) (WS_pq [2, 1, 0] (lv' := [(0, .ref (A 67)), (3, .int (Int32.ofInt y12)), (4, .int (Int32.ofInt 1))]) rfl (L65 ((24 - 1 : Int).toNat + 1) s15 y12 1 Is15 Fs15 (by first | exact ⟨And.intro (g13) (g14), by decide, by decide⟩ | omega) (Nat.lt_succ_self _) ?_)))
              intro s16 x17 Is16 Fs16 hs16
              refine z_load_n X (x := y12) rfl (List.Mem.tail _ (List.Mem.head _)) ?_
              exact w_iret X.1 q hRt rfl (ax_d X (show cdA 93 98 = some (.ireturn, 1, 0, 0, 0) from rfl)) (Nat.zero_le _) (Nat.zero_le _) ⟨_, rfl, Is16, Fs16, y12, rfl, hy12, by first | exact ⟨oq_2a6e3b50 hs16.1.1, hs16.1.2⟩ | omega⟩
            ·
              refine z_const X rfl ?_
              exact w_iret X.1 q hRt rfl (ax_d X (show cdA 93 54 = some (.ireturn, 1, 0, 0, 0) from rfl)) (Nat.zero_le _) (Nat.zero_le _) ⟨_, rfl, Is9, Gs9, 0, rfl, (by decide), by first | exact ⟨by decide, by decide⟩ | omega⟩
        ·
          refine z_const X rfl ?_
          exact w_iret X.1 q hRt rfl (ax_d X (show cdA 93 27 = some (.ireturn, 1, 0, 0, 0) from rfl)) (Nat.zero_le _) (Nat.zero_le _) ⟨_, rfl, Is6, Gs6, 0, rfl, (by decide), by first | exact ⟨by decide, by decide⟩ | omega⟩
set_option maxRecDepth 4000 in
theorem c8_layWays_67 (G : GX l s0 D tys a0 dT) (GR : RS0 s0) (I : Bd s) (p0 : bcn (iI s 40) 12 ≤ 8) : CT l s0 D A dT 92 (rmN 92) [.ref (A 67)] s (fun o t => Bd t ∧ Fm [43, 44, 46, 47, 49, 50, 52, 53, 55, 56, 58, 59, 61, 62, 64, 65, 67, 68] [57, 58, 67, 62, 77, 78, 79, 73, 87, 80, 81, 82, 83, 84, 85, 86, 96, 89, 90, 91, 92, 93, 94, 95, 105, 98, 99, 100, 101, 102, 103, 104, 114, 107, 108, 109, 110, 111, 112, 113, 123, 116, 117, 118, 119, 120, 121, 122, 132, 125, 126, 127, 128, 129, 130, 131, 141, 134, 135, 136, 137, 138, 139, 140, 150, 143, 144, 145, 146, 147, 148, 149, 1059, 1060, 1061, 1063] s t ∧ o = .inl none ∧ (True)) := by
  refine ct_ofX G (by decide) (Nat.le_of_ble_eq_true rfl) (fun k X E ET hRt hXt q => ?_)
  show WS k 0 [(0, .ref (A 67))] [] _ 0 0
  have F : Fm [43, 44, 46, 47, 49, 50, 52, 53, 55, 56, 58, 59, 61, 62, 64, 65, 67, 68] [57, 58, 67, 62, 77, 78, 79, 73, 87, 80, 81, 82, 83, 84, 85, 86, 96, 89, 90, 91, 92, 93, 94, 95, 105, 98, 99, 100, 101, 102, 103, 104, 114, 107, 108, 109, 110, 111, 112, 113, 123, 116, 117, 118, 119, 120, 121, 122, 132, 125, 126, 127, 128, 129, 130, 131, 141, 134, 135, 136, 137, 138, 139, 140, 150, 143, 144, 145, 146, 147, 148, 149, 1059, 1060, 1061, 1063] s s := fm_rf _ _ s
  have bz0 : bcn (iI s 40) (0 : Int).toNat = 0 := rfl
  have b1 := bi_9 I
  have b2 := bi_39 I
  have L18 : ∀ (n : Nat) (t : PS) (nx c : Int), Bd t → Fm [43, 44, 46, 47, 49, 50, 52, 53, 55, 56, 58, 59, 61, 62, 64, 65, 67, 68] [57, 58, 67, 62, 77, 78, 79, 73, 87, 80, 81, 82, 83, 84, 85, 86, 96, 89, 90, 91, 92, 93, 94, 95, 105, 98, 99, 100, 101, 102, 103, 104, 114, 107, 108, 109, 110, 111, 112, 113, 123, 116, 117, 118, 119, 120, 121, 122, 132, 125, 126, 127, 128, 129, 130, 131, 141, 134, 135, 136, 137, 138, 139, 140, 150, 143, 144, 145, 146, 147, 148, 149, 1059, 1060, 1061, 1063] s t → ((0 ≤ c ∧ c ≤ 12) ∧ 0 ≤ nx ∧ nx ≤ bcn (iI s 40) c.toNat ∧ bcn (iI s 40) 12 ≤ 8) → (12 - c : Int).toNat < n → (∀ (t' : PS) (nx' c' : Int), Bd t' → Fm [43, 44, 46, 47, 49, 50, 52, 53, 55, 56, 58, 59, 61, 62, 64, 65, 67, 68] [57, 58, 67, 62, 77, 78, 79, 73, 87, 80, 81, 82, 83, 84, 85, 86, 96, 89, 90, 91, 92, 93, 94, 95, 105, 98, 99, 100, 101, 102, 103, 104, 114, 107, 108, 109, 110, 111, 112, 113, 123, 116, 117, 118, 119, 120, 121, 122, 132, 125, 126, 127, 128, 129, 130, 131, 141, 134, 135, 136, 137, 138, 139, 140, 150, 143, 144, 145, 146, 147, 148, 149, 1059, 1060, 1061, 1063] s t' → ((0 ≤ c' ∧ c' ≤ 12) ∧ 0 ≤ nx' ∧ nx' ≤ bcn (iI s 40) c'.toNat ∧ bcn (iI s 40) 12 ≤ 8) → WS k 186 [(0, .ref (A 67)), (1, .int (Int32.ofInt nx')), (2, .int (Int32.ofInt c'))] [] (Wd A dT t') 0 0) → WS k 18 [(0, .ref (A 67)), (1, .int (Int32.ofInt nx)), (2, .int (Int32.ofInt c))] [] (Wd A dT t) 0 0 := by
    intro n
    induction n with
    | zero =>
      intro t nx c I F hi hm kx
      exact absurd hm (Nat.not_lt_zero _)
    | succ n ih =>
      intro t nx c I F hi hm kx
      have b1001 := bi_9 I
      have b1002 := bi_39 I
      refine z_load_n X (x := c) rfl (List.Mem.tail _ (List.Mem.tail _ (List.Mem.head _))) (z_aload_n X (x := A 67) rfl (List.Mem.head _) (s_getR X 67 rfl (c518_ok rfl) rfl rfl (z_getI X 3 rfl (c518_ok rfl) rfl rfl ?_)))
      have b1003 := bi_9 I
      refine z_icmp_ge X (t := 186) rfl rfl ⟨by first | exact oq_fa4e5087 hi.1.1 | omega, by first | exact oq_78843a64 hi.1.2 | omega⟩ (rng_to _) (fun g1004 => ?_) (fun g1004 => ?_)
      ·
        refine WS_pq [0, 1, 2] (lv' := [(0, .ref (A 67)), (1, .int (Int32.ofInt nx)), (2, .int (Int32.ofInt c))]) rfl ?_
        exact kx _ nx c I F (by first | exact ⟨And.intro (hi.1.1) (hi.1.2), hi.2.1, hi.2.2.1, hi.2.2.2⟩ | omega)
      ·
        refine z_aload_n X (x := A 67) rfl (List.Mem.head _) (s_getR X 67 rfl (c518_ok rfl) rfl rfl (s_getR X 3 rfl (c518_ok rfl) rfl rfl (z_load_n X (x := c) rfl (List.Mem.tail _ (List.Mem.tail _ (List.Mem.head _))) (z_ald X 5 rfl (c518_ok rfl) rfl (by first | exact hi.1.1 | omega) (show c < 12 by first | exact oq_f36e82a8 g1004 b1003.2 | omega) (cbig_ok rfl) ?_))))
        have b1005 := bc_2 I (show (c).toNat < 12 by first | exact oq_2dac6850 g1004 b1003.2 | omega)
        refine z_store_n X (lv' := [(3, .int (Int32.ofInt (iC t 2 (c).toNat))), (0, .ref (A 67)), (1, .int (Int32.ofInt nx)), (2, .int (Int32.ofInt c))]) rfl (by decide) (fun _ h => h) (z_aload_n X (x := A 67) rfl (List.Mem.tail _ (List.Mem.head _)) (s_getR X 67 rfl (c518_ok rfl) rfl rfl (z_load_n X (x := c) rfl (List.Mem.tail _ (List.Mem.tail _ (List.Mem.tail _ (List.Mem.head _)))) (z_aload_n X (x := A 67) rfl (List.Mem.tail _ (List.Mem.head _)) (s_getR X 67 rfl (c518_ok rfl) rfl rfl (s_getR X 3 rfl (c518_ok rfl) rfl rfl (z_load_n X (x := c) rfl (List.Mem.tail _ (List.Mem.tail _ (List.Mem.tail _ (List.Mem.head _)))) (z_bipush X rfl (z_mul X rfl (z_load_n X (x := (iC t 2 (c).toNat)) rfl (List.Mem.head _) (zcV_v0 X E 68 (As := [.int (Int32.ofInt c), .ref (A 4), .int (Int32.ofInt (c * 24)), .int (Int32.ofInt (iC t 2 (c).toNat))]) (st := []) rfl rfl rfl rfl (c9_setWay_68_4 G I (by first | exact ⟨hi.1.1, oq_e4d7f3c5 g1004 b1003.2⟩ | omega) (by first | exact ⟨b1005.1, b1005.2⟩ | omega) (by first | exact ⟨oq_370ce5ec hi.1.1, oq_dec90bf3 b1005.2 g1004 b1003.2⟩ | omega)) rfl (Nat.le_of_ble_eq_true rfl) (fun s1006 Is1006 Fs1006 hps1006 => ?_))))))))))))
        have Gs1006 := fm_tq F Fs1006 rfl rfl
        have ws1006_9 : iI s1006 9 = iI t 9 := fm_iq Fs1006 rfl
        have ws1006_39 : iI s1006 39 = iI t 39 := fm_iq Fs1006 rfl
        refine z_aload_n X (x := A 67) rfl (List.Mem.tail _ (List.Mem.head _)) (s_getR X 67 rfl (c518_ok rfl) rfl rfl (s_getR X 68 rfl (c518_ok rfl) rfl rfl (z_load_n X (x := c) rfl (List.Mem.tail _ (List.Mem.tail _ (List.Mem.tail _ (List.Mem.head _)))) (z_aload_n X (x := A 67) rfl (List.Mem.tail _ (List.Mem.head _)) (s_getR X 67 rfl (c518_ok rfl) rfl rfl (s_getR X 3 rfl (c518_ok rfl) rfl rfl (z_aload_n X (x := A 67) rfl (List.Mem.tail _ (List.Mem.head _)) (z_getI X 67 rfl (c518_ok rfl) rfl rfl ?_))))))))
        have b1008 := bi_39 Is1006
        refine z_bipush X rfl (z_mul X rfl (z_load_n X (x := c) rfl (List.Mem.tail _ (List.Mem.tail _ (List.Mem.tail _ (List.Mem.head _)))) (z_add X rfl (z_ald X 14 rfl (c518_ok rfl) rfl (by first | exact oq_1d1618ee hi.1.1 b1008.1 | omega) (show (((iI s1006 39) * 12) + c) < 288 by first | exact oq_45988efc b1008.2 g1004 b1003.2 | omega) (cbig_ok rfl) ?_))))
        have b1009 := bc_11 Is1006 (show ((((iI s1006 39) * 12) + c)).toNat < 288 by first | exact oq_8395bb7c b1008.2 g1004 b1003.2 | omega)
        refine z_ast X 79 rfl (c518_ok rfl) rfl (by first | exact hi.1.1 | omega) (show c < 288 by first | exact oq_90943592 hi.1.2 | omega) (cbig_ok rfl) (wd_gen (fun s1010 hs1010 => ?_))
        have Is1010 : Bd s1010 := eqB hs1010 (bd_C Is1006 (show (0 : Int) ≤ (iC s1006 11 ((((iI s1006 39) * 12) + c)).toNat) ∧ (iC s1006 11 ((((iI s1006 39) * 12) + c)).toNat) ≤ 50 by first | exact ⟨b1009.1, b1009.2⟩ | omega) (rng_to _))
        have Fs1010 := eqF hs1010 (fm_C Gs1006 (inl_ok (a := 67) rfl))
        have ws1010_9 : iI s1010 9 = iI s1006 9 := eqI hs1010 rfl
        have ws1010_39 : iI s1010 39 = iI s1006 39 := eqI hs1010 rfl
        refine z_aload_n X (x := A 67) rfl (List.Mem.tail _ (List.Mem.head _)) (z_getI X 67 rfl (c518_ok rfl) rfl rfl ?_)
        have b1011 := bi_40 Is1010
        refine z_load_n X (x := c) rfl (List.Mem.tail _ (List.Mem.tail _ (List.Mem.tail _ (List.Mem.head _)))) ?_
        have eq1013 : iI s1010 40 = iI s 40 := fm_iq Fs1010 rfl
        rw [show iI s1010 40 = iI s 40 from fm_i Fs1010 (by decide)]
        refine z_bit X rfl rfl rfl (show 0 ≤ iI s 40 ∧ iI s 40 ≤ 4095 by omega) (show 0 ≤ c ∧ c ≤ 11 by omega) (fun e1012 he1012 ie1012 je1012 ke1012 => ?_)
        show WS k 93 [(3, .int (Int32.ofInt (iC t 2 (c).toNat))), (0, .ref (A 67)), (1, .int (Int32.ofInt nx)), (2, .int (Int32.ofInt c))] [.int (Int32.ofInt e1012)] (Wd A dT s1010) 0 0
        refine z_if_eq X (t := 180) rfl rfl ⟨by omega, by omega⟩ (fun g1014 => ?_) (fun g1014 => ?_)
        ·
          refine z_inc X (x := c) (lv' := [(2, .int (Int32.ofInt (c + 1))), (3, .int (Int32.ofInt (iC t 2 (c).toNat))), (0, .ref (A 67)), (1, .int (Int32.ofInt nx))]) rfl (by decide) (List.Mem.tail _ (List.Mem.tail _ (List.Mem.tail _ (List.Mem.head _)))) (fun _ h => h) (z_goto X (t := 18) rfl rfl (WS_pq [2, 3, 0] (lv' := [(0, .ref (A 67)), (1, .int (Int32.ofInt nx)), (2, .int (Int32.ofInt (c + 1)))]) rfl ?_))
          exact ih _ nx (c + 1) Is1010 Fs1010 (by first | exact ⟨And.intro (oq_54f49eb5 hi.1.1) (oq_4dae995e g1004 b1003.2), hi.2.1, by omega, hi.2.2.2⟩ | omega) (by first | exact qk_me hm (by decide) (oq_b575e8c1 g1004 b1003.2) | omega) kx
        ·
          refine z_aload_n X (x := A 67) rfl (List.Mem.tail _ (List.Mem.head _)) (z_aload_n X (x := A 67) rfl (List.Mem.tail _ (List.Mem.head _)) (s_getR X 67 rfl (c518_ok rfl) rfl rfl (z_load_n X (x := c) rfl (List.Mem.tail _ (List.Mem.tail _ (List.Mem.tail _ (List.Mem.head _)))) (z_const X rfl (zcV_i0 X E 3 (As := [.int (Int32.ofInt c), .int (Int32.ofInt 0)]) (st := [.ref (A 67)]) rfl rfl rfl rfl (c9_cellAt_3 G Is1010 (by first | exact ⟨hi.1.1, oq_e4d7f3c5 g1004 b1003.2⟩ | omega) (by first | exact ⟨by decide, by decide⟩ | omega)) rfl (Nat.le_of_ble_eq_true rfl) (fun s1015 e1016 Is1015 Fs1015 hrs1015 hps1015 => ?_))))))
          have Gs1015 := fm_tq Fs1010 Fs1015 rfl rfl
          have ws1015_9 : iI s1015 9 = iI s1010 9 := fm_iq Fs1015 rfl
          have ws1015_39 : iI s1015 39 = iI s1010 39 := fm_iq Fs1015 rfl
          refine z_aload_n X (x := A 67) rfl (List.Mem.tail _ (List.Mem.head _)) (s_getR X 67 rfl (c518_ok rfl) rfl rfl (z_load_n X (x := c) rfl (List.Mem.tail _ (List.Mem.tail _ (List.Mem.tail _ (List.Mem.head _)))) (z_load_n X (x := (iC t 2 (c).toNat)) rfl (List.Mem.head _) (z_const X rfl (z_sub X rfl (zcV_i0 X E 3 (As := [.int (Int32.ofInt c), .int (Int32.ofInt ((iC t 2 (c).toNat) - 1))]) (st := [.int (Int32.ofInt e1016), .ref (A 67)]) rfl rfl rfl rfl (c9_cellAt_3 G Is1015 (by first | exact ⟨hi.1.1, oq_e4d7f3c5 g1004 b1003.2⟩ | omega) (by first | exact ⟨oq_c1e961c7 b1005.1, oq_0332e1ab b1005.2⟩ | omega)) rfl (Nat.le_of_ble_eq_true rfl) (fun s1017 e1018 Is1017 Fs1017 hrs1017 hps1017 => ?_)))))))
          have Gs1017 := fm_tq Gs1015 Fs1017 rfl rfl
          have ws1017_9 : iI s1017 9 = iI s1015 9 := fm_iq Fs1017 rfl
          have ws1017_39 : iI s1017 39 = iI s1015 39 := fm_iq Fs1017 rfl
          refine zcV_i0 X E 67 (As := [.int (Int32.ofInt e1016), .int (Int32.ofInt e1018)]) (st := []) rfl rfl rfl rfl (c8_findRound_67 G GR Is1017 (by first | exact ⟨hps1015.1, hps1015.2⟩ | omega) (by first | exact ⟨hps1017.1, hps1017.2⟩ | omega)) rfl (Nat.le_of_ble_eq_true rfl) (fun s1019 e1020 Is1019 Fs1019 hrs1019 hps1019 => ?_)
          have Gs1019 := fm_tq Gs1017 Fs1019 rfl rfl
          have ws1019_9 : iI s1019 9 = iI s1017 9 := fm_iq Fs1019 rfl
          have ws1019_39 : iI s1019 39 = iI s1017 39 := fm_iq Fs1019 rfl
          refine z_store X (lv' := [(4, .int (Int32.ofInt e1020)), (3, .int (Int32.ofInt (iC t 2 (c).toNat))), (0, .ref (A 67)), (1, .int (Int32.ofInt nx)), (2, .int (Int32.ofInt c))]) rfl (by decide) (fun _ h => h) (z_aload_n X (x := A 67) rfl (List.Mem.tail _ (List.Mem.tail _ (List.Mem.head _))) (s_getR X 67 rfl (c518_ok rfl) rfl rfl (z_load_n X (x := nx) rfl (List.Mem.tail _ (List.Mem.tail _ (List.Mem.tail _ (List.Mem.head _)))) (z_load X (x := e1020) rfl (List.Mem.head _) (z_if_ne X (t := 136) rfl rfl hrs1019 (fun g1021 => ?_) (fun g1021 => ?_))))))
          ·
            refine z_const X rfl (z_const X rfl (z_load X (x := e1020) rfl (List.Mem.head _) (z_load_n X (x := (iC t 2 (c).toNat)) rfl (List.Mem.tail _ (List.Mem.head _)) (z_sub X rfl (z_max X rfl (by decide) ⟨by first | exact oq_5b45330b hps1019.1 b1005.2 | omega, by first | exact oq_c3c0165d hps1019.2 b1005.1 | omega⟩ (by rw [E.2.2.2]; decide) (by rw [E.2.2.2]; exact Nat.le_of_ble_eq_true rfl) (Nat.zero_le _) (Nat.zero_le _) (fun e1022 he1022 => ?_))))))
            refine z_mul X rfl (z_aload_n X (x := A 67) rfl (List.Mem.tail _ (List.Mem.tail _ (List.Mem.head _))) (s_getR X 67 rfl (c518_ok rfl) rfl rfl (s_getR X 68 rfl (c518_ok rfl) rfl rfl (z_load_n X (x := c) rfl (List.Mem.tail _ (List.Mem.tail _ (List.Mem.tail _ (List.Mem.tail _ (List.Mem.head _))))) (z_ald X 79 rfl (c518_ok rfl) rfl (by first | exact hi.1.1 | omega) (show c < 288 by first | exact oq_90943592 hi.1.2 | omega) (cbig_ok rfl) ?_)))))
            have b1023 := bc_67 Is1019 (show (c).toNat < 288 by first | exact oq_e01dad39 hi.1.2 | omega)
            refine z_mul X rfl (z_any (fun y1024 hy1024 => ?_))
            refine z_ast X 86 rfl (c518_ok rfl) rfl (by first | exact hi.2.1 | omega) (show nx < 8 by first | (clear g1021 g1014; omega) | (clear g1014; omega) | omega) (cbig_ok rfl) (wd_gen (fun s1025 hs1025 => ?_))
            have Is1025 : Bd s1025 := eqB hs1025 (bd_C Is1019 (show ((-2147483648) : Int) ≤ y1024 ∧ y1024 ≤ 2147483647 by first | exact ⟨hy1024.1, hy1024.2⟩ | omega) hy1024)
            have Fs1025 := eqF hs1025 (fm_C Gs1019 (inl_ok (a := 73) rfl))
            have ws1025_9 : iI s1025 9 = iI s1019 9 := eqI hs1025 rfl
            have ws1025_39 : iI s1025 39 = iI s1019 39 := eqI hs1025 rfl
            refine z_inc X (x := nx) (lv' := [(1, .int (Int32.ofInt (nx + 1))), (4, .int (Int32.ofInt e1020)), (3, .int (Int32.ofInt (iC t 2 (c).toNat))), (0, .ref (A 67)), (2, .int (Int32.ofInt c))]) rfl (by decide) (List.Mem.tail _ (List.Mem.tail _ (List.Mem.tail _ (List.Mem.head _)))) (fun _ h => h) (z_load X (x := e1020) rfl (List.Mem.tail _ (List.Mem.head _)) (z_if_le X (t := 180) rfl rfl hrs1019 (fun g1026 => ?_) (fun g1026 => ?_)))
            ·
              refine z_inc X (x := c) (lv' := [(2, .int (Int32.ofInt (c + 1))), (1, .int (Int32.ofInt (nx + 1))), (4, .int (Int32.ofInt e1020)), (3, .int (Int32.ofInt (iC t 2 (c).toNat))), (0, .ref (A 67))]) rfl (by decide) (List.Mem.tail _ (List.Mem.tail _ (List.Mem.tail _ (List.Mem.tail _ (List.Mem.head _))))) (fun _ h => h) (z_goto X (t := 18) rfl rfl (WS_pq [4, 1, 0] (lv' := [(0, .ref (A 67)), (1, .int (Int32.ofInt (nx + 1))), (2, .int (Int32.ofInt (c + 1)))]) rfl ?_))
              exact ih _ (nx + 1) (c + 1) Is1025 Fs1025 (by first | exact ⟨And.intro (oq_54f49eb5 hi.1.1) (oq_4dae995e g1004 b1003.2), oq_54f49eb5 hi.2.1, oq_539bce23 g1026 g1021 hps1019.1, hi.2.2.2⟩ | omega) (by first | exact qk_me hm (by decide) (oq_b575e8c1 g1004 b1003.2) | omega) kx
            ·
              refine z_aload_n X (x := A 67) rfl (List.Mem.tail _ (List.Mem.tail _ (List.Mem.tail _ (List.Mem.head _)))) (s_getR X 67 rfl (c518_ok rfl) rfl rfl (z_load_n X (x := c) rfl (List.Mem.tail _ (List.Mem.tail _ (List.Mem.tail _ (List.Mem.tail _ (List.Mem.head _))))) (z_aload_n X (x := A 67) rfl (List.Mem.tail _ (List.Mem.tail _ (List.Mem.tail _ (List.Mem.head _)))) (s_getR X 67 rfl (c518_ok rfl) rfl rfl (z_const X rfl (z_load X (x := e1020) rfl (List.Mem.tail _ (List.Mem.head _)) (zcV_v0 X E 68 (As := [.int (Int32.ofInt c), .ref (A 92), .int (Int32.ofInt 0), .int (Int32.ofInt e1020)]) (st := []) rfl rfl rfl rfl (c9_setWay_68_92 G Is1025 (by first | exact ⟨hi.1.1, oq_e4d7f3c5 g1004 b1003.2⟩ | omega) (by first | exact ⟨hps1019.1, hps1019.2⟩ | omega) (by first | exact ⟨by decide, oq_4854286b hps1019.2⟩ | omega)) rfl (Nat.le_of_ble_eq_true rfl) (fun s1027 Is1027 Fs1027 hps1027 => ?_))))))))
              have Gs1027 := fm_tq Fs1025 Fs1027 rfl rfl
              have ws1027_9 : iI s1027 9 = iI s1025 9 := fm_iq Fs1027 rfl
              have ws1027_39 : iI s1027 39 = iI s1025 39 := fm_iq Fs1027 rfl
              refine z_inc X (x := c) (lv' := [(2, .int (Int32.ofInt (c + 1))), (1, .int (Int32.ofInt (nx + 1))), (4, .int (Int32.ofInt e1020)), (3, .int (Int32.ofInt (iC t 2 (c).toNat))), (0, .ref (A 67))]) rfl (by decide) (List.Mem.tail _ (List.Mem.tail _ (List.Mem.tail _ (List.Mem.tail _ (List.Mem.head _))))) (fun _ h => h) (z_goto X (t := 18) rfl rfl (WS_pq [4, 1, 0] (lv' := [(0, .ref (A 67)), (1, .int (Int32.ofInt (nx + 1))), (2, .int (Int32.ofInt (c + 1)))]) rfl ?_))
              exact ih _ (nx + 1) (c + 1) Is1027 Gs1027 (by first | exact ⟨And.intro (oq_54f49eb5 hi.1.1) (oq_4dae995e g1004 b1003.2), oq_54f49eb5 hi.2.1, by first | (clear g1021 g1014; omega) | (clear g1014; omega) | omega, hi.2.2.2⟩ | omega) (by first | exact qk_me hm (by decide) (oq_b575e8c1 g1004 b1003.2) | omega) kx
          ·
            refine z_const X rfl (z_goto X (t := 156) rfl rfl (z_ast X 86 rfl (c518_ok rfl) rfl (by first | exact hi.2.1 | omega) (show nx < 8 by first | (clear g1014; omega) | omega) (cbig_ok rfl) (wd_gen (fun s1029 hs1029 => ?_))))
            have Is1029 : Bd s1029 := eqB hs1029 (bd_C Is1019 (show ((-2147483648) : Int) ≤ (-1) ∧ (-1) ≤ 2147483647 by first | exact ⟨by decide, by decide⟩ | omega) (by decide))
            have Fs1029 := eqF hs1029 (fm_C Gs1019 (inl_ok (a := 73) rfl))
            have ws1029_9 : iI s1029 9 = iI s1019 9 := eqI hs1029 rfl
            have ws1029_39 : iI s1029 39 = iI s1019 39 := eqI hs1029 rfl
            refine z_inc X (x := nx) (lv' := [(1, .int (Int32.ofInt (nx + 1))), (4, .int (Int32.ofInt e1020)), (3, .int (Int32.ofInt (iC t 2 (c).toNat))), (0, .ref (A 67)), (2, .int (Int32.ofInt c))]) rfl (by decide) (List.Mem.tail _ (List.Mem.tail _ (List.Mem.tail _ (List.Mem.head _)))) (fun _ h => h) (z_load X (x := e1020) rfl (List.Mem.tail _ (List.Mem.head _)) (z_if_le X (t := 180) rfl rfl hrs1019 (fun g1030 => ?_) (fun g1030 => ?_)))
            ·
              refine z_inc X (x := c) (lv' := [(2, .int (Int32.ofInt (c + 1))), (1, .int (Int32.ofInt (nx + 1))), (4, .int (Int32.ofInt e1020)), (3, .int (Int32.ofInt (iC t 2 (c).toNat))), (0, .ref (A 67))]) rfl (by decide) (List.Mem.tail _ (List.Mem.tail _ (List.Mem.tail _ (List.Mem.tail _ (List.Mem.head _))))) (fun _ h => h) (z_goto X (t := 18) rfl rfl (WS_pq [4, 1, 0] (lv' := [(0, .ref (A 67)), (1, .int (Int32.ofInt (nx + 1))), (2, .int (Int32.ofInt (c + 1)))]) rfl ?_))
              exact ih _ (nx + 1) (c + 1) Is1029 Fs1029 (by first | exact ⟨And.intro (oq_54f49eb5 hi.1.1) (oq_4dae995e g1004 b1003.2), oq_54f49eb5 hi.2.1, by first | (clear g1014; omega) | omega, hi.2.2.2⟩ | omega) (by first | exact qk_me hm (by decide) (oq_b575e8c1 g1004 b1003.2) | omega) kx
            ·
              refine z_aload_n X (x := A 67) rfl (List.Mem.tail _ (List.Mem.tail _ (List.Mem.tail _ (List.Mem.head _)))) (s_getR X 67 rfl (c518_ok rfl) rfl rfl (z_load_n X (x := c) rfl (List.Mem.tail _ (List.Mem.tail _ (List.Mem.tail _ (List.Mem.tail _ (List.Mem.head _))))) (z_aload_n X (x := A 67) rfl (List.Mem.tail _ (List.Mem.tail _ (List.Mem.tail _ (List.Mem.head _)))) (s_getR X 67 rfl (c518_ok rfl) rfl rfl (z_const X rfl (z_load X (x := e1020) rfl (List.Mem.tail _ (List.Mem.head _)) (zcV_v0 X E 68 (As := [.int (Int32.ofInt c), .ref (A 92), .int (Int32.ofInt 0), .int (Int32.ofInt e1020)]) (st := []) rfl rfl rfl rfl (c9_setWay_68_92 G Is1029 (by first | exact ⟨hi.1.1, oq_e4d7f3c5 g1004 b1003.2⟩ | omega) (by first | exact ⟨hps1019.1, hps1019.2⟩ | omega) (by first | exact ⟨by decide, oq_58770268 g1021⟩ | omega)) rfl (Nat.le_of_ble_eq_true rfl) (fun s1031 Is1031 Fs1031 hps1031 => ?_))))))))
              have Gs1031 := fm_tq Fs1029 Fs1031 rfl rfl
              have ws1031_9 : iI s1031 9 = iI s1029 9 := fm_iq Fs1031 rfl
              have ws1031_39 : iI s1031 39 = iI s1029 39 := fm_iq Fs1031 rfl
              refine z_inc X (x := c) (lv' := [(2, .int (Int32.ofInt (c + 1))), (1, .int (Int32.ofInt (nx + 1))), (4, .int (Int32.ofInt e1020)), (3, .int (Int32.ofInt (iC t 2 (c).toNat))), (0, .ref (A 67))]) rfl (by decide) (List.Mem.tail _ (List.Mem.tail _ (List.Mem.tail _ (List.Mem.tail _ (List.Mem.head _))))) (fun _ h => h) (z_goto X (t := 18) rfl rfl (WS_pq [4, 1, 0] (lv' := [(0, .ref (A 67)), (1, .int (Int32.ofInt (nx + 1))), (2, .int (Int32.ofInt (c + 1)))]) rfl ?_))
              exact ih _ (nx + 1) (c + 1) Is1031 Gs1031 (by first | exact ⟨And.intro (oq_54f49eb5 hi.1.1) (oq_4dae995e g1004 b1003.2), oq_54f49eb5 hi.2.1, oq_b9cccab4 g1030 g1021, hi.2.2.2⟩ | omega) (by first | exact qk_me hm (by decide) (oq_b575e8c1 g1004 b1003.2) | omega) kx
  have L195 : ∀ (n : Nat) (t : PS) (p : Int), Bd t → Fm [43, 44, 46, 47, 49, 50, 52, 53, 55, 56, 58, 59, 61, 62, 64, 65, 67, 68] [57, 58, 67, 62, 77, 78, 79, 73, 87, 80, 81, 82, 83, 84, 85, 86, 96, 89, 90, 91, 92, 93, 94, 95, 105, 98, 99, 100, 101, 102, 103, 104, 114, 107, 108, 109, 110, 111, 112, 113, 123, 116, 117, 118, 119, 120, 121, 122, 132, 125, 126, 127, 128, 129, 130, 131, 141, 134, 135, 136, 137, 138, 139, 140, 150, 143, 144, 145, 146, 147, 148, 149, 1059, 1060, 1061, 1063] s t → (0 ≤ p ∧ p ≤ 8) → (8 - p : Int).toNat < n → (∀ (t' : PS) (p' : Int), Bd t' → Fm [43, 44, 46, 47, 49, 50, 52, 53, 55, 56, 58, 59, 61, 62, 64, 65, 67, 68] [57, 58, 67, 62, 77, 78, 79, 73, 87, 80, 81, 82, 83, 84, 85, 86, 96, 89, 90, 91, 92, 93, 94, 95, 105, 98, 99, 100, 101, 102, 103, 104, 114, 107, 108, 109, 110, 111, 112, 113, 123, 116, 117, 118, 119, 120, 121, 122, 132, 125, 126, 127, 128, 129, 130, 131, 141, 134, 135, 136, 137, 138, 139, 140, 150, 143, 144, 145, 146, 147, 148, 149, 1059, 1060, 1061, 1063] s t' → (0 ≤ p' ∧ p' ≤ 8) → WS k 235 [(0, .ref (A 67)), (2, .int (Int32.ofInt p'))] [] (Wd A dT t') 0 0) → WS k 195 [(0, .ref (A 67)), (2, .int (Int32.ofInt p))] [] (Wd A dT t) 0 0 := by
    intro n
    induction n with
    | zero =>
      intro t p I F hi hm kx
      exact absurd hm (Nat.not_lt_zero _)
    | succ n ih =>
      intro t p I F hi hm kx
      have b2001 := bi_9 I
      have b2002 := bi_39 I
      refine z_load_n X (x := p) rfl (List.Mem.tail _ (List.Mem.head _)) (z_bipush X rfl (z_icmp_ge X (t := 235) rfl rfl ⟨by first | exact oq_fa4e5087 hi.1 | omega, by first | exact oq_d3f5d874 hi.2 | omega⟩ (by decide) (fun g2003 => ?_) (fun g2003 => ?_)))
      ·
        refine WS_pq [0, 1] (lv' := [(0, .ref (A 67)), (2, .int (Int32.ofInt p))]) rfl ?_
        exact kx _ p I F (by first | exact ⟨hi.1, hi.2⟩ | omega)
      ·
        refine z_aload_n X (x := A 67) rfl (List.Mem.head _) (s_getR X 67 rfl (c518_ok rfl) rfl rfl (z_load_n X (x := p) rfl (List.Mem.tail _ (List.Mem.head _)) (z_a8 X rfl (by omega) (show p < 8 by omega) ?_)))
        rcases (show p = 0 ∨ p = 1 ∨ p = 2 ∨ p = 3 ∨ p = 4 ∨ p = 5 ∨ p = 6 ∨ p = 7 by omega) with gs | gs | gs | gs | gs | gs | gs | gs
        ·
          have e8 : 93 + 10 * (p : Int).toNat = 93 := by omega
          rw [e8]
          refine z_aload_n X (x := A 67) rfl (List.Mem.head _) (s_getR X 67 rfl (c518_ok rfl) rfl rfl (s_getR X 25 rfl (c518_ok rfl) rfl rfl (z_load_n X (x := p) rfl (List.Mem.tail _ (List.Mem.head _)) (z_lald X 27 rfl (c518_ok rfl) rfl (by first | exact hi.1 | omega) (show p < 8 by first | exact g2003 | omega) (cbig_ok rfl) (fun j2004 => ?_)))))
          refine z_aload_n X (x := A 67) rfl (List.Mem.head _) (s_getR X 67 rfl (c518_ok rfl) rfl rfl (s_getR X 25 rfl (c518_ok rfl) rfl rfl (z_load_n X (x := p) rfl (List.Mem.tail _ (List.Mem.head _)) (z_lald X 28 rfl (c518_ok rfl) rfl (by first | exact hi.1 | omega) (show p < 8 by first | exact g2003 | omega) (cbig_ok rfl) (fun j2005 => ?_)))))
          refine z_const X rfl (zcV_v0 X E 93 (As := [.long j2004, .long j2005, .int (Int32.ofInt 1)]) (st := []) rfl rfl rfl rfl (c0_listen_93 G I (by first | exact ⟨by decide, by decide⟩ | omega)) rfl (Nat.le_of_ble_eq_true rfl) (fun s2006 Is2006 Fs2006 hps2006 => ?_))
          have Gs2006 := fm_tq F Fs2006 rfl rfl
          have ws2006_9 : iI s2006 9 = iI t 9 := fm_iq Fs2006 rfl
          have ws2006_39 : iI s2006 39 = iI t 39 := fm_iq Fs2006 rfl
          refine z_inc X (x := p) (lv' := [(2, .int (Int32.ofInt (p + 1))), (0, .ref (A 67))]) rfl (by decide) (List.Mem.tail _ (List.Mem.head _)) (fun _ h => h) (z_goto X (t := 195) rfl rfl (WS_pq [1, 0] (lv' := [(0, .ref (A 67)), (2, .int (Int32.ofInt (p + 1)))]) rfl ?_))
          exact ih _ (p + 1) Is2006 Gs2006 (by first | exact ⟨oq_54f49eb5 hi.1, oq_0c7b19c3 g2003⟩ | omega) (by first | exact qk_me hm (by decide) (oq_9f368f35 g2003) | omega) kx
        ·
          have e8 : 93 + 10 * (p : Int).toNat = 103 := by omega
          rw [e8]
          refine z_aload_n X (x := A 67) rfl (List.Mem.head _) (s_getR X 67 rfl (c518_ok rfl) rfl rfl (s_getR X 25 rfl (c518_ok rfl) rfl rfl (z_load_n X (x := p) rfl (List.Mem.tail _ (List.Mem.head _)) (z_lald X 27 rfl (c518_ok rfl) rfl (by first | exact hi.1 | omega) (show p < 8 by first | exact g2003 | omega) (cbig_ok rfl) (fun j2008 => ?_)))))
          refine z_aload_n X (x := A 67) rfl (List.Mem.head _) (s_getR X 67 rfl (c518_ok rfl) rfl rfl (s_getR X 25 rfl (c518_ok rfl) rfl rfl (z_load_n X (x := p) rfl (List.Mem.tail _ (List.Mem.head _)) (z_lald X 28 rfl (c518_ok rfl) rfl (by first | exact hi.1 | omega) (show p < 8 by first | exact g2003 | omega) (cbig_ok rfl) (fun j2009 => ?_)))))
          refine z_const X rfl (zcV_v0 X E 103 (As := [.long j2008, .long j2009, .int (Int32.ofInt 1)]) (st := []) rfl rfl rfl rfl (c0_listen_103 G I (by first | exact ⟨by decide, by decide⟩ | omega)) rfl (Nat.le_of_ble_eq_true rfl) (fun s2010 Is2010 Fs2010 hps2010 => ?_))
          have Gs2010 := fm_tq F Fs2010 rfl rfl
          have ws2010_9 : iI s2010 9 = iI t 9 := fm_iq Fs2010 rfl
          have ws2010_39 : iI s2010 39 = iI t 39 := fm_iq Fs2010 rfl
          refine z_inc X (x := p) (lv' := [(2, .int (Int32.ofInt (p + 1))), (0, .ref (A 67))]) rfl (by decide) (List.Mem.tail _ (List.Mem.head _)) (fun _ h => h) (z_goto X (t := 195) rfl rfl (WS_pq [1, 0] (lv' := [(0, .ref (A 67)), (2, .int (Int32.ofInt (p + 1)))]) rfl ?_))
          exact ih _ (p + 1) Is2010 Gs2010 (by first | exact ⟨oq_54f49eb5 hi.1, oq_0c7b19c3 g2003⟩ | omega) (by first | exact qk_me hm (by decide) (oq_9f368f35 g2003) | omega) kx
        ·
          have e8 : 93 + 10 * (p : Int).toNat = 113 := by omega
          rw [e8]
          refine z_aload_n X (x := A 67) rfl (List.Mem.head _) (s_getR X 67 rfl (c518_ok rfl) rfl rfl (s_getR X 25 rfl (c518_ok rfl) rfl rfl (z_load_n X (x := p) rfl (List.Mem.tail _ (List.Mem.head _)) (z_lald X 27 rfl (c518_ok rfl) rfl (by first | exact hi.1 | omega) (show p < 8 by first | exact g2003 | omega) (cbig_ok rfl) (fun j2012 => ?_)))))
          refine z_aload_n X (x := A 67) rfl (List.Mem.head _) (s_getR X 67 rfl (c518_ok rfl) rfl rfl (s_getR X 25 rfl (c518_ok rfl) rfl rfl (z_load_n X (x := p) rfl (List.Mem.tail _ (List.Mem.head _)) (z_lald X 28 rfl (c518_ok rfl) rfl (by first | exact hi.1 | omega) (show p < 8 by first | exact g2003 | omega) (cbig_ok rfl) (fun j2013 => ?_)))))
          refine z_const X rfl (zcV_v0 X E 113 (As := [.long j2012, .long j2013, .int (Int32.ofInt 1)]) (st := []) rfl rfl rfl rfl (c0_listen_113 G I (by first | exact ⟨by decide, by decide⟩ | omega)) rfl (Nat.le_of_ble_eq_true rfl) (fun s2014 Is2014 Fs2014 hps2014 => ?_))
          have Gs2014 := fm_tq F Fs2014 rfl rfl
          have ws2014_9 : iI s2014 9 = iI t 9 := fm_iq Fs2014 rfl
          have ws2014_39 : iI s2014 39 = iI t 39 := fm_iq Fs2014 rfl
          refine z_inc X (x := p) (lv' := [(2, .int (Int32.ofInt (p + 1))), (0, .ref (A 67))]) rfl (by decide) (List.Mem.tail _ (List.Mem.head _)) (fun _ h => h) (z_goto X (t := 195) rfl rfl (WS_pq [1, 0] (lv' := [(0, .ref (A 67)), (2, .int (Int32.ofInt (p + 1)))]) rfl ?_))
          exact ih _ (p + 1) Is2014 Gs2014 (by first | exact ⟨oq_54f49eb5 hi.1, oq_0c7b19c3 g2003⟩ | omega) (by first | exact qk_me hm (by decide) (oq_9f368f35 g2003) | omega) kx
        ·
          have e8 : 93 + 10 * (p : Int).toNat = 123 := by omega
          rw [e8]
          refine z_aload_n X (x := A 67) rfl (List.Mem.head _) (s_getR X 67 rfl (c518_ok rfl) rfl rfl (s_getR X 25 rfl (c518_ok rfl) rfl rfl (z_load_n X (x := p) rfl (List.Mem.tail _ (List.Mem.head _)) (z_lald X 27 rfl (c518_ok rfl) rfl (by first | exact hi.1 | omega) (show p < 8 by first | exact g2003 | omega) (cbig_ok rfl) (fun j2016 => ?_)))))
          refine z_aload_n X (x := A 67) rfl (List.Mem.head _) (s_getR X 67 rfl (c518_ok rfl) rfl rfl (s_getR X 25 rfl (c518_ok rfl) rfl rfl (z_load_n X (x := p) rfl (List.Mem.tail _ (List.Mem.head _)) (z_lald X 28 rfl (c518_ok rfl) rfl (by first | exact hi.1 | omega) (show p < 8 by first | exact g2003 | omega) (cbig_ok rfl) (fun j2017 => ?_)))))
          refine z_const X rfl (zcV_v0 X E 123 (As := [.long j2016, .long j2017, .int (Int32.ofInt 1)]) (st := []) rfl rfl rfl rfl (c0_listen_123 G I (by first | exact ⟨by decide, by decide⟩ | omega)) rfl (Nat.le_of_ble_eq_true rfl) (fun s2018 Is2018 Fs2018 hps2018 => ?_))
          have Gs2018 := fm_tq F Fs2018 rfl rfl
          have ws2018_9 : iI s2018 9 = iI t 9 := fm_iq Fs2018 rfl
          have ws2018_39 : iI s2018 39 = iI t 39 := fm_iq Fs2018 rfl
          refine z_inc X (x := p) (lv' := [(2, .int (Int32.ofInt (p + 1))), (0, .ref (A 67))]) rfl (by decide) (List.Mem.tail _ (List.Mem.head _)) (fun _ h => h) (z_goto X (t := 195) rfl rfl (WS_pq [1, 0] (lv' := [(0, .ref (A 67)), (2, .int (Int32.ofInt (p + 1)))]) rfl ?_))
          exact ih _ (p + 1) Is2018 Gs2018 (by first | exact ⟨oq_54f49eb5 hi.1, oq_0c7b19c3 g2003⟩ | omega) (by first | exact qk_me hm (by decide) (oq_9f368f35 g2003) | omega) kx
        ·
          have e8 : 93 + 10 * (p : Int).toNat = 133 := by omega
          rw [e8]
          refine z_aload_n X (x := A 67) rfl (List.Mem.head _) (s_getR X 67 rfl (c518_ok rfl) rfl rfl (s_getR X 25 rfl (c518_ok rfl) rfl rfl (z_load_n X (x := p) rfl (List.Mem.tail _ (List.Mem.head _)) (z_lald X 27 rfl (c518_ok rfl) rfl (by first | exact hi.1 | omega) (show p < 8 by first | exact g2003 | omega) (cbig_ok rfl) (fun j2020 => ?_)))))
          refine z_aload_n X (x := A 67) rfl (List.Mem.head _) (s_getR X 67 rfl (c518_ok rfl) rfl rfl (s_getR X 25 rfl (c518_ok rfl) rfl rfl (z_load_n X (x := p) rfl (List.Mem.tail _ (List.Mem.head _)) (z_lald X 28 rfl (c518_ok rfl) rfl (by first | exact hi.1 | omega) (show p < 8 by first | exact g2003 | omega) (cbig_ok rfl) (fun j2021 => ?_)))))
          refine z_const X rfl (zcV_v0 X E 133 (As := [.long j2020, .long j2021, .int (Int32.ofInt 1)]) (st := []) rfl rfl rfl rfl (c0_listen_133 G I (by first | exact ⟨by decide, by decide⟩ | omega)) rfl (Nat.le_of_ble_eq_true rfl) (fun s2022 Is2022 Fs2022 hps2022 => ?_))
          have Gs2022 := fm_tq F Fs2022 rfl rfl
          have ws2022_9 : iI s2022 9 = iI t 9 := fm_iq Fs2022 rfl
          have ws2022_39 : iI s2022 39 = iI t 39 := fm_iq Fs2022 rfl
          refine z_inc X (x := p) (lv' := [(2, .int (Int32.ofInt (p + 1))), (0, .ref (A 67))]) rfl (by decide) (List.Mem.tail _ (List.Mem.head _)) (fun _ h => h) (z_goto X (t := 195) rfl rfl (WS_pq [1, 0] (lv' := [(0, .ref (A 67)), (2, .int (Int32.ofInt (p + 1)))]) rfl ?_))
          exact ih _ (p + 1) Is2022 Gs2022 (by first | exact ⟨oq_54f49eb5 hi.1, oq_0c7b19c3 g2003⟩ | omega) (by first | exact qk_me hm (by decide) (oq_9f368f35 g2003) | omega) kx
        ·
          have e8 : 93 + 10 * (p : Int).toNat = 143 := by omega
          rw [e8]
          refine z_aload_n X (x := A 67) rfl (List.Mem.head _) (s_getR X 67 rfl (c518_ok rfl) rfl rfl (s_getR X 25 rfl (c518_ok rfl) rfl rfl (z_load_n X (x := p) rfl (List.Mem.tail _ (List.Mem.head _)) (z_lald X 27 rfl (c518_ok rfl) rfl (by first | exact hi.1 | omega) (show p < 8 by first | exact g2003 | omega) (cbig_ok rfl) (fun j2024 => ?_)))))
          refine z_aload_n X (x := A 67) rfl (List.Mem.head _) (s_getR X 67 rfl (c518_ok rfl) rfl rfl (s_getR X 25 rfl (c518_ok rfl) rfl rfl (z_load_n X (x := p) rfl (List.Mem.tail _ (List.Mem.head _)) (z_lald X 28 rfl (c518_ok rfl) rfl (by first | exact hi.1 | omega) (show p < 8 by first | exact g2003 | omega) (cbig_ok rfl) (fun j2025 => ?_)))))
          refine z_const X rfl (zcV_v0 X E 143 (As := [.long j2024, .long j2025, .int (Int32.ofInt 1)]) (st := []) rfl rfl rfl rfl (c0_listen_143 G I (by first | exact ⟨by decide, by decide⟩ | omega)) rfl (Nat.le_of_ble_eq_true rfl) (fun s2026 Is2026 Fs2026 hps2026 => ?_))
          have Gs2026 := fm_tq F Fs2026 rfl rfl
          have ws2026_9 : iI s2026 9 = iI t 9 := fm_iq Fs2026 rfl
          have ws2026_39 : iI s2026 39 = iI t 39 := fm_iq Fs2026 rfl
          refine z_inc X (x := p) (lv' := [(2, .int (Int32.ofInt (p + 1))), (0, .ref (A 67))]) rfl (by decide) (List.Mem.tail _ (List.Mem.head _)) (fun _ h => h) (z_goto X (t := 195) rfl rfl (WS_pq [1, 0] (lv' := [(0, .ref (A 67)), (2, .int (Int32.ofInt (p + 1)))]) rfl ?_))
          exact ih _ (p + 1) Is2026 Gs2026 (by first | exact ⟨oq_54f49eb5 hi.1, oq_0c7b19c3 g2003⟩ | omega) (by first | exact qk_me hm (by decide) (oq_9f368f35 g2003) | omega) kx
        ·
          have e8 : 93 + 10 * (p : Int).toNat = 153 := by omega
          rw [e8]
          refine z_aload_n X (x := A 67) rfl (List.Mem.head _) (s_getR X 67 rfl (c518_ok rfl) rfl rfl (s_getR X 25 rfl (c518_ok rfl) rfl rfl (z_load_n X (x := p) rfl (List.Mem.tail _ (List.Mem.head _)) (z_lald X 27 rfl (c518_ok rfl) rfl (by first | exact hi.1 | omega) (show p < 8 by first | exact g2003 | omega) (cbig_ok rfl) (fun j2028 => ?_)))))
          refine z_aload_n X (x := A 67) rfl (List.Mem.head _) (s_getR X 67 rfl (c518_ok rfl) rfl rfl (s_getR X 25 rfl (c518_ok rfl) rfl rfl (z_load_n X (x := p) rfl (List.Mem.tail _ (List.Mem.head _)) (z_lald X 28 rfl (c518_ok rfl) rfl (by first | exact hi.1 | omega) (show p < 8 by first | exact g2003 | omega) (cbig_ok rfl) (fun j2029 => ?_)))))
          refine z_const X rfl (zcV_v0 X E 153 (As := [.long j2028, .long j2029, .int (Int32.ofInt 1)]) (st := []) rfl rfl rfl rfl (c0_listen_153 G I (by first | exact ⟨by decide, by decide⟩ | omega)) rfl (Nat.le_of_ble_eq_true rfl) (fun s2030 Is2030 Fs2030 hps2030 => ?_))
          have Gs2030 := fm_tq F Fs2030 rfl rfl
          have ws2030_9 : iI s2030 9 = iI t 9 := fm_iq Fs2030 rfl
          have ws2030_39 : iI s2030 39 = iI t 39 := fm_iq Fs2030 rfl
          refine z_inc X (x := p) (lv' := [(2, .int (Int32.ofInt (p + 1))), (0, .ref (A 67))]) rfl (by decide) (List.Mem.tail _ (List.Mem.head _)) (fun _ h => h) (z_goto X (t := 195) rfl rfl (WS_pq [1, 0] (lv' := [(0, .ref (A 67)), (2, .int (Int32.ofInt (p + 1)))]) rfl ?_))
          exact ih _ (p + 1) Is2030 Gs2030 (by first | exact ⟨oq_54f49eb5 hi.1, oq_0c7b19c3 g2003⟩ | omega) (by first | exact qk_me hm (by decide) (oq_9f368f35 g2003) | omega) kx
        ·
          have e8 : 93 + 10 * (p : Int).toNat = 163 := by omega
          rw [e8]
          refine z_aload_n X (x := A 67) rfl (List.Mem.head _) (s_getR X 67 rfl (c518_ok rfl) rfl rfl (s_getR X 25 rfl (c518_ok rfl) rfl rfl (z_load_n X (x := p) rfl (List.Mem.tail _ (List.Mem.head _)) (z_lald X 27 rfl (c518_ok rfl) rfl (by first | exact hi.1 | omega) (show p < 8 by first | exact g2003 | omega) (cbig_ok rfl) (fun j2032 => ?_)))))
          refine z_aload_n X (x := A 67) rfl (List.Mem.head _) (s_getR X 67 rfl (c518_ok rfl) rfl rfl (s_getR X 25 rfl (c518_ok rfl) rfl rfl (z_load_n X (x := p) rfl (List.Mem.tail _ (List.Mem.head _)) (z_lald X 28 rfl (c518_ok rfl) rfl (by first | exact hi.1 | omega) (show p < 8 by first | exact g2003 | omega) (cbig_ok rfl) (fun j2033 => ?_)))))
          refine z_const X rfl (zcV_v0 X E 163 (As := [.long j2032, .long j2033, .int (Int32.ofInt 1)]) (st := []) rfl rfl rfl rfl (c0_listen_163 G I (by first | exact ⟨by decide, by decide⟩ | omega)) rfl (Nat.le_of_ble_eq_true rfl) (fun s2034 Is2034 Fs2034 hps2034 => ?_))
          have Gs2034 := fm_tq F Fs2034 rfl rfl
          have ws2034_9 : iI s2034 9 = iI t 9 := fm_iq Fs2034 rfl
          have ws2034_39 : iI s2034 39 = iI t 39 := fm_iq Fs2034 rfl
          refine z_inc X (x := p) (lv' := [(2, .int (Int32.ofInt (p + 1))), (0, .ref (A 67))]) rfl (by decide) (List.Mem.tail _ (List.Mem.head _)) (fun _ h => h) (z_goto X (t := 195) rfl rfl (WS_pq [1, 0] (lv' := [(0, .ref (A 67)), (2, .int (Int32.ofInt (p + 1)))]) rfl ?_))
          exact ih _ (p + 1) Is2034 Gs2034 (by first | exact ⟨oq_54f49eb5 hi.1, oq_0c7b19c3 g2003⟩ | omega) (by first | exact qk_me hm (by decide) (oq_9f368f35 g2003) | omega) kx
  refine z_aload_n X (x := A 67) rfl (List.Mem.head _) (s_getR X 67 rfl (c518_ok rfl) rfl rfl (z_aload_n X (x := A 67) rfl (List.Mem.head _) (s_getR X 67 rfl (c518_ok rfl) rfl rfl (z_getI X 3 rfl (c518_ok rfl) rfl rfl ?_))))
  have b3 := bi_9 I
  refine s_putI X 68 rfl (c518_ok rfl) rfl rfl (by decide) rfl rfl rfl (wd_gen (fun s4 hs4 => ?_))
  have Is4 : Bd s4 := eqB hs4 (bd_I I (show (0 : Int) ≤ (iI s 9) ∧ (iI s 9) ≤ 12 by first | exact ⟨b3.1, b3.2⟩ | omega) (rng_to _))
  have Fs4 := eqF hs4 (fm_I F (inl_ok (a := 43) rfl))
  have vs4 : iI s4 43 = (iI s 9) := eqI hs4 (iI_u (rng_to _))
  have ws4_9 : iI s4 9 = iI s 9 := eqI hs4 rfl
  have ws4_39 : iI s4 39 = iI s 39 := eqI hs4 rfl
  refine z_const X rfl (z_store_n X (lv' := [(1, .int (Int32.ofInt 0)), (0, .ref (A 67))]) rfl (by decide) (fun _ h => h) (z_const X rfl (z_store_n X (lv' := [(2, .int (Int32.ofInt 0)), (1, .int (Int32.ofInt 0)), (0, .ref (A 67))]) rfl (by decide) (fun _ h => h) (WS_pq [2, 1, 0] (lv' := [(0, .ref (A 67)), (1, .int (Int32.ofInt 0)), (2, .int (Int32.ofInt 0))]) rfl (L18 ((12 - 0 : Int).toNat + 1) s4 0 0 Is4 Fs4 (by first | exact ⟨And.intro (by decide) (by decide), by decide, oq_0b35aa92 bz0, p0⟩ | omega) (Nat.lt_succ_self _) ?_)))))
  intro s5 x6 x7 Is5 Fs5 hs5
  have b8 := bi_9 Is5
  have b9 := bi_39 Is5
  refine z_aload_n X (x := A 67) rfl (List.Mem.head _) (s_getR X 67 rfl (c518_ok rfl) rfl rfl (zcV_v0 X E 68 (As := []) (st := []) rfl rfl rfl rfl (c9_pairUp_68 G Is5 ) rfl (Nat.le_of_ble_eq_true rfl) (fun s10 Is10 Fs10 hps10 => ?_)))
  have Gs10 := fm_tq Fs5 Fs10 rfl rfl
  have ws10_9 : iI s10 9 = iI s5 9 := fm_iq Fs10 rfl
  have ws10_39 : iI s10 39 = iI s5 39 := fm_iq Fs10 rfl
  refine z_const X rfl (z_store_n X (lv' := [(2, .int (Int32.ofInt 0)), (0, .ref (A 67)), (1, .int (Int32.ofInt x6))]) rfl (by decide) (fun _ h => h) (WS_pq [1, 0] (lv' := [(0, .ref (A 67)), (2, .int (Int32.ofInt 0))]) rfl (L195 ((8 - 0 : Int).toNat + 1) s10 0 Is10 Gs10 (by first | exact ⟨by decide, by decide⟩ | omega) (Nat.lt_succ_self _) ?_)))
  intro s12 x13 Is12 Fs12 hs12
  have b14 := bi_9 Is12
  have b15 := bi_39 Is12
  exact w_vret X.1 q hRt (ax_d X (show cdA 92 235 = some (.return_, 1, 0, 0, 0) from rfl)) (Nat.zero_le _) (Nat.zero_le _) ⟨_, rfl, Is12, Fs12, rfl, trivial⟩
set_option maxRecDepth 4000 in
theorem c8_solve_67 (G : GX l s0 D tys a0 dT) (GR : RS0 s0) (I : Bd s) {x y : Int} (p0 : rng x) (p1 : rng y) (p2 : bcn (iI s 40) 12 ≤ iI s 41) : CT l s0 D A dT 91 (rmN 91) [.ref (A 67), .int (Int32.ofInt x), .int (Int32.ofInt y)] s (fun o t => Bd t ∧ Fm [43, 44, 46, 47, 49, 50, 52, 53, 55, 56, 58, 59, 61, 62, 64, 65, 67, 68, 42] [57, 58, 67, 62, 77, 78, 79, 73, 87, 80, 81, 82, 83, 84, 85, 86, 96, 89, 90, 91, 92, 93, 94, 95, 105, 98, 99, 100, 101, 102, 103, 104, 114, 107, 108, 109, 110, 111, 112, 113, 123, 116, 117, 118, 119, 120, 121, 122, 132, 125, 126, 127, 128, 129, 130, 131, 141, 134, 135, 136, 137, 138, 139, 140, 150, 143, 144, 145, 146, 147, 148, 149, 20, 76, 74, 75, 1059, 1060, 1061, 1063] s t ∧ ∃ e, o = .inl (some (.int (Int32.ofInt e))) ∧ rng e ∧ (e = 0 ∨ e = 1)) := by
  refine ct_ofX G (by decide) (Nat.le_of_ble_eq_true rfl) (fun k X E ET hRt hXt q => ?_)
  show WS k 0 [(0, .ref (A 67)), (1, .int (Int32.ofInt x)), (2, .int (Int32.ofInt y))] [] _ 0 0
  have F : Fm [43, 44, 46, 47, 49, 50, 52, 53, 55, 56, 58, 59, 61, 62, 64, 65, 67, 68, 42] [57, 58, 67, 62, 77, 78, 79, 73, 87, 80, 81, 82, 83, 84, 85, 86, 96, 89, 90, 91, 92, 93, 94, 95, 105, 98, 99, 100, 101, 102, 103, 104, 114, 107, 108, 109, 110, 111, 112, 113, 123, 116, 117, 118, 119, 120, 121, 122, 132, 125, 126, 127, 128, 129, 130, 131, 141, 134, 135, 136, 137, 138, 139, 140, 150, 143, 144, 145, 146, 147, 148, 149, 20, 76, 74, 75, 1059, 1060, 1061, 1063] s s := fm_rf _ _ s
  have b1 := bi_41 I
  refine z_aload_n X (x := A 67) rfl (List.Mem.head _) (z_getI X 67 rfl (c518_ok rfl) rfl rfl ?_)
  have b2 := bi_41 I
  refine z_bipush X rfl (z_icmp_le X (t := 11) rfl rfl (rng_to _) (by decide) (fun g3 => ?_) (fun g3 => ?_))
  ·
    refine z_aload_n X (x := A 67) rfl (List.Mem.head _) (zcV_v0 X E 67 (As := []) (st := []) rfl rfl rfl rfl (c8_layWays_67 G GR I (by first | exact oq_fe8b3247 p2 g3 | omega)) rfl (Nat.le_of_ble_eq_true rfl) (fun s4 Is4 Fs4 hps4 => ?_))
    have Gs4 := fm_ts F Fs4 (by decide) (by decide +kernel)
    have ws4_41 : iI s4 41 = iI s 41 := fm_iq Fs4 rfl
    refine z_aload_n X (x := A 67) rfl (List.Mem.head _) (s_getR X 67 rfl (c518_ok rfl) rfl rfl (z_const X rfl (zcS_v0 X E (As := [.ref (A 89), .int (Int32.ofInt 0)]) (st := []) rfl rfl (j_fill_89 G Is4 (by first | exact ⟨by decide, by decide⟩ | omega)) rfl (Nat.le_of_ble_eq_true rfl) (fun s6 Is6 Fs6 hps6 => ?_))))
    have Gs6 := fm_tq Gs4 Fs6 rfl rfl
    have ws6_41 : iI s6 41 = iI s4 41 := fm_iq Fs6 rfl
    refine z_aload_n X (x := A 67) rfl (List.Mem.head _) (z_ldc X rfl (s_putI X 67 rfl (c518_ok rfl) rfl rfl (by decide) rfl rfl rfl (wd_gen (fun s8 hs8 => ?_))))
    have Is8 : Bd s8 := eqB hs8 (bd_I Is6 (show ((-2147483648) : Int) ≤ 2147483647 ∧ 2147483647 ≤ 2147483647 by first | exact ⟨by decide, by decide⟩ | omega) (by decide))
    have Fs8 := eqF hs8 (fm_I Gs6 (inl_ok (a := 42) rfl))
    have vs8 : iI s8 42 = 2147483647 := eqI hs8 (iI_u (by decide))
    have ws8_41 : iI s8 41 = iI s6 41 := eqI hs8 rfl
    refine z_aload_n X (x := A 67) rfl (List.Mem.head _) (z_const X rfl (z_const X rfl (z_load_n X (x := x) rfl (List.Mem.tail _ (List.Mem.head _)) (z_load_n X (x := y) rfl (List.Mem.tail _ (List.Mem.tail _ (List.Mem.head _))) (z_const X rfl (z_callV X 67 (rm := (rkR (30 + (8)))) (As := [.int (Int32.ofInt 0), .int (Int32.ofInt 0), .int (Int32.ofInt x), .int (Int32.ofInt y), .int (Int32.ofInt 0)]) (st := []) rfl rfl (by decide) rfl (by rw [E.1, E.2.1, E.2.2.1]; exact c8_tryr G 8 Is8 (by omega) (by omega) (by first | exact oq_e14d47df ws8_41 ws6_41 ws4_41 g3 | omega) (by first | exact ⟨p1.1, p1.2⟩ | omega) (by omega) (by omega) (by omega)) ⟨by rw [E.2.2.2]; exact (show (12 + (30 + (8))) + 1 ≤ 53 from oq_9a8da6b0), by rw [E.2.2.2]; exact (show 8 + (7 + 11) + (500 + 45 * (30 + (8))) ≤ 2326 from oq_deba6685), by rw [E.2.2.2]; exact Nat.le_refl 0, by rw [E.2.2.2]; exact Nat.le_refl 0⟩ (Nat.le_of_ble_eq_true rfl) (fun vv s9 hq => ?_) (fun ee s9 hq => ?_)))))))
    rotate_left
    · obtain ⟨Is9, Fs9, hv, hps9⟩ := hq; cases hv
    obtain ⟨Is9, Fs9, hv, hps9⟩ := hq
    cases hv
    have Gs9 := fm_tq Fs8 Fs9 rfl rfl
    have ws9_41 : iI s9 41 = iI s8 41 := fm_iq Fs9 rfl
    show WS k 38 [(0, .ref (A 67)), (1, .int (Int32.ofInt x)), (2, .int (Int32.ofInt y))] [] (Wd A dT s9) 0 0
    refine z_aload_n X (x := A 67) rfl (List.Mem.head _) (z_getI X 67 rfl (c518_ok rfl) rfl rfl ?_)
    have b11 := bi_42 Is9
    refine z_ldc X rfl ?_
    have N12 : ∀ e13 : Int, ((((iI s9 42) = 2147483647) ∧ e13 = 0) ∨ (((iI s9 42) ≠ 2147483647) ∧ e13 = 1)) → WS k 52 [(0, .ref (A 67)), (1, .int (Int32.ofInt x)), (2, .int (Int32.ofInt y))] [.int (Int32.ofInt e13)] (Wd A dT s9) 0 0 := by
      intro e13 he13
      have re13 : 0 ≤ e13 ∧ e13 ≤ 1 := by first | (clear he13; omega) | omega
      exact w_iret X.1 q hRt (nar_ret (by first | exact oq_25fc3a3a re13.2 re13.1 he13 | omega)) (ax_d X (show cdA 91 52 = some (.ireturn, 1, 0, 0, 0) from rfl)) (Nat.zero_le _) (Nat.zero_le _) ⟨_, rfl, Is9, Gs9, e13, rfl, ⟨by first | exact oq_fa4e5087 re13.1 | omega, by first | exact oq_22e1e6b0 re13.2 | omega⟩, by first | exact oq_25fc3a3a re13.2 re13.1 he13 | omega⟩
    refine z_icmp_eq X (t := 51) rfl rfl (rng_to _) (by decide) (fun g14 => ?_) (fun g14 => ?_)
    ·
      exact z_const X rfl (N12 _ (Or.inl ⟨g14, rfl⟩))
    ·
      exact z_const X rfl (z_goto X (t := 52) rfl rfl (N12 _ (Or.inr (⟨g14, rfl⟩))))
  ·
    refine z_const X rfl ?_
    exact w_iret X.1 q hRt (nar_ret (by first | exact Or.inl (by decide) | omega)) (ax_d X (show cdA 91 10 = some (.ireturn, 1, 0, 0, 0) from rfl)) (Nat.zero_le _) (Nat.zero_le _) ⟨_, rfl, I, F, 0, rfl, (by decide), by first | exact Or.inl (by decide) | omega⟩
set_option maxRecDepth 4000 in
theorem cs_mends (G : GX l s0 D tys a0 dT) (GR : RS0 s0) (I : Bd s) {x y z w : Int} (p0 : rng x) (p1 : rng y) (p2 : rng z) (p3 : rng w) : CT l s0 D A dT 170 (rmN 170) [.ref (A 0), .int (Int32.ofInt x), .int (Int32.ofInt y), .int (Int32.ofInt z), .int (Int32.ofInt w)] s (fun o t => Bd t ∧ Fm [43, 44, 46, 47, 49, 50, 52, 53, 55, 56, 58, 59, 61, 62, 64, 65, 67, 68, 42, 39, 40, 41] [57, 58, 67, 62, 77, 78, 79, 73, 87, 80, 81, 82, 83, 84, 85, 86, 96, 89, 90, 91, 92, 93, 94, 95, 105, 98, 99, 100, 101, 102, 103, 104, 114, 107, 108, 109, 110, 111, 112, 113, 123, 116, 117, 118, 119, 120, 121, 122, 132, 125, 126, 127, 128, 129, 130, 131, 141, 134, 135, 136, 137, 138, 139, 140, 150, 143, 144, 145, 146, 147, 148, 149, 20, 76, 74, 75, 72, 1059, 1060, 1061, 1063] s t ∧ ((∃ e, o = .inl (some (.int (Int32.ofInt e))) ∧ rng e ∧ (True)) ∨ ∃ x : Nat, o = .inr (exN x) ∧ (x = 0))) := by
  refine ct_ofX G (by decide) (Nat.le_of_ble_eq_true rfl) (fun k X E ET hRt hXt q => ?_)
  show WS k 0 [(0, .ref (A 0)), (1, .int (Int32.ofInt x)), (2, .int (Int32.ofInt y)), (3, .int (Int32.ofInt z)), (4, .int (Int32.ofInt w))] [] _ 0 0
  have F : Fm [43, 44, 46, 47, 49, 50, 52, 53, 55, 56, 58, 59, 61, 62, 64, 65, 67, 68, 42, 39, 40, 41] [57, 58, 67, 62, 77, 78, 79, 73, 87, 80, 81, 82, 83, 84, 85, 86, 96, 89, 90, 91, 92, 93, 94, 95, 105, 98, 99, 100, 101, 102, 103, 104, 114, 107, 108, 109, 110, 111, 112, 113, 123, 116, 117, 118, 119, 120, 121, 122, 132, 125, 126, 127, 128, 129, 130, 131, 141, 134, 135, 136, 137, 138, 139, 140, 150, 143, 144, 145, 146, 147, 148, 149, 20, 76, 74, 75, 72, 1059, 1060, 1061, 1063] s s := fm_rf _ _ s
  refine z_aload_n X (x := A 0) rfl (List.Mem.head _) (z_load_n X (x := x) rfl (List.Mem.tail _ (List.Mem.head _)) (z_callV X 0 (rm := rmN 183) (As := [.int (Int32.ofInt x)]) (st := []) rfl rfl (by decide) rfl (by rw [E.1, E.2.1, E.2.2.1]; exact cs_needQuarter G I (by first | exact ⟨p0.1, p0.2⟩ | omega)) ⟨by rw [E.2.2.2]; exact (show (rmN 183).frames + 1 ≤ (rmN 170).frames by decide), by rw [E.2.2.2]; exact (show 8 + (mNL (miB 183) + 11) + (rmN 183).locals ≤ (rmN 170).locals by decide), by rw [E.2.2.2]; exact (show 0 + 1 ≤ 4 by decide), by rw [E.2.2.2]; exact (show 0 + 6 ≤ 24 by decide)⟩ (Nat.le_of_ble_eq_true rfl) (fun vv s1 hq => ?_) (fun ee s1 hq => ?_)))
  rotate_left
  · obtain ⟨Is1, Fs1, (⟨hv, hps1⟩ | ⟨xx, hv, hps1⟩)⟩ := hq
    · cases hv
    · cases hv
      have Gs1 := fm_tq F Fs1 rfl rfl
      exact x_out X.1 q (fun x hx => (hXt x hx).elim) (show 1 ≤ 4 by decide) (show 6 ≤ 24 by decide) ⟨_, rfl, Is1, Gs1, Or.inr ⟨xx, rfl, by omega⟩⟩
  obtain ⟨Is1, Fs1, (⟨hv, hps1⟩ | ⟨xx, hv, hps1⟩)⟩ := hq
  rotate_left
  · cases hv
  cases hv
  have Gs1 := fm_tq F Fs1 rfl rfl
  show WS k 5 [(0, .ref (A 0)), (1, .int (Int32.ofInt x)), (2, .int (Int32.ofInt y)), (3, .int (Int32.ofInt z)), (4, .int (Int32.ofInt w))] [] (Wd A dT s1) 1 6
  refine z_aload_n X (x := A 0) rfl (List.Mem.head _) (z_load_n X (x := y) rfl (List.Mem.tail _ (List.Mem.tail _ (List.Mem.head _))) (z_const X rfl (z_bipush X rfl (z_callV X 0 (rm := rmN 184) (As := [.int (Int32.ofInt y), .int (Int32.ofInt 0), .int (Int32.ofInt 8)]) (st := []) rfl rfl (by decide) rfl (by rw [E.1, E.2.1, E.2.2.1]; exact cs_needWithin G Is1 (by first | exact ⟨p1.1, p1.2⟩ | omega) (by first | exact ⟨by decide, by decide⟩ | omega) (by first | exact ⟨by decide, by decide⟩ | omega)) ⟨by rw [E.2.2.2]; exact (show (rmN 184).frames + 1 ≤ (rmN 170).frames by decide), by rw [E.2.2.2]; exact (show 8 + (mNL (miB 184) + 11) + (rmN 184).locals ≤ (rmN 170).locals by decide), by rw [E.2.2.2]; exact (show 1 + 1 ≤ 4 by decide), by rw [E.2.2.2]; exact (show 6 + 6 ≤ 24 by decide)⟩ (Nat.le_of_ble_eq_true rfl) (fun vv s3 hq => ?_) (fun ee s3 hq => ?_)))))
  rotate_left
  · obtain ⟨Is3, Fs3, (⟨hv, hps3⟩ | ⟨xx, hv, hps3⟩)⟩ := hq
    · cases hv
    · cases hv
      have Gs3 := fm_tq Gs1 Fs3 rfl rfl
      exact x_out X.1 q (fun x hx => (hXt x hx).elim) (show (1 + 1) ≤ 4 by decide) (show (6 + 6) ≤ 24 by decide) ⟨_, rfl, Is3, Gs3, Or.inr ⟨xx, rfl, by first | (clear hps1; omega) | omega⟩⟩
  obtain ⟨Is3, Fs3, (⟨hv, hps3⟩ | ⟨xx, hv, hps3⟩)⟩ := hq
  rotate_left
  · cases hv
  cases hv
  have Gs3 := fm_tq Gs1 Fs3 rfl rfl
  show WS k 13 [(0, .ref (A 0)), (1, .int (Int32.ofInt x)), (2, .int (Int32.ofInt y)), (3, .int (Int32.ofInt z)), (4, .int (Int32.ofInt w))] [] (Wd A dT s3) (1 + 1) (6 + 6)
  refine z_aload_n X (x := A 0) rfl (List.Mem.head _) (z_load_n X (x := z) rfl (List.Mem.tail _ (List.Mem.tail _ (List.Mem.tail _ (List.Mem.head _)))) (z_const X rfl (z_bipush X rfl (z_callV X 0 (rm := rmN 184) (As := [.int (Int32.ofInt z), .int (Int32.ofInt 0), .int (Int32.ofInt 8)]) (st := []) rfl rfl (by decide) rfl (by rw [E.1, E.2.1, E.2.2.1]; exact cs_needWithin G Is3 (by first | exact ⟨p2.1, p2.2⟩ | omega) (by first | exact ⟨by decide, by decide⟩ | omega) (by first | exact ⟨by decide, by decide⟩ | omega)) ⟨by rw [E.2.2.2]; exact (show (rmN 184).frames + 1 ≤ (rmN 170).frames by decide), by rw [E.2.2.2]; exact (show 8 + (mNL (miB 184) + 11) + (rmN 184).locals ≤ (rmN 170).locals by decide), by rw [E.2.2.2]; exact (show (1 + 1) + 1 ≤ 4 by decide), by rw [E.2.2.2]; exact (show (6 + 6) + 6 ≤ 24 by decide)⟩ (Nat.le_of_ble_eq_true rfl) (fun vv s5 hq => ?_) (fun ee s5 hq => ?_)))))
  rotate_left
  · obtain ⟨Is5, Fs5, (⟨hv, hps5⟩ | ⟨xx, hv, hps5⟩)⟩ := hq
    · cases hv
    · cases hv
      have Gs5 := fm_tq Gs3 Fs5 rfl rfl
      exact x_out X.1 q (fun x hx => (hXt x hx).elim) (show ((1 + 1) + 1) ≤ 4 by decide) (show ((6 + 6) + 6) ≤ 24 by decide) ⟨_, rfl, Is5, Gs5, Or.inr ⟨xx, rfl, by first | (clear hps3 hps1; omega) | (clear hps1; omega) | omega⟩⟩
  obtain ⟨Is5, Fs5, (⟨hv, hps5⟩ | ⟨xx, hv, hps5⟩)⟩ := hq
  rotate_left
  · cases hv
  cases hv
  have Gs5 := fm_tq Gs3 Fs5 rfl rfl
  show WS k 21 [(0, .ref (A 0)), (1, .int (Int32.ofInt x)), (2, .int (Int32.ofInt y)), (3, .int (Int32.ofInt z)), (4, .int (Int32.ofInt w))] [] (Wd A dT s5) ((1 + 1) + 1) ((6 + 6) + 6)
  refine z_aload_n X (x := A 0) rfl (List.Mem.head _) (z_load X (x := w) rfl (List.Mem.tail _ (List.Mem.tail _ (List.Mem.tail _ (List.Mem.tail _ (List.Mem.head _))))) (z_bipush X rfl (z_bipush X rfl (z_callV X 0 (rm := rmN 184) (As := [.int (Int32.ofInt w), .int (Int32.ofInt (-2)), .int (Int32.ofInt 11)]) (st := []) rfl rfl (by decide) rfl (by rw [E.1, E.2.1, E.2.2.1]; exact cs_needWithin G Is5 (by first | exact ⟨p3.1, p3.2⟩ | omega) (by first | exact ⟨by decide, by decide⟩ | omega) (by first | exact ⟨by decide, by decide⟩ | omega)) ⟨by rw [E.2.2.2]; exact (show (rmN 184).frames + 1 ≤ (rmN 170).frames by decide), by rw [E.2.2.2]; exact (show 8 + (mNL (miB 184) + 11) + (rmN 184).locals ≤ (rmN 170).locals by decide), by rw [E.2.2.2]; exact (show ((1 + 1) + 1) + 1 ≤ 4 by decide), by rw [E.2.2.2]; exact (show ((6 + 6) + 6) + 6 ≤ 24 by decide)⟩ (Nat.le_of_ble_eq_true rfl) (fun vv s7 hq => ?_) (fun ee s7 hq => ?_)))))
  rotate_left
  · obtain ⟨Is7, Fs7, (⟨hv, hps7⟩ | ⟨xx, hv, hps7⟩)⟩ := hq
    · cases hv
    · cases hv
      have Gs7 := fm_tq Gs5 Fs7 rfl rfl
      exact x_out X.1 q (fun x hx => (hXt x hx).elim) (show (((1 + 1) + 1) + 1) ≤ 4 by decide) (show (((6 + 6) + 6) + 6) ≤ 24 by decide) ⟨_, rfl, Is7, Gs7, Or.inr ⟨xx, rfl, by first | (clear hps5 hps3 hps1; omega) | (clear hps3 hps1; omega) | omega⟩⟩
  obtain ⟨Is7, Fs7, (⟨hv, hps7⟩ | ⟨xx, hv, hps7⟩)⟩ := hq
  rotate_left
  · cases hv
  cases hv
  have Gs7 := fm_tq Gs5 Fs7 rfl rfl
  show WS k 31 [(0, .ref (A 0)), (1, .int (Int32.ofInt x)), (2, .int (Int32.ofInt y)), (3, .int (Int32.ofInt z)), (4, .int (Int32.ofInt w))] [] (Wd A dT s7) (((1 + 1) + 1) + 1) (((6 + 6) + 6) + 6)
  refine z_aload_n X (x := A 0) rfl (List.Mem.head _) (s_getR X 0 rfl (c518_ok rfl) rfl rfl (z_load_n X (x := x) rfl (List.Mem.tail _ (List.Mem.head _)) (z_callV X 67 (rm := rmN 89) (As := [.int (Int32.ofInt x)]) (st := []) rfl rfl (by decide) rfl (by rw [E.1, E.2.1, E.2.2.1]; exact c8_findHits_67 G Is7 (by first | exact ⟨hps1.1, hps1.2⟩ | omega)) ⟨by rw [E.2.2.2]; exact (show (rmN 89).frames + 1 ≤ (rmN 170).frames by decide), by rw [E.2.2.2]; exact (show 8 + (mNL (miB 89) + 11) + (rmN 89).locals ≤ (rmN 170).locals by decide), by rw [E.2.2.2]; exact (show (((1 + 1) + 1) + 1) + 0 ≤ 4 by decide), by rw [E.2.2.2]; exact (show (((6 + 6) + 6) + 6) + 0 ≤ 24 by decide)⟩ (Nat.le_of_ble_eq_true rfl) (fun vv s9 hq => ?_) (fun ee s9 hq => ?_))))
  rotate_left
  · obtain ⟨Is9, Fs9, hv, hps9⟩ := hq; cases hv
  obtain ⟨Is9, Fs9, hv, hps9⟩ := hq
  cases hv
  have Gs9 := fm_tq Gs7 Fs9 rfl rfl
  show WS k 39 [(0, .ref (A 0)), (1, .int (Int32.ofInt x)), (2, .int (Int32.ofInt y)), (3, .int (Int32.ofInt z)), (4, .int (Int32.ofInt w))] [] (Wd A dT s9) (((1 + 1) + 1) + 1) (((6 + 6) + 6) + 6)
  refine z_load X (x := w) rfl (List.Mem.tail _ (List.Mem.tail _ (List.Mem.tail _ (List.Mem.tail _ (List.Mem.head _))))) (z_bipush X rfl (z_icmp_ne X (t := 54) rfl rfl ⟨by first | exact p3.1 | omega, by first | exact p3.2 | omega⟩ (by decide) (fun g11 => ?_) (fun g11 => ?_)))
  ·
    refine z_aload_n X (x := A 0) rfl (List.Mem.head _) (s_getR X 0 rfl (c518_ok rfl) rfl rfl (z_load_n X (x := y) rfl (List.Mem.tail _ (List.Mem.tail _ (List.Mem.head _))) (z_load_n X (x := z) rfl (List.Mem.tail _ (List.Mem.tail _ (List.Mem.tail _ (List.Mem.head _)))) (z_callV X 67 (rm := rmN 91) (As := [.int (Int32.ofInt y), .int (Int32.ofInt z)]) (st := []) rfl rfl (by decide) rfl (by rw [E.1, E.2.1, E.2.2.1]; exact c8_solve_67 G GR Is9 (by first | exact ⟨p1.1, p1.2⟩ | omega) (by first | exact ⟨p2.1, p2.2⟩ | omega) (by first | exact hps9 | omega)) ⟨by rw [E.2.2.2]; exact (show (rmN 91).frames + 1 ≤ (rmN 170).frames by decide), by rw [E.2.2.2]; exact (show 8 + (mNL (miB 91) + 11) + (rmN 91).locals ≤ (rmN 170).locals by decide), by rw [E.2.2.2]; exact (show (((1 + 1) + 1) + 1) + 0 ≤ 4 by decide), by rw [E.2.2.2]; exact (show (((6 + 6) + 6) + 6) + 0 ≤ 24 by decide)⟩ (Nat.le_of_ble_eq_true rfl) (fun vv s12 hq => ?_) (fun ee s12 hq => ?_)))))
    rotate_left
    · obtain ⟨Is12, Fs12, e13, hv, hrs12, hps12⟩ := hq; cases hv
    obtain ⟨Is12, Fs12, e13, hv, hrs12, hps12⟩ := hq
    cases hv
    have Gs12 := fm_ts Gs9 Fs12 (by decide) (by decide +kernel)
    show WS k 63 [(0, .ref (A 0)), (1, .int (Int32.ofInt x)), (2, .int (Int32.ofInt y)), (3, .int (Int32.ofInt z)), (4, .int (Int32.ofInt w))] [.int (Int32.ofInt e13)] (Wd A dT s12) (((1 + 1) + 1) + 1) (((6 + 6) + 6) + 6)
    refine z_if_ne X (t := 68) rfl rfl hrs12 (fun g14 => ?_) (fun g14 => ?_)
    ·
      refine z_load X (x := w) rfl (List.Mem.tail _ (List.Mem.tail _ (List.Mem.tail _ (List.Mem.tail _ (List.Mem.head _))))) (z_const X rfl (z_icmp_ne X (t := 84) rfl rfl ⟨by first | exact p3.1 | omega, by first | exact p3.2 | omega⟩ (by decide) (fun g15 => ?_) (fun g15 => ?_)))
      ·
        refine z_aload_n X (x := A 0) rfl (List.Mem.head _) (s_getR X 0 rfl (c518_ok rfl) rfl rfl (z_load X (x := w) rfl (List.Mem.tail _ (List.Mem.tail _ (List.Mem.tail _ (List.Mem.tail _ (List.Mem.head _))))) (z_callV X 67 (rm := rmN 90) (As := [.int (Int32.ofInt w)]) (st := []) rfl rfl (by decide) rfl (by rw [E.1, E.2.1, E.2.2.1]; exact c8_mendOf_67 G Is12 (by first | exact ⟨p3.1, p3.2⟩ | omega)) ⟨by rw [E.2.2.2]; exact (show (rmN 90).frames + 1 ≤ (rmN 170).frames by decide), by rw [E.2.2.2]; exact (show 8 + (mNL (miB 90) + 11) + (rmN 90).locals ≤ (rmN 170).locals by decide), by rw [E.2.2.2]; exact (show (((1 + 1) + 1) + 1) + 0 ≤ 4 by decide), by rw [E.2.2.2]; exact (show (((6 + 6) + 6) + 6) + 0 ≤ 24 by decide)⟩ (Nat.le_of_ble_eq_true rfl) (fun vv s16 hq => ?_) (fun ee s16 hq => ?_))))
        rotate_left
        · obtain ⟨Is16, Fs16, e17, hv, hrs16, hps16⟩ := hq; cases hv
        obtain ⟨Is16, Fs16, e17, hv, hrs16, hps16⟩ := hq
        cases hv
        have Gs16 := fm_tq Gs12 Fs16 rfl rfl
        show WS k 93 [(0, .ref (A 0)), (1, .int (Int32.ofInt x)), (2, .int (Int32.ofInt y)), (3, .int (Int32.ofInt z)), (4, .int (Int32.ofInt w))] [.int (Int32.ofInt e17)] (Wd A dT s16) (((1 + 1) + 1) + 1) (((6 + 6) + 6) + 6)
        exact w_iret X.1 q hRt rfl (ax_d X (show cdA 170 93 = some (.ireturn, 1, 0, 0, 0) from rfl)) (show (((1 + 1) + 1) + 1) ≤ 4 by decide) (show (((6 + 6) + 6) + 6) ≤ 24 by decide) ⟨_, rfl, Is16, Gs16, Or.inl ⟨e17, rfl, hrs16, trivial⟩⟩
      ·
        refine z_aload_n X (x := A 0) rfl (List.Mem.head _) (s_getR X 0 rfl (c518_ok rfl) rfl rfl (z_getI X 67 rfl (c518_ok rfl) rfl rfl ?_))
        have b18 := bi_42 Is12
        refine z_goto X (t := 93) rfl rfl ?_
        exact w_iret X.1 q hRt rfl (ax_d X (show cdA 170 93 = some (.ireturn, 1, 0, 0, 0) from rfl)) (show (((1 + 1) + 1) + 1) ≤ 4 by decide) (show (((6 + 6) + 6) + 6) ≤ 24 by decide) ⟨_, rfl, Is12, Gs12, Or.inl ⟨(iI s12 42), rfl, (rng_to _), trivial⟩⟩
    ·
      refine z_const X rfl ?_
      exact w_iret X.1 q hRt rfl (ax_d X (show cdA 170 67 = some (.ireturn, 1, 0, 0, 0) from rfl)) (show (((1 + 1) + 1) + 1) ≤ 4 by decide) (show (((6 + 6) + 6) + 6) ≤ 24 by decide) ⟨_, rfl, Is12, Gs12, Or.inl ⟨(-1), rfl, (by decide), trivial⟩⟩
  ·
    refine z_aload_n X (x := A 0) rfl (List.Mem.head _) (s_getR X 0 rfl (c518_ok rfl) rfl rfl (z_getI X 67 rfl (c518_ok rfl) rfl rfl ?_))
    have b19 := bi_40 Is9
    exact w_iret X.1 q hRt rfl (ax_d X (show cdA 170 53 = some (.ireturn, 1, 0, 0, 0) from rfl)) (show (((1 + 1) + 1) + 1) ≤ 4 by decide) (show (((6 + 6) + 6) + 6) ≤ 24 by decide) ⟨_, rfl, Is9, Gs9, Or.inl ⟨(iI s9 40), rfl, (rng_to _), trivial⟩⟩
end M83
end
section
theorem oq_0e812846 {a0 : Int} (h0 : a0 ≤ 1) (h1 : ((0 ≠ 0 ∧ a0 = 0) ∨ (0 = 0 ∧ a0 = 1))) : a0 = 1 := by omega
theorem oq_fbb67bea {a0 a1 : Int} (h0 : a0 < a1) (h1 : a1 ≤ 100) : a0 ≤ 2147483647 := by omega
theorem oq_9d8ce83d {a0 a1 : Int} (h0 : a0 < a1) (h1 : 0 ≤ a0) : (-2147483648) ≤ a1 := by omega
theorem oq_a893734d {a0 a1 : Int} (h0 : a0 ≤ a1) (h1 : a1 ≤ 6) : a0 ≤ 2147483647 := by omega
theorem oq_3c8fd887 {a0 a1 a2 a3 a4 : Int} (h0 : a0 = a1) (h1 : a2 = a3) (h2 : (a1 - a3) = a4) : (a0 - a2) = a4 := by omega
theorem oq_b5f6b5ca {a0 a1 : Int} (h0 : a0 ≤ a1) : (-2147483648) ≤ (a1 - a0) := by omega
theorem oq_57a55da2 {a0 a1 : Int} (h0 : a0 ≤ 200) (h1 : 0 ≤ a1) : (a0 - a1) ≤ 2147483647 := by omega
/-! Texts that are constants: length, charAt; the word that stands in the text -/
def gOK (g : Nat → Int) : Prop := ∀ j, 0 ≤ g j ∧ g j ≤ 127
/-- a constant text of n signs at q -/
def StrA (s0 : State) (q n : Nat) : Prop := ∃ (v : Nat) (g : Nat → Int), n ≤ 6 ∧ gOK g ∧ va_O "java/lang/String" q (mb_F s0) s0 s0.heap ∧ va_OF "java/lang/String" "coder" "B" (.int (Int32.ofInt 0)) q (mb_F s0) s0 s0.heap ∧ va_OF "java/lang/String" "value" "[B" (.ref v) q (mb_F s0) s0 s0.heap ∧ va_T .byte v n (fun j => .int (Int32.ofInt (g j))) (mb_F s0) s0 s0.heap
/-- what the Statement gives of the JDK's statics -/
def SF0 (s0 : State) : Prop := va_Z "java/lang/String" "COMPACT_STRINGS" "Z" (.int (Int32.ofInt 1)) (mb_F s0) s0 s0.heap ∧ va_Zq "jdk/internal/util/Preconditions" "SIOOBE_FORMATTER" "Ljava/util/function/BiFunction;" (mb_F s0) s0 s0.heap
/-- the texts of the class's reading of rules: place in the pool, length -/
def txL : List (Nat × Nat) := [(74, 4), (80, 4), (101, 2), (109, 3), (111, 3), (125, 5), (127, 4), (136, 4), (138, 5), (140, 4), (142, 5), (144, 5), (146, 3), (148, 6)]
def TXs0 (s0 : State) : Prop := ∀ p ∈ txL, ∃ (t : String) (q : Nat), vk_R RX7 p.1 t q s0 ∧ StrA s0 q p.2
/-- words for a call of cn by the place idx -/
def cwX (own : String) (idx cn : Nat) (ret : Option FieldType) (n : Nat) : Prop := Cond.methodLink own idx (yA cn) ∈ gT ∧ Cond.code (yA cn) (byA cn) (mNL (miB cn)) ret ∈ gT ∧ Cond.initialized (yA cn).cls ∈ gT ∧ ((yA cn).cls ≠ "java/lang/invoke/MethodHandle" ∧ (yA cn).cls ≠ "java/lang/invoke/VarHandle" ∧ (parseMethodDescriptor (yA cn).desc).map (fun d => d.parameters.length) = some n) ∧ Cond.instanceMethod (yA cn) ∈ gT ∧ Cond.selects (yA cn).cls (yA cn) (yA cn) ∈ gT
def csX (own : String) (idx cn : Nat) (ret : Option FieldType) (n : Nat) : Prop := Cond.methodLink own idx (yA cn) ∈ gT ∧ Cond.code (yA cn) (byA cn) (mNL (miB cn)) ret ∈ gT ∧ Cond.initialized (yA cn).cls ∈ gT ∧ ((yA cn).cls ≠ "java/lang/invoke/MethodHandle" ∧ (yA cn).cls ≠ "java/lang/invoke/VarHandle" ∧ (parseMethodDescriptor (yA cn).desc).map (fun d => d.parameters.length) = some n) ∧ Cond.static (yA cn) ∈ gT
theorem cw_len : cwX (yA 131).cls 62 302 (some .int) 0 := ⟨chkW_ok (p := (5, 10)) (by decide +kernel), chkW_ok (p := (5, 13)) (by decide +kernel), chkW_ok (p := (1, 21)) (by decide +kernel), (by decide +kernel), chkW_ok (p := (5, 11)) (by decide +kernel), chkW_ok (p := (5, 12)) (by decide +kernel)⟩
theorem cw_cha : cwX (yA 131).cls 68 303 (some .char) 1 := ⟨chkW_ok (p := (5, 20)) (by decide +kernel), chkW_ok (p := (5, 23)) (by decide +kernel), chkW_ok (p := (1, 21)) (by decide +kernel), (by decide +kernel), chkW_ok (p := (5, 21)) (by decide +kernel), chkW_ok (p := (5, 22)) (by decide +kernel)⟩
theorem cw_cod : cwX (yA 302).cls 335 304 (some .byte) 0 := ⟨chkW_ok (p := (5, 14)) (by decide +kernel), chkW_ok (p := (5, 17)) (by decide +kernel), chkW_ok (p := (1, 21)) (by decide +kernel), (by decide +kernel), chkW_ok (p := (5, 15)) (by decide +kernel), chkW_ok (p := (5, 16)) (by decide +kernel)⟩
theorem cw_lat : cwX (yA 303).cls 492 305 (some .boolean) 0 := ⟨chkW_ok (p := (5, 24)) (by decide +kernel), chkW_ok (p := (5, 27)) (by decide +kernel), chkW_ok (p := (1, 21)) (by decide +kernel), (by decide +kernel), chkW_ok (p := (5, 25)) (by decide +kernel), chkW_ok (p := (5, 26)) (by decide +kernel)⟩
theorem cw_chk : csX (yA 307).cls 9 306 none 2 := ⟨chkW_ok (p := (5, 31)) (by decide +kernel), chkW_ok (p := (5, 33)) (by decide +kernel), chkW_ok (p := (1, 21)) (by decide +kernel), (by decide +kernel), chkW_ok (p := (5, 32)) (by decide +kernel)⟩
theorem cw_lch : csX (yA 303).cls 495 307 (some .char) 2 := ⟨chkW_ok (p := (5, 28)) (by decide +kernel), chkW_ok (p := (5, 30)) (by decide +kernel), chkW_ok (p := (1, 22)) (by decide +kernel), (by decide +kernel), chkW_ok (p := (5, 29)) (by decide +kernel)⟩
theorem cw_pre : csX (yA 306).cls 1059 313 (some .int) 3 := ⟨chkW_ok (p := (5, 36)) (by decide +kernel), chkW_ok (p := (5, 38)) (by decide +kernel), chkW_ok (p := (1, 23)) (by decide +kernel), (by decide +kernel), chkW_ok (p := (5, 37)) (by decide +kernel)⟩
section ZK
variable {k : kx_T} {mn pc : Nat} {dT : Nat → ClassId} {lv : List (Nat × Value)} {st : List Value} {ws : va_W} {ce sl a b a' b' q1 : Nat} {z z' : Int}
theorem w_getsK (X : AX k mn dT) {C n d : String} {v : Value} {idx : Nat} (hZ : va_Z C n d v (mb_F (kS0 k)) (kS0 k) (kS0 k).heap) (hl : Cond.fieldLink (kOwn k) idx C n d ∈ gT) (dd : decode (kCc k) pc = .ok (.getstatic idx, 3)) (g : WS k (pc + 3) lv (v :: st) ws ce sl) : WS k pc lv st ws ce sl :=
  fun H locs ls hP hD hS hlv => va_gets (C := C) (ref := C) (own := kOwn k) (index := idx) (A := kF k) X.1.1 X.1.2.1 ((hZ.moved X.1.2.2.2.2.1.alike).kept (fun a ha _ => X.1.2.2.2.2.2.2.2.1 a ha)) hS X.1.2.2.2.1 (kx_wd X.1 _ hl) (fun x h => h) dd (g H locs ls hP hD hS hlv)
theorem w_getfK (X : AX k mn dT) {C n d : String} {v : Value} {idx q : Nat} (hE : va_OF C n d v q (mb_F (kS0 k)) (kS0 k) (kS0 k).heap) (hl : Cond.fieldLink (kOwn k) idx C n d ∈ gT) (dd : decode (kCc k) pc = .ok (.getfield idx, 3)) (g : WS k (pc + 3) lv (v :: st) ws ce sl) : WS k pc lv (.ref q :: st) ws ce sl :=
  fun H locs ls hP hD hS hlv => vk_getf (o := C) (ref := C) (own := kOwn k) (index := idx) (A := kF k) X.1.1 X.1.2.1 ((hE.moved X.1.2.2.2.2.1.alike).kept (fun a ha _ => X.1.2.2.2.2.2.2.2.1 a ha)) hS X.1.2.2.2.1 (kx_wd X.1 _ hl) (fun x h => h) dd (g H locs ls hP hD hS hlv)
theorem w_ldcK (X : AX k mn dT) {tx : String} {idx q : Nat} (hR : vk_R (kOwn k) idx tx q (kS0 k)) (dd : decode (kCc k) pc = .ok (.ldc idx, 2)) (g : WS k (pc + 2) lv (.ref q :: st) ws ce sl) : WS k pc lv st ws ce sl :=
  fun H locs ls hP hD hS hlv => va_ldcS (own := kOwn k) (index := idx) X.1.1 X.1.2.1 X.1.2.2.2.1 (hR.warm X.1.2.2.2.2.1) dd (g H locs ls hP hD hS hlv)
theorem w_255 (X : AX k mn dT) {e : Int} (he : 0 ≤ e ∧ e ≤ 127) (d1 : decode (kCc k) pc = .ok (.sipush 255, 3)) (d2 : decode (kCc k) (pc + 3) = .ok (.iand, 1)) (d3 : decode (kCc k) (pc + 3 + 1) = .ok (.i2c, 1)) (g : WS k (pc + 3 + 1 + 1) lv (.int (Int32.ofInt e) :: st) ws ce sl) : WS k pc lv (.int (Int32.ofInt e) :: st) ws ce sl := by
  refine w_sipush X.1 d1 rfl (w_iand X.1 d2 ?_)
  have h9 : ∀ m : Nat, m < 128 → ((Int32.ofInt (m : Int) &&& (Int16.ofInt 255).toInt32).toUInt32 % 65536).toInt32 = Int32.ofInt (m : Int) := by decide +kernel
  have h8 := h9 e.toNat (by omega)
  rw [Int.toNat_of_nonneg he.1] at h8
  exact fun H locs ls hP hD hS hlv => lv_i2c X.1.1 X.1.2.1 d3 h8 (g H locs ls hP hD hS hlv)
theorem nar_ch {e : Int} (he : 0 ≤ e ∧ e ≤ 127) : narrow .char (.int (Int32.ofInt e)) = .int (Int32.ofInt e) := by
  have h9 : ∀ m : Nat, m < 128 → narrow .char (.int (Int32.ofInt (m : Int))) = .int (Int32.ofInt (m : Int)) := by decide +kernel
  have h8 := h9 e.toNat (by omega)
  rw [Int.toNat_of_nonneg he.1] at h8
  exact h8
theorem shr0 {n : Nat} (h : n ≤ 6) : Int32.ofInt (n : Int) >>> (Int32.ofInt 0 &&& 31) = Int32.ofInt (n : Int) := by
  have : n = 0 ∨ n = 1 ∨ n = 2 ∨ n = 3 ∨ n = 4 ∨ n = 5 ∨ n = 6 := by omega
  rcases this with e | e | e | e | e | e | e <;> subst e <;> decide +kernel
theorem len_of {n : Nat} (h : n ≤ 6) : Int32.ofNat n = Int32.ofInt (n : Int) := by
  have : n = 0 ∨ n = 1 ∨ n = 2 ∨ n = 3 ∨ n = 4 ∨ n = 5 ∨ n = 6 := by omega
  rcases this with e | e | e | e | e | e | e <;> subst e <;> decide +kernel
theorem y_tlen (X : AX k mn dT) {ty : FieldType} {t N : Nat} {f : Nat → Value} (dd : decode (kCc k) pc = .ok (.arraylength, 1)) (hT : va_T ty t N f (mb_F (kS0 k)) (kS0 k) (kS0 k).heap) {n : Int} (hn : Int32.ofNat N = Int32.ofInt n) (g : WS k (pc + 1) lv (.int (Int32.ofInt n) :: st) ws ce sl) : WS k pc lv (.ref t :: st) ws ce sl :=
  fun H locs ls hP hD hS hlv => va_tlen X.1.1 X.1.2.1 (kx_T0 X.1 hT) hS hn dd (g H locs ls hP hD hS hlv)
theorem y_if_eq (C : kx_ok k) {x off : Int} {t : Nat} (d : decode (kCc k) pc = .ok (.ifCond .eq off, 3)) (ht : (pc : Int) + off = (t : Int)) (hx : rng x) (h1 : x = 0 → WS k t lv st ws ce sl) (h2 : x ≠ 0 → WS k (pc + 3) lv st ws ce sl) : WS k pc lv (.int (Int32.ofInt x) :: st) ws ce sl := w_if_eq C d ht (fun q => h1 ((zi_eq hx rng_0).mp q)) (fun q => h2 (fun z => q ((zi_eq hx rng_0).mpr z)))
theorem y_if_ne (C : kx_ok k) {x off : Int} {t : Nat} (d : decode (kCc k) pc = .ok (.ifCond .ne off, 3)) (ht : (pc : Int) + off = (t : Int)) (hx : rng x) (h1 : x ≠ 0 → WS k t lv st ws ce sl) (h2 : x = 0 → WS k (pc + 3) lv st ws ce sl) : WS k pc lv (.int (Int32.ofInt x) :: st) ws ce sl := w_if_ne C d ht (fun q => h1 (fun z => q ((zi_eq hx rng_0).mpr z))) (fun q => h2 ((zi_eq hx rng_0).mp q))
theorem y_if_lt (C : kx_ok k) {x off : Int} {t : Nat} (d : decode (kCc k) pc = .ok (.ifCond .lt off, 3)) (ht : (pc : Int) + off = (t : Int)) (hx : rng x) (h1 : x < 0 → WS k t lv st ws ce sl) (h2 : 0 ≤ x → WS k (pc + 3) lv st ws ce sl) : WS k pc lv (.int (Int32.ofInt x) :: st) ws ce sl := w_if_lt C d ht (fun q => h1 ((zi_lt hx rng_0).mp q)) (fun q => h2 (Int.not_lt.mp (fun z => q ((zi_lt hx rng_0).mpr z))))
theorem y_icmp_lt (C : kx_ok k) {x y off : Int} {t : Nat} (d : decode (kCc k) pc = .ok (.if_icmp .lt off, 3)) (ht : (pc : Int) + off = (t : Int)) (hx : rng x) (hy : rng y) (h1 : x < y → WS k t lv st ws ce sl) (h2 : y ≤ x → WS k (pc + 3) lv st ws ce sl) : WS k pc lv (.int (Int32.ofInt y) :: .int (Int32.ofInt x) :: st) ws ce sl := w_icmp_lt C d ht (fun q => h1 ((zi_lt hx hy).mp q)) (fun q => h2 (Int.not_lt.mp (fun z => q ((zi_lt hx hy).mpr z))))
/-- a contract of a method of the JDK's, its answer's type told -/
def CTR (l : Launch) (s0 : State) (D : va_G) (A : Nat → Nat) (dT : Nat → ClassId) (mn : Nat) (ret : Option FieldType) (rm : Room) (vals : List Value) (s : PS) (Q : mb_O → PS → Prop) : Prop :=
  MB l s0 D (yA mn) (.code (yA mn) (byA mn) (mNL (miB mn)) ret) rm vals (Wd A dT s) (fun o ws => ∃ s', ws = Wd A dT s' ∧ Q o s')
theorem ct_ofR {l : Launch} {s0 : State} {D : va_G} {tys : List (ClassId × FieldType)} {a0 : Array Value} {A : Nat → Nat} {s : PS} (G : GX l s0 D tys a0 dT) {mn : Nat} {ret : Option FieldType} {rm : Room} {vals : List Value} {Q : mb_O → PS → Prop} (hy : plainName (yA mn).cls = true) (hn : (lg_sl vals).length ≤ mNL (miB mn))
    (body : ∀ k, AX k mn dT → (kL k = l ∧ kS0 k = s0 ∧ kD k = D ∧ kR k = rm) → kTy k = tys → (kMe k).sig.returnType = ret → (∀ x ∈ (kC k).exceptionTable.toList, False) → kx_end k (fun o ws => ∃ s', ws = Wd A dT s' ∧ Q o s') rm.cells rm.slots → WS k 0 (lv_args 0 vals) [] (Wd A dT s) 0 0) : CTR l s0 D A dT mn ret rm vals s Q :=
  mb_of G.1 hy hn (fun k C e1 e2 e3 e4 e5 e6 e7 e8 e9 e10 e11 qe => body k ⟨C, ⟨e7, e6, e8⟩, fun t => by rw [e5]; exact G.2.1 t, by rw [e3]; exact G.2.2⟩ ⟨e1, e3, e4, e2⟩ e5 e9 e11 qe)
variable {A : Nat → Nat} {s : PS} {Q : mb_O → PS → Prop} {rm : Room} {ret : Option FieldType}
/-- a call on an object that was there before -/
theorem z_callK (X : AX k mn dT) {idx cn q : Nat} {As : List Value} (dd : decode (kCc k) pc = .ok (.invokevirtual idx, 3)) (W : cwX (yA mn).cls idx cn ret As.length) (hO : va_O (yA cn).cls q (mb_F (kS0 k)) (kS0 k) (kS0 k).heap) (hM : CTR (kL k) (kS0 k) (kD k) A dT cn ret rm (.ref q :: As) s Q) (hr : rmK k cn rm ce sl) (hw : (st.map fun v => v.category).sum ≤ 8)
    (h1 : ∀ v s', Q (.inl v) s' → WS k (pc + 3) lv (v.toList ++ st) (Wd A dT s') (ce + rm.cells) (sl + rm.slots)) (h2 : ∀ E s', Q (.inr E) s' → WX k pc lv st (Wd A dT s') E (ce + rm.cells) (sl + rm.slots)) : WS k pc lv (As.reverse ++ .ref q :: st) (Wd A dT s) ce sl := by
  obtain ⟨w1, w2, w3, w4, w5, w6⟩ := W
  obtain ⟨r1, r2, r3⟩ := hr
  have C := X.1
  intro H locs ls hP hD hS hl
  obtain ⟨cell, c1, c2, c3, -⟩ := ((hO.moved C.2.2.2.2.1.alike).kept (fun a ha _ => C.2.2.2.2.2.2.2.1 a ha)).kept (A := kF k) hS.2.1
  refine w_run (K := fun o ws => ∃ s', ws = Wd A dT s' ∧ Q o s') hl hS (vx_runV (C := (yA cn).cls) (As := As) (rest := st) ⟨C.1, C.2.1, C.2.2.1, C.2.2.2.1, kx_wd C⟩ hM ⟨cb_B C ⟨by rw [X.2.1.2.1]; exact w1, w2, w3, w4, r1, r2⟩, kx_wd C _ w5, kx_wd C _ w6⟩ ⟨mb_blind, ⟨cell, c1, c2, c3⟩, fun U hU hW => ⟨rfl, kx_B C hP hD hS U hU hW⟩⟩ rfl rfl hl.1 rfl ?_ dd r3) (fun v ws' hk => hk.elim (fun s' hq => by rw [hq.1]; exact h1 v s' hq.2)) (fun E ws' hk => hk.elim (fun s' hq => by rw [hq.1]; exact h2 E s' hq.2))
  simpa using hw
theorem z_callSK (X : AX k mn dT) {idx cn : Nat} {As : List Value} (dd : decode (kCc k) pc = .ok (.invokestatic idx, 3)) (W : csX (yA mn).cls idx cn ret As.length) (hM : CTR (kL k) (kS0 k) (kD k) A dT cn ret rm As s Q) (hr : rmK k cn rm ce sl) (hw : (st.map fun v => v.category).sum ≤ 8)
    (h1 : ∀ v s', Q (.inl v) s' → WS k (pc + 3) lv (v.toList ++ st) (Wd A dT s') (ce + rm.cells) (sl + rm.slots)) (h2 : ∀ E s', Q (.inr E) s' → WX k pc lv st (Wd A dT s') E (ce + rm.cells) (sl + rm.slots)) : WS k pc lv (As.reverse ++ st) (Wd A dT s) ce sl := by
  obtain ⟨w1, w2, w3, w4, w5⟩ := W
  obtain ⟨r1, r2, r3⟩ := hr
  exact w_callS (K := fun o ws => ∃ s', ws = Wd A dT s' ∧ Q o s') (rm := rm) X.1 ⟨by rw [X.2.1.2.1]; exact w1, w2, w3, w4, r1, r2⟩ w5 hM rfl hw r3 dd (fun v ws' hk => hk.elim (fun s' hq => by rw [hq.1]; exact h1 v s' hq.2)) (fun E ws' hk => hk.elim (fun s' hq => by rw [hq.1]; exact h2 E s' hq.2))
end ZK
section M84
variable {l : Launch} {s0 : State} {D : va_G} {tys : List (ClassId × FieldType)} {a0 : Array Value} {A : Nat → Nat} {dT : Nat → ClassId} {s : PS}
set_option maxRecDepth 4000 in
theorem j_coder (G : GX l s0 D tys a0 dT) (SF : SF0 s0) {q1 n1 : Nat} (hs1 : StrA s0 q1 n1) (I : Bd s)  : CTR l s0 D A dT 304 (some .byte) (rmN 304) [.ref q1] s (fun o t => s = t ∧ ∃ e, o = .inl (some (.int (Int32.ofInt e))) ∧ rng e ∧ (e = 0)) := by
  refine ct_ofR G (by decide) (Nat.le_of_ble_eq_true rfl) (fun k X E ET hRt hXt q => ?_)
  show WS k 0 [(0, .ref q1)] [] _ 0 0
  have F : Fm [] [] s s := fm_rf _ _ s
  obtain ⟨q2, g1, hn1, hg1, hO1, hc1, hv1, hT1⟩ := id hs1
  have hO1k := hO1
  have hc1k := hc1
  have hv1k := hv1
  have hT1k := hT1
  have hZ1k := SF.1
  rw [← E.2.1] at hO1k hc1k hv1k hT1k hZ1k
  refine w_getsK X hZ1k (by rw [X.2.1.2.1]; exact chkW_ok (p := (5, 18)) (by decide +kernel)) (show decode (kCc k) 0 = .ok (.getstatic 38, 3) by rw [X.2.1.1]; decide +kernel) (y_if_eq X.1 (t := 13) (show decode (kCc k) 3 = .ok (.ifCond .eq 10, 3) by rw [X.2.1.1]; decide +kernel) (by decide) (by decide) (fun g1 => ?_) (fun g1 => ?_))
  ·
    refine w_iconst X.1 (show decode (kCc k) 13 = .ok (.iconst 1, 1) by rw [X.2.1.1]; decide +kernel) ?_
    exact w_iret X.1 q hRt (by decide +kernel) (show decode (kCc k) 14 = .ok (.ireturn, 1) by rw [X.2.1.1]; decide +kernel) (Nat.zero_le _) (Nat.zero_le _) ⟨_, rfl, rfl, 1, rfl, (by decide), by omega⟩
  ·
    refine w_aload_n X.1 (x := q1) (show decode (kCc k) 6 = .ok (.aload_n 0, 1) by rw [X.2.1.1]; decide +kernel) (List.Mem.head _) (w_getfK X hc1k (by rw [X.2.1.2.1]; exact chkW_ok (p := (11, 7)) (by decide +kernel)) (show decode (kCc k) 7 = .ok (.getfield 15, 3) by rw [X.2.1.1]; decide +kernel) (w_goto X.1 (t := 14) (show decode (kCc k) 10 = .ok (.goto 4, 3) by rw [X.2.1.1]; decide +kernel) (by decide) ?_))
    exact w_iret X.1 q hRt (by decide +kernel) (show decode (kCc k) 14 = .ok (.ireturn, 1) by rw [X.2.1.1]; decide +kernel) (Nat.zero_le _) (Nat.zero_le _) ⟨_, rfl, rfl, 0, rfl, (by decide), by decide⟩
set_option maxRecDepth 4000 in
theorem j_lat1 (G : GX l s0 D tys a0 dT) (SF : SF0 s0) {q1 n1 : Nat} (hs1 : StrA s0 q1 n1) (I : Bd s)  : CTR l s0 D A dT 305 (some .boolean) (rmN 305) [.ref q1] s (fun o t => s = t ∧ ∃ e, o = .inl (some (.int (Int32.ofInt e))) ∧ rng e ∧ (e = 1)) := by
  refine ct_ofR G (by decide) (Nat.le_of_ble_eq_true rfl) (fun k X E ET hRt hXt q => ?_)
  show WS k 0 [(0, .ref q1)] [] _ 0 0
  have F : Fm [] [] s s := fm_rf _ _ s
  obtain ⟨q2, g1, hn1, hg1, hO1, hc1, hv1, hT1⟩ := id hs1
  have hO1k := hO1
  have hc1k := hc1
  have hv1k := hv1
  have hT1k := hT1
  have hZ1k := SF.1
  rw [← E.2.1] at hO1k hc1k hv1k hT1k hZ1k
  refine w_getsK X hZ1k (by rw [X.2.1.2.1]; exact chkW_ok (p := (5, 18)) (by decide +kernel)) (show decode (kCc k) 0 = .ok (.getstatic 38, 3) by rw [X.2.1.1]; decide +kernel) (y_if_eq X.1 (t := 17) (show decode (kCc k) 3 = .ok (.ifCond .eq 14, 3) by rw [X.2.1.1]; decide +kernel) (by decide) (by decide) (fun g1 => ?_) (fun g1 => ?_))
  ·
    refine w_iconst X.1 (show decode (kCc k) 17 = .ok (.iconst 0, 1) by rw [X.2.1.1]; decide +kernel) ?_
    exact w_iret X.1 q hRt (nar_ret (by first | exact Or.inl (by decide) | omega)) (show decode (kCc k) 18 = .ok (.ireturn, 1) by rw [X.2.1.1]; decide +kernel) (Nat.zero_le _) (Nat.zero_le _) ⟨_, rfl, rfl, 0, rfl, (by decide), by omega⟩
  ·
    refine w_aload_n X.1 (x := q1) (show decode (kCc k) 6 = .ok (.aload_n 0, 1) by rw [X.2.1.1]; decide +kernel) (List.Mem.head _) (w_getfK X hc1k (by rw [X.2.1.2.1]; exact chkW_ok (p := (11, 7)) (by decide +kernel)) (show decode (kCc k) 7 = .ok (.getfield 15, 3) by rw [X.2.1.1]; decide +kernel) ?_)
    have N2 : ∀ e3 : Int, ((((0 : Int) ≠ (0 : Int)) ∧ e3 = 0) ∨ (((0 : Int) = (0 : Int)) ∧ e3 = 1)) → WS k 18 [(0, .ref q1)] [.int (Int32.ofInt e3)] (Wd A dT s) 0 0 := by
      intro e3 he3
      have re3 : 0 ≤ e3 ∧ e3 ≤ 1 := by first | (clear he3; omega) | omega
      exact w_iret X.1 q hRt (nar_ret (by first | exact oq_31e518ae re3.2 re3.1 | omega)) (show decode (kCc k) 18 = .ok (.ireturn, 1) by rw [X.2.1.1]; decide +kernel) (Nat.zero_le _) (Nat.zero_le _) ⟨_, rfl, rfl, e3, rfl, ⟨by first | exact oq_fa4e5087 re3.1 | omega, by first | exact oq_22e1e6b0 re3.2 | omega⟩, by first | exact oq_0e812846 re3.2 he3 | omega⟩
    refine y_if_ne X.1 (t := 17) (show decode (kCc k) 10 = .ok (.ifCond .ne 7, 3) by rw [X.2.1.1]; decide +kernel) (by decide) (by decide) (fun g4 => ?_) (fun g4 => ?_)
    ·
      exact w_iconst X.1 (show decode (kCc k) 17 = .ok (.iconst 0, 1) by rw [X.2.1.1]; decide +kernel) (N2 _ (Or.inl ⟨g4, rfl⟩))
    ·
      exact w_iconst X.1 (show decode (kCc k) 13 = .ok (.iconst 1, 1) by rw [X.2.1.1]; decide +kernel) (w_goto X.1 (t := 18) (show decode (kCc k) 14 = .ok (.goto 4, 3) by rw [X.2.1.1]; decide +kernel) (by decide) (N2 _ (Or.inr (⟨g4, rfl⟩))))
set_option maxRecDepth 4000 in
theorem j_len (G : GX l s0 D tys a0 dT) (SF : SF0 s0) {q1 n1 : Nat} (hs1 : StrA s0 q1 n1) (I : Bd s)  : CTR l s0 D A dT 302 (some .int) (rmN 302) [.ref q1] s (fun o t => s = t ∧ ∃ e, o = .inl (some (.int (Int32.ofInt e))) ∧ rng e ∧ (e = (n1 : Int))) := by
  refine ct_ofR G (by decide) (Nat.le_of_ble_eq_true rfl) (fun k X E ET hRt hXt q => ?_)
  show WS k 0 [(0, .ref q1)] [] _ 0 0
  have F : Fm [] [] s s := fm_rf _ _ s
  obtain ⟨q2, g1, hn1, hg1, hO1, hc1, hv1, hT1⟩ := id hs1
  have hO1k := hO1
  have hc1k := hc1
  have hv1k := hv1
  have hT1k := hT1
  have hZ1k := SF.1
  rw [← E.2.1] at hO1k hc1k hv1k hT1k hZ1k
  refine w_aload_n X.1 (x := q1) (show decode (kCc k) 0 = .ok (.aload_n 0, 1) by rw [X.2.1.1]; decide +kernel) (List.Mem.head _) (w_getfK X hv1k (by rw [X.2.1.2.1]; exact chkW_ok (p := (11, 6)) (by decide +kernel)) (show decode (kCc k) 1 = .ok (.getfield 9, 3) by rw [X.2.1.1]; decide +kernel) (y_tlen X (show decode (kCc k) 4 = .ok (.arraylength, 1) by rw [X.2.1.1]; decide +kernel) hT1k (n := (n1 : Int)) (len_of hn1) (w_aload_n X.1 (x := q1) (show decode (kCc k) 5 = .ok (.aload_n 0, 1) by rw [X.2.1.1]; decide +kernel) (List.Mem.head _) (z_callK X (rm := rmN 304) (As := []) (st := [.int (Int32.ofInt (n1 : Int))]) (show decode (kCc k) 6 = .ok (.invokevirtual 335, 3) by rw [X.2.1.1]; decide +kernel) cw_cod hO1k (by rw [E.1, E.2.1, E.2.2.1]; exact j_coder G SF hs1 I) ⟨by rw [E.2.2.2]; exact (show (rmN 304).frames + 1 ≤ (rmN 302).frames by decide), by rw [E.2.2.2]; exact (show 8 + (mNL (miB 304) + 11) + (rmN 304).locals ≤ (rmN 302).locals by decide), by rw [E.2.2.2]; exact (show 0 + (rmN 304).cells ≤ (rmN 302).cells by decide), by rw [E.2.2.2]; exact (show 0 + (rmN 304).slots ≤ (rmN 302).slots by decide)⟩ (Nat.le_of_ble_eq_true rfl) (fun vv s1 hq => ?_) (fun ee s1 hq => ?_)))))
  rotate_left
  · obtain ⟨rfl, e2, hv, hrs1, hps1⟩ := hq; cases hv
  obtain ⟨rfl, e2, hv, hrs1, hps1⟩ := hq
  cases hv
  show WS k 9 [(0, .ref q1)] [.int (Int32.ofInt e2), .int (Int32.ofInt (n1 : Int))] (Wd A dT s) 0 0
  rw [show e2 = 0 by omega]
  refine w_ishr X.1 (show decode (kCc k) 9 = .ok (.ishr, 1) by rw [X.2.1.1]; decide +kernel) ?_
  rw [shr0 hn1]
  exact w_iret X.1 q hRt rfl (show decode (kCc k) 10 = .ok (.ireturn, 1) by rw [X.2.1.1]; decide +kernel) (Nat.zero_le _) (Nat.zero_le _) ⟨_, rfl, rfl, (n1 : Int), rfl, ⟨by omega, by omega⟩, by omega⟩
set_option maxRecDepth 4000 in
theorem j_ciR (G : GX l s0 D tys a0 dT) {q1 : Nat} (I : Bd s) {x y : Int} (p0 : 0 ≤ x ∧ x < y) (p1 : y ≤ 100) : CTR l s0 D A dT 313 (some .int) (rmN 313) [.int (Int32.ofInt x), .int (Int32.ofInt y), .ref q1] s (fun o t => s = t ∧ ∃ e, o = .inl (some (.int (Int32.ofInt e))) ∧ rng e ∧ (e = x)) := by
  refine ct_ofR G (by decide) (Nat.le_of_ble_eq_true rfl) (fun k X E ET hRt hXt q => ?_)
  show WS k 0 [(0, .int (Int32.ofInt x)), (1, .int (Int32.ofInt y)), (2, .ref q1)] [] _ 0 0
  have F : Fm [] [] s s := fm_rf _ _ s
  refine w_iload_n X.1 (x := Int32.ofInt x) (show decode (kCc k) 0 = .ok (.iload_n 0, 1) by rw [X.2.1.1]; decide +kernel) (List.Mem.head _) (y_if_lt X.1 (t := 9) (show decode (kCc k) 1 = .ok (.ifCond .lt 8, 3) by rw [X.2.1.1]; decide +kernel) (by decide) ⟨by first | exact oq_fa4e5087 p0.1 | omega, by first | exact oq_fbb67bea p0.2 p1 | omega⟩ (fun g1 => ?_) (fun g1 => ?_))
  ·
    exfalso
    omega
  ·
    refine w_iload_n X.1 (x := Int32.ofInt x) (show decode (kCc k) 4 = .ok (.iload_n 0, 1) by rw [X.2.1.1]; decide +kernel) (List.Mem.head _) (w_iload_n X.1 (x := Int32.ofInt y) (show decode (kCc k) 5 = .ok (.iload_n 1, 1) by rw [X.2.1.1]; decide +kernel) (List.Mem.tail _ (List.Mem.head _)) (y_icmp_lt X.1 (t := 16) (show decode (kCc k) 6 = .ok (.if_icmp .lt 10, 3) by rw [X.2.1.1]; decide +kernel) (by decide) ⟨by first | exact oq_fa4e5087 g1 | omega, by first | exact oq_fbb67bea p0.2 p1 | omega⟩ ⟨by first | exact oq_9d8ce83d p0.2 g1 | omega, by first | exact oq_f0661bc9 p1 | omega⟩ (fun g2 => ?_) (fun g2 => ?_)))
    ·
      refine w_iload_n X.1 (x := Int32.ofInt x) (show decode (kCc k) 16 = .ok (.iload_n 0, 1) by rw [X.2.1.1]; decide +kernel) (List.Mem.head _) ?_
      exact w_iret X.1 q hRt rfl (show decode (kCc k) 17 = .ok (.ireturn, 1) by rw [X.2.1.1]; decide +kernel) (Nat.zero_le _) (Nat.zero_le _) ⟨_, rfl, rfl, x, rfl, ⟨by first | exact oq_fa4e5087 g1 | omega, by first | exact oq_fbb67bea g2 p1 | omega⟩, by omega⟩
    ·
      exfalso
      omega
set_option maxRecDepth 4000 in
theorem j_ciN (G : GX l s0 D tys a0 dT) (I : Bd s) {x y : Int} (p0 : 0 ≤ x ∧ x < y) (p1 : y ≤ 100) : CTR l s0 D A dT 313 (some .int) (rmN 313) [.int (Int32.ofInt x), .int (Int32.ofInt y), .null] s (fun o t => s = t ∧ ∃ e, o = .inl (some (.int (Int32.ofInt e))) ∧ rng e ∧ (e = x)) := by
  refine ct_ofR G (by decide) (Nat.le_of_ble_eq_true rfl) (fun k X E ET hRt hXt q => ?_)
  show WS k 0 [(0, .int (Int32.ofInt x)), (1, .int (Int32.ofInt y)), (2, .null)] [] _ 0 0
  have F : Fm [] [] s s := fm_rf _ _ s
  refine w_iload_n X.1 (x := Int32.ofInt x) (show decode (kCc k) 0 = .ok (.iload_n 0, 1) by rw [X.2.1.1]; decide +kernel) (List.Mem.head _) (y_if_lt X.1 (t := 9) (show decode (kCc k) 1 = .ok (.ifCond .lt 8, 3) by rw [X.2.1.1]; decide +kernel) (by decide) ⟨by first | exact oq_fa4e5087 p0.1 | omega, by first | exact oq_fbb67bea p0.2 p1 | omega⟩ (fun g1 => ?_) (fun g1 => ?_))
  ·
    exfalso
    omega
  ·
    refine w_iload_n X.1 (x := Int32.ofInt x) (show decode (kCc k) 4 = .ok (.iload_n 0, 1) by rw [X.2.1.1]; decide +kernel) (List.Mem.head _) (w_iload_n X.1 (x := Int32.ofInt y) (show decode (kCc k) 5 = .ok (.iload_n 1, 1) by rw [X.2.1.1]; decide +kernel) (List.Mem.tail _ (List.Mem.head _)) (y_icmp_lt X.1 (t := 16) (show decode (kCc k) 6 = .ok (.if_icmp .lt 10, 3) by rw [X.2.1.1]; decide +kernel) (by decide) ⟨by first | exact oq_fa4e5087 g1 | omega, by first | exact oq_fbb67bea p0.2 p1 | omega⟩ ⟨by first | exact oq_9d8ce83d p0.2 g1 | omega, by first | exact oq_f0661bc9 p1 | omega⟩ (fun g2 => ?_) (fun g2 => ?_)))
    ·
      refine w_iload_n X.1 (x := Int32.ofInt x) (show decode (kCc k) 16 = .ok (.iload_n 0, 1) by rw [X.2.1.1]; decide +kernel) (List.Mem.head _) ?_
      exact w_iret X.1 q hRt rfl (show decode (kCc k) 17 = .ok (.ireturn, 1) by rw [X.2.1.1]; decide +kernel) (Nat.zero_le _) (Nat.zero_le _) ⟨_, rfl, rfl, x, rfl, ⟨by first | exact oq_fa4e5087 g1 | omega, by first | exact oq_fbb67bea g2 p1 | omega⟩, by omega⟩
    ·
      exfalso
      omega
set_option maxRecDepth 4000 in
theorem j_chk (G : GX l s0 D tys a0 dT) (SF : SF0 s0) (I : Bd s) {x y : Int} (p0 : 0 ≤ x ∧ x < y) (p1 : y ≤ 100) : CTR l s0 D A dT 306 none (rmN 306) [.int (Int32.ofInt x), .int (Int32.ofInt y)] s (fun o t => Bd t ∧ Fm [] [] s t ∧ o = .inl none ∧ (True)) := by
  refine ct_ofR G (by decide) (Nat.le_of_ble_eq_true rfl) (fun k X E ET hRt hXt q => ?_)
  show WS k 0 [(0, .int (Int32.ofInt x)), (1, .int (Int32.ofInt y))] [] _ 0 0
  have F : Fm [] [] s s := fm_rf _ _ s
  have hQ1k := SF.2
  rw [← E.2.1] at hQ1k
  refine w_iload_n X.1 (x := Int32.ofInt x) (show decode (kCc k) 0 = .ok (.iload_n 0, 1) by rw [X.2.1.1]; decide +kernel) (List.Mem.head _) (w_iload_n X.1 (x := Int32.ofInt y) (show decode (kCc k) 1 = .ok (.iload_n 1, 1) by rw [X.2.1.1]; decide +kernel) (List.Mem.tail _ (List.Mem.head _)) ?_)
  rcases hQ1k with hN | ⟨q1, hN⟩
  ·
    refine w_getsK X hN (by rw [X.2.1.2.1]; exact chkW_ok (p := (5, 34)) (by decide +kernel)) (show decode (kCc k) 2 = .ok (.getstatic 1053, 3) by rw [X.2.1.1]; decide +kernel) (z_callSK X (rm := rmN 313) (As := [.int (Int32.ofInt x), .int (Int32.ofInt y), .null]) (st := []) (show decode (kCc k) 5 = .ok (.invokestatic 1059, 3) by rw [X.2.1.1]; decide +kernel) cw_pre (by rw [E.1, E.2.1, E.2.2.1]; exact j_ciN G I (by first | exact ⟨p0.1, p0.2⟩ | omega) (by first | exact p1 | omega)) ⟨by rw [E.2.2.2]; exact (show (rmN 313).frames + 1 ≤ (rmN 306).frames by decide), by rw [E.2.2.2]; exact (show 8 + (mNL (miB 313) + 11) + (rmN 313).locals ≤ (rmN 306).locals by decide), by rw [E.2.2.2]; exact (show 0 + (rmN 313).cells ≤ (rmN 306).cells by decide), by rw [E.2.2.2]; exact (show 0 + (rmN 313).slots ≤ (rmN 306).slots by decide)⟩ (Nat.le_of_ble_eq_true rfl) (fun vv s1 hq => ?_) (fun ee s1 hq => ?_))
    rotate_left
    · obtain ⟨rfl, e2, hv, hrs1, hps1⟩ := hq; cases hv
    obtain ⟨rfl, e2, hv, hrs1, hps1⟩ := hq
    cases hv
    show WS k 8 [(0, .int (Int32.ofInt x)), (1, .int (Int32.ofInt y))] [.int (Int32.ofInt e2)] (Wd A dT s) 0 0
    refine w_pop X.1 (show decode (kCc k) 8 = .ok (.pop, 1) by rw [X.2.1.1]; decide +kernel) rfl ?_
    exact w_vret X.1 q hRt (show decode (kCc k) 9 = .ok (.return_, 1) by rw [X.2.1.1]; decide +kernel) (Nat.zero_le _) (Nat.zero_le _) ⟨_, rfl, I, F, rfl, trivial⟩
  ·
    refine w_getsK X hN (by rw [X.2.1.2.1]; exact chkW_ok (p := (5, 34)) (by decide +kernel)) (show decode (kCc k) 2 = .ok (.getstatic 1053, 3) by rw [X.2.1.1]; decide +kernel) (z_callSK X (rm := rmN 313) (As := [.int (Int32.ofInt x), .int (Int32.ofInt y), .ref q1]) (st := []) (show decode (kCc k) 5 = .ok (.invokestatic 1059, 3) by rw [X.2.1.1]; decide +kernel) cw_pre (by rw [E.1, E.2.1, E.2.2.1]; exact j_ciR G I (by first | exact ⟨p0.1, p0.2⟩ | omega) (by first | exact p1 | omega)) ⟨by rw [E.2.2.2]; exact (show (rmN 313).frames + 1 ≤ (rmN 306).frames by decide), by rw [E.2.2.2]; exact (show 8 + (mNL (miB 313) + 11) + (rmN 313).locals ≤ (rmN 306).locals by decide), by rw [E.2.2.2]; exact (show 0 + (rmN 313).cells ≤ (rmN 306).cells by decide), by rw [E.2.2.2]; exact (show 0 + (rmN 313).slots ≤ (rmN 306).slots by decide)⟩ (Nat.le_of_ble_eq_true rfl) (fun vv s3 hq => ?_) (fun ee s3 hq => ?_))
    rotate_left
    · obtain ⟨rfl, e4, hv, hrs3, hps3⟩ := hq; cases hv
    obtain ⟨rfl, e4, hv, hrs3, hps3⟩ := hq
    cases hv
    show WS k 8 [(0, .int (Int32.ofInt x)), (1, .int (Int32.ofInt y))] [.int (Int32.ofInt e4)] (Wd A dT s) 0 0
    refine w_pop X.1 (show decode (kCc k) 8 = .ok (.pop, 1) by rw [X.2.1.1]; decide +kernel) rfl ?_
    exact w_vret X.1 q hRt (show decode (kCc k) 9 = .ok (.return_, 1) by rw [X.2.1.1]; decide +kernel) (Nat.zero_le _) (Nat.zero_le _) ⟨_, rfl, I, F, rfl, trivial⟩
end M84
end
section
theorem oq_31bdcab7 {a0 a1 a2 a3 a4 a5 a6 a7 a8 a9 a10 a11 : Int} (h0 : a0 = a1) (h1 : a2 = a3) (h2 : a1 = a4) (h3 : a3 = a5) (h4 : a4 = a6) (h5 : a5 = a7) (h6 : a6 = a8) (h7 : a7 = a9) (h8 : a8 = a10) (h9 : a9 = a11) (h10 : a10 ≤ a11) : a0 ≤ a2 := by omega
theorem oq_671a0eb2 {a0 a1 a2 a3 a4 a5 a6 a7 a8 a9 a10 a11 a12 a13 : Int} (h0 : a0 = a1) (h1 : a2 = a3) (h2 : a1 = a4) (h3 : a3 = a5) (h4 : a4 = a6) (h5 : a5 = a7) (h6 : a6 = a8) (h7 : a7 = a9) (h8 : a8 = a10) (h9 : a9 = a11) (h10 : a10 = a12) (h11 : a11 = a13) (h12 : a12 ≤ a13) : a0 ≤ a2 := by omega
theorem oq_e494e03c : 7 + 1 ≤ (12 + (4 * (0))) := by omega
theorem oq_635cae36 : 8 + (1 + 11) + 121 ≤ (500 + 45 * (4 * (0))) := by omega
theorem oq_f7912654 : 8 + 1 ≤ (12 + (4 * (0))) := by omega
theorem oq_8994f6bd : 8 + (1 + 11) + 143 ≤ (500 + 45 * (4 * (0))) := by omega
theorem oq_812388c8 : 8 + (2 + 11) + 122 ≤ (500 + 45 * (4 * (0))) := by omega
theorem oq_e86a2d6a (r : Nat) : 7 + 1 ≤ (12 + (4 * (r + 1))) := by omega
theorem oq_9756868e (r : Nat) : 8 + (1 + 11) + 121 ≤ (500 + 45 * (4 * (r + 1))) := by omega
theorem oq_b3b61940 (r : Nat) : 8 + 1 ≤ (12 + (4 * (r + 1))) := by omega
theorem oq_5e0a067b (r : Nat) : 8 + (1 + 11) + 143 ≤ (500 + 45 * (4 * (r + 1))) := by omega
theorem oq_cba25b15 (r : Nat) : (12 + (4 * (r) + 3)) + 1 ≤ (12 + (4 * (r + 1))) := by omega
theorem oq_42f07b36 (r : Nat) : 8 + (3 + 11) + (500 + 45 * (4 * (r) + 3)) ≤ (500 + 45 * (4 * (r + 1))) := by omega
theorem oq_035df8d4 (r : Nat) : 8 + (2 + 11) + 143 ≤ (500 + 45 * (4 * (r + 1))) := by omega
theorem oq_a9606c0d {a0 : Int} (h0 : a0 ≤ 6) : (a0 - 1) ≤ 6 := by omega
theorem oq_c97dc902 (r : Nat) : 6 + 1 ≤ (12 + (4 * (r + 1))) := by omega
theorem oq_b200f69d (r : Nat) : 8 + (2 + 11) + 100 ≤ (500 + 45 * (4 * (r + 1))) := by omega
theorem oq_8aa95fcd (r : Nat) : 8 + (2 + 11) + 122 ≤ (500 + 45 * (4 * (r + 1))) := by omega
theorem oq_598d2d56 : 11 + 1 ≤ (12 + (4 * (0) + 1)) := by omega
theorem oq_8d6a3487 : 8 + (3 + 11) + 206 ≤ (500 + 45 * (4 * (0) + 1)) := by omega
theorem oq_064f000d {a0 a1 a2 : Int} (h0 : a0 = a1) (h1 : a1 = a2) (h2 : (6 - a2) ≤ ((0 : Nat) : Int)) : (6 - a0) ≤ ((0 : Nat) : Int) := by omega
theorem oq_46bc030d : (12 + (4 * (0))) + 1 ≤ (12 + (4 * (0) + 1)) := by omega
theorem oq_1283f125 : 8 + (2 + 11) + (500 + 45 * (4 * (0))) ≤ (500 + 45 * (4 * (0) + 1)) := by omega
theorem oq_0306f201 : 12 + 1 ≤ (12 + (4 * (0) + 1)) := by omega
theorem oq_d926b11d : 8 + (1 + 11) + 228 ≤ (500 + 45 * (4 * (0) + 1)) := by omega
theorem oq_57ddffaa : 6 + 1 ≤ (12 + (4 * (0) + 1)) := by omega
theorem oq_9971bdcd : 8 + (2 + 11) + 100 ≤ (500 + 45 * (4 * (0) + 1)) := by omega
theorem oq_25674cec {a0 a1 a2 a3 a4 a5 a6 a7 a8 a9 : Int} (h0 : a0 = a1) (h1 : a2 = a3) (h2 : a1 = a4) (h3 : a3 = a5) (h4 : a4 = a6) (h5 : a5 = a7) (h6 : a6 = a8) (h7 : a7 = a9) (h8 : a9 ≤ a8) : a2 ≤ a0 := by omega
theorem oq_547cef8b : 7 + 1 ≤ (12 + (4 * (0) + 1)) := by omega
theorem oq_0392e5c6 : 8 + (1 + 11) + 121 ≤ (500 + 45 * (4 * (0) + 1)) := by omega
theorem oq_06c7c12d : 8 + (2 + 11) + 122 ≤ (500 + 45 * (4 * (0) + 1)) := by omega
theorem oq_21fef13e {a0 a1 a2 a3 : Int} (h0 : a0 = a1) (h1 : a1 = a2) (h2 : a2 = a3) (h3 : (6 - a3) ≤ ((0 : Nat) : Int)) : (6 - a0) ≤ ((0 : Nat) : Int) := by omega
theorem oq_a933ac9a : 8 + 1 ≤ (12 + (4 * (0) + 1)) := by omega
theorem oq_36a13c53 : 8 + (1 + 11) + 143 ≤ (500 + 45 * (4 * (0) + 1)) := by omega
theorem oq_21805ac9 (r : Nat) : 11 + 1 ≤ (12 + (4 * (r + 1) + 1)) := by omega
theorem oq_1a54e9c9 (r : Nat) : 8 + (3 + 11) + 206 ≤ (500 + 45 * (4 * (r + 1) + 1)) := by omega
theorem oq_94b38e3b {a0 a2 a3 : Int} {n1 : Nat} (h0 : (6 - a0) ≤ (((n1 + 1) : Nat) : Int)) (h1 : a2 = a3) (h2 : a3 = a0) : (6 - a2) ≤ (((n1 + 1) : Nat) : Int) := by omega
theorem oq_183d1057 (r : Nat) : (12 + (4 * (r + 1))) + 1 ≤ (12 + (4 * (r + 1) + 1)) := by omega
theorem oq_ce6206a2 (r : Nat) : 8 + (2 + 11) + (500 + 45 * (4 * (r + 1))) ≤ (500 + 45 * (4 * (r + 1) + 1)) := by omega
theorem oq_e4de711e (r : Nat) : 12 + 1 ≤ (12 + (4 * (r + 1) + 1)) := by omega
theorem oq_afe52482 (r : Nat) : 8 + (1 + 11) + 228 ≤ (500 + 45 * (4 * (r + 1) + 1)) := by omega
theorem oq_76ff689a (r : Nat) : 6 + 1 ≤ (12 + (4 * (r + 1) + 1)) := by omega
theorem oq_0822d50d (r : Nat) : 8 + (2 + 11) + 100 ≤ (500 + 45 * (4 * (r + 1) + 1)) := by omega
theorem oq_9b435bb4 (r : Nat) : 7 + 1 ≤ (12 + (4 * (r + 1) + 1)) := by omega
theorem oq_f85a7cd7 (r : Nat) : 8 + (1 + 11) + 121 ≤ (500 + 45 * (4 * (r + 1) + 1)) := by omega
theorem oq_1c2c1baf (r : Nat) : 8 + (2 + 11) + 122 ≤ (500 + 45 * (4 * (r + 1) + 1)) := by omega
theorem oq_3ee132da {a0 a2 a3 a4 : Int} {n1 : Nat} (h0 : (6 - a0) ≤ (((n1 + 1) : Nat) : Int)) (h1 : a2 = a3) (h2 : a4 = a0) (h3 : a3 = a4) : (6 - a2) ≤ (((n1 + 1) : Nat) : Int) := by omega
theorem oq_8e0cc864 (r : Nat) : 8 + 1 ≤ (12 + (4 * (r + 1) + 1)) := by omega
theorem oq_333da77b (r : Nat) : 8 + (1 + 11) + 143 ≤ (500 + 45 * (4 * (r + 1) + 1)) := by omega
theorem oq_40927492 (r : Nat) : (12 + (4 * (r) + 3)) + 1 ≤ (12 + (4 * (r + 1) + 1)) := by omega
theorem oq_c8d9c730 (r : Nat) : 8 + (3 + 11) + (500 + 45 * (4 * (r) + 3)) ≤ (500 + 45 * (4 * (r + 1) + 1)) := by omega
theorem oq_46451eae (r : Nat) : 8 + (2 + 11) + 143 ≤ (500 + 45 * (4 * (r + 1) + 1)) := by omega
theorem oq_4941a422 (r : Nat) : 7 + 1 ≤ (12 + (4 * (r) + 2)) := by omega
theorem oq_a823803b (r : Nat) : 8 + (1 + 11) + 121 ≤ (500 + 45 * (4 * (r) + 2)) := by omega
theorem oq_abe4e353 {a0 a2 a3 : Int} {n1 : Nat} (h0 : (6 - a0) ≤ ((n1 : Nat) : Int)) (h1 : a2 = a3) (h2 : a3 = a0) : (6 - a2) ≤ ((n1 : Nat) : Int) := by omega
theorem oq_dbb6b233 (r : Nat) : (12 + (4 * (r) + 1)) + 1 ≤ (12 + (4 * (r) + 2)) := by omega
theorem oq_0cecdb5e (r : Nat) : 8 + (2 + 11) + (500 + 45 * (4 * (r) + 1)) ≤ (500 + 45 * (4 * (r) + 2)) := by omega
theorem oq_b4ff86be {a0 : Int} (h0 : (-12) ≤ a0) : (-2147483648) ≤ a0 := by omega
theorem oq_8c06164c {a0 : Int} (h0 : a0 ≤ (-11)) : a0 ≤ 2147483647 := by omega
theorem oq_d8760254 (r : Nat) : 6 + 1 ≤ (12 + (4 * (r) + 2)) := by omega
theorem oq_29829ae4 (r : Nat) : 8 + (2 + 11) + 100 ≤ (500 + 45 * (4 * (r) + 2)) := by omega
theorem oq_1ab01402 {a0 : Int} (h0 : a0 < 200) : 0 < (200 - a0) := by omega
theorem oq_c7636a98 (r : Nat) : 7 + 1 ≤ (12 + (4 * (r) + 3)) := by omega
theorem oq_aba64d1b (r : Nat) : 8 + (1 + 11) + 121 ≤ (500 + 45 * (4 * (r) + 3)) := by omega
theorem oq_2e478062 (r : Nat) : (12 + (4 * (r) + 2)) + 1 ≤ (12 + (4 * (r) + 3)) := by omega
theorem oq_cdd7b804 (r : Nat) : 8 + (3 + 11) + (500 + 45 * (4 * (r) + 2)) ≤ (500 + 45 * (4 * (r) + 3)) := by omega
theorem oq_3d7a4679 {a0 : Int} (h0 : (-10) ≤ a0) : (-2147483648) ≤ a0 := by omega
theorem oq_8ddf7954 {a0 : Int} (h0 : a0 ≤ (-9)) : a0 ≤ 2147483647 := by omega
theorem oq_1fdce876 (r : Nat) : 6 + 1 ≤ (12 + (4 * (r) + 3)) := by omega
theorem oq_55a309dd (r : Nat) : 8 + (2 + 11) + 100 ≤ (500 + 45 * (4 * (r) + 3)) := by omega
theorem oq_f95a2bb1 : 11 + 1 ≤ (12 + (32 + 3 * (0))) := by omega
theorem oq_70624d19 : 8 + (3 + 11) + 206 ≤ (500 + 45 * (32 + 3 * (0))) := by omega
theorem oq_ba167e5f {a0 a1 : Int} (h0 : a0 = a1) (h1 : 0 ≤ a1) : (6 - a0) ≤ ((7 : Nat) : Int) := by omega
theorem oq_8943d30a : (12 + (4 * (7) + 3)) + 1 ≤ (12 + (32 + 3 * (0))) := by omega
theorem oq_a0b1cf65 : 8 + (3 + 11) + (500 + 45 * (4 * (7) + 3)) ≤ (500 + 45 * (32 + 3 * (0))) := by omega
theorem oq_98d05d0f : 7 + 1 ≤ (12 + (32 + 3 * (0))) := by omega
theorem oq_2a8149c4 : 8 + (1 + 11) + 121 ≤ (500 + 45 * (32 + 3 * (0))) := by omega
theorem oq_af2bf85e : 6 + 1 ≤ (12 + (32 + 3 * (0))) := by omega
theorem oq_72040bf2 : 8 + (2 + 11) + 100 ≤ (500 + 45 * (32 + 3 * (0))) := by omega
theorem oq_7c329781 : 8 + (2 + 11) + 122 ≤ (500 + 45 * (32 + 3 * (0))) := by omega
theorem oq_6e542e63 : 8 + 1 ≤ (12 + (32 + 3 * (0))) := by omega
theorem oq_72d660e0 : 8 + (1 + 11) + 143 ≤ (500 + 45 * (32 + 3 * (0))) := by omega
theorem oq_c9a3ea85 (r : Nat) : 11 + 1 ≤ (12 + (32 + 3 * (r + 1))) := by omega
theorem oq_5eb0540b (r : Nat) : 8 + (3 + 11) + 206 ≤ (500 + 45 * (32 + 3 * (r + 1))) := by omega
theorem oq_e0a8f0a0 (r : Nat) : (12 + (4 * (7) + 3)) + 1 ≤ (12 + (32 + 3 * (r + 1))) := by omega
theorem oq_eacdd764 (r : Nat) : 8 + (3 + 11) + (500 + 45 * (4 * (7) + 3)) ≤ (500 + 45 * (32 + 3 * (r + 1))) := by omega
theorem oq_36a63932 (r : Nat) : 7 + 1 ≤ (12 + (32 + 3 * (r + 1))) := by omega
theorem oq_ab0c04be (r : Nat) : 8 + (1 + 11) + 121 ≤ (500 + 45 * (32 + 3 * (r + 1))) := by omega
theorem oq_65b7d3a7 (r : Nat) : 6 + 1 ≤ (12 + (32 + 3 * (r + 1))) := by omega
theorem oq_bfe32ab2 (r : Nat) : 8 + (2 + 11) + 100 ≤ (500 + 45 * (32 + 3 * (r + 1))) := by omega
theorem oq_562d3263 (r : Nat) : 8 + (2 + 11) + 122 ≤ (500 + 45 * (32 + 3 * (r + 1))) := by omega
theorem oq_de5d5424 (r : Nat) : 8 + 1 ≤ (12 + (32 + 3 * (r + 1))) := by omega
theorem oq_8bb5ae4a (r : Nat) : 8 + (1 + 11) + 143 ≤ (500 + 45 * (32 + 3 * (r + 1))) := by omega
theorem oq_45eb8909 (r : Nat) : (12 + (32 + 3 * (r) + 2)) + 1 ≤ (12 + (32 + 3 * (r + 1))) := by omega
theorem oq_a5f4ad9d (r : Nat) : 8 + (2 + 11) + (500 + 45 * (32 + 3 * (r) + 2)) ≤ (500 + 45 * (32 + 3 * (r + 1))) := by omega
theorem oq_0961b7e0 (r : Nat) : 8 + (2 + 11) + 143 ≤ (500 + 45 * (32 + 3 * (r + 1))) := by omega
theorem oq_a51edb0d (r : Nat) : (12 + (32 + 3 * (r))) + 1 ≤ (12 + (32 + 3 * (r + 1))) := by omega
theorem oq_75be701f (r : Nat) : 8 + (2 + 11) + (500 + 45 * (32 + 3 * (r))) ≤ (500 + 45 * (32 + 3 * (r + 1))) := by omega
theorem oq_960124c6 (r : Nat) : 11 + 1 ≤ (12 + (32 + 3 * (r) + 1)) := by omega
theorem oq_7c76c90d (r : Nat) : 8 + (3 + 11) + 206 ≤ (500 + 45 * (32 + 3 * (r) + 1)) := by omega
theorem oq_7e7bafa7 (r : Nat) : 7 + 1 ≤ (12 + (32 + 3 * (r) + 1)) := by omega
theorem oq_f1058fdb (r : Nat) : 8 + (1 + 11) + 121 ≤ (500 + 45 * (32 + 3 * (r) + 1)) := by omega
theorem oq_f4f80c46 {a0 a2 a3 a4 : Int} {n1 : Nat} (h0 : (6 - a0) ≤ ((n1 : Nat) : Int)) (h1 : a2 = a3) (h2 : a4 = a0) (h3 : a3 = a4) : (6 - a2) ≤ ((n1 : Nat) : Int) := by omega
theorem oq_2290fc41 (r : Nat) : (12 + (32 + 3 * (r))) + 1 ≤ (12 + (32 + 3 * (r) + 1)) := by omega
theorem oq_ab38c8cf (r : Nat) : 8 + (2 + 11) + (500 + 45 * (32 + 3 * (r))) ≤ (500 + 45 * (32 + 3 * (r) + 1)) := by omega
theorem oq_b5194544 (r : Nat) : 6 + 1 ≤ (12 + (32 + 3 * (r) + 1)) := by omega
theorem oq_38be39c2 (r : Nat) : 8 + (2 + 11) + 100 ≤ (500 + 45 * (32 + 3 * (r) + 1)) := by omega
theorem oq_3b8c0a4a (r : Nat) : 11 + 1 ≤ (12 + (32 + 3 * (r) + 2)) := by omega
theorem oq_c9883230 (r : Nat) : 8 + (3 + 11) + 206 ≤ (500 + 45 * (32 + 3 * (r) + 2)) := by omega
theorem oq_9d2e9ef6 (r : Nat) : 7 + 1 ≤ (12 + (32 + 3 * (r) + 2)) := by omega
theorem oq_41985971 (r : Nat) : 8 + (1 + 11) + 121 ≤ (500 + 45 * (32 + 3 * (r) + 2)) := by omega
theorem oq_23399e95 (r : Nat) : (12 + (32 + 3 * (r) + 1)) + 1 ≤ (12 + (32 + 3 * (r) + 2)) := by omega
theorem oq_c23d4411 (r : Nat) : 8 + (2 + 11) + (500 + 45 * (32 + 3 * (r) + 1)) ≤ (500 + 45 * (32 + 3 * (r) + 2)) := by omega
theorem oq_bd1a6d33 (r : Nat) : 6 + 1 ≤ (12 + (32 + 3 * (r) + 2)) := by omega
theorem oq_1addf0d0 (r : Nat) : 8 + (2 + 11) + 100 ≤ (500 + 45 * (32 + 3 * (r) + 2)) := by omega
theorem oq_7d321bf4 {a0 a1 a2 : Int} (h0 : a0 = a1) (h1 : a1 = a2) (h2 : 0 ≤ a2) : (6 - a0) ≤ ((7 : Nat) : Int) := by omega
theorem oq_2af1bc43 : (12 + (32 + 3 * (7) + 2)) + 1 ≤ 68 := by omega
theorem oq_3d00aaab : 8 + (2 + 11) + (500 + 45 * (32 + 3 * (7) + 2)) ≤ 2996 := by omega
theorem oq_4cedc687 : (12 + (4 * (7) + 3)) + 1 ≤ 68 := by omega
theorem oq_b0ed7f34 : 8 + (3 + 11) + (500 + 45 * (4 * (7) + 3)) ≤ 2996 := by omega
theorem oq_f6b99f75 {a0 a1 a2 a3 : Int} (h0 : a0 = a1) (h1 : a1 = a2) (h2 : a2 = a3) (h3 : 0 ≤ a3) : (6 - a0) ≤ ((7 : Nat) : Int) := by omega
/-! The class: rules, their reading -/
section M85
variable {l : Launch} {s0 : State} {D : va_G} {tys : List (ClassId × FieldType)} {a0 : Array Value} {A : Nat → Nat} {dT : Nat → ClassId} {s : PS}
end M85
end
section
theorem oq_f6d1716d {a0 : Int} (h0 : a0 < 2) : a0 ≤ 2147483647 := by omega
theorem oq_e4757433 {a0 a1 : Int} (h0 : a0 = a1) (h1 : 0 ≤ a1) : 0 ≤ a0 := by omega
theorem oq_12cf304a {a0 : Int} (h0 : a0 ≤ 8) : a0 ≤ 9 := by omega
theorem oq_85681322 {a0 a1 a2 a3 a4 : Int} (h0 : a0 = a1) (h1 : a1 = a2) (h2 : a2 = a3) (h3 : a3 = a4) (h4 : a4 ≤ 8) : a0 ≤ 8 := by omega
/-! The class: rules adopted: two pairs of rows change places -/
def sw (c : Nat) : Nat := if c = 20 then 22 else if c = 22 then 20 else if c = 21 then 23 else if c = 23 then 21 else c
def swB (a : Nat) : Nat := if a = 16 then 18 else if a = 18 then 16 else if a = 17 then 19 else if a = 19 then 17 else a
def pSw (s : PS) : PS := (s.1, s.2.1, fun a => s.2.2.1 (swB a), s.2.2.2)
theorem sw_sw (c : Nat) : sw (sw c) = c := by
  by_cases h1 : c = 20
  · subst h1; rfl
  · by_cases h2 : c = 22
    · subst h2; rfl
    · by_cases h3 : c = 21
      · subst h3; rfl
      · by_cases h4 : c = 23
        · subst h4; rfl
        · have e : sw c = c := by
            unfold sw
            rw [if_neg h1, if_neg h2, if_neg h3, if_neg h4]
          rw [e, e]
theorem sw_big {c : Nat} (h : 23 < c) : sw c = c := by
  unfold sw
  rw [if_neg (by omega), if_neg (by omega), if_neg (by omega), if_neg (by omega)]
theorem sw_lt {c : Nat} (h : c < 518) : sw c < 518 := by
  unfold sw
  by_cases h1 : c = 20
  · rw [if_pos h1]; decide
  · rw [if_neg h1]
    by_cases h2 : c = 22
    · rw [if_pos h2]; decide
    · rw [if_neg h2]
      by_cases h3 : c = 21
      · rw [if_pos h3]; decide
      · rw [if_neg h3]
        by_cases h4 : c = 23
        · rw [if_pos h4]; decide
        · rw [if_neg h4]; exact h
theorem sw_19 {c : Nat} (h : c ≠ 19) : sw c ≠ 19 := by
  intro q
  have := sw_sw c
  rw [q] at this
  exact h this.symm
def rnV : AV → AV
  | .inr (.inr (.inr (.inr (.inl (some q))))) => aR (some (sw q))
  | a => a
def rnC : AC → AC
  | .inl (t, n, .inl l) => .inl (t, n, .inl (l.map rnV))
  | .inl (t, n, .inr (lo, hi, a)) => .inl (t, n, .inr (lo, hi, if t = 1 then a else swB a))
  | .inr (ci, fs) => .inr (ci, fs.map rnV)
theorem rn_ok : (List.range 518).all (fun j => Nat.beq j 19 || qAC (rnC (bsS j)) (bsS (sw j))) = true := by decide +kernel
theorem rn_at {j : Nat} (h : j < 518) (hn : j ≠ 19) : rnC (bsS j) = bsS (sw j) := by
  have := List.all_eq_true.mp rn_ok j (List.mem_range.mpr h)
  rw [Bool.or_eq_true] at this
  rcases this with q | q
  · exact absurd (Nat.eq_of_beq_eq_true q) hn
  · exact qAC_ok q
section PM
variable {A : Nat → Nat} {dT : Nat → ClassId} {s : PS}
theorem cv_rn (a : AV) : cv (vS (fun c => A (sw c)) (pSw s)) a = cv (vS A s) (rnV a) := by
  rcases a with z | k' | n' | k' | r | k'
  · rfl
  · rfl
  · rfl
  · rfl
  · cases r <;> rfl
  · rfl
theorem cZ_rn (a : AV) : cZ (vS (fun c => A (sw c)) (pSw s)) a = cZ (vS A s) (rnV a) := by
  rcases a with z | k' | n' | k' | r | k'
  · rfl
  · rfl
  · rfl
  · rfl
  · cases r <;> rfl
  · rfl
theorem cQ_rn (a : AV) : cQ (vS (fun c => A (sw c)) (pSw s)) a = cQ (vS A s) (rnV a) := by
  rcases a with z | k' | n' | k' | r | k'
  · rfl
  · rfl
  · rfl
  · rfl
  · cases r <;> rfl
  · rfl
theorem cR_rn (a : AV) : cR (vS (fun c => A (sw c)) (pSw s)) a = cR (vS A s) (rnV a) := by
  rcases a with z | k' | n' | k' | r | k'
  · rfl
  · rfl
  · rfl
  · rfl
  · cases r <;> rfl
  · rfl
theorem getD_rn (l : List AV) (j : Nat) (d : AV) (hd : rnV d = d) : (l.map rnV).getD j d = rnV (l.getD j d) := by
  rw [List.getD_eq_getElem?_getD, List.getD_eq_getElem?_getD, List.getElem?_map]
  cases l[j]? with
  | none => exact hd.symm
  | some x => rfl
theorem cC_rn (c : AC) : cC (vS (fun c => A (sw c)) (pSw s)) dT c = cC (vS A s) dT (rnC c) := by
  rcases c with ⟨t, n, b⟩ | ⟨ci, fs⟩
  · rcases b with l | ⟨lo, hi, a⟩
    · show Sum.inl (dT t, n, cB _ t n _) = Sum.inl (dT t, n, cB _ t n _)
      congr 3
      refine cB_ext (fun _ j _ => ?_) (fun _ j _ => ?_) (fun _ j _ => ?_)
      · show cZ _ (l.getD j (aI 0)) = cZ _ ((l.map rnV).getD j (aI 0))
        rw [getD_rn l j (aI 0) rfl, cZ_rn]
      · show cQ _ (l.getD j (aJ 0)) = cQ _ ((l.map rnV).getD j (aJ 0))
        rw [getD_rn l j (aJ 0) rfl, cQ_rn]
      · show cR _ (l.getD j (aR none)) = cR _ ((l.map rnV).getD j (aR none))
        rw [getD_rn l j (aR none) rfl, cR_rn]
    · show Sum.inl (dT t, n, cB _ t n _) = Sum.inl (dT t, n, cB _ t n _)
      congr 3
      refine cB_ext (fun ht j _ => ?_) (fun ht j _ => ?_) (fun _ j _ => rfl)
      · show s.2.2.1 (swB a) j = s.2.2.1 (if t = 1 then a else swB a) j
        rw [if_neg (by omega)]
      · show s.2.2.2.1 a j = s.2.2.2.1 (if t = 1 then a else swB a) j
        rw [if_pos ht]
  · show Sum.inr (ci, fs.map _) = Sum.inr (ci, (fs.map rnV).map _)
    rw [List.map_map]
    congr 2
    exact List.map_congr_left (fun a _ => cv_rn a)
theorem Wd_sw (j : Nat) : (Wd (fun c => A (sw c)) dT (pSw s))[j]? = ((Wd A dT s).set 19 (A 19, cC (vS A s) dT (rnC (bsS 19))))[sw j]? := by
  by_cases hj : j < 518
  · rw [Wd_get hj, cC_rn]
    by_cases h9 : j = 19
    · subst h9
      show some (A 19, _) = (List.set _ 19 _)[19]?
      rw [List.getElem?_set_self (by rw [Wd_len]; omega)]
    · rw [List.getElem?_set_ne (fun q => sw_19 h9 q.symm), Wd_get (sw_lt hj), rn_at hj h9]
  · rw [sw_big (by omega), List.getElem?_set_ne (by omega), Wd_ext (by omega), Wd_ext (by omega)]
    all_goals rfl
theorem WS_perm {k : kx_T} {pc ce sl : Nat} {lv : List (Nat × Value)} {st : List Value} {W1 W2 : va_W} (h : ∀ j, W2[j]? = W1[sw j]?) (g : WS k pc lv st W2 ce sl) : WS k pc lv st W1 ce sl := fun H locs ls hP hD hS hl => by
  refine g H locs ls (fun j q hq => hP (sw j) q (by rw [← h]; exact hq)) ⟨fun i j p q hp hq e => ?_, fun j q hq => hD.2 (sw j) q (by rw [← h]; exact hq)⟩ hS hl
  have := hD.1 (sw i) (sw j) p q (by rw [← h]; exact hp) (by rw [← h]; exact hq) e
  have e2 := congrArg sw this
  rwa [sw_sw, sw_sw] at e2
theorem bA_sw (a : Nat) : bA (swB a) = bA a := by
  unfold swB
  by_cases h1 : a = 16
  · subst h1; rfl
  · by_cases h2 : a = 18
    · subst h2; rfl
    · by_cases h3 : a = 17
      · subst h3; rfl
      · by_cases h4 : a = 19
        · subst h4; rfl
        · rw [if_neg h1, if_neg h2, if_neg h3, if_neg h4]
theorem bd_sw (I : Bd s) : Bd (pSw s) := by
  refine ⟨fun q => I.1 q, fun a j hj => ?_⟩
  have := I.2 (swB a) j (by rw [bA_sw]; exact hj)
  rw [bA_sw] at this
  exact this
theorem fm_sw : Fm [] [16, 17, 18, 19] s (pSw s) := by
  refine ⟨fun _ _ => rfl, fun a ha => ?_, rfl, fun _ _ => rfl, fun _ _ => rfl⟩
  show s.2.2.1 (swB a) = s.2.2.1 a
  have h1 : a ≠ 16 := fun q => ha (by rw [q]; decide)
  have h2 : a ≠ 17 := fun q => ha (by rw [q]; decide)
  have h3 : a ≠ 18 := fun q => ha (by rw [q]; decide)
  have h4 : a ≠ 19 := fun q => ha (by rw [q]; decide)
  have : swB a = a := by
    unfold swB
    rw [if_neg h1, if_neg h3, if_neg h2, if_neg h4]
  rw [this]
end PM
/-- addresses but those of the four rows are the same -/
def swA (A B : Nat → Nat) : Prop := ∀ c, (c < 20 ∨ 23 < c) → B c = A c
theorem swA_rf (A : Nat → Nat) : swA A A := fun _ _ => rfl
theorem swA_sw (A : Nat → Nat) : swA A (fun c => A (sw c)) := fun c h => by
  show A (sw c) = A c
  unfold sw
  rw [if_neg (by omega), if_neg (by omega), if_neg (by omega), if_neg (by omega)]
theorem swA_ts {A B C : Nat → Nat} (h : swA A B) (g : swA B C) : swA A C := fun c hc => (g c hc).trans (h c hc)
/-- a contract of a method that may let rows change places -/
def CTX (l : Launch) (s0 : State) (D : va_G) (A : Nat → Nat) (dT : Nat → ClassId) (mn : Nat) (rm : Room) (vals : List Value) (s : PS) (Q : mb_O → PS → Prop) : Prop :=
  MB l s0 D (yA mn) (.code (yA mn) (byA mn) (mNL (miB mn)) (rtA mn)) rm vals (Wd A dT s) (fun o ws => ∃ (B : Nat → Nat) (s' : PS), swA A B ∧ ws = Wd B dT s' ∧ Q o s')
section CT3
variable {l : Launch} {s0 : State} {D : va_G} {tys : List (ClassId × FieldType)} {a0 : Array Value} {A : Nat → Nat} {dT : Nat → ClassId} {s : PS}
theorem ctX_ofX (G : GX l s0 D tys a0 dT) {mn : Nat} {rm : Room} {vals : List Value} {Q : mb_O → PS → Prop} (hy : plainName (yA mn).cls = true) (hn : (lg_sl vals).length ≤ mNL (miB mn))
    (body : ∀ k, AX k mn dT → (kL k = l ∧ kS0 k = s0 ∧ kD k = D ∧ kR k = rm) → kTy k = tys → (kMe k).sig.returnType = rtA mn → (∀ x ∈ (kC k).exceptionTable.toList, False) → kx_end k (fun o ws => ∃ (B : Nat → Nat) (s' : PS), swA A B ∧ ws = Wd B dT s' ∧ Q o s') rm.cells rm.slots → WS k 0 (lv_args 0 vals) [] (Wd A dT s) 0 0) : CTX l s0 D A dT mn rm vals s Q :=
  mb_of G.1 hy hn (fun k C e1 e2 e3 e4 e5 e6 e7 e8 e9 e10 e11 qe => body k ⟨C, ⟨e7, e6, e8⟩, fun t => by rw [e5]; exact G.2.1 t, by rw [e3]; exact G.2.2⟩ ⟨e1, e3, e4, e2⟩ e5 e9 e11 qe)
variable {k : kx_T} {mn pc : Nat} {lv : List (Nat × Value)} {st : List Value} {ws : va_W} {ce sl b : Nat} {z : Int} {Q : mb_O → PS → Prop} {rm : Room}
theorem z_callVX (X : AX k mn dT) (c : Nat) {idx cn : Nat} {fs : List AV} {As : List Value} (h : cdA mn pc = some (.invokevirtual idx, 3, cn, b, z)) (hn : mAr (miB cn) = As.length + 1) (hc : c < 518) (hb : bsS c = .inr (mCl (miB cn), fs)) (hM : CTX (kL k) (kS0 k) (kD k) A dT cn rm (.ref (A c) :: As) s Q) (hr : rmK k cn rm ce sl) (hw : (st.map fun v => v.category).sum ≤ 8)
    (h1 : ∀ v B s', swA A B → Q (.inl v) s' → WS k (pc + 3) lv (v.toList ++ st) (Wd B dT s') (ce + rm.cells) (sl + rm.slots)) (h2 : ∀ E B s', swA A B → Q (.inr E) s' → WX k pc lv st (Wd B dT s') E (ce + rm.cells) (sl + rm.slots)) : WS k pc lv (As.reverse ++ .ref (A c) :: st) (Wd A dT s) ce sl := by
  obtain ⟨v0, v1, v2, v3, n, N, T, v4, v5, v6⟩ := (ax_r X h).2.2
  have en : n = As.length := by
    have v5 : mAr (miB cn) = n + 1 := v5
    omega
  subst en
  have he := Wd_get (A := A) (dT := dT) (s := s) hc
  rw [hb] at he
  obtain ⟨r1, r2, r3⟩ := hr
  exact w_callV (K := fun o ws => ∃ (B : Nat → Nat) (s' : PS), swA A B ∧ ws = Wd B dT s' ∧ Q o s') (rm := rm) X.1 ⟨by rw [X.2.1.2.1]; exact v1, cd_code v0 v4.1, v4.2.1, v4.2.2, r1, r2⟩ v2 v3 hM he v6 rfl hw r3 (ax_d X h) (fun v ws' hk => hk.elim (fun B hk => hk.elim (fun s' hq => by rw [hq.2.1]; exact h1 v B s' hq.1 hq.2.2))) (fun E ws' hk => hk.elim (fun B hk => hk.elim (fun s' hq => by rw [hq.2.1]; exact h2 E B s' hq.1 hq.2.2)))
theorem w_getR (X : AX k mn dT) {a idx f : Nat} {fs : List Value} {v : Value} (h : cdA mn pc = some (.getfield idx, 3, 7, f, 0)) (he : ws[19]? = some (a, .inr (7, fs))) (hv : fs[f]? = some v) (g : WS k (pc + 3) lv (v :: st) ws ce sl) : WS k pc lv (.ref a :: st) ws ce sl := by
  obtain ⟨c1, c2, c3⟩ := (ax_r X h).2.2
  exact w_get X.1 19 c1 he c2 (by rw [X.2.1.2.1]; exact c3) hv (ax_d X h) g
theorem w_putR (X : AX k mn dT) {a idx f v : Nat} {fs : List Value} (h : cdA mn pc = some (.putfield idx, 3, 7, f, 0)) (he : ws[19]? = some (a, .inr (7, fs))) (hN : f < (nCl 7).2.1) (hl : f < fs.length) (hn : narrow ((nCl 7).2.2.2 f) (.ref v) = .ref v) (ht : fits ((nCl 7).2.2.2 f) (.ref v) = true) (hfin : ((nCl 7).2.2.1 f).2.2.2 = false) (g : WS k (pc + 3) lv st (ws.set 19 (a, .inr (7, fs.set f (.ref v)))) ce sl) : WS k pc lv (.ref v :: .ref a :: st) ws ce sl := by
  obtain ⟨c1, c2, -⟩ := (ax_r X h).2.2
  exact w_put X.1 19 c1 he hN (by rw [X.2.1.2.1]; exact c2) hn ht hl (Or.inl hfin) (ax_d X h) g
end CT3
section M86
variable {l : Launch} {s0 : State} {D : va_G} {tys : List (ClassId × FieldType)} {a0 : Array Value} {A : Nat → Nat} {dT : Nat → ClassId} {s : PS}
end M86
end
