/-! The class: the way round a storm, mends -/
/-- what the Statement gives of the static row RISING -/
def RS0 (s0 : State) : Prop := ∃ t : Nat, va_Z "SkyCuts$Storm" "RISING" "[I" (.ref t) (mb_F s0) s0 s0.heap ∧ va_T .int t 6 (fun j => .int (([5, 3, 1, 0, 2, 4] : List Int32).getD j 0)) (mb_F s0) s0 s0.heap
section ZR8
variable {k : kx_T} {mn pc : Nat} {dT : Nat → ClassId} {lv : List (Nat × Value)} {st : List Value} {ws : va_W} {ce sl a b a' b' q1 : Nat} {z z' : Int}
theorem z_ris (X : AX k 95 dT) (hZ : va_Z "SkyCuts$Storm" "RISING" "[I" (.ref q1) (mb_F (kS0 k)) (kS0 k) (kS0 k).heap) (g : WS k 3 lv (.ref q1 :: st) ws ce sl) : WS k 0 lv st ws ce sl := by
  intro H locs ls hP hD hS hlv
  exact va_gets (C := "SkyCuts$Storm") (ref := "SkyCuts$Storm") (n := "RISING") (d := "[I") (own := kOwn k) (index := 155) (A := kF k) X.1.1 X.1.2.1 ((hZ.moved X.1.2.2.2.2.1.alike).kept (fun a ha _ => X.1.2.2.2.2.2.2.2.1 a ha)) hS X.1.2.2.2.1 (kx_wd X.1 (Cond.fieldLink (kOwn k) 155 "SkyCuts$Storm" "RISING" "[I") (by rw [X.2.1.2.1]; exact chkW_ok (p := (7, 149)) (by decide +kernel))) (fun x h => h) (show decode (kCc k) 0 = .ok (.getstatic 155, 3) by rw [X.2.1.1]; decide +kernel) (g H locs ls hP hD hS hlv)
theorem kx_T0 (C : kx_ok k) {ty : FieldType} {t N : Nat} {f : Nat → Value} (h : va_T ty t N f (mb_F (kS0 k)) (kS0 k) (kS0 k).heap) : va_T ty t N f (kF k) (kS k) (kS k).heap := (h.moved C.2.2.2.2.1.alike).kept (fun a ha _ => C.2.2.2.2.2.2.2.1 a ha)
theorem z_tlen (X : AX k mn dT) {ty : FieldType} {t N : Nat} {f : Nat → Value} (h : cdA mn pc = some (.arraylength, 1, a, b, z)) (hT : va_T ty t N f (mb_F (kS0 k)) (kS0 k) (kS0 k).heap) {n : Int} (hn : Int32.ofNat N = Int32.ofInt n) (g : WS k (pc + 1) lv (.int (Int32.ofInt n) :: st) ws ce sl) : WS k pc lv (.ref t :: st) ws ce sl :=
  fun H locs ls hP hD hS hlv => va_tlen X.1.1 X.1.2.1 (kx_T0 X.1 hT) hS hn (ax_d X h) (g H locs ls hP hD hS hlv)
theorem z_rald (X : AX k mn dT) {i : Int} (h : cdA mn pc = some (.iaload, 1, a, b, z)) (hT : va_T .int q1 6 (fun j => .int (([5, 3, 1, 0, 2, 4] : List Int32).getD j 0)) (mb_F (kS0 k)) (kS0 k) (kS0 k).heap) (h0 : 0 ≤ i) (hi : i < 6) (g : ∀ e : Int, 0 ≤ e → e ≤ 5 → WS k (pc + 1) lv (.int (Int32.ofInt e) :: st) ws ce sl) : WS k pc lv (.int (Int32.ofInt i) :: .ref q1 :: st) ws ce sl := by
  intro H locs ls hP hD hS hlv
  rcases (show i = 0 ∨ i = 1 ∨ i = 2 ∨ i = 3 ∨ i = 4 ∨ i = 5 by omega) with e | e | e | e | e | e <;> subst e
  · exact va_ti (v := .int (Int32.ofInt 5)) X.1.1 X.1.2.1 (kx_T0 X.1 hT) hS (by unfold vp_in; decide +kernel) (congrArg Value.int (show ([5, 3, 1, 0, 2, 4] : List Int32).getD (Int32.ofInt 0).toNatClampNeg 0 = Int32.ofInt 5 by decide +kernel)) (ax_d X h) (g 5 (by decide) (by decide) H locs ls hP hD hS hlv)
  · exact va_ti (v := .int (Int32.ofInt 3)) X.1.1 X.1.2.1 (kx_T0 X.1 hT) hS (by unfold vp_in; decide +kernel) (congrArg Value.int (show ([5, 3, 1, 0, 2, 4] : List Int32).getD (Int32.ofInt 1).toNatClampNeg 0 = Int32.ofInt 3 by decide +kernel)) (ax_d X h) (g 3 (by decide) (by decide) H locs ls hP hD hS hlv)
  · exact va_ti (v := .int (Int32.ofInt 1)) X.1.1 X.1.2.1 (kx_T0 X.1 hT) hS (by unfold vp_in; decide +kernel) (congrArg Value.int (show ([5, 3, 1, 0, 2, 4] : List Int32).getD (Int32.ofInt 2).toNatClampNeg 0 = Int32.ofInt 1 by decide +kernel)) (ax_d X h) (g 1 (by decide) (by decide) H locs ls hP hD hS hlv)
  · exact va_ti (v := .int (Int32.ofInt 0)) X.1.1 X.1.2.1 (kx_T0 X.1 hT) hS (by unfold vp_in; decide +kernel) (congrArg Value.int (show ([5, 3, 1, 0, 2, 4] : List Int32).getD (Int32.ofInt 3).toNatClampNeg 0 = Int32.ofInt 0 by decide +kernel)) (ax_d X h) (g 0 (by decide) (by decide) H locs ls hP hD hS hlv)
  · exact va_ti (v := .int (Int32.ofInt 2)) X.1.1 X.1.2.1 (kx_T0 X.1 hT) hS (by unfold vp_in; decide +kernel) (congrArg Value.int (show ([5, 3, 1, 0, 2, 4] : List Int32).getD (Int32.ofInt 4).toNatClampNeg 0 = Int32.ofInt 2 by decide +kernel)) (ax_d X h) (g 2 (by decide) (by decide) H locs ls hP hD hS hlv)
  · exact va_ti (v := .int (Int32.ofInt 4)) X.1.1 X.1.2.1 (kx_T0 X.1 hT) hS (by unfold vp_in; decide +kernel) (congrArg Value.int (show ([5, 3, 1, 0, 2, 4] : List Int32).getD (Int32.ofInt 5).toNatClampNeg 0 = Int32.ofInt 4 by decide +kernel)) (ax_d X h) (g 4 (by decide) (by decide) H locs ls hP hD hS hlv)
theorem sh_sm_ : ∀ n : Nat, n < 12 → ((Int32.ofInt (n : Int) &&& 31).toBitVec.smod 32).toNat = n := by decide +kernel
theorem sh_nat_ (k : Nat) : (Int32.ofInt (k : Int)).toBitVec = BitVec.ofNat 32 k := by
  rw [Int32.toBitVec_ofInt, BitVec.ofInt_natCast]
theorem shr_n_ {m n : Nat} (hn : n < 12) : (Int32.ofInt (m : Int) >>> (Int32.ofInt (n : Int) &&& 31)) &&& Int32.ofInt 1 = Int32.ofInt ((m / 2 ^ n % 2 : Nat) : Int) := by
  have e := sh_sm_ n hn
  have hq : m / 2 ^ n % 2 < 2 := Nat.mod_lt _ (by decide)
  have hb : m.testBit n = decide (m / 2 ^ n % 2 = 1) := Nat.testBit_eq_decide_div_mod_eq
  generalize m / 2 ^ n % 2 = r at hq hb ⊢
  have b0 : (Int32.ofInt (m : Int) >>> (Int32.ofInt (n : Int) &&& 31)).toBitVec.getLsbD 0 = m.testBit n := by
    rw [Int32.toBitVec_shiftRight, BitVec.getLsbD_sshiftRight', e]
    simp only [Nat.add_zero]
    rw [if_pos (show n < 32 by omega), sh_nat_, BitVec.getLsbD_ofNat, decide_eq_true (show n < 32 by omega)]
    simp
  apply Int32.toBitVec.inj
  apply BitVec.eq_of_getLsbD_eq
  intro i hi
  have o : (Int32.ofInt 1).toBitVec.getLsbD i = decide (i = 0) := by
    have e1 : (Int32.ofInt 1).toBitVec = 1#32 := by decide
    rw [e1, BitVec.getLsbD_one]
    simp
  rw [Int32.toBitVec_and, BitVec.getLsbD_and, o, sh_nat_, BitVec.getLsbD_ofNat, decide_eq_true hi, Bool.true_and]
  by_cases c : i = 0
  · subst c
    rw [b0, decide_eq_true rfl, Bool.and_true, hb, Nat.testBit_zero, Nat.mod_eq_of_lt hq]
  · rw [decide_eq_false c, Bool.and_false]
    symm
    apply Nat.testBit_lt_two_pow
    exact Nat.lt_of_lt_of_le hq (Nat.pow_le_pow_right (n := 2) (by decide) (show 1 ≤ i by omega))
theorem shr_v {x y : Int} (hx : 0 ≤ x ∧ x ≤ 4095) (h : 0 ≤ y ∧ y ≤ 11) : (Int32.ofInt x >>> (Int32.ofInt y &&& 31)) &&& Int32.ofInt 1 = Int32.ofInt (x / 2 ^ y.toNat % 2) := by
  have ex : ((x.toNat : Nat) : Int) = x := by omega
  have ey : ((y.toNat : Nat) : Int) = y := by omega
  have h9 := shr_n_ (m := x.toNat) (n := y.toNat) (by omega)
  have h8 := cast_bit x.toNat y.toNat
  rw [h8, ex, ey] at h9
  exact h9
theorem z_bit (X : AX k mn dT) {x y : Int} (h : cdA mn pc = some (.ishr, 1, a, b, z)) (h1 : cdA mn (pc + 1) = some (.iconst 1, 1, 0, 0, 0)) (h' : cdA mn (pc + 1 + 1) = some (.iand, 1, a', b', z')) (hx : 0 ≤ x ∧ x ≤ 4095) (hy : 0 ≤ y ∧ y ≤ 11) (g : ∀ e : Int, 0 ≤ e → e ≤ 1 → bcn x (y + 1).toNat = bcn x y.toNat + e → bcn x (y + 1).toNat ≤ bcn x 12 → WS k (pc + 1 + 1 + 1) lv (.int (Int32.ofInt e) :: st) ws ce sl) : WS k pc lv (.int (Int32.ofInt y) :: .int (Int32.ofInt x) :: st) ws ce sl := by
  refine z_bshr X h ?_
  refine w_iconst X.1 (ax_d X h1) ?_
  refine w_iand X.1 (ax_d X h') ?_
  rw [shr_v hx hy]
  have h0 : 0 ≤ x / 2 ^ y.toNat % 2 := Int.emod_nonneg _ (by decide)
  have h2 : x / 2 ^ y.toNat % 2 < 2 := Int.emod_lt_of_pos _ (by decide)
  have e1 : (y + 1).toNat = y.toNat + 1 := by omega
  refine g _ h0 (by omega) (by rw [e1]; rfl) (bcn_mono (by omega))
end ZR8
section M83
variable {l : Launch} {s0 : State} {D : va_G} {tys : List (ClassId × FieldType)} {a0 : Array Value} {A : Nat → Nat} {dT : Nat → ClassId} {s : PS}
set_option maxRecDepth 4000 in
theorem c8_nearerThan_67 (G : GX l s0 D tys a0 dT) (GR : RS0 s0) (I : Bd s) {x : Int} (p0 : 0 ≤ x ∧ x ≤ 127) : CT l s0 D A dT 95 (rmN 95) [.ref (A 67), .int (Int32.ofInt x)] s (fun o t => Bd t ∧ Fm [] [] s t ∧ ∃ e, o = .inl (some (.int (Int32.ofInt e))) ∧ rng e ∧ (0 ≤ e ∧ e ≤ 127)) := by
  refine ct_ofX G (by decide) (Nat.le_of_ble_eq_true rfl) (fun k X E ET hRt hXt q => ?_)
  show WS k 0 [(0, .ref (A 67)), (1, .int (Int32.ofInt x))] [] _ 0 0
  have F : Fm [] [] s s := fm_rf _ _ s
  obtain ⟨q1, hZ1, hT1⟩ := GR
  rw [← E.2.1] at hZ1 hT1
  have L10 : ∀ (n : Nat) (t : PS) (xv ln c : Int), Bd t → Fm [] [] s t → ((0 ≤ xv ∧ xv ≤ 127) ∧ ln = 6 ∧ 0 ≤ c ∧ c ≤ 6) → (6 - c : Int).toNat < n → (∀ (t' : PS) (c' : Int), Bd t' → Fm [] [] s t' → ((0 ≤ xv ∧ xv ≤ 127) ∧ ln = 6 ∧ 0 ≤ c' ∧ c' ≤ 6) → WS k 63 [(0, .ref (A 67)), (2, .ref q1), (1, .int (Int32.ofInt xv)), (3, .int (Int32.ofInt ln)), (4, .int (Int32.ofInt c'))] [] (Wd A dT t') 0 0) → WS k 10 [(0, .ref (A 67)), (2, .ref q1), (1, .int (Int32.ofInt xv)), (3, .int (Int32.ofInt ln)), (4, .int (Int32.ofInt c))] [] (Wd A dT t) 0 0 := by
    intro n
    induction n with
    | zero =>
      intro t xv ln c I F hi hm kx
      exact absurd hm (Nat.not_lt_zero _)
    | succ n ih =>
      intro t xv ln c I F hi hm kx
      refine z_load X (x := c) (show cdA 95 10 = some (.iload 4, 2, 0, 0, 0) from rfl) (List.Mem.tail _ (List.Mem.tail _ (List.Mem.tail _ (List.Mem.tail _ (List.Mem.head _))))) ?_
      refine z_load_n X (x := ln) (show cdA 95 12 = some (.iload_n 3, 1, 0, 0, 0) from rfl) (List.Mem.tail _ (List.Mem.tail _ (List.Mem.tail _ (List.Mem.head _)))) ?_
      refine z_icmp_ge X (t := 63) (show cdA 95 13 = some (.if_icmp .ge 50, 3, 3, 0, 0) from rfl) (by decide) ⟨by first | exact oq_fa4e5087 hi.2.2.1 | omega, by first | exact oq_b301c3bf hi.2.2.2 | omega⟩ ⟨by first | exact oq_8ee220ae hi.2.1 | omega, by first | exact oq_74760936 hi.2.1 | omega⟩ (fun g1001 => ?_) (fun g1001 => ?_)
      ·
        refine WS_lv (lv := [(0, .ref (A 67)), (2, .ref q1), (1, .int (Int32.ofInt xv)), (3, .int (Int32.ofInt ln)), (4, .int (Int32.ofInt c))]) (List.forall_mem_cons.mpr ⟨(List.Mem.head _), (List.forall_mem_cons.mpr ⟨(List.Mem.tail _ (List.Mem.head _)), (List.forall_mem_cons.mpr ⟨(List.Mem.tail _ (List.Mem.tail _ (List.Mem.head _))), (List.forall_mem_cons.mpr ⟨(List.Mem.tail _ (List.Mem.tail _ (List.Mem.tail _ (List.Mem.head _)))), (List.forall_mem_cons.mpr ⟨(List.Mem.tail _ (List.Mem.tail _ (List.Mem.tail _ (List.Mem.tail _ (List.Mem.head _))))), (fun q h => absurd h List.not_mem_nil)⟩)⟩)⟩)⟩)⟩) ?_
        exact kx _ c I F (by first | exact ⟨And.intro (hi.1.1) (hi.1.2), hi.2.1, hi.2.2.1, hi.2.2.2⟩ | omega)
      ·
        refine z_aload_n X (x := q1) (show cdA 95 16 = some (.aload_n 2, 1, 0, 0, 0) from rfl) (List.Mem.tail _ (List.Mem.head _)) ?_
        refine z_load X (x := c) (show cdA 95 17 = some (.iload 4, 2, 0, 0, 0) from rfl) (List.Mem.tail _ (List.Mem.tail _ (List.Mem.tail _ (List.Mem.tail _ (List.Mem.head _))))) ?_
        refine z_rald X (show cdA 95 19 = some (.iaload, 1, 0, 0, 0) from rfl) hT1 (by omega) (show c < 6 by omega) (fun e1002 he1002 ie1002 => ?_)
        refine z_store X (lv' := [(5, .int (Int32.ofInt e1002)), (0, .ref (A 67)), (2, .ref q1), (1, .int (Int32.ofInt xv)), (3, .int (Int32.ofInt ln)), (4, .int (Int32.ofInt c))]) (show cdA 95 20 = some (.istore 5, 2, 0, 0, 0) from rfl) (by decide) (fun _ h => h) ?_
        refine z_load_n X (x := xv) (show cdA 95 22 = some (.iload_n 1, 1, 0, 0, 0) from rfl) (List.Mem.tail _ (List.Mem.tail _ (List.Mem.tail _ (List.Mem.head _)))) ?_
        refine z_load X (x := e1002) (show cdA 95 23 = some (.iload 5, 2, 0, 0, 0) from rfl) (List.Mem.head _) ?_
        refine z_callS X (rm := rmN 100) (As := [.int (Int32.ofInt xv), .int (Int32.ofInt e1002)]) (st := []) (show cdA 95 25 = some (.invokestatic 152, 3, 100, 1, 0) from rfl) rfl (by rw [E.1, E.2.1, E.2.2.1]; exact c9_stepFrom G I (by first | exact ⟨hi.1.1, hi.1.2⟩ | omega) (by omega)) ⟨by rw [E.2.2.2]; exact (show (rmN 100).frames + 1 ≤ (rmN 95).frames by decide), by rw [E.2.2.2]; exact (show 8 + (mNL (miB 100) + 11) + (rmN 100).locals ≤ (rmN 95).locals by decide), by rw [E.2.2.2]; exact (show 0 + (rmN 100).cells ≤ (rmN 95).cells by decide), by rw [E.2.2.2]; exact (show 0 + (rmN 100).slots ≤ (rmN 95).slots by decide)⟩ (Nat.le_of_ble_eq_true rfl) (fun vv s1003 hq => ?_) (fun ee s1003 hq => ?_)
        rotate_left
        · obtain ⟨rfl, e1004, hv, hrs1003, hps1003⟩ := hq; cases hv
        obtain ⟨rfl, e1004, hv, hrs1003, hps1003⟩ := hq
        cases hv
        show WS k 28 [(5, .int (Int32.ofInt e1002)), (0, .ref (A 67)), (2, .ref q1), (1, .int (Int32.ofInt xv)), (3, .int (Int32.ofInt ln)), (4, .int (Int32.ofInt c))] [.int (Int32.ofInt e1004)] (Wd A dT t) 0 0
        refine z_store X (lv' := [(6, .int (Int32.ofInt e1004)), (5, .int (Int32.ofInt e1002)), (0, .ref (A 67)), (2, .ref q1), (1, .int (Int32.ofInt xv)), (3, .int (Int32.ofInt ln)), (4, .int (Int32.ofInt c))]) (show cdA 95 28 = some (.istore 6, 2, 0, 0, 0) from rfl) (by decide) (fun _ h => h) ?_
        refine z_load X (x := e1004) (show cdA 95 30 = some (.iload 6, 2, 0, 0, 0) from rfl) (List.Mem.head _) ?_
        refine z_const X (show cdA 95 32 = some (.iconst (-1), 1, 0, 0, 0) from rfl) ?_
        refine z_icmp_eq X (t := 57) (show cdA 95 33 = some (.if_icmp .eq 24, 3, 0, 0, 0) from rfl) (by decide) hrs1003 (by decide) (fun g1005 => ?_) (fun g1005 => ?_)
        ·
          refine z_inc X (x := c) (lv' := [(4, .int (Int32.ofInt (c + 1))), (6, .int (Int32.ofInt e1004)), (5, .int (Int32.ofInt e1002)), (0, .ref (A 67)), (2, .ref q1), (1, .int (Int32.ofInt xv)), (3, .int (Int32.ofInt ln))]) (show cdA 95 57 = some (.iinc 4 1, 3, 0, 0, 0) from rfl) (by decide) (List.Mem.tail _ (List.Mem.tail _ (List.Mem.tail _ (List.Mem.tail _ (List.Mem.tail _ (List.Mem.tail _ (List.Mem.head _))))))) (fun _ h => h) ?_
          refine z_goto X (t := 10) (show cdA 95 60 = some (.goto (-50), 3, 0, 0, 0) from rfl) (by decide) ?_
          refine WS_lv (lv := [(0, .ref (A 67)), (2, .ref q1), (1, .int (Int32.ofInt xv)), (3, .int (Int32.ofInt ln)), (4, .int (Int32.ofInt (c + 1)))]) (List.forall_mem_cons.mpr ⟨(List.Mem.tail _ (List.Mem.tail _ (List.Mem.tail _ (List.Mem.head _)))), (List.forall_mem_cons.mpr ⟨(List.Mem.tail _ (List.Mem.tail _ (List.Mem.tail _ (List.Mem.tail _ (List.Mem.head _))))), (List.forall_mem_cons.mpr ⟨(List.Mem.tail _ (List.Mem.tail _ (List.Mem.tail _ (List.Mem.tail _ (List.Mem.tail _ (List.Mem.head _)))))), (List.forall_mem_cons.mpr ⟨(List.Mem.tail _ (List.Mem.tail _ (List.Mem.tail _ (List.Mem.tail _ (List.Mem.tail _ (List.Mem.tail _ (List.Mem.head _))))))), (List.forall_mem_cons.mpr ⟨(List.Mem.head _), (fun q h => absurd h List.not_mem_nil)⟩)⟩)⟩)⟩)⟩) ?_
          exact ih _ xv ln (c + 1) I F (by first | exact ⟨And.intro (hi.1.1) (hi.1.2), hi.2.1, oq_54f49eb5 hi.2.2.1, oq_1b4f739f g1001 hi.2.1⟩ | omega) (by first | exact qk_me hm (by decide) (oq_cdf22f39 g1001 hi.2.1) | omega) kx
        ·
          refine z_aload_n X (x := A 67) (show cdA 95 36 = some (.aload_n 0, 1, 0, 0, 0) from rfl) (List.Mem.tail _ (List.Mem.tail _ (List.Mem.head _))) ?_
          refine s_getR X 67 (show cdA 95 37 = some (.getfield 40, 3, 8, 15, 0) from rfl) (by decide) rfl rfl ?_
          refine z_load X (x := e1004) (show cdA 95 40 = some (.iload 6, 2, 0, 0, 0) from rfl) (List.Mem.head _) ?_
          refine z_ald X 90 (show cdA 95 42 = some (.iaload, 1, 0, 0, 0) from rfl) (by decide) rfl (by first | exact oq_7a1025bf g1005 hps1003.1 | omega) (show e1004 < 128 by first | exact oq_31b2bf10 hps1003.2 | omega) (by decide) ?_
          have b1006 : ((-2147483648) : Int) ≤ iC t 77 (e1004).toNat ∧ iC t 77 (e1004).toNat ≤ 2147483647 := I.2 77 _ (show (e1004).toNat < 128 by first | exact oq_c7f4e9c1 hps1003.2 | omega)
          refine z_aload_n X (x := A 67) (show cdA 95 43 = some (.aload_n 0, 1, 0, 0, 0) from rfl) (List.Mem.tail _ (List.Mem.tail _ (List.Mem.head _))) ?_
          refine s_getR X 67 (show cdA 95 44 = some (.getfield 40, 3, 8, 15, 0) from rfl) (by decide) rfl rfl ?_
          refine z_load_n X (x := xv) (show cdA 95 47 = some (.iload_n 1, 1, 0, 0, 0) from rfl) (List.Mem.tail _ (List.Mem.tail _ (List.Mem.tail _ (List.Mem.tail _ (List.Mem.head _))))) ?_
          refine z_ald X 90 (show cdA 95 48 = some (.iaload, 1, 0, 0, 0) from rfl) (by decide) rfl (by first | exact hi.1.1 | omega) (show xv < 128 by first | exact oq_31b2bf10 hi.1.2 | omega) (by decide) ?_
          have b1007 : ((-2147483648) : Int) ≤ iC t 77 (xv).toNat ∧ iC t 77 (xv).toNat ≤ 2147483647 := I.2 77 _ (show (xv).toNat < 128 by first | exact oq_c7f4e9c1 hi.1.2 | omega)
          refine z_const X (show cdA 95 49 = some (.iconst 1, 1, 0, 0, 0) from rfl) ?_
          refine z_sub X (show cdA 95 50 = some (.isub, 1, 0, 0, 0) from rfl) ?_
          refine z_any (fun y1008 hy1008 => ?_)
          refine z_icmp_ne X (t := 57) (show cdA 95 51 = some (.if_icmp .ne 6, 3, 1, 0, 0) from rfl) (by decide) (rng_to _) hy1008 (fun g1009 => ?_) (fun g1009 => ?_)
          ·
            refine z_inc X (x := c) (lv' := [(4, .int (Int32.ofInt (c + 1))), (6, .int (Int32.ofInt e1004)), (5, .int (Int32.ofInt e1002)), (0, .ref (A 67)), (2, .ref q1), (1, .int (Int32.ofInt xv)), (3, .int (Int32.ofInt ln))]) (show cdA 95 57 = some (.iinc 4 1, 3, 0, 0, 0) from rfl) (by decide) (List.Mem.tail _ (List.Mem.tail _ (List.Mem.tail _ (List.Mem.tail _ (List.Mem.tail _ (List.Mem.tail _ (List.Mem.head _))))))) (fun _ h => h) ?_
            refine z_goto X (t := 10) (show cdA 95 60 = some (.goto (-50), 3, 0, 0, 0) from rfl) (by decide) ?_
            refine WS_lv (lv := [(0, .ref (A 67)), (2, .ref q1), (1, .int (Int32.ofInt xv)), (3, .int (Int32.ofInt ln)), (4, .int (Int32.ofInt (c + 1)))]) (List.forall_mem_cons.mpr ⟨(List.Mem.tail _ (List.Mem.tail _ (List.Mem.tail _ (List.Mem.head _)))), (List.forall_mem_cons.mpr ⟨(List.Mem.tail _ (List.Mem.tail _ (List.Mem.tail _ (List.Mem.tail _ (List.Mem.head _))))), (List.forall_mem_cons.mpr ⟨(List.Mem.tail _ (List.Mem.tail _ (List.Mem.tail _ (List.Mem.tail _ (List.Mem.tail _ (List.Mem.head _)))))), (List.forall_mem_cons.mpr ⟨(List.Mem.tail _ (List.Mem.tail _ (List.Mem.tail _ (List.Mem.tail _ (List.Mem.tail _ (List.Mem.tail _ (List.Mem.head _))))))), (List.forall_mem_cons.mpr ⟨(List.Mem.head _), (fun q h => absurd h List.not_mem_nil)⟩)⟩)⟩)⟩)⟩) ?_
            exact ih _ xv ln (c + 1) I F (by first | exact ⟨And.intro (hi.1.1) (hi.1.2), hi.2.1, oq_54f49eb5 hi.2.2.1, oq_1b4f739f g1001 hi.2.1⟩ | omega) (by first | exact qk_me hm (by decide) (oq_cdf22f39 g1001 hi.2.1) | omega) kx
          ·
            refine z_load X (x := e1004) (show cdA 95 54 = some (.iload 6, 2, 0, 0, 0) from rfl) (List.Mem.head _) ?_
            exact w_iret X.1 q hRt rfl (ax_d X (show cdA 95 56 = some (.ireturn, 1, 0, 0, 0) from rfl)) (Nat.zero_le _) (Nat.zero_le _) ⟨_, rfl, I, F, e1004, rfl, hrs1003, by first | exact ⟨oq_7a1025bf g1005 hps1003.1, hps1003.2⟩ | omega⟩
  refine z_ris X hZ1 ?_
  refine z_astore_n X (lv' := [(2, .ref q1), (0, .ref (A 67)), (1, .int (Int32.ofInt x))]) (show cdA 95 3 = some (.astore_n 2, 1, 0, 0, 0) from rfl) (by decide) (fun _ h => h) ?_
  refine z_aload_n X (x := q1) (show cdA 95 4 = some (.aload_n 2, 1, 0, 0, 0) from rfl) (List.Mem.head _) ?_
  refine z_tlen X (show cdA 95 5 = some (.arraylength, 1, 0, 0, 0) from rfl) hT1 (n := 6) rfl ?_
  refine z_store_n X (lv' := [(3, .int (Int32.ofInt 6)), (2, .ref q1), (0, .ref (A 67)), (1, .int (Int32.ofInt x))]) (show cdA 95 6 = some (.istore_n 3, 1, 0, 0, 0) from rfl) (by decide) (fun _ h => h) ?_
  refine z_const X (show cdA 95 7 = some (.iconst 0, 1, 0, 0, 0) from rfl) ?_
  refine z_store X (lv' := [(4, .int (Int32.ofInt 0)), (3, .int (Int32.ofInt 6)), (2, .ref q1), (0, .ref (A 67)), (1, .int (Int32.ofInt x))]) (show cdA 95 8 = some (.istore 4, 2, 0, 0, 0) from rfl) (by decide) (fun _ h => h) ?_
  refine WS_lv (lv := [(0, .ref (A 67)), (2, .ref q1), (1, .int (Int32.ofInt x)), (3, .int (Int32.ofInt 6)), (4, .int (Int32.ofInt 0))]) (List.forall_mem_cons.mpr ⟨(List.Mem.tail _ (List.Mem.tail _ (List.Mem.tail _ (List.Mem.head _)))), (List.forall_mem_cons.mpr ⟨(List.Mem.tail _ (List.Mem.tail _ (List.Mem.head _))), (List.forall_mem_cons.mpr ⟨(List.Mem.tail _ (List.Mem.tail _ (List.Mem.tail _ (List.Mem.tail _ (List.Mem.head _))))), (List.forall_mem_cons.mpr ⟨(List.Mem.tail _ (List.Mem.head _)), (List.forall_mem_cons.mpr ⟨(List.Mem.head _), (fun q h => absurd h List.not_mem_nil)⟩)⟩)⟩)⟩)⟩) ?_
  refine L10 ((6 - 0 : Int).toNat + 1) s x 6 0 I F (by first | exact ⟨And.intro (p0.1) (p0.2), by decide, by decide, by decide⟩ | omega) (Nat.lt_succ_self _) ?_
  intro s1 x2 Is1 Fs1 hs1
  refine z_load_n X (x := x) (show cdA 95 63 = some (.iload_n 1, 1, 0, 0, 0) from rfl) (List.Mem.tail _ (List.Mem.tail _ (List.Mem.head _))) ?_
  exact w_iret X.1 q hRt rfl (ax_d X (show cdA 95 64 = some (.ireturn, 1, 0, 0, 0) from rfl)) (Nat.zero_le _) (Nat.zero_le _) ⟨_, rfl, Is1, Fs1, x, rfl, ⟨by first | exact oq_fa4e5087 hs1.1.1 | omega, by first | exact oq_07d346ce hs1.1.2 | omega⟩, by first | exact ⟨hs1.1.1, hs1.1.2⟩ | omega⟩
set_option maxRecDepth 4000 in
theorem c8_findRound_67 (G : GX l s0 D tys a0 dT) (GR : RS0 s0) (I : Bd s) {x y : Int} (p0 : -1 ≤ x ∧ x ≤ 127) (p1 : -1 ≤ y ∧ y ≤ 127) : CT l s0 D A dT 93 (rmN 93) [.ref (A 67), .int (Int32.ofInt x), .int (Int32.ofInt y)] s (fun o t => Bd t ∧ Fm [] [77, 78, 79] s t ∧ ∃ e, o = .inl (some (.int (Int32.ofInt e))) ∧ rng e ∧ (0 ≤ e ∧ e ≤ 24)) := by
  refine ct_ofX G (by decide) (Nat.le_of_ble_eq_true rfl) (fun k X E ET hRt hXt q => ?_)
  show WS k 0 [(0, .ref (A 67)), (1, .int (Int32.ofInt x)), (2, .int (Int32.ofInt y))] [] _ 0 0
  have F : Fm [] [77, 78, 79] s s := fm_rf _ _ s
  have L65 : ∀ (n : Nat) (t : PS) (ln c : Int), Bd t → Fm [] [77, 78, 79] s t → ((1 ≤ ln ∧ ln ≤ 24) ∧ 1 ≤ c ∧ c ≤ 24) → (24 - c : Int).toNat < n → (∀ (t' : PS) (c' : Int), Bd t' → Fm [] [77, 78, 79] s t' → ((1 ≤ ln ∧ ln ≤ 24) ∧ 1 ≤ c' ∧ c' ≤ 24) → WS k 97 [(0, .ref (A 67)), (3, .int (Int32.ofInt ln)), (4, .int (Int32.ofInt c'))] [] (Wd A dT t') 0 0) → WS k 65 [(0, .ref (A 67)), (3, .int (Int32.ofInt ln)), (4, .int (Int32.ofInt c))] [] (Wd A dT t) 0 0 := by
    intro n
    induction n with
    | zero =>
      intro t ln c I F hi hm kx
      exact absurd hm (Nat.not_lt_zero _)
    | succ n ih =>
      intro t ln c I F hi hm kx
      refine z_load X (x := c) (show cdA 93 65 = some (.iload 4, 2, 0, 0, 0) from rfl) (List.Mem.tail _ (List.Mem.tail _ (List.Mem.head _))) ?_
      refine z_load_n X (x := ln) (show cdA 93 67 = some (.iload_n 3, 1, 0, 0, 0) from rfl) (List.Mem.tail _ (List.Mem.head _)) ?_
      refine z_icmp_ge X (t := 97) (show cdA 93 68 = some (.if_icmp .ge 29, 3, 3, 0, 0) from rfl) (by decide) ⟨by first | exact oq_9462313e hi.2.1 | omega, by first | exact oq_5bcd337f hi.2.2 | omega⟩ ⟨by first | exact oq_9462313e hi.1.1 | omega, by first | exact oq_5bcd337f hi.1.2 | omega⟩ (fun g1001 => ?_) (fun g1001 => ?_)
      ·
        refine WS_lv (lv := [(0, .ref (A 67)), (3, .int (Int32.ofInt ln)), (4, .int (Int32.ofInt c))]) (List.forall_mem_cons.mpr ⟨(List.Mem.head _), (List.forall_mem_cons.mpr ⟨(List.Mem.tail _ (List.Mem.head _)), (List.forall_mem_cons.mpr ⟨(List.Mem.tail _ (List.Mem.tail _ (List.Mem.head _))), (fun q h => absurd h List.not_mem_nil)⟩)⟩)⟩) ?_
        exact kx _ c I F (by first | exact ⟨And.intro (hi.1.1) (hi.1.2), hi.2.1, hi.2.2⟩ | omega)
      ·
        refine z_aload_n X (x := A 67) (show cdA 93 71 = some (.aload_n 0, 1, 0, 0, 0) from rfl) (List.Mem.head _) ?_
        refine s_getR X 67 (show cdA 93 72 = some (.getfield 46, 3, 8, 17, 0) from rfl) (by decide) rfl rfl ?_
        refine z_load X (x := c) (show cdA 93 75 = some (.iload 4, 2, 0, 0, 0) from rfl) (List.Mem.tail _ (List.Mem.tail _ (List.Mem.head _))) ?_
        refine z_aload_n X (x := A 67) (show cdA 93 77 = some (.aload_n 0, 1, 0, 0, 0) from rfl) (List.Mem.head _) ?_
        refine z_aload_n X (x := A 67) (show cdA 93 78 = some (.aload_n 0, 1, 0, 0, 0) from rfl) (List.Mem.head _) ?_
        refine s_getR X 67 (show cdA 93 79 = some (.getfield 46, 3, 8, 17, 0) from rfl) (by decide) rfl rfl ?_
        refine z_load X (x := c) (show cdA 93 82 = some (.iload 4, 2, 0, 0, 0) from rfl) (List.Mem.tail _ (List.Mem.tail _ (List.Mem.head _))) ?_
        refine z_const X (show cdA 93 84 = some (.iconst 1, 1, 0, 0, 0) from rfl) ?_
        refine z_sub X (show cdA 93 85 = some (.isub, 1, 0, 0, 0) from rfl) ?_
        refine z_ald X 92 (show cdA 93 86 = some (.iaload, 1, 0, 0, 0) from rfl) (by decide) rfl (by first | exact oq_02aa5459 hi.2.1 | omega) (show (c - 1) < 24 by first | exact oq_19cb6f5b hi.2.2 | omega) (by decide) ?_
        have b1002 : (0 : Int) ≤ iC t 79 ((c - 1)).toNat ∧ iC t 79 ((c - 1)).toNat ≤ 127 := I.2 79 _ (show ((c - 1)).toNat < 24 by first | exact oq_f976b25c hi.2.2 | omega)
        refine z_callV X 67 (rm := rmN 95) (As := [.int (Int32.ofInt (iC t 79 ((c - 1)).toNat))]) (st := [.int (Int32.ofInt c), .ref (A 92)]) (show cdA 93 87 = some (.invokevirtual 148, 3, 95, 0, 0) from rfl) rfl (by decide) rfl (by rw [E.1, E.2.1, E.2.2.1]; exact c8_nearerThan_67 G GR I (by first | exact ⟨b1002.1, b1002.2⟩ | omega)) ⟨by rw [E.2.2.2]; exact (show (rmN 95).frames + 1 ≤ (rmN 93).frames by decide), by rw [E.2.2.2]; exact (show 8 + (mNL (miB 95) + 11) + (rmN 95).locals ≤ (rmN 93).locals by decide), by rw [E.2.2.2]; exact (show 0 + (rmN 95).cells ≤ (rmN 93).cells by decide), by rw [E.2.2.2]; exact (show 0 + (rmN 95).slots ≤ (rmN 93).slots by decide)⟩ (Nat.le_of_ble_eq_true rfl) (fun vv s1003 hq => ?_) (fun ee s1003 hq => ?_)
        rotate_left
        · obtain ⟨Is1003, Fs1003, e1004, hv, hrs1003, hps1003⟩ := hq; cases hv
        obtain ⟨Is1003, Fs1003, e1004, hv, hrs1003, hps1003⟩ := hq
        cases hv
        have Gs1003 := fm_ts F Fs1003 (by decide) (by decide)
        show WS k 90 [(0, .ref (A 67)), (3, .int (Int32.ofInt ln)), (4, .int (Int32.ofInt c))] [.int (Int32.ofInt e1004), .int (Int32.ofInt c), .ref (A 92)] (Wd A dT s1003) 0 0
        refine z_ast X 92 (show cdA 93 90 = some (.iastore, 1, 0, 0, 0) from rfl) (by decide) rfl (by first | exact oq_2a6e3b50 hi.2.1 | omega) (show c < 24 by first | exact oq_8ff7beb9 g1001 hi.1.2 | omega) (by decide) ?_
        obtain ⟨s1005, hs1005⟩ : ∃ x0, x0 = uC s1003 79 (c).toNat (Int32.ofInt e1004) := ⟨_, rfl⟩
        rw [← hs1005]
        have Is1005 : Bd s1005 := by rw [hs1005]; exact bd_C Is1003 (show (0 : Int) ≤ e1004 ∧ e1004 ≤ 127 by first | exact ⟨hps1003.1, hps1003.2⟩ | omega) hrs1003
        have Fs1005 := fm_C (i := (c).toNat) (x := Int32.ofInt e1004) Gs1003 (show 79 ∈ _ by decide)
        rw [← hs1005] at Fs1005
        refine z_inc X (x := c) (lv' := [(4, .int (Int32.ofInt (c + 1))), (0, .ref (A 67)), (3, .int (Int32.ofInt ln))]) (show cdA 93 91 = some (.iinc 4 1, 3, 0, 0, 0) from rfl) (by decide) (List.Mem.tail _ (List.Mem.tail _ (List.Mem.head _))) (fun _ h => h) ?_
        refine z_goto X (t := 65) (show cdA 93 94 = some (.goto (-29), 3, 0, 0, 0) from rfl) (by decide) ?_
        refine WS_lv (lv := [(0, .ref (A 67)), (3, .int (Int32.ofInt ln)), (4, .int (Int32.ofInt (c + 1)))]) (List.forall_mem_cons.mpr ⟨(List.Mem.tail _ (List.Mem.head _)), (List.forall_mem_cons.mpr ⟨(List.Mem.tail _ (List.Mem.tail _ (List.Mem.head _))), (List.forall_mem_cons.mpr ⟨(List.Mem.head _), (fun q h => absurd h List.not_mem_nil)⟩)⟩)⟩) ?_
        exact ih _ ln (c + 1) Is1005 Fs1005 (by first | exact ⟨And.intro (hi.1.1) (hi.1.2), oq_1e1a2df6 hi.2.1, oq_41473be0 g1001 hi.1.2⟩ | omega) (by first | exact qk_me hm (by decide) (oq_9dea93e6 g1001 hi.1.2) | omega) kx
  refine z_load_n X (x := x) (show cdA 93 0 = some (.iload_n 1, 1, 0, 0, 0) from rfl) (List.Mem.tail _ (List.Mem.head _)) ?_
  refine z_const X (show cdA 93 1 = some (.iconst (-1), 1, 0, 0, 0) from rfl) ?_
  refine z_icmp_eq X (t := 26) (show cdA 93 2 = some (.if_icmp .eq 24, 3, 0, 0, 0) from rfl) (by decide) ⟨by first | exact oq_97ee2c2a p0.1 | omega, by first | exact oq_07d346ce p0.2 | omega⟩ (by decide) (fun g1 => ?_) (fun g1 => ?_)
  ·
    refine z_const X (show cdA 93 26 = some (.iconst 0, 1, 0, 0, 0) from rfl) ?_
    exact w_iret X.1 q hRt rfl (ax_d X (show cdA 93 27 = some (.ireturn, 1, 0, 0, 0) from rfl)) (Nat.zero_le _) (Nat.zero_le _) ⟨_, rfl, I, F, 0, rfl, (by decide), by first | exact ⟨by decide, by decide⟩ | omega⟩
  ·
    refine z_load_n X (x := y) (show cdA 93 5 = some (.iload_n 2, 1, 0, 0, 0) from rfl) (List.Mem.tail _ (List.Mem.tail _ (List.Mem.head _))) ?_
    refine z_const X (show cdA 93 6 = some (.iconst (-1), 1, 0, 0, 0) from rfl) ?_
    refine z_icmp_eq X (t := 26) (show cdA 93 7 = some (.if_icmp .eq 19, 3, 0, 0, 0) from rfl) (by decide) ⟨by first | exact oq_97ee2c2a p1.1 | omega, by first | exact oq_07d346ce p1.2 | omega⟩ (by decide) (fun g2 => ?_) (fun g2 => ?_)
    ·
      refine z_const X (show cdA 93 26 = some (.iconst 0, 1, 0, 0, 0) from rfl) ?_
      exact w_iret X.1 q hRt rfl (ax_d X (show cdA 93 27 = some (.ireturn, 1, 0, 0, 0) from rfl)) (Nat.zero_le _) (Nat.zero_le _) ⟨_, rfl, I, F, 0, rfl, (by decide), by first | exact ⟨by decide, by decide⟩ | omega⟩
    ·
      refine z_aload_n X (x := A 67) (show cdA 93 10 = some (.aload_n 0, 1, 0, 0, 0) from rfl) (List.Mem.head _) ?_
      refine z_load_n X (x := x) (show cdA 93 11 = some (.iload_n 1, 1, 0, 0, 0) from rfl) (List.Mem.tail _ (List.Mem.head _)) ?_
      refine z_callV X 67 (rm := rmN 88) (As := [.int (Int32.ofInt x)]) (st := []) (show cdA 93 12 = some (.invokevirtual 59, 3, 88, 0, 0) from rfl) rfl (by decide) rfl (by rw [E.1, E.2.1, E.2.2.1]; exact c8_isShut_67 G I (by first | exact ⟨oq_7a1025bf g1 p0.1, p0.2⟩ | omega)) ⟨by rw [E.2.2.2]; exact (show (rmN 88).frames + 1 ≤ (rmN 93).frames by decide), by rw [E.2.2.2]; exact (show 8 + (mNL (miB 88) + 11) + (rmN 88).locals ≤ (rmN 93).locals by decide), by rw [E.2.2.2]; exact (show 0 + (rmN 88).cells ≤ (rmN 93).cells by decide), by rw [E.2.2.2]; exact (show 0 + (rmN 88).slots ≤ (rmN 93).slots by decide)⟩ (Nat.le_of_ble_eq_true rfl) (fun vv s3 hq => ?_) (fun ee s3 hq => ?_)
      rotate_left
      · obtain ⟨Is3, Fs3, e4, hv, hrs3, hps3⟩ := hq; cases hv
      obtain ⟨Is3, Fs3, e4, hv, hrs3, hps3⟩ := hq
      cases hv
      have Gs3 := fm_ts F Fs3 (by decide) (by decide)
      show WS k 15 [(0, .ref (A 67)), (1, .int (Int32.ofInt x)), (2, .int (Int32.ofInt y))] [.int (Int32.ofInt e4)] (Wd A dT s3) 0 0
      refine z_if_ne X (t := 26) (show cdA 93 15 = some (.ifCond .ne 11, 3, 1, 0, 0) from rfl) (by decide) hrs3 (fun g5 => ?_) (fun g5 => ?_)
      ·
        refine z_const X (show cdA 93 26 = some (.iconst 0, 1, 0, 0, 0) from rfl) ?_
        exact w_iret X.1 q hRt rfl (ax_d X (show cdA 93 27 = some (.ireturn, 1, 0, 0, 0) from rfl)) (Nat.zero_le _) (Nat.zero_le _) ⟨_, rfl, Is3, Gs3, 0, rfl, (by decide), by first | exact ⟨by decide, by decide⟩ | omega⟩
      ·
        refine z_aload_n X (x := A 67) (show cdA 93 18 = some (.aload_n 0, 1, 0, 0, 0) from rfl) (List.Mem.head _) ?_
        refine z_load_n X (x := y) (show cdA 93 19 = some (.iload_n 2, 1, 0, 0, 0) from rfl) (List.Mem.tail _ (List.Mem.tail _ (List.Mem.head _))) ?_
        refine z_callV X 67 (rm := rmN 88) (As := [.int (Int32.ofInt y)]) (st := []) (show cdA 93 20 = some (.invokevirtual 59, 3, 88, 0, 0) from rfl) rfl (by decide) rfl (by rw [E.1, E.2.1, E.2.2.1]; exact c8_isShut_67 G Is3 (by first | exact ⟨oq_7a1025bf g2 p1.1, p1.2⟩ | omega)) ⟨by rw [E.2.2.2]; exact (show (rmN 88).frames + 1 ≤ (rmN 93).frames by decide), by rw [E.2.2.2]; exact (show 8 + (mNL (miB 88) + 11) + (rmN 88).locals ≤ (rmN 93).locals by decide), by rw [E.2.2.2]; exact (show 0 + (rmN 88).cells ≤ (rmN 93).cells by decide), by rw [E.2.2.2]; exact (show 0 + (rmN 88).slots ≤ (rmN 93).slots by decide)⟩ (Nat.le_of_ble_eq_true rfl) (fun vv s6 hq => ?_) (fun ee s6 hq => ?_)
        rotate_left
        · obtain ⟨Is6, Fs6, e7, hv, hrs6, hps6⟩ := hq; cases hv
        obtain ⟨Is6, Fs6, e7, hv, hrs6, hps6⟩ := hq
        cases hv
        have Gs6 := fm_ts Gs3 Fs6 (by decide) (by decide)
        show WS k 23 [(0, .ref (A 67)), (1, .int (Int32.ofInt x)), (2, .int (Int32.ofInt y))] [.int (Int32.ofInt e7)] (Wd A dT s6) 0 0
        refine z_if_eq X (t := 28) (show cdA 93 23 = some (.ifCond .eq 5, 3, 0, 0, 0) from rfl) (by decide) hrs6 (fun g8 => ?_) (fun g8 => ?_)
        ·
          refine z_aload_n X (x := A 67) (show cdA 93 28 = some (.aload_n 0, 1, 0, 0, 0) from rfl) (List.Mem.head _) ?_
          refine z_load_n X (x := y) (show cdA 93 29 = some (.iload_n 2, 1, 0, 0, 0) from rfl) (List.Mem.tail _ (List.Mem.tail _ (List.Mem.head _))) ?_
          refine z_callV X 67 (rm := rmN 94) (As := [.int (Int32.ofInt y)]) (st := []) (show cdA 93 30 = some (.invokevirtual 144, 3, 94, 0, 0) from rfl) rfl (by decide) rfl (by rw [E.1, E.2.1, E.2.2.1]; exact c8_spreadFrom_67 G Is6 (by first | exact ⟨oq_7a1025bf g2 p1.1, p1.2⟩ | omega)) ⟨by rw [E.2.2.2]; exact (show (rmN 94).frames + 1 ≤ (rmN 93).frames by decide), by rw [E.2.2.2]; exact (show 8 + (mNL (miB 94) + 11) + (rmN 94).locals ≤ (rmN 93).locals by decide), by rw [E.2.2.2]; exact (show 0 + (rmN 94).cells ≤ (rmN 93).cells by decide), by rw [E.2.2.2]; exact (show 0 + (rmN 94).slots ≤ (rmN 93).slots by decide)⟩ (Nat.le_of_ble_eq_true rfl) (fun vv s9 hq => ?_) (fun ee s9 hq => ?_)
          rotate_left
          · obtain ⟨Is9, Fs9, hv, hps9⟩ := hq; cases hv
          obtain ⟨Is9, Fs9, hv, hps9⟩ := hq
          cases hv
          have Gs9 := fm_ts Gs6 Fs9 (by decide) (by decide)
          show WS k 33 [(0, .ref (A 67)), (1, .int (Int32.ofInt x)), (2, .int (Int32.ofInt y))] [] (Wd A dT s9) 0 0
          refine z_aload_n X (x := A 67) (show cdA 93 33 = some (.aload_n 0, 1, 0, 0, 0) from rfl) (List.Mem.head _) ?_
          refine s_getR X 67 (show cdA 93 34 = some (.getfield 40, 3, 8, 15, 0) from rfl) (by decide) rfl rfl ?_
          refine z_load_n X (x := x) (show cdA 93 37 = some (.iload_n 1, 1, 0, 0, 0) from rfl) (List.Mem.tail _ (List.Mem.head _)) ?_
          refine z_ald X 90 (show cdA 93 38 = some (.iaload, 1, 0, 0, 0) from rfl) (by decide) rfl (by first | exact oq_7a1025bf g1 p0.1 | omega) (show x < 128 by first | exact oq_31b2bf10 p0.2 | omega) (by decide) ?_
          have b11 : ((-2147483648) : Int) ≤ iC s9 77 (x).toNat ∧ iC s9 77 (x).toNat ≤ 2147483647 := Is9.2 77 _ (show (x).toNat < 128 by first | exact oq_c7f4e9c1 p0.2 | omega)
          refine z_const X (show cdA 93 39 = some (.iconst 1, 1, 0, 0, 0) from rfl) ?_
          refine z_add X (show cdA 93 40 = some (.iadd, 1, 0, 0, 0) from rfl) ?_
          refine z_any (fun y12 hy12 => ?_)
          refine z_store_n X (lv' := [(3, .int (Int32.ofInt y12)), (0, .ref (A 67)), (1, .int (Int32.ofInt x)), (2, .int (Int32.ofInt y))]) (show cdA 93 41 = some (.istore_n 3, 1, 0, 0, 0) from rfl) (by decide) (fun _ h => h) ?_
          refine z_load_n X (x := y12) (show cdA 93 42 = some (.iload_n 3, 1, 0, 0, 0) from rfl) (List.Mem.head _) ?_
          refine z_const X (show cdA 93 43 = some (.iconst 1, 1, 0, 0, 0) from rfl) ?_
          refine z_icmp_lt X (t := 53) (show cdA 93 44 = some (.if_icmp .lt 9, 3, 2, 0, 0) from rfl) (by decide) hy12 (by decide) (fun g13 => ?_) (fun g13 => ?_)
          ·
            refine z_const X (show cdA 93 53 = some (.iconst 0, 1, 0, 0, 0) from rfl) ?_
            exact w_iret X.1 q hRt rfl (ax_d X (show cdA 93 54 = some (.ireturn, 1, 0, 0, 0) from rfl)) (Nat.zero_le _) (Nat.zero_le _) ⟨_, rfl, Is9, Gs9, 0, rfl, (by decide), by first | exact ⟨by decide, by decide⟩ | omega⟩
          ·
            refine z_load_n X (x := y12) (show cdA 93 47 = some (.iload_n 3, 1, 0, 0, 0) from rfl) (List.Mem.head _) ?_
            refine z_bipush X (show cdA 93 48 = some (.bipush 24, 2, 0, 0, 24) from rfl) ?_
            refine z_icmp_le X (t := 55) (show cdA 93 50 = some (.if_icmp .le 5, 3, 5, 0, 0) from rfl) (by decide) hy12 (by decide) (fun g14 => ?_) (fun g14 => ?_)
            ·
              refine z_aload_n X (x := A 67) (show cdA 93 55 = some (.aload_n 0, 1, 0, 0, 0) from rfl) (List.Mem.tail _ (List.Mem.head _)) ?_
              refine s_getR X 67 (show cdA 93 56 = some (.getfield 46, 3, 8, 17, 0) from rfl) (by decide) rfl rfl ?_
              refine z_const X (show cdA 93 59 = some (.iconst 0, 1, 0, 0, 0) from rfl) ?_
              refine z_load_n X (x := x) (show cdA 93 60 = some (.iload_n 1, 1, 0, 0, 0) from rfl) (List.Mem.tail _ (List.Mem.tail _ (List.Mem.head _))) ?_
              refine z_ast X 92 (show cdA 93 61 = some (.iastore, 1, 0, 0, 0) from rfl) (by decide) rfl (by decide) (show 0 < 24 by decide) (by decide) ?_
              obtain ⟨s15, hs15⟩ : ∃ x0, x0 = uC s9 79 (0 : Int).toNat (Int32.ofInt x) := ⟨_, rfl⟩
              rw [← hs15]
              have Is15 : Bd s15 := by rw [hs15]; exact bd_C Is9 (show (0 : Int) ≤ x ∧ x ≤ 127 by first | exact ⟨oq_7a1025bf g1 p0.1, p0.2⟩ | omega) ⟨by first | exact oq_97ee2c2a p0.1 | omega, by first | exact oq_07d346ce p0.2 | omega⟩
              have Fs15 := fm_C (i := (0 : Int).toNat) (x := Int32.ofInt x) Gs9 (show 79 ∈ _ by decide)
              rw [← hs15] at Fs15
              refine z_const X (show cdA 93 62 = some (.iconst 1, 1, 0, 0, 0) from rfl) ?_
              refine z_store X (lv' := [(4, .int (Int32.ofInt 1)), (3, .int (Int32.ofInt y12)), (0, .ref (A 67)), (1, .int (Int32.ofInt x)), (2, .int (Int32.ofInt y))]) (show cdA 93 63 = some (.istore 4, 2, 0, 0, 0) from rfl) (by decide) (fun _ h => h) ?_
              refine WS_lv (lv := [(0, .ref (A 67)), (3, .int (Int32.ofInt y12)), (4, .int (Int32.ofInt 1))]) (List.forall_mem_cons.mpr ⟨(List.Mem.tail _ (List.Mem.tail _ (List.Mem.head _))), (List.forall_mem_cons.mpr ⟨(List.Mem.tail _ (List.Mem.head _)), (List.forall_mem_cons.mpr ⟨(List.Mem.head _), (fun q h => absurd h List.not_mem_nil)⟩)⟩)⟩) ?_
              refine L65 ((24 - 1 : Int).toNat + 1) s15 y12 1 Is15 Fs15 (by first | exact ⟨And.intro (g13) (g14), by decide, by decide⟩ | omega) (Nat.lt_succ_self _) ?_
              intro s16 x17 Is16 Fs16 hs16
              refine z_load_n X (x := y12) (show cdA 93 97 = some (.iload_n 3, 1, 0, 0, 0) from rfl) (List.Mem.tail _ (List.Mem.head _)) ?_
              exact w_iret X.1 q hRt rfl (ax_d X (show cdA 93 98 = some (.ireturn, 1, 0, 0, 0) from rfl)) (Nat.zero_le _) (Nat.zero_le _) ⟨_, rfl, Is16, Fs16, y12, rfl, hy12, by first | exact ⟨oq_2a6e3b50 hs16.1.1, hs16.1.2⟩ | omega⟩
            ·
              refine z_const X (show cdA 93 53 = some (.iconst 0, 1, 0, 0, 0) from rfl) ?_
              exact w_iret X.1 q hRt rfl (ax_d X (show cdA 93 54 = some (.ireturn, 1, 0, 0, 0) from rfl)) (Nat.zero_le _) (Nat.zero_le _) ⟨_, rfl, Is9, Gs9, 0, rfl, (by decide), by first | exact ⟨by decide, by decide⟩ | omega⟩
        ·
          refine z_const X (show cdA 93 26 = some (.iconst 0, 1, 0, 0, 0) from rfl) ?_
          exact w_iret X.1 q hRt rfl (ax_d X (show cdA 93 27 = some (.ireturn, 1, 0, 0, 0) from rfl)) (Nat.zero_le _) (Nat.zero_le _) ⟨_, rfl, Is6, Gs6, 0, rfl, (by decide), by first | exact ⟨by decide, by decide⟩ | omega⟩
set_option maxRecDepth 4000 in
theorem c8_layWays_67 (G : GX l s0 D tys a0 dT) (GR : RS0 s0) (I : Bd s) (p0 : bcn (iI s 40) 12 ≤ 8) : CT l s0 D A dT 92 (rmN 92) [.ref (A 67)] s (fun o t => Bd t ∧ Fm [43, 44, 46, 47, 49, 50, 52, 53, 55, 56, 58, 59, 61, 62, 64, 65, 67, 68] [57, 58, 67, 62, 77, 78, 79, 73, 87, 80, 81, 82, 83, 84, 85, 86, 96, 89, 90, 91, 92, 93, 94, 95, 105, 98, 99, 100, 101, 102, 103, 104, 114, 107, 108, 109, 110, 111, 112, 113, 123, 116, 117, 118, 119, 120, 121, 122, 132, 125, 126, 127, 128, 129, 130, 131, 141, 134, 135, 136, 137, 138, 139, 140, 150, 143, 144, 145, 146, 147, 148, 149, 1059, 1060, 1061, 1063] s t ∧ o = .inl none ∧ (True)) := by
  refine ct_ofX G (by decide) (Nat.le_of_ble_eq_true rfl) (fun k X E ET hRt hXt q => ?_)
  show WS k 0 [(0, .ref (A 67))] [] _ 0 0
  have F : Fm [43, 44, 46, 47, 49, 50, 52, 53, 55, 56, 58, 59, 61, 62, 64, 65, 67, 68] [57, 58, 67, 62, 77, 78, 79, 73, 87, 80, 81, 82, 83, 84, 85, 86, 96, 89, 90, 91, 92, 93, 94, 95, 105, 98, 99, 100, 101, 102, 103, 104, 114, 107, 108, 109, 110, 111, 112, 113, 123, 116, 117, 118, 119, 120, 121, 122, 132, 125, 126, 127, 128, 129, 130, 131, 141, 134, 135, 136, 137, 138, 139, 140, 150, 143, 144, 145, 146, 147, 148, 149, 1059, 1060, 1061, 1063] s s := fm_rf _ _ s
  have bz0 : bcn (iI s 40) (0 : Int).toNat = 0 := rfl
  have b1 : (0 : Int) ≤ iI s 9 ∧ iI s 9 ≤ 12 := I.1 9
  have b2 : (0 : Int) ≤ iI s 39 ∧ iI s 39 ≤ 23 := I.1 39
  have L18 : ∀ (n : Nat) (t : PS) (nx c : Int), Bd t → Fm [43, 44, 46, 47, 49, 50, 52, 53, 55, 56, 58, 59, 61, 62, 64, 65, 67, 68] [57, 58, 67, 62, 77, 78, 79, 73, 87, 80, 81, 82, 83, 84, 85, 86, 96, 89, 90, 91, 92, 93, 94, 95, 105, 98, 99, 100, 101, 102, 103, 104, 114, 107, 108, 109, 110, 111, 112, 113, 123, 116, 117, 118, 119, 120, 121, 122, 132, 125, 126, 127, 128, 129, 130, 131, 141, 134, 135, 136, 137, 138, 139, 140, 150, 143, 144, 145, 146, 147, 148, 149, 1059, 1060, 1061, 1063] s t → ((0 ≤ c ∧ c ≤ 12) ∧ 0 ≤ nx ∧ nx ≤ bcn (iI s 40) c.toNat ∧ bcn (iI s 40) 12 ≤ 8) → (12 - c : Int).toNat < n → (∀ (t' : PS) (nx' c' : Int), Bd t' → Fm [43, 44, 46, 47, 49, 50, 52, 53, 55, 56, 58, 59, 61, 62, 64, 65, 67, 68] [57, 58, 67, 62, 77, 78, 79, 73, 87, 80, 81, 82, 83, 84, 85, 86, 96, 89, 90, 91, 92, 93, 94, 95, 105, 98, 99, 100, 101, 102, 103, 104, 114, 107, 108, 109, 110, 111, 112, 113, 123, 116, 117, 118, 119, 120, 121, 122, 132, 125, 126, 127, 128, 129, 130, 131, 141, 134, 135, 136, 137, 138, 139, 140, 150, 143, 144, 145, 146, 147, 148, 149, 1059, 1060, 1061, 1063] s t' → ((0 ≤ c' ∧ c' ≤ 12) ∧ 0 ≤ nx' ∧ nx' ≤ bcn (iI s 40) c'.toNat ∧ bcn (iI s 40) 12 ≤ 8) → WS k 186 [(0, .ref (A 67)), (1, .int (Int32.ofInt nx')), (2, .int (Int32.ofInt c'))] [] (Wd A dT t') 0 0) → WS k 18 [(0, .ref (A 67)), (1, .int (Int32.ofInt nx)), (2, .int (Int32.ofInt c))] [] (Wd A dT t) 0 0 := by
    intro n
    induction n with
    | zero =>
      intro t nx c I F hi hm kx
      exact absurd hm (Nat.not_lt_zero _)
    | succ n ih =>
      intro t nx c I F hi hm kx
      have b1001 : (0 : Int) ≤ iI t 9 ∧ iI t 9 ≤ 12 := I.1 9
      have b1002 : (0 : Int) ≤ iI t 39 ∧ iI t 39 ≤ 23 := I.1 39
      refine z_load_n X (x := c) (show cdA 92 18 = some (.iload_n 2, 1, 0, 0, 0) from rfl) (List.Mem.tail _ (List.Mem.tail _ (List.Mem.head _))) ?_
      refine z_aload_n X (x := A 67) (show cdA 92 19 = some (.aload_n 0, 1, 0, 0, 0) from rfl) (List.Mem.head _) ?_
      refine s_getR X 67 (show cdA 92 20 = some (.getfield 49, 3, 8, 0, 0) from rfl) (by decide) rfl rfl ?_
      refine z_getI X 3 (show cdA 92 23 = some (.getfield 80, 3, 9, 0, 0) from rfl) (by decide) rfl rfl ?_
      have b1003 : (0 : Int) ≤ iI t 9 ∧ iI t 9 ≤ 12 := I.1 9
      refine z_icmp_ge X (t := 186) (show cdA 92 26 = some (.if_icmp .ge 160, 3, 3, 0, 0) from rfl) (by decide) ⟨by first | exact oq_fa4e5087 hi.1.1 | omega, by first | exact oq_78843a64 hi.1.2 | omega⟩ (rng_to _) (fun g1004 => ?_) (fun g1004 => ?_)
      ·
        refine WS_lv (lv := [(0, .ref (A 67)), (1, .int (Int32.ofInt nx)), (2, .int (Int32.ofInt c))]) (List.forall_mem_cons.mpr ⟨(List.Mem.head _), (List.forall_mem_cons.mpr ⟨(List.Mem.tail _ (List.Mem.head _)), (List.forall_mem_cons.mpr ⟨(List.Mem.tail _ (List.Mem.tail _ (List.Mem.head _))), (fun q h => absurd h List.not_mem_nil)⟩)⟩)⟩) ?_
        exact kx _ nx c I F (by first | exact ⟨And.intro (hi.1.1) (hi.1.2), hi.2.1, hi.2.2.1, hi.2.2.2⟩ | omega)
      ·
        refine z_aload_n X (x := A 67) (show cdA 92 29 = some (.aload_n 0, 1, 0, 0, 0) from rfl) (List.Mem.head _) ?_
        refine s_getR X 67 (show cdA 92 30 = some (.getfield 49, 3, 8, 0, 0) from rfl) (by decide) rfl rfl ?_
        refine s_getR X 3 (show cdA 92 33 = some (.getfield 109, 3, 9, 2, 0) from rfl) (by decide) rfl rfl ?_
        refine z_load_n X (x := c) (show cdA 92 36 = some (.iload_n 2, 1, 0, 0, 0) from rfl) (List.Mem.tail _ (List.Mem.tail _ (List.Mem.head _))) ?_
        refine z_ald X 5 (show cdA 92 37 = some (.iaload, 1, 0, 0, 0) from rfl) (by decide) rfl (by first | exact hi.1.1 | omega) (show c < 12 by first | exact oq_f36e82a8 g1004 b1003.2 | omega) (by decide) ?_
        have b1005 : (0 : Int) ≤ iC t 2 (c).toNat ∧ iC t 2 (c).toNat ≤ 24 := I.2 2 _ (show (c).toNat < 12 by first | exact oq_2dac6850 g1004 b1003.2 | omega)
        refine z_store_n X (lv' := [(3, .int (Int32.ofInt (iC t 2 (c).toNat))), (0, .ref (A 67)), (1, .int (Int32.ofInt nx)), (2, .int (Int32.ofInt c))]) (show cdA 92 38 = some (.istore_n 3, 1, 0, 0, 0) from rfl) (by decide) (fun _ h => h) ?_
        refine z_aload_n X (x := A 67) (show cdA 92 39 = some (.aload_n 0, 1, 0, 0, 0) from rfl) (List.Mem.tail _ (List.Mem.head _)) ?_
        refine s_getR X 67 (show cdA 92 40 = some (.getfield 12, 3, 8, 1, 0) from rfl) (by decide) rfl rfl ?_
        refine z_load_n X (x := c) (show cdA 92 43 = some (.iload_n 2, 1, 0, 0, 0) from rfl) (List.Mem.tail _ (List.Mem.tail _ (List.Mem.tail _ (List.Mem.head _)))) ?_
        refine z_aload_n X (x := A 67) (show cdA 92 44 = some (.aload_n 0, 1, 0, 0, 0) from rfl) (List.Mem.tail _ (List.Mem.head _)) ?_
        refine s_getR X 67 (show cdA 92 45 = some (.getfield 49, 3, 8, 0, 0) from rfl) (by decide) rfl rfl ?_
        refine s_getR X 3 (show cdA 92 48 = some (.getfield 112, 3, 9, 1, 0) from rfl) (by decide) rfl rfl ?_
        refine z_load_n X (x := c) (show cdA 92 51 = some (.iload_n 2, 1, 0, 0, 0) from rfl) (List.Mem.tail _ (List.Mem.tail _ (List.Mem.tail _ (List.Mem.head _)))) ?_
        refine z_bipush X (show cdA 92 52 = some (.bipush 24, 2, 0, 0, 24) from rfl) ?_
        refine z_mul X (show cdA 92 54 = some (.imul, 1, 0, 0, 0) from rfl) ?_
        refine z_load_n X (x := (iC t 2 (c).toNat)) (show cdA 92 55 = some (.iload_n 3, 1, 0, 0, 0) from rfl) (List.Mem.head _) ?_
        refine z_callV X 68 (rm := rmN 107) (As := [.int (Int32.ofInt c), .ref (A 4), .int (Int32.ofInt (c * 24)), .int (Int32.ofInt (iC t 2 (c).toNat))]) (st := []) (show cdA 92 56 = some (.invokevirtual 115, 3, 107, 0, 0) from rfl) rfl (by decide) rfl (by rw [E.1, E.2.1, E.2.2.1]; exact c9_setWay_68_4 G I (by first | exact ⟨hi.1.1, oq_e4d7f3c5 g1004 b1003.2⟩ | omega) (by first | exact ⟨b1005.1, b1005.2⟩ | omega) (by first | exact ⟨oq_370ce5ec hi.1.1, oq_dec90bf3 b1005.2 g1004 b1003.2⟩ | omega)) ⟨by rw [E.2.2.2]; exact (show (rmN 107).frames + 1 ≤ (rmN 92).frames by decide), by rw [E.2.2.2]; exact (show 8 + (mNL (miB 107) + 11) + (rmN 107).locals ≤ (rmN 92).locals by decide), by rw [E.2.2.2]; exact (show 0 + (rmN 107).cells ≤ (rmN 92).cells by decide), by rw [E.2.2.2]; exact (show 0 + (rmN 107).slots ≤ (rmN 92).slots by decide)⟩ (Nat.le_of_ble_eq_true rfl) (fun vv s1006 hq => ?_) (fun ee s1006 hq => ?_)
        rotate_left
        · obtain ⟨Is1006, Fs1006, hv, hps1006⟩ := hq; cases hv
        obtain ⟨Is1006, Fs1006, hv, hps1006⟩ := hq
        cases hv
        have Gs1006 := fm_ts F Fs1006 (by decide) (by decide)
        have ws1006_9 : iI s1006 9 = iI t 9 := fm_i Fs1006 (by decide)
        have ws1006_39 : iI s1006 39 = iI t 39 := fm_i Fs1006 (by decide)
        show WS k 59 [(3, .int (Int32.ofInt (iC t 2 (c).toNat))), (0, .ref (A 67)), (1, .int (Int32.ofInt nx)), (2, .int (Int32.ofInt c))] [] (Wd A dT s1006) 0 0
        refine z_aload_n X (x := A 67) (show cdA 92 59 = some (.aload_n 0, 1, 0, 0, 0) from rfl) (List.Mem.tail _ (List.Mem.head _)) ?_
        refine s_getR X 67 (show cdA 92 60 = some (.getfield 12, 3, 8, 1, 0) from rfl) (by decide) rfl rfl ?_
        refine s_getR X 68 (show cdA 92 63 = some (.getfield 87, 3, 9, 12, 0) from rfl) (by decide) rfl rfl ?_
        refine z_load_n X (x := c) (show cdA 92 66 = some (.iload_n 2, 1, 0, 0, 0) from rfl) (List.Mem.tail _ (List.Mem.tail _ (List.Mem.tail _ (List.Mem.head _)))) ?_
        refine z_aload_n X (x := A 67) (show cdA 92 67 = some (.aload_n 0, 1, 0, 0, 0) from rfl) (List.Mem.tail _ (List.Mem.head _)) ?_
        refine s_getR X 67 (show cdA 92 68 = some (.getfield 49, 3, 8, 0, 0) from rfl) (by decide) rfl rfl ?_
        refine s_getR X 3 (show cdA 92 71 = some (.getfield 87, 3, 9, 12, 0) from rfl) (by decide) rfl rfl ?_
        refine z_aload_n X (x := A 67) (show cdA 92 74 = some (.aload_n 0, 1, 0, 0, 0) from rfl) (List.Mem.tail _ (List.Mem.head _)) ?_
        refine z_getI X 67 (show cdA 92 75 = some (.getfield 70, 3, 8, 6, 0) from rfl) (by decide) rfl rfl ?_
        have b1008 : (0 : Int) ≤ iI s1006 39 ∧ iI s1006 39 ≤ 23 := Is1006.1 39
        refine z_bipush X (show cdA 92 78 = some (.bipush 12, 2, 0, 0, 12) from rfl) ?_
        refine z_mul X (show cdA 92 80 = some (.imul, 1, 0, 0, 0) from rfl) ?_
        refine z_load_n X (x := c) (show cdA 92 81 = some (.iload_n 2, 1, 0, 0, 0) from rfl) (List.Mem.tail _ (List.Mem.tail _ (List.Mem.tail _ (List.Mem.head _)))) ?_
        refine z_add X (show cdA 92 82 = some (.iadd, 1, 0, 0, 0) from rfl) ?_
        refine z_ald X 14 (show cdA 92 83 = some (.iaload, 1, 0, 0, 0) from rfl) (by decide) rfl (by first | exact oq_1d1618ee hi.1.1 b1008.1 | omega) (show (((iI s1006 39) * 12) + c) < 288 by first | exact oq_45988efc b1008.2 g1004 b1003.2 | omega) (by decide) ?_
        have b1009 : (0 : Int) ≤ iC s1006 11 ((((iI s1006 39) * 12) + c)).toNat ∧ iC s1006 11 ((((iI s1006 39) * 12) + c)).toNat ≤ 50 := Is1006.2 11 _ (show ((((iI s1006 39) * 12) + c)).toNat < 288 by first | exact oq_8395bb7c b1008.2 g1004 b1003.2 | omega)
        refine z_ast X 79 (show cdA 92 84 = some (.iastore, 1, 0, 0, 0) from rfl) (by decide) rfl (by first | exact hi.1.1 | omega) (show c < 288 by first | exact oq_90943592 hi.1.2 | omega) (by decide) ?_
        obtain ⟨s1010, hs1010⟩ : ∃ x0, x0 = uC s1006 67 (c).toNat (Int32.ofInt (iC s1006 11 ((((iI s1006 39) * 12) + c)).toNat)) := ⟨_, rfl⟩
        rw [← hs1010]
        have Is1010 : Bd s1010 := by rw [hs1010]; exact bd_C Is1006 (show (0 : Int) ≤ (iC s1006 11 ((((iI s1006 39) * 12) + c)).toNat) ∧ (iC s1006 11 ((((iI s1006 39) * 12) + c)).toNat) ≤ 50 by first | exact ⟨b1009.1, b1009.2⟩ | omega) (rng_to _)
        have Fs1010 := fm_C (i := (c).toNat) (x := Int32.ofInt (iC s1006 11 ((((iI s1006 39) * 12) + c)).toNat)) Gs1006 (show 67 ∈ _ by decide)
        rw [← hs1010] at Fs1010
        have ws1010_9 : iI s1010 9 = iI s1006 9 := by rw [hs1010]; rfl
        have ws1010_39 : iI s1010 39 = iI s1006 39 := by rw [hs1010]; rfl
        refine z_aload_n X (x := A 67) (show cdA 92 85 = some (.aload_n 0, 1, 0, 0, 0) from rfl) (List.Mem.tail _ (List.Mem.head _)) ?_
        refine z_getI X 67 (show cdA 92 86 = some (.getfield 74, 3, 8, 7, 0) from rfl) (by decide) rfl rfl ?_
        have b1011 : (0 : Int) ≤ iI s1010 40 ∧ iI s1010 40 ≤ 4095 := Is1010.1 40
        refine z_load_n X (x := c) (show cdA 92 89 = some (.iload_n 2, 1, 0, 0, 0) from rfl) (List.Mem.tail _ (List.Mem.tail _ (List.Mem.tail _ (List.Mem.head _)))) ?_
        have eq1013 : iI s1010 40 = iI s 40 := fm_i Fs1010 (by decide)
        rw [show iI s1010 40 = iI s 40 from fm_i Fs1010 (by decide)]
        refine z_bit X (show cdA 92 90 = some (.ishr, 1, 0, 0, 0) from rfl) (show cdA 92 91 = some (.iconst 1, 1, 0, 0, 0) from rfl) (show cdA 92 92 = some (.iand, 1, 0, 0, 0) from rfl) (show 0 ≤ iI s 40 ∧ iI s 40 ≤ 4095 by omega) (show 0 ≤ c ∧ c ≤ 11 by omega) (fun e1012 he1012 ie1012 je1012 ke1012 => ?_)
        show WS k 93 [(3, .int (Int32.ofInt (iC t 2 (c).toNat))), (0, .ref (A 67)), (1, .int (Int32.ofInt nx)), (2, .int (Int32.ofInt c))] [.int (Int32.ofInt e1012)] (Wd A dT s1010) 0 0
        refine z_if_eq X (t := 180) (show cdA 92 93 = some (.ifCond .eq 87, 3, 0, 0, 0) from rfl) (by decide) ⟨by omega, by omega⟩ (fun g1014 => ?_) (fun g1014 => ?_)
        ·
          refine z_inc X (x := c) (lv' := [(2, .int (Int32.ofInt (c + 1))), (3, .int (Int32.ofInt (iC t 2 (c).toNat))), (0, .ref (A 67)), (1, .int (Int32.ofInt nx))]) (show cdA 92 180 = some (.iinc 2 1, 3, 0, 0, 0) from rfl) (by decide) (List.Mem.tail _ (List.Mem.tail _ (List.Mem.tail _ (List.Mem.head _)))) (fun _ h => h) ?_
          refine z_goto X (t := 18) (show cdA 92 183 = some (.goto (-165), 3, 0, 0, 0) from rfl) (by decide) ?_
          refine WS_lv (lv := [(0, .ref (A 67)), (1, .int (Int32.ofInt nx)), (2, .int (Int32.ofInt (c + 1)))]) (List.forall_mem_cons.mpr ⟨(List.Mem.tail _ (List.Mem.tail _ (List.Mem.head _))), (List.forall_mem_cons.mpr ⟨(List.Mem.tail _ (List.Mem.tail _ (List.Mem.tail _ (List.Mem.head _)))), (List.forall_mem_cons.mpr ⟨(List.Mem.head _), (fun q h => absurd h List.not_mem_nil)⟩)⟩)⟩) ?_
          exact ih _ nx (c + 1) Is1010 Fs1010 (by first | exact ⟨And.intro (oq_54f49eb5 hi.1.1) (oq_4dae995e g1004 b1003.2), hi.2.1, by omega, hi.2.2.2⟩ | omega) (by first | exact qk_me hm (by decide) (oq_b575e8c1 g1004 b1003.2) | omega) kx
        ·
          refine z_aload_n X (x := A 67) (show cdA 92 96 = some (.aload_n 0, 1, 0, 0, 0) from rfl) (List.Mem.tail _ (List.Mem.head _)) ?_
          refine z_aload_n X (x := A 67) (show cdA 92 97 = some (.aload_n 0, 1, 0, 0, 0) from rfl) (List.Mem.tail _ (List.Mem.head _)) ?_
          refine s_getR X 67 (show cdA 92 98 = some (.getfield 49, 3, 8, 0, 0) from rfl) (by decide) rfl rfl ?_
          refine z_load_n X (x := c) (show cdA 92 101 = some (.iload_n 2, 1, 0, 0, 0) from rfl) (List.Mem.tail _ (List.Mem.tail _ (List.Mem.tail _ (List.Mem.head _)))) ?_
          refine z_const X (show cdA 92 102 = some (.iconst 0, 1, 0, 0, 0) from rfl) ?_
          refine z_callV X 3 (rm := rmN 113) (As := [.int (Int32.ofInt c), .int (Int32.ofInt 0)]) (st := [.ref (A 67)]) (show cdA 92 103 = some (.invokevirtual 119, 3, 113, 0, 0) from rfl) rfl (by decide) rfl (by rw [E.1, E.2.1, E.2.2.1]; exact c9_cellAt_3 G Is1010 (by first | exact ⟨hi.1.1, oq_e4d7f3c5 g1004 b1003.2⟩ | omega) (by first | exact ⟨by decide, by decide⟩ | omega)) ⟨by rw [E.2.2.2]; exact (show (rmN 113).frames + 1 ≤ (rmN 92).frames by decide), by rw [E.2.2.2]; exact (show 8 + (mNL (miB 113) + 11) + (rmN 113).locals ≤ (rmN 92).locals by decide), by rw [E.2.2.2]; exact (show 0 + (rmN 113).cells ≤ (rmN 92).cells by decide), by rw [E.2.2.2]; exact (show 0 + (rmN 113).slots ≤ (rmN 92).slots by decide)⟩ (Nat.le_of_ble_eq_true rfl) (fun vv s1015 hq => ?_) (fun ee s1015 hq => ?_)
          rotate_left
          · obtain ⟨Is1015, Fs1015, e1016, hv, hrs1015, hps1015⟩ := hq; cases hv
          obtain ⟨Is1015, Fs1015, e1016, hv, hrs1015, hps1015⟩ := hq
          cases hv
          have Gs1015 := fm_ts Fs1010 Fs1015 (by decide) (by decide)
          have ws1015_9 : iI s1015 9 = iI s1010 9 := fm_i Fs1015 (by decide)
          have ws1015_39 : iI s1015 39 = iI s1010 39 := fm_i Fs1015 (by decide)
          show WS k 106 [(3, .int (Int32.ofInt (iC t 2 (c).toNat))), (0, .ref (A 67)), (1, .int (Int32.ofInt nx)), (2, .int (Int32.ofInt c))] [.int (Int32.ofInt e1016), .ref (A 67)] (Wd A dT s1015) 0 0
          refine z_aload_n X (x := A 67) (show cdA 92 106 = some (.aload_n 0, 1, 0, 0, 0) from rfl) (List.Mem.tail _ (List.Mem.head _)) ?_
          refine s_getR X 67 (show cdA 92 107 = some (.getfield 49, 3, 8, 0, 0) from rfl) (by decide) rfl rfl ?_
          refine z_load_n X (x := c) (show cdA 92 110 = some (.iload_n 2, 1, 0, 0, 0) from rfl) (List.Mem.tail _ (List.Mem.tail _ (List.Mem.tail _ (List.Mem.head _)))) ?_
          refine z_load_n X (x := (iC t 2 (c).toNat)) (show cdA 92 111 = some (.iload_n 3, 1, 0, 0, 0) from rfl) (List.Mem.head _) ?_
          refine z_const X (show cdA 92 112 = some (.iconst 1, 1, 0, 0, 0) from rfl) ?_
          refine z_sub X (show cdA 92 113 = some (.isub, 1, 0, 0, 0) from rfl) ?_
          refine z_callV X 3 (rm := rmN 113) (As := [.int (Int32.ofInt c), .int (Int32.ofInt ((iC t 2 (c).toNat) - 1))]) (st := [.int (Int32.ofInt e1016), .ref (A 67)]) (show cdA 92 114 = some (.invokevirtual 119, 3, 113, 0, 0) from rfl) rfl (by decide) rfl (by rw [E.1, E.2.1, E.2.2.1]; exact c9_cellAt_3 G Is1015 (by first | exact ⟨hi.1.1, oq_e4d7f3c5 g1004 b1003.2⟩ | omega) (by first | exact ⟨oq_c1e961c7 b1005.1, oq_0332e1ab b1005.2⟩ | omega)) ⟨by rw [E.2.2.2]; exact (show (rmN 113).frames + 1 ≤ (rmN 92).frames by decide), by rw [E.2.2.2]; exact (show 8 + (mNL (miB 113) + 11) + (rmN 113).locals ≤ (rmN 92).locals by decide), by rw [E.2.2.2]; exact (show 0 + (rmN 113).cells ≤ (rmN 92).cells by decide), by rw [E.2.2.2]; exact (show 0 + (rmN 113).slots ≤ (rmN 92).slots by decide)⟩ (Nat.le_of_ble_eq_true rfl) (fun vv s1017 hq => ?_) (fun ee s1017 hq => ?_)
          rotate_left
          · obtain ⟨Is1017, Fs1017, e1018, hv, hrs1017, hps1017⟩ := hq; cases hv
          obtain ⟨Is1017, Fs1017, e1018, hv, hrs1017, hps1017⟩ := hq
          cases hv
          have Gs1017 := fm_ts Gs1015 Fs1017 (by decide) (by decide)
          have ws1017_9 : iI s1017 9 = iI s1015 9 := fm_i Fs1017 (by decide)
          have ws1017_39 : iI s1017 39 = iI s1015 39 := fm_i Fs1017 (by decide)
          show WS k 117 [(3, .int (Int32.ofInt (iC t 2 (c).toNat))), (0, .ref (A 67)), (1, .int (Int32.ofInt nx)), (2, .int (Int32.ofInt c))] [.int (Int32.ofInt e1018), .int (Int32.ofInt e1016), .ref (A 67)] (Wd A dT s1017) 0 0
          refine z_callV X 67 (rm := rmN 93) (As := [.int (Int32.ofInt e1016), .int (Int32.ofInt e1018)]) (st := []) (show cdA 92 117 = some (.invokevirtual 123, 3, 93, 0, 0) from rfl) rfl (by decide) rfl (by rw [E.1, E.2.1, E.2.2.1]; exact c8_findRound_67 G GR Is1017 (by first | exact ⟨hps1015.1, hps1015.2⟩ | omega) (by first | exact ⟨hps1017.1, hps1017.2⟩ | omega)) ⟨by rw [E.2.2.2]; exact (show (rmN 93).frames + 1 ≤ (rmN 92).frames by decide), by rw [E.2.2.2]; exact (show 8 + (mNL (miB 93) + 11) + (rmN 93).locals ≤ (rmN 92).locals by decide), by rw [E.2.2.2]; exact (show 0 + (rmN 93).cells ≤ (rmN 92).cells by decide), by rw [E.2.2.2]; exact (show 0 + (rmN 93).slots ≤ (rmN 92).slots by decide)⟩ (Nat.le_of_ble_eq_true rfl) (fun vv s1019 hq => ?_) (fun ee s1019 hq => ?_)
          rotate_left
          · obtain ⟨Is1019, Fs1019, e1020, hv, hrs1019, hps1019⟩ := hq; cases hv
          obtain ⟨Is1019, Fs1019, e1020, hv, hrs1019, hps1019⟩ := hq
          cases hv
          have Gs1019 := fm_ts Gs1017 Fs1019 (by decide) (by decide)
          have ws1019_9 : iI s1019 9 = iI s1017 9 := fm_i Fs1019 (by decide)
          have ws1019_39 : iI s1019 39 = iI s1017 39 := fm_i Fs1019 (by decide)
          show WS k 120 [(3, .int (Int32.ofInt (iC t 2 (c).toNat))), (0, .ref (A 67)), (1, .int (Int32.ofInt nx)), (2, .int (Int32.ofInt c))] [.int (Int32.ofInt e1020)] (Wd A dT s1019) 0 0
          refine z_store X (lv' := [(4, .int (Int32.ofInt e1020)), (3, .int (Int32.ofInt (iC t 2 (c).toNat))), (0, .ref (A 67)), (1, .int (Int32.ofInt nx)), (2, .int (Int32.ofInt c))]) (show cdA 92 120 = some (.istore 4, 2, 0, 0, 0) from rfl) (by decide) (fun _ h => h) ?_
          refine z_aload_n X (x := A 67) (show cdA 92 122 = some (.aload_n 0, 1, 0, 0, 0) from rfl) (List.Mem.tail _ (List.Mem.tail _ (List.Mem.head _))) ?_
          refine s_getR X 67 (show cdA 92 123 = some (.getfield 28, 3, 8, 10, 0) from rfl) (by decide) rfl rfl ?_
          refine z_load_n X (x := nx) (show cdA 92 126 = some (.iload_n 1, 1, 0, 0, 0) from rfl) (List.Mem.tail _ (List.Mem.tail _ (List.Mem.tail _ (List.Mem.head _)))) ?_
          refine z_load X (x := e1020) (show cdA 92 127 = some (.iload 4, 2, 0, 0, 0) from rfl) (List.Mem.head _) ?_
          refine z_if_ne X (t := 136) (show cdA 92 129 = some (.ifCond .ne 7, 3, 1, 0, 0) from rfl) (by decide) hrs1019 (fun g1021 => ?_) (fun g1021 => ?_)
          ·
            refine z_const X (show cdA 92 136 = some (.iconst 2, 1, 0, 0, 0) from rfl) ?_
            refine z_const X (show cdA 92 137 = some (.iconst 0, 1, 0, 0, 0) from rfl) ?_
            refine z_load X (x := e1020) (show cdA 92 138 = some (.iload 4, 2, 0, 0, 0) from rfl) (List.Mem.head _) ?_
            refine z_load_n X (x := (iC t 2 (c).toNat)) (show cdA 92 140 = some (.iload_n 3, 1, 0, 0, 0) from rfl) (List.Mem.tail _ (List.Mem.head _)) ?_
            refine z_sub X (show cdA 92 141 = some (.isub, 1, 0, 0, 0) from rfl) ?_
            refine z_max X (show cdA 92 142 = some (.invokestatic 126, 3, 0, 7, 0) from rfl) (by decide) ⟨by first | exact oq_5b45330b hps1019.1 b1005.2 | omega, by first | exact oq_c3c0165d hps1019.2 b1005.1 | omega⟩ (by rw [E.2.2.2]; decide) (by rw [E.2.2.2]; exact Nat.le_of_ble_eq_true rfl) (Nat.zero_le _) (Nat.zero_le _) (fun e1022 he1022 => ?_)
            refine z_mul X (show cdA 92 145 = some (.imul, 1, 0, 0, 0) from rfl) ?_
            refine z_aload_n X (x := A 67) (show cdA 92 146 = some (.aload_n 0, 1, 0, 0, 0) from rfl) (List.Mem.tail _ (List.Mem.tail _ (List.Mem.head _))) ?_
            refine s_getR X 67 (show cdA 92 147 = some (.getfield 12, 3, 8, 1, 0) from rfl) (by decide) rfl rfl ?_
            refine s_getR X 68 (show cdA 92 150 = some (.getfield 87, 3, 9, 12, 0) from rfl) (by decide) rfl rfl ?_
            refine z_load_n X (x := c) (show cdA 92 153 = some (.iload_n 2, 1, 0, 0, 0) from rfl) (List.Mem.tail _ (List.Mem.tail _ (List.Mem.tail _ (List.Mem.tail _ (List.Mem.head _))))) ?_
            refine z_ald X 79 (show cdA 92 154 = some (.iaload, 1, 0, 0, 0) from rfl) (by decide) rfl (by first | exact hi.1.1 | omega) (show c < 288 by first | exact oq_90943592 hi.1.2 | omega) (by decide) ?_
            have b1023 : (0 : Int) ≤ iC s1019 67 (c).toNat ∧ iC s1019 67 (c).toNat ≤ 50 := Is1019.2 67 _ (show (c).toNat < 288 by first | exact oq_e01dad39 hi.1.2 | omega)
            refine z_mul X (show cdA 92 155 = some (.imul, 1, 0, 0, 0) from rfl) ?_
            refine z_any (fun y1024 hy1024 => ?_)
            refine z_ast X 86 (show cdA 92 156 = some (.iastore, 1, 0, 0, 0) from rfl) (by decide) rfl (by first | exact hi.2.1 | omega) (show nx < 8 by omega) (by decide) ?_
            obtain ⟨s1025, hs1025⟩ : ∃ x0, x0 = uC s1019 73 (nx).toNat (Int32.ofInt y1024) := ⟨_, rfl⟩
            rw [← hs1025]
            have Is1025 : Bd s1025 := by rw [hs1025]; exact bd_C Is1019 (show ((-2147483648) : Int) ≤ y1024 ∧ y1024 ≤ 2147483647 by first | exact ⟨hy1024.1, hy1024.2⟩ | omega) hy1024
            have Fs1025 := fm_C (i := (nx).toNat) (x := Int32.ofInt y1024) Gs1019 (show 73 ∈ _ by decide)
            rw [← hs1025] at Fs1025
            have ws1025_9 : iI s1025 9 = iI s1019 9 := by rw [hs1025]; rfl
            have ws1025_39 : iI s1025 39 = iI s1019 39 := by rw [hs1025]; rfl
            refine z_inc X (x := nx) (lv' := [(1, .int (Int32.ofInt (nx + 1))), (4, .int (Int32.ofInt e1020)), (3, .int (Int32.ofInt (iC t 2 (c).toNat))), (0, .ref (A 67)), (2, .int (Int32.ofInt c))]) (show cdA 92 157 = some (.iinc 1 1, 3, 0, 0, 0) from rfl) (by decide) (List.Mem.tail _ (List.Mem.tail _ (List.Mem.tail _ (List.Mem.head _)))) (fun _ h => h) ?_
            refine z_load X (x := e1020) (show cdA 92 160 = some (.iload 4, 2, 0, 0, 0) from rfl) (List.Mem.tail _ (List.Mem.head _)) ?_
            refine z_if_le X (t := 180) (show cdA 92 162 = some (.ifCond .le 18, 3, 5, 0, 0) from rfl) (by decide) hrs1019 (fun g1026 => ?_) (fun g1026 => ?_)
            ·
              refine z_inc X (x := c) (lv' := [(2, .int (Int32.ofInt (c + 1))), (1, .int (Int32.ofInt (nx + 1))), (4, .int (Int32.ofInt e1020)), (3, .int (Int32.ofInt (iC t 2 (c).toNat))), (0, .ref (A 67))]) (show cdA 92 180 = some (.iinc 2 1, 3, 0, 0, 0) from rfl) (by decide) (List.Mem.tail _ (List.Mem.tail _ (List.Mem.tail _ (List.Mem.tail _ (List.Mem.head _))))) (fun _ h => h) ?_
              refine z_goto X (t := 18) (show cdA 92 183 = some (.goto (-165), 3, 0, 0, 0) from rfl) (by decide) ?_
              refine WS_lv (lv := [(0, .ref (A 67)), (1, .int (Int32.ofInt (nx + 1))), (2, .int (Int32.ofInt (c + 1)))]) (List.forall_mem_cons.mpr ⟨(List.Mem.tail _ (List.Mem.tail _ (List.Mem.tail _ (List.Mem.tail _ (List.Mem.head _))))), (List.forall_mem_cons.mpr ⟨(List.Mem.tail _ (List.Mem.head _)), (List.forall_mem_cons.mpr ⟨(List.Mem.head _), (fun q h => absurd h List.not_mem_nil)⟩)⟩)⟩) ?_
              exact ih _ (nx + 1) (c + 1) Is1025 Fs1025 (by first | exact ⟨And.intro (oq_54f49eb5 hi.1.1) (oq_4dae995e g1004 b1003.2), oq_54f49eb5 hi.2.1, oq_539bce23 g1026 g1021 hps1019.1, hi.2.2.2⟩ | omega) (by first | exact qk_me hm (by decide) (oq_b575e8c1 g1004 b1003.2) | omega) kx
            ·
              refine z_aload_n X (x := A 67) (show cdA 92 165 = some (.aload_n 0, 1, 0, 0, 0) from rfl) (List.Mem.tail _ (List.Mem.tail _ (List.Mem.tail _ (List.Mem.head _)))) ?_
              refine s_getR X 67 (show cdA 92 166 = some (.getfield 12, 3, 8, 1, 0) from rfl) (by decide) rfl rfl ?_
              refine z_load_n X (x := c) (show cdA 92 169 = some (.iload_n 2, 1, 0, 0, 0) from rfl) (List.Mem.tail _ (List.Mem.tail _ (List.Mem.tail _ (List.Mem.tail _ (List.Mem.head _))))) ?_
              refine z_aload_n X (x := A 67) (show cdA 92 170 = some (.aload_n 0, 1, 0, 0, 0) from rfl) (List.Mem.tail _ (List.Mem.tail _ (List.Mem.tail _ (List.Mem.head _)))) ?_
              refine s_getR X 67 (show cdA 92 171 = some (.getfield 46, 3, 8, 17, 0) from rfl) (by decide) rfl rfl ?_
              refine z_const X (show cdA 92 174 = some (.iconst 0, 1, 0, 0, 0) from rfl) ?_
              refine z_load X (x := e1020) (show cdA 92 175 = some (.iload 4, 2, 0, 0, 0) from rfl) (List.Mem.tail _ (List.Mem.head _)) ?_
              refine z_callV X 68 (rm := rmN 107) (As := [.int (Int32.ofInt c), .ref (A 92), .int (Int32.ofInt 0), .int (Int32.ofInt e1020)]) (st := []) (show cdA 92 177 = some (.invokevirtual 115, 3, 107, 0, 0) from rfl) rfl (by decide) rfl (by rw [E.1, E.2.1, E.2.2.1]; exact c9_setWay_68_92 G Is1025 (by first | exact ⟨hi.1.1, oq_e4d7f3c5 g1004 b1003.2⟩ | omega) (by first | exact ⟨hps1019.1, hps1019.2⟩ | omega) (by first | exact ⟨by decide, oq_4854286b hps1019.2⟩ | omega)) ⟨by rw [E.2.2.2]; exact (show (rmN 107).frames + 1 ≤ (rmN 92).frames by decide), by rw [E.2.2.2]; exact (show 8 + (mNL (miB 107) + 11) + (rmN 107).locals ≤ (rmN 92).locals by decide), by rw [E.2.2.2]; exact (show 0 + (rmN 107).cells ≤ (rmN 92).cells by decide), by rw [E.2.2.2]; exact (show 0 + (rmN 107).slots ≤ (rmN 92).slots by decide)⟩ (Nat.le_of_ble_eq_true rfl) (fun vv s1027 hq => ?_) (fun ee s1027 hq => ?_)
              rotate_left
              · obtain ⟨Is1027, Fs1027, hv, hps1027⟩ := hq; cases hv
              obtain ⟨Is1027, Fs1027, hv, hps1027⟩ := hq
              cases hv
              have Gs1027 := fm_ts Fs1025 Fs1027 (by decide) (by decide)
              have ws1027_9 : iI s1027 9 = iI s1025 9 := fm_i Fs1027 (by decide)
              have ws1027_39 : iI s1027 39 = iI s1025 39 := fm_i Fs1027 (by decide)
              show WS k 180 [(1, .int (Int32.ofInt (nx + 1))), (4, .int (Int32.ofInt e1020)), (3, .int (Int32.ofInt (iC t 2 (c).toNat))), (0, .ref (A 67)), (2, .int (Int32.ofInt c))] [] (Wd A dT s1027) 0 0
              refine z_inc X (x := c) (lv' := [(2, .int (Int32.ofInt (c + 1))), (1, .int (Int32.ofInt (nx + 1))), (4, .int (Int32.ofInt e1020)), (3, .int (Int32.ofInt (iC t 2 (c).toNat))), (0, .ref (A 67))]) (show cdA 92 180 = some (.iinc 2 1, 3, 0, 0, 0) from rfl) (by decide) (List.Mem.tail _ (List.Mem.tail _ (List.Mem.tail _ (List.Mem.tail _ (List.Mem.head _))))) (fun _ h => h) ?_
              refine z_goto X (t := 18) (show cdA 92 183 = some (.goto (-165), 3, 0, 0, 0) from rfl) (by decide) ?_
              refine WS_lv (lv := [(0, .ref (A 67)), (1, .int (Int32.ofInt (nx + 1))), (2, .int (Int32.ofInt (c + 1)))]) (List.forall_mem_cons.mpr ⟨(List.Mem.tail _ (List.Mem.tail _ (List.Mem.tail _ (List.Mem.tail _ (List.Mem.head _))))), (List.forall_mem_cons.mpr ⟨(List.Mem.tail _ (List.Mem.head _)), (List.forall_mem_cons.mpr ⟨(List.Mem.head _), (fun q h => absurd h List.not_mem_nil)⟩)⟩)⟩) ?_
              exact ih _ (nx + 1) (c + 1) Is1027 Gs1027 (by first | exact ⟨And.intro (oq_54f49eb5 hi.1.1) (oq_4dae995e g1004 b1003.2), oq_54f49eb5 hi.2.1, by omega, hi.2.2.2⟩ | omega) (by first | exact qk_me hm (by decide) (oq_b575e8c1 g1004 b1003.2) | omega) kx
          ·
            refine z_const X (show cdA 92 132 = some (.iconst (-1), 1, 0, 0, 0) from rfl) ?_
            refine z_goto X (t := 156) (show cdA 92 133 = some (.goto 23, 3, 0, 0, 0) from rfl) (by decide) ?_
            refine z_ast X 86 (show cdA 92 156 = some (.iastore, 1, 0, 0, 0) from rfl) (by decide) rfl (by first | exact hi.2.1 | omega) (show nx < 8 by omega) (by decide) ?_
            obtain ⟨s1029, hs1029⟩ : ∃ x0, x0 = uC s1019 73 (nx).toNat (Int32.ofInt (-1)) := ⟨_, rfl⟩
            rw [← hs1029]
            have Is1029 : Bd s1029 := by rw [hs1029]; exact bd_C Is1019 (show ((-2147483648) : Int) ≤ (-1) ∧ (-1) ≤ 2147483647 by first | exact ⟨by decide, by decide⟩ | omega) (by decide)
            have Fs1029 := fm_C (i := (nx).toNat) (x := Int32.ofInt (-1)) Gs1019 (show 73 ∈ _ by decide)
            rw [← hs1029] at Fs1029
            have ws1029_9 : iI s1029 9 = iI s1019 9 := by rw [hs1029]; rfl
            have ws1029_39 : iI s1029 39 = iI s1019 39 := by rw [hs1029]; rfl
            refine z_inc X (x := nx) (lv' := [(1, .int (Int32.ofInt (nx + 1))), (4, .int (Int32.ofInt e1020)), (3, .int (Int32.ofInt (iC t 2 (c).toNat))), (0, .ref (A 67)), (2, .int (Int32.ofInt c))]) (show cdA 92 157 = some (.iinc 1 1, 3, 0, 0, 0) from rfl) (by decide) (List.Mem.tail _ (List.Mem.tail _ (List.Mem.tail _ (List.Mem.head _)))) (fun _ h => h) ?_
            refine z_load X (x := e1020) (show cdA 92 160 = some (.iload 4, 2, 0, 0, 0) from rfl) (List.Mem.tail _ (List.Mem.head _)) ?_
            refine z_if_le X (t := 180) (show cdA 92 162 = some (.ifCond .le 18, 3, 5, 0, 0) from rfl) (by decide) hrs1019 (fun g1030 => ?_) (fun g1030 => ?_)
            ·
              refine z_inc X (x := c) (lv' := [(2, .int (Int32.ofInt (c + 1))), (1, .int (Int32.ofInt (nx + 1))), (4, .int (Int32.ofInt e1020)), (3, .int (Int32.ofInt (iC t 2 (c).toNat))), (0, .ref (A 67))]) (show cdA 92 180 = some (.iinc 2 1, 3, 0, 0, 0) from rfl) (by decide) (List.Mem.tail _ (List.Mem.tail _ (List.Mem.tail _ (List.Mem.tail _ (List.Mem.head _))))) (fun _ h => h) ?_
              refine z_goto X (t := 18) (show cdA 92 183 = some (.goto (-165), 3, 0, 0, 0) from rfl) (by decide) ?_
              refine WS_lv (lv := [(0, .ref (A 67)), (1, .int (Int32.ofInt (nx + 1))), (2, .int (Int32.ofInt (c + 1)))]) (List.forall_mem_cons.mpr ⟨(List.Mem.tail _ (List.Mem.tail _ (List.Mem.tail _ (List.Mem.tail _ (List.Mem.head _))))), (List.forall_mem_cons.mpr ⟨(List.Mem.tail _ (List.Mem.head _)), (List.forall_mem_cons.mpr ⟨(List.Mem.head _), (fun q h => absurd h List.not_mem_nil)⟩)⟩)⟩) ?_
              exact ih _ (nx + 1) (c + 1) Is1029 Fs1029 (by first | exact ⟨And.intro (oq_54f49eb5 hi.1.1) (oq_4dae995e g1004 b1003.2), oq_54f49eb5 hi.2.1, by omega, hi.2.2.2⟩ | omega) (by first | exact qk_me hm (by decide) (oq_b575e8c1 g1004 b1003.2) | omega) kx
            ·
              refine z_aload_n X (x := A 67) (show cdA 92 165 = some (.aload_n 0, 1, 0, 0, 0) from rfl) (List.Mem.tail _ (List.Mem.tail _ (List.Mem.tail _ (List.Mem.head _)))) ?_
              refine s_getR X 67 (show cdA 92 166 = some (.getfield 12, 3, 8, 1, 0) from rfl) (by decide) rfl rfl ?_
              refine z_load_n X (x := c) (show cdA 92 169 = some (.iload_n 2, 1, 0, 0, 0) from rfl) (List.Mem.tail _ (List.Mem.tail _ (List.Mem.tail _ (List.Mem.tail _ (List.Mem.head _))))) ?_
              refine z_aload_n X (x := A 67) (show cdA 92 170 = some (.aload_n 0, 1, 0, 0, 0) from rfl) (List.Mem.tail _ (List.Mem.tail _ (List.Mem.tail _ (List.Mem.head _)))) ?_
              refine s_getR X 67 (show cdA 92 171 = some (.getfield 46, 3, 8, 17, 0) from rfl) (by decide) rfl rfl ?_
              refine z_const X (show cdA 92 174 = some (.iconst 0, 1, 0, 0, 0) from rfl) ?_
              refine z_load X (x := e1020) (show cdA 92 175 = some (.iload 4, 2, 0, 0, 0) from rfl) (List.Mem.tail _ (List.Mem.head _)) ?_
              refine z_callV X 68 (rm := rmN 107) (As := [.int (Int32.ofInt c), .ref (A 92), .int (Int32.ofInt 0), .int (Int32.ofInt e1020)]) (st := []) (show cdA 92 177 = some (.invokevirtual 115, 3, 107, 0, 0) from rfl) rfl (by decide) rfl (by rw [E.1, E.2.1, E.2.2.1]; exact c9_setWay_68_92 G Is1029 (by first | exact ⟨hi.1.1, oq_e4d7f3c5 g1004 b1003.2⟩ | omega) (by first | exact ⟨hps1019.1, hps1019.2⟩ | omega) (by first | exact ⟨by decide, oq_58770268 g1021⟩ | omega)) ⟨by rw [E.2.2.2]; exact (show (rmN 107).frames + 1 ≤ (rmN 92).frames by decide), by rw [E.2.2.2]; exact (show 8 + (mNL (miB 107) + 11) + (rmN 107).locals ≤ (rmN 92).locals by decide), by rw [E.2.2.2]; exact (show 0 + (rmN 107).cells ≤ (rmN 92).cells by decide), by rw [E.2.2.2]; exact (show 0 + (rmN 107).slots ≤ (rmN 92).slots by decide)⟩ (Nat.le_of_ble_eq_true rfl) (fun vv s1031 hq => ?_) (fun ee s1031 hq => ?_)
              rotate_left
              · obtain ⟨Is1031, Fs1031, hv, hps1031⟩ := hq; cases hv
              obtain ⟨Is1031, Fs1031, hv, hps1031⟩ := hq
              cases hv
              have Gs1031 := fm_ts Fs1029 Fs1031 (by decide) (by decide)
              have ws1031_9 : iI s1031 9 = iI s1029 9 := fm_i Fs1031 (by decide)
              have ws1031_39 : iI s1031 39 = iI s1029 39 := fm_i Fs1031 (by decide)
              show WS k 180 [(1, .int (Int32.ofInt (nx + 1))), (4, .int (Int32.ofInt e1020)), (3, .int (Int32.ofInt (iC t 2 (c).toNat))), (0, .ref (A 67)), (2, .int (Int32.ofInt c))] [] (Wd A dT s1031) 0 0
              refine z_inc X (x := c) (lv' := [(2, .int (Int32.ofInt (c + 1))), (1, .int (Int32.ofInt (nx + 1))), (4, .int (Int32.ofInt e1020)), (3, .int (Int32.ofInt (iC t 2 (c).toNat))), (0, .ref (A 67))]) (show cdA 92 180 = some (.iinc 2 1, 3, 0, 0, 0) from rfl) (by decide) (List.Mem.tail _ (List.Mem.tail _ (List.Mem.tail _ (List.Mem.tail _ (List.Mem.head _))))) (fun _ h => h) ?_
              refine z_goto X (t := 18) (show cdA 92 183 = some (.goto (-165), 3, 0, 0, 0) from rfl) (by decide) ?_
              refine WS_lv (lv := [(0, .ref (A 67)), (1, .int (Int32.ofInt (nx + 1))), (2, .int (Int32.ofInt (c + 1)))]) (List.forall_mem_cons.mpr ⟨(List.Mem.tail _ (List.Mem.tail _ (List.Mem.tail _ (List.Mem.tail _ (List.Mem.head _))))), (List.forall_mem_cons.mpr ⟨(List.Mem.tail _ (List.Mem.head _)), (List.forall_mem_cons.mpr ⟨(List.Mem.head _), (fun q h => absurd h List.not_mem_nil)⟩)⟩)⟩) ?_
              exact ih _ (nx + 1) (c + 1) Is1031 Gs1031 (by first | exact ⟨And.intro (oq_54f49eb5 hi.1.1) (oq_4dae995e g1004 b1003.2), oq_54f49eb5 hi.2.1, oq_b9cccab4 g1030 g1021, hi.2.2.2⟩ | omega) (by first | exact qk_me hm (by decide) (oq_b575e8c1 g1004 b1003.2) | omega) kx
  have L195 : ∀ (n : Nat) (t : PS) (p : Int), Bd t → Fm [43, 44, 46, 47, 49, 50, 52, 53, 55, 56, 58, 59, 61, 62, 64, 65, 67, 68] [57, 58, 67, 62, 77, 78, 79, 73, 87, 80, 81, 82, 83, 84, 85, 86, 96, 89, 90, 91, 92, 93, 94, 95, 105, 98, 99, 100, 101, 102, 103, 104, 114, 107, 108, 109, 110, 111, 112, 113, 123, 116, 117, 118, 119, 120, 121, 122, 132, 125, 126, 127, 128, 129, 130, 131, 141, 134, 135, 136, 137, 138, 139, 140, 150, 143, 144, 145, 146, 147, 148, 149, 1059, 1060, 1061, 1063] s t → (0 ≤ p ∧ p ≤ 8) → (8 - p : Int).toNat < n → (∀ (t' : PS) (p' : Int), Bd t' → Fm [43, 44, 46, 47, 49, 50, 52, 53, 55, 56, 58, 59, 61, 62, 64, 65, 67, 68] [57, 58, 67, 62, 77, 78, 79, 73, 87, 80, 81, 82, 83, 84, 85, 86, 96, 89, 90, 91, 92, 93, 94, 95, 105, 98, 99, 100, 101, 102, 103, 104, 114, 107, 108, 109, 110, 111, 112, 113, 123, 116, 117, 118, 119, 120, 121, 122, 132, 125, 126, 127, 128, 129, 130, 131, 141, 134, 135, 136, 137, 138, 139, 140, 150, 143, 144, 145, 146, 147, 148, 149, 1059, 1060, 1061, 1063] s t' → (0 ≤ p' ∧ p' ≤ 8) → WS k 235 [(0, .ref (A 67)), (2, .int (Int32.ofInt p'))] [] (Wd A dT t') 0 0) → WS k 195 [(0, .ref (A 67)), (2, .int (Int32.ofInt p))] [] (Wd A dT t) 0 0 := by
    intro n
    induction n with
    | zero =>
      intro t p I F hi hm kx
      exact absurd hm (Nat.not_lt_zero _)
    | succ n ih =>
      intro t p I F hi hm kx
      have b2001 : (0 : Int) ≤ iI t 9 ∧ iI t 9 ≤ 12 := I.1 9
      have b2002 : (0 : Int) ≤ iI t 39 ∧ iI t 39 ≤ 23 := I.1 39
      refine z_load_n X (x := p) (show cdA 92 195 = some (.iload_n 2, 1, 0, 0, 0) from rfl) (List.Mem.tail _ (List.Mem.head _)) ?_
      refine z_bipush X (show cdA 92 196 = some (.bipush 8, 2, 0, 0, 8) from rfl) ?_
      refine z_icmp_ge X (t := 235) (show cdA 92 198 = some (.if_icmp .ge 37, 3, 3, 0, 0) from rfl) (by decide) ⟨by first | exact oq_fa4e5087 hi.1 | omega, by first | exact oq_d3f5d874 hi.2 | omega⟩ (by decide) (fun g2003 => ?_) (fun g2003 => ?_)
      ·
        refine WS_lv (lv := [(0, .ref (A 67)), (2, .int (Int32.ofInt p))]) (List.forall_mem_cons.mpr ⟨(List.Mem.head _), (List.forall_mem_cons.mpr ⟨(List.Mem.tail _ (List.Mem.head _)), (fun q h => absurd h List.not_mem_nil)⟩)⟩) ?_
        exact kx _ p I F (by first | exact ⟨hi.1, hi.2⟩ | omega)
      ·
        refine z_aload_n X (x := A 67) (show cdA 92 201 = some (.aload_n 0, 1, 0, 0, 0) from rfl) (List.Mem.head _) ?_
        refine s_getR X 67 (show cdA 92 202 = some (.getfield 20, 3, 8, 3, 0) from rfl) (by decide) rfl rfl ?_
        refine z_load_n X (x := p) (show cdA 92 205 = some (.iload_n 2, 1, 0, 0, 0) from rfl) (List.Mem.tail _ (List.Mem.head _)) ?_
        refine z_a8 X (show cdA 92 206 = some (.aaload, 1, 0, 0, 0) from rfl) (by omega) (show p < 8 by omega) ?_
        rcases (show p = 0 ∨ p = 1 ∨ p = 2 ∨ p = 3 ∨ p = 4 ∨ p = 5 ∨ p = 6 ∨ p = 7 by omega) with gs | gs | gs | gs | gs | gs | gs | gs
        ·
          have e8 : 93 + 10 * (p : Int).toNat = 93 := by omega
          rw [e8]
          refine z_aload_n X (x := A 67) (show cdA 92 207 = some (.aload_n 0, 1, 0, 0, 0) from rfl) (List.Mem.head _) ?_
          refine s_getR X 67 (show cdA 92 208 = some (.getfield 52, 3, 8, 2, 0) from rfl) (by decide) rfl rfl ?_
          refine s_getR X 25 (show cdA 92 211 = some (.getfield 134, 3, 3, 1, 0) from rfl) (by decide) rfl rfl ?_
          refine z_load_n X (x := p) (show cdA 92 214 = some (.iload_n 2, 1, 0, 0, 0) from rfl) (List.Mem.tail _ (List.Mem.head _)) ?_
          refine z_lald X 27 (show cdA 92 215 = some (.laload, 1, 0, 0, 0) from rfl) (by decide) rfl (by first | exact hi.1 | omega) (show p < 8 by first | exact g2003 | omega) (by decide) (fun j2004 => ?_)
          refine z_aload_n X (x := A 67) (show cdA 92 216 = some (.aload_n 0, 1, 0, 0, 0) from rfl) (List.Mem.head _) ?_
          refine s_getR X 67 (show cdA 92 217 = some (.getfield 52, 3, 8, 2, 0) from rfl) (by decide) rfl rfl ?_
          refine s_getR X 25 (show cdA 92 220 = some (.getfield 138, 3, 3, 2, 0) from rfl) (by decide) rfl rfl ?_
          refine z_load_n X (x := p) (show cdA 92 223 = some (.iload_n 2, 1, 0, 0, 0) from rfl) (List.Mem.tail _ (List.Mem.head _)) ?_
          refine z_lald X 28 (show cdA 92 224 = some (.laload, 1, 0, 0, 0) from rfl) (by decide) rfl (by first | exact hi.1 | omega) (show p < 8 by first | exact g2003 | omega) (by decide) (fun j2005 => ?_)
          refine z_const X (show cdA 92 225 = some (.iconst 1, 1, 0, 0, 0) from rfl) ?_
          refine z_callV X 93 (rm := rmN 1) (As := [.long j2004, .long j2005, .int (Int32.ofInt 1)]) (st := []) (show cdA 92 226 = some (.invokevirtual 140, 3, 1, 0, 0) from rfl) rfl (by decide) rfl (by rw [E.1, E.2.1, E.2.2.1]; exact c0_listen_93 G I (by first | exact ⟨by decide, by decide⟩ | omega)) ⟨by rw [E.2.2.2]; exact (show (rmN 1).frames + 1 ≤ (rmN 92).frames by decide), by rw [E.2.2.2]; exact (show 8 + (mNL (miB 1) + 11) + (rmN 1).locals ≤ (rmN 92).locals by decide), by rw [E.2.2.2]; exact (show 0 + (rmN 1).cells ≤ (rmN 92).cells by decide), by rw [E.2.2.2]; exact (show 0 + (rmN 1).slots ≤ (rmN 92).slots by decide)⟩ (Nat.le_of_ble_eq_true rfl) (fun vv s2006 hq => ?_) (fun ee s2006 hq => ?_)
          rotate_left
          · obtain ⟨Is2006, Fs2006, hv, hps2006⟩ := hq; cases hv
          obtain ⟨Is2006, Fs2006, hv, hps2006⟩ := hq
          cases hv
          have Gs2006 := fm_ts F Fs2006 (by decide) (by decide)
          have ws2006_9 : iI s2006 9 = iI t 9 := fm_i Fs2006 (by decide)
          have ws2006_39 : iI s2006 39 = iI t 39 := fm_i Fs2006 (by decide)
          show WS k 229 [(0, .ref (A 67)), (2, .int (Int32.ofInt p))] [] (Wd A dT s2006) 0 0
          refine z_inc X (x := p) (lv' := [(2, .int (Int32.ofInt (p + 1))), (0, .ref (A 67))]) (show cdA 92 229 = some (.iinc 2 1, 3, 0, 0, 0) from rfl) (by decide) (List.Mem.tail _ (List.Mem.head _)) (fun _ h => h) ?_
          refine z_goto X (t := 195) (show cdA 92 232 = some (.goto (-37), 3, 0, 0, 0) from rfl) (by decide) ?_
          refine WS_lv (lv := [(0, .ref (A 67)), (2, .int (Int32.ofInt (p + 1)))]) (List.forall_mem_cons.mpr ⟨(List.Mem.tail _ (List.Mem.head _)), (List.forall_mem_cons.mpr ⟨(List.Mem.head _), (fun q h => absurd h List.not_mem_nil)⟩)⟩) ?_
          exact ih _ (p + 1) Is2006 Gs2006 (by first | exact ⟨oq_54f49eb5 hi.1, oq_0c7b19c3 g2003⟩ | omega) (by first | exact qk_me hm (by decide) (oq_9f368f35 g2003) | omega) kx
        ·
          have e8 : 93 + 10 * (p : Int).toNat = 103 := by omega
          rw [e8]
          refine z_aload_n X (x := A 67) (show cdA 92 207 = some (.aload_n 0, 1, 0, 0, 0) from rfl) (List.Mem.head _) ?_
          refine s_getR X 67 (show cdA 92 208 = some (.getfield 52, 3, 8, 2, 0) from rfl) (by decide) rfl rfl ?_
          refine s_getR X 25 (show cdA 92 211 = some (.getfield 134, 3, 3, 1, 0) from rfl) (by decide) rfl rfl ?_
          refine z_load_n X (x := p) (show cdA 92 214 = some (.iload_n 2, 1, 0, 0, 0) from rfl) (List.Mem.tail _ (List.Mem.head _)) ?_
          refine z_lald X 27 (show cdA 92 215 = some (.laload, 1, 0, 0, 0) from rfl) (by decide) rfl (by first | exact hi.1 | omega) (show p < 8 by first | exact g2003 | omega) (by decide) (fun j2008 => ?_)
          refine z_aload_n X (x := A 67) (show cdA 92 216 = some (.aload_n 0, 1, 0, 0, 0) from rfl) (List.Mem.head _) ?_
          refine s_getR X 67 (show cdA 92 217 = some (.getfield 52, 3, 8, 2, 0) from rfl) (by decide) rfl rfl ?_
          refine s_getR X 25 (show cdA 92 220 = some (.getfield 138, 3, 3, 2, 0) from rfl) (by decide) rfl rfl ?_
          refine z_load_n X (x := p) (show cdA 92 223 = some (.iload_n 2, 1, 0, 0, 0) from rfl) (List.Mem.tail _ (List.Mem.head _)) ?_
          refine z_lald X 28 (show cdA 92 224 = some (.laload, 1, 0, 0, 0) from rfl) (by decide) rfl (by first | exact hi.1 | omega) (show p < 8 by first | exact g2003 | omega) (by decide) (fun j2009 => ?_)
          refine z_const X (show cdA 92 225 = some (.iconst 1, 1, 0, 0, 0) from rfl) ?_
          refine z_callV X 103 (rm := rmN 1) (As := [.long j2008, .long j2009, .int (Int32.ofInt 1)]) (st := []) (show cdA 92 226 = some (.invokevirtual 140, 3, 1, 0, 0) from rfl) rfl (by decide) rfl (by rw [E.1, E.2.1, E.2.2.1]; exact c0_listen_103 G I (by first | exact ⟨by decide, by decide⟩ | omega)) ⟨by rw [E.2.2.2]; exact (show (rmN 1).frames + 1 ≤ (rmN 92).frames by decide), by rw [E.2.2.2]; exact (show 8 + (mNL (miB 1) + 11) + (rmN 1).locals ≤ (rmN 92).locals by decide), by rw [E.2.2.2]; exact (show 0 + (rmN 1).cells ≤ (rmN 92).cells by decide), by rw [E.2.2.2]; exact (show 0 + (rmN 1).slots ≤ (rmN 92).slots by decide)⟩ (Nat.le_of_ble_eq_true rfl) (fun vv s2010 hq => ?_) (fun ee s2010 hq => ?_)
          rotate_left
          · obtain ⟨Is2010, Fs2010, hv, hps2010⟩ := hq; cases hv
          obtain ⟨Is2010, Fs2010, hv, hps2010⟩ := hq
          cases hv
          have Gs2010 := fm_ts F Fs2010 (by decide) (by decide)
          have ws2010_9 : iI s2010 9 = iI t 9 := fm_i Fs2010 (by decide)
          have ws2010_39 : iI s2010 39 = iI t 39 := fm_i Fs2010 (by decide)
          show WS k 229 [(0, .ref (A 67)), (2, .int (Int32.ofInt p))] [] (Wd A dT s2010) 0 0
          refine z_inc X (x := p) (lv' := [(2, .int (Int32.ofInt (p + 1))), (0, .ref (A 67))]) (show cdA 92 229 = some (.iinc 2 1, 3, 0, 0, 0) from rfl) (by decide) (List.Mem.tail _ (List.Mem.head _)) (fun _ h => h) ?_
          refine z_goto X (t := 195) (show cdA 92 232 = some (.goto (-37), 3, 0, 0, 0) from rfl) (by decide) ?_
          refine WS_lv (lv := [(0, .ref (A 67)), (2, .int (Int32.ofInt (p + 1)))]) (List.forall_mem_cons.mpr ⟨(List.Mem.tail _ (List.Mem.head _)), (List.forall_mem_cons.mpr ⟨(List.Mem.head _), (fun q h => absurd h List.not_mem_nil)⟩)⟩) ?_
          exact ih _ (p + 1) Is2010 Gs2010 (by first | exact ⟨oq_54f49eb5 hi.1, oq_0c7b19c3 g2003⟩ | omega) (by first | exact qk_me hm (by decide) (oq_9f368f35 g2003) | omega) kx
        ·
          have e8 : 93 + 10 * (p : Int).toNat = 113 := by omega
          rw [e8]
          refine z_aload_n X (x := A 67) (show cdA 92 207 = some (.aload_n 0, 1, 0, 0, 0) from rfl) (List.Mem.head _) ?_
          refine s_getR X 67 (show cdA 92 208 = some (.getfield 52, 3, 8, 2, 0) from rfl) (by decide) rfl rfl ?_
          refine s_getR X 25 (show cdA 92 211 = some (.getfield 134, 3, 3, 1, 0) from rfl) (by decide) rfl rfl ?_
          refine z_load_n X (x := p) (show cdA 92 214 = some (.iload_n 2, 1, 0, 0, 0) from rfl) (List.Mem.tail _ (List.Mem.head _)) ?_
          refine z_lald X 27 (show cdA 92 215 = some (.laload, 1, 0, 0, 0) from rfl) (by decide) rfl (by first | exact hi.1 | omega) (show p < 8 by first | exact g2003 | omega) (by decide) (fun j2012 => ?_)
          refine z_aload_n X (x := A 67) (show cdA 92 216 = some (.aload_n 0, 1, 0, 0, 0) from rfl) (List.Mem.head _) ?_
          refine s_getR X 67 (show cdA 92 217 = some (.getfield 52, 3, 8, 2, 0) from rfl) (by decide) rfl rfl ?_
          refine s_getR X 25 (show cdA 92 220 = some (.getfield 138, 3, 3, 2, 0) from rfl) (by decide) rfl rfl ?_
          refine z_load_n X (x := p) (show cdA 92 223 = some (.iload_n 2, 1, 0, 0, 0) from rfl) (List.Mem.tail _ (List.Mem.head _)) ?_
          refine z_lald X 28 (show cdA 92 224 = some (.laload, 1, 0, 0, 0) from rfl) (by decide) rfl (by first | exact hi.1 | omega) (show p < 8 by first | exact g2003 | omega) (by decide) (fun j2013 => ?_)
          refine z_const X (show cdA 92 225 = some (.iconst 1, 1, 0, 0, 0) from rfl) ?_
          refine z_callV X 113 (rm := rmN 1) (As := [.long j2012, .long j2013, .int (Int32.ofInt 1)]) (st := []) (show cdA 92 226 = some (.invokevirtual 140, 3, 1, 0, 0) from rfl) rfl (by decide) rfl (by rw [E.1, E.2.1, E.2.2.1]; exact c0_listen_113 G I (by first | exact ⟨by decide, by decide⟩ | omega)) ⟨by rw [E.2.2.2]; exact (show (rmN 1).frames + 1 ≤ (rmN 92).frames by decide), by rw [E.2.2.2]; exact (show 8 + (mNL (miB 1) + 11) + (rmN 1).locals ≤ (rmN 92).locals by decide), by rw [E.2.2.2]; exact (show 0 + (rmN 1).cells ≤ (rmN 92).cells by decide), by rw [E.2.2.2]; exact (show 0 + (rmN 1).slots ≤ (rmN 92).slots by decide)⟩ (Nat.le_of_ble_eq_true rfl) (fun vv s2014 hq => ?_) (fun ee s2014 hq => ?_)
          rotate_left
          · obtain ⟨Is2014, Fs2014, hv, hps2014⟩ := hq; cases hv
          obtain ⟨Is2014, Fs2014, hv, hps2014⟩ := hq
          cases hv
          have Gs2014 := fm_ts F Fs2014 (by decide) (by decide)
          have ws2014_9 : iI s2014 9 = iI t 9 := fm_i Fs2014 (by decide)
          have ws2014_39 : iI s2014 39 = iI t 39 := fm_i Fs2014 (by decide)
          show WS k 229 [(0, .ref (A 67)), (2, .int (Int32.ofInt p))] [] (Wd A dT s2014) 0 0
          refine z_inc X (x := p) (lv' := [(2, .int (Int32.ofInt (p + 1))), (0, .ref (A 67))]) (show cdA 92 229 = some (.iinc 2 1, 3, 0, 0, 0) from rfl) (by decide) (List.Mem.tail _ (List.Mem.head _)) (fun _ h => h) ?_
          refine z_goto X (t := 195) (show cdA 92 232 = some (.goto (-37), 3, 0, 0, 0) from rfl) (by decide) ?_
          refine WS_lv (lv := [(0, .ref (A 67)), (2, .int (Int32.ofInt (p + 1)))]) (List.forall_mem_cons.mpr ⟨(List.Mem.tail _ (List.Mem.head _)), (List.forall_mem_cons.mpr ⟨(List.Mem.head _), (fun q h => absurd h List.not_mem_nil)⟩)⟩) ?_
          exact ih _ (p + 1) Is2014 Gs2014 (by first | exact ⟨oq_54f49eb5 hi.1, oq_0c7b19c3 g2003⟩ | omega) (by first | exact qk_me hm (by decide) (oq_9f368f35 g2003) | omega) kx
        ·
          have e8 : 93 + 10 * (p : Int).toNat = 123 := by omega
          rw [e8]
          refine z_aload_n X (x := A 67) (show cdA 92 207 = some (.aload_n 0, 1, 0, 0, 0) from rfl) (List.Mem.head _) ?_
          refine s_getR X 67 (show cdA 92 208 = some (.getfield 52, 3, 8, 2, 0) from rfl) (by decide) rfl rfl ?_
          refine s_getR X 25 (show cdA 92 211 = some (.getfield 134, 3, 3, 1, 0) from rfl) (by decide) rfl rfl ?_
          refine z_load_n X (x := p) (show cdA 92 214 = some (.iload_n 2, 1, 0, 0, 0) from rfl) (List.Mem.tail _ (List.Mem.head _)) ?_
          refine z_lald X 27 (show cdA 92 215 = some (.laload, 1, 0, 0, 0) from rfl) (by decide) rfl (by first | exact hi.1 | omega) (show p < 8 by first | exact g2003 | omega) (by decide) (fun j2016 => ?_)
          refine z_aload_n X (x := A 67) (show cdA 92 216 = some (.aload_n 0, 1, 0, 0, 0) from rfl) (List.Mem.head _) ?_
          refine s_getR X 67 (show cdA 92 217 = some (.getfield 52, 3, 8, 2, 0) from rfl) (by decide) rfl rfl ?_
          refine s_getR X 25 (show cdA 92 220 = some (.getfield 138, 3, 3, 2, 0) from rfl) (by decide) rfl rfl ?_
          refine z_load_n X (x := p) (show cdA 92 223 = some (.iload_n 2, 1, 0, 0, 0) from rfl) (List.Mem.tail _ (List.Mem.head _)) ?_
          refine z_lald X 28 (show cdA 92 224 = some (.laload, 1, 0, 0, 0) from rfl) (by decide) rfl (by first | exact hi.1 | omega) (show p < 8 by first | exact g2003 | omega) (by decide) (fun j2017 => ?_)
          refine z_const X (show cdA 92 225 = some (.iconst 1, 1, 0, 0, 0) from rfl) ?_
          refine z_callV X 123 (rm := rmN 1) (As := [.long j2016, .long j2017, .int (Int32.ofInt 1)]) (st := []) (show cdA 92 226 = some (.invokevirtual 140, 3, 1, 0, 0) from rfl) rfl (by decide) rfl (by rw [E.1, E.2.1, E.2.2.1]; exact c0_listen_123 G I (by first | exact ⟨by decide, by decide⟩ | omega)) ⟨by rw [E.2.2.2]; exact (show (rmN 1).frames + 1 ≤ (rmN 92).frames by decide), by rw [E.2.2.2]; exact (show 8 + (mNL (miB 1) + 11) + (rmN 1).locals ≤ (rmN 92).locals by decide), by rw [E.2.2.2]; exact (show 0 + (rmN 1).cells ≤ (rmN 92).cells by decide), by rw [E.2.2.2]; exact (show 0 + (rmN 1).slots ≤ (rmN 92).slots by decide)⟩ (Nat.le_of_ble_eq_true rfl) (fun vv s2018 hq => ?_) (fun ee s2018 hq => ?_)
          rotate_left
          · obtain ⟨Is2018, Fs2018, hv, hps2018⟩ := hq; cases hv
          obtain ⟨Is2018, Fs2018, hv, hps2018⟩ := hq
          cases hv
          have Gs2018 := fm_ts F Fs2018 (by decide) (by decide)
          have ws2018_9 : iI s2018 9 = iI t 9 := fm_i Fs2018 (by decide)
          have ws2018_39 : iI s2018 39 = iI t 39 := fm_i Fs2018 (by decide)
          show WS k 229 [(0, .ref (A 67)), (2, .int (Int32.ofInt p))] [] (Wd A dT s2018) 0 0
          refine z_inc X (x := p) (lv' := [(2, .int (Int32.ofInt (p + 1))), (0, .ref (A 67))]) (show cdA 92 229 = some (.iinc 2 1, 3, 0, 0, 0) from rfl) (by decide) (List.Mem.tail _ (List.Mem.head _)) (fun _ h => h) ?_
          refine z_goto X (t := 195) (show cdA 92 232 = some (.goto (-37), 3, 0, 0, 0) from rfl) (by decide) ?_
          refine WS_lv (lv := [(0, .ref (A 67)), (2, .int (Int32.ofInt (p + 1)))]) (List.forall_mem_cons.mpr ⟨(List.Mem.tail _ (List.Mem.head _)), (List.forall_mem_cons.mpr ⟨(List.Mem.head _), (fun q h => absurd h List.not_mem_nil)⟩)⟩) ?_
          exact ih _ (p + 1) Is2018 Gs2018 (by first | exact ⟨oq_54f49eb5 hi.1, oq_0c7b19c3 g2003⟩ | omega) (by first | exact qk_me hm (by decide) (oq_9f368f35 g2003) | omega) kx
        ·
          have e8 : 93 + 10 * (p : Int).toNat = 133 := by omega
          rw [e8]
          refine z_aload_n X (x := A 67) (show cdA 92 207 = some (.aload_n 0, 1, 0, 0, 0) from rfl) (List.Mem.head _) ?_
          refine s_getR X 67 (show cdA 92 208 = some (.getfield 52, 3, 8, 2, 0) from rfl) (by decide) rfl rfl ?_
          refine s_getR X 25 (show cdA 92 211 = some (.getfield 134, 3, 3, 1, 0) from rfl) (by decide) rfl rfl ?_
          refine z_load_n X (x := p) (show cdA 92 214 = some (.iload_n 2, 1, 0, 0, 0) from rfl) (List.Mem.tail _ (List.Mem.head _)) ?_
          refine z_lald X 27 (show cdA 92 215 = some (.laload, 1, 0, 0, 0) from rfl) (by decide) rfl (by first | exact hi.1 | omega) (show p < 8 by first | exact g2003 | omega) (by decide) (fun j2020 => ?_)
          refine z_aload_n X (x := A 67) (show cdA 92 216 = some (.aload_n 0, 1, 0, 0, 0) from rfl) (List.Mem.head _) ?_
          refine s_getR X 67 (show cdA 92 217 = some (.getfield 52, 3, 8, 2, 0) from rfl) (by decide) rfl rfl ?_
          refine s_getR X 25 (show cdA 92 220 = some (.getfield 138, 3, 3, 2, 0) from rfl) (by decide) rfl rfl ?_
          refine z_load_n X (x := p) (show cdA 92 223 = some (.iload_n 2, 1, 0, 0, 0) from rfl) (List.Mem.tail _ (List.Mem.head _)) ?_
          refine z_lald X 28 (show cdA 92 224 = some (.laload, 1, 0, 0, 0) from rfl) (by decide) rfl (by first | exact hi.1 | omega) (show p < 8 by first | exact g2003 | omega) (by decide) (fun j2021 => ?_)
          refine z_const X (show cdA 92 225 = some (.iconst 1, 1, 0, 0, 0) from rfl) ?_
          refine z_callV X 133 (rm := rmN 1) (As := [.long j2020, .long j2021, .int (Int32.ofInt 1)]) (st := []) (show cdA 92 226 = some (.invokevirtual 140, 3, 1, 0, 0) from rfl) rfl (by decide) rfl (by rw [E.1, E.2.1, E.2.2.1]; exact c0_listen_133 G I (by first | exact ⟨by decide, by decide⟩ | omega)) ⟨by rw [E.2.2.2]; exact (show (rmN 1).frames + 1 ≤ (rmN 92).frames by decide), by rw [E.2.2.2]; exact (show 8 + (mNL (miB 1) + 11) + (rmN 1).locals ≤ (rmN 92).locals by decide), by rw [E.2.2.2]; exact (show 0 + (rmN 1).cells ≤ (rmN 92).cells by decide), by rw [E.2.2.2]; exact (show 0 + (rmN 1).slots ≤ (rmN 92).slots by decide)⟩ (Nat.le_of_ble_eq_true rfl) (fun vv s2022 hq => ?_) (fun ee s2022 hq => ?_)
          rotate_left
          · obtain ⟨Is2022, Fs2022, hv, hps2022⟩ := hq; cases hv
          obtain ⟨Is2022, Fs2022, hv, hps2022⟩ := hq
          cases hv
          have Gs2022 := fm_ts F Fs2022 (by decide) (by decide)
          have ws2022_9 : iI s2022 9 = iI t 9 := fm_i Fs2022 (by decide)
          have ws2022_39 : iI s2022 39 = iI t 39 := fm_i Fs2022 (by decide)
          show WS k 229 [(0, .ref (A 67)), (2, .int (Int32.ofInt p))] [] (Wd A dT s2022) 0 0
          refine z_inc X (x := p) (lv' := [(2, .int (Int32.ofInt (p + 1))), (0, .ref (A 67))]) (show cdA 92 229 = some (.iinc 2 1, 3, 0, 0, 0) from rfl) (by decide) (List.Mem.tail _ (List.Mem.head _)) (fun _ h => h) ?_
          refine z_goto X (t := 195) (show cdA 92 232 = some (.goto (-37), 3, 0, 0, 0) from rfl) (by decide) ?_
          refine WS_lv (lv := [(0, .ref (A 67)), (2, .int (Int32.ofInt (p + 1)))]) (List.forall_mem_cons.mpr ⟨(List.Mem.tail _ (List.Mem.head _)), (List.forall_mem_cons.mpr ⟨(List.Mem.head _), (fun q h => absurd h List.not_mem_nil)⟩)⟩) ?_
          exact ih _ (p + 1) Is2022 Gs2022 (by first | exact ⟨oq_54f49eb5 hi.1, oq_0c7b19c3 g2003⟩ | omega) (by first | exact qk_me hm (by decide) (oq_9f368f35 g2003) | omega) kx
        ·
          have e8 : 93 + 10 * (p : Int).toNat = 143 := by omega
          rw [e8]
          refine z_aload_n X (x := A 67) (show cdA 92 207 = some (.aload_n 0, 1, 0, 0, 0) from rfl) (List.Mem.head _) ?_
          refine s_getR X 67 (show cdA 92 208 = some (.getfield 52, 3, 8, 2, 0) from rfl) (by decide) rfl rfl ?_
          refine s_getR X 25 (show cdA 92 211 = some (.getfield 134, 3, 3, 1, 0) from rfl) (by decide) rfl rfl ?_
          refine z_load_n X (x := p) (show cdA 92 214 = some (.iload_n 2, 1, 0, 0, 0) from rfl) (List.Mem.tail _ (List.Mem.head _)) ?_
          refine z_lald X 27 (show cdA 92 215 = some (.laload, 1, 0, 0, 0) from rfl) (by decide) rfl (by first | exact hi.1 | omega) (show p < 8 by first | exact g2003 | omega) (by decide) (fun j2024 => ?_)
          refine z_aload_n X (x := A 67) (show cdA 92 216 = some (.aload_n 0, 1, 0, 0, 0) from rfl) (List.Mem.head _) ?_
          refine s_getR X 67 (show cdA 92 217 = some (.getfield 52, 3, 8, 2, 0) from rfl) (by decide) rfl rfl ?_
          refine s_getR X 25 (show cdA 92 220 = some (.getfield 138, 3, 3, 2, 0) from rfl) (by decide) rfl rfl ?_
          refine z_load_n X (x := p) (show cdA 92 223 = some (.iload_n 2, 1, 0, 0, 0) from rfl) (List.Mem.tail _ (List.Mem.head _)) ?_
          refine z_lald X 28 (show cdA 92 224 = some (.laload, 1, 0, 0, 0) from rfl) (by decide) rfl (by first | exact hi.1 | omega) (show p < 8 by first | exact g2003 | omega) (by decide) (fun j2025 => ?_)
          refine z_const X (show cdA 92 225 = some (.iconst 1, 1, 0, 0, 0) from rfl) ?_
          refine z_callV X 143 (rm := rmN 1) (As := [.long j2024, .long j2025, .int (Int32.ofInt 1)]) (st := []) (show cdA 92 226 = some (.invokevirtual 140, 3, 1, 0, 0) from rfl) rfl (by decide) rfl (by rw [E.1, E.2.1, E.2.2.1]; exact c0_listen_143 G I (by first | exact ⟨by decide, by decide⟩ | omega)) ⟨by rw [E.2.2.2]; exact (show (rmN 1).frames + 1 ≤ (rmN 92).frames by decide), by rw [E.2.2.2]; exact (show 8 + (mNL (miB 1) + 11) + (rmN 1).locals ≤ (rmN 92).locals by decide), by rw [E.2.2.2]; exact (show 0 + (rmN 1).cells ≤ (rmN 92).cells by decide), by rw [E.2.2.2]; exact (show 0 + (rmN 1).slots ≤ (rmN 92).slots by decide)⟩ (Nat.le_of_ble_eq_true rfl) (fun vv s2026 hq => ?_) (fun ee s2026 hq => ?_)
          rotate_left
          · obtain ⟨Is2026, Fs2026, hv, hps2026⟩ := hq; cases hv
          obtain ⟨Is2026, Fs2026, hv, hps2026⟩ := hq
          cases hv
          have Gs2026 := fm_ts F Fs2026 (by decide) (by decide)
          have ws2026_9 : iI s2026 9 = iI t 9 := fm_i Fs2026 (by decide)
          have ws2026_39 : iI s2026 39 = iI t 39 := fm_i Fs2026 (by decide)
          show WS k 229 [(0, .ref (A 67)), (2, .int (Int32.ofInt p))] [] (Wd A dT s2026) 0 0
          refine z_inc X (x := p) (lv' := [(2, .int (Int32.ofInt (p + 1))), (0, .ref (A 67))]) (show cdA 92 229 = some (.iinc 2 1, 3, 0, 0, 0) from rfl) (by decide) (List.Mem.tail _ (List.Mem.head _)) (fun _ h => h) ?_
          refine z_goto X (t := 195) (show cdA 92 232 = some (.goto (-37), 3, 0, 0, 0) from rfl) (by decide) ?_
          refine WS_lv (lv := [(0, .ref (A 67)), (2, .int (Int32.ofInt (p + 1)))]) (List.forall_mem_cons.mpr ⟨(List.Mem.tail _ (List.Mem.head _)), (List.forall_mem_cons.mpr ⟨(List.Mem.head _), (fun q h => absurd h List.not_mem_nil)⟩)⟩) ?_
          exact ih _ (p + 1) Is2026 Gs2026 (by first | exact ⟨oq_54f49eb5 hi.1, oq_0c7b19c3 g2003⟩ | omega) (by first | exact qk_me hm (by decide) (oq_9f368f35 g2003) | omega) kx
        ·
          have e8 : 93 + 10 * (p : Int).toNat = 153 := by omega
          rw [e8]
          refine z_aload_n X (x := A 67) (show cdA 92 207 = some (.aload_n 0, 1, 0, 0, 0) from rfl) (List.Mem.head _) ?_
          refine s_getR X 67 (show cdA 92 208 = some (.getfield 52, 3, 8, 2, 0) from rfl) (by decide) rfl rfl ?_
          refine s_getR X 25 (show cdA 92 211 = some (.getfield 134, 3, 3, 1, 0) from rfl) (by decide) rfl rfl ?_
          refine z_load_n X (x := p) (show cdA 92 214 = some (.iload_n 2, 1, 0, 0, 0) from rfl) (List.Mem.tail _ (List.Mem.head _)) ?_
          refine z_lald X 27 (show cdA 92 215 = some (.laload, 1, 0, 0, 0) from rfl) (by decide) rfl (by first | exact hi.1 | omega) (show p < 8 by first | exact g2003 | omega) (by decide) (fun j2028 => ?_)
          refine z_aload_n X (x := A 67) (show cdA 92 216 = some (.aload_n 0, 1, 0, 0, 0) from rfl) (List.Mem.head _) ?_
          refine s_getR X 67 (show cdA 92 217 = some (.getfield 52, 3, 8, 2, 0) from rfl) (by decide) rfl rfl ?_
          refine s_getR X 25 (show cdA 92 220 = some (.getfield 138, 3, 3, 2, 0) from rfl) (by decide) rfl rfl ?_
          refine z_load_n X (x := p) (show cdA 92 223 = some (.iload_n 2, 1, 0, 0, 0) from rfl) (List.Mem.tail _ (List.Mem.head _)) ?_
          refine z_lald X 28 (show cdA 92 224 = some (.laload, 1, 0, 0, 0) from rfl) (by decide) rfl (by first | exact hi.1 | omega) (show p < 8 by first | exact g2003 | omega) (by decide) (fun j2029 => ?_)
          refine z_const X (show cdA 92 225 = some (.iconst 1, 1, 0, 0, 0) from rfl) ?_
          refine z_callV X 153 (rm := rmN 1) (As := [.long j2028, .long j2029, .int (Int32.ofInt 1)]) (st := []) (show cdA 92 226 = some (.invokevirtual 140, 3, 1, 0, 0) from rfl) rfl (by decide) rfl (by rw [E.1, E.2.1, E.2.2.1]; exact c0_listen_153 G I (by first | exact ⟨by decide, by decide⟩ | omega)) ⟨by rw [E.2.2.2]; exact (show (rmN 1).frames + 1 ≤ (rmN 92).frames by decide), by rw [E.2.2.2]; exact (show 8 + (mNL (miB 1) + 11) + (rmN 1).locals ≤ (rmN 92).locals by decide), by rw [E.2.2.2]; exact (show 0 + (rmN 1).cells ≤ (rmN 92).cells by decide), by rw [E.2.2.2]; exact (show 0 + (rmN 1).slots ≤ (rmN 92).slots by decide)⟩ (Nat.le_of_ble_eq_true rfl) (fun vv s2030 hq => ?_) (fun ee s2030 hq => ?_)
          rotate_left
          · obtain ⟨Is2030, Fs2030, hv, hps2030⟩ := hq; cases hv
          obtain ⟨Is2030, Fs2030, hv, hps2030⟩ := hq
          cases hv
          have Gs2030 := fm_ts F Fs2030 (by decide) (by decide)
          have ws2030_9 : iI s2030 9 = iI t 9 := fm_i Fs2030 (by decide)
          have ws2030_39 : iI s2030 39 = iI t 39 := fm_i Fs2030 (by decide)
          show WS k 229 [(0, .ref (A 67)), (2, .int (Int32.ofInt p))] [] (Wd A dT s2030) 0 0
          refine z_inc X (x := p) (lv' := [(2, .int (Int32.ofInt (p + 1))), (0, .ref (A 67))]) (show cdA 92 229 = some (.iinc 2 1, 3, 0, 0, 0) from rfl) (by decide) (List.Mem.tail _ (List.Mem.head _)) (fun _ h => h) ?_
          refine z_goto X (t := 195) (show cdA 92 232 = some (.goto (-37), 3, 0, 0, 0) from rfl) (by decide) ?_
          refine WS_lv (lv := [(0, .ref (A 67)), (2, .int (Int32.ofInt (p + 1)))]) (List.forall_mem_cons.mpr ⟨(List.Mem.tail _ (List.Mem.head _)), (List.forall_mem_cons.mpr ⟨(List.Mem.head _), (fun q h => absurd h List.not_mem_nil)⟩)⟩) ?_
          exact ih _ (p + 1) Is2030 Gs2030 (by first | exact ⟨oq_54f49eb5 hi.1, oq_0c7b19c3 g2003⟩ | omega) (by first | exact qk_me hm (by decide) (oq_9f368f35 g2003) | omega) kx
        ·
          have e8 : 93 + 10 * (p : Int).toNat = 163 := by omega
          rw [e8]
          refine z_aload_n X (x := A 67) (show cdA 92 207 = some (.aload_n 0, 1, 0, 0, 0) from rfl) (List.Mem.head _) ?_
          refine s_getR X 67 (show cdA 92 208 = some (.getfield 52, 3, 8, 2, 0) from rfl) (by decide) rfl rfl ?_
          refine s_getR X 25 (show cdA 92 211 = some (.getfield 134, 3, 3, 1, 0) from rfl) (by decide) rfl rfl ?_
          refine z_load_n X (x := p) (show cdA 92 214 = some (.iload_n 2, 1, 0, 0, 0) from rfl) (List.Mem.tail _ (List.Mem.head _)) ?_
          refine z_lald X 27 (show cdA 92 215 = some (.laload, 1, 0, 0, 0) from rfl) (by decide) rfl (by first | exact hi.1 | omega) (show p < 8 by first | exact g2003 | omega) (by decide) (fun j2032 => ?_)
          refine z_aload_n X (x := A 67) (show cdA 92 216 = some (.aload_n 0, 1, 0, 0, 0) from rfl) (List.Mem.head _) ?_
          refine s_getR X 67 (show cdA 92 217 = some (.getfield 52, 3, 8, 2, 0) from rfl) (by decide) rfl rfl ?_
          refine s_getR X 25 (show cdA 92 220 = some (.getfield 138, 3, 3, 2, 0) from rfl) (by decide) rfl rfl ?_
          refine z_load_n X (x := p) (show cdA 92 223 = some (.iload_n 2, 1, 0, 0, 0) from rfl) (List.Mem.tail _ (List.Mem.head _)) ?_
          refine z_lald X 28 (show cdA 92 224 = some (.laload, 1, 0, 0, 0) from rfl) (by decide) rfl (by first | exact hi.1 | omega) (show p < 8 by first | exact g2003 | omega) (by decide) (fun j2033 => ?_)
          refine z_const X (show cdA 92 225 = some (.iconst 1, 1, 0, 0, 0) from rfl) ?_
          refine z_callV X 163 (rm := rmN 1) (As := [.long j2032, .long j2033, .int (Int32.ofInt 1)]) (st := []) (show cdA 92 226 = some (.invokevirtual 140, 3, 1, 0, 0) from rfl) rfl (by decide) rfl (by rw [E.1, E.2.1, E.2.2.1]; exact c0_listen_163 G I (by first | exact ⟨by decide, by decide⟩ | omega)) ⟨by rw [E.2.2.2]; exact (show (rmN 1).frames + 1 ≤ (rmN 92).frames by decide), by rw [E.2.2.2]; exact (show 8 + (mNL (miB 1) + 11) + (rmN 1).locals ≤ (rmN 92).locals by decide), by rw [E.2.2.2]; exact (show 0 + (rmN 1).cells ≤ (rmN 92).cells by decide), by rw [E.2.2.2]; exact (show 0 + (rmN 1).slots ≤ (rmN 92).slots by decide)⟩ (Nat.le_of_ble_eq_true rfl) (fun vv s2034 hq => ?_) (fun ee s2034 hq => ?_)
          rotate_left
          · obtain ⟨Is2034, Fs2034, hv, hps2034⟩ := hq; cases hv
          obtain ⟨Is2034, Fs2034, hv, hps2034⟩ := hq
          cases hv
          have Gs2034 := fm_ts F Fs2034 (by decide) (by decide)
          have ws2034_9 : iI s2034 9 = iI t 9 := fm_i Fs2034 (by decide)
          have ws2034_39 : iI s2034 39 = iI t 39 := fm_i Fs2034 (by decide)
          show WS k 229 [(0, .ref (A 67)), (2, .int (Int32.ofInt p))] [] (Wd A dT s2034) 0 0
          refine z_inc X (x := p) (lv' := [(2, .int (Int32.ofInt (p + 1))), (0, .ref (A 67))]) (show cdA 92 229 = some (.iinc 2 1, 3, 0, 0, 0) from rfl) (by decide) (List.Mem.tail _ (List.Mem.head _)) (fun _ h => h) ?_
          refine z_goto X (t := 195) (show cdA 92 232 = some (.goto (-37), 3, 0, 0, 0) from rfl) (by decide) ?_
          refine WS_lv (lv := [(0, .ref (A 67)), (2, .int (Int32.ofInt (p + 1)))]) (List.forall_mem_cons.mpr ⟨(List.Mem.tail _ (List.Mem.head _)), (List.forall_mem_cons.mpr ⟨(List.Mem.head _), (fun q h => absurd h List.not_mem_nil)⟩)⟩) ?_
          exact ih _ (p + 1) Is2034 Gs2034 (by first | exact ⟨oq_54f49eb5 hi.1, oq_0c7b19c3 g2003⟩ | omega) (by first | exact qk_me hm (by decide) (oq_9f368f35 g2003) | omega) kx
  refine z_aload_n X (x := A 67) (show cdA 92 0 = some (.aload_n 0, 1, 0, 0, 0) from rfl) (List.Mem.head _) ?_
  refine s_getR X 67 (show cdA 92 1 = some (.getfield 12, 3, 8, 1, 0) from rfl) (by decide) rfl rfl ?_
  refine z_aload_n X (x := A 67) (show cdA 92 4 = some (.aload_n 0, 1, 0, 0, 0) from rfl) (List.Mem.head _) ?_
  refine s_getR X 67 (show cdA 92 5 = some (.getfield 49, 3, 8, 0, 0) from rfl) (by decide) rfl rfl ?_
  refine z_getI X 3 (show cdA 92 8 = some (.getfield 80, 3, 9, 0, 0) from rfl) (by decide) rfl rfl ?_
  have b3 : (0 : Int) ≤ iI s 9 ∧ iI s 9 ≤ 12 := I.1 9
  refine s_putI X 68 (show cdA 92 11 = some (.putfield 80, 3, 9, 0, 0) from rfl) (by decide) rfl rfl (by decide) rfl rfl rfl ?_
  obtain ⟨s4, hs4⟩ : ∃ x0, x0 = uI s 43 (Int32.ofInt (iI s 9)) := ⟨_, rfl⟩
  rw [← hs4]
  have Is4 : Bd s4 := by rw [hs4]; exact bd_I I (show (0 : Int) ≤ (iI s 9) ∧ (iI s 9) ≤ 12 by first | exact ⟨b3.1, b3.2⟩ | omega) (rng_to _)
  have Fs4 := fm_I (x := Int32.ofInt (iI s 9)) F (show 43 ∈ _ by decide)
  rw [← hs4] at Fs4
  have vs4 : iI s4 43 = (iI s 9) := by rw [hs4]; exact iI_u (rng_to _)
  have ws4_9 : iI s4 9 = iI s 9 := by rw [hs4]; rfl
  have ws4_39 : iI s4 39 = iI s 39 := by rw [hs4]; rfl
  refine z_const X (show cdA 92 14 = some (.iconst 0, 1, 0, 0, 0) from rfl) ?_
  refine z_store_n X (lv' := [(1, .int (Int32.ofInt 0)), (0, .ref (A 67))]) (show cdA 92 15 = some (.istore_n 1, 1, 0, 0, 0) from rfl) (by decide) (fun _ h => h) ?_
  refine z_const X (show cdA 92 16 = some (.iconst 0, 1, 0, 0, 0) from rfl) ?_
  refine z_store_n X (lv' := [(2, .int (Int32.ofInt 0)), (1, .int (Int32.ofInt 0)), (0, .ref (A 67))]) (show cdA 92 17 = some (.istore_n 2, 1, 0, 0, 0) from rfl) (by decide) (fun _ h => h) ?_
  refine WS_lv (lv := [(0, .ref (A 67)), (1, .int (Int32.ofInt 0)), (2, .int (Int32.ofInt 0))]) (List.forall_mem_cons.mpr ⟨(List.Mem.tail _ (List.Mem.tail _ (List.Mem.head _))), (List.forall_mem_cons.mpr ⟨(List.Mem.tail _ (List.Mem.head _)), (List.forall_mem_cons.mpr ⟨(List.Mem.head _), (fun q h => absurd h List.not_mem_nil)⟩)⟩)⟩) ?_
  refine L18 ((12 - 0 : Int).toNat + 1) s4 0 0 Is4 Fs4 (by first | exact ⟨And.intro (by decide) (by decide), by decide, oq_0b35aa92 bz0, p0⟩ | omega) (Nat.lt_succ_self _) ?_
  intro s5 x6 x7 Is5 Fs5 hs5
  have b8 : (0 : Int) ≤ iI s5 9 ∧ iI s5 9 ≤ 12 := Is5.1 9
  have b9 : (0 : Int) ≤ iI s5 39 ∧ iI s5 39 ≤ 23 := Is5.1 39
  refine z_aload_n X (x := A 67) (show cdA 92 186 = some (.aload_n 0, 1, 0, 0, 0) from rfl) (List.Mem.head _) ?_
  refine s_getR X 67 (show cdA 92 187 = some (.getfield 12, 3, 8, 1, 0) from rfl) (by decide) rfl rfl ?_
  refine z_callV X 68 (rm := rmN 110) (As := []) (st := []) (show cdA 92 190 = some (.invokevirtual 131, 3, 110, 0, 0) from rfl) rfl (by decide) rfl (by rw [E.1, E.2.1, E.2.2.1]; exact c9_pairUp_68 G Is5 ) ⟨by rw [E.2.2.2]; exact (show (rmN 110).frames + 1 ≤ (rmN 92).frames by decide), by rw [E.2.2.2]; exact (show 8 + (mNL (miB 110) + 11) + (rmN 110).locals ≤ (rmN 92).locals by decide), by rw [E.2.2.2]; exact (show 0 + (rmN 110).cells ≤ (rmN 92).cells by decide), by rw [E.2.2.2]; exact (show 0 + (rmN 110).slots ≤ (rmN 92).slots by decide)⟩ (Nat.le_of_ble_eq_true rfl) (fun vv s10 hq => ?_) (fun ee s10 hq => ?_)
  rotate_left
  · obtain ⟨Is10, Fs10, hv, hps10⟩ := hq; cases hv
  obtain ⟨Is10, Fs10, hv, hps10⟩ := hq
  cases hv
  have Gs10 := fm_ts Fs5 Fs10 (by decide) (by decide)
  have ws10_9 : iI s10 9 = iI s5 9 := fm_i Fs10 (by decide)
  have ws10_39 : iI s10 39 = iI s5 39 := fm_i Fs10 (by decide)
  show WS k 193 [(0, .ref (A 67)), (1, .int (Int32.ofInt x6)), (2, .int (Int32.ofInt x7))] [] (Wd A dT s10) 0 0
  refine z_const X (show cdA 92 193 = some (.iconst 0, 1, 0, 0, 0) from rfl) ?_
  refine z_store_n X (lv' := [(2, .int (Int32.ofInt 0)), (0, .ref (A 67)), (1, .int (Int32.ofInt x6))]) (show cdA 92 194 = some (.istore_n 2, 1, 0, 0, 0) from rfl) (by decide) (fun _ h => h) ?_
  refine WS_lv (lv := [(0, .ref (A 67)), (2, .int (Int32.ofInt 0))]) (List.forall_mem_cons.mpr ⟨(List.Mem.tail _ (List.Mem.head _)), (List.forall_mem_cons.mpr ⟨(List.Mem.head _), (fun q h => absurd h List.not_mem_nil)⟩)⟩) ?_
  refine L195 ((8 - 0 : Int).toNat + 1) s10 0 Is10 Gs10 (by first | exact ⟨by decide, by decide⟩ | omega) (Nat.lt_succ_self _) ?_
  intro s12 x13 Is12 Fs12 hs12
  have b14 : (0 : Int) ≤ iI s12 9 ∧ iI s12 9 ≤ 12 := Is12.1 9
  have b15 : (0 : Int) ≤ iI s12 39 ∧ iI s12 39 ≤ 23 := Is12.1 39
  exact w_vret X.1 q hRt (ax_d X (show cdA 92 235 = some (.return_, 1, 0, 0, 0) from rfl)) (Nat.zero_le _) (Nat.zero_le _) ⟨_, rfl, Is12, Fs12, rfl, trivial⟩
set_option maxRecDepth 4000 in
theorem c8_solve_67 (G : GX l s0 D tys a0 dT) (GR : RS0 s0) (I : Bd s) {x y : Int} (p0 : rng x) (p1 : rng y) (p2 : bcn (iI s 40) 12 ≤ iI s 41) : CT l s0 D A dT 91 (rmN 91) [.ref (A 67), .int (Int32.ofInt x), .int (Int32.ofInt y)] s (fun o t => Bd t ∧ Fm [43, 44, 46, 47, 49, 50, 52, 53, 55, 56, 58, 59, 61, 62, 64, 65, 67, 68, 42] [57, 58, 67, 62, 77, 78, 79, 73, 87, 80, 81, 82, 83, 84, 85, 86, 96, 89, 90, 91, 92, 93, 94, 95, 105, 98, 99, 100, 101, 102, 103, 104, 114, 107, 108, 109, 110, 111, 112, 113, 123, 116, 117, 118, 119, 120, 121, 122, 132, 125, 126, 127, 128, 129, 130, 131, 141, 134, 135, 136, 137, 138, 139, 140, 150, 143, 144, 145, 146, 147, 148, 149, 20, 76, 74, 75, 1059, 1060, 1061, 1063] s t ∧ ∃ e, o = .inl (some (.int (Int32.ofInt e))) ∧ rng e ∧ (e = 0 ∨ e = 1)) := by
  refine ct_ofX G (by decide) (Nat.le_of_ble_eq_true rfl) (fun k X E ET hRt hXt q => ?_)
  show WS k 0 [(0, .ref (A 67)), (1, .int (Int32.ofInt x)), (2, .int (Int32.ofInt y))] [] _ 0 0
  have F : Fm [43, 44, 46, 47, 49, 50, 52, 53, 55, 56, 58, 59, 61, 62, 64, 65, 67, 68, 42] [57, 58, 67, 62, 77, 78, 79, 73, 87, 80, 81, 82, 83, 84, 85, 86, 96, 89, 90, 91, 92, 93, 94, 95, 105, 98, 99, 100, 101, 102, 103, 104, 114, 107, 108, 109, 110, 111, 112, 113, 123, 116, 117, 118, 119, 120, 121, 122, 132, 125, 126, 127, 128, 129, 130, 131, 141, 134, 135, 136, 137, 138, 139, 140, 150, 143, 144, 145, 146, 147, 148, 149, 20, 76, 74, 75, 1059, 1060, 1061, 1063] s s := fm_rf _ _ s
  have b1 : (0 : Int) ≤ iI s 41 ∧ iI s 41 ≤ 12 := I.1 41
  refine z_aload_n X (x := A 67) (show cdA 91 0 = some (.aload_n 0, 1, 0, 0, 0) from rfl) (List.Mem.head _) ?_
  refine z_getI X 67 (show cdA 91 1 = some (.getfield 77, 3, 8, 9, 0) from rfl) (by decide) rfl rfl ?_
  have b2 : (0 : Int) ≤ iI s 41 ∧ iI s 41 ≤ 12 := I.1 41
  refine z_bipush X (show cdA 91 4 = some (.bipush 8, 2, 0, 0, 8) from rfl) ?_
  refine z_icmp_le X (t := 11) (show cdA 91 6 = some (.if_icmp .le 5, 3, 5, 0, 0) from rfl) (by decide) (rng_to _) (by decide) (fun g3 => ?_) (fun g3 => ?_)
  ·
    refine z_aload_n X (x := A 67) (show cdA 91 11 = some (.aload_n 0, 1, 0, 0, 0) from rfl) (List.Mem.head _) ?_
    refine z_callV X 67 (rm := rmN 92) (As := []) (st := []) (show cdA 91 12 = some (.invokevirtual 90, 3, 92, 0, 0) from rfl) rfl (by decide) rfl (by rw [E.1, E.2.1, E.2.2.1]; exact c8_layWays_67 G GR I (by first | exact oq_fe8b3247 p2 g3 | omega)) ⟨by rw [E.2.2.2]; exact (show (rmN 92).frames + 1 ≤ (rmN 91).frames by decide), by rw [E.2.2.2]; exact (show 8 + (mNL (miB 92) + 11) + (rmN 92).locals ≤ (rmN 91).locals by decide), by rw [E.2.2.2]; exact (show 0 + (rmN 92).cells ≤ (rmN 91).cells by decide), by rw [E.2.2.2]; exact (show 0 + (rmN 92).slots ≤ (rmN 91).slots by decide)⟩ (Nat.le_of_ble_eq_true rfl) (fun vv s4 hq => ?_) (fun ee s4 hq => ?_)
    rotate_left
    · obtain ⟨Is4, Fs4, hv, hps4⟩ := hq; cases hv
    obtain ⟨Is4, Fs4, hv, hps4⟩ := hq
    cases hv
    have Gs4 := fm_ts F Fs4 (by decide) (by decide +kernel)
    have ws4_41 : iI s4 41 = iI s 41 := fm_i Fs4 (by decide)
    show WS k 15 [(0, .ref (A 67)), (1, .int (Int32.ofInt x)), (2, .int (Int32.ofInt y))] [] (Wd A dT s4) 0 0
    refine z_aload_n X (x := A 67) (show cdA 91 15 = some (.aload_n 0, 1, 0, 0, 0) from rfl) (List.Mem.head _) ?_
    refine s_getR X 67 (show cdA 91 16 = some (.getfield 37, 3, 8, 14, 0) from rfl) (by decide) rfl rfl ?_
    refine z_const X (show cdA 91 19 = some (.iconst 0, 1, 0, 0, 0) from rfl) ?_
    refine z_callS X (rm := rmN 312) (As := [.ref (A 89), .int (Int32.ofInt 0)]) (st := []) (show cdA 91 20 = some (.invokestatic 93, 3, 312, 1, 0) from rfl) rfl (by rw [E.1, E.2.1, E.2.2.1]; exact j_fill_89 G Is4 (by first | exact ⟨by decide, by decide⟩ | omega)) ⟨by rw [E.2.2.2]; exact (show (rmN 312).frames + 1 ≤ (rmN 91).frames by decide), by rw [E.2.2.2]; exact (show 8 + (mNL (miB 312) + 11) + (rmN 312).locals ≤ (rmN 91).locals by decide), by rw [E.2.2.2]; exact (show 0 + (rmN 312).cells ≤ (rmN 91).cells by decide), by rw [E.2.2.2]; exact (show 0 + (rmN 312).slots ≤ (rmN 91).slots by decide)⟩ (Nat.le_of_ble_eq_true rfl) (fun vv s6 hq => ?_) (fun ee s6 hq => ?_)
    rotate_left
    · obtain ⟨Is6, Fs6, hv, hps6⟩ := hq; cases hv
    obtain ⟨Is6, Fs6, hv, hps6⟩ := hq
    cases hv
    have Gs6 := fm_ts Gs4 Fs6 (by decide) (by decide)
    have ws6_41 : iI s6 41 = iI s4 41 := fm_i Fs6 (by decide)
    show WS k 23 [(0, .ref (A 67)), (1, .int (Int32.ofInt x)), (2, .int (Int32.ofInt y))] [] (Wd A dT s6) 0 0
    refine z_aload_n X (x := A 67) (show cdA 91 23 = some (.aload_n 0, 1, 0, 0, 0) from rfl) (List.Mem.head _) ?_
    refine z_ldc X (show cdA 91 24 = some (.ldc 101, 2, 0, 0, 2147483647) from rfl) ?_
    refine s_putI X 67 (show cdA 91 26 = some (.putfield 102, 3, 8, 13, 0) from rfl) (by decide) rfl rfl (by decide) rfl rfl rfl ?_
    obtain ⟨s8, hs8⟩ : ∃ x0, x0 = uI s6 42 (Int32.ofInt 2147483647) := ⟨_, rfl⟩
    rw [← hs8]
    have Is8 : Bd s8 := by rw [hs8]; exact bd_I Is6 (show ((-2147483648) : Int) ≤ 2147483647 ∧ 2147483647 ≤ 2147483647 by first | exact ⟨by decide, by decide⟩ | omega) (by decide)
    have Fs8 := fm_I (x := Int32.ofInt 2147483647) Gs6 (show 42 ∈ _ by decide)
    rw [← hs8] at Fs8
    have vs8 : iI s8 42 = 2147483647 := by rw [hs8]; exact iI_u (by decide)
    have ws8_41 : iI s8 41 = iI s6 41 := by rw [hs8]; rfl
    refine z_aload_n X (x := A 67) (show cdA 91 29 = some (.aload_n 0, 1, 0, 0, 0) from rfl) (List.Mem.head _) ?_
    refine z_const X (show cdA 91 30 = some (.iconst 0, 1, 0, 0, 0) from rfl) ?_
    refine z_const X (show cdA 91 31 = some (.iconst 0, 1, 0, 0, 0) from rfl) ?_
    refine z_load_n X (x := x) (show cdA 91 32 = some (.iload_n 1, 1, 0, 0, 0) from rfl) (List.Mem.tail _ (List.Mem.head _)) ?_
    refine z_load_n X (x := y) (show cdA 91 33 = some (.iload_n 2, 1, 0, 0, 0) from rfl) (List.Mem.tail _ (List.Mem.tail _ (List.Mem.head _))) ?_
    refine z_const X (show cdA 91 34 = some (.iconst 0, 1, 0, 0, 0) from rfl) ?_
    refine z_callV X 67 (rm := (rkR (30 + (8)))) (As := [.int (Int32.ofInt 0), .int (Int32.ofInt 0), .int (Int32.ofInt x), .int (Int32.ofInt y), .int (Int32.ofInt 0)]) (st := []) (show cdA 91 35 = some (.invokevirtual 105, 3, 96, 0, 0) from rfl) rfl (by decide) rfl (by rw [E.1, E.2.1, E.2.2.1]; exact c8_tryr G 8 Is8 (by omega) (by omega) (by first | exact oq_e14d47df ws8_41 ws6_41 ws4_41 g3 | omega) (by first | exact ⟨p1.1, p1.2⟩ | omega) (by omega) (by omega) (by omega)) ⟨by rw [E.2.2.2]; exact (show (12 + (30 + (8))) + 1 ≤ 53 from oq_9a8da6b0), by rw [E.2.2.2]; exact (show 8 + (7 + 11) + (500 + 45 * (30 + (8))) ≤ 2326 from oq_deba6685), by rw [E.2.2.2]; exact Nat.le_refl 0, by rw [E.2.2.2]; exact Nat.le_refl 0⟩ (Nat.le_of_ble_eq_true rfl) (fun vv s9 hq => ?_) (fun ee s9 hq => ?_)
    rotate_left
    · obtain ⟨Is9, Fs9, hv, hps9⟩ := hq; cases hv
    obtain ⟨Is9, Fs9, hv, hps9⟩ := hq
    cases hv
    have Gs9 := fm_ts Fs8 Fs9 (by decide) (by decide)
    have ws9_41 : iI s9 41 = iI s8 41 := fm_i Fs9 (by decide)
    show WS k 38 [(0, .ref (A 67)), (1, .int (Int32.ofInt x)), (2, .int (Int32.ofInt y))] [] (Wd A dT s9) 0 0
    refine z_aload_n X (x := A 67) (show cdA 91 38 = some (.aload_n 0, 1, 0, 0, 0) from rfl) (List.Mem.head _) ?_
    refine z_getI X 67 (show cdA 91 39 = some (.getfield 102, 3, 8, 13, 0) from rfl) (by decide) rfl rfl ?_
    have b11 : ((-2147483648) : Int) ≤ iI s9 42 ∧ iI s9 42 ≤ 2147483647 := Is9.1 42
    refine z_ldc X (show cdA 91 42 = some (.ldc 101, 2, 0, 0, 2147483647) from rfl) ?_
    have N12 : ∀ e13 : Int, ((((iI s9 42) = 2147483647) ∧ e13 = 0) ∨ (((iI s9 42) ≠ 2147483647) ∧ e13 = 1)) → WS k 52 [(0, .ref (A 67)), (1, .int (Int32.ofInt x)), (2, .int (Int32.ofInt y))] [.int (Int32.ofInt e13)] (Wd A dT s9) 0 0 := by
      intro e13 he13
      have re13 : 0 ≤ e13 ∧ e13 ≤ 1 := by omega
      exact w_iret X.1 q hRt (nar_ret (by first | exact oq_25fc3a3a re13.2 re13.1 he13 | omega)) (ax_d X (show cdA 91 52 = some (.ireturn, 1, 0, 0, 0) from rfl)) (Nat.zero_le _) (Nat.zero_le _) ⟨_, rfl, Is9, Gs9, e13, rfl, ⟨by first | exact oq_fa4e5087 re13.1 | omega, by first | exact oq_22e1e6b0 re13.2 | omega⟩, by first | exact oq_25fc3a3a re13.2 re13.1 he13 | omega⟩
    refine z_icmp_eq X (t := 51) (show cdA 91 44 = some (.if_icmp .eq 7, 3, 0, 0, 0) from rfl) (by decide) (rng_to _) (by decide) (fun g14 => ?_) (fun g14 => ?_)
    ·
      refine z_const X (show cdA 91 51 = some (.iconst 0, 1, 0, 0, 0) from rfl) ?_
      exact N12 _ (Or.inl ⟨g14, rfl⟩)
    ·
      refine z_const X (show cdA 91 47 = some (.iconst 1, 1, 0, 0, 0) from rfl) ?_
      refine z_goto X (t := 52) (show cdA 91 48 = some (.goto 4, 3, 0, 0, 0) from rfl) (by decide) ?_
      exact N12 _ (Or.inr (⟨g14, rfl⟩))
  ·
    refine z_const X (show cdA 91 9 = some (.iconst 0, 1, 0, 0, 0) from rfl) ?_
    exact w_iret X.1 q hRt (nar_ret (by first | exact Or.inl (by decide) | omega)) (ax_d X (show cdA 91 10 = some (.ireturn, 1, 0, 0, 0) from rfl)) (Nat.zero_le _) (Nat.zero_le _) ⟨_, rfl, I, F, 0, rfl, (by decide), by first | exact Or.inl (by decide) | omega⟩
set_option maxRecDepth 4000 in
theorem cs_mends (G : GX l s0 D tys a0 dT) (GR : RS0 s0) (I : Bd s) {x y z w : Int} (p0 : rng x) (p1 : rng y) (p2 : rng z) (p3 : rng w) : CT l s0 D A dT 170 (rmN 170) [.ref (A 0), .int (Int32.ofInt x), .int (Int32.ofInt y), .int (Int32.ofInt z), .int (Int32.ofInt w)] s (fun o t => Bd t ∧ Fm [43, 44, 46, 47, 49, 50, 52, 53, 55, 56, 58, 59, 61, 62, 64, 65, 67, 68, 42, 39, 40, 41] [57, 58, 67, 62, 77, 78, 79, 73, 87, 80, 81, 82, 83, 84, 85, 86, 96, 89, 90, 91, 92, 93, 94, 95, 105, 98, 99, 100, 101, 102, 103, 104, 114, 107, 108, 109, 110, 111, 112, 113, 123, 116, 117, 118, 119, 120, 121, 122, 132, 125, 126, 127, 128, 129, 130, 131, 141, 134, 135, 136, 137, 138, 139, 140, 150, 143, 144, 145, 146, 147, 148, 149, 20, 76, 74, 75, 72, 1059, 1060, 1061, 1063] s t ∧ ((∃ e, o = .inl (some (.int (Int32.ofInt e))) ∧ rng e ∧ (True)) ∨ ∃ x : Nat, o = .inr (exN x) ∧ (x = 0))) := by
  refine ct_ofX G (by decide) (Nat.le_of_ble_eq_true rfl) (fun k X E ET hRt hXt q => ?_)
  show WS k 0 [(0, .ref (A 0)), (1, .int (Int32.ofInt x)), (2, .int (Int32.ofInt y)), (3, .int (Int32.ofInt z)), (4, .int (Int32.ofInt w))] [] _ 0 0
  have F : Fm [43, 44, 46, 47, 49, 50, 52, 53, 55, 56, 58, 59, 61, 62, 64, 65, 67, 68, 42, 39, 40, 41] [57, 58, 67, 62, 77, 78, 79, 73, 87, 80, 81, 82, 83, 84, 85, 86, 96, 89, 90, 91, 92, 93, 94, 95, 105, 98, 99, 100, 101, 102, 103, 104, 114, 107, 108, 109, 110, 111, 112, 113, 123, 116, 117, 118, 119, 120, 121, 122, 132, 125, 126, 127, 128, 129, 130, 131, 141, 134, 135, 136, 137, 138, 139, 140, 150, 143, 144, 145, 146, 147, 148, 149, 20, 76, 74, 75, 72, 1059, 1060, 1061, 1063] s s := fm_rf _ _ s
  refine z_aload_n X (x := A 0) (show cdA 170 0 = some (.aload_n 0, 1, 0, 0, 0) from rfl) (List.Mem.head _) ?_
  refine z_load_n X (x := x) (show cdA 170 1 = some (.iload_n 1, 1, 0, 0, 0) from rfl) (List.Mem.tail _ (List.Mem.head _)) ?_
  refine z_callV X 0 (rm := rmN 183) (As := [.int (Int32.ofInt x)]) (st := []) (show cdA 170 2 = some (.invokevirtual 148, 3, 183, 0, 0) from rfl) rfl (by decide) rfl (by rw [E.1, E.2.1, E.2.2.1]; exact cs_needQuarter G I (by first | exact ⟨p0.1, p0.2⟩ | omega)) ⟨by rw [E.2.2.2]; exact (show (rmN 183).frames + 1 ≤ (rmN 170).frames by decide), by rw [E.2.2.2]; exact (show 8 + (mNL (miB 183) + 11) + (rmN 183).locals ≤ (rmN 170).locals by decide), by rw [E.2.2.2]; exact (show 0 + 1 ≤ 4 by omega), by rw [E.2.2.2]; exact (show 0 + 6 ≤ 24 by omega)⟩ (Nat.le_of_ble_eq_true rfl) (fun vv s1 hq => ?_) (fun ee s1 hq => ?_)
  rotate_left
  · obtain ⟨Is1, Fs1, (⟨hv, hps1⟩ | ⟨xx, hv, hps1⟩)⟩ := hq
    · cases hv
    · cases hv
      have Gs1 := fm_ts F Fs1 (by decide) (by decide)
      exact x_out X.1 q (fun x hx => (hXt x hx).elim) (show 1 ≤ 4 by omega) (show 6 ≤ 24 by omega) ⟨_, rfl, Is1, Gs1, Or.inr ⟨xx, rfl, by omega⟩⟩
  obtain ⟨Is1, Fs1, (⟨hv, hps1⟩ | ⟨xx, hv, hps1⟩)⟩ := hq
  rotate_left
  · cases hv
  cases hv
  have Gs1 := fm_ts F Fs1 (by decide) (by decide)
  show WS k 5 [(0, .ref (A 0)), (1, .int (Int32.ofInt x)), (2, .int (Int32.ofInt y)), (3, .int (Int32.ofInt z)), (4, .int (Int32.ofInt w))] [] (Wd A dT s1) 1 6
  refine z_aload_n X (x := A 0) (show cdA 170 5 = some (.aload_n 0, 1, 0, 0, 0) from rfl) (List.Mem.head _) ?_
  refine z_load_n X (x := y) (show cdA 170 6 = some (.iload_n 2, 1, 0, 0, 0) from rfl) (List.Mem.tail _ (List.Mem.tail _ (List.Mem.head _))) ?_
  refine z_const X (show cdA 170 7 = some (.iconst 0, 1, 0, 0, 0) from rfl) ?_
  refine z_bipush X (show cdA 170 8 = some (.bipush 8, 2, 0, 0, 8) from rfl) ?_
  refine z_callV X 0 (rm := rmN 184) (As := [.int (Int32.ofInt y), .int (Int32.ofInt 0), .int (Int32.ofInt 8)]) (st := []) (show cdA 170 10 = some (.invokevirtual 151, 3, 184, 0, 0) from rfl) rfl (by decide) rfl (by rw [E.1, E.2.1, E.2.2.1]; exact cs_needWithin G Is1 (by first | exact ⟨p1.1, p1.2⟩ | omega) (by first | exact ⟨by decide, by decide⟩ | omega) (by first | exact ⟨by decide, by decide⟩ | omega)) ⟨by rw [E.2.2.2]; exact (show (rmN 184).frames + 1 ≤ (rmN 170).frames by decide), by rw [E.2.2.2]; exact (show 8 + (mNL (miB 184) + 11) + (rmN 184).locals ≤ (rmN 170).locals by decide), by rw [E.2.2.2]; exact (show 1 + 1 ≤ 4 by omega), by rw [E.2.2.2]; exact (show 6 + 6 ≤ 24 by omega)⟩ (Nat.le_of_ble_eq_true rfl) (fun vv s3 hq => ?_) (fun ee s3 hq => ?_)
  rotate_left
  · obtain ⟨Is3, Fs3, (⟨hv, hps3⟩ | ⟨xx, hv, hps3⟩)⟩ := hq
    · cases hv
    · cases hv
      have Gs3 := fm_ts Gs1 Fs3 (by decide) (by decide)
      exact x_out X.1 q (fun x hx => (hXt x hx).elim) (show (1 + 1) ≤ 4 by omega) (show (6 + 6) ≤ 24 by omega) ⟨_, rfl, Is3, Gs3, Or.inr ⟨xx, rfl, by omega⟩⟩
  obtain ⟨Is3, Fs3, (⟨hv, hps3⟩ | ⟨xx, hv, hps3⟩)⟩ := hq
  rotate_left
  · cases hv
  cases hv
  have Gs3 := fm_ts Gs1 Fs3 (by decide) (by decide)
  show WS k 13 [(0, .ref (A 0)), (1, .int (Int32.ofInt x)), (2, .int (Int32.ofInt y)), (3, .int (Int32.ofInt z)), (4, .int (Int32.ofInt w))] [] (Wd A dT s3) (1 + 1) (6 + 6)
  refine z_aload_n X (x := A 0) (show cdA 170 13 = some (.aload_n 0, 1, 0, 0, 0) from rfl) (List.Mem.head _) ?_
  refine z_load_n X (x := z) (show cdA 170 14 = some (.iload_n 3, 1, 0, 0, 0) from rfl) (List.Mem.tail _ (List.Mem.tail _ (List.Mem.tail _ (List.Mem.head _)))) ?_
  refine z_const X (show cdA 170 15 = some (.iconst 0, 1, 0, 0, 0) from rfl) ?_
  refine z_bipush X (show cdA 170 16 = some (.bipush 8, 2, 0, 0, 8) from rfl) ?_
  refine z_callV X 0 (rm := rmN 184) (As := [.int (Int32.ofInt z), .int (Int32.ofInt 0), .int (Int32.ofInt 8)]) (st := []) (show cdA 170 18 = some (.invokevirtual 151, 3, 184, 0, 0) from rfl) rfl (by decide) rfl (by rw [E.1, E.2.1, E.2.2.1]; exact cs_needWithin G Is3 (by first | exact ⟨p2.1, p2.2⟩ | omega) (by first | exact ⟨by decide, by decide⟩ | omega) (by first | exact ⟨by decide, by decide⟩ | omega)) ⟨by rw [E.2.2.2]; exact (show (rmN 184).frames + 1 ≤ (rmN 170).frames by decide), by rw [E.2.2.2]; exact (show 8 + (mNL (miB 184) + 11) + (rmN 184).locals ≤ (rmN 170).locals by decide), by rw [E.2.2.2]; exact (show (1 + 1) + 1 ≤ 4 by omega), by rw [E.2.2.2]; exact (show (6 + 6) + 6 ≤ 24 by omega)⟩ (Nat.le_of_ble_eq_true rfl) (fun vv s5 hq => ?_) (fun ee s5 hq => ?_)
  rotate_left
  · obtain ⟨Is5, Fs5, (⟨hv, hps5⟩ | ⟨xx, hv, hps5⟩)⟩ := hq
    · cases hv
    · cases hv
      have Gs5 := fm_ts Gs3 Fs5 (by decide) (by decide)
      exact x_out X.1 q (fun x hx => (hXt x hx).elim) (show ((1 + 1) + 1) ≤ 4 by omega) (show ((6 + 6) + 6) ≤ 24 by omega) ⟨_, rfl, Is5, Gs5, Or.inr ⟨xx, rfl, by omega⟩⟩
  obtain ⟨Is5, Fs5, (⟨hv, hps5⟩ | ⟨xx, hv, hps5⟩)⟩ := hq
  rotate_left
  · cases hv
  cases hv
  have Gs5 := fm_ts Gs3 Fs5 (by decide) (by decide)
  show WS k 21 [(0, .ref (A 0)), (1, .int (Int32.ofInt x)), (2, .int (Int32.ofInt y)), (3, .int (Int32.ofInt z)), (4, .int (Int32.ofInt w))] [] (Wd A dT s5) ((1 + 1) + 1) ((6 + 6) + 6)
  refine z_aload_n X (x := A 0) (show cdA 170 21 = some (.aload_n 0, 1, 0, 0, 0) from rfl) (List.Mem.head _) ?_
  refine z_load X (x := w) (show cdA 170 22 = some (.iload 4, 2, 0, 0, 0) from rfl) (List.Mem.tail _ (List.Mem.tail _ (List.Mem.tail _ (List.Mem.tail _ (List.Mem.head _))))) ?_
  refine z_bipush X (show cdA 170 24 = some (.bipush (-2), 2, 0, 0, (-2)) from rfl) ?_
  refine z_bipush X (show cdA 170 26 = some (.bipush 11, 2, 0, 0, 11) from rfl) ?_
  refine z_callV X 0 (rm := rmN 184) (As := [.int (Int32.ofInt w), .int (Int32.ofInt (-2)), .int (Int32.ofInt 11)]) (st := []) (show cdA 170 28 = some (.invokevirtual 151, 3, 184, 0, 0) from rfl) rfl (by decide) rfl (by rw [E.1, E.2.1, E.2.2.1]; exact cs_needWithin G Is5 (by first | exact ⟨p3.1, p3.2⟩ | omega) (by first | exact ⟨by decide, by decide⟩ | omega) (by first | exact ⟨by decide, by decide⟩ | omega)) ⟨by rw [E.2.2.2]; exact (show (rmN 184).frames + 1 ≤ (rmN 170).frames by decide), by rw [E.2.2.2]; exact (show 8 + (mNL (miB 184) + 11) + (rmN 184).locals ≤ (rmN 170).locals by decide), by rw [E.2.2.2]; exact (show ((1 + 1) + 1) + 1 ≤ 4 by omega), by rw [E.2.2.2]; exact (show ((6 + 6) + 6) + 6 ≤ 24 by omega)⟩ (Nat.le_of_ble_eq_true rfl) (fun vv s7 hq => ?_) (fun ee s7 hq => ?_)
  rotate_left
  · obtain ⟨Is7, Fs7, (⟨hv, hps7⟩ | ⟨xx, hv, hps7⟩)⟩ := hq
    · cases hv
    · cases hv
      have Gs7 := fm_ts Gs5 Fs7 (by decide) (by decide)
      exact x_out X.1 q (fun x hx => (hXt x hx).elim) (show (((1 + 1) + 1) + 1) ≤ 4 by omega) (show (((6 + 6) + 6) + 6) ≤ 24 by omega) ⟨_, rfl, Is7, Gs7, Or.inr ⟨xx, rfl, by omega⟩⟩
  obtain ⟨Is7, Fs7, (⟨hv, hps7⟩ | ⟨xx, hv, hps7⟩)⟩ := hq
  rotate_left
  · cases hv
  cases hv
  have Gs7 := fm_ts Gs5 Fs7 (by decide) (by decide)
  show WS k 31 [(0, .ref (A 0)), (1, .int (Int32.ofInt x)), (2, .int (Int32.ofInt y)), (3, .int (Int32.ofInt z)), (4, .int (Int32.ofInt w))] [] (Wd A dT s7) (((1 + 1) + 1) + 1) (((6 + 6) + 6) + 6)
  refine z_aload_n X (x := A 0) (show cdA 170 31 = some (.aload_n 0, 1, 0, 0, 0) from rfl) (List.Mem.head _) ?_
  refine s_getR X 0 (show cdA 170 32 = some (.getfield 89, 3, 11, 9, 0) from rfl) (by decide) rfl rfl ?_
  refine z_load_n X (x := x) (show cdA 170 35 = some (.iload_n 1, 1, 0, 0, 0) from rfl) (List.Mem.tail _ (List.Mem.head _)) ?_
  refine z_callV X 67 (rm := rmN 89) (As := [.int (Int32.ofInt x)]) (st := []) (show cdA 170 36 = some (.invokevirtual 330, 3, 89, 0, 0) from rfl) rfl (by decide) rfl (by rw [E.1, E.2.1, E.2.2.1]; exact c8_findHits_67 G Is7 (by first | exact ⟨hps1.1, hps1.2⟩ | omega)) ⟨by rw [E.2.2.2]; exact (show (rmN 89).frames + 1 ≤ (rmN 170).frames by decide), by rw [E.2.2.2]; exact (show 8 + (mNL (miB 89) + 11) + (rmN 89).locals ≤ (rmN 170).locals by decide), by rw [E.2.2.2]; exact (show (((1 + 1) + 1) + 1) + 0 ≤ 4 by omega), by rw [E.2.2.2]; exact (show (((6 + 6) + 6) + 6) + 0 ≤ 24 by omega)⟩ (Nat.le_of_ble_eq_true rfl) (fun vv s9 hq => ?_) (fun ee s9 hq => ?_)
  rotate_left
  · obtain ⟨Is9, Fs9, hv, hps9⟩ := hq; cases hv
  obtain ⟨Is9, Fs9, hv, hps9⟩ := hq
  cases hv
  have Gs9 := fm_ts Gs7 Fs9 (by decide) (by decide)
  show WS k 39 [(0, .ref (A 0)), (1, .int (Int32.ofInt x)), (2, .int (Int32.ofInt y)), (3, .int (Int32.ofInt z)), (4, .int (Int32.ofInt w))] [] (Wd A dT s9) (((1 + 1) + 1) + 1) (((6 + 6) + 6) + 6)
  refine z_load X (x := w) (show cdA 170 39 = some (.iload 4, 2, 0, 0, 0) from rfl) (List.Mem.tail _ (List.Mem.tail _ (List.Mem.tail _ (List.Mem.tail _ (List.Mem.head _))))) ?_
  refine z_bipush X (show cdA 170 41 = some (.bipush (-2), 2, 0, 0, (-2)) from rfl) ?_
  refine z_icmp_ne X (t := 54) (show cdA 170 43 = some (.if_icmp .ne 11, 3, 1, 0, 0) from rfl) (by decide) ⟨by first | exact p3.1 | omega, by first | exact p3.2 | omega⟩ (by decide) (fun g11 => ?_) (fun g11 => ?_)
  ·
    refine z_aload_n X (x := A 0) (show cdA 170 54 = some (.aload_n 0, 1, 0, 0, 0) from rfl) (List.Mem.head _) ?_
    refine s_getR X 0 (show cdA 170 55 = some (.getfield 89, 3, 11, 9, 0) from rfl) (by decide) rfl rfl ?_
    refine z_load_n X (x := y) (show cdA 170 58 = some (.iload_n 2, 1, 0, 0, 0) from rfl) (List.Mem.tail _ (List.Mem.tail _ (List.Mem.head _))) ?_
    refine z_load_n X (x := z) (show cdA 170 59 = some (.iload_n 3, 1, 0, 0, 0) from rfl) (List.Mem.tail _ (List.Mem.tail _ (List.Mem.tail _ (List.Mem.head _)))) ?_
    refine z_callV X 67 (rm := rmN 91) (As := [.int (Int32.ofInt y), .int (Int32.ofInt z)]) (st := []) (show cdA 170 60 = some (.invokevirtual 336, 3, 91, 0, 0) from rfl) rfl (by decide) rfl (by rw [E.1, E.2.1, E.2.2.1]; exact c8_solve_67 G GR Is9 (by first | exact ⟨p1.1, p1.2⟩ | omega) (by first | exact ⟨p2.1, p2.2⟩ | omega) (by first | exact hps9 | omega)) ⟨by rw [E.2.2.2]; exact (show (rmN 91).frames + 1 ≤ (rmN 170).frames by decide), by rw [E.2.2.2]; exact (show 8 + (mNL (miB 91) + 11) + (rmN 91).locals ≤ (rmN 170).locals by decide), by rw [E.2.2.2]; exact (show (((1 + 1) + 1) + 1) + 0 ≤ 4 by omega), by rw [E.2.2.2]; exact (show (((6 + 6) + 6) + 6) + 0 ≤ 24 by omega)⟩ (Nat.le_of_ble_eq_true rfl) (fun vv s12 hq => ?_) (fun ee s12 hq => ?_)
    rotate_left
    · obtain ⟨Is12, Fs12, e13, hv, hrs12, hps12⟩ := hq; cases hv
    obtain ⟨Is12, Fs12, e13, hv, hrs12, hps12⟩ := hq
    cases hv
    have Gs12 := fm_ts Gs9 Fs12 (by decide) (by decide +kernel)
    show WS k 63 [(0, .ref (A 0)), (1, .int (Int32.ofInt x)), (2, .int (Int32.ofInt y)), (3, .int (Int32.ofInt z)), (4, .int (Int32.ofInt w))] [.int (Int32.ofInt e13)] (Wd A dT s12) (((1 + 1) + 1) + 1) (((6 + 6) + 6) + 6)
    refine z_if_ne X (t := 68) (show cdA 170 63 = some (.ifCond .ne 5, 3, 1, 0, 0) from rfl) (by decide) hrs12 (fun g14 => ?_) (fun g14 => ?_)
    ·
      refine z_load X (x := w) (show cdA 170 68 = some (.iload 4, 2, 0, 0, 0) from rfl) (List.Mem.tail _ (List.Mem.tail _ (List.Mem.tail _ (List.Mem.tail _ (List.Mem.head _))))) ?_
      refine z_const X (show cdA 170 70 = some (.iconst (-1), 1, 0, 0, 0) from rfl) ?_
      refine z_icmp_ne X (t := 84) (show cdA 170 71 = some (.if_icmp .ne 13, 3, 1, 0, 0) from rfl) (by decide) ⟨by first | exact p3.1 | omega, by first | exact p3.2 | omega⟩ (by decide) (fun g15 => ?_) (fun g15 => ?_)
      ·
        refine z_aload_n X (x := A 0) (show cdA 170 84 = some (.aload_n 0, 1, 0, 0, 0) from rfl) (List.Mem.head _) ?_
        refine s_getR X 0 (show cdA 170 85 = some (.getfield 89, 3, 11, 9, 0) from rfl) (by decide) rfl rfl ?_
        refine z_load X (x := w) (show cdA 170 88 = some (.iload 4, 2, 0, 0, 0) from rfl) (List.Mem.tail _ (List.Mem.tail _ (List.Mem.tail _ (List.Mem.tail _ (List.Mem.head _))))) ?_
        refine z_callV X 67 (rm := rmN 90) (As := [.int (Int32.ofInt w)]) (st := []) (show cdA 170 90 = some (.invokevirtual 342, 3, 90, 0, 0) from rfl) rfl (by decide) rfl (by rw [E.1, E.2.1, E.2.2.1]; exact c8_mendOf_67 G Is12 (by first | exact ⟨p3.1, p3.2⟩ | omega)) ⟨by rw [E.2.2.2]; exact (show (rmN 90).frames + 1 ≤ (rmN 170).frames by decide), by rw [E.2.2.2]; exact (show 8 + (mNL (miB 90) + 11) + (rmN 90).locals ≤ (rmN 170).locals by decide), by rw [E.2.2.2]; exact (show (((1 + 1) + 1) + 1) + 0 ≤ 4 by omega), by rw [E.2.2.2]; exact (show (((6 + 6) + 6) + 6) + 0 ≤ 24 by omega)⟩ (Nat.le_of_ble_eq_true rfl) (fun vv s16 hq => ?_) (fun ee s16 hq => ?_)
        rotate_left
        · obtain ⟨Is16, Fs16, e17, hv, hrs16, hps16⟩ := hq; cases hv
        obtain ⟨Is16, Fs16, e17, hv, hrs16, hps16⟩ := hq
        cases hv
        have Gs16 := fm_ts Gs12 Fs16 (by decide) (by decide)
        show WS k 93 [(0, .ref (A 0)), (1, .int (Int32.ofInt x)), (2, .int (Int32.ofInt y)), (3, .int (Int32.ofInt z)), (4, .int (Int32.ofInt w))] [.int (Int32.ofInt e17)] (Wd A dT s16) (((1 + 1) + 1) + 1) (((6 + 6) + 6) + 6)
        exact w_iret X.1 q hRt rfl (ax_d X (show cdA 170 93 = some (.ireturn, 1, 0, 0, 0) from rfl)) (show (((1 + 1) + 1) + 1) ≤ 4 by omega) (show (((6 + 6) + 6) + 6) ≤ 24 by omega) ⟨_, rfl, Is16, Gs16, Or.inl ⟨e17, rfl, hrs16, trivial⟩⟩
      ·
        refine z_aload_n X (x := A 0) (show cdA 170 74 = some (.aload_n 0, 1, 0, 0, 0) from rfl) (List.Mem.head _) ?_
        refine s_getR X 0 (show cdA 170 75 = some (.getfield 89, 3, 11, 9, 0) from rfl) (by decide) rfl rfl ?_
        refine z_getI X 67 (show cdA 170 78 = some (.getfield 339, 3, 8, 13, 0) from rfl) (by decide) rfl rfl ?_
        have b18 : ((-2147483648) : Int) ≤ iI s12 42 ∧ iI s12 42 ≤ 2147483647 := Is12.1 42
        refine z_goto X (t := 93) (show cdA 170 81 = some (.goto 12, 3, 0, 0, 0) from rfl) (by decide) ?_
        exact w_iret X.1 q hRt rfl (ax_d X (show cdA 170 93 = some (.ireturn, 1, 0, 0, 0) from rfl)) (show (((1 + 1) + 1) + 1) ≤ 4 by omega) (show (((6 + 6) + 6) + 6) ≤ 24 by omega) ⟨_, rfl, Is12, Gs12, Or.inl ⟨(iI s12 42), rfl, (rng_to _), trivial⟩⟩
    ·
      refine z_const X (show cdA 170 66 = some (.iconst (-1), 1, 0, 0, 0) from rfl) ?_
      exact w_iret X.1 q hRt rfl (ax_d X (show cdA 170 67 = some (.ireturn, 1, 0, 0, 0) from rfl)) (show (((1 + 1) + 1) + 1) ≤ 4 by omega) (show (((6 + 6) + 6) + 6) ≤ 24 by omega) ⟨_, rfl, Is12, Gs12, Or.inl ⟨(-1), rfl, (by decide), trivial⟩⟩
  ·
    refine z_aload_n X (x := A 0) (show cdA 170 46 = some (.aload_n 0, 1, 0, 0, 0) from rfl) (List.Mem.head _) ?_
    refine s_getR X 0 (show cdA 170 47 = some (.getfield 89, 3, 11, 9, 0) from rfl) (by decide) rfl rfl ?_
    refine z_getI X 67 (show cdA 170 50 = some (.getfield 333, 3, 8, 7, 0) from rfl) (by decide) rfl rfl ?_
    have b19 : (0 : Int) ≤ iI s9 40 ∧ iI s9 40 ≤ 4095 := Is9.1 40
    exact w_iret X.1 q hRt rfl (ax_d X (show cdA 170 53 = some (.ireturn, 1, 0, 0, 0) from rfl)) (show (((1 + 1) + 1) + 1) ≤ 4 by omega) (show (((6 + 6) + 6) + 6) ≤ 24 by omega) ⟨_, rfl, Is9, Gs9, Or.inl ⟨(iI s9 40), rfl, (rng_to _), trivial⟩⟩
end M83
