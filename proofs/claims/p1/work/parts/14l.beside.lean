/-! The model's beside, walked by hand -/
def rB (c s : Nat) : Int32 := match bsd c s with
  | some e => Int32.ofNat e
  | none => -1
def rbT (c : Nat) : Prop := let x := Int32.ofNat c
  (x - x / 8 * 8 = 7 → rB c 0 = -1) ∧ (¬ x - x / 8 * 8 = 7 → rB c 0 = x + 1) ∧ (x - x / 8 * 8 = 0 → rB c 1 = -1) ∧ (¬ x - x / 8 * 8 = 0 → rB c 1 = x - 1) ∧
  (x / 8 - x / 8 / 8 * 8 = 7 → rB c 2 = -1) ∧ (¬ x / 8 - x / 8 / 8 * 8 = 7 → rB c 2 = x + 8) ∧ (x / 8 - x / 8 / 8 * 8 = 0 → rB c 3 = -1) ∧ (¬ x / 8 - x / 8 / 8 * 8 = 0 → rB c 3 = x - 8) ∧
  (x / 64 = 1 → rB c 4 = -1) ∧ (¬ x / 64 = 1 → rB c 4 = x + 64) ∧ (x / 64 = 0 → rB c 5 = -1) ∧ (¬ x / 64 = 0 → rB c 5 = x - 64)
def rbD (c : Nat) : Decidable (rbT c) := by unfold rbT; exact inferInstance
theorem rb_all : (List.range 128).all (fun c => @decide (rbT c) (rbD c)) = true := by decide +kernel
theorem rb_ok {c : Nat} (hc : c < 128) : rbT c := @of_decide_eq_true _ (rbD c) (List.all_eq_true.mp rb_all c (List.mem_range.mpr hc))
theorem WS_lv {k : kx_T} {pc : Nat} {lv lv' : List (Nat × Value)} {st : List Value} {ws : va_W} {ce sl : Nat} (hs : ∀ q ∈ lv, q ∈ lv') (h : WS k pc lv st ws ce sl) : WS k pc lv' st ws ce sl :=
  fun H locs ls hP hD hS hl => h H locs ls hP hD hS (lv_mono hl hs)
theorem bs_body {k : kx_T} {ws : va_W} {c s : Nat} {K : mb_O → va_W → Prop} {mc ms : Nat} (C : kx_ok k) (e7 : kCc k = cX12_beside) (eN : kN k = 5) (e9 : (kMe k).sig.returnType = some .int) (q : kx_end k K mc ms) (hc : c < 128) (hs : s < 6) (h : K (.inl (some (.int (rB c s)))) ws) : WS k 0 (lv_args 0 [.int (Int32.ofNat c), .int (Int32.ofNat s)]) [] ws 0 0 := by
  have d : ∀ {pc : Nat} {q : Instr × Nat}, decode cX12_beside pc = .ok q → decode (kCc k) pc = .ok q := fun h => by rw [e7]; exact h
  have T := rb_ok hc
  unfold rbT at T
  show WS k 0 [(0, .int (Int32.ofNat c)), (1, .int (Int32.ofNat s))] [] ws 0 0
  generalize Int32.ofNat c = x at T ⊢
  obtain ⟨a1, a2, a3, a4, a5, a6, a7, a8, a9, a10, a11, a12⟩ := T
  have ret : ∀ {pc : Nat} {lv : List (Nat × Value)} {y : Int32}, decode cX12_beside pc = .ok (.ireturn, 1) → rB c s = y → WS k pc lv [.int y] ws 0 0 := fun dd e => w_iret C q e9 rfl (d dd) (Nat.zero_le _) (Nat.zero_le _) (e ▸ h)
  refine w_iload_n C (i := 0) (x := x) (d (by decide +kernel)) (List.Mem.head _) ?_
  refine w_bipush C (n := 8) (z := 8) (d (by decide +kernel)) (by decide) ?_
  refine w_irem C (d (by decide +kernel)) (by decide) ?_
  refine w_istore_n C (i := 2) (lv' := [(2, .int (x - x / 8 * 8)), (0, .int x), (1, .int (Int32.ofNat s))]) (d (by decide +kernel)) (by rw [eN]; decide) (fun _ h => h) ?_
  refine w_iload_n C (i := 0) (x := x) (d (by decide +kernel)) (List.Mem.tail _ (List.Mem.head _)) ?_
  refine w_bipush C (n := 8) (z := 8) (d (by decide +kernel)) (by decide) ?_
  refine w_idiv C (d (by decide +kernel)) (by decide) ?_
  refine w_bipush C (n := 8) (z := 8) (d (by decide +kernel)) (by decide) ?_
  refine w_irem C (d (by decide +kernel)) (by decide) ?_
  refine w_istore_n C (i := 3) (lv' := [(3, .int ((x / 8) - (x / 8) / 8 * 8)), (2, .int (x - x / 8 * 8)), (0, .int x), (1, .int (Int32.ofNat s))]) (d (by decide +kernel)) (by rw [eN]; decide) (fun _ h => h) ?_
  refine w_iload_n C (i := 0) (x := x) (d (by decide +kernel)) (List.Mem.tail _ (List.Mem.tail _ (List.Mem.head _))) ?_
  refine w_bipush C (n := 64) (z := 64) (d (by decide +kernel)) (by decide) ?_
  refine w_idiv C (d (by decide +kernel)) (by decide) ?_
  refine w_istore C (i := 4) (lv' := [(4, .int (x / 64)), (3, .int ((x / 8) - (x / 8) / 8 * 8)), (2, .int (x - x / 8 * 8)), (0, .int x), (1, .int (Int32.ofNat s))]) (d (by decide +kernel)) (by rw [eN]; decide) (fun _ h => h) ?_
  refine w_iload_n C (i := 1) (x := Int32.ofNat s) (d (by decide +kernel)) (List.Mem.tail _ (List.Mem.tail _ (List.Mem.tail _ (List.Mem.tail _ (List.Mem.head _))))) ?_
  rcases (show s = 0 ∨ s = 1 ∨ s = 2 ∨ s = 3 ∨ s = 4 ∨ s = 5 by omega) with e | e | e | e | e | e <;> subst e
  ·
    refine w_tabIn C (dflt := 105) (lo := 0) (hi := 4) (offs := #[36, 50, 62, 77, 90]) (len := 36) (off := 36) (t := 56) (d (by decide +kernel)) (by decide) (by decide) (by decide) (by decide) ?_
    refine w_iload_n C (i := 2) (x := (x - x / 8 * 8)) (d (by decide +kernel)) (List.Mem.tail _ (List.Mem.tail _ (List.Mem.head _))) ?_
    refine w_bipush C (n := 7) (z := 7) (d (by decide +kernel)) (by decide) ?_
    refine w_icmp_ne C (off := 7) (t := 66) (d (by decide +kernel)) (by decide) (fun g => ?_) (fun g => ?_)
    ·
      refine w_iload_n C (i := 0) (x := x) (d (by decide +kernel)) (List.Mem.tail _ (List.Mem.tail _ (List.Mem.tail _ (List.Mem.head _)))) ?_
      refine w_iconst C (n := 1) (d (by decide +kernel)) ?_
      refine w_iadd C (d (by decide +kernel)) ?_
      exact ret (by decide +kernel) (a2 g)
    ·
      refine w_iconst C (n := (-1)) (d (by decide +kernel)) ?_
      refine w_goto C (off := 6) (t := 69) (d (by decide +kernel)) (by decide) ?_
      exact ret (by decide +kernel) (a1 g)
  ·
    refine w_tabIn C (dflt := 105) (lo := 0) (hi := 4) (offs := #[36, 50, 62, 77, 90]) (len := 36) (off := 50) (t := 70) (d (by decide +kernel)) (by decide) (by decide) (by decide) (by decide) ?_
    refine w_iload_n C (i := 2) (x := (x - x / 8 * 8)) (d (by decide +kernel)) (List.Mem.tail _ (List.Mem.tail _ (List.Mem.head _))) ?_
    refine w_if_ne C (off := 7) (t := 78) (d (by decide +kernel)) (by decide) (fun g => ?_) (fun g => ?_)
    ·
      refine w_iload_n C (i := 0) (x := x) (d (by decide +kernel)) (List.Mem.tail _ (List.Mem.tail _ (List.Mem.tail _ (List.Mem.head _)))) ?_
      refine w_iconst C (n := 1) (d (by decide +kernel)) ?_
      refine w_isub C (d (by decide +kernel)) ?_
      exact ret (by decide +kernel) (a4 g)
    ·
      refine w_iconst C (n := (-1)) (d (by decide +kernel)) ?_
      refine w_goto C (off := 6) (t := 81) (d (by decide +kernel)) (by decide) ?_
      exact ret (by decide +kernel) (a3 g)
  ·
    refine w_tabIn C (dflt := 105) (lo := 0) (hi := 4) (offs := #[36, 50, 62, 77, 90]) (len := 36) (off := 62) (t := 82) (d (by decide +kernel)) (by decide) (by decide) (by decide) (by decide) ?_
    refine w_iload_n C (i := 3) (x := ((x / 8) - (x / 8) / 8 * 8)) (d (by decide +kernel)) (List.Mem.tail _ (List.Mem.head _)) ?_
    refine w_bipush C (n := 7) (z := 7) (d (by decide +kernel)) (by decide) ?_
    refine w_icmp_ne C (off := 7) (t := 92) (d (by decide +kernel)) (by decide) (fun g => ?_) (fun g => ?_)
    ·
      refine w_iload_n C (i := 0) (x := x) (d (by decide +kernel)) (List.Mem.tail _ (List.Mem.tail _ (List.Mem.tail _ (List.Mem.head _)))) ?_
      refine w_bipush C (n := 8) (z := 8) (d (by decide +kernel)) (by decide) ?_
      refine w_iadd C (d (by decide +kernel)) ?_
      exact ret (by decide +kernel) (a6 g)
    ·
      refine w_iconst C (n := (-1)) (d (by decide +kernel)) ?_
      refine w_goto C (off := 7) (t := 96) (d (by decide +kernel)) (by decide) ?_
      exact ret (by decide +kernel) (a5 g)
  ·
    refine w_tabIn C (dflt := 105) (lo := 0) (hi := 4) (offs := #[36, 50, 62, 77, 90]) (len := 36) (off := 77) (t := 97) (d (by decide +kernel)) (by decide) (by decide) (by decide) (by decide) ?_
    refine w_iload_n C (i := 3) (x := ((x / 8) - (x / 8) / 8 * 8)) (d (by decide +kernel)) (List.Mem.tail _ (List.Mem.head _)) ?_
    refine w_if_ne C (off := 7) (t := 105) (d (by decide +kernel)) (by decide) (fun g => ?_) (fun g => ?_)
    ·
      refine w_iload_n C (i := 0) (x := x) (d (by decide +kernel)) (List.Mem.tail _ (List.Mem.tail _ (List.Mem.tail _ (List.Mem.head _)))) ?_
      refine w_bipush C (n := 8) (z := 8) (d (by decide +kernel)) (by decide) ?_
      refine w_isub C (d (by decide +kernel)) ?_
      exact ret (by decide +kernel) (a8 g)
    ·
      refine w_iconst C (n := (-1)) (d (by decide +kernel)) ?_
      refine w_goto C (off := 7) (t := 109) (d (by decide +kernel)) (by decide) ?_
      exact ret (by decide +kernel) (a7 g)
  ·
    refine w_tabIn C (dflt := 105) (lo := 0) (hi := 4) (offs := #[36, 50, 62, 77, 90]) (len := 36) (off := 90) (t := 110) (d (by decide +kernel)) (by decide) (by decide) (by decide) (by decide) ?_
    refine w_iload C (i := 4) (x := (x / 64)) (d (by decide +kernel)) (List.Mem.head _) ?_
    refine w_iconst C (n := 1) (d (by decide +kernel)) ?_
    refine w_icmp_ne C (off := 7) (t := 120) (d (by decide +kernel)) (by decide) (fun g => ?_) (fun g => ?_)
    ·
      refine w_iload_n C (i := 0) (x := x) (d (by decide +kernel)) (List.Mem.tail _ (List.Mem.tail _ (List.Mem.tail _ (List.Mem.head _)))) ?_
      refine w_bipush C (n := 64) (z := 64) (d (by decide +kernel)) (by decide) ?_
      refine w_iadd C (d (by decide +kernel)) ?_
      exact ret (by decide +kernel) (a10 g)
    ·
      refine w_iconst C (n := (-1)) (d (by decide +kernel)) ?_
      refine w_goto C (off := 7) (t := 124) (d (by decide +kernel)) (by decide) ?_
      exact ret (by decide +kernel) (a9 g)
  ·
    refine w_tabOut C (dflt := 105) (lo := 0) (hi := 4) (offs := #[36, 50, 62, 77, 90]) (len := 36) (t := 125) (d (by decide +kernel)) (by decide) (by decide) ?_
    refine w_iload C (i := 4) (x := (x / 64)) (d (by decide +kernel)) (List.Mem.head _) ?_
    refine w_if_ne C (off := 7) (t := 134) (d (by decide +kernel)) (by decide) (fun g => ?_) (fun g => ?_)
    ·
      refine w_iload_n C (i := 0) (x := x) (d (by decide +kernel)) (List.Mem.tail _ (List.Mem.tail _ (List.Mem.tail _ (List.Mem.head _)))) ?_
      refine w_bipush C (n := 64) (z := 64) (d (by decide +kernel)) (by decide) ?_
      refine w_isub C (d (by decide +kernel)) ?_
      exact ret (by decide +kernel) (a12 g)
    ·
      refine w_iconst C (n := (-1)) (d (by decide +kernel)) ?_
      refine w_goto C (off := 7) (t := 138) (d (by decide +kernel)) (by decide) ?_
      exact ret (by decide +kernel) (a11 g)
