/-! Painting: the pure part -/
theorem bct_flat {f : Nat → Bool} : ∀ {a m : Nat}, (∀ j, a ≤ j → j < a + m → f j = false) → bct f (a + m) = bct f a
  | a, 0, _ => rfl
  | a, m + 1, h => by
    show bct f (a + m) + (bif f (a + m) then 1 else 0) = _
    rw [h (a + m) (by omega) (by omega), bct_flat (fun j h1 h2 => h j h1 (by omega))]
    rfl
theorem bct_add {f : Nat → Bool} (a : Nat) : ∀ m, bct f (a + m) ≤ bct f a + m
  | 0 => Nat.le_refl _
  | m + 1 => by
    have := bct_add (f := f) a m
    show bct f (a + m) + (bif f (a + m) then 1 else 0) ≤ _
    cases f (a + m) <;> simp <;> omega
/-- a and b span cells -/
def pVal (A B : Nat) : Prop := A / 64 = B / 64 ∧ A % 8 ≤ B % 8 ∧ A / 8 % 8 ≤ B / 8 % 8
def pDec (A B : Nat) : Decidable (pVal A B) := by unfold pVal; exact inferInstance
/-- a cell that is painted over: as the class sees it, as the model does -/
def pC (A B : Nat) (z : Bool) (j : Nat) : Bool := decide (A ≤ j) && decide (j ≤ B) && (decide (A % 8 ≤ j % 8) && decide (j % 8 ≤ B % 8)) && !z
def pM (A B : Nat) (z : Bool) (j : Nat) : Bool := decide (64 * (A / 64) ≤ j) && decide (j < 64 * (A / 64) + 64) && (decide (A % 8 ≤ j % 8) && decide (j % 8 ≤ B % 8)) && (decide (A / 8 % 8 ≤ j / 8 % 8) && decide (j / 8 % 8 ≤ B / 8 % 8)) && !z
theorem pC_pM {A B j : Nat} {z : Bool} (hA : A < 128) (hB : B < 128) (hj : j < 128) (h : pVal A B) : pC A B z j = pM A B z j := by
  obtain ⟨h1, h2, h3⟩ := h
  unfold pC pM
  cases z with
  | true => simp
  | false =>
    rw [Bool.eq_iff_iff]
    simp only [Bool.and_eq_true, decide_eq_true_eq, Bool.not_false, and_true]
    constructor
    · rintro ⟨⟨g1, g2⟩, g3, g4⟩
      refine ⟨⟨⟨by omega, by omega⟩, g3, g4⟩, by omega, by omega⟩
    · rintro ⟨⟨⟨g1, g2⟩, g3, g4⟩, g5, g6⟩
      refine ⟨⟨by omega, by omega⟩, g3, g4⟩
def pN (A B : Nat) (z : Bool) : Nat := bct (pM A B z) 128
theorem pC_end {A B : Nat} {z : Bool} (hA : A < 128) (hB : B < 128) (h : pVal A B) : bct (pC A B z) (B + 1) = pN A B z := by
  have e : bct (pC A B z) ((B + 1) + (127 - B)) = bct (pC A B z) (B + 1) := bct_flat (fun j h1 h2 => by unfold pC; rw [show decide (j ≤ B) = false from decide_eq_false (by omega)]; simp)
  rw [show (B + 1) + (127 - B) = 128 by omega] at e
  rw [← e]
  exact bct_eq (fun c hc => pC_pM hA hB hc h)
theorem pC_start {A B : Nat} {z : Bool} : bct (pC A B z) A = 0 := by
  have e : bct (pC A B z) (0 + A) = bct (pC A B z) 0 := bct_flat (fun j h1 h2 => by unfold pC; rw [show decide (A ≤ j) = false from decide_eq_false (by omega)]; simp)
  rw [Nat.zero_add] at e
  exact e
theorem pM_start {A B : Nat} {z : Bool} : bct (pM A B z) (64 * (A / 64)) = 0 := by
  have e : bct (pM A B z) (0 + 64 * (A / 64)) = bct (pM A B z) 0 := bct_flat (fun j h1 h2 => by unfold pM; rw [show decide (64 * (A / 64) ≤ j) = false from decide_eq_false (by omega)]; simp)
  rw [Nat.zero_add] at e
  exact e
theorem pM_end {A B : Nat} {z : Bool} (hA : A < 128) : bct (pM A B z) (64 * (A / 64) + 64) = pN A B z := by
  have e : bct (pM A B z) ((64 * (A / 64) + 64) + (64 - 64 * (A / 64))) = bct (pM A B z) (64 * (A / 64) + 64) := bct_flat (fun j h1 h2 => by unfold pM; rw [show decide (j < 64 * (A / 64) + 64) = false from decide_eq_false (by omega)]; simp)
  rw [show (64 * (A / 64) + 64) + (64 - 64 * (A / 64)) = 128 by omega] at e
  exact e.symm
theorem pN_le {A B : Nat} {z : Bool} (hA : A < 128) : pN A B z ≤ 64 := by
  rw [← pM_end hA]
  have := bct_add (f := pM A B z) (64 * (A / 64)) 64
  rw [pM_start] at this
  omega
/-- quotients and remainders of a cell, as the machine takes them -/
def cqT (c : Nat) : Prop := let x := Int32.ofNat c
  x / 64 = Int32.ofNat (c / 64) ∧ x &&& 7 = Int32.ofNat (c % 8) ∧ (x >>> (Int32.ofInt 3 &&& 31)) &&& 7 = Int32.ofNat (c / 8 % 8) ∧ x - x / 8 * 8 = Int32.ofNat (c % 8) ∧ x / 8 - x / 8 / 8 * 8 = Int32.ofNat (c / 8 % 8)
def cqD (c : Nat) : Decidable (cqT c) := by unfold cqT; exact inferInstance
theorem cq_all : (List.range 128).all (fun c => @decide (cqT c) (cqD c)) = true := by decide +kernel
theorem cq_ok {c : Nat} (hc : c < 128) : cqT c := @of_decide_eq_true _ (cqD c) (List.all_eq_true.mp cq_all c (List.mem_range.mpr hc))
theorem on_eq {a b : Nat} (ha : a < 2147483648) (hb : b < 2147483648) : Int32.ofNat a = Int32.ofNat b ↔ a = b := by
  constructor
  · intro h
    have := congrArg Int32.toInt h
    rw [on_int ha, on_int hb] at this
    omega
  · intro h; rw [h]
