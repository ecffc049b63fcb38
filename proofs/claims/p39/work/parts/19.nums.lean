/-! Numbers as the machine has them -/
theorem WS_lv {k : kx_T} {pc : Nat} {lv lv' : List (Nat × Value)} {st : List Value} {ws : va_W} {ce sl : Nat} (hs : ∀ q ∈ lv, q ∈ lv') (h : WS k pc lv st ws ce sl) : WS k pc lv' st ws ce sl :=
  fun H locs ls hP hD hS hl => h H locs ls hP hD hS (lv_mono hl hs)
theorem on_int {a : Nat} (ha : a < 2147483648) : (Int32.ofNat a).toInt = a := Int32.toInt_ofNat_of_lt (by omega)
theorem on_le {a b : Nat} (ha : a < 2147483648) (hb : b < 2147483648) : Int32.ofNat a ≤ Int32.ofNat b ↔ a ≤ b := by
  rw [Int32.le_iff_toInt_le, on_int ha, on_int hb]; omega
theorem on_lt {a b : Nat} (ha : a < 2147483648) (hb : b < 2147483648) : Int32.ofNat a < Int32.ofNat b ↔ a < b := by
  rw [Int32.lt_iff_toInt_lt, on_int ha, on_int hb]; omega
theorem on_cl {a : Nat} (ha : a < 2147483648) : (Int32.ofNat a).toNatClampNeg = a := by
  unfold Int32.toNatClampNeg; rw [on_int ha]; rfl
theorem on_in {a n : Nat} (h : a < n) (hn : n < 2147483648) : vp_in (Int32.ofNat a) n := by
  rintro (q | q)
  · rw [Int32.lt_iff_toInt_lt, on_int (by omega)] at q
    have e0 : (0 : Int32).toInt = 0 := rfl
    omega
  · rw [on_cl (by omega)] at q; omega
theorem on_up (a : Nat) : Int32.ofNat a + Int32.ofInt 1 = Int32.ofNat (a + 1) := by rw [Int32.ofNat_add]; rfl
theorem on_nn {a : Nat} (ha : a < 2147483648) : ¬ Int32.ofNat a < 0 := by
  rw [Int32.lt_iff_toInt_lt, on_int ha]; simp
theorem on_n1 {a : Nat} (ha : a < 2147483648) : ¬ Int32.ofNat a = Int32.ofInt (-1) := fun q => by
  have := congrArg Int32.toInt q
  rw [on_int ha] at this
  have e : (Int32.ofInt (-1)).toInt = -1 := by decide
  omega
theorem on_of {z : Int} (h0 : 0 ≤ z) : Int32.ofInt z = Int32.ofNat z.toNat := by
  conv => lhs; rw [← Int.toNat_of_nonneg h0]
  rfl
theorem on_eq {a b : Nat} (ha : a < 2147483648) (hb : b < 2147483648) : Int32.ofNat a = Int32.ofNat b ↔ a = b := by
  constructor
  · intro h
    have := congrArg Int32.toInt h
    rw [on_int ha, on_int hb] at this
    omega
  · intro h; rw [h]
