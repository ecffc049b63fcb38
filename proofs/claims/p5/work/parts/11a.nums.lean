/-! Numbers: the interpreter's ints and longs are the machine's -/
theorem z_rng {z : Int} (h : inI z = true) : -2147483648 ≤ z ∧ z ≤ 2147483647 := by
  have h1 := (Bool.and_eq_true _ _).mp h
  exact ⟨of_decide_eq_true h1.1, of_decide_eq_true h1.2⟩
theorem z_inI {z : Int} (h1 : -2147483648 ≤ z) (h2 : z ≤ 2147483647) : inI z = true := by
  exact (Bool.and_eq_true _ _).mpr ⟨decide_eq_true h1, decide_eq_true h2⟩
theorem z_in {z : Int} (h : inI z = true) : (Int32.ofInt z).toInt = z := by
  have := z_rng h
  exact Int32.toInt_ofInt_of_le (by omega) (by omega)
theorem z_toInt (x : Int32) : -2147483648 ≤ x.toInt ∧ x.toInt ≤ 2147483647 := ⟨by have := x.le_toInt; omega, by have := x.toInt_lt; omega⟩
theorem z_wr (z : Int) : Int32.ofInt (zWr z) = Int32.ofInt z := by
  unfold zWr
  split
  · rfl
  · apply Int32.toInt_inj.1
    rw [Int32.toInt_ofInt, Int32.toInt_ofInt]
    exact Int.bmod_bmod
theorem z_nat (z : Int) : (Int32.ofInt z).toBitVec.toNat = zN z := by
  rw [Int32.toBitVec_ofInt, BitVec.toNat_ofInt]
  rfl
theorem z_ofn (n : Nat) (h : n < 4294967296) : (Int32.ofInt (zOf n)).toBitVec.toNat = n := by
  rw [z_nat]
  unfold zN zOf
  split
  · omega
  · omega
theorem z_ext {x y : Int32} (h : x.toBitVec.toNat = y.toBitVec.toNat) : x = y := Int32.toBitVec.inj (BitVec.eq_of_toNat_eq h)
theorem zN_lt (z : Int) : zN z < 4294967296 := by unfold zN; omega
theorem z_and (a b : Int) : Int32.ofInt (zOf (Nat.land (zN a) (zN b))) = Int32.ofInt a &&& Int32.ofInt b := by
  apply z_ext
  show (Int32.ofInt (zOf (zN a &&& zN b))).toBitVec.toNat = _
  rw [z_ofn _ (Nat.lt_of_le_of_lt Nat.and_le_left (zN_lt a)), Int32.toBitVec_and, BitVec.toNat_and, z_nat, z_nat]
theorem z_or (a b : Int) : Int32.ofInt (zOf (Nat.lor (zN a) (zN b))) = Int32.ofInt a ||| Int32.ofInt b := by
  apply z_ext
  show (Int32.ofInt (zOf (zN a ||| zN b))).toBitVec.toNat = _
  rw [z_ofn _ (Nat.or_lt_two_pow (n := 32) (zN_lt a) (zN_lt b)), Int32.toBitVec_or, BitVec.toNat_or, z_nat, z_nat]
theorem z_xor (a b : Int) : Int32.ofInt (zOf (Nat.xor (zN a) (zN b))) = Int32.ofInt a ^^^ Int32.ofInt b := by
  apply z_ext
  show (Int32.ofInt (zOf (zN a ^^^ zN b))).toBitVec.toNat = _
  rw [z_ofn _ (Nat.xor_lt_two_pow (n := 32) (zN_lt a) (zN_lt b)), Int32.toBitVec_xor, BitVec.toNat_xor, z_nat, z_nat]
theorem z_31 (b : Int) : Int32.ofInt b &&& 31 = nI (zN b % 32) := by
  rw [pk_and (Int32.ofInt b) (m := 31) 5 (by decide), z_nat]
theorem z_sm : ∀ n, n < 32 → ((nI n).toBitVec.smod 32).toNat = n := by decide
theorem z_um : ∀ n, n < 32 → (((nI n).toUInt32 &&& Int32.toUInt32 31).toBitVec % 32).toNat = n := by decide
theorem z_shl (a b : Int) : Int32.ofInt (zOf ((zN a * 2 ^ (zN b % 32)) % 4294967296)) = Int32.ofInt a <<< (Int32.ofInt b &&& 31) := by
  apply z_ext
  rw [z_ofn _ (Nat.mod_lt _ (by decide)), z_31, pk_shl _ _ (zN b % 32) (z_sm _ (Nat.mod_lt _ (by decide))), z_nat]
theorem z_shr {a : Int} (b : Int) (h : inI a = true) : Int32.ofInt (a / 2 ^ (zN b % 32)) = Int32.ofInt a >>> (Int32.ofInt b &&& 31) := by
  apply Int32.toInt_inj.1
  rw [z_31, pk_shr _ _ (zN b % 32) (z_sm _ (Nat.mod_lt _ (by decide))), z_in h, Int.shiftRight_eq_div_pow]
  have hr := z_rng h
  have hp : (1 : Int) ≤ 2 ^ (zN b % 32) := by
    have : 0 < (2 : Int) ^ (zN b % 32) := Int.pow_pos (by decide)
    omega
  apply z_in
  apply z_inI
  · rw [Int.le_ediv_iff_mul_le (by omega)]
    have : (-2147483648 : Int) * 2 ^ (zN b % 32) ≤ -2147483648 * 1 := Int.mul_le_mul_of_nonpos_left (by decide) hp
    omega
  · have h1 : a / 2 ^ (zN b % 32) ≤ max a 0 := by
      rcases Int.le_total 0 a with h0 | h0
      · have := Int.ediv_le_self (2 ^ (zN b % 32)) h0
        omega
      · have : a / 2 ^ (zN b % 32) ≤ 0 := Int.ediv_nonpos_of_nonpos_of_neg h0 (by omega)
        omega
    omega
theorem z_ushr (a b : Int) : Int32.ofInt (zOf (zN a / 2 ^ (zN b % 32))) = ((Int32.ofInt a).toUInt32 >>> ((Int32.ofInt b).toUInt32 &&& Int32.toUInt32 31)).toInt32 := by
  apply z_ext
  have hs : (Int32.ofInt b).toUInt32 &&& Int32.toUInt32 31 = (nI (zN b % 32)).toUInt32 := by
    rw [← z_31]
    rfl
  have hs2 : (nI (zN b % 32)).toUInt32 = (nI (zN b % 32)).toUInt32 &&& Int32.toUInt32 31 := by
    have : ∀ n, n < 32 → (nI n).toUInt32 = (nI n).toUInt32 &&& Int32.toUInt32 31 := by decide
    exact this _ (Nat.mod_lt _ (by decide))
  rw [z_ofn _ (Nat.lt_of_le_of_lt (Nat.div_le_self _ _) (zN_lt a)), hs, hs2, pk_ushr _ _ (zN b % 32) (z_um _ (Nat.mod_lt _ (by decide))), z_nat]
theorem z_div {a b : Int} (ha : inI a = true) (hb : inI b = true) : Int32.ofInt (zWr (a.tdiv b)) = Int32.ofInt a / Int32.ofInt b := by
  have h1 := z_rng ha
  have h2 := z_rng hb
  rw [z_wr]
  exact Int32.ofInt_tdiv h1.1 h1.2 h2.1 h2.2
theorem z_rem {a b : Int} (ha : inI a = true) (hb : inI b = true) : Int32.ofInt (zWr (a - a.tdiv b * b)) = Int32.ofInt a - Int32.ofInt a / Int32.ofInt b * Int32.ofInt b := by
  rw [z_wr, Int32.ofInt_sub, Int32.ofInt_mul, ← z_div ha hb, z_wr]
theorem z_ne {b : Int} (hb : inI b = true) (h : b ≠ 0) : ¬ Int32.ofInt b = 0 := by
  intro e
  have := congrArg Int32.toInt e
  rw [z_in hb] at this
  exact h this
/-- longs -/
theorem q_ext {x y : Int64} (h : x.toBitVec.toNat = y.toBitVec.toNat) : x = y := Int64.toBitVec.inj (BitVec.eq_of_toNat_eq h)
theorem q_nat (n : Nat) : (lN n).toBitVec.toNat = n % 18446744073709551616 := by
  show (Int64.ofNat n).toBitVec.toNat = _
  rw [Int64.toBitVec_ofNat']
  rfl
theorem q_and (a b : Nat) : lN (Nat.land a b) = lN a &&& lN b := by
  apply q_ext
  rw [Int64.toBitVec_and, BitVec.toNat_and, q_nat, q_nat, q_nat]
  exact Nat.and_mod_two_pow (n := 64)
theorem q_or (a b : Nat) : lN (Nat.lor a b) = lN a ||| lN b := by
  apply q_ext
  rw [Int64.toBitVec_or, BitVec.toNat_or, q_nat, q_nat, q_nat]
  exact Nat.or_mod_two_pow (n := 64)
theorem q_xor (a b : Nat) : lN (Nat.xor a b) = lN a ^^^ lN b := by
  apply q_ext
  rw [Int64.toBitVec_xor, BitVec.toNat_xor, q_nat, q_nat, q_nat]
  exact Nat.xor_mod_two_pow (n := 64)
theorem q_add (a b : Nat) : lN ((a + b) % 18446744073709551616) = lN a + lN b := by
  apply q_ext
  rw [Int64.toBitVec_add, BitVec.toNat_add, q_nat, q_nat, q_nat]
  omega
theorem q_sub (a b : Nat) (h : b ≤ 18446744073709551616) : lN ((a + (18446744073709551616 - b)) % 18446744073709551616) = lN a - lN b := by
  apply q_ext
  rw [Int64.toBitVec_sub, BitVec.toNat_sub, q_nat, q_nat, q_nat]
  omega
theorem q_i2l {z : Int} (h : inI z = true) : lN (z % 18446744073709551616).toNat = (Int32.ofInt z).toInt64 := by
  have hr := z_rng h
  apply q_ext
  have h1 : (Int32.ofInt z).toInt64.toInt = z := by rw [Int32.toInt_toInt64, z_in h]
  have h2 : (Int32.ofInt z).toInt64 = Int64.ofInt z := by
    apply Int64.toInt_inj.1
    rw [h1, Int64.toInt_ofInt_of_le (by omega) (by omega)]
  rw [h2, q_nat, Int64.toBitVec_ofInt, BitVec.toNat_ofInt]
  omega
theorem q_l2i (n : Nat) : Int32.ofInt (zOf (n % 4294967296)) = (lN n).toInt32 := by
  apply z_ext
  have h : (lN n).toInt32.toBitVec = BitVec.setWidth 32 (lN n).toBitVec := by
    rw [Int64.toBitVec_toInt32, BitVec.signExtend_eq_setWidth_of_le _ (by decide)]
  rw [z_ofn _ (Nat.mod_lt _ (by decide)), h, BitVec.toNat_setWidth, q_nat]
  omega
theorem q_63 (b : Int) (h : inI b = true) : (Int32.ofInt b).toInt64 &&& 63 = lN (zN b % 64) := by
  rw [← q_i2l h]
  apply q_ext
  have h63 : (63 : Int64).toBitVec.toNat = 2 ^ 6 - 1 := by decide
  rw [Int64.toBitVec_and, BitVec.toNat_and, q_nat, q_nat, h63, Nat.and_two_pow_sub_one_eq_mod]
  unfold zN
  omega
theorem q_sm : ∀ n, n < 64 → ((lN n).toBitVec.smod 64).toNat = n := by decide
theorem q_shl (a : Nat) (b : Int) (h : inI b = true) : lN ((a * 2 ^ (zN b % 64)) % 18446744073709551616) = lN a <<< ((Int32.ofInt b).toInt64 &&& 63) := by
  apply q_ext
  have hm : zN b % 64 < 64 := Nat.mod_lt _ (by decide)
  rw [q_63 b h, Int64.toBitVec_shiftLeft]
  have e : (lN (zN b % 64)).toBitVec.smod 64 = BitVec.ofNat 64 (zN b % 64) := by
    apply BitVec.eq_of_toNat_eq
    rw [q_sm _ hm, BitVec.toNat_ofNat]
    omega
  rw [e, BitVec.shiftLeft_eq', BitVec.toNat_shiftLeft, q_nat, q_nat, BitVec.toNat_ofNat, Nat.shiftLeft_eq]
  rw [Nat.mod_eq_of_lt (show zN b % 64 < 2 ^ 64 by omega), Nat.mod_mod, Nat.mod_mul_mod]
theorem q_shr (a : Nat) (b : Int) (ha : a < 18446744073709551616) (h : inI b = true) : lN (a / 2 ^ (zN b % 64)) = ((lN a).toUInt64 >>> ((Int32.ofInt b).toInt64.toUInt64 &&& Int64.toUInt64 63)).toInt64 := by
  apply q_ext
  have hm : zN b % 64 < 64 := Nat.mod_lt _ (by decide)
  have hs : (Int32.ofInt b).toInt64.toUInt64 &&& Int64.toUInt64 63 = (lN (zN b % 64)).toUInt64 := by
    rw [← q_63 b h]
    rfl
  rw [hs]
  show _ = ((lN a).toUInt64 >>> (lN (zN b % 64)).toUInt64).toBitVec.toNat
  rw [UInt64.toBitVec_shiftRight]
  have hm2 : ((lN (zN b % 64)).toUInt64.toBitVec % 64).toNat = zN b % 64 := by
    have : ∀ n, n < 64 → ((lN n).toUInt64.toBitVec % 64).toNat = n := by decide
    exact this _ hm
  rw [BitVec.ushiftRight_eq', BitVec.toNat_ushiftRight, hm2]
  show _ = (lN a).toBitVec.toNat >>> _
  rw [q_nat, q_nat, Nat.shiftRight_eq_div_pow, Nat.mod_eq_of_lt ha]
  exact Nat.mod_eq_of_lt (Nat.lt_of_le_of_lt (Nat.div_le_self _ _) ha)
theorem q_sg {a : Nat} (h : a < 18446744073709551616) : (lN a).toInt = lSg a := by
  show (lN a).toBitVec.toInt = _
  rw [BitVec.toInt_eq_toNat_cond, q_nat, Nat.mod_eq_of_lt h]
  unfold lSg
  cases hb : Nat.blt a 9223372036854775808 with
  | true =>
    have := Nat.blt_eq.mp hb
    rw [if_pos (by omega)]
    rfl
  | false =>
    have : ¬ a < 9223372036854775808 := fun q => by rw [Nat.blt_eq.mpr q] at hb; cases hb
    rw [if_neg (by omega)]
    rfl
theorem q_cmp {a b : Nat} (ha : a < 18446744073709551616) (hb : b < 18446744073709551616) : Int32.ofInt (if lSg b < lSg a then 1 else if lSg a = lSg b then 0 else -1) = lg_cmp (lN a) (lN b) := by
  unfold lg_cmp
  have h1 : (lN a > lN b) ↔ lSg b < lSg a := by
    rw [← q_sg ha, ← q_sg hb]
    exact Int64.lt_iff_toInt_lt
  have h2 : (lN a = lN b) ↔ lSg a = lSg b := by
    rw [← q_sg ha, ← q_sg hb]
    exact Int64.toInt_inj.symm
  by_cases c1 : lSg b < lSg a
  · rw [if_pos c1, if_pos (h1.mpr c1)]
    rfl
  · rw [if_neg c1, if_neg (fun q => c1 (h1.mp q))]
    by_cases c2 : lSg a = lSg b
    · rw [if_pos c2, if_pos (h2.mpr c2)]
      rfl
    · rw [if_neg c2, if_neg (fun q => c2 (h2.mp q))]
      rfl
theorem lg_rng (x y : Int64) : -1 ≤ (lg_cmp x y).toInt ∧ (lg_cmp x y).toInt ≤ 1 := by
  unfold lg_cmp
  split
  · decide
  · split <;> decide
theorem z_and_rng (x : Int32) {b : Int} (hb : inI b = true) (h0 : 0 ≤ b) : 0 ≤ (x &&& Int32.ofInt b).toInt ∧ (x &&& Int32.ofInt b).toInt ≤ b := by
  have hr := z_rng hb
  have hn : (Int32.ofInt b).toBitVec.toNat = b.toNat := by
    rw [z_nat]
    unfold zN
    omega
  have h1 : (x &&& Int32.ofInt b).toBitVec.toNat ≤ b.toNat := by
    rw [Int32.toBitVec_and, BitVec.toNat_and, hn]
    exact Nat.and_le_right
  have h2 : (x &&& Int32.ofInt b).toInt = ((x &&& Int32.ofInt b).toBitVec.toNat : Int) := by
    show (x &&& Int32.ofInt b).toBitVec.toInt = _
    rw [BitVec.toInt_eq_toNat_cond, if_pos (by omega)]
  rw [h2]
  omega
