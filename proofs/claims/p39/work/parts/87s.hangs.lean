section
theorem oq_9c013a0f {a0 : Int} (h0 : 64 ≤ a0) : (-2147483648) ≤ a0 := by omega
theorem oq_1ed1a489 {a0 : Int} (h0 : a0 < 64) : a0 ≤ 2147483647 := by omega
theorem oq_076ebabd {a0 : Int} (h0 : a0 < 0) (h1 : (-1) ≤ a0) : a0 = (-1) := by omega
theorem oq_0a89e42f {a0 a1 : Int} (h0 : a0 ≤ (127 - a1)) : (a0 + 0) ≤ (127 - (a1 + (-1))) := by omega
theorem oq_928ce229 {a0 a1 : Int} (h0 : a0 ≤ (127 - a1)) : (a0 + 1) ≤ (127 - (a1 + (-1))) := by omega
/-! Cells that hang together, by bits -/
theorem j_sh : ∀ n, n < 64 → (((nI n).toInt64 &&& 63).toBitVec.smod 64).toNat = n := by decide +kernel
theorem jb_shl {x : Int64} {c i : Nat} (hc : c < 64) (hi : i < 64) : bJ (jshl x (c : Int)) i ↔ c ≤ i ∧ bJ x (i - c) := by
  have e : (((Int32.ofInt (c : Int)).toInt64 &&& 63).toBitVec.smod 64).toNat = c := by
    rw [on_of (by omega), show ((c : Int)).toNat = c by omega]
    exact j_sh c hc
  unfold jshl bJ
  rw [Int64.toBitVec_shiftLeft, BitVec.getLsbD_shiftLeft', e, decide_eq_true hi, Bool.true_and]
  by_cases q : i < c
  · rw [decide_eq_true q]
    exact ⟨fun z => by simp at z, fun z => absurd z.1 (by omega)⟩
  · rw [decide_eq_false q]
    exact ⟨fun z => ⟨by omega, z⟩, fun z => z.2⟩
theorem jb_u0 {x : Int64} {c j : Nat} (hc : c < 64) (h : 64 ≤ c + j) : ¬ bJ (jushr x (c : Int)) j := by
  rw [bJ_N, jN_ushr hc, Nat.div_div_eq_div_mul, ← Nat.pow_add]
  have l := jN_lt x
  have p : 2 ^ 64 ≤ 2 ^ (c + j) := Nat.pow_le_pow_right (by decide) h
  rw [Nat.div_eq_of_lt (Nat.lt_of_lt_of_le l p)]
  decide
theorem jb_ext {x y : Int64} (h : ∀ i, i < 64 → (bJ x i ↔ bJ y i)) : x = y := by
  apply Int64.toBitVec.inj
  apply BitVec.eq_of_getLsbD_eq
  intro i hi
  have z := h i hi
  unfold bJ at z
  cases e : x.toBitVec.getLsbD i with
  | false =>
    cases f : y.toBitVec.getLsbD i with
    | false => rfl
    | true => exact absurd (z.mpr f) (by rw [e]; decide)
  | true => exact (z.mp e).symm
theorem jb_1 {c : Int} {i : Nat} (h : 0 ≤ c ∧ c < 64) (hi : i < 64) : bJ (jshl 1 c) i ↔ i = c.toNat := by
  have z := jb_o (x := 0) h hi
  have e : (0 : Int64) ||| jshl 1 c = jshl 1 c := jb_ext (fun j _ => by
    rw [jb_or]
    exact ⟨fun q => q.elim (fun w => absurd w jb_z) id, Or.inr⟩)
  rw [e] at z
  rw [z]
  exact ⟨fun q => q.elim (fun w => absurd w jb_z) id, Or.inr⟩
/-- the lowest bit -/
theorem low_ex : ∀ (f n : Nat), n ≤ f → 0 < n → ∃ i m, n = 2 ^ i * (2 * m + 1)
  | 0, n, h, h0 => by omega
  | f + 1, n, h, h0 => by
    by_cases q : n % 2 = 1
    · exact ⟨0, n / 2, by rw [Nat.pow_zero, Nat.one_mul]; omega⟩
    · obtain ⟨i, m, e⟩ := low_ex f (n / 2) (by omega) (by omega)
      refine ⟨i + 1, m, ?_⟩
      rw [Nat.pow_succ, Nat.mul_assoc, Nat.mul_left_comm, ← e]
      omega
theorem low_b {n i m : Nat} (h : n = 2 ^ i * (2 * m + 1)) (hn : n < 2 ^ 64) : i < 64 ∧ n.testBit i = true ∧ ∀ j, j < 64 → ((n.testBit j && (2 ^ 64 - n).testBit j) = true ↔ j = i) := by
  have hi : i < 64 := by
    refine Classical.byContradiction (fun q => ?_)
    have p : 2 ^ 64 ≤ 2 ^ i := Nat.pow_le_pow_right (by decide) (by omega)
    have l : 2 ^ i ≤ n := by rw [h]; exact Nat.le_mul_of_pos_right _ (by omega)
    omega
  have p2 : 2 ^ 64 = 2 ^ i * 2 ^ (64 - i) := by rw [← Nat.pow_add]; congr 1; omega
  have lt : 2 * m + 1 < 2 ^ (64 - i) := by
    rw [h, p2] at hn
    exact Nat.lt_of_mul_lt_mul_left hn
  have e2 : 2 ^ 64 - n = 2 ^ i * (2 ^ (64 - i) - (2 * m + 1)) := by rw [h, p2, ← Nat.mul_sub]
  have b1 : ∀ j, n.testBit j = (decide (j ≥ i) && (2 * m + 1).testBit (j - i)) := fun j => by rw [h]; exact Nat.testBit_two_pow_mul
  have b2 : ∀ j, (2 ^ 64 - n).testBit j = (decide (j ≥ i) && (decide (j - i < 64 - i) && !(2 * m).testBit (j - i))) := fun j => by
    rw [e2, Nat.testBit_two_pow_mul, Nat.testBit_two_pow_sub_succ (by omega)]
  have z0 : (2 * m + 1).testBit 0 = true := by rw [Nat.testBit_zero]; exact decide_eq_true (by omega)
  have z1 : (2 * m).testBit 0 = false := by rw [Nat.testBit_zero]; exact decide_eq_false (by omega)
  have zs : ∀ k, (2 * m + 1).testBit (k + 1) = (2 * m).testBit (k + 1) := fun k => by rw [Nat.testBit_succ, Nat.testBit_succ, show (2 * m + 1) / 2 = m by omega, show 2 * m / 2 = m by omega]
  refine ⟨hi, ?_, fun j hj => ?_⟩
  · rw [b1, Nat.sub_self, z0, decide_eq_true (Nat.le_refl i)]; rfl
  · rw [b1, b2]
    by_cases c : j = i
    · subst c
      rw [Nat.sub_self, z0, z1, decide_eq_true (Nat.le_refl j), decide_eq_true (show 0 < 64 - j by omega)]
      exact ⟨fun _ => rfl, fun _ => rfl⟩
    · constructor
      · intro q
        exfalso
        by_cases g : j ≥ i
        · obtain ⟨k, hk⟩ : ∃ k, j - i = k + 1 := ⟨j - i - 1, by omega⟩
          rw [hk, zs] at q
          cases e : (2 * m).testBit (k + 1) with
          | true => rw [e] at q; simp at q
          | false => rw [e] at q; simp at q
        · rw [decide_eq_false g] at q; simp at q
      · intro q; exact absurd q c
theorem lw_bit {x : Int64} (h : x ≠ 0) : ∃ i, i < 64 ∧ bJ x i ∧ ∀ j, j < 64 → (bJ (x &&& -x) j ↔ j = i) := by
  obtain ⟨k, hk, hb⟩ := jb_ne.mp h
  have n0 : 0 < jN x := by
    refine Nat.pos_of_ne_zero (fun q => ?_)
    rw [bJ_N, q, Nat.zero_div] at hb
    exact absurd hb (by decide)
  obtain ⟨i, m, e⟩ := low_ex (jN x) (jN x) (Nat.le_refl _) n0
  have b := low_b e (jN_lt x)
  have en : jN (-x) = 2 ^ 64 - jN x := by
    have l := jN_lt x
    unfold jN at n0 l ⊢
    rw [Int64.toBitVec_neg, BitVec.toNat_neg]
    exact Nat.mod_eq_of_lt (by omega)
  refine ⟨i, b.1, b.2.1, fun j hj => ?_⟩
  rw [← b.2.2 j hj, jb_a, ← en, Bool.and_eq_true]
  exact Iff.rfl
/-- the cells beside those of a set: of one layer -/
def bsJ (a b : Int64) : Int64 := ((((jshl a 1 &&& lN 18374403900871474942) ||| (jushr a 1 &&& lN 9187201950435737471)) ||| jshl a 8) ||| jushr a 8) ||| b
theorem c_nf : ∀ i, i < 64 → (bJ (lN 18374403900871474942) i ↔ i % 8 ≠ 0) := by unfold bJ; decide +kernel
theorem c_nl : ∀ i, i < 64 → (bJ (lN 9187201950435737471) i ↔ i % 8 ≠ 7) := by unfold bJ; decide +kernel
theorem bs_b {a b : Int64} {i : Nat} (hi : i < 64) : bJ (bsJ a b) i ↔ (i % 8 ≠ 0 ∧ bJ a (i - 1)) ∨ (i % 8 ≠ 7 ∧ bJ a (i + 1)) ∨ (8 ≤ i ∧ bJ a (i - 8)) ∨ (i < 56 ∧ bJ a (i + 8)) ∨ bJ b i := by
  have s1 : bJ (jshl a 1) i ↔ 1 ≤ i ∧ bJ a (i - 1) := jb_shl (c := 1) (by decide) hi
  have s8 : bJ (jshl a 8) i ↔ 8 ≤ i ∧ bJ a (i - 8) := jb_shl (c := 8) (by decide) hi
  have u1 : bJ (jushr a 1) i ↔ i < 63 ∧ bJ a (i + 1) := by
    by_cases q : 1 + i < 64
    · have z : bJ (jushr a 1) i ↔ bJ a (1 + i) := jb_u (c := 1) q
      rw [z, Nat.add_comm 1 i]
      exact ⟨fun w => ⟨by omega, w⟩, fun w => w.2⟩
    · exact ⟨fun z => absurd z (jb_u0 (c := 1) (by decide) (by omega)), fun z => absurd z.1 (by omega)⟩
  have u8 : bJ (jushr a 8) i ↔ i < 56 ∧ bJ a (i + 8) := by
    by_cases q : 8 + i < 64
    · have z : bJ (jushr a 8) i ↔ bJ a (8 + i) := jb_u (c := 8) q
      rw [z, Nat.add_comm 8 i]
      exact ⟨fun w => ⟨by omega, w⟩, fun w => w.2⟩
    · exact ⟨fun z => absurd z (jb_u0 (c := 8) (by decide) (by omega)), fun z => absurd z.1 (by omega)⟩
  unfold bsJ
  rw [jb_or, jb_or, jb_or, jb_or, jb_a, jb_a, c_nf i hi, c_nl i hi, s1, s8, u1, u8]
  constructor
  · rintro ((((⟨⟨_, h⟩, q⟩ | ⟨⟨_, h⟩, q⟩) | h) | h) | h)
    · exact Or.inl ⟨q, h⟩
    · exact Or.inr (Or.inl ⟨q, h⟩)
    · exact Or.inr (Or.inr (Or.inl h))
    · exact Or.inr (Or.inr (Or.inr (Or.inl h)))
    · exact Or.inr (Or.inr (Or.inr (Or.inr h)))
  · rintro (⟨q, h⟩ | ⟨q, h⟩ | h | h | h)
    · exact Or.inl (Or.inl (Or.inl (Or.inl ⟨⟨by omega, h⟩, q⟩)))
    · exact Or.inl (Or.inl (Or.inl (Or.inr ⟨⟨by omega, h⟩, q⟩)))
    · exact Or.inl (Or.inl (Or.inr h))
    · exact Or.inl (Or.inr h)
    · exact Or.inr h
/-- a step, by numbers -/
def adC (a b : Int) : Prop := (b = a + 1 ∧ a % 8 ≠ 7) ∨ (b = a - 1 ∧ a % 8 ≠ 0) ∨ (b = a + 8 ∧ a / 8 % 8 ≠ 7) ∨ (b = a - 8 ∧ a / 8 % 8 ≠ 0) ∨ (b = a + 64 ∧ a / 64 ≠ 1) ∨ (b = a - 64 ∧ a / 64 ≠ 0)
theorem adj_c {a b : Int} (h : adjT a b) : adC a b := by
  obtain ⟨d, d0, d5, e, n⟩ := h
  unfold besT at e
  unfold adC
  by_cases c0 : d = 0
  · rw [if_pos c0] at e
    by_cases z : a % 8 = 7
    · rw [if_pos z] at e; omega
    · rw [if_neg z] at e; omega
  rw [if_neg c0] at e
  by_cases c1 : d = 1
  · rw [if_pos c1] at e
    by_cases z : a % 8 = 0
    · rw [if_pos z] at e; omega
    · rw [if_neg z] at e; omega
  rw [if_neg c1] at e
  by_cases c2 : d = 2
  · rw [if_pos c2] at e
    by_cases z : a / 8 % 8 = 7
    · rw [if_pos z] at e; omega
    · rw [if_neg z] at e; omega
  rw [if_neg c2] at e
  by_cases c3 : d = 3
  · rw [if_pos c3] at e
    by_cases z : a / 8 % 8 = 0
    · rw [if_pos z] at e; omega
    · rw [if_neg z] at e; omega
  rw [if_neg c3] at e
  by_cases c4 : d = 4
  · rw [if_pos c4] at e
    by_cases z : a / 64 = 1
    · rw [if_pos z] at e; omega
    · rw [if_neg z] at e; omega
  rw [if_neg c4] at e
  by_cases z : a / 64 = 0
  · rw [if_pos z] at e; omega
  · rw [if_neg z] at e; omega
theorem adj_m {a b : Int} (hb : 0 ≤ b) (h : adC a b) : adjT a b := by
  rcases h with ⟨e, z⟩ | ⟨e, z⟩ | ⟨e, z⟩ | ⟨e, z⟩ | ⟨e, z⟩ | ⟨e, z⟩
  · exact ⟨0, by decide, by decide, by unfold besT; rw [if_pos rfl, if_neg z, e], by omega⟩
  · exact ⟨1, by decide, by decide, by unfold besT; rw [if_neg (by decide), if_pos rfl, if_neg z, e], by omega⟩
  · exact ⟨2, by decide, by decide, by unfold besT; rw [if_neg (by decide), if_neg (by decide), if_pos rfl, if_neg z, e], by omega⟩
  · exact ⟨3, by decide, by decide, by unfold besT; rw [if_neg (by decide), if_neg (by decide), if_neg (by decide), if_pos rfl, if_neg z, e], by omega⟩
  · exact ⟨4, by decide, by decide, by unfold besT; rw [if_neg (by decide), if_neg (by decide), if_neg (by decide), if_neg (by decide), if_pos rfl, if_neg z, e], by omega⟩
  · exact ⟨5, by decide, by decide, by unfold besT; rw [if_neg (by decide), if_neg (by decide), if_neg (by decide), if_neg (by decide), if_neg (by decide), if_neg z, e], by omega⟩
theorem inl_l {lo hi : Int64} {i : Nat} (h : i < 64) : inL lo hi (i : Int) ↔ bJ lo i := by
  unfold inL
  constructor
  · rintro (⟨_, _, z⟩ | ⟨z, _, _⟩)
    · rwa [show ((i : Int)).toNat = i by omega] at z
    · omega
  · intro z
    exact Or.inl ⟨by omega, by omega, by rw [show ((i : Int)).toNat = i by omega]; exact z⟩
theorem inl_h {lo hi : Int64} {i : Nat} (h : i < 64) : inL lo hi (64 + (i : Int)) ↔ bJ hi i := by
  unfold inL
  constructor
  · rintro (⟨_, z, _⟩ | ⟨_, _, z⟩)
    · omega
    · rwa [show (64 + (i : Int) - 64).toNat = i by omega] at z
  · intro z
    exact Or.inr ⟨by omega, by omega, by rw [show (64 + (i : Int) - 64).toNat = i by omega]; exact z⟩
theorem inl_cel {lo hi : Int64} : celT (inL lo hi) := fun c h => by
  rcases h with ⟨a, b, _⟩ | ⟨a, b, _⟩
  · exact ⟨by omega, by omega⟩
  · exact ⟨by omega, by omega⟩
/-- a cell is one of the low ones or of the high ones -/
theorem cel_c {x : Int} (h0 : 0 ≤ x) (h1 : x ≤ 127) : (∃ i : Nat, i < 64 ∧ x = (i : Int)) ∨ ∃ i : Nat, i < 64 ∧ x = 64 + (i : Int) := by
  by_cases c : x < 64
  · exact Or.inl ⟨x.toNat, by omega, by omega⟩
  · exact Or.inr ⟨(x - 64).toNat, by omega, by omega⟩
theorem bs_lo {lo hi : Int64} {i : Nat} (h : i < 64) : bJ (bsJ lo hi) i ↔ ∃ y : Int, inL lo hi y ∧ adjT y (i : Int) := by
  rw [bs_b h]
  constructor
  · rintro (⟨q, z⟩ | ⟨q, z⟩ | ⟨q, z⟩ | ⟨q, z⟩ | z)
    · exact ⟨((i - 1 : Nat) : Int), (inl_l (by omega)).mpr z, adj_m (by omega) (by unfold adC; omega)⟩
    · exact ⟨((i + 1 : Nat) : Int), (inl_l (by omega)).mpr z, adj_m (by omega) (by unfold adC; omega)⟩
    · exact ⟨((i - 8 : Nat) : Int), (inl_l (by omega)).mpr z, adj_m (by omega) (by unfold adC; omega)⟩
    · exact ⟨((i + 8 : Nat) : Int), (inl_l (by omega)).mpr z, adj_m (by omega) (by unfold adC; omega)⟩
    · exact ⟨64 + (i : Int), (inl_h h).mpr z, adj_m (by omega) (by unfold adC; omega)⟩
  · rintro ⟨y, hy, ha⟩
    have c := adj_c ha
    have r := inl_cel y hy
    unfold adC at c
    rcases cel_c r.1 r.2 with ⟨j, hj, e⟩ | ⟨j, hj, e⟩
    · rw [e, inl_l hj] at hy
      rcases c with c | c | c | c | c | c
      · exact Or.inl ⟨by omega, by rw [show i - 1 = j by omega]; exact hy⟩
      · exact Or.inr (Or.inl ⟨by omega, by rw [show i + 1 = j by omega]; exact hy⟩)
      · exact Or.inr (Or.inr (Or.inl ⟨by omega, by rw [show i - 8 = j by omega]; exact hy⟩))
      · exact Or.inr (Or.inr (Or.inr (Or.inl ⟨by omega, by rw [show i + 8 = j by omega]; exact hy⟩)))
      · omega
      · omega
    · rw [e, inl_h hj] at hy
      rcases c with c | c | c | c | c | c
      · omega
      · omega
      · omega
      · omega
      · omega
      · exact Or.inr (Or.inr (Or.inr (Or.inr (by rw [show i = j by omega]; exact hy))))
theorem bs_hi {lo hi : Int64} {i : Nat} (h : i < 64) : bJ (bsJ hi lo) i ↔ ∃ y : Int, inL lo hi y ∧ adjT y (64 + (i : Int)) := by
  rw [bs_b h]
  constructor
  · rintro (⟨q, z⟩ | ⟨q, z⟩ | ⟨q, z⟩ | ⟨q, z⟩ | z)
    · exact ⟨64 + ((i - 1 : Nat) : Int), (inl_h (by omega)).mpr z, adj_m (by omega) (by unfold adC; omega)⟩
    · exact ⟨64 + ((i + 1 : Nat) : Int), (inl_h (by omega)).mpr z, adj_m (by omega) (by unfold adC; omega)⟩
    · exact ⟨64 + ((i - 8 : Nat) : Int), (inl_h (by omega)).mpr z, adj_m (by omega) (by unfold adC; omega)⟩
    · exact ⟨64 + ((i + 8 : Nat) : Int), (inl_h (by omega)).mpr z, adj_m (by omega) (by unfold adC; omega)⟩
    · exact ⟨(i : Int), (inl_l h).mpr z, adj_m (by omega) (by unfold adC; omega)⟩
  · rintro ⟨y, hy, ha⟩
    have c := adj_c ha
    have r := inl_cel y hy
    unfold adC at c
    rcases cel_c r.1 r.2 with ⟨j, hj, e⟩ | ⟨j, hj, e⟩
    · rw [e, inl_l hj] at hy
      rcases c with c | c | c | c | c | c
      · omega
      · omega
      · omega
      · omega
      · exact Or.inr (Or.inr (Or.inr (Or.inr (by rw [show i = j by omega]; exact hy))))
      · omega
    · rw [e, inl_h hj] at hy
      rcases c with c | c | c | c | c | c
      · exact Or.inl ⟨by omega, by rw [show i - 1 = j by omega]; exact hy⟩
      · exact Or.inr (Or.inl ⟨by omega, by rw [show i + 1 = j by omega]; exact hy⟩)
      · exact Or.inr (Or.inr (Or.inl ⟨by omega, by rw [show i - 8 = j by omega]; exact hy⟩))
      · exact Or.inr (Or.inr (Or.inr (Or.inl ⟨by omega, by rw [show i + 8 = j by omega]; exact hy⟩)))
      · omega
      · omega
/-- counting bits: more bits, a greater count -/
theorem sm_mono {f g : Nat → Int} : ∀ {n : Nat}, (∀ j, j < n → f j ≤ g j) → sm f n ≤ sm g n
  | 0, _ => Int.le_refl _
  | n + 1, h => by
    have a := sm_mono (n := n) (fun j hj => h j (by omega))
    have b := h n (by omega)
    show sm f n + f n ≤ sm g n + g n
    omega
theorem sm_ms {f g : Nat → Int} {i : Nat} : ∀ {n : Nat}, (∀ j, j < n → f j ≤ g j) → i < n → f i < g i → sm f n < sm g n
  | 0, _, hi, _ => absurd hi (Nat.not_lt_zero _)
  | n + 1, h, hi, hl => by
    show sm f n + f n < sm g n + g n
    by_cases e : i = n
    · subst e
      have a := sm_mono (n := i) (fun j hj => h j (by omega))
      omega
    · have a := sm_ms (n := n) (fun j hj => h j (by omega)) (by omega) hl
      have b := h n (by omega)
      omega
theorem bit_le {p q : Prop} (h : p → q) : i01 p ≤ i01 q := by
  by_cases c : p
  · rw [i01_t c, i01_t (h c)]; exact Int.le_refl _
  · rw [i01_f c]; exact i01_r.1
theorem bc_le {x y : Int64} (h : ∀ i, i < 64 → bJ x i → bJ y i) : bnN x ≤ bnN y := sm_mono (fun j hj => bit_le (h j hj))
theorem bc_lt {x y : Int64} (h : ∀ i, i < 64 → bJ x i → bJ y i) (hn : x ≠ y) : bnN x < bnN y := by
  have e : ∃ i, i < 64 ∧ bJ y i ∧ ¬ bJ x i := Classical.byContradiction (fun q => hn (jb_ext (fun i hi => ⟨h i hi, fun z => Classical.byContradiction (fun w => q ⟨i, hi, z, w⟩)⟩)))
  obtain ⟨i, hi, h1, h2⟩ := e
  exact sm_ms (i := i) (fun j hj => bit_le (h j hj)) hi (by rw [i01_t h1, i01_f h2]; decide)
theorem bc_pos {x : Int64} {i : Nat} (hi : i < 64) (h : bJ x i) : 1 ≤ bnN x := by
  have z := bc_lt (x := 0) (y := x) (fun j _ q => absurd q jb_z) (fun q => by rw [← q] at h; exact jb_z h)
  rw [bc_z] at z
  omega
/-- all of G reach each other within S -/
def HRT (S G : Int → Prop) : Prop := ∀ x y, G x → G y → RchT S x y
theorem hrt_c {S S' G G' : Int → Prop} (h : ∀ x, S x ↔ S' x) (g : ∀ x, G x ↔ G' x) : HRT S G ↔ HRT S' G' := by
  have e : S = S' := funext (fun x => propext (h x))
  have f : G = G' := funext (fun x => propext (g x))
  rw [e, f]
def SBQ (c d a b : Int64) : Prop := ∀ x, inL c d x → inL a b x
/-- what is not yet reached of a goal -/
theorem gl_ne {c d e f : Int64} (h : (c &&& (e ^^^ lN 18446744073709551615)) ||| (d &&& (f ^^^ lN 18446744073709551615)) ≠ 0) : ∃ x, inL c d x ∧ ¬ inL e f x := by
  obtain ⟨i, hi, b⟩ := jb_ne.mp h
  rcases jb_or.mp b with q | q
  · have z := jb_a.mp q
    rw [jb_not hi] at z
    exact ⟨(i : Int), (inl_l hi).mpr z.1, fun w => z.2 ((inl_l hi).mp w)⟩
  · have z := jb_a.mp q
    rw [jb_not hi] at z
    exact ⟨64 + (i : Int), (inl_h hi).mpr z.1, fun w => z.2 ((inl_h hi).mp w)⟩
theorem gl_z {c d e f : Int64} (h : (c &&& (e ^^^ lN 18446744073709551615)) ||| (d &&& (f ^^^ lN 18446744073709551615)) = 0) {x : Int} (hx : inL c d x) : inL e f x := by
  have r := inl_cel x hx
  refine Classical.byContradiction (fun q => ?_)
  refine absurd h (jb_ne.mpr ?_)
  rcases cel_c r.1 r.2 with ⟨i, hi, w⟩ | ⟨i, hi, w⟩
  · rw [w] at hx q
    exact ⟨i, hi, jb_or.mpr (Or.inl (jb_a.mpr ⟨(inl_l hi).mp hx, (jb_not hi).mpr (fun z => q ((inl_l hi).mpr z))⟩))⟩
  · rw [w] at hx q
    exact ⟨i, hi, jb_or.mpr (Or.inr (jb_a.mpr ⟨(inl_h hi).mp hx, (jb_not hi).mpr (fun z => q ((inl_h hi).mpr z))⟩))⟩
/-- how far the flood has come -/
def RCQ (a b c d e f : Int64) (n : Int) : Prop := ((∀ x, ¬ inL c d x) ∧ n = 0) ∨ ∃ g, inL c d g ∧ inL e f g ∧ (∀ x, inL e f x → inL a b x ∧ RchT (inL a b) g x) ∧ n + 1 ≤ bnN e + bnN f
def RCI (a b c d e f : Int64) (n : Int) : Prop := SBQ c d a b → RCQ a b c d e f n
theorem rc_0a {a b c d e : Int64} (h1 : e = c &&& -c) (hc : c ≠ 0) : RCI a b c d e 0 0 := by
  intro hs
  obtain ⟨i, hi, b1, b2⟩ := lw_bit hc
  have gi : inL c d (i : Int) := (inl_l hi).mpr b1
  have ei : bJ e i := by rw [h1]; exact (b2 i hi).mpr rfl
  refine Or.inr ⟨(i : Int), gi, (inl_l hi).mpr ei, fun x hx => ?_, ?_⟩
  · have ex : x = (i : Int) := by
      rcases hx with ⟨x0, x1, bx⟩ | ⟨x0, x1, bx⟩
      · rw [h1] at bx
        have := (b2 x.toNat (by omega)).mp bx
        omega
      · exact absurd bx jb_z
    rw [ex]
    exact ⟨hs _ gi, rch_0⟩
  · have z := bc_pos hi ei
    rw [bc_z]
    omega
theorem rc_0b {a b c d e f : Int64} (h1 : e = c &&& -c) (hc : c = 0) (h2 : f = d &&& -d) : RCI a b c d e f 0 := by
  intro hs
  have e0 : e = 0 := by rw [h1, hc]; exact jz_and
  by_cases hd : d = 0
  · refine Or.inl ⟨fun x hx => ?_, rfl⟩
    rcases hx with ⟨_, _, bx⟩ | ⟨_, _, bx⟩
    · rw [hc] at bx; exact jb_z bx
    · rw [hd] at bx; exact jb_z bx
  · obtain ⟨i, hi, b1, b2⟩ := lw_bit hd
    have gi : inL c d (64 + (i : Int)) := (inl_h hi).mpr b1
    have fi : bJ f i := by rw [h2]; exact (b2 i hi).mpr rfl
    refine Or.inr ⟨64 + (i : Int), gi, (inl_h hi).mpr fi, fun x hx => ?_, ?_⟩
    · have ex : x = 64 + (i : Int) := by
        rcases hx with ⟨x0, x1, bx⟩ | ⟨x0, x1, bx⟩
        · rw [e0] at bx; exact absurd bx jb_z
        · rw [h2] at bx
          have := (b2 (x - 64).toNat (by omega)).mp bx
          omega
      rw [ex]
      exact ⟨hs _ gi, rch_0⟩
    · have z := bc_pos hi fi
      rw [e0, bc_z]
      omega
/-- one wave of it -/
theorem wv_in {a b e f m w : Int64} {g : Int} (h : ∀ x, inL e f x → inL a b x ∧ RchT (inL a b) g x) (hm : m = (e ||| bsJ e f) &&& a) (hw : w = (f ||| bsJ f m) &&& b) {x : Int} (hx : inL m w x) : inL a b x ∧ RchT (inL a b) g x := by
  have lo : ∀ i : Nat, i < 64 → bJ m i → inL a b (i : Int) ∧ RchT (inL a b) g (i : Int) := by
    intro i hi bi
    rw [hm] at bi
    obtain ⟨b1, b2⟩ := jb_a.mp bi
    have sx : inL a b (i : Int) := (inl_l hi).mpr b2
    refine ⟨sx, ?_⟩
    rcases jb_or.mp b1 with q | q
    · exact (h _ ((inl_l hi).mpr q)).2
    · obtain ⟨y, y1, y2⟩ := (bs_lo hi).mp q
      exact rch_up (h y y1).2 y2 sx
  have r := inl_cel x hx
  rcases cel_c r.1 r.2 with ⟨i, hi, ex⟩ | ⟨i, hi, ex⟩
  · rw [ex] at hx ⊢
    exact lo i hi ((inl_l hi).mp hx)
  · rw [ex] at hx ⊢
    have bi := (inl_h hi).mp hx
    rw [hw] at bi
    obtain ⟨b1, b2⟩ := jb_a.mp bi
    have sx : inL a b (64 + (i : Int)) := (inl_h hi).mpr b2
    refine ⟨sx, ?_⟩
    rcases jb_or.mp b1 with q | q
    · exact (h _ ((inl_h hi).mpr q)).2
    · obtain ⟨y, y1, y2⟩ := (bs_hi hi).mp q
      have ry := inl_cel y y1
      rcases cel_c ry.1 ry.2 with ⟨j, hj, ey⟩ | ⟨j, hj, ey⟩
      · rw [ey] at y1 y2
        exact rch_up (lo j hj ((inl_l hj).mp y1)).2 y2 sx
      · rw [ey] at y1 y2
        exact rch_up (h _ ((inl_h hj).mpr ((inl_h hj).mp y1))).2 y2 sx
theorem wv_up {a b e f m w : Int64} (h : ∀ x, inL e f x → inL a b x) (hm : m = (e ||| bsJ e f) &&& a) (hw : w = (f ||| bsJ f m) &&& b) : (∀ i, i < 64 → bJ e i → bJ m i) ∧ ∀ i, i < 64 → bJ f i → bJ w i := by
  refine ⟨fun i hi q => ?_, fun i hi q => ?_⟩
  · rw [hm]
    exact jb_a.mpr ⟨jb_or.mpr (Or.inl q), (inl_l hi).mp (h _ ((inl_l hi).mpr q))⟩
  · rw [hw]
    exact jb_a.mpr ⟨jb_or.mpr (Or.inl q), (inl_h hi).mp (h _ ((inl_h hi).mpr q))⟩
theorem rc_up {a b c d e f m w : Int64} {n : Int} (h : RCI a b c d e f n) (hg : (c &&& (e ^^^ lN 18446744073709551615)) ||| (d &&& (f ^^^ lN 18446744073709551615)) ≠ 0) (hm : m = (e ||| bsJ e f) &&& a) (hw : w = (f ||| bsJ f m) &&& b) (hn : m ≠ e ∨ w ≠ f) : RCI a b c d m w (n + 1) := by
  intro hs
  rcases h hs with ⟨z, _⟩ | ⟨g, g1, g2, g3, g4⟩
  · obtain ⟨x, hx, _⟩ := gl_ne hg
    exact absurd hx (z x)
  · have up := wv_up (fun x hx => (g3 x hx).1) hm hw
    refine Or.inr ⟨g, g1, ?_, fun x hx => wv_in g3 hm hw hx, ?_⟩
    · have r := inl_cel g g2
      rcases cel_c r.1 r.2 with ⟨i, hi, ex⟩ | ⟨i, hi, ex⟩
      · rw [ex] at g2 ⊢
        exact (inl_l hi).mpr (up.1 i hi ((inl_l hi).mp g2))
      · rw [ex] at g2 ⊢
        exact (inl_h hi).mpr (up.2 i hi ((inl_h hi).mp g2))
    · have l1 := bc_le up.1
      have l2 := bc_le up.2
      rcases hn with q | q
      · have l3 := bc_lt up.1 (fun z => q z.symm)
        omega
      · have l3 := bc_lt up.2 (fun z => q z.symm)
        omega
/-- what is answered -/
def RCP (a b c d : Int64) (v : Int) : Prop := SBQ c d a b → (v = 1 ∧ HRT (inL a b) (inL c d)) ∨ (v = 0 ∧ ¬ HRT (inL a b) (inL c d))
theorem rc_yes {a b c d e f : Int64} {n : Int} (h : RCI a b c d e f n) (hg : (c &&& (e ^^^ lN 18446744073709551615)) ||| (d &&& (f ^^^ lN 18446744073709551615)) = 0) : RCP a b c d 1 := by
  intro hs
  refine Or.inl ⟨rfl, fun x y hx hy => ?_⟩
  rcases h hs with ⟨z, _⟩ | ⟨g, g1, g2, g3, g4⟩
  · exact absurd hx (z x)
  · have rx := (g3 x (gl_z hg hx)).2
    have ry := (g3 y (gl_z hg hy)).2
    exact rch_ts (rch_sym inl_cel rx (hs g g1)) ry
theorem rc_no {a b c d e f m w : Int64} {n : Int} (h : RCI a b c d e f n) (hg : (c &&& (e ^^^ lN 18446744073709551615)) ||| (d &&& (f ^^^ lN 18446744073709551615)) ≠ 0) (hm : m = (e ||| bsJ e f) &&& a) (hw : w = (f ||| bsJ f m) &&& b) (h1 : m = e) (h2 : w = f) : RCP a b c d 0 := by
  intro hs
  refine Or.inr ⟨rfl, fun q => ?_⟩
  obtain ⟨y, hy, hn⟩ := gl_ne hg
  rcases h hs with ⟨z, _⟩ | ⟨g, g1, g2, g3, g4⟩
  · exact absurd hy (z y)
  · refine hn (rch_cl (R := inL e f) g2 (fun x z hx hxz hz => ?_) (q g y g1 hy))
    have r := inl_cel z hz
    rcases cel_c r.1 r.2 with ⟨i, hi, ex⟩ | ⟨i, hi, ex⟩
    · rw [ex] at hz hxz ⊢
      refine (inl_l hi).mpr ?_
      rw [← h1, hm]
      exact jb_a.mpr ⟨jb_or.mpr (Or.inr ((bs_lo hi).mpr ⟨x, hx, hxz⟩)), (inl_l hi).mp hz⟩
    · rw [ex] at hz hxz ⊢
      refine (inl_h hi).mpr ?_
      rw [← h2, hw]
      rw [← h1] at hx
      exact jb_a.mpr ⟨jb_or.mpr (Or.inr ((bs_hi hi).mpr ⟨x, hx, hxz⟩)), (inl_h hi).mp hz⟩
theorem rc_out {a b c d e f : Int64} {n : Int} (h : RCI a b c d e f n) (hn : n = 128) : RCP a b c d 0 := by
  intro hs
  have r1 := bnN_r e
  have r2 := bnN_r f
  rcases h hs with ⟨_, z⟩ | ⟨g, g1, g2, g3, g4⟩
  · omega
  · omega
/-- whether a set hangs together -/
def HGE (S : Int → Prop) (v : Int) : Prop := (v = 1 ∧ HngT S) ∨ (v = 0 ∧ ¬ HngT S)
theorem hge_of {a b : Int64} {v : Int} (h : RCP a b a b v) : HGE (inL a b) v := h (fun _ q => q)
/-- without a cell -/
def HWE (S : Int → Prop) (c v : Int) : Prop := (v = 1 ∧ HRT (fun x => S x ∧ x ≠ c) (fun x => (S x ∧ x ≠ c) ∧ adjT c x)) ∨ (v = 0 ∧ ¬ HRT (fun x => S x ∧ x ≠ c) (fun x => (S x ∧ x ≠ c) ∧ adjT c x))
theorem hw_iff {S : Int → Prop} {c : Int} (hS : celT S) (h : HngT S) (hc : S c) : HRT (fun x => S x ∧ x ≠ c) (fun x => (S x ∧ x ≠ c) ∧ adjT c x) ↔ HngT (fun x => S x ∧ x ≠ c) := by
  constructor
  · intro q
    by_cases z : ∃ n, (S n ∧ n ≠ c) ∧ adjT c n
    · obtain ⟨n, n1, n2⟩ := z
      exact hng_but hS h hc n1 n2 (fun b b1 b2 b3 => q n b ⟨n1, n2⟩ ⟨⟨b2, b3⟩, b1⟩)
    · intro f x hf hx
      exact absurd (hng_one h hc (fun b b1 b2 => Classical.byContradiction (fun w => z ⟨b, ⟨b2, w⟩, b1⟩)) hx.1) hx.2
  · intro q x y hx hy
    exact q x y hx.1 hy.1
theorem one_l {y : Int} (h : 0 ≤ y ∧ y < 64) (x : Int) : inL (jshl 1 y) 0 x ↔ x = y := by
  constructor
  · rintro (⟨a, b, z⟩ | ⟨_, _, z⟩)
    · have := (jb_1 h (by omega)).mp z
      omega
    · exact absurd z jb_z
  · intro e
    exact Or.inl ⟨by omega, by omega, (jb_1 h (by omega)).mpr (by rw [e])⟩
theorem one_h {y : Int} (h : 64 ≤ y ∧ y ≤ 127) (x : Int) : inL 0 (jshl 1 (y % 64)) x ↔ x = y := by
  constructor
  · rintro (⟨_, _, z⟩ | ⟨a, b, z⟩)
    · exact absurd z jb_z
    · have := (jb_1 (show 0 ≤ y % 64 ∧ y % 64 < 64 by omega) (by omega)).mp z
      omega
  · intro e
    exact Or.inr ⟨by omega, by omega, (jb_1 (show 0 ≤ y % 64 ∧ y % 64 < 64 by omega) (by omega)).mpr (by rw [e]; omega)⟩
theorem rs_in {lo hi p q : Int64} {y : Int} (h : ∀ x, inL p q x ↔ x = y) (x : Int) : inL (lo &&& (p ^^^ lN 18446744073709551615)) (hi &&& (q ^^^ lN 18446744073709551615)) x ↔ inL lo hi x ∧ x ≠ y := by
  rw [Ne, ← h x]
  by_cases r : 0 ≤ x ∧ x ≤ 127
  · rcases cel_c r.1 r.2 with ⟨i, hi', e⟩ | ⟨i, hi', e⟩
    · rw [e, inl_l hi', inl_l hi', inl_l hi', jb_a, jb_not hi']
    · rw [e, inl_h hi', inl_h hi', inl_h hi', jb_a, jb_not hi']
  · exact ⟨fun z => absurd (inl_cel x z) r, fun z => absurd (inl_cel x z.1) r⟩
theorem gs_in {a b p q e1 e2 : Int64} {y : Int} (h : ∀ x, inL p q x ↔ x = y) (h1 : e1 = bsJ p q) (h2 : e2 = bsJ q p) (x : Int) : inL (e1 &&& a) (e2 &&& b) x ↔ inL a b x ∧ adjT y x := by
  by_cases r : 0 ≤ x ∧ x ≤ 127
  · have w : ∀ z : Int, (∃ y' : Int, inL p q y' ∧ adjT y' z) ↔ adjT y z := fun z => ⟨fun ⟨y', a1, a2⟩ => by rw [(h y').mp a1] at a2; exact a2, fun a1 => ⟨y, (h y).mpr rfl, a1⟩⟩
    rcases cel_c r.1 r.2 with ⟨i, hi', e⟩ | ⟨i, hi', e⟩
    · rw [e, inl_l hi', inl_l hi', jb_a, h1, bs_lo hi', w]; exact And.comm
    · rw [e, inl_h hi', inl_h hi', jb_a, h2, bs_hi hi', w]; exact And.comm
  · exact ⟨fun z => absurd (inl_cel x z) r, fun z => absurd (inl_cel x z.1) r⟩
theorem hwe_of {lo hi p q e1 e2 : Int64} {y v : Int} (h : ∀ x, inL p q x ↔ x = y) (h1 : e1 = bsJ p q) (h2 : e2 = bsJ q p) (r : RCP (lo &&& (p ^^^ lN 18446744073709551615)) (hi &&& (q ^^^ lN 18446744073709551615)) (e1 &&& (lo &&& (p ^^^ lN 18446744073709551615))) (e2 &&& (hi &&& (q ^^^ lN 18446744073709551615))) v) : HWE (inL lo hi) y v := by
  have g := gs_in (a := lo &&& (p ^^^ lN 18446744073709551615)) (b := hi &&& (q ^^^ lN 18446744073709551615)) h h1 h2
  have w := r (fun x hx => ((g x).mp hx).1)
  have z := hrt_c (rs_in (lo := lo) (hi := hi) h) (fun x => (g x).trans (by rw [rs_in h x]))
  unfold HWE
  rw [← z]
  exact w
/-! The model's flood -/
def inS (s : PS) (x : Int) : Prop := (0 ≤ x ∧ x ≤ 127) ∧ iC s 230 x.toNat ≠ 0
theorem ins_cel {s : PS} : celT (inS s) := fun _ h => h.1
theorem ins_nat {s : PS} {j : Nat} (hj : j < 128) : inS s (j : Int) ↔ iC s 230 j ≠ 0 := by
  unfold inS
  rw [show ((j : Int)).toNat = j by omega]
  exact ⟨fun q => q.2, fun q => ⟨by omega, q⟩⟩
def HG1 (s : PS) (al fi c : Int) (t : PS) : Prop := (∀ j : Nat, j < 128 → c < (j : Int) → iC t 231 j = 0) ∧ al = sm (fun j => if c < (j : Int) then iC s 230 j else 0) 128 ∧ ((fi = -1 ∧ ∀ j : Nat, j < 128 → c < (j : Int) → iC s 230 j = 0) ∨ inS s fi)
theorem hg1_0 {s t : PS} : HG1 s 0 (-1) 127 t := ⟨fun j hj h => by omega, (sm_0 (fun j hj => if_neg (by omega))).symm, Or.inl ⟨rfl, fun j hj h => by omega⟩⟩
theorem hg1_up {s t u : PS} {al fi c v fi' : Int} (h : HG1 s al fi c t) (hc : 0 ≤ c ∧ c ≤ 127) (hu : u = uC t 231 c.toNat (Int32.ofInt 0)) (hb : iC s 230 c.toNat = 0 ∨ iC s 230 c.toNat = 1) (hv : (iC s 230 c.toNat = 0 ∧ v = 0 ∧ fi' = fi) ∨ (iC s 230 c.toNat ≠ 0 ∧ v = 1 ∧ fi' = c)) : HG1 s (al + v) fi' (c + (-1)) u := by
  obtain ⟨h1, h2, h3⟩ := h
  refine ⟨fun j hj hl => ?_, ?_, ?_⟩
  · rw [hu]
    by_cases e : j = c.toNat
    · rw [e]; exact iC_u rng_0
    · rw [iC_n e]; exact h1 j hj (by omega)
  · have z := sm_up (f := fun j : Nat => if c < (j : Int) then iC s 230 j else 0) (g := fun j : Nat => if c + (-1) < (j : Int) then iC s 230 j else 0) (i := c.toNat) (n := 128) (fun j hj => by
      by_cases e : c < (j : Int)
      · rw [if_pos e, if_pos (by omega)]
      · rw [if_neg e, if_neg (by omega)]) (by omega)
    rw [z, ← h2]
    rw [if_neg (by omega), if_pos (by omega)]
    omega
  · rcases hv with ⟨a, b, d⟩ | ⟨a, b, d⟩
    · rw [d]
      rcases h3 with ⟨q1, q2⟩ | q
      · refine Or.inl ⟨q1, fun j hj hl => ?_⟩
        by_cases e : j = c.toNat
        · rw [e]; exact a
        · exact q2 j hj (by omega)
      · exact Or.inr q
    · rw [d]; exact Or.inr ⟨by omega, a⟩
theorem hg1_no {s t : PS} {al fi c : Int} (h : HG1 s al fi c t) (hc : c < 0) (hf : fi = -1) : HGE (inS s) 1 := by
  refine Or.inl ⟨rfl, fun f x hf' _ => ?_⟩
  rcases h.2.2 with ⟨_, q⟩ | q
  · have z := hf'.1
    have w := q f.toNat (by omega) (by omega)
    exact absurd w hf'.2
  · have z := q.1
    omega
/-- how far the model's flood has come: n cells met, k of them done, d steps of the next -/
def HGQ (s : PS) (al fi n k d : Int) (t : PS) : Prop := al = sm (fun j => iC s 230 j) 128 ∧ inS s fi ∧ (∀ j : Nat, j < 128 → iC t 231 j = 0 ∨ (iC t 231 j = 1 ∧ inS s (j : Int) ∧ RchT (inS s) fi (j : Int) ∧ ∃ i : Nat, (i : Int) < n ∧ iC t 232 i = (j : Int))) ∧ iC t 231 fi.toNat = 1 ∧ (∀ i : Nat, (i : Int) < n → (0 ≤ iC t 232 i ∧ iC t 232 i ≤ 127) ∧ iC t 231 (iC t 232 i).toNat = 1) ∧ (∀ i : Nat, (i : Int) < k → ∀ b, adjT (iC t 232 i) b → inS s b → iC t 231 b.toNat = 1) ∧ ∀ e : Int, 0 ≤ e → e < d → ∀ b, besT (iC t 232 k.toNat) e = b → b ≠ -1 → inS s b → iC t 231 b.toNat = 1
theorem hgq_0 {s t u v : PS} {al fi c : Int} (h : HG1 s al fi c t) (hc : c = -1) (hf : fi ≠ -1) (hu : u = uC t 232 (0 : Int).toNat (Int32.ofInt fi)) (hv : v = uC u 231 fi.toNat (Int32.ofInt 1)) : HGQ s al fi 1 0 0 v := by
  obtain ⟨h1, h2, h3⟩ := h
  have fs : inS s fi := h3.elim (fun q => absurd q.1 hf) id
  have fr := fs.1
  replace hu : u = uC t 232 0 (Int32.ofInt fi) := hu
  have m1 : iC v 231 fi.toNat = 1 := eqC hv (iC_u ⟨by omega, by omega⟩)
  have m2 : ∀ j, j ≠ fi.toNat → j < 128 → iC v 231 j = 0 := fun j hj hl => by
    rw [hv, iC_n hj, hu, iC_a (by decide)]; exact h1 j hl (by omega)
  have p0 : iC v 232 0 = fi := by rw [hv, iC_a (by decide), hu]; exact iC_u ⟨by omega, by omega⟩
  refine ⟨?_, fs, fun j hj => ?_, m1, fun i hi => ?_, fun i hi => by omega, fun e e0 e1 => by omega⟩
  · rw [h2]
    exact sm_eq (fun j hj => by rw [if_pos (by omega)])
  · by_cases e : j = fi.toNat
    · right
      rw [e, show ((fi.toNat : Nat) : Int) = fi by omega]
      exact ⟨m1, fs, rch_0, 0, by decide, p0⟩
    · exact Or.inl (m2 j e hj)
  · have e : i = 0 := by omega
    rw [e, p0]
    exact ⟨fr, m1⟩
theorem hgq_n {s t : PS} {al fi n k d b : Int} (h : HGQ s al fi n k d t) (hb : b = besT (iC t 232 k.toNat) d) (hn : b = -1 ∨ iC s 230 b.toNat = 0 ∨ iC t 231 b.toNat ≠ 0) : HGQ s al fi n k (d + 1) t := by
  obtain ⟨h0, h1, h2, h3, h4, h5, h6⟩ := h
  refine ⟨h0, h1, h2, h3, h4, h5, fun e e0 e1 b' hb' hn' hs' => ?_⟩
  by_cases q : e = d
  · rw [q, ← hb] at hb'
    subst hb'
    rcases hn with z | z | z
    · exact absurd z hn'
    · exact absurd z hs'.2
    · have r := hs'.1
      rcases h2 b.toNat (by omega) with w | w
      · exact absurd w z
      · exact w.1
  · exact h6 e e0 (by omega) b' hb' hn' hs'
theorem hgq_y {s t u v : PS} {al fi n k d b : Int} (h : HGQ s al fi n k d t) (hk : 0 ≤ k ∧ k < n) (hn : n ≤ 127) (hd : 0 ≤ d ∧ d ≤ 5) (hb : b = besT (iC t 232 k.toNat) d) (b0 : b ≠ -1) (hs : iC s 230 b.toNat ≠ 0) (hm : iC t 231 b.toNat = 0) (hu : u = uC t 231 b.toNat (Int32.ofInt 1)) (hv : v = uC u 232 n.toNat (Int32.ofInt b)) : HGQ s al fi (n + 1) k (d + 1) v := by
  obtain ⟨h0, h1, h2, h3, h4, h5, h6⟩ := h
  have kk := h4 k.toNat (by omega)
  have ad : adjT (iC t 232 k.toNat) b := ⟨d, hd.1, hd.2, hb.symm, b0⟩
  have rb := adj_rng ad kk.1.1 kk.1.2
  have sb : inS s b := ⟨rb, hs⟩
  have p1 : iC v 232 n.toNat = b := eqC hv (iC_u ⟨by omega, by omega⟩)
  have p2 : ∀ i, i ≠ n.toNat → iC v 232 i = iC t 232 i := fun i hi => by rw [hv, iC_n hi, hu, iC_a (by decide)]
  have m1 : iC v 231 b.toNat = 1 := by rw [hv, iC_a (by decide), hu]; exact iC_u ⟨by omega, by omega⟩
  have m2 : ∀ j, j ≠ b.toNat → iC v 231 j = iC t 231 j := fun j hj => by rw [hv, iC_a (by decide), hu]; exact iC_n hj
  have m3 : ∀ j, iC t 231 j = 1 → iC v 231 j = 1 := fun j hj => by
    by_cases e : j = b.toNat
    · rw [e]; exact m1
    · rw [m2 j e]; exact hj
  have rk : RchT (inS s) fi (iC t 232 k.toNat) := by
    rcases h2 (iC t 232 k.toNat).toNat (by omega) with w | w
    · rw [w] at kk; exact absurd kk.2 (by decide)
    · have z := w.2.2.1
      rw [show (((iC t 232 k.toNat).toNat : Nat) : Int) = iC t 232 k.toNat by omega] at z
      exact z
  refine ⟨h0, h1, fun j hj => ?_, m3 _ h3, fun i hi => ?_, fun i hi b' ha hs' => ?_, fun e e0 e1 b' hb' hn' hs' => ?_⟩
  · by_cases e : j = b.toNat
    · right
      rw [e, show ((b.toNat : Nat) : Int) = b by omega]
      exact ⟨m1, sb, rch_up rk ad sb, n.toNat, by omega, p1⟩
    · rw [m2 j e]
      rcases h2 j hj with w | ⟨w1, w2, w3, i, w4, w5⟩
      · exact Or.inl w
      · exact Or.inr ⟨w1, w2, w3, i, by omega, by rw [p2 i (by omega)]; exact w5⟩
  · by_cases e : i = n.toNat
    · rw [e, p1]; exact ⟨rb, m1⟩
    · rw [p2 i e]
      have w := h4 i (by omega)
      exact ⟨w.1, m3 _ w.2⟩
  · rw [p2 i (by omega)] at ha
    exact m3 _ (h5 i hi b' ha hs')
  · rw [p2 k.toNat (by omega)] at hb'
    by_cases q : e = d
    · rw [q, ← hb] at hb'
      rw [← hb']; exact m1
    · exact m3 _ (h6 e e0 (by omega) b' hb' hn' hs')
theorem hgq_k {s t : PS} {al fi n k d : Int} (h : HGQ s al fi n k d t) (hk : 0 ≤ k) (hd : d = 6) : HGQ s al fi n (k + 1) 0 t := by
  obtain ⟨h0, h1, h2, h3, h4, h5, h6⟩ := h
  refine ⟨h0, h1, h2, h3, h4, fun i hi b ha hs => ?_, fun e e0 e1 => by omega⟩
  by_cases q : i = k.toNat
  · rw [q] at ha
    obtain ⟨e, e0, e5, e6, e7⟩ := ha
    exact h6 e e0 (by omega) b e6 e7 hs
  · exact h5 i (by omega) b ha hs
theorem hg_cl {s t : PS} {al fi n k d : Int} (h : HGQ s al fi n k d t) (hk : n ≤ k) {x : Int} (hx : RchT (inS s) fi x) : iC t 231 x.toNat = 1 := by
  obtain ⟨h0, h1, h2, h3, h4, h5, h6⟩ := h
  refine (rch_cl (R := fun y => inS s y ∧ iC t 231 y.toNat = 1) ⟨h1, h3⟩ (fun a b ha hab hb => ⟨hb, ?_⟩) hx).2
  have r := ha.1.1
  rcases h2 a.toNat (by omega) with w | ⟨w1, w2, w3, i, w4, w5⟩
  · rw [w] at ha; exact absurd ha.2 (by decide)
  · refine h5 i (by omega) b ?_ hb
    rw [w5, show ((a.toNat : Nat) : Int) = a by omega]
    exact hab
theorem hg_end {s t : PS} {al fi n k d v : Int} (h : HGQ s al fi n k d t) (hk : n ≤ k) (hn : smM t = n) (hb : ∀ j, j < 128 → iC s 230 j = 0 ∨ iC s 230 j = 1) (hv : (n = al ∧ v = 1) ∨ (n ≠ al ∧ v = 0)) : HGE (inS s) v := by
  have cl := fun {x : Int} (hx : RchT (inS s) fi x) => hg_cl h hk hx
  obtain ⟨h0, h1, h2, h3, h4, h5, h6⟩ := h
  have le : ∀ j, j < 128 → iC t 231 j ≤ iC s 230 j := fun j hj => by
    rcases h2 j hj with w | ⟨w1, w2, _⟩
    · rw [w]; rcases hb j hj with z | z <;> rw [z] <;> decide
    · have z := (ins_nat hj).mp w2
      rcases hb j hj with y | y
      · exact absurd y z
      · rw [w1, y]; exact Int.le_refl _
  by_cases q : ∀ j, j < 128 → iC s 230 j ≠ 0 → iC t 231 j = 1
  · have e : n = al := by
      rw [← hn, h0]
      refine sm_eq (fun j hj => ?_)
      rcases hb j hj with y | y
      · have := le j hj
        rcases h2 j hj with w | w
        · rw [w, y]
        · rw [w.1, y] at this; exact absurd this (by decide)
      · rw [q j hj (by rw [y]; decide), y]
    rcases hv with ⟨_, w⟩ | ⟨z, _⟩
    · refine Or.inl ⟨w, hng_of ins_cel h1 (fun c hc => ?_)⟩
      have r := hc.1
      rcases h2 c.toNat (by omega) with z | z
      · rw [q c.toNat (by omega) hc.2] at z; exact absurd z (by decide)
      · have y := z.2.2.1
        rw [show ((c.toNat : Nat) : Int) = c by omega] at y
        exact y
    · exact absurd e z
  · have ex : ∃ j, j < 128 ∧ iC s 230 j ≠ 0 ∧ iC t 231 j ≠ 1 := Classical.byContradiction (fun z => q (fun j hj hs => Classical.byContradiction (fun w => z ⟨j, hj, hs, w⟩)))
    obtain ⟨j, hj, s1, s2⟩ := ex
    have lt : n < al := by
      rw [← hn, h0]
      refine sm_ms (i := j) le hj ?_
      rcases h2 j hj with w | w
      · rw [w]; rcases hb j hj with z | z
        · exact absurd z s1
        · rw [z]; decide
      · exact absurd w.1 s2
    rcases hv with ⟨z, _⟩ | ⟨_, w⟩
    · omega
    · refine Or.inr ⟨w, fun hh => ?_⟩
      have y := cl (hh fi (j : Int) h1 ((ins_nat hj).mpr s1))
      rw [show ((j : Int)).toNat = j by omega] at y
      exact s2 y
theorem rcp_c {a b c d a' b' c' d' : Int64} {v : Int} (h : RCP a b c d v) (h1 : a = a') (h2 : b = b') (h3 : c = c') (h4 : d = d') : RCP a' b' c' d' v := by subst h1 h2 h3 h4; exact h
section M87s
variable {l : Launch} {s0 : State} {D : va_G} {tys : List (ClassId × FieldType)} {a0 : Array Value} {A : Nat → Nat} {dT : Nat → ClassId} {s : PS}
set_option maxRecDepth 4000 in
theorem j_lowL3 (G : GX l s0 D tys a0 dT) (I : Bd s) {jj : Int64}  : CT l s0 D A dT 297 (rmN 297) [.long jj] s (fun o t => Bd t ∧ Fm [] [] s t ∧ ∃ e : Int64, o = .inl (some (.long e)) ∧ (e = jj &&& -jj)) := by
  refine ct_ofX G (by decide) (Nat.le_of_ble_eq_true rfl) (fun k X E ET hRt hXt q => ?_)
  show WS k 0 [(0, .long jj)] [] _ 0 0
  have F : Fm [] [] s s := fm_rf _ _ s
  exact w_lload_n X.1 (ax_d X (show cdA 297 0 = some (.lload_n 0, 1, 0, 0, 0) from rfl)) (x := jj) (List.Mem.head _) (w_lload_n X.1 (ax_d X (show cdA 297 1 = some (.lload_n 0, 1, 0, 0, 0) from rfl)) (x := jj) (List.Mem.head _) (w_lneg X.1 (ax_d X (show cdA 297 2 = some (.lneg, 1, 0, 0, 0) from rfl)) (w_land X.1 (ax_d X (show cdA 297 3 = some (.land, 1, 0, 0, 0) from rfl)) (w_lret X.1 q hRt (ax_d X (show cdA 297 4 = some (.lreturn, 1, 0, 0, 0) from rfl)) (Nat.zero_le _) (Nat.zero_le _) ⟨_, rfl, I, F, (jj &&& (-jj)), rfl, rfl⟩))))
set_option maxRecDepth 4000 in
theorem c3_beside3 (G : GX l s0 D tys a0 dT) (I : Bd s) {aj bj : Int64}  : CT l s0 D A dT 33 (rmN 33) [.long aj, .long bj] s (fun o t => Bd t ∧ Fm [] [] s t ∧ ∃ e : Int64, o = .inl (some (.long e)) ∧ (e = bsJ aj bj)) := by
  refine ct_ofX G (by decide) (Nat.le_of_ble_eq_true rfl) (fun k X E ET hRt hXt q => ?_)
  show WS k 0 [(0, .long aj), (2, .long bj)] [] _ 0 0
  have F : Fm [] [] s s := fm_rf _ _ s
  refine w_lload_n X.1 (ax_d X (show cdA 33 0 = some (.lload_n 0, 1, 0, 0, 0) from rfl)) (x := aj) (List.Mem.head _) (z_const X rfl (z_jshl X rfl (z_ldc2E X rfl (w_land X.1 (ax_d X (show cdA 33 6 = some (.land, 1, 0, 0, 0) from rfl)) (w_lload_n X.1 (ax_d X (show cdA 33 7 = some (.lload_n 0, 1, 0, 0, 0) from rfl)) (x := aj) (List.Mem.head _) (z_const X rfl (z_jushr X rfl (z_ldc2E X rfl (w_land X.1 (ax_d X (show cdA 33 13 = some (.land, 1, 0, 0, 0) from rfl)) (w_lor X.1 (ax_d X (show cdA 33 14 = some (.lor, 1, 0, 0, 0) from rfl)) (w_lload_n X.1 (ax_d X (show cdA 33 15 = some (.lload_n 0, 1, 0, 0, 0) from rfl)) (x := aj) (List.Mem.head _) ?_)))))))))))
  exact z_bipush X rfl (z_jshl X rfl (w_lor X.1 (ax_d X (show cdA 33 19 = some (.lor, 1, 0, 0, 0) from rfl)) (w_lload_n X.1 (ax_d X (show cdA 33 20 = some (.lload_n 0, 1, 0, 0, 0) from rfl)) (x := aj) (List.Mem.head _) (z_bipush X rfl (z_jushr X rfl (w_lor X.1 (ax_d X (show cdA 33 24 = some (.lor, 1, 0, 0, 0) from rfl)) (w_lload_n X.1 (ax_d X (show cdA 33 25 = some (.lload_n 2, 1, 0, 0, 0) from rfl)) (x := bj) (List.Mem.tail _ (List.Mem.head _)) (w_lor X.1 (ax_d X (show cdA 33 26 = some (.lor, 1, 0, 0, 0) from rfl)) (w_lret X.1 q hRt (ax_d X (show cdA 33 27 = some (.lreturn, 1, 0, 0, 0) from rfl)) (Nat.zero_le _) (Nat.zero_le _) ⟨_, rfl, I, F, ((((((jshl aj 1) &&& (lN 18374403900871474942)) ||| ((jushr aj 1) &&& (lN 9187201950435737471))) ||| (jshl aj 8)) ||| (jushr aj 8)) ||| bj), rfl, rfl⟩)))))))))
set_option maxRecDepth 4000 in
theorem c3_reaches3 (G : GX l s0 D tys a0 dT) (I : Bd s) {aj bj cj dj : Int64}  : CT l s0 D A dT 35 (rmN 35) [.long aj, .long bj, .long cj, .long dj] s (fun o t => Bd t ∧ Fm [] [] s t ∧ ∃ e, o = .inl (some (.int (Int32.ofInt e))) ∧ rng e ∧ ((e = 0 ∨ e = 1) ∧ RCP aj bj cj dj e)) := by
  refine ct_ofX G (by decide) (Nat.le_of_ble_eq_true rfl) (fun k X E ET hRt hXt q => ?_)
  show WS k 0 [(0, .long aj), (2, .long bj), (4, .long cj), (6, .long dj)] [] _ 0 0
  have F : Fm [] [] s s := fm_rf _ _ s
  have L28 : ∀ (n : Nat) (t : PS) (av : Int64) (bv : Int64) (cv : Int64) (dv : Int64) (ev : Int64) (fv : Int64) (c : Int), Bd t → Fm [] [] s t → (av = aj ∧ bv = bj ∧ cv = cj ∧ dv = dj ∧ RCI av bv cv dv ev fv c) → (0 ≤ c ∧ c ≤ 128) → (128 - c : Int).toNat < n → (∀ (t' : PS) (ev' : Int64) (fv' : Int64) (c' : Int), Bd t' → Fm [] [] s t' → (av = aj ∧ bv = bj ∧ cv = cj ∧ dv = dj ∧ RCI av bv cv dv ev' fv' c') → (c' = 128) → WS k 122 [(0, .long av), (2, .long bv), (4, .long cv), (6, .long dv), (8, .long ev'), (10, .long fv'), (12, .int (Int32.ofInt c'))] [] (Wd A dT t') 0 0) → WS k 28 [(0, .long av), (2, .long bv), (4, .long cv), (6, .long dv), (8, .long ev), (10, .long fv), (12, .int (Int32.ofInt c))] [] (Wd A dT t) 0 0 := by
    intro n
    induction n with
    | zero =>
      intro t av bv cv dv ev fv c I F hq hi hm kx
      exact absurd hm (Nat.not_lt_zero _)
    | succ n ih =>
      intro t av bv cv dv ev fv c I F hq hi hm kx
      refine z_load X (x := c) rfl (List.Mem.tail _ (List.Mem.tail _ (List.Mem.tail _ (List.Mem.tail _ (List.Mem.tail _ (List.Mem.tail _ (List.Mem.head _))))))) (z_sipush X rfl (z_icmp_ge X (t := 122) rfl rfl ⟨by first | exact oq_fa4e5087 hi.1 | omega, by first | exact oq_4ee82282 hi.2 | omega⟩ (by decide) (fun g1001 => ?_) (fun g1001 => ?_)))
      ·
        refine WS_pq [0, 1, 2, 3, 4, 5, 6] (lv' := [(0, .long av), (2, .long bv), (4, .long cv), (6, .long dv), (8, .long ev), (10, .long fv), (12, .int (Int32.ofInt c))]) rfl ?_
        exact kx _ ev fv c I F hq (by first | exact oq_42fe298a hi.2 g1001 | omega)
      ·
        refine w_lload X.1 (ax_d X (show cdA 35 36 = some (.lload 4, 2, 0, 0, 0) from rfl)) (x := cv) (List.Mem.tail _ (List.Mem.tail _ (List.Mem.head _))) (w_lload X.1 (ax_d X (show cdA 35 38 = some (.lload 8, 2, 0, 0, 0) from rfl)) (x := ev) (List.Mem.tail _ (List.Mem.tail _ (List.Mem.tail _ (List.Mem.tail _ (List.Mem.head _))))) (z_ldc2E X rfl (w_lxor X.1 (ax_d X (show cdA 35 43 = some (.lxor, 1, 0, 0, 0) from rfl)) (w_land X.1 (ax_d X (show cdA 35 44 = some (.land, 1, 0, 0, 0) from rfl)) (w_lload X.1 (ax_d X (show cdA 35 45 = some (.lload 6, 2, 0, 0, 0) from rfl)) (x := dv) (List.Mem.tail _ (List.Mem.tail _ (List.Mem.tail _ (List.Mem.head _)))) (w_lload X.1 (ax_d X (show cdA 35 47 = some (.lload 10, 2, 0, 0, 0) from rfl)) (x := fv) (List.Mem.tail _ (List.Mem.tail _ (List.Mem.tail _ (List.Mem.tail _ (List.Mem.tail _ (List.Mem.head _)))))) (z_ldc2E X rfl (w_lxor X.1 (ax_d X (show cdA 35 52 = some (.lxor, 1, 0, 0, 0) from rfl)) (w_land X.1 (ax_d X (show cdA 35 53 = some (.land, 1, 0, 0, 0) from rfl)) (w_lor X.1 (ax_d X (show cdA 35 54 = some (.lor, 1, 0, 0, 0) from rfl)) (w_lconst X.1 (ax_d X (show cdA 35 55 = some (.lconst 0, 1, 0, 0, 0) from rfl)) (z := (0 : Int64)) (by decide) ?_)))))))))))
        refine z_jcmp X rfl (fun z1002 => ?_) (fun z1002 c1003 hc1003 ic1003 => ?_)
        ·
          refine z_if_ne X (t := 62) rfl rfl (by decide) (fun g1004 => ?_) (fun g1004 => ?_)
          ·
            exfalso
            omega
          ·
            refine z_const X rfl ?_
            exact w_iret X.1 q hRt (nar_ret (by first | exact Or.inr (by decide) | omega)) (ax_d X (show cdA 35 61 = some (.ireturn, 1, 0, 0, 0) from rfl)) (Nat.zero_le _) (Nat.zero_le _) ⟨_, rfl, I, F, 1, rfl, (by decide), ⟨Or.inr rfl, rcp_c (rc_yes hq.2.2.2.2 z1002) hq.1 hq.2.1 hq.2.2.1 hq.2.2.2.1⟩⟩
        ·
          refine z_if_ne X (t := 62) rfl rfl ⟨by omega, by omega⟩ (fun g1005 => ?_) (fun g1005 => ?_)
          ·
            refine w_lload X.1 (ax_d X (show cdA 35 62 = some (.lload 8, 2, 0, 0, 0) from rfl)) (x := ev) (List.Mem.tail _ (List.Mem.tail _ (List.Mem.tail _ (List.Mem.tail _ (List.Mem.head _))))) (w_lload X.1 (ax_d X (show cdA 35 64 = some (.lload 8, 2, 0, 0, 0) from rfl)) (x := ev) (List.Mem.tail _ (List.Mem.tail _ (List.Mem.tail _ (List.Mem.tail _ (List.Mem.head _))))) (w_lload X.1 (ax_d X (show cdA 35 66 = some (.lload 10, 2, 0, 0, 0) from rfl)) (x := fv) (List.Mem.tail _ (List.Mem.tail _ (List.Mem.tail _ (List.Mem.tail _ (List.Mem.tail _ (List.Mem.head _)))))) (z_callS X (rm := rmN 33) (As := [.long ev, .long fv]) (st := [.long ev]) rfl rfl (by rw [E.1, E.2.1, E.2.2.1]; exact c3_beside3 G I ) ⟨by rw [E.2.2.2]; exact (show (rmN 33).frames + 1 ≤ (rmN 35).frames by decide), by rw [E.2.2.2]; exact (show 8 + (mNL (miB 33) + 11) + (rmN 33).locals ≤ (rmN 35).locals by decide), by rw [E.2.2.2]; exact (show 0 + (rmN 33).cells ≤ (rmN 35).cells by decide), by rw [E.2.2.2]; exact (show 0 + (rmN 33).slots ≤ (rmN 35).slots by decide)⟩ (Nat.le_of_ble_eq_true rfl) (fun vv s1006 hq => ?_) (fun ee s1006 hq => ?_))))
            rotate_left
            · obtain ⟨Is1006, Fs1006, e1007, hv, hps1006⟩ := hq; cases hv
            obtain ⟨Is1006, Fs1006, e1007, hv, hps1006⟩ := hq
            cases hv
            have Gs1006 := fm_tq F Fs1006 rfl rfl
            show WS k 71 [(0, .long av), (2, .long bv), (4, .long cv), (6, .long dv), (8, .long ev), (10, .long fv), (12, .int (Int32.ofInt c))] [.long e1007, .long ev] (Wd A dT s1006) 0 0
            refine w_lor X.1 (ax_d X (show cdA 35 71 = some (.lor, 1, 0, 0, 0) from rfl)) (w_lload_n X.1 (ax_d X (show cdA 35 72 = some (.lload_n 0, 1, 0, 0, 0) from rfl)) (x := av) (List.Mem.head _) (w_land X.1 (ax_d X (show cdA 35 73 = some (.land, 1, 0, 0, 0) from rfl)) (w_lstore X.1 (lv' := [(13, .long ((ev ||| e1007) &&& av)), (0, .long av), (2, .long bv), (4, .long cv), (6, .long dv), (8, .long ev), (10, .long fv), (12, .int (Int32.ofInt c))]) (ax_d X (show cdA 35 74 = some (.lstore 13, 2, 0, 0, 0) from rfl)) (by rw [X.2.1.2.2]; decide) (fun _ h => h) (w_lload X.1 (ax_d X (show cdA 35 76 = some (.lload 10, 2, 0, 0, 0) from rfl)) (x := fv) (List.Mem.tail _ (List.Mem.tail _ (List.Mem.tail _ (List.Mem.tail _ (List.Mem.tail _ (List.Mem.tail _ (List.Mem.head _))))))) (w_lload X.1 (ax_d X (show cdA 35 78 = some (.lload 10, 2, 0, 0, 0) from rfl)) (x := fv) (List.Mem.tail _ (List.Mem.tail _ (List.Mem.tail _ (List.Mem.tail _ (List.Mem.tail _ (List.Mem.tail _ (List.Mem.head _))))))) (w_lload X.1 (ax_d X (show cdA 35 80 = some (.lload 13, 2, 0, 0, 0) from rfl)) (x := ((ev ||| e1007) &&& av)) (List.Mem.head _) (z_callS X (rm := rmN 33) (As := [.long fv, .long ((ev ||| e1007) &&& av)]) (st := [.long fv]) rfl rfl (by rw [E.1, E.2.1, E.2.2.1]; exact c3_beside3 G Is1006 ) ⟨by rw [E.2.2.2]; exact (show (rmN 33).frames + 1 ≤ (rmN 35).frames by decide), by rw [E.2.2.2]; exact (show 8 + (mNL (miB 33) + 11) + (rmN 33).locals ≤ (rmN 35).locals by decide), by rw [E.2.2.2]; exact (show 0 + (rmN 33).cells ≤ (rmN 35).cells by decide), by rw [E.2.2.2]; exact (show 0 + (rmN 33).slots ≤ (rmN 35).slots by decide)⟩ (Nat.le_of_ble_eq_true rfl) (fun vv s1008 hq => ?_) (fun ee s1008 hq => ?_))))))))
            rotate_left
            · obtain ⟨Is1008, Fs1008, e1009, hv, hps1008⟩ := hq; cases hv
            obtain ⟨Is1008, Fs1008, e1009, hv, hps1008⟩ := hq
            cases hv
            have Gs1008 := fm_tq Gs1006 Fs1008 rfl rfl
            show WS k 85 [(13, .long ((ev ||| e1007) &&& av)), (0, .long av), (2, .long bv), (4, .long cv), (6, .long dv), (8, .long ev), (10, .long fv), (12, .int (Int32.ofInt c))] [.long e1009, .long fv] (Wd A dT s1008) 0 0
            refine w_lor X.1 (ax_d X (show cdA 35 85 = some (.lor, 1, 0, 0, 0) from rfl)) (w_lload_n X.1 (ax_d X (show cdA 35 86 = some (.lload_n 2, 1, 0, 0, 0) from rfl)) (x := bv) (List.Mem.tail _ (List.Mem.tail _ (List.Mem.head _))) (w_land X.1 (ax_d X (show cdA 35 87 = some (.land, 1, 0, 0, 0) from rfl)) (w_lstore X.1 (lv' := [(15, .long ((fv ||| e1009) &&& bv)), (13, .long ((ev ||| e1007) &&& av)), (0, .long av), (2, .long bv), (4, .long cv), (6, .long dv), (8, .long ev), (10, .long fv), (12, .int (Int32.ofInt c))]) (ax_d X (show cdA 35 88 = some (.lstore 15, 2, 0, 0, 0) from rfl)) (by rw [X.2.1.2.2]; decide) (fun _ h => h) (w_lload X.1 (ax_d X (show cdA 35 90 = some (.lload 13, 2, 0, 0, 0) from rfl)) (x := ((ev ||| e1007) &&& av)) (List.Mem.tail _ (List.Mem.head _)) (w_lload X.1 (ax_d X (show cdA 35 92 = some (.lload 8, 2, 0, 0, 0) from rfl)) (x := ev) (List.Mem.tail _ (List.Mem.tail _ (List.Mem.tail _ (List.Mem.tail _ (List.Mem.tail _ (List.Mem.tail _ (List.Mem.head _))))))) (z_jcmp X rfl (fun z1010 => ?_) (fun z1010 c1011 hc1011 ic1011 => ?_)))))))
            ·
              refine z_if_ne X (t := 108) rfl rfl (by decide) (fun g1012 => ?_) (fun g1012 => ?_)
              ·
                exfalso
                omega
              ·
                refine w_lload X.1 (ax_d X (show cdA 35 98 = some (.lload 15, 2, 0, 0, 0) from rfl)) (x := ((fv ||| e1009) &&& bv)) (List.Mem.head _) (w_lload X.1 (ax_d X (show cdA 35 100 = some (.lload 10, 2, 0, 0, 0) from rfl)) (x := fv) (List.Mem.tail _ (List.Mem.tail _ (List.Mem.tail _ (List.Mem.tail _ (List.Mem.tail _ (List.Mem.tail _ (List.Mem.tail _ (List.Mem.head _)))))))) (z_jcmp X rfl (fun z1013 => ?_) (fun z1013 c1014 hc1014 ic1014 => ?_)))
                ·
                  refine z_if_ne X (t := 108) rfl rfl (by decide) (fun g1015 => ?_) (fun g1015 => ?_)
                  ·
                    exfalso
                    omega
                  ·
                    refine z_const X rfl ?_
                    exact w_iret X.1 q hRt (nar_ret (by first | exact Or.inl (by decide) | omega)) (ax_d X (show cdA 35 107 = some (.ireturn, 1, 0, 0, 0) from rfl)) (Nat.zero_le _) (Nat.zero_le _) ⟨_, rfl, Is1008, Gs1008, 0, rfl, (by decide), ⟨Or.inl rfl, rcp_c (rc_no hq.2.2.2.2 z1002 (by rw [hps1006]) (by rw [hps1008]) z1010 z1013) hq.1 hq.2.1 hq.2.2.1 hq.2.2.2.1⟩⟩
                ·
                  refine z_if_ne X (t := 108) rfl rfl ⟨by first | (clear g1005; omega) | omega, by first | (clear g1005; omega) | omega⟩ (fun g1016 => ?_) (fun g1016 => ?_)
                  ·
                    refine w_lload X.1 (ax_d X (show cdA 35 108 = some (.lload 13, 2, 0, 0, 0) from rfl)) (x := ((ev ||| e1007) &&& av)) (List.Mem.tail _ (List.Mem.head _)) (w_lstore X.1 (lv' := [(8, .long ((ev ||| e1007) &&& av)), (15, .long ((fv ||| e1009) &&& bv)), (13, .long ((ev ||| e1007) &&& av)), (0, .long av), (2, .long bv), (4, .long cv), (6, .long dv), (10, .long fv), (12, .int (Int32.ofInt c))]) (ax_d X (show cdA 35 110 = some (.lstore 8, 2, 0, 0, 0) from rfl)) (by rw [X.2.1.2.2]; decide) (fun _ h => h) (w_lload X.1 (ax_d X (show cdA 35 112 = some (.lload 15, 2, 0, 0, 0) from rfl)) (x := ((fv ||| e1009) &&& bv)) (List.Mem.tail _ (List.Mem.head _)) (w_lstore X.1 (lv' := [(10, .long ((fv ||| e1009) &&& bv)), (8, .long ((ev ||| e1007) &&& av)), (15, .long ((fv ||| e1009) &&& bv)), (13, .long ((ev ||| e1007) &&& av)), (0, .long av), (2, .long bv), (4, .long cv), (6, .long dv), (12, .int (Int32.ofInt c))]) (ax_d X (show cdA 35 114 = some (.lstore 10, 2, 0, 0, 0) from rfl)) (by rw [X.2.1.2.2]; decide) (fun _ h => h) (z_inc X (x := c) (lv' := [(12, .int (Int32.ofInt (c + 1))), (10, .long ((fv ||| e1009) &&& bv)), (8, .long ((ev ||| e1007) &&& av)), (15, .long ((fv ||| e1009) &&& bv)), (13, .long ((ev ||| e1007) &&& av)), (0, .long av), (2, .long bv), (4, .long cv), (6, .long dv)]) rfl (by decide) (List.Mem.tail _ (List.Mem.tail _ (List.Mem.tail _ (List.Mem.tail _ (List.Mem.tail _ (List.Mem.tail _ (List.Mem.tail _ (List.Mem.tail _ (List.Mem.head _))))))))) (fun _ h => h) (z_goto X (t := 28) rfl rfl (WS_pq [5, 6, 7, 8, 2, 1, 0] (lv' := [(0, .long av), (2, .long bv), (4, .long cv), (6, .long dv), (8, .long ((ev ||| e1007) &&& av)), (10, .long ((fv ||| e1009) &&& bv)), (12, .int (Int32.ofInt (c + 1)))]) rfl ?_))))))
                    exact ih _ av bv cv dv ((ev ||| e1007) &&& av) ((fv ||| e1009) &&& bv) (c + 1) Is1008 Gs1008 ⟨hq.1, hq.2.1, hq.2.2.1, hq.2.2.2.1, rc_up hq.2.2.2.2 z1002 (by rw [hps1006]) (by rw [hps1008]) (Or.inr z1013)⟩ (by first | exact ⟨oq_54f49eb5 hi.1, oq_d2afb425 g1001⟩ | omega) (by first | exact qk_me hm (by decide) (oq_c268b7bd g1001) | omega) kx
                  ·
                    exfalso
                    omega
            ·
              refine z_if_ne X (t := 108) rfl rfl ⟨by first | (clear g1005; omega) | omega, by first | (clear g1005; omega) | omega⟩ (fun g1017 => ?_) (fun g1017 => ?_)
              ·
                refine w_lload X.1 (ax_d X (show cdA 35 108 = some (.lload 13, 2, 0, 0, 0) from rfl)) (x := ((ev ||| e1007) &&& av)) (List.Mem.tail _ (List.Mem.head _)) (w_lstore X.1 (lv' := [(8, .long ((ev ||| e1007) &&& av)), (15, .long ((fv ||| e1009) &&& bv)), (13, .long ((ev ||| e1007) &&& av)), (0, .long av), (2, .long bv), (4, .long cv), (6, .long dv), (10, .long fv), (12, .int (Int32.ofInt c))]) (ax_d X (show cdA 35 110 = some (.lstore 8, 2, 0, 0, 0) from rfl)) (by rw [X.2.1.2.2]; decide) (fun _ h => h) (w_lload X.1 (ax_d X (show cdA 35 112 = some (.lload 15, 2, 0, 0, 0) from rfl)) (x := ((fv ||| e1009) &&& bv)) (List.Mem.tail _ (List.Mem.head _)) (w_lstore X.1 (lv' := [(10, .long ((fv ||| e1009) &&& bv)), (8, .long ((ev ||| e1007) &&& av)), (15, .long ((fv ||| e1009) &&& bv)), (13, .long ((ev ||| e1007) &&& av)), (0, .long av), (2, .long bv), (4, .long cv), (6, .long dv), (12, .int (Int32.ofInt c))]) (ax_d X (show cdA 35 114 = some (.lstore 10, 2, 0, 0, 0) from rfl)) (by rw [X.2.1.2.2]; decide) (fun _ h => h) (z_inc X (x := c) (lv' := [(12, .int (Int32.ofInt (c + 1))), (10, .long ((fv ||| e1009) &&& bv)), (8, .long ((ev ||| e1007) &&& av)), (15, .long ((fv ||| e1009) &&& bv)), (13, .long ((ev ||| e1007) &&& av)), (0, .long av), (2, .long bv), (4, .long cv), (6, .long dv)]) rfl (by decide) (List.Mem.tail _ (List.Mem.tail _ (List.Mem.tail _ (List.Mem.tail _ (List.Mem.tail _ (List.Mem.tail _ (List.Mem.tail _ (List.Mem.tail _ (List.Mem.head _))))))))) (fun _ h => h) (z_goto X (t := 28) rfl rfl (WS_pq [5, 6, 7, 8, 2, 1, 0] (lv' := [(0, .long av), (2, .long bv), (4, .long cv), (6, .long dv), (8, .long ((ev ||| e1007) &&& av)), (10, .long ((fv ||| e1009) &&& bv)), (12, .int (Int32.ofInt (c + 1)))]) rfl ?_))))))
                exact ih _ av bv cv dv ((ev ||| e1007) &&& av) ((fv ||| e1009) &&& bv) (c + 1) Is1008 Gs1008 ⟨hq.1, hq.2.1, hq.2.2.1, hq.2.2.2.1, rc_up hq.2.2.2.2 z1002 (by rw [hps1006]) (by rw [hps1008]) (Or.inl z1010)⟩ (by first | exact ⟨oq_54f49eb5 hi.1, oq_d2afb425 g1001⟩ | omega) (by first | exact qk_me hm (by decide) (oq_c268b7bd g1001) | omega) kx
              ·
                exfalso
                omega
          ·
            exfalso
            omega
  refine w_lload X.1 (ax_d X (show cdA 35 0 = some (.lload 4, 2, 0, 0, 0) from rfl)) (x := cj) (List.Mem.tail _ (List.Mem.tail _ (List.Mem.head _))) (z_callS X (rm := rmN 297) (As := [.long cj]) (st := []) rfl rfl (by rw [E.1, E.2.1, E.2.2.1]; exact j_lowL3 G I ) ⟨by rw [E.2.2.2]; exact (show (rmN 297).frames + 1 ≤ (rmN 35).frames by decide), by rw [E.2.2.2]; exact (show 8 + (mNL (miB 297) + 11) + (rmN 297).locals ≤ (rmN 35).locals by decide), by rw [E.2.2.2]; exact (show 0 + (rmN 297).cells ≤ (rmN 35).cells by decide), by rw [E.2.2.2]; exact (show 0 + (rmN 297).slots ≤ (rmN 35).slots by decide)⟩ (Nat.le_of_ble_eq_true rfl) (fun vv s1 hq => ?_) (fun ee s1 hq => ?_))
  rotate_left
  · obtain ⟨Is1, Fs1, e2, hv, hps1⟩ := hq; cases hv
  obtain ⟨Is1, Fs1, e2, hv, hps1⟩ := hq
  cases hv
  have Gs1 := fm_tq F Fs1 rfl rfl
  show WS k 5 [(0, .long aj), (2, .long bj), (4, .long cj), (6, .long dj)] [.long e2] (Wd A dT s1) 0 0
  refine w_lstore X.1 (lv' := [(8, .long e2), (0, .long aj), (2, .long bj), (4, .long cj), (6, .long dj)]) (ax_d X (show cdA 35 5 = some (.lstore 8, 2, 0, 0, 0) from rfl)) (by rw [X.2.1.2.2]; decide) (fun _ h => h) (w_lload X.1 (ax_d X (show cdA 35 7 = some (.lload 4, 2, 0, 0, 0) from rfl)) (x := cj) (List.Mem.tail _ (List.Mem.tail _ (List.Mem.tail _ (List.Mem.head _)))) (w_lconst X.1 (ax_d X (show cdA 35 9 = some (.lconst 0, 1, 0, 0, 0) from rfl)) (z := (0 : Int64)) (by decide) (z_jcmp X rfl (fun z3 => ?_) (fun z3 c4 hc4 ic4 => ?_))))
  ·
    refine z_if_ne X (t := 22) rfl rfl (by decide) (fun g5 => ?_) (fun g5 => ?_)
    ·
      exfalso
      omega
    ·
      refine w_lload X.1 (ax_d X (show cdA 35 14 = some (.lload 6, 2, 0, 0, 0) from rfl)) (x := dj) (List.Mem.tail _ (List.Mem.tail _ (List.Mem.tail _ (List.Mem.tail _ (List.Mem.head _))))) (z_callS X (rm := rmN 297) (As := [.long dj]) (st := []) rfl rfl (by rw [E.1, E.2.1, E.2.2.1]; exact j_lowL3 G Is1 ) ⟨by rw [E.2.2.2]; exact (show (rmN 297).frames + 1 ≤ (rmN 35).frames by decide), by rw [E.2.2.2]; exact (show 8 + (mNL (miB 297) + 11) + (rmN 297).locals ≤ (rmN 35).locals by decide), by rw [E.2.2.2]; exact (show 0 + (rmN 297).cells ≤ (rmN 35).cells by decide), by rw [E.2.2.2]; exact (show 0 + (rmN 297).slots ≤ (rmN 35).slots by decide)⟩ (Nat.le_of_ble_eq_true rfl) (fun vv s6 hq => ?_) (fun ee s6 hq => ?_))
      rotate_left
      · obtain ⟨Is6, Fs6, e7, hv, hps6⟩ := hq; cases hv
      obtain ⟨Is6, Fs6, e7, hv, hps6⟩ := hq
      cases hv
      have Gs6 := fm_tq Gs1 Fs6 rfl rfl
      show WS k 19 [(8, .long e2), (0, .long aj), (2, .long bj), (4, .long cj), (6, .long dj)] [.long e7] (Wd A dT s6) 0 0
      refine z_goto X (t := 23) rfl rfl (w_lstore X.1 (lv' := [(10, .long e7), (8, .long e2), (0, .long aj), (2, .long bj), (4, .long cj), (6, .long dj)]) (ax_d X (show cdA 35 23 = some (.lstore 10, 2, 0, 0, 0) from rfl)) (by rw [X.2.1.2.2]; decide) (fun _ h => h) (z_const X rfl (z_store X (lv' := [(12, .int (Int32.ofInt 0)), (10, .long e7), (8, .long e2), (0, .long aj), (2, .long bj), (4, .long cj), (6, .long dj)]) rfl (by decide) (fun _ h => h) (WS_pq [3, 4, 5, 6, 2, 1, 0] (lv' := [(0, .long aj), (2, .long bj), (4, .long cj), (6, .long dj), (8, .long e2), (10, .long e7), (12, .int (Int32.ofInt 0))]) rfl (L28 ((128 - 0 : Int).toNat + 1) s6 aj bj cj dj e2 e7 0 Is6 Gs6 ⟨rfl, rfl, rfl, rfl, rc_0b hps1 z3 hps6⟩ (by first | exact ⟨by decide, by decide⟩ | omega) (Nat.lt_succ_self _) ?_)))))
      intro s8 x9 x10 x11 Is8 Fs8 Qs8 hs8
      refine z_const X rfl ?_
      exact w_iret X.1 q hRt (nar_ret (by first | exact Or.inl (by decide) | omega)) (ax_d X (show cdA 35 123 = some (.ireturn, 1, 0, 0, 0) from rfl)) (Nat.zero_le _) (Nat.zero_le _) ⟨_, rfl, Is8, Fs8, 0, rfl, (by decide), ⟨Or.inl rfl, rcp_c (rc_out Qs8.2.2.2.2 (by omega)) Qs8.1 Qs8.2.1 Qs8.2.2.1 Qs8.2.2.2.1⟩⟩
  ·
    refine z_if_ne X (t := 22) rfl rfl ⟨by omega, by omega⟩ (fun g12 => ?_) (fun g12 => ?_)
    ·
      refine w_lconst X.1 (ax_d X (show cdA 35 22 = some (.lconst 0, 1, 0, 0, 0) from rfl)) (z := (0 : Int64)) (by decide) (w_lstore X.1 (lv' := [(10, .long (0 : Int64)), (8, .long e2), (0, .long aj), (2, .long bj), (4, .long cj), (6, .long dj)]) (ax_d X (show cdA 35 23 = some (.lstore 10, 2, 0, 0, 0) from rfl)) (by rw [X.2.1.2.2]; decide) (fun _ h => h) (z_const X rfl (z_store X (lv' := [(12, .int (Int32.ofInt 0)), (10, .long (0 : Int64)), (8, .long e2), (0, .long aj), (2, .long bj), (4, .long cj), (6, .long dj)]) rfl (by decide) (fun _ h => h) (WS_pq [3, 4, 5, 6, 2, 1, 0] (lv' := [(0, .long aj), (2, .long bj), (4, .long cj), (6, .long dj), (8, .long e2), (10, .long (0 : Int64)), (12, .int (Int32.ofInt 0))]) rfl (L28 ((128 - 0 : Int).toNat + 1) s1 aj bj cj dj e2 (0 : Int64) 0 Is1 Gs1 ⟨rfl, rfl, rfl, rfl, rc_0a hps1 z3⟩ (by first | exact ⟨by decide, by decide⟩ | omega) (Nat.lt_succ_self _) ?_)))))
      intro s13 x14 x15 x16 Is13 Fs13 Qs13 hs13
      refine z_const X rfl ?_
      exact w_iret X.1 q hRt (nar_ret (by first | exact Or.inl (by decide) | omega)) (ax_d X (show cdA 35 123 = some (.ireturn, 1, 0, 0, 0) from rfl)) (Nat.zero_le _) (Nat.zero_le _) ⟨_, rfl, Is13, Fs13, 0, rfl, (by decide), ⟨Or.inl rfl, rcp_c (rc_out Qs13.2.2.2.2 (by first | (clear g12; omega) | omega)) Qs13.1 Qs13.2.1 Qs13.2.2.1 Qs13.2.2.2.1⟩⟩
    ·
      exfalso
      omega
set_option maxRecDepth 4000 in
theorem c3_hangs3 (G : GX l s0 D tys a0 dT) (I : Bd s) {aj bj : Int64}  : CT l s0 D A dT 34 (rmN 34) [.long aj, .long bj] s (fun o t => Bd t ∧ Fm [] [] s t ∧ ∃ e, o = .inl (some (.int (Int32.ofInt e))) ∧ rng e ∧ ((e = 0 ∨ e = 1) ∧ HGE (inL aj bj) e)) := by
  refine ct_ofX G (by decide) (Nat.le_of_ble_eq_true rfl) (fun k X E ET hRt hXt q => ?_)
  show WS k 0 [(0, .long aj), (2, .long bj)] [] _ 0 0
  have F : Fm [] [] s s := fm_rf _ _ s
  refine w_lload_n X.1 (ax_d X (show cdA 34 0 = some (.lload_n 0, 1, 0, 0, 0) from rfl)) (x := aj) (List.Mem.head _) (w_lload_n X.1 (ax_d X (show cdA 34 1 = some (.lload_n 2, 1, 0, 0, 0) from rfl)) (x := bj) (List.Mem.tail _ (List.Mem.head _)) (w_lload_n X.1 (ax_d X (show cdA 34 2 = some (.lload_n 0, 1, 0, 0, 0) from rfl)) (x := aj) (List.Mem.head _) (w_lload_n X.1 (ax_d X (show cdA 34 3 = some (.lload_n 2, 1, 0, 0, 0) from rfl)) (x := bj) (List.Mem.tail _ (List.Mem.head _)) (zcS_i0 X E (As := [.long aj, .long bj, .long aj, .long bj]) (st := []) rfl rfl (c3_reaches3 G I ) rfl (Nat.le_of_ble_eq_true rfl) (fun s1 e2 Is1 Fs1 hrs1 hps1 => ?_)))))
  have hps1p := hps1.2
  have Gs1 := fm_tq F Fs1 rfl rfl
  exact w_iret X.1 q hRt (nar_ret (by first | exact hps1.1 | omega)) (ax_d X (show cdA 34 7 = some (.ireturn, 1, 0, 0, 0) from rfl)) (Nat.zero_le _) (Nat.zero_le _) ⟨_, rfl, Is1, Gs1, e2, rfl, hrs1, ⟨hps1.1, hge_of hps1.2⟩⟩
set_option maxRecDepth 4000 in
theorem c3_without3 (G : GX l s0 D tys a0 dT) (I : Bd s) {x y : Int} (p0 : 0 ≤ x ∧ x ≤ 7) (p1 : 0 ≤ y ∧ y ≤ 127) : CT l s0 D A dT 37 (rmN 37) [.ref (A 25), .int (Int32.ofInt x), .int (Int32.ofInt y)] s (fun o t => Bd t ∧ Fm [] [] s t ∧ ∃ e, o = .inl (some (.int (Int32.ofInt e))) ∧ rng e ∧ ((e = 0 ∨ e = 1) ∧ HWE (inL (gD s 22 (x : Int).toNat) (gD s 23 (x : Int).toNat)) y e)) := by
  refine ct_ofX G (by decide) (Nat.le_of_ble_eq_true rfl) (fun k X E ET hRt hXt q => ?_)
  show WS k 0 [(0, .ref (A 25)), (1, .int (Int32.ofInt x)), (2, .int (Int32.ofInt y))] [] _ 0 0
  have F : Fm [] [] s s := fm_rf _ _ s
  refine z_load_n X (x := y) rfl (List.Mem.tail _ (List.Mem.tail _ (List.Mem.head _))) (z_bipush X rfl (z_icmp_ge X (t := 12) rfl rfl ⟨by first | exact oq_fa4e5087 p1.1 | omega, by first | exact oq_07d346ce p1.2 | omega⟩ (by decide) (fun g1 => ?_) (fun g1 => ?_)))
  ·
    refine w_lconst X.1 (ax_d X (show cdA 37 12 = some (.lconst 0, 1, 0, 0, 0) from rfl)) (z := (0 : Int64)) (by decide) (w_lstore_n X.1 (lv' := [(3, .long (0 : Int64)), (0, .ref (A 25)), (1, .int (Int32.ofInt x)), (2, .int (Int32.ofInt y))]) (ax_d X (show cdA 37 13 = some (.lstore_n 3, 1, 0, 0, 0) from rfl)) (by rw [X.2.1.2.2]; decide) (fun _ h => h) (z_load_n X (x := y) rfl (List.Mem.tail _ (List.Mem.tail _ (List.Mem.tail _ (List.Mem.head _)))) (z_bipush X rfl (z_icmp_ge X (t := 24) rfl rfl ⟨by first | exact oq_9c013a0f g1 | omega, by first | exact oq_07d346ce p1.2 | omega⟩ (by decide) (fun g2 => ?_) (fun g2 => ?_)))))
    ·
      refine w_lconst X.1 (ax_d X (show cdA 37 24 = some (.lconst 1, 1, 0, 0, 0) from rfl)) (z := (1 : Int64)) (by decide) (z_load_n X (x := y) rfl (List.Mem.tail _ (List.Mem.tail _ (List.Mem.tail _ (List.Mem.head _)))) (z_bipush X rfl (z_and63 X rfl (by omega) (z_jshl X rfl (w_lstore X.1 (lv' := [(5, .long (jshl (1 : Int64) (y % 64))), (3, .long (0 : Int64)), (0, .ref (A 25)), (1, .int (Int32.ofInt x)), (2, .int (Int32.ofInt y))]) (ax_d X (show cdA 37 30 = some (.lstore 5, 2, 0, 0, 0) from rfl)) (by rw [X.2.1.2.2]; decide) (fun _ h => h) (z_aload_n X (x := A 25) rfl (List.Mem.tail _ (List.Mem.tail _ (List.Mem.head _))) (s_getR X 25 rfl (c518_ok rfl) rfl rfl (z_load_n X (x := x) rfl (List.Mem.tail _ (List.Mem.tail _ (List.Mem.tail _ (List.Mem.head _)))) (z_lalE X 27 rfl (by decide) rfl (by first | exact p0.1 | omega) (show x < 8 by first | exact oq_aaea290e p0.2 | omega) (by decide) (w_lload_n X.1 (ax_d X (show cdA 37 38 = some (.lload_n 3, 1, 0, 0, 0) from rfl)) (x := (0 : Int64)) (List.Mem.tail _ (List.Mem.head _)) (z_ldc2E X rfl ?_)))))))))))
      refine w_lxor X.1 (ax_d X (show cdA 37 42 = some (.lxor, 1, 0, 0, 0) from rfl)) (w_land X.1 (ax_d X (show cdA 37 43 = some (.land, 1, 0, 0, 0) from rfl)) (w_lstore X.1 (lv' := [(7, .long ((gD s 22 (x).toNat) &&& ((0 : Int64) ^^^ (lN 18446744073709551615)))), (5, .long (jshl (1 : Int64) (y % 64))), (3, .long (0 : Int64)), (0, .ref (A 25)), (1, .int (Int32.ofInt x)), (2, .int (Int32.ofInt y))]) (ax_d X (show cdA 37 44 = some (.lstore 7, 2, 0, 0, 0) from rfl)) (by rw [X.2.1.2.2]; decide) (fun _ h => h) (z_aload_n X (x := A 25) rfl (List.Mem.tail _ (List.Mem.tail _ (List.Mem.tail _ (List.Mem.head _)))) (s_getR X 25 rfl (c518_ok rfl) rfl rfl (z_load_n X (x := x) rfl (List.Mem.tail _ (List.Mem.tail _ (List.Mem.tail _ (List.Mem.tail _ (List.Mem.head _))))) (z_lalE X 28 rfl (by decide) rfl (by first | exact p0.1 | omega) (show x < 8 by first | exact oq_aaea290e p0.2 | omega) (by decide) (w_lload X.1 (ax_d X (show cdA 37 52 = some (.lload 5, 2, 0, 0, 0) from rfl)) (x := (jshl (1 : Int64) (y % 64))) (List.Mem.tail _ (List.Mem.head _)) (z_ldc2E X rfl (w_lxor X.1 (ax_d X (show cdA 37 57 = some (.lxor, 1, 0, 0, 0) from rfl)) (w_land X.1 (ax_d X (show cdA 37 58 = some (.land, 1, 0, 0, 0) from rfl)) (w_lstore X.1 (lv' := [(9, .long ((gD s 23 (x).toNat) &&& ((jshl (1 : Int64) (y % 64)) ^^^ (lN 18446744073709551615)))), (7, .long ((gD s 22 (x).toNat) &&& ((0 : Int64) ^^^ (lN 18446744073709551615)))), (5, .long (jshl (1 : Int64) (y % 64))), (3, .long (0 : Int64)), (0, .ref (A 25)), (1, .int (Int32.ofInt x)), (2, .int (Int32.ofInt y))]) (ax_d X (show cdA 37 59 = some (.lstore 9, 2, 0, 0, 0) from rfl)) (by rw [X.2.1.2.2]; decide) (fun _ h => h) ?_)))))))))))
      refine w_lload X.1 (ax_d X (show cdA 37 61 = some (.lload 7, 2, 0, 0, 0) from rfl)) (x := ((gD s 22 (x).toNat) &&& ((0 : Int64) ^^^ (lN 18446744073709551615)))) (List.Mem.tail _ (List.Mem.head _)) (w_lload X.1 (ax_d X (show cdA 37 63 = some (.lload 9, 2, 0, 0, 0) from rfl)) (x := ((gD s 23 (x).toNat) &&& ((jshl (1 : Int64) (y % 64)) ^^^ (lN 18446744073709551615)))) (List.Mem.head _) (w_lload_n X.1 (ax_d X (show cdA 37 65 = some (.lload_n 3, 1, 0, 0, 0) from rfl)) (x := (0 : Int64)) (List.Mem.tail _ (List.Mem.tail _ (List.Mem.tail _ (List.Mem.head _)))) (w_lload X.1 (ax_d X (show cdA 37 66 = some (.lload 5, 2, 0, 0, 0) from rfl)) (x := (jshl (1 : Int64) (y % 64))) (List.Mem.tail _ (List.Mem.tail _ (List.Mem.head _))) (z_callS X (rm := rmN 33) (As := [.long (0 : Int64), .long (jshl (1 : Int64) (y % 64))]) (st := [.long ((gD s 23 (x).toNat) &&& ((jshl (1 : Int64) (y % 64)) ^^^ (lN 18446744073709551615))), .long ((gD s 22 (x).toNat) &&& ((0 : Int64) ^^^ (lN 18446744073709551615)))]) rfl rfl (by rw [E.1, E.2.1, E.2.2.1]; exact c3_beside3 G I ) ⟨by rw [E.2.2.2]; exact (show (rmN 33).frames + 1 ≤ (rmN 37).frames by decide), by rw [E.2.2.2]; exact (show 8 + (mNL (miB 33) + 11) + (rmN 33).locals ≤ (rmN 37).locals by decide), by rw [E.2.2.2]; exact (show 0 + (rmN 33).cells ≤ (rmN 37).cells by decide), by rw [E.2.2.2]; exact (show 0 + (rmN 33).slots ≤ (rmN 37).slots by decide)⟩ (Nat.le_of_ble_eq_true rfl) (fun vv s3 hq => ?_) (fun ee s3 hq => ?_)))))
      rotate_left
      · obtain ⟨Is3, Fs3, e4, hv, hps3⟩ := hq; cases hv
      obtain ⟨Is3, Fs3, e4, hv, hps3⟩ := hq
      cases hv
      have Gs3 := fm_tq F Fs3 rfl rfl
      show WS k 71 [(9, .long ((gD s 23 (x).toNat) &&& ((jshl (1 : Int64) (y % 64)) ^^^ (lN 18446744073709551615)))), (7, .long ((gD s 22 (x).toNat) &&& ((0 : Int64) ^^^ (lN 18446744073709551615)))), (5, .long (jshl (1 : Int64) (y % 64))), (3, .long (0 : Int64)), (0, .ref (A 25)), (1, .int (Int32.ofInt x)), (2, .int (Int32.ofInt y))] [.long e4, .long ((gD s 23 (x).toNat) &&& ((jshl (1 : Int64) (y % 64)) ^^^ (lN 18446744073709551615))), .long ((gD s 22 (x).toNat) &&& ((0 : Int64) ^^^ (lN 18446744073709551615)))] (Wd A dT s3) 0 0
      refine w_lload X.1 (ax_d X (show cdA 37 71 = some (.lload 7, 2, 0, 0, 0) from rfl)) (x := ((gD s 22 (x).toNat) &&& ((0 : Int64) ^^^ (lN 18446744073709551615)))) (List.Mem.tail _ (List.Mem.head _)) (w_land X.1 (ax_d X (show cdA 37 73 = some (.land, 1, 0, 0, 0) from rfl)) (w_lload X.1 (ax_d X (show cdA 37 74 = some (.lload 5, 2, 0, 0, 0) from rfl)) (x := (jshl (1 : Int64) (y % 64))) (List.Mem.tail _ (List.Mem.tail _ (List.Mem.head _))) (w_lload_n X.1 (ax_d X (show cdA 37 76 = some (.lload_n 3, 1, 0, 0, 0) from rfl)) (x := (0 : Int64)) (List.Mem.tail _ (List.Mem.tail _ (List.Mem.tail _ (List.Mem.head _)))) (z_callS X (rm := rmN 33) (As := [.long (jshl (1 : Int64) (y % 64)), .long (0 : Int64)]) (st := [.long (e4 &&& ((gD s 22 (x).toNat) &&& ((0 : Int64) ^^^ (lN 18446744073709551615)))), .long ((gD s 23 (x).toNat) &&& ((jshl (1 : Int64) (y % 64)) ^^^ (lN 18446744073709551615))), .long ((gD s 22 (x).toNat) &&& ((0 : Int64) ^^^ (lN 18446744073709551615)))]) rfl rfl (by rw [E.1, E.2.1, E.2.2.1]; exact c3_beside3 G Is3 ) ⟨by rw [E.2.2.2]; exact (show (rmN 33).frames + 1 ≤ (rmN 37).frames by decide), by rw [E.2.2.2]; exact (show 8 + (mNL (miB 33) + 11) + (rmN 33).locals ≤ (rmN 37).locals by decide), by rw [E.2.2.2]; exact (show 0 + (rmN 33).cells ≤ (rmN 37).cells by decide), by rw [E.2.2.2]; exact (show 0 + (rmN 33).slots ≤ (rmN 37).slots by decide)⟩ (Nat.le_of_ble_eq_true rfl) (fun vv s5 hq => ?_) (fun ee s5 hq => ?_)))))
      rotate_left
      · obtain ⟨Is5, Fs5, e6, hv, hps5⟩ := hq; cases hv
      obtain ⟨Is5, Fs5, e6, hv, hps5⟩ := hq
      cases hv
      have Gs5 := fm_tq Gs3 Fs5 rfl rfl
      show WS k 80 [(9, .long ((gD s 23 (x).toNat) &&& ((jshl (1 : Int64) (y % 64)) ^^^ (lN 18446744073709551615)))), (7, .long ((gD s 22 (x).toNat) &&& ((0 : Int64) ^^^ (lN 18446744073709551615)))), (5, .long (jshl (1 : Int64) (y % 64))), (3, .long (0 : Int64)), (0, .ref (A 25)), (1, .int (Int32.ofInt x)), (2, .int (Int32.ofInt y))] [.long e6, .long (e4 &&& ((gD s 22 (x).toNat) &&& ((0 : Int64) ^^^ (lN 18446744073709551615)))), .long ((gD s 23 (x).toNat) &&& ((jshl (1 : Int64) (y % 64)) ^^^ (lN 18446744073709551615))), .long ((gD s 22 (x).toNat) &&& ((0 : Int64) ^^^ (lN 18446744073709551615)))] (Wd A dT s5) 0 0
      refine w_lload X.1 (ax_d X (show cdA 37 80 = some (.lload 9, 2, 0, 0, 0) from rfl)) (x := ((gD s 23 (x).toNat) &&& ((jshl (1 : Int64) (y % 64)) ^^^ (lN 18446744073709551615)))) (List.Mem.head _) (w_land X.1 (ax_d X (show cdA 37 82 = some (.land, 1, 0, 0, 0) from rfl)) (zcS_i0 X E (As := [.long ((gD s 22 (x).toNat) &&& ((0 : Int64) ^^^ (lN 18446744073709551615))), .long ((gD s 23 (x).toNat) &&& ((jshl (1 : Int64) (y % 64)) ^^^ (lN 18446744073709551615))), .long (e4 &&& ((gD s 22 (x).toNat) &&& ((0 : Int64) ^^^ (lN 18446744073709551615)))), .long (e6 &&& ((gD s 23 (x).toNat) &&& ((jshl (1 : Int64) (y % 64)) ^^^ (lN 18446744073709551615))))]) (st := []) rfl rfl (c3_reaches3 G Is5 ) rfl (Nat.le_of_ble_eq_true rfl) (fun s7 e8 Is7 Fs7 hrs7 hps7 => ?_)))
      have hps7p := hps7.2
      have Gs7 := fm_tq Gs5 Fs7 rfl rfl
      exact w_iret X.1 q hRt (nar_ret (by first | (clear hps7; omega) | omega)) (ax_d X (show cdA 37 86 = some (.ireturn, 1, 0, 0, 0) from rfl)) (Nat.zero_le _) (Nat.zero_le _) ⟨_, rfl, Is7, Gs7, e8, rfl, hrs7, ⟨hps7.1, hwe_of (one_h (by first | (clear hps7; omega) | omega)) hps3 hps5 hps7.2⟩⟩
    ·
      exfalso
      omega
  ·
    refine w_lconst X.1 (ax_d X (show cdA 37 6 = some (.lconst 1, 1, 0, 0, 0) from rfl)) (z := (1 : Int64)) (by decide) (z_load_n X (x := y) rfl (List.Mem.tail _ (List.Mem.tail _ (List.Mem.head _))) (z_jshl X rfl (z_goto X (t := 13) rfl rfl (w_lstore_n X.1 (lv' := [(3, .long (jshl (1 : Int64) y)), (0, .ref (A 25)), (1, .int (Int32.ofInt x)), (2, .int (Int32.ofInt y))]) (ax_d X (show cdA 37 13 = some (.lstore_n 3, 1, 0, 0, 0) from rfl)) (by rw [X.2.1.2.2]; decide) (fun _ h => h) (z_load_n X (x := y) rfl (List.Mem.tail _ (List.Mem.tail _ (List.Mem.tail _ (List.Mem.head _)))) (z_bipush X rfl (z_icmp_ge X (t := 24) rfl rfl ⟨by first | exact oq_fa4e5087 p1.1 | omega, by first | exact oq_1ed1a489 g1 | omega⟩ (by decide) (fun g9 => ?_) (fun g9 => ?_))))))))
    ·
      exfalso
      omega
    ·
      refine w_lconst X.1 (ax_d X (show cdA 37 20 = some (.lconst 0, 1, 0, 0, 0) from rfl)) (z := (0 : Int64)) (by decide) (z_goto X (t := 30) rfl rfl (w_lstore X.1 (lv' := [(5, .long (0 : Int64)), (3, .long (jshl (1 : Int64) y)), (0, .ref (A 25)), (1, .int (Int32.ofInt x)), (2, .int (Int32.ofInt y))]) (ax_d X (show cdA 37 30 = some (.lstore 5, 2, 0, 0, 0) from rfl)) (by rw [X.2.1.2.2]; decide) (fun _ h => h) (z_aload_n X (x := A 25) rfl (List.Mem.tail _ (List.Mem.tail _ (List.Mem.head _))) (s_getR X 25 rfl (c518_ok rfl) rfl rfl (z_load_n X (x := x) rfl (List.Mem.tail _ (List.Mem.tail _ (List.Mem.tail _ (List.Mem.head _)))) (z_lalE X 27 rfl (by decide) rfl (by first | exact p0.1 | omega) (show x < 8 by first | exact oq_aaea290e p0.2 | omega) (by decide) (w_lload_n X.1 (ax_d X (show cdA 37 38 = some (.lload_n 3, 1, 0, 0, 0) from rfl)) (x := (jshl (1 : Int64) y)) (List.Mem.tail _ (List.Mem.head _)) (z_ldc2E X rfl (w_lxor X.1 (ax_d X (show cdA 37 42 = some (.lxor, 1, 0, 0, 0) from rfl)) (w_land X.1 (ax_d X (show cdA 37 43 = some (.land, 1, 0, 0, 0) from rfl)) (w_lstore X.1 (lv' := [(7, .long ((gD s 22 (x).toNat) &&& ((jshl (1 : Int64) y) ^^^ (lN 18446744073709551615)))), (5, .long (0 : Int64)), (3, .long (jshl (1 : Int64) y)), (0, .ref (A 25)), (1, .int (Int32.ofInt x)), (2, .int (Int32.ofInt y))]) (ax_d X (show cdA 37 44 = some (.lstore 7, 2, 0, 0, 0) from rfl)) (by rw [X.2.1.2.2]; decide) (fun _ h => h) ?_)))))))))))
      refine z_aload_n X (x := A 25) rfl (List.Mem.tail _ (List.Mem.tail _ (List.Mem.tail _ (List.Mem.head _)))) (s_getR X 25 rfl (c518_ok rfl) rfl rfl (z_load_n X (x := x) rfl (List.Mem.tail _ (List.Mem.tail _ (List.Mem.tail _ (List.Mem.tail _ (List.Mem.head _))))) (z_lalE X 28 rfl (by decide) rfl (by first | exact p0.1 | omega) (show x < 8 by first | exact oq_aaea290e p0.2 | omega) (by decide) (w_lload X.1 (ax_d X (show cdA 37 52 = some (.lload 5, 2, 0, 0, 0) from rfl)) (x := (0 : Int64)) (List.Mem.tail _ (List.Mem.head _)) (z_ldc2E X rfl (w_lxor X.1 (ax_d X (show cdA 37 57 = some (.lxor, 1, 0, 0, 0) from rfl)) (w_land X.1 (ax_d X (show cdA 37 58 = some (.land, 1, 0, 0, 0) from rfl)) (w_lstore X.1 (lv' := [(9, .long ((gD s 23 (x).toNat) &&& ((0 : Int64) ^^^ (lN 18446744073709551615)))), (7, .long ((gD s 22 (x).toNat) &&& ((jshl (1 : Int64) y) ^^^ (lN 18446744073709551615)))), (5, .long (0 : Int64)), (3, .long (jshl (1 : Int64) y)), (0, .ref (A 25)), (1, .int (Int32.ofInt x)), (2, .int (Int32.ofInt y))]) (ax_d X (show cdA 37 59 = some (.lstore 9, 2, 0, 0, 0) from rfl)) (by rw [X.2.1.2.2]; decide) (fun _ h => h) (w_lload X.1 (ax_d X (show cdA 37 61 = some (.lload 7, 2, 0, 0, 0) from rfl)) (x := ((gD s 22 (x).toNat) &&& ((jshl (1 : Int64) y) ^^^ (lN 18446744073709551615)))) (List.Mem.tail _ (List.Mem.head _)) (w_lload X.1 (ax_d X (show cdA 37 63 = some (.lload 9, 2, 0, 0, 0) from rfl)) (x := ((gD s 23 (x).toNat) &&& ((0 : Int64) ^^^ (lN 18446744073709551615)))) (List.Mem.head _) (w_lload_n X.1 (ax_d X (show cdA 37 65 = some (.lload_n 3, 1, 0, 0, 0) from rfl)) (x := (jshl (1 : Int64) y)) (List.Mem.tail _ (List.Mem.tail _ (List.Mem.tail _ (List.Mem.head _)))) ?_)))))))))))
      refine w_lload X.1 (ax_d X (show cdA 37 66 = some (.lload 5, 2, 0, 0, 0) from rfl)) (x := (0 : Int64)) (List.Mem.tail _ (List.Mem.tail _ (List.Mem.head _))) (z_callS X (rm := rmN 33) (As := [.long (jshl (1 : Int64) y), .long (0 : Int64)]) (st := [.long ((gD s 23 (x).toNat) &&& ((0 : Int64) ^^^ (lN 18446744073709551615))), .long ((gD s 22 (x).toNat) &&& ((jshl (1 : Int64) y) ^^^ (lN 18446744073709551615)))]) rfl rfl (by rw [E.1, E.2.1, E.2.2.1]; exact c3_beside3 G I ) ⟨by rw [E.2.2.2]; exact (show (rmN 33).frames + 1 ≤ (rmN 37).frames by decide), by rw [E.2.2.2]; exact (show 8 + (mNL (miB 33) + 11) + (rmN 33).locals ≤ (rmN 37).locals by decide), by rw [E.2.2.2]; exact (show 0 + (rmN 33).cells ≤ (rmN 37).cells by decide), by rw [E.2.2.2]; exact (show 0 + (rmN 33).slots ≤ (rmN 37).slots by decide)⟩ (Nat.le_of_ble_eq_true rfl) (fun vv s10 hq => ?_) (fun ee s10 hq => ?_))
      rotate_left
      · obtain ⟨Is10, Fs10, e11, hv, hps10⟩ := hq; cases hv
      obtain ⟨Is10, Fs10, e11, hv, hps10⟩ := hq
      cases hv
      have Gs10 := fm_tq F Fs10 rfl rfl
      show WS k 71 [(9, .long ((gD s 23 (x).toNat) &&& ((0 : Int64) ^^^ (lN 18446744073709551615)))), (7, .long ((gD s 22 (x).toNat) &&& ((jshl (1 : Int64) y) ^^^ (lN 18446744073709551615)))), (5, .long (0 : Int64)), (3, .long (jshl (1 : Int64) y)), (0, .ref (A 25)), (1, .int (Int32.ofInt x)), (2, .int (Int32.ofInt y))] [.long e11, .long ((gD s 23 (x).toNat) &&& ((0 : Int64) ^^^ (lN 18446744073709551615))), .long ((gD s 22 (x).toNat) &&& ((jshl (1 : Int64) y) ^^^ (lN 18446744073709551615)))] (Wd A dT s10) 0 0
      refine w_lload X.1 (ax_d X (show cdA 37 71 = some (.lload 7, 2, 0, 0, 0) from rfl)) (x := ((gD s 22 (x).toNat) &&& ((jshl (1 : Int64) y) ^^^ (lN 18446744073709551615)))) (List.Mem.tail _ (List.Mem.head _)) (w_land X.1 (ax_d X (show cdA 37 73 = some (.land, 1, 0, 0, 0) from rfl)) (w_lload X.1 (ax_d X (show cdA 37 74 = some (.lload 5, 2, 0, 0, 0) from rfl)) (x := (0 : Int64)) (List.Mem.tail _ (List.Mem.tail _ (List.Mem.head _))) (w_lload_n X.1 (ax_d X (show cdA 37 76 = some (.lload_n 3, 1, 0, 0, 0) from rfl)) (x := (jshl (1 : Int64) y)) (List.Mem.tail _ (List.Mem.tail _ (List.Mem.tail _ (List.Mem.head _)))) (z_callS X (rm := rmN 33) (As := [.long (0 : Int64), .long (jshl (1 : Int64) y)]) (st := [.long (e11 &&& ((gD s 22 (x).toNat) &&& ((jshl (1 : Int64) y) ^^^ (lN 18446744073709551615)))), .long ((gD s 23 (x).toNat) &&& ((0 : Int64) ^^^ (lN 18446744073709551615))), .long ((gD s 22 (x).toNat) &&& ((jshl (1 : Int64) y) ^^^ (lN 18446744073709551615)))]) rfl rfl (by rw [E.1, E.2.1, E.2.2.1]; exact c3_beside3 G Is10 ) ⟨by rw [E.2.2.2]; exact (show (rmN 33).frames + 1 ≤ (rmN 37).frames by decide), by rw [E.2.2.2]; exact (show 8 + (mNL (miB 33) + 11) + (rmN 33).locals ≤ (rmN 37).locals by decide), by rw [E.2.2.2]; exact (show 0 + (rmN 33).cells ≤ (rmN 37).cells by decide), by rw [E.2.2.2]; exact (show 0 + (rmN 33).slots ≤ (rmN 37).slots by decide)⟩ (Nat.le_of_ble_eq_true rfl) (fun vv s12 hq => ?_) (fun ee s12 hq => ?_)))))
      rotate_left
      · obtain ⟨Is12, Fs12, e13, hv, hps12⟩ := hq; cases hv
      obtain ⟨Is12, Fs12, e13, hv, hps12⟩ := hq
      cases hv
      have Gs12 := fm_tq Gs10 Fs12 rfl rfl
      show WS k 80 [(9, .long ((gD s 23 (x).toNat) &&& ((0 : Int64) ^^^ (lN 18446744073709551615)))), (7, .long ((gD s 22 (x).toNat) &&& ((jshl (1 : Int64) y) ^^^ (lN 18446744073709551615)))), (5, .long (0 : Int64)), (3, .long (jshl (1 : Int64) y)), (0, .ref (A 25)), (1, .int (Int32.ofInt x)), (2, .int (Int32.ofInt y))] [.long e13, .long (e11 &&& ((gD s 22 (x).toNat) &&& ((jshl (1 : Int64) y) ^^^ (lN 18446744073709551615)))), .long ((gD s 23 (x).toNat) &&& ((0 : Int64) ^^^ (lN 18446744073709551615))), .long ((gD s 22 (x).toNat) &&& ((jshl (1 : Int64) y) ^^^ (lN 18446744073709551615)))] (Wd A dT s12) 0 0
      refine w_lload X.1 (ax_d X (show cdA 37 80 = some (.lload 9, 2, 0, 0, 0) from rfl)) (x := ((gD s 23 (x).toNat) &&& ((0 : Int64) ^^^ (lN 18446744073709551615)))) (List.Mem.head _) (w_land X.1 (ax_d X (show cdA 37 82 = some (.land, 1, 0, 0, 0) from rfl)) (zcS_i0 X E (As := [.long ((gD s 22 (x).toNat) &&& ((jshl (1 : Int64) y) ^^^ (lN 18446744073709551615))), .long ((gD s 23 (x).toNat) &&& ((0 : Int64) ^^^ (lN 18446744073709551615))), .long (e11 &&& ((gD s 22 (x).toNat) &&& ((jshl (1 : Int64) y) ^^^ (lN 18446744073709551615)))), .long (e13 &&& ((gD s 23 (x).toNat) &&& ((0 : Int64) ^^^ (lN 18446744073709551615))))]) (st := []) rfl rfl (c3_reaches3 G Is12 ) rfl (Nat.le_of_ble_eq_true rfl) (fun s14 e15 Is14 Fs14 hrs14 hps14 => ?_)))
      have hps14p := hps14.2
      have Gs14 := fm_tq Gs12 Fs14 rfl rfl
      exact w_iret X.1 q hRt (nar_ret (by first | (clear hps14; omega) | omega)) (ax_d X (show cdA 37 86 = some (.ireturn, 1, 0, 0, 0) from rfl)) (Nat.zero_le _) (Nat.zero_le _) ⟨_, rfl, Is14, Gs14, e15, rfl, hrs14, ⟨hps14.1, hwe_of (one_l (by first | (clear hps14; omega) | omega)) hps10 hps12 hps14.2⟩⟩
set_option maxRecDepth 4000 in
theorem k_hangs3 (G : GX l s0 D tys a0 dT) (I : Bd s)  : CT l s0 D A dT 239 (rmN 239) [.ref (A 179)] s (fun o t => Bd t ∧ Fm [] [231, 232] s t ∧ ∃ e, o = .inl (some (.int (Int32.ofInt e))) ∧ rng e ∧ ((e = 0 ∨ e = 1) ∧ HGE (inS s) e)) := by
  refine ct_of G (by decide) (Nat.le_of_ble_eq_true rfl) (fun k X E hRt hXt q => ?_)
  show WS k 0 [(0, .ref (A 179))] [] _ 0 0
  have F : Fm [] [231, 232] s s := fm_rf _ _ s
  have hSB : ∀ j, j < 128 → iC s 230 j = 0 ∨ iC s 230 j = 1 := fun j hj => by have z := I.2 230 j hj; replace z : 0 ≤ iC s 230 j ∧ iC s 230 j ≤ 1 := z; omega
  have L10 : ∀ (n : Nat) (t : PS) (m0 al fi c : Int), Bd t → Fm [] [231, 232] s t → (HG1 s al fi c t) → (0 ≤ al ∧ al ≤ 127 - c ∧ -1 ≤ fi ∧ fi ≤ 127 ∧ -1 ≤ c ∧ c ≤ 127) → (c + 1 : Int).toNat < n → (∀ (t' : PS) (al' fi' c' : Int), Bd t' → Fm [] [231, 232] s t' → (HG1 s al' fi' c' t') → (0 ≤ al' ∧ al' ≤ 128 ∧ -1 ≤ fi' ∧ fi' ≤ 127 ∧ c' = -1) → WS k 64 [(0, .ref (A 179)), (1, .int (Int32.ofInt m0)), (2, .int (Int32.ofInt al')), (3, .int (Int32.ofInt fi')), (4, .int (Int32.ofInt c'))] [] (Wd A dT t') 0 0) → WS k 10 [(0, .ref (A 179)), (1, .int (Int32.ofInt m0)), (2, .int (Int32.ofInt al)), (3, .int (Int32.ofInt fi)), (4, .int (Int32.ofInt c))] [] (Wd A dT t) 0 0 := by
    intro n
    induction n with
    | zero =>
      intro t m0 al fi c I F hq hi hm kx
      exact absurd hm (Nat.not_lt_zero _)
    | succ n ih =>
      intro t m0 al fi c I F hq hi hm kx
      refine z_load X (x := c) rfl (List.Mem.tail _ (List.Mem.tail _ (List.Mem.tail _ (List.Mem.tail _ (List.Mem.head _))))) (z_if_lt X (t := 64) rfl rfl ⟨by first | exact oq_97ee2c2a hi.2.2.2.2.1 | omega, by first | exact oq_07d346ce hi.2.2.2.2.2 | omega⟩ (fun g1001 => ?_) (fun g1001 => ?_))
      ·
        refine WS_pq [0, 1, 2, 3, 4] (lv' := [(0, .ref (A 179)), (1, .int (Int32.ofInt m0)), (2, .int (Int32.ofInt al)), (3, .int (Int32.ofInt fi)), (4, .int (Int32.ofInt c))]) rfl ?_
        exact kx _ al fi c I F hq (by first | exact ⟨hi.1, oq_19dc38cc hi.2.1 hi.2.2.2.2.1, hi.2.2.1, hi.2.2.2.1, oq_076ebabd g1001 hi.2.2.2.2.1⟩ | omega)
      ·
        refine z_aload_n X (x := A 179) rfl (List.Mem.head _) (s_getR X 179 rfl (c518_ok rfl) rfl rfl (z_load X (x := c) rfl (List.Mem.tail _ (List.Mem.tail _ (List.Mem.tail _ (List.Mem.tail _ (List.Mem.head _))))) (z_const X rfl (z_zast X 259 rfl (c518_ok rfl) rfl (by first | exact g1001 | omega) (show c < 128 by first | exact oq_31b2bf10 hi.2.2.2.2.2 | omega) (by decide) (by first | exact Or.inl (cbig_ok rfl) | omega) (wd_gen (fun s1002 hs1002 => ?_))))))
        have Is1002 : Bd s1002 := eqB hs1002 (bd_C I (show (0 : Int) ≤ 0 ∧ 0 ≤ 1 by first | exact ⟨by decide, by decide⟩ | omega) (by decide))
        have Fs1002 := eqF hs1002 (fm_C F (inl_ok (a := 231) rfl))
        refine z_load_n X (x := al) rfl (List.Mem.tail _ (List.Mem.tail _ (List.Mem.head _))) (z_aload_n X (x := A 179) rfl (List.Mem.head _) (s_getR X 179 rfl (c518_ok rfl) rfl rfl (z_load X (x := c) rfl (List.Mem.tail _ (List.Mem.tail _ (List.Mem.tail _ (List.Mem.tail _ (List.Mem.head _))))) (z_zald X 258 rfl (c518_ok rfl) rfl (by first | exact g1001 | omega) (show c < 128 by first | exact oq_31b2bf10 hi.2.2.2.2.2 | omega) (cbig_ok rfl) ?_))))
        have b1003 := bc_230 Is1002 (show (c).toNat < 128 by first | exact oq_c7f4e9c1 hi.2.2.2.2.2 | omega)
        refine z_if_eq X (t := 38) rfl rfl (rng_to _) (fun g1004 => ?_) (fun g1004 => ?_)
        ·
          refine z_const X rfl (z_add X rfl (z_store_n X (lv' := [(2, .int (Int32.ofInt (al + 0))), (0, .ref (A 179)), (1, .int (Int32.ofInt m0)), (3, .int (Int32.ofInt fi)), (4, .int (Int32.ofInt c))]) rfl (by decide) (fun _ h => h) (z_aload_n X (x := A 179) rfl (List.Mem.tail _ (List.Mem.head _)) (s_getR X 179 rfl (c518_ok rfl) rfl rfl (z_load X (x := c) rfl (List.Mem.tail _ (List.Mem.tail _ (List.Mem.tail _ (List.Mem.tail _ (List.Mem.head _))))) (z_zald X 258 rfl (c518_ok rfl) rfl (by first | exact g1001 | omega) (show c < 128 by first | exact oq_31b2bf10 hi.2.2.2.2.2 | omega) (cbig_ok rfl) ?_))))))
          have b1005 := bc_230 Is1002 (show (c).toNat < 128 by first | exact oq_c7f4e9c1 hi.2.2.2.2.2 | omega)
          refine z_if_eq X (t := 56) rfl rfl (rng_to _) (fun g1006 => ?_) (fun g1006 => ?_)
          ·
            refine z_load_n X (x := fi) rfl (List.Mem.tail _ (List.Mem.tail _ (List.Mem.tail _ (List.Mem.head _)))) (z_store_n X (lv' := [(3, .int (Int32.ofInt fi)), (2, .int (Int32.ofInt (al + 0))), (0, .ref (A 179)), (1, .int (Int32.ofInt m0)), (4, .int (Int32.ofInt c))]) rfl (by decide) (fun _ h => h) (z_inc X (x := c) (lv' := [(4, .int (Int32.ofInt (c + (-1)))), (3, .int (Int32.ofInt fi)), (2, .int (Int32.ofInt (al + 0))), (0, .ref (A 179)), (1, .int (Int32.ofInt m0))]) rfl (by decide) (List.Mem.tail _ (List.Mem.tail _ (List.Mem.tail _ (List.Mem.tail _ (List.Mem.head _))))) (fun _ h => h) (z_goto X (t := 10) rfl rfl (WS_pq [3, 4, 2, 1, 0] (lv' := [(0, .ref (A 179)), (1, .int (Int32.ofInt m0)), (2, .int (Int32.ofInt (al + 0))), (3, .int (Int32.ofInt fi)), (4, .int (Int32.ofInt (c + (-1))))]) rfl ?_))))
            exact ih _ m0 (al + 0) fi (c + (-1)) Is1002 Fs1002 (hg1_up hq (by omega) hs1002 (hSB _ (by omega)) (by have z := (fm_c Fs1002 (by decide) : iC s1002 230 (c : Int).toNat = iC s 230 (c : Int).toNat); omega)) (by first | exact ⟨oq_590e7a3f hi.1, oq_0a89e42f hi.2.1, hi.2.2.1, hi.2.2.2.1, oq_285ed02d g1001, oq_3500ac20 hi.2.2.2.2.2⟩ | omega) (by first | exact qk_me hm (by decide) (oq_7a276f11 g1001) | omega) kx
          ·
            refine z_load X (x := c) rfl (List.Mem.tail _ (List.Mem.tail _ (List.Mem.tail _ (List.Mem.tail _ (List.Mem.head _))))) (z_goto X (t := 57) rfl rfl (z_store_n X (lv' := [(3, .int (Int32.ofInt c)), (2, .int (Int32.ofInt (al + 0))), (0, .ref (A 179)), (1, .int (Int32.ofInt m0)), (4, .int (Int32.ofInt c))]) rfl (by decide) (fun _ h => h) (z_inc X (x := c) (lv' := [(4, .int (Int32.ofInt (c + (-1)))), (3, .int (Int32.ofInt c)), (2, .int (Int32.ofInt (al + 0))), (0, .ref (A 179)), (1, .int (Int32.ofInt m0))]) rfl (by decide) (List.Mem.tail _ (List.Mem.tail _ (List.Mem.tail _ (List.Mem.tail _ (List.Mem.head _))))) (fun _ h => h) (z_goto X (t := 10) rfl rfl (WS_pq [3, 4, 2, 1, 0] (lv' := [(0, .ref (A 179)), (1, .int (Int32.ofInt m0)), (2, .int (Int32.ofInt (al + 0))), (3, .int (Int32.ofInt c)), (4, .int (Int32.ofInt (c + (-1))))]) rfl ?_)))))
            exact ih _ m0 (al + 0) c (c + (-1)) Is1002 Fs1002 (hg1_up hq (by first | (clear g1006; omega) | omega) hs1002 (hSB _ (by first | (clear g1006; omega) | omega)) (by have z := (fm_c Fs1002 (by decide) : iC s1002 230 (c : Int).toNat = iC s 230 (c : Int).toNat); omega)) (by first | exact ⟨oq_590e7a3f hi.1, oq_0a89e42f hi.2.1, hi.2.2.2.2.1, hi.2.2.2.2.2, oq_285ed02d g1001, oq_3500ac20 hi.2.2.2.2.2⟩ | omega) (by first | exact qk_me hm (by decide) (oq_7a276f11 g1001) | omega) kx
        ·
          refine z_const X rfl (z_goto X (t := 39) rfl rfl (z_add X rfl (z_store_n X (lv' := [(2, .int (Int32.ofInt (al + 1))), (0, .ref (A 179)), (1, .int (Int32.ofInt m0)), (3, .int (Int32.ofInt fi)), (4, .int (Int32.ofInt c))]) rfl (by decide) (fun _ h => h) (z_aload_n X (x := A 179) rfl (List.Mem.tail _ (List.Mem.head _)) (s_getR X 179 rfl (c518_ok rfl) rfl rfl (z_load X (x := c) rfl (List.Mem.tail _ (List.Mem.tail _ (List.Mem.tail _ (List.Mem.tail _ (List.Mem.head _))))) (z_zald X 258 rfl (c518_ok rfl) rfl (by first | exact g1001 | omega) (show c < 128 by first | exact oq_31b2bf10 hi.2.2.2.2.2 | omega) (cbig_ok rfl) ?_)))))))
          have b1007 := bc_230 Is1002 (show (c).toNat < 128 by first | exact oq_c7f4e9c1 hi.2.2.2.2.2 | omega)
          refine z_if_eq X (t := 56) rfl rfl (rng_to _) (fun g1008 => ?_) (fun g1008 => ?_)
          ·
            refine z_load_n X (x := fi) rfl (List.Mem.tail _ (List.Mem.tail _ (List.Mem.tail _ (List.Mem.head _)))) (z_store_n X (lv' := [(3, .int (Int32.ofInt fi)), (2, .int (Int32.ofInt (al + 1))), (0, .ref (A 179)), (1, .int (Int32.ofInt m0)), (4, .int (Int32.ofInt c))]) rfl (by decide) (fun _ h => h) (z_inc X (x := c) (lv' := [(4, .int (Int32.ofInt (c + (-1)))), (3, .int (Int32.ofInt fi)), (2, .int (Int32.ofInt (al + 1))), (0, .ref (A 179)), (1, .int (Int32.ofInt m0))]) rfl (by decide) (List.Mem.tail _ (List.Mem.tail _ (List.Mem.tail _ (List.Mem.tail _ (List.Mem.head _))))) (fun _ h => h) (z_goto X (t := 10) rfl rfl (WS_pq [3, 4, 2, 1, 0] (lv' := [(0, .ref (A 179)), (1, .int (Int32.ofInt m0)), (2, .int (Int32.ofInt (al + 1))), (3, .int (Int32.ofInt fi)), (4, .int (Int32.ofInt (c + (-1))))]) rfl ?_))))
            exact ih _ m0 (al + 1) fi (c + (-1)) Is1002 Fs1002 (hg1_up hq (by first | (clear g1004; omega) | omega) hs1002 (hSB _ (by first | (clear g1004; omega) | omega)) (by have z := (fm_c Fs1002 (by decide) : iC s1002 230 (c : Int).toNat = iC s 230 (c : Int).toNat); omega)) (by first | exact ⟨oq_54f49eb5 hi.1, oq_928ce229 hi.2.1, hi.2.2.1, hi.2.2.2.1, oq_285ed02d g1001, oq_3500ac20 hi.2.2.2.2.2⟩ | omega) (by first | exact qk_me hm (by decide) (oq_7a276f11 g1001) | omega) kx
          ·
            refine z_load X (x := c) rfl (List.Mem.tail _ (List.Mem.tail _ (List.Mem.tail _ (List.Mem.tail _ (List.Mem.head _))))) (z_goto X (t := 57) rfl rfl (z_store_n X (lv' := [(3, .int (Int32.ofInt c)), (2, .int (Int32.ofInt (al + 1))), (0, .ref (A 179)), (1, .int (Int32.ofInt m0)), (4, .int (Int32.ofInt c))]) rfl (by decide) (fun _ h => h) (z_inc X (x := c) (lv' := [(4, .int (Int32.ofInt (c + (-1)))), (3, .int (Int32.ofInt c)), (2, .int (Int32.ofInt (al + 1))), (0, .ref (A 179)), (1, .int (Int32.ofInt m0))]) rfl (by decide) (List.Mem.tail _ (List.Mem.tail _ (List.Mem.tail _ (List.Mem.tail _ (List.Mem.head _))))) (fun _ h => h) (z_goto X (t := 10) rfl rfl (WS_pq [3, 4, 2, 1, 0] (lv' := [(0, .ref (A 179)), (1, .int (Int32.ofInt m0)), (2, .int (Int32.ofInt (al + 1))), (3, .int (Int32.ofInt c)), (4, .int (Int32.ofInt (c + (-1))))]) rfl ?_)))))
            exact ih _ m0 (al + 1) c (c + (-1)) Is1002 Fs1002 (hg1_up hq (by first | (clear g1008 g1004; omega) | (clear g1004; omega) | omega) hs1002 (hSB _ (by first | (clear g1008 g1004; omega) | (clear g1004; omega) | omega)) (by have z := (fm_c Fs1002 (by decide) : iC s1002 230 (c : Int).toNat = iC s 230 (c : Int).toNat); omega)) (by first | exact ⟨oq_54f49eb5 hi.1, oq_928ce229 hi.2.1, hi.2.2.2.2.1, hi.2.2.2.2.2, oq_285ed02d g1001, oq_3500ac20 hi.2.2.2.2.2⟩ | omega) (by first | exact qk_me hm (by decide) (oq_7a276f11 g1001) | omega) kx
  have L99 : ∀ (n : Nat) (t : PS) (m0 al fi ka st0 : Int), Bd t → Fm [] [231, 232] s t → (HGQ s al fi m0 ka st0 t) → ((0 ≤ al ∧ al ≤ 128) ∧ 1 ≤ m0 ∧ m0 ≤ 128 ∧ 0 ≤ ka ∧ ka < m0 ∧ 0 ≤ st0 ∧ st0 ≤ 6 ∧ smM t = m0) → (6 - st0 : Int).toNat < n → (∀ (t' : PS) (m0' st0' : Int), Bd t' → Fm [] [231, 232] s t' → (HGQ s al fi m0' ka st0' t') → ((0 ≤ al ∧ al ≤ 128) ∧ 1 ≤ m0' ∧ m0' ≤ 128 ∧ 0 ≤ ka ∧ ka < m0' ∧ st0' = 6 ∧ smM t' = m0') → WS k 174 [(0, .ref (A 179)), (1, .int (Int32.ofInt m0')), (2, .int (Int32.ofInt al)), (3, .int (Int32.ofInt fi)), (4, .int (Int32.ofInt ka)), (5, .int (Int32.ofInt st0'))] [] (Wd A dT t') 0 0) → WS k 99 [(0, .ref (A 179)), (1, .int (Int32.ofInt m0)), (2, .int (Int32.ofInt al)), (3, .int (Int32.ofInt fi)), (4, .int (Int32.ofInt ka)), (5, .int (Int32.ofInt st0))] [] (Wd A dT t) 0 0 := by
    intro n
    induction n with
    | zero =>
      intro t m0 al fi ka st0 I F hq hi hm kx
      exact absurd hm (Nat.not_lt_zero _)
    | succ n ih =>
      intro t m0 al fi ka st0 I F hq hi hm kx
      refine z_load X (x := st0) rfl (List.Mem.tail _ (List.Mem.tail _ (List.Mem.tail _ (List.Mem.tail _ (List.Mem.tail _ (List.Mem.head _)))))) (z_bipush X rfl (z_icmp_ge X (t := 174) rfl rfl ⟨by first | exact oq_fa4e5087 hi.2.2.2.2.2.1 | omega, by first | exact oq_b301c3bf hi.2.2.2.2.2.2.1 | omega⟩ (by decide) (fun g2001 => ?_) (fun g2001 => ?_)))
      ·
        refine WS_pq [0, 1, 2, 3, 4, 5] (lv' := [(0, .ref (A 179)), (1, .int (Int32.ofInt m0)), (2, .int (Int32.ofInt al)), (3, .int (Int32.ofInt fi)), (4, .int (Int32.ofInt ka)), (5, .int (Int32.ofInt st0))]) rfl ?_
        exact kx _ m0 st0 I F hq (by first | exact ⟨And.intro (hi.1.1) (hi.1.2), hi.2.1, hi.2.2.1, hi.2.2.2.1, hi.2.2.2.2.1, oq_0dbc568f hi.2.2.2.2.2.2.1 g2001, hi.2.2.2.2.2.2.2⟩ | omega)
      ·
        refine z_aload_n X (x := A 179) rfl (List.Mem.head _) (s_getR X 179 rfl (c518_ok rfl) rfl rfl (z_load X (x := ka) rfl (List.Mem.tail _ (List.Mem.tail _ (List.Mem.tail _ (List.Mem.tail _ (List.Mem.head _))))) (z_ald X 260 rfl (c518_ok rfl) rfl (by first | exact hi.2.2.2.1 | omega) (show ka < 128 by first | exact oq_13b70d5e hi.2.2.2.2.1 hi.2.2.1 | omega) (cbig_ok rfl) ?_)))
        have b2002 := bc_232 I (show (ka).toNat < 128 by first | exact oq_293b3716 hi.2.2.2.2.1 hi.2.2.1 | omega)
        refine z_load X (x := st0) rfl (List.Mem.tail _ (List.Mem.tail _ (List.Mem.tail _ (List.Mem.tail _ (List.Mem.tail _ (List.Mem.head _)))))) (z_callS X (rm := rmN 190) (As := [.int (Int32.ofInt (iC t 232 (ka).toNat)), .int (Int32.ofInt st0)]) (st := []) rfl rfl (by rw [E.1, E.2.1, E.2.2.1]; exact k_beside2 G I (by first | exact ⟨b2002.1, b2002.2⟩ | omega) (by first | exact ⟨hi.2.2.2.2.2.1, oq_a4cef127 g2001⟩ | omega)) ⟨by rw [E.2.2.2]; exact (show (rmN 190).frames + 1 ≤ (rmN 239).frames by decide), by rw [E.2.2.2]; exact (show 8 + (mNL (miB 190) + 11) + (rmN 190).locals ≤ (rmN 239).locals by decide), by rw [E.2.2.2]; exact (show 0 + (rmN 190).cells ≤ (rmN 239).cells by decide), by rw [E.2.2.2]; exact (show 0 + (rmN 190).slots ≤ (rmN 239).slots by decide)⟩ (Nat.le_of_ble_eq_true rfl) (fun vv s2003 hq => ?_) (fun ee s2003 hq => ?_))
        rotate_left
        · obtain ⟨rfl, e2004, hv, hrs2003, hps2003⟩ := hq; cases hv
        obtain ⟨rfl, e2004, hv, hrs2003, hps2003⟩ := hq
        cases hv
        show WS k 118 [(0, .ref (A 179)), (1, .int (Int32.ofInt m0)), (2, .int (Int32.ofInt al)), (3, .int (Int32.ofInt fi)), (4, .int (Int32.ofInt ka)), (5, .int (Int32.ofInt st0))] [.int (Int32.ofInt e2004)] (Wd A dT t) 0 0
        refine z_store X (lv' := [(6, .int (Int32.ofInt e2004)), (0, .ref (A 179)), (1, .int (Int32.ofInt m0)), (2, .int (Int32.ofInt al)), (3, .int (Int32.ofInt fi)), (4, .int (Int32.ofInt ka)), (5, .int (Int32.ofInt st0))]) rfl (by decide) (fun _ h => h) (z_load X (x := e2004) rfl (List.Mem.head _) (z_const X rfl (z_icmp_eq X (t := 168) rfl rfl hrs2003 (by decide) (fun g2005 => ?_) (fun g2005 => ?_))))
        ·
          refine z_inc X (x := st0) (lv' := [(5, .int (Int32.ofInt (st0 + 1))), (6, .int (Int32.ofInt e2004)), (0, .ref (A 179)), (1, .int (Int32.ofInt m0)), (2, .int (Int32.ofInt al)), (3, .int (Int32.ofInt fi)), (4, .int (Int32.ofInt ka))]) rfl (by decide) (List.Mem.tail _ (List.Mem.tail _ (List.Mem.tail _ (List.Mem.tail _ (List.Mem.tail _ (List.Mem.tail _ (List.Mem.head _))))))) (fun _ h => h) (z_goto X (t := 99) rfl rfl (WS_pq [2, 3, 4, 5, 6, 0] (lv' := [(0, .ref (A 179)), (1, .int (Int32.ofInt m0)), (2, .int (Int32.ofInt al)), (3, .int (Int32.ofInt fi)), (4, .int (Int32.ofInt ka)), (5, .int (Int32.ofInt (st0 + 1)))]) rfl ?_))
          exact ih _ m0 al fi ka (st0 + 1) I F (hgq_n hq hps2003.1 (by have z := (fm_c F (by decide) : iC t 230 (e2004 : Int).toNat = iC s 230 (e2004 : Int).toNat); omega)) (by first | exact ⟨And.intro (hi.1.1) (hi.1.2), hi.2.1, hi.2.2.1, hi.2.2.2.1, hi.2.2.2.2.1, oq_54f49eb5 hi.2.2.2.2.2.1, oq_5bf54478 g2001, hi.2.2.2.2.2.2.2⟩ | omega) (by first | exact qk_me hm (by decide) (oq_2265a080 g2001) | omega) kx
        ·
          refine z_aload_n X (x := A 179) rfl (List.Mem.tail _ (List.Mem.head _)) (s_getR X 179 rfl (c518_ok rfl) rfl rfl (z_load X (x := e2004) rfl (List.Mem.head _) (z_zald X 258 rfl (c518_ok rfl) rfl (by first | exact oq_7a1025bf g2005 hps2003.2.1 | omega) (show e2004 < 128 by first | exact oq_31b2bf10 hps2003.2.2 | omega) (cbig_ok rfl) ?_)))
          have b2006 := bc_230 I (show (e2004).toNat < 128 by first | exact oq_c7f4e9c1 hps2003.2.2 | omega)
          refine z_if_eq X (t := 168) rfl rfl (rng_to _) (fun g2007 => ?_) (fun g2007 => ?_)
          ·
            refine z_inc X (x := st0) (lv' := [(5, .int (Int32.ofInt (st0 + 1))), (6, .int (Int32.ofInt e2004)), (0, .ref (A 179)), (1, .int (Int32.ofInt m0)), (2, .int (Int32.ofInt al)), (3, .int (Int32.ofInt fi)), (4, .int (Int32.ofInt ka))]) rfl (by decide) (List.Mem.tail _ (List.Mem.tail _ (List.Mem.tail _ (List.Mem.tail _ (List.Mem.tail _ (List.Mem.tail _ (List.Mem.head _))))))) (fun _ h => h) (z_goto X (t := 99) rfl rfl (WS_pq [2, 3, 4, 5, 6, 0] (lv' := [(0, .ref (A 179)), (1, .int (Int32.ofInt m0)), (2, .int (Int32.ofInt al)), (3, .int (Int32.ofInt fi)), (4, .int (Int32.ofInt ka)), (5, .int (Int32.ofInt (st0 + 1)))]) rfl ?_))
            exact ih _ m0 al fi ka (st0 + 1) I F (hgq_n hq hps2003.1 (by have z := (fm_c F (by decide) : iC t 230 (e2004 : Int).toNat = iC s 230 (e2004 : Int).toNat); omega)) (by first | exact ⟨And.intro (hi.1.1) (hi.1.2), hi.2.1, hi.2.2.1, hi.2.2.2.1, hi.2.2.2.2.1, oq_54f49eb5 hi.2.2.2.2.2.1, oq_5bf54478 g2001, hi.2.2.2.2.2.2.2⟩ | omega) (by first | exact qk_me hm (by decide) (oq_2265a080 g2001) | omega) kx
          ·
            refine z_aload_n X (x := A 179) rfl (List.Mem.tail _ (List.Mem.head _)) (s_getR X 179 rfl (c518_ok rfl) rfl rfl (z_load X (x := e2004) rfl (List.Mem.head _) (z_zald X 259 rfl (c518_ok rfl) rfl (by first | exact oq_7a1025bf g2005 hps2003.2.1 | omega) (show e2004 < 128 by first | exact oq_31b2bf10 hps2003.2.2 | omega) (cbig_ok rfl) ?_)))
            have b2008 := bc_231 I (show (e2004).toNat < 128 by first | exact oq_c7f4e9c1 hps2003.2.2 | omega)
            refine z_if_eq X (t := 149) rfl rfl (rng_to _) (fun g2009 => ?_) (fun g2009 => ?_)
            ·
              have sl2010 := SM_le I (i := (e2004 : Int).toNat) (by first | (clear g2007 g2005; omega) | (clear g2005; omega) | omega) (by first | (clear g2007 g2005; omega) | (clear g2005; omega) | omega)
              refine z_aload_n X (x := A 179) rfl (List.Mem.tail _ (List.Mem.head _)) (s_getR X 179 rfl (c518_ok rfl) rfl rfl (z_load X (x := e2004) rfl (List.Mem.head _) (z_const X rfl (z_zast X 259 rfl (c518_ok rfl) rfl (by first | exact oq_7a1025bf g2005 hps2003.2.1 | omega) (show e2004 < 128 by first | exact oq_31b2bf10 hps2003.2.2 | omega) (by decide) (by first | exact Or.inr (cbig_ok rfl) | omega) (wd_gen (fun s2011 hs2011 => ?_))))))
              have Is2011 : Bd s2011 := eqB hs2011 (bd_C I (show (0 : Int) ≤ 1 ∧ 1 ≤ 1 by first | exact ⟨by decide, by decide⟩ | omega) (by decide))
              have Fs2011 := eqF hs2011 (fm_C F (inl_ok (a := 231) rfl))
              have sa2012 : smM s2011 = smM t + 1 := by rw [hs2011]; exact SM_st (by first | (clear g2007 g2005; omega) | (clear g2005; omega) | omega) (by first | (clear g2007 g2005; omega) | (clear g2005; omega) | omega)
              refine z_aload_n X (x := A 179) rfl (List.Mem.tail _ (List.Mem.head _)) (s_getR X 179 rfl (c518_ok rfl) rfl rfl (z_load_n X (x := m0) rfl (List.Mem.tail _ (List.Mem.tail _ (List.Mem.head _))) (z_load X (x := e2004) rfl (List.Mem.head _) (z_ast X 260 rfl (c518_ok rfl) rfl (by first | exact oq_2a6e3b50 hi.2.1 | omega) (show m0 < 128 by first | (clear g2007 g2005; omega) | (clear g2005; omega) | omega) (cbig_ok rfl) (wd_gen (fun s2013 hs2013 => ?_))))))
              have Is2013 : Bd s2013 := eqB hs2013 (bd_C Is2011 (show (0 : Int) ≤ e2004 ∧ e2004 ≤ 127 by first | exact ⟨oq_7a1025bf g2005 hps2003.2.1, hps2003.2.2⟩ | omega) hrs2003)
              have Fs2013 := eqF hs2013 (fm_C Fs2011 (inl_ok (a := 232) rfl))
              have sa2014 : smM s2013 = smM s2011 := by rw [hs2013]; exact SM_o (by decide)
              refine z_inc X (x := m0) (lv' := [(1, .int (Int32.ofInt (m0 + 1))), (6, .int (Int32.ofInt e2004)), (0, .ref (A 179)), (2, .int (Int32.ofInt al)), (3, .int (Int32.ofInt fi)), (4, .int (Int32.ofInt ka)), (5, .int (Int32.ofInt st0))]) rfl (by decide) (List.Mem.tail _ (List.Mem.tail _ (List.Mem.head _))) (fun _ h => h) (z_inc X (x := st0) (lv' := [(5, .int (Int32.ofInt (st0 + 1))), (1, .int (Int32.ofInt (m0 + 1))), (6, .int (Int32.ofInt e2004)), (0, .ref (A 179)), (2, .int (Int32.ofInt al)), (3, .int (Int32.ofInt fi)), (4, .int (Int32.ofInt ka))]) rfl (by decide) (List.Mem.tail _ (List.Mem.tail _ (List.Mem.tail _ (List.Mem.tail _ (List.Mem.tail _ (List.Mem.tail _ (List.Mem.head _))))))) (fun _ h => h) (z_goto X (t := 99) rfl rfl (WS_pq [3, 1, 4, 5, 6, 0] (lv' := [(0, .ref (A 179)), (1, .int (Int32.ofInt (m0 + 1))), (2, .int (Int32.ofInt al)), (3, .int (Int32.ofInt fi)), (4, .int (Int32.ofInt ka)), (5, .int (Int32.ofInt (st0 + 1)))]) rfl ?_)))
              exact ih _ (m0 + 1) al fi ka (st0 + 1) Is2013 Fs2013 (hgq_y hq (by first | (clear g2007 g2005; omega) | (clear g2005; omega) | omega) (by first | (clear g2007 g2005; omega) | (clear g2005; omega) | omega) (by first | (clear g2007 g2005; omega) | (clear g2005; omega) | omega) hps2003.1 (by first | (clear g2007 g2005; omega) | (clear g2005; omega) | omega) (by have z := (fm_c F (by decide) : iC t 230 (e2004 : Int).toNat = iC s 230 (e2004 : Int).toNat); omega) (by first | (clear g2007 g2005; omega) | (clear g2005; omega) | omega) hs2011 hs2013) (by first | exact ⟨And.intro (hi.1.1) (hi.1.2), oq_1e1a2df6 hi.2.1, by first | (clear g2007 g2005; omega) | (clear g2005; omega) | omega, hi.2.2.2.1, oq_d130ae0d hi.2.2.2.2.1, oq_54f49eb5 hi.2.2.2.2.2.1, oq_5bf54478 g2001, oq_20fce6d9 sa2014 sa2012 hi.2.2.2.2.2.2.2⟩ | omega) (by first | exact qk_me hm (by decide) (oq_2265a080 g2001) | omega) kx
            ·
              refine z_goto X (t := 168) rfl rfl (z_inc X (x := st0) (lv' := [(5, .int (Int32.ofInt (st0 + 1))), (6, .int (Int32.ofInt e2004)), (0, .ref (A 179)), (1, .int (Int32.ofInt m0)), (2, .int (Int32.ofInt al)), (3, .int (Int32.ofInt fi)), (4, .int (Int32.ofInt ka))]) rfl (by decide) (List.Mem.tail _ (List.Mem.tail _ (List.Mem.tail _ (List.Mem.tail _ (List.Mem.tail _ (List.Mem.tail _ (List.Mem.head _))))))) (fun _ h => h) (z_goto X (t := 99) rfl rfl (WS_pq [2, 3, 4, 5, 6, 0] (lv' := [(0, .ref (A 179)), (1, .int (Int32.ofInt m0)), (2, .int (Int32.ofInt al)), (3, .int (Int32.ofInt fi)), (4, .int (Int32.ofInt ka)), (5, .int (Int32.ofInt (st0 + 1)))]) rfl ?_)))
              exact ih _ m0 al fi ka (st0 + 1) I F (hgq_n hq hps2003.1 (by have z := (fm_c F (by decide) : iC t 230 (e2004 : Int).toNat = iC s 230 (e2004 : Int).toNat); omega)) (by first | exact ⟨And.intro (hi.1.1) (hi.1.2), hi.2.1, hi.2.2.1, hi.2.2.2.1, hi.2.2.2.2.1, oq_54f49eb5 hi.2.2.2.2.2.1, oq_5bf54478 g2001, hi.2.2.2.2.2.2.2⟩ | omega) (by first | exact qk_me hm (by decide) (oq_2265a080 g2001) | omega) kx
  have L90 : ∀ (n : Nat) (t : PS) (m0 al fi ka : Int), Bd t → Fm [] [231, 232] s t → (HGQ s al fi m0 ka 0 t) → ((0 ≤ al ∧ al ≤ 128) ∧ 1 ≤ m0 ∧ m0 ≤ 128 ∧ 0 ≤ ka ∧ ka ≤ m0 ∧ smM t = m0) → (128 - ka : Int).toNat < n → (∀ (t' : PS) (m0' ka' : Int), Bd t' → Fm [] [231, 232] s t' → (HGQ s al fi m0' ka' 0 t') → ((0 ≤ al ∧ al ≤ 128) ∧ 1 ≤ m0' ∧ m0' ≤ 128 ∧ m0' ≤ ka' ∧ smM t' = m0') → WS k 180 [(0, .ref (A 179)), (1, .int (Int32.ofInt m0')), (2, .int (Int32.ofInt al)), (3, .int (Int32.ofInt fi)), (4, .int (Int32.ofInt ka'))] [] (Wd A dT t') 0 0) → WS k 90 [(0, .ref (A 179)), (1, .int (Int32.ofInt m0)), (2, .int (Int32.ofInt al)), (3, .int (Int32.ofInt fi)), (4, .int (Int32.ofInt ka))] [] (Wd A dT t) 0 0 := by
    intro n
    induction n with
    | zero =>
      intro t m0 al fi ka I F hq hi hm kx
      exact absurd hm (Nat.not_lt_zero _)
    | succ n ih =>
      intro t m0 al fi ka I F hq hi hm kx
      refine z_load X (x := ka) rfl (List.Mem.tail _ (List.Mem.tail _ (List.Mem.tail _ (List.Mem.tail _ (List.Mem.head _))))) (z_load_n X (x := m0) rfl (List.Mem.tail _ (List.Mem.head _)) (z_icmp_ge X (t := 180) rfl rfl ⟨by first | exact oq_fa4e5087 hi.2.2.2.1 | omega, by first | exact oq_9eb6cd9c hi.2.2.2.2.1 hi.2.2.1 | omega⟩ ⟨by first | exact oq_9462313e hi.2.1 | omega, by first | exact oq_4ee82282 hi.2.2.1 | omega⟩ (fun g3001 => ?_) (fun g3001 => ?_)))
      ·
        refine WS_pq [0, 1, 2, 3, 4] (lv' := [(0, .ref (A 179)), (1, .int (Int32.ofInt m0)), (2, .int (Int32.ofInt al)), (3, .int (Int32.ofInt fi)), (4, .int (Int32.ofInt ka))]) rfl ?_
        exact kx _ m0 ka I F hq (by first | exact ⟨And.intro (hi.1.1) (hi.1.2), hi.2.1, hi.2.2.1, g3001, hi.2.2.2.2.2⟩ | omega)
      ·
        refine z_const X rfl (z_store X (lv' := [(5, .int (Int32.ofInt 0)), (0, .ref (A 179)), (1, .int (Int32.ofInt m0)), (2, .int (Int32.ofInt al)), (3, .int (Int32.ofInt fi)), (4, .int (Int32.ofInt ka))]) rfl (by decide) (fun _ h => h) (WS_pq [1, 2, 3, 4, 5, 0] (lv' := [(0, .ref (A 179)), (1, .int (Int32.ofInt m0)), (2, .int (Int32.ofInt al)), (3, .int (Int32.ofInt fi)), (4, .int (Int32.ofInt ka)), (5, .int (Int32.ofInt 0))]) rfl (L99 ((6 - 0 : Int).toNat + 1) t m0 al fi ka 0 I F hq (by first | exact ⟨And.intro (hi.1.1) (hi.1.2), hi.2.1, hi.2.2.1, hi.2.2.2.1, g3001, by decide, by decide, hi.2.2.2.2.2⟩ | omega) (Nat.lt_succ_self _) ?_)))
        intro s3002 x3003 x3004 Is3002 Fs3002 Qs3002 hs3002
        refine z_inc X (x := ka) (lv' := [(4, .int (Int32.ofInt (ka + 1))), (0, .ref (A 179)), (1, .int (Int32.ofInt x3003)), (2, .int (Int32.ofInt al)), (3, .int (Int32.ofInt fi)), (5, .int (Int32.ofInt x3004))]) rfl (by decide) (List.Mem.tail _ (List.Mem.tail _ (List.Mem.tail _ (List.Mem.tail _ (List.Mem.head _))))) (fun _ h => h) (z_goto X (t := 90) rfl rfl (WS_pq [1, 2, 3, 4, 0] (lv' := [(0, .ref (A 179)), (1, .int (Int32.ofInt x3003)), (2, .int (Int32.ofInt al)), (3, .int (Int32.ofInt fi)), (4, .int (Int32.ofInt (ka + 1)))]) rfl ?_))
        exact ih _ x3003 al fi (ka + 1) Is3002 Fs3002 (hgq_k Qs3002 (by omega) (by omega)) (by first | exact ⟨And.intro (hs3002.1.1) (hs3002.1.2), hs3002.2.1, hs3002.2.2.1, oq_54f49eb5 hs3002.2.2.2.1, oq_afc84a8d hs3002.2.2.2.2.1, hs3002.2.2.2.2.2.2⟩ | omega) (by first | exact qk_me hm (by decide) (oq_3bafc0a8 hs3002.2.2.2.2.1 hs3002.2.2.1) | omega) kx
  refine z_const X rfl (z_store_n X (lv' := [(1, .int (Int32.ofInt 0)), (0, .ref (A 179))]) rfl (by decide) (fun _ h => h) (z_const X rfl (z_store_n X (lv' := [(2, .int (Int32.ofInt 0)), (1, .int (Int32.ofInt 0)), (0, .ref (A 179))]) rfl (by decide) (fun _ h => h) (z_const X rfl (z_store_n X (lv' := [(3, .int (Int32.ofInt (-1))), (2, .int (Int32.ofInt 0)), (1, .int (Int32.ofInt 0)), (0, .ref (A 179))]) rfl (by decide) (fun _ h => h) (z_bipush X rfl (z_store X (lv' := [(4, .int (Int32.ofInt 127)), (3, .int (Int32.ofInt (-1))), (2, .int (Int32.ofInt 0)), (1, .int (Int32.ofInt 0)), (0, .ref (A 179))]) rfl (by decide) (fun _ h => h) (WS_pq [4, 3, 2, 1, 0] (lv' := [(0, .ref (A 179)), (1, .int (Int32.ofInt 0)), (2, .int (Int32.ofInt 0)), (3, .int (Int32.ofInt (-1))), (4, .int (Int32.ofInt 127))]) rfl (L10 ((127 + 1 : Int).toNat + 1) s 0 0 (-1) 127 I F hg1_0 (by first | exact ⟨by decide, by decide, by decide, by decide, by decide, by decide⟩ | omega) (Nat.lt_succ_self _) ?_)))))))))
  intro s1 x2 x3 x4 Is1 Fs1 Qs1 hs1
  refine z_load_n X (x := x3) rfl (List.Mem.tail _ (List.Mem.tail _ (List.Mem.tail _ (List.Mem.head _)))) (z_const X rfl (z_icmp_ne X (t := 71) rfl rfl ⟨by first | exact oq_97ee2c2a hs1.2.2.1 | omega, by first | exact oq_07d346ce hs1.2.2.2.1 | omega⟩ (by decide) (fun g5 => ?_) (fun g5 => ?_)))
  ·
    refine z_aload_n X (x := A 179) rfl (List.Mem.head _) (s_getR X 179 rfl (c518_ok rfl) rfl rfl (z_const X rfl (z_load_n X (x := x3) rfl (List.Mem.tail _ (List.Mem.tail _ (List.Mem.tail _ (List.Mem.head _)))) (z_ast X 260 rfl (c518_ok rfl) rfl (by decide) (show 0 < 128 by decide) (cbig_ok rfl) (wd_gen (fun s6 hs6 => ?_))))))
    have Is6 : Bd s6 := eqB hs6 (bd_C Is1 (show (0 : Int) ≤ x3 ∧ x3 ≤ 127 by first | exact ⟨oq_7a1025bf g5 hs1.2.2.1, hs1.2.2.2.1⟩ | omega) ⟨by first | exact oq_97ee2c2a hs1.2.2.1 | omega, by first | exact oq_07d346ce hs1.2.2.2.1 | omega⟩)
    have Fs6 := eqF hs6 (fm_C Fs1 (inl_ok (a := 232) rfl))
    have hz0 : ∀ j, j < 128 → iC s6 231 j = 0 := fun j hj => by rw [hs6, iC_a (by decide)]; exact Qs1.1 j hj (by first | (clear g5; omega) | omega)
    have sm0 : smM s6 = 0 := SM_0 hz0
    refine z_aload_n X (x := A 179) rfl (List.Mem.head _) (s_getR X 179 rfl (c518_ok rfl) rfl rfl (z_load_n X (x := x3) rfl (List.Mem.tail _ (List.Mem.tail _ (List.Mem.tail _ (List.Mem.head _)))) (z_const X rfl (z_zast X 259 rfl (c518_ok rfl) rfl (by first | exact oq_7a1025bf g5 hs1.2.2.1 | omega) (show x3 < 128 by first | exact oq_31b2bf10 hs1.2.2.2.1 | omega) (by decide) (by first | exact Or.inr (cbig_ok rfl) | omega) (wd_gen (fun s7 hs7 => ?_))))))
    have Is7 : Bd s7 := eqB hs7 (bd_C Is6 (show (0 : Int) ≤ 1 ∧ 1 ≤ 1 by first | exact ⟨by decide, by decide⟩ | omega) (by decide))
    have Fs7 := eqF hs7 (fm_C Fs6 (inl_ok (a := 231) rfl))
    have sm1 : smM s7 = smM s6 + 1 := by rw [hs7]; exact SM_st (by first | (clear g5; omega) | omega) (hz0 _ (by first | (clear g5; omega) | omega))
    refine z_const X rfl (z_store_n X (lv' := [(1, .int (Int32.ofInt 1)), (0, .ref (A 179)), (2, .int (Int32.ofInt x2)), (3, .int (Int32.ofInt x3)), (4, .int (Int32.ofInt x4))]) rfl (by decide) (fun _ h => h) (z_const X rfl (z_store X (lv' := [(4, .int (Int32.ofInt 0)), (1, .int (Int32.ofInt 1)), (0, .ref (A 179)), (2, .int (Int32.ofInt x2)), (3, .int (Int32.ofInt x3))]) rfl (by decide) (fun _ h => h) (WS_pq [2, 1, 3, 4, 0] (lv' := [(0, .ref (A 179)), (1, .int (Int32.ofInt 1)), (2, .int (Int32.ofInt x2)), (3, .int (Int32.ofInt x3)), (4, .int (Int32.ofInt 0))]) rfl (L90 ((128 - 0 : Int).toNat + 1) s7 1 x2 x3 0 Is7 Fs7 (hgq_0 Qs1 (by first | (clear g5; omega) | omega) (by first | (clear g5; omega) | omega) hs6 hs7) (by first | exact ⟨And.intro (hs1.1) (hs1.2.1), by decide, by decide, by decide, by decide, oq_303f220b sm1 sm0⟩ | omega) (Nat.lt_succ_self _) ?_)))))
    intro s8 x9 x10 Is8 Fs8 Qs8 hs8
    refine z_load_n X (x := x9) rfl (List.Mem.tail _ (List.Mem.head _)) (z_load_n X (x := x2) rfl (List.Mem.tail _ (List.Mem.tail _ (List.Mem.head _))) (z_icmp_ne X (t := 189) rfl rfl ⟨by first | exact oq_9462313e hs8.2.1 | omega, by first | exact oq_4ee82282 hs8.2.2.1 | omega⟩ ⟨by first | exact oq_fa4e5087 hs8.1.1 | omega, by first | exact oq_4ee82282 hs8.1.2 | omega⟩ (fun g11 => ?_) (fun g11 => ?_)))
    ·
      refine z_const X rfl ?_
      exact w_iret X.1 q hRt (nar_ret (by first | exact Or.inl (by decide) | omega)) (ax_d X (show cdA 239 190 = some (.ireturn, 1, 0, 0, 0) from rfl)) (Nat.zero_le _) (Nat.zero_le _) ⟨_, rfl, Is8, Fs8, 0, rfl, (by decide), ⟨by first | exact Or.inl (by decide) | omega, hg_end Qs8 (by first | (clear g11 g5; omega) | (clear g5; omega) | omega) (by first | (clear g11 g5; omega) | (clear g5; omega) | omega) hSB (by first | (clear g11 g5; omega) | (clear g5; omega) | omega)⟩⟩
    ·
      refine z_const X rfl (z_goto X (t := 190) rfl rfl ?_)
      exact w_iret X.1 q hRt (nar_ret (by first | exact Or.inr (by decide) | omega)) (ax_d X (show cdA 239 190 = some (.ireturn, 1, 0, 0, 0) from rfl)) (Nat.zero_le _) (Nat.zero_le _) ⟨_, rfl, Is8, Fs8, 1, rfl, (by decide), ⟨by first | exact Or.inr (by decide) | omega, hg_end Qs8 (by first | (clear g5; omega) | omega) (by first | (clear g5; omega) | omega) hSB (by first | (clear g5; omega) | omega)⟩⟩
  ·
    refine z_const X rfl ?_
    exact w_iret X.1 q hRt (nar_ret (by first | exact Or.inr (by decide) | omega)) (ax_d X (show cdA 239 70 = some (.ireturn, 1, 0, 0, 0) from rfl)) (Nat.zero_le _) (Nat.zero_le _) ⟨_, rfl, Is1, Fs1, 1, rfl, (by decide), ⟨Or.inr rfl, hg1_no Qs1 (by omega) (by omega)⟩⟩
end M87s
end
section
theorem oq_a89775b0 {a0 a1 a2 : Int} (h0 : a0 ≤ (384000 * a1)) (h1 : a1 ≤ a2) (h2 : a2 ≤ 12) : a0 ≤ 2147483647 := by omega
theorem oq_ab9f450b {a0 a1 a2 : Int} (h0 : a0 ≤ (27600 * a1)) (h1 : a1 ≤ a2) (h2 : a2 ≤ 12) : a0 ≤ 2147483647 := by omega
/-! Loads and peaks: what both sides work out, of one and the same air -/
abbrev LdF : Type := (Nat → Int32) → Int32
/-- load, ways, mosts by quarter, totals, how many streams -/
abbrev AirD : Type := LdF × WyS × (Nat → Nat → Int) × (Nat → Int) × Nat
abbrev uL (U : AirD) : LdF := U.1
abbrev uW (U : AirD) : WyS := U.2.1
abbrev uM (U : AirD) : Nat → Nat → Int := U.2.2.1
abbrev uT (U : AirD) : Nat → Int := U.2.2.2.1
abbrev uN (U : AirD) : Nat := U.2.2.2.2
/-- ways that are the same as far as they go -/
def WyE (n : Nat) (w w' : WyS) : Prop := ∀ x, x < n → w.2 x = w'.2 x ∧ ∀ k : Nat, (k : Int) < w.2 x → w.1 x k = w'.1 x k
theorem wye_rf {n : Nat} {w : WyS} : WyE n w w := fun _ _ => ⟨rfl, fun _ _ => rfl⟩
theorem vi_c {S : Int → Prop} {f g : Nat → Int} {z : Int} (h : ∀ k : Nat, (k : Int) < z → f k = g k) : viH S f z ↔ viH S g z := ⟨fun ⟨k, k1, k2⟩ => ⟨k, k1, by rw [← h k k1]; exact k2⟩, fun ⟨k, k1, k2⟩ => ⟨k, k1, by rw [h k k1]; exact k2⟩⟩
theorem ov_c {S : Int → Prop} {f g : Nat → Int} {z : Int} (h : ∀ k : Nat, (k : Int) < z → f k = g k) : ovH S f (z - 1).toNat = ovH S g (z - 1).toNat := sm_eq (fun k hk => by
  have e1 := h k (by omega)
  have e2 := h (k + 1) (by omega)
  simp only [e1, e2])
theorem in_c {S : Int → Prop} {f g : Nat → Int} {z : Int} (h : ∀ k : Nat, (k : Int) < z → f k = g k) : inH S f (z - 1).toNat = inH S g (z - 1).toNat := sm_eq (fun k hk => by
  have e1 := h k (by omega)
  have e2 := h (k + 1) (by omega)
  simp only [e1, e2])
theorem cl_c {S : Int → Prop} {f g : Nat → Int} {z : Int} (h : ∀ k : Nat, (k : Int) < z → f k = g k) : clH S f (z - 1).toNat = clH S g (z - 1).toNat := sm_eq (fun k hk => by
  have e1 := h k (by omega)
  have e2 := h (k + 1) (by omega)
  simp only [e1, e2])
theorem gok_c {f g : Nat → Int} {z : Int} {k : Nat} (hk : (k : Int) < z) (h : ∀ k : Nat, (k : Int) < z → f k = g k) : goK f z k = goK g z k := by
  unfold goK
  by_cases q1 : z = 1
  · rw [if_pos q1, if_pos q1]
  · rw [if_neg q1, if_neg q1]
    by_cases q2 : (k : Int) + 1 < z
    · rw [if_pos q2, if_pos q2, h k hk, h (k + 1) (by omega)]
    · rw [if_neg q2, if_neg q2, h k hk, h (k - 1) (by omega)]
theorem mtp_c {f g f' g' : Nat → Int} {z y : Int} {k : Nat} (hk : (k : Int) < z) (hf : ∀ k : Nat, (k : Int) < z → f k = f' k) (hg : ∀ k : Nat, (k : Int) < y → g k = g' k) : mtP f g z y k ↔ mtP f' g' z y k := by
  constructor
  · rintro ⟨j, j1, j2, j3⟩
    exact ⟨j, j1, by rw [← hg j j1, ← hf k hk]; exact j2, by rw [← gok_c hk hf, ← gok_c j1 hg]; exact j3⟩
  · rintro ⟨j, j1, j2, j3⟩
    exact ⟨j, j1, by rw [hg j j1, hf k hk]; exact j2, by rw [gok_c hk hf, gok_c j1 hg]; exact j3⟩
theorem mth_c {S : Int → Prop} {f g f' g' : Nat → Int} {z y : Int} (hf : ∀ k : Nat, (k : Int) < z → f k = f' k) (hg : ∀ k : Nat, (k : Int) < y → g k = g' k) : mtW S f g z y = mtW S f' g' z y := by
  unfold mtW
  exact sm_eq (fun k hk => i01_c (by rw [hf k (by omega)]; exact and_congr_right (fun _ => mtp_c (by omega) hf hg)))
theorem wa_c {S : Int → Prop} {w w' : WyS} {mo mo' : Nat → Int} {n : Nat} (hw : WyE n w w') (hm : ∀ x, x < n → mo x = mo' x) : waH S w mo n = waH S w' mo' n := sm_eq (fun x hx => by
  obtain ⟨e1, e2⟩ := hw x hx
  show i01 (viH S (w.1 x) (w.2 x)) * mo x = i01 (viH S (w'.1 x) (w'.2 x)) * mo' x
  rw [hm x hx, ← e1, i01_c (vi_c e2)])
theorem oa_c {S : Int → Prop} {w w' : WyS} {mo mo' : Nat → Int} {n : Nat} (hw : WyE n w w') (hm : ∀ x, x < n → mo x = mo' x) : oaH S w mo n = oaH S w' mo' n := sm_eq (fun x hx => by
  obtain ⟨e1, e2⟩ := hw x hx
  show mo x * ovH S (w.1 x) (w.2 x - 1).toNat = mo' x * ovH S (w'.1 x) (w'.2 x - 1).toNat
  rw [hm x hx, ← e1, ov_c e2])
theorem ca_c {S : Int → Prop} {w w' : WyS} {mo mo' : Nat → Int} {n : Nat} (hw : WyE n w w') (hm : ∀ x, x < n → mo x = mo' x) : caH S w mo n = caH S w' mo' n := sm_eq (fun x hx => by
  obtain ⟨e1, e2⟩ := hw x hx
  show mo x * clH S (w.1 x) (w.2 x - 1).toNat = mo' x * clH S (w'.1 x) (w'.2 x - 1).toNat
  rw [hm x hx, ← e1, cl_c e2])
theorem ia_c {S : Int → Prop} {w w' : WyS} {mo mo' : Nat → Int} {n : Nat} (hw : WyE n w w') (hm : ∀ x, x < n → mo x = mo' x) : iaH S w mo n = iaH S w' mo' n := sm_eq (fun x hx => by
  obtain ⟨e1, e2⟩ := hw x hx
  show mo x * inH S (w.1 x) (w.2 x - 1).toNat = mo' x * inH S (w'.1 x) (w'.2 x - 1).toNat
  rw [hm x hx, ← e1, in_c e2])
theorem cr_c {S : Int → Prop} {w w' : WyS} {mo mo' : Nat → Int} {n : Nat} (hw : WyE n w w') (hm : ∀ x, x < n → mo x = mo' x) : crH S w mo n = crH S w' mo' n := sm_eq (fun a ha => sm_eq (fun b hb => by
  obtain ⟨e1, e2⟩ := hw a ha
  obtain ⟨f1, f2⟩ := hw b hb
  show (if a < b then mtW S (w.1 a) (w.1 b) (w.2 a) (w.2 b) * min (mo a) (mo b) else 0) = if a < b then mtW S (w'.1 a) (w'.1 b) (w'.2 a) (w'.2 b) * min (mo' a) (mo' b) else 0
  rw [hm a ha, hm b hb, ← e1, ← f1, mth_c e2 f2]))
/-- the seven names -/
noncomputable def nmH (S : Int → Prop) (w : WyS) (mo : Nat → Int) (n : Nat) (pc : Int) (j : Nat) : Int32 := Int32.ofInt (if j = 0 then waH S w mo n else if j = 1 then crH S w mo n else if j = 2 then oaH S w mo n else if j = 3 then caH S w mo n else if j = 4 then sm (fun c => i01 (S (c : Int))) 128 else if j = 5 then sm (fun c => i01 ((c : Int) < 64 ∧ S (c : Int))) 128 else pc)
theorem nmh_c {S : Int → Prop} {w w' : WyS} {mo mo' : Nat → Int} {n : Nat} {pc : Int} (hw : WyE n w w') (hm : ∀ x, x < n → mo x = mo' x) : nmH S w mo n pc = nmH S w' mo' n pc := funext (fun j => by unfold nmH; rw [wa_c hw hm, cr_c hw hm, oa_c hw hm, ca_c hw hm])
/-- a stream left out (its most is 0; -1: none) -/
def moW (U : AirD) (q : Nat) (w : Int) (x : Nat) : Int := if (x : Int) = w then 0 else uM U q x
/-- the load of a set in a quarter, a stream left out -/
noncomputable def ldH (U : AirD) (S : Int → Prop) (pc : Int) (q : Nat) (w : Int) : Int32 := uL U (nmH S (uW U) (moW U q w) (uN U) pc)
theorem mow_1 {U : AirD} {q x : Nat} : moW U q (-1) x = uM U q x := if_neg (by omega)
theorem ldh_q {U : AirD} {S : Int → Prop} {pc : Int} {q r : Nat} (h : ∀ x, x < uN U → uM U q x = uM U r x) : ldH U S pc q (-1) = ldH U S pc r (-1) := by
  unfold ldH
  rw [nmh_c (mo := moW U q (-1)) (mo' := moW U r (-1)) wye_rf (fun x hx => by rw [mow_1, mow_1]; exact h x hx)]
/-- the greatest, and where it is first -/
def pkF (f : Nat → Int) : Nat → Int
  | 0 => f 0
  | n + 1 => if pkF f n < f (n + 1) then f (n + 1) else pkF f n
def pqF (f : Nat → Int) : Nat → Nat
  | 0 => 0
  | n + 1 => if pkF f n < f (n + 1) then n + 1 else pqF f n
theorem pk_ge {f : Nat → Int} : ∀ {n k : Nat}, k ≤ n → f k ≤ pkF f n
  | 0, k, h => by rw [show k = 0 by omega]; exact Int.le_refl _
  | n + 1, k, h => by
    show f k ≤ if pkF f n < f (n + 1) then f (n + 1) else pkF f n
    by_cases c : pkF f n < f (n + 1)
    · rw [if_pos c]
      by_cases e : k = n + 1
      · rw [e]; exact Int.le_refl _
      · have := pk_ge (f := f) (n := n) (k := k) (by omega); omega
    · rw [if_neg c]
      by_cases e : k = n + 1
      · rw [e]; omega
      · exact pk_ge (by omega)
theorem pk_y {f : Nat → Int} {q g v : Int} {p : Int} (hg : g = pkF f (q - 1).toNat) (q1 : 1 ≤ q) (hv : v = f q.toNat) (h : g < v) : v = pkF f (q + 1 - 1).toNat ∧ q = ((pqF f (q + 1 - 1).toNat : Nat) : Int) := by
  obtain ⟨m, hm⟩ : ∃ m : Nat, q = (m : Int) + 1 := ⟨(q - 1).toNat, by omega⟩
  rw [show (q + 1 - 1).toNat = m + 1 by omega]
  rw [show (q - 1).toNat = m by omega] at hg
  rw [show q.toNat = m + 1 by omega] at hv
  rw [hg, hv] at h
  show v = (if pkF f m < f (m + 1) then f (m + 1) else pkF f m) ∧ q = (((if pkF f m < f (m + 1) then m + 1 else pqF f m : Nat) : Nat) : Int)
  rw [if_pos h, if_pos h]
  exact ⟨hv, by omega⟩
theorem pk_n {f : Nat → Int} {q g p : Int} (hg : g = pkF f (q - 1).toNat ∧ p = ((pqF f (q - 1).toNat : Nat) : Int)) (q1 : 1 ≤ q) (h : f q.toNat ≤ g) : g = pkF f (q + 1 - 1).toNat ∧ p = ((pqF f (q + 1 - 1).toNat : Nat) : Int) := by
  obtain ⟨m, hm⟩ : ∃ m : Nat, q = (m : Int) + 1 := ⟨(q - 1).toNat, by omega⟩
  rw [show (q + 1 - 1).toNat = m + 1 by omega]
  rw [show (q - 1).toNat = m by omega] at hg
  rw [show q.toNat = m + 1 by omega, hg.1] at h
  show g = (if pkF f m < f (m + 1) then f (m + 1) else pkF f m) ∧ p = (((if pkF f m < f (m + 1) then m + 1 else pqF f m : Nat) : Nat) : Int)
  rw [if_neg (by omega), if_neg (by omega)]
  exact hg
/-- the loads of a set by quarters; its peak -/
noncomputable def lqH (U : AirD) (S : Int → Prop) (q : Nat) : Int := (ldH U S 1 q (-1)).toInt
noncomputable def pkH (U : AirD) (S : Int → Prop) : Int := pkF (lqH U S) 23
theorem of_to {e : Int} {v : Int32} (hr : rng e) (h : Int32.ofInt e = v) : e = v.toInt := by rw [← h, zi hr]
theorem vl_ext {nm nm' : Nat → Int32} {v : Int32} {c : List Int} (h : ∀ j, j < 7 → nm j = nm' j) (hv : VLm nm v c) : VLm nm' v c := by
  have e : ∀ st a, stV nm st a = stV nm' st a := fun st a => by
    unfold stV
    by_cases q : -8 < a
    · rw [if_pos q, if_pos q]
      by_cases z : 0 ≤ a
      · rw [if_pos z, if_pos z]
      · rw [if_neg z, if_neg z, h _ (by omega)]
    · rw [if_neg q, if_neg q]
  have f : stV nm = stV nm' := funext (fun st => funext (fun a => e st a))
  intro st
  rw [← f]
  exact hv st
/-- without a clause -/
def ldD (nm : Nat → Int32) : Int32 := nm 0 + 2 * nm 1 + nm 2
theorem ldd_of {a b c : Int} {nm : Nat → Int32} (h0 : Int32.ofInt a = nm 0) (h1 : Int32.ofInt b = nm 1) (h2 : Int32.ofInt c = nm 2) : Int32.ofInt (a + 2 * b + c) = ldD nm := by
  unfold ldD
  rw [Int32.ofInt_add, Int32.ofInt_add, Int32.ofInt_mul, h0, h1, h2]
  rfl
/-- the class works the load out -/
def LDC (L : LdF) (s : PS) : Prop := (iI s 13 = -1 ∧ L = ldD) ∨ (iI s 13 ≠ -1 ∧ ∀ nm, VLm nm (L nm) (cdL s (iI s 13)))
/-- the class's air is U -/
def CDJ (U : AirD) (s : PS) : Prop := (iI s 9 = (uN U : Int) ∧ uN U ≤ 12) ∧ WyE (uN U) (WYC s) (uW U) ∧ (∀ q x : Nat, q < 24 → x < uN U → iC s 11 (12 * q + x) = uM U q x) ∧ (∀ x : Nat, x < uN U → iC s 12 x = uT U x) ∧ (∀ q : Nat, q < 24 → (0 ≤ iC s 14 q ∧ iC s 14 q ≤ (q : Int)) ∧ ∀ x : Nat, x < uN U → uM U q x = uM U (iC s 14 q).toNat x) ∧ LDC (uL U) s
theorem cdl_fm {L M : List Nat} {s t : PS} {x : Int} (F : Fm L M s t) (h1 : 17 ∉ M) (h2 : 16 ∉ M) : cdL t x = cdL s x := by
  have e1 : ∀ j, iC t 17 j = iC s 17 j := fun j => fm_c F h1
  have e2 : ∀ j, iC t 16 j = iC s 16 j := fun j => fm_c F h2
  unfold cdL bgV
  simp only [e1, e2]
theorem CDJ_fm {U : AirD} {L M : List Nat} {s t : PS} (F : Fm L M s t) (h : (9 ∉ L ∧ 13 ∉ L) ∧ 2 ∉ M ∧ 1 ∉ M ∧ 11 ∉ M ∧ 12 ∉ M ∧ 14 ∉ M ∧ 17 ∉ M ∧ 16 ∉ M) (r : CDJ U s) : CDJ U t := by
  have e1 : iI t 9 = iI s 9 := fm_i F h.1.1
  have e2 : iI t 13 = iI s 13 := fm_i F h.1.2
  have e3 : ∀ j, iC t 2 j = iC s 2 j := fun j => fm_c F h.2.1
  have e4 : ∀ j, iC t 1 j = iC s 1 j := fun j => fm_c F h.2.2.1
  have e5 : ∀ j, iC t 11 j = iC s 11 j := fun j => fm_c F h.2.2.2.1
  have e6 : ∀ j, iC t 12 j = iC s 12 j := fun j => fm_c F h.2.2.2.2.1
  have e7 : ∀ j, iC t 14 j = iC s 14 j := fun j => fm_c F h.2.2.2.2.2.1
  have e8 : ∀ x, cdL t x = cdL s x := fun x => cdl_fm F h.2.2.2.2.2.2.1 h.2.2.2.2.2.2.2
  unfold CDJ LDC WyE WYC fwC at r ⊢
  simp only [e1, e2, e3, e4, e5, e6, e7, e8]
  exact r
theorem HEH_fm {lo hi : Int64} {x : Int} {L M : List Nat} {s t : PS} (F : Fm L M s t) (h : 33 ∉ M) (r : HEH lo hi x s) : HEH lo hi x t := ⟨(fm_c F h).trans r.1, (fm_c F h).trans r.2.1, (fm_c F h).trans r.2.2⟩
theorem heh_h {lo hi : Int64} {x q w : Int} {s t : PS} (r : HEH lo hi x s) (h : HRD q w s t) : HEH lo hi x t := ⟨(h.2.2.2.2 4 (by decide)).trans r.1, (h.2.2.2.2 5 (by decide)).trans r.2.1, (h.2.2.2.2 6 (by decide)).trans r.2.2⟩
/-- how many cells a set has -/
theorem inl_cnt {lo hi : Int64} : sm (fun c : Nat => i01 (inL lo hi (c : Int))) 128 = bnN lo + bnN hi := by
  rw [show (128 : Nat) = 64 + 64 from rfl, sm_cat 64 64]
  have a : sm (fun c : Nat => i01 (inL lo hi (c : Int))) 64 = bnN lo := sm_eq (fun c hc => i01_c (inl_l hc))
  have b : sm (fun j : Nat => i01 (inL lo hi ((64 + j : Nat) : Int))) 64 = bnN hi := sm_eq (fun c hc => i01_c (by
    rw [show ((64 + c : Nat) : Int) = 64 + (c : Int) by omega]; exact inl_h hc))
  rw [a, b]
theorem inl_low {lo hi : Int64} : sm (fun c : Nat => i01 ((c : Int) < 64 ∧ inL lo hi (c : Int))) 128 = bnN lo := by
  rw [show (128 : Nat) = 64 + 64 from rfl, sm_cat 64 64]
  have a : sm (fun c : Nat => i01 ((c : Int) < 64 ∧ inL lo hi (c : Int))) 64 = bnN lo := sm_eq (fun c hc => i01_c ⟨fun q => (inl_l hc).mp q.2, fun q => ⟨by omega, (inl_l hc).mpr q⟩⟩)
  have b : sm (fun j : Nat => i01 (((64 + j : Nat) : Int) < 64 ∧ inL lo hi ((64 + j : Nat) : Int))) 64 = 0 := sm_0 (fun c hc => i01_f (fun q => by have := q.1; omega))
  rw [a, b, Int.add_zero]
/-- the seven that the class has heard -/
theorem cl_names {U : AirD} {s t : PS} {lo hi : Int64} {q w pc : Int} (a : AIR s) (p : CPL s) (l : LSN lo hi s) (e : HEH lo hi pc s) (d : CDJ U s) (h : HRD q w s t) (hq : 0 ≤ q ∧ q ≤ 23) : ∀ j, j < 7 → Int32.ofInt (iC t 33 j) = nmH (inL lo hi) (uW U) (moW U q.toNat w) (uN U) pc j := by
  obtain ⟨⟨d1, d2⟩, d3, d4, -⟩ := d
  have h0 : 0 ≤ iI s 9 := by omega
  have en : (iI s 9).toNat = uN U := by omega
  have su := lsn_sums a l h0 (moX s q w)
  have cr := lsn_cr a p l h0 (moX s q w)
  rw [en] at su cr
  have hm : ∀ x, x < uN U → moX s q w x = moW U q.toNat w x := fun x hx => by
    unfold moX moW
    by_cases c : (x : Int) = w
    · rw [if_pos c, if_pos c]
    · rw [if_neg c, if_neg c, show (q * 12 + (x : Int)).toNat = 12 * q.toNat + x by omega]
      exact d4 q.toNat x (by omega) hx
  obtain ⟨r0, r1, r2, r3, r4⟩ := h
  obtain ⟨k4, k5, k6⟩ := e
  intro j hj
  rcases (show j = 0 ∨ j = 1 ∨ j = 2 ∨ j = 3 ∨ j = 4 ∨ j = 5 ∨ j = 6 by omega) with z | z | z | z | z | z | z <;> subst z
  · show _ = Int32.ofInt (waH (inL lo hi) (uW U) (moW U q.toNat w) (uN U))
    rw [r0, su.1, wa_c d3 hm]
  · show _ = Int32.ofInt (crH (inL lo hi) (uW U) (moW U q.toNat w) (uN U))
    rw [r1, cr, cr_c d3 hm]
  · show _ = Int32.ofInt (oaH (inL lo hi) (uW U) (moW U q.toNat w) (uN U))
    rw [r2, su.2.1, oa_c d3 hm]
  · show _ = Int32.ofInt (caH (inL lo hi) (uW U) (moW U q.toNat w) (uN U))
    rw [r3, su.2.2.2, ca_c d3 hm]
  · show _ = Int32.ofInt (sm (fun c : Nat => i01 (inL lo hi (c : Int))) 128)
    rw [r4 4 (by decide), k4, inl_cnt]
  · show _ = Int32.ofInt (sm (fun c : Nat => i01 ((c : Int) < 64 ∧ inL lo hi (c : Int))) 128)
    rw [r4 5 (by decide), k5, inl_low]
  · show _ = Int32.ofInt pc
    rw [r4 6 (by decide), k6]
theorem cl_load {U : AirD} {s t : PS} {lo hi : Int64} {q w pc e x : Int} (a : AIR s) (p : CPL s) (l : LSN lo hi s) (k : HEH lo hi pc s) (d : CDJ U s) (h : HRD q w s t) (hq : 0 ≤ q ∧ q ≤ 23) (hx : x = iI s 13) (hc : cdL t x = cdL s x) (hw : (x = -1 → Int32.ofInt e = Int32.ofInt (iC t 33 0 + 2 * iC t 33 1 + iC t 33 2)) ∧ (x ≠ -1 → ∀ w : Int32, VLm (fun j => Int32.ofInt (iC t 33 j)) w (cdL t x) → Int32.ofInt e = w)) : Int32.ofInt e = ldH U (inL lo hi) pc q.toNat w := by
  have hn := cl_names a p l k d h hq
  unfold ldH
  rcases d.2.2.2.2.2 with ⟨c1, c2⟩ | ⟨c1, c2⟩
  · rw [hw.1 (by omega), c2]
    exact ldd_of (hn 0 (by decide)) (hn 1 (by decide)) (hn 2 (by decide))
  · refine hw.2 (by omega) _ ?_
    rw [hc, hx]
    exact vl_ext (fun j hj => (hn j hj).symm) (c2 _)
/-- a quarter that is another one's twin hears the same -/
theorem tw_ld {U : AirD} {s : PS} {S : Int → Prop} {pc q : Int} (d : CDJ U s) (hq : 0 ≤ q ∧ q ≤ 23) : (0 ≤ iC s 14 q.toNat ∧ iC s 14 q.toNat ≤ q) ∧ ldH U S pc q.toNat (-1) = ldH U S pc (iC s 14 q.toNat).toNat (-1) := by
  have z := d.2.2.2.2.1 q.toNat (by omega)
  exact ⟨⟨z.1.1, by have := z.1.2; omega⟩, ldh_q z.2⟩
noncomputable def lpF (U : AirD) (S : Int → Prop) (pc : Int) (q : Nat) : Int := (ldH U S pc q (-1)).toInt
/-- the peak so far -/
def PKQ (f : Nat → Int) (g p q : Int) : Prop := g = pkF f (q - 1).toNat ∧ p = ((pqF f (q - 1).toNat : Nat) : Int)
theorem pkq_0 {f : Nat → Int} {g : Int} (h : g = f 0) : PKQ f g 0 1 := ⟨h, rfl⟩
theorem pkq_y {f : Nat → Int} {g p q v p' : Int} (h : PKQ f g p q) (q1 : 1 ≤ q) (hv : v = f q.toNat) (hl : g < v) (hp : p' = q) : PKQ f v p' (q + 1) := by
  have z := pk_y (p := p) h.1 q1 hv hl
  exact ⟨z.1, hp.trans z.2⟩
theorem pkq_n {f : Nat → Int} {g p q v p' : Int} (h : PKQ f g p q) (q1 : 1 ≤ q) (hv : v = f q.toNat) (hl : v ≤ g) (hp : p' = p) : PKQ f g p' (q + 1) := by
  subst hp
  exact pk_n h q1 (by rw [← hv]; exact hl)
theorem pkq_t {U : AirD} {s : PS} {S : Int → Prop} {pc g p q p' tw : Int} (h : PKQ (lpF U S pc) g p q) (d : CDJ U s) (q1 : 1 ≤ q ∧ q ≤ 23) (ht : tw = iC s 14 q.toNat) (hn : tw ≠ q) (hp : p' = p) : PKQ (lpF U S pc) g p' (q + 1) := by
  have z := tw_ld (S := S) (pc := pc) d (show 0 ≤ q ∧ q ≤ 23 by omega)
  rw [← ht] at z
  refine pkq_n h q1.1 rfl ?_ hp
  have e : lpF U S pc q.toNat = lpF U S pc tw.toNat := congrArg Int32.toInt z.2
  rw [e, h.1]
  exact pk_ge (by omega)
/-- kept counts -/
theorem vss_b {s : PS} {lo hi : Int64} (l : LSN lo hi s) {i : Int} (h : 0 ≤ i ∧ i < iI s 22) : 0 ≤ iC s 28 i.toNat ∧ iC s 28 i.toNat ≤ 320 := (l.1.2.1 i.toNat (by omega)).2.1
theorem kc_end {U : AirD} {s : PS} {lo hi : Int64} {m c : Int} (a : AIR s) (l : LSN lo hi s) (d : CDJ U s) (h : m = VSS 26 27 28 29 s (fun x _ i _ => iC s 12 x * i) c.toNat) (hc : c = iI s 22) : m = iaH (inL lo hi) (uW U) (uT U) (uN U) := by
  obtain ⟨⟨d1, d2⟩, d3, -, d5, -⟩ := d
  have su := (lsn_sums a l (by omega) (fun x => iC s 12 x)).2.2.1
  rw [h, hc, su, show (iI s 9).toNat = uN U by omega]
  exact ia_c d3 d5
/-- counts of all steps -/
theorem cs_end {U : AirD} {s : PS} {m c : Int} (d : CDJ U s) (h : m = sm (fun x => iC s 12 x * (iC s 2 x - 1)) c.toNat) (hc : c = iI s 9) : m = sm (fun x => uT U x * ((uW U).2 x - 1)) (uN U) := by
  obtain ⟨⟨d1, d2⟩, d3, -, d5, -⟩ := d
  rw [h, hc, show (iI s 9).toNat = uN U by omega]
  refine sm_eq (fun x hx => ?_)
  have e := (d3 x hx).1
  replace e : iC s 2 x = (uW U).2 x := e
  simp only [d5 x hx, e]
theorem kc_up {s : PS} {m v c : Int} (h : m = VSS 26 27 28 29 s (fun x _ i _ => iC s 12 x * i) c.toNat) (c0 : 0 ≤ c) (hv : v = iC s 12 (iC s 26 c.toNat).toNat * iC s 28 c.toNat) : m + v = VSS 26 27 28 29 s (fun x _ i _ => iC s 12 x * i) (c + 1).toNat := by
  rw [show (c + 1).toNat = c.toNat + 1 by omega, hv, h]
  rfl
theorem cs_up {s : PS} {m v c : Int} (h : m = sm (fun x => iC s 12 x * (iC s 2 x - 1)) c.toNat) (c0 : 0 ≤ c) (hv : v = iC s 12 c.toNat * (iC s 2 c.toNat - 1)) : m + v = sm (fun x => iC s 12 x * (iC s 2 x - 1)) (c + 1).toNat := by
  rw [show (c + 1).toNat = c.toNat + 1 by omega, hv, h]
  rfl
theorem siz_r {s : PS} (h : AIR s) {x : Int} (hx : 0 ≤ x ∧ x < iI s 9) : 1 ≤ iC s 2 x.toNat ∧ iC s 2 x.toNat ≤ 24 := (h.2 x.toNat (by omega)).1.1
section M87t
variable {l : Launch} {s0 : State} {D : va_G} {tys : List (ClassId × FieldType)} {a0 : Array Value} {A : Nat → Nat} {dT : Nat → ClassId} {s : PS}
set_option maxRecDepth 4000 in
theorem c0_loadAt3 (G : GX l s0 D tys a0 dT) {U : AirD} {aj bj : Int64} {pc : Int} (I : Bd s) (jAIR : AIR s) (jCPL : CPL s) (jLSN : LSN aj bj s) (jCDJ : CDJ U s) (jHEH : HEH aj bj pc s) {x y : Int} (p0 : 0 ≤ x ∧ x ≤ 23) (p1 : rng y) : CT l s0 D A dT 4 (rmN 4) [.ref (A 31), .int (Int32.ofInt x), .int (Int32.ofInt y)] s (fun o t => Bd t ∧ Fm [] [33, 20] s t ∧ HEH aj bj pc t ∧ ∃ e, o = .inl (some (.int (Int32.ofInt e))) ∧ rng e ∧ (Int32.ofInt e = ldH U (inL aj bj) pc (x : Int).toNat y)) := by
  refine ct_ofX G (by decide) (Nat.le_of_ble_eq_true rfl) (fun k X E ET hRt hXt q => ?_)
  show WS k 0 [(0, .ref (A 31)), (1, .int (Int32.ofInt x)), (2, .int (Int32.ofInt y))] [] _ 0 0
  have F : Fm [] [33, 20] s s := fm_rf _ _ s
  refine z_aload_n X (x := A 31) rfl (List.Mem.head _) (z_load_n X (x := x) rfl (List.Mem.tail _ (List.Mem.head _)) (z_load_n X (x := y) rfl (List.Mem.tail _ (List.Mem.tail _ (List.Mem.head _))) (zcV_v0 X E 31 (As := [.int (Int32.ofInt x), .int (Int32.ofInt y)]) (st := []) rfl rfl rfl rfl (c0_hear3 G I jLSN (by first | exact ⟨p0.1, p0.2⟩ | omega) (by first | exact ⟨p1.1, p1.2⟩ | omega)) rfl (Nat.le_of_ble_eq_true rfl) (fun s1 Is1 Fs1 hps1 => ?_))))
  have Gs1 := fm_tq F Fs1 rfl rfl
  have JH9 : HEH aj bj pc s1 := heh_h jHEH hps1
  refine z_aload_n X (x := A 31) rfl (List.Mem.head _) (s_getR X 31 rfl (c518_ok rfl) rfl rfl (z_aload_n X (x := A 31) rfl (List.Mem.head _) (s_getR X 31 rfl (c518_ok rfl) rfl rfl (z_getI X 19 rfl (c518_ok rfl) rfl rfl ?_))))
  have b3 := bi_13 Is1
  refine z_aload_n X (x := A 31) rfl (List.Mem.head _) (s_getR X 31 rfl (c518_ok rfl) rfl rfl (zcV_i0 X E 19 (As := [.int (Int32.ofInt (iI s1 13)), .ref (A 39)]) (st := []) rfl rfl rfl rfl (c7_work3 G Is1 (by first | exact ⟨b3.1, b3.2⟩ | omega)) rfl (Nat.le_of_ble_eq_true rfl) (fun s4 e5 Is4 Fs4 hrs4 hps4 => ?_)))
  have Gs4 := fm_tq Gs1 Fs4 rfl rfl
  have JHEH_s4 : HEH aj bj pc s4 := HEH_fm Fs4 (by decide) JH9
  exact w_iret X.1 q hRt rfl (ax_d X (show cdA 4 24 = some (.ireturn, 1, 0, 0, 0) from rfl)) (Nat.zero_le _) (Nat.zero_le _) ⟨_, rfl, Is4, Gs4, JHEH_s4, e5, rfl, hrs4, (cl_load jAIR jCPL jLSN jHEH jCDJ hps1 (by first | (clear hps4; omega) | omega) (fm_i Fs1 (by decide)) (cdl_fm Fs1 (by decide) (by decide)) hps4)⟩
set_option maxRecDepth 4000 in
theorem c0_findPeak3 (G : GX l s0 D tys a0 dT) {U : AirD} {aj bj : Int64} {pc : Int} (I : Bd s) (jAIR : AIR s) (jCPL : CPL s) (jLSN : LSN aj bj s) (jCDJ : CDJ U s) (jHEH : HEH aj bj pc s)  : CT l s0 D A dT 5 (rmN 5) [.ref (A 31)] s (fun o t => Bd t ∧ Fm [24] [33, 20] s t ∧ HEH aj bj pc t ∧ ∃ e, o = .inl (some (.int (Int32.ofInt e))) ∧ rng e ∧ (PKQ (lpF U (inL aj bj) pc) e (iI t 24) 24)) := by
  refine ct_ofX G (by decide) (Nat.le_of_ble_eq_true rfl) (fun k X E ET hRt hXt q => ?_)
  show WS k 0 [(0, .ref (A 31))] [] _ 0 0
  have F : Fm [24] [33, 20] s s := fm_rf _ _ s
  have b1 := bi_24 I
  have L14 : ∀ (n : Nat) (t : PS) (gr qq : Int), Bd t → Fm [24] [33, 20] s t → AIR t → CPL t → LSN aj bj t → CDJ U t → HEH aj bj pc t → (PKQ (lpF U (inL aj bj) pc) gr (iI t 24) qq) → (rng gr ∧ 1 ≤ qq ∧ qq ≤ 24) → (24 - qq : Int).toNat < n → (∀ (t' : PS) (gr' qq' : Int), Bd t' → Fm [24] [33, 20] s t' → AIR t' → CPL t' → LSN aj bj t' → CDJ U t' → HEH aj bj pc t' → (PKQ (lpF U (inL aj bj) pc) gr' (iI t' 24) qq') → (rng gr' ∧ qq' = 24) → WS k 58 [(0, .ref (A 31)), (1, .int (Int32.ofInt gr')), (2, .int (Int32.ofInt qq'))] [] (Wd A dT t') 0 0) → WS k 14 [(0, .ref (A 31)), (1, .int (Int32.ofInt gr)), (2, .int (Int32.ofInt qq))] [] (Wd A dT t) 0 0 := by
    intro n
    induction n with
    | zero =>
      intro t gr qq I F jjAIR jjCPL jjLSN jjCDJ jjHEH hq hi hm kx
      exact absurd hm (Nat.not_lt_zero _)
    | succ n ih =>
      intro t gr qq I F jjAIR jjCPL jjLSN jjCDJ jjHEH hq hi hm kx
      have b1001 := bi_24 I
      refine z_load_n X (x := qq) rfl (List.Mem.tail _ (List.Mem.tail _ (List.Mem.head _))) (z_bipush X rfl (z_icmp_ge X (t := 58) rfl rfl ⟨by first | exact oq_9462313e hi.2.1 | omega, by first | exact oq_5bcd337f hi.2.2 | omega⟩ (by decide) (fun g1002 => ?_) (fun g1002 => ?_)))
      ·
        refine WS_pq [0, 1, 2] (lv' := [(0, .ref (A 31)), (1, .int (Int32.ofInt gr)), (2, .int (Int32.ofInt qq))]) rfl ?_
        exact kx _ gr qq I F jjAIR jjCPL jjLSN jjCDJ jjHEH hq (by first | exact ⟨And.intro (hi.1.1) (hi.1.2), oq_ea1742b3 hi.2.2 g1002⟩ | omega)
      ·
        refine z_aload_n X (x := A 31) rfl (List.Mem.head _) (s_getR X 31 rfl (c518_ok rfl) rfl rfl (s_getR X 3 rfl (c518_ok rfl) rfl rfl (z_load_n X (x := qq) rfl (List.Mem.tail _ (List.Mem.tail _ (List.Mem.head _))) (z_ald X 17 rfl (c518_ok rfl) rfl (by first | exact oq_2a6e3b50 hi.2.1 | omega) (show qq < 24 by first | exact g1002 | omega) (cbig_ok rfl) ?_))))
        have b1003 := bc_14 I (show (qq).toNat < 24 by first | exact oq_797efae6 g1002 | omega)
        refine z_load_n X (x := qq) rfl (List.Mem.tail _ (List.Mem.tail _ (List.Mem.head _))) (z_icmp_ne X (t := 52) rfl rfl (rng_to _) ⟨by first | exact oq_9462313e hi.2.1 | omega, by first | exact oq_1d70227b g1002 | omega⟩ (fun g1004 => ?_) (fun g1004 => ?_))
        ·
          refine z_inc X (x := qq) (lv' := [(2, .int (Int32.ofInt (qq + 1))), (0, .ref (A 31)), (1, .int (Int32.ofInt gr))]) rfl (by decide) (List.Mem.tail _ (List.Mem.tail _ (List.Mem.head _))) (fun _ h => h) (z_goto X (t := 14) rfl rfl (WS_pq [1, 2, 0] (lv' := [(0, .ref (A 31)), (1, .int (Int32.ofInt gr)), (2, .int (Int32.ofInt (qq + 1)))]) rfl ?_))
          exact ih _ gr (qq + 1) I F jjAIR jjCPL jjLSN jjCDJ jjHEH (pkq_t hq jjCDJ (by first | (clear g1004; omega) | omega) rfl (by first | (clear g1004; omega) | omega) rfl) (by first | exact ⟨And.intro (hi.1.1) (hi.1.2), oq_1e1a2df6 hi.2.1, oq_cec7cb2e g1002⟩ | omega) (by first | exact qk_me hm (by decide) (oq_ffa8317e g1002) | omega) kx
        ·
          refine z_aload_n X (x := A 31) rfl (List.Mem.head _) (z_load_n X (x := qq) rfl (List.Mem.tail _ (List.Mem.tail _ (List.Mem.head _))) (z_const X rfl (zcV_i1 X E 31 (As := [.int (Int32.ofInt qq), .int (Int32.ofInt (-1))]) (st := []) rfl rfl rfl rfl (c0_loadAt3 G I jjAIR jjCPL jjLSN jjCDJ jjHEH (by first | exact ⟨oq_2a6e3b50 hi.2.1, oq_c69fe266 g1002⟩ | omega) (by first | exact ⟨by decide, by decide⟩ | omega)) rfl (Nat.le_of_ble_eq_true rfl) (fun s1005 e1006 Is1005 Fs1005 JHEH_s1005 hrs1005 hps1005 => ?_))))
          have Gs1005 := fm_tq F Fs1005 rfl rfl
          have JAIR_s1005 : AIR s1005 := AIR_fm Fs1005 (by decide) jjAIR
          have JCPL_s1005 : CPL s1005 := CPL_fm Fs1005 (by decide) jjCPL
          have JLSN_s1005 : LSN aj bj s1005 := LSN_fm Fs1005 (by decide) jjLSN
          have JCDJ_s1005 : CDJ U s1005 := CDJ_fm Fs1005 (by decide) jjCDJ
          have ws1005_24 : iI s1005 24 = iI t 24 := fm_iq Fs1005 rfl
          refine z_store_n X (lv' := [(3, .int (Int32.ofInt e1006)), (0, .ref (A 31)), (1, .int (Int32.ofInt gr)), (2, .int (Int32.ofInt qq))]) rfl (by decide) (fun _ h => h) (z_load_n X (x := e1006) rfl (List.Mem.head _) (z_load_n X (x := gr) rfl (List.Mem.tail _ (List.Mem.tail _ (List.Mem.head _))) (z_icmp_le X (t := 52) rfl rfl hrs1005 ⟨by first | exact hi.1.1 | omega, by first | exact hi.1.2 | omega⟩ (fun g1007 => ?_) (fun g1007 => ?_))))
          ·
            refine z_inc X (x := qq) (lv' := [(2, .int (Int32.ofInt (qq + 1))), (3, .int (Int32.ofInt e1006)), (0, .ref (A 31)), (1, .int (Int32.ofInt gr))]) rfl (by decide) (List.Mem.tail _ (List.Mem.tail _ (List.Mem.tail _ (List.Mem.head _)))) (fun _ h => h) (z_goto X (t := 14) rfl rfl (WS_pq [2, 3, 0] (lv' := [(0, .ref (A 31)), (1, .int (Int32.ofInt gr)), (2, .int (Int32.ofInt (qq + 1)))]) rfl ?_))
            exact ih _ gr (qq + 1) Is1005 Gs1005 JAIR_s1005 JCPL_s1005 JLSN_s1005 JCDJ_s1005 JHEH_s1005 (pkq_n hq (by omega) (of_to hrs1005 hps1005) (by omega) (by omega)) (by first | exact ⟨And.intro (hi.1.1) (hi.1.2), oq_1e1a2df6 hi.2.1, oq_cec7cb2e g1002⟩ | omega) (by first | exact qk_me hm (by decide) (oq_ffa8317e g1002) | omega) kx
          ·
            refine z_load_n X (x := e1006) rfl (List.Mem.head _) (z_store_n X (lv' := [(1, .int (Int32.ofInt e1006)), (3, .int (Int32.ofInt e1006)), (0, .ref (A 31)), (2, .int (Int32.ofInt qq))]) rfl (by decide) (fun _ h => h) (z_aload_n X (x := A 31) rfl (List.Mem.tail _ (List.Mem.tail _ (List.Mem.head _))) (z_load_n X (x := qq) rfl (List.Mem.tail _ (List.Mem.tail _ (List.Mem.tail _ (List.Mem.head _)))) (s_putI X 31 rfl (c518_ok rfl) rfl rfl (by decide) rfl rfl rfl (wd_gen (fun s1008 hs1008 => ?_))))))
            have Is1008 : Bd s1008 := eqB hs1008 (bd_I Is1005 (show (0 : Int) ≤ qq ∧ qq ≤ 23 by first | exact ⟨oq_2a6e3b50 hi.2.1, oq_c69fe266 g1002⟩ | omega) ⟨by first | exact oq_9462313e hi.2.1 | omega, by first | exact oq_1d70227b g1002 | omega⟩)
            have Fs1008 := eqF hs1008 (fm_I Gs1005 (inl_ok (a := 24) rfl))
            have vs1008 : iI s1008 24 = qq := eqI hs1008 (iI_u ⟨by first | exact oq_9462313e hi.2.1 | omega, by first | exact oq_1d70227b g1002 | omega⟩)
            have fs1008 : Fm [24] [] s1005 s1008 := by rw [hs1008]; exact fm_I (fm_rf _ _ _) (show 24 ∈ _ by decide)
            have JAIR_s1008 : AIR s1008 := AIR_fm fs1008 (by decide) JAIR_s1005
            have JCPL_s1008 : CPL s1008 := CPL_fm fs1008 (by decide) JCPL_s1005
            have JLSN_s1008 : LSN aj bj s1008 := LSN_fm fs1008 (by decide) JLSN_s1005
            have JCDJ_s1008 : CDJ U s1008 := CDJ_fm fs1008 (by decide) JCDJ_s1005
            have JHEH_s1008 : HEH aj bj pc s1008 := HEH_fm fs1008 (by decide) JHEH_s1005
            refine z_inc X (x := qq) (lv' := [(2, .int (Int32.ofInt (qq + 1))), (1, .int (Int32.ofInt e1006)), (3, .int (Int32.ofInt e1006)), (0, .ref (A 31))]) rfl (by decide) (List.Mem.tail _ (List.Mem.tail _ (List.Mem.tail _ (List.Mem.head _)))) (fun _ h => h) (z_goto X (t := 14) rfl rfl (WS_pq [3, 1, 0] (lv' := [(0, .ref (A 31)), (1, .int (Int32.ofInt e1006)), (2, .int (Int32.ofInt (qq + 1)))]) rfl ?_))
            exact ih _ e1006 (qq + 1) Is1008 Fs1008 JAIR_s1008 JCPL_s1008 JLSN_s1008 JCDJ_s1008 JHEH_s1008 (pkq_y hq (by omega) (of_to hrs1005 hps1005) (by omega) (by omega)) (by first | exact ⟨by omega, oq_1e1a2df6 hi.2.1, oq_cec7cb2e g1002⟩ | omega) (by first | exact qk_me hm (by decide) (oq_ffa8317e g1002) | omega) kx
  refine z_aload_n X (x := A 31) rfl (List.Mem.head _) (z_const X rfl (z_const X rfl (zcV_i1 X E 31 (As := [.int (Int32.ofInt 0), .int (Int32.ofInt (-1))]) (st := []) rfl rfl rfl rfl (c0_loadAt3 G I jAIR jCPL jLSN jCDJ jHEH (by first | exact ⟨by decide, by decide⟩ | omega) (by first | exact ⟨by decide, by decide⟩ | omega)) rfl (Nat.le_of_ble_eq_true rfl) (fun s2 e3 Is2 Fs2 JHEH_s2 hrs2 hps2 => ?_))))
  have Gs2 := fm_tq F Fs2 rfl rfl
  have JAIR_s2 : AIR s2 := AIR_fm Fs2 (by decide) jAIR
  have JCPL_s2 : CPL s2 := CPL_fm Fs2 (by decide) jCPL
  have JLSN_s2 : LSN aj bj s2 := LSN_fm Fs2 (by decide) jLSN
  have JCDJ_s2 : CDJ U s2 := CDJ_fm Fs2 (by decide) jCDJ
  have ws2_24 : iI s2 24 = iI s 24 := fm_iq Fs2 rfl
  refine z_store_n X (lv' := [(1, .int (Int32.ofInt e3)), (0, .ref (A 31))]) rfl (by decide) (fun _ h => h) (z_aload_n X (x := A 31) rfl (List.Mem.tail _ (List.Mem.head _)) (z_const X rfl (s_putI X 31 rfl (c518_ok rfl) rfl rfl (by decide) rfl rfl rfl (wd_gen (fun s4 hs4 => ?_)))))
  have Is4 : Bd s4 := eqB hs4 (bd_I Is2 (show (0 : Int) ≤ 0 ∧ 0 ≤ 23 by first | exact ⟨by decide, by decide⟩ | omega) (by decide))
  have Fs4 := eqF hs4 (fm_I Gs2 (inl_ok (a := 24) rfl))
  have vs4 : iI s4 24 = 0 := eqI hs4 (iI_u (by decide))
  have fs4 : Fm [24] [] s2 s4 := by rw [hs4]; exact fm_I (fm_rf _ _ _) (show 24 ∈ _ by decide)
  have JAIR_s4 : AIR s4 := AIR_fm fs4 (by decide) JAIR_s2
  have JCPL_s4 : CPL s4 := CPL_fm fs4 (by decide) JCPL_s2
  have JLSN_s4 : LSN aj bj s4 := LSN_fm fs4 (by decide) JLSN_s2
  have JCDJ_s4 : CDJ U s4 := CDJ_fm fs4 (by decide) JCDJ_s2
  have JHEH_s4 : HEH aj bj pc s4 := HEH_fm fs4 (by decide) JHEH_s2
  refine z_const X rfl (z_store_n X (lv' := [(2, .int (Int32.ofInt 1)), (1, .int (Int32.ofInt e3)), (0, .ref (A 31))]) rfl (by decide) (fun _ h => h) (WS_pq [2, 1, 0] (lv' := [(0, .ref (A 31)), (1, .int (Int32.ofInt e3)), (2, .int (Int32.ofInt 1))]) rfl (L14 ((24 - 1 : Int).toNat + 1) s4 e3 1 Is4 Fs4 JAIR_s4 JCPL_s4 JLSN_s4 JCDJ_s4 JHEH_s4 (by have z := pkq_0 (f := (lpF U (inL aj bj) pc)) (of_to hrs2 hps2); rw [show iI s4 24 = 0 by omega]; exact z) (by first | exact ⟨by omega, by decide, by decide⟩ | omega) (Nat.lt_succ_self _) ?_)))
  intro s5 x6 x7 Is5 Fs5 JAIR_s5 JCPL_s5 JLSN_s5 JCDJ_s5 JHEH_s5 Qs5 hs5
  have b8 := bi_24 Is5
  refine z_load_n X (x := x6) rfl (List.Mem.tail _ (List.Mem.head _)) ?_
  exact w_iret X.1 q hRt rfl (ax_d X (show cdA 5 59 = some (.ireturn, 1, 0, 0, 0) from rfl)) (Nat.zero_le _) (Nat.zero_le _) ⟨_, rfl, Is5, Fs5, JHEH_s5, x6, rfl, ⟨by first | exact hs5.1.1 | omega, by first | exact hs5.1.2 | omega⟩, (by have z := Qs5; rw [show x7 = 24 by omega] at z; exact z)⟩
set_option maxRecDepth 4000 in
theorem c0_kept3 (G : GX l s0 D tys a0 dT) {U : AirD} {aj bj : Int64} (I : Bd s) (jAIR : AIR s) (jLSN : LSN aj bj s) (jCDJ : CDJ U s)  : CT l s0 D A dT 6 (rmN 6) [.ref (A 31)] s (fun o t => Bd t ∧ Fm [] [] s t ∧ ∃ e, o = .inl (some (.int (Int32.ofInt e))) ∧ rng e ∧ (e = iaH (inL aj bj) (uW U) (uT U) (uN U))) := by
  refine ct_ofX G (by decide) (Nat.le_of_ble_eq_true rfl) (fun k X E ET hRt hXt q => ?_)
  show WS k 0 [(0, .ref (A 31))] [] _ 0 0
  have F : Fm [] [] s s := fm_rf _ _ s
  have b1 := bi_22 I
  have L4 : ∀ (n : Nat) (t : PS) (sm0 c : Int), Bd t → Fm [] [] s t → AIR t → LSN aj bj t → CDJ U t → (sm0 = VSS 26 27 28 29 s (fun x _ i _ => iC s 12 x * i) (c : Int).toNat) → ((0 ≤ sm0 ∧ sm0 ≤ 384000 * c) ∧ 0 ≤ c ∧ c ≤ iI s 22 ∧ iI t 22 = iI s 22) → (12 - c : Int).toNat < n → (∀ (t' : PS) (sm0' c' : Int), Bd t' → Fm [] [] s t' → AIR t' → LSN aj bj t' → CDJ U t' → (sm0' = VSS 26 27 28 29 s (fun x _ i _ => iC s 12 x * i) (c' : Int).toNat) → (rng sm0' ∧ c' = iI s 22) → WS k 42 [(0, .ref (A 31)), (1, .int (Int32.ofInt sm0')), (2, .int (Int32.ofInt c'))] [] (Wd A dT t') 0 0) → WS k 4 [(0, .ref (A 31)), (1, .int (Int32.ofInt sm0)), (2, .int (Int32.ofInt c))] [] (Wd A dT t) 0 0 := by
    intro n
    induction n with
    | zero =>
      intro t sm0 c I F jjAIR jjLSN jjCDJ hq hi hm kx
      exact absurd hm (Nat.not_lt_zero _)
    | succ n ih =>
      intro t sm0 c I F jjAIR jjLSN jjCDJ hq hi hm kx
      have b1001 := bi_22 I
      refine z_load_n X (x := c) rfl (List.Mem.tail _ (List.Mem.tail _ (List.Mem.head _))) (z_aload_n X (x := A 31) rfl (List.Mem.head _) (z_getI X 31 rfl (c518_ok rfl) rfl rfl ?_))
      have b1002 := bi_22 I
      refine z_icmp_ge X (t := 42) rfl rfl ⟨by first | exact oq_fa4e5087 hi.2.1 | omega, by first | exact oq_39d2cc6e hi.2.2.1 b1.2 | omega⟩ (rng_to _) (fun g1003 => ?_) (fun g1003 => ?_)
      ·
        refine WS_pq [0, 1, 2] (lv' := [(0, .ref (A 31)), (1, .int (Int32.ofInt sm0)), (2, .int (Int32.ofInt c))]) rfl ?_
        exact kx _ sm0 c I F jjAIR jjLSN jjCDJ hq (by first | exact ⟨And.intro (oq_fa4e5087 hi.1.1) (oq_a89775b0 hi.1.2 hi.2.2.1 b1.2), oq_dae09544 hi.2.2.1 hi.2.2.2 g1003⟩ | omega)
      ·
        refine z_load_n X (x := sm0) rfl (List.Mem.tail _ (List.Mem.head _)) (z_aload_n X (x := A 31) rfl (List.Mem.head _) (s_getR X 31 rfl (c518_ok rfl) rfl rfl (s_getR X 3 rfl (c518_ok rfl) rfl rfl (z_aload_n X (x := A 31) rfl (List.Mem.head _) (s_getR X 31 rfl (c518_ok rfl) rfl rfl (z_load_n X (x := c) rfl (List.Mem.tail _ (List.Mem.tail _ (List.Mem.head _))) (z_ald X 32 rfl (c518_ok rfl) rfl (by first | exact hi.2.1 | omega) (show c < 12 by first | exact oq_f36e82a8 g1003 b1002.2 | omega) (cbig_ok rfl) ?_)))))))
        have b1004 := bc_26 I (show (c).toNat < 12 by first | exact oq_2dac6850 g1003 b1002.2 | omega)
        refine z_ald X 15 rfl (c518_ok rfl) rfl (by first | exact b1004.1 | omega) (show (iC t 26 (c).toNat) < 12 by first | exact oq_0ddfcfee b1004.2 | omega) (cbig_ok rfl) ?_
        have b1005 := bc_12 I (show ((iC t 26 (c).toNat)).toNat < 12 by first | exact oq_9c5fa447 b1004.2 | omega)
        refine z_aload_n X (x := A 31) rfl (List.Mem.head _) (s_getR X 31 rfl (c518_ok rfl) rfl rfl (z_load_n X (x := c) rfl (List.Mem.tail _ (List.Mem.tail _ (List.Mem.head _))) (z_ald X 34 rfl (c518_ok rfl) rfl (by first | exact hi.2.1 | omega) (show c < 12 by first | exact oq_f36e82a8 g1003 b1002.2 | omega) (cbig_ok rfl) ?_)))
        have b1006 := bc_28 I (show (c).toNat < 12 by first | exact oq_2dac6850 g1003 b1002.2 | omega)
        have hI0 := vss_b jjLSN (i := c) (by omega)
        have hP := mul_bd (show 0 ≤ (iC t 12 ((iC t 26 (c).toNat)).toNat) by omega) (show (iC t 12 ((iC t 26 (c).toNat)).toNat) ≤ 1200 by omega) hI0.1 hI0.2
        refine z_mul X rfl (z_add X rfl (z_store_n X (lv' := [(1, .int (Int32.ofInt (sm0 + ((iC t 12 ((iC t 26 (c).toNat)).toNat) * (iC t 28 (c).toNat))))), (0, .ref (A 31)), (2, .int (Int32.ofInt c))]) rfl (by decide) (fun _ h => h) (z_inc X (x := c) (lv' := [(2, .int (Int32.ofInt (c + 1))), (1, .int (Int32.ofInt (sm0 + ((iC t 12 ((iC t 26 (c).toNat)).toNat) * (iC t 28 (c).toNat))))), (0, .ref (A 31))]) rfl (by decide) (List.Mem.tail _ (List.Mem.tail _ (List.Mem.head _))) (fun _ h => h) (z_goto X (t := 4) rfl rfl (WS_pq [2, 1, 0] (lv' := [(0, .ref (A 31)), (1, .int (Int32.ofInt (sm0 + ((iC t 12 ((iC t 26 (c).toNat)).toNat) * (iC t 28 (c).toNat))))), (2, .int (Int32.ofInt (c + 1)))]) rfl ?_)))))
        exact ih _ (sm0 + ((iC t 12 ((iC t 26 (c).toNat)).toNat) * (iC t 28 (c).toNat))) (c + 1) I F jjAIR jjLSN jjCDJ (kc_up hq (by omega) (by have z : ∀ a j, iC t a j = iC s a j := fun a j => fm_c F List.not_mem_nil; simp only [z])) (by first | exact ⟨by omega, oq_54f49eb5 hi.2.1, oq_8a89b3ae g1003 hi.2.2.2, hi.2.2.2⟩ | omega) (by first | exact qk_me hm (by decide) (oq_b575e8c1 g1003 b1002.2) | omega) kx
  refine z_const X rfl (z_store_n X (lv' := [(1, .int (Int32.ofInt 0)), (0, .ref (A 31))]) rfl (by decide) (fun _ h => h) (z_const X rfl (z_store_n X (lv' := [(2, .int (Int32.ofInt 0)), (1, .int (Int32.ofInt 0)), (0, .ref (A 31))]) rfl (by decide) (fun _ h => h) (WS_pq [2, 1, 0] (lv' := [(0, .ref (A 31)), (1, .int (Int32.ofInt 0)), (2, .int (Int32.ofInt 0))]) rfl (L4 ((12 - 0 : Int).toNat + 1) s 0 0 I F jAIR jLSN jCDJ rfl (by first | exact ⟨And.intro (by decide) (by decide), by decide, b1.1, by decide⟩ | omega) (Nat.lt_succ_self _) ?_)))))
  intro s2 x3 x4 Is2 Fs2 JAIR_s2 JLSN_s2 JCDJ_s2 Qs2 hs2
  have b5 := bi_22 Is2
  refine z_load_n X (x := x3) rfl (List.Mem.tail _ (List.Mem.head _)) ?_
  exact w_iret X.1 q hRt rfl (ax_d X (show cdA 6 43 = some (.ireturn, 1, 0, 0, 0) from rfl)) (Nat.zero_le _) (Nat.zero_le _) ⟨_, rfl, Is2, Fs2, x3, rfl, ⟨by first | exact hs2.1.1 | omega, by first | exact hs2.1.2 | omega⟩, (kc_end jAIR jLSN jCDJ Qs2 (by omega))⟩
set_option maxRecDepth 4000 in
theorem c9_steps3 (G : GX l s0 D tys a0 dT) {U : AirD} (I : Bd s) (jAIR : AIR s) (jCDJ : CDJ U s)  : CT l s0 D A dT 124 (rmN 124) [.ref (A 3)] s (fun o t => Bd t ∧ Fm [] [] s t ∧ ∃ e, o = .inl (some (.int (Int32.ofInt e))) ∧ rng e ∧ (e = sm (fun x => uT U x * ((uW U).2 x - 1)) (uN U))) := by
  refine ct_ofX G (by decide) (Nat.le_of_ble_eq_true rfl) (fun k X E ET hRt hXt q => ?_)
  show WS k 0 [(0, .ref (A 3))] [] _ 0 0
  have F : Fm [] [] s s := fm_rf _ _ s
  have b1 := bi_9 I
  have L4 : ∀ (n : Nat) (t : PS) (sm0 c : Int), Bd t → Fm [] [] s t → AIR t → CDJ U t → (sm0 = sm (fun x => iC s 12 x * (iC s 2 x - 1)) (c : Int).toNat) → ((0 ≤ sm0 ∧ sm0 ≤ 27600 * c) ∧ 0 ≤ c ∧ c ≤ iI s 9 ∧ iI t 9 = iI s 9) → (12 - c : Int).toNat < n → (∀ (t' : PS) (sm0' c' : Int), Bd t' → Fm [] [] s t' → AIR t' → CDJ U t' → (sm0' = sm (fun x => iC s 12 x * (iC s 2 x - 1)) (c' : Int).toNat) → (rng sm0' ∧ c' = iI s 9) → WS k 36 [(0, .ref (A 3)), (1, .int (Int32.ofInt sm0')), (2, .int (Int32.ofInt c'))] [] (Wd A dT t') 0 0) → WS k 4 [(0, .ref (A 3)), (1, .int (Int32.ofInt sm0)), (2, .int (Int32.ofInt c))] [] (Wd A dT t) 0 0 := by
    intro n
    induction n with
    | zero =>
      intro t sm0 c I F jjAIR jjCDJ hq hi hm kx
      exact absurd hm (Nat.not_lt_zero _)
    | succ n ih =>
      intro t sm0 c I F jjAIR jjCDJ hq hi hm kx
      have b1001 := bi_9 I
      refine z_load_n X (x := c) rfl (List.Mem.tail _ (List.Mem.tail _ (List.Mem.head _))) (z_aload_n X (x := A 3) rfl (List.Mem.head _) (z_getI X 3 rfl (c518_ok rfl) rfl rfl ?_))
      have b1002 := bi_9 I
      refine z_icmp_ge X (t := 36) rfl rfl ⟨by first | exact oq_fa4e5087 hi.2.1 | omega, by first | exact oq_39d2cc6e hi.2.2.1 b1.2 | omega⟩ (rng_to _) (fun g1003 => ?_) (fun g1003 => ?_)
      ·
        refine WS_pq [0, 1, 2] (lv' := [(0, .ref (A 3)), (1, .int (Int32.ofInt sm0)), (2, .int (Int32.ofInt c))]) rfl ?_
        exact kx _ sm0 c I F jjAIR jjCDJ hq (by first | exact ⟨And.intro (oq_fa4e5087 hi.1.1) (oq_ab9f450b hi.1.2 hi.2.2.1 b1.2), oq_dae09544 hi.2.2.1 hi.2.2.2 g1003⟩ | omega)
      ·
        refine z_load_n X (x := sm0) rfl (List.Mem.tail _ (List.Mem.head _)) (z_aload_n X (x := A 3) rfl (List.Mem.head _) (s_getR X 3 rfl (c518_ok rfl) rfl rfl (z_load_n X (x := c) rfl (List.Mem.tail _ (List.Mem.tail _ (List.Mem.head _))) (z_ald X 15 rfl (c518_ok rfl) rfl (by first | exact hi.2.1 | omega) (show c < 12 by first | exact oq_f36e82a8 g1003 b1002.2 | omega) (cbig_ok rfl) ?_))))
        have b1004 := bc_12 I (show (c).toNat < 12 by first | exact oq_2dac6850 g1003 b1002.2 | omega)
        refine z_aload_n X (x := A 3) rfl (List.Mem.head _) (s_getR X 3 rfl (c518_ok rfl) rfl rfl (z_load_n X (x := c) rfl (List.Mem.tail _ (List.Mem.tail _ (List.Mem.head _))) (z_ald X 5 rfl (c518_ok rfl) rfl (by first | exact hi.2.1 | omega) (show c < 12 by first | exact oq_f36e82a8 g1003 b1002.2 | omega) (cbig_ok rfl) ?_)))
        have b1005 := bc_2 I (show (c).toNat < 12 by first | exact oq_2dac6850 g1003 b1002.2 | omega)
        refine z_const X rfl (z_sub X rfl ?_)
        have hS0 := siz_r jjAIR (x := c) (by omega)
        have hP := mul_bd (show 0 ≤ (iC t 12 (c).toNat) by omega) (show (iC t 12 (c).toNat) ≤ 1200 by omega) (show 0 ≤ ((iC t 2 (c).toNat) - 1) by omega) (show ((iC t 2 (c).toNat) - 1) ≤ 23 by omega)
        refine z_mul X rfl (z_add X rfl (z_store_n X (lv' := [(1, .int (Int32.ofInt (sm0 + ((iC t 12 (c).toNat) * ((iC t 2 (c).toNat) - 1))))), (0, .ref (A 3)), (2, .int (Int32.ofInt c))]) rfl (by decide) (fun _ h => h) (z_inc X (x := c) (lv' := [(2, .int (Int32.ofInt (c + 1))), (1, .int (Int32.ofInt (sm0 + ((iC t 12 (c).toNat) * ((iC t 2 (c).toNat) - 1))))), (0, .ref (A 3))]) rfl (by decide) (List.Mem.tail _ (List.Mem.tail _ (List.Mem.head _))) (fun _ h => h) (z_goto X (t := 4) rfl rfl (WS_pq [2, 1, 0] (lv' := [(0, .ref (A 3)), (1, .int (Int32.ofInt (sm0 + ((iC t 12 (c).toNat) * ((iC t 2 (c).toNat) - 1))))), (2, .int (Int32.ofInt (c + 1)))]) rfl ?_)))))
        exact ih _ (sm0 + ((iC t 12 (c).toNat) * ((iC t 2 (c).toNat) - 1))) (c + 1) I F jjAIR jjCDJ (cs_up hq (by omega) (by have z : ∀ a j, iC t a j = iC s a j := fun a j => fm_c F List.not_mem_nil; simp only [z])) (by first | exact ⟨by omega, oq_54f49eb5 hi.2.1, oq_8a89b3ae g1003 hi.2.2.2, hi.2.2.2⟩ | omega) (by first | exact qk_me hm (by decide) (oq_b575e8c1 g1003 b1002.2) | omega) kx
  refine z_const X rfl (z_store_n X (lv' := [(1, .int (Int32.ofInt 0)), (0, .ref (A 3))]) rfl (by decide) (fun _ h => h) (z_const X rfl (z_store_n X (lv' := [(2, .int (Int32.ofInt 0)), (1, .int (Int32.ofInt 0)), (0, .ref (A 3))]) rfl (by decide) (fun _ h => h) (WS_pq [2, 1, 0] (lv' := [(0, .ref (A 3)), (1, .int (Int32.ofInt 0)), (2, .int (Int32.ofInt 0))]) rfl (L4 ((12 - 0 : Int).toNat + 1) s 0 0 I F jAIR jCDJ rfl (by first | exact ⟨And.intro (by decide) (by decide), by decide, b1.1, by decide⟩ | omega) (Nat.lt_succ_self _) ?_)))))
  intro s2 x3 x4 Is2 Fs2 JAIR_s2 JCDJ_s2 Qs2 hs2
  have b5 := bi_9 Is2
  refine z_load_n X (x := x3) rfl (List.Mem.tail _ (List.Mem.head _)) ?_
  exact w_iret X.1 q hRt rfl (ax_d X (show cdA 124 37 = some (.ireturn, 1, 0, 0, 0) from rfl)) (Nat.zero_le _) (Nat.zero_le _) ⟨_, rfl, Is2, Fs2, x3, rfl, ⟨by first | exact hs2.1.1 | omega, by first | exact hs2.1.2 | omega⟩, (cs_end jCDJ Qs2 (by omega))⟩
end M87t
end
