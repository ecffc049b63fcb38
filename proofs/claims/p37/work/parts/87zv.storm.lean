theorem oq_e72f9ac6 {a0 a1 a2 : Int} (h0 : a0 < a1) (h1 : a2 ≤ 23) (h2 : a1 ≤ 12) : ((a2 * 12) + a0) < 288 := by omega
theorem oq_491502f9 {a0 a1 a2 : Int} (h0 : a0 < a1) (h1 : a2 ≤ 23) (h2 : a1 ≤ 12) : (((a2 * 12) + a0) : Int).toNat < 288 := by omega
theorem oq_5db125fc {a0 a1 : Int} (h0 : a0 ≤ 128) (h1 : a1 ≤ a0) (h2 : a1 = 128) : a0 = 128 := by omega
theorem oq_58560895 {a0 a1 : Int} (h0 : a0 = a1) (h1 : a1 ≤ 0) : a0 ≤ 2147483647 := by omega
theorem oq_5f03d490 {a0 a1 : Int} (h0 : a0 ≤ 256) (h1 : a1 ≤ a0) (h2 : a1 = 256) : a0 = 256 := by omega
theorem oq_470daf75 {a0 a1 : Int} (h0 : a0 < a1) (h1 : a1 < 128) : a0 < 128 := by omega
theorem oq_ab4b2f96 {a0 a1 : Int} (h0 : a0 < a1) (h1 : a1 < 128) : (a0 : Int).toNat < 128 := by omega
theorem oq_09968445 {a0 a1 : Int} (h0 : a0 ≤ 128) (h1 : 128 ≤ a1) : a0 ≤ a1 := by omega
theorem oq_136d8cda {a0 a1 : Int} (h0 : a0 ≤ 6) (h1 : a1 ≤ a0) (h2 : a1 = 6) : a0 = 6 := by omega
theorem oq_321c4dd9 {a0 a1 : Int} (h0 : a0 = a1) (h1 : a1 ≤ 127) : (a0 : Int).toNat < 128 := by omega
theorem oq_070e7ed6 {a0 : Int} (h0 : a0 ≤ 2147483647) : (a0 - 1) ≤ 2147483647 := by omega
theorem oq_18c99822 {a0 a1 : Int} (h0 : a0 < a1) (h1 : a1 ≤ 24) : (a0 - 1) < 24 := by omega
theorem oq_ff658a24 {a0 a1 : Int} (h0 : a0 < a1) (h1 : a1 ≤ 24) : ((a0 - 1) : Int).toNat < 24 := by omega
theorem oq_e28f6910 {a0 : Int} (h0 : 1 ≤ (a0 + 1)) : (-2147483648) ≤ (a0 + 1) := by omega
theorem oq_0f81f41a {a0 : Int} (h0 : (a0 + 1) ≤ 24) : (a0 + 1) ≤ 2147483647 := by omega
theorem oq_e7b5297c {a0 : Int} (h0 : 1 ≤ (a0 + 1)) : 0 ≤ (a0 + 1) := by omega
/-! Rotas: sets of pairs as bits, who is chosen, the run over the quarters -/
def bT (x : Int32) (p : Nat) : Bool := x.toBitVec.getLsbD p
theorem bt_or (x y : Int32) (p : Nat) : bT (x ||| y) p = (bT x p || bT y p) := by
  unfold bT
  rw [Int32.toBitVec_or, BitVec.getLsbD_or]
theorem bt_0 (p : Nat) : bT (Int32.ofInt 0) p = false := by
  unfold bT
  have e : (Int32.ofInt 0).toBitVec = 0#32 := by decide
  rw [e, BitVec.getLsbD_zero]
theorem bt_sh {x : Int32} {n : Nat} (hn : n < 8) : (x >>> (Int32.ofInt (n : Int) &&& 31)) &&& Int32.ofInt 1 = Int32.ofInt (if bT x n = true then 1 else 0) := by
  have e := sh_sm_ n (by omega)
  have b0 : (x >>> (Int32.ofInt (n : Int) &&& 31)).toBitVec.getLsbD 0 = bT x n := by
    rw [Int32.toBitVec_shiftRight, BitVec.getLsbD_sshiftRight', e]
    simp only [Nat.add_zero]
    rw [if_pos (show n < 32 by omega)]
    show (!decide (32 ≤ 0) && bT x n) = bT x n
    simp
  apply Int32.toBitVec.inj
  apply BitVec.eq_of_getLsbD_eq
  intro i hi
  have o : (Int32.ofInt 1).toBitVec.getLsbD i = decide (i = 0) := by
    have e1 : (Int32.ofInt 1).toBitVec = 1#32 := by decide
    rw [e1, BitVec.getLsbD_one]
    simp
  rw [Int32.toBitVec_and, BitVec.getLsbD_and, o]
  by_cases c : i = 0
  · subst c
    rw [b0, decide_eq_true rfl, Bool.and_true]
    cases bT x n
    · decide
    · decide
  · rw [decide_eq_false c, Bool.and_false]
    cases bT x n
    · show false = (Int32.ofInt 0).toBitVec.getLsbD i
      have e2 : (Int32.ofInt 0).toBitVec = 0#32 := by decide
      rw [e2, BitVec.getLsbD_zero]
    · show false = (Int32.ofInt 1).toBitVec.getLsbD i
      rw [o, decide_eq_false c]
theorem bt_rd {b p y w : Int} (h1 : Int32.ofInt y = Int32.ofInt b >>> (Int32.ofInt p &&& 31)) (h2 : Int32.ofInt w = Int32.ofInt y &&& Int32.ofInt 1) (r : rng w) (p0 : 0 ≤ p ∧ p ≤ 7) : (w = 1 ∧ bT (Int32.ofInt b) p.toNat = true) ∨ (w = 0 ∧ ¬ bT (Int32.ofInt b) p.toNat = true) := by
  have z := bt_sh (x := Int32.ofInt b) (n := p.toNat) (by omega)
  rw [show ((p.toNat : Nat) : Int) = p by omega, ← h1, ← h2] at z
  by_cases c : bT (Int32.ofInt b) p.toNat = true
  · rw [if_pos c] at z
    exact Or.inl ⟨(of_to r z).trans (by decide), c⟩
  · rw [if_neg c] at z
    exact Or.inr ⟨(of_to r z).trans (by decide), c⟩
/-! A small region parted exactly: the search over all partings, as a function of what each set of cells hears -/
/-- powers of two -/
def pwI : Nat → Int
  | 0 => 1
  | k + 1 => 2 * pwI k
theorem pwi_1 : ∀ k : Nat, 1 ≤ pwI k
  | 0 => Int.le_refl _
  | k + 1 => by
    have := pwi_1 k
    show 1 ≤ 2 * pwI k
    omega
theorem pwi_8 : ∀ n : Nat, n < 9 → pwI n ≤ 256 := by decide +kernel
/-- the mask of a heap: the cells below k that stand in it -/
def msI (h : Nat → Int) (g : Int) : Nat → Int
  | 0 => 0
  | k + 1 => msI h g k + (if h k = g then pwI k else 0)
theorem msi_y {h : Nat → Int} {g : Int} {k : Nat} (e : h k = g) : msI h g (k + 1) = msI h g k + pwI k := by
  show msI h g k + (if h k = g then pwI k else 0) = _
  rw [if_pos e]
theorem msi_n {h : Nat → Int} {g : Int} {k : Nat} (e : h k ≠ g) : msI h g (k + 1) = msI h g k := by
  show msI h g k + (if h k = g then pwI k else 0) = _
  rw [if_neg e, Int.add_zero]
theorem msi_b (h : Nat → Int) (g : Int) : ∀ k : Nat, 0 ≤ msI h g k ∧ msI h g k < pwI k
  | 0 => ⟨Int.le_refl _, by show (0 : Int) < 1; decide⟩
  | k + 1 => by
    have ih := msi_b h g k
    have p := pwi_1 k
    have e2 : pwI (k + 1) = 2 * pwI k := rfl
    by_cases c : h k = g
    · rw [msi_y c, e2]; omega
    · rw [msi_n c, e2]; omega
theorem msi_c {h h' : Nat → Int} {g : Int} : ∀ k : Nat, (∀ j, j < k → h j = h' j) → msI h g k = msI h' g k
  | 0, _ => rfl
  | k + 1, e => by
    show msI h g k + (if h k = g then pwI k else 0) = msI h' g k + (if h' k = g then pwI k else 0)
    rw [msi_c k (fun j hj => e j (by omega)), e k (by omega)]
theorem msi_or : ∀ k : Nat, k < 8 → ∀ m : Nat, m < 256 → (m : Int) < pwI k → (Int32.ofInt (m : Int) ||| (Int32.ofInt 1 <<< (Int32.ofInt (k : Int) &&& 31))).toInt = (m : Int) + pwI k := by decide +kernel
theorem ms_put {m k y z : Int} (k0 : 0 ≤ k ∧ k ≤ 7) (m0 : 0 ≤ m ∧ m < pwI k.toNat) (h1 : Int32.ofInt y = Int32.ofInt 1 <<< (Int32.ofInt k &&& 31)) (h2 : Int32.ofInt z = Int32.ofInt m ||| Int32.ofInt y) (r : rng z) : z = m + pwI k.toNat := by
  have p := pwi_8 k.toNat (by omega)
  have q := msi_or k.toNat (by omega) m.toNat (by omega) (by rw [show ((m.toNat : Nat) : Int) = m by omega]; exact m0.2)
  rw [show ((m.toNat : Nat) : Int) = m by omega, show ((k.toNat : Nat) : Int) = k by omega, ← h1, ← h2, zi r] at q
  exact q
def trH (h : Nat → Int) (n : Nat) : Nat → Int := fun j => if j < n then h j else 0
def upH (h : Nat → Int) (k : Nat) (g : Int) : Nat → Int := fun j => if j = k then g else h j
theorem fl8_up {a : Nat} {f : Nat → Int} {n v : Int} {t u : PS} (h : ∀ j : Nat, (j : Int) < n → iC t a j = f j) (n0 : 0 ≤ n) (hu : UPD a n v t u) (hv : v = f n.toNat) : ∀ j : Nat, (j : Int) < n + 1 → iC u a j = f j := fun j hj => by
  by_cases z : j = n.toNat
  · rw [z, hu.1]; exact hv
  · rw [hu.2 j z]; exact h j (by omega)
/-! Storms: the spreading from a cell, the way back, the mends tried one behind the other -/
noncomputable def pickQ {α : Type} (P : Prop) (x y : α) : α := @ite α P (Classical.propDecidable P) x y
theorem piq_y {α : Type} {P : Prop} {x y : α} (h : P) : pickQ P x y = x := by unfold pickQ; exact if_pos h
theorem piq_n {α : Type} {P : Prop} {x y : α} (h : ¬ P) : pickQ P x y = y := by unfold pickQ; exact if_neg h
/-- far, queue, how many -/
abbrev BfT : Type := (Nat → Int) × (Nat → Int) × Nat
def stCq (S : Int → Prop) (σ : BfT) (d : Int) : Prop := d ≠ -1 ∧ σ.1 d.toNat = -1 ∧ ¬ S d ∧ σ.2.2 < 128
def bfP (σ : BfT) (x d : Int) : BfT := (fun c => if c = d.toNat then σ.1 x.toNat + 1 else σ.1 c, fun j => if j = σ.2.2 then d else σ.2.1 j, σ.2.2 + 1)
noncomputable def bfS (S : Int → Prop) (σ : BfT) (h : Nat) (g : Int) : BfT := pickQ (stCq S σ (besT (σ.2.1 h) g)) (bfP σ (σ.2.1 h) (besT (σ.2.1 h) g)) σ
def bf0 (b : Int) : BfT := (fun c => if c = b.toNat then 0 else -1, fun j => if j = 0 then b else 0, 1)
noncomputable def bfN (S : Int → Prop) (b : Int) : Nat → BfT
  | 0 => bf0 b
  | k + 1 => bfS S (bfN S b k) (k / 6) ((k % 6 : Nat) : Int)
theorem bfn_up {S : Int → Prop} {b : Int} {h g : Int} (h0 : 0 ≤ h) (g0 : 0 ≤ g ∧ g ≤ 5) : bfN S b (6 * h + (g + 1)).toNat = bfS S (bfN S b (6 * h + g).toNat) h.toNat g := by
  rw [show (6 * h + (g + 1)).toNat = (6 * h + g).toNat + 1 by omega]
  show bfS S (bfN S b (6 * h + g).toNat) ((6 * h + g).toNat / 6) (((6 * h + g).toNat % 6 : Nat) : Int) = _
  rw [show (6 * h + g).toNat / 6 = h.toNat by omega, show (((6 * h + g).toNat % 6 : Nat) : Int) = g by omega]
/-- the same spreading in two rows -/
def BFQ (a q : Nat) (σ : BfT) (n : Int) (t : PS) : Prop := (∀ c : Nat, c < 128 → iC t a c = σ.1 c) ∧ (∀ j : Nat, j < σ.2.2 → iC t q j = σ.2.1 j) ∧ n = (σ.2.2 : Int)
theorem bfq_0 {a q : Nat} {b : Int} {t : PS} (b0 : 0 ≤ b ∧ b ≤ 127) (h1 : ∀ c : Nat, c < 128 → iC t a c = if c = b.toNat then 0 else -1) (h2 : iC t q 0 = b) : BFQ a q (bf0 b) 1 t := ⟨h1, fun j hj => by
  replace hj : j < 1 := hj
  show iC t q j = if j = 0 then b else 0
  rw [show j = 0 by omega, if_pos rfl]; exact h2, rfl⟩
theorem bfq_n {a q : Nat} {S : Int → Prop} {σ : BfT} {n h g d : Int} {t : PS} (r : BFQ a q σ n t) (h0 : 0 ≤ h ∧ h < n) (hd : d = besT (iC t q h.toNat) g) (hn : d = -1 ∨ (0 ≤ d ∧ d ≤ 127 ∧ (iC t a d.toNat ≠ -1 ∨ S d ∨ 128 ≤ n))) : BFQ a q (bfS S σ h.toNat g) n t := by
  have e : bfS S σ h.toNat g = σ := by
    unfold bfS
    refine piq_n (fun w => ?_)
    obtain ⟨w1, w2, w3, w4⟩ := w
    rw [← r.2.1 h.toNat (by have := r.2.2; omega), ← hd] at w1 w2 w3
    rcases hn with z | ⟨z0, z1, z | z | z⟩
    · exact w1 z
    · exact z (by rw [r.1 _ (by omega)]; exact w2)
    · exact w3 z
    · have := r.2.2
      omega
  rw [e]; exact r
theorem bfq_y {a q : Nat} {S : Int → Prop} {σ : BfT} {n h g d v : Int} {t u : PS} (r : BFQ a q σ n t) (h0 : 0 ≤ h ∧ h < n) (hd : d = besT (iC t q h.toNat) g) (d0 : 0 ≤ d ∧ d ≤ 127) (hf : iC t a d.toNat = -1) (hS : ¬ S d) (n1 : n < 128) (hx : 0 ≤ iC t q h.toNat ∧ iC t q h.toNat ≤ 127) (hv : v = iC t a (iC t q h.toNat).toNat + 1) (h1 : UPD a d v t u) (h2 : UPD q n d t u) : BFQ a q (bfS S σ h.toNat g) (n + 1) u := by
  have eq : iC t q h.toNat = σ.2.1 h.toNat := r.2.1 _ (by have := r.2.2; omega)
  have e : bfS S σ h.toNat g = bfP σ (iC t q h.toNat) d := by
    unfold bfS
    rw [← eq, ← hd]
    exact piq_y ⟨by omega, by rw [← r.1 _ (by omega)]; exact hf, hS, by have := r.2.2; omega⟩
  have en := r.2.2
  rw [e]
  refine ⟨fun c hc => ?_, fun j hj => ?_, ?_⟩
  · show iC u a c = if c = d.toNat then σ.1 (iC t q h.toNat).toNat + 1 else σ.1 c
    by_cases z : c = d.toNat
    · rw [if_pos z, z, h1.1, hv, r.1 _ (by omega)]
    · rw [if_neg z, h1.2 c z]; exact r.1 c hc
  · replace hj : j < σ.2.2 + 1 := hj
    show iC u q j = if j = σ.2.2 then d else σ.2.1 j
    by_cases z : j = σ.2.2
    · rw [if_pos z, show j = n.toNat by omega, h2.1]
    · rw [if_neg z, h2.2 j (by omega)]; exact r.2.1 j (by omega)
  · show n + 1 = ((σ.2.2 + 1 : Nat) : Int)
    omega
/-- what stands in a spreading -/
def BFI (S : Int → Prop) (σ : BfT) : Prop := (∀ c : Nat, c < 128 → σ.1 c ≠ -1 → ¬ S (c : Int) ∧ 0 ≤ σ.1 c) ∧ (∀ c : Nat, c < 128 → 1 ≤ σ.1 c → ∃ e : Int, adjT (c : Int) e ∧ σ.1 e.toNat = σ.1 c - 1) ∧ (∀ j : Nat, j < σ.2.2 → (0 ≤ σ.2.1 j ∧ σ.2.1 j ≤ 127) ∧ σ.1 (σ.2.1 j).toNat ≠ -1) ∧ (∀ c : Nat, c < 128 → σ.1 c < (σ.2.2 : Int)) ∧ σ.2.2 ≤ 128
theorem bfi_0 {S : Int → Prop} {b : Int} (b0 : 0 ≤ b ∧ b ≤ 127) (hb : ¬ S b) : BFI S (bf0 b) := by
  refine ⟨fun c hc h => ?_, fun c hc h => ?_, fun j hj => ?_, fun c hc => ?_, by show 1 ≤ 128; decide⟩
  rotate_left 3
  · show (if c = b.toNat then (0 : Int) else -1) < ((1 : Nat) : Int)
    by_cases z : c = b.toNat
    · rw [if_pos z]; decide
    · rw [if_neg z]; decide
  · replace h : (if c = b.toNat then (0 : Int) else -1) ≠ -1 := h
    show ¬ S (c : Int) ∧ 0 ≤ (if c = b.toNat then (0 : Int) else -1)
    by_cases z : c = b.toNat
    · rw [if_pos z]; exact ⟨by rw [show (c : Int) = b by omega]; exact hb, Int.le_refl _⟩
    · rw [if_neg z] at h; exact absurd rfl h
  · replace h : 1 ≤ (if c = b.toNat then (0 : Int) else -1) := h
    by_cases z : c = b.toNat
    · rw [if_pos z] at h; omega
    · rw [if_neg z] at h; omega
  · replace hj : j < 1 := hj
    show (0 ≤ (if j = 0 then b else 0) ∧ (if j = 0 then b else 0) ≤ 127) ∧ (if (if j = 0 then b else (0 : Int)).toNat = b.toNat then (0 : Int) else -1) ≠ -1
    rw [if_pos (show j = 0 by omega), if_pos rfl]
    exact ⟨b0, by decide⟩
theorem bes_r {x g : Int} (x0 : 0 ≤ x ∧ x ≤ 127) (g0 : 0 ≤ g ∧ g ≤ 5) (h : besT x g ≠ -1) : 0 ≤ besT x g ∧ besT x g ≤ 127 := adj_rng ⟨g, g0.1, g0.2, rfl, h⟩ x0.1 x0.2
theorem bfi_up {S : Int → Prop} {σ : BfT} {h : Nat} {g : Int} (r : BFI S σ) (hh : h < σ.2.2) (g0 : 0 ≤ g ∧ g ≤ 5) : BFI S (bfS S σ h g) := by
  by_cases w : stCq S σ (besT (σ.2.1 h) g)
  · have e : bfS S σ h g = bfP σ (σ.2.1 h) (besT (σ.2.1 h) g) := by unfold bfS; exact piq_y w
    rw [e]
    obtain ⟨r1, r2, r3, r4, r5⟩ := r
    obtain ⟨w1, w2, w3, w4⟩ := w
    obtain ⟨x0, xf⟩ := r3 h hh
    have d0 := bes_r x0 g0 w1
    have hadj : adjT (σ.2.1 h) (besT (σ.2.1 h) g) := ⟨g, g0.1, g0.2, rfl, w1⟩
    generalize hx : σ.2.1 h = x at *
    generalize hd : besT x g = d at *
    have xd : x.toNat ≠ d.toNat := fun z => xf (by rw [z]; exact w2)
    have fx := (r1 x.toNat (by omega) xf).2
    have hx4 := r4 x.toNat (by omega)
    refine ⟨fun c hc q => ?_, fun c hc q => ?_, fun j hj => ?_, fun c hc => ?_, by show σ.2.2 + 1 ≤ 128; omega⟩
    rotate_left 3
    · show (if c = d.toNat then σ.1 x.toNat + 1 else σ.1 c) < ((σ.2.2 + 1 : Nat) : Int)
      have hc4 := r4 c hc
      by_cases z : c = d.toNat
      · rw [if_pos z]; omega
      · rw [if_neg z]; omega
    · replace q : (if c = d.toNat then σ.1 x.toNat + 1 else σ.1 c) ≠ -1 := q
      show ¬ S (c : Int) ∧ 0 ≤ (if c = d.toNat then σ.1 x.toNat + 1 else σ.1 c)
      by_cases z : c = d.toNat
      · rw [if_pos z]; exact ⟨by rw [show (c : Int) = d by omega]; exact w3, by omega⟩
      · rw [if_neg z] at q ⊢; exact r1 c hc q
    · replace q : 1 ≤ (if c = d.toNat then σ.1 x.toNat + 1 else σ.1 c) := q
      by_cases z : c = d.toNat
      · refine ⟨x, by rw [show (c : Int) = d by omega]; exact adj_sym hadj x0.1 x0.2, ?_⟩
        show (if x.toNat = d.toNat then σ.1 x.toNat + 1 else σ.1 x.toNat) = (if c = d.toNat then σ.1 x.toNat + 1 else σ.1 c) - 1
        rw [if_neg xd, if_pos z]; omega
      · rw [if_neg z] at q
        obtain ⟨p, p1, p2⟩ := r2 c hc q
        refine ⟨p, p1, ?_⟩
        show (if p.toNat = d.toNat then σ.1 x.toNat + 1 else σ.1 p.toNat) = (if c = d.toNat then σ.1 x.toNat + 1 else σ.1 c) - 1
        rw [if_neg (fun y => by rw [y, w2] at p2; omega), if_neg z]; exact p2
    · replace hj : j < σ.2.2 + 1 := hj
      show (0 ≤ (if j = σ.2.2 then d else σ.2.1 j) ∧ (if j = σ.2.2 then d else σ.2.1 j) ≤ 127) ∧ (if (if j = σ.2.2 then d else σ.2.1 j).toNat = d.toNat then σ.1 x.toNat + 1 else σ.1 (if j = σ.2.2 then d else σ.2.1 j).toNat) ≠ -1
      by_cases z : j = σ.2.2
      · rw [if_pos z, if_pos rfl]; exact ⟨d0, by omega⟩
      · rw [if_neg z]
        have y := r3 j (by omega)
        refine ⟨y.1, ?_⟩
        by_cases v : (σ.2.1 j).toNat = d.toNat
        · rw [if_pos v]; omega
        · rw [if_neg v]; exact y.2
  · have e : bfS S σ h g = σ := by unfold bfS; exact piq_n w
    rw [e]; exact r
/-- the spreading has come to its end -/
def BFW (S : Int → Prop) (b : Int) (h : Int) : Prop := ∀ i : Nat, (i : Int) < h → i < (bfN S b (6 * i)).2.2
theorem bfw_0 {S : Int → Prop} {b : Int} : BFW S b 0 := fun i hi => absurd hi (by omega)
theorem bfw_up {S : Int → Prop} {b h n : Int} (w : BFW S b h) (h0 : 0 ≤ h) (hn : n = ((bfN S b (6 * h + 0).toNat).2.2 : Int)) (hh : h < n) : BFW S b (h + 1) := fun i hi => by
  by_cases z : i = h.toNat
  · subst z
    rw [show (6 * h + 0).toNat = 6 * h.toNat by omega] at hn
    omega
  · exact w i (by omega)
def BFE (S : Int → Prop) (b : Int) (σ : BfT) : Prop := ∃ h : Nat, σ = bfN S b (6 * h) ∧ σ.2.2 ≤ h ∧ BFW S b (h : Int)
theorem bfe_of {S : Int → Prop} {b h n : Int} {σ : BfT} (w : BFW S b h) (h0 : 0 ≤ h) (e : σ = bfN S b (6 * h + 0).toNat) (hn : n = (σ.2.2 : Int)) (hh : n ≤ h) : BFE S b σ := ⟨h.toNat, by rw [e, show (6 * h + 0).toNat = 6 * h.toNat by omega], by omega, fun i hi => w i (by omega)⟩
theorem bfe_un {S : Int → Prop} {b : Int} {σ σ' : BfT} (a : BFE S b σ) (a' : BFE S b σ') : σ = σ' := by
  obtain ⟨h, e, l, w⟩ := a
  obtain ⟨h', e', l', w'⟩ := a'
  have : h = h' := by
    rcases Nat.lt_trichotomy h h' with z | z | z
    · have y := w' h (by omega)
      rw [← e] at y
      omega
    · exact z
    · have y := w h' (by omega)
      rw [← e'] at y
      omega
  rw [e, e', this]
/-- the next cell of the way back: the least of those that are nearer -/
def NRP (fr : Nat → Int) (c e : Int) : Prop := adjT c e ∧ fr e.toNat = fr c.toNat - 1 ∧ ∀ d : Int, adjT c d → fr d.toNat = fr c.toNat - 1 → e ≤ d
theorem nrp_un {fr : Nat → Int} {c e e' : Int} (h : NRP fr c e) (h' : NRP fr c e') : e = e' := by
  have a := h.2.2 e' h'.1 h'.2.1
  have b := h'.2.2 e h.1 h.2.1
  omega
def PTS (fr : Nat → Int) (a : Int) (p : Nat → Int) (n : Int) : Prop := p 0 = a ∧ ∀ k : Nat, (k : Int) + 1 < n → NRP fr (p k) (p (k + 1))
theorem pts_un {fr : Nat → Int} {a n : Int} {p p' : Nat → Int} (h : PTS fr a p n) (h' : PTS fr a p' n) : ∀ k : Nat, (k : Int) < n → p k = p' k
  | 0, _ => h.1.trans h'.1.symm
  | k + 1, hk => by
    have e := pts_un h h' k (by omega)
    have x := h.2 k (by omega)
    have y := h'.2 k (by omega)
    rw [e] at x
    exact nrp_un x y
theorem pts_fr {fr : Nat → Int} {a n : Int} {p : Nat → Int} (h : PTS fr a p n) (ha : fr a.toNat = n - 1) : ∀ k : Nat, (k : Int) < n → fr (p k).toNat = n - 1 - (k : Int)
  | 0, _ => by rw [h.1, ha]; omega
  | k + 1, hk => by
    rw [(h.2 k (by omega)).2.1, pts_fr h ha k (by omega)]; omega
theorem pts_r {fr : Nat → Int} {a n : Int} {p : Nat → Int} (h : PTS fr a p n) (a0 : 0 ≤ a ∧ a ≤ 127) : ∀ k : Nat, (k : Int) < n → 0 ≤ p k ∧ p k ≤ 127
  | 0, _ => by rw [h.1]; exact a0
  | k + 1, hk => by
    have r := pts_r h a0 k (by omega)
    exact adj_rng (h.2 k (by omega)).1 r.1 r.2
theorem pts_wok {fr : Nat → Int} {a n : Int} {p : Nat → Int} (h : PTS fr a p n) (ha : fr a.toNat = n - 1) (a0 : 0 ≤ a ∧ a ≤ 127) (n0 : 1 ≤ n ∧ n ≤ 24) : WOK p n := ⟨n0, pts_r h a0, fun k hk => (h.2 k hk).1, fun k l hk hl e => by
  have x := pts_fr h ha k hk
  have y := pts_fr h ha l hl
  rw [e, y] at x
  omega⟩
/-- the way round a storm: how many cells (0: none), which -/
def RNR (S : Int → Prop) (a b z : Int) (p : Nat → Int) : Prop := (z = 0 ∧ (S a ∨ S b ∨ ∃ σ, BFE S b σ ∧ (σ.1 a.toNat < 0 ∨ 23 < σ.1 a.toNat))) ∨ ((1 ≤ z ∧ z ≤ 24) ∧ (¬ S a ∧ ¬ S b) ∧ ∃ σ, BFE S b σ ∧ σ.1 a.toNat = z - 1 ∧ PTS σ.1 a p z)
theorem rnr_un {S : Int → Prop} {a b z z' : Int} {p p' : Nat → Int} (h : RNR S a b z p) (h' : RNR S a b z' p') : z = z' ∧ ∀ k : Nat, (k : Int) < z → p k = p' k := by
  rcases h with ⟨h1, h2⟩ | ⟨h1, h2, σ, h3, h4, h5⟩
  · refine ⟨?_, fun k hk => absurd hk (by omega)⟩
    rcases h' with ⟨g1, g2⟩ | ⟨g1, g2, τ, g3, g4, g5⟩
    · omega
    · rcases h2 with q | q | ⟨σ, q1, q2⟩
      · exact absurd q g2.1
      · exact absurd q g2.2
      · rw [bfe_un q1 g3] at q2
        omega
  · rcases h' with ⟨g1, g2⟩ | ⟨g1, g2, τ, g3, g4, g5⟩
    · rcases g2 with q | q | ⟨τ, q1, q2⟩
      · exact absurd q h2.1
      · exact absurd q h2.2
      · rw [bfe_un q1 h3] at q2
        omega
    · rw [bfe_un g3 h3] at g4 g5
      have e : z = z' := by omega
      subst e
      exact ⟨rfl, pts_un h5 g5⟩
theorem rnr_wok {S : Int → Prop} {a b z : Int} {p : Nat → Int} (h : RNR S a b z p) (a0 : 0 ≤ a ∧ a ≤ 127) (z0 : z ≠ 0) : WOK p z := by
  rcases h with ⟨h1, h2⟩ | ⟨h1, h2, σ, h3, h4, h5⟩
  · exact absurd h1 z0
  · exact pts_wok h5 h4 a0 h1
/-- ways count only where somebody flies them -/
def WyZ (n : Nat) (mo : Nat → Int) (w w' : WyS) : Prop := ∀ x, x < n → 0 ≤ mo x ∧ (mo x ≠ 0 → w.2 x = w'.2 x ∧ ∀ k : Nat, (k : Int) < w.2 x → w.1 x k = w'.1 x k)
theorem wa_z {S : Int → Prop} {w w' : WyS} {mo : Nat → Int} {n : Nat} (h : WyZ n mo w w') : waH S w mo n = waH S w' mo n := sm_eq (fun x hx => by
  show i01 (viH S (w.1 x) (w.2 x)) * mo x = i01 (viH S (w'.1 x) (w'.2 x)) * mo x
  by_cases z : mo x = 0
  · rw [z, Int.mul_zero, Int.mul_zero]
  · obtain ⟨e1, e2⟩ := (h x hx).2 z
    rw [← e1, i01_c (vi_c e2)])
theorem oa_z {S : Int → Prop} {w w' : WyS} {mo : Nat → Int} {n : Nat} (h : WyZ n mo w w') : oaH S w mo n = oaH S w' mo n := sm_eq (fun x hx => by
  show mo x * ovH S (w.1 x) (w.2 x - 1).toNat = mo x * ovH S (w'.1 x) (w'.2 x - 1).toNat
  by_cases z : mo x = 0
  · rw [z, Int.zero_mul, Int.zero_mul]
  · obtain ⟨e1, e2⟩ := (h x hx).2 z
    rw [← e1, ov_c e2])
theorem ca_z {S : Int → Prop} {w w' : WyS} {mo : Nat → Int} {n : Nat} (h : WyZ n mo w w') : caH S w mo n = caH S w' mo n := sm_eq (fun x hx => by
  show mo x * clH S (w.1 x) (w.2 x - 1).toNat = mo x * clH S (w'.1 x) (w'.2 x - 1).toNat
  by_cases z : mo x = 0
  · rw [z, Int.zero_mul, Int.zero_mul]
  · obtain ⟨e1, e2⟩ := (h x hx).2 z
    rw [← e1, cl_c e2])
theorem cr_z {S : Int → Prop} {w w' : WyS} {mo : Nat → Int} {n : Nat} (h : WyZ n mo w w') : crH S w mo n = crH S w' mo n := sm_eq (fun a ha => sm_eq (fun b hb => by
  show (if a < b then mtW S (w.1 a) (w.1 b) (w.2 a) (w.2 b) * min (mo a) (mo b) else 0) = if a < b then mtW S (w'.1 a) (w'.1 b) (w'.2 a) (w'.2 b) * min (mo a) (mo b) else 0
  have a0 := (h a ha).1
  have b0 := (h b hb).1
  by_cases z : mo a = 0
  · rw [show min (mo a) (mo b) = 0 by omega, Int.mul_zero, Int.mul_zero]
  · by_cases y : mo b = 0
    · rw [show min (mo a) (mo b) = 0 by omega, Int.mul_zero, Int.mul_zero]
    · obtain ⟨e1, e2⟩ := (h a ha).2 z
      obtain ⟨f1, f2⟩ := (h b hb).2 y
      rw [← e1, ← f1, mth_c e2 f2]))
theorem nmh_z {S : Int → Prop} {w w' : WyS} {mo : Nat → Int} {n : Nat} {pc : Int} (h : WyZ n mo w w') : nmH S w mo n pc = nmH S w' mo n pc := funext (fun j => by unfold nmH; rw [wa_z h, cr_z h, oa_z h, ca_z h])
/-- the streams that are hit, one behind the other -/
noncomputable def cHt (P : Nat → Prop) : Nat → Nat
  | 0 => 0
  | n + 1 => pickQ (P n) (cHt P n + 1) (cHt P n)
theorem cht_y {P : Nat → Prop} {n : Nat} (h : P n) : cHt P (n + 1) = cHt P n + 1 := piq_y h
theorem cht_n {P : Nat → Prop} {n : Nat} (h : ¬ P n) : cHt P (n + 1) = cHt P n := piq_n h
theorem cht_le {P : Nat → Prop} {m : Nat} : ∀ {n : Nat}, m ≤ n → cHt P m ≤ cHt P n
  | 0, h => by rw [show m = 0 by omega]; exact Nat.le_refl _
  | n + 1, h => by
    by_cases z : m = n + 1
    · rw [z]; exact Nat.le_refl _
    · have ih := cht_le (P := P) (m := m) (n := n) (by omega)
      by_cases p : P n
      · rw [cht_y p]; omega
      · rw [cht_n p]; exact ih
theorem cht_lt {P : Nat → Prop} {m n : Nat} (h : m < n) (p : P m) : cHt P m < cHt P n := by
  have := cht_le (P := P) (m := m + 1) (n := n) h
  rw [cht_y p] at this
  omega
theorem cht_n' {P : Nat → Prop} : ∀ n : Nat, cHt P n ≤ n
  | 0 => Nat.le_refl _
  | n + 1 => by
    have ih := cht_n' (P := P) n
    by_cases p : P n
    · rw [cht_y p]; omega
    · rw [cht_n p]; omega
theorem cht_at {P : Nat → Prop} {j : Nat} : ∀ {n : Nat}, j < cHt P n → ∃ s, s < n ∧ P s ∧ cHt P s = j
  | 0, h => absurd h (Nat.not_lt_zero _)
  | n + 1, h => by
    by_cases p : P n
    · rw [cht_y p] at h
      by_cases z : j = cHt P n
      · exact ⟨n, by omega, p, z.symm⟩
      · obtain ⟨s, s1, s2, s3⟩ := cht_at (P := P) (j := j) (n := n) (by omega)
        exact ⟨s, by omega, s2, s3⟩
    · rw [cht_n p] at h
      obtain ⟨s, s1, s2, s3⟩ := cht_at (P := P) (j := j) (n := n) h
      exact ⟨s, by omega, s2, s3⟩
theorem cht_inj {P : Nat → Prop} {m n : Nat} (hm : P m) (hn : P n) (e : cHt P m = cHt P n) : m = n := by
  rcases Nat.lt_trichotomy m n with z | z | z
  · have := cht_lt z hm; omega
  · exact z
  · have := cht_lt z hn; omega
/-- a row of the streams that are hit -/
def HTQ (P : Nat → Prop) (n : Nat) (f : Nat → Int) : Prop := ∀ s : Nat, s < n → P s → f (cHt P s) = (s : Int)
theorem htq_up {P : Nat → Prop} {n : Nat} {f f' : Nat → Int} (h : HTQ P n f) (e : ∀ j, j < cHt P n → f' j = f j) (hn : P n → f' (cHt P n) = (n : Int)) : HTQ P (n + 1) f' := fun s hs p => by
  by_cases z : s = n
  · subst z; exact hn p
  · rw [e _ (cht_lt (by omega) p)]; exact h s (by omega) p
theorem htq_at {P : Nat → Prop} {n j : Nat} {f : Nat → Int} (h : HTQ P n f) (hj : j < cHt P n) : ∃ s, s < n ∧ P s ∧ cHt P s = j ∧ f j = (s : Int) := by
  obtain ⟨s, s1, s2, s3⟩ := cht_at hj
  exact ⟨s, s1, s2, s3, by rw [← s3]; exact h s s1 s2⟩
/-- the hit ones as bits -/
noncomputable def hbW (P : Nat → Prop) : Nat → Int32
  | 0 => Int32.ofInt 0
  | s + 1 => pickQ (P s) (hbW P s ||| (Int32.ofInt 1 <<< (Int32.ofInt (s : Int) &&& 31))) (hbW P s)
theorem hbw_y {P : Nat → Prop} {s : Nat} (h : P s) : hbW P (s + 1) = hbW P s ||| (Int32.ofInt 1 <<< (Int32.ofInt (s : Int) &&& 31)) := piq_y h
theorem hbw_n {P : Nat → Prop} {s : Nat} (h : ¬ P s) : hbW P (s + 1) = hbW P s := piq_n h
theorem bt_1s : ∀ n : Nat, n < 12 → ∀ p : Nat, p < 12 → bT (Int32.ofInt 1 <<< (Int32.ofInt (n : Int) &&& 31)) p = decide (p = n) := by decide +kernel
theorem hbw_b {P : Nat → Prop} {p : Nat} (hp : p < 12) : ∀ n : Nat, n ≤ 12 → (bT (hbW P n) p = true ↔ p < n ∧ P p)
  | 0, _ => by
    show bT (Int32.ofInt 0) p = true ↔ _
    rw [bt_0]
    exact ⟨fun z => absurd z (by decide), fun z => absurd z.1 (Nat.not_lt_zero _)⟩
  | n + 1, hn => by
    have ih := hbw_b (P := P) hp n (by omega)
    by_cases q : P n
    · rw [hbw_y q, bt_or, bt_1s n (by omega) p hp, Bool.or_eq_true, ih, decide_eq_true_eq]
      constructor
      · rintro (z | z)
        · exact ⟨by omega, z.2⟩
        · exact ⟨by omega, z ▸ q⟩
      · rintro ⟨z1, z2⟩
        by_cases e : p = n
        · exact Or.inr e
        · exact Or.inl ⟨by omega, z2⟩
    · rw [hbw_n q, ih]
      exact ⟨fun z => ⟨by omega, z.2⟩, fun z => ⟨by
        have : p ≠ n := fun e => q (e ▸ z.2)
        omega, z.2⟩⟩
/-- the bits of a mask of heaps -/
theorem msi_bt {h : Nat → Int} {g : Int} {p : Nat} (hp : p < 8) : ∀ n : Nat, n ≤ 8 → (bT (Int32.ofInt (msI h g n)) p = true ↔ p < n ∧ h p = g)
  | 0, _ => by
    show bT (Int32.ofInt 0) p = true ↔ _
    rw [bt_0]
    exact ⟨fun z => absurd z (by decide), fun z => absurd z.1 (Nat.not_lt_zero _)⟩
  | n + 1, hn => by
    have ih := msi_bt (h := h) (g := g) hp n (by omega)
    by_cases q : h n = g
    · have b := msi_b h g n
      have p8 := pwi_8 n (by omega)
      have z := msi_or n (by omega) (msI h g n).toNat (by omega) (by rw [show (((msI h g n).toNat : Nat) : Int) = msI h g n by omega]; exact b.2)
      rw [show (((msI h g n).toNat : Nat) : Int) = msI h g n by omega] at z
      have e : Int32.ofInt (msI h g (n + 1)) = Int32.ofInt (msI h g n) ||| (Int32.ofInt 1 <<< (Int32.ofInt (n : Int) &&& 31)) := by
        rw [msi_y q, ← z]; exact ofi_to _
      rw [e, bt_or, bt_1s n (by omega) p (by omega), Bool.or_eq_true, ih, decide_eq_true_eq]
      constructor
      · rintro (w | w)
        · exact ⟨by omega, w.2⟩
        · exact ⟨by omega, w ▸ q⟩
      · rintro ⟨w1, w2⟩
        by_cases e : p = n
        · exact Or.inr e
        · exact Or.inl ⟨by omega, w2⟩
    · rw [msi_n q, ih]
      exact ⟨fun z => ⟨by omega, z.2⟩, fun z => ⟨by
        have : p ≠ n := fun e => q (e ▸ z.2)
        omega, z.2⟩⟩
/-- the mends, tried one behind the other -/
abbrev MdO : Type := Option (Int × (Nat → Int))
def lsB : MdO → Int → Prop
  | none, _ => True
  | some b, m => m < b.1
noncomputable def apB (c : Prop) (f : MdO → MdO) (B : MdO) : MdO := pickQ c (f B) B
noncomputable def trB (mo rd : Nat → Int) (ft : Int → Prop) (n : Nat) : Nat → (Nat → Int) → Int → Int → Int → MdO → MdO
  | 0, h, m, _, _, B => pickQ (lsB B m ∧ ft (msI h 1 n)) (some (m, trH h n)) B
  | r + 1, h, m, a, b, B => pickQ (lsB B m) (apB (0 < b) (fun C => trB mo rd ft n r (upH h (n - (r + 1)) 3) (m + 60 * mo (n - (r + 1))) a (b - 1) C) (apB (0 < a) (fun C => trB mo rd ft n r (upH h (n - (r + 1)) 2) (m + 15 * mo (n - (r + 1))) (a - 1) b C) (apB (rd (n - (r + 1)) ≠ -1) (fun C => trB mo rd ft n r (upH h (n - (r + 1)) 1) (m + rd (n - (r + 1))) a b C) B))) B
theorem trb_c {mo rd mo' rd' : Nat → Int} {ft : Int → Prop} {n : Nat} (em : ∀ i, i < n → mo i = mo' i ∧ rd i = rd' i) : ∀ (r : Nat) {h h' : Nat → Int} {m a b : Int} {B : MdO}, r ≤ n → (∀ j, j < n - r → h j = h' j) → trB mo rd ft n r h m a b B = trB mo' rd' ft n r h' m a b B
  | 0, h, h', m, a, b, B, _, e => by
    show pickQ (lsB B m ∧ ft (msI h 1 n)) (some (m, trH h n)) B = pickQ (lsB B m ∧ ft (msI h' 1 n)) (some (m, trH h' n)) B
    have e4 : trH h n = trH h' n := funext (fun j => by
      show (if j < n then h j else 0) = (if j < n then h' j else 0)
      by_cases c : j < n
      · rw [if_pos c, if_pos c]; exact e j (by omega)
      · rw [if_neg c, if_neg c])
    rw [e4, msi_c n (fun j hj => e j (by omega))]
  | r + 1, h, h', m, a, b, B, hr, e => by
    have up : ∀ g : Int, ∀ j, j < n - r → upH h (n - (r + 1)) g j = upH h' (n - (r + 1)) g j := fun g j hj => by
      show (if j = n - (r + 1) then g else h j) = (if j = n - (r + 1) then g else h' j)
      by_cases c : j = n - (r + 1)
      · rw [if_pos c, if_pos c]
      · rw [if_neg c, if_neg c]; exact e j (by omega)
    obtain ⟨m1, m2⟩ := em (n - (r + 1)) (by omega)
    have f1 : (fun C => trB mo rd ft n r (upH h (n - (r + 1)) 1) (m + rd (n - (r + 1))) a b C) = (fun C => trB mo' rd' ft n r (upH h' (n - (r + 1)) 1) (m + rd' (n - (r + 1))) a b C) := funext (fun C => by rw [m2]; exact trb_c em r (by omega) (up 1))
    have f2 : (fun C => trB mo rd ft n r (upH h (n - (r + 1)) 2) (m + 15 * mo (n - (r + 1))) (a - 1) b C) = (fun C => trB mo' rd' ft n r (upH h' (n - (r + 1)) 2) (m + 15 * mo' (n - (r + 1))) (a - 1) b C) := funext (fun C => by rw [m1]; exact trb_c em r (by omega) (up 2))
    have f3 : (fun C => trB mo rd ft n r (upH h (n - (r + 1)) 3) (m + 60 * mo (n - (r + 1))) a (b - 1) C) = (fun C => trB mo' rd' ft n r (upH h' (n - (r + 1)) 3) (m + 60 * mo' (n - (r + 1))) a (b - 1) C) := funext (fun C => by rw [m1]; exact trb_c em r (by omega) (up 3))
    show pickQ (lsB B m) (apB (0 < b) (fun C => trB mo rd ft n r (upH h (n - (r + 1)) 3) (m + 60 * mo (n - (r + 1))) a (b - 1) C) (apB (0 < a) (fun C => trB mo rd ft n r (upH h (n - (r + 1)) 2) (m + 15 * mo (n - (r + 1))) (a - 1) b C) (apB (rd (n - (r + 1)) ≠ -1) (fun C => trB mo rd ft n r (upH h (n - (r + 1)) 1) (m + rd (n - (r + 1))) a b C) B))) B = _
    rw [f1, f2, f3, m2]
    rfl
/-! The class in a storm -/
/-- the cells that are shut, by the class's longs -/
def stS (s : PS) (c : Int) : Prop := (0 ≤ c ∧ c ≤ 127) ∧ SB c s
theorem sts_s {s t : PS} (h : SBS s t) : stS t = stS s := funext (fun c => propext (by unfold stS; rw [sb_s h]))
theorem inl_sb {s : PS} : inL (gJ s 0) (gJ s 1) = stS s := funext (fun c => propext (by
  unfold inL stS
  constructor
  · rintro (⟨a, b, d⟩ | ⟨a, b, d⟩)
    · exact ⟨⟨a, by omega⟩, (sb_lo ⟨a, b⟩).mpr d⟩
    · exact ⟨⟨by omega, by omega⟩, (sb_hi ⟨a, by omega⟩).mpr d⟩
  · rintro ⟨⟨a, b⟩, d⟩
    by_cases z : c < 64
    · exact Or.inl ⟨a, z, (sb_lo ⟨a, z⟩).mp d⟩
    · exact Or.inr ⟨by omega, by omega, (sb_hi ⟨by omega, b⟩).mp d⟩))
/-- a stream is hit -/
def hitP (U : AirD) (S : Int → Prop) (q : Nat) (x : Nat) : Prop := viH S ((uW U).1 x) ((uW U).2 x) ∧ 0 < uM U q x
theorem vis_hit {U : AirD} {s : PS} (a : AIR s) (d : CDJ U s) {c : Int} (c0 : 0 ≤ c ∧ c < iI s 9) : (gD s 3 (c * 2).toNat &&& gJ s 0) ||| (gD s 3 (c * 2 + 1).toNat &&& gJ s 1) ≠ 0 ↔ viH (stS s) ((uW U).1 c.toNat) ((uW U).2 c.toNat) := by
  have z := vis_air a (x := c.toNat) (by omega) (lo := gJ s 0) (hi := gJ s 1)
  rw [show ((c.toNat : Nat) : Int) = c by omega, inl_sb] at z
  rw [z]
  obtain ⟨e1, e2⟩ := d.2.1 c.toNat (by have := d.1.1; omega)
  replace e1 : iC s 2 c.toNat = (uW U).2 c.toNat := e1
  rw [← e1]
  exact vi_c e2
theorem ms_o12 {e y z p : Int} (e0 : 0 ≤ e ∧ e ≤ 4095) (p0 : 0 ≤ p ∧ p ≤ 11) (h1 : Int32.ofInt y = Int32.ofInt 1 <<< (Int32.ofInt p &&& 31)) (hy : rng y) (h2 : Int32.ofInt z = Int32.ofInt e ||| Int32.ofInt y) (r : rng z) : (0 ≤ z ∧ z ≤ 4095) ∧ Int32.ofInt z = Int32.ofInt e ||| (Int32.ofInt 1 <<< (Int32.ofInt p &&& 31)) := by
  have s := shl1 (y := p) (by omega)
  have ey := of_to hy h1
  rw [← ey] at s
  obtain ⟨s1, s2, _⟩ := s
  obtain ⟨o1, o2⟩ := or_bd 12 (by decide) (x := e) (y := y) (show 0 ≤ e ∧ e < 4096 by omega) (show 0 ≤ y ∧ y < 4096 by omega)
  replace o2 : (Int32.ofInt e ||| Int32.ofInt y).toInt < 4096 := o2
  have ez := of_to r h2
  rw [← ez] at o1 o2
  exact ⟨by omega, by rw [h2, h1]⟩
/-- the hit ones, as far as c -/
def FHQ (P : Nat → Prop) (c : Int) (t : PS) : Prop := iI t 41 = (cHt P c.toNat : Int) ∧ Int32.ofInt (iI t 40) = hbW P c.toNat ∧ HTQ P c.toNat (fun j => iC t 72 j)
theorem fhq_0 {P : Nat → Prop} {t : PS} (h1 : iI t 41 = 0) (h2 : iI t 40 = 0) : FHQ P 0 t := ⟨h1, by rw [h2]; rfl, fun s hs => absurd hs (Nat.not_lt_zero _)⟩
theorem fhq_n {P : Nat → Prop} {c : Int} {t : PS} (h : FHQ P c t) (c0 : 0 ≤ c) (hn : ¬ P c.toNat) : FHQ P (c + 1) t := by
  unfold FHQ
  rw [show (c + 1).toNat = c.toNat + 1 by omega, cht_n hn, hbw_n hn]
  exact ⟨h.1, h.2.1, htq_up h.2.2 (fun _ _ => rfl) (fun p => absurd p hn)⟩
theorem fhq_y {P : Nat → Prop} {c z : Int} {t u : PS} (h : FHQ P c t) (c0 : 0 ≤ c) (hp : P c.toNat) (hz : Int32.ofInt z = Int32.ofInt (iI t 40) ||| (Int32.ofInt 1 <<< (Int32.ofInt c &&& 31))) (e1 : iI u 40 = z) (e2 : iI u 41 = iI t 41 + 1) (hu : UPD 72 (iI t 41) c t u) : FHQ P (c + 1) u := by
  unfold FHQ
  rw [show (c + 1).toNat = c.toNat + 1 by omega, cht_y hp, hbw_y hp, e1, e2]
  obtain ⟨a1, a2, a3⟩ := h
  refine ⟨by omega, by rw [hz, a2, show ((c.toNat : Nat) : Int) = c by omega], htq_up a3 (fun j hj => hu.2 j (by omega)) (fun _ => ?_)⟩
  show iC u 72 (cHt P c.toNat) = ((c.toNat : Nat) : Int)
  rw [show cHt P c.toNat = (iI t 41).toNat by omega, hu.1]; omega
/-- the spreading in the class's rows -/
def SPQ (S : Int → Prop) (b h g n : Int) (t : PS) : Prop := BFQ 77 78 (bfN S b (6 * h + g).toNat) n t ∧ BFI S (bfN S b (6 * h + g).toNat) ∧ BFW S b h
theorem spq_0 {S : Int → Prop} {b : Int} {s t : PS} (b0 : 0 ≤ b ∧ b ≤ 127) (hb : ¬ S b) (h1 : ∀ c : Nat, c < 128 → iC s 77 c = -1) (h2 : UPD 77 b 0 s t) (h3 : iC t 78 0 = b) : SPQ S b 0 0 1 t := ⟨bfq_0 b0 (fun c hc => by
  by_cases z : c = b.toNat
  · rw [if_pos z, z]; exact h2.1
  · rw [if_neg z, h2.2 c z]; exact h1 c hc) h3, bfi_0 b0 hb, bfw_0⟩
theorem spq_n {S : Int → Prop} {b h g n d : Int} {t : PS} (q : SPQ S b h g n t) (h0 : 0 ≤ h ∧ h < n) (g0 : 0 ≤ g ∧ g ≤ 5) (hd : d = besT (iC t 78 h.toNat) g) (hn : d = -1 ∨ (0 ≤ d ∧ d ≤ 127 ∧ (iC t 77 d.toNat ≠ -1 ∨ S d ∨ 128 ≤ n))) : SPQ S b h (g + 1) n t := by
  unfold SPQ
  rw [bfn_up h0.1 g0]
  exact ⟨bfq_n q.1 h0 hd hn, bfi_up q.2.1 (by have := q.1.2.2; omega) g0, q.2.2⟩
theorem spq_y {S : Int → Prop} {b h g n d v : Int} {t u : PS} (q : SPQ S b h g n t) (h0 : 0 ≤ h ∧ h < n) (g0 : 0 ≤ g ∧ g ≤ 5) (hd : d = besT (iC t 78 h.toNat) g) (d0 : 0 ≤ d ∧ d ≤ 127) (hf : iC t 77 d.toNat = -1) (hS : ¬ S d) (n1 : n < 128) (hx : 0 ≤ iC t 78 h.toNat ∧ iC t 78 h.toNat ≤ 127) (hv : v = iC t 77 (iC t 78 h.toNat).toNat + 1) (h1 : UPD 77 d v t u) (h2 : UPD 78 n d t u) : SPQ S b h (g + 1) (n + 1) u := by
  unfold SPQ
  rw [bfn_up h0.1 g0]
  exact ⟨bfq_y q.1 h0 hd d0 hf hS n1 hx hv h1 h2, bfi_up q.2.1 (by have := q.1.2.2; omega) g0, q.2.2⟩
theorem spq_f {S : Int → Prop} {b h g n : Int} {t : PS} (q : SPQ S b h g n t) (h0 : 0 ≤ h ∧ h < n) : (iC t 77 (iC t 78 h.toNat).toNat ≤ 127 ∧ 0 ≤ iC t 77 (iC t 78 h.toNat).toNat) ∧ n ≤ 128 := by
  obtain ⟨a, b', _⟩ := q
  obtain ⟨b1, b2, b3, b4, b5⟩ := b'
  have en := a.2.2
  have hx := b3 h.toNat (by omega)
  rw [a.2.1 h.toNat (by omega), a.1 _ (by omega)]
  have y := b4 ((bfN S b (6 * h + g).toNat).2.1 h.toNat).toNat (by omega)
  have z := (b1 ((bfN S b (6 * h + g).toNat).2.1 h.toNat).toNat (by omega) hx.2).2
  omega
theorem spq_nx {S : Int → Prop} {b h n m : Int} {t : PS} (q : SPQ S b h 6 n t) (h0 : 0 ≤ h) (hm : m = ((bfN S b (6 * h + 0).toNat).2.2 : Int)) (hh : h < m) : SPQ S b (h + 1) 0 n t := by
  unfold SPQ
  rw [show (6 * (h + 1) + 0).toNat = (6 * h + 6).toNat by omega]
  exact ⟨q.1, q.2.1, bfw_up q.2.2 h0 hm hh⟩
/-- far from b: what the spreading leaves -/
def FRE8 (S : Int → Prop) (b : Int) (t : PS) : Prop := ∃ σ, BFE S b σ ∧ BFI S σ ∧ ∀ c : Nat, c < 128 → iC t 77 c = σ.1 c
theorem fre_of {S : Int → Prop} {b h n : Int} {t : PS} (q : SPQ S b h 0 n t) (h0 : 0 ≤ h) (hh : n ≤ h) : FRE8 S b t := ⟨_, bfe_of q.2.2 h0 rfl q.1.2.2 hh, q.2.1, q.1.1⟩
/-- the steps by which the cells beside one rise -/
def risF (i : Int) : Int := if i = 0 then 5 else if i = 1 then 3 else if i = 2 then 1 else if i = 3 then 0 else if i = 4 then 2 else 4
theorem ris_r {i : Int} : 0 ≤ risF i ∧ risF i ≤ 5 := by unfold risF; split; decide; split; decide; split; decide; split; decide; split; decide; decide
theorem ris_on {d : Int} (h : 0 ≤ d ∧ d ≤ 5) : ∃ i : Int, 0 ≤ i ∧ i ≤ 5 ∧ risF i = d := by
  rcases (show d = 0 ∨ d = 1 ∨ d = 2 ∨ d = 3 ∨ d = 4 ∨ d = 5 by omega) with z | z | z | z | z | z <;> subst z
  · exact ⟨3, by decide, by decide, by decide⟩
  · exact ⟨2, by decide, by decide, by decide⟩
  · exact ⟨4, by decide, by decide, by decide⟩
  · exact ⟨1, by decide, by decide, by decide⟩
  · exact ⟨5, by decide, by decide, by decide⟩
  · exact ⟨0, by decide, by decide, by decide⟩
theorem ris_v {x i : Int} (i0 : 0 ≤ i ∧ i ≤ 5) (h : besT x (risF i) ≠ -1) : besT x (risF i) = x + (if i = 0 then -64 else if i = 1 then -8 else if i = 2 then -1 else if i = 3 then 1 else if i = 4 then 8 else 64) := by
  rcases (show i = 0 ∨ i = 1 ∨ i = 2 ∨ i = 3 ∨ i = 4 ∨ i = 5 by omega) with z | z | z | z | z | z <;> subst z <;> unfold risF besT at * <;> simp at * <;> omega
theorem ris_le {x i j : Int} (i0 : 0 ≤ i) (ij : i ≤ j) (j0 : j ≤ 5) (hi : besT x (risF i) ≠ -1) (hj : besT x (risF j) ≠ -1) : besT x (risF i) ≤ besT x (risF j) := by
  rw [ris_v ⟨i0, by omega⟩ hi, ris_v ⟨by omega, j0⟩ hj]
  rcases (show i = 0 ∨ i = 1 ∨ i = 2 ∨ i = 3 ∨ i = 4 ∨ i = 5 by omega) with z | z | z | z | z | z <;> subst z <;> rcases (show j = 0 ∨ j = 1 ∨ j = 2 ∨ j = 3 ∨ j = 4 ∨ j = 5 by omega) with y | y | y | y | y | y <;> subst y <;> first | omega | (simp <;> omega)
def NRN (fr : Nat → Int) (x c : Int) : Prop := ∀ i : Int, 0 ≤ i → i < c → besT x (risF i) ≠ -1 → fr (besT x (risF i)).toNat ≠ fr x.toNat - 1
theorem nrn_0 {fr : Nat → Int} {x : Int} : NRN fr x 0 := fun i h0 h1 => absurd h1 (by omega)
theorem nrn_up {fr : Nat → Int} {x c d : Int} (h : NRN fr x c) (hd : d = besT x (risF c)) (hn : d = -1 ∨ fr d.toNat ≠ fr x.toNat - 1) : NRN fr x (c + 1) := fun i h0 h1 h2 => by
  by_cases z : i = c
  · rw [z, ← hd] at h2 ⊢
    exact hn.elim (fun w => absurd w h2) id
  · exact h i h0 (by omega) h2
theorem nrp_of {fr : Nat → Int} {x c d : Int} (h : NRN fr x c) (c0 : 0 ≤ c ∧ c ≤ 5) (hd : d = besT x (risF c)) (d1 : d ≠ -1) (hf : fr d.toNat = fr x.toNat - 1) : NRP fr x d := by
  refine ⟨⟨risF c, ris_r.1, ris_r.2, hd.symm, d1⟩, hf, fun e he hfe => ?_⟩
  obtain ⟨g, g0, g1, g2, g3⟩ := he
  obtain ⟨j, j0, j1, j2⟩ := ris_on ⟨g0, g1⟩
  subst j2
  by_cases z : j < c
  · exact absurd (by rw [g2]; exact hfe) (h j j0 z (by rw [g2]; exact g3))
  · rw [hd, ← g2]
    exact ris_le c0.1 (by omega) j1 (by rw [← hd]; exact d1) (by rw [g2]; exact g3)
theorem nrn_no {fr : Nat → Int} {x : Int} (h : NRN fr x 6) (w : ∃ e : Int, adjT x e ∧ fr e.toNat = fr x.toNat - 1) : False := by
  obtain ⟨e, ⟨g, g0, g1, g2, g3⟩, hf⟩ := w
  obtain ⟨j, j0, j1, j2⟩ := ris_on ⟨g0, g1⟩
  subst j2
  exact h j j0 (by omega) (by rw [g2]; exact g3) (by rw [g2]; exact hf)
theorem nrp_c {fr fr' : Nat → Int} {x d : Int} (h : NRP fr x d) (x0 : 0 ≤ x ∧ x ≤ 127) (e : ∀ c : Nat, c < 128 → fr c = fr' c) : NRP fr' x d := by
  obtain ⟨h1, h2, h3⟩ := h
  have r := adj_rng h1 x0.1 x0.2
  refine ⟨h1, by rw [← e _ (by omega), ← e _ (by omega)]; exact h2, fun y hy hf => h3 y hy ?_⟩
  have r2 := adj_rng hy x0.1 x0.2
  rw [e _ (by omega), e _ (by omega)]; exact hf
/-- the way back, cell by cell -/
def FRQ (S : Int → Prop) (a b n c : Int) (t : PS) : Prop := ∃ σ, BFE S b σ ∧ BFI S σ ∧ (∀ c : Nat, c < 128 → iC t 77 c = σ.1 c) ∧ σ.1 a.toNat = n - 1 ∧ PTS σ.1 a (fun k => iC t 79 k) c
theorem frq_0 {S : Int → Prop} {a b n : Int} {t u : PS} (h : FRE8 S b t) (a0 : 0 ≤ a ∧ a ≤ 127) (hn : iC t 77 a.toNat = n - 1) (h1 : SAM 77 t u) (h2 : iC u 79 0 = a) : FRQ S a b n 1 u := by
  obtain ⟨σ, s1, s2, s3⟩ := h
  exact ⟨σ, s1, s2, fun c hc => (h1 c).trans (s3 c hc), by rw [← s3 _ (by omega)]; exact hn, h2, fun k hk => absurd hk (by omega)⟩
theorem frq_ex {S : Int → Prop} {a b n c : Int} {t : PS} (h : FRQ S a b n c t) (a0 : 0 ≤ a ∧ a ≤ 127) (c0 : 1 ≤ c ∧ c < n) : ∃ e : Int, adjT (iC t 79 (c - 1).toNat) e ∧ (fun c => iC t 77 c) e.toNat = (fun c => iC t 77 c) (iC t 79 (c - 1).toNat).toNat - 1 := by
  obtain ⟨σ, s1, s2, s3, s4, s5⟩ := h
  have r := pts_r s5 a0 (c - 1).toNat (by omega)
  replace r : 0 ≤ iC t 79 (c - 1).toNat ∧ iC t 79 (c - 1).toNat ≤ 127 := r
  have ff : ∀ k : Nat, (k : Int) < c → σ.1 (iC t 79 k).toNat = n - 1 - (k : Int) := fun k hk => by
    induction k with
    | zero =>
      have z : iC t 79 0 = a := s5.1
      rw [z, s4]; omega
    | succ k ih =>
      have z := (s5.2 k (by omega)).2.1
      replace z : σ.1 (iC t 79 (k + 1)).toNat = σ.1 (iC t 79 k).toNat - 1 := z
      rw [z, ih (by omega)]; omega
  have f := ff (c - 1).toNat (by omega)
  obtain ⟨e, e1, e2⟩ := s2.2.1 (iC t 79 (c - 1).toNat).toNat (by omega) (by omega)
  rw [show (((iC t 79 (c - 1).toNat).toNat : Nat) : Int) = iC t 79 (c - 1).toNat by omega] at e1
  have r2 := adj_rng e1 r.1 r.2
  refine ⟨e, e1, ?_⟩
  show iC t 77 e.toNat = iC t 77 (iC t 79 (c - 1).toNat).toNat - 1
  rw [s3 _ (by omega), s3 _ (by omega)]; exact e2
theorem frq_up {S : Int → Prop} {a b n c d : Int} {t u : PS} (h : FRQ S a b n c t) (a0 : 0 ≤ a ∧ a ≤ 127) (c0 : 1 ≤ c ∧ c < n) (hd : NRP (fun c => iC t 77 c) (iC t 79 (c - 1).toNat) d) (h1 : SAM 77 t u) (h2 : UPD 79 c d t u) : FRQ S a b n (c + 1) u := by
  obtain ⟨σ, s1, s2, s3, s4, s5⟩ := h
  have r := pts_r s5 a0 (c - 1).toNat (by omega)
  replace r : 0 ≤ iC t 79 (c - 1).toNat ∧ iC t 79 (c - 1).toNat ≤ 127 := r
  have hd' := nrp_c hd r s3
  refine ⟨σ, s1, s2, fun c hc => (h1 c).trans (s3 c hc), s4, ?_, fun k hk => ?_⟩
  · show iC u 79 0 = a
    rw [h2.2 0 (by omega)]; exact s5.1
  · show NRP σ.1 (iC u 79 k) (iC u 79 (k + 1))
    by_cases z : k + 1 = c.toNat
    · rw [z, h2.1, h2.2 k (by omega), show k = (c - 1).toNat by omega]; exact hd'
    · rw [h2.2 k (by omega), h2.2 (k + 1) z]; exact s5.2 k (by omega)
theorem frq_e {S : Int → Prop} {a b n c : Int} {t : PS} (h : FRQ S a b n c t) (n0 : 1 ≤ n ∧ n ≤ 24) (hc : c = n) (ha : ¬ S a) (hb : ¬ S b) : RNR S a b n (fun k => iC t 79 k) := by
  subst hc
  obtain ⟨σ, s1, s2, s3, s4, s5⟩ := h
  exact Or.inr ⟨n0, ⟨ha, hb⟩, σ, s1, s4, s5⟩
theorem fre_no {S : Int → Prop} {a b : Int} {t : PS} {p : Nat → Int} (h : FRE8 S b t) (a0 : 0 ≤ a ∧ a ≤ 127) (hn : iC t 77 a.toNat < 0 ∨ 23 < iC t 77 a.toNat) : RNR S a b 0 p := by
  obtain ⟨σ, s1, s2, s3⟩ := h
  rw [s3 _ (by omega)] at hn
  exact Or.inl ⟨rfl, Or.inr (Or.inr ⟨σ, s1, hn⟩)⟩
theorem rnr_0 {S : Int → Prop} {a b : Int} {p : Nat → Int} (h : S a ∨ S b) : RNR S a b 0 p := Or.inl ⟨rfl, h.elim Or.inl (fun z => Or.inr (Or.inl z))⟩
theorem fre_r {S : Int → Prop} {b : Int} {t : PS} (h : FRE8 S b t) {c : Nat} (hc : c < 128) : -1 ≤ iC t 77 c ∧ iC t 77 c ≤ 127 := by
  obtain ⟨σ, s1, s2, s3⟩ := h
  rw [s3 c hc]
  have a := s2.2.2.2.1 c hc
  have d := s2.2.2.2.2
  by_cases z : σ.1 c = -1
  · rw [z]; decide
  · have y := (s2.1 c hc z).2
    omega
/-- what was chosen for a stream -/
def MDF (x e : Int) (s : PS) : Prop := (∃ i : Nat, (i : Int) < iI s 41 ∧ i < 8 ∧ iC s 72 i = x ∧ e = iC s 75 i) ∨ ((∀ i : Nat, (i : Int) < iI s 41 → i < 8 → iC s 72 i ≠ x) ∧ e = 0)
section ZR9
variable {k : kx_T} {mn pc : Nat} {dT : Nat → ClassId} {lv : List (Nat × Value)} {st : List Value} {ws : va_W} {ce sl a b a' b' q1 : Nat} {z z' : Int}
theorem z_raldE (X : AX k mn dT) {i : Int} (h : cdA mn pc = some (.iaload, 1, a, b, z)) (hT : va_T .int q1 6 (fun j => .int (([5, 3, 1, 0, 2, 4] : List Int32).getD j 0)) (mb_F (kS0 k)) (kS0 k) (kS0 k).heap) (h0 : 0 ≤ i) (hi : i < 6) (g : ∀ e : Int, e = risF i → WS k (pc + 1) lv (.int (Int32.ofInt e) :: st) ws ce sl) : WS k pc lv (.int (Int32.ofInt i) :: .ref q1 :: st) ws ce sl := by
  intro H locs ls hP hD hS hlv
  rcases (show i = 0 ∨ i = 1 ∨ i = 2 ∨ i = 3 ∨ i = 4 ∨ i = 5 by omega) with e | e | e | e | e | e <;> subst e
  · exact va_ti (v := .int (Int32.ofInt 5)) X.1.1 X.1.2.1 (kx_T0 X.1 hT) hS (by unfold vp_in; decide +kernel) (congrArg Value.int (show ([5, 3, 1, 0, 2, 4] : List Int32).getD (Int32.ofInt 0).toNatClampNeg 0 = Int32.ofInt 5 by decide +kernel)) (ax_d X h) (g 5 (by decide) H locs ls hP hD hS hlv)
  · exact va_ti (v := .int (Int32.ofInt 3)) X.1.1 X.1.2.1 (kx_T0 X.1 hT) hS (by unfold vp_in; decide +kernel) (congrArg Value.int (show ([5, 3, 1, 0, 2, 4] : List Int32).getD (Int32.ofInt 1).toNatClampNeg 0 = Int32.ofInt 3 by decide +kernel)) (ax_d X h) (g 3 (by decide) H locs ls hP hD hS hlv)
  · exact va_ti (v := .int (Int32.ofInt 1)) X.1.1 X.1.2.1 (kx_T0 X.1 hT) hS (by unfold vp_in; decide +kernel) (congrArg Value.int (show ([5, 3, 1, 0, 2, 4] : List Int32).getD (Int32.ofInt 2).toNatClampNeg 0 = Int32.ofInt 1 by decide +kernel)) (ax_d X h) (g 1 (by decide) H locs ls hP hD hS hlv)
  · exact va_ti (v := .int (Int32.ofInt 0)) X.1.1 X.1.2.1 (kx_T0 X.1 hT) hS (by unfold vp_in; decide +kernel) (congrArg Value.int (show ([5, 3, 1, 0, 2, 4] : List Int32).getD (Int32.ofInt 3).toNatClampNeg 0 = Int32.ofInt 0 by decide +kernel)) (ax_d X h) (g 0 (by decide) H locs ls hP hD hS hlv)
  · exact va_ti (v := .int (Int32.ofInt 2)) X.1.1 X.1.2.1 (kx_T0 X.1 hT) hS (by unfold vp_in; decide +kernel) (congrArg Value.int (show ([5, 3, 1, 0, 2, 4] : List Int32).getD (Int32.ofInt 4).toNatClampNeg 0 = Int32.ofInt 2 by decide +kernel)) (ax_d X h) (g 2 (by decide) H locs ls hP hD hS hlv)
  · exact va_ti (v := .int (Int32.ofInt 4)) X.1.1 X.1.2.1 (kx_T0 X.1 hT) hS (by unfold vp_in; decide +kernel) (congrArg Value.int (show ([5, 3, 1, 0, 2, 4] : List Int32).getD (Int32.ofInt 5).toNatClampNeg 0 = Int32.ofInt 4 by decide +kernel)) (ax_d X h) (g 4 (by decide) H locs ls hP hD hS hlv)
end ZR9
section M87kv
variable {l : Launch} {s0 : State} {D : va_G} {tys : List (ClassId × FieldType)} {a0 : Array Value} {A : Nat → Nat} {dT : Nat → ClassId} {s : PS}
set_option maxRecDepth 4000 in
theorem c8_hits9 (G : GX l s0 D tys a0 dT) {U : AirD} (I : Bd s) (jAIR : AIR s) (jCDJ : CDJ U s) {x : Int} (p0 : 0 ≤ x ∧ x ≤ 23) : CT l s0 D A dT 89 (rmN 89) [.ref (A 67), .int (Int32.ofInt x)] s (fun o t => Bd t ∧ Fm [39, 40, 41] [72] s t ∧ o = .inl none ∧ (iI t 39 = x ∧ FHQ (hitP U (stS s) (x : Int).toNat) (iI s 9) t)) := by
  refine ct_ofX G (by decide) (Nat.le_of_ble_eq_true rfl) (fun k X E ET hRt hXt q => ?_)
  show WS k 0 [(0, .ref (A 67)), (1, .int (Int32.ofInt x))] [] _ 0 0
  have F : Fm [39, 40, 41] [72] s s := fm_rf _ _ s
  have b1 := bi_9 I
  have b2 := bi_39 I
  have b3 := bi_40 I
  have b4 := bi_41 I
  have L17 : ∀ (n : Nat) (t : PS) (c : Int), Bd t → Fm [39, 40, 41] [72] s t → AIR t → CDJ U t → (FHQ (hitP U (stS s) (x : Int).toNat) c t) → ((0 ≤ c ∧ c ≤ iI s 9) ∧ iI t 9 = iI s 9 ∧ iI s 9 ≤ 12 ∧ iI t 39 = x ∧ (0 ≤ x ∧ x ≤ 23)) → (12 - c : Int).toNat < n → (∀ (t' : PS) (c' : Int), Bd t' → Fm [39, 40, 41] [72] s t' → AIR t' → CDJ U t' → (FHQ (hitP U (stS s) (x : Int).toNat) c' t') → (c' = iI s 9 ∧ iI t' 39 = x) → WS k 136 [(0, .ref (A 67)), (2, .int (Int32.ofInt c'))] [] (Wd A dT t') 0 0) → WS k 17 [(0, .ref (A 67)), (2, .int (Int32.ofInt c))] [] (Wd A dT t) 0 0 := by
    intro n
    induction n with
    | zero =>
      intro t c I F jjAIR jjCDJ hq hi hm kx
      exact absurd hm (Nat.not_lt_zero _)
    | succ n ih =>
      intro t c I F jjAIR jjCDJ hq hi hm kx
      have b1001 := bi_9 I
      have b1002 := bi_39 I
      have b1003 := bi_40 I
      have b1004 := bi_41 I
      refine z_load_n X (x := c) rfl (List.Mem.tail _ (List.Mem.head _)) (z_aload_n X (x := A 67) rfl (List.Mem.head _) (s_getR X 67 rfl (c518_ok rfl) rfl rfl (z_getI X 3 rfl (c518_ok rfl) rfl rfl ?_)))
      have b1005 := bi_9 I
      refine z_icmp_ge X (t := 136) rfl rfl ⟨by first | exact oq_fa4e5087 hi.1.1 | omega, by first | exact oq_39d2cc6e hi.1.2 hi.2.2.1 | omega⟩ (rng_to _) (fun g1006 => ?_) (fun g1006 => ?_)
      ·
        refine WS_pq [0, 1] (lv' := [(0, .ref (A 67)), (2, .int (Int32.ofInt c))]) rfl ?_
        exact kx _ c I F jjAIR jjCDJ hq (by first | exact ⟨oq_537ca82a hi.1.2 g1006 hi.2.1, hi.2.2.2.1⟩ | omega)
      ·
        have hvis := vis_hit jjAIR jjCDJ (c := c) (by omega)
        rw [show stS t = stS s from sts_s (sbs_fm F (by decide))] at hvis
        have hct := cht_n' (P := (hitP U (stS s) (x : Int).toNat)) (c : Int).toNat
        have hq1 := hq.1
        refine z_aload_n X (x := A 67) rfl (List.Mem.head _) (s_getR X 67 rfl (c518_ok rfl) rfl rfl (s_getR X 3 rfl (c518_ok rfl) rfl rfl (z_load_n X (x := c) rfl (List.Mem.tail _ (List.Mem.head _)) (z_const X rfl (z_mul X rfl (z_lalE X 6 rfl (by decide) rfl (by first | exact oq_cfc6ac54 hi.1.1 | omega) (show (c * 2) < 24 by first | exact oq_e062d2c8 g1006 b1005.2 | omega) (by decide) (z_aload_n X (x := A 67) rfl (List.Mem.head _) (s_getJ X 67 rfl (c518_ok rfl) rfl rfl (w_land X.1 (ax_d X (show cdA 89 43 = some (.land, 1, 0, 0, 0) from rfl)) (z_aload_n X (x := A 67) rfl (List.Mem.head _) (s_getR X 67 rfl (c518_ok rfl) rfl rfl ?_)))))))))))
        refine s_getR X 3 rfl (c518_ok rfl) rfl rfl (z_load_n X (x := c) rfl (List.Mem.tail _ (List.Mem.head _)) (z_const X rfl (z_mul X rfl (z_const X rfl (z_add X rfl (z_lalE X 6 rfl (by decide) rfl (by first | exact oq_8a3e0277 hi.1.1 | omega) (show ((c * 2) + 1) < 24 by first | exact oq_0edc0603 g1006 b1005.2 | omega) (by decide) (z_aload_n X (x := A 67) rfl (List.Mem.head _) (s_getJ X 67 rfl (c518_ok rfl) rfl rfl (w_land X.1 (ax_d X (show cdA 89 61 = some (.land, 1, 0, 0, 0) from rfl)) (w_lor X.1 (ax_d X (show cdA 89 62 = some (.lor, 1, 0, 0, 0) from rfl)) (w_lconst X.1 (ax_d X (show cdA 89 63 = some (.lconst 0, 1, 0, 0, 0) from rfl)) (z := (0 : Int64)) (by decide) ?_)))))))))))
        refine z_jcmp X rfl (fun z1007 => ?_) (fun z1007 c1008 hc1008 ic1008 => ?_)
        ·
          refine z_if_eq X (t := 72) rfl rfl (by decide) (fun g1009 => ?_) (fun g1009 => ?_)
          ·
            refine z_const X rfl (z_store_n X (lv' := [(3, .int (Int32.ofInt 0)), (0, .ref (A 67)), (2, .int (Int32.ofInt c))]) rfl (by decide) (fun _ h => h) (z_load_n X (x := 0) rfl (List.Mem.head _) (z_if_eq X (t := 130) rfl rfl (by decide) (fun g1010 => ?_) (fun g1010 => ?_))))
            ·
              refine z_inc X (x := c) (lv' := [(2, .int (Int32.ofInt (c + 1))), (3, .int (Int32.ofInt 0)), (0, .ref (A 67))]) rfl (by decide) (List.Mem.tail _ (List.Mem.tail _ (List.Mem.head _))) (fun _ h => h) (z_goto X (t := 17) rfl rfl (WS_pq [2, 0] (lv' := [(0, .ref (A 67)), (2, .int (Int32.ofInt (c + 1)))]) rfl ?_))
              exact ih _ (c + 1) I F jjAIR jjCDJ (fhq_n hq (by omega) (fun w => hvis.mpr w.1 z1007)) (by first | exact ⟨And.intro (oq_54f49eb5 hi.1.1) (oq_8a89b3ae g1006 hi.2.1), hi.2.1, hi.2.2.1, hi.2.2.2.1, hi.2.2.2.2.1, hi.2.2.2.2.2⟩ | omega) (by first | exact qk_me hm (by decide) (oq_b575e8c1 g1006 b1005.2) | omega) kx
            ·
              exfalso
              omega
          ·
            exfalso
            omega
        ·
          refine z_if_eq X (t := 72) rfl rfl ⟨by omega, by omega⟩ (fun g1011 => ?_) (fun g1011 => ?_)
          ·
            exfalso
            omega
          ·
            have hV := hvis.mp z1007
            refine z_const X rfl (z_goto X (t := 73) rfl rfl (z_store_n X (lv' := [(3, .int (Int32.ofInt 1)), (0, .ref (A 67)), (2, .int (Int32.ofInt c))]) rfl (by decide) (fun _ h => h) (z_load_n X (x := 1) rfl (List.Mem.head _) (z_if_eq X (t := 130) rfl rfl (by decide) (fun g1012 => ?_) (fun g1012 => ?_)))))
            ·
              exfalso
              omega
            ·
              refine z_aload_n X (x := A 67) rfl (List.Mem.tail _ (List.Mem.head _)) (s_getR X 67 rfl (c518_ok rfl) rfl rfl (s_getR X 3 rfl (c518_ok rfl) rfl rfl (z_aload_n X (x := A 67) rfl (List.Mem.tail _ (List.Mem.head _)) (z_getI X 67 rfl (c518_ok rfl) rfl rfl ?_))))
              have b1013 := bi_39 I
              refine z_bipush X rfl (z_mul X rfl (z_load_n X (x := c) rfl (List.Mem.tail _ (List.Mem.tail _ (List.Mem.head _))) (z_add X rfl (z_ald X 14 rfl (c518_ok rfl) rfl (by first | exact oq_1d1618ee hi.1.1 b1013.1 | omega) (show (((iI t 39) * 12) + c) < 288 by first | exact oq_e72f9ac6 g1006 b1013.2 b1005.2 | omega) (cbig_ok rfl) ?_))))
              have b1014 := bc_11 I (show ((((iI t 39) * 12) + c)).toNat < 288 by first | exact oq_491502f9 g1006 b1013.2 b1005.2 | omega)
              have hmo : (iC t 11 ((((iI t 39) * 12) + c)).toNat) = uM U (x : Int).toNat (c : Int).toNat := by have z := jjCDJ.2.2.1 (x : Int).toNat (c : Int).toNat (by first | (clear g1012 g1011; omega) | (clear g1011; omega) | omega) (by have := jjCDJ.1.1; omega); rw [← z]; exact congrArg (iC t 11) (by first | (clear g1012 g1011; omega) | (clear g1011; omega) | omega)
              refine z_if_le X (t := 130) rfl rfl (rng_to _) (fun g1015 => ?_) (fun g1015 => ?_)
              ·
                refine z_inc X (x := c) (lv' := [(2, .int (Int32.ofInt (c + 1))), (3, .int (Int32.ofInt 1)), (0, .ref (A 67))]) rfl (by decide) (List.Mem.tail _ (List.Mem.tail _ (List.Mem.head _))) (fun _ h => h) (z_goto X (t := 17) rfl rfl (WS_pq [2, 0] (lv' := [(0, .ref (A 67)), (2, .int (Int32.ofInt (c + 1)))]) rfl ?_))
                exact ih _ (c + 1) I F jjAIR jjCDJ (fhq_n hq (by first | (clear g1012 g1011; omega) | (clear g1011; omega) | omega) (fun w => by have z := w.2; rw [← hmo] at z; omega)) (by first | exact ⟨And.intro (oq_54f49eb5 hi.1.1) (oq_8a89b3ae g1006 hi.2.1), hi.2.1, hi.2.2.1, hi.2.2.2.1, hi.2.2.2.2.1, hi.2.2.2.2.2⟩ | omega) (by first | exact qk_me hm (by decide) (oq_b575e8c1 g1006 b1005.2) | omega) kx
              ·
                have hP : (hitP U (stS s) (x : Int).toNat) (c : Int).toNat := ⟨hV, by rw [← hmo]; omega⟩
                refine z_aload_n X (x := A 67) rfl (List.Mem.tail _ (List.Mem.head _)) (w_dup X.1 (ax_d X (show cdA 89 99 = some (.dup, 1, 0, 0, 0) from rfl)) rfl (z_getI X 67 rfl (c518_ok rfl) rfl rfl ?_))
                have b1016 := bi_40 I
                refine z_const X rfl (z_load_n X (x := c) rfl (List.Mem.tail _ (List.Mem.tail _ (List.Mem.head _))) (z_bshl X rfl (z_anyV (fun y1017 hy1017 ey1017 => ?_))))
                refine w_ior X.1 (ax_d X (show cdA 89 106 = some (.ior, 1, 0, 0, 0) from rfl)) (z_anyV (fun y1018 hy1018 ey1018 => ?_))
                have ho := ms_o12 (e := iI t 40) (p := c) (by first | (clear g1012 g1011; omega) | (clear g1011; omega) | omega) (by first | (clear g1012 g1011; omega) | (clear g1011; omega) | omega) ey1017 hy1017 ey1018 hy1018
                have ho1 := ho.1
                refine s_putI X 67 rfl (c518_ok rfl) rfl rfl (by decide) rfl rfl rfl (wd_gen (fun s1019 hs1019 => ?_))
                have Is1019 : Bd s1019 := eqB hs1019 (bd_I I (show (0 : Int) ≤ y1018 ∧ y1018 ≤ 4095 by first | (clear g1012 g1011; omega) | (clear g1011; omega) | omega) hy1018)
                have Fs1019 := eqF hs1019 (fm_I F (inl_ok (a := 40) rfl))
                have vs1019 : iI s1019 40 = y1018 := eqI hs1019 (iI_u hy1018)
                have ws1019_9 : iI s1019 9 = iI t 9 := eqI hs1019 rfl
                have ws1019_39 : iI s1019 39 = iI t 39 := eqI hs1019 rfl
                have ws1019_41 : iI s1019 41 = iI t 41 := eqI hs1019 rfl
                have aws1019_72 : SAM 72 t s1019 := by rw [hs1019]; exact (sam_rf (a := 72) (s := t))
                have fs1019 : Fm [40] [] t s1019 := by rw [hs1019]; exact fm_I (fm_rf _ _ _) (show 40 ∈ _ by decide)
                have JAIR_s1019 : AIR s1019 := AIR_fm fs1019 (by decide) jjAIR
                have JCDJ_s1019 : CDJ U s1019 := CDJ_fm fs1019 (by decide) jjCDJ
                refine z_aload_n X (x := A 67) rfl (List.Mem.tail _ (List.Mem.head _)) (s_getR X 67 rfl (c518_ok rfl) rfl rfl (z_aload_n X (x := A 67) rfl (List.Mem.tail _ (List.Mem.head _)) (z_getI X 67 rfl (c518_ok rfl) rfl rfl ?_)))
                have b1020 := bi_41 Is1019
                refine z_load_n X (x := c) rfl (List.Mem.tail _ (List.Mem.tail _ (List.Mem.head _))) (z_ast X 85 rfl (c518_ok rfl) rfl (by first | exact b1020.1 | omega) (show (iI s1019 41) < 12 by first | (clear g1012 g1011; omega) | (clear g1011; omega) | omega) (cbig_ok rfl) (wd_gen (fun s1021 hs1021 => ?_)))
                have Is1021 : Bd s1021 := eqB hs1021 (bd_C Is1019 (show (0 : Int) ≤ c ∧ c ≤ 11 by first | exact ⟨hi.1.1, oq_e4d7f3c5 g1006 b1005.2⟩ | omega) ⟨by first | exact oq_fa4e5087 hi.1.1 | omega, by first | exact oq_8be37138 g1006 b1005.2 | omega⟩)
                have Fs1021 := eqF hs1021 (fm_C Fs1019 (inl_ok (a := 72) rfl))
                have ws1021_9 : iI s1021 9 = iI s1019 9 := eqI hs1021 rfl
                have ws1021_39 : iI s1021 39 = iI s1019 39 := eqI hs1021 rfl
                have ws1021_40 : iI s1021 40 = iI s1019 40 := eqI hs1021 rfl
                have ws1021_41 : iI s1021 41 = iI s1019 41 := eqI hs1021 rfl
                have aws1021_72 : UPD 72 ((iI s1019 41)) c t s1021 := by rw [hs1021]; exact upd_put aws1019_72 ⟨by first | exact oq_fa4e5087 hi.1.1 | omega, by first | exact oq_8be37138 g1006 b1005.2 | omega⟩
                have fs1021 : Fm [] [72] s1019 s1021 := by rw [hs1021]; exact fm_C (fm_rf _ _ _) (show 72 ∈ _ by decide)
                have JAIR_s1021 : AIR s1021 := AIR_fm fs1021 (by decide) JAIR_s1019
                have JCDJ_s1021 : CDJ U s1021 := CDJ_fm fs1021 (by decide) JCDJ_s1019
                refine z_aload_n X (x := A 67) rfl (List.Mem.tail _ (List.Mem.head _)) (w_dup X.1 (ax_d X (show cdA 89 121 = some (.dup, 1, 0, 0, 0) from rfl)) rfl (z_getI X 67 rfl (c518_ok rfl) rfl rfl ?_))
                have b1022 := bi_41 Is1021
                refine z_const X rfl (z_add X rfl (s_putI X 67 rfl (c518_ok rfl) rfl rfl (by decide) rfl rfl rfl (wd_gen (fun s1023 hs1023 => ?_))))
                have Is1023 : Bd s1023 := eqB hs1023 (bd_I Is1021 (show (0 : Int) ≤ ((iI s1021 41) + 1) ∧ ((iI s1021 41) + 1) ≤ 12 by first | exact ⟨oq_54f49eb5 b1022.1, by first | (clear g1012 g1011; omega) | (clear g1011; omega) | omega⟩ | omega) ⟨by first | exact oq_74de1e16 b1022.1 | omega, by first | exact oq_76a8a5b7 b1022.2 | omega⟩)
                have Fs1023 := eqF hs1023 (fm_I Fs1021 (inl_ok (a := 41) rfl))
                have vs1023 : iI s1023 41 = ((iI s1021 41) + 1) := eqI hs1023 (iI_u ⟨by first | exact oq_74de1e16 b1022.1 | omega, by first | exact oq_76a8a5b7 b1022.2 | omega⟩)
                have ws1023_9 : iI s1023 9 = iI s1021 9 := eqI hs1023 rfl
                have ws1023_39 : iI s1023 39 = iI s1021 39 := eqI hs1023 rfl
                have ws1023_40 : iI s1023 40 = iI s1021 40 := eqI hs1023 rfl
                have aws1023_72 : UPD 72 ((iI s1019 41)) c t s1023 := by rw [hs1023]; exact aws1021_72
                have fs1023 : Fm [41] [] s1021 s1023 := by rw [hs1023]; exact fm_I (fm_rf _ _ _) (show 41 ∈ _ by decide)
                have JAIR_s1023 : AIR s1023 := AIR_fm fs1023 (by decide) JAIR_s1021
                have JCDJ_s1023 : CDJ U s1023 := CDJ_fm fs1023 (by decide) JCDJ_s1021
                refine z_inc X (x := c) (lv' := [(2, .int (Int32.ofInt (c + 1))), (3, .int (Int32.ofInt 1)), (0, .ref (A 67))]) rfl (by decide) (List.Mem.tail _ (List.Mem.tail _ (List.Mem.head _))) (fun _ h => h) (z_goto X (t := 17) rfl rfl (WS_pq [2, 0] (lv' := [(0, .ref (A 67)), (2, .int (Int32.ofInt (c + 1)))]) rfl ?_))
                exact ih _ (c + 1) Is1023 Fs1023 JAIR_s1023 JCDJ_s1023 (fhq_y hq (by first | (clear g1012 g1011; omega) | (clear g1011; omega) | omega) hP ho.2 (by first | (clear g1012 g1011; omega) | (clear g1011; omega) | omega) (by first | (clear g1012 g1011; omega) | (clear g1011; omega) | omega) (upd_ix aws1023_72 (by first | (clear g1012 g1011; omega) | (clear g1011; omega) | omega))) (by first | exact ⟨And.intro (oq_54f49eb5 hi.1.1) (oq_8a89b3ae g1006 hi.2.1), oq_ac0e91e1 ws1023_9 ws1021_9 ws1019_9 hi.2.1, hi.2.2.1, oq_ac0e91e1 ws1023_39 ws1021_39 ws1019_39 hi.2.2.2.1, hi.2.2.2.2.1, hi.2.2.2.2.2⟩ | omega) (by first | exact qk_me hm (by decide) (oq_b575e8c1 g1006 b1005.2) | omega) kx
  refine z_aload_n X (x := A 67) rfl (List.Mem.head _) (z_load_n X (x := x) rfl (List.Mem.tail _ (List.Mem.head _)) (s_putI X 67 rfl (c518_ok rfl) rfl rfl (by decide) rfl rfl rfl (wd_gen (fun s5 hs5 => ?_))))
  have Is5 : Bd s5 := eqB hs5 (bd_I I (show (0 : Int) ≤ x ∧ x ≤ 23 by first | exact ⟨p0.1, p0.2⟩ | omega) ⟨by first | exact oq_fa4e5087 p0.1 | omega, by first | exact oq_1a42ef34 p0.2 | omega⟩)
  have Fs5 := eqF hs5 (fm_I F (inl_ok (a := 39) rfl))
  have vs5 : iI s5 39 = x := eqI hs5 (iI_u ⟨by first | exact oq_fa4e5087 p0.1 | omega, by first | exact oq_1a42ef34 p0.2 | omega⟩)
  have ws5_9 : iI s5 9 = iI s 9 := eqI hs5 rfl
  have ws5_40 : iI s5 40 = iI s 40 := eqI hs5 rfl
  have ws5_41 : iI s5 41 = iI s 41 := eqI hs5 rfl
  have fs5 : Fm [39] [] s s5 := by rw [hs5]; exact fm_I (fm_rf _ _ _) (show 39 ∈ _ by decide)
  have JAIR_s5 : AIR s5 := AIR_fm fs5 (by decide) jAIR
  have JCDJ_s5 : CDJ U s5 := CDJ_fm fs5 (by decide) jCDJ
  refine z_aload_n X (x := A 67) rfl (List.Mem.head _) (z_const X rfl (s_putI X 67 rfl (c518_ok rfl) rfl rfl (by decide) rfl rfl rfl (wd_gen (fun s6 hs6 => ?_))))
  have Is6 : Bd s6 := eqB hs6 (bd_I Is5 (show (0 : Int) ≤ 0 ∧ 0 ≤ 4095 by first | exact ⟨by decide, by decide⟩ | omega) (by decide))
  have Fs6 := eqF hs6 (fm_I Fs5 (inl_ok (a := 40) rfl))
  have vs6 : iI s6 40 = 0 := eqI hs6 (iI_u (by decide))
  have ws6_9 : iI s6 9 = iI s5 9 := eqI hs6 rfl
  have ws6_39 : iI s6 39 = iI s5 39 := eqI hs6 rfl
  have ws6_41 : iI s6 41 = iI s5 41 := eqI hs6 rfl
  have fs6 : Fm [40] [] s5 s6 := by rw [hs6]; exact fm_I (fm_rf _ _ _) (show 40 ∈ _ by decide)
  have JAIR_s6 : AIR s6 := AIR_fm fs6 (by decide) JAIR_s5
  have JCDJ_s6 : CDJ U s6 := CDJ_fm fs6 (by decide) JCDJ_s5
  refine z_aload_n X (x := A 67) rfl (List.Mem.head _) (z_const X rfl (s_putI X 67 rfl (c518_ok rfl) rfl rfl (by decide) rfl rfl rfl (wd_gen (fun s7 hs7 => ?_))))
  have Is7 : Bd s7 := eqB hs7 (bd_I Is6 (show (0 : Int) ≤ 0 ∧ 0 ≤ 12 by first | exact ⟨by decide, by decide⟩ | omega) (by decide))
  have Fs7 := eqF hs7 (fm_I Fs6 (inl_ok (a := 41) rfl))
  have vs7 : iI s7 41 = 0 := eqI hs7 (iI_u (by decide))
  have ws7_9 : iI s7 9 = iI s6 9 := eqI hs7 rfl
  have ws7_39 : iI s7 39 = iI s6 39 := eqI hs7 rfl
  have ws7_40 : iI s7 40 = iI s6 40 := eqI hs7 rfl
  have fs7 : Fm [41] [] s6 s7 := by rw [hs7]; exact fm_I (fm_rf _ _ _) (show 41 ∈ _ by decide)
  have JAIR_s7 : AIR s7 := AIR_fm fs7 (by decide) JAIR_s6
  have JCDJ_s7 : CDJ U s7 := CDJ_fm fs7 (by decide) JCDJ_s6
  refine z_const X rfl (z_store_n X (lv' := [(2, .int (Int32.ofInt 0)), (0, .ref (A 67)), (1, .int (Int32.ofInt x))]) rfl (by decide) (fun _ h => h) (WS_pq [1, 0] (lv' := [(0, .ref (A 67)), (2, .int (Int32.ofInt 0))]) rfl (L17 ((12 - 0 : Int).toNat + 1) s7 0 Is7 Fs7 JAIR_s7 JCDJ_s7 (fhq_0 (by omega) (by omega)) (by first | exact ⟨And.intro (by decide) (b1.1), oq_d0d2714e ws7_9 ws5_9 ws6_9, b1.2, oq_d0d2714e ws7_39 vs5 ws6_39, p0.1, p0.2⟩ | omega) (Nat.lt_succ_self _) ?_)))
  intro s8 x9 Is8 Fs8 JAIR_s8 JCDJ_s8 Qs8 hs8
  have b10 := bi_9 Is8
  have b11 := bi_39 Is8
  have b12 := bi_40 Is8
  have b13 := bi_41 Is8
  exact w_vret X.1 q hRt (ax_d X (show cdA 89 136 = some (.return_, 1, 0, 0, 0) from rfl)) (Nat.zero_le _) (Nat.zero_le _) ⟨_, rfl, Is8, Fs8, rfl, ⟨by first | exact hs8.2 | omega, by have z := Qs8; rw [show x9 = iI s 9 by omega] at z; exact z⟩⟩
set_option maxRecDepth 4000 in
theorem c8_mendOf9 (G : GX l s0 D tys a0 dT) (I : Bd s) {x : Int} (p0 : rng x) : CT l s0 D A dT 90 (rmN 90) [.ref (A 67), .int (Int32.ofInt x)] s (fun o t => Bd t ∧ Fm [] [] s t ∧ ∃ e, o = .inl (some (.int (Int32.ofInt e))) ∧ rng e ∧ (MDF x e s)) := by
  refine ct_ofX G (by decide) (Nat.le_of_ble_eq_true rfl) (fun k X E ET hRt hXt q => ?_)
  show WS k 0 [(0, .ref (A 67)), (1, .int (Int32.ofInt x))] [] _ 0 0
  have F : Fm [] [] s s := fm_rf _ _ s
  have b1 := bi_41 I
  have L2 : ∀ (n : Nat) (t : PS) (xv c : Int), Bd t → Fm [] [] s t → (∀ i : Nat, (i : Int) < c → iC s 72 i ≠ x) → ((xv = x ∧ rng x) ∧ (0 ≤ c ∧ c ≤ 8) ∧ iI t 41 = iI s 41) → (8 - c : Int).toNat < n → (∀ (t' : PS) (c' : Int), Bd t' → Fm [] [] s t' → (∀ i : Nat, (i : Int) < c' → iC s 72 i ≠ x) → ((iI s 41 ≤ c' ∨ 8 ≤ c')) → WS k 39 [(0, .ref (A 67)), (1, .int (Int32.ofInt xv)), (2, .int (Int32.ofInt c'))] [] (Wd A dT t') 0 0) → WS k 2 [(0, .ref (A 67)), (1, .int (Int32.ofInt xv)), (2, .int (Int32.ofInt c))] [] (Wd A dT t) 0 0 := by
    intro n
    induction n with
    | zero =>
      intro t xv c I F hq hi hm kx
      exact absurd hm (Nat.not_lt_zero _)
    | succ n ih =>
      intro t xv c I F hq hi hm kx
      have b1001 := bi_41 I
      refine z_load_n X (x := c) rfl (List.Mem.tail _ (List.Mem.tail _ (List.Mem.head _))) (z_aload_n X (x := A 67) rfl (List.Mem.head _) (z_getI X 67 rfl (c518_ok rfl) rfl rfl ?_))
      have b1002 := bi_41 I
      refine z_icmp_ge X (t := 39) rfl rfl ⟨by first | exact oq_fa4e5087 hi.2.1.1 | omega, by first | exact oq_d3f5d874 hi.2.1.2 | omega⟩ (rng_to _) (fun g1003 => ?_) (fun g1003 => ?_)
      ·
        refine WS_pq [0, 1, 2] (lv' := [(0, .ref (A 67)), (1, .int (Int32.ofInt xv)), (2, .int (Int32.ofInt c))]) rfl ?_
        exact kx _ c I F hq (by first | exact Or.inl (oq_acf76229 g1003 hi.2.2) | omega)
      ·
        refine z_load_n X (x := c) rfl (List.Mem.tail _ (List.Mem.tail _ (List.Mem.head _))) (z_bipush X rfl (z_icmp_ge X (t := 39) rfl rfl ⟨by first | exact oq_fa4e5087 hi.2.1.1 | omega, by first | exact oq_d3f5d874 hi.2.1.2 | omega⟩ (by decide) (fun g1004 => ?_) (fun g1004 => ?_)))
        ·
          refine WS_pq [0, 1, 2] (lv' := [(0, .ref (A 67)), (1, .int (Int32.ofInt xv)), (2, .int (Int32.ofInt c))]) rfl ?_
          exact kx _ c I F hq (by first | exact Or.inr (g1004) | omega)
        ·
          refine z_aload_n X (x := A 67) rfl (List.Mem.head _) (s_getR X 67 rfl (c518_ok rfl) rfl rfl (z_load_n X (x := c) rfl (List.Mem.tail _ (List.Mem.tail _ (List.Mem.head _))) (z_ald X 85 rfl (c518_ok rfl) rfl (by first | exact hi.2.1.1 | omega) (show c < 12 by first | exact oq_ab4b4dd4 g1004 | omega) (cbig_ok rfl) ?_)))
          have b1005 := bc_72 I (show (c).toNat < 12 by first | exact oq_31ffc319 g1004 | omega)
          refine z_load_n X (x := xv) rfl (List.Mem.tail _ (List.Mem.head _)) (z_icmp_ne X (t := 33) rfl rfl (rng_to _) ⟨by first | exact oq_6bc29d15 hi.1.1 hi.1.2.1 | omega, by first | exact oq_60a194f9 hi.1.1 hi.1.2.2 | omega⟩ (fun g1006 => ?_) (fun g1006 => ?_))
          ·
            refine z_inc X (x := c) (lv' := [(2, .int (Int32.ofInt (c + 1))), (0, .ref (A 67)), (1, .int (Int32.ofInt xv))]) rfl (by decide) (List.Mem.tail _ (List.Mem.tail _ (List.Mem.head _))) (fun _ h => h) (z_goto X (t := 2) rfl rfl (WS_pq [1, 2, 0] (lv' := [(0, .ref (A 67)), (1, .int (Int32.ofInt xv)), (2, .int (Int32.ofInt (c + 1)))]) rfl ?_))
            exact ih _ xv (c + 1) I F (fun i hi => by by_cases z : i = (c : Int).toNat; (· rw [z, ← (fm_c F List.not_mem_nil : iC t 72 (c : Int).toNat = iC s 72 (c : Int).toNat)]; omega); (· exact hq i (by first | (clear g1006; omega) | omega))) (by first | exact ⟨And.intro (hi.1.1) (And.intro (hi.1.2.1) (hi.1.2.2)), And.intro (oq_54f49eb5 hi.2.1.1) (oq_0c7b19c3 g1004), hi.2.2⟩ | omega) (by first | exact qk_me hm (by decide) (oq_9f368f35 g1004) | omega) kx
          ·
            refine z_aload_n X (x := A 67) rfl (List.Mem.head _) (s_getR X 67 rfl (c518_ok rfl) rfl rfl (z_load_n X (x := c) rfl (List.Mem.tail _ (List.Mem.tail _ (List.Mem.head _))) (z_ald X 88 rfl (c518_ok rfl) rfl (by first | exact hi.2.1.1 | omega) (show c < 8 by first | exact g1004 | omega) (cbig_ok rfl) ?_)))
            have b1007 := bc_75 I (show (c).toNat < 8 by first | exact oq_db4b3b8b g1004 | omega)
            exact w_iret X.1 q hRt rfl (ax_d X (show cdA 90 32 = some (.ireturn, 1, 0, 0, 0) from rfl)) (Nat.zero_le _) (Nat.zero_le _) ⟨_, rfl, I, F, (iC t 75 (c).toNat), rfl, (rng_to _), (Or.inl ⟨(c : Int).toNat, by omega, by omega, (fm_c F List.not_mem_nil : iC t 72 (c : Int).toNat = iC s 72 (c : Int).toNat).symm.trans (by omega), fm_c F List.not_mem_nil⟩)⟩
  refine z_const X rfl (z_store_n X (lv' := [(2, .int (Int32.ofInt 0)), (0, .ref (A 67)), (1, .int (Int32.ofInt x))]) rfl (by decide) (fun _ h => h) (WS_pq [1, 2, 0] (lv' := [(0, .ref (A 67)), (1, .int (Int32.ofInt x)), (2, .int (Int32.ofInt 0))]) rfl (L2 ((8 - 0 : Int).toNat + 1) s x 0 I F (fun i hi => absurd hi (by omega)) (by first | exact ⟨And.intro (by decide) (And.intro (p0.1) (p0.2)), And.intro (by decide) (by decide), by decide⟩ | omega) (Nat.lt_succ_self _) ?_)))
  intro s2 x3 Is2 Fs2 Qs2 hs2
  have b4 := bi_41 Is2
  refine z_const X rfl ?_
  exact w_iret X.1 q hRt rfl (ax_d X (show cdA 90 40 = some (.ireturn, 1, 0, 0, 0) from rfl)) (Nat.zero_le _) (Nat.zero_le _) ⟨_, rfl, Is2, Fs2, 0, rfl, (by decide), (Or.inr ⟨fun i h1 h2 => Qs2 i (by omega), rfl⟩)⟩
set_option maxRecDepth 4000 in
theorem j_fill9f (G : GX l s0 D tys a0 dT) (I : Bd s) {x : Int} (p0 : -1 ≤ x ∧ x ≤ 0) : CT l s0 D A dT 312 (rmN 312) [.ref (A 90), .int (Int32.ofInt x)] s (fun o t => Bd t ∧ Fm [] [77] s t ∧ o = .inl none ∧ (∀ q : Nat, q < 128 → iC t 77 q = x)) := by
  refine ct_ofX G (by decide) (Nat.le_of_ble_eq_true rfl) (fun k X E ET hRt hXt q => ?_)
  show WS k 0 [(0, .ref (A 90)), (1, .int (Int32.ofInt x))] [] _ 0 0
  have F : Fm [] [77] s s := fm_rf _ _ s
  have L5 : ∀ (n : Nat) (t : PS) (xv c ln : Int), Bd t → Fm [] [77] s t → (∀ q : Nat, (q : Int) < c → iC t 77 q = x) → ((xv = x ∧ -1 ≤ x ∧ x ≤ 0) ∧ ln = 128 ∧ 0 ≤ c ∧ c ≤ 128) → (128 - c : Int).toNat < n → (∀ (t' : PS) (c' : Int), Bd t' → Fm [] [77] s t' → (∀ q : Nat, (q : Int) < c' → iC t' 77 q = x) → (xv = x ∧ c' = 128) → WS k 20 [(0, .ref (A 90)), (1, .int (Int32.ofInt xv)), (2, .int (Int32.ofInt c')), (3, .int (Int32.ofInt ln))] [] (Wd A dT t') 0 0) → WS k 5 [(0, .ref (A 90)), (1, .int (Int32.ofInt xv)), (2, .int (Int32.ofInt c)), (3, .int (Int32.ofInt ln))] [] (Wd A dT t) 0 0 := by
    intro n
    induction n with
    | zero =>
      intro t xv c ln I F hq hi hm kx
      exact absurd hm (Nat.not_lt_zero _)
    | succ n ih =>
      intro t xv c ln I F hq hi hm kx
      refine z_load_n X (x := c) rfl (List.Mem.tail _ (List.Mem.tail _ (List.Mem.head _))) (z_load_n X (x := ln) rfl (List.Mem.tail _ (List.Mem.tail _ (List.Mem.tail _ (List.Mem.head _)))) (z_icmp_ge X (t := 20) rfl rfl ⟨by first | exact oq_fa4e5087 hi.2.2.1 | omega, by first | exact oq_4ee82282 hi.2.2.2 | omega⟩ ⟨by first | exact oq_b73d3f00 hi.2.1 | omega, by first | exact oq_5d97283a hi.2.1 | omega⟩ (fun g1001 => ?_) (fun g1001 => ?_)))
      ·
        refine WS_pq [0, 1, 2, 3] (lv' := [(0, .ref (A 90)), (1, .int (Int32.ofInt xv)), (2, .int (Int32.ofInt c)), (3, .int (Int32.ofInt ln))]) rfl ?_
        exact kx _ c I F hq (by first | exact ⟨hi.1.1, oq_5db125fc hi.2.2.2 g1001 hi.2.1⟩ | omega)
      ·
        refine z_aload_n X (x := A 90) rfl (List.Mem.head _) (z_load_n X (x := c) rfl (List.Mem.tail _ (List.Mem.tail _ (List.Mem.head _))) (z_load_n X (x := xv) rfl (List.Mem.tail _ (List.Mem.head _)) (z_ast X 90 rfl (c518_ok rfl) rfl (by first | exact hi.2.2.1 | omega) (show c < 128 by first | exact oq_9ea9f5fe g1001 hi.2.1 | omega) (cbig_ok rfl) (wd_gen (fun s1002 hs1002 => ?_)))))
        have Is1002 : Bd s1002 := eqB hs1002 (bd_C I (show ((-2147483648) : Int) ≤ xv ∧ xv ≤ 2147483647 by first | exact ⟨oq_709dc04f hi.1.1 hi.1.2.1, oq_58560895 hi.1.1 hi.1.2.2⟩ | omega) ⟨by first | exact oq_709dc04f hi.1.1 hi.1.2.1 | omega, by first | exact oq_58560895 hi.1.1 hi.1.2.2 | omega⟩)
        have Fs1002 := eqF hs1002 (fm_C F (inl_ok (a := 77) rfl))
        have aws1002_77 : UPD 77 (c) xv t s1002 := by rw [hs1002]; exact upd_put (sam_rf (a := 77) (s := t)) ⟨by first | exact oq_709dc04f hi.1.1 hi.1.2.1 | omega, by first | exact oq_58560895 hi.1.1 hi.1.2.2 | omega⟩
        refine z_inc X (x := c) (lv' := [(2, .int (Int32.ofInt (c + 1))), (0, .ref (A 90)), (1, .int (Int32.ofInt xv)), (3, .int (Int32.ofInt ln))]) rfl (by decide) (List.Mem.tail _ (List.Mem.tail _ (List.Mem.head _))) (fun _ h => h) (z_goto X (t := 5) rfl rfl (WS_pq [1, 2, 0, 3] (lv' := [(0, .ref (A 90)), (1, .int (Int32.ofInt xv)), (2, .int (Int32.ofInt (c + 1))), (3, .int (Int32.ofInt ln))]) rfl ?_))
        exact ih _ xv (c + 1) ln Is1002 Fs1002 (fl8_up (f := fun _ => x) hq (by omega) aws1002_77 (by omega)) (by first | exact ⟨And.intro (hi.1.1) (And.intro (hi.1.2.1) (hi.1.2.2)), hi.2.1, oq_54f49eb5 hi.2.2.1, oq_b5166a24 g1001 hi.2.1⟩ | omega) (by first | exact qk_me hm (by decide) (oq_49db1926 g1001 hi.2.1) | omega) kx
  refine z_const X rfl (z_store_n X (lv' := [(2, .int (Int32.ofInt 0)), (0, .ref (A 90)), (1, .int (Int32.ofInt x))]) rfl (by decide) (fun _ h => h) (z_aload_n X (x := A 90) rfl (List.Mem.tail _ (List.Mem.head _)) (z_alen X 90 rfl (by decide) rfl rfl (z_store_n X (lv' := [(3, .int (Int32.ofInt 128)), (2, .int (Int32.ofInt 0)), (0, .ref (A 90)), (1, .int (Int32.ofInt x))]) rfl (by decide) (fun _ h => h) (WS_pq [2, 3, 1, 0] (lv' := [(0, .ref (A 90)), (1, .int (Int32.ofInt x)), (2, .int (Int32.ofInt 0)), (3, .int (Int32.ofInt 128))]) rfl (L5 ((128 - 0 : Int).toNat + 1) s x 0 128 I F (fun q hq => absurd hq (by omega)) (by first | exact ⟨And.intro (by decide) (And.intro (p0.1) (p0.2)), by decide, by decide, by decide⟩ | omega) (Nat.lt_succ_self _) ?_))))))
  intro s1 x2 Is1 Fs1 Qs1 hs1
  exact w_vret X.1 q hRt (ax_d X (show cdA 312 20 = some (.return_, 1, 0, 0, 0) from rfl)) (Nat.zero_le _) (Nat.zero_le _) ⟨_, rfl, Is1, Fs1, rfl, (fun q hq => Qs1 q (by omega))⟩
set_option maxRecDepth 4000 in
theorem j_fill9k (G : GX l s0 D tys a0 dT) (I : Bd s) {x : Int} (p0 : 0 ≤ x ∧ x ≤ 0) : CT l s0 D A dT 312 (rmN 312) [.ref (A 89), .int (Int32.ofInt x)] s (fun o t => Bd t ∧ Fm [] [76] s t ∧ o = .inl none ∧ (∀ q : Nat, q < 256 → iC t 76 q = x)) := by
  refine ct_ofX G (by decide) (Nat.le_of_ble_eq_true rfl) (fun k X E ET hRt hXt q => ?_)
  show WS k 0 [(0, .ref (A 89)), (1, .int (Int32.ofInt x))] [] _ 0 0
  have F : Fm [] [76] s s := fm_rf _ _ s
  have L5 : ∀ (n : Nat) (t : PS) (xv c ln : Int), Bd t → Fm [] [76] s t → (∀ q : Nat, (q : Int) < c → iC t 76 q = x) → ((xv = x ∧ 0 ≤ x ∧ x ≤ 0) ∧ ln = 256 ∧ 0 ≤ c ∧ c ≤ 256) → (256 - c : Int).toNat < n → (∀ (t' : PS) (c' : Int), Bd t' → Fm [] [76] s t' → (∀ q : Nat, (q : Int) < c' → iC t' 76 q = x) → (xv = x ∧ c' = 256) → WS k 20 [(0, .ref (A 89)), (1, .int (Int32.ofInt xv)), (2, .int (Int32.ofInt c')), (3, .int (Int32.ofInt ln))] [] (Wd A dT t') 0 0) → WS k 5 [(0, .ref (A 89)), (1, .int (Int32.ofInt xv)), (2, .int (Int32.ofInt c)), (3, .int (Int32.ofInt ln))] [] (Wd A dT t) 0 0 := by
    intro n
    induction n with
    | zero =>
      intro t xv c ln I F hq hi hm kx
      exact absurd hm (Nat.not_lt_zero _)
    | succ n ih =>
      intro t xv c ln I F hq hi hm kx
      refine z_load_n X (x := c) rfl (List.Mem.tail _ (List.Mem.tail _ (List.Mem.head _))) (z_load_n X (x := ln) rfl (List.Mem.tail _ (List.Mem.tail _ (List.Mem.tail _ (List.Mem.head _)))) (z_icmp_ge X (t := 20) rfl rfl ⟨by first | exact oq_fa4e5087 hi.2.2.1 | omega, by first | exact oq_09cd9fc1 hi.2.2.2 | omega⟩ ⟨by first | exact oq_836f9876 hi.2.1 | omega, by first | exact oq_4f2d3355 hi.2.1 | omega⟩ (fun g1001 => ?_) (fun g1001 => ?_)))
      ·
        refine WS_pq [0, 1, 2, 3] (lv' := [(0, .ref (A 89)), (1, .int (Int32.ofInt xv)), (2, .int (Int32.ofInt c)), (3, .int (Int32.ofInt ln))]) rfl ?_
        exact kx _ c I F hq (by first | exact ⟨hi.1.1, oq_5f03d490 hi.2.2.2 g1001 hi.2.1⟩ | omega)
      ·
        refine z_aload_n X (x := A 89) rfl (List.Mem.head _) (z_load_n X (x := c) rfl (List.Mem.tail _ (List.Mem.tail _ (List.Mem.head _))) (z_load_n X (x := xv) rfl (List.Mem.tail _ (List.Mem.head _)) (z_ast X 89 rfl (c518_ok rfl) rfl (by first | exact hi.2.2.1 | omega) (show c < 256 by first | exact oq_c879b548 g1001 hi.2.1 | omega) (cbig_ok rfl) (wd_gen (fun s1002 hs1002 => ?_)))))
        have Is1002 : Bd s1002 := eqB hs1002 (bd_C I (show ((-2147483648) : Int) ≤ xv ∧ xv ≤ 2147483647 by first | exact ⟨oq_b3df2c6f hi.1.1 hi.1.2.1, oq_58560895 hi.1.1 hi.1.2.2⟩ | omega) ⟨by first | exact oq_b3df2c6f hi.1.1 hi.1.2.1 | omega, by first | exact oq_58560895 hi.1.1 hi.1.2.2 | omega⟩)
        have Fs1002 := eqF hs1002 (fm_C F (inl_ok (a := 76) rfl))
        have aws1002_76 : UPD 76 (c) xv t s1002 := by rw [hs1002]; exact upd_put (sam_rf (a := 76) (s := t)) ⟨by first | exact oq_b3df2c6f hi.1.1 hi.1.2.1 | omega, by first | exact oq_58560895 hi.1.1 hi.1.2.2 | omega⟩
        refine z_inc X (x := c) (lv' := [(2, .int (Int32.ofInt (c + 1))), (0, .ref (A 89)), (1, .int (Int32.ofInt xv)), (3, .int (Int32.ofInt ln))]) rfl (by decide) (List.Mem.tail _ (List.Mem.tail _ (List.Mem.head _))) (fun _ h => h) (z_goto X (t := 5) rfl rfl (WS_pq [1, 2, 0, 3] (lv' := [(0, .ref (A 89)), (1, .int (Int32.ofInt xv)), (2, .int (Int32.ofInt (c + 1))), (3, .int (Int32.ofInt ln))]) rfl ?_))
        exact ih _ xv (c + 1) ln Is1002 Fs1002 (fl8_up (f := fun _ => x) hq (by omega) aws1002_76 (by omega)) (by first | exact ⟨And.intro (hi.1.1) (And.intro (hi.1.2.1) (hi.1.2.2)), hi.2.1, oq_54f49eb5 hi.2.2.1, oq_961868b5 g1001 hi.2.1⟩ | omega) (by first | exact qk_me hm (by decide) (oq_41a13d55 g1001 hi.2.1) | omega) kx
  refine z_const X rfl (z_store_n X (lv' := [(2, .int (Int32.ofInt 0)), (0, .ref (A 89)), (1, .int (Int32.ofInt x))]) rfl (by decide) (fun _ h => h) (z_aload_n X (x := A 89) rfl (List.Mem.tail _ (List.Mem.head _)) (z_alen X 89 rfl (by decide) rfl rfl (z_store_n X (lv' := [(3, .int (Int32.ofInt 256)), (2, .int (Int32.ofInt 0)), (0, .ref (A 89)), (1, .int (Int32.ofInt x))]) rfl (by decide) (fun _ h => h) (WS_pq [2, 3, 1, 0] (lv' := [(0, .ref (A 89)), (1, .int (Int32.ofInt x)), (2, .int (Int32.ofInt 0)), (3, .int (Int32.ofInt 256))]) rfl (L5 ((256 - 0 : Int).toNat + 1) s x 0 256 I F (fun q hq => absurd hq (by omega)) (by first | exact ⟨And.intro (by decide) (And.intro (p0.1) (p0.2)), by decide, by decide, by decide⟩ | omega) (Nat.lt_succ_self _) ?_))))))
  intro s1 x2 Is1 Fs1 Qs1 hs1
  exact w_vret X.1 q hRt (ax_d X (show cdA 312 20 = some (.return_, 1, 0, 0, 0) from rfl)) (Nat.zero_le _) (Nat.zero_le _) ⟨_, rfl, Is1, Fs1, rfl, (fun q hq => Qs1 q (by omega))⟩
set_option maxRecDepth 4000 in
theorem c8_spread9 (G : GX l s0 D tys a0 dT) (I : Bd s) {x : Int} (p0 : 0 ≤ x ∧ x ≤ 127) (p1 : ¬ stS s x) : CT l s0 D A dT 94 (rmN 94) [.ref (A 67), .int (Int32.ofInt x)] s (fun o t => Bd t ∧ Fm [] [77, 78] s t ∧ o = .inl none ∧ (FRE8 (stS s) x t)) := by
  refine ct_ofX G (by decide) (Nat.le_of_ble_eq_true rfl) (fun k X E ET hRt hXt q => ?_)
  show WS k 0 [(0, .ref (A 67)), (1, .int (Int32.ofInt x))] [] _ 0 0
  have F : Fm [] [77, 78] s s := fm_rf _ _ s
  have L41 : ∀ (n : Nat) (t : PS) (xv tl h g : Int), Bd t → Fm [] [77, 78] s t → (SPQ (stS s) x h g tl t) → ((xv = x ∧ 0 ≤ x ∧ x ≤ 127) ∧ (1 ≤ tl ∧ tl ≤ 128) ∧ (0 ≤ h ∧ h < tl) ∧ (0 ≤ g ∧ g ≤ 6)) → (6 - g : Int).toNat < n → (∀ (t' : PS) (tl' g' : Int), Bd t' → Fm [] [77, 78] s t' → (SPQ (stS s) x h g' tl' t') → ((xv = x ∧ 0 ≤ x ∧ x ≤ 127) ∧ (1 ≤ tl' ∧ tl' ≤ 128) ∧ (0 ≤ h ∧ h < tl') ∧ g' = 6) → WS k 131 [(0, .ref (A 67)), (1, .int (Int32.ofInt xv)), (2, .int (Int32.ofInt tl')), (3, .int (Int32.ofInt h)), (4, .int (Int32.ofInt g'))] [] (Wd A dT t') 0 0) → WS k 41 [(0, .ref (A 67)), (1, .int (Int32.ofInt xv)), (2, .int (Int32.ofInt tl)), (3, .int (Int32.ofInt h)), (4, .int (Int32.ofInt g))] [] (Wd A dT t) 0 0 := by
    intro n
    induction n with
    | zero =>
      intro t xv tl h g I F hq hi hm kx
      exact absurd hm (Nat.not_lt_zero _)
    | succ n ih =>
      intro t xv tl h g I F hq hi hm kx
      refine z_load X (x := g) rfl (List.Mem.tail _ (List.Mem.tail _ (List.Mem.tail _ (List.Mem.tail _ (List.Mem.head _))))) (z_bipush X rfl (z_icmp_ge X (t := 131) rfl rfl ⟨by first | exact oq_fa4e5087 hi.2.2.2.1 | omega, by first | exact oq_b301c3bf hi.2.2.2.2 | omega⟩ (by decide) (fun g1001 => ?_) (fun g1001 => ?_)))
      ·
        refine WS_pq [0, 1, 2, 3, 4] (lv' := [(0, .ref (A 67)), (1, .int (Int32.ofInt xv)), (2, .int (Int32.ofInt tl)), (3, .int (Int32.ofInt h)), (4, .int (Int32.ofInt g))]) rfl ?_
        exact kx _ tl g I F hq (by first | exact ⟨And.intro (hi.1.1) (And.intro (hi.1.2.1) (hi.1.2.2)), And.intro (hi.2.1.1) (hi.2.1.2), And.intro (hi.2.2.1.1) (hi.2.2.1.2), oq_0dbc568f hi.2.2.2.2 g1001⟩ | omega)
      ·
        refine z_aload_n X (x := A 67) rfl (List.Mem.head _) (s_getR X 67 rfl (c518_ok rfl) rfl rfl (z_load_n X (x := h) rfl (List.Mem.tail _ (List.Mem.tail _ (List.Mem.tail _ (List.Mem.head _)))) (z_ald X 91 rfl (c518_ok rfl) rfl (by first | exact hi.2.2.1.1 | omega) (show h < 128 by first | exact oq_13b70d5e hi.2.2.1.2 hi.2.1.2 | omega) (cbig_ok rfl) ?_)))
        have b1002 := bc_78 I (show (h).toNat < 128 by first | exact oq_293b3716 hi.2.2.1.2 hi.2.1.2 | omega)
        have ar1003 : iC t 78 (h).toNat = iC t 78 (h).toNat := (sam_rf (a := 78) (s := t)) _
        refine z_load X (x := g) rfl (List.Mem.tail _ (List.Mem.tail _ (List.Mem.tail _ (List.Mem.tail _ (List.Mem.head _))))) (z_callS X (rm := rmN 100) (As := [.int (Int32.ofInt (iC t 78 (h).toNat)), .int (Int32.ofInt g)]) (st := []) rfl rfl (by rw [E.1, E.2.1, E.2.2.1]; exact c9_stepFrom2 G I (by first | exact ⟨b1002.1, b1002.2⟩ | omega) (by first | exact ⟨hi.2.2.2.1, oq_a4cef127 g1001⟩ | omega)) ⟨by rw [E.2.2.2]; exact (show (rmN 100).frames + 1 ≤ (rmN 94).frames by decide), by rw [E.2.2.2]; exact (show 8 + (mNL (miB 100) + 11) + (rmN 100).locals ≤ (rmN 94).locals by decide), by rw [E.2.2.2]; exact (show 0 + (rmN 100).cells ≤ (rmN 94).cells by decide), by rw [E.2.2.2]; exact (show 0 + (rmN 100).slots ≤ (rmN 94).slots by decide)⟩ (Nat.le_of_ble_eq_true rfl) (fun vv s1004 hq => ?_) (fun ee s1004 hq => ?_))
        rotate_left
        · obtain ⟨rfl, e1005, hv, hrs1004, hps1004⟩ := hq; cases hv
        obtain ⟨rfl, e1005, hv, hrs1004, hps1004⟩ := hq
        cases hv
        show WS k 59 [(0, .ref (A 67)), (1, .int (Int32.ofInt xv)), (2, .int (Int32.ofInt tl)), (3, .int (Int32.ofInt h)), (4, .int (Int32.ofInt g))] [.int (Int32.ofInt e1005)] (Wd A dT t) 0 0
        have hbs : e1005 = besT (iC t 78 (h : Int).toNat) g := hps1004.1
        have hsf := spq_f hq (by omega)
        refine z_store X (lv' := [(5, .int (Int32.ofInt e1005)), (0, .ref (A 67)), (1, .int (Int32.ofInt xv)), (2, .int (Int32.ofInt tl)), (3, .int (Int32.ofInt h)), (4, .int (Int32.ofInt g))]) rfl (by decide) (fun _ h => h) (z_load X (x := e1005) rfl (List.Mem.head _) (z_const X rfl (z_icmp_eq X (t := 125) rfl rfl hrs1004 (by decide) (fun g1006 => ?_) (fun g1006 => ?_))))
        ·
          refine z_inc X (x := g) (lv' := [(4, .int (Int32.ofInt (g + 1))), (5, .int (Int32.ofInt e1005)), (0, .ref (A 67)), (1, .int (Int32.ofInt xv)), (2, .int (Int32.ofInt tl)), (3, .int (Int32.ofInt h))]) rfl (by decide) (List.Mem.tail _ (List.Mem.tail _ (List.Mem.tail _ (List.Mem.tail _ (List.Mem.tail _ (List.Mem.head _)))))) (fun _ h => h) (z_goto X (t := 41) rfl rfl (WS_pq [2, 3, 4, 5, 0] (lv' := [(0, .ref (A 67)), (1, .int (Int32.ofInt xv)), (2, .int (Int32.ofInt tl)), (3, .int (Int32.ofInt h)), (4, .int (Int32.ofInt (g + 1)))]) rfl ?_))
          exact ih _ xv tl h (g + 1) I F (spq_n hq (by omega) (by omega) hbs (Or.inl (by omega))) (by first | exact ⟨And.intro (hi.1.1) (And.intro (hi.1.2.1) (hi.1.2.2)), And.intro (hi.2.1.1) (hi.2.1.2), And.intro (hi.2.2.1.1) (hi.2.2.1.2), oq_54f49eb5 hi.2.2.2.1, oq_5bf54478 g1001⟩ | omega) (by first | exact qk_me hm (by decide) (oq_2265a080 g1001) | omega) kx
        ·
          refine z_aload_n X (x := A 67) rfl (List.Mem.tail _ (List.Mem.head _)) (s_getR X 67 rfl (c518_ok rfl) rfl rfl (z_load X (x := e1005) rfl (List.Mem.head _) (z_ald X 90 rfl (c518_ok rfl) rfl (by first | exact oq_7a1025bf g1006 hps1004.2.1 | omega) (show e1005 < 128 by first | exact oq_31b2bf10 hps1004.2.2 | omega) (cbig_ok rfl) ?_)))
          have b1007 := bc_77 I (show (e1005).toNat < 128 by first | exact oq_c7f4e9c1 hps1004.2.2 | omega)
          have ar1008 : iC t 77 (e1005).toNat = iC t 77 (e1005).toNat := (sam_rf (a := 77) (s := t)) _
          refine z_const X rfl (z_icmp_ne X (t := 125) rfl rfl (rng_to _) (by decide) (fun g1009 => ?_) (fun g1009 => ?_))
          ·
            refine z_inc X (x := g) (lv' := [(4, .int (Int32.ofInt (g + 1))), (5, .int (Int32.ofInt e1005)), (0, .ref (A 67)), (1, .int (Int32.ofInt xv)), (2, .int (Int32.ofInt tl)), (3, .int (Int32.ofInt h))]) rfl (by decide) (List.Mem.tail _ (List.Mem.tail _ (List.Mem.tail _ (List.Mem.tail _ (List.Mem.tail _ (List.Mem.head _)))))) (fun _ h => h) (z_goto X (t := 41) rfl rfl (WS_pq [2, 3, 4, 5, 0] (lv' := [(0, .ref (A 67)), (1, .int (Int32.ofInt xv)), (2, .int (Int32.ofInt tl)), (3, .int (Int32.ofInt h)), (4, .int (Int32.ofInt (g + 1)))]) rfl ?_))
            exact ih _ xv tl h (g + 1) I F (spq_n hq (by first | (clear g1009 g1006; omega) | (clear g1006; omega) | omega) (by first | (clear g1009 g1006; omega) | (clear g1006; omega) | omega) hbs (Or.inr ⟨by first | (clear g1009 g1006; omega) | (clear g1006; omega) | omega, by first | (clear g1009 g1006; omega) | (clear g1006; omega) | omega, Or.inl (by first | (clear g1009 g1006; omega) | (clear g1006; omega) | omega)⟩)) (by first | exact ⟨And.intro (hi.1.1) (And.intro (hi.1.2.1) (hi.1.2.2)), And.intro (hi.2.1.1) (hi.2.1.2), And.intro (hi.2.2.1.1) (hi.2.2.1.2), oq_54f49eb5 hi.2.2.2.1, oq_5bf54478 g1001⟩ | omega) (by first | exact qk_me hm (by decide) (oq_2265a080 g1001) | omega) kx
          ·
            refine z_aload_n X (x := A 67) rfl (List.Mem.tail _ (List.Mem.head _)) (z_load X (x := e1005) rfl (List.Mem.head _) (z_callV X 67 (rm := rmN 88) (As := [.int (Int32.ofInt e1005)]) (st := []) rfl rfl (by decide) rfl (by rw [E.1, E.2.1, E.2.2.1]; exact c8_isShut2 G I (by first | exact ⟨oq_7a1025bf g1006 hps1004.2.1, hps1004.2.2⟩ | omega)) ⟨by rw [E.2.2.2]; exact (show (rmN 88).frames + 1 ≤ (rmN 94).frames by decide), by rw [E.2.2.2]; exact (show 8 + (mNL (miB 88) + 11) + (rmN 88).locals ≤ (rmN 94).locals by decide), by rw [E.2.2.2]; exact (show 0 + (rmN 88).cells ≤ (rmN 94).cells by decide), by rw [E.2.2.2]; exact (show 0 + (rmN 88).slots ≤ (rmN 94).slots by decide)⟩ (Nat.le_of_ble_eq_true rfl) (fun vv s1010 hq => ?_) (fun ee s1010 hq => ?_)))
            rotate_left
            · obtain ⟨rfl, e1011, hv, hrs1010, hps1010⟩ := hq; cases hv
            obtain ⟨rfl, e1011, hv, hrs1010, hps1010⟩ := hq
            cases hv
            show WS k 84 [(5, .int (Int32.ofInt e1005)), (0, .ref (A 67)), (1, .int (Int32.ofInt xv)), (2, .int (Int32.ofInt tl)), (3, .int (Int32.ofInt h)), (4, .int (Int32.ofInt g))] [.int (Int32.ofInt e1011)] (Wd A dT t) 0 0
            refine z_if_ne X (t := 125) rfl rfl hrs1010 (fun g1012 => ?_) (fun g1012 => ?_)
            ·
              refine z_inc X (x := g) (lv' := [(4, .int (Int32.ofInt (g + 1))), (5, .int (Int32.ofInt e1005)), (0, .ref (A 67)), (1, .int (Int32.ofInt xv)), (2, .int (Int32.ofInt tl)), (3, .int (Int32.ofInt h))]) rfl (by decide) (List.Mem.tail _ (List.Mem.tail _ (List.Mem.tail _ (List.Mem.tail _ (List.Mem.tail _ (List.Mem.head _)))))) (fun _ h => h) (z_goto X (t := 41) rfl rfl (WS_pq [2, 3, 4, 5, 0] (lv' := [(0, .ref (A 67)), (1, .int (Int32.ofInt xv)), (2, .int (Int32.ofInt tl)), (3, .int (Int32.ofInt h)), (4, .int (Int32.ofInt (g + 1)))]) rfl ?_))
              exact ih _ xv tl h (g + 1) I F (spq_n hq (by first | (clear g1012 hps1010 g1006; omega) | (clear hps1010 g1006; omega) | omega) (by first | (clear g1012 hps1010 g1006; omega) | (clear hps1010 g1006; omega) | omega) hbs (Or.inr ⟨by first | (clear g1012 hps1010 g1006; omega) | (clear hps1010 g1006; omega) | omega, by first | (clear g1012 hps1010 g1006; omega) | (clear hps1010 g1006; omega) | omega, Or.inr (Or.inl ⟨by first | (clear g1012 hps1010 g1006; omega) | (clear hps1010 g1006; omega) | omega, (hps1010).elim (fun z => (sb_s (sbs_fm F (by decide) : SBS s t) e1005).mp z.2) (fun z => absurd z.1 (by first | (clear g1012 hps1010 g1006; omega) | (clear hps1010 g1006; omega) | omega))⟩)⟩)) (by first | exact ⟨And.intro (hi.1.1) (And.intro (hi.1.2.1) (hi.1.2.2)), And.intro (hi.2.1.1) (hi.2.1.2), And.intro (hi.2.2.1.1) (hi.2.2.1.2), oq_54f49eb5 hi.2.2.2.1, oq_5bf54478 g1001⟩ | omega) (by first | exact qk_me hm (by decide) (oq_2265a080 g1001) | omega) kx
            ·
              have hnS : ¬ stS s e1005 := fun w => (hps1010).elim (fun z => absurd z.1 (by first | (clear hps1010 g1006; omega) | (clear g1006; omega) | omega)) (fun z => z.2 ((sb_s (sbs_fm F (by decide) : SBS s t) e1005).mpr w.2))
              refine z_load_n X (x := tl) rfl (List.Mem.tail _ (List.Mem.tail _ (List.Mem.tail _ (List.Mem.head _)))) (z_sipush X rfl (z_icmp_ge X (t := 125) rfl rfl ⟨by first | exact oq_9462313e hi.2.1.1 | omega, by first | exact oq_4ee82282 hi.2.1.2 | omega⟩ (by decide) (fun g1013 => ?_) (fun g1013 => ?_)))
              ·
                refine z_inc X (x := g) (lv' := [(4, .int (Int32.ofInt (g + 1))), (5, .int (Int32.ofInt e1005)), (0, .ref (A 67)), (1, .int (Int32.ofInt xv)), (2, .int (Int32.ofInt tl)), (3, .int (Int32.ofInt h))]) rfl (by decide) (List.Mem.tail _ (List.Mem.tail _ (List.Mem.tail _ (List.Mem.tail _ (List.Mem.tail _ (List.Mem.head _)))))) (fun _ h => h) (z_goto X (t := 41) rfl rfl (WS_pq [2, 3, 4, 5, 0] (lv' := [(0, .ref (A 67)), (1, .int (Int32.ofInt xv)), (2, .int (Int32.ofInt tl)), (3, .int (Int32.ofInt h)), (4, .int (Int32.ofInt (g + 1)))]) rfl ?_))
                exact ih _ xv tl h (g + 1) I F (spq_n hq (by first | (clear hps1010 g1006; omega) | (clear g1006; omega) | omega) (by first | (clear hps1010 g1006; omega) | (clear g1006; omega) | omega) hbs (Or.inr ⟨by first | (clear hps1010 g1006; omega) | (clear g1006; omega) | omega, by first | (clear hps1010 g1006; omega) | (clear g1006; omega) | omega, Or.inr (Or.inr (by first | (clear hps1010 g1006; omega) | (clear g1006; omega) | omega))⟩)) (by first | exact ⟨And.intro (hi.1.1) (And.intro (hi.1.2.1) (hi.1.2.2)), And.intro (hi.2.1.1) (hi.2.1.2), And.intro (hi.2.2.1.1) (hi.2.2.1.2), oq_54f49eb5 hi.2.2.2.1, oq_5bf54478 g1001⟩ | omega) (by first | exact qk_me hm (by decide) (oq_2265a080 g1001) | omega) kx
              ·
                refine z_aload_n X (x := A 67) rfl (List.Mem.tail _ (List.Mem.head _)) (s_getR X 67 rfl (c518_ok rfl) rfl rfl (z_load X (x := e1005) rfl (List.Mem.head _) (z_aload_n X (x := A 67) rfl (List.Mem.tail _ (List.Mem.head _)) (s_getR X 67 rfl (c518_ok rfl) rfl rfl (z_aload_n X (x := A 67) rfl (List.Mem.tail _ (List.Mem.head _)) (s_getR X 67 rfl (c518_ok rfl) rfl rfl (z_load_n X (x := h) rfl (List.Mem.tail _ (List.Mem.tail _ (List.Mem.tail _ (List.Mem.tail _ (List.Mem.head _))))) (z_ald X 91 rfl (c518_ok rfl) rfl (by first | exact hi.2.2.1.1 | omega) (show h < 128 by first | exact oq_470daf75 hi.2.2.1.2 g1013 | omega) (cbig_ok rfl) ?_))))))))
                have b1014 := bc_78 I (show (h).toNat < 128 by first | exact oq_ab4b2f96 hi.2.2.1.2 g1013 | omega)
                have ar1015 : iC t 78 (h).toNat = iC t 78 (h).toNat := (sam_rf (a := 78) (s := t)) _
                refine z_ald X 90 rfl (c518_ok rfl) rfl (by first | exact b1014.1 | omega) (show (iC t 78 (h).toNat) < 128 by first | exact oq_31b2bf10 b1014.2 | omega) (cbig_ok rfl) ?_
                have b1016 := bc_77 I (show ((iC t 78 (h).toNat)).toNat < 128 by first | exact oq_c7f4e9c1 b1014.2 | omega)
                have ar1017 : iC t 77 ((iC t 78 (h).toNat)).toNat = iC t 77 ((iC t 78 (h).toNat)).toNat := (sam_rf (a := 77) (s := t)) _
                refine z_const X rfl (z_add X rfl (z_ast X 90 rfl (c518_ok rfl) rfl (by first | exact oq_7a1025bf g1006 hps1004.2.1 | omega) (show e1005 < 128 by first | exact oq_31b2bf10 hps1004.2.2 | omega) (cbig_ok rfl) (wd_gen (fun s1018 hs1018 => ?_))))
                have Is1018 : Bd s1018 := eqB hs1018 (bd_C I (show ((-2147483648) : Int) ≤ ((iC t 77 ((iC t 78 (h).toNat)).toNat) + 1) ∧ ((iC t 77 ((iC t 78 (h).toNat)).toNat) + 1) ≤ 2147483647 by first | exact ⟨oq_14afcb3e b1016.1, by first | (clear hps1010 g1006; omega) | (clear g1006; omega) | omega⟩ | omega) ⟨by first | exact oq_14afcb3e b1016.1 | omega, by first | (clear hps1010 g1006; omega) | (clear g1006; omega) | omega⟩)
                have Fs1018 := eqF hs1018 (fm_C F (inl_ok (a := 77) rfl))
                have aws1018_77 : UPD 77 (e1005) ((iC t 77 ((iC t 78 (h).toNat)).toNat) + 1) t s1018 := by rw [hs1018]; exact upd_put (sam_rf (a := 77) (s := t)) ⟨by first | exact oq_14afcb3e b1016.1 | omega, by first | (clear hps1010 g1006; omega) | (clear g1006; omega) | omega⟩
                have aws1018_78 : SAM 78 t s1018 := by rw [hs1018]; exact sam_C (by decide) (sam_rf (a := 78) (s := t))
                refine z_aload_n X (x := A 67) rfl (List.Mem.tail _ (List.Mem.head _)) (s_getR X 67 rfl (c518_ok rfl) rfl rfl (z_load_n X (x := tl) rfl (List.Mem.tail _ (List.Mem.tail _ (List.Mem.tail _ (List.Mem.head _)))) (z_load X (x := e1005) rfl (List.Mem.head _) (z_ast X 91 rfl (c518_ok rfl) rfl (by first | exact oq_2a6e3b50 hi.2.1.1 | omega) (show tl < 128 by first | exact g1013 | omega) (cbig_ok rfl) (wd_gen (fun s1019 hs1019 => ?_))))))
                have Is1019 : Bd s1019 := eqB hs1019 (bd_C Is1018 (show (0 : Int) ≤ e1005 ∧ e1005 ≤ 127 by first | exact ⟨oq_7a1025bf g1006 hps1004.2.1, hps1004.2.2⟩ | omega) hrs1004)
                have Fs1019 := eqF hs1019 (fm_C Fs1018 (inl_ok (a := 78) rfl))
                have aws1019_77 : UPD 77 (e1005) ((iC t 77 ((iC t 78 (h).toNat)).toNat) + 1) t s1019 := by rw [hs1019]; exact upd_C (by decide) aws1018_77
                have aws1019_78 : UPD 78 (tl) e1005 t s1019 := by rw [hs1019]; exact upd_put aws1018_78 hrs1004
                refine z_inc X (x := tl) (lv' := [(2, .int (Int32.ofInt (tl + 1))), (5, .int (Int32.ofInt e1005)), (0, .ref (A 67)), (1, .int (Int32.ofInt xv)), (3, .int (Int32.ofInt h)), (4, .int (Int32.ofInt g))]) rfl (by decide) (List.Mem.tail _ (List.Mem.tail _ (List.Mem.tail _ (List.Mem.head _)))) (fun _ h => h) (z_inc X (x := g) (lv' := [(4, .int (Int32.ofInt (g + 1))), (2, .int (Int32.ofInt (tl + 1))), (5, .int (Int32.ofInt e1005)), (0, .ref (A 67)), (1, .int (Int32.ofInt xv)), (3, .int (Int32.ofInt h))]) rfl (by decide) (List.Mem.tail _ (List.Mem.tail _ (List.Mem.tail _ (List.Mem.tail _ (List.Mem.tail _ (List.Mem.head _)))))) (fun _ h => h) (z_goto X (t := 41) rfl rfl (WS_pq [3, 4, 1, 5, 0] (lv' := [(0, .ref (A 67)), (1, .int (Int32.ofInt xv)), (2, .int (Int32.ofInt (tl + 1))), (3, .int (Int32.ofInt h)), (4, .int (Int32.ofInt (g + 1)))]) rfl ?_)))
                exact ih _ xv (tl + 1) h (g + 1) Is1019 Fs1019 (spq_y hq (by first | (clear hps1010 g1006; omega) | (clear g1006; omega) | omega) (by first | (clear hps1010 g1006; omega) | (clear g1006; omega) | omega) hbs (by first | (clear hps1010 g1006; omega) | (clear g1006; omega) | omega) (by first | (clear hps1010 g1006; omega) | (clear g1006; omega) | omega) hnS (by first | (clear hps1010 g1006; omega) | (clear g1006; omega) | omega) (by first | (clear hps1010 g1006; omega) | (clear g1006; omega) | omega) rfl aws1019_77 aws1019_78) (by first | exact ⟨And.intro (hi.1.1) (And.intro (hi.1.2.1) (hi.1.2.2)), And.intro (oq_1e1a2df6 hi.2.1.1) (oq_d2afb425 g1013), And.intro (hi.2.2.1.1) (oq_d130ae0d hi.2.2.1.2), oq_54f49eb5 hi.2.2.2.1, oq_5bf54478 g1001⟩ | omega) (by first | exact qk_me hm (by decide) (oq_2265a080 g1001) | omega) kx
  have L26 : ∀ (n : Nat) (t : PS) (xv tl h : Int), Bd t → Fm [] [77, 78] s t → (SPQ (stS s) x h 0 tl t) → ((xv = x ∧ 0 ≤ x ∧ x ≤ 127) ∧ (1 ≤ tl ∧ tl ≤ 128) ∧ (0 ≤ h ∧ h ≤ 128)) → (128 - h : Int).toNat < n → (∀ (t' : PS) (tl' h' : Int), Bd t' → Fm [] [77, 78] s t' → (SPQ (stS s) x h' 0 tl' t') → (0 ≤ h' ∧ tl' ≤ h') → WS k 137 [(0, .ref (A 67)), (1, .int (Int32.ofInt xv)), (2, .int (Int32.ofInt tl')), (3, .int (Int32.ofInt h'))] [] (Wd A dT t') 0 0) → WS k 26 [(0, .ref (A 67)), (1, .int (Int32.ofInt xv)), (2, .int (Int32.ofInt tl)), (3, .int (Int32.ofInt h))] [] (Wd A dT t) 0 0 := by
    intro n
    induction n with
    | zero =>
      intro t xv tl h I F hq hi hm kx
      exact absurd hm (Nat.not_lt_zero _)
    | succ n ih =>
      intro t xv tl h I F hq hi hm kx
      refine z_load_n X (x := h) rfl (List.Mem.tail _ (List.Mem.tail _ (List.Mem.tail _ (List.Mem.head _)))) (z_load_n X (x := tl) rfl (List.Mem.tail _ (List.Mem.tail _ (List.Mem.head _))) (z_icmp_ge X (t := 137) rfl rfl ⟨by first | exact oq_fa4e5087 hi.2.2.1 | omega, by first | exact oq_4ee82282 hi.2.2.2 | omega⟩ ⟨by first | exact oq_9462313e hi.2.1.1 | omega, by first | exact oq_4ee82282 hi.2.1.2 | omega⟩ (fun g2001 => ?_) (fun g2001 => ?_)))
      ·
        refine WS_pq [0, 1, 2, 3] (lv' := [(0, .ref (A 67)), (1, .int (Int32.ofInt xv)), (2, .int (Int32.ofInt tl)), (3, .int (Int32.ofInt h))]) rfl ?_
        exact kx _ tl h I F hq (by first | exact ⟨hi.2.2.1, g2001⟩ | omega)
      ·
        refine z_load_n X (x := h) rfl (List.Mem.tail _ (List.Mem.tail _ (List.Mem.tail _ (List.Mem.head _)))) (z_sipush X rfl (z_icmp_ge X (t := 137) rfl rfl ⟨by first | exact oq_fa4e5087 hi.2.2.1 | omega, by first | exact oq_4ee82282 hi.2.2.2 | omega⟩ (by decide) (fun g2002 => ?_) (fun g2002 => ?_)))
        ·
          refine WS_pq [0, 1, 2, 3] (lv' := [(0, .ref (A 67)), (1, .int (Int32.ofInt xv)), (2, .int (Int32.ofInt tl)), (3, .int (Int32.ofInt h))]) rfl ?_
          exact kx _ tl h I F hq (by first | exact ⟨hi.2.2.1, oq_09968445 hi.2.1.2 g2002⟩ | omega)
        ·
          refine z_const X rfl (z_store X (lv' := [(4, .int (Int32.ofInt 0)), (0, .ref (A 67)), (1, .int (Int32.ofInt xv)), (2, .int (Int32.ofInt tl)), (3, .int (Int32.ofInt h))]) rfl (by decide) (fun _ h => h) (WS_pq [1, 2, 3, 4, 0] (lv' := [(0, .ref (A 67)), (1, .int (Int32.ofInt xv)), (2, .int (Int32.ofInt tl)), (3, .int (Int32.ofInt h)), (4, .int (Int32.ofInt 0))]) rfl (L41 ((6 - 0 : Int).toNat + 1) t xv tl h 0 I F hq (by first | exact ⟨And.intro (hi.1.1) (And.intro (hi.1.2.1) (hi.1.2.2)), And.intro (hi.2.1.1) (hi.2.1.2), And.intro (hi.2.2.1) (g2001), by decide, by decide⟩ | omega) (Nat.lt_succ_self _) ?_)))
          intro s2003 x2004 x2005 Is2003 Fs2003 Qs2003 hs2003
          refine z_inc X (x := h) (lv' := [(3, .int (Int32.ofInt (h + 1))), (0, .ref (A 67)), (1, .int (Int32.ofInt xv)), (2, .int (Int32.ofInt x2004)), (4, .int (Int32.ofInt x2005))]) rfl (by decide) (List.Mem.tail _ (List.Mem.tail _ (List.Mem.tail _ (List.Mem.head _)))) (fun _ h => h) (z_goto X (t := 26) rfl rfl (WS_pq [1, 2, 3, 0] (lv' := [(0, .ref (A 67)), (1, .int (Int32.ofInt xv)), (2, .int (Int32.ofInt x2004)), (3, .int (Int32.ofInt (h + 1)))]) rfl ?_))
          exact ih _ xv x2004 (h + 1) Is2003 Fs2003 (spq_nx (m := tl) (by have z := Qs2003; rw [show x2005 = 6 by omega] at z; exact z) (by omega) hq.1.2.2 (by omega)) (by first | exact ⟨And.intro (hs2003.1.1) (And.intro (hs2003.1.2.1) (hs2003.1.2.2)), And.intro (hs2003.2.1.1) (hs2003.2.1.2), oq_54f49eb5 hs2003.2.2.1.1, oq_d2afb425 g2002⟩ | omega) (by first | exact qk_me hm (by decide) (oq_c268b7bd g2002) | omega) kx
  refine z_aload_n X (x := A 67) rfl (List.Mem.head _) (s_getR X 67 rfl (c518_ok rfl) rfl rfl (z_const X rfl (zcS_v0 X E (As := [.ref (A 90), .int (Int32.ofInt (-1))]) (st := []) rfl rfl (j_fill9f G I (by first | exact ⟨by decide, by decide⟩ | omega)) rfl (Nat.le_of_ble_eq_true rfl) (fun s1 Is1 Fs1 hps1 => ?_))))
  have Gs1 := fm_tq F Fs1 rfl rfl
  refine z_aload_n X (x := A 67) rfl (List.Mem.head _) (s_getR X 67 rfl (c518_ok rfl) rfl rfl (z_load_n X (x := x) rfl (List.Mem.tail _ (List.Mem.head _)) (z_const X rfl (z_ast X 90 rfl (c518_ok rfl) rfl (by first | exact p0.1 | omega) (show x < 128 by first | exact oq_31b2bf10 p0.2 | omega) (cbig_ok rfl) (wd_gen (fun s3 hs3 => ?_))))))
  have Is3 : Bd s3 := eqB hs3 (bd_C Is1 (show ((-2147483648) : Int) ≤ 0 ∧ 0 ≤ 2147483647 by first | exact ⟨by decide, by decide⟩ | omega) (by decide))
  have Fs3 := eqF hs3 (fm_C Gs1 (inl_ok (a := 77) rfl))
  have aws3_77 : UPD 77 (x) 0 s1 s3 := by rw [hs3]; exact upd_put (sam_rf (a := 77) (s := s1)) (by decide)
  have aws3_78 : SAM 78 s1 s3 := by rw [hs3]; exact sam_C (by decide) (sam_rf (a := 78) (s := s1))
  refine z_aload_n X (x := A 67) rfl (List.Mem.head _) (s_getR X 67 rfl (c518_ok rfl) rfl rfl (z_const X rfl (z_load_n X (x := x) rfl (List.Mem.tail _ (List.Mem.head _)) (z_ast X 91 rfl (c518_ok rfl) rfl (by decide) (show 0 < 128 by decide) (cbig_ok rfl) (wd_gen (fun s4 hs4 => ?_))))))
  have Is4 : Bd s4 := eqB hs4 (bd_C Is3 (show (0 : Int) ≤ x ∧ x ≤ 127 by first | exact ⟨p0.1, p0.2⟩ | omega) ⟨by first | exact oq_fa4e5087 p0.1 | omega, by first | exact oq_07d346ce p0.2 | omega⟩)
  have Fs4 := eqF hs4 (fm_C Fs3 (inl_ok (a := 78) rfl))
  have aws4_77 : UPD 77 (x) 0 s1 s4 := by rw [hs4]; exact upd_C (by decide) aws3_77
  have aws4_78 : UPD 78 (0 : Int) x s1 s4 := by rw [hs4]; exact upd_put aws3_78 ⟨by first | exact oq_fa4e5087 p0.1 | omega, by first | exact oq_07d346ce p0.2 | omega⟩
  refine z_const X rfl (z_store_n X (lv' := [(2, .int (Int32.ofInt 1)), (0, .ref (A 67)), (1, .int (Int32.ofInt x))]) rfl (by decide) (fun _ h => h) (z_const X rfl (z_store_n X (lv' := [(3, .int (Int32.ofInt 0)), (2, .int (Int32.ofInt 1)), (0, .ref (A 67)), (1, .int (Int32.ofInt x))]) rfl (by decide) (fun _ h => h) (WS_pq [2, 3, 1, 0] (lv' := [(0, .ref (A 67)), (1, .int (Int32.ofInt x)), (2, .int (Int32.ofInt 1)), (3, .int (Int32.ofInt 0))]) rfl (L26 ((128 - 0 : Int).toNat + 1) s4 x 1 0 Is4 Fs4 (spq_0 (by first | (clear hps1; omega) | omega) p1 (fun c hc => hps1 c hc) aws4_77 (aws4_78).1) (by first | exact ⟨And.intro (by decide) (And.intro (p0.1) (p0.2)), And.intro (by decide) (by decide), by decide, by decide⟩ | omega) (Nat.lt_succ_self _) ?_)))))
  intro s5 x6 x7 Is5 Fs5 Qs5 hs5
  exact w_vret X.1 q hRt (ax_d X (show cdA 94 137 = some (.return_, 1, 0, 0, 0) from rfl)) (Nat.zero_le _) (Nat.zero_le _) ⟨_, rfl, Is5, Fs5, rfl, (fre_of Qs5 (by first | (clear hps1; omega) | omega) (by first | (clear hps1; omega) | omega))⟩
set_option maxRecDepth 4000 in
theorem c8_nearer9 (G : GX l s0 D tys a0 dT) (GR : RS0 s0) (I : Bd s) {x : Int} (p0 : 0 ≤ x ∧ x ≤ 127) (p1 : ∃ e : Int, adjT x e ∧ (fun c => iC s 77 c) e.toNat = (fun c => iC s 77 c) (x : Int).toNat - 1) : CT l s0 D A dT 95 (rmN 95) [.ref (A 67), .int (Int32.ofInt x)] s (fun o t => Bd t ∧ Fm [] [] s t ∧ ∃ e, o = .inl (some (.int (Int32.ofInt e))) ∧ rng e ∧ (NRP (fun c => iC s 77 c) x e ∧ 0 ≤ e ∧ e ≤ 127)) := by
  refine ct_ofX G (by decide) (Nat.le_of_ble_eq_true rfl) (fun k X E ET hRt hXt q => ?_)
  show WS k 0 [(0, .ref (A 67)), (1, .int (Int32.ofInt x))] [] _ 0 0
  have F : Fm [] [] s s := fm_rf _ _ s
  have hfx : -2147483647 ≤ iC s 77 (x : Int).toNat := by obtain ⟨e, _, e2⟩ := p1; replace e2 : iC s 77 e.toNat = iC s 77 (x : Int).toNat - 1 := e2; have r : rng (iC s 77 e.toNat) := rng_to _; unfold rng at r; omega
  obtain ⟨q1, hZ1, hT1⟩ := GR
  rw [← E.2.1] at hZ1 hT1
  have L10 : ∀ (n : Nat) (t : PS) (xv ln c : Int), Bd t → Fm [] [] s t → (NRN (fun c => iC s 77 c) x c) → ((xv = x ∧ 0 ≤ x ∧ x ≤ 127) ∧ ln = 6 ∧ 0 ≤ c ∧ c ≤ 6) → (6 - c : Int).toNat < n → (∀ (t' : PS) (c' : Int), Bd t' → Fm [] [] s t' → (NRN (fun c => iC s 77 c) x c') → ((xv = x ∧ 0 ≤ x ∧ x ≤ 127) ∧ c' = 6) → WS k 63 [(0, .ref (A 67)), (2, .ref q1), (1, .int (Int32.ofInt xv)), (3, .int (Int32.ofInt ln)), (4, .int (Int32.ofInt c'))] [] (Wd A dT t') 0 0) → WS k 10 [(0, .ref (A 67)), (2, .ref q1), (1, .int (Int32.ofInt xv)), (3, .int (Int32.ofInt ln)), (4, .int (Int32.ofInt c))] [] (Wd A dT t) 0 0 := by
    intro n
    induction n with
    | zero =>
      intro t xv ln c I F hq hi hm kx
      exact absurd hm (Nat.not_lt_zero _)
    | succ n ih =>
      intro t xv ln c I F hq hi hm kx
      refine z_load X (x := c) rfl (List.Mem.tail _ (List.Mem.tail _ (List.Mem.tail _ (List.Mem.tail _ (List.Mem.head _))))) (z_load_n X (x := ln) rfl (List.Mem.tail _ (List.Mem.tail _ (List.Mem.tail _ (List.Mem.head _)))) (z_icmp_ge X (t := 63) rfl rfl ⟨by first | exact oq_fa4e5087 hi.2.2.1 | omega, by first | exact oq_b301c3bf hi.2.2.2 | omega⟩ ⟨by first | exact oq_8ee220ae hi.2.1 | omega, by first | exact oq_74760936 hi.2.1 | omega⟩ (fun g1001 => ?_) (fun g1001 => ?_)))
      ·
        refine WS_pq [0, 1, 2, 3, 4] (lv' := [(0, .ref (A 67)), (2, .ref q1), (1, .int (Int32.ofInt xv)), (3, .int (Int32.ofInt ln)), (4, .int (Int32.ofInt c))]) rfl ?_
        exact kx _ c I F hq (by first | exact ⟨And.intro (hi.1.1) (And.intro (hi.1.2.1) (hi.1.2.2)), oq_136d8cda hi.2.2.2 g1001 hi.2.1⟩ | omega)
      ·
        refine z_aload_n X (x := q1) rfl (List.Mem.tail _ (List.Mem.head _)) (z_load X (x := c) rfl (List.Mem.tail _ (List.Mem.tail _ (List.Mem.tail _ (List.Mem.tail _ (List.Mem.head _))))) (z_raldE X rfl hT1 (by omega) (show c < 6 by omega) (fun e1002 he1002 => ?_)))
        have hrr := ris_r (i := c)
        have br1003 : 0 ≤ e1002 ∧ e1002 ≤ 5 := by rw [he1002]; exact hrr
        refine z_store X (lv' := [(5, .int (Int32.ofInt e1002)), (0, .ref (A 67)), (2, .ref q1), (1, .int (Int32.ofInt xv)), (3, .int (Int32.ofInt ln)), (4, .int (Int32.ofInt c))]) rfl (by decide) (fun _ h => h) (z_load_n X (x := xv) rfl (List.Mem.tail _ (List.Mem.tail _ (List.Mem.tail _ (List.Mem.head _)))) (z_load X (x := e1002) rfl (List.Mem.head _) (z_callS X (rm := rmN 100) (As := [.int (Int32.ofInt xv), .int (Int32.ofInt e1002)]) (st := []) rfl rfl (by rw [E.1, E.2.1, E.2.2.1]; exact c9_stepFrom2 G I (by first | exact ⟨oq_e4757433 hi.1.1 hi.1.2.1, oq_e4fbac31 hi.1.1 hi.1.2.2⟩ | omega) (by first | exact ⟨br1003.1, br1003.2⟩ | omega)) ⟨by rw [E.2.2.2]; exact (show (rmN 100).frames + 1 ≤ (rmN 95).frames by decide), by rw [E.2.2.2]; exact (show 8 + (mNL (miB 100) + 11) + (rmN 100).locals ≤ (rmN 95).locals by decide), by rw [E.2.2.2]; exact (show 0 + (rmN 100).cells ≤ (rmN 95).cells by decide), by rw [E.2.2.2]; exact (show 0 + (rmN 100).slots ≤ (rmN 95).slots by decide)⟩ (Nat.le_of_ble_eq_true rfl) (fun vv s1004 hq => ?_) (fun ee s1004 hq => ?_))))
        rotate_left
        · obtain ⟨rfl, e1005, hv, hrs1004, hps1004⟩ := hq; cases hv
        obtain ⟨rfl, e1005, hv, hrs1004, hps1004⟩ := hq
        cases hv
        show WS k 28 [(5, .int (Int32.ofInt e1002)), (0, .ref (A 67)), (2, .ref q1), (1, .int (Int32.ofInt xv)), (3, .int (Int32.ofInt ln)), (4, .int (Int32.ofInt c))] [.int (Int32.ofInt e1005)] (Wd A dT t) 0 0
        refine z_store X (lv' := [(6, .int (Int32.ofInt e1005)), (5, .int (Int32.ofInt e1002)), (0, .ref (A 67)), (2, .ref q1), (1, .int (Int32.ofInt xv)), (3, .int (Int32.ofInt ln)), (4, .int (Int32.ofInt c))]) rfl (by decide) (fun _ h => h) ?_
        have hbs : e1005 = besT x (risF c) := by have z := hps1004.1; rw [show xv = x by omega, he1002] at z; exact z
        refine z_load X (x := e1005) rfl (List.Mem.head _) (z_const X rfl (z_icmp_eq X (t := 57) rfl rfl hrs1004 (by decide) (fun g1006 => ?_) (fun g1006 => ?_)))
        ·
          refine z_inc X (x := c) (lv' := [(4, .int (Int32.ofInt (c + 1))), (6, .int (Int32.ofInt e1005)), (5, .int (Int32.ofInt e1002)), (0, .ref (A 67)), (2, .ref q1), (1, .int (Int32.ofInt xv)), (3, .int (Int32.ofInt ln))]) rfl (by decide) (List.Mem.tail _ (List.Mem.tail _ (List.Mem.tail _ (List.Mem.tail _ (List.Mem.tail _ (List.Mem.tail _ (List.Mem.head _))))))) (fun _ h => h) (z_goto X (t := 10) rfl rfl (WS_pq [3, 4, 5, 6, 0] (lv' := [(0, .ref (A 67)), (2, .ref q1), (1, .int (Int32.ofInt xv)), (3, .int (Int32.ofInt ln)), (4, .int (Int32.ofInt (c + 1)))]) rfl ?_))
          exact ih _ xv ln (c + 1) I F (nrn_up hq hbs (Or.inl (by omega))) (by first | exact ⟨And.intro (hi.1.1) (And.intro (hi.1.2.1) (hi.1.2.2)), hi.2.1, oq_54f49eb5 hi.2.2.1, oq_1b4f739f g1001 hi.2.1⟩ | omega) (by first | exact qk_me hm (by decide) (oq_cdf22f39 g1001 hi.2.1) | omega) kx
        ·
          have hft : ∀ j, iC t 77 j = iC s 77 j := fun j => fm_c F List.not_mem_nil
          have hf1 := hft (e1005 : Int).toNat
          have hf2 := hft (xv : Int).toNat
          have hf3 : iC s 77 (xv : Int).toNat = iC s 77 (x : Int).toNat := by rw [show xv = x by first | (clear g1006; omega) | omega]
          refine z_aload_n X (x := A 67) rfl (List.Mem.tail _ (List.Mem.tail _ (List.Mem.head _))) (s_getR X 67 rfl (c518_ok rfl) rfl rfl (z_load X (x := e1005) rfl (List.Mem.head _) (z_ald X 90 rfl (c518_ok rfl) rfl (by first | exact oq_7a1025bf g1006 hps1004.2.1 | omega) (show e1005 < 128 by first | exact oq_31b2bf10 hps1004.2.2 | omega) (cbig_ok rfl) ?_)))
          have b1007 := bc_77 I (show (e1005).toNat < 128 by first | exact oq_c7f4e9c1 hps1004.2.2 | omega)
          refine z_aload_n X (x := A 67) rfl (List.Mem.tail _ (List.Mem.tail _ (List.Mem.head _))) (s_getR X 67 rfl (c518_ok rfl) rfl rfl (z_load_n X (x := xv) rfl (List.Mem.tail _ (List.Mem.tail _ (List.Mem.tail _ (List.Mem.tail _ (List.Mem.head _))))) (z_ald X 90 rfl (c518_ok rfl) rfl (by first | exact oq_e4757433 hi.1.1 hi.1.2.1 | omega) (show xv < 128 by first | exact oq_b797517e hi.1.1 hi.1.2.2 | omega) (cbig_ok rfl) ?_)))
          have b1008 := bc_77 I (show (xv).toNat < 128 by first | exact oq_321c4dd9 hi.1.1 hi.1.2.2 | omega)
          refine z_const X rfl (z_sub X rfl (z_icmp_ne X (t := 57) rfl rfl (rng_to _) ⟨by first | (clear g1006; omega) | omega, by first | exact oq_070e7ed6 b1008.2 | omega⟩ (fun g1009 => ?_) (fun g1009 => ?_)))
          ·
            refine z_inc X (x := c) (lv' := [(4, .int (Int32.ofInt (c + 1))), (6, .int (Int32.ofInt e1005)), (5, .int (Int32.ofInt e1002)), (0, .ref (A 67)), (2, .ref q1), (1, .int (Int32.ofInt xv)), (3, .int (Int32.ofInt ln))]) rfl (by decide) (List.Mem.tail _ (List.Mem.tail _ (List.Mem.tail _ (List.Mem.tail _ (List.Mem.tail _ (List.Mem.tail _ (List.Mem.head _))))))) (fun _ h => h) (z_goto X (t := 10) rfl rfl (WS_pq [3, 4, 5, 6, 0] (lv' := [(0, .ref (A 67)), (2, .ref q1), (1, .int (Int32.ofInt xv)), (3, .int (Int32.ofInt ln)), (4, .int (Int32.ofInt (c + 1)))]) rfl ?_))
            exact ih _ xv ln (c + 1) I F (nrn_up hq hbs (Or.inr (by show iC s 77 (e1005 : Int).toNat ≠ iC s 77 (x : Int).toNat - 1; omega))) (by first | exact ⟨And.intro (hi.1.1) (And.intro (hi.1.2.1) (hi.1.2.2)), hi.2.1, oq_54f49eb5 hi.2.2.1, oq_1b4f739f g1001 hi.2.1⟩ | omega) (by first | exact qk_me hm (by decide) (oq_cdf22f39 g1001 hi.2.1) | omega) kx
          ·
            refine z_load X (x := e1005) rfl (List.Mem.head _) ?_
            exact w_iret X.1 q hRt rfl (ax_d X (show cdA 95 56 = some (.ireturn, 1, 0, 0, 0) from rfl)) (Nat.zero_le _) (Nat.zero_le _) ⟨_, rfl, I, F, e1005, rfl, hrs1004, ⟨nrp_of hq (by first | (clear g1006; omega) | omega) hbs (by first | (clear g1006; omega) | omega) (by show iC s 77 (e1005 : Int).toNat = iC s 77 (x : Int).toNat - 1; omega), by first | exact oq_7a1025bf g1006 hps1004.2.1 | omega, by first | exact hps1004.2.2 | omega⟩⟩
  refine z_ris X hZ1 (z_astore_n X (lv' := [(2, .ref q1), (0, .ref (A 67)), (1, .int (Int32.ofInt x))]) rfl (by decide) (fun _ h => h) (z_aload_n X (x := q1) rfl (List.Mem.head _) (z_tlen X rfl hT1 (n := 6) rfl (z_store_n X (lv' := [(3, .int (Int32.ofInt 6)), (2, .ref q1), (0, .ref (A 67)), (1, .int (Int32.ofInt x))]) rfl (by decide) (fun _ h => h) (z_const X rfl (z_store X (lv' := [(4, .int (Int32.ofInt 0)), (3, .int (Int32.ofInt 6)), (2, .ref q1), (0, .ref (A 67)), (1, .int (Int32.ofInt x))]) rfl (by decide) (fun _ h => h) (WS_pq [3, 2, 4, 1, 0] (lv' := [(0, .ref (A 67)), (2, .ref q1), (1, .int (Int32.ofInt x)), (3, .int (Int32.ofInt 6)), (4, .int (Int32.ofInt 0))]) rfl (L10 ((6 - 0 : Int).toNat + 1) s x 6 0 I F nrn_0 (by first | exact ⟨And.intro (by decide) (And.intro (p0.1) (p0.2)), by decide, by decide, by decide⟩ | omega) (Nat.lt_succ_self _) ?_))))))))
  intro s1 x2 Is1 Fs1 Qs1 hs1
  refine z_load_n X (x := x) rfl (List.Mem.tail _ (List.Mem.tail _ (List.Mem.head _))) ?_
  exact w_iret X.1 q hRt rfl (ax_d X (show cdA 95 64 = some (.ireturn, 1, 0, 0, 0) from rfl)) (Nat.zero_le _) (Nat.zero_le _) ⟨_, rfl, Is1, Fs1, x, rfl, ⟨by first | exact oq_fa4e5087 hs1.1.2.1 | omega, by first | exact oq_07d346ce hs1.1.2.2 | omega⟩, (nrn_no (by have z := Qs1; rw [show x2 = 6 by omega] at z; exact z) p1).elim⟩
set_option maxRecDepth 4000 in
theorem c8_findRound9 (G : GX l s0 D tys a0 dT) (GR : RS0 s0) (I : Bd s) {x y : Int} (p0 : 0 ≤ x ∧ x ≤ 127) (p1 : 0 ≤ y ∧ y ≤ 127) : CT l s0 D A dT 93 (rmN 93) [.ref (A 67), .int (Int32.ofInt x), .int (Int32.ofInt y)] s (fun o t => Bd t ∧ Fm [] [77, 78, 79] s t ∧ ∃ e, o = .inl (some (.int (Int32.ofInt e))) ∧ rng e ∧ ((0 ≤ e ∧ e ≤ 24) ∧ RNR (stS s) x y e (fun k => iC t 79 k))) := by
  refine ct_ofX G (by decide) (Nat.le_of_ble_eq_true rfl) (fun k X E ET hRt hXt q => ?_)
  show WS k 0 [(0, .ref (A 67)), (1, .int (Int32.ofInt x)), (2, .int (Int32.ofInt y))] [] _ 0 0
  have F : Fm [] [77, 78, 79] s s := fm_rf _ _ s
  have L65 : ∀ (n : Nat) (t : PS) (ln c : Int), Bd t → Fm [] [77, 78, 79] s t → (FRQ (stS s) x y ln c t) → ((1 ≤ ln ∧ ln ≤ 24) ∧ 1 ≤ c ∧ c ≤ ln) → (24 - c : Int).toNat < n → (∀ (t' : PS) (c' : Int), Bd t' → Fm [] [77, 78, 79] s t' → (FRQ (stS s) x y ln c' t') → ((1 ≤ ln ∧ ln ≤ 24) ∧ c' = ln) → WS k 97 [(0, .ref (A 67)), (3, .int (Int32.ofInt ln)), (4, .int (Int32.ofInt c'))] [] (Wd A dT t') 0 0) → WS k 65 [(0, .ref (A 67)), (3, .int (Int32.ofInt ln)), (4, .int (Int32.ofInt c))] [] (Wd A dT t) 0 0 := by
    intro n
    induction n with
    | zero =>
      intro t ln c I F hq hi hm kx
      exact absurd hm (Nat.not_lt_zero _)
    | succ n ih =>
      intro t ln c I F hq hi hm kx
      refine z_load X (x := c) rfl (List.Mem.tail _ (List.Mem.tail _ (List.Mem.head _))) (z_load_n X (x := ln) rfl (List.Mem.tail _ (List.Mem.head _)) (z_icmp_ge X (t := 97) rfl rfl ⟨by first | exact oq_9462313e hi.2.1 | omega, by first | exact oq_403249cf hi.2.2 hi.1.2 | omega⟩ ⟨by first | exact oq_9462313e hi.1.1 | omega, by first | exact oq_5bcd337f hi.1.2 | omega⟩ (fun g1001 => ?_) (fun g1001 => ?_)))
      ·
        refine WS_pq [0, 1, 2] (lv' := [(0, .ref (A 67)), (3, .int (Int32.ofInt ln)), (4, .int (Int32.ofInt c))]) rfl ?_
        exact kx _ c I F hq (by first | exact ⟨And.intro (hi.1.1) (hi.1.2), oq_daa9f991 hi.2.2 g1001⟩ | omega)
      ·
        refine z_aload_n X (x := A 67) rfl (List.Mem.head _) (s_getR X 67 rfl (c518_ok rfl) rfl rfl (z_load X (x := c) rfl (List.Mem.tail _ (List.Mem.tail _ (List.Mem.head _))) (z_aload_n X (x := A 67) rfl (List.Mem.head _) (z_aload_n X (x := A 67) rfl (List.Mem.head _) (s_getR X 67 rfl (c518_ok rfl) rfl rfl (z_load X (x := c) rfl (List.Mem.tail _ (List.Mem.tail _ (List.Mem.head _))) (z_const X rfl (z_sub X rfl (z_ald X 92 rfl (c518_ok rfl) rfl (by first | exact oq_02aa5459 hi.2.1 | omega) (show (c - 1) < 24 by first | exact oq_18c99822 g1001 hi.1.2 | omega) (cbig_ok rfl) ?_)))))))))
        have b1002 := bc_79 I (show ((c - 1)).toNat < 24 by first | exact oq_ff658a24 g1001 hi.1.2 | omega)
        have ar1003 : iC t 79 ((c - 1)).toNat = iC t 79 ((c - 1)).toNat := (sam_rf (a := 79) (s := t)) _
        refine zcV_i0 X E 67 (As := [.int (Int32.ofInt (iC t 79 ((c - 1)).toNat))]) (st := [.int (Int32.ofInt c), .ref (A 92)]) rfl rfl rfl rfl (c8_nearer9 G GR I (by first | exact ⟨b1002.1, b1002.2⟩ | omega) (frq_ex hq (by omega) (by omega))) rfl (Nat.le_of_ble_eq_true rfl) (fun s1004 e1005 Is1004 Fs1004 hrs1004 hps1004 => ?_)
        have Gs1004 := fm_tq F Fs1004 rfl rfl
        have aws1004_77 : SAM 77 t s1004 := sam_ts (sam_rf (a := 77) (s := t)) (sam_fm Fs1004 (by decide))
        have aws1004_79 : SAM 79 t s1004 := sam_ts (sam_rf (a := 79) (s := t)) (sam_fm Fs1004 (by decide))
        refine z_ast X 92 rfl (c518_ok rfl) rfl (by first | exact oq_2a6e3b50 hi.2.1 | omega) (show c < 24 by first | exact oq_8ff7beb9 g1001 hi.1.2 | omega) (cbig_ok rfl) (wd_gen (fun s1006 hs1006 => ?_))
        have Is1006 : Bd s1006 := eqB hs1006 (bd_C Is1004 (show (0 : Int) ≤ e1005 ∧ e1005 ≤ 127 by omega) hrs1004)
        have Fs1006 := eqF hs1006 (fm_C Gs1004 (inl_ok (a := 79) rfl))
        have aws1006_77 : SAM 77 t s1006 := by rw [hs1006]; exact sam_C (by decide) aws1004_77
        have aws1006_79 : UPD 79 (c) e1005 t s1006 := by rw [hs1006]; exact upd_put aws1004_79 hrs1004
        refine z_inc X (x := c) (lv' := [(4, .int (Int32.ofInt (c + 1))), (0, .ref (A 67)), (3, .int (Int32.ofInt ln))]) rfl (by decide) (List.Mem.tail _ (List.Mem.tail _ (List.Mem.head _))) (fun _ h => h) (z_goto X (t := 65) rfl rfl (WS_pq [1, 2, 0] (lv' := [(0, .ref (A 67)), (3, .int (Int32.ofInt ln)), (4, .int (Int32.ofInt (c + 1)))]) rfl ?_))
        exact ih _ ln (c + 1) Is1006 Fs1006 (frq_up hq (by omega) (by omega) hps1004.1 aws1006_77 aws1006_79) (by first | exact ⟨And.intro (hi.1.1) (hi.1.2), oq_1e1a2df6 hi.2.1, oq_afc84a8d g1001⟩ | omega) (by first | exact qk_me hm (by decide) (oq_9dea93e6 g1001 hi.1.2) | omega) kx
  refine z_load_n X (x := x) rfl (List.Mem.tail _ (List.Mem.head _)) (z_const X rfl (z_icmp_eq X (t := 26) rfl rfl ⟨by first | exact oq_fa4e5087 p0.1 | omega, by first | exact oq_07d346ce p0.2 | omega⟩ (by decide) (fun g1 => ?_) (fun g1 => ?_)))
  ·
    exfalso
    omega
  ·
    refine z_load_n X (x := y) rfl (List.Mem.tail _ (List.Mem.tail _ (List.Mem.head _))) (z_const X rfl (z_icmp_eq X (t := 26) rfl rfl ⟨by first | exact oq_fa4e5087 p1.1 | omega, by first | exact oq_07d346ce p1.2 | omega⟩ (by decide) (fun g2 => ?_) (fun g2 => ?_)))
    ·
      exfalso
      omega
    ·
      refine z_aload_n X (x := A 67) rfl (List.Mem.head _) (z_load_n X (x := x) rfl (List.Mem.tail _ (List.Mem.head _)) (z_callV X 67 (rm := rmN 88) (As := [.int (Int32.ofInt x)]) (st := []) rfl rfl (by decide) rfl (by rw [E.1, E.2.1, E.2.2.1]; exact c8_isShut2 G I (by first | exact ⟨p0.1, p0.2⟩ | omega)) ⟨by rw [E.2.2.2]; exact (show (rmN 88).frames + 1 ≤ (rmN 93).frames by decide), by rw [E.2.2.2]; exact (show 8 + (mNL (miB 88) + 11) + (rmN 88).locals ≤ (rmN 93).locals by decide), by rw [E.2.2.2]; exact (show 0 + (rmN 88).cells ≤ (rmN 93).cells by decide), by rw [E.2.2.2]; exact (show 0 + (rmN 88).slots ≤ (rmN 93).slots by decide)⟩ (Nat.le_of_ble_eq_true rfl) (fun vv s3 hq => ?_) (fun ee s3 hq => ?_)))
      rotate_left
      · obtain ⟨rfl, e4, hv, hrs3, hps3⟩ := hq; cases hv
      obtain ⟨rfl, e4, hv, hrs3, hps3⟩ := hq
      cases hv
      show WS k 15 [(0, .ref (A 67)), (1, .int (Int32.ofInt x)), (2, .int (Int32.ofInt y))] [.int (Int32.ofInt e4)] (Wd A dT s) 0 0
      refine z_if_ne X (t := 26) rfl rfl hrs3 (fun g5 => ?_) (fun g5 => ?_)
      ·
        refine z_const X rfl ?_
        exact w_iret X.1 q hRt rfl (ax_d X (show cdA 93 27 = some (.ireturn, 1, 0, 0, 0) from rfl)) (Nat.zero_le _) (Nat.zero_le _) ⟨_, rfl, I, F, 0, rfl, (by decide), ⟨by first | exact ⟨by decide, by decide⟩ | omega, rnr_0 (Or.inl ⟨by first | (clear g5 hps3 g2 g1; omega) | (clear hps3 g2 g1; omega) | omega, (hps3).elim (fun z => z.2) (fun z => absurd z.1 (by first | (clear g5 hps3 g2 g1; omega) | (clear hps3 g2 g1; omega) | omega))⟩)⟩⟩
      ·
        refine z_aload_n X (x := A 67) rfl (List.Mem.head _) (z_load_n X (x := y) rfl (List.Mem.tail _ (List.Mem.tail _ (List.Mem.head _))) (z_callV X 67 (rm := rmN 88) (As := [.int (Int32.ofInt y)]) (st := []) rfl rfl (by decide) rfl (by rw [E.1, E.2.1, E.2.2.1]; exact c8_isShut2 G I (by first | exact ⟨p1.1, p1.2⟩ | omega)) ⟨by rw [E.2.2.2]; exact (show (rmN 88).frames + 1 ≤ (rmN 93).frames by decide), by rw [E.2.2.2]; exact (show 8 + (mNL (miB 88) + 11) + (rmN 88).locals ≤ (rmN 93).locals by decide), by rw [E.2.2.2]; exact (show 0 + (rmN 88).cells ≤ (rmN 93).cells by decide), by rw [E.2.2.2]; exact (show 0 + (rmN 88).slots ≤ (rmN 93).slots by decide)⟩ (Nat.le_of_ble_eq_true rfl) (fun vv s6 hq => ?_) (fun ee s6 hq => ?_)))
        rotate_left
        · obtain ⟨rfl, e7, hv, hrs6, hps6⟩ := hq; cases hv
        obtain ⟨rfl, e7, hv, hrs6, hps6⟩ := hq
        cases hv
        show WS k 23 [(0, .ref (A 67)), (1, .int (Int32.ofInt x)), (2, .int (Int32.ofInt y))] [.int (Int32.ofInt e7)] (Wd A dT s) 0 0
        refine z_if_eq X (t := 28) rfl rfl hrs6 (fun g8 => ?_) (fun g8 => ?_)
        ·
          have hnx : ¬ stS s x := fun w => (hps3).elim (fun z => absurd z.1 (by first | (clear hps6 hps3 g2 g1; omega) | (clear hps3 g2 g1; omega) | omega)) (fun z => z.2 w.2)
          have hny : ¬ stS s y := fun w => (hps6).elim (fun z => absurd z.1 (by first | (clear hps6 hps3 g2 g1; omega) | (clear hps3 g2 g1; omega) | omega)) (fun z => z.2 w.2)
          refine z_aload_n X (x := A 67) rfl (List.Mem.head _) (z_load_n X (x := y) rfl (List.Mem.tail _ (List.Mem.tail _ (List.Mem.head _))) (zcV_v0 X E 67 (As := [.int (Int32.ofInt y)]) (st := []) rfl rfl rfl rfl (c8_spread9 G I (by first | exact ⟨p1.1, p1.2⟩ | omega) (hny)) rfl (Nat.le_of_ble_eq_true rfl) (fun s9 Is9 Fs9 hps9 => ?_)))
          have Gs9 := fm_tq F Fs9 rfl rfl
          have hfr := fre_r hps9 (c := (x : Int).toNat) (by first | (clear hps6 hps3 g2 g1; omega) | (clear hps3 g2 g1; omega) | omega)
          refine z_aload_n X (x := A 67) rfl (List.Mem.head _) (s_getR X 67 rfl (c518_ok rfl) rfl rfl (z_load_n X (x := x) rfl (List.Mem.tail _ (List.Mem.head _)) (z_ald X 90 rfl (c518_ok rfl) rfl (by first | exact p0.1 | omega) (show x < 128 by first | exact oq_31b2bf10 p0.2 | omega) (cbig_ok rfl) ?_)))
          have b11 := bc_77 Is9 (show (x).toNat < 128 by first | exact oq_c7f4e9c1 p0.2 | omega)
          have ar12 : iC s9 77 (x).toNat = iC s9 77 (x).toNat := (sam_rf (a := 77) (s := s9)) _
          refine z_const X rfl (z_add X rfl (z_store_n X (lv' := [(3, .int (Int32.ofInt ((iC s9 77 (x).toNat) + 1))), (0, .ref (A 67)), (1, .int (Int32.ofInt x)), (2, .int (Int32.ofInt y))]) rfl (by decide) (fun _ h => h) (z_load_n X (x := ((iC s9 77 (x).toNat) + 1)) rfl (List.Mem.head _) (z_const X rfl (z_icmp_lt X (t := 53) rfl rfl ⟨by first | exact oq_14afcb3e b11.1 | omega, by first | (clear hps6 hps3 g2 g1; omega) | (clear hps3 g2 g1; omega) | omega⟩ (by decide) (fun g13 => ?_) (fun g13 => ?_))))))
          ·
            refine z_const X rfl ?_
            exact w_iret X.1 q hRt rfl (ax_d X (show cdA 93 54 = some (.ireturn, 1, 0, 0, 0) from rfl)) (Nat.zero_le _) (Nat.zero_le _) ⟨_, rfl, Is9, Gs9, 0, rfl, (by decide), ⟨by first | exact ⟨by decide, by decide⟩ | omega, fre_no hps9 (by first | (clear hps6 hps3 g2 g1; omega) | (clear hps3 g2 g1; omega) | omega) (by first | (clear hps6 hps3 g2 g1; omega) | (clear hps3 g2 g1; omega) | omega)⟩⟩
          ·
            refine z_load_n X (x := ((iC s9 77 (x).toNat) + 1)) rfl (List.Mem.head _) (z_bipush X rfl (z_icmp_le X (t := 55) rfl rfl ⟨by first | exact oq_e28f6910 g13 | omega, by first | (clear hps6 hps3 g2 g1; omega) | (clear hps3 g2 g1; omega) | omega⟩ (by decide) (fun g14 => ?_) (fun g14 => ?_)))
            ·
              refine z_aload_n X (x := A 67) rfl (List.Mem.tail _ (List.Mem.head _)) (s_getR X 67 rfl (c518_ok rfl) rfl rfl (z_const X rfl (z_load_n X (x := x) rfl (List.Mem.tail _ (List.Mem.tail _ (List.Mem.head _))) (z_ast X 92 rfl (c518_ok rfl) rfl (by decide) (show 0 < 24 by decide) (cbig_ok rfl) (wd_gen (fun s15 hs15 => ?_))))))
              have Is15 : Bd s15 := eqB hs15 (bd_C Is9 (show (0 : Int) ≤ x ∧ x ≤ 127 by first | exact ⟨p0.1, p0.2⟩ | omega) ⟨by first | exact oq_fa4e5087 p0.1 | omega, by first | exact oq_07d346ce p0.2 | omega⟩)
              have Fs15 := eqF hs15 (fm_C Gs9 (inl_ok (a := 79) rfl))
              have aws15_77 : SAM 77 s9 s15 := by rw [hs15]; exact sam_C (by decide) (sam_rf (a := 77) (s := s9))
              have aws15_79 : UPD 79 (0 : Int) x s9 s15 := by rw [hs15]; exact upd_put (sam_rf (a := 79) (s := s9)) ⟨by first | exact oq_fa4e5087 p0.1 | omega, by first | exact oq_07d346ce p0.2 | omega⟩
              refine z_const X rfl (z_store X (lv' := [(4, .int (Int32.ofInt 1)), (3, .int (Int32.ofInt ((iC s9 77 (x).toNat) + 1))), (0, .ref (A 67)), (1, .int (Int32.ofInt x)), (2, .int (Int32.ofInt y))]) rfl (by decide) (fun _ h => h) (WS_pq [2, 1, 0] (lv' := [(0, .ref (A 67)), (3, .int (Int32.ofInt ((iC s9 77 (x).toNat) + 1))), (4, .int (Int32.ofInt 1))]) rfl (L65 ((24 - 1 : Int).toNat + 1) s15 ((iC s9 77 (x).toNat) + 1) 1 Is15 Fs15 (frq_0 hps9 (by first | (clear hps6 hps3 g2 g1; omega) | (clear hps3 g2 g1; omega) | omega) (by first | (clear hps6 hps3 g2 g1; omega) | (clear hps3 g2 g1; omega) | omega) aws15_77 (aws15_79).1) (by first | exact ⟨And.intro (g13) (g14), by decide, g13⟩ | omega) (Nat.lt_succ_self _) ?_)))
              intro s16 x17 Is16 Fs16 Qs16 hs16
              refine z_load_n X (x := ((iC s9 77 (x).toNat) + 1)) rfl (List.Mem.tail _ (List.Mem.head _)) ?_
              exact w_iret X.1 q hRt rfl (ax_d X (show cdA 93 98 = some (.ireturn, 1, 0, 0, 0) from rfl)) (Nat.zero_le _) (Nat.zero_le _) ⟨_, rfl, Is16, Fs16, ((iC s9 77 (x).toNat) + 1), rfl, ⟨by first | exact oq_e28f6910 hs16.1.1 | omega, by first | exact oq_0f81f41a hs16.1.2 | omega⟩, ⟨by first | exact ⟨oq_e7b5297c hs16.1.1, hs16.1.2⟩ | omega, frq_e Qs16 (by first | (clear hps6 hps3 g2 g1; omega) | (clear hps3 g2 g1; omega) | omega) (by first | (clear hps6 hps3 g2 g1; omega) | (clear hps3 g2 g1; omega) | omega) hnx hny⟩⟩
            ·
              refine z_const X rfl ?_
              exact w_iret X.1 q hRt rfl (ax_d X (show cdA 93 54 = some (.ireturn, 1, 0, 0, 0) from rfl)) (Nat.zero_le _) (Nat.zero_le _) ⟨_, rfl, Is9, Gs9, 0, rfl, (by decide), ⟨by first | exact ⟨by decide, by decide⟩ | omega, fre_no hps9 (by first | (clear hps6 hps3 g2 g1; omega) | (clear hps3 g2 g1; omega) | omega) (by first | (clear hps6 hps3 g2 g1; omega) | (clear hps3 g2 g1; omega) | omega)⟩⟩
        ·
          refine z_const X rfl ?_
          exact w_iret X.1 q hRt rfl (ax_d X (show cdA 93 27 = some (.ireturn, 1, 0, 0, 0) from rfl)) (Nat.zero_le _) (Nat.zero_le _) ⟨_, rfl, I, F, 0, rfl, (by decide), ⟨by first | exact ⟨by decide, by decide⟩ | omega, rnr_0 (Or.inr ⟨by first | (clear g8 hps6 hps3 g2 g1; omega) | (clear hps6 hps3 g2 g1; omega) | omega, (hps6).elim (fun z => z.2) (fun z => absurd z.1 (by first | (clear g8 hps6 hps3 g2 g1; omega) | (clear hps6 hps3 g2 g1; omega) | omega))⟩)⟩⟩
end M87kv
