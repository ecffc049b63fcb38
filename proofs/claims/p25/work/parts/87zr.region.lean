theorem oq_e32bd5ee {a0 a1 a2 a3 a4 : Int} (h0 : a0 = (a1 + a2)) (h1 : a2 ≤ 50) (h2 : a3 ≤ (50 * a4)) (h3 : a1 = a3) : a0 ≤ (50 * (a4 + 1)) := by omega
theorem oq_4dc996b7 {a0 a1 : Int} (h0 : a0 = a1) (h1 : 1 ≤ a1) : (-2147483648) ≤ a0 := by omega
theorem oq_fc67fc75 {a0 a1 : Int} (h0 : a0 = a1) (h1 : a1 ≤ 3) : a0 ≤ 2147483647 := by omega
theorem oq_c1d53187 {a0 a1 a2 : Int} (h0 : a0 < a1) (h1 : a1 = a2) (h2 : a2 ≤ 3) : a0 < 3 := by omega
theorem oq_6679beeb {a0 a1 a2 : Int} (h0 : a0 < a1) (h1 : a1 = a2) (h2 : a2 ≤ 3) : (a0 : Int).toNat < 3 := by omega
theorem oq_048e57d8 {a0 : Int} (h0 : 0 ≤ a0) : (a0 + 1) ≠ 0 := by omega
theorem oq_273e7409 {a0 a1 a2 : Int} (h0 : a0 < a1) (h1 : a1 = a2) (h2 : a2 ≤ 3) : 0 < (3 - a0) := by omega
theorem oq_27ead5b3 {a0 a1 a2 : Int} (h0 : a0 ≤ a1) (h1 : 1 ≤ a0) (h2 : (a1 = 0 ∨ 1 ≤ a2)) : 1 ≤ a2 := by omega
theorem oq_558b26b0 {a0 a1 a2 : Int} (h0 : a0 = a1) (h1 : a1 ≤ a2) (h2 : a2 ≤ 3) : a0 ≤ 2147483647 := by omega
theorem oq_5219dbca {a0 a1 a2 a3 : Int} (h0 : a0 = a1) (h1 : a0 < a2) (h2 : a2 ≤ a3) : a1 < a3 := by omega
theorem oq_72bab12e {a0 a1 a2 : Int} (h0 : a0 ≤ (a1 + 1)) (h1 : a2 < a0) (h2 : a2 = a1) : a0 = (a1 + 1) := by omega
theorem oq_5dfda8db {a0 a1 a2 a3 a4 : Int} (h0 : a0 = a1) (h1 : a0 ≤ a2) (h2 : a2 ≤ a3) (h3 : a3 = a4) : a1 ≤ a4 := by omega
theorem oq_d65fd0d5 {a0 a1 a2 : Int} (h0 : a0 = a1) (h1 : a1 < a2) (h2 : a2 ≤ 8) : a0 < 8 := by omega
theorem oq_d5e8f086 {a0 a1 : Int} (h0 : a0 = a1) (h1 : 0 ≤ a1) : 0 ≤ (a0 + 1) := by omega
theorem oq_0b618086 {a0 a1 a2 a3 a4 a5 : Int} (h0 : a0 = a1) (h1 : a2 = a3) (h2 : a1 = a4) (h3 : a4 = a5) (h4 : a3 < a5) : (a2 + 1) ≤ a0 := by omega
theorem oq_039acd6a {a0 a1 a3 a4 a5 a6 : Int} {n2 : Nat} (h0 : (a0 - a1) ≤ (((n2 + 1) : Nat) : Int)) (h1 : a3 = a4) (h2 : a5 = a1) (h3 : a4 = a6) (h4 : a6 = a0) : (a3 - (a5 + 1)) ≤ ((n2 : Nat) : Int) := by omega
theorem oq_c61725e8 {a0 a1 a2 : Int} (h0 : ((a0 ≠ a1 ∧ a2 = a1) ∨ (a0 = a1 ∧ a2 = (a1 + 1)))) (h1 : a0 ≤ a1) (h2 : 0 ≤ a0) : 0 ≤ a2 := by omega
theorem oq_212885fb {a0 a1 a2 a3 a4 a5 : Int} (h0 : ((a0 ≠ a1 ∧ a2 = a1) ∨ (a0 = a1 ∧ a2 = (a1 + 1)))) (h1 : a3 = a4) (h2 : a0 < a3) (h3 : a5 ≤ a4) (h4 : a1 = a5) : a2 ≤ a3 := by omega
theorem oq_7119a11e {a0 a1 a2 a3 : Int} (h0 : ((a0 ≠ a1 ∧ a2 = a1) ∨ (a0 = a1 ∧ a2 = (a1 + 1)))) (h1 : a0 ≤ a1) (h2 : 0 ≤ a0) : ((a3 + 1) = 0 ∨ 1 ≤ a2) := by omega
theorem oq_b099abc1 {a0 a1 a2 : Int} (h0 : a0 = a1) (h1 : a2 = a1) (h2 : 0 ≤ a2) : 0 ≤ a0 := by omega
theorem oq_815d0b62 {a0 a1 a2 : Int} (h0 : a0 = a1) (h1 : a2 = a1) (h2 : a2 ≤ 255) : a0 ≤ 255 := by omega
theorem oq_cb2f634e {a0 a1 a2 : Int} (h0 : a0 = a1) (h1 : a2 ≤ a0) : (a2 + 1) ≤ (a1 + 1) := by omega
theorem oq_59594996 {a0 a1 : Int} (h0 : a0 ≤ 3) (h1 : a1 ≤ a0) (h2 : a1 = 3) : a0 = 3 := by omega
theorem oq_a7bb40ba {a0 a1 : Int} (h0 : a0 = a1) (h1 : a1 ≤ 255) : a0 ≤ 255 := by omega
theorem oq_66632cdc {a0 a1 : Int} (h0 : a0 = a1) (h1 : a1 ≤ 255) : a0 ≤ 2147483647 := by omega
theorem oq_afaf784d {a0 a1 a2 : Int} (h0 : a0 ≤ a1) (h1 : a2 = a1) (h2 : a2 ≤ 2147483647) : a0 ≤ 2147483647 := by omega
theorem oq_558210a0 {a0 a1 : Int} (h0 : a0 ≠ 0) (h1 : 0 ≤ a0) (h2 : a0 = a1) : 1 ≤ a1 := by omega
theorem oq_28331ec1 {a0 a1 : Int} (h0 : a0 = a1) (h1 : a1 ≤ 8) : (a0 - 0) ≤ ((8 : Nat) : Int) := by omega
/-! Rotas: sets of pairs as bits, who is chosen, the run over the quarters -/
def bT (x : Int32) (p : Nat) : Bool := x.toBitVec.getLsbD p
theorem bt_sh {x : Int32} {n : Nat} (hn : n < 8) : (x >>> (Int32.ofInt (n : Int) &&& 31)) &&& Int32.ofInt 1 = Int32.ofInt (if bT x n = true then 1 else 0) := by
  have e := sh_sm_ n (by omega)
  have b0 : (x >>> (Int32.ofInt (n : Int) &&& 31)).toBitVec.getLsbD 0 = bT x n := by
    rw [Int32.toBitVec_shiftRight, BitVec.getLsbD_sshiftRight', e]
    simp only [Nat.add_zero]
    rw [if_pos (show n < 32 by omega)]
    show (!decide (32 ≤ 0) && bT x n) = bT x n
    simp
  apply Int32.toBitVec.inj
  apply BitVec.eq_of_getLsbD_eq
  intro i hi
  have o : (Int32.ofInt 1).toBitVec.getLsbD i = decide (i = 0) := by
    have e1 : (Int32.ofInt 1).toBitVec = 1#32 := by decide
    rw [e1, BitVec.getLsbD_one]
    simp
  rw [Int32.toBitVec_and, BitVec.getLsbD_and, o]
  by_cases c : i = 0
  · subst c
    rw [b0, decide_eq_true rfl, Bool.and_true]
    cases bT x n
    · decide
    · decide
  · rw [decide_eq_false c, Bool.and_false]
    cases bT x n
    · show false = (Int32.ofInt 0).toBitVec.getLsbD i
      have e2 : (Int32.ofInt 0).toBitVec = 0#32 := by decide
      rw [e2, BitVec.getLsbD_zero]
    · show false = (Int32.ofInt 1).toBitVec.getLsbD i
      rw [o, decide_eq_false c]
theorem bt_rd {b p y w : Int} (h1 : Int32.ofInt y = Int32.ofInt b >>> (Int32.ofInt p &&& 31)) (h2 : Int32.ofInt w = Int32.ofInt y &&& Int32.ofInt 1) (r : rng w) (p0 : 0 ≤ p ∧ p ≤ 7) : (w = 1 ∧ bT (Int32.ofInt b) p.toNat = true) ∨ (w = 0 ∧ ¬ bT (Int32.ofInt b) p.toNat = true) := by
  have z := bt_sh (x := Int32.ofInt b) (n := p.toNat) (by omega)
  rw [show ((p.toNat : Nat) : Int) = p by omega, ← h1, ← h2] at z
  by_cases c : bT (Int32.ofInt b) p.toNat = true
  · rw [if_pos c] at z
    exact Or.inl ⟨(of_to r z).trans (by decide), c⟩
  · rw [if_neg c] at z
    exact Or.inr ⟨(of_to r z).trans (by decide), c⟩
/-! A small region parted exactly: the search over all partings, as a function of what each set of cells hears -/
/-- powers of two -/
def pwI : Nat → Int
  | 0 => 1
  | k + 1 => 2 * pwI k
theorem pwi_1 : ∀ k : Nat, 1 ≤ pwI k
  | 0 => Int.le_refl _
  | k + 1 => by
    have := pwi_1 k
    show 1 ≤ 2 * pwI k
    omega
theorem pwi_8 : ∀ n : Nat, n < 9 → pwI n ≤ 256 := by decide +kernel
theorem pwi_sh : ∀ n : Nat, n < 9 → (Int32.ofInt 1 <<< (Int32.ofInt (n : Int) &&& 31)).toInt = pwI n := by decide +kernel
theorem shl_pw {n v : Int} (n0 : 0 ≤ n ∧ n ≤ 8) (h : Int32.ofInt v = Int32.ofInt 1 <<< (Int32.ofInt n &&& 31)) (r : rng v) : v = pwI n.toNat := by
  have z := pwi_sh n.toNat (by omega)
  rw [show ((n.toNat : Nat) : Int) = n by omega] at z
  rw [← z]
  exact of_to r h
/-- the mask of a heap: the cells below k that stand in it -/
def msI (h : Nat → Int) (g : Int) : Nat → Int
  | 0 => 0
  | k + 1 => msI h g k + (if h k = g then pwI k else 0)
theorem msi_y {h : Nat → Int} {g : Int} {k : Nat} (e : h k = g) : msI h g (k + 1) = msI h g k + pwI k := by
  show msI h g k + (if h k = g then pwI k else 0) = _
  rw [if_pos e]
theorem msi_n {h : Nat → Int} {g : Int} {k : Nat} (e : h k ≠ g) : msI h g (k + 1) = msI h g k := by
  show msI h g k + (if h k = g then pwI k else 0) = _
  rw [if_neg e, Int.add_zero]
theorem msi_b (h : Nat → Int) (g : Int) : ∀ k : Nat, 0 ≤ msI h g k ∧ msI h g k < pwI k
  | 0 => ⟨Int.le_refl _, by show (0 : Int) < 1; decide⟩
  | k + 1 => by
    have ih := msi_b h g k
    have p := pwi_1 k
    have e2 : pwI (k + 1) = 2 * pwI k := rfl
    by_cases c : h k = g
    · rw [msi_y c, e2]; omega
    · rw [msi_n c, e2]; omega
theorem msi_c {h h' : Nat → Int} {g : Int} : ∀ k : Nat, (∀ j, j < k → h j = h' j) → msI h g k = msI h' g k
  | 0, _ => rfl
  | k + 1, e => by
    show msI h g k + (if h k = g then pwI k else 0) = msI h' g k + (if h' k = g then pwI k else 0)
    rw [msi_c k (fun j hj => e j (by omega)), e k (by omega)]
theorem msi_1 {h : Nat → Int} {g : Int} {j : Nat} (e : h j = g) : ∀ k : Nat, j < k → 1 ≤ msI h g k
  | 0, hk => absurd hk (Nat.not_lt_zero _)
  | k + 1, hk => by
    have b := msi_b h g k
    have p := pwi_1 k
    by_cases c : h k = g
    · rw [msi_y c]; omega
    · rw [msi_n c]
      exact msi_1 e k (by
        have : j ≠ k := fun z => c (z ▸ e)
        omega)
theorem msi_or : ∀ k : Nat, k < 8 → ∀ m : Nat, m < 256 → (m : Int) < pwI k → (Int32.ofInt (m : Int) ||| (Int32.ofInt 1 <<< (Int32.ofInt (k : Int) &&& 31))).toInt = (m : Int) + pwI k := by decide +kernel
theorem msi_an : ∀ k : Nat, k < 8 → ∀ m : Nat, m < 256 → (m : Int) < pwI k → (Int32.ofInt ((m : Int) + pwI k) &&& ((Int32.ofInt 1 <<< (Int32.ofInt (k : Int) &&& 31)) ^^^ Int32.ofInt (-1))).toInt = (m : Int) := by decide +kernel
theorem ms_put {m k y z : Int} (k0 : 0 ≤ k ∧ k ≤ 7) (m0 : 0 ≤ m ∧ m < pwI k.toNat) (h1 : Int32.ofInt y = Int32.ofInt 1 <<< (Int32.ofInt k &&& 31)) (h2 : Int32.ofInt z = Int32.ofInt m ||| Int32.ofInt y) (r : rng z) : z = m + pwI k.toNat := by
  have p := pwi_8 k.toNat (by omega)
  have q := msi_or k.toNat (by omega) m.toNat (by omega) (by rw [show ((m.toNat : Nat) : Int) = m by omega]; exact m0.2)
  rw [show ((m.toNat : Nat) : Int) = m by omega, show ((k.toNat : Nat) : Int) = k by omega, ← h1, ← h2, zi r] at q
  exact q
theorem ms_del {m k w x y z : Int} (k0 : 0 ≤ k ∧ k ≤ 7) (m0 : 0 ≤ m ∧ m < pwI k.toNat) (hw : w = m + pwI k.toNat) (h1 : Int32.ofInt y = Int32.ofInt 1 <<< (Int32.ofInt k &&& 31)) (h2 : Int32.ofInt x = Int32.ofInt y ^^^ Int32.ofInt (-1)) (h3 : Int32.ofInt z = Int32.ofInt w &&& Int32.ofInt x) (r : rng z) : z = m := by
  have p := pwi_8 k.toNat (by omega)
  have q := msi_an k.toNat (by omega) m.toNat (by omega) (by rw [show ((m.toNat : Nat) : Int) = m by omega]; exact m0.2)
  rw [show ((m.toNat : Nat) : Int) = m by omega, show ((k.toNat : Nat) : Int) = k by omega, ← h1, ← h2, ← hw, ← h3, zi r] at q
  exact q
theorem or_z8 {m z : Int} (h : Int32.ofInt z = Int32.ofInt m ||| Int32.ofInt 0) (r : rng z) (hm : rng m) : z = m := by
  have e : Int32.ofInt m ||| Int32.ofInt 0 = Int32.ofInt m := by
    apply Int32.toBitVec.inj
    rw [Int32.toBitVec_or, show (Int32.ofInt 0).toBitVec = 0#32 by decide, BitVec.or_zero]
  rw [e] at h
  exact (zi_eq r hm).mp h
/-- the best so far: none, or its peak, its steps over, its heaps -/
abbrev BsO : Type := Option (Int × Int × (Nat → Int))
noncomputable def pickB (P : Prop) (x y : BsO) : BsO := @ite BsO P (Classical.propDecidable P) x y
theorem pick_y {P : Prop} {x y : BsO} (h : P) : pickB P x y = x := by unfold pickB; exact if_pos h
theorem pick_n {P : Prop} {x y : BsO} (h : ¬ P) : pickB P x y = y := by unfold pickB; exact if_neg h
def btB : BsO → Int → Int → Prop
  | none, _, _ => True
  | some b, p, o => p < b.1 ∨ (p = b.1 ∧ o < b.2.1)
def ovA (ov : Int → Int) (h : Nat → Int) (n : Nat) : Nat → Int32
  | 0 => Int32.ofInt 0
  | g + 1 => ovA ov h n g + Int32.ofInt (ov (msI h (g : Int) n))
def pkA (pk : Int → Int) (h : Nat → Int) (n : Nat) (g : Nat) : Int := pk (msI h (g : Int) n)
def trH (h : Nat → Int) (n : Nat) : Nat → Int := fun j => if j < n then h j else 0
/-- all heaps of a parting hang together -/
def alH (hg : Int → Int) (h : Nat → Int) (n : Nat) (u : Int) : Prop := ∀ g : Nat, (g : Int) < u → hg (msI h (g : Int) n) ≠ 0
/-- a whole parting against the best so far -/
noncomputable def cmB (hg pk ov : Int → Int) (n : Nat) (h : Nat → Int) (u : Int) (B : BsO) : BsO := pickB (alH hg h n u ∧ btB B (pkF (pkA pk h n) (u - 1).toNat) (ovA ov h n u.toNat).toInt) (some (pkF (pkA pk h n) (u - 1).toNat, (ovA ov h n u.toNat).toInt, trH h n)) B
def flB (F : Int → BsO → BsO) : Nat → BsO → BsO
  | 0, B => B
  | g + 1, B => F (g : Int) (flB F g B)
theorem flb_c {F F' : Int → BsO → BsO} {B : BsO} : ∀ c : Nat, (∀ (g : Nat) (C : BsO), g < c → F (g : Int) C = F' (g : Int) C) → flB F c B = flB F' c B
  | 0, _ => rfl
  | c + 1, e => by
    show F (c : Int) (flB F c B) = F' (c : Int) (flB F' c B)
    rw [flb_c c (fun g C hg => e g C (by omega)), e c _ (by omega)]
def upH (h : Nat → Int) (k : Nat) (g : Int) : Nat → Int := fun j => if j = k then g else h j
def nuH (g u : Int) : Int := if g = u then u + 1 else u
def ctH (u m : Int) : Nat := if u < m then (u + 1).toNat else m.toNat
/-- all partings of the last r cells, one behind the other -/
noncomputable def plB (hg pk ov : Int → Int) (m : Int) (n : Nat) : Nat → (Nat → Int) → Int → BsO → BsO
  | 0, h, u, B => cmB hg pk ov n h u B
  | r + 1, h, u, B => flB (fun g C => plB hg pk ov m n r (upH h (n - (r + 1)) g) (nuH g u) C) (ctH u m) B
theorem cmb_c {hg pk ov : Int → Int} {n : Nat} {h h' : Nat → Int} {u : Int} {B : BsO} (e : ∀ j, j < n → h j = h' j) : cmB hg pk ov n h u B = cmB hg pk ov n h' u B := by
  have e1 : ∀ g : Int, msI h g n = msI h' g n := fun g => msi_c n e
  have e2 : pkA pk h n = pkA pk h' n := funext (fun g => by unfold pkA; rw [e1])
  have e3 : ∀ g : Nat, ovA ov h n g = ovA ov h' n g := fun g => by
    induction g with
    | zero => rfl
    | succ g ih =>
      show ovA ov h n g + Int32.ofInt (ov (msI h (g : Int) n)) = ovA ov h' n g + Int32.ofInt (ov (msI h' (g : Int) n))
      rw [ih, e1]
  have e4 : trH h n = trH h' n := funext (fun j => by
    show (if j < n then h j else 0) = (if j < n then h' j else 0)
    by_cases c : j < n
    · rw [if_pos c, if_pos c]; exact e j c
    · rw [if_neg c, if_neg c])
  have e5 : alH hg h n u = alH hg h' n u := propext ⟨fun q g hg' => by rw [← e1]; exact q g hg', fun q g hg' => by rw [e1]; exact q g hg'⟩
  unfold cmB
  rw [e2, e3, e4, e5]
theorem plb_c {hg pk ov : Int → Int} {m : Int} {n : Nat} : ∀ (r : Nat) {h h' : Nat → Int} {u : Int} {B : BsO}, r ≤ n → (∀ j, j < n - r → h j = h' j) → plB hg pk ov m n r h u B = plB hg pk ov m n r h' u B
  | 0, _, _, _, _, _, e => cmb_c (fun j hj => e j (by omega))
  | r + 1, h, h', u, B, hr, e => by
    show flB (fun g C => plB hg pk ov m n r (upH h (n - (r + 1)) g) (nuH g u) C) (ctH u m) B = flB (fun g C => plB hg pk ov m n r (upH h' (n - (r + 1)) g) (nuH g u) C) (ctH u m) B
    refine flb_c _ (fun g C _ => ?_)
    refine plb_c r (by omega) (fun j hj => ?_)
    show (if j = n - (r + 1) then (g : Int) else h j) = (if j = n - (r + 1) then (g : Int) else h' j)
    by_cases c : j = n - (r + 1)
    · rw [if_pos c, if_pos c]
    · rw [if_neg c, if_neg c]; exact e j (by omega)
theorem pkf_c {f f' : Nat → Int} : ∀ n : Nat, (∀ k, k ≤ n → f k = f' k) → pkF f n = pkF f' n
  | 0, e => e 0 (Nat.le_refl _)
  | n + 1, e => by
    show (if pkF f n < f (n + 1) then f (n + 1) else pkF f n) = (if pkF f' n < f' (n + 1) then f' (n + 1) else pkF f' n)
    rw [pkf_c n (fun k hk => e k (by omega)), e (n + 1) (Nat.le_refl _)]
/-- two tables tell the same of every set that is not empty -/
def TEQ (n : Nat) (hg pk ov hg' pk' ov' : Int → Int) : Prop := ∀ x : Int, 1 ≤ x → x < pwI n → hg x = hg' x ∧ (hg x ≠ 0 → pk x = pk' x ∧ Int32.ofInt (ov x) = Int32.ofInt (ov' x))
theorem cmb_e {hg pk ov hg' pk' ov' : Int → Int} {n : Nat} {h : Nat → Int} {u : Int} {B : BsO} (a : TEQ n hg pk ov hg' pk' ov') (u1 : 1 ≤ u) (cv : ∀ g : Nat, (g : Int) < u → ∃ j, j < n ∧ h j = (g : Int)) : cmB hg pk ov n h u B = cmB hg' pk' ov' n h u B := by
  have tb : ∀ g : Nat, (g : Int) < u → hg (msI h (g : Int) n) = hg' (msI h (g : Int) n) ∧ (hg (msI h (g : Int) n) ≠ 0 → pk (msI h (g : Int) n) = pk' (msI h (g : Int) n) ∧ Int32.ofInt (ov (msI h (g : Int) n)) = Int32.ofInt (ov' (msI h (g : Int) n))) := fun g hu => by
    obtain ⟨j, j1, j2⟩ := cv g hu
    exact a _ (msi_1 j2 n j1) (msi_b h (g : Int) n).2
  have e5 : alH hg h n u = alH hg' h n u := propext ⟨fun q g hu => by rw [← (tb g hu).1]; exact q g hu, fun q g hu => by rw [(tb g hu).1]; exact q g hu⟩
  by_cases c : alH hg h n u
  · have e2 : pkF (pkA pk h n) (u - 1).toNat = pkF (pkA pk' h n) (u - 1).toNat := pkf_c _ (fun k hk => ((tb k (by omega)).2 (c k (by omega))).1)
    have e3 : ∀ g : Nat, (g : Int) ≤ u → ovA ov h n g = ovA ov' h n g := fun g => by
      induction g with
      | zero => exact fun _ => rfl
      | succ g ih =>
        intro hu
        show ovA ov h n g + Int32.ofInt (ov (msI h (g : Int) n)) = ovA ov' h n g + Int32.ofInt (ov' (msI h (g : Int) n))
        rw [ih (by omega), ((tb g (by omega)).2 (c g (by omega))).2]
    unfold cmB
    rw [e2, e3 u.toNat (by omega), e5]
  · unfold cmB
    rw [pick_n (fun q => c q.1), pick_n (fun q => c (by rw [e5]; exact q.1))]
theorem plb_e {hg pk ov hg' pk' ov' : Int → Int} {m : Int} {n : Nat} (a : TEQ n hg pk ov hg' pk' ov') : ∀ (r : Nat) {h : Nat → Int} {u : Int} {B : BsO}, r ≤ n → 0 ≤ u → (r = 0 → 1 ≤ u) → (∀ g : Nat, (g : Int) < u → ∃ j, j < n - r ∧ h j = (g : Int)) → plB hg pk ov m n r h u B = plB hg' pk' ov' m n r h u B
  | 0, _, _, _, _, _, u1, cv => cmb_e a (u1 rfl) (fun g hg => by obtain ⟨j, j1, j2⟩ := cv g hg; exact ⟨j, by omega, j2⟩)
  | r + 1, h, u, B, hr, u0, _, cv => by
    show flB (fun g C => plB hg pk ov m n r (upH h (n - (r + 1)) g) (nuH g u) C) (ctH u m) B = flB (fun g C => plB hg' pk' ov' m n r (upH h (n - (r + 1)) g) (nuH g u) C) (ctH u m) B
    refine flb_c _ (fun g C hg => ?_)
    have gu : (g : Int) ≤ u := by
      unfold ctH at hg
      by_cases c : u < m
      · rw [if_pos c] at hg; omega
      · rw [if_neg c] at hg; omega
    have nu : (nuH (g : Int) u = u + 1 ∧ (g : Int) = u) ∨ (nuH (g : Int) u = u ∧ (g : Int) < u) := by
      unfold nuH
      by_cases c : (g : Int) = u
      · rw [if_pos c]; exact Or.inl ⟨rfl, c⟩
      · rw [if_neg c]; exact Or.inr ⟨rfl, by omega⟩
    refine plb_e a r (by omega) (by omega) (fun _ => by omega) (fun g' hg' => ?_)
    by_cases c : (g' : Int) < u
    · obtain ⟨j, j1, j2⟩ := cv g' c
      refine ⟨j, by omega, ?_⟩
      show (if j = n - (r + 1) then (g : Int) else h j) = _
      rw [if_neg (by omega)]; exact j2
    · refine ⟨n - (r + 1), by omega, ?_⟩
      show (if n - (r + 1) = n - (r + 1) then (g : Int) else h (n - (r + 1))) = _
      rw [if_pos rfl]; omega
/-- a set of the region's cells, told by bits -/
def rgS (f : Nat → Int) (n : Nat) (x : Int) (c : Int) : Prop := ∃ i : Nat, i < n ∧ bT (Int32.ofInt x) i = true ∧ f i = c
theorem rgs_c {f f' : Nat → Int} {n : Nat} {x : Int} (e : ∀ j, j < n → f j = f' j) : rgS f n x = rgS f' n x := funext (fun c => propext ⟨fun ⟨i, h1, h2, h3⟩ => ⟨i, h1, h2, by rw [← e i h1]; exact h3⟩, fun ⟨i, h1, h2, h3⟩ => ⟨i, h1, h2, by rw [e i h1]; exact h3⟩⟩)
theorem rgs_up {f : Nat → Int} {x c z : Int} (c0 : 0 ≤ c) : rgS f (c + 1).toNat x z ↔ rgS f c.toNat x z ∨ (bT (Int32.ofInt x) c.toNat = true ∧ f c.toNat = z) := by
  constructor
  · rintro ⟨i, h1, h2, h3⟩
    by_cases e : i = c.toNat
    · rw [e] at h2 h3; exact Or.inr ⟨h2, h3⟩
    · exact Or.inl ⟨i, by omega, h2, h3⟩
  · rintro (⟨i, h1, h2, h3⟩ | ⟨h2, h3⟩)
    · exact ⟨i, by omega, h2, h3⟩
    · exact ⟨c.toNat, by omega, h2, h3⟩
/-- the steps over a set's edge, in all quarters -/
noncomputable def ovQ (U : AirD) (S : Int → Prop) (c : Nat) : Int32 := Int32.ofInt (sm (fun q => oaH S (uW U) (uM U q) (uN U)) c)
theorem ovq_up {U : AirD} {S : Int → Prop} {q a b y : Int} (q0 : 0 ≤ q) (h : Int32.ofInt a = ovQ U S q.toNat) (hb : Int32.ofInt b = Int32.ofInt (oaH S (uW U) (uM U q.toNat) (uN U))) (hy : Int32.ofInt y = Int32.ofInt (a + b)) : Int32.ofInt y = ovQ U S (q + 1).toNat := by
  rw [hy, Int32.ofInt_add, h, hb, show (q + 1).toNat = q.toNat + 1 by omega]
  unfold ovQ
  rw [← Int32.ofInt_add]
  rfl
/-- what both tables tell of a set -/
def TRW (U : AirD) (S : Int → Prop) (a b c : Int) : Prop := (a = 1 ∧ HngT S ∧ b = pkH U S ∧ Int32.ofInt c = ovQ U S 24) ∨ (a = 0 ∧ ¬ HngT S)
def TBQ (U : AirD) (f : Nat → Int) (n : Nat) (hg pk ov : Int → Int) (c : Int) : Prop := ∀ x : Int, 1 ≤ x → x < c → TRW U (rgS f n x) (hg x) (pk x) (ov x)
theorem tbq_1 {U : AirD} {f : Nat → Int} {n : Nat} {hg pk ov : Int → Int} : TBQ U f n hg pk ov 1 := fun x h1 h2 => absurd h1 (by omega)
theorem tbq_up {U : AirD} {f : Nat → Int} {n : Nat} {hg pk ov hg' pk' ov' : Int → Int} {c : Int} (h : TBQ U f n hg pk ov c) (e : ∀ x : Int, 1 ≤ x → x < c → hg' x = hg x ∧ pk' x = pk x ∧ ov' x = ov x) (w : TRW U (rgS f n c) (hg' c) (pk' c) (ov' c)) : TBQ U f n hg' pk' ov' (c + 1) := fun x h1 h2 => by
  by_cases z : x = c
  · rw [z]; exact w
  · obtain ⟨e1, e2, e3⟩ := e x h1 (by omega)
    rw [e1, e2, e3]
    exact h x h1 (by omega)
theorem tbq_k {U : AirD} {f : Nat → Int} {n : Nat} {hg pk ov hg' pk' ov' : Int → Int} {c : Int} (h : TBQ U f n hg pk ov c) (e : ∀ x : Int, 1 ≤ x → x < c → hg' x = hg x ∧ pk' x = pk x ∧ ov' x = ov x) : TBQ U f n hg' pk' ov' c := fun x h1 h2 => by
  obtain ⟨e1, e2, e3⟩ := e x h1 h2
  rw [e1, e2, e3]
  exact h x h1 h2
theorem tbq_e {U : AirD} {f f' : Nat → Int} {n : Nat} {hg pk ov hg' pk' ov' : Int → Int} (e : ∀ j, j < n → f j = f' j) (a : TBQ U f n hg pk ov (pwI n)) (b : TBQ U f' n hg' pk' ov' (pwI n)) : TEQ n hg pk ov hg' pk' ov' := fun x h1 h2 => by
  have p := a x h1 h2
  have q := b x h1 h2
  rw [← rgs_c e] at q
  rcases p with ⟨p1, p2, p3, p4⟩ | ⟨p1, p2⟩
  · rcases q with ⟨q1, q2, q3, q4⟩ | ⟨q1, q2⟩
    · exact ⟨p1.trans q1.symm, fun _ => ⟨p3.trans q3.symm, p4.trans q4.symm⟩⟩
    · exact absurd p2 q2
  · rcases q with ⟨q1, q2, q3, q4⟩ | ⟨q1, q2⟩
    · exact absurd q2 p2
    · exact ⟨p1.trans q1.symm, fun z => absurd p1 z⟩
/-- the best parting of n cells into m heaps -/
def BQR (U : AirD) (f : Nat → Int) (n : Nat) (m : Int) (B : BsO) : Prop := ∃ (hg pk ov : Int → Int) (h : Nat → Int), TBQ U f n hg pk ov (pwI n) ∧ B = plB hg pk ov m n n h 0 none
theorem bqr_u {U : AirD} {f f' : Nat → Int} {n : Nat} {m : Int} {B B' : BsO} (n1 : 1 ≤ n) (e : ∀ j, j < n → f j = f' j) (a : BQR U f n m B) (b : BQR U f' n m B') : B = B' := by
  obtain ⟨hg, pk, ov, h, a1, a2⟩ := a
  obtain ⟨hg', pk', ov', h', b1, b2⟩ := b
  rw [a2, b2, plb_e (tbq_e e a1 b1) n (Nat.le_refl _) (Int.le_refl _) (fun z => absurd z (by omega)) (fun g hg => absurd hg (by omega))]
  exact plb_c n (Nat.le_refl _) (fun j hj => absurd hj (by omega))
/-- what is answered of the best -/
def pdB : BsO → Int → Int → Prop
  | none, _, e => e = -1
  | some b, w, e => (w = -1 ∧ e = b.1) ∨ (w = -2 ∧ e = b.2.1) ∨ (0 ≤ w ∧ e = b.2.2 w.toNat)
theorem pdb_u {B : BsO} {w e e' : Int} (a : pdB B w e) (b : pdB B w e') : e = e' := by
  cases B with
  | none => exact Eq.trans (show e = -1 from a) (show e' = -1 from b).symm
  | some c =>
    replace a : (w = -1 ∧ e = c.1) ∨ (w = -2 ∧ e = c.2.1) ∨ (0 ≤ w ∧ e = c.2.2 w.toNat) := a
    replace b : (w = -1 ∧ e' = c.1) ∨ (w = -2 ∧ e' = c.2.1) ∨ (0 ≤ w ∧ e' = c.2.2 w.toNat) := b
    omega
def PTE (U : AirD) (f : Nat → Int) (n m w e : Int) : Prop := (n ≤ w ∧ e = -1) ∨ (w < n ∧ ((n = 0 ∧ e = -1) ∨ (1 ≤ n ∧ ∃ B, BQR U f n.toNat m B ∧ pdB B w e)))
theorem pte_eq {U : AirD} {f f' : Nat → Int} {n n' m w e e' : Int} (hn : n = n') (hf : ∀ j : Nat, (j : Int) < n → f j = f' j) (a : PTE U f n m w e) (b : PTE U f' n' m w e') : e = e' := by
  subst hn
  rcases a with ⟨a1, a2⟩ | ⟨a1, a2⟩
  · rcases b with ⟨b1, b2⟩ | ⟨b1, b2⟩
    · exact a2.trans b2.symm
    · omega
  · rcases b with ⟨b1, b2⟩ | ⟨b1, b2⟩
    · omega
    · rcases a2 with ⟨a2, a3⟩ | ⟨a2, B, a3, a4⟩
      · rcases b2 with ⟨b2, b3⟩ | ⟨b2, B', b3, b4⟩
        · exact a3.trans b3.symm
        · omega
      · rcases b2 with ⟨b2, b3⟩ | ⟨b2, B', b3, b4⟩
        · omega
        · rw [bqr_u (by omega) (fun j hj => hf j (by omega)) a3 b3] at a4
          exact pdb_u a4 b4
theorem nuh_of {g u e : Int} (h : (g = u ∧ e = u + 1) ∨ (g ≠ u ∧ e = u)) : e = nuH g u := by
  unfold nuH
  by_cases c : g = u
  · rw [if_pos c]; omega
  · rw [if_neg c]; omega
theorem cth_of {u m c : Int} (h : (u < m ∧ c = u + 1) ∨ (m ≤ u ∧ c = m)) : c.toNat = ctH u m := by
  unfold ctH
  by_cases z : u < m
  · rw [if_pos z]; omega
  · rw [if_neg z]; omega
/-- the loop over a parting's heaps: both sides -/
def CML (hg pk ov : Int → Int) (n : Nat) (h : Nat → Int) (c p o : Int) : Prop := alH hg h n c ∧ PKM (pkA pk h n) p c ∧ Int32.ofInt o = ovA ov h n c.toNat
theorem cml_0 {hg pk ov : Int → Int} {n : Nat} {h : Nat → Int} {p : Int} : CML hg pk ov n h 0 p 0 := ⟨fun g hg => absurd hg (by omega), pkm_0, rfl⟩
theorem cml_up {hg pk ov : Int → Int} {n : Nat} {h : Nat → Int} {c p o x a v w p' o' : Int} (q : CML hg pk ov n h c p o) (c0 : 0 ≤ c) (hx : x = msI h c n) (ha : a = hg x) (a0 : a ≠ 0) (hv : v = pk x) (hp : ((c = 0 ∨ p < v) ∧ p' = v) ∨ (c ≠ 0 ∧ v ≤ p ∧ p' = p)) (hw : w = ov x) (ho : Int32.ofInt o' = Int32.ofInt (o + w)) : CML hg pk ov n h (c + 1) p' o' := by
  have ec : ((c.toNat : Nat) : Int) = c := by omega
  refine ⟨fun g hg => ?_, pkm_up q.2.1 c0 (v := v) (by unfold pkA; rw [ec, ← hx]; exact hv) hp, ?_⟩
  · by_cases z : (g : Int) = c
    · rw [z, ← hx, ← ha]; exact a0
    · exact q.1 g (by omega)
  · rw [ho, Int32.ofInt_add, q.2.2, show (c + 1).toNat = c.toNat + 1 by omega]
    show _ = ovA ov h n c.toNat + Int32.ofInt (ov (msI h ((c.toNat : Nat) : Int) n))
    rw [ec, ← hx, hw]
theorem cmb_no {hg pk ov : Int → Int} {n : Nat} {h : Nat → Int} {u c x : Int} {B : BsO} (c0 : 0 ≤ c ∧ c < u) (hx : x = msI h c n) (a0 : hg x = 0) : cmB hg pk ov n h u B = B := by
  unfold cmB
  refine pick_n (fun q => q.1 c.toNat (by omega) ?_)
  rw [show ((c.toNat : Nat) : Int) = c by omega, ← hx]
  exact a0
theorem cml_p {hg pk ov : Int → Int} {n : Nat} {h : Nat → Int} {u p o : Int} (q : CML hg pk ov n h u p o) (u1 : 1 ≤ u) (r : rng o) : p = pkF (pkA pk h n) (u - 1).toNat ∧ o = (ovA ov h n u.toNat).toInt := ⟨q.2.1.elim (fun z => absurd z (by omega)) (fun z => z.2), of_to r q.2.2⟩
theorem cmb_y {hg pk ov : Int → Int} {n : Nat} {h : Nat → Int} {u p o : Int} {B : BsO} (q : CML hg pk ov n h u p o) (u1 : 1 ≤ u) (r : rng o) (b : btB B p o) : cmB hg pk ov n h u B = some (p, o, trH h n) := by
  obtain ⟨e1, e2⟩ := cml_p q u1 r
  unfold cmB
  rw [← e1, ← e2]
  exact pick_y ⟨q.1, b⟩
theorem cmb_k {hg pk ov : Int → Int} {n : Nat} {h : Nat → Int} {u p o : Int} {B : BsO} (q : CML hg pk ov n h u p o) (u1 : 1 ≤ u) (r : rng o) (b : ¬ btB B p o) : cmB hg pk ov n h u B = B := by
  obtain ⟨e1, e2⟩ := cml_p q u1 r
  unfold cmB
  rw [← e1, ← e2]
  exact pick_n (fun z => b z.2)
theorem fl8_up {a : Nat} {f : Nat → Int} {n v : Int} {t u : PS} (h : ∀ j : Nat, (j : Int) < n → iC t a j = f j) (n0 : 0 ≤ n) (hu : UPD a n v t u) (hv : v = f n.toNat) : ∀ j : Nat, (j : Int) < n + 1 → iC u a j = f j := fun j hj => by
  by_cases z : j = n.toNat
  · rw [z, hu.1]; exact hv
  · rw [hu.2 j z]; exact h j (by omega)
/-! The class's search, the model's: what stands in their fields -/
/-- the mosts of a stream in all quarters together -/
def MTJ (s : PS) : Prop := ∀ x : Nat, x < 12 → iC s 13 x = sm (fun q => iC s 11 (12 * q + x)) 24
theorem MTJ_fm {L M : List Nat} {s t : PS} (F : Fm L M s t) (h : 13 ∉ M ∧ 11 ∉ M) (r : MTJ s) : MTJ t := fun x hx => by
  rw [fm_c F h.1, r x hx]
  exact sm_eq (fun q _ => (fm_c F h.2).symm)
def RTM (x c : Int) (s t : PS) : Prop := iC t 13 x.toNat = sm (fun q => iC t 11 (12 * q + x.toNat)) c.toNat ∧ ∀ y : Nat, y < 12 → y ≠ x.toNat → iC t 13 y = iC s 13 y
theorem rtm_0 {x : Int} {s t : PS} (h : UPD 13 x 0 s t) : RTM x 0 s t := ⟨h.1, fun y _ hy => h.2 y hy⟩
theorem rtm_up {x c e g : Int} {s t u : PS} (r : RTM x c s t) (hm : UPD 11 (c * 12 + x) g t u) (h : UPD 13 x e t u) (he : e = iC t 13 x.toNat + g) (x0 : 0 ≤ x) (c0 : 0 ≤ c) : RTM x (c + 1) s u := by
  refine ⟨?_, fun y y1 hy => (h.2 y hy).trans (r.2 y y1 hy)⟩
  rw [h.1, he, r.1, show (c + 1).toNat = c.toNat + 1 by omega]
  show sm (fun q => iC t 11 (12 * q + x.toNat)) c.toNat + g = sm (fun q => iC u 11 (12 * q + x.toNat)) c.toNat + iC u 11 (12 * c.toNat + x.toNat)
  have e1 : iC u 11 (12 * c.toNat + x.toNat) = g := by rw [show 12 * c.toNat + x.toNat = (c * 12 + x).toNat by omega]; exact hm.1
  have e2 : sm (fun q => iC u 11 (12 * q + x.toNat)) c.toNat = sm (fun q => iC t 11 (12 * q + x.toNat)) c.toNat := sm_eq (fun q hq => hm.2 _ (by omega))
  rw [e1, e2]
theorem rtm_sam {x c : Int} {s t u : PS} (r : RTM x c s t) (h1 : SAM 13 t u) (h2 : SAM 11 t u) : RTM x c s u := ⟨by rw [h1 x.toNat, r.1]; exact sm_eq (fun q _ => (h2 _).symm), fun y y1 hy => (h1 y).trans (r.2 y y1 hy)⟩
theorem mtj_up {x : Int} {s t : PS} (j : MTJ s) (r : RTM x 24 s t) (q : RTQ x 24 s t) (x0 : 0 ≤ x ∧ x ≤ 11) : MTJ t := fun y hy => by
  by_cases z : y = x.toNat
  · rw [z]; exact r.1
  · rw [r.2 y hy z, j y hy]
    refine sm_eq (fun k hk => ?_)
    have w := q.2 (y : Int) (k : Int) (by omega) (by omega) (by omega) (by omega) (by omega)
    rw [show ((k : Int) * 12 + (y : Int)).toNat = 12 * k + y by omega] at w
    exact w.symm
theorem ov8_up {s : PS} {m v c : Int} (h : m = VSS 26 27 28 29 s (fun x o _ _ => iC s 13 x * o) c.toNat) (c0 : 0 ≤ c) (hv : v = iC s 13 (iC s 26 c.toNat).toNat * iC s 27 c.toNat) : m + v = VSS 26 27 28 29 s (fun x o _ _ => iC s 13 x * o) (c + 1).toNat := by
  rw [show (c + 1).toNat = c.toNat + 1 by omega, hv, h]
  rfl
theorem ov8_end {U : AirD} {s : PS} {lo hi : Int64} {m c : Int} (a : AIR s) (l : LSN lo hi s) (d : CDJ U s) (j : MTJ s) (h : m = VSS 26 27 28 29 s (fun x o _ _ => iC s 13 x * o) c.toNat) (hc : c = iI s 22) : Int32.ofInt m = ovQ U (inL lo hi) 24 := by
  obtain ⟨⟨d1, d2⟩, d3, d4, -⟩ := d
  have su := (lsn_sums a l (by omega) (fun x => iC s 13 x)).2.1
  have e : ∀ x, x < uN U → (fun x => iC s 13 x) x = (fun x => sm (fun q => uM U q x) 24) x := fun x hx => by
    show iC s 13 x = sm (fun q => uM U q x) 24
    rw [j x (by omega)]
    exact sm_eq (fun q hq => d4 q x hq hx)
  refine congrArg Int32.ofInt ?_
  rw [h, hc, su, show (iI s 9).toNat = uN U by omega, oa_c d3 e]
  show sm (fun x => sm (fun q => uM U q x) 24 * ovH (inL lo hi) ((uW U).1 x) ((uW U).2 x - 1).toNat) (uN U) = sm (fun q => sm (fun x => uM U q x * ovH (inL lo hi) ((uW U).1 x) ((uW U).2 x - 1).toNat) (uN U)) 24
  rw [← sm_swap (F := fun x q => uM U q x * ovH (inL lo hi) ((uW U).1 x) ((uW U).2 x - 1).toNat)]
  exact sm_eq (fun x _ => (sm_mulr 24).symm)
theorem inl_lo {lo hi : Int64} {v z : Int} (v0 : 0 ≤ v ∧ v < 64) : inL (lo ||| jshl 1 (v % 64)) hi z ↔ inL lo hi z ∨ z = v := by
  unfold inL
  constructor
  · rintro (⟨a, b, c⟩ | q)
    · rcases (jb_o (by omega) (by omega)).mp c with d | d
      · exact Or.inl (Or.inl ⟨a, b, d⟩)
      · exact Or.inr (by omega)
    · exact Or.inl (Or.inr q)
  · rintro ((⟨a, b, c⟩ | q) | q)
    · exact Or.inl ⟨a, b, (jb_o (by omega) (by omega)).mpr (Or.inl c)⟩
    · exact Or.inr q
    · exact Or.inl ⟨by omega, by omega, (jb_o (by omega) (by omega)).mpr (Or.inr (by omega))⟩
theorem inl_hg {lo hi : Int64} {v z : Int} (v0 : 64 ≤ v ∧ v ≤ 127) : inL lo (hi ||| jshl 1 (v % 64)) z ↔ inL lo hi z ∨ z = v := by
  unfold inL
  constructor
  · rintro (q | ⟨a, b, c⟩)
    · exact Or.inl (Or.inl q)
    · rcases (jb_o (by omega) (by omega)).mp c with d | d
      · exact Or.inl (Or.inr ⟨a, b, d⟩)
      · exact Or.inr (by omega)
  · rintro ((q | ⟨a, b, c⟩) | q)
    · exact Or.inl q
    · exact Or.inr ⟨a, b, (jb_o (by omega) (by omega)).mpr (Or.inl c)⟩
    · exact Or.inr ⟨by omega, by omega, (jb_o (by omega) (by omega)).mpr (Or.inr (by omega))⟩
/-- the bits of a set, as far as its first c cells -/
def RSL (f : Nat → Int) (x c : Int) (lo hi : Int64) : Prop := ∀ z : Int, inL lo hi z ↔ rgS f c.toNat x z
theorem rsl_0 {f : Nat → Int} {x : Int} : RSL f x 0 0 0 := fun z => ⟨fun q => by
  rcases q with ⟨_, _, q⟩ | ⟨_, _, q⟩
  · exact absurd q jb_z
  · exact absurd q jb_z, fun ⟨i, h, _⟩ => absurd h (Nat.not_lt_zero _)⟩
theorem rsl_n {f : Nat → Int} {x c : Int} {lo hi : Int64} (h : RSL f x c lo hi) (c0 : 0 ≤ c) (hb : ¬ bT (Int32.ofInt x) c.toNat = true) : RSL f x (c + 1) lo hi := fun z => by
  rw [rgs_up c0, h z]
  exact ⟨Or.inl, fun q => q.elim id (fun w => absurd w.1 hb)⟩
theorem rsl_l {f : Nat → Int} {x c v : Int} {lo hi : Int64} (h : RSL f x c lo hi) (c0 : 0 ≤ c) (hb : bT (Int32.ofInt x) c.toNat = true) (hv : v = f c.toNat) (v0 : 0 ≤ v ∧ v < 64) : RSL f x (c + 1) (lo ||| jshl 1 (v % 64)) hi := fun z => by
  rw [rgs_up c0, inl_lo v0, h z]
  exact ⟨fun q => q.imp id (fun w => ⟨hb, by rw [← hv]; exact w.symm⟩), fun q => q.imp id (fun w => by rw [hv]; exact w.2.symm)⟩
theorem rsl_h {f : Nat → Int} {x c v : Int} {lo hi : Int64} (h : RSL f x c lo hi) (c0 : 0 ≤ c) (hb : bT (Int32.ofInt x) c.toNat = true) (hv : v = f c.toNat) (v0 : 64 ≤ v ∧ v ≤ 127) : RSL f x (c + 1) lo (hi ||| jshl 1 (v % 64)) := fun z => by
  rw [rgs_up c0, inl_hg v0, h z]
  exact ⟨fun q => q.imp id (fun w => ⟨hb, by rw [← hv]; exact w.symm⟩), fun q => q.imp id (fun w => by rw [hv]; exact w.2.symm)⟩
theorem rsl_e {f : Nat → Int} {x c : Int} {n : Nat} {lo hi : Int64} (h : RSL f x c lo hi) (hc : c = (n : Int)) : inL lo hi = rgS f n x := funext (fun z => propext (by
  have w := h z
  rw [show c.toNat = n by omega] at w
  exact w))
abbrev ceC (s : PS) : Nat → Int := fun j => iC s 39 j
abbrev hgC (s : PS) : Int → Int := fun x => iC s 40 x.toNat
abbrev pkC (s : PS) : Int → Int := fun x => iC s 41 x.toNat
abbrev ovC (s : PS) : Int → Int := fun x => iC s 42 x.toNat
abbrev hfC (s : PS) : Nat → Int := fun j => iC s 43 j
abbrev nnC (s : PS) : Nat := (iI s 28).toNat
/-- a set was heard: its row of the tables -/
def HSB (U : AirD) (S : Int → Prop) (x : Int) (s t : PS) : Prop := TRW U S (hgC t x) (pkC t x) (ovC t x) ∧ ∀ j : Nat, j ≠ x.toNat → iC t 40 j = iC s 40 j ∧ iC t 41 j = iC s 41 j ∧ iC t 42 j = iC s 42 j
theorem hsb_y {U : AirD} {S : Int → Prop} {x a b c : Int} {s t : PS} (h1 : UPD 40 x a s t) (h2 : UPD 41 x b s t) (h3 : UPD 42 x c s t) (ha : a = 1) (hS : HngT S) (hb : b = pkH U S) (hc : Int32.ofInt c = ovQ U S 24) : HSB U S x s t := ⟨Or.inl ⟨h1.1.trans ha, hS, h2.1.trans hb, by show Int32.ofInt (iC t 42 x.toNat) = _; rw [h3.1]; exact hc⟩, fun j hj => ⟨h1.2 j hj, h2.2 j hj, h3.2 j hj⟩⟩
theorem hsb_n {U : AirD} {S : Int → Prop} {x a : Int} {s t : PS} (h1 : UPD 40 x a s t) (h2 : SAM 41 s t) (h3 : SAM 42 s t) (ha : a = 0) (hS : ¬ HngT S) : HSB U S x s t := ⟨Or.inr ⟨h1.1.trans ha, hS⟩, fun j hj => ⟨h1.2 j hj, h2 j, h3 j⟩⟩
theorem tbc_up {U : AirD} {f : Nat → Int} {n : Nat} {c : Int} {s t : PS} (h : TBQ U f n (hgC s) (pkC s) (ovC s) c) (c1 : 1 ≤ c) (w : HSB U (rgS f n c) c s t) : TBQ U f n (hgC t) (pkC t) (ovC t) (c + 1) := tbq_up h (fun x h1 h2 => w.2 x.toNat (by omega)) w.1
/-- the best so far, as the class keeps it -/
def BSC (n : Nat) : BsO → PS → Prop
  | none, s => iI s 31 = 0
  | some b, s => iI s 31 = 1 ∧ iI s 29 = b.1 ∧ iI s 30 = b.2.1 ∧ ∀ j : Nat, j < n → iC s 45 j = b.2.2 j
theorem bsc_s {n : Nat} {B : BsO} {s t : PS} (h : BSC n B s) (e1 : iI t 31 = iI s 31) (e2 : iI t 29 = iI s 29) (e3 : iI t 30 = iI s 30) (e4 : SAM 45 s t) : BSC n B t := by
  cases B with
  | none => exact e1.trans (show iI s 31 = 0 from h)
  | some b => exact ⟨e1.trans h.1, e2.trans h.2.1, e3.trans h.2.2.1, fun j hj => (e4 j).trans (h.2.2.2 j hj)⟩
theorem bsc_b {n : Nat} {B : BsO} {s : PS} {p o : Int} (h : BSC n B s) (hc : iI s 31 = 0 ∨ p < iI s 29 ∨ (p = iI s 29 ∧ o < iI s 30)) : btB B p o := by
  cases B with
  | none => exact trivial
  | some b =>
    obtain ⟨h1, h2, h3, -⟩ := h
    show p < b.1 ∨ (p = b.1 ∧ o < b.2.1)
    omega
theorem bsc_k {n : Nat} {B : BsO} {s : PS} {p o : Int} (h : BSC n B s) (hc : iI s 31 ≠ 0 ∧ (iI s 29 < p ∨ (p = iI s 29 ∧ iI s 30 ≤ o))) : ¬ btB B p o := by
  cases B with
  | none => exact absurd (show iI s 31 = 0 from h) hc.1
  | some b =>
    obtain ⟨h1, h2, h3, -⟩ := h
    show ¬ (p < b.1 ∨ (p = b.1 ∧ o < b.2.1))
    omega
theorem bsc_w {n : Nat} {h : Nat → Int} {p o : Int} {t : PS} (e1 : iI t 31 = 1) (e2 : iI t 29 = p) (e3 : iI t 30 = o) (e4 : ∀ j : Nat, j < n → iC t 45 j = h j) : BSC n (some (p, o, trH h n)) t := ⟨e1, e2, e3, fun j hj => (e4 j hj).trans (if_pos hj).symm⟩
/-- the masks of the heaps, as the class keeps them -/
def SUQ (x : Int) (s : PS) : Prop := ∀ g : Nat, g < 3 → iC s 44 g = msI (hfC s) (g : Int) x.toNat
def PLP (B : BsO) (x : Int) (s : PS) : Prop := BSC (nnC s) B s ∧ SUQ x s
def PLQ (B : BsO) (x y z : Int) (s t : PS) : Prop := BSC (nnC s) (plB (hgC s) (pkC s) (ovC s) z (nnC s) (nnC s - x.toNat) (hfC s) y B) t ∧ (∀ j : Nat, j < x.toNat → iC t 43 j = iC s 43 j) ∧ ∀ g : Nat, g < 3 → iC t 44 g = iC s 44 g
noncomputable def plF (s : PS) (x y z g : Int) (C : BsO) : BsO := plB (hgC s) (pkC s) (ovC s) z (nnC s) (nnC s - (x.toNat + 1)) (upH (hfC s) x.toNat g) (nuH g y) C
def PLL (B : BsO) (x y z : Int) (s : PS) (c : Int) (t : PS) : Prop := BSC (nnC s) (flB (plF s x y z) c.toNat B) t ∧ (∀ j : Nat, j < x.toNat → iC t 43 j = iC s 43 j) ∧ ∀ g : Nat, g < 3 → iC t 44 g = iC s 44 g
theorem pll_0 {B : BsO} {x y z : Int} {s : PS} (h : PLP B x s) : PLL B x y z s 0 s := ⟨h.1, fun _ _ => rfl, fun _ _ => rfl⟩
theorem pll_e {B : BsO} {x y z c : Int} {s t : PS} (h : PLL B x y z s c t) (x0 : 0 ≤ x ∧ x < iI s 28) (hc : (y < z ∧ c = y + 1) ∨ (z ≤ y ∧ c = z)) : PLQ B x y z s t := by
  refine ⟨?_, h.2⟩
  have w := h.1
  rw [cth_of hc] at w
  rw [show nnC s - x.toNat = nnC s - (x.toNat + 1) + 1 by show (iI s 28).toNat - x.toNat = (iI s 28).toNat - (x.toNat + 1) + 1; omega]
  have e : plF s x y z = (fun g C => plB (hgC s) (pkC s) (ovC s) z (nnC s) (nnC s - (x.toNat + 1)) (upH (hfC s) (nnC s - (nnC s - (x.toNat + 1) + 1)) g) (nuH g y) C) := funext (fun g => funext (fun C => by
    show plB (hgC s) (pkC s) (ovC s) z (nnC s) (nnC s - (x.toNat + 1)) (upH (hfC s) x.toNat g) (nuH g y) C = _
    rw [show nnC s - (nnC s - (x.toNat + 1) + 1) = x.toNat by show (iI s 28).toNat - ((iI s 28).toNat - (x.toNat + 1) + 1) = x.toNat; omega]))
  rw [e] at w
  exact w
/-- a heap is tried: ahead of the call, behind it -/
theorem pll_in {B : BsO} {x y z c m w : Int} {s t t2 : PS} (h : PLL B x y z s c t) (p : PLP B x s) (x0 : 0 ≤ x) (c0 : 0 ≤ c ∧ c ≤ 2) (h1 : UPD 43 x c t t2) (h2 : UPD 44 c w t t2) (hm : m = msI (hfC s) c x.toNat) (hw : w = m + pwI x.toNat) (en : iI t2 28 = iI s 28) (e1 : iI t2 31 = iI t 31) (e2 : iI t2 29 = iI t 29) (e3 : iI t2 30 = iI t 30) (e4 : SAM 45 t t2) : PLP (flB (plF s x y z) c.toNat B) (x + 1) t2 := by
  have eh : ∀ j : Nat, j < x.toNat → hfC t2 j = hfC s j := fun j hj => (h1.2 j (by omega)).trans (h.2.1 j hj)
  have ex : hfC t2 x.toNat = c := h1.1
  refine ⟨by rw [show nnC t2 = nnC s from congrArg Int.toNat en]; exact bsc_s h.1 e1 e2 e3 e4, fun g hg => ?_⟩
  rw [show (x + 1).toNat = x.toNat + 1 by omega]
  by_cases q : (g : Int) = c
  · rw [msi_y (ex.trans q.symm), msi_c x.toNat eh, q, ← hm, ← hw, show g = c.toNat by omega]
    exact h2.1
  · rw [msi_n (fun w => q (w.symm.trans ex)), msi_c x.toNat eh, h2.2 g (by omega), h.2.2 g hg]
    exact p.2 g hg
theorem pll_m {B : BsO} {x y z c : Int} {s t : PS} (h : PLL B x y z s c t) (p : PLP B x s) (c0 : 0 ≤ c ∧ c ≤ 2) : iC t 44 c.toNat = msI (hfC s) c x.toNat := by
  rw [h.2.2 c.toNat (by omega), p.2 c.toNat (by omega), show ((c.toNat : Nat) : Int) = c by omega]
theorem pll_up {B : BsO} {x y z c w v u : Int} {s t t2 t3 t4 : PS} (h : PLL B x y z s c t) (x0 : 0 ≤ x ∧ x < iI s 28) (c0 : 0 ≤ c ∧ c ≤ 2) (h1 : UPD 43 x c t t2) (h2 : UPD 44 c w t t2) (en : iI t2 28 = iI s 28) (eg : hgC t2 = hgC s) (ep : pkC t2 = pkC s) (eo : ovC t2 = ovC s) (hu : u = nuH c y) (k : PLQ (flB (plF s x y z) c.toNat B) (x + 1) u z t2 t3) (h4 : UPD 44 c v t3 t4) (h4e : SAM 43 t3 t4) (hv : v = iC t 44 c.toNat) (e1 : iI t4 31 = iI t3 31) (e2 : iI t4 29 = iI t3 29) (e3 : iI t4 30 = iI t3 30) (e4 : SAM 45 t3 t4) : PLL B x y z s (c + 1) t4 := by
  have es : nnC t2 = nnC s := congrArg Int.toNat en
  obtain ⟨k1, k2, k3⟩ := k
  refine ⟨?_, fun j hj => ?_, fun g hg => ?_⟩
  · rw [show (c + 1).toNat = c.toNat + 1 by omega]
    show BSC (nnC s) (plF s x y z ((c.toNat : Nat) : Int) (flB (plF s x y z) c.toNat B)) t4
    rw [show ((c.toNat : Nat) : Int) = c by omega]
    rw [es, eg, ep, eo, hu, show (x + 1).toNat = x.toNat + 1 by omega] at k1
    have e : plB (hgC s) (pkC s) (ovC s) z (nnC s) (nnC s - (x.toNat + 1)) (hfC t2) (nuH c y) (flB (plF s x y z) c.toNat B) = plF s x y z c (flB (plF s x y z) c.toNat B) := by
      show _ = plB (hgC s) (pkC s) (ovC s) z (nnC s) (nnC s - (x.toNat + 1)) (upH (hfC s) x.toNat c) (nuH c y) (flB (plF s x y z) c.toNat B)
      refine plb_c _ (Nat.sub_le _ _) (fun j hj => ?_)
      have hj' : j < x.toNat + 1 := by
        have : nnC s - (nnC s - (x.toNat + 1)) = x.toNat + 1 := by show (iI s 28).toNat - ((iI s 28).toNat - (x.toNat + 1)) = x.toNat + 1; omega
        omega
      show iC t2 43 j = if j = x.toNat then c else iC s 43 j
      by_cases q : j = x.toNat
      · rw [if_pos q, q]; exact h1.1
      · rw [if_neg q, h1.2 j q]; exact h.2.1 j (by omega)
    rw [e] at k1
    exact bsc_s k1 e1 e2 e3 e4
  · rw [h4e, k2 j (by omega), h1.2 j (by omega)]
    exact h.2.1 j hj
  · by_cases q : g = c.toNat
    · rw [q, h4.1, hv]; exact h.2.2 c.toNat (by omega)
    · rw [h4.2 g q, k3 g hg, h2.2 g q]; exact h.2.2 g hg
theorem plq_0 {B : BsO} {x y z : Int} {s t : PS} (hx : x = iI s 28) (h : BSC (nnC s) (cmB (hgC s) (pkC s) (ovC s) (nnC s) (hfC s) y B) t) (e1 : SAM 43 s t) (e2 : SAM 44 s t) : PLQ B x y z s t := by
  refine ⟨?_, fun j _ => e1 j, fun g _ => e2 g⟩
  rw [show nnC s - x.toNat = 0 by rw [hx]; exact Nat.sub_self _]
  exact h
/-- the class has solved it -/
def SVB (U : AirD) (f : Nat → Int) (n : Nat) (m : Int) (t : PS) : Prop := ∃ B, BQR U f n m B ∧ BSC n B t
theorem svb_of {U : AirD} {f : Nat → Int} {m : Int} {n : Nat} {s t : PS} (ht : TBQ U f n (hgC s) (pkC s) (ovC s) (pwI n)) (en : nnC s = n) (h : PLQ none 0 0 m s t) : SVB U f n m t := by
  refine ⟨_, ⟨hgC s, pkC s, ovC s, hfC s, ht, rfl⟩, ?_⟩
  have w := h.1
  rw [en, show n - (0 : Int).toNat = n by omega] at w
  exact w
theorem svb_0 {U : AirD} {f : Nat → Int} {n : Nat} {m w : Int} {t : PS} (h : SVB U f n m t) (h0 : iI t 31 = 0) : ∃ B, BQR U f n m B ∧ pdB B w (-1) := by
  obtain ⟨B, a, b⟩ := h
  cases B with
  | none => exact ⟨none, a, rfl⟩
  | some c =>
    have := b.1
    omega
theorem svb_1 {U : AirD} {f : Nat → Int} {n : Nat} {m w e : Int} {t : PS} (h : SVB U f n m t) (h0 : iI t 31 ≠ 0) (he : (w = -1 ∧ e = iI t 29) ∨ (w = -2 ∧ e = iI t 30) ∨ (0 ≤ w ∧ w.toNat < n ∧ e = iC t 45 w.toNat)) : ∃ B, BQR U f n m B ∧ pdB B w e := by
  obtain ⟨B, a, b⟩ := h
  cases B with
  | none => exact absurd (show iI t 31 = 0 from b) h0
  | some c =>
    obtain ⟨b1, b2, b3, b4⟩ := b
    refine ⟨some c, a, ?_⟩
    show (w = -1 ∧ e = c.1) ∨ (w = -2 ∧ e = c.2.1) ∨ (0 ≤ w ∧ e = c.2.2 w.toNat)
    rcases he with ⟨h1, h2⟩ | ⟨h1, h2⟩ | ⟨h1, h2, h3⟩
    · exact Or.inl ⟨h1, h2.trans b2⟩
    · exact Or.inr (Or.inl ⟨h1, h2.trans b3⟩)
    · exact Or.inr (Or.inr ⟨h1, h3.trans (b4 _ h2)⟩)
section M87kr
variable {l : Launch} {s0 : State} {D : va_G} {tys : List (ClassId × FieldType)} {a0 : Array Value} {A : Nat → Nat} {dT : Nat → ClassId} {s : PS}
set_option maxRecDepth 4000 in
theorem c9_retell8 (G : GX l s0 D tys a0 dT) (I : Bd s) (jMTJ : MTJ s) {x : Int} (p0 : 0 ≤ x ∧ x ≤ 11) : CT l s0 D A dT 116 (rmN 116) [.ref (A 3), .int (Int32.ofInt x)] s (fun o t => Bd t ∧ Fm [] [11, 12, 13, 14] s t ∧ TWJ t ∧ MTJ t ∧ o = .inl none ∧ (RTQ x 24 s t ∧ RTS x 24 s t)) := by
  refine ct_ofX G (by decide) (Nat.le_of_ble_eq_true rfl) (fun k X E ET hRt hXt q => ?_)
  show WS k 0 [(0, .ref (A 3)), (1, .int (Int32.ofInt x))] [] _ 0 0
  have F : Fm [] [11, 12, 13, 14] s s := fm_rf _ _ s
  have aw0_11 : SAM 11 s s := sam_rf
  have aw0_12 : SAM 12 s s := sam_rf
  have aw0_13 : SAM 13 s s := sam_rf
  have b1 := bi_9 I
  have L16 : ∀ (n : Nat) (t : PS) (xv qq : Int), Bd t → Fm [] [11, 12, 13, 14] s t → ((RTQ x qq s t ∧ RTS x qq s t) ∧ RTM x qq s t) → (xv = x ∧ (0 ≤ xv ∧ xv ≤ 11) ∧ 0 ≤ qq ∧ qq ≤ 24 ∧ iC t 12 (xv).toNat ≤ 50 * qq ∧ iC t 13 (xv).toNat ≤ 50 * qq ∧ iI t 9 = iI s 9) → (24 - qq : Int).toNat < n → (∀ (t' : PS) (qq' : Int), Bd t' → Fm [] [11, 12, 13, 14] s t' → ((RTQ x 24 s t' ∧ RTS x 24 s t') ∧ RTM x 24 s t') → (qq' = 24 ∧ xv = x ∧ iI t' 9 = iI s 9) → WS k 77 [(0, .ref (A 3)), (1, .int (Int32.ofInt xv)), (2, .int (Int32.ofInt qq'))] [] (Wd A dT t') 0 0) → WS k 16 [(0, .ref (A 3)), (1, .int (Int32.ofInt xv)), (2, .int (Int32.ofInt qq))] [] (Wd A dT t) 0 0 := by
    intro n
    induction n with
    | zero =>
      intro t xv qq I F hq hi hm kx
      exact absurd hm (Nat.not_lt_zero _)
    | succ n ih =>
      intro t xv qq I F hq hi hm kx
      have b1001 := bi_9 I
      refine z_load_n X (x := qq) rfl (List.Mem.tail _ (List.Mem.tail _ (List.Mem.head _))) (z_bipush X rfl (z_icmp_ge X (t := 77) rfl rfl ⟨by first | exact oq_fa4e5087 hi.2.2.1 | omega, by first | exact oq_5bcd337f hi.2.2.2.1 | omega⟩ (by decide) (fun g1002 => ?_) (fun g1002 => ?_)))
      ·
        refine WS_pq [0, 1, 2] (lv' := [(0, .ref (A 3)), (1, .int (Int32.ofInt xv)), (2, .int (Int32.ofInt qq))]) rfl ?_
        exact kx _ qq I F (by rw [show (24 : Int) = qq by omega]; exact hq) (by first | exact ⟨oq_ea1742b3 hi.2.2.2.1 g1002, hi.1, hi.2.2.2.2.2.2⟩ | omega)
      ·
        refine z_aload_n X (x := A 3) rfl (List.Mem.head _) (z_load_n X (x := xv) rfl (List.Mem.tail _ (List.Mem.head _)) (z_load_n X (x := qq) rfl (List.Mem.tail _ (List.Mem.tail _ (List.Mem.head _))) (zcV_i0 X E 3 (As := [.int (Int32.ofInt xv), .int (Int32.ofInt qq)]) (st := []) rfl rfl rfl rfl (c9_mostIn2 G I (by first | exact ⟨hi.2.1.1, hi.2.1.2⟩ | omega) (by first | exact ⟨hi.2.2.1, oq_c69fe266 g1002⟩ | omega)) rfl (Nat.le_of_ble_eq_true rfl) (fun s1003 e1004 Is1003 Fs1003 hrs1003 hps1003 => ?_))))
        have Gs1003 := fm_tq F Fs1003 rfl rfl
        have cw1005 : iC s1003 12 (xv).toNat = iC t 12 (xv).toNat := fm_c Fs1003 (by decide)
        have cw1006 : iC s1003 13 (xv).toNat = iC t 13 (xv).toNat := fm_c Fs1003 (by decide)
        have ws1003_9 : iI s1003 9 = iI t 9 := fm_iq Fs1003 rfl
        have aws1003_11 : SAM 11 t s1003 := sam_ts (sam_rf (a := 11) (s := t)) (sam_fm Fs1003 (by decide))
        have aws1003_12 : SAM 12 t s1003 := sam_ts (sam_rf (a := 12) (s := t)) (sam_fm Fs1003 (by decide))
        have aws1003_8 : SAM 8 t s1003 := sam_ts (sam_rf (a := 8) (s := t)) (sam_fm Fs1003 (by decide))
        have aws1003_13 : SAM 13 t s1003 := sam_ts (sam_rf (a := 13) (s := t)) (sam_fm Fs1003 (by decide))
        refine z_store_n X (lv' := [(3, .int (Int32.ofInt e1004)), (0, .ref (A 3)), (1, .int (Int32.ofInt xv)), (2, .int (Int32.ofInt qq))]) rfl (by decide) (fun _ h => h) (z_aload_n X (x := A 3) rfl (List.Mem.tail _ (List.Mem.head _)) (s_getR X 3 rfl (c518_ok rfl) rfl rfl (z_load_n X (x := qq) rfl (List.Mem.tail _ (List.Mem.tail _ (List.Mem.tail _ (List.Mem.head _)))) (z_bipush X rfl (z_mul X rfl (z_load_n X (x := xv) rfl (List.Mem.tail _ (List.Mem.tail _ (List.Mem.head _))) (z_add X rfl (z_load_n X (x := e1004) rfl (List.Mem.head _) (z_ast X 14 rfl (c518_ok rfl) rfl (by first | exact oq_1d1618ee hi.2.1.1 hi.2.2.1 | omega) (show ((qq * 12) + xv) < 288 by first | exact oq_b653f49d g1002 hi.2.1.2 | omega) (cbig_ok rfl) (wd_gen (fun s1007 hs1007 => ?_)))))))))))
        have Is1007 : Bd s1007 := eqB hs1007 (bd_C Is1003 (show (0 : Int) ≤ e1004 ∧ e1004 ≤ 50 by first | exact ⟨hps1003.1, hps1003.2.1⟩ | omega) hrs1003)
        have Fs1007 := eqF hs1007 (fm_C Gs1003 (inl_ok (a := 11) rfl))
        have ws1007_9 : iI s1007 9 = iI s1003 9 := eqI hs1007 rfl
        have aws1007_11 : UPD 11 (((qq * 12) + xv)) e1004 t s1007 := by rw [hs1007]; exact upd_put aws1003_11 hrs1003
        have aws1007_12 : SAM 12 t s1007 := by rw [hs1007]; exact sam_C (by decide) aws1003_12
        have aws1007_8 : SAM 8 t s1007 := by rw [hs1007]; exact sam_C (by decide) aws1003_8
        have aws1007_13 : SAM 13 t s1007 := by rw [hs1007]; exact sam_C (by decide) aws1003_13
        have cw1008 : iC s1007 12 (xv).toNat = iC s1003 12 (xv).toNat := eqC hs1007 (iC_a (by omega))
        have cw1009 : iC s1007 13 (xv).toNat = iC s1003 13 (xv).toNat := eqC hs1007 (iC_a (by omega))
        refine z_aload_n X (x := A 3) rfl (List.Mem.tail _ (List.Mem.head _)) (s_getR X 3 rfl (c518_ok rfl) rfl rfl (z_load_n X (x := xv) rfl (List.Mem.tail _ (List.Mem.tail _ (List.Mem.head _))) (w_dup2_11 X.1 (ax_d X (show cdA 116 46 = some (.dup2, 1, 0, 0, 0) from rfl)) rfl rfl (z_ald X 15 rfl (c518_ok rfl) rfl (by first | exact hi.2.1.1 | omega) (show xv < 12 by first | exact oq_0ddfcfee hi.2.1.2 | omega) (cbig_ok rfl) ?_))))
        have b1010 := bc_12 Is1007 (show (xv).toNat < 12 by first | exact oq_9c5fa447 hi.2.1.2 | omega)
        have ar1011 : iC s1007 12 (xv).toNat = iC t 12 (xv).toNat := aws1007_12 _
        refine z_aload_n X (x := A 3) rfl (List.Mem.tail _ (List.Mem.head _)) (s_getR X 3 rfl (c518_ok rfl) rfl rfl (z_load_n X (x := xv) rfl (List.Mem.tail _ (List.Mem.tail _ (List.Mem.head _))) (z_bipush X rfl (z_mul X rfl (z_load_n X (x := qq) rfl (List.Mem.tail _ (List.Mem.tail _ (List.Mem.tail _ (List.Mem.head _)))) (z_add X rfl (z_ald X 11 rfl (c518_ok rfl) rfl (by first | exact oq_4071a75f hi.2.1.1 hi.2.2.1 | omega) (show ((xv * 24) + qq) < 288 by first | exact oq_86e8e22d hi.2.1.2 g1002 | omega) (cbig_ok rfl) ?_)))))))
        have b1012 := bc_8 Is1007 (show (((xv * 24) + qq)).toNat < 288 by first | exact oq_7d86e3d4 hi.2.1.2 g1002 | omega)
        have ar1013 : iC s1007 8 (((xv * 24) + qq)).toNat = iC t 8 (((xv * 24) + qq)).toNat := aws1007_8 _
        refine z_add X rfl (z_ast X 15 rfl (c518_ok rfl) rfl (by first | exact hi.2.1.1 | omega) (show xv < 12 by first | exact oq_0ddfcfee hi.2.1.2 | omega) (cbig_ok rfl) (wd_gen (fun s1014 hs1014 => ?_)))
        have Is1014 : Bd s1014 := eqB hs1014 (bd_C Is1007 (show (0 : Int) ≤ ((iC s1007 12 (xv).toNat) + (iC s1007 8 (((xv * 24) + qq)).toNat)) ∧ ((iC s1007 12 (xv).toNat) + (iC s1007 8 (((xv * 24) + qq)).toNat)) ≤ 1200 by first | exact ⟨oq_d8d6a599 b1012.1 b1010.1, oq_7ef63f09 b1012.2 ar1011 hi.2.2.2.2.1 g1002⟩ | omega) ⟨by first | exact oq_46831602 b1012.1 b1010.1 | omega, by first | exact oq_9e0d5d26 b1012.2 b1010.2 | omega⟩)
        have Fs1014 := eqF hs1014 (fm_C Fs1007 (inl_ok (a := 12) rfl))
        have ws1014_9 : iI s1014 9 = iI s1007 9 := eqI hs1014 rfl
        have vs1014 : iC s1014 12 (xv).toNat = ((iC s1007 12 (xv).toNat) + (iC s1007 8 (((xv * 24) + qq)).toNat)) := eqC hs1014 (iC_u ⟨by first | exact oq_46831602 b1012.1 b1010.1 | omega, by first | exact oq_9e0d5d26 b1012.2 b1010.2 | omega⟩)
        have aws1014_11 : UPD 11 (((qq * 12) + xv)) e1004 t s1014 := by rw [hs1014]; exact upd_C (by decide) aws1007_11
        have aws1014_12 : UPD 12 (xv) ((iC s1007 12 (xv).toNat) + (iC s1007 8 (((xv * 24) + qq)).toNat)) t s1014 := by rw [hs1014]; exact upd_put aws1007_12 ⟨by first | exact oq_46831602 b1012.1 b1010.1 | omega, by first | exact oq_9e0d5d26 b1012.2 b1010.2 | omega⟩
        have aws1014_8 : SAM 8 t s1014 := by rw [hs1014]; exact sam_C (by decide) aws1007_8
        have aws1014_13 : SAM 13 t s1014 := by rw [hs1014]; exact sam_C (by decide) aws1007_13
        have cw1015 : iC s1014 13 (xv).toNat = iC s1007 13 (xv).toNat := eqC hs1014 (iC_a (by omega))
        refine z_aload_n X (x := A 3) rfl (List.Mem.tail _ (List.Mem.head _)) (s_getR X 3 rfl (c518_ok rfl) rfl rfl (z_load_n X (x := xv) rfl (List.Mem.tail _ (List.Mem.tail _ (List.Mem.head _))) (w_dup2_11 X.1 (ax_d X (show cdA 116 66 = some (.dup2, 1, 0, 0, 0) from rfl)) rfl rfl (z_ald X 16 rfl (c518_ok rfl) rfl (by first | exact hi.2.1.1 | omega) (show xv < 12 by first | exact oq_0ddfcfee hi.2.1.2 | omega) (cbig_ok rfl) ?_))))
        have b1016 := bc_13 Is1014 (show (xv).toNat < 12 by first | exact oq_9c5fa447 hi.2.1.2 | omega)
        have ar1017 : iC s1014 13 (xv).toNat = iC t 13 (xv).toNat := aws1014_13 _
        refine z_load_n X (x := e1004) rfl (List.Mem.head _) (z_add X rfl (z_ast X 16 rfl (c518_ok rfl) rfl (by first | exact hi.2.1.1 | omega) (show xv < 12 by first | exact oq_0ddfcfee hi.2.1.2 | omega) (cbig_ok rfl) (wd_gen (fun s1018 hs1018 => ?_))))
        have Is1018 : Bd s1018 := eqB hs1018 (bd_C Is1014 (show (0 : Int) ≤ ((iC s1014 13 (xv).toNat) + e1004) ∧ ((iC s1014 13 (xv).toNat) + e1004) ≤ 1200 by first | exact ⟨oq_d8d6a599 hps1003.1 b1016.1, oq_7ef63f09 hps1003.2.1 ar1017 hi.2.2.2.2.2.1 g1002⟩ | omega) ⟨by first | exact oq_46831602 hps1003.1 b1016.1 | omega, by first | exact oq_9e0d5d26 hps1003.2.1 b1016.2 | omega⟩)
        have Fs1018 := eqF hs1018 (fm_C Fs1014 (inl_ok (a := 13) rfl))
        have ws1018_9 : iI s1018 9 = iI s1014 9 := eqI hs1018 rfl
        have vs1018 : iC s1018 13 (xv).toNat = ((iC s1014 13 (xv).toNat) + e1004) := eqC hs1018 (iC_u ⟨by first | exact oq_46831602 hps1003.1 b1016.1 | omega, by first | exact oq_9e0d5d26 hps1003.2.1 b1016.2 | omega⟩)
        have aws1018_11 : UPD 11 (((qq * 12) + xv)) e1004 t s1018 := by rw [hs1018]; exact upd_C (by decide) aws1014_11
        have aws1018_12 : UPD 12 (xv) ((iC s1007 12 (xv).toNat) + (iC s1007 8 (((xv * 24) + qq)).toNat)) t s1018 := by rw [hs1018]; exact upd_C (by decide) aws1014_12
        have aws1018_8 : SAM 8 t s1018 := by rw [hs1018]; exact sam_C (by decide) aws1014_8
        have aws1018_13 : UPD 13 (xv) ((iC s1014 13 (xv).toNat) + e1004) t s1018 := by rw [hs1018]; exact upd_put aws1014_13 ⟨by first | exact oq_46831602 hps1003.1 b1016.1 | omega, by first | exact oq_9e0d5d26 hps1003.2.1 b1016.2 | omega⟩
        have cw1019 : iC s1018 12 (xv).toNat = iC s1014 12 (xv).toNat := eqC hs1018 (iC_a (by omega))
        refine z_inc X (x := qq) (lv' := [(2, .int (Int32.ofInt (qq + 1))), (3, .int (Int32.ofInt e1004)), (0, .ref (A 3)), (1, .int (Int32.ofInt xv))]) rfl (by decide) (List.Mem.tail _ (List.Mem.tail _ (List.Mem.tail _ (List.Mem.head _)))) (fun _ h => h) (z_goto X (t := 16) rfl rfl (WS_pq [2, 3, 0] (lv' := [(0, .ref (A 3)), (1, .int (Int32.ofInt xv)), (2, .int (Int32.ofInt (qq + 1)))]) rfl ?_))
        exact ih _ xv (qq + 1) Is1018 Fs1018 ⟨⟨rtq_up hq.1.1 (upd_ix aws1018_11 (by rw [show xv = x by omega])) (mx_st hps1003.2.2 (sam_fm F (by decide) : SAM 8 s t) (sam_fm F (by decide) : SAM 10 s t) (sam_fm F (by decide) : SAM 9 s t) (by omega)) (by omega) (by omega) (by omega) (by omega), rts_up (v := CNR s x qq) hq.1.2 (upd_ix aws1018_12 (by omega)) (by rw [show x = xv by omega]; unfold CNR; have z1 := (sam_fm F (by decide) : SAM 8 s t) (xv * 24 + qq).toNat; omega) rfl (by omega) (by omega)⟩, rtm_up hq.2 (upd_ix aws1018_11 (by rw [show xv = x by omega])) (upd_ix aws1018_13 (by omega)) (by rw [show x = xv by omega]; omega) (by omega) (by omega)⟩ (by first | exact ⟨hi.1, And.intro (hi.2.1.1) (hi.2.1.2), oq_54f49eb5 hi.2.2.1, oq_cec7cb2e g1002, oq_99166280 cw1019 vs1014 hi.2.2.2.2.1 ar1011 b1012.2, oq_e32bd5ee vs1018 hps1003.2.1 hi.2.2.2.2.2.1 ar1017, oq_b4d295d9 ws1018_9 hi.2.2.2.2.2.2 ws1014_9 ws1007_9 ws1003_9⟩ | omega) (by first | exact qk_me hm (by decide) (oq_ffa8317e g1002) | omega) kx
  have L79 : ∀ (n : Nat) (t : PS) (xv qq : Int), Bd t → Fm [] [11, 12, 13, 14] s t → (((RTQ x 24 s t ∧ RTS x 24 s t) ∧ TWN qq t) ∧ RTM x 24 s t) → (0 ≤ qq ∧ qq ≤ 24 ∧ iI t 9 = iI s 9) → (24 - qq : Int).toNat < n → (∀ (t' : PS) (qq' : Int), Bd t' → Fm [] [11, 12, 13, 14] s t' → (((RTQ x 24 s t' ∧ RTS x 24 s t') ∧ TWN qq' t') ∧ RTM x 24 s t') → (qq' = 24 ∧ iI t' 9 = iI s 9) → WS k 102 [(0, .ref (A 3)), (1, .int (Int32.ofInt xv)), (2, .int (Int32.ofInt qq'))] [] (Wd A dT t') 0 0) → WS k 79 [(0, .ref (A 3)), (1, .int (Int32.ofInt xv)), (2, .int (Int32.ofInt qq))] [] (Wd A dT t) 0 0 := by
    intro n
    induction n with
    | zero =>
      intro t xv qq I F hq hi hm kx
      exact absurd hm (Nat.not_lt_zero _)
    | succ n ih =>
      intro t xv qq I F hq hi hm kx
      have b2001 := bi_9 I
      refine z_load_n X (x := qq) rfl (List.Mem.tail _ (List.Mem.tail _ (List.Mem.head _))) (z_bipush X rfl (z_icmp_ge X (t := 102) rfl rfl ⟨by first | exact oq_fa4e5087 hi.1 | omega, by first | exact oq_5bcd337f hi.2.1 | omega⟩ (by decide) (fun g2002 => ?_) (fun g2002 => ?_)))
      ·
        refine WS_pq [0, 1, 2] (lv' := [(0, .ref (A 3)), (1, .int (Int32.ofInt xv)), (2, .int (Int32.ofInt qq))]) rfl ?_
        exact kx _ qq I F hq (by first | exact ⟨oq_ea1742b3 hi.2.1 g2002, hi.2.2⟩ | omega)
      ·
        refine z_aload_n X (x := A 3) rfl (List.Mem.head _) (s_getR X 3 rfl (c518_ok rfl) rfl rfl (z_load_n X (x := qq) rfl (List.Mem.tail _ (List.Mem.tail _ (List.Mem.head _))) (z_aload_n X (x := A 3) rfl (List.Mem.head _) (z_load_n X (x := qq) rfl (List.Mem.tail _ (List.Mem.tail _ (List.Mem.head _))) (zcV_i0 X E 3 (As := [.int (Int32.ofInt qq)]) (st := [.int (Int32.ofInt qq), .ref (A 17)]) rfl rfl rfl rfl (c9_twinOf3 G I (by first | exact ⟨hi.1, oq_c69fe266 g2002⟩ | omega)) rfl (Nat.le_of_ble_eq_true rfl) (fun s2003 e2004 Is2003 Fs2003 hrs2003 hps2003 => ?_))))))
        have Gs2003 := fm_tq F Fs2003 rfl rfl
        have cw2005 : iC s2003 12 (xv).toNat = iC t 12 (xv).toNat := fm_c Fs2003 (by decide)
        have cw2006 : iC s2003 13 (xv).toNat = iC t 13 (xv).toNat := fm_c Fs2003 (by decide)
        have ws2003_9 : iI s2003 9 = iI t 9 := fm_iq Fs2003 rfl
        have aws2003_11 : SAM 11 t s2003 := sam_ts (sam_rf (a := 11) (s := t)) (sam_fm Fs2003 (by decide))
        have aws2003_12 : SAM 12 t s2003 := sam_ts (sam_rf (a := 12) (s := t)) (sam_fm Fs2003 (by decide))
        have aws2003_8 : SAM 8 t s2003 := sam_ts (sam_rf (a := 8) (s := t)) (sam_fm Fs2003 (by decide))
        have aws2003_14 : SAM 14 t s2003 := sam_ts (sam_rf (a := 14) (s := t)) (sam_fm Fs2003 (by decide))
        have aws2003_13 : SAM 13 t s2003 := sam_ts (sam_rf (a := 13) (s := t)) (sam_fm Fs2003 (by decide))
        refine z_ast X 17 rfl (c518_ok rfl) rfl (by first | exact hi.1 | omega) (show qq < 24 by first | exact g2002 | omega) (cbig_ok rfl) (wd_gen (fun s2007 hs2007 => ?_))
        have Is2007 : Bd s2007 := eqB hs2007 (bd_C Is2003 (show (0 : Int) ≤ e2004 ∧ e2004 ≤ 23 by first | exact ⟨hps2003.1.1, oq_500f2c54 hps2003.1.2 g2002⟩ | omega) hrs2003)
        have Fs2007 := eqF hs2007 (fm_C Gs2003 (inl_ok (a := 14) rfl))
        have ws2007_9 : iI s2007 9 = iI s2003 9 := eqI hs2007 rfl
        have aws2007_11 : SAM 11 t s2007 := by rw [hs2007]; exact sam_C (by decide) aws2003_11
        have aws2007_12 : SAM 12 t s2007 := by rw [hs2007]; exact sam_C (by decide) aws2003_12
        have aws2007_8 : SAM 8 t s2007 := by rw [hs2007]; exact sam_C (by decide) aws2003_8
        have aws2007_14 : UPD 14 (qq) e2004 t s2007 := by rw [hs2007]; exact upd_put aws2003_14 hrs2003
        have aws2007_13 : SAM 13 t s2007 := by rw [hs2007]; exact sam_C (by decide) aws2003_13
        have cw2008 : iC s2007 12 (xv).toNat = iC s2003 12 (xv).toNat := eqC hs2007 (iC_a (by omega))
        have cw2009 : iC s2007 13 (xv).toNat = iC s2003 13 (xv).toNat := eqC hs2007 (iC_a (by omega))
        refine z_inc X (x := qq) (lv' := [(2, .int (Int32.ofInt (qq + 1))), (0, .ref (A 3)), (1, .int (Int32.ofInt xv))]) rfl (by decide) (List.Mem.tail _ (List.Mem.tail _ (List.Mem.head _))) (fun _ h => h) (z_goto X (t := 79) rfl rfl (WS_pq [1, 2, 0] (lv' := [(0, .ref (A 3)), (1, .int (Int32.ofInt xv)), (2, .int (Int32.ofInt (qq + 1)))]) rfl ?_))
        exact ih _ xv (qq + 1) Is2007 Fs2007 ⟨⟨⟨rtq_sam hq.1.1.1 aws2007_11, rts_sam hq.1.1.2 aws2007_12⟩, twn_up hq.1.2 (by omega) hps2003 aws2007_14 aws2007_11 (by omega)⟩, rtm_sam hq.2 aws2007_13 aws2007_11⟩ (by first | exact ⟨oq_54f49eb5 hi.1, oq_cec7cb2e g2002, oq_d0d2714e ws2007_9 hi.2.2 ws2003_9⟩ | omega) (by first | exact qk_me hm (by decide) (oq_ffa8317e g2002) | omega) kx
  refine z_aload_n X (x := A 3) rfl (List.Mem.head _) (s_getR X 3 rfl (c518_ok rfl) rfl rfl (z_load_n X (x := x) rfl (List.Mem.tail _ (List.Mem.head _)) (z_const X rfl (z_ast X 15 rfl (c518_ok rfl) rfl (by first | exact p0.1 | omega) (show x < 12 by first | exact oq_0ddfcfee p0.2 | omega) (cbig_ok rfl) (wd_gen (fun s2 hs2 => ?_))))))
  have Is2 : Bd s2 := eqB hs2 (bd_C I (show (0 : Int) ≤ 0 ∧ 0 ≤ 1200 by first | exact ⟨by decide, by decide⟩ | omega) (by decide))
  have Fs2 := eqF hs2 (fm_C F (inl_ok (a := 12) rfl))
  have ws2_9 : iI s2 9 = iI s 9 := eqI hs2 rfl
  have vs2 : iC s2 12 (x).toNat = 0 := eqC hs2 (iC_u (by decide))
  have aws2_11 : SAM 11 s s2 := by rw [hs2]; exact sam_C (by decide) aw0_11
  have aws2_12 : UPD 12 (x) 0 s s2 := by rw [hs2]; exact upd_put aw0_12 (by decide)
  have aws2_13 : SAM 13 s s2 := by rw [hs2]; exact sam_C (by decide) aw0_13
  have cw3 : iC s2 13 (x).toNat = iC s 13 (x).toNat := eqC hs2 (iC_a (by omega))
  have fs2 : Fm [] [12] s s2 := by rw [hs2]; exact fm_C (fm_rf _ _ _) (show 12 ∈ _ by decide)
  have JMTJ_s2 : MTJ s2 := MTJ_fm fs2 (by decide) jMTJ
  refine z_aload_n X (x := A 3) rfl (List.Mem.head _) (s_getR X 3 rfl (c518_ok rfl) rfl rfl (z_load_n X (x := x) rfl (List.Mem.tail _ (List.Mem.head _)) (z_const X rfl (z_ast X 16 rfl (c518_ok rfl) rfl (by first | exact p0.1 | omega) (show x < 12 by first | exact oq_0ddfcfee p0.2 | omega) (cbig_ok rfl) (wd_gen (fun s4 hs4 => ?_))))))
  have Is4 : Bd s4 := eqB hs4 (bd_C Is2 (show (0 : Int) ≤ 0 ∧ 0 ≤ 1200 by first | exact ⟨by decide, by decide⟩ | omega) (by decide))
  have Fs4 := eqF hs4 (fm_C Fs2 (inl_ok (a := 13) rfl))
  have ws4_9 : iI s4 9 = iI s2 9 := eqI hs4 rfl
  have vs4 : iC s4 13 (x).toNat = 0 := eqC hs4 (iC_u (by decide))
  have aws4_11 : SAM 11 s s4 := by rw [hs4]; exact sam_C (by decide) aws2_11
  have aws4_12 : UPD 12 (x) 0 s s4 := by rw [hs4]; exact upd_C (by decide) aws2_12
  have aws4_13 : UPD 13 (x) 0 s s4 := by rw [hs4]; exact upd_put aws2_13 (by decide)
  have cw5 : iC s4 12 (x).toNat = iC s2 12 (x).toNat := eqC hs4 (iC_a (by omega))
  refine z_const X rfl (z_store_n X (lv' := [(2, .int (Int32.ofInt 0)), (0, .ref (A 3)), (1, .int (Int32.ofInt x))]) rfl (by decide) (fun _ h => h) (WS_pq [1, 2, 0] (lv' := [(0, .ref (A 3)), (1, .int (Int32.ofInt x)), (2, .int (Int32.ofInt 0))]) rfl (L16 ((24 - 0 : Int).toNat + 1) s4 x 0 Is4 Fs4 ⟨⟨rtq_0 aws4_11, rts_0 aws4_12 (by omega)⟩, rtm_0 aws4_13⟩ (by first | exact ⟨by decide, And.intro (p0.1) (p0.2), by decide, by decide, oq_b7d23363 cw5 vs2, oq_d4917756 vs4, oq_1aa5be9e ws4_9 ws2_9⟩ | omega) (Nat.lt_succ_self _) ?_)))
  intro s6 x7 Is6 Fs6 Qs6 hs6
  have b8 := bi_9 Is6
  refine z_const X rfl (z_store_n X (lv' := [(2, .int (Int32.ofInt 0)), (0, .ref (A 3)), (1, .int (Int32.ofInt x))]) rfl (by decide) (fun _ h => h) (WS_pq [1, 2, 0] (lv' := [(0, .ref (A 3)), (1, .int (Int32.ofInt x)), (2, .int (Int32.ofInt 0))]) rfl (L79 ((24 - 0 : Int).toNat + 1) s6 x 0 Is6 Fs6 ⟨⟨Qs6.1, fun j hj => absurd hj (by omega)⟩, Qs6.2⟩ (by first | exact ⟨by decide, by decide, hs6.2.2⟩ | omega) (Nat.lt_succ_self _) ?_)))
  intro s9 x10 Is9 Fs9 Qs9 hs9
  have b11 := bi_9 Is9
  have hTW : TWJ s9 := by have z := Qs9.1.2; rw [show x10 = 24 by omega] at z; exact z
  have hMT : MTJ s9 := mtj_up jMTJ Qs9.2 Qs9.1.1.1 (by omega)
  exact w_vret X.1 q hRt (ax_d X (show cdA 116 102 = some (.return_, 1, 0, 0, 0) from rfl)) (Nat.zero_le _) (Nat.zero_le _) ⟨_, rfl, Is9, Fs9, hTW, hMT, rfl, Qs9.1.1⟩
set_option maxRecDepth 4000 in
theorem c9_setCounts8 (G : GX l s0 D tys a0 dT) (I : Bd s) (jMOI : MOI s) (jMTJ : MTJ s) {x y z w : Int} (p0 : 0 ≤ x ∧ x ≤ 11) (p1 : 0 ≤ y ∧ y ≤ 23) (p2 : 0 ≤ z ∧ z ≤ 23) (p3 : 0 ≤ w ∧ w ≤ 50) (p4 : y ≤ z) : CT l s0 D A dT 114 (rmN 114) [.ref (A 3), .int (Int32.ofInt x), .int (Int32.ofInt y), .int (Int32.ofInt z), .int (Int32.ofInt w)] s (fun o t => Bd t ∧ Fm [] [8, 11, 12, 13, 14] s t ∧ TWJ t ∧ MTJ t ∧ o = .inl none ∧ (MOI t ∧ FLU (CNR s) (CNR t) x y (z + 1) w)) := by
  refine ct_ofX G (by decide) (Nat.le_of_ble_eq_true rfl) (fun k X E ET hRt hXt q => ?_)
  show WS k 0 [(0, .ref (A 3)), (1, .int (Int32.ofInt x)), (2, .int (Int32.ofInt y)), (3, .int (Int32.ofInt z)), (4, .int (Int32.ofInt w))] [] _ 0 0
  have F : Fm [] [8, 11, 12, 13, 14] s s := fm_rf _ _ s
  have L3 : ∀ (n : Nat) (t : PS) (xv zv wv qq : Int), Bd t → Fm [] [8, 11, 12, 13, 14] s t → MTJ t → (FLU (CNR s) (CNR t) x y qq w ∧ SAM 11 s t ∧ SAM 12 s t) → ((xv = x ∧ zv = z ∧ wv = w ∧ y ≤ qq ∧ qq ≤ z + 1) ∧ (0 ≤ xv ∧ xv ≤ 11) ∧ (0 ≤ zv ∧ zv ≤ 23) ∧ (0 ≤ wv ∧ wv ≤ 50) ∧ 0 ≤ qq ∧ qq ≤ 24) → (24 - qq : Int).toNat < n → (∀ (t' : PS) (qq' : Int), Bd t' → Fm [] [8, 11, 12, 13, 14] s t' → MTJ t' → (FLU (CNR s) (CNR t') x y (z + 1) w ∧ SAM 11 s t' ∧ SAM 12 s t') → (xv = x ∧ qq' = z + 1) → WS k 29 [(0, .ref (A 3)), (1, .int (Int32.ofInt xv)), (3, .int (Int32.ofInt zv)), (4, .int (Int32.ofInt wv)), (5, .int (Int32.ofInt qq'))] [] (Wd A dT t') 0 0) → WS k 3 [(0, .ref (A 3)), (1, .int (Int32.ofInt xv)), (3, .int (Int32.ofInt zv)), (4, .int (Int32.ofInt wv)), (5, .int (Int32.ofInt qq))] [] (Wd A dT t) 0 0 := by
    intro n
    induction n with
    | zero =>
      intro t xv zv wv qq I F jjMTJ hq hi hm kx
      exact absurd hm (Nat.not_lt_zero _)
    | succ n ih =>
      intro t xv zv wv qq I F jjMTJ hq hi hm kx
      refine z_load X (x := qq) rfl (List.Mem.tail _ (List.Mem.tail _ (List.Mem.tail _ (List.Mem.tail _ (List.Mem.head _))))) (z_load_n X (x := zv) rfl (List.Mem.tail _ (List.Mem.tail _ (List.Mem.head _))) (z_icmp_gt X (t := 29) rfl rfl ⟨by first | exact oq_fa4e5087 hi.2.2.2.2.1 | omega, by first | exact oq_5bcd337f hi.2.2.2.2.2 | omega⟩ ⟨by first | exact oq_fa4e5087 hi.2.2.1.1 | omega, by first | exact oq_1a42ef34 hi.2.2.1.2 | omega⟩ (fun g1001 => ?_) (fun g1001 => ?_)))
      ·
        refine WS_pq [0, 1, 2, 3, 4] (lv' := [(0, .ref (A 3)), (1, .int (Int32.ofInt xv)), (3, .int (Int32.ofInt zv)), (4, .int (Int32.ofInt wv)), (5, .int (Int32.ofInt qq))]) rfl ?_
        exact kx _ qq I F jjMTJ (by rw [show z + 1 = qq by omega]; exact hq) (by first | exact ⟨hi.1.1, oq_4ab5b7c2 hi.1.2.2.2.2 hi.1.2.1 g1001⟩ | omega)
      ·
        refine z_aload_n X (x := A 3) rfl (List.Mem.head _) (s_getR X 3 rfl (c518_ok rfl) rfl rfl (z_load_n X (x := xv) rfl (List.Mem.tail _ (List.Mem.head _)) (z_bipush X rfl (z_mul X rfl (z_load X (x := qq) rfl (List.Mem.tail _ (List.Mem.tail _ (List.Mem.tail _ (List.Mem.tail _ (List.Mem.head _))))) (z_add X rfl (z_load X (x := wv) rfl (List.Mem.tail _ (List.Mem.tail _ (List.Mem.tail _ (List.Mem.head _)))) (z_ast X 11 rfl (c518_ok rfl) rfl (by first | exact oq_4071a75f hi.2.1.1 hi.2.2.2.2.1 | omega) (show ((xv * 24) + qq) < 288 by first | exact oq_df38adfb hi.2.1.2 g1001 hi.2.2.1.2 | omega) (cbig_ok rfl) (wd_gen (fun s1002 hs1002 => ?_))))))))))
        have Is1002 : Bd s1002 := eqB hs1002 (bd_C I (show (0 : Int) ≤ wv ∧ wv ≤ 50 by first | exact ⟨hi.2.2.2.1.1, hi.2.2.2.1.2⟩ | omega) ⟨by first | exact oq_fa4e5087 hi.2.2.2.1.1 | omega, by first | exact oq_cbe526b3 hi.2.2.2.1.2 | omega⟩)
        have Fs1002 := eqF hs1002 (fm_C F (inl_ok (a := 8) rfl))
        have aws1002_8 : UPD 8 (((xv * 24) + qq)) wv t s1002 := by rw [hs1002]; exact upd_put (sam_rf (a := 8) (s := t)) ⟨by first | exact oq_fa4e5087 hi.2.2.2.1.1 | omega, by first | exact oq_cbe526b3 hi.2.2.2.1.2 | omega⟩
        have aws1002_11 : SAM 11 t s1002 := by rw [hs1002]; exact sam_C (by decide) (sam_rf (a := 11) (s := t))
        have aws1002_12 : SAM 12 t s1002 := by rw [hs1002]; exact sam_C (by decide) (sam_rf (a := 12) (s := t))
        have fs1002 : Fm [] [8] t s1002 := by rw [hs1002]; exact fm_C (fm_rf _ _ _) (show 8 ∈ _ by decide)
        have JMTJ_s1002 : MTJ s1002 := MTJ_fm fs1002 (by decide) jjMTJ
        refine z_inc X (x := qq) (lv' := [(5, .int (Int32.ofInt (qq + 1))), (0, .ref (A 3)), (1, .int (Int32.ofInt xv)), (3, .int (Int32.ofInt zv)), (4, .int (Int32.ofInt wv))]) rfl (by decide) (List.Mem.tail _ (List.Mem.tail _ (List.Mem.tail _ (List.Mem.tail _ (List.Mem.head _))))) (fun _ h => h) (z_goto X (t := 3) rfl rfl (WS_pq [1, 2, 3, 4, 0] (lv' := [(0, .ref (A 3)), (1, .int (Int32.ofInt xv)), (3, .int (Int32.ofInt zv)), (4, .int (Int32.ofInt wv)), (5, .int (Int32.ofInt (qq + 1)))]) rfl ?_))
        exact ih _ xv zv wv (qq + 1) Is1002 Fs1002 JMTJ_s1002 ⟨flu_up hq.1 (by omega) (cnr_upd (upd_ix (by rw [show w = wv by omega]; exact aws1002_8) (by rw [show xv = x by omega])) (by omega) (by omega) (by omega) (by omega)), sam_ts hq.2.1 aws1002_11, sam_ts hq.2.2 aws1002_12⟩ (by first | exact ⟨And.intro (hi.1.1) (And.intro (hi.1.2.1) (And.intro (hi.1.2.2.1) (And.intro (oq_03182e9e hi.1.2.2.2.1) (oq_667557f6 g1001 hi.1.2.1)))), And.intro (hi.2.1.1) (hi.2.1.2), And.intro (hi.2.2.1.1) (hi.2.2.1.2), And.intro (hi.2.2.2.1.1) (hi.2.2.2.1.2), oq_54f49eb5 hi.2.2.2.2.1, oq_3f5436dc g1001 hi.2.2.1.2⟩ | omega) (by first | exact qk_me hm (by decide) (oq_416f5e90 g1001 hi.2.2.1.2) | omega) kx
  refine z_load_n X (x := y) rfl (List.Mem.tail _ (List.Mem.tail _ (List.Mem.head _))) (z_store X (lv' := [(5, .int (Int32.ofInt y)), (0, .ref (A 3)), (1, .int (Int32.ofInt x)), (2, .int (Int32.ofInt y)), (3, .int (Int32.ofInt z)), (4, .int (Int32.ofInt w))]) rfl (by decide) (fun _ h => h) (WS_pq [1, 2, 4, 5, 0] (lv' := [(0, .ref (A 3)), (1, .int (Int32.ofInt x)), (3, .int (Int32.ofInt z)), (4, .int (Int32.ofInt w)), (5, .int (Int32.ofInt y))]) rfl (L3 ((24 - y : Int).toNat + 1) s x z w y I F jMTJ ⟨flu_0, sam_rf, sam_rf⟩ (by first | exact ⟨And.intro (by decide) (And.intro (by decide) (And.intro (by decide) (And.intro (by decide) (oq_03182e9e p4)))), And.intro (p0.1) (p0.2), And.intro (p2.1) (p2.2), And.intro (p3.1) (p3.2), p1.1, oq_2fca5ea6 p1.2⟩ | omega) (Nat.lt_succ_self _) ?_)))
  intro s1 x2 Is1 Fs1 JMTJ_s1 Qs1 hs1
  refine z_aload_n X (x := A 3) rfl (List.Mem.head _) (z_load_n X (x := x) rfl (List.Mem.tail _ (List.Mem.head _)) (zcV_v2 X E 3 (As := [.int (Int32.ofInt x)]) (st := []) rfl rfl rfl rfl (c9_retell8 G Is1 JMTJ_s1 (by first | exact ⟨p0.1, p0.2⟩ | omega)) rfl (Nat.le_of_ble_eq_true rfl) (fun s3 Is3 Fs3 JTWJ_s3 JMTJ_s3 hps3 => ?_)))
  have Gs3 := fm_tq Fs1 Fs3 rfl rfl
  exact w_vret X.1 q hRt (ax_d X (show cdA 114 34 = some (.return_, 1, 0, 0, 0) from rfl)) (Nat.zero_le _) (Nat.zero_le _) ⟨_, rfl, Is3, Gs3, JTWJ_s3, JMTJ_s3, rfl, ⟨moi_fl jMOI Qs1.1 Qs1.2.1 Qs1.2.2 (sam_fm Fs1 (by decide)) (sam_fm Fs1 (by decide)) (by rw [show x = x by omega]; exact hps3.1) (by rw [show x = x by omega]; exact hps3.2) (sam_fm Fs3 (by decide)) (sam_fm Fs3 (by decide)) (sam_fm Fs3 (by decide)), (by rw [cnr_sam (sam_fm Fs3 (by decide))]; exact Qs1.1)⟩⟩
set_option maxRecDepth 4000 in
theorem c9_setSpan8 (G : GX l s0 D tys a0 dT) (I : Bd s) (jMOI : MOI s) (jMTJ : MTJ s) {x y z : Int} (p0 : 0 ≤ x ∧ x ≤ 11) (p1 : 0 ≤ y ∧ y ≤ 2) (p2 : 0 ≤ z ∧ z ≤ 2) : CT l s0 D A dT 115 (rmN 115) [.ref (A 3), .int (Int32.ofInt x), .int (Int32.ofInt y), .int (Int32.ofInt z)] s (fun o t => Bd t ∧ Fm [] [9, 10, 11, 12, 13, 14] s t ∧ TWJ t ∧ MTJ t ∧ o = .inl none ∧ (MOI t ∧ UPD 9 x y s t ∧ UPD 10 x z s t)) := by
  refine ct_ofX G (by decide) (Nat.le_of_ble_eq_true rfl) (fun k X E ET hRt hXt q => ?_)
  show WS k 0 [(0, .ref (A 3)), (1, .int (Int32.ofInt x)), (2, .int (Int32.ofInt y)), (3, .int (Int32.ofInt z))] [] _ 0 0
  have F : Fm [] [9, 10, 11, 12, 13, 14] s s := fm_rf _ _ s
  have aw0_8 : SAM 8 s s := sam_rf
  have aw0_11 : SAM 11 s s := sam_rf
  have aw0_12 : SAM 12 s s := sam_rf
  have aw0_9 : SAM 9 s s := sam_rf
  have aw0_10 : SAM 10 s s := sam_rf
  refine z_aload_n X (x := A 3) rfl (List.Mem.head _) (s_getR X 3 rfl (c518_ok rfl) rfl rfl (z_load_n X (x := x) rfl (List.Mem.tail _ (List.Mem.head _)) (z_load_n X (x := y) rfl (List.Mem.tail _ (List.Mem.tail _ (List.Mem.head _))) (z_ast X 12 rfl (c518_ok rfl) rfl (by first | exact p0.1 | omega) (show x < 12 by first | exact oq_0ddfcfee p0.2 | omega) (cbig_ok rfl) (wd_gen (fun s1 hs1 => ?_))))))
  have Is1 : Bd s1 := eqB hs1 (bd_C I (show (0 : Int) ≤ y ∧ y ≤ 2 by first | exact ⟨p1.1, p1.2⟩ | omega) ⟨by first | exact oq_fa4e5087 p1.1 | omega, by first | exact oq_861e1648 p1.2 | omega⟩)
  have Fs1 := eqF hs1 (fm_C F (inl_ok (a := 9) rfl))
  have aws1_8 : SAM 8 s s1 := by rw [hs1]; exact sam_C (by decide) aw0_8
  have aws1_11 : SAM 11 s s1 := by rw [hs1]; exact sam_C (by decide) aw0_11
  have aws1_12 : SAM 12 s s1 := by rw [hs1]; exact sam_C (by decide) aw0_12
  have aws1_9 : UPD 9 (x) y s s1 := by rw [hs1]; exact upd_put aw0_9 ⟨by first | exact oq_fa4e5087 p1.1 | omega, by first | exact oq_861e1648 p1.2 | omega⟩
  have aws1_10 : SAM 10 s s1 := by rw [hs1]; exact sam_C (by decide) aw0_10
  have fs1 : Fm [] [9] s s1 := by rw [hs1]; exact fm_C (fm_rf _ _ _) (show 9 ∈ _ by decide)
  have JMTJ_s1 : MTJ s1 := MTJ_fm fs1 (by decide) jMTJ
  refine z_aload_n X (x := A 3) rfl (List.Mem.head _) (s_getR X 3 rfl (c518_ok rfl) rfl rfl (z_load_n X (x := x) rfl (List.Mem.tail _ (List.Mem.head _)) (z_load_n X (x := z) rfl (List.Mem.tail _ (List.Mem.tail _ (List.Mem.tail _ (List.Mem.head _)))) (z_ast X 13 rfl (c518_ok rfl) rfl (by first | exact p0.1 | omega) (show x < 12 by first | exact oq_0ddfcfee p0.2 | omega) (cbig_ok rfl) (wd_gen (fun s2 hs2 => ?_))))))
  have Is2 : Bd s2 := eqB hs2 (bd_C Is1 (show (0 : Int) ≤ z ∧ z ≤ 2 by first | exact ⟨p2.1, p2.2⟩ | omega) ⟨by first | exact oq_fa4e5087 p2.1 | omega, by first | exact oq_861e1648 p2.2 | omega⟩)
  have Fs2 := eqF hs2 (fm_C Fs1 (inl_ok (a := 10) rfl))
  have aws2_8 : SAM 8 s s2 := by rw [hs2]; exact sam_C (by decide) aws1_8
  have aws2_11 : SAM 11 s s2 := by rw [hs2]; exact sam_C (by decide) aws1_11
  have aws2_12 : SAM 12 s s2 := by rw [hs2]; exact sam_C (by decide) aws1_12
  have aws2_9 : UPD 9 (x) y s s2 := by rw [hs2]; exact upd_C (by decide) aws1_9
  have aws2_10 : UPD 10 (x) z s s2 := by rw [hs2]; exact upd_put aws1_10 ⟨by first | exact oq_fa4e5087 p2.1 | omega, by first | exact oq_861e1648 p2.2 | omega⟩
  have fs2 : Fm [] [10] s1 s2 := by rw [hs2]; exact fm_C (fm_rf _ _ _) (show 10 ∈ _ by decide)
  have JMTJ_s2 : MTJ s2 := MTJ_fm fs2 (by decide) JMTJ_s1
  refine z_aload_n X (x := A 3) rfl (List.Mem.head _) (z_load_n X (x := x) rfl (List.Mem.tail _ (List.Mem.head _)) (zcV_v2 X E 3 (As := [.int (Int32.ofInt x)]) (st := []) rfl rfl rfl rfl (c9_retell8 G Is2 JMTJ_s2 (by first | exact ⟨p0.1, p0.2⟩ | omega)) rfl (Nat.le_of_ble_eq_true rfl) (fun s3 Is3 Fs3 JTWJ_s3 JMTJ_s3 hps3 => ?_)))
  have Gs3 := fm_tq Fs2 Fs3 rfl rfl
  have aws3_8 : SAM 8 s s3 := sam_ts aws2_8 (sam_fm Fs3 (by decide))
  have aws3_9 : UPD 9 (x) y s s3 := upd_ts aws2_9 (sam_fm Fs3 (by decide))
  have aws3_10 : UPD 10 (x) z s s3 := upd_ts aws2_10 (sam_fm Fs3 (by decide))
  exact w_vret X.1 q hRt (ax_d X (show cdA 115 19 = some (.return_, 1, 0, 0, 0) from rfl)) (Nat.zero_le _) (Nat.zero_le _) ⟨_, rfl, Is3, Gs3, JTWJ_s3, JMTJ_s3, rfl, ⟨moi_sp jMOI aws2_8 aws2_11 aws2_12 aws2_9 aws2_10 (by omega) hps3.1 hps3.2 (sam_fm Fs3 (by decide)) (sam_fm Fs3 (by decide)) (sam_fm Fs3 (by decide)), aws3_9, aws3_10⟩⟩
set_option maxRecDepth 4000 in
theorem cs_flow8 (G : GX l s0 D tys a0 dT) (I : Bd s) (jMOI : MOI s) (jTWJ : TWJ s) (jMTJ : MTJ s) {u v p w : Int} (p0 : rng u) (p1 : rng v) (p2 : rng p) (p3 : rng w) : CT l s0 D A dT 140 (rmN 140) [.ref (A 0), .int (Int32.ofInt u), .int (Int32.ofInt v), .int (Int32.ofInt p), .int (Int32.ofInt w)] s (fun o t => Bd t ∧ Fm [] [8, 11, 12, 13, 14] s t ∧ TWJ t ∧ MTJ t ∧ ((o = .inl none ∧ (0 ≤ u ∧ u < iI s 9 ∧ 0 ≤ v ∧ v ≤ 23 ∧ 0 ≤ p ∧ p ≤ 23 ∧ v ≤ p ∧ 0 ≤ w ∧ w ≤ 50 ∧ MOI t ∧ FLU (CNR s) (CNR t) u v (p + 1) w ∧ SAM 10 s t ∧ SAM 9 s t)) ∨ ∃ x : Nat, o = .inr (exN x) ∧ (((x = 1 ∧ (u < 0 ∨ iI s 9 ≤ u)) ∨ (x = 0 ∧ 0 ≤ u ∧ u < iI s 9 ∧ (v < 0 ∨ 23 < v ∨ p < 0 ∨ 23 < p ∨ p < v ∨ w < 0 ∨ 50 < w))) ∧ SA4 s t))) := by
  refine ct_ofX G (by decide) (Nat.le_of_ble_eq_true rfl) (fun k X E ET hRt hXt q => ?_)
  show WS k 0 [(0, .ref (A 0)), (1, .int (Int32.ofInt u)), (2, .int (Int32.ofInt v)), (3, .int (Int32.ofInt p)), (4, .int (Int32.ofInt w))] [] _ 0 0
  have F : Fm [] [8, 11, 12, 13, 14] s s := fm_rf _ _ s
  have aw0_8 : SAM 8 s s := sam_rf
  have aw0_11 : SAM 11 s s := sam_rf
  have aw0_12 : SAM 12 s s := sam_rf
  have aw0_9 : SAM 9 s s := sam_rf
  have aw0_10 : SAM 10 s s := sam_rf
  have b1 := bi_9 I
  refine z_aload_n X (x := A 0) rfl (List.Mem.head _) (z_load_n X (x := u) rfl (List.Mem.tail _ (List.Mem.head _)) (z_callV X 0 (rm := rmN 180) (As := [.int (Int32.ofInt u)]) (st := []) rfl rfl (by decide) rfl (by rw [E.1, E.2.1, E.2.2.1]; exact cs_needStream2 G I (by first | exact ⟨p0.1, p0.2⟩ | omega)) ⟨by rw [E.2.2.2]; exact (show (rmN 180).frames + 1 ≤ (rmN 140).frames by decide), by rw [E.2.2.2]; exact (show 8 + (mNL (miB 180) + 11) + (rmN 180).locals ≤ (rmN 140).locals by decide), by rw [E.2.2.2]; exact (show 0 + 1 ≤ 5 by decide), by rw [E.2.2.2]; exact (show 0 + 6 ≤ 30 by decide)⟩ (Nat.le_of_ble_eq_true rfl) (fun vv s2 hq => ?_) (fun ee s2 hq => ?_)))
  rotate_left
  · obtain ⟨Is2, Fs2, (⟨hv, hps2⟩ | ⟨xx, hv, hps2⟩)⟩ := hq
    · cases hv
    · cases hv
      have Gs2 := fm_tq F Fs2 rfl rfl
      have JMOI_s2 : MOI s2 := MOI_fm Fs2 (by decide) jMOI
      have JTWJ_s2 : TWJ s2 := TWJ_fm Fs2 (by decide) jTWJ
      have JMTJ_s2 : MTJ s2 := MTJ_fm Fs2 (by decide) jMTJ
      have ws2_9 : iI s2 9 = iI s 9 := fm_iq Fs2 rfl
      have aws2_8 : SAM 8 s s2 := sam_ts aw0_8 (sam_fm Fs2 (by decide))
      have aws2_11 : SAM 11 s s2 := sam_ts aw0_11 (sam_fm Fs2 (by decide))
      have aws2_12 : SAM 12 s s2 := sam_ts aw0_12 (sam_fm Fs2 (by decide))
      have aws2_9 : SAM 9 s s2 := sam_ts aw0_9 (sam_fm Fs2 (by decide))
      have aws2_10 : SAM 10 s s2 := sam_ts aw0_10 (sam_fm Fs2 (by decide))
      exact x_out X.1 q (fun x hx => (hXt x hx).elim) (show 1 ≤ 5 by decide) (show 6 ≤ 30 by decide) ⟨_, rfl, Is2, Gs2, JTWJ_s2, JMTJ_s2, Or.inr ⟨xx, rfl, ⟨by omega, ⟨aws2_8, aws2_10, aws2_9, aws2_11, aws2_12⟩⟩⟩⟩
  obtain ⟨Is2, Fs2, (⟨hv, hps2⟩ | ⟨xx, hv, hps2⟩)⟩ := hq
  rotate_left
  · cases hv
  cases hv
  have Gs2 := fm_tq F Fs2 rfl rfl
  have JMOI_s2 : MOI s2 := MOI_fm Fs2 (by decide) jMOI
  have JTWJ_s2 : TWJ s2 := TWJ_fm Fs2 (by decide) jTWJ
  have JMTJ_s2 : MTJ s2 := MTJ_fm Fs2 (by decide) jMTJ
  have ws2_9 : iI s2 9 = iI s 9 := fm_iq Fs2 rfl
  have aws2_8 : SAM 8 s s2 := sam_ts aw0_8 (sam_fm Fs2 (by decide))
  have aws2_11 : SAM 11 s s2 := sam_ts aw0_11 (sam_fm Fs2 (by decide))
  have aws2_12 : SAM 12 s s2 := sam_ts aw0_12 (sam_fm Fs2 (by decide))
  have aws2_9 : SAM 9 s s2 := sam_ts aw0_9 (sam_fm Fs2 (by decide))
  have aws2_10 : SAM 10 s s2 := sam_ts aw0_10 (sam_fm Fs2 (by decide))
  show WS k 5 [(0, .ref (A 0)), (1, .int (Int32.ofInt u)), (2, .int (Int32.ofInt v)), (3, .int (Int32.ofInt p)), (4, .int (Int32.ofInt w))] [] (Wd A dT s2) 1 6
  refine z_aload_n X (x := A 0) rfl (List.Mem.head _) (z_load_n X (x := v) rfl (List.Mem.tail _ (List.Mem.tail _ (List.Mem.head _))) (z_callV X 0 (rm := rmN 183) (As := [.int (Int32.ofInt v)]) (st := []) rfl rfl (by decide) rfl (by rw [E.1, E.2.1, E.2.2.1]; exact cs_needQuarter6 G Is2 (by first | exact ⟨p1.1, p1.2⟩ | omega)) ⟨by rw [E.2.2.2]; exact (show (rmN 183).frames + 1 ≤ (rmN 140).frames by decide), by rw [E.2.2.2]; exact (show 8 + (mNL (miB 183) + 11) + (rmN 183).locals ≤ (rmN 140).locals by decide), by rw [E.2.2.2]; exact (show 1 + 1 ≤ 5 by decide), by rw [E.2.2.2]; exact (show 6 + 6 ≤ 30 by decide)⟩ (Nat.le_of_ble_eq_true rfl) (fun vv s4 hq => ?_) (fun ee s4 hq => ?_)))
  rotate_left
  · obtain ⟨Is4, Fs4, (⟨hv, hps4⟩ | ⟨xx, hv, hps4⟩)⟩ := hq
    · cases hv
    · cases hv
      have Gs4 := fm_tq Gs2 Fs4 rfl rfl
      have JMOI_s4 : MOI s4 := MOI_fm Fs4 (by decide) JMOI_s2
      have JTWJ_s4 : TWJ s4 := TWJ_fm Fs4 (by decide) JTWJ_s2
      have JMTJ_s4 : MTJ s4 := MTJ_fm Fs4 (by decide) JMTJ_s2
      have ws4_9 : iI s4 9 = iI s2 9 := fm_iq Fs4 rfl
      have aws4_8 : SAM 8 s s4 := sam_ts aws2_8 (sam_fm Fs4 (by decide))
      have aws4_11 : SAM 11 s s4 := sam_ts aws2_11 (sam_fm Fs4 (by decide))
      have aws4_12 : SAM 12 s s4 := sam_ts aws2_12 (sam_fm Fs4 (by decide))
      have aws4_9 : SAM 9 s s4 := sam_ts aws2_9 (sam_fm Fs4 (by decide))
      have aws4_10 : SAM 10 s s4 := sam_ts aws2_10 (sam_fm Fs4 (by decide))
      exact x_out X.1 q (fun x hx => (hXt x hx).elim) (show (1 + 1) ≤ 5 by decide) (show (6 + 6) ≤ 30 by decide) ⟨_, rfl, Is4, Gs4, JTWJ_s4, JMTJ_s4, Or.inr ⟨xx, rfl, ⟨by first | (clear hps2; omega) | omega, ⟨aws4_8, aws4_10, aws4_9, aws4_11, aws4_12⟩⟩⟩⟩
  obtain ⟨Is4, Fs4, (⟨hv, hps4⟩ | ⟨xx, hv, hps4⟩)⟩ := hq
  rotate_left
  · cases hv
  cases hv
  have Gs4 := fm_tq Gs2 Fs4 rfl rfl
  have JMOI_s4 : MOI s4 := MOI_fm Fs4 (by decide) JMOI_s2
  have JTWJ_s4 : TWJ s4 := TWJ_fm Fs4 (by decide) JTWJ_s2
  have JMTJ_s4 : MTJ s4 := MTJ_fm Fs4 (by decide) JMTJ_s2
  have ws4_9 : iI s4 9 = iI s2 9 := fm_iq Fs4 rfl
  have aws4_8 : SAM 8 s s4 := sam_ts aws2_8 (sam_fm Fs4 (by decide))
  have aws4_11 : SAM 11 s s4 := sam_ts aws2_11 (sam_fm Fs4 (by decide))
  have aws4_12 : SAM 12 s s4 := sam_ts aws2_12 (sam_fm Fs4 (by decide))
  have aws4_9 : SAM 9 s s4 := sam_ts aws2_9 (sam_fm Fs4 (by decide))
  have aws4_10 : SAM 10 s s4 := sam_ts aws2_10 (sam_fm Fs4 (by decide))
  show WS k 10 [(0, .ref (A 0)), (1, .int (Int32.ofInt u)), (2, .int (Int32.ofInt v)), (3, .int (Int32.ofInt p)), (4, .int (Int32.ofInt w))] [] (Wd A dT s4) (1 + 1) (6 + 6)
  refine z_aload_n X (x := A 0) rfl (List.Mem.head _) (z_load_n X (x := p) rfl (List.Mem.tail _ (List.Mem.tail _ (List.Mem.tail _ (List.Mem.head _)))) (z_callV X 0 (rm := rmN 183) (As := [.int (Int32.ofInt p)]) (st := []) rfl rfl (by decide) rfl (by rw [E.1, E.2.1, E.2.2.1]; exact cs_needQuarter6 G Is4 (by first | exact ⟨p2.1, p2.2⟩ | omega)) ⟨by rw [E.2.2.2]; exact (show (rmN 183).frames + 1 ≤ (rmN 140).frames by decide), by rw [E.2.2.2]; exact (show 8 + (mNL (miB 183) + 11) + (rmN 183).locals ≤ (rmN 140).locals by decide), by rw [E.2.2.2]; exact (show (1 + 1) + 1 ≤ 5 by decide), by rw [E.2.2.2]; exact (show (6 + 6) + 6 ≤ 30 by decide)⟩ (Nat.le_of_ble_eq_true rfl) (fun vv s6 hq => ?_) (fun ee s6 hq => ?_)))
  rotate_left
  · obtain ⟨Is6, Fs6, (⟨hv, hps6⟩ | ⟨xx, hv, hps6⟩)⟩ := hq
    · cases hv
    · cases hv
      have Gs6 := fm_tq Gs4 Fs6 rfl rfl
      have JMOI_s6 : MOI s6 := MOI_fm Fs6 (by decide) JMOI_s4
      have JTWJ_s6 : TWJ s6 := TWJ_fm Fs6 (by decide) JTWJ_s4
      have JMTJ_s6 : MTJ s6 := MTJ_fm Fs6 (by decide) JMTJ_s4
      have ws6_9 : iI s6 9 = iI s4 9 := fm_iq Fs6 rfl
      have aws6_8 : SAM 8 s s6 := sam_ts aws4_8 (sam_fm Fs6 (by decide))
      have aws6_11 : SAM 11 s s6 := sam_ts aws4_11 (sam_fm Fs6 (by decide))
      have aws6_12 : SAM 12 s s6 := sam_ts aws4_12 (sam_fm Fs6 (by decide))
      have aws6_9 : SAM 9 s s6 := sam_ts aws4_9 (sam_fm Fs6 (by decide))
      have aws6_10 : SAM 10 s s6 := sam_ts aws4_10 (sam_fm Fs6 (by decide))
      exact x_out X.1 q (fun x hx => (hXt x hx).elim) (show ((1 + 1) + 1) ≤ 5 by decide) (show ((6 + 6) + 6) ≤ 30 by decide) ⟨_, rfl, Is6, Gs6, JTWJ_s6, JMTJ_s6, Or.inr ⟨xx, rfl, ⟨by first | (clear hps4 hps2; omega) | (clear hps2; omega) | omega, ⟨aws6_8, aws6_10, aws6_9, aws6_11, aws6_12⟩⟩⟩⟩
  obtain ⟨Is6, Fs6, (⟨hv, hps6⟩ | ⟨xx, hv, hps6⟩)⟩ := hq
  rotate_left
  · cases hv
  cases hv
  have Gs6 := fm_tq Gs4 Fs6 rfl rfl
  have JMOI_s6 : MOI s6 := MOI_fm Fs6 (by decide) JMOI_s4
  have JTWJ_s6 : TWJ s6 := TWJ_fm Fs6 (by decide) JTWJ_s4
  have JMTJ_s6 : MTJ s6 := MTJ_fm Fs6 (by decide) JMTJ_s4
  have ws6_9 : iI s6 9 = iI s4 9 := fm_iq Fs6 rfl
  have aws6_8 : SAM 8 s s6 := sam_ts aws4_8 (sam_fm Fs6 (by decide))
  have aws6_11 : SAM 11 s s6 := sam_ts aws4_11 (sam_fm Fs6 (by decide))
  have aws6_12 : SAM 12 s s6 := sam_ts aws4_12 (sam_fm Fs6 (by decide))
  have aws6_9 : SAM 9 s s6 := sam_ts aws4_9 (sam_fm Fs6 (by decide))
  have aws6_10 : SAM 10 s s6 := sam_ts aws4_10 (sam_fm Fs6 (by decide))
  show WS k 15 [(0, .ref (A 0)), (1, .int (Int32.ofInt u)), (2, .int (Int32.ofInt v)), (3, .int (Int32.ofInt p)), (4, .int (Int32.ofInt w))] [] (Wd A dT s6) ((1 + 1) + 1) ((6 + 6) + 6)
  refine z_aload_n X (x := A 0) rfl (List.Mem.head _) (z_load X (x := w) rfl (List.Mem.tail _ (List.Mem.tail _ (List.Mem.tail _ (List.Mem.tail _ (List.Mem.head _))))) (z_const X rfl (z_bipush X rfl (z_callV X 0 (rm := rmN 184) (As := [.int (Int32.ofInt w), .int (Int32.ofInt 0), .int (Int32.ofInt 50)]) (st := []) rfl rfl (by decide) rfl (by rw [E.1, E.2.1, E.2.2.1]; exact cs_needWithin2 G Is6 (by first | exact ⟨p3.1, p3.2⟩ | omega) (by first | exact ⟨by decide, by decide⟩ | omega) (by first | exact ⟨by decide, by decide⟩ | omega)) ⟨by rw [E.2.2.2]; exact (show (rmN 184).frames + 1 ≤ (rmN 140).frames by decide), by rw [E.2.2.2]; exact (show 8 + (mNL (miB 184) + 11) + (rmN 184).locals ≤ (rmN 140).locals by decide), by rw [E.2.2.2]; exact (show ((1 + 1) + 1) + 1 ≤ 5 by decide), by rw [E.2.2.2]; exact (show ((6 + 6) + 6) + 6 ≤ 30 by decide)⟩ (Nat.le_of_ble_eq_true rfl) (fun vv s8 hq => ?_) (fun ee s8 hq => ?_)))))
  rotate_left
  · obtain ⟨Is8, Fs8, (⟨hv, hps8⟩ | ⟨xx, hv, hps8⟩)⟩ := hq
    · cases hv
    · cases hv
      have Gs8 := fm_tq Gs6 Fs8 rfl rfl
      have JMOI_s8 : MOI s8 := MOI_fm Fs8 (by decide) JMOI_s6
      have JTWJ_s8 : TWJ s8 := TWJ_fm Fs8 (by decide) JTWJ_s6
      have JMTJ_s8 : MTJ s8 := MTJ_fm Fs8 (by decide) JMTJ_s6
      have ws8_9 : iI s8 9 = iI s6 9 := fm_iq Fs8 rfl
      have aws8_8 : SAM 8 s s8 := sam_ts aws6_8 (sam_fm Fs8 (by decide))
      have aws8_11 : SAM 11 s s8 := sam_ts aws6_11 (sam_fm Fs8 (by decide))
      have aws8_12 : SAM 12 s s8 := sam_ts aws6_12 (sam_fm Fs8 (by decide))
      have aws8_9 : SAM 9 s s8 := sam_ts aws6_9 (sam_fm Fs8 (by decide))
      have aws8_10 : SAM 10 s s8 := sam_ts aws6_10 (sam_fm Fs8 (by decide))
      exact x_out X.1 q (fun x hx => (hXt x hx).elim) (show (((1 + 1) + 1) + 1) ≤ 5 by decide) (show (((6 + 6) + 6) + 6) ≤ 30 by decide) ⟨_, rfl, Is8, Gs8, JTWJ_s8, JMTJ_s8, Or.inr ⟨xx, rfl, ⟨by first | (clear hps6 hps4 hps2; omega) | (clear hps4 hps2; omega) | omega, ⟨aws8_8, aws8_10, aws8_9, aws8_11, aws8_12⟩⟩⟩⟩
  obtain ⟨Is8, Fs8, (⟨hv, hps8⟩ | ⟨xx, hv, hps8⟩)⟩ := hq
  rotate_left
  · cases hv
  cases hv
  have Gs8 := fm_tq Gs6 Fs8 rfl rfl
  have JMOI_s8 : MOI s8 := MOI_fm Fs8 (by decide) JMOI_s6
  have JTWJ_s8 : TWJ s8 := TWJ_fm Fs8 (by decide) JTWJ_s6
  have JMTJ_s8 : MTJ s8 := MTJ_fm Fs8 (by decide) JMTJ_s6
  have ws8_9 : iI s8 9 = iI s6 9 := fm_iq Fs8 rfl
  have aws8_8 : SAM 8 s s8 := sam_ts aws6_8 (sam_fm Fs8 (by decide))
  have aws8_11 : SAM 11 s s8 := sam_ts aws6_11 (sam_fm Fs8 (by decide))
  have aws8_12 : SAM 12 s s8 := sam_ts aws6_12 (sam_fm Fs8 (by decide))
  have aws8_9 : SAM 9 s s8 := sam_ts aws6_9 (sam_fm Fs8 (by decide))
  have aws8_10 : SAM 10 s s8 := sam_ts aws6_10 (sam_fm Fs8 (by decide))
  show WS k 24 [(0, .ref (A 0)), (1, .int (Int32.ofInt u)), (2, .int (Int32.ofInt v)), (3, .int (Int32.ofInt p)), (4, .int (Int32.ofInt w))] [] (Wd A dT s8) (((1 + 1) + 1) + 1) (((6 + 6) + 6) + 6)
  refine z_load_n X (x := v) rfl (List.Mem.tail _ (List.Mem.tail _ (List.Mem.head _))) (z_load_n X (x := p) rfl (List.Mem.tail _ (List.Mem.tail _ (List.Mem.tail _ (List.Mem.head _)))) (z_icmp_le X (t := 39) rfl rfl ⟨by first | exact p1.1 | omega, by first | exact p1.2 | omega⟩ ⟨by first | exact p2.1 | omega, by first | exact p2.2 | omega⟩ (fun g10 => ?_) (fun g10 => ?_)))
  ·
    refine z_aload_n X (x := A 0) rfl (List.Mem.head _) (s_getR X 0 rfl (c518_ok rfl) rfl rfl (z_load_n X (x := u) rfl (List.Mem.tail _ (List.Mem.head _)) (z_load_n X (x := v) rfl (List.Mem.tail _ (List.Mem.tail _ (List.Mem.head _))) (z_load_n X (x := p) rfl (List.Mem.tail _ (List.Mem.tail _ (List.Mem.tail _ (List.Mem.head _)))) (z_load X (x := w) rfl (List.Mem.tail _ (List.Mem.tail _ (List.Mem.tail _ (List.Mem.tail _ (List.Mem.head _))))) (z_callV X 3 (rm := rmN 114) (As := [.int (Int32.ofInt u), .int (Int32.ofInt v), .int (Int32.ofInt p), .int (Int32.ofInt w)]) (st := []) rfl rfl (by decide) rfl (by rw [E.1, E.2.1, E.2.2.1]; exact c9_setCounts8 G Is8 JMOI_s8 JMTJ_s8 (by first | exact ⟨hps2.1, oq_e4d7f3c5 hps2.2 b1.2⟩ | omega) (by first | exact ⟨hps4.1, hps4.2⟩ | omega) (by first | exact ⟨hps6.1, hps6.2⟩ | omega) (by first | exact ⟨hps8.1, hps8.2⟩ | omega) (by first | exact g10 | omega)) ⟨by rw [E.2.2.2]; exact (show (rmN 114).frames + 1 ≤ (rmN 140).frames by decide), by rw [E.2.2.2]; exact (show 8 + (mNL (miB 114) + 11) + (rmN 114).locals ≤ (rmN 140).locals by decide), by rw [E.2.2.2]; exact (show (((1 + 1) + 1) + 1) + 0 ≤ 5 by decide), by rw [E.2.2.2]; exact (show (((6 + 6) + 6) + 6) + 0 ≤ 30 by decide)⟩ (Nat.le_of_ble_eq_true rfl) (fun vv s11 hq => ?_) (fun ee s11 hq => ?_)))))))
    rotate_left
    · obtain ⟨Is11, Fs11, JTWJ_s11, JMTJ_s11, hv, hps11⟩ := hq; cases hv
    obtain ⟨Is11, Fs11, JTWJ_s11, JMTJ_s11, hv, hps11⟩ := hq
    cases hv
    have Gs11 := fm_tq Gs8 Fs11 rfl rfl
    have ws11_9 : iI s11 9 = iI s8 9 := fm_iq Fs11 rfl
    have aws11_9 : SAM 9 s s11 := sam_ts aws8_9 (sam_fm Fs11 (by decide))
    have aws11_10 : SAM 10 s s11 := sam_ts aws8_10 (sam_fm Fs11 (by decide))
    show WS k 51 [(0, .ref (A 0)), (1, .int (Int32.ofInt u)), (2, .int (Int32.ofInt v)), (3, .int (Int32.ofInt p)), (4, .int (Int32.ofInt w))] [] (Wd A dT s11) (((1 + 1) + 1) + 1) (((6 + 6) + 6) + 6)
    exact w_vret X.1 q hRt (ax_d X (show cdA 140 51 = some (.return_, 1, 0, 0, 0) from rfl)) (show (((1 + 1) + 1) + 1) ≤ 5 by decide) (show (((6 + 6) + 6) + 6) ≤ 30 by decide) ⟨_, rfl, Is11, Gs11, JTWJ_s11, JMTJ_s11, Or.inl ⟨rfl, ⟨by first | exact hps2.1 | omega, by first | exact hps2.2 | omega, by first | exact hps4.1 | omega, by first | exact hps4.2 | omega, by first | exact hps6.1 | omega, by first | exact hps6.2 | omega, by first | exact g10 | omega, by first | exact hps8.1 | omega, by first | exact hps8.2 | omega, hps11.1, by rw [← cnr_sam aws8_8]; exact hps11.2, aws11_10, aws11_9⟩⟩⟩
  ·
    exact z_throw G X E ET hXt q (st := []) rfl (by decide) (by decide) (Nat.le_of_ble_eq_true rfl) (show (((1 + 1) + 1) + 1) + 1 ≤ 5 by decide) (show (((6 + 6) + 6) + 6) + 6 ≤ 30 by decide) (show (((1 + 1) + 1) + 1) + 1 ≤ 5 by decide) (show (((6 + 6) + 6) + 6) + 6 ≤ 30 by decide) ⟨_, rfl, Is8, Gs8, JTWJ_s8, JMTJ_s8, Or.inr ⟨0, rfl, ⟨by first | (clear hps8 hps6 hps4 hps2; omega) | (clear hps6 hps4 hps2; omega) | omega, ⟨aws8_8, aws8_10, aws8_9, aws8_11, aws8_12⟩⟩⟩⟩
set_option maxRecDepth 4000 in
theorem cs_span8 (G : GX l s0 D tys a0 dT) (I : Bd s) (jMOI : MOI s) (jTWJ : TWJ s) (jMTJ : MTJ s) {u y z : Int} (p0 : rng u) (p1 : rng y) (p2 : rng z) : CT l s0 D A dT 141 (rmN 141) [.ref (A 0), .int (Int32.ofInt u), .int (Int32.ofInt y), .int (Int32.ofInt z)] s (fun o t => Bd t ∧ Fm [] [9, 10, 11, 12, 13, 14] s t ∧ TWJ t ∧ MTJ t ∧ ((o = .inl none ∧ (0 ≤ u ∧ u < iI s 9 ∧ 0 ≤ y ∧ y ≤ 2 ∧ 0 ≤ z ∧ z ≤ 2 ∧ MOI t ∧ UPD 9 u y s t ∧ UPD 10 u z s t ∧ SAM 8 s t)) ∨ ∃ x : Nat, o = .inr (exN x) ∧ (((x = 1 ∧ (u < 0 ∨ iI s 9 ≤ u)) ∨ (x = 0 ∧ 0 ≤ u ∧ u < iI s 9 ∧ (y < 0 ∨ 2 < y ∨ z < 0 ∨ 2 < z))) ∧ SA4 s t))) := by
  refine ct_ofX G (by decide) (Nat.le_of_ble_eq_true rfl) (fun k X E ET hRt hXt q => ?_)
  show WS k 0 [(0, .ref (A 0)), (1, .int (Int32.ofInt u)), (2, .int (Int32.ofInt y)), (3, .int (Int32.ofInt z))] [] _ 0 0
  have F : Fm [] [9, 10, 11, 12, 13, 14] s s := fm_rf _ _ s
  have aw0_8 : SAM 8 s s := sam_rf
  have aw0_11 : SAM 11 s s := sam_rf
  have aw0_12 : SAM 12 s s := sam_rf
  have aw0_9 : SAM 9 s s := sam_rf
  have aw0_10 : SAM 10 s s := sam_rf
  have b1 := bi_9 I
  refine z_aload_n X (x := A 0) rfl (List.Mem.head _) (z_load_n X (x := u) rfl (List.Mem.tail _ (List.Mem.head _)) (z_callV X 0 (rm := rmN 180) (As := [.int (Int32.ofInt u)]) (st := []) rfl rfl (by decide) rfl (by rw [E.1, E.2.1, E.2.2.1]; exact cs_needStream2 G I (by first | exact ⟨p0.1, p0.2⟩ | omega)) ⟨by rw [E.2.2.2]; exact (show (rmN 180).frames + 1 ≤ (rmN 141).frames by decide), by rw [E.2.2.2]; exact (show 8 + (mNL (miB 180) + 11) + (rmN 180).locals ≤ (rmN 141).locals by decide), by rw [E.2.2.2]; exact (show 0 + 1 ≤ 3 by decide), by rw [E.2.2.2]; exact (show 0 + 6 ≤ 18 by decide)⟩ (Nat.le_of_ble_eq_true rfl) (fun vv s2 hq => ?_) (fun ee s2 hq => ?_)))
  rotate_left
  · obtain ⟨Is2, Fs2, (⟨hv, hps2⟩ | ⟨xx, hv, hps2⟩)⟩ := hq
    · cases hv
    · cases hv
      have Gs2 := fm_tq F Fs2 rfl rfl
      have JMOI_s2 : MOI s2 := MOI_fm Fs2 (by decide) jMOI
      have JTWJ_s2 : TWJ s2 := TWJ_fm Fs2 (by decide) jTWJ
      have JMTJ_s2 : MTJ s2 := MTJ_fm Fs2 (by decide) jMTJ
      have ws2_9 : iI s2 9 = iI s 9 := fm_iq Fs2 rfl
      have aws2_8 : SAM 8 s s2 := sam_ts aw0_8 (sam_fm Fs2 (by decide))
      have aws2_11 : SAM 11 s s2 := sam_ts aw0_11 (sam_fm Fs2 (by decide))
      have aws2_12 : SAM 12 s s2 := sam_ts aw0_12 (sam_fm Fs2 (by decide))
      have aws2_9 : SAM 9 s s2 := sam_ts aw0_9 (sam_fm Fs2 (by decide))
      have aws2_10 : SAM 10 s s2 := sam_ts aw0_10 (sam_fm Fs2 (by decide))
      exact x_out X.1 q (fun x hx => (hXt x hx).elim) (show 1 ≤ 3 by decide) (show 6 ≤ 18 by decide) ⟨_, rfl, Is2, Gs2, JTWJ_s2, JMTJ_s2, Or.inr ⟨xx, rfl, ⟨by omega, ⟨aws2_8, aws2_10, aws2_9, aws2_11, aws2_12⟩⟩⟩⟩
  obtain ⟨Is2, Fs2, (⟨hv, hps2⟩ | ⟨xx, hv, hps2⟩)⟩ := hq
  rotate_left
  · cases hv
  cases hv
  have Gs2 := fm_tq F Fs2 rfl rfl
  have JMOI_s2 : MOI s2 := MOI_fm Fs2 (by decide) jMOI
  have JTWJ_s2 : TWJ s2 := TWJ_fm Fs2 (by decide) jTWJ
  have JMTJ_s2 : MTJ s2 := MTJ_fm Fs2 (by decide) jMTJ
  have ws2_9 : iI s2 9 = iI s 9 := fm_iq Fs2 rfl
  have aws2_8 : SAM 8 s s2 := sam_ts aw0_8 (sam_fm Fs2 (by decide))
  have aws2_11 : SAM 11 s s2 := sam_ts aw0_11 (sam_fm Fs2 (by decide))
  have aws2_12 : SAM 12 s s2 := sam_ts aw0_12 (sam_fm Fs2 (by decide))
  have aws2_9 : SAM 9 s s2 := sam_ts aw0_9 (sam_fm Fs2 (by decide))
  have aws2_10 : SAM 10 s s2 := sam_ts aw0_10 (sam_fm Fs2 (by decide))
  show WS k 5 [(0, .ref (A 0)), (1, .int (Int32.ofInt u)), (2, .int (Int32.ofInt y)), (3, .int (Int32.ofInt z))] [] (Wd A dT s2) 1 6
  refine z_aload_n X (x := A 0) rfl (List.Mem.head _) (z_load_n X (x := y) rfl (List.Mem.tail _ (List.Mem.tail _ (List.Mem.head _))) (z_const X rfl (z_const X rfl (z_callV X 0 (rm := rmN 184) (As := [.int (Int32.ofInt y), .int (Int32.ofInt 0), .int (Int32.ofInt 2)]) (st := []) rfl rfl (by decide) rfl (by rw [E.1, E.2.1, E.2.2.1]; exact cs_needWithin2 G Is2 (by first | exact ⟨p1.1, p1.2⟩ | omega) (by first | exact ⟨by decide, by decide⟩ | omega) (by first | exact ⟨by decide, by decide⟩ | omega)) ⟨by rw [E.2.2.2]; exact (show (rmN 184).frames + 1 ≤ (rmN 141).frames by decide), by rw [E.2.2.2]; exact (show 8 + (mNL (miB 184) + 11) + (rmN 184).locals ≤ (rmN 141).locals by decide), by rw [E.2.2.2]; exact (show 1 + 1 ≤ 3 by decide), by rw [E.2.2.2]; exact (show 6 + 6 ≤ 18 by decide)⟩ (Nat.le_of_ble_eq_true rfl) (fun vv s4 hq => ?_) (fun ee s4 hq => ?_)))))
  rotate_left
  · obtain ⟨Is4, Fs4, (⟨hv, hps4⟩ | ⟨xx, hv, hps4⟩)⟩ := hq
    · cases hv
    · cases hv
      have Gs4 := fm_tq Gs2 Fs4 rfl rfl
      have JMOI_s4 : MOI s4 := MOI_fm Fs4 (by decide) JMOI_s2
      have JTWJ_s4 : TWJ s4 := TWJ_fm Fs4 (by decide) JTWJ_s2
      have JMTJ_s4 : MTJ s4 := MTJ_fm Fs4 (by decide) JMTJ_s2
      have ws4_9 : iI s4 9 = iI s2 9 := fm_iq Fs4 rfl
      have aws4_8 : SAM 8 s s4 := sam_ts aws2_8 (sam_fm Fs4 (by decide))
      have aws4_11 : SAM 11 s s4 := sam_ts aws2_11 (sam_fm Fs4 (by decide))
      have aws4_12 : SAM 12 s s4 := sam_ts aws2_12 (sam_fm Fs4 (by decide))
      have aws4_9 : SAM 9 s s4 := sam_ts aws2_9 (sam_fm Fs4 (by decide))
      have aws4_10 : SAM 10 s s4 := sam_ts aws2_10 (sam_fm Fs4 (by decide))
      exact x_out X.1 q (fun x hx => (hXt x hx).elim) (show (1 + 1) ≤ 3 by decide) (show (6 + 6) ≤ 18 by decide) ⟨_, rfl, Is4, Gs4, JTWJ_s4, JMTJ_s4, Or.inr ⟨xx, rfl, ⟨by first | (clear hps2; omega) | omega, ⟨aws4_8, aws4_10, aws4_9, aws4_11, aws4_12⟩⟩⟩⟩
  obtain ⟨Is4, Fs4, (⟨hv, hps4⟩ | ⟨xx, hv, hps4⟩)⟩ := hq
  rotate_left
  · cases hv
  cases hv
  have Gs4 := fm_tq Gs2 Fs4 rfl rfl
  have JMOI_s4 : MOI s4 := MOI_fm Fs4 (by decide) JMOI_s2
  have JTWJ_s4 : TWJ s4 := TWJ_fm Fs4 (by decide) JTWJ_s2
  have JMTJ_s4 : MTJ s4 := MTJ_fm Fs4 (by decide) JMTJ_s2
  have ws4_9 : iI s4 9 = iI s2 9 := fm_iq Fs4 rfl
  have aws4_8 : SAM 8 s s4 := sam_ts aws2_8 (sam_fm Fs4 (by decide))
  have aws4_11 : SAM 11 s s4 := sam_ts aws2_11 (sam_fm Fs4 (by decide))
  have aws4_12 : SAM 12 s s4 := sam_ts aws2_12 (sam_fm Fs4 (by decide))
  have aws4_9 : SAM 9 s s4 := sam_ts aws2_9 (sam_fm Fs4 (by decide))
  have aws4_10 : SAM 10 s s4 := sam_ts aws2_10 (sam_fm Fs4 (by decide))
  show WS k 12 [(0, .ref (A 0)), (1, .int (Int32.ofInt u)), (2, .int (Int32.ofInt y)), (3, .int (Int32.ofInt z))] [] (Wd A dT s4) (1 + 1) (6 + 6)
  refine z_aload_n X (x := A 0) rfl (List.Mem.head _) (z_load_n X (x := z) rfl (List.Mem.tail _ (List.Mem.tail _ (List.Mem.tail _ (List.Mem.head _)))) (z_const X rfl (z_const X rfl (z_callV X 0 (rm := rmN 184) (As := [.int (Int32.ofInt z), .int (Int32.ofInt 0), .int (Int32.ofInt 2)]) (st := []) rfl rfl (by decide) rfl (by rw [E.1, E.2.1, E.2.2.1]; exact cs_needWithin2 G Is4 (by first | exact ⟨p2.1, p2.2⟩ | omega) (by first | exact ⟨by decide, by decide⟩ | omega) (by first | exact ⟨by decide, by decide⟩ | omega)) ⟨by rw [E.2.2.2]; exact (show (rmN 184).frames + 1 ≤ (rmN 141).frames by decide), by rw [E.2.2.2]; exact (show 8 + (mNL (miB 184) + 11) + (rmN 184).locals ≤ (rmN 141).locals by decide), by rw [E.2.2.2]; exact (show (1 + 1) + 1 ≤ 3 by decide), by rw [E.2.2.2]; exact (show (6 + 6) + 6 ≤ 18 by decide)⟩ (Nat.le_of_ble_eq_true rfl) (fun vv s6 hq => ?_) (fun ee s6 hq => ?_)))))
  rotate_left
  · obtain ⟨Is6, Fs6, (⟨hv, hps6⟩ | ⟨xx, hv, hps6⟩)⟩ := hq
    · cases hv
    · cases hv
      have Gs6 := fm_tq Gs4 Fs6 rfl rfl
      have JMOI_s6 : MOI s6 := MOI_fm Fs6 (by decide) JMOI_s4
      have JTWJ_s6 : TWJ s6 := TWJ_fm Fs6 (by decide) JTWJ_s4
      have JMTJ_s6 : MTJ s6 := MTJ_fm Fs6 (by decide) JMTJ_s4
      have ws6_9 : iI s6 9 = iI s4 9 := fm_iq Fs6 rfl
      have aws6_8 : SAM 8 s s6 := sam_ts aws4_8 (sam_fm Fs6 (by decide))
      have aws6_11 : SAM 11 s s6 := sam_ts aws4_11 (sam_fm Fs6 (by decide))
      have aws6_12 : SAM 12 s s6 := sam_ts aws4_12 (sam_fm Fs6 (by decide))
      have aws6_9 : SAM 9 s s6 := sam_ts aws4_9 (sam_fm Fs6 (by decide))
      have aws6_10 : SAM 10 s s6 := sam_ts aws4_10 (sam_fm Fs6 (by decide))
      exact x_out X.1 q (fun x hx => (hXt x hx).elim) (show ((1 + 1) + 1) ≤ 3 by decide) (show ((6 + 6) + 6) ≤ 18 by decide) ⟨_, rfl, Is6, Gs6, JTWJ_s6, JMTJ_s6, Or.inr ⟨xx, rfl, ⟨by first | (clear hps4 hps2; omega) | (clear hps2; omega) | omega, ⟨aws6_8, aws6_10, aws6_9, aws6_11, aws6_12⟩⟩⟩⟩
  obtain ⟨Is6, Fs6, (⟨hv, hps6⟩ | ⟨xx, hv, hps6⟩)⟩ := hq
  rotate_left
  · cases hv
  cases hv
  have Gs6 := fm_tq Gs4 Fs6 rfl rfl
  have JMOI_s6 : MOI s6 := MOI_fm Fs6 (by decide) JMOI_s4
  have JTWJ_s6 : TWJ s6 := TWJ_fm Fs6 (by decide) JTWJ_s4
  have JMTJ_s6 : MTJ s6 := MTJ_fm Fs6 (by decide) JMTJ_s4
  have ws6_9 : iI s6 9 = iI s4 9 := fm_iq Fs6 rfl
  have aws6_8 : SAM 8 s s6 := sam_ts aws4_8 (sam_fm Fs6 (by decide))
  have aws6_11 : SAM 11 s s6 := sam_ts aws4_11 (sam_fm Fs6 (by decide))
  have aws6_12 : SAM 12 s s6 := sam_ts aws4_12 (sam_fm Fs6 (by decide))
  have aws6_9 : SAM 9 s s6 := sam_ts aws4_9 (sam_fm Fs6 (by decide))
  have aws6_10 : SAM 10 s s6 := sam_ts aws4_10 (sam_fm Fs6 (by decide))
  show WS k 19 [(0, .ref (A 0)), (1, .int (Int32.ofInt u)), (2, .int (Int32.ofInt y)), (3, .int (Int32.ofInt z))] [] (Wd A dT s6) ((1 + 1) + 1) ((6 + 6) + 6)
  refine z_aload_n X (x := A 0) rfl (List.Mem.head _) (s_getR X 0 rfl (c518_ok rfl) rfl rfl (z_load_n X (x := u) rfl (List.Mem.tail _ (List.Mem.head _)) (z_load_n X (x := y) rfl (List.Mem.tail _ (List.Mem.tail _ (List.Mem.head _))) (z_load_n X (x := z) rfl (List.Mem.tail _ (List.Mem.tail _ (List.Mem.tail _ (List.Mem.head _)))) (z_callV X 3 (rm := rmN 115) (As := [.int (Int32.ofInt u), .int (Int32.ofInt y), .int (Int32.ofInt z)]) (st := []) rfl rfl (by decide) rfl (by rw [E.1, E.2.1, E.2.2.1]; exact c9_setSpan8 G Is6 JMOI_s6 JMTJ_s6 (by first | exact ⟨hps2.1, oq_e4d7f3c5 hps2.2 b1.2⟩ | omega) (by first | exact ⟨hps4.1, hps4.2⟩ | omega) (by first | exact ⟨hps6.1, hps6.2⟩ | omega)) ⟨by rw [E.2.2.2]; exact (show (rmN 115).frames + 1 ≤ (rmN 141).frames by decide), by rw [E.2.2.2]; exact (show 8 + (mNL (miB 115) + 11) + (rmN 115).locals ≤ (rmN 141).locals by decide), by rw [E.2.2.2]; exact (show ((1 + 1) + 1) + 0 ≤ 3 by decide), by rw [E.2.2.2]; exact (show ((6 + 6) + 6) + 0 ≤ 18 by decide)⟩ (Nat.le_of_ble_eq_true rfl) (fun vv s8 hq => ?_) (fun ee s8 hq => ?_))))))
  rotate_left
  · obtain ⟨Is8, Fs8, JTWJ_s8, JMTJ_s8, hv, hps8⟩ := hq; cases hv
  obtain ⟨Is8, Fs8, JTWJ_s8, JMTJ_s8, hv, hps8⟩ := hq
  cases hv
  have Gs8 := fm_tq Gs6 Fs8 rfl rfl
  have ws8_9 : iI s8 9 = iI s6 9 := fm_iq Fs8 rfl
  have aws8_8 : SAM 8 s s8 := sam_ts aws6_8 (sam_fm Fs8 (by decide))
  show WS k 29 [(0, .ref (A 0)), (1, .int (Int32.ofInt u)), (2, .int (Int32.ofInt y)), (3, .int (Int32.ofInt z))] [] (Wd A dT s8) ((1 + 1) + 1) ((6 + 6) + 6)
  exact w_vret X.1 q hRt (ax_d X (show cdA 141 29 = some (.return_, 1, 0, 0, 0) from rfl)) (show ((1 + 1) + 1) ≤ 3 by decide) (show ((6 + 6) + 6) ≤ 18 by decide) ⟨_, rfl, Is8, Gs8, JTWJ_s8, JMTJ_s8, Or.inl ⟨rfl, ⟨by first | exact hps2.1 | omega, by first | exact hps2.2 | omega, by first | exact hps4.1 | omega, by first | exact hps4.2 | omega, by first | exact hps6.1 | omega, by first | exact hps6.2 | omega, hps8.1, upd_st aws6_9 hps8.2.1, upd_st aws6_10 hps8.2.2, aws8_8⟩⟩⟩
set_option maxRecDepth 4000 in
theorem lw_flow8 (G : GX l s0 D tys a0 dT) (I : Bd s) (jMOI : MOI s) (jTWJ : TWJ s) (jMTJ : MTJ s) {u v p w : Int} (p0 : rng u) (p1 : rng v) (p2 : rng p) (p3 : rng w) : CTL l s0 D A dT 317 (rmN 317) [.ref (A 0), .int (Int32.ofInt u), .int (Int32.ofInt v), .int (Int32.ofInt p), .int (Int32.ofInt w)] s (fun o t => Bd t ∧ Fm [] [8, 11, 12, 13, 14] s t ∧ TWJ t ∧ MTJ t ∧ ∃ e, o = .inl (some (.int (Int32.ofInt e))) ∧ rng e ∧ ((e = 0 ∧ 0 ≤ u ∧ u < iI s 9 ∧ 0 ≤ v ∧ v ≤ 23 ∧ 0 ≤ p ∧ p ≤ 23 ∧ v ≤ p ∧ 0 ≤ w ∧ w ≤ 50 ∧ MOI t ∧ FLU (CNR s) (CNR t) u v (p + 1) w ∧ SAM 10 s t ∧ SAM 9 s t) ∨ (e = 1 ∧ (u < 0 ∨ iI s 9 ≤ u) ∧ SA4 s t) ∨ (e = 2 ∧ 0 ≤ u ∧ u < iI s 9 ∧ (v < 0 ∨ 23 < v ∨ p < 0 ∨ 23 < p ∨ p < v ∨ w < 0 ∨ 50 < w) ∧ SA4 s t))) := by
  refine ctL_of G (by decide) (Nat.le_of_ble_eq_true rfl) (by decide) rfl (fun k X E ET hRt hEx q => ?_)
  show WS k 0 [(0, .ref (A 0)), (1, .int (Int32.ofInt u)), (2, .int (Int32.ofInt v)), (3, .int (Int32.ofInt p)), (4, .int (Int32.ofInt w))] [] _ 0 0
  have F : Fm [] [8, 11, 12, 13, 14] s s := fm_rf _ _ s
  have hA := swA_rf A
  have b1 := bi_9 I
  refine z_aload_n X (x := A 0) rfl (List.Mem.head _) (z_load_n X (x := u) rfl (List.Mem.tail _ (List.Mem.head _)) (z_load_n X (x := v) rfl (List.Mem.tail _ (List.Mem.tail _ (List.Mem.head _))) (z_load_n X (x := p) rfl (List.Mem.tail _ (List.Mem.tail _ (List.Mem.tail _ (List.Mem.head _)))) (z_load X (x := w) rfl (List.Mem.tail _ (List.Mem.tail _ (List.Mem.tail _ (List.Mem.tail _ (List.Mem.head _))))) (z_callV X 0 (rm := rmN 140) (As := [.int (Int32.ofInt u), .int (Int32.ofInt v), .int (Int32.ofInt p), .int (Int32.ofInt w)]) (st := []) rfl rfl (by decide) rfl (by rw [E.1, E.2.1, E.2.2.1]; exact cs_flow8 G I jMOI jTWJ jMTJ (by omega) (by omega) (by omega) (by omega)) ⟨by rw [E.2.2.2]; exact (show (rmN 140).frames + 1 ≤ (rmN 317).frames by decide), by rw [E.2.2.2]; exact (show 8 + (mNL (miB 140) + 11) + (rmN 140).locals ≤ (rmN 317).locals by decide), by rw [E.2.2.2]; exact (show 0 + (rmN 140).cells ≤ (rmN 317).cells by decide), by rw [E.2.2.2]; exact (show 0 + (rmN 140).slots ≤ (rmN 317).slots by decide)⟩ (Nat.le_of_ble_eq_true rfl) (fun vv s2 hq => ?_) (fun ee s2 hq => ?_))))))
  rotate_left
  · obtain ⟨Is2, Fs2, JTWJ_s2, JMTJ_s2, (⟨hv, hps2⟩ | ⟨xx, hv, hps2⟩)⟩ := hq
    · cases hv
    · cases hv
      rcases (show xx = 0 ∨ xx = 1 by omega) with gx | gx
      ·
        subst gx
        have Gs2 := fm_tq F Fs2 rfl rfl
        have ws2_9 : iI s2 9 = iI s 9 := fm_iq Fs2 rfl
        refine (hEx 6 0).2 16 rfl _ _ _ _ _ (fun q1 => ?_)
        show WS k 16 [(0, .ref (A 0)), (1, .int (Int32.ofInt u)), (2, .int (Int32.ofInt v)), (3, .int (Int32.ofInt p)), (4, .int (Int32.ofInt w))] [.ref q1] (Wd A dT s2) 5 30
        refine z_astore X (lv' := [(5, .ref q1), (0, .ref (A 0)), (1, .int (Int32.ofInt u)), (2, .int (Int32.ofInt v)), (3, .int (Int32.ofInt p)), (4, .int (Int32.ofInt w))]) rfl (by decide) (fun _ h => h) (z_const X rfl ?_)
        exact w_iret X.1 q hRt rfl (ax_d X (show cdA 317 19 = some (.ireturn, 1, 0, 0, 0) from rfl)) (show 5 ≤ 5 by decide) (show 30 ≤ 30 by decide) ⟨A, _, hA, rfl, Is2, Gs2, JTWJ_s2, JMTJ_s2, 2, rfl, (by decide), Or.inr (Or.inr ⟨by decide, by omega, by omega, by omega, hps2.2⟩)⟩
      ·
        subst gx
        have Gs2 := fm_tq F Fs2 rfl rfl
        have ws2_9 : iI s2 9 = iI s 9 := fm_iq Fs2 rfl
        refine (hEx 6 1).2 12 rfl _ _ _ _ _ (fun q1 => ?_)
        show WS k 12 [(0, .ref (A 0)), (1, .int (Int32.ofInt u)), (2, .int (Int32.ofInt v)), (3, .int (Int32.ofInt p)), (4, .int (Int32.ofInt w))] [.ref q1] (Wd A dT s2) 5 30
        refine z_astore X (lv' := [(5, .ref q1), (0, .ref (A 0)), (1, .int (Int32.ofInt u)), (2, .int (Int32.ofInt v)), (3, .int (Int32.ofInt p)), (4, .int (Int32.ofInt w))]) rfl (by decide) (fun _ h => h) (z_const X rfl ?_)
        exact w_iret X.1 q hRt rfl (ax_d X (show cdA 317 15 = some (.ireturn, 1, 0, 0, 0) from rfl)) (show 5 ≤ 5 by decide) (show 30 ≤ 30 by decide) ⟨A, _, hA, rfl, Is2, Gs2, JTWJ_s2, JMTJ_s2, 1, rfl, (by decide), Or.inr (Or.inl ⟨by decide, by omega, hps2.2⟩)⟩
  obtain ⟨Is2, Fs2, JTWJ_s2, JMTJ_s2, (⟨hv, hps2⟩ | ⟨xx, hv, hps2⟩)⟩ := hq
  rotate_left
  · cases hv
  cases hv
  have Gs2 := fm_tq F Fs2 rfl rfl
  have ws2_9 : iI s2 9 = iI s 9 := fm_iq Fs2 rfl
  show WS k 9 [(0, .ref (A 0)), (1, .int (Int32.ofInt u)), (2, .int (Int32.ofInt v)), (3, .int (Int32.ofInt p)), (4, .int (Int32.ofInt w))] [] (Wd A dT s2) 5 30
  refine z_goto X (t := 20) rfl rfl (z_const X rfl ?_)
  exact w_iret X.1 q hRt rfl (ax_d X (show cdA 317 21 = some (.ireturn, 1, 0, 0, 0) from rfl)) (show 5 ≤ 5 by decide) (show 30 ≤ 30 by decide) ⟨A, _, hA, rfl, Is2, Gs2, JTWJ_s2, JMTJ_s2, 0, rfl, (by decide), Or.inl ⟨by decide, hps2⟩⟩
set_option maxRecDepth 4000 in
theorem lw_span8 (G : GX l s0 D tys a0 dT) (I : Bd s) (jMOI : MOI s) (jTWJ : TWJ s) (jMTJ : MTJ s) {u y z : Int} (p0 : rng u) (p1 : rng y) (p2 : rng z) : CTL l s0 D A dT 318 (rmN 318) [.ref (A 0), .int (Int32.ofInt u), .int (Int32.ofInt y), .int (Int32.ofInt z)] s (fun o t => Bd t ∧ Fm [] [9, 10, 11, 12, 13, 14] s t ∧ TWJ t ∧ MTJ t ∧ ∃ e, o = .inl (some (.int (Int32.ofInt e))) ∧ rng e ∧ ((e = 0 ∧ 0 ≤ u ∧ u < iI s 9 ∧ 0 ≤ y ∧ y ≤ 2 ∧ 0 ≤ z ∧ z ≤ 2 ∧ MOI t ∧ UPD 9 u y s t ∧ UPD 10 u z s t ∧ SAM 8 s t) ∨ (e = 1 ∧ (u < 0 ∨ iI s 9 ≤ u) ∧ SA4 s t) ∨ (e = 2 ∧ 0 ≤ u ∧ u < iI s 9 ∧ (y < 0 ∨ 2 < y ∨ z < 0 ∨ 2 < z) ∧ SA4 s t))) := by
  refine ctL_of G (by decide) (Nat.le_of_ble_eq_true rfl) (by decide) rfl (fun k X E ET hRt hEx q => ?_)
  show WS k 0 [(0, .ref (A 0)), (1, .int (Int32.ofInt u)), (2, .int (Int32.ofInt y)), (3, .int (Int32.ofInt z))] [] _ 0 0
  have F : Fm [] [9, 10, 11, 12, 13, 14] s s := fm_rf _ _ s
  have hA := swA_rf A
  have b1 := bi_9 I
  refine z_aload_n X (x := A 0) rfl (List.Mem.head _) (z_load_n X (x := u) rfl (List.Mem.tail _ (List.Mem.head _)) (z_load_n X (x := y) rfl (List.Mem.tail _ (List.Mem.tail _ (List.Mem.head _))) (z_load_n X (x := z) rfl (List.Mem.tail _ (List.Mem.tail _ (List.Mem.tail _ (List.Mem.head _)))) (z_callV X 0 (rm := rmN 141) (As := [.int (Int32.ofInt u), .int (Int32.ofInt y), .int (Int32.ofInt z)]) (st := []) rfl rfl (by decide) rfl (by rw [E.1, E.2.1, E.2.2.1]; exact cs_span8 G I jMOI jTWJ jMTJ (by omega) (by omega) (by omega)) ⟨by rw [E.2.2.2]; exact (show (rmN 141).frames + 1 ≤ (rmN 318).frames by decide), by rw [E.2.2.2]; exact (show 8 + (mNL (miB 141) + 11) + (rmN 141).locals ≤ (rmN 318).locals by decide), by rw [E.2.2.2]; exact (show 0 + (rmN 141).cells ≤ (rmN 318).cells by decide), by rw [E.2.2.2]; exact (show 0 + (rmN 141).slots ≤ (rmN 318).slots by decide)⟩ (Nat.le_of_ble_eq_true rfl) (fun vv s2 hq => ?_) (fun ee s2 hq => ?_)))))
  rotate_left
  · obtain ⟨Is2, Fs2, JTWJ_s2, JMTJ_s2, (⟨hv, hps2⟩ | ⟨xx, hv, hps2⟩)⟩ := hq
    · cases hv
    · cases hv
      rcases (show xx = 0 ∨ xx = 1 by omega) with gx | gx
      ·
        subst gx
        have Gs2 := fm_tq F Fs2 rfl rfl
        have ws2_9 : iI s2 9 = iI s 9 := fm_iq Fs2 rfl
        refine (hEx 4 0).2 14 rfl _ _ _ _ _ (fun q1 => ?_)
        show WS k 14 [(0, .ref (A 0)), (1, .int (Int32.ofInt u)), (2, .int (Int32.ofInt y)), (3, .int (Int32.ofInt z))] [.ref q1] (Wd A dT s2) 3 18
        refine z_astore X (lv' := [(4, .ref q1), (0, .ref (A 0)), (1, .int (Int32.ofInt u)), (2, .int (Int32.ofInt y)), (3, .int (Int32.ofInt z))]) rfl (by decide) (fun _ h => h) (z_const X rfl ?_)
        exact w_iret X.1 q hRt rfl (ax_d X (show cdA 318 17 = some (.ireturn, 1, 0, 0, 0) from rfl)) (show 3 ≤ 3 by decide) (show 18 ≤ 18 by decide) ⟨A, _, hA, rfl, Is2, Gs2, JTWJ_s2, JMTJ_s2, 2, rfl, (by decide), Or.inr (Or.inr ⟨by decide, by omega, by omega, by omega, hps2.2⟩)⟩
      ·
        subst gx
        have Gs2 := fm_tq F Fs2 rfl rfl
        have ws2_9 : iI s2 9 = iI s 9 := fm_iq Fs2 rfl
        refine (hEx 4 1).2 10 rfl _ _ _ _ _ (fun q1 => ?_)
        show WS k 10 [(0, .ref (A 0)), (1, .int (Int32.ofInt u)), (2, .int (Int32.ofInt y)), (3, .int (Int32.ofInt z))] [.ref q1] (Wd A dT s2) 3 18
        refine z_astore X (lv' := [(4, .ref q1), (0, .ref (A 0)), (1, .int (Int32.ofInt u)), (2, .int (Int32.ofInt y)), (3, .int (Int32.ofInt z))]) rfl (by decide) (fun _ h => h) (z_const X rfl ?_)
        exact w_iret X.1 q hRt rfl (ax_d X (show cdA 318 13 = some (.ireturn, 1, 0, 0, 0) from rfl)) (show 3 ≤ 3 by decide) (show 18 ≤ 18 by decide) ⟨A, _, hA, rfl, Is2, Gs2, JTWJ_s2, JMTJ_s2, 1, rfl, (by decide), Or.inr (Or.inl ⟨by decide, by omega, hps2.2⟩)⟩
  obtain ⟨Is2, Fs2, JTWJ_s2, JMTJ_s2, (⟨hv, hps2⟩ | ⟨xx, hv, hps2⟩)⟩ := hq
  rotate_left
  · cases hv
  cases hv
  have Gs2 := fm_tq F Fs2 rfl rfl
  have ws2_9 : iI s2 9 = iI s 9 := fm_iq Fs2 rfl
  show WS k 7 [(0, .ref (A 0)), (1, .int (Int32.ofInt u)), (2, .int (Int32.ofInt y)), (3, .int (Int32.ofInt z))] [] (Wd A dT s2) 3 18
  refine z_goto X (t := 18) rfl rfl (z_const X rfl ?_)
  exact w_iret X.1 q hRt rfl (ax_d X (show cdA 318 19 = some (.ireturn, 1, 0, 0, 0) from rfl)) (show 3 ≤ 3 by decide) (show 18 ≤ 18 by decide) ⟨A, _, hA, rfl, Is2, Gs2, JTWJ_s2, JMTJ_s2, 0, rfl, (by decide), Or.inl ⟨by decide, hps2⟩⟩
set_option maxRecDepth 4000 in
theorem c0_over8 (G : GX l s0 D tys a0 dT) {U : AirD} {aj bj : Int64} (I : Bd s) (jAIR : AIR s) (jLSN : LSN aj bj s) (jCDJ : CDJ U s) (jMTJ : MTJ s)  : CT l s0 D A dT 7 (rmN 7) [.ref (A 31)] s (fun o t => Bd t ∧ Fm [] [] s t ∧ ∃ e, o = .inl (some (.int (Int32.ofInt e))) ∧ rng e ∧ (Int32.ofInt e = ovQ U (inL aj bj) 24)) := by
  refine ct_ofX G (by decide) (Nat.le_of_ble_eq_true rfl) (fun k X E ET hRt hXt q => ?_)
  show WS k 0 [(0, .ref (A 31))] [] _ 0 0
  have F : Fm [] [] s s := fm_rf _ _ s
  have b1 := bi_22 I
  have L4 : ∀ (n : Nat) (t : PS) (sm0 c : Int), Bd t → Fm [] [] s t → AIR t → LSN aj bj t → CDJ U t → MTJ t → (sm0 = VSS 26 27 28 29 s (fun x o _ _ => iC s 13 x * o) (c : Int).toNat) → ((0 ≤ sm0 ∧ sm0 ≤ 384000 * c) ∧ 0 ≤ c ∧ c ≤ iI s 22 ∧ iI t 22 = iI s 22) → (12 - c : Int).toNat < n → (∀ (t' : PS) (sm0' c' : Int), Bd t' → Fm [] [] s t' → AIR t' → LSN aj bj t' → CDJ U t' → MTJ t' → (sm0' = VSS 26 27 28 29 s (fun x o _ _ => iC s 13 x * o) (c' : Int).toNat) → (rng sm0' ∧ c' = iI s 22) → WS k 42 [(0, .ref (A 31)), (1, .int (Int32.ofInt sm0')), (2, .int (Int32.ofInt c'))] [] (Wd A dT t') 0 0) → WS k 4 [(0, .ref (A 31)), (1, .int (Int32.ofInt sm0)), (2, .int (Int32.ofInt c))] [] (Wd A dT t) 0 0 := by
    intro n
    induction n with
    | zero =>
      intro t sm0 c I F jjAIR jjLSN jjCDJ jjMTJ hq hi hm kx
      exact absurd hm (Nat.not_lt_zero _)
    | succ n ih =>
      intro t sm0 c I F jjAIR jjLSN jjCDJ jjMTJ hq hi hm kx
      have b1001 := bi_22 I
      refine z_load_n X (x := c) rfl (List.Mem.tail _ (List.Mem.tail _ (List.Mem.head _))) (z_aload_n X (x := A 31) rfl (List.Mem.head _) (z_getI X 31 rfl (c518_ok rfl) rfl rfl ?_))
      have b1002 := bi_22 I
      refine z_icmp_ge X (t := 42) rfl rfl ⟨by first | exact oq_fa4e5087 hi.2.1 | omega, by first | exact oq_39d2cc6e hi.2.2.1 b1.2 | omega⟩ (rng_to _) (fun g1003 => ?_) (fun g1003 => ?_)
      ·
        refine WS_pq [0, 1, 2] (lv' := [(0, .ref (A 31)), (1, .int (Int32.ofInt sm0)), (2, .int (Int32.ofInt c))]) rfl ?_
        exact kx _ sm0 c I F jjAIR jjLSN jjCDJ jjMTJ hq (by first | exact ⟨And.intro (oq_fa4e5087 hi.1.1) (oq_a89775b0 hi.1.2 hi.2.2.1 b1.2), oq_dae09544 hi.2.2.1 hi.2.2.2 g1003⟩ | omega)
      ·
        refine z_load_n X (x := sm0) rfl (List.Mem.tail _ (List.Mem.head _)) (z_aload_n X (x := A 31) rfl (List.Mem.head _) (s_getR X 31 rfl (c518_ok rfl) rfl rfl (s_getR X 3 rfl (c518_ok rfl) rfl rfl (z_aload_n X (x := A 31) rfl (List.Mem.head _) (s_getR X 31 rfl (c518_ok rfl) rfl rfl (z_load_n X (x := c) rfl (List.Mem.tail _ (List.Mem.tail _ (List.Mem.head _))) (z_ald X 32 rfl (c518_ok rfl) rfl (by first | exact hi.2.1 | omega) (show c < 12 by first | exact oq_f36e82a8 g1003 b1002.2 | omega) (cbig_ok rfl) ?_)))))))
        have b1004 := bc_26 I (show (c).toNat < 12 by first | exact oq_2dac6850 g1003 b1002.2 | omega)
        refine z_ald X 16 rfl (c518_ok rfl) rfl (by first | exact b1004.1 | omega) (show (iC t 26 (c).toNat) < 12 by first | exact oq_0ddfcfee b1004.2 | omega) (cbig_ok rfl) ?_
        have b1005 := bc_13 I (show ((iC t 26 (c).toNat)).toNat < 12 by first | exact oq_9c5fa447 b1004.2 | omega)
        refine z_aload_n X (x := A 31) rfl (List.Mem.head _) (s_getR X 31 rfl (c518_ok rfl) rfl rfl (z_load_n X (x := c) rfl (List.Mem.tail _ (List.Mem.tail _ (List.Mem.head _))) (z_ald X 33 rfl (c518_ok rfl) rfl (by first | exact hi.2.1 | omega) (show c < 12 by first | exact oq_f36e82a8 g1003 b1002.2 | omega) (cbig_ok rfl) ?_)))
        have b1006 := bc_27 I (show (c).toNat < 12 by first | exact oq_2dac6850 g1003 b1002.2 | omega)
        have hI0 := (jjLSN.1.2.1 (c : Int).toNat (by omega)).1
        have hP := mul_bd (show 0 ≤ (iC t 13 ((iC t 26 (c).toNat)).toNat) by omega) (show (iC t 13 ((iC t 26 (c).toNat)).toNat) ≤ 1200 by omega) hI0.1 hI0.2
        refine z_mul X rfl (z_add X rfl (z_store_n X (lv' := [(1, .int (Int32.ofInt (sm0 + ((iC t 13 ((iC t 26 (c).toNat)).toNat) * (iC t 27 (c).toNat))))), (0, .ref (A 31)), (2, .int (Int32.ofInt c))]) rfl (by decide) (fun _ h => h) (z_inc X (x := c) (lv' := [(2, .int (Int32.ofInt (c + 1))), (1, .int (Int32.ofInt (sm0 + ((iC t 13 ((iC t 26 (c).toNat)).toNat) * (iC t 27 (c).toNat))))), (0, .ref (A 31))]) rfl (by decide) (List.Mem.tail _ (List.Mem.tail _ (List.Mem.head _))) (fun _ h => h) (z_goto X (t := 4) rfl rfl (WS_pq [2, 1, 0] (lv' := [(0, .ref (A 31)), (1, .int (Int32.ofInt (sm0 + ((iC t 13 ((iC t 26 (c).toNat)).toNat) * (iC t 27 (c).toNat))))), (2, .int (Int32.ofInt (c + 1)))]) rfl ?_)))))
        exact ih _ (sm0 + ((iC t 13 ((iC t 26 (c).toNat)).toNat) * (iC t 27 (c).toNat))) (c + 1) I F jjAIR jjLSN jjCDJ jjMTJ (ov8_up hq (by omega) (by have z : ∀ a j, iC t a j = iC s a j := fun a j => fm_c F List.not_mem_nil; simp only [z])) (by first | exact ⟨by omega, oq_54f49eb5 hi.2.1, oq_8a89b3ae g1003 hi.2.2.2, hi.2.2.2⟩ | omega) (by first | exact qk_me hm (by decide) (oq_b575e8c1 g1003 b1002.2) | omega) kx
  refine z_const X rfl (z_store_n X (lv' := [(1, .int (Int32.ofInt 0)), (0, .ref (A 31))]) rfl (by decide) (fun _ h => h) (z_const X rfl (z_store_n X (lv' := [(2, .int (Int32.ofInt 0)), (1, .int (Int32.ofInt 0)), (0, .ref (A 31))]) rfl (by decide) (fun _ h => h) (WS_pq [2, 1, 0] (lv' := [(0, .ref (A 31)), (1, .int (Int32.ofInt 0)), (2, .int (Int32.ofInt 0))]) rfl (L4 ((12 - 0 : Int).toNat + 1) s 0 0 I F jAIR jLSN jCDJ jMTJ rfl (by first | exact ⟨And.intro (by decide) (by decide), by decide, b1.1, by decide⟩ | omega) (Nat.lt_succ_self _) ?_)))))
  intro s2 x3 x4 Is2 Fs2 JAIR_s2 JLSN_s2 JCDJ_s2 JMTJ_s2 Qs2 hs2
  have b5 := bi_22 Is2
  refine z_load_n X (x := x3) rfl (List.Mem.tail _ (List.Mem.head _)) ?_
  exact w_iret X.1 q hRt rfl (ax_d X (show cdA 7 43 = some (.ireturn, 1, 0, 0, 0) from rfl)) (Nat.zero_le _) (Nat.zero_le _) ⟨_, rfl, Is2, Fs2, x3, rfl, ⟨by first | exact hs2.1.1 | omega, by first | exact hs2.1.2 | omega⟩, (ov8_end jAIR jLSN jCDJ jMTJ Qs2 (by omega))⟩
set_option maxRecDepth 4000 in
theorem c5_hear8 (G : GX l s0 D tys a0 dT) {U : AirD} (I : Bd s) (jAIR : AIR s) (jCPL : CPL s) (jCDJ : CDJ U s) (jMTJ : MTJ s) {x : Int} (p0 : 1 ≤ x ∧ x ≤ 255) : CT l s0 D A dT 56 (rmN 56) [.ref (A 46), .int (Int32.ofInt x)] s (fun o t => Bd t ∧ Fm [22, 23, 24] [33, 26, 27, 28, 29, 30, 31, 32, 20, 40, 41, 42] s t ∧ o = .inl none ∧ (HSB U (rgS (ceC s) (nnC s) x) x s t)) := by
  refine ct_ofX G (by decide) (Nat.le_of_ble_eq_true rfl) (fun k X E ET hRt hXt q => ?_)
  show WS k 0 [(0, .ref (A 46)), (1, .int (Int32.ofInt x))] [] _ 0 0
  have F : Fm [22, 23, 24] [33, 26, 27, 28, 29, 30, 31, 32, 20, 40, 41, 42] s s := fm_rf _ _ s
  have aw0_40 : SAM 40 s s := sam_rf
  have aw0_41 : SAM 41 s s := sam_rf
  have aw0_42 : SAM 42 s s := sam_rf
  have b1 := bi_28 I
  have L8 : ∀ (n : Nat) (t : PS) (xv : Int) (lw : Int64) (hw : Int64) (c : Int), Bd t → Fm [22, 23, 24] [33, 26, 27, 28, 29, 30, 31, 32, 20, 40, 41, 42] s t → AIR t → CPL t → CDJ U t → MTJ t → (RSL (ceC s) x c lw hw ∧ SAM 40 s t ∧ SAM 41 s t ∧ SAM 42 s t) → ((xv = x ∧ 1 ≤ x ∧ x ≤ 255) ∧ (0 ≤ c ∧ c ≤ iI s 28) ∧ iI s 28 ≤ 8 ∧ iI t 28 = iI s 28) → (8 - c : Int).toNat < n → (∀ (t' : PS) (lw' : Int64) (hw' : Int64) (c' : Int), Bd t' → Fm [22, 23, 24] [33, 26, 27, 28, 29, 30, 31, 32, 20, 40, 41, 42] s t' → AIR t' → CPL t' → CDJ U t' → MTJ t' → (RSL (ceC s) x c' lw' hw' ∧ SAM 40 s t' ∧ SAM 41 s t' ∧ SAM 42 s t') → (xv = x ∧ c' = iI s 28 ∧ iI t' 28 = iI s 28) → WS k 73 [(0, .ref (A 46)), (1, .int (Int32.ofInt xv)), (2, .long lw'), (4, .long hw'), (6, .int (Int32.ofInt c'))] [] (Wd A dT t') 0 0) → WS k 8 [(0, .ref (A 46)), (1, .int (Int32.ofInt xv)), (2, .long lw), (4, .long hw), (6, .int (Int32.ofInt c))] [] (Wd A dT t) 0 0 := by
    intro n
    induction n with
    | zero =>
      intro t xv lw hw c I F jjAIR jjCPL jjCDJ jjMTJ hq hi hm kx
      exact absurd hm (Nat.not_lt_zero _)
    | succ n ih =>
      intro t xv lw hw c I F jjAIR jjCPL jjCDJ jjMTJ hq hi hm kx
      have b1001 := bi_28 I
      refine z_load X (x := c) rfl (List.Mem.tail _ (List.Mem.tail _ (List.Mem.tail _ (List.Mem.tail _ (List.Mem.head _))))) (z_aload_n X (x := A 46) rfl (List.Mem.head _) (z_getI X 46 rfl (c518_ok rfl) rfl rfl ?_))
      have b1002 := bi_28 I
      refine z_icmp_ge X (t := 73) rfl rfl ⟨by first | exact oq_fa4e5087 hi.2.1.1 | omega, by first | exact oq_b5dbaaed hi.2.1.2 hi.2.2.1 | omega⟩ (rng_to _) (fun g1003 => ?_) (fun g1003 => ?_)
      ·
        refine WS_pq [0, 1, 2, 3, 4] (lv' := [(0, .ref (A 46)), (1, .int (Int32.ofInt xv)), (2, .long lw), (4, .long hw), (6, .int (Int32.ofInt c))]) rfl ?_
        exact kx _ lw hw c I F jjAIR jjCPL jjCDJ jjMTJ hq (by first | exact ⟨hi.1.1, oq_537ca82a hi.2.1.2 g1003 hi.2.2.2, hi.2.2.2⟩ | omega)
      ·
        refine z_load_n X (x := xv) rfl (List.Mem.tail _ (List.Mem.head _)) (z_load X (x := c) rfl (List.Mem.tail _ (List.Mem.tail _ (List.Mem.tail _ (List.Mem.tail _ (List.Mem.head _))))) (z_bshr X rfl (z_anyV (fun y1004 hy1004 ey1004 => ?_))))
        refine z_const X rfl (w_iand X.1 (ax_d X (show cdA 56 22 = some (.iand, 1, 0, 0, 0) from rfl)) (z_anyV (fun y1005 hy1005 ey1005 => ?_)))
        have hbit := bt_rd (b := xv) (p := c) ey1004 ey1005 hy1005 (by omega)
        rw [show xv = x by omega] at hbit
        refine z_if_eq X (t := 67) rfl rfl hy1005 (fun g1006 => ?_) (fun g1006 => ?_)
        ·
          refine z_inc X (x := c) (lv' := [(6, .int (Int32.ofInt (c + 1))), (0, .ref (A 46)), (1, .int (Int32.ofInt xv)), (2, .long lw), (4, .long hw)]) rfl (by decide) (List.Mem.tail _ (List.Mem.tail _ (List.Mem.tail _ (List.Mem.tail _ (List.Mem.head _))))) (fun _ h => h) (z_goto X (t := 8) rfl rfl (WS_pq [1, 2, 3, 4, 0] (lv' := [(0, .ref (A 46)), (1, .int (Int32.ofInt xv)), (2, .long lw), (4, .long hw), (6, .int (Int32.ofInt (c + 1)))]) rfl ?_))
          exact ih _ xv lw hw (c + 1) I F jjAIR jjCPL jjCDJ jjMTJ ⟨rsl_n hq.1 (by omega) (hbit.elim (fun w => absurd w.1 (by omega)) (fun w => w.2)), hq.2⟩ (by first | exact ⟨And.intro (hi.1.1) (And.intro (hi.1.2.1) (hi.1.2.2)), And.intro (oq_54f49eb5 hi.2.1.1) (oq_8a89b3ae g1003 hi.2.2.2), hi.2.2.1, hi.2.2.2⟩ | omega) (by first | exact qk_me hm (by decide) (oq_ccc5e5e0 g1003 b1002.2) | omega) kx
        ·
          have hB : bT (Int32.ofInt x) (c : Int).toNat = true := hbit.elim (fun w => w.2) (fun w => absurd w.1 (by first | (clear g1006; omega) | omega))
          refine w_lconst X.1 (ax_d X (show cdA 56 26 = some (.lconst 1, 1, 0, 0, 0) from rfl)) (z := (1 : Int64)) (by decide) (z_aload_n X (x := A 46) rfl (List.Mem.head _) (s_getR X 46 rfl (c518_ok rfl) rfl rfl (z_load X (x := c) rfl (List.Mem.tail _ (List.Mem.tail _ (List.Mem.tail _ (List.Mem.tail _ (List.Mem.head _))))) (z_ald X 47 rfl (c518_ok rfl) rfl (by first | exact hi.2.1.1 | omega) (show c < 8 by first | exact oq_7f5b2e79 g1003 b1002.2 | omega) (cbig_ok rfl) ?_))))
          have b1007 := bc_39 I (show (c).toNat < 8 by first | exact oq_67be0351 g1003 b1002.2 | omega)
          refine z_bipush X rfl (z_and63 X rfl (by first | (clear g1006; omega) | omega) (z_jshl X rfl (w_lstore X.1 (lv' := [(7, .long (jshl (1 : Int64) ((iC t 39 (c).toNat) % 64))), (0, .ref (A 46)), (1, .int (Int32.ofInt xv)), (2, .long lw), (4, .long hw), (6, .int (Int32.ofInt c))]) (ax_d X (show cdA 56 38 = some (.lstore 7, 2, 0, 0, 0) from rfl)) (by rw [X.2.1.2.2]; decide) (fun _ h => h) (z_aload_n X (x := A 46) rfl (List.Mem.tail _ (List.Mem.head _)) (s_getR X 46 rfl (c518_ok rfl) rfl rfl (z_load X (x := c) rfl (List.Mem.tail _ (List.Mem.tail _ (List.Mem.tail _ (List.Mem.tail _ (List.Mem.tail _ (List.Mem.head _)))))) (z_ald X 47 rfl (c518_ok rfl) rfl (by first | exact hi.2.1.1 | omega) (show c < 8 by first | exact oq_7f5b2e79 g1003 b1002.2 | omega) (cbig_ok rfl) ?_)))))))
          have b1008 := bc_39 I (show (c).toNat < 8 by first | exact oq_67be0351 g1003 b1002.2 | omega)
          refine z_bipush X rfl (z_icmp_ge X (t := 60) rfl rfl (rng_to _) (by decide) (fun g1009 => ?_) (fun g1009 => ?_))
          ·
            refine w_lload X.1 (ax_d X (show cdA 56 60 = some (.lload 4, 2, 0, 0, 0) from rfl)) (x := hw) (List.Mem.tail _ (List.Mem.tail _ (List.Mem.tail _ (List.Mem.tail _ (List.Mem.head _))))) (w_lload X.1 (ax_d X (show cdA 56 62 = some (.lload 7, 2, 0, 0, 0) from rfl)) (x := (jshl (1 : Int64) ((iC t 39 (c).toNat) % 64))) (List.Mem.head _) (w_lor X.1 (ax_d X (show cdA 56 64 = some (.lor, 1, 0, 0, 0) from rfl)) (w_lstore X.1 (lv' := [(4, .long (hw ||| (jshl (1 : Int64) ((iC t 39 (c).toNat) % 64)))), (7, .long (jshl (1 : Int64) ((iC t 39 (c).toNat) % 64))), (0, .ref (A 46)), (1, .int (Int32.ofInt xv)), (2, .long lw), (6, .int (Int32.ofInt c))]) (ax_d X (show cdA 56 65 = some (.lstore 4, 2, 0, 0, 0) from rfl)) (by rw [X.2.1.2.2]; decide) (fun _ h => h) (z_inc X (x := c) (lv' := [(6, .int (Int32.ofInt (c + 1))), (4, .long (hw ||| (jshl (1 : Int64) ((iC t 39 (c).toNat) % 64)))), (7, .long (jshl (1 : Int64) ((iC t 39 (c).toNat) % 64))), (0, .ref (A 46)), (1, .int (Int32.ofInt xv)), (2, .long lw)]) rfl (by decide) (List.Mem.tail _ (List.Mem.tail _ (List.Mem.tail _ (List.Mem.tail _ (List.Mem.tail _ (List.Mem.head _)))))) (fun _ h => h) (z_goto X (t := 8) rfl rfl (WS_pq [3, 4, 5, 1, 0] (lv' := [(0, .ref (A 46)), (1, .int (Int32.ofInt xv)), (2, .long lw), (4, .long (hw ||| (jshl (1 : Int64) ((iC t 39 (c).toNat) % 64)))), (6, .int (Int32.ofInt (c + 1)))]) rfl ?_))))))
            exact ih _ xv lw (hw ||| (jshl (1 : Int64) ((iC t 39 (c).toNat) % 64))) (c + 1) I F jjAIR jjCPL jjCDJ jjMTJ ⟨rsl_h hq.1 (by first | (clear g1006; omega) | omega) hB (fm_c F (by decide) : iC t 39 (c : Int).toNat = iC s 39 (c : Int).toNat) (by first | (clear g1006; omega) | omega), hq.2⟩ (by first | exact ⟨And.intro (hi.1.1) (And.intro (hi.1.2.1) (hi.1.2.2)), And.intro (oq_54f49eb5 hi.2.1.1) (oq_8a89b3ae g1003 hi.2.2.2), hi.2.2.1, hi.2.2.2⟩ | omega) (by first | exact qk_me hm (by decide) (oq_ccc5e5e0 g1003 b1002.2) | omega) kx
          ·
            refine w_lload_n X.1 (ax_d X (show cdA 56 52 = some (.lload_n 2, 1, 0, 0, 0) from rfl)) (x := lw) (List.Mem.tail _ (List.Mem.tail _ (List.Mem.tail _ (List.Mem.head _)))) (w_lload X.1 (ax_d X (show cdA 56 53 = some (.lload 7, 2, 0, 0, 0) from rfl)) (x := (jshl (1 : Int64) ((iC t 39 (c).toNat) % 64))) (List.Mem.head _) (w_lor X.1 (ax_d X (show cdA 56 55 = some (.lor, 1, 0, 0, 0) from rfl)) (w_lstore_n X.1 (lv' := [(2, .long (lw ||| (jshl (1 : Int64) ((iC t 39 (c).toNat) % 64)))), (7, .long (jshl (1 : Int64) ((iC t 39 (c).toNat) % 64))), (0, .ref (A 46)), (1, .int (Int32.ofInt xv)), (4, .long hw), (6, .int (Int32.ofInt c))]) (ax_d X (show cdA 56 56 = some (.lstore_n 2, 1, 0, 0, 0) from rfl)) (by rw [X.2.1.2.2]; decide) (fun _ h => h) (z_goto X (t := 67) rfl rfl (z_inc X (x := c) (lv' := [(6, .int (Int32.ofInt (c + 1))), (2, .long (lw ||| (jshl (1 : Int64) ((iC t 39 (c).toNat) % 64)))), (7, .long (jshl (1 : Int64) ((iC t 39 (c).toNat) % 64))), (0, .ref (A 46)), (1, .int (Int32.ofInt xv)), (4, .long hw)]) rfl (by decide) (List.Mem.tail _ (List.Mem.tail _ (List.Mem.tail _ (List.Mem.tail _ (List.Mem.tail _ (List.Mem.head _)))))) (fun _ h => h) (z_goto X (t := 8) rfl rfl (WS_pq [3, 4, 1, 5, 0] (lv' := [(0, .ref (A 46)), (1, .int (Int32.ofInt xv)), (2, .long (lw ||| (jshl (1 : Int64) ((iC t 39 (c).toNat) % 64)))), (4, .long hw), (6, .int (Int32.ofInt (c + 1)))]) rfl ?_)))))))
            exact ih _ xv (lw ||| (jshl (1 : Int64) ((iC t 39 (c).toNat) % 64))) hw (c + 1) I F jjAIR jjCPL jjCDJ jjMTJ ⟨rsl_l hq.1 (by first | (clear g1006; omega) | omega) hB (fm_c F (by decide) : iC t 39 (c : Int).toNat = iC s 39 (c : Int).toNat) (by first | (clear g1006; omega) | omega), hq.2⟩ (by first | exact ⟨And.intro (hi.1.1) (And.intro (hi.1.2.1) (hi.1.2.2)), And.intro (oq_54f49eb5 hi.2.1.1) (oq_8a89b3ae g1003 hi.2.2.2), hi.2.2.1, hi.2.2.2⟩ | omega) (by first | exact qk_me hm (by decide) (oq_ccc5e5e0 g1003 b1002.2) | omega) kx
  refine w_lconst X.1 (ax_d X (show cdA 56 0 = some (.lconst 0, 1, 0, 0, 0) from rfl)) (z := (0 : Int64)) (by decide) (w_lstore_n X.1 (lv' := [(2, .long (0 : Int64)), (0, .ref (A 46)), (1, .int (Int32.ofInt x))]) (ax_d X (show cdA 56 1 = some (.lstore_n 2, 1, 0, 0, 0) from rfl)) (by rw [X.2.1.2.2]; decide) (fun _ h => h) (w_lconst X.1 (ax_d X (show cdA 56 2 = some (.lconst 0, 1, 0, 0, 0) from rfl)) (z := (0 : Int64)) (by decide) (w_lstore X.1 (lv' := [(4, .long (0 : Int64)), (2, .long (0 : Int64)), (0, .ref (A 46)), (1, .int (Int32.ofInt x))]) (ax_d X (show cdA 56 3 = some (.lstore 4, 2, 0, 0, 0) from rfl)) (by rw [X.2.1.2.2]; decide) (fun _ h => h) (z_const X rfl (z_store X (lv' := [(6, .int (Int32.ofInt 0)), (4, .long (0 : Int64)), (2, .long (0 : Int64)), (0, .ref (A 46)), (1, .int (Int32.ofInt x))]) rfl (by decide) (fun _ h => h) (WS_pq [3, 4, 2, 1, 0] (lv' := [(0, .ref (A 46)), (1, .int (Int32.ofInt x)), (2, .long (0 : Int64)), (4, .long (0 : Int64)), (6, .int (Int32.ofInt 0))]) rfl (L8 ((8 - 0 : Int).toNat + 1) s x (0 : Int64) (0 : Int64) 0 I F jAIR jCPL jCDJ jMTJ ⟨rsl_0, sam_rf, sam_rf, sam_rf⟩ (by first | exact ⟨And.intro (by decide) (And.intro (p0.1) (p0.2)), And.intro (by decide) (b1.1), b1.2, by decide⟩ | omega) (Nat.lt_succ_self _) ?_)))))))
  intro s2 x3 x4 x5 Is2 Fs2 JAIR_s2 JCPL_s2 JCDJ_s2 JMTJ_s2 Qs2 hs2
  have b6 := bi_28 Is2
  have hIn : inL x3 x4 = (rgS (ceC s) (nnC s) x) := rsl_e Qs2.1 (show x5 = (((iI s 28).toNat : Nat) : Int) by omega)
  refine z_aload_n X (x := A 46) rfl (List.Mem.head _) (s_getR X 46 rfl (c518_ok rfl) rfl rfl (z_load_n X (x := x) rfl (List.Mem.tail _ (List.Mem.head _)) (w_lload_n X.1 (ax_d X (show cdA 56 78 = some (.lload_n 2, 1, 0, 0, 0) from rfl)) (x := x3) (List.Mem.tail _ (List.Mem.tail _ (List.Mem.head _))) (w_lload X.1 (ax_d X (show cdA 56 79 = some (.lload 4, 2, 0, 0, 0) from rfl)) (x := x4) (List.Mem.tail _ (List.Mem.tail _ (List.Mem.tail _ (List.Mem.head _)))) (zcS_i0 X E (As := [.long x3, .long x4]) (st := [.int (Int32.ofInt x), .ref (A 48)]) rfl rfl (c3_hangs3 G Is2 ) rfl (Nat.le_of_ble_eq_true rfl) (fun s7 e8 Is7 Fs7 hrs7 hps7 => ?_))))))
  have hps7p := hps7.2
  have Gs7 := fm_tq Fs2 Fs7 rfl rfl
  have JAIR_s7 : AIR s7 := AIR_fm Fs7 (by decide) JAIR_s2
  have JCPL_s7 : CPL s7 := CPL_fm Fs7 (by decide) JCPL_s2
  have JCDJ_s7 : CDJ U s7 := CDJ_fm Fs7 (by decide) JCDJ_s2
  have JMTJ_s7 : MTJ s7 := MTJ_fm Fs7 (by decide) JMTJ_s2
  have ws7_28 : iI s7 28 = iI s2 28 := fm_iq Fs7 rfl
  have aws7_40 : SAM 40 s s7 := sam_ts Qs2.2.1 (sam_fm Fs7 (by decide))
  have aws7_41 : SAM 41 s s7 := sam_ts Qs2.2.2.1 (sam_fm Fs7 (by decide))
  have aws7_42 : SAM 42 s s7 := sam_ts Qs2.2.2.2 (sam_fm Fs7 (by decide))
  have hHG : HGE (rgS (ceC s) (nnC s) x) e8 := by rw [← hIn]; exact hps7.2
  have hE01 := hps7.1
  refine z_zast X 48 rfl (c518_ok rfl) rfl (by first | exact oq_2a6e3b50 p0.1 | omega) (show x < 256 by first | exact oq_29e5dbe2 p0.2 | omega) (cbig_ok rfl) (by first | exact hps7.1 | omega) (wd_gen (fun s9 hs9 => ?_))
  have Is9 : Bd s9 := eqB hs9 (bd_C Is7 (show (0 : Int) ≤ e8 ∧ e8 ≤ 1 by first | exact ⟨oq_e4aca38c hps7.1, oq_14617724 hps7.1⟩ | omega) hrs7)
  have Fs9 := eqF hs9 (fm_C Gs7 (inl_ok (a := 40) rfl))
  have ws9_28 : iI s9 28 = iI s7 28 := eqI hs9 rfl
  have vs9 : iC s9 40 (x).toNat = e8 := eqC hs9 (iC_u hrs7)
  have aws9_40 : UPD 40 (x) e8 s s9 := by rw [hs9]; exact upd_put aws7_40 hrs7
  have aws9_41 : SAM 41 s s9 := by rw [hs9]; exact sam_C (by decide) aws7_41
  have aws9_42 : SAM 42 s s9 := by rw [hs9]; exact sam_C (by decide) aws7_42
  have fs9 : Fm [] [40] s7 s9 := by rw [hs9]; exact fm_C (fm_rf _ _ _) (show 40 ∈ _ by decide)
  have JAIR_s9 : AIR s9 := AIR_fm fs9 (by decide) JAIR_s7
  have JCPL_s9 : CPL s9 := CPL_fm fs9 (by decide) JCPL_s7
  have JCDJ_s9 : CDJ U s9 := CDJ_fm fs9 (by decide) JCDJ_s7
  have JMTJ_s9 : MTJ s9 := MTJ_fm fs9 (by decide) JMTJ_s7
  refine z_aload_n X (x := A 46) rfl (List.Mem.head _) (s_getR X 46 rfl (c518_ok rfl) rfl rfl (z_load_n X (x := x) rfl (List.Mem.tail _ (List.Mem.head _)) (z_zald X 48 rfl (c518_ok rfl) rfl (by first | exact oq_2a6e3b50 p0.1 | omega) (show x < 256 by first | exact oq_29e5dbe2 p0.2 | omega) (cbig_ok rfl) ?_)))
  have b10 := bc_40 Is9 (show (x).toNat < 256 by first | exact oq_c39a26fc p0.2 | omega)
  refine z_if_eq X (t := 131) rfl rfl (rng_to _) (fun g11 => ?_) (fun g11 => ?_)
  ·
    exact w_vret X.1 q hRt (ax_d X (show cdA 56 131 = some (.return_, 1, 0, 0, 0) from rfl)) (Nat.zero_le _) (Nat.zero_le _) ⟨_, rfl, Is9, Fs9, rfl, (hsb_n aws9_40 aws9_41 aws9_42 (by first | (clear hps7; omega) | omega) (hge_n hHG (by first | (clear hps7; omega) | omega)))⟩
  ·
    have hS : HngT (rgS (ceC s) (nnC s) x) := hge_y hHG (by first | (clear g11 hps7; omega) | (clear hps7; omega) | omega)
    refine z_aload_n X (x := A 46) rfl (List.Mem.head _) (s_getR X 46 rfl (c518_ok rfl) rfl rfl (w_lload_n X.1 (ax_d X (show cdA 56 98 = some (.lload_n 2, 1, 0, 0, 0) from rfl)) (x := x3) (List.Mem.tail _ (List.Mem.tail _ (List.Mem.head _))) (w_lload X.1 (ax_d X (show cdA 56 99 = some (.lload 4, 2, 0, 0, 0) from rfl)) (x := x4) (List.Mem.tail _ (List.Mem.tail _ (List.Mem.tail _ (List.Mem.head _)))) (z_const X rfl (zcV_v0 X E 31 (As := [.long x3, .long x4, .int (Int32.ofInt 1)]) (st := []) rfl rfl rfl rfl (c0_listen3 G Is9 (by first | exact ⟨by decide, by decide⟩ | omega)) rfl (Nat.le_of_ble_eq_true rfl) (fun s12 Is12 Fs12 hps12 => ?_))))))
    have Gs12 := fm_tq Fs9 Fs12 rfl rfl
    have JAIR_s12 : AIR s12 := AIR_fm Fs12 (by decide) JAIR_s9
    have JCPL_s12 : CPL s12 := CPL_fm Fs12 (by decide) JCPL_s9
    have JCDJ_s12 : CDJ U s12 := CDJ_fm Fs12 (by decide) JCDJ_s9
    have JMTJ_s12 : MTJ s12 := MTJ_fm Fs12 (by decide) JMTJ_s9
    have ws12_28 : iI s12 28 = iI s9 28 := fm_iq Fs12 rfl
    have aws12_40 : UPD 40 (x) e8 s s12 := upd_ts aws9_40 (sam_fm Fs12 (by decide))
    have aws12_41 : SAM 41 s s12 := sam_ts aws9_41 (sam_fm Fs12 (by decide))
    have aws12_42 : SAM 42 s s12 := sam_ts aws9_42 (sam_fm Fs12 (by decide))
    refine z_aload_n X (x := A 46) rfl (List.Mem.head _) (s_getR X 46 rfl (c518_ok rfl) rfl rfl (z_load_n X (x := x) rfl (List.Mem.tail _ (List.Mem.head _)) (z_aload_n X (x := A 46) rfl (List.Mem.head _) (s_getR X 46 rfl (c518_ok rfl) rfl rfl (zcV_i1 X E 31 (As := []) (st := [.int (Int32.ofInt x), .ref (A 49)]) rfl rfl rfl rfl (c0_findPeak3 G Is12 JAIR_s12 JCPL_s12 hps12.1 JCDJ_s12 hps12.2 ) rfl (Nat.le_of_ble_eq_true rfl) (fun s14 e15 Is14 Fs14 JHEH_s14 hrs14 hps14 => ?_))))))
    have Gs14 := fm_tq Gs12 Fs14 rfl rfl
    have JAIR_s14 : AIR s14 := AIR_fm Fs14 (by decide) JAIR_s12
    have JCPL_s14 : CPL s14 := CPL_fm Fs14 (by decide) JCPL_s12
    have JCDJ_s14 : CDJ U s14 := CDJ_fm Fs14 (by decide) JCDJ_s12
    have JMTJ_s14 : MTJ s14 := MTJ_fm Fs14 (by decide) JMTJ_s12
    have JLSN_s14 : LSN x3 x4 s14 := LSN_fm Fs14 (by decide) hps12.1
    have ws14_28 : iI s14 28 = iI s12 28 := fm_iq Fs14 rfl
    have aws14_40 : UPD 40 (x) e8 s s14 := upd_ts aws12_40 (sam_fm Fs14 (by decide))
    have aws14_41 : SAM 41 s s14 := sam_ts aws12_41 (sam_fm Fs14 (by decide))
    have aws14_42 : SAM 42 s s14 := sam_ts aws12_42 (sam_fm Fs14 (by decide))
    have hpk : e15 = pkH U (rgS (ceC s) (nnC s) x) := by rw [← hIn]; exact hps14.1
    refine z_ast X 49 rfl (c518_ok rfl) rfl (by first | exact oq_2a6e3b50 p0.1 | omega) (show x < 256 by first | exact oq_29e5dbe2 p0.2 | omega) (cbig_ok rfl) (wd_gen (fun s16 hs16 => ?_))
    have Is16 : Bd s16 := eqB hs16 (bd_C Is14 (show ((-2147483648) : Int) ≤ e15 ∧ e15 ≤ 2147483647 by first | (clear g11 hps7; omega) | (clear hps7; omega) | omega) hrs14)
    have Fs16 := eqF hs16 (fm_C Gs14 (inl_ok (a := 41) rfl))
    have ws16_28 : iI s16 28 = iI s14 28 := eqI hs16 rfl
    have aws16_40 : UPD 40 (x) e8 s s16 := by rw [hs16]; exact upd_C (by decide) aws14_40
    have aws16_41 : UPD 41 (x) e15 s s16 := by rw [hs16]; exact upd_put aws14_41 hrs14
    have aws16_42 : SAM 42 s s16 := by rw [hs16]; exact sam_C (by decide) aws14_42
    have fs16 : Fm [] [41] s14 s16 := by rw [hs16]; exact fm_C (fm_rf _ _ _) (show 41 ∈ _ by decide)
    have JAIR_s16 : AIR s16 := AIR_fm fs16 (by decide) JAIR_s14
    have JCPL_s16 : CPL s16 := CPL_fm fs16 (by decide) JCPL_s14
    have JCDJ_s16 : CDJ U s16 := CDJ_fm fs16 (by decide) JCDJ_s14
    have JMTJ_s16 : MTJ s16 := MTJ_fm fs16 (by decide) JMTJ_s14
    have JLSN_s16 : LSN x3 x4 s16 := LSN_fm fs16 (by decide) JLSN_s14
    have JHEH_s16 : HEH x3 x4 1 s16 := HEH_fm fs16 (by decide) JHEH_s14
    refine z_aload_n X (x := A 46) rfl (List.Mem.head _) (s_getR X 46 rfl (c518_ok rfl) rfl rfl (z_load_n X (x := x) rfl (List.Mem.tail _ (List.Mem.head _)) (z_aload_n X (x := A 46) rfl (List.Mem.head _) (s_getR X 46 rfl (c518_ok rfl) rfl rfl (zcV_i0 X E 31 (As := []) (st := [.int (Int32.ofInt x), .ref (A 50)]) rfl rfl rfl rfl (c0_over8 G Is16 JAIR_s16 JLSN_s16 JCDJ_s16 JMTJ_s16 ) rfl (Nat.le_of_ble_eq_true rfl) (fun s17 e18 Is17 Fs17 hrs17 hps17 => ?_))))))
    have Gs17 := fm_tq Fs16 Fs17 rfl rfl
    have JAIR_s17 : AIR s17 := AIR_fm Fs17 (by decide) JAIR_s16
    have JCPL_s17 : CPL s17 := CPL_fm Fs17 (by decide) JCPL_s16
    have JCDJ_s17 : CDJ U s17 := CDJ_fm Fs17 (by decide) JCDJ_s16
    have JMTJ_s17 : MTJ s17 := MTJ_fm Fs17 (by decide) JMTJ_s16
    have JLSN_s17 : LSN x3 x4 s17 := LSN_fm Fs17 (by decide) JLSN_s16
    have JHEH_s17 : HEH x3 x4 1 s17 := HEH_fm Fs17 (by decide) JHEH_s16
    have ws17_28 : iI s17 28 = iI s16 28 := fm_iq Fs17 rfl
    have aws17_40 : UPD 40 (x) e8 s s17 := upd_ts aws16_40 (sam_fm Fs17 (by decide))
    have aws17_41 : UPD 41 (x) e15 s s17 := upd_ts aws16_41 (sam_fm Fs17 (by decide))
    have aws17_42 : SAM 42 s s17 := sam_ts aws16_42 (sam_fm Fs17 (by decide))
    have hov : Int32.ofInt e18 = ovQ U (rgS (ceC s) (nnC s) x) 24 := by rw [← hIn]; exact hps17
    refine z_ast X 50 rfl (c518_ok rfl) rfl (by first | exact oq_2a6e3b50 p0.1 | omega) (show x < 256 by first | exact oq_29e5dbe2 p0.2 | omega) (cbig_ok rfl) (wd_gen (fun s19 hs19 => ?_))
    have Is19 : Bd s19 := eqB hs19 (bd_C Is17 (show ((-2147483648) : Int) ≤ e18 ∧ e18 ≤ 2147483647 by first | (clear g11 hps7; omega) | (clear hps7; omega) | omega) hrs17)
    have Fs19 := eqF hs19 (fm_C Gs17 (inl_ok (a := 42) rfl))
    have ws19_28 : iI s19 28 = iI s17 28 := eqI hs19 rfl
    have aws19_40 : UPD 40 (x) e8 s s19 := by rw [hs19]; exact upd_C (by decide) aws17_40
    have aws19_41 : UPD 41 (x) e15 s s19 := by rw [hs19]; exact upd_C (by decide) aws17_41
    have aws19_42 : UPD 42 (x) e18 s s19 := by rw [hs19]; exact upd_put aws17_42 hrs17
    have fs19 : Fm [] [42] s17 s19 := by rw [hs19]; exact fm_C (fm_rf _ _ _) (show 42 ∈ _ by decide)
    have JAIR_s19 : AIR s19 := AIR_fm fs19 (by decide) JAIR_s17
    have JCPL_s19 : CPL s19 := CPL_fm fs19 (by decide) JCPL_s17
    have JCDJ_s19 : CDJ U s19 := CDJ_fm fs19 (by decide) JCDJ_s17
    have JMTJ_s19 : MTJ s19 := MTJ_fm fs19 (by decide) JMTJ_s17
    have JLSN_s19 : LSN x3 x4 s19 := LSN_fm fs19 (by decide) JLSN_s17
    have JHEH_s19 : HEH x3 x4 1 s19 := HEH_fm fs19 (by decide) JHEH_s17
    exact w_vret X.1 q hRt (ax_d X (show cdA 56 131 = some (.return_, 1, 0, 0, 0) from rfl)) (Nat.zero_le _) (Nat.zero_le _) ⟨_, rfl, Is19, Fs19, rfl, (hsb_y aws19_40 aws19_41 aws19_42 (by first | (clear g11 hps7; omega) | (clear hps7; omega) | omega) hS hpk hov)⟩
set_option maxRecDepth 4000 in
theorem c5_comp8 (G : GX l s0 D tys a0 dT) {B : BsO} (I : Bd s) {x : Int} (p0 : 1 ≤ x ∧ x ≤ 3) (p1 : PLP B (iI s 28) s) : CT l s0 D A dT 58 (rmN 58) [.ref (A 46), .int (Int32.ofInt x)] s (fun o t => Bd t ∧ Fm [31, 29, 30] [45] s t ∧ o = .inl none ∧ (BSC (nnC s) (cmB (hgC s) (pkC s) (ovC s) (nnC s) (hfC s) x B) t)) := by
  refine ct_ofX G (by decide) (Nat.le_of_ble_eq_true rfl) (fun k X E ET hRt hXt q => ?_)
  show WS k 0 [(0, .ref (A 46)), (1, .int (Int32.ofInt x))] [] _ 0 0
  have F : Fm [31, 29, 30] [45] s s := fm_rf _ _ s
  have b1 := bi_28 I
  have b2 := bi_31 I
  have b3 := bi_29 I
  have b4 := bi_30 I
  have L8 : ∀ (n : Nat) (t : PS) (xv pk ov hp : Int), Bd t → Fm [31, 29, 30] [45] s t → (CML (hgC s) (pkC s) (ovC s) (nnC s) (hfC s) hp pk ov ∧ BSC (nnC s) B t) → ((xv = x ∧ 1 ≤ x ∧ x ≤ 3) ∧ rng pk ∧ rng ov ∧ (0 ≤ hp ∧ hp ≤ x) ∧ (hp ≠ 0 ∨ pk = -2147483648) ∧ iI t 28 = iI s 28) → (3 - hp : Int).toNat < n → (∀ (t' : PS) (pk' ov' hp' : Int), Bd t' → Fm [31, 29, 30] [45] s t' → (CML (hgC s) (pkC s) (ovC s) (nnC s) (hfC s) hp' pk' ov' ∧ BSC (nnC s) B t') → ((xv = x ∧ 1 ≤ x ∧ x ≤ 3) ∧ rng pk' ∧ rng ov' ∧ hp' = x ∧ iI t' 28 = iI s 28) → WS k 62 [(0, .ref (A 46)), (1, .int (Int32.ofInt xv)), (2, .int (Int32.ofInt pk')), (3, .int (Int32.ofInt ov')), (4, .int (Int32.ofInt hp'))] [] (Wd A dT t') 0 0) → WS k 8 [(0, .ref (A 46)), (1, .int (Int32.ofInt xv)), (2, .int (Int32.ofInt pk)), (3, .int (Int32.ofInt ov)), (4, .int (Int32.ofInt hp))] [] (Wd A dT t) 0 0 := by
    intro n
    induction n with
    | zero =>
      intro t xv pk ov hp I F hq hi hm kx
      exact absurd hm (Nat.not_lt_zero _)
    | succ n ih =>
      intro t xv pk ov hp I F hq hi hm kx
      have b1001 := bi_28 I
      have b1002 := bi_31 I
      have b1003 := bi_29 I
      have b1004 := bi_30 I
      refine z_load X (x := hp) rfl (List.Mem.tail _ (List.Mem.tail _ (List.Mem.tail _ (List.Mem.tail _ (List.Mem.head _))))) (z_load_n X (x := xv) rfl (List.Mem.tail _ (List.Mem.head _)) (z_icmp_ge X (t := 62) rfl rfl ⟨by first | exact oq_fa4e5087 hi.2.2.2.1.1 | omega, by first | exact oq_f647a1c7 hi.2.2.2.1.2 hi.1.2.2 | omega⟩ ⟨by first | exact oq_4dc996b7 hi.1.1 hi.1.2.1 | omega, by first | exact oq_fc67fc75 hi.1.1 hi.1.2.2 | omega⟩ (fun g1005 => ?_) (fun g1005 => ?_)))
      ·
        refine WS_pq [0, 1, 2, 3, 4] (lv' := [(0, .ref (A 46)), (1, .int (Int32.ofInt xv)), (2, .int (Int32.ofInt pk)), (3, .int (Int32.ofInt ov)), (4, .int (Int32.ofInt hp))]) rfl ?_
        exact kx _ pk ov hp I F hq (by first | exact ⟨And.intro (hi.1.1) (And.intro (hi.1.2.1) (hi.1.2.2)), And.intro (hi.2.1.1) (hi.2.1.2), And.intro (hi.2.2.1.1) (hi.2.2.1.2), oq_537ca82a hi.2.2.2.1.2 g1005 hi.1.1, hi.2.2.2.2.2⟩ | omega)
      ·
        refine z_aload_n X (x := A 46) rfl (List.Mem.head _) (s_getR X 46 rfl (c518_ok rfl) rfl rfl (z_load X (x := hp) rfl (List.Mem.tail _ (List.Mem.tail _ (List.Mem.tail _ (List.Mem.tail _ (List.Mem.head _))))) (z_ald X 52 rfl (c518_ok rfl) rfl (by first | exact hi.2.2.2.1.1 | omega) (show hp < 3 by first | exact oq_c1d53187 g1005 hi.1.1 hi.1.2.2 | omega) (cbig_ok rfl) ?_)))
        have b1006 := bc_44 I (show (hp).toNat < 3 by first | exact oq_6679beeb g1005 hi.1.1 hi.1.2.2 | omega)
        have hx : (iC t 44 (hp).toNat) = msI (hfC s) hp (nnC s) := by have z := p1.2 (hp : Int).toNat (by omega); rw [show (((hp : Int).toNat : Nat) : Int) = hp by omega] at z; exact (fm_c F (by decide) : iC t 44 (hp : Int).toNat = iC s 44 (hp : Int).toNat).trans z
        refine z_store X (lv' := [(5, .int (Int32.ofInt (iC t 44 (hp).toNat))), (0, .ref (A 46)), (1, .int (Int32.ofInt xv)), (2, .int (Int32.ofInt pk)), (3, .int (Int32.ofInt ov)), (4, .int (Int32.ofInt hp))]) rfl (by decide) (fun _ h => h) (z_aload_n X (x := A 46) rfl (List.Mem.tail _ (List.Mem.head _)) (s_getR X 46 rfl (c518_ok rfl) rfl rfl (z_load X (x := (iC t 44 (hp).toNat)) rfl (List.Mem.head _) (z_zald X 48 rfl (c518_ok rfl) rfl (by first | exact b1006.1 | omega) (show (iC t 44 (hp).toNat) < 256 by first | exact oq_29e5dbe2 b1006.2 | omega) (cbig_ok rfl) ?_))))
        have b1007 := bc_40 I (show ((iC t 44 (hp).toNat)).toNat < 256 by first | exact oq_c39a26fc b1006.2 | omega)
        refine z_if_ne X (t := 34) rfl rfl (rng_to _) (fun g1008 => ?_) (fun g1008 => ?_)
        ·
          refine z_load_n X (x := pk) rfl (List.Mem.tail _ (List.Mem.tail _ (List.Mem.tail _ (List.Mem.head _)))) (z_aload_n X (x := A 46) rfl (List.Mem.tail _ (List.Mem.head _)) (s_getR X 46 rfl (c518_ok rfl) rfl rfl (z_load X (x := (iC t 44 (hp).toNat)) rfl (List.Mem.head _) (z_ald X 49 rfl (c518_ok rfl) rfl (by first | exact b1006.1 | omega) (show (iC t 44 (hp).toNat) < 256 by first | exact oq_29e5dbe2 b1006.2 | omega) (cbig_ok rfl) ?_))))
          have b1009 := bc_41 I (show ((iC t 44 (hp).toNat)).toNat < 256 by first | exact oq_c39a26fc b1006.2 | omega)
          refine z_max X rfl ⟨by first | exact hi.2.1.1 | omega, by first | exact hi.2.1.2 | omega⟩ (rng_to _) (by rw [E.2.2.2]; decide) (by rw [E.2.2.2]; exact Nat.le_of_ble_eq_true rfl) (Nat.zero_le _) (Nat.zero_le _) (fun e1010 he1010 => ?_)
          refine z_store_n X (lv' := [(2, .int (Int32.ofInt e1010)), (5, .int (Int32.ofInt (iC t 44 (hp).toNat))), (0, .ref (A 46)), (1, .int (Int32.ofInt xv)), (3, .int (Int32.ofInt ov)), (4, .int (Int32.ofInt hp))]) rfl (by decide) (fun _ h => h) (z_load_n X (x := ov) rfl (List.Mem.tail _ (List.Mem.tail _ (List.Mem.tail _ (List.Mem.tail _ (List.Mem.head _))))) (z_aload_n X (x := A 46) rfl (List.Mem.tail _ (List.Mem.tail _ (List.Mem.head _))) (s_getR X 46 rfl (c518_ok rfl) rfl rfl (z_load X (x := (iC t 44 (hp).toNat)) rfl (List.Mem.tail _ (List.Mem.head _)) (z_ald X 50 rfl (c518_ok rfl) rfl (by first | exact b1006.1 | omega) (show (iC t 44 (hp).toNat) < 256 by first | exact oq_29e5dbe2 b1006.2 | omega) (cbig_ok rfl) ?_)))))
          have b1011 := bc_42 I (show ((iC t 44 (hp).toNat)).toNat < 256 by first | exact oq_c39a26fc b1006.2 | omega)
          refine z_add X rfl (z_anyV (fun y1012 hy1012 ey1012 => ?_))
          refine z_store_n X (lv' := [(3, .int (Int32.ofInt y1012)), (2, .int (Int32.ofInt e1010)), (5, .int (Int32.ofInt (iC t 44 (hp).toNat))), (0, .ref (A 46)), (1, .int (Int32.ofInt xv)), (4, .int (Int32.ofInt hp))]) rfl (by decide) (fun _ h => h) (z_inc X (x := hp) (lv' := [(4, .int (Int32.ofInt (hp + 1))), (3, .int (Int32.ofInt y1012)), (2, .int (Int32.ofInt e1010)), (5, .int (Int32.ofInt (iC t 44 (hp).toNat))), (0, .ref (A 46)), (1, .int (Int32.ofInt xv))]) rfl (by decide) (List.Mem.tail _ (List.Mem.tail _ (List.Mem.tail _ (List.Mem.tail _ (List.Mem.tail _ (List.Mem.head _)))))) (fun _ h => h) (z_goto X (t := 8) rfl rfl (WS_pq [4, 5, 2, 1, 0] (lv' := [(0, .ref (A 46)), (1, .int (Int32.ofInt xv)), (2, .int (Int32.ofInt e1010)), (3, .int (Int32.ofInt y1012)), (4, .int (Int32.ofInt (hp + 1)))]) rfl ?_)))
          exact ih _ xv e1010 y1012 (hp + 1) I F ⟨cml_up (x := (iC t 44 (hp).toNat)) hq.1 (by first | (clear g1008; omega) | omega) hx (fm_c F (by decide) : iC t 40 ((iC t 44 (hp).toNat) : Int).toNat = iC s 40 ((iC t 44 (hp).toNat) : Int).toNat) (by first | (clear g1008; omega) | omega) (fm_c F (by decide) : iC t 41 ((iC t 44 (hp).toNat) : Int).toNat = iC s 41 ((iC t 44 (hp).toNat) : Int).toNat) (by first | (clear g1008; omega) | omega) (fm_c F (by decide) : iC t 42 ((iC t 44 (hp).toNat) : Int).toNat = iC s 42 ((iC t 44 (hp).toNat) : Int).toNat) ey1012, hq.2⟩ (by first | exact ⟨And.intro (hi.1.1) (And.intro (hi.1.2.1) (hi.1.2.2)), oq_e36c8877 he1010 b1009.2 hi.2.1.2 hi.2.1.1, And.intro (hy1012.1) (hy1012.2), And.intro (oq_54f49eb5 hi.2.2.2.1.1) (oq_8a89b3ae g1005 hi.1.1), Or.inl (oq_048e57d8 hi.2.2.2.1.1), hi.2.2.2.2.2⟩ | omega) (by first | exact qk_me hm (by decide) (oq_273e7409 g1005 hi.1.1 hi.1.2.2) | omega) kx
        ·
          exact w_vret X.1 q hRt (ax_d X (show cdA 58 33 = some (.return_, 1, 0, 0, 0) from rfl)) (Nat.zero_le _) (Nat.zero_le _) ⟨_, rfl, I, F, rfl, (by rw [cmb_no (c := hp) (x := (iC t 44 (hp).toNat)) (by omega) hx (show iC s 40 ((iC t 44 (hp).toNat) : Int).toNat = 0 from (fm_c F (by decide) : iC t 40 ((iC t 44 (hp).toNat) : Int).toNat = iC s 40 ((iC t 44 (hp).toNat) : Int).toNat).symm.trans (by omega))]; exact hq.2)⟩
  refine z_ldc X rfl (z_store_n X (lv' := [(2, .int (Int32.ofInt (-2147483648))), (0, .ref (A 46)), (1, .int (Int32.ofInt x))]) rfl (by decide) (fun _ h => h) (z_const X rfl (z_store_n X (lv' := [(3, .int (Int32.ofInt 0)), (2, .int (Int32.ofInt (-2147483648))), (0, .ref (A 46)), (1, .int (Int32.ofInt x))]) rfl (by decide) (fun _ h => h) (z_const X rfl (z_store X (lv' := [(4, .int (Int32.ofInt 0)), (3, .int (Int32.ofInt 0)), (2, .int (Int32.ofInt (-2147483648))), (0, .ref (A 46)), (1, .int (Int32.ofInt x))]) rfl (by decide) (fun _ h => h) (WS_pq [3, 4, 2, 1, 0] (lv' := [(0, .ref (A 46)), (1, .int (Int32.ofInt x)), (2, .int (Int32.ofInt (-2147483648))), (3, .int (Int32.ofInt 0)), (4, .int (Int32.ofInt 0))]) rfl (L8 ((3 - 0 : Int).toNat + 1) s x (-2147483648) 0 0 I F ⟨cml_0, p1.1⟩ (by first | exact ⟨And.intro (by decide) (And.intro (p0.1) (p0.2)), And.intro (by decide) (by decide), And.intro (by decide) (by decide), And.intro (by decide) (oq_2a6e3b50 p0.1), Or.inr (by decide), by decide⟩ | omega) (Nat.lt_succ_self _) ?_)))))))
  intro s5 x6 x7 x8 Is5 Fs5 Qs5 hs5
  have b9 := bi_28 Is5
  have b10 := bi_31 Is5
  have b11 := bi_29 Is5
  have b12 := bi_30 Is5
  have hC : CML (hgC s) (pkC s) (ovC s) (nnC s) (hfC s) x x6 x7 := by have z := Qs5.1; rw [show x8 = x by omega] at z; exact z
  refine z_aload_n X (x := A 46) rfl (List.Mem.head _) (z_getI X 46 rfl (c518_ok rfl) rfl rfl ?_)
  have b13 := bi_31 Is5
  refine z_if_eq X (t := 93) rfl rfl (rng_to _) (fun g14 => ?_) (fun g14 => ?_)
  ·
    refine z_aload_n X (x := A 46) rfl (List.Mem.head _) (z_const X rfl (s_putI X 46 rfl (c518_ok rfl) rfl rfl (by decide) (nar_ret (by omega)) (fit_z (by omega)) rfl (wd_gen (fun s15 hs15 => ?_))))
    have Is15 : Bd s15 := eqB hs15 (bd_I Is5 (show (0 : Int) ≤ 1 ∧ 1 ≤ 1 by first | exact ⟨by decide, by decide⟩ | omega) (by decide))
    have Fs15 := eqF hs15 (fm_I Fs5 (inl_ok (a := 31) rfl))
    have vs15 : iI s15 31 = 1 := eqI hs15 (iI_u (by decide))
    have ws15_28 : iI s15 28 = iI s5 28 := eqI hs15 rfl
    have ws15_29 : iI s15 29 = iI s5 29 := eqI hs15 rfl
    have ws15_30 : iI s15 30 = iI s5 30 := eqI hs15 rfl
    refine z_aload_n X (x := A 46) rfl (List.Mem.head _) (z_load_n X (x := x6) rfl (List.Mem.tail _ (List.Mem.tail _ (List.Mem.head _))) (s_putI X 46 rfl (c518_ok rfl) rfl rfl (by decide) rfl rfl rfl (wd_gen (fun s16 hs16 => ?_))))
    have Is16 : Bd s16 := eqB hs16 (bd_I Is15 (show ((-2147483648) : Int) ≤ x6 ∧ x6 ≤ 2147483647 by first | exact ⟨hs5.2.1.1, hs5.2.1.2⟩ | omega) ⟨by first | exact hs5.2.1.1 | omega, by first | exact hs5.2.1.2 | omega⟩)
    have Fs16 := eqF hs16 (fm_I Fs15 (inl_ok (a := 29) rfl))
    have vs16 : iI s16 29 = x6 := eqI hs16 (iI_u ⟨by first | exact hs5.2.1.1 | omega, by first | exact hs5.2.1.2 | omega⟩)
    have ws16_28 : iI s16 28 = iI s15 28 := eqI hs16 rfl
    have ws16_31 : iI s16 31 = iI s15 31 := eqI hs16 rfl
    have ws16_30 : iI s16 30 = iI s15 30 := eqI hs16 rfl
    refine z_aload_n X (x := A 46) rfl (List.Mem.head _) (z_load_n X (x := x7) rfl (List.Mem.tail _ (List.Mem.tail _ (List.Mem.tail _ (List.Mem.head _)))) (s_putI X 46 rfl (c518_ok rfl) rfl rfl (by decide) rfl rfl rfl (wd_gen (fun s17 hs17 => ?_))))
    have Is17 : Bd s17 := eqB hs17 (bd_I Is16 (show ((-2147483648) : Int) ≤ x7 ∧ x7 ≤ 2147483647 by first | exact ⟨hs5.2.2.1.1, hs5.2.2.1.2⟩ | omega) ⟨by first | exact hs5.2.2.1.1 | omega, by first | exact hs5.2.2.1.2 | omega⟩)
    have Fs17 := eqF hs17 (fm_I Fs16 (inl_ok (a := 30) rfl))
    have vs17 : iI s17 30 = x7 := eqI hs17 (iI_u ⟨by first | exact hs5.2.2.1.1 | omega, by first | exact hs5.2.2.1.2 | omega⟩)
    have ws17_28 : iI s17 28 = iI s16 28 := eqI hs17 rfl
    have ws17_31 : iI s17 31 = iI s16 31 := eqI hs17 rfl
    have ws17_29 : iI s17 29 = iI s16 29 := eqI hs17 rfl
    refine z_aload_n X (x := A 46) rfl (List.Mem.head _) (s_getR X 46 rfl (c518_ok rfl) rfl rfl (z_const X rfl (z_aload_n X (x := A 46) rfl (List.Mem.head _) (s_getR X 46 rfl (c518_ok rfl) rfl rfl (z_const X rfl (z_aload_n X (x := A 46) rfl (List.Mem.head _) (z_getI X 46 rfl (c518_ok rfl) rfl rfl ?_)))))))
    have b18 := bi_28 Is17
    refine z_copyF X Is17 51 53 (st := []) rfl (by decide) (by decide) rfl rfl (by omega) (by omega) (by omega) (show 0 + (iI s17 28) ≤ ((8 : Nat) : Int) by omega) (show 0 + (iI s17 28) ≤ ((8 : Nat) : Int) by omega) (by decide) (by rw [E.2.2.2]; decide) (by rw [E.2.2.2]; exact Nat.le_of_ble_eq_true rfl) (fun s19 Is19 Fs19 cs19 => ?_)
    have Gs19 := fm_tq Fs17 Fs19 rfl rfl
    have ws19_28 : iI s19 28 = iI s17 28 := fm_iq Fs19 rfl
    have ws19_31 : iI s19 31 = iI s17 31 := fm_iq Fs19 rfl
    have ws19_29 : iI s19 29 = iI s17 29 := fm_iq Fs19 rfl
    have ws19_30 : iI s19 30 = iI s17 30 := fm_iq Fs19 rfl
    exact w_vret X.1 q hRt (ax_d X (show cdA 58 125 = some (.return_, 1, 0, 0, 0) from rfl)) (Nat.zero_le _) (Nat.zero_le _) ⟨_, rfl, Is19, Gs19, rfl, (by rw [cmb_y hC (by omega) ⟨by first | exact hs5.2.2.1.1 | omega, by first | exact hs5.2.2.1.2 | omega⟩ (bsc_b Qs5.2 (by omega))]; exact bsc_w (by omega) (by omega) (by omega) (fun j hj => by have w : j < (iI s 28).toNat := hj; have z := cs19 j (by omega); rw [if_pos (by omega), show (0 : Int).toNat + (j - (0 : Int).toNat) = j by omega] at z; exact z.trans (fm_c Fs17 (by decide))))⟩
  ·
    refine z_load_n X (x := x6) rfl (List.Mem.tail _ (List.Mem.tail _ (List.Mem.head _))) (z_aload_n X (x := A 46) rfl (List.Mem.head _) (z_getI X 46 rfl (c518_ok rfl) rfl rfl ?_))
    have b20 := bi_29 Is5
    refine z_icmp_lt X (t := 93) rfl rfl ⟨by first | exact hs5.2.1.1 | omega, by first | exact hs5.2.1.2 | omega⟩ (rng_to _) (fun g21 => ?_) (fun g21 => ?_)
    ·
      refine z_aload_n X (x := A 46) rfl (List.Mem.head _) (z_const X rfl (s_putI X 46 rfl (c518_ok rfl) rfl rfl (by decide) (nar_ret (by first | (clear g14; omega) | omega)) (fit_z (by first | (clear g14; omega) | omega)) rfl (wd_gen (fun s22 hs22 => ?_))))
      have Is22 : Bd s22 := eqB hs22 (bd_I Is5 (show (0 : Int) ≤ 1 ∧ 1 ≤ 1 by first | exact ⟨by decide, by decide⟩ | omega) (by decide))
      have Fs22 := eqF hs22 (fm_I Fs5 (inl_ok (a := 31) rfl))
      have vs22 : iI s22 31 = 1 := eqI hs22 (iI_u (by decide))
      have ws22_28 : iI s22 28 = iI s5 28 := eqI hs22 rfl
      have ws22_29 : iI s22 29 = iI s5 29 := eqI hs22 rfl
      have ws22_30 : iI s22 30 = iI s5 30 := eqI hs22 rfl
      refine z_aload_n X (x := A 46) rfl (List.Mem.head _) (z_load_n X (x := x6) rfl (List.Mem.tail _ (List.Mem.tail _ (List.Mem.head _))) (s_putI X 46 rfl (c518_ok rfl) rfl rfl (by decide) rfl rfl rfl (wd_gen (fun s23 hs23 => ?_))))
      have Is23 : Bd s23 := eqB hs23 (bd_I Is22 (show ((-2147483648) : Int) ≤ x6 ∧ x6 ≤ 2147483647 by first | exact ⟨hs5.2.1.1, hs5.2.1.2⟩ | omega) ⟨by first | exact hs5.2.1.1 | omega, by first | exact hs5.2.1.2 | omega⟩)
      have Fs23 := eqF hs23 (fm_I Fs22 (inl_ok (a := 29) rfl))
      have vs23 : iI s23 29 = x6 := eqI hs23 (iI_u ⟨by first | exact hs5.2.1.1 | omega, by first | exact hs5.2.1.2 | omega⟩)
      have ws23_28 : iI s23 28 = iI s22 28 := eqI hs23 rfl
      have ws23_31 : iI s23 31 = iI s22 31 := eqI hs23 rfl
      have ws23_30 : iI s23 30 = iI s22 30 := eqI hs23 rfl
      refine z_aload_n X (x := A 46) rfl (List.Mem.head _) (z_load_n X (x := x7) rfl (List.Mem.tail _ (List.Mem.tail _ (List.Mem.tail _ (List.Mem.head _)))) (s_putI X 46 rfl (c518_ok rfl) rfl rfl (by decide) rfl rfl rfl (wd_gen (fun s24 hs24 => ?_))))
      have Is24 : Bd s24 := eqB hs24 (bd_I Is23 (show ((-2147483648) : Int) ≤ x7 ∧ x7 ≤ 2147483647 by first | exact ⟨hs5.2.2.1.1, hs5.2.2.1.2⟩ | omega) ⟨by first | exact hs5.2.2.1.1 | omega, by first | exact hs5.2.2.1.2 | omega⟩)
      have Fs24 := eqF hs24 (fm_I Fs23 (inl_ok (a := 30) rfl))
      have vs24 : iI s24 30 = x7 := eqI hs24 (iI_u ⟨by first | exact hs5.2.2.1.1 | omega, by first | exact hs5.2.2.1.2 | omega⟩)
      have ws24_28 : iI s24 28 = iI s23 28 := eqI hs24 rfl
      have ws24_31 : iI s24 31 = iI s23 31 := eqI hs24 rfl
      have ws24_29 : iI s24 29 = iI s23 29 := eqI hs24 rfl
      refine z_aload_n X (x := A 46) rfl (List.Mem.head _) (s_getR X 46 rfl (c518_ok rfl) rfl rfl (z_const X rfl (z_aload_n X (x := A 46) rfl (List.Mem.head _) (s_getR X 46 rfl (c518_ok rfl) rfl rfl (z_const X rfl (z_aload_n X (x := A 46) rfl (List.Mem.head _) (z_getI X 46 rfl (c518_ok rfl) rfl rfl ?_)))))))
      have b25 := bi_28 Is24
      refine z_copyF X Is24 51 53 (st := []) rfl (by decide) (by decide) rfl rfl (by first | (clear g14; omega) | omega) (by first | (clear g14; omega) | omega) (by first | (clear g14; omega) | omega) (show 0 + (iI s24 28) ≤ ((8 : Nat) : Int) by first | (clear g14; omega) | omega) (show 0 + (iI s24 28) ≤ ((8 : Nat) : Int) by first | (clear g14; omega) | omega) (by decide) (by rw [E.2.2.2]; decide) (by rw [E.2.2.2]; exact Nat.le_of_ble_eq_true rfl) (fun s26 Is26 Fs26 cs26 => ?_)
      have Gs26 := fm_tq Fs24 Fs26 rfl rfl
      have ws26_28 : iI s26 28 = iI s24 28 := fm_iq Fs26 rfl
      have ws26_31 : iI s26 31 = iI s24 31 := fm_iq Fs26 rfl
      have ws26_29 : iI s26 29 = iI s24 29 := fm_iq Fs26 rfl
      have ws26_30 : iI s26 30 = iI s24 30 := fm_iq Fs26 rfl
      exact w_vret X.1 q hRt (ax_d X (show cdA 58 125 = some (.return_, 1, 0, 0, 0) from rfl)) (Nat.zero_le _) (Nat.zero_le _) ⟨_, rfl, Is26, Gs26, rfl, (by rw [cmb_y hC (by first | (clear g14; omega) | omega) ⟨by first | exact hs5.2.2.1.1 | omega, by first | exact hs5.2.2.1.2 | omega⟩ (bsc_b Qs5.2 (by first | (clear g14; omega) | omega))]; exact bsc_w (by first | (clear g14; omega) | omega) (by first | (clear g14; omega) | omega) (by first | (clear g14; omega) | omega) (fun j hj => by have w : j < (iI s 28).toNat := hj; have z := cs26 j (by first | (clear g14; omega) | omega); rw [if_pos (by first | (clear g14; omega) | omega), show (0 : Int).toNat + (j - (0 : Int).toNat) = j by first | (clear g14; omega) | omega] at z; exact z.trans (fm_c Fs24 (by decide))))⟩
    ·
      refine z_load_n X (x := x6) rfl (List.Mem.tail _ (List.Mem.tail _ (List.Mem.head _))) (z_aload_n X (x := A 46) rfl (List.Mem.head _) (z_getI X 46 rfl (c518_ok rfl) rfl rfl ?_))
      have b27 := bi_29 Is5
      refine z_icmp_ne X (t := 125) rfl rfl ⟨by first | exact hs5.2.1.1 | omega, by first | exact hs5.2.1.2 | omega⟩ (rng_to _) (fun g28 => ?_) (fun g28 => ?_)
      ·
        exact w_vret X.1 q hRt (ax_d X (show cdA 58 125 = some (.return_, 1, 0, 0, 0) from rfl)) (Nat.zero_le _) (Nat.zero_le _) ⟨_, rfl, Is5, Fs5, rfl, (by rw [cmb_k hC (by first | (clear g28 g14; omega) | (clear g14; omega) | omega) ⟨by first | exact hs5.2.2.1.1 | omega, by first | exact hs5.2.2.1.2 | omega⟩ (bsc_k Qs5.2 (by first | (clear g28 g14; omega) | (clear g14; omega) | omega))]; exact Qs5.2)⟩
      ·
        refine z_load_n X (x := x7) rfl (List.Mem.tail _ (List.Mem.tail _ (List.Mem.tail _ (List.Mem.head _)))) (z_aload_n X (x := A 46) rfl (List.Mem.head _) (z_getI X 46 rfl (c518_ok rfl) rfl rfl ?_))
        have b29 := bi_30 Is5
        refine z_icmp_ge X (t := 125) rfl rfl ⟨by first | exact hs5.2.2.1.1 | omega, by first | exact hs5.2.2.1.2 | omega⟩ (rng_to _) (fun g30 => ?_) (fun g30 => ?_)
        ·
          exact w_vret X.1 q hRt (ax_d X (show cdA 58 125 = some (.return_, 1, 0, 0, 0) from rfl)) (Nat.zero_le _) (Nat.zero_le _) ⟨_, rfl, Is5, Fs5, rfl, (by rw [cmb_k hC (by first | (clear g14; omega) | omega) ⟨by first | exact hs5.2.2.1.1 | omega, by first | exact hs5.2.2.1.2 | omega⟩ (bsc_k Qs5.2 (by first | (clear g14; omega) | omega))]; exact Qs5.2)⟩
        ·
          refine z_aload_n X (x := A 46) rfl (List.Mem.head _) (z_const X rfl (s_putI X 46 rfl (c518_ok rfl) rfl rfl (by decide) (nar_ret (by first | (clear g14; omega) | omega)) (fit_z (by first | (clear g14; omega) | omega)) rfl (wd_gen (fun s31 hs31 => ?_))))
          have Is31 : Bd s31 := eqB hs31 (bd_I Is5 (show (0 : Int) ≤ 1 ∧ 1 ≤ 1 by first | exact ⟨by decide, by decide⟩ | omega) (by decide))
          have Fs31 := eqF hs31 (fm_I Fs5 (inl_ok (a := 31) rfl))
          have vs31 : iI s31 31 = 1 := eqI hs31 (iI_u (by decide))
          have ws31_28 : iI s31 28 = iI s5 28 := eqI hs31 rfl
          have ws31_29 : iI s31 29 = iI s5 29 := eqI hs31 rfl
          have ws31_30 : iI s31 30 = iI s5 30 := eqI hs31 rfl
          refine z_aload_n X (x := A 46) rfl (List.Mem.head _) (z_load_n X (x := x6) rfl (List.Mem.tail _ (List.Mem.tail _ (List.Mem.head _))) (s_putI X 46 rfl (c518_ok rfl) rfl rfl (by decide) rfl rfl rfl (wd_gen (fun s32 hs32 => ?_))))
          have Is32 : Bd s32 := eqB hs32 (bd_I Is31 (show ((-2147483648) : Int) ≤ x6 ∧ x6 ≤ 2147483647 by first | exact ⟨hs5.2.1.1, hs5.2.1.2⟩ | omega) ⟨by first | exact hs5.2.1.1 | omega, by first | exact hs5.2.1.2 | omega⟩)
          have Fs32 := eqF hs32 (fm_I Fs31 (inl_ok (a := 29) rfl))
          have vs32 : iI s32 29 = x6 := eqI hs32 (iI_u ⟨by first | exact hs5.2.1.1 | omega, by first | exact hs5.2.1.2 | omega⟩)
          have ws32_28 : iI s32 28 = iI s31 28 := eqI hs32 rfl
          have ws32_31 : iI s32 31 = iI s31 31 := eqI hs32 rfl
          have ws32_30 : iI s32 30 = iI s31 30 := eqI hs32 rfl
          refine z_aload_n X (x := A 46) rfl (List.Mem.head _) (z_load_n X (x := x7) rfl (List.Mem.tail _ (List.Mem.tail _ (List.Mem.tail _ (List.Mem.head _)))) (s_putI X 46 rfl (c518_ok rfl) rfl rfl (by decide) rfl rfl rfl (wd_gen (fun s33 hs33 => ?_))))
          have Is33 : Bd s33 := eqB hs33 (bd_I Is32 (show ((-2147483648) : Int) ≤ x7 ∧ x7 ≤ 2147483647 by first | exact ⟨hs5.2.2.1.1, hs5.2.2.1.2⟩ | omega) ⟨by first | exact hs5.2.2.1.1 | omega, by first | exact hs5.2.2.1.2 | omega⟩)
          have Fs33 := eqF hs33 (fm_I Fs32 (inl_ok (a := 30) rfl))
          have vs33 : iI s33 30 = x7 := eqI hs33 (iI_u ⟨by first | exact hs5.2.2.1.1 | omega, by first | exact hs5.2.2.1.2 | omega⟩)
          have ws33_28 : iI s33 28 = iI s32 28 := eqI hs33 rfl
          have ws33_31 : iI s33 31 = iI s32 31 := eqI hs33 rfl
          have ws33_29 : iI s33 29 = iI s32 29 := eqI hs33 rfl
          refine z_aload_n X (x := A 46) rfl (List.Mem.head _) (s_getR X 46 rfl (c518_ok rfl) rfl rfl (z_const X rfl (z_aload_n X (x := A 46) rfl (List.Mem.head _) (s_getR X 46 rfl (c518_ok rfl) rfl rfl (z_const X rfl (z_aload_n X (x := A 46) rfl (List.Mem.head _) (z_getI X 46 rfl (c518_ok rfl) rfl rfl ?_)))))))
          have b34 := bi_28 Is33
          refine z_copyF X Is33 51 53 (st := []) rfl (by decide) (by decide) rfl rfl (by first | (clear g14; omega) | omega) (by first | (clear g14; omega) | omega) (by first | (clear g14; omega) | omega) (show 0 + (iI s33 28) ≤ ((8 : Nat) : Int) by first | (clear g14; omega) | omega) (show 0 + (iI s33 28) ≤ ((8 : Nat) : Int) by first | (clear g14; omega) | omega) (by decide) (by rw [E.2.2.2]; decide) (by rw [E.2.2.2]; exact Nat.le_of_ble_eq_true rfl) (fun s35 Is35 Fs35 cs35 => ?_)
          have Gs35 := fm_tq Fs33 Fs35 rfl rfl
          have ws35_28 : iI s35 28 = iI s33 28 := fm_iq Fs35 rfl
          have ws35_31 : iI s35 31 = iI s33 31 := fm_iq Fs35 rfl
          have ws35_29 : iI s35 29 = iI s33 29 := fm_iq Fs35 rfl
          have ws35_30 : iI s35 30 = iI s33 30 := fm_iq Fs35 rfl
          exact w_vret X.1 q hRt (ax_d X (show cdA 58 125 = some (.return_, 1, 0, 0, 0) from rfl)) (Nat.zero_le _) (Nat.zero_le _) ⟨_, rfl, Is35, Gs35, rfl, (by rw [cmb_y hC (by first | (clear g14; omega) | omega) ⟨by first | exact hs5.2.2.1.1 | omega, by first | exact hs5.2.2.1.2 | omega⟩ (bsc_b Qs5.2 (by first | (clear g14; omega) | omega))]; exact bsc_w (by first | (clear g14; omega) | omega) (by first | (clear g14; omega) | omega) (by first | (clear g14; omega) | omega) (fun j hj => by have w : j < (iI s 28).toNat := hj; have z := cs35 j (by first | (clear g14; omega) | omega); rw [if_pos (by first | (clear g14; omega) | omega), show (0 : Int).toNat + (j - (0 : Int).toNat) = j by first | (clear g14; omega) | omega] at z; exact z.trans (fm_c Fs33 (by decide))))⟩
set_option maxRecDepth 4000 in
theorem c5_place80 (G : GX l s0 D tys a0 dT) {B : BsO} (I : Bd s) {x y z : Int} (p0 : 0 ≤ x ∧ x ≤ iI s 28) (p1 : iI s 28 - x ≤ ((0 : Nat) : Int)) (p2 : 0 ≤ y ∧ y ≤ z) (p3 : 1 ≤ z ∧ z ≤ 3) (p4 : x = 0 ∨ 1 ≤ y) (p5 : 1 ≤ iI s 28) (p6 : PLP B x s) : CT l s0 D A dT 57 (rkR (12 + (0))) [.ref (A 46), .int (Int32.ofInt x), .int (Int32.ofInt y), .int (Int32.ofInt z)] s (fun o t => Bd t ∧ Fm [31, 29, 30] [45, 43, 44] s t ∧ o = .inl none ∧ (PLQ B x y z s t)) := by
  refine ct_ofX G (by decide) (Nat.le_of_ble_eq_true rfl) (fun k X E ET hRt hXt q => ?_)
  show WS k 0 [(0, .ref (A 46)), (1, .int (Int32.ofInt x)), (2, .int (Int32.ofInt y)), (3, .int (Int32.ofInt z))] [] _ 0 0
  have F : Fm [31, 29, 30] [45, 43, 44] s s := fm_rf _ _ s
  have b1 := bi_28 I
  have b2 := bi_31 I
  have b3 := bi_29 I
  have b4 := bi_30 I
  refine z_load_n X (x := x) rfl (List.Mem.tail _ (List.Mem.head _)) (z_aload_n X (x := A 46) rfl (List.Mem.head _) (z_getI X 46 rfl (c518_ok rfl) rfl rfl ?_))
  have b5 := bi_28 I
  refine z_icmp_lt X (t := 14) rfl rfl ⟨by first | exact oq_fa4e5087 p0.1 | omega, by first | exact oq_b5dbaaed p0.2 b5.2 | omega⟩ (rng_to _) (fun g6 => ?_) (fun g6 => ?_)
  ·
    exfalso
    omega
  ·
    refine z_aload_n X (x := A 46) rfl (List.Mem.head _) (z_load_n X (x := y) rfl (List.Mem.tail _ (List.Mem.tail _ (List.Mem.head _))) (z_callV X 46 (rm := rmN 58) (As := [.int (Int32.ofInt y)]) (st := []) rfl rfl (by decide) rfl (by rw [E.1, E.2.1, E.2.2.1]; exact c5_comp8 G I (by first | exact ⟨oq_27ead5b3 g6 p5 p4, oq_300cfc0a p2.2 p3.2⟩ | omega) (by rw [← (show x = iI s 28 by first | (clear p4; omega) | omega)]; exact p6)) ⟨by rw [E.2.2.2]; exact (show 7 + 1 ≤ (12 + (12 + (0))) from oq_8067230e), by rw [E.2.2.2]; exact (show 8 + (6 + 11) + 121 ≤ (500 + 45 * (12 + (0))) from oq_f178cd33), by rw [E.2.2.2]; exact Nat.le_refl 0, by rw [E.2.2.2]; exact Nat.le_refl 0⟩ (Nat.le_of_ble_eq_true rfl) (fun vv s7 hq => ?_) (fun ee s7 hq => ?_)))
    rotate_left
    · obtain ⟨Is7, Fs7, hv, hps7⟩ := hq; cases hv
    obtain ⟨Is7, Fs7, hv, hps7⟩ := hq
    cases hv
    have Gs7 := fm_tq F Fs7 rfl rfl
    have ws7_28 : iI s7 28 = iI s 28 := fm_iq Fs7 rfl
    have b9 := bi_31 Is7
    have b10 := bi_29 Is7
    have b11 := bi_30 Is7
    show WS k 13 [(0, .ref (A 46)), (1, .int (Int32.ofInt x)), (2, .int (Int32.ofInt y)), (3, .int (Int32.ofInt z))] [] (Wd A dT s7) 0 0
    exact w_vret X.1 q hRt (ax_d X (show cdA 57 13 = some (.return_, 1, 0, 0, 0) from rfl)) (Nat.zero_le _) (Nat.zero_le _) ⟨_, rfl, Is7, Gs7, rfl, (plq_0 (by first | (clear p4; omega) | omega) hps7 (sam_fm Fs7 (by decide)) (sam_fm Fs7 (by decide)))⟩
set_option maxRecDepth 4000 in
theorem c5_place8S (G : GX l s0 D tys a0 dT) {B : BsO} {r : Nat} (hR : ∀ {s : PS} {x y z : Int} {B : BsO}, Bd s → (0 ≤ x ∧ x ≤ iI s 28) → (iI s 28 - x ≤ ((r : Nat) : Int)) → (0 ≤ y ∧ y ≤ z) → (1 ≤ z ∧ z ≤ 3) → (x = 0 ∨ 1 ≤ y) → (1 ≤ iI s 28) → (PLP B x s) → CT l s0 D A dT 57 (rkR (12 + (r))) [.ref (A 46), .int (Int32.ofInt x), .int (Int32.ofInt y), .int (Int32.ofInt z)] s (fun o t => Bd t ∧ Fm [31, 29, 30] [45, 43, 44] s t ∧ o = .inl none ∧ (PLQ B x y z s t))) (I : Bd s) {x y z : Int} (p0 : 0 ≤ x ∧ x ≤ iI s 28) (p1 : iI s 28 - x ≤ ((r + 1 : Nat) : Int)) (p2 : 0 ≤ y ∧ y ≤ z) (p3 : 1 ≤ z ∧ z ≤ 3) (p4 : x = 0 ∨ 1 ≤ y) (p5 : 1 ≤ iI s 28) (p6 : PLP B x s) : CT l s0 D A dT 57 (rkR (12 + (r + 1))) [.ref (A 46), .int (Int32.ofInt x), .int (Int32.ofInt y), .int (Int32.ofInt z)] s (fun o t => Bd t ∧ Fm [31, 29, 30] [45, 43, 44] s t ∧ o = .inl none ∧ (PLQ B x y z s t)) := by
  refine ct_ofX G (by decide) (Nat.le_of_ble_eq_true rfl) (fun k X E ET hRt hXt q => ?_)
  show WS k 0 [(0, .ref (A 46)), (1, .int (Int32.ofInt x)), (2, .int (Int32.ofInt y)), (3, .int (Int32.ofInt z))] [] _ 0 0
  have F : Fm [31, 29, 30] [45, 43, 44] s s := fm_rf _ _ s
  have b1 := bi_28 I
  have b2 := bi_31 I
  have b3 := bi_29 I
  have b4 := bi_30 I
  have L17 : ∀ (n : Nat) (t : PS) (xv yv zv hh : Int), Bd t → Fm [31, 29, 30] [45, 43, 44] s t → (PLL B x y z s hh t) → ((xv = x ∧ yv = y ∧ zv = z) ∧ (0 ≤ x ∧ x < iI s 28) ∧ (0 ≤ y ∧ y ≤ z) ∧ (1 ≤ z ∧ z ≤ 3) ∧ (0 ≤ hh ∧ hh ≤ y + 1 ∧ hh ≤ z) ∧ iI t 28 = iI s 28) → (3 - hh : Int).toNat < n → (∀ (t' : PS) (hh' : Int), Bd t' → Fm [31, 29, 30] [45, 43, 44] s t' → (PLL B x y z s hh' t') → ((0 ≤ x ∧ x < iI s 28) ∧ ((y < z ∧ hh' = y + 1) ∨ (z ≤ y ∧ hh' = z))) → WS k 92 [(0, .ref (A 46)), (1, .int (Int32.ofInt xv)), (2, .int (Int32.ofInt yv)), (3, .int (Int32.ofInt zv)), (4, .int (Int32.ofInt hh'))] [] (Wd A dT t') 0 0) → WS k 17 [(0, .ref (A 46)), (1, .int (Int32.ofInt xv)), (2, .int (Int32.ofInt yv)), (3, .int (Int32.ofInt zv)), (4, .int (Int32.ofInt hh))] [] (Wd A dT t) 0 0 := by
    intro n
    induction n with
    | zero =>
      intro t xv yv zv hh I F hq hi hm kx
      exact absurd hm (Nat.not_lt_zero _)
    | succ n ih =>
      intro t xv yv zv hh I F hq hi hm kx
      have b1001 := bi_28 I
      have b1002 := bi_31 I
      have b1003 := bi_29 I
      have b1004 := bi_30 I
      refine z_load X (x := hh) rfl (List.Mem.tail _ (List.Mem.tail _ (List.Mem.tail _ (List.Mem.tail _ (List.Mem.head _))))) (z_load_n X (x := yv) rfl (List.Mem.tail _ (List.Mem.tail _ (List.Mem.head _))) (z_icmp_gt X (t := 92) rfl rfl ⟨by first | exact oq_fa4e5087 hi.2.2.2.2.1.1 | omega, by first | exact oq_f647a1c7 hi.2.2.2.2.1.2.2 hi.2.2.2.1.2 | omega⟩ ⟨by first | exact oq_b3df2c6f hi.1.2.1 hi.2.2.1.1 | omega, by first | exact oq_558b26b0 hi.1.2.1 hi.2.2.1.2 hi.2.2.2.1.2 | omega⟩ (fun g1005 => ?_) (fun g1005 => ?_)))
      ·
        refine WS_pq [0, 1, 2, 3, 4] (lv' := [(0, .ref (A 46)), (1, .int (Int32.ofInt xv)), (2, .int (Int32.ofInt yv)), (3, .int (Int32.ofInt zv)), (4, .int (Int32.ofInt hh))]) rfl ?_
        exact kx _ hh I F hq (by first | exact ⟨And.intro (hi.2.1.1) (hi.2.1.2), Or.inl (And.intro (oq_5219dbca hi.1.2.1 g1005 hi.2.2.2.2.1.2.2) (oq_72bab12e hi.2.2.2.2.1.2.1 g1005 hi.1.2.1))⟩ | omega)
      ·
        refine z_load X (x := hh) rfl (List.Mem.tail _ (List.Mem.tail _ (List.Mem.tail _ (List.Mem.tail _ (List.Mem.head _))))) (z_load_n X (x := zv) rfl (List.Mem.tail _ (List.Mem.tail _ (List.Mem.tail _ (List.Mem.head _)))) (z_icmp_ge X (t := 92) rfl rfl ⟨by first | exact oq_fa4e5087 hi.2.2.2.2.1.1 | omega, by first | exact oq_f647a1c7 hi.2.2.2.2.1.2.2 hi.2.2.2.1.2 | omega⟩ ⟨by first | exact oq_4dc996b7 hi.1.2.2 hi.2.2.2.1.1 | omega, by first | exact oq_fc67fc75 hi.1.2.2 hi.2.2.2.1.2 | omega⟩ (fun g1006 => ?_) (fun g1006 => ?_)))
        ·
          refine WS_pq [0, 1, 2, 3, 4] (lv' := [(0, .ref (A 46)), (1, .int (Int32.ofInt xv)), (2, .int (Int32.ofInt yv)), (3, .int (Int32.ofInt zv)), (4, .int (Int32.ofInt hh))]) rfl ?_
          exact kx _ hh I F hq (by first | exact ⟨And.intro (hi.2.1.1) (hi.2.1.2), Or.inr (And.intro (oq_5dfda8db hi.1.2.2 g1006 g1005 hi.1.2.1) (oq_537ca82a hi.2.2.2.2.1.2.2 g1006 hi.1.2.2))⟩ | omega)
        ·
          have hxv : xv = x := by first | (clear p4; omega) | omega
          have hzv : zv = z := by first | (clear p4; omega) | omega
          have hmb := msi_b (hfC s) hh (x : Int).toNat
          have hp8 := pwi_8 ((x : Int).toNat + 1) (by first | (clear p4; omega) | omega)
          have hp9 : pwI ((x : Int).toNat + 1) = 2 * pwI (x : Int).toNat := rfl
          refine z_aload_n X (x := A 46) rfl (List.Mem.head _) (s_getR X 46 rfl (c518_ok rfl) rfl rfl (z_load_n X (x := xv) rfl (List.Mem.tail _ (List.Mem.head _)) (z_load X (x := hh) rfl (List.Mem.tail _ (List.Mem.tail _ (List.Mem.tail _ (List.Mem.tail _ (List.Mem.head _))))) (z_ast X 51 rfl (c518_ok rfl) rfl (by first | exact oq_e4757433 hxv hi.2.1.1 | omega) (show xv < 8 by first | exact oq_d65fd0d5 hxv hi.2.1.2 b1.2 | omega) (cbig_ok rfl) (wd_gen (fun s1007 hs1007 => ?_))))))
          have Is1007 : Bd s1007 := eqB hs1007 (bd_C I (show ((-2147483648) : Int) ≤ hh ∧ hh ≤ 2147483647 by first | exact ⟨oq_fa4e5087 hi.2.2.2.2.1.1, oq_f647a1c7 hi.2.2.2.2.1.2.2 hi.2.2.2.1.2⟩ | omega) ⟨by first | exact oq_fa4e5087 hi.2.2.2.2.1.1 | omega, by first | exact oq_f647a1c7 hi.2.2.2.2.1.2.2 hi.2.2.2.1.2 | omega⟩)
          have Fs1007 := eqF hs1007 (fm_C F (inl_ok (a := 43) rfl))
          have ws1007_28 : iI s1007 28 = iI t 28 := eqI hs1007 rfl
          have ws1007_31 : iI s1007 31 = iI t 31 := eqI hs1007 rfl
          have ws1007_29 : iI s1007 29 = iI t 29 := eqI hs1007 rfl
          have ws1007_30 : iI s1007 30 = iI t 30 := eqI hs1007 rfl
          have aws1007_43 : UPD 43 (xv) hh t s1007 := by rw [hs1007]; exact upd_put (sam_rf (a := 43) (s := t)) ⟨by first | exact oq_fa4e5087 hi.2.2.2.2.1.1 | omega, by first | exact oq_f647a1c7 hi.2.2.2.2.1.2.2 hi.2.2.2.1.2 | omega⟩
          have aws1007_44 : SAM 44 t s1007 := by rw [hs1007]; exact sam_C (by decide) (sam_rf (a := 44) (s := t))
          have aws1007_45 : SAM 45 t s1007 := by rw [hs1007]; exact sam_C (by decide) (sam_rf (a := 45) (s := t))
          refine z_aload_n X (x := A 46) rfl (List.Mem.head _) (s_getR X 46 rfl (c518_ok rfl) rfl rfl (z_load X (x := hh) rfl (List.Mem.tail _ (List.Mem.tail _ (List.Mem.tail _ (List.Mem.tail _ (List.Mem.head _))))) (w_dup2_11 X.1 (ax_d X (show cdA 57 43 = some (.dup2, 1, 0, 0, 0) from rfl)) rfl rfl (z_ald X 52 rfl (c518_ok rfl) rfl (by first | exact hi.2.2.2.2.1.1 | omega) (show hh < 3 by first | exact oq_c1d53187 g1006 hzv hi.2.2.2.1.2 | omega) (cbig_ok rfl) ?_))))
          have b1008 := bc_44 Is1007 (show (hh).toNat < 3 by first | exact oq_6679beeb g1006 hzv hi.2.2.2.1.2 | omega)
          have ar1009 : iC s1007 44 (hh).toNat = iC t 44 (hh).toNat := aws1007_44 _
          have hm : (iC s1007 44 (hh).toNat) = msI (hfC s) hh (x : Int).toNat := (aws1007_44 _).trans (pll_m hq p6 (by first | (clear p4; omega) | omega))
          refine z_const X rfl (z_load_n X (x := xv) rfl (List.Mem.tail _ (List.Mem.head _)) (z_bshl X rfl (z_anyV (fun y1010 hy1010 ey1010 => ?_))))
          refine w_ior X.1 (ax_d X (show cdA 57 48 = some (.ior, 1, 0, 0, 0) from rfl)) (z_anyV (fun y1011 hy1011 ey1011 => ?_))
          have hw : y1011 = msI (hfC s) hh (x : Int).toNat + pwI (x : Int).toNat := ms_put (k := x) (by first | (clear p4; omega) | omega) hmb (by rw [← hxv]; exact ey1010) (by rw [← hm]; exact ey1011) hy1011
          refine z_ast X 52 rfl (c518_ok rfl) rfl (by first | exact hi.2.2.2.2.1.1 | omega) (show hh < 3 by first | exact oq_c1d53187 g1006 hzv hi.2.2.2.1.2 | omega) (cbig_ok rfl) (wd_gen (fun s1012 hs1012 => ?_))
          have Is1012 : Bd s1012 := eqB hs1012 (bd_C Is1007 (show (0 : Int) ≤ y1011 ∧ y1011 ≤ 255 by first | (clear p4; omega) | omega) hy1011)
          have Fs1012 := eqF hs1012 (fm_C Fs1007 (inl_ok (a := 44) rfl))
          have ws1012_28 : iI s1012 28 = iI s1007 28 := eqI hs1012 rfl
          have ws1012_31 : iI s1012 31 = iI s1007 31 := eqI hs1012 rfl
          have ws1012_29 : iI s1012 29 = iI s1007 29 := eqI hs1012 rfl
          have ws1012_30 : iI s1012 30 = iI s1007 30 := eqI hs1012 rfl
          have aws1012_43 : UPD 43 (xv) hh t s1012 := by rw [hs1012]; exact upd_C (by decide) aws1007_43
          have aws1012_44 : UPD 44 (hh) y1011 t s1012 := by rw [hs1012]; exact upd_put aws1007_44 hy1011
          have aws1012_45 : SAM 45 t s1012 := by rw [hs1012]; exact sam_C (by decide) aws1007_45
          have hPL : PLP (flB (plF s x y z) (hh : Int).toNat B) (xv + 1) s1012 := by rw [hxv]; exact pll_in hq p6 (by first | (clear p4; omega) | omega) (by first | (clear p4; omega) | omega) (upd_ix aws1012_43 hxv) aws1012_44 rfl hw (by first | (clear p4; omega) | omega) (by first | (clear p4; omega) | omega) (by first | (clear p4; omega) | omega) (by first | (clear p4; omega) | omega) aws1012_45
          refine z_aload_n X (x := A 46) rfl (List.Mem.head _) (z_load_n X (x := xv) rfl (List.Mem.tail _ (List.Mem.head _)) (z_const X rfl (z_add X rfl (z_load X (x := hh) rfl (List.Mem.tail _ (List.Mem.tail _ (List.Mem.tail _ (List.Mem.tail _ (List.Mem.head _))))) (z_load_n X (x := yv) rfl (List.Mem.tail _ (List.Mem.tail _ (List.Mem.head _))) ?_)))))
          have N1013 : ∀ e1014 : Int, (((hh ≠ yv) ∧ e1014 = yv) ∨ ((hh = yv) ∧ e1014 = (yv + 1))) → WS k 67 [(0, .ref (A 46)), (1, .int (Int32.ofInt xv)), (2, .int (Int32.ofInt yv)), (3, .int (Int32.ofInt zv)), (4, .int (Int32.ofInt hh))] [.int (Int32.ofInt e1014), .int (Int32.ofInt (xv + 1)), .ref (A 46)] (Wd A dT s1012) 0 0 := by
            intro e1014 he1014
            refine z_load_n X (x := zv) rfl (List.Mem.tail _ (List.Mem.tail _ (List.Mem.tail _ (List.Mem.head _)))) (z_callV X 46 (rm := (rkR (12 + (r)))) (As := [.int (Int32.ofInt (xv + 1)), .int (Int32.ofInt e1014), .int (Int32.ofInt zv)]) (st := []) rfl rfl (by decide) rfl (by rw [E.1, E.2.1, E.2.2.1]; exact hR Is1012 (by first | exact ⟨oq_d5e8f086 hxv hi.2.1.1, oq_0b618086 ws1012_28 hxv ws1007_28 hi.2.2.2.2.2 hi.2.1.2⟩ | omega) (by first | exact oq_039acd6a p1 ws1012_28 hxv ws1007_28 hi.2.2.2.2.2 | omega) (by first | exact ⟨oq_c61725e8 he1014 g1005 hi.2.2.2.2.1.1, oq_212885fb he1014 hzv g1006 hi.2.2.1.2 hi.1.2.1⟩ | omega) (by first | exact ⟨oq_fed65c02 hzv hi.2.2.2.1.1, oq_6b149751 hzv hi.2.2.2.1.2⟩ | omega) (by first | exact oq_7119a11e he1014 g1005 hi.2.2.2.2.1.1 | omega) (by first | exact oq_2c9dd992 ws1012_28 ws1007_28 hi.2.2.2.2.2 p5 | omega) (hPL)) ⟨by rw [E.2.2.2]; exact (show (12 + (12 + (r))) + 1 ≤ (12 + (12 + (r + 1))) from oq_23161452 r), by rw [E.2.2.2]; exact (show 8 + (5 + 11) + (500 + 45 * (12 + (r))) ≤ (500 + 45 * (12 + (r + 1))) from oq_5db9f55c r), by rw [E.2.2.2]; exact Nat.le_refl 0, by rw [E.2.2.2]; exact Nat.le_refl 0⟩ (Nat.le_of_ble_eq_true rfl) (fun vv s1015 hq => ?_) (fun ee s1015 hq => ?_))
            rotate_left
            · obtain ⟨Is1015, Fs1015, hv, hps1015⟩ := hq; cases hv
            obtain ⟨Is1015, Fs1015, hv, hps1015⟩ := hq
            cases hv
            have Gs1015 := fm_tq Fs1012 Fs1015 rfl rfl
            have ws1015_28 : iI s1015 28 = iI s1012 28 := fm_iq Fs1015 rfl
            have b1017 := bi_31 Is1015
            have b1018 := bi_29 Is1015
            have b1019 := bi_30 Is1015
            show WS k 71 [(0, .ref (A 46)), (1, .int (Int32.ofInt xv)), (2, .int (Int32.ofInt yv)), (3, .int (Int32.ofInt zv)), (4, .int (Int32.ofInt hh))] [] (Wd A dT s1015) 0 0
            have hk : PLQ (flB (plF s x y z) (hh : Int).toNat B) (x + 1) e1014 z s1012 s1015 := by have w := hps1015; rw [hxv, hzv] at w; exact w
            refine z_aload_n X (x := A 46) rfl (List.Mem.head _) (s_getR X 46 rfl (c518_ok rfl) rfl rfl (z_load X (x := hh) rfl (List.Mem.tail _ (List.Mem.tail _ (List.Mem.tail _ (List.Mem.tail _ (List.Mem.head _))))) (w_dup2_11 X.1 (ax_d X (show cdA 57 77 = some (.dup2, 1, 0, 0, 0) from rfl)) rfl rfl (z_ald X 52 rfl (c518_ok rfl) rfl (by first | exact hi.2.2.2.2.1.1 | omega) (show hh < 3 by first | exact oq_c1d53187 g1006 hzv hi.2.2.2.1.2 | omega) (cbig_ok rfl) ?_))))
            have b1020 := bc_44 Is1015 (show (hh).toNat < 3 by first | exact oq_6679beeb g1006 hzv hi.2.2.2.1.2 | omega)
            have ar1021 : iC s1015 44 (hh).toNat = iC s1015 44 (hh).toNat := (sam_rf (a := 44) (s := s1015)) _
            have hw3 : (iC s1015 44 (hh).toNat) = msI (hfC s) hh (x : Int).toNat + pwI (x : Int).toNat := ((hk.2.2 (hh : Int).toNat (by first | (clear he1014 p4; omega) | (clear p4; omega) | omega)).trans (aws1012_44).1).trans hw
            refine z_const X rfl (z_load_n X (x := xv) rfl (List.Mem.tail _ (List.Mem.head _)) (z_bshl X rfl (z_anyV (fun y1022 hy1022 ey1022 => ?_))))
            refine z_const X rfl (z_bxor X rfl (z_anyV (fun y1023 hy1023 ey1023 => ?_)))
            refine w_iand X.1 (ax_d X (show cdA 57 84 = some (.iand, 1, 0, 0, 0) from rfl)) (z_anyV (fun y1024 hy1024 ey1024 => ?_))
            have hz : y1024 = msI (hfC s) hh (x : Int).toNat := ms_del (k := x) (by first | (clear he1014 p4; omega) | (clear p4; omega) | omega) hmb hw3 (by rw [← hxv]; exact ey1022) ey1023 ey1024 hy1024
            refine z_ast X 52 rfl (c518_ok rfl) rfl (by first | exact hi.2.2.2.2.1.1 | omega) (show hh < 3 by first | exact oq_c1d53187 g1006 hzv hi.2.2.2.1.2 | omega) (cbig_ok rfl) (wd_gen (fun s1025 hs1025 => ?_))
            have Is1025 : Bd s1025 := eqB hs1025 (bd_C Is1015 (show (0 : Int) ≤ y1024 ∧ y1024 ≤ 255 by first | exact ⟨oq_b099abc1 hz hm b1008.1, oq_815d0b62 hz hm b1008.2⟩ | omega) hy1024)
            have Fs1025 := eqF hs1025 (fm_C Gs1015 (inl_ok (a := 44) rfl))
            have ws1025_28 : iI s1025 28 = iI s1015 28 := eqI hs1025 rfl
            have ws1025_31 : iI s1025 31 = iI s1015 31 := eqI hs1025 rfl
            have ws1025_29 : iI s1025 29 = iI s1015 29 := eqI hs1025 rfl
            have ws1025_30 : iI s1025 30 = iI s1015 30 := eqI hs1025 rfl
            have aws1025_43 : SAM 43 s1015 s1025 := by rw [hs1025]; exact sam_C (by decide) (sam_rf (a := 43) (s := s1015))
            have aws1025_44 : UPD 44 (hh) y1024 s1015 s1025 := by rw [hs1025]; exact upd_put (sam_rf (a := 44) (s := s1015)) hy1024
            have aws1025_45 : SAM 45 s1015 s1025 := by rw [hs1025]; exact sam_C (by decide) (sam_rf (a := 45) (s := s1015))
            refine z_inc X (x := hh) (lv' := [(4, .int (Int32.ofInt (hh + 1))), (0, .ref (A 46)), (1, .int (Int32.ofInt xv)), (2, .int (Int32.ofInt yv)), (3, .int (Int32.ofInt zv))]) rfl (by decide) (List.Mem.tail _ (List.Mem.tail _ (List.Mem.tail _ (List.Mem.tail _ (List.Mem.head _))))) (fun _ h => h) (z_goto X (t := 17) rfl rfl (WS_pq [1, 2, 3, 4, 0] (lv' := [(0, .ref (A 46)), (1, .int (Int32.ofInt xv)), (2, .int (Int32.ofInt yv)), (3, .int (Int32.ofInt zv)), (4, .int (Int32.ofInt (hh + 1)))]) rfl ?_))
            exact ih _ xv yv zv (hh + 1) Is1025 Fs1025 (pll_up hq (by first | (clear he1014 p4; omega) | (clear p4; omega) | omega) (by first | (clear he1014 p4; omega) | (clear p4; omega) | omega) (upd_ix aws1012_43 hxv) aws1012_44 (by first | (clear he1014 p4; omega) | (clear p4; omega) | omega) (funext (fun w => fm_c Fs1012 (by decide)) : hgC s1012 = hgC s) (funext (fun w => fm_c Fs1012 (by decide)) : pkC s1012 = pkC s) (funext (fun w => fm_c Fs1012 (by decide)) : ovC s1012 = ovC s) (nuh_of (by first | (clear he1014 p4; omega) | (clear p4; omega) | omega)) hk aws1025_44 aws1025_43 (hz.trans (pll_m hq p6 (by first | (clear he1014 p4; omega) | (clear p4; omega) | omega)).symm) (by first | (clear he1014 p4; omega) | (clear p4; omega) | omega) (by first | (clear he1014 p4; omega) | (clear p4; omega) | omega) (by first | (clear he1014 p4; omega) | (clear p4; omega) | omega) aws1025_45) (by first | exact ⟨And.intro (hxv) (And.intro (hi.1.2.1) (hzv)), And.intro (hi.2.1.1) (hi.2.1.2), And.intro (hi.2.2.1.1) (hi.2.2.1.2), And.intro (hi.2.2.2.1.1) (hi.2.2.2.1.2), And.intro (oq_54f49eb5 hi.2.2.2.2.1.1) (And.intro (oq_cb2f634e hi.1.2.1 g1005) (oq_8a89b3ae g1006 hzv)), oq_469c7eaf ws1025_28 ws1015_28 ws1012_28 ws1007_28 hi.2.2.2.2.2⟩ | omega) (by first | exact qk_me hm (by decide) (oq_273e7409 g1006 hzv hi.2.2.2.1.2) | omega) kx
          refine z_icmp_ne X (t := 66) rfl rfl ⟨by first | exact oq_fa4e5087 hi.2.2.2.2.1.1 | omega, by first | exact oq_f647a1c7 hi.2.2.2.2.1.2.2 hi.2.2.2.1.2 | omega⟩ ⟨by first | exact oq_e001bc0d g1005 hi.2.2.2.2.1.1 | omega, by first | exact oq_558b26b0 hi.1.2.1 hi.2.2.1.2 hi.2.2.2.1.2 | omega⟩ (fun g1026 => ?_) (fun g1026 => ?_)
          ·
            exact z_load_n X (x := yv) rfl (List.Mem.tail _ (List.Mem.tail _ (List.Mem.head _))) (N1013 _ (Or.inl ⟨g1026, rfl⟩))
          ·
            exact z_load_n X (x := yv) rfl (List.Mem.tail _ (List.Mem.tail _ (List.Mem.head _))) (z_const X rfl (z_add X rfl (z_goto X (t := 67) rfl rfl (N1013 _ (Or.inr (⟨g1026, rfl⟩))))))
  refine z_load_n X (x := x) rfl (List.Mem.tail _ (List.Mem.head _)) (z_aload_n X (x := A 46) rfl (List.Mem.head _) (z_getI X 46 rfl (c518_ok rfl) rfl rfl ?_))
  have b5 := bi_28 I
  refine z_icmp_lt X (t := 14) rfl rfl ⟨by first | exact oq_fa4e5087 p0.1 | omega, by first | exact oq_b5dbaaed p0.2 b5.2 | omega⟩ (rng_to _) (fun g6 => ?_) (fun g6 => ?_)
  ·
    refine z_const X rfl (z_store X (lv' := [(4, .int (Int32.ofInt 0)), (0, .ref (A 46)), (1, .int (Int32.ofInt x)), (2, .int (Int32.ofInt y)), (3, .int (Int32.ofInt z))]) rfl (by decide) (fun _ h => h) (WS_pq [1, 2, 3, 4, 0] (lv' := [(0, .ref (A 46)), (1, .int (Int32.ofInt x)), (2, .int (Int32.ofInt y)), (3, .int (Int32.ofInt z)), (4, .int (Int32.ofInt 0))]) rfl (L17 ((3 - 0 : Int).toNat + 1) s x y z 0 I F (pll_0 p6) (by first | exact ⟨And.intro (by decide) (And.intro (by decide) (by decide)), And.intro (p0.1) (g6), And.intro (p2.1) (p2.2), And.intro (p3.1) (p3.2), And.intro (by decide) (And.intro (oq_54f49eb5 p2.1) (oq_2a6e3b50 p3.1)), by decide⟩ | omega) (Nat.lt_succ_self _) ?_)))
    intro s7 x8 Is7 Fs7 Qs7 hs7
    have b9 := bi_28 Is7
    have b10 := bi_31 Is7
    have b11 := bi_29 Is7
    have b12 := bi_30 Is7
    exact w_vret X.1 q hRt (ax_d X (show cdA 57 92 = some (.return_, 1, 0, 0, 0) from rfl)) (Nat.zero_le _) (Nat.zero_le _) ⟨_, rfl, Is7, Fs7, rfl, (pll_e Qs7 (by first | (clear p4; omega) | omega) (by first | (clear p4; omega) | omega))⟩
  ·
    refine z_aload_n X (x := A 46) rfl (List.Mem.head _) (z_load_n X (x := y) rfl (List.Mem.tail _ (List.Mem.tail _ (List.Mem.head _))) (z_callV X 46 (rm := rmN 58) (As := [.int (Int32.ofInt y)]) (st := []) rfl rfl (by decide) rfl (by rw [E.1, E.2.1, E.2.2.1]; exact c5_comp8 G I (by first | exact ⟨oq_27ead5b3 g6 p5 p4, oq_300cfc0a p2.2 p3.2⟩ | omega) (by rw [← (show x = iI s 28 by first | (clear p4; omega) | omega)]; exact p6)) ⟨by rw [E.2.2.2]; exact (show 7 + 1 ≤ (12 + (12 + (r + 1))) from oq_ae749fef r), by rw [E.2.2.2]; exact (show 8 + (6 + 11) + 121 ≤ (500 + 45 * (12 + (r + 1))) from oq_7e2d2a8e r), by rw [E.2.2.2]; exact Nat.le_refl 0, by rw [E.2.2.2]; exact Nat.le_refl 0⟩ (Nat.le_of_ble_eq_true rfl) (fun vv s13 hq => ?_) (fun ee s13 hq => ?_)))
    rotate_left
    · obtain ⟨Is13, Fs13, hv, hps13⟩ := hq; cases hv
    obtain ⟨Is13, Fs13, hv, hps13⟩ := hq
    cases hv
    have Gs13 := fm_tq F Fs13 rfl rfl
    have ws13_28 : iI s13 28 = iI s 28 := fm_iq Fs13 rfl
    have b15 := bi_31 Is13
    have b16 := bi_29 Is13
    have b17 := bi_30 Is13
    show WS k 13 [(0, .ref (A 46)), (1, .int (Int32.ofInt x)), (2, .int (Int32.ofInt y)), (3, .int (Int32.ofInt z))] [] (Wd A dT s13) 0 0
    exact w_vret X.1 q hRt (ax_d X (show cdA 57 13 = some (.return_, 1, 0, 0, 0) from rfl)) (Nat.zero_le _) (Nat.zero_le _) ⟨_, rfl, Is13, Gs13, rfl, (plq_0 (by first | (clear p4; omega) | omega) hps13 (sam_fm Fs13 (by decide)) (sam_fm Fs13 (by decide)))⟩
theorem c5_place8 (G : GX l s0 D tys a0 dT) (r : Nat) : ∀ {s : PS} {x y z : Int} {B : BsO}, Bd s → (0 ≤ x ∧ x ≤ iI s 28) → (iI s 28 - x ≤ ((r : Nat) : Int)) → (0 ≤ y ∧ y ≤ z) → (1 ≤ z ∧ z ≤ 3) → (x = 0 ∨ 1 ≤ y) → (1 ≤ iI s 28) → (PLP B x s) → CT l s0 D A dT 57 (rkR (12 + (r))) [.ref (A 46), .int (Int32.ofInt x), .int (Int32.ofInt y), .int (Int32.ofInt z)] s (fun o t => Bd t ∧ Fm [31, 29, 30] [45, 43, 44] s t ∧ o = .inl none ∧ (PLQ B x y z s t)) := by
  induction r with
  | zero => exact fun {_ _ _ _ _} I p0 p1 p2 p3 p4 p5 p6 => c5_place80 G I p0 p1 p2 p3 p4 p5 p6
  | succ r ih => exact fun {_ _ _ _ _} I p0 p1 p2 p3 p4 p5 p6 => c5_place8S G ih I p0 p1 p2 p3 p4 p5 p6
set_option maxRecDepth 4000 in
theorem j_fill8 (G : GX l s0 D tys a0 dT) (I : Bd s) {x : Int} (p0 : 0 ≤ x ∧ x ≤ 255) : CT l s0 D A dT 312 (rmN 312) [.ref (A 52), .int (Int32.ofInt x)] s (fun o t => Bd t ∧ Fm [] [44] s t ∧ o = .inl none ∧ (∀ q : Nat, q < 3 → iC t 44 q = x)) := by
  refine ct_ofX G (by decide) (Nat.le_of_ble_eq_true rfl) (fun k X E ET hRt hXt q => ?_)
  show WS k 0 [(0, .ref (A 52)), (1, .int (Int32.ofInt x))] [] _ 0 0
  have F : Fm [] [44] s s := fm_rf _ _ s
  have L5 : ∀ (n : Nat) (t : PS) (xv c ln : Int), Bd t → Fm [] [44] s t → (∀ q : Nat, (q : Int) < c → iC t 44 q = x) → ((xv = x ∧ 0 ≤ x ∧ x ≤ 255) ∧ ln = 3 ∧ 0 ≤ c ∧ c ≤ 3) → (3 - c : Int).toNat < n → (∀ (t' : PS) (c' : Int), Bd t' → Fm [] [44] s t' → (∀ q : Nat, (q : Int) < c' → iC t' 44 q = x) → (xv = x ∧ c' = 3) → WS k 20 [(0, .ref (A 52)), (1, .int (Int32.ofInt xv)), (2, .int (Int32.ofInt c')), (3, .int (Int32.ofInt ln))] [] (Wd A dT t') 0 0) → WS k 5 [(0, .ref (A 52)), (1, .int (Int32.ofInt xv)), (2, .int (Int32.ofInt c)), (3, .int (Int32.ofInt ln))] [] (Wd A dT t) 0 0 := by
    intro n
    induction n with
    | zero =>
      intro t xv c ln I F hq hi hm kx
      exact absurd hm (Nat.not_lt_zero _)
    | succ n ih =>
      intro t xv c ln I F hq hi hm kx
      refine z_load_n X (x := c) rfl (List.Mem.tail _ (List.Mem.tail _ (List.Mem.head _))) (z_load_n X (x := ln) rfl (List.Mem.tail _ (List.Mem.tail _ (List.Mem.tail _ (List.Mem.head _)))) (z_icmp_ge X (t := 20) rfl rfl ⟨by first | exact oq_fa4e5087 hi.2.2.1 | omega, by first | exact oq_c5520c83 hi.2.2.2 | omega⟩ ⟨by first | exact oq_5e17cb06 hi.2.1 | omega, by first | exact oq_ebfd4642 hi.2.1 | omega⟩ (fun g1001 => ?_) (fun g1001 => ?_)))
      ·
        refine WS_pq [0, 1, 2, 3] (lv' := [(0, .ref (A 52)), (1, .int (Int32.ofInt xv)), (2, .int (Int32.ofInt c)), (3, .int (Int32.ofInt ln))]) rfl ?_
        exact kx _ c I F hq (by first | exact ⟨hi.1.1, oq_59594996 hi.2.2.2 g1001 hi.2.1⟩ | omega)
      ·
        refine z_aload_n X (x := A 52) rfl (List.Mem.head _) (z_load_n X (x := c) rfl (List.Mem.tail _ (List.Mem.tail _ (List.Mem.head _))) (z_load_n X (x := xv) rfl (List.Mem.tail _ (List.Mem.head _)) (z_ast X 52 rfl (c518_ok rfl) rfl (by first | exact hi.2.2.1 | omega) (show c < 3 by first | exact oq_64d26aad g1001 hi.2.1 | omega) (cbig_ok rfl) (wd_gen (fun s1002 hs1002 => ?_)))))
        have Is1002 : Bd s1002 := eqB hs1002 (bd_C I (show (0 : Int) ≤ xv ∧ xv ≤ 255 by first | exact ⟨oq_e4757433 hi.1.1 hi.1.2.1, oq_a7bb40ba hi.1.1 hi.1.2.2⟩ | omega) ⟨by first | exact oq_b3df2c6f hi.1.1 hi.1.2.1 | omega, by first | exact oq_66632cdc hi.1.1 hi.1.2.2 | omega⟩)
        have Fs1002 := eqF hs1002 (fm_C F (inl_ok (a := 44) rfl))
        have aws1002_44 : UPD 44 (c) xv t s1002 := by rw [hs1002]; exact upd_put (sam_rf (a := 44) (s := t)) ⟨by first | exact oq_b3df2c6f hi.1.1 hi.1.2.1 | omega, by first | exact oq_66632cdc hi.1.1 hi.1.2.2 | omega⟩
        refine z_inc X (x := c) (lv' := [(2, .int (Int32.ofInt (c + 1))), (0, .ref (A 52)), (1, .int (Int32.ofInt xv)), (3, .int (Int32.ofInt ln))]) rfl (by decide) (List.Mem.tail _ (List.Mem.tail _ (List.Mem.head _))) (fun _ h => h) (z_goto X (t := 5) rfl rfl (WS_pq [1, 2, 0, 3] (lv' := [(0, .ref (A 52)), (1, .int (Int32.ofInt xv)), (2, .int (Int32.ofInt (c + 1))), (3, .int (Int32.ofInt ln))]) rfl ?_))
        exact ih _ xv (c + 1) ln Is1002 Fs1002 (fl8_up (f := fun _ => x) hq (by omega) aws1002_44 (by omega)) (by first | exact ⟨And.intro (hi.1.1) (And.intro (hi.1.2.1) (hi.1.2.2)), hi.2.1, oq_54f49eb5 hi.2.2.1, oq_0f8b1e08 g1001 hi.2.1⟩ | omega) (by first | exact qk_me hm (by decide) (oq_636d3ff9 g1001 hi.2.1) | omega) kx
  refine z_const X rfl (z_store_n X (lv' := [(2, .int (Int32.ofInt 0)), (0, .ref (A 52)), (1, .int (Int32.ofInt x))]) rfl (by decide) (fun _ h => h) (z_aload_n X (x := A 52) rfl (List.Mem.tail _ (List.Mem.head _)) (z_alen X 52 rfl (by decide) rfl rfl (z_store_n X (lv' := [(3, .int (Int32.ofInt 3)), (2, .int (Int32.ofInt 0)), (0, .ref (A 52)), (1, .int (Int32.ofInt x))]) rfl (by decide) (fun _ h => h) (WS_pq [2, 3, 1, 0] (lv' := [(0, .ref (A 52)), (1, .int (Int32.ofInt x)), (2, .int (Int32.ofInt 0)), (3, .int (Int32.ofInt 3))]) rfl (L5 ((3 - 0 : Int).toNat + 1) s x 0 3 I F (fun q hq => absurd hq (by omega)) (by first | exact ⟨And.intro (by decide) (And.intro (p0.1) (p0.2)), by decide, by decide, by decide⟩ | omega) (Nat.lt_succ_self _) ?_))))))
  intro s1 x2 Is1 Fs1 Qs1 hs1
  exact w_vret X.1 q hRt (ax_d X (show cdA 312 20 = some (.return_, 1, 0, 0, 0) from rfl)) (Nat.zero_le _) (Nat.zero_le _) ⟨_, rfl, Is1, Fs1, rfl, (fun q hq => Qs1 q (by omega))⟩
set_option maxRecDepth 4000 in
theorem c5_solve8 (G : GX l s0 D tys a0 dT) {U : AirD} (I : Bd s) (jAIR : AIR s) (jCPL : CPL s) (jCDJ : CDJ U s) (jMTJ : MTJ s) {x : Int} (p0 : 1 ≤ x ∧ x ≤ 3) : CT l s0 D A dT 55 (rmN 55) [.ref (A 46), .int (Int32.ofInt x)] s (fun o t => Bd t ∧ Fm [22, 23, 24, 31, 29, 30] [33, 26, 27, 28, 29, 30, 31, 32, 20, 40, 41, 42, 45, 43, 44] s t ∧ ∃ e, o = .inl (some (.int (Int32.ofInt e))) ∧ rng e ∧ ((e = 0 ∨ e = 1) ∧ ((iI s 28 = 0 ∧ e = 0) ∨ (1 ≤ iI s 28 ∧ e = iI t 31 ∧ SVB U (ceC s) (nnC s) x t)))) := by
  refine ct_ofX G (by decide) (Nat.le_of_ble_eq_true rfl) (fun k X E ET hRt hXt q => ?_)
  show WS k 0 [(0, .ref (A 46)), (1, .int (Int32.ofInt x))] [] _ 0 0
  have F : Fm [22, 23, 24, 31, 29, 30] [33, 26, 27, 28, 29, 30, 31, 32, 20, 40, 41, 42, 45, 43, 44] s s := fm_rf _ _ s
  have hp1 := pwi_1 (iI s 28).toNat
  have b1 := bi_28 I
  have b2 := bi_31 I
  have L16 : ∀ (n : Nat) (t : PS) (xv c : Int), Bd t → Fm [22, 23, 24, 31, 29, 30] [33, 26, 27, 28, 29, 30, 31, 32, 20, 40, 41, 42, 45, 43, 44] s t → AIR t → CPL t → CDJ U t → MTJ t → (TBQ U (ceC s) (nnC s) (hgC t) (pkC t) (ovC t) c) → ((xv = x ∧ 1 ≤ x ∧ x ≤ 3) ∧ (1 ≤ c ∧ c ≤ pwI (iI s 28).toNat) ∧ iI t 28 = iI s 28 ∧ 1 ≤ iI s 28 ∧ iI s 28 ≤ 8 ∧ iI t 31 = 0) → (256 - c : Int).toNat < n → (∀ (t' : PS) (c' : Int), Bd t' → Fm [22, 23, 24, 31, 29, 30] [33, 26, 27, 28, 29, 30, 31, 32, 20, 40, 41, 42, 45, 43, 44] s t' → AIR t' → CPL t' → CDJ U t' → MTJ t' → (TBQ U (ceC s) (nnC s) (hgC t') (pkC t') (ovC t') c') → ((xv = x ∧ 1 ≤ x ∧ x ≤ 3) ∧ c' = pwI (iI s 28).toNat ∧ iI t' 28 = iI s 28 ∧ 1 ≤ iI s 28 ∧ iI s 28 ≤ 8 ∧ iI t' 31 = 0) → WS k 37 [(0, .ref (A 46)), (1, .int (Int32.ofInt xv)), (2, .int (Int32.ofInt c'))] [] (Wd A dT t') 0 0) → WS k 16 [(0, .ref (A 46)), (1, .int (Int32.ofInt xv)), (2, .int (Int32.ofInt c))] [] (Wd A dT t) 0 0 := by
    intro n
    induction n with
    | zero =>
      intro t xv c I F jjAIR jjCPL jjCDJ jjMTJ hq hi hm kx
      exact absurd hm (Nat.not_lt_zero _)
    | succ n ih =>
      intro t xv c I F jjAIR jjCPL jjCDJ jjMTJ hq hi hm kx
      have b1001 := bi_28 I
      have b1002 := bi_31 I
      have hp8 := pwi_8 (iI s 28).toNat (by omega)
      refine z_load_n X (x := c) rfl (List.Mem.tail _ (List.Mem.tail _ (List.Mem.head _))) (z_const X rfl (z_aload_n X (x := A 46) rfl (List.Mem.head _) (z_getI X 46 rfl (c518_ok rfl) rfl rfl ?_)))
      have b1003 := bi_28 I
      refine z_bshl X rfl (z_anyV (fun y1004 hy1004 ey1004 => ?_))
      have hpw : y1004 = pwI (iI s 28).toNat := by have z := shl_pw (by omega) ey1004 hy1004; rw [show iI t 28 = iI s 28 by omega] at z; exact z
      refine z_icmp_ge X (t := 37) rfl rfl ⟨by first | exact oq_9462313e hi.2.1.1 | omega, by first | exact oq_afaf784d hi.2.1.2 hpw hy1004.2 | omega⟩ hy1004 (fun g1005 => ?_) (fun g1005 => ?_)
      ·
        refine WS_pq [0, 1, 2] (lv' := [(0, .ref (A 46)), (1, .int (Int32.ofInt xv)), (2, .int (Int32.ofInt c))]) rfl ?_
        exact kx _ c I F jjAIR jjCPL jjCDJ jjMTJ hq (by first | exact ⟨And.intro (hi.1.1) (And.intro (hi.1.2.1) (hi.1.2.2)), oq_dae09544 hi.2.1.2 hpw g1005, hi.2.2.1, hi.2.2.2.1, hi.2.2.2.2.1, hi.2.2.2.2.2⟩ | omega)
      ·
        refine z_aload_n X (x := A 46) rfl (List.Mem.head _) (z_load_n X (x := c) rfl (List.Mem.tail _ (List.Mem.tail _ (List.Mem.head _))) (zcV_v0 X E 46 (As := [.int (Int32.ofInt c)]) (st := []) rfl rfl rfl rfl (c5_hear8 G I jjAIR jjCPL jjCDJ jjMTJ (by first | exact ⟨hi.2.1.1, by omega⟩ | omega)) rfl (Nat.le_of_ble_eq_true rfl) (fun s1006 Is1006 Fs1006 hps1006 => ?_)))
        have Gs1006 := fm_tq F Fs1006 rfl rfl
        have JAIR_s1006 : AIR s1006 := AIR_fm Fs1006 (by decide) jjAIR
        have JCPL_s1006 : CPL s1006 := CPL_fm Fs1006 (by decide) jjCPL
        have JCDJ_s1006 : CDJ U s1006 := CDJ_fm Fs1006 (by decide) jjCDJ
        have JMTJ_s1006 : MTJ s1006 := MTJ_fm Fs1006 (by decide) jjMTJ
        have ws1006_28 : iI s1006 28 = iI t 28 := fm_iq Fs1006 rfl
        have ws1006_31 : iI s1006 31 = iI t 31 := fm_iq Fs1006 rfl
        have hS8 : HSB U (rgS (ceC s) (nnC s) c) c t s1006 := by have z := hps1006; rw [show ceC t = ceC s from funext (fun j => fm_c F (by decide)), show nnC t = nnC s from congrArg Int.toNat (show iI t 28 = iI s 28 by omega)] at z; exact z
        refine z_inc X (x := c) (lv' := [(2, .int (Int32.ofInt (c + 1))), (0, .ref (A 46)), (1, .int (Int32.ofInt xv))]) rfl (by decide) (List.Mem.tail _ (List.Mem.tail _ (List.Mem.head _))) (fun _ h => h) (z_goto X (t := 16) rfl rfl (WS_pq [1, 2, 0] (lv' := [(0, .ref (A 46)), (1, .int (Int32.ofInt xv)), (2, .int (Int32.ofInt (c + 1)))]) rfl ?_))
        exact ih _ xv (c + 1) Is1006 Gs1006 JAIR_s1006 JCPL_s1006 JCDJ_s1006 JMTJ_s1006 (tbc_up hq (by omega) hS8) (by first | exact ⟨And.intro (hi.1.1) (And.intro (hi.1.2.1) (hi.1.2.2)), And.intro (oq_1e1a2df6 hi.2.1.1) (oq_b1226e90 hpw g1005), oq_1aa5be9e ws1006_28 hi.2.2.1, hi.2.2.2.1, hi.2.2.2.2.1, oq_333640b7 ws1006_31 hi.2.2.2.2.2 b1002.1⟩ | omega) (by omega) kx
  refine z_aload_n X (x := A 46) rfl (List.Mem.head _) (z_const X rfl (s_putI X 46 rfl (c518_ok rfl) rfl rfl (by decide) (nar_ret (by omega)) (fit_z (by omega)) rfl (wd_gen (fun s3 hs3 => ?_))))
  have Is3 : Bd s3 := eqB hs3 (bd_I I (show (0 : Int) ≤ 0 ∧ 0 ≤ 1 by first | exact ⟨by decide, by decide⟩ | omega) (by decide))
  have Fs3 := eqF hs3 (fm_I F (inl_ok (a := 31) rfl))
  have vs3 : iI s3 31 = 0 := eqI hs3 (iI_u (by decide))
  have ws3_28 : iI s3 28 = iI s 28 := eqI hs3 rfl
  have fs3 : Fm [31] [] s s3 := by rw [hs3]; exact fm_I (fm_rf _ _ _) (show 31 ∈ _ by decide)
  have JAIR_s3 : AIR s3 := AIR_fm fs3 (by decide) jAIR
  have JCPL_s3 : CPL s3 := CPL_fm fs3 (by decide) jCPL
  have JCDJ_s3 : CDJ U s3 := CDJ_fm fs3 (by decide) jCDJ
  have JMTJ_s3 : MTJ s3 := MTJ_fm fs3 (by decide) jMTJ
  refine z_aload_n X (x := A 46) rfl (List.Mem.head _) (z_getI X 46 rfl (c518_ok rfl) rfl rfl ?_)
  have b4 := bi_28 Is3
  refine z_if_ne X (t := 14) rfl rfl (rng_to _) (fun g5 => ?_) (fun g5 => ?_)
  ·
    refine z_const X rfl (z_store_n X (lv' := [(2, .int (Int32.ofInt 1)), (0, .ref (A 46)), (1, .int (Int32.ofInt x))]) rfl (by decide) (fun _ h => h) (WS_pq [1, 2, 0] (lv' := [(0, .ref (A 46)), (1, .int (Int32.ofInt x)), (2, .int (Int32.ofInt 1))]) rfl (L16 ((256 - 1 : Int).toNat + 1) s3 x 1 Is3 Fs3 JAIR_s3 JCPL_s3 JCDJ_s3 JMTJ_s3 tbq_1 (by first | exact ⟨And.intro (by decide) (And.intro (p0.1) (p0.2)), by first | (clear g5; omega) | omega, ws3_28, oq_558210a0 g5 b4.1 ws3_28, b1.2, vs3⟩ | omega) (Nat.lt_succ_self _) ?_)))
    intro s6 x7 Is6 Fs6 JAIR_s6 JCPL_s6 JCDJ_s6 JMTJ_s6 Qs6 hs6
    have b8 := bi_28 Is6
    have b9 := bi_31 Is6
    refine z_aload_n X (x := A 46) rfl (List.Mem.head _) (s_getR X 46 rfl (c518_ok rfl) rfl rfl (z_const X rfl (zcS_v0 X E (As := [.ref (A 52), .int (Int32.ofInt 0)]) (st := []) rfl rfl (j_fill8 G Is6 (by first | exact ⟨by decide, by decide⟩ | omega)) rfl (Nat.le_of_ble_eq_true rfl) (fun s10 Is10 Fs10 hps10 => ?_))))
    have Gs10 := fm_tq Fs6 Fs10 rfl rfl
    have JAIR_s10 : AIR s10 := AIR_fm Fs10 (by decide) JAIR_s6
    have JCPL_s10 : CPL s10 := CPL_fm Fs10 (by decide) JCPL_s6
    have JCDJ_s10 : CDJ U s10 := CDJ_fm Fs10 (by decide) JCDJ_s6
    have JMTJ_s10 : MTJ s10 := MTJ_fm Fs10 (by decide) JMTJ_s6
    have ws10_28 : iI s10 28 = iI s6 28 := fm_iq Fs10 rfl
    have ws10_31 : iI s10 31 = iI s6 31 := fm_iq Fs10 rfl
    have hT : TBQ U (ceC s) (nnC s) (hgC s10) (pkC s10) (ovC s10) (pwI (nnC s)) := by have z := Qs6; rw [show x7 = pwI (nnC s) from (show x7 = pwI (iI s 28).toNat by first | (clear hps10 g5; omega) | (clear g5; omega) | omega)] at z; exact tbq_k z (fun x _ _ => ⟨fm_c Fs10 (by decide), fm_c Fs10 (by decide), fm_c Fs10 (by decide)⟩)
    refine z_aload_n X (x := A 46) rfl (List.Mem.head _) (z_const X rfl (z_const X rfl (z_load_n X (x := x) rfl (List.Mem.tail _ (List.Mem.head _)) ?_)))
    have hPL : PLP none 0 s10 := ⟨show iI s10 31 = 0 by first | (clear hps10 g5; omega) | (clear g5; omega) | omega, fun g hg => hps10 g hg⟩
    refine z_callV X 46 (rm := (rkR (12 + 8))) (As := [.int (Int32.ofInt 0), .int (Int32.ofInt 0), .int (Int32.ofInt x)]) (st := []) rfl rfl (by decide) rfl (by rw [E.1, E.2.1, E.2.2.1]; exact c5_place8 G 8 Is10 (by first | exact ⟨by decide, oq_e4757433 ws10_28 b8.1⟩ | omega) (by first | exact oq_28331ec1 ws10_28 b8.2 | omega) (by first | exact ⟨by decide, oq_2a6e3b50 hs6.1.2.1⟩ | omega) (by first | exact ⟨hs6.1.2.1, hs6.1.2.2⟩ | omega) (by first | exact Or.inl (by decide) | omega) (by first | exact oq_48a46d4a ws10_28 hs6.2.2.1 hs6.2.2.2.1 | omega) (hPL)) ⟨by rw [E.2.2.2]; exact (show 32 + 1 ≤ 33 from oq_475ba1bc), by rw [E.2.2.2]; exact (show 8 + (5 + 11) + 1400 ≤ 1424 from oq_a1d4c57c), by rw [E.2.2.2]; exact Nat.le_refl 0, by rw [E.2.2.2]; exact Nat.le_refl 0⟩ (Nat.le_of_ble_eq_true rfl) (fun vv s12 hq => ?_) (fun ee s12 hq => ?_)
    rotate_left
    · obtain ⟨Is12, Fs12, hv, hps12⟩ := hq; cases hv
    obtain ⟨Is12, Fs12, hv, hps12⟩ := hq
    cases hv
    have Gs12 := fm_tq Gs10 Fs12 rfl rfl
    have JAIR_s12 : AIR s12 := AIR_fm Fs12 (by decide) JAIR_s10
    have JCPL_s12 : CPL s12 := CPL_fm Fs12 (by decide) JCPL_s10
    have JCDJ_s12 : CDJ U s12 := CDJ_fm Fs12 (by decide) JCDJ_s10
    have JMTJ_s12 : MTJ s12 := MTJ_fm Fs12 (by decide) JMTJ_s10
    have ws12_28 : iI s12 28 = iI s10 28 := fm_iq Fs12 rfl
    have b14 := bi_31 Is12
    show WS k 52 [(0, .ref (A 46)), (1, .int (Int32.ofInt x)), (2, .int (Int32.ofInt x7))] [] (Wd A dT s12) 0 0
    refine z_aload_n X (x := A 46) rfl (List.Mem.head _) (z_getI X 46 rfl (c518_ok rfl) rfl rfl ?_)
    have b15 := bi_31 Is12
    exact w_iret X.1 q hRt (nar_ret (by first | exact oq_31e518ae b15.2 b15.1 | omega)) (ax_d X (show cdA 55 56 = some (.ireturn, 1, 0, 0, 0) from rfl)) (Nat.zero_le _) (Nat.zero_le _) ⟨_, rfl, Is12, Gs12, (iI s12 31), rfl, (rng_to _), ⟨by first | exact oq_31e518ae b15.2 b15.1 | omega, Or.inr ⟨by first | exact hs6.2.2.2.1 | omega, rfl, svb_of hT (congrArg Int.toNat (show iI s10 28 = iI s 28 by first | (clear hps10 g5; omega) | (clear g5; omega) | omega)) hps12⟩⟩⟩
  ·
    refine z_const X rfl ?_
    exact w_iret X.1 q hRt (nar_ret (by first | exact Or.inl (by decide) | omega)) (ax_d X (show cdA 55 13 = some (.ireturn, 1, 0, 0, 0) from rfl)) (Nat.zero_le _) (Nat.zero_le _) ⟨_, rfl, Is3, Fs3, 0, rfl, (by decide), ⟨Or.inl rfl, Or.inl ⟨by first | exact oq_fbab4971 ws3_28 g5 b1.1 | omega, rfl⟩⟩⟩
set_option maxRecDepth 4000 in
theorem cs_parted8 (G : GX l s0 D tys a0 dT) {U : AirD} (I : Bd s) (jAIR : AIR s) (jCPL : CPL s) (jCDJ : CDJ U s) (jMTJ : MTJ s) {u v : Int} (p0 : rng u) (p1 : rng v) : CT l s0 D A dT 158 (rmN 158) [.ref (A 0), .int (Int32.ofInt u), .int (Int32.ofInt v)] s (fun o t => Bd t ∧ Fm [22, 23, 24, 31, 29, 30] [33, 26, 27, 28, 29, 30, 31, 32, 20, 40, 41, 42, 45, 43, 44] s t ∧ ((∃ e, o = .inl (some (.int (Int32.ofInt e))) ∧ rng e ∧ ((1 ≤ u ∧ u ≤ 3) ∧ (-2 ≤ v ∧ v ≤ 7) ∧ PTE U (ceC s) (iI s 28) u v e)) ∨ ∃ x : Nat, o = .inr (exN x) ∧ (x = 0 ∧ (u < 1 ∨ 3 < u ∨ v < -2 ∨ 7 < v)))) := by
  refine ct_ofX G (by decide) (Nat.le_of_ble_eq_true rfl) (fun k X E ET hRt hXt q => ?_)
  show WS k 0 [(0, .ref (A 0)), (1, .int (Int32.ofInt u)), (2, .int (Int32.ofInt v))] [] _ 0 0
  have F : Fm [22, 23, 24, 31, 29, 30] [33, 26, 27, 28, 29, 30, 31, 32, 20, 40, 41, 42, 45, 43, 44] s s := fm_rf _ _ s
  have b1 := bi_28 I
  have b2 := bi_31 I
  refine z_aload_n X (x := A 0) rfl (List.Mem.head _) (z_load_n X (x := u) rfl (List.Mem.tail _ (List.Mem.head _)) (z_const X rfl (z_const X rfl (z_callV X 0 (rm := rmN 184) (As := [.int (Int32.ofInt u), .int (Int32.ofInt 1), .int (Int32.ofInt 3)]) (st := []) rfl rfl (by decide) rfl (by rw [E.1, E.2.1, E.2.2.1]; exact cs_needWithin2 G I (by first | exact ⟨p0.1, p0.2⟩ | omega) (by first | exact ⟨by decide, by decide⟩ | omega) (by first | exact ⟨by decide, by decide⟩ | omega)) ⟨by rw [E.2.2.2]; exact (show (rmN 184).frames + 1 ≤ (rmN 158).frames by decide), by rw [E.2.2.2]; exact (show 8 + (mNL (miB 184) + 11) + (rmN 184).locals ≤ (rmN 158).locals by decide), by rw [E.2.2.2]; exact (show 0 + 1 ≤ 2 by decide), by rw [E.2.2.2]; exact (show 0 + 6 ≤ 12 by decide)⟩ (Nat.le_of_ble_eq_true rfl) (fun vv s3 hq => ?_) (fun ee s3 hq => ?_)))))
  rotate_left
  · obtain ⟨Is3, Fs3, (⟨hv, hps3⟩ | ⟨xx, hv, hps3⟩)⟩ := hq
    · cases hv
    · cases hv
      have Gs3 := fm_tq F Fs3 rfl rfl
      have JAIR_s3 : AIR s3 := AIR_fm Fs3 (by decide) jAIR
      have JCPL_s3 : CPL s3 := CPL_fm Fs3 (by decide) jCPL
      have JCDJ_s3 : CDJ U s3 := CDJ_fm Fs3 (by decide) jCDJ
      have JMTJ_s3 : MTJ s3 := MTJ_fm Fs3 (by decide) jMTJ
      have ws3_28 : iI s3 28 = iI s 28 := fm_iq Fs3 rfl
      have ws3_31 : iI s3 31 = iI s 31 := fm_iq Fs3 rfl
      exact x_out X.1 q (fun x hx => (hXt x hx).elim) (show 1 ≤ 2 by decide) (show 6 ≤ 12 by decide) ⟨_, rfl, Is3, Gs3, Or.inr ⟨xx, rfl, by omega⟩⟩
  obtain ⟨Is3, Fs3, (⟨hv, hps3⟩ | ⟨xx, hv, hps3⟩)⟩ := hq
  rotate_left
  · cases hv
  cases hv
  have Gs3 := fm_tq F Fs3 rfl rfl
  have JAIR_s3 : AIR s3 := AIR_fm Fs3 (by decide) jAIR
  have JCPL_s3 : CPL s3 := CPL_fm Fs3 (by decide) jCPL
  have JCDJ_s3 : CDJ U s3 := CDJ_fm Fs3 (by decide) jCDJ
  have JMTJ_s3 : MTJ s3 := MTJ_fm Fs3 (by decide) jMTJ
  have ws3_28 : iI s3 28 = iI s 28 := fm_iq Fs3 rfl
  have ws3_31 : iI s3 31 = iI s 31 := fm_iq Fs3 rfl
  show WS k 7 [(0, .ref (A 0)), (1, .int (Int32.ofInt u)), (2, .int (Int32.ofInt v))] [] (Wd A dT s3) 1 6
  refine z_aload_n X (x := A 0) rfl (List.Mem.head _) (z_load_n X (x := v) rfl (List.Mem.tail _ (List.Mem.tail _ (List.Mem.head _))) (z_bipush X rfl (z_bipush X rfl (z_callV X 0 (rm := rmN 184) (As := [.int (Int32.ofInt v), .int (Int32.ofInt (-2)), .int (Int32.ofInt 7)]) (st := []) rfl rfl (by decide) rfl (by rw [E.1, E.2.1, E.2.2.1]; exact cs_needWithin2 G Is3 (by first | exact ⟨p1.1, p1.2⟩ | omega) (by first | exact ⟨by decide, by decide⟩ | omega) (by first | exact ⟨by decide, by decide⟩ | omega)) ⟨by rw [E.2.2.2]; exact (show (rmN 184).frames + 1 ≤ (rmN 158).frames by decide), by rw [E.2.2.2]; exact (show 8 + (mNL (miB 184) + 11) + (rmN 184).locals ≤ (rmN 158).locals by decide), by rw [E.2.2.2]; exact (show 1 + 1 ≤ 2 by decide), by rw [E.2.2.2]; exact (show 6 + 6 ≤ 12 by decide)⟩ (Nat.le_of_ble_eq_true rfl) (fun vv s5 hq => ?_) (fun ee s5 hq => ?_)))))
  rotate_left
  · obtain ⟨Is5, Fs5, (⟨hv, hps5⟩ | ⟨xx, hv, hps5⟩)⟩ := hq
    · cases hv
    · cases hv
      have Gs5 := fm_tq Gs3 Fs5 rfl rfl
      have JAIR_s5 : AIR s5 := AIR_fm Fs5 (by decide) JAIR_s3
      have JCPL_s5 : CPL s5 := CPL_fm Fs5 (by decide) JCPL_s3
      have JCDJ_s5 : CDJ U s5 := CDJ_fm Fs5 (by decide) JCDJ_s3
      have JMTJ_s5 : MTJ s5 := MTJ_fm Fs5 (by decide) JMTJ_s3
      have ws5_28 : iI s5 28 = iI s3 28 := fm_iq Fs5 rfl
      have ws5_31 : iI s5 31 = iI s3 31 := fm_iq Fs5 rfl
      exact x_out X.1 q (fun x hx => (hXt x hx).elim) (show (1 + 1) ≤ 2 by decide) (show (6 + 6) ≤ 12 by decide) ⟨_, rfl, Is5, Gs5, Or.inr ⟨xx, rfl, by first | (clear hps3; omega) | omega⟩⟩
  obtain ⟨Is5, Fs5, (⟨hv, hps5⟩ | ⟨xx, hv, hps5⟩)⟩ := hq
  rotate_left
  · cases hv
  cases hv
  have Gs5 := fm_tq Gs3 Fs5 rfl rfl
  have JAIR_s5 : AIR s5 := AIR_fm Fs5 (by decide) JAIR_s3
  have JCPL_s5 : CPL s5 := CPL_fm Fs5 (by decide) JCPL_s3
  have JCDJ_s5 : CDJ U s5 := CDJ_fm Fs5 (by decide) JCDJ_s3
  have JMTJ_s5 : MTJ s5 := MTJ_fm Fs5 (by decide) JMTJ_s3
  have ws5_28 : iI s5 28 = iI s3 28 := fm_iq Fs5 rfl
  have ws5_31 : iI s5 31 = iI s3 31 := fm_iq Fs5 rfl
  show WS k 16 [(0, .ref (A 0)), (1, .int (Int32.ofInt u)), (2, .int (Int32.ofInt v))] [] (Wd A dT s5) (1 + 1) (6 + 6)
  refine z_load_n X (x := v) rfl (List.Mem.tail _ (List.Mem.tail _ (List.Mem.head _))) (z_aload_n X (x := A 0) rfl (List.Mem.head _) (s_getR X 0 rfl (c518_ok rfl) rfl rfl (z_getI X 46 rfl (c518_ok rfl) rfl rfl ?_)))
  have b7 := bi_28 Is5
  refine z_icmp_ge X (t := 38) rfl rfl ⟨by first | exact p1.1 | omega, by first | exact p1.2 | omega⟩ (rng_to _) (fun g8 => ?_) (fun g8 => ?_)
  ·
    refine z_const X rfl ?_
    exact w_iret X.1 q hRt rfl (ax_d X (show cdA 158 39 = some (.ireturn, 1, 0, 0, 0) from rfl)) (show (1 + 1) ≤ 2 by decide) (show (6 + 6) ≤ 12 by decide) ⟨_, rfl, Is5, Gs5, Or.inl ⟨(-1), rfl, (by decide), ⟨by first | exact ⟨hps3.1, hps3.2⟩ | omega, by first | exact ⟨hps5.1, hps5.2⟩ | omega, Or.inl ⟨by first | (clear hps5 hps3; omega) | (clear hps3; omega) | omega, rfl⟩⟩⟩⟩
  ·
    refine z_aload_n X (x := A 0) rfl (List.Mem.head _) (s_getR X 0 rfl (c518_ok rfl) rfl rfl (z_load_n X (x := u) rfl (List.Mem.tail _ (List.Mem.head _)) (z_callV X 46 (rm := rmN 55) (As := [.int (Int32.ofInt u)]) (st := []) rfl rfl (by decide) rfl (by rw [E.1, E.2.1, E.2.2.1]; exact c5_solve8 G Is5 JAIR_s5 JCPL_s5 JCDJ_s5 JMTJ_s5 (by first | exact ⟨hps3.1, hps3.2⟩ | omega)) ⟨by rw [E.2.2.2]; exact (show (rmN 55).frames + 1 ≤ (rmN 158).frames by decide), by rw [E.2.2.2]; exact (show 8 + (mNL (miB 55) + 11) + (rmN 55).locals ≤ (rmN 158).locals by decide), by rw [E.2.2.2]; exact (show (1 + 1) + 0 ≤ 2 by decide), by rw [E.2.2.2]; exact (show (6 + 6) + 0 ≤ 12 by decide)⟩ (Nat.le_of_ble_eq_true rfl) (fun vv s9 hq => ?_) (fun ee s9 hq => ?_))))
    rotate_left
    · obtain ⟨Is9, Fs9, e10, hv, hrs9, hps9⟩ := hq; cases hv
    obtain ⟨Is9, Fs9, e10, hv, hrs9, hps9⟩ := hq
    cases hv
    have Gs9 := fm_tq Gs5 Fs9 rfl rfl
    have JAIR_s9 : AIR s9 := AIR_fm Fs9 (by decide) JAIR_s5
    have JCPL_s9 : CPL s9 := CPL_fm Fs9 (by decide) JCPL_s5
    have JCDJ_s9 : CDJ U s9 := CDJ_fm Fs9 (by decide) JCDJ_s5
    have JMTJ_s9 : MTJ s9 := MTJ_fm Fs9 (by decide) JMTJ_s5
    have ws9_28 : iI s9 28 = iI s5 28 := fm_iq Fs9 rfl
    have b11 := bi_31 Is9
    show WS k 35 [(0, .ref (A 0)), (1, .int (Int32.ofInt u)), (2, .int (Int32.ofInt v))] [.int (Int32.ofInt e10)] (Wd A dT s9) (1 + 1) (6 + 6)
    have hS : (iI s 28 = 0 ∧ e10 = 0) ∨ (1 ≤ iI s 28 ∧ e10 = iI s9 31 ∧ SVB U (ceC s) (nnC s) u s9) := by have z := hps9.2; rw [show ceC s5 = ceC s from funext (fun j => fm_c Gs5 (by decide)), show nnC s5 = nnC s from congrArg Int.toNat (show iI s5 28 = iI s 28 by first | (clear hps9 hps5 hps3; omega) | (clear hps5 hps3; omega) | omega), show iI s5 28 = iI s 28 by first | (clear hps9 hps5 hps3; omega) | (clear hps5 hps3; omega) | omega] at z; exact z
    refine z_if_ne X (t := 40) rfl rfl hrs9 (fun g12 => ?_) (fun g12 => ?_)
    ·
      have hSV := hS.elim (fun q => absurd q.2 (by first | (clear g12 hps9 hps5 hps3; omega) | (clear hps9 hps5 hps3; omega) | omega)) (fun q => q)
      refine z_load_n X (x := v) rfl (List.Mem.tail _ (List.Mem.tail _ (List.Mem.head _))) (z_const X rfl (z_icmp_ne X (t := 55) rfl rfl ⟨by first | exact p1.1 | omega, by first | exact p1.2 | omega⟩ (by decide) (fun g13 => ?_) (fun g13 => ?_)))
      ·
        refine z_load_n X (x := v) rfl (List.Mem.tail _ (List.Mem.tail _ (List.Mem.head _))) (z_bipush X rfl (z_icmp_ne X (t := 71) rfl rfl ⟨by first | exact p1.1 | omega, by first | exact p1.2 | omega⟩ (by decide) (fun g14 => ?_) (fun g14 => ?_)))
        ·
          refine z_aload_n X (x := A 0) rfl (List.Mem.head _) (s_getR X 0 rfl (c518_ok rfl) rfl rfl (s_getR X 46 rfl (c518_ok rfl) rfl rfl (z_load_n X (x := v) rfl (List.Mem.tail _ (List.Mem.tail _ (List.Mem.head _))) (z_ald X 53 rfl (c518_ok rfl) rfl (by first | exact oq_52fc8c25 g14 g13 hps5.1 | omega) (show v < 8 by first | exact oq_aaea290e hps5.2 | omega) (cbig_ok rfl) ?_))))
          have b15 := bc_45 Is9 (show (v).toNat < 8 by first | exact oq_c19a3aae hps5.2 | omega)
          exact w_iret X.1 q hRt rfl (ax_d X (show cdA 158 80 = some (.ireturn, 1, 0, 0, 0) from rfl)) (show (1 + 1) ≤ 2 by decide) (show (6 + 6) ≤ 12 by decide) ⟨_, rfl, Is9, Gs9, Or.inl ⟨(iC s9 45 (v).toNat), rfl, (rng_to _), ⟨by first | exact ⟨hps3.1, hps3.2⟩ | omega, by first | exact ⟨hps5.1, hps5.2⟩ | omega, Or.inr ⟨by first | (clear g14 g13 g12 hps9 hps5 hps3; omega) | (clear g13 g12 hps9 hps5 hps3; omega) | omega, Or.inr ⟨hSV.1, svb_1 hSV.2.2 (by first | (clear g14 g13 g12 hps9 hps5 hps3; omega) | (clear g13 g12 hps9 hps5 hps3; omega) | omega) (Or.inr (Or.inr ⟨by first | (clear g14 g13 g12 hps9 hps5 hps3; omega) | (clear g13 g12 hps9 hps5 hps3; omega) | omega, show (v : Int).toNat < (iI s 28).toNat by first | (clear g14 g13 g12 hps9 hps5 hps3; omega) | (clear g13 g12 hps9 hps5 hps3; omega) | omega, rfl⟩))⟩⟩⟩⟩⟩
        ·
          refine z_aload_n X (x := A 0) rfl (List.Mem.head _) (s_getR X 0 rfl (c518_ok rfl) rfl rfl (z_getI X 46 rfl (c518_ok rfl) rfl rfl ?_))
          have b16 := bi_30 Is9
          refine z_goto X (t := 80) rfl rfl ?_
          exact w_iret X.1 q hRt rfl (ax_d X (show cdA 158 80 = some (.ireturn, 1, 0, 0, 0) from rfl)) (show (1 + 1) ≤ 2 by decide) (show (6 + 6) ≤ 12 by decide) ⟨_, rfl, Is9, Gs9, Or.inl ⟨(iI s9 30), rfl, (rng_to _), ⟨by first | exact ⟨hps3.1, hps3.2⟩ | omega, by first | exact ⟨hps5.1, hps5.2⟩ | omega, Or.inr ⟨by first | (clear g13 g12 hps9 hps5 hps3; omega) | (clear g12 hps9 hps5 hps3; omega) | omega, Or.inr ⟨hSV.1, svb_1 hSV.2.2 (by first | (clear g13 g12 hps9 hps5 hps3; omega) | (clear g12 hps9 hps5 hps3; omega) | omega) (Or.inr (Or.inl ⟨by first | (clear g13 g12 hps9 hps5 hps3; omega) | (clear g12 hps9 hps5 hps3; omega) | omega, rfl⟩))⟩⟩⟩⟩⟩
      ·
        refine z_aload_n X (x := A 0) rfl (List.Mem.head _) (s_getR X 0 rfl (c518_ok rfl) rfl rfl (z_getI X 46 rfl (c518_ok rfl) rfl rfl ?_))
        have b17 := bi_29 Is9
        refine z_goto X (t := 80) rfl rfl ?_
        exact w_iret X.1 q hRt rfl (ax_d X (show cdA 158 80 = some (.ireturn, 1, 0, 0, 0) from rfl)) (show (1 + 1) ≤ 2 by decide) (show (6 + 6) ≤ 12 by decide) ⟨_, rfl, Is9, Gs9, Or.inl ⟨(iI s9 29), rfl, (rng_to _), ⟨by first | exact ⟨hps3.1, hps3.2⟩ | omega, by first | exact ⟨hps5.1, hps5.2⟩ | omega, Or.inr ⟨by first | (clear g12 hps9 hps5 hps3; omega) | (clear hps9 hps5 hps3; omega) | omega, Or.inr ⟨hSV.1, svb_1 hSV.2.2 (by first | (clear g12 hps9 hps5 hps3; omega) | (clear hps9 hps5 hps3; omega) | omega) (Or.inl ⟨by first | (clear g12 hps9 hps5 hps3; omega) | (clear hps9 hps5 hps3; omega) | omega, rfl⟩)⟩⟩⟩⟩⟩
    ·
      refine z_const X rfl ?_
      exact w_iret X.1 q hRt rfl (ax_d X (show cdA 158 39 = some (.ireturn, 1, 0, 0, 0) from rfl)) (show (1 + 1) ≤ 2 by decide) (show (6 + 6) ≤ 12 by decide) ⟨_, rfl, Is9, Gs9, Or.inl ⟨(-1), rfl, (by decide), ⟨by first | exact ⟨hps3.1, hps3.2⟩ | omega, by first | exact ⟨hps5.1, hps5.2⟩ | omega, Or.inr ⟨by first | (clear hps9 hps5 hps3; omega) | (clear hps5 hps3; omega) | omega, hS.elim (fun q => Or.inl ⟨q.1, rfl⟩) (fun q => Or.inr ⟨q.1, svb_0 q.2.2 (by first | (clear hps9 hps5 hps3; omega) | (clear hps5 hps3; omega) | omega)⟩)⟩⟩⟩⟩
set_option maxRecDepth 4000 in
theorem lw_parted8 (G : GX l s0 D tys a0 dT) {U : AirD} (I : Bd s) (jAIR : AIR s) (jCPL : CPL s) (jCDJ : CDJ U s) (jMTJ : MTJ s) {u v : Int} (p0 : rng u) (p1 : rng v) : CTL l s0 D A dT 333 (rmN 333) [.ref (A 0), .int (Int32.ofInt u), .int (Int32.ofInt v), .ref (A 517)] s (fun o t => Bd t ∧ Fm [22, 23, 24, 31, 29, 30] [33, 26, 27, 28, 29, 30, 31, 32, 20, 40, 41, 42, 45, 43, 44, 1460] s t ∧ ∃ e, o = .inl (some (.int (Int32.ofInt e))) ∧ rng e ∧ ((e = 0 ∧ (1 ≤ u ∧ u ≤ 3) ∧ (-2 ≤ v ∧ v ≤ 7) ∧ PTE U (ceC s) (iI s 28) u v (iO t)) ∨ (e = 1 ∧ (u < 1 ∨ 3 < u ∨ v < -2 ∨ 7 < v)))) := by
  refine ctL_of G (by decide) (Nat.le_of_ble_eq_true rfl) (by decide) rfl (fun k X E ET hRt hEx q => ?_)
  show WS k 0 [(0, .ref (A 0)), (1, .int (Int32.ofInt u)), (2, .int (Int32.ofInt v)), (3, .ref (A 517))] [] _ 0 0
  have F : Fm [22, 23, 24, 31, 29, 30] [33, 26, 27, 28, 29, 30, 31, 32, 20, 40, 41, 42, 45, 43, 44, 1460] s s := fm_rf _ _ s
  have hA := swA_rf A
  refine z_aload_n X (x := A 517) rfl (List.Mem.tail _ (List.Mem.tail _ (List.Mem.tail _ (List.Mem.head _)))) (z_const X rfl (z_aload_n X (x := A 0) rfl (List.Mem.head _) (z_load_n X (x := u) rfl (List.Mem.tail _ (List.Mem.head _)) (z_load_n X (x := v) rfl (List.Mem.tail _ (List.Mem.tail _ (List.Mem.head _))) (z_callV X 0 (rm := rmN 158) (As := [.int (Int32.ofInt u), .int (Int32.ofInt v)]) (st := [.int (Int32.ofInt 0), .ref (A 517)]) rfl rfl (by decide) rfl (by rw [E.1, E.2.1, E.2.2.1]; exact cs_parted8 G I jAIR jCPL jCDJ jMTJ (by omega) (by omega)) ⟨by rw [E.2.2.2]; exact (show (rmN 158).frames + 1 ≤ (rmN 333).frames by decide), by rw [E.2.2.2]; exact (show 8 + (mNL (miB 158) + 11) + (rmN 158).locals ≤ (rmN 333).locals by decide), by rw [E.2.2.2]; exact (show 0 + (rmN 158).cells ≤ (rmN 333).cells by decide), by rw [E.2.2.2]; exact (show 0 + (rmN 158).slots ≤ (rmN 333).slots by decide)⟩ (Nat.le_of_ble_eq_true rfl) (fun vv s1 hq => ?_) (fun ee s1 hq => ?_))))))
  rotate_left
  · obtain ⟨Is1, Fs1, (⟨e2, hv, hrs1, hps1⟩ | ⟨xx, hv, hps1⟩)⟩ := hq
    · cases hv
    · cases hv
      rcases (show xx = 0 by omega) with gx
      ·
        subst gx
        have Gs1 := fm_tq F Fs1 rfl rfl
        refine (hEx 5 0).2 13 rfl _ _ _ _ _ (fun q1 => ?_)
        show WS k 13 [(0, .ref (A 0)), (1, .int (Int32.ofInt u)), (2, .int (Int32.ofInt v)), (3, .ref (A 517))] [.ref q1] (Wd A dT s1) 2 12
        refine z_astore X (lv' := [(4, .ref q1), (0, .ref (A 0)), (1, .int (Int32.ofInt u)), (2, .int (Int32.ofInt v)), (3, .ref (A 517))]) rfl (by decide) (fun _ h => h) (z_const X rfl ?_)
        exact w_iret X.1 q hRt rfl (ax_d X (show cdA 333 16 = some (.ireturn, 1, 0, 0, 0) from rfl)) (show 2 ≤ 2 by decide) (show 12 ≤ 12 by decide) ⟨A, _, hA, rfl, Is1, Gs1, 1, rfl, (by decide), Or.inr ⟨by decide, by omega⟩⟩
  obtain ⟨Is1, Fs1, (⟨e2, hv, hrs1, hps1⟩ | ⟨xx, hv, hps1⟩)⟩ := hq
  rotate_left
  · cases hv
  cases hv
  have Gs1 := fm_tq F Fs1 rfl rfl
  show WS k 8 [(0, .ref (A 0)), (1, .int (Int32.ofInt u)), (2, .int (Int32.ofInt v)), (3, .ref (A 517))] [.int (Int32.ofInt e2), .int (Int32.ofInt 0), .ref (A 517)] (Wd A dT s1) 2 12
  refine w_i2l X.1 (ax_d X (show cdA 333 8 = some (.i2l, 1, 0, 0, 0) from rfl)) (z_last X 517 rfl (c518_ok rfl) rfl (by first | (clear hps1; omega) | omega) (show 0 < 1 by first | (clear hps1; omega) | omega) (cbig_ok rfl) (wd_gen (fun s3 hs3 => ?_)))
  have Is3 : Bd s3 := eqB hs3 (bd_D Is1)
  have Fs3 : Fm [22, 23, 24, 31, 29, 30] [33, 26, 27, 28, 29, 30, 31, 32, 20, 40, 41, 42, 45, 43, 44, 1460] s s3 := by rw [hs3]; exact fm_D Gs1 (show 460 + 1000 ∈ _ by decide)
  have oos3 : iO s3 = e2 := by rw [hs3]; exact iO_u (by first | (clear hps1; omega) | omega)
  refine z_goto X (t := 17) rfl rfl (z_const X rfl ?_)
  exact w_iret X.1 q hRt rfl (ax_d X (show cdA 333 18 = some (.ireturn, 1, 0, 0, 0) from rfl)) (show 2 ≤ 2 by decide) (show 12 ≤ 12 by decide) ⟨A, _, hA, rfl, Is3, Fs3, 0, rfl, (by decide), Or.inl ⟨by decide, by first | (clear hps1; omega) | omega, by first | (clear hps1; omega) | omega, by rw [show iO s3 = e2 by first | (clear hps1; omega) | omega]; exact hps1.2.2⟩⟩
end M87kr
