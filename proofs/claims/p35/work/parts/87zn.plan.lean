theorem oq_9ccb1a63 {a0 a1 : Int} (h0 : a0 ≤ 24) (h1 : a1 ≤ a0) (h2 : a1 = 24) : a0 = 24 := by omega
theorem oq_69e35689 {a0 a1 : Int} (h0 : a0 < a1) (h1 : a1 ≤ 6) : a0 ≤ 2147483647 := by omega
theorem oq_a0b67502 {a0 a1 : Int} (h0 : a0 = a1) (h1 : a1 ≤ 5) : a0 ≤ 2147483647 := by omega
theorem oq_d5e8f086 {a0 a1 : Int} (h0 : a0 = a1) (h1 : 0 ≤ a1) : 0 ≤ (a0 + 1) := by omega
theorem oq_2ff31030 {a0 a1 : Int} (h0 : a0 = a1) (h1 : a1 ≤ 22) : (a0 + 1) ≤ 23 := by omega
theorem oq_cc63697b {a0 a1 : Int} (h0 : a0 = a1) (h1 : 1 ≤ a1) : 0 ≤ (a0 - 1) := by omega
theorem oq_5b204a04 {a0 a1 : Int} (h0 : a0 = a1) (h1 : a1 ≤ 23) : (a0 - 1) ≤ 23 := by omega
theorem oq_08fff2cb {a0 a1 a2 a3 a4 a5 : Int} (h0 : a0 = (((((a1 + 1) * 6) + a2) * 24) + (a3 - 1))) (h1 : 0 ≤ a2) (h2 : 1 ≤ a4) (h3 : 0 ≤ a5) (h4 : a3 = a4) (h5 : a1 = a5) : 0 ≤ a0 := by omega
theorem oq_4f2a207a {a0 a1 a2 a3 a4 a5 a6 : Int} (h0 : a0 = (((((a1 + 1) * 6) + a2) * 24) + (a3 - 1))) (h1 : a2 < a4) (h2 : a4 ≤ 6) (h3 : a5 ≤ 23) (h4 : a6 ≤ 22) (h5 : a3 = a5) (h6 : a1 = a6) : a0 < 3456 := by omega
theorem oq_1fb1113d {a0 a1 a2 a3 a4 a5 a6 : Int} (h0 : a0 = (((((a1 + 1) * 6) + a2) * 24) + (a3 - 1))) (h1 : a2 < a4) (h2 : a4 ≤ 6) (h3 : a5 ≤ 23) (h4 : a6 ≤ 22) (h5 : a3 = a5) (h6 : a1 = a6) : (a0 : Int).toNat < 3456 := by omega
theorem oq_f0ca7079 {a0 a1 a2 a3 a4 : Int} (h0 : a0 = (((((a1 + 1) * 6) + a2) * 24) + a3)) (h1 : a1 ≠ 23) (h2 : a4 ≤ 6) (h3 : a3 ≤ 23) (h4 : a2 < a4) (h5 : a1 ≤ 23) : a0 < 3456 := by omega
theorem oq_477416db {a0 a1 a2 a3 a4 : Int} (h0 : a0 = (((((a1 + 1) * 6) + a2) * 24) + a3)) (h1 : a1 ≠ 23) (h2 : a4 ≤ 6) (h3 : a3 ≤ 23) (h4 : a2 < a4) (h5 : a1 ≤ 23) : (a0 : Int).toNat < 3456 := by omega
theorem oq_9c540ca8 {a0 a1 : Int} (h0 : a0 = a1) (h1 : a1 ≤ 23) : a0 ≤ 2147483647 := by omega
theorem oq_4b726db9 {a0 a1 : Int} (h0 : a0 = a1) (h1 : 1 ≤ a1) : 0 ≤ a0 := by omega
theorem oq_7bc9fe9b {a0 a1 : Int} (h0 : a0 = a1) (h1 : a1 ≤ 23) : a0 < 24 := by omega
theorem oq_d0122714 {a0 a1 : Int} (h0 : a0 = a1) (h1 : a1 ≤ 23) : (a0 : Int).toNat < 24 := by omega
theorem oq_baafdcc9 {a0 a1 : Int} (h0 : a0 = a1) (h1 : a1 ≤ 23) : a0 ≤ 23 := by omega
theorem oq_b875fd30 {a0 a1 a2 a3 a4 : Int} (h0 : a0 = ((((a1 * 6) + a2) * 24) + (a3 - 1))) (h1 : a1 = a4) (h2 : 0 ≤ a2) (h3 : 0 < a3) (h4 : 1 ≤ a4) : 0 ≤ a0 := by omega
theorem oq_87744e2b {a0 a1 a2 a3 a4 a5 a6 : Int} (h0 : a0 = ((((a1 * 6) + a2) * 24) + (a3 - 1))) (h1 : a2 < a4) (h2 : a4 ≤ 6) (h3 : a5 ≤ 23) (h4 : a6 ≤ 23) (h5 : a3 = a5) (h6 : a1 = a6) : a0 < 3456 := by omega
theorem oq_0fdd6547 {a0 a1 a2 a3 a4 a5 a6 : Int} (h0 : a0 = ((((a1 * 6) + a2) * 24) + (a3 - 1))) (h1 : a2 < a4) (h2 : a4 ≤ 6) (h3 : a5 ≤ 23) (h4 : a6 ≤ 23) (h5 : a3 = a5) (h6 : a1 = a6) : (a0 : Int).toNat < 3456 := by omega
theorem oq_6a6a145c {a0 a1 a2 a3 a4 a5 : Int} (h0 : a0 = ((((a1 * 6) + a2) * 24) + a3)) (h1 : 0 ≤ a2) (h2 : 0 ≤ a4) (h3 : 1 ≤ a5) (h4 : a3 = a4) (h5 : a1 = a5) : 0 ≤ a0 := by omega
theorem oq_8d0b79a1 {a0 a1 a2 a3 a4 a5 a6 : Int} (h0 : a0 = ((((a1 * 6) + a2) * 24) + a3)) (h1 : a2 = a4) (h2 : a4 ≤ 5) (h3 : a5 ≤ 23) (h4 : a6 ≤ 23) (h5 : a3 = a5) (h6 : a1 = a6) : a0 < 3456 := by omega
theorem oq_8ee08544 {a0 a1 a2 a3 a4 a5 a6 : Int} (h0 : a0 = ((((a1 * 6) + a2) * 24) + a3)) (h1 : a2 = a4) (h2 : a4 ≤ 5) (h3 : a5 ≤ 23) (h4 : a6 ≤ 23) (h5 : a3 = a5) (h6 : a1 = a6) : (a0 : Int).toNat < 3456 := by omega
theorem oq_f73af9fd {a0 a1 a2 a3 a4 : Int} (h0 : a0 = ((((0 * 6) + a1) * 24) + a2)) (h1 : a2 ≤ a3) (h2 : a1 < a4) (h3 : a4 ≤ 6) (h4 : a3 ≤ 23) : a0 < 3456 := by omega
theorem oq_c218a581 {a0 a1 a2 a3 a4 : Int} (h0 : a0 = ((((0 * 6) + a1) * 24) + a2)) (h1 : a2 ≤ a3) (h2 : a1 < a4) (h3 : a4 ≤ 6) (h4 : a3 ≤ 23) : (a0 : Int).toNat < 3456 := by omega
theorem oq_72bab12e {a0 a1 a2 : Int} (h0 : a0 ≤ (a1 + 1)) (h1 : a2 < a0) (h2 : a2 = a1) : a0 = (a1 + 1) := by omega
theorem oq_7ffd6eb7 {a0 a1 a2 : Int} (h0 : a0 ≤ a1) (h1 : a1 = a2) : a0 ≤ a2 := by omega
theorem oq_c61ebfdb {a0 a1 : Int} (h0 : 0 ≤ a0) (h1 : a1 ≤ 2147483647) : (-2147483648) ≤ (a0 - a1) := by omega
theorem oq_150bfa25 {a0 a1 a2 : Int} (h0 : a0 < a1) (h1 : a2 = a1) (h2 : a2 ≤ 6) : a0 ≤ 5 := by omega
theorem oq_42b4a727 {a0 a1 a2 : Int} (h0 : a0 < a1) (h1 : a0 = a2) : a2 < a1 := by omega
theorem oq_d3d13c61 {a0 a1 a2 : Int} (h0 : a0 ≤ a1) (h1 : a1 = a2) (h2 : a2 ≤ 23) : a0 ≤ 23 := by omega
theorem oq_d85b2702 {a0 a1 a2 a3 a4 a5 a6 : Int} (h0 : a0 = ((((a1 * 6) + a2) * 24) + a3)) (h1 : a3 ≤ a4) (h2 : a2 < a5) (h3 : a1 ≤ 23) (h4 : a5 ≤ 6) (h5 : a6 ≤ 23) (h6 : a4 = a6) : a0 < 3456 := by omega
theorem oq_7daf499a {a0 a1 a2 : Int} (h0 : a0 ≤ a1) (h1 : a1 = a2) (h2 : a2 ≤ 23) : 0 < (24 - a0) := by omega
/-! The best plan: what class and model work out, and that it is the same -/
noncomputable def itP (p : Prop) (a b : Int) : Int := @ite Int p (Classical.propDecidable p) a b
theorem itp_t {p : Prop} {a b : Int} (h : p) : itP p a b = a := if_pos h
theorem itp_f {p : Prop} {a b : Int} (h : ¬ p) : itP p a b = b := if_neg h
/-- how many configurations; which can be in a quarter; what they need; which quarters are busy -/
abbrev PlD : Type := Nat × (Nat → Nat → Prop) × (Nat → Int) × (Nat → Prop)
abbrev pN (Q : PlD) : Nat := Q.1
abbrev pC (Q : PlD) : Nat → Nat → Prop := Q.2.1
abbrev pD (Q : PlD) : Nat → Int := Q.2.2.1
abbrev pB (Q : PlD) : Nat → Prop := Q.2.2.2
/-- the least of a and of the others' -/
def oth (f : Nat → Int) (c : Nat) : Nat → Int → Int
  | 0, a => a
  | j + 1, a => if j = c then oth f c j a else min (oth f c j a) (f j)
theorem oth_le {f : Nat → Int} {c : Nat} {a : Int} : ∀ j : Nat, oth f c j a ≤ a ∧ ∀ i, i < j → i ≠ c → oth f c j a ≤ f i
  | 0 => ⟨Int.le_refl _, fun i hi => absurd hi (Nat.not_lt_zero _)⟩
  | j + 1 => by
    obtain ⟨h1, h2⟩ := oth_le (f := f) (c := c) (a := a) j
    by_cases e : j = c
    · have z : oth f c (j + 1) a = oth f c j a := if_pos e
      rw [z]
      exact ⟨h1, fun i hi hn => h2 i (by omega) hn⟩
    · have z : oth f c (j + 1) a = min (oth f c j a) (f j) := if_neg e
      rw [z]
      refine ⟨by omega, fun i hi hn => ?_⟩
      by_cases e2 : i = j
      · subst e2; omega
      · have := h2 i (by omega) hn; omega
theorem oth_at {f : Nat → Int} {c : Nat} {a : Int} : ∀ j : Nat, oth f c j a = a ∨ ∃ i, i < j ∧ i ≠ c ∧ oth f c j a = f i
  | 0 => Or.inl rfl
  | j + 1 => by
    by_cases e : j = c
    · have z : oth f c (j + 1) a = oth f c j a := if_pos e
      rw [z]
      rcases oth_at (f := f) (c := c) (a := a) j with h | ⟨i, i1, i2, i3⟩
      · exact Or.inl h
      · exact Or.inr ⟨i, by omega, i2, i3⟩
    · have z : oth f c (j + 1) a = min (oth f c j a) (f j) := if_neg e
      rw [z]
      by_cases l : f j ≤ oth f c j a
      · exact Or.inr ⟨j, by omega, e, by omega⟩
      · rw [show min (oth f c j a) (f j) = oth f c j a by omega]
        rcases oth_at (f := f) (c := c) (a := a) j with h | ⟨i, i1, i2, i3⟩
        · exact Or.inl h
        · exact Or.inr ⟨i, by omega, i2, i3⟩
/-- what stands behind a quarter, as the class has it -/
noncomputable def bhP (Q : PlD) (f : Nat → Nat → Int) (r c k : Nat) : Int := if k = 0 then f c k else itP (pB Q (23 - r)) (f c k) (oth (fun o => f o (k - 1)) c (pN Q) (f c k))
def tmP (d b : Int) : Int := if 1000000 ≤ b then 1000000 else d + b
noncomputable def wP (Q : PlD) : Nat → Nat → Nat → Int
  | 0, c, k => itP (pC Q c 23) (if k = 0 then pD Q c else 1000000) 1000000
  | r + 1, c, k => itP (pC Q c (22 - r)) (tmP (pD Q c) (bhP Q (wP Q r) r c k)) 1000000
/-- the way to what stands behind: stay, or change -/
def cdP (Q : PlD) (f : Nat → Nat → Int) (r c k : Nat) (v : Int) : Prop := v = f c k ∨ (1 ≤ k ∧ ¬ pB Q (23 - r) ∧ ∃ o, o < pN Q ∧ o ≠ c ∧ v = f o (k - 1))
theorem bh_at {Q : PlD} {f : Nat → Nat → Int} {r c k : Nat} : cdP Q f r c k (bhP Q f r c k) := by
  unfold bhP
  by_cases e : k = 0
  · rw [if_pos e]; exact Or.inl rfl
  · rw [if_neg e]
    by_cases b : pB Q (23 - r)
    · rw [itp_t b]; exact Or.inl rfl
    · rw [itp_f b]
      rcases oth_at (f := fun o => f o (k - 1)) (c := c) (a := f c k) (pN Q) with h | ⟨i, i1, i2, i3⟩
      · exact Or.inl h
      · exact Or.inr ⟨by omega, b, i, i1, i2, i3⟩
theorem bh_le {Q : PlD} {f : Nat → Nat → Int} {r c k : Nat} {v : Int} (h : cdP Q f r c k v) : bhP Q f r c k ≤ v := by
  unfold bhP
  rcases h with h | ⟨h1, h2, o, o1, o2, h3⟩
  · subst h
    by_cases e : k = 0
    · rw [if_pos e]; exact Int.le_refl _
    · rw [if_neg e]
      by_cases b : pB Q (23 - r)
      · rw [itp_t b]; exact Int.le_refl _
      · rw [itp_f b]; exact (oth_le _).1
  · subst h3
    rw [if_neg (by omega), itp_f h2]
    exact (oth_le (f := fun o => f o (k - 1)) (c := c) (a := f c k) (pN Q)).2 o o1 o2
def nDP (Q : PlD) : Prop := ∀ c, 0 ≤ pD Q c ∧ pD Q c ≤ 8
/-- none, or small -/
def smP (r : Nat) (v : Int) : Prop := v = 1000000 ∨ (0 ≤ v ∧ v ≤ 8 * ((r : Int) + 1))
theorem w_sm {Q : PlD} (hD : nDP Q) : ∀ r c k : Nat, r ≤ 23 → smP r (wP Q r c k)
  | 0, c, k, _ => by
    have d := hD c
    show smP 0 (itP (pC Q c 23) (if k = 0 then pD Q c else 1000000) 1000000)
    unfold smP
    by_cases h : pC Q c 23
    · rw [itp_t h]
      by_cases e : k = 0
      · rw [if_pos e]; exact Or.inr ⟨by omega, by omega⟩
      · rw [if_neg e]; exact Or.inl rfl
    · rw [itp_f h]; exact Or.inl rfl
  | r + 1, c, k, hr => by
    have d := hD c
    have ih := w_sm hD r
    have b : smP r (bhP Q (wP Q r) r c k) := by
      rcases bh_at (Q := Q) (f := wP Q r) (r := r) (c := c) (k := k) with z | ⟨_, _, o, _, _, z⟩
      · rw [z]; exact ih c k (by omega)
      · rw [z]; exact ih o _ (by omega)
    show smP (r + 1) (itP (pC Q c (22 - r)) (tmP (pD Q c) (bhP Q (wP Q r) r c k)) 1000000)
    by_cases h : pC Q c (22 - r)
    · rw [itp_t h]
      unfold tmP
      rcases b with b | b
      · rw [if_pos (by omega)]; exact Or.inl rfl
      · rw [if_neg (by omega)]; exact Or.inr ⟨by omega, by omega⟩
    · rw [itp_f h]; exact Or.inl rfl
theorem w_up {Q : PlD} {r c k : Nat} (h : wP Q (r + 1) c k < 1000000) : pC Q c (22 - r) ∧ bhP Q (wP Q r) r c k < 1000000 ∧ wP Q (r + 1) c k = pD Q c + bhP Q (wP Q r) r c k := by
  have e : wP Q (r + 1) c k = itP (pC Q c (22 - r)) (tmP (pD Q c) (bhP Q (wP Q r) r c k)) 1000000 := rfl
  rw [e] at h ⊢
  by_cases p : pC Q c (22 - r)
  · rw [itp_t p] at h ⊢
    unfold tmP at h ⊢
    by_cases z : 1000000 ≤ bhP Q (wP Q r) r c k
    · rw [if_pos z] at h; omega
    · rw [if_neg z]
      exact ⟨p, by omega, rfl⟩
  · rw [itp_f p] at h; omega
theorem w_can {Q : PlD} {r c k : Nat} (hr : r ≤ 23) (h : wP Q r c k < 1000000) : pC Q c (23 - r) := by
  cases r with
  | zero =>
    have e : wP Q 0 c k = itP (pC Q c 23) (if k = 0 then pD Q c else 1000000) 1000000 := rfl
    rw [e] at h
    by_cases p : pC Q c 23
    · exact p
    · rw [itp_f p] at h; omega
  | succ r =>
    have z := (w_up h).1
    rw [show 23 - (r + 1) = 22 - r by omega]
    exact z
/-! the model's -/
def mth (f : Nat → Int) (c : Nat) : Nat → Int → Int
  | 0, a => a
  | j + 1, a => if j = c then mth f c j a else if f j ≠ -1 ∧ (mth f c j a = -1 ∨ f j + 1 < mth f c j a) then f j + 1 else mth f c j a
def tm2 (d b : Int) : Int := if b = -1 then -1 else b + 100 * d
noncomputable def mbP (Q : PlD) (f : Nat → Nat → Int) (r c l : Nat) : Int := if l = 0 then f c l else itP (pB Q (23 - r)) (f c l) (mth (fun o => f o (l - 1)) c (pN Q) (f c l))
noncomputable def mP (Q : PlD) : Nat → Nat → Nat → Int
  | 0, c, _ => itP (pC Q c 23) (tm2 (pD Q c) 0) (-1)
  | r + 1, c, l => itP (pC Q c (22 - r)) (tm2 (pD Q c) (mbP Q (mP Q r) r c l)) (-1)
/-- b is the least of a and of f o + 1, as far as there are such (-1: none) -/
def mlQ (f : Nat → Int) (c j : Nat) (a b : Int) : Prop := (b = -1 ∧ a = -1 ∧ ∀ i, i < j → i ≠ c → f i = -1) ∨ (0 ≤ b ∧ (b = a ∨ ∃ i, i < j ∧ i ≠ c ∧ 0 ≤ f i ∧ b = f i + 1) ∧ (a = -1 ∨ b ≤ a) ∧ ∀ i, i < j → i ≠ c → f i = -1 ∨ b ≤ f i + 1)
theorem mth_q {f : Nat → Int} {c : Nat} {a : Int} (ha : -1 ≤ a) (hf : ∀ i, -1 ≤ f i) : ∀ j : Nat, mlQ f c j a (mth f c j a)
  | 0 => by
    show mlQ f c 0 a a
    by_cases e : a = -1
    · exact Or.inl ⟨e, e, fun i hi => absurd hi (Nat.not_lt_zero _)⟩
    · exact Or.inr ⟨by omega, Or.inl rfl, Or.inr (Int.le_refl _), fun i hi => absurd hi (Nat.not_lt_zero _)⟩
  | j + 1 => by
    have ih := mth_q (c := c) ha hf j
    have fj := hf j
    by_cases e : j = c
    · have z : mth f c (j + 1) a = mth f c j a := if_pos e
      rw [z]
      rcases ih with ⟨h1, h2, h3⟩ | ⟨h1, h2, h3, h4⟩
      · exact Or.inl ⟨h1, h2, fun i hi hn => h3 i (by omega) hn⟩
      · refine Or.inr ⟨h1, ?_, h3, fun i hi hn => h4 i (by omega) hn⟩
        rcases h2 with h2 | ⟨i, i1, i2⟩
        · exact Or.inl h2
        · exact Or.inr ⟨i, by omega, i2⟩
    · by_cases g : f j ≠ -1 ∧ (mth f c j a = -1 ∨ f j + 1 < mth f c j a)
      · have z : mth f c (j + 1) a = f j + 1 := (if_neg e).trans (if_pos g)
        rw [z]
        refine Or.inr ⟨by omega, Or.inr ⟨j, by omega, e, by omega, rfl⟩, ?_, fun i hi hn => ?_⟩
        · rcases ih with ⟨h1, h2, _⟩ | ⟨h1, _, h3, _⟩
          · exact Or.inl h2
          · rcases h3 with h3 | h3
            · exact Or.inl h3
            · exact Or.inr (by omega)
        · by_cases e2 : i = j
          · subst e2; exact Or.inr (Int.le_refl _)
          · rcases ih with ⟨h1, -, h3⟩ | ⟨h1, -, -, h4⟩
            · exact Or.inl (h3 i (by omega) hn)
            · rcases h4 i (by omega) hn with h | h
              · exact Or.inl h
              · exact Or.inr (by omega)
      · have z : mth f c (j + 1) a = mth f c j a := (if_neg e).trans (if_neg g)
        rw [z]
        rcases ih with ⟨h1, h2, h3⟩ | ⟨h1, h2, h3, h4⟩
        · refine Or.inl ⟨h1, h2, fun i hi hn => ?_⟩
          by_cases e2 : i = j
          · subst e2; omega
          · exact h3 i (by omega) hn
        · refine Or.inr ⟨h1, ?_, h3, fun i hi hn => ?_⟩
          · rcases h2 with h2 | ⟨i, i1, i2⟩
            · exact Or.inl h2
            · exact Or.inr ⟨i, by omega, i2⟩
          · by_cases e2 : i = j
            · clear h2; subst e2; omega
            · exact h4 i (by omega) hn
/-- the least of the model's ways on -/
def mbQ (Q : PlD) (f : Nat → Nat → Int) (r c l : Nat) (b : Int) : Prop := (b = -1 ∧ f c l = -1 ∧ (1 ≤ l → ¬ pB Q (23 - r) → ∀ o, o < pN Q → o ≠ c → f o (l - 1) = -1)) ∨ (0 ≤ b ∧ (b = f c l ∨ (1 ≤ l ∧ ¬ pB Q (23 - r) ∧ ∃ o, o < pN Q ∧ o ≠ c ∧ 0 ≤ f o (l - 1) ∧ b = f o (l - 1) + 1)) ∧ (f c l = -1 ∨ b ≤ f c l) ∧ (1 ≤ l → ¬ pB Q (23 - r) → ∀ o, o < pN Q → o ≠ c → f o (l - 1) = -1 ∨ b ≤ f o (l - 1) + 1))
theorem mbq_c {Q : PlD} {f : Nat → Nat → Int} {r c l : Nat} {b : Int} (h : mbQ Q f r c l b) : f c l = -1 ∨ (0 ≤ b ∧ b ≤ f c l) := by
  rcases h with ⟨_, h, _⟩ | ⟨h1, _, h3, _⟩
  · exact Or.inl h
  · exact h3.imp id (fun z => ⟨h1, z⟩)
theorem mbq_o {Q : PlD} {f : Nat → Nat → Int} {r c l o : Nat} {b : Int} (h : mbQ Q f r c l b) (l1 : 1 ≤ l) (nb : ¬ pB Q (23 - r)) (o1 : o < pN Q) (o2 : o ≠ c) : f o (l - 1) = -1 ∨ (0 ≤ b ∧ b ≤ f o (l - 1) + 1) := by
  rcases h with ⟨_, _, h⟩ | ⟨h1, _, _, h4⟩
  · exact Or.inl (h l1 nb o o1 o2)
  · exact (h4 l1 nb o o1 o2).imp id (fun z => ⟨h1, z⟩)
theorem mbq_at {Q : PlD} {f : Nat → Nat → Int} {r c l : Nat} {b : Int} (h : mbQ Q f r c l b) (b0 : b ≠ -1) : b = f c l ∨ (1 ≤ l ∧ ¬ pB Q (23 - r) ∧ ∃ o, o < pN Q ∧ o ≠ c ∧ 0 ≤ f o (l - 1) ∧ b = f o (l - 1) + 1) := by
  rcases h with ⟨h, _⟩ | ⟨_, h, _⟩
  · exact absurd h b0
  · exact h
theorem mbq_0 {Q : PlD} {f : Nat → Nat → Int} {r c l : Nat} {b : Int} (h : mbQ Q f r c l b) : -1 ≤ b := by
  rcases h with ⟨h, _⟩ | ⟨h, _⟩
  · rw [h]; exact Int.le_refl _
  · exact Int.le_trans (by decide) h
theorem mb_q {Q : PlD} {f : Nat → Nat → Int} {r c l : Nat} (hf : ∀ o l, -1 ≤ f o l) : mbQ Q f r c l (mbP Q f r c l) := by
  have one : ∀ (n : ¬ (1 ≤ l ∧ ¬ pB Q (23 - r))), mbQ Q f r c l (f c l) := fun n => by
    have a := hf c l
    by_cases e : f c l = -1
    · exact Or.inl ⟨e, e, fun h1 h2 => absurd ⟨h1, h2⟩ n⟩
    · exact Or.inr ⟨by omega, Or.inl rfl, Or.inr (Int.le_refl _), fun h1 h2 => absurd ⟨h1, h2⟩ n⟩
  unfold mbP
  by_cases e : l = 0
  · rw [if_pos e]
    exact one (fun h => absurd h.1 (by omega))
  · rw [if_neg e]
    by_cases b : pB Q (23 - r)
    · rw [itp_t b]
      exact one (fun h => h.2 b)
    · rw [itp_f b]
      rcases mth_q (f := fun o => f o (l - 1)) (c := c) (hf c l) (fun i => hf i (l - 1)) (pN Q) with ⟨h1, h2, h3⟩ | ⟨h1, h2, h3, h4⟩
      · exact Or.inl ⟨h1, h2, fun _ _ => h3⟩
      · refine Or.inr ⟨h1, ?_, h3, fun _ _ => h4⟩
        rcases h2 with h2 | ⟨i, i1, i2, i3, i4⟩
        · exact Or.inl h2
        · exact Or.inr ⟨by omega, b, i, i1, i2, i3, i4⟩
/-- the model's number is the least of 100 pairs and changes -/
def MWQ (w : Nat → Int) (l : Nat) (m : Int) : Prop := (m = -1 ∧ ∀ k, k ≤ l → w k = 1000000) ∨ ((∃ k, k ≤ l ∧ w k < 1000000 ∧ m = 100 * w k + (k : Int)) ∧ ∀ k, k ≤ l → w k < 1000000 → m ≤ 100 * w k + (k : Int))
theorem m_lo {Q : PlD} (hD : nDP Q) : ∀ r c l : Nat, -1 ≤ mP Q r c l
  | 0, c, l => by
    have d := hD c
    show -1 ≤ itP (pC Q c 23) (tm2 (pD Q c) 0) (-1)
    by_cases h : pC Q c 23
    · rw [itp_t h]; unfold tm2; rw [if_neg (by decide)]; omega
    · rw [itp_f h]; exact Int.le_refl _
  | r + 1, c, l => by
    have d := hD c
    show -1 ≤ itP (pC Q c (22 - r)) (tm2 (pD Q c) (mbP Q (mP Q r) r c l)) (-1)
    by_cases h : pC Q c (22 - r)
    · rw [itp_t h]; unfold tm2
      have z := mbq_0 (mb_q (Q := Q) (f := mP Q r) (r := r) (c := c) (l := l) (fun o l => m_lo hD r o l))
      by_cases e : mbP Q (mP Q r) r c l = -1
      · rw [if_pos e]; exact Int.le_refl _
      · rw [if_neg e]; omega
    · rw [itp_f h]; exact Int.le_refl _
theorem m_w {Q : PlD} (hD : nDP Q) : ∀ r c l : Nat, r ≤ 23 → l ≤ 23 → MWQ (wP Q r c) l (mP Q r c l)
  | 0, c, l, _, _ => by
    have d := hD c
    have e : ∀ k, wP Q 0 c k = itP (pC Q c 23) (if k = 0 then pD Q c else 1000000) 1000000 := fun _ => rfl
    have em : mP Q 0 c l = itP (pC Q c 23) (tm2 (pD Q c) 0) (-1) := rfl
    rw [em]
    by_cases h : pC Q c 23
    · rw [itp_t h]
      have t : tm2 (pD Q c) 0 = 100 * pD Q c := by unfold tm2; rw [if_neg (by decide)]; omega
      rw [t]
      refine Or.inr ⟨⟨0, Nat.zero_le _, ?_, ?_⟩, fun k _ hk => ?_⟩
      · rw [e, itp_t h, if_pos rfl]; omega
      · rw [e, itp_t h, if_pos rfl]; omega
      · rw [e, itp_t h] at hk ⊢
        by_cases k0 : k = 0
        · rw [if_pos k0]; omega
        · rw [if_neg k0] at hk; omega
    · rw [itp_f h]
      exact Or.inl ⟨rfl, fun k _ => by rw [e, itp_f h]⟩
  | r + 1, c, l, hr, hl => by
    have d := hD c
    have ih : ∀ o l, l ≤ 23 → MWQ (wP Q r o) l (mP Q r o l) := fun o l hl => m_w hD r o l (by omega) hl
    have lo : ∀ o l, -1 ≤ mP Q r o l := fun o l => m_lo hD r o l
    have sm : ∀ o k, smP r (wP Q r o k) := fun o k => w_sm hD r o k (by omega)
    have zb := mb_q (Q := Q) (f := mP Q r) (r := r) (c := c) (l := l) lo
    -- what stands behind, in both
    have key : MWQ (bhP Q (wP Q r) r c) l (mbP Q (mP Q r) r c l) := by
      have up : ∀ k, k ≤ l → ∀ v, cdP Q (wP Q r) r c k v → v < 1000000 → mbP Q (mP Q r) r c l ≠ -1 ∧ mbP Q (mP Q r) r c l ≤ 100 * v + (k : Int) := fun k hk v hv hlt => by
        rcases hv with hv | ⟨k1, nb, o, o1, o2, hv⟩
        · subst hv
          rcases ih c l hl with ⟨_, i2⟩ | ⟨⟨k', _, k2, k3⟩, i2⟩
          · have := i2 k hk; omega
          · have a := i2 k hk hlt
            have s := sm c k'
            unfold smP at s
            have z := mbq_c zb
            exact ⟨by omega, by omega⟩
        · subst hv
          rcases ih o (l - 1) (by omega) with ⟨_, i2⟩ | ⟨⟨k', _, k2, k3⟩, i2⟩
          · have := i2 (k - 1) (by omega); omega
          · have a := i2 (k - 1) (by omega) hlt
            have ek : (((k - 1 : Nat) : Nat) : Int) = (k : Int) - 1 := by omega
            rw [ek] at a
            have s := sm o k'
            unfold smP at s
            have z := mbq_o zb (by omega) nb o1 o2
            exact ⟨by omega, by omega⟩
      by_cases e : mbP Q (mP Q r) r c l = -1
      · refine Or.inl ⟨e, fun k hk => ?_⟩
        have a := bh_at (Q := Q) (f := wP Q r) (r := r) (c := c) (k := k)
        have s : smP r (bhP Q (wP Q r) r c k) := by
          rcases a with z | ⟨_, _, o, _, _, z⟩
          · rw [z]; exact sm c k
          · rw [z]; exact sm o _
        rcases s with s | s
        · exact s
        · exact absurd e (up k hk _ a (by omega)).1
      · refine Or.inr ⟨?_, fun k hk hlt => (up k hk _ bh_at hlt).2⟩
        have z2 := mbq_at zb e
        have fin : ∃ k v, k ≤ l ∧ cdP Q (wP Q r) r c k v ∧ v < 1000000 ∧ mbP Q (mP Q r) r c l = 100 * v + (k : Int) := by
          rcases z2 with z2 | ⟨l1, nb, o, o1, o2, o3, z2⟩
          · rcases ih c l hl with ⟨i1, _⟩ | ⟨⟨k, k1, k2, k3⟩, _⟩
            · exact absurd (z2.trans i1) e
            · exact ⟨k, _, k1, Or.inl rfl, k2, z2.trans k3⟩
          · rcases ih o (l - 1) (by omega) with ⟨i1, _⟩ | ⟨⟨k, k1, k2, k3⟩, _⟩
            · omega
            · exact ⟨k + 1, wP Q r o k, by omega, Or.inr ⟨by omega, nb, o, o1, o2, rfl⟩, k2, by rw [z2, k3]; omega⟩
        obtain ⟨k, v, k1, k2, k3, k4⟩ := fin
        have a := bh_le k2
        have b := (up k k1 _ bh_at (by omega)).2
        exact ⟨k, k1, by omega, by omega⟩
    have ew : ∀ k, wP Q (r + 1) c k = itP (pC Q c (22 - r)) (tmP (pD Q c) (bhP Q (wP Q r) r c k)) 1000000 := fun _ => rfl
    have em : mP Q (r + 1) c l = itP (pC Q c (22 - r)) (tm2 (pD Q c) (mbP Q (mP Q r) r c l)) (-1) := rfl
    rw [em]
    by_cases h : pC Q c (22 - r)
    · rw [itp_t h]
      have tw : ∀ k, wP Q (r + 1) c k = tmP (pD Q c) (bhP Q (wP Q r) r c k) := fun k => by rw [ew, itp_t h]
      have bs : ∀ k, smP r (bhP Q (wP Q r) r c k) := fun k => by
        rcases bh_at (Q := Q) (f := wP Q r) (r := r) (c := c) (k := k) with z | ⟨_, _, o, _, _, z⟩
        · rw [z]; exact sm c k
        · rw [z]; exact sm o _
      have tf : ∀ k, bhP Q (wP Q r) r c k < 1000000 → wP Q (r + 1) c k = pD Q c + bhP Q (wP Q r) r c k := fun k hk => by
        rw [tw]; unfold tmP; rw [if_neg (by omega)]
      have tn : ∀ k, ¬ bhP Q (wP Q r) r c k < 1000000 → wP Q (r + 1) c k = 1000000 := fun k hk => by
        rw [tw]; unfold tmP; rw [if_pos (by omega)]
      unfold tm2
      rcases key with ⟨q1, q2⟩ | ⟨⟨k, k1, k2, k3⟩, q2⟩
      · rw [if_pos q1]
        exact Or.inl ⟨rfl, fun k hk => tn k (by rw [q2 k hk]; omega)⟩
      · have s := bs k
        unfold smP at s
        rw [if_neg (by omega)]
        refine Or.inr ⟨⟨k, k1, ?_, ?_⟩, fun k' hk' hlt => ?_⟩
        · rw [tf k k2]; omega
        · rw [tf k k2]; omega
        · by_cases g : bhP Q (wP Q r) r c k' < 1000000
          · have := q2 k' hk' g
            rw [tf k' g]; omega
          · rw [tn k' g] at hlt; omega
    · rw [itp_f h]
      exact Or.inl ⟨rfl, fun k _ => by rw [ew, itp_f h]⟩
/-! the way on, quarter by quarter -/
/-- o may come next, with v pairs left: as the class sees it, as the model does -/
def NXC (Q : PlD) (r c k : Nat) (v : Int) (o : Nat) : Prop := (o = c ∧ wP Q r c k = v) ∨ (o ≠ c ∧ 1 ≤ k ∧ ¬ pB Q (23 - r) ∧ wP Q r o (k - 1) = v)
def NXM (Q : PlD) (r c l : Nat) (m : Int) (o : Nat) : Prop := (o = c ∧ mP Q r c l = m) ∨ (o ≠ c ∧ 1 ≤ l ∧ ¬ pB Q (23 - r) ∧ mP Q r o (l - 1) ≠ -1 ∧ mP Q r o (l - 1) + 1 = m)
theorem nx_same {Q : PlD} (hD : nDP Q) {r c k l : Nat} (hr : r ≤ 22) (hk : k ≤ l) (hl : l ≤ 23) (hw : wP Q (r + 1) c k < 1000000) (hm : mP Q (r + 1) c l = 100 * wP Q (r + 1) c k + (k : Int)) {o : Nat} (ho : o < pN Q) : NXC Q r c k (wP Q (r + 1) c k - pD Q c) o ↔ NXM Q r c l (mP Q (r + 1) c l - 100 * pD Q c) o := by
  have d := hD c
  obtain ⟨h1, h2, h3⟩ := w_up hw
  have lo : ∀ o l, -1 ≤ mP Q r o l := fun o l => m_lo hD r o l
  have zb := mb_q (Q := Q) (f := mP Q r) (r := r) (c := c) (l := l) lo
  have em : mP Q (r + 1) c l = itP (pC Q c (22 - r)) (tm2 (pD Q c) (mbP Q (mP Q r) r c l)) (-1) := rfl
  rw [itp_t h1] at em
  have sv : smP (r + 1) (wP Q (r + 1) c k) := w_sm hD (r + 1) c k (by omega)
  unfold smP at sv
  have eb : mbP Q (mP Q r) r c l = mP Q (r + 1) c l - 100 * pD Q c := by
    unfold tm2 at em
    by_cases z : mbP Q (mP Q r) r c l = -1
    · rw [if_pos z] at em; omega
    · rw [if_neg z] at em; omega
  rw [← eb]
  have ev : mbP Q (mP Q r) r c l = 100 * (wP Q (r + 1) c k - pD Q c) + (k : Int) := by omega
  have b0 : 0 ≤ mbP Q (mP Q r) r c l := by
    have sb : smP r (bhP Q (wP Q r) r c k) := by
      rcases bh_at (Q := Q) (f := wP Q r) (r := r) (c := c) (k := k) with z | ⟨_, _, o, _, _, z⟩
      · rw [z]; exact w_sm hD r c k (by omega)
      · rw [z]; exact w_sm hD r o _ (by omega)
    unfold smP at sb
    omega
  unfold NXC NXM
  by_cases e : o = c
  · subst e
    refine ⟨fun z => ?_, fun z => ?_⟩
    · rcases z with ⟨_, z⟩ | ⟨z, _⟩
      · refine Or.inl ⟨rfl, ?_⟩
        rcases m_w hD r o l (by omega) hl with ⟨_, i2⟩ | ⟨⟨k', _, k2, k3⟩, i2⟩
        · have := i2 k hk; omega
        · have a := i2 k hk (by omega)
          have s := w_sm hD r o k' (by omega)
          unfold smP at s
          have b1 := mbq_c zb
          omega
      · exact absurd rfl z
    · rcases z with ⟨_, z⟩ | ⟨z, _⟩
      · refine Or.inl ⟨rfl, ?_⟩
        rcases m_w hD r o l (by omega) hl with ⟨i1, _⟩ | ⟨⟨k', k1, k2, k3⟩, _⟩
        · omega
        · have ek : k' = k := by omega
          subst ek
          omega
      · exact absurd rfl z
  · refine ⟨fun z => ?_, fun z => ?_⟩
    · rcases z with ⟨z, _⟩ | ⟨_, z1, z2, z3⟩
      · exact absurd z e
      · have l1 : 1 ≤ l := by omega
        refine Or.inr ⟨e, l1, z2, ?_⟩
        rcases m_w hD r o (l - 1) (by omega) (by omega) with ⟨_, i2⟩ | ⟨⟨k', _, k2, k3⟩, i2⟩
        · have := i2 (k - 1) (by omega); omega
        · have a := i2 (k - 1) (by omega) (by omega)
          have s := w_sm hD r o k' (by omega)
          unfold smP at s
          have b1 := mbq_o zb l1 z2 ho e
          have ek : (((k - 1 : Nat) : Nat) : Int) = (k : Int) - 1 := by omega
          rw [ek] at a
          exact ⟨by omega, by omega⟩
    · rcases z with ⟨z, _⟩ | ⟨_, z1, z2, z3, z4⟩
      · exact absurd z e
      · rcases m_w hD r o (l - 1) (by omega) (by omega) with ⟨i1, _⟩ | ⟨⟨k', k1, k2, k3⟩, _⟩
        · exact absurd i1 z3
        · have ek : k' + 1 = k := by omega
          subst ek
          refine Or.inr ⟨e, by omega, z2, ?_⟩
          rw [show k' + 1 - 1 = k' by omega]
          omega
/-- there is a way on -/
theorem nx_ex {Q : PlD} {r c k : Nat} (hc : c < pN Q) (hw : wP Q (r + 1) c k < 1000000) : ∃ o, o < pN Q ∧ NXC Q r c k (wP Q (r + 1) c k - pD Q c) o := by
  obtain ⟨h1, h2, h3⟩ := w_up hw
  have ev : wP Q (r + 1) c k - pD Q c = bhP Q (wP Q r) r c k := by omega
  rw [ev]
  rcases bh_at (Q := Q) (f := wP Q r) (r := r) (c := c) (k := k) with z | ⟨k1, nb, o, o1, o2, z⟩
  · exact ⟨c, hc, Or.inl ⟨rfl, z.symm⟩⟩
  · exact ⟨o, o1, Or.inr ⟨o2, k1, nb, z.symm⟩⟩
/-- what is left behind it -/
theorem nx_w {Q : PlD} {r c k : Nat} {v : Int} {o : Nat} (h : NXC Q r c k v o) : wP Q r o (if o = c then k else k - 1) = v := by
  rcases h with ⟨h1, h2⟩ | ⟨h1, _, _, h2⟩
  · rw [if_pos h1, h1]; exact h2
  · rw [if_neg h1]; exact h2
theorem nx_m {Q : PlD} {r c l : Nat} {m : Int} {o : Nat} (h : NXM Q r c l m o) : mP Q r o (if o = c then l else l - 1) = (if o = c then m else m - 1) := by
  rcases h with ⟨h1, h2⟩ | ⟨h1, _, _, _, h2⟩
  · rw [if_pos h1, if_pos h1, h1]; exact h2
  · rw [if_neg h1, if_neg h1]; omega
/-- the first configuration: fewest pairs, then fewest changes, then the least -/
def BSPl (Q : PlD) (m c k : Nat) : Prop := c < pN Q ∧ k ≤ m ∧ wP Q 23 c k < 1000000 ∧ ∀ c' k', c' < pN Q → k' ≤ m → wP Q 23 c k < wP Q 23 c' k' ∨ (wP Q 23 c k = wP Q 23 c' k' ∧ (k < k' ∨ (k = k' ∧ c ≤ c')))
theorem bspl_un {Q : PlD} {m c k c' k' : Nat} (h : BSPl Q m c k) (h' : BSPl Q m c' k') : c = c' ∧ k = k' := by
  have a := h.2.2.2 c' k' h'.1 h'.2.1
  have b := h'.2.2.2 c k h.1 h.2.1
  omega
/-- there is no plan -/
def NOP (Q : PlD) (m : Nat) : Prop := ∀ c k, c < pN Q → k ≤ m → wP Q 23 c k = 1000000
theorem bspl_no {Q : PlD} {m c k : Nat} (h : BSPl Q m c k) (n : NOP Q m) : False := by
  have a := n c k h.1 h.2.1
  have b := h.2.2.1
  omega
/-- changes left at a quarter -/
def kFp (L : Nat → Nat) (k : Nat) : Nat → Nat
  | 0 => k
  | j + 1 => if L (j + 1) = L j then kFp L k j else kFp L k j - 1
/-- the line of configurations up to a quarter -/
def LNQ (Q : PlD) (m : Nat) (L : Nat → Nat) (k q : Nat) : Prop := BSPl Q m (L 0) k ∧ ∀ j, j < q → (L (j + 1) < pN Q ∧ NXC Q (22 - j) (L j) (kFp L k j) (wP Q (23 - j) (L j) (kFp L k j) - pD Q (L j)) (L (j + 1))) ∧ ∀ o, o < L (j + 1) → ¬ NXC Q (22 - j) (L j) (kFp L k j) (wP Q (23 - j) (L j) (kFp L k j) - pD Q (L j)) o
theorem kf_c {L L' : Nat → Nat} {k : Nat} : ∀ q : Nat, (∀ j, j ≤ q → L j = L' j) → kFp L k q = kFp L' k q
  | 0, _ => rfl
  | q + 1, h => by
    show (if L (q + 1) = L q then kFp L k q else kFp L k q - 1) = if L' (q + 1) = L' q then kFp L' k q else kFp L' k q - 1
    rw [kf_c q (fun j hj => h j (by omega)), h (q + 1) (Nat.le_refl _), h q (by omega)]
theorem lnq_un {Q : PlD} {m k k' : Nat} {L L' : Nat → Nat} (h0 : BSPl Q m (L 0) k) (h0' : BSPl Q m (L' 0) k') : ∀ q : Nat, LNQ Q m L k q → LNQ Q m L' k' q → k = k' ∧ ∀ j, j ≤ q → L j = L' j
  | 0, _, _ => ⟨(bspl_un h0 h0').2, fun j hj => by rw [show j = 0 by omega]; exact (bspl_un h0 h0').1⟩
  | q + 1, h, h' => by
    obtain ⟨e, ih⟩ := lnq_un h0 h0' q ⟨h.1, fun j hj => h.2 j (by omega)⟩ ⟨h'.1, fun j hj => h'.2 j (by omega)⟩
    refine ⟨e, fun j hj => ?_⟩
    by_cases z : j = q + 1
    · subst z
      subst e
      have a := h.2 q (by omega)
      have b := h'.2 q (by omega)
      rw [← kf_c q ih, ← ih q (Nat.le_refl _)] at b
      rcases Nat.lt_trichotomy (L (q + 1)) (L' (q + 1)) with l | l | l
      · exact absurd a.1.2 (b.2 _ l)
      · exact l
      · exact absurd b.1.2 (a.2 _ l)
    · exact ih j (by omega)
/-- at each quarter what is left is there -/
theorem lnq_w {Q : PlD} {m k : Nat} {L : Nat → Nat} : ∀ q : Nat, q ≤ 23 → LNQ Q m L k q → wP Q (23 - q) (L q) (kFp L k q) < 1000000 ∧ L q < pN Q ∧ kFp L k q ≤ m
  | 0, _, h => ⟨h.1.2.2.1, h.1.1, h.1.2.1⟩
  | q + 1, hq, h => by
    obtain ⟨i1, i2, i3⟩ := lnq_w q (by omega) ⟨h.1, fun j hj => h.2 j (by omega)⟩
    have a := (h.2 q (by omega)).1
    have z := nx_w a.2
    have ek : kFp L k (q + 1) = if L (q + 1) = L q then kFp L k q else kFp L k q - 1 := rfl
    rw [show 23 - (q + 1) = 22 - q by omega, ek]
    refine ⟨?_, a.1, ?_⟩
    · rw [z]
      rw [show 23 - q = 22 - q + 1 by omega] at i1 ⊢
      have u := w_up i1
      omega
    · by_cases c : L (q + 1) = L q
      · rw [if_pos c]; exact i3
      · rw [if_neg c]; omega
theorem lnq_v {Q : PlD} {m k q : Nat} {L : Nat → Nat} (h : LNQ Q m L k (q + 1)) (hq : q ≤ 22) : wP Q (22 - q) (L (q + 1)) (kFp L k (q + 1)) = wP Q (23 - q) (L q) (kFp L k q) - pD Q (L q) := nx_w (h.2 q (by omega)).1.2
/-- pairs of the quarters below q, together -/
def spF (Q : PlD) (L : Nat → Nat) : Nat → Int
  | 0 => 0
  | q + 1 => spF Q L q + pD Q (L q)
/-- changes of the quarters up to q -/
def chF (L : Nat → Nat) : Nat → Int
  | 0 => 0
  | q + 1 => chF L q + (if L (q + 1) = L q then 0 else 1)
theorem lnq_sum {Q : PlD} {m k : Nat} {L : Nat → Nat} : ∀ q : Nat, q ≤ 23 → LNQ Q m L k q → spF Q L q + wP Q (23 - q) (L q) (kFp L k q) = wP Q 23 (L 0) k ∧ chF L q + (kFp L k q : Int) = (k : Int)
  | 0, _, _ => ⟨Int.zero_add _, Int.zero_add _⟩
  | q + 1, hq, h => by
    obtain ⟨i1, i2⟩ := lnq_sum q (by omega) ⟨h.1, fun j hj => h.2 j (by omega)⟩
    have v := lnq_v h (by omega)
    have a := (h.2 q (by omega)).1.2
    have e1 : spF Q L (q + 1) = spF Q L q + pD Q (L q) := rfl
    have e2 : chF L (q + 1) = chF L q + (if L (q + 1) = L q then 0 else 1) := rfl
    have e3 : kFp L k (q + 1) = if L (q + 1) = L q then kFp L k q else kFp L k q - 1 := rfl
    refine ⟨by rw [show 23 - (q + 1) = 22 - q by omega, v, e1]; omega, ?_⟩
    rw [e2, e3]
    by_cases c : L (q + 1) = L q
    · rw [if_pos c, if_pos c]; omega
    · rw [if_neg c, if_neg c]
      rcases a with ⟨a, _⟩ | ⟨_, a, _⟩
      · exact absurd a c
      · omega
theorem lnq_end {Q : PlD} {m k : Nat} {L : Nat → Nat} (h : LNQ Q m L k 23) : spF Q L 24 = wP Q 23 (L 0) k ∧ chF L 23 = (k : Int) := by
  obtain ⟨i1, i2⟩ := lnq_sum 23 (Nat.le_refl _) h
  have w := (lnq_w 23 (Nat.le_refl _) h).1
  rw [show 23 - 23 = 0 from rfl] at i1 w
  have e : wP Q 0 (L 23) (kFp L k 23) = itP (pC Q (L 23) 23) (if kFp L k 23 = 0 then pD Q (L 23) else 1000000) 1000000 := rfl
  have es : spF Q L 24 = spF Q L 23 + pD Q (L 23) := rfl
  rw [e] at i1 w
  by_cases p : pC Q (L 23) 23
  · rw [itp_t p] at i1 w
    by_cases z : kFp L k 23 = 0
    · rw [if_pos z] at i1
      rw [z] at i2
      exact ⟨by rw [es]; exact i1, by omega⟩
    · rw [if_neg z] at w; omega
  · rw [itp_f p] at w; omega
/-! The loads of all pieces together, by quarters -/
noncomputable def bsPl (U : AirD) (f : Nat → Int) (q : Nat) : Nat → Int32
  | 0 => 0
  | n + 1 => @ite Int32 (presF f n) (Classical.propDecidable (presF f n)) (bsPl U f q n + ldH U (pcS f (n : Int)) 1 q (-1)) (bsPl U f q n)
theorem bsn_y {U : AirD} {f : Nat → Int} {q n : Nat} (h : presF f n) : bsPl U f q (n + 1) = bsPl U f q n + ldH U (pcS f (n : Int)) 1 q (-1) := if_pos h
theorem bsn_n {U : AirD} {f : Nat → Int} {q n : Nat} (h : ¬ presF f n) : bsPl U f q (n + 1) = bsPl U f q n := if_neg h
theorem bsn_q {U : AirD} {f : Nat → Int} {q r : Nat} (h : ∀ x, x < uN U → uM U q x = uM U r x) : ∀ n : Nat, bsPl U f q n = bsPl U f r n
  | 0 => rfl
  | n + 1 => by
    by_cases p : presF f n
    · rw [bsn_y p, bsn_y p, bsn_q h n, ldh_q h]
    · rw [bsn_n p, bsn_n p, bsn_q h n]
theorem bsn_c {U : AirD} {f f' : Nat → Int} {q : Nat} (h : ∀ j, j < 128 → f j = f' j) : ∀ n : Nat, bsPl U f q n = bsPl U f' q n
  | 0 => rfl
  | n + 1 => by
    have e := prs_c h
    by_cases p : presF f n
    · have p' : presF f' n := by rw [← e]; exact p
      rw [bsn_y p, bsn_y p', bsn_c h n, pcs_c h]
    · have p' : ¬ presF f' n := by rw [← e]; exact p
      rw [bsn_n p, bsn_n p', bsn_c h n]
def LDO (U : AirD) (f : Nat → Int) (p : Int) (t : PS) : Prop := ∀ q : Nat, q < 24 → iC t 49 q = (bsPl U f q p.toNat).toInt
def LDL (U : AirD) (f : Nat → Int) (p n : Int) (t : PS) : Prop := ∀ q : Nat, q < 24 → (((q : Int) < n ∧ iC t 49 q = (bsPl U f q (p.toNat + 1)).toInt) ∨ (n ≤ (q : Int) ∧ iC t 49 q = (bsPl U f q p.toNat).toInt))
theorem ldo_0 {U : AirD} {f : Nat → Int} {t : PS} (h : ∀ q : Nat, q < 24 → iC t 49 q = 0) : LDO U f 0 t := fun q hq => h q hq
theorem ldo_s {U : AirD} {f : Nat → Int} {p : Int} {t u : PS} (h : LDO U f p t) (e : SAM 49 t u) : LDO U f p u := fun q hq => (e q).trans (h q hq)
theorem ldo_n {U : AirD} {f : Nat → Int} {p : Int} {t : PS} (h : LDO U f p t) (p0 : 0 ≤ p) (hp : ¬ presF f p.toNat) : LDO U f (p + 1) t := fun q hq => by
  rw [show (p + 1).toNat = p.toNat + 1 by omega, bsn_n hp]
  exact h q hq
theorem ldl_0 {U : AirD} {f : Nat → Int} {p : Int} {t : PS} (h : LDO U f p t) : LDL U f p 0 t := fun q hq => Or.inr ⟨by omega, h q hq⟩
theorem ldl_e {U : AirD} {f : Nat → Int} {p n : Int} {t : PS} (h : LDL U f p n t) (hn : n = 24) (p0 : 0 ≤ p) : LDO U f (p + 1) t := fun q hq => by
  rw [show (p + 1).toNat = p.toNat + 1 by omega]
  rcases h q hq with z | z
  · exact z.2
  · exact absurd z.1 (by omega)
theorem ldl_up {U : AirD} {f : Nat → Int} {p n v : Int} {t u : PS} (h : LDL U f p n t) (n0 : 0 ≤ n) (hu : UPD 49 n v t u) (hv : v = (bsPl U f n.toNat (p.toNat + 1)).toInt) : LDL U f p (n + 1) u := fun q hq => by
  by_cases e : q = n.toNat
  · have w := (qn_at n0 e).1
    subst e
    exact Or.inl ⟨w, hu.1.trans hv⟩
  · rw [hu.2 q e]
    rcases h q hq with z | z
    · exact Or.inl ⟨(qn_lt n0 e).mpr z.1, z.2⟩
    · exact Or.inr ⟨by have := z.1; omega, z.2⟩
theorem ldl_tw {U : AirD} {f : Nat → Int} {p n r : Int} {t : PS} (h : LDL U f p n t) (n0 : 0 ≤ n ∧ n ≤ 23) (r0 : 0 ≤ r ∧ r < n) (hm : ∀ x : Nat, x < uN U → uM U n.toNat x = uM U r.toNat x) : iC t 49 r.toNat = (bsPl U f n.toNat (p.toNat + 1)).toInt := by
  rw [bsn_q hm]
  rcases h r.toNat (by omega) with z | z
  · exact z.2
  · exact absurd z.1 (by omega)
theorem ldl_own {U : AirD} {f : Nat → Int} {p n e y : Int} {t : PS} (h : LDL U f p n t) (n0 : 0 ≤ n ∧ n ≤ 23) (p0 : 0 ≤ p) (hp : presF f p.toNat) (he : Int32.ofInt e = ldH U (pcS f p) 1 n.toNat (-1)) (hy : Int32.ofInt y = Int32.ofInt (iC t 49 n.toNat + e)) (ry : rng y) : y = (bsPl U f n.toNat (p.toNat + 1)).toInt := by
  have w : iC t 49 n.toNat = (bsPl U f n.toNat p.toNat).toInt := by
    rcases h n.toNat (by omega) with z | z
    · exact absurd z.1 (by omega)
    · exact z.2
  refine of_to ry ?_
  rw [hy, Int32.ofInt_add, he, w, ofi_to, bsn_y hp, show ((p.toNat : Nat) : Int) = p by omega]
/-! all configurations judged -/
def JDA (U : AirD) (J : List Int → Prop) (D f lim : Nat → Int) (n : Int) (t : PS) : Prop := ∀ c : Nat, (c : Int) < n → iC t 47 c = npG (D c) f 8 ∧ CNQ (PGN U J (D c) f lim 8) (c : Int) t
theorem jda_0 {U : AirD} {J : List Int → Prop} {D f lim : Nat → Int} {t : PS} : JDA U J D f lim 0 t := fun c hc => absurd hc (by omega)
theorem jda_s {U : AirD} {J : List Int → Prop} {D f lim : Nat → Int} {n : Int} {t u : PS} (h : JDA U J D f lim n t) (e1 : SAM 47 t u) (e2 : SAM 48 t u) : JDA U J D f lim n u := fun c hc => ⟨(e1 c).trans (h c hc).1, cnq_s (h c hc).2 e2⟩
theorem jd_ix {c q : Nat} {n : Int} (hc : (c : Int) ≠ n) (hq : q < 24) : ((((c : Int) * 24 + (q : Int)).toNat : Nat) : Int) < n * 24 ∨ n * 24 + 24 ≤ ((((c : Int) * 24 + (q : Int)).toNat : Nat) : Int) := by omega
theorem jda_up {U : AirD} {J : List Int → Prop} {D f lim : Nat → Int} {n d : Int} {t u : PS} (h : JDA U J D f lim n t) (n0 : 0 ≤ n) (hd : d = D n.toNat) (hu : UPD 47 n (npG d f 8) t u) (hc : CNQ (PGN U J d f lim 8) n u) (ho : CNO n t u) : JDA U J D f lim (n + 1) u := fun c c1 => by
  by_cases e : c = n.toNat
  · subst e
    have en : ((n.toNat : Nat) : Int) = n := by omega
    rw [← hd, en]
    exact ⟨hu.1, hc⟩
  · have z := h c (nx_lt n0 e c1)
    refine ⟨(hu.2 c e).trans z.1, fun q hq => cnb_s (z.2 q hq) (ho _ (jd_ix (nx_ne n0 e) hq))⟩
/-! what class and model plan with -/
noncomputable def QD (U : AirD) (J : List Int → Prop) (n b : Int) (D f lim : Nat → Int) : PlD := (n.toNat, fun c q => c < 6 ∧ PGN U J (D c) f lim 8 q, fun c => if c < 6 then npG (D c) f 8 else 0, fun q => b < (bsPl U f q 8).toInt)
theorem qd_c {U : AirD} {J : List Int → Prop} {n n' b b' : Int} {D D' f f' lim lim' : Nat → Int} (hn : n = n') (hb : b = b') (hD : ∀ j, j < 6 → D j = D' j) (hf : ∀ j, j < 128 → f j = f' j) (hl : ∀ j, j < 8 → lim j = lim' j) : QD U J n b D f lim = QD U J n' b' D' f' lim' := by
  subst hn hb
  have e1 : (fun c q => c < 6 ∧ PGN U J (D c) f lim 8 q) = fun c q => c < 6 ∧ PGN U J (D' c) f' lim' 8 q := funext (fun c => funext (fun q => propext (and_congr_right (fun hc => by rw [hD c hc]; exact pgn_c hf hl q))))
  have e2 : (fun c => if c < 6 then npG (D c) f 8 else 0) = fun c => if c < 6 then npG (D' c) f' 8 else (0 : Int) := funext (fun c => by
    by_cases hc : c < 6
    · rw [if_pos hc, if_pos hc, hD c hc, npg_c hf]
    · rw [if_neg hc, if_neg hc])
  have e3 : (fun q => b < (bsPl U f q 8).toInt) = fun q => b < (bsPl U f' q 8).toInt := funext (fun q => by rw [bsn_c hf])
  unfold QD
  rw [e1, e2, e3]
theorem qd_n {U : AirD} {J : List Int → Prop} {n b : Int} {D f lim : Nat → Int} : nDP (QD U J n b D f lim) := fun c => by
  show 0 ≤ (if c < 6 then npG (D c) f 8 else 0) ∧ (if c < 6 then npG (D c) f 8 else 0) ≤ 8
  by_cases hc : c < 6
  · rw [if_pos hc]; exact npg_r 8
  · rw [if_neg hc]; exact ⟨Int.le_refl _, by decide⟩
theorem qd_d {U : AirD} {J : List Int → Prop} {n b : Int} {D f lim : Nat → Int} {c : Nat} (hc : c < 6) : pD (QD U J n b D f lim) c = npG (D c) f 8 := if_pos hc
/-! the class's table -/
def BSY (Q : PlD) (t : PS) : Prop := ∀ q : Nat, q < 24 → (pB Q q ↔ iI t 33 < iC t 49 q)
def JND (Q : PlD) (t : PS) : Prop := ∀ c : Nat, c < pN Q → iC t 47 c = pD Q c
def FWB (Q : PlD) (m : Nat) (q : Int) (t : PS) : Prop := ∀ c k : Nat, c < pN Q → k ≤ m → iC t 50 ((q * 6 + (c : Int)) * 24 + (k : Int)).toNat = wP Q (23 - q).toNat c k
def FWX (Q : PlD) (m : Nat) (q c k : Int) (t : PS) : Prop := ∀ q' c' k' : Nat, q' < 24 → c' < pN Q → k' ≤ m → (q < (q' : Int) ∨ (q = (q' : Int) ∧ ((c' : Int) < c ∨ ((c' : Int) = c ∧ (k' : Int) < k)))) → iC t 50 (((q' : Int) * 6 + (c' : Int)) * 24 + (k' : Int)).toNat = wP Q (23 - q') c' k'
theorem bsy_of {U : AirD} {J : List Int → Prop} {n b : Int} {D f lim : Nat → Int} {t : PS} (h : LDO U f 8 t) (hb : iI t 33 = b) : BSY (QD U J n b D f lim) t := fun q hq => by
  show b < (bsPl U f q 8).toInt ↔ _
  rw [h q hq, hb]
  exact Iff.rfl
theorem bsy_s {Q : PlD} {t u : PS} (h : BSY Q t) (e1 : iI u 33 = iI t 33) (e2 : SAM 49 t u) : BSY Q u := fun q hq => by rw [e1, e2 q]; exact h q hq
theorem jnd_of {U : AirD} {J : List Int → Prop} {n b : Int} {D f lim : Nat → Int} {t : PS} (h : JDA U J D f lim n t) (n0 : 0 ≤ n ∧ n ≤ 6) : JND (QD U J n b D f lim) t := fun c hc => by
  replace hc : c < n.toNat := hc
  rw [qd_d (by omega)]
  exact (h c (by omega)).1
theorem jnd_s {Q : PlD} {t u : PS} (h : JND Q t) (e : SAM 47 t u) : JND Q u := fun c hc => (e c).trans (h c hc)
theorem fwx_0 {Q : PlD} {m : Nat} {t : PS} : FWX Q m 23 0 0 t := fun q' c' k' h1 h2 h3 h4 => absurd h4 (by omega)
theorem fwx_c {Q : PlD} {m : Nat} {q c k : Int} {t : PS} (h : FWX Q m q c k t) (hk : (m : Int) < k) : FWX Q m q (c + 1) 0 t := fun q' c' k' h1 h2 h3 h4 => h q' c' k' h1 h2 h3 (by omega)
theorem fwx_q {Q : PlD} {m : Nat} {q c k : Int} {t : PS} (h : FWX Q m q c k t) (hc : (pN Q : Int) ≤ c) : FWX Q m (q + (-1)) 0 0 t := fun q' c' k' h1 h2 h3 h4 => h q' c' k' h1 h2 h3 (by omega)
theorem fw_ne {q c k : Int} {q' c' k' : Nat} (q0 : 0 ≤ q) (c0 : 0 ≤ c ∧ c ≤ 5) (k0 : 0 ≤ k ∧ k ≤ 23) (c1 : c' ≤ 5) (k1 : k' ≤ 23) (h : (((q' : Int) * 6 + (c' : Int)) * 24 + (k' : Int)).toNat = ((q * 6 + c) * 24 + k).toNat) : (q' : Int) = q ∧ (c' : Int) = c ∧ (k' : Int) = k := by omega
theorem fwx_up {Q : PlD} {m : Nat} {q c k v : Int} {t u : PS} (h : FWX Q m q c k t) (n6 : pN Q ≤ 6) (m0 : m ≤ 23) (q0 : 0 ≤ q ∧ q ≤ 23) (c0 : 0 ≤ c ∧ c ≤ 5) (k0 : 0 ≤ k ∧ k ≤ 23) (hu : UPD 50 ((q * 6 + c) * 24 + k) v t u) (hv : v = wP Q (23 - q).toNat c.toNat k.toNat) : FWX Q m q c (k + 1) u := fun q' c' k' h1 h2 h3 h4 => by
  by_cases e : (((q' : Int) * 6 + (c' : Int)) * 24 + (k' : Int)).toNat = ((q * 6 + c) * 24 + k).toNat
  · obtain ⟨e1, e2, e3⟩ := fw_ne q0.1 c0 k0 (by omega) (by omega) e
    rw [e, hu.1, hv, ← e1, ← e2, ← e3, show ((c' : Int)).toNat = c' by omega, show ((k' : Int)).toNat = k' by omega, show (23 - (q' : Int)).toNat = 23 - q' by omega]
  · have n : ¬ ((q' : Int) = q ∧ (c' : Int) = c ∧ (k' : Int) = k) := fun z => e (by rw [z.1, z.2.1, z.2.2])
    rw [hu.2 _ e]
    exact h q' c' k' h1 h2 h3 (by omega)
theorem fwx_b {Q : PlD} {m : Nat} {q c k r : Int} {t : PS} (h : FWX Q m q c k t) (q0 : q < r) (r0 : 0 ≤ r ∧ r ≤ 23) : FWB Q m r t := fun c' k' h2 h3 => by
  have z := h r.toNat c' k' (by omega) h2 h3 (Or.inl (by omega))
  rw [show ((r.toNat : Nat) : Int) = r by omega, show 23 - r.toNat = (23 - r).toNat by omega] at z
  exact z
theorem fwb_at {Q : PlD} {m : Nat} {q c k e : Int} {t : PS} (h : FWB Q m q t) (c0 : 0 ≤ c ∧ c < (pN Q : Int)) (k0 : 0 ≤ k ∧ k ≤ (m : Int)) (he : e = (q * 6 + c) * 24 + k) : iC t 50 e.toNat = wP Q (23 - q).toNat c.toNat k.toNat := by
  have z := h c.toNat k.toNat (by omega) (by omega)
  rw [show ((c.toNat : Nat) : Int) = c by omega, show ((k.toNat : Nat) : Int) = k by omega, ← he] at z
  exact z
theorem fwb_s {Q : PlD} {m : Nat} {q : Int} {t u : PS} (h : FWB Q m q t) (e : SAM 50 t u) : FWB Q m q u := fun c k h1 h2 => (e _).trans (h c k h1 h2)
/-- what stands behind a quarter: the three ways -/
theorem bh_0 {Q : PlD} {f : Nat → Nat → Int} {r c k : Nat} (h : k = 0) : bhP Q f r c k = f c k := if_pos h
theorem bh_b {Q : PlD} {f : Nat → Nat → Int} {r c k : Nat} (h : pB Q (23 - r)) : bhP Q f r c k = f c k := by
  unfold bhP
  by_cases e : k = 0
  · rw [if_pos e]
  · rw [if_neg e, itp_t h]
theorem bh_o {Q : PlD} {f : Nat → Nat → Int} {r c k : Nat} (hk : k ≠ 0) (h : ¬ pB Q (23 - r)) : bhP Q f r c k = oth (fun o => f o (k - 1)) c (pN Q) (f c k) := by
  unfold bhP
  rw [if_neg hk, itp_f h]
theorem oth_y {f : Nat → Int} {c j : Nat} {a : Int} (h : j = c) : oth f c (j + 1) a = oth f c j a := if_pos h
theorem oth_n {f : Nat → Int} {c j : Nat} {a : Int} (h : j ≠ c) : oth f c (j + 1) a = min (oth f c j a) (f j) := if_neg h
def FBQ (Q : PlD) (x y z e : Int) : Prop := (x = 23 ∧ ((z = 0 ∧ e = 0) ∨ (z ≠ 0 ∧ e = 1000000))) ∨ (x ≤ 22 ∧ e = bhP Q (wP Q (22 - x).toNat) (22 - x).toNat y.toNat z.toNat)
theorem fbq_r {Q : PlD} {x y z e : Int} (hD : nDP Q) (h : FBQ Q x y z e) (x0 : 0 ≤ x) : e = 1000000 ∨ (0 ≤ e ∧ e ≤ 192) := by
  rcases h with ⟨_, h⟩ | ⟨h1, h2⟩
  · omega
  · have s : smP (22 - x).toNat (bhP Q (wP Q (22 - x).toNat) (22 - x).toNat y.toNat z.toNat) := by
      rcases bh_at (Q := Q) (f := wP Q (22 - x).toNat) (r := (22 - x).toNat) (c := y.toNat) (k := z.toNat) with w | ⟨_, _, o, _, _, w⟩
      · rw [w]; exact w_sm hD _ _ _ (by omega)
      · rw [w]; exact w_sm hD _ _ _ (by omega)
    rw [← h2] at s
    unfold smP at s
    omega
theorem fw_val {Q : PlD} {q c k b v d : Int} (q0 : 0 ≤ q ∧ q ≤ 23) (k0 : 0 ≤ k) (hd : d = pD Q c.toNat) (h : (pC Q c.toNat q.toNat ∧ FBQ Q q c k b) ∨ (¬ pC Q c.toNat q.toNat ∧ b = 1000000)) (hv : (1000000 ≤ b ∧ v = 1000000) ∨ (b < 1000000 ∧ v = d + b)) : v = wP Q (23 - q).toNat c.toNat k.toNat := by
  by_cases e : q = 23
  · rw [show (23 - q).toNat = 0 by omega]
    rw [show q.toNat = 23 by omega] at h
    show v = itP (pC Q c.toNat 23) (if k.toNat = 0 then pD Q c.toNat else 1000000) 1000000
    rcases h with ⟨h1, h2⟩ | ⟨h1, h2⟩
    · rw [itp_t h1]
      rcases h2 with ⟨_, h2⟩ | ⟨h2, _⟩
      · by_cases z : k.toNat = 0
        · rw [if_pos z, ← hd]; omega
        · rw [if_neg z]; omega
      · omega
    · rw [itp_f h1]; omega
  · rw [show (23 - q).toNat = (22 - q).toNat + 1 by omega]
    show v = itP (pC Q c.toNat (22 - (22 - q).toNat)) (tmP (pD Q c.toNat) (bhP Q (wP Q (22 - q).toNat) (22 - q).toNat c.toNat k.toNat)) 1000000
    rw [show 22 - (22 - q).toNat = q.toNat by omega]
    rcases h with ⟨h1, h2⟩ | ⟨h1, h2⟩
    · rw [itp_t h1]
      rcases h2 with ⟨h2, _⟩ | ⟨_, h2⟩
      · exact absurd h2 e
      · rw [← h2, ← hd]
        unfold tmP
        by_cases z : 1000000 ≤ b
        · rw [if_pos z]; omega
        · rw [if_neg z]; omega
    · rw [itp_f h1]; omega
/-- a configuration can be in a quarter, as the class has it -/
theorem jda_can {U : AirD} {J : List Int → Prop} {n b c q v : Int} {D f lim : Nat → Int} {t : PS} (h : JDA U J D f lim n t) (c0 : 0 ≤ c ∧ c < n) (c6 : c ≤ 5) (q0 : 0 ≤ q ∧ q ≤ 23) (hv : v = iC t 48 (c * 24 + q).toNat) : (v = 1 ∧ pC (QD U J n b D f lim) c.toNat q.toNat) ∨ (v = 0 ∧ ¬ pC (QD U J n b D f lim) c.toNat q.toNat) := by
  have z := (h c.toNat (by omega)).2 q.toNat (by omega)
  unfold CNB at z
  rw [show ((c.toNat : Nat) : Int) = c by omega, show ((q.toNat : Nat) : Int) = q by omega, ← hv] at z
  exact z.imp (fun w => ⟨w.1, by omega, w.2⟩) (fun w => ⟨w.1, fun y => w.2 y.2⟩)
/-! the class chooses -/
abbrev lnC (t : PS) : Nat → Nat := fun j => (iC t 51 j).toNat
/-- the best of what was looked at: changes below k, or k and configurations below c -/
def BSO (Q : PlD) (k c : Int) (t : PS) : Prop := (iI t 34 = 1000000 ∧ ∀ k' c' : Nat, c' < pN Q → ((k' : Int) < k ∨ ((k' : Int) = k ∧ (c' : Int) < c)) → wP Q 23 c' k' = 1000000) ∨ (iI t 34 < 1000000 ∧ (0 ≤ iI t 35 ∧ (lnC t 0) < pN Q ∧ (iI t 35 < k ∨ (iI t 35 = k ∧ (lnC t 0 : Int) < c))) ∧ iI t 34 = wP Q 23 (lnC t 0) (iI t 35).toNat ∧ ∀ k' c' : Nat, c' < pN Q → ((k' : Int) < k ∨ ((k' : Int) = k ∧ (c' : Int) < c)) → iI t 34 < wP Q 23 c' k' ∨ (iI t 34 = wP Q 23 c' k' ∧ (iI t 35 < (k' : Int) ∨ (iI t 35 = (k' : Int) ∧ lnC t 0 ≤ c'))))
theorem bso_0 {Q : PlD} {t : PS} (h : iI t 34 = 1000000) : BSO Q 0 0 t := Or.inl ⟨h, fun k' c' _ z => absurd z (by omega)⟩
theorem bso_k {Q : PlD} {k c : Int} {t : PS} (h : BSO Q k c t) (hc : (pN Q : Int) ≤ c) : BSO Q (k + 1) 0 t := by
  rcases h with ⟨h1, h2⟩ | ⟨h1, h2, h3, h4⟩
  · exact Or.inl ⟨h1, fun k' c' i z => h2 k' c' i (by omega)⟩
  · exact Or.inr ⟨h1, ⟨h2.1, h2.2.1, by omega⟩, h3, fun k' c' i z => h4 k' c' i (by omega)⟩
theorem bso_no {Q : PlD} {k c v : Int} {t : PS} (h : BSO Q k c t) (hD : nDP Q) (k0 : 0 ≤ k) (c0 : 0 ≤ c) (hv : v = wP Q 23 c.toNat k.toNat) (hn : iI t 34 ≤ v) : BSO Q k (c + 1) t := by
  have s := w_sm hD 23 c.toNat k.toNat (Nat.le_refl _)
  rw [← hv] at s
  unfold smP at s
  rcases h with ⟨h1, h2⟩ | ⟨h1, h2, h3, h4⟩
  · refine Or.inl ⟨h1, fun k' c' i z => ?_⟩
    by_cases e : (k' : Int) = k ∧ (c' : Int) = c
    · have e1 : c' = c.toNat := by omega
      have e2 : k' = k.toNat := by omega
      rw [e1, e2, ← hv]; omega
    · exact h2 k' c' i (by omega)
  · refine Or.inr ⟨h1, ⟨h2.1, h2.2.1, by omega⟩, h3, fun k' c' i z => ?_⟩
    by_cases e : (k' : Int) = k ∧ (c' : Int) = c
    · have e1 : c' = c.toNat := by omega
      have e2 : k' = k.toNat := by omega
      rw [e1, e2, ← hv]; omega
    · exact h4 k' c' i (by omega)
theorem bso_y {Q : PlD} {k c v : Int} {t u : PS} (h : BSO Q k c t) (hD : nDP Q) (k0 : 0 ≤ k) (c0 : 0 ≤ c ∧ c < (pN Q : Int)) (hv : v = wP Q 23 c.toNat k.toNat) (hn : v < iI t 34) (e1 : iI u 34 = v) (e2 : iI u 35 = k) (e3 : iC u 51 0 = c) : BSO Q k (c + 1) u := by
  have s := w_sm hD 23 c.toNat k.toNat (Nat.le_refl _)
  rw [← hv] at s
  unfold smP at s
  have e : lnC u 0 = c.toNat := congrArg Int.toNat e3
  have lt : v < 1000000 := by
    rcases h with ⟨h1, _⟩ | ⟨h1, _⟩
    · omega
    · omega
  unfold BSO
  rw [e1, e2, e]
  refine Or.inr ⟨lt, ⟨k0, by omega, Or.inr ⟨rfl, by omega⟩⟩, hv, fun k' c' i z => ?_⟩
  by_cases g : (k' : Int) = k ∧ (c' : Int) = c
  · have g1 : c' = c.toNat := by omega
    have g2 : k' = k.toNat := by omega
    rw [g1, g2, ← hv]
    exact Or.inr ⟨rfl, Or.inr ⟨by omega, Nat.le_refl _⟩⟩
  · rcases h with ⟨h1, h2⟩ | ⟨h1, _, _, h4⟩
    · have := h2 k' c' i (by omega)
      exact Or.inl (by omega)
    · have := h4 k' c' i (by omega)
      exact Or.inl (by omega)
theorem bso_n {Q : PlD} {m : Nat} {k c : Int} {t : PS} (h : BSO Q k c t) (hk : (m : Int) < k) (hp : 1000000 ≤ iI t 34) : NOP Q m := fun c' k' h1 h2 => by
  rcases h with ⟨_, h⟩ | ⟨h, _⟩
  · exact h k' c' h1 (by omega)
  · omega
theorem bso_b {Q : PlD} {m : Nat} {k : Int} {t : PS} (h : BSO Q k 0 t) (hk : k = (m : Int) + 1) (hp : iI t 34 < 1000000) : BSPl Q m (lnC t 0) (iI t 35).toNat ∧ iI t 34 = wP Q 23 (lnC t 0) (iI t 35).toNat := by
  rcases h with ⟨h, _⟩ | ⟨_, h2, h3, h4⟩
  · omega
  · refine ⟨⟨h2.2.1, by omega, by rw [← h3]; exact hp, fun c' k' i j => ?_⟩, h3⟩
    have z := h4 k' c' i (Or.inl (by omega))
    rw [← h3]
    omega
/-- the line grows -/
theorem lnq_c {Q : PlD} {m k : Nat} {L L' : Nat → Nat} {q : Nat} (h : LNQ Q m L k q) (e : ∀ j, j ≤ q → L j = L' j) : LNQ Q m L' k q := by
  refine ⟨by rw [← e 0 (Nat.zero_le _)]; exact h.1, fun j hj => ?_⟩
  rw [← e (j + 1) (by omega), ← e j (by omega), ← kf_c j (fun i hi => e i (by omega))]
  exact h.2 j hj
theorem lnq_up {Q : PlD} {m k : Nat} {L : Nat → Nat} {q : Nat} (h : LNQ Q m L k q) (h1 : L (q + 1) < pN Q) (h2 : NXC Q (22 - q) (L q) (kFp L k q) (wP Q (23 - q) (L q) (kFp L k q) - pD Q (L q)) (L (q + 1))) (h3 : ∀ o, o < L (q + 1) → ¬ NXC Q (22 - q) (L q) (kFp L k q) (wP Q (23 - q) (L q) (kFp L k q) - pD Q (L q)) o) : LNQ Q m L k (q + 1) := ⟨h.1, fun j hj => by
  by_cases e : j = q
  · subst e; exact ⟨⟨h1, h2⟩, h3⟩
  · exact h.2 j (by omega)⟩
/-- the class's line up to quarter q (below n): changes left k, pairs left v -/
def LNX (Q : PlD) (m : Nat) (n k v : Int) (t : PS) : Prop := LNQ Q m (lnC t) (iI t 35).toNat (n - 1).toNat ∧ k = (kFp (lnC t) (iI t 35).toNat (n - 1).toNat : Int) ∧ v = wP Q (24 - n).toNat (lnC t (n - 1).toNat) k.toNat ∧ iI t 34 = wP Q 23 (lnC t 0) (iI t 35).toNat
theorem lnx_1 {Q : PlD} {m : Nat} {t : PS} (h : BSPl Q m (lnC t 0) (iI t 35).toNat) (hp : iI t 34 = wP Q 23 (lnC t 0) (iI t 35).toNat) (c0 : 0 ≤ iI t 35) : LNX Q m 1 (iI t 35) (iI t 34) t := ⟨⟨h, fun j hj => absurd hj (Nat.not_lt_zero _)⟩, by show _ = (((iI t 35).toNat : Nat) : Int); omega, hp, hp⟩
/-- the next one, and the first such -/
def NXF (Q : PlD) (r c k : Nat) (v : Int) (e : Int) : Prop := (0 ≤ e ∧ e < (pN Q : Int)) ∧ NXC Q r c k v e.toNat ∧ ∀ o : Nat, (o : Int) < e → ¬ NXC Q r c k v o
theorem lnx_up {Q : PlD} {m : Nat} {n k v d e k' : Int} {t u : PS} (h : LNX Q m n k v t) (n0 : 1 ≤ n ∧ n ≤ 23) (hd : d = pD Q (lnC t (n - 1).toNat)) (he : NXF Q (23 - n).toNat (lnC t (n - 1).toNat) k.toNat (v - d) e) (hu : UPD 51 n e t u) (e1 : iI u 35 = iI t 35) (e2 : iI u 34 = iI t 34) (hk : (e = iC t 51 (n - 1).toNat ∧ k' = k) ∨ (e ≠ iC t 51 (n - 1).toNat ∧ k' = k + (-1))) (l0 : 0 ≤ iC t 51 (n - 1).toNat) : LNX Q m (n + 1) k' (v - d) u := by
  obtain ⟨h1, h2, h3, h4⟩ := h
  obtain ⟨g1, g2, g3⟩ := he
  obtain ⟨p, hp⟩ : ∃ p : Nat, p = (n - 1).toNat := ⟨_, rfl⟩
  have en : n.toNat = p + 1 := by omega
  have ln : lnC u (p + 1) = e.toNat := by
    show (iC u 51 (p + 1)).toNat = e.toNat
    rw [← en, hu.1]
  have lo : ∀ j, j ≤ p → lnC t j = lnC u j := fun j hj => by
    show (iC t 51 j).toNat = (iC u 51 j).toNat
    rw [hu.2 j (by omega)]
  rw [← hp] at h1 h2 h3 hd g2 g3 hk l0
  have hkN : k.toNat = kFp (lnC t) (iI t 35).toNat p := by omega
  have kc := kf_c (k := (iI t 35).toNat) p lo
  rw [hkN] at h3 g2 g3
  rw [show (24 - n).toNat = 23 - p by omega] at h3
  rw [show (23 - n).toNat = 22 - p by omega] at g2 g3
  rw [h3, hd] at g2 g3
  rw [kc, lo p (Nat.le_refl _)] at g2 g3
  have hl : LNQ Q m (lnC u) (iI t 35).toNat (p + 1) := lnq_up (lnq_c h1 lo) (by rw [ln]; omega) (by rw [ln]; exact g2) (fun o ho => g3 o (by rw [ln] at ho; omega))
  have kn : kFp (lnC u) (iI t 35).toNat (p + 1) = if lnC u (p + 1) = lnC u p then kFp (lnC u) (iI t 35).toNat p else kFp (lnC u) (iI t 35).toNat p - 1 := rfl
  have le : lnC u p = (iC t 51 p).toNat := (lo p (Nat.le_refl _)).symm
  have kk : k' = (kFp (lnC u) (iI t 35).toNat (p + 1) : Int) := by
    rw [kn, ln, le]
    rcases hk with ⟨a, b⟩ | ⟨a, b⟩
    · rw [if_pos (by rw [a]), ← kc]; omega
    · have na : ¬ e.toNat = (iC t 51 p).toNat := by omega
      rw [if_neg na, ← kc]
      rcases g2 with ⟨z, _⟩ | ⟨_, z, _⟩
      · exact absurd (z.trans le) na
      · rw [← kc] at z; omega
  unfold LNX
  rw [e1, e2, show (n + 1 - 1).toNat = p + 1 by omega]
  refine ⟨hl, kk, ?_, by rw [← lo 0 (Nat.zero_le _)]; exact h4⟩
  have z := lnq_v hl (by omega)
  rw [show (24 - (n + 1)).toNat = 22 - p by omega, show k'.toNat = kFp (lnC u) (iI t 35).toNat (p + 1) by omega, z, h3, hd, ← kc, ← lo p (Nat.le_refl _)]
/-- what a search for a plan answers -/
def PLE (Q : PlD) (m : Nat) (t : PS) (e : Int) : Prop := (e = 0 ∧ NOP Q m) ∨ (e = 1 ∧ LNQ Q m (lnC t) (iI t 35).toNat 23 ∧ iI t 34 = wP Q 23 (lnC t 0) (iI t 35).toNat)
theorem lnx_e {Q : PlD} {m : Nat} {n k v : Int} {t : PS} (h : LNX Q m n k v t) (hn : n = 24) : PLE Q m t 1 := by
  obtain ⟨h1, _, _, h4⟩ := h
  rw [show (n - 1).toNat = 23 by omega] at h1
  exact Or.inr ⟨rfl, h1, h4⟩
theorem lnx_ex {Q : PlD} {m : Nat} {n k v d : Int} {t : PS} (h : LNX Q m n k v t) (n0 : 1 ≤ n ∧ n ≤ 23) (hd : d = pD Q (lnC t (n - 1).toNat)) : (∃ o, o < pN Q ∧ NXC Q (23 - n).toNat (lnC t (n - 1).toNat) k.toNat (v - d) o) ∧ lnC t (n - 1).toNat < pN Q ∧ 0 ≤ k ∧ k ≤ (m : Int) := by
  obtain ⟨h1, h2, h3, h4⟩ := h
  have w := lnq_w (n - 1).toNat (by omega) h1
  have hkN : k.toNat = kFp (lnC t) (iI t 35).toNat (n - 1).toNat := by omega
  rw [← hkN, show 23 - (n - 1).toNat = (23 - n).toNat + 1 by omega] at w
  have x := nx_ex w.2.1 w.1
  rw [show (24 - n).toNat = (23 - n).toNat + 1 by omega] at h3
  rw [h3, hd]
  exact ⟨x, w.2.1, by omega, by omega⟩
/-- no configuration below c comes next -/
def NXN (Q : PlD) (r c k : Nat) (v : Int) (n : Int) : Prop := ∀ o : Nat, (o : Int) < n → ¬ NXC Q r c k v o
theorem nxn_0 {Q : PlD} {r c k : Nat} {v : Int} : NXN Q r c k v 0 := fun o ho => absurd ho (by omega)
theorem nxn_up {Q : PlD} {r c k : Nat} {v n : Int} (h : NXN Q r c k v n) (n0 : 0 ≤ n) (hn : ¬ NXC Q r c k v n.toNat) : NXN Q r c k v (n + 1) := fun o ho => by
  by_cases e : o = n.toNat
  · subst e; exact hn
  · exact h o (nx_lt n0 e ho)
theorem nxn_e {Q : PlD} {r c k : Nat} {v n : Int} (h : NXN Q r c k v n) (hn : (pN Q : Int) ≤ n) (hx : ∃ o, o < pN Q ∧ NXC Q r c k v o) : False := by
  obtain ⟨o, o1, o2⟩ := hx
  exact h o (by omega) o2
theorem jnd_l {Q : PlD} {n d : Int} {t : PS} (h : JND Q t) (hn : lnC t n.toNat < pN Q) (hd : d = iC t 47 (iC t 51 n.toNat).toNat) : d = pD Q (lnC t n.toNat) := hd.trans (h _ hn)
/-- what is asked of a plan: pairs, changes, a quarter's configuration -/
def PLA (Q : PlD) (m : Nat) (w e : Int) : Prop := (e = -1 ∧ NOP Q m) ∨ ∃ (L : Nat → Nat) (k : Nat), LNQ Q m L k 23 ∧ ((w = -1 ∧ e = wP Q 23 (L 0) k) ∨ (w = -2 ∧ e = (k : Int)) ∨ (0 ≤ w ∧ w ≤ 23 ∧ e = (L w.toNat : Int)))
theorem pla_eq {Q : PlD} {m : Nat} {w e e' : Int} (w0 : -2 ≤ w ∧ w ≤ 23) (a : PLA Q m w e) (b : PLA Q m w e') : e = e' := by
  rcases a with ⟨a1, a2⟩ | ⟨L, k, a1, a2⟩
  · rcases b with ⟨b1, _⟩ | ⟨L', k', b1, _⟩
    · exact a1.trans b1.symm
    · exact (bspl_no b1.1 a2).elim
  · rcases b with ⟨_, b2⟩ | ⟨L', k', b1, b2⟩
    · exact (bspl_no a1.1 b2).elim
    · obtain ⟨e1, e2⟩ := lnq_un a1.1 b1.1 23 a1 b1
      have z0 := e2 0 (by decide)
      rw [← z0, ← e1] at b2
      by_cases h : 0 ≤ w
      · have z := e2 w.toNat (by omega)
        rw [← z] at b2
        omega
      · have hL : ∀ x : Int, ¬ (0 ≤ w ∧ w ≤ 23 ∧ x = x) := fun x q => h q.1
        omega
/-! the model's -/
def MFX (Q : PlD) (m : Nat) (q c k : Int) (t : PS) : Prop := ∀ q' c' k' : Nat, q' < 24 → c' < pN Q → k' ≤ m → (q < (q' : Int) ∨ (q = (q' : Int) ∧ ((c' : Int) < c ∨ ((c' : Int) = c ∧ (k' : Int) < k)))) → iC t (245 + 6 * q' + c') k' = mP Q (23 - q') c' k'
theorem mfx_0 {Q : PlD} {m : Nat} {t : PS} : MFX Q m 23 0 0 t := fun q' c' k' h1 h2 h3 h4 => absurd h4 (by omega)
theorem mfx_s {Q : PlD} {m : Nat} {q c k : Int} {t u : PS} (h : MFX Q m q c k t) (n6 : pN Q ≤ 6) (e : ∀ j i : Nat, j < 150 → iC u (245 + j) i = iC t (245 + j) i) : MFX Q m q c k u := fun q' c' k' h1 h2 h3 h4 => by
  have z := e (6 * q' + c') k' (by omega)
  rw [show 245 + (6 * q' + c') = 245 + 6 * q' + c' by omega] at z
  exact z.trans (h q' c' k' h1 h2 h3 h4)
theorem mfx_c {Q : PlD} {m : Nat} {q c k : Int} {t : PS} (h : MFX Q m q c k t) (hk : (m : Int) < k) : MFX Q m q (c + 1) 0 t := fun q' c' k' h1 h2 h3 h4 => h q' c' k' h1 h2 h3 (by omega)
theorem mfx_q {Q : PlD} {m : Nat} {q c k : Int} {t : PS} (h : MFX Q m q c k t) (hc : (pN Q : Int) ≤ c) : MFX Q m (q + (-1)) 0 0 t := fun q' c' k' h1 h2 h3 h4 => h q' c' k' h1 h2 h3 (by omega)
theorem mfx_up {Q : PlD} {m : Nat} {q c k v : Int} {t u : PS} (h : MFX Q m q c k t) (n6 : pN Q ≤ 6) (q0 : 0 ≤ q ∧ q ≤ 23) (c0 : 0 ≤ c ∧ c ≤ 5) (k0 : 0 ≤ k) (rv : rng v) (hu : u = uC t (245 + 6 * q.toNat + c.toNat) k.toNat (Int32.ofInt v)) (hv : v = mP Q (23 - q).toNat c.toNat k.toNat) : MFX Q m q c (k + 1) u := fun q' c' k' h1 h2 h3 h4 => by
  by_cases e : 245 + 6 * q' + c' = 245 + 6 * q.toNat + c.toNat
  · have e1 : q' = q.toNat := by omega
    have e2 : c' = c.toNat := by omega
    by_cases f : k' = k.toNat
    · rw [hu, e, f, iC_u rv, hv, e1, e2, show (23 - q).toNat = 23 - q.toNat by omega]
    · rw [hu, e, iC_n f, ← e]
      exact h q' c' k' h1 h2 h3 (by omega)
  · rw [hu, iC_a e]
    exact h q' c' k' h1 h2 h3 (by omega)
theorem mfx_at {Q : PlD} {m : Nat} {q c k r o l : Int} {t : PS} (h : MFX Q m q c k t) (r0 : q < r ∧ 0 ≤ r ∧ r ≤ 23) (o0 : 0 ≤ o ∧ o < (pN Q : Int)) (l0 : 0 ≤ l ∧ l ≤ (m : Int)) : iC t (245 + 6 * r.toNat + o.toNat) l.toNat = mP Q (23 - r).toNat o.toNat l.toNat := by
  have z := h r.toNat o.toNat l.toNat (by omega) (by omega) (by omega) (Or.inl (by omega))
  rw [show 23 - r.toNat = (23 - r).toNat by omega] at z
  exact z
theorem mth_y {f : Nat → Int} {c j : Nat} {a : Int} (h : j = c) : mth f c (j + 1) a = mth f c j a := if_pos h
theorem mth_n {f : Nat → Int} {c j : Nat} {a b : Int} (h : j ≠ c) (hb : (f j ≠ -1 ∧ (mth f c j a = -1 ∨ f j + 1 < mth f c j a) ∧ b = f j + 1) ∨ (¬ (f j ≠ -1 ∧ (mth f c j a = -1 ∨ f j + 1 < mth f c j a)) ∧ b = mth f c j a)) : b = mth f c (j + 1) a := by
  have z : mth f c (j + 1) a = if f j ≠ -1 ∧ (mth f c j a = -1 ∨ f j + 1 < mth f c j a) then f j + 1 else mth f c j a := if_neg h
  rw [z]
  rcases hb with ⟨b1, b2, b3⟩ | ⟨b1, b2⟩
  · rw [if_pos ⟨b1, b2⟩]; exact b3
  · rw [if_neg b1]; exact b2
/-- the best so far at a quarter: where it can be, or not -/
def MBS (Q : PlD) (q c l b j : Int) : Prop := (¬ pC Q c.toNat q.toNat ∧ b = -1) ∨ (pC Q c.toNat q.toNat ∧ ((q = 23 ∧ b = 0) ∨ (q ≤ 22 ∧ (l = 0 ∨ pB Q (q + 1).toNat) ∧ b = mP Q (22 - q).toNat c.toNat l.toNat) ∨ (q ≤ 22 ∧ (l ≠ 0 ∧ ¬ pB Q (q + 1).toNat) ∧ b = mth (fun o => mP Q (22 - q).toNat o (l.toNat - 1)) c.toNat j.toNat (mP Q (22 - q).toNat c.toNat l.toNat))))
theorem mbs_r {Q : PlD} {q c l b j : Int} (hD : nDP Q) (h : MBS Q q c l b j) : -1 ≤ b := by
  rcases h with ⟨_, h⟩ | ⟨_, ⟨_, h⟩ | ⟨_, _, h⟩ | ⟨_, _, h⟩⟩
  · omega
  · omega
  · rw [h]; exact m_lo hD _ _ _
  · rw [h]
    have z := mth_q (f := fun o => mP Q (22 - q).toNat o (l.toNat - 1)) (c := c.toNat) (m_lo hD (22 - q).toNat c.toNat l.toNat) (fun i => m_lo hD _ _ _) j.toNat
    rcases z with ⟨z, _⟩ | ⟨z, _⟩
    · rw [z]; exact Int.le_refl _
    · exact Int.le_trans (by decide) z
/-- how great it may be -/
theorem m_hi {Q : PlD} (hD : nDP Q) {r c l : Nat} (hr : r ≤ 23) (hl : l ≤ 23) : mP Q r c l ≤ 20000 := by
  rcases m_w hD r c l hr hl with ⟨h, _⟩ | ⟨⟨k, k1, k2, k3⟩, _⟩
  · omega
  · have s := w_sm hD r c k hr
    unfold smP at s
    omega
theorem mbs_hi {Q : PlD} {q c l b j : Int} (hD : nDP Q) (h : MBS Q q c l b j) (q0 : 0 ≤ q) (l0 : l ≤ 23) : b ≤ 20001 := by
  rcases h with ⟨_, h⟩ | ⟨_, ⟨_, h⟩ | ⟨_, _, h⟩ | ⟨_, _, h⟩⟩
  · omega
  · omega
  · have := m_hi hD (r := (22 - q).toNat) (c := c.toNat) (l := l.toNat) (by omega) (by omega)
    omega
  · have a := m_hi hD (r := (22 - q).toNat) (c := c.toNat) (l := l.toNat) (by omega) (by omega)
    have z := mth_q (f := fun o => mP Q (22 - q).toNat o (l.toNat - 1)) (c := c.toNat) (m_lo hD (22 - q).toNat c.toNat l.toNat) (fun i => m_lo hD _ _ _) j.toNat
    rw [← h] at z
    rcases z with ⟨z, _⟩ | ⟨_, z | ⟨i, _, _, _, z⟩, _⟩
    · omega
    · omega
    · have w := m_hi hD (r := (22 - q).toNat) (c := i) (l := l.toNat - 1) (by omega) (by omega)
      replace z : b = mP Q (22 - q).toNat i (l.toNat - 1) + 1 := z
      omega
theorem mbs_end {Q : PlD} {q c l b j v d : Int} (q0 : 0 ≤ q ∧ q ≤ 23) (l0 : 0 ≤ l) (hD : nDP Q) (h : MBS Q q c l b j) (hj : j = (pN Q : Int) ∨ l = 0 ∨ q = 23 ∨ b = -1 ∧ ¬ pC Q c.toNat q.toNat ∨ pB Q (q + 1).toNat) (hd : pC Q c.toNat q.toNat → d = pD Q c.toNat) (hv : ((¬ pC Q c.toNat q.toNat ∨ b = -1) ∧ v = -1) ∨ (pC Q c.toNat q.toNat ∧ b ≠ -1 ∧ v = b + 100 * d)) : v = mP Q (23 - q).toNat c.toNat l.toNat := by
  by_cases e : q = 23
  · rw [show (23 - q).toNat = 0 by omega]
    show v = itP (pC Q c.toNat 23) (tm2 (pD Q c.toNat) 0) (-1)
    rw [show q.toNat = 23 by omega] at hd hv
    by_cases p : pC Q c.toNat 23
    · rw [itp_t p, ← hd p]
      have b0 : b = 0 := by
        rcases h with ⟨h, _⟩ | ⟨_, ⟨_, h⟩ | ⟨h, _⟩ | ⟨h, _⟩⟩
        · exact absurd (show pC Q c.toNat q.toNat by rw [show q.toNat = 23 by omega]; exact p) h
        · exact h
        · omega
        · omega
      show v = if (0 : Int) = -1 then -1 else 0 + 100 * d
      rw [if_neg (by decide)]
      rcases hv with ⟨w | w, _⟩ | ⟨_, _, w⟩
      · exact absurd p w
      · omega
      · omega
    · rw [itp_f p]
      rcases hv with ⟨_, w⟩ | ⟨w, _⟩
      · exact w
      · exact absurd w p
  · rw [show (23 - q).toNat = (22 - q).toNat + 1 by omega]
    show v = itP (pC Q c.toNat (22 - (22 - q).toNat)) (tm2 (pD Q c.toNat) (mbP Q (mP Q (22 - q).toNat) (22 - q).toNat c.toNat l.toNat)) (-1)
    rw [show 22 - (22 - q).toNat = q.toNat by omega]
    by_cases p : pC Q c.toNat q.toNat
    · rw [itp_t p, ← hd p]
      have eb : b = mbP Q (mP Q (22 - q).toNat) (22 - q).toNat c.toNat l.toNat := by
        unfold mbP
        rw [show 23 - (22 - q).toNat = (q + 1).toNat by omega]
        rcases h with ⟨h, _⟩ | ⟨_, ⟨h, _⟩ | ⟨_, g, h⟩ | ⟨_, g, h⟩⟩
        · exact absurd p h
        · exact absurd h e
        · rcases g with g | g
          · rw [if_pos (show l.toNat = 0 by omega)]; exact h
          · by_cases z : l.toNat = 0
            · rw [if_pos z]; exact h
            · rw [if_neg z, itp_t g]; exact h
        · rw [if_neg (show ¬ l.toNat = 0 by omega), itp_f g.2]
          rcases hj with j1 | j1 | j1 | j1 | j1
          · rw [show j.toNat = pN Q by omega] at h; exact h
          · exact absurd j1 g.1
          · exact absurd j1 e
          · exact absurd p j1.2
          · exact absurd j1 g.2
      rw [← eb]
      unfold tm2
      rcases hv with ⟨w | w, w2⟩ | ⟨_, w, w2⟩
      · exact absurd p w
      · rw [if_pos w]; exact w2
      · rw [if_neg w]; exact w2
    · rw [itp_f p]
      rcases hv with ⟨_, w⟩ | ⟨w, _⟩
      · exact w
      · exact absurd w p
/-- the model tells the first one -/
def MBO (Q : PlD) (m : Nat) (n b : Int) : Prop := (b = -1 ∧ ∀ c : Nat, (c : Int) < n → mP Q 23 c m = -1) ∨ ((0 ≤ b ∧ b < n) ∧ mP Q 23 b.toNat m ≠ -1 ∧ ∀ c : Nat, (c : Int) < n → mP Q 23 c m = -1 ∨ mP Q 23 b.toNat m < mP Q 23 c m ∨ (mP Q 23 b.toNat m = mP Q 23 c m ∧ b ≤ (c : Int)))
theorem mbo_0 {Q : PlD} {m : Nat} : MBO Q m 0 (-1) := Or.inl ⟨rfl, fun c hc => absurd hc (by omega)⟩
theorem mbo_up {Q : PlD} {m : Nat} {n b b' : Int} (h : MBO Q m n b) (n0 : 0 ≤ n) (hb : (mP Q 23 n.toNat m ≠ -1 ∧ (b = -1 ∨ mP Q 23 n.toNat m < mP Q 23 b.toNat m) ∧ b' = n) ∨ ((mP Q 23 n.toNat m = -1 ∨ (b ≠ -1 ∧ mP Q 23 b.toNat m ≤ mP Q 23 n.toNat m)) ∧ b' = b)) : MBO Q m (n + 1) b' := by
  rcases hb with ⟨b1, b2, b3⟩ | ⟨b1, b2⟩
  · subst b3
    refine Or.inr ⟨by omega, b1, fun c hc => ?_⟩
    by_cases e : c = b'.toNat
    · subst e; exact Or.inr (Or.inr ⟨rfl, by omega⟩)
    · rcases h with ⟨h1, h2⟩ | ⟨h1, h2, h3⟩
      · exact Or.inl (h2 c (nx_lt n0 e hc))
      · have z := h3 c (nx_lt n0 e hc)
        omega
  · subst b2
    rcases h with ⟨h1, h2⟩ | ⟨h1, h2, h3⟩
    · refine Or.inl ⟨h1, fun c hc => ?_⟩
      by_cases e : c = n.toNat
      · subst e; exact b1.elim id (fun z => absurd h1 z.1)
      · exact h2 c (nx_lt n0 e hc)
    · refine Or.inr ⟨by omega, h2, fun c hc => ?_⟩
      by_cases e : c = n.toNat
      · subst e; omega
      · exact h3 c (nx_lt n0 e hc)
theorem mbo_no {Q : PlD} {m : Nat} {n : Int} (hD : nDP Q) (hm : m ≤ 23) (h : MBO Q m n (-1)) (hn : n = (pN Q : Int)) : NOP Q m := fun c k h1 h2 => by
  rcases h with ⟨_, h⟩ | ⟨h, _⟩
  · rcases m_w hD 23 c m (Nat.le_refl _) hm with ⟨_, z⟩ | ⟨⟨k', k1, k2, k3⟩, _⟩
    · exact z k h2
    · have a := h c (by omega)
      have s := w_sm hD 23 c k' (Nat.le_refl _)
      unfold smP at s
      omega
  · omega
theorem mbo_b {Q : PlD} {m : Nat} {n b : Int} (hD : nDP Q) (hm : m ≤ 23) (h : MBO Q m n b) (hn : n = (pN Q : Int)) (hb : b ≠ -1) : ∃ k, BSPl Q m b.toNat k ∧ mP Q 23 b.toNat m = 100 * wP Q 23 b.toNat k + (k : Int) := by
  rcases h with ⟨h, _⟩ | ⟨h1, h2, h3⟩
  · exact absurd h hb
  · rcases m_w hD 23 b.toNat m (Nat.le_refl _) hm with ⟨z, _⟩ | ⟨⟨k, k1, k2, k3⟩, _⟩
    · exact absurd z h2
    · refine ⟨k, ⟨by omega, k1, k2, fun c' k' c1 kk => ?_⟩, k3⟩
      have s' := w_sm hD 23 c' k' (Nat.le_refl _)
      unfold smP at s'
      by_cases w : wP Q 23 c' k' < 1000000
      · have a := h3 c' (by omega)
        rcases m_w hD 23 c' m (Nat.le_refl _) hm with ⟨_, z⟩ | ⟨_, z⟩
        · have := z k' kk; omega
        · have b1 := z k' kk w
          rcases m_w hD 23 c' m (Nat.le_refl _) hm with ⟨y, _⟩ | ⟨⟨k9, _, k8, k7⟩, _⟩
          · have := z k' kk w
            rcases m_w hD 23 c' m (Nat.le_refl _) hm with ⟨_, y2⟩ | ⟨⟨k9, _, k8, k7⟩, _⟩
            · have := y2 k' kk; omega
            · have s9 := w_sm hD 23 c' k9 (Nat.le_refl _)
              unfold smP at s9
              omega
          · have s9 := w_sm hD 23 c' k9 (Nat.le_refl _)
            unfold smP at s9
            omega
      · exact Or.inl (by omega)
def LMX (Q : PlD) (m : Nat) (n b l : Int) (t : PS) : Prop := ∃ (L : Nat → Nat) (k : Nat), LNQ Q m L k n.toNat ∧ (∀ j : Nat, (j : Int) < n → iC t 395 j = (L j : Int)) ∧ (∀ j : Nat, (j : Int) < n → iC t 396 j = pD Q (L j)) ∧ b = (L n.toNat : Int) ∧ (kFp L k n.toNat ≤ l.toNat ∧ 0 ≤ l ∧ l ≤ 23) ∧ mP Q (23 - n).toNat (L n.toNat) l.toNat = 100 * wP Q (23 - n).toNat (L n.toNat) (kFp L k n.toNat) + (kFp L k n.toNat : Int)
theorem lmx_0 {Q : PlD} {m k : Nat} {b : Int} {t : PS} (h : BSPl Q m b.toNat k) (hm : m ≤ 23) (b0 : 0 ≤ b) (he : mP Q 23 b.toNat m = 100 * wP Q 23 b.toNat k + (k : Int)) : LMX Q m 0 b (m : Int) t := ⟨fun _ => b.toNat, k, ⟨h, fun j hj => absurd hj (Nat.not_lt_zero _)⟩, fun j hj => absurd hj (by omega), fun j hj => absurd hj (by omega), (by show b = ((b.toNat : Nat) : Int); omega), ⟨by show k ≤ ((m : Int)).toNat; have := h.2.1; omega, by omega, by omega⟩, by
  show mP Q 23 b.toNat ((m : Int)).toNat = _
  rw [show ((m : Int)).toNat = m by omega]
  exact he⟩
/-- it goes on with o -/
theorem lmx_up {Q : PlD} {m : Nat} (hD : nDP Q) {n b l o l' d : Int} {t u : PS} (h : LMX Q m n b l t) (n0 : 0 ≤ n ∧ n ≤ 22) (hp : ∀ j : Nat, (j : Int) < n + 1 → iC u 395 j = if (j : Int) = n then b else iC t 395 j) (hn : ∀ j : Nat, (j : Int) < n + 1 → iC u 396 j = if (j : Int) = n then d else iC t 396 j) (hd : d = pD Q b.toNat) (o0 : 0 ≤ o ∧ o < (pN Q : Int)) (ho : NXM Q (22 - n).toNat b.toNat l.toNat (mP Q (23 - n).toNat b.toNat l.toNat - 100 * pD Q b.toNat) o.toNat) (hf : ∀ i : Nat, (i : Int) < o → ¬ NXM Q (22 - n).toNat b.toNat l.toNat (mP Q (23 - n).toNat b.toNat l.toNat - 100 * pD Q b.toNat) i) (hl : (o = b ∧ l' = l) ∨ (o ≠ b ∧ l' = l - 1)) : LMX Q m (n + 1) o l' u := by
  obtain ⟨L, k, h1, h2, h3, h4, ⟨h5, h6, h7⟩, h8⟩ := h
  obtain ⟨p, hp'⟩ : ∃ p : Nat, p = n.toNat := ⟨_, rfl⟩
  have ep : (p : Int) = n := by omega
  rw [← hp'] at h1 h4 h5 h8
  have eb : b.toNat = L p := by omega
  have w := lnq_w p (by omega) h1
  rw [show (23 - n).toNat = 22 - p + 1 by omega] at h8 ho hf
  rw [show (22 - n).toNat = 22 - p by omega] at ho hf
  rw [show 23 - p = 22 - p + 1 by omega] at w
  rw [eb] at ho hf hd
  have sm := fun {o : Nat} (h : o < pN Q) => nx_same hD (r := 22 - p) (c := L p) (k := kFp L k p) (l := l.toNat) (by omega) h5 (by omega) w.1 h8 (o := o) h
  have L' : Nat → Nat := fun j => if j = p + 1 then o.toNat else L j
  obtain ⟨L', hL'⟩ : ∃ L' : Nat → Nat, L' = fun j => if j = p + 1 then o.toNat else L j := ⟨_, rfl⟩
  have l1 : L' (p + 1) = o.toNat := by rw [hL']; exact if_pos rfl
  have l2 : ∀ j, j ≤ p → L j = L' j := fun j hj => by rw [hL']; exact (if_neg (by omega)).symm
  have kc := kf_c (k := k) p l2
  have x1 : NXC Q (22 - p) (L p) (kFp L k p) (wP Q (22 - p + 1) (L p) (kFp L k p) - pD Q (L p)) o.toNat := (sm (by omega)).mpr ho
  have hl2 : LNQ Q m L' k (p + 1) := by
    refine lnq_up (lnq_c h1 l2) (by rw [l1]; omega) ?_ ?_
    · rw [l1, ← l2 p (Nat.le_refl _), ← kc, show 23 - p = 22 - p + 1 by omega]; exact x1
    · intro i hi
      rw [l1] at hi
      rw [← l2 p (Nat.le_refl _), ← kc, show 23 - p = 22 - p + 1 by omega]
      exact fun z => hf i (by omega) ((sm (by omega)).mp z)
  have kn : kFp L' k (p + 1) = if L' (p + 1) = L' p then kFp L' k p else kFp L' k p - 1 := rfl
  rw [l1, ← l2 p (Nat.le_refl _), ← kc] at kn
  have y1 := nx_w x1
  have y2 := nx_m ho
  rw [← kn] at y1
  refine ⟨L', k, by rw [show (n + 1).toNat = p + 1 by omega]; exact hl2, fun j hj => ?_, fun j hj => ?_, by rw [show (n + 1).toNat = p + 1 by omega, l1]; omega, ?_, ?_⟩
  · rw [hp j hj]
    by_cases e : (j : Int) = n
    · rw [if_pos e, ← l2 j (by omega), h4, show j = p by omega]
    · rw [if_neg e, h2 j (by omega), l2 j (by omega)]
  · rw [hn j hj]
    by_cases e : (j : Int) = n
    · rw [if_pos e, ← l2 j (by omega), hd, show j = p by omega]
    · rw [if_neg e, h3 j (by omega), l2 j (by omega)]
  · rw [show (n + 1).toNat = p + 1 by omega, kn]
    rcases x1 with ⟨z, _⟩ | ⟨z, z2, _⟩
    · rw [if_pos z]
      omega
    · rw [if_neg z]
      omega
  · rw [show (n + 1).toNat = p + 1 by omega, l1, show (23 - (n + 1)).toNat = 22 - p by omega, y1]
    rcases x1 with ⟨z, _⟩ | ⟨z, z2, _⟩
    · rw [if_pos z, if_pos z] at y2
      rw [if_pos z] at kn
      rw [show l'.toNat = l.toNat by omega, y2, kn]
      omega
    · rw [if_neg z, if_neg z] at y2
      rw [if_neg z] at kn
      rw [show l'.toNat = l.toNat - 1 by omega, y2, kn]
      omega
/-- there is one to go on with -/
theorem lmx_ex {Q : PlD} {m : Nat} (hD : nDP Q) {n b l : Int} {t : PS} (h : LMX Q m n b l t) (n0 : 0 ≤ n ∧ n ≤ 22) : ∃ o, o < pN Q ∧ NXM Q (22 - n).toNat b.toNat l.toNat (mP Q (23 - n).toNat b.toNat l.toNat - 100 * pD Q b.toNat) o := by
  obtain ⟨L, k, h1, h2, h3, h4, ⟨h5, h6, h7⟩, h8⟩ := h
  have eb : b.toNat = L n.toNat := by omega
  have w := lnq_w n.toNat (by omega) h1
  rw [show (23 - n).toNat = (22 - n).toNat + 1 by omega] at h8 ⊢
  rw [show 23 - n.toNat = (22 - n).toNat + 1 by omega] at w
  rw [eb]
  obtain ⟨o, o1, o2⟩ := nx_ex w.2.1 w.1
  exact ⟨o, o1, (nx_same hD (by omega) h5 (by omega) w.1 h8 o1).mp o2⟩
theorem lmx_b {Q : PlD} {m : Nat} {n b l : Int} {t : PS} (h : LMX Q m n b l t) (n0 : 0 ≤ n ∧ n ≤ 23) : (0 ≤ b ∧ b < (pN Q : Int)) ∧ (0 ≤ l ∧ l ≤ 23) ∧ pC Q b.toNat n.toNat := by
  obtain ⟨L, k, h1, h2, h3, h4, ⟨h5, h6, h7⟩, h8⟩ := h
  have w := lnq_w n.toNat (by omega) h1
  have c := w_can (r := 23 - n.toNat) (by omega) w.1
  rw [show 23 - (23 - n.toNat) = n.toNat by omega] at c
  rw [show b.toNat = L n.toNat by omega]
  exact ⟨by omega, by omega, c⟩
/-- the model's plan is told -/
def PLT (Q : PlD) (m : Nat) (t : PS) (e : Int) : Prop := (e = 0 ∧ NOP Q m) ∨ (e = 1 ∧ ∃ (L : Nat → Nat) (k : Nat), LNQ Q m L k 23 ∧ ∀ j : Nat, j < 24 → iC t 395 j = (L j : Int) ∧ iC t 396 j = pD Q (L j))
theorem lmx_e {Q : PlD} {m : Nat} {b l d : Int} {t u : PS} {n : Int} (h : LMX Q m n b l t) (n0 : n = 23) (hp : ∀ j : Nat, (j : Int) < n + 1 → iC u 395 j = if (j : Int) = n then b else iC t 395 j) (hn : ∀ j : Nat, (j : Int) < n + 1 → iC u 396 j = if (j : Int) = n then d else iC t 396 j) (hd : d = pD Q b.toNat) : PLT Q m u 1 := by
  obtain ⟨L, k, h1, h2, h3, h4, _, _⟩ := h
  refine Or.inr ⟨rfl, L, k, by rw [show n.toNat = 23 by omega] at h1; exact h1, fun j hj => ⟨?_, ?_⟩⟩
  · rw [hp j (by omega)]
    by_cases e : (j : Int) = n
    · rw [if_pos e, h4, show j = n.toNat by omega]
    · rw [if_neg e, h2 j (by omega)]
  · rw [hn j (by omega)]
    by_cases e : (j : Int) = n
    · rw [if_pos e, hd, show b.toNat = L n.toNat by omega, show j = n.toNat by omega]
    · rw [if_neg e, h3 j (by omega)]
/-- pairs and changes added up, as the model does -/
def SCQ (t : PS) (n p h : Int) : Prop := p = sm (fun j => iC t 396 j) n.toNat ∧ h = sm (fun j => if j = 0 ∨ iC t 395 j = iC t 395 (j - 1) then 0 else 1) n.toNat
theorem scq_sum {Q : PlD} {L : Nat → Nat} {t : PS} (h : ∀ j : Nat, j < 24 → iC t 395 j = (L j : Int) ∧ iC t 396 j = pD Q (L j)) : ∀ n : Nat, n ≤ 24 → sm (fun j => iC t 396 j) n = spF Q L n
  | 0, _ => rfl
  | n + 1, hn => by
    show sm _ n + iC t 396 n = spF Q L n + pD Q (L n)
    rw [scq_sum h n (by omega), (h n (by omega)).2]
theorem scq_chg {Q : PlD} {L : Nat → Nat} {t : PS} (h : ∀ j : Nat, j < 24 → iC t 395 j = (L j : Int) ∧ iC t 396 j = pD Q (L j)) : ∀ n : Nat, n ≤ 23 → sm (fun j => if j = 0 ∨ iC t 395 j = iC t 395 (j - 1) then 0 else 1) (n + 1) = chF L n
  | 0, _ => rfl
  | n + 1, hn => by
    show sm _ (n + 1) + (if n + 1 = 0 ∨ iC t 395 (n + 1) = iC t 395 (n + 1 - 1) then 0 else 1) = chF L n + (if L (n + 1) = L n then 0 else 1)
    rw [scq_chg h n (by omega), show n + 1 - 1 = n by omega, (h (n + 1) (by omega)).1, (h n (by omega)).1]
    by_cases e : L (n + 1) = L n
    · rw [if_pos e, if_pos (Or.inr (by rw [e]))]
    · rw [if_neg e, if_neg (by omega)]
theorem plt_a {Q : PlD} {m : Nat} {t : PS} {w e p c : Int} (h : PLT Q m t 1) (hs : SCQ t 24 p c) (w0 : -2 ≤ w ∧ w ≤ 23) (he : (w = -1 ∧ e = p) ∨ (w = -2 ∧ e = c) ∨ (0 ≤ w ∧ e = iC t 395 w.toNat)) : PLA Q m w e := by
  rcases h with ⟨h, _⟩ | ⟨_, L, k, h1, h2⟩
  · exact absurd h (by decide)
  · have a := lnq_end h1
    have s1 := scq_sum h2 24 (Nat.le_refl _)
    have s2 := scq_chg h2 23 (Nat.le_refl _)
    obtain ⟨q1, q2⟩ := hs
    replace q1 : p = sm (fun j => iC t 396 j) 24 := q1
    replace q2 : c = sm (fun j => if j = 0 ∨ iC t 395 j = iC t 395 (j - 1) then 0 else 1) (23 + 1) := q2
    rw [s1, a.1] at q1
    rw [s2, a.2] at q2
    refine Or.inr ⟨L, k, h1, ?_⟩
    rcases he with ⟨e1, e2⟩ | ⟨e1, e2⟩ | ⟨e1, e2⟩
    · exact Or.inl ⟨e1, e2.trans q1⟩
    · exact Or.inr (Or.inl ⟨e1, e2.trans q2⟩)
    · exact Or.inr (Or.inr ⟨e1, w0.2, e2.trans (h2 _ (by omega)).1⟩)
theorem ple_a {Q : PlD} {m : Nat} {t : PS} {w e : Int} (h : PLE Q m t 1) (c0 : 0 ≤ iI t 35) (l0 : ∀ j : Nat, j < 24 → 0 ≤ iC t 51 j) (w0 : -2 ≤ w ∧ w ≤ 23) (he : (w = -1 ∧ e = iI t 34) ∨ (w = -2 ∧ e = iI t 35) ∨ (0 ≤ w ∧ e = iC t 51 w.toNat)) : PLA Q m w e := by
  rcases h with ⟨h, _⟩ | ⟨_, h1, h2⟩
  · exact absurd h (by decide)
  · refine Or.inr ⟨lnC t, (iI t 35).toNat, h1, ?_⟩
    rcases he with ⟨e1, e2⟩ | ⟨e1, e2⟩ | ⟨e1, e2⟩
    · exact Or.inl ⟨e1, e2.trans h2⟩
    · exact Or.inr (Or.inl ⟨e1, by omega⟩)
    · have z := l0 w.toNat (by omega)
      exact Or.inr (Or.inr ⟨e1, w0.2, by show e = (((iC t 51 w.toNat).toNat : Nat) : Int); omega⟩)
/-! small things for the walks -/
theorem fil_up {a : Nat} {x n : Int} {t u : PS} (h : ∀ q : Nat, (q : Int) < n → iC t a q = x) (n0 : 0 ≤ n) (hu : UPD a n x t u) : ∀ q : Nat, (q : Int) < n + 1 → iC u a q = x := fun q hq => by
  by_cases e : q = n.toNat
  · rw [e]; exact hu.1
  · rw [hu.2 q e]; exact h q (nx_lt n0 e hq)
theorem jda_d {U : AirD} {J : List Int → Prop} {n b c : Int} {D f lim : Nat → Int} {t : PS} (h : JDA U J D f lim n t) (c0 : 0 ≤ c ∧ c < n) (c6 : c ≤ 5) : iC t 47 c.toNat = pD (QD U J n b D f lim) c.toNat ∧ 0 ≤ iC t 47 c.toNat ∧ iC t 47 c.toNat ≤ 8 := by
  have z := (h c.toNat (by omega)).1
  have w : pD (QD U J n b D f lim) c.toNat = npG (D c.toNat) f 8 := qd_d (by omega)
  have r := npg_r (d := D c.toNat) (f := f) 8
  rw [w]
  exact ⟨z, by rw [z]; exact r.1, by rw [z]; exact r.2⟩
def FWA (Q : PlD) (m : Nat) (t : PS) : Prop := ∀ q : Nat, q < 24 → FWB Q m (q : Int) t
theorem fwa_of {Q : PlD} {m : Nat} {q c k : Int} {t : PS} (h : FWX Q m q c k t) (hq : q = -1) : FWA Q m t := fun r hr => fwx_b h (by omega) (by omega)
theorem fwa_at {Q : PlD} {m : Nat} {q c k e : Int} {t : PS} (h : FWA Q m t) (q0 : 0 ≤ q ∧ q ≤ 23) (c0 : 0 ≤ c ∧ c < (pN Q : Int)) (k0 : 0 ≤ k ∧ k ≤ (m : Int)) (he : e = (q * 6 + c) * 24 + k) : iC t 50 e.toNat = wP Q (23 - q).toNat c.toNat k.toNat := by
  have z := h q.toNat (by omega)
  rw [show ((q.toNat : Nat) : Int) = q by omega] at z
  exact fwb_at z c0 k0 he
theorem fwa_s {Q : PlD} {m : Nat} {t u : PS} (h : FWA Q m t) (e : SAM 50 t u) : FWA Q m u := fun q hq => fwb_s (h q hq) e
theorem lnx_b {Q : PlD} {m : Nat} {n k v : Int} {t : PS} (h : LNX Q m n k v t) (hD : nDP Q) (n0 : 1 ≤ n ∧ n ≤ 24) : lnC t (n - 1).toNat < pN Q ∧ 0 ≤ k ∧ k ≤ (m : Int) ∧ 0 ≤ v ∧ v ≤ 192 := by
  obtain ⟨h1, h2, h3, h4⟩ := h
  have w := lnq_w (n - 1).toNat (by omega) h1
  have hkN : k.toNat = kFp (lnC t) (iI t 35).toNat (n - 1).toNat := by omega
  rw [← hkN, show 23 - (n - 1).toNat = (24 - n).toNat by omega, ← h3] at w
  have s := w_sm hD (24 - n).toNat (lnC t (n - 1).toNat) k.toNat (by omega)
  rw [← h3] at s
  unfold smP at s
  exact ⟨w.2.1, by omega, by omega, by omega, by omega⟩
theorem nxc_y1 {Q : PlD} {r c k o : Nat} {v w : Int} (ho : o = c) (hw : w = wP Q r o k) (he : w = v) : NXC Q r c k v o := Or.inl ⟨ho, by rw [← ho, ← hw]; exact he⟩
theorem nxc_n1 {Q : PlD} {r c k o : Nat} {v w : Int} (ho : o = c) (hw : w = wP Q r o k) (he : w ≠ v) : ¬ NXC Q r c k v o := fun z => z.elim (fun y => he (by rw [hw, ho]; exact y.2)) (fun y => y.1 ho)
theorem nxc_y2 {Q : PlD} {r c k o : Nat} {v w : Int} (ho : o ≠ c) (k1 : 1 ≤ k) (nb : ¬ pB Q (23 - r)) (hw : w = wP Q r o (k - 1)) (he : w = v) : NXC Q r c k v o := Or.inr ⟨ho, k1, nb, hw.symm.trans he⟩
theorem nxc_n2 {Q : PlD} {r c k o : Nat} {v w : Int} (ho : o ≠ c) (h : k = 0 ∨ pB Q (23 - r) ∨ (w = wP Q r o (k - 1) ∧ w ≠ v)) : ¬ NXC Q r c k v o := fun z => z.elim (fun y => ho y.1) (fun y => h.elim (fun g => absurd y.2.1 (by omega)) (fun g => g.elim (fun b => y.2.2.1 b) (fun b => b.2 (b.1.trans y.2.2.2))))
theorem nxm_y1 {Q : PlD} {r c l o : Nat} {m w : Int} (ho : o = c) (hw : w = mP Q r o l) (he : w = m) : NXM Q r c l m o := Or.inl ⟨ho, by rw [← ho, ← hw]; exact he⟩
theorem nxm_n1 {Q : PlD} {r c l o : Nat} {m w : Int} (ho : o = c) (hw : w = mP Q r o l) (he : w ≠ m) : ¬ NXM Q r c l m o := fun z => z.elim (fun y => he (by rw [hw, ho]; exact y.2)) (fun y => y.1 ho)
theorem nxm_y2 {Q : PlD} {r c l o : Nat} {m w : Int} (ho : o ≠ c) (l1 : 1 ≤ l) (nb : ¬ pB Q (23 - r)) (hw : w = mP Q r o (l - 1)) (w1 : w ≠ -1) (he : w + 1 = m) : NXM Q r c l m o := Or.inr ⟨ho, l1, nb, by rw [← hw]; exact w1, by rw [← hw]; exact he⟩
theorem nxm_n2 {Q : PlD} {r c l o : Nat} {m w : Int} (ho : o ≠ c) (h : l = 0 ∨ pB Q (23 - r) ∨ (w = mP Q r o (l - 1) ∧ (w = -1 ∨ w + 1 ≠ m))) : ¬ NXM Q r c l m o := fun z => z.elim (fun y => ho y.1) (fun y => h.elim (fun g => absurd y.2.1 (by omega)) (fun g => g.elim (fun b => y.2.2.1 b) (fun b => by
  have y4 := y.2.2.2.1
  have y5 := y.2.2.2.2
  rw [← b.1] at y4 y5
  exact b.2.elim y4 (fun q => q y5))))
def NMN (Q : PlD) (r c l : Nat) (m : Int) (n : Int) : Prop := ∀ o : Nat, (o : Int) < n → ¬ NXM Q r c l m o
theorem nmn_0 {Q : PlD} {r c l : Nat} {m : Int} : NMN Q r c l m 0 := fun o ho => absurd ho (by omega)
theorem nmn_up {Q : PlD} {r c l : Nat} {m n : Int} (h : NMN Q r c l m n) (n0 : 0 ≤ n) (hn : ¬ NXM Q r c l m n.toNat) : NMN Q r c l m (n + 1) := fun o ho => by
  by_cases e : o = n.toNat
  · subst e; exact hn
  · exact h o (nx_lt n0 e ho)
theorem nmn_lt {Q : PlD} {r c l : Nat} {m n : Int} (h : NMN Q r c l m n) (hx : ∃ o, o < pN Q ∧ NXM Q r c l m o) : n < (pN Q : Int) := by
  obtain ⟨o, o1, o2⟩ := hx
  refine Classical.byContradiction (fun z => h o (by omega) o2)
theorem ple_no {Q : PlD} {m : Nat} {t : PS} {e : Int} (h : PLE Q m t e) (he : e = 0) : NOP Q m := h.elim (fun z => z.2) (fun z => absurd (he.symm.trans z.1) (by decide))
theorem ple_1 {Q : PlD} {m : Nat} {t : PS} {e : Int} (h : PLE Q m t e) (he : e ≠ 0) : PLE Q m t 1 := h.elim (fun z => absurd z.1 he) (fun z => Or.inr ⟨rfl, z.2⟩)
theorem plt_no {Q : PlD} {m : Nat} {t : PS} {e : Int} (h : PLT Q m t e) (he : e = 0) : NOP Q m := h.elim (fun z => z.2) (fun z => absurd (he.symm.trans z.1) (by decide))
theorem plt_1 {Q : PlD} {m : Nat} {t : PS} {e : Int} (h : PLT Q m t e) (he : e ≠ 0) : PLT Q m t 1 := h.elim (fun z => absurd z.1 he) (fun z => Or.inr ⟨rfl, z.2⟩)
/-! the model's loads -/
theorem bsm_y {U : AirD} {f : Nat → Int} {q : Nat} {n p e y : Int} (h : Int32.ofInt n = bsPl U f q p.toNat) (p0 : 0 ≤ p) (hp : presF f p.toNat) (he : Int32.ofInt e = ldH U (pcS f p) 1 q (-1)) (hy : Int32.ofInt y = Int32.ofInt (n + e)) : Int32.ofInt y = bsPl U f q (p + 1).toNat := by
  rw [show (p + 1).toNat = p.toNat + 1 by omega, bsn_y hp, hy, Int32.ofInt_add, h, he, show ((p.toNat : Nat) : Int) = p by omega]
theorem bsm_n {U : AirD} {f : Nat → Int} {q : Nat} {n p : Int} (h : Int32.ofInt n = bsPl U f q p.toNat) (p0 : 0 ≤ p) (hp : ¬ presF f p.toNat) : Int32.ofInt n = bsPl U f q (p + 1).toNat := by
  rw [show (p + 1).toNat = p.toNat + 1 by omega, bsn_n hp]; exact h
def PLR (s t : PS) : Prop := ∀ j i : Nat, j < 150 → iC t (245 + j) i = iC s (245 + j) i
theorem plr_rf {s : PS} : PLR s s := fun _ _ _ => rfl
theorem plr_ts {s t u : PS} (h : PLR s t) (g : PLR t u) : PLR s u := fun j i hj => (g j i hj).trans (h j i hj)
theorem plr_fm {L M : List Nat} {s t : PS} (F : Fm L M s t) (h : ∀ a ∈ M, a < 245 ∨ 394 < a) : PLR s t := fun j i hj => fm_c F (fun z => by have := h _ z; omega)
/-- the next quarter is busy, or not -/
def BZP (Q : PlD) (q b : Int) : Prop := q = 23 ∨ (b = 1 ∧ pB Q (q + 1).toNat) ∨ (b = 0 ∧ ¬ pB Q (q + 1).toNat)
theorem pre_pc {U : AirD} {J : List Int → Prop} {n b c q e : Int} {D f lim : Nat → Int} (h : PRE U J (D c.toNat) f lim q.toNat e) (c0 : 0 ≤ c ∧ c ≤ 5) : (e = -1 ∧ ¬ pC (QD U J n b D f lim) c.toNat q.toNat) ∨ (pC (QD U J n b D f lim) c.toNat q.toNat ∧ e = pD (QD U J n b D f lim) c.toNat ∧ 0 ≤ e ∧ e ≤ 8) := by
  have w : pD (QD U J n b D f lim) c.toNat = npG (D c.toNat) f 8 := qd_d (by omega)
  have r := npg_r (d := D c.toNat) (f := f) 8
  rcases h with ⟨h1, h2⟩ | ⟨h1, h2⟩
  · exact Or.inr ⟨⟨by omega, h2⟩, by rw [w]; exact h1, by rw [h1]; exact r.1, by rw [h1]; exact r.2⟩
  · exact Or.inl ⟨h1, fun z => h2 z.2⟩
theorem mbs_0 {Q : PlD} {q c l b z : Int} (hz : BZP Q q z) (q0 : 0 ≤ q ∧ q ≤ 23) (l0 : 0 ≤ l) (h : (¬ pC Q c.toNat q.toNat ∧ b = -1) ∨ (pC Q c.toNat q.toNat ∧ ((q = 23 ∧ b = 0) ∨ (q ≤ 22 ∧ b = mP Q (22 - q).toNat c.toNat l.toNat)))) : MBS Q q c l b 0 := by
  rcases h with h | ⟨h1, h2 | ⟨h2, h3⟩⟩
  · exact Or.inl h
  · exact Or.inr ⟨h1, Or.inl h2⟩
  · by_cases g : l = 0 ∨ pB Q (q + 1).toNat
    · exact Or.inr ⟨h1, Or.inr (Or.inl ⟨h2, g, h3⟩)⟩
    · exact Or.inr ⟨h1, Or.inr (Or.inr ⟨h2, ⟨fun z => g (Or.inl z), fun z => g (Or.inr z)⟩, h3⟩)⟩
theorem mbs_up {Q : PlD} {q c l b b' j s z : Int} (h : MBS Q q c l b j) (hz : BZP Q q z) (z0 : z = 0) (hp : pC Q c.toNat q.toNat) (q0 : 0 ≤ q ∧ q ≤ 22) (l0 : 0 < l) (j0 : 0 ≤ j) (c0 : 0 ≤ c) (hs : (j = c ∧ s = -1) ∨ (j ≠ c ∧ s = mP Q (22 - q).toNat j.toNat (l - 1).toNat)) (hb : (s ≠ -1 ∧ (b = -1 ∨ s + 1 < b) ∧ b' = s + 1) ∨ ((s = -1 ∨ (b ≠ -1 ∧ b ≤ s + 1)) ∧ b' = b)) : MBS Q q c l b' (j + 1) := by
  have nb : ¬ pB Q (q + 1).toNat := by
    rcases hz with y | y | y
    · omega
    · omega
    · exact y.2
  have e : b = mth (fun o => mP Q (22 - q).toNat o (l.toNat - 1)) c.toNat j.toNat (mP Q (22 - q).toNat c.toNat l.toNat) := by
    rcases h with ⟨y, _⟩ | ⟨_, ⟨y, _⟩ | ⟨_, y, _⟩ | ⟨_, _, y⟩⟩
    · exact absurd hp y
    · omega
    · rcases y with y | y
      · omega
      · exact absurd y nb
    · exact y
  refine Or.inr ⟨hp, Or.inr (Or.inr ⟨q0.2, ⟨by omega, nb⟩, ?_⟩)⟩
  rw [show (j + 1).toNat = j.toNat + 1 by omega]
  rcases hs with ⟨s1, s2⟩ | ⟨s1, s2⟩
  · rw [mth_y (by omega), ← e]; omega
  · rw [show (l - 1).toNat = l.toNat - 1 by omega] at s2
    refine mth_n (by omega) ?_
    rw [← e]
    show (mP Q (22 - q).toNat j.toNat (l.toNat - 1) ≠ -1 ∧ (b = -1 ∨ mP Q (22 - q).toNat j.toNat (l.toNat - 1) + 1 < b) ∧ b' = mP Q (22 - q).toNat j.toNat (l.toNat - 1) + 1) ∨ (¬ (mP Q (22 - q).toNat j.toNat (l.toNat - 1) ≠ -1 ∧ (b = -1 ∨ mP Q (22 - q).toNat j.toNat (l.toNat - 1) + 1 < b)) ∧ b' = b)
    rw [← s2]
    omega
theorem scq_0 {t : PS} : SCQ t 0 0 0 := ⟨rfl, rfl⟩
theorem scq_up {t : PS} {n p h d g : Int} (q : SCQ t n p h) (n0 : 0 ≤ n) (hd : d = iC t 396 n.toNat) (hg : (g = 0 ∧ (n = 0 ∨ iC t 395 n.toNat = iC t 395 (n - 1).toNat)) ∨ (g = 1 ∧ n ≠ 0 ∧ iC t 395 n.toNat ≠ iC t 395 (n - 1).toNat)) : SCQ t (n + 1) (p + d) (h + g) := by
  obtain ⟨q1, q2⟩ := q
  unfold SCQ
  rw [show (n + 1).toNat = n.toNat + 1 by omega]
  refine ⟨by show _ = sm _ n.toNat + iC t 396 n.toNat; rw [← q1, hd], ?_⟩
  show _ = sm _ n.toNat + (if n.toNat = 0 ∨ iC t 395 n.toNat = iC t 395 (n.toNat - 1) then 0 else 1)
  rw [← q2, show n.toNat - 1 = (n - 1).toNat by omega]
  rcases hg with ⟨g1, g2⟩ | ⟨g1, g2, g3⟩
  · rw [if_pos (g2.imp (fun z => by omega) id), g1]
  · rw [if_neg (fun z => z.elim (fun y => g2 (by omega)) g3), g1]
theorem plt_b {Q : PlD} {m : Nat} {t : PS} {c : Int} (h : PLT Q m t 1) (hD : nDP Q) (c0 : 0 ≤ c ∧ c ≤ 23) : 0 ≤ iC t 396 c.toNat ∧ iC t 396 c.toNat ≤ 8 := by
  rcases h with ⟨h, _⟩ | ⟨_, L, k, _, h2⟩
  · exact absurd h (by decide)
  · rw [(h2 c.toNat (by omega)).2]
    exact hD _
section M87kn
variable {l : Launch} {s0 : State} {D : va_G} {tys : List (ClassId × FieldType)} {a0 : Array Value} {A : Nat → Nat} {dT : Nat → ClassId} {s : PS}
set_option maxRecDepth 4000 in
theorem j_fill7 (G : GX l s0 D tys a0 dT) (I : Bd s) {x : Int} (p0 : (-2147483648) ≤ x ∧ x ≤ 2147483647) : CT l s0 D A dT 312 (rmN 312) [.ref (A 58), .int (Int32.ofInt x)] s (fun o t => Bd t ∧ Fm [] [49] s t ∧ o = .inl none ∧ (∀ q : Nat, q < 24 → iC t 49 q = x)) := by
  refine ct_ofX G (by decide) (Nat.le_of_ble_eq_true rfl) (fun k X E ET hRt hXt q => ?_)
  show WS k 0 [(0, .ref (A 58)), (1, .int (Int32.ofInt x))] [] _ 0 0
  have F : Fm [] [49] s s := fm_rf _ _ s
  have L5 : ∀ (n : Nat) (t : PS) (xv c ln : Int), Bd t → Fm [] [49] s t → (∀ q : Nat, (q : Int) < c → iC t 49 q = xv) → (((-2147483648) ≤ xv ∧ xv ≤ 2147483647) ∧ ln = 24 ∧ 0 ≤ c ∧ c ≤ 24) → (24 - c : Int).toNat < n → (∀ (t' : PS) (c' : Int), Bd t' → Fm [] [49] s t' → (∀ q : Nat, (q : Int) < c' → iC t' 49 q = xv) → (c' = 24) → WS k 20 [(0, .ref (A 58)), (1, .int (Int32.ofInt xv)), (2, .int (Int32.ofInt c')), (3, .int (Int32.ofInt ln))] [] (Wd A dT t') 0 0) → WS k 5 [(0, .ref (A 58)), (1, .int (Int32.ofInt xv)), (2, .int (Int32.ofInt c)), (3, .int (Int32.ofInt ln))] [] (Wd A dT t) 0 0 := by
    intro n
    induction n with
    | zero =>
      intro t xv c ln I F hq hi hm kx
      exact absurd hm (Nat.not_lt_zero _)
    | succ n ih =>
      intro t xv c ln I F hq hi hm kx
      refine z_load_n X (x := c) rfl (List.Mem.tail _ (List.Mem.tail _ (List.Mem.head _))) (z_load_n X (x := ln) rfl (List.Mem.tail _ (List.Mem.tail _ (List.Mem.tail _ (List.Mem.head _)))) (z_icmp_ge X (t := 20) rfl rfl ⟨by first | exact oq_fa4e5087 hi.2.2.1 | omega, by first | exact oq_5bcd337f hi.2.2.2 | omega⟩ ⟨by first | exact oq_3ba33515 hi.2.1 | omega, by first | exact oq_1a30d88f hi.2.1 | omega⟩ (fun g1001 => ?_) (fun g1001 => ?_)))
      ·
        refine WS_pq [0, 1, 2, 3] (lv' := [(0, .ref (A 58)), (1, .int (Int32.ofInt xv)), (2, .int (Int32.ofInt c)), (3, .int (Int32.ofInt ln))]) rfl ?_
        exact kx _ c I F hq (by first | exact oq_9ccb1a63 hi.2.2.2 g1001 hi.2.1 | omega)
      ·
        refine z_aload_n X (x := A 58) rfl (List.Mem.head _) (z_load_n X (x := c) rfl (List.Mem.tail _ (List.Mem.tail _ (List.Mem.head _))) (z_load_n X (x := xv) rfl (List.Mem.tail _ (List.Mem.head _)) (z_ast X 58 rfl (c518_ok rfl) rfl (by first | exact hi.2.2.1 | omega) (show c < 24 by first | exact oq_f04b8b25 g1001 hi.2.1 | omega) (cbig_ok rfl) (wd_gen (fun s1002 hs1002 => ?_)))))
        have Is1002 : Bd s1002 := eqB hs1002 (bd_C I (show ((-2147483648) : Int) ≤ xv ∧ xv ≤ 2147483647 by first | exact ⟨hi.1.1, hi.1.2⟩ | omega) ⟨by first | exact hi.1.1 | omega, by first | exact hi.1.2 | omega⟩)
        have Fs1002 := eqF hs1002 (fm_C F (inl_ok (a := 49) rfl))
        have aws1002_49 : UPD 49 (c) xv t s1002 := by rw [hs1002]; exact upd_put (sam_rf (a := 49) (s := t)) ⟨by first | exact hi.1.1 | omega, by first | exact hi.1.2 | omega⟩
        refine z_inc X (x := c) (lv' := [(2, .int (Int32.ofInt (c + 1))), (0, .ref (A 58)), (1, .int (Int32.ofInt xv)), (3, .int (Int32.ofInt ln))]) rfl (by decide) (List.Mem.tail _ (List.Mem.tail _ (List.Mem.head _))) (fun _ h => h) (z_goto X (t := 5) rfl rfl (WS_pq [1, 2, 0, 3] (lv' := [(0, .ref (A 58)), (1, .int (Int32.ofInt xv)), (2, .int (Int32.ofInt (c + 1))), (3, .int (Int32.ofInt ln))]) rfl ?_))
        exact ih _ xv (c + 1) ln Is1002 Fs1002 (fil_up hq (by omega) aws1002_49) (by first | exact ⟨And.intro (hi.1.1) (hi.1.2), hi.2.1, oq_54f49eb5 hi.2.2.1, oq_2a29062c g1001 hi.2.1⟩ | omega) (by first | exact qk_me hm (by decide) (oq_64c68951 g1001 hi.2.1) | omega) kx
  refine z_const X rfl (z_store_n X (lv' := [(2, .int (Int32.ofInt 0)), (0, .ref (A 58)), (1, .int (Int32.ofInt x))]) rfl (by decide) (fun _ h => h) (z_aload_n X (x := A 58) rfl (List.Mem.tail _ (List.Mem.head _)) (z_alen X 58 rfl (by decide) rfl rfl (z_store_n X (lv' := [(3, .int (Int32.ofInt 24)), (2, .int (Int32.ofInt 0)), (0, .ref (A 58)), (1, .int (Int32.ofInt x))]) rfl (by decide) (fun _ h => h) (WS_pq [2, 3, 1, 0] (lv' := [(0, .ref (A 58)), (1, .int (Int32.ofInt x)), (2, .int (Int32.ofInt 0)), (3, .int (Int32.ofInt 24))]) rfl (L5 ((24 - 0 : Int).toNat + 1) s x 0 24 I F (fun q hq => absurd hq (by omega)) (by first | exact ⟨And.intro (p0.1) (p0.2), by decide, by decide, by decide⟩ | omega) (Nat.lt_succ_self _) ?_))))))
  intro s1 x2 Is1 Fs1 Qs1 hs1
  exact w_vret X.1 q hRt (ax_d X (show cdA 312 20 = some (.return_, 1, 0, 0, 0) from rfl)) (Nat.zero_le _) (Nat.zero_le _) ⟨_, rfl, Is1, Fs1, rfl, (fun q hq => Qs1 q (by omega))⟩
set_option maxRecDepth 4000 in
theorem c4_loads7 (G : GX l s0 D tys a0 dT) {U : AirD} (I : Bd s) (jAIR : AIR s) (jCPL : CPL s) (jCDJ : CDJ U s) (jPMJ : PMJ s)  : CT l s0 D A dT 47 (rmN 47) [.ref (A 54)] s (fun o t => Bd t ∧ Fm [22, 23, 24] [33, 26, 27, 28, 29, 30, 31, 32, 20, 49] s t ∧ o = .inl none ∧ (LDO U (pfC s) 8 t)) := by
  refine ct_ofX G (by decide) (Nat.le_of_ble_eq_true rfl) (fun k X E ET hRt hXt q => ?_)
  show WS k 0 [(0, .ref (A 54))] [] _ 0 0
  have F : Fm [22, 23, 24] [33, 26, 27, 28, 29, 30, 31, 32, 20, 49] s s := fm_rf _ _ s
  have L55 : ∀ (n : Nat) (t : PS) (p qq : Int), Bd t → Fm [22, 23, 24] [33, 26, 27, 28, 29, 30, 31, 32, 20, 49] s t → AIR t → CPL t → CDJ U t → PMJ t → LSN (gD s 22 (p : Int).toNat) (gD s 23 (p : Int).toNat) t → HEH (gD s 22 (p : Int).toNat) (gD s 23 (p : Int).toNat) 1 t → (presF (pfC s) (p : Int).toNat ∧ LDL U (pfC s) p qq t) → ((0 ≤ p ∧ p ≤ 7) ∧ (0 ≤ qq ∧ qq ≤ 24)) → (24 - qq : Int).toNat < n → (∀ (t' : PS) (qq' : Int), Bd t' → Fm [22, 23, 24] [33, 26, 27, 28, 29, 30, 31, 32, 20, 49] s t' → AIR t' → CPL t' → CDJ U t' → PMJ t' → LSN (gD s 22 (p : Int).toNat) (gD s 23 (p : Int).toNat) t' → HEH (gD s 22 (p : Int).toNat) (gD s 23 (p : Int).toNat) 1 t' → (presF (pfC s) (p : Int).toNat ∧ LDL U (pfC s) p qq' t') → ((0 ≤ p ∧ p ≤ 7) ∧ qq' = 24) → WS k 113 [(0, .ref (A 54)), (1, .int (Int32.ofInt p)), (2, .int (Int32.ofInt qq'))] [] (Wd A dT t') 0 0) → WS k 55 [(0, .ref (A 54)), (1, .int (Int32.ofInt p)), (2, .int (Int32.ofInt qq))] [] (Wd A dT t) 0 0 := by
    intro n
    induction n with
    | zero =>
      intro t p qq I F jjAIR jjCPL jjCDJ jjPMJ jjLSN jjHEH hq hi hm kx
      exact absurd hm (Nat.not_lt_zero _)
    | succ n ih =>
      intro t p qq I F jjAIR jjCPL jjCDJ jjPMJ jjLSN jjHEH hq hi hm kx
      have hIn : inL (gD s 22 (p : Int).toNat) (gD s 23 (p : Int).toNat) = pcS (pfC s) p := pm_eq (p := p) jPMJ (by omega)
      refine z_load_n X (x := qq) rfl (List.Mem.tail _ (List.Mem.tail _ (List.Mem.head _))) (z_bipush X rfl (z_icmp_ge X (t := 113) rfl rfl ⟨by first | exact oq_fa4e5087 hi.2.1 | omega, by first | exact oq_5bcd337f hi.2.2 | omega⟩ (by decide) (fun g1001 => ?_) (fun g1001 => ?_)))
      ·
        refine WS_pq [0, 1, 2] (lv' := [(0, .ref (A 54)), (1, .int (Int32.ofInt p)), (2, .int (Int32.ofInt qq))]) rfl ?_
        exact kx _ qq I F jjAIR jjCPL jjCDJ jjPMJ jjLSN jjHEH hq (by first | exact ⟨And.intro (hi.1.1) (hi.1.2), oq_ea1742b3 hi.2.2 g1001⟩ | omega)
      ·
        refine z_aload_n X (x := A 54) rfl (List.Mem.head _) (s_getR X 54 rfl (c518_ok rfl) rfl rfl (s_getR X 3 rfl (c518_ok rfl) rfl rfl (z_load_n X (x := qq) rfl (List.Mem.tail _ (List.Mem.tail _ (List.Mem.head _))) (z_ald X 17 rfl (c518_ok rfl) rfl (by first | exact hi.2.1 | omega) (show qq < 24 by first | exact g1001 | omega) (cbig_ok rfl) ?_))))
        have b1002 := bc_14 I (show (qq).toNat < 24 by first | exact oq_797efae6 g1001 | omega)
        refine z_store_n X (lv' := [(3, .int (Int32.ofInt (iC t 14 (qq).toNat))), (0, .ref (A 54)), (1, .int (Int32.ofInt p)), (2, .int (Int32.ofInt qq))]) rfl (by decide) (fun _ h => h) (z_aload_n X (x := A 54) rfl (List.Mem.tail _ (List.Mem.head _)) (s_getR X 54 rfl (c518_ok rfl) rfl rfl (z_load_n X (x := qq) rfl (List.Mem.tail _ (List.Mem.tail _ (List.Mem.tail _ (List.Mem.head _)))) (z_load_n X (x := (iC t 14 (qq).toNat)) rfl (List.Mem.head _) (z_load_n X (x := qq) rfl (List.Mem.tail _ (List.Mem.tail _ (List.Mem.tail _ (List.Mem.head _)))) (z_icmp_ne X (t := 100) rfl rfl (rng_to _) ⟨by first | exact oq_fa4e5087 hi.2.1 | omega, by first | exact oq_1d70227b g1001 | omega⟩ (fun g1003 => ?_) (fun g1003 => ?_)))))))
        ·
          have htw := jjCDJ.2.2.2.2.1 (qq : Int).toNat (by first | (clear g1003; omega) | omega)
          refine z_aload_n X (x := A 54) rfl (List.Mem.tail _ (List.Mem.head _)) (s_getR X 54 rfl (c518_ok rfl) rfl rfl (z_load_n X (x := (iC t 14 (qq).toNat)) rfl (List.Mem.head _) (z_ald X 58 rfl (c518_ok rfl) rfl (by first | exact b1002.1 | omega) (show (iC t 14 (qq).toNat) < 24 by first | exact oq_7fdb8aa6 b1002.2 | omega) (cbig_ok rfl) ?_)))
          have b1004 := bc_49 I (show ((iC t 14 (qq).toNat)).toNat < 24 by first | exact oq_138251d6 b1002.2 | omega)
          have ar1005 : iC t 49 ((iC t 14 (qq).toNat)).toNat = iC t 49 ((iC t 14 (qq).toNat)).toNat := (sam_rf (a := 49) (s := t)) _
          refine z_ast X 58 rfl (c518_ok rfl) rfl (by first | exact hi.2.1 | omega) (show qq < 24 by first | exact g1001 | omega) (cbig_ok rfl) (wd_gen (fun s1006 hs1006 => ?_))
          have Is1006 : Bd s1006 := eqB hs1006 (bd_C I (show ((-2147483648) : Int) ≤ (iC t 49 ((iC t 14 (qq).toNat)).toNat) ∧ (iC t 49 ((iC t 14 (qq).toNat)).toNat) ≤ 2147483647 by first | exact ⟨b1004.1, b1004.2⟩ | omega) (rng_to _))
          have Fs1006 := eqF hs1006 (fm_C F (inl_ok (a := 49) rfl))
          have aws1006_49 : UPD 49 (qq) (iC t 49 ((iC t 14 (qq).toNat)).toNat) t s1006 := by rw [hs1006]; exact upd_put (sam_rf (a := 49) (s := t)) (rng_to _)
          have fs1006 : Fm [] [49] t s1006 := by rw [hs1006]; exact fm_C (fm_rf _ _ _) (show 49 ∈ _ by decide)
          have JAIR_s1006 : AIR s1006 := AIR_fm fs1006 (by decide) jjAIR
          have JCPL_s1006 : CPL s1006 := CPL_fm fs1006 (by decide) jjCPL
          have JCDJ_s1006 : CDJ U s1006 := CDJ_fm fs1006 (by decide) jjCDJ
          have JPMJ_s1006 : PMJ s1006 := PMJ_fm fs1006 (by decide) jjPMJ
          have JLSN_s1006 : LSN (gD s 22 (p : Int).toNat) (gD s 23 (p : Int).toNat) s1006 := LSN_fm fs1006 (by decide) jjLSN
          have JHEH_s1006 : HEH (gD s 22 (p : Int).toNat) (gD s 23 (p : Int).toNat) 1 s1006 := HEH_fm fs1006 (by decide) jjHEH
          refine z_inc X (x := qq) (lv' := [(2, .int (Int32.ofInt (qq + 1))), (3, .int (Int32.ofInt (iC t 14 (qq).toNat))), (0, .ref (A 54)), (1, .int (Int32.ofInt p))]) rfl (by decide) (List.Mem.tail _ (List.Mem.tail _ (List.Mem.tail _ (List.Mem.head _)))) (fun _ h => h) (z_goto X (t := 55) rfl rfl (WS_pq [2, 3, 0] (lv' := [(0, .ref (A 54)), (1, .int (Int32.ofInt p)), (2, .int (Int32.ofInt (qq + 1)))]) rfl ?_))
          exact ih _ p (qq + 1) Is1006 Fs1006 JAIR_s1006 JCPL_s1006 JCDJ_s1006 JPMJ_s1006 JLSN_s1006 JHEH_s1006 ⟨hq.1, ldl_up hq.2 (by first | (clear g1003; omega) | omega) aws1006_49 (ldl_tw (r := iC t 14 (qq : Int).toNat) hq.2 (by first | (clear g1003; omega) | omega) (by first | (clear g1003; omega) | omega) htw.2)⟩ (by first | exact ⟨And.intro (hi.1.1) (hi.1.2), oq_54f49eb5 hi.2.1, oq_cec7cb2e g1001⟩ | omega) (by first | exact qk_me hm (by decide) (oq_ffa8317e g1001) | omega) kx
        ·
          refine z_aload_n X (x := A 54) rfl (List.Mem.tail _ (List.Mem.head _)) (s_getR X 54 rfl (c518_ok rfl) rfl rfl (z_load_n X (x := qq) rfl (List.Mem.tail _ (List.Mem.tail _ (List.Mem.tail _ (List.Mem.head _)))) (z_ald X 58 rfl (c518_ok rfl) rfl (by first | exact hi.2.1 | omega) (show qq < 24 by first | exact g1001 | omega) (cbig_ok rfl) ?_)))
          have b1007 := bc_49 I (show (qq).toNat < 24 by first | exact oq_797efae6 g1001 | omega)
          have ar1008 : iC t 49 (qq).toNat = iC t 49 (qq).toNat := (sam_rf (a := 49) (s := t)) _
          refine z_aload_n X (x := A 54) rfl (List.Mem.tail _ (List.Mem.head _)) (s_getR X 54 rfl (c518_ok rfl) rfl rfl (z_load_n X (x := qq) rfl (List.Mem.tail _ (List.Mem.tail _ (List.Mem.tail _ (List.Mem.head _)))) (z_const X rfl (zcV_i1 X E 31 (As := [.int (Int32.ofInt qq), .int (Int32.ofInt (-1))]) (st := [.int (Int32.ofInt (iC t 49 (qq).toNat)), .int (Int32.ofInt qq), .ref (A 58)]) rfl rfl rfl rfl (c0_loadAt6 G I jjAIR jjCPL jjLSN jjCDJ jjHEH (by first | exact ⟨hi.2.1, oq_c69fe266 g1001⟩ | omega) (by first | exact ⟨by decide, by decide⟩ | omega)) rfl (Nat.le_of_ble_eq_true rfl) (fun s1009 e1010 Is1009 Fs1009 JHEH_s1009 hrs1009 hps1009 => ?_)))))
          have Gs1009 := fm_tq F Fs1009 rfl rfl
          have JAIR_s1009 : AIR s1009 := AIR_fm Fs1009 (by decide) jjAIR
          have JCPL_s1009 : CPL s1009 := CPL_fm Fs1009 (by decide) jjCPL
          have JCDJ_s1009 : CDJ U s1009 := CDJ_fm Fs1009 (by decide) jjCDJ
          have JPMJ_s1009 : PMJ s1009 := PMJ_fm Fs1009 (by decide) jjPMJ
          have JLSN_s1009 : LSN (gD s 22 (p : Int).toNat) (gD s 23 (p : Int).toNat) s1009 := LSN_fm Fs1009 (by decide) jjLSN
          have aws1009_49 : SAM 49 t s1009 := sam_ts (sam_rf (a := 49) (s := t)) (sam_fm Fs1009 (by decide))
          have hld : Int32.ofInt e1010 = ldH U (pcS (pfC s) p) 1 (qq : Int).toNat (-1) := by rw [← hIn]; exact hps1009.1
          refine z_add X rfl (z_anyV (fun y1011 hy1011 ey1011 => ?_))
          refine z_goto X (t := 106) rfl rfl (z_ast X 58 rfl (c518_ok rfl) rfl (by first | exact hi.2.1 | omega) (show qq < 24 by first | exact g1001 | omega) (cbig_ok rfl) (wd_gen (fun s1012 hs1012 => ?_)))
          have Is1012 : Bd s1012 := eqB hs1012 (bd_C Is1009 (show ((-2147483648) : Int) ≤ y1011 ∧ y1011 ≤ 2147483647 by first | exact ⟨hy1011.1, hy1011.2⟩ | omega) hy1011)
          have Fs1012 := eqF hs1012 (fm_C Gs1009 (inl_ok (a := 49) rfl))
          have aws1012_49 : UPD 49 (qq) y1011 t s1012 := by rw [hs1012]; exact upd_put aws1009_49 hy1011
          have fs1012 : Fm [] [49] s1009 s1012 := by rw [hs1012]; exact fm_C (fm_rf _ _ _) (show 49 ∈ _ by decide)
          have JAIR_s1012 : AIR s1012 := AIR_fm fs1012 (by decide) JAIR_s1009
          have JCPL_s1012 : CPL s1012 := CPL_fm fs1012 (by decide) JCPL_s1009
          have JCDJ_s1012 : CDJ U s1012 := CDJ_fm fs1012 (by decide) JCDJ_s1009
          have JPMJ_s1012 : PMJ s1012 := PMJ_fm fs1012 (by decide) JPMJ_s1009
          have JLSN_s1012 : LSN (gD s 22 (p : Int).toNat) (gD s 23 (p : Int).toNat) s1012 := LSN_fm fs1012 (by decide) JLSN_s1009
          have JHEH_s1012 : HEH (gD s 22 (p : Int).toNat) (gD s 23 (p : Int).toNat) 1 s1012 := HEH_fm fs1012 (by decide) JHEH_s1009
          refine z_inc X (x := qq) (lv' := [(2, .int (Int32.ofInt (qq + 1))), (3, .int (Int32.ofInt (iC t 14 (qq).toNat))), (0, .ref (A 54)), (1, .int (Int32.ofInt p))]) rfl (by decide) (List.Mem.tail _ (List.Mem.tail _ (List.Mem.tail _ (List.Mem.head _)))) (fun _ h => h) (z_goto X (t := 55) rfl rfl (WS_pq [2, 3, 0] (lv' := [(0, .ref (A 54)), (1, .int (Int32.ofInt p)), (2, .int (Int32.ofInt (qq + 1)))]) rfl ?_))
          exact ih _ p (qq + 1) Is1012 Fs1012 JAIR_s1012 JCPL_s1012 JCDJ_s1012 JPMJ_s1012 JLSN_s1012 JHEH_s1012 ⟨hq.1, ldl_up hq.2 (by first | (clear hps1009; omega) | omega) aws1012_49 (ldl_own hq.2 (by first | (clear hps1009; omega) | omega) (by first | (clear hps1009; omega) | omega) hq.1 hld ey1011 hy1011)⟩ (by first | exact ⟨And.intro (hi.1.1) (hi.1.2), oq_54f49eb5 hi.2.1, oq_cec7cb2e g1001⟩ | omega) (by first | exact qk_me hm (by decide) (oq_ffa8317e g1001) | omega) kx
  have L10 : ∀ (n : Nat) (t : PS) (p : Int), Bd t → Fm [22, 23, 24] [33, 26, 27, 28, 29, 30, 31, 32, 20, 49] s t → AIR t → CPL t → CDJ U t → PMJ t → (LDO U (pfC s) p t) → (0 ≤ p ∧ p ≤ 8) → (8 - p : Int).toNat < n → (∀ (t' : PS) (p' : Int), Bd t' → Fm [22, 23, 24] [33, 26, 27, 28, 29, 30, 31, 32, 20, 49] s t' → AIR t' → CPL t' → CDJ U t' → PMJ t' → (LDO U (pfC s) p' t') → (p' = 8) → WS k 119 [(0, .ref (A 54)), (1, .int (Int32.ofInt p'))] [] (Wd A dT t') 0 0) → WS k 10 [(0, .ref (A 54)), (1, .int (Int32.ofInt p))] [] (Wd A dT t) 0 0 := by
    intro n
    induction n with
    | zero =>
      intro t p I F jjAIR jjCPL jjCDJ jjPMJ hq hi hm kx
      exact absurd hm (Nat.not_lt_zero _)
    | succ n ih =>
      intro t p I F jjAIR jjCPL jjCDJ jjPMJ hq hi hm kx
      have hPf : pfC t = pfC s := funext (fun j => fm_c F (by decide))
      refine z_load_n X (x := p) rfl (List.Mem.tail _ (List.Mem.head _)) (z_bipush X rfl (z_icmp_ge X (t := 119) rfl rfl ⟨by first | exact oq_fa4e5087 hi.1 | omega, by first | exact oq_d3f5d874 hi.2 | omega⟩ (by decide) (fun g2001 => ?_) (fun g2001 => ?_)))
      ·
        refine WS_pq [0, 1] (lv' := [(0, .ref (A 54)), (1, .int (Int32.ofInt p))]) rfl ?_
        exact kx _ p I F jjAIR jjCPL jjCDJ jjPMJ hq (by first | exact oq_73d3719d hi.2 g2001 | omega)
      ·
        refine z_aload_n X (x := A 54) rfl (List.Mem.head _) (s_getR X 54 rfl (c518_ok rfl) rfl rfl (z_load_n X (x := p) rfl (List.Mem.tail _ (List.Mem.head _)) (z_callV X 25 (rm := rmN 30) (As := [.int (Int32.ofInt p)]) (st := []) rfl rfl (by decide) rfl (by rw [E.1, E.2.1, E.2.2.1]; exact c3_has3 G I jjPMJ (by first | exact ⟨hi.1, oq_78c639ed g2001⟩ | omega)) ⟨by rw [E.2.2.2]; exact (show (rmN 30).frames + 1 ≤ (rmN 47).frames by decide), by rw [E.2.2.2]; exact (show 8 + (mNL (miB 30) + 11) + (rmN 30).locals ≤ (rmN 47).locals by decide), by rw [E.2.2.2]; exact (show 0 + (rmN 30).cells ≤ (rmN 47).cells by decide), by rw [E.2.2.2]; exact (show 0 + (rmN 30).slots ≤ (rmN 47).slots by decide)⟩ (Nat.le_of_ble_eq_true rfl) (fun vv s2002 hq => ?_) (fun ee s2002 hq => ?_))))
        rotate_left
        · obtain ⟨rfl, e2003, hv, hrs2002, hps2002⟩ := hq; cases hv
        obtain ⟨rfl, e2003, hv, hrs2002, hps2002⟩ := hq
        have hps2002p := hps2002.2
        cases hv
        show WS k 24 [(0, .ref (A 54)), (1, .int (Int32.ofInt p))] [.int (Int32.ofInt e2003)] (Wd A dT t) 0 0
        have hHc : HCE (pcS (pfC s) p) e2003 := by have z := hps2002.2; rw [hPf] at z; exact z
        have hPr := prs_hce hHc (by first | (clear hps2002; omega) | omega)
        refine z_if_eq X (t := 113) rfl rfl hrs2002 (fun g2004 => ?_) (fun g2004 => ?_)
        ·
          refine z_inc X (x := p) (lv' := [(1, .int (Int32.ofInt (p + 1))), (0, .ref (A 54))]) rfl (by decide) (List.Mem.tail _ (List.Mem.head _)) (fun _ h => h) (z_goto X (t := 10) rfl rfl (WS_pq [1, 0] (lv' := [(0, .ref (A 54)), (1, .int (Int32.ofInt (p + 1)))]) rfl ?_))
          exact ih _ (p + 1) I F jjAIR jjCPL jjCDJ jjPMJ (ldo_n hq (by first | (clear hps2002; omega) | omega) (hPr.2 (by first | (clear hps2002; omega) | omega))) (by first | exact ⟨oq_54f49eb5 hi.1, oq_0c7b19c3 g2001⟩ | omega) (by first | exact qk_me hm (by decide) (oq_9f368f35 g2001) | omega) kx
        ·
          refine z_aload_n X (x := A 54) rfl (List.Mem.head _) (s_getR X 54 rfl (c518_ok rfl) rfl rfl (z_aload_n X (x := A 54) rfl (List.Mem.head _) (s_getR X 54 rfl (c518_ok rfl) rfl rfl (s_getR X 25 rfl (c518_ok rfl) rfl rfl (z_load_n X (x := p) rfl (List.Mem.tail _ (List.Mem.head _)) (z_lalE X 27 rfl (by decide) rfl (by first | exact hi.1 | omega) (show p < 8 by first | exact g2001 | omega) (by decide) (z_aload_n X (x := A 54) rfl (List.Mem.head _) (s_getR X 54 rfl (c518_ok rfl) rfl rfl (s_getR X 25 rfl (c518_ok rfl) rfl rfl (z_load_n X (x := p) rfl (List.Mem.tail _ (List.Mem.head _)) (z_lalE X 28 rfl (by decide) rfl (by first | exact hi.1 | omega) (show p < 8 by first | exact g2001 | omega) (by decide) ?_)))))))))))
          refine z_const X rfl (zcV_v0 X E 31 (As := [.long (gD t 22 (p).toNat), .long (gD t 23 (p).toNat), .int (Int32.ofInt 1)]) (st := []) rfl rfl rfl rfl (c0_listen3 G I (by first | exact ⟨by decide, by decide⟩ | omega)) rfl (Nat.le_of_ble_eq_true rfl) (fun s2005 Is2005 Fs2005 hps2005 => ?_))
          have Gs2005 := fm_tq F Fs2005 rfl rfl
          have JAIR_s2005 : AIR s2005 := AIR_fm Fs2005 (by decide) jjAIR
          have JCPL_s2005 : CPL s2005 := CPL_fm Fs2005 (by decide) jjCPL
          have JCDJ_s2005 : CDJ U s2005 := CDJ_fm Fs2005 (by decide) jjCDJ
          have JPMJ_s2005 : PMJ s2005 := PMJ_fm Fs2005 (by decide) jjPMJ
          have aws2005_49 : SAM 49 t s2005 := sam_ts (sam_rf (a := 49) (s := t)) (sam_fm Fs2005 (by decide))
          have hLSN9 : LSN (gD s 22 (p : Int).toNat) (gD s 23 (p : Int).toNat) s2005 := by have z := hps2005.1; rw [show gD t 22 (p : Int).toNat = gD s 22 (p : Int).toNat from fm_dd F (by decide), show gD t 23 (p : Int).toNat = gD s 23 (p : Int).toNat from fm_dd F (by decide)] at z; exact z
          have hHEH9 : HEH (gD s 22 (p : Int).toNat) (gD s 23 (p : Int).toNat) 1 s2005 := by have z := hps2005.2; rw [show gD t 22 (p : Int).toNat = gD s 22 (p : Int).toNat from fm_dd F (by decide), show gD t 23 (p : Int).toNat = gD s 23 (p : Int).toNat from fm_dd F (by decide)] at z; exact z
          refine z_const X rfl (z_store_n X (lv' := [(2, .int (Int32.ofInt 0)), (0, .ref (A 54)), (1, .int (Int32.ofInt p))]) rfl (by decide) (fun _ h => h) (WS_pq [1, 2, 0] (lv' := [(0, .ref (A 54)), (1, .int (Int32.ofInt p)), (2, .int (Int32.ofInt 0))]) rfl (L55 ((24 - 0 : Int).toNat + 1) s2005 p 0 Is2005 Gs2005 JAIR_s2005 JCPL_s2005 JCDJ_s2005 JPMJ_s2005 hLSN9 hHEH9 ⟨hPr.1 (by first | (clear g2004 hps2002; omega) | (clear hps2002; omega) | omega), ldl_0 (ldo_s hq aws2005_49)⟩ (by first | exact ⟨And.intro (hi.1) (oq_78c639ed g2001), by decide, by decide⟩ | omega) (Nat.lt_succ_self _) ?_)))
          intro s2007 x2008 Is2007 Fs2007 JAIR_s2007 JCPL_s2007 JCDJ_s2007 JPMJ_s2007 JLSN_s2007 JHEH_s2007 Qs2007 hs2007
          refine z_inc X (x := p) (lv' := [(1, .int (Int32.ofInt (p + 1))), (0, .ref (A 54)), (2, .int (Int32.ofInt x2008))]) rfl (by decide) (List.Mem.tail _ (List.Mem.head _)) (fun _ h => h) (z_goto X (t := 10) rfl rfl (WS_pq [1, 0] (lv' := [(0, .ref (A 54)), (1, .int (Int32.ofInt (p + 1)))]) rfl ?_))
          exact ih _ (p + 1) Is2007 Fs2007 JAIR_s2007 JCPL_s2007 JCDJ_s2007 JPMJ_s2007 (ldl_e Qs2007.2 (by first | (clear g2004 hps2002; omega) | (clear hps2002; omega) | omega) (by first | (clear g2004 hps2002; omega) | (clear hps2002; omega) | omega)) (by first | exact ⟨oq_54f49eb5 hs2007.1.1, oq_18969492 hs2007.1.2⟩ | omega) (by first | exact qk_me hm (by decide) (oq_6bd25173 hs2007.1.2) | omega) kx
  refine z_aload_n X (x := A 54) rfl (List.Mem.head _) (s_getR X 54 rfl (c518_ok rfl) rfl rfl (z_const X rfl (zcS_v0 X E (As := [.ref (A 58), .int (Int32.ofInt 0)]) (st := []) rfl rfl (j_fill7 G I (by first | exact ⟨by decide, by decide⟩ | omega)) rfl (Nat.le_of_ble_eq_true rfl) (fun s1 Is1 Fs1 hps1 => ?_))))
  have Gs1 := fm_tq F Fs1 rfl rfl
  have JAIR_s1 : AIR s1 := AIR_fm Fs1 (by decide) jAIR
  have JCPL_s1 : CPL s1 := CPL_fm Fs1 (by decide) jCPL
  have JCDJ_s1 : CDJ U s1 := CDJ_fm Fs1 (by decide) jCDJ
  have JPMJ_s1 : PMJ s1 := PMJ_fm Fs1 (by decide) jPMJ
  refine z_const X rfl (z_store_n X (lv' := [(1, .int (Int32.ofInt 0)), (0, .ref (A 54))]) rfl (by decide) (fun _ h => h) (WS_pq [1, 0] (lv' := [(0, .ref (A 54)), (1, .int (Int32.ofInt 0))]) rfl (L10 ((8 - 0 : Int).toNat + 1) s1 0 Is1 Gs1 JAIR_s1 JCPL_s1 JCDJ_s1 JPMJ_s1 (ldo_0 hps1) (by first | exact ⟨by decide, by decide⟩ | omega) (Nat.lt_succ_self _) ?_)))
  intro s3 x4 Is3 Fs3 JAIR_s3 JCPL_s3 JCDJ_s3 JPMJ_s3 Qs3 hs3
  exact w_vret X.1 q hRt (ax_d X (show cdA 47 119 = some (.return_, 1, 0, 0, 0) from rfl)) (Nat.zero_le _) (Nat.zero_le _) ⟨_, rfl, Is3, Fs3, rfl, (by have z := Qs3; rw [show x4 = 8 by first | (clear hps1; omega) | omega] at z; exact z)⟩
set_option maxRecDepth 4000 in
theorem c4_behind7 (G : GX l s0 D tys a0 dT) {Q : PlD} {mm : Nat} (I : Bd s) {x y z : Int} (p0 : 0 ≤ x ∧ x ≤ 23) (p1 : 0 ≤ y ∧ y < iI s 32) (p2 : 0 ≤ z ∧ z ≤ 23 ∧ z ≤ (mm : Int)) (p3 : x = 23 ∨ FWB Q mm (x + 1) s) (p4 : BSY Q s) (p5 : iI s 32 = (pN Q : Int)) : CT l s0 D A dT 50 (rmN 50) [.ref (A 54), .int (Int32.ofInt x), .int (Int32.ofInt y), .int (Int32.ofInt z)] s (fun o t => Bd t ∧ Fm [] [] s t ∧ ∃ e, o = .inl (some (.int (Int32.ofInt e))) ∧ rng e ∧ (FBQ Q x y z e)) := by
  refine ct_ofX G (by decide) (Nat.le_of_ble_eq_true rfl) (fun k X E ET hRt hXt q => ?_)
  show WS k 0 [(0, .ref (A 54)), (1, .int (Int32.ofInt x)), (2, .int (Int32.ofInt y)), (3, .int (Int32.ofInt z))] [] _ 0 0
  have F : Fm [] [] s s := fm_rf _ _ s
  have b1 := bi_32 I
  have b2 := bi_33 I
  have L54 : ∀ (n : Nat) (t : PS) (xv yv zv le c : Int), Bd t → Fm [] [] s t → (le = oth (fun o => wP Q (22 - x).toNat o ((z : Int).toNat - 1)) (y : Int).toNat (c : Int).toNat (wP Q (22 - x).toNat (y : Int).toNat (z : Int).toNat)) → ((xv = x ∧ yv = y ∧ zv = z) ∧ (0 ≤ x ∧ x ≤ 22) ∧ (0 ≤ y ∧ y ≤ 5) ∧ (1 ≤ z ∧ z ≤ 23 ∧ z ≤ (mm : Int)) ∧ rng le ∧ (0 ≤ c ∧ c ≤ iI s 32 ∧ iI s 32 ≤ 6) ∧ iI s 32 = (pN Q : Int) ∧ iI t 32 = iI s 32) → (6 - c : Int).toNat < n → (∀ (t' : PS) (le' c' : Int), Bd t' → Fm [] [] s t' → (le' = oth (fun o => wP Q (22 - x).toNat o ((z : Int).toNat - 1)) (y : Int).toNat (c' : Int).toNat (wP Q (22 - x).toNat (y : Int).toNat (z : Int).toNat)) → ((0 ≤ x ∧ x ≤ 22) ∧ (1 ≤ z) ∧ rng le' ∧ c' = iI s 32 ∧ iI s 32 = (pN Q : Int)) → WS k 98 [(0, .ref (A 54)), (1, .int (Int32.ofInt xv)), (2, .int (Int32.ofInt yv)), (3, .int (Int32.ofInt zv)), (4, .int (Int32.ofInt le')), (5, .int (Int32.ofInt c'))] [] (Wd A dT t') 0 0) → WS k 54 [(0, .ref (A 54)), (1, .int (Int32.ofInt xv)), (2, .int (Int32.ofInt yv)), (3, .int (Int32.ofInt zv)), (4, .int (Int32.ofInt le)), (5, .int (Int32.ofInt c))] [] (Wd A dT t) 0 0 := by
    intro n
    induction n with
    | zero =>
      intro t xv yv zv le c I F hq hi hm kx
      exact absurd hm (Nat.not_lt_zero _)
    | succ n ih =>
      intro t xv yv zv le c I F hq hi hm kx
      have b1001 := bi_32 I
      have b1002 := bi_33 I
      refine z_load X (x := c) rfl (List.Mem.tail _ (List.Mem.tail _ (List.Mem.tail _ (List.Mem.tail _ (List.Mem.tail _ (List.Mem.head _)))))) (z_aload_n X (x := A 54) rfl (List.Mem.head _) (z_getI X 54 rfl (c518_ok rfl) rfl rfl ?_))
      have b1003 := bi_32 I
      refine z_icmp_ge X (t := 98) rfl rfl ⟨by first | exact oq_fa4e5087 hi.2.2.2.2.2.1.1 | omega, by first | exact oq_a893734d hi.2.2.2.2.2.1.2.1 hi.2.2.2.2.2.1.2.2 | omega⟩ (rng_to _) (fun g1004 => ?_) (fun g1004 => ?_)
      ·
        refine WS_pq [0, 1, 2, 3, 4, 5] (lv' := [(0, .ref (A 54)), (1, .int (Int32.ofInt xv)), (2, .int (Int32.ofInt yv)), (3, .int (Int32.ofInt zv)), (4, .int (Int32.ofInt le)), (5, .int (Int32.ofInt c))]) rfl ?_
        exact kx _ le c I F hq (by first | exact ⟨And.intro (hi.2.1.1) (hi.2.1.2), hi.2.2.2.1.1, And.intro (hi.2.2.2.2.1.1) (hi.2.2.2.2.1.2), oq_537ca82a hi.2.2.2.2.2.1.2.1 g1004 hi.2.2.2.2.2.2.2, hi.2.2.2.2.2.2.1⟩ | omega)
      ·
        refine z_load X (x := c) rfl (List.Mem.tail _ (List.Mem.tail _ (List.Mem.tail _ (List.Mem.tail _ (List.Mem.tail _ (List.Mem.head _)))))) (z_load_n X (x := yv) rfl (List.Mem.tail _ (List.Mem.tail _ (List.Mem.head _))) ?_)
        have hpz : iI t 32 = iI s 32 := fm_i F List.not_mem_nil
        refine z_icmp_eq X (t := 92) rfl rfl ⟨by first | exact oq_fa4e5087 hi.2.2.2.2.2.1.1 | omega, by first | exact oq_69e35689 g1004 b1003.2 | omega⟩ ⟨by first | exact oq_b3df2c6f hi.1.2.1 hi.2.2.1.1 | omega, by first | exact oq_a0b67502 hi.1.2.1 hi.2.2.1.2 | omega⟩ (fun g1005 => ?_) (fun g1005 => ?_)
        ·
          refine z_inc X (x := c) (lv' := [(5, .int (Int32.ofInt (c + 1))), (0, .ref (A 54)), (1, .int (Int32.ofInt xv)), (2, .int (Int32.ofInt yv)), (3, .int (Int32.ofInt zv)), (4, .int (Int32.ofInt le))]) rfl (by decide) (List.Mem.tail _ (List.Mem.tail _ (List.Mem.tail _ (List.Mem.tail _ (List.Mem.tail _ (List.Mem.head _)))))) (fun _ h => h) (z_goto X (t := 54) rfl rfl (WS_pq [1, 2, 3, 4, 5, 0] (lv' := [(0, .ref (A 54)), (1, .int (Int32.ofInt xv)), (2, .int (Int32.ofInt yv)), (3, .int (Int32.ofInt zv)), (4, .int (Int32.ofInt le)), (5, .int (Int32.ofInt (c + 1)))]) rfl ?_))
          exact ih _ xv yv zv le (c + 1) I F (by rw [show (c + 1).toNat = (c : Int).toNat + 1 by first | (clear p3; omega) | omega, oth_y (by first | (clear p3; omega) | omega)]; exact hq) (by first | exact ⟨And.intro (hi.1.1) (And.intro (hi.1.2.1) (hi.1.2.2)), And.intro (hi.2.1.1) (hi.2.1.2), And.intro (hi.2.2.1.1) (hi.2.2.1.2), And.intro (hi.2.2.2.1.1) (And.intro (hi.2.2.2.1.2.1) (hi.2.2.2.1.2.2)), And.intro (hi.2.2.2.2.1.1) (hi.2.2.2.2.1.2), And.intro (oq_54f49eb5 hi.2.2.2.2.2.1.1) (And.intro (oq_8a89b3ae g1004 hpz) (hi.2.2.2.2.2.1.2.2)), hi.2.2.2.2.2.2.1, hpz⟩ | omega) (by first | exact qk_me hm (by decide) (oq_4619bacb g1004 b1003.2) | omega) kx
        ·
          refine z_load X (x := le) rfl (List.Mem.tail _ (List.Mem.tail _ (List.Mem.tail _ (List.Mem.tail _ (List.Mem.head _))))) (z_aload_n X (x := A 54) rfl (List.Mem.head _) (s_getR X 54 rfl (c518_ok rfl) rfl rfl (z_load_n X (x := xv) rfl (List.Mem.tail _ (List.Mem.head _)) (z_const X rfl (z_add X rfl (z_load X (x := c) rfl (List.Mem.tail _ (List.Mem.tail _ (List.Mem.tail _ (List.Mem.tail _ (List.Mem.tail _ (List.Mem.head _)))))) (z_load_n X (x := zv) rfl (List.Mem.tail _ (List.Mem.tail _ (List.Mem.tail _ (List.Mem.head _)))) (z_const X rfl (z_sub X rfl (z_callS X (rm := rmN 49) (As := [.int (Int32.ofInt (xv + 1)), .int (Int32.ofInt c), .int (Int32.ofInt (zv - 1))]) (st := [.ref (A 59), .int (Int32.ofInt le)]) rfl rfl (by rw [E.1, E.2.1, E.2.2.1]; exact c4_placeOf G I (by first | exact ⟨oq_d5e8f086 hi.1.1 hi.2.1.1, oq_2ff31030 hi.1.1 hi.2.1.2⟩ | omega) (by first | exact ⟨hi.2.2.2.2.2.1.1, oq_4af6a0a9 g1004 b1003.2⟩ | omega) (by first | exact ⟨oq_cc63697b hi.1.2.2 hi.2.2.2.1.1, oq_5b204a04 hi.1.2.2 hi.2.2.2.1.2.1⟩ | omega)) ⟨by rw [E.2.2.2]; exact (show (rmN 49).frames + 1 ≤ (rmN 50).frames by decide), by rw [E.2.2.2]; exact (show 8 + (mNL (miB 49) + 11) + (rmN 49).locals ≤ (rmN 50).locals by decide), by rw [E.2.2.2]; exact (show 0 + (rmN 49).cells ≤ (rmN 50).cells by decide), by rw [E.2.2.2]; exact (show 0 + (rmN 49).slots ≤ (rmN 50).slots by decide)⟩ (Nat.le_of_ble_eq_true rfl) (fun vv s1006 hq => ?_) (fun ee s1006 hq => ?_)))))))))))
          rotate_left
          · obtain ⟨rfl, e1007, hv, hrs1006, hps1006⟩ := hq; cases hv
          obtain ⟨rfl, e1007, hv, hrs1006, hps1006⟩ := hq
          cases hv
          show WS k 86 [(0, .ref (A 54)), (1, .int (Int32.ofInt xv)), (2, .int (Int32.ofInt yv)), (3, .int (Int32.ofInt zv)), (4, .int (Int32.ofInt le)), (5, .int (Int32.ofInt c))] [.int (Int32.ofInt e1007), .ref (A 59), .int (Int32.ofInt le)] (Wd A dT t) 0 0
          refine z_ald X 59 rfl (c518_ok rfl) rfl (by first | exact oq_08fff2cb hps1006 hi.2.2.2.2.2.1.1 hi.2.2.2.1.1 hi.2.1.1 hi.1.2.2 hi.1.1 | omega) (show e1007 < 3456 by first | exact oq_4f2a207a hps1006 g1004 b1003.2 hi.2.2.2.1.2.1 hi.2.1.2 hi.1.2.2 hi.1.1 | omega) (cbig_ok rfl) ?_
          have b1008 := bc_50 I (show (e1007).toNat < 3456 by first | exact oq_1fb1113d hps1006 g1004 b1003.2 hi.2.2.2.1.2.1 hi.2.1.2 hi.1.2.2 hi.1.1 | omega)
          have hwo : (iC t 50 (e1007).toNat) = wP Q (22 - x).toNat (c : Int).toNat ((z : Int).toNat - 1) := by have h9 := fwb_at (fwb_s (p3.elim (fun h => absurd h (by first | (clear g1005 p3; omega) | (clear p3; omega) | omega)) id) (sam_fm F List.not_mem_nil)) (c := c) (k := z - 1) (e := e1007) (by first | (clear g1005 p3; omega) | (clear p3; omega) | omega) (by first | (clear g1005 p3; omega) | (clear p3; omega) | omega) (by have h8 := hps1006; omega); rw [show (23 - (x + 1)).toNat = (22 - x).toNat by first | (clear g1005 p3; omega) | (clear p3; omega) | omega, show (z - 1).toNat = (z : Int).toNat - 1 by first | (clear g1005 p3; omega) | (clear p3; omega) | omega] at h9; exact h9
          refine z_min X rfl ⟨by first | exact hi.2.2.2.2.1.1 | omega, by first | exact hi.2.2.2.2.1.2 | omega⟩ (rng_to _) (by rw [E.2.2.2]; decide) (by rw [E.2.2.2]; exact Nat.le_of_ble_eq_true rfl) (Nat.zero_le _) (Nat.zero_le _) (fun e1009 he1009 => ?_)
          refine z_store X (lv' := [(4, .int (Int32.ofInt e1009)), (0, .ref (A 54)), (1, .int (Int32.ofInt xv)), (2, .int (Int32.ofInt yv)), (3, .int (Int32.ofInt zv)), (5, .int (Int32.ofInt c))]) rfl (by decide) (fun _ h => h) (z_inc X (x := c) (lv' := [(5, .int (Int32.ofInt (c + 1))), (4, .int (Int32.ofInt e1009)), (0, .ref (A 54)), (1, .int (Int32.ofInt xv)), (2, .int (Int32.ofInt yv)), (3, .int (Int32.ofInt zv))]) rfl (by decide) (List.Mem.tail _ (List.Mem.tail _ (List.Mem.tail _ (List.Mem.tail _ (List.Mem.tail _ (List.Mem.head _)))))) (fun _ h => h) (z_goto X (t := 54) rfl rfl (WS_pq [2, 3, 4, 5, 1, 0] (lv' := [(0, .ref (A 54)), (1, .int (Int32.ofInt xv)), (2, .int (Int32.ofInt yv)), (3, .int (Int32.ofInt zv)), (4, .int (Int32.ofInt e1009)), (5, .int (Int32.ofInt (c + 1)))]) rfl ?_)))
          exact ih _ xv yv zv e1009 (c + 1) I F (by rw [show (c + 1).toNat = (c : Int).toNat + 1 by first | (clear g1005 p3; omega) | (clear p3; omega) | omega, oth_n (by first | (clear g1005 p3; omega) | (clear p3; omega) | omega), ← hq, ← hwo]; omega) (by first | exact ⟨And.intro (hi.1.1) (And.intro (hi.1.2.1) (hi.1.2.2)), And.intro (hi.2.1.1) (hi.2.1.2), And.intro (hi.2.2.1.1) (hi.2.2.1.2), And.intro (hi.2.2.2.1.1) (And.intro (hi.2.2.2.1.2.1) (hi.2.2.2.1.2.2)), oq_566e2836 he1009 b1008.1 hi.2.2.2.2.1.2 hi.2.2.2.2.1.1, And.intro (oq_54f49eb5 hi.2.2.2.2.2.1.1) (And.intro (oq_8a89b3ae g1004 hpz) (hi.2.2.2.2.2.1.2.2)), hi.2.2.2.2.2.2.1, hpz⟩ | omega) (by first | exact qk_me hm (by decide) (oq_4619bacb g1004 b1003.2) | omega) kx
  refine z_load_n X (x := x) rfl (List.Mem.tail _ (List.Mem.head _)) (z_bipush X rfl (z_icmp_ne X (t := 17) rfl rfl ⟨by first | exact oq_fa4e5087 p0.1 | omega, by first | exact oq_1a42ef34 p0.2 | omega⟩ (by decide) (fun g3 => ?_) (fun g3 => ?_)))
  ·
    refine z_aload_n X (x := A 54) rfl (List.Mem.head _) (s_getR X 54 rfl (c518_ok rfl) rfl rfl (z_load_n X (x := x) rfl (List.Mem.tail _ (List.Mem.head _)) (z_const X rfl (z_add X rfl (z_load_n X (x := y) rfl (List.Mem.tail _ (List.Mem.tail _ (List.Mem.head _))) (z_load_n X (x := z) rfl (List.Mem.tail _ (List.Mem.tail _ (List.Mem.tail _ (List.Mem.head _)))) (z_callS X (rm := rmN 49) (As := [.int (Int32.ofInt (x + 1)), .int (Int32.ofInt y), .int (Int32.ofInt z)]) (st := [.ref (A 59)]) rfl rfl (by rw [E.1, E.2.1, E.2.2.1]; exact c4_placeOf G I (by first | exact ⟨oq_54f49eb5 p0.1, oq_5885e3c8 g3 p0.2⟩ | omega) (by first | exact ⟨p1.1, oq_4af6a0a9 p1.2 b1.2⟩ | omega) (by first | exact ⟨p2.1, p2.2.1⟩ | omega)) ⟨by rw [E.2.2.2]; exact (show (rmN 49).frames + 1 ≤ (rmN 50).frames by decide), by rw [E.2.2.2]; exact (show 8 + (mNL (miB 49) + 11) + (rmN 49).locals ≤ (rmN 50).locals by decide), by rw [E.2.2.2]; exact (show 0 + (rmN 49).cells ≤ (rmN 50).cells by decide), by rw [E.2.2.2]; exact (show 0 + (rmN 49).slots ≤ (rmN 50).slots by decide)⟩ (Nat.le_of_ble_eq_true rfl) (fun vv s4 hq => ?_) (fun ee s4 hq => ?_))))))))
    rotate_left
    · obtain ⟨rfl, e5, hv, hrs4, hps4⟩ := hq; cases hv
    obtain ⟨rfl, e5, hv, hrs4, hps4⟩ := hq
    cases hv
    show WS k 29 [(0, .ref (A 54)), (1, .int (Int32.ofInt x)), (2, .int (Int32.ofInt y)), (3, .int (Int32.ofInt z))] [.int (Int32.ofInt e5), .ref (A 59)] (Wd A dT s) 0 0
    refine z_ald X 59 rfl (c518_ok rfl) rfl (by first | exact oq_6fe820e0 hps4 p0.1 p1.1 p2.1 | omega) (show e5 < 3456 by first | exact oq_f0ca7079 hps4 g3 b1.2 p2.2.1 p1.2 p0.2 | omega) (cbig_ok rfl) ?_
    have b6 := bc_50 I (show (e5).toNat < 3456 by first | exact oq_477416db hps4 g3 b1.2 p2.2.1 p1.2 p0.2 | omega)
    have hw0 : (iC s 50 (e5).toNat) = wP Q (22 - x).toNat (y : Int).toNat (z : Int).toNat := by have h9 := fwb_at (p3.elim (fun h => absurd h (by first | (clear g3 p3; omega) | (clear p3; omega) | omega)) id) (c := y) (k := z) (e := e5) (by first | (clear g3 p3; omega) | (clear p3; omega) | omega) (by first | (clear g3 p3; omega) | (clear p3; omega) | omega) (by have h8 := hps4; omega); rw [show (23 - (x + 1)).toNat = (22 - x).toNat by first | (clear g3 p3; omega) | (clear p3; omega) | omega] at h9; exact h9
    refine z_store X (lv' := [(4, .int (Int32.ofInt (iC s 50 (e5).toNat))), (0, .ref (A 54)), (1, .int (Int32.ofInt x)), (2, .int (Int32.ofInt y)), (3, .int (Int32.ofInt z))]) rfl (by decide) (fun _ h => h) (z_load_n X (x := z) rfl (List.Mem.tail _ (List.Mem.tail _ (List.Mem.tail _ (List.Mem.tail _ (List.Mem.head _))))) (z_if_le X (t := 98) rfl rfl ⟨by first | exact oq_fa4e5087 p2.1 | omega, by first | exact oq_1a42ef34 p2.2.1 | omega⟩ (fun g7 => ?_) (fun g7 => ?_)))
    ·
      refine z_load X (x := (iC s 50 (e5).toNat)) rfl (List.Mem.head _) ?_
      exact w_iret X.1 q hRt rfl (ax_d X (show cdA 50 100 = some (.ireturn, 1, 0, 0, 0) from rfl)) (Nat.zero_le _) (Nat.zero_le _) ⟨_, rfl, I, F, (iC s 50 (e5).toNat), rfl, (rng_to _), Or.inr ⟨by first | (clear g3 p3; omega) | (clear p3; omega) | omega, by rw [bh_0 (by first | (clear g3 p3; omega) | (clear p3; omega) | omega)]; exact hw0⟩⟩
    ·
      have hbs := p4 (x + 1).toNat (by first | (clear g3 p3; omega) | (clear p3; omega) | omega)
      refine z_aload_n X (x := A 54) rfl (List.Mem.tail _ (List.Mem.head _)) (s_getR X 54 rfl (c518_ok rfl) rfl rfl (z_load_n X (x := x) rfl (List.Mem.tail _ (List.Mem.tail _ (List.Mem.head _))) (z_const X rfl (z_add X rfl (z_ald X 58 rfl (c518_ok rfl) rfl (by first | exact oq_54f49eb5 p0.1 | omega) (show (x + 1) < 24 by first | exact oq_f7ee2828 g3 p0.2 | omega) (cbig_ok rfl) ?_)))))
      have b8 := bc_49 I (show ((x + 1)).toNat < 24 by first | exact oq_129091dc g3 p0.2 | omega)
      refine z_aload_n X (x := A 54) rfl (List.Mem.tail _ (List.Mem.head _)) (z_getI X 54 rfl (c518_ok rfl) rfl rfl ?_)
      have b9 := bi_33 I
      refine z_icmp_gt X (t := 98) rfl rfl (rng_to _) (rng_to _) (fun g10 => ?_) (fun g10 => ?_)
      ·
        refine z_load X (x := (iC s 50 (e5).toNat)) rfl (List.Mem.head _) ?_
        exact w_iret X.1 q hRt rfl (ax_d X (show cdA 50 100 = some (.ireturn, 1, 0, 0, 0) from rfl)) (Nat.zero_le _) (Nat.zero_le _) ⟨_, rfl, I, F, (iC s 50 (e5).toNat), rfl, (rng_to _), Or.inr ⟨by first | (clear g3 p3; omega) | (clear p3; omega) | omega, by rw [bh_b (by rw [show 23 - (22 - x).toNat = (x + 1).toNat by first | (clear g3 p3; omega) | (clear p3; omega) | omega]; exact hbs.mpr (by first | (clear g3 p3; omega) | (clear p3; omega) | omega))]; exact hw0⟩⟩
      ·
        refine z_const X rfl (z_store X (lv' := [(5, .int (Int32.ofInt 0)), (4, .int (Int32.ofInt (iC s 50 (e5).toNat))), (0, .ref (A 54)), (1, .int (Int32.ofInt x)), (2, .int (Int32.ofInt y)), (3, .int (Int32.ofInt z))]) rfl (by decide) (fun _ h => h) (WS_pq [2, 3, 4, 5, 1, 0] (lv' := [(0, .ref (A 54)), (1, .int (Int32.ofInt x)), (2, .int (Int32.ofInt y)), (3, .int (Int32.ofInt z)), (4, .int (Int32.ofInt (iC s 50 (e5).toNat))), (5, .int (Int32.ofInt 0))]) rfl (L54 ((6 - 0 : Int).toNat + 1) s x y z (iC s 50 (e5).toNat) 0 I F (by show (iC s 50 (e5).toNat) = wP Q (22 - x).toNat (y : Int).toNat (z : Int).toNat; exact hw0) (by first | exact ⟨And.intro (by decide) (And.intro (by decide) (by decide)), oq_f0f9908c g3 p0.2 p0.1, And.intro (p1.1) (oq_4af6a0a9 p1.2 b1.2), And.intro (oq_a1517f2e g7) (And.intro (p2.2.1) (p2.2.2)), And.intro (b6.1) (b6.2), And.intro (by decide) (And.intro (b1.1) (b1.2)), p5, by decide⟩ | omega) (Nat.lt_succ_self _) ?_)))
        intro s11 x12 x13 Is11 Fs11 Qs11 hs11
        have b14 := bi_32 Is11
        have b15 := bi_33 Is11
        refine z_load X (x := x12) rfl (List.Mem.tail _ (List.Mem.tail _ (List.Mem.tail _ (List.Mem.tail _ (List.Mem.head _))))) ?_
        exact w_iret X.1 q hRt rfl (ax_d X (show cdA 50 100 = some (.ireturn, 1, 0, 0, 0) from rfl)) (Nat.zero_le _) (Nat.zero_le _) ⟨_, rfl, Is11, Fs11, x12, rfl, ⟨by first | exact hs11.2.2.1.1 | omega, by first | exact hs11.2.2.1.2 | omega⟩, Or.inr ⟨by first | (clear g3 p3; omega) | (clear p3; omega) | omega, by rw [bh_o (by first | (clear g3 p3; omega) | (clear p3; omega) | omega) (by rw [show 23 - (22 - x).toNat = (x + 1).toNat by first | (clear g3 p3; omega) | (clear p3; omega) | omega]; exact fun h => absurd (hbs.mp h) (by first | (clear g3 p3; omega) | (clear p3; omega) | omega))]; have h9 := Qs11; rw [show (x13 : Int).toNat = pN Q by first | (clear g3 p3; omega) | (clear p3; omega) | omega] at h9; exact h9⟩⟩
  ·
    refine z_load_n X (x := z) rfl (List.Mem.tail _ (List.Mem.tail _ (List.Mem.tail _ (List.Mem.head _)))) (z_if_ne X (t := 14) rfl rfl ⟨by first | exact oq_fa4e5087 p2.1 | omega, by first | exact oq_1a42ef34 p2.2.1 | omega⟩ (fun g16 => ?_) (fun g16 => ?_))
    ·
      refine z_ldc X rfl ?_
      exact w_iret X.1 q hRt rfl (ax_d X (show cdA 50 16 = some (.ireturn, 1, 0, 0, 0) from rfl)) (Nat.zero_le _) (Nat.zero_le _) ⟨_, rfl, I, F, 1000000, rfl, (by decide), Or.inl ⟨by first | (clear g16 p3; omega) | (clear p3; omega) | omega, Or.inr ⟨by first | (clear g16 p3; omega) | (clear p3; omega) | omega, rfl⟩⟩⟩
    ·
      refine z_const X rfl (z_goto X (t := 16) rfl rfl ?_)
      exact w_iret X.1 q hRt rfl (ax_d X (show cdA 50 16 = some (.ireturn, 1, 0, 0, 0) from rfl)) (Nat.zero_le _) (Nat.zero_le _) ⟨_, rfl, I, F, 0, rfl, (by decide), Or.inl ⟨by first | (clear p3; omega) | omega, Or.inl ⟨by first | (clear p3; omega) | omega, rfl⟩⟩⟩
set_option maxRecDepth 4000 in
theorem c4_next7 (G : GX l s0 D tys a0 dT) {Q : PlD} {mm : Nat} (I : Bd s) {x y z : Int} (p0 : 1 ≤ x ∧ x ≤ 23) (p1 : 0 ≤ y ∧ y ≤ 23 ∧ y ≤ (mm : Int)) (p2 : rng z) (p3 : FWB Q mm x s) (p4 : BSY Q s) (p5 : iI s 32 = (pN Q : Int)) (p6 : ∃ o, o < pN Q ∧ NXC Q (23 - x).toNat (lnC s (x - 1).toNat) (y : Int).toNat z o) : CT l s0 D A dT 52 (rmN 52) [.ref (A 54), .int (Int32.ofInt x), .int (Int32.ofInt y), .int (Int32.ofInt z)] s (fun o t => Bd t ∧ Fm [] [] s t ∧ ∃ e, o = .inl (some (.int (Int32.ofInt e))) ∧ rng e ∧ (NXF Q (23 - x).toNat (lnC s (x - 1).toNat) (y : Int).toNat z e)) := by
  refine ct_ofX G (by decide) (Nat.le_of_ble_eq_true rfl) (fun k X E ET hRt hXt q => ?_)
  show WS k 0 [(0, .ref (A 54)), (1, .int (Int32.ofInt x)), (2, .int (Int32.ofInt y)), (3, .int (Int32.ofInt z))] [] _ 0 0
  have F : Fm [] [] s s := fm_rf _ _ s
  have b1 := bi_32 I
  have b2 := bi_33 I
  have L13 : ∀ (n : Nat) (t : PS) (xv yv zv ah c : Int), Bd t → Fm [] [] s t → (NXN Q (23 - x).toNat (lnC s (x - 1).toNat) (y : Int).toNat z c) → ((xv = x ∧ yv = y ∧ zv = z) ∧ (1 ≤ x ∧ x ≤ 23) ∧ (0 ≤ y ∧ y ≤ 23 ∧ y ≤ (mm : Int)) ∧ rng z ∧ (0 ≤ ah ∧ ah ≤ 5 ∧ ah = iC s 51 (x - 1).toNat) ∧ (0 ≤ c ∧ c ≤ 6) ∧ iI s 32 = (pN Q : Int) ∧ iI t 32 = iI s 32) → (6 - c : Int).toNat < n → (∀ (t' : PS) (c' : Int), Bd t' → Fm [] [] s t' → (NXN Q (23 - x).toNat (lnC s (x - 1).toNat) (y : Int).toNat z c') → (iI s 32 ≤ c' ∧ iI s 32 = (pN Q : Int) ∧ (0 ≤ ah ∧ ah ≤ 5)) → WS k 92 [(0, .ref (A 54)), (1, .int (Int32.ofInt xv)), (2, .int (Int32.ofInt yv)), (3, .int (Int32.ofInt zv)), (4, .int (Int32.ofInt ah)), (5, .int (Int32.ofInt c'))] [] (Wd A dT t') 0 0) → WS k 13 [(0, .ref (A 54)), (1, .int (Int32.ofInt xv)), (2, .int (Int32.ofInt yv)), (3, .int (Int32.ofInt zv)), (4, .int (Int32.ofInt ah)), (5, .int (Int32.ofInt c))] [] (Wd A dT t) 0 0 := by
    intro n
    induction n with
    | zero =>
      intro t xv yv zv ah c I F hq hi hm kx
      exact absurd hm (Nat.not_lt_zero _)
    | succ n ih =>
      intro t xv yv zv ah c I F hq hi hm kx
      have b1001 := bi_32 I
      have b1002 := bi_33 I
      have hah : ((ah : Int)).toNat = (lnC s (x - 1).toNat) := by show _ = (iC s 51 (x - 1).toNat).toNat; omega
      refine z_load X (x := c) rfl (List.Mem.tail _ (List.Mem.tail _ (List.Mem.tail _ (List.Mem.tail _ (List.Mem.tail _ (List.Mem.head _)))))) (z_aload_n X (x := A 54) rfl (List.Mem.head _) (z_getI X 54 rfl (c518_ok rfl) rfl rfl ?_))
      have b1003 := bi_32 I
      refine z_icmp_ge X (t := 92) rfl rfl ⟨by first | exact oq_fa4e5087 hi.2.2.2.2.2.1.1 | omega, by first | exact oq_b301c3bf hi.2.2.2.2.2.1.2 | omega⟩ (rng_to _) (fun g1004 => ?_) (fun g1004 => ?_)
      ·
        refine WS_pq [0, 1, 2, 3, 4, 5] (lv' := [(0, .ref (A 54)), (1, .int (Int32.ofInt xv)), (2, .int (Int32.ofInt yv)), (3, .int (Int32.ofInt zv)), (4, .int (Int32.ofInt ah)), (5, .int (Int32.ofInt c))]) rfl ?_
        exact kx _ c I F hq (by first | exact ⟨oq_acf76229 g1004 hi.2.2.2.2.2.2.2, hi.2.2.2.2.2.2.1, hi.2.2.2.2.1.1, hi.2.2.2.2.1.2.1⟩ | omega)
      ·
        refine z_load X (x := c) rfl (List.Mem.tail _ (List.Mem.tail _ (List.Mem.tail _ (List.Mem.tail _ (List.Mem.tail _ (List.Mem.head _)))))) (z_load X (x := ah) rfl (List.Mem.tail _ (List.Mem.tail _ (List.Mem.tail _ (List.Mem.tail _ (List.Mem.head _))))) (z_icmp_ne X (t := 48) rfl rfl ⟨by first | exact oq_fa4e5087 hi.2.2.2.2.2.1.1 | omega, by first | exact oq_b301c3bf hi.2.2.2.2.2.1.2 | omega⟩ ⟨by first | exact oq_fa4e5087 hi.2.2.2.2.1.1 | omega, by first | exact oq_a3dd55e5 hi.2.2.2.2.1.2.1 | omega⟩ (fun g1005 => ?_) (fun g1005 => ?_)))
        ·
          refine z_load_n X (x := yv) rfl (List.Mem.tail _ (List.Mem.tail _ (List.Mem.head _))) (z_if_le X (t := 86) rfl rfl ⟨by first | exact oq_b3df2c6f hi.1.2.1 hi.2.2.1.1 | omega, by first | exact oq_9c540ca8 hi.1.2.1 hi.2.2.1.2.1 | omega⟩ (fun g1006 => ?_) (fun g1006 => ?_))
          ·
            refine z_inc X (x := c) (lv' := [(5, .int (Int32.ofInt (c + 1))), (0, .ref (A 54)), (1, .int (Int32.ofInt xv)), (2, .int (Int32.ofInt yv)), (3, .int (Int32.ofInt zv)), (4, .int (Int32.ofInt ah))]) rfl (by decide) (List.Mem.tail _ (List.Mem.tail _ (List.Mem.tail _ (List.Mem.tail _ (List.Mem.tail _ (List.Mem.head _)))))) (fun _ h => h) (z_goto X (t := 13) rfl rfl (WS_pq [1, 2, 3, 4, 5, 0] (lv' := [(0, .ref (A 54)), (1, .int (Int32.ofInt xv)), (2, .int (Int32.ofInt yv)), (3, .int (Int32.ofInt zv)), (4, .int (Int32.ofInt ah)), (5, .int (Int32.ofInt (c + 1)))]) rfl ?_))
            exact ih _ xv yv zv ah (c + 1) I F (nxn_up hq (by first | (clear g1005; omega) | omega) (nxc_n2 (w := 0) (by first | (clear g1005; omega) | omega) (Or.inl (by first | (clear g1005; omega) | omega)))) (by first | exact ⟨And.intro (hi.1.1) (And.intro (hi.1.2.1) (hi.1.2.2)), And.intro (hi.2.1.1) (hi.2.1.2), And.intro (hi.2.2.1.1) (And.intro (hi.2.2.1.2.1) (hi.2.2.1.2.2)), And.intro (hi.2.2.2.1.1) (hi.2.2.2.1.2), And.intro (hi.2.2.2.2.1.1) (And.intro (hi.2.2.2.2.1.2.1) (hi.2.2.2.2.1.2.2)), And.intro (oq_54f49eb5 hi.2.2.2.2.2.1.1) (oq_d2f4feca g1004 b1003.2), hi.2.2.2.2.2.2.1, hi.2.2.2.2.2.2.2⟩ | omega) (by first | exact qk_me hm (by decide) (oq_4619bacb g1004 b1003.2) | omega) kx
          ·
            have hbs := p4 (x : Int).toNat (by first | (clear g1005; omega) | omega)
            have hl9 : iC t 49 (xv : Int).toNat = iC s 49 (x : Int).toNat := by rw [show xv = x by first | (clear g1005; omega) | omega]; exact fm_c F List.not_mem_nil
            have hb9 : iI t 33 = iI s 33 := fm_i F List.not_mem_nil
            refine z_aload_n X (x := A 54) rfl (List.Mem.head _) (s_getR X 54 rfl (c518_ok rfl) rfl rfl (z_load_n X (x := xv) rfl (List.Mem.tail _ (List.Mem.head _)) (z_ald X 58 rfl (c518_ok rfl) rfl (by first | exact oq_4b726db9 hi.1.1 hi.2.1.1 | omega) (show xv < 24 by first | exact oq_7bc9fe9b hi.1.1 hi.2.1.2 | omega) (cbig_ok rfl) ?_)))
            have b1007 := bc_49 I (show (xv).toNat < 24 by first | exact oq_d0122714 hi.1.1 hi.2.1.2 | omega)
            refine z_aload_n X (x := A 54) rfl (List.Mem.head _) (z_getI X 54 rfl (c518_ok rfl) rfl rfl ?_)
            have b1008 := bi_33 I
            refine z_icmp_gt X (t := 86) rfl rfl (rng_to _) (rng_to _) (fun g1009 => ?_) (fun g1009 => ?_)
            ·
              refine z_inc X (x := c) (lv' := [(5, .int (Int32.ofInt (c + 1))), (0, .ref (A 54)), (1, .int (Int32.ofInt xv)), (2, .int (Int32.ofInt yv)), (3, .int (Int32.ofInt zv)), (4, .int (Int32.ofInt ah))]) rfl (by decide) (List.Mem.tail _ (List.Mem.tail _ (List.Mem.tail _ (List.Mem.tail _ (List.Mem.tail _ (List.Mem.head _)))))) (fun _ h => h) (z_goto X (t := 13) rfl rfl (WS_pq [1, 2, 3, 4, 5, 0] (lv' := [(0, .ref (A 54)), (1, .int (Int32.ofInt xv)), (2, .int (Int32.ofInt yv)), (3, .int (Int32.ofInt zv)), (4, .int (Int32.ofInt ah)), (5, .int (Int32.ofInt (c + 1)))]) rfl ?_))
              exact ih _ xv yv zv ah (c + 1) I F (nxn_up hq (by first | (clear g1005; omega) | omega) (nxc_n2 (w := 0) (by first | (clear g1005; omega) | omega) (Or.inr (Or.inl (by rw [show 23 - (23 - x).toNat = (x : Int).toNat by first | (clear g1005; omega) | omega]; exact hbs.mpr (by first | (clear g1005; omega) | omega)))))) (by first | exact ⟨And.intro (hi.1.1) (And.intro (hi.1.2.1) (hi.1.2.2)), And.intro (hi.2.1.1) (hi.2.1.2), And.intro (hi.2.2.1.1) (And.intro (hi.2.2.1.2.1) (hi.2.2.1.2.2)), And.intro (hi.2.2.2.1.1) (hi.2.2.2.1.2), And.intro (hi.2.2.2.2.1.1) (And.intro (hi.2.2.2.2.1.2.1) (hi.2.2.2.2.1.2.2)), And.intro (oq_54f49eb5 hi.2.2.2.2.2.1.1) (oq_d2f4feca g1004 b1003.2), hi.2.2.2.2.2.2.1, hi.2.2.2.2.2.2.2⟩ | omega) (by first | exact qk_me hm (by decide) (oq_4619bacb g1004 b1003.2) | omega) kx
            ·
              refine z_aload_n X (x := A 54) rfl (List.Mem.head _) (s_getR X 54 rfl (c518_ok rfl) rfl rfl (z_load_n X (x := xv) rfl (List.Mem.tail _ (List.Mem.head _)) (z_load X (x := c) rfl (List.Mem.tail _ (List.Mem.tail _ (List.Mem.tail _ (List.Mem.tail _ (List.Mem.tail _ (List.Mem.head _)))))) (z_load_n X (x := yv) rfl (List.Mem.tail _ (List.Mem.tail _ (List.Mem.head _))) (z_const X rfl (z_sub X rfl (z_callS X (rm := rmN 49) (As := [.int (Int32.ofInt xv), .int (Int32.ofInt c), .int (Int32.ofInt (yv - 1))]) (st := [.ref (A 59)]) rfl rfl (by rw [E.1, E.2.1, E.2.2.1]; exact c4_placeOf G I (by first | exact ⟨oq_4b726db9 hi.1.1 hi.2.1.1, oq_baafdcc9 hi.1.1 hi.2.1.2⟩ | omega) (by first | exact ⟨hi.2.2.2.2.2.1.1, oq_4af6a0a9 g1004 b1003.2⟩ | omega) (by first | exact ⟨oq_a4f22177 g1006, oq_5b204a04 hi.1.2.1 hi.2.2.1.2.1⟩ | omega)) ⟨by rw [E.2.2.2]; exact (show (rmN 49).frames + 1 ≤ (rmN 52).frames by decide), by rw [E.2.2.2]; exact (show 8 + (mNL (miB 49) + 11) + (rmN 49).locals ≤ (rmN 52).locals by decide), by rw [E.2.2.2]; exact (show 0 + (rmN 49).cells ≤ (rmN 52).cells by decide), by rw [E.2.2.2]; exact (show 0 + (rmN 49).slots ≤ (rmN 52).slots by decide)⟩ (Nat.le_of_ble_eq_true rfl) (fun vv s1010 hq => ?_) (fun ee s1010 hq => ?_))))))))
              rotate_left
              · obtain ⟨rfl, e1011, hv, hrs1010, hps1010⟩ := hq; cases hv
              obtain ⟨rfl, e1011, hv, hrs1010, hps1010⟩ := hq
              cases hv
              show WS k 78 [(0, .ref (A 54)), (1, .int (Int32.ofInt xv)), (2, .int (Int32.ofInt yv)), (3, .int (Int32.ofInt zv)), (4, .int (Int32.ofInt ah)), (5, .int (Int32.ofInt c))] [.int (Int32.ofInt e1011), .ref (A 59)] (Wd A dT t) 0 0
              refine z_ald X 59 rfl (c518_ok rfl) rfl (by first | exact oq_b875fd30 hps1010 hi.1.1 hi.2.2.2.2.2.1.1 g1006 hi.2.1.1 | omega) (show e1011 < 3456 by first | exact oq_87744e2b hps1010 g1004 b1003.2 hi.2.2.1.2.1 hi.2.1.2 hi.1.2.1 hi.1.1 | omega) (cbig_ok rfl) ?_
              have b1012 := bc_50 I (show (e1011).toNat < 3456 by first | exact oq_0fdd6547 hps1010 g1004 b1003.2 hi.2.2.1.2.1 hi.2.1.2 hi.1.2.1 hi.1.1 | omega)
              have hw2 : (iC t 50 (e1011).toNat) = wP Q (23 - x).toNat (c : Int).toNat ((y : Int).toNat - 1) := by have h9 := fwb_at (fwb_s p3 (sam_fm F List.not_mem_nil)) (c := c) (k := y - 1) (e := e1011) (by first | (clear g1005; omega) | omega) (by first | (clear g1005; omega) | omega) (by have h8 := hps1010; omega); rw [show (y - 1).toNat = (y : Int).toNat - 1 by first | (clear g1005; omega) | omega] at h9; exact h9
              refine z_load_n X (x := zv) rfl (List.Mem.tail _ (List.Mem.tail _ (List.Mem.tail _ (List.Mem.head _)))) (z_icmp_ne X (t := 86) rfl rfl (rng_to _) ⟨by first | exact oq_6bc29d15 hi.1.2.2 hi.2.2.2.1.1 | omega, by first | exact oq_60a194f9 hi.1.2.2 hi.2.2.2.1.2 | omega⟩ (fun g1013 => ?_) (fun g1013 => ?_))
              ·
                refine z_inc X (x := c) (lv' := [(5, .int (Int32.ofInt (c + 1))), (0, .ref (A 54)), (1, .int (Int32.ofInt xv)), (2, .int (Int32.ofInt yv)), (3, .int (Int32.ofInt zv)), (4, .int (Int32.ofInt ah))]) rfl (by decide) (List.Mem.tail _ (List.Mem.tail _ (List.Mem.tail _ (List.Mem.tail _ (List.Mem.tail _ (List.Mem.head _)))))) (fun _ h => h) (z_goto X (t := 13) rfl rfl (WS_pq [1, 2, 3, 4, 5, 0] (lv' := [(0, .ref (A 54)), (1, .int (Int32.ofInt xv)), (2, .int (Int32.ofInt yv)), (3, .int (Int32.ofInt zv)), (4, .int (Int32.ofInt ah)), (5, .int (Int32.ofInt (c + 1)))]) rfl ?_))
                exact ih _ xv yv zv ah (c + 1) I F (nxn_up hq (by first | (clear g1013 g1005; omega) | (clear g1005; omega) | omega) (nxc_n2 (by first | (clear g1013 g1005; omega) | (clear g1005; omega) | omega) (Or.inr (Or.inr ⟨hw2, by first | (clear g1013 g1005; omega) | (clear g1005; omega) | omega⟩)))) (by first | exact ⟨And.intro (hi.1.1) (And.intro (hi.1.2.1) (hi.1.2.2)), And.intro (hi.2.1.1) (hi.2.1.2), And.intro (hi.2.2.1.1) (And.intro (hi.2.2.1.2.1) (hi.2.2.1.2.2)), And.intro (hi.2.2.2.1.1) (hi.2.2.2.1.2), And.intro (hi.2.2.2.2.1.1) (And.intro (hi.2.2.2.2.1.2.1) (hi.2.2.2.2.1.2.2)), And.intro (oq_54f49eb5 hi.2.2.2.2.2.1.1) (oq_d2f4feca g1004 b1003.2), hi.2.2.2.2.2.2.1, hi.2.2.2.2.2.2.2⟩ | omega) (by first | exact qk_me hm (by decide) (oq_4619bacb g1004 b1003.2) | omega) kx
              ·
                refine z_load X (x := c) rfl (List.Mem.tail _ (List.Mem.tail _ (List.Mem.tail _ (List.Mem.tail _ (List.Mem.tail _ (List.Mem.head _)))))) ?_
                exact w_iret X.1 q hRt rfl (ax_d X (show cdA 52 85 = some (.ireturn, 1, 0, 0, 0) from rfl)) (Nat.zero_le _) (Nat.zero_le _) ⟨_, rfl, I, F, c, rfl, ⟨by first | exact oq_fa4e5087 hi.2.2.2.2.2.1.1 | omega, by first | exact oq_b301c3bf hi.2.2.2.2.2.1.2 | omega⟩, ⟨by first | (clear g1005; omega) | omega, nxc_y2 (by first | (clear g1005; omega) | omega) (by first | (clear g1005; omega) | omega) (by rw [show 23 - (23 - x).toNat = (x : Int).toNat by first | (clear g1005; omega) | omega]; exact fun h => absurd (hbs.mp h) (by first | (clear g1005; omega) | omega)) hw2 (by first | (clear g1005; omega) | omega), hq⟩⟩
        ·
          refine z_aload_n X (x := A 54) rfl (List.Mem.head _) (s_getR X 54 rfl (c518_ok rfl) rfl rfl (z_load_n X (x := xv) rfl (List.Mem.tail _ (List.Mem.head _)) (z_load X (x := c) rfl (List.Mem.tail _ (List.Mem.tail _ (List.Mem.tail _ (List.Mem.tail _ (List.Mem.tail _ (List.Mem.head _)))))) (z_load_n X (x := yv) rfl (List.Mem.tail _ (List.Mem.tail _ (List.Mem.head _))) (z_callS X (rm := rmN 49) (As := [.int (Int32.ofInt xv), .int (Int32.ofInt c), .int (Int32.ofInt yv)]) (st := [.ref (A 59)]) rfl rfl (by rw [E.1, E.2.1, E.2.2.1]; exact c4_placeOf G I (by first | exact ⟨oq_4b726db9 hi.1.1 hi.2.1.1, oq_baafdcc9 hi.1.1 hi.2.1.2⟩ | omega) (by first | exact ⟨hi.2.2.2.2.2.1.1, oq_e4712df0 g1005 hi.2.2.2.2.1.2.1⟩ | omega) (by first | exact ⟨oq_e4757433 hi.1.2.1 hi.2.2.1.1, oq_baafdcc9 hi.1.2.1 hi.2.2.1.2.1⟩ | omega)) ⟨by rw [E.2.2.2]; exact (show (rmN 49).frames + 1 ≤ (rmN 52).frames by decide), by rw [E.2.2.2]; exact (show 8 + (mNL (miB 49) + 11) + (rmN 49).locals ≤ (rmN 52).locals by decide), by rw [E.2.2.2]; exact (show 0 + (rmN 49).cells ≤ (rmN 52).cells by decide), by rw [E.2.2.2]; exact (show 0 + (rmN 49).slots ≤ (rmN 52).slots by decide)⟩ (Nat.le_of_ble_eq_true rfl) (fun vv s1014 hq => ?_) (fun ee s1014 hq => ?_))))))
          rotate_left
          · obtain ⟨rfl, e1015, hv, hrs1014, hps1014⟩ := hq; cases hv
          obtain ⟨rfl, e1015, hv, hrs1014, hps1014⟩ := hq
          cases hv
          show WS k 40 [(0, .ref (A 54)), (1, .int (Int32.ofInt xv)), (2, .int (Int32.ofInt yv)), (3, .int (Int32.ofInt zv)), (4, .int (Int32.ofInt ah)), (5, .int (Int32.ofInt c))] [.int (Int32.ofInt e1015), .ref (A 59)] (Wd A dT t) 0 0
          refine z_ald X 59 rfl (c518_ok rfl) rfl (by first | exact oq_6a6a145c hps1014 hi.2.2.2.2.2.1.1 hi.2.2.1.1 hi.2.1.1 hi.1.2.1 hi.1.1 | omega) (show e1015 < 3456 by first | exact oq_8d0b79a1 hps1014 g1005 hi.2.2.2.2.1.2.1 hi.2.2.1.2.1 hi.2.1.2 hi.1.2.1 hi.1.1 | omega) (cbig_ok rfl) ?_
          have b1016 := bc_50 I (show (e1015).toNat < 3456 by first | exact oq_8ee08544 hps1014 g1005 hi.2.2.2.2.1.2.1 hi.2.2.1.2.1 hi.2.1.2 hi.1.2.1 hi.1.1 | omega)
          have hw1 : (iC t 50 (e1015).toNat) = wP Q (23 - x).toNat (c : Int).toNat (y : Int).toNat := by have h9 := fwb_at (fwb_s p3 (sam_fm F List.not_mem_nil)) (c := c) (k := y) (e := e1015) (by omega) (by omega) (by have h8 := hps1014; omega); exact h9
          refine z_load_n X (x := zv) rfl (List.Mem.tail _ (List.Mem.tail _ (List.Mem.tail _ (List.Mem.head _)))) (z_icmp_ne X (t := 86) rfl rfl (rng_to _) ⟨by first | exact oq_6bc29d15 hi.1.2.2 hi.2.2.2.1.1 | omega, by first | exact oq_60a194f9 hi.1.2.2 hi.2.2.2.1.2 | omega⟩ (fun g1017 => ?_) (fun g1017 => ?_))
          ·
            refine z_inc X (x := c) (lv' := [(5, .int (Int32.ofInt (c + 1))), (0, .ref (A 54)), (1, .int (Int32.ofInt xv)), (2, .int (Int32.ofInt yv)), (3, .int (Int32.ofInt zv)), (4, .int (Int32.ofInt ah))]) rfl (by decide) (List.Mem.tail _ (List.Mem.tail _ (List.Mem.tail _ (List.Mem.tail _ (List.Mem.tail _ (List.Mem.head _)))))) (fun _ h => h) (z_goto X (t := 13) rfl rfl (WS_pq [1, 2, 3, 4, 5, 0] (lv' := [(0, .ref (A 54)), (1, .int (Int32.ofInt xv)), (2, .int (Int32.ofInt yv)), (3, .int (Int32.ofInt zv)), (4, .int (Int32.ofInt ah)), (5, .int (Int32.ofInt (c + 1)))]) rfl ?_))
            exact ih _ xv yv zv ah (c + 1) I F (nxn_up hq (by first | (clear g1017; omega) | omega) (nxc_n1 (by first | (clear g1017; omega) | omega) hw1 (by first | (clear g1017; omega) | omega))) (by first | exact ⟨And.intro (hi.1.1) (And.intro (hi.1.2.1) (hi.1.2.2)), And.intro (hi.2.1.1) (hi.2.1.2), And.intro (hi.2.2.1.1) (And.intro (hi.2.2.1.2.1) (hi.2.2.1.2.2)), And.intro (hi.2.2.2.1.1) (hi.2.2.2.1.2), And.intro (hi.2.2.2.2.1.1) (And.intro (hi.2.2.2.2.1.2.1) (hi.2.2.2.2.1.2.2)), And.intro (oq_54f49eb5 hi.2.2.2.2.2.1.1) (oq_8b7431d5 g1005 hi.2.2.2.2.1.2.1), hi.2.2.2.2.2.2.1, hi.2.2.2.2.2.2.2⟩ | omega) (by first | exact qk_me hm (by decide) (oq_ac916594 g1005 hi.2.2.2.2.1.2.1) | omega) kx
          ·
            refine z_load X (x := c) rfl (List.Mem.tail _ (List.Mem.tail _ (List.Mem.tail _ (List.Mem.tail _ (List.Mem.tail _ (List.Mem.head _)))))) ?_
            exact w_iret X.1 q hRt rfl (ax_d X (show cdA 52 47 = some (.ireturn, 1, 0, 0, 0) from rfl)) (Nat.zero_le _) (Nat.zero_le _) ⟨_, rfl, I, F, c, rfl, ⟨by first | exact oq_fa4e5087 hi.2.2.2.2.2.1.1 | omega, by first | exact oq_b301c3bf hi.2.2.2.2.2.1.2 | omega⟩, ⟨by omega, nxc_y1 (by omega) hw1 (by omega), hq⟩⟩
  refine z_aload_n X (x := A 54) rfl (List.Mem.head _) (s_getR X 54 rfl (c518_ok rfl) rfl rfl (z_load_n X (x := x) rfl (List.Mem.tail _ (List.Mem.head _)) (z_const X rfl (z_sub X rfl (z_ald X 60 rfl (c518_ok rfl) rfl (by first | exact oq_02aa5459 p0.1 | omega) (show (x - 1) < 24 by first | exact oq_748293e5 p0.2 | omega) (cbig_ok rfl) ?_)))))
  have b3 := bc_51 I (show ((x - 1)).toNat < 24 by first | exact oq_15f19a7c p0.2 | omega)
  refine z_store X (lv' := [(4, .int (Int32.ofInt (iC s 51 ((x - 1)).toNat))), (0, .ref (A 54)), (1, .int (Int32.ofInt x)), (2, .int (Int32.ofInt y)), (3, .int (Int32.ofInt z))]) rfl (by decide) (fun _ h => h) (z_const X rfl (z_store X (lv' := [(5, .int (Int32.ofInt 0)), (4, .int (Int32.ofInt (iC s 51 ((x - 1)).toNat))), (0, .ref (A 54)), (1, .int (Int32.ofInt x)), (2, .int (Int32.ofInt y)), (3, .int (Int32.ofInt z))]) rfl (by decide) (fun _ h => h) (WS_pq [2, 3, 4, 5, 1, 0] (lv' := [(0, .ref (A 54)), (1, .int (Int32.ofInt x)), (2, .int (Int32.ofInt y)), (3, .int (Int32.ofInt z)), (4, .int (Int32.ofInt (iC s 51 ((x - 1)).toNat))), (5, .int (Int32.ofInt 0))]) rfl (L13 ((6 - 0 : Int).toNat + 1) s x y z (iC s 51 ((x - 1)).toNat) 0 I F nxn_0 (by first | exact ⟨And.intro (by decide) (And.intro (by decide) (by decide)), And.intro (p0.1) (p0.2), And.intro (p1.1) (And.intro (p1.2.1) (p1.2.2)), And.intro (p2.1) (p2.2), And.intro (b3.1) (And.intro (b3.2) (by decide)), And.intro (by decide) (by decide), p5, by decide⟩ | omega) (Nat.lt_succ_self _) ?_))))
  intro s4 x5 Is4 Fs4 Qs4 hs4
  have b6 := bi_32 Is4
  have b7 := bi_33 Is4
  refine z_load X (x := (iC s 51 ((x - 1)).toNat)) rfl (List.Mem.tail _ (List.Mem.tail _ (List.Mem.tail _ (List.Mem.tail _ (List.Mem.head _))))) ?_
  exact w_iret X.1 q hRt rfl (ax_d X (show cdA 52 94 = some (.ireturn, 1, 0, 0, 0) from rfl)) (Nat.zero_le _) (Nat.zero_le _) ⟨_, rfl, Is4, Fs4, (iC s 51 ((x - 1)).toNat), rfl, (rng_to _), (by exfalso; exact nxn_e Qs4 (by omega) p6)⟩
set_option maxRecDepth 4000 in
theorem c4_choose7 (G : GX l s0 D tys a0 dT) {Q : PlD} {mm : Nat} (I : Bd s) {x : Int} (p0 : 0 ≤ x ∧ x ≤ 23) (p1 : x = (mm : Int)) (p2 : FWA Q mm s) (p3 : JND Q s) (p4 : BSY Q s) (p5 : iI s 32 = (pN Q : Int)) (p6 : nDP Q) : CT l s0 D A dT 51 (rmN 51) [.ref (A 54), .int (Int32.ofInt x)] s (fun o t => Bd t ∧ Fm [34, 35] [51] s t ∧ ∃ e, o = .inl (some (.int (Int32.ofInt e))) ∧ rng e ∧ ((e = 0 ∨ e = 1) ∧ PLE Q mm t e)) := by
  refine ct_ofX G (by decide) (Nat.le_of_ble_eq_true rfl) (fun k X E ET hRt hXt q => ?_)
  show WS k 0 [(0, .ref (A 54)), (1, .int (Int32.ofInt x))] [] _ 0 0
  have F : Fm [34, 35] [51] s s := fm_rf _ _ s
  have aw0_51 : SAM 51 s s := sam_rf
  have b1 := bi_32 I
  have b2 := bi_35 I
  have b3 := bi_34 I
  have L27 : ∀ (n : Nat) (t : PS) (xv kk c : Int), Bd t → Fm [34, 35] [51] s t → (BSO Q kk c t) → ((xv = x ∧ 0 ≤ x ∧ x ≤ 23 ∧ x = (mm : Int)) ∧ (iI t 32 = iI s 32 ∧ iI s 32 = (pN Q : Int) ∧ iI s 32 ≤ 6) ∧ (0 ≤ kk ∧ kk ≤ x) ∧ (0 ≤ c ∧ c ≤ iI s 32)) → (6 - c : Int).toNat < n → (∀ (t' : PS) (c' : Int), Bd t' → Fm [34, 35] [51] s t' → (BSO Q kk c' t') → ((xv = x ∧ 0 ≤ x ∧ x ≤ 23 ∧ x = (mm : Int)) ∧ (iI t' 32 = iI s 32 ∧ iI s 32 = (pN Q : Int) ∧ iI s 32 ≤ 6) ∧ (0 ≤ kk ∧ kk ≤ x) ∧ c' = iI s 32) → WS k 81 [(0, .ref (A 54)), (1, .int (Int32.ofInt xv)), (2, .int (Int32.ofInt kk)), (3, .int (Int32.ofInt c'))] [] (Wd A dT t') 0 0) → WS k 27 [(0, .ref (A 54)), (1, .int (Int32.ofInt xv)), (2, .int (Int32.ofInt kk)), (3, .int (Int32.ofInt c))] [] (Wd A dT t) 0 0 := by
    intro n
    induction n with
    | zero =>
      intro t xv kk c I F hq hi hm kx
      exact absurd hm (Nat.not_lt_zero _)
    | succ n ih =>
      intro t xv kk c I F hq hi hm kx
      have b1001 := bi_32 I
      have b1002 := bi_35 I
      have b1003 := bi_34 I
      refine z_load_n X (x := c) rfl (List.Mem.tail _ (List.Mem.tail _ (List.Mem.tail _ (List.Mem.head _)))) (z_aload_n X (x := A 54) rfl (List.Mem.head _) (z_getI X 54 rfl (c518_ok rfl) rfl rfl ?_))
      have b1004 := bi_32 I
      refine z_icmp_ge X (t := 81) rfl rfl ⟨by first | exact oq_fa4e5087 hi.2.2.2.1 | omega, by first | exact oq_a893734d hi.2.2.2.2 hi.2.1.2.2 | omega⟩ (rng_to _) (fun g1005 => ?_) (fun g1005 => ?_)
      ·
        refine WS_pq [0, 1, 2, 3] (lv' := [(0, .ref (A 54)), (1, .int (Int32.ofInt xv)), (2, .int (Int32.ofInt kk)), (3, .int (Int32.ofInt c))]) rfl ?_
        exact kx _ c I F hq (by first | exact ⟨And.intro (hi.1.1) (And.intro (hi.1.2.1) (And.intro (hi.1.2.2.1) (hi.1.2.2.2))), And.intro (hi.2.1.1) (And.intro (hi.2.1.2.1) (hi.2.1.2.2)), And.intro (hi.2.2.1.1) (hi.2.2.1.2), oq_537ca82a hi.2.2.2.2 g1005 hi.2.1.1⟩ | omega)
      ·
        refine z_aload_n X (x := A 54) rfl (List.Mem.head _) (s_getR X 54 rfl (c518_ok rfl) rfl rfl (z_const X rfl (z_load_n X (x := c) rfl (List.Mem.tail _ (List.Mem.tail _ (List.Mem.tail _ (List.Mem.head _)))) (z_load_n X (x := kk) rfl (List.Mem.tail _ (List.Mem.tail _ (List.Mem.head _))) (z_callS X (rm := rmN 49) (As := [.int (Int32.ofInt 0), .int (Int32.ofInt c), .int (Int32.ofInt kk)]) (st := [.ref (A 59)]) rfl rfl (by rw [E.1, E.2.1, E.2.2.1]; exact c4_placeOf G I (by first | exact ⟨by decide, by decide⟩ | omega) (by first | exact ⟨hi.2.2.2.1, oq_4af6a0a9 g1005 b1004.2⟩ | omega) (by first | exact ⟨hi.2.2.1.1, oq_943835ba hi.2.2.1.2 hi.1.2.2.1⟩ | omega)) ⟨by rw [E.2.2.2]; exact (show (rmN 49).frames + 1 ≤ (rmN 51).frames by decide), by rw [E.2.2.2]; exact (show 8 + (mNL (miB 49) + 11) + (rmN 49).locals ≤ (rmN 51).locals by decide), by rw [E.2.2.2]; exact (show 0 + (rmN 49).cells ≤ (rmN 51).cells by decide), by rw [E.2.2.2]; exact (show 0 + (rmN 49).slots ≤ (rmN 51).slots by decide)⟩ (Nat.le_of_ble_eq_true rfl) (fun vv s1006 hq => ?_) (fun ee s1006 hq => ?_))))))
        rotate_left
        · obtain ⟨rfl, e1007, hv, hrs1006, hps1006⟩ := hq; cases hv
        obtain ⟨rfl, e1007, hv, hrs1006, hps1006⟩ := hq
        cases hv
        show WS k 45 [(0, .ref (A 54)), (1, .int (Int32.ofInt xv)), (2, .int (Int32.ofInt kk)), (3, .int (Int32.ofInt c))] [.int (Int32.ofInt e1007), .ref (A 59)] (Wd A dT t) 0 0
        refine z_ald X 59 rfl (c518_ok rfl) rfl (by first | exact oq_73ace697 hps1006 hi.2.2.2.1 hi.2.2.1.1 | omega) (show e1007 < 3456 by first | exact oq_f73af9fd hps1006 hi.2.2.1.2 g1005 b1004.2 hi.1.2.2.1 | omega) (cbig_ok rfl) ?_
        have b1008 := bc_50 I (show (e1007).toNat < 3456 by first | exact oq_c218a581 hps1006 hi.2.2.1.2 g1005 b1004.2 hi.1.2.2.1 | omega)
        refine z_store X (lv' := [(4, .int (Int32.ofInt (iC t 50 (e1007).toNat))), (0, .ref (A 54)), (1, .int (Int32.ofInt xv)), (2, .int (Int32.ofInt kk)), (3, .int (Int32.ofInt c))]) rfl (by decide) (fun _ h => h) ?_
        have hw : (iC t 50 (e1007).toNat) = wP Q 23 (c : Int).toNat (kk : Int).toNat := by have h9 := fwa_at (fwa_s p2 (sam_fm F (by decide))) (q := 0) (c := c) (k := kk) (e := e1007) (by omega) (by omega) (by omega) (by have h8 := hps1006; omega); rw [show (23 - 0 : Int).toNat = 23 by omega] at h9; exact h9
        refine z_load X (x := (iC t 50 (e1007).toNat)) rfl (List.Mem.head _) (z_aload_n X (x := A 54) rfl (List.Mem.tail _ (List.Mem.head _)) (z_getI X 54 rfl (c518_ok rfl) rfl rfl ?_))
        have b1009 := bi_34 I
        refine z_icmp_ge X (t := 75) rfl rfl (rng_to _) (rng_to _) (fun g1010 => ?_) (fun g1010 => ?_)
        ·
          refine z_inc X (x := c) (lv' := [(3, .int (Int32.ofInt (c + 1))), (4, .int (Int32.ofInt (iC t 50 (e1007).toNat))), (0, .ref (A 54)), (1, .int (Int32.ofInt xv)), (2, .int (Int32.ofInt kk))]) rfl (by decide) (List.Mem.tail _ (List.Mem.tail _ (List.Mem.tail _ (List.Mem.tail _ (List.Mem.head _))))) (fun _ h => h) (z_goto X (t := 27) rfl rfl (WS_pq [2, 3, 4, 0] (lv' := [(0, .ref (A 54)), (1, .int (Int32.ofInt xv)), (2, .int (Int32.ofInt kk)), (3, .int (Int32.ofInt (c + 1)))]) rfl ?_))
          exact ih _ xv kk (c + 1) I F (bso_no hq p6 (by omega) (by omega) hw (by omega)) (by first | exact ⟨And.intro (hi.1.1) (And.intro (hi.1.2.1) (And.intro (hi.1.2.2.1) (hi.1.2.2.2))), And.intro (hi.2.1.1) (And.intro (hi.2.1.2.1) (hi.2.1.2.2)), And.intro (hi.2.2.1.1) (hi.2.2.1.2), oq_54f49eb5 hi.2.2.2.1, oq_8a89b3ae g1005 hi.2.1.1⟩ | omega) (by first | exact qk_me hm (by decide) (oq_4619bacb g1005 b1004.2) | omega) kx
        ·
          refine z_aload_n X (x := A 54) rfl (List.Mem.tail _ (List.Mem.head _)) (z_load X (x := (iC t 50 (e1007).toNat)) rfl (List.Mem.head _) (s_putI X 54 rfl (c518_ok rfl) rfl rfl (by decide) rfl rfl rfl (wd_gen (fun s1011 hs1011 => ?_))))
          have Is1011 : Bd s1011 := eqB hs1011 (bd_I I (show ((-2147483648) : Int) ≤ (iC t 50 (e1007).toNat) ∧ (iC t 50 (e1007).toNat) ≤ 2147483647 by first | exact ⟨b1008.1, b1008.2⟩ | omega) (rng_to _))
          have Fs1011 := eqF hs1011 (fm_I F (inl_ok (a := 34) rfl))
          have vs1011 : iI s1011 34 = (iC t 50 (e1007).toNat) := eqI hs1011 (iI_u (rng_to _))
          have ws1011_32 : iI s1011 32 = iI t 32 := eqI hs1011 rfl
          have ws1011_35 : iI s1011 35 = iI t 35 := eqI hs1011 rfl
          have aws1011_51 : SAM 51 t s1011 := by rw [hs1011]; exact (sam_rf (a := 51) (s := t))
          refine z_aload_n X (x := A 54) rfl (List.Mem.tail _ (List.Mem.head _)) (z_load_n X (x := kk) rfl (List.Mem.tail _ (List.Mem.tail _ (List.Mem.tail _ (List.Mem.head _)))) (s_putI X 54 rfl (c518_ok rfl) rfl rfl (by decide) rfl rfl rfl (wd_gen (fun s1012 hs1012 => ?_))))
          have Is1012 : Bd s1012 := eqB hs1012 (bd_I Is1011 (show (0 : Int) ≤ kk ∧ kk ≤ 23 by first | exact ⟨hi.2.2.1.1, oq_943835ba hi.2.2.1.2 hi.1.2.2.1⟩ | omega) ⟨by first | exact oq_fa4e5087 hi.2.2.1.1 | omega, by first | exact oq_7c6846ed hi.2.2.1.2 hi.1.2.2.1 | omega⟩)
          have Fs1012 := eqF hs1012 (fm_I Fs1011 (inl_ok (a := 35) rfl))
          have vs1012 : iI s1012 35 = kk := eqI hs1012 (iI_u ⟨by first | exact oq_fa4e5087 hi.2.2.1.1 | omega, by first | exact oq_7c6846ed hi.2.2.1.2 hi.1.2.2.1 | omega⟩)
          have ws1012_32 : iI s1012 32 = iI s1011 32 := eqI hs1012 rfl
          have ws1012_34 : iI s1012 34 = iI s1011 34 := eqI hs1012 rfl
          have aws1012_51 : SAM 51 t s1012 := by rw [hs1012]; exact aws1011_51
          refine z_aload_n X (x := A 54) rfl (List.Mem.tail _ (List.Mem.head _)) (s_getR X 54 rfl (c518_ok rfl) rfl rfl (z_const X rfl (z_load_n X (x := c) rfl (List.Mem.tail _ (List.Mem.tail _ (List.Mem.tail _ (List.Mem.tail _ (List.Mem.head _))))) (z_ast X 60 rfl (c518_ok rfl) rfl (by decide) (show 0 < 24 by decide) (cbig_ok rfl) (wd_gen (fun s1013 hs1013 => ?_))))))
          have Is1013 : Bd s1013 := eqB hs1013 (bd_C Is1012 (show (0 : Int) ≤ c ∧ c ≤ 5 by first | exact ⟨hi.2.2.2.1, oq_4af6a0a9 g1005 b1004.2⟩ | omega) ⟨by first | exact oq_fa4e5087 hi.2.2.2.1 | omega, by first | exact oq_69e35689 g1005 b1004.2 | omega⟩)
          have Fs1013 := eqF hs1013 (fm_C Fs1012 (inl_ok (a := 51) rfl))
          have ws1013_32 : iI s1013 32 = iI s1012 32 := eqI hs1013 rfl
          have ws1013_35 : iI s1013 35 = iI s1012 35 := eqI hs1013 rfl
          have ws1013_34 : iI s1013 34 = iI s1012 34 := eqI hs1013 rfl
          have aws1013_51 : UPD 51 (0 : Int) c t s1013 := by rw [hs1013]; exact upd_put aws1012_51 ⟨by first | exact oq_fa4e5087 hi.2.2.2.1 | omega, by first | exact oq_69e35689 g1005 b1004.2 | omega⟩
          refine z_inc X (x := c) (lv' := [(3, .int (Int32.ofInt (c + 1))), (4, .int (Int32.ofInt (iC t 50 (e1007).toNat))), (0, .ref (A 54)), (1, .int (Int32.ofInt xv)), (2, .int (Int32.ofInt kk))]) rfl (by decide) (List.Mem.tail _ (List.Mem.tail _ (List.Mem.tail _ (List.Mem.tail _ (List.Mem.head _))))) (fun _ h => h) (z_goto X (t := 27) rfl rfl (WS_pq [2, 3, 4, 0] (lv' := [(0, .ref (A 54)), (1, .int (Int32.ofInt xv)), (2, .int (Int32.ofInt kk)), (3, .int (Int32.ofInt (c + 1)))]) rfl ?_))
          exact ih _ xv kk (c + 1) Is1013 Fs1013 (bso_y hq p6 (by omega) (by omega) hw (by omega) (by omega) (by omega) (show iC s1013 51 0 = c from aws1013_51.1)) (by first | exact ⟨And.intro (hi.1.1) (And.intro (hi.1.2.1) (And.intro (hi.1.2.2.1) (hi.1.2.2.2))), And.intro (oq_ac0e91e1 ws1013_32 ws1012_32 ws1011_32 hi.2.1.1) (And.intro (hi.2.1.2.1) (hi.2.1.2.2)), And.intro (hi.2.2.1.1) (hi.2.2.1.2), oq_54f49eb5 hi.2.2.2.1, oq_8a89b3ae g1005 hi.2.1.1⟩ | omega) (by first | exact qk_me hm (by decide) (oq_4619bacb g1005 b1004.2) | omega) kx
  have L20 : ∀ (n : Nat) (t : PS) (xv kk : Int), Bd t → Fm [34, 35] [51] s t → (BSO Q kk 0 t) → ((xv = x ∧ 0 ≤ x ∧ x ≤ 23 ∧ x = (mm : Int)) ∧ (iI t 32 = iI s 32 ∧ iI s 32 = (pN Q : Int) ∧ iI s 32 ≤ 6) ∧ (0 ≤ kk ∧ kk ≤ x + 1)) → (24 - kk : Int).toNat < n → (∀ (t' : PS) (kk' : Int), Bd t' → Fm [34, 35] [51] s t' → (BSO Q kk' 0 t') → ((xv = x ∧ 0 ≤ x ∧ x ≤ 23 ∧ x = (mm : Int)) ∧ (iI t' 32 = iI s 32 ∧ iI s 32 = (pN Q : Int) ∧ iI s 32 ≤ 6) ∧ kk' = x + 1) → WS k 87 [(0, .ref (A 54)), (1, .int (Int32.ofInt xv)), (2, .int (Int32.ofInt kk'))] [] (Wd A dT t') 0 0) → WS k 20 [(0, .ref (A 54)), (1, .int (Int32.ofInt xv)), (2, .int (Int32.ofInt kk))] [] (Wd A dT t) 0 0 := by
    intro n
    induction n with
    | zero =>
      intro t xv kk I F hq hi hm kx
      exact absurd hm (Nat.not_lt_zero _)
    | succ n ih =>
      intro t xv kk I F hq hi hm kx
      have b2001 := bi_32 I
      have b2002 := bi_35 I
      have b2003 := bi_34 I
      refine z_load_n X (x := kk) rfl (List.Mem.tail _ (List.Mem.tail _ (List.Mem.head _))) (z_load_n X (x := xv) rfl (List.Mem.tail _ (List.Mem.head _)) (z_icmp_gt X (t := 87) rfl rfl ⟨by first | exact oq_fa4e5087 hi.2.2.1 | omega, by first | exact oq_15296bdf hi.2.2.2 hi.1.2.2.1 | omega⟩ ⟨by first | exact oq_b3df2c6f hi.1.1 hi.1.2.1 | omega, by first | exact oq_9c540ca8 hi.1.1 hi.1.2.2.1 | omega⟩ (fun g2004 => ?_) (fun g2004 => ?_)))
      ·
        refine WS_pq [0, 1, 2] (lv' := [(0, .ref (A 54)), (1, .int (Int32.ofInt xv)), (2, .int (Int32.ofInt kk))]) rfl ?_
        exact kx _ kk I F hq (by first | exact ⟨And.intro (hi.1.1) (And.intro (hi.1.2.1) (And.intro (hi.1.2.2.1) (hi.1.2.2.2))), And.intro (hi.2.1.1) (And.intro (hi.2.1.2.1) (hi.2.1.2.2)), oq_72bab12e hi.2.2.2 g2004 hi.1.1⟩ | omega)
      ·
        refine z_const X rfl (z_store_n X (lv' := [(3, .int (Int32.ofInt 0)), (0, .ref (A 54)), (1, .int (Int32.ofInt xv)), (2, .int (Int32.ofInt kk))]) rfl (by decide) (fun _ h => h) (WS_pq [1, 2, 3, 0] (lv' := [(0, .ref (A 54)), (1, .int (Int32.ofInt xv)), (2, .int (Int32.ofInt kk)), (3, .int (Int32.ofInt 0))]) rfl (L27 ((6 - 0 : Int).toNat + 1) t xv kk 0 I F hq (by first | exact ⟨And.intro (hi.1.1) (And.intro (hi.1.2.1) (And.intro (hi.1.2.2.1) (hi.1.2.2.2))), And.intro (hi.2.1.1) (And.intro (hi.2.1.2.1) (hi.2.1.2.2)), And.intro (hi.2.2.1) (oq_7ffd6eb7 g2004 hi.1.1), by decide, b1.1⟩ | omega) (Nat.lt_succ_self _) ?_)))
        intro s2005 x2006 Is2005 Fs2005 Qs2005 hs2005
        have b2007 := bi_32 Is2005
        have b2008 := bi_35 Is2005
        have b2009 := bi_34 Is2005
        refine z_inc X (x := kk) (lv' := [(2, .int (Int32.ofInt (kk + 1))), (0, .ref (A 54)), (1, .int (Int32.ofInt xv)), (3, .int (Int32.ofInt x2006))]) rfl (by decide) (List.Mem.tail _ (List.Mem.tail _ (List.Mem.head _))) (fun _ h => h) (z_goto X (t := 20) rfl rfl (WS_pq [1, 2, 0] (lv' := [(0, .ref (A 54)), (1, .int (Int32.ofInt xv)), (2, .int (Int32.ofInt (kk + 1)))]) rfl ?_))
        exact ih _ xv (kk + 1) Is2005 Fs2005 (bso_k Qs2005 (by omega)) (by first | exact ⟨And.intro (hs2005.1.1) (And.intro (hs2005.1.2.1) (And.intro (hs2005.1.2.2.1) (hs2005.1.2.2.2))), And.intro (hs2005.2.1.1) (And.intro (hs2005.2.1.2.1) (hs2005.2.1.2.2)), oq_54f49eb5 hs2005.2.2.1.1, oq_8d48a029 hs2005.2.2.1.2⟩ | omega) (by first | exact qk_me hm (by decide) (oq_416f5e90 hs2005.2.2.1.2 hs2005.1.2.2.1) | omega) kx
  have L111 : ∀ (n : Nat) (t : PS) (kk lf qq : Int), Bd t → Fm [34, 35] [51] s t → (LNX Q mm qq kk lf t) → ((x = (mm : Int) ∧ x ≤ 23) ∧ (0 ≤ kk ∧ kk ≤ x) ∧ (0 ≤ lf ∧ lf ≤ 192) ∧ (1 ≤ qq ∧ qq ≤ 24) ∧ (iI t 32 = iI s 32 ∧ iI s 32 = (pN Q : Int) ∧ iI s 32 ≤ 6)) → (24 - qq : Int).toNat < n → (∀ (t' : PS) (kk' lf' qq' : Int), Bd t' → Fm [34, 35] [51] s t' → (LNX Q mm qq' kk' lf' t') → (qq' = 24) → WS k 178 [(0, .ref (A 54)), (2, .int (Int32.ofInt kk')), (3, .int (Int32.ofInt lf')), (4, .int (Int32.ofInt qq'))] [] (Wd A dT t') 0 0) → WS k 111 [(0, .ref (A 54)), (2, .int (Int32.ofInt kk)), (3, .int (Int32.ofInt lf)), (4, .int (Int32.ofInt qq))] [] (Wd A dT t) 0 0 := by
    intro n
    induction n with
    | zero =>
      intro t kk lf qq I F hq hi hm kx
      exact absurd hm (Nat.not_lt_zero _)
    | succ n ih =>
      intro t kk lf qq I F hq hi hm kx
      have b3001 := bi_32 I
      have b3002 := bi_35 I
      have b3003 := bi_34 I
      refine z_load X (x := qq) rfl (List.Mem.tail _ (List.Mem.tail _ (List.Mem.tail _ (List.Mem.head _)))) (z_bipush X rfl (z_icmp_ge X (t := 178) rfl rfl ⟨by first | exact oq_9462313e hi.2.2.2.1.1 | omega, by first | exact oq_5bcd337f hi.2.2.2.1.2 | omega⟩ (by decide) (fun g3004 => ?_) (fun g3004 => ?_)))
      ·
        refine WS_pq [0, 1, 2, 3] (lv' := [(0, .ref (A 54)), (2, .int (Int32.ofInt kk)), (3, .int (Int32.ofInt lf)), (4, .int (Int32.ofInt qq))]) rfl ?_
        exact kx _ kk lf qq I F hq (by first | exact oq_ea1742b3 hi.2.2.2.1.2 g3004 | omega)
      ·
        refine z_load_n X (x := lf) rfl (List.Mem.tail _ (List.Mem.tail _ (List.Mem.head _))) ?_
        have hLb := lnx_b hq p6 (by omega)
        refine z_aload_n X (x := A 54) rfl (List.Mem.head _) (s_getR X 54 rfl (c518_ok rfl) rfl rfl (z_aload_n X (x := A 54) rfl (List.Mem.head _) (s_getR X 54 rfl (c518_ok rfl) rfl rfl (z_load X (x := qq) rfl (List.Mem.tail _ (List.Mem.tail _ (List.Mem.tail _ (List.Mem.head _)))) (z_const X rfl (z_sub X rfl (z_ald X 60 rfl (c518_ok rfl) rfl (by first | exact oq_02aa5459 hi.2.2.2.1.1 | omega) (show (qq - 1) < 24 by first | exact oq_2c248f40 g3004 | omega) (cbig_ok rfl) ?_)))))))
        have b3005 := bc_51 I (show ((qq - 1)).toNat < 24 by first | exact oq_94a41655 g3004 | omega)
        have ar3006 : iC t 51 ((qq - 1)).toNat = iC t 51 ((qq - 1)).toNat := (sam_rf (a := 51) (s := t)) _
        refine z_ald X 56 rfl (c518_ok rfl) rfl (by first | exact b3005.1 | omega) (show (iC t 51 ((qq - 1)).toNat) < 6 by first | exact oq_9207f8f8 b3005.2 | omega) (cbig_ok rfl) ?_
        have b3007 := bc_47 I (show ((iC t 51 ((qq - 1)).toNat)).toNat < 6 by first | exact oq_78f9cd89 b3005.2 | omega)
        have hd9 : (iC t 47 ((iC t 51 ((qq - 1)).toNat)).toNat) = pD Q (lnC t (qq - 1).toNat) := jnd_l (n := qq - 1) (jnd_s p3 (sam_fm F (by decide))) hLb.1 rfl
        have hx9 := lnx_ex hq (by omega) hd9
        have hdr := p6 (lnC t (qq - 1).toNat)
        refine z_sub X rfl (z_store_n X (lv' := [(3, .int (Int32.ofInt (lf - (iC t 47 ((iC t 51 ((qq - 1)).toNat)).toNat)))), (0, .ref (A 54)), (2, .int (Int32.ofInt kk)), (4, .int (Int32.ofInt qq))]) rfl (by decide) (fun _ h => h) (z_aload_n X (x := A 54) rfl (List.Mem.tail _ (List.Mem.head _)) (s_getR X 54 rfl (c518_ok rfl) rfl rfl (z_load X (x := qq) rfl (List.Mem.tail _ (List.Mem.tail _ (List.Mem.tail _ (List.Mem.head _)))) (z_aload_n X (x := A 54) rfl (List.Mem.tail _ (List.Mem.head _)) (z_load X (x := qq) rfl (List.Mem.tail _ (List.Mem.tail _ (List.Mem.tail _ (List.Mem.head _)))) (z_load_n X (x := kk) rfl (List.Mem.tail _ (List.Mem.tail _ (List.Mem.head _))) (z_load_n X (x := (lf - (iC t 47 ((iC t 51 ((qq - 1)).toNat)).toNat))) rfl (List.Mem.head _) (zcV_i0 X E 54 (As := [.int (Int32.ofInt qq), .int (Int32.ofInt kk), .int (Int32.ofInt (lf - (iC t 47 ((iC t 51 ((qq - 1)).toNat)).toNat)))]) (st := [.int (Int32.ofInt qq), .ref (A 60)]) rfl rfl rfl rfl (c4_next7 G I (by first | exact ⟨hi.2.2.2.1.1, oq_c69fe266 g3004⟩ | omega) ((show 0 ≤ kk ∧ kk ≤ 23 ∧ kk ≤ (mm : Int) by omega)) (by first | exact ⟨oq_c61ebfdb hi.2.2.1.1 b3007.2, by omega⟩ | omega) ((fwa_s p2 (sam_fm F (by decide)) |> fun h => by have z := h (qq : Int).toNat (by omega); rw [show (((qq : Int).toNat : Nat) : Int) = qq by omega] at z; exact z)) (bsy_s p4 (fm_i F (by decide)) (sam_fm F (by decide))) (by omega) (hx9.1)) rfl (Nat.le_of_ble_eq_true rfl) (fun s3008 e3009 Is3008 Fs3008 hrs3008 hps3008 => ?_))))))))))
        have Gs3008 := fm_tq F Fs3008 rfl rfl
        have ws3008_32 : iI s3008 32 = iI t 32 := fm_iq Fs3008 rfl
        have ws3008_35 : iI s3008 35 = iI t 35 := fm_iq Fs3008 rfl
        have ws3008_34 : iI s3008 34 = iI t 34 := fm_iq Fs3008 rfl
        have aws3008_51 : SAM 51 t s3008 := sam_ts (sam_rf (a := 51) (s := t)) (sam_fm Fs3008 (by decide))
        have hne9 : 0 ≤ e3009 ∧ e3009 < (pN Q : Int) := hps3008.1
        refine z_ast X 60 rfl (c518_ok rfl) rfl (by first | exact oq_2a6e3b50 hi.2.2.2.1.1 | omega) (show qq < 24 by first | exact g3004 | omega) (cbig_ok rfl) (wd_gen (fun s3010 hs3010 => ?_))
        have Is3010 : Bd s3010 := eqB hs3010 (bd_C Is3008 (show (0 : Int) ≤ e3009 ∧ e3009 ≤ 5 by first | exact ⟨hne9.1, oq_150bfa25 hne9.2 hi.2.2.2.2.2.1 hi.2.2.2.2.2.2⟩ | omega) hrs3008)
        have Fs3010 := eqF hs3010 (fm_C Gs3008 (inl_ok (a := 51) rfl))
        have ws3010_32 : iI s3010 32 = iI s3008 32 := eqI hs3010 rfl
        have ws3010_35 : iI s3010 35 = iI s3008 35 := eqI hs3010 rfl
        have ws3010_34 : iI s3010 34 = iI s3008 34 := eqI hs3010 rfl
        have aws3010_51 : UPD 51 (qq) e3009 t s3010 := by rw [hs3010]; exact upd_put aws3008_51 hrs3008
        have hl1 := aws3010_51.1
        have hl2 : iC s3010 51 (qq - 1).toNat = iC t 51 (qq - 1).toNat := aws3010_51.2 _ (by omega)
        have hl0 : 0 ≤ iC t 51 (qq - 1).toNat := (I.2 51 _ (show (qq - 1).toNat < 24 by omega)).1
        refine z_aload_n X (x := A 54) rfl (List.Mem.tail _ (List.Mem.head _)) (s_getR X 54 rfl (c518_ok rfl) rfl rfl (z_load X (x := qq) rfl (List.Mem.tail _ (List.Mem.tail _ (List.Mem.tail _ (List.Mem.head _)))) (z_ald X 60 rfl (c518_ok rfl) rfl (by first | exact oq_2a6e3b50 hi.2.2.2.1.1 | omega) (show qq < 24 by first | exact g3004 | omega) (cbig_ok rfl) ?_)))
        have b3011 := bc_51 Is3010 (show (qq).toNat < 24 by first | exact oq_797efae6 g3004 | omega)
        refine z_aload_n X (x := A 54) rfl (List.Mem.tail _ (List.Mem.head _)) (s_getR X 54 rfl (c518_ok rfl) rfl rfl (z_load X (x := qq) rfl (List.Mem.tail _ (List.Mem.tail _ (List.Mem.tail _ (List.Mem.head _)))) (z_const X rfl (z_sub X rfl (z_ald X 60 rfl (c518_ok rfl) rfl (by first | exact oq_02aa5459 hi.2.2.2.1.1 | omega) (show (qq - 1) < 24 by first | exact oq_2c248f40 g3004 | omega) (cbig_ok rfl) ?_)))))
        have b3012 := bc_51 Is3010 (show ((qq - 1)).toNat < 24 by first | exact oq_94a41655 g3004 | omega)
        refine z_icmp_eq X (t := 172) rfl rfl (rng_to _) (rng_to _) (fun g3013 => ?_) (fun g3013 => ?_)
        ·
          have hLX : LNX Q mm (qq + 1) kk (lf - (iC t 47 ((iC t 51 ((qq - 1)).toNat)).toNat)) s3010 := lnx_up hq (by omega) hd9 hps3008 aws3010_51 (by omega) (by omega) (by omega) hl0
          have hLB := lnx_b hLX p6 (by omega)
          refine z_inc X (x := qq) (lv' := [(4, .int (Int32.ofInt (qq + 1))), (3, .int (Int32.ofInt (lf - (iC t 47 ((iC t 51 ((qq - 1)).toNat)).toNat)))), (0, .ref (A 54)), (2, .int (Int32.ofInt kk))]) rfl (by decide) (List.Mem.tail _ (List.Mem.tail _ (List.Mem.tail _ (List.Mem.head _)))) (fun _ h => h) (z_goto X (t := 111) rfl rfl (WS_pq [2, 3, 1, 0] (lv' := [(0, .ref (A 54)), (2, .int (Int32.ofInt kk)), (3, .int (Int32.ofInt (lf - (iC t 47 ((iC t 51 ((qq - 1)).toNat)).toNat)))), (4, .int (Int32.ofInt (qq + 1)))]) rfl ?_))
          exact ih _ kk (lf - (iC t 47 ((iC t 51 ((qq - 1)).toNat)).toNat)) (qq + 1) Is3010 Fs3010 hLX (by first | exact ⟨And.intro (hi.1.1) (hi.1.2), And.intro (hi.2.1.1) (hi.2.1.2), by omega, And.intro (oq_1e1a2df6 hi.2.2.2.1.1) (oq_cec7cb2e g3004), oq_878618b1 ws3010_32 ws3008_32 hi.2.2.2.2.1, hi.2.2.2.2.2.1, hi.2.2.2.2.2.2⟩ | omega) (by first | exact qk_me hm (by decide) (oq_ffa8317e g3004) | omega) kx
        ·
          refine z_inc X (x := kk) (lv' := [(2, .int (Int32.ofInt (kk + (-1)))), (3, .int (Int32.ofInt (lf - (iC t 47 ((iC t 51 ((qq - 1)).toNat)).toNat)))), (0, .ref (A 54)), (4, .int (Int32.ofInt qq))]) rfl (by decide) (List.Mem.tail _ (List.Mem.tail _ (List.Mem.head _))) (fun _ h => h) ?_
          have hLX : LNX Q mm (qq + 1) (kk + (-1)) (lf - (iC t 47 ((iC t 51 ((qq - 1)).toNat)).toNat)) s3010 := lnx_up hq (by first | (clear g3013; omega) | omega) hd9 hps3008 aws3010_51 (by first | (clear g3013; omega) | omega) (by first | (clear g3013; omega) | omega) (by first | (clear g3013; omega) | omega) hl0
          have hLB := lnx_b hLX p6 (by first | (clear g3013; omega) | omega)
          refine z_inc X (x := qq) (lv' := [(4, .int (Int32.ofInt (qq + 1))), (2, .int (Int32.ofInt (kk + (-1)))), (3, .int (Int32.ofInt (lf - (iC t 47 ((iC t 51 ((qq - 1)).toNat)).toNat)))), (0, .ref (A 54))]) rfl (by decide) (List.Mem.tail _ (List.Mem.tail _ (List.Mem.tail _ (List.Mem.head _)))) (fun _ h => h) (z_goto X (t := 111) rfl rfl (WS_pq [3, 1, 2, 0] (lv' := [(0, .ref (A 54)), (2, .int (Int32.ofInt (kk + (-1)))), (3, .int (Int32.ofInt (lf - (iC t 47 ((iC t 51 ((qq - 1)).toNat)).toNat)))), (4, .int (Int32.ofInt (qq + 1)))]) rfl ?_))
          exact ih _ (kk + (-1)) (lf - (iC t 47 ((iC t 51 ((qq - 1)).toNat)).toNat)) (qq + 1) Is3010 Fs3010 hLX (by first | exact ⟨And.intro (hi.1.1) (hi.1.2), by first | (clear g3013; omega) | omega, by first | (clear g3013; omega) | omega, And.intro (oq_1e1a2df6 hi.2.2.2.1.1) (oq_cec7cb2e g3004), oq_878618b1 ws3010_32 ws3008_32 hi.2.2.2.2.1, hi.2.2.2.2.2.1, hi.2.2.2.2.2.2⟩ | omega) (by first | exact qk_me hm (by decide) (oq_ffa8317e g3004) | omega) kx
  refine z_aload_n X (x := A 54) rfl (List.Mem.head _) (z_ldc X rfl (s_putI X 54 rfl (c518_ok rfl) rfl rfl (by decide) rfl rfl rfl (wd_gen (fun s4 hs4 => ?_))))
  have Is4 : Bd s4 := eqB hs4 (bd_I I (show ((-2147483648) : Int) ≤ 1000000 ∧ 1000000 ≤ 2147483647 by first | exact ⟨by decide, by decide⟩ | omega) (by decide))
  have Fs4 := eqF hs4 (fm_I F (inl_ok (a := 34) rfl))
  have vs4 : iI s4 34 = 1000000 := eqI hs4 (iI_u (by decide))
  have ws4_32 : iI s4 32 = iI s 32 := eqI hs4 rfl
  have ws4_35 : iI s4 35 = iI s 35 := eqI hs4 rfl
  have aws4_51 : SAM 51 s s4 := by rw [hs4]; exact aw0_51
  refine z_aload_n X (x := A 54) rfl (List.Mem.head _) (z_const X rfl (s_putI X 54 rfl (c518_ok rfl) rfl rfl (by decide) rfl rfl rfl (wd_gen (fun s5 hs5 => ?_))))
  have Is5 : Bd s5 := eqB hs5 (bd_I Is4 (show (0 : Int) ≤ 0 ∧ 0 ≤ 23 by first | exact ⟨by decide, by decide⟩ | omega) (by decide))
  have Fs5 := eqF hs5 (fm_I Fs4 (inl_ok (a := 35) rfl))
  have vs5 : iI s5 35 = 0 := eqI hs5 (iI_u (by decide))
  have ws5_32 : iI s5 32 = iI s4 32 := eqI hs5 rfl
  have ws5_34 : iI s5 34 = iI s4 34 := eqI hs5 rfl
  have aws5_51 : SAM 51 s s5 := by rw [hs5]; exact aws4_51
  refine z_aload_n X (x := A 54) rfl (List.Mem.head _) (s_getR X 54 rfl (c518_ok rfl) rfl rfl (z_const X rfl (z_const X rfl (z_ast X 60 rfl (c518_ok rfl) rfl (by decide) (show 0 < 24 by decide) (cbig_ok rfl) (wd_gen (fun s6 hs6 => ?_))))))
  have Is6 : Bd s6 := eqB hs6 (bd_C Is5 (show (0 : Int) ≤ 0 ∧ 0 ≤ 5 by first | exact ⟨by decide, by decide⟩ | omega) (by decide))
  have Fs6 := eqF hs6 (fm_C Fs5 (inl_ok (a := 51) rfl))
  have ws6_32 : iI s6 32 = iI s5 32 := eqI hs6 rfl
  have ws6_35 : iI s6 35 = iI s5 35 := eqI hs6 rfl
  have ws6_34 : iI s6 34 = iI s5 34 := eqI hs6 rfl
  have aws6_51 : UPD 51 (0 : Int) 0 s s6 := by rw [hs6]; exact upd_put aws5_51 (by decide)
  refine z_const X rfl (z_store_n X (lv' := [(2, .int (Int32.ofInt 0)), (0, .ref (A 54)), (1, .int (Int32.ofInt x))]) rfl (by decide) (fun _ h => h) (WS_pq [1, 2, 0] (lv' := [(0, .ref (A 54)), (1, .int (Int32.ofInt x)), (2, .int (Int32.ofInt 0))]) rfl (L20 ((24 - 0 : Int).toNat + 1) s6 x 0 Is6 Fs6 (bso_0 (by omega)) (by first | exact ⟨And.intro (by decide) (And.intro (p0.1) (And.intro (p0.2) (p1))), And.intro (oq_878618b1 ws6_32 ws5_32 ws4_32) (And.intro (p5) (b1.2)), by decide, oq_54f49eb5 p0.1⟩ | omega) (Nat.lt_succ_self _) ?_)))
  intro s7 x8 Is7 Fs7 Qs7 hs7
  have b9 := bi_32 Is7
  have b10 := bi_35 Is7
  have b11 := bi_34 Is7
  refine z_aload_n X (x := A 54) rfl (List.Mem.head _) (z_getI X 54 rfl (c518_ok rfl) rfl rfl ?_)
  have b12 := bi_34 Is7
  refine z_ldc X rfl (z_icmp_lt X (t := 98) rfl rfl (rng_to _) (by decide) (fun g13 => ?_) (fun g13 => ?_))
  ·
    have hbb := bso_b Qs7 (m := mm) (by omega) (by omega)
    have hl19 : LNX Q mm 1 (iI s7 35) (iI s7 34) s7 := lnx_1 hbb.1 hbb.2 (by omega)
    have hl1b := lnx_b hl19 p6 (by omega)
    refine z_aload_n X (x := A 54) rfl (List.Mem.head _) (z_getI X 54 rfl (c518_ok rfl) rfl rfl ?_)
    have b14 := bi_35 Is7
    refine z_store_n X (lv' := [(2, .int (Int32.ofInt (iI s7 35))), (0, .ref (A 54)), (1, .int (Int32.ofInt x))]) rfl (by decide) (fun _ h => h) (z_aload_n X (x := A 54) rfl (List.Mem.tail _ (List.Mem.head _)) (z_getI X 54 rfl (c518_ok rfl) rfl rfl ?_))
    have b15 := bi_34 Is7
    refine z_store_n X (lv' := [(3, .int (Int32.ofInt (iI s7 34))), (2, .int (Int32.ofInt (iI s7 35))), (0, .ref (A 54)), (1, .int (Int32.ofInt x))]) rfl (by decide) (fun _ h => h) (z_const X rfl (z_store X (lv' := [(4, .int (Int32.ofInt 1)), (3, .int (Int32.ofInt (iI s7 34))), (2, .int (Int32.ofInt (iI s7 35))), (0, .ref (A 54)), (1, .int (Int32.ofInt x))]) rfl (by decide) (fun _ h => h) (WS_pq [3, 2, 1, 0] (lv' := [(0, .ref (A 54)), (2, .int (Int32.ofInt (iI s7 35))), (3, .int (Int32.ofInt (iI s7 34))), (4, .int (Int32.ofInt 1))]) rfl (L111 ((24 - 1 : Int).toNat + 1) s7 (iI s7 35) (iI s7 34) 1 Is7 Fs7 (lnx_1 hbb.1 hbb.2 (by omega)) (by first | exact ⟨And.intro (hs7.1.2.2.2) (hs7.1.2.2.1), by omega, by omega, And.intro (by decide) (by decide), hs7.2.1.1, hs7.2.1.2.1, hs7.2.1.2.2⟩ | omega) (Nat.lt_succ_self _) ?_))))
    intro s16 x17 x18 x19 Is16 Fs16 Qs16 hs16
    have b20 := bi_32 Is16
    have b21 := bi_35 Is16
    have b22 := bi_34 Is16
    refine z_const X rfl ?_
    exact w_iret X.1 q hRt (nar_ret (by first | exact Or.inr (by decide) | omega)) (ax_d X (show cdA 51 179 = some (.ireturn, 1, 0, 0, 0) from rfl)) (Nat.zero_le _) (Nat.zero_le _) ⟨_, rfl, Is16, Fs16, 1, rfl, (by decide), ⟨Or.inr rfl, lnx_e Qs16 (by omega)⟩⟩
  ·
    refine z_const X rfl ?_
    exact w_iret X.1 q hRt (nar_ret (by first | exact Or.inl (by decide) | omega)) (ax_d X (show cdA 51 97 = some (.ireturn, 1, 0, 0, 0) from rfl)) (Nat.zero_le _) (Nat.zero_le _) ⟨_, rfl, Is7, Fs7, 0, rfl, (by decide), ⟨Or.inl rfl, Or.inl ⟨rfl, bso_n Qs7 (by omega) (by omega)⟩⟩⟩
set_option maxRecDepth 4000 in
theorem c4_solve7 (G : GX l s0 D tys a0 dT) {U : AirD} {Jn : List Int → Prop} (I : Bd s) (jAIR : AIR s) (jCPL : CPL s) (jCDJ : CDJ U s) (jPMJ : PMJ s) (jCJJ : CJJ Jn s) {x : Int} (p0 : 0 ≤ x ∧ x ≤ 23) (p1 : iI s 12 ≤ 8) : CT l s0 D A dT 48 (rmN 48) [.ref (A 54), .int (Int32.ofInt x)] s (fun o t => Bd t ∧ Fm [22, 23, 24, 34, 35] [33, 26, 27, 28, 29, 30, 31, 32, 20, 48, 47, 49, 50, 51] s t ∧ ∃ e, o = .inl (some (.int (Int32.ofInt e))) ∧ rng e ∧ ((e = 0 ∨ e = 1) ∧ PLE (QD U Jn (iI s 32) (iI s 33) (fun j => iC s 46 j) (pfC s) (fun j => iC s 24 j)) (x : Int).toNat t e ∧ JND (QD U Jn (iI s 32) (iI s 33) (fun j => iC s 46 j) (pfC s) (fun j => iC s 24 j)) t)) := by
  refine ct_ofX G (by decide) (Nat.le_of_ble_eq_true rfl) (fun k X E ET hRt hXt q => ?_)
  show WS k 0 [(0, .ref (A 54)), (1, .int (Int32.ofInt x))] [] _ 0 0
  have F : Fm [22, 23, 24, 34, 35] [33, 26, 27, 28, 29, 30, 31, 32, 20, 48, 47, 49, 50, 51] s s := fm_rf _ _ s
  have aw0_47 : SAM 47 s s := sam_rf
  have aw0_48 : SAM 48 s s := sam_rf
  have b1 := bi_32 I
  have b2 := bi_12 I
  have b3 := bi_33 I
  have L2 : ∀ (n : Nat) (t : PS) (xv c : Int), Bd t → Fm [22, 23, 24, 34, 35] [33, 26, 27, 28, 29, 30, 31, 32, 20, 48, 47, 49, 50, 51] s t → AIR t → CPL t → CDJ U t → PMJ t → CJJ Jn t → (JDA U Jn (fun j => iC s 46 j) (pfC s) (fun j => iC s 24 j) c t) → ((xv = x ∧ 0 ≤ x ∧ x ≤ 23) ∧ (iI t 32 = iI s 32 ∧ iI s 32 ≤ 6 ∧ 0 ≤ iI s 32) ∧ iI t 33 = iI s 33 ∧ (0 ≤ c ∧ c ≤ iI s 32) ∧ iI t 12 ≤ 8) → (6 - c : Int).toNat < n → (∀ (t' : PS) (c' : Int), Bd t' → Fm [22, 23, 24, 34, 35] [33, 26, 27, 28, 29, 30, 31, 32, 20, 48, 47, 49, 50, 51] s t' → AIR t' → CPL t' → CDJ U t' → PMJ t' → CJJ Jn t' → (JDA U Jn (fun j => iC s 46 j) (pfC s) (fun j => iC s 24 j) c' t') → ((xv = x ∧ 0 ≤ x ∧ x ≤ 23) ∧ (iI t' 32 = iI s 32 ∧ iI s 32 ≤ 6 ∧ 0 ≤ iI s 32) ∧ iI t' 33 = iI s 33 ∧ c' = iI s 32) → WS k 21 [(0, .ref (A 54)), (1, .int (Int32.ofInt xv)), (2, .int (Int32.ofInt c'))] [] (Wd A dT t') 0 0) → WS k 2 [(0, .ref (A 54)), (1, .int (Int32.ofInt xv)), (2, .int (Int32.ofInt c))] [] (Wd A dT t) 0 0 := by
    intro n
    induction n with
    | zero =>
      intro t xv c I F jjAIR jjCPL jjCDJ jjPMJ jjCJJ hq hi hm kx
      exact absurd hm (Nat.not_lt_zero _)
    | succ n ih =>
      intro t xv c I F jjAIR jjCPL jjCDJ jjPMJ jjCJJ hq hi hm kx
      have b1001 := bi_32 I
      have b1002 := bi_12 I
      have b1003 := bi_33 I
      refine z_load_n X (x := c) rfl (List.Mem.tail _ (List.Mem.tail _ (List.Mem.head _))) (z_aload_n X (x := A 54) rfl (List.Mem.head _) (z_getI X 54 rfl (c518_ok rfl) rfl rfl ?_))
      have b1004 := bi_32 I
      refine z_icmp_ge X (t := 21) rfl rfl ⟨by first | exact oq_fa4e5087 hi.2.2.2.1.1 | omega, by first | exact oq_a893734d hi.2.2.2.1.2 hi.2.1.2.1 | omega⟩ (rng_to _) (fun g1005 => ?_) (fun g1005 => ?_)
      ·
        refine WS_pq [0, 1, 2] (lv' := [(0, .ref (A 54)), (1, .int (Int32.ofInt xv)), (2, .int (Int32.ofInt c))]) rfl ?_
        exact kx _ c I F jjAIR jjCPL jjCDJ jjPMJ jjCJJ hq (by first | exact ⟨And.intro (hi.1.1) (And.intro (hi.1.2.1) (hi.1.2.2)), And.intro (hi.2.1.1) (And.intro (hi.2.1.2.1) (hi.2.1.2.2)), hi.2.2.1, oq_537ca82a hi.2.2.2.1.2 g1005 hi.2.1.1⟩ | omega)
      ·
        refine z_aload_n X (x := A 54) rfl (List.Mem.head _) (z_load_n X (x := c) rfl (List.Mem.tail _ (List.Mem.tail _ (List.Mem.head _))) (zcV_v0 X E 54 (As := [.int (Int32.ofInt c)]) (st := []) rfl rfl rfl rfl (c4_judge7 G I jjAIR jjCPL jjCDJ jjPMJ jjCJJ (by first | exact ⟨hi.2.2.2.1.1, oq_4af6a0a9 g1005 b1004.2⟩ | omega) (by first | exact hi.2.2.2.2 | omega)) rfl (Nat.le_of_ble_eq_true rfl) (fun s1006 Is1006 Fs1006 hps1006 => ?_)))
        have Gs1006 := fm_tq F Fs1006 rfl rfl
        have JAIR_s1006 : AIR s1006 := AIR_fm Fs1006 (by decide) jjAIR
        have JCPL_s1006 : CPL s1006 := CPL_fm Fs1006 (by decide) jjCPL
        have JCDJ_s1006 : CDJ U s1006 := CDJ_fm Fs1006 (by decide) jjCDJ
        have JPMJ_s1006 : PMJ s1006 := PMJ_fm Fs1006 (by decide) jjPMJ
        have JCJJ_s1006 : CJJ Jn s1006 := CJJ_fm Fs1006 (by decide) jjCJJ
        have ws1006_32 : iI s1006 32 = iI t 32 := fm_iq Fs1006 rfl
        have ws1006_12 : iI s1006 12 = iI t 12 := fm_iq Fs1006 rfl
        have ws1006_33 : iI s1006 33 = iI t 33 := fm_iq Fs1006 rfl
        have hj := hps1006
        rw [show iC t 46 (c : Int).toNat = iC s 46 (c : Int).toNat from fm_c F (by decide), show pfC t = pfC s from funext (fun j => fm_c F (by decide)), show (fun j => iC t 24 j) = (fun j => iC s 24 j) from funext (fun j => fm_c F (by decide))] at hj
        refine z_inc X (x := c) (lv' := [(2, .int (Int32.ofInt (c + 1))), (0, .ref (A 54)), (1, .int (Int32.ofInt xv))]) rfl (by decide) (List.Mem.tail _ (List.Mem.tail _ (List.Mem.head _))) (fun _ h => h) (z_goto X (t := 2) rfl rfl (WS_pq [1, 2, 0] (lv' := [(0, .ref (A 54)), (1, .int (Int32.ofInt xv)), (2, .int (Int32.ofInt (c + 1)))]) rfl ?_))
        exact ih _ xv (c + 1) Is1006 Gs1006 JAIR_s1006 JCPL_s1006 JCDJ_s1006 JPMJ_s1006 JCJJ_s1006 (jda_up hq (by omega) rfl hj.1 hj.2.1 hj.2.2) (by first | exact ⟨And.intro (hi.1.1) (And.intro (hi.1.2.1) (hi.1.2.2)), And.intro (oq_1aa5be9e ws1006_32 hi.2.1.1) (And.intro (hi.2.1.2.1) (hi.2.1.2.2)), oq_1aa5be9e ws1006_33 hi.2.2.1, And.intro (oq_54f49eb5 hi.2.2.2.1.1) (oq_8a89b3ae g1005 hi.2.1.1), oq_86ef0b17 ws1006_12 hi.2.2.2.2⟩ | omega) (by first | exact qk_me hm (by decide) (oq_4619bacb g1005 b1004.2) | omega) kx
  have L45 : ∀ (n : Nat) (t : PS) (xv qq c kk : Int), Bd t → Fm [22, 23, 24, 34, 35] [33, 26, 27, 28, 29, 30, 31, 32, 20, 48, 47, 49, 50, 51] s t → AIR t → CPL t → CDJ U t → PMJ t → CJJ Jn t → (FWX (QD U Jn (iI s 32) (iI s 33) (fun j => iC s 46 j) (pfC s) (fun j => iC s 24 j)) (x : Int).toNat qq c kk t ∧ JDA U Jn (fun j => iC s 46 j) (pfC s) (fun j => iC s 24 j) (iI s 32) t ∧ LDO U (pfC s) 8 t) → ((xv = x ∧ 0 ≤ x ∧ x ≤ 23) ∧ (iI t 32 = iI s 32 ∧ iI s 32 ≤ 6 ∧ 0 ≤ iI s 32) ∧ iI t 33 = iI s 33 ∧ (0 ≤ qq ∧ qq ≤ 23) ∧ (0 ≤ c ∧ c < iI s 32) ∧ (0 ≤ kk ∧ kk ≤ x + 1)) → (24 - kk : Int).toNat < n → (∀ (t' : PS) (kk' : Int), Bd t' → Fm [22, 23, 24, 34, 35] [33, 26, 27, 28, 29, 30, 31, 32, 20, 48, 47, 49, 50, 51] s t' → AIR t' → CPL t' → CDJ U t' → PMJ t' → CJJ Jn t' → (FWX (QD U Jn (iI s 32) (iI s 33) (fun j => iC s 46 j) (pfC s) (fun j => iC s 24 j)) (x : Int).toNat qq c kk' t' ∧ JDA U Jn (fun j => iC s 46 j) (pfC s) (fun j => iC s 24 j) (iI s 32) t' ∧ LDO U (pfC s) 8 t') → ((xv = x ∧ 0 ≤ x ∧ x ≤ 23) ∧ (iI t' 32 = iI s 32 ∧ iI s 32 ≤ 6 ∧ 0 ≤ iI s 32) ∧ iI t' 33 = iI s 33 ∧ (0 ≤ qq ∧ qq ≤ 23) ∧ (0 ≤ c ∧ c < iI s 32) ∧ x < kk') → WS k 119 [(0, .ref (A 54)), (1, .int (Int32.ofInt xv)), (2, .int (Int32.ofInt qq)), (3, .int (Int32.ofInt c)), (4, .int (Int32.ofInt kk'))] [] (Wd A dT t') 0 0) → WS k 45 [(0, .ref (A 54)), (1, .int (Int32.ofInt xv)), (2, .int (Int32.ofInt qq)), (3, .int (Int32.ofInt c)), (4, .int (Int32.ofInt kk))] [] (Wd A dT t) 0 0 := by
    intro n
    induction n with
    | zero =>
      intro t xv qq c kk I F jjAIR jjCPL jjCDJ jjPMJ jjCJJ hq hi hm kx
      exact absurd hm (Nat.not_lt_zero _)
    | succ n ih =>
      intro t xv qq c kk I F jjAIR jjCPL jjCDJ jjPMJ jjCJJ hq hi hm kx
      have b2001 := bi_32 I
      have b2002 := bi_12 I
      have b2003 := bi_33 I
      refine z_load X (x := kk) rfl (List.Mem.tail _ (List.Mem.tail _ (List.Mem.tail _ (List.Mem.tail _ (List.Mem.head _))))) (z_load_n X (x := xv) rfl (List.Mem.tail _ (List.Mem.head _)) (z_icmp_gt X (t := 119) rfl rfl ⟨by first | exact oq_fa4e5087 hi.2.2.2.2.2.1 | omega, by first | exact oq_15296bdf hi.2.2.2.2.2.2 hi.1.2.2 | omega⟩ ⟨by first | exact oq_b3df2c6f hi.1.1 hi.1.2.1 | omega, by first | exact oq_9c540ca8 hi.1.1 hi.1.2.2 | omega⟩ (fun g2004 => ?_) (fun g2004 => ?_)))
      ·
        refine WS_pq [0, 1, 2, 3, 4] (lv' := [(0, .ref (A 54)), (1, .int (Int32.ofInt xv)), (2, .int (Int32.ofInt qq)), (3, .int (Int32.ofInt c)), (4, .int (Int32.ofInt kk))]) rfl ?_
        exact kx _ kk I F jjAIR jjCPL jjCDJ jjPMJ jjCJJ hq (by first | exact ⟨And.intro (hi.1.1) (And.intro (hi.1.2.1) (hi.1.2.2)), And.intro (hi.2.1.1) (And.intro (hi.2.1.2.1) (hi.2.1.2.2)), hi.2.2.1, And.intro (hi.2.2.2.1.1) (hi.2.2.2.1.2), And.intro (hi.2.2.2.2.1.1) (hi.2.2.2.2.1.2), oq_42b4a727 g2004 hi.1.1⟩ | omega)
      ·
        refine z_aload_n X (x := A 54) rfl (List.Mem.head _) (s_getR X 54 rfl (c518_ok rfl) rfl rfl (z_load_n X (x := c) rfl (List.Mem.tail _ (List.Mem.tail _ (List.Mem.tail _ (List.Mem.head _)))) (z_bipush X rfl (z_mul X rfl (z_load_n X (x := qq) rfl (List.Mem.tail _ (List.Mem.tail _ (List.Mem.head _))) (z_add X rfl (z_zald X 57 rfl (c518_ok rfl) rfl (by first | exact oq_4071a75f hi.2.2.2.2.1.1 hi.2.2.2.1.1 | omega) (show ((c * 24) + qq) < 144 by first | exact oq_b7e30c53 hi.2.2.2.2.1.2 hi.2.2.2.1.2 hi.2.1.2.1 | omega) (cbig_ok rfl) ?_)))))))
        have b2005 := bc_48 I (show (((c * 24) + qq)).toNat < 144 by first | exact oq_8c922985 hi.2.2.2.2.1.2 hi.2.2.2.1.2 hi.2.1.2.1 | omega)
        have ar2006 : iC t 48 (((c * 24) + qq)).toNat = iC t 48 (((c * 24) + qq)).toNat := (sam_rf (a := 48) (s := t)) _
        have hcn := jda_can (b := iI s 33) (v := (iC t 48 (((c * 24) + qq)).toNat)) hq.2.1 (c := c) (q := qq) (by omega) (by omega) (by omega) rfl
        refine z_if_eq X (t := 76) rfl rfl (rng_to _) (fun g2007 => ?_) (fun g2007 => ?_)
        ·
          have hca : ¬ pC (QD U Jn (iI s 32) (iI s 33) (fun j => iC s 46 j) (pfC s) (fun j => iC s 24 j)) (c : Int).toNat (qq : Int).toNat := hcn.elim (fun h => absurd h.1 (by omega)) (fun h => h.2)
          refine z_ldc X rfl (z_store X (lv' := [(5, .int (Int32.ofInt 1000000)), (0, .ref (A 54)), (1, .int (Int32.ofInt xv)), (2, .int (Int32.ofInt qq)), (3, .int (Int32.ofInt c)), (4, .int (Int32.ofInt kk))]) rfl (by decide) (fun _ h => h) (z_aload_n X (x := A 54) rfl (List.Mem.tail _ (List.Mem.head _)) (s_getR X 54 rfl (c518_ok rfl) rfl rfl (z_load_n X (x := qq) rfl (List.Mem.tail _ (List.Mem.tail _ (List.Mem.tail _ (List.Mem.head _)))) (z_load_n X (x := c) rfl (List.Mem.tail _ (List.Mem.tail _ (List.Mem.tail _ (List.Mem.tail _ (List.Mem.head _))))) (z_load X (x := kk) rfl (List.Mem.tail _ (List.Mem.tail _ (List.Mem.tail _ (List.Mem.tail _ (List.Mem.tail _ (List.Mem.head _)))))) (z_callS X (rm := rmN 49) (As := [.int (Int32.ofInt qq), .int (Int32.ofInt c), .int (Int32.ofInt kk)]) (st := [.ref (A 59)]) rfl rfl (by rw [E.1, E.2.1, E.2.2.1]; exact c4_placeOf G I (by first | exact ⟨hi.2.2.2.1.1, hi.2.2.2.1.2⟩ | omega) (by first | exact ⟨hi.2.2.2.2.1.1, oq_4af6a0a9 hi.2.2.2.2.1.2 hi.2.1.2.1⟩ | omega) (by first | exact ⟨hi.2.2.2.2.2.1, oq_d3d13c61 g2004 hi.1.1 hi.1.2.2⟩ | omega)) ⟨by rw [E.2.2.2]; exact (show (rmN 49).frames + 1 ≤ (rmN 48).frames by decide), by rw [E.2.2.2]; exact (show 8 + (mNL (miB 49) + 11) + (rmN 49).locals ≤ (rmN 48).locals by decide), by rw [E.2.2.2]; exact (show 0 + (rmN 49).cells ≤ (rmN 48).cells by decide), by rw [E.2.2.2]; exact (show 0 + (rmN 49).slots ≤ (rmN 48).slots by decide)⟩ (Nat.le_of_ble_eq_true rfl) (fun vv s2008 hq => ?_) (fun ee s2008 hq => ?_))))))))
          rotate_left
          · obtain ⟨rfl, e2009, hv, hrs2008, hps2008⟩ := hq; cases hv
          obtain ⟨rfl, e2009, hv, hrs2008, hps2008⟩ := hq
          cases hv
          show WS k 91 [(5, .int (Int32.ofInt 1000000)), (0, .ref (A 54)), (1, .int (Int32.ofInt xv)), (2, .int (Int32.ofInt qq)), (3, .int (Int32.ofInt c)), (4, .int (Int32.ofInt kk))] [.int (Int32.ofInt e2009), .ref (A 59)] (Wd A dT t) 0 0
          refine z_load X (x := 1000000) rfl (List.Mem.head _) (z_ldc X rfl (z_icmp_lt X (t := 103) rfl rfl (by decide) (by decide) (fun g2010 => ?_) (fun g2010 => ?_)))
          ·
            exfalso
            omega
          ·
            refine z_ldc X rfl (z_goto X (t := 112) rfl rfl (z_ast X 59 rfl (c518_ok rfl) rfl (by first | exact oq_90ac6b8d hps2008 hi.2.2.2.1.1 hi.2.2.2.2.1.1 hi.2.2.2.2.2.1 | omega) (show e2009 < 3456 by first | exact oq_d85b2702 hps2008 g2004 hi.2.2.2.2.1.2 hi.2.2.2.1.2 hi.2.1.2.1 hi.1.2.2 hi.1.1 | omega) (cbig_ok rfl) (wd_gen (fun s2011 hs2011 => ?_))))
            have Is2011 : Bd s2011 := eqB hs2011 (bd_C I (show ((-2147483648) : Int) ≤ 1000000 ∧ 1000000 ≤ 2147483647 by first | exact ⟨by decide, by decide⟩ | omega) (by decide))
            have Fs2011 := eqF hs2011 (fm_C F (inl_ok (a := 50) rfl))
            have ws2011_32 : iI s2011 32 = iI t 32 := eqI hs2011 rfl
            have ws2011_12 : iI s2011 12 = iI t 12 := eqI hs2011 rfl
            have ws2011_33 : iI s2011 33 = iI t 33 := eqI hs2011 rfl
            have aws2011_47 : SAM 47 t s2011 := by rw [hs2011]; exact sam_C (by decide) (sam_rf (a := 47) (s := t))
            have aws2011_48 : SAM 48 t s2011 := by rw [hs2011]; exact sam_C (by decide) (sam_rf (a := 48) (s := t))
            have aws2011_49 : SAM 49 t s2011 := by rw [hs2011]; exact sam_C (by decide) (sam_rf (a := 49) (s := t))
            have aws2011_50 : UPD 50 (e2009) 1000000 t s2011 := by rw [hs2011]; exact upd_put (sam_rf (a := 50) (s := t)) (by decide)
            have fs2011 : Fm [] [50] t s2011 := by rw [hs2011]; exact fm_C (fm_rf _ _ _) (show 50 ∈ _ by decide)
            have JAIR_s2011 : AIR s2011 := AIR_fm fs2011 (by decide) jjAIR
            have JCPL_s2011 : CPL s2011 := CPL_fm fs2011 (by decide) jjCPL
            have JCDJ_s2011 : CDJ U s2011 := CDJ_fm fs2011 (by decide) jjCDJ
            have JPMJ_s2011 : PMJ s2011 := PMJ_fm fs2011 (by decide) jjPMJ
            have JCJJ_s2011 : CJJ Jn s2011 := CJJ_fm fs2011 (by decide) jjCJJ
            refine z_inc X (x := kk) (lv' := [(4, .int (Int32.ofInt (kk + 1))), (5, .int (Int32.ofInt 1000000)), (0, .ref (A 54)), (1, .int (Int32.ofInt xv)), (2, .int (Int32.ofInt qq)), (3, .int (Int32.ofInt c))]) rfl (by decide) (List.Mem.tail _ (List.Mem.tail _ (List.Mem.tail _ (List.Mem.tail _ (List.Mem.tail _ (List.Mem.head _)))))) (fun _ h => h) (z_goto X (t := 45) rfl rfl (WS_pq [2, 3, 4, 5, 0] (lv' := [(0, .ref (A 54)), (1, .int (Int32.ofInt xv)), (2, .int (Int32.ofInt qq)), (3, .int (Int32.ofInt c)), (4, .int (Int32.ofInt (kk + 1)))]) rfl ?_))
            exact ih _ xv qq c (kk + 1) Is2011 Fs2011 JAIR_s2011 JCPL_s2011 JCDJ_s2011 JPMJ_s2011 JCJJ_s2011 ⟨fwx_up hq.1 (show (iI s 32).toNat ≤ 6 by omega) (by omega) (by omega) (by omega) (by omega) (upd_ix aws2011_50 (by have h8 := hps2008; omega)) (fw_val (by omega) (by omega) rfl (Or.inr ⟨hca, rfl⟩) (Or.inl ⟨by omega, rfl⟩)), jda_s hq.2.1 aws2011_47 aws2011_48, ldo_s hq.2.2 aws2011_49⟩ (by first | exact ⟨And.intro (hi.1.1) (And.intro (hi.1.2.1) (hi.1.2.2)), And.intro (oq_1aa5be9e ws2011_32 hi.2.1.1) (And.intro (hi.2.1.2.1) (hi.2.1.2.2)), oq_1aa5be9e ws2011_33 hi.2.2.1, And.intro (hi.2.2.2.1.1) (hi.2.2.2.1.2), And.intro (hi.2.2.2.2.1.1) (hi.2.2.2.2.1.2), oq_54f49eb5 hi.2.2.2.2.2.1, oq_667557f6 g2004 hi.1.1⟩ | omega) (by first | exact qk_me hm (by decide) (oq_7daf499a g2004 hi.1.1 hi.1.2.2) | omega) kx
        ·
          refine z_aload_n X (x := A 54) rfl (List.Mem.head _) (z_load_n X (x := qq) rfl (List.Mem.tail _ (List.Mem.tail _ (List.Mem.head _))) (z_load_n X (x := c) rfl (List.Mem.tail _ (List.Mem.tail _ (List.Mem.tail _ (List.Mem.head _)))) (z_load X (x := kk) rfl (List.Mem.tail _ (List.Mem.tail _ (List.Mem.tail _ (List.Mem.tail _ (List.Mem.head _))))) (zcV_i0 X E 54 (As := [.int (Int32.ofInt qq), .int (Int32.ofInt c), .int (Int32.ofInt kk)]) (st := []) rfl rfl rfl rfl (c4_behind7 (Q := (QD U Jn (iI s 32) (iI s 33) (fun j => iC s 46 j) (pfC s) (fun j => iC s 24 j))) (mm := (x : Int).toNat) G I (by first | exact ⟨hi.2.2.2.1.1, hi.2.2.2.1.2⟩ | omega) (by first | (clear g2007; omega) | omega) (by first | (clear g2007; omega) | omega) (by rcases (show qq = 23 ∨ qq ≤ 22 by first | (clear g2007; omega) | omega) with z | z; (· exact Or.inl z); (· exact Or.inr (fwx_b hq.1 (by first | (clear g2007; omega) | omega) (by first | (clear g2007; omega) | omega)))) (bsy_of hq.2.2 (by first | (clear g2007; omega) | omega)) (by show iI t 32 = (((iI s 32).toNat : Nat) : Int); omega)) rfl (Nat.le_of_ble_eq_true rfl) (fun s2012 e2013 Is2012 Fs2012 hrs2012 hps2012 => ?_)))))
          have Gs2012 := fm_tq F Fs2012 rfl rfl
          have JAIR_s2012 : AIR s2012 := AIR_fm Fs2012 (by decide) jjAIR
          have JCPL_s2012 : CPL s2012 := CPL_fm Fs2012 (by decide) jjCPL
          have JCDJ_s2012 : CDJ U s2012 := CDJ_fm Fs2012 (by decide) jjCDJ
          have JPMJ_s2012 : PMJ s2012 := PMJ_fm Fs2012 (by decide) jjPMJ
          have JCJJ_s2012 : CJJ Jn s2012 := CJJ_fm Fs2012 (by decide) jjCJJ
          have ws2012_32 : iI s2012 32 = iI t 32 := fm_iq Fs2012 rfl
          have ws2012_12 : iI s2012 12 = iI t 12 := fm_iq Fs2012 rfl
          have ws2012_33 : iI s2012 33 = iI t 33 := fm_iq Fs2012 rfl
          have aws2012_47 : SAM 47 t s2012 := sam_ts (sam_rf (a := 47) (s := t)) (sam_fm Fs2012 (by decide))
          have aws2012_48 : SAM 48 t s2012 := sam_ts (sam_rf (a := 48) (s := t)) (sam_fm Fs2012 (by decide))
          have aws2012_49 : SAM 49 t s2012 := sam_ts (sam_rf (a := 49) (s := t)) (sam_fm Fs2012 (by decide))
          have aws2012_50 : SAM 50 t s2012 := sam_ts (sam_rf (a := 50) (s := t)) (sam_fm Fs2012 (by decide))
          have hbr := fbq_r qd_n hps2012 (by first | (clear g2007; omega) | omega)
          have hca : pC (QD U Jn (iI s 32) (iI s 33) (fun j => iC s 46 j) (pfC s) (fun j => iC s 24 j)) (c : Int).toNat (qq : Int).toNat := hcn.elim (fun h => h.2) (fun h => absurd h.1 (by first | (clear g2007; omega) | omega))
          refine z_goto X (t := 78) rfl rfl (z_store X (lv' := [(5, .int (Int32.ofInt e2013)), (0, .ref (A 54)), (1, .int (Int32.ofInt xv)), (2, .int (Int32.ofInt qq)), (3, .int (Int32.ofInt c)), (4, .int (Int32.ofInt kk))]) rfl (by decide) (fun _ h => h) (z_aload_n X (x := A 54) rfl (List.Mem.tail _ (List.Mem.head _)) (s_getR X 54 rfl (c518_ok rfl) rfl rfl (z_load_n X (x := qq) rfl (List.Mem.tail _ (List.Mem.tail _ (List.Mem.tail _ (List.Mem.head _)))) (z_load_n X (x := c) rfl (List.Mem.tail _ (List.Mem.tail _ (List.Mem.tail _ (List.Mem.tail _ (List.Mem.head _))))) (z_load X (x := kk) rfl (List.Mem.tail _ (List.Mem.tail _ (List.Mem.tail _ (List.Mem.tail _ (List.Mem.tail _ (List.Mem.head _)))))) (z_callS X (rm := rmN 49) (As := [.int (Int32.ofInt qq), .int (Int32.ofInt c), .int (Int32.ofInt kk)]) (st := [.ref (A 59)]) rfl rfl (by rw [E.1, E.2.1, E.2.2.1]; exact c4_placeOf G Is2012 (by first | exact ⟨hi.2.2.2.1.1, hi.2.2.2.1.2⟩ | omega) (by first | exact ⟨hi.2.2.2.2.1.1, oq_4af6a0a9 hi.2.2.2.2.1.2 hi.2.1.2.1⟩ | omega) (by first | exact ⟨hi.2.2.2.2.2.1, oq_d3d13c61 g2004 hi.1.1 hi.1.2.2⟩ | omega)) ⟨by rw [E.2.2.2]; exact (show (rmN 49).frames + 1 ≤ (rmN 48).frames by decide), by rw [E.2.2.2]; exact (show 8 + (mNL (miB 49) + 11) + (rmN 49).locals ≤ (rmN 48).locals by decide), by rw [E.2.2.2]; exact (show 0 + (rmN 49).cells ≤ (rmN 48).cells by decide), by rw [E.2.2.2]; exact (show 0 + (rmN 49).slots ≤ (rmN 48).slots by decide)⟩ (Nat.le_of_ble_eq_true rfl) (fun vv s2014 hq => ?_) (fun ee s2014 hq => ?_))))))))
          rotate_left
          · obtain ⟨rfl, e2015, hv, hrs2014, hps2014⟩ := hq; cases hv
          obtain ⟨rfl, e2015, hv, hrs2014, hps2014⟩ := hq
          cases hv
          show WS k 91 [(5, .int (Int32.ofInt e2013)), (0, .ref (A 54)), (1, .int (Int32.ofInt xv)), (2, .int (Int32.ofInt qq)), (3, .int (Int32.ofInt c)), (4, .int (Int32.ofInt kk))] [.int (Int32.ofInt e2015), .ref (A 59)] (Wd A dT s2012) 0 0
          refine z_load X (x := e2013) rfl (List.Mem.head _) (z_ldc X rfl (z_icmp_lt X (t := 103) rfl rfl hrs2012 (by decide) (fun g2016 => ?_) (fun g2016 => ?_)))
          ·
            refine z_aload_n X (x := A 54) rfl (List.Mem.tail _ (List.Mem.head _)) (s_getR X 54 rfl (c518_ok rfl) rfl rfl (z_load_n X (x := c) rfl (List.Mem.tail _ (List.Mem.tail _ (List.Mem.tail _ (List.Mem.tail _ (List.Mem.head _))))) (z_ald X 56 rfl (c518_ok rfl) rfl (by first | exact hi.2.2.2.2.1.1 | omega) (show c < 6 by first | exact oq_f35046fc hi.2.2.2.2.1.2 hi.2.1.2.1 | omega) (cbig_ok rfl) ?_)))
            have b2017 := bc_47 Is2012 (show (c).toNat < 6 by first | exact oq_77ac74ee hi.2.2.2.2.1.2 hi.2.1.2.1 | omega)
            have ar2018 : iC s2012 47 (c).toNat = iC t 47 (c).toNat := aws2012_47 _
            have hnd := jda_d (b := iI s 33) (jda_s hq.2.1 aws2012_47 aws2012_48) (c := c) (by first | (clear g2007; omega) | omega) (by first | (clear g2007; omega) | omega)
            refine z_load X (x := e2013) rfl (List.Mem.head _) (z_add X rfl (z_ast X 59 rfl (c518_ok rfl) rfl (by first | exact oq_90ac6b8d hps2014 hi.2.2.2.1.1 hi.2.2.2.2.1.1 hi.2.2.2.2.2.1 | omega) (show e2015 < 3456 by first | exact oq_d85b2702 hps2014 g2004 hi.2.2.2.2.1.2 hi.2.2.2.1.2 hi.2.1.2.1 hi.1.2.2 hi.1.1 | omega) (cbig_ok rfl) (wd_gen (fun s2019 hs2019 => ?_))))
            have Is2019 : Bd s2019 := eqB hs2019 (bd_C Is2012 (show ((-2147483648) : Int) ≤ ((iC s2012 47 (c).toNat) + e2013) ∧ ((iC s2012 47 (c).toNat) + e2013) ≤ 2147483647 by first | (clear g2007; omega) | omega) ⟨by first | (clear g2007; omega) | omega, by first | (clear g2007; omega) | omega⟩)
            have Fs2019 := eqF hs2019 (fm_C Gs2012 (inl_ok (a := 50) rfl))
            have ws2019_32 : iI s2019 32 = iI s2012 32 := eqI hs2019 rfl
            have ws2019_12 : iI s2019 12 = iI s2012 12 := eqI hs2019 rfl
            have ws2019_33 : iI s2019 33 = iI s2012 33 := eqI hs2019 rfl
            have aws2019_47 : SAM 47 t s2019 := by rw [hs2019]; exact sam_C (by decide) aws2012_47
            have aws2019_48 : SAM 48 t s2019 := by rw [hs2019]; exact sam_C (by decide) aws2012_48
            have aws2019_49 : SAM 49 t s2019 := by rw [hs2019]; exact sam_C (by decide) aws2012_49
            have aws2019_50 : UPD 50 (e2015) ((iC s2012 47 (c).toNat) + e2013) t s2019 := by rw [hs2019]; exact upd_put aws2012_50 ⟨by first | (clear g2007; omega) | omega, by first | (clear g2007; omega) | omega⟩
            have fs2019 : Fm [] [50] s2012 s2019 := by rw [hs2019]; exact fm_C (fm_rf _ _ _) (show 50 ∈ _ by decide)
            have JAIR_s2019 : AIR s2019 := AIR_fm fs2019 (by decide) JAIR_s2012
            have JCPL_s2019 : CPL s2019 := CPL_fm fs2019 (by decide) JCPL_s2012
            have JCDJ_s2019 : CDJ U s2019 := CDJ_fm fs2019 (by decide) JCDJ_s2012
            have JPMJ_s2019 : PMJ s2019 := PMJ_fm fs2019 (by decide) JPMJ_s2012
            have JCJJ_s2019 : CJJ Jn s2019 := CJJ_fm fs2019 (by decide) JCJJ_s2012
            refine z_inc X (x := kk) (lv' := [(4, .int (Int32.ofInt (kk + 1))), (5, .int (Int32.ofInt e2013)), (0, .ref (A 54)), (1, .int (Int32.ofInt xv)), (2, .int (Int32.ofInt qq)), (3, .int (Int32.ofInt c))]) rfl (by decide) (List.Mem.tail _ (List.Mem.tail _ (List.Mem.tail _ (List.Mem.tail _ (List.Mem.tail _ (List.Mem.head _)))))) (fun _ h => h) (z_goto X (t := 45) rfl rfl (WS_pq [2, 3, 4, 5, 0] (lv' := [(0, .ref (A 54)), (1, .int (Int32.ofInt xv)), (2, .int (Int32.ofInt qq)), (3, .int (Int32.ofInt c)), (4, .int (Int32.ofInt (kk + 1)))]) rfl ?_))
            exact ih _ xv qq c (kk + 1) Is2019 Fs2019 JAIR_s2019 JCPL_s2019 JCDJ_s2019 JPMJ_s2019 JCJJ_s2019 ⟨fwx_up hq.1 (show (iI s 32).toNat ≤ 6 by first | (clear g2007; omega) | omega) (by first | (clear g2007; omega) | omega) (by first | (clear g2007; omega) | omega) (by first | (clear g2007; omega) | omega) (by first | (clear g2007; omega) | omega) (upd_ix aws2019_50 (by have h8 := hps2014; omega)) (fw_val (by first | (clear g2007; omega) | omega) (by first | (clear g2007; omega) | omega) hnd.1 (Or.inl ⟨hca, hps2012⟩) (Or.inr ⟨by first | (clear g2007; omega) | omega, rfl⟩)), jda_s hq.2.1 aws2019_47 aws2019_48, ldo_s hq.2.2 aws2019_49⟩ (by first | exact ⟨And.intro (hi.1.1) (And.intro (hi.1.2.1) (hi.1.2.2)), And.intro (oq_878618b1 ws2019_32 ws2012_32 hi.2.1.1) (And.intro (hi.2.1.2.1) (hi.2.1.2.2)), oq_d0d2714e ws2019_33 hi.2.2.1 ws2012_33, And.intro (hi.2.2.2.1.1) (hi.2.2.2.1.2), And.intro (hi.2.2.2.2.1.1) (hi.2.2.2.2.1.2), oq_54f49eb5 hi.2.2.2.2.2.1, oq_667557f6 g2004 hi.1.1⟩ | omega) (by first | exact qk_me hm (by decide) (oq_7daf499a g2004 hi.1.1 hi.1.2.2) | omega) kx
          ·
            refine z_ldc X rfl (z_goto X (t := 112) rfl rfl (z_ast X 59 rfl (c518_ok rfl) rfl (by first | exact oq_90ac6b8d hps2014 hi.2.2.2.1.1 hi.2.2.2.2.1.1 hi.2.2.2.2.2.1 | omega) (show e2015 < 3456 by first | exact oq_d85b2702 hps2014 g2004 hi.2.2.2.2.1.2 hi.2.2.2.1.2 hi.2.1.2.1 hi.1.2.2 hi.1.1 | omega) (cbig_ok rfl) (wd_gen (fun s2020 hs2020 => ?_))))
            have Is2020 : Bd s2020 := eqB hs2020 (bd_C Is2012 (show ((-2147483648) : Int) ≤ 1000000 ∧ 1000000 ≤ 2147483647 by first | exact ⟨by decide, by decide⟩ | omega) (by decide))
            have Fs2020 := eqF hs2020 (fm_C Gs2012 (inl_ok (a := 50) rfl))
            have ws2020_32 : iI s2020 32 = iI s2012 32 := eqI hs2020 rfl
            have ws2020_12 : iI s2020 12 = iI s2012 12 := eqI hs2020 rfl
            have ws2020_33 : iI s2020 33 = iI s2012 33 := eqI hs2020 rfl
            have aws2020_47 : SAM 47 t s2020 := by rw [hs2020]; exact sam_C (by decide) aws2012_47
            have aws2020_48 : SAM 48 t s2020 := by rw [hs2020]; exact sam_C (by decide) aws2012_48
            have aws2020_49 : SAM 49 t s2020 := by rw [hs2020]; exact sam_C (by decide) aws2012_49
            have aws2020_50 : UPD 50 (e2015) 1000000 t s2020 := by rw [hs2020]; exact upd_put aws2012_50 (by decide)
            have fs2020 : Fm [] [50] s2012 s2020 := by rw [hs2020]; exact fm_C (fm_rf _ _ _) (show 50 ∈ _ by decide)
            have JAIR_s2020 : AIR s2020 := AIR_fm fs2020 (by decide) JAIR_s2012
            have JCPL_s2020 : CPL s2020 := CPL_fm fs2020 (by decide) JCPL_s2012
            have JCDJ_s2020 : CDJ U s2020 := CDJ_fm fs2020 (by decide) JCDJ_s2012
            have JPMJ_s2020 : PMJ s2020 := PMJ_fm fs2020 (by decide) JPMJ_s2012
            have JCJJ_s2020 : CJJ Jn s2020 := CJJ_fm fs2020 (by decide) JCJJ_s2012
            refine z_inc X (x := kk) (lv' := [(4, .int (Int32.ofInt (kk + 1))), (5, .int (Int32.ofInt e2013)), (0, .ref (A 54)), (1, .int (Int32.ofInt xv)), (2, .int (Int32.ofInt qq)), (3, .int (Int32.ofInt c))]) rfl (by decide) (List.Mem.tail _ (List.Mem.tail _ (List.Mem.tail _ (List.Mem.tail _ (List.Mem.tail _ (List.Mem.head _)))))) (fun _ h => h) (z_goto X (t := 45) rfl rfl (WS_pq [2, 3, 4, 5, 0] (lv' := [(0, .ref (A 54)), (1, .int (Int32.ofInt xv)), (2, .int (Int32.ofInt qq)), (3, .int (Int32.ofInt c)), (4, .int (Int32.ofInt (kk + 1)))]) rfl ?_))
            exact ih _ xv qq c (kk + 1) Is2020 Fs2020 JAIR_s2020 JCPL_s2020 JCDJ_s2020 JPMJ_s2020 JCJJ_s2020 ⟨fwx_up hq.1 (show (iI s 32).toNat ≤ 6 by first | (clear g2007; omega) | omega) (by first | (clear g2007; omega) | omega) (by first | (clear g2007; omega) | omega) (by first | (clear g2007; omega) | omega) (by first | (clear g2007; omega) | omega) (upd_ix aws2020_50 (by have h8 := hps2014; omega)) (fw_val (by first | (clear g2007; omega) | omega) (by first | (clear g2007; omega) | omega) rfl (Or.inl ⟨hca, hps2012⟩) (Or.inl ⟨by first | (clear g2007; omega) | omega, rfl⟩)), jda_s hq.2.1 aws2020_47 aws2020_48, ldo_s hq.2.2 aws2020_49⟩ (by first | exact ⟨And.intro (hi.1.1) (And.intro (hi.1.2.1) (hi.1.2.2)), And.intro (oq_878618b1 ws2020_32 ws2012_32 hi.2.1.1) (And.intro (hi.2.1.2.1) (hi.2.1.2.2)), oq_d0d2714e ws2020_33 hi.2.2.1 ws2012_33, And.intro (hi.2.2.2.1.1) (hi.2.2.2.1.2), And.intro (hi.2.2.2.2.1.1) (hi.2.2.2.2.1.2), oq_54f49eb5 hi.2.2.2.2.2.1, oq_667557f6 g2004 hi.1.1⟩ | omega) (by first | exact qk_me hm (by decide) (oq_7daf499a g2004 hi.1.1 hi.1.2.2) | omega) kx
  have L34 : ∀ (n : Nat) (t : PS) (xv qq c : Int), Bd t → Fm [22, 23, 24, 34, 35] [33, 26, 27, 28, 29, 30, 31, 32, 20, 48, 47, 49, 50, 51] s t → AIR t → CPL t → CDJ U t → PMJ t → CJJ Jn t → (FWX (QD U Jn (iI s 32) (iI s 33) (fun j => iC s 46 j) (pfC s) (fun j => iC s 24 j)) (x : Int).toNat qq c 0 t ∧ JDA U Jn (fun j => iC s 46 j) (pfC s) (fun j => iC s 24 j) (iI s 32) t ∧ LDO U (pfC s) 8 t) → ((xv = x ∧ 0 ≤ x ∧ x ≤ 23) ∧ (iI t 32 = iI s 32 ∧ iI s 32 ≤ 6 ∧ 0 ≤ iI s 32) ∧ iI t 33 = iI s 33 ∧ (0 ≤ qq ∧ qq ≤ 23) ∧ (0 ≤ c ∧ c ≤ iI s 32)) → (6 - c : Int).toNat < n → (∀ (t' : PS) (c' : Int), Bd t' → Fm [22, 23, 24, 34, 35] [33, 26, 27, 28, 29, 30, 31, 32, 20, 48, 47, 49, 50, 51] s t' → AIR t' → CPL t' → CDJ U t' → PMJ t' → CJJ Jn t' → (FWX (QD U Jn (iI s 32) (iI s 33) (fun j => iC s 46 j) (pfC s) (fun j => iC s 24 j)) (x : Int).toNat qq c' 0 t' ∧ JDA U Jn (fun j => iC s 46 j) (pfC s) (fun j => iC s 24 j) (iI s 32) t' ∧ LDO U (pfC s) 8 t') → ((xv = x ∧ 0 ≤ x ∧ x ≤ 23) ∧ (iI t' 32 = iI s 32 ∧ iI s 32 ≤ 6 ∧ 0 ≤ iI s 32) ∧ iI t' 33 = iI s 33 ∧ (0 ≤ qq ∧ qq ≤ 23) ∧ c' = iI s 32) → WS k 125 [(0, .ref (A 54)), (1, .int (Int32.ofInt xv)), (2, .int (Int32.ofInt qq)), (3, .int (Int32.ofInt c'))] [] (Wd A dT t') 0 0) → WS k 34 [(0, .ref (A 54)), (1, .int (Int32.ofInt xv)), (2, .int (Int32.ofInt qq)), (3, .int (Int32.ofInt c))] [] (Wd A dT t) 0 0 := by
    intro n
    induction n with
    | zero =>
      intro t xv qq c I F jjAIR jjCPL jjCDJ jjPMJ jjCJJ hq hi hm kx
      exact absurd hm (Nat.not_lt_zero _)
    | succ n ih =>
      intro t xv qq c I F jjAIR jjCPL jjCDJ jjPMJ jjCJJ hq hi hm kx
      have b3001 := bi_32 I
      have b3002 := bi_12 I
      have b3003 := bi_33 I
      refine z_load_n X (x := c) rfl (List.Mem.tail _ (List.Mem.tail _ (List.Mem.tail _ (List.Mem.head _)))) (z_aload_n X (x := A 54) rfl (List.Mem.head _) (z_getI X 54 rfl (c518_ok rfl) rfl rfl ?_))
      have b3004 := bi_32 I
      refine z_icmp_ge X (t := 125) rfl rfl ⟨by first | exact oq_fa4e5087 hi.2.2.2.2.1 | omega, by first | exact oq_a893734d hi.2.2.2.2.2 hi.2.1.2.1 | omega⟩ (rng_to _) (fun g3005 => ?_) (fun g3005 => ?_)
      ·
        refine WS_pq [0, 1, 2, 3] (lv' := [(0, .ref (A 54)), (1, .int (Int32.ofInt xv)), (2, .int (Int32.ofInt qq)), (3, .int (Int32.ofInt c))]) rfl ?_
        exact kx _ c I F jjAIR jjCPL jjCDJ jjPMJ jjCJJ hq (by first | exact ⟨And.intro (hi.1.1) (And.intro (hi.1.2.1) (hi.1.2.2)), And.intro (hi.2.1.1) (And.intro (hi.2.1.2.1) (hi.2.1.2.2)), hi.2.2.1, And.intro (hi.2.2.2.1.1) (hi.2.2.2.1.2), oq_537ca82a hi.2.2.2.2.2 g3005 hi.2.1.1⟩ | omega)
      ·
        refine z_const X rfl (z_store X (lv' := [(4, .int (Int32.ofInt 0)), (0, .ref (A 54)), (1, .int (Int32.ofInt xv)), (2, .int (Int32.ofInt qq)), (3, .int (Int32.ofInt c))]) rfl (by decide) (fun _ h => h) (WS_pq [1, 2, 3, 4, 0] (lv' := [(0, .ref (A 54)), (1, .int (Int32.ofInt xv)), (2, .int (Int32.ofInt qq)), (3, .int (Int32.ofInt c)), (4, .int (Int32.ofInt 0))]) rfl (L45 ((24 - 0 : Int).toNat + 1) t xv qq c 0 I F jjAIR jjCPL jjCDJ jjPMJ jjCJJ hq (by first | exact ⟨And.intro (hi.1.1) (And.intro (hi.1.2.1) (hi.1.2.2)), And.intro (hi.2.1.1) (And.intro (hi.2.1.2.1) (hi.2.1.2.2)), hi.2.2.1, And.intro (hi.2.2.2.1.1) (hi.2.2.2.1.2), And.intro (hi.2.2.2.2.1) (oq_9d1a6c71 g3005 hi.2.1.1), by decide, oq_54f49eb5 hi.1.2.1⟩ | omega) (Nat.lt_succ_self _) ?_)))
        intro s3006 x3007 Is3006 Fs3006 JAIR_s3006 JCPL_s3006 JCDJ_s3006 JPMJ_s3006 JCJJ_s3006 Qs3006 hs3006
        have b3008 := bi_32 Is3006
        have b3009 := bi_12 Is3006
        have b3010 := bi_33 Is3006
        refine z_inc X (x := c) (lv' := [(3, .int (Int32.ofInt (c + 1))), (0, .ref (A 54)), (1, .int (Int32.ofInt xv)), (2, .int (Int32.ofInt qq)), (4, .int (Int32.ofInt x3007))]) rfl (by decide) (List.Mem.tail _ (List.Mem.tail _ (List.Mem.tail _ (List.Mem.head _)))) (fun _ h => h) (z_goto X (t := 34) rfl rfl (WS_pq [1, 2, 3, 0] (lv' := [(0, .ref (A 54)), (1, .int (Int32.ofInt xv)), (2, .int (Int32.ofInt qq)), (3, .int (Int32.ofInt (c + 1)))]) rfl ?_))
        exact ih _ xv qq (c + 1) Is3006 Fs3006 JAIR_s3006 JCPL_s3006 JCDJ_s3006 JPMJ_s3006 JCJJ_s3006 ⟨fwx_c Qs3006.1 (by omega), Qs3006.2⟩ (by first | exact ⟨And.intro (hs3006.1.1) (And.intro (hs3006.1.2.1) (hs3006.1.2.2)), And.intro (hs3006.2.1.1) (And.intro (hs3006.2.1.2.1) (hs3006.2.1.2.2)), hs3006.2.2.1, And.intro (hs3006.2.2.2.1.1) (hs3006.2.2.2.1.2), oq_54f49eb5 hs3006.2.2.2.2.1.1, oq_afc84a8d hs3006.2.2.2.2.1.2⟩ | omega) (by first | exact qk_me hm (by decide) (oq_4619bacb hs3006.2.2.2.2.1.2 hs3006.2.1.2.1) | omega) kx
  have L28 : ∀ (n : Nat) (t : PS) (xv qq : Int), Bd t → Fm [22, 23, 24, 34, 35] [33, 26, 27, 28, 29, 30, 31, 32, 20, 48, 47, 49, 50, 51] s t → AIR t → CPL t → CDJ U t → PMJ t → CJJ Jn t → (FWX (QD U Jn (iI s 32) (iI s 33) (fun j => iC s 46 j) (pfC s) (fun j => iC s 24 j)) (x : Int).toNat qq 0 0 t ∧ JDA U Jn (fun j => iC s 46 j) (pfC s) (fun j => iC s 24 j) (iI s 32) t ∧ LDO U (pfC s) 8 t) → ((xv = x ∧ 0 ≤ x ∧ x ≤ 23) ∧ (iI t 32 = iI s 32 ∧ iI s 32 ≤ 6 ∧ 0 ≤ iI s 32) ∧ iI t 33 = iI s 33 ∧ (-1 ≤ qq ∧ qq ≤ 23)) → (qq + 1 : Int).toNat < n → (∀ (t' : PS) (qq' : Int), Bd t' → Fm [22, 23, 24, 34, 35] [33, 26, 27, 28, 29, 30, 31, 32, 20, 48, 47, 49, 50, 51] s t' → AIR t' → CPL t' → CDJ U t' → PMJ t' → CJJ Jn t' → (FWX (QD U Jn (iI s 32) (iI s 33) (fun j => iC s 46 j) (pfC s) (fun j => iC s 24 j)) (x : Int).toNat qq' 0 0 t' ∧ JDA U Jn (fun j => iC s 46 j) (pfC s) (fun j => iC s 24 j) (iI s 32) t' ∧ LDO U (pfC s) 8 t') → ((xv = x ∧ 0 ≤ x ∧ x ≤ 23) ∧ (iI t' 32 = iI s 32 ∧ iI s 32 ≤ 6 ∧ 0 ≤ iI s 32) ∧ iI t' 33 = iI s 33 ∧ qq' = -1) → WS k 131 [(0, .ref (A 54)), (1, .int (Int32.ofInt xv)), (2, .int (Int32.ofInt qq'))] [] (Wd A dT t') 0 0) → WS k 28 [(0, .ref (A 54)), (1, .int (Int32.ofInt xv)), (2, .int (Int32.ofInt qq))] [] (Wd A dT t) 0 0 := by
    intro n
    induction n with
    | zero =>
      intro t xv qq I F jjAIR jjCPL jjCDJ jjPMJ jjCJJ hq hi hm kx
      exact absurd hm (Nat.not_lt_zero _)
    | succ n ih =>
      intro t xv qq I F jjAIR jjCPL jjCDJ jjPMJ jjCJJ hq hi hm kx
      have b4001 := bi_32 I
      have b4002 := bi_12 I
      have b4003 := bi_33 I
      refine z_load_n X (x := qq) rfl (List.Mem.tail _ (List.Mem.tail _ (List.Mem.head _))) (z_if_lt X (t := 131) rfl rfl ⟨by first | exact oq_97ee2c2a hi.2.2.2.1 | omega, by first | exact oq_1a42ef34 hi.2.2.2.2 | omega⟩ (fun g4004 => ?_) (fun g4004 => ?_))
      ·
        refine WS_pq [0, 1, 2] (lv' := [(0, .ref (A 54)), (1, .int (Int32.ofInt xv)), (2, .int (Int32.ofInt qq))]) rfl ?_
        exact kx _ qq I F jjAIR jjCPL jjCDJ jjPMJ jjCJJ hq (by first | exact ⟨And.intro (hi.1.1) (And.intro (hi.1.2.1) (hi.1.2.2)), And.intro (hi.2.1.1) (And.intro (hi.2.1.2.1) (hi.2.1.2.2)), hi.2.2.1, oq_076ebabd g4004 hi.2.2.2.1⟩ | omega)
      ·
        refine z_const X rfl (z_store_n X (lv' := [(3, .int (Int32.ofInt 0)), (0, .ref (A 54)), (1, .int (Int32.ofInt xv)), (2, .int (Int32.ofInt qq))]) rfl (by decide) (fun _ h => h) (WS_pq [1, 2, 3, 0] (lv' := [(0, .ref (A 54)), (1, .int (Int32.ofInt xv)), (2, .int (Int32.ofInt qq)), (3, .int (Int32.ofInt 0))]) rfl (L34 ((6 - 0 : Int).toNat + 1) t xv qq 0 I F jjAIR jjCPL jjCDJ jjPMJ jjCJJ hq (by first | exact ⟨And.intro (hi.1.1) (And.intro (hi.1.2.1) (hi.1.2.2)), And.intro (hi.2.1.1) (And.intro (hi.2.1.2.1) (hi.2.1.2.2)), hi.2.2.1, And.intro (g4004) (hi.2.2.2.2), by decide, hi.2.1.2.2⟩ | omega) (Nat.lt_succ_self _) ?_)))
        intro s4005 x4006 Is4005 Fs4005 JAIR_s4005 JCPL_s4005 JCDJ_s4005 JPMJ_s4005 JCJJ_s4005 Qs4005 hs4005
        have b4007 := bi_32 Is4005
        have b4008 := bi_12 Is4005
        have b4009 := bi_33 Is4005
        refine z_inc X (x := qq) (lv' := [(2, .int (Int32.ofInt (qq + (-1)))), (0, .ref (A 54)), (1, .int (Int32.ofInt xv)), (3, .int (Int32.ofInt x4006))]) rfl (by decide) (List.Mem.tail _ (List.Mem.tail _ (List.Mem.head _))) (fun _ h => h) (z_goto X (t := 28) rfl rfl (WS_pq [1, 2, 0] (lv' := [(0, .ref (A 54)), (1, .int (Int32.ofInt xv)), (2, .int (Int32.ofInt (qq + (-1))))]) rfl ?_))
        exact ih _ xv (qq + (-1)) Is4005 Fs4005 JAIR_s4005 JCPL_s4005 JCDJ_s4005 JPMJ_s4005 JCJJ_s4005 ⟨fwx_q Qs4005.1 (by show (((iI s 32).toNat : Nat) : Int) ≤ _; omega), Qs4005.2⟩ (by first | exact ⟨And.intro (hs4005.1.1) (And.intro (hs4005.1.2.1) (hs4005.1.2.2)), And.intro (hs4005.2.1.1) (And.intro (hs4005.2.1.2.1) (hs4005.2.1.2.2)), hs4005.2.2.1, oq_285ed02d hs4005.2.2.2.1.1, oq_92f1d9fb hs4005.2.2.2.1.2⟩ | omega) (by first | exact qk_me hm (by decide) (oq_7a276f11 hs4005.2.2.2.1.1) | omega) kx
  refine z_const X rfl (z_store_n X (lv' := [(2, .int (Int32.ofInt 0)), (0, .ref (A 54)), (1, .int (Int32.ofInt x))]) rfl (by decide) (fun _ h => h) (WS_pq [1, 2, 0] (lv' := [(0, .ref (A 54)), (1, .int (Int32.ofInt x)), (2, .int (Int32.ofInt 0))]) rfl (L2 ((6 - 0 : Int).toNat + 1) s x 0 I F jAIR jCPL jCDJ jPMJ jCJJ jda_0 (by first | exact ⟨And.intro (by decide) (And.intro (p0.1) (p0.2)), And.intro (by decide) (And.intro (b1.2) (b1.1)), by decide, And.intro (by decide) (b1.1), p1⟩ | omega) (Nat.lt_succ_self _) ?_)))
  intro s4 x5 Is4 Fs4 JAIR_s4 JCPL_s4 JCDJ_s4 JPMJ_s4 JCJJ_s4 Qs4 hs4
  have b6 := bi_32 Is4
  have b7 := bi_12 Is4
  have b8 := bi_33 Is4
  refine z_aload_n X (x := A 54) rfl (List.Mem.head _) (zcV_v0 X E 54 (As := []) (st := []) rfl rfl rfl rfl (c4_loads7 G Is4 JAIR_s4 JCPL_s4 JCDJ_s4 JPMJ_s4 ) rfl (Nat.le_of_ble_eq_true rfl) (fun s9 Is9 Fs9 hps9 => ?_))
  have Gs9 := fm_tq Fs4 Fs9 rfl rfl
  have JAIR_s9 : AIR s9 := AIR_fm Fs9 (by decide) JAIR_s4
  have JCPL_s9 : CPL s9 := CPL_fm Fs9 (by decide) JCPL_s4
  have JCDJ_s9 : CDJ U s9 := CDJ_fm Fs9 (by decide) JCDJ_s4
  have JPMJ_s9 : PMJ s9 := PMJ_fm Fs9 (by decide) JPMJ_s4
  have JCJJ_s9 : CJJ Jn s9 := CJJ_fm Fs9 (by decide) JCJJ_s4
  have ws9_32 : iI s9 32 = iI s4 32 := fm_iq Fs9 rfl
  have ws9_12 : iI s9 12 = iI s4 12 := fm_iq Fs9 rfl
  have ws9_33 : iI s9 33 = iI s4 33 := fm_iq Fs9 rfl
  have aws9_47 : SAM 47 s4 s9 := sam_ts (sam_rf (a := 47) (s := s4)) (sam_fm Fs9 (by decide))
  have aws9_48 : SAM 48 s4 s9 := sam_ts (sam_rf (a := 48) (s := s4)) (sam_fm Fs9 (by decide))
  have hJD : JDA U Jn (fun j => iC s 46 j) (pfC s) (fun j => iC s 24 j) (iI s 32) s9 := jda_s (by have z := Qs4; rw [show x5 = iI s 32 by omega] at z; exact z) aws9_47 aws9_48
  have hLD : LDO U (pfC s) 8 s9 := by have z := hps9; rw [show pfC s4 = pfC s from funext (fun j => fm_c Fs4 (by decide))] at z; exact z
  refine z_bipush X rfl (z_store_n X (lv' := [(2, .int (Int32.ofInt 23)), (0, .ref (A 54)), (1, .int (Int32.ofInt x))]) rfl (by decide) (fun _ h => h) (WS_pq [1, 2, 0] (lv' := [(0, .ref (A 54)), (1, .int (Int32.ofInt x)), (2, .int (Int32.ofInt 23))]) rfl (L28 ((23 + 1 : Int).toNat + 1) s9 x 23 Is9 Gs9 JAIR_s9 JCPL_s9 JCDJ_s9 JPMJ_s9 JCJJ_s9 ⟨fwx_0, hJD, hLD⟩ (by first | exact ⟨And.intro (by decide) (And.intro (hs4.1.2.1) (hs4.1.2.2)), And.intro (oq_1aa5be9e ws9_32 hs4.2.1.1) (And.intro (hs4.2.1.2.1) (hs4.2.1.2.2)), oq_1aa5be9e ws9_33 hs4.2.2.1, by decide, by decide⟩ | omega) (Nat.lt_succ_self _) ?_)))
  intro s11 x12 Is11 Fs11 JAIR_s11 JCPL_s11 JCDJ_s11 JPMJ_s11 JCJJ_s11 Qs11 hs11
  have b13 := bi_32 Is11
  have b14 := bi_12 Is11
  have b15 := bi_33 Is11
  have hQ := Qs11
  refine z_aload_n X (x := A 54) rfl (List.Mem.head _) (z_load_n X (x := x) rfl (List.Mem.tail _ (List.Mem.head _)) (zcV_i0 X E 54 (As := [.int (Int32.ofInt x)]) (st := []) rfl rfl rfl rfl (c4_choose7 (Q := (QD U Jn (iI s 32) (iI s 33) (fun j => iC s 46 j) (pfC s) (fun j => iC s 24 j))) (mm := (x : Int).toNat) G Is11 (by first | exact ⟨hs11.1.2.1, hs11.1.2.2⟩ | omega) (by omega) (fwa_of hQ.1 (by omega)) (jnd_of hQ.2.1 (by omega)) (bsy_of hQ.2.2 (by omega)) (by show iI s11 32 = (((iI s 32).toNat : Nat) : Int); omega) (qd_n)) rfl (Nat.le_of_ble_eq_true rfl) (fun s16 e17 Is16 Fs16 hrs16 hps16 => ?_)))
  have hps16p := hps16.2
  have Gs16 := fm_tq Fs11 Fs16 rfl rfl
  have JAIR_s16 : AIR s16 := AIR_fm Fs16 (by decide) JAIR_s11
  have JCPL_s16 : CPL s16 := CPL_fm Fs16 (by decide) JCPL_s11
  have JCDJ_s16 : CDJ U s16 := CDJ_fm Fs16 (by decide) JCDJ_s11
  have JPMJ_s16 : PMJ s16 := PMJ_fm Fs16 (by decide) JPMJ_s11
  have JCJJ_s16 : CJJ Jn s16 := CJJ_fm Fs16 (by decide) JCJJ_s11
  have ws16_32 : iI s16 32 = iI s11 32 := fm_iq Fs16 rfl
  have ws16_12 : iI s16 12 = iI s11 12 := fm_iq Fs16 rfl
  have ws16_33 : iI s16 33 = iI s11 33 := fm_iq Fs16 rfl
  have aws16_47 : SAM 47 s11 s16 := sam_ts (sam_rf (a := 47) (s := s11)) (sam_fm Fs16 (by decide))
  have aws16_48 : SAM 48 s11 s16 := sam_ts (sam_rf (a := 48) (s := s11)) (sam_fm Fs16 (by decide))
  have aws16_49 : SAM 49 s11 s16 := sam_ts (sam_rf (a := 49) (s := s11)) (sam_fm Fs16 (by decide))
  have aws16_50 : SAM 50 s11 s16 := sam_ts (sam_rf (a := 50) (s := s11)) (sam_fm Fs16 (by decide))
  exact w_iret X.1 q hRt (nar_ret (by first | exact hps16.1 | omega)) (ax_d X (show cdA 48 136 = some (.ireturn, 1, 0, 0, 0) from rfl)) (Nat.zero_le _) (Nat.zero_le _) ⟨_, rfl, Is16, Gs16, e17, rfl, hrs16, ⟨hps16.1, hps16.2, (jnd_s (jnd_of (b := iI s 33) hQ.2.1 (by first | (clear hps16; omega) | omega)) (sam_fm Fs16 (by decide)))⟩⟩
set_option maxRecDepth 4000 in
theorem cs_plan7 (G : GX l s0 D tys a0 dT) {U : AirD} {Jn : List Int → Prop} (I : Bd s) (jAIR : AIR s) (jCPL : CPL s) (jCDJ : CDJ U s) (jPMJ : PMJ s) (jCJJ : CJJ Jn s) {u v : Int} (p0 : rng u) (p1 : rng v) (p2 : iI s 12 ≤ 8) : CT l s0 D A dT 163 (rmN 163) [.ref (A 0), .int (Int32.ofInt u), .int (Int32.ofInt v)] s (fun o t => Bd t ∧ Fm [22, 23, 24, 34, 35] [33, 26, 27, 28, 29, 30, 31, 32, 20, 48, 47, 49, 50, 51] s t ∧ ((∃ e, o = .inl (some (.int (Int32.ofInt e))) ∧ rng e ∧ ((0 ≤ u ∧ u ≤ 23) ∧ (-2 ≤ v ∧ v ≤ 23) ∧ PLA (QD U Jn (iI s 32) (iI s 33) (fun j => iC s 46 j) (pfC s) (fun j => iC s 24 j)) (u : Int).toNat v e)) ∨ ∃ x : Nat, o = .inr (exN x) ∧ (x = 0 ∧ (u < 0 ∨ 23 < u ∨ v < -2 ∨ 23 < v)))) := by
  refine ct_ofX G (by decide) (Nat.le_of_ble_eq_true rfl) (fun k X E ET hRt hXt q => ?_)
  show WS k 0 [(0, .ref (A 0)), (1, .int (Int32.ofInt u)), (2, .int (Int32.ofInt v))] [] _ 0 0
  have F : Fm [22, 23, 24, 34, 35] [33, 26, 27, 28, 29, 30, 31, 32, 20, 48, 47, 49, 50, 51] s s := fm_rf _ _ s
  have b1 := bi_32 I
  have b2 := bi_12 I
  have b3 := bi_33 I
  have b4 := bi_35 I
  have b5 := bi_34 I
  refine z_aload_n X (x := A 0) rfl (List.Mem.head _) (z_load_n X (x := u) rfl (List.Mem.tail _ (List.Mem.head _)) (z_const X rfl (z_bipush X rfl (z_callV X 0 (rm := rmN 184) (As := [.int (Int32.ofInt u), .int (Int32.ofInt 0), .int (Int32.ofInt 23)]) (st := []) rfl rfl (by decide) rfl (by rw [E.1, E.2.1, E.2.2.1]; exact cs_needWithin2 G I (by first | exact ⟨p0.1, p0.2⟩ | omega) (by first | exact ⟨by decide, by decide⟩ | omega) (by first | exact ⟨by decide, by decide⟩ | omega)) ⟨by rw [E.2.2.2]; exact (show (rmN 184).frames + 1 ≤ (rmN 163).frames by decide), by rw [E.2.2.2]; exact (show 8 + (mNL (miB 184) + 11) + (rmN 184).locals ≤ (rmN 163).locals by decide), by rw [E.2.2.2]; exact (show 0 + 1 ≤ 2 by decide), by rw [E.2.2.2]; exact (show 0 + 6 ≤ 12 by decide)⟩ (Nat.le_of_ble_eq_true rfl) (fun vv s6 hq => ?_) (fun ee s6 hq => ?_)))))
  rotate_left
  · obtain ⟨Is6, Fs6, (⟨hv, hps6⟩ | ⟨xx, hv, hps6⟩)⟩ := hq
    · cases hv
    · cases hv
      have Gs6 := fm_tq F Fs6 rfl rfl
      have JAIR_s6 : AIR s6 := AIR_fm Fs6 (by decide) jAIR
      have JCPL_s6 : CPL s6 := CPL_fm Fs6 (by decide) jCPL
      have JCDJ_s6 : CDJ U s6 := CDJ_fm Fs6 (by decide) jCDJ
      have JPMJ_s6 : PMJ s6 := PMJ_fm Fs6 (by decide) jPMJ
      have JCJJ_s6 : CJJ Jn s6 := CJJ_fm Fs6 (by decide) jCJJ
      have ws6_32 : iI s6 32 = iI s 32 := fm_iq Fs6 rfl
      have ws6_12 : iI s6 12 = iI s 12 := fm_iq Fs6 rfl
      have ws6_33 : iI s6 33 = iI s 33 := fm_iq Fs6 rfl
      have ws6_35 : iI s6 35 = iI s 35 := fm_iq Fs6 rfl
      have ws6_34 : iI s6 34 = iI s 34 := fm_iq Fs6 rfl
      exact x_out X.1 q (fun x hx => (hXt x hx).elim) (show 1 ≤ 2 by decide) (show 6 ≤ 12 by decide) ⟨_, rfl, Is6, Gs6, Or.inr ⟨xx, rfl, by omega⟩⟩
  obtain ⟨Is6, Fs6, (⟨hv, hps6⟩ | ⟨xx, hv, hps6⟩)⟩ := hq
  rotate_left
  · cases hv
  cases hv
  have Gs6 := fm_tq F Fs6 rfl rfl
  have JAIR_s6 : AIR s6 := AIR_fm Fs6 (by decide) jAIR
  have JCPL_s6 : CPL s6 := CPL_fm Fs6 (by decide) jCPL
  have JCDJ_s6 : CDJ U s6 := CDJ_fm Fs6 (by decide) jCDJ
  have JPMJ_s6 : PMJ s6 := PMJ_fm Fs6 (by decide) jPMJ
  have JCJJ_s6 : CJJ Jn s6 := CJJ_fm Fs6 (by decide) jCJJ
  have ws6_32 : iI s6 32 = iI s 32 := fm_iq Fs6 rfl
  have ws6_12 : iI s6 12 = iI s 12 := fm_iq Fs6 rfl
  have ws6_33 : iI s6 33 = iI s 33 := fm_iq Fs6 rfl
  have ws6_35 : iI s6 35 = iI s 35 := fm_iq Fs6 rfl
  have ws6_34 : iI s6 34 = iI s 34 := fm_iq Fs6 rfl
  show WS k 8 [(0, .ref (A 0)), (1, .int (Int32.ofInt u)), (2, .int (Int32.ofInt v))] [] (Wd A dT s6) 1 6
  refine z_aload_n X (x := A 0) rfl (List.Mem.head _) (z_load_n X (x := v) rfl (List.Mem.tail _ (List.Mem.tail _ (List.Mem.head _))) (z_bipush X rfl (z_bipush X rfl (z_callV X 0 (rm := rmN 184) (As := [.int (Int32.ofInt v), .int (Int32.ofInt (-2)), .int (Int32.ofInt 23)]) (st := []) rfl rfl (by decide) rfl (by rw [E.1, E.2.1, E.2.2.1]; exact cs_needWithin2 G Is6 (by first | exact ⟨p1.1, p1.2⟩ | omega) (by first | exact ⟨by decide, by decide⟩ | omega) (by first | exact ⟨by decide, by decide⟩ | omega)) ⟨by rw [E.2.2.2]; exact (show (rmN 184).frames + 1 ≤ (rmN 163).frames by decide), by rw [E.2.2.2]; exact (show 8 + (mNL (miB 184) + 11) + (rmN 184).locals ≤ (rmN 163).locals by decide), by rw [E.2.2.2]; exact (show 1 + 1 ≤ 2 by decide), by rw [E.2.2.2]; exact (show 6 + 6 ≤ 12 by decide)⟩ (Nat.le_of_ble_eq_true rfl) (fun vv s8 hq => ?_) (fun ee s8 hq => ?_)))))
  rotate_left
  · obtain ⟨Is8, Fs8, (⟨hv, hps8⟩ | ⟨xx, hv, hps8⟩)⟩ := hq
    · cases hv
    · cases hv
      have Gs8 := fm_tq Gs6 Fs8 rfl rfl
      have JAIR_s8 : AIR s8 := AIR_fm Fs8 (by decide) JAIR_s6
      have JCPL_s8 : CPL s8 := CPL_fm Fs8 (by decide) JCPL_s6
      have JCDJ_s8 : CDJ U s8 := CDJ_fm Fs8 (by decide) JCDJ_s6
      have JPMJ_s8 : PMJ s8 := PMJ_fm Fs8 (by decide) JPMJ_s6
      have JCJJ_s8 : CJJ Jn s8 := CJJ_fm Fs8 (by decide) JCJJ_s6
      have ws8_32 : iI s8 32 = iI s6 32 := fm_iq Fs8 rfl
      have ws8_12 : iI s8 12 = iI s6 12 := fm_iq Fs8 rfl
      have ws8_33 : iI s8 33 = iI s6 33 := fm_iq Fs8 rfl
      have ws8_35 : iI s8 35 = iI s6 35 := fm_iq Fs8 rfl
      have ws8_34 : iI s8 34 = iI s6 34 := fm_iq Fs8 rfl
      exact x_out X.1 q (fun x hx => (hXt x hx).elim) (show (1 + 1) ≤ 2 by decide) (show (6 + 6) ≤ 12 by decide) ⟨_, rfl, Is8, Gs8, Or.inr ⟨xx, rfl, by first | (clear hps6; omega) | omega⟩⟩
  obtain ⟨Is8, Fs8, (⟨hv, hps8⟩ | ⟨xx, hv, hps8⟩)⟩ := hq
  rotate_left
  · cases hv
  cases hv
  have Gs8 := fm_tq Gs6 Fs8 rfl rfl
  have JAIR_s8 : AIR s8 := AIR_fm Fs8 (by decide) JAIR_s6
  have JCPL_s8 : CPL s8 := CPL_fm Fs8 (by decide) JCPL_s6
  have JCDJ_s8 : CDJ U s8 := CDJ_fm Fs8 (by decide) JCDJ_s6
  have JPMJ_s8 : PMJ s8 := PMJ_fm Fs8 (by decide) JPMJ_s6
  have JCJJ_s8 : CJJ Jn s8 := CJJ_fm Fs8 (by decide) JCJJ_s6
  have ws8_32 : iI s8 32 = iI s6 32 := fm_iq Fs8 rfl
  have ws8_12 : iI s8 12 = iI s6 12 := fm_iq Fs8 rfl
  have ws8_33 : iI s8 33 = iI s6 33 := fm_iq Fs8 rfl
  have ws8_35 : iI s8 35 = iI s6 35 := fm_iq Fs8 rfl
  have ws8_34 : iI s8 34 = iI s6 34 := fm_iq Fs8 rfl
  show WS k 17 [(0, .ref (A 0)), (1, .int (Int32.ofInt u)), (2, .int (Int32.ofInt v))] [] (Wd A dT s8) (1 + 1) (6 + 6)
  refine z_aload_n X (x := A 0) rfl (List.Mem.head _) (s_getR X 0 rfl (c518_ok rfl) rfl rfl (z_load_n X (x := u) rfl (List.Mem.tail _ (List.Mem.head _)) (z_callV X 54 (rm := rmN 48) (As := [.int (Int32.ofInt u)]) (st := []) rfl rfl (by decide) rfl (by rw [E.1, E.2.1, E.2.2.1]; exact c4_solve7 G Is8 JAIR_s8 JCPL_s8 JCDJ_s8 JPMJ_s8 JCJJ_s8 (by first | exact ⟨hps6.1, hps6.2⟩ | omega) (by first | exact oq_d7ce4408 ws8_12 ws6_12 p2 | omega)) ⟨by rw [E.2.2.2]; exact (show (rmN 48).frames + 1 ≤ (rmN 163).frames by decide), by rw [E.2.2.2]; exact (show 8 + (mNL (miB 48) + 11) + (rmN 48).locals ≤ (rmN 163).locals by decide), by rw [E.2.2.2]; exact (show (1 + 1) + 0 ≤ 2 by decide), by rw [E.2.2.2]; exact (show (6 + 6) + 0 ≤ 12 by decide)⟩ (Nat.le_of_ble_eq_true rfl) (fun vv s10 hq => ?_) (fun ee s10 hq => ?_))))
  rotate_left
  · obtain ⟨Is10, Fs10, e11, hv, hrs10, hps10⟩ := hq; cases hv
  obtain ⟨Is10, Fs10, e11, hv, hrs10, hps10⟩ := hq
  have hps10p := And.intro hps10.2.1 (hps10.2.2)
  cases hv
  have Gs10 := fm_tq Gs8 Fs10 rfl rfl
  have JAIR_s10 : AIR s10 := AIR_fm Fs10 (by decide) JAIR_s8
  have JCPL_s10 : CPL s10 := CPL_fm Fs10 (by decide) JCPL_s8
  have JCDJ_s10 : CDJ U s10 := CDJ_fm Fs10 (by decide) JCDJ_s8
  have JPMJ_s10 : PMJ s10 := PMJ_fm Fs10 (by decide) JPMJ_s8
  have JCJJ_s10 : CJJ Jn s10 := CJJ_fm Fs10 (by decide) JCJJ_s8
  have ws10_32 : iI s10 32 = iI s8 32 := fm_iq Fs10 rfl
  have ws10_12 : iI s10 12 = iI s8 12 := fm_iq Fs10 rfl
  have ws10_33 : iI s10 33 = iI s8 33 := fm_iq Fs10 rfl
  have b12 := bi_35 Is10
  have b13 := bi_34 Is10
  show WS k 25 [(0, .ref (A 0)), (1, .int (Int32.ofInt u)), (2, .int (Int32.ofInt v))] [.int (Int32.ofInt e11)] (Wd A dT s10) (1 + 1) (6 + 6)
  have eQ : (QD U Jn (iI s8 32) (iI s8 33) (fun j => iC s8 46 j) (pfC s8) (fun j => iC s8 24 j)) = (QD U Jn (iI s 32) (iI s 33) (fun j => iC s 46 j) (pfC s) (fun j => iC s 24 j)) := qd_c (by first | (clear hps10 hps8 hps6; omega) | (clear hps8 hps6; omega) | omega) (by first | (clear hps10 hps8 hps6; omega) | (clear hps8 hps6; omega) | omega) (fun j _ => fm_c Gs8 (by decide)) (fun j _ => fm_c Gs8 (by decide)) (fun j _ => fm_c Gs8 (by decide))
  have hj := hps10
  rw [eQ] at hj
  refine z_if_ne X (t := 30) rfl rfl hrs10 (fun g14 => ?_) (fun g14 => ?_)
  ·
    refine z_load_n X (x := v) rfl (List.Mem.tail _ (List.Mem.tail _ (List.Mem.head _))) (z_const X rfl (z_icmp_ne X (t := 45) rfl rfl ⟨by first | exact p1.1 | omega, by first | exact p1.2 | omega⟩ (by decide) (fun g15 => ?_) (fun g15 => ?_)))
    ·
      refine z_load_n X (x := v) rfl (List.Mem.tail _ (List.Mem.tail _ (List.Mem.head _))) (z_bipush X rfl (z_icmp_ne X (t := 61) rfl rfl ⟨by first | exact p1.1 | omega, by first | exact p1.2 | omega⟩ (by decide) (fun g16 => ?_) (fun g16 => ?_)))
      ·
        refine z_aload_n X (x := A 0) rfl (List.Mem.head _) (s_getR X 0 rfl (c518_ok rfl) rfl rfl (s_getR X 54 rfl (c518_ok rfl) rfl rfl (z_load_n X (x := v) rfl (List.Mem.tail _ (List.Mem.tail _ (List.Mem.head _))) (z_ald X 60 rfl (c518_ok rfl) rfl (by first | exact oq_52fc8c25 g16 g15 hps8.1 | omega) (show v < 24 by first | exact oq_7fdb8aa6 hps8.2 | omega) (cbig_ok rfl) ?_))))
        have b17 := bc_51 Is10 (show (v).toNat < 24 by first | exact oq_138251d6 hps8.2 | omega)
        exact w_iret X.1 q hRt rfl (ax_d X (show cdA 163 70 = some (.ireturn, 1, 0, 0, 0) from rfl)) (show (1 + 1) ≤ 2 by decide) (show (6 + 6) ≤ 12 by decide) ⟨_, rfl, Is10, Gs10, Or.inl ⟨(iC s10 51 (v).toNat), rfl, (rng_to _), ⟨by first | exact ⟨hps6.1, hps6.2⟩ | omega, by first | exact ⟨hps8.1, hps8.2⟩ | omega, ple_a (ple_1 hj.2.1 (by first | (clear g16 g15 g14 hps10 hps8 hps6; omega) | (clear g15 g14 hps10 hps8 hps6; omega) | omega)) (by first | (clear g16 g15 g14 hps10 hps8 hps6; omega) | (clear g15 g14 hps10 hps8 hps6; omega) | omega) (fun j h9 => (Is10.2 51 j h9).1) (by first | (clear g16 g15 g14 hps10 hps8 hps6; omega) | (clear g15 g14 hps10 hps8 hps6; omega) | omega) (Or.inr (Or.inr ⟨by first | (clear g16 g15 g14 hps10 hps8 hps6; omega) | (clear g15 g14 hps10 hps8 hps6; omega) | omega, rfl⟩))⟩⟩⟩
      ·
        refine z_aload_n X (x := A 0) rfl (List.Mem.head _) (s_getR X 0 rfl (c518_ok rfl) rfl rfl (z_getI X 54 rfl (c518_ok rfl) rfl rfl ?_))
        have b18 := bi_35 Is10
        refine z_goto X (t := 70) rfl rfl ?_
        exact w_iret X.1 q hRt rfl (ax_d X (show cdA 163 70 = some (.ireturn, 1, 0, 0, 0) from rfl)) (show (1 + 1) ≤ 2 by decide) (show (6 + 6) ≤ 12 by decide) ⟨_, rfl, Is10, Gs10, Or.inl ⟨(iI s10 35), rfl, (rng_to _), ⟨by first | exact ⟨hps6.1, hps6.2⟩ | omega, by first | exact ⟨hps8.1, hps8.2⟩ | omega, ple_a (ple_1 hj.2.1 (by first | (clear g15 g14 hps10 hps8 hps6; omega) | (clear g14 hps10 hps8 hps6; omega) | omega)) (by first | (clear g15 g14 hps10 hps8 hps6; omega) | (clear g14 hps10 hps8 hps6; omega) | omega) (fun j h9 => (Is10.2 51 j h9).1) (by first | (clear g15 g14 hps10 hps8 hps6; omega) | (clear g14 hps10 hps8 hps6; omega) | omega) (Or.inr (Or.inl ⟨by first | (clear g15 g14 hps10 hps8 hps6; omega) | (clear g14 hps10 hps8 hps6; omega) | omega, rfl⟩))⟩⟩⟩
    ·
      refine z_aload_n X (x := A 0) rfl (List.Mem.head _) (s_getR X 0 rfl (c518_ok rfl) rfl rfl (z_getI X 54 rfl (c518_ok rfl) rfl rfl ?_))
      have b19 := bi_34 Is10
      refine z_goto X (t := 70) rfl rfl ?_
      exact w_iret X.1 q hRt rfl (ax_d X (show cdA 163 70 = some (.ireturn, 1, 0, 0, 0) from rfl)) (show (1 + 1) ≤ 2 by decide) (show (6 + 6) ≤ 12 by decide) ⟨_, rfl, Is10, Gs10, Or.inl ⟨(iI s10 34), rfl, (rng_to _), ⟨by first | exact ⟨hps6.1, hps6.2⟩ | omega, by first | exact ⟨hps8.1, hps8.2⟩ | omega, ple_a (ple_1 hj.2.1 (by first | (clear g14 hps10 hps8 hps6; omega) | (clear hps10 hps8 hps6; omega) | omega)) (by first | (clear g14 hps10 hps8 hps6; omega) | (clear hps10 hps8 hps6; omega) | omega) (fun j h9 => (Is10.2 51 j h9).1) (by first | (clear g14 hps10 hps8 hps6; omega) | (clear hps10 hps8 hps6; omega) | omega) (Or.inl ⟨by first | (clear g14 hps10 hps8 hps6; omega) | (clear hps10 hps8 hps6; omega) | omega, rfl⟩)⟩⟩⟩
  ·
    refine z_const X rfl ?_
    exact w_iret X.1 q hRt rfl (ax_d X (show cdA 163 29 = some (.ireturn, 1, 0, 0, 0) from rfl)) (show (1 + 1) ≤ 2 by decide) (show (6 + 6) ≤ 12 by decide) ⟨_, rfl, Is10, Gs10, Or.inl ⟨(-1), rfl, (by decide), ⟨by first | exact ⟨hps6.1, hps6.2⟩ | omega, by first | exact ⟨hps8.1, hps8.2⟩ | omega, Or.inl ⟨rfl, ple_no hj.2.1 (by first | (clear hps10 hps8 hps6; omega) | (clear hps8 hps6; omega) | omega)⟩⟩⟩⟩
set_option maxRecDepth 4000 in
theorem lw_plan7 (G : GX l s0 D tys a0 dT) {U : AirD} {Jn : List Int → Prop} (I : Bd s) (jAIR : AIR s) (jCPL : CPL s) (jCDJ : CDJ U s) (jPMJ : PMJ s) (jCJJ : CJJ Jn s) {u v : Int} (p0 : rng u) (p1 : rng v) (p2 : iI s 12 ≤ 8) : CTL l s0 D A dT 337 (rmN 337) [.ref (A 0), .int (Int32.ofInt u), .int (Int32.ofInt v), .ref (A 517)] s (fun o t => Bd t ∧ Fm [22, 23, 24, 34, 35] [33, 26, 27, 28, 29, 30, 31, 32, 20, 48, 47, 49, 50, 51, 1460] s t ∧ ∃ e, o = .inl (some (.int (Int32.ofInt e))) ∧ rng e ∧ ((e = 0 ∧ (0 ≤ u ∧ u ≤ 23) ∧ (-2 ≤ v ∧ v ≤ 23) ∧ PLA (QD U Jn (iI s 32) (iI s 33) (fun j => iC s 46 j) (pfC s) (fun j => iC s 24 j)) (u : Int).toNat v (iO t)) ∨ (e = 1 ∧ (u < 0 ∨ 23 < u ∨ v < -2 ∨ 23 < v)))) := by
  refine ctL_of G (by decide) (Nat.le_of_ble_eq_true rfl) (by decide) rfl (fun k X E ET hRt hEx q => ?_)
  show WS k 0 [(0, .ref (A 0)), (1, .int (Int32.ofInt u)), (2, .int (Int32.ofInt v)), (3, .ref (A 517))] [] _ 0 0
  have F : Fm [22, 23, 24, 34, 35] [33, 26, 27, 28, 29, 30, 31, 32, 20, 48, 47, 49, 50, 51, 1460] s s := fm_rf _ _ s
  have hA := swA_rf A
  have b1 := bi_32 I
  have b2 := bi_12 I
  have b3 := bi_33 I
  refine z_aload_n X (x := A 517) rfl (List.Mem.tail _ (List.Mem.tail _ (List.Mem.tail _ (List.Mem.head _)))) (z_const X rfl (z_aload_n X (x := A 0) rfl (List.Mem.head _) (z_load_n X (x := u) rfl (List.Mem.tail _ (List.Mem.head _)) (z_load_n X (x := v) rfl (List.Mem.tail _ (List.Mem.tail _ (List.Mem.head _))) (z_callV X 0 (rm := rmN 163) (As := [.int (Int32.ofInt u), .int (Int32.ofInt v)]) (st := [.int (Int32.ofInt 0), .ref (A 517)]) rfl rfl (by decide) rfl (by rw [E.1, E.2.1, E.2.2.1]; exact cs_plan7 G I jAIR jCPL jCDJ jPMJ jCJJ (by omega) (by omega) (by omega)) ⟨by rw [E.2.2.2]; exact (show (rmN 163).frames + 1 ≤ (rmN 337).frames by decide), by rw [E.2.2.2]; exact (show 8 + (mNL (miB 163) + 11) + (rmN 163).locals ≤ (rmN 337).locals by decide), by rw [E.2.2.2]; exact (show 0 + (rmN 163).cells ≤ (rmN 337).cells by decide), by rw [E.2.2.2]; exact (show 0 + (rmN 163).slots ≤ (rmN 337).slots by decide)⟩ (Nat.le_of_ble_eq_true rfl) (fun vv s4 hq => ?_) (fun ee s4 hq => ?_))))))
  rotate_left
  · obtain ⟨Is4, Fs4, (⟨e5, hv, hrs4, hps4⟩ | ⟨xx, hv, hps4⟩)⟩ := hq
    · cases hv
    · cases hv
      rcases (show xx = 0 by omega) with gx
      ·
        subst gx
        have Gs4 := fm_tq F Fs4 rfl rfl
        have ws4_32 : iI s4 32 = iI s 32 := fm_iq Fs4 rfl
        have ws4_12 : iI s4 12 = iI s 12 := fm_iq Fs4 rfl
        have ws4_33 : iI s4 33 = iI s 33 := fm_iq Fs4 rfl
        refine (hEx 5 0).2 13 rfl _ _ _ _ _ (fun q1 => ?_)
        show WS k 13 [(0, .ref (A 0)), (1, .int (Int32.ofInt u)), (2, .int (Int32.ofInt v)), (3, .ref (A 517))] [.ref q1] (Wd A dT s4) 2 12
        refine z_astore X (lv' := [(4, .ref q1), (0, .ref (A 0)), (1, .int (Int32.ofInt u)), (2, .int (Int32.ofInt v)), (3, .ref (A 517))]) rfl (by decide) (fun _ h => h) (z_const X rfl ?_)
        exact w_iret X.1 q hRt rfl (ax_d X (show cdA 337 16 = some (.ireturn, 1, 0, 0, 0) from rfl)) (show 2 ≤ 2 by decide) (show 12 ≤ 12 by decide) ⟨A, _, hA, rfl, Is4, Gs4, 1, rfl, (by decide), Or.inr ⟨by decide, by omega⟩⟩
  obtain ⟨Is4, Fs4, (⟨e5, hv, hrs4, hps4⟩ | ⟨xx, hv, hps4⟩)⟩ := hq
  rotate_left
  · cases hv
  cases hv
  have Gs4 := fm_tq F Fs4 rfl rfl
  have ws4_32 : iI s4 32 = iI s 32 := fm_iq Fs4 rfl
  have ws4_12 : iI s4 12 = iI s 12 := fm_iq Fs4 rfl
  have ws4_33 : iI s4 33 = iI s 33 := fm_iq Fs4 rfl
  show WS k 8 [(0, .ref (A 0)), (1, .int (Int32.ofInt u)), (2, .int (Int32.ofInt v)), (3, .ref (A 517))] [.int (Int32.ofInt e5), .int (Int32.ofInt 0), .ref (A 517)] (Wd A dT s4) 2 12
  refine w_i2l X.1 (ax_d X (show cdA 337 8 = some (.i2l, 1, 0, 0, 0) from rfl)) (z_last X 517 rfl (c518_ok rfl) rfl (by first | (clear hps4; omega) | omega) (show 0 < 1 by first | (clear hps4; omega) | omega) (cbig_ok rfl) (wd_gen (fun s6 hs6 => ?_)))
  have Is6 : Bd s6 := eqB hs6 (bd_D Is4)
  have Fs6 : Fm [22, 23, 24, 34, 35] [33, 26, 27, 28, 29, 30, 31, 32, 20, 48, 47, 49, 50, 51, 1460] s s6 := by rw [hs6]; exact fm_D Gs4 (show 460 + 1000 ∈ _ by decide)
  have ws6_32 : iI s6 32 = iI s4 32 := eqI hs6 rfl
  have ws6_12 : iI s6 12 = iI s4 12 := eqI hs6 rfl
  have ws6_33 : iI s6 33 = iI s4 33 := eqI hs6 rfl
  have oos6 : iO s6 = e5 := by rw [hs6]; exact iO_u (by first | (clear hps4; omega) | omega)
  refine z_goto X (t := 17) rfl rfl (z_const X rfl ?_)
  exact w_iret X.1 q hRt rfl (ax_d X (show cdA 337 18 = some (.ireturn, 1, 0, 0, 0) from rfl)) (show 2 ≤ 2 by decide) (show 12 ≤ 12 by decide) ⟨A, _, hA, rfl, Is6, Fs6, 0, rfl, (by decide), Or.inl ⟨by decide, by first | (clear hps4; omega) | omega, by first | (clear hps4; omega) | omega, by rw [show iO s6 = e5 by first | (clear hps4; omega) | omega]; exact hps4.2.2⟩⟩
end M87kn
