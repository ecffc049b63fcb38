/-! The model's ear: listen -/
abbrev fwM (s : PS) (x : Nat) : Nat → Int := fun k => iC s (204 + x) k
abbrev WYM (s : PS) : WyS := (fwM s, fun x => iC s 202 x)
abbrev moM (s : PS) : Nat → Int := fun x => iC s 203 x
def inM (s : PS) (c : Int) : Prop := iC s 230 c.toNat ≠ 0
/-- the ways that the model hears now: no cell twice, and where each cell lies -/
def NWL (s : PS) : Prop := ∀ x : Nat, x < 12 → (x : Int) < iI s 90 → (1 ≤ iC s 202 x ∧ iC s 202 x ≤ 24) ∧ (∀ k : Nat, (k : Int) < iC s 202 x → 0 ≤ fwM s x k ∧ fwM s x k ≤ 127) ∧ (∀ k l : Nat, (k : Int) < iC s 202 x → (l : Int) < iC s 202 x → fwM s x k = fwM s x l → k = l) ∧ ∀ c : Nat, c < 128 → (iC s (216 + x) c = -1 ∧ ∀ k : Nat, (k : Int) < iC s 202 x → fwM s x k ≠ (c : Int)) ∨ ∃ k : Nat, (k : Int) < iC s 202 x ∧ fwM s x k = (c : Int) ∧ iC s (216 + x) c = (k : Int)
theorem NWL_fm {L M : List Nat} {s t : PS} (F : Fm L M s t) (h : (90 ∉ L ∧ 202 ∉ M) ∧ ∀ i, i < 12 → 204 + i ∉ M ∧ 216 + i ∉ M) (r : NWL s) : NWL t := fun x hx hs => by
  have e1 : iI t 90 = iI s 90 := fm_i F h.1.1
  have e2 : iC t 202 x = iC s 202 x := fm_c F h.1.2
  have e3 : ∀ k, iC t (204 + x) k = iC s (204 + x) k := fun k => fm_c F (h.2 x hx).1
  have e4 : ∀ k, iC t (216 + x) k = iC s (216 + x) k := fun k => fm_c F (h.2 x hx).2
  rw [e1] at hs
  have z := r x hx hs
  unfold fwM at z ⊢
  simp only [e2, e3, e4]
  exact z
theorem mt_M {s : PS} (h : NWL s) {a b k : Nat} (hb : b < 12) (hb2 : (b : Int) < iI s 90) {c : Int} (hc : c = fwM s a k) (c0 : 0 ≤ c) (c1 : c ≤ 127) {l : Int} (hl : l = iC s (216 + b) c.toNat) : (l = -1 → ¬ mtP (fwM s a) (fwM s b) (iC s 202 a) (iC s 202 b) k) ∧ (l ≠ -1 → (0 ≤ l ∧ l < iC s 202 b) ∧ (mtP (fwM s a) (fwM s b) (iC s 202 a) (iC s 202 b) k ↔ goK (fwM s a) (iC s 202 a) k ≠ goK (fwM s b) (iC s 202 b) l.toNat)) := by
  obtain ⟨-, -, inj, li⟩ := h b hb hb2
  have ec : ((c.toNat : Nat) : Int) = c := by omega
  rcases li c.toNat (by omega) with ⟨q1, q2⟩ | ⟨j, j1, j2, j3⟩
  · refine ⟨fun _ => ?_, fun n => absurd (hl.trans q1) n⟩
    rintro ⟨j, j1, j2, -⟩
    exact q2 j j1 (by rw [ec, hc]; exact j2)
  · have el : l = (j : Int) := hl.trans j3
    refine ⟨fun n => by omega, fun _ => ⟨by omega, ?_⟩⟩
    have ej : l.toNat = j := by omega
    rw [ej]
    rw [ec, hc] at j2
    constructor
    · rintro ⟨i, i1, i2, i3⟩
      have e := inj i j i1 j1 (i2.trans j2.symm)
      rw [← e]; exact i3
    · intro q
      exact ⟨j, j1, j2, q⟩
/-- sums, as far as they have come -/
noncomputable def crP (s : PS) (S : Int → Prop) (a : Nat) : Int := sm (fun x => sm (fun k => sm (ckM S (WYM s) (moM s) x k) (iI s 90).toNat) (iC s 202 x).toNat) a
noncomputable def crK (s : PS) (S : Int → Prop) (a k : Nat) : Int := sm (fun k => sm (ckM S (WYM s) (moM s) a k) (iI s 90).toNat) k
theorem ck_r {s : PS} {S : Int → Prop} {a k b : Nat} (hm : ∀ j, j < 12 → 0 ≤ moM s j ∧ moM s j ≤ 50) (ha : a < 12) (hb : b < 12) : 0 ≤ ckM S (WYM s) (moM s) a k b ∧ ckM S (WYM s) (moM s) a k b ≤ 50 := by
  have m1 := hm a ha
  have m2 := hm b hb
  unfold ckM
  by_cases h : a < b
  · rw [if_pos h]
    by_cases q : S ((WYM s).1 a k) ∧ mtP ((WYM s).1 a) ((WYM s).1 b) ((WYM s).2 a) ((WYM s).2 b) k
    · rw [i01_t q, Int.one_mul]; omega
    · rw [i01_f q, Int.zero_mul]; decide
  · rw [if_neg h]; decide
theorem crr_r {s : PS} {S : Int → Prop} {a k n : Nat} (hm : ∀ j, j < 12 → 0 ≤ moM s j ∧ moM s j ≤ 50) (ha : a < 12) (hn : n ≤ 12) : 0 ≤ sm (ckM S (WYM s) (moM s) a k) n ∧ sm (ckM S (WYM s) (moM s) a k) n ≤ 600 := by
  refine ⟨sm_nn (fun b hb => (ck_r hm ha (by omega)).1), ?_⟩
  have := sm_bd (f := ckM S (WYM s) (moM s) a k) (c := 50) (n := n) (fun b hb => (ck_r hm ha (by omega)).2)
  omega
theorem crK_r {s : PS} {S : Int → Prop} {a k : Nat} (hm : ∀ j, j < 12 → 0 ≤ moM s j ∧ moM s j ≤ 50) (ha : a < 12) (hn : iI s 90 ≤ 12) (hk : k ≤ 24) : 0 ≤ crK s S a k ∧ crK s S a k ≤ 14400 := by
  refine ⟨sm_nn (fun b hb => (crr_r hm ha (by omega)).1), ?_⟩
  have := sm_bd (f := fun k => sm (ckM S (WYM s) (moM s) a k) (iI s 90).toNat) (c := 600) (n := k) (fun b hb => (crr_r hm ha (by omega)).2)
  unfold crK
  omega
theorem crP_r {s : PS} {S : Int → Prop} {a : Nat} (hm : ∀ j, j < 12 → 0 ≤ moM s j ∧ moM s j ≤ 50) (ha : a ≤ 12) (hn : iI s 90 ≤ 12) (hy : ∀ j, j < 12 → iC s 202 j ≤ 24) : 0 ≤ crP s S a ∧ crP s S a ≤ 172800 := by
  refine ⟨sm_nn (fun x hx => (crK_r (k := (iC s 202 x).toNat) hm (by omega) hn (by have := hy x (by omega); omega)).1), ?_⟩
  have := sm_bd (f := fun x => sm (fun k => sm (ckM S (WYM s) (moM s) x k) (iI s 90).toNat) (iC s 202 x).toNat) (c := 14400) (n := a) (fun x hx => (crK_r (k := (iC s 202 x).toNat) hm (by omega) hn (by have := hy x (by omega); omega)).2)
  unfold crP
  omega
theorem wa_r {S : Int → Prop} {w : WyS} {mo : Nat → Int} {n : Nat} (hm : ∀ j, j < 12 → 0 ≤ mo j ∧ mo j ≤ 50) (hn : n ≤ 12) : 0 ≤ waH S w mo n ∧ waH S w mo n ≤ 600 := by
  have r : ∀ x, x < n → 0 ≤ i01 (viH S (w.1 x) (w.2 x)) * mo x ∧ i01 (viH S (w.1 x) (w.2 x)) * mo x ≤ 50 := by
    intro x hx
    have m := hm x (by omega)
    by_cases q : viH S (w.1 x) (w.2 x)
    · rw [i01_t q, Int.one_mul]; exact m
    · rw [i01_f q, Int.zero_mul]; decide
  refine ⟨sm_nn (fun x hx => (r x hx).1), ?_⟩
  have := sm_bd (f := fun x => i01 (viH S (w.1 x) (w.2 x)) * mo x) (c := 50) (n := n) (fun x hx => (r x hx).2)
  unfold waH
  omega
theorem oc_r {mo : Nat → Int} {g : Nat → Int} {n : Nat} (hm : ∀ j, j < 12 → 0 ≤ mo j ∧ mo j ≤ 50) (hg : ∀ j, j < 12 → 0 ≤ g j ∧ g j ≤ 24) (hn : n ≤ 12) : 0 ≤ sm (fun x => mo x * g x) n ∧ sm (fun x => mo x * g x) n ≤ 14400 := by
  have r : ∀ x, x < n → 0 ≤ mo x * g x ∧ mo x * g x ≤ 50 * 24 := fun x hx => mul_bd (hm x (by omega)).1 (hm x (by omega)).2 (hg x (by omega)).1 (hg x (by omega)).2
  refine ⟨sm_nn (fun x hx => (r x hx).1), ?_⟩
  have := sm_bd (f := fun x => mo x * g x) (c := 50 * 24) (n := n) (fun x hx => (r x hx).2)
  omega
/-- the names' row -/
def NM6 (t : PS) (n0 n1 n2 n3 n4 n5 : Int) : Prop := iC t 161 0 = n0 ∧ iC t 161 1 = n1 ∧ iC t 161 2 = n2 ∧ iC t 161 3 = n3 ∧ iC t 161 4 = n4 ∧ iC t 161 5 = n5
theorem nm_0 {t u : PS} {n0 n1 n2 n3 n4 n5 m : Int} (h : NM6 t n0 n1 n2 n3 n4 n5) (hu : u = uC t 161 (0 : Int).toNat (Int32.ofInt (iC t 161 (0 : Int).toNat + m))) (r : rng (n0 + m)) : NM6 u (n0 + m) n1 n2 n3 n4 n5 := by
  replace hu : u = uC t 161 0 (Int32.ofInt (iC t 161 0 + m)) := hu
  rw [h.1] at hu
  subst hu
  exact ⟨iC_u r, (iC_n (by decide)).trans h.2.1, (iC_n (by decide)).trans h.2.2.1, (iC_n (by decide)).trans h.2.2.2.1, (iC_n (by decide)).trans h.2.2.2.2.1, (iC_n (by decide)).trans h.2.2.2.2.2⟩
theorem nm_1 {t u : PS} {n0 n1 n2 n3 n4 n5 m : Int} (h : NM6 t n0 n1 n2 n3 n4 n5) (hu : u = uC t 161 (1 : Int).toNat (Int32.ofInt (iC t 161 (1 : Int).toNat + m))) (r : rng (n1 + m)) : NM6 u n0 (n1 + m) n2 n3 n4 n5 := by
  replace hu : u = uC t 161 1 (Int32.ofInt (iC t 161 1 + m)) := hu
  rw [h.2.1] at hu
  subst hu
  exact ⟨(iC_n (by decide)).trans h.1, iC_u r, (iC_n (by decide)).trans h.2.2.1, (iC_n (by decide)).trans h.2.2.2.1, (iC_n (by decide)).trans h.2.2.2.2.1, (iC_n (by decide)).trans h.2.2.2.2.2⟩
theorem nm_2 {t u : PS} {n0 n1 n2 n3 n4 n5 m : Int} (h : NM6 t n0 n1 n2 n3 n4 n5) (hu : u = uC t 161 (2 : Int).toNat (Int32.ofInt (iC t 161 (2 : Int).toNat + m))) (r : rng (n2 + m)) : NM6 u n0 n1 (n2 + m) n3 n4 n5 := by
  replace hu : u = uC t 161 2 (Int32.ofInt (iC t 161 2 + m)) := hu
  rw [h.2.2.1] at hu
  subst hu
  exact ⟨(iC_n (by decide)).trans h.1, (iC_n (by decide)).trans h.2.1, iC_u r, (iC_n (by decide)).trans h.2.2.2.1, (iC_n (by decide)).trans h.2.2.2.2.1, (iC_n (by decide)).trans h.2.2.2.2.2⟩
theorem nm_3 {t u : PS} {n0 n1 n2 n3 n4 n5 m : Int} (h : NM6 t n0 n1 n2 n3 n4 n5) (hu : u = uC t 161 (3 : Int).toNat (Int32.ofInt (iC t 161 (3 : Int).toNat + m))) (r : rng (n3 + m)) : NM6 u n0 n1 n2 (n3 + m) n4 n5 := by
  replace hu : u = uC t 161 3 (Int32.ofInt (iC t 161 3 + m)) := hu
  rw [h.2.2.2.1] at hu
  subst hu
  exact ⟨(iC_n (by decide)).trans h.1, (iC_n (by decide)).trans h.2.1, (iC_n (by decide)).trans h.2.2.1, iC_u r, (iC_n (by decide)).trans h.2.2.2.2.1, (iC_n (by decide)).trans h.2.2.2.2.2⟩
theorem nm_4 {t u : PS} {n0 n1 n2 n3 n4 n5 m : Int} (h : NM6 t n0 n1 n2 n3 n4 n5) (hu : u = uC t 161 (4 : Int).toNat (Int32.ofInt (iC t 161 (4 : Int).toNat + m))) (r : rng (n4 + m)) : NM6 u n0 n1 n2 n3 (n4 + m) n5 := by
  replace hu : u = uC t 161 4 (Int32.ofInt (iC t 161 4 + m)) := hu
  rw [h.2.2.2.2.1] at hu
  subst hu
  exact ⟨(iC_n (by decide)).trans h.1, (iC_n (by decide)).trans h.2.1, (iC_n (by decide)).trans h.2.2.1, (iC_n (by decide)).trans h.2.2.2.1, iC_u r, (iC_n (by decide)).trans h.2.2.2.2.2⟩
theorem nm_5 {t u : PS} {n0 n1 n2 n3 n4 n5 m : Int} (h : NM6 t n0 n1 n2 n3 n4 n5) (hu : u = uC t 161 (5 : Int).toNat (Int32.ofInt (iC t 161 (5 : Int).toNat + m))) (r : rng (n5 + m)) : NM6 u n0 n1 n2 n3 n4 (n5 + m) := by
  replace hu : u = uC t 161 5 (Int32.ofInt (iC t 161 5 + m)) := hu
  rw [h.2.2.2.2.2] at hu
  subst hu
  exact ⟨(iC_n (by decide)).trans h.1, (iC_n (by decide)).trans h.2.1, (iC_n (by decide)).trans h.2.2.1, (iC_n (by decide)).trans h.2.2.2.1, (iC_n (by decide)).trans h.2.2.2.2.1, iC_u r⟩
theorem nm_c {t : PS} {n0 n1 n2 n3 n4 n5 m0 m1 m2 m3 m4 m5 : Int} (h : NM6 t n0 n1 n2 n3 n4 n5) (e0 : n0 = m0) (e1 : n1 = m1) (e2 : n2 = m2) (e3 : n3 = m3) (e4 : n4 = m4) (e5 : n5 = m5) : NM6 t m0 m1 m2 m3 m4 m5 := by subst e0 e1 e2 e3 e4 e5; exact h
/-- the model's steps -/
theorem goB_M {x y e : Int} (h : (y - x = 1 ∧ e = 0) ∨ (y - x ≠ 1 ∧ y - x = -1 ∧ e = 1) ∨ (y - x ≠ 1 ∧ y - x ≠ -1 ∧ y - x = 8 ∧ e = 2) ∨ (y - x ≠ 1 ∧ y - x ≠ -1 ∧ y - x ≠ 8 ∧ y - x = -8 ∧ e = 3) ∨ (y - x ≠ 1 ∧ y - x ≠ -1 ∧ y - x ≠ 8 ∧ y - x ≠ -8 ∧ y - x = 64 ∧ e = 4) ∨ (y - x ≠ 1 ∧ y - x ≠ -1 ∧ y - x ≠ 8 ∧ y - x ≠ -8 ∧ y - x ≠ 64 ∧ e = 5)) : e = goB x y := by
  unfold goB
  rcases h with ⟨a, b⟩ | ⟨a, b, c⟩ | ⟨a, b, c, d⟩ | ⟨a, b, c, d, f⟩ | ⟨a, b, c, d, f, g⟩ | ⟨a, b, c, d, f, g⟩
  · rw [if_pos a]; exact b
  · rw [if_neg a, if_pos b]; exact c
  · rw [if_neg a, if_neg b, if_pos c]; exact d
  · rw [if_neg a, if_neg b, if_neg c, if_pos d]; exact f
  · rw [if_neg a, if_neg b, if_neg c, if_neg d, if_pos f]; exact g
  · rw [if_neg a, if_neg b, if_neg c, if_neg d, if_neg f]; exact g
theorem gok_1 {f : Nat → Int} {z : Int} {k : Nat} (h : z = 1) : 6 = goK f z k := (if_pos h).symm
theorem gok_l {f : Nat → Int} {z y e : Int} (h : z ≠ 1) (hy : y = z - 1) (y0 : 0 ≤ y) (he : e = goB (f (y - 1).toNat) (f y.toNat)) : e = goK f z y.toNat := by
  unfold goK
  rw [if_neg h, if_neg (by omega), show y.toNat - 1 = (y - 1).toNat by omega]; exact he
theorem gok_nx {f : Nat → Int} {z y e : Int} (h : z ≠ 1) (hy : y < z - 1) (y0 : 0 ≤ y) (he : e = goB (f y.toNat) (f (y + 1).toNat)) : e = goK f z y.toNat := by
  unfold goK
  rw [if_neg h, if_pos (by omega), show y.toNat + 1 = (y + 1).toNat by omega]; exact he
/-- how far listen has come: behind stream a; behind a's cell k; behind b at that cell -/
def LMA (s : PS) (a : Int) (t : PS) : Prop := NM6 t (waH (inM s) (WYM s) (moM s) a.toNat) (crP s (inM s) a.toNat) (oaH (inM s) (WYM s) (moM s) a.toNat) (caH (inM s) (WYM s) (moM s) a.toNat) 0 0
def LMK (s : PS) (a k iz : Int) (t : PS) : Prop := (iz = i01 (∃ j : Nat, j < k.toNat ∧ inM s (fwM s a.toNat j))) ∧ NM6 t (waH (inM s) (WYM s) (moM s) a.toNat) (crP s (inM s) a.toNat + crK s (inM s) a.toNat k.toNat) (oaH (inM s) (WYM s) (moM s) a.toNat + moM s a.toNat * ovH (inM s) (fwM s a.toNat) (k - 1).toNat) (caH (inM s) (WYM s) (moM s) a.toNat + moM s a.toNat * clH (inM s) (fwM s a.toNat) (k - 1).toNat) 0 0
def LMB (s : PS) (a k b : Int) (t : PS) : Prop := NM6 t (waH (inM s) (WYM s) (moM s) a.toNat) (crP s (inM s) a.toNat + crK s (inM s) a.toNat k.toNat + sm (ckM (inM s) (WYM s) (moM s) a.toNat k.toNat) b.toNat) (oaH (inM s) (WYM s) (moM s) a.toNat + moM s a.toNat * ovH (inM s) (fwM s a.toNat) k.toNat) (caH (inM s) (WYM s) (moM s) a.toNat + moM s a.toNat * clH (inM s) (fwM s a.toNat) k.toNat) 0 0
theorem lma_0 {s t : PS} (h : ∀ j, j < 7 → iC t 161 j = 0) : LMA s 0 t := ⟨h 0 (by decide), h 1 (by decide), h 2 (by decide), h 3 (by decide), h 4 (by decide), h 5 (by decide)⟩
theorem lmk_0 {s t : PS} {a : Int} (h : LMA s a t) : LMK s a 0 0 t := by
  refine ⟨(i01_f (fun q => by obtain ⟨j, hj, _⟩ := q; replace hj : j < 0 := hj; omega)).symm, nm_c h rfl ?_ ?_ ?_ rfl rfl⟩
  · show _ = _ + (0 : Int); omega
  · show _ = _ + moM s a.toNat * 0; rw [Int.mul_zero]; omega
  · show _ = _ + moM s a.toNat * 0; rw [Int.mul_zero]; omega
theorem lma_up {s t u : PS} {a k iz m : Int} (h : LMK s a k iz t) (a0 : 0 ≤ a) (hk : k = iC s 202 a.toNat) (k0 : 0 ≤ k) (hu : u = uC t 161 (0 : Int).toNat (Int32.ofInt (iC t 161 (0 : Int).toNat + m))) (hm : (iz ≠ 0 ∧ m = moM s a.toNat) ∨ (iz = 0 ∧ m = 0)) (r : rng (waH (inM s) (WYM s) (moM s) a.toNat + m)) : LMA s (a + 1) u := by
  obtain ⟨h1, h2⟩ := h
  have e : m = i01 (viH (inM s) (fwM s a.toNat) (iC s 202 a.toNat)) * moM s a.toNat := by
    have q : viH (inM s) (fwM s a.toNat) (iC s 202 a.toNat) ↔ ∃ j : Nat, j < k.toNat ∧ inM s (fwM s a.toNat j) := by
      rw [← hk]
      exact ⟨fun ⟨j, j1, j2⟩ => ⟨j, by omega, j2⟩, fun ⟨j, j1, j2⟩ => ⟨j, by omega, j2⟩⟩
    rw [i01_c q, ← h1]
    rcases hm with ⟨z1, z2⟩ | ⟨z1, z2⟩
    · have z3 : iz = 1 := by
        by_cases c : ∃ j : Nat, j < k.toNat ∧ inM s (fwM s a.toNat j)
        · rw [h1, i01_t c]
        · rw [h1, i01_f c] at z1; exact absurd rfl z1
      rw [z3, Int.one_mul]; exact z2
    · rw [z1, Int.zero_mul]; exact z2
  have n := nm_0 h2 hu r
  unfold LMA
  rw [show (a + 1).toNat = a.toNat + 1 by omega]
  refine nm_c n ?_ ?_ ?_ ?_ rfl rfl
  · rw [e]; rfl
  · rw [hk]; rfl
  · rw [hk]; rfl
  · rw [hk]; rfl
theorem lmb_0 {s t : PS} {a k : Int} {n2 n3 : Int} (h : NM6 t (waH (inM s) (WYM s) (moM s) a.toNat) (crP s (inM s) a.toNat + crK s (inM s) a.toNat k.toNat) n2 n3 0 0) (a0 : 0 ≤ a) (e2 : n2 = oaH (inM s) (WYM s) (moM s) a.toNat + moM s a.toNat * ovH (inM s) (fwM s a.toNat) k.toNat) (e3 : n3 = caH (inM s) (WYM s) (moM s) a.toNat + moM s a.toNat * clH (inM s) (fwM s a.toNat) k.toNat) : LMB s a k (a + 1) t := by
  refine nm_c h rfl ?_ e2 e3 rfl rfl
  rw [sm_0 (f := ckM (inM s) (WYM s) (moM s) a.toNat k.toNat) (fun j hj => if_neg (by omega)), Int.add_zero]
theorem lmk_up {s t : PS} {a k b iz : Int} (h : LMB s a k b t) (hb : b.toNat = (iI s 90).toNat) (k0 : 0 ≤ k) (hi : iz = i01 (∃ j : Nat, j < (k + 1).toNat ∧ inM s (fwM s a.toNat j))) : LMK s a (k + 1) iz t := by
  refine ⟨hi, nm_c h rfl ?_ ?_ ?_ rfl rfl⟩
  · rw [hb, show (k + 1).toNat = k.toNat + 1 by omega]
    show _ = _ + (crK s (inM s) a.toNat k.toNat + sm (ckM (inM s) (WYM s) (moM s) a.toNat k.toNat) (iI s 90).toNat)
    omega
  · rw [show (k + 1 - 1).toNat = k.toNat by omega]
  · rw [show (k + 1 - 1).toNat = k.toNat by omega]
theorem lmb_n {s t : PS} {a k b : Int} (h : LMB s a k b t) (b0 : 0 ≤ b) (hz : ckM (inM s) (WYM s) (moM s) a.toNat k.toNat b.toNat = 0) : LMB s a k (b + 1) t := by
  refine nm_c h rfl ?_ rfl rfl rfl rfl
  rw [show (b + 1).toNat = b.toNat + 1 by omega]
  show _ = _ + _ + (sm (ckM (inM s) (WYM s) (moM s) a.toNat k.toNat) b.toNat + ckM (inM s) (WYM s) (moM s) a.toNat k.toNat b.toNat)
  omega
theorem lmb_z {s t : PS} {a k b : Int} (h : LMB s a k b t) (b0 : 0 ≤ b) (hz : ∀ m : Int, ckM (inM s) (WYM s) (moM s) a.toNat k.toNat m.toNat = 0) : ∀ m : Nat, LMB s a k (b + (m : Int)) t
  | 0 => by rw [show b + ((0 : Nat) : Int) = b by omega]; exact h
  | m + 1 => by
    have z := lmb_n (lmb_z h b0 hz m) (by omega) (hz _)
    rw [show b + ((m + 1 : Nat) : Int) = b + (m : Int) + 1 by omega]; exact z
theorem lmb_y {s t u : PS} {a k b m : Int} (h : LMB s a k b t) (b0 : 0 ≤ b) (hu : u = uC t 161 (1 : Int).toNat (Int32.ofInt (iC t 161 (1 : Int).toNat + m))) (hm : ckM (inM s) (WYM s) (moM s) a.toNat k.toNat b.toNat = m) (r : rng (crP s (inM s) a.toNat + crK s (inM s) a.toNat k.toNat + sm (ckM (inM s) (WYM s) (moM s) a.toNat k.toNat) b.toNat + m)) : LMB s a k (b + 1) u := by
  refine nm_c (nm_1 h hu r) rfl ?_ rfl rfl rfl rfl
  rw [show (b + 1).toNat = b.toNat + 1 by omega]
  show _ = _ + _ + (sm (ckM (inM s) (WYM s) (moM s) a.toNat k.toNat) b.toNat + ckM (inM s) (WYM s) (moM s) a.toNat k.toNat b.toNat)
  omega
theorem ck_0 {s : PS} {a k b : Int} (h : ¬ inM s (fwM s a.toNat k.toNat) ∨ ¬ mtP (fwM s a.toNat) (fwM s b.toNat) (iC s 202 a.toNat) (iC s 202 b.toNat) k.toNat) : ckM (inM s) (WYM s) (moM s) a.toNat k.toNat b.toNat = 0 := by
  unfold ckM
  by_cases c : a.toNat < b.toNat
  · rw [if_pos c, i01_f (fun q => h.elim (fun z => z q.1) (fun z => z q.2)), Int.zero_mul]
  · rw [if_neg c]
theorem lmb_e {s t : PS} {a k b n : Int} (h : LMB s a k b t) (b0 : 0 ≤ b) (hz : ¬ inM s (fwM s a.toNat k.toNat)) (hn : b ≤ n) : LMB s a k n t := by
  have z := lmb_z h b0 (fun m => ck_0 (Or.inl hz)) (n - b).toNat
  rw [show b + (((n - b).toNat : Nat) : Int) = n by omega] at z
  exact z
theorem ck_1 {s : PS} {a k b m : Int} (ab : a.toNat < b.toNat) (h1 : inM s (fwM s a.toNat k.toNat)) (h2 : mtP (fwM s a.toNat) (fwM s b.toNat) (iC s 202 a.toNat) (iC s 202 b.toNat) k.toNat) (hm : m = min (moM s a.toNat) (moM s b.toNat)) : ckM (inM s) (WYM s) (moM s) a.toNat k.toNat b.toNat = m := by
  unfold ckM
  rw [if_pos ab, i01_t ⟨h1, h2⟩, Int.one_mul, hm]
/-- a step of stream a, from its cell k - 1 to k: over the edge, up or down -/
theorem ov_st {S : Int → Prop} {f : Nat → Int} {k m v o : Int} (k1 : 1 ≤ k) (h : (v = m ∧ ¬ (S (f (k - 1).toNat) ↔ S (f k.toNat))) ∨ (v = 0 ∧ (S (f (k - 1).toNat) ↔ S (f k.toNat)))) : o + m * ovH S f (k - 1).toNat + v = o + m * ovH S f k.toNat := by
  rw [show k.toNat = (k - 1).toNat + 1 by omega, ov_up, Int.mul_add, ← show k.toNat = (k - 1).toNat + 1 by omega]
  rcases h with ⟨e, q⟩ | ⟨e, q⟩
  · rw [i01_t q, Int.mul_one, e]; omega
  · rw [i01_f (fun z => z q), Int.mul_zero, e]; omega
theorem cl_st {S : Int → Prop} {f : Nat → Int} {k m v o : Int} (k1 : 1 ≤ k) (h : (v = m ∧ S (f (k - 1).toNat) ∧ S (f k.toNat) ∧ 4 ≤ goB (f (k - 1).toNat) (f k.toNat)) ∨ (v = 0 ∧ ¬ (S (f (k - 1).toNat) ∧ S (f k.toNat) ∧ 4 ≤ goB (f (k - 1).toNat) (f k.toNat)))) : o + m * clH S f (k - 1).toNat + v = o + m * clH S f k.toNat := by
  rw [show k.toNat = (k - 1).toNat + 1 by omega, cl_up, Int.mul_add, ← show k.toNat = (k - 1).toNat + 1 by omega]
  rcases h with ⟨e, q⟩ | ⟨e, q⟩
  · rw [i01_t q, Int.mul_one, e]; omega
  · rw [i01_f q, Int.mul_zero, e]; omega
/-- the cells of the set -/
def LMC (s : PS) (c : Int) (t : PS) : Prop := ∃ n0 n1 n2 n3 : Int, (n0 = waH (inM s) (WYM s) (moM s) (iI s 90).toNat ∧ n1 = crP s (inM s) (iI s 90).toNat ∧ n2 = oaH (inM s) (WYM s) (moM s) (iI s 90).toNat ∧ n3 = caH (inM s) (WYM s) (moM s) (iI s 90).toNat) ∧ NM6 t n0 n1 n2 n3 (sm (fun j => i01 (inM s (j : Int))) c.toNat) (sm (fun j => i01 ((j : Int) < 64 ∧ inM s (j : Int))) c.toNat)
theorem lmc_0 {s t : PS} {a : Int} (h : LMA s a t) (ha : a.toNat = (iI s 90).toNat) : LMC s 0 t := ⟨_, _, _, _, ⟨rfl, rfl, rfl, rfl⟩, by rw [← ha]; exact h⟩
theorem lmc_n {s t : PS} {c : Int} (h : LMC s c t) (c0 : 0 ≤ c) (hz : ¬ inM s c) : LMC s (c + 1) t := by
  obtain ⟨n0, n1, n2, n3, e, h⟩ := h
  refine ⟨n0, n1, n2, n3, e, ?_⟩
  rw [show (c + 1).toNat = c.toNat + 1 by omega]
  have ec : ((c.toNat : Nat) : Int) = c := by omega
  refine nm_c h rfl rfl rfl rfl ?_ ?_
  · show _ = _ + i01 (inM s ((c.toNat : Nat) : Int))
    rw [ec, i01_f hz]; omega
  · show _ = _ + i01 (((c.toNat : Nat) : Int) < 64 ∧ inM s ((c.toNat : Nat) : Int))
    rw [ec, i01_f (fun q => hz q.2)]; omega
theorem lmc_r {s t : PS} {c : Int} (h : LMC s c t) (c0 : 0 ≤ c ∧ c ≤ 128) : (0 ≤ iC t 161 4 ∧ iC t 161 4 ≤ 128) ∧ 0 ≤ iC t 161 5 ∧ iC t 161 5 ≤ 128 := by
  obtain ⟨n0, n1, n2, n3, -, h⟩ := h
  have b1 := sm_bd (f := fun j : Nat => i01 (inM s (j : Int))) (c := 1) (n := c.toNat) (fun j _ => i01_r.2)
  have b2 := sm_bd (f := fun j : Nat => i01 ((j : Int) < 64 ∧ inM s (j : Int))) (c := 1) (n := c.toNat) (fun j _ => i01_r.2)
  have z1 := sm_nn (f := fun j : Nat => i01 (inM s (j : Int))) (n := c.toNat) (fun j _ => i01_r.1)
  have z2 := sm_nn (f := fun j : Nat => i01 ((j : Int) < 64 ∧ inM s (j : Int))) (n := c.toNat) (fun j _ => i01_r.1)
  have e4 := h.2.2.2.2.1
  have e5 := h.2.2.2.2.2
  omega
theorem lmc_y {s t u v : PS} {c m : Int} (h : LMC s c t) (c0 : 0 ≤ c) (c1 : c ≤ 127) (hy : inM s c) (hu : u = uC t 161 (4 : Int).toNat (Int32.ofInt (iC t 161 (4 : Int).toNat + 1))) (hv : v = uC u 161 (5 : Int).toNat (Int32.ofInt (iC u 161 (5 : Int).toNat + m))) (hm : (c < 64 ∧ m = 1) ∨ (64 ≤ c ∧ m = 0)) : LMC s (c + 1) v := by
  obtain ⟨n0, n1, n2, n3, e, h⟩ := h
  refine ⟨n0, n1, n2, n3, e, ?_⟩
  have ec : ((c.toNat : Nat) : Int) = c := by omega
  have b1 := sm_bd (f := fun j : Nat => i01 (inM s (j : Int))) (c := 1) (n := c.toNat) (fun j _ => i01_r.2)
  have b2 := sm_bd (f := fun j : Nat => i01 ((j : Int) < 64 ∧ inM s (j : Int))) (c := 1) (n := c.toNat) (fun j _ => i01_r.2)
  have z1 := sm_nn (f := fun j : Nat => i01 (inM s (j : Int))) (n := c.toNat) (fun j _ => i01_r.1)
  have z2 := sm_nn (f := fun j : Nat => i01 ((j : Int) < 64 ∧ inM s (j : Int))) (n := c.toNat) (fun j _ => i01_r.1)
  refine nm_c (nm_5 (nm_4 h hu ⟨by omega, by omega⟩) hv ⟨by omega, by omega⟩) rfl rfl rfl rfl ?_ ?_
  · rw [show (c + 1).toNat = c.toNat + 1 by omega]
    show _ = _ + i01 (inM s ((c.toNat : Nat) : Int))
    rw [ec, i01_t hy]
  · rw [show (c + 1).toNat = c.toNat + 1 by omega]
    show _ = _ + i01 (((c.toNat : Nat) : Int) < 64 ∧ inM s ((c.toNat : Nat) : Int))
    rw [ec]
    rcases hm with ⟨q1, q2⟩ | ⟨q1, q2⟩
    · rw [i01_t ⟨q1, hy⟩, q2]
    · rw [i01_f (fun z => by omega), q2]
/-- behind listen -/
def LMD (s t : PS) : Prop := iC t 161 0 = waH (inM s) (WYM s) (moM s) (iI s 90).toNat ∧ iC t 161 1 = crH (inM s) (WYM s) (moM s) (iI s 90).toNat ∧ iC t 161 2 = oaH (inM s) (WYM s) (moM s) (iI s 90).toNat ∧ iC t 161 3 = caH (inM s) (WYM s) (moM s) (iI s 90).toNat ∧ iC t 161 4 = sm (fun j => i01 (inM s (j : Int))) 128 ∧ iC t 161 5 = sm (fun j => i01 ((j : Int) < 64 ∧ inM s (j : Int))) 128 ∧ iC t 161 6 = iI s 89
theorem lmd_of {s t u : PS} {c m : Int} (h : LMC s c t) (hc : c = 128) (hu : u = uC t 161 (6 : Int).toNat (Int32.ofInt m)) (hm : m = iI s 89) : LMD s u := by
  obtain ⟨n0, n1, n2, n3, ⟨e0, e1, e2, e3⟩, h0, h1, h2, h3, h4, h5⟩ := h
  subst hc
  replace hu : u = uC t 161 6 (Int32.ofInt m) := hu
  have f : ∀ j, j ≠ 6 → iC u 161 j = iC t 161 j := fun j hj => by rw [hu]; exact iC_n hj
  refine ⟨(f 0 (by decide)).trans (h0.trans e0), (f 1 (by decide)).trans (h1.trans (e1.trans cr_M)), (f 2 (by decide)).trans (h2.trans e2), (f 3 (by decide)).trans (h3.trans e3), (f 4 (by decide)).trans h4, (f 5 (by decide)).trans h5, ?_⟩
  rw [hu, hm]
  exact iC_u (rng_to _)
theorem ov_s0 {S : Int → Prop} {f : Nat → Int} {k m o : Int} (k1 : 1 ≤ k) (h : S (f (k - 1).toNat) ↔ S (f k.toNat)) : o + m * ovH S f (k - 1).toNat = o + m * ovH S f k.toNat := by
  have z := ov_st (o := o) (m := m) (v := 0) k1 (Or.inr ⟨rfl, h⟩)
  rw [Int.add_zero] at z; exact z
theorem cl_s0 {S : Int → Prop} {f : Nat → Int} {k m o : Int} (k1 : 1 ≤ k) (h : ¬ (S (f (k - 1).toNat) ∧ S (f k.toNat) ∧ 4 ≤ goB (f (k - 1).toNat) (f k.toNat))) : o + m * clH S f (k - 1).toNat = o + m * clH S f k.toNat := by
  have z := cl_st (o := o) (m := m) (v := 0) k1 (Or.inr ⟨rfl, h⟩)
  rw [Int.add_zero] at z; exact z
theorem fw_fm {L M : List Nat} {s t : PS} (F : Fm L M s t) (h : ∀ i, i < 12 → 204 + i ∉ M) {x : Nat} (hx : x < 12) : fwM t x = fwM s x := funext (fun k => fm_c F (h x hx))
theorem lm_r {s : PS} {S : Int → Prop} (hMo : ∀ j, j < 12 → 0 ≤ moM s j ∧ moM s j ≤ 50) (hMy : ∀ j, j < 12 → iC s 202 j ≤ 24) {a k : Nat} (ha : a < 12) (hk : k ≤ 24) : (0 ≤ oaH S (WYM s) (moM s) a ∧ oaH S (WYM s) (moM s) a ≤ 14400) ∧ (0 ≤ caH S (WYM s) (moM s) a ∧ caH S (WYM s) (moM s) a ≤ 14400) ∧ (0 ≤ moM s a * ovH S (fwM s a) k ∧ moM s a * ovH S (fwM s a) k ≤ 1200) ∧ 0 ≤ moM s a * clH S (fwM s a) k ∧ moM s a * clH S (fwM s a) k ≤ 1200 := by
  have o1 := @ov_r S (fwM s a) k
  have c1 := @cl_r S (fwM s a) k
  refine ⟨oc_r hMo (fun j hj => ?_) (by omega), oc_r hMo (fun j hj => ?_) (by omega), by have z := mul_bd (b := 24) (hMo a ha).1 (hMo a ha).2 o1.1 (by omega); omega, by have z := mul_bd (b := 24) (hMo a ha).1 (hMo a ha).2 c1.1 (by omega); omega⟩
  · have z := @ov_r S ((WYM s).1 j) ((WYM s).2 j - 1).toNat
    have y : (WYM s).2 j ≤ 24 := hMy j hj
    exact ⟨z.1, by omega⟩
  · have z := @cl_r S ((WYM s).1 j) ((WYM s).2 j - 1).toNat
    have y : (WYM s).2 j ≤ 24 := hMy j hj
    exact ⟨z.1, by omega⟩
theorem iz_up {s : PS} {a k iz e : Int} (h : iz = i01 (∃ j : Nat, j < k.toNat ∧ inM s (fwM s a.toNat j))) (k0 : 0 ≤ k) (he : (e = 1 ∧ (iz ≠ 0 ∨ inM s (fwM s a.toNat k.toNat))) ∨ (e = 0 ∧ iz = 0 ∧ ¬ inM s (fwM s a.toNat k.toNat))) : e = i01 (∃ j : Nat, j < (k + 1).toNat ∧ inM s (fwM s a.toNat j)) := by
  rw [show (k + 1).toNat = k.toNat + 1 by omega]
  by_cases c : ∃ j : Nat, j < k.toNat ∧ inM s (fwM s a.toNat j)
  · rw [i01_t (vi_up.mpr (Or.inl c))]
    rw [i01_t c] at h
    omega
  · rw [i01_f c] at h
    rcases he with ⟨e1, q | q⟩ | ⟨e1, q1, q2⟩
    · exact absurd h q
    · rw [i01_t (vi_up.mpr (Or.inr q))]; exact e1
    · rw [i01_f (fun z => (vi_up.mp z).elim c q2)]; exact e1
def NMZ (k : Int) (t : PS) : Prop := ∀ j : Nat, (j : Int) < k → iC t 161 j = 0
theorem nmz_up {k : Int} {t u : PS} (h : NMZ k t) (k0 : 0 ≤ k) (hu : u = uC t 161 k.toNat (Int32.ofInt 0)) : NMZ (k + 1) u := by
  subst hu
  intro j hj
  by_cases z : j = k.toNat
  · rw [z]; exact iC_u rng_0
  · rw [iC_n z]; exact h j (by omega)
section M87p
variable {l : Launch} {s0 : State} {D : va_G} {tys : List (ClassId × FieldType)} {a0 : Array Value} {A : Nat → Nat} {dT : Nat → ClassId} {s : PS}
set_option maxRecDepth 4000 in
theorem k_stepOf3 (G : GX l s0 D tys a0 dT) (I : Bd s) {x y : Int} (p0 : 0 ≤ x ∧ x ≤ 127) (p1 : 0 ≤ y ∧ y ≤ 127) : CT l s0 D A dT 225 (rmN 225) [.int (Int32.ofInt x), .int (Int32.ofInt y)] s (fun o t => s = t ∧ ∃ e, o = .inl (some (.int (Int32.ofInt e))) ∧ rng e ∧ (e = goB x y ∧ 0 ≤ e ∧ e ≤ 5)) := by
  refine ct_of G (by decide) (Nat.le_of_ble_eq_true rfl) (fun k X E hRt hXt q => ?_)
  show WS k 0 [(0, .int (Int32.ofInt x)), (1, .int (Int32.ofInt y))] [] _ 0 0
  have F : Fm [] [] s s := fm_rf _ _ s
  refine z_load_n X (x := y) (show cdA 225 0 = some (.iload_n 1, 1, 0, 0, 0) from rfl) (List.Mem.tail _ (List.Mem.head _)) ?_
  refine z_load_n X (x := x) (show cdA 225 1 = some (.iload_n 0, 1, 0, 0, 0) from rfl) (List.Mem.head _) ?_
  refine z_sub X (show cdA 225 2 = some (.isub, 1, 0, 0, 0) from rfl) ?_
  refine z_const X (show cdA 225 3 = some (.iconst 1, 1, 0, 0, 0) from rfl) ?_
  refine z_icmp_ne X (t := 11) (show cdA 225 4 = some (.if_icmp .ne 7, 3, 1, 0, 0) from rfl) (by decide) ⟨by first | exact oq_449d3e35 p1.1 p0.2 | omega, by first | exact oq_ad754bc3 p1.2 p0.1 | omega⟩ (by decide) (fun g1 => ?_) (fun g1 => ?_)
  ·
    refine z_load_n X (x := y) (show cdA 225 11 = some (.iload_n 1, 1, 0, 0, 0) from rfl) (List.Mem.tail _ (List.Mem.head _)) ?_
    refine z_load_n X (x := x) (show cdA 225 12 = some (.iload_n 0, 1, 0, 0, 0) from rfl) (List.Mem.head _) ?_
    refine z_sub X (show cdA 225 13 = some (.isub, 1, 0, 0, 0) from rfl) ?_
    refine z_const X (show cdA 225 14 = some (.iconst (-1), 1, 0, 0, 0) from rfl) ?_
    refine z_icmp_ne X (t := 22) (show cdA 225 15 = some (.if_icmp .ne 7, 3, 1, 0, 0) from rfl) (by decide) ⟨by first | exact oq_449d3e35 p1.1 p0.2 | omega, by first | exact oq_ad754bc3 p1.2 p0.1 | omega⟩ (by decide) (fun g2 => ?_) (fun g2 => ?_)
    ·
      refine z_load_n X (x := y) (show cdA 225 22 = some (.iload_n 1, 1, 0, 0, 0) from rfl) (List.Mem.tail _ (List.Mem.head _)) ?_
      refine z_load_n X (x := x) (show cdA 225 23 = some (.iload_n 0, 1, 0, 0, 0) from rfl) (List.Mem.head _) ?_
      refine z_sub X (show cdA 225 24 = some (.isub, 1, 0, 0, 0) from rfl) ?_
      refine z_bipush X (show cdA 225 25 = some (.bipush 8, 2, 0, 0, 8) from rfl) ?_
      refine z_icmp_ne X (t := 34) (show cdA 225 27 = some (.if_icmp .ne 7, 3, 1, 0, 0) from rfl) (by decide) ⟨by first | exact oq_449d3e35 p1.1 p0.2 | omega, by first | exact oq_ad754bc3 p1.2 p0.1 | omega⟩ (by decide) (fun g3 => ?_) (fun g3 => ?_)
      ·
        refine z_load_n X (x := y) (show cdA 225 34 = some (.iload_n 1, 1, 0, 0, 0) from rfl) (List.Mem.tail _ (List.Mem.head _)) ?_
        refine z_load_n X (x := x) (show cdA 225 35 = some (.iload_n 0, 1, 0, 0, 0) from rfl) (List.Mem.head _) ?_
        refine z_sub X (show cdA 225 36 = some (.isub, 1, 0, 0, 0) from rfl) ?_
        refine z_bipush X (show cdA 225 37 = some (.bipush (-8), 2, 0, 0, (-8)) from rfl) ?_
        refine z_icmp_ne X (t := 46) (show cdA 225 39 = some (.if_icmp .ne 7, 3, 1, 0, 0) from rfl) (by decide) ⟨by first | exact oq_449d3e35 p1.1 p0.2 | omega, by first | exact oq_ad754bc3 p1.2 p0.1 | omega⟩ (by decide) (fun g4 => ?_) (fun g4 => ?_)
        ·
          refine z_load_n X (x := y) (show cdA 225 46 = some (.iload_n 1, 1, 0, 0, 0) from rfl) (List.Mem.tail _ (List.Mem.head _)) ?_
          refine z_load_n X (x := x) (show cdA 225 47 = some (.iload_n 0, 1, 0, 0, 0) from rfl) (List.Mem.head _) ?_
          refine z_sub X (show cdA 225 48 = some (.isub, 1, 0, 0, 0) from rfl) ?_
          refine z_bipush X (show cdA 225 49 = some (.bipush 64, 2, 0, 0, 64) from rfl) ?_
          refine z_icmp_ne X (t := 58) (show cdA 225 51 = some (.if_icmp .ne 7, 3, 1, 0, 0) from rfl) (by decide) ⟨by first | exact oq_449d3e35 p1.1 p0.2 | omega, by first | exact oq_ad754bc3 p1.2 p0.1 | omega⟩ (by decide) (fun g5 => ?_) (fun g5 => ?_)
          ·
            refine z_const X (show cdA 225 58 = some (.iconst 5, 1, 0, 0, 0) from rfl) ?_
            exact w_iret X.1 q hRt rfl (ax_d X (show cdA 225 59 = some (.ireturn, 1, 0, 0, 0) from rfl)) (Nat.zero_le _) (Nat.zero_le _) ⟨_, rfl, rfl, 5, rfl, (by decide), ⟨goB_M (by omega), by decide, by decide⟩⟩
          ·
            refine z_const X (show cdA 225 54 = some (.iconst 4, 1, 0, 0, 0) from rfl) ?_
            refine z_goto X (t := 59) (show cdA 225 55 = some (.goto 4, 3, 0, 0, 0) from rfl) (by decide) ?_
            exact w_iret X.1 q hRt rfl (ax_d X (show cdA 225 59 = some (.ireturn, 1, 0, 0, 0) from rfl)) (Nat.zero_le _) (Nat.zero_le _) ⟨_, rfl, rfl, 4, rfl, (by decide), ⟨goB_M (by omega), by decide, by decide⟩⟩
        ·
          refine z_const X (show cdA 225 42 = some (.iconst 3, 1, 0, 0, 0) from rfl) ?_
          refine z_goto X (t := 59) (show cdA 225 43 = some (.goto 16, 3, 0, 0, 0) from rfl) (by decide) ?_
          exact w_iret X.1 q hRt rfl (ax_d X (show cdA 225 59 = some (.ireturn, 1, 0, 0, 0) from rfl)) (Nat.zero_le _) (Nat.zero_le _) ⟨_, rfl, rfl, 3, rfl, (by decide), ⟨goB_M (by omega), by decide, by decide⟩⟩
      ·
        refine z_const X (show cdA 225 30 = some (.iconst 2, 1, 0, 0, 0) from rfl) ?_
        refine z_goto X (t := 59) (show cdA 225 31 = some (.goto 28, 3, 0, 0, 0) from rfl) (by decide) ?_
        exact w_iret X.1 q hRt rfl (ax_d X (show cdA 225 59 = some (.ireturn, 1, 0, 0, 0) from rfl)) (Nat.zero_le _) (Nat.zero_le _) ⟨_, rfl, rfl, 2, rfl, (by decide), ⟨goB_M (by omega), by decide, by decide⟩⟩
    ·
      refine z_const X (show cdA 225 18 = some (.iconst 1, 1, 0, 0, 0) from rfl) ?_
      refine z_goto X (t := 59) (show cdA 225 19 = some (.goto 40, 3, 0, 0, 0) from rfl) (by decide) ?_
      exact w_iret X.1 q hRt rfl (ax_d X (show cdA 225 59 = some (.ireturn, 1, 0, 0, 0) from rfl)) (Nat.zero_le _) (Nat.zero_le _) ⟨_, rfl, rfl, 1, rfl, (by decide), ⟨goB_M (by omega), by decide, by decide⟩⟩
  ·
    refine z_const X (show cdA 225 7 = some (.iconst 0, 1, 0, 0, 0) from rfl) ?_
    refine z_goto X (t := 59) (show cdA 225 8 = some (.goto 51, 3, 0, 0, 0) from rfl) (by decide) ?_
    exact w_iret X.1 q hRt rfl (ax_d X (show cdA 225 59 = some (.ireturn, 1, 0, 0, 0) from rfl)) (Nat.zero_le _) (Nat.zero_le _) ⟨_, rfl, rfl, 0, rfl, (by decide), ⟨goB_M (by omega), by decide, by decide⟩⟩
set_option maxRecDepth 4000 in
theorem k_goes3 (G : GX l s0 D tys a0 dT) (I : Bd s) {x y : Int} (p0 : 0 ≤ x ∧ x ≤ 11) (p1 : 0 ≤ y ∧ y < iC s 202 (x : Int).toNat) : CT l s0 D A dT 226 (rmN 226) [.ref (A 179), .int (Int32.ofInt x), .int (Int32.ofInt y)] s (fun o t => s = t ∧ ∃ e, o = .inl (some (.int (Int32.ofInt e))) ∧ rng e ∧ (e = goK (fwM s (x : Int).toNat) (iC s 202 (x : Int).toNat) (y : Int).toNat ∧ 0 ≤ e ∧ e ≤ 6)) := by
  refine ct_of G (by decide) (Nat.le_of_ble_eq_true rfl) (fun k X E hRt hXt q => ?_)
  show WS k 0 [(0, .ref (A 179)), (1, .int (Int32.ofInt x)), (2, .int (Int32.ofInt y))] [] _ 0 0
  have F : Fm [] [] s s := fm_rf _ _ s
  refine z_aload_n X (x := A 179) (show cdA 226 0 = some (.aload_n 0, 1, 0, 0, 0) from rfl) (List.Mem.head _) ?_
  refine s_getR X 179 (show cdA 226 1 = some (.getfield 58, 3, 12, 31, 0) from rfl) (by decide) rfl rfl ?_
  refine z_load_n X (x := x) (show cdA 226 4 = some (.iload_n 1, 1, 0, 0, 0) from rfl) (List.Mem.tail _ (List.Mem.head _)) ?_
  refine z_ald X 228 (show cdA 226 5 = some (.iaload, 1, 0, 0, 0) from rfl) (by decide) rfl (by first | exact p0.1 | omega) (show x < 12 by first | exact oq_0ddfcfee p0.2 | omega) (by decide) ?_
  have b1 : (0 : Int) ≤ iC s 202 (x).toNat ∧ iC s 202 (x).toNat ≤ 24 := I.2 202 _ (show (x).toNat < 12 by first | exact oq_9c5fa447 p0.2 | omega)
  refine z_const X (show cdA 226 6 = some (.iconst 1, 1, 0, 0, 0) from rfl) ?_
  refine z_icmp_ne X (t := 15) (show cdA 226 7 = some (.if_icmp .ne 8, 3, 1, 0, 0) from rfl) (by decide) (rng_to _) (by decide) (fun g2 => ?_) (fun g2 => ?_)
  ·
    refine z_load_n X (x := y) (show cdA 226 15 = some (.iload_n 2, 1, 0, 0, 0) from rfl) (List.Mem.tail _ (List.Mem.tail _ (List.Mem.head _))) ?_
    refine z_aload_n X (x := A 179) (show cdA 226 16 = some (.aload_n 0, 1, 0, 0, 0) from rfl) (List.Mem.head _) ?_
    refine s_getR X 179 (show cdA 226 17 = some (.getfield 58, 3, 12, 31, 0) from rfl) (by decide) rfl rfl ?_
    refine z_load_n X (x := x) (show cdA 226 20 = some (.iload_n 1, 1, 0, 0, 0) from rfl) (List.Mem.tail _ (List.Mem.head _)) ?_
    refine z_ald X 228 (show cdA 226 21 = some (.iaload, 1, 0, 0, 0) from rfl) (by decide) rfl (by first | exact p0.1 | omega) (show x < 12 by first | exact oq_0ddfcfee p0.2 | omega) (by decide) ?_
    have b3 : (0 : Int) ≤ iC s 202 (x).toNat ∧ iC s 202 (x).toNat ≤ 24 := I.2 202 _ (show (x).toNat < 12 by first | exact oq_9c5fa447 p0.2 | omega)
    refine z_const X (show cdA 226 22 = some (.iconst 1, 1, 0, 0, 0) from rfl) ?_
    refine z_sub X (show cdA 226 23 = some (.isub, 1, 0, 0, 0) from rfl) ?_
    refine z_icmp_ne X (t := 51) (show cdA 226 24 = some (.if_icmp .ne 27, 3, 1, 0, 0) from rfl) (by decide) ⟨by first | exact oq_fa4e5087 p1.1 | omega, by first | exact oq_cd47680f p1.2 b3.2 | omega⟩ ⟨by first | exact oq_c1e961c7 b3.1 | omega, by first | exact oq_0332e1ab b3.2 | omega⟩ (fun g4 => ?_) (fun g4 => ?_)
    ·
      refine z_aload_n X (x := A 179) (show cdA 226 51 = some (.aload_n 0, 1, 0, 0, 0) from rfl) (List.Mem.head _) ?_
      refine s_getR X 179 (show cdA 226 52 = some (.getfield 64, 3, 12, 33, 0) from rfl) (by decide) rfl rfl ?_
      refine z_load_n X (x := x) (show cdA 226 55 = some (.iload_n 1, 1, 0, 0, 0) from rfl) (List.Mem.tail _ (List.Mem.head _)) ?_
      refine z_aald X rw_230 (show cdA 226 56 = some (.aaload, 1, 0, 0, 0) from rfl) (by first | exact p0.1 | omega) (show x < 12 by first | exact oq_0ddfcfee p0.2 | omega) (by decide) ?_
      refine z_load_n X (x := y) (show cdA 226 57 = some (.iload_n 2, 1, 0, 0, 0) from rfl) (List.Mem.tail _ (List.Mem.tail _ (List.Mem.head _))) ?_
      refine z_ald2 X rw_230 (show cdA 226 58 = some (.iaload, 1, 0, 0, 0) from rfl) (show (x : Int).toNat < 12 by first | exact oq_9c5fa447 p0.2 | omega) (by first | exact p1.1 | omega) (show y < 24 by first | exact oq_8ff7beb9 p1.2 b3.2 | omega) (by decide) ?_
      have b5 : (0 : Int) ≤ (iC s (204 + (x : Int).toNat) (y : Int).toNat) ∧ (iC s (204 + (x : Int).toNat) (y : Int).toNat) ≤ 127 := rw_bd rw_230 I (show (x : Int).toNat < 12 by first | exact oq_9c5fa447 p0.2 | omega) (show (y : Int).toNat < 24 by first | exact oq_9e668fc9 p1.2 b3.2 | omega)
      refine z_aload_n X (x := A 179) (show cdA 226 59 = some (.aload_n 0, 1, 0, 0, 0) from rfl) (List.Mem.head _) ?_
      refine s_getR X 179 (show cdA 226 60 = some (.getfield 64, 3, 12, 33, 0) from rfl) (by decide) rfl rfl ?_
      refine z_load_n X (x := x) (show cdA 226 63 = some (.iload_n 1, 1, 0, 0, 0) from rfl) (List.Mem.tail _ (List.Mem.head _)) ?_
      refine z_aald X rw_230 (show cdA 226 64 = some (.aaload, 1, 0, 0, 0) from rfl) (by first | exact p0.1 | omega) (show x < 12 by first | exact oq_0ddfcfee p0.2 | omega) (by decide) ?_
      refine z_load_n X (x := y) (show cdA 226 65 = some (.iload_n 2, 1, 0, 0, 0) from rfl) (List.Mem.tail _ (List.Mem.tail _ (List.Mem.head _))) ?_
      refine z_const X (show cdA 226 66 = some (.iconst 1, 1, 0, 0, 0) from rfl) ?_
      refine z_add X (show cdA 226 67 = some (.iadd, 1, 0, 0, 0) from rfl) ?_
      refine z_ald2 X rw_230 (show cdA 226 68 = some (.iaload, 1, 0, 0, 0) from rfl) (show (x : Int).toNat < 12 by first | exact oq_9c5fa447 p0.2 | omega) (by first | exact oq_54f49eb5 p1.1 | omega) (show (y + 1) < 24 by first | exact oq_0152e793 g4 b3.2 p1.2 | omega) (by decide) ?_
      have b6 : (0 : Int) ≤ (iC s (204 + (x : Int).toNat) ((y + 1) : Int).toNat) ∧ (iC s (204 + (x : Int).toNat) ((y + 1) : Int).toNat) ≤ 127 := rw_bd rw_230 I (show (x : Int).toNat < 12 by first | exact oq_9c5fa447 p0.2 | omega) (show ((y + 1) : Int).toNat < 24 by first | exact oq_fa8c9353 g4 b3.2 p1.2 | omega)
      refine z_callS X (rm := rmN 225) (As := [.int (Int32.ofInt (iC s (204 + (x : Int).toNat) (y : Int).toNat)), .int (Int32.ofInt (iC s (204 + (x : Int).toNat) ((y + 1) : Int).toNat))]) (st := []) (show cdA 226 69 = some (.invokestatic 312, 3, 225, 1, 0) from rfl) rfl (by rw [E.1, E.2.1, E.2.2.1]; exact k_stepOf3 G I (by first | exact ⟨b5.1, b5.2⟩ | omega) (by first | exact ⟨b6.1, b6.2⟩ | omega)) ⟨by rw [E.2.2.2]; exact (show (rmN 225).frames + 1 ≤ (rmN 226).frames by decide), by rw [E.2.2.2]; exact (show 8 + (mNL (miB 225) + 11) + (rmN 225).locals ≤ (rmN 226).locals by decide), by rw [E.2.2.2]; exact (show 0 + (rmN 225).cells ≤ (rmN 226).cells by decide), by rw [E.2.2.2]; exact (show 0 + (rmN 225).slots ≤ (rmN 226).slots by decide)⟩ (Nat.le_of_ble_eq_true rfl) (fun vv s7 hq => ?_) (fun ee s7 hq => ?_)
      rotate_left
      · obtain ⟨rfl, e8, hv, hrs7, hps7⟩ := hq; cases hv
      obtain ⟨rfl, e8, hv, hrs7, hps7⟩ := hq
      cases hv
      show WS k 72 [(0, .ref (A 179)), (1, .int (Int32.ofInt x)), (2, .int (Int32.ofInt y))] [.int (Int32.ofInt e8)] (Wd A dT s) 0 0
      exact w_iret X.1 q hRt rfl (ax_d X (show cdA 226 72 = some (.ireturn, 1, 0, 0, 0) from rfl)) (Nat.zero_le _) (Nat.zero_le _) ⟨_, rfl, rfl, e8, rfl, hrs7, ⟨gok_nx (f := fwM s (x : Int).toNat) (by omega) (by omega) (by omega) hps7.1, by first | exact hps7.2.1 | omega, by first | exact oq_b982df86 hps7.2.2 | omega⟩⟩
    ·
      refine z_aload_n X (x := A 179) (show cdA 226 27 = some (.aload_n 0, 1, 0, 0, 0) from rfl) (List.Mem.head _) ?_
      refine s_getR X 179 (show cdA 226 28 = some (.getfield 64, 3, 12, 33, 0) from rfl) (by decide) rfl rfl ?_
      refine z_load_n X (x := x) (show cdA 226 31 = some (.iload_n 1, 1, 0, 0, 0) from rfl) (List.Mem.tail _ (List.Mem.head _)) ?_
      refine z_aald X rw_230 (show cdA 226 32 = some (.aaload, 1, 0, 0, 0) from rfl) (by first | exact p0.1 | omega) (show x < 12 by first | exact oq_0ddfcfee p0.2 | omega) (by decide) ?_
      refine z_load_n X (x := y) (show cdA 226 33 = some (.iload_n 2, 1, 0, 0, 0) from rfl) (List.Mem.tail _ (List.Mem.tail _ (List.Mem.head _))) ?_
      refine z_const X (show cdA 226 34 = some (.iconst 1, 1, 0, 0, 0) from rfl) ?_
      refine z_sub X (show cdA 226 35 = some (.isub, 1, 0, 0, 0) from rfl) ?_
      refine z_ald2 X rw_230 (show cdA 226 36 = some (.iaload, 1, 0, 0, 0) from rfl) (show (x : Int).toNat < 12 by first | exact oq_9c5fa447 p0.2 | omega) (by first | exact oq_35f9a344 g4 g2 p1.1 | omega) (show (y - 1) < 24 by first | exact oq_514020d0 g4 b3.2 | omega) (by decide) ?_
      have b9 : (0 : Int) ≤ (iC s (204 + (x : Int).toNat) ((y - 1) : Int).toNat) ∧ (iC s (204 + (x : Int).toNat) ((y - 1) : Int).toNat) ≤ 127 := rw_bd rw_230 I (show (x : Int).toNat < 12 by first | exact oq_9c5fa447 p0.2 | omega) (show ((y - 1) : Int).toNat < 24 by first | exact oq_4b444e5a g4 b3.2 | omega)
      refine z_aload_n X (x := A 179) (show cdA 226 37 = some (.aload_n 0, 1, 0, 0, 0) from rfl) (List.Mem.head _) ?_
      refine s_getR X 179 (show cdA 226 38 = some (.getfield 64, 3, 12, 33, 0) from rfl) (by decide) rfl rfl ?_
      refine z_load_n X (x := x) (show cdA 226 41 = some (.iload_n 1, 1, 0, 0, 0) from rfl) (List.Mem.tail _ (List.Mem.head _)) ?_
      refine z_aald X rw_230 (show cdA 226 42 = some (.aaload, 1, 0, 0, 0) from rfl) (by first | exact p0.1 | omega) (show x < 12 by first | exact oq_0ddfcfee p0.2 | omega) (by decide) ?_
      refine z_load_n X (x := y) (show cdA 226 43 = some (.iload_n 2, 1, 0, 0, 0) from rfl) (List.Mem.tail _ (List.Mem.tail _ (List.Mem.head _))) ?_
      refine z_ald2 X rw_230 (show cdA 226 44 = some (.iaload, 1, 0, 0, 0) from rfl) (show (x : Int).toNat < 12 by first | exact oq_9c5fa447 p0.2 | omega) (by first | exact p1.1 | omega) (show y < 24 by first | exact oq_9cfd8ba8 g4 b3.2 | omega) (by decide) ?_
      have b10 : (0 : Int) ≤ (iC s (204 + (x : Int).toNat) (y : Int).toNat) ∧ (iC s (204 + (x : Int).toNat) (y : Int).toNat) ≤ 127 := rw_bd rw_230 I (show (x : Int).toNat < 12 by first | exact oq_9c5fa447 p0.2 | omega) (show (y : Int).toNat < 24 by first | exact oq_bfe9ed15 g4 b3.2 | omega)
      refine z_callS X (rm := rmN 225) (As := [.int (Int32.ofInt (iC s (204 + (x : Int).toNat) ((y - 1) : Int).toNat)), .int (Int32.ofInt (iC s (204 + (x : Int).toNat) (y : Int).toNat))]) (st := []) (show cdA 226 45 = some (.invokestatic 312, 3, 225, 1, 0) from rfl) rfl (by rw [E.1, E.2.1, E.2.2.1]; exact k_stepOf3 G I (by first | exact ⟨b9.1, b9.2⟩ | omega) (by first | exact ⟨b10.1, b10.2⟩ | omega)) ⟨by rw [E.2.2.2]; exact (show (rmN 225).frames + 1 ≤ (rmN 226).frames by decide), by rw [E.2.2.2]; exact (show 8 + (mNL (miB 225) + 11) + (rmN 225).locals ≤ (rmN 226).locals by decide), by rw [E.2.2.2]; exact (show 0 + (rmN 225).cells ≤ (rmN 226).cells by decide), by rw [E.2.2.2]; exact (show 0 + (rmN 225).slots ≤ (rmN 226).slots by decide)⟩ (Nat.le_of_ble_eq_true rfl) (fun vv s11 hq => ?_) (fun ee s11 hq => ?_)
      rotate_left
      · obtain ⟨rfl, e12, hv, hrs11, hps11⟩ := hq; cases hv
      obtain ⟨rfl, e12, hv, hrs11, hps11⟩ := hq
      cases hv
      show WS k 48 [(0, .ref (A 179)), (1, .int (Int32.ofInt x)), (2, .int (Int32.ofInt y))] [.int (Int32.ofInt e12)] (Wd A dT s) 0 0
      refine z_goto X (t := 72) (show cdA 226 48 = some (.goto 24, 3, 0, 0, 0) from rfl) (by decide) ?_
      exact w_iret X.1 q hRt rfl (ax_d X (show cdA 226 72 = some (.ireturn, 1, 0, 0, 0) from rfl)) (Nat.zero_le _) (Nat.zero_le _) ⟨_, rfl, rfl, e12, rfl, hrs11, ⟨gok_l (f := fwM s (x : Int).toNat) (by omega) (by omega) (by omega) hps11.1, by first | exact hps11.2.1 | omega, by first | exact oq_b982df86 hps11.2.2 | omega⟩⟩
  ·
    refine z_bipush X (show cdA 226 10 = some (.bipush 6, 2, 0, 0, 6) from rfl) ?_
    refine z_goto X (t := 72) (show cdA 226 12 = some (.goto 60, 3, 0, 0, 0) from rfl) (by decide) ?_
    exact w_iret X.1 q hRt rfl (ax_d X (show cdA 226 72 = some (.ireturn, 1, 0, 0, 0) from rfl)) (Nat.zero_le _) (Nat.zero_le _) ⟨_, rfl, rfl, 6, rfl, (by decide), ⟨gok_1 (by omega), by decide, by decide⟩⟩
set_option maxRecDepth 4000 in
theorem k_listen3 (G : GX l s0 D tys a0 dT) (I : Bd s) (jNW : NW s) (jNWL : NWL s)  : CT l s0 D A dT 227 (rmN 227) [.ref (A 179)] s (fun o t => Bd t ∧ Fm [] [161] s t ∧ NW t ∧ NWL t ∧ o = .inl none ∧ (LMD s t)) := by
  refine ct_of G (by decide) (Nat.le_of_ble_eq_true rfl) (fun k X E hRt hXt q => ?_)
  show WS k 0 [(0, .ref (A 179))] [] _ 0 0
  have F : Fm [] [161] s s := fm_rf _ _ s
  have hMo : ∀ j, j < 12 → 0 ≤ moM s j ∧ moM s j ≤ 50 := fun j hj => I.2 203 j hj
  have hMy : ∀ j, j < 12 → iC s 202 j ≤ 24 := fun j hj => (I.2 202 j hj).2
  have hMn : ∀ j, j < 12 → 0 ≤ iC s 202 j := fun j hj => by have z := (I.2 202 j hj).1; exact Int.le_trans (by decide) z
  have b1 : (0 : Int) ≤ iI s 90 ∧ iI s 90 ≤ 12 := I.1 90
  have L2 : ∀ (n : Nat) (t : PS) (ka : Int), Bd t → Fm [] [161] s t → NW t → NWL t → (NMZ ka t) → ((0 ≤ ka ∧ ka ≤ 7) ∧ iI t 90 = iI s 90) → (7 - ka : Int).toNat < n → (∀ (t' : PS) (ka' : Int), Bd t' → Fm [] [161] s t' → NW t' → NWL t' → (NMZ ka' t') → (ka' = 7 ∧ iI t' 90 = iI s 90) → WS k 21 [(0, .ref (A 179)), (1, .int (Int32.ofInt ka'))] [] (Wd A dT t') 0 0) → WS k 2 [(0, .ref (A 179)), (1, .int (Int32.ofInt ka))] [] (Wd A dT t) 0 0 := by
    intro n
    induction n with
    | zero =>
      intro t ka I F jjNW jjNWL hq hi hm kx
      exact absurd hm (Nat.not_lt_zero _)
    | succ n ih =>
      intro t ka I F jjNW jjNWL hq hi hm kx
      have b1001 : (0 : Int) ≤ iI t 90 ∧ iI t 90 ≤ 12 := I.1 90
      refine z_load_n X (x := ka) (show cdA 227 2 = some (.iload_n 1, 1, 0, 0, 0) from rfl) (List.Mem.tail _ (List.Mem.head _)) ?_
      refine z_bipush X (show cdA 227 3 = some (.bipush 7, 2, 0, 0, 7) from rfl) ?_
      refine z_icmp_ge X (t := 21) (show cdA 227 5 = some (.if_icmp .ge 16, 3, 3, 0, 0) from rfl) (by decide) ⟨by first | exact oq_fa4e5087 hi.1.1 | omega, by first | exact oq_0e78ca7d hi.1.2 | omega⟩ (by decide) (fun g1002 => ?_) (fun g1002 => ?_)
      ·
        refine WS_lv (lv := [(0, .ref (A 179)), (1, .int (Int32.ofInt ka))]) (List.forall_mem_cons.mpr ⟨(List.Mem.head _), (List.forall_mem_cons.mpr ⟨(List.Mem.tail _ (List.Mem.head _)), (fun q h => absurd h List.not_mem_nil)⟩)⟩) ?_
        exact kx _ ka I F jjNW jjNWL hq (by first | exact ⟨oq_026071ed hi.1.2 g1002, hi.2⟩ | omega)
      ·
        refine z_aload_n X (x := A 179) (show cdA 227 8 = some (.aload_n 0, 1, 0, 0, 0) from rfl) (List.Mem.head _) ?_
        refine s_getR X 179 (show cdA 227 9 = some (.getfield 32, 3, 12, 21, 0) from rfl) (by decide) rfl rfl ?_
        refine z_load_n X (x := ka) (show cdA 227 12 = some (.iload_n 1, 1, 0, 0, 0) from rfl) (List.Mem.tail _ (List.Mem.head _)) ?_
        refine z_const X (show cdA 227 13 = some (.iconst 0, 1, 0, 0, 0) from rfl) ?_
        refine z_ast X 184 (show cdA 227 14 = some (.iastore, 1, 0, 0, 0) from rfl) (by decide) rfl (by first | exact hi.1.1 | omega) (show ka < 7 by first | exact g1002 | omega) (by decide) ?_
        obtain ⟨s1003, hs1003⟩ : ∃ x0, x0 = uC t 161 (ka).toNat (Int32.ofInt 0) := ⟨_, rfl⟩
        rw [← hs1003]
        have Is1003 : Bd s1003 := by rw [hs1003]; exact bd_C I (show ((-2147483648) : Int) ≤ 0 ∧ 0 ≤ 2147483647 by first | exact ⟨by decide, by decide⟩ | omega) (by decide)
        have Fs1003 := fm_C (i := (ka).toNat) (x := Int32.ofInt 0) F (show 161 ∈ _ by decide)
        rw [← hs1003] at Fs1003
        have ws1003_90 : iI s1003 90 = iI t 90 := by rw [hs1003]; rfl
        have fs1003 : Fm [] [161] t s1003 := by rw [hs1003]; exact fm_C (fm_rf _ _ _) (show 161 ∈ _ by decide)
        have JNW_s1003 : NW s1003 := NW_fm fs1003 (by decide) jjNW
        have JNWL_s1003 : NWL s1003 := NWL_fm fs1003 (by decide) jjNWL
        refine z_inc X (x := ka) (lv' := [(1, .int (Int32.ofInt (ka + 1))), (0, .ref (A 179))]) (show cdA 227 15 = some (.iinc 1 1, 3, 0, 0, 0) from rfl) (by decide) (List.Mem.tail _ (List.Mem.head _)) (fun _ h => h) ?_
        refine z_goto X (t := 2) (show cdA 227 18 = some (.goto (-16), 3, 0, 0, 0) from rfl) (by decide) ?_
        refine WS_lv (lv := [(0, .ref (A 179)), (1, .int (Int32.ofInt (ka + 1)))]) (List.forall_mem_cons.mpr ⟨(List.Mem.tail _ (List.Mem.head _)), (List.forall_mem_cons.mpr ⟨(List.Mem.head _), (fun q h => absurd h List.not_mem_nil)⟩)⟩) ?_
        exact ih _ (ka + 1) Is1003 Fs1003 JNW_s1003 JNWL_s1003 (nmz_up hq (by omega) hs1003) (by first | exact ⟨And.intro (oq_54f49eb5 hi.1.1) (oq_c22ff062 g1002), oq_1aa5be9e ws1003_90 hi.2⟩ | omega) (by first | exact qk_me hm (by decide) (oq_4b3bf825 g1002) | omega) kx
  have L177 : ∀ (n : Nat) (t : PS) (a iz ka c b : Int), Bd t → Fm [] [161] s t → NW t → NWL t → (LMB s a ka b t ∧ c = fwM s (a : Int).toNat (ka : Int).toNat ∧ iz = i01 (∃ j : Nat, j < (ka + 1).toNat ∧ inM s (fwM s (a : Int).toNat j))) → ((0 ≤ a ∧ a < iI s 90 ∧ a ≤ 11) ∧ (iz = 0 ∨ iz = 1) ∧ (0 ≤ ka ∧ ka < iC s 202 (a : Int).toNat ∧ ka ≤ 23) ∧ (0 ≤ c ∧ c ≤ 127) ∧ (a + 1 ≤ b ∧ b ≤ iI s 90) ∧ iI t 90 = iI s 90) → (12 - b : Int).toNat < n → (∀ (t' : PS) (b' : Int), Bd t' → Fm [] [161] s t' → NW t' → NWL t' → (LMB s a ka (iI s 90) t' ∧ c = fwM s (a : Int).toNat (ka : Int).toNat ∧ iz = i01 (∃ j : Nat, j < (ka + 1).toNat ∧ inM s (fwM s (a : Int).toNat j))) → ((0 ≤ a ∧ a < iI s 90 ∧ a ≤ 11) ∧ (iz = 0 ∨ iz = 1) ∧ (0 ≤ ka ∧ ka < iC s 202 (a : Int).toNat ∧ ka ≤ 23) ∧ iI t' 90 = iI s 90) → WS k 278 [(0, .ref (A 179)), (1, .int (Int32.ofInt a)), (2, .int (Int32.ofInt iz)), (3, .int (Int32.ofInt ka)), (4, .int (Int32.ofInt c)), (5, .int (Int32.ofInt b'))] [] (Wd A dT t') 0 0) → WS k 177 [(0, .ref (A 179)), (1, .int (Int32.ofInt a)), (2, .int (Int32.ofInt iz)), (3, .int (Int32.ofInt ka)), (4, .int (Int32.ofInt c)), (5, .int (Int32.ofInt b))] [] (Wd A dT t) 0 0 := by
    intro n
    induction n with
    | zero =>
      intro t a iz ka c b I F jjNW jjNWL hq hi hm kx
      exact absurd hm (Nat.not_lt_zero _)
    | succ n ih =>
      intro t a iz ka c b I F jjNW jjNWL hq hi hm kx
      have b2001 : (0 : Int) ≤ iI t 90 ∧ iI t 90 ≤ 12 := I.1 90
      refine z_load X (x := b) (show cdA 227 177 = some (.iload 5, 2, 0, 0, 0) from rfl) (List.Mem.tail _ (List.Mem.tail _ (List.Mem.tail _ (List.Mem.tail _ (List.Mem.tail _ (List.Mem.head _)))))) ?_
      refine z_aload_n X (x := A 179) (show cdA 227 179 = some (.aload_n 0, 1, 0, 0, 0) from rfl) (List.Mem.head _) ?_
      refine z_getI X 179 (show cdA 227 180 = some (.getfield 233, 3, 12, 22, 0) from rfl) (by decide) rfl rfl ?_
      have b2002 : (0 : Int) ≤ iI t 90 ∧ iI t 90 ≤ 12 := I.1 90
      refine z_icmp_ge X (t := 278) (show cdA 227 183 = some (.if_icmp .ge 95, 3, 3, 0, 0) from rfl) (by decide) ⟨by first | exact oq_7a2963c7 hi.2.2.2.2.1.1 hi.1.1 | omega, by first | exact oq_39d2cc6e hi.2.2.2.2.1.2 b1.2 | omega⟩ (rng_to _) (fun g2003 => ?_) (fun g2003 => ?_)
      ·
        refine WS_lv (lv := [(0, .ref (A 179)), (1, .int (Int32.ofInt a)), (2, .int (Int32.ofInt iz)), (3, .int (Int32.ofInt ka)), (4, .int (Int32.ofInt c)), (5, .int (Int32.ofInt b))]) (List.forall_mem_cons.mpr ⟨(List.Mem.head _), (List.forall_mem_cons.mpr ⟨(List.Mem.tail _ (List.Mem.head _)), (List.forall_mem_cons.mpr ⟨(List.Mem.tail _ (List.Mem.tail _ (List.Mem.head _))), (List.forall_mem_cons.mpr ⟨(List.Mem.tail _ (List.Mem.tail _ (List.Mem.tail _ (List.Mem.head _)))), (List.forall_mem_cons.mpr ⟨(List.Mem.tail _ (List.Mem.tail _ (List.Mem.tail _ (List.Mem.tail _ (List.Mem.head _))))), (List.forall_mem_cons.mpr ⟨(List.Mem.tail _ (List.Mem.tail _ (List.Mem.tail _ (List.Mem.tail _ (List.Mem.tail _ (List.Mem.head _)))))), (fun q h => absurd h List.not_mem_nil)⟩)⟩)⟩)⟩)⟩)⟩) ?_
        exact kx _ b I F jjNW jjNWL ⟨by have z := hq.1; rw [show b = iI s 90 by omega] at z; exact z, hq.2⟩ (by first | exact ⟨And.intro (hi.1.1) (And.intro (hi.1.2.1) (hi.1.2.2)), hi.2.1, And.intro (hi.2.2.1.1) (And.intro (hi.2.2.1.2.1) (hi.2.2.1.2.2)), hi.2.2.2.2.2⟩ | omega)
      ·
        refine z_aload_n X (x := A 179) (show cdA 227 186 = some (.aload_n 0, 1, 0, 0, 0) from rfl) (List.Mem.head _) ?_
        refine s_getR X 179 (show cdA 227 187 = some (.getfield 76, 3, 12, 37, 0) from rfl) (by decide) rfl rfl ?_
        refine z_load X (x := c) (show cdA 227 190 = some (.iload 4, 2, 0, 0, 0) from rfl) (List.Mem.tail _ (List.Mem.tail _ (List.Mem.tail _ (List.Mem.tail _ (List.Mem.head _))))) ?_
        refine z_zald X 258 (show cdA 227 192 = some (.baload, 1, 0, 0, 0) from rfl) (by decide) rfl (by first | exact hi.2.2.2.1.1 | omega) (show c < 128 by first | exact oq_31b2bf10 hi.2.2.2.1.2 | omega) (by decide) ?_
        have b2004 : (0 : Int) ≤ iC t 230 (c).toNat ∧ iC t 230 (c).toNat ≤ 1 := I.2 230 _ (show (c).toNat < 128 by first | exact oq_c7f4e9c1 hi.2.2.2.1.2 | omega)
        refine z_if_eq X (t := 278) (show cdA 227 193 = some (.ifCond .eq 85, 3, 0, 0, 0) from rfl) (by decide) (rng_to _) (fun g2005 => ?_) (fun g2005 => ?_)
        ·
          refine WS_lv (lv := [(0, .ref (A 179)), (1, .int (Int32.ofInt a)), (2, .int (Int32.ofInt iz)), (3, .int (Int32.ofInt ka)), (4, .int (Int32.ofInt c)), (5, .int (Int32.ofInt b))]) (List.forall_mem_cons.mpr ⟨(List.Mem.head _), (List.forall_mem_cons.mpr ⟨(List.Mem.tail _ (List.Mem.head _)), (List.forall_mem_cons.mpr ⟨(List.Mem.tail _ (List.Mem.tail _ (List.Mem.head _))), (List.forall_mem_cons.mpr ⟨(List.Mem.tail _ (List.Mem.tail _ (List.Mem.tail _ (List.Mem.head _)))), (List.forall_mem_cons.mpr ⟨(List.Mem.tail _ (List.Mem.tail _ (List.Mem.tail _ (List.Mem.tail _ (List.Mem.head _))))), (List.forall_mem_cons.mpr ⟨(List.Mem.tail _ (List.Mem.tail _ (List.Mem.tail _ (List.Mem.tail _ (List.Mem.tail _ (List.Mem.head _)))))), (fun q h => absurd h List.not_mem_nil)⟩)⟩)⟩)⟩)⟩)⟩) ?_
          exact kx _ b I F jjNW jjNWL ⟨lmb_e hq.1 (by omega) (by rw [← hq.2.1]; unfold inM; have z := (fm_c F (by decide) : iC t 230 (c : Int).toNat = iC s 230 (c : Int).toNat); omega) (by omega), hq.2⟩ (by first | exact ⟨And.intro (hi.1.1) (And.intro (hi.1.2.1) (hi.1.2.2)), hi.2.1, And.intro (hi.2.2.1.1) (And.intro (hi.2.2.1.2.1) (hi.2.2.1.2.2)), hi.2.2.2.2.2⟩ | omega)
        ·
          refine z_aload_n X (x := A 179) (show cdA 227 196 = some (.aload_n 0, 1, 0, 0, 0) from rfl) (List.Mem.head _) ?_
          refine s_getR X 179 (show cdA 227 197 = some (.getfield 67, 3, 12, 34, 0) from rfl) (by decide) rfl rfl ?_
          refine z_load X (x := b) (show cdA 227 200 = some (.iload 5, 2, 0, 0, 0) from rfl) (List.Mem.tail _ (List.Mem.tail _ (List.Mem.tail _ (List.Mem.tail _ (List.Mem.tail _ (List.Mem.head _)))))) ?_
          refine z_aald X rw_243 (show cdA 227 202 = some (.aaload, 1, 0, 0, 0) from rfl) (by first | exact oq_85bc47d7 hi.2.2.2.2.1.1 hi.1.1 | omega) (show b < 12 by first | exact oq_f36e82a8 g2003 b2002.2 | omega) (by decide) ?_
          refine z_load X (x := c) (show cdA 227 203 = some (.iload 4, 2, 0, 0, 0) from rfl) (List.Mem.tail _ (List.Mem.tail _ (List.Mem.tail _ (List.Mem.tail _ (List.Mem.head _))))) ?_
          refine z_ald2 X rw_243 (show cdA 227 205 = some (.iaload, 1, 0, 0, 0) from rfl) (show (b : Int).toNat < 12 by first | exact oq_2dac6850 g2003 b2002.2 | omega) (by first | exact hi.2.2.2.1.1 | omega) (show c < 128 by first | exact oq_31b2bf10 hi.2.2.2.1.2 | omega) (by decide) ?_
          have b2006 : ((-1) : Int) ≤ (iC t (216 + (b : Int).toNat) (c : Int).toNat) ∧ (iC t (216 + (b : Int).toNat) (c : Int).toNat) ≤ 23 := rw_bd rw_243 I (show (b : Int).toNat < 12 by first | exact oq_2dac6850 g2003 b2002.2 | omega) (show (c : Int).toNat < 128 by first | exact oq_c7f4e9c1 hi.2.2.2.1.2 | omega)
          refine z_store X (lv' := [(6, .int (Int32.ofInt (iC t (216 + (b : Int).toNat) (c : Int).toNat))), (0, .ref (A 179)), (1, .int (Int32.ofInt a)), (2, .int (Int32.ofInt iz)), (3, .int (Int32.ofInt ka)), (4, .int (Int32.ofInt c)), (5, .int (Int32.ofInt b))]) (show cdA 227 206 = some (.istore 6, 2, 0, 0, 0) from rfl) (by decide) (fun _ h => h) ?_
          have hmT := mt_M (s := s) jNWL (a := (a : Int).toNat) (b := (b : Int).toNat) (k := (ka : Int).toNat) (c := c) (l := (iC t (216 + (b : Int).toNat) (c : Int).toNat)) (by omega) (by omega) hq.2.1 (by omega) (by omega) (fm_c F (fun h => by have := List.mem_singleton.mp h; omega))
          refine z_load X (x := (iC t (216 + (b : Int).toNat) (c : Int).toNat)) (show cdA 227 208 = some (.iload 6, 2, 0, 0, 0) from rfl) (List.Mem.head _) ?_
          refine z_const X (show cdA 227 210 = some (.iconst (-1), 1, 0, 0, 0) from rfl) ?_
          refine z_icmp_eq X (t := 272) (show cdA 227 211 = some (.if_icmp .eq 61, 3, 0, 0, 0) from rfl) (by decide) (rng_to _) (by decide) (fun g2007 => ?_) (fun g2007 => ?_)
          ·
            refine z_inc X (x := b) (lv' := [(5, .int (Int32.ofInt (b + 1))), (6, .int (Int32.ofInt (iC t (216 + (b : Int).toNat) (c : Int).toNat))), (0, .ref (A 179)), (1, .int (Int32.ofInt a)), (2, .int (Int32.ofInt iz)), (3, .int (Int32.ofInt ka)), (4, .int (Int32.ofInt c))]) (show cdA 227 272 = some (.iinc 5 1, 3, 0, 0, 0) from rfl) (by decide) (List.Mem.tail _ (List.Mem.tail _ (List.Mem.tail _ (List.Mem.tail _ (List.Mem.tail _ (List.Mem.tail _ (List.Mem.head _))))))) (fun _ h => h) ?_
            refine z_goto X (t := 177) (show cdA 227 275 = some (.goto (-98), 3, 0, 0, 0) from rfl) (by decide) ?_
            refine WS_lv (lv := [(0, .ref (A 179)), (1, .int (Int32.ofInt a)), (2, .int (Int32.ofInt iz)), (3, .int (Int32.ofInt ka)), (4, .int (Int32.ofInt c)), (5, .int (Int32.ofInt (b + 1)))]) (List.forall_mem_cons.mpr ⟨(List.Mem.tail _ (List.Mem.tail _ (List.Mem.head _))), (List.forall_mem_cons.mpr ⟨(List.Mem.tail _ (List.Mem.tail _ (List.Mem.tail _ (List.Mem.head _)))), (List.forall_mem_cons.mpr ⟨(List.Mem.tail _ (List.Mem.tail _ (List.Mem.tail _ (List.Mem.tail _ (List.Mem.head _))))), (List.forall_mem_cons.mpr ⟨(List.Mem.tail _ (List.Mem.tail _ (List.Mem.tail _ (List.Mem.tail _ (List.Mem.tail _ (List.Mem.head _)))))), (List.forall_mem_cons.mpr ⟨(List.Mem.tail _ (List.Mem.tail _ (List.Mem.tail _ (List.Mem.tail _ (List.Mem.tail _ (List.Mem.tail _ (List.Mem.head _))))))), (List.forall_mem_cons.mpr ⟨(List.Mem.head _), (fun q h => absurd h List.not_mem_nil)⟩)⟩)⟩)⟩)⟩)⟩) ?_
            exact ih _ a iz ka c (b + 1) I F jjNW jjNWL ⟨lmb_n hq.1 (by omega) (ck_0 (Or.inr (hmT.1 (by omega)))), hq.2⟩ (by first | exact ⟨And.intro (hi.1.1) (And.intro (hi.1.2.1) (hi.1.2.2)), hi.2.1, And.intro (hi.2.2.1.1) (And.intro (hi.2.2.1.2.1) (hi.2.2.1.2.2)), And.intro (hi.2.2.2.1.1) (hi.2.2.2.1.2), And.intro (oq_c88d0a11 hi.2.2.2.2.1.1) (oq_8a89b3ae g2003 hi.2.2.2.2.2), hi.2.2.2.2.2⟩ | omega) (by first | exact qk_me hm (by decide) (oq_b575e8c1 g2003 b2002.2) | omega) kx
          ·
            have hmU := hmT.2 (by omega)
            have hy1 := (fm_c F (by decide) : iC t 202 (a : Int).toNat = iC s 202 (a : Int).toNat)
            have hy2 := (fm_c F (by decide) : iC t 202 (b : Int).toNat = iC s 202 (b : Int).toNat)
            refine z_aload_n X (x := A 179) (show cdA 227 214 = some (.aload_n 0, 1, 0, 0, 0) from rfl) (List.Mem.tail _ (List.Mem.head _)) ?_
            refine z_load_n X (x := a) (show cdA 227 215 = some (.iload_n 1, 1, 0, 0, 0) from rfl) (List.Mem.tail _ (List.Mem.tail _ (List.Mem.head _))) ?_
            refine z_load_n X (x := ka) (show cdA 227 216 = some (.iload_n 3, 1, 0, 0, 0) from rfl) (List.Mem.tail _ (List.Mem.tail _ (List.Mem.tail _ (List.Mem.tail _ (List.Mem.head _))))) ?_
            refine z_callV X 179 (rm := rmN 226) (As := [.int (Int32.ofInt a), .int (Int32.ofInt ka)]) (st := []) (show cdA 227 217 = some (.invokevirtual 315, 3, 226, 0, 0) from rfl) rfl (by decide) rfl (by rw [E.1, E.2.1, E.2.2.1]; exact k_goes3 G I (by first | exact ⟨hi.1.1, hi.1.2.2⟩ | omega) (by first | exact ⟨hi.2.2.1.1, by omega⟩ | omega)) ⟨by rw [E.2.2.2]; exact (show (rmN 226).frames + 1 ≤ (rmN 227).frames by decide), by rw [E.2.2.2]; exact (show 8 + (mNL (miB 226) + 11) + (rmN 226).locals ≤ (rmN 227).locals by decide), by rw [E.2.2.2]; exact (show 0 + (rmN 226).cells ≤ (rmN 227).cells by decide), by rw [E.2.2.2]; exact (show 0 + (rmN 226).slots ≤ (rmN 227).slots by decide)⟩ (Nat.le_of_ble_eq_true rfl) (fun vv s2008 hq => ?_) (fun ee s2008 hq => ?_)
            rotate_left
            · obtain ⟨rfl, e2009, hv, hrs2008, hps2008⟩ := hq; cases hv
            obtain ⟨rfl, e2009, hv, hrs2008, hps2008⟩ := hq
            cases hv
            show WS k 220 [(6, .int (Int32.ofInt (iC t (216 + (b : Int).toNat) (c : Int).toNat))), (0, .ref (A 179)), (1, .int (Int32.ofInt a)), (2, .int (Int32.ofInt iz)), (3, .int (Int32.ofInt ka)), (4, .int (Int32.ofInt c)), (5, .int (Int32.ofInt b))] [.int (Int32.ofInt e2009)] (Wd A dT t) 0 0
            have hg1 : e2009 = goK (fwM s (a : Int).toNat) (iC s 202 (a : Int).toNat) (ka : Int).toNat := by rw [← fw_fm F (by decide) (by omega), ← hy1]; exact hps2008.1
            refine z_aload_n X (x := A 179) (show cdA 227 220 = some (.aload_n 0, 1, 0, 0, 0) from rfl) (List.Mem.tail _ (List.Mem.head _)) ?_
            refine z_load X (x := b) (show cdA 227 221 = some (.iload 5, 2, 0, 0, 0) from rfl) (List.Mem.tail _ (List.Mem.tail _ (List.Mem.tail _ (List.Mem.tail _ (List.Mem.tail _ (List.Mem.tail _ (List.Mem.head _))))))) ?_
            refine z_load X (x := (iC t (216 + (b : Int).toNat) (c : Int).toNat)) (show cdA 227 223 = some (.iload 6, 2, 0, 0, 0) from rfl) (List.Mem.head _) ?_
            refine z_callV X 179 (rm := rmN 226) (As := [.int (Int32.ofInt b), .int (Int32.ofInt (iC t (216 + (b : Int).toNat) (c : Int).toNat))]) (st := [.int (Int32.ofInt e2009)]) (show cdA 227 225 = some (.invokevirtual 315, 3, 226, 0, 0) from rfl) rfl (by decide) rfl (by rw [E.1, E.2.1, E.2.2.1]; exact k_goes3 G I (by first | exact ⟨oq_85bc47d7 hi.2.2.2.2.1.1 hi.1.1, oq_e4d7f3c5 g2003 b2002.2⟩ | omega) (by first | exact ⟨oq_7a1025bf g2007 b2006.1, by omega⟩ | omega)) ⟨by rw [E.2.2.2]; exact (show (rmN 226).frames + 1 ≤ (rmN 227).frames by decide), by rw [E.2.2.2]; exact (show 8 + (mNL (miB 226) + 11) + (rmN 226).locals ≤ (rmN 227).locals by decide), by rw [E.2.2.2]; exact (show 0 + (rmN 226).cells ≤ (rmN 227).cells by decide), by rw [E.2.2.2]; exact (show 0 + (rmN 226).slots ≤ (rmN 227).slots by decide)⟩ (Nat.le_of_ble_eq_true rfl) (fun vv s2010 hq => ?_) (fun ee s2010 hq => ?_)
            rotate_left
            · obtain ⟨rfl, e2011, hv, hrs2010, hps2010⟩ := hq; cases hv
            obtain ⟨rfl, e2011, hv, hrs2010, hps2010⟩ := hq
            cases hv
            show WS k 228 [(6, .int (Int32.ofInt (iC t (216 + (b : Int).toNat) (c : Int).toNat))), (0, .ref (A 179)), (1, .int (Int32.ofInt a)), (2, .int (Int32.ofInt iz)), (3, .int (Int32.ofInt ka)), (4, .int (Int32.ofInt c)), (5, .int (Int32.ofInt b))] [.int (Int32.ofInt e2011), .int (Int32.ofInt e2009)] (Wd A dT t) 0 0
            have hg2 : e2011 = goK (fwM s (b : Int).toNat) (iC s 202 (b : Int).toNat) ((iC t (216 + (b : Int).toNat) (c : Int).toNat) : Int).toNat := by rw [← fw_fm F (by decide) (by omega), ← hy2]; exact hps2010.1
            refine z_icmp_eq X (t := 272) (show cdA 227 228 = some (.if_icmp .eq 44, 3, 0, 0, 0) from rfl) (by decide) hrs2008 hrs2010 (fun g2012 => ?_) (fun g2012 => ?_)
            ·
              refine z_inc X (x := b) (lv' := [(5, .int (Int32.ofInt (b + 1))), (6, .int (Int32.ofInt (iC t (216 + (b : Int).toNat) (c : Int).toNat))), (0, .ref (A 179)), (1, .int (Int32.ofInt a)), (2, .int (Int32.ofInt iz)), (3, .int (Int32.ofInt ka)), (4, .int (Int32.ofInt c))]) (show cdA 227 272 = some (.iinc 5 1, 3, 0, 0, 0) from rfl) (by decide) (List.Mem.tail _ (List.Mem.tail _ (List.Mem.tail _ (List.Mem.tail _ (List.Mem.tail _ (List.Mem.tail _ (List.Mem.head _))))))) (fun _ h => h) ?_
              refine z_goto X (t := 177) (show cdA 227 275 = some (.goto (-98), 3, 0, 0, 0) from rfl) (by decide) ?_
              refine WS_lv (lv := [(0, .ref (A 179)), (1, .int (Int32.ofInt a)), (2, .int (Int32.ofInt iz)), (3, .int (Int32.ofInt ka)), (4, .int (Int32.ofInt c)), (5, .int (Int32.ofInt (b + 1)))]) (List.forall_mem_cons.mpr ⟨(List.Mem.tail _ (List.Mem.tail _ (List.Mem.head _))), (List.forall_mem_cons.mpr ⟨(List.Mem.tail _ (List.Mem.tail _ (List.Mem.tail _ (List.Mem.head _)))), (List.forall_mem_cons.mpr ⟨(List.Mem.tail _ (List.Mem.tail _ (List.Mem.tail _ (List.Mem.tail _ (List.Mem.head _))))), (List.forall_mem_cons.mpr ⟨(List.Mem.tail _ (List.Mem.tail _ (List.Mem.tail _ (List.Mem.tail _ (List.Mem.tail _ (List.Mem.head _)))))), (List.forall_mem_cons.mpr ⟨(List.Mem.tail _ (List.Mem.tail _ (List.Mem.tail _ (List.Mem.tail _ (List.Mem.tail _ (List.Mem.tail _ (List.Mem.head _))))))), (List.forall_mem_cons.mpr ⟨(List.Mem.head _), (fun q h => absurd h List.not_mem_nil)⟩)⟩)⟩)⟩)⟩)⟩) ?_
              exact ih _ a iz ka c (b + 1) I F jjNW jjNWL ⟨lmb_n hq.1 (by omega) (ck_0 (Or.inr (fun q => hmU.2.mp q (by rw [← hg1, ← hg2]; omega)))), hq.2⟩ (by first | exact ⟨And.intro (hi.1.1) (And.intro (hi.1.2.1) (hi.1.2.2)), hi.2.1, And.intro (hi.2.2.1.1) (And.intro (hi.2.2.1.2.1) (hi.2.2.1.2.2)), And.intro (hi.2.2.2.1.1) (hi.2.2.2.1.2), And.intro (oq_c88d0a11 hi.2.2.2.2.1.1) (oq_8a89b3ae g2003 hi.2.2.2.2.2), hi.2.2.2.2.2⟩ | omega) (by first | exact qk_me hm (by decide) (oq_b575e8c1 g2003 b2002.2) | omega) kx
            ·
              have hN1 : iC t 161 (1 : Int).toNat = crP s (inM s) (a : Int).toNat + crK s (inM s) (a : Int).toNat (ka : Int).toNat + sm (ckM (inM s) (WYM s) (moM s) (a : Int).toNat (ka : Int).toNat) (b : Int).toNat := hq.1.2.1
              have r1 := crP_r (S := inM s) (a := (a : Int).toNat) hMo (by omega) (by omega) hMy
              have r2 := crK_r (S := inM s) (a := (a : Int).toNat) (k := (ka : Int).toNat) hMo (by omega) (by omega) (by omega)
              have r3 := crr_r (S := inM s) (a := (a : Int).toNat) (k := (ka : Int).toNat) (n := (b : Int).toNat) hMo (by omega) (by omega)
              refine z_aload_n X (x := A 179) (show cdA 227 231 = some (.aload_n 0, 1, 0, 0, 0) from rfl) (List.Mem.tail _ (List.Mem.head _)) ?_
              refine s_getR X 179 (show cdA 227 232 = some (.getfield 32, 3, 12, 21, 0) from rfl) (by decide) rfl rfl ?_
              refine z_const X (show cdA 227 235 = some (.iconst 1, 1, 0, 0, 0) from rfl) ?_
              refine w_dup2_11 X.1 (ax_d X (show cdA 227 236 = some (.dup2, 1, 0, 0, 0) from rfl)) rfl rfl ?_
              refine z_ald X 184 (show cdA 227 237 = some (.iaload, 1, 0, 0, 0) from rfl) (by decide) rfl (by decide) (show 1 < 7 by decide) (by decide) ?_
              have b2013 : ((-2147483648) : Int) ≤ iC t 161 (1 : Int).toNat ∧ iC t 161 (1 : Int).toNat ≤ 2147483647 := I.2 161 _ (show (1 : Int).toNat < 7 by first | exact oq_a32b659c | omega)
              refine z_aload_n X (x := A 179) (show cdA 227 238 = some (.aload_n 0, 1, 0, 0, 0) from rfl) (List.Mem.tail _ (List.Mem.head _)) ?_
              refine s_getR X 179 (show cdA 227 239 = some (.getfield 61, 3, 12, 32, 0) from rfl) (by decide) rfl rfl ?_
              refine z_load_n X (x := a) (show cdA 227 242 = some (.iload_n 1, 1, 0, 0, 0) from rfl) (List.Mem.tail _ (List.Mem.tail _ (List.Mem.head _))) ?_
              refine z_ald X 229 (show cdA 227 243 = some (.iaload, 1, 0, 0, 0) from rfl) (by decide) rfl (by first | exact hi.1.1 | omega) (show a < 12 by first | exact oq_0ddfcfee hi.1.2.2 | omega) (by decide) ?_
              have b2014 : (0 : Int) ≤ iC t 203 (a).toNat ∧ iC t 203 (a).toNat ≤ 50 := I.2 203 _ (show (a).toNat < 12 by first | exact oq_9c5fa447 hi.1.2.2 | omega)
              refine z_aload_n X (x := A 179) (show cdA 227 244 = some (.aload_n 0, 1, 0, 0, 0) from rfl) (List.Mem.tail _ (List.Mem.head _)) ?_
              refine s_getR X 179 (show cdA 227 245 = some (.getfield 61, 3, 12, 32, 0) from rfl) (by decide) rfl rfl ?_
              refine z_load X (x := b) (show cdA 227 248 = some (.iload 5, 2, 0, 0, 0) from rfl) (List.Mem.tail _ (List.Mem.tail _ (List.Mem.tail _ (List.Mem.tail _ (List.Mem.tail _ (List.Mem.tail _ (List.Mem.head _))))))) ?_
              refine z_ald X 229 (show cdA 227 250 = some (.iaload, 1, 0, 0, 0) from rfl) (by decide) rfl (by first | exact oq_85bc47d7 hi.2.2.2.2.1.1 hi.1.1 | omega) (show b < 12 by first | exact oq_f36e82a8 g2003 b2002.2 | omega) (by decide) ?_
              have b2015 : (0 : Int) ≤ iC t 203 (b).toNat ∧ iC t 203 (b).toNat ≤ 50 := I.2 203 _ (show (b).toNat < 12 by first | exact oq_2dac6850 g2003 b2002.2 | omega)
              refine z_icmp_ge X (t := 263) (show cdA 227 251 = some (.if_icmp .ge 12, 3, 3, 0, 0) from rfl) (by decide) (rng_to _) (rng_to _) (fun g2016 => ?_) (fun g2016 => ?_)
              ·
                refine z_aload_n X (x := A 179) (show cdA 227 263 = some (.aload_n 0, 1, 0, 0, 0) from rfl) (List.Mem.tail _ (List.Mem.head _)) ?_
                refine s_getR X 179 (show cdA 227 264 = some (.getfield 61, 3, 12, 32, 0) from rfl) (by decide) rfl rfl ?_
                refine z_load X (x := b) (show cdA 227 267 = some (.iload 5, 2, 0, 0, 0) from rfl) (List.Mem.tail _ (List.Mem.tail _ (List.Mem.tail _ (List.Mem.tail _ (List.Mem.tail _ (List.Mem.tail _ (List.Mem.head _))))))) ?_
                refine z_ald X 229 (show cdA 227 269 = some (.iaload, 1, 0, 0, 0) from rfl) (by decide) rfl (by first | exact oq_85bc47d7 hi.2.2.2.2.1.1 hi.1.1 | omega) (show b < 12 by first | exact oq_f36e82a8 g2003 b2002.2 | omega) (by decide) ?_
                have b2017 : (0 : Int) ≤ iC t 203 (b).toNat ∧ iC t 203 (b).toNat ≤ 50 := I.2 203 _ (show (b).toNat < 12 by first | exact oq_2dac6850 g2003 b2002.2 | omega)
                refine z_add X (show cdA 227 270 = some (.iadd, 1, 0, 0, 0) from rfl) ?_
                refine z_ast X 184 (show cdA 227 271 = some (.iastore, 1, 0, 0, 0) from rfl) (by decide) rfl (by decide) (show 1 < 7 by decide) (by decide) ?_
                obtain ⟨s2018, hs2018⟩ : ∃ x0, x0 = uC t 161 (1 : Int).toNat (Int32.ofInt ((iC t 161 (1 : Int).toNat) + (iC t 203 (b).toNat))) := ⟨_, rfl⟩
                rw [← hs2018]
                have Is2018 : Bd s2018 := by rw [hs2018]; exact bd_C I (show ((-2147483648) : Int) ≤ ((iC t 161 (1 : Int).toNat) + (iC t 203 (b).toNat)) ∧ ((iC t 161 (1 : Int).toNat) + (iC t 203 (b).toNat)) ≤ 2147483647 by first | exact ⟨oq_6020a751 b2013.1 b2017.1, by omega⟩ | omega) ⟨by first | exact oq_6020a751 b2013.1 b2017.1 | omega, by omega⟩
                have Fs2018 := fm_C (i := (1 : Int).toNat) (x := Int32.ofInt ((iC t 161 (1 : Int).toNat) + (iC t 203 (b).toNat))) F (show 161 ∈ _ by decide)
                rw [← hs2018] at Fs2018
                have ws2018_90 : iI s2018 90 = iI t 90 := by rw [hs2018]; rfl
                have fs2018 : Fm [] [161] t s2018 := by rw [hs2018]; exact fm_C (fm_rf _ _ _) (show 161 ∈ _ by decide)
                have JNW_s2018 : NW s2018 := NW_fm fs2018 (by decide) jjNW
                have JNWL_s2018 : NWL s2018 := NWL_fm fs2018 (by decide) jjNWL
                refine z_inc X (x := b) (lv' := [(5, .int (Int32.ofInt (b + 1))), (6, .int (Int32.ofInt (iC t (216 + (b : Int).toNat) (c : Int).toNat))), (0, .ref (A 179)), (1, .int (Int32.ofInt a)), (2, .int (Int32.ofInt iz)), (3, .int (Int32.ofInt ka)), (4, .int (Int32.ofInt c))]) (show cdA 227 272 = some (.iinc 5 1, 3, 0, 0, 0) from rfl) (by decide) (List.Mem.tail _ (List.Mem.tail _ (List.Mem.tail _ (List.Mem.tail _ (List.Mem.tail _ (List.Mem.tail _ (List.Mem.head _))))))) (fun _ h => h) ?_
                refine z_goto X (t := 177) (show cdA 227 275 = some (.goto (-98), 3, 0, 0, 0) from rfl) (by decide) ?_
                refine WS_lv (lv := [(0, .ref (A 179)), (1, .int (Int32.ofInt a)), (2, .int (Int32.ofInt iz)), (3, .int (Int32.ofInt ka)), (4, .int (Int32.ofInt c)), (5, .int (Int32.ofInt (b + 1)))]) (List.forall_mem_cons.mpr ⟨(List.Mem.tail _ (List.Mem.tail _ (List.Mem.head _))), (List.forall_mem_cons.mpr ⟨(List.Mem.tail _ (List.Mem.tail _ (List.Mem.tail _ (List.Mem.head _)))), (List.forall_mem_cons.mpr ⟨(List.Mem.tail _ (List.Mem.tail _ (List.Mem.tail _ (List.Mem.tail _ (List.Mem.head _))))), (List.forall_mem_cons.mpr ⟨(List.Mem.tail _ (List.Mem.tail _ (List.Mem.tail _ (List.Mem.tail _ (List.Mem.tail _ (List.Mem.head _)))))), (List.forall_mem_cons.mpr ⟨(List.Mem.tail _ (List.Mem.tail _ (List.Mem.tail _ (List.Mem.tail _ (List.Mem.tail _ (List.Mem.tail _ (List.Mem.head _))))))), (List.forall_mem_cons.mpr ⟨(List.Mem.head _), (fun q h => absurd h List.not_mem_nil)⟩)⟩)⟩)⟩)⟩)⟩) ?_
                exact ih _ a iz ka c (b + 1) Is2018 Fs2018 JNW_s2018 JNWL_s2018 ⟨lmb_y hq.1 (by omega) hs2018 (ck_1 (by omega) (by rw [← hq.2.1]; unfold inM; have z := (fm_c F (by decide) : iC t 230 (c : Int).toNat = iC s 230 (c : Int).toNat); omega) (hmU.2.mpr (by rw [← hg1, ← hg2]; omega)) (by have z1 := (fm_c F (by decide) : iC t 203 (a : Int).toNat = iC s 203 (a : Int).toNat); have z2 := (fm_c F (by decide) : iC t 203 (b : Int).toNat = iC s 203 (b : Int).toNat); show _ = min (iC s 203 (a : Int).toNat) (iC s 203 (b : Int).toNat); omega)) (by have z1 := I.2 203 (a : Int).toNat (show (a : Int).toNat < 12 by omega); have z2 := I.2 203 (b : Int).toNat (show (b : Int).toNat < 12 by omega); replace z1 : 0 ≤ iC t 203 (a : Int).toNat ∧ iC t 203 (a : Int).toNat ≤ 50 := z1; replace z2 : 0 ≤ iC t 203 (b : Int).toNat ∧ iC t 203 (b : Int).toNat ≤ 50 := z2; exact ⟨by omega, by omega⟩), hq.2⟩ (by first | exact ⟨And.intro (hi.1.1) (And.intro (hi.1.2.1) (hi.1.2.2)), hi.2.1, And.intro (hi.2.2.1.1) (And.intro (hi.2.2.1.2.1) (hi.2.2.1.2.2)), And.intro (hi.2.2.2.1.1) (hi.2.2.2.1.2), And.intro (oq_c88d0a11 hi.2.2.2.2.1.1) (oq_8a89b3ae g2003 hi.2.2.2.2.2), oq_1aa5be9e ws2018_90 hi.2.2.2.2.2⟩ | omega) (by first | exact qk_me hm (by decide) (oq_b575e8c1 g2003 b2002.2) | omega) kx
              ·
                refine z_aload_n X (x := A 179) (show cdA 227 254 = some (.aload_n 0, 1, 0, 0, 0) from rfl) (List.Mem.tail _ (List.Mem.head _)) ?_
                refine s_getR X 179 (show cdA 227 255 = some (.getfield 61, 3, 12, 32, 0) from rfl) (by decide) rfl rfl ?_
                refine z_load_n X (x := a) (show cdA 227 258 = some (.iload_n 1, 1, 0, 0, 0) from rfl) (List.Mem.tail _ (List.Mem.tail _ (List.Mem.head _))) ?_
                refine z_ald X 229 (show cdA 227 259 = some (.iaload, 1, 0, 0, 0) from rfl) (by decide) rfl (by first | exact hi.1.1 | omega) (show a < 12 by first | exact oq_0ddfcfee hi.1.2.2 | omega) (by decide) ?_
                have b2019 : (0 : Int) ≤ iC t 203 (a).toNat ∧ iC t 203 (a).toNat ≤ 50 := I.2 203 _ (show (a).toNat < 12 by first | exact oq_9c5fa447 hi.1.2.2 | omega)
                refine z_goto X (t := 270) (show cdA 227 260 = some (.goto 10, 3, 0, 0, 0) from rfl) (by decide) ?_
                refine z_add X (show cdA 227 270 = some (.iadd, 1, 0, 0, 0) from rfl) ?_
                refine z_ast X 184 (show cdA 227 271 = some (.iastore, 1, 0, 0, 0) from rfl) (by decide) rfl (by decide) (show 1 < 7 by decide) (by decide) ?_
                obtain ⟨s2020, hs2020⟩ : ∃ x0, x0 = uC t 161 (1 : Int).toNat (Int32.ofInt ((iC t 161 (1 : Int).toNat) + (iC t 203 (a).toNat))) := ⟨_, rfl⟩
                rw [← hs2020]
                have Is2020 : Bd s2020 := by rw [hs2020]; exact bd_C I (show ((-2147483648) : Int) ≤ ((iC t 161 (1 : Int).toNat) + (iC t 203 (a).toNat)) ∧ ((iC t 161 (1 : Int).toNat) + (iC t 203 (a).toNat)) ≤ 2147483647 by first | exact ⟨oq_6020a751 b2013.1 b2019.1, by omega⟩ | omega) ⟨by first | exact oq_6020a751 b2013.1 b2019.1 | omega, by omega⟩
                have Fs2020 := fm_C (i := (1 : Int).toNat) (x := Int32.ofInt ((iC t 161 (1 : Int).toNat) + (iC t 203 (a).toNat))) F (show 161 ∈ _ by decide)
                rw [← hs2020] at Fs2020
                have ws2020_90 : iI s2020 90 = iI t 90 := by rw [hs2020]; rfl
                have fs2020 : Fm [] [161] t s2020 := by rw [hs2020]; exact fm_C (fm_rf _ _ _) (show 161 ∈ _ by decide)
                have JNW_s2020 : NW s2020 := NW_fm fs2020 (by decide) jjNW
                have JNWL_s2020 : NWL s2020 := NWL_fm fs2020 (by decide) jjNWL
                refine z_inc X (x := b) (lv' := [(5, .int (Int32.ofInt (b + 1))), (6, .int (Int32.ofInt (iC t (216 + (b : Int).toNat) (c : Int).toNat))), (0, .ref (A 179)), (1, .int (Int32.ofInt a)), (2, .int (Int32.ofInt iz)), (3, .int (Int32.ofInt ka)), (4, .int (Int32.ofInt c))]) (show cdA 227 272 = some (.iinc 5 1, 3, 0, 0, 0) from rfl) (by decide) (List.Mem.tail _ (List.Mem.tail _ (List.Mem.tail _ (List.Mem.tail _ (List.Mem.tail _ (List.Mem.tail _ (List.Mem.head _))))))) (fun _ h => h) ?_
                refine z_goto X (t := 177) (show cdA 227 275 = some (.goto (-98), 3, 0, 0, 0) from rfl) (by decide) ?_
                refine WS_lv (lv := [(0, .ref (A 179)), (1, .int (Int32.ofInt a)), (2, .int (Int32.ofInt iz)), (3, .int (Int32.ofInt ka)), (4, .int (Int32.ofInt c)), (5, .int (Int32.ofInt (b + 1)))]) (List.forall_mem_cons.mpr ⟨(List.Mem.tail _ (List.Mem.tail _ (List.Mem.head _))), (List.forall_mem_cons.mpr ⟨(List.Mem.tail _ (List.Mem.tail _ (List.Mem.tail _ (List.Mem.head _)))), (List.forall_mem_cons.mpr ⟨(List.Mem.tail _ (List.Mem.tail _ (List.Mem.tail _ (List.Mem.tail _ (List.Mem.head _))))), (List.forall_mem_cons.mpr ⟨(List.Mem.tail _ (List.Mem.tail _ (List.Mem.tail _ (List.Mem.tail _ (List.Mem.tail _ (List.Mem.head _)))))), (List.forall_mem_cons.mpr ⟨(List.Mem.tail _ (List.Mem.tail _ (List.Mem.tail _ (List.Mem.tail _ (List.Mem.tail _ (List.Mem.tail _ (List.Mem.head _))))))), (List.forall_mem_cons.mpr ⟨(List.Mem.head _), (fun q h => absurd h List.not_mem_nil)⟩)⟩)⟩)⟩)⟩)⟩) ?_
                exact ih _ a iz ka c (b + 1) Is2020 Fs2020 JNW_s2020 JNWL_s2020 ⟨lmb_y hq.1 (by omega) hs2020 (ck_1 (by omega) (by rw [← hq.2.1]; unfold inM; have z := (fm_c F (by decide) : iC t 230 (c : Int).toNat = iC s 230 (c : Int).toNat); omega) (hmU.2.mpr (by rw [← hg1, ← hg2]; omega)) (by have z1 := (fm_c F (by decide) : iC t 203 (a : Int).toNat = iC s 203 (a : Int).toNat); have z2 := (fm_c F (by decide) : iC t 203 (b : Int).toNat = iC s 203 (b : Int).toNat); show _ = min (iC s 203 (a : Int).toNat) (iC s 203 (b : Int).toNat); omega)) (by have z1 := I.2 203 (a : Int).toNat (show (a : Int).toNat < 12 by omega); have z2 := I.2 203 (b : Int).toNat (show (b : Int).toNat < 12 by omega); replace z1 : 0 ≤ iC t 203 (a : Int).toNat ∧ iC t 203 (a : Int).toNat ≤ 50 := z1; replace z2 : 0 ≤ iC t 203 (b : Int).toNat ∧ iC t 203 (b : Int).toNat ≤ 50 := z2; exact ⟨by omega, by omega⟩), hq.2⟩ (by first | exact ⟨And.intro (hi.1.1) (And.intro (hi.1.2.1) (hi.1.2.2)), hi.2.1, And.intro (hi.2.2.1.1) (And.intro (hi.2.2.1.2.1) (hi.2.2.1.2.2)), And.intro (hi.2.2.2.1.1) (hi.2.2.2.1.2), And.intro (oq_c88d0a11 hi.2.2.2.2.1.1) (oq_8a89b3ae g2003 hi.2.2.2.2.2), oq_1aa5be9e ws2020_90 hi.2.2.2.2.2⟩ | omega) (by first | exact qk_me hm (by decide) (oq_b575e8c1 g2003 b2002.2) | omega) kx
  have L35 : ∀ (n : Nat) (t : PS) (a iz ka : Int), Bd t → Fm [] [161] s t → NW t → NWL t → (LMK s a ka iz t) → ((0 ≤ a ∧ a < iI s 90 ∧ a ≤ 11) ∧ (iz = 0 ∨ iz = 1) ∧ (0 ≤ ka ∧ ka ≤ iC s 202 (a : Int).toNat ∧ ka ≤ 24) ∧ iI t 90 = iI s 90) → (24 - ka : Int).toNat < n → (∀ (t' : PS) (iz' ka' : Int), Bd t' → Fm [] [161] s t' → NW t' → NWL t' → (LMK s a ka' iz' t') → ((0 ≤ a ∧ a < iI s 90 ∧ a ≤ 11) ∧ (iz' = 0 ∨ iz' = 1) ∧ (ka' = iC s 202 (a : Int).toNat ∧ 0 ≤ ka') ∧ iI t' 90 = iI s 90) → WS k 284 [(0, .ref (A 179)), (1, .int (Int32.ofInt a)), (2, .int (Int32.ofInt iz')), (3, .int (Int32.ofInt ka'))] [] (Wd A dT t') 0 0) → WS k 35 [(0, .ref (A 179)), (1, .int (Int32.ofInt a)), (2, .int (Int32.ofInt iz)), (3, .int (Int32.ofInt ka))] [] (Wd A dT t) 0 0 := by
    intro n
    induction n with
    | zero =>
      intro t a iz ka I F jjNW jjNWL hq hi hm kx
      exact absurd hm (Nat.not_lt_zero _)
    | succ n ih =>
      intro t a iz ka I F jjNW jjNWL hq hi hm kx
      have b3001 : (0 : Int) ≤ iI t 90 ∧ iI t 90 ≤ 12 := I.1 90
      refine z_load_n X (x := ka) (show cdA 227 35 = some (.iload_n 3, 1, 0, 0, 0) from rfl) (List.Mem.tail _ (List.Mem.tail _ (List.Mem.tail _ (List.Mem.head _)))) ?_
      refine z_aload_n X (x := A 179) (show cdA 227 36 = some (.aload_n 0, 1, 0, 0, 0) from rfl) (List.Mem.head _) ?_
      refine s_getR X 179 (show cdA 227 37 = some (.getfield 58, 3, 12, 31, 0) from rfl) (by decide) rfl rfl ?_
      refine z_load_n X (x := a) (show cdA 227 40 = some (.iload_n 1, 1, 0, 0, 0) from rfl) (List.Mem.tail _ (List.Mem.head _)) ?_
      refine z_ald X 228 (show cdA 227 41 = some (.iaload, 1, 0, 0, 0) from rfl) (by decide) rfl (by first | exact hi.1.1 | omega) (show a < 12 by first | exact oq_0ddfcfee hi.1.2.2 | omega) (by decide) ?_
      have b3002 : (0 : Int) ≤ iC t 202 (a).toNat ∧ iC t 202 (a).toNat ≤ 24 := I.2 202 _ (show (a).toNat < 12 by first | exact oq_9c5fa447 hi.1.2.2 | omega)
      have q3003 := (fm_c F (by decide) : iC t 202 (a : Int).toNat = iC s 202 (a : Int).toNat)
      have q3004 := hMy (a : Int).toNat (by omega)
      refine z_icmp_ge X (t := 284) (show cdA 227 42 = some (.if_icmp .ge 242, 3, 3, 0, 0) from rfl) (by decide) ⟨by first | exact oq_fa4e5087 hi.2.2.1.1 | omega, by first | exact oq_5bcd337f hi.2.2.1.2.2 | omega⟩ (rng_to _) (fun g3005 => ?_) (fun g3005 => ?_)
      ·
        refine WS_lv (lv := [(0, .ref (A 179)), (1, .int (Int32.ofInt a)), (2, .int (Int32.ofInt iz)), (3, .int (Int32.ofInt ka))]) (List.forall_mem_cons.mpr ⟨(List.Mem.head _), (List.forall_mem_cons.mpr ⟨(List.Mem.tail _ (List.Mem.head _)), (List.forall_mem_cons.mpr ⟨(List.Mem.tail _ (List.Mem.tail _ (List.Mem.head _))), (List.forall_mem_cons.mpr ⟨(List.Mem.tail _ (List.Mem.tail _ (List.Mem.tail _ (List.Mem.head _)))), (fun q h => absurd h List.not_mem_nil)⟩)⟩)⟩)⟩) ?_
        exact kx _ iz ka I F jjNW jjNWL hq (by first | exact ⟨And.intro (hi.1.1) (And.intro (hi.1.2.1) (hi.1.2.2)), hi.2.1, by omega, hi.2.2.2⟩ | omega)
      ·
        refine z_aload_n X (x := A 179) (show cdA 227 45 = some (.aload_n 0, 1, 0, 0, 0) from rfl) (List.Mem.head _) ?_
        refine s_getR X 179 (show cdA 227 46 = some (.getfield 64, 3, 12, 33, 0) from rfl) (by decide) rfl rfl ?_
        refine z_load_n X (x := a) (show cdA 227 49 = some (.iload_n 1, 1, 0, 0, 0) from rfl) (List.Mem.tail _ (List.Mem.head _)) ?_
        refine z_aald X rw_230 (show cdA 227 50 = some (.aaload, 1, 0, 0, 0) from rfl) (by first | exact hi.1.1 | omega) (show a < 12 by first | exact oq_0ddfcfee hi.1.2.2 | omega) (by decide) ?_
        refine z_load_n X (x := ka) (show cdA 227 51 = some (.iload_n 3, 1, 0, 0, 0) from rfl) (List.Mem.tail _ (List.Mem.tail _ (List.Mem.tail _ (List.Mem.head _)))) ?_
        refine z_ald2 X rw_230 (show cdA 227 52 = some (.iaload, 1, 0, 0, 0) from rfl) (show (a : Int).toNat < 12 by first | exact oq_9c5fa447 hi.1.2.2 | omega) (by first | exact hi.2.2.1.1 | omega) (show ka < 24 by first | exact oq_8ff7beb9 g3005 b3002.2 | omega) (by decide) ?_
        have b3006 : (0 : Int) ≤ (iC t (204 + (a : Int).toNat) (ka : Int).toNat) ∧ (iC t (204 + (a : Int).toNat) (ka : Int).toNat) ≤ 127 := rw_bd rw_230 I (show (a : Int).toNat < 12 by first | exact oq_9c5fa447 hi.1.2.2 | omega) (show (ka : Int).toNat < 24 by first | exact oq_9e668fc9 g3005 b3002.2 | omega)
        refine z_store X (lv' := [(4, .int (Int32.ofInt (iC t (204 + (a : Int).toNat) (ka : Int).toNat))), (0, .ref (A 179)), (1, .int (Int32.ofInt a)), (2, .int (Int32.ofInt iz)), (3, .int (Int32.ofInt ka))]) (show cdA 227 53 = some (.istore 4, 2, 0, 0, 0) from rfl) (by decide) (fun _ h => h) ?_
        have hcW : (iC t (204 + (a : Int).toNat) (ka : Int).toNat) = (fwM s (a : Int).toNat) (ka : Int).toNat := by show (iC t (204 + (a : Int).toNat) (ka : Int).toNat) = iC s (204 + (a : Int).toNat) (ka : Int).toNat; exact fm_c F (fun h => by have := List.mem_singleton.mp h; omega)
        refine z_load_n X (x := iz) (show cdA 227 55 = some (.iload_n 2, 1, 0, 0, 0) from rfl) (List.Mem.tail _ (List.Mem.tail _ (List.Mem.tail _ (List.Mem.head _)))) ?_
        refine z_if_ne X (t := 69) (show cdA 227 56 = some (.ifCond .ne 13, 3, 1, 0, 0) from rfl) (by decide) ⟨by first | exact oq_bde653e9 hi.2.1 | omega, by first | exact oq_4ad2cb8b hi.2.1 | omega⟩ (fun g3007 => ?_) (fun g3007 => ?_)
        ·
          refine z_const X (show cdA 227 69 = some (.iconst 1, 1, 0, 0, 0) from rfl) ?_
          refine z_goto X (t := 74) (show cdA 227 70 = some (.goto 4, 3, 0, 0, 0) from rfl) (by decide) ?_
          refine z_store_n X (lv' := [(2, .int (Int32.ofInt 1)), (4, .int (Int32.ofInt (iC t (204 + (a : Int).toNat) (ka : Int).toNat))), (0, .ref (A 179)), (1, .int (Int32.ofInt a)), (3, .int (Int32.ofInt ka))]) (show cdA 227 74 = some (.istore_n 2, 1, 0, 0, 0) from rfl) (by decide) (fun _ h => h) ?_
          have hIZ : 1 = i01 (∃ j : Nat, j < (ka + 1).toNat ∧ inM s (fwM s (a : Int).toNat j)) := iz_up hq.1 (by omega) (by rw [← hcW]; unfold inM; have z := (fm_c F (by decide) : iC t 230 ((iC t (204 + (a : Int).toNat) (ka : Int).toNat) : Int).toNat = iC s 230 ((iC t (204 + (a : Int).toNat) (ka : Int).toNat) : Int).toNat); omega)
          refine z_load_n X (x := ka) (show cdA 227 75 = some (.iload_n 3, 1, 0, 0, 0) from rfl) (List.Mem.tail _ (List.Mem.tail _ (List.Mem.tail _ (List.Mem.tail _ (List.Mem.head _))))) ?_
          refine z_if_le X (t := 172) (show cdA 227 76 = some (.ifCond .le 96, 3, 5, 0, 0) from rfl) (by decide) ⟨by first | exact oq_fa4e5087 hi.2.2.1.1 | omega, by first | exact oq_5bcd337f hi.2.2.1.2.2 | omega⟩ (fun g3008 => ?_) (fun g3008 => ?_)
          ·
            refine z_load_n X (x := a) (show cdA 227 172 = some (.iload_n 1, 1, 0, 0, 0) from rfl) (List.Mem.tail _ (List.Mem.tail _ (List.Mem.tail _ (List.Mem.head _)))) ?_
            refine z_const X (show cdA 227 173 = some (.iconst 1, 1, 0, 0, 0) from rfl) ?_
            refine z_add X (show cdA 227 174 = some (.iadd, 1, 0, 0, 0) from rfl) ?_
            refine z_store X (lv' := [(5, .int (Int32.ofInt (a + 1))), (2, .int (Int32.ofInt 1)), (4, .int (Int32.ofInt (iC t (204 + (a : Int).toNat) (ka : Int).toNat))), (0, .ref (A 179)), (1, .int (Int32.ofInt a)), (3, .int (Int32.ofInt ka))]) (show cdA 227 175 = some (.istore 5, 2, 0, 0, 0) from rfl) (by decide) (fun _ h => h) ?_
            refine WS_lv (lv := [(0, .ref (A 179)), (1, .int (Int32.ofInt a)), (2, .int (Int32.ofInt 1)), (3, .int (Int32.ofInt ka)), (4, .int (Int32.ofInt (iC t (204 + (a : Int).toNat) (ka : Int).toNat))), (5, .int (Int32.ofInt (a + 1)))]) (List.forall_mem_cons.mpr ⟨(List.Mem.tail _ (List.Mem.tail _ (List.Mem.tail _ (List.Mem.head _)))), (List.forall_mem_cons.mpr ⟨(List.Mem.tail _ (List.Mem.tail _ (List.Mem.tail _ (List.Mem.tail _ (List.Mem.head _))))), (List.forall_mem_cons.mpr ⟨(List.Mem.tail _ (List.Mem.head _)), (List.forall_mem_cons.mpr ⟨(List.Mem.tail _ (List.Mem.tail _ (List.Mem.tail _ (List.Mem.tail _ (List.Mem.tail _ (List.Mem.head _)))))), (List.forall_mem_cons.mpr ⟨(List.Mem.tail _ (List.Mem.tail _ (List.Mem.head _))), (List.forall_mem_cons.mpr ⟨(List.Mem.head _), (fun q h => absurd h List.not_mem_nil)⟩)⟩)⟩)⟩)⟩)⟩) ?_
            refine L177 ((12 - (a + 1) : Int).toNat + 1) t a 1 ka (iC t (204 + (a : Int).toNat) (ka : Int).toNat) (a + 1) I F jjNW jjNWL ⟨lmb_0 hq.2 (by omega) (by rw [show ka = 0 by omega]; rfl) (by rw [show ka = 0 by omega]; rfl), hcW, hIZ⟩ (by first | exact ⟨And.intro (hi.1.1) (And.intro (hi.1.2.1) (hi.1.2.2)), Or.inr (by decide), by omega, And.intro (b3006.1) (b3006.2), And.intro (by decide) (oq_afc84a8d hi.1.2.1), hi.2.2.2⟩ | omega) (Nat.lt_succ_self _) ?_
            intro s3009 x3010 Is3009 Fs3009 JNW_s3009 JNWL_s3009 Qs3009 hs3009
            have b3011 : (0 : Int) ≤ iI s3009 90 ∧ iI s3009 90 ≤ 12 := Is3009.1 90
            refine z_inc X (x := ka) (lv' := [(3, .int (Int32.ofInt (ka + 1))), (0, .ref (A 179)), (1, .int (Int32.ofInt a)), (2, .int (Int32.ofInt 1)), (4, .int (Int32.ofInt (iC t (204 + (a : Int).toNat) (ka : Int).toNat))), (5, .int (Int32.ofInt x3010))]) (show cdA 227 278 = some (.iinc 3 1, 3, 0, 0, 0) from rfl) (by decide) (List.Mem.tail _ (List.Mem.tail _ (List.Mem.tail _ (List.Mem.head _)))) (fun _ h => h) ?_
            refine z_goto X (t := 35) (show cdA 227 281 = some (.goto (-246), 3, 0, 0, 0) from rfl) (by decide) ?_
            refine WS_lv (lv := [(0, .ref (A 179)), (1, .int (Int32.ofInt a)), (2, .int (Int32.ofInt 1)), (3, .int (Int32.ofInt (ka + 1)))]) (List.forall_mem_cons.mpr ⟨(List.Mem.tail _ (List.Mem.head _)), (List.forall_mem_cons.mpr ⟨(List.Mem.tail _ (List.Mem.tail _ (List.Mem.head _))), (List.forall_mem_cons.mpr ⟨(List.Mem.tail _ (List.Mem.tail _ (List.Mem.tail _ (List.Mem.head _)))), (List.forall_mem_cons.mpr ⟨(List.Mem.head _), (fun q h => absurd h List.not_mem_nil)⟩)⟩)⟩)⟩) ?_
            exact ih _ a 1 (ka + 1) Is3009 Fs3009 JNW_s3009 JNWL_s3009 (lmk_up Qs3009.1 rfl (by omega) Qs3009.2.2) (by first | exact ⟨And.intro (hs3009.1.1) (And.intro (hs3009.1.2.1) (hs3009.1.2.2)), hs3009.2.1, And.intro (oq_54f49eb5 hs3009.2.2.1.1) (And.intro (oq_afc84a8d hs3009.2.2.1.2.1) (oq_3d4d89a6 hs3009.2.2.1.2.2)), hs3009.2.2.2⟩ | omega) (by first | exact qk_me hm (by decide) (oq_fa9b5cb9 hs3009.2.2.1.2.2) | omega) kx
          ·
            refine z_aload_n X (x := A 179) (show cdA 227 79 = some (.aload_n 0, 1, 0, 0, 0) from rfl) (List.Mem.tail _ (List.Mem.tail _ (List.Mem.head _))) ?_
            refine s_getR X 179 (show cdA 227 80 = some (.getfield 76, 3, 12, 37, 0) from rfl) (by decide) rfl rfl ?_
            refine z_aload_n X (x := A 179) (show cdA 227 83 = some (.aload_n 0, 1, 0, 0, 0) from rfl) (List.Mem.tail _ (List.Mem.tail _ (List.Mem.head _))) ?_
            refine s_getR X 179 (show cdA 227 84 = some (.getfield 64, 3, 12, 33, 0) from rfl) (by decide) rfl rfl ?_
            refine z_load_n X (x := a) (show cdA 227 87 = some (.iload_n 1, 1, 0, 0, 0) from rfl) (List.Mem.tail _ (List.Mem.tail _ (List.Mem.tail _ (List.Mem.head _)))) ?_
            refine z_aald X rw_230 (show cdA 227 88 = some (.aaload, 1, 0, 0, 0) from rfl) (by first | exact hi.1.1 | omega) (show a < 12 by first | exact oq_0ddfcfee hi.1.2.2 | omega) (by decide) ?_
            refine z_load_n X (x := ka) (show cdA 227 89 = some (.iload_n 3, 1, 0, 0, 0) from rfl) (List.Mem.tail _ (List.Mem.tail _ (List.Mem.tail _ (List.Mem.tail _ (List.Mem.head _))))) ?_
            refine z_const X (show cdA 227 90 = some (.iconst 1, 1, 0, 0, 0) from rfl) ?_
            refine z_sub X (show cdA 227 91 = some (.isub, 1, 0, 0, 0) from rfl) ?_
            refine z_ald2 X rw_230 (show cdA 227 92 = some (.iaload, 1, 0, 0, 0) from rfl) (show (a : Int).toNat < 12 by first | exact oq_9c5fa447 hi.1.2.2 | omega) (by first | exact oq_a4f22177 g3008 | omega) (show (ka - 1) < 24 by first | exact oq_19cb6f5b hi.2.2.1.2.2 | omega) (by decide) ?_
            have b3012 : (0 : Int) ≤ (iC t (204 + (a : Int).toNat) ((ka - 1) : Int).toNat) ∧ (iC t (204 + (a : Int).toNat) ((ka - 1) : Int).toNat) ≤ 127 := rw_bd rw_230 I (show (a : Int).toNat < 12 by first | exact oq_9c5fa447 hi.1.2.2 | omega) (show ((ka - 1) : Int).toNat < 24 by first | exact oq_f976b25c hi.2.2.1.2.2 | omega)
            refine z_zald X 258 (show cdA 227 93 = some (.baload, 1, 0, 0, 0) from rfl) (by decide) rfl (by first | exact b3012.1 | omega) (show (iC t (204 + (a : Int).toNat) ((ka - 1) : Int).toNat) < 128 by first | exact oq_31b2bf10 b3012.2 | omega) (by decide) ?_
            have b3013 : (0 : Int) ≤ iC t 230 ((iC t (204 + (a : Int).toNat) ((ka - 1) : Int).toNat)).toNat ∧ iC t 230 ((iC t (204 + (a : Int).toNat) ((ka - 1) : Int).toNat)).toNat ≤ 1 := I.2 230 _ (show ((iC t (204 + (a : Int).toNat) ((ka - 1) : Int).toNat)).toNat < 128 by first | exact oq_c7f4e9c1 b3012.2 | omega)
            refine z_store X (lv' := [(5, .int (Int32.ofInt (iC t 230 ((iC t (204 + (a : Int).toNat) ((ka - 1) : Int).toNat)).toNat))), (2, .int (Int32.ofInt 1)), (4, .int (Int32.ofInt (iC t (204 + (a : Int).toNat) (ka : Int).toNat))), (0, .ref (A 179)), (1, .int (Int32.ofInt a)), (3, .int (Int32.ofInt ka))]) (show cdA 227 94 = some (.istore 5, 2, 0, 0, 0) from rfl) (by decide) (fun _ h => h) ?_
            have hcP : iC t (204 + (a : Int).toNat) (ka - 1).toNat = fwM s (a : Int).toNat (ka - 1).toNat := fm_c F (fun h => by have := List.mem_singleton.mp h; omega)
            have hS1 : inM s (fwM s (a : Int).toNat (ka - 1).toNat) ↔ (iC t 230 ((iC t (204 + (a : Int).toNat) ((ka - 1) : Int).toNat)).toNat) ≠ 0 := by rw [← hcP]; unfold inM; rw [← (fm_c F (by decide) : iC t 230 _ = iC s 230 _)]
            have hS2 : inM s (fwM s (a : Int).toNat (ka : Int).toNat) ↔ iC t 230 ((iC t (204 + (a : Int).toNat) (ka : Int).toNat) : Int).toNat ≠ 0 := by rw [← hcW]; unfold inM; rw [← (fm_c F (by decide) : iC t 230 _ = iC s 230 _)]
            refine z_load X (x := (iC t 230 ((iC t (204 + (a : Int).toNat) ((ka - 1) : Int).toNat)).toNat)) (show cdA 227 96 = some (.iload 5, 2, 0, 0, 0) from rfl) (List.Mem.head _) ?_
            refine z_aload_n X (x := A 179) (show cdA 227 98 = some (.aload_n 0, 1, 0, 0, 0) from rfl) (List.Mem.tail _ (List.Mem.tail _ (List.Mem.tail _ (List.Mem.head _)))) ?_
            refine s_getR X 179 (show cdA 227 99 = some (.getfield 76, 3, 12, 37, 0) from rfl) (by decide) rfl rfl ?_
            refine z_load X (x := (iC t (204 + (a : Int).toNat) (ka : Int).toNat)) (show cdA 227 102 = some (.iload 4, 2, 0, 0, 0) from rfl) (List.Mem.tail _ (List.Mem.tail _ (List.Mem.head _))) ?_
            refine z_zald X 258 (show cdA 227 104 = some (.baload, 1, 0, 0, 0) from rfl) (by decide) rfl (by first | exact b3006.1 | omega) (show (iC t (204 + (a : Int).toNat) (ka : Int).toNat) < 128 by first | exact oq_31b2bf10 b3006.2 | omega) (by decide) ?_
            have b3014 : (0 : Int) ≤ iC t 230 ((iC t (204 + (a : Int).toNat) (ka : Int).toNat)).toNat ∧ iC t 230 ((iC t (204 + (a : Int).toNat) (ka : Int).toNat)).toNat ≤ 1 := I.2 230 _ (show ((iC t (204 + (a : Int).toNat) (ka : Int).toNat)).toNat < 128 by first | exact oq_c7f4e9c1 b3006.2 | omega)
            refine z_icmp_eq X (t := 123) (show cdA 227 105 = some (.if_icmp .eq 18, 3, 0, 0, 0) from rfl) (by decide) (rng_to _) (rng_to _) (fun g3015 => ?_) (fun g3015 => ?_)
            ·
              refine z_load X (x := (iC t 230 ((iC t (204 + (a : Int).toNat) ((ka - 1) : Int).toNat)).toNat)) (show cdA 227 123 = some (.iload 5, 2, 0, 0, 0) from rfl) (List.Mem.head _) ?_
              refine z_if_eq X (t := 172) (show cdA 227 125 = some (.ifCond .eq 47, 3, 0, 0, 0) from rfl) (by decide) (rng_to _) (fun g3016 => ?_) (fun g3016 => ?_)
              ·
                refine z_load_n X (x := a) (show cdA 227 172 = some (.iload_n 1, 1, 0, 0, 0) from rfl) (List.Mem.tail _ (List.Mem.tail _ (List.Mem.tail _ (List.Mem.tail _ (List.Mem.head _))))) ?_
                refine z_const X (show cdA 227 173 = some (.iconst 1, 1, 0, 0, 0) from rfl) ?_
                refine z_add X (show cdA 227 174 = some (.iadd, 1, 0, 0, 0) from rfl) ?_
                refine z_store X (lv' := [(5, .int (Int32.ofInt (a + 1))), (2, .int (Int32.ofInt 1)), (4, .int (Int32.ofInt (iC t (204 + (a : Int).toNat) (ka : Int).toNat))), (0, .ref (A 179)), (1, .int (Int32.ofInt a)), (3, .int (Int32.ofInt ka))]) (show cdA 227 175 = some (.istore 5, 2, 0, 0, 0) from rfl) (by decide) (fun _ h => h) ?_
                refine WS_lv (lv := [(0, .ref (A 179)), (1, .int (Int32.ofInt a)), (2, .int (Int32.ofInt 1)), (3, .int (Int32.ofInt ka)), (4, .int (Int32.ofInt (iC t (204 + (a : Int).toNat) (ka : Int).toNat))), (5, .int (Int32.ofInt (a + 1)))]) (List.forall_mem_cons.mpr ⟨(List.Mem.tail _ (List.Mem.tail _ (List.Mem.tail _ (List.Mem.head _)))), (List.forall_mem_cons.mpr ⟨(List.Mem.tail _ (List.Mem.tail _ (List.Mem.tail _ (List.Mem.tail _ (List.Mem.head _))))), (List.forall_mem_cons.mpr ⟨(List.Mem.tail _ (List.Mem.head _)), (List.forall_mem_cons.mpr ⟨(List.Mem.tail _ (List.Mem.tail _ (List.Mem.tail _ (List.Mem.tail _ (List.Mem.tail _ (List.Mem.head _)))))), (List.forall_mem_cons.mpr ⟨(List.Mem.tail _ (List.Mem.tail _ (List.Mem.head _))), (List.forall_mem_cons.mpr ⟨(List.Mem.head _), (fun q h => absurd h List.not_mem_nil)⟩)⟩)⟩)⟩)⟩)⟩) ?_
                refine L177 ((12 - (a + 1) : Int).toNat + 1) t a 1 ka (iC t (204 + (a : Int).toNat) (ka : Int).toNat) (a + 1) I F jjNW jjNWL ⟨lmb_0 hq.2 (by omega) (ov_s0 (by omega) (by rw [hS1, hS2]; omega)) (cl_s0 (by omega) (by rw [hS1, hS2]; omega)), hcW, hIZ⟩ (by first | exact ⟨And.intro (hi.1.1) (And.intro (hi.1.2.1) (hi.1.2.2)), Or.inr (by decide), by omega, And.intro (b3006.1) (b3006.2), And.intro (by decide) (oq_afc84a8d hi.1.2.1), hi.2.2.2⟩ | omega) (Nat.lt_succ_self _) ?_
                intro s3017 x3018 Is3017 Fs3017 JNW_s3017 JNWL_s3017 Qs3017 hs3017
                have b3019 : (0 : Int) ≤ iI s3017 90 ∧ iI s3017 90 ≤ 12 := Is3017.1 90
                refine z_inc X (x := ka) (lv' := [(3, .int (Int32.ofInt (ka + 1))), (0, .ref (A 179)), (1, .int (Int32.ofInt a)), (2, .int (Int32.ofInt 1)), (4, .int (Int32.ofInt (iC t (204 + (a : Int).toNat) (ka : Int).toNat))), (5, .int (Int32.ofInt x3018))]) (show cdA 227 278 = some (.iinc 3 1, 3, 0, 0, 0) from rfl) (by decide) (List.Mem.tail _ (List.Mem.tail _ (List.Mem.tail _ (List.Mem.head _)))) (fun _ h => h) ?_
                refine z_goto X (t := 35) (show cdA 227 281 = some (.goto (-246), 3, 0, 0, 0) from rfl) (by decide) ?_
                refine WS_lv (lv := [(0, .ref (A 179)), (1, .int (Int32.ofInt a)), (2, .int (Int32.ofInt 1)), (3, .int (Int32.ofInt (ka + 1)))]) (List.forall_mem_cons.mpr ⟨(List.Mem.tail _ (List.Mem.head _)), (List.forall_mem_cons.mpr ⟨(List.Mem.tail _ (List.Mem.tail _ (List.Mem.head _))), (List.forall_mem_cons.mpr ⟨(List.Mem.tail _ (List.Mem.tail _ (List.Mem.tail _ (List.Mem.head _)))), (List.forall_mem_cons.mpr ⟨(List.Mem.head _), (fun q h => absurd h List.not_mem_nil)⟩)⟩)⟩)⟩) ?_
                exact ih _ a 1 (ka + 1) Is3017 Fs3017 JNW_s3017 JNWL_s3017 (lmk_up Qs3017.1 rfl (by omega) Qs3017.2.2) (by first | exact ⟨And.intro (hs3017.1.1) (And.intro (hs3017.1.2.1) (hs3017.1.2.2)), hs3017.2.1, And.intro (oq_54f49eb5 hs3017.2.2.1.1) (And.intro (oq_afc84a8d hs3017.2.2.1.2.1) (oq_3d4d89a6 hs3017.2.2.1.2.2)), hs3017.2.2.2⟩ | omega) (by first | exact qk_me hm (by decide) (oq_fa9b5cb9 hs3017.2.2.1.2.2) | omega) kx
              ·
                refine z_aload_n X (x := A 179) (show cdA 227 128 = some (.aload_n 0, 1, 0, 0, 0) from rfl) (List.Mem.tail _ (List.Mem.tail _ (List.Mem.tail _ (List.Mem.head _)))) ?_
                refine s_getR X 179 (show cdA 227 129 = some (.getfield 76, 3, 12, 37, 0) from rfl) (by decide) rfl rfl ?_
                refine z_load X (x := (iC t (204 + (a : Int).toNat) (ka : Int).toNat)) (show cdA 227 132 = some (.iload 4, 2, 0, 0, 0) from rfl) (List.Mem.tail _ (List.Mem.tail _ (List.Mem.head _))) ?_
                refine z_zald X 258 (show cdA 227 134 = some (.baload, 1, 0, 0, 0) from rfl) (by decide) rfl (by first | exact b3006.1 | omega) (show (iC t (204 + (a : Int).toNat) (ka : Int).toNat) < 128 by first | exact oq_31b2bf10 b3006.2 | omega) (by decide) ?_
                have b3020 : (0 : Int) ≤ iC t 230 ((iC t (204 + (a : Int).toNat) (ka : Int).toNat)).toNat ∧ iC t 230 ((iC t (204 + (a : Int).toNat) (ka : Int).toNat)).toNat ≤ 1 := I.2 230 _ (show ((iC t (204 + (a : Int).toNat) (ka : Int).toNat)).toNat < 128 by first | exact oq_c7f4e9c1 b3006.2 | omega)
                refine z_if_eq X (t := 172) (show cdA 227 135 = some (.ifCond .eq 37, 3, 0, 0, 0) from rfl) (by decide) (rng_to _) (fun g3021 => ?_) (fun g3021 => ?_)
                ·
                  refine z_load_n X (x := a) (show cdA 227 172 = some (.iload_n 1, 1, 0, 0, 0) from rfl) (List.Mem.tail _ (List.Mem.tail _ (List.Mem.tail _ (List.Mem.tail _ (List.Mem.head _))))) ?_
                  refine z_const X (show cdA 227 173 = some (.iconst 1, 1, 0, 0, 0) from rfl) ?_
                  refine z_add X (show cdA 227 174 = some (.iadd, 1, 0, 0, 0) from rfl) ?_
                  refine z_store X (lv' := [(5, .int (Int32.ofInt (a + 1))), (2, .int (Int32.ofInt 1)), (4, .int (Int32.ofInt (iC t (204 + (a : Int).toNat) (ka : Int).toNat))), (0, .ref (A 179)), (1, .int (Int32.ofInt a)), (3, .int (Int32.ofInt ka))]) (show cdA 227 175 = some (.istore 5, 2, 0, 0, 0) from rfl) (by decide) (fun _ h => h) ?_
                  refine WS_lv (lv := [(0, .ref (A 179)), (1, .int (Int32.ofInt a)), (2, .int (Int32.ofInt 1)), (3, .int (Int32.ofInt ka)), (4, .int (Int32.ofInt (iC t (204 + (a : Int).toNat) (ka : Int).toNat))), (5, .int (Int32.ofInt (a + 1)))]) (List.forall_mem_cons.mpr ⟨(List.Mem.tail _ (List.Mem.tail _ (List.Mem.tail _ (List.Mem.head _)))), (List.forall_mem_cons.mpr ⟨(List.Mem.tail _ (List.Mem.tail _ (List.Mem.tail _ (List.Mem.tail _ (List.Mem.head _))))), (List.forall_mem_cons.mpr ⟨(List.Mem.tail _ (List.Mem.head _)), (List.forall_mem_cons.mpr ⟨(List.Mem.tail _ (List.Mem.tail _ (List.Mem.tail _ (List.Mem.tail _ (List.Mem.tail _ (List.Mem.head _)))))), (List.forall_mem_cons.mpr ⟨(List.Mem.tail _ (List.Mem.tail _ (List.Mem.head _))), (List.forall_mem_cons.mpr ⟨(List.Mem.head _), (fun q h => absurd h List.not_mem_nil)⟩)⟩)⟩)⟩)⟩)⟩) ?_
                  refine L177 ((12 - (a + 1) : Int).toNat + 1) t a 1 ka (iC t (204 + (a : Int).toNat) (ka : Int).toNat) (a + 1) I F jjNW jjNWL ⟨lmb_0 hq.2 (by omega) (ov_s0 (by omega) (by rw [hS1, hS2]; omega)) (cl_s0 (by omega) (by rw [hS1, hS2]; omega)), hcW, hIZ⟩ (by first | exact ⟨And.intro (hi.1.1) (And.intro (hi.1.2.1) (hi.1.2.2)), Or.inr (by decide), oq_43e56444 g3021 g3016 g3015 b3013.1, And.intro (b3006.1) (b3006.2), And.intro (by decide) (oq_afc84a8d hi.1.2.1), hi.2.2.2⟩ | omega) (Nat.lt_succ_self _) ?_
                  intro s3022 x3023 Is3022 Fs3022 JNW_s3022 JNWL_s3022 Qs3022 hs3022
                  have b3024 : (0 : Int) ≤ iI s3022 90 ∧ iI s3022 90 ≤ 12 := Is3022.1 90
                  refine z_inc X (x := ka) (lv' := [(3, .int (Int32.ofInt (ka + 1))), (0, .ref (A 179)), (1, .int (Int32.ofInt a)), (2, .int (Int32.ofInt 1)), (4, .int (Int32.ofInt (iC t (204 + (a : Int).toNat) (ka : Int).toNat))), (5, .int (Int32.ofInt x3023))]) (show cdA 227 278 = some (.iinc 3 1, 3, 0, 0, 0) from rfl) (by decide) (List.Mem.tail _ (List.Mem.tail _ (List.Mem.tail _ (List.Mem.head _)))) (fun _ h => h) ?_
                  refine z_goto X (t := 35) (show cdA 227 281 = some (.goto (-246), 3, 0, 0, 0) from rfl) (by decide) ?_
                  refine WS_lv (lv := [(0, .ref (A 179)), (1, .int (Int32.ofInt a)), (2, .int (Int32.ofInt 1)), (3, .int (Int32.ofInt (ka + 1)))]) (List.forall_mem_cons.mpr ⟨(List.Mem.tail _ (List.Mem.head _)), (List.forall_mem_cons.mpr ⟨(List.Mem.tail _ (List.Mem.tail _ (List.Mem.head _))), (List.forall_mem_cons.mpr ⟨(List.Mem.tail _ (List.Mem.tail _ (List.Mem.tail _ (List.Mem.head _)))), (List.forall_mem_cons.mpr ⟨(List.Mem.head _), (fun q h => absurd h List.not_mem_nil)⟩)⟩)⟩)⟩) ?_
                  exact ih _ a 1 (ka + 1) Is3022 Fs3022 JNW_s3022 JNWL_s3022 (lmk_up Qs3022.1 rfl (by omega) Qs3022.2.2) (by first | exact ⟨And.intro (hs3022.1.1) (And.intro (hs3022.1.2.1) (hs3022.1.2.2)), hs3022.2.1, And.intro (oq_54f49eb5 hs3022.2.2.1.1) (And.intro (oq_afc84a8d hs3022.2.2.1.2.1) (oq_3d4d89a6 hs3022.2.2.1.2.2)), hs3022.2.2.2⟩ | omega) (by first | exact qk_me hm (by decide) (oq_fa9b5cb9 hs3022.2.2.1.2.2) | omega) kx
                ·
                  refine z_aload_n X (x := A 179) (show cdA 227 138 = some (.aload_n 0, 1, 0, 0, 0) from rfl) (List.Mem.tail _ (List.Mem.tail _ (List.Mem.tail _ (List.Mem.head _)))) ?_
                  refine s_getR X 179 (show cdA 227 139 = some (.getfield 64, 3, 12, 33, 0) from rfl) (by decide) rfl rfl ?_
                  refine z_load_n X (x := a) (show cdA 227 142 = some (.iload_n 1, 1, 0, 0, 0) from rfl) (List.Mem.tail _ (List.Mem.tail _ (List.Mem.tail _ (List.Mem.tail _ (List.Mem.head _))))) ?_
                  refine z_aald X rw_230 (show cdA 227 143 = some (.aaload, 1, 0, 0, 0) from rfl) (by first | exact hi.1.1 | omega) (show a < 12 by first | exact oq_0ddfcfee hi.1.2.2 | omega) (by decide) ?_
                  refine z_load_n X (x := ka) (show cdA 227 144 = some (.iload_n 3, 1, 0, 0, 0) from rfl) (List.Mem.tail _ (List.Mem.tail _ (List.Mem.tail _ (List.Mem.tail _ (List.Mem.tail _ (List.Mem.head _)))))) ?_
                  refine z_const X (show cdA 227 145 = some (.iconst 1, 1, 0, 0, 0) from rfl) ?_
                  refine z_sub X (show cdA 227 146 = some (.isub, 1, 0, 0, 0) from rfl) ?_
                  refine z_ald2 X rw_230 (show cdA 227 147 = some (.iaload, 1, 0, 0, 0) from rfl) (show (a : Int).toNat < 12 by first | exact oq_9c5fa447 hi.1.2.2 | omega) (by first | exact oq_a4f22177 g3008 | omega) (show (ka - 1) < 24 by first | exact oq_19cb6f5b hi.2.2.1.2.2 | omega) (by decide) ?_
                  have b3025 : (0 : Int) ≤ (iC t (204 + (a : Int).toNat) ((ka - 1) : Int).toNat) ∧ (iC t (204 + (a : Int).toNat) ((ka - 1) : Int).toNat) ≤ 127 := rw_bd rw_230 I (show (a : Int).toNat < 12 by first | exact oq_9c5fa447 hi.1.2.2 | omega) (show ((ka - 1) : Int).toNat < 24 by first | exact oq_f976b25c hi.2.2.1.2.2 | omega)
                  refine z_load X (x := (iC t (204 + (a : Int).toNat) (ka : Int).toNat)) (show cdA 227 148 = some (.iload 4, 2, 0, 0, 0) from rfl) (List.Mem.tail _ (List.Mem.tail _ (List.Mem.head _))) ?_
                  refine z_callS X (rm := rmN 225) (As := [.int (Int32.ofInt (iC t (204 + (a : Int).toNat) ((ka - 1) : Int).toNat)), .int (Int32.ofInt (iC t (204 + (a : Int).toNat) (ka : Int).toNat))]) (st := []) (show cdA 227 150 = some (.invokestatic 312, 3, 225, 1, 0) from rfl) rfl (by rw [E.1, E.2.1, E.2.2.1]; exact k_stepOf3 G I (by first | exact ⟨b3025.1, b3025.2⟩ | omega) (by first | exact ⟨b3006.1, b3006.2⟩ | omega)) ⟨by rw [E.2.2.2]; exact (show (rmN 225).frames + 1 ≤ (rmN 227).frames by decide), by rw [E.2.2.2]; exact (show 8 + (mNL (miB 225) + 11) + (rmN 225).locals ≤ (rmN 227).locals by decide), by rw [E.2.2.2]; exact (show 0 + (rmN 225).cells ≤ (rmN 227).cells by decide), by rw [E.2.2.2]; exact (show 0 + (rmN 225).slots ≤ (rmN 227).slots by decide)⟩ (Nat.le_of_ble_eq_true rfl) (fun vv s3026 hq => ?_) (fun ee s3026 hq => ?_)
                  rotate_left
                  · obtain ⟨rfl, e3027, hv, hrs3026, hps3026⟩ := hq; cases hv
                  obtain ⟨rfl, e3027, hv, hrs3026, hps3026⟩ := hq
                  cases hv
                  show WS k 153 [(5, .int (Int32.ofInt (iC t 230 ((iC t (204 + (a : Int).toNat) ((ka - 1) : Int).toNat)).toNat))), (2, .int (Int32.ofInt 1)), (4, .int (Int32.ofInt (iC t (204 + (a : Int).toNat) (ka : Int).toNat))), (0, .ref (A 179)), (1, .int (Int32.ofInt a)), (3, .int (Int32.ofInt ka))] [.int (Int32.ofInt e3027)] (Wd A dT t) 0 0
                  have hcQ : iC t (204 + (a : Int).toNat) (ka - 1).toNat = fwM s (a : Int).toNat (ka - 1).toNat := fm_c F (fun h => by have := List.mem_singleton.mp h; omega)
                  have hGB : e3027 = goB (fwM s (a : Int).toNat (ka - 1).toNat) (fwM s (a : Int).toNat (ka : Int).toNat) := by rw [← hcQ, ← hcW]; exact hps3026.1
                  refine z_const X (show cdA 227 153 = some (.iconst 3, 1, 0, 0, 0) from rfl) ?_
                  refine z_icmp_le X (t := 172) (show cdA 227 154 = some (.if_icmp .le 18, 3, 5, 0, 0) from rfl) (by decide) hrs3026 (by decide) (fun g3028 => ?_) (fun g3028 => ?_)
                  ·
                    refine z_load_n X (x := a) (show cdA 227 172 = some (.iload_n 1, 1, 0, 0, 0) from rfl) (List.Mem.tail _ (List.Mem.tail _ (List.Mem.tail _ (List.Mem.tail _ (List.Mem.head _))))) ?_
                    refine z_const X (show cdA 227 173 = some (.iconst 1, 1, 0, 0, 0) from rfl) ?_
                    refine z_add X (show cdA 227 174 = some (.iadd, 1, 0, 0, 0) from rfl) ?_
                    refine z_store X (lv' := [(5, .int (Int32.ofInt (a + 1))), (2, .int (Int32.ofInt 1)), (4, .int (Int32.ofInt (iC t (204 + (a : Int).toNat) (ka : Int).toNat))), (0, .ref (A 179)), (1, .int (Int32.ofInt a)), (3, .int (Int32.ofInt ka))]) (show cdA 227 175 = some (.istore 5, 2, 0, 0, 0) from rfl) (by decide) (fun _ h => h) ?_
                    refine WS_lv (lv := [(0, .ref (A 179)), (1, .int (Int32.ofInt a)), (2, .int (Int32.ofInt 1)), (3, .int (Int32.ofInt ka)), (4, .int (Int32.ofInt (iC t (204 + (a : Int).toNat) (ka : Int).toNat))), (5, .int (Int32.ofInt (a + 1)))]) (List.forall_mem_cons.mpr ⟨(List.Mem.tail _ (List.Mem.tail _ (List.Mem.tail _ (List.Mem.head _)))), (List.forall_mem_cons.mpr ⟨(List.Mem.tail _ (List.Mem.tail _ (List.Mem.tail _ (List.Mem.tail _ (List.Mem.head _))))), (List.forall_mem_cons.mpr ⟨(List.Mem.tail _ (List.Mem.head _)), (List.forall_mem_cons.mpr ⟨(List.Mem.tail _ (List.Mem.tail _ (List.Mem.tail _ (List.Mem.tail _ (List.Mem.tail _ (List.Mem.head _)))))), (List.forall_mem_cons.mpr ⟨(List.Mem.tail _ (List.Mem.tail _ (List.Mem.head _))), (List.forall_mem_cons.mpr ⟨(List.Mem.head _), (fun q h => absurd h List.not_mem_nil)⟩)⟩)⟩)⟩)⟩)⟩) ?_
                    refine L177 ((12 - (a + 1) : Int).toNat + 1) t a 1 ka (iC t (204 + (a : Int).toNat) (ka : Int).toNat) (a + 1) I F jjNW jjNWL ⟨lmb_0 hq.2 (by omega) (ov_s0 (by omega) (by rw [hS1, hS2]; omega)) (cl_s0 (by omega) (by rw [hS1, hS2, ← hGB]; omega)), hcW, hIZ⟩ (by first | exact ⟨And.intro (hi.1.1) (And.intro (hi.1.2.1) (hi.1.2.2)), Or.inr (by decide), by omega, And.intro (b3006.1) (b3006.2), And.intro (by decide) (oq_afc84a8d hi.1.2.1), hi.2.2.2⟩ | omega) (Nat.lt_succ_self _) ?_
                    intro s3029 x3030 Is3029 Fs3029 JNW_s3029 JNWL_s3029 Qs3029 hs3029
                    have b3031 : (0 : Int) ≤ iI s3029 90 ∧ iI s3029 90 ≤ 12 := Is3029.1 90
                    refine z_inc X (x := ka) (lv' := [(3, .int (Int32.ofInt (ka + 1))), (0, .ref (A 179)), (1, .int (Int32.ofInt a)), (2, .int (Int32.ofInt 1)), (4, .int (Int32.ofInt (iC t (204 + (a : Int).toNat) (ka : Int).toNat))), (5, .int (Int32.ofInt x3030))]) (show cdA 227 278 = some (.iinc 3 1, 3, 0, 0, 0) from rfl) (by decide) (List.Mem.tail _ (List.Mem.tail _ (List.Mem.tail _ (List.Mem.head _)))) (fun _ h => h) ?_
                    refine z_goto X (t := 35) (show cdA 227 281 = some (.goto (-246), 3, 0, 0, 0) from rfl) (by decide) ?_
                    refine WS_lv (lv := [(0, .ref (A 179)), (1, .int (Int32.ofInt a)), (2, .int (Int32.ofInt 1)), (3, .int (Int32.ofInt (ka + 1)))]) (List.forall_mem_cons.mpr ⟨(List.Mem.tail _ (List.Mem.head _)), (List.forall_mem_cons.mpr ⟨(List.Mem.tail _ (List.Mem.tail _ (List.Mem.head _))), (List.forall_mem_cons.mpr ⟨(List.Mem.tail _ (List.Mem.tail _ (List.Mem.tail _ (List.Mem.head _)))), (List.forall_mem_cons.mpr ⟨(List.Mem.head _), (fun q h => absurd h List.not_mem_nil)⟩)⟩)⟩)⟩) ?_
                    exact ih _ a 1 (ka + 1) Is3029 Fs3029 JNW_s3029 JNWL_s3029 (lmk_up Qs3029.1 rfl (by omega) Qs3029.2.2) (by first | exact ⟨And.intro (hs3029.1.1) (And.intro (hs3029.1.2.1) (hs3029.1.2.2)), hs3029.2.1, And.intro (oq_54f49eb5 hs3029.2.2.1.1) (And.intro (oq_afc84a8d hs3029.2.2.1.2.1) (oq_3d4d89a6 hs3029.2.2.1.2.2)), hs3029.2.2.2⟩ | omega) (by first | exact qk_me hm (by decide) (oq_fa9b5cb9 hs3029.2.2.1.2.2) | omega) kx
                  ·
                    refine z_aload_n X (x := A 179) (show cdA 227 157 = some (.aload_n 0, 1, 0, 0, 0) from rfl) (List.Mem.tail _ (List.Mem.tail _ (List.Mem.tail _ (List.Mem.head _)))) ?_
                    refine s_getR X 179 (show cdA 227 158 = some (.getfield 32, 3, 12, 21, 0) from rfl) (by decide) rfl rfl ?_
                    refine z_const X (show cdA 227 161 = some (.iconst 3, 1, 0, 0, 0) from rfl) ?_
                    refine w_dup2_11 X.1 (ax_d X (show cdA 227 162 = some (.dup2, 1, 0, 0, 0) from rfl)) rfl rfl ?_
                    refine z_ald X 184 (show cdA 227 163 = some (.iaload, 1, 0, 0, 0) from rfl) (by decide) rfl (by decide) (show 3 < 7 by decide) (by decide) ?_
                    have b3032 : ((-2147483648) : Int) ≤ iC t 161 (3 : Int).toNat ∧ iC t 161 (3 : Int).toNat ≤ 2147483647 := I.2 161 _ (show (3 : Int).toNat < 7 by first | exact oq_bea6b7ec | omega)
                    refine z_aload_n X (x := A 179) (show cdA 227 164 = some (.aload_n 0, 1, 0, 0, 0) from rfl) (List.Mem.tail _ (List.Mem.tail _ (List.Mem.tail _ (List.Mem.head _)))) ?_
                    refine s_getR X 179 (show cdA 227 165 = some (.getfield 61, 3, 12, 32, 0) from rfl) (by decide) rfl rfl ?_
                    refine z_load_n X (x := a) (show cdA 227 168 = some (.iload_n 1, 1, 0, 0, 0) from rfl) (List.Mem.tail _ (List.Mem.tail _ (List.Mem.tail _ (List.Mem.tail _ (List.Mem.head _))))) ?_
                    refine z_ald X 229 (show cdA 227 169 = some (.iaload, 1, 0, 0, 0) from rfl) (by decide) rfl (by first | exact hi.1.1 | omega) (show a < 12 by first | exact oq_0ddfcfee hi.1.2.2 | omega) (by decide) ?_
                    have b3033 : (0 : Int) ≤ iC t 203 (a).toNat ∧ iC t 203 (a).toNat ≤ 50 := I.2 203 _ (show (a).toNat < 12 by first | exact oq_9c5fa447 hi.1.2.2 | omega)
                    refine z_add X (show cdA 227 170 = some (.iadd, 1, 0, 0, 0) from rfl) ?_
                    have hM3 := (fm_c F (by decide) : iC t 203 (a : Int).toNat = iC s 203 (a : Int).toNat)
                    have hR4 := lm_r (S := inM s) hMo hMy (a := (a : Int).toNat) (k := (ka - 1).toNat) (by omega) (by omega)
                    have hR5 : 0 ≤ iC s 203 (a : Int).toNat ∧ iC s 203 (a : Int).toNat ≤ 50 := hMo (a : Int).toNat (by omega)
                    have hN3 : iC t 161 (3 : Int).toNat = caH (inM s) (WYM s) (moM s) (a : Int).toNat + moM s (a : Int).toNat * clH (inM s) (fwM s (a : Int).toNat) (ka - 1).toNat := hq.2.2.2.2.1
                    refine z_ast X 184 (show cdA 227 171 = some (.iastore, 1, 0, 0, 0) from rfl) (by decide) rfl (by decide) (show 3 < 7 by decide) (by decide) ?_
                    obtain ⟨s3034, hs3034⟩ : ∃ x0, x0 = uC t 161 (3 : Int).toNat (Int32.ofInt ((iC t 161 (3 : Int).toNat) + (iC t 203 (a).toNat))) := ⟨_, rfl⟩
                    rw [← hs3034]
                    have Is3034 : Bd s3034 := by rw [hs3034]; exact bd_C I (show ((-2147483648) : Int) ≤ ((iC t 161 (3 : Int).toNat) + (iC t 203 (a).toNat)) ∧ ((iC t 161 (3 : Int).toNat) + (iC t 203 (a).toNat)) ≤ 2147483647 by first | exact ⟨oq_d82b5a64 b3033.1 b3032.1, by omega⟩ | omega) ⟨by first | exact oq_d82b5a64 b3033.1 b3032.1 | omega, by omega⟩
                    have Fs3034 := fm_C (i := (3 : Int).toNat) (x := Int32.ofInt ((iC t 161 (3 : Int).toNat) + (iC t 203 (a).toNat))) F (show 161 ∈ _ by decide)
                    rw [← hs3034] at Fs3034
                    have ws3034_90 : iI s3034 90 = iI t 90 := by rw [hs3034]; rfl
                    have fs3034 : Fm [] [161] t s3034 := by rw [hs3034]; exact fm_C (fm_rf _ _ _) (show 161 ∈ _ by decide)
                    have JNW_s3034 : NW s3034 := NW_fm fs3034 (by decide) jjNW
                    have JNWL_s3034 : NWL s3034 := NWL_fm fs3034 (by decide) jjNWL
                    refine z_load_n X (x := a) (show cdA 227 172 = some (.iload_n 1, 1, 0, 0, 0) from rfl) (List.Mem.tail _ (List.Mem.tail _ (List.Mem.tail _ (List.Mem.tail _ (List.Mem.head _))))) ?_
                    refine z_const X (show cdA 227 173 = some (.iconst 1, 1, 0, 0, 0) from rfl) ?_
                    refine z_add X (show cdA 227 174 = some (.iadd, 1, 0, 0, 0) from rfl) ?_
                    refine z_store X (lv' := [(5, .int (Int32.ofInt (a + 1))), (2, .int (Int32.ofInt 1)), (4, .int (Int32.ofInt (iC t (204 + (a : Int).toNat) (ka : Int).toNat))), (0, .ref (A 179)), (1, .int (Int32.ofInt a)), (3, .int (Int32.ofInt ka))]) (show cdA 227 175 = some (.istore 5, 2, 0, 0, 0) from rfl) (by decide) (fun _ h => h) ?_
                    refine WS_lv (lv := [(0, .ref (A 179)), (1, .int (Int32.ofInt a)), (2, .int (Int32.ofInt 1)), (3, .int (Int32.ofInt ka)), (4, .int (Int32.ofInt (iC t (204 + (a : Int).toNat) (ka : Int).toNat))), (5, .int (Int32.ofInt (a + 1)))]) (List.forall_mem_cons.mpr ⟨(List.Mem.tail _ (List.Mem.tail _ (List.Mem.tail _ (List.Mem.head _)))), (List.forall_mem_cons.mpr ⟨(List.Mem.tail _ (List.Mem.tail _ (List.Mem.tail _ (List.Mem.tail _ (List.Mem.head _))))), (List.forall_mem_cons.mpr ⟨(List.Mem.tail _ (List.Mem.head _)), (List.forall_mem_cons.mpr ⟨(List.Mem.tail _ (List.Mem.tail _ (List.Mem.tail _ (List.Mem.tail _ (List.Mem.tail _ (List.Mem.head _)))))), (List.forall_mem_cons.mpr ⟨(List.Mem.tail _ (List.Mem.tail _ (List.Mem.head _))), (List.forall_mem_cons.mpr ⟨(List.Mem.head _), (fun q h => absurd h List.not_mem_nil)⟩)⟩)⟩)⟩)⟩)⟩) ?_
                    refine L177 ((12 - (a + 1) : Int).toNat + 1) s3034 a 1 ka (iC t (204 + (a : Int).toNat) (ka : Int).toNat) (a + 1) Is3034 Fs3034 JNW_s3034 JNWL_s3034 ⟨lmb_0 (nm_3 hq.2 hs3034 (by rw [hM3]; exact ⟨by omega, by omega⟩)) (by omega) (ov_s0 (by omega) (by rw [hS1, hS2]; omega)) (by rw [hM3]; exact cl_st (by omega) (Or.inl ⟨rfl, by rw [hS1, hS2, ← hGB]; omega⟩)), hcW, hIZ⟩ (by first | exact ⟨And.intro (hi.1.1) (And.intro (hi.1.2.1) (hi.1.2.2)), Or.inr (by decide), by omega, And.intro (b3006.1) (b3006.2), And.intro (by decide) (oq_afc84a8d hi.1.2.1), oq_1aa5be9e ws3034_90 hi.2.2.2⟩ | omega) (Nat.lt_succ_self _) ?_
                    intro s3035 x3036 Is3035 Fs3035 JNW_s3035 JNWL_s3035 Qs3035 hs3035
                    have b3037 : (0 : Int) ≤ iI s3035 90 ∧ iI s3035 90 ≤ 12 := Is3035.1 90
                    refine z_inc X (x := ka) (lv' := [(3, .int (Int32.ofInt (ka + 1))), (0, .ref (A 179)), (1, .int (Int32.ofInt a)), (2, .int (Int32.ofInt 1)), (4, .int (Int32.ofInt (iC t (204 + (a : Int).toNat) (ka : Int).toNat))), (5, .int (Int32.ofInt x3036))]) (show cdA 227 278 = some (.iinc 3 1, 3, 0, 0, 0) from rfl) (by decide) (List.Mem.tail _ (List.Mem.tail _ (List.Mem.tail _ (List.Mem.head _)))) (fun _ h => h) ?_
                    refine z_goto X (t := 35) (show cdA 227 281 = some (.goto (-246), 3, 0, 0, 0) from rfl) (by decide) ?_
                    refine WS_lv (lv := [(0, .ref (A 179)), (1, .int (Int32.ofInt a)), (2, .int (Int32.ofInt 1)), (3, .int (Int32.ofInt (ka + 1)))]) (List.forall_mem_cons.mpr ⟨(List.Mem.tail _ (List.Mem.head _)), (List.forall_mem_cons.mpr ⟨(List.Mem.tail _ (List.Mem.tail _ (List.Mem.head _))), (List.forall_mem_cons.mpr ⟨(List.Mem.tail _ (List.Mem.tail _ (List.Mem.tail _ (List.Mem.head _)))), (List.forall_mem_cons.mpr ⟨(List.Mem.head _), (fun q h => absurd h List.not_mem_nil)⟩)⟩)⟩)⟩) ?_
                    exact ih _ a 1 (ka + 1) Is3035 Fs3035 JNW_s3035 JNWL_s3035 (lmk_up Qs3035.1 rfl (by omega) Qs3035.2.2) (by first | exact ⟨And.intro (hs3035.1.1) (And.intro (hs3035.1.2.1) (hs3035.1.2.2)), hs3035.2.1, And.intro (oq_54f49eb5 hs3035.2.2.1.1) (And.intro (oq_afc84a8d hs3035.2.2.1.2.1) (oq_3d4d89a6 hs3035.2.2.1.2.2)), hs3035.2.2.2⟩ | omega) (by first | exact qk_me hm (by decide) (oq_fa9b5cb9 hs3035.2.2.1.2.2) | omega) kx
            ·
              refine z_aload_n X (x := A 179) (show cdA 227 108 = some (.aload_n 0, 1, 0, 0, 0) from rfl) (List.Mem.tail _ (List.Mem.tail _ (List.Mem.tail _ (List.Mem.head _)))) ?_
              refine s_getR X 179 (show cdA 227 109 = some (.getfield 32, 3, 12, 21, 0) from rfl) (by decide) rfl rfl ?_
              refine z_const X (show cdA 227 112 = some (.iconst 2, 1, 0, 0, 0) from rfl) ?_
              refine w_dup2_11 X.1 (ax_d X (show cdA 227 113 = some (.dup2, 1, 0, 0, 0) from rfl)) rfl rfl ?_
              refine z_ald X 184 (show cdA 227 114 = some (.iaload, 1, 0, 0, 0) from rfl) (by decide) rfl (by decide) (show 2 < 7 by decide) (by decide) ?_
              have b3038 : ((-2147483648) : Int) ≤ iC t 161 (2 : Int).toNat ∧ iC t 161 (2 : Int).toNat ≤ 2147483647 := I.2 161 _ (show (2 : Int).toNat < 7 by first | exact oq_62527c24 | omega)
              refine z_aload_n X (x := A 179) (show cdA 227 115 = some (.aload_n 0, 1, 0, 0, 0) from rfl) (List.Mem.tail _ (List.Mem.tail _ (List.Mem.tail _ (List.Mem.head _)))) ?_
              refine s_getR X 179 (show cdA 227 116 = some (.getfield 61, 3, 12, 32, 0) from rfl) (by decide) rfl rfl ?_
              refine z_load_n X (x := a) (show cdA 227 119 = some (.iload_n 1, 1, 0, 0, 0) from rfl) (List.Mem.tail _ (List.Mem.tail _ (List.Mem.tail _ (List.Mem.tail _ (List.Mem.head _))))) ?_
              refine z_ald X 229 (show cdA 227 120 = some (.iaload, 1, 0, 0, 0) from rfl) (by decide) rfl (by first | exact hi.1.1 | omega) (show a < 12 by first | exact oq_0ddfcfee hi.1.2.2 | omega) (by decide) ?_
              have b3039 : (0 : Int) ≤ iC t 203 (a).toNat ∧ iC t 203 (a).toNat ≤ 50 := I.2 203 _ (show (a).toNat < 12 by first | exact oq_9c5fa447 hi.1.2.2 | omega)
              refine z_add X (show cdA 227 121 = some (.iadd, 1, 0, 0, 0) from rfl) ?_
              have hM2 := (fm_c F (by decide) : iC t 203 (a : Int).toNat = iC s 203 (a : Int).toNat)
              have hR2 := lm_r (S := inM s) hMo hMy (a := (a : Int).toNat) (k := (ka - 1).toNat) (by omega) (by omega)
              have hR3 : 0 ≤ iC s 203 (a : Int).toNat ∧ iC s 203 (a : Int).toNat ≤ 50 := hMo (a : Int).toNat (by omega)
              have hN2 : iC t 161 (2 : Int).toNat = oaH (inM s) (WYM s) (moM s) (a : Int).toNat + moM s (a : Int).toNat * ovH (inM s) (fwM s (a : Int).toNat) (ka - 1).toNat := hq.2.2.2.1
              refine z_ast X 184 (show cdA 227 122 = some (.iastore, 1, 0, 0, 0) from rfl) (by decide) rfl (by decide) (show 2 < 7 by decide) (by decide) ?_
              obtain ⟨s3040, hs3040⟩ : ∃ x0, x0 = uC t 161 (2 : Int).toNat (Int32.ofInt ((iC t 161 (2 : Int).toNat) + (iC t 203 (a).toNat))) := ⟨_, rfl⟩
              rw [← hs3040]
              have Is3040 : Bd s3040 := by rw [hs3040]; exact bd_C I (show ((-2147483648) : Int) ≤ ((iC t 161 (2 : Int).toNat) + (iC t 203 (a).toNat)) ∧ ((iC t 161 (2 : Int).toNat) + (iC t 203 (a).toNat)) ≤ 2147483647 by first | exact ⟨oq_d82b5a64 b3039.1 b3038.1, by omega⟩ | omega) ⟨by first | exact oq_d82b5a64 b3039.1 b3038.1 | omega, by omega⟩
              have Fs3040 := fm_C (i := (2 : Int).toNat) (x := Int32.ofInt ((iC t 161 (2 : Int).toNat) + (iC t 203 (a).toNat))) F (show 161 ∈ _ by decide)
              rw [← hs3040] at Fs3040
              have ws3040_90 : iI s3040 90 = iI t 90 := by rw [hs3040]; rfl
              have fs3040 : Fm [] [161] t s3040 := by rw [hs3040]; exact fm_C (fm_rf _ _ _) (show 161 ∈ _ by decide)
              have JNW_s3040 : NW s3040 := NW_fm fs3040 (by decide) jjNW
              have JNWL_s3040 : NWL s3040 := NWL_fm fs3040 (by decide) jjNWL
              refine z_load X (x := (iC t 230 ((iC t (204 + (a : Int).toNat) ((ka - 1) : Int).toNat)).toNat)) (show cdA 227 123 = some (.iload 5, 2, 0, 0, 0) from rfl) (List.Mem.head _) ?_
              refine z_if_eq X (t := 172) (show cdA 227 125 = some (.ifCond .eq 47, 3, 0, 0, 0) from rfl) (by decide) (rng_to _) (fun g3041 => ?_) (fun g3041 => ?_)
              ·
                refine z_load_n X (x := a) (show cdA 227 172 = some (.iload_n 1, 1, 0, 0, 0) from rfl) (List.Mem.tail _ (List.Mem.tail _ (List.Mem.tail _ (List.Mem.tail _ (List.Mem.head _))))) ?_
                refine z_const X (show cdA 227 173 = some (.iconst 1, 1, 0, 0, 0) from rfl) ?_
                refine z_add X (show cdA 227 174 = some (.iadd, 1, 0, 0, 0) from rfl) ?_
                refine z_store X (lv' := [(5, .int (Int32.ofInt (a + 1))), (2, .int (Int32.ofInt 1)), (4, .int (Int32.ofInt (iC t (204 + (a : Int).toNat) (ka : Int).toNat))), (0, .ref (A 179)), (1, .int (Int32.ofInt a)), (3, .int (Int32.ofInt ka))]) (show cdA 227 175 = some (.istore 5, 2, 0, 0, 0) from rfl) (by decide) (fun _ h => h) ?_
                refine WS_lv (lv := [(0, .ref (A 179)), (1, .int (Int32.ofInt a)), (2, .int (Int32.ofInt 1)), (3, .int (Int32.ofInt ka)), (4, .int (Int32.ofInt (iC t (204 + (a : Int).toNat) (ka : Int).toNat))), (5, .int (Int32.ofInt (a + 1)))]) (List.forall_mem_cons.mpr ⟨(List.Mem.tail _ (List.Mem.tail _ (List.Mem.tail _ (List.Mem.head _)))), (List.forall_mem_cons.mpr ⟨(List.Mem.tail _ (List.Mem.tail _ (List.Mem.tail _ (List.Mem.tail _ (List.Mem.head _))))), (List.forall_mem_cons.mpr ⟨(List.Mem.tail _ (List.Mem.head _)), (List.forall_mem_cons.mpr ⟨(List.Mem.tail _ (List.Mem.tail _ (List.Mem.tail _ (List.Mem.tail _ (List.Mem.tail _ (List.Mem.head _)))))), (List.forall_mem_cons.mpr ⟨(List.Mem.tail _ (List.Mem.tail _ (List.Mem.head _))), (List.forall_mem_cons.mpr ⟨(List.Mem.head _), (fun q h => absurd h List.not_mem_nil)⟩)⟩)⟩)⟩)⟩)⟩) ?_
                refine L177 ((12 - (a + 1) : Int).toNat + 1) s3040 a 1 ka (iC t (204 + (a : Int).toNat) (ka : Int).toNat) (a + 1) Is3040 Fs3040 JNW_s3040 JNWL_s3040 ⟨lmb_0 (nm_2 hq.2 hs3040 (by rw [hM2]; exact ⟨by omega, by omega⟩)) (by omega) (by rw [hM2]; exact ov_st (by omega) (Or.inl ⟨rfl, by rw [hS1, hS2]; omega⟩)) (cl_s0 (by omega) (by rw [hS1, hS2]; omega)), hcW, hIZ⟩ (by first | exact ⟨And.intro (hi.1.1) (And.intro (hi.1.2.1) (hi.1.2.2)), Or.inr (by decide), by omega, And.intro (b3006.1) (b3006.2), And.intro (by decide) (oq_afc84a8d hi.1.2.1), oq_1aa5be9e ws3040_90 hi.2.2.2⟩ | omega) (Nat.lt_succ_self _) ?_
                intro s3042 x3043 Is3042 Fs3042 JNW_s3042 JNWL_s3042 Qs3042 hs3042
                have b3044 : (0 : Int) ≤ iI s3042 90 ∧ iI s3042 90 ≤ 12 := Is3042.1 90
                refine z_inc X (x := ka) (lv' := [(3, .int (Int32.ofInt (ka + 1))), (0, .ref (A 179)), (1, .int (Int32.ofInt a)), (2, .int (Int32.ofInt 1)), (4, .int (Int32.ofInt (iC t (204 + (a : Int).toNat) (ka : Int).toNat))), (5, .int (Int32.ofInt x3043))]) (show cdA 227 278 = some (.iinc 3 1, 3, 0, 0, 0) from rfl) (by decide) (List.Mem.tail _ (List.Mem.tail _ (List.Mem.tail _ (List.Mem.head _)))) (fun _ h => h) ?_
                refine z_goto X (t := 35) (show cdA 227 281 = some (.goto (-246), 3, 0, 0, 0) from rfl) (by decide) ?_
                refine WS_lv (lv := [(0, .ref (A 179)), (1, .int (Int32.ofInt a)), (2, .int (Int32.ofInt 1)), (3, .int (Int32.ofInt (ka + 1)))]) (List.forall_mem_cons.mpr ⟨(List.Mem.tail _ (List.Mem.head _)), (List.forall_mem_cons.mpr ⟨(List.Mem.tail _ (List.Mem.tail _ (List.Mem.head _))), (List.forall_mem_cons.mpr ⟨(List.Mem.tail _ (List.Mem.tail _ (List.Mem.tail _ (List.Mem.head _)))), (List.forall_mem_cons.mpr ⟨(List.Mem.head _), (fun q h => absurd h List.not_mem_nil)⟩)⟩)⟩)⟩) ?_
                exact ih _ a 1 (ka + 1) Is3042 Fs3042 JNW_s3042 JNWL_s3042 (lmk_up Qs3042.1 rfl (by omega) Qs3042.2.2) (by first | exact ⟨And.intro (hs3042.1.1) (And.intro (hs3042.1.2.1) (hs3042.1.2.2)), hs3042.2.1, And.intro (oq_54f49eb5 hs3042.2.2.1.1) (And.intro (oq_afc84a8d hs3042.2.2.1.2.1) (oq_3d4d89a6 hs3042.2.2.1.2.2)), hs3042.2.2.2⟩ | omega) (by first | exact qk_me hm (by decide) (oq_fa9b5cb9 hs3042.2.2.1.2.2) | omega) kx
              ·
                have hZ8 : iC s3040 230 ((iC t (204 + (a : Int).toNat) (ka : Int).toNat) : Int).toNat = iC t 230 ((iC t (204 + (a : Int).toNat) (ka : Int).toNat) : Int).toNat := by rw [hs3040]; exact iC_a (by decide)
                refine z_aload_n X (x := A 179) (show cdA 227 128 = some (.aload_n 0, 1, 0, 0, 0) from rfl) (List.Mem.tail _ (List.Mem.tail _ (List.Mem.tail _ (List.Mem.head _)))) ?_
                refine s_getR X 179 (show cdA 227 129 = some (.getfield 76, 3, 12, 37, 0) from rfl) (by decide) rfl rfl ?_
                refine z_load X (x := (iC t (204 + (a : Int).toNat) (ka : Int).toNat)) (show cdA 227 132 = some (.iload 4, 2, 0, 0, 0) from rfl) (List.Mem.tail _ (List.Mem.tail _ (List.Mem.head _))) ?_
                refine z_zald X 258 (show cdA 227 134 = some (.baload, 1, 0, 0, 0) from rfl) (by decide) rfl (by first | exact b3006.1 | omega) (show (iC t (204 + (a : Int).toNat) (ka : Int).toNat) < 128 by first | exact oq_31b2bf10 b3006.2 | omega) (by decide) ?_
                have b3045 : (0 : Int) ≤ iC s3040 230 ((iC t (204 + (a : Int).toNat) (ka : Int).toNat)).toNat ∧ iC s3040 230 ((iC t (204 + (a : Int).toNat) (ka : Int).toNat)).toNat ≤ 1 := Is3040.2 230 _ (show ((iC t (204 + (a : Int).toNat) (ka : Int).toNat)).toNat < 128 by first | exact oq_c7f4e9c1 b3006.2 | omega)
                refine z_if_eq X (t := 172) (show cdA 227 135 = some (.ifCond .eq 37, 3, 0, 0, 0) from rfl) (by decide) (rng_to _) (fun g3046 => ?_) (fun g3046 => ?_)
                ·
                  refine z_load_n X (x := a) (show cdA 227 172 = some (.iload_n 1, 1, 0, 0, 0) from rfl) (List.Mem.tail _ (List.Mem.tail _ (List.Mem.tail _ (List.Mem.tail _ (List.Mem.head _))))) ?_
                  refine z_const X (show cdA 227 173 = some (.iconst 1, 1, 0, 0, 0) from rfl) ?_
                  refine z_add X (show cdA 227 174 = some (.iadd, 1, 0, 0, 0) from rfl) ?_
                  refine z_store X (lv' := [(5, .int (Int32.ofInt (a + 1))), (2, .int (Int32.ofInt 1)), (4, .int (Int32.ofInt (iC t (204 + (a : Int).toNat) (ka : Int).toNat))), (0, .ref (A 179)), (1, .int (Int32.ofInt a)), (3, .int (Int32.ofInt ka))]) (show cdA 227 175 = some (.istore 5, 2, 0, 0, 0) from rfl) (by decide) (fun _ h => h) ?_
                  refine WS_lv (lv := [(0, .ref (A 179)), (1, .int (Int32.ofInt a)), (2, .int (Int32.ofInt 1)), (3, .int (Int32.ofInt ka)), (4, .int (Int32.ofInt (iC t (204 + (a : Int).toNat) (ka : Int).toNat))), (5, .int (Int32.ofInt (a + 1)))]) (List.forall_mem_cons.mpr ⟨(List.Mem.tail _ (List.Mem.tail _ (List.Mem.tail _ (List.Mem.head _)))), (List.forall_mem_cons.mpr ⟨(List.Mem.tail _ (List.Mem.tail _ (List.Mem.tail _ (List.Mem.tail _ (List.Mem.head _))))), (List.forall_mem_cons.mpr ⟨(List.Mem.tail _ (List.Mem.head _)), (List.forall_mem_cons.mpr ⟨(List.Mem.tail _ (List.Mem.tail _ (List.Mem.tail _ (List.Mem.tail _ (List.Mem.tail _ (List.Mem.head _)))))), (List.forall_mem_cons.mpr ⟨(List.Mem.tail _ (List.Mem.tail _ (List.Mem.head _))), (List.forall_mem_cons.mpr ⟨(List.Mem.head _), (fun q h => absurd h List.not_mem_nil)⟩)⟩)⟩)⟩)⟩)⟩) ?_
                  refine L177 ((12 - (a + 1) : Int).toNat + 1) s3040 a 1 ka (iC t (204 + (a : Int).toNat) (ka : Int).toNat) (a + 1) Is3040 Fs3040 JNW_s3040 JNWL_s3040 ⟨lmb_0 (nm_2 hq.2 hs3040 (by rw [hM2]; exact ⟨by omega, by omega⟩)) (by omega) (by rw [hM2]; exact ov_st (by omega) (Or.inl ⟨rfl, by rw [hS1, hS2]; omega⟩)) (cl_s0 (by omega) (by rw [hS1, hS2]; omega)), hcW, hIZ⟩ (by first | exact ⟨And.intro (hi.1.1) (And.intro (hi.1.2.1) (hi.1.2.2)), Or.inr (by decide), by omega, And.intro (b3006.1) (b3006.2), And.intro (by decide) (oq_afc84a8d hi.1.2.1), oq_1aa5be9e ws3040_90 hi.2.2.2⟩ | omega) (Nat.lt_succ_self _) ?_
                  intro s3047 x3048 Is3047 Fs3047 JNW_s3047 JNWL_s3047 Qs3047 hs3047
                  have b3049 : (0 : Int) ≤ iI s3047 90 ∧ iI s3047 90 ≤ 12 := Is3047.1 90
                  refine z_inc X (x := ka) (lv' := [(3, .int (Int32.ofInt (ka + 1))), (0, .ref (A 179)), (1, .int (Int32.ofInt a)), (2, .int (Int32.ofInt 1)), (4, .int (Int32.ofInt (iC t (204 + (a : Int).toNat) (ka : Int).toNat))), (5, .int (Int32.ofInt x3048))]) (show cdA 227 278 = some (.iinc 3 1, 3, 0, 0, 0) from rfl) (by decide) (List.Mem.tail _ (List.Mem.tail _ (List.Mem.tail _ (List.Mem.head _)))) (fun _ h => h) ?_
                  refine z_goto X (t := 35) (show cdA 227 281 = some (.goto (-246), 3, 0, 0, 0) from rfl) (by decide) ?_
                  refine WS_lv (lv := [(0, .ref (A 179)), (1, .int (Int32.ofInt a)), (2, .int (Int32.ofInt 1)), (3, .int (Int32.ofInt (ka + 1)))]) (List.forall_mem_cons.mpr ⟨(List.Mem.tail _ (List.Mem.head _)), (List.forall_mem_cons.mpr ⟨(List.Mem.tail _ (List.Mem.tail _ (List.Mem.head _))), (List.forall_mem_cons.mpr ⟨(List.Mem.tail _ (List.Mem.tail _ (List.Mem.tail _ (List.Mem.head _)))), (List.forall_mem_cons.mpr ⟨(List.Mem.head _), (fun q h => absurd h List.not_mem_nil)⟩)⟩)⟩)⟩) ?_
                  exact ih _ a 1 (ka + 1) Is3047 Fs3047 JNW_s3047 JNWL_s3047 (lmk_up Qs3047.1 rfl (by omega) Qs3047.2.2) (by first | exact ⟨And.intro (hs3047.1.1) (And.intro (hs3047.1.2.1) (hs3047.1.2.2)), hs3047.2.1, And.intro (oq_54f49eb5 hs3047.2.2.1.1) (And.intro (oq_afc84a8d hs3047.2.2.1.2.1) (oq_3d4d89a6 hs3047.2.2.1.2.2)), hs3047.2.2.2⟩ | omega) (by first | exact qk_me hm (by decide) (oq_fa9b5cb9 hs3047.2.2.1.2.2) | omega) kx
                ·
                  refine z_aload_n X (x := A 179) (show cdA 227 138 = some (.aload_n 0, 1, 0, 0, 0) from rfl) (List.Mem.tail _ (List.Mem.tail _ (List.Mem.tail _ (List.Mem.head _)))) ?_
                  refine s_getR X 179 (show cdA 227 139 = some (.getfield 64, 3, 12, 33, 0) from rfl) (by decide) rfl rfl ?_
                  refine z_load_n X (x := a) (show cdA 227 142 = some (.iload_n 1, 1, 0, 0, 0) from rfl) (List.Mem.tail _ (List.Mem.tail _ (List.Mem.tail _ (List.Mem.tail _ (List.Mem.head _))))) ?_
                  refine z_aald X rw_230 (show cdA 227 143 = some (.aaload, 1, 0, 0, 0) from rfl) (by first | exact hi.1.1 | omega) (show a < 12 by first | exact oq_0ddfcfee hi.1.2.2 | omega) (by decide) ?_
                  refine z_load_n X (x := ka) (show cdA 227 144 = some (.iload_n 3, 1, 0, 0, 0) from rfl) (List.Mem.tail _ (List.Mem.tail _ (List.Mem.tail _ (List.Mem.tail _ (List.Mem.tail _ (List.Mem.head _)))))) ?_
                  refine z_const X (show cdA 227 145 = some (.iconst 1, 1, 0, 0, 0) from rfl) ?_
                  refine z_sub X (show cdA 227 146 = some (.isub, 1, 0, 0, 0) from rfl) ?_
                  refine z_ald2 X rw_230 (show cdA 227 147 = some (.iaload, 1, 0, 0, 0) from rfl) (show (a : Int).toNat < 12 by first | exact oq_9c5fa447 hi.1.2.2 | omega) (by first | exact oq_a4f22177 g3008 | omega) (show (ka - 1) < 24 by first | exact oq_19cb6f5b hi.2.2.1.2.2 | omega) (by decide) ?_
                  have b3050 : (0 : Int) ≤ (iC s3040 (204 + (a : Int).toNat) ((ka - 1) : Int).toNat) ∧ (iC s3040 (204 + (a : Int).toNat) ((ka - 1) : Int).toNat) ≤ 127 := rw_bd rw_230 Is3040 (show (a : Int).toNat < 12 by first | exact oq_9c5fa447 hi.1.2.2 | omega) (show ((ka - 1) : Int).toNat < 24 by first | exact oq_f976b25c hi.2.2.1.2.2 | omega)
                  refine z_load X (x := (iC t (204 + (a : Int).toNat) (ka : Int).toNat)) (show cdA 227 148 = some (.iload 4, 2, 0, 0, 0) from rfl) (List.Mem.tail _ (List.Mem.tail _ (List.Mem.head _))) ?_
                  refine z_callS X (rm := rmN 225) (As := [.int (Int32.ofInt (iC s3040 (204 + (a : Int).toNat) ((ka - 1) : Int).toNat)), .int (Int32.ofInt (iC t (204 + (a : Int).toNat) (ka : Int).toNat))]) (st := []) (show cdA 227 150 = some (.invokestatic 312, 3, 225, 1, 0) from rfl) rfl (by rw [E.1, E.2.1, E.2.2.1]; exact k_stepOf3 G Is3040 (by first | exact ⟨b3050.1, b3050.2⟩ | omega) (by first | exact ⟨b3006.1, b3006.2⟩ | omega)) ⟨by rw [E.2.2.2]; exact (show (rmN 225).frames + 1 ≤ (rmN 227).frames by decide), by rw [E.2.2.2]; exact (show 8 + (mNL (miB 225) + 11) + (rmN 225).locals ≤ (rmN 227).locals by decide), by rw [E.2.2.2]; exact (show 0 + (rmN 225).cells ≤ (rmN 227).cells by decide), by rw [E.2.2.2]; exact (show 0 + (rmN 225).slots ≤ (rmN 227).slots by decide)⟩ (Nat.le_of_ble_eq_true rfl) (fun vv s3051 hq => ?_) (fun ee s3051 hq => ?_)
                  rotate_left
                  · obtain ⟨rfl, e3052, hv, hrs3051, hps3051⟩ := hq; cases hv
                  obtain ⟨rfl, e3052, hv, hrs3051, hps3051⟩ := hq
                  cases hv
                  show WS k 153 [(5, .int (Int32.ofInt (iC t 230 ((iC t (204 + (a : Int).toNat) ((ka - 1) : Int).toNat)).toNat))), (2, .int (Int32.ofInt 1)), (4, .int (Int32.ofInt (iC t (204 + (a : Int).toNat) (ka : Int).toNat))), (0, .ref (A 179)), (1, .int (Int32.ofInt a)), (3, .int (Int32.ofInt ka))] [.int (Int32.ofInt e3052)] (Wd A dT s3040) 0 0
                  have hcQ : iC s3040 (204 + (a : Int).toNat) (ka - 1).toNat = fwM s (a : Int).toNat (ka - 1).toNat := fm_c Fs3040 (fun h => by have := List.mem_singleton.mp h; omega)
                  have hGB : e3052 = goB (fwM s (a : Int).toNat (ka - 1).toNat) (fwM s (a : Int).toNat (ka : Int).toNat) := by rw [← hcQ, ← hcW]; exact hps3051.1
                  refine z_const X (show cdA 227 153 = some (.iconst 3, 1, 0, 0, 0) from rfl) ?_
                  refine z_icmp_le X (t := 172) (show cdA 227 154 = some (.if_icmp .le 18, 3, 5, 0, 0) from rfl) (by decide) hrs3051 (by decide) (fun g3053 => ?_) (fun g3053 => ?_)
                  ·
                    refine z_load_n X (x := a) (show cdA 227 172 = some (.iload_n 1, 1, 0, 0, 0) from rfl) (List.Mem.tail _ (List.Mem.tail _ (List.Mem.tail _ (List.Mem.tail _ (List.Mem.head _))))) ?_
                    refine z_const X (show cdA 227 173 = some (.iconst 1, 1, 0, 0, 0) from rfl) ?_
                    refine z_add X (show cdA 227 174 = some (.iadd, 1, 0, 0, 0) from rfl) ?_
                    refine z_store X (lv' := [(5, .int (Int32.ofInt (a + 1))), (2, .int (Int32.ofInt 1)), (4, .int (Int32.ofInt (iC t (204 + (a : Int).toNat) (ka : Int).toNat))), (0, .ref (A 179)), (1, .int (Int32.ofInt a)), (3, .int (Int32.ofInt ka))]) (show cdA 227 175 = some (.istore 5, 2, 0, 0, 0) from rfl) (by decide) (fun _ h => h) ?_
                    refine WS_lv (lv := [(0, .ref (A 179)), (1, .int (Int32.ofInt a)), (2, .int (Int32.ofInt 1)), (3, .int (Int32.ofInt ka)), (4, .int (Int32.ofInt (iC t (204 + (a : Int).toNat) (ka : Int).toNat))), (5, .int (Int32.ofInt (a + 1)))]) (List.forall_mem_cons.mpr ⟨(List.Mem.tail _ (List.Mem.tail _ (List.Mem.tail _ (List.Mem.head _)))), (List.forall_mem_cons.mpr ⟨(List.Mem.tail _ (List.Mem.tail _ (List.Mem.tail _ (List.Mem.tail _ (List.Mem.head _))))), (List.forall_mem_cons.mpr ⟨(List.Mem.tail _ (List.Mem.head _)), (List.forall_mem_cons.mpr ⟨(List.Mem.tail _ (List.Mem.tail _ (List.Mem.tail _ (List.Mem.tail _ (List.Mem.tail _ (List.Mem.head _)))))), (List.forall_mem_cons.mpr ⟨(List.Mem.tail _ (List.Mem.tail _ (List.Mem.head _))), (List.forall_mem_cons.mpr ⟨(List.Mem.head _), (fun q h => absurd h List.not_mem_nil)⟩)⟩)⟩)⟩)⟩)⟩) ?_
                    refine L177 ((12 - (a + 1) : Int).toNat + 1) s3040 a 1 ka (iC t (204 + (a : Int).toNat) (ka : Int).toNat) (a + 1) Is3040 Fs3040 JNW_s3040 JNWL_s3040 ⟨lmb_0 (nm_2 hq.2 hs3040 (by rw [hM2]; exact ⟨by omega, by omega⟩)) (by omega) (by rw [hM2]; exact ov_st (by omega) (Or.inl ⟨rfl, by rw [hS1, hS2]; omega⟩)) (cl_s0 (by omega) (by rw [hS1, hS2, ← hGB]; omega)), hcW, hIZ⟩ (by first | exact ⟨And.intro (hi.1.1) (And.intro (hi.1.2.1) (hi.1.2.2)), Or.inr (by decide), oq_58b3fca9 g3046 b3045.1 hZ8 g3041 g3015 b3014.2 b3013.2 b3013.1, And.intro (b3006.1) (b3006.2), And.intro (by decide) (oq_afc84a8d hi.1.2.1), oq_1aa5be9e ws3040_90 hi.2.2.2⟩ | omega) (Nat.lt_succ_self _) ?_
                    intro s3054 x3055 Is3054 Fs3054 JNW_s3054 JNWL_s3054 Qs3054 hs3054
                    have b3056 : (0 : Int) ≤ iI s3054 90 ∧ iI s3054 90 ≤ 12 := Is3054.1 90
                    refine z_inc X (x := ka) (lv' := [(3, .int (Int32.ofInt (ka + 1))), (0, .ref (A 179)), (1, .int (Int32.ofInt a)), (2, .int (Int32.ofInt 1)), (4, .int (Int32.ofInt (iC t (204 + (a : Int).toNat) (ka : Int).toNat))), (5, .int (Int32.ofInt x3055))]) (show cdA 227 278 = some (.iinc 3 1, 3, 0, 0, 0) from rfl) (by decide) (List.Mem.tail _ (List.Mem.tail _ (List.Mem.tail _ (List.Mem.head _)))) (fun _ h => h) ?_
                    refine z_goto X (t := 35) (show cdA 227 281 = some (.goto (-246), 3, 0, 0, 0) from rfl) (by decide) ?_
                    refine WS_lv (lv := [(0, .ref (A 179)), (1, .int (Int32.ofInt a)), (2, .int (Int32.ofInt 1)), (3, .int (Int32.ofInt (ka + 1)))]) (List.forall_mem_cons.mpr ⟨(List.Mem.tail _ (List.Mem.head _)), (List.forall_mem_cons.mpr ⟨(List.Mem.tail _ (List.Mem.tail _ (List.Mem.head _))), (List.forall_mem_cons.mpr ⟨(List.Mem.tail _ (List.Mem.tail _ (List.Mem.tail _ (List.Mem.head _)))), (List.forall_mem_cons.mpr ⟨(List.Mem.head _), (fun q h => absurd h List.not_mem_nil)⟩)⟩)⟩)⟩) ?_
                    exact ih _ a 1 (ka + 1) Is3054 Fs3054 JNW_s3054 JNWL_s3054 (lmk_up Qs3054.1 rfl (by omega) Qs3054.2.2) (by first | exact ⟨And.intro (hs3054.1.1) (And.intro (hs3054.1.2.1) (hs3054.1.2.2)), hs3054.2.1, And.intro (oq_54f49eb5 hs3054.2.2.1.1) (And.intro (oq_afc84a8d hs3054.2.2.1.2.1) (oq_3d4d89a6 hs3054.2.2.1.2.2)), hs3054.2.2.2⟩ | omega) (by first | exact qk_me hm (by decide) (oq_fa9b5cb9 hs3054.2.2.1.2.2) | omega) kx
                  ·
                    refine z_aload_n X (x := A 179) (show cdA 227 157 = some (.aload_n 0, 1, 0, 0, 0) from rfl) (List.Mem.tail _ (List.Mem.tail _ (List.Mem.tail _ (List.Mem.head _)))) ?_
                    refine s_getR X 179 (show cdA 227 158 = some (.getfield 32, 3, 12, 21, 0) from rfl) (by decide) rfl rfl ?_
                    refine z_const X (show cdA 227 161 = some (.iconst 3, 1, 0, 0, 0) from rfl) ?_
                    refine w_dup2_11 X.1 (ax_d X (show cdA 227 162 = some (.dup2, 1, 0, 0, 0) from rfl)) rfl rfl ?_
                    refine z_ald X 184 (show cdA 227 163 = some (.iaload, 1, 0, 0, 0) from rfl) (by decide) rfl (by decide) (show 3 < 7 by decide) (by decide) ?_
                    have b3057 : ((-2147483648) : Int) ≤ iC s3040 161 (3 : Int).toNat ∧ iC s3040 161 (3 : Int).toNat ≤ 2147483647 := Is3040.2 161 _ (show (3 : Int).toNat < 7 by first | exact oq_bea6b7ec | omega)
                    refine z_aload_n X (x := A 179) (show cdA 227 164 = some (.aload_n 0, 1, 0, 0, 0) from rfl) (List.Mem.tail _ (List.Mem.tail _ (List.Mem.tail _ (List.Mem.head _)))) ?_
                    refine s_getR X 179 (show cdA 227 165 = some (.getfield 61, 3, 12, 32, 0) from rfl) (by decide) rfl rfl ?_
                    refine z_load_n X (x := a) (show cdA 227 168 = some (.iload_n 1, 1, 0, 0, 0) from rfl) (List.Mem.tail _ (List.Mem.tail _ (List.Mem.tail _ (List.Mem.tail _ (List.Mem.head _))))) ?_
                    refine z_ald X 229 (show cdA 227 169 = some (.iaload, 1, 0, 0, 0) from rfl) (by decide) rfl (by first | exact hi.1.1 | omega) (show a < 12 by first | exact oq_0ddfcfee hi.1.2.2 | omega) (by decide) ?_
                    have b3058 : (0 : Int) ≤ iC s3040 203 (a).toNat ∧ iC s3040 203 (a).toNat ≤ 50 := Is3040.2 203 _ (show (a).toNat < 12 by first | exact oq_9c5fa447 hi.1.2.2 | omega)
                    refine z_add X (show cdA 227 170 = some (.iadd, 1, 0, 0, 0) from rfl) ?_
                    have hM3 := (fm_c Fs3040 (by decide) : iC s3040 203 (a : Int).toNat = iC s 203 (a : Int).toNat)
                    have hR4 := lm_r (S := inM s) hMo hMy (a := (a : Int).toNat) (k := (ka - 1).toNat) (by omega) (by omega)
                    have hR5 : 0 ≤ iC s 203 (a : Int).toNat ∧ iC s 203 (a : Int).toNat ≤ 50 := hMo (a : Int).toNat (by omega)
                    have hN3 : iC s3040 161 (3 : Int).toNat = caH (inM s) (WYM s) (moM s) (a : Int).toNat + moM s (a : Int).toNat * clH (inM s) (fwM s (a : Int).toNat) (ka - 1).toNat := by rw [hs3040]; exact (iC_n (by decide)).trans hq.2.2.2.2.1
                    refine z_ast X 184 (show cdA 227 171 = some (.iastore, 1, 0, 0, 0) from rfl) (by decide) rfl (by decide) (show 3 < 7 by decide) (by decide) ?_
                    obtain ⟨s3059, hs3059⟩ : ∃ x0, x0 = uC s3040 161 (3 : Int).toNat (Int32.ofInt ((iC s3040 161 (3 : Int).toNat) + (iC s3040 203 (a).toNat))) := ⟨_, rfl⟩
                    rw [← hs3059]
                    have Is3059 : Bd s3059 := by rw [hs3059]; exact bd_C Is3040 (show ((-2147483648) : Int) ≤ ((iC s3040 161 (3 : Int).toNat) + (iC s3040 203 (a).toNat)) ∧ ((iC s3040 161 (3 : Int).toNat) + (iC s3040 203 (a).toNat)) ≤ 2147483647 by first | exact ⟨oq_d82b5a64 b3058.1 b3057.1, oq_bbcc95d4 g3046 b3045.1 hZ8 g3041 g3015 b3014.2 b3013.2 b3013.1⟩ | omega) ⟨by first | exact oq_d82b5a64 b3058.1 b3057.1 | omega, by first | exact oq_bbcc95d4 g3046 b3045.1 hZ8 g3041 g3015 b3014.2 b3013.2 b3013.1 | omega⟩
                    have Fs3059 := fm_C (i := (3 : Int).toNat) (x := Int32.ofInt ((iC s3040 161 (3 : Int).toNat) + (iC s3040 203 (a).toNat))) Fs3040 (show 161 ∈ _ by decide)
                    rw [← hs3059] at Fs3059
                    have ws3059_90 : iI s3059 90 = iI s3040 90 := by rw [hs3059]; rfl
                    have fs3059 : Fm [] [161] s3040 s3059 := by rw [hs3059]; exact fm_C (fm_rf _ _ _) (show 161 ∈ _ by decide)
                    have JNW_s3059 : NW s3059 := NW_fm fs3059 (by decide) JNW_s3040
                    have JNWL_s3059 : NWL s3059 := NWL_fm fs3059 (by decide) JNWL_s3040
                    refine z_load_n X (x := a) (show cdA 227 172 = some (.iload_n 1, 1, 0, 0, 0) from rfl) (List.Mem.tail _ (List.Mem.tail _ (List.Mem.tail _ (List.Mem.tail _ (List.Mem.head _))))) ?_
                    refine z_const X (show cdA 227 173 = some (.iconst 1, 1, 0, 0, 0) from rfl) ?_
                    refine z_add X (show cdA 227 174 = some (.iadd, 1, 0, 0, 0) from rfl) ?_
                    refine z_store X (lv' := [(5, .int (Int32.ofInt (a + 1))), (2, .int (Int32.ofInt 1)), (4, .int (Int32.ofInt (iC t (204 + (a : Int).toNat) (ka : Int).toNat))), (0, .ref (A 179)), (1, .int (Int32.ofInt a)), (3, .int (Int32.ofInt ka))]) (show cdA 227 175 = some (.istore 5, 2, 0, 0, 0) from rfl) (by decide) (fun _ h => h) ?_
                    refine WS_lv (lv := [(0, .ref (A 179)), (1, .int (Int32.ofInt a)), (2, .int (Int32.ofInt 1)), (3, .int (Int32.ofInt ka)), (4, .int (Int32.ofInt (iC t (204 + (a : Int).toNat) (ka : Int).toNat))), (5, .int (Int32.ofInt (a + 1)))]) (List.forall_mem_cons.mpr ⟨(List.Mem.tail _ (List.Mem.tail _ (List.Mem.tail _ (List.Mem.head _)))), (List.forall_mem_cons.mpr ⟨(List.Mem.tail _ (List.Mem.tail _ (List.Mem.tail _ (List.Mem.tail _ (List.Mem.head _))))), (List.forall_mem_cons.mpr ⟨(List.Mem.tail _ (List.Mem.head _)), (List.forall_mem_cons.mpr ⟨(List.Mem.tail _ (List.Mem.tail _ (List.Mem.tail _ (List.Mem.tail _ (List.Mem.tail _ (List.Mem.head _)))))), (List.forall_mem_cons.mpr ⟨(List.Mem.tail _ (List.Mem.tail _ (List.Mem.head _))), (List.forall_mem_cons.mpr ⟨(List.Mem.head _), (fun q h => absurd h List.not_mem_nil)⟩)⟩)⟩)⟩)⟩)⟩) ?_
                    refine L177 ((12 - (a + 1) : Int).toNat + 1) s3059 a 1 ka (iC t (204 + (a : Int).toNat) (ka : Int).toNat) (a + 1) Is3059 Fs3059 JNW_s3059 JNWL_s3059 ⟨lmb_0 (nm_3 (nm_2 hq.2 hs3040 (by rw [hM2]; exact ⟨by omega, by omega⟩)) hs3059 (by rw [hM3]; exact ⟨by omega, by omega⟩)) (by omega) (by rw [hM2]; exact ov_st (by omega) (Or.inl ⟨rfl, by rw [hS1, hS2]; omega⟩)) (by rw [hM3]; exact cl_st (by omega) (Or.inl ⟨rfl, by rw [hS1, hS2, ← hGB]; omega⟩)), hcW, hIZ⟩ (by first | exact ⟨And.intro (hi.1.1) (And.intro (hi.1.2.1) (hi.1.2.2)), Or.inr (by decide), oq_58b3fca9 g3046 b3045.1 hZ8 g3041 g3015 b3014.2 b3013.2 b3013.1, And.intro (b3006.1) (b3006.2), And.intro (by decide) (oq_afc84a8d hi.1.2.1), oq_878618b1 ws3059_90 ws3040_90 hi.2.2.2⟩ | omega) (Nat.lt_succ_self _) ?_
                    intro s3060 x3061 Is3060 Fs3060 JNW_s3060 JNWL_s3060 Qs3060 hs3060
                    have b3062 : (0 : Int) ≤ iI s3060 90 ∧ iI s3060 90 ≤ 12 := Is3060.1 90
                    refine z_inc X (x := ka) (lv' := [(3, .int (Int32.ofInt (ka + 1))), (0, .ref (A 179)), (1, .int (Int32.ofInt a)), (2, .int (Int32.ofInt 1)), (4, .int (Int32.ofInt (iC t (204 + (a : Int).toNat) (ka : Int).toNat))), (5, .int (Int32.ofInt x3061))]) (show cdA 227 278 = some (.iinc 3 1, 3, 0, 0, 0) from rfl) (by decide) (List.Mem.tail _ (List.Mem.tail _ (List.Mem.tail _ (List.Mem.head _)))) (fun _ h => h) ?_
                    refine z_goto X (t := 35) (show cdA 227 281 = some (.goto (-246), 3, 0, 0, 0) from rfl) (by decide) ?_
                    refine WS_lv (lv := [(0, .ref (A 179)), (1, .int (Int32.ofInt a)), (2, .int (Int32.ofInt 1)), (3, .int (Int32.ofInt (ka + 1)))]) (List.forall_mem_cons.mpr ⟨(List.Mem.tail _ (List.Mem.head _)), (List.forall_mem_cons.mpr ⟨(List.Mem.tail _ (List.Mem.tail _ (List.Mem.head _))), (List.forall_mem_cons.mpr ⟨(List.Mem.tail _ (List.Mem.tail _ (List.Mem.tail _ (List.Mem.head _)))), (List.forall_mem_cons.mpr ⟨(List.Mem.head _), (fun q h => absurd h List.not_mem_nil)⟩)⟩)⟩)⟩) ?_
                    exact ih _ a 1 (ka + 1) Is3060 Fs3060 JNW_s3060 JNWL_s3060 (lmk_up Qs3060.1 rfl (by omega) Qs3060.2.2) (by first | exact ⟨And.intro (hs3060.1.1) (And.intro (hs3060.1.2.1) (hs3060.1.2.2)), hs3060.2.1, And.intro (oq_54f49eb5 hs3060.2.2.1.1) (And.intro (oq_afc84a8d hs3060.2.2.1.2.1) (oq_3d4d89a6 hs3060.2.2.1.2.2)), hs3060.2.2.2⟩ | omega) (by first | exact qk_me hm (by decide) (oq_fa9b5cb9 hs3060.2.2.1.2.2) | omega) kx
        ·
          refine z_aload_n X (x := A 179) (show cdA 227 59 = some (.aload_n 0, 1, 0, 0, 0) from rfl) (List.Mem.tail _ (List.Mem.head _)) ?_
          refine s_getR X 179 (show cdA 227 60 = some (.getfield 76, 3, 12, 37, 0) from rfl) (by decide) rfl rfl ?_
          refine z_load X (x := (iC t (204 + (a : Int).toNat) (ka : Int).toNat)) (show cdA 227 63 = some (.iload 4, 2, 0, 0, 0) from rfl) (List.Mem.head _) ?_
          refine z_zald X 258 (show cdA 227 65 = some (.baload, 1, 0, 0, 0) from rfl) (by decide) rfl (by first | exact b3006.1 | omega) (show (iC t (204 + (a : Int).toNat) (ka : Int).toNat) < 128 by first | exact oq_31b2bf10 b3006.2 | omega) (by decide) ?_
          have b3063 : (0 : Int) ≤ iC t 230 ((iC t (204 + (a : Int).toNat) (ka : Int).toNat)).toNat ∧ iC t 230 ((iC t (204 + (a : Int).toNat) (ka : Int).toNat)).toNat ≤ 1 := I.2 230 _ (show ((iC t (204 + (a : Int).toNat) (ka : Int).toNat)).toNat < 128 by first | exact oq_c7f4e9c1 b3006.2 | omega)
          refine z_if_eq X (t := 73) (show cdA 227 66 = some (.ifCond .eq 7, 3, 0, 0, 0) from rfl) (by decide) (rng_to _) (fun g3064 => ?_) (fun g3064 => ?_)
          ·
            refine z_const X (show cdA 227 73 = some (.iconst 0, 1, 0, 0, 0) from rfl) ?_
            refine z_store_n X (lv' := [(2, .int (Int32.ofInt 0)), (4, .int (Int32.ofInt (iC t (204 + (a : Int).toNat) (ka : Int).toNat))), (0, .ref (A 179)), (1, .int (Int32.ofInt a)), (3, .int (Int32.ofInt ka))]) (show cdA 227 74 = some (.istore_n 2, 1, 0, 0, 0) from rfl) (by decide) (fun _ h => h) ?_
            have hIZ : 0 = i01 (∃ j : Nat, j < (ka + 1).toNat ∧ inM s (fwM s (a : Int).toNat j)) := iz_up hq.1 (by omega) (by rw [← hcW]; unfold inM; have z := (fm_c F (by decide) : iC t 230 ((iC t (204 + (a : Int).toNat) (ka : Int).toNat) : Int).toNat = iC s 230 ((iC t (204 + (a : Int).toNat) (ka : Int).toNat) : Int).toNat); omega)
            refine z_load_n X (x := ka) (show cdA 227 75 = some (.iload_n 3, 1, 0, 0, 0) from rfl) (List.Mem.tail _ (List.Mem.tail _ (List.Mem.tail _ (List.Mem.tail _ (List.Mem.head _))))) ?_
            refine z_if_le X (t := 172) (show cdA 227 76 = some (.ifCond .le 96, 3, 5, 0, 0) from rfl) (by decide) ⟨by first | exact oq_fa4e5087 hi.2.2.1.1 | omega, by first | exact oq_5bcd337f hi.2.2.1.2.2 | omega⟩ (fun g3065 => ?_) (fun g3065 => ?_)
            ·
              refine z_load_n X (x := a) (show cdA 227 172 = some (.iload_n 1, 1, 0, 0, 0) from rfl) (List.Mem.tail _ (List.Mem.tail _ (List.Mem.tail _ (List.Mem.head _)))) ?_
              refine z_const X (show cdA 227 173 = some (.iconst 1, 1, 0, 0, 0) from rfl) ?_
              refine z_add X (show cdA 227 174 = some (.iadd, 1, 0, 0, 0) from rfl) ?_
              refine z_store X (lv' := [(5, .int (Int32.ofInt (a + 1))), (2, .int (Int32.ofInt 0)), (4, .int (Int32.ofInt (iC t (204 + (a : Int).toNat) (ka : Int).toNat))), (0, .ref (A 179)), (1, .int (Int32.ofInt a)), (3, .int (Int32.ofInt ka))]) (show cdA 227 175 = some (.istore 5, 2, 0, 0, 0) from rfl) (by decide) (fun _ h => h) ?_
              refine WS_lv (lv := [(0, .ref (A 179)), (1, .int (Int32.ofInt a)), (2, .int (Int32.ofInt 0)), (3, .int (Int32.ofInt ka)), (4, .int (Int32.ofInt (iC t (204 + (a : Int).toNat) (ka : Int).toNat))), (5, .int (Int32.ofInt (a + 1)))]) (List.forall_mem_cons.mpr ⟨(List.Mem.tail _ (List.Mem.tail _ (List.Mem.tail _ (List.Mem.head _)))), (List.forall_mem_cons.mpr ⟨(List.Mem.tail _ (List.Mem.tail _ (List.Mem.tail _ (List.Mem.tail _ (List.Mem.head _))))), (List.forall_mem_cons.mpr ⟨(List.Mem.tail _ (List.Mem.head _)), (List.forall_mem_cons.mpr ⟨(List.Mem.tail _ (List.Mem.tail _ (List.Mem.tail _ (List.Mem.tail _ (List.Mem.tail _ (List.Mem.head _)))))), (List.forall_mem_cons.mpr ⟨(List.Mem.tail _ (List.Mem.tail _ (List.Mem.head _))), (List.forall_mem_cons.mpr ⟨(List.Mem.head _), (fun q h => absurd h List.not_mem_nil)⟩)⟩)⟩)⟩)⟩)⟩) ?_
              refine L177 ((12 - (a + 1) : Int).toNat + 1) t a 0 ka (iC t (204 + (a : Int).toNat) (ka : Int).toNat) (a + 1) I F jjNW jjNWL ⟨lmb_0 hq.2 (by omega) (by rw [show ka = 0 by omega]; rfl) (by rw [show ka = 0 by omega]; rfl), hcW, hIZ⟩ (by first | exact ⟨And.intro (hi.1.1) (And.intro (hi.1.2.1) (hi.1.2.2)), Or.inl (by decide), by omega, And.intro (b3006.1) (b3006.2), And.intro (by decide) (oq_afc84a8d hi.1.2.1), hi.2.2.2⟩ | omega) (Nat.lt_succ_self _) ?_
              intro s3066 x3067 Is3066 Fs3066 JNW_s3066 JNWL_s3066 Qs3066 hs3066
              have b3068 : (0 : Int) ≤ iI s3066 90 ∧ iI s3066 90 ≤ 12 := Is3066.1 90
              refine z_inc X (x := ka) (lv' := [(3, .int (Int32.ofInt (ka + 1))), (0, .ref (A 179)), (1, .int (Int32.ofInt a)), (2, .int (Int32.ofInt 0)), (4, .int (Int32.ofInt (iC t (204 + (a : Int).toNat) (ka : Int).toNat))), (5, .int (Int32.ofInt x3067))]) (show cdA 227 278 = some (.iinc 3 1, 3, 0, 0, 0) from rfl) (by decide) (List.Mem.tail _ (List.Mem.tail _ (List.Mem.tail _ (List.Mem.head _)))) (fun _ h => h) ?_
              refine z_goto X (t := 35) (show cdA 227 281 = some (.goto (-246), 3, 0, 0, 0) from rfl) (by decide) ?_
              refine WS_lv (lv := [(0, .ref (A 179)), (1, .int (Int32.ofInt a)), (2, .int (Int32.ofInt 0)), (3, .int (Int32.ofInt (ka + 1)))]) (List.forall_mem_cons.mpr ⟨(List.Mem.tail _ (List.Mem.head _)), (List.forall_mem_cons.mpr ⟨(List.Mem.tail _ (List.Mem.tail _ (List.Mem.head _))), (List.forall_mem_cons.mpr ⟨(List.Mem.tail _ (List.Mem.tail _ (List.Mem.tail _ (List.Mem.head _)))), (List.forall_mem_cons.mpr ⟨(List.Mem.head _), (fun q h => absurd h List.not_mem_nil)⟩)⟩)⟩)⟩) ?_
              exact ih _ a 0 (ka + 1) Is3066 Fs3066 JNW_s3066 JNWL_s3066 (lmk_up Qs3066.1 rfl (by omega) Qs3066.2.2) (by first | exact ⟨And.intro (hs3066.1.1) (And.intro (hs3066.1.2.1) (hs3066.1.2.2)), hs3066.2.1, And.intro (oq_54f49eb5 hs3066.2.2.1.1) (And.intro (oq_afc84a8d hs3066.2.2.1.2.1) (oq_3d4d89a6 hs3066.2.2.1.2.2)), hs3066.2.2.2⟩ | omega) (by first | exact qk_me hm (by decide) (oq_fa9b5cb9 hs3066.2.2.1.2.2) | omega) kx
            ·
              refine z_aload_n X (x := A 179) (show cdA 227 79 = some (.aload_n 0, 1, 0, 0, 0) from rfl) (List.Mem.tail _ (List.Mem.tail _ (List.Mem.head _))) ?_
              refine s_getR X 179 (show cdA 227 80 = some (.getfield 76, 3, 12, 37, 0) from rfl) (by decide) rfl rfl ?_
              refine z_aload_n X (x := A 179) (show cdA 227 83 = some (.aload_n 0, 1, 0, 0, 0) from rfl) (List.Mem.tail _ (List.Mem.tail _ (List.Mem.head _))) ?_
              refine s_getR X 179 (show cdA 227 84 = some (.getfield 64, 3, 12, 33, 0) from rfl) (by decide) rfl rfl ?_
              refine z_load_n X (x := a) (show cdA 227 87 = some (.iload_n 1, 1, 0, 0, 0) from rfl) (List.Mem.tail _ (List.Mem.tail _ (List.Mem.tail _ (List.Mem.head _)))) ?_
              refine z_aald X rw_230 (show cdA 227 88 = some (.aaload, 1, 0, 0, 0) from rfl) (by first | exact hi.1.1 | omega) (show a < 12 by first | exact oq_0ddfcfee hi.1.2.2 | omega) (by decide) ?_
              refine z_load_n X (x := ka) (show cdA 227 89 = some (.iload_n 3, 1, 0, 0, 0) from rfl) (List.Mem.tail _ (List.Mem.tail _ (List.Mem.tail _ (List.Mem.tail _ (List.Mem.head _))))) ?_
              refine z_const X (show cdA 227 90 = some (.iconst 1, 1, 0, 0, 0) from rfl) ?_
              refine z_sub X (show cdA 227 91 = some (.isub, 1, 0, 0, 0) from rfl) ?_
              refine z_ald2 X rw_230 (show cdA 227 92 = some (.iaload, 1, 0, 0, 0) from rfl) (show (a : Int).toNat < 12 by first | exact oq_9c5fa447 hi.1.2.2 | omega) (by first | exact oq_a4f22177 g3065 | omega) (show (ka - 1) < 24 by first | exact oq_19cb6f5b hi.2.2.1.2.2 | omega) (by decide) ?_
              have b3069 : (0 : Int) ≤ (iC t (204 + (a : Int).toNat) ((ka - 1) : Int).toNat) ∧ (iC t (204 + (a : Int).toNat) ((ka - 1) : Int).toNat) ≤ 127 := rw_bd rw_230 I (show (a : Int).toNat < 12 by first | exact oq_9c5fa447 hi.1.2.2 | omega) (show ((ka - 1) : Int).toNat < 24 by first | exact oq_f976b25c hi.2.2.1.2.2 | omega)
              refine z_zald X 258 (show cdA 227 93 = some (.baload, 1, 0, 0, 0) from rfl) (by decide) rfl (by first | exact b3069.1 | omega) (show (iC t (204 + (a : Int).toNat) ((ka - 1) : Int).toNat) < 128 by first | exact oq_31b2bf10 b3069.2 | omega) (by decide) ?_
              have b3070 : (0 : Int) ≤ iC t 230 ((iC t (204 + (a : Int).toNat) ((ka - 1) : Int).toNat)).toNat ∧ iC t 230 ((iC t (204 + (a : Int).toNat) ((ka - 1) : Int).toNat)).toNat ≤ 1 := I.2 230 _ (show ((iC t (204 + (a : Int).toNat) ((ka - 1) : Int).toNat)).toNat < 128 by first | exact oq_c7f4e9c1 b3069.2 | omega)
              refine z_store X (lv' := [(5, .int (Int32.ofInt (iC t 230 ((iC t (204 + (a : Int).toNat) ((ka - 1) : Int).toNat)).toNat))), (2, .int (Int32.ofInt 0)), (4, .int (Int32.ofInt (iC t (204 + (a : Int).toNat) (ka : Int).toNat))), (0, .ref (A 179)), (1, .int (Int32.ofInt a)), (3, .int (Int32.ofInt ka))]) (show cdA 227 94 = some (.istore 5, 2, 0, 0, 0) from rfl) (by decide) (fun _ h => h) ?_
              have hcP : iC t (204 + (a : Int).toNat) (ka - 1).toNat = fwM s (a : Int).toNat (ka - 1).toNat := fm_c F (fun h => by have := List.mem_singleton.mp h; omega)
              have hS1 : inM s (fwM s (a : Int).toNat (ka - 1).toNat) ↔ (iC t 230 ((iC t (204 + (a : Int).toNat) ((ka - 1) : Int).toNat)).toNat) ≠ 0 := by rw [← hcP]; unfold inM; rw [← (fm_c F (by decide) : iC t 230 _ = iC s 230 _)]
              have hS2 : inM s (fwM s (a : Int).toNat (ka : Int).toNat) ↔ iC t 230 ((iC t (204 + (a : Int).toNat) (ka : Int).toNat) : Int).toNat ≠ 0 := by rw [← hcW]; unfold inM; rw [← (fm_c F (by decide) : iC t 230 _ = iC s 230 _)]
              refine z_load X (x := (iC t 230 ((iC t (204 + (a : Int).toNat) ((ka - 1) : Int).toNat)).toNat)) (show cdA 227 96 = some (.iload 5, 2, 0, 0, 0) from rfl) (List.Mem.head _) ?_
              refine z_aload_n X (x := A 179) (show cdA 227 98 = some (.aload_n 0, 1, 0, 0, 0) from rfl) (List.Mem.tail _ (List.Mem.tail _ (List.Mem.tail _ (List.Mem.head _)))) ?_
              refine s_getR X 179 (show cdA 227 99 = some (.getfield 76, 3, 12, 37, 0) from rfl) (by decide) rfl rfl ?_
              refine z_load X (x := (iC t (204 + (a : Int).toNat) (ka : Int).toNat)) (show cdA 227 102 = some (.iload 4, 2, 0, 0, 0) from rfl) (List.Mem.tail _ (List.Mem.tail _ (List.Mem.head _))) ?_
              refine z_zald X 258 (show cdA 227 104 = some (.baload, 1, 0, 0, 0) from rfl) (by decide) rfl (by first | exact b3006.1 | omega) (show (iC t (204 + (a : Int).toNat) (ka : Int).toNat) < 128 by first | exact oq_31b2bf10 b3006.2 | omega) (by decide) ?_
              have b3071 : (0 : Int) ≤ iC t 230 ((iC t (204 + (a : Int).toNat) (ka : Int).toNat)).toNat ∧ iC t 230 ((iC t (204 + (a : Int).toNat) (ka : Int).toNat)).toNat ≤ 1 := I.2 230 _ (show ((iC t (204 + (a : Int).toNat) (ka : Int).toNat)).toNat < 128 by first | exact oq_c7f4e9c1 b3006.2 | omega)
              refine z_icmp_eq X (t := 123) (show cdA 227 105 = some (.if_icmp .eq 18, 3, 0, 0, 0) from rfl) (by decide) (rng_to _) (rng_to _) (fun g3072 => ?_) (fun g3072 => ?_)
              ·
                refine z_load X (x := (iC t 230 ((iC t (204 + (a : Int).toNat) ((ka - 1) : Int).toNat)).toNat)) (show cdA 227 123 = some (.iload 5, 2, 0, 0, 0) from rfl) (List.Mem.head _) ?_
                refine z_if_eq X (t := 172) (show cdA 227 125 = some (.ifCond .eq 47, 3, 0, 0, 0) from rfl) (by decide) (rng_to _) (fun g3073 => ?_) (fun g3073 => ?_)
                ·
                  refine z_load_n X (x := a) (show cdA 227 172 = some (.iload_n 1, 1, 0, 0, 0) from rfl) (List.Mem.tail _ (List.Mem.tail _ (List.Mem.tail _ (List.Mem.tail _ (List.Mem.head _))))) ?_
                  refine z_const X (show cdA 227 173 = some (.iconst 1, 1, 0, 0, 0) from rfl) ?_
                  refine z_add X (show cdA 227 174 = some (.iadd, 1, 0, 0, 0) from rfl) ?_
                  refine z_store X (lv' := [(5, .int (Int32.ofInt (a + 1))), (2, .int (Int32.ofInt 0)), (4, .int (Int32.ofInt (iC t (204 + (a : Int).toNat) (ka : Int).toNat))), (0, .ref (A 179)), (1, .int (Int32.ofInt a)), (3, .int (Int32.ofInt ka))]) (show cdA 227 175 = some (.istore 5, 2, 0, 0, 0) from rfl) (by decide) (fun _ h => h) ?_
                  refine WS_lv (lv := [(0, .ref (A 179)), (1, .int (Int32.ofInt a)), (2, .int (Int32.ofInt 0)), (3, .int (Int32.ofInt ka)), (4, .int (Int32.ofInt (iC t (204 + (a : Int).toNat) (ka : Int).toNat))), (5, .int (Int32.ofInt (a + 1)))]) (List.forall_mem_cons.mpr ⟨(List.Mem.tail _ (List.Mem.tail _ (List.Mem.tail _ (List.Mem.head _)))), (List.forall_mem_cons.mpr ⟨(List.Mem.tail _ (List.Mem.tail _ (List.Mem.tail _ (List.Mem.tail _ (List.Mem.head _))))), (List.forall_mem_cons.mpr ⟨(List.Mem.tail _ (List.Mem.head _)), (List.forall_mem_cons.mpr ⟨(List.Mem.tail _ (List.Mem.tail _ (List.Mem.tail _ (List.Mem.tail _ (List.Mem.tail _ (List.Mem.head _)))))), (List.forall_mem_cons.mpr ⟨(List.Mem.tail _ (List.Mem.tail _ (List.Mem.head _))), (List.forall_mem_cons.mpr ⟨(List.Mem.head _), (fun q h => absurd h List.not_mem_nil)⟩)⟩)⟩)⟩)⟩)⟩) ?_
                  refine L177 ((12 - (a + 1) : Int).toNat + 1) t a 0 ka (iC t (204 + (a : Int).toNat) (ka : Int).toNat) (a + 1) I F jjNW jjNWL ⟨lmb_0 hq.2 (by omega) (ov_s0 (by omega) (by rw [hS1, hS2]; omega)) (cl_s0 (by omega) (by rw [hS1, hS2]; omega)), hcW, hIZ⟩ (by first | exact ⟨And.intro (hi.1.1) (And.intro (hi.1.2.1) (hi.1.2.2)), Or.inl (by decide), by omega, And.intro (b3006.1) (b3006.2), And.intro (by decide) (oq_afc84a8d hi.1.2.1), hi.2.2.2⟩ | omega) (Nat.lt_succ_self _) ?_
                  intro s3074 x3075 Is3074 Fs3074 JNW_s3074 JNWL_s3074 Qs3074 hs3074
                  have b3076 : (0 : Int) ≤ iI s3074 90 ∧ iI s3074 90 ≤ 12 := Is3074.1 90
                  refine z_inc X (x := ka) (lv' := [(3, .int (Int32.ofInt (ka + 1))), (0, .ref (A 179)), (1, .int (Int32.ofInt a)), (2, .int (Int32.ofInt 0)), (4, .int (Int32.ofInt (iC t (204 + (a : Int).toNat) (ka : Int).toNat))), (5, .int (Int32.ofInt x3075))]) (show cdA 227 278 = some (.iinc 3 1, 3, 0, 0, 0) from rfl) (by decide) (List.Mem.tail _ (List.Mem.tail _ (List.Mem.tail _ (List.Mem.head _)))) (fun _ h => h) ?_
                  refine z_goto X (t := 35) (show cdA 227 281 = some (.goto (-246), 3, 0, 0, 0) from rfl) (by decide) ?_
                  refine WS_lv (lv := [(0, .ref (A 179)), (1, .int (Int32.ofInt a)), (2, .int (Int32.ofInt 0)), (3, .int (Int32.ofInt (ka + 1)))]) (List.forall_mem_cons.mpr ⟨(List.Mem.tail _ (List.Mem.head _)), (List.forall_mem_cons.mpr ⟨(List.Mem.tail _ (List.Mem.tail _ (List.Mem.head _))), (List.forall_mem_cons.mpr ⟨(List.Mem.tail _ (List.Mem.tail _ (List.Mem.tail _ (List.Mem.head _)))), (List.forall_mem_cons.mpr ⟨(List.Mem.head _), (fun q h => absurd h List.not_mem_nil)⟩)⟩)⟩)⟩) ?_
                  exact ih _ a 0 (ka + 1) Is3074 Fs3074 JNW_s3074 JNWL_s3074 (lmk_up Qs3074.1 rfl (by omega) Qs3074.2.2) (by first | exact ⟨And.intro (hs3074.1.1) (And.intro (hs3074.1.2.1) (hs3074.1.2.2)), hs3074.2.1, And.intro (oq_54f49eb5 hs3074.2.2.1.1) (And.intro (oq_afc84a8d hs3074.2.2.1.2.1) (oq_3d4d89a6 hs3074.2.2.1.2.2)), hs3074.2.2.2⟩ | omega) (by first | exact qk_me hm (by decide) (oq_fa9b5cb9 hs3074.2.2.1.2.2) | omega) kx
                ·
                  refine z_aload_n X (x := A 179) (show cdA 227 128 = some (.aload_n 0, 1, 0, 0, 0) from rfl) (List.Mem.tail _ (List.Mem.tail _ (List.Mem.tail _ (List.Mem.head _)))) ?_
                  refine s_getR X 179 (show cdA 227 129 = some (.getfield 76, 3, 12, 37, 0) from rfl) (by decide) rfl rfl ?_
                  refine z_load X (x := (iC t (204 + (a : Int).toNat) (ka : Int).toNat)) (show cdA 227 132 = some (.iload 4, 2, 0, 0, 0) from rfl) (List.Mem.tail _ (List.Mem.tail _ (List.Mem.head _))) ?_
                  refine z_zald X 258 (show cdA 227 134 = some (.baload, 1, 0, 0, 0) from rfl) (by decide) rfl (by first | exact b3006.1 | omega) (show (iC t (204 + (a : Int).toNat) (ka : Int).toNat) < 128 by first | exact oq_31b2bf10 b3006.2 | omega) (by decide) ?_
                  have b3077 : (0 : Int) ≤ iC t 230 ((iC t (204 + (a : Int).toNat) (ka : Int).toNat)).toNat ∧ iC t 230 ((iC t (204 + (a : Int).toNat) (ka : Int).toNat)).toNat ≤ 1 := I.2 230 _ (show ((iC t (204 + (a : Int).toNat) (ka : Int).toNat)).toNat < 128 by first | exact oq_c7f4e9c1 b3006.2 | omega)
                  refine z_if_eq X (t := 172) (show cdA 227 135 = some (.ifCond .eq 37, 3, 0, 0, 0) from rfl) (by decide) (rng_to _) (fun g3078 => ?_) (fun g3078 => ?_)
                  ·
                    refine z_load_n X (x := a) (show cdA 227 172 = some (.iload_n 1, 1, 0, 0, 0) from rfl) (List.Mem.tail _ (List.Mem.tail _ (List.Mem.tail _ (List.Mem.tail _ (List.Mem.head _))))) ?_
                    refine z_const X (show cdA 227 173 = some (.iconst 1, 1, 0, 0, 0) from rfl) ?_
                    refine z_add X (show cdA 227 174 = some (.iadd, 1, 0, 0, 0) from rfl) ?_
                    refine z_store X (lv' := [(5, .int (Int32.ofInt (a + 1))), (2, .int (Int32.ofInt 0)), (4, .int (Int32.ofInt (iC t (204 + (a : Int).toNat) (ka : Int).toNat))), (0, .ref (A 179)), (1, .int (Int32.ofInt a)), (3, .int (Int32.ofInt ka))]) (show cdA 227 175 = some (.istore 5, 2, 0, 0, 0) from rfl) (by decide) (fun _ h => h) ?_
                    refine WS_lv (lv := [(0, .ref (A 179)), (1, .int (Int32.ofInt a)), (2, .int (Int32.ofInt 0)), (3, .int (Int32.ofInt ka)), (4, .int (Int32.ofInt (iC t (204 + (a : Int).toNat) (ka : Int).toNat))), (5, .int (Int32.ofInt (a + 1)))]) (List.forall_mem_cons.mpr ⟨(List.Mem.tail _ (List.Mem.tail _ (List.Mem.tail _ (List.Mem.head _)))), (List.forall_mem_cons.mpr ⟨(List.Mem.tail _ (List.Mem.tail _ (List.Mem.tail _ (List.Mem.tail _ (List.Mem.head _))))), (List.forall_mem_cons.mpr ⟨(List.Mem.tail _ (List.Mem.head _)), (List.forall_mem_cons.mpr ⟨(List.Mem.tail _ (List.Mem.tail _ (List.Mem.tail _ (List.Mem.tail _ (List.Mem.tail _ (List.Mem.head _)))))), (List.forall_mem_cons.mpr ⟨(List.Mem.tail _ (List.Mem.tail _ (List.Mem.head _))), (List.forall_mem_cons.mpr ⟨(List.Mem.head _), (fun q h => absurd h List.not_mem_nil)⟩)⟩)⟩)⟩)⟩)⟩) ?_
                    refine L177 ((12 - (a + 1) : Int).toNat + 1) t a 0 ka (iC t (204 + (a : Int).toNat) (ka : Int).toNat) (a + 1) I F jjNW jjNWL ⟨lmb_0 hq.2 (by omega) (ov_s0 (by omega) (by rw [hS1, hS2]; omega)) (cl_s0 (by omega) (by rw [hS1, hS2]; omega)), hcW, hIZ⟩ (by first | exact ⟨And.intro (hi.1.1) (And.intro (hi.1.2.1) (hi.1.2.2)), Or.inl (by decide), oq_43e56444 g3078 g3073 g3072 b3070.1, And.intro (b3006.1) (b3006.2), And.intro (by decide) (oq_afc84a8d hi.1.2.1), hi.2.2.2⟩ | omega) (Nat.lt_succ_self _) ?_
                    intro s3079 x3080 Is3079 Fs3079 JNW_s3079 JNWL_s3079 Qs3079 hs3079
                    have b3081 : (0 : Int) ≤ iI s3079 90 ∧ iI s3079 90 ≤ 12 := Is3079.1 90
                    refine z_inc X (x := ka) (lv' := [(3, .int (Int32.ofInt (ka + 1))), (0, .ref (A 179)), (1, .int (Int32.ofInt a)), (2, .int (Int32.ofInt 0)), (4, .int (Int32.ofInt (iC t (204 + (a : Int).toNat) (ka : Int).toNat))), (5, .int (Int32.ofInt x3080))]) (show cdA 227 278 = some (.iinc 3 1, 3, 0, 0, 0) from rfl) (by decide) (List.Mem.tail _ (List.Mem.tail _ (List.Mem.tail _ (List.Mem.head _)))) (fun _ h => h) ?_
                    refine z_goto X (t := 35) (show cdA 227 281 = some (.goto (-246), 3, 0, 0, 0) from rfl) (by decide) ?_
                    refine WS_lv (lv := [(0, .ref (A 179)), (1, .int (Int32.ofInt a)), (2, .int (Int32.ofInt 0)), (3, .int (Int32.ofInt (ka + 1)))]) (List.forall_mem_cons.mpr ⟨(List.Mem.tail _ (List.Mem.head _)), (List.forall_mem_cons.mpr ⟨(List.Mem.tail _ (List.Mem.tail _ (List.Mem.head _))), (List.forall_mem_cons.mpr ⟨(List.Mem.tail _ (List.Mem.tail _ (List.Mem.tail _ (List.Mem.head _)))), (List.forall_mem_cons.mpr ⟨(List.Mem.head _), (fun q h => absurd h List.not_mem_nil)⟩)⟩)⟩)⟩) ?_
                    exact ih _ a 0 (ka + 1) Is3079 Fs3079 JNW_s3079 JNWL_s3079 (lmk_up Qs3079.1 rfl (by omega) Qs3079.2.2) (by first | exact ⟨And.intro (hs3079.1.1) (And.intro (hs3079.1.2.1) (hs3079.1.2.2)), hs3079.2.1, And.intro (oq_54f49eb5 hs3079.2.2.1.1) (And.intro (oq_afc84a8d hs3079.2.2.1.2.1) (oq_3d4d89a6 hs3079.2.2.1.2.2)), hs3079.2.2.2⟩ | omega) (by first | exact qk_me hm (by decide) (oq_fa9b5cb9 hs3079.2.2.1.2.2) | omega) kx
                  ·
                    refine z_aload_n X (x := A 179) (show cdA 227 138 = some (.aload_n 0, 1, 0, 0, 0) from rfl) (List.Mem.tail _ (List.Mem.tail _ (List.Mem.tail _ (List.Mem.head _)))) ?_
                    refine s_getR X 179 (show cdA 227 139 = some (.getfield 64, 3, 12, 33, 0) from rfl) (by decide) rfl rfl ?_
                    refine z_load_n X (x := a) (show cdA 227 142 = some (.iload_n 1, 1, 0, 0, 0) from rfl) (List.Mem.tail _ (List.Mem.tail _ (List.Mem.tail _ (List.Mem.tail _ (List.Mem.head _))))) ?_
                    refine z_aald X rw_230 (show cdA 227 143 = some (.aaload, 1, 0, 0, 0) from rfl) (by first | exact hi.1.1 | omega) (show a < 12 by first | exact oq_0ddfcfee hi.1.2.2 | omega) (by decide) ?_
                    refine z_load_n X (x := ka) (show cdA 227 144 = some (.iload_n 3, 1, 0, 0, 0) from rfl) (List.Mem.tail _ (List.Mem.tail _ (List.Mem.tail _ (List.Mem.tail _ (List.Mem.tail _ (List.Mem.head _)))))) ?_
                    refine z_const X (show cdA 227 145 = some (.iconst 1, 1, 0, 0, 0) from rfl) ?_
                    refine z_sub X (show cdA 227 146 = some (.isub, 1, 0, 0, 0) from rfl) ?_
                    refine z_ald2 X rw_230 (show cdA 227 147 = some (.iaload, 1, 0, 0, 0) from rfl) (show (a : Int).toNat < 12 by first | exact oq_9c5fa447 hi.1.2.2 | omega) (by first | exact oq_a4f22177 g3065 | omega) (show (ka - 1) < 24 by first | exact oq_19cb6f5b hi.2.2.1.2.2 | omega) (by decide) ?_
                    have b3082 : (0 : Int) ≤ (iC t (204 + (a : Int).toNat) ((ka - 1) : Int).toNat) ∧ (iC t (204 + (a : Int).toNat) ((ka - 1) : Int).toNat) ≤ 127 := rw_bd rw_230 I (show (a : Int).toNat < 12 by first | exact oq_9c5fa447 hi.1.2.2 | omega) (show ((ka - 1) : Int).toNat < 24 by first | exact oq_f976b25c hi.2.2.1.2.2 | omega)
                    refine z_load X (x := (iC t (204 + (a : Int).toNat) (ka : Int).toNat)) (show cdA 227 148 = some (.iload 4, 2, 0, 0, 0) from rfl) (List.Mem.tail _ (List.Mem.tail _ (List.Mem.head _))) ?_
                    refine z_callS X (rm := rmN 225) (As := [.int (Int32.ofInt (iC t (204 + (a : Int).toNat) ((ka - 1) : Int).toNat)), .int (Int32.ofInt (iC t (204 + (a : Int).toNat) (ka : Int).toNat))]) (st := []) (show cdA 227 150 = some (.invokestatic 312, 3, 225, 1, 0) from rfl) rfl (by rw [E.1, E.2.1, E.2.2.1]; exact k_stepOf3 G I (by first | exact ⟨b3082.1, b3082.2⟩ | omega) (by first | exact ⟨b3006.1, b3006.2⟩ | omega)) ⟨by rw [E.2.2.2]; exact (show (rmN 225).frames + 1 ≤ (rmN 227).frames by decide), by rw [E.2.2.2]; exact (show 8 + (mNL (miB 225) + 11) + (rmN 225).locals ≤ (rmN 227).locals by decide), by rw [E.2.2.2]; exact (show 0 + (rmN 225).cells ≤ (rmN 227).cells by decide), by rw [E.2.2.2]; exact (show 0 + (rmN 225).slots ≤ (rmN 227).slots by decide)⟩ (Nat.le_of_ble_eq_true rfl) (fun vv s3083 hq => ?_) (fun ee s3083 hq => ?_)
                    rotate_left
                    · obtain ⟨rfl, e3084, hv, hrs3083, hps3083⟩ := hq; cases hv
                    obtain ⟨rfl, e3084, hv, hrs3083, hps3083⟩ := hq
                    cases hv
                    show WS k 153 [(5, .int (Int32.ofInt (iC t 230 ((iC t (204 + (a : Int).toNat) ((ka - 1) : Int).toNat)).toNat))), (2, .int (Int32.ofInt 0)), (4, .int (Int32.ofInt (iC t (204 + (a : Int).toNat) (ka : Int).toNat))), (0, .ref (A 179)), (1, .int (Int32.ofInt a)), (3, .int (Int32.ofInt ka))] [.int (Int32.ofInt e3084)] (Wd A dT t) 0 0
                    have hcQ : iC t (204 + (a : Int).toNat) (ka - 1).toNat = fwM s (a : Int).toNat (ka - 1).toNat := fm_c F (fun h => by have := List.mem_singleton.mp h; omega)
                    have hGB : e3084 = goB (fwM s (a : Int).toNat (ka - 1).toNat) (fwM s (a : Int).toNat (ka : Int).toNat) := by rw [← hcQ, ← hcW]; exact hps3083.1
                    refine z_const X (show cdA 227 153 = some (.iconst 3, 1, 0, 0, 0) from rfl) ?_
                    refine z_icmp_le X (t := 172) (show cdA 227 154 = some (.if_icmp .le 18, 3, 5, 0, 0) from rfl) (by decide) hrs3083 (by decide) (fun g3085 => ?_) (fun g3085 => ?_)
                    ·
                      refine z_load_n X (x := a) (show cdA 227 172 = some (.iload_n 1, 1, 0, 0, 0) from rfl) (List.Mem.tail _ (List.Mem.tail _ (List.Mem.tail _ (List.Mem.tail _ (List.Mem.head _))))) ?_
                      refine z_const X (show cdA 227 173 = some (.iconst 1, 1, 0, 0, 0) from rfl) ?_
                      refine z_add X (show cdA 227 174 = some (.iadd, 1, 0, 0, 0) from rfl) ?_
                      refine z_store X (lv' := [(5, .int (Int32.ofInt (a + 1))), (2, .int (Int32.ofInt 0)), (4, .int (Int32.ofInt (iC t (204 + (a : Int).toNat) (ka : Int).toNat))), (0, .ref (A 179)), (1, .int (Int32.ofInt a)), (3, .int (Int32.ofInt ka))]) (show cdA 227 175 = some (.istore 5, 2, 0, 0, 0) from rfl) (by decide) (fun _ h => h) ?_
                      refine WS_lv (lv := [(0, .ref (A 179)), (1, .int (Int32.ofInt a)), (2, .int (Int32.ofInt 0)), (3, .int (Int32.ofInt ka)), (4, .int (Int32.ofInt (iC t (204 + (a : Int).toNat) (ka : Int).toNat))), (5, .int (Int32.ofInt (a + 1)))]) (List.forall_mem_cons.mpr ⟨(List.Mem.tail _ (List.Mem.tail _ (List.Mem.tail _ (List.Mem.head _)))), (List.forall_mem_cons.mpr ⟨(List.Mem.tail _ (List.Mem.tail _ (List.Mem.tail _ (List.Mem.tail _ (List.Mem.head _))))), (List.forall_mem_cons.mpr ⟨(List.Mem.tail _ (List.Mem.head _)), (List.forall_mem_cons.mpr ⟨(List.Mem.tail _ (List.Mem.tail _ (List.Mem.tail _ (List.Mem.tail _ (List.Mem.tail _ (List.Mem.head _)))))), (List.forall_mem_cons.mpr ⟨(List.Mem.tail _ (List.Mem.tail _ (List.Mem.head _))), (List.forall_mem_cons.mpr ⟨(List.Mem.head _), (fun q h => absurd h List.not_mem_nil)⟩)⟩)⟩)⟩)⟩)⟩) ?_
                      refine L177 ((12 - (a + 1) : Int).toNat + 1) t a 0 ka (iC t (204 + (a : Int).toNat) (ka : Int).toNat) (a + 1) I F jjNW jjNWL ⟨lmb_0 hq.2 (by omega) (ov_s0 (by omega) (by rw [hS1, hS2]; omega)) (cl_s0 (by omega) (by rw [hS1, hS2, ← hGB]; omega)), hcW, hIZ⟩ (by first | exact ⟨And.intro (hi.1.1) (And.intro (hi.1.2.1) (hi.1.2.2)), Or.inl (by decide), oq_1ba344f2 g3078 b3077.1 g3064, And.intro (b3006.1) (b3006.2), And.intro (by decide) (oq_afc84a8d hi.1.2.1), hi.2.2.2⟩ | omega) (Nat.lt_succ_self _) ?_
                      intro s3086 x3087 Is3086 Fs3086 JNW_s3086 JNWL_s3086 Qs3086 hs3086
                      have b3088 : (0 : Int) ≤ iI s3086 90 ∧ iI s3086 90 ≤ 12 := Is3086.1 90
                      refine z_inc X (x := ka) (lv' := [(3, .int (Int32.ofInt (ka + 1))), (0, .ref (A 179)), (1, .int (Int32.ofInt a)), (2, .int (Int32.ofInt 0)), (4, .int (Int32.ofInt (iC t (204 + (a : Int).toNat) (ka : Int).toNat))), (5, .int (Int32.ofInt x3087))]) (show cdA 227 278 = some (.iinc 3 1, 3, 0, 0, 0) from rfl) (by decide) (List.Mem.tail _ (List.Mem.tail _ (List.Mem.tail _ (List.Mem.head _)))) (fun _ h => h) ?_
                      refine z_goto X (t := 35) (show cdA 227 281 = some (.goto (-246), 3, 0, 0, 0) from rfl) (by decide) ?_
                      refine WS_lv (lv := [(0, .ref (A 179)), (1, .int (Int32.ofInt a)), (2, .int (Int32.ofInt 0)), (3, .int (Int32.ofInt (ka + 1)))]) (List.forall_mem_cons.mpr ⟨(List.Mem.tail _ (List.Mem.head _)), (List.forall_mem_cons.mpr ⟨(List.Mem.tail _ (List.Mem.tail _ (List.Mem.head _))), (List.forall_mem_cons.mpr ⟨(List.Mem.tail _ (List.Mem.tail _ (List.Mem.tail _ (List.Mem.head _)))), (List.forall_mem_cons.mpr ⟨(List.Mem.head _), (fun q h => absurd h List.not_mem_nil)⟩)⟩)⟩)⟩) ?_
                      exact ih _ a 0 (ka + 1) Is3086 Fs3086 JNW_s3086 JNWL_s3086 (lmk_up Qs3086.1 rfl (by omega) Qs3086.2.2) (by first | exact ⟨And.intro (hs3086.1.1) (And.intro (hs3086.1.2.1) (hs3086.1.2.2)), hs3086.2.1, And.intro (oq_54f49eb5 hs3086.2.2.1.1) (And.intro (oq_afc84a8d hs3086.2.2.1.2.1) (oq_3d4d89a6 hs3086.2.2.1.2.2)), hs3086.2.2.2⟩ | omega) (by first | exact qk_me hm (by decide) (oq_fa9b5cb9 hs3086.2.2.1.2.2) | omega) kx
                    ·
                      refine z_aload_n X (x := A 179) (show cdA 227 157 = some (.aload_n 0, 1, 0, 0, 0) from rfl) (List.Mem.tail _ (List.Mem.tail _ (List.Mem.tail _ (List.Mem.head _)))) ?_
                      refine s_getR X 179 (show cdA 227 158 = some (.getfield 32, 3, 12, 21, 0) from rfl) (by decide) rfl rfl ?_
                      refine z_const X (show cdA 227 161 = some (.iconst 3, 1, 0, 0, 0) from rfl) ?_
                      refine w_dup2_11 X.1 (ax_d X (show cdA 227 162 = some (.dup2, 1, 0, 0, 0) from rfl)) rfl rfl ?_
                      refine z_ald X 184 (show cdA 227 163 = some (.iaload, 1, 0, 0, 0) from rfl) (by decide) rfl (by decide) (show 3 < 7 by decide) (by decide) ?_
                      have b3089 : ((-2147483648) : Int) ≤ iC t 161 (3 : Int).toNat ∧ iC t 161 (3 : Int).toNat ≤ 2147483647 := I.2 161 _ (show (3 : Int).toNat < 7 by first | exact oq_bea6b7ec | omega)
                      refine z_aload_n X (x := A 179) (show cdA 227 164 = some (.aload_n 0, 1, 0, 0, 0) from rfl) (List.Mem.tail _ (List.Mem.tail _ (List.Mem.tail _ (List.Mem.head _)))) ?_
                      refine s_getR X 179 (show cdA 227 165 = some (.getfield 61, 3, 12, 32, 0) from rfl) (by decide) rfl rfl ?_
                      refine z_load_n X (x := a) (show cdA 227 168 = some (.iload_n 1, 1, 0, 0, 0) from rfl) (List.Mem.tail _ (List.Mem.tail _ (List.Mem.tail _ (List.Mem.tail _ (List.Mem.head _))))) ?_
                      refine z_ald X 229 (show cdA 227 169 = some (.iaload, 1, 0, 0, 0) from rfl) (by decide) rfl (by first | exact hi.1.1 | omega) (show a < 12 by first | exact oq_0ddfcfee hi.1.2.2 | omega) (by decide) ?_
                      have b3090 : (0 : Int) ≤ iC t 203 (a).toNat ∧ iC t 203 (a).toNat ≤ 50 := I.2 203 _ (show (a).toNat < 12 by first | exact oq_9c5fa447 hi.1.2.2 | omega)
                      refine z_add X (show cdA 227 170 = some (.iadd, 1, 0, 0, 0) from rfl) ?_
                      have hM3 := (fm_c F (by decide) : iC t 203 (a : Int).toNat = iC s 203 (a : Int).toNat)
                      have hR4 := lm_r (S := inM s) hMo hMy (a := (a : Int).toNat) (k := (ka - 1).toNat) (by omega) (by omega)
                      have hR5 : 0 ≤ iC s 203 (a : Int).toNat ∧ iC s 203 (a : Int).toNat ≤ 50 := hMo (a : Int).toNat (by omega)
                      have hN3 : iC t 161 (3 : Int).toNat = caH (inM s) (WYM s) (moM s) (a : Int).toNat + moM s (a : Int).toNat * clH (inM s) (fwM s (a : Int).toNat) (ka - 1).toNat := hq.2.2.2.2.1
                      refine z_ast X 184 (show cdA 227 171 = some (.iastore, 1, 0, 0, 0) from rfl) (by decide) rfl (by decide) (show 3 < 7 by decide) (by decide) ?_
                      obtain ⟨s3091, hs3091⟩ : ∃ x0, x0 = uC t 161 (3 : Int).toNat (Int32.ofInt ((iC t 161 (3 : Int).toNat) + (iC t 203 (a).toNat))) := ⟨_, rfl⟩
                      rw [← hs3091]
                      have Is3091 : Bd s3091 := by rw [hs3091]; exact bd_C I (show ((-2147483648) : Int) ≤ ((iC t 161 (3 : Int).toNat) + (iC t 203 (a).toNat)) ∧ ((iC t 161 (3 : Int).toNat) + (iC t 203 (a).toNat)) ≤ 2147483647 by first | exact ⟨oq_d82b5a64 b3090.1 b3089.1, oq_23ff899f g3078 b3077.1 g3064⟩ | omega) ⟨by first | exact oq_d82b5a64 b3090.1 b3089.1 | omega, by first | exact oq_23ff899f g3078 b3077.1 g3064 | omega⟩
                      have Fs3091 := fm_C (i := (3 : Int).toNat) (x := Int32.ofInt ((iC t 161 (3 : Int).toNat) + (iC t 203 (a).toNat))) F (show 161 ∈ _ by decide)
                      rw [← hs3091] at Fs3091
                      have ws3091_90 : iI s3091 90 = iI t 90 := by rw [hs3091]; rfl
                      have fs3091 : Fm [] [161] t s3091 := by rw [hs3091]; exact fm_C (fm_rf _ _ _) (show 161 ∈ _ by decide)
                      have JNW_s3091 : NW s3091 := NW_fm fs3091 (by decide) jjNW
                      have JNWL_s3091 : NWL s3091 := NWL_fm fs3091 (by decide) jjNWL
                      refine z_load_n X (x := a) (show cdA 227 172 = some (.iload_n 1, 1, 0, 0, 0) from rfl) (List.Mem.tail _ (List.Mem.tail _ (List.Mem.tail _ (List.Mem.tail _ (List.Mem.head _))))) ?_
                      refine z_const X (show cdA 227 173 = some (.iconst 1, 1, 0, 0, 0) from rfl) ?_
                      refine z_add X (show cdA 227 174 = some (.iadd, 1, 0, 0, 0) from rfl) ?_
                      refine z_store X (lv' := [(5, .int (Int32.ofInt (a + 1))), (2, .int (Int32.ofInt 0)), (4, .int (Int32.ofInt (iC t (204 + (a : Int).toNat) (ka : Int).toNat))), (0, .ref (A 179)), (1, .int (Int32.ofInt a)), (3, .int (Int32.ofInt ka))]) (show cdA 227 175 = some (.istore 5, 2, 0, 0, 0) from rfl) (by decide) (fun _ h => h) ?_
                      refine WS_lv (lv := [(0, .ref (A 179)), (1, .int (Int32.ofInt a)), (2, .int (Int32.ofInt 0)), (3, .int (Int32.ofInt ka)), (4, .int (Int32.ofInt (iC t (204 + (a : Int).toNat) (ka : Int).toNat))), (5, .int (Int32.ofInt (a + 1)))]) (List.forall_mem_cons.mpr ⟨(List.Mem.tail _ (List.Mem.tail _ (List.Mem.tail _ (List.Mem.head _)))), (List.forall_mem_cons.mpr ⟨(List.Mem.tail _ (List.Mem.tail _ (List.Mem.tail _ (List.Mem.tail _ (List.Mem.head _))))), (List.forall_mem_cons.mpr ⟨(List.Mem.tail _ (List.Mem.head _)), (List.forall_mem_cons.mpr ⟨(List.Mem.tail _ (List.Mem.tail _ (List.Mem.tail _ (List.Mem.tail _ (List.Mem.tail _ (List.Mem.head _)))))), (List.forall_mem_cons.mpr ⟨(List.Mem.tail _ (List.Mem.tail _ (List.Mem.head _))), (List.forall_mem_cons.mpr ⟨(List.Mem.head _), (fun q h => absurd h List.not_mem_nil)⟩)⟩)⟩)⟩)⟩)⟩) ?_
                      refine L177 ((12 - (a + 1) : Int).toNat + 1) s3091 a 0 ka (iC t (204 + (a : Int).toNat) (ka : Int).toNat) (a + 1) Is3091 Fs3091 JNW_s3091 JNWL_s3091 ⟨lmb_0 (nm_3 hq.2 hs3091 (by rw [hM3]; exact ⟨by omega, by omega⟩)) (by omega) (ov_s0 (by omega) (by rw [hS1, hS2]; omega)) (by rw [hM3]; exact cl_st (by omega) (Or.inl ⟨rfl, by rw [hS1, hS2, ← hGB]; omega⟩)), hcW, hIZ⟩ (by first | exact ⟨And.intro (hi.1.1) (And.intro (hi.1.2.1) (hi.1.2.2)), Or.inl (by decide), oq_1ba344f2 g3078 b3077.1 g3064, And.intro (b3006.1) (b3006.2), And.intro (by decide) (oq_afc84a8d hi.1.2.1), oq_1aa5be9e ws3091_90 hi.2.2.2⟩ | omega) (Nat.lt_succ_self _) ?_
                      intro s3092 x3093 Is3092 Fs3092 JNW_s3092 JNWL_s3092 Qs3092 hs3092
                      have b3094 : (0 : Int) ≤ iI s3092 90 ∧ iI s3092 90 ≤ 12 := Is3092.1 90
                      refine z_inc X (x := ka) (lv' := [(3, .int (Int32.ofInt (ka + 1))), (0, .ref (A 179)), (1, .int (Int32.ofInt a)), (2, .int (Int32.ofInt 0)), (4, .int (Int32.ofInt (iC t (204 + (a : Int).toNat) (ka : Int).toNat))), (5, .int (Int32.ofInt x3093))]) (show cdA 227 278 = some (.iinc 3 1, 3, 0, 0, 0) from rfl) (by decide) (List.Mem.tail _ (List.Mem.tail _ (List.Mem.tail _ (List.Mem.head _)))) (fun _ h => h) ?_
                      refine z_goto X (t := 35) (show cdA 227 281 = some (.goto (-246), 3, 0, 0, 0) from rfl) (by decide) ?_
                      refine WS_lv (lv := [(0, .ref (A 179)), (1, .int (Int32.ofInt a)), (2, .int (Int32.ofInt 0)), (3, .int (Int32.ofInt (ka + 1)))]) (List.forall_mem_cons.mpr ⟨(List.Mem.tail _ (List.Mem.head _)), (List.forall_mem_cons.mpr ⟨(List.Mem.tail _ (List.Mem.tail _ (List.Mem.head _))), (List.forall_mem_cons.mpr ⟨(List.Mem.tail _ (List.Mem.tail _ (List.Mem.tail _ (List.Mem.head _)))), (List.forall_mem_cons.mpr ⟨(List.Mem.head _), (fun q h => absurd h List.not_mem_nil)⟩)⟩)⟩)⟩) ?_
                      exact ih _ a 0 (ka + 1) Is3092 Fs3092 JNW_s3092 JNWL_s3092 (lmk_up Qs3092.1 rfl (by omega) Qs3092.2.2) (by first | exact ⟨And.intro (hs3092.1.1) (And.intro (hs3092.1.2.1) (hs3092.1.2.2)), hs3092.2.1, And.intro (oq_54f49eb5 hs3092.2.2.1.1) (And.intro (oq_afc84a8d hs3092.2.2.1.2.1) (oq_3d4d89a6 hs3092.2.2.1.2.2)), hs3092.2.2.2⟩ | omega) (by first | exact qk_me hm (by decide) (oq_fa9b5cb9 hs3092.2.2.1.2.2) | omega) kx
              ·
                refine z_aload_n X (x := A 179) (show cdA 227 108 = some (.aload_n 0, 1, 0, 0, 0) from rfl) (List.Mem.tail _ (List.Mem.tail _ (List.Mem.tail _ (List.Mem.head _)))) ?_
                refine s_getR X 179 (show cdA 227 109 = some (.getfield 32, 3, 12, 21, 0) from rfl) (by decide) rfl rfl ?_
                refine z_const X (show cdA 227 112 = some (.iconst 2, 1, 0, 0, 0) from rfl) ?_
                refine w_dup2_11 X.1 (ax_d X (show cdA 227 113 = some (.dup2, 1, 0, 0, 0) from rfl)) rfl rfl ?_
                refine z_ald X 184 (show cdA 227 114 = some (.iaload, 1, 0, 0, 0) from rfl) (by decide) rfl (by decide) (show 2 < 7 by decide) (by decide) ?_
                have b3095 : ((-2147483648) : Int) ≤ iC t 161 (2 : Int).toNat ∧ iC t 161 (2 : Int).toNat ≤ 2147483647 := I.2 161 _ (show (2 : Int).toNat < 7 by first | exact oq_62527c24 | omega)
                refine z_aload_n X (x := A 179) (show cdA 227 115 = some (.aload_n 0, 1, 0, 0, 0) from rfl) (List.Mem.tail _ (List.Mem.tail _ (List.Mem.tail _ (List.Mem.head _)))) ?_
                refine s_getR X 179 (show cdA 227 116 = some (.getfield 61, 3, 12, 32, 0) from rfl) (by decide) rfl rfl ?_
                refine z_load_n X (x := a) (show cdA 227 119 = some (.iload_n 1, 1, 0, 0, 0) from rfl) (List.Mem.tail _ (List.Mem.tail _ (List.Mem.tail _ (List.Mem.tail _ (List.Mem.head _))))) ?_
                refine z_ald X 229 (show cdA 227 120 = some (.iaload, 1, 0, 0, 0) from rfl) (by decide) rfl (by first | exact hi.1.1 | omega) (show a < 12 by first | exact oq_0ddfcfee hi.1.2.2 | omega) (by decide) ?_
                have b3096 : (0 : Int) ≤ iC t 203 (a).toNat ∧ iC t 203 (a).toNat ≤ 50 := I.2 203 _ (show (a).toNat < 12 by first | exact oq_9c5fa447 hi.1.2.2 | omega)
                refine z_add X (show cdA 227 121 = some (.iadd, 1, 0, 0, 0) from rfl) ?_
                have hM2 := (fm_c F (by decide) : iC t 203 (a : Int).toNat = iC s 203 (a : Int).toNat)
                have hR2 := lm_r (S := inM s) hMo hMy (a := (a : Int).toNat) (k := (ka - 1).toNat) (by omega) (by omega)
                have hR3 : 0 ≤ iC s 203 (a : Int).toNat ∧ iC s 203 (a : Int).toNat ≤ 50 := hMo (a : Int).toNat (by omega)
                have hN2 : iC t 161 (2 : Int).toNat = oaH (inM s) (WYM s) (moM s) (a : Int).toNat + moM s (a : Int).toNat * ovH (inM s) (fwM s (a : Int).toNat) (ka - 1).toNat := hq.2.2.2.1
                refine z_ast X 184 (show cdA 227 122 = some (.iastore, 1, 0, 0, 0) from rfl) (by decide) rfl (by decide) (show 2 < 7 by decide) (by decide) ?_
                obtain ⟨s3097, hs3097⟩ : ∃ x0, x0 = uC t 161 (2 : Int).toNat (Int32.ofInt ((iC t 161 (2 : Int).toNat) + (iC t 203 (a).toNat))) := ⟨_, rfl⟩
                rw [← hs3097]
                have Is3097 : Bd s3097 := by rw [hs3097]; exact bd_C I (show ((-2147483648) : Int) ≤ ((iC t 161 (2 : Int).toNat) + (iC t 203 (a).toNat)) ∧ ((iC t 161 (2 : Int).toNat) + (iC t 203 (a).toNat)) ≤ 2147483647 by first | exact ⟨oq_d82b5a64 b3096.1 b3095.1, by omega⟩ | omega) ⟨by first | exact oq_d82b5a64 b3096.1 b3095.1 | omega, by omega⟩
                have Fs3097 := fm_C (i := (2 : Int).toNat) (x := Int32.ofInt ((iC t 161 (2 : Int).toNat) + (iC t 203 (a).toNat))) F (show 161 ∈ _ by decide)
                rw [← hs3097] at Fs3097
                have ws3097_90 : iI s3097 90 = iI t 90 := by rw [hs3097]; rfl
                have fs3097 : Fm [] [161] t s3097 := by rw [hs3097]; exact fm_C (fm_rf _ _ _) (show 161 ∈ _ by decide)
                have JNW_s3097 : NW s3097 := NW_fm fs3097 (by decide) jjNW
                have JNWL_s3097 : NWL s3097 := NWL_fm fs3097 (by decide) jjNWL
                refine z_load X (x := (iC t 230 ((iC t (204 + (a : Int).toNat) ((ka - 1) : Int).toNat)).toNat)) (show cdA 227 123 = some (.iload 5, 2, 0, 0, 0) from rfl) (List.Mem.head _) ?_
                refine z_if_eq X (t := 172) (show cdA 227 125 = some (.ifCond .eq 47, 3, 0, 0, 0) from rfl) (by decide) (rng_to _) (fun g3098 => ?_) (fun g3098 => ?_)
                ·
                  refine z_load_n X (x := a) (show cdA 227 172 = some (.iload_n 1, 1, 0, 0, 0) from rfl) (List.Mem.tail _ (List.Mem.tail _ (List.Mem.tail _ (List.Mem.tail _ (List.Mem.head _))))) ?_
                  refine z_const X (show cdA 227 173 = some (.iconst 1, 1, 0, 0, 0) from rfl) ?_
                  refine z_add X (show cdA 227 174 = some (.iadd, 1, 0, 0, 0) from rfl) ?_
                  refine z_store X (lv' := [(5, .int (Int32.ofInt (a + 1))), (2, .int (Int32.ofInt 0)), (4, .int (Int32.ofInt (iC t (204 + (a : Int).toNat) (ka : Int).toNat))), (0, .ref (A 179)), (1, .int (Int32.ofInt a)), (3, .int (Int32.ofInt ka))]) (show cdA 227 175 = some (.istore 5, 2, 0, 0, 0) from rfl) (by decide) (fun _ h => h) ?_
                  refine WS_lv (lv := [(0, .ref (A 179)), (1, .int (Int32.ofInt a)), (2, .int (Int32.ofInt 0)), (3, .int (Int32.ofInt ka)), (4, .int (Int32.ofInt (iC t (204 + (a : Int).toNat) (ka : Int).toNat))), (5, .int (Int32.ofInt (a + 1)))]) (List.forall_mem_cons.mpr ⟨(List.Mem.tail _ (List.Mem.tail _ (List.Mem.tail _ (List.Mem.head _)))), (List.forall_mem_cons.mpr ⟨(List.Mem.tail _ (List.Mem.tail _ (List.Mem.tail _ (List.Mem.tail _ (List.Mem.head _))))), (List.forall_mem_cons.mpr ⟨(List.Mem.tail _ (List.Mem.head _)), (List.forall_mem_cons.mpr ⟨(List.Mem.tail _ (List.Mem.tail _ (List.Mem.tail _ (List.Mem.tail _ (List.Mem.tail _ (List.Mem.head _)))))), (List.forall_mem_cons.mpr ⟨(List.Mem.tail _ (List.Mem.tail _ (List.Mem.head _))), (List.forall_mem_cons.mpr ⟨(List.Mem.head _), (fun q h => absurd h List.not_mem_nil)⟩)⟩)⟩)⟩)⟩)⟩) ?_
                  refine L177 ((12 - (a + 1) : Int).toNat + 1) s3097 a 0 ka (iC t (204 + (a : Int).toNat) (ka : Int).toNat) (a + 1) Is3097 Fs3097 JNW_s3097 JNWL_s3097 ⟨lmb_0 (nm_2 hq.2 hs3097 (by rw [hM2]; exact ⟨by omega, by omega⟩)) (by omega) (by rw [hM2]; exact ov_st (by omega) (Or.inl ⟨rfl, by rw [hS1, hS2]; omega⟩)) (cl_s0 (by omega) (by rw [hS1, hS2]; omega)), hcW, hIZ⟩ (by first | exact ⟨And.intro (hi.1.1) (And.intro (hi.1.2.1) (hi.1.2.2)), Or.inl (by decide), oq_bbbbcd0d g3098 g3072 b3071.1 g3064, And.intro (b3006.1) (b3006.2), And.intro (by decide) (oq_afc84a8d hi.1.2.1), oq_1aa5be9e ws3097_90 hi.2.2.2⟩ | omega) (Nat.lt_succ_self _) ?_
                  intro s3099 x3100 Is3099 Fs3099 JNW_s3099 JNWL_s3099 Qs3099 hs3099
                  have b3101 : (0 : Int) ≤ iI s3099 90 ∧ iI s3099 90 ≤ 12 := Is3099.1 90
                  refine z_inc X (x := ka) (lv' := [(3, .int (Int32.ofInt (ka + 1))), (0, .ref (A 179)), (1, .int (Int32.ofInt a)), (2, .int (Int32.ofInt 0)), (4, .int (Int32.ofInt (iC t (204 + (a : Int).toNat) (ka : Int).toNat))), (5, .int (Int32.ofInt x3100))]) (show cdA 227 278 = some (.iinc 3 1, 3, 0, 0, 0) from rfl) (by decide) (List.Mem.tail _ (List.Mem.tail _ (List.Mem.tail _ (List.Mem.head _)))) (fun _ h => h) ?_
                  refine z_goto X (t := 35) (show cdA 227 281 = some (.goto (-246), 3, 0, 0, 0) from rfl) (by decide) ?_
                  refine WS_lv (lv := [(0, .ref (A 179)), (1, .int (Int32.ofInt a)), (2, .int (Int32.ofInt 0)), (3, .int (Int32.ofInt (ka + 1)))]) (List.forall_mem_cons.mpr ⟨(List.Mem.tail _ (List.Mem.head _)), (List.forall_mem_cons.mpr ⟨(List.Mem.tail _ (List.Mem.tail _ (List.Mem.head _))), (List.forall_mem_cons.mpr ⟨(List.Mem.tail _ (List.Mem.tail _ (List.Mem.tail _ (List.Mem.head _)))), (List.forall_mem_cons.mpr ⟨(List.Mem.head _), (fun q h => absurd h List.not_mem_nil)⟩)⟩)⟩)⟩) ?_
                  exact ih _ a 0 (ka + 1) Is3099 Fs3099 JNW_s3099 JNWL_s3099 (lmk_up Qs3099.1 rfl (by omega) Qs3099.2.2) (by first | exact ⟨And.intro (hs3099.1.1) (And.intro (hs3099.1.2.1) (hs3099.1.2.2)), hs3099.2.1, And.intro (oq_54f49eb5 hs3099.2.2.1.1) (And.intro (oq_afc84a8d hs3099.2.2.1.2.1) (oq_3d4d89a6 hs3099.2.2.1.2.2)), hs3099.2.2.2⟩ | omega) (by first | exact qk_me hm (by decide) (oq_fa9b5cb9 hs3099.2.2.1.2.2) | omega) kx
                ·
                  have hZ8 : iC s3097 230 ((iC t (204 + (a : Int).toNat) (ka : Int).toNat) : Int).toNat = iC t 230 ((iC t (204 + (a : Int).toNat) (ka : Int).toNat) : Int).toNat := by rw [hs3097]; exact iC_a (by decide)
                  refine z_aload_n X (x := A 179) (show cdA 227 128 = some (.aload_n 0, 1, 0, 0, 0) from rfl) (List.Mem.tail _ (List.Mem.tail _ (List.Mem.tail _ (List.Mem.head _)))) ?_
                  refine s_getR X 179 (show cdA 227 129 = some (.getfield 76, 3, 12, 37, 0) from rfl) (by decide) rfl rfl ?_
                  refine z_load X (x := (iC t (204 + (a : Int).toNat) (ka : Int).toNat)) (show cdA 227 132 = some (.iload 4, 2, 0, 0, 0) from rfl) (List.Mem.tail _ (List.Mem.tail _ (List.Mem.head _))) ?_
                  refine z_zald X 258 (show cdA 227 134 = some (.baload, 1, 0, 0, 0) from rfl) (by decide) rfl (by first | exact b3006.1 | omega) (show (iC t (204 + (a : Int).toNat) (ka : Int).toNat) < 128 by first | exact oq_31b2bf10 b3006.2 | omega) (by decide) ?_
                  have b3102 : (0 : Int) ≤ iC s3097 230 ((iC t (204 + (a : Int).toNat) (ka : Int).toNat)).toNat ∧ iC s3097 230 ((iC t (204 + (a : Int).toNat) (ka : Int).toNat)).toNat ≤ 1 := Is3097.2 230 _ (show ((iC t (204 + (a : Int).toNat) (ka : Int).toNat)).toNat < 128 by first | exact oq_c7f4e9c1 b3006.2 | omega)
                  refine z_if_eq X (t := 172) (show cdA 227 135 = some (.ifCond .eq 37, 3, 0, 0, 0) from rfl) (by decide) (rng_to _) (fun g3103 => ?_) (fun g3103 => ?_)
                  ·
                    refine z_load_n X (x := a) (show cdA 227 172 = some (.iload_n 1, 1, 0, 0, 0) from rfl) (List.Mem.tail _ (List.Mem.tail _ (List.Mem.tail _ (List.Mem.tail _ (List.Mem.head _))))) ?_
                    refine z_const X (show cdA 227 173 = some (.iconst 1, 1, 0, 0, 0) from rfl) ?_
                    refine z_add X (show cdA 227 174 = some (.iadd, 1, 0, 0, 0) from rfl) ?_
                    refine z_store X (lv' := [(5, .int (Int32.ofInt (a + 1))), (2, .int (Int32.ofInt 0)), (4, .int (Int32.ofInt (iC t (204 + (a : Int).toNat) (ka : Int).toNat))), (0, .ref (A 179)), (1, .int (Int32.ofInt a)), (3, .int (Int32.ofInt ka))]) (show cdA 227 175 = some (.istore 5, 2, 0, 0, 0) from rfl) (by decide) (fun _ h => h) ?_
                    refine WS_lv (lv := [(0, .ref (A 179)), (1, .int (Int32.ofInt a)), (2, .int (Int32.ofInt 0)), (3, .int (Int32.ofInt ka)), (4, .int (Int32.ofInt (iC t (204 + (a : Int).toNat) (ka : Int).toNat))), (5, .int (Int32.ofInt (a + 1)))]) (List.forall_mem_cons.mpr ⟨(List.Mem.tail _ (List.Mem.tail _ (List.Mem.tail _ (List.Mem.head _)))), (List.forall_mem_cons.mpr ⟨(List.Mem.tail _ (List.Mem.tail _ (List.Mem.tail _ (List.Mem.tail _ (List.Mem.head _))))), (List.forall_mem_cons.mpr ⟨(List.Mem.tail _ (List.Mem.head _)), (List.forall_mem_cons.mpr ⟨(List.Mem.tail _ (List.Mem.tail _ (List.Mem.tail _ (List.Mem.tail _ (List.Mem.tail _ (List.Mem.head _)))))), (List.forall_mem_cons.mpr ⟨(List.Mem.tail _ (List.Mem.tail _ (List.Mem.head _))), (List.forall_mem_cons.mpr ⟨(List.Mem.head _), (fun q h => absurd h List.not_mem_nil)⟩)⟩)⟩)⟩)⟩)⟩) ?_
                    refine L177 ((12 - (a + 1) : Int).toNat + 1) s3097 a 0 ka (iC t (204 + (a : Int).toNat) (ka : Int).toNat) (a + 1) Is3097 Fs3097 JNW_s3097 JNWL_s3097 ⟨lmb_0 (nm_2 hq.2 hs3097 (by rw [hM2]; exact ⟨by omega, by omega⟩)) (by omega) (by rw [hM2]; exact ov_st (by omega) (Or.inl ⟨rfl, by rw [hS1, hS2]; omega⟩)) (cl_s0 (by omega) (by rw [hS1, hS2]; omega)), hcW, hIZ⟩ (by first | exact ⟨And.intro (hi.1.1) (And.intro (hi.1.2.1) (hi.1.2.2)), Or.inl (by decide), by omega, And.intro (b3006.1) (b3006.2), And.intro (by decide) (oq_afc84a8d hi.1.2.1), oq_1aa5be9e ws3097_90 hi.2.2.2⟩ | omega) (Nat.lt_succ_self _) ?_
                    intro s3104 x3105 Is3104 Fs3104 JNW_s3104 JNWL_s3104 Qs3104 hs3104
                    have b3106 : (0 : Int) ≤ iI s3104 90 ∧ iI s3104 90 ≤ 12 := Is3104.1 90
                    refine z_inc X (x := ka) (lv' := [(3, .int (Int32.ofInt (ka + 1))), (0, .ref (A 179)), (1, .int (Int32.ofInt a)), (2, .int (Int32.ofInt 0)), (4, .int (Int32.ofInt (iC t (204 + (a : Int).toNat) (ka : Int).toNat))), (5, .int (Int32.ofInt x3105))]) (show cdA 227 278 = some (.iinc 3 1, 3, 0, 0, 0) from rfl) (by decide) (List.Mem.tail _ (List.Mem.tail _ (List.Mem.tail _ (List.Mem.head _)))) (fun _ h => h) ?_
                    refine z_goto X (t := 35) (show cdA 227 281 = some (.goto (-246), 3, 0, 0, 0) from rfl) (by decide) ?_
                    refine WS_lv (lv := [(0, .ref (A 179)), (1, .int (Int32.ofInt a)), (2, .int (Int32.ofInt 0)), (3, .int (Int32.ofInt (ka + 1)))]) (List.forall_mem_cons.mpr ⟨(List.Mem.tail _ (List.Mem.head _)), (List.forall_mem_cons.mpr ⟨(List.Mem.tail _ (List.Mem.tail _ (List.Mem.head _))), (List.forall_mem_cons.mpr ⟨(List.Mem.tail _ (List.Mem.tail _ (List.Mem.tail _ (List.Mem.head _)))), (List.forall_mem_cons.mpr ⟨(List.Mem.head _), (fun q h => absurd h List.not_mem_nil)⟩)⟩)⟩)⟩) ?_
                    exact ih _ a 0 (ka + 1) Is3104 Fs3104 JNW_s3104 JNWL_s3104 (lmk_up Qs3104.1 rfl (by omega) Qs3104.2.2) (by first | exact ⟨And.intro (hs3104.1.1) (And.intro (hs3104.1.2.1) (hs3104.1.2.2)), hs3104.2.1, And.intro (oq_54f49eb5 hs3104.2.2.1.1) (And.intro (oq_afc84a8d hs3104.2.2.1.2.1) (oq_3d4d89a6 hs3104.2.2.1.2.2)), hs3104.2.2.2⟩ | omega) (by first | exact qk_me hm (by decide) (oq_fa9b5cb9 hs3104.2.2.1.2.2) | omega) kx
                  ·
                    refine z_aload_n X (x := A 179) (show cdA 227 138 = some (.aload_n 0, 1, 0, 0, 0) from rfl) (List.Mem.tail _ (List.Mem.tail _ (List.Mem.tail _ (List.Mem.head _)))) ?_
                    refine s_getR X 179 (show cdA 227 139 = some (.getfield 64, 3, 12, 33, 0) from rfl) (by decide) rfl rfl ?_
                    refine z_load_n X (x := a) (show cdA 227 142 = some (.iload_n 1, 1, 0, 0, 0) from rfl) (List.Mem.tail _ (List.Mem.tail _ (List.Mem.tail _ (List.Mem.tail _ (List.Mem.head _))))) ?_
                    refine z_aald X rw_230 (show cdA 227 143 = some (.aaload, 1, 0, 0, 0) from rfl) (by first | exact hi.1.1 | omega) (show a < 12 by first | exact oq_0ddfcfee hi.1.2.2 | omega) (by decide) ?_
                    refine z_load_n X (x := ka) (show cdA 227 144 = some (.iload_n 3, 1, 0, 0, 0) from rfl) (List.Mem.tail _ (List.Mem.tail _ (List.Mem.tail _ (List.Mem.tail _ (List.Mem.tail _ (List.Mem.head _)))))) ?_
                    refine z_const X (show cdA 227 145 = some (.iconst 1, 1, 0, 0, 0) from rfl) ?_
                    refine z_sub X (show cdA 227 146 = some (.isub, 1, 0, 0, 0) from rfl) ?_
                    refine z_ald2 X rw_230 (show cdA 227 147 = some (.iaload, 1, 0, 0, 0) from rfl) (show (a : Int).toNat < 12 by first | exact oq_9c5fa447 hi.1.2.2 | omega) (by first | exact oq_a4f22177 g3065 | omega) (show (ka - 1) < 24 by first | exact oq_19cb6f5b hi.2.2.1.2.2 | omega) (by decide) ?_
                    have b3107 : (0 : Int) ≤ (iC s3097 (204 + (a : Int).toNat) ((ka - 1) : Int).toNat) ∧ (iC s3097 (204 + (a : Int).toNat) ((ka - 1) : Int).toNat) ≤ 127 := rw_bd rw_230 Is3097 (show (a : Int).toNat < 12 by first | exact oq_9c5fa447 hi.1.2.2 | omega) (show ((ka - 1) : Int).toNat < 24 by first | exact oq_f976b25c hi.2.2.1.2.2 | omega)
                    refine z_load X (x := (iC t (204 + (a : Int).toNat) (ka : Int).toNat)) (show cdA 227 148 = some (.iload 4, 2, 0, 0, 0) from rfl) (List.Mem.tail _ (List.Mem.tail _ (List.Mem.head _))) ?_
                    refine z_callS X (rm := rmN 225) (As := [.int (Int32.ofInt (iC s3097 (204 + (a : Int).toNat) ((ka - 1) : Int).toNat)), .int (Int32.ofInt (iC t (204 + (a : Int).toNat) (ka : Int).toNat))]) (st := []) (show cdA 227 150 = some (.invokestatic 312, 3, 225, 1, 0) from rfl) rfl (by rw [E.1, E.2.1, E.2.2.1]; exact k_stepOf3 G Is3097 (by first | exact ⟨b3107.1, b3107.2⟩ | omega) (by first | exact ⟨b3006.1, b3006.2⟩ | omega)) ⟨by rw [E.2.2.2]; exact (show (rmN 225).frames + 1 ≤ (rmN 227).frames by decide), by rw [E.2.2.2]; exact (show 8 + (mNL (miB 225) + 11) + (rmN 225).locals ≤ (rmN 227).locals by decide), by rw [E.2.2.2]; exact (show 0 + (rmN 225).cells ≤ (rmN 227).cells by decide), by rw [E.2.2.2]; exact (show 0 + (rmN 225).slots ≤ (rmN 227).slots by decide)⟩ (Nat.le_of_ble_eq_true rfl) (fun vv s3108 hq => ?_) (fun ee s3108 hq => ?_)
                    rotate_left
                    · obtain ⟨rfl, e3109, hv, hrs3108, hps3108⟩ := hq; cases hv
                    obtain ⟨rfl, e3109, hv, hrs3108, hps3108⟩ := hq
                    cases hv
                    show WS k 153 [(5, .int (Int32.ofInt (iC t 230 ((iC t (204 + (a : Int).toNat) ((ka - 1) : Int).toNat)).toNat))), (2, .int (Int32.ofInt 0)), (4, .int (Int32.ofInt (iC t (204 + (a : Int).toNat) (ka : Int).toNat))), (0, .ref (A 179)), (1, .int (Int32.ofInt a)), (3, .int (Int32.ofInt ka))] [.int (Int32.ofInt e3109)] (Wd A dT s3097) 0 0
                    have hcQ : iC s3097 (204 + (a : Int).toNat) (ka - 1).toNat = fwM s (a : Int).toNat (ka - 1).toNat := fm_c Fs3097 (fun h => by have := List.mem_singleton.mp h; omega)
                    have hGB : e3109 = goB (fwM s (a : Int).toNat (ka - 1).toNat) (fwM s (a : Int).toNat (ka : Int).toNat) := by rw [← hcQ, ← hcW]; exact hps3108.1
                    refine z_const X (show cdA 227 153 = some (.iconst 3, 1, 0, 0, 0) from rfl) ?_
                    refine z_icmp_le X (t := 172) (show cdA 227 154 = some (.if_icmp .le 18, 3, 5, 0, 0) from rfl) (by decide) hrs3108 (by decide) (fun g3110 => ?_) (fun g3110 => ?_)
                    ·
                      refine z_load_n X (x := a) (show cdA 227 172 = some (.iload_n 1, 1, 0, 0, 0) from rfl) (List.Mem.tail _ (List.Mem.tail _ (List.Mem.tail _ (List.Mem.tail _ (List.Mem.head _))))) ?_
                      refine z_const X (show cdA 227 173 = some (.iconst 1, 1, 0, 0, 0) from rfl) ?_
                      refine z_add X (show cdA 227 174 = some (.iadd, 1, 0, 0, 0) from rfl) ?_
                      refine z_store X (lv' := [(5, .int (Int32.ofInt (a + 1))), (2, .int (Int32.ofInt 0)), (4, .int (Int32.ofInt (iC t (204 + (a : Int).toNat) (ka : Int).toNat))), (0, .ref (A 179)), (1, .int (Int32.ofInt a)), (3, .int (Int32.ofInt ka))]) (show cdA 227 175 = some (.istore 5, 2, 0, 0, 0) from rfl) (by decide) (fun _ h => h) ?_
                      refine WS_lv (lv := [(0, .ref (A 179)), (1, .int (Int32.ofInt a)), (2, .int (Int32.ofInt 0)), (3, .int (Int32.ofInt ka)), (4, .int (Int32.ofInt (iC t (204 + (a : Int).toNat) (ka : Int).toNat))), (5, .int (Int32.ofInt (a + 1)))]) (List.forall_mem_cons.mpr ⟨(List.Mem.tail _ (List.Mem.tail _ (List.Mem.tail _ (List.Mem.head _)))), (List.forall_mem_cons.mpr ⟨(List.Mem.tail _ (List.Mem.tail _ (List.Mem.tail _ (List.Mem.tail _ (List.Mem.head _))))), (List.forall_mem_cons.mpr ⟨(List.Mem.tail _ (List.Mem.head _)), (List.forall_mem_cons.mpr ⟨(List.Mem.tail _ (List.Mem.tail _ (List.Mem.tail _ (List.Mem.tail _ (List.Mem.tail _ (List.Mem.head _)))))), (List.forall_mem_cons.mpr ⟨(List.Mem.tail _ (List.Mem.tail _ (List.Mem.head _))), (List.forall_mem_cons.mpr ⟨(List.Mem.head _), (fun q h => absurd h List.not_mem_nil)⟩)⟩)⟩)⟩)⟩)⟩) ?_
                      refine L177 ((12 - (a + 1) : Int).toNat + 1) s3097 a 0 ka (iC t (204 + (a : Int).toNat) (ka : Int).toNat) (a + 1) Is3097 Fs3097 JNW_s3097 JNWL_s3097 ⟨lmb_0 (nm_2 hq.2 hs3097 (by rw [hM2]; exact ⟨by omega, by omega⟩)) (by omega) (by rw [hM2]; exact ov_st (by omega) (Or.inl ⟨rfl, by rw [hS1, hS2]; omega⟩)) (cl_s0 (by omega) (by rw [hS1, hS2, ← hGB]; omega)), hcW, hIZ⟩ (by first | exact ⟨And.intro (hi.1.1) (And.intro (hi.1.2.1) (hi.1.2.2)), Or.inl (by decide), oq_87ddd967 g3103 b3102.1 hZ8 g3064, And.intro (b3006.1) (b3006.2), And.intro (by decide) (oq_afc84a8d hi.1.2.1), oq_1aa5be9e ws3097_90 hi.2.2.2⟩ | omega) (Nat.lt_succ_self _) ?_
                      intro s3111 x3112 Is3111 Fs3111 JNW_s3111 JNWL_s3111 Qs3111 hs3111
                      have b3113 : (0 : Int) ≤ iI s3111 90 ∧ iI s3111 90 ≤ 12 := Is3111.1 90
                      refine z_inc X (x := ka) (lv' := [(3, .int (Int32.ofInt (ka + 1))), (0, .ref (A 179)), (1, .int (Int32.ofInt a)), (2, .int (Int32.ofInt 0)), (4, .int (Int32.ofInt (iC t (204 + (a : Int).toNat) (ka : Int).toNat))), (5, .int (Int32.ofInt x3112))]) (show cdA 227 278 = some (.iinc 3 1, 3, 0, 0, 0) from rfl) (by decide) (List.Mem.tail _ (List.Mem.tail _ (List.Mem.tail _ (List.Mem.head _)))) (fun _ h => h) ?_
                      refine z_goto X (t := 35) (show cdA 227 281 = some (.goto (-246), 3, 0, 0, 0) from rfl) (by decide) ?_
                      refine WS_lv (lv := [(0, .ref (A 179)), (1, .int (Int32.ofInt a)), (2, .int (Int32.ofInt 0)), (3, .int (Int32.ofInt (ka + 1)))]) (List.forall_mem_cons.mpr ⟨(List.Mem.tail _ (List.Mem.head _)), (List.forall_mem_cons.mpr ⟨(List.Mem.tail _ (List.Mem.tail _ (List.Mem.head _))), (List.forall_mem_cons.mpr ⟨(List.Mem.tail _ (List.Mem.tail _ (List.Mem.tail _ (List.Mem.head _)))), (List.forall_mem_cons.mpr ⟨(List.Mem.head _), (fun q h => absurd h List.not_mem_nil)⟩)⟩)⟩)⟩) ?_
                      exact ih _ a 0 (ka + 1) Is3111 Fs3111 JNW_s3111 JNWL_s3111 (lmk_up Qs3111.1 rfl (by omega) Qs3111.2.2) (by first | exact ⟨And.intro (hs3111.1.1) (And.intro (hs3111.1.2.1) (hs3111.1.2.2)), hs3111.2.1, And.intro (oq_54f49eb5 hs3111.2.2.1.1) (And.intro (oq_afc84a8d hs3111.2.2.1.2.1) (oq_3d4d89a6 hs3111.2.2.1.2.2)), hs3111.2.2.2⟩ | omega) (by first | exact qk_me hm (by decide) (oq_fa9b5cb9 hs3111.2.2.1.2.2) | omega) kx
                    ·
                      refine z_aload_n X (x := A 179) (show cdA 227 157 = some (.aload_n 0, 1, 0, 0, 0) from rfl) (List.Mem.tail _ (List.Mem.tail _ (List.Mem.tail _ (List.Mem.head _)))) ?_
                      refine s_getR X 179 (show cdA 227 158 = some (.getfield 32, 3, 12, 21, 0) from rfl) (by decide) rfl rfl ?_
                      refine z_const X (show cdA 227 161 = some (.iconst 3, 1, 0, 0, 0) from rfl) ?_
                      refine w_dup2_11 X.1 (ax_d X (show cdA 227 162 = some (.dup2, 1, 0, 0, 0) from rfl)) rfl rfl ?_
                      refine z_ald X 184 (show cdA 227 163 = some (.iaload, 1, 0, 0, 0) from rfl) (by decide) rfl (by decide) (show 3 < 7 by decide) (by decide) ?_
                      have b3114 : ((-2147483648) : Int) ≤ iC s3097 161 (3 : Int).toNat ∧ iC s3097 161 (3 : Int).toNat ≤ 2147483647 := Is3097.2 161 _ (show (3 : Int).toNat < 7 by first | exact oq_bea6b7ec | omega)
                      refine z_aload_n X (x := A 179) (show cdA 227 164 = some (.aload_n 0, 1, 0, 0, 0) from rfl) (List.Mem.tail _ (List.Mem.tail _ (List.Mem.tail _ (List.Mem.head _)))) ?_
                      refine s_getR X 179 (show cdA 227 165 = some (.getfield 61, 3, 12, 32, 0) from rfl) (by decide) rfl rfl ?_
                      refine z_load_n X (x := a) (show cdA 227 168 = some (.iload_n 1, 1, 0, 0, 0) from rfl) (List.Mem.tail _ (List.Mem.tail _ (List.Mem.tail _ (List.Mem.tail _ (List.Mem.head _))))) ?_
                      refine z_ald X 229 (show cdA 227 169 = some (.iaload, 1, 0, 0, 0) from rfl) (by decide) rfl (by first | exact hi.1.1 | omega) (show a < 12 by first | exact oq_0ddfcfee hi.1.2.2 | omega) (by decide) ?_
                      have b3115 : (0 : Int) ≤ iC s3097 203 (a).toNat ∧ iC s3097 203 (a).toNat ≤ 50 := Is3097.2 203 _ (show (a).toNat < 12 by first | exact oq_9c5fa447 hi.1.2.2 | omega)
                      refine z_add X (show cdA 227 170 = some (.iadd, 1, 0, 0, 0) from rfl) ?_
                      have hM3 := (fm_c Fs3097 (by decide) : iC s3097 203 (a : Int).toNat = iC s 203 (a : Int).toNat)
                      have hR4 := lm_r (S := inM s) hMo hMy (a := (a : Int).toNat) (k := (ka - 1).toNat) (by omega) (by omega)
                      have hR5 : 0 ≤ iC s 203 (a : Int).toNat ∧ iC s 203 (a : Int).toNat ≤ 50 := hMo (a : Int).toNat (by omega)
                      have hN3 : iC s3097 161 (3 : Int).toNat = caH (inM s) (WYM s) (moM s) (a : Int).toNat + moM s (a : Int).toNat * clH (inM s) (fwM s (a : Int).toNat) (ka - 1).toNat := by rw [hs3097]; exact (iC_n (by decide)).trans hq.2.2.2.2.1
                      refine z_ast X 184 (show cdA 227 171 = some (.iastore, 1, 0, 0, 0) from rfl) (by decide) rfl (by decide) (show 3 < 7 by decide) (by decide) ?_
                      obtain ⟨s3116, hs3116⟩ : ∃ x0, x0 = uC s3097 161 (3 : Int).toNat (Int32.ofInt ((iC s3097 161 (3 : Int).toNat) + (iC s3097 203 (a).toNat))) := ⟨_, rfl⟩
                      rw [← hs3116]
                      have Is3116 : Bd s3116 := by rw [hs3116]; exact bd_C Is3097 (show ((-2147483648) : Int) ≤ ((iC s3097 161 (3 : Int).toNat) + (iC s3097 203 (a).toNat)) ∧ ((iC s3097 161 (3 : Int).toNat) + (iC s3097 203 (a).toNat)) ≤ 2147483647 by first | exact ⟨oq_d82b5a64 b3115.1 b3114.1, oq_16a8455f g3103 b3102.1 hZ8 g3064⟩ | omega) ⟨by first | exact oq_d82b5a64 b3115.1 b3114.1 | omega, by first | exact oq_16a8455f g3103 b3102.1 hZ8 g3064 | omega⟩
                      have Fs3116 := fm_C (i := (3 : Int).toNat) (x := Int32.ofInt ((iC s3097 161 (3 : Int).toNat) + (iC s3097 203 (a).toNat))) Fs3097 (show 161 ∈ _ by decide)
                      rw [← hs3116] at Fs3116
                      have ws3116_90 : iI s3116 90 = iI s3097 90 := by rw [hs3116]; rfl
                      have fs3116 : Fm [] [161] s3097 s3116 := by rw [hs3116]; exact fm_C (fm_rf _ _ _) (show 161 ∈ _ by decide)
                      have JNW_s3116 : NW s3116 := NW_fm fs3116 (by decide) JNW_s3097
                      have JNWL_s3116 : NWL s3116 := NWL_fm fs3116 (by decide) JNWL_s3097
                      refine z_load_n X (x := a) (show cdA 227 172 = some (.iload_n 1, 1, 0, 0, 0) from rfl) (List.Mem.tail _ (List.Mem.tail _ (List.Mem.tail _ (List.Mem.tail _ (List.Mem.head _))))) ?_
                      refine z_const X (show cdA 227 173 = some (.iconst 1, 1, 0, 0, 0) from rfl) ?_
                      refine z_add X (show cdA 227 174 = some (.iadd, 1, 0, 0, 0) from rfl) ?_
                      refine z_store X (lv' := [(5, .int (Int32.ofInt (a + 1))), (2, .int (Int32.ofInt 0)), (4, .int (Int32.ofInt (iC t (204 + (a : Int).toNat) (ka : Int).toNat))), (0, .ref (A 179)), (1, .int (Int32.ofInt a)), (3, .int (Int32.ofInt ka))]) (show cdA 227 175 = some (.istore 5, 2, 0, 0, 0) from rfl) (by decide) (fun _ h => h) ?_
                      refine WS_lv (lv := [(0, .ref (A 179)), (1, .int (Int32.ofInt a)), (2, .int (Int32.ofInt 0)), (3, .int (Int32.ofInt ka)), (4, .int (Int32.ofInt (iC t (204 + (a : Int).toNat) (ka : Int).toNat))), (5, .int (Int32.ofInt (a + 1)))]) (List.forall_mem_cons.mpr ⟨(List.Mem.tail _ (List.Mem.tail _ (List.Mem.tail _ (List.Mem.head _)))), (List.forall_mem_cons.mpr ⟨(List.Mem.tail _ (List.Mem.tail _ (List.Mem.tail _ (List.Mem.tail _ (List.Mem.head _))))), (List.forall_mem_cons.mpr ⟨(List.Mem.tail _ (List.Mem.head _)), (List.forall_mem_cons.mpr ⟨(List.Mem.tail _ (List.Mem.tail _ (List.Mem.tail _ (List.Mem.tail _ (List.Mem.tail _ (List.Mem.head _)))))), (List.forall_mem_cons.mpr ⟨(List.Mem.tail _ (List.Mem.tail _ (List.Mem.head _))), (List.forall_mem_cons.mpr ⟨(List.Mem.head _), (fun q h => absurd h List.not_mem_nil)⟩)⟩)⟩)⟩)⟩)⟩) ?_
                      refine L177 ((12 - (a + 1) : Int).toNat + 1) s3116 a 0 ka (iC t (204 + (a : Int).toNat) (ka : Int).toNat) (a + 1) Is3116 Fs3116 JNW_s3116 JNWL_s3116 ⟨lmb_0 (nm_3 (nm_2 hq.2 hs3097 (by rw [hM2]; exact ⟨by omega, by omega⟩)) hs3116 (by rw [hM3]; exact ⟨by omega, by omega⟩)) (by omega) (by rw [hM2]; exact ov_st (by omega) (Or.inl ⟨rfl, by rw [hS1, hS2]; omega⟩)) (by rw [hM3]; exact cl_st (by omega) (Or.inl ⟨rfl, by rw [hS1, hS2, ← hGB]; omega⟩)), hcW, hIZ⟩ (by first | exact ⟨And.intro (hi.1.1) (And.intro (hi.1.2.1) (hi.1.2.2)), Or.inl (by decide), oq_87ddd967 g3103 b3102.1 hZ8 g3064, And.intro (b3006.1) (b3006.2), And.intro (by decide) (oq_afc84a8d hi.1.2.1), oq_878618b1 ws3116_90 ws3097_90 hi.2.2.2⟩ | omega) (Nat.lt_succ_self _) ?_
                      intro s3117 x3118 Is3117 Fs3117 JNW_s3117 JNWL_s3117 Qs3117 hs3117
                      have b3119 : (0 : Int) ≤ iI s3117 90 ∧ iI s3117 90 ≤ 12 := Is3117.1 90
                      refine z_inc X (x := ka) (lv' := [(3, .int (Int32.ofInt (ka + 1))), (0, .ref (A 179)), (1, .int (Int32.ofInt a)), (2, .int (Int32.ofInt 0)), (4, .int (Int32.ofInt (iC t (204 + (a : Int).toNat) (ka : Int).toNat))), (5, .int (Int32.ofInt x3118))]) (show cdA 227 278 = some (.iinc 3 1, 3, 0, 0, 0) from rfl) (by decide) (List.Mem.tail _ (List.Mem.tail _ (List.Mem.tail _ (List.Mem.head _)))) (fun _ h => h) ?_
                      refine z_goto X (t := 35) (show cdA 227 281 = some (.goto (-246), 3, 0, 0, 0) from rfl) (by decide) ?_
                      refine WS_lv (lv := [(0, .ref (A 179)), (1, .int (Int32.ofInt a)), (2, .int (Int32.ofInt 0)), (3, .int (Int32.ofInt (ka + 1)))]) (List.forall_mem_cons.mpr ⟨(List.Mem.tail _ (List.Mem.head _)), (List.forall_mem_cons.mpr ⟨(List.Mem.tail _ (List.Mem.tail _ (List.Mem.head _))), (List.forall_mem_cons.mpr ⟨(List.Mem.tail _ (List.Mem.tail _ (List.Mem.tail _ (List.Mem.head _)))), (List.forall_mem_cons.mpr ⟨(List.Mem.head _), (fun q h => absurd h List.not_mem_nil)⟩)⟩)⟩)⟩) ?_
                      exact ih _ a 0 (ka + 1) Is3117 Fs3117 JNW_s3117 JNWL_s3117 (lmk_up Qs3117.1 rfl (by omega) Qs3117.2.2) (by first | exact ⟨And.intro (hs3117.1.1) (And.intro (hs3117.1.2.1) (hs3117.1.2.2)), hs3117.2.1, And.intro (oq_54f49eb5 hs3117.2.2.1.1) (And.intro (oq_afc84a8d hs3117.2.2.1.2.1) (oq_3d4d89a6 hs3117.2.2.1.2.2)), hs3117.2.2.2⟩ | omega) (by first | exact qk_me hm (by decide) (oq_fa9b5cb9 hs3117.2.2.1.2.2) | omega) kx
          ·
            refine z_const X (show cdA 227 69 = some (.iconst 1, 1, 0, 0, 0) from rfl) ?_
            refine z_goto X (t := 74) (show cdA 227 70 = some (.goto 4, 3, 0, 0, 0) from rfl) (by decide) ?_
            refine z_store_n X (lv' := [(2, .int (Int32.ofInt 1)), (4, .int (Int32.ofInt (iC t (204 + (a : Int).toNat) (ka : Int).toNat))), (0, .ref (A 179)), (1, .int (Int32.ofInt a)), (3, .int (Int32.ofInt ka))]) (show cdA 227 74 = some (.istore_n 2, 1, 0, 0, 0) from rfl) (by decide) (fun _ h => h) ?_
            have hIZ : 1 = i01 (∃ j : Nat, j < (ka + 1).toNat ∧ inM s (fwM s (a : Int).toNat j)) := iz_up hq.1 (by omega) (by rw [← hcW]; unfold inM; have z := (fm_c F (by decide) : iC t 230 ((iC t (204 + (a : Int).toNat) (ka : Int).toNat) : Int).toNat = iC s 230 ((iC t (204 + (a : Int).toNat) (ka : Int).toNat) : Int).toNat); omega)
            refine z_load_n X (x := ka) (show cdA 227 75 = some (.iload_n 3, 1, 0, 0, 0) from rfl) (List.Mem.tail _ (List.Mem.tail _ (List.Mem.tail _ (List.Mem.tail _ (List.Mem.head _))))) ?_
            refine z_if_le X (t := 172) (show cdA 227 76 = some (.ifCond .le 96, 3, 5, 0, 0) from rfl) (by decide) ⟨by first | exact oq_fa4e5087 hi.2.2.1.1 | omega, by first | exact oq_5bcd337f hi.2.2.1.2.2 | omega⟩ (fun g3120 => ?_) (fun g3120 => ?_)
            ·
              refine z_load_n X (x := a) (show cdA 227 172 = some (.iload_n 1, 1, 0, 0, 0) from rfl) (List.Mem.tail _ (List.Mem.tail _ (List.Mem.tail _ (List.Mem.head _)))) ?_
              refine z_const X (show cdA 227 173 = some (.iconst 1, 1, 0, 0, 0) from rfl) ?_
              refine z_add X (show cdA 227 174 = some (.iadd, 1, 0, 0, 0) from rfl) ?_
              refine z_store X (lv' := [(5, .int (Int32.ofInt (a + 1))), (2, .int (Int32.ofInt 1)), (4, .int (Int32.ofInt (iC t (204 + (a : Int).toNat) (ka : Int).toNat))), (0, .ref (A 179)), (1, .int (Int32.ofInt a)), (3, .int (Int32.ofInt ka))]) (show cdA 227 175 = some (.istore 5, 2, 0, 0, 0) from rfl) (by decide) (fun _ h => h) ?_
              refine WS_lv (lv := [(0, .ref (A 179)), (1, .int (Int32.ofInt a)), (2, .int (Int32.ofInt 1)), (3, .int (Int32.ofInt ka)), (4, .int (Int32.ofInt (iC t (204 + (a : Int).toNat) (ka : Int).toNat))), (5, .int (Int32.ofInt (a + 1)))]) (List.forall_mem_cons.mpr ⟨(List.Mem.tail _ (List.Mem.tail _ (List.Mem.tail _ (List.Mem.head _)))), (List.forall_mem_cons.mpr ⟨(List.Mem.tail _ (List.Mem.tail _ (List.Mem.tail _ (List.Mem.tail _ (List.Mem.head _))))), (List.forall_mem_cons.mpr ⟨(List.Mem.tail _ (List.Mem.head _)), (List.forall_mem_cons.mpr ⟨(List.Mem.tail _ (List.Mem.tail _ (List.Mem.tail _ (List.Mem.tail _ (List.Mem.tail _ (List.Mem.head _)))))), (List.forall_mem_cons.mpr ⟨(List.Mem.tail _ (List.Mem.tail _ (List.Mem.head _))), (List.forall_mem_cons.mpr ⟨(List.Mem.head _), (fun q h => absurd h List.not_mem_nil)⟩)⟩)⟩)⟩)⟩)⟩) ?_
              refine L177 ((12 - (a + 1) : Int).toNat + 1) t a 1 ka (iC t (204 + (a : Int).toNat) (ka : Int).toNat) (a + 1) I F jjNW jjNWL ⟨lmb_0 hq.2 (by omega) (by rw [show ka = 0 by omega]; rfl) (by rw [show ka = 0 by omega]; rfl), hcW, hIZ⟩ (by first | exact ⟨And.intro (hi.1.1) (And.intro (hi.1.2.1) (hi.1.2.2)), Or.inr (by decide), by omega, And.intro (b3006.1) (b3006.2), And.intro (by decide) (oq_afc84a8d hi.1.2.1), hi.2.2.2⟩ | omega) (Nat.lt_succ_self _) ?_
              intro s3121 x3122 Is3121 Fs3121 JNW_s3121 JNWL_s3121 Qs3121 hs3121
              have b3123 : (0 : Int) ≤ iI s3121 90 ∧ iI s3121 90 ≤ 12 := Is3121.1 90
              refine z_inc X (x := ka) (lv' := [(3, .int (Int32.ofInt (ka + 1))), (0, .ref (A 179)), (1, .int (Int32.ofInt a)), (2, .int (Int32.ofInt 1)), (4, .int (Int32.ofInt (iC t (204 + (a : Int).toNat) (ka : Int).toNat))), (5, .int (Int32.ofInt x3122))]) (show cdA 227 278 = some (.iinc 3 1, 3, 0, 0, 0) from rfl) (by decide) (List.Mem.tail _ (List.Mem.tail _ (List.Mem.tail _ (List.Mem.head _)))) (fun _ h => h) ?_
              refine z_goto X (t := 35) (show cdA 227 281 = some (.goto (-246), 3, 0, 0, 0) from rfl) (by decide) ?_
              refine WS_lv (lv := [(0, .ref (A 179)), (1, .int (Int32.ofInt a)), (2, .int (Int32.ofInt 1)), (3, .int (Int32.ofInt (ka + 1)))]) (List.forall_mem_cons.mpr ⟨(List.Mem.tail _ (List.Mem.head _)), (List.forall_mem_cons.mpr ⟨(List.Mem.tail _ (List.Mem.tail _ (List.Mem.head _))), (List.forall_mem_cons.mpr ⟨(List.Mem.tail _ (List.Mem.tail _ (List.Mem.tail _ (List.Mem.head _)))), (List.forall_mem_cons.mpr ⟨(List.Mem.head _), (fun q h => absurd h List.not_mem_nil)⟩)⟩)⟩)⟩) ?_
              exact ih _ a 1 (ka + 1) Is3121 Fs3121 JNW_s3121 JNWL_s3121 (lmk_up Qs3121.1 rfl (by omega) Qs3121.2.2) (by first | exact ⟨And.intro (hs3121.1.1) (And.intro (hs3121.1.2.1) (hs3121.1.2.2)), hs3121.2.1, And.intro (oq_54f49eb5 hs3121.2.2.1.1) (And.intro (oq_afc84a8d hs3121.2.2.1.2.1) (oq_3d4d89a6 hs3121.2.2.1.2.2)), hs3121.2.2.2⟩ | omega) (by first | exact qk_me hm (by decide) (oq_fa9b5cb9 hs3121.2.2.1.2.2) | omega) kx
            ·
              refine z_aload_n X (x := A 179) (show cdA 227 79 = some (.aload_n 0, 1, 0, 0, 0) from rfl) (List.Mem.tail _ (List.Mem.tail _ (List.Mem.head _))) ?_
              refine s_getR X 179 (show cdA 227 80 = some (.getfield 76, 3, 12, 37, 0) from rfl) (by decide) rfl rfl ?_
              refine z_aload_n X (x := A 179) (show cdA 227 83 = some (.aload_n 0, 1, 0, 0, 0) from rfl) (List.Mem.tail _ (List.Mem.tail _ (List.Mem.head _))) ?_
              refine s_getR X 179 (show cdA 227 84 = some (.getfield 64, 3, 12, 33, 0) from rfl) (by decide) rfl rfl ?_
              refine z_load_n X (x := a) (show cdA 227 87 = some (.iload_n 1, 1, 0, 0, 0) from rfl) (List.Mem.tail _ (List.Mem.tail _ (List.Mem.tail _ (List.Mem.head _)))) ?_
              refine z_aald X rw_230 (show cdA 227 88 = some (.aaload, 1, 0, 0, 0) from rfl) (by first | exact hi.1.1 | omega) (show a < 12 by first | exact oq_0ddfcfee hi.1.2.2 | omega) (by decide) ?_
              refine z_load_n X (x := ka) (show cdA 227 89 = some (.iload_n 3, 1, 0, 0, 0) from rfl) (List.Mem.tail _ (List.Mem.tail _ (List.Mem.tail _ (List.Mem.tail _ (List.Mem.head _))))) ?_
              refine z_const X (show cdA 227 90 = some (.iconst 1, 1, 0, 0, 0) from rfl) ?_
              refine z_sub X (show cdA 227 91 = some (.isub, 1, 0, 0, 0) from rfl) ?_
              refine z_ald2 X rw_230 (show cdA 227 92 = some (.iaload, 1, 0, 0, 0) from rfl) (show (a : Int).toNat < 12 by first | exact oq_9c5fa447 hi.1.2.2 | omega) (by first | exact oq_a4f22177 g3120 | omega) (show (ka - 1) < 24 by first | exact oq_19cb6f5b hi.2.2.1.2.2 | omega) (by decide) ?_
              have b3124 : (0 : Int) ≤ (iC t (204 + (a : Int).toNat) ((ka - 1) : Int).toNat) ∧ (iC t (204 + (a : Int).toNat) ((ka - 1) : Int).toNat) ≤ 127 := rw_bd rw_230 I (show (a : Int).toNat < 12 by first | exact oq_9c5fa447 hi.1.2.2 | omega) (show ((ka - 1) : Int).toNat < 24 by first | exact oq_f976b25c hi.2.2.1.2.2 | omega)
              refine z_zald X 258 (show cdA 227 93 = some (.baload, 1, 0, 0, 0) from rfl) (by decide) rfl (by first | exact b3124.1 | omega) (show (iC t (204 + (a : Int).toNat) ((ka - 1) : Int).toNat) < 128 by first | exact oq_31b2bf10 b3124.2 | omega) (by decide) ?_
              have b3125 : (0 : Int) ≤ iC t 230 ((iC t (204 + (a : Int).toNat) ((ka - 1) : Int).toNat)).toNat ∧ iC t 230 ((iC t (204 + (a : Int).toNat) ((ka - 1) : Int).toNat)).toNat ≤ 1 := I.2 230 _ (show ((iC t (204 + (a : Int).toNat) ((ka - 1) : Int).toNat)).toNat < 128 by first | exact oq_c7f4e9c1 b3124.2 | omega)
              refine z_store X (lv' := [(5, .int (Int32.ofInt (iC t 230 ((iC t (204 + (a : Int).toNat) ((ka - 1) : Int).toNat)).toNat))), (2, .int (Int32.ofInt 1)), (4, .int (Int32.ofInt (iC t (204 + (a : Int).toNat) (ka : Int).toNat))), (0, .ref (A 179)), (1, .int (Int32.ofInt a)), (3, .int (Int32.ofInt ka))]) (show cdA 227 94 = some (.istore 5, 2, 0, 0, 0) from rfl) (by decide) (fun _ h => h) ?_
              have hcP : iC t (204 + (a : Int).toNat) (ka - 1).toNat = fwM s (a : Int).toNat (ka - 1).toNat := fm_c F (fun h => by have := List.mem_singleton.mp h; omega)
              have hS1 : inM s (fwM s (a : Int).toNat (ka - 1).toNat) ↔ (iC t 230 ((iC t (204 + (a : Int).toNat) ((ka - 1) : Int).toNat)).toNat) ≠ 0 := by rw [← hcP]; unfold inM; rw [← (fm_c F (by decide) : iC t 230 _ = iC s 230 _)]
              have hS2 : inM s (fwM s (a : Int).toNat (ka : Int).toNat) ↔ iC t 230 ((iC t (204 + (a : Int).toNat) (ka : Int).toNat) : Int).toNat ≠ 0 := by rw [← hcW]; unfold inM; rw [← (fm_c F (by decide) : iC t 230 _ = iC s 230 _)]
              refine z_load X (x := (iC t 230 ((iC t (204 + (a : Int).toNat) ((ka - 1) : Int).toNat)).toNat)) (show cdA 227 96 = some (.iload 5, 2, 0, 0, 0) from rfl) (List.Mem.head _) ?_
              refine z_aload_n X (x := A 179) (show cdA 227 98 = some (.aload_n 0, 1, 0, 0, 0) from rfl) (List.Mem.tail _ (List.Mem.tail _ (List.Mem.tail _ (List.Mem.head _)))) ?_
              refine s_getR X 179 (show cdA 227 99 = some (.getfield 76, 3, 12, 37, 0) from rfl) (by decide) rfl rfl ?_
              refine z_load X (x := (iC t (204 + (a : Int).toNat) (ka : Int).toNat)) (show cdA 227 102 = some (.iload 4, 2, 0, 0, 0) from rfl) (List.Mem.tail _ (List.Mem.tail _ (List.Mem.head _))) ?_
              refine z_zald X 258 (show cdA 227 104 = some (.baload, 1, 0, 0, 0) from rfl) (by decide) rfl (by first | exact b3006.1 | omega) (show (iC t (204 + (a : Int).toNat) (ka : Int).toNat) < 128 by first | exact oq_31b2bf10 b3006.2 | omega) (by decide) ?_
              have b3126 : (0 : Int) ≤ iC t 230 ((iC t (204 + (a : Int).toNat) (ka : Int).toNat)).toNat ∧ iC t 230 ((iC t (204 + (a : Int).toNat) (ka : Int).toNat)).toNat ≤ 1 := I.2 230 _ (show ((iC t (204 + (a : Int).toNat) (ka : Int).toNat)).toNat < 128 by first | exact oq_c7f4e9c1 b3006.2 | omega)
              refine z_icmp_eq X (t := 123) (show cdA 227 105 = some (.if_icmp .eq 18, 3, 0, 0, 0) from rfl) (by decide) (rng_to _) (rng_to _) (fun g3127 => ?_) (fun g3127 => ?_)
              ·
                refine z_load X (x := (iC t 230 ((iC t (204 + (a : Int).toNat) ((ka - 1) : Int).toNat)).toNat)) (show cdA 227 123 = some (.iload 5, 2, 0, 0, 0) from rfl) (List.Mem.head _) ?_
                refine z_if_eq X (t := 172) (show cdA 227 125 = some (.ifCond .eq 47, 3, 0, 0, 0) from rfl) (by decide) (rng_to _) (fun g3128 => ?_) (fun g3128 => ?_)
                ·
                  refine z_load_n X (x := a) (show cdA 227 172 = some (.iload_n 1, 1, 0, 0, 0) from rfl) (List.Mem.tail _ (List.Mem.tail _ (List.Mem.tail _ (List.Mem.tail _ (List.Mem.head _))))) ?_
                  refine z_const X (show cdA 227 173 = some (.iconst 1, 1, 0, 0, 0) from rfl) ?_
                  refine z_add X (show cdA 227 174 = some (.iadd, 1, 0, 0, 0) from rfl) ?_
                  refine z_store X (lv' := [(5, .int (Int32.ofInt (a + 1))), (2, .int (Int32.ofInt 1)), (4, .int (Int32.ofInt (iC t (204 + (a : Int).toNat) (ka : Int).toNat))), (0, .ref (A 179)), (1, .int (Int32.ofInt a)), (3, .int (Int32.ofInt ka))]) (show cdA 227 175 = some (.istore 5, 2, 0, 0, 0) from rfl) (by decide) (fun _ h => h) ?_
                  refine WS_lv (lv := [(0, .ref (A 179)), (1, .int (Int32.ofInt a)), (2, .int (Int32.ofInt 1)), (3, .int (Int32.ofInt ka)), (4, .int (Int32.ofInt (iC t (204 + (a : Int).toNat) (ka : Int).toNat))), (5, .int (Int32.ofInt (a + 1)))]) (List.forall_mem_cons.mpr ⟨(List.Mem.tail _ (List.Mem.tail _ (List.Mem.tail _ (List.Mem.head _)))), (List.forall_mem_cons.mpr ⟨(List.Mem.tail _ (List.Mem.tail _ (List.Mem.tail _ (List.Mem.tail _ (List.Mem.head _))))), (List.forall_mem_cons.mpr ⟨(List.Mem.tail _ (List.Mem.head _)), (List.forall_mem_cons.mpr ⟨(List.Mem.tail _ (List.Mem.tail _ (List.Mem.tail _ (List.Mem.tail _ (List.Mem.tail _ (List.Mem.head _)))))), (List.forall_mem_cons.mpr ⟨(List.Mem.tail _ (List.Mem.tail _ (List.Mem.head _))), (List.forall_mem_cons.mpr ⟨(List.Mem.head _), (fun q h => absurd h List.not_mem_nil)⟩)⟩)⟩)⟩)⟩)⟩) ?_
                  refine L177 ((12 - (a + 1) : Int).toNat + 1) t a 1 ka (iC t (204 + (a : Int).toNat) (ka : Int).toNat) (a + 1) I F jjNW jjNWL ⟨lmb_0 hq.2 (by omega) (ov_s0 (by omega) (by rw [hS1, hS2]; omega)) (cl_s0 (by omega) (by rw [hS1, hS2]; omega)), hcW, hIZ⟩ (by first | exact ⟨And.intro (hi.1.1) (And.intro (hi.1.2.1) (hi.1.2.2)), Or.inr (by decide), oq_ca721d9c g3128 g3127 b3126.1 g3064, And.intro (b3006.1) (b3006.2), And.intro (by decide) (oq_afc84a8d hi.1.2.1), hi.2.2.2⟩ | omega) (Nat.lt_succ_self _) ?_
                  intro s3129 x3130 Is3129 Fs3129 JNW_s3129 JNWL_s3129 Qs3129 hs3129
                  have b3131 : (0 : Int) ≤ iI s3129 90 ∧ iI s3129 90 ≤ 12 := Is3129.1 90
                  refine z_inc X (x := ka) (lv' := [(3, .int (Int32.ofInt (ka + 1))), (0, .ref (A 179)), (1, .int (Int32.ofInt a)), (2, .int (Int32.ofInt 1)), (4, .int (Int32.ofInt (iC t (204 + (a : Int).toNat) (ka : Int).toNat))), (5, .int (Int32.ofInt x3130))]) (show cdA 227 278 = some (.iinc 3 1, 3, 0, 0, 0) from rfl) (by decide) (List.Mem.tail _ (List.Mem.tail _ (List.Mem.tail _ (List.Mem.head _)))) (fun _ h => h) ?_
                  refine z_goto X (t := 35) (show cdA 227 281 = some (.goto (-246), 3, 0, 0, 0) from rfl) (by decide) ?_
                  refine WS_lv (lv := [(0, .ref (A 179)), (1, .int (Int32.ofInt a)), (2, .int (Int32.ofInt 1)), (3, .int (Int32.ofInt (ka + 1)))]) (List.forall_mem_cons.mpr ⟨(List.Mem.tail _ (List.Mem.head _)), (List.forall_mem_cons.mpr ⟨(List.Mem.tail _ (List.Mem.tail _ (List.Mem.head _))), (List.forall_mem_cons.mpr ⟨(List.Mem.tail _ (List.Mem.tail _ (List.Mem.tail _ (List.Mem.head _)))), (List.forall_mem_cons.mpr ⟨(List.Mem.head _), (fun q h => absurd h List.not_mem_nil)⟩)⟩)⟩)⟩) ?_
                  exact ih _ a 1 (ka + 1) Is3129 Fs3129 JNW_s3129 JNWL_s3129 (lmk_up Qs3129.1 rfl (by omega) Qs3129.2.2) (by first | exact ⟨And.intro (hs3129.1.1) (And.intro (hs3129.1.2.1) (hs3129.1.2.2)), hs3129.2.1, And.intro (oq_54f49eb5 hs3129.2.2.1.1) (And.intro (oq_afc84a8d hs3129.2.2.1.2.1) (oq_3d4d89a6 hs3129.2.2.1.2.2)), hs3129.2.2.2⟩ | omega) (by first | exact qk_me hm (by decide) (oq_fa9b5cb9 hs3129.2.2.1.2.2) | omega) kx
                ·
                  refine z_aload_n X (x := A 179) (show cdA 227 128 = some (.aload_n 0, 1, 0, 0, 0) from rfl) (List.Mem.tail _ (List.Mem.tail _ (List.Mem.tail _ (List.Mem.head _)))) ?_
                  refine s_getR X 179 (show cdA 227 129 = some (.getfield 76, 3, 12, 37, 0) from rfl) (by decide) rfl rfl ?_
                  refine z_load X (x := (iC t (204 + (a : Int).toNat) (ka : Int).toNat)) (show cdA 227 132 = some (.iload 4, 2, 0, 0, 0) from rfl) (List.Mem.tail _ (List.Mem.tail _ (List.Mem.head _))) ?_
                  refine z_zald X 258 (show cdA 227 134 = some (.baload, 1, 0, 0, 0) from rfl) (by decide) rfl (by first | exact b3006.1 | omega) (show (iC t (204 + (a : Int).toNat) (ka : Int).toNat) < 128 by first | exact oq_31b2bf10 b3006.2 | omega) (by decide) ?_
                  have b3132 : (0 : Int) ≤ iC t 230 ((iC t (204 + (a : Int).toNat) (ka : Int).toNat)).toNat ∧ iC t 230 ((iC t (204 + (a : Int).toNat) (ka : Int).toNat)).toNat ≤ 1 := I.2 230 _ (show ((iC t (204 + (a : Int).toNat) (ka : Int).toNat)).toNat < 128 by first | exact oq_c7f4e9c1 b3006.2 | omega)
                  refine z_if_eq X (t := 172) (show cdA 227 135 = some (.ifCond .eq 37, 3, 0, 0, 0) from rfl) (by decide) (rng_to _) (fun g3133 => ?_) (fun g3133 => ?_)
                  ·
                    refine z_load_n X (x := a) (show cdA 227 172 = some (.iload_n 1, 1, 0, 0, 0) from rfl) (List.Mem.tail _ (List.Mem.tail _ (List.Mem.tail _ (List.Mem.tail _ (List.Mem.head _))))) ?_
                    refine z_const X (show cdA 227 173 = some (.iconst 1, 1, 0, 0, 0) from rfl) ?_
                    refine z_add X (show cdA 227 174 = some (.iadd, 1, 0, 0, 0) from rfl) ?_
                    refine z_store X (lv' := [(5, .int (Int32.ofInt (a + 1))), (2, .int (Int32.ofInt 1)), (4, .int (Int32.ofInt (iC t (204 + (a : Int).toNat) (ka : Int).toNat))), (0, .ref (A 179)), (1, .int (Int32.ofInt a)), (3, .int (Int32.ofInt ka))]) (show cdA 227 175 = some (.istore 5, 2, 0, 0, 0) from rfl) (by decide) (fun _ h => h) ?_
                    refine WS_lv (lv := [(0, .ref (A 179)), (1, .int (Int32.ofInt a)), (2, .int (Int32.ofInt 1)), (3, .int (Int32.ofInt ka)), (4, .int (Int32.ofInt (iC t (204 + (a : Int).toNat) (ka : Int).toNat))), (5, .int (Int32.ofInt (a + 1)))]) (List.forall_mem_cons.mpr ⟨(List.Mem.tail _ (List.Mem.tail _ (List.Mem.tail _ (List.Mem.head _)))), (List.forall_mem_cons.mpr ⟨(List.Mem.tail _ (List.Mem.tail _ (List.Mem.tail _ (List.Mem.tail _ (List.Mem.head _))))), (List.forall_mem_cons.mpr ⟨(List.Mem.tail _ (List.Mem.head _)), (List.forall_mem_cons.mpr ⟨(List.Mem.tail _ (List.Mem.tail _ (List.Mem.tail _ (List.Mem.tail _ (List.Mem.tail _ (List.Mem.head _)))))), (List.forall_mem_cons.mpr ⟨(List.Mem.tail _ (List.Mem.tail _ (List.Mem.head _))), (List.forall_mem_cons.mpr ⟨(List.Mem.head _), (fun q h => absurd h List.not_mem_nil)⟩)⟩)⟩)⟩)⟩)⟩) ?_
                    refine L177 ((12 - (a + 1) : Int).toNat + 1) t a 1 ka (iC t (204 + (a : Int).toNat) (ka : Int).toNat) (a + 1) I F jjNW jjNWL ⟨lmb_0 hq.2 (by omega) (ov_s0 (by omega) (by rw [hS1, hS2]; omega)) (cl_s0 (by omega) (by rw [hS1, hS2]; omega)), hcW, hIZ⟩ (by first | exact ⟨And.intro (hi.1.1) (And.intro (hi.1.2.1) (hi.1.2.2)), Or.inr (by decide), oq_43e56444 g3133 g3128 g3127 b3125.1, And.intro (b3006.1) (b3006.2), And.intro (by decide) (oq_afc84a8d hi.1.2.1), hi.2.2.2⟩ | omega) (Nat.lt_succ_self _) ?_
                    intro s3134 x3135 Is3134 Fs3134 JNW_s3134 JNWL_s3134 Qs3134 hs3134
                    have b3136 : (0 : Int) ≤ iI s3134 90 ∧ iI s3134 90 ≤ 12 := Is3134.1 90
                    refine z_inc X (x := ka) (lv' := [(3, .int (Int32.ofInt (ka + 1))), (0, .ref (A 179)), (1, .int (Int32.ofInt a)), (2, .int (Int32.ofInt 1)), (4, .int (Int32.ofInt (iC t (204 + (a : Int).toNat) (ka : Int).toNat))), (5, .int (Int32.ofInt x3135))]) (show cdA 227 278 = some (.iinc 3 1, 3, 0, 0, 0) from rfl) (by decide) (List.Mem.tail _ (List.Mem.tail _ (List.Mem.tail _ (List.Mem.head _)))) (fun _ h => h) ?_
                    refine z_goto X (t := 35) (show cdA 227 281 = some (.goto (-246), 3, 0, 0, 0) from rfl) (by decide) ?_
                    refine WS_lv (lv := [(0, .ref (A 179)), (1, .int (Int32.ofInt a)), (2, .int (Int32.ofInt 1)), (3, .int (Int32.ofInt (ka + 1)))]) (List.forall_mem_cons.mpr ⟨(List.Mem.tail _ (List.Mem.head _)), (List.forall_mem_cons.mpr ⟨(List.Mem.tail _ (List.Mem.tail _ (List.Mem.head _))), (List.forall_mem_cons.mpr ⟨(List.Mem.tail _ (List.Mem.tail _ (List.Mem.tail _ (List.Mem.head _)))), (List.forall_mem_cons.mpr ⟨(List.Mem.head _), (fun q h => absurd h List.not_mem_nil)⟩)⟩)⟩)⟩) ?_
                    exact ih _ a 1 (ka + 1) Is3134 Fs3134 JNW_s3134 JNWL_s3134 (lmk_up Qs3134.1 rfl (by omega) Qs3134.2.2) (by first | exact ⟨And.intro (hs3134.1.1) (And.intro (hs3134.1.2.1) (hs3134.1.2.2)), hs3134.2.1, And.intro (oq_54f49eb5 hs3134.2.2.1.1) (And.intro (oq_afc84a8d hs3134.2.2.1.2.1) (oq_3d4d89a6 hs3134.2.2.1.2.2)), hs3134.2.2.2⟩ | omega) (by first | exact qk_me hm (by decide) (oq_fa9b5cb9 hs3134.2.2.1.2.2) | omega) kx
                  ·
                    refine z_aload_n X (x := A 179) (show cdA 227 138 = some (.aload_n 0, 1, 0, 0, 0) from rfl) (List.Mem.tail _ (List.Mem.tail _ (List.Mem.tail _ (List.Mem.head _)))) ?_
                    refine s_getR X 179 (show cdA 227 139 = some (.getfield 64, 3, 12, 33, 0) from rfl) (by decide) rfl rfl ?_
                    refine z_load_n X (x := a) (show cdA 227 142 = some (.iload_n 1, 1, 0, 0, 0) from rfl) (List.Mem.tail _ (List.Mem.tail _ (List.Mem.tail _ (List.Mem.tail _ (List.Mem.head _))))) ?_
                    refine z_aald X rw_230 (show cdA 227 143 = some (.aaload, 1, 0, 0, 0) from rfl) (by first | exact hi.1.1 | omega) (show a < 12 by first | exact oq_0ddfcfee hi.1.2.2 | omega) (by decide) ?_
                    refine z_load_n X (x := ka) (show cdA 227 144 = some (.iload_n 3, 1, 0, 0, 0) from rfl) (List.Mem.tail _ (List.Mem.tail _ (List.Mem.tail _ (List.Mem.tail _ (List.Mem.tail _ (List.Mem.head _)))))) ?_
                    refine z_const X (show cdA 227 145 = some (.iconst 1, 1, 0, 0, 0) from rfl) ?_
                    refine z_sub X (show cdA 227 146 = some (.isub, 1, 0, 0, 0) from rfl) ?_
                    refine z_ald2 X rw_230 (show cdA 227 147 = some (.iaload, 1, 0, 0, 0) from rfl) (show (a : Int).toNat < 12 by first | exact oq_9c5fa447 hi.1.2.2 | omega) (by first | exact oq_a4f22177 g3120 | omega) (show (ka - 1) < 24 by first | exact oq_19cb6f5b hi.2.2.1.2.2 | omega) (by decide) ?_
                    have b3137 : (0 : Int) ≤ (iC t (204 + (a : Int).toNat) ((ka - 1) : Int).toNat) ∧ (iC t (204 + (a : Int).toNat) ((ka - 1) : Int).toNat) ≤ 127 := rw_bd rw_230 I (show (a : Int).toNat < 12 by first | exact oq_9c5fa447 hi.1.2.2 | omega) (show ((ka - 1) : Int).toNat < 24 by first | exact oq_f976b25c hi.2.2.1.2.2 | omega)
                    refine z_load X (x := (iC t (204 + (a : Int).toNat) (ka : Int).toNat)) (show cdA 227 148 = some (.iload 4, 2, 0, 0, 0) from rfl) (List.Mem.tail _ (List.Mem.tail _ (List.Mem.head _))) ?_
                    refine z_callS X (rm := rmN 225) (As := [.int (Int32.ofInt (iC t (204 + (a : Int).toNat) ((ka - 1) : Int).toNat)), .int (Int32.ofInt (iC t (204 + (a : Int).toNat) (ka : Int).toNat))]) (st := []) (show cdA 227 150 = some (.invokestatic 312, 3, 225, 1, 0) from rfl) rfl (by rw [E.1, E.2.1, E.2.2.1]; exact k_stepOf3 G I (by first | exact ⟨b3137.1, b3137.2⟩ | omega) (by first | exact ⟨b3006.1, b3006.2⟩ | omega)) ⟨by rw [E.2.2.2]; exact (show (rmN 225).frames + 1 ≤ (rmN 227).frames by decide), by rw [E.2.2.2]; exact (show 8 + (mNL (miB 225) + 11) + (rmN 225).locals ≤ (rmN 227).locals by decide), by rw [E.2.2.2]; exact (show 0 + (rmN 225).cells ≤ (rmN 227).cells by decide), by rw [E.2.2.2]; exact (show 0 + (rmN 225).slots ≤ (rmN 227).slots by decide)⟩ (Nat.le_of_ble_eq_true rfl) (fun vv s3138 hq => ?_) (fun ee s3138 hq => ?_)
                    rotate_left
                    · obtain ⟨rfl, e3139, hv, hrs3138, hps3138⟩ := hq; cases hv
                    obtain ⟨rfl, e3139, hv, hrs3138, hps3138⟩ := hq
                    cases hv
                    show WS k 153 [(5, .int (Int32.ofInt (iC t 230 ((iC t (204 + (a : Int).toNat) ((ka - 1) : Int).toNat)).toNat))), (2, .int (Int32.ofInt 1)), (4, .int (Int32.ofInt (iC t (204 + (a : Int).toNat) (ka : Int).toNat))), (0, .ref (A 179)), (1, .int (Int32.ofInt a)), (3, .int (Int32.ofInt ka))] [.int (Int32.ofInt e3139)] (Wd A dT t) 0 0
                    have hcQ : iC t (204 + (a : Int).toNat) (ka - 1).toNat = fwM s (a : Int).toNat (ka - 1).toNat := fm_c F (fun h => by have := List.mem_singleton.mp h; omega)
                    have hGB : e3139 = goB (fwM s (a : Int).toNat (ka - 1).toNat) (fwM s (a : Int).toNat (ka : Int).toNat) := by rw [← hcQ, ← hcW]; exact hps3138.1
                    refine z_const X (show cdA 227 153 = some (.iconst 3, 1, 0, 0, 0) from rfl) ?_
                    refine z_icmp_le X (t := 172) (show cdA 227 154 = some (.if_icmp .le 18, 3, 5, 0, 0) from rfl) (by decide) hrs3138 (by decide) (fun g3140 => ?_) (fun g3140 => ?_)
                    ·
                      refine z_load_n X (x := a) (show cdA 227 172 = some (.iload_n 1, 1, 0, 0, 0) from rfl) (List.Mem.tail _ (List.Mem.tail _ (List.Mem.tail _ (List.Mem.tail _ (List.Mem.head _))))) ?_
                      refine z_const X (show cdA 227 173 = some (.iconst 1, 1, 0, 0, 0) from rfl) ?_
                      refine z_add X (show cdA 227 174 = some (.iadd, 1, 0, 0, 0) from rfl) ?_
                      refine z_store X (lv' := [(5, .int (Int32.ofInt (a + 1))), (2, .int (Int32.ofInt 1)), (4, .int (Int32.ofInt (iC t (204 + (a : Int).toNat) (ka : Int).toNat))), (0, .ref (A 179)), (1, .int (Int32.ofInt a)), (3, .int (Int32.ofInt ka))]) (show cdA 227 175 = some (.istore 5, 2, 0, 0, 0) from rfl) (by decide) (fun _ h => h) ?_
                      refine WS_lv (lv := [(0, .ref (A 179)), (1, .int (Int32.ofInt a)), (2, .int (Int32.ofInt 1)), (3, .int (Int32.ofInt ka)), (4, .int (Int32.ofInt (iC t (204 + (a : Int).toNat) (ka : Int).toNat))), (5, .int (Int32.ofInt (a + 1)))]) (List.forall_mem_cons.mpr ⟨(List.Mem.tail _ (List.Mem.tail _ (List.Mem.tail _ (List.Mem.head _)))), (List.forall_mem_cons.mpr ⟨(List.Mem.tail _ (List.Mem.tail _ (List.Mem.tail _ (List.Mem.tail _ (List.Mem.head _))))), (List.forall_mem_cons.mpr ⟨(List.Mem.tail _ (List.Mem.head _)), (List.forall_mem_cons.mpr ⟨(List.Mem.tail _ (List.Mem.tail _ (List.Mem.tail _ (List.Mem.tail _ (List.Mem.tail _ (List.Mem.head _)))))), (List.forall_mem_cons.mpr ⟨(List.Mem.tail _ (List.Mem.tail _ (List.Mem.head _))), (List.forall_mem_cons.mpr ⟨(List.Mem.head _), (fun q h => absurd h List.not_mem_nil)⟩)⟩)⟩)⟩)⟩)⟩) ?_
                      refine L177 ((12 - (a + 1) : Int).toNat + 1) t a 1 ka (iC t (204 + (a : Int).toNat) (ka : Int).toNat) (a + 1) I F jjNW jjNWL ⟨lmb_0 hq.2 (by omega) (ov_s0 (by omega) (by rw [hS1, hS2]; omega)) (cl_s0 (by omega) (by rw [hS1, hS2, ← hGB]; omega)), hcW, hIZ⟩ (by first | exact ⟨And.intro (hi.1.1) (And.intro (hi.1.2.1) (hi.1.2.2)), Or.inr (by decide), by omega, And.intro (b3006.1) (b3006.2), And.intro (by decide) (oq_afc84a8d hi.1.2.1), hi.2.2.2⟩ | omega) (Nat.lt_succ_self _) ?_
                      intro s3141 x3142 Is3141 Fs3141 JNW_s3141 JNWL_s3141 Qs3141 hs3141
                      have b3143 : (0 : Int) ≤ iI s3141 90 ∧ iI s3141 90 ≤ 12 := Is3141.1 90
                      refine z_inc X (x := ka) (lv' := [(3, .int (Int32.ofInt (ka + 1))), (0, .ref (A 179)), (1, .int (Int32.ofInt a)), (2, .int (Int32.ofInt 1)), (4, .int (Int32.ofInt (iC t (204 + (a : Int).toNat) (ka : Int).toNat))), (5, .int (Int32.ofInt x3142))]) (show cdA 227 278 = some (.iinc 3 1, 3, 0, 0, 0) from rfl) (by decide) (List.Mem.tail _ (List.Mem.tail _ (List.Mem.tail _ (List.Mem.head _)))) (fun _ h => h) ?_
                      refine z_goto X (t := 35) (show cdA 227 281 = some (.goto (-246), 3, 0, 0, 0) from rfl) (by decide) ?_
                      refine WS_lv (lv := [(0, .ref (A 179)), (1, .int (Int32.ofInt a)), (2, .int (Int32.ofInt 1)), (3, .int (Int32.ofInt (ka + 1)))]) (List.forall_mem_cons.mpr ⟨(List.Mem.tail _ (List.Mem.head _)), (List.forall_mem_cons.mpr ⟨(List.Mem.tail _ (List.Mem.tail _ (List.Mem.head _))), (List.forall_mem_cons.mpr ⟨(List.Mem.tail _ (List.Mem.tail _ (List.Mem.tail _ (List.Mem.head _)))), (List.forall_mem_cons.mpr ⟨(List.Mem.head _), (fun q h => absurd h List.not_mem_nil)⟩)⟩)⟩)⟩) ?_
                      exact ih _ a 1 (ka + 1) Is3141 Fs3141 JNW_s3141 JNWL_s3141 (lmk_up Qs3141.1 rfl (by omega) Qs3141.2.2) (by first | exact ⟨And.intro (hs3141.1.1) (And.intro (hs3141.1.2.1) (hs3141.1.2.2)), hs3141.2.1, And.intro (oq_54f49eb5 hs3141.2.2.1.1) (And.intro (oq_afc84a8d hs3141.2.2.1.2.1) (oq_3d4d89a6 hs3141.2.2.1.2.2)), hs3141.2.2.2⟩ | omega) (by first | exact qk_me hm (by decide) (oq_fa9b5cb9 hs3141.2.2.1.2.2) | omega) kx
                    ·
                      refine z_aload_n X (x := A 179) (show cdA 227 157 = some (.aload_n 0, 1, 0, 0, 0) from rfl) (List.Mem.tail _ (List.Mem.tail _ (List.Mem.tail _ (List.Mem.head _)))) ?_
                      refine s_getR X 179 (show cdA 227 158 = some (.getfield 32, 3, 12, 21, 0) from rfl) (by decide) rfl rfl ?_
                      refine z_const X (show cdA 227 161 = some (.iconst 3, 1, 0, 0, 0) from rfl) ?_
                      refine w_dup2_11 X.1 (ax_d X (show cdA 227 162 = some (.dup2, 1, 0, 0, 0) from rfl)) rfl rfl ?_
                      refine z_ald X 184 (show cdA 227 163 = some (.iaload, 1, 0, 0, 0) from rfl) (by decide) rfl (by decide) (show 3 < 7 by decide) (by decide) ?_
                      have b3144 : ((-2147483648) : Int) ≤ iC t 161 (3 : Int).toNat ∧ iC t 161 (3 : Int).toNat ≤ 2147483647 := I.2 161 _ (show (3 : Int).toNat < 7 by first | exact oq_bea6b7ec | omega)
                      refine z_aload_n X (x := A 179) (show cdA 227 164 = some (.aload_n 0, 1, 0, 0, 0) from rfl) (List.Mem.tail _ (List.Mem.tail _ (List.Mem.tail _ (List.Mem.head _)))) ?_
                      refine s_getR X 179 (show cdA 227 165 = some (.getfield 61, 3, 12, 32, 0) from rfl) (by decide) rfl rfl ?_
                      refine z_load_n X (x := a) (show cdA 227 168 = some (.iload_n 1, 1, 0, 0, 0) from rfl) (List.Mem.tail _ (List.Mem.tail _ (List.Mem.tail _ (List.Mem.tail _ (List.Mem.head _))))) ?_
                      refine z_ald X 229 (show cdA 227 169 = some (.iaload, 1, 0, 0, 0) from rfl) (by decide) rfl (by first | exact hi.1.1 | omega) (show a < 12 by first | exact oq_0ddfcfee hi.1.2.2 | omega) (by decide) ?_
                      have b3145 : (0 : Int) ≤ iC t 203 (a).toNat ∧ iC t 203 (a).toNat ≤ 50 := I.2 203 _ (show (a).toNat < 12 by first | exact oq_9c5fa447 hi.1.2.2 | omega)
                      refine z_add X (show cdA 227 170 = some (.iadd, 1, 0, 0, 0) from rfl) ?_
                      have hM3 := (fm_c F (by decide) : iC t 203 (a : Int).toNat = iC s 203 (a : Int).toNat)
                      have hR4 := lm_r (S := inM s) hMo hMy (a := (a : Int).toNat) (k := (ka - 1).toNat) (by omega) (by omega)
                      have hR5 : 0 ≤ iC s 203 (a : Int).toNat ∧ iC s 203 (a : Int).toNat ≤ 50 := hMo (a : Int).toNat (by omega)
                      have hN3 : iC t 161 (3 : Int).toNat = caH (inM s) (WYM s) (moM s) (a : Int).toNat + moM s (a : Int).toNat * clH (inM s) (fwM s (a : Int).toNat) (ka - 1).toNat := hq.2.2.2.2.1
                      refine z_ast X 184 (show cdA 227 171 = some (.iastore, 1, 0, 0, 0) from rfl) (by decide) rfl (by decide) (show 3 < 7 by decide) (by decide) ?_
                      obtain ⟨s3146, hs3146⟩ : ∃ x0, x0 = uC t 161 (3 : Int).toNat (Int32.ofInt ((iC t 161 (3 : Int).toNat) + (iC t 203 (a).toNat))) := ⟨_, rfl⟩
                      rw [← hs3146]
                      have Is3146 : Bd s3146 := by rw [hs3146]; exact bd_C I (show ((-2147483648) : Int) ≤ ((iC t 161 (3 : Int).toNat) + (iC t 203 (a).toNat)) ∧ ((iC t 161 (3 : Int).toNat) + (iC t 203 (a).toNat)) ≤ 2147483647 by first | exact ⟨oq_d82b5a64 b3145.1 b3144.1, by omega⟩ | omega) ⟨by first | exact oq_d82b5a64 b3145.1 b3144.1 | omega, by omega⟩
                      have Fs3146 := fm_C (i := (3 : Int).toNat) (x := Int32.ofInt ((iC t 161 (3 : Int).toNat) + (iC t 203 (a).toNat))) F (show 161 ∈ _ by decide)
                      rw [← hs3146] at Fs3146
                      have ws3146_90 : iI s3146 90 = iI t 90 := by rw [hs3146]; rfl
                      have fs3146 : Fm [] [161] t s3146 := by rw [hs3146]; exact fm_C (fm_rf _ _ _) (show 161 ∈ _ by decide)
                      have JNW_s3146 : NW s3146 := NW_fm fs3146 (by decide) jjNW
                      have JNWL_s3146 : NWL s3146 := NWL_fm fs3146 (by decide) jjNWL
                      refine z_load_n X (x := a) (show cdA 227 172 = some (.iload_n 1, 1, 0, 0, 0) from rfl) (List.Mem.tail _ (List.Mem.tail _ (List.Mem.tail _ (List.Mem.tail _ (List.Mem.head _))))) ?_
                      refine z_const X (show cdA 227 173 = some (.iconst 1, 1, 0, 0, 0) from rfl) ?_
                      refine z_add X (show cdA 227 174 = some (.iadd, 1, 0, 0, 0) from rfl) ?_
                      refine z_store X (lv' := [(5, .int (Int32.ofInt (a + 1))), (2, .int (Int32.ofInt 1)), (4, .int (Int32.ofInt (iC t (204 + (a : Int).toNat) (ka : Int).toNat))), (0, .ref (A 179)), (1, .int (Int32.ofInt a)), (3, .int (Int32.ofInt ka))]) (show cdA 227 175 = some (.istore 5, 2, 0, 0, 0) from rfl) (by decide) (fun _ h => h) ?_
                      refine WS_lv (lv := [(0, .ref (A 179)), (1, .int (Int32.ofInt a)), (2, .int (Int32.ofInt 1)), (3, .int (Int32.ofInt ka)), (4, .int (Int32.ofInt (iC t (204 + (a : Int).toNat) (ka : Int).toNat))), (5, .int (Int32.ofInt (a + 1)))]) (List.forall_mem_cons.mpr ⟨(List.Mem.tail _ (List.Mem.tail _ (List.Mem.tail _ (List.Mem.head _)))), (List.forall_mem_cons.mpr ⟨(List.Mem.tail _ (List.Mem.tail _ (List.Mem.tail _ (List.Mem.tail _ (List.Mem.head _))))), (List.forall_mem_cons.mpr ⟨(List.Mem.tail _ (List.Mem.head _)), (List.forall_mem_cons.mpr ⟨(List.Mem.tail _ (List.Mem.tail _ (List.Mem.tail _ (List.Mem.tail _ (List.Mem.tail _ (List.Mem.head _)))))), (List.forall_mem_cons.mpr ⟨(List.Mem.tail _ (List.Mem.tail _ (List.Mem.head _))), (List.forall_mem_cons.mpr ⟨(List.Mem.head _), (fun q h => absurd h List.not_mem_nil)⟩)⟩)⟩)⟩)⟩)⟩) ?_
                      refine L177 ((12 - (a + 1) : Int).toNat + 1) s3146 a 1 ka (iC t (204 + (a : Int).toNat) (ka : Int).toNat) (a + 1) Is3146 Fs3146 JNW_s3146 JNWL_s3146 ⟨lmb_0 (nm_3 hq.2 hs3146 (by rw [hM3]; exact ⟨by omega, by omega⟩)) (by omega) (ov_s0 (by omega) (by rw [hS1, hS2]; omega)) (by rw [hM3]; exact cl_st (by omega) (Or.inl ⟨rfl, by rw [hS1, hS2, ← hGB]; omega⟩)), hcW, hIZ⟩ (by first | exact ⟨And.intro (hi.1.1) (And.intro (hi.1.2.1) (hi.1.2.2)), Or.inr (by decide), by omega, And.intro (b3006.1) (b3006.2), And.intro (by decide) (oq_afc84a8d hi.1.2.1), oq_1aa5be9e ws3146_90 hi.2.2.2⟩ | omega) (Nat.lt_succ_self _) ?_
                      intro s3147 x3148 Is3147 Fs3147 JNW_s3147 JNWL_s3147 Qs3147 hs3147
                      have b3149 : (0 : Int) ≤ iI s3147 90 ∧ iI s3147 90 ≤ 12 := Is3147.1 90
                      refine z_inc X (x := ka) (lv' := [(3, .int (Int32.ofInt (ka + 1))), (0, .ref (A 179)), (1, .int (Int32.ofInt a)), (2, .int (Int32.ofInt 1)), (4, .int (Int32.ofInt (iC t (204 + (a : Int).toNat) (ka : Int).toNat))), (5, .int (Int32.ofInt x3148))]) (show cdA 227 278 = some (.iinc 3 1, 3, 0, 0, 0) from rfl) (by decide) (List.Mem.tail _ (List.Mem.tail _ (List.Mem.tail _ (List.Mem.head _)))) (fun _ h => h) ?_
                      refine z_goto X (t := 35) (show cdA 227 281 = some (.goto (-246), 3, 0, 0, 0) from rfl) (by decide) ?_
                      refine WS_lv (lv := [(0, .ref (A 179)), (1, .int (Int32.ofInt a)), (2, .int (Int32.ofInt 1)), (3, .int (Int32.ofInt (ka + 1)))]) (List.forall_mem_cons.mpr ⟨(List.Mem.tail _ (List.Mem.head _)), (List.forall_mem_cons.mpr ⟨(List.Mem.tail _ (List.Mem.tail _ (List.Mem.head _))), (List.forall_mem_cons.mpr ⟨(List.Mem.tail _ (List.Mem.tail _ (List.Mem.tail _ (List.Mem.head _)))), (List.forall_mem_cons.mpr ⟨(List.Mem.head _), (fun q h => absurd h List.not_mem_nil)⟩)⟩)⟩)⟩) ?_
                      exact ih _ a 1 (ka + 1) Is3147 Fs3147 JNW_s3147 JNWL_s3147 (lmk_up Qs3147.1 rfl (by omega) Qs3147.2.2) (by first | exact ⟨And.intro (hs3147.1.1) (And.intro (hs3147.1.2.1) (hs3147.1.2.2)), hs3147.2.1, And.intro (oq_54f49eb5 hs3147.2.2.1.1) (And.intro (oq_afc84a8d hs3147.2.2.1.2.1) (oq_3d4d89a6 hs3147.2.2.1.2.2)), hs3147.2.2.2⟩ | omega) (by first | exact qk_me hm (by decide) (oq_fa9b5cb9 hs3147.2.2.1.2.2) | omega) kx
              ·
                refine z_aload_n X (x := A 179) (show cdA 227 108 = some (.aload_n 0, 1, 0, 0, 0) from rfl) (List.Mem.tail _ (List.Mem.tail _ (List.Mem.tail _ (List.Mem.head _)))) ?_
                refine s_getR X 179 (show cdA 227 109 = some (.getfield 32, 3, 12, 21, 0) from rfl) (by decide) rfl rfl ?_
                refine z_const X (show cdA 227 112 = some (.iconst 2, 1, 0, 0, 0) from rfl) ?_
                refine w_dup2_11 X.1 (ax_d X (show cdA 227 113 = some (.dup2, 1, 0, 0, 0) from rfl)) rfl rfl ?_
                refine z_ald X 184 (show cdA 227 114 = some (.iaload, 1, 0, 0, 0) from rfl) (by decide) rfl (by decide) (show 2 < 7 by decide) (by decide) ?_
                have b3150 : ((-2147483648) : Int) ≤ iC t 161 (2 : Int).toNat ∧ iC t 161 (2 : Int).toNat ≤ 2147483647 := I.2 161 _ (show (2 : Int).toNat < 7 by first | exact oq_62527c24 | omega)
                refine z_aload_n X (x := A 179) (show cdA 227 115 = some (.aload_n 0, 1, 0, 0, 0) from rfl) (List.Mem.tail _ (List.Mem.tail _ (List.Mem.tail _ (List.Mem.head _)))) ?_
                refine s_getR X 179 (show cdA 227 116 = some (.getfield 61, 3, 12, 32, 0) from rfl) (by decide) rfl rfl ?_
                refine z_load_n X (x := a) (show cdA 227 119 = some (.iload_n 1, 1, 0, 0, 0) from rfl) (List.Mem.tail _ (List.Mem.tail _ (List.Mem.tail _ (List.Mem.tail _ (List.Mem.head _))))) ?_
                refine z_ald X 229 (show cdA 227 120 = some (.iaload, 1, 0, 0, 0) from rfl) (by decide) rfl (by first | exact hi.1.1 | omega) (show a < 12 by first | exact oq_0ddfcfee hi.1.2.2 | omega) (by decide) ?_
                have b3151 : (0 : Int) ≤ iC t 203 (a).toNat ∧ iC t 203 (a).toNat ≤ 50 := I.2 203 _ (show (a).toNat < 12 by first | exact oq_9c5fa447 hi.1.2.2 | omega)
                refine z_add X (show cdA 227 121 = some (.iadd, 1, 0, 0, 0) from rfl) ?_
                have hM2 := (fm_c F (by decide) : iC t 203 (a : Int).toNat = iC s 203 (a : Int).toNat)
                have hR2 := lm_r (S := inM s) hMo hMy (a := (a : Int).toNat) (k := (ka - 1).toNat) (by omega) (by omega)
                have hR3 : 0 ≤ iC s 203 (a : Int).toNat ∧ iC s 203 (a : Int).toNat ≤ 50 := hMo (a : Int).toNat (by omega)
                have hN2 : iC t 161 (2 : Int).toNat = oaH (inM s) (WYM s) (moM s) (a : Int).toNat + moM s (a : Int).toNat * ovH (inM s) (fwM s (a : Int).toNat) (ka - 1).toNat := hq.2.2.2.1
                refine z_ast X 184 (show cdA 227 122 = some (.iastore, 1, 0, 0, 0) from rfl) (by decide) rfl (by decide) (show 2 < 7 by decide) (by decide) ?_
                obtain ⟨s3152, hs3152⟩ : ∃ x0, x0 = uC t 161 (2 : Int).toNat (Int32.ofInt ((iC t 161 (2 : Int).toNat) + (iC t 203 (a).toNat))) := ⟨_, rfl⟩
                rw [← hs3152]
                have Is3152 : Bd s3152 := by rw [hs3152]; exact bd_C I (show ((-2147483648) : Int) ≤ ((iC t 161 (2 : Int).toNat) + (iC t 203 (a).toNat)) ∧ ((iC t 161 (2 : Int).toNat) + (iC t 203 (a).toNat)) ≤ 2147483647 by first | exact ⟨oq_d82b5a64 b3151.1 b3150.1, by omega⟩ | omega) ⟨by first | exact oq_d82b5a64 b3151.1 b3150.1 | omega, by omega⟩
                have Fs3152 := fm_C (i := (2 : Int).toNat) (x := Int32.ofInt ((iC t 161 (2 : Int).toNat) + (iC t 203 (a).toNat))) F (show 161 ∈ _ by decide)
                rw [← hs3152] at Fs3152
                have ws3152_90 : iI s3152 90 = iI t 90 := by rw [hs3152]; rfl
                have fs3152 : Fm [] [161] t s3152 := by rw [hs3152]; exact fm_C (fm_rf _ _ _) (show 161 ∈ _ by decide)
                have JNW_s3152 : NW s3152 := NW_fm fs3152 (by decide) jjNW
                have JNWL_s3152 : NWL s3152 := NWL_fm fs3152 (by decide) jjNWL
                refine z_load X (x := (iC t 230 ((iC t (204 + (a : Int).toNat) ((ka - 1) : Int).toNat)).toNat)) (show cdA 227 123 = some (.iload 5, 2, 0, 0, 0) from rfl) (List.Mem.head _) ?_
                refine z_if_eq X (t := 172) (show cdA 227 125 = some (.ifCond .eq 47, 3, 0, 0, 0) from rfl) (by decide) (rng_to _) (fun g3153 => ?_) (fun g3153 => ?_)
                ·
                  refine z_load_n X (x := a) (show cdA 227 172 = some (.iload_n 1, 1, 0, 0, 0) from rfl) (List.Mem.tail _ (List.Mem.tail _ (List.Mem.tail _ (List.Mem.tail _ (List.Mem.head _))))) ?_
                  refine z_const X (show cdA 227 173 = some (.iconst 1, 1, 0, 0, 0) from rfl) ?_
                  refine z_add X (show cdA 227 174 = some (.iadd, 1, 0, 0, 0) from rfl) ?_
                  refine z_store X (lv' := [(5, .int (Int32.ofInt (a + 1))), (2, .int (Int32.ofInt 1)), (4, .int (Int32.ofInt (iC t (204 + (a : Int).toNat) (ka : Int).toNat))), (0, .ref (A 179)), (1, .int (Int32.ofInt a)), (3, .int (Int32.ofInt ka))]) (show cdA 227 175 = some (.istore 5, 2, 0, 0, 0) from rfl) (by decide) (fun _ h => h) ?_
                  refine WS_lv (lv := [(0, .ref (A 179)), (1, .int (Int32.ofInt a)), (2, .int (Int32.ofInt 1)), (3, .int (Int32.ofInt ka)), (4, .int (Int32.ofInt (iC t (204 + (a : Int).toNat) (ka : Int).toNat))), (5, .int (Int32.ofInt (a + 1)))]) (List.forall_mem_cons.mpr ⟨(List.Mem.tail _ (List.Mem.tail _ (List.Mem.tail _ (List.Mem.head _)))), (List.forall_mem_cons.mpr ⟨(List.Mem.tail _ (List.Mem.tail _ (List.Mem.tail _ (List.Mem.tail _ (List.Mem.head _))))), (List.forall_mem_cons.mpr ⟨(List.Mem.tail _ (List.Mem.head _)), (List.forall_mem_cons.mpr ⟨(List.Mem.tail _ (List.Mem.tail _ (List.Mem.tail _ (List.Mem.tail _ (List.Mem.tail _ (List.Mem.head _)))))), (List.forall_mem_cons.mpr ⟨(List.Mem.tail _ (List.Mem.tail _ (List.Mem.head _))), (List.forall_mem_cons.mpr ⟨(List.Mem.head _), (fun q h => absurd h List.not_mem_nil)⟩)⟩)⟩)⟩)⟩)⟩) ?_
                  refine L177 ((12 - (a + 1) : Int).toNat + 1) s3152 a 1 ka (iC t (204 + (a : Int).toNat) (ka : Int).toNat) (a + 1) Is3152 Fs3152 JNW_s3152 JNWL_s3152 ⟨lmb_0 (nm_2 hq.2 hs3152 (by rw [hM2]; exact ⟨by omega, by omega⟩)) (by omega) (by rw [hM2]; exact ov_st (by omega) (Or.inl ⟨rfl, by rw [hS1, hS2]; omega⟩)) (cl_s0 (by omega) (by rw [hS1, hS2]; omega)), hcW, hIZ⟩ (by first | exact ⟨And.intro (hi.1.1) (And.intro (hi.1.2.1) (hi.1.2.2)), Or.inr (by decide), by omega, And.intro (b3006.1) (b3006.2), And.intro (by decide) (oq_afc84a8d hi.1.2.1), oq_1aa5be9e ws3152_90 hi.2.2.2⟩ | omega) (Nat.lt_succ_self _) ?_
                  intro s3154 x3155 Is3154 Fs3154 JNW_s3154 JNWL_s3154 Qs3154 hs3154
                  have b3156 : (0 : Int) ≤ iI s3154 90 ∧ iI s3154 90 ≤ 12 := Is3154.1 90
                  refine z_inc X (x := ka) (lv' := [(3, .int (Int32.ofInt (ka + 1))), (0, .ref (A 179)), (1, .int (Int32.ofInt a)), (2, .int (Int32.ofInt 1)), (4, .int (Int32.ofInt (iC t (204 + (a : Int).toNat) (ka : Int).toNat))), (5, .int (Int32.ofInt x3155))]) (show cdA 227 278 = some (.iinc 3 1, 3, 0, 0, 0) from rfl) (by decide) (List.Mem.tail _ (List.Mem.tail _ (List.Mem.tail _ (List.Mem.head _)))) (fun _ h => h) ?_
                  refine z_goto X (t := 35) (show cdA 227 281 = some (.goto (-246), 3, 0, 0, 0) from rfl) (by decide) ?_
                  refine WS_lv (lv := [(0, .ref (A 179)), (1, .int (Int32.ofInt a)), (2, .int (Int32.ofInt 1)), (3, .int (Int32.ofInt (ka + 1)))]) (List.forall_mem_cons.mpr ⟨(List.Mem.tail _ (List.Mem.head _)), (List.forall_mem_cons.mpr ⟨(List.Mem.tail _ (List.Mem.tail _ (List.Mem.head _))), (List.forall_mem_cons.mpr ⟨(List.Mem.tail _ (List.Mem.tail _ (List.Mem.tail _ (List.Mem.head _)))), (List.forall_mem_cons.mpr ⟨(List.Mem.head _), (fun q h => absurd h List.not_mem_nil)⟩)⟩)⟩)⟩) ?_
                  exact ih _ a 1 (ka + 1) Is3154 Fs3154 JNW_s3154 JNWL_s3154 (lmk_up Qs3154.1 rfl (by omega) Qs3154.2.2) (by first | exact ⟨And.intro (hs3154.1.1) (And.intro (hs3154.1.2.1) (hs3154.1.2.2)), hs3154.2.1, And.intro (oq_54f49eb5 hs3154.2.2.1.1) (And.intro (oq_afc84a8d hs3154.2.2.1.2.1) (oq_3d4d89a6 hs3154.2.2.1.2.2)), hs3154.2.2.2⟩ | omega) (by first | exact qk_me hm (by decide) (oq_fa9b5cb9 hs3154.2.2.1.2.2) | omega) kx
                ·
                  have hZ8 : iC s3152 230 ((iC t (204 + (a : Int).toNat) (ka : Int).toNat) : Int).toNat = iC t 230 ((iC t (204 + (a : Int).toNat) (ka : Int).toNat) : Int).toNat := by rw [hs3152]; exact iC_a (by decide)
                  refine z_aload_n X (x := A 179) (show cdA 227 128 = some (.aload_n 0, 1, 0, 0, 0) from rfl) (List.Mem.tail _ (List.Mem.tail _ (List.Mem.tail _ (List.Mem.head _)))) ?_
                  refine s_getR X 179 (show cdA 227 129 = some (.getfield 76, 3, 12, 37, 0) from rfl) (by decide) rfl rfl ?_
                  refine z_load X (x := (iC t (204 + (a : Int).toNat) (ka : Int).toNat)) (show cdA 227 132 = some (.iload 4, 2, 0, 0, 0) from rfl) (List.Mem.tail _ (List.Mem.tail _ (List.Mem.head _))) ?_
                  refine z_zald X 258 (show cdA 227 134 = some (.baload, 1, 0, 0, 0) from rfl) (by decide) rfl (by first | exact b3006.1 | omega) (show (iC t (204 + (a : Int).toNat) (ka : Int).toNat) < 128 by first | exact oq_31b2bf10 b3006.2 | omega) (by decide) ?_
                  have b3157 : (0 : Int) ≤ iC s3152 230 ((iC t (204 + (a : Int).toNat) (ka : Int).toNat)).toNat ∧ iC s3152 230 ((iC t (204 + (a : Int).toNat) (ka : Int).toNat)).toNat ≤ 1 := Is3152.2 230 _ (show ((iC t (204 + (a : Int).toNat) (ka : Int).toNat)).toNat < 128 by first | exact oq_c7f4e9c1 b3006.2 | omega)
                  refine z_if_eq X (t := 172) (show cdA 227 135 = some (.ifCond .eq 37, 3, 0, 0, 0) from rfl) (by decide) (rng_to _) (fun g3158 => ?_) (fun g3158 => ?_)
                  ·
                    refine z_load_n X (x := a) (show cdA 227 172 = some (.iload_n 1, 1, 0, 0, 0) from rfl) (List.Mem.tail _ (List.Mem.tail _ (List.Mem.tail _ (List.Mem.tail _ (List.Mem.head _))))) ?_
                    refine z_const X (show cdA 227 173 = some (.iconst 1, 1, 0, 0, 0) from rfl) ?_
                    refine z_add X (show cdA 227 174 = some (.iadd, 1, 0, 0, 0) from rfl) ?_
                    refine z_store X (lv' := [(5, .int (Int32.ofInt (a + 1))), (2, .int (Int32.ofInt 1)), (4, .int (Int32.ofInt (iC t (204 + (a : Int).toNat) (ka : Int).toNat))), (0, .ref (A 179)), (1, .int (Int32.ofInt a)), (3, .int (Int32.ofInt ka))]) (show cdA 227 175 = some (.istore 5, 2, 0, 0, 0) from rfl) (by decide) (fun _ h => h) ?_
                    refine WS_lv (lv := [(0, .ref (A 179)), (1, .int (Int32.ofInt a)), (2, .int (Int32.ofInt 1)), (3, .int (Int32.ofInt ka)), (4, .int (Int32.ofInt (iC t (204 + (a : Int).toNat) (ka : Int).toNat))), (5, .int (Int32.ofInt (a + 1)))]) (List.forall_mem_cons.mpr ⟨(List.Mem.tail _ (List.Mem.tail _ (List.Mem.tail _ (List.Mem.head _)))), (List.forall_mem_cons.mpr ⟨(List.Mem.tail _ (List.Mem.tail _ (List.Mem.tail _ (List.Mem.tail _ (List.Mem.head _))))), (List.forall_mem_cons.mpr ⟨(List.Mem.tail _ (List.Mem.head _)), (List.forall_mem_cons.mpr ⟨(List.Mem.tail _ (List.Mem.tail _ (List.Mem.tail _ (List.Mem.tail _ (List.Mem.tail _ (List.Mem.head _)))))), (List.forall_mem_cons.mpr ⟨(List.Mem.tail _ (List.Mem.tail _ (List.Mem.head _))), (List.forall_mem_cons.mpr ⟨(List.Mem.head _), (fun q h => absurd h List.not_mem_nil)⟩)⟩)⟩)⟩)⟩)⟩) ?_
                    refine L177 ((12 - (a + 1) : Int).toNat + 1) s3152 a 1 ka (iC t (204 + (a : Int).toNat) (ka : Int).toNat) (a + 1) Is3152 Fs3152 JNW_s3152 JNWL_s3152 ⟨lmb_0 (nm_2 hq.2 hs3152 (by rw [hM2]; exact ⟨by omega, by omega⟩)) (by omega) (by rw [hM2]; exact ov_st (by omega) (Or.inl ⟨rfl, by rw [hS1, hS2]; omega⟩)) (cl_s0 (by omega) (by rw [hS1, hS2]; omega)), hcW, hIZ⟩ (by first | exact ⟨And.intro (hi.1.1) (And.intro (hi.1.2.1) (hi.1.2.2)), Or.inr (by decide), oq_ca721d9c g3158 hZ8 b3126.1 g3064, And.intro (b3006.1) (b3006.2), And.intro (by decide) (oq_afc84a8d hi.1.2.1), oq_1aa5be9e ws3152_90 hi.2.2.2⟩ | omega) (Nat.lt_succ_self _) ?_
                    intro s3159 x3160 Is3159 Fs3159 JNW_s3159 JNWL_s3159 Qs3159 hs3159
                    have b3161 : (0 : Int) ≤ iI s3159 90 ∧ iI s3159 90 ≤ 12 := Is3159.1 90
                    refine z_inc X (x := ka) (lv' := [(3, .int (Int32.ofInt (ka + 1))), (0, .ref (A 179)), (1, .int (Int32.ofInt a)), (2, .int (Int32.ofInt 1)), (4, .int (Int32.ofInt (iC t (204 + (a : Int).toNat) (ka : Int).toNat))), (5, .int (Int32.ofInt x3160))]) (show cdA 227 278 = some (.iinc 3 1, 3, 0, 0, 0) from rfl) (by decide) (List.Mem.tail _ (List.Mem.tail _ (List.Mem.tail _ (List.Mem.head _)))) (fun _ h => h) ?_
                    refine z_goto X (t := 35) (show cdA 227 281 = some (.goto (-246), 3, 0, 0, 0) from rfl) (by decide) ?_
                    refine WS_lv (lv := [(0, .ref (A 179)), (1, .int (Int32.ofInt a)), (2, .int (Int32.ofInt 1)), (3, .int (Int32.ofInt (ka + 1)))]) (List.forall_mem_cons.mpr ⟨(List.Mem.tail _ (List.Mem.head _)), (List.forall_mem_cons.mpr ⟨(List.Mem.tail _ (List.Mem.tail _ (List.Mem.head _))), (List.forall_mem_cons.mpr ⟨(List.Mem.tail _ (List.Mem.tail _ (List.Mem.tail _ (List.Mem.head _)))), (List.forall_mem_cons.mpr ⟨(List.Mem.head _), (fun q h => absurd h List.not_mem_nil)⟩)⟩)⟩)⟩) ?_
                    exact ih _ a 1 (ka + 1) Is3159 Fs3159 JNW_s3159 JNWL_s3159 (lmk_up Qs3159.1 rfl (by omega) Qs3159.2.2) (by first | exact ⟨And.intro (hs3159.1.1) (And.intro (hs3159.1.2.1) (hs3159.1.2.2)), hs3159.2.1, And.intro (oq_54f49eb5 hs3159.2.2.1.1) (And.intro (oq_afc84a8d hs3159.2.2.1.2.1) (oq_3d4d89a6 hs3159.2.2.1.2.2)), hs3159.2.2.2⟩ | omega) (by first | exact qk_me hm (by decide) (oq_fa9b5cb9 hs3159.2.2.1.2.2) | omega) kx
                  ·
                    refine z_aload_n X (x := A 179) (show cdA 227 138 = some (.aload_n 0, 1, 0, 0, 0) from rfl) (List.Mem.tail _ (List.Mem.tail _ (List.Mem.tail _ (List.Mem.head _)))) ?_
                    refine s_getR X 179 (show cdA 227 139 = some (.getfield 64, 3, 12, 33, 0) from rfl) (by decide) rfl rfl ?_
                    refine z_load_n X (x := a) (show cdA 227 142 = some (.iload_n 1, 1, 0, 0, 0) from rfl) (List.Mem.tail _ (List.Mem.tail _ (List.Mem.tail _ (List.Mem.tail _ (List.Mem.head _))))) ?_
                    refine z_aald X rw_230 (show cdA 227 143 = some (.aaload, 1, 0, 0, 0) from rfl) (by first | exact hi.1.1 | omega) (show a < 12 by first | exact oq_0ddfcfee hi.1.2.2 | omega) (by decide) ?_
                    refine z_load_n X (x := ka) (show cdA 227 144 = some (.iload_n 3, 1, 0, 0, 0) from rfl) (List.Mem.tail _ (List.Mem.tail _ (List.Mem.tail _ (List.Mem.tail _ (List.Mem.tail _ (List.Mem.head _)))))) ?_
                    refine z_const X (show cdA 227 145 = some (.iconst 1, 1, 0, 0, 0) from rfl) ?_
                    refine z_sub X (show cdA 227 146 = some (.isub, 1, 0, 0, 0) from rfl) ?_
                    refine z_ald2 X rw_230 (show cdA 227 147 = some (.iaload, 1, 0, 0, 0) from rfl) (show (a : Int).toNat < 12 by first | exact oq_9c5fa447 hi.1.2.2 | omega) (by first | exact oq_a4f22177 g3120 | omega) (show (ka - 1) < 24 by first | exact oq_19cb6f5b hi.2.2.1.2.2 | omega) (by decide) ?_
                    have b3162 : (0 : Int) ≤ (iC s3152 (204 + (a : Int).toNat) ((ka - 1) : Int).toNat) ∧ (iC s3152 (204 + (a : Int).toNat) ((ka - 1) : Int).toNat) ≤ 127 := rw_bd rw_230 Is3152 (show (a : Int).toNat < 12 by first | exact oq_9c5fa447 hi.1.2.2 | omega) (show ((ka - 1) : Int).toNat < 24 by first | exact oq_f976b25c hi.2.2.1.2.2 | omega)
                    refine z_load X (x := (iC t (204 + (a : Int).toNat) (ka : Int).toNat)) (show cdA 227 148 = some (.iload 4, 2, 0, 0, 0) from rfl) (List.Mem.tail _ (List.Mem.tail _ (List.Mem.head _))) ?_
                    refine z_callS X (rm := rmN 225) (As := [.int (Int32.ofInt (iC s3152 (204 + (a : Int).toNat) ((ka - 1) : Int).toNat)), .int (Int32.ofInt (iC t (204 + (a : Int).toNat) (ka : Int).toNat))]) (st := []) (show cdA 227 150 = some (.invokestatic 312, 3, 225, 1, 0) from rfl) rfl (by rw [E.1, E.2.1, E.2.2.1]; exact k_stepOf3 G Is3152 (by first | exact ⟨b3162.1, b3162.2⟩ | omega) (by first | exact ⟨b3006.1, b3006.2⟩ | omega)) ⟨by rw [E.2.2.2]; exact (show (rmN 225).frames + 1 ≤ (rmN 227).frames by decide), by rw [E.2.2.2]; exact (show 8 + (mNL (miB 225) + 11) + (rmN 225).locals ≤ (rmN 227).locals by decide), by rw [E.2.2.2]; exact (show 0 + (rmN 225).cells ≤ (rmN 227).cells by decide), by rw [E.2.2.2]; exact (show 0 + (rmN 225).slots ≤ (rmN 227).slots by decide)⟩ (Nat.le_of_ble_eq_true rfl) (fun vv s3163 hq => ?_) (fun ee s3163 hq => ?_)
                    rotate_left
                    · obtain ⟨rfl, e3164, hv, hrs3163, hps3163⟩ := hq; cases hv
                    obtain ⟨rfl, e3164, hv, hrs3163, hps3163⟩ := hq
                    cases hv
                    show WS k 153 [(5, .int (Int32.ofInt (iC t 230 ((iC t (204 + (a : Int).toNat) ((ka - 1) : Int).toNat)).toNat))), (2, .int (Int32.ofInt 1)), (4, .int (Int32.ofInt (iC t (204 + (a : Int).toNat) (ka : Int).toNat))), (0, .ref (A 179)), (1, .int (Int32.ofInt a)), (3, .int (Int32.ofInt ka))] [.int (Int32.ofInt e3164)] (Wd A dT s3152) 0 0
                    have hcQ : iC s3152 (204 + (a : Int).toNat) (ka - 1).toNat = fwM s (a : Int).toNat (ka - 1).toNat := fm_c Fs3152 (fun h => by have := List.mem_singleton.mp h; omega)
                    have hGB : e3164 = goB (fwM s (a : Int).toNat (ka - 1).toNat) (fwM s (a : Int).toNat (ka : Int).toNat) := by rw [← hcQ, ← hcW]; exact hps3163.1
                    refine z_const X (show cdA 227 153 = some (.iconst 3, 1, 0, 0, 0) from rfl) ?_
                    refine z_icmp_le X (t := 172) (show cdA 227 154 = some (.if_icmp .le 18, 3, 5, 0, 0) from rfl) (by decide) hrs3163 (by decide) (fun g3165 => ?_) (fun g3165 => ?_)
                    ·
                      refine z_load_n X (x := a) (show cdA 227 172 = some (.iload_n 1, 1, 0, 0, 0) from rfl) (List.Mem.tail _ (List.Mem.tail _ (List.Mem.tail _ (List.Mem.tail _ (List.Mem.head _))))) ?_
                      refine z_const X (show cdA 227 173 = some (.iconst 1, 1, 0, 0, 0) from rfl) ?_
                      refine z_add X (show cdA 227 174 = some (.iadd, 1, 0, 0, 0) from rfl) ?_
                      refine z_store X (lv' := [(5, .int (Int32.ofInt (a + 1))), (2, .int (Int32.ofInt 1)), (4, .int (Int32.ofInt (iC t (204 + (a : Int).toNat) (ka : Int).toNat))), (0, .ref (A 179)), (1, .int (Int32.ofInt a)), (3, .int (Int32.ofInt ka))]) (show cdA 227 175 = some (.istore 5, 2, 0, 0, 0) from rfl) (by decide) (fun _ h => h) ?_
                      refine WS_lv (lv := [(0, .ref (A 179)), (1, .int (Int32.ofInt a)), (2, .int (Int32.ofInt 1)), (3, .int (Int32.ofInt ka)), (4, .int (Int32.ofInt (iC t (204 + (a : Int).toNat) (ka : Int).toNat))), (5, .int (Int32.ofInt (a + 1)))]) (List.forall_mem_cons.mpr ⟨(List.Mem.tail _ (List.Mem.tail _ (List.Mem.tail _ (List.Mem.head _)))), (List.forall_mem_cons.mpr ⟨(List.Mem.tail _ (List.Mem.tail _ (List.Mem.tail _ (List.Mem.tail _ (List.Mem.head _))))), (List.forall_mem_cons.mpr ⟨(List.Mem.tail _ (List.Mem.head _)), (List.forall_mem_cons.mpr ⟨(List.Mem.tail _ (List.Mem.tail _ (List.Mem.tail _ (List.Mem.tail _ (List.Mem.tail _ (List.Mem.head _)))))), (List.forall_mem_cons.mpr ⟨(List.Mem.tail _ (List.Mem.tail _ (List.Mem.head _))), (List.forall_mem_cons.mpr ⟨(List.Mem.head _), (fun q h => absurd h List.not_mem_nil)⟩)⟩)⟩)⟩)⟩)⟩) ?_
                      refine L177 ((12 - (a + 1) : Int).toNat + 1) s3152 a 1 ka (iC t (204 + (a : Int).toNat) (ka : Int).toNat) (a + 1) Is3152 Fs3152 JNW_s3152 JNWL_s3152 ⟨lmb_0 (nm_2 hq.2 hs3152 (by rw [hM2]; exact ⟨by omega, by omega⟩)) (by omega) (by rw [hM2]; exact ov_st (by omega) (Or.inl ⟨rfl, by rw [hS1, hS2]; omega⟩)) (cl_s0 (by omega) (by rw [hS1, hS2, ← hGB]; omega)), hcW, hIZ⟩ (by first | exact ⟨And.intro (hi.1.1) (And.intro (hi.1.2.1) (hi.1.2.2)), Or.inr (by decide), oq_58b3fca9 g3158 b3157.1 hZ8 g3153 g3127 b3126.2 b3125.2 b3125.1, And.intro (b3006.1) (b3006.2), And.intro (by decide) (oq_afc84a8d hi.1.2.1), oq_1aa5be9e ws3152_90 hi.2.2.2⟩ | omega) (Nat.lt_succ_self _) ?_
                      intro s3166 x3167 Is3166 Fs3166 JNW_s3166 JNWL_s3166 Qs3166 hs3166
                      have b3168 : (0 : Int) ≤ iI s3166 90 ∧ iI s3166 90 ≤ 12 := Is3166.1 90
                      refine z_inc X (x := ka) (lv' := [(3, .int (Int32.ofInt (ka + 1))), (0, .ref (A 179)), (1, .int (Int32.ofInt a)), (2, .int (Int32.ofInt 1)), (4, .int (Int32.ofInt (iC t (204 + (a : Int).toNat) (ka : Int).toNat))), (5, .int (Int32.ofInt x3167))]) (show cdA 227 278 = some (.iinc 3 1, 3, 0, 0, 0) from rfl) (by decide) (List.Mem.tail _ (List.Mem.tail _ (List.Mem.tail _ (List.Mem.head _)))) (fun _ h => h) ?_
                      refine z_goto X (t := 35) (show cdA 227 281 = some (.goto (-246), 3, 0, 0, 0) from rfl) (by decide) ?_
                      refine WS_lv (lv := [(0, .ref (A 179)), (1, .int (Int32.ofInt a)), (2, .int (Int32.ofInt 1)), (3, .int (Int32.ofInt (ka + 1)))]) (List.forall_mem_cons.mpr ⟨(List.Mem.tail _ (List.Mem.head _)), (List.forall_mem_cons.mpr ⟨(List.Mem.tail _ (List.Mem.tail _ (List.Mem.head _))), (List.forall_mem_cons.mpr ⟨(List.Mem.tail _ (List.Mem.tail _ (List.Mem.tail _ (List.Mem.head _)))), (List.forall_mem_cons.mpr ⟨(List.Mem.head _), (fun q h => absurd h List.not_mem_nil)⟩)⟩)⟩)⟩) ?_
                      exact ih _ a 1 (ka + 1) Is3166 Fs3166 JNW_s3166 JNWL_s3166 (lmk_up Qs3166.1 rfl (by omega) Qs3166.2.2) (by first | exact ⟨And.intro (hs3166.1.1) (And.intro (hs3166.1.2.1) (hs3166.1.2.2)), hs3166.2.1, And.intro (oq_54f49eb5 hs3166.2.2.1.1) (And.intro (oq_afc84a8d hs3166.2.2.1.2.1) (oq_3d4d89a6 hs3166.2.2.1.2.2)), hs3166.2.2.2⟩ | omega) (by first | exact qk_me hm (by decide) (oq_fa9b5cb9 hs3166.2.2.1.2.2) | omega) kx
                    ·
                      refine z_aload_n X (x := A 179) (show cdA 227 157 = some (.aload_n 0, 1, 0, 0, 0) from rfl) (List.Mem.tail _ (List.Mem.tail _ (List.Mem.tail _ (List.Mem.head _)))) ?_
                      refine s_getR X 179 (show cdA 227 158 = some (.getfield 32, 3, 12, 21, 0) from rfl) (by decide) rfl rfl ?_
                      refine z_const X (show cdA 227 161 = some (.iconst 3, 1, 0, 0, 0) from rfl) ?_
                      refine w_dup2_11 X.1 (ax_d X (show cdA 227 162 = some (.dup2, 1, 0, 0, 0) from rfl)) rfl rfl ?_
                      refine z_ald X 184 (show cdA 227 163 = some (.iaload, 1, 0, 0, 0) from rfl) (by decide) rfl (by decide) (show 3 < 7 by decide) (by decide) ?_
                      have b3169 : ((-2147483648) : Int) ≤ iC s3152 161 (3 : Int).toNat ∧ iC s3152 161 (3 : Int).toNat ≤ 2147483647 := Is3152.2 161 _ (show (3 : Int).toNat < 7 by first | exact oq_bea6b7ec | omega)
                      refine z_aload_n X (x := A 179) (show cdA 227 164 = some (.aload_n 0, 1, 0, 0, 0) from rfl) (List.Mem.tail _ (List.Mem.tail _ (List.Mem.tail _ (List.Mem.head _)))) ?_
                      refine s_getR X 179 (show cdA 227 165 = some (.getfield 61, 3, 12, 32, 0) from rfl) (by decide) rfl rfl ?_
                      refine z_load_n X (x := a) (show cdA 227 168 = some (.iload_n 1, 1, 0, 0, 0) from rfl) (List.Mem.tail _ (List.Mem.tail _ (List.Mem.tail _ (List.Mem.tail _ (List.Mem.head _))))) ?_
                      refine z_ald X 229 (show cdA 227 169 = some (.iaload, 1, 0, 0, 0) from rfl) (by decide) rfl (by first | exact hi.1.1 | omega) (show a < 12 by first | exact oq_0ddfcfee hi.1.2.2 | omega) (by decide) ?_
                      have b3170 : (0 : Int) ≤ iC s3152 203 (a).toNat ∧ iC s3152 203 (a).toNat ≤ 50 := Is3152.2 203 _ (show (a).toNat < 12 by first | exact oq_9c5fa447 hi.1.2.2 | omega)
                      refine z_add X (show cdA 227 170 = some (.iadd, 1, 0, 0, 0) from rfl) ?_
                      have hM3 := (fm_c Fs3152 (by decide) : iC s3152 203 (a : Int).toNat = iC s 203 (a : Int).toNat)
                      have hR4 := lm_r (S := inM s) hMo hMy (a := (a : Int).toNat) (k := (ka - 1).toNat) (by omega) (by omega)
                      have hR5 : 0 ≤ iC s 203 (a : Int).toNat ∧ iC s 203 (a : Int).toNat ≤ 50 := hMo (a : Int).toNat (by omega)
                      have hN3 : iC s3152 161 (3 : Int).toNat = caH (inM s) (WYM s) (moM s) (a : Int).toNat + moM s (a : Int).toNat * clH (inM s) (fwM s (a : Int).toNat) (ka - 1).toNat := by rw [hs3152]; exact (iC_n (by decide)).trans hq.2.2.2.2.1
                      refine z_ast X 184 (show cdA 227 171 = some (.iastore, 1, 0, 0, 0) from rfl) (by decide) rfl (by decide) (show 3 < 7 by decide) (by decide) ?_
                      obtain ⟨s3171, hs3171⟩ : ∃ x0, x0 = uC s3152 161 (3 : Int).toNat (Int32.ofInt ((iC s3152 161 (3 : Int).toNat) + (iC s3152 203 (a).toNat))) := ⟨_, rfl⟩
                      rw [← hs3171]
                      have Is3171 : Bd s3171 := by rw [hs3171]; exact bd_C Is3152 (show ((-2147483648) : Int) ≤ ((iC s3152 161 (3 : Int).toNat) + (iC s3152 203 (a).toNat)) ∧ ((iC s3152 161 (3 : Int).toNat) + (iC s3152 203 (a).toNat)) ≤ 2147483647 by first | exact ⟨oq_d82b5a64 b3170.1 b3169.1, oq_bbcc95d4 g3158 b3157.1 hZ8 g3153 g3127 b3126.2 b3125.2 b3125.1⟩ | omega) ⟨by first | exact oq_d82b5a64 b3170.1 b3169.1 | omega, by first | exact oq_bbcc95d4 g3158 b3157.1 hZ8 g3153 g3127 b3126.2 b3125.2 b3125.1 | omega⟩
                      have Fs3171 := fm_C (i := (3 : Int).toNat) (x := Int32.ofInt ((iC s3152 161 (3 : Int).toNat) + (iC s3152 203 (a).toNat))) Fs3152 (show 161 ∈ _ by decide)
                      rw [← hs3171] at Fs3171
                      have ws3171_90 : iI s3171 90 = iI s3152 90 := by rw [hs3171]; rfl
                      have fs3171 : Fm [] [161] s3152 s3171 := by rw [hs3171]; exact fm_C (fm_rf _ _ _) (show 161 ∈ _ by decide)
                      have JNW_s3171 : NW s3171 := NW_fm fs3171 (by decide) JNW_s3152
                      have JNWL_s3171 : NWL s3171 := NWL_fm fs3171 (by decide) JNWL_s3152
                      refine z_load_n X (x := a) (show cdA 227 172 = some (.iload_n 1, 1, 0, 0, 0) from rfl) (List.Mem.tail _ (List.Mem.tail _ (List.Mem.tail _ (List.Mem.tail _ (List.Mem.head _))))) ?_
                      refine z_const X (show cdA 227 173 = some (.iconst 1, 1, 0, 0, 0) from rfl) ?_
                      refine z_add X (show cdA 227 174 = some (.iadd, 1, 0, 0, 0) from rfl) ?_
                      refine z_store X (lv' := [(5, .int (Int32.ofInt (a + 1))), (2, .int (Int32.ofInt 1)), (4, .int (Int32.ofInt (iC t (204 + (a : Int).toNat) (ka : Int).toNat))), (0, .ref (A 179)), (1, .int (Int32.ofInt a)), (3, .int (Int32.ofInt ka))]) (show cdA 227 175 = some (.istore 5, 2, 0, 0, 0) from rfl) (by decide) (fun _ h => h) ?_
                      refine WS_lv (lv := [(0, .ref (A 179)), (1, .int (Int32.ofInt a)), (2, .int (Int32.ofInt 1)), (3, .int (Int32.ofInt ka)), (4, .int (Int32.ofInt (iC t (204 + (a : Int).toNat) (ka : Int).toNat))), (5, .int (Int32.ofInt (a + 1)))]) (List.forall_mem_cons.mpr ⟨(List.Mem.tail _ (List.Mem.tail _ (List.Mem.tail _ (List.Mem.head _)))), (List.forall_mem_cons.mpr ⟨(List.Mem.tail _ (List.Mem.tail _ (List.Mem.tail _ (List.Mem.tail _ (List.Mem.head _))))), (List.forall_mem_cons.mpr ⟨(List.Mem.tail _ (List.Mem.head _)), (List.forall_mem_cons.mpr ⟨(List.Mem.tail _ (List.Mem.tail _ (List.Mem.tail _ (List.Mem.tail _ (List.Mem.tail _ (List.Mem.head _)))))), (List.forall_mem_cons.mpr ⟨(List.Mem.tail _ (List.Mem.tail _ (List.Mem.head _))), (List.forall_mem_cons.mpr ⟨(List.Mem.head _), (fun q h => absurd h List.not_mem_nil)⟩)⟩)⟩)⟩)⟩)⟩) ?_
                      refine L177 ((12 - (a + 1) : Int).toNat + 1) s3171 a 1 ka (iC t (204 + (a : Int).toNat) (ka : Int).toNat) (a + 1) Is3171 Fs3171 JNW_s3171 JNWL_s3171 ⟨lmb_0 (nm_3 (nm_2 hq.2 hs3152 (by rw [hM2]; exact ⟨by omega, by omega⟩)) hs3171 (by rw [hM3]; exact ⟨by omega, by omega⟩)) (by omega) (by rw [hM2]; exact ov_st (by omega) (Or.inl ⟨rfl, by rw [hS1, hS2]; omega⟩)) (by rw [hM3]; exact cl_st (by omega) (Or.inl ⟨rfl, by rw [hS1, hS2, ← hGB]; omega⟩)), hcW, hIZ⟩ (by first | exact ⟨And.intro (hi.1.1) (And.intro (hi.1.2.1) (hi.1.2.2)), Or.inr (by decide), oq_58b3fca9 g3158 b3157.1 hZ8 g3153 g3127 b3126.2 b3125.2 b3125.1, And.intro (b3006.1) (b3006.2), And.intro (by decide) (oq_afc84a8d hi.1.2.1), oq_878618b1 ws3171_90 ws3152_90 hi.2.2.2⟩ | omega) (Nat.lt_succ_self _) ?_
                      intro s3172 x3173 Is3172 Fs3172 JNW_s3172 JNWL_s3172 Qs3172 hs3172
                      have b3174 : (0 : Int) ≤ iI s3172 90 ∧ iI s3172 90 ≤ 12 := Is3172.1 90
                      refine z_inc X (x := ka) (lv' := [(3, .int (Int32.ofInt (ka + 1))), (0, .ref (A 179)), (1, .int (Int32.ofInt a)), (2, .int (Int32.ofInt 1)), (4, .int (Int32.ofInt (iC t (204 + (a : Int).toNat) (ka : Int).toNat))), (5, .int (Int32.ofInt x3173))]) (show cdA 227 278 = some (.iinc 3 1, 3, 0, 0, 0) from rfl) (by decide) (List.Mem.tail _ (List.Mem.tail _ (List.Mem.tail _ (List.Mem.head _)))) (fun _ h => h) ?_
                      refine z_goto X (t := 35) (show cdA 227 281 = some (.goto (-246), 3, 0, 0, 0) from rfl) (by decide) ?_
                      refine WS_lv (lv := [(0, .ref (A 179)), (1, .int (Int32.ofInt a)), (2, .int (Int32.ofInt 1)), (3, .int (Int32.ofInt (ka + 1)))]) (List.forall_mem_cons.mpr ⟨(List.Mem.tail _ (List.Mem.head _)), (List.forall_mem_cons.mpr ⟨(List.Mem.tail _ (List.Mem.tail _ (List.Mem.head _))), (List.forall_mem_cons.mpr ⟨(List.Mem.tail _ (List.Mem.tail _ (List.Mem.tail _ (List.Mem.head _)))), (List.forall_mem_cons.mpr ⟨(List.Mem.head _), (fun q h => absurd h List.not_mem_nil)⟩)⟩)⟩)⟩) ?_
                      exact ih _ a 1 (ka + 1) Is3172 Fs3172 JNW_s3172 JNWL_s3172 (lmk_up Qs3172.1 rfl (by omega) Qs3172.2.2) (by first | exact ⟨And.intro (hs3172.1.1) (And.intro (hs3172.1.2.1) (hs3172.1.2.2)), hs3172.2.1, And.intro (oq_54f49eb5 hs3172.2.2.1.1) (And.intro (oq_afc84a8d hs3172.2.2.1.2.1) (oq_3d4d89a6 hs3172.2.2.1.2.2)), hs3172.2.2.2⟩ | omega) (by first | exact qk_me hm (by decide) (oq_fa9b5cb9 hs3172.2.2.1.2.2) | omega) kx
  have L23 : ∀ (n : Nat) (t : PS) (a : Int), Bd t → Fm [] [161] s t → NW t → NWL t → (LMA s a t) → ((0 ≤ a ∧ a ≤ iI s 90) ∧ iI s 90 ≤ 12 ∧ iI t 90 = iI s 90) → (12 - a : Int).toNat < n → (∀ (t' : PS) (a' : Int), Bd t' → Fm [] [161] s t' → NW t' → NWL t' → (LMA s a' t') → (a' = iI s 90 ∧ 0 ≤ a') → WS k 313 [(0, .ref (A 179)), (1, .int (Int32.ofInt a'))] [] (Wd A dT t') 0 0) → WS k 23 [(0, .ref (A 179)), (1, .int (Int32.ofInt a))] [] (Wd A dT t) 0 0 := by
    intro n
    induction n with
    | zero =>
      intro t a I F jjNW jjNWL hq hi hm kx
      exact absurd hm (Nat.not_lt_zero _)
    | succ n ih =>
      intro t a I F jjNW jjNWL hq hi hm kx
      have b4001 : (0 : Int) ≤ iI t 90 ∧ iI t 90 ≤ 12 := I.1 90
      refine z_load_n X (x := a) (show cdA 227 23 = some (.iload_n 1, 1, 0, 0, 0) from rfl) (List.Mem.tail _ (List.Mem.head _)) ?_
      refine z_aload_n X (x := A 179) (show cdA 227 24 = some (.aload_n 0, 1, 0, 0, 0) from rfl) (List.Mem.head _) ?_
      refine z_getI X 179 (show cdA 227 25 = some (.getfield 233, 3, 12, 22, 0) from rfl) (by decide) rfl rfl ?_
      have b4002 : (0 : Int) ≤ iI t 90 ∧ iI t 90 ≤ 12 := I.1 90
      refine z_icmp_ge X (t := 313) (show cdA 227 28 = some (.if_icmp .ge 285, 3, 3, 0, 0) from rfl) (by decide) ⟨by first | exact oq_fa4e5087 hi.1.1 | omega, by first | exact oq_39d2cc6e hi.1.2 hi.2.1 | omega⟩ (rng_to _) (fun g4003 => ?_) (fun g4003 => ?_)
      ·
        refine WS_lv (lv := [(0, .ref (A 179)), (1, .int (Int32.ofInt a))]) (List.forall_mem_cons.mpr ⟨(List.Mem.head _), (List.forall_mem_cons.mpr ⟨(List.Mem.tail _ (List.Mem.head _)), (fun q h => absurd h List.not_mem_nil)⟩)⟩) ?_
        exact kx _ a I F jjNW jjNWL hq (by first | exact ⟨oq_537ca82a hi.1.2 g4003 hi.2.2, hi.1.1⟩ | omega)
      ·
        have q4004 := hMn (a : Int).toNat (by omega)
        refine z_const X (show cdA 227 31 = some (.iconst 0, 1, 0, 0, 0) from rfl) ?_
        refine z_store_n X (lv' := [(2, .int (Int32.ofInt 0)), (0, .ref (A 179)), (1, .int (Int32.ofInt a))]) (show cdA 227 32 = some (.istore_n 2, 1, 0, 0, 0) from rfl) (by decide) (fun _ h => h) ?_
        refine z_const X (show cdA 227 33 = some (.iconst 0, 1, 0, 0, 0) from rfl) ?_
        refine z_store_n X (lv' := [(3, .int (Int32.ofInt 0)), (2, .int (Int32.ofInt 0)), (0, .ref (A 179)), (1, .int (Int32.ofInt a))]) (show cdA 227 34 = some (.istore_n 3, 1, 0, 0, 0) from rfl) (by decide) (fun _ h => h) ?_
        refine WS_lv (lv := [(0, .ref (A 179)), (1, .int (Int32.ofInt a)), (2, .int (Int32.ofInt 0)), (3, .int (Int32.ofInt 0))]) (List.forall_mem_cons.mpr ⟨(List.Mem.tail _ (List.Mem.tail _ (List.Mem.head _))), (List.forall_mem_cons.mpr ⟨(List.Mem.tail _ (List.Mem.tail _ (List.Mem.tail _ (List.Mem.head _)))), (List.forall_mem_cons.mpr ⟨(List.Mem.tail _ (List.Mem.head _)), (List.forall_mem_cons.mpr ⟨(List.Mem.head _), (fun q h => absurd h List.not_mem_nil)⟩)⟩)⟩)⟩) ?_
        refine L35 ((24 - 0 : Int).toNat + 1) t a 0 0 I F jjNW jjNWL (lmk_0 hq) (by first | exact ⟨And.intro (hi.1.1) (And.intro (oq_9d1a6c71 g4003 hi.2.2) (oq_e4d7f3c5 g4003 b4002.2)), Or.inl (by decide), by omega, hi.2.2⟩ | omega) (Nat.lt_succ_self _) ?_
        intro s4005 x4006 x4007 Is4005 Fs4005 JNW_s4005 JNWL_s4005 Qs4005 hs4005
        have b4008 : (0 : Int) ≤ iI s4005 90 ∧ iI s4005 90 ≤ 12 := Is4005.1 90
        have hN0 : iC s4005 161 (0 : Int).toNat = waH (inM s) (WYM s) (moM s) (a : Int).toNat := Qs4005.2.1
        have hW0 := wa_r (S := inM s) (w := WYM s) (mo := moM s) (n := (a : Int).toNat) hMo (by omega)
        refine z_aload_n X (x := A 179) (show cdA 227 284 = some (.aload_n 0, 1, 0, 0, 0) from rfl) (List.Mem.head _) ?_
        refine s_getR X 179 (show cdA 227 285 = some (.getfield 32, 3, 12, 21, 0) from rfl) (by decide) rfl rfl ?_
        refine z_const X (show cdA 227 288 = some (.iconst 0, 1, 0, 0, 0) from rfl) ?_
        refine w_dup2_11 X.1 (ax_d X (show cdA 227 289 = some (.dup2, 1, 0, 0, 0) from rfl)) rfl rfl ?_
        refine z_ald X 184 (show cdA 227 290 = some (.iaload, 1, 0, 0, 0) from rfl) (by decide) rfl (by decide) (show 0 < 7 by decide) (by decide) ?_
        have b4009 : ((-2147483648) : Int) ≤ iC s4005 161 (0 : Int).toNat ∧ iC s4005 161 (0 : Int).toNat ≤ 2147483647 := Is4005.2 161 _ (show (0 : Int).toNat < 7 by first | exact oq_e8ec3fa8 | omega)
        refine z_load_n X (x := x4006) (show cdA 227 291 = some (.iload_n 2, 1, 0, 0, 0) from rfl) (List.Mem.tail _ (List.Mem.tail _ (List.Mem.head _))) ?_
        refine z_if_eq X (t := 304) (show cdA 227 292 = some (.ifCond .eq 12, 3, 0, 0, 0) from rfl) (by decide) ⟨by first | exact oq_bde653e9 hs4005.2.1 | omega, by first | exact oq_4ad2cb8b hs4005.2.1 | omega⟩ (fun g4010 => ?_) (fun g4010 => ?_)
        ·
          refine z_const X (show cdA 227 304 = some (.iconst 0, 1, 0, 0, 0) from rfl) ?_
          refine z_add X (show cdA 227 305 = some (.iadd, 1, 0, 0, 0) from rfl) ?_
          refine z_ast X 184 (show cdA 227 306 = some (.iastore, 1, 0, 0, 0) from rfl) (by decide) rfl (by decide) (show 0 < 7 by decide) (by decide) ?_
          obtain ⟨s4011, hs4011⟩ : ∃ x0, x0 = uC s4005 161 (0 : Int).toNat (Int32.ofInt ((iC s4005 161 (0 : Int).toNat) + 0)) := ⟨_, rfl⟩
          rw [← hs4011]
          have Is4011 : Bd s4011 := by rw [hs4011]; exact bd_C Is4005 (show ((-2147483648) : Int) ≤ ((iC s4005 161 (0 : Int).toNat) + 0) ∧ ((iC s4005 161 (0 : Int).toNat) + 0) ≤ 2147483647 by first | exact ⟨oq_67876763 b4009.1, oq_7a49cfb9 b4009.2⟩ | omega) ⟨by first | exact oq_67876763 b4009.1 | omega, by first | exact oq_7a49cfb9 b4009.2 | omega⟩
          have Fs4011 := fm_C (i := (0 : Int).toNat) (x := Int32.ofInt ((iC s4005 161 (0 : Int).toNat) + 0)) Fs4005 (show 161 ∈ _ by decide)
          rw [← hs4011] at Fs4011
          have ws4011_90 : iI s4011 90 = iI s4005 90 := by rw [hs4011]; rfl
          have fs4011 : Fm [] [161] s4005 s4011 := by rw [hs4011]; exact fm_C (fm_rf _ _ _) (show 161 ∈ _ by decide)
          have JNW_s4011 : NW s4011 := NW_fm fs4011 (by decide) JNW_s4005
          have JNWL_s4011 : NWL s4011 := NWL_fm fs4011 (by decide) JNWL_s4005
          refine z_inc X (x := a) (lv' := [(1, .int (Int32.ofInt (a + 1))), (0, .ref (A 179)), (2, .int (Int32.ofInt x4006)), (3, .int (Int32.ofInt x4007))]) (show cdA 227 307 = some (.iinc 1 1, 3, 0, 0, 0) from rfl) (by decide) (List.Mem.tail _ (List.Mem.head _)) (fun _ h => h) ?_
          refine z_goto X (t := 23) (show cdA 227 310 = some (.goto (-287), 3, 0, 0, 0) from rfl) (by decide) ?_
          refine WS_lv (lv := [(0, .ref (A 179)), (1, .int (Int32.ofInt (a + 1)))]) (List.forall_mem_cons.mpr ⟨(List.Mem.tail _ (List.Mem.head _)), (List.forall_mem_cons.mpr ⟨(List.Mem.head _), (fun q h => absurd h List.not_mem_nil)⟩)⟩) ?_
          exact ih _ (a + 1) Is4011 Fs4011 JNW_s4011 JNWL_s4011 (lma_up Qs4005 (by omega) (by omega) (by omega) hs4011 (Or.inr ⟨by omega, rfl⟩) (by have z := wa_r (S := inM s) (w := WYM s) (mo := moM s) (n := (a : Int).toNat) hMo (by omega); have z2 := hMo (a : Int).toNat (by omega); replace z2 : 0 ≤ iC s 203 (a : Int).toNat ∧ iC s 203 (a : Int).toNat ≤ 50 := z2; exact ⟨by omega, by omega⟩)) (by first | exact ⟨And.intro (oq_54f49eb5 hs4005.1.1) (oq_afc84a8d hs4005.1.2.1), hi.2.1, oq_1aa5be9e ws4011_90 hs4005.2.2.2⟩ | omega) (by first | exact qk_me hm (by decide) (oq_8b937940 hs4005.1.2.2) | omega) kx
        ·
          refine z_aload_n X (x := A 179) (show cdA 227 295 = some (.aload_n 0, 1, 0, 0, 0) from rfl) (List.Mem.head _) ?_
          refine s_getR X 179 (show cdA 227 296 = some (.getfield 61, 3, 12, 32, 0) from rfl) (by decide) rfl rfl ?_
          refine z_load_n X (x := a) (show cdA 227 299 = some (.iload_n 1, 1, 0, 0, 0) from rfl) (List.Mem.tail _ (List.Mem.head _)) ?_
          refine z_ald X 229 (show cdA 227 300 = some (.iaload, 1, 0, 0, 0) from rfl) (by decide) rfl (by first | exact hs4005.1.1 | omega) (show a < 12 by first | exact oq_0ddfcfee hs4005.1.2.2 | omega) (by decide) ?_
          have b4012 : (0 : Int) ≤ iC s4005 203 (a).toNat ∧ iC s4005 203 (a).toNat ≤ 50 := Is4005.2 203 _ (show (a).toNat < 12 by first | exact oq_9c5fa447 hs4005.1.2.2 | omega)
          refine z_goto X (t := 305) (show cdA 227 301 = some (.goto 4, 3, 0, 0, 0) from rfl) (by decide) ?_
          refine z_add X (show cdA 227 305 = some (.iadd, 1, 0, 0, 0) from rfl) ?_
          refine z_ast X 184 (show cdA 227 306 = some (.iastore, 1, 0, 0, 0) from rfl) (by decide) rfl (by decide) (show 0 < 7 by decide) (by decide) ?_
          obtain ⟨s4013, hs4013⟩ : ∃ x0, x0 = uC s4005 161 (0 : Int).toNat (Int32.ofInt ((iC s4005 161 (0 : Int).toNat) + (iC s4005 203 (a).toNat))) := ⟨_, rfl⟩
          rw [← hs4013]
          have Is4013 : Bd s4013 := by rw [hs4013]; exact bd_C Is4005 (show ((-2147483648) : Int) ≤ ((iC s4005 161 (0 : Int).toNat) + (iC s4005 203 (a).toNat)) ∧ ((iC s4005 161 (0 : Int).toNat) + (iC s4005 203 (a).toNat)) ≤ 2147483647 by first | exact ⟨oq_d82b5a64 b4012.1 b4009.1, by omega⟩ | omega) ⟨by first | exact oq_d82b5a64 b4012.1 b4009.1 | omega, by omega⟩
          have Fs4013 := fm_C (i := (0 : Int).toNat) (x := Int32.ofInt ((iC s4005 161 (0 : Int).toNat) + (iC s4005 203 (a).toNat))) Fs4005 (show 161 ∈ _ by decide)
          rw [← hs4013] at Fs4013
          have ws4013_90 : iI s4013 90 = iI s4005 90 := by rw [hs4013]; rfl
          have fs4013 : Fm [] [161] s4005 s4013 := by rw [hs4013]; exact fm_C (fm_rf _ _ _) (show 161 ∈ _ by decide)
          have JNW_s4013 : NW s4013 := NW_fm fs4013 (by decide) JNW_s4005
          have JNWL_s4013 : NWL s4013 := NWL_fm fs4013 (by decide) JNWL_s4005
          refine z_inc X (x := a) (lv' := [(1, .int (Int32.ofInt (a + 1))), (0, .ref (A 179)), (2, .int (Int32.ofInt x4006)), (3, .int (Int32.ofInt x4007))]) (show cdA 227 307 = some (.iinc 1 1, 3, 0, 0, 0) from rfl) (by decide) (List.Mem.tail _ (List.Mem.head _)) (fun _ h => h) ?_
          refine z_goto X (t := 23) (show cdA 227 310 = some (.goto (-287), 3, 0, 0, 0) from rfl) (by decide) ?_
          refine WS_lv (lv := [(0, .ref (A 179)), (1, .int (Int32.ofInt (a + 1)))]) (List.forall_mem_cons.mpr ⟨(List.Mem.tail _ (List.Mem.head _)), (List.forall_mem_cons.mpr ⟨(List.Mem.head _), (fun q h => absurd h List.not_mem_nil)⟩)⟩) ?_
          exact ih _ (a + 1) Is4013 Fs4013 JNW_s4013 JNWL_s4013 (lma_up Qs4005 (by omega) (by omega) (by omega) hs4013 (Or.inl ⟨by omega, fm_c Fs4005 (by decide)⟩) (by have z := wa_r (S := inM s) (w := WYM s) (mo := moM s) (n := (a : Int).toNat) hMo (by omega); have z2 := hMo (a : Int).toNat (by omega); replace z2 : 0 ≤ iC s 203 (a : Int).toNat ∧ iC s 203 (a : Int).toNat ≤ 50 := z2; have z3 := (fm_c Fs4005 (by decide) : iC s4005 203 (a : Int).toNat = iC s 203 (a : Int).toNat); exact ⟨by omega, by omega⟩)) (by first | exact ⟨And.intro (oq_54f49eb5 hs4005.1.1) (oq_afc84a8d hs4005.1.2.1), hi.2.1, oq_1aa5be9e ws4013_90 hs4005.2.2.2⟩ | omega) (by first | exact qk_me hm (by decide) (oq_8b937940 hs4005.1.2.2) | omega) kx
  have L315 : ∀ (n : Nat) (t : PS) (a : Int), Bd t → Fm [] [161] s t → NW t → NWL t → (LMC s a t) → (0 ≤ a ∧ a ≤ 128) → (128 - a : Int).toNat < n → (∀ (t' : PS) (a' : Int), Bd t' → Fm [] [161] s t' → NW t' → NWL t' → (LMC s a' t') → (a' = 128) → WS k 370 [(0, .ref (A 179)), (1, .int (Int32.ofInt a'))] [] (Wd A dT t') 0 0) → WS k 315 [(0, .ref (A 179)), (1, .int (Int32.ofInt a))] [] (Wd A dT t) 0 0 := by
    intro n
    induction n with
    | zero =>
      intro t a I F jjNW jjNWL hq hi hm kx
      exact absurd hm (Nat.not_lt_zero _)
    | succ n ih =>
      intro t a I F jjNW jjNWL hq hi hm kx
      have b5001 : (0 : Int) ≤ iI t 90 ∧ iI t 90 ≤ 12 := I.1 90
      refine z_load_n X (x := a) (show cdA 227 315 = some (.iload_n 1, 1, 0, 0, 0) from rfl) (List.Mem.tail _ (List.Mem.head _)) ?_
      refine z_sipush X (show cdA 227 316 = some (.sipush 128, 3, 0, 0, 128) from rfl) ?_
      refine z_icmp_ge X (t := 370) (show cdA 227 319 = some (.if_icmp .ge 51, 3, 3, 0, 0) from rfl) (by decide) ⟨by first | exact oq_fa4e5087 hi.1 | omega, by first | exact oq_4ee82282 hi.2 | omega⟩ (by decide) (fun g5002 => ?_) (fun g5002 => ?_)
      ·
        refine WS_lv (lv := [(0, .ref (A 179)), (1, .int (Int32.ofInt a))]) (List.forall_mem_cons.mpr ⟨(List.Mem.head _), (List.forall_mem_cons.mpr ⟨(List.Mem.tail _ (List.Mem.head _)), (fun q h => absurd h List.not_mem_nil)⟩)⟩) ?_
        exact kx _ a I F jjNW jjNWL hq (by first | exact oq_42fe298a hi.2 g5002 | omega)
      ·
        refine z_aload_n X (x := A 179) (show cdA 227 322 = some (.aload_n 0, 1, 0, 0, 0) from rfl) (List.Mem.head _) ?_
        refine s_getR X 179 (show cdA 227 323 = some (.getfield 76, 3, 12, 37, 0) from rfl) (by decide) rfl rfl ?_
        refine z_load_n X (x := a) (show cdA 227 326 = some (.iload_n 1, 1, 0, 0, 0) from rfl) (List.Mem.tail _ (List.Mem.head _)) ?_
        refine z_zald X 258 (show cdA 227 327 = some (.baload, 1, 0, 0, 0) from rfl) (by decide) rfl (by first | exact hi.1 | omega) (show a < 128 by first | exact g5002 | omega) (by decide) ?_
        have b5003 : (0 : Int) ≤ iC t 230 (a).toNat ∧ iC t 230 (a).toNat ≤ 1 := I.2 230 _ (show (a).toNat < 128 by first | exact oq_afb89947 g5002 | omega)
        refine z_if_ne X (t := 334) (show cdA 227 328 = some (.ifCond .ne 6, 3, 1, 0, 0) from rfl) (by decide) (rng_to _) (fun g5004 => ?_) (fun g5004 => ?_)
        ·
          have hN4 := lmc_r hq (by omega)
          have hN5 : 0 ≤ iC t 161 (4 : Int).toNat ∧ iC t 161 (4 : Int).toNat ≤ 128 := hN4.1
          refine z_aload_n X (x := A 179) (show cdA 227 334 = some (.aload_n 0, 1, 0, 0, 0) from rfl) (List.Mem.head _) ?_
          refine s_getR X 179 (show cdA 227 335 = some (.getfield 32, 3, 12, 21, 0) from rfl) (by decide) rfl rfl ?_
          refine z_const X (show cdA 227 338 = some (.iconst 4, 1, 0, 0, 0) from rfl) ?_
          refine w_dup2_11 X.1 (ax_d X (show cdA 227 339 = some (.dup2, 1, 0, 0, 0) from rfl)) rfl rfl ?_
          refine z_ald X 184 (show cdA 227 340 = some (.iaload, 1, 0, 0, 0) from rfl) (by decide) rfl (by decide) (show 4 < 7 by decide) (by decide) ?_
          have b5005 : ((-2147483648) : Int) ≤ iC t 161 (4 : Int).toNat ∧ iC t 161 (4 : Int).toNat ≤ 2147483647 := I.2 161 _ (show (4 : Int).toNat < 7 by first | exact oq_5d2a5fd4 | omega)
          refine z_const X (show cdA 227 341 = some (.iconst 1, 1, 0, 0, 0) from rfl) ?_
          refine z_add X (show cdA 227 342 = some (.iadd, 1, 0, 0, 0) from rfl) ?_
          refine z_ast X 184 (show cdA 227 343 = some (.iastore, 1, 0, 0, 0) from rfl) (by decide) rfl (by decide) (show 4 < 7 by decide) (by decide) ?_
          obtain ⟨s5006, hs5006⟩ : ∃ x0, x0 = uC t 161 (4 : Int).toNat (Int32.ofInt ((iC t 161 (4 : Int).toNat) + 1)) := ⟨_, rfl⟩
          rw [← hs5006]
          have Is5006 : Bd s5006 := by rw [hs5006]; exact bd_C I (show ((-2147483648) : Int) ≤ ((iC t 161 (4 : Int).toNat) + 1) ∧ ((iC t 161 (4 : Int).toNat) + 1) ≤ 2147483647 by first | exact ⟨oq_14afcb3e b5005.1, oq_d2238b92 hN5.2⟩ | omega) ⟨by first | exact oq_14afcb3e b5005.1 | omega, by first | exact oq_d2238b92 hN5.2 | omega⟩
          have Fs5006 := fm_C (i := (4 : Int).toNat) (x := Int32.ofInt ((iC t 161 (4 : Int).toNat) + 1)) F (show 161 ∈ _ by decide)
          rw [← hs5006] at Fs5006
          have ws5006_90 : iI s5006 90 = iI t 90 := by rw [hs5006]; rfl
          have fs5006 : Fm [] [161] t s5006 := by rw [hs5006]; exact fm_C (fm_rf _ _ _) (show 161 ∈ _ by decide)
          have JNW_s5006 : NW s5006 := NW_fm fs5006 (by decide) jjNW
          have JNWL_s5006 : NWL s5006 := NWL_fm fs5006 (by decide) jjNWL
          have hN7 : iC s5006 161 (5 : Int).toNat = iC t 161 5 := by rw [hs5006]; exact iC_n (by decide)
          refine z_aload_n X (x := A 179) (show cdA 227 344 = some (.aload_n 0, 1, 0, 0, 0) from rfl) (List.Mem.head _) ?_
          refine s_getR X 179 (show cdA 227 345 = some (.getfield 32, 3, 12, 21, 0) from rfl) (by decide) rfl rfl ?_
          refine z_const X (show cdA 227 348 = some (.iconst 5, 1, 0, 0, 0) from rfl) ?_
          refine w_dup2_11 X.1 (ax_d X (show cdA 227 349 = some (.dup2, 1, 0, 0, 0) from rfl)) rfl rfl ?_
          refine z_ald X 184 (show cdA 227 350 = some (.iaload, 1, 0, 0, 0) from rfl) (by decide) rfl (by decide) (show 5 < 7 by decide) (by decide) ?_
          have b5007 : ((-2147483648) : Int) ≤ iC s5006 161 (5 : Int).toNat ∧ iC s5006 161 (5 : Int).toNat ≤ 2147483647 := Is5006.2 161 _ (show (5 : Int).toNat < 7 by first | exact oq_2191f643 | omega)
          refine z_load_n X (x := a) (show cdA 227 351 = some (.iload_n 1, 1, 0, 0, 0) from rfl) (List.Mem.tail _ (List.Mem.head _)) ?_
          refine z_bipush X (show cdA 227 352 = some (.bipush 64, 2, 0, 0, 64) from rfl) ?_
          refine z_icmp_ge X (t := 361) (show cdA 227 354 = some (.if_icmp .ge 7, 3, 3, 0, 0) from rfl) (by decide) ⟨by first | exact oq_fa4e5087 hi.1 | omega, by first | exact oq_fe95e6e4 g5002 | omega⟩ (by decide) (fun g5008 => ?_) (fun g5008 => ?_)
          ·
            refine z_const X (show cdA 227 361 = some (.iconst 0, 1, 0, 0, 0) from rfl) ?_
            refine z_add X (show cdA 227 362 = some (.iadd, 1, 0, 0, 0) from rfl) ?_
            refine z_ast X 184 (show cdA 227 363 = some (.iastore, 1, 0, 0, 0) from rfl) (by decide) rfl (by decide) (show 5 < 7 by decide) (by decide) ?_
            obtain ⟨s5009, hs5009⟩ : ∃ x0, x0 = uC s5006 161 (5 : Int).toNat (Int32.ofInt ((iC s5006 161 (5 : Int).toNat) + 0)) := ⟨_, rfl⟩
            rw [← hs5009]
            have Is5009 : Bd s5009 := by rw [hs5009]; exact bd_C Is5006 (show ((-2147483648) : Int) ≤ ((iC s5006 161 (5 : Int).toNat) + 0) ∧ ((iC s5006 161 (5 : Int).toNat) + 0) ≤ 2147483647 by first | exact ⟨oq_67876763 b5007.1, oq_7a49cfb9 b5007.2⟩ | omega) ⟨by first | exact oq_67876763 b5007.1 | omega, by first | exact oq_7a49cfb9 b5007.2 | omega⟩
            have Fs5009 := fm_C (i := (5 : Int).toNat) (x := Int32.ofInt ((iC s5006 161 (5 : Int).toNat) + 0)) Fs5006 (show 161 ∈ _ by decide)
            rw [← hs5009] at Fs5009
            have ws5009_90 : iI s5009 90 = iI s5006 90 := by rw [hs5009]; rfl
            have fs5009 : Fm [] [161] s5006 s5009 := by rw [hs5009]; exact fm_C (fm_rf _ _ _) (show 161 ∈ _ by decide)
            have JNW_s5009 : NW s5009 := NW_fm fs5009 (by decide) JNW_s5006
            have JNWL_s5009 : NWL s5009 := NWL_fm fs5009 (by decide) JNWL_s5006
            refine z_inc X (x := a) (lv' := [(1, .int (Int32.ofInt (a + 1))), (0, .ref (A 179))]) (show cdA 227 364 = some (.iinc 1 1, 3, 0, 0, 0) from rfl) (by decide) (List.Mem.tail _ (List.Mem.head _)) (fun _ h => h) ?_
            refine z_goto X (t := 315) (show cdA 227 367 = some (.goto (-52), 3, 0, 0, 0) from rfl) (by decide) ?_
            refine WS_lv (lv := [(0, .ref (A 179)), (1, .int (Int32.ofInt (a + 1)))]) (List.forall_mem_cons.mpr ⟨(List.Mem.tail _ (List.Mem.head _)), (List.forall_mem_cons.mpr ⟨(List.Mem.head _), (fun q h => absurd h List.not_mem_nil)⟩)⟩) ?_
            exact ih _ (a + 1) Is5009 Fs5009 JNW_s5009 JNWL_s5009 (lmc_y hq (by omega) (by omega) (by unfold inM; have z := (fm_c F (by decide) : iC t 230 (a : Int).toNat = iC s 230 (a : Int).toNat); omega) hs5006 hs5009 (by omega)) (by first | exact ⟨oq_6a3e0d52 g5008, oq_d2afb425 g5002⟩ | omega) (by first | exact qk_me hm (by decide) (oq_c268b7bd g5002) | omega) kx
          ·
            refine z_const X (show cdA 227 357 = some (.iconst 1, 1, 0, 0, 0) from rfl) ?_
            refine z_goto X (t := 362) (show cdA 227 358 = some (.goto 4, 3, 0, 0, 0) from rfl) (by decide) ?_
            refine z_add X (show cdA 227 362 = some (.iadd, 1, 0, 0, 0) from rfl) ?_
            refine z_ast X 184 (show cdA 227 363 = some (.iastore, 1, 0, 0, 0) from rfl) (by decide) rfl (by decide) (show 5 < 7 by decide) (by decide) ?_
            obtain ⟨s5010, hs5010⟩ : ∃ x0, x0 = uC s5006 161 (5 : Int).toNat (Int32.ofInt ((iC s5006 161 (5 : Int).toNat) + 1)) := ⟨_, rfl⟩
            rw [← hs5010]
            have Is5010 : Bd s5010 := by rw [hs5010]; exact bd_C Is5006 (show ((-2147483648) : Int) ≤ ((iC s5006 161 (5 : Int).toNat) + 1) ∧ ((iC s5006 161 (5 : Int).toNat) + 1) ≤ 2147483647 by first | exact ⟨oq_14afcb3e b5007.1, by omega⟩ | omega) ⟨by first | exact oq_14afcb3e b5007.1 | omega, by omega⟩
            have Fs5010 := fm_C (i := (5 : Int).toNat) (x := Int32.ofInt ((iC s5006 161 (5 : Int).toNat) + 1)) Fs5006 (show 161 ∈ _ by decide)
            rw [← hs5010] at Fs5010
            have ws5010_90 : iI s5010 90 = iI s5006 90 := by rw [hs5010]; rfl
            have fs5010 : Fm [] [161] s5006 s5010 := by rw [hs5010]; exact fm_C (fm_rf _ _ _) (show 161 ∈ _ by decide)
            have JNW_s5010 : NW s5010 := NW_fm fs5010 (by decide) JNW_s5006
            have JNWL_s5010 : NWL s5010 := NWL_fm fs5010 (by decide) JNWL_s5006
            refine z_inc X (x := a) (lv' := [(1, .int (Int32.ofInt (a + 1))), (0, .ref (A 179))]) (show cdA 227 364 = some (.iinc 1 1, 3, 0, 0, 0) from rfl) (by decide) (List.Mem.tail _ (List.Mem.head _)) (fun _ h => h) ?_
            refine z_goto X (t := 315) (show cdA 227 367 = some (.goto (-52), 3, 0, 0, 0) from rfl) (by decide) ?_
            refine WS_lv (lv := [(0, .ref (A 179)), (1, .int (Int32.ofInt (a + 1)))]) (List.forall_mem_cons.mpr ⟨(List.Mem.tail _ (List.Mem.head _)), (List.forall_mem_cons.mpr ⟨(List.Mem.head _), (fun q h => absurd h List.not_mem_nil)⟩)⟩) ?_
            exact ih _ (a + 1) Is5010 Fs5010 JNW_s5010 JNWL_s5010 (lmc_y hq (by omega) (by omega) (by unfold inM; have z := (fm_c F (by decide) : iC t 230 (a : Int).toNat = iC s 230 (a : Int).toNat); omega) hs5006 hs5010 (by omega)) (by first | exact ⟨oq_54f49eb5 hi.1, oq_9b69e7a6 g5008⟩ | omega) (by first | exact qk_me hm (by decide) (oq_f258de42 g5008) | omega) kx
        ·
          refine z_goto X (t := 364) (show cdA 227 331 = some (.goto 33, 3, 0, 0, 0) from rfl) (by decide) ?_
          refine z_inc X (x := a) (lv' := [(1, .int (Int32.ofInt (a + 1))), (0, .ref (A 179))]) (show cdA 227 364 = some (.iinc 1 1, 3, 0, 0, 0) from rfl) (by decide) (List.Mem.tail _ (List.Mem.head _)) (fun _ h => h) ?_
          refine z_goto X (t := 315) (show cdA 227 367 = some (.goto (-52), 3, 0, 0, 0) from rfl) (by decide) ?_
          refine WS_lv (lv := [(0, .ref (A 179)), (1, .int (Int32.ofInt (a + 1)))]) (List.forall_mem_cons.mpr ⟨(List.Mem.tail _ (List.Mem.head _)), (List.forall_mem_cons.mpr ⟨(List.Mem.head _), (fun q h => absurd h List.not_mem_nil)⟩)⟩) ?_
          exact ih _ (a + 1) I F jjNW jjNWL (lmc_n hq (by omega) (by unfold inM; have z := (fm_c F (by decide) : iC t 230 (a : Int).toNat = iC s 230 (a : Int).toNat); omega)) (by first | exact ⟨oq_54f49eb5 hi.1, oq_d2afb425 g5002⟩ | omega) (by first | exact qk_me hm (by decide) (oq_c268b7bd g5002) | omega) kx
  refine z_const X (show cdA 227 0 = some (.iconst 0, 1, 0, 0, 0) from rfl) ?_
  refine z_store_n X (lv' := [(1, .int (Int32.ofInt 0)), (0, .ref (A 179))]) (show cdA 227 1 = some (.istore_n 1, 1, 0, 0, 0) from rfl) (by decide) (fun _ h => h) ?_
  refine WS_lv (lv := [(0, .ref (A 179)), (1, .int (Int32.ofInt 0))]) (List.forall_mem_cons.mpr ⟨(List.Mem.tail _ (List.Mem.head _)), (List.forall_mem_cons.mpr ⟨(List.Mem.head _), (fun q h => absurd h List.not_mem_nil)⟩)⟩) ?_
  refine L2 ((7 - 0 : Int).toNat + 1) s 0 I F jNW jNWL (fun j hj => absurd hj (by omega)) (by first | exact ⟨And.intro (by decide) (by decide), by decide⟩ | omega) (Nat.lt_succ_self _) ?_
  intro s2 x3 Is2 Fs2 JNW_s2 JNWL_s2 Qs2 hs2
  have b4 : (0 : Int) ≤ iI s2 90 ∧ iI s2 90 ≤ 12 := Is2.1 90
  refine z_const X (show cdA 227 21 = some (.iconst 0, 1, 0, 0, 0) from rfl) ?_
  refine z_store_n X (lv' := [(1, .int (Int32.ofInt 0)), (0, .ref (A 179))]) (show cdA 227 22 = some (.istore_n 1, 1, 0, 0, 0) from rfl) (by decide) (fun _ h => h) ?_
  refine WS_lv (lv := [(0, .ref (A 179)), (1, .int (Int32.ofInt 0))]) (List.forall_mem_cons.mpr ⟨(List.Mem.tail _ (List.Mem.head _)), (List.forall_mem_cons.mpr ⟨(List.Mem.head _), (fun q h => absurd h List.not_mem_nil)⟩)⟩) ?_
  refine L23 ((12 - 0 : Int).toNat + 1) s2 0 Is2 Fs2 JNW_s2 JNWL_s2 (lma_0 (fun j hj => Qs2 j (by omega))) (by first | exact ⟨And.intro (by decide) (b1.1), b1.2, hs2.2⟩ | omega) (Nat.lt_succ_self _) ?_
  intro s5 x6 Is5 Fs5 JNW_s5 JNWL_s5 Qs5 hs5
  have b7 : (0 : Int) ≤ iI s5 90 ∧ iI s5 90 ≤ 12 := Is5.1 90
  refine z_const X (show cdA 227 313 = some (.iconst 0, 1, 0, 0, 0) from rfl) ?_
  refine z_store_n X (lv' := [(1, .int (Int32.ofInt 0)), (0, .ref (A 179))]) (show cdA 227 314 = some (.istore_n 1, 1, 0, 0, 0) from rfl) (by decide) (fun _ h => h) ?_
  refine WS_lv (lv := [(0, .ref (A 179)), (1, .int (Int32.ofInt 0))]) (List.forall_mem_cons.mpr ⟨(List.Mem.tail _ (List.Mem.head _)), (List.forall_mem_cons.mpr ⟨(List.Mem.head _), (fun q h => absurd h List.not_mem_nil)⟩)⟩) ?_
  refine L315 ((128 - 0 : Int).toNat + 1) s5 0 Is5 Fs5 JNW_s5 JNWL_s5 (lmc_0 Qs5 (by omega)) (by first | exact ⟨by decide, by decide⟩ | omega) (Nat.lt_succ_self _) ?_
  intro s8 x9 Is8 Fs8 JNW_s8 JNWL_s8 Qs8 hs8
  have b10 : (0 : Int) ≤ iI s8 90 ∧ iI s8 90 ≤ 12 := Is8.1 90
  refine z_aload_n X (x := A 179) (show cdA 227 370 = some (.aload_n 0, 1, 0, 0, 0) from rfl) (List.Mem.head _) ?_
  refine s_getR X 179 (show cdA 227 371 = some (.getfield 32, 3, 12, 21, 0) from rfl) (by decide) rfl rfl ?_
  refine z_bipush X (show cdA 227 374 = some (.bipush 6, 2, 0, 0, 6) from rfl) ?_
  refine z_aload_n X (x := A 179) (show cdA 227 376 = some (.aload_n 0, 1, 0, 0, 0) from rfl) (List.Mem.head _) ?_
  refine z_getI X 179 (show cdA 227 377 = some (.getfield 26, 3, 12, 19, 0) from rfl) (by decide) rfl rfl ?_
  have b11 : (1 : Int) ≤ iI s8 89 ∧ iI s8 89 ≤ 8 := Is8.1 89
  refine z_ast X 184 (show cdA 227 380 = some (.iastore, 1, 0, 0, 0) from rfl) (by decide) rfl (by decide) (show 6 < 7 by decide) (by decide) ?_
  obtain ⟨s12, hs12⟩ : ∃ x0, x0 = uC s8 161 (6 : Int).toNat (Int32.ofInt (iI s8 89)) := ⟨_, rfl⟩
  rw [← hs12]
  have Is12 : Bd s12 := by rw [hs12]; exact bd_C Is8 (show ((-2147483648) : Int) ≤ (iI s8 89) ∧ (iI s8 89) ≤ 2147483647 by first | exact ⟨oq_9462313e b11.1, oq_d3f5d874 b11.2⟩ | omega) (rng_to _)
  have Fs12 := fm_C (i := (6 : Int).toNat) (x := Int32.ofInt (iI s8 89)) Fs8 (show 161 ∈ _ by decide)
  rw [← hs12] at Fs12
  have ws12_90 : iI s12 90 = iI s8 90 := by rw [hs12]; rfl
  have fs12 : Fm [] [161] s8 s12 := by rw [hs12]; exact fm_C (fm_rf _ _ _) (show 161 ∈ _ by decide)
  have JNW_s12 : NW s12 := NW_fm fs12 (by decide) JNW_s8
  have JNWL_s12 : NWL s12 := NWL_fm fs12 (by decide) JNWL_s8
  exact w_vret X.1 q hRt (ax_d X (show cdA 227 381 = some (.return_, 1, 0, 0, 0) from rfl)) (Nat.zero_le _) (Nat.zero_le _) ⟨_, rfl, Is12, Fs12, JNW_s12, JNWL_s12, rfl, (lmd_of Qs8 (by omega) hs12 (fm_i Fs8 (by decide)))⟩
end M87p
