theorem oq_a89775b0 {a0 a1 a2 : Int} (h0 : a0 ≤ (384000 * a1)) (h1 : a1 ≤ a2) (h2 : a2 ≤ 12) : a0 ≤ 2147483647 := by omega
theorem oq_ab9f450b {a0 a1 a2 : Int} (h0 : a0 ≤ (27600 * a1)) (h1 : a1 ≤ a2) (h2 : a2 ≤ 12) : a0 ≤ 2147483647 := by omega
/-! Loads and peaks: what both sides work out, of one and the same air -/
abbrev LdF : Type := (Nat → Int32) → Int32
/-- load, ways, mosts by quarter, totals, how many streams -/
abbrev AirD : Type := LdF × WyS × (Nat → Nat → Int) × (Nat → Int) × Nat
abbrev uL (U : AirD) : LdF := U.1
abbrev uW (U : AirD) : WyS := U.2.1
abbrev uM (U : AirD) : Nat → Nat → Int := U.2.2.1
abbrev uT (U : AirD) : Nat → Int := U.2.2.2.1
abbrev uN (U : AirD) : Nat := U.2.2.2.2
/-- ways that are the same as far as they go -/
def WyE (n : Nat) (w w' : WyS) : Prop := ∀ x, x < n → w.2 x = w'.2 x ∧ ∀ k : Nat, (k : Int) < w.2 x → w.1 x k = w'.1 x k
theorem wye_rf {n : Nat} {w : WyS} : WyE n w w := fun _ _ => ⟨rfl, fun _ _ => rfl⟩
theorem vi_c {S : Int → Prop} {f g : Nat → Int} {z : Int} (h : ∀ k : Nat, (k : Int) < z → f k = g k) : viH S f z ↔ viH S g z := ⟨fun ⟨k, k1, k2⟩ => ⟨k, k1, by rw [← h k k1]; exact k2⟩, fun ⟨k, k1, k2⟩ => ⟨k, k1, by rw [h k k1]; exact k2⟩⟩
theorem ov_c {S : Int → Prop} {f g : Nat → Int} {z : Int} (h : ∀ k : Nat, (k : Int) < z → f k = g k) : ovH S f (z - 1).toNat = ovH S g (z - 1).toNat := sm_eq (fun k hk => by
  have e1 := h k (by omega)
  have e2 := h (k + 1) (by omega)
  simp only [e1, e2])
theorem in_c {S : Int → Prop} {f g : Nat → Int} {z : Int} (h : ∀ k : Nat, (k : Int) < z → f k = g k) : inH S f (z - 1).toNat = inH S g (z - 1).toNat := sm_eq (fun k hk => by
  have e1 := h k (by omega)
  have e2 := h (k + 1) (by omega)
  simp only [e1, e2])
theorem cl_c {S : Int → Prop} {f g : Nat → Int} {z : Int} (h : ∀ k : Nat, (k : Int) < z → f k = g k) : clH S f (z - 1).toNat = clH S g (z - 1).toNat := sm_eq (fun k hk => by
  have e1 := h k (by omega)
  have e2 := h (k + 1) (by omega)
  simp only [e1, e2])
theorem gok_c {f g : Nat → Int} {z : Int} {k : Nat} (hk : (k : Int) < z) (h : ∀ k : Nat, (k : Int) < z → f k = g k) : goK f z k = goK g z k := by
  unfold goK
  by_cases q1 : z = 1
  · rw [if_pos q1, if_pos q1]
  · rw [if_neg q1, if_neg q1]
    by_cases q2 : (k : Int) + 1 < z
    · rw [if_pos q2, if_pos q2, h k hk, h (k + 1) (by omega)]
    · rw [if_neg q2, if_neg q2, h k hk, h (k - 1) (by omega)]
theorem mtp_c {f g f' g' : Nat → Int} {z y : Int} {k : Nat} (hk : (k : Int) < z) (hf : ∀ k : Nat, (k : Int) < z → f k = f' k) (hg : ∀ k : Nat, (k : Int) < y → g k = g' k) : mtP f g z y k ↔ mtP f' g' z y k := by
  constructor
  · rintro ⟨j, j1, j2, j3⟩
    exact ⟨j, j1, by rw [← hg j j1, ← hf k hk]; exact j2, by rw [← gok_c hk hf, ← gok_c j1 hg]; exact j3⟩
  · rintro ⟨j, j1, j2, j3⟩
    exact ⟨j, j1, by rw [hg j j1, hf k hk]; exact j2, by rw [gok_c hk hf, gok_c j1 hg]; exact j3⟩
theorem mth_c {S : Int → Prop} {f g f' g' : Nat → Int} {z y : Int} (hf : ∀ k : Nat, (k : Int) < z → f k = f' k) (hg : ∀ k : Nat, (k : Int) < y → g k = g' k) : mtW S f g z y = mtW S f' g' z y := by
  unfold mtW
  exact sm_eq (fun k hk => i01_c (by rw [hf k (by omega)]; exact and_congr_right (fun _ => mtp_c (by omega) hf hg)))
theorem wa_c {S : Int → Prop} {w w' : WyS} {mo mo' : Nat → Int} {n : Nat} (hw : WyE n w w') (hm : ∀ x, x < n → mo x = mo' x) : waH S w mo n = waH S w' mo' n := sm_eq (fun x hx => by
  obtain ⟨e1, e2⟩ := hw x hx
  show i01 (viH S (w.1 x) (w.2 x)) * mo x = i01 (viH S (w'.1 x) (w'.2 x)) * mo' x
  rw [hm x hx, ← e1, i01_c (vi_c e2)])
theorem oa_c {S : Int → Prop} {w w' : WyS} {mo mo' : Nat → Int} {n : Nat} (hw : WyE n w w') (hm : ∀ x, x < n → mo x = mo' x) : oaH S w mo n = oaH S w' mo' n := sm_eq (fun x hx => by
  obtain ⟨e1, e2⟩ := hw x hx
  show mo x * ovH S (w.1 x) (w.2 x - 1).toNat = mo' x * ovH S (w'.1 x) (w'.2 x - 1).toNat
  rw [hm x hx, ← e1, ov_c e2])
theorem ca_c {S : Int → Prop} {w w' : WyS} {mo mo' : Nat → Int} {n : Nat} (hw : WyE n w w') (hm : ∀ x, x < n → mo x = mo' x) : caH S w mo n = caH S w' mo' n := sm_eq (fun x hx => by
  obtain ⟨e1, e2⟩ := hw x hx
  show mo x * clH S (w.1 x) (w.2 x - 1).toNat = mo' x * clH S (w'.1 x) (w'.2 x - 1).toNat
  rw [hm x hx, ← e1, cl_c e2])
theorem ia_c {S : Int → Prop} {w w' : WyS} {mo mo' : Nat → Int} {n : Nat} (hw : WyE n w w') (hm : ∀ x, x < n → mo x = mo' x) : iaH S w mo n = iaH S w' mo' n := sm_eq (fun x hx => by
  obtain ⟨e1, e2⟩ := hw x hx
  show mo x * inH S (w.1 x) (w.2 x - 1).toNat = mo' x * inH S (w'.1 x) (w'.2 x - 1).toNat
  rw [hm x hx, ← e1, in_c e2])
theorem cr_c {S : Int → Prop} {w w' : WyS} {mo mo' : Nat → Int} {n : Nat} (hw : WyE n w w') (hm : ∀ x, x < n → mo x = mo' x) : crH S w mo n = crH S w' mo' n := sm_eq (fun a ha => sm_eq (fun b hb => by
  obtain ⟨e1, e2⟩ := hw a ha
  obtain ⟨f1, f2⟩ := hw b hb
  show (if a < b then mtW S (w.1 a) (w.1 b) (w.2 a) (w.2 b) * min (mo a) (mo b) else 0) = if a < b then mtW S (w'.1 a) (w'.1 b) (w'.2 a) (w'.2 b) * min (mo' a) (mo' b) else 0
  rw [hm a ha, hm b hb, ← e1, ← f1, mth_c e2 f2]))
/-- the seven names -/
noncomputable def nmH (S : Int → Prop) (w : WyS) (mo : Nat → Int) (n : Nat) (pc : Int) (j : Nat) : Int32 := Int32.ofInt (if j = 0 then waH S w mo n else if j = 1 then crH S w mo n else if j = 2 then oaH S w mo n else if j = 3 then caH S w mo n else if j = 4 then sm (fun c => i01 (S (c : Int))) 128 else if j = 5 then sm (fun c => i01 ((c : Int) < 64 ∧ S (c : Int))) 128 else pc)
theorem nmh_c {S : Int → Prop} {w w' : WyS} {mo mo' : Nat → Int} {n : Nat} {pc : Int} (hw : WyE n w w') (hm : ∀ x, x < n → mo x = mo' x) : nmH S w mo n pc = nmH S w' mo' n pc := funext (fun j => by unfold nmH; rw [wa_c hw hm, cr_c hw hm, oa_c hw hm, ca_c hw hm])
/-- a stream left out (its most is 0; -1: none) -/
def moW (U : AirD) (q : Nat) (w : Int) (x : Nat) : Int := if (x : Int) = w then 0 else uM U q x
/-- the load of a set in a quarter, a stream left out -/
noncomputable def ldH (U : AirD) (S : Int → Prop) (pc : Int) (q : Nat) (w : Int) : Int32 := uL U (nmH S (uW U) (moW U q w) (uN U) pc)
theorem mow_1 {U : AirD} {q x : Nat} : moW U q (-1) x = uM U q x := if_neg (by omega)
theorem ldh_q {U : AirD} {S : Int → Prop} {pc : Int} {q r : Nat} (h : ∀ x, x < uN U → uM U q x = uM U r x) : ldH U S pc q (-1) = ldH U S pc r (-1) := by
  unfold ldH
  rw [nmh_c (mo := moW U q (-1)) (mo' := moW U r (-1)) wye_rf (fun x hx => by rw [mow_1, mow_1]; exact h x hx)]
/-- the greatest, and where it is first -/
def pkF (f : Nat → Int) : Nat → Int
  | 0 => f 0
  | n + 1 => if pkF f n < f (n + 1) then f (n + 1) else pkF f n
def pqF (f : Nat → Int) : Nat → Nat
  | 0 => 0
  | n + 1 => if pkF f n < f (n + 1) then n + 1 else pqF f n
theorem pk_ge {f : Nat → Int} : ∀ {n k : Nat}, k ≤ n → f k ≤ pkF f n
  | 0, k, h => by rw [show k = 0 by omega]; exact Int.le_refl _
  | n + 1, k, h => by
    show f k ≤ if pkF f n < f (n + 1) then f (n + 1) else pkF f n
    by_cases c : pkF f n < f (n + 1)
    · rw [if_pos c]
      by_cases e : k = n + 1
      · rw [e]; exact Int.le_refl _
      · have := pk_ge (f := f) (n := n) (k := k) (by omega); omega
    · rw [if_neg c]
      by_cases e : k = n + 1
      · rw [e]; omega
      · exact pk_ge (by omega)
theorem pk_y {f : Nat → Int} {q g v : Int} {p : Int} (hg : g = pkF f (q - 1).toNat) (q1 : 1 ≤ q) (hv : v = f q.toNat) (h : g < v) : v = pkF f (q + 1 - 1).toNat ∧ q = ((pqF f (q + 1 - 1).toNat : Nat) : Int) := by
  obtain ⟨m, hm⟩ : ∃ m : Nat, q = (m : Int) + 1 := ⟨(q - 1).toNat, by omega⟩
  rw [show (q + 1 - 1).toNat = m + 1 by omega]
  rw [show (q - 1).toNat = m by omega] at hg
  rw [show q.toNat = m + 1 by omega] at hv
  rw [hg, hv] at h
  show v = (if pkF f m < f (m + 1) then f (m + 1) else pkF f m) ∧ q = (((if pkF f m < f (m + 1) then m + 1 else pqF f m : Nat) : Nat) : Int)
  rw [if_pos h, if_pos h]
  exact ⟨hv, by omega⟩
theorem pk_n {f : Nat → Int} {q g p : Int} (hg : g = pkF f (q - 1).toNat ∧ p = ((pqF f (q - 1).toNat : Nat) : Int)) (q1 : 1 ≤ q) (h : f q.toNat ≤ g) : g = pkF f (q + 1 - 1).toNat ∧ p = ((pqF f (q + 1 - 1).toNat : Nat) : Int) := by
  obtain ⟨m, hm⟩ : ∃ m : Nat, q = (m : Int) + 1 := ⟨(q - 1).toNat, by omega⟩
  rw [show (q + 1 - 1).toNat = m + 1 by omega]
  rw [show (q - 1).toNat = m by omega] at hg
  rw [show q.toNat = m + 1 by omega, hg.1] at h
  show g = (if pkF f m < f (m + 1) then f (m + 1) else pkF f m) ∧ p = (((if pkF f m < f (m + 1) then m + 1 else pqF f m : Nat) : Nat) : Int)
  rw [if_neg (by omega), if_neg (by omega)]
  exact hg
/-- the loads of a set by quarters; its peak -/
noncomputable def lqH (U : AirD) (S : Int → Prop) (q : Nat) : Int := (ldH U S 1 q (-1)).toInt
noncomputable def pkH (U : AirD) (S : Int → Prop) : Int := pkF (lqH U S) 23
theorem of_to {e : Int} {v : Int32} (hr : rng e) (h : Int32.ofInt e = v) : e = v.toInt := by rw [← h, zi hr]
theorem vl_ext {nm nm' : Nat → Int32} {v : Int32} {c : List Int} (h : ∀ j, j < 7 → nm j = nm' j) (hv : VLm nm v c) : VLm nm' v c := by
  have e : ∀ st a, stV nm st a = stV nm' st a := fun st a => by
    unfold stV
    by_cases q : -8 < a
    · rw [if_pos q, if_pos q]
      by_cases z : 0 ≤ a
      · rw [if_pos z, if_pos z]
      · rw [if_neg z, if_neg z, h _ (by omega)]
    · rw [if_neg q, if_neg q]
  have f : stV nm = stV nm' := funext (fun st => funext (fun a => e st a))
  intro st
  rw [← f]
  exact hv st
/-- without a clause -/
def ldD (nm : Nat → Int32) : Int32 := nm 0 + 2 * nm 1 + nm 2
theorem ldd_of {a b c : Int} {nm : Nat → Int32} (h0 : Int32.ofInt a = nm 0) (h1 : Int32.ofInt b = nm 1) (h2 : Int32.ofInt c = nm 2) : Int32.ofInt (a + 2 * b + c) = ldD nm := by
  unfold ldD
  rw [Int32.ofInt_add, Int32.ofInt_add, Int32.ofInt_mul, h0, h1, h2]
  rfl
/-- the class works the load out -/
def LDC (L : LdF) (s : PS) : Prop := (iI s 13 = -1 ∧ L = ldD) ∨ (iI s 13 ≠ -1 ∧ ∀ nm, VLm nm (L nm) (cdL s (iI s 13)))
/-- the class's air is U -/
def CDJ (U : AirD) (s : PS) : Prop := (iI s 9 = (uN U : Int) ∧ uN U ≤ 12) ∧ WyE (uN U) (WYC s) (uW U) ∧ (∀ q x : Nat, q < 24 → x < uN U → iC s 11 (12 * q + x) = uM U q x) ∧ (∀ x : Nat, x < uN U → iC s 12 x = uT U x) ∧ (∀ q : Nat, q < 24 → (0 ≤ iC s 14 q ∧ iC s 14 q ≤ (q : Int)) ∧ ∀ x : Nat, x < uN U → uM U q x = uM U (iC s 14 q).toNat x) ∧ LDC (uL U) s
theorem cdl_fm {L M : List Nat} {s t : PS} {x : Int} (F : Fm L M s t) (h1 : 17 ∉ M) (h2 : 16 ∉ M) : cdL t x = cdL s x := by
  have e1 : ∀ j, iC t 17 j = iC s 17 j := fun j => fm_c F h1
  have e2 : ∀ j, iC t 16 j = iC s 16 j := fun j => fm_c F h2
  unfold cdL bgV
  simp only [e1, e2]
theorem CDJ_fm {U : AirD} {L M : List Nat} {s t : PS} (F : Fm L M s t) (h : (9 ∉ L ∧ 13 ∉ L) ∧ 2 ∉ M ∧ 1 ∉ M ∧ 11 ∉ M ∧ 12 ∉ M ∧ 14 ∉ M ∧ 17 ∉ M ∧ 16 ∉ M) (r : CDJ U s) : CDJ U t := by
  have e1 : iI t 9 = iI s 9 := fm_i F h.1.1
  have e2 : iI t 13 = iI s 13 := fm_i F h.1.2
  have e3 : ∀ j, iC t 2 j = iC s 2 j := fun j => fm_c F h.2.1
  have e4 : ∀ j, iC t 1 j = iC s 1 j := fun j => fm_c F h.2.2.1
  have e5 : ∀ j, iC t 11 j = iC s 11 j := fun j => fm_c F h.2.2.2.1
  have e6 : ∀ j, iC t 12 j = iC s 12 j := fun j => fm_c F h.2.2.2.2.1
  have e7 : ∀ j, iC t 14 j = iC s 14 j := fun j => fm_c F h.2.2.2.2.2.1
  have e8 : ∀ x, cdL t x = cdL s x := fun x => cdl_fm F h.2.2.2.2.2.2.1 h.2.2.2.2.2.2.2
  unfold CDJ LDC WyE WYC fwC at r ⊢
  simp only [e1, e2, e3, e4, e5, e6, e7, e8]
  exact r
theorem HEH_fm {lo hi : Int64} {x : Int} {L M : List Nat} {s t : PS} (F : Fm L M s t) (h : 33 ∉ M) (r : HEH lo hi x s) : HEH lo hi x t := ⟨(fm_c F h).trans r.1, (fm_c F h).trans r.2.1, (fm_c F h).trans r.2.2⟩
theorem heh_h {lo hi : Int64} {x q w : Int} {s t : PS} (r : HEH lo hi x s) (h : HRD q w s t) : HEH lo hi x t := ⟨(h.2.2.2.2 4 (by decide)).trans r.1, (h.2.2.2.2 5 (by decide)).trans r.2.1, (h.2.2.2.2 6 (by decide)).trans r.2.2⟩
/-- how many cells a set has -/
theorem inl_cnt {lo hi : Int64} : sm (fun c : Nat => i01 (inL lo hi (c : Int))) 128 = bnN lo + bnN hi := by
  rw [show (128 : Nat) = 64 + 64 from rfl, sm_cat 64 64]
  have a : sm (fun c : Nat => i01 (inL lo hi (c : Int))) 64 = bnN lo := sm_eq (fun c hc => i01_c (inl_l hc))
  have b : sm (fun j : Nat => i01 (inL lo hi ((64 + j : Nat) : Int))) 64 = bnN hi := sm_eq (fun c hc => i01_c (by
    rw [show ((64 + c : Nat) : Int) = 64 + (c : Int) by omega]; exact inl_h hc))
  rw [a, b]
theorem inl_low {lo hi : Int64} : sm (fun c : Nat => i01 ((c : Int) < 64 ∧ inL lo hi (c : Int))) 128 = bnN lo := by
  rw [show (128 : Nat) = 64 + 64 from rfl, sm_cat 64 64]
  have a : sm (fun c : Nat => i01 ((c : Int) < 64 ∧ inL lo hi (c : Int))) 64 = bnN lo := sm_eq (fun c hc => i01_c ⟨fun q => (inl_l hc).mp q.2, fun q => ⟨by omega, (inl_l hc).mpr q⟩⟩)
  have b : sm (fun j : Nat => i01 (((64 + j : Nat) : Int) < 64 ∧ inL lo hi ((64 + j : Nat) : Int))) 64 = 0 := sm_0 (fun c hc => i01_f (fun q => by have := q.1; omega))
  rw [a, b, Int.add_zero]
/-- the seven that the class has heard -/
theorem cl_names {U : AirD} {s t : PS} {lo hi : Int64} {q w pc : Int} (a : AIR s) (p : CPL s) (l : LSN lo hi s) (e : HEH lo hi pc s) (d : CDJ U s) (h : HRD q w s t) (hq : 0 ≤ q ∧ q ≤ 23) : ∀ j, j < 7 → Int32.ofInt (iC t 33 j) = nmH (inL lo hi) (uW U) (moW U q.toNat w) (uN U) pc j := by
  obtain ⟨⟨d1, d2⟩, d3, d4, -⟩ := d
  have h0 : 0 ≤ iI s 9 := by omega
  have en : (iI s 9).toNat = uN U := by omega
  have su := lsn_sums a l h0 (moX s q w)
  have cr := lsn_cr a p l h0 (moX s q w)
  rw [en] at su cr
  have hm : ∀ x, x < uN U → moX s q w x = moW U q.toNat w x := fun x hx => by
    unfold moX moW
    by_cases c : (x : Int) = w
    · rw [if_pos c, if_pos c]
    · rw [if_neg c, if_neg c, show (q * 12 + (x : Int)).toNat = 12 * q.toNat + x by omega]
      exact d4 q.toNat x (by omega) hx
  obtain ⟨r0, r1, r2, r3, r4⟩ := h
  obtain ⟨k4, k5, k6⟩ := e
  intro j hj
  rcases (show j = 0 ∨ j = 1 ∨ j = 2 ∨ j = 3 ∨ j = 4 ∨ j = 5 ∨ j = 6 by omega) with z | z | z | z | z | z | z <;> subst z
  · show _ = Int32.ofInt (waH (inL lo hi) (uW U) (moW U q.toNat w) (uN U))
    rw [r0, su.1, wa_c d3 hm]
  · show _ = Int32.ofInt (crH (inL lo hi) (uW U) (moW U q.toNat w) (uN U))
    rw [r1, cr, cr_c d3 hm]
  · show _ = Int32.ofInt (oaH (inL lo hi) (uW U) (moW U q.toNat w) (uN U))
    rw [r2, su.2.1, oa_c d3 hm]
  · show _ = Int32.ofInt (caH (inL lo hi) (uW U) (moW U q.toNat w) (uN U))
    rw [r3, su.2.2.2, ca_c d3 hm]
  · show _ = Int32.ofInt (sm (fun c : Nat => i01 (inL lo hi (c : Int))) 128)
    rw [r4 4 (by decide), k4, inl_cnt]
  · show _ = Int32.ofInt (sm (fun c : Nat => i01 ((c : Int) < 64 ∧ inL lo hi (c : Int))) 128)
    rw [r4 5 (by decide), k5, inl_low]
  · show _ = Int32.ofInt pc
    rw [r4 6 (by decide), k6]
theorem cl_load {U : AirD} {s t : PS} {lo hi : Int64} {q w pc e x : Int} (a : AIR s) (p : CPL s) (l : LSN lo hi s) (k : HEH lo hi pc s) (d : CDJ U s) (h : HRD q w s t) (hq : 0 ≤ q ∧ q ≤ 23) (hx : x = iI s 13) (hc : cdL t x = cdL s x) (hw : (x = -1 → Int32.ofInt e = Int32.ofInt (iC t 33 0 + 2 * iC t 33 1 + iC t 33 2)) ∧ (x ≠ -1 → ∀ w : Int32, VLm (fun j => Int32.ofInt (iC t 33 j)) w (cdL t x) → Int32.ofInt e = w)) : Int32.ofInt e = ldH U (inL lo hi) pc q.toNat w := by
  have hn := cl_names a p l k d h hq
  unfold ldH
  rcases d.2.2.2.2.2 with ⟨c1, c2⟩ | ⟨c1, c2⟩
  · rw [hw.1 (by omega), c2]
    exact ldd_of (hn 0 (by decide)) (hn 1 (by decide)) (hn 2 (by decide))
  · refine hw.2 (by omega) _ ?_
    rw [hc, hx]
    exact vl_ext (fun j hj => (hn j hj).symm) (c2 _)
/-- a quarter that is another one's twin hears the same -/
theorem tw_ld {U : AirD} {s : PS} {S : Int → Prop} {pc q : Int} (d : CDJ U s) (hq : 0 ≤ q ∧ q ≤ 23) : (0 ≤ iC s 14 q.toNat ∧ iC s 14 q.toNat ≤ q) ∧ ldH U S pc q.toNat (-1) = ldH U S pc (iC s 14 q.toNat).toNat (-1) := by
  have z := d.2.2.2.2.1 q.toNat (by omega)
  exact ⟨⟨z.1.1, by have := z.1.2; omega⟩, ldh_q z.2⟩
noncomputable def lpF (U : AirD) (S : Int → Prop) (pc : Int) (q : Nat) : Int := (ldH U S pc q (-1)).toInt
/-- the peak so far -/
def PKQ (f : Nat → Int) (g p q : Int) : Prop := g = pkF f (q - 1).toNat ∧ p = ((pqF f (q - 1).toNat : Nat) : Int)
theorem pkq_0 {f : Nat → Int} {g : Int} (h : g = f 0) : PKQ f g 0 1 := ⟨h, rfl⟩
theorem pkq_y {f : Nat → Int} {g p q v p' : Int} (h : PKQ f g p q) (q1 : 1 ≤ q) (hv : v = f q.toNat) (hl : g < v) (hp : p' = q) : PKQ f v p' (q + 1) := by
  have z := pk_y (p := p) h.1 q1 hv hl
  exact ⟨z.1, hp.trans z.2⟩
theorem pkq_n {f : Nat → Int} {g p q v p' : Int} (h : PKQ f g p q) (q1 : 1 ≤ q) (hv : v = f q.toNat) (hl : v ≤ g) (hp : p' = p) : PKQ f g p' (q + 1) := by
  subst hp
  exact pk_n h q1 (by rw [← hv]; exact hl)
theorem pkq_t {U : AirD} {s : PS} {S : Int → Prop} {pc g p q p' tw : Int} (h : PKQ (lpF U S pc) g p q) (d : CDJ U s) (q1 : 1 ≤ q ∧ q ≤ 23) (ht : tw = iC s 14 q.toNat) (hn : tw ≠ q) (hp : p' = p) : PKQ (lpF U S pc) g p' (q + 1) := by
  have z := tw_ld (S := S) (pc := pc) d (show 0 ≤ q ∧ q ≤ 23 by omega)
  rw [← ht] at z
  refine pkq_n h q1.1 rfl ?_ hp
  have e : lpF U S pc q.toNat = lpF U S pc tw.toNat := congrArg Int32.toInt z.2
  rw [e, h.1]
  exact pk_ge (by omega)
/-- kept counts -/
theorem vss_b {s : PS} {lo hi : Int64} (l : LSN lo hi s) {i : Int} (h : 0 ≤ i ∧ i < iI s 22) : 0 ≤ iC s 28 i.toNat ∧ iC s 28 i.toNat ≤ 320 := (l.1.2.1 i.toNat (by omega)).2.1
theorem kc_end {U : AirD} {s : PS} {lo hi : Int64} {m c : Int} (a : AIR s) (l : LSN lo hi s) (d : CDJ U s) (h : m = VSS 26 27 28 29 s (fun x _ i _ => iC s 12 x * i) c.toNat) (hc : c = iI s 22) : m = iaH (inL lo hi) (uW U) (uT U) (uN U) := by
  obtain ⟨⟨d1, d2⟩, d3, -, d5, -⟩ := d
  have su := (lsn_sums a l (by omega) (fun x => iC s 12 x)).2.2.1
  rw [h, hc, su, show (iI s 9).toNat = uN U by omega]
  exact ia_c d3 d5
/-- counts of all steps -/
theorem cs_end {U : AirD} {s : PS} {m c : Int} (d : CDJ U s) (h : m = sm (fun x => iC s 12 x * (iC s 2 x - 1)) c.toNat) (hc : c = iI s 9) : m = sm (fun x => uT U x * ((uW U).2 x - 1)) (uN U) := by
  obtain ⟨⟨d1, d2⟩, d3, -, d5, -⟩ := d
  rw [h, hc, show (iI s 9).toNat = uN U by omega]
  refine sm_eq (fun x hx => ?_)
  have e := (d3 x hx).1
  replace e : iC s 2 x = (uW U).2 x := e
  simp only [d5 x hx, e]
theorem kc_up {s : PS} {m v c : Int} (h : m = VSS 26 27 28 29 s (fun x _ i _ => iC s 12 x * i) c.toNat) (c0 : 0 ≤ c) (hv : v = iC s 12 (iC s 26 c.toNat).toNat * iC s 28 c.toNat) : m + v = VSS 26 27 28 29 s (fun x _ i _ => iC s 12 x * i) (c + 1).toNat := by
  rw [show (c + 1).toNat = c.toNat + 1 by omega, hv, h]
  rfl
theorem cs_up {s : PS} {m v c : Int} (h : m = sm (fun x => iC s 12 x * (iC s 2 x - 1)) c.toNat) (c0 : 0 ≤ c) (hv : v = iC s 12 c.toNat * (iC s 2 c.toNat - 1)) : m + v = sm (fun x => iC s 12 x * (iC s 2 x - 1)) (c + 1).toNat := by
  rw [show (c + 1).toNat = c.toNat + 1 by omega, hv, h]
  rfl
theorem siz_r {s : PS} (h : AIR s) {x : Int} (hx : 0 ≤ x ∧ x < iI s 9) : 1 ≤ iC s 2 x.toNat ∧ iC s 2 x.toNat ≤ 24 := (h.2 x.toNat (by omega)).1.1
section M87t
variable {l : Launch} {s0 : State} {D : va_G} {tys : List (ClassId × FieldType)} {a0 : Array Value} {A : Nat → Nat} {dT : Nat → ClassId} {s : PS}
set_option maxRecDepth 4000 in
theorem c0_loadAt3 (G : GX l s0 D tys a0 dT) {U : AirD} {aj bj : Int64} {pc : Int} (I : Bd s) (jAIR : AIR s) (jCPL : CPL s) (jLSN : LSN aj bj s) (jCDJ : CDJ U s) (jHEH : HEH aj bj pc s) {x y : Int} (p0 : 0 ≤ x ∧ x ≤ 23) (p1 : rng y) : CT l s0 D A dT 4 (rmN 4) [.ref (A 31), .int (Int32.ofInt x), .int (Int32.ofInt y)] s (fun o t => Bd t ∧ Fm [] [33, 20] s t ∧ HEH aj bj pc t ∧ ∃ e, o = .inl (some (.int (Int32.ofInt e))) ∧ rng e ∧ (Int32.ofInt e = ldH U (inL aj bj) pc (x : Int).toNat y)) := by
  refine ct_ofX G (by decide) (Nat.le_of_ble_eq_true rfl) (fun k X E ET hRt hXt q => ?_)
  show WS k 0 [(0, .ref (A 31)), (1, .int (Int32.ofInt x)), (2, .int (Int32.ofInt y))] [] _ 0 0
  have F : Fm [] [33, 20] s s := fm_rf _ _ s
  refine z_aload_n X (x := A 31) rfl (List.Mem.head _) (z_load_n X (x := x) rfl (List.Mem.tail _ (List.Mem.head _)) (z_load_n X (x := y) rfl (List.Mem.tail _ (List.Mem.tail _ (List.Mem.head _))) (zcV_v0 X E 31 (As := [.int (Int32.ofInt x), .int (Int32.ofInt y)]) (st := []) rfl rfl rfl rfl (c0_hear3 G I jLSN (by first | exact ⟨p0.1, p0.2⟩ | omega) (by first | exact ⟨p1.1, p1.2⟩ | omega)) rfl (Nat.le_of_ble_eq_true rfl) (fun s1 Is1 Fs1 hps1 => ?_))))
  have Gs1 := fm_tq F Fs1 rfl rfl
  have JAIR_s1 : AIR s1 := AIR_fm Fs1 (by decide) jAIR
  have JCPL_s1 : CPL s1 := CPL_fm Fs1 (by decide) jCPL
  have JLSN_s1 : LSN aj bj s1 := LSN_fm Fs1 (by decide) jLSN
  have JCDJ_s1 : CDJ U s1 := CDJ_fm Fs1 (by decide) jCDJ
  have JH9 : HEH aj bj pc s1 := heh_h jHEH hps1
  refine z_aload_n X (x := A 31) rfl (List.Mem.head _) (s_getR X 31 rfl (c518_ok rfl) rfl rfl (z_aload_n X (x := A 31) rfl (List.Mem.head _) (s_getR X 31 rfl (c518_ok rfl) rfl rfl (z_getI X 19 rfl (c518_ok rfl) rfl rfl ?_))))
  have b3 := bi_13 Is1
  refine z_aload_n X (x := A 31) rfl (List.Mem.head _) (s_getR X 31 rfl (c518_ok rfl) rfl rfl (zcV_i0 X E 19 (As := [.int (Int32.ofInt (iI s1 13)), .ref (A 39)]) (st := []) rfl rfl rfl rfl (c7_work3 G Is1 (by first | exact ⟨b3.1, b3.2⟩ | omega)) rfl (Nat.le_of_ble_eq_true rfl) (fun s4 e5 Is4 Fs4 hrs4 hps4 => ?_)))
  have Gs4 := fm_tq Gs1 Fs4 rfl rfl
  have JAIR_s4 : AIR s4 := AIR_fm Fs4 (by decide) JAIR_s1
  have JCPL_s4 : CPL s4 := CPL_fm Fs4 (by decide) JCPL_s1
  have JLSN_s4 : LSN aj bj s4 := LSN_fm Fs4 (by decide) JLSN_s1
  have JCDJ_s4 : CDJ U s4 := CDJ_fm Fs4 (by decide) JCDJ_s1
  have JHEH_s4 : HEH aj bj pc s4 := HEH_fm Fs4 (by decide) JH9
  exact w_iret X.1 q hRt rfl (ax_d X (show cdA 4 24 = some (.ireturn, 1, 0, 0, 0) from rfl)) (Nat.zero_le _) (Nat.zero_le _) ⟨_, rfl, Is4, Gs4, JHEH_s4, e5, rfl, hrs4, (cl_load jAIR jCPL jLSN jHEH jCDJ hps1 (by first | (clear hps4; omega) | omega) (fm_i Fs1 (by decide)) (cdl_fm Fs1 (by decide) (by decide)) hps4)⟩
set_option maxRecDepth 4000 in
theorem c0_findPeak3 (G : GX l s0 D tys a0 dT) {U : AirD} {aj bj : Int64} {pc : Int} (I : Bd s) (jAIR : AIR s) (jCPL : CPL s) (jLSN : LSN aj bj s) (jCDJ : CDJ U s) (jHEH : HEH aj bj pc s)  : CT l s0 D A dT 5 (rmN 5) [.ref (A 31)] s (fun o t => Bd t ∧ Fm [24] [33, 20] s t ∧ HEH aj bj pc t ∧ ∃ e, o = .inl (some (.int (Int32.ofInt e))) ∧ rng e ∧ (PKQ (lpF U (inL aj bj) pc) e (iI t 24) 24)) := by
  refine ct_ofX G (by decide) (Nat.le_of_ble_eq_true rfl) (fun k X E ET hRt hXt q => ?_)
  show WS k 0 [(0, .ref (A 31))] [] _ 0 0
  have F : Fm [24] [33, 20] s s := fm_rf _ _ s
  have b1 := bi_24 I
  have L14 : ∀ (n : Nat) (t : PS) (gr qq : Int), Bd t → Fm [24] [33, 20] s t → AIR t → CPL t → LSN aj bj t → CDJ U t → HEH aj bj pc t → (PKQ (lpF U (inL aj bj) pc) gr (iI t 24) qq) → (rng gr ∧ 1 ≤ qq ∧ qq ≤ 24) → (24 - qq : Int).toNat < n → (∀ (t' : PS) (gr' qq' : Int), Bd t' → Fm [24] [33, 20] s t' → AIR t' → CPL t' → LSN aj bj t' → CDJ U t' → HEH aj bj pc t' → (PKQ (lpF U (inL aj bj) pc) gr' (iI t' 24) qq') → (rng gr' ∧ qq' = 24) → WS k 58 [(0, .ref (A 31)), (1, .int (Int32.ofInt gr')), (2, .int (Int32.ofInt qq'))] [] (Wd A dT t') 0 0) → WS k 14 [(0, .ref (A 31)), (1, .int (Int32.ofInt gr)), (2, .int (Int32.ofInt qq))] [] (Wd A dT t) 0 0 := by
    intro n
    induction n with
    | zero =>
      intro t gr qq I F jjAIR jjCPL jjLSN jjCDJ jjHEH hq hi hm kx
      exact absurd hm (Nat.not_lt_zero _)
    | succ n ih =>
      intro t gr qq I F jjAIR jjCPL jjLSN jjCDJ jjHEH hq hi hm kx
      have b1001 := bi_24 I
      refine z_load_n X (x := qq) rfl (List.Mem.tail _ (List.Mem.tail _ (List.Mem.head _))) (z_bipush X rfl (z_icmp_ge X (t := 58) rfl rfl ⟨by first | exact oq_9462313e hi.2.1 | omega, by first | exact oq_5bcd337f hi.2.2 | omega⟩ (by decide) (fun g1002 => ?_) (fun g1002 => ?_)))
      ·
        refine WS_pq [0, 1, 2] (lv' := [(0, .ref (A 31)), (1, .int (Int32.ofInt gr)), (2, .int (Int32.ofInt qq))]) rfl ?_
        exact kx _ gr qq I F jjAIR jjCPL jjLSN jjCDJ jjHEH hq (by first | exact ⟨And.intro (hi.1.1) (hi.1.2), oq_ea1742b3 hi.2.2 g1002⟩ | omega)
      ·
        refine z_aload_n X (x := A 31) rfl (List.Mem.head _) (s_getR X 31 rfl (c518_ok rfl) rfl rfl (s_getR X 3 rfl (c518_ok rfl) rfl rfl (z_load_n X (x := qq) rfl (List.Mem.tail _ (List.Mem.tail _ (List.Mem.head _))) (z_ald X 17 rfl (c518_ok rfl) rfl (by first | exact oq_2a6e3b50 hi.2.1 | omega) (show qq < 24 by first | exact g1002 | omega) (cbig_ok rfl) ?_))))
        have b1003 := bc_14 I (show (qq).toNat < 24 by first | exact oq_797efae6 g1002 | omega)
        refine z_load_n X (x := qq) rfl (List.Mem.tail _ (List.Mem.tail _ (List.Mem.head _))) (z_icmp_ne X (t := 52) rfl rfl (rng_to _) ⟨by first | exact oq_9462313e hi.2.1 | omega, by first | exact oq_1d70227b g1002 | omega⟩ (fun g1004 => ?_) (fun g1004 => ?_))
        ·
          refine z_inc X (x := qq) (lv' := [(2, .int (Int32.ofInt (qq + 1))), (0, .ref (A 31)), (1, .int (Int32.ofInt gr))]) rfl (by decide) (List.Mem.tail _ (List.Mem.tail _ (List.Mem.head _))) (fun _ h => h) (z_goto X (t := 14) rfl rfl (WS_pq [1, 2, 0] (lv' := [(0, .ref (A 31)), (1, .int (Int32.ofInt gr)), (2, .int (Int32.ofInt (qq + 1)))]) rfl ?_))
          exact ih _ gr (qq + 1) I F jjAIR jjCPL jjLSN jjCDJ jjHEH (pkq_t hq jjCDJ (by first | (clear g1004; omega) | omega) rfl (by first | (clear g1004; omega) | omega) rfl) (by first | exact ⟨And.intro (hi.1.1) (hi.1.2), oq_1e1a2df6 hi.2.1, oq_cec7cb2e g1002⟩ | omega) (by first | exact qk_me hm (by decide) (oq_ffa8317e g1002) | omega) kx
        ·
          refine z_aload_n X (x := A 31) rfl (List.Mem.head _) (z_load_n X (x := qq) rfl (List.Mem.tail _ (List.Mem.tail _ (List.Mem.head _))) (z_const X rfl (zcV_i1 X E 31 (As := [.int (Int32.ofInt qq), .int (Int32.ofInt (-1))]) (st := []) rfl rfl rfl rfl (c0_loadAt3 G I jjAIR jjCPL jjLSN jjCDJ jjHEH (by first | exact ⟨oq_2a6e3b50 hi.2.1, oq_c69fe266 g1002⟩ | omega) (by first | exact ⟨by decide, by decide⟩ | omega)) rfl (Nat.le_of_ble_eq_true rfl) (fun s1005 e1006 Is1005 Fs1005 JHEH_s1005 hrs1005 hps1005 => ?_))))
          have Gs1005 := fm_tq F Fs1005 rfl rfl
          have JAIR_s1005 : AIR s1005 := AIR_fm Fs1005 (by decide) jjAIR
          have JCPL_s1005 : CPL s1005 := CPL_fm Fs1005 (by decide) jjCPL
          have JLSN_s1005 : LSN aj bj s1005 := LSN_fm Fs1005 (by decide) jjLSN
          have JCDJ_s1005 : CDJ U s1005 := CDJ_fm Fs1005 (by decide) jjCDJ
          have ws1005_24 : iI s1005 24 = iI t 24 := fm_iq Fs1005 rfl
          refine z_store_n X (lv' := [(3, .int (Int32.ofInt e1006)), (0, .ref (A 31)), (1, .int (Int32.ofInt gr)), (2, .int (Int32.ofInt qq))]) rfl (by decide) (fun _ h => h) (z_load_n X (x := e1006) rfl (List.Mem.head _) (z_load_n X (x := gr) rfl (List.Mem.tail _ (List.Mem.tail _ (List.Mem.head _))) (z_icmp_le X (t := 52) rfl rfl hrs1005 ⟨by first | exact hi.1.1 | omega, by first | exact hi.1.2 | omega⟩ (fun g1007 => ?_) (fun g1007 => ?_))))
          ·
            refine z_inc X (x := qq) (lv' := [(2, .int (Int32.ofInt (qq + 1))), (3, .int (Int32.ofInt e1006)), (0, .ref (A 31)), (1, .int (Int32.ofInt gr))]) rfl (by decide) (List.Mem.tail _ (List.Mem.tail _ (List.Mem.tail _ (List.Mem.head _)))) (fun _ h => h) (z_goto X (t := 14) rfl rfl (WS_pq [2, 3, 0] (lv' := [(0, .ref (A 31)), (1, .int (Int32.ofInt gr)), (2, .int (Int32.ofInt (qq + 1)))]) rfl ?_))
            exact ih _ gr (qq + 1) Is1005 Gs1005 JAIR_s1005 JCPL_s1005 JLSN_s1005 JCDJ_s1005 JHEH_s1005 (pkq_n hq (by omega) (of_to hrs1005 hps1005) (by omega) (by omega)) (by first | exact ⟨And.intro (hi.1.1) (hi.1.2), oq_1e1a2df6 hi.2.1, oq_cec7cb2e g1002⟩ | omega) (by first | exact qk_me hm (by decide) (oq_ffa8317e g1002) | omega) kx
          ·
            refine z_load_n X (x := e1006) rfl (List.Mem.head _) (z_store_n X (lv' := [(1, .int (Int32.ofInt e1006)), (3, .int (Int32.ofInt e1006)), (0, .ref (A 31)), (2, .int (Int32.ofInt qq))]) rfl (by decide) (fun _ h => h) (z_aload_n X (x := A 31) rfl (List.Mem.tail _ (List.Mem.tail _ (List.Mem.head _))) (z_load_n X (x := qq) rfl (List.Mem.tail _ (List.Mem.tail _ (List.Mem.tail _ (List.Mem.head _)))) (s_putI X 31 rfl (c518_ok rfl) rfl rfl (by decide) rfl rfl rfl (wd_gen (fun s1008 hs1008 => ?_))))))
            have Is1008 : Bd s1008 := eqB hs1008 (bd_I Is1005 (show (0 : Int) ≤ qq ∧ qq ≤ 23 by first | exact ⟨oq_2a6e3b50 hi.2.1, oq_c69fe266 g1002⟩ | omega) ⟨by first | exact oq_9462313e hi.2.1 | omega, by first | exact oq_1d70227b g1002 | omega⟩)
            have Fs1008 := eqF hs1008 (fm_I Gs1005 (inl_ok (a := 24) rfl))
            have vs1008 : iI s1008 24 = qq := eqI hs1008 (iI_u ⟨by first | exact oq_9462313e hi.2.1 | omega, by first | exact oq_1d70227b g1002 | omega⟩)
            have fs1008 : Fm [24] [] s1005 s1008 := by rw [hs1008]; exact fm_I (fm_rf _ _ _) (show 24 ∈ _ by decide)
            have JAIR_s1008 : AIR s1008 := AIR_fm fs1008 (by decide) JAIR_s1005
            have JCPL_s1008 : CPL s1008 := CPL_fm fs1008 (by decide) JCPL_s1005
            have JLSN_s1008 : LSN aj bj s1008 := LSN_fm fs1008 (by decide) JLSN_s1005
            have JCDJ_s1008 : CDJ U s1008 := CDJ_fm fs1008 (by decide) JCDJ_s1005
            have JHEH_s1008 : HEH aj bj pc s1008 := HEH_fm fs1008 (by decide) JHEH_s1005
            refine z_inc X (x := qq) (lv' := [(2, .int (Int32.ofInt (qq + 1))), (1, .int (Int32.ofInt e1006)), (3, .int (Int32.ofInt e1006)), (0, .ref (A 31))]) rfl (by decide) (List.Mem.tail _ (List.Mem.tail _ (List.Mem.tail _ (List.Mem.head _)))) (fun _ h => h) (z_goto X (t := 14) rfl rfl (WS_pq [3, 1, 0] (lv' := [(0, .ref (A 31)), (1, .int (Int32.ofInt e1006)), (2, .int (Int32.ofInt (qq + 1)))]) rfl ?_))
            exact ih _ e1006 (qq + 1) Is1008 Fs1008 JAIR_s1008 JCPL_s1008 JLSN_s1008 JCDJ_s1008 JHEH_s1008 (pkq_y hq (by omega) (of_to hrs1005 hps1005) (by omega) (by omega)) (by first | exact ⟨by omega, oq_1e1a2df6 hi.2.1, oq_cec7cb2e g1002⟩ | omega) (by first | exact qk_me hm (by decide) (oq_ffa8317e g1002) | omega) kx
  refine z_aload_n X (x := A 31) rfl (List.Mem.head _) (z_const X rfl (z_const X rfl (zcV_i1 X E 31 (As := [.int (Int32.ofInt 0), .int (Int32.ofInt (-1))]) (st := []) rfl rfl rfl rfl (c0_loadAt3 G I jAIR jCPL jLSN jCDJ jHEH (by first | exact ⟨by decide, by decide⟩ | omega) (by first | exact ⟨by decide, by decide⟩ | omega)) rfl (Nat.le_of_ble_eq_true rfl) (fun s2 e3 Is2 Fs2 JHEH_s2 hrs2 hps2 => ?_))))
  have Gs2 := fm_tq F Fs2 rfl rfl
  have JAIR_s2 : AIR s2 := AIR_fm Fs2 (by decide) jAIR
  have JCPL_s2 : CPL s2 := CPL_fm Fs2 (by decide) jCPL
  have JLSN_s2 : LSN aj bj s2 := LSN_fm Fs2 (by decide) jLSN
  have JCDJ_s2 : CDJ U s2 := CDJ_fm Fs2 (by decide) jCDJ
  have ws2_24 : iI s2 24 = iI s 24 := fm_iq Fs2 rfl
  refine z_store_n X (lv' := [(1, .int (Int32.ofInt e3)), (0, .ref (A 31))]) rfl (by decide) (fun _ h => h) (z_aload_n X (x := A 31) rfl (List.Mem.tail _ (List.Mem.head _)) (z_const X rfl (s_putI X 31 rfl (c518_ok rfl) rfl rfl (by decide) rfl rfl rfl (wd_gen (fun s4 hs4 => ?_)))))
  have Is4 : Bd s4 := eqB hs4 (bd_I Is2 (show (0 : Int) ≤ 0 ∧ 0 ≤ 23 by first | exact ⟨by decide, by decide⟩ | omega) (by decide))
  have Fs4 := eqF hs4 (fm_I Gs2 (inl_ok (a := 24) rfl))
  have vs4 : iI s4 24 = 0 := eqI hs4 (iI_u (by decide))
  have fs4 : Fm [24] [] s2 s4 := by rw [hs4]; exact fm_I (fm_rf _ _ _) (show 24 ∈ _ by decide)
  have JAIR_s4 : AIR s4 := AIR_fm fs4 (by decide) JAIR_s2
  have JCPL_s4 : CPL s4 := CPL_fm fs4 (by decide) JCPL_s2
  have JLSN_s4 : LSN aj bj s4 := LSN_fm fs4 (by decide) JLSN_s2
  have JCDJ_s4 : CDJ U s4 := CDJ_fm fs4 (by decide) JCDJ_s2
  have JHEH_s4 : HEH aj bj pc s4 := HEH_fm fs4 (by decide) JHEH_s2
  refine z_const X rfl (z_store_n X (lv' := [(2, .int (Int32.ofInt 1)), (1, .int (Int32.ofInt e3)), (0, .ref (A 31))]) rfl (by decide) (fun _ h => h) (WS_pq [2, 1, 0] (lv' := [(0, .ref (A 31)), (1, .int (Int32.ofInt e3)), (2, .int (Int32.ofInt 1))]) rfl (L14 ((24 - 1 : Int).toNat + 1) s4 e3 1 Is4 Fs4 JAIR_s4 JCPL_s4 JLSN_s4 JCDJ_s4 JHEH_s4 (by have z := pkq_0 (f := (lpF U (inL aj bj) pc)) (of_to hrs2 hps2); rw [show iI s4 24 = 0 by omega]; exact z) (by first | exact ⟨by omega, by decide, by decide⟩ | omega) (Nat.lt_succ_self _) ?_)))
  intro s5 x6 x7 Is5 Fs5 JAIR_s5 JCPL_s5 JLSN_s5 JCDJ_s5 JHEH_s5 Qs5 hs5
  have b8 := bi_24 Is5
  refine z_load_n X (x := x6) rfl (List.Mem.tail _ (List.Mem.head _)) ?_
  exact w_iret X.1 q hRt rfl (ax_d X (show cdA 5 59 = some (.ireturn, 1, 0, 0, 0) from rfl)) (Nat.zero_le _) (Nat.zero_le _) ⟨_, rfl, Is5, Fs5, JHEH_s5, x6, rfl, ⟨by first | exact hs5.1.1 | omega, by first | exact hs5.1.2 | omega⟩, (by have z := Qs5; rw [show x7 = 24 by omega] at z; exact z)⟩
set_option maxRecDepth 4000 in
theorem c0_kept3 (G : GX l s0 D tys a0 dT) {U : AirD} {aj bj : Int64} (I : Bd s) (jAIR : AIR s) (jLSN : LSN aj bj s) (jCDJ : CDJ U s)  : CT l s0 D A dT 6 (rmN 6) [.ref (A 31)] s (fun o t => Bd t ∧ Fm [] [] s t ∧ ∃ e, o = .inl (some (.int (Int32.ofInt e))) ∧ rng e ∧ (e = iaH (inL aj bj) (uW U) (uT U) (uN U))) := by
  refine ct_ofX G (by decide) (Nat.le_of_ble_eq_true rfl) (fun k X E ET hRt hXt q => ?_)
  show WS k 0 [(0, .ref (A 31))] [] _ 0 0
  have F : Fm [] [] s s := fm_rf _ _ s
  have b1 := bi_22 I
  have L4 : ∀ (n : Nat) (t : PS) (sm0 c : Int), Bd t → Fm [] [] s t → AIR t → LSN aj bj t → CDJ U t → (sm0 = VSS 26 27 28 29 s (fun x _ i _ => iC s 12 x * i) (c : Int).toNat) → ((0 ≤ sm0 ∧ sm0 ≤ 384000 * c) ∧ 0 ≤ c ∧ c ≤ iI s 22 ∧ iI t 22 = iI s 22) → (12 - c : Int).toNat < n → (∀ (t' : PS) (sm0' c' : Int), Bd t' → Fm [] [] s t' → AIR t' → LSN aj bj t' → CDJ U t' → (sm0' = VSS 26 27 28 29 s (fun x _ i _ => iC s 12 x * i) (c' : Int).toNat) → (rng sm0' ∧ c' = iI s 22) → WS k 42 [(0, .ref (A 31)), (1, .int (Int32.ofInt sm0')), (2, .int (Int32.ofInt c'))] [] (Wd A dT t') 0 0) → WS k 4 [(0, .ref (A 31)), (1, .int (Int32.ofInt sm0)), (2, .int (Int32.ofInt c))] [] (Wd A dT t) 0 0 := by
    intro n
    induction n with
    | zero =>
      intro t sm0 c I F jjAIR jjLSN jjCDJ hq hi hm kx
      exact absurd hm (Nat.not_lt_zero _)
    | succ n ih =>
      intro t sm0 c I F jjAIR jjLSN jjCDJ hq hi hm kx
      have b1001 := bi_22 I
      refine z_load_n X (x := c) rfl (List.Mem.tail _ (List.Mem.tail _ (List.Mem.head _))) (z_aload_n X (x := A 31) rfl (List.Mem.head _) (z_getI X 31 rfl (c518_ok rfl) rfl rfl ?_))
      have b1002 := bi_22 I
      refine z_icmp_ge X (t := 42) rfl rfl ⟨by first | exact oq_fa4e5087 hi.2.1 | omega, by first | exact oq_39d2cc6e hi.2.2.1 b1.2 | omega⟩ (rng_to _) (fun g1003 => ?_) (fun g1003 => ?_)
      ·
        refine WS_pq [0, 1, 2] (lv' := [(0, .ref (A 31)), (1, .int (Int32.ofInt sm0)), (2, .int (Int32.ofInt c))]) rfl ?_
        exact kx _ sm0 c I F jjAIR jjLSN jjCDJ hq (by first | exact ⟨And.intro (oq_fa4e5087 hi.1.1) (oq_a89775b0 hi.1.2 hi.2.2.1 b1.2), oq_dae09544 hi.2.2.1 hi.2.2.2 g1003⟩ | omega)
      ·
        refine z_load_n X (x := sm0) rfl (List.Mem.tail _ (List.Mem.head _)) (z_aload_n X (x := A 31) rfl (List.Mem.head _) (s_getR X 31 rfl (c518_ok rfl) rfl rfl (s_getR X 3 rfl (c518_ok rfl) rfl rfl (z_aload_n X (x := A 31) rfl (List.Mem.head _) (s_getR X 31 rfl (c518_ok rfl) rfl rfl (z_load_n X (x := c) rfl (List.Mem.tail _ (List.Mem.tail _ (List.Mem.head _))) (z_ald X 32 rfl (c518_ok rfl) rfl (by first | exact hi.2.1 | omega) (show c < 12 by first | exact oq_f36e82a8 g1003 b1002.2 | omega) (cbig_ok rfl) ?_)))))))
        have b1004 := bc_26 I (show (c).toNat < 12 by first | exact oq_2dac6850 g1003 b1002.2 | omega)
        refine z_ald X 15 rfl (c518_ok rfl) rfl (by first | exact b1004.1 | omega) (show (iC t 26 (c).toNat) < 12 by first | exact oq_0ddfcfee b1004.2 | omega) (cbig_ok rfl) ?_
        have b1005 := bc_12 I (show ((iC t 26 (c).toNat)).toNat < 12 by first | exact oq_9c5fa447 b1004.2 | omega)
        refine z_aload_n X (x := A 31) rfl (List.Mem.head _) (s_getR X 31 rfl (c518_ok rfl) rfl rfl (z_load_n X (x := c) rfl (List.Mem.tail _ (List.Mem.tail _ (List.Mem.head _))) (z_ald X 34 rfl (c518_ok rfl) rfl (by first | exact hi.2.1 | omega) (show c < 12 by first | exact oq_f36e82a8 g1003 b1002.2 | omega) (cbig_ok rfl) ?_)))
        have b1006 := bc_28 I (show (c).toNat < 12 by first | exact oq_2dac6850 g1003 b1002.2 | omega)
        have hI0 := vss_b jjLSN (i := c) (by omega)
        have hP := mul_bd (show 0 ≤ (iC t 12 ((iC t 26 (c).toNat)).toNat) by omega) (show (iC t 12 ((iC t 26 (c).toNat)).toNat) ≤ 1200 by omega) hI0.1 hI0.2
        refine z_mul X rfl (z_add X rfl (z_store_n X (lv' := [(1, .int (Int32.ofInt (sm0 + ((iC t 12 ((iC t 26 (c).toNat)).toNat) * (iC t 28 (c).toNat))))), (0, .ref (A 31)), (2, .int (Int32.ofInt c))]) rfl (by decide) (fun _ h => h) (z_inc X (x := c) (lv' := [(2, .int (Int32.ofInt (c + 1))), (1, .int (Int32.ofInt (sm0 + ((iC t 12 ((iC t 26 (c).toNat)).toNat) * (iC t 28 (c).toNat))))), (0, .ref (A 31))]) rfl (by decide) (List.Mem.tail _ (List.Mem.tail _ (List.Mem.head _))) (fun _ h => h) (z_goto X (t := 4) rfl rfl (WS_pq [2, 1, 0] (lv' := [(0, .ref (A 31)), (1, .int (Int32.ofInt (sm0 + ((iC t 12 ((iC t 26 (c).toNat)).toNat) * (iC t 28 (c).toNat))))), (2, .int (Int32.ofInt (c + 1)))]) rfl ?_)))))
        exact ih _ (sm0 + ((iC t 12 ((iC t 26 (c).toNat)).toNat) * (iC t 28 (c).toNat))) (c + 1) I F jjAIR jjLSN jjCDJ (kc_up hq (by omega) (by have z : ∀ a j, iC t a j = iC s a j := fun a j => fm_c F List.not_mem_nil; simp only [z])) (by first | exact ⟨by omega, oq_54f49eb5 hi.2.1, oq_8a89b3ae g1003 hi.2.2.2, hi.2.2.2⟩ | omega) (by first | exact qk_me hm (by decide) (oq_b575e8c1 g1003 b1002.2) | omega) kx
  refine z_const X rfl (z_store_n X (lv' := [(1, .int (Int32.ofInt 0)), (0, .ref (A 31))]) rfl (by decide) (fun _ h => h) (z_const X rfl (z_store_n X (lv' := [(2, .int (Int32.ofInt 0)), (1, .int (Int32.ofInt 0)), (0, .ref (A 31))]) rfl (by decide) (fun _ h => h) (WS_pq [2, 1, 0] (lv' := [(0, .ref (A 31)), (1, .int (Int32.ofInt 0)), (2, .int (Int32.ofInt 0))]) rfl (L4 ((12 - 0 : Int).toNat + 1) s 0 0 I F jAIR jLSN jCDJ rfl (by first | exact ⟨And.intro (by decide) (by decide), by decide, b1.1, by decide⟩ | omega) (Nat.lt_succ_self _) ?_)))))
  intro s2 x3 x4 Is2 Fs2 JAIR_s2 JLSN_s2 JCDJ_s2 Qs2 hs2
  have b5 := bi_22 Is2
  refine z_load_n X (x := x3) rfl (List.Mem.tail _ (List.Mem.head _)) ?_
  exact w_iret X.1 q hRt rfl (ax_d X (show cdA 6 43 = some (.ireturn, 1, 0, 0, 0) from rfl)) (Nat.zero_le _) (Nat.zero_le _) ⟨_, rfl, Is2, Fs2, x3, rfl, ⟨by first | exact hs2.1.1 | omega, by first | exact hs2.1.2 | omega⟩, (kc_end jAIR jLSN jCDJ Qs2 (by omega))⟩
set_option maxRecDepth 4000 in
theorem c9_steps3 (G : GX l s0 D tys a0 dT) {U : AirD} (I : Bd s) (jAIR : AIR s) (jCDJ : CDJ U s)  : CT l s0 D A dT 124 (rmN 124) [.ref (A 3)] s (fun o t => Bd t ∧ Fm [] [] s t ∧ ∃ e, o = .inl (some (.int (Int32.ofInt e))) ∧ rng e ∧ (e = sm (fun x => uT U x * ((uW U).2 x - 1)) (uN U))) := by
  refine ct_ofX G (by decide) (Nat.le_of_ble_eq_true rfl) (fun k X E ET hRt hXt q => ?_)
  show WS k 0 [(0, .ref (A 3))] [] _ 0 0
  have F : Fm [] [] s s := fm_rf _ _ s
  have b1 := bi_9 I
  have L4 : ∀ (n : Nat) (t : PS) (sm0 c : Int), Bd t → Fm [] [] s t → AIR t → CDJ U t → (sm0 = sm (fun x => iC s 12 x * (iC s 2 x - 1)) (c : Int).toNat) → ((0 ≤ sm0 ∧ sm0 ≤ 27600 * c) ∧ 0 ≤ c ∧ c ≤ iI s 9 ∧ iI t 9 = iI s 9) → (12 - c : Int).toNat < n → (∀ (t' : PS) (sm0' c' : Int), Bd t' → Fm [] [] s t' → AIR t' → CDJ U t' → (sm0' = sm (fun x => iC s 12 x * (iC s 2 x - 1)) (c' : Int).toNat) → (rng sm0' ∧ c' = iI s 9) → WS k 36 [(0, .ref (A 3)), (1, .int (Int32.ofInt sm0')), (2, .int (Int32.ofInt c'))] [] (Wd A dT t') 0 0) → WS k 4 [(0, .ref (A 3)), (1, .int (Int32.ofInt sm0)), (2, .int (Int32.ofInt c))] [] (Wd A dT t) 0 0 := by
    intro n
    induction n with
    | zero =>
      intro t sm0 c I F jjAIR jjCDJ hq hi hm kx
      exact absurd hm (Nat.not_lt_zero _)
    | succ n ih =>
      intro t sm0 c I F jjAIR jjCDJ hq hi hm kx
      have b1001 := bi_9 I
      refine z_load_n X (x := c) rfl (List.Mem.tail _ (List.Mem.tail _ (List.Mem.head _))) (z_aload_n X (x := A 3) rfl (List.Mem.head _) (z_getI X 3 rfl (c518_ok rfl) rfl rfl ?_))
      have b1002 := bi_9 I
      refine z_icmp_ge X (t := 36) rfl rfl ⟨by first | exact oq_fa4e5087 hi.2.1 | omega, by first | exact oq_39d2cc6e hi.2.2.1 b1.2 | omega⟩ (rng_to _) (fun g1003 => ?_) (fun g1003 => ?_)
      ·
        refine WS_pq [0, 1, 2] (lv' := [(0, .ref (A 3)), (1, .int (Int32.ofInt sm0)), (2, .int (Int32.ofInt c))]) rfl ?_
        exact kx _ sm0 c I F jjAIR jjCDJ hq (by first | exact ⟨And.intro (oq_fa4e5087 hi.1.1) (oq_ab9f450b hi.1.2 hi.2.2.1 b1.2), oq_dae09544 hi.2.2.1 hi.2.2.2 g1003⟩ | omega)
      ·
        refine z_load_n X (x := sm0) rfl (List.Mem.tail _ (List.Mem.head _)) (z_aload_n X (x := A 3) rfl (List.Mem.head _) (s_getR X 3 rfl (c518_ok rfl) rfl rfl (z_load_n X (x := c) rfl (List.Mem.tail _ (List.Mem.tail _ (List.Mem.head _))) (z_ald X 15 rfl (c518_ok rfl) rfl (by first | exact hi.2.1 | omega) (show c < 12 by first | exact oq_f36e82a8 g1003 b1002.2 | omega) (cbig_ok rfl) ?_))))
        have b1004 := bc_12 I (show (c).toNat < 12 by first | exact oq_2dac6850 g1003 b1002.2 | omega)
        refine z_aload_n X (x := A 3) rfl (List.Mem.head _) (s_getR X 3 rfl (c518_ok rfl) rfl rfl (z_load_n X (x := c) rfl (List.Mem.tail _ (List.Mem.tail _ (List.Mem.head _))) (z_ald X 5 rfl (c518_ok rfl) rfl (by first | exact hi.2.1 | omega) (show c < 12 by first | exact oq_f36e82a8 g1003 b1002.2 | omega) (cbig_ok rfl) ?_)))
        have b1005 := bc_2 I (show (c).toNat < 12 by first | exact oq_2dac6850 g1003 b1002.2 | omega)
        refine z_const X rfl (z_sub X rfl ?_)
        have hS0 := siz_r jjAIR (x := c) (by omega)
        have hP := mul_bd (show 0 ≤ (iC t 12 (c).toNat) by omega) (show (iC t 12 (c).toNat) ≤ 1200 by omega) (show 0 ≤ ((iC t 2 (c).toNat) - 1) by omega) (show ((iC t 2 (c).toNat) - 1) ≤ 23 by omega)
        refine z_mul X rfl (z_add X rfl (z_store_n X (lv' := [(1, .int (Int32.ofInt (sm0 + ((iC t 12 (c).toNat) * ((iC t 2 (c).toNat) - 1))))), (0, .ref (A 3)), (2, .int (Int32.ofInt c))]) rfl (by decide) (fun _ h => h) (z_inc X (x := c) (lv' := [(2, .int (Int32.ofInt (c + 1))), (1, .int (Int32.ofInt (sm0 + ((iC t 12 (c).toNat) * ((iC t 2 (c).toNat) - 1))))), (0, .ref (A 3))]) rfl (by decide) (List.Mem.tail _ (List.Mem.tail _ (List.Mem.head _))) (fun _ h => h) (z_goto X (t := 4) rfl rfl (WS_pq [2, 1, 0] (lv' := [(0, .ref (A 3)), (1, .int (Int32.ofInt (sm0 + ((iC t 12 (c).toNat) * ((iC t 2 (c).toNat) - 1))))), (2, .int (Int32.ofInt (c + 1)))]) rfl ?_)))))
        exact ih _ (sm0 + ((iC t 12 (c).toNat) * ((iC t 2 (c).toNat) - 1))) (c + 1) I F jjAIR jjCDJ (cs_up hq (by omega) (by have z : ∀ a j, iC t a j = iC s a j := fun a j => fm_c F List.not_mem_nil; simp only [z])) (by first | exact ⟨by omega, oq_54f49eb5 hi.2.1, oq_8a89b3ae g1003 hi.2.2.2, hi.2.2.2⟩ | omega) (by first | exact qk_me hm (by decide) (oq_b575e8c1 g1003 b1002.2) | omega) kx
  refine z_const X rfl (z_store_n X (lv' := [(1, .int (Int32.ofInt 0)), (0, .ref (A 3))]) rfl (by decide) (fun _ h => h) (z_const X rfl (z_store_n X (lv' := [(2, .int (Int32.ofInt 0)), (1, .int (Int32.ofInt 0)), (0, .ref (A 3))]) rfl (by decide) (fun _ h => h) (WS_pq [2, 1, 0] (lv' := [(0, .ref (A 3)), (1, .int (Int32.ofInt 0)), (2, .int (Int32.ofInt 0))]) rfl (L4 ((12 - 0 : Int).toNat + 1) s 0 0 I F jAIR jCDJ rfl (by first | exact ⟨And.intro (by decide) (by decide), by decide, b1.1, by decide⟩ | omega) (Nat.lt_succ_self _) ?_)))))
  intro s2 x3 x4 Is2 Fs2 JAIR_s2 JCDJ_s2 Qs2 hs2
  have b5 := bi_9 Is2
  refine z_load_n X (x := x3) rfl (List.Mem.tail _ (List.Mem.head _)) ?_
  exact w_iret X.1 q hRt rfl (ax_d X (show cdA 124 37 = some (.ireturn, 1, 0, 0, 0) from rfl)) (Nat.zero_le _) (Nat.zero_le _) ⟨_, rfl, Is2, Fs2, x3, rfl, ⟨by first | exact hs2.1.1 | omega, by first | exact hs2.1.2 | omega⟩, (cs_end jCDJ Qs2 (by omega))⟩
end M87t
