
theorem oq_e72f9ac6 {a0 a1 a2 : Int} (h0 : a0 < a1) (h1 : a2 ≤ 23) (h2 : a1 ≤ 12) : ((a2 * 12) + a0) < 288 := by sorry
theorem oq_491502f9 {a0 a1 a2 : Int} (h0 : a0 < a1) (h1 : a2 ≤ 23) (h2 : a1 ≤ 12) : (((a2 * 12) + a0) : Int).toNat < 288 := by sorry
theorem oq_5db125fc {a0 a1 : Int} (h0 : a0 ≤ 128) (h1 : a1 ≤ a0) (h2 : a1 = 128) : a0 = 128 := by sorry
theorem oq_58560895 {a0 a1 : Int} (h0 : a0 = a1) (h1 : a1 ≤ 0) : a0 ≤ 2147483647 := by sorry
theorem oq_5f03d490 {a0 a1 : Int} (h0 : a0 ≤ 256) (h1 : a1 ≤ a0) (h2 : a1 = 256) : a0 = 256 := by sorry
theorem oq_470daf75 {a0 a1 : Int} (h0 : a0 < a1) (h1 : a1 < 128) : a0 < 128 := by sorry
theorem oq_ab4b2f96 {a0 a1 : Int} (h0 : a0 < a1) (h1 : a1 < 128) : (a0 : Int).toNat < 128 := by sorry
theorem oq_09968445 {a0 a1 : Int} (h0 : a0 ≤ 128) (h1 : 128 ≤ a1) : a0 ≤ a1 := by sorry
theorem oq_136d8cda {a0 a1 : Int} (h0 : a0 ≤ 6) (h1 : a1 ≤ a0) (h2 : a1 = 6) : a0 = 6 := by sorry
theorem oq_321c4dd9 {a0 a1 : Int} (h0 : a0 = a1) (h1 : a1 ≤ 127) : (a0 : Int).toNat < 128 := by sorry
theorem oq_070e7ed6 {a0 : Int} (h0 : a0 ≤ 2147483647) : (a0 - 1) ≤ 2147483647 := by sorry
theorem oq_18c99822 {a0 a1 : Int} (h0 : a0 < a1) (h1 : a1 ≤ 24) : (a0 - 1) < 24 := by sorry
theorem oq_ff658a24 {a0 a1 : Int} (h0 : a0 < a1) (h1 : a1 ≤ 24) : ((a0 - 1) : Int).toNat < 24 := by sorry
theorem oq_e28f6910 {a0 : Int} (h0 : 1 ≤ (a0 + 1)) : (-2147483648) ≤ (a0 + 1) := by sorry
theorem oq_0f81f41a {a0 : Int} (h0 : (a0 + 1) ≤ 24) : (a0 + 1) ≤ 2147483647 := by sorry
theorem oq_e7b5297c {a0 : Int} (h0 : 1 ≤ (a0 + 1)) : 0 ≤ (a0 + 1) := by sorry
/-! Rotas: sets of pairs as bits, who is chosen, the run over the quarters -/
/-! A small region parted exactly: the search over all partings, as a function of what each set of cells hears -/
/-- powers of two -/
def pwI : Nat → Int
  | 0 => 1
  | k + 1 => 2 * pwI k
theorem pwi_1 : ∀ k : Nat, 1 ≤ pwI k := by sorry
theorem pwi_8 : ∀ n : Nat, n < 9 → pwI n ≤ 256 := by sorry
theorem pwi_sh : ∀ n : Nat, n < 9 → (Int32.ofInt 1 <<< (Int32.ofInt (n : Int) &&& 31)).toInt = pwI n := by sorry
theorem shl_pw {n v : Int} (n0 : 0 ≤ n ∧ n ≤ 8) (h : Int32.ofInt v = Int32.ofInt 1 <<< (Int32.ofInt n &&& 31)) (r : rng v) : v = pwI n.toNat := by sorry
/-- the mask of a heap: the cells below k that stand in it -/
def msI (h : Nat → Int) (g : Int) : Nat → Int
  | 0 => 0
  | k + 1 => msI h g k + (if h k = g then pwI k else 0)
theorem msi_y {h : Nat → Int} {g : Int} {k : Nat} (e : h k = g) : msI h g (k + 1) = msI h g k + pwI k := by sorry
theorem msi_n {h : Nat → Int} {g : Int} {k : Nat} (e : h k ≠ g) : msI h g (k + 1) = msI h g k := by sorry
theorem msi_b (h : Nat → Int) (g : Int) : ∀ k : Nat, 0 ≤ msI h g k ∧ msI h g k < pwI k := by sorry
theorem msi_c {h h' : Nat → Int} {g : Int} : ∀ k : Nat, (∀ j, j < k → h j = h' j) → msI h g k = msI h' g k := by sorry
theorem msi_1 {h : Nat → Int} {g : Int} {j : Nat} (e : h j = g) : ∀ k : Nat, j < k → 1 ≤ msI h g k := by sorry
theorem msi_or : ∀ k : Nat, k < 8 → ∀ m : Nat, m < 256 → (m : Int) < pwI k → (Int32.ofInt (m : Int) ||| (Int32.ofInt 1 <<< (Int32.ofInt (k : Int) &&& 31))).toInt = (m : Int) + pwI k := by sorry
theorem msi_an : ∀ k : Nat, k < 8 → ∀ m : Nat, m < 256 → (m : Int) < pwI k → (Int32.ofInt ((m : Int) + pwI k) &&& ((Int32.ofInt 1 <<< (Int32.ofInt (k : Int) &&& 31)) ^^^ Int32.ofInt (-1))).toInt = (m : Int) := by sorry
theorem ms_put {m k y z : Int} (k0 : 0 ≤ k ∧ k ≤ 7) (m0 : 0 ≤ m ∧ m < pwI k.toNat) (h1 : Int32.ofInt y = Int32.ofInt 1 <<< (Int32.ofInt k &&& 31)) (h2 : Int32.ofInt z = Int32.ofInt m ||| Int32.ofInt y) (r : rng z) : z = m + pwI k.toNat := by sorry
theorem ms_del {m k w x y z : Int} (k0 : 0 ≤ k ∧ k ≤ 7) (m0 : 0 ≤ m ∧ m < pwI k.toNat) (hw : w = m + pwI k.toNat) (h1 : Int32.ofInt y = Int32.ofInt 1 <<< (Int32.ofInt k &&& 31)) (h2 : Int32.ofInt x = Int32.ofInt y ^^^ Int32.ofInt (-1)) (h3 : Int32.ofInt z = Int32.ofInt w &&& Int32.ofInt x) (r : rng z) : z = m := by sorry
theorem or_z8 {m z : Int} (h : Int32.ofInt z = Int32.ofInt m ||| Int32.ofInt 0) (r : rng z) (hm : rng m) : z = m := by sorry
def trH (h : Nat → Int) (n : Nat) : Nat → Int := fun j => if j < n then h j else 0
def upH (h : Nat → Int) (k : Nat) (g : Int) : Nat → Int := fun j => if j = k then g else h j
theorem fl8_up {a : Nat} {f : Nat → Int} {n v : Int} {t u : PS} (h : ∀ j : Nat, (j : Int) < n → iC t a j = f j) (n0 : 0 ≤ n) (hu : UPD a n v t u) (hv : v = f n.toNat) : ∀ j : Nat, (j : Int) < n + 1 → iC u a j = f j := by sorry
/-! Storms: the spreading from a cell, the way back, the mends tried one behind the other -/
noncomputable def pickQ {α : Type} (P : Prop) (x y : α) : α := @ite α P (Classical.propDecidable P) x y
theorem piq_y {α : Type} {P : Prop} {x y : α} (h : P) : pickQ P x y = x := by sorry
theorem piq_n {α : Type} {P : Prop} {x y : α} (h : ¬ P) : pickQ P x y = y := by sorry
/-- far, queue, how many -/
abbrev BfT : Type := (Nat → Int) × (Nat → Int) × Nat
def stCq (S : Int → Prop) (σ : BfT) (d : Int) : Prop := d ≠ -1 ∧ σ.1 d.toNat = -1 ∧ ¬ S d ∧ σ.2.2 < 128
def bfP (σ : BfT) (x d : Int) : BfT := (fun c => if c = d.toNat then σ.1 x.toNat + 1 else σ.1 c, fun j => if j = σ.2.2 then d else σ.2.1 j, σ.2.2 + 1)
noncomputable def bfS (S : Int → Prop) (σ : BfT) (h : Nat) (g : Int) : BfT := pickQ (stCq S σ (besT (σ.2.1 h) g)) (bfP σ (σ.2.1 h) (besT (σ.2.1 h) g)) σ
def bf0 (b : Int) : BfT := (fun c => if c = b.toNat then 0 else -1, fun j => if j = 0 then b else 0, 1)
noncomputable def bfN (S : Int → Prop) (b : Int) : Nat → BfT
  | 0 => bf0 b
  | k + 1 => bfS S (bfN S b k) (k / 6) ((k % 6 : Nat) : Int)
theorem bfn_up {S : Int → Prop} {b : Int} {h g : Int} (h0 : 0 ≤ h) (g0 : 0 ≤ g ∧ g ≤ 5) : bfN S b (6 * h + (g + 1)).toNat = bfS S (bfN S b (6 * h + g).toNat) h.toNat g := by sorry
/-- the same spreading in two rows -/
def BFQ (a q : Nat) (σ : BfT) (n : Int) (t : PS) : Prop := (∀ c : Nat, c < 128 → iC t a c = σ.1 c) ∧ (∀ j : Nat, j < σ.2.2 → iC t q j = σ.2.1 j) ∧ n = (σ.2.2 : Int)
theorem bfq_s {a q : Nat} {σ : BfT} {n : Int} {s t : PS} (h : BFQ a q σ n s) (h1 : SAM a s t) (h2 : SAM q s t) : BFQ a q σ n t := by sorry
theorem bfq_0 {a q : Nat} {b : Int} {t : PS} (b0 : 0 ≤ b ∧ b ≤ 127) (h1 : ∀ c : Nat, c < 128 → iC t a c = if c = b.toNat then 0 else -1) (h2 : iC t q 0 = b) : BFQ a q (bf0 b) 1 t := by sorry
theorem bfq_n {a q : Nat} {S : Int → Prop} {σ : BfT} {n h g d : Int} {t : PS} (r : BFQ a q σ n t) (h0 : 0 ≤ h ∧ h < n) (hd : d = besT (iC t q h.toNat) g) (hn : d = -1 ∨ (0 ≤ d ∧ d ≤ 127 ∧ (iC t a d.toNat ≠ -1 ∨ S d ∨ 128 ≤ n))) : BFQ a q (bfS S σ h.toNat g) n t := by sorry
theorem bfq_y {a q : Nat} {S : Int → Prop} {σ : BfT} {n h g d v : Int} {t u : PS} (r : BFQ a q σ n t) (h0 : 0 ≤ h ∧ h < n) (hd : d = besT (iC t q h.toNat) g) (d0 : 0 ≤ d ∧ d ≤ 127) (hf : iC t a d.toNat = -1) (hS : ¬ S d) (n1 : n < 128) (hx : 0 ≤ iC t q h.toNat ∧ iC t q h.toNat ≤ 127) (hv : v = iC t a (iC t q h.toNat).toNat + 1) (h1 : UPD a d v t u) (h2 : UPD q n d t u) : BFQ a q (bfS S σ h.toNat g) (n + 1) u := by sorry
/-- what stands in a spreading -/
def BFI (S : Int → Prop) (σ : BfT) : Prop := (∀ c : Nat, c < 128 → σ.1 c ≠ -1 → ¬ S (c : Int) ∧ 0 ≤ σ.1 c) ∧ (∀ c : Nat, c < 128 → 1 ≤ σ.1 c → ∃ e : Int, adjT (c : Int) e ∧ σ.1 e.toNat = σ.1 c - 1) ∧ (∀ j : Nat, j < σ.2.2 → (0 ≤ σ.2.1 j ∧ σ.2.1 j ≤ 127) ∧ σ.1 (σ.2.1 j).toNat ≠ -1) ∧ (∀ c : Nat, c < 128 → σ.1 c < (σ.2.2 : Int)) ∧ σ.2.2 ≤ 128
theorem bfi_0 {S : Int → Prop} {b : Int} (b0 : 0 ≤ b ∧ b ≤ 127) (hb : ¬ S b) : BFI S (bf0 b) := by sorry
theorem bes_r {x g : Int} (x0 : 0 ≤ x ∧ x ≤ 127) (g0 : 0 ≤ g ∧ g ≤ 5) (h : besT x g ≠ -1) : 0 ≤ besT x g ∧ besT x g ≤ 127 := by sorry
theorem bfi_up {S : Int → Prop} {σ : BfT} {h : Nat} {g : Int} (r : BFI S σ) (hh : h < σ.2.2) (g0 : 0 ≤ g ∧ g ≤ 5) : BFI S (bfS S σ h g) := by sorry
/-- the spreading has come to its end -/
def BFW (S : Int → Prop) (b : Int) (h : Int) : Prop := ∀ i : Nat, (i : Int) < h → i < (bfN S b (6 * i)).2.2
theorem bfw_0 {S : Int → Prop} {b : Int} : BFW S b 0 := by sorry
theorem bfw_up {S : Int → Prop} {b h n : Int} (w : BFW S b h) (h0 : 0 ≤ h) (hn : n = ((bfN S b (6 * h + 0).toNat).2.2 : Int)) (hh : h < n) : BFW S b (h + 1) := by sorry
def BFE (S : Int → Prop) (b : Int) (σ : BfT) : Prop := ∃ h : Nat, σ = bfN S b (6 * h) ∧ σ.2.2 ≤ h ∧ BFW S b (h : Int)
theorem bfe_of {S : Int → Prop} {b h n : Int} {σ : BfT} (w : BFW S b h) (h0 : 0 ≤ h) (e : σ = bfN S b (6 * h + 0).toNat) (hn : n = (σ.2.2 : Int)) (hh : n ≤ h) : BFE S b σ := by sorry
theorem bfe_un {S : Int → Prop} {b : Int} {σ σ' : BfT} (a : BFE S b σ) (a' : BFE S b σ') : σ = σ' := by sorry
/-- the next cell of the way back: the least of those that are nearer -/
def NRP (fr : Nat → Int) (c e : Int) : Prop := adjT c e ∧ fr e.toNat = fr c.toNat - 1 ∧ ∀ d : Int, adjT c d → fr d.toNat = fr c.toNat - 1 → e ≤ d
theorem nrp_un {fr : Nat → Int} {c e e' : Int} (h : NRP fr c e) (h' : NRP fr c e') : e = e' := by sorry
def PTS (fr : Nat → Int) (a : Int) (p : Nat → Int) (n : Int) : Prop := p 0 = a ∧ ∀ k : Nat, (k : Int) + 1 < n → NRP fr (p k) (p (k + 1))
theorem pts_un {fr : Nat → Int} {a n : Int} {p p' : Nat → Int} (h : PTS fr a p n) (h' : PTS fr a p' n) : ∀ k : Nat, (k : Int) < n → p k = p' k := by sorry
theorem pts_fr {fr : Nat → Int} {a n : Int} {p : Nat → Int} (h : PTS fr a p n) (ha : fr a.toNat = n - 1) : ∀ k : Nat, (k : Int) < n → fr (p k).toNat = n - 1 - (k : Int) := by sorry
theorem pts_r {fr : Nat → Int} {a n : Int} {p : Nat → Int} (h : PTS fr a p n) (a0 : 0 ≤ a ∧ a ≤ 127) : ∀ k : Nat, (k : Int) < n → 0 ≤ p k ∧ p k ≤ 127 := by sorry
theorem pts_wok {fr : Nat → Int} {a n : Int} {p : Nat → Int} (h : PTS fr a p n) (ha : fr a.toNat = n - 1) (a0 : 0 ≤ a ∧ a ≤ 127) (n0 : 1 ≤ n ∧ n ≤ 24) : WOK p n := by sorry
theorem pts_c {fr : Nat → Int} {a n : Int} {p p' : Nat → Int} (h : PTS fr a p n) (n1 : 1 ≤ n) (e : ∀ k : Nat, (k : Int) < n → p' k = p k) : PTS fr a p' n := by sorry
/-- the way round a storm: how many cells (0: none), which -/
def RNR (S : Int → Prop) (a b z : Int) (p : Nat → Int) : Prop := (z = 0 ∧ (S a ∨ S b ∨ ∃ σ, BFE S b σ ∧ (σ.1 a.toNat < 0 ∨ 23 < σ.1 a.toNat))) ∨ ((1 ≤ z ∧ z ≤ 24) ∧ (¬ S a ∧ ¬ S b) ∧ ∃ σ, BFE S b σ ∧ σ.1 a.toNat = z - 1 ∧ PTS σ.1 a p z)
theorem rnr_un {S : Int → Prop} {a b z z' : Int} {p p' : Nat → Int} (h : RNR S a b z p) (h' : RNR S a b z' p') : z = z' ∧ ∀ k : Nat, (k : Int) < z → p k = p' k := by sorry
theorem rnr_wok {S : Int → Prop} {a b z : Int} {p : Nat → Int} (h : RNR S a b z p) (a0 : 0 ≤ a ∧ a ≤ 127) (z0 : z ≠ 0) : WOK p z := by sorry
theorem rnr_c {S : Int → Prop} {a b z : Int} {p p' : Nat → Int} (h : RNR S a b z p) (e : ∀ k : Nat, (k : Int) < z → p' k = p k) : RNR S a b z p' := by sorry
/-- ways count only where somebody flies them -/
def WyZ (n : Nat) (mo : Nat → Int) (w w' : WyS) : Prop := ∀ x, x < n → 0 ≤ mo x ∧ (mo x ≠ 0 → w.2 x = w'.2 x ∧ ∀ k : Nat, (k : Int) < w.2 x → w.1 x k = w'.1 x k)
theorem wa_z {S : Int → Prop} {w w' : WyS} {mo : Nat → Int} {n : Nat} (h : WyZ n mo w w') : waH S w mo n = waH S w' mo n := by sorry
theorem oa_z {S : Int → Prop} {w w' : WyS} {mo : Nat → Int} {n : Nat} (h : WyZ n mo w w') : oaH S w mo n = oaH S w' mo n := by sorry
theorem ca_z {S : Int → Prop} {w w' : WyS} {mo : Nat → Int} {n : Nat} (h : WyZ n mo w w') : caH S w mo n = caH S w' mo n := by sorry
theorem cr_z {S : Int → Prop} {w w' : WyS} {mo : Nat → Int} {n : Nat} (h : WyZ n mo w w') : crH S w mo n = crH S w' mo n := by sorry
theorem nmh_z {S : Int → Prop} {w w' : WyS} {mo : Nat → Int} {n : Nat} {pc : Int} (h : WyZ n mo w w') : nmH S w mo n pc = nmH S w' mo n pc := by sorry
/-- the streams that are hit, one behind the other -/
noncomputable def cHt (P : Nat → Prop) : Nat → Nat
  | 0 => 0
  | n + 1 => pickQ (P n) (cHt P n + 1) (cHt P n)
theorem cht_y {P : Nat → Prop} {n : Nat} (h : P n) : cHt P (n + 1) = cHt P n + 1 := by sorry
theorem cht_n {P : Nat → Prop} {n : Nat} (h : ¬ P n) : cHt P (n + 1) = cHt P n := by sorry
theorem cht_le {P : Nat → Prop} {m : Nat} : ∀ {n : Nat}, m ≤ n → cHt P m ≤ cHt P n := by sorry
theorem cht_lt {P : Nat → Prop} {m n : Nat} (h : m < n) (p : P m) : cHt P m < cHt P n := by sorry
theorem cht_n' {P : Nat → Prop} : ∀ n : Nat, cHt P n ≤ n := by sorry
theorem cht_at {P : Nat → Prop} {j : Nat} : ∀ {n : Nat}, j < cHt P n → ∃ s, s < n ∧ P s ∧ cHt P s = j := by sorry
theorem cht_inj {P : Nat → Prop} {m n : Nat} (hm : P m) (hn : P n) (e : cHt P m = cHt P n) : m = n := by sorry
/-- a row of the streams that are hit -/
def HTQ (P : Nat → Prop) (n : Nat) (f : Nat → Int) : Prop := ∀ s : Nat, s < n → P s → f (cHt P s) = (s : Int)
theorem htq_up {P : Nat → Prop} {n : Nat} {f f' : Nat → Int} (h : HTQ P n f) (e : ∀ j, j < cHt P n → f' j = f j) (hn : P n → f' (cHt P n) = (n : Int)) : HTQ P (n + 1) f' := by sorry
theorem htq_at {P : Nat → Prop} {n j : Nat} {f : Nat → Int} (h : HTQ P n f) (hj : j < cHt P n) : ∃ s, s < n ∧ P s ∧ cHt P s = j ∧ f j = (s : Int) := by sorry
theorem htq_un {P : Nat → Prop} {n : Nat} {f f' : Nat → Int} (h : HTQ P n f) (h' : HTQ P n f') : ∀ j, j < cHt P n → f j = f' j := by sorry
/-- the hit ones as bits -/
noncomputable def hbW (P : Nat → Prop) : Nat → Int32
  | 0 => Int32.ofInt 0
  | s + 1 => pickQ (P s) (hbW P s ||| (Int32.ofInt 1 <<< (Int32.ofInt (s : Int) &&& 31))) (hbW P s)
theorem hbw_y {P : Nat → Prop} {s : Nat} (h : P s) : hbW P (s + 1) = hbW P s ||| (Int32.ofInt 1 <<< (Int32.ofInt (s : Int) &&& 31)) := by sorry
theorem hbw_n {P : Nat → Prop} {s : Nat} (h : ¬ P s) : hbW P (s + 1) = hbW P s := by sorry
theorem bt_1s : ∀ n : Nat, n < 12 → ∀ p : Nat, p < 12 → bT (Int32.ofInt 1 <<< (Int32.ofInt (n : Int) &&& 31)) p = decide (p = n) := by sorry
theorem hbw_b {P : Nat → Prop} {p : Nat} (hp : p < 12) : ∀ n : Nat, n ≤ 12 → (bT (hbW P n) p = true ↔ p < n ∧ P p) := by sorry
/-- the bits of a mask of heaps -/
theorem msi_bt {h : Nat → Int} {g : Int} {p : Nat} (hp : p < 8) : ∀ n : Nat, n ≤ 8 → (bT (Int32.ofInt (msI h g n)) p = true ↔ p < n ∧ h p = g) := by sorry
/-- the mends, tried one behind the other -/
abbrev MdO : Type := Option (Int × (Nat → Int))
def lsB : MdO → Int → Prop
  | none, _ => True
  | some b, m => m < b.1
noncomputable def apB (c : Prop) (f : MdO → MdO) (B : MdO) : MdO := pickQ c (f B) B
noncomputable def trB (mo rd : Nat → Int) (ft : Int → Prop) (n : Nat) : Nat → (Nat → Int) → Int → Int → Int → MdO → MdO
  | 0, h, m, _, _, B => pickQ (lsB B m ∧ ft (msI h 1 n)) (some (m, trH h n)) B
  | r + 1, h, m, a, b, B => pickQ (lsB B m) (apB (0 < b) (fun C => trB mo rd ft n r (upH h (n - (r + 1)) 3) (m + 60 * mo (n - (r + 1))) a (b - 1) C) (apB (0 < a) (fun C => trB mo rd ft n r (upH h (n - (r + 1)) 2) (m + 15 * mo (n - (r + 1))) (a - 1) b C) (apB (rd (n - (r + 1)) ≠ -1) (fun C => trB mo rd ft n r (upH h (n - (r + 1)) 1) (m + rd (n - (r + 1))) a b C) B))) B
theorem trb_c {mo rd mo' rd' : Nat → Int} {ft : Int → Prop} {n : Nat} (em : ∀ i, i < n → mo i = mo' i ∧ rd i = rd' i) : ∀ (r : Nat) {h h' : Nat → Int} {m a b : Int} {B : MdO}, r ≤ n → (∀ j, j < n - r → h j = h' j) → trB mo rd ft n r h m a b B = trB mo' rd' ft n r h' m a b B := by sorry
/-! The class in a storm -/
/-- the cells that are shut, by the class's longs -/
def stS (s : PS) (c : Int) : Prop := (0 ≤ c ∧ c ≤ 127) ∧ SB c s
theorem sts_s {s t : PS} (h : SBS s t) : stS t = stS s := by sorry
theorem inl_sb {s : PS} : inL (gJ s 0) (gJ s 1) = stS s := by sorry
/-- a stream is hit -/
def hitP (U : AirD) (S : Int → Prop) (q : Nat) (x : Nat) : Prop := viH S ((uW U).1 x) ((uW U).2 x) ∧ 0 < uM U q x
theorem vis_hit {U : AirD} {s : PS} (a : AIR s) (d : CDJ U s) {c : Int} (c0 : 0 ≤ c ∧ c < iI s 9) : (gD s 3 (c * 2).toNat &&& gJ s 0) ||| (gD s 3 (c * 2 + 1).toNat &&& gJ s 1) ≠ 0 ↔ viH (stS s) ((uW U).1 c.toNat) ((uW U).2 c.toNat) := by sorry
theorem ms_o12 {e y z p : Int} (e0 : 0 ≤ e ∧ e ≤ 4095) (p0 : 0 ≤ p ∧ p ≤ 11) (h1 : Int32.ofInt y = Int32.ofInt 1 <<< (Int32.ofInt p &&& 31)) (hy : rng y) (h2 : Int32.ofInt z = Int32.ofInt e ||| Int32.ofInt y) (r : rng z) : (0 ≤ z ∧ z ≤ 4095) ∧ Int32.ofInt z = Int32.ofInt e ||| (Int32.ofInt 1 <<< (Int32.ofInt p &&& 31)) := by sorry
/-- the hit ones, as far as c -/
def FHQ (P : Nat → Prop) (c : Int) (t : PS) : Prop := iI t 41 = (cHt P c.toNat : Int) ∧ Int32.ofInt (iI t 40) = hbW P c.toNat ∧ HTQ P c.toNat (fun j => iC t 72 j)
theorem fhq_0 {P : Nat → Prop} {t : PS} (h1 : iI t 41 = 0) (h2 : iI t 40 = 0) : FHQ P 0 t := by sorry
theorem fhq_n {P : Nat → Prop} {c : Int} {t : PS} (h : FHQ P c t) (c0 : 0 ≤ c) (hn : ¬ P c.toNat) : FHQ P (c + 1) t := by sorry
theorem fhq_y {P : Nat → Prop} {c z : Int} {t u : PS} (h : FHQ P c t) (c0 : 0 ≤ c) (hp : P c.toNat) (hz : Int32.ofInt z = Int32.ofInt (iI t 40) ||| (Int32.ofInt 1 <<< (Int32.ofInt c &&& 31))) (e1 : iI u 40 = z) (e2 : iI u 41 = iI t 41 + 1) (hu : UPD 72 (iI t 41) c t u) : FHQ P (c + 1) u := by sorry
/-- the spreading in the class's rows -/
def SPQ (S : Int → Prop) (b h g n : Int) (t : PS) : Prop := BFQ 77 78 (bfN S b (6 * h + g).toNat) n t ∧ BFI S (bfN S b (6 * h + g).toNat) ∧ BFW S b h
theorem spq_0 {S : Int → Prop} {b : Int} {s t : PS} (b0 : 0 ≤ b ∧ b ≤ 127) (hb : ¬ S b) (h1 : ∀ c : Nat, c < 128 → iC s 77 c = -1) (h2 : UPD 77 b 0 s t) (h3 : iC t 78 0 = b) : SPQ S b 0 0 1 t := by sorry
theorem spq_in {S : Int → Prop} {b h n : Int} {t : PS} (q : SPQ S b h 0 n t) : SPQ S b h 0 n t := by sorry
theorem spq_n {S : Int → Prop} {b h g n d : Int} {t : PS} (q : SPQ S b h g n t) (h0 : 0 ≤ h ∧ h < n) (g0 : 0 ≤ g ∧ g ≤ 5) (hd : d = besT (iC t 78 h.toNat) g) (hn : d = -1 ∨ (0 ≤ d ∧ d ≤ 127 ∧ (iC t 77 d.toNat ≠ -1 ∨ S d ∨ 128 ≤ n))) : SPQ S b h (g + 1) n t := by sorry
theorem spq_y {S : Int → Prop} {b h g n d v : Int} {t u : PS} (q : SPQ S b h g n t) (h0 : 0 ≤ h ∧ h < n) (g0 : 0 ≤ g ∧ g ≤ 5) (hd : d = besT (iC t 78 h.toNat) g) (d0 : 0 ≤ d ∧ d ≤ 127) (hf : iC t 77 d.toNat = -1) (hS : ¬ S d) (n1 : n < 128) (hx : 0 ≤ iC t 78 h.toNat ∧ iC t 78 h.toNat ≤ 127) (hv : v = iC t 77 (iC t 78 h.toNat).toNat + 1) (h1 : UPD 77 d v t u) (h2 : UPD 78 n d t u) : SPQ S b h (g + 1) (n + 1) u := by sorry
theorem spq_f {S : Int → Prop} {b h g n : Int} {t : PS} (q : SPQ S b h g n t) (h0 : 0 ≤ h ∧ h < n) : (iC t 77 (iC t 78 h.toNat).toNat ≤ 127 ∧ 0 ≤ iC t 77 (iC t 78 h.toNat).toNat) ∧ n ≤ 128 := by sorry
theorem spq_nx {S : Int → Prop} {b h n m : Int} {t : PS} (q : SPQ S b h 6 n t) (h0 : 0 ≤ h) (hm : m = ((bfN S b (6 * h + 0).toNat).2.2 : Int)) (hh : h < m) : SPQ S b (h + 1) 0 n t := by sorry
/-- far from b: what the spreading leaves -/
def FRE8 (S : Int → Prop) (b : Int) (t : PS) : Prop := ∃ σ, BFE S b σ ∧ BFI S σ ∧ ∀ c : Nat, c < 128 → iC t 77 c = σ.1 c
theorem fre_of {S : Int → Prop} {b h n : Int} {t : PS} (q : SPQ S b h 0 n t) (h0 : 0 ≤ h) (hh : n ≤ h) : FRE8 S b t := by sorry
/-- the steps by which the cells beside one rise -/
def risF (i : Int) : Int := if i = 0 then 5 else if i = 1 then 3 else if i = 2 then 1 else if i = 3 then 0 else if i = 4 then 2 else 4
theorem ris_r {i : Int} : 0 ≤ risF i ∧ risF i ≤ 5 := by sorry
theorem ris_on {d : Int} (h : 0 ≤ d ∧ d ≤ 5) : ∃ i : Int, 0 ≤ i ∧ i ≤ 5 ∧ risF i = d := by sorry
theorem ris_v {x i : Int} (i0 : 0 ≤ i ∧ i ≤ 5) (h : besT x (risF i) ≠ -1) : besT x (risF i) = x + (if i = 0 then -64 else if i = 1 then -8 else if i = 2 then -1 else if i = 3 then 1 else if i = 4 then 8 else 64) := by sorry
theorem ris_le {x i j : Int} (i0 : 0 ≤ i) (ij : i ≤ j) (j0 : j ≤ 5) (hi : besT x (risF i) ≠ -1) (hj : besT x (risF j) ≠ -1) : besT x (risF i) ≤ besT x (risF j) := by sorry
def NRN (fr : Nat → Int) (x c : Int) : Prop := ∀ i : Int, 0 ≤ i → i < c → besT x (risF i) ≠ -1 → fr (besT x (risF i)).toNat ≠ fr x.toNat - 1
theorem nrn_0 {fr : Nat → Int} {x : Int} : NRN fr x 0 := by sorry
theorem nrn_up {fr : Nat → Int} {x c d : Int} (h : NRN fr x c) (hd : d = besT x (risF c)) (hn : d = -1 ∨ fr d.toNat ≠ fr x.toNat - 1) : NRN fr x (c + 1) := by sorry
theorem nrp_of {fr : Nat → Int} {x c d : Int} (h : NRN fr x c) (c0 : 0 ≤ c ∧ c ≤ 5) (hd : d = besT x (risF c)) (d1 : d ≠ -1) (hf : fr d.toNat = fr x.toNat - 1) : NRP fr x d := by sorry
theorem nrn_no {fr : Nat → Int} {x : Int} (h : NRN fr x 6) (w : ∃ e : Int, adjT x e ∧ fr e.toNat = fr x.toNat - 1) : False := by sorry
theorem nrp_c {fr fr' : Nat → Int} {x d : Int} (h : NRP fr x d) (x0 : 0 ≤ x ∧ x ≤ 127) (e : ∀ c : Nat, c < 128 → fr c = fr' c) : NRP fr' x d := by sorry
/-- the way back, cell by cell -/
def FRQ (S : Int → Prop) (a b n c : Int) (t : PS) : Prop := ∃ σ, BFE S b σ ∧ BFI S σ ∧ (∀ c : Nat, c < 128 → iC t 77 c = σ.1 c) ∧ σ.1 a.toNat = n - 1 ∧ PTS σ.1 a (fun k => iC t 79 k) c
theorem frq_0 {S : Int → Prop} {a b n : Int} {t u : PS} (h : FRE8 S b t) (a0 : 0 ≤ a ∧ a ≤ 127) (hn : iC t 77 a.toNat = n - 1) (h1 : SAM 77 t u) (h2 : iC u 79 0 = a) : FRQ S a b n 1 u := by sorry
theorem frq_ex {S : Int → Prop} {a b n c : Int} {t : PS} (h : FRQ S a b n c t) (a0 : 0 ≤ a ∧ a ≤ 127) (c0 : 1 ≤ c ∧ c < n) : ∃ e : Int, adjT (iC t 79 (c - 1).toNat) e ∧ (fun c => iC t 77 c) e.toNat = (fun c => iC t 77 c) (iC t 79 (c - 1).toNat).toNat - 1 := by sorry
theorem frq_up {S : Int → Prop} {a b n c d : Int} {t u : PS} (h : FRQ S a b n c t) (a0 : 0 ≤ a ∧ a ≤ 127) (c0 : 1 ≤ c ∧ c < n) (hd : NRP (fun c => iC t 77 c) (iC t 79 (c - 1).toNat) d) (h1 : SAM 77 t u) (h2 : UPD 79 c d t u) : FRQ S a b n (c + 1) u := by sorry
theorem frq_e {S : Int → Prop} {a b n c : Int} {t : PS} (h : FRQ S a b n c t) (n0 : 1 ≤ n ∧ n ≤ 24) (hc : c = n) (ha : ¬ S a) (hb : ¬ S b) : RNR S a b n (fun k => iC t 79 k) := by sorry
theorem fre_no {S : Int → Prop} {a b : Int} {t : PS} {p : Nat → Int} (h : FRE8 S b t) (a0 : 0 ≤ a ∧ a ≤ 127) (hn : iC t 77 a.toNat < 0 ∨ 23 < iC t 77 a.toNat) : RNR S a b 0 p := by sorry
theorem rnr_0 {S : Int → Prop} {a b : Int} {p : Nat → Int} (h : S a ∨ S b) : RNR S a b 0 p := by sorry
theorem fre_r {S : Int → Prop} {b : Int} {t : PS} (h : FRE8 S b t) {c : Nat} (hc : c < 128) : -1 ≤ iC t 77 c ∧ iC t 77 c ≤ 127 := by sorry
/-- what was chosen for a stream -/
def MDF (x e : Int) (s : PS) : Prop := (∃ i : Nat, (i : Int) < iI s 41 ∧ i < 8 ∧ iC s 72 i = x ∧ e = iC s 75 i) ∨ ((∀ i : Nat, (i : Int) < iI s 41 → i < 8 → iC s 72 i ≠ x) ∧ e = 0)
section ZR9
variable {k : kx_T} {mn pc : Nat} {dT : Nat → ClassId} {lv : List (Nat × Value)} {st : List Value} {ws : va_W} {ce sl a b a' b' q1 : Nat} {z z' : Int}
theorem z_raldE (X : AX k mn dT) {i : Int} (h : cdA mn pc = some (.iaload, 1, a, b, z)) (hT : va_T .int q1 6 (fun j => .int (([5, 3, 1, 0, 2, 4] : List Int32).getD j 0)) (mb_F (kS0 k)) (kS0 k) (kS0 k).heap) (h0 : 0 ≤ i) (hi : i < 6) (g : ∀ e : Int, e = risF i → WS k (pc + 1) lv (.int (Int32.ofInt e) :: st) ws ce sl) : WS k pc lv (.int (Int32.ofInt i) :: .ref q1 :: st) ws ce sl := by sorry
end ZR9
section M87kv
variable {l : Launch} {s0 : State} {D : va_G} {tys : List (ClassId × FieldType)} {a0 : Array Value} {A : Nat → Nat} {dT : Nat → ClassId} {s : PS}
set_option maxRecDepth 4000 in
theorem c8_hits9 (G : GX l s0 D tys a0 dT) {U : AirD} (I : Bd s) (jAIR : AIR s) (jCDJ : CDJ U s) {x : Int} (p0 : 0 ≤ x ∧ x ≤ 23) : CT l s0 D A dT 89 (rmN 89) [.ref (A 67), .int (Int32.ofInt x)] s (fun o t => Bd t ∧ Fm [39, 40, 41] [72] s t ∧ o = .inl none ∧ (iI t 39 = x ∧ FHQ (hitP U (stS s) (x : Int).toNat) (iI s 9) t)) := by sorry
set_option maxRecDepth 4000 in
theorem c8_mendOf9 (G : GX l s0 D tys a0 dT) (I : Bd s) {x : Int} (p0 : rng x) : CT l s0 D A dT 90 (rmN 90) [.ref (A 67), .int (Int32.ofInt x)] s (fun o t => Bd t ∧ Fm [] [] s t ∧ ∃ e, o = .inl (some (.int (Int32.ofInt e))) ∧ rng e ∧ (MDF x e s)) := by sorry
set_option maxRecDepth 4000 in
theorem j_fill9f (G : GX l s0 D tys a0 dT) (I : Bd s) {x : Int} (p0 : -1 ≤ x ∧ x ≤ 0) : CT l s0 D A dT 312 (rmN 312) [.ref (A 90), .int (Int32.ofInt x)] s (fun o t => Bd t ∧ Fm [] [77] s t ∧ o = .inl none ∧ (∀ q : Nat, q < 128 → iC t 77 q = x)) := by sorry
set_option maxRecDepth 4000 in
theorem j_fill9k (G : GX l s0 D tys a0 dT) (I : Bd s) {x : Int} (p0 : 0 ≤ x ∧ x ≤ 0) : CT l s0 D A dT 312 (rmN 312) [.ref (A 89), .int (Int32.ofInt x)] s (fun o t => Bd t ∧ Fm [] [76] s t ∧ o = .inl none ∧ (∀ q : Nat, q < 256 → iC t 76 q = x)) := by sorry
set_option maxRecDepth 4000 in
theorem c8_spread9 (G : GX l s0 D tys a0 dT) (I : Bd s) {x : Int} (p0 : 0 ≤ x ∧ x ≤ 127) (p1 : ¬ stS s x) : CT l s0 D A dT 94 (rmN 94) [.ref (A 67), .int (Int32.ofInt x)] s (fun o t => Bd t ∧ Fm [] [77, 78] s t ∧ o = .inl none ∧ (FRE8 (stS s) x t)) := by sorry
set_option maxRecDepth 4000 in
theorem c8_nearer9 (G : GX l s0 D tys a0 dT) (GR : RS0 s0) (I : Bd s) {x : Int} (p0 : 0 ≤ x ∧ x ≤ 127) (p1 : ∃ e : Int, adjT x e ∧ (fun c => iC s 77 c) e.toNat = (fun c => iC s 77 c) (x : Int).toNat - 1) : CT l s0 D A dT 95 (rmN 95) [.ref (A 67), .int (Int32.ofInt x)] s (fun o t => Bd t ∧ Fm [] [] s t ∧ ∃ e, o = .inl (some (.int (Int32.ofInt e))) ∧ rng e ∧ (NRP (fun c => iC s 77 c) x e ∧ 0 ≤ e ∧ e ≤ 127)) := by sorry
set_option maxRecDepth 4000 in
theorem c8_findRound9 (G : GX l s0 D tys a0 dT) (GR : RS0 s0) (I : Bd s) {x y : Int} (p0 : 0 ≤ x ∧ x ≤ 127) (p1 : 0 ≤ y ∧ y ≤ 127) : CT l s0 D A dT 93 (rmN 93) [.ref (A 67), .int (Int32.ofInt x), .int (Int32.ofInt y)] s (fun o t => Bd t ∧ Fm [] [77, 78, 79] s t ∧ ∃ e, o = .inl (some (.int (Int32.ofInt e))) ∧ rng e ∧ ((0 ≤ e ∧ e ≤ 24) ∧ RNR (stS s) x y e (fun k => iC t 79 k))) := by sorry
end M87kv
