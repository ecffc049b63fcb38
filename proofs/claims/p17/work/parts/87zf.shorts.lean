theorem oq_361e9762 {a0 a1 a2 a3 : Int} (h0 : a0 = a1) (h1 : a2 ≤ a3) (h2 : 0 ≤ a2) (h3 : 0 ≤ a1) : 0 ≤ ((a0 * 24) + a3) := by omega
theorem oq_c6e1a4ef {a0 a1 a2 a3 : Int} (h0 : a0 = a1) (h1 : a2 < a3) (h2 : a3 ≤ 24) (h3 : a1 ≤ 11) : ((a0 * 24) + a2) < 288 := by omega
theorem oq_687565c5 {a0 a1 a2 a3 : Int} (h0 : a0 = a1) (h1 : a2 < a3) (h2 : a3 ≤ 24) (h3 : a1 ≤ 11) : (((a0 * 24) + a2) : Int).toNat < 288 := by omega
theorem oq_2f5179e5 {a0 a1 a2 : Int} (h0 : a0 ≤ a1) (h1 : a1 < a2) (h2 : a2 ≤ 24) : a0 ≤ 2147483647 := by omega
theorem oq_e28c415a {a0 a1 a2 : Int} (h0 : a0 ≤ a1) (h1 : a1 = a2) (h2 : a2 ≤ 24) : a0 ≤ 2147483647 := by omega
theorem oq_1b93903a {a0 a1 : Int} (h0 : a0 = a1) (h1 : a1 ≤ 9) : a0 ≤ 2147483647 := by omega
theorem oq_98dba964 {a0 a1 a2 : Int} (h0 : a0 ≤ (a1 + 1)) (h1 : a2 = a1) (h2 : a2 ≤ 24) : a0 ≤ 2147483647 := by omega
theorem oq_884afd68 {a0 a1 a2 : Int} (h0 : a0 ≤ a1) (h1 : a1 ≤ a2) (h2 : a2 ≤ 24) : a0 ≤ 2147483647 := by omega
theorem oq_d5439a31 {a0 a1 : Int} (h0 : a0 ≤ a1) (h1 : 0 ≤ a0) : 0 ≤ (a1 + 1) := by omega
theorem oq_cb2f634e {a0 a1 a2 : Int} (h0 : a0 = a1) (h1 : a2 ≤ a0) : (a2 + 1) ≤ (a1 + 1) := by omega
theorem oq_b98a5654 {a0 a1 : Int} (h0 : a0 ≤ a1) (h1 : a1 ≤ 24) : 0 < (26 - a0) := by omega
theorem oq_ddac0bfe {a0 a1 a2 : Int} (h0 : a0 = a1) (h1 : a2 < a0) : (a2 + 1) ≤ (a1 + 1) := by omega
theorem oq_15f20019 {a0 a1 : Int} (h0 : a0 < a1) (h1 : a1 ≤ 24) : 0 < (26 - a0) := by omega
theorem oq_ad204de4 {a0 a1 : Int} (h0 : a0 ≠ 0) (h1 : ((a0 = 1 ∧ (0 ≤ a1 ∧ a1 ≤ 7)) ∨ (a0 = 0 ∧ (a1 < 0 ∨ 7 < a1)))) : (a1 = a1 ∧ (0 ≤ a1 ∧ a1 ≤ 7)) := by omega
theorem oq_93520411 {a0 a1 a2 : Int} (h0 : 0 ≤ a0) (h1 : ((0 = 1 ∧ (a1 = 0 ∧ (a0 = 1 ∧ a2 = 1))) ∨ ((0 = 0 ∨ a1 ≠ 0) ∧ (a0 = a1 ∧ ((a2 = 0 ∧ a1 = 0) ∨ (a2 = 1 ∧ a1 ≠ 0)))))) (h2 : a1 = 0) : a0 = 0 := by omega
theorem oq_14bb5fe5 {a0 a1 a2 a3 : Int} (h0 : a0 ≠ 0) (h1 : ((0 = 1 ∧ (a1 = 0 ∧ (a2 = 1 ∧ a0 = 1))) ∨ ((0 = 0 ∨ a1 ≠ 0) ∧ (a2 = a1 ∧ ((a0 = 0 ∧ a1 = 0) ∨ (a0 = 1 ∧ a1 ≠ 0)))))) (h2 : a1 = 0) : (a3 < 0 ∨ 7 < a3) := by omega
theorem oq_a2dc54c2 {a0 a1 a2 a3 : Int} (h0 : a0 = 0) (h1 : ((1 = 1 ∧ (a1 = 0 ∧ (a2 = 1 ∧ a0 = 1))) ∨ ((1 = 0 ∨ a1 ≠ 0) ∧ (a2 = a1 ∧ ((a0 = 0 ∧ a1 = 0) ∨ (a0 = 1 ∧ a1 ≠ 0)))))) (h2 : a1 = 0) : (a3 = a3 ∧ (0 ≤ a3 ∧ a3 ≤ 7)) := by omega
theorem oq_f4d57307 {a0 a1 a2 : Int} (h0 : a0 = 0) (h1 : 0 ≤ a1) (h2 : ((1 = 1 ∧ (a2 = 0 ∧ (a1 = 1 ∧ a0 = 1))) ∨ ((1 = 0 ∨ a2 ≠ 0) ∧ (a1 = a2 ∧ ((a0 = 0 ∧ a2 = 0) ∨ (a0 = 1 ∧ a2 ≠ 0)))))) (h3 : a2 = 0) : a1 = 0 := by omega
theorem oq_2c2fe168 {a0 a1 : Int} (h0 : a0 = 0) (h1 : ((a0 = 1 ∧ (0 ≤ a1 ∧ a1 ≤ 7)) ∨ (a0 = 0 ∧ (a1 < 0 ∨ 7 < a1)))) : (a1 < 0 ∨ 7 < a1) := by omega
/-! Ways too short -/
/-- how long the run is that ends behind k cells -/
def rnS (w : Nat → Int) : Nat → Int
  | 0 => 0
  | k + 1 => if w k = 1 then rnS w k + 1 else 0
/-- a run shorter than l has ended ahead of the k-th cell -/
def shS (w : Nat → Int) (l : Int) : Nat → Prop
  | 0 => False
  | k + 1 => shS w l k ∨ (w k ≠ 1 ∧ 0 < rnS w k ∧ rnS w k < l)
theorem rns_r {w : Nat → Int} : ∀ k : Nat, 0 ≤ rnS w k ∧ rnS w k ≤ (k : Int)
  | 0 => ⟨Int.le_refl _, Int.le_refl _⟩
  | k + 1 => by
    have h := rns_r (w := w) k
    show 0 ≤ (if w k = 1 then rnS w k + 1 else 0) ∧ (if w k = 1 then rnS w k + 1 else 0) ≤ ((k + 1 : Nat) : Int)
    by_cases c : w k = 1
    · rw [if_pos c]; omega
    · rw [if_neg c]; omega
theorem rns_y {w : Nat → Int} {k : Nat} (h : w k = 1) : rnS w (k + 1) = rnS w k + 1 := if_pos h
theorem rns_n {w : Nat → Int} {k : Nat} (h : w k ≠ 1) : rnS w (k + 1) = 0 := if_neg h
theorem shs_y {w : Nat → Int} {l : Int} {k : Nat} (h : w k = 1) : shS w l (k + 1) ↔ shS w l k := ⟨fun q => q.elim id (fun z => absurd h z.1), Or.inl⟩
theorem shs_n {w : Nat → Int} {l : Int} {k : Nat} (h : w k ≠ 1) : shS w l (k + 1) ↔ (shS w l k ∨ (0 < rnS w k ∧ rnS w k < l)) := ⟨fun q => q.imp id (fun z => z.2), fun q => q.imp id (fun z => ⟨h, z⟩)⟩
/-- what the class knows behind c cells: the run, and of every bound whether a run below it has ended -/
def SHQ (w : Nat → Int) (h r c : Int) : Prop := r = rnS w c.toNat ∧ ∀ l : Int, l ≤ 24 → (h < l ↔ shS w l c.toNat)
theorem shq_0 {w : Nat → Int} : SHQ w 24 0 0 := ⟨rfl, fun l hl => ⟨fun q => by omega, fun q => q.elim⟩⟩
theorem shq_y {w : Nat → Int} {h r c : Int} (q : SHQ w h r c) (c0 : 0 ≤ c) (hw : w c.toNat = 1) : SHQ w h (r + 1) (c + 1) := by
  have e : (c + 1).toNat = c.toNat + 1 := by omega
  refine ⟨?_, fun l hl => ?_⟩
  · rw [e, rns_y hw, q.1]
  · rw [e, shs_y hw]; exact q.2 l hl
theorem shq_e {w : Nat → Int} {h r c : Int} (q : SHQ w h r c) (c0 : 0 ≤ c) (hw : w c.toNat ≠ 1) (hr : r ≤ 0) : SHQ w h r (c + 1) := by
  have e : (c + 1).toNat = c.toNat + 1 := by omega
  have b := (rns_r (w := w) c.toNat).1
  have q1 := q.1
  refine ⟨?_, fun l hl => ?_⟩
  · rw [e, rns_n hw]; omega
  · rw [e, shs_n hw, q.2 l hl]
    exact ⟨Or.inl, fun z => z.elim id (fun y => by omega)⟩
theorem shq_m {w : Nat → Int} {h r c m : Int} (q : SHQ w h r c) (c0 : 0 ≤ c) (hw : w c.toNat ≠ 1) (hr : 0 < r) (hm : (m = h ∧ h ≤ r) ∨ (m = r ∧ r < h)) : SHQ w m 0 (c + 1) := by
  have e : (c + 1).toNat = c.toNat + 1 := by omega
  have q1 := q.1
  refine ⟨?_, fun l hl => ?_⟩
  · rw [e, rns_n hw]
  · rw [e, shs_n hw, ← q.2 l hl, ← q1]
    omega
/-- at the end: a run below the bound that has ended, or ends here -/
theorem shq_x {w : Nat → Int} {h r c m : Int} (q : SHQ w h r c) (hw : w c.toNat ≠ 1) (hm : (r ≤ 0 ∧ m = h) ∨ (0 < r ∧ ((m = h ∧ h ≤ r) ∨ (m = r ∧ r < h)))) : ∀ l : Int, l ≤ 24 → (m < l ↔ shS w l (c.toNat + 1)) := fun l hl => by
  have q1 := q.1
  rw [shs_n hw, ← q.2 l hl, ← q1]
  omega
/-- the n cells f of a way, by a set -/
noncomputable def wyS (S : Int → Prop) (f : Nat → Int) (n : Int) : Nat → Int := fun k => i01 ((k : Int) < n ∧ S (f k))
theorem wys_1 {S : Int → Prop} {f : Nat → Int} {n : Int} {k : Nat} (h : (k : Int) < n) (g : S (f k)) : wyS S f n k = 1 := i01_t ⟨h, g⟩
theorem wys_0 {S : Int → Prop} {f : Nat → Int} {n : Int} {k : Nat} (h : ¬ S (f k)) : wyS S f n k ≠ 1 := by
  show i01 _ ≠ 1
  rw [i01_f (fun q => h q.2)]; decide
theorem wys_e {S : Int → Prop} {f : Nat → Int} {n : Int} {k : Nat} (h : n ≤ (k : Int)) : wyS S f n k ≠ 1 := by
  show i01 _ ≠ 1
  rw [i01_f (fun q => by have := q.1; omega)]; decide
theorem wys_c {S S' : Int → Prop} {f f' : Nat → Int} {n n' : Int} (hn : n = n') (h : ∀ k : Nat, (k : Int) < n → (S (f k) ↔ S' (f' k))) : wyS S f n = wyS S' f' n' := funext (fun k => by
  subst hn
  exact i01_c ⟨fun q => ⟨q.1, (h k q.1).mp q.2⟩, fun q => ⟨q.1, (h k q.1).mpr q.2⟩⟩)
/-- a bit for each number below n that P holds of -/
noncomputable def btS (P : Nat → Prop) : Nat → Int32
  | 0 => Int32.ofInt 0
  | k + 1 => @ite Int32 (P k) (Classical.propDecidable (P k)) (btS P k ||| (Int32.ofInt 1 <<< (Int32.ofInt (k : Int) &&& 31))) (btS P k)
theorem bts_y {P : Nat → Prop} {k : Nat} (h : P k) : btS P (k + 1) = btS P k ||| (Int32.ofInt 1 <<< (Int32.ofInt (k : Int) &&& 31)) := @if_pos (P k) (Classical.propDecidable (P k)) h Int32 _ _
theorem bts_n {P : Nat → Prop} {k : Nat} (h : ¬ P k) : btS P (k + 1) = btS P k := @if_neg (P k) (Classical.propDecidable (P k)) h Int32 _ _
theorem bts_c {P P' : Nat → Prop} : ∀ n : Nat, (∀ k, k < n → (P k ↔ P' k)) → btS P n = btS P' n
  | 0, _ => rfl
  | k + 1, h => by
    have e := bts_c k (fun j hj => h j (by omega))
    by_cases c : P k
    · rw [bts_y c, bts_y ((h k (by omega)).mp c), e]
    · rw [bts_n c, bts_n (fun q => c ((h k (by omega)).mpr q)), e]
/-- the class's cells of a way, the model's -/
abbrev cwC (s : PS) (x : Nat) : Nat → Int := fun k => iC s 1 (24 * x + k)
abbrev cwM (s : PS) (x : Nat) : Nat → Int := fun k => iC s (166 + x) k
/-- which ways are too short for a set -/
def ShC (S : Int → Prop) (l : Int) (s : PS) (x : Nat) : Prop := shS (wyS S (cwC s x) (iC s 2 x)) l ((iC s 2 x).toNat + 1)
def ShM (S : Int → Prop) (l : Int) (s : PS) (x : Nat) : Prop := shS (wyS S (cwM s x) (iC s 162 x)) l ((iC s 162 x).toNat + 1)
/-- the answer of shorts -/
def SHE (P : Nat → Prop) (n e : Int) : Prop := rng e ∧ Int32.ofInt e = btS P n.toNat
theorem she_eq {P P' : Nat → Prop} {n n' e e' : Int} (hn : n = n') (h : ∀ k : Nat, (k : Int) < n → (P k ↔ P' k)) (a : SHE P n e) (b : SHE P' n' e') : e = e' := by
  subst hn
  have z : Int32.ofInt e = Int32.ofInt e' := by rw [a.2, b.2, bts_c _ (fun k hk => h k (by omega))]
  have q := congrArg Int32.toInt z
  rw [zi a.1, zi b.1] at q
  exact q
theorem inl_v {lo hi : Int64} {v : Int} (hv : 0 ≤ v ∧ v ≤ 127) : inL lo hi v ↔ ((v < 64 ∧ bJ lo (v % 64).toNat) ∨ (64 ≤ v ∧ bJ hi (v % 64).toNat)) := by
  unfold inL
  by_cases c : v < 64
  · rw [show (v % 64).toNat = v.toNat by omega]
    exact ⟨fun q => q.elim (fun z => Or.inl ⟨c, z.2.2⟩) (fun z => absurd z.1 (by omega)), fun q => q.elim (fun z => Or.inl ⟨hv.1, c, z.2⟩) (fun z => absurd z.1 (by omega))⟩
  · rw [show (v % 64).toNat = (v - 64).toNat by omega]
    exact ⟨fun q => q.elim (fun z => absurd z.2.1 c) (fun z => Or.inr ⟨z.1, z.2.2⟩), fun q => q.elim (fun z => absurd z.1 c) (fun z => Or.inr ⟨z.1, by omega, z.2⟩)⟩
/-- the bit of a cell is there: by what the class has worked out -/
theorem sb_y {lo hi X : Int64} {v : Int} (hv : 0 ≤ v ∧ v ≤ 127) (hX : (v < 64 ∧ X = lo) ∨ (64 ≤ v ∧ X = hi)) (h : (jushr X (v % 64) &&& 1) ≠ 0) : inL lo hi v := by
  have z : bJ X (v % 64).toNat := Classical.byContradiction (fun q => h ((jb_0 (by omega)).mpr q))
  rw [inl_v hv]
  exact hX.imp (fun q => ⟨q.1, by rw [← q.2]; exact z⟩) (fun q => ⟨q.1, by rw [← q.2]; exact z⟩)
theorem sb_n {lo hi X : Int64} {v : Int} (hv : 0 ≤ v ∧ v ≤ 127) (hX : (v < 64 ∧ X = lo) ∨ (64 ≤ v ∧ X = hi)) (h : (jushr X (v % 64) &&& 1) = 0) : ¬ inL lo hi v := by
  have z := (jb_0 (x := X) (c := v % 64) (by omega)).mp h
  rw [inl_v hv]
  intro q
  rcases hX with y | y
  · rcases q with q | q
    · exact z (by rw [y.2]; exact q.2)
    · omega
  · rcases q with q | q
    · omega
    · exact z (by rw [y.2]; exact q.2)
/-- bits of the ways below c, and of the one that is walked -/
def MBQ (B : Int32) (w : Nat → Int) (l : Int) (x b r k : Int) : Prop := r = rnS w k.toNat ∧ ((shS w l k.toNat ∧ Int32.ofInt b = B ||| (Int32.ofInt 1 <<< (Int32.ofInt x &&& 31))) ∨ (¬ shS w l k.toNat ∧ Int32.ofInt b = B))
theorem mbq_0 {B : Int32} {w : Nat → Int} {l x b : Int} (h : Int32.ofInt b = B) : MBQ B w l x b 0 0 := ⟨rfl, Or.inr ⟨fun q => q, h⟩⟩
theorem mbq_y {B : Int32} {w : Nat → Int} {l x b r k : Int} (q : MBQ B w l x b r k) (k0 : 0 ≤ k) (hw : w k.toNat = 1) : MBQ B w l x b (r + 1) (k + 1) := by
  have e : (k + 1).toNat = k.toNat + 1 := by omega
  unfold MBQ
  rw [e, rns_y hw, shs_y hw]
  exact ⟨by rw [q.1], q.2⟩
theorem mbq_n {B : Int32} {w : Nat → Int} {l x b r k : Int} (q : MBQ B w l x b r k) (k0 : 0 ≤ k) (hw : w k.toNat ≠ 1) (hr : r ≤ 0 ∨ l ≤ r) : MBQ B w l x b 0 (k + 1) := by
  have e : (k + 1).toNat = k.toNat + 1 := by omega
  have q1 := q.1
  have n : ¬ (0 < rnS w k.toNat ∧ rnS w k.toNat < l) := by rw [← q1]; omega
  unfold MBQ
  rw [e, rns_n hw, shs_n hw]
  refine ⟨rfl, q.2.imp (fun z => ⟨Or.inl z.1, z.2⟩) (fun z => ⟨fun y => y.elim z.1 n, z.2⟩)⟩
theorem mbq_o {B : Int32} {w : Nat → Int} {l x b r k y z : Int} (q : MBQ B w l x b r k) (k0 : 0 ≤ k) (hw : w k.toNat ≠ 1) (hr : 0 < r ∧ r < l) (hz : Int32.ofInt y = Int32.ofInt 1 <<< (Int32.ofInt x &&& 31)) (hb : Int32.ofInt z = Int32.ofInt b ||| Int32.ofInt y) : MBQ B w l x z 0 (k + 1) := by
  have e : (k + 1).toNat = k.toNat + 1 := by omega
  have q1 := q.1
  unfold MBQ
  rw [e, rns_n hw, shs_n hw, hb, hz]
  refine ⟨rfl, Or.inl ⟨Or.inr (by rw [← q1]; exact hr), ?_⟩⟩
  rcases q.2 with ⟨-, g⟩ | ⟨-, g⟩
  · rw [g, Int32.or_assoc, Int32.or_self]
  · rw [g]
theorem mbq_x {P : Nat → Prop} {w : Nat → Int} {l x b r k : Int} {n : Nat} (q : MBQ (btS P x.toNat) w l x b r k) (x0 : 0 ≤ x) (hk : k.toNat = n) (hP : P x.toNat ↔ shS w l n) : Int32.ofInt b = btS P (x + 1).toNat := by
  have e : (x + 1).toNat = x.toNat + 1 := by omega
  have ex : ((x.toNat : Nat) : Int) = x := by omega
  rw [e]
  subst hk
  rcases q.2 with ⟨h, g⟩ | ⟨h, g⟩
  · rw [bts_y (hP.mpr h), ex]; exact g
  · rw [bts_n (fun z => h (hP.mp z))]; exact g
/-- class and model: the same ways, the same pieces -/
theorem shx_eq {s t : PS} {f f' : Nat → Int} {p l l' : Int} (h : WQJ s) (hf : ∀ j, j < 128 → f j = f' j) (hl : l = l') (F : SWM s t) (x : Nat) (hx : (x : Int) < iI s 9) : ShC (pcS f p) l s x ↔ ShM (pcS f' p) l' t x := by
  obtain ⟨h0, h1⟩ := h
  obtain ⟨q1, q2⟩ := h1 x hx
  have x1 : x < 12 := by omega
  unfold ShC ShM
  subst hl
  rw [F.1, ← q1, ← pcs_c hf p]
  have e : wyS (pcS f p) (cwC s x) (iC s 2 x) = wyS (pcS f p) (cwM t x) (iC s 2 x) := wys_c rfl (fun k hk => by
    show pcS f p (iC s 1 (24 * x + k)) ↔ pcS f p (iC t (166 + x) k)
    rw [(F.2 x k x1).1, ← q2 k hk, Nat.mul_comm])
  rw [e]
/-- the shortest run of a way, as the class answers it -/
def SQP (lo hi : Int64) (s : PS) (x : Nat) (e : Int) : Prop := ∀ l : Int, l ≤ 24 → (e < l ↔ ShC (inL lo hi) l s x)
theorem shc_t {S : Int → Prop} {l : Int} {s t : PS} {x : Nat} (h1 : SAM 1 s t) (h2 : SAM 2 s t) : ShC S l t x ↔ ShC S l s x := by
  unfold ShC
  rw [h2, show cwC t x = cwC s x from funext (fun k => h1 _)]
theorem btq_y {P : Nat → Prop} {b c y z : Int} (h : Int32.ofInt b = btS P c.toNat) (c0 : 0 ≤ c) (hP : P c.toNat) (hy : Int32.ofInt y = Int32.ofInt 1 <<< (Int32.ofInt c &&& 31)) (hz : Int32.ofInt z = Int32.ofInt b ||| Int32.ofInt y) : Int32.ofInt z = btS P (c + 1).toNat := by
  rw [show (c + 1).toNat = c.toNat + 1 by omega, bts_y hP, show ((c.toNat : Nat) : Int) = c by omega, hz, hy, h]
theorem btq_n {P : Nat → Prop} {b c : Int} (h : Int32.ofInt b = btS P c.toNat) (c0 : 0 ≤ c) (hP : ¬ P c.toNat) : Int32.ofInt b = btS P (c + 1).toNat := by
  rw [show (c + 1).toNat = c.toNat + 1 by omega, bts_n hP, h]
theorem she_c {P P' : Nat → Prop} {n n' e : Int} (a : SHE P n e) (h : ∀ k : Nat, P k ↔ P' k) (hn : n = n') : SHE P' n' e := by
  subst hn
  exact ⟨a.1, by rw [a.2, bts_c _ (fun k _ => h k)]⟩
section M87kf
variable {l : Launch} {s0 : State} {D : va_G} {tys : List (ClassId × FieldType)} {a0 : Array Value} {A : Nat → Nat} {dT : Nat → ClassId} {s : PS}
set_option maxRecDepth 4000 in
theorem c9_stretch6 (G : GX l s0 D tys a0 dT) (I : Bd s) {x : Int} {lo hi0 : Int64} (p0 : 0 ≤ x ∧ x ≤ 11) : CT l s0 D A dT 120 (rmN 120) [.ref (A 3), .int (Int32.ofInt x), .long lo, .long hi0] s (fun o t => Bd t ∧ Fm [] [] s t ∧ ∃ e, o = .inl (some (.int (Int32.ofInt e))) ∧ rng e ∧ ((0 ≤ e ∧ e ≤ 24) ∧ SQP lo hi0 s (x : Int).toNat e)) := by
  refine ct_ofX G (by decide) (Nat.le_of_ble_eq_true rfl) (fun k X E ET hRt hXt q => ?_)
  show WS k 0 [(0, .ref (A 3)), (1, .int (Int32.ofInt x)), (2, .long lo), (4, .long hi0)] [] _ 0 0
  have F : Fm [] [] s s := fm_rf _ _ s
  have hZ0 : (0 : Int) ≤ (iC s 2 (x : Int).toNat) ∧ (iC s 2 (x : Int).toNat) ≤ 24 := I.2 2 _ (show (x : Int).toNat < 12 by omega)
  have L10 : ∀ (n : Nat) (t : PS) (xv : Int) (lw : Int64) (hw : Int64) (sh : Int) (ru : Int) (c : Int), Bd t → Fm [] [] s t → (lw = lo ∧ hw = hi0 ∧ SHQ (wyS (inL lo hi0) (cwC s (x : Int).toNat) (iC s 2 (x : Int).toNat)) sh ru c) → ((xv = x ∧ 0 ≤ x ∧ x ≤ 11) ∧ (0 ≤ sh ∧ sh ≤ 24) ∧ (0 ≤ ru ∧ ru ≤ c) ∧ c ≤ (iC s 2 (x : Int).toNat) ∧ (iC s 2 (x : Int).toNat) ≤ 24) → (24 - c : Int).toNat < n → (∀ (t' : PS) (sh' : Int) (ru' : Int) (c' : Int), Bd t' → Fm [] [] s t' → (lw = lo ∧ hw = hi0 ∧ SHQ (wyS (inL lo hi0) (cwC s (x : Int).toNat) (iC s 2 (x : Int).toNat)) sh' ru' c') → ((0 ≤ sh' ∧ sh' ≤ 24) ∧ (0 ≤ ru' ∧ ru' ≤ c') ∧ c' = (iC s 2 (x : Int).toNat) ∧ (iC s 2 (x : Int).toNat) ≤ 24) → WS k 90 [(0, .ref (A 3)), (1, .int (Int32.ofInt xv)), (2, .long lw), (4, .long hw), (6, .int (Int32.ofInt sh')), (7, .int (Int32.ofInt ru')), (8, .int (Int32.ofInt c'))] [] (Wd A dT t') 0 0) → WS k 10 [(0, .ref (A 3)), (1, .int (Int32.ofInt xv)), (2, .long lw), (4, .long hw), (6, .int (Int32.ofInt sh)), (7, .int (Int32.ofInt ru)), (8, .int (Int32.ofInt c))] [] (Wd A dT t) 0 0 := by
    intro n
    induction n with
    | zero =>
      intro t xv lw hw sh ru c I F hq hi hm kx
      exact absurd hm (Nat.not_lt_zero _)
    | succ n ih =>
      intro t xv lw hw sh ru c I F hq hi hm kx
      have hz9 : iC t 2 (xv : Int).toNat = (iC s 2 (x : Int).toNat) := by rw [show xv = x by omega]; exact fm_c F List.not_mem_nil
      refine z_load X (x := c) rfl (List.Mem.tail _ (List.Mem.tail _ (List.Mem.tail _ (List.Mem.tail _ (List.Mem.tail _ (List.Mem.tail _ (List.Mem.head _))))))) (z_aload_n X (x := A 3) rfl (List.Mem.head _) (s_getR X 3 rfl (c518_ok rfl) rfl rfl (z_load_n X (x := xv) rfl (List.Mem.tail _ (List.Mem.head _)) (z_ald X 5 rfl (c518_ok rfl) rfl (by first | exact oq_e4757433 hi.1.1 hi.1.2.1 | omega) (show xv < 12 by first | exact oq_210fcd76 hi.1.1 hi.1.2.2 | omega) (cbig_ok rfl) ?_))))
      have b1001 := bc_2 I (show (xv).toNat < 12 by first | exact oq_cba5df33 hi.1.1 hi.1.2.2 | omega)
      refine z_icmp_ge X (t := 90) rfl rfl ⟨by first | exact oq_e001bc0d hi.2.2.1.2 hi.2.2.1.1 | omega, by first | exact oq_403249cf hi.2.2.2.1 hi.2.2.2.2 | omega⟩ (rng_to _) (fun g1002 => ?_) (fun g1002 => ?_)
      ·
        refine WS_pq [0, 1, 2, 3, 4, 5, 6] (lv' := [(0, .ref (A 3)), (1, .int (Int32.ofInt xv)), (2, .long lw), (4, .long hw), (6, .int (Int32.ofInt sh)), (7, .int (Int32.ofInt ru)), (8, .int (Int32.ofInt c))]) rfl ?_
        exact kx _ sh ru c I F hq (by first | exact ⟨And.intro (hi.2.1.1) (hi.2.1.2), And.intro (hi.2.2.1.1) (hi.2.2.1.2), oq_537ca82a hi.2.2.2.1 g1002 hz9, hi.2.2.2.2⟩ | omega)
      ·
        refine z_aload_n X (x := A 3) rfl (List.Mem.head _) (s_getR X 3 rfl (c518_ok rfl) rfl rfl (z_load_n X (x := xv) rfl (List.Mem.tail _ (List.Mem.head _)) (z_bipush X rfl (z_mul X rfl (z_load X (x := c) rfl (List.Mem.tail _ (List.Mem.tail _ (List.Mem.tail _ (List.Mem.tail _ (List.Mem.tail _ (List.Mem.tail _ (List.Mem.head _))))))) (z_add X rfl (z_ald X 4 rfl (c518_ok rfl) rfl (by first | exact oq_361e9762 hi.1.1 hi.2.2.1.2 hi.2.2.1.1 hi.1.2.1 | omega) (show ((xv * 24) + c) < 288 by first | exact oq_c6e1a4ef hi.1.1 g1002 b1001.2 hi.1.2.2 | omega) (cbig_ok rfl) ?_)))))))
        have b1003 := bc_1 I (show (((xv * 24) + c)).toNat < 288 by first | exact oq_687565c5 hi.1.1 g1002 b1001.2 hi.1.2.2 | omega)
        refine z_store X (lv' := [(9, .int (Int32.ofInt (iC t 1 (((xv * 24) + c)).toNat))), (0, .ref (A 3)), (1, .int (Int32.ofInt xv)), (2, .long lw), (4, .long hw), (6, .int (Int32.ofInt sh)), (7, .int (Int32.ofInt ru)), (8, .int (Int32.ofInt c))]) rfl (by decide) (fun _ h => h) ?_
        have hcl : (iC t 1 (((xv * 24) + c)).toNat) = cwC s (x : Int).toNat (c : Int).toNat := (fm_c F List.not_mem_nil).trans (congrArg (iC s 1) (by omega))
        refine z_load X (x := (iC t 1 (((xv * 24) + c)).toNat)) rfl (List.Mem.head _) (z_bipush X rfl (z_icmp_ge X (t := 46) rfl rfl (rng_to _) (by decide) (fun g1004 => ?_) (fun g1004 => ?_)))
        ·
          refine w_lload X.1 (ax_d X (show cdA 120 46 = some (.lload 4, 2, 0, 0, 0) from rfl)) (x := hw) (List.Mem.tail _ (List.Mem.tail _ (List.Mem.tail _ (List.Mem.tail _ (List.Mem.head _))))) (z_load X (x := (iC t 1 (((xv * 24) + c)).toNat)) rfl (List.Mem.head _) (z_bipush X rfl (z_and63 X rfl (by omega) (z_jushr X rfl (w_lconst X.1 (ax_d X (show cdA 120 54 = some (.lconst 1, 1, 0, 0, 0) from rfl)) (z := (1 : Int64)) (by decide) (w_land X.1 (ax_d X (show cdA 120 55 = some (.land, 1, 0, 0, 0) from rfl)) (w_lconst X.1 (ax_d X (show cdA 120 56 = some (.lconst 0, 1, 0, 0, 0) from rfl)) (z := (0 : Int64)) (by decide) (z_jcmp X rfl (fun z1005 => ?_) (fun z1005 c1006 hc1006 ic1006 => ?_)))))))))
          ·
            refine z_if_eq X (t := 67) rfl rfl (by decide) (fun g1007 => ?_) (fun g1007 => ?_)
            ·
              have hin : ¬ inL lo hi0 (cwC s (x : Int).toNat (c : Int).toNat) := by rw [← hcl]; exact sb_n (by omega) (Or.inr ⟨by omega, hq.2.1⟩) z1005
              refine z_load X (x := ru) rfl (List.Mem.tail _ (List.Mem.tail _ (List.Mem.tail _ (List.Mem.tail _ (List.Mem.tail _ (List.Mem.tail _ (List.Mem.head _))))))) (z_if_le X (t := 84) rfl rfl ⟨by first | exact oq_fa4e5087 hi.2.2.1.1 | omega, by first | exact oq_2f5179e5 hi.2.2.1.2 g1002 b1001.2 | omega⟩ (fun g1008 => ?_) (fun g1008 => ?_))
              ·
                refine z_inc X (x := c) (lv' := [(8, .int (Int32.ofInt (c + 1))), (9, .int (Int32.ofInt (iC t 1 (((xv * 24) + c)).toNat))), (0, .ref (A 3)), (1, .int (Int32.ofInt xv)), (2, .long lw), (4, .long hw), (6, .int (Int32.ofInt sh)), (7, .int (Int32.ofInt ru))]) rfl (by decide) (List.Mem.tail _ (List.Mem.tail _ (List.Mem.tail _ (List.Mem.tail _ (List.Mem.tail _ (List.Mem.tail _ (List.Mem.tail _ (List.Mem.head _)))))))) (fun _ h => h) (z_goto X (t := 10) rfl rfl (WS_pq [2, 3, 4, 5, 6, 7, 0] (lv' := [(0, .ref (A 3)), (1, .int (Int32.ofInt xv)), (2, .long lw), (4, .long hw), (6, .int (Int32.ofInt sh)), (7, .int (Int32.ofInt ru)), (8, .int (Int32.ofInt (c + 1)))]) rfl ?_))
                exact ih _ xv lw hw sh ru (c + 1) I F ⟨hq.1, hq.2.1, shq_e hq.2.2 (by omega) (wys_0 hin) (by omega)⟩ (by first | exact ⟨And.intro (hi.1.1) (And.intro (hi.1.2.1) (hi.1.2.2)), And.intro (hi.2.1.1) (hi.2.1.2), And.intro (hi.2.2.1.1) (oq_03182e9e hi.2.2.1.2), oq_8a89b3ae g1002 hz9, hi.2.2.2.2⟩ | omega) (by first | exact qk_me hm (by decide) (oq_9dea93e6 g1002 b1001.2) | omega) kx
              ·
                refine z_load X (x := sh) rfl (List.Mem.tail _ (List.Mem.tail _ (List.Mem.tail _ (List.Mem.tail _ (List.Mem.tail _ (List.Mem.head _)))))) (z_load X (x := ru) rfl (List.Mem.tail _ (List.Mem.tail _ (List.Mem.tail _ (List.Mem.tail _ (List.Mem.tail _ (List.Mem.tail _ (List.Mem.head _))))))) (z_min X rfl ⟨by first | exact oq_fa4e5087 hi.2.1.1 | omega, by first | exact oq_5bcd337f hi.2.1.2 | omega⟩ ⟨by first | exact oq_97e58444 g1008 | omega, by first | exact oq_2f5179e5 hi.2.2.1.2 g1002 b1001.2 | omega⟩ (by rw [E.2.2.2]; decide) (by rw [E.2.2.2]; exact Nat.le_of_ble_eq_true rfl) (Nat.zero_le _) (Nat.zero_le _) (fun e1009 he1009 => ?_)))
                refine z_store X (lv' := [(6, .int (Int32.ofInt e1009)), (9, .int (Int32.ofInt (iC t 1 (((xv * 24) + c)).toNat))), (0, .ref (A 3)), (1, .int (Int32.ofInt xv)), (2, .long lw), (4, .long hw), (7, .int (Int32.ofInt ru)), (8, .int (Int32.ofInt c))]) rfl (by decide) (fun _ h => h) (z_const X rfl (z_store X (lv' := [(7, .int (Int32.ofInt 0)), (6, .int (Int32.ofInt e1009)), (9, .int (Int32.ofInt (iC t 1 (((xv * 24) + c)).toNat))), (0, .ref (A 3)), (1, .int (Int32.ofInt xv)), (2, .long lw), (4, .long hw), (8, .int (Int32.ofInt c))]) rfl (by decide) (fun _ h => h) (z_inc X (x := c) (lv' := [(8, .int (Int32.ofInt (c + 1))), (7, .int (Int32.ofInt 0)), (6, .int (Int32.ofInt e1009)), (9, .int (Int32.ofInt (iC t 1 (((xv * 24) + c)).toNat))), (0, .ref (A 3)), (1, .int (Int32.ofInt xv)), (2, .long lw), (4, .long hw)]) rfl (by decide) (List.Mem.tail _ (List.Mem.tail _ (List.Mem.tail _ (List.Mem.tail _ (List.Mem.tail _ (List.Mem.tail _ (List.Mem.tail _ (List.Mem.head _)))))))) (fun _ h => h) (z_goto X (t := 10) rfl rfl (WS_pq [4, 5, 6, 7, 2, 1, 0] (lv' := [(0, .ref (A 3)), (1, .int (Int32.ofInt xv)), (2, .long lw), (4, .long hw), (6, .int (Int32.ofInt e1009)), (7, .int (Int32.ofInt 0)), (8, .int (Int32.ofInt (c + 1)))]) rfl ?_)))))
                exact ih _ xv lw hw e1009 0 (c + 1) I F ⟨hq.1, hq.2.1, shq_m hq.2.2 (by omega) (wys_0 hin) (by omega) he1009⟩ (by first | exact ⟨And.intro (hi.1.1) (And.intro (hi.1.2.1) (hi.1.2.2)), oq_1253191b he1009 g1008 g1002 b1001.2 hi.2.2.1.2 hi.2.1.2 hi.2.1.1, And.intro (by decide) (oq_1b58957a hi.2.2.1.2 g1008), oq_8a89b3ae g1002 hz9, hi.2.2.2.2⟩ | omega) (by first | exact qk_me hm (by decide) (oq_9dea93e6 g1002 b1001.2) | omega) kx
            ·
              exfalso
              omega
          ·
            refine z_if_eq X (t := 67) rfl rfl ⟨by omega, by omega⟩ (fun g1010 => ?_) (fun g1010 => ?_)
            ·
              exfalso
              omega
            ·
              have hin : inL lo hi0 (cwC s (x : Int).toNat (c : Int).toNat) := by rw [← hcl]; exact sb_y (by first | (clear g1010; omega) | omega) (Or.inr ⟨by first | (clear g1010; omega) | omega, hq.2.1⟩) z1005
              refine z_inc X (x := ru) (lv' := [(7, .int (Int32.ofInt (ru + 1))), (9, .int (Int32.ofInt (iC t 1 (((xv * 24) + c)).toNat))), (0, .ref (A 3)), (1, .int (Int32.ofInt xv)), (2, .long lw), (4, .long hw), (6, .int (Int32.ofInt sh)), (8, .int (Int32.ofInt c))]) rfl (by decide) (List.Mem.tail _ (List.Mem.tail _ (List.Mem.tail _ (List.Mem.tail _ (List.Mem.tail _ (List.Mem.tail _ (List.Mem.head _))))))) (fun _ h => h) (z_goto X (t := 84) rfl rfl (z_inc X (x := c) (lv' := [(8, .int (Int32.ofInt (c + 1))), (7, .int (Int32.ofInt (ru + 1))), (9, .int (Int32.ofInt (iC t 1 (((xv * 24) + c)).toNat))), (0, .ref (A 3)), (1, .int (Int32.ofInt xv)), (2, .long lw), (4, .long hw), (6, .int (Int32.ofInt sh))]) rfl (by decide) (List.Mem.tail _ (List.Mem.tail _ (List.Mem.tail _ (List.Mem.tail _ (List.Mem.tail _ (List.Mem.tail _ (List.Mem.tail _ (List.Mem.head _)))))))) (fun _ h => h) (z_goto X (t := 10) rfl rfl (WS_pq [3, 4, 5, 6, 7, 1, 0] (lv' := [(0, .ref (A 3)), (1, .int (Int32.ofInt xv)), (2, .long lw), (4, .long hw), (6, .int (Int32.ofInt sh)), (7, .int (Int32.ofInt (ru + 1))), (8, .int (Int32.ofInt (c + 1)))]) rfl ?_))))
              exact ih _ xv lw hw sh (ru + 1) (c + 1) I F ⟨hq.1, hq.2.1, shq_y hq.2.2 (by first | (clear g1010; omega) | omega) (wys_1 (by first | (clear g1010; omega) | omega) hin)⟩ (by first | exact ⟨And.intro (hi.1.1) (And.intro (hi.1.2.1) (hi.1.2.2)), And.intro (hi.2.1.1) (hi.2.1.2), And.intro (oq_54f49eb5 hi.2.2.1.1) (oq_8d48a029 hi.2.2.1.2), oq_8a89b3ae g1002 hz9, hi.2.2.2.2⟩ | omega) (by first | exact qk_me hm (by decide) (oq_9dea93e6 g1002 b1001.2) | omega) kx
        ·
          refine w_lload_n X.1 (ax_d X (show cdA 120 42 = some (.lload_n 2, 1, 0, 0, 0) from rfl)) (x := lw) (List.Mem.tail _ (List.Mem.tail _ (List.Mem.tail _ (List.Mem.head _)))) (z_goto X (t := 48) rfl rfl (z_load X (x := (iC t 1 (((xv * 24) + c)).toNat)) rfl (List.Mem.head _) (z_bipush X rfl (z_and63 X rfl (by omega) (z_jushr X rfl (w_lconst X.1 (ax_d X (show cdA 120 54 = some (.lconst 1, 1, 0, 0, 0) from rfl)) (z := (1 : Int64)) (by decide) (w_land X.1 (ax_d X (show cdA 120 55 = some (.land, 1, 0, 0, 0) from rfl)) (w_lconst X.1 (ax_d X (show cdA 120 56 = some (.lconst 0, 1, 0, 0, 0) from rfl)) (z := (0 : Int64)) (by decide) (z_jcmp X rfl (fun z1011 => ?_) (fun z1011 c1012 hc1012 ic1012 => ?_))))))))))
          ·
            refine z_if_eq X (t := 67) rfl rfl (by decide) (fun g1013 => ?_) (fun g1013 => ?_)
            ·
              have hin : ¬ inL lo hi0 (cwC s (x : Int).toNat (c : Int).toNat) := by rw [← hcl]; exact sb_n (by omega) (Or.inl ⟨by omega, hq.1⟩) z1011
              refine z_load X (x := ru) rfl (List.Mem.tail _ (List.Mem.tail _ (List.Mem.tail _ (List.Mem.tail _ (List.Mem.tail _ (List.Mem.tail _ (List.Mem.head _))))))) (z_if_le X (t := 84) rfl rfl ⟨by first | exact oq_fa4e5087 hi.2.2.1.1 | omega, by first | exact oq_2f5179e5 hi.2.2.1.2 g1002 b1001.2 | omega⟩ (fun g1014 => ?_) (fun g1014 => ?_))
              ·
                refine z_inc X (x := c) (lv' := [(8, .int (Int32.ofInt (c + 1))), (9, .int (Int32.ofInt (iC t 1 (((xv * 24) + c)).toNat))), (0, .ref (A 3)), (1, .int (Int32.ofInt xv)), (2, .long lw), (4, .long hw), (6, .int (Int32.ofInt sh)), (7, .int (Int32.ofInt ru))]) rfl (by decide) (List.Mem.tail _ (List.Mem.tail _ (List.Mem.tail _ (List.Mem.tail _ (List.Mem.tail _ (List.Mem.tail _ (List.Mem.tail _ (List.Mem.head _)))))))) (fun _ h => h) (z_goto X (t := 10) rfl rfl (WS_pq [2, 3, 4, 5, 6, 7, 0] (lv' := [(0, .ref (A 3)), (1, .int (Int32.ofInt xv)), (2, .long lw), (4, .long hw), (6, .int (Int32.ofInt sh)), (7, .int (Int32.ofInt ru)), (8, .int (Int32.ofInt (c + 1)))]) rfl ?_))
                exact ih _ xv lw hw sh ru (c + 1) I F ⟨hq.1, hq.2.1, shq_e hq.2.2 (by omega) (wys_0 hin) (by omega)⟩ (by first | exact ⟨And.intro (hi.1.1) (And.intro (hi.1.2.1) (hi.1.2.2)), And.intro (hi.2.1.1) (hi.2.1.2), And.intro (hi.2.2.1.1) (oq_03182e9e hi.2.2.1.2), oq_8a89b3ae g1002 hz9, hi.2.2.2.2⟩ | omega) (by first | exact qk_me hm (by decide) (oq_9dea93e6 g1002 b1001.2) | omega) kx
              ·
                refine z_load X (x := sh) rfl (List.Mem.tail _ (List.Mem.tail _ (List.Mem.tail _ (List.Mem.tail _ (List.Mem.tail _ (List.Mem.head _)))))) (z_load X (x := ru) rfl (List.Mem.tail _ (List.Mem.tail _ (List.Mem.tail _ (List.Mem.tail _ (List.Mem.tail _ (List.Mem.tail _ (List.Mem.head _))))))) (z_min X rfl ⟨by first | exact oq_fa4e5087 hi.2.1.1 | omega, by first | exact oq_5bcd337f hi.2.1.2 | omega⟩ ⟨by first | exact oq_97e58444 g1014 | omega, by first | exact oq_2f5179e5 hi.2.2.1.2 g1002 b1001.2 | omega⟩ (by rw [E.2.2.2]; decide) (by rw [E.2.2.2]; exact Nat.le_of_ble_eq_true rfl) (Nat.zero_le _) (Nat.zero_le _) (fun e1015 he1015 => ?_)))
                refine z_store X (lv' := [(6, .int (Int32.ofInt e1015)), (9, .int (Int32.ofInt (iC t 1 (((xv * 24) + c)).toNat))), (0, .ref (A 3)), (1, .int (Int32.ofInt xv)), (2, .long lw), (4, .long hw), (7, .int (Int32.ofInt ru)), (8, .int (Int32.ofInt c))]) rfl (by decide) (fun _ h => h) (z_const X rfl (z_store X (lv' := [(7, .int (Int32.ofInt 0)), (6, .int (Int32.ofInt e1015)), (9, .int (Int32.ofInt (iC t 1 (((xv * 24) + c)).toNat))), (0, .ref (A 3)), (1, .int (Int32.ofInt xv)), (2, .long lw), (4, .long hw), (8, .int (Int32.ofInt c))]) rfl (by decide) (fun _ h => h) (z_inc X (x := c) (lv' := [(8, .int (Int32.ofInt (c + 1))), (7, .int (Int32.ofInt 0)), (6, .int (Int32.ofInt e1015)), (9, .int (Int32.ofInt (iC t 1 (((xv * 24) + c)).toNat))), (0, .ref (A 3)), (1, .int (Int32.ofInt xv)), (2, .long lw), (4, .long hw)]) rfl (by decide) (List.Mem.tail _ (List.Mem.tail _ (List.Mem.tail _ (List.Mem.tail _ (List.Mem.tail _ (List.Mem.tail _ (List.Mem.tail _ (List.Mem.head _)))))))) (fun _ h => h) (z_goto X (t := 10) rfl rfl (WS_pq [4, 5, 6, 7, 2, 1, 0] (lv' := [(0, .ref (A 3)), (1, .int (Int32.ofInt xv)), (2, .long lw), (4, .long hw), (6, .int (Int32.ofInt e1015)), (7, .int (Int32.ofInt 0)), (8, .int (Int32.ofInt (c + 1)))]) rfl ?_)))))
                exact ih _ xv lw hw e1015 0 (c + 1) I F ⟨hq.1, hq.2.1, shq_m hq.2.2 (by omega) (wys_0 hin) (by omega) he1015⟩ (by first | exact ⟨And.intro (hi.1.1) (And.intro (hi.1.2.1) (hi.1.2.2)), oq_1253191b he1015 g1014 g1002 b1001.2 hi.2.2.1.2 hi.2.1.2 hi.2.1.1, And.intro (by decide) (oq_1b58957a hi.2.2.1.2 g1014), oq_8a89b3ae g1002 hz9, hi.2.2.2.2⟩ | omega) (by first | exact qk_me hm (by decide) (oq_9dea93e6 g1002 b1001.2) | omega) kx
            ·
              exfalso
              omega
          ·
            refine z_if_eq X (t := 67) rfl rfl ⟨by omega, by omega⟩ (fun g1016 => ?_) (fun g1016 => ?_)
            ·
              exfalso
              omega
            ·
              have hin : inL lo hi0 (cwC s (x : Int).toNat (c : Int).toNat) := by rw [← hcl]; exact sb_y (by first | (clear g1016; omega) | omega) (Or.inl ⟨by first | (clear g1016; omega) | omega, hq.1⟩) z1011
              refine z_inc X (x := ru) (lv' := [(7, .int (Int32.ofInt (ru + 1))), (9, .int (Int32.ofInt (iC t 1 (((xv * 24) + c)).toNat))), (0, .ref (A 3)), (1, .int (Int32.ofInt xv)), (2, .long lw), (4, .long hw), (6, .int (Int32.ofInt sh)), (8, .int (Int32.ofInt c))]) rfl (by decide) (List.Mem.tail _ (List.Mem.tail _ (List.Mem.tail _ (List.Mem.tail _ (List.Mem.tail _ (List.Mem.tail _ (List.Mem.head _))))))) (fun _ h => h) (z_goto X (t := 84) rfl rfl (z_inc X (x := c) (lv' := [(8, .int (Int32.ofInt (c + 1))), (7, .int (Int32.ofInt (ru + 1))), (9, .int (Int32.ofInt (iC t 1 (((xv * 24) + c)).toNat))), (0, .ref (A 3)), (1, .int (Int32.ofInt xv)), (2, .long lw), (4, .long hw), (6, .int (Int32.ofInt sh))]) rfl (by decide) (List.Mem.tail _ (List.Mem.tail _ (List.Mem.tail _ (List.Mem.tail _ (List.Mem.tail _ (List.Mem.tail _ (List.Mem.tail _ (List.Mem.head _)))))))) (fun _ h => h) (z_goto X (t := 10) rfl rfl (WS_pq [3, 4, 5, 6, 7, 1, 0] (lv' := [(0, .ref (A 3)), (1, .int (Int32.ofInt xv)), (2, .long lw), (4, .long hw), (6, .int (Int32.ofInt sh)), (7, .int (Int32.ofInt (ru + 1))), (8, .int (Int32.ofInt (c + 1)))]) rfl ?_))))
              exact ih _ xv lw hw sh (ru + 1) (c + 1) I F ⟨hq.1, hq.2.1, shq_y hq.2.2 (by first | (clear g1016; omega) | omega) (wys_1 (by first | (clear g1016; omega) | omega) hin)⟩ (by first | exact ⟨And.intro (hi.1.1) (And.intro (hi.1.2.1) (hi.1.2.2)), And.intro (hi.2.1.1) (hi.2.1.2), And.intro (oq_54f49eb5 hi.2.2.1.1) (oq_8d48a029 hi.2.2.1.2), oq_8a89b3ae g1002 hz9, hi.2.2.2.2⟩ | omega) (by first | exact qk_me hm (by decide) (oq_9dea93e6 g1002 b1001.2) | omega) kx
  refine z_bipush X rfl (z_store X (lv' := [(6, .int (Int32.ofInt 24)), (0, .ref (A 3)), (1, .int (Int32.ofInt x)), (2, .long lo), (4, .long hi0)]) rfl (by decide) (fun _ h => h) (z_const X rfl (z_store X (lv' := [(7, .int (Int32.ofInt 0)), (6, .int (Int32.ofInt 24)), (0, .ref (A 3)), (1, .int (Int32.ofInt x)), (2, .long lo), (4, .long hi0)]) rfl (by decide) (fun _ h => h) (z_const X rfl (z_store X (lv' := [(8, .int (Int32.ofInt 0)), (7, .int (Int32.ofInt 0)), (6, .int (Int32.ofInt 24)), (0, .ref (A 3)), (1, .int (Int32.ofInt x)), (2, .long lo), (4, .long hi0)]) rfl (by decide) (fun _ h => h) (WS_pq [3, 4, 5, 6, 2, 1, 0] (lv' := [(0, .ref (A 3)), (1, .int (Int32.ofInt x)), (2, .long lo), (4, .long hi0), (6, .int (Int32.ofInt 24)), (7, .int (Int32.ofInt 0)), (8, .int (Int32.ofInt 0))]) rfl (L10 ((24 - 0 : Int).toNat + 1) s x lo hi0 24 0 0 I F ⟨rfl, rfl, shq_0⟩ (by first | exact ⟨And.intro (by decide) (And.intro (p0.1) (p0.2)), And.intro (by decide) (by decide), And.intro (by decide) (by decide), hZ0.1, hZ0.2⟩ | omega) (Nat.lt_succ_self _) ?_)))))))
  intro s1 x2 x3 x4 Is1 Fs1 Qs1 hs1
  refine z_load X (x := x3) rfl (List.Mem.tail _ (List.Mem.tail _ (List.Mem.tail _ (List.Mem.tail _ (List.Mem.tail _ (List.Mem.head _)))))) (z_if_le X (t := 105) rfl rfl ⟨by first | exact oq_fa4e5087 hs1.2.1.1 | omega, by first | exact oq_e28c415a hs1.2.1.2 hs1.2.2.1 hs1.2.2.2 | omega⟩ (fun g5 => ?_) (fun g5 => ?_))
  ·
    refine z_load X (x := x2) rfl (List.Mem.tail _ (List.Mem.tail _ (List.Mem.tail _ (List.Mem.tail _ (List.Mem.head _))))) ?_
    exact w_iret X.1 q hRt rfl (ax_d X (show cdA 120 107 = some (.ireturn, 1, 0, 0, 0) from rfl)) (Nat.zero_le _) (Nat.zero_le _) ⟨_, rfl, Is1, Fs1, x2, rfl, ⟨by first | exact oq_fa4e5087 hs1.1.1 | omega, by first | exact oq_5bcd337f hs1.1.2 | omega⟩, ⟨⟨by first | exact hs1.1.1 | omega, by first | exact hs1.1.2 | omega⟩, by have z := shq_x Qs1.2.2 (wys_e (by omega)) (show ((x3 : Int) ≤ 0 ∧ (x2 : Int) = x2) ∨ (0 < (x3 : Int) ∧ (((x2 : Int) = x2 ∧ x2 ≤ x3) ∨ ((x2 : Int) = x3 ∧ x3 < x2))) by omega); rw [show x4 = (iC s 2 (x : Int).toNat) by omega] at z; exact z⟩⟩
  ·
    refine z_load X (x := x2) rfl (List.Mem.tail _ (List.Mem.tail _ (List.Mem.tail _ (List.Mem.tail _ (List.Mem.head _))))) (z_load X (x := x3) rfl (List.Mem.tail _ (List.Mem.tail _ (List.Mem.tail _ (List.Mem.tail _ (List.Mem.tail _ (List.Mem.head _)))))) (z_min X rfl ⟨by first | exact oq_fa4e5087 hs1.1.1 | omega, by first | exact oq_5bcd337f hs1.1.2 | omega⟩ ⟨by first | exact oq_97e58444 g5 | omega, by first | exact oq_e28c415a hs1.2.1.2 hs1.2.2.1 hs1.2.2.2 | omega⟩ (by rw [E.2.2.2]; decide) (by rw [E.2.2.2]; exact Nat.le_of_ble_eq_true rfl) (Nat.zero_le _) (Nat.zero_le _) (fun e6 he6 => ?_)))
    refine z_goto X (t := 107) rfl rfl ?_
    exact w_iret X.1 q hRt rfl (ax_d X (show cdA 120 107 = some (.ireturn, 1, 0, 0, 0) from rfl)) (Nat.zero_le _) (Nat.zero_le _) ⟨_, rfl, Is1, Fs1, e6, rfl, ⟨by first | exact oq_86d733fe he6 g5 hs1.1.1 | omega, by first | exact oq_28aa47c9 he6 hs1.1.2 | omega⟩, ⟨⟨by first | exact oq_d21c86c8 he6 g5 hs1.1.1 | omega, by first | exact oq_6d24c36f he6 hs1.1.2 | omega⟩, by have z := shq_x Qs1.2.2 (wys_e (by omega)) (show ((x3 : Int) ≤ 0 ∧ (e6 : Int) = x2) ∨ (0 < (x3 : Int) ∧ (((e6 : Int) = x2 ∧ x2 ≤ x3) ∨ ((e6 : Int) = x3 ∧ x3 < x2))) by omega); rw [show x4 = (iC s 2 (x : Int).toNat) by omega] at z; exact z⟩⟩
set_option maxRecDepth 4000 in
theorem c9_shorter6 (G : GX l s0 D tys a0 dT) (I : Bd s) {x : Int} {lo hi0 : Int64} (p0 : 0 ≤ x ∧ x ≤ 9) : CT l s0 D A dT 119 (rmN 119) [.ref (A 3), .int (Int32.ofInt x), .long lo, .long hi0] s (fun o t => Bd t ∧ Fm [] [] s t ∧ ∃ e, o = .inl (some (.int (Int32.ofInt e))) ∧ rng e ∧ (SHE (ShC (inL lo hi0) x s) (iI s 9) e)) := by
  refine ct_ofX G (by decide) (Nat.le_of_ble_eq_true rfl) (fun k X E ET hRt hXt q => ?_)
  show WS k 0 [(0, .ref (A 3)), (1, .int (Int32.ofInt x)), (2, .long lo), (4, .long hi0)] [] _ 0 0
  have F : Fm [] [] s s := fm_rf _ _ s
  have b1 := bi_9 I
  have L6 : ∀ (n : Nat) (t : PS) (xv : Int) (lw : Int64) (hw : Int64) (bi : Int) (c : Int), Bd t → Fm [] [] s t → (lw = lo ∧ hw = hi0 ∧ Int32.ofInt bi = btS (ShC (inL lo hi0) x s) (c : Int).toNat) → ((xv = x ∧ 0 ≤ x ∧ x ≤ 9) ∧ rng bi ∧ 0 ≤ c ∧ c ≤ iI s 9 ∧ iI t 9 = iI s 9) → (12 - c : Int).toNat < n → (∀ (t' : PS) (bi' : Int) (c' : Int), Bd t' → Fm [] [] s t' → (lw = lo ∧ hw = hi0 ∧ Int32.ofInt bi' = btS (ShC (inL lo hi0) x s) (c' : Int).toNat) → (rng bi' ∧ c' = iI s 9) → WS k 43 [(0, .ref (A 3)), (1, .int (Int32.ofInt xv)), (2, .long lw), (4, .long hw), (6, .int (Int32.ofInt bi')), (7, .int (Int32.ofInt c'))] [] (Wd A dT t') 0 0) → WS k 6 [(0, .ref (A 3)), (1, .int (Int32.ofInt xv)), (2, .long lw), (4, .long hw), (6, .int (Int32.ofInt bi)), (7, .int (Int32.ofInt c))] [] (Wd A dT t) 0 0 := by
    intro n
    induction n with
    | zero =>
      intro t xv lw hw bi c I F hq hi hm kx
      exact absurd hm (Nat.not_lt_zero _)
    | succ n ih =>
      intro t xv lw hw bi c I F hq hi hm kx
      have b1001 := bi_9 I
      refine z_load X (x := c) rfl (List.Mem.tail _ (List.Mem.tail _ (List.Mem.tail _ (List.Mem.tail _ (List.Mem.tail _ (List.Mem.head _)))))) (z_aload_n X (x := A 3) rfl (List.Mem.head _) (z_getI X 3 rfl (c518_ok rfl) rfl rfl ?_))
      have b1002 := bi_9 I
      refine z_icmp_ge X (t := 43) rfl rfl ⟨by first | exact oq_fa4e5087 hi.2.2.1 | omega, by first | exact oq_39d2cc6e hi.2.2.2.1 b1.2 | omega⟩ (rng_to _) (fun g1003 => ?_) (fun g1003 => ?_)
      ·
        refine WS_pq [0, 1, 2, 3, 4, 5] (lv' := [(0, .ref (A 3)), (1, .int (Int32.ofInt xv)), (2, .long lw), (4, .long hw), (6, .int (Int32.ofInt bi)), (7, .int (Int32.ofInt c))]) rfl ?_
        exact kx _ bi c I F hq (by first | exact ⟨And.intro (hi.2.1.1) (hi.2.1.2), oq_537ca82a hi.2.2.2.1 g1003 hi.2.2.2.2⟩ | omega)
      ·
        refine z_aload_n X (x := A 3) rfl (List.Mem.head _) (z_load X (x := c) rfl (List.Mem.tail _ (List.Mem.tail _ (List.Mem.tail _ (List.Mem.tail _ (List.Mem.tail _ (List.Mem.head _)))))) (w_lload_n X.1 (ax_d X (show cdA 119 18 = some (.lload_n 2, 1, 0, 0, 0) from rfl)) (x := lw) (List.Mem.tail _ (List.Mem.tail _ (List.Mem.head _))) (w_lload X.1 (ax_d X (show cdA 119 19 = some (.lload 4, 2, 0, 0, 0) from rfl)) (x := hw) (List.Mem.tail _ (List.Mem.tail _ (List.Mem.tail _ (List.Mem.head _)))) (zcV_i0 X E 3 (As := [.int (Int32.ofInt c), .long lw, .long hw]) (st := []) rfl rfl rfl rfl (c9_stretch6 G I (by first | exact ⟨hi.2.2.1, oq_e4d7f3c5 g1003 b1002.2⟩ | omega)) rfl (Nat.le_of_ble_eq_true rfl) (fun s1004 e1005 Is1004 Fs1004 hrs1004 hps1004 => ?_)))))
        have Gs1004 := fm_tq F Fs1004 rfl rfl
        have ws1004_9 : iI s1004 9 = iI t 9 := fm_iq Fs1004 rfl
        refine z_load_n X (x := xv) rfl (List.Mem.tail _ (List.Mem.head _)) (z_icmp_ge X (t := 37) rfl rfl hrs1004 ⟨by first | exact oq_b3df2c6f hi.1.1 hi.1.2.1 | omega, by first | exact oq_1b93903a hi.1.1 hi.1.2.2 | omega⟩ (fun g1006 => ?_) (fun g1006 => ?_))
        ·
          refine z_inc X (x := c) (lv' := [(7, .int (Int32.ofInt (c + 1))), (0, .ref (A 3)), (1, .int (Int32.ofInt xv)), (2, .long lw), (4, .long hw), (6, .int (Int32.ofInt bi))]) rfl (by decide) (List.Mem.tail _ (List.Mem.tail _ (List.Mem.tail _ (List.Mem.tail _ (List.Mem.tail _ (List.Mem.head _)))))) (fun _ h => h) (z_goto X (t := 6) rfl rfl (WS_pq [1, 2, 3, 4, 5, 0] (lv' := [(0, .ref (A 3)), (1, .int (Int32.ofInt xv)), (2, .long lw), (4, .long hw), (6, .int (Int32.ofInt bi)), (7, .int (Int32.ofInt (c + 1)))]) rfl ?_))
          exact ih _ xv lw hw bi (c + 1) Is1004 Gs1004 ⟨hq.1, hq.2.1, btq_n hq.2.2 (by omega) (fun z => absurd ((hps1004.2 x (by omega)).mpr (by rw [hq.1, hq.2.1]; exact (shc_t (sam_fm F List.not_mem_nil) (sam_fm F List.not_mem_nil)).mpr z)) (by omega))⟩ (by first | exact ⟨And.intro (hi.1.1) (And.intro (hi.1.2.1) (hi.1.2.2)), And.intro (hi.2.1.1) (hi.2.1.2), oq_54f49eb5 hi.2.2.1, oq_8a89b3ae g1003 hi.2.2.2.2, oq_1aa5be9e ws1004_9 hi.2.2.2.2⟩ | omega) (by first | exact qk_me hm (by decide) (oq_b575e8c1 g1003 b1002.2) | omega) kx
        ·
          refine z_load X (x := bi) rfl (List.Mem.tail _ (List.Mem.tail _ (List.Mem.tail _ (List.Mem.tail _ (List.Mem.head _))))) (z_const X rfl (z_load X (x := c) rfl (List.Mem.tail _ (List.Mem.tail _ (List.Mem.tail _ (List.Mem.tail _ (List.Mem.tail _ (List.Mem.head _)))))) (z_bshl X rfl (z_anyV (fun y1007 hy1007 ey1007 => ?_)))))
          refine w_ior X.1 (ax_d X (show cdA 119 34 = some (.ior, 1, 0, 0, 0) from rfl)) (z_anyV (fun y1008 hy1008 ey1008 => ?_))
          refine z_store X (lv' := [(6, .int (Int32.ofInt y1008)), (0, .ref (A 3)), (1, .int (Int32.ofInt xv)), (2, .long lw), (4, .long hw), (7, .int (Int32.ofInt c))]) rfl (by decide) (fun _ h => h) (z_inc X (x := c) (lv' := [(7, .int (Int32.ofInt (c + 1))), (6, .int (Int32.ofInt y1008)), (0, .ref (A 3)), (1, .int (Int32.ofInt xv)), (2, .long lw), (4, .long hw)]) rfl (by decide) (List.Mem.tail _ (List.Mem.tail _ (List.Mem.tail _ (List.Mem.tail _ (List.Mem.tail _ (List.Mem.head _)))))) (fun _ h => h) (z_goto X (t := 6) rfl rfl (WS_pq [2, 3, 4, 5, 1, 0] (lv' := [(0, .ref (A 3)), (1, .int (Int32.ofInt xv)), (2, .long lw), (4, .long hw), (6, .int (Int32.ofInt y1008)), (7, .int (Int32.ofInt (c + 1)))]) rfl ?_)))
          exact ih _ xv lw hw y1008 (c + 1) Is1004 Gs1004 ⟨hq.1, hq.2.1, btq_y hq.2.2 (by omega) ((shc_t (sam_fm F List.not_mem_nil) (sam_fm F List.not_mem_nil)).mp (show ShC (inL lo hi0) x t (c : Int).toNat from by rw [← hq.1, ← hq.2.1]; exact (hps1004.2 x (by omega)).mp (by omega))) ey1007 ey1008⟩ (by first | exact ⟨And.intro (hi.1.1) (And.intro (hi.1.2.1) (hi.1.2.2)), And.intro (hy1008.1) (hy1008.2), oq_54f49eb5 hi.2.2.1, oq_8a89b3ae g1003 hi.2.2.2.2, oq_1aa5be9e ws1004_9 hi.2.2.2.2⟩ | omega) (by first | exact qk_me hm (by decide) (oq_b575e8c1 g1003 b1002.2) | omega) kx
  refine z_const X rfl (z_store X (lv' := [(6, .int (Int32.ofInt 0)), (0, .ref (A 3)), (1, .int (Int32.ofInt x)), (2, .long lo), (4, .long hi0)]) rfl (by decide) (fun _ h => h) (z_const X rfl (z_store X (lv' := [(7, .int (Int32.ofInt 0)), (6, .int (Int32.ofInt 0)), (0, .ref (A 3)), (1, .int (Int32.ofInt x)), (2, .long lo), (4, .long hi0)]) rfl (by decide) (fun _ h => h) (WS_pq [2, 3, 4, 5, 1, 0] (lv' := [(0, .ref (A 3)), (1, .int (Int32.ofInt x)), (2, .long lo), (4, .long hi0), (6, .int (Int32.ofInt 0)), (7, .int (Int32.ofInt 0))]) rfl (L6 ((12 - 0 : Int).toNat + 1) s x lo hi0 0 0 I F ⟨rfl, rfl, rfl⟩ (by first | exact ⟨And.intro (by decide) (And.intro (p0.1) (p0.2)), And.intro (by decide) (by decide), by decide, b1.1, by decide⟩ | omega) (Nat.lt_succ_self _) ?_)))))
  intro s2 x3 x4 Is2 Fs2 Qs2 hs2
  have b5 := bi_9 Is2
  refine z_load X (x := x3) rfl (List.Mem.tail _ (List.Mem.tail _ (List.Mem.tail _ (List.Mem.tail _ (List.Mem.head _))))) ?_
  exact w_iret X.1 q hRt rfl (ax_d X (show cdA 119 45 = some (.ireturn, 1, 0, 0, 0) from rfl)) (Nat.zero_le _) (Nat.zero_le _) ⟨_, rfl, Is2, Fs2, x3, rfl, ⟨by first | exact hs2.1.1 | omega, by first | exact hs2.1.2 | omega⟩, ⟨⟨by first | exact hs2.1.1 | omega, by first | exact hs2.1.2 | omega⟩, by have z := Qs2.2.2; rw [show x4 = iI s 9 by omega] at z; exact z⟩⟩
set_option maxRecDepth 4000 in
theorem cs_shorts6 (G : GX l s0 D tys a0 dT) (I : Bd s) (jPMJ : PMJ s) {u : Int} (p0 : rng u) : CT l s0 D A dT 150 (rmN 150) [.ref (A 0), .int (Int32.ofInt u)] s (fun o t => Bd t ∧ Fm [] [] s t ∧ ((∃ e, o = .inl (some (.int (Int32.ofInt e))) ∧ rng e ∧ ((0 ≤ u ∧ u ≤ 7) ∧ SHE (ShC (pcS (pfC s) u) (iI s 21) s) (iI s 9) e)) ∨ ∃ x : Nat, o = .inr (exN x) ∧ (x = 0 ∧ (u < 0 ∨ 7 < u)))) := by
  refine ct_ofX G (by decide) (Nat.le_of_ble_eq_true rfl) (fun k X E ET hRt hXt q => ?_)
  show WS k 0 [(0, .ref (A 0)), (1, .int (Int32.ofInt u))] [] _ 0 0
  have F : Fm [] [] s s := fm_rf _ _ s
  have b1 := bi_9 I
  have b2 := bi_21 I
  refine z_aload_n X (x := A 0) rfl (List.Mem.head _) (z_load_n X (x := u) rfl (List.Mem.tail _ (List.Mem.head _)) (z_callV X 0 (rm := rmN 182) (As := [.int (Int32.ofInt u)]) (st := []) rfl rfl (by decide) rfl (by rw [E.1, E.2.1, E.2.2.1]; exact cs_needPiece6 G I (by first | exact ⟨p0.1, p0.2⟩ | omega)) ⟨by rw [E.2.2.2]; exact (show (rmN 182).frames + 1 ≤ (rmN 150).frames by decide), by rw [E.2.2.2]; exact (show 8 + (mNL (miB 182) + 11) + (rmN 182).locals ≤ (rmN 150).locals by decide), by rw [E.2.2.2]; exact (show 0 + 1 ≤ 1 by decide), by rw [E.2.2.2]; exact (show 0 + 6 ≤ 6 by decide)⟩ (Nat.le_of_ble_eq_true rfl) (fun vv s3 hq => ?_) (fun ee s3 hq => ?_)))
  rotate_left
  · obtain ⟨Is3, Fs3, (⟨hv, hps3⟩ | ⟨xx, hv, hps3⟩)⟩ := hq
    · cases hv
    · cases hv
      have Gs3 := fm_tq F Fs3 rfl rfl
      have JPMJ_s3 : PMJ s3 := PMJ_fm Fs3 (by decide) jPMJ
      have ws3_9 : iI s3 9 = iI s 9 := fm_iq Fs3 rfl
      have ws3_21 : iI s3 21 = iI s 21 := fm_iq Fs3 rfl
      exact x_out X.1 q (fun x hx => (hXt x hx).elim) (show 1 ≤ 1 by decide) (show 6 ≤ 6 by decide) ⟨_, rfl, Is3, Gs3, Or.inr ⟨xx, rfl, by omega⟩⟩
  obtain ⟨Is3, Fs3, (⟨hv, hps3⟩ | ⟨xx, hv, hps3⟩)⟩ := hq
  rotate_left
  · cases hv
  cases hv
  have Gs3 := fm_tq F Fs3 rfl rfl
  have JPMJ_s3 : PMJ s3 := PMJ_fm Fs3 (by decide) jPMJ
  have ws3_9 : iI s3 9 = iI s 9 := fm_iq Fs3 rfl
  have ws3_21 : iI s3 21 = iI s 21 := fm_iq Fs3 rfl
  show WS k 5 [(0, .ref (A 0)), (1, .int (Int32.ofInt u))] [] (Wd A dT s3) 1 6
  refine z_aload_n X (x := A 0) rfl (List.Mem.head _) (s_getR X 0 rfl (c518_ok rfl) rfl rfl (z_aload_n X (x := A 0) rfl (List.Mem.head _) (s_getR X 0 rfl (c518_ok rfl) rfl rfl (z_getI X 25 rfl (c518_ok rfl) rfl rfl ?_))))
  have b5 := bi_21 Is3
  refine z_aload_n X (x := A 0) rfl (List.Mem.head _) (s_getR X 0 rfl (c518_ok rfl) rfl rfl (s_getR X 25 rfl (c518_ok rfl) rfl rfl (z_load_n X (x := u) rfl (List.Mem.tail _ (List.Mem.head _)) (z_lalE X 27 rfl (by decide) rfl (by first | exact hps3.1 | omega) (show u < 8 by first | exact oq_aaea290e hps3.2 | omega) (by decide) (z_aload_n X (x := A 0) rfl (List.Mem.head _) (s_getR X 0 rfl (c518_ok rfl) rfl rfl (s_getR X 25 rfl (c518_ok rfl) rfl rfl (z_load_n X (x := u) rfl (List.Mem.tail _ (List.Mem.head _)) (z_lalE X 28 rfl (by decide) rfl (by first | exact hps3.1 | omega) (show u < 8 by first | exact oq_aaea290e hps3.2 | omega) (by decide) (z_callV X 3 (rm := rmN 119) (As := [.int (Int32.ofInt (iI s3 21)), .long (gD s3 22 (u).toNat), .long (gD s3 23 (u).toNat)]) (st := []) rfl rfl (by decide) rfl (by rw [E.1, E.2.1, E.2.2.1]; exact c9_shorter6 G Is3 (by first | exact ⟨b5.1, b5.2⟩ | omega)) ⟨by rw [E.2.2.2]; exact (show (rmN 119).frames + 1 ≤ (rmN 150).frames by decide), by rw [E.2.2.2]; exact (show 8 + (mNL (miB 119) + 11) + (rmN 119).locals ≤ (rmN 150).locals by decide), by rw [E.2.2.2]; exact (show 1 + 0 ≤ 1 by decide), by rw [E.2.2.2]; exact (show 6 + 0 ≤ 6 by decide)⟩ (Nat.le_of_ble_eq_true rfl) (fun vv s6 hq => ?_) (fun ee s6 hq => ?_)))))))))))
  rotate_left
  · obtain ⟨Is6, Fs6, e7, hv, hrs6, hps6⟩ := hq; cases hv
  obtain ⟨Is6, Fs6, e7, hv, hrs6, hps6⟩ := hq
  cases hv
  have Gs6 := fm_tq Gs3 Fs6 rfl rfl
  have ws6_9 : iI s6 9 = iI s3 9 := fm_iq Fs6 rfl
  have ws6_21 : iI s6 21 = iI s3 21 := fm_iq Fs6 rfl
  show WS k 37 [(0, .ref (A 0)), (1, .int (Int32.ofInt u))] [.int (Int32.ofInt e7)] (Wd A dT s6) 1 6
  exact w_iret X.1 q hRt rfl (ax_d X (show cdA 150 37 = some (.ireturn, 1, 0, 0, 0) from rfl)) (show 1 ≤ 1 by decide) (show 6 ≤ 6 by decide) ⟨_, rfl, Is6, Gs6, Or.inl ⟨e7, rfl, hrs6, ⟨by first | exact ⟨hps3.1, hps3.2⟩ | omega, she_c hps6 (fun k => by rw [pm_eq (p := u) JPMJ_s3 (by first | (clear hps3; omega) | omega), show pfC s3 = pfC s from funext (fun j => fm_c Gs3 (by decide)), show iI s3 21 = iI s 21 by first | (clear hps3; omega) | omega]; exact shc_t (sam_fm Gs3 (by decide)) (sam_fm Gs3 (by decide))) (by first | (clear hps3; omega) | omega)⟩⟩⟩
set_option maxRecDepth 4000 in
theorem lw_shorts6 (G : GX l s0 D tys a0 dT) (I : Bd s) (jPMJ : PMJ s) {u : Int} (p0 : rng u) : CTL l s0 D A dT 327 (rmN 327) [.ref (A 0), .int (Int32.ofInt u), .ref (A 517)] s (fun o t => Bd t ∧ Fm [] [1460] s t ∧ ∃ e, o = .inl (some (.int (Int32.ofInt e))) ∧ rng e ∧ ((e = 0 ∧ (0 ≤ u ∧ u ≤ 7) ∧ SHE (ShC (pcS (pfC s) u) (iI s 21) s) (iI s 9) (iO t)) ∨ (e = 1 ∧ (u < 0 ∨ 7 < u)))) := by
  refine ctL_of G (by decide) (Nat.le_of_ble_eq_true rfl) (by decide) rfl (fun k X E ET hRt hEx q => ?_)
  show WS k 0 [(0, .ref (A 0)), (1, .int (Int32.ofInt u)), (2, .ref (A 517))] [] _ 0 0
  have F : Fm [] [1460] s s := fm_rf _ _ s
  have hA := swA_rf A
  refine z_aload_n X (x := A 517) rfl (List.Mem.tail _ (List.Mem.tail _ (List.Mem.head _))) (z_const X rfl (z_aload_n X (x := A 0) rfl (List.Mem.head _) (z_load_n X (x := u) rfl (List.Mem.tail _ (List.Mem.head _)) (z_callV X 0 (rm := rmN 150) (As := [.int (Int32.ofInt u)]) (st := [.int (Int32.ofInt 0), .ref (A 517)]) rfl rfl (by decide) rfl (by rw [E.1, E.2.1, E.2.2.1]; exact cs_shorts6 G I jPMJ (by omega)) ⟨by rw [E.2.2.2]; exact (show (rmN 150).frames + 1 ≤ (rmN 327).frames by decide), by rw [E.2.2.2]; exact (show 8 + (mNL (miB 150) + 11) + (rmN 150).locals ≤ (rmN 327).locals by decide), by rw [E.2.2.2]; exact (show 0 + (rmN 150).cells ≤ (rmN 327).cells by decide), by rw [E.2.2.2]; exact (show 0 + (rmN 150).slots ≤ (rmN 327).slots by decide)⟩ (Nat.le_of_ble_eq_true rfl) (fun vv s1 hq => ?_) (fun ee s1 hq => ?_)))))
  rotate_left
  · obtain ⟨Is1, Fs1, (⟨e2, hv, hrs1, hps1⟩ | ⟨xx, hv, hps1⟩)⟩ := hq
    · cases hv
    · cases hv
      rcases (show xx = 0 by omega) with gx
      ·
        subst gx
        have Gs1 := fm_tq F Fs1 rfl rfl
        refine (hEx 4 0).2 12 rfl _ _ _ _ _ (fun q1 => ?_)
        show WS k 12 [(0, .ref (A 0)), (1, .int (Int32.ofInt u)), (2, .ref (A 517))] [.ref q1] (Wd A dT s1) 1 6
        refine z_astore_n X (lv' := [(3, .ref q1), (0, .ref (A 0)), (1, .int (Int32.ofInt u)), (2, .ref (A 517))]) rfl (by decide) (fun _ h => h) (z_const X rfl ?_)
        exact w_iret X.1 q hRt rfl (ax_d X (show cdA 327 14 = some (.ireturn, 1, 0, 0, 0) from rfl)) (show 1 ≤ 1 by decide) (show 6 ≤ 6 by decide) ⟨A, _, hA, rfl, Is1, Gs1, 1, rfl, (by decide), Or.inr ⟨by decide, by omega⟩⟩
  obtain ⟨Is1, Fs1, (⟨e2, hv, hrs1, hps1⟩ | ⟨xx, hv, hps1⟩)⟩ := hq
  rotate_left
  · cases hv
  cases hv
  have Gs1 := fm_tq F Fs1 rfl rfl
  show WS k 7 [(0, .ref (A 0)), (1, .int (Int32.ofInt u)), (2, .ref (A 517))] [.int (Int32.ofInt e2), .int (Int32.ofInt 0), .ref (A 517)] (Wd A dT s1) 1 6
  refine w_i2l X.1 (ax_d X (show cdA 327 7 = some (.i2l, 1, 0, 0, 0) from rfl)) (z_last X 517 rfl (c518_ok rfl) rfl (by first | (clear hps1; omega) | omega) (show 0 < 1 by first | (clear hps1; omega) | omega) (cbig_ok rfl) (wd_gen (fun s3 hs3 => ?_)))
  have Is3 : Bd s3 := eqB hs3 (bd_D Is1)
  have Fs3 : Fm [] [1460] s s3 := by rw [hs3]; exact fm_D Gs1 (show 460 + 1000 ∈ _ by decide)
  have oos3 : iO s3 = e2 := by rw [hs3]; exact iO_u (by first | (clear hps1; omega) | omega)
  refine z_goto X (t := 15) rfl rfl (z_const X rfl ?_)
  exact w_iret X.1 q hRt rfl (ax_d X (show cdA 327 16 = some (.ireturn, 1, 0, 0, 0) from rfl)) (show 1 ≤ 1 by decide) (show 6 ≤ 6 by decide) ⟨A, _, hA, rfl, Is3, Fs3, 0, rfl, (by decide), Or.inl ⟨by decide, by first | (clear hps1; omega) | omega, by rw [show iO s3 = e2 by first | (clear hps1; omega) | omega]; exact hps1.2⟩⟩
set_option maxRecDepth 4000 in
theorem k_shorts6 (G : GX l s0 D tys a0 dT) (I : Bd s) {x : Int} (p0 : rng x) : CT l s0 D A dT 243 (rmN 243) [.ref (A 179), .int (Int32.ofInt x)] s (fun o t => Bd t ∧ Fm [73] [] s t ∧ ∃ e, o = .inl (some (.int (Int32.ofInt e))) ∧ rng e ∧ (((0 ≤ x ∧ x ≤ 7) ∧ iI t 73 = 0 ∧ SHE (ShM (pcS (pfM s) x) (iI s 95) s) (iI s 90) e) ∨ ((x < 0 ∨ 7 < x) ∧ iI t 73 = 1))) := by
  refine ct_of G (by decide) (Nat.le_of_ble_eq_true rfl) (fun k X E hRt hXt q => ?_)
  show WS k 0 [(0, .ref (A 179)), (1, .int (Int32.ofInt x))] [] _ 0 0
  have F : Fm [73] [] s s := fm_rf _ _ s
  have b1 := bi_73 I
  have b2 := bi_90 I
  have b3 := bi_95 I
  have L48 : ∀ (n : Nat) (t : PS) (xv bi c ru kw : Int), Bd t → Fm [73] [] s t → (MBQ (btS (ShM (pcS (pfM s) x) (iI s 95) s) (c : Int).toNat) (wyS (pcS (pfM s) x) (cwM s (c : Int).toNat) (iC s 162 (c : Int).toNat)) (iI s 95) c bi ru kw) → ((xv = x ∧ 0 ≤ x ∧ x ≤ 7) ∧ rng bi ∧ (0 ≤ c ∧ c < iI s 90) ∧ (0 ≤ ru ∧ ru ≤ kw) ∧ kw ≤ iC s 162 (c : Int).toNat + 1 ∧ (iI t 73 = 0 ∧ iI t 90 = iI s 90 ∧ iI t 95 = iI s 95)) → (26 - kw : Int).toNat < n → (∀ (t' : PS) (bi' ru' kw' : Int), Bd t' → Fm [73] [] s t' → (MBQ (btS (ShM (pcS (pfM s) x) (iI s 95) s) (c : Int).toNat) (wyS (pcS (pfM s) x) (cwM s (c : Int).toNat) (iC s 162 (c : Int).toNat)) (iI s 95) c bi' ru' kw') → ((xv = x ∧ 0 ≤ x ∧ x ≤ 7) ∧ rng bi' ∧ (0 ≤ c ∧ c < iI s 90) ∧ kw' = iC s 162 (c : Int).toNat + 1 ∧ 0 ≤ kw' ∧ (iI t' 73 = 0 ∧ iI t' 90 = iI s 90 ∧ iI t' 95 = iI s 95)) → WS k 141 [(0, .ref (A 179)), (1, .int (Int32.ofInt xv)), (2, .int (Int32.ofInt bi')), (3, .int (Int32.ofInt c)), (4, .int (Int32.ofInt ru')), (5, .int (Int32.ofInt kw'))] [] (Wd A dT t') 0 0) → WS k 48 [(0, .ref (A 179)), (1, .int (Int32.ofInt xv)), (2, .int (Int32.ofInt bi)), (3, .int (Int32.ofInt c)), (4, .int (Int32.ofInt ru)), (5, .int (Int32.ofInt kw))] [] (Wd A dT t) 0 0 := by
    intro n
    induction n with
    | zero =>
      intro t xv bi c ru kw I F hq hi hm kx
      exact absurd hm (Nat.not_lt_zero _)
    | succ n ih =>
      intro t xv bi c ru kw I F hq hi hm kx
      have b1001 := bi_73 I
      have b1002 := bi_90 I
      have b1003 := bi_95 I
      have hz9 : iC t 162 (c : Int).toNat = (iC s 162 (c : Int).toNat) := fm_c F List.not_mem_nil
      refine z_load X (x := kw) rfl (List.Mem.tail _ (List.Mem.tail _ (List.Mem.tail _ (List.Mem.tail _ (List.Mem.tail _ (List.Mem.head _)))))) (z_aload_n X (x := A 179) rfl (List.Mem.head _) (s_getR X 179 rfl (c518_ok rfl) rfl rfl (z_load_n X (x := c) rfl (List.Mem.tail _ (List.Mem.tail _ (List.Mem.tail _ (List.Mem.head _)))) (z_ald X 185 rfl (c518_ok rfl) rfl (by first | exact hi.2.2.1.1 | omega) (show c < 12 by first | exact oq_f36e82a8 hi.2.2.1.2 b2.2 | omega) (cbig_ok rfl) ?_))))
      have b1004 := bc_162 I (show (c).toNat < 12 by first | exact oq_2dac6850 hi.2.2.1.2 b2.2 | omega)
      refine z_icmp_gt X (t := 141) rfl rfl ⟨by first | exact oq_e001bc0d hi.2.2.2.1.2 hi.2.2.2.1.1 | omega, by first | exact oq_98dba964 hi.2.2.2.2.1 hz9 b1004.2 | omega⟩ (rng_to _) (fun g1005 => ?_) (fun g1005 => ?_)
      ·
        refine WS_pq [0, 1, 2, 3, 4, 5] (lv' := [(0, .ref (A 179)), (1, .int (Int32.ofInt xv)), (2, .int (Int32.ofInt bi)), (3, .int (Int32.ofInt c)), (4, .int (Int32.ofInt ru)), (5, .int (Int32.ofInt kw))]) rfl ?_
        exact kx _ bi ru kw I F hq (by first | exact ⟨And.intro (hi.1.1) (And.intro (hi.1.2.1) (hi.1.2.2)), And.intro (hi.2.1.1) (hi.2.1.2), And.intro (hi.2.2.1.1) (hi.2.2.1.2), oq_4ab5b7c2 hi.2.2.2.2.1 hz9 g1005, oq_e4c35dd7 g1005 b1004.1, hi.2.2.2.2.2.1, hi.2.2.2.2.2.2.1, hi.2.2.2.2.2.2.2⟩ | omega)
      ·
        refine z_load X (x := kw) rfl (List.Mem.tail _ (List.Mem.tail _ (List.Mem.tail _ (List.Mem.tail _ (List.Mem.tail _ (List.Mem.head _)))))) (z_aload_n X (x := A 179) rfl (List.Mem.head _) (s_getR X 179 rfl (c518_ok rfl) rfl rfl (z_load_n X (x := c) rfl (List.Mem.tail _ (List.Mem.tail _ (List.Mem.tail _ (List.Mem.head _)))) (z_ald X 185 rfl (c518_ok rfl) rfl (by first | exact hi.2.2.1.1 | omega) (show c < 12 by first | exact oq_f36e82a8 hi.2.2.1.2 b2.2 | omega) (cbig_ok rfl) ?_))))
        have b1006 := bc_162 I (show (c).toNat < 12 by first | exact oq_2dac6850 hi.2.2.1.2 b2.2 | omega)
        refine z_icmp_ge X (t := 92) rfl rfl ⟨by first | exact oq_e001bc0d hi.2.2.2.1.2 hi.2.2.2.1.1 | omega, by first | exact oq_403249cf g1005 b1006.2 | omega⟩ (rng_to _) (fun g1007 => ?_) (fun g1007 => ?_)
        ·
          have hw : (wyS (pcS (pfM s) x) (cwM s (c : Int).toNat) (iC s 162 (c : Int).toNat)) (kw : Int).toNat ≠ 1 := wys_e (by omega)
          refine z_const X rfl (z_store X (lv' := [(6, .int (Int32.ofInt 0)), (0, .ref (A 179)), (1, .int (Int32.ofInt xv)), (2, .int (Int32.ofInt bi)), (3, .int (Int32.ofInt c)), (4, .int (Int32.ofInt ru)), (5, .int (Int32.ofInt kw))]) rfl (by decide) (fun _ h => h) (z_load X (x := 0) rfl (List.Mem.head _) (z_if_ne X (t := 120) rfl rfl (by decide) (fun g1008 => ?_) (fun g1008 => ?_))))
          ·
            exfalso
            omega
          ·
            refine z_load X (x := ru) rfl (List.Mem.tail _ (List.Mem.tail _ (List.Mem.tail _ (List.Mem.tail _ (List.Mem.tail _ (List.Mem.head _)))))) (z_if_le X (t := 120) rfl rfl ⟨by first | exact oq_fa4e5087 hi.2.2.2.1.1 | omega, by first | exact oq_884afd68 hi.2.2.2.1.2 g1005 b1006.2 | omega⟩ (fun g1009 => ?_) (fun g1009 => ?_))
            ·
              refine z_load X (x := 0) rfl (List.Mem.head _) (z_if_eq X (t := 132) rfl rfl (by decide) (fun g1010 => ?_) (fun g1010 => ?_))
              ·
                refine z_const X rfl (z_store X (lv' := [(4, .int (Int32.ofInt 0)), (6, .int (Int32.ofInt 0)), (0, .ref (A 179)), (1, .int (Int32.ofInt xv)), (2, .int (Int32.ofInt bi)), (3, .int (Int32.ofInt c)), (5, .int (Int32.ofInt kw))]) rfl (by decide) (fun _ h => h) (z_inc X (x := kw) (lv' := [(5, .int (Int32.ofInt (kw + 1))), (4, .int (Int32.ofInt 0)), (6, .int (Int32.ofInt 0)), (0, .ref (A 179)), (1, .int (Int32.ofInt xv)), (2, .int (Int32.ofInt bi)), (3, .int (Int32.ofInt c))]) rfl (by decide) (List.Mem.tail _ (List.Mem.tail _ (List.Mem.tail _ (List.Mem.tail _ (List.Mem.tail _ (List.Mem.tail _ (List.Mem.head _))))))) (fun _ h => h) (z_goto X (t := 48) rfl rfl (WS_pq [3, 4, 5, 6, 1, 0] (lv' := [(0, .ref (A 179)), (1, .int (Int32.ofInt xv)), (2, .int (Int32.ofInt bi)), (3, .int (Int32.ofInt c)), (4, .int (Int32.ofInt 0)), (5, .int (Int32.ofInt (kw + 1)))]) rfl ?_))))
                exact ih _ xv bi c 0 (kw + 1) I F (mbq_n hq (by omega) hw (by omega)) (by first | exact ⟨And.intro (hi.1.1) (And.intro (hi.1.2.1) (hi.1.2.2)), And.intro (hi.2.1.1) (hi.2.1.2), And.intro (hi.2.2.1.1) (hi.2.2.1.2), And.intro (by decide) (oq_d5439a31 g1007 b1006.1), oq_cb2f634e hz9 g1005, hi.2.2.2.2.2.1, hi.2.2.2.2.2.2.1, hi.2.2.2.2.2.2.2⟩ | omega) (by first | exact qk_me hm (by decide) (oq_b98a5654 g1005 b1006.2) | omega) kx
              ·
                exfalso
                omega
            ·
              refine z_load X (x := ru) rfl (List.Mem.tail _ (List.Mem.tail _ (List.Mem.tail _ (List.Mem.tail _ (List.Mem.tail _ (List.Mem.head _)))))) (z_aload_n X (x := A 179) rfl (List.Mem.tail _ (List.Mem.head _)) (z_getI X 179 rfl (c518_ok rfl) rfl rfl ?_))
              have b1011 := bi_95 I
              refine z_icmp_ge X (t := 120) rfl rfl ⟨by first | exact oq_97e58444 g1009 | omega, by first | exact oq_884afd68 hi.2.2.2.1.2 g1005 b1006.2 | omega⟩ (rng_to _) (fun g1012 => ?_) (fun g1012 => ?_)
              ·
                refine z_load X (x := 0) rfl (List.Mem.head _) (z_if_eq X (t := 132) rfl rfl (by decide) (fun g1013 => ?_) (fun g1013 => ?_))
                ·
                  refine z_const X rfl (z_store X (lv' := [(4, .int (Int32.ofInt 0)), (6, .int (Int32.ofInt 0)), (0, .ref (A 179)), (1, .int (Int32.ofInt xv)), (2, .int (Int32.ofInt bi)), (3, .int (Int32.ofInt c)), (5, .int (Int32.ofInt kw))]) rfl (by decide) (fun _ h => h) (z_inc X (x := kw) (lv' := [(5, .int (Int32.ofInt (kw + 1))), (4, .int (Int32.ofInt 0)), (6, .int (Int32.ofInt 0)), (0, .ref (A 179)), (1, .int (Int32.ofInt xv)), (2, .int (Int32.ofInt bi)), (3, .int (Int32.ofInt c))]) rfl (by decide) (List.Mem.tail _ (List.Mem.tail _ (List.Mem.tail _ (List.Mem.tail _ (List.Mem.tail _ (List.Mem.tail _ (List.Mem.head _))))))) (fun _ h => h) (z_goto X (t := 48) rfl rfl (WS_pq [3, 4, 5, 6, 1, 0] (lv' := [(0, .ref (A 179)), (1, .int (Int32.ofInt xv)), (2, .int (Int32.ofInt bi)), (3, .int (Int32.ofInt c)), (4, .int (Int32.ofInt 0)), (5, .int (Int32.ofInt (kw + 1)))]) rfl ?_))))
                  exact ih _ xv bi c 0 (kw + 1) I F (mbq_n hq (by omega) hw (by omega)) (by first | exact ⟨And.intro (hi.1.1) (And.intro (hi.1.2.1) (hi.1.2.2)), And.intro (hi.2.1.1) (hi.2.1.2), And.intro (hi.2.2.1.1) (hi.2.2.1.2), And.intro (by decide) (oq_d5439a31 g1007 b1006.1), oq_cb2f634e hz9 g1005, hi.2.2.2.2.2.1, hi.2.2.2.2.2.2.1, hi.2.2.2.2.2.2.2⟩ | omega) (by first | exact qk_me hm (by decide) (oq_b98a5654 g1005 b1006.2) | omega) kx
                ·
                  exfalso
                  omega
              ·
                refine z_load_n X (x := bi) rfl (List.Mem.tail _ (List.Mem.tail _ (List.Mem.tail _ (List.Mem.head _)))) (z_const X rfl (z_load_n X (x := c) rfl (List.Mem.tail _ (List.Mem.tail _ (List.Mem.tail _ (List.Mem.tail _ (List.Mem.head _))))) (z_bshl X rfl (z_anyV (fun y1014 hy1014 ey1014 => ?_)))))
                refine w_ior X.1 (ax_d X (show cdA 243 118 = some (.ior, 1, 0, 0, 0) from rfl)) (z_anyV (fun y1015 hy1015 ey1015 => ?_))
                refine z_store_n X (lv' := [(2, .int (Int32.ofInt y1015)), (6, .int (Int32.ofInt 0)), (0, .ref (A 179)), (1, .int (Int32.ofInt xv)), (3, .int (Int32.ofInt c)), (4, .int (Int32.ofInt ru)), (5, .int (Int32.ofInt kw))]) rfl (by decide) (fun _ h => h) (z_load X (x := 0) rfl (List.Mem.tail _ (List.Mem.head _)) (z_if_eq X (t := 132) rfl rfl (by decide) (fun g1016 => ?_) (fun g1016 => ?_)))
                ·
                  refine z_const X rfl (z_store X (lv' := [(4, .int (Int32.ofInt 0)), (2, .int (Int32.ofInt y1015)), (6, .int (Int32.ofInt 0)), (0, .ref (A 179)), (1, .int (Int32.ofInt xv)), (3, .int (Int32.ofInt c)), (5, .int (Int32.ofInt kw))]) rfl (by decide) (fun _ h => h) (z_inc X (x := kw) (lv' := [(5, .int (Int32.ofInt (kw + 1))), (4, .int (Int32.ofInt 0)), (2, .int (Int32.ofInt y1015)), (6, .int (Int32.ofInt 0)), (0, .ref (A 179)), (1, .int (Int32.ofInt xv)), (3, .int (Int32.ofInt c))]) rfl (by decide) (List.Mem.tail _ (List.Mem.tail _ (List.Mem.tail _ (List.Mem.tail _ (List.Mem.tail _ (List.Mem.tail _ (List.Mem.head _))))))) (fun _ h => h) (z_goto X (t := 48) rfl rfl (WS_pq [4, 5, 2, 6, 1, 0] (lv' := [(0, .ref (A 179)), (1, .int (Int32.ofInt xv)), (2, .int (Int32.ofInt y1015)), (3, .int (Int32.ofInt c)), (4, .int (Int32.ofInt 0)), (5, .int (Int32.ofInt (kw + 1)))]) rfl ?_))))
                  exact ih _ xv y1015 c 0 (kw + 1) I F (mbq_o hq (by omega) hw (by omega) ey1014 ey1015) (by first | exact ⟨And.intro (hi.1.1) (And.intro (hi.1.2.1) (hi.1.2.2)), And.intro (hy1015.1) (hy1015.2), And.intro (hi.2.2.1.1) (hi.2.2.1.2), And.intro (by decide) (oq_d5439a31 g1007 b1006.1), oq_cb2f634e hz9 g1005, hi.2.2.2.2.2.1, hi.2.2.2.2.2.2.1, hi.2.2.2.2.2.2.2⟩ | omega) (by first | exact qk_me hm (by decide) (oq_b98a5654 g1005 b1006.2) | omega) kx
                ·
                  exfalso
                  omega
        ·
          refine z_aload_n X (x := A 179) rfl (List.Mem.head _) (s_getR X 179 rfl (c518_ok rfl) rfl rfl (z_aload_n X (x := A 179) rfl (List.Mem.head _) (s_getR X 179 rfl (c518_ok rfl) rfl rfl (z_load_n X (x := c) rfl (List.Mem.tail _ (List.Mem.tail _ (List.Mem.tail _ (List.Mem.head _)))) (z_aald X rw_189 rfl (by first | exact hi.2.2.1.1 | omega) (show c < 12 by first | exact oq_f36e82a8 hi.2.2.1.2 b2.2 | omega) (by decide) (z_load X (x := kw) rfl (List.Mem.tail _ (List.Mem.tail _ (List.Mem.tail _ (List.Mem.tail _ (List.Mem.tail _ (List.Mem.head _)))))) (z_ald2 X rw_189 rfl (show (c : Int).toNat < 12 by first | exact oq_2dac6850 hi.2.2.1.2 b2.2 | omega) (by first | exact oq_12a1f9e1 hi.2.2.2.1.2 hi.2.2.2.1.1 | omega) (show kw < 24 by first | exact oq_8ff7beb9 g1007 b1006.2 | omega) (by decide) ?_)))))))
          have b1017 : (0 : Int) ≤ (iC t (166 + (c : Int).toNat) (kw : Int).toNat) ∧ (iC t (166 + (c : Int).toNat) (kw : Int).toNat) ≤ 127 := rw_bd rw_189 I (show (c : Int).toNat < 12 by first | exact oq_2dac6850 hi.2.2.1.2 b2.2 | omega) (show (kw : Int).toNat < 24 by first | exact oq_9e668fc9 g1007 b1006.2 | omega)
          refine z_ald X 256 rfl (c518_ok rfl) rfl (by first | exact b1017.1 | omega) (show (iC t (166 + (c : Int).toNat) (kw : Int).toNat) < 128 by first | exact oq_31b2bf10 b1017.2 | omega) (cbig_ok rfl) ?_
          have b1018 := bc_228 I (show ((iC t (166 + (c : Int).toNat) (kw : Int).toNat)).toNat < 128 by first | exact oq_c7f4e9c1 b1017.2 | omega)
          have e1 : (iC t (166 + (c : Int).toNat) (kw : Int).toNat) = cwM s (c : Int).toNat (kw : Int).toNat := fm_c F List.not_mem_nil
          have e2 : (iC t 228 ((iC t (166 + (c : Int).toNat) (kw : Int).toNat)).toNat) = pfM s ((iC t (166 + (c : Int).toNat) (kw : Int).toNat) : Int).toNat := fm_c F List.not_mem_nil
          refine z_load_n X (x := xv) rfl (List.Mem.tail _ (List.Mem.head _)) (z_icmp_ne X (t := 92) rfl rfl (rng_to _) ⟨by first | exact oq_b3df2c6f hi.1.1 hi.1.2.1 | omega, by first | exact oq_b2f566bc hi.1.1 hi.1.2.2 | omega⟩ (fun g1019 => ?_) (fun g1019 => ?_))
          ·
            have hw : (wyS (pcS (pfM s) x) (cwM s (c : Int).toNat) (iC s 162 (c : Int).toNat)) (kw : Int).toNat ≠ 1 := wys_0 (by rw [← e1]; exact fun z => absurd (e2.trans z.2) (show ¬ ((iC t 228 ((iC t (166 + (c : Int).toNat) (kw : Int).toNat)).toNat) = x) by first | (clear g1019; omega) | omega))
            refine z_const X rfl (z_store X (lv' := [(6, .int (Int32.ofInt 0)), (0, .ref (A 179)), (1, .int (Int32.ofInt xv)), (2, .int (Int32.ofInt bi)), (3, .int (Int32.ofInt c)), (4, .int (Int32.ofInt ru)), (5, .int (Int32.ofInt kw))]) rfl (by decide) (fun _ h => h) (z_load X (x := 0) rfl (List.Mem.head _) (z_if_ne X (t := 120) rfl rfl (by decide) (fun g1020 => ?_) (fun g1020 => ?_))))
            ·
              exfalso
              omega
            ·
              refine z_load X (x := ru) rfl (List.Mem.tail _ (List.Mem.tail _ (List.Mem.tail _ (List.Mem.tail _ (List.Mem.tail _ (List.Mem.head _)))))) (z_if_le X (t := 120) rfl rfl ⟨by first | exact oq_fa4e5087 hi.2.2.2.1.1 | omega, by first | exact oq_2f5179e5 hi.2.2.2.1.2 g1007 b1006.2 | omega⟩ (fun g1021 => ?_) (fun g1021 => ?_))
              ·
                refine z_load X (x := 0) rfl (List.Mem.head _) (z_if_eq X (t := 132) rfl rfl (by decide) (fun g1022 => ?_) (fun g1022 => ?_))
                ·
                  refine z_const X rfl (z_store X (lv' := [(4, .int (Int32.ofInt 0)), (6, .int (Int32.ofInt 0)), (0, .ref (A 179)), (1, .int (Int32.ofInt xv)), (2, .int (Int32.ofInt bi)), (3, .int (Int32.ofInt c)), (5, .int (Int32.ofInt kw))]) rfl (by decide) (fun _ h => h) (z_inc X (x := kw) (lv' := [(5, .int (Int32.ofInt (kw + 1))), (4, .int (Int32.ofInt 0)), (6, .int (Int32.ofInt 0)), (0, .ref (A 179)), (1, .int (Int32.ofInt xv)), (2, .int (Int32.ofInt bi)), (3, .int (Int32.ofInt c))]) rfl (by decide) (List.Mem.tail _ (List.Mem.tail _ (List.Mem.tail _ (List.Mem.tail _ (List.Mem.tail _ (List.Mem.tail _ (List.Mem.head _))))))) (fun _ h => h) (z_goto X (t := 48) rfl rfl (WS_pq [3, 4, 5, 6, 1, 0] (lv' := [(0, .ref (A 179)), (1, .int (Int32.ofInt xv)), (2, .int (Int32.ofInt bi)), (3, .int (Int32.ofInt c)), (4, .int (Int32.ofInt 0)), (5, .int (Int32.ofInt (kw + 1)))]) rfl ?_))))
                  exact ih _ xv bi c 0 (kw + 1) I F (mbq_n hq (by first | (clear g1019; omega) | omega) hw (by first | (clear g1019; omega) | omega)) (by first | exact ⟨And.intro (hi.1.1) (And.intro (hi.1.2.1) (hi.1.2.2)), And.intro (hi.2.1.1) (hi.2.1.2), And.intro (hi.2.2.1.1) (hi.2.2.1.2), And.intro (by decide) (oq_d5439a31 hi.2.2.2.1.2 hi.2.2.2.1.1), oq_ddac0bfe hz9 g1007, hi.2.2.2.2.2.1, hi.2.2.2.2.2.2.1, hi.2.2.2.2.2.2.2⟩ | omega) (by first | exact qk_me hm (by decide) (oq_15f20019 g1007 b1006.2) | omega) kx
                ·
                  exfalso
                  omega
              ·
                refine z_load X (x := ru) rfl (List.Mem.tail _ (List.Mem.tail _ (List.Mem.tail _ (List.Mem.tail _ (List.Mem.tail _ (List.Mem.head _)))))) (z_aload_n X (x := A 179) rfl (List.Mem.tail _ (List.Mem.head _)) (z_getI X 179 rfl (c518_ok rfl) rfl rfl ?_))
                have b1023 := bi_95 I
                refine z_icmp_ge X (t := 120) rfl rfl ⟨by first | exact oq_97e58444 g1021 | omega, by first | exact oq_2f5179e5 hi.2.2.2.1.2 g1007 b1006.2 | omega⟩ (rng_to _) (fun g1024 => ?_) (fun g1024 => ?_)
                ·
                  refine z_load X (x := 0) rfl (List.Mem.head _) (z_if_eq X (t := 132) rfl rfl (by decide) (fun g1025 => ?_) (fun g1025 => ?_))
                  ·
                    refine z_const X rfl (z_store X (lv' := [(4, .int (Int32.ofInt 0)), (6, .int (Int32.ofInt 0)), (0, .ref (A 179)), (1, .int (Int32.ofInt xv)), (2, .int (Int32.ofInt bi)), (3, .int (Int32.ofInt c)), (5, .int (Int32.ofInt kw))]) rfl (by decide) (fun _ h => h) (z_inc X (x := kw) (lv' := [(5, .int (Int32.ofInt (kw + 1))), (4, .int (Int32.ofInt 0)), (6, .int (Int32.ofInt 0)), (0, .ref (A 179)), (1, .int (Int32.ofInt xv)), (2, .int (Int32.ofInt bi)), (3, .int (Int32.ofInt c))]) rfl (by decide) (List.Mem.tail _ (List.Mem.tail _ (List.Mem.tail _ (List.Mem.tail _ (List.Mem.tail _ (List.Mem.tail _ (List.Mem.head _))))))) (fun _ h => h) (z_goto X (t := 48) rfl rfl (WS_pq [3, 4, 5, 6, 1, 0] (lv' := [(0, .ref (A 179)), (1, .int (Int32.ofInt xv)), (2, .int (Int32.ofInt bi)), (3, .int (Int32.ofInt c)), (4, .int (Int32.ofInt 0)), (5, .int (Int32.ofInt (kw + 1)))]) rfl ?_))))
                    exact ih _ xv bi c 0 (kw + 1) I F (mbq_n hq (by first | (clear g1019; omega) | omega) hw (by first | (clear g1019; omega) | omega)) (by first | exact ⟨And.intro (hi.1.1) (And.intro (hi.1.2.1) (hi.1.2.2)), And.intro (hi.2.1.1) (hi.2.1.2), And.intro (hi.2.2.1.1) (hi.2.2.1.2), And.intro (by decide) (oq_1b58957a hi.2.2.2.1.2 g1021), oq_ddac0bfe hz9 g1007, hi.2.2.2.2.2.1, hi.2.2.2.2.2.2.1, hi.2.2.2.2.2.2.2⟩ | omega) (by first | exact qk_me hm (by decide) (oq_15f20019 g1007 b1006.2) | omega) kx
                  ·
                    exfalso
                    omega
                ·
                  refine z_load_n X (x := bi) rfl (List.Mem.tail _ (List.Mem.tail _ (List.Mem.tail _ (List.Mem.head _)))) (z_const X rfl (z_load_n X (x := c) rfl (List.Mem.tail _ (List.Mem.tail _ (List.Mem.tail _ (List.Mem.tail _ (List.Mem.head _))))) (z_bshl X rfl (z_anyV (fun y1026 hy1026 ey1026 => ?_)))))
                  refine w_ior X.1 (ax_d X (show cdA 243 118 = some (.ior, 1, 0, 0, 0) from rfl)) (z_anyV (fun y1027 hy1027 ey1027 => ?_))
                  refine z_store_n X (lv' := [(2, .int (Int32.ofInt y1027)), (6, .int (Int32.ofInt 0)), (0, .ref (A 179)), (1, .int (Int32.ofInt xv)), (3, .int (Int32.ofInt c)), (4, .int (Int32.ofInt ru)), (5, .int (Int32.ofInt kw))]) rfl (by decide) (fun _ h => h) (z_load X (x := 0) rfl (List.Mem.tail _ (List.Mem.head _)) (z_if_eq X (t := 132) rfl rfl (by decide) (fun g1028 => ?_) (fun g1028 => ?_)))
                  ·
                    refine z_const X rfl (z_store X (lv' := [(4, .int (Int32.ofInt 0)), (2, .int (Int32.ofInt y1027)), (6, .int (Int32.ofInt 0)), (0, .ref (A 179)), (1, .int (Int32.ofInt xv)), (3, .int (Int32.ofInt c)), (5, .int (Int32.ofInt kw))]) rfl (by decide) (fun _ h => h) (z_inc X (x := kw) (lv' := [(5, .int (Int32.ofInt (kw + 1))), (4, .int (Int32.ofInt 0)), (2, .int (Int32.ofInt y1027)), (6, .int (Int32.ofInt 0)), (0, .ref (A 179)), (1, .int (Int32.ofInt xv)), (3, .int (Int32.ofInt c))]) rfl (by decide) (List.Mem.tail _ (List.Mem.tail _ (List.Mem.tail _ (List.Mem.tail _ (List.Mem.tail _ (List.Mem.tail _ (List.Mem.head _))))))) (fun _ h => h) (z_goto X (t := 48) rfl rfl (WS_pq [4, 5, 2, 6, 1, 0] (lv' := [(0, .ref (A 179)), (1, .int (Int32.ofInt xv)), (2, .int (Int32.ofInt y1027)), (3, .int (Int32.ofInt c)), (4, .int (Int32.ofInt 0)), (5, .int (Int32.ofInt (kw + 1)))]) rfl ?_))))
                    exact ih _ xv y1027 c 0 (kw + 1) I F (mbq_o hq (by first | (clear g1019; omega) | omega) hw (by first | (clear g1019; omega) | omega) ey1026 ey1027) (by first | exact ⟨And.intro (hi.1.1) (And.intro (hi.1.2.1) (hi.1.2.2)), And.intro (hy1027.1) (hy1027.2), And.intro (hi.2.2.1.1) (hi.2.2.1.2), And.intro (by decide) (oq_1b58957a hi.2.2.2.1.2 g1021), oq_ddac0bfe hz9 g1007, hi.2.2.2.2.2.1, hi.2.2.2.2.2.2.1, hi.2.2.2.2.2.2.2⟩ | omega) (by first | exact qk_me hm (by decide) (oq_15f20019 g1007 b1006.2) | omega) kx
                  ·
                    exfalso
                    omega
          ·
            have hw : (wyS (pcS (pfM s) x) (cwM s (c : Int).toNat) (iC s 162 (c : Int).toNat)) (kw : Int).toNat = 1 := wys_1 (by omega) (by rw [← e1]; exact ⟨⟨by omega, by omega⟩, e2.symm.trans (show (iC t 228 ((iC t (166 + (c : Int).toNat) (kw : Int).toNat)).toNat) = x by omega)⟩)
            refine z_const X rfl (z_goto X (t := 93) rfl rfl (z_store X (lv' := [(6, .int (Int32.ofInt 1)), (0, .ref (A 179)), (1, .int (Int32.ofInt xv)), (2, .int (Int32.ofInt bi)), (3, .int (Int32.ofInt c)), (4, .int (Int32.ofInt ru)), (5, .int (Int32.ofInt kw))]) rfl (by decide) (fun _ h => h) (z_load X (x := 1) rfl (List.Mem.head _) (z_if_ne X (t := 120) rfl rfl (by decide) (fun g1029 => ?_) (fun g1029 => ?_)))))
            ·
              refine z_load X (x := 1) rfl (List.Mem.head _) (z_if_eq X (t := 132) rfl rfl (by decide) (fun g1030 => ?_) (fun g1030 => ?_))
              ·
                exfalso
                omega
              ·
                refine z_load X (x := ru) rfl (List.Mem.tail _ (List.Mem.tail _ (List.Mem.tail _ (List.Mem.tail _ (List.Mem.tail _ (List.Mem.head _)))))) (z_const X rfl (z_add X rfl (z_goto X (t := 133) rfl rfl (z_store X (lv' := [(4, .int (Int32.ofInt (ru + 1))), (6, .int (Int32.ofInt 1)), (0, .ref (A 179)), (1, .int (Int32.ofInt xv)), (2, .int (Int32.ofInt bi)), (3, .int (Int32.ofInt c)), (5, .int (Int32.ofInt kw))]) rfl (by decide) (fun _ h => h) (z_inc X (x := kw) (lv' := [(5, .int (Int32.ofInt (kw + 1))), (4, .int (Int32.ofInt (ru + 1))), (6, .int (Int32.ofInt 1)), (0, .ref (A 179)), (1, .int (Int32.ofInt xv)), (2, .int (Int32.ofInt bi)), (3, .int (Int32.ofInt c))]) rfl (by decide) (List.Mem.tail _ (List.Mem.tail _ (List.Mem.tail _ (List.Mem.tail _ (List.Mem.tail _ (List.Mem.tail _ (List.Mem.head _))))))) (fun _ h => h) (z_goto X (t := 48) rfl rfl (WS_pq [3, 4, 5, 6, 1, 0] (lv' := [(0, .ref (A 179)), (1, .int (Int32.ofInt xv)), (2, .int (Int32.ofInt bi)), (3, .int (Int32.ofInt c)), (4, .int (Int32.ofInt (ru + 1))), (5, .int (Int32.ofInt (kw + 1)))]) rfl ?_)))))))
                exact ih _ xv bi c (ru + 1) (kw + 1) I F (mbq_y hq (by first | (clear g1030 g1029; omega) | (clear g1029; omega) | omega) hw) (by first | exact ⟨And.intro (hi.1.1) (And.intro (hi.1.2.1) (hi.1.2.2)), And.intro (hi.2.1.1) (hi.2.1.2), And.intro (hi.2.2.1.1) (hi.2.2.1.2), And.intro (oq_54f49eb5 hi.2.2.2.1.1) (oq_8d48a029 hi.2.2.2.1.2), oq_ddac0bfe hz9 g1007, hi.2.2.2.2.2.1, hi.2.2.2.2.2.2.1, hi.2.2.2.2.2.2.2⟩ | omega) (by first | exact qk_me hm (by decide) (oq_15f20019 g1007 b1006.2) | omega) kx
            ·
              exfalso
              omega
  have L34 : ∀ (n : Nat) (t : PS) (xv bi c : Int), Bd t → Fm [73] [] s t → (Int32.ofInt bi = btS (ShM (pcS (pfM s) x) (iI s 95) s) (c : Int).toNat) → ((xv = x ∧ 0 ≤ x ∧ x ≤ 7) ∧ rng bi ∧ (0 ≤ c ∧ c ≤ iI s 90) ∧ (iI t 73 = 0 ∧ iI t 90 = iI s 90 ∧ iI t 95 = iI s 95)) → (12 - c : Int).toNat < n → (∀ (t' : PS) (bi' c' : Int), Bd t' → Fm [73] [] s t' → (Int32.ofInt bi' = btS (ShM (pcS (pfM s) x) (iI s 95) s) (c' : Int).toNat) → ((0 ≤ x ∧ x ≤ 7) ∧ rng bi' ∧ c' = iI s 90 ∧ iI t' 73 = 0) → WS k 147 [(0, .ref (A 179)), (1, .int (Int32.ofInt xv)), (2, .int (Int32.ofInt bi')), (3, .int (Int32.ofInt c'))] [] (Wd A dT t') 0 0) → WS k 34 [(0, .ref (A 179)), (1, .int (Int32.ofInt xv)), (2, .int (Int32.ofInt bi)), (3, .int (Int32.ofInt c))] [] (Wd A dT t) 0 0 := by
    intro n
    induction n with
    | zero =>
      intro t xv bi c I F hq hi hm kx
      exact absurd hm (Nat.not_lt_zero _)
    | succ n ih =>
      intro t xv bi c I F hq hi hm kx
      have b2001 := bi_73 I
      have b2002 := bi_90 I
      have b2003 := bi_95 I
      refine z_load_n X (x := c) rfl (List.Mem.tail _ (List.Mem.tail _ (List.Mem.tail _ (List.Mem.head _)))) (z_aload_n X (x := A 179) rfl (List.Mem.head _) (z_getI X 179 rfl (c518_ok rfl) rfl rfl ?_))
      have b2004 := bi_90 I
      refine z_icmp_ge X (t := 147) rfl rfl ⟨by first | exact oq_fa4e5087 hi.2.2.1.1 | omega, by first | exact oq_39d2cc6e hi.2.2.1.2 b2.2 | omega⟩ (rng_to _) (fun g2005 => ?_) (fun g2005 => ?_)
      ·
        refine WS_pq [0, 1, 2, 3] (lv' := [(0, .ref (A 179)), (1, .int (Int32.ofInt xv)), (2, .int (Int32.ofInt bi)), (3, .int (Int32.ofInt c))]) rfl ?_
        exact kx _ bi c I F hq (by first | exact ⟨And.intro (hi.1.2.1) (hi.1.2.2), And.intro (hi.2.1.1) (hi.2.1.2), oq_537ca82a hi.2.2.1.2 g2005 hi.2.2.2.2.1, hi.2.2.2.1⟩ | omega)
      ·
        refine z_const X rfl ?_
        have hz8 : 0 ≤ iC s 162 (c : Int).toNat := by have w := (fm_c F List.not_mem_nil : iC t 162 (c : Int).toNat = iC s 162 (c : Int).toNat); have y := (I.2 162 _ (show (c : Int).toNat < 12 by omega)).1; change (0 : Int) ≤ iC t 162 (c : Int).toNat at y; omega
        refine z_store X (lv' := [(4, .int (Int32.ofInt 0)), (0, .ref (A 179)), (1, .int (Int32.ofInt xv)), (2, .int (Int32.ofInt bi)), (3, .int (Int32.ofInt c))]) rfl (by decide) (fun _ h => h) (z_const X rfl (z_store X (lv' := [(5, .int (Int32.ofInt 0)), (4, .int (Int32.ofInt 0)), (0, .ref (A 179)), (1, .int (Int32.ofInt xv)), (2, .int (Int32.ofInt bi)), (3, .int (Int32.ofInt c))]) rfl (by decide) (fun _ h => h) (WS_pq [2, 3, 4, 5, 1, 0] (lv' := [(0, .ref (A 179)), (1, .int (Int32.ofInt xv)), (2, .int (Int32.ofInt bi)), (3, .int (Int32.ofInt c)), (4, .int (Int32.ofInt 0)), (5, .int (Int32.ofInt 0))]) rfl (L48 ((26 - 0 : Int).toNat + 1) t xv bi c 0 0 I F (mbq_0 hq) (by first | exact ⟨And.intro (hi.1.1) (And.intro (hi.1.2.1) (hi.1.2.2)), And.intro (hi.2.1.1) (hi.2.1.2), And.intro (hi.2.2.1.1) (oq_9d1a6c71 g2005 hi.2.2.2.2.1), And.intro (by decide) (by decide), oq_54f49eb5 hz8, hi.2.2.2.1, hi.2.2.2.2.1, hi.2.2.2.2.2⟩ | omega) (Nat.lt_succ_self _) ?_))))
        intro s2006 x2007 x2008 x2009 Is2006 Fs2006 Qs2006 hs2006
        have b2010 := bi_73 Is2006
        have b2011 := bi_90 Is2006
        have b2012 := bi_95 Is2006
        refine z_inc X (x := c) (lv' := [(3, .int (Int32.ofInt (c + 1))), (0, .ref (A 179)), (1, .int (Int32.ofInt xv)), (2, .int (Int32.ofInt x2007)), (4, .int (Int32.ofInt x2008)), (5, .int (Int32.ofInt x2009))]) rfl (by decide) (List.Mem.tail _ (List.Mem.tail _ (List.Mem.tail _ (List.Mem.head _)))) (fun _ h => h) (z_goto X (t := 34) rfl rfl (WS_pq [1, 2, 3, 0] (lv' := [(0, .ref (A 179)), (1, .int (Int32.ofInt xv)), (2, .int (Int32.ofInt x2007)), (3, .int (Int32.ofInt (c + 1)))]) rfl ?_))
        exact ih _ xv x2007 (c + 1) Is2006 Fs2006 (mbq_x Qs2006 (by omega) (show (x2009 : Int).toNat = (iC s 162 (c : Int).toNat).toNat + 1 by omega) Iff.rfl) (by first | exact ⟨And.intro (hs2006.1.1) (And.intro (hs2006.1.2.1) (hs2006.1.2.2)), And.intro (hs2006.2.1.1) (hs2006.2.1.2), And.intro (oq_54f49eb5 hs2006.2.2.1.1) (oq_afc84a8d hs2006.2.2.1.2), hs2006.2.2.2.2.2.1, hs2006.2.2.2.2.2.2.1, hs2006.2.2.2.2.2.2.2⟩ | omega) (by first | exact qk_me hm (by decide) (oq_b575e8c1 hs2006.2.2.1.2 b2.2) | omega) kx
  refine z_aload_n X (x := A 179) rfl (List.Mem.head _) (z_const X rfl (s_putI X 179 rfl (c518_ok rfl) rfl rfl (by decide) rfl rfl rfl (wd_gen (fun s4 hs4 => ?_))))
  have Is4 : Bd s4 := eqB hs4 (bd_I I (show (0 : Int) ≤ 0 ∧ 0 ≤ 3 by first | exact ⟨by decide, by decide⟩ | omega) (by decide))
  have Fs4 := eqF hs4 (fm_I F (inl_ok (a := 73) rfl))
  have vs4 : iI s4 73 = 0 := eqI hs4 (iI_u (by decide))
  have ws4_90 : iI s4 90 = iI s 90 := eqI hs4 rfl
  have ws4_95 : iI s4 95 = iI s 95 := eqI hs4 rfl
  refine z_aload_n X (x := A 179) rfl (List.Mem.head _) (z_load_n X (x := x) rfl (List.Mem.tail _ (List.Mem.head _)) (z_const X rfl (z_bipush X rfl (z_callS X (rm := rmN 188) (As := [.int (Int32.ofInt x), .int (Int32.ofInt 0), .int (Int32.ofInt 7)]) (st := [.ref (A 179)]) rfl rfl (by rw [E.1, E.2.1, E.2.2.1]; exact k_in2 G Is4 (by first | exact ⟨p0.1, p0.2⟩ | omega) (by first | exact ⟨by decide, by decide⟩ | omega) (by first | exact ⟨by decide, by decide⟩ | omega)) ⟨by rw [E.2.2.2]; exact (show (rmN 188).frames + 1 ≤ (rmN 243).frames by decide), by rw [E.2.2.2]; exact (show 8 + (mNL (miB 188) + 11) + (rmN 188).locals ≤ (rmN 243).locals by decide), by rw [E.2.2.2]; exact (show 0 + (rmN 188).cells ≤ (rmN 243).cells by decide), by rw [E.2.2.2]; exact (show 0 + (rmN 188).slots ≤ (rmN 243).slots by decide)⟩ (Nat.le_of_ble_eq_true rfl) (fun vv s5 hq => ?_) (fun ee s5 hq => ?_)))))
  rotate_left
  · obtain ⟨rfl, e6, hv, hrs5, hps5⟩ := hq; cases hv
  obtain ⟨rfl, e6, hv, hrs5, hps5⟩ := hq
  cases hv
  show WS k 13 [(0, .ref (A 179)), (1, .int (Int32.ofInt x))] [.int (Int32.ofInt e6), .ref (A 179)] (Wd A dT s4) 0 0
  refine z_if_ne X (t := 20) rfl rfl hrs5 (fun g7 => ?_) (fun g7 => ?_)
  ·
    refine z_const X rfl (z_const X rfl (zcV_i0 X E 179 (As := [.int (Int32.ofInt 0), .int (Int32.ofInt 1)]) (st := []) rfl rfl rfl rfl (k_bad2 G Is4 (by first | exact Or.inl (by decide) | omega) (by first | exact ⟨by decide, by decide⟩ | omega)) rfl (Nat.le_of_ble_eq_true rfl) (fun s8 e9 Is8 Fs8 hrs8 hps8 => ?_)))
    have Gs8 := fm_tq Fs4 Fs8 rfl rfl
    have b10 := bi_73 Is8
    have ws8_90 : iI s8 90 = iI s4 90 := fm_iq Fs8 rfl
    have ws8_95 : iI s8 95 = iI s4 95 := fm_iq Fs8 rfl
    refine z_if_eq X (t := 30) rfl rfl hrs8 (fun g11 => ?_) (fun g11 => ?_)
    ·
      refine z_const X rfl (z_store_n X (lv' := [(2, .int (Int32.ofInt 0)), (0, .ref (A 179)), (1, .int (Int32.ofInt x))]) rfl (by decide) (fun _ h => h) (z_const X rfl (z_store_n X (lv' := [(3, .int (Int32.ofInt 0)), (2, .int (Int32.ofInt 0)), (0, .ref (A 179)), (1, .int (Int32.ofInt x))]) rfl (by decide) (fun _ h => h) (WS_pq [2, 3, 1, 0] (lv' := [(0, .ref (A 179)), (1, .int (Int32.ofInt x)), (2, .int (Int32.ofInt 0)), (3, .int (Int32.ofInt 0))]) rfl (L34 ((12 - 0 : Int).toNat + 1) s8 x 0 0 Is8 Gs8 rfl (by first | exact ⟨oq_ad204de4 g7 hps5, And.intro (by decide) (by decide), And.intro (by decide) (b2.1), oq_93520411 b10.1 hps8 vs4, oq_1aa5be9e ws8_90 ws4_90, oq_1aa5be9e ws8_95 ws4_95⟩ | omega) (Nat.lt_succ_self _) ?_)))))
      intro s12 x13 x14 Is12 Fs12 Qs12 hs12
      have b15 := bi_73 Is12
      have b16 := bi_90 Is12
      have b17 := bi_95 Is12
      refine z_load_n X (x := x13) rfl (List.Mem.tail _ (List.Mem.tail _ (List.Mem.head _))) ?_
      exact w_iret X.1 q hRt rfl (ax_d X (show cdA 243 148 = some (.ireturn, 1, 0, 0, 0) from rfl)) (Nat.zero_le _) (Nat.zero_le _) ⟨_, rfl, Is12, Fs12, x13, rfl, ⟨by first | exact hs12.2.1.1 | omega, by first | exact hs12.2.1.2 | omega⟩, Or.inl ⟨by first | exact ⟨hs12.1.1, hs12.1.2⟩ | omega, by first | exact hs12.2.2.2 | omega, ⟨⟨by first | exact hs12.2.1.1 | omega, by first | exact hs12.2.1.2 | omega⟩, by have z := Qs12; rw [show x14 = iI s 90 by first | (clear hps8 g7 hps5; omega) | (clear g7 hps5; omega) | omega] at z; exact z⟩⟩⟩
    ·
      refine z_const X rfl ?_
      exact w_iret X.1 q hRt rfl (ax_d X (show cdA 243 29 = some (.ireturn, 1, 0, 0, 0) from rfl)) (Nat.zero_le _) (Nat.zero_le _) ⟨_, rfl, Is8, Gs8, 0, rfl, (by decide), Or.inr ⟨by first | exact oq_14bb5fe5 g11 hps8 vs4 | omega, by first | exact oq_df0d149a g11 hps8 vs4 | omega⟩⟩
  ·
    refine z_const X rfl (z_goto X (t := 21) rfl rfl (z_const X rfl (zcV_i0 X E 179 (As := [.int (Int32.ofInt 1), .int (Int32.ofInt 1)]) (st := []) rfl rfl rfl rfl (k_bad2 G Is4 (by first | exact Or.inr (by decide) | omega) (by first | exact ⟨by decide, by decide⟩ | omega)) rfl (Nat.le_of_ble_eq_true rfl) (fun s18 e19 Is18 Fs18 hrs18 hps18 => ?_))))
    have Gs18 := fm_tq Fs4 Fs18 rfl rfl
    have b20 := bi_73 Is18
    have ws18_90 : iI s18 90 = iI s4 90 := fm_iq Fs18 rfl
    have ws18_95 : iI s18 95 = iI s4 95 := fm_iq Fs18 rfl
    refine z_if_eq X (t := 30) rfl rfl hrs18 (fun g21 => ?_) (fun g21 => ?_)
    ·
      refine z_const X rfl (z_store_n X (lv' := [(2, .int (Int32.ofInt 0)), (0, .ref (A 179)), (1, .int (Int32.ofInt x))]) rfl (by decide) (fun _ h => h) (z_const X rfl (z_store_n X (lv' := [(3, .int (Int32.ofInt 0)), (2, .int (Int32.ofInt 0)), (0, .ref (A 179)), (1, .int (Int32.ofInt x))]) rfl (by decide) (fun _ h => h) (WS_pq [2, 3, 1, 0] (lv' := [(0, .ref (A 179)), (1, .int (Int32.ofInt x)), (2, .int (Int32.ofInt 0)), (3, .int (Int32.ofInt 0))]) rfl (L34 ((12 - 0 : Int).toNat + 1) s18 x 0 0 Is18 Gs18 rfl (by first | exact ⟨oq_a2dc54c2 g21 hps18 vs4, And.intro (by decide) (by decide), And.intro (by decide) (b2.1), oq_f4d57307 g21 b20.1 hps18 vs4, oq_1aa5be9e ws18_90 ws4_90, oq_1aa5be9e ws18_95 ws4_95⟩ | omega) (Nat.lt_succ_self _) ?_)))))
      intro s22 x23 x24 Is22 Fs22 Qs22 hs22
      have b25 := bi_73 Is22
      have b26 := bi_90 Is22
      have b27 := bi_95 Is22
      refine z_load_n X (x := x23) rfl (List.Mem.tail _ (List.Mem.tail _ (List.Mem.head _))) ?_
      exact w_iret X.1 q hRt rfl (ax_d X (show cdA 243 148 = some (.ireturn, 1, 0, 0, 0) from rfl)) (Nat.zero_le _) (Nat.zero_le _) ⟨_, rfl, Is22, Fs22, x23, rfl, ⟨by first | exact hs22.2.1.1 | omega, by first | exact hs22.2.1.2 | omega⟩, Or.inl ⟨by first | exact ⟨hs22.1.1, hs22.1.2⟩ | omega, by first | exact hs22.2.2.2 | omega, ⟨⟨by first | exact hs22.2.1.1 | omega, by first | exact hs22.2.1.2 | omega⟩, by have z := Qs22; rw [show x24 = iI s 90 by first | (clear hps18 hps5; omega) | (clear hps5; omega) | omega] at z; exact z⟩⟩⟩
    ·
      refine z_const X rfl ?_
      exact w_iret X.1 q hRt rfl (ax_d X (show cdA 243 29 = some (.ireturn, 1, 0, 0, 0) from rfl)) (Nat.zero_le _) (Nat.zero_le _) ⟨_, rfl, Is18, Gs18, 0, rfl, (by decide), Or.inr ⟨by first | exact oq_2c2fe168 g7 hps5 | omega, by first | exact oq_faabd673 g21 hps18 vs4 | omega⟩⟩
end M87kf
