theorem oq_738f4459 {a0 a1 : Int} (h0 : a0 ≤ 8) (h1 : a1 ≤ a0) (h2 : a1 = 8) : a0 = 8 := by omega
theorem oq_4dc996b7 {a0 a1 : Int} (h0 : a0 = a1) (h1 : 1 ≤ a1) : (-2147483648) ≤ a0 := by omega
theorem oq_8bd33971 {a0 a1 : Int} (h0 : a0 = a1) (h1 : a1 ≤ 8) : a0 ≤ 2147483647 := by omega
theorem oq_940075ae {a0 a1 a2 : Int} (h0 : a0 < a1) (h1 : a1 = a2) (h2 : a2 ≤ 8) : a0 < 8 := by omega
theorem oq_5f8a5a7e {a0 a1 a2 : Int} (h0 : a0 < a1) (h1 : a1 = a2) (h2 : a2 ≤ 8) : (a0 : Int).toNat < 8 := by omega
theorem oq_67fee7f6 {a0 a1 a2 : Int} (h0 : a0 < a1) (h1 : a1 = a2) (h2 : a2 ≤ 8) : 0 < (8 - a0) := by omega
theorem oq_a821866e {a0 a1 : Int} (h0 : a0 ≤ a1) (h1 : (-2147483648) ≤ a0) : (-2147483648) ≤ a1 := by omega
theorem oq_9be4c299 {a0 a1 a2 : Int} (h0 : a0 = a1) (h1 : 1 ≤ a2) (h2 : 0 ≤ a1) : (-2147483648) ≤ (a0 + a2) := by omega
theorem oq_c17ba15c {a0 a1 a2 : Int} (h0 : a0 = a1) (h1 : a2 ≤ 8) (h2 : a1 ≤ 23) : (a0 + a2) ≤ 2147483647 := by omega
theorem oq_cbfce7f9 {a0 : Int} (h0 : a0 ≤ 9) (h1 : 8 < a0) : a0 = 9 := by omega
/-! Rotas: sets of pairs as bits, who is chosen, the run over the quarters -/
def bT (x : Int32) (p : Nat) : Bool := x.toBitVec.getLsbD p
def b1M (p : Nat) : Int32 := Int32.ofInt 1 <<< (Int32.ofInt (p : Int) &&& 31)
theorem bt_or (x y : Int32) (p : Nat) : bT (x ||| y) p = (bT x p || bT y p) := by
  unfold bT
  rw [Int32.toBitVec_or, BitVec.getLsbD_or]
theorem bt_and (x y : Int32) (p : Nat) : bT (x &&& y) p = (bT x p && bT y p) := by
  unfold bT
  rw [Int32.toBitVec_and, BitVec.getLsbD_and]
theorem bt_not (x : Int32) {p : Nat} (hp : p < 32) : bT (x ^^^ Int32.ofInt (-1)) p = !bT x p := by
  unfold bT
  have e : (Int32.ofInt (-1)).toBitVec = BitVec.allOnes 32 := by decide
  rw [Int32.toBitVec_xor, BitVec.getLsbD_xor, e, BitVec.getLsbD_allOnes, decide_eq_true hp, Bool.xor_true]
theorem bt_0 (p : Nat) : bT (Int32.ofInt 0) p = false := by
  unfold bT
  have e : (Int32.ofInt 0).toBitVec = 0#32 := by decide
  rw [e, BitVec.getLsbD_zero]
theorem bt_1 : ∀ n : Nat, n < 8 → ∀ p : Nat, p < 8 → bT (b1M n) p = decide (p = n) := by decide +kernel
theorem bt_sh {x : Int32} {n : Nat} (hn : n < 8) : (x >>> (Int32.ofInt (n : Int) &&& 31)) &&& Int32.ofInt 1 = Int32.ofInt (if bT x n = true then 1 else 0) := by
  have e := sh_sm_ n (by omega)
  have b0 : (x >>> (Int32.ofInt (n : Int) &&& 31)).toBitVec.getLsbD 0 = bT x n := by
    rw [Int32.toBitVec_shiftRight, BitVec.getLsbD_sshiftRight', e]
    simp only [Nat.add_zero]
    rw [if_pos (show n < 32 by omega)]
    show (!decide (32 ≤ 0) && bT x n) = bT x n
    simp
  apply Int32.toBitVec.inj
  apply BitVec.eq_of_getLsbD_eq
  intro i hi
  have o : (Int32.ofInt 1).toBitVec.getLsbD i = decide (i = 0) := by
    have e1 : (Int32.ofInt 1).toBitVec = 1#32 := by decide
    rw [e1, BitVec.getLsbD_one]
    simp
  rw [Int32.toBitVec_and, BitVec.getLsbD_and, o]
  by_cases c : i = 0
  · subst c
    rw [b0, decide_eq_true rfl, Bool.and_true]
    cases bT x n
    · decide
    · decide
  · rw [decide_eq_false c, Bool.and_false]
    cases bT x n
    · show false = (Int32.ofInt 0).toBitVec.getLsbD i
      have e2 : (Int32.ofInt 0).toBitVec = 0#32 := by decide
      rw [e2, BitVec.getLsbD_zero]
    · show false = (Int32.ofInt 1).toBitVec.getLsbD i
      rw [o, decide_eq_false c]
theorem bt_rd {b p y w : Int} (h1 : Int32.ofInt y = Int32.ofInt b >>> (Int32.ofInt p &&& 31)) (h2 : Int32.ofInt w = Int32.ofInt y &&& Int32.ofInt 1) (r : rng w) (p0 : 0 ≤ p ∧ p ≤ 7) : (w = 1 ∧ bT (Int32.ofInt b) p.toNat = true) ∨ (w = 0 ∧ ¬ bT (Int32.ofInt b) p.toNat = true) := by
  have z := bt_sh (x := Int32.ofInt b) (n := p.toNat) (by omega)
  rw [show ((p.toNat : Nat) : Int) = p by omega, ← h1, ← h2] at z
  by_cases c : bT (Int32.ofInt b) p.toNat = true
  · rw [if_pos c] at z
    exact Or.inl ⟨(of_to r z).trans (by decide), c⟩
  · rw [if_neg c] at z
    exact Or.inr ⟨(of_to r z).trans (by decide), c⟩
theorem bt_mn {x c y z : Int} (h1 : Int32.ofInt y = Int32.ofInt c ^^^ Int32.ofInt (-1)) (h2 : Int32.ofInt z = Int32.ofInt x &&& Int32.ofInt y) {p : Nat} (hp : p < 8) : bT (Int32.ofInt z) p = true ↔ (bT (Int32.ofInt x) p = true ∧ ¬ bT (Int32.ofInt c) p = true) := by
  rw [h2, bt_and, h1, bt_not _ (by omega)]
  cases bT (Int32.ofInt x) p <;> cases bT (Int32.ofInt c) p <;> simp
theorem ms_or {e y z p : Int} (e0 : 0 ≤ e ∧ e ≤ 255) (p0 : 0 ≤ p ∧ p ≤ 7) (h1 : Int32.ofInt y = Int32.ofInt 1 <<< (Int32.ofInt p &&& 31)) (hy : rng y) (h2 : Int32.ofInt z = Int32.ofInt e ||| Int32.ofInt y) (r : rng z) : (0 ≤ z ∧ z ≤ 255) ∧ Int32.ofInt z = Int32.ofInt e ||| b1M p.toNat := by
  have hb : Int32.ofInt y = b1M p.toNat := by
    unfold b1M
    rw [show ((p.toNat : Nat) : Int) = p by omega]
    exact h1
  have s := shl1 (y := p) (by omega)
  have ey := of_to hy h1
  rw [← ey] at s
  obtain ⟨s1, _, _, s4⟩ := s
  have s5 := s4 p0.2
  obtain ⟨o1, o2⟩ := or_bd 8 (by decide) (x := e) (y := y) (show 0 ≤ e ∧ e < 256 by omega) (show 0 ≤ y ∧ y < 256 by omega)
  replace o2 : (Int32.ofInt e ||| Int32.ofInt y).toInt < 256 := o2
  have ez := of_to r h2
  rw [← ez] at o1 o2
  exact ⟨by omega, by rw [h2, hb]⟩
theorem ms_or2 {e y z : Int} (e0 : 0 ≤ e ∧ e ≤ 255) (y0 : 0 ≤ y ∧ y ≤ 255) (h2 : Int32.ofInt z = Int32.ofInt e ||| Int32.ofInt y) (r : rng z) : 0 ≤ z ∧ z ≤ 255 := by
  obtain ⟨o1, o2⟩ := or_bd 8 (by decide) (x := e) (y := y) (show 0 ≤ e ∧ e < 256 by omega) (show 0 ≤ y ∧ y < 256 by omega)
  replace o2 : (Int32.ofInt e ||| Int32.ofInt y).toInt < 256 := o2
  have ez := of_to r h2
  rw [← ez] at o1 o2
  exact ⟨o1, by omega⟩
/-- how many bits below n -/
def pcM (m : Int32) : Nat → Nat
  | 0 => 0
  | n + 1 => pcM m n + (if bT m n = true then 1 else 0)
theorem pcm_0 : ∀ n : Nat, pcM (Int32.ofInt 0) n = 0
  | 0 => rfl
  | n + 1 => by
    show pcM _ n + (if bT _ n = true then 1 else 0) = 0
    rw [pcm_0 n, bt_0]
    rfl
theorem pcm_b1 {m : Int32} {p : Nat} (hp : p < 8) (hb : ¬ bT m p = true) : ∀ n : Nat, n ≤ 8 → pcM (m ||| b1M p) n = pcM m n + (if p < n then 1 else 0)
  | 0, _ => rfl
  | n + 1, hn => by
    show pcM _ n + (if bT (m ||| b1M p) n = true then 1 else 0) = pcM m n + (if bT m n = true then 1 else 0) + _
    rw [pcm_b1 hp hb n (by omega), bt_or, bt_1 p hp n (by omega)]
    by_cases c : n = p
    · subst c
      have hf : bT m n = false := by
        cases h : bT m n
        · rfl
        · exact absurd h hb
      rw [hf, decide_eq_true rfl, if_neg (Nat.lt_irrefl n), if_pos (Nat.lt_succ_self n)]
      rfl
    · rw [decide_eq_false c, Bool.or_false]
      by_cases d : p < n
      · rw [if_pos d, if_pos (show p < n + 1 by omega)]; omega
      · rw [if_neg d, if_neg (show ¬ p < n + 1 by omega), Nat.add_zero, Nat.add_zero]
theorem pcm_dj {m k : Int32} (h : ∀ p : Nat, p < 8 → bT m p = true → ¬ bT k p = true) : ∀ n : Nat, n ≤ 8 → pcM (m ||| k) n = pcM m n + pcM k n
  | 0, _ => rfl
  | n + 1, hn => by
    show pcM _ n + (if bT (m ||| k) n = true then 1 else 0) = pcM m n + (if bT m n = true then 1 else 0) + (pcM k n + (if bT k n = true then 1 else 0))
    rw [pcm_dj h n (by omega), bt_or]
    have hh := h n (by omega)
    revert hh
    cases bT m n <;> cases bT k n <;> intro hh
    · simp
    · simp; omega
    · simp; omega
    · exact absurd rfl (hh rfl)
/-- who is next of those that may: the least watched, then by number -/
def PIK (wa : Nat → Int) (A : Nat → Prop) (p : Nat) : Prop := p < 8 ∧ A p ∧ ∀ q : Nat, q < 8 → A q → wa p < wa q ∨ (wa p = wa q ∧ p ≤ q)
theorem pik_un {wa : Nat → Int} {A : Nat → Prop} {p q : Nat} (h : PIK wa A p) (h' : PIK wa A q) : p = q := by
  have a := h.2.2 q h'.1 h'.2.1
  have b := h'.2.2 p h.1 h.2.1
  omega
theorem pik_c {wa wa' : Nat → Int} {A A' : Nat → Prop} {p : Nat} (hw : ∀ q, q < 8 → wa q = wa' q) (hA : ∀ q, q < 8 → (A q ↔ A' q)) (h : PIK wa A p) : PIK wa' A' p := by
  obtain ⟨h1, h2, h3⟩ := h
  refine ⟨h1, (hA p h1).mp h2, fun q hq a => ?_⟩
  rw [← hw p h1, ← hw q hq]
  exact h3 q hq ((hA q hq).mpr a)
noncomputable def nxP (wa : Nat → Int) (S : Nat → Prop) (m : Int32) : Int32 := @dite Int32 (∃ p, PIK wa (fun q => S q ∧ ¬ bT m q = true) p) (Classical.propDecidable _) (fun h => m ||| b1M (Classical.choose h)) (fun _ => m)
theorem nxp_y {wa : Nat → Int} {S : Nat → Prop} {m : Int32} {p : Nat} (h : PIK wa (fun q => S q ∧ ¬ bT m q = true) p) : nxP wa S m = m ||| b1M p := by
  unfold nxP
  have e : ∃ p, PIK wa (fun q => S q ∧ ¬ bT m q = true) p := ⟨p, h⟩
  rw [dif_pos e]
  exact congrArg (fun z => m ||| b1M z) (pik_un (Classical.choose_spec e) h)
theorem nxp_z {wa : Nat → Int} {S : Nat → Prop} {m : Int32} (h : ¬ ∃ p, PIK wa (fun q => S q ∧ ¬ bT m q = true) p) : nxP wa S m = m := by
  unfold nxP
  rw [dif_neg h]
theorem nxp_n {wa : Nat → Int} {S : Nat → Prop} {m : Int32} (h : ∀ p : Nat, p < 8 → S p → bT m p = true) : nxP wa S m = m := nxp_z (fun ⟨p, z⟩ => z.2.1.2 (h p z.1 z.2.1.1))
theorem nxp_c {wa wa' : Nat → Int} {S S' : Nat → Prop} {m : Int32} (hw : ∀ q, q < 8 → wa q = wa' q) (hS : ∀ q, q < 8 → (S q ↔ S' q)) : nxP wa S m = nxP wa' S' m := by
  by_cases h : ∃ p, PIK wa (fun q => S q ∧ ¬ bT m q = true) p
  · obtain ⟨p, hp⟩ := h
    rw [nxp_y hp, nxp_y (pik_c hw (fun q hq => and_congr (hS q hq) Iff.rfl) hp)]
  · rw [nxp_z h, nxp_z (fun ⟨p, hp⟩ => h ⟨p, pik_c (fun q hq => (hw q hq).symm) (fun q hq => and_congr (hS q hq).symm Iff.rfl) hp⟩)]
noncomputable def slP (wa : Nat → Int) (S : Nat → Prop) : Nat → Int32
  | 0 => Int32.ofInt 0
  | i + 1 => nxP wa S (slP wa S i)
theorem slp_c {wa wa' : Nat → Int} {S S' : Nat → Prop} (hw : ∀ q, q < 8 → wa q = wa' q) (hS : ∀ q, q < 8 → (S q ↔ S' q)) : ∀ i : Nat, slP wa S i = slP wa' S' i
  | 0 => rfl
  | i + 1 => by
    show nxP wa S (slP wa S i) = nxP wa' S' (slP wa' S' i)
    rw [slp_c hw hS i]
    exact nxp_c hw hS
theorem slp_st {wa : Nat → Int} {S : Nat → Prop} {i : Nat} (h : ∀ p : Nat, p < 8 → S p → bT (slP wa S i) p = true) : ∀ k : Nat, slP wa S (i + k) = slP wa S i
  | 0 => rfl
  | k + 1 => by
    show nxP wa S (slP wa S (i + k)) = _
    rw [slp_st h k]
    exact nxp_n h
theorem slp_sub {wa : Nat → Int} {S : Nat → Prop} : ∀ (i p : Nat), p < 8 → bT (slP wa S i) p = true → S p
  | 0, p, _, h => by
    replace h : bT (Int32.ofInt 0) p = true := h
    rw [bt_0] at h
    exact absurd h (by decide)
  | i + 1, p, hp, h => by
    replace h : bT (nxP wa S (slP wa S i)) p = true := h
    by_cases e : ∃ p, PIK wa (fun q => S q ∧ ¬ bT (slP wa S i) q = true) p
    · obtain ⟨r, hr⟩ := e
      rw [nxp_y hr, bt_or, bt_1 r hr.1 p hp, Bool.or_eq_true] at h
      rcases h with h | h
      · exact slp_sub i p hp h
      · rw [of_decide_eq_true h]; exact hr.2.1.1
    · rw [nxp_z e] at h
      exact slp_sub i p hp h
theorem slp_pc {wa : Nat → Int} {S : Nat → Prop} : ∀ i : Nat, pcM (slP wa S i) 8 ≤ i
  | 0 => by show pcM (Int32.ofInt 0) 8 ≤ 0; rw [pcm_0]; exact Nat.le_refl _
  | i + 1 => by
    show pcM (nxP wa S (slP wa S i)) 8 ≤ i + 1
    have ih := slp_pc (wa := wa) (S := S) i
    by_cases e : ∃ p, PIK wa (fun q => S q ∧ ¬ bT (slP wa S i) q = true) p
    · obtain ⟨r, hr⟩ := e
      rw [nxp_y hr, pcm_b1 hr.1 hr.2.1.2 8 (Nat.le_refl _), if_pos hr.1]
      omega
    · rw [nxp_z e]; omega
/-- i were chosen, all of them found -/
def SLI (wa : Nat → Int) (S : Nat → Prop) (i : Nat) (m : Int32) : Prop := m = slP wa S i ∧ pcM m 8 = i
theorem sli_0 {wa : Nat → Int} {S : Nat → Prop} : SLI wa S 0 (Int32.ofInt 0) := ⟨rfl, pcm_0 8⟩
theorem sli_up {wa : Nat → Int} {S : Nat → Prop} {i : Nat} {m : Int32} {p : Nat} (h : SLI wa S i m) (hp : PIK wa (fun q => S q ∧ ¬ bT m q = true) p) : SLI wa S (i + 1) (m ||| b1M p) := by
  refine ⟨?_, ?_⟩
  · show _ = nxP wa S (slP wa S i)
    rw [← h.1, nxp_y hp]
  · rw [pcm_b1 hp.1 hp.2.1.2 8 (Nat.le_refl _), if_pos hp.1, h.2]
theorem sli_e {wa : Nat → Int} {S : Nat → Prop} {i k : Nat} {m : Int32} (h : SLI wa S i m) (hk : i ≤ k) (hn : i = k ∨ ∀ p : Nat, p < 8 → S p → bT m p = true) : m = slP wa S k := by
  rcases hn with e | e
  · rw [← e]; exact h.1
  · have z := slp_st (wa := wa) (S := S) (i := i) (fun p hp hs => by rw [← h.1]; exact e p hp hs) (k - i)
    rw [show i + (k - i) = k by omega] at z
    rw [z]; exact h.1
/-- the search for the next one, as far as n -/
def NXQ (wa : Nat → Int) (A : Nat → Prop) (n b : Int) : Prop := (b = -1 ∧ ∀ q : Nat, (q : Int) < n → ¬ A q) ∨ (0 ≤ b ∧ b < n ∧ A b.toNat ∧ ∀ q : Nat, (q : Int) < n → A q → wa b.toNat < wa q ∨ (wa b.toNat = wa q ∧ b.toNat ≤ q))
theorem nxq_0 {wa : Nat → Int} {A : Nat → Prop} : NXQ wa A 0 (-1) := Or.inl ⟨rfl, fun q hq => absurd hq (by omega)⟩
theorem nxq_n {wa : Nat → Int} {A : Nat → Prop} {n b : Int} (h : NXQ wa A n b) (n0 : 0 ≤ n) (hA : ¬ A n.toNat) : NXQ wa A (n + 1) b := by
  rcases h with ⟨h1, h2⟩ | ⟨h1, h2, h3, h4⟩
  · refine Or.inl ⟨h1, fun q hq => ?_⟩
    by_cases e : q = n.toNat
    · rw [e]; exact hA
    · exact h2 q (nx_lt n0 e hq)
  · refine Or.inr ⟨h1, by omega, h3, fun q hq a => ?_⟩
    by_cases e : q = n.toNat
    · exact absurd (e ▸ a) hA
    · exact h4 q (nx_lt n0 e hq) a
theorem nxq_k {wa : Nat → Int} {A : Nat → Prop} {n b : Int} (h : NXQ wa A n b) (n0 : 0 ≤ n) (hb : b ≠ -1) (hw : wa b.toNat ≤ wa n.toNat) : NXQ wa A (n + 1) b := by
  rcases h with ⟨h1, h2⟩ | ⟨h1, h2, h3, h4⟩
  · exact absurd h1 hb
  · refine Or.inr ⟨h1, by omega, h3, fun q hq a => ?_⟩
    by_cases e : q = n.toNat
    · subst e; omega
    · exact h4 q (nx_lt n0 e hq) a
theorem nxq_y {wa : Nat → Int} {A : Nat → Prop} {n b : Int} (h : NXQ wa A n b) (n0 : 0 ≤ n) (hA : A n.toNat) (hw : b = -1 ∨ wa n.toNat < wa b.toNat) : NXQ wa A (n + 1) n := by
  refine Or.inr ⟨n0, by omega, hA, fun q hq a => ?_⟩
  by_cases e : q = n.toNat
  · subst e; omega
  · have hq' := nx_lt n0 e hq
    rcases h with ⟨h1, h2⟩ | ⟨h1, h2, h3, h4⟩
    · exact absurd a (h2 q hq')
    · have z := h4 q hq' a
      rcases hw with w | w
      · omega
      · exact Or.inl (by omega)
theorem nxq_p {wa : Nat → Int} {A A' : Nat → Prop} {n b : Int} (h : NXQ wa A n b) (n0 : n ≤ 8) (hb : b ≠ -1) (hA : ∀ q : Nat, q < 8 → (A' q ↔ ((q : Int) < n ∧ A q))) : PIK wa A' b.toNat := by
  rcases h with ⟨h1, h2⟩ | ⟨h1, h2, h3, h4⟩
  · exact absurd h1 hb
  · exact ⟨by omega, (hA _ (by omega)).mpr ⟨by omega, h3⟩, fun q hq a => h4 q ((hA q hq).mp a).1 ((hA q hq).mp a).2⟩
theorem nxq_e {wa : Nat → Int} {A : Nat → Prop} {n b : Int} (h : NXQ wa A n b) (hb : b = -1) : ∀ q : Nat, (q : Int) < n → ¬ A q := by
  rcases h with ⟨h1, h2⟩ | ⟨h1, h2, h3, h4⟩
  · exact h2
  · omega
/-! the run -/
abbrev RoS := (Nat → Int) × (Nat → Int) × (Nat → Int) × Int
def RoS.on (s : RoS) : Nat → Int := s.1
def RoS.fr (s : RoS) : Nat → Int := s.2.1
def RoS.wa (s : RoS) : Nat → Int := s.2.2.1
def RoS.wt (s : RoS) : Int := s.2.2.2
abbrev RoD := (Nat → Int) × Int × Int × Int × (Nat → Int)
def RoD.nd (D : RoD) : Nat → Int := D.1
def RoD.np (D : RoD) : Int := D.2.1
def RoD.wk (D : RoD) : Int := D.2.2.1
def RoD.rs (D : RoD) : Int := D.2.2.2.1
def RoD.il (D : RoD) : Nat → Int := D.2.2.2.2
def goP (D : RoD) (s : RoS) (q p : Nat) : Prop := (p : Int) < D.np ∧ 0 < s.on p ∧ s.on p < D.wk ∧ (q : Int) < D.il p
def beP (D : RoD) (s : RoS) (q p : Nat) : Prop := (p : Int) < D.np ∧ s.on p = 0 ∧ s.fr p ≤ (q : Int) ∧ (q : Int) < D.il p
noncomputable def c1M (D : RoD) (s : RoS) (q : Nat) : Int32 := slP s.wa (goP D s q) (D.nd q).toNat
noncomputable def c2M (D : RoD) (s : RoS) (q : Nat) : Int32 := slP s.wa (beP D s q) ((D.nd q).toNat - pcM (c1M D s q) 8)
noncomputable def nwM (D : RoD) (s : RoS) (q : Nat) : Int32 := c1M D s q ||| c2M D s q
noncomputable def stR (D : RoD) (s : RoS) (q : Nat) : RoS := (fun p => if (p : Int) < D.np then (if bT (nwM D s q) p = true then s.on p + 1 else 0) else s.on p, fun p => if (p : Int) < D.np ∧ ¬ bT (nwM D s q) p = true ∧ 0 < s.on p then (q : Int) + D.rs else s.fr p, fun p => if (p : Int) < D.np ∧ bT (nwM D s q) p = true then s.wa p + 1 else s.wa p, s.wt + (D.nd q - (pcM (nwM D s q) 8 : Int)))
noncomputable def ruR (D : RoD) : Nat → RoS
  | 0 => (fun _ => 0, fun _ => 0, fun _ => 0, 0)
  | q + 1 => stR D (ruR D q) q
theorem nw_dj {D : RoD} {s : RoS} {q : Nat} : ∀ p : Nat, p < 8 → bT (c1M D s q) p = true → ¬ bT (c2M D s q) p = true := fun p hp h1 h2 => by
  have a := slp_sub _ p hp h1
  have b := slp_sub _ p hp h2
  have a2 := a.2.1
  have b2 := b.2.1
  omega
theorem nw_pc {D : RoD} {s : RoS} {q : Nat} : pcM (nwM D s q) 8 = pcM (c1M D s q) 8 + pcM (c2M D s q) 8 := pcm_dj nw_dj 8 (Nat.le_refl _)
theorem nw_le {D : RoD} {s : RoS} {q : Nat} : pcM (c1M D s q) 8 ≤ (D.nd q).toNat ∧ pcM (c2M D s q) 8 ≤ (D.nd q).toNat - pcM (c1M D s q) 8 ∧ pcM (nwM D s q) 8 ≤ (D.nd q).toNat := by
  have a : pcM (c1M D s q) 8 ≤ (D.nd q).toNat := slp_pc _
  have b : pcM (c2M D s q) 8 ≤ (D.nd q).toNat - pcM (c1M D s q) 8 := slp_pc _
  refine ⟨a, b, ?_⟩
  rw [nw_pc]
  omega
def NDR (D : RoD) : Prop := ∀ q : Nat, q < 24 → 0 ≤ D.nd q ∧ D.nd q ≤ 8
theorem ru_b (D : RoD) : ∀ (q p : Nat), (0 ≤ (ruR D q).on p ∧ (ruR D q).on p ≤ (q : Int)) ∧ 0 ≤ (ruR D q).wa p ∧ (ruR D q).wa p ≤ (q : Int)
  | 0, p => by
    show (0 ≤ (0 : Int) ∧ (0 : Int) ≤ 0) ∧ 0 ≤ (0 : Int) ∧ (0 : Int) ≤ 0
    omega
  | q + 1, p => by
    have ih := ru_b D q p
    show (0 ≤ (if (p : Int) < D.np then (if bT (nwM D (ruR D q) q) p = true then (ruR D q).on p + 1 else 0) else (ruR D q).on p) ∧ (if (p : Int) < D.np then (if bT (nwM D (ruR D q) q) p = true then (ruR D q).on p + 1 else 0) else (ruR D q).on p) ≤ ((q + 1 : Nat) : Int)) ∧ 0 ≤ (if (p : Int) < D.np ∧ bT (nwM D (ruR D q) q) p = true then (ruR D q).wa p + 1 else (ruR D q).wa p) ∧ (if (p : Int) < D.np ∧ bT (nwM D (ruR D q) q) p = true then (ruR D q).wa p + 1 else (ruR D q).wa p) ≤ ((q + 1 : Nat) : Int)
    refine ⟨?_, ?_⟩
    · split
      · split <;> omega
      · omega
    · split <;> omega
theorem ru_w {D : RoD} (h : NDR D) : ∀ q : Nat, q ≤ 24 → 0 ≤ (ruR D q).wt ∧ (ruR D q).wt ≤ 8 * (q : Int)
  | 0, _ => by
    show 0 ≤ (0 : Int) ∧ (0 : Int) ≤ 8 * ((0 : Nat) : Int)
    omega
  | q + 1, hq => by
    have ih := ru_w h q (by omega)
    have a := (nw_le (D := D) (s := ruR D q) (q := q)).2.2
    have b := h q (by omega)
    show 0 ≤ (ruR D q).wt + (D.nd q - (pcM (nwM D (ruR D q) q) 8 : Int)) ∧ (ruR D q).wt + (D.nd q - (pcM (nwM D (ruR D q) q) 8 : Int)) ≤ 8 * ((q + 1 : Nat) : Int)
    omega
/-- two rotas over the same needs, pairs, hours -/
theorem ru_c {D D' : RoD} (hn : ∀ q : Nat, q < 24 → D.nd q = D'.nd q) (h1 : D.np = D'.np) (h2 : D.wk = D'.wk) (h3 : D.rs = D'.rs) (h4 : ∀ p : Nat, p < 8 → D.il p = D'.il p) (h8 : D.np ≤ 8) : ∀ q : Nat, q ≤ 24 → ruR D q = ruR D' q ∧ ∀ j : Nat, j < q → nwM D (ruR D j) j = nwM D' (ruR D' j) j
  | 0, _ => ⟨rfl, fun j hj => absurd hj (by omega)⟩
  | q + 1, hq => by
    obtain ⟨i1, i2⟩ := ru_c hn h1 h2 h3 h4 h8 q (by omega)
    have e1 : c1M D (ruR D q) q = c1M D' (ruR D' q) q := by
      unfold c1M
      rw [← i1, ← hn q (by omega)]
      refine slp_c (fun _ _ => rfl) (fun p hp => ?_) _
      unfold goP
      rw [h1, h2, h4 p hp]
    have e2 : c2M D (ruR D q) q = c2M D' (ruR D' q) q := by
      unfold c2M
      rw [← e1, ← i1, ← hn q (by omega)]
      refine slp_c (fun _ _ => rfl) (fun p hp => ?_) _
      unfold beP
      rw [h1, h4 p hp]
    have e3 : nwM D (ruR D q) q = nwM D' (ruR D' q) q := by
      unfold nwM
      rw [e1, e2]
    refine ⟨?_, fun j hj => ?_⟩
    · show stR D (ruR D q) q = stR D' (ruR D' q) q
      unfold stR
      rw [e3, i1, h1, h3, hn q (by omega)]
    · by_cases c : j = q
      · rw [c]; exact e3
      · exact i2 j (by omega)
def biI (x : Int32) : Int32 :=
  let a := x - ((x.toUInt32 >>> ((Int32.ofInt 1).toUInt32 &&& Int32.toUInt32 31)).toInt32 &&& Int32.ofInt 1431655765)
  let b := (a &&& Int32.ofInt 858993459) + ((a.toUInt32 >>> ((Int32.ofInt 2).toUInt32 &&& Int32.toUInt32 31)).toInt32 &&& Int32.ofInt 858993459)
  let c := (b + (b.toUInt32 >>> ((Int32.ofInt 4).toUInt32 &&& Int32.toUInt32 31)).toInt32) &&& Int32.ofInt 252645135
  let d := c + (c.toUInt32 >>> ((Int32.ofInt 8).toUInt32 &&& Int32.toUInt32 31)).toInt32
  let f := d + (d.toUInt32 >>> ((Int32.ofInt 16).toUInt32 &&& Int32.toUInt32 31)).toInt32
  f &&& Int32.ofInt 63
theorem bii_pc : ∀ n : Nat, n < 256 → (biI (Int32.ofInt (n : Int))).toInt = (pcM (Int32.ofInt (n : Int)) 8 : Int) := by decide +kernel
theorem bci_of {x v1 v2 v3 v4 v5 vv : Int} (p : 0 ≤ x ∧ x ≤ 255) (e1 : Int32.ofInt v1 = Int32.ofInt x - (((Int32.ofInt x).toUInt32 >>> ((Int32.ofInt 1).toUInt32 &&& Int32.toUInt32 31)).toInt32 &&& Int32.ofInt 1431655765)) (e2 : Int32.ofInt v2 = (Int32.ofInt v1 &&& Int32.ofInt 858993459) + (((Int32.ofInt v1).toUInt32 >>> ((Int32.ofInt 2).toUInt32 &&& Int32.toUInt32 31)).toInt32 &&& Int32.ofInt 858993459)) (e3 : Int32.ofInt v3 = (Int32.ofInt v2 + ((Int32.ofInt v2).toUInt32 >>> ((Int32.ofInt 4).toUInt32 &&& Int32.toUInt32 31)).toInt32) &&& Int32.ofInt 252645135) (e4 : Int32.ofInt v4 = Int32.ofInt v3 + ((Int32.ofInt v3).toUInt32 >>> ((Int32.ofInt 8).toUInt32 &&& Int32.toUInt32 31)).toInt32) (e5 : Int32.ofInt v5 = Int32.ofInt v4 + ((Int32.ofInt v4).toUInt32 >>> ((Int32.ofInt 16).toUInt32 &&& Int32.toUInt32 31)).toInt32) (ev : Int32.ofInt vv = Int32.ofInt v5 &&& Int32.ofInt 63) (r : rng vv) : vv = (pcM (Int32.ofInt x) 8 : Int) := by
  have z := bii_pc x.toNat (by omega)
  rw [show ((x.toNat : Nat) : Int) = x by omega] at z
  rw [← z]
  refine of_to r ?_
  rw [ev, e5, e4, e3, e2, e1]
  rfl
section CB7
variable {dT : Nat → ClassId} {A : Nat → Nat} {s : PS}
theorem j_bitI7 {l : Launch} {s0 : State} {D : va_G} {tys : List (ClassId × FieldType)} {a0 : Array Value} (G : GX l s0 D tys a0 dT) (I : Bd s) {x : Int} (p0 : rng x) (p1 : 0 ≤ x ∧ x ≤ 255) : CT l s0 D A dT 296 (rmN 296) [.int (Int32.ofInt x)] s (fun o t => Bd t ∧ Fm [] [] s t ∧ ∃ e, o = .inl (some (.int (Int32.ofInt e))) ∧ rng e ∧ (e = (pcM (Int32.ofInt x) 8 : Int))) := by
  refine ct_ofX G (by decide) (Nat.le_of_ble_eq_true rfl) (fun k X E ET hRt hXt q => ?_)
  show WS k 0 [(0, .int (Int32.ofInt x))] [] _ 0 0
  refine w_iload_n X.1 (x := Int32.ofInt x) (show decode (kCc k) 0 = .ok (.iload_n 0, 1) by rw [X.2.1.1]; decide +kernel) (List.Mem.head _) (w_iload_n X.1 (x := Int32.ofInt x) (show decode (kCc k) 1 = .ok (.iload_n 0, 1) by rw [X.2.1.1]; decide +kernel) (List.Mem.head _) (w_iconst X.1 (show decode (kCc k) 2 = .ok (.iconst 1, 1) by rw [X.2.1.1]; decide +kernel) (w_iushr X.1 (show decode (kCc k) 3 = .ok (.iushr, 1) by rw [X.2.1.1]; decide +kernel) (w_ldcw X.1 (z := 1431655765) (by rw [X.2.1.2.1]; exact chkW_ok (p := (7, 78)) (by decide +kernel)) (show decode (kCc k) 4 = .ok (.ldc_w 265, 3) by rw [X.2.1.1]; decide +kernel) (w_iand X.1 (show decode (kCc k) 7 = .ok (.iand, 1) by rw [X.2.1.1]; decide +kernel) (w_isub X.1 (show decode (kCc k) 8 = .ok (.isub, 1) by rw [X.2.1.1]; decide +kernel) (z_anyV (fun v1 hv1 ev1 => ?_))))))))
  refine w_istore_n X.1 (lv' := [(0, .int (Int32.ofInt v1))]) (show decode (kCc k) 9 = .ok (.istore_n 0, 1) by rw [X.2.1.1]; decide +kernel) (by rw [X.2.1.2.2]; decide) (fun q h => List.mem_cons.mpr (Or.inl (List.mem_singleton.mp h))) (w_iload_n X.1 (x := Int32.ofInt v1) (show decode (kCc k) 10 = .ok (.iload_n 0, 1) by rw [X.2.1.1]; decide +kernel) (List.Mem.head _) (w_ldcw X.1 (z := 858993459) (by rw [X.2.1.2.1]; exact chkW_ok (p := (7, 79)) (by decide +kernel)) (show decode (kCc k) 11 = .ok (.ldc_w 266, 3) by rw [X.2.1.1]; decide +kernel) (w_iand X.1 (show decode (kCc k) 14 = .ok (.iand, 1) by rw [X.2.1.1]; decide +kernel) (w_iload_n X.1 (x := Int32.ofInt v1) (show decode (kCc k) 15 = .ok (.iload_n 0, 1) by rw [X.2.1.1]; decide +kernel) (List.Mem.head _) (w_iconst X.1 (show decode (kCc k) 16 = .ok (.iconst 2, 1) by rw [X.2.1.1]; decide +kernel) (w_iushr X.1 (show decode (kCc k) 17 = .ok (.iushr, 1) by rw [X.2.1.1]; decide +kernel) (w_ldcw X.1 (z := 858993459) (by rw [X.2.1.2.1]; exact chkW_ok (p := (7, 79)) (by decide +kernel)) (show decode (kCc k) 18 = .ok (.ldc_w 266, 3) by rw [X.2.1.1]; decide +kernel) (w_iand X.1 (show decode (kCc k) 21 = .ok (.iand, 1) by rw [X.2.1.1]; decide +kernel) (w_iadd X.1 (show decode (kCc k) 22 = .ok (.iadd, 1) by rw [X.2.1.1]; decide +kernel) (z_anyV (fun v2 hv2 ev2 => ?_)))))))))))
  refine w_istore_n X.1 (lv' := [(0, .int (Int32.ofInt v2))]) (show decode (kCc k) 23 = .ok (.istore_n 0, 1) by rw [X.2.1.1]; decide +kernel) (by rw [X.2.1.2.2]; decide) (fun q h => List.mem_cons.mpr (Or.inl (List.mem_singleton.mp h))) (w_iload_n X.1 (x := Int32.ofInt v2) (show decode (kCc k) 24 = .ok (.iload_n 0, 1) by rw [X.2.1.1]; decide +kernel) (List.Mem.head _) (w_iload_n X.1 (x := Int32.ofInt v2) (show decode (kCc k) 25 = .ok (.iload_n 0, 1) by rw [X.2.1.1]; decide +kernel) (List.Mem.head _) (w_iconst X.1 (show decode (kCc k) 26 = .ok (.iconst 4, 1) by rw [X.2.1.1]; decide +kernel) (w_iushr X.1 (show decode (kCc k) 27 = .ok (.iushr, 1) by rw [X.2.1.1]; decide +kernel) (w_iadd X.1 (show decode (kCc k) 28 = .ok (.iadd, 1) by rw [X.2.1.1]; decide +kernel) (w_ldcw X.1 (z := 252645135) (by rw [X.2.1.2.1]; exact chkW_ok (p := (7, 80)) (by decide +kernel)) (show decode (kCc k) 29 = .ok (.ldc_w 267, 3) by rw [X.2.1.1]; decide +kernel) (w_iand X.1 (show decode (kCc k) 32 = .ok (.iand, 1) by rw [X.2.1.1]; decide +kernel) (z_anyV (fun v3 hv3 ev3 => ?_)))))))))
  refine w_istore_n X.1 (lv' := [(0, .int (Int32.ofInt v3))]) (show decode (kCc k) 33 = .ok (.istore_n 0, 1) by rw [X.2.1.1]; decide +kernel) (by rw [X.2.1.2.2]; decide) (fun q h => List.mem_cons.mpr (Or.inl (List.mem_singleton.mp h))) (w_iload_n X.1 (x := Int32.ofInt v3) (show decode (kCc k) 34 = .ok (.iload_n 0, 1) by rw [X.2.1.1]; decide +kernel) (List.Mem.head _) (w_iload_n X.1 (x := Int32.ofInt v3) (show decode (kCc k) 35 = .ok (.iload_n 0, 1) by rw [X.2.1.1]; decide +kernel) (List.Mem.head _) (w_bipush X.1 (show decode (kCc k) 36 = .ok (.bipush 8, 2) by rw [X.2.1.1]; decide +kernel) rfl (w_iushr X.1 (show decode (kCc k) 38 = .ok (.iushr, 1) by rw [X.2.1.1]; decide +kernel) (w_iadd X.1 (show decode (kCc k) 39 = .ok (.iadd, 1) by rw [X.2.1.1]; decide +kernel) (z_anyV (fun v4 hv4 ev4 => ?_)))))))
  refine w_istore_n X.1 (lv' := [(0, .int (Int32.ofInt v4))]) (show decode (kCc k) 40 = .ok (.istore_n 0, 1) by rw [X.2.1.1]; decide +kernel) (by rw [X.2.1.2.2]; decide) (fun q h => List.mem_cons.mpr (Or.inl (List.mem_singleton.mp h))) (w_iload_n X.1 (x := Int32.ofInt v4) (show decode (kCc k) 41 = .ok (.iload_n 0, 1) by rw [X.2.1.1]; decide +kernel) (List.Mem.head _) (w_iload_n X.1 (x := Int32.ofInt v4) (show decode (kCc k) 42 = .ok (.iload_n 0, 1) by rw [X.2.1.1]; decide +kernel) (List.Mem.head _) (w_bipush X.1 (show decode (kCc k) 43 = .ok (.bipush 16, 2) by rw [X.2.1.1]; decide +kernel) rfl (w_iushr X.1 (show decode (kCc k) 45 = .ok (.iushr, 1) by rw [X.2.1.1]; decide +kernel) (w_iadd X.1 (show decode (kCc k) 46 = .ok (.iadd, 1) by rw [X.2.1.1]; decide +kernel) (z_anyV (fun v5 hv5 ev5 => ?_)))))))
  refine w_istore_n X.1 (lv' := [(0, .int (Int32.ofInt v5))]) (show decode (kCc k) 47 = .ok (.istore_n 0, 1) by rw [X.2.1.1]; decide +kernel) (by rw [X.2.1.2.2]; decide) (fun q h => List.mem_cons.mpr (Or.inl (List.mem_singleton.mp h))) (w_iload_n X.1 (x := Int32.ofInt v5) (show decode (kCc k) 48 = .ok (.iload_n 0, 1) by rw [X.2.1.1]; decide +kernel) (List.Mem.head _) (w_bipush X.1 (show decode (kCc k) 49 = .ok (.bipush 63, 2) by rw [X.2.1.1]; decide +kernel) rfl (w_iand X.1 (show decode (kCc k) 51 = .ok (.iand, 1) by rw [X.2.1.1]; decide +kernel) (z_anyV (fun vv hvv evv => ?_)))))
  exact w_iret X.1 q hRt rfl (show decode (kCc k) 52 = .ok (.ireturn, 1) by rw [X.2.1.1]; decide +kernel) (Nat.zero_le _) (Nat.zero_le _) ⟨_, rfl, I, fm_rf _ _ s, vv, rfl, hvv, bci_of p1 ev1 ev2 ev3 ev4 ev5 evv hvv⟩
end CB7
/-! The class: who may, who is chosen -/
def MSK (P : Nat → Prop) (n e : Int) : Prop := (0 ≤ e ∧ e ≤ 255) ∧ ∀ p : Nat, p < 8 → (bT (Int32.ofInt e) p = true ↔ ((p : Int) < n ∧ P p))
theorem msk_0 {P : Nat → Prop} : MSK P 0 0 := ⟨by omega, fun p hp => ⟨fun h => by rw [bt_0] at h; exact absurd h (by decide), fun h => absurd h.1 (by omega)⟩⟩
theorem msk_n {P : Nat → Prop} {n e : Int} (h : MSK P n e) (n0 : 0 ≤ n) (hP : ¬ P n.toNat) : MSK P (n + 1) e := ⟨h.1, fun p hp => by
  rw [h.2 p hp]
  constructor
  · exact fun z => ⟨by omega, z.2⟩
  · intro z
    by_cases e1 : p = n.toNat
    · exact absurd (e1 ▸ z.2) hP
    · exact ⟨nx_lt n0 e1 z.1, z.2⟩⟩
theorem msk_y {P : Nat → Prop} {n e z y : Int} (h : MSK P n e) (n0 : 0 ≤ n ∧ n ≤ 7) (hP : P n.toNat) (h1 : Int32.ofInt y = Int32.ofInt 1 <<< (Int32.ofInt n &&& 31)) (hy : rng y) (h2 : Int32.ofInt z = Int32.ofInt e ||| Int32.ofInt y) (r : rng z) : MSK P (n + 1) z := by
  obtain ⟨a, b⟩ := ms_or h.1 n0 h1 hy h2 r
  refine ⟨a, fun p hp => ?_⟩
  rw [b, bt_or, Bool.or_eq_true, bt_1 n.toNat (by omega) p hp, h.2 p hp]
  constructor
  · intro z
    rcases z with z | z
    · exact ⟨by omega, z.2⟩
    · have e1 : p = n.toNat := of_decide_eq_true z
      exact ⟨by omega, e1 ▸ hP⟩
  · intro z
    by_cases e1 : p = n.toNat
    · exact Or.inr (decide_eq_true e1)
    · exact Or.inl ⟨nx_lt n0.1 e1 z.1, z.2⟩
def goC (u : PS) (y : Int) (p : Nat) : Prop := 0 < iC u 53 p ∧ iC u 53 p < iI u 36 ∧ y < iC u 52 p
def beC (u : PS) (y : Int) (p : Nat) : Prop := iC u 53 p = 0 ∧ iC u 54 p ≤ y ∧ y < iC u 52 p
/-- a set of pairs as bits -/
def MS (S : Nat → Prop) (e : Int) : Prop := (0 ≤ e ∧ e ≤ 255) ∧ ∀ p : Nat, p < 8 → (bT (Int32.ofInt e) p = true ↔ S p)
/-! settling -/
theorem if_cg {b c : Prop} [Decidable b] [Decidable c] {x y : Int} (h : b ↔ c) : (if b then x else y) = (if c then x else y) := by
  by_cases hb : b
  · rw [if_pos hb, if_pos (h.mp hb)]
  · rw [if_neg hb, if_neg (fun z => hb (h.mpr z))]
def STS (s : PS) (n y z : Int) (t : PS) : Prop := ∀ p : Nat, p < 8 → iC t 53 p = (if (p : Int) < n then (if bT (Int32.ofInt z) p = true then iC s 53 p + 1 else 0) else iC s 53 p) ∧ iC t 54 p = (if (p : Int) < n ∧ ¬ bT (Int32.ofInt z) p = true ∧ 0 < iC s 53 p then y + iI s 37 else iC s 54 p) ∧ iC t 55 p = (if (p : Int) < n ∧ bT (Int32.ofInt z) p = true then iC s 55 p + 1 else iC s 55 p)
theorem sts_0 {s : PS} {y z : Int} : STS s 0 y z s := fun p _ => ⟨(if_neg (by omega)).symm, (if_neg (fun w => absurd w.1 (by omega))).symm, (if_neg (fun w => absurd w.1 (by omega))).symm⟩
theorem sts_ge {s t : PS} {n y z : Int} {p : Nat} (h : STS s n y z t) (p8 : p < 8) (hp : n ≤ (p : Int)) : iC t 53 p = iC s 53 p ∧ iC t 54 p = iC s 54 p ∧ iC t 55 p = iC s 55 p := by
  obtain ⟨a, b, c⟩ := h p p8
  rw [if_neg (by omega)] at a
  rw [if_neg (fun w => absurd w.1 (by omega))] at b c
  exact ⟨a, b, c⟩
theorem upd_sam {a : Nat} {n : Int} {t u : PS} (h : SAM a t u) : UPD a n (iC t a n.toNat) t u := ⟨h _, fun j _ => h j⟩
theorem sts_up {n y z vo vf vw : Int} {s t u : PS} (h : STS s n y z t) (n0 : 0 ≤ n) (uO : UPD 53 n vo t u) (uF : UPD 54 n vf t u) (uW : UPD 55 n vw t u) (ho : vo = (if bT (Int32.ofInt z) n.toNat = true then iC s 53 n.toNat + 1 else 0)) (hf : vf = (if ¬ bT (Int32.ofInt z) n.toNat = true ∧ 0 < iC s 53 n.toNat then y + iI s 37 else iC s 54 n.toNat)) (hw : vw = (if bT (Int32.ofInt z) n.toNat = true then iC s 55 n.toNat + 1 else iC s 55 n.toNat)) : STS s (n + 1) y z u := fun p hp => by
  by_cases e : p = n.toNat
  · subst e
    have l : ((n.toNat : Nat) : Int) < n + 1 := by omega
    refine ⟨?_, ?_, ?_⟩
    · rw [uO.1, if_pos l, ho]
    · rw [uF.1, hf]
      exact if_cg ⟨fun w => ⟨l, w⟩, fun w => w.2⟩
    · rw [uW.1, hw]
      exact if_cg ⟨fun w => ⟨l, w⟩, fun w => w.2⟩
  · obtain ⟨a, b, c⟩ := h p hp
    have l : ((p : Int) < n + 1) ↔ ((p : Int) < n) := ⟨nx_lt n0 e, fun w => by omega⟩
    refine ⟨?_, ?_, ?_⟩
    · rw [uO.2 p e, a]
      exact (if_cg l).symm
    · rw [uF.2 p e, b]
      exact (if_cg (and_congr l Iff.rfl)).symm
    · rw [uW.2 p e, c]
      exact (if_cg (and_congr l Iff.rfl)).symm
/-- how long, how often: small numbers -/
def OWB (s : PS) : Prop := ∀ p : Nat, p < 8 → 0 ≤ iC s 53 p ∧ iC s 53 p ≤ 23 ∧ 0 ≤ iC s 55 p ∧ iC s 55 p ≤ 23
theorem owb_s {t u : PS} (h : OWB t) (a : SAM 53 t u) (b : SAM 55 t u) : OWB u := fun p hp => by
  rw [a p, b p]
  exact h p hp
/-! the run of the class -/
def CRN (D : RoD) (q : Nat) (t : PS) : Prop := (∀ p : Nat, p < 8 → iC t 53 p = (ruR D q).on p ∧ iC t 54 p = (ruR D q).fr p ∧ iC t 55 p = (ruR D q).wa p) ∧ iI t 38 = (ruR D q).wt ∧ ∀ j : Nat, j < q → iC t 56 j = (nwM D (ruR D j) j).toInt
def RDC (s : PS) (n : Int) : RoD := ⟨fun q => iC s 47 (iC s 51 q).toNat, n, iI s 36, iI s 37, fun p => iC s 52 p⟩
theorem crn_0 {D : RoD} {t : PS} (h1 : ∀ p : Nat, p < 8 → iC t 53 p = 0) (h2 : ∀ p : Nat, p < 8 → iC t 54 p = 0) (h3 : ∀ p : Nat, p < 8 → iC t 55 p = 0) (h4 : iI t 38 = 0) : CRN D 0 t := ⟨fun p hp => ⟨h1 p hp, h2 p hp, h3 p hp⟩, h4, fun j hj => absurd hj (by omega)⟩
theorem crn_ow {D : RoD} {q : Nat} {t : PS} (h : CRN D q t) (hq : q ≤ 23) : OWB t := fun p hp => by
  obtain ⟨a, _, c⟩ := h.1 p hp
  have b := ru_b D q p
  rw [a, c]
  omega
theorem cr_go {D : RoD} {q : Nat} {t u : PS} {y e n : Int} (hc : CRN D q t) (h : MSK (goC u y) n e) (hn : n = D.np) (sO : SAM 53 t u) (hw : iI u 36 = D.wk) (hi : ∀ p : Nat, iC u 52 p = D.il p) (hy : y = (q : Int)) : MS (goP D (ruR D q) q) e := ⟨h.1, fun p hp => by
  rw [h.2 p hp]
  unfold goC goP
  rw [sO p, (hc.1 p hp).1, hw, hi p, hy, hn]⟩
theorem cr_be {D : RoD} {q : Nat} {t u : PS} {y e n : Int} (hc : CRN D q t) (h : MSK (beC u y) n e) (hn : n = D.np) (sO : SAM 53 t u) (sF : SAM 54 t u) (hi : ∀ p : Nat, iC u 52 p = D.il p) (hy : y = (q : Int)) : MS (beP D (ruR D q) q) e := ⟨h.1, fun p hp => by
  rw [h.2 p hp]
  unfold beC beP
  rw [sO p, sF p, (hc.1 p hp).1, (hc.1 p hp).2.1, hi p, hy, hn]⟩
theorem cr_sl {D : RoD} {q : Nat} {t u : PS} {e d : Int} {m : Nat} {S : Nat → Prop} (hc : CRN D q t) (h : MS S e) (sW : SAM 55 t u) (hd : d.toNat = m) : slP (fun p => iC u 55 p) (fun p => bT (Int32.ofInt e) p = true) d.toNat = slP (ruR D q).wa S m := by
  rw [hd]
  exact slp_c (fun p hp => by show iC u 55 p = _; rw [sW p]; exact (hc.1 p hp).2.2) (fun p hp => h.2 p hp) m
theorem crn_up {D : RoD} {q : Nat} {t u v : PS} {now y n : Int} (hc : CRN D q t) (hS : STS u n y now v) (hn : n = D.np) (hy : y = (q : Int)) (sO : SAM 53 t u) (sF : SAM 54 t u) (sW : SAM 55 t u) (hr : iI u 37 = D.rs) (hnw : Int32.ofInt now = nwM D (ruR D q) q) (rn : rng now) (hwt : iI v 38 = (ruR D q).wt + (D.nd q - (pcM (nwM D (ruR D q) q) 8 : Int))) (hg : UPD 56 y now t v) : CRN D (q + 1) v := by
  refine ⟨fun p hp => ?_, hwt, fun j hj => ?_⟩
  · obtain ⟨a, b, c⟩ := hS p hp
    obtain ⟨a', b', c'⟩ := hc.1 p hp
    rw [sO p, a', hnw, hn] at a
    rw [sO p, sF p, a', b', hnw, hn, hr, hy] at b
    rw [sW p, c', hnw, hn] at c
    exact ⟨a, b, c⟩
  · by_cases e : j = q
    · subst e
      have z := hg.1
      rw [show y.toNat = j by omega] at z
      rw [z]
      exact of_to rn hnw
    · rw [hg.2 j (by omega)]
      exact hc.2.2 j (by omega)
/-! the needs of a plan -/
def NDE (Q : PlD) (m : Nat) (nd : Nat → Int) : Prop := ∃ (L : Nat → Nat) (k : Nat), LNQ Q m L k 23 ∧ ∀ j : Nat, j < 24 → nd j = pD Q (L j)
theorem nde_un {Q : PlD} {m : Nat} {a b : Nat → Int} (h : NDE Q m a) (g : NDE Q m b) : ∀ j : Nat, j < 24 → a j = b j := by
  obtain ⟨L, k, a1, a2⟩ := h
  obtain ⟨L', k', b1, b2⟩ := g
  obtain ⟨_, e2⟩ := lnq_un a1.1 b1.1 23 a1 b1
  intro j hj
  rw [a2 j hj, b2 j hj, e2 j (by omega)]
theorem nde_r {Q : PlD} {m : Nat} {nd : Nat → Int} (h : NDE Q m nd) (hD : nDP Q) : ∀ j : Nat, j < 24 → 0 ≤ nd j ∧ nd j ≤ 8 := by
  obtain ⟨L, k, _, a2⟩ := h
  intro j hj
  rw [a2 j hj]
  exact hD _
theorem nde_no {Q : PlD} {m : Nat} {nd : Nat → Int} (h : NDE Q m nd) (n : NOP Q m) : False := by
  obtain ⟨L, k, a1, _⟩ := h
  exact bspl_no a1.1 n
theorem nde_c {Q : PlD} {m : Nat} {t : PS} {e : Int} (h : PLE Q m t e) (he : e ≠ 0) (j : JND Q t) : NDE Q m (fun q => iC t 47 (iC t 51 q).toNat) := by
  rcases h with ⟨h, _⟩ | ⟨_, h1, _⟩
  · exact absurd h he
  · refine ⟨lnC t, _, h1, fun i hi => ?_⟩
    have w := lnq_w i (by omega) (show LNQ Q m (lnC t) _ i from ⟨h1.1, fun r hr => h1.2 r (by omega)⟩)
    exact j _ w.2.1
theorem nde_m {Q : PlD} {m : Nat} {t : PS} {e : Int} (h : PLT Q m t e) (he : e ≠ 0) : NDE Q m (fun q => iC t 396 q) := by
  rcases h with ⟨h, _⟩ | ⟨_, L, k, h1, h2⟩
  · exact absurd h he
  · exact ⟨L, k, h1, fun j hj => (h2 j hj).2⟩
/-! the answers -/
def RTA (Q : PlD) (m : Nat) (n wk rs : Int) (il : Nat → Int) (w : Nat) (e : Int) : Prop := (e = -1 ∧ NOP Q m) ∨ ∃ nd : Nat → Int, NDE Q m nd ∧ e = (nwM ⟨nd, n, wk, rs, il⟩ (ruR ⟨nd, n, wk, rs, il⟩ w) w).toInt
def LKA (Q : PlD) (m : Nat) (n wk rs : Int) (il : Nat → Int) (e : Int) : Prop := (e = -1 ∧ NOP Q m) ∨ ∃ nd : Nat → Int, NDE Q m nd ∧ e = (ruR ⟨nd, n, wk, rs, il⟩ 24).wt
/-- none below n is enough -/
def ENN (nd : Nat → Int) (wk rs : Int) (il : Nat → Int) (n : Int) : Prop := ∀ i : Nat, 1 ≤ i → (i : Int) < n → (ruR ⟨nd, (i : Int), wk, rs, il⟩ 24).wt ≠ 0
theorem enn_1 {nd : Nat → Int} {wk rs : Int} {il : Nat → Int} : ENN nd wk rs il 1 := fun i h1 h2 => absurd h2 (by omega)
theorem enn_up {nd : Nat → Int} {wk rs n : Int} {il : Nat → Int} (h : ENN nd wk rs il n) (n0 : 0 ≤ n) (hn : (ruR ⟨nd, n, wk, rs, il⟩ 24).wt ≠ 0) : ENN nd wk rs il (n + 1) := fun i h1 h2 => by
  by_cases e : i = n.toNat
  · rw [show (i : Int) = n by omega]; exact hn
  · exact h i h1 (nx_lt n0 e h2)
def ENA (Q : PlD) (m : Nat) (wk rs : Int) (il : Nat → Int) (e : Int) : Prop := (e = -1 ∧ NOP Q m) ∨ ∃ nd : Nat → Int, NDE Q m nd ∧ ((e = -1 ∧ ENN nd wk rs il 9) ∨ (1 ≤ e ∧ e ≤ 8 ∧ ENN nd wk rs il e ∧ (ruR ⟨nd, e, wk, rs, il⟩ 24).wt = 0))
theorem rd_c {Q : PlD} {m : Nat} {a b il il' : Nat → Int} {n wk rs wk' rs' : Int} (h : NDE Q m a) (g : NDE Q m b) (hw : wk = wk') (hr : rs = rs') (hi : ∀ p : Nat, p < 8 → il p = il' p) (n8 : n ≤ 8) : ∀ q : Nat, q ≤ 24 → ruR ⟨a, n, wk, rs, il⟩ q = ruR ⟨b, n, wk', rs', il'⟩ q ∧ ∀ j : Nat, j < q → nwM ⟨a, n, wk, rs, il⟩ (ruR ⟨a, n, wk, rs, il⟩ j) j = nwM ⟨b, n, wk', rs', il'⟩ (ruR ⟨b, n, wk', rs', il'⟩ j) j := ru_c (D := ⟨a, n, wk, rs, il⟩) (D' := ⟨b, n, wk', rs', il'⟩) (nde_un h g) rfl hw hr hi n8
theorem rta_eq {Q : PlD} {m : Nat} {il il' : Nat → Int} {n wk rs wk' rs' e e' : Int} {w : Nat} (a : RTA Q m n wk rs il w e) (b : RTA Q m n wk' rs' il' w e') (hw : wk = wk') (hr : rs = rs') (hi : ∀ p : Nat, p < 8 → il p = il' p) (n8 : n ≤ 8) (w0 : w < 24) : e = e' := by
  rcases a with ⟨a1, a2⟩ | ⟨x, a1, a2⟩
  · rcases b with ⟨b1, _⟩ | ⟨y, b1, _⟩
    · exact a1.trans b1.symm
    · exact (nde_no b1 a2).elim
  · rcases b with ⟨_, b2⟩ | ⟨y, b1, b2⟩
    · exact (nde_no a1 b2).elim
    · rw [a2, b2, (rd_c a1 b1 hw hr hi n8 24 (Nat.le_refl _)).2 w w0]
theorem lka_eq {Q : PlD} {m : Nat} {il il' : Nat → Int} {n wk rs wk' rs' e e' : Int} (a : LKA Q m n wk rs il e) (b : LKA Q m n wk' rs' il' e') (hw : wk = wk') (hr : rs = rs') (hi : ∀ p : Nat, p < 8 → il p = il' p) (n8 : n ≤ 8) : e = e' := by
  rcases a with ⟨a1, a2⟩ | ⟨x, a1, a2⟩
  · rcases b with ⟨b1, _⟩ | ⟨y, b1, _⟩
    · exact a1.trans b1.symm
    · exact (nde_no b1 a2).elim
  · rcases b with ⟨_, b2⟩ | ⟨y, b1, b2⟩
    · exact (nde_no a1 b2).elim
    · rw [a2, b2, (rd_c a1 b1 hw hr hi n8 24 (Nat.le_refl _)).1]
theorem enn_no {nd : Nat → Int} {wk rs n e : Int} {il : Nat → Int} (h : ENN nd wk rs il n) (e0 : 1 ≤ e ∧ e < n) (z : (ruR ⟨nd, e, wk, rs, il⟩ 24).wt = 0) : False := by
  have w := h e.toNat (by omega) (by omega)
  rw [show ((e.toNat : Nat) : Int) = e by omega] at w
  exact w z
theorem ena_eq {Q : PlD} {m : Nat} {il il' : Nat → Int} {wk rs wk' rs' e e' : Int} (a : ENA Q m wk rs il e) (b : ENA Q m wk' rs' il' e') (hw : wk = wk') (hr : rs = rs') (hi : ∀ p : Nat, p < 8 → il p = il' p) : e = e' := by
  rcases a with ⟨a1, a2⟩ | ⟨x, a1, a2⟩
  · rcases b with ⟨b1, _⟩ | ⟨y, b1, _⟩
    · exact a1.trans b1.symm
    · exact (nde_no b1 a2).elim
  · rcases b with ⟨_, b2⟩ | ⟨y, b1, b2⟩
    · exact (nde_no a1 b2).elim
    · have R : ∀ n : Int, n ≤ 8 → ruR ⟨x, n, wk, rs, il⟩ 24 = ruR ⟨y, n, wk', rs', il'⟩ 24 := fun n n8 => (rd_c a1 b1 hw hr hi n8 24 (Nat.le_refl _)).1
      rcases a2 with ⟨a3, a4⟩ | ⟨a3, a4, a5, a6⟩
      · rcases b2 with ⟨b3, _⟩ | ⟨b3, b4, _, b6⟩
        · exact a3.trans b3.symm
        · rw [← R e' b4] at b6
          exact (enn_no a4 ⟨b3, by omega⟩ b6).elim
      · rcases b2 with ⟨_, b4⟩ | ⟨b3, b4, b5, b6⟩
        · rw [R e a4] at a6
          exact (enn_no b4 ⟨a3, by omega⟩ a6).elim
        · refine Classical.byContradiction (fun z => ?_)
          by_cases g : e < e'
          · rw [R e a4] at a6
            exact enn_no b5 ⟨a3, g⟩ a6
          · rw [← R e' b4] at b6
            exact enn_no a5 ⟨b3, by omega⟩ b6
/-! enough: over the pairs -/
def ENQ (Q : PlD) (m : Nat) (wk rs : Int) (il : Nat → Int) (c : Int) (t : PS) : Prop := ∃ nd : Nat → Int, NDE Q m nd ∧ (∀ j : Nat, iC t 47 (iC t 51 j).toNat = nd j) ∧ ENN nd wk rs il c
theorem enq_1 {Q : PlD} {m : Nat} {wk rs : Int} {il : Nat → Int} {t : PS} (h : NDE Q m (fun q => iC t 47 (iC t 51 q).toNat)) : ENQ Q m wk rs il 1 t := ⟨_, h, fun _ => rfl, enn_1⟩
theorem enq_nd {Q : PlD} {m : Nat} {wk rs c : Int} {il : Nat → Int} {t : PS} (h : ENQ Q m wk rs il c t) (hD : nDP Q) : ∀ q : Nat, q < 24 → 0 ≤ iC t 47 (iC t 51 q).toNat ∧ iC t 47 (iC t 51 q).toNat ≤ 8 := fun q hq => by
  obtain ⟨nd, h1, h2, _⟩ := h
  rw [h2 q]
  exact nde_r h1 hD q hq
theorem rdc_e {s t : PS} {n : Int} {nd : Nat → Int} (h : ∀ j : Nat, iC t 47 (iC t 51 j).toNat = nd j) (hw : iI t 36 = iI s 36) (hr : iI t 37 = iI s 37) (hi : ∀ p : Nat, iC t 52 p = iC s 52 p) : RDC t n = (nd, n, iI s 36, iI s 37, fun p => iC s 52 p) := by
  unfold RDC
  rw [hw, hr, show (fun p => iC t 52 p) = (fun p => iC s 52 p) from funext hi, show (fun q => iC t 47 (iC t 51 q).toNat) = nd from funext h]
theorem enq_up {Q : PlD} {m : Nat} {c : Int} {s t u : PS} (h : ENQ Q m (iI s 36) (iI s 37) (fun p => iC s 52 p) c t) (hc : CRN (RDC t c) 24 u) (hw : iI t 36 = iI s 36) (hr : iI t 37 = iI s 37) (hi : ∀ p : Nat, iC t 52 p = iC s 52 p) (a : SAM 47 t u) (b : SAM 51 t u) (hz : iI u 38 ≠ 0) (c0 : 0 ≤ c) : ENQ Q m (iI s 36) (iI s 37) (fun p => iC s 52 p) (c + 1) u := by
  obtain ⟨nd, h1, h2, h3⟩ := h
  refine ⟨nd, h1, fun j => by rw [b j, a _]; exact h2 j, enn_up h3 c0 ?_⟩
  rw [rdc_e h2 hw hr hi] at hc
  exact fun z => hz (hc.2.1.trans z)
theorem enq_y {Q : PlD} {m : Nat} {c : Int} {s t u : PS} (h : ENQ Q m (iI s 36) (iI s 37) (fun p => iC s 52 p) c t) (hc : CRN (RDC t c) 24 u) (hw : iI t 36 = iI s 36) (hr : iI t 37 = iI s 37) (hi : ∀ p : Nat, iC t 52 p = iC s 52 p) (hz : iI u 38 = 0) (c0 : 1 ≤ c ∧ c ≤ 8) : ENA Q m (iI s 36) (iI s 37) (fun p => iC s 52 p) c := by
  obtain ⟨nd, h1, h2, h3⟩ := h
  rw [rdc_e h2 hw hr hi] at hc
  exact Or.inr ⟨nd, h1, Or.inr ⟨c0.1, c0.2, h3, hc.2.1.symm.trans hz⟩⟩
theorem enq_n {Q : PlD} {m : Nat} {wk rs c : Int} {il : Nat → Int} {t : PS} (h : ENQ Q m wk rs il c t) (c9 : c = 9) : ENA Q m wk rs il (-1) := by
  obtain ⟨nd, h1, _, h3⟩ := h
  rw [c9] at h3
  exact Or.inr ⟨nd, h1, Or.inl ⟨rfl, h3⟩⟩
theorem rta_c {Q : PlD} {m : Nat} {n w e e0 : Int} {s t u : PS} (hp : PLE Q m t e0) (he : e0 ≠ 0) (hj : JND Q t) (hc : CRN (RDC t n) 24 u) (hw : iI t 36 = iI s 36) (hr : iI t 37 = iI s 37) (hi : ∀ p : Nat, iC t 52 p = iC s 52 p) (w0 : 0 ≤ w ∧ w ≤ 23) (hE : e = iC u 56 w.toNat) : RTA Q m n (iI s 36) (iI s 37) (fun p => iC s 52 p) w.toNat e := by
  have hn := nde_c hp he hj
  rw [rdc_e (fun _ => rfl) hw hr hi] at hc
  exact Or.inr ⟨_, hn, hE.trans (hc.2.2 w.toNat (by omega))⟩
theorem lka_c {Q : PlD} {m : Nat} {n e e0 : Int} {s t u : PS} (hp : PLE Q m t e0) (he : e0 ≠ 0) (hj : JND Q t) (hc : CRN (RDC t n) 24 u) (hw : iI t 36 = iI s 36) (hr : iI t 37 = iI s 37) (hi : ∀ p : Nat, iC t 52 p = iC s 52 p) (hE : e = iI u 38) : LKA Q m n (iI s 36) (iI s 37) (fun p => iC s 52 p) e := by
  have hn := nde_c hp he hj
  rw [rdc_e (fun _ => rfl) hw hr hi] at hc
  exact Or.inr ⟨_, hn, hE.trans hc.2.1⟩
section M87kp
variable {l : Launch} {s0 : State} {D : va_G} {tys : List (ClassId × FieldType)} {a0 : Array Value} {A : Nat → Nat} {dT : Nat → ClassId} {s : PS}
set_option maxRecDepth 4000 in
theorem j_fill7_53 (G : GX l s0 D tys a0 dT) (I : Bd s) {x : Int} (p0 : (-2147483648) ≤ x ∧ x ≤ 2147483647) : CT l s0 D A dT 312 (rmN 312) [.ref (A 63), .int (Int32.ofInt x)] s (fun o t => Bd t ∧ Fm [] [53] s t ∧ o = .inl none ∧ (∀ q : Nat, q < 8 → iC t 53 q = x)) := by
  refine ct_ofX G (by decide) (Nat.le_of_ble_eq_true rfl) (fun k X E ET hRt hXt q => ?_)
  show WS k 0 [(0, .ref (A 63)), (1, .int (Int32.ofInt x))] [] _ 0 0
  have F : Fm [] [53] s s := fm_rf _ _ s
  have L5 : ∀ (n : Nat) (t : PS) (xv c ln : Int), Bd t → Fm [] [53] s t → (∀ q : Nat, (q : Int) < c → iC t 53 q = x) → ((xv = x ∧ (-2147483648) ≤ x ∧ x ≤ 2147483647) ∧ ln = 8 ∧ 0 ≤ c ∧ c ≤ 8) → (8 - c : Int).toNat < n → (∀ (t' : PS) (c' : Int), Bd t' → Fm [] [53] s t' → (∀ q : Nat, (q : Int) < c' → iC t' 53 q = x) → (xv = x ∧ c' = 8) → WS k 20 [(0, .ref (A 63)), (1, .int (Int32.ofInt xv)), (2, .int (Int32.ofInt c')), (3, .int (Int32.ofInt ln))] [] (Wd A dT t') 0 0) → WS k 5 [(0, .ref (A 63)), (1, .int (Int32.ofInt xv)), (2, .int (Int32.ofInt c)), (3, .int (Int32.ofInt ln))] [] (Wd A dT t) 0 0 := by
    intro n
    induction n with
    | zero =>
      intro t xv c ln I F hq hi hm kx
      exact absurd hm (Nat.not_lt_zero _)
    | succ n ih =>
      intro t xv c ln I F hq hi hm kx
      refine z_load_n X (x := c) rfl (List.Mem.tail _ (List.Mem.tail _ (List.Mem.head _))) (z_load_n X (x := ln) rfl (List.Mem.tail _ (List.Mem.tail _ (List.Mem.tail _ (List.Mem.head _)))) (z_icmp_ge X (t := 20) rfl rfl ⟨by first | exact oq_fa4e5087 hi.2.2.1 | omega, by first | exact oq_d3f5d874 hi.2.2.2 | omega⟩ ⟨by first | exact oq_fc89a5e2 hi.2.1 | omega, by first | exact oq_105e271f hi.2.1 | omega⟩ (fun g1001 => ?_) (fun g1001 => ?_)))
      ·
        refine WS_pq [0, 1, 2, 3] (lv' := [(0, .ref (A 63)), (1, .int (Int32.ofInt xv)), (2, .int (Int32.ofInt c)), (3, .int (Int32.ofInt ln))]) rfl ?_
        exact kx _ c I F hq (by first | exact ⟨hi.1.1, oq_738f4459 hi.2.2.2 g1001 hi.2.1⟩ | omega)
      ·
        refine z_aload_n X (x := A 63) rfl (List.Mem.head _) (z_load_n X (x := c) rfl (List.Mem.tail _ (List.Mem.tail _ (List.Mem.head _))) (z_load_n X (x := xv) rfl (List.Mem.tail _ (List.Mem.head _)) (z_ast X 63 rfl (c518_ok rfl) rfl (by first | exact hi.2.2.1 | omega) (show c < 8 by first | exact oq_9b5e226c g1001 hi.2.1 | omega) (cbig_ok rfl) (wd_gen (fun s1002 hs1002 => ?_)))))
        have Is1002 : Bd s1002 := eqB hs1002 (bd_C I (show ((-2147483648) : Int) ≤ xv ∧ xv ≤ 2147483647 by first | exact ⟨oq_6bc29d15 hi.1.1 hi.1.2.1, oq_60a194f9 hi.1.1 hi.1.2.2⟩ | omega) ⟨by first | exact oq_6bc29d15 hi.1.1 hi.1.2.1 | omega, by first | exact oq_60a194f9 hi.1.1 hi.1.2.2 | omega⟩)
        have Fs1002 := eqF hs1002 (fm_C F (inl_ok (a := 53) rfl))
        have aws1002_53 : UPD 53 (c) xv t s1002 := by rw [hs1002]; exact upd_put (sam_rf (a := 53) (s := t)) ⟨by first | exact oq_6bc29d15 hi.1.1 hi.1.2.1 | omega, by first | exact oq_60a194f9 hi.1.1 hi.1.2.2 | omega⟩
        refine z_inc X (x := c) (lv' := [(2, .int (Int32.ofInt (c + 1))), (0, .ref (A 63)), (1, .int (Int32.ofInt xv)), (3, .int (Int32.ofInt ln))]) rfl (by decide) (List.Mem.tail _ (List.Mem.tail _ (List.Mem.head _))) (fun _ h => h) (z_goto X (t := 5) rfl rfl (WS_pq [1, 2, 0, 3] (lv' := [(0, .ref (A 63)), (1, .int (Int32.ofInt xv)), (2, .int (Int32.ofInt (c + 1))), (3, .int (Int32.ofInt ln))]) rfl ?_))
        exact ih _ xv (c + 1) ln Is1002 Fs1002 (fil_up hq (by omega) (upd_v aws1002_53 (by omega))) (by first | exact ⟨And.intro (hi.1.1) (And.intro (hi.1.2.1) (hi.1.2.2)), hi.2.1, oq_54f49eb5 hi.2.2.1, oq_a1613568 g1001 hi.2.1⟩ | omega) (by first | exact qk_me hm (by decide) (oq_a2c770ba g1001 hi.2.1) | omega) kx
  refine z_const X rfl (z_store_n X (lv' := [(2, .int (Int32.ofInt 0)), (0, .ref (A 63)), (1, .int (Int32.ofInt x))]) rfl (by decide) (fun _ h => h) (z_aload_n X (x := A 63) rfl (List.Mem.tail _ (List.Mem.head _)) (z_alen X 63 rfl (by decide) rfl rfl (z_store_n X (lv' := [(3, .int (Int32.ofInt 8)), (2, .int (Int32.ofInt 0)), (0, .ref (A 63)), (1, .int (Int32.ofInt x))]) rfl (by decide) (fun _ h => h) (WS_pq [2, 3, 1, 0] (lv' := [(0, .ref (A 63)), (1, .int (Int32.ofInt x)), (2, .int (Int32.ofInt 0)), (3, .int (Int32.ofInt 8))]) rfl (L5 ((8 - 0 : Int).toNat + 1) s x 0 8 I F (fun q hq => absurd hq (by omega)) (by first | exact ⟨And.intro (by decide) (And.intro (p0.1) (p0.2)), by decide, by decide, by decide⟩ | omega) (Nat.lt_succ_self _) ?_))))))
  intro s1 x2 Is1 Fs1 Qs1 hs1
  exact w_vret X.1 q hRt (ax_d X (show cdA 312 20 = some (.return_, 1, 0, 0, 0) from rfl)) (Nat.zero_le _) (Nat.zero_le _) ⟨_, rfl, Is1, Fs1, rfl, (fun q hq => Qs1 q (by omega))⟩
set_option maxRecDepth 4000 in
theorem j_fill7_54 (G : GX l s0 D tys a0 dT) (I : Bd s) {x : Int} (p0 : (-2147483648) ≤ x ∧ x ≤ 2147483647) : CT l s0 D A dT 312 (rmN 312) [.ref (A 64), .int (Int32.ofInt x)] s (fun o t => Bd t ∧ Fm [] [54] s t ∧ o = .inl none ∧ (∀ q : Nat, q < 8 → iC t 54 q = x)) := by
  refine ct_ofX G (by decide) (Nat.le_of_ble_eq_true rfl) (fun k X E ET hRt hXt q => ?_)
  show WS k 0 [(0, .ref (A 64)), (1, .int (Int32.ofInt x))] [] _ 0 0
  have F : Fm [] [54] s s := fm_rf _ _ s
  have L5 : ∀ (n : Nat) (t : PS) (xv c ln : Int), Bd t → Fm [] [54] s t → (∀ q : Nat, (q : Int) < c → iC t 54 q = x) → ((xv = x ∧ (-2147483648) ≤ x ∧ x ≤ 2147483647) ∧ ln = 8 ∧ 0 ≤ c ∧ c ≤ 8) → (8 - c : Int).toNat < n → (∀ (t' : PS) (c' : Int), Bd t' → Fm [] [54] s t' → (∀ q : Nat, (q : Int) < c' → iC t' 54 q = x) → (xv = x ∧ c' = 8) → WS k 20 [(0, .ref (A 64)), (1, .int (Int32.ofInt xv)), (2, .int (Int32.ofInt c')), (3, .int (Int32.ofInt ln))] [] (Wd A dT t') 0 0) → WS k 5 [(0, .ref (A 64)), (1, .int (Int32.ofInt xv)), (2, .int (Int32.ofInt c)), (3, .int (Int32.ofInt ln))] [] (Wd A dT t) 0 0 := by
    intro n
    induction n with
    | zero =>
      intro t xv c ln I F hq hi hm kx
      exact absurd hm (Nat.not_lt_zero _)
    | succ n ih =>
      intro t xv c ln I F hq hi hm kx
      refine z_load_n X (x := c) rfl (List.Mem.tail _ (List.Mem.tail _ (List.Mem.head _))) (z_load_n X (x := ln) rfl (List.Mem.tail _ (List.Mem.tail _ (List.Mem.tail _ (List.Mem.head _)))) (z_icmp_ge X (t := 20) rfl rfl ⟨by first | exact oq_fa4e5087 hi.2.2.1 | omega, by first | exact oq_d3f5d874 hi.2.2.2 | omega⟩ ⟨by first | exact oq_fc89a5e2 hi.2.1 | omega, by first | exact oq_105e271f hi.2.1 | omega⟩ (fun g1001 => ?_) (fun g1001 => ?_)))
      ·
        refine WS_pq [0, 1, 2, 3] (lv' := [(0, .ref (A 64)), (1, .int (Int32.ofInt xv)), (2, .int (Int32.ofInt c)), (3, .int (Int32.ofInt ln))]) rfl ?_
        exact kx _ c I F hq (by first | exact ⟨hi.1.1, oq_738f4459 hi.2.2.2 g1001 hi.2.1⟩ | omega)
      ·
        refine z_aload_n X (x := A 64) rfl (List.Mem.head _) (z_load_n X (x := c) rfl (List.Mem.tail _ (List.Mem.tail _ (List.Mem.head _))) (z_load_n X (x := xv) rfl (List.Mem.tail _ (List.Mem.head _)) (z_ast X 64 rfl (c518_ok rfl) rfl (by first | exact hi.2.2.1 | omega) (show c < 8 by first | exact oq_9b5e226c g1001 hi.2.1 | omega) (cbig_ok rfl) (wd_gen (fun s1002 hs1002 => ?_)))))
        have Is1002 : Bd s1002 := eqB hs1002 (bd_C I (show ((-2147483648) : Int) ≤ xv ∧ xv ≤ 2147483647 by first | exact ⟨oq_6bc29d15 hi.1.1 hi.1.2.1, oq_60a194f9 hi.1.1 hi.1.2.2⟩ | omega) ⟨by first | exact oq_6bc29d15 hi.1.1 hi.1.2.1 | omega, by first | exact oq_60a194f9 hi.1.1 hi.1.2.2 | omega⟩)
        have Fs1002 := eqF hs1002 (fm_C F (inl_ok (a := 54) rfl))
        have aws1002_54 : UPD 54 (c) xv t s1002 := by rw [hs1002]; exact upd_put (sam_rf (a := 54) (s := t)) ⟨by first | exact oq_6bc29d15 hi.1.1 hi.1.2.1 | omega, by first | exact oq_60a194f9 hi.1.1 hi.1.2.2 | omega⟩
        refine z_inc X (x := c) (lv' := [(2, .int (Int32.ofInt (c + 1))), (0, .ref (A 64)), (1, .int (Int32.ofInt xv)), (3, .int (Int32.ofInt ln))]) rfl (by decide) (List.Mem.tail _ (List.Mem.tail _ (List.Mem.head _))) (fun _ h => h) (z_goto X (t := 5) rfl rfl (WS_pq [1, 2, 0, 3] (lv' := [(0, .ref (A 64)), (1, .int (Int32.ofInt xv)), (2, .int (Int32.ofInt (c + 1))), (3, .int (Int32.ofInt ln))]) rfl ?_))
        exact ih _ xv (c + 1) ln Is1002 Fs1002 (fil_up hq (by omega) (upd_v aws1002_54 (by omega))) (by first | exact ⟨And.intro (hi.1.1) (And.intro (hi.1.2.1) (hi.1.2.2)), hi.2.1, oq_54f49eb5 hi.2.2.1, oq_a1613568 g1001 hi.2.1⟩ | omega) (by first | exact qk_me hm (by decide) (oq_a2c770ba g1001 hi.2.1) | omega) kx
  refine z_const X rfl (z_store_n X (lv' := [(2, .int (Int32.ofInt 0)), (0, .ref (A 64)), (1, .int (Int32.ofInt x))]) rfl (by decide) (fun _ h => h) (z_aload_n X (x := A 64) rfl (List.Mem.tail _ (List.Mem.head _)) (z_alen X 64 rfl (by decide) rfl rfl (z_store_n X (lv' := [(3, .int (Int32.ofInt 8)), (2, .int (Int32.ofInt 0)), (0, .ref (A 64)), (1, .int (Int32.ofInt x))]) rfl (by decide) (fun _ h => h) (WS_pq [2, 3, 1, 0] (lv' := [(0, .ref (A 64)), (1, .int (Int32.ofInt x)), (2, .int (Int32.ofInt 0)), (3, .int (Int32.ofInt 8))]) rfl (L5 ((8 - 0 : Int).toNat + 1) s x 0 8 I F (fun q hq => absurd hq (by omega)) (by first | exact ⟨And.intro (by decide) (And.intro (p0.1) (p0.2)), by decide, by decide, by decide⟩ | omega) (Nat.lt_succ_self _) ?_))))))
  intro s1 x2 Is1 Fs1 Qs1 hs1
  exact w_vret X.1 q hRt (ax_d X (show cdA 312 20 = some (.return_, 1, 0, 0, 0) from rfl)) (Nat.zero_le _) (Nat.zero_le _) ⟨_, rfl, Is1, Fs1, rfl, (fun q hq => Qs1 q (by omega))⟩
set_option maxRecDepth 4000 in
theorem j_fill7_55 (G : GX l s0 D tys a0 dT) (I : Bd s) {x : Int} (p0 : (-2147483648) ≤ x ∧ x ≤ 2147483647) : CT l s0 D A dT 312 (rmN 312) [.ref (A 65), .int (Int32.ofInt x)] s (fun o t => Bd t ∧ Fm [] [55] s t ∧ o = .inl none ∧ (∀ q : Nat, q < 8 → iC t 55 q = x)) := by
  refine ct_ofX G (by decide) (Nat.le_of_ble_eq_true rfl) (fun k X E ET hRt hXt q => ?_)
  show WS k 0 [(0, .ref (A 65)), (1, .int (Int32.ofInt x))] [] _ 0 0
  have F : Fm [] [55] s s := fm_rf _ _ s
  have L5 : ∀ (n : Nat) (t : PS) (xv c ln : Int), Bd t → Fm [] [55] s t → (∀ q : Nat, (q : Int) < c → iC t 55 q = x) → ((xv = x ∧ (-2147483648) ≤ x ∧ x ≤ 2147483647) ∧ ln = 8 ∧ 0 ≤ c ∧ c ≤ 8) → (8 - c : Int).toNat < n → (∀ (t' : PS) (c' : Int), Bd t' → Fm [] [55] s t' → (∀ q : Nat, (q : Int) < c' → iC t' 55 q = x) → (xv = x ∧ c' = 8) → WS k 20 [(0, .ref (A 65)), (1, .int (Int32.ofInt xv)), (2, .int (Int32.ofInt c')), (3, .int (Int32.ofInt ln))] [] (Wd A dT t') 0 0) → WS k 5 [(0, .ref (A 65)), (1, .int (Int32.ofInt xv)), (2, .int (Int32.ofInt c)), (3, .int (Int32.ofInt ln))] [] (Wd A dT t) 0 0 := by
    intro n
    induction n with
    | zero =>
      intro t xv c ln I F hq hi hm kx
      exact absurd hm (Nat.not_lt_zero _)
    | succ n ih =>
      intro t xv c ln I F hq hi hm kx
      refine z_load_n X (x := c) rfl (List.Mem.tail _ (List.Mem.tail _ (List.Mem.head _))) (z_load_n X (x := ln) rfl (List.Mem.tail _ (List.Mem.tail _ (List.Mem.tail _ (List.Mem.head _)))) (z_icmp_ge X (t := 20) rfl rfl ⟨by first | exact oq_fa4e5087 hi.2.2.1 | omega, by first | exact oq_d3f5d874 hi.2.2.2 | omega⟩ ⟨by first | exact oq_fc89a5e2 hi.2.1 | omega, by first | exact oq_105e271f hi.2.1 | omega⟩ (fun g1001 => ?_) (fun g1001 => ?_)))
      ·
        refine WS_pq [0, 1, 2, 3] (lv' := [(0, .ref (A 65)), (1, .int (Int32.ofInt xv)), (2, .int (Int32.ofInt c)), (3, .int (Int32.ofInt ln))]) rfl ?_
        exact kx _ c I F hq (by first | exact ⟨hi.1.1, oq_738f4459 hi.2.2.2 g1001 hi.2.1⟩ | omega)
      ·
        refine z_aload_n X (x := A 65) rfl (List.Mem.head _) (z_load_n X (x := c) rfl (List.Mem.tail _ (List.Mem.tail _ (List.Mem.head _))) (z_load_n X (x := xv) rfl (List.Mem.tail _ (List.Mem.head _)) (z_ast X 65 rfl (c518_ok rfl) rfl (by first | exact hi.2.2.1 | omega) (show c < 8 by first | exact oq_9b5e226c g1001 hi.2.1 | omega) (cbig_ok rfl) (wd_gen (fun s1002 hs1002 => ?_)))))
        have Is1002 : Bd s1002 := eqB hs1002 (bd_C I (show ((-2147483648) : Int) ≤ xv ∧ xv ≤ 2147483647 by first | exact ⟨oq_6bc29d15 hi.1.1 hi.1.2.1, oq_60a194f9 hi.1.1 hi.1.2.2⟩ | omega) ⟨by first | exact oq_6bc29d15 hi.1.1 hi.1.2.1 | omega, by first | exact oq_60a194f9 hi.1.1 hi.1.2.2 | omega⟩)
        have Fs1002 := eqF hs1002 (fm_C F (inl_ok (a := 55) rfl))
        have aws1002_55 : UPD 55 (c) xv t s1002 := by rw [hs1002]; exact upd_put (sam_rf (a := 55) (s := t)) ⟨by first | exact oq_6bc29d15 hi.1.1 hi.1.2.1 | omega, by first | exact oq_60a194f9 hi.1.1 hi.1.2.2 | omega⟩
        refine z_inc X (x := c) (lv' := [(2, .int (Int32.ofInt (c + 1))), (0, .ref (A 65)), (1, .int (Int32.ofInt xv)), (3, .int (Int32.ofInt ln))]) rfl (by decide) (List.Mem.tail _ (List.Mem.tail _ (List.Mem.head _))) (fun _ h => h) (z_goto X (t := 5) rfl rfl (WS_pq [1, 2, 0, 3] (lv' := [(0, .ref (A 65)), (1, .int (Int32.ofInt xv)), (2, .int (Int32.ofInt (c + 1))), (3, .int (Int32.ofInt ln))]) rfl ?_))
        exact ih _ xv (c + 1) ln Is1002 Fs1002 (fil_up hq (by omega) (upd_v aws1002_55 (by omega))) (by first | exact ⟨And.intro (hi.1.1) (And.intro (hi.1.2.1) (hi.1.2.2)), hi.2.1, oq_54f49eb5 hi.2.2.1, oq_a1613568 g1001 hi.2.1⟩ | omega) (by first | exact qk_me hm (by decide) (oq_a2c770ba g1001 hi.2.1) | omega) kx
  refine z_const X rfl (z_store_n X (lv' := [(2, .int (Int32.ofInt 0)), (0, .ref (A 65)), (1, .int (Int32.ofInt x))]) rfl (by decide) (fun _ h => h) (z_aload_n X (x := A 65) rfl (List.Mem.tail _ (List.Mem.head _)) (z_alen X 65 rfl (by decide) rfl rfl (z_store_n X (lv' := [(3, .int (Int32.ofInt 8)), (2, .int (Int32.ofInt 0)), (0, .ref (A 65)), (1, .int (Int32.ofInt x))]) rfl (by decide) (fun _ h => h) (WS_pq [2, 3, 1, 0] (lv' := [(0, .ref (A 65)), (1, .int (Int32.ofInt x)), (2, .int (Int32.ofInt 0)), (3, .int (Int32.ofInt 8))]) rfl (L5 ((8 - 0 : Int).toNat + 1) s x 0 8 I F (fun q hq => absurd hq (by omega)) (by first | exact ⟨And.intro (by decide) (And.intro (p0.1) (p0.2)), by decide, by decide, by decide⟩ | omega) (Nat.lt_succ_self _) ?_))))))
  intro s1 x2 Is1 Fs1 Qs1 hs1
  exact w_vret X.1 q hRt (ax_d X (show cdA 312 20 = some (.return_, 1, 0, 0, 0) from rfl)) (Nat.zero_le _) (Nat.zero_le _) ⟨_, rfl, Is1, Fs1, rfl, (fun q hq => Qs1 q (by omega))⟩
set_option maxRecDepth 4000 in
theorem c4_need7 (G : GX l s0 D tys a0 dT) (I : Bd s) {x : Int} (p0 : 0 ≤ x ∧ x ≤ 23) : CT l s0 D A dT 44 (rmN 44) [.ref (A 54), .int (Int32.ofInt x)] s (fun o t => Bd t ∧ Fm [] [] s t ∧ ∃ e, o = .inl (some (.int (Int32.ofInt e))) ∧ rng e ∧ (e = iC s 47 (iC s 51 (x : Int).toNat).toNat)) := by
  refine ct_ofX G (by decide) (Nat.le_of_ble_eq_true rfl) (fun k X E ET hRt hXt q => ?_)
  show WS k 0 [(0, .ref (A 54)), (1, .int (Int32.ofInt x))] [] _ 0 0
  have F : Fm [] [] s s := fm_rf _ _ s
  refine z_aload_n X (x := A 54) rfl (List.Mem.head _) (s_getR X 54 rfl (c518_ok rfl) rfl rfl (z_aload_n X (x := A 54) rfl (List.Mem.head _) (s_getR X 54 rfl (c518_ok rfl) rfl rfl (z_load_n X (x := x) rfl (List.Mem.tail _ (List.Mem.head _)) (z_ald X 60 rfl (c518_ok rfl) rfl (by first | exact p0.1 | omega) (show x < 24 by first | exact oq_7fdb8aa6 p0.2 | omega) (cbig_ok rfl) ?_)))))
  have b1 := bc_51 I (show (x).toNat < 24 by first | exact oq_138251d6 p0.2 | omega)
  refine z_ald X 56 rfl (c518_ok rfl) rfl (by first | exact b1.1 | omega) (show (iC s 51 (x).toNat) < 6 by first | exact oq_9207f8f8 b1.2 | omega) (cbig_ok rfl) ?_
  have b2 := bc_47 I (show ((iC s 51 (x).toNat)).toNat < 6 by first | exact oq_78f9cd89 b1.2 | omega)
  exact w_iret X.1 q hRt rfl (ax_d X (show cdA 44 11 = some (.ireturn, 1, 0, 0, 0) from rfl)) (Nat.zero_le _) (Nat.zero_le _) ⟨_, rfl, I, F, (iC s 47 ((iC s 51 (x).toNat)).toNat), rfl, (rng_to _), rfl⟩
set_option maxRecDepth 4000 in
theorem c6_go7 (G : GX l s0 D tys a0 dT) (I : Bd s) {x y : Int} (p0 : 1 ≤ x ∧ x ≤ 8) (p1 : 0 ≤ y ∧ y ≤ 23) : CT l s0 D A dT 63 (rmN 63) [.ref (A 61), .int (Int32.ofInt x), .int (Int32.ofInt y)] s (fun o t => Bd t ∧ Fm [] [] s t ∧ ∃ e, o = .inl (some (.int (Int32.ofInt e))) ∧ rng e ∧ (MSK (goC s y) x e)) := by
  refine ct_ofX G (by decide) (Nat.le_of_ble_eq_true rfl) (fun k X E ET hRt hXt q => ?_)
  show WS k 0 [(0, .ref (A 61)), (1, .int (Int32.ofInt x)), (2, .int (Int32.ofInt y))] [] _ 0 0
  have F : Fm [] [] s s := fm_rf _ _ s
  have L5 : ∀ (n : Nat) (t : PS) (xv yv bi p : Int), Bd t → Fm [] [] s t → (MSK (goC s y) p bi) → ((xv = x ∧ 1 ≤ x ∧ x ≤ 8) ∧ (yv = y ∧ 0 ≤ y ∧ y ≤ 23) ∧ (0 ≤ bi ∧ bi ≤ 255) ∧ (0 ≤ p ∧ p ≤ x)) → (8 - p : Int).toNat < n → (∀ (t' : PS) (bi' p' : Int), Bd t' → Fm [] [] s t' → (MSK (goC s y) p' bi') → (xv = x ∧ (0 ≤ bi' ∧ bi' ≤ 255) ∧ p' = x) → WS k 59 [(0, .ref (A 61)), (1, .int (Int32.ofInt xv)), (2, .int (Int32.ofInt yv)), (3, .int (Int32.ofInt bi')), (4, .int (Int32.ofInt p'))] [] (Wd A dT t') 0 0) → WS k 5 [(0, .ref (A 61)), (1, .int (Int32.ofInt xv)), (2, .int (Int32.ofInt yv)), (3, .int (Int32.ofInt bi)), (4, .int (Int32.ofInt p))] [] (Wd A dT t) 0 0 := by
    intro n
    induction n with
    | zero =>
      intro t xv yv bi p I F hq hi hm kx
      exact absurd hm (Nat.not_lt_zero _)
    | succ n ih =>
      intro t xv yv bi p I F hq hi hm kx
      refine z_load X (x := p) rfl (List.Mem.tail _ (List.Mem.tail _ (List.Mem.tail _ (List.Mem.tail _ (List.Mem.head _))))) (z_load_n X (x := xv) rfl (List.Mem.tail _ (List.Mem.head _)) (z_icmp_ge X (t := 59) rfl rfl ⟨by first | exact oq_fa4e5087 hi.2.2.2.1 | omega, by first | exact oq_b5dbaaed hi.2.2.2.2 hi.1.2.2 | omega⟩ ⟨by first | exact oq_4dc996b7 hi.1.1 hi.1.2.1 | omega, by first | exact oq_8bd33971 hi.1.1 hi.1.2.2 | omega⟩ (fun g1001 => ?_) (fun g1001 => ?_)))
      ·
        refine WS_pq [0, 1, 2, 3, 4] (lv' := [(0, .ref (A 61)), (1, .int (Int32.ofInt xv)), (2, .int (Int32.ofInt yv)), (3, .int (Int32.ofInt bi)), (4, .int (Int32.ofInt p))]) rfl ?_
        exact kx _ bi p I F hq (by first | exact ⟨hi.1.1, And.intro (hi.2.2.1.1) (hi.2.2.1.2), oq_537ca82a hi.2.2.2.2 g1001 hi.1.1⟩ | omega)
      ·
        have z53 : iC t 53 (p : Int).toNat = iC s 53 (p : Int).toNat := fm_c F List.not_mem_nil
        have z52 : iC t 52 (p : Int).toNat = iC s 52 (p : Int).toNat := fm_c F List.not_mem_nil
        have zw : iI t 36 = iI s 36 := fm_i F List.not_mem_nil
        refine z_aload_n X (x := A 61) rfl (List.Mem.head _) (s_getR X 61 rfl (c518_ok rfl) rfl rfl (z_load X (x := p) rfl (List.Mem.tail _ (List.Mem.tail _ (List.Mem.tail _ (List.Mem.tail _ (List.Mem.head _))))) (z_ald X 63 rfl (c518_ok rfl) rfl (by first | exact hi.2.2.2.1 | omega) (show p < 8 by first | exact oq_940075ae g1001 hi.1.1 hi.1.2.2 | omega) (cbig_ok rfl) ?_)))
        have b1002 := bc_53 I (show (p).toNat < 8 by first | exact oq_5f8a5a7e g1001 hi.1.1 hi.1.2.2 | omega)
        refine z_if_le X (t := 53) rfl rfl (rng_to _) (fun g1003 => ?_) (fun g1003 => ?_)
        ·
          refine z_inc X (x := p) (lv' := [(4, .int (Int32.ofInt (p + 1))), (0, .ref (A 61)), (1, .int (Int32.ofInt xv)), (2, .int (Int32.ofInt yv)), (3, .int (Int32.ofInt bi))]) rfl (by decide) (List.Mem.tail _ (List.Mem.tail _ (List.Mem.tail _ (List.Mem.tail _ (List.Mem.head _))))) (fun _ h => h) (z_goto X (t := 5) rfl rfl (WS_pq [1, 2, 3, 4, 0] (lv' := [(0, .ref (A 61)), (1, .int (Int32.ofInt xv)), (2, .int (Int32.ofInt yv)), (3, .int (Int32.ofInt bi)), (4, .int (Int32.ofInt (p + 1)))]) rfl ?_))
          exact ih _ xv yv bi (p + 1) I F (msk_n hq (by omega) (fun z => by replace z : 0 < iC s 53 (p : Int).toNat ∧ iC s 53 (p : Int).toNat < iI s 36 ∧ y < iC s 52 (p : Int).toNat := z; omega)) (by first | exact ⟨And.intro (hi.1.1) (And.intro (hi.1.2.1) (hi.1.2.2)), And.intro (hi.2.1.1) (And.intro (hi.2.1.2.1) (hi.2.1.2.2)), And.intro (hi.2.2.1.1) (hi.2.2.1.2), oq_54f49eb5 hi.2.2.2.1, oq_8a89b3ae g1001 hi.1.1⟩ | omega) (by first | exact qk_me hm (by decide) (oq_67fee7f6 g1001 hi.1.1 hi.1.2.2) | omega) kx
        ·
          refine z_aload_n X (x := A 61) rfl (List.Mem.head _) (s_getR X 61 rfl (c518_ok rfl) rfl rfl (z_load X (x := p) rfl (List.Mem.tail _ (List.Mem.tail _ (List.Mem.tail _ (List.Mem.tail _ (List.Mem.head _))))) (z_ald X 63 rfl (c518_ok rfl) rfl (by first | exact hi.2.2.2.1 | omega) (show p < 8 by first | exact oq_940075ae g1001 hi.1.1 hi.1.2.2 | omega) (cbig_ok rfl) ?_)))
          have b1004 := bc_53 I (show (p).toNat < 8 by first | exact oq_5f8a5a7e g1001 hi.1.1 hi.1.2.2 | omega)
          refine z_aload_n X (x := A 61) rfl (List.Mem.head _) (z_getI X 61 rfl (c518_ok rfl) rfl rfl ?_)
          have b1005 := bi_36 I
          refine z_icmp_ge X (t := 53) rfl rfl (rng_to _) (rng_to _) (fun g1006 => ?_) (fun g1006 => ?_)
          ·
            refine z_inc X (x := p) (lv' := [(4, .int (Int32.ofInt (p + 1))), (0, .ref (A 61)), (1, .int (Int32.ofInt xv)), (2, .int (Int32.ofInt yv)), (3, .int (Int32.ofInt bi))]) rfl (by decide) (List.Mem.tail _ (List.Mem.tail _ (List.Mem.tail _ (List.Mem.tail _ (List.Mem.head _))))) (fun _ h => h) (z_goto X (t := 5) rfl rfl (WS_pq [1, 2, 3, 4, 0] (lv' := [(0, .ref (A 61)), (1, .int (Int32.ofInt xv)), (2, .int (Int32.ofInt yv)), (3, .int (Int32.ofInt bi)), (4, .int (Int32.ofInt (p + 1)))]) rfl ?_))
            exact ih _ xv yv bi (p + 1) I F (msk_n hq (by omega) (fun z => by replace z : 0 < iC s 53 (p : Int).toNat ∧ iC s 53 (p : Int).toNat < iI s 36 ∧ y < iC s 52 (p : Int).toNat := z; omega)) (by first | exact ⟨And.intro (hi.1.1) (And.intro (hi.1.2.1) (hi.1.2.2)), And.intro (hi.2.1.1) (And.intro (hi.2.1.2.1) (hi.2.1.2.2)), And.intro (hi.2.2.1.1) (hi.2.2.1.2), oq_54f49eb5 hi.2.2.2.1, oq_8a89b3ae g1001 hi.1.1⟩ | omega) (by first | exact qk_me hm (by decide) (oq_67fee7f6 g1001 hi.1.1 hi.1.2.2) | omega) kx
          ·
            refine z_load_n X (x := yv) rfl (List.Mem.tail _ (List.Mem.tail _ (List.Mem.head _))) (z_aload_n X (x := A 61) rfl (List.Mem.head _) (s_getR X 61 rfl (c518_ok rfl) rfl rfl (z_load X (x := p) rfl (List.Mem.tail _ (List.Mem.tail _ (List.Mem.tail _ (List.Mem.tail _ (List.Mem.head _))))) (z_ald X 62 rfl (c518_ok rfl) rfl (by first | exact hi.2.2.2.1 | omega) (show p < 8 by first | exact oq_940075ae g1001 hi.1.1 hi.1.2.2 | omega) (cbig_ok rfl) ?_))))
            have b1007 := bc_52 I (show (p).toNat < 8 by first | exact oq_5f8a5a7e g1001 hi.1.1 hi.1.2.2 | omega)
            refine z_icmp_ge X (t := 53) rfl rfl ⟨by first | exact oq_b3df2c6f hi.2.1.1 hi.2.1.2.1 | omega, by first | exact oq_9c540ca8 hi.2.1.1 hi.2.1.2.2 | omega⟩ (rng_to _) (fun g1008 => ?_) (fun g1008 => ?_)
            ·
              refine z_inc X (x := p) (lv' := [(4, .int (Int32.ofInt (p + 1))), (0, .ref (A 61)), (1, .int (Int32.ofInt xv)), (2, .int (Int32.ofInt yv)), (3, .int (Int32.ofInt bi))]) rfl (by decide) (List.Mem.tail _ (List.Mem.tail _ (List.Mem.tail _ (List.Mem.tail _ (List.Mem.head _))))) (fun _ h => h) (z_goto X (t := 5) rfl rfl (WS_pq [1, 2, 3, 4, 0] (lv' := [(0, .ref (A 61)), (1, .int (Int32.ofInt xv)), (2, .int (Int32.ofInt yv)), (3, .int (Int32.ofInt bi)), (4, .int (Int32.ofInt (p + 1)))]) rfl ?_))
              exact ih _ xv yv bi (p + 1) I F (msk_n hq (by omega) (fun z => by replace z : 0 < iC s 53 (p : Int).toNat ∧ iC s 53 (p : Int).toNat < iI s 36 ∧ y < iC s 52 (p : Int).toNat := z; omega)) (by first | exact ⟨And.intro (hi.1.1) (And.intro (hi.1.2.1) (hi.1.2.2)), And.intro (hi.2.1.1) (And.intro (hi.2.1.2.1) (hi.2.1.2.2)), And.intro (hi.2.2.1.1) (hi.2.2.1.2), oq_54f49eb5 hi.2.2.2.1, oq_8a89b3ae g1001 hi.1.1⟩ | omega) (by first | exact qk_me hm (by decide) (oq_67fee7f6 g1001 hi.1.1 hi.1.2.2) | omega) kx
            ·
              refine z_load_n X (x := bi) rfl (List.Mem.tail _ (List.Mem.tail _ (List.Mem.tail _ (List.Mem.head _)))) (z_const X rfl (z_load X (x := p) rfl (List.Mem.tail _ (List.Mem.tail _ (List.Mem.tail _ (List.Mem.tail _ (List.Mem.head _))))) (z_bshl X rfl (z_anyV (fun y1009 hy1009 ey1009 => ?_)))))
              refine w_ior X.1 (ax_d X (show cdA 63 51 = some (.ior, 1, 0, 0, 0) from rfl)) (z_anyV (fun y1010 hy1010 ey1010 => ?_))
              have hm9 := (ms_or (e := bi) (p := p) (by omega) (by omega) ey1009 hy1009 ey1010 hy1010).1
              refine z_store_n X (lv' := [(3, .int (Int32.ofInt y1010)), (0, .ref (A 61)), (1, .int (Int32.ofInt xv)), (2, .int (Int32.ofInt yv)), (4, .int (Int32.ofInt p))]) rfl (by decide) (fun _ h => h) (z_inc X (x := p) (lv' := [(4, .int (Int32.ofInt (p + 1))), (3, .int (Int32.ofInt y1010)), (0, .ref (A 61)), (1, .int (Int32.ofInt xv)), (2, .int (Int32.ofInt yv))]) rfl (by decide) (List.Mem.tail _ (List.Mem.tail _ (List.Mem.tail _ (List.Mem.tail _ (List.Mem.head _))))) (fun _ h => h) (z_goto X (t := 5) rfl rfl (WS_pq [2, 3, 4, 1, 0] (lv' := [(0, .ref (A 61)), (1, .int (Int32.ofInt xv)), (2, .int (Int32.ofInt yv)), (3, .int (Int32.ofInt y1010)), (4, .int (Int32.ofInt (p + 1)))]) rfl ?_)))
              exact ih _ xv yv y1010 (p + 1) I F (msk_y hq (by omega) (show 0 < iC s 53 (p : Int).toNat ∧ iC s 53 (p : Int).toNat < iI s 36 ∧ y < iC s 52 (p : Int).toNat by omega) ey1009 hy1009 ey1010 hy1010) (by first | exact ⟨And.intro (hi.1.1) (And.intro (hi.1.2.1) (hi.1.2.2)), And.intro (hi.2.1.1) (And.intro (hi.2.1.2.1) (hi.2.1.2.2)), by omega, oq_54f49eb5 hi.2.2.2.1, oq_8a89b3ae g1001 hi.1.1⟩ | omega) (by first | exact qk_me hm (by decide) (oq_67fee7f6 g1001 hi.1.1 hi.1.2.2) | omega) kx
  refine z_const X rfl (z_store_n X (lv' := [(3, .int (Int32.ofInt 0)), (0, .ref (A 61)), (1, .int (Int32.ofInt x)), (2, .int (Int32.ofInt y))]) rfl (by decide) (fun _ h => h) (z_const X rfl (z_store X (lv' := [(4, .int (Int32.ofInt 0)), (3, .int (Int32.ofInt 0)), (0, .ref (A 61)), (1, .int (Int32.ofInt x)), (2, .int (Int32.ofInt y))]) rfl (by decide) (fun _ h => h) (WS_pq [2, 3, 4, 1, 0] (lv' := [(0, .ref (A 61)), (1, .int (Int32.ofInt x)), (2, .int (Int32.ofInt y)), (3, .int (Int32.ofInt 0)), (4, .int (Int32.ofInt 0))]) rfl (L5 ((8 - 0 : Int).toNat + 1) s x y 0 0 I F msk_0 (by first | exact ⟨And.intro (by decide) (And.intro (p0.1) (p0.2)), And.intro (by decide) (And.intro (p1.1) (p1.2)), And.intro (by decide) (by decide), by decide, oq_2a6e3b50 p0.1⟩ | omega) (Nat.lt_succ_self _) ?_)))))
  intro s1 x2 x3 Is1 Fs1 Qs1 hs1
  refine z_load_n X (x := x2) rfl (List.Mem.tail _ (List.Mem.tail _ (List.Mem.tail _ (List.Mem.head _)))) ?_
  exact w_iret X.1 q hRt rfl (ax_d X (show cdA 63 60 = some (.ireturn, 1, 0, 0, 0) from rfl)) (Nat.zero_le _) (Nat.zero_le _) ⟨_, rfl, Is1, Fs1, x2, rfl, ⟨by first | exact oq_fa4e5087 hs1.2.1.1 | omega, by first | exact oq_4567a937 hs1.2.1.2 | omega⟩, (by have z := Qs1; rw [show x3 = x by omega] at z; exact z)⟩
set_option maxRecDepth 4000 in
theorem c6_be7 (G : GX l s0 D tys a0 dT) (I : Bd s) {x y : Int} (p0 : 1 ≤ x ∧ x ≤ 8) (p1 : 0 ≤ y ∧ y ≤ 23) : CT l s0 D A dT 64 (rmN 64) [.ref (A 61), .int (Int32.ofInt x), .int (Int32.ofInt y)] s (fun o t => Bd t ∧ Fm [] [] s t ∧ ∃ e, o = .inl (some (.int (Int32.ofInt e))) ∧ rng e ∧ (MSK (beC s y) x e)) := by
  refine ct_ofX G (by decide) (Nat.le_of_ble_eq_true rfl) (fun k X E ET hRt hXt q => ?_)
  show WS k 0 [(0, .ref (A 61)), (1, .int (Int32.ofInt x)), (2, .int (Int32.ofInt y))] [] _ 0 0
  have F : Fm [] [] s s := fm_rf _ _ s
  have L5 : ∀ (n : Nat) (t : PS) (xv yv bi p : Int), Bd t → Fm [] [] s t → (MSK (beC s y) p bi) → ((xv = x ∧ 1 ≤ x ∧ x ≤ 8) ∧ (yv = y ∧ 0 ≤ y ∧ y ≤ 23) ∧ (0 ≤ bi ∧ bi ≤ 255) ∧ (0 ≤ p ∧ p ≤ x)) → (8 - p : Int).toNat < n → (∀ (t' : PS) (bi' p' : Int), Bd t' → Fm [] [] s t' → (MSK (beC s y) p' bi') → (xv = x ∧ (0 ≤ bi' ∧ bi' ≤ 255) ∧ p' = x) → WS k 56 [(0, .ref (A 61)), (1, .int (Int32.ofInt xv)), (2, .int (Int32.ofInt yv)), (3, .int (Int32.ofInt bi')), (4, .int (Int32.ofInt p'))] [] (Wd A dT t') 0 0) → WS k 5 [(0, .ref (A 61)), (1, .int (Int32.ofInt xv)), (2, .int (Int32.ofInt yv)), (3, .int (Int32.ofInt bi)), (4, .int (Int32.ofInt p))] [] (Wd A dT t) 0 0 := by
    intro n
    induction n with
    | zero =>
      intro t xv yv bi p I F hq hi hm kx
      exact absurd hm (Nat.not_lt_zero _)
    | succ n ih =>
      intro t xv yv bi p I F hq hi hm kx
      refine z_load X (x := p) rfl (List.Mem.tail _ (List.Mem.tail _ (List.Mem.tail _ (List.Mem.tail _ (List.Mem.head _))))) (z_load_n X (x := xv) rfl (List.Mem.tail _ (List.Mem.head _)) (z_icmp_ge X (t := 56) rfl rfl ⟨by first | exact oq_fa4e5087 hi.2.2.2.1 | omega, by first | exact oq_b5dbaaed hi.2.2.2.2 hi.1.2.2 | omega⟩ ⟨by first | exact oq_4dc996b7 hi.1.1 hi.1.2.1 | omega, by first | exact oq_8bd33971 hi.1.1 hi.1.2.2 | omega⟩ (fun g1001 => ?_) (fun g1001 => ?_)))
      ·
        refine WS_pq [0, 1, 2, 3, 4] (lv' := [(0, .ref (A 61)), (1, .int (Int32.ofInt xv)), (2, .int (Int32.ofInt yv)), (3, .int (Int32.ofInt bi)), (4, .int (Int32.ofInt p))]) rfl ?_
        exact kx _ bi p I F hq (by first | exact ⟨hi.1.1, And.intro (hi.2.2.1.1) (hi.2.2.1.2), oq_537ca82a hi.2.2.2.2 g1001 hi.1.1⟩ | omega)
      ·
        have z53 : iC t 53 (p : Int).toNat = iC s 53 (p : Int).toNat := fm_c F List.not_mem_nil
        have z54 : iC t 54 (p : Int).toNat = iC s 54 (p : Int).toNat := fm_c F List.not_mem_nil
        have z52 : iC t 52 (p : Int).toNat = iC s 52 (p : Int).toNat := fm_c F List.not_mem_nil
        refine z_aload_n X (x := A 61) rfl (List.Mem.head _) (s_getR X 61 rfl (c518_ok rfl) rfl rfl (z_load X (x := p) rfl (List.Mem.tail _ (List.Mem.tail _ (List.Mem.tail _ (List.Mem.tail _ (List.Mem.head _))))) (z_ald X 63 rfl (c518_ok rfl) rfl (by first | exact hi.2.2.2.1 | omega) (show p < 8 by first | exact oq_940075ae g1001 hi.1.1 hi.1.2.2 | omega) (cbig_ok rfl) ?_)))
        have b1002 := bc_53 I (show (p).toNat < 8 by first | exact oq_5f8a5a7e g1001 hi.1.1 hi.1.2.2 | omega)
        refine z_if_ne X (t := 50) rfl rfl (rng_to _) (fun g1003 => ?_) (fun g1003 => ?_)
        ·
          refine z_inc X (x := p) (lv' := [(4, .int (Int32.ofInt (p + 1))), (0, .ref (A 61)), (1, .int (Int32.ofInt xv)), (2, .int (Int32.ofInt yv)), (3, .int (Int32.ofInt bi))]) rfl (by decide) (List.Mem.tail _ (List.Mem.tail _ (List.Mem.tail _ (List.Mem.tail _ (List.Mem.head _))))) (fun _ h => h) (z_goto X (t := 5) rfl rfl (WS_pq [1, 2, 3, 4, 0] (lv' := [(0, .ref (A 61)), (1, .int (Int32.ofInt xv)), (2, .int (Int32.ofInt yv)), (3, .int (Int32.ofInt bi)), (4, .int (Int32.ofInt (p + 1)))]) rfl ?_))
          exact ih _ xv yv bi (p + 1) I F (msk_n hq (by first | (clear g1003; omega) | omega) (fun z => by replace z : iC s 53 (p : Int).toNat = 0 ∧ iC s 54 (p : Int).toNat ≤ y ∧ y < iC s 52 (p : Int).toNat := z; omega)) (by first | exact ⟨And.intro (hi.1.1) (And.intro (hi.1.2.1) (hi.1.2.2)), And.intro (hi.2.1.1) (And.intro (hi.2.1.2.1) (hi.2.1.2.2)), And.intro (hi.2.2.1.1) (hi.2.2.1.2), oq_54f49eb5 hi.2.2.2.1, oq_8a89b3ae g1001 hi.1.1⟩ | omega) (by first | exact qk_me hm (by decide) (oq_67fee7f6 g1001 hi.1.1 hi.1.2.2) | omega) kx
        ·
          refine z_load_n X (x := yv) rfl (List.Mem.tail _ (List.Mem.tail _ (List.Mem.head _))) (z_aload_n X (x := A 61) rfl (List.Mem.head _) (s_getR X 61 rfl (c518_ok rfl) rfl rfl (z_load X (x := p) rfl (List.Mem.tail _ (List.Mem.tail _ (List.Mem.tail _ (List.Mem.tail _ (List.Mem.head _))))) (z_ald X 64 rfl (c518_ok rfl) rfl (by first | exact hi.2.2.2.1 | omega) (show p < 8 by first | exact oq_940075ae g1001 hi.1.1 hi.1.2.2 | omega) (cbig_ok rfl) ?_))))
          have b1004 := bc_54 I (show (p).toNat < 8 by first | exact oq_5f8a5a7e g1001 hi.1.1 hi.1.2.2 | omega)
          refine z_icmp_lt X (t := 50) rfl rfl ⟨by first | exact oq_b3df2c6f hi.2.1.1 hi.2.1.2.1 | omega, by first | exact oq_9c540ca8 hi.2.1.1 hi.2.1.2.2 | omega⟩ (rng_to _) (fun g1005 => ?_) (fun g1005 => ?_)
          ·
            refine z_inc X (x := p) (lv' := [(4, .int (Int32.ofInt (p + 1))), (0, .ref (A 61)), (1, .int (Int32.ofInt xv)), (2, .int (Int32.ofInt yv)), (3, .int (Int32.ofInt bi))]) rfl (by decide) (List.Mem.tail _ (List.Mem.tail _ (List.Mem.tail _ (List.Mem.tail _ (List.Mem.head _))))) (fun _ h => h) (z_goto X (t := 5) rfl rfl (WS_pq [1, 2, 3, 4, 0] (lv' := [(0, .ref (A 61)), (1, .int (Int32.ofInt xv)), (2, .int (Int32.ofInt yv)), (3, .int (Int32.ofInt bi)), (4, .int (Int32.ofInt (p + 1)))]) rfl ?_))
            exact ih _ xv yv bi (p + 1) I F (msk_n hq (by omega) (fun z => by replace z : iC s 53 (p : Int).toNat = 0 ∧ iC s 54 (p : Int).toNat ≤ y ∧ y < iC s 52 (p : Int).toNat := z; omega)) (by first | exact ⟨And.intro (hi.1.1) (And.intro (hi.1.2.1) (hi.1.2.2)), And.intro (hi.2.1.1) (And.intro (hi.2.1.2.1) (hi.2.1.2.2)), And.intro (hi.2.2.1.1) (hi.2.2.1.2), oq_54f49eb5 hi.2.2.2.1, oq_8a89b3ae g1001 hi.1.1⟩ | omega) (by first | exact qk_me hm (by decide) (oq_67fee7f6 g1001 hi.1.1 hi.1.2.2) | omega) kx
          ·
            refine z_load_n X (x := yv) rfl (List.Mem.tail _ (List.Mem.tail _ (List.Mem.head _))) (z_aload_n X (x := A 61) rfl (List.Mem.head _) (s_getR X 61 rfl (c518_ok rfl) rfl rfl (z_load X (x := p) rfl (List.Mem.tail _ (List.Mem.tail _ (List.Mem.tail _ (List.Mem.tail _ (List.Mem.head _))))) (z_ald X 62 rfl (c518_ok rfl) rfl (by first | exact hi.2.2.2.1 | omega) (show p < 8 by first | exact oq_940075ae g1001 hi.1.1 hi.1.2.2 | omega) (cbig_ok rfl) ?_))))
            have b1006 := bc_52 I (show (p).toNat < 8 by first | exact oq_5f8a5a7e g1001 hi.1.1 hi.1.2.2 | omega)
            refine z_icmp_ge X (t := 50) rfl rfl ⟨by first | exact oq_a821866e g1005 b1004.1 | omega, by first | exact oq_9c540ca8 hi.2.1.1 hi.2.1.2.2 | omega⟩ (rng_to _) (fun g1007 => ?_) (fun g1007 => ?_)
            ·
              refine z_inc X (x := p) (lv' := [(4, .int (Int32.ofInt (p + 1))), (0, .ref (A 61)), (1, .int (Int32.ofInt xv)), (2, .int (Int32.ofInt yv)), (3, .int (Int32.ofInt bi))]) rfl (by decide) (List.Mem.tail _ (List.Mem.tail _ (List.Mem.tail _ (List.Mem.tail _ (List.Mem.head _))))) (fun _ h => h) (z_goto X (t := 5) rfl rfl (WS_pq [1, 2, 3, 4, 0] (lv' := [(0, .ref (A 61)), (1, .int (Int32.ofInt xv)), (2, .int (Int32.ofInt yv)), (3, .int (Int32.ofInt bi)), (4, .int (Int32.ofInt (p + 1)))]) rfl ?_))
              exact ih _ xv yv bi (p + 1) I F (msk_n hq (by omega) (fun z => by replace z : iC s 53 (p : Int).toNat = 0 ∧ iC s 54 (p : Int).toNat ≤ y ∧ y < iC s 52 (p : Int).toNat := z; omega)) (by first | exact ⟨And.intro (hi.1.1) (And.intro (hi.1.2.1) (hi.1.2.2)), And.intro (hi.2.1.1) (And.intro (hi.2.1.2.1) (hi.2.1.2.2)), And.intro (hi.2.2.1.1) (hi.2.2.1.2), oq_54f49eb5 hi.2.2.2.1, oq_8a89b3ae g1001 hi.1.1⟩ | omega) (by first | exact qk_me hm (by decide) (oq_67fee7f6 g1001 hi.1.1 hi.1.2.2) | omega) kx
            ·
              refine z_load_n X (x := bi) rfl (List.Mem.tail _ (List.Mem.tail _ (List.Mem.tail _ (List.Mem.head _)))) (z_const X rfl (z_load X (x := p) rfl (List.Mem.tail _ (List.Mem.tail _ (List.Mem.tail _ (List.Mem.tail _ (List.Mem.head _))))) (z_bshl X rfl (z_anyV (fun y1008 hy1008 ey1008 => ?_)))))
              refine w_ior X.1 (ax_d X (show cdA 64 48 = some (.ior, 1, 0, 0, 0) from rfl)) (z_anyV (fun y1009 hy1009 ey1009 => ?_))
              have hm9 := (ms_or (e := bi) (p := p) (by omega) (by omega) ey1008 hy1008 ey1009 hy1009).1
              refine z_store_n X (lv' := [(3, .int (Int32.ofInt y1009)), (0, .ref (A 61)), (1, .int (Int32.ofInt xv)), (2, .int (Int32.ofInt yv)), (4, .int (Int32.ofInt p))]) rfl (by decide) (fun _ h => h) (z_inc X (x := p) (lv' := [(4, .int (Int32.ofInt (p + 1))), (3, .int (Int32.ofInt y1009)), (0, .ref (A 61)), (1, .int (Int32.ofInt xv)), (2, .int (Int32.ofInt yv))]) rfl (by decide) (List.Mem.tail _ (List.Mem.tail _ (List.Mem.tail _ (List.Mem.tail _ (List.Mem.head _))))) (fun _ h => h) (z_goto X (t := 5) rfl rfl (WS_pq [2, 3, 4, 1, 0] (lv' := [(0, .ref (A 61)), (1, .int (Int32.ofInt xv)), (2, .int (Int32.ofInt yv)), (3, .int (Int32.ofInt y1009)), (4, .int (Int32.ofInt (p + 1)))]) rfl ?_)))
              exact ih _ xv yv y1009 (p + 1) I F (msk_y hq (by omega) (show iC s 53 (p : Int).toNat = 0 ∧ iC s 54 (p : Int).toNat ≤ y ∧ y < iC s 52 (p : Int).toNat by omega) ey1008 hy1008 ey1009 hy1009) (by first | exact ⟨And.intro (hi.1.1) (And.intro (hi.1.2.1) (hi.1.2.2)), And.intro (hi.2.1.1) (And.intro (hi.2.1.2.1) (hi.2.1.2.2)), by omega, oq_54f49eb5 hi.2.2.2.1, oq_8a89b3ae g1001 hi.1.1⟩ | omega) (by first | exact qk_me hm (by decide) (oq_67fee7f6 g1001 hi.1.1 hi.1.2.2) | omega) kx
  refine z_const X rfl (z_store_n X (lv' := [(3, .int (Int32.ofInt 0)), (0, .ref (A 61)), (1, .int (Int32.ofInt x)), (2, .int (Int32.ofInt y))]) rfl (by decide) (fun _ h => h) (z_const X rfl (z_store X (lv' := [(4, .int (Int32.ofInt 0)), (3, .int (Int32.ofInt 0)), (0, .ref (A 61)), (1, .int (Int32.ofInt x)), (2, .int (Int32.ofInt y))]) rfl (by decide) (fun _ h => h) (WS_pq [2, 3, 4, 1, 0] (lv' := [(0, .ref (A 61)), (1, .int (Int32.ofInt x)), (2, .int (Int32.ofInt y)), (3, .int (Int32.ofInt 0)), (4, .int (Int32.ofInt 0))]) rfl (L5 ((8 - 0 : Int).toNat + 1) s x y 0 0 I F msk_0 (by first | exact ⟨And.intro (by decide) (And.intro (p0.1) (p0.2)), And.intro (by decide) (And.intro (p1.1) (p1.2)), And.intro (by decide) (by decide), by decide, oq_2a6e3b50 p0.1⟩ | omega) (Nat.lt_succ_self _) ?_)))))
  intro s1 x2 x3 Is1 Fs1 Qs1 hs1
  refine z_load_n X (x := x2) rfl (List.Mem.tail _ (List.Mem.tail _ (List.Mem.tail _ (List.Mem.head _)))) ?_
  exact w_iret X.1 q hRt rfl (ax_d X (show cdA 64 57 = some (.ireturn, 1, 0, 0, 0) from rfl)) (Nat.zero_le _) (Nat.zero_le _) ⟨_, rfl, Is1, Fs1, x2, rfl, ⟨by first | exact oq_fa4e5087 hs1.2.1.1 | omega, by first | exact oq_4567a937 hs1.2.1.2 | omega⟩, (by have z := Qs1; rw [show x3 = x by omega] at z; exact z)⟩
set_option maxRecDepth 4000 in
theorem c6_few7 (G : GX l s0 D tys a0 dT) (I : Bd s) {x y : Int} (p0 : 0 ≤ x ∧ x ≤ 255) (p1 : rng y) : CT l s0 D A dT 65 (rmN 65) [.ref (A 61), .int (Int32.ofInt x), .int (Int32.ofInt y)] s (fun o t => Bd t ∧ Fm [] [] s t ∧ ∃ e, o = .inl (some (.int (Int32.ofInt e))) ∧ rng e ∧ ((0 ≤ e ∧ e ≤ 255) ∧ Int32.ofInt e = slP (fun p => iC s 55 p) (fun p => bT (Int32.ofInt x) p = true) (y : Int).toNat)) := by
  refine ct_ofX G (by decide) (Nat.le_of_ble_eq_true rfl) (fun k X E ET hRt hXt q => ?_)
  show WS k 0 [(0, .ref (A 61)), (1, .int (Int32.ofInt x)), (2, .int (Int32.ofInt y))] [] _ 0 0
  have F : Fm [] [] s s := fm_rf _ _ s
  have L17 : ∀ (n : Nat) (t : PS) (xv yv ch c nx p : Int), Bd t → Fm [] [] s t → (NXQ (fun p => iC s 55 p) (fun p => bT (Int32.ofInt xv) p = true ∧ ¬ bT (Int32.ofInt ch) p = true) p nx) → ((xv = x ∧ 0 ≤ x ∧ x ≤ 255) ∧ (yv = y ∧ rng y) ∧ (0 ≤ ch ∧ ch ≤ 255) ∧ (0 ≤ c ∧ c < y) ∧ (-1 ≤ nx ∧ nx ≤ 7 ∧ nx < p) ∧ 0 ≤ p ∧ p ≤ 8) → (8 - p : Int).toNat < n → (∀ (t' : PS) (nx' p' : Int), Bd t' → Fm [] [] s t' → (NXQ (fun p => iC s 55 p) (fun p => bT (Int32.ofInt xv) p = true ∧ ¬ bT (Int32.ofInt ch) p = true) p' nx') → ((xv = x ∧ 0 ≤ x ∧ x ≤ 255) ∧ (yv = y ∧ rng y) ∧ (0 ≤ ch ∧ ch ≤ 255) ∧ (0 ≤ c ∧ c < y) ∧ (-1 ≤ nx' ∧ nx' ≤ 7) ∧ p' = 8) → WS k 82 [(0, .ref (A 61)), (1, .int (Int32.ofInt xv)), (2, .int (Int32.ofInt yv)), (3, .int (Int32.ofInt ch)), (4, .int (Int32.ofInt c)), (5, .int (Int32.ofInt nx')), (6, .int (Int32.ofInt p'))] [] (Wd A dT t') 0 0) → WS k 17 [(0, .ref (A 61)), (1, .int (Int32.ofInt xv)), (2, .int (Int32.ofInt yv)), (3, .int (Int32.ofInt ch)), (4, .int (Int32.ofInt c)), (5, .int (Int32.ofInt nx)), (6, .int (Int32.ofInt p))] [] (Wd A dT t) 0 0 := by
    intro n
    induction n with
    | zero =>
      intro t xv yv ch c nx p I F hq hi hm kx
      exact absurd hm (Nat.not_lt_zero _)
    | succ n ih =>
      intro t xv yv ch c nx p I F hq hi hm kx
      refine z_load X (x := p) rfl (List.Mem.tail _ (List.Mem.tail _ (List.Mem.tail _ (List.Mem.tail _ (List.Mem.tail _ (List.Mem.tail _ (List.Mem.head _))))))) (z_bipush X rfl (z_icmp_ge X (t := 82) rfl rfl ⟨by first | exact oq_fa4e5087 hi.2.2.2.2.2.1 | omega, by first | exact oq_d3f5d874 hi.2.2.2.2.2.2 | omega⟩ (by decide) (fun g1001 => ?_) (fun g1001 => ?_)))
      ·
        refine WS_pq [0, 1, 2, 3, 4, 5, 6] (lv' := [(0, .ref (A 61)), (1, .int (Int32.ofInt xv)), (2, .int (Int32.ofInt yv)), (3, .int (Int32.ofInt ch)), (4, .int (Int32.ofInt c)), (5, .int (Int32.ofInt nx)), (6, .int (Int32.ofInt p))]) rfl ?_
        exact kx _ nx p I F hq (by first | exact ⟨And.intro (hi.1.1) (And.intro (hi.1.2.1) (hi.1.2.2)), And.intro (hi.2.1.1) (And.intro (hi.2.1.2.1) (hi.2.1.2.2)), And.intro (hi.2.2.1.1) (hi.2.2.1.2), And.intro (hi.2.2.2.1.1) (hi.2.2.2.1.2), And.intro (hi.2.2.2.2.1.1) (hi.2.2.2.2.1.2.1), oq_73d3719d hi.2.2.2.2.2.2 g1001⟩ | omega)
      ·
        have zp : iC t 55 (p : Int).toNat = iC s 55 (p : Int).toNat := fm_c F List.not_mem_nil
        refine z_load_n X (x := xv) rfl (List.Mem.tail _ (List.Mem.head _)) (z_load_n X (x := ch) rfl (List.Mem.tail _ (List.Mem.tail _ (List.Mem.tail _ (List.Mem.head _)))) (z_const X rfl (z_bxor X rfl (z_anyV (fun y1002 hy1002 ey1002 => ?_)))))
        refine w_iand X.1 (ax_d X (show cdA 65 28 = some (.iand, 1, 0, 0, 0) from rfl)) (z_anyV (fun y1003 hy1003 ey1003 => ?_))
        refine z_load X (x := p) rfl (List.Mem.tail _ (List.Mem.tail _ (List.Mem.tail _ (List.Mem.tail _ (List.Mem.tail _ (List.Mem.tail _ (List.Mem.head _))))))) (z_bshr X rfl (z_anyV (fun y1004 hy1004 ey1004 => ?_)))
        refine z_const X rfl (w_iand X.1 (ax_d X (show cdA 65 33 = some (.iand, 1, 0, 0, 0) from rfl)) (z_anyV (fun y1005 hy1005 ey1005 => ?_)))
        have hbit := bt_rd (b := y1003) (p := p) ey1004 ey1005 hy1005 (by omega)
        have hmn := bt_mn ey1002 ey1003 (p := (p : Int).toNat) (by omega)
        refine z_if_eq X (t := 41) rfl rfl hy1005 (fun g1006 => ?_) (fun g1006 => ?_)
        ·
          refine z_const X rfl (z_store X (lv' := [(7, .int (Int32.ofInt 0)), (0, .ref (A 61)), (1, .int (Int32.ofInt xv)), (2, .int (Int32.ofInt yv)), (3, .int (Int32.ofInt ch)), (4, .int (Int32.ofInt c)), (5, .int (Int32.ofInt nx)), (6, .int (Int32.ofInt p))]) rfl (by decide) (fun _ h => h) (z_load X (x := 0) rfl (List.Mem.head _) (z_if_eq X (t := 76) rfl rfl (by decide) (fun g1007 => ?_) (fun g1007 => ?_))))
          ·
            refine z_inc X (x := p) (lv' := [(6, .int (Int32.ofInt (p + 1))), (7, .int (Int32.ofInt 0)), (0, .ref (A 61)), (1, .int (Int32.ofInt xv)), (2, .int (Int32.ofInt yv)), (3, .int (Int32.ofInt ch)), (4, .int (Int32.ofInt c)), (5, .int (Int32.ofInt nx))]) rfl (by decide) (List.Mem.tail _ (List.Mem.tail _ (List.Mem.tail _ (List.Mem.tail _ (List.Mem.tail _ (List.Mem.tail _ (List.Mem.tail _ (List.Mem.head _)))))))) (fun _ h => h) (z_goto X (t := 17) rfl rfl (WS_pq [2, 3, 4, 5, 6, 7, 0] (lv' := [(0, .ref (A 61)), (1, .int (Int32.ofInt xv)), (2, .int (Int32.ofInt yv)), (3, .int (Int32.ofInt ch)), (4, .int (Int32.ofInt c)), (5, .int (Int32.ofInt nx)), (6, .int (Int32.ofInt (p + 1)))]) rfl ?_))
            exact ih _ xv yv ch c nx (p + 1) I F (nxq_n hq (by omega) (fun a => hbit.elim (fun z => absurd z.1 (by omega)) (fun z => z.2 (hmn.mpr a)))) (by first | exact ⟨And.intro (hi.1.1) (And.intro (hi.1.2.1) (hi.1.2.2)), And.intro (hi.2.1.1) (And.intro (hi.2.1.2.1) (hi.2.1.2.2)), And.intro (hi.2.2.1.1) (hi.2.2.1.2), And.intro (hi.2.2.2.1.1) (hi.2.2.2.1.2), And.intro (hi.2.2.2.2.1.1) (And.intro (hi.2.2.2.2.1.2.1) (oq_d130ae0d hi.2.2.2.2.1.2.2)), oq_54f49eb5 hi.2.2.2.2.2.1, oq_0c7b19c3 g1001⟩ | omega) (by first | exact qk_me hm (by decide) (oq_9f368f35 g1001) | omega) kx
          ·
            exfalso
            omega
        ·
          refine z_const X rfl (z_goto X (t := 42) rfl rfl (z_store X (lv' := [(7, .int (Int32.ofInt 1)), (0, .ref (A 61)), (1, .int (Int32.ofInt xv)), (2, .int (Int32.ofInt yv)), (3, .int (Int32.ofInt ch)), (4, .int (Int32.ofInt c)), (5, .int (Int32.ofInt nx)), (6, .int (Int32.ofInt p))]) rfl (by decide) (fun _ h => h) (z_load X (x := 1) rfl (List.Mem.head _) (z_if_eq X (t := 76) rfl rfl (by decide) (fun g1008 => ?_) (fun g1008 => ?_)))))
          ·
            exfalso
            omega
          ·
            have hA : bT (Int32.ofInt xv) (p : Int).toNat = true ∧ ¬ bT (Int32.ofInt ch) (p : Int).toNat = true := hmn.mp (hbit.elim (fun z => z.2) (fun z => absurd z.1 (by first | (clear g1008 g1006; omega) | (clear g1006; omega) | omega)))
            refine z_load X (x := nx) rfl (List.Mem.tail _ (List.Mem.tail _ (List.Mem.tail _ (List.Mem.tail _ (List.Mem.tail _ (List.Mem.tail _ (List.Mem.head _))))))) (z_const X rfl (z_icmp_eq X (t := 72) rfl rfl ⟨by first | exact oq_97ee2c2a hi.2.2.2.2.1.1 | omega, by first | exact oq_0e78ca7d hi.2.2.2.2.1.2.1 | omega⟩ (by decide) (fun g1009 => ?_) (fun g1009 => ?_)))
            ·
              refine z_load X (x := p) rfl (List.Mem.tail _ (List.Mem.tail _ (List.Mem.tail _ (List.Mem.tail _ (List.Mem.tail _ (List.Mem.tail _ (List.Mem.tail _ (List.Mem.head _)))))))) (z_store X (lv' := [(5, .int (Int32.ofInt p)), (7, .int (Int32.ofInt 1)), (0, .ref (A 61)), (1, .int (Int32.ofInt xv)), (2, .int (Int32.ofInt yv)), (3, .int (Int32.ofInt ch)), (4, .int (Int32.ofInt c)), (6, .int (Int32.ofInt p))]) rfl (by decide) (fun _ h => h) (z_inc X (x := p) (lv' := [(6, .int (Int32.ofInt (p + 1))), (5, .int (Int32.ofInt p)), (7, .int (Int32.ofInt 1)), (0, .ref (A 61)), (1, .int (Int32.ofInt xv)), (2, .int (Int32.ofInt yv)), (3, .int (Int32.ofInt ch)), (4, .int (Int32.ofInt c))]) rfl (by decide) (List.Mem.tail _ (List.Mem.tail _ (List.Mem.tail _ (List.Mem.tail _ (List.Mem.tail _ (List.Mem.tail _ (List.Mem.tail _ (List.Mem.head _)))))))) (fun _ h => h) (z_goto X (t := 17) rfl rfl (WS_pq [3, 4, 5, 6, 7, 1, 0] (lv' := [(0, .ref (A 61)), (1, .int (Int32.ofInt xv)), (2, .int (Int32.ofInt yv)), (3, .int (Int32.ofInt ch)), (4, .int (Int32.ofInt c)), (5, .int (Int32.ofInt p)), (6, .int (Int32.ofInt (p + 1)))]) rfl ?_))))
              exact ih _ xv yv ch c p (p + 1) I F (nxq_y hq (by first | (clear g1008 g1006; omega) | (clear g1006; omega) | omega) hA (Or.inl (by first | (clear g1008 g1006; omega) | (clear g1006; omega) | omega))) (by first | exact ⟨And.intro (hi.1.1) (And.intro (hi.1.2.1) (hi.1.2.2)), And.intro (hi.2.1.1) (And.intro (hi.2.1.2.1) (hi.2.1.2.2)), And.intro (hi.2.2.1.1) (hi.2.2.1.2), And.intro (hi.2.2.2.1.1) (hi.2.2.2.1.2), And.intro (oq_ca54ea22 hi.2.2.2.2.2.1) (And.intro (oq_78c639ed g1001) (by decide)), oq_54f49eb5 hi.2.2.2.2.2.1, oq_0c7b19c3 g1001⟩ | omega) (by first | exact qk_me hm (by decide) (oq_9f368f35 g1001) | omega) kx
            ·
              have zn : iC t 55 (nx : Int).toNat = iC s 55 (nx : Int).toNat := fm_c F List.not_mem_nil
              refine z_aload_n X (x := A 61) rfl (List.Mem.tail _ (List.Mem.head _)) (s_getR X 61 rfl (c518_ok rfl) rfl rfl (z_load X (x := p) rfl (List.Mem.tail _ (List.Mem.tail _ (List.Mem.tail _ (List.Mem.tail _ (List.Mem.tail _ (List.Mem.tail _ (List.Mem.tail _ (List.Mem.head _)))))))) (z_ald X 65 rfl (c518_ok rfl) rfl (by first | exact hi.2.2.2.2.2.1 | omega) (show p < 8 by first | exact g1001 | omega) (cbig_ok rfl) ?_)))
              have b1010 := bc_55 I (show (p).toNat < 8 by first | exact oq_db4b3b8b g1001 | omega)
              refine z_aload_n X (x := A 61) rfl (List.Mem.tail _ (List.Mem.head _)) (s_getR X 61 rfl (c518_ok rfl) rfl rfl (z_load X (x := nx) rfl (List.Mem.tail _ (List.Mem.tail _ (List.Mem.tail _ (List.Mem.tail _ (List.Mem.tail _ (List.Mem.tail _ (List.Mem.head _))))))) (z_ald X 65 rfl (c518_ok rfl) rfl (by first | exact oq_7a1025bf g1009 hi.2.2.2.2.1.1 | omega) (show nx < 8 by first | exact oq_aaea290e hi.2.2.2.2.1.2.1 | omega) (cbig_ok rfl) ?_)))
              have b1011 := bc_55 I (show (nx).toNat < 8 by first | exact oq_c19a3aae hi.2.2.2.2.1.2.1 | omega)
              refine z_icmp_ge X (t := 76) rfl rfl (rng_to _) (rng_to _) (fun g1012 => ?_) (fun g1012 => ?_)
              ·
                refine z_inc X (x := p) (lv' := [(6, .int (Int32.ofInt (p + 1))), (7, .int (Int32.ofInt 1)), (0, .ref (A 61)), (1, .int (Int32.ofInt xv)), (2, .int (Int32.ofInt yv)), (3, .int (Int32.ofInt ch)), (4, .int (Int32.ofInt c)), (5, .int (Int32.ofInt nx))]) rfl (by decide) (List.Mem.tail _ (List.Mem.tail _ (List.Mem.tail _ (List.Mem.tail _ (List.Mem.tail _ (List.Mem.tail _ (List.Mem.tail _ (List.Mem.head _)))))))) (fun _ h => h) (z_goto X (t := 17) rfl rfl (WS_pq [2, 3, 4, 5, 6, 7, 0] (lv' := [(0, .ref (A 61)), (1, .int (Int32.ofInt xv)), (2, .int (Int32.ofInt yv)), (3, .int (Int32.ofInt ch)), (4, .int (Int32.ofInt c)), (5, .int (Int32.ofInt nx)), (6, .int (Int32.ofInt (p + 1)))]) rfl ?_))
                exact ih _ xv yv ch c nx (p + 1) I F (nxq_k hq (by first | (clear g1009 g1008 g1006; omega) | (clear g1008 g1006; omega) | omega) (by first | (clear g1009 g1008 g1006; omega) | (clear g1008 g1006; omega) | omega) (by show iC s 55 (nx : Int).toNat ≤ iC s 55 (p : Int).toNat; omega)) (by first | exact ⟨And.intro (hi.1.1) (And.intro (hi.1.2.1) (hi.1.2.2)), And.intro (hi.2.1.1) (And.intro (hi.2.1.2.1) (hi.2.1.2.2)), And.intro (hi.2.2.1.1) (hi.2.2.1.2), And.intro (hi.2.2.2.1.1) (hi.2.2.2.1.2), And.intro (hi.2.2.2.2.1.1) (And.intro (hi.2.2.2.2.1.2.1) (oq_d130ae0d hi.2.2.2.2.1.2.2)), oq_54f49eb5 hi.2.2.2.2.2.1, oq_0c7b19c3 g1001⟩ | omega) (by first | exact qk_me hm (by decide) (oq_9f368f35 g1001) | omega) kx
              ·
                refine z_load X (x := p) rfl (List.Mem.tail _ (List.Mem.tail _ (List.Mem.tail _ (List.Mem.tail _ (List.Mem.tail _ (List.Mem.tail _ (List.Mem.tail _ (List.Mem.head _)))))))) (z_store X (lv' := [(5, .int (Int32.ofInt p)), (7, .int (Int32.ofInt 1)), (0, .ref (A 61)), (1, .int (Int32.ofInt xv)), (2, .int (Int32.ofInt yv)), (3, .int (Int32.ofInt ch)), (4, .int (Int32.ofInt c)), (6, .int (Int32.ofInt p))]) rfl (by decide) (fun _ h => h) (z_inc X (x := p) (lv' := [(6, .int (Int32.ofInt (p + 1))), (5, .int (Int32.ofInt p)), (7, .int (Int32.ofInt 1)), (0, .ref (A 61)), (1, .int (Int32.ofInt xv)), (2, .int (Int32.ofInt yv)), (3, .int (Int32.ofInt ch)), (4, .int (Int32.ofInt c))]) rfl (by decide) (List.Mem.tail _ (List.Mem.tail _ (List.Mem.tail _ (List.Mem.tail _ (List.Mem.tail _ (List.Mem.tail _ (List.Mem.tail _ (List.Mem.head _)))))))) (fun _ h => h) (z_goto X (t := 17) rfl rfl (WS_pq [3, 4, 5, 6, 7, 1, 0] (lv' := [(0, .ref (A 61)), (1, .int (Int32.ofInt xv)), (2, .int (Int32.ofInt yv)), (3, .int (Int32.ofInt ch)), (4, .int (Int32.ofInt c)), (5, .int (Int32.ofInt p)), (6, .int (Int32.ofInt (p + 1)))]) rfl ?_))))
                exact ih _ xv yv ch c p (p + 1) I F (nxq_y hq (by first | (clear g1009 g1008 g1006; omega) | (clear g1008 g1006; omega) | omega) hA (Or.inr (by show iC s 55 (p : Int).toNat < iC s 55 (nx : Int).toNat; omega))) (by first | exact ⟨And.intro (hi.1.1) (And.intro (hi.1.2.1) (hi.1.2.2)), And.intro (hi.2.1.1) (And.intro (hi.2.1.2.1) (hi.2.1.2.2)), And.intro (hi.2.2.1.1) (hi.2.2.1.2), And.intro (hi.2.2.2.1.1) (hi.2.2.2.1.2), And.intro (oq_ca54ea22 hi.2.2.2.2.2.1) (And.intro (oq_78c639ed g1001) (by decide)), oq_54f49eb5 hi.2.2.2.2.2.1, oq_0c7b19c3 g1001⟩ | omega) (by first | exact qk_me hm (by decide) (oq_9f368f35 g1001) | omega) kx
  have L5 : ∀ (n : Nat) (t : PS) (xv yv ch c : Int), Bd t → Fm [] [] s t → (SLI (fun p => iC s 55 p) (fun p => bT (Int32.ofInt xv) p = true) (c : Int).toNat (Int32.ofInt ch)) → ((xv = x ∧ 0 ≤ x ∧ x ≤ 255) ∧ (yv = y ∧ rng y) ∧ (0 ≤ ch ∧ ch ≤ 255) ∧ 0 ≤ c ∧ (c = 0 ∨ c ≤ y)) → (yv - c : Int).toNat < n → (∀ (t' : PS) (ch' c' : Int), Bd t' → Fm [] [] s t' → (SLI (fun p => iC s 55 p) (fun p => bT (Int32.ofInt xv) p = true) (c' : Int).toNat (Int32.ofInt ch')) → (xv = x ∧ (0 ≤ ch' ∧ ch' ≤ 255) ∧ 0 ≤ c' ∧ (c' = 0 ∨ c' ≤ y) ∧ y ≤ c') → WS k 103 [(0, .ref (A 61)), (1, .int (Int32.ofInt xv)), (2, .int (Int32.ofInt yv)), (3, .int (Int32.ofInt ch')), (4, .int (Int32.ofInt c'))] [] (Wd A dT t') 0 0) → WS k 5 [(0, .ref (A 61)), (1, .int (Int32.ofInt xv)), (2, .int (Int32.ofInt yv)), (3, .int (Int32.ofInt ch)), (4, .int (Int32.ofInt c))] [] (Wd A dT t) 0 0 := by
    intro n
    induction n with
    | zero =>
      intro t xv yv ch c I F hq hi hm kx
      exact absurd hm (Nat.not_lt_zero _)
    | succ n ih =>
      intro t xv yv ch c I F hq hi hm kx
      refine z_load X (x := c) rfl (List.Mem.tail _ (List.Mem.tail _ (List.Mem.tail _ (List.Mem.tail _ (List.Mem.head _))))) (z_load_n X (x := yv) rfl (List.Mem.tail _ (List.Mem.tail _ (List.Mem.head _))) (z_icmp_ge X (t := 103) rfl rfl ⟨by first | exact oq_fa4e5087 hi.2.2.2.1 | omega, by first | exact oq_65e1730c hi.2.2.2.2 hi.2.1.2.2 | omega⟩ ⟨by first | exact oq_6bc29d15 hi.2.1.1 hi.2.1.2.1 | omega, by first | exact oq_60a194f9 hi.2.1.1 hi.2.1.2.2 | omega⟩ (fun g2001 => ?_) (fun g2001 => ?_)))
      ·
        refine WS_pq [0, 1, 2, 3, 4] (lv' := [(0, .ref (A 61)), (1, .int (Int32.ofInt xv)), (2, .int (Int32.ofInt yv)), (3, .int (Int32.ofInt ch)), (4, .int (Int32.ofInt c))]) rfl ?_
        exact kx _ ch c I F hq (by first | exact ⟨hi.1.1, And.intro (hi.2.2.1.1) (hi.2.2.1.2), hi.2.2.2.1, hi.2.2.2.2, oq_acf76229 g2001 hi.2.1.1⟩ | omega)
      ·
        refine z_const X rfl (z_store X (lv' := [(5, .int (Int32.ofInt (-1))), (0, .ref (A 61)), (1, .int (Int32.ofInt xv)), (2, .int (Int32.ofInt yv)), (3, .int (Int32.ofInt ch)), (4, .int (Int32.ofInt c))]) rfl (by decide) (fun _ h => h) (z_const X rfl (z_store X (lv' := [(6, .int (Int32.ofInt 0)), (5, .int (Int32.ofInt (-1))), (0, .ref (A 61)), (1, .int (Int32.ofInt xv)), (2, .int (Int32.ofInt yv)), (3, .int (Int32.ofInt ch)), (4, .int (Int32.ofInt c))]) rfl (by decide) (fun _ h => h) (WS_pq [2, 3, 4, 5, 6, 1, 0] (lv' := [(0, .ref (A 61)), (1, .int (Int32.ofInt xv)), (2, .int (Int32.ofInt yv)), (3, .int (Int32.ofInt ch)), (4, .int (Int32.ofInt c)), (5, .int (Int32.ofInt (-1))), (6, .int (Int32.ofInt 0))]) rfl (L17 ((8 - 0 : Int).toNat + 1) t xv yv ch c (-1) 0 I F nxq_0 (by first | exact ⟨And.intro (hi.1.1) (And.intro (hi.1.2.1) (hi.1.2.2)), And.intro (hi.2.1.1) (And.intro (hi.2.1.2.1) (hi.2.1.2.2)), And.intro (hi.2.2.1.1) (hi.2.2.1.2), And.intro (hi.2.2.2.1) (oq_9d1a6c71 g2001 hi.2.1.1), And.intro (by decide) (And.intro (by decide) (by decide)), by decide, by decide⟩ | omega) (Nat.lt_succ_self _) ?_)))))
        intro s2002 x2003 x2004 Is2002 Fs2002 Qs2002 hs2002
        refine z_load X (x := x2003) rfl (List.Mem.tail _ (List.Mem.tail _ (List.Mem.tail _ (List.Mem.tail _ (List.Mem.tail _ (List.Mem.head _)))))) (z_const X rfl (z_icmp_ne X (t := 90) rfl rfl ⟨by first | exact oq_97ee2c2a hs2002.2.2.2.2.1.1 | omega, by first | exact oq_0e78ca7d hs2002.2.2.2.2.1.2 | omega⟩ (by decide) (fun g2005 => ?_) (fun g2005 => ?_)))
        ·
          have hPk : PIK (fun p => iC s 55 p) (fun p => bT (Int32.ofInt xv) p = true ∧ ¬ bT (Int32.ofInt ch) p = true) (x2003 : Int).toNat := nxq_p Qs2002 (by first | (clear g2005; omega) | omega) (by first | (clear g2005; omega) | omega) (fun q h9 => ⟨fun a => ⟨by first | (clear g2005; omega) | omega, a⟩, fun a => a.2⟩)
          refine z_load_n X (x := ch) rfl (List.Mem.tail _ (List.Mem.tail _ (List.Mem.tail _ (List.Mem.head _)))) (z_const X rfl (z_load X (x := x2003) rfl (List.Mem.tail _ (List.Mem.tail _ (List.Mem.tail _ (List.Mem.tail _ (List.Mem.tail _ (List.Mem.head _)))))) (z_bshl X rfl (z_anyV (fun y2006 hy2006 ey2006 => ?_)))))
          refine w_ior X.1 (ax_d X (show cdA 65 95 = some (.ior, 1, 0, 0, 0) from rfl)) (z_anyV (fun y2007 hy2007 ey2007 => ?_))
          have hmo := ms_or (e := ch) (p := x2003) (by first | (clear g2005; omega) | omega) (by first | (clear g2005; omega) | omega) ey2006 hy2006 ey2007 hy2007
          refine z_store_n X (lv' := [(3, .int (Int32.ofInt y2007)), (0, .ref (A 61)), (1, .int (Int32.ofInt xv)), (2, .int (Int32.ofInt yv)), (4, .int (Int32.ofInt c)), (5, .int (Int32.ofInt x2003)), (6, .int (Int32.ofInt x2004))]) rfl (by decide) (fun _ h => h) (z_inc X (x := c) (lv' := [(4, .int (Int32.ofInt (c + 1))), (3, .int (Int32.ofInt y2007)), (0, .ref (A 61)), (1, .int (Int32.ofInt xv)), (2, .int (Int32.ofInt yv)), (5, .int (Int32.ofInt x2003)), (6, .int (Int32.ofInt x2004))]) rfl (by decide) (List.Mem.tail _ (List.Mem.tail _ (List.Mem.tail _ (List.Mem.tail _ (List.Mem.head _))))) (fun _ h => h) (z_goto X (t := 5) rfl rfl (WS_pq [2, 3, 4, 1, 0] (lv' := [(0, .ref (A 61)), (1, .int (Int32.ofInt xv)), (2, .int (Int32.ofInt yv)), (3, .int (Int32.ofInt y2007)), (4, .int (Int32.ofInt (c + 1)))]) rfl ?_)))
          exact ih _ xv yv y2007 (c + 1) Is2002 Fs2002 (by have z := sli_up hq hPk; rw [← hmo.2, show (c : Int).toNat + 1 = (c + 1).toNat by first | (clear g2005; omega) | omega] at z; exact z) (by first | exact ⟨And.intro (hs2002.1.1) (And.intro (hs2002.1.2.1) (hs2002.1.2.2)), And.intro (hs2002.2.1.1) (And.intro (hs2002.2.1.2.1) (hs2002.2.1.2.2)), by first | (clear g2005; omega) | omega, oq_54f49eb5 hs2002.2.2.2.1.1, Or.inr (oq_afc84a8d hs2002.2.2.2.1.2)⟩ | omega) (by first | exact qk_me hm (by decide) (oq_901836cd g2001) | omega) kx
        ·
          refine z_load_n X (x := ch) rfl (List.Mem.tail _ (List.Mem.tail _ (List.Mem.tail _ (List.Mem.head _)))) ?_
          exact w_iret X.1 q hRt rfl (ax_d X (show cdA 65 89 = some (.ireturn, 1, 0, 0, 0) from rfl)) (Nat.zero_le _) (Nat.zero_le _) ⟨_, rfl, Is2002, Fs2002, ch, rfl, ⟨by first | exact oq_fa4e5087 hs2002.2.2.1.1 | omega, by first | exact oq_4567a937 hs2002.2.2.1.2 | omega⟩, ⟨by first | exact ⟨hs2002.2.2.1.1, hs2002.2.2.1.2⟩ | omega, by have z := sli_e (k := (y : Int).toNat) hq (by omega) (Or.inr (fun p hp hs => Classical.byContradiction (fun w => nxq_e Qs2002 (by omega) p (by omega) ⟨hs, w⟩))); rw [show xv = x by omega] at z; exact z⟩⟩
  refine z_const X rfl (z_store_n X (lv' := [(3, .int (Int32.ofInt 0)), (0, .ref (A 61)), (1, .int (Int32.ofInt x)), (2, .int (Int32.ofInt y))]) rfl (by decide) (fun _ h => h) (z_const X rfl (z_store X (lv' := [(4, .int (Int32.ofInt 0)), (3, .int (Int32.ofInt 0)), (0, .ref (A 61)), (1, .int (Int32.ofInt x)), (2, .int (Int32.ofInt y))]) rfl (by decide) (fun _ h => h) (WS_pq [2, 3, 4, 1, 0] (lv' := [(0, .ref (A 61)), (1, .int (Int32.ofInt x)), (2, .int (Int32.ofInt y)), (3, .int (Int32.ofInt 0)), (4, .int (Int32.ofInt 0))]) rfl (L5 ((y - 0 : Int).toNat + 1) s x y 0 0 I F sli_0 (by first | exact ⟨And.intro (by decide) (And.intro (p0.1) (p0.2)), And.intro (by decide) (And.intro (p1.1) (p1.2)), And.intro (by decide) (by decide), by decide, Or.inl (by decide)⟩ | omega) (Nat.lt_succ_self _) ?_)))))
  intro s1 x2 x3 Is1 Fs1 Qs1 hs1
  refine z_load_n X (x := x2) rfl (List.Mem.tail _ (List.Mem.tail _ (List.Mem.tail _ (List.Mem.head _)))) ?_
  exact w_iret X.1 q hRt rfl (ax_d X (show cdA 65 104 = some (.ireturn, 1, 0, 0, 0) from rfl)) (Nat.zero_le _) (Nat.zero_le _) ⟨_, rfl, Is1, Fs1, x2, rfl, ⟨by first | exact oq_fa4e5087 hs1.2.1.1 | omega, by first | exact oq_4567a937 hs1.2.1.2 | omega⟩, ⟨by first | exact ⟨hs1.2.1.1, hs1.2.1.2⟩ | omega, by have z := sli_e (k := (y : Int).toNat) Qs1 (by omega) (Or.inl (by omega)); rw [show x = x by omega] at z; exact z⟩⟩
set_option maxRecDepth 4000 in
theorem c6_settle7 (G : GX l s0 D tys a0 dT) (I : Bd s) {x y z : Int} (p0 : 1 ≤ x ∧ x ≤ 8) (p1 : 0 ≤ y ∧ y ≤ 23) (p2 : rng z) (p3 : OWB s) : CT l s0 D A dT 66 (rmN 66) [.ref (A 61), .int (Int32.ofInt x), .int (Int32.ofInt y), .int (Int32.ofInt z)] s (fun o t => Bd t ∧ Fm [] [53, 55, 54] s t ∧ o = .inl none ∧ (STS s x y z t)) := by
  refine ct_ofX G (by decide) (Nat.le_of_ble_eq_true rfl) (fun k X E ET hRt hXt q => ?_)
  show WS k 0 [(0, .ref (A 61)), (1, .int (Int32.ofInt x)), (2, .int (Int32.ofInt y)), (3, .int (Int32.ofInt z))] [] _ 0 0
  have F : Fm [] [53, 55, 54] s s := fm_rf _ _ s
  have b1 := bi_37 I
  have L3 : ∀ (n : Nat) (t : PS) (xv yv zv p : Int), Bd t → Fm [] [53, 55, 54] s t → (STS s p y z t) → ((xv = x ∧ 1 ≤ x ∧ x ≤ 8) ∧ (yv = y ∧ 0 ≤ y ∧ y ≤ 23) ∧ (zv = z ∧ rng z) ∧ (0 ≤ p ∧ p ≤ x) ∧ iI t 37 = iI s 37) → (8 - p : Int).toNat < n → (∀ (t' : PS) (p' : Int), Bd t' → Fm [] [53, 55, 54] s t' → (STS s p' y z t') → (p' = x) → WS k 80 [(0, .ref (A 61)), (1, .int (Int32.ofInt xv)), (2, .int (Int32.ofInt yv)), (3, .int (Int32.ofInt zv)), (4, .int (Int32.ofInt p'))] [] (Wd A dT t') 0 0) → WS k 3 [(0, .ref (A 61)), (1, .int (Int32.ofInt xv)), (2, .int (Int32.ofInt yv)), (3, .int (Int32.ofInt zv)), (4, .int (Int32.ofInt p))] [] (Wd A dT t) 0 0 := by
    intro n
    induction n with
    | zero =>
      intro t xv yv zv p I F hq hi hm kx
      exact absurd hm (Nat.not_lt_zero _)
    | succ n ih =>
      intro t xv yv zv p I F hq hi hm kx
      have b1001 := bi_37 I
      refine z_load X (x := p) rfl (List.Mem.tail _ (List.Mem.tail _ (List.Mem.tail _ (List.Mem.tail _ (List.Mem.head _))))) (z_load_n X (x := xv) rfl (List.Mem.tail _ (List.Mem.head _)) (z_icmp_ge X (t := 80) rfl rfl ⟨by first | exact oq_fa4e5087 hi.2.2.2.1.1 | omega, by first | exact oq_b5dbaaed hi.2.2.2.1.2 hi.1.2.2 | omega⟩ ⟨by first | exact oq_4dc996b7 hi.1.1 hi.1.2.1 | omega, by first | exact oq_8bd33971 hi.1.1 hi.1.2.2 | omega⟩ (fun g1002 => ?_) (fun g1002 => ?_)))
      ·
        refine WS_pq [0, 1, 2, 3, 4] (lv' := [(0, .ref (A 61)), (1, .int (Int32.ofInt xv)), (2, .int (Int32.ofInt yv)), (3, .int (Int32.ofInt zv)), (4, .int (Int32.ofInt p))]) rfl ?_
        exact kx _ p I F hq (by first | exact oq_537ca82a hi.2.2.2.1.2 g1002 hi.1.1 | omega)
      ·
        have hO := sts_ge (p := (p : Int).toNat) hq (by omega) (by omega)
        have hob := p3 (p : Int).toNat (by omega)
        have zr : iI t 37 = iI s 37 := fm_iq F rfl
        refine z_load_n X (x := zv) rfl (List.Mem.tail _ (List.Mem.tail _ (List.Mem.tail _ (List.Mem.head _)))) (z_load X (x := p) rfl (List.Mem.tail _ (List.Mem.tail _ (List.Mem.tail _ (List.Mem.tail _ (List.Mem.head _))))) (z_bshr X rfl (z_anyV (fun y1003 hy1003 ey1003 => ?_))))
        refine z_const X rfl (w_iand X.1 (ax_d X (show cdA 66 14 = some (.iand, 1, 0, 0, 0) from rfl)) (z_anyV (fun y1004 hy1004 ey1004 => ?_)))
        have hbit := bt_rd (b := zv) (p := p) ey1003 ey1004 hy1004 (by omega)
        have ezv : zv = z := by omega
        rw [ezv] at hbit
        refine z_if_eq X (t := 43) rfl rfl hy1004 (fun g1005 => ?_) (fun g1005 => ?_)
        ·
          have hB : ¬ bT (Int32.ofInt z) (p : Int).toNat = true := hbit.elim (fun w => absurd w.1 (by omega)) (fun w => w.2)
          refine z_aload_n X (x := A 61) rfl (List.Mem.head _) (s_getR X 61 rfl (c518_ok rfl) rfl rfl (z_load X (x := p) rfl (List.Mem.tail _ (List.Mem.tail _ (List.Mem.tail _ (List.Mem.tail _ (List.Mem.head _))))) (z_ald X 63 rfl (c518_ok rfl) rfl (by first | exact hi.2.2.2.1.1 | omega) (show p < 8 by first | exact oq_940075ae g1002 hi.1.1 hi.1.2.2 | omega) (cbig_ok rfl) ?_)))
          have b1006 := bc_53 I (show (p).toNat < 8 by first | exact oq_5f8a5a7e g1002 hi.1.1 hi.1.2.2 | omega)
          have ar1007 : iC t 53 (p).toNat = iC t 53 (p).toNat := (sam_rf (a := 53) (s := t)) _
          refine z_if_le X (t := 74) rfl rfl (rng_to _) (fun g1008 => ?_) (fun g1008 => ?_)
          ·
            refine z_inc X (x := p) (lv' := [(4, .int (Int32.ofInt (p + 1))), (0, .ref (A 61)), (1, .int (Int32.ofInt xv)), (2, .int (Int32.ofInt yv)), (3, .int (Int32.ofInt zv))]) rfl (by decide) (List.Mem.tail _ (List.Mem.tail _ (List.Mem.tail _ (List.Mem.tail _ (List.Mem.head _))))) (fun _ h => h) (z_goto X (t := 3) rfl rfl (WS_pq [1, 2, 3, 4, 0] (lv' := [(0, .ref (A 61)), (1, .int (Int32.ofInt xv)), (2, .int (Int32.ofInt yv)), (3, .int (Int32.ofInt zv)), (4, .int (Int32.ofInt (p + 1)))]) rfl ?_))
            exact ih _ xv yv zv (p + 1) I F (sts_up hq (by omega) (upd_sam (sam_rf (a := 53) (s := t))) (upd_sam (sam_rf (a := 54) (s := t))) (upd_sam (sam_rf (a := 55) (s := t))) (by rw [if_neg hB]; omega) (by rw [if_neg (fun z9 => absurd z9.2 (by omega))]; exact hO.2.1) (by rw [if_neg hB]; exact hO.2.2)) (by first | exact ⟨And.intro (hi.1.1) (And.intro (hi.1.2.1) (hi.1.2.2)), And.intro (hi.2.1.1) (And.intro (hi.2.1.2.1) (hi.2.1.2.2)), And.intro (ezv) (And.intro (hi.2.2.1.2.1) (hi.2.2.1.2.2)), And.intro (oq_54f49eb5 hi.2.2.2.1.1) (oq_8a89b3ae g1002 hi.1.1), zr⟩ | omega) (by first | exact qk_me hm (by decide) (oq_67fee7f6 g1002 hi.1.1 hi.1.2.2) | omega) kx
          ·
            refine z_aload_n X (x := A 61) rfl (List.Mem.head _) (s_getR X 61 rfl (c518_ok rfl) rfl rfl (z_load X (x := p) rfl (List.Mem.tail _ (List.Mem.tail _ (List.Mem.tail _ (List.Mem.tail _ (List.Mem.head _))))) (z_const X rfl (z_ast X 63 rfl (c518_ok rfl) rfl (by first | exact hi.2.2.2.1.1 | omega) (show p < 8 by first | exact oq_940075ae g1002 hi.1.1 hi.1.2.2 | omega) (cbig_ok rfl) (wd_gen (fun s1009 hs1009 => ?_))))))
            have Is1009 : Bd s1009 := eqB hs1009 (bd_C I (show ((-2147483648) : Int) ≤ 0 ∧ 0 ≤ 2147483647 by first | exact ⟨by decide, by decide⟩ | omega) (by decide))
            have Fs1009 := eqF hs1009 (fm_C F (inl_ok (a := 53) rfl))
            have ws1009_37 : iI s1009 37 = iI t 37 := eqI hs1009 rfl
            have aws1009_53 : UPD 53 (p) 0 t s1009 := by rw [hs1009]; exact upd_put (sam_rf (a := 53) (s := t)) (by decide)
            have aws1009_55 : SAM 55 t s1009 := by rw [hs1009]; exact sam_C (by decide) (sam_rf (a := 55) (s := t))
            have aws1009_54 : SAM 54 t s1009 := by rw [hs1009]; exact sam_C (by decide) (sam_rf (a := 54) (s := t))
            refine z_aload_n X (x := A 61) rfl (List.Mem.head _) (s_getR X 61 rfl (c518_ok rfl) rfl rfl (z_load X (x := p) rfl (List.Mem.tail _ (List.Mem.tail _ (List.Mem.tail _ (List.Mem.tail _ (List.Mem.head _))))) (z_load_n X (x := yv) rfl (List.Mem.tail _ (List.Mem.tail _ (List.Mem.head _))) (z_aload_n X (x := A 61) rfl (List.Mem.head _) (z_getI X 61 rfl (c518_ok rfl) rfl rfl ?_)))))
            have b1010 := bi_37 Is1009
            refine z_add X rfl (z_ast X 64 rfl (c518_ok rfl) rfl (by first | exact hi.2.2.2.1.1 | omega) (show p < 8 by first | exact oq_940075ae g1002 hi.1.1 hi.1.2.2 | omega) (cbig_ok rfl) (wd_gen (fun s1011 hs1011 => ?_)))
            have Is1011 : Bd s1011 := eqB hs1011 (bd_C Is1009 (show ((-2147483648) : Int) ≤ (yv + (iI s1009 37)) ∧ (yv + (iI s1009 37)) ≤ 2147483647 by first | exact ⟨oq_9be4c299 hi.2.1.1 b1010.1 hi.2.1.2.1, oq_c17ba15c hi.2.1.1 b1010.2 hi.2.1.2.2⟩ | omega) ⟨by first | exact oq_9be4c299 hi.2.1.1 b1010.1 hi.2.1.2.1 | omega, by first | exact oq_c17ba15c hi.2.1.1 b1010.2 hi.2.1.2.2 | omega⟩)
            have Fs1011 := eqF hs1011 (fm_C Fs1009 (inl_ok (a := 54) rfl))
            have ws1011_37 : iI s1011 37 = iI s1009 37 := eqI hs1011 rfl
            have aws1011_53 : UPD 53 (p) 0 t s1011 := by rw [hs1011]; exact upd_C (by decide) aws1009_53
            have aws1011_55 : SAM 55 t s1011 := by rw [hs1011]; exact sam_C (by decide) aws1009_55
            have aws1011_54 : UPD 54 (p) (yv + (iI s1009 37)) t s1011 := by rw [hs1011]; exact upd_put aws1009_54 ⟨by first | exact oq_9be4c299 hi.2.1.1 b1010.1 hi.2.1.2.1 | omega, by first | exact oq_c17ba15c hi.2.1.1 b1010.2 hi.2.1.2.2 | omega⟩
            refine z_inc X (x := p) (lv' := [(4, .int (Int32.ofInt (p + 1))), (0, .ref (A 61)), (1, .int (Int32.ofInt xv)), (2, .int (Int32.ofInt yv)), (3, .int (Int32.ofInt zv))]) rfl (by decide) (List.Mem.tail _ (List.Mem.tail _ (List.Mem.tail _ (List.Mem.tail _ (List.Mem.head _))))) (fun _ h => h) (z_goto X (t := 3) rfl rfl (WS_pq [1, 2, 3, 4, 0] (lv' := [(0, .ref (A 61)), (1, .int (Int32.ofInt xv)), (2, .int (Int32.ofInt yv)), (3, .int (Int32.ofInt zv)), (4, .int (Int32.ofInt (p + 1)))]) rfl ?_))
            exact ih _ xv yv zv (p + 1) Is1011 Fs1011 (sts_up hq (by omega) aws1011_53 aws1011_54 (upd_sam aws1011_55) (by rw [if_neg hB]) (by rw [if_pos ⟨hB, by omega⟩]; omega) (by rw [if_neg hB]; exact hO.2.2)) (by first | exact ⟨And.intro (hi.1.1) (And.intro (hi.1.2.1) (hi.1.2.2)), And.intro (hi.2.1.1) (And.intro (hi.2.1.2.1) (hi.2.1.2.2)), And.intro (ezv) (And.intro (hi.2.2.1.2.1) (hi.2.2.1.2.2)), And.intro (oq_54f49eb5 hi.2.2.2.1.1) (oq_8a89b3ae g1002 hi.1.1), oq_d0d2714e ws1011_37 zr ws1009_37⟩ | omega) (by first | exact qk_me hm (by decide) (oq_67fee7f6 g1002 hi.1.1 hi.1.2.2) | omega) kx
        ·
          have hB : bT (Int32.ofInt z) (p : Int).toNat = true := hbit.elim (fun w => w.2) (fun w => absurd w.1 (by first | (clear g1005; omega) | omega))
          refine z_aload_n X (x := A 61) rfl (List.Mem.head _) (s_getR X 61 rfl (c518_ok rfl) rfl rfl (z_load X (x := p) rfl (List.Mem.tail _ (List.Mem.tail _ (List.Mem.tail _ (List.Mem.tail _ (List.Mem.head _))))) (w_dup2_11 X.1 (ax_d X (show cdA 66 24 = some (.dup2, 1, 0, 0, 0) from rfl)) rfl rfl (z_ald X 63 rfl (c518_ok rfl) rfl (by first | exact hi.2.2.2.1.1 | omega) (show p < 8 by first | exact oq_940075ae g1002 hi.1.1 hi.1.2.2 | omega) (cbig_ok rfl) ?_))))
          have b1012 := bc_53 I (show (p).toNat < 8 by first | exact oq_5f8a5a7e g1002 hi.1.1 hi.1.2.2 | omega)
          have ar1013 : iC t 53 (p).toNat = iC t 53 (p).toNat := (sam_rf (a := 53) (s := t)) _
          refine z_const X rfl (z_add X rfl (z_ast X 63 rfl (c518_ok rfl) rfl (by first | exact hi.2.2.2.1.1 | omega) (show p < 8 by first | exact oq_940075ae g1002 hi.1.1 hi.1.2.2 | omega) (cbig_ok rfl) (wd_gen (fun s1014 hs1014 => ?_))))
          have Is1014 : Bd s1014 := eqB hs1014 (bd_C I (show ((-2147483648) : Int) ≤ ((iC t 53 (p).toNat) + 1) ∧ ((iC t 53 (p).toNat) + 1) ≤ 2147483647 by first | exact ⟨oq_14afcb3e b1012.1, by first | (clear g1005; omega) | omega⟩ | omega) ⟨by first | exact oq_14afcb3e b1012.1 | omega, by first | (clear g1005; omega) | omega⟩)
          have Fs1014 := eqF hs1014 (fm_C F (inl_ok (a := 53) rfl))
          have ws1014_37 : iI s1014 37 = iI t 37 := eqI hs1014 rfl
          have aws1014_53 : UPD 53 (p) ((iC t 53 (p).toNat) + 1) t s1014 := by rw [hs1014]; exact upd_put (sam_rf (a := 53) (s := t)) ⟨by first | exact oq_14afcb3e b1012.1 | omega, by first | (clear g1005; omega) | omega⟩
          have aws1014_55 : SAM 55 t s1014 := by rw [hs1014]; exact sam_C (by decide) (sam_rf (a := 55) (s := t))
          have aws1014_54 : SAM 54 t s1014 := by rw [hs1014]; exact sam_C (by decide) (sam_rf (a := 54) (s := t))
          refine z_aload_n X (x := A 61) rfl (List.Mem.head _) (s_getR X 61 rfl (c518_ok rfl) rfl rfl (z_load X (x := p) rfl (List.Mem.tail _ (List.Mem.tail _ (List.Mem.tail _ (List.Mem.tail _ (List.Mem.head _))))) (w_dup2_11 X.1 (ax_d X (show cdA 66 35 = some (.dup2, 1, 0, 0, 0) from rfl)) rfl rfl (z_ald X 65 rfl (c518_ok rfl) rfl (by first | exact hi.2.2.2.1.1 | omega) (show p < 8 by first | exact oq_940075ae g1002 hi.1.1 hi.1.2.2 | omega) (cbig_ok rfl) ?_))))
          have b1015 := bc_55 Is1014 (show (p).toNat < 8 by first | exact oq_5f8a5a7e g1002 hi.1.1 hi.1.2.2 | omega)
          have ar1016 : iC s1014 55 (p).toNat = iC t 55 (p).toNat := aws1014_55 _
          have hW9 : iC s1014 55 (p : Int).toNat = iC t 55 (p : Int).toNat := aws1014_55 _
          refine z_const X rfl (z_add X rfl (z_ast X 65 rfl (c518_ok rfl) rfl (by first | exact hi.2.2.2.1.1 | omega) (show p < 8 by first | exact oq_940075ae g1002 hi.1.1 hi.1.2.2 | omega) (cbig_ok rfl) (wd_gen (fun s1017 hs1017 => ?_))))
          have Is1017 : Bd s1017 := eqB hs1017 (bd_C Is1014 (show ((-2147483648) : Int) ≤ ((iC s1014 55 (p).toNat) + 1) ∧ ((iC s1014 55 (p).toNat) + 1) ≤ 2147483647 by first | exact ⟨oq_14afcb3e b1015.1, by first | (clear g1005; omega) | omega⟩ | omega) ⟨by first | exact oq_14afcb3e b1015.1 | omega, by first | (clear g1005; omega) | omega⟩)
          have Fs1017 := eqF hs1017 (fm_C Fs1014 (inl_ok (a := 55) rfl))
          have ws1017_37 : iI s1017 37 = iI s1014 37 := eqI hs1017 rfl
          have aws1017_53 : UPD 53 (p) ((iC t 53 (p).toNat) + 1) t s1017 := by rw [hs1017]; exact upd_C (by decide) aws1014_53
          have aws1017_55 : UPD 55 (p) ((iC s1014 55 (p).toNat) + 1) t s1017 := by rw [hs1017]; exact upd_put aws1014_55 ⟨by first | exact oq_14afcb3e b1015.1 | omega, by first | (clear g1005; omega) | omega⟩
          have aws1017_54 : SAM 54 t s1017 := by rw [hs1017]; exact sam_C (by decide) aws1014_54
          refine z_goto X (t := 74) rfl rfl (z_inc X (x := p) (lv' := [(4, .int (Int32.ofInt (p + 1))), (0, .ref (A 61)), (1, .int (Int32.ofInt xv)), (2, .int (Int32.ofInt yv)), (3, .int (Int32.ofInt zv))]) rfl (by decide) (List.Mem.tail _ (List.Mem.tail _ (List.Mem.tail _ (List.Mem.tail _ (List.Mem.head _))))) (fun _ h => h) (z_goto X (t := 3) rfl rfl (WS_pq [1, 2, 3, 4, 0] (lv' := [(0, .ref (A 61)), (1, .int (Int32.ofInt xv)), (2, .int (Int32.ofInt yv)), (3, .int (Int32.ofInt zv)), (4, .int (Int32.ofInt (p + 1)))]) rfl ?_)))
          exact ih _ xv yv zv (p + 1) Is1017 Fs1017 (sts_up hq (by first | (clear g1005; omega) | omega) aws1017_53 (upd_sam aws1017_54) aws1017_55 (by rw [if_pos hB]; omega) (by rw [if_neg (fun z9 => z9.1 hB)]; exact hO.2.1) (by rw [if_pos hB]; omega)) (by first | exact ⟨And.intro (hi.1.1) (And.intro (hi.1.2.1) (hi.1.2.2)), And.intro (hi.2.1.1) (And.intro (hi.2.1.2.1) (hi.2.1.2.2)), And.intro (ezv) (And.intro (hi.2.2.1.2.1) (hi.2.2.1.2.2)), And.intro (oq_54f49eb5 hi.2.2.2.1.1) (oq_8a89b3ae g1002 hi.1.1), oq_878618b1 ws1017_37 ws1014_37 zr⟩ | omega) (by first | exact qk_me hm (by decide) (oq_67fee7f6 g1002 hi.1.1 hi.1.2.2) | omega) kx
  refine z_const X rfl (z_store X (lv' := [(4, .int (Int32.ofInt 0)), (0, .ref (A 61)), (1, .int (Int32.ofInt x)), (2, .int (Int32.ofInt y)), (3, .int (Int32.ofInt z))]) rfl (by decide) (fun _ h => h) (WS_pq [1, 2, 3, 4, 0] (lv' := [(0, .ref (A 61)), (1, .int (Int32.ofInt x)), (2, .int (Int32.ofInt y)), (3, .int (Int32.ofInt z)), (4, .int (Int32.ofInt 0))]) rfl (L3 ((8 - 0 : Int).toNat + 1) s x y z 0 I F sts_0 (by first | exact ⟨And.intro (by decide) (And.intro (p0.1) (p0.2)), And.intro (by decide) (And.intro (p1.1) (p1.2)), And.intro (by decide) (And.intro (p2.1) (p2.2)), And.intro (by decide) (oq_2a6e3b50 p0.1), by decide⟩ | omega) (Nat.lt_succ_self _) ?_)))
  intro s2 x3 Is2 Fs2 Qs2 hs2
  have b4 := bi_37 Is2
  exact w_vret X.1 q hRt (ax_d X (show cdA 66 80 = some (.return_, 1, 0, 0, 0) from rfl)) (Nat.zero_le _) (Nat.zero_le _) ⟨_, rfl, Is2, Fs2, rfl, (by have z9 := Qs2; rw [show x3 = x by omega] at z9; exact z9)⟩
set_option maxRecDepth 4000 in
theorem c6_run7 (G : GX l s0 D tys a0 dT) (I : Bd s) {x : Int} (p0 : 1 ≤ x ∧ x ≤ 8) (p1 : ∀ q : Nat, q < 24 → 0 ≤ iC s 47 (iC s 51 q).toNat ∧ iC s 47 (iC s 51 q).toNat ≤ 8) : CT l s0 D A dT 62 (rmN 62) [.ref (A 61), .int (Int32.ofInt x)] s (fun o t => Bd t ∧ Fm [38] [53, 54, 55, 56] s t ∧ o = .inl none ∧ (CRN (RDC s x) 24 t)) := by
  refine ct_ofX G (by decide) (Nat.le_of_ble_eq_true rfl) (fun k X E ET hRt hXt q => ?_)
  show WS k 0 [(0, .ref (A 61)), (1, .int (Int32.ofInt x))] [] _ 0 0
  have F : Fm [38] [53, 54, 55, 56] s s := fm_rf _ _ s
  have b1 := bi_38 I
  have L31 : ∀ (n : Nat) (t : PS) (xv qq : Int), Bd t → Fm [38] [53, 54, 55, 56] s t → (CRN (RDC s x) (qq : Int).toNat t) → ((xv = x ∧ 1 ≤ x ∧ x ≤ 8) ∧ 0 ≤ qq ∧ qq ≤ 24) → (24 - qq : Int).toNat < n → (∀ (t' : PS) (qq' : Int), Bd t' → Fm [38] [53, 54, 55, 56] s t' → (CRN (RDC s x) (qq' : Int).toNat t') → (qq' = 24) → WS k 119 [(0, .ref (A 61)), (1, .int (Int32.ofInt xv)), (2, .int (Int32.ofInt qq'))] [] (Wd A dT t') 0 0) → WS k 31 [(0, .ref (A 61)), (1, .int (Int32.ofInt xv)), (2, .int (Int32.ofInt qq))] [] (Wd A dT t) 0 0 := by
    intro n
    induction n with
    | zero =>
      intro t xv qq I F hq hi hm kx
      exact absurd hm (Nat.not_lt_zero _)
    | succ n ih =>
      intro t xv qq I F hq hi hm kx
      have b1001 := bi_38 I
      refine z_load_n X (x := qq) rfl (List.Mem.tail _ (List.Mem.tail _ (List.Mem.head _))) (z_bipush X rfl (z_icmp_ge X (t := 119) rfl rfl ⟨by first | exact oq_fa4e5087 hi.2.1 | omega, by first | exact oq_5bcd337f hi.2.2 | omega⟩ (by decide) (fun g1002 => ?_) (fun g1002 => ?_)))
      ·
        refine WS_pq [0, 1, 2] (lv' := [(0, .ref (A 61)), (1, .int (Int32.ofInt xv)), (2, .int (Int32.ofInt qq))]) rfl ?_
        exact kx _ qq I F hq (by first | exact oq_ea1742b3 hi.2.2 g1002 | omega)
      ·
        refine z_aload_n X (x := A 61) rfl (List.Mem.head _) (s_getR X 61 rfl (c518_ok rfl) rfl rfl (z_load_n X (x := qq) rfl (List.Mem.tail _ (List.Mem.tail _ (List.Mem.head _))) (zcV_i0 X E 54 (As := [.int (Int32.ofInt qq)]) (st := []) rfl rfl rfl rfl (c4_need7 G I (by first | exact ⟨hi.2.1, oq_c69fe266 g1002⟩ | omega)) rfl (Nat.le_of_ble_eq_true rfl) (fun s1003 e1004 Is1003 Fs1003 hrs1003 hps1003 => ?_))))
        have Gs1003 := fm_tq F Fs1003 rfl rfl
        have ws1003_38 : iI s1003 38 = iI t 38 := fm_iq Fs1003 rfl
        have aws1003_53 : SAM 53 t s1003 := sam_ts (sam_rf (a := 53) (s := t)) (sam_fm Fs1003 (by decide))
        have aws1003_54 : SAM 54 t s1003 := sam_ts (sam_rf (a := 54) (s := t)) (sam_fm Fs1003 (by decide))
        have aws1003_55 : SAM 55 t s1003 := sam_ts (sam_rf (a := 55) (s := t)) (sam_fm Fs1003 (by decide))
        have aws1003_56 : SAM 56 t s1003 := sam_ts (sam_rf (a := 56) (s := t)) (sam_fm Fs1003 (by decide))
        have hnd : e1004 = (RDC s x).nd (qq : Int).toNat := by have z := hps1003; rw [show iC t 51 (qq : Int).toNat = iC s 51 (qq : Int).toNat from fm_c F (by decide), show iC t 47 (iC s 51 (qq : Int).toNat).toNat = iC s 47 (iC s 51 (qq : Int).toNat).toNat from fm_c F (by decide)] at z; exact z
        have hn8 : 0 ≤ e1004 ∧ e1004 ≤ 8 := by rw [hnd]; exact p1 (qq : Int).toNat (by first | (clear p1; omega) | omega)
        have hle := nw_le (D := (RDC s x)) (s := (ruR (RDC s x) (qq : Int).toNat)) (q := (qq : Int).toNat)
        have hwt := hq.2.1
        have hwb := ru_w (D := (RDC s x)) p1 (qq : Int).toNat (by first | (clear p1; omega) | omega)
        have hqe : qq = (((qq : Int).toNat : Nat) : Int) := by first | (clear p1; omega) | omega
        have hxv : xv = x := by first | (clear p1; omega) | omega
        refine z_store_n X (lv' := [(3, .int (Int32.ofInt e1004)), (0, .ref (A 61)), (1, .int (Int32.ofInt xv)), (2, .int (Int32.ofInt qq))]) rfl (by decide) (fun _ h => h) (z_aload_n X (x := A 61) rfl (List.Mem.tail _ (List.Mem.head _)) (z_aload_n X (x := A 61) rfl (List.Mem.tail _ (List.Mem.head _)) (z_load_n X (x := xv) rfl (List.Mem.tail _ (List.Mem.tail _ (List.Mem.head _))) (z_load_n X (x := qq) rfl (List.Mem.tail _ (List.Mem.tail _ (List.Mem.tail _ (List.Mem.head _)))) (zcV_i0 X E 61 (As := [.int (Int32.ofInt xv), .int (Int32.ofInt qq)]) (st := [.ref (A 61)]) rfl rfl rfl rfl (c6_go7 G Is1003 (by first | exact ⟨oq_fed65c02 hxv hi.1.2.1, oq_86ef0b17 hxv hi.1.2.2⟩ | omega) (by first | exact ⟨hi.2.1, oq_c69fe266 g1002⟩ | omega)) rfl (Nat.le_of_ble_eq_true rfl) (fun s1005 e1006 Is1005 Fs1005 hrs1005 hps1005 => ?_))))))
        have Gs1005 := fm_tq Gs1003 Fs1005 rfl rfl
        have ws1005_38 : iI s1005 38 = iI s1003 38 := fm_iq Fs1005 rfl
        have aws1005_53 : SAM 53 t s1005 := sam_ts aws1003_53 (sam_fm Fs1005 (by decide))
        have aws1005_54 : SAM 54 t s1005 := sam_ts aws1003_54 (sam_fm Fs1005 (by decide))
        have aws1005_55 : SAM 55 t s1005 := sam_ts aws1003_55 (sam_fm Fs1005 (by decide))
        have aws1005_56 : SAM 56 t s1005 := sam_ts aws1003_56 (sam_fm Fs1005 (by decide))
        have hg1 := cr_go (D := (RDC s x)) hq hps1005 (by show xv = x; omega) aws1003_53 (show iI s1003 36 = iI s 36 from fm_i Gs1003 (by decide)) (fun p => show iC s1003 52 p = iC s 52 p from fm_c Gs1003 (by decide)) hqe
        have hg1b := hg1.1
        refine z_load_n X (x := e1004) rfl (List.Mem.head _) (zcV_i0 X E 61 (As := [.int (Int32.ofInt e1006), .int (Int32.ofInt e1004)]) (st := []) rfl rfl rfl rfl (c6_few7 G Is1005 (by first | (clear p1; omega) | omega) (by first | exact ⟨oq_fa4e5087 hn8.1, oq_d3f5d874 hn8.2⟩ | omega)) rfl (Nat.le_of_ble_eq_true rfl) (fun s1007 e1008 Is1007 Fs1007 hrs1007 hps1007 => ?_))
        have Gs1007 := fm_tq Gs1005 Fs1007 rfl rfl
        have ws1007_38 : iI s1007 38 = iI s1005 38 := fm_iq Fs1007 rfl
        have aws1007_53 : SAM 53 t s1007 := sam_ts aws1005_53 (sam_fm Fs1007 (by decide))
        have aws1007_54 : SAM 54 t s1007 := sam_ts aws1005_54 (sam_fm Fs1007 (by decide))
        have aws1007_55 : SAM 55 t s1007 := sam_ts aws1005_55 (sam_fm Fs1007 (by decide))
        have aws1007_56 : SAM 56 t s1007 := sam_ts aws1005_56 (sam_fm Fs1007 (by decide))
        have hC1 : Int32.ofInt e1008 = c1M (RDC s x) (ruR (RDC s x) (qq : Int).toNat) (qq : Int).toNat := hps1007.2.trans (cr_sl hq hg1 aws1005_55 (by rw [hnd]))
        refine z_store X (lv' := [(4, .int (Int32.ofInt e1008)), (3, .int (Int32.ofInt e1004)), (0, .ref (A 61)), (1, .int (Int32.ofInt xv)), (2, .int (Int32.ofInt qq))]) rfl (by decide) (fun _ h => h) (z_load X (x := e1008) rfl (List.Mem.head _) (z_aload_n X (x := A 61) rfl (List.Mem.tail _ (List.Mem.tail _ (List.Mem.head _))) (z_aload_n X (x := A 61) rfl (List.Mem.tail _ (List.Mem.tail _ (List.Mem.head _))) (z_load_n X (x := xv) rfl (List.Mem.tail _ (List.Mem.tail _ (List.Mem.tail _ (List.Mem.head _)))) (z_load_n X (x := qq) rfl (List.Mem.tail _ (List.Mem.tail _ (List.Mem.tail _ (List.Mem.tail _ (List.Mem.head _))))) (zcV_i0 X E 61 (As := [.int (Int32.ofInt xv), .int (Int32.ofInt qq)]) (st := [.ref (A 61), .int (Int32.ofInt e1008)]) rfl rfl rfl rfl (c6_be7 G Is1007 (by first | exact ⟨oq_fed65c02 hxv hi.1.2.1, oq_86ef0b17 hxv hi.1.2.2⟩ | omega) (by first | exact ⟨hi.2.1, oq_c69fe266 g1002⟩ | omega)) rfl (Nat.le_of_ble_eq_true rfl) (fun s1009 e1010 Is1009 Fs1009 hrs1009 hps1009 => ?_)))))))
        have Gs1009 := fm_tq Gs1007 Fs1009 rfl rfl
        have ws1009_38 : iI s1009 38 = iI s1007 38 := fm_iq Fs1009 rfl
        have aws1009_53 : SAM 53 t s1009 := sam_ts aws1007_53 (sam_fm Fs1009 (by decide))
        have aws1009_54 : SAM 54 t s1009 := sam_ts aws1007_54 (sam_fm Fs1009 (by decide))
        have aws1009_55 : SAM 55 t s1009 := sam_ts aws1007_55 (sam_fm Fs1009 (by decide))
        have aws1009_56 : SAM 56 t s1009 := sam_ts aws1007_56 (sam_fm Fs1009 (by decide))
        have hg2 := cr_be (D := (RDC s x)) hq hps1009 (by show xv = x; omega) aws1007_53 aws1007_54 (fun p => show iC s1007 52 p = iC s 52 p from fm_c Gs1007 (by decide)) hqe
        have hg2b := hg2.1
        refine z_load_n X (x := e1004) rfl (List.Mem.tail _ (List.Mem.head _)) (z_load X (x := e1008) rfl (List.Mem.head _) (zcS_i0 X E (As := [.int (Int32.ofInt e1008)]) (st := [.int (Int32.ofInt e1004), .int (Int32.ofInt e1010), .ref (A 61), .int (Int32.ofInt e1008)]) rfl rfl (j_bitI7 G Is1009 (by first | (clear p1; omega) | omega) (by first | (clear p1; omega) | omega)) rfl (Nat.le_of_ble_eq_true rfl) (fun s1011 e1012 Is1011 Fs1011 hrs1011 hps1011 => ?_)))
        have Gs1011 := fm_tq Gs1009 Fs1011 rfl rfl
        have ws1011_38 : iI s1011 38 = iI s1009 38 := fm_iq Fs1011 rfl
        have aws1011_53 : SAM 53 t s1011 := sam_ts aws1009_53 (sam_fm Fs1011 (by decide))
        have aws1011_54 : SAM 54 t s1011 := sam_ts aws1009_54 (sam_fm Fs1011 (by decide))
        have aws1011_55 : SAM 55 t s1011 := sam_ts aws1009_55 (sam_fm Fs1011 (by decide))
        have aws1011_56 : SAM 56 t s1011 := sam_ts aws1009_56 (sam_fm Fs1011 (by decide))
        have hb1 : e1012 = (pcM (c1M (RDC s x) (ruR (RDC s x) (qq : Int).toNat) (qq : Int).toNat) 8 : Int) := by rw [← hC1]; exact hps1011
        refine z_sub X rfl (zcV_i0 X E 61 (As := [.int (Int32.ofInt e1010), .int (Int32.ofInt (e1004 - e1012))]) (st := [.int (Int32.ofInt e1008)]) rfl rfl rfl rfl (c6_few7 G Is1011 (by first | (clear p1; omega) | omega) (by first | (clear p1; omega) | omega)) rfl (Nat.le_of_ble_eq_true rfl) (fun s1013 e1014 Is1013 Fs1013 hrs1013 hps1013 => ?_))
        have Gs1013 := fm_tq Gs1011 Fs1013 rfl rfl
        have ws1013_38 : iI s1013 38 = iI s1011 38 := fm_iq Fs1013 rfl
        have aws1013_53 : SAM 53 t s1013 := sam_ts aws1011_53 (sam_fm Fs1013 (by decide))
        have aws1013_54 : SAM 54 t s1013 := sam_ts aws1011_54 (sam_fm Fs1013 (by decide))
        have aws1013_55 : SAM 55 t s1013 := sam_ts aws1011_55 (sam_fm Fs1013 (by decide))
        have aws1013_56 : SAM 56 t s1013 := sam_ts aws1011_56 (sam_fm Fs1013 (by decide))
        have hC2 : Int32.ofInt e1014 = c2M (RDC s x) (ruR (RDC s x) (qq : Int).toNat) (qq : Int).toNat := hps1013.2.trans (cr_sl hq hg2 aws1011_55 (by show _ = ((RDC s x).nd (qq : Int).toNat).toNat - pcM (c1M (RDC s x) (ruR (RDC s x) (qq : Int).toNat) (qq : Int).toNat) 8; rw [← hnd]; omega))
        refine w_ior X.1 (ax_d X (show cdA 62 78 = some (.ior, 1, 0, 0, 0) from rfl)) (z_anyV (fun y1015 hy1015 ey1015 => ?_))
        have hnw : Int32.ofInt y1015 = (nwM (RDC s x) (ruR (RDC s x) (qq : Int).toNat) (qq : Int).toNat) := by unfold nwM; rw [ey1015, hC1, hC2]
        have hn255 := ms_or2 hps1007.1 hps1013.1 ey1015 hy1015
        refine z_store X (lv' := [(4, .int (Int32.ofInt y1015)), (3, .int (Int32.ofInt e1004)), (0, .ref (A 61)), (1, .int (Int32.ofInt xv)), (2, .int (Int32.ofInt qq))]) rfl (by decide) (fun _ h => h) (z_aload_n X (x := A 61) rfl (List.Mem.tail _ (List.Mem.tail _ (List.Mem.head _))) (w_dup X.1 (ax_d X (show cdA 62 82 = some (.dup, 1, 0, 0, 0) from rfl)) rfl (z_getI X 61 rfl (c518_ok rfl) rfl rfl ?_)))
        have b1016 := bi_38 Is1013
        refine z_load_n X (x := e1004) rfl (List.Mem.tail _ (List.Mem.head _)) (z_load X (x := y1015) rfl (List.Mem.head _) (zcS_i0 X E (As := [.int (Int32.ofInt y1015)]) (st := [.int (Int32.ofInt e1004), .int (Int32.ofInt (iI s1013 38)), .ref (A 61)]) rfl rfl (j_bitI7 G Is1013 (by first | exact ⟨hy1015.1, hy1015.2⟩ | omega) (by first | (clear p1; omega) | omega)) rfl (Nat.le_of_ble_eq_true rfl) (fun s1017 e1018 Is1017 Fs1017 hrs1017 hps1017 => ?_)))
        have Gs1017 := fm_tq Gs1013 Fs1017 rfl rfl
        have ws1017_38 : iI s1017 38 = iI s1013 38 := fm_iq Fs1017 rfl
        have aws1017_53 : SAM 53 t s1017 := sam_ts aws1013_53 (sam_fm Fs1017 (by decide))
        have aws1017_54 : SAM 54 t s1017 := sam_ts aws1013_54 (sam_fm Fs1017 (by decide))
        have aws1017_55 : SAM 55 t s1017 := sam_ts aws1013_55 (sam_fm Fs1017 (by decide))
        have aws1017_56 : SAM 56 t s1017 := sam_ts aws1013_56 (sam_fm Fs1017 (by decide))
        have hb2 : e1018 = (pcM (nwM (RDC s x) (ruR (RDC s x) (qq : Int).toNat) (qq : Int).toNat) 8 : Int) := by rw [← hnw]; exact hps1017
        refine z_sub X rfl (z_add X rfl (s_putI X 61 rfl (c518_ok rfl) rfl rfl (by decide) rfl rfl rfl (wd_gen (fun s1019 hs1019 => ?_))))
        have Is1019 : Bd s1019 := eqB hs1019 (bd_I Is1017 (show ((-2147483648) : Int) ≤ ((iI s1013 38) + (e1004 - e1018)) ∧ ((iI s1013 38) + (e1004 - e1018)) ≤ 2147483647 by first | (clear p1; omega) | omega) ⟨by first | (clear p1; omega) | omega, by first | (clear p1; omega) | omega⟩)
        have Fs1019 := eqF hs1019 (fm_I Gs1017 (inl_ok (a := 38) rfl))
        have vs1019 : iI s1019 38 = ((iI s1013 38) + (e1004 - e1018)) := eqI hs1019 (iI_u ⟨by first | (clear p1; omega) | omega, by first | (clear p1; omega) | omega⟩)
        have aws1019_53 : SAM 53 t s1019 := by rw [hs1019]; exact aws1017_53
        have aws1019_54 : SAM 54 t s1019 := by rw [hs1019]; exact aws1017_54
        have aws1019_55 : SAM 55 t s1019 := by rw [hs1019]; exact aws1017_55
        have aws1019_56 : SAM 56 t s1019 := by rw [hs1019]; exact aws1017_56
        refine z_aload_n X (x := A 61) rfl (List.Mem.tail _ (List.Mem.tail _ (List.Mem.head _))) (s_getR X 61 rfl (c518_ok rfl) rfl rfl (z_load_n X (x := qq) rfl (List.Mem.tail _ (List.Mem.tail _ (List.Mem.tail _ (List.Mem.tail _ (List.Mem.head _))))) (z_load X (x := y1015) rfl (List.Mem.head _) (z_ast X 66 rfl (c518_ok rfl) rfl (by first | exact hi.2.1 | omega) (show qq < 24 by first | exact g1002 | omega) (cbig_ok rfl) (wd_gen (fun s1020 hs1020 => ?_))))))
        have Is1020 : Bd s1020 := eqB hs1020 (bd_C Is1019 (show ((-2147483648) : Int) ≤ y1015 ∧ y1015 ≤ 2147483647 by first | exact ⟨hy1015.1, hy1015.2⟩ | omega) hy1015)
        have Fs1020 := eqF hs1020 (fm_C Fs1019 (inl_ok (a := 56) rfl))
        have ws1020_38 : iI s1020 38 = iI s1019 38 := eqI hs1020 rfl
        have aws1020_53 : SAM 53 t s1020 := by rw [hs1020]; exact sam_C (by decide) aws1019_53
        have aws1020_54 : SAM 54 t s1020 := by rw [hs1020]; exact sam_C (by decide) aws1019_54
        have aws1020_55 : SAM 55 t s1020 := by rw [hs1020]; exact sam_C (by decide) aws1019_55
        have aws1020_56 : UPD 56 (qq) y1015 t s1020 := by rw [hs1020]; exact upd_put aws1019_56 hy1015
        refine z_aload_n X (x := A 61) rfl (List.Mem.tail _ (List.Mem.tail _ (List.Mem.head _))) (z_load_n X (x := xv) rfl (List.Mem.tail _ (List.Mem.tail _ (List.Mem.tail _ (List.Mem.head _)))) (z_load_n X (x := qq) rfl (List.Mem.tail _ (List.Mem.tail _ (List.Mem.tail _ (List.Mem.tail _ (List.Mem.head _))))) (z_load X (x := y1015) rfl (List.Mem.head _) (zcV_v0 X E 61 (As := [.int (Int32.ofInt xv), .int (Int32.ofInt qq), .int (Int32.ofInt y1015)]) (st := []) rfl rfl rfl rfl (c6_settle7 G Is1020 (by first | exact ⟨oq_fed65c02 hxv hi.1.2.1, oq_86ef0b17 hxv hi.1.2.2⟩ | omega) (by first | exact ⟨hi.2.1, oq_c69fe266 g1002⟩ | omega) (by first | exact ⟨hy1015.1, hy1015.2⟩ | omega) ((owb_s (crn_ow hq (by first | (clear p1; omega) | omega)) aws1020_53 aws1020_55))) rfl (Nat.le_of_ble_eq_true rfl) (fun s1021 Is1021 Fs1021 hps1021 => ?_)))))
        have Gs1021 := fm_tq Fs1020 Fs1021 rfl rfl
        have ws1021_38 : iI s1021 38 = iI s1020 38 := fm_iq Fs1021 rfl
        have aws1021_56 : UPD 56 (qq) y1015 t s1021 := upd_ts aws1020_56 (sam_fm Fs1021 (by decide))
        refine z_inc X (x := qq) (lv' := [(2, .int (Int32.ofInt (qq + 1))), (4, .int (Int32.ofInt y1015)), (3, .int (Int32.ofInt e1004)), (0, .ref (A 61)), (1, .int (Int32.ofInt xv))]) rfl (by decide) (List.Mem.tail _ (List.Mem.tail _ (List.Mem.tail _ (List.Mem.tail _ (List.Mem.head _))))) (fun _ h => h) (z_goto X (t := 31) rfl rfl (WS_pq [3, 4, 0] (lv' := [(0, .ref (A 61)), (1, .int (Int32.ofInt xv)), (2, .int (Int32.ofInt (qq + 1)))]) rfl ?_))
        exact ih _ xv (qq + 1) Is1021 Gs1021 (by have z := crn_up (D := (RDC s x)) hq hps1021 (by show xv = x; omega) hqe aws1020_53 aws1020_54 aws1020_55 (show iI s1020 37 = iI s 37 from fm_i Fs1020 (by decide)) hnw hy1015 (by rw [← hb2, ← hnd]; omega) aws1021_56; rw [show (qq : Int).toNat + 1 = (qq + 1).toNat by first | (clear p1; omega) | omega] at z; exact z) (by first | exact ⟨And.intro (hxv) (And.intro (hi.1.2.1) (hi.1.2.2)), oq_54f49eb5 hi.2.1, oq_cec7cb2e g1002⟩ | omega) (by first | exact qk_me hm (by decide) (oq_ffa8317e g1002) | omega) kx
  refine z_aload_n X (x := A 61) rfl (List.Mem.head _) (s_getR X 61 rfl (c518_ok rfl) rfl rfl (z_const X rfl (zcS_v0 X E (As := [.ref (A 63), .int (Int32.ofInt 0)]) (st := []) rfl rfl (j_fill7_53 G I (by first | exact ⟨by decide, by decide⟩ | omega)) rfl (Nat.le_of_ble_eq_true rfl) (fun s2 Is2 Fs2 hps2 => ?_))))
  have Gs2 := fm_tq F Fs2 rfl rfl
  have ws2_38 : iI s2 38 = iI s 38 := fm_iq Fs2 rfl
  refine z_aload_n X (x := A 61) rfl (List.Mem.head _) (s_getR X 61 rfl (c518_ok rfl) rfl rfl (z_const X rfl (zcS_v0 X E (As := [.ref (A 64), .int (Int32.ofInt 0)]) (st := []) rfl rfl (j_fill7_54 G Is2 (by first | exact ⟨by decide, by decide⟩ | omega)) rfl (Nat.le_of_ble_eq_true rfl) (fun s4 Is4 Fs4 hps4 => ?_))))
  have Gs4 := fm_tq Gs2 Fs4 rfl rfl
  have ws4_38 : iI s4 38 = iI s2 38 := fm_iq Fs4 rfl
  have hA1 : ∀ p : Nat, p < 8 → iC s4 53 p = 0 := fun p hp => (fm_c Fs4 (by decide)).trans (hps2 p hp)
  refine z_aload_n X (x := A 61) rfl (List.Mem.head _) (s_getR X 61 rfl (c518_ok rfl) rfl rfl (z_const X rfl (zcS_v0 X E (As := [.ref (A 65), .int (Int32.ofInt 0)]) (st := []) rfl rfl (j_fill7_55 G Is4 (by first | exact ⟨by decide, by decide⟩ | omega)) rfl (Nat.le_of_ble_eq_true rfl) (fun s6 Is6 Fs6 hps6 => ?_))))
  have Gs6 := fm_tq Gs4 Fs6 rfl rfl
  have ws6_38 : iI s6 38 = iI s4 38 := fm_iq Fs6 rfl
  have hA2 : ∀ p : Nat, p < 8 → iC s6 53 p = 0 := fun p hp => (fm_c Fs6 (by decide)).trans (hA1 p hp)
  have hB2 : ∀ p : Nat, p < 8 → iC s6 54 p = 0 := fun p hp => (fm_c Fs6 (by decide)).trans (hps4 p hp)
  refine z_aload_n X (x := A 61) rfl (List.Mem.head _) (z_const X rfl (s_putI X 61 rfl (c518_ok rfl) rfl rfl (by decide) rfl rfl rfl (wd_gen (fun s8 hs8 => ?_))))
  have Is8 : Bd s8 := eqB hs8 (bd_I Is6 (show ((-2147483648) : Int) ≤ 0 ∧ 0 ≤ 2147483647 by first | exact ⟨by decide, by decide⟩ | omega) (by decide))
  have Fs8 := eqF hs8 (fm_I Gs6 (inl_ok (a := 38) rfl))
  have vs8 : iI s8 38 = 0 := eqI hs8 (iI_u (by decide))
  have hA3 : ∀ p : Nat, p < 8 → iC s8 53 p = 0 := fun p hp => by rw [hs8]; exact hA2 p hp
  have hB3 : ∀ p : Nat, p < 8 → iC s8 54 p = 0 := fun p hp => by rw [hs8]; exact hB2 p hp
  have hC3 : ∀ p : Nat, p < 8 → iC s8 55 p = 0 := fun p hp => by rw [hs8]; exact hps6 p hp
  refine z_const X rfl (z_store_n X (lv' := [(2, .int (Int32.ofInt 0)), (0, .ref (A 61)), (1, .int (Int32.ofInt x))]) rfl (by decide) (fun _ h => h) (WS_pq [1, 2, 0] (lv' := [(0, .ref (A 61)), (1, .int (Int32.ofInt x)), (2, .int (Int32.ofInt 0))]) rfl (L31 ((24 - 0 : Int).toNat + 1) s8 x 0 Is8 Fs8 (crn_0 hA3 hB3 hC3 (by first | (clear hps6 hps4 hps2 p1; omega) | (clear hps4 hps2 p1; omega) | omega)) (by first | exact ⟨And.intro (by decide) (And.intro (p0.1) (p0.2)), by decide, by decide⟩ | omega) (Nat.lt_succ_self _) ?_)))
  intro s9 x10 Is9 Fs9 Qs9 hs9
  have b11 := bi_38 Is9
  exact w_vret X.1 q hRt (ax_d X (show cdA 62 119 = some (.return_, 1, 0, 0, 0) from rfl)) (Nat.zero_le _) (Nat.zero_le _) ⟨_, rfl, Is9, Fs9, rfl, (by have z := Qs9; rw [show (x10 : Int).toNat = 24 by first | (clear hps6 hps4 hps2 p1; omega) | (clear hps4 hps2 p1; omega) | omega] at z; exact z)⟩
set_option maxRecDepth 4000 in
theorem cs_rota7 (G : GX l s0 D tys a0 dT) {U : AirD} {Jn : List Int → Prop} (I : Bd s) (jAIR : AIR s) (jCPL : CPL s) (jCDJ : CDJ U s) (jPMJ : PMJ s) (jCJJ : CJJ Jn s) {u v w : Int} (p0 : rng u) (p1 : rng v) (p2 : rng w) (p3 : iI s 12 ≤ 8) : CT l s0 D A dT 166 (rmN 166) [.ref (A 0), .int (Int32.ofInt u), .int (Int32.ofInt v), .int (Int32.ofInt w)] s (fun o t => Bd t ∧ Fm [22, 23, 24, 34, 35, 38] [33, 26, 27, 28, 29, 30, 31, 32, 20, 48, 47, 49, 50, 51, 53, 54, 55, 56] s t ∧ ((∃ e, o = .inl (some (.int (Int32.ofInt e))) ∧ rng e ∧ ((1 ≤ u ∧ u ≤ 8) ∧ (0 ≤ v ∧ v ≤ 23) ∧ (0 ≤ w ∧ w ≤ 23) ∧ RTA (QD U Jn (iI s 32) (iI s 33) (fun j => iC s 46 j) (pfC s) (fun j => iC s 24 j)) (v : Int).toNat u (iI s 36) (iI s 37) (fun p => iC s 52 p) (w : Int).toNat e)) ∨ ∃ x : Nat, o = .inr (exN x) ∧ (x = 0 ∧ (u < 1 ∨ 8 < u ∨ v < 0 ∨ 23 < v ∨ w < 0 ∨ 23 < w)))) := by
  refine ct_ofX G (by decide) (Nat.le_of_ble_eq_true rfl) (fun k X E ET hRt hXt q => ?_)
  show WS k 0 [(0, .ref (A 0)), (1, .int (Int32.ofInt u)), (2, .int (Int32.ofInt v)), (3, .int (Int32.ofInt w))] [] _ 0 0
  have F : Fm [22, 23, 24, 34, 35, 38] [33, 26, 27, 28, 29, 30, 31, 32, 20, 48, 47, 49, 50, 51, 53, 54, 55, 56] s s := fm_rf _ _ s
  have b1 := bi_32 I
  have b2 := bi_12 I
  have b3 := bi_33 I
  have b4 := bi_38 I
  refine z_aload_n X (x := A 0) rfl (List.Mem.head _) (z_load_n X (x := u) rfl (List.Mem.tail _ (List.Mem.head _)) (z_const X rfl (z_bipush X rfl (z_callV X 0 (rm := rmN 184) (As := [.int (Int32.ofInt u), .int (Int32.ofInt 1), .int (Int32.ofInt 8)]) (st := []) rfl rfl (by decide) rfl (by rw [E.1, E.2.1, E.2.2.1]; exact cs_needWithin2 G I (by first | exact ⟨p0.1, p0.2⟩ | omega) (by first | exact ⟨by decide, by decide⟩ | omega) (by first | exact ⟨by decide, by decide⟩ | omega)) ⟨by rw [E.2.2.2]; exact (show (rmN 184).frames + 1 ≤ (rmN 166).frames by decide), by rw [E.2.2.2]; exact (show 8 + (mNL (miB 184) + 11) + (rmN 184).locals ≤ (rmN 166).locals by decide), by rw [E.2.2.2]; exact (show 0 + 1 ≤ 3 by decide), by rw [E.2.2.2]; exact (show 0 + 6 ≤ 18 by decide)⟩ (Nat.le_of_ble_eq_true rfl) (fun vv s5 hq => ?_) (fun ee s5 hq => ?_)))))
  rotate_left
  · obtain ⟨Is5, Fs5, (⟨hv, hps5⟩ | ⟨xx, hv, hps5⟩)⟩ := hq
    · cases hv
    · cases hv
      have Gs5 := fm_tq F Fs5 rfl rfl
      have JAIR_s5 : AIR s5 := AIR_fm Fs5 (by decide) jAIR
      have JCPL_s5 : CPL s5 := CPL_fm Fs5 (by decide) jCPL
      have JCDJ_s5 : CDJ U s5 := CDJ_fm Fs5 (by decide) jCDJ
      have JPMJ_s5 : PMJ s5 := PMJ_fm Fs5 (by decide) jPMJ
      have JCJJ_s5 : CJJ Jn s5 := CJJ_fm Fs5 (by decide) jCJJ
      have ws5_32 : iI s5 32 = iI s 32 := fm_iq Fs5 rfl
      have ws5_12 : iI s5 12 = iI s 12 := fm_iq Fs5 rfl
      have ws5_33 : iI s5 33 = iI s 33 := fm_iq Fs5 rfl
      have ws5_38 : iI s5 38 = iI s 38 := fm_iq Fs5 rfl
      exact x_out X.1 q (fun x hx => (hXt x hx).elim) (show 1 ≤ 3 by decide) (show 6 ≤ 18 by decide) ⟨_, rfl, Is5, Gs5, Or.inr ⟨xx, rfl, by omega⟩⟩
  obtain ⟨Is5, Fs5, (⟨hv, hps5⟩ | ⟨xx, hv, hps5⟩)⟩ := hq
  rotate_left
  · cases hv
  cases hv
  have Gs5 := fm_tq F Fs5 rfl rfl
  have JAIR_s5 : AIR s5 := AIR_fm Fs5 (by decide) jAIR
  have JCPL_s5 : CPL s5 := CPL_fm Fs5 (by decide) jCPL
  have JCDJ_s5 : CDJ U s5 := CDJ_fm Fs5 (by decide) jCDJ
  have JPMJ_s5 : PMJ s5 := PMJ_fm Fs5 (by decide) jPMJ
  have JCJJ_s5 : CJJ Jn s5 := CJJ_fm Fs5 (by decide) jCJJ
  have ws5_32 : iI s5 32 = iI s 32 := fm_iq Fs5 rfl
  have ws5_12 : iI s5 12 = iI s 12 := fm_iq Fs5 rfl
  have ws5_33 : iI s5 33 = iI s 33 := fm_iq Fs5 rfl
  have ws5_38 : iI s5 38 = iI s 38 := fm_iq Fs5 rfl
  show WS k 8 [(0, .ref (A 0)), (1, .int (Int32.ofInt u)), (2, .int (Int32.ofInt v)), (3, .int (Int32.ofInt w))] [] (Wd A dT s5) 1 6
  refine z_aload_n X (x := A 0) rfl (List.Mem.head _) (z_load_n X (x := v) rfl (List.Mem.tail _ (List.Mem.tail _ (List.Mem.head _))) (z_const X rfl (z_bipush X rfl (z_callV X 0 (rm := rmN 184) (As := [.int (Int32.ofInt v), .int (Int32.ofInt 0), .int (Int32.ofInt 23)]) (st := []) rfl rfl (by decide) rfl (by rw [E.1, E.2.1, E.2.2.1]; exact cs_needWithin2 G Is5 (by first | exact ⟨p1.1, p1.2⟩ | omega) (by first | exact ⟨by decide, by decide⟩ | omega) (by first | exact ⟨by decide, by decide⟩ | omega)) ⟨by rw [E.2.2.2]; exact (show (rmN 184).frames + 1 ≤ (rmN 166).frames by decide), by rw [E.2.2.2]; exact (show 8 + (mNL (miB 184) + 11) + (rmN 184).locals ≤ (rmN 166).locals by decide), by rw [E.2.2.2]; exact (show 1 + 1 ≤ 3 by decide), by rw [E.2.2.2]; exact (show 6 + 6 ≤ 18 by decide)⟩ (Nat.le_of_ble_eq_true rfl) (fun vv s7 hq => ?_) (fun ee s7 hq => ?_)))))
  rotate_left
  · obtain ⟨Is7, Fs7, (⟨hv, hps7⟩ | ⟨xx, hv, hps7⟩)⟩ := hq
    · cases hv
    · cases hv
      have Gs7 := fm_tq Gs5 Fs7 rfl rfl
      have JAIR_s7 : AIR s7 := AIR_fm Fs7 (by decide) JAIR_s5
      have JCPL_s7 : CPL s7 := CPL_fm Fs7 (by decide) JCPL_s5
      have JCDJ_s7 : CDJ U s7 := CDJ_fm Fs7 (by decide) JCDJ_s5
      have JPMJ_s7 : PMJ s7 := PMJ_fm Fs7 (by decide) JPMJ_s5
      have JCJJ_s7 : CJJ Jn s7 := CJJ_fm Fs7 (by decide) JCJJ_s5
      have ws7_32 : iI s7 32 = iI s5 32 := fm_iq Fs7 rfl
      have ws7_12 : iI s7 12 = iI s5 12 := fm_iq Fs7 rfl
      have ws7_33 : iI s7 33 = iI s5 33 := fm_iq Fs7 rfl
      have ws7_38 : iI s7 38 = iI s5 38 := fm_iq Fs7 rfl
      exact x_out X.1 q (fun x hx => (hXt x hx).elim) (show (1 + 1) ≤ 3 by decide) (show (6 + 6) ≤ 18 by decide) ⟨_, rfl, Is7, Gs7, Or.inr ⟨xx, rfl, by first | (clear hps5; omega) | omega⟩⟩
  obtain ⟨Is7, Fs7, (⟨hv, hps7⟩ | ⟨xx, hv, hps7⟩)⟩ := hq
  rotate_left
  · cases hv
  cases hv
  have Gs7 := fm_tq Gs5 Fs7 rfl rfl
  have JAIR_s7 : AIR s7 := AIR_fm Fs7 (by decide) JAIR_s5
  have JCPL_s7 : CPL s7 := CPL_fm Fs7 (by decide) JCPL_s5
  have JCDJ_s7 : CDJ U s7 := CDJ_fm Fs7 (by decide) JCDJ_s5
  have JPMJ_s7 : PMJ s7 := PMJ_fm Fs7 (by decide) JPMJ_s5
  have JCJJ_s7 : CJJ Jn s7 := CJJ_fm Fs7 (by decide) JCJJ_s5
  have ws7_32 : iI s7 32 = iI s5 32 := fm_iq Fs7 rfl
  have ws7_12 : iI s7 12 = iI s5 12 := fm_iq Fs7 rfl
  have ws7_33 : iI s7 33 = iI s5 33 := fm_iq Fs7 rfl
  have ws7_38 : iI s7 38 = iI s5 38 := fm_iq Fs7 rfl
  show WS k 16 [(0, .ref (A 0)), (1, .int (Int32.ofInt u)), (2, .int (Int32.ofInt v)), (3, .int (Int32.ofInt w))] [] (Wd A dT s7) (1 + 1) (6 + 6)
  refine z_aload_n X (x := A 0) rfl (List.Mem.head _) (z_load_n X (x := w) rfl (List.Mem.tail _ (List.Mem.tail _ (List.Mem.tail _ (List.Mem.head _)))) (z_callV X 0 (rm := rmN 183) (As := [.int (Int32.ofInt w)]) (st := []) rfl rfl (by decide) rfl (by rw [E.1, E.2.1, E.2.2.1]; exact cs_needQuarter6 G Is7 (by first | exact ⟨p2.1, p2.2⟩ | omega)) ⟨by rw [E.2.2.2]; exact (show (rmN 183).frames + 1 ≤ (rmN 166).frames by decide), by rw [E.2.2.2]; exact (show 8 + (mNL (miB 183) + 11) + (rmN 183).locals ≤ (rmN 166).locals by decide), by rw [E.2.2.2]; exact (show (1 + 1) + 1 ≤ 3 by decide), by rw [E.2.2.2]; exact (show (6 + 6) + 6 ≤ 18 by decide)⟩ (Nat.le_of_ble_eq_true rfl) (fun vv s9 hq => ?_) (fun ee s9 hq => ?_)))
  rotate_left
  · obtain ⟨Is9, Fs9, (⟨hv, hps9⟩ | ⟨xx, hv, hps9⟩)⟩ := hq
    · cases hv
    · cases hv
      have Gs9 := fm_tq Gs7 Fs9 rfl rfl
      have JAIR_s9 : AIR s9 := AIR_fm Fs9 (by decide) JAIR_s7
      have JCPL_s9 : CPL s9 := CPL_fm Fs9 (by decide) JCPL_s7
      have JCDJ_s9 : CDJ U s9 := CDJ_fm Fs9 (by decide) JCDJ_s7
      have JPMJ_s9 : PMJ s9 := PMJ_fm Fs9 (by decide) JPMJ_s7
      have JCJJ_s9 : CJJ Jn s9 := CJJ_fm Fs9 (by decide) JCJJ_s7
      have ws9_32 : iI s9 32 = iI s7 32 := fm_iq Fs9 rfl
      have ws9_12 : iI s9 12 = iI s7 12 := fm_iq Fs9 rfl
      have ws9_33 : iI s9 33 = iI s7 33 := fm_iq Fs9 rfl
      have ws9_38 : iI s9 38 = iI s7 38 := fm_iq Fs9 rfl
      exact x_out X.1 q (fun x hx => (hXt x hx).elim) (show ((1 + 1) + 1) ≤ 3 by decide) (show ((6 + 6) + 6) ≤ 18 by decide) ⟨_, rfl, Is9, Gs9, Or.inr ⟨xx, rfl, by first | (clear hps7 hps5; omega) | (clear hps5; omega) | omega⟩⟩
  obtain ⟨Is9, Fs9, (⟨hv, hps9⟩ | ⟨xx, hv, hps9⟩)⟩ := hq
  rotate_left
  · cases hv
  cases hv
  have Gs9 := fm_tq Gs7 Fs9 rfl rfl
  have JAIR_s9 : AIR s9 := AIR_fm Fs9 (by decide) JAIR_s7
  have JCPL_s9 : CPL s9 := CPL_fm Fs9 (by decide) JCPL_s7
  have JCDJ_s9 : CDJ U s9 := CDJ_fm Fs9 (by decide) JCDJ_s7
  have JPMJ_s9 : PMJ s9 := PMJ_fm Fs9 (by decide) JPMJ_s7
  have JCJJ_s9 : CJJ Jn s9 := CJJ_fm Fs9 (by decide) JCJJ_s7
  have ws9_32 : iI s9 32 = iI s7 32 := fm_iq Fs9 rfl
  have ws9_12 : iI s9 12 = iI s7 12 := fm_iq Fs9 rfl
  have ws9_33 : iI s9 33 = iI s7 33 := fm_iq Fs9 rfl
  have ws9_38 : iI s9 38 = iI s7 38 := fm_iq Fs9 rfl
  show WS k 21 [(0, .ref (A 0)), (1, .int (Int32.ofInt u)), (2, .int (Int32.ofInt v)), (3, .int (Int32.ofInt w))] [] (Wd A dT s9) ((1 + 1) + 1) ((6 + 6) + 6)
  refine z_aload_n X (x := A 0) rfl (List.Mem.head _) (s_getR X 0 rfl (c518_ok rfl) rfl rfl (z_load_n X (x := v) rfl (List.Mem.tail _ (List.Mem.tail _ (List.Mem.head _))) (z_callV X 54 (rm := rmN 48) (As := [.int (Int32.ofInt v)]) (st := []) rfl rfl (by decide) rfl (by rw [E.1, E.2.1, E.2.2.1]; exact c4_solve7 G Is9 JAIR_s9 JCPL_s9 JCDJ_s9 JPMJ_s9 JCJJ_s9 (by first | exact ⟨hps7.1, hps7.2⟩ | omega) (by first | exact oq_e14d47df ws9_12 ws7_12 ws5_12 p3 | omega)) ⟨by rw [E.2.2.2]; exact (show (rmN 48).frames + 1 ≤ (rmN 166).frames by decide), by rw [E.2.2.2]; exact (show 8 + (mNL (miB 48) + 11) + (rmN 48).locals ≤ (rmN 166).locals by decide), by rw [E.2.2.2]; exact (show ((1 + 1) + 1) + 0 ≤ 3 by decide), by rw [E.2.2.2]; exact (show ((6 + 6) + 6) + 0 ≤ 18 by decide)⟩ (Nat.le_of_ble_eq_true rfl) (fun vv s11 hq => ?_) (fun ee s11 hq => ?_))))
  rotate_left
  · obtain ⟨Is11, Fs11, e12, hv, hrs11, hps11⟩ := hq; cases hv
  obtain ⟨Is11, Fs11, e12, hv, hrs11, hps11⟩ := hq
  have hps11p := And.intro hps11.2.1 (hps11.2.2)
  cases hv
  have Gs11 := fm_tq Gs9 Fs11 rfl rfl
  have JAIR_s11 : AIR s11 := AIR_fm Fs11 (by decide) JAIR_s9
  have JCPL_s11 : CPL s11 := CPL_fm Fs11 (by decide) JCPL_s9
  have JCDJ_s11 : CDJ U s11 := CDJ_fm Fs11 (by decide) JCDJ_s9
  have JPMJ_s11 : PMJ s11 := PMJ_fm Fs11 (by decide) JPMJ_s9
  have JCJJ_s11 : CJJ Jn s11 := CJJ_fm Fs11 (by decide) JCJJ_s9
  have ws11_32 : iI s11 32 = iI s9 32 := fm_iq Fs11 rfl
  have ws11_12 : iI s11 12 = iI s9 12 := fm_iq Fs11 rfl
  have ws11_33 : iI s11 33 = iI s9 33 := fm_iq Fs11 rfl
  have ws11_38 : iI s11 38 = iI s9 38 := fm_iq Fs11 rfl
  show WS k 29 [(0, .ref (A 0)), (1, .int (Int32.ofInt u)), (2, .int (Int32.ofInt v)), (3, .int (Int32.ofInt w))] [.int (Int32.ofInt e12)] (Wd A dT s11) ((1 + 1) + 1) ((6 + 6) + 6)
  have eQ : (QD U Jn (iI s9 32) (iI s9 33) (fun j => iC s9 46 j) (pfC s9) (fun j => iC s9 24 j)) = (QD U Jn (iI s 32) (iI s 33) (fun j => iC s 46 j) (pfC s) (fun j => iC s 24 j)) := qd_c (by first | (clear hps11 hps9 hps7 hps5; omega) | (clear hps9 hps7 hps5; omega) | omega) (by first | (clear hps11 hps9 hps7 hps5; omega) | (clear hps9 hps7 hps5; omega) | omega) (fun j _ => fm_c Gs9 (by decide)) (fun j _ => fm_c Gs9 (by decide)) (fun j _ => fm_c Gs9 (by decide))
  have hj := hps11
  rw [eQ] at hj
  refine z_if_ne X (t := 34) rfl rfl hrs11 (fun g13 => ?_) (fun g13 => ?_)
  ·
    refine z_aload_n X (x := A 0) rfl (List.Mem.head _) (s_getR X 0 rfl (c518_ok rfl) rfl rfl (z_load_n X (x := u) rfl (List.Mem.tail _ (List.Mem.head _)) (z_callV X 61 (rm := rmN 62) (As := [.int (Int32.ofInt u)]) (st := []) rfl rfl (by decide) rfl (by rw [E.1, E.2.1, E.2.2.1]; exact c6_run7 G Is11 (by first | exact ⟨hps5.1, hps5.2⟩ | omega) ((nde_r (nde_c hj.2.1 (by first | (clear g13 hps11 hps9 hps7 hps5; omega) | (clear hps11 hps9 hps7 hps5; omega) | omega) hj.2.2) qd_n))) ⟨by rw [E.2.2.2]; exact (show (rmN 62).frames + 1 ≤ (rmN 166).frames by decide), by rw [E.2.2.2]; exact (show 8 + (mNL (miB 62) + 11) + (rmN 62).locals ≤ (rmN 166).locals by decide), by rw [E.2.2.2]; exact (show ((1 + 1) + 1) + 0 ≤ 3 by decide), by rw [E.2.2.2]; exact (show ((6 + 6) + 6) + 0 ≤ 18 by decide)⟩ (Nat.le_of_ble_eq_true rfl) (fun vv s14 hq => ?_) (fun ee s14 hq => ?_))))
    rotate_left
    · obtain ⟨Is14, Fs14, hv, hps14⟩ := hq; cases hv
    obtain ⟨Is14, Fs14, hv, hps14⟩ := hq
    cases hv
    have Gs14 := fm_tq Gs11 Fs14 rfl rfl
    have JAIR_s14 : AIR s14 := AIR_fm Fs14 (by decide) JAIR_s11
    have JCPL_s14 : CPL s14 := CPL_fm Fs14 (by decide) JCPL_s11
    have JCDJ_s14 : CDJ U s14 := CDJ_fm Fs14 (by decide) JCDJ_s11
    have JPMJ_s14 : PMJ s14 := PMJ_fm Fs14 (by decide) JPMJ_s11
    have JCJJ_s14 : CJJ Jn s14 := CJJ_fm Fs14 (by decide) JCJJ_s11
    have ws14_32 : iI s14 32 = iI s11 32 := fm_iq Fs14 rfl
    have ws14_12 : iI s14 12 = iI s11 12 := fm_iq Fs14 rfl
    have ws14_33 : iI s14 33 = iI s11 33 := fm_iq Fs14 rfl
    have b16 := bi_38 Is14
    show WS k 42 [(0, .ref (A 0)), (1, .int (Int32.ofInt u)), (2, .int (Int32.ofInt v)), (3, .int (Int32.ofInt w))] [] (Wd A dT s14) ((1 + 1) + 1) ((6 + 6) + 6)
    refine z_aload_n X (x := A 0) rfl (List.Mem.head _) (s_getR X 0 rfl (c518_ok rfl) rfl rfl (s_getR X 61 rfl (c518_ok rfl) rfl rfl (z_load_n X (x := w) rfl (List.Mem.tail _ (List.Mem.tail _ (List.Mem.tail _ (List.Mem.head _)))) (z_ald X 66 rfl (c518_ok rfl) rfl (by first | exact hps9.1 | omega) (show w < 24 by first | exact oq_7fdb8aa6 hps9.2 | omega) (cbig_ok rfl) ?_))))
    have b17 := bc_56 Is14 (show (w).toNat < 24 by first | exact oq_138251d6 hps9.2 | omega)
    exact w_iret X.1 q hRt rfl (ax_d X (show cdA 166 51 = some (.ireturn, 1, 0, 0, 0) from rfl)) (show ((1 + 1) + 1) ≤ 3 by decide) (show ((6 + 6) + 6) ≤ 18 by decide) ⟨_, rfl, Is14, Gs14, Or.inl ⟨(iC s14 56 (w).toNat), rfl, (rng_to _), ⟨by first | exact ⟨hps5.1, hps5.2⟩ | omega, by first | exact ⟨hps7.1, hps7.2⟩ | omega, by first | exact ⟨hps9.1, hps9.2⟩ | omega, rta_c hj.2.1 (by first | (clear g13 hps11 hps9 hps7 hps5; omega) | (clear hps11 hps9 hps7 hps5; omega) | omega) hj.2.2 hps14 (show iI s11 36 = iI s 36 from fm_i Gs11 (by decide)) (show iI s11 37 = iI s 37 from fm_i Gs11 (by decide)) (fun p => show iC s11 52 p = iC s 52 p from fm_c Gs11 (by decide)) (by first | (clear g13 hps11 hps9 hps7 hps5; omega) | (clear hps11 hps9 hps7 hps5; omega) | omega) rfl⟩⟩⟩
  ·
    refine z_const X rfl ?_
    exact w_iret X.1 q hRt rfl (ax_d X (show cdA 166 33 = some (.ireturn, 1, 0, 0, 0) from rfl)) (show ((1 + 1) + 1) ≤ 3 by decide) (show ((6 + 6) + 6) ≤ 18 by decide) ⟨_, rfl, Is11, Gs11, Or.inl ⟨(-1), rfl, (by decide), ⟨by first | exact ⟨hps5.1, hps5.2⟩ | omega, by first | exact ⟨hps7.1, hps7.2⟩ | omega, by first | exact ⟨hps9.1, hps9.2⟩ | omega, Or.inl ⟨rfl, ple_no hj.2.1 (by first | (clear hps11 hps9 hps7 hps5; omega) | (clear hps9 hps7 hps5; omega) | omega)⟩⟩⟩⟩
set_option maxRecDepth 4000 in
theorem lw_rota7 (G : GX l s0 D tys a0 dT) {U : AirD} {Jn : List Int → Prop} (I : Bd s) (jAIR : AIR s) (jCPL : CPL s) (jCDJ : CDJ U s) (jPMJ : PMJ s) (jCJJ : CJJ Jn s) {u v w : Int} (p0 : rng u) (p1 : rng v) (p2 : rng w) (p3 : iI s 12 ≤ 8) : CTL l s0 D A dT 340 (rmN 340) [.ref (A 0), .int (Int32.ofInt u), .int (Int32.ofInt v), .int (Int32.ofInt w), .ref (A 517)] s (fun o t => Bd t ∧ Fm [22, 23, 24, 34, 35, 38] [33, 26, 27, 28, 29, 30, 31, 32, 20, 48, 47, 49, 50, 51, 53, 54, 55, 56, 1460] s t ∧ ∃ e, o = .inl (some (.int (Int32.ofInt e))) ∧ rng e ∧ ((e = 0 ∧ (1 ≤ u ∧ u ≤ 8) ∧ (0 ≤ v ∧ v ≤ 23) ∧ (0 ≤ w ∧ w ≤ 23) ∧ RTA (QD U Jn (iI s 32) (iI s 33) (fun j => iC s 46 j) (pfC s) (fun j => iC s 24 j)) (v : Int).toNat u (iI s 36) (iI s 37) (fun p => iC s 52 p) (w : Int).toNat (iO t)) ∨ (e = 1 ∧ (u < 1 ∨ 8 < u ∨ v < 0 ∨ 23 < v ∨ w < 0 ∨ 23 < w)))) := by
  refine ctL_of G (by decide) (Nat.le_of_ble_eq_true rfl) (by decide) rfl (fun k X E ET hRt hEx q => ?_)
  show WS k 0 [(0, .ref (A 0)), (1, .int (Int32.ofInt u)), (2, .int (Int32.ofInt v)), (3, .int (Int32.ofInt w)), (4, .ref (A 517))] [] _ 0 0
  have F : Fm [22, 23, 24, 34, 35, 38] [33, 26, 27, 28, 29, 30, 31, 32, 20, 48, 47, 49, 50, 51, 53, 54, 55, 56, 1460] s s := fm_rf _ _ s
  have hA := swA_rf A
  have b1 := bi_32 I
  have b2 := bi_12 I
  have b3 := bi_33 I
  have b4 := bi_38 I
  refine z_aload X (x := A 517) rfl (List.Mem.tail _ (List.Mem.tail _ (List.Mem.tail _ (List.Mem.tail _ (List.Mem.head _))))) (z_const X rfl (z_aload_n X (x := A 0) rfl (List.Mem.head _) (z_load_n X (x := u) rfl (List.Mem.tail _ (List.Mem.head _)) (z_load_n X (x := v) rfl (List.Mem.tail _ (List.Mem.tail _ (List.Mem.head _))) (z_load_n X (x := w) rfl (List.Mem.tail _ (List.Mem.tail _ (List.Mem.tail _ (List.Mem.head _)))) (z_callV X 0 (rm := rmN 166) (As := [.int (Int32.ofInt u), .int (Int32.ofInt v), .int (Int32.ofInt w)]) (st := [.int (Int32.ofInt 0), .ref (A 517)]) rfl rfl (by decide) rfl (by rw [E.1, E.2.1, E.2.2.1]; exact cs_rota7 G I jAIR jCPL jCDJ jPMJ jCJJ (by omega) (by omega) (by omega) (by omega)) ⟨by rw [E.2.2.2]; exact (show (rmN 166).frames + 1 ≤ (rmN 340).frames by decide), by rw [E.2.2.2]; exact (show 8 + (mNL (miB 166) + 11) + (rmN 166).locals ≤ (rmN 340).locals by decide), by rw [E.2.2.2]; exact (show 0 + (rmN 166).cells ≤ (rmN 340).cells by decide), by rw [E.2.2.2]; exact (show 0 + (rmN 166).slots ≤ (rmN 340).slots by decide)⟩ (Nat.le_of_ble_eq_true rfl) (fun vv s5 hq => ?_) (fun ee s5 hq => ?_)))))))
  rotate_left
  · obtain ⟨Is5, Fs5, (⟨e6, hv, hrs5, hps5⟩ | ⟨xx, hv, hps5⟩)⟩ := hq
    · cases hv
    · cases hv
      rcases (show xx = 0 by omega) with gx
      ·
        subst gx
        have Gs5 := fm_tq F Fs5 rfl rfl
        have ws5_32 : iI s5 32 = iI s 32 := fm_iq Fs5 rfl
        have ws5_12 : iI s5 12 = iI s 12 := fm_iq Fs5 rfl
        have ws5_33 : iI s5 33 = iI s 33 := fm_iq Fs5 rfl
        have b7 := bi_38 Is5
        refine (hEx 7 0).2 15 rfl _ _ _ _ _ (fun q1 => ?_)
        show WS k 15 [(0, .ref (A 0)), (1, .int (Int32.ofInt u)), (2, .int (Int32.ofInt v)), (3, .int (Int32.ofInt w)), (4, .ref (A 517))] [.ref q1] (Wd A dT s5) 3 18
        refine z_astore X (lv' := [(5, .ref q1), (0, .ref (A 0)), (1, .int (Int32.ofInt u)), (2, .int (Int32.ofInt v)), (3, .int (Int32.ofInt w)), (4, .ref (A 517))]) rfl (by decide) (fun _ h => h) (z_const X rfl ?_)
        exact w_iret X.1 q hRt rfl (ax_d X (show cdA 340 18 = some (.ireturn, 1, 0, 0, 0) from rfl)) (show 3 ≤ 3 by decide) (show 18 ≤ 18 by decide) ⟨A, _, hA, rfl, Is5, Gs5, 1, rfl, (by decide), Or.inr ⟨by decide, by omega⟩⟩
  obtain ⟨Is5, Fs5, (⟨e6, hv, hrs5, hps5⟩ | ⟨xx, hv, hps5⟩)⟩ := hq
  rotate_left
  · cases hv
  cases hv
  have Gs5 := fm_tq F Fs5 rfl rfl
  have ws5_32 : iI s5 32 = iI s 32 := fm_iq Fs5 rfl
  have ws5_12 : iI s5 12 = iI s 12 := fm_iq Fs5 rfl
  have ws5_33 : iI s5 33 = iI s 33 := fm_iq Fs5 rfl
  have b8 := bi_38 Is5
  show WS k 10 [(0, .ref (A 0)), (1, .int (Int32.ofInt u)), (2, .int (Int32.ofInt v)), (3, .int (Int32.ofInt w)), (4, .ref (A 517))] [.int (Int32.ofInt e6), .int (Int32.ofInt 0), .ref (A 517)] (Wd A dT s5) 3 18
  refine w_i2l X.1 (ax_d X (show cdA 340 10 = some (.i2l, 1, 0, 0, 0) from rfl)) (z_last X 517 rfl (c518_ok rfl) rfl (by first | (clear hps5; omega) | omega) (show 0 < 1 by first | (clear hps5; omega) | omega) (cbig_ok rfl) (wd_gen (fun s9 hs9 => ?_)))
  have Is9 : Bd s9 := eqB hs9 (bd_D Is5)
  have Fs9 : Fm [22, 23, 24, 34, 35, 38] [33, 26, 27, 28, 29, 30, 31, 32, 20, 48, 47, 49, 50, 51, 53, 54, 55, 56, 1460] s s9 := by rw [hs9]; exact fm_D Gs5 (show 460 + 1000 ∈ _ by decide)
  have ws9_32 : iI s9 32 = iI s5 32 := eqI hs9 rfl
  have ws9_12 : iI s9 12 = iI s5 12 := eqI hs9 rfl
  have ws9_33 : iI s9 33 = iI s5 33 := eqI hs9 rfl
  have ws9_38 : iI s9 38 = iI s5 38 := eqI hs9 rfl
  have oos9 : iO s9 = e6 := by rw [hs9]; exact iO_u (by first | (clear hps5; omega) | omega)
  refine z_goto X (t := 19) rfl rfl (z_const X rfl ?_)
  exact w_iret X.1 q hRt rfl (ax_d X (show cdA 340 20 = some (.ireturn, 1, 0, 0, 0) from rfl)) (show 3 ≤ 3 by decide) (show 18 ≤ 18 by decide) ⟨A, _, hA, rfl, Is9, Fs9, 0, rfl, (by decide), Or.inl ⟨by decide, by first | (clear hps5; omega) | omega, by first | (clear hps5; omega) | omega, by first | (clear hps5; omega) | omega, by rw [show iO s9 = e6 by first | (clear hps5; omega) | omega]; exact hps5.2.2.2⟩⟩
set_option maxRecDepth 4000 in
theorem cs_lacks7 (G : GX l s0 D tys a0 dT) {U : AirD} {Jn : List Int → Prop} (I : Bd s) (jAIR : AIR s) (jCPL : CPL s) (jCDJ : CDJ U s) (jPMJ : PMJ s) (jCJJ : CJJ Jn s) {u v : Int} (p0 : rng u) (p1 : rng v) (p2 : iI s 12 ≤ 8) : CT l s0 D A dT 167 (rmN 167) [.ref (A 0), .int (Int32.ofInt u), .int (Int32.ofInt v)] s (fun o t => Bd t ∧ Fm [22, 23, 24, 34, 35, 38] [33, 26, 27, 28, 29, 30, 31, 32, 20, 48, 47, 49, 50, 51, 53, 54, 55, 56] s t ∧ ((∃ e, o = .inl (some (.int (Int32.ofInt e))) ∧ rng e ∧ ((1 ≤ u ∧ u ≤ 8) ∧ (0 ≤ v ∧ v ≤ 23) ∧ LKA (QD U Jn (iI s 32) (iI s 33) (fun j => iC s 46 j) (pfC s) (fun j => iC s 24 j)) (v : Int).toNat u (iI s 36) (iI s 37) (fun p => iC s 52 p) e)) ∨ ∃ x : Nat, o = .inr (exN x) ∧ (x = 0 ∧ (u < 1 ∨ 8 < u ∨ v < 0 ∨ 23 < v)))) := by
  refine ct_ofX G (by decide) (Nat.le_of_ble_eq_true rfl) (fun k X E ET hRt hXt q => ?_)
  show WS k 0 [(0, .ref (A 0)), (1, .int (Int32.ofInt u)), (2, .int (Int32.ofInt v))] [] _ 0 0
  have F : Fm [22, 23, 24, 34, 35, 38] [33, 26, 27, 28, 29, 30, 31, 32, 20, 48, 47, 49, 50, 51, 53, 54, 55, 56] s s := fm_rf _ _ s
  have b1 := bi_32 I
  have b2 := bi_12 I
  have b3 := bi_33 I
  have b4 := bi_38 I
  refine z_aload_n X (x := A 0) rfl (List.Mem.head _) (z_load_n X (x := u) rfl (List.Mem.tail _ (List.Mem.head _)) (z_const X rfl (z_bipush X rfl (z_callV X 0 (rm := rmN 184) (As := [.int (Int32.ofInt u), .int (Int32.ofInt 1), .int (Int32.ofInt 8)]) (st := []) rfl rfl (by decide) rfl (by rw [E.1, E.2.1, E.2.2.1]; exact cs_needWithin2 G I (by first | exact ⟨p0.1, p0.2⟩ | omega) (by first | exact ⟨by decide, by decide⟩ | omega) (by first | exact ⟨by decide, by decide⟩ | omega)) ⟨by rw [E.2.2.2]; exact (show (rmN 184).frames + 1 ≤ (rmN 167).frames by decide), by rw [E.2.2.2]; exact (show 8 + (mNL (miB 184) + 11) + (rmN 184).locals ≤ (rmN 167).locals by decide), by rw [E.2.2.2]; exact (show 0 + 1 ≤ 2 by decide), by rw [E.2.2.2]; exact (show 0 + 6 ≤ 12 by decide)⟩ (Nat.le_of_ble_eq_true rfl) (fun vv s5 hq => ?_) (fun ee s5 hq => ?_)))))
  rotate_left
  · obtain ⟨Is5, Fs5, (⟨hv, hps5⟩ | ⟨xx, hv, hps5⟩)⟩ := hq
    · cases hv
    · cases hv
      have Gs5 := fm_tq F Fs5 rfl rfl
      have JAIR_s5 : AIR s5 := AIR_fm Fs5 (by decide) jAIR
      have JCPL_s5 : CPL s5 := CPL_fm Fs5 (by decide) jCPL
      have JCDJ_s5 : CDJ U s5 := CDJ_fm Fs5 (by decide) jCDJ
      have JPMJ_s5 : PMJ s5 := PMJ_fm Fs5 (by decide) jPMJ
      have JCJJ_s5 : CJJ Jn s5 := CJJ_fm Fs5 (by decide) jCJJ
      have ws5_32 : iI s5 32 = iI s 32 := fm_iq Fs5 rfl
      have ws5_12 : iI s5 12 = iI s 12 := fm_iq Fs5 rfl
      have ws5_33 : iI s5 33 = iI s 33 := fm_iq Fs5 rfl
      have ws5_38 : iI s5 38 = iI s 38 := fm_iq Fs5 rfl
      exact x_out X.1 q (fun x hx => (hXt x hx).elim) (show 1 ≤ 2 by decide) (show 6 ≤ 12 by decide) ⟨_, rfl, Is5, Gs5, Or.inr ⟨xx, rfl, by omega⟩⟩
  obtain ⟨Is5, Fs5, (⟨hv, hps5⟩ | ⟨xx, hv, hps5⟩)⟩ := hq
  rotate_left
  · cases hv
  cases hv
  have Gs5 := fm_tq F Fs5 rfl rfl
  have JAIR_s5 : AIR s5 := AIR_fm Fs5 (by decide) jAIR
  have JCPL_s5 : CPL s5 := CPL_fm Fs5 (by decide) jCPL
  have JCDJ_s5 : CDJ U s5 := CDJ_fm Fs5 (by decide) jCDJ
  have JPMJ_s5 : PMJ s5 := PMJ_fm Fs5 (by decide) jPMJ
  have JCJJ_s5 : CJJ Jn s5 := CJJ_fm Fs5 (by decide) jCJJ
  have ws5_32 : iI s5 32 = iI s 32 := fm_iq Fs5 rfl
  have ws5_12 : iI s5 12 = iI s 12 := fm_iq Fs5 rfl
  have ws5_33 : iI s5 33 = iI s 33 := fm_iq Fs5 rfl
  have ws5_38 : iI s5 38 = iI s 38 := fm_iq Fs5 rfl
  show WS k 8 [(0, .ref (A 0)), (1, .int (Int32.ofInt u)), (2, .int (Int32.ofInt v))] [] (Wd A dT s5) 1 6
  refine z_aload_n X (x := A 0) rfl (List.Mem.head _) (z_load_n X (x := v) rfl (List.Mem.tail _ (List.Mem.tail _ (List.Mem.head _))) (z_const X rfl (z_bipush X rfl (z_callV X 0 (rm := rmN 184) (As := [.int (Int32.ofInt v), .int (Int32.ofInt 0), .int (Int32.ofInt 23)]) (st := []) rfl rfl (by decide) rfl (by rw [E.1, E.2.1, E.2.2.1]; exact cs_needWithin2 G Is5 (by first | exact ⟨p1.1, p1.2⟩ | omega) (by first | exact ⟨by decide, by decide⟩ | omega) (by first | exact ⟨by decide, by decide⟩ | omega)) ⟨by rw [E.2.2.2]; exact (show (rmN 184).frames + 1 ≤ (rmN 167).frames by decide), by rw [E.2.2.2]; exact (show 8 + (mNL (miB 184) + 11) + (rmN 184).locals ≤ (rmN 167).locals by decide), by rw [E.2.2.2]; exact (show 1 + 1 ≤ 2 by decide), by rw [E.2.2.2]; exact (show 6 + 6 ≤ 12 by decide)⟩ (Nat.le_of_ble_eq_true rfl) (fun vv s7 hq => ?_) (fun ee s7 hq => ?_)))))
  rotate_left
  · obtain ⟨Is7, Fs7, (⟨hv, hps7⟩ | ⟨xx, hv, hps7⟩)⟩ := hq
    · cases hv
    · cases hv
      have Gs7 := fm_tq Gs5 Fs7 rfl rfl
      have JAIR_s7 : AIR s7 := AIR_fm Fs7 (by decide) JAIR_s5
      have JCPL_s7 : CPL s7 := CPL_fm Fs7 (by decide) JCPL_s5
      have JCDJ_s7 : CDJ U s7 := CDJ_fm Fs7 (by decide) JCDJ_s5
      have JPMJ_s7 : PMJ s7 := PMJ_fm Fs7 (by decide) JPMJ_s5
      have JCJJ_s7 : CJJ Jn s7 := CJJ_fm Fs7 (by decide) JCJJ_s5
      have ws7_32 : iI s7 32 = iI s5 32 := fm_iq Fs7 rfl
      have ws7_12 : iI s7 12 = iI s5 12 := fm_iq Fs7 rfl
      have ws7_33 : iI s7 33 = iI s5 33 := fm_iq Fs7 rfl
      have ws7_38 : iI s7 38 = iI s5 38 := fm_iq Fs7 rfl
      exact x_out X.1 q (fun x hx => (hXt x hx).elim) (show (1 + 1) ≤ 2 by decide) (show (6 + 6) ≤ 12 by decide) ⟨_, rfl, Is7, Gs7, Or.inr ⟨xx, rfl, by first | (clear hps5; omega) | omega⟩⟩
  obtain ⟨Is7, Fs7, (⟨hv, hps7⟩ | ⟨xx, hv, hps7⟩)⟩ := hq
  rotate_left
  · cases hv
  cases hv
  have Gs7 := fm_tq Gs5 Fs7 rfl rfl
  have JAIR_s7 : AIR s7 := AIR_fm Fs7 (by decide) JAIR_s5
  have JCPL_s7 : CPL s7 := CPL_fm Fs7 (by decide) JCPL_s5
  have JCDJ_s7 : CDJ U s7 := CDJ_fm Fs7 (by decide) JCDJ_s5
  have JPMJ_s7 : PMJ s7 := PMJ_fm Fs7 (by decide) JPMJ_s5
  have JCJJ_s7 : CJJ Jn s7 := CJJ_fm Fs7 (by decide) JCJJ_s5
  have ws7_32 : iI s7 32 = iI s5 32 := fm_iq Fs7 rfl
  have ws7_12 : iI s7 12 = iI s5 12 := fm_iq Fs7 rfl
  have ws7_33 : iI s7 33 = iI s5 33 := fm_iq Fs7 rfl
  have ws7_38 : iI s7 38 = iI s5 38 := fm_iq Fs7 rfl
  show WS k 16 [(0, .ref (A 0)), (1, .int (Int32.ofInt u)), (2, .int (Int32.ofInt v))] [] (Wd A dT s7) (1 + 1) (6 + 6)
  refine z_aload_n X (x := A 0) rfl (List.Mem.head _) (s_getR X 0 rfl (c518_ok rfl) rfl rfl (z_load_n X (x := v) rfl (List.Mem.tail _ (List.Mem.tail _ (List.Mem.head _))) (z_callV X 54 (rm := rmN 48) (As := [.int (Int32.ofInt v)]) (st := []) rfl rfl (by decide) rfl (by rw [E.1, E.2.1, E.2.2.1]; exact c4_solve7 G Is7 JAIR_s7 JCPL_s7 JCDJ_s7 JPMJ_s7 JCJJ_s7 (by first | exact ⟨hps7.1, hps7.2⟩ | omega) (by first | exact oq_d7ce4408 ws7_12 ws5_12 p2 | omega)) ⟨by rw [E.2.2.2]; exact (show (rmN 48).frames + 1 ≤ (rmN 167).frames by decide), by rw [E.2.2.2]; exact (show 8 + (mNL (miB 48) + 11) + (rmN 48).locals ≤ (rmN 167).locals by decide), by rw [E.2.2.2]; exact (show (1 + 1) + 0 ≤ 2 by decide), by rw [E.2.2.2]; exact (show (6 + 6) + 0 ≤ 12 by decide)⟩ (Nat.le_of_ble_eq_true rfl) (fun vv s9 hq => ?_) (fun ee s9 hq => ?_))))
  rotate_left
  · obtain ⟨Is9, Fs9, e10, hv, hrs9, hps9⟩ := hq; cases hv
  obtain ⟨Is9, Fs9, e10, hv, hrs9, hps9⟩ := hq
  have hps9p := And.intro hps9.2.1 (hps9.2.2)
  cases hv
  have Gs9 := fm_tq Gs7 Fs9 rfl rfl
  have JAIR_s9 : AIR s9 := AIR_fm Fs9 (by decide) JAIR_s7
  have JCPL_s9 : CPL s9 := CPL_fm Fs9 (by decide) JCPL_s7
  have JCDJ_s9 : CDJ U s9 := CDJ_fm Fs9 (by decide) JCDJ_s7
  have JPMJ_s9 : PMJ s9 := PMJ_fm Fs9 (by decide) JPMJ_s7
  have JCJJ_s9 : CJJ Jn s9 := CJJ_fm Fs9 (by decide) JCJJ_s7
  have ws9_32 : iI s9 32 = iI s7 32 := fm_iq Fs9 rfl
  have ws9_12 : iI s9 12 = iI s7 12 := fm_iq Fs9 rfl
  have ws9_33 : iI s9 33 = iI s7 33 := fm_iq Fs9 rfl
  have ws9_38 : iI s9 38 = iI s7 38 := fm_iq Fs9 rfl
  show WS k 24 [(0, .ref (A 0)), (1, .int (Int32.ofInt u)), (2, .int (Int32.ofInt v))] [.int (Int32.ofInt e10)] (Wd A dT s9) (1 + 1) (6 + 6)
  have eQ : (QD U Jn (iI s7 32) (iI s7 33) (fun j => iC s7 46 j) (pfC s7) (fun j => iC s7 24 j)) = (QD U Jn (iI s 32) (iI s 33) (fun j => iC s 46 j) (pfC s) (fun j => iC s 24 j)) := qd_c (by first | (clear hps9 hps7 hps5; omega) | (clear hps7 hps5; omega) | omega) (by first | (clear hps9 hps7 hps5; omega) | (clear hps7 hps5; omega) | omega) (fun j _ => fm_c Gs7 (by decide)) (fun j _ => fm_c Gs7 (by decide)) (fun j _ => fm_c Gs7 (by decide))
  have hj := hps9
  rw [eQ] at hj
  refine z_if_ne X (t := 29) rfl rfl hrs9 (fun g11 => ?_) (fun g11 => ?_)
  ·
    refine z_aload_n X (x := A 0) rfl (List.Mem.head _) (s_getR X 0 rfl (c518_ok rfl) rfl rfl (z_load_n X (x := u) rfl (List.Mem.tail _ (List.Mem.head _)) (z_callV X 61 (rm := rmN 62) (As := [.int (Int32.ofInt u)]) (st := []) rfl rfl (by decide) rfl (by rw [E.1, E.2.1, E.2.2.1]; exact c6_run7 G Is9 (by first | exact ⟨hps5.1, hps5.2⟩ | omega) ((nde_r (nde_c hj.2.1 (by first | (clear g11 hps9 hps7 hps5; omega) | (clear hps9 hps7 hps5; omega) | omega) hj.2.2) qd_n))) ⟨by rw [E.2.2.2]; exact (show (rmN 62).frames + 1 ≤ (rmN 167).frames by decide), by rw [E.2.2.2]; exact (show 8 + (mNL (miB 62) + 11) + (rmN 62).locals ≤ (rmN 167).locals by decide), by rw [E.2.2.2]; exact (show (1 + 1) + 0 ≤ 2 by decide), by rw [E.2.2.2]; exact (show (6 + 6) + 0 ≤ 12 by decide)⟩ (Nat.le_of_ble_eq_true rfl) (fun vv s12 hq => ?_) (fun ee s12 hq => ?_))))
    rotate_left
    · obtain ⟨Is12, Fs12, hv, hps12⟩ := hq; cases hv
    obtain ⟨Is12, Fs12, hv, hps12⟩ := hq
    cases hv
    have Gs12 := fm_tq Gs9 Fs12 rfl rfl
    have JAIR_s12 : AIR s12 := AIR_fm Fs12 (by decide) JAIR_s9
    have JCPL_s12 : CPL s12 := CPL_fm Fs12 (by decide) JCPL_s9
    have JCDJ_s12 : CDJ U s12 := CDJ_fm Fs12 (by decide) JCDJ_s9
    have JPMJ_s12 : PMJ s12 := PMJ_fm Fs12 (by decide) JPMJ_s9
    have JCJJ_s12 : CJJ Jn s12 := CJJ_fm Fs12 (by decide) JCJJ_s9
    have ws12_32 : iI s12 32 = iI s9 32 := fm_iq Fs12 rfl
    have ws12_12 : iI s12 12 = iI s9 12 := fm_iq Fs12 rfl
    have ws12_33 : iI s12 33 = iI s9 33 := fm_iq Fs12 rfl
    have b14 := bi_38 Is12
    show WS k 37 [(0, .ref (A 0)), (1, .int (Int32.ofInt u)), (2, .int (Int32.ofInt v))] [] (Wd A dT s12) (1 + 1) (6 + 6)
    refine z_aload_n X (x := A 0) rfl (List.Mem.head _) (s_getR X 0 rfl (c518_ok rfl) rfl rfl (z_getI X 61 rfl (c518_ok rfl) rfl rfl ?_))
    have b15 := bi_38 Is12
    exact w_iret X.1 q hRt rfl (ax_d X (show cdA 167 44 = some (.ireturn, 1, 0, 0, 0) from rfl)) (show (1 + 1) ≤ 2 by decide) (show (6 + 6) ≤ 12 by decide) ⟨_, rfl, Is12, Gs12, Or.inl ⟨(iI s12 38), rfl, (rng_to _), ⟨by first | exact ⟨hps5.1, hps5.2⟩ | omega, by first | exact ⟨hps7.1, hps7.2⟩ | omega, lka_c hj.2.1 (by first | (clear g11 hps9 hps7 hps5; omega) | (clear hps9 hps7 hps5; omega) | omega) hj.2.2 hps12 (show iI s9 36 = iI s 36 from fm_i Gs9 (by decide)) (show iI s9 37 = iI s 37 from fm_i Gs9 (by decide)) (fun p => show iC s9 52 p = iC s 52 p from fm_c Gs9 (by decide)) rfl⟩⟩⟩
  ·
    refine z_const X rfl ?_
    exact w_iret X.1 q hRt rfl (ax_d X (show cdA 167 28 = some (.ireturn, 1, 0, 0, 0) from rfl)) (show (1 + 1) ≤ 2 by decide) (show (6 + 6) ≤ 12 by decide) ⟨_, rfl, Is9, Gs9, Or.inl ⟨(-1), rfl, (by decide), ⟨by first | exact ⟨hps5.1, hps5.2⟩ | omega, by first | exact ⟨hps7.1, hps7.2⟩ | omega, Or.inl ⟨rfl, ple_no hj.2.1 (by first | (clear hps9 hps7 hps5; omega) | (clear hps7 hps5; omega) | omega)⟩⟩⟩⟩
set_option maxRecDepth 4000 in
theorem lw_lacks7 (G : GX l s0 D tys a0 dT) {U : AirD} {Jn : List Int → Prop} (I : Bd s) (jAIR : AIR s) (jCPL : CPL s) (jCDJ : CDJ U s) (jPMJ : PMJ s) (jCJJ : CJJ Jn s) {u v : Int} (p0 : rng u) (p1 : rng v) (p2 : iI s 12 ≤ 8) : CTL l s0 D A dT 341 (rmN 341) [.ref (A 0), .int (Int32.ofInt u), .int (Int32.ofInt v), .ref (A 517)] s (fun o t => Bd t ∧ Fm [22, 23, 24, 34, 35, 38] [33, 26, 27, 28, 29, 30, 31, 32, 20, 48, 47, 49, 50, 51, 53, 54, 55, 56, 1460] s t ∧ ∃ e, o = .inl (some (.int (Int32.ofInt e))) ∧ rng e ∧ ((e = 0 ∧ (1 ≤ u ∧ u ≤ 8) ∧ (0 ≤ v ∧ v ≤ 23) ∧ LKA (QD U Jn (iI s 32) (iI s 33) (fun j => iC s 46 j) (pfC s) (fun j => iC s 24 j)) (v : Int).toNat u (iI s 36) (iI s 37) (fun p => iC s 52 p) (iO t)) ∨ (e = 1 ∧ (u < 1 ∨ 8 < u ∨ v < 0 ∨ 23 < v)))) := by
  refine ctL_of G (by decide) (Nat.le_of_ble_eq_true rfl) (by decide) rfl (fun k X E ET hRt hEx q => ?_)
  show WS k 0 [(0, .ref (A 0)), (1, .int (Int32.ofInt u)), (2, .int (Int32.ofInt v)), (3, .ref (A 517))] [] _ 0 0
  have F : Fm [22, 23, 24, 34, 35, 38] [33, 26, 27, 28, 29, 30, 31, 32, 20, 48, 47, 49, 50, 51, 53, 54, 55, 56, 1460] s s := fm_rf _ _ s
  have hA := swA_rf A
  have b1 := bi_32 I
  have b2 := bi_12 I
  have b3 := bi_33 I
  have b4 := bi_38 I
  refine z_aload_n X (x := A 517) rfl (List.Mem.tail _ (List.Mem.tail _ (List.Mem.tail _ (List.Mem.head _)))) (z_const X rfl (z_aload_n X (x := A 0) rfl (List.Mem.head _) (z_load_n X (x := u) rfl (List.Mem.tail _ (List.Mem.head _)) (z_load_n X (x := v) rfl (List.Mem.tail _ (List.Mem.tail _ (List.Mem.head _))) (z_callV X 0 (rm := rmN 167) (As := [.int (Int32.ofInt u), .int (Int32.ofInt v)]) (st := [.int (Int32.ofInt 0), .ref (A 517)]) rfl rfl (by decide) rfl (by rw [E.1, E.2.1, E.2.2.1]; exact cs_lacks7 G I jAIR jCPL jCDJ jPMJ jCJJ (by omega) (by omega) (by omega)) ⟨by rw [E.2.2.2]; exact (show (rmN 167).frames + 1 ≤ (rmN 341).frames by decide), by rw [E.2.2.2]; exact (show 8 + (mNL (miB 167) + 11) + (rmN 167).locals ≤ (rmN 341).locals by decide), by rw [E.2.2.2]; exact (show 0 + (rmN 167).cells ≤ (rmN 341).cells by decide), by rw [E.2.2.2]; exact (show 0 + (rmN 167).slots ≤ (rmN 341).slots by decide)⟩ (Nat.le_of_ble_eq_true rfl) (fun vv s5 hq => ?_) (fun ee s5 hq => ?_))))))
  rotate_left
  · obtain ⟨Is5, Fs5, (⟨e6, hv, hrs5, hps5⟩ | ⟨xx, hv, hps5⟩)⟩ := hq
    · cases hv
    · cases hv
      rcases (show xx = 0 by omega) with gx
      ·
        subst gx
        have Gs5 := fm_tq F Fs5 rfl rfl
        have ws5_32 : iI s5 32 = iI s 32 := fm_iq Fs5 rfl
        have ws5_12 : iI s5 12 = iI s 12 := fm_iq Fs5 rfl
        have ws5_33 : iI s5 33 = iI s 33 := fm_iq Fs5 rfl
        have b7 := bi_38 Is5
        refine (hEx 5 0).2 13 rfl _ _ _ _ _ (fun q1 => ?_)
        show WS k 13 [(0, .ref (A 0)), (1, .int (Int32.ofInt u)), (2, .int (Int32.ofInt v)), (3, .ref (A 517))] [.ref q1] (Wd A dT s5) 2 12
        refine z_astore X (lv' := [(4, .ref q1), (0, .ref (A 0)), (1, .int (Int32.ofInt u)), (2, .int (Int32.ofInt v)), (3, .ref (A 517))]) rfl (by decide) (fun _ h => h) (z_const X rfl ?_)
        exact w_iret X.1 q hRt rfl (ax_d X (show cdA 341 16 = some (.ireturn, 1, 0, 0, 0) from rfl)) (show 2 ≤ 2 by decide) (show 12 ≤ 12 by decide) ⟨A, _, hA, rfl, Is5, Gs5, 1, rfl, (by decide), Or.inr ⟨by decide, by omega⟩⟩
  obtain ⟨Is5, Fs5, (⟨e6, hv, hrs5, hps5⟩ | ⟨xx, hv, hps5⟩)⟩ := hq
  rotate_left
  · cases hv
  cases hv
  have Gs5 := fm_tq F Fs5 rfl rfl
  have ws5_32 : iI s5 32 = iI s 32 := fm_iq Fs5 rfl
  have ws5_12 : iI s5 12 = iI s 12 := fm_iq Fs5 rfl
  have ws5_33 : iI s5 33 = iI s 33 := fm_iq Fs5 rfl
  have b8 := bi_38 Is5
  show WS k 8 [(0, .ref (A 0)), (1, .int (Int32.ofInt u)), (2, .int (Int32.ofInt v)), (3, .ref (A 517))] [.int (Int32.ofInt e6), .int (Int32.ofInt 0), .ref (A 517)] (Wd A dT s5) 2 12
  refine w_i2l X.1 (ax_d X (show cdA 341 8 = some (.i2l, 1, 0, 0, 0) from rfl)) (z_last X 517 rfl (c518_ok rfl) rfl (by first | (clear hps5; omega) | omega) (show 0 < 1 by first | (clear hps5; omega) | omega) (cbig_ok rfl) (wd_gen (fun s9 hs9 => ?_)))
  have Is9 : Bd s9 := eqB hs9 (bd_D Is5)
  have Fs9 : Fm [22, 23, 24, 34, 35, 38] [33, 26, 27, 28, 29, 30, 31, 32, 20, 48, 47, 49, 50, 51, 53, 54, 55, 56, 1460] s s9 := by rw [hs9]; exact fm_D Gs5 (show 460 + 1000 ∈ _ by decide)
  have ws9_32 : iI s9 32 = iI s5 32 := eqI hs9 rfl
  have ws9_12 : iI s9 12 = iI s5 12 := eqI hs9 rfl
  have ws9_33 : iI s9 33 = iI s5 33 := eqI hs9 rfl
  have ws9_38 : iI s9 38 = iI s5 38 := eqI hs9 rfl
  have oos9 : iO s9 = e6 := by rw [hs9]; exact iO_u (by first | (clear hps5; omega) | omega)
  refine z_goto X (t := 17) rfl rfl (z_const X rfl ?_)
  exact w_iret X.1 q hRt rfl (ax_d X (show cdA 341 18 = some (.ireturn, 1, 0, 0, 0) from rfl)) (show 2 ≤ 2 by decide) (show 12 ≤ 12 by decide) ⟨A, _, hA, rfl, Is9, Fs9, 0, rfl, (by decide), Or.inl ⟨by decide, by first | (clear hps5; omega) | omega, by first | (clear hps5; omega) | omega, by rw [show iO s9 = e6 by first | (clear hps5; omega) | omega]; exact hps5.2.2⟩⟩
set_option maxRecDepth 4000 in
theorem cs_enough7 (G : GX l s0 D tys a0 dT) {U : AirD} {Jn : List Int → Prop} (I : Bd s) (jAIR : AIR s) (jCPL : CPL s) (jCDJ : CDJ U s) (jPMJ : PMJ s) (jCJJ : CJJ Jn s) {v : Int} (p0 : rng v) (p1 : iI s 12 ≤ 8) : CT l s0 D A dT 168 (rmN 168) [.ref (A 0), .int (Int32.ofInt v)] s (fun o t => Bd t ∧ Fm [22, 23, 24, 34, 35, 38] [33, 26, 27, 28, 29, 30, 31, 32, 20, 48, 47, 49, 50, 51, 53, 54, 55, 56] s t ∧ ((∃ e, o = .inl (some (.int (Int32.ofInt e))) ∧ rng e ∧ ((0 ≤ v ∧ v ≤ 23) ∧ ENA (QD U Jn (iI s 32) (iI s 33) (fun j => iC s 46 j) (pfC s) (fun j => iC s 24 j)) (v : Int).toNat (iI s 36) (iI s 37) (fun p => iC s 52 p) e)) ∨ ∃ x : Nat, o = .inr (exN x) ∧ (x = 0 ∧ (v < 0 ∨ 23 < v)))) := by
  refine ct_ofX G (by decide) (Nat.le_of_ble_eq_true rfl) (fun k X E ET hRt hXt q => ?_)
  show WS k 0 [(0, .ref (A 0)), (1, .int (Int32.ofInt v))] [] _ 0 0
  have F : Fm [22, 23, 24, 34, 35, 38] [33, 26, 27, 28, 29, 30, 31, 32, 20, 48, 47, 49, 50, 51, 53, 54, 55, 56] s s := fm_rf _ _ s
  have b1 := bi_32 I
  have b2 := bi_12 I
  have b3 := bi_33 I
  have b4 := bi_38 I
  have L23 : ∀ (n : Nat) (t : PS) (c : Int), Bd t → Fm [22, 23, 24, 34, 35, 38] [33, 26, 27, 28, 29, 30, 31, 32, 20, 48, 47, 49, 50, 51, 53, 54, 55, 56] s t → (ENQ (QD U Jn (iI s 32) (iI s 33) (fun j => iC s 46 j) (pfC s) (fun j => iC s 24 j)) (v : Int).toNat (iI s 36) (iI s 37) (fun p => iC s 52 p) c t) → ((0 ≤ v ∧ v ≤ 23) ∧ 1 ≤ c ∧ c ≤ 9) → (9 - c : Int).toNat < n → (∀ (t' : PS) (c' : Int), Bd t' → Fm [22, 23, 24, 34, 35, 38] [33, 26, 27, 28, 29, 30, 31, 32, 20, 48, 47, 49, 50, 51, 53, 54, 55, 56] s t' → (ENQ (QD U Jn (iI s 32) (iI s 33) (fun j => iC s 46 j) (pfC s) (fun j => iC s 24 j)) (v : Int).toNat (iI s 36) (iI s 37) (fun p => iC s 52 p) c' t') → ((0 ≤ v ∧ v ≤ 23) ∧ c' = 9) → WS k 55 [(0, .ref (A 0)), (2, .int (Int32.ofInt c'))] [] (Wd A dT t') 1 6) → WS k 23 [(0, .ref (A 0)), (2, .int (Int32.ofInt c))] [] (Wd A dT t) 1 6 := by
    intro n
    induction n with
    | zero =>
      intro t c I F hq hi hm kx
      exact absurd hm (Nat.not_lt_zero _)
    | succ n ih =>
      intro t c I F hq hi hm kx
      have b1001 := bi_32 I
      have b1002 := bi_12 I
      have b1003 := bi_33 I
      have b1004 := bi_38 I
      refine z_load_n X (x := c) rfl (List.Mem.tail _ (List.Mem.head _)) (z_bipush X rfl (z_icmp_gt X (t := 55) rfl rfl ⟨by first | exact oq_9462313e hi.2.1 | omega, by first | exact oq_f7e7bb0e hi.2.2 | omega⟩ (by decide) (fun g1005 => ?_) (fun g1005 => ?_)))
      ·
        refine WS_pq [0, 1] (lv' := [(0, .ref (A 0)), (2, .int (Int32.ofInt c))]) rfl ?_
        exact kx _ c I F hq (by first | exact ⟨And.intro (hi.1.1) (hi.1.2), oq_cbfce7f9 hi.2.2 g1005⟩ | omega)
      ·
        refine z_aload_n X (x := A 0) rfl (List.Mem.head _) (s_getR X 0 rfl (c518_ok rfl) rfl rfl (z_load_n X (x := c) rfl (List.Mem.tail _ (List.Mem.head _)) (z_callV X 61 (rm := rmN 62) (As := [.int (Int32.ofInt c)]) (st := []) rfl rfl (by decide) rfl (by rw [E.1, E.2.1, E.2.2.1]; exact c6_run7 G I (by first | exact ⟨hi.2.1, g1005⟩ | omega) ((enq_nd hq qd_n))) ⟨by rw [E.2.2.2]; exact (show (rmN 62).frames + 1 ≤ (rmN 168).frames by decide), by rw [E.2.2.2]; exact (show 8 + (mNL (miB 62) + 11) + (rmN 62).locals ≤ (rmN 168).locals by decide), by rw [E.2.2.2]; exact (show 1 + 0 ≤ 1 by decide), by rw [E.2.2.2]; exact (show 6 + 0 ≤ 6 by decide)⟩ (Nat.le_of_ble_eq_true rfl) (fun vv s1006 hq => ?_) (fun ee s1006 hq => ?_))))
        rotate_left
        · obtain ⟨Is1006, Fs1006, hv, hps1006⟩ := hq; cases hv
        obtain ⟨Is1006, Fs1006, hv, hps1006⟩ := hq
        cases hv
        have Gs1006 := fm_tq F Fs1006 rfl rfl
        have ws1006_32 : iI s1006 32 = iI t 32 := fm_iq Fs1006 rfl
        have ws1006_12 : iI s1006 12 = iI t 12 := fm_iq Fs1006 rfl
        have ws1006_33 : iI s1006 33 = iI t 33 := fm_iq Fs1006 rfl
        have b1008 := bi_38 Is1006
        show WS k 37 [(0, .ref (A 0)), (2, .int (Int32.ofInt c))] [] (Wd A dT s1006) 1 6
        refine z_aload_n X (x := A 0) rfl (List.Mem.head _) (s_getR X 0 rfl (c518_ok rfl) rfl rfl (z_getI X 61 rfl (c518_ok rfl) rfl rfl ?_))
        have b1009 := bi_38 Is1006
        refine z_if_ne X (t := 49) rfl rfl (rng_to _) (fun g1010 => ?_) (fun g1010 => ?_)
        ·
          refine z_inc X (x := c) (lv' := [(2, .int (Int32.ofInt (c + 1))), (0, .ref (A 0))]) rfl (by decide) (List.Mem.tail _ (List.Mem.head _)) (fun _ h => h) (z_goto X (t := 23) rfl rfl (WS_pq [1, 0] (lv' := [(0, .ref (A 0)), (2, .int (Int32.ofInt (c + 1)))]) rfl ?_))
          exact ih _ (c + 1) Is1006 Gs1006 (enq_up hq hps1006 (show iI t 36 = iI s 36 from fm_i F (by decide)) (show iI t 37 = iI s 37 from fm_i F (by decide)) (fun p => show iC t 52 p = iC s 52 p from fm_c F (by decide)) (sam_fm Fs1006 (by decide)) (sam_fm Fs1006 (by decide)) (by first | (clear g1010; omega) | omega) (by first | (clear g1010; omega) | omega)) (by first | exact ⟨And.intro (hi.1.1) (hi.1.2), oq_1e1a2df6 hi.2.1, oq_c5edd56f g1005⟩ | omega) (by first | exact qk_me hm (by decide) (oq_fa1cb672 g1005) | omega) kx
        ·
          refine z_load_n X (x := c) rfl (List.Mem.tail _ (List.Mem.head _)) ?_
          exact w_iret X.1 q hRt rfl (ax_d X (show cdA 168 48 = some (.ireturn, 1, 0, 0, 0) from rfl)) (show 1 ≤ 1 by decide) (show 6 ≤ 6 by decide) ⟨_, rfl, Is1006, Gs1006, Or.inl ⟨c, rfl, ⟨by first | exact oq_9462313e hi.2.1 | omega, by first | exact oq_d3f5d874 g1005 | omega⟩, ⟨by first | exact ⟨hi.1.1, hi.1.2⟩ | omega, enq_y hq hps1006 (show iI t 36 = iI s 36 from fm_i F (by decide)) (show iI t 37 = iI s 37 from fm_i F (by decide)) (fun p => show iC t 52 p = iC s 52 p from fm_c F (by decide)) (by omega) (by omega)⟩⟩⟩
  refine z_aload_n X (x := A 0) rfl (List.Mem.head _) (z_load_n X (x := v) rfl (List.Mem.tail _ (List.Mem.head _)) (z_const X rfl (z_bipush X rfl (z_callV X 0 (rm := rmN 184) (As := [.int (Int32.ofInt v), .int (Int32.ofInt 0), .int (Int32.ofInt 23)]) (st := []) rfl rfl (by decide) rfl (by rw [E.1, E.2.1, E.2.2.1]; exact cs_needWithin2 G I (by first | exact ⟨p0.1, p0.2⟩ | omega) (by first | exact ⟨by decide, by decide⟩ | omega) (by first | exact ⟨by decide, by decide⟩ | omega)) ⟨by rw [E.2.2.2]; exact (show (rmN 184).frames + 1 ≤ (rmN 168).frames by decide), by rw [E.2.2.2]; exact (show 8 + (mNL (miB 184) + 11) + (rmN 184).locals ≤ (rmN 168).locals by decide), by rw [E.2.2.2]; exact (show 0 + 1 ≤ 1 by decide), by rw [E.2.2.2]; exact (show 0 + 6 ≤ 6 by decide)⟩ (Nat.le_of_ble_eq_true rfl) (fun vv s5 hq => ?_) (fun ee s5 hq => ?_)))))
  rotate_left
  · obtain ⟨Is5, Fs5, (⟨hv, hps5⟩ | ⟨xx, hv, hps5⟩)⟩ := hq
    · cases hv
    · cases hv
      have Gs5 := fm_tq F Fs5 rfl rfl
      have JAIR_s5 : AIR s5 := AIR_fm Fs5 (by decide) jAIR
      have JCPL_s5 : CPL s5 := CPL_fm Fs5 (by decide) jCPL
      have JCDJ_s5 : CDJ U s5 := CDJ_fm Fs5 (by decide) jCDJ
      have JPMJ_s5 : PMJ s5 := PMJ_fm Fs5 (by decide) jPMJ
      have JCJJ_s5 : CJJ Jn s5 := CJJ_fm Fs5 (by decide) jCJJ
      have ws5_32 : iI s5 32 = iI s 32 := fm_iq Fs5 rfl
      have ws5_12 : iI s5 12 = iI s 12 := fm_iq Fs5 rfl
      have ws5_33 : iI s5 33 = iI s 33 := fm_iq Fs5 rfl
      have ws5_38 : iI s5 38 = iI s 38 := fm_iq Fs5 rfl
      exact x_out X.1 q (fun x hx => (hXt x hx).elim) (show 1 ≤ 1 by decide) (show 6 ≤ 6 by decide) ⟨_, rfl, Is5, Gs5, Or.inr ⟨xx, rfl, by omega⟩⟩
  obtain ⟨Is5, Fs5, (⟨hv, hps5⟩ | ⟨xx, hv, hps5⟩)⟩ := hq
  rotate_left
  · cases hv
  cases hv
  have Gs5 := fm_tq F Fs5 rfl rfl
  have JAIR_s5 : AIR s5 := AIR_fm Fs5 (by decide) jAIR
  have JCPL_s5 : CPL s5 := CPL_fm Fs5 (by decide) jCPL
  have JCDJ_s5 : CDJ U s5 := CDJ_fm Fs5 (by decide) jCDJ
  have JPMJ_s5 : PMJ s5 := PMJ_fm Fs5 (by decide) jPMJ
  have JCJJ_s5 : CJJ Jn s5 := CJJ_fm Fs5 (by decide) jCJJ
  have ws5_32 : iI s5 32 = iI s 32 := fm_iq Fs5 rfl
  have ws5_12 : iI s5 12 = iI s 12 := fm_iq Fs5 rfl
  have ws5_33 : iI s5 33 = iI s 33 := fm_iq Fs5 rfl
  have ws5_38 : iI s5 38 = iI s 38 := fm_iq Fs5 rfl
  show WS k 8 [(0, .ref (A 0)), (1, .int (Int32.ofInt v))] [] (Wd A dT s5) 1 6
  refine z_aload_n X (x := A 0) rfl (List.Mem.head _) (s_getR X 0 rfl (c518_ok rfl) rfl rfl (z_load_n X (x := v) rfl (List.Mem.tail _ (List.Mem.head _)) (z_callV X 54 (rm := rmN 48) (As := [.int (Int32.ofInt v)]) (st := []) rfl rfl (by decide) rfl (by rw [E.1, E.2.1, E.2.2.1]; exact c4_solve7 G Is5 JAIR_s5 JCPL_s5 JCDJ_s5 JPMJ_s5 JCJJ_s5 (by first | exact ⟨hps5.1, hps5.2⟩ | omega) (by first | exact oq_86ef0b17 ws5_12 p1 | omega)) ⟨by rw [E.2.2.2]; exact (show (rmN 48).frames + 1 ≤ (rmN 168).frames by decide), by rw [E.2.2.2]; exact (show 8 + (mNL (miB 48) + 11) + (rmN 48).locals ≤ (rmN 168).locals by decide), by rw [E.2.2.2]; exact (show 1 + 0 ≤ 1 by decide), by rw [E.2.2.2]; exact (show 6 + 0 ≤ 6 by decide)⟩ (Nat.le_of_ble_eq_true rfl) (fun vv s7 hq => ?_) (fun ee s7 hq => ?_))))
  rotate_left
  · obtain ⟨Is7, Fs7, e8, hv, hrs7, hps7⟩ := hq; cases hv
  obtain ⟨Is7, Fs7, e8, hv, hrs7, hps7⟩ := hq
  have hps7p := And.intro hps7.2.1 (hps7.2.2)
  cases hv
  have Gs7 := fm_tq Gs5 Fs7 rfl rfl
  have JAIR_s7 : AIR s7 := AIR_fm Fs7 (by decide) JAIR_s5
  have JCPL_s7 : CPL s7 := CPL_fm Fs7 (by decide) JCPL_s5
  have JCDJ_s7 : CDJ U s7 := CDJ_fm Fs7 (by decide) JCDJ_s5
  have JPMJ_s7 : PMJ s7 := PMJ_fm Fs7 (by decide) JPMJ_s5
  have JCJJ_s7 : CJJ Jn s7 := CJJ_fm Fs7 (by decide) JCJJ_s5
  have ws7_32 : iI s7 32 = iI s5 32 := fm_iq Fs7 rfl
  have ws7_12 : iI s7 12 = iI s5 12 := fm_iq Fs7 rfl
  have ws7_33 : iI s7 33 = iI s5 33 := fm_iq Fs7 rfl
  have ws7_38 : iI s7 38 = iI s5 38 := fm_iq Fs7 rfl
  show WS k 16 [(0, .ref (A 0)), (1, .int (Int32.ofInt v))] [.int (Int32.ofInt e8)] (Wd A dT s7) 1 6
  have eQ : (QD U Jn (iI s5 32) (iI s5 33) (fun j => iC s5 46 j) (pfC s5) (fun j => iC s5 24 j)) = (QD U Jn (iI s 32) (iI s 33) (fun j => iC s 46 j) (pfC s) (fun j => iC s 24 j)) := qd_c (by first | (clear hps7 hps5; omega) | (clear hps5; omega) | omega) (by first | (clear hps7 hps5; omega) | (clear hps5; omega) | omega) (fun j _ => fm_c Gs5 (by decide)) (fun j _ => fm_c Gs5 (by decide)) (fun j _ => fm_c Gs5 (by decide))
  have hj := hps7
  rw [eQ] at hj
  refine z_if_ne X (t := 21) rfl rfl hrs7 (fun g9 => ?_) (fun g9 => ?_)
  ·
    refine z_const X rfl (z_store_n X (lv' := [(2, .int (Int32.ofInt 1)), (0, .ref (A 0)), (1, .int (Int32.ofInt v))]) rfl (by decide) (fun _ h => h) (WS_pq [1, 0] (lv' := [(0, .ref (A 0)), (2, .int (Int32.ofInt 1))]) rfl (L23 ((9 - 1 : Int).toNat + 1) s7 1 Is7 Gs7 (enq_1 (nde_c hj.2.1 (by first | (clear g9 hps7 hps5; omega) | (clear hps7 hps5; omega) | omega) hj.2.2)) (by first | exact ⟨And.intro (hps5.1) (hps5.2), by decide, by decide⟩ | omega) (Nat.lt_succ_self _) ?_)))
    intro s10 x11 Is10 Fs10 Qs10 hs10
    have b12 := bi_32 Is10
    have b13 := bi_12 Is10
    have b14 := bi_33 Is10
    have b15 := bi_38 Is10
    refine z_const X rfl ?_
    exact w_iret X.1 q hRt rfl (ax_d X (show cdA 168 56 = some (.ireturn, 1, 0, 0, 0) from rfl)) (show 1 ≤ 1 by decide) (show 6 ≤ 6 by decide) ⟨_, rfl, Is10, Fs10, Or.inl ⟨(-1), rfl, (by decide), ⟨by first | exact ⟨hs10.1.1, hs10.1.2⟩ | omega, enq_n Qs10 (by first | (clear g9 hps7 hps5; omega) | (clear hps7 hps5; omega) | omega)⟩⟩⟩
  ·
    refine z_const X rfl ?_
    exact w_iret X.1 q hRt rfl (ax_d X (show cdA 168 20 = some (.ireturn, 1, 0, 0, 0) from rfl)) (show 1 ≤ 1 by decide) (show 6 ≤ 6 by decide) ⟨_, rfl, Is7, Gs7, Or.inl ⟨(-1), rfl, (by decide), ⟨by first | exact ⟨hps5.1, hps5.2⟩ | omega, Or.inl ⟨rfl, ple_no hj.2.1 (by first | (clear hps7 hps5; omega) | (clear hps5; omega) | omega)⟩⟩⟩⟩
set_option maxRecDepth 4000 in
theorem lw_enough7 (G : GX l s0 D tys a0 dT) {U : AirD} {Jn : List Int → Prop} (I : Bd s) (jAIR : AIR s) (jCPL : CPL s) (jCDJ : CDJ U s) (jPMJ : PMJ s) (jCJJ : CJJ Jn s) {v : Int} (p0 : rng v) (p1 : iI s 12 ≤ 8) : CTL l s0 D A dT 342 (rmN 342) [.ref (A 0), .int (Int32.ofInt v), .ref (A 517)] s (fun o t => Bd t ∧ Fm [22, 23, 24, 34, 35, 38] [33, 26, 27, 28, 29, 30, 31, 32, 20, 48, 47, 49, 50, 51, 53, 54, 55, 56, 1460] s t ∧ ∃ e, o = .inl (some (.int (Int32.ofInt e))) ∧ rng e ∧ ((e = 0 ∧ (0 ≤ v ∧ v ≤ 23) ∧ ENA (QD U Jn (iI s 32) (iI s 33) (fun j => iC s 46 j) (pfC s) (fun j => iC s 24 j)) (v : Int).toNat (iI s 36) (iI s 37) (fun p => iC s 52 p) (iO t)) ∨ (e = 1 ∧ (v < 0 ∨ 23 < v)))) := by
  refine ctL_of G (by decide) (Nat.le_of_ble_eq_true rfl) (by decide) rfl (fun k X E ET hRt hEx q => ?_)
  show WS k 0 [(0, .ref (A 0)), (1, .int (Int32.ofInt v)), (2, .ref (A 517))] [] _ 0 0
  have F : Fm [22, 23, 24, 34, 35, 38] [33, 26, 27, 28, 29, 30, 31, 32, 20, 48, 47, 49, 50, 51, 53, 54, 55, 56, 1460] s s := fm_rf _ _ s
  have hA := swA_rf A
  have b1 := bi_32 I
  have b2 := bi_12 I
  have b3 := bi_33 I
  have b4 := bi_38 I
  refine z_aload_n X (x := A 517) rfl (List.Mem.tail _ (List.Mem.tail _ (List.Mem.head _))) (z_const X rfl (z_aload_n X (x := A 0) rfl (List.Mem.head _) (z_load_n X (x := v) rfl (List.Mem.tail _ (List.Mem.head _)) (z_callV X 0 (rm := rmN 168) (As := [.int (Int32.ofInt v)]) (st := [.int (Int32.ofInt 0), .ref (A 517)]) rfl rfl (by decide) rfl (by rw [E.1, E.2.1, E.2.2.1]; exact cs_enough7 G I jAIR jCPL jCDJ jPMJ jCJJ (by omega) (by omega)) ⟨by rw [E.2.2.2]; exact (show (rmN 168).frames + 1 ≤ (rmN 342).frames by decide), by rw [E.2.2.2]; exact (show 8 + (mNL (miB 168) + 11) + (rmN 168).locals ≤ (rmN 342).locals by decide), by rw [E.2.2.2]; exact (show 0 + (rmN 168).cells ≤ (rmN 342).cells by decide), by rw [E.2.2.2]; exact (show 0 + (rmN 168).slots ≤ (rmN 342).slots by decide)⟩ (Nat.le_of_ble_eq_true rfl) (fun vv s5 hq => ?_) (fun ee s5 hq => ?_)))))
  rotate_left
  · obtain ⟨Is5, Fs5, (⟨e6, hv, hrs5, hps5⟩ | ⟨xx, hv, hps5⟩)⟩ := hq
    · cases hv
    · cases hv
      rcases (show xx = 0 by omega) with gx
      ·
        subst gx
        have Gs5 := fm_tq F Fs5 rfl rfl
        have ws5_32 : iI s5 32 = iI s 32 := fm_iq Fs5 rfl
        have ws5_12 : iI s5 12 = iI s 12 := fm_iq Fs5 rfl
        have ws5_33 : iI s5 33 = iI s 33 := fm_iq Fs5 rfl
        have b7 := bi_38 Is5
        refine (hEx 4 0).2 12 rfl _ _ _ _ _ (fun q1 => ?_)
        show WS k 12 [(0, .ref (A 0)), (1, .int (Int32.ofInt v)), (2, .ref (A 517))] [.ref q1] (Wd A dT s5) 1 6
        refine z_astore_n X (lv' := [(3, .ref q1), (0, .ref (A 0)), (1, .int (Int32.ofInt v)), (2, .ref (A 517))]) rfl (by decide) (fun _ h => h) (z_const X rfl ?_)
        exact w_iret X.1 q hRt rfl (ax_d X (show cdA 342 14 = some (.ireturn, 1, 0, 0, 0) from rfl)) (show 1 ≤ 1 by decide) (show 6 ≤ 6 by decide) ⟨A, _, hA, rfl, Is5, Gs5, 1, rfl, (by decide), Or.inr ⟨by decide, by omega⟩⟩
  obtain ⟨Is5, Fs5, (⟨e6, hv, hrs5, hps5⟩ | ⟨xx, hv, hps5⟩)⟩ := hq
  rotate_left
  · cases hv
  cases hv
  have Gs5 := fm_tq F Fs5 rfl rfl
  have ws5_32 : iI s5 32 = iI s 32 := fm_iq Fs5 rfl
  have ws5_12 : iI s5 12 = iI s 12 := fm_iq Fs5 rfl
  have ws5_33 : iI s5 33 = iI s 33 := fm_iq Fs5 rfl
  have b8 := bi_38 Is5
  show WS k 7 [(0, .ref (A 0)), (1, .int (Int32.ofInt v)), (2, .ref (A 517))] [.int (Int32.ofInt e6), .int (Int32.ofInt 0), .ref (A 517)] (Wd A dT s5) 1 6
  refine w_i2l X.1 (ax_d X (show cdA 342 7 = some (.i2l, 1, 0, 0, 0) from rfl)) (z_last X 517 rfl (c518_ok rfl) rfl (by first | (clear hps5; omega) | omega) (show 0 < 1 by first | (clear hps5; omega) | omega) (cbig_ok rfl) (wd_gen (fun s9 hs9 => ?_)))
  have Is9 : Bd s9 := eqB hs9 (bd_D Is5)
  have Fs9 : Fm [22, 23, 24, 34, 35, 38] [33, 26, 27, 28, 29, 30, 31, 32, 20, 48, 47, 49, 50, 51, 53, 54, 55, 56, 1460] s s9 := by rw [hs9]; exact fm_D Gs5 (show 460 + 1000 ∈ _ by decide)
  have ws9_32 : iI s9 32 = iI s5 32 := eqI hs9 rfl
  have ws9_12 : iI s9 12 = iI s5 12 := eqI hs9 rfl
  have ws9_33 : iI s9 33 = iI s5 33 := eqI hs9 rfl
  have ws9_38 : iI s9 38 = iI s5 38 := eqI hs9 rfl
  have oos9 : iO s9 = e6 := by rw [hs9]; exact iO_u (by first | (clear hps5; omega) | omega)
  refine z_goto X (t := 15) rfl rfl (z_const X rfl ?_)
  exact w_iret X.1 q hRt rfl (ax_d X (show cdA 342 16 = some (.ireturn, 1, 0, 0, 0) from rfl)) (show 1 ≤ 1 by decide) (show 6 ≤ 6 by decide) ⟨A, _, hA, rfl, Is9, Fs9, 0, rfl, (by decide), Or.inl ⟨by decide, by first | (clear hps5; omega) | omega, by rw [show iO s9 = e6 by first | (clear hps5; omega) | omega]; exact hps5.2⟩⟩
end M87kp
