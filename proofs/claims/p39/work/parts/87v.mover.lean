theorem oq_80f4368d {a0 a1 a2 a3 a4 a5 a6 : Int} (h0 : a0 < a1) (h1 : a0 = a2) (h2 : a1 = a3) (h3 : a3 = a4) (h4 : a4 = a5) (h5 : a5 = a6) : ((0 = 1 ∧ a6 ≤ a2) ∨ (0 = 0 ∧ a2 < a6)) := by omega
theorem oq_ae346a2d {a0 a1 a2 a3 a4 a5 a6 : Int} (h0 : a0 ≤ a1) (h1 : a1 = a2) (h2 : a0 = a3) (h3 : a3 = a4) (h4 : a4 = a5) (h5 : a5 = a6) : ((1 = 1 ∧ a6 ≤ a2) ∨ (1 = 0 ∧ a2 < a6)) := by omega
theorem oq_73d3719d {a0 : Int} (h0 : a0 ≤ 8) (h1 : 8 ≤ a0) : a0 = 8 := by omega
theorem oq_88f1d510 {a0 a1 a2 : Int} (h0 : ((a0 = 0 ∧ (a1 = (-2147483648) ∧ a2 = 2147483647)) ∨ a0 = 1)) : (a0 = 0 ∨ a0 = 1) := by omega
/-! The parting: pieces as bits -/
theorem gDd {s : PS} {a b i j : Nat} {v : Int64} : gD (uD s a j v) b i = if b = a ∧ i = j then v else gD s b i := by
  by_cases c : b = a
  · subst c
    by_cases e : i = j
    · subst e
      rw [if_pos ⟨rfl, rfl⟩]; exact gD_u
    · rw [if_neg (fun q => e q.2)]; exact gD_n e
  · rw [if_neg (fun q => c q.1)]
    exact sda_D c sda_rf i
/-- the cells of a piece -/
def pcS (f : Nat → Int) (p x : Int) : Prop := (0 ≤ x ∧ x ≤ 127) ∧ f x.toNat = p
abbrev pfC (s : PS) : Nat → Int := fun j => iC s 21 j
theorem pcs_cel {f : Nat → Int} {p : Int} : celT (pcS f p) := fun _ h => h.1
/-- the class's masks of the pieces are those of its cells -/
def PMJ (s : PS) : Prop := ∀ p d : Nat, p < 8 → d < 128 → (bJ (gD s (22 + d / 64) p) (d % 64) ↔ iC s 21 d = (p : Int))
theorem PMJ_fm {L M : List Nat} {s t : PS} (F : Fm L M s t) (h : 21 ∉ M ∧ 22 + 1000 ∉ M ∧ 23 + 1000 ∉ M) (r : PMJ s) : PMJ t := fun p d hp hd => by
  have e : gD t (22 + d / 64) p = gD s (22 + d / 64) p := by
    by_cases c : d < 64
    · rw [show d / 64 = 0 by omega]; exact fm_dd F h.2.1
    · rw [show d / 64 = 1 by omega]; exact fm_dd F h.2.2
  rw [e, fm_c F h.1]
  exact r p d hp hd
theorem pm_in {s : PS} (h : PMJ s) {p : Int} (hp : 0 ≤ p ∧ p ≤ 7) (x : Int) : inL (gD s 22 p.toNat) (gD s 23 p.toNat) x ↔ pcS (pfC s) p x := by
  have ep : ((p.toNat : Nat) : Int) = p := by omega
  by_cases r : 0 ≤ x ∧ x ≤ 127
  · have z := h p.toNat x.toNat (by omega) (by omega)
    rw [ep] at z
    rcases cel_c r.1 r.2 with ⟨i, hi, e⟩ | ⟨i, hi, e⟩
    · rw [show x.toNat / 64 = 0 by omega, show x.toNat % 64 = i by omega, Nat.add_zero] at z
      rw [e, inl_l hi, ← e, z]
      exact ⟨fun q => ⟨r, q⟩, fun q => q.2⟩
    · rw [show x.toNat / 64 = 1 by omega, show x.toNat % 64 = i by omega] at z
      rw [e, inl_h hi, ← e, z]
      exact ⟨fun q => ⟨r, q⟩, fun q => q.2⟩
  · exact ⟨fun z => absurd (inl_cel x z) r, fun z => absurd z.1 r⟩
theorem pm_eq {s : PS} (h : PMJ s) {p : Int} (hp : 0 ≤ p ∧ p ≤ 7) : inL (gD s 22 p.toNat) (gD s 23 p.toNat) = pcS (pfC s) p := funext (fun x => propext (pm_in h hp x))
theorem put_ok {s s1 s2 t : PS} {x y w : Int} {a : Nat} (h : PMJ s) (hx : 0 ≤ x ∧ x ≤ 127) (ha : a = 22 + x.toNat / 64) (hy : -1 ≤ y ∧ y ≤ 7) (hw : w = iC s 21 x.toNat) (h1 : (0 ≤ w ∧ s1 = uD s a w.toNat (gD s a w.toNat &&& (jshl 1 (x % 64) ^^^ lN 18446744073709551615))) ∨ (w < 0 ∧ s1 = s)) (h2 : (0 ≤ y ∧ s2 = uD s1 a y.toNat (gD s1 a y.toNat ||| jshl 1 (x % 64))) ∨ (y < 0 ∧ s2 = s1)) (h3 : t = uC s2 21 x.toNat (Int32.ofInt y)) : PMJ t := by
  intro p d hp hd
  have c1 : iC s1 21 = iC s 21 := by
    rcases h1 with ⟨_, e⟩ | ⟨_, e⟩
    · rw [e]; rfl
    · rw [e]
  have c2 : iC s2 21 = iC s 21 := by
    rcases h2 with ⟨_, e⟩ | ⟨_, e⟩
    · rw [← c1, e]; rfl
    · rw [← c1, e]
  have bx : bJ (jshl 1 (x % 64)) (d % 64) ↔ d % 64 = (x % 64).toNat := jb_1 (by omega) (by omega)
  have b1 : bJ (gD s1 (22 + d / 64) p) (d % 64) ↔ bJ (gD s (22 + d / 64) p) (d % 64) ∧ ¬ (22 + d / 64 = a ∧ (p : Int) = w ∧ d % 64 = (x % 64).toNat) := by
    rcases h1 with ⟨w0, e⟩ | ⟨w0, e⟩
    · rw [e, gDd]
      by_cases c : 22 + d / 64 = a ∧ p = w.toNat
      · rw [if_pos c, jb_a, jb_not (by omega), bx, c.1, c.2]
        constructor
        · intro q; exact ⟨q.1, fun z => q.2 z.2.2⟩
        · intro q; exact ⟨q.1, fun z => q.2 ⟨rfl, by omega, z⟩⟩
      · rw [if_neg c]
        exact ⟨fun q => ⟨q, fun z => c ⟨z.1, by omega⟩⟩, fun q => q.1⟩
    · rw [e]
      exact ⟨fun q => ⟨q, fun z => by omega⟩, fun q => q.1⟩
  have b2 : bJ (gD s2 (22 + d / 64) p) (d % 64) ↔ bJ (gD s1 (22 + d / 64) p) (d % 64) ∨ (22 + d / 64 = a ∧ (p : Int) = y ∧ d % 64 = (x % 64).toNat) := by
    rcases h2 with ⟨y0, e⟩ | ⟨y0, e⟩
    · rw [e, gDd]
      by_cases c : 22 + d / 64 = a ∧ p = y.toNat
      · rw [if_pos c, jb_or, bx, c.1, c.2]
        constructor
        · rintro (q | q)
          · exact Or.inl q
          · exact Or.inr ⟨rfl, by omega, q⟩
        · rintro (q | q)
          · exact Or.inl q
          · exact Or.inr q.2.2
      · rw [if_neg c]
        exact ⟨Or.inl, fun q => q.elim id (fun z => absurd ⟨z.1, by omega⟩ c)⟩
    · rw [e]
      exact ⟨Or.inl, fun q => q.elim id (fun z => by omega)⟩
  have gt : gD t (22 + d / 64) p = gD s2 (22 + d / 64) p := by rw [h3]; rfl
  have z := h p d hp hd
  rw [gt, b2, b1, z]
  by_cases c : d = x.toNat
  · have e1 : iC t 21 d = y := by rw [h3, c]; exact iC_u ⟨by omega, by omega⟩
    have e2 : iC s 21 d = w := by rw [c]; exact hw.symm
    rw [e1, e2]
    constructor
    · rintro (⟨q1, q2⟩ | q)
      · exact absurd ⟨by omega, q1.symm, by omega⟩ q2
      · exact q.2.1.symm
    · intro q; exact Or.inr ⟨by omega, q.symm, by omega⟩
  · have e1 : iC t 21 d = iC s 21 d := by rw [h3, iC_n c]; exact congrFun c2 d
    rw [e1]
    constructor
    · rintro (⟨q1, q2⟩ | q)
      · exact q1
      · exact absurd (show d = x.toNat by omega) c
    · intro q; exact Or.inl ⟨q, fun w' => c (by omega)⟩
/-- a cell moved -/
def upF (f : Nat → Int) (c : Nat) (p : Int) : Nat → Int := fun j => if j = c then p else f j
theorem upf_upd {s t : PS} {x y : Int} (h : UPD 21 x y s t) : pfC t = upF (pfC s) x.toNat y := funext (fun j => by
  show iC t 21 j = if j = x.toNat then y else iC s 21 j
  by_cases c : j = x.toNat
  · rw [if_pos c, c]; exact h.1
  · rw [if_neg c]; exact h.2 j c)
theorem upf_up {f : Nat → Int} {c : Nat} {p q : Int} : upF (upF f c p) c q = upF f c q := funext (fun j => by
  unfold upF
  by_cases e : j = c
  · rw [if_pos e, if_pos e]
  · rw [if_neg e, if_neg e, if_neg e])
theorem upf_id {f : Nat → Int} {c : Nat} {p : Int} (h : f c = p) : upF f c p = f := funext (fun j => by
  unfold upF
  by_cases e : j = c
  · rw [if_pos e, e, h]
  · rw [if_neg e])
/-- whether there is a cell -/
def HCE (S : Int → Prop) (v : Int) : Prop := (v = 1 ∧ ∃ x, S x) ∨ (v = 0 ∧ ¬ ∃ x, S x)
theorem hc_or {lo hi : Int64} : lo ||| hi ≠ 0 ↔ ∃ x, inL lo hi x := by
  rw [jb_ne]
  constructor
  · rintro ⟨i, hi', b⟩
    rcases jb_or.mp b with q | q
    · exact ⟨(i : Int), (inl_l hi').mpr q⟩
    · exact ⟨64 + (i : Int), (inl_h hi').mpr q⟩
  · rintro ⟨x, hx⟩
    have r := inl_cel x hx
    rcases cel_c r.1 r.2 with ⟨i, hi', e⟩ | ⟨i, hi', e⟩
    · rw [e] at hx; exact ⟨i, hi', jb_or.mpr (Or.inl ((inl_l hi').mp hx))⟩
    · rw [e] at hx; exact ⟨i, hi', jb_or.mpr (Or.inr ((inl_h hi').mp hx))⟩
/-! Bits of ints -/
def bIt (x : Int) (i : Nat) : Prop := (Int32.ofInt x).toBitVec.getLsbD i = true
theorem biq_0 {i : Nat} : ¬ bIt 0 i := by
  unfold bIt
  show ¬ ((0#32).getLsbD i = true)
  rw [BitVec.getLsbD_zero]
  decide
theorem bi_or {x y z : Int} {i : Nat} (h : Int32.ofInt z = Int32.ofInt x ||| Int32.ofInt y) : bIt z i ↔ bIt x i ∨ bIt y i := by
  unfold bIt
  rw [h, Int32.toBitVec_or, BitVec.getLsbD_or, Bool.or_eq_true]
theorem bi_and {x y z : Int} {i : Nat} (h : Int32.ofInt z = Int32.ofInt x &&& Int32.ofInt y) : bIt z i ↔ bIt x i ∧ bIt y i := by
  unfold bIt
  rw [h, Int32.toBitVec_and, BitVec.getLsbD_and, Bool.and_eq_true]
theorem bi_shl : ∀ n : Nat, n < 32 → (Int32.ofInt 1 <<< (Int32.ofInt (n : Int) &&& 31)).toBitVec = BitVec.twoPow 32 n := by decide +kernel
theorem biq_1 {y z : Int} {i : Nat} (h : Int32.ofInt z = Int32.ofInt 1 <<< (Int32.ofInt y &&& 31)) (hy : 0 ≤ y ∧ y < 32) (hi : i < 32) : bIt z i ↔ (i : Int) = y := by
  have e := bi_shl y.toNat (by omega)
  rw [show ((y.toNat : Nat) : Int) = y by omega] at e
  unfold bIt
  rw [h, e, BitVec.getLsbD_twoPow, decide_eq_true (show y.toNat < 32 by omega), Bool.true_and, decide_eq_true_eq]
  omega
theorem bi_not {x z : Int} {i : Nat} (h : Int32.ofInt z = Int32.ofInt x ^^^ Int32.ofInt (-1)) (hi : i < 32) : bIt z i ↔ ¬ bIt x i := by
  have e : (Int32.ofInt (-1)).toBitVec = BitVec.allOnes 32 := by decide +kernel
  unfold bIt
  rw [h, Int32.toBitVec_xor, BitVec.getLsbD_xor, e, BitVec.getLsbD_allOnes, decide_eq_true hi]
  cases (Int32.ofInt x).toBitVec.getLsbD i <;> decide
theorem bi_sh : ∀ n : Nat, n < 32 → ((Int32.ofInt (n : Int) &&& 31).toBitVec.smod 32).toNat = n := by decide +kernel
theorem bi_at {x y z : Int} {w : Int32} (hw : w = Int32.ofInt x >>> (Int32.ofInt y &&& 31)) (h : Int32.ofInt z = w &&& Int32.ofInt 1) (hr : rng z) (hy : 0 ≤ y ∧ y < 32) : z ≠ 0 ↔ bIt x y.toNat := by
  have e := bi_sh y.toNat (by omega)
  rw [show ((y.toNat : Nat) : Int) = y by omega] at e
  have b0 : w.toBitVec.getLsbD 0 = (Int32.ofInt x).toBitVec.getLsbD y.toNat := by
    rw [hw, Int32.toBitVec_shiftRight, BitVec.getLsbD_sshiftRight', e]
    simp only [Nat.add_zero]
    rw [if_pos (show y.toNat < 32 by omega)]
    simp
  have hz : ∀ i, (Int32.ofInt z).toBitVec.getLsbD i = (w.toBitVec.getLsbD i && (decide (i = 0))) := by
    intro i
    rw [h, Int32.toBitVec_and, BitVec.getLsbD_and]
    have o : (Int32.ofInt 1).toBitVec.getLsbD i = decide (i = 0) := by
      have e1 : (Int32.ofInt 1).toBitVec = 1#32 := by decide
      rw [e1, BitVec.getLsbD_one]
      simp
    rw [o]
  unfold bIt
  rw [← b0]
  constructor
  · intro q
    refine Classical.byContradiction (fun n => q ?_)
    have z0 : Int32.ofInt z = Int32.ofInt 0 := by
      apply Int32.toBitVec.inj
      apply BitVec.eq_of_getLsbD_eq
      intro i hi
      rw [hz i]
      by_cases c : i = 0
      · subst c
        cases g : w.toBitVec.getLsbD 0 with
        | false => rfl
        | true => exact absurd g n
      · rw [decide_eq_false c, Bool.and_false]
        show false = (0#32).getLsbD i
        rw [BitVec.getLsbD_zero]
    have := congrArg Int32.toInt z0
    rw [zi hr, zi rng_0] at this
    exact this
  · intro q n
    have z0 := hz 0
    rw [q, n] at z0
    have : (Int32.ofInt 0).toBitVec.getLsbD 0 = false := by decide
    rw [this] at z0
    simp at z0
/-- the pieces beside a cell -/
def PBQ (f : Nat → Int) (x b n : Int) : Prop := ∀ p : Nat, p < 8 → (bIt b p ↔ ∃ d : Int, 0 ≤ d ∧ d < n ∧ besT x d ≠ -1 ∧ f (besT x d).toNat = (p : Int))
theorem pbq_0 {f : Nat → Int} {x : Int} : PBQ f x 0 0 := fun p _ => ⟨fun q => absurd q biq_0, fun ⟨d, d0, d1, _⟩ => by omega⟩
theorem pbq_n {f : Nat → Int} {x b n c : Int} (h : PBQ f x b n) (n0 : 0 ≤ n) (hc : c = besT x n) (hz : c = -1 ∨ f c.toNat < 0) : PBQ f x b (n + 1) := fun p hp => by
  rw [h p hp]
  constructor
  · rintro ⟨d, d0, d1, d2⟩
    exact ⟨d, d0, by omega, d2⟩
  · rintro ⟨d, d0, d1, d2, d3⟩
    by_cases e : d = n
    · subst e
      rw [← hc] at d2 d3
      rcases hz with z | z
      · exact absurd z d2
      · omega
    · exact ⟨d, d0, by omega, d2, d3⟩
theorem pbq_y {f : Nat → Int} {x b n c g z b' : Int} (h : PBQ f x b n) (n0 : 0 ≤ n) (hc : c = besT x n) (hn : c ≠ -1) (hg : g = f c.toNat) (g0 : 0 ≤ g ∧ g ≤ 7) (hz : Int32.ofInt z = Int32.ofInt 1 <<< (Int32.ofInt g &&& 31)) (hb : Int32.ofInt b' = Int32.ofInt b ||| Int32.ofInt z) : PBQ f x b' (n + 1) := fun p hp => by
  rw [bi_or hb, biq_1 hz (by omega) (by omega), h p hp]
  constructor
  · rintro (⟨d, d0, d1, d2⟩ | q)
    · exact ⟨d, d0, by omega, d2⟩
    · exact ⟨n, n0, by omega, by rw [← hc]; exact hn, by rw [← hc, ← hg]; exact q.symm⟩
  · rintro ⟨d, d0, d1, d2, d3⟩
    by_cases e : d = n
    · subst e
      rw [← hc, ← hg] at d3
      exact Or.inr d3.symm
    · exact Or.inl ⟨d, d0, by omega, d2, d3⟩
theorem hce_1 {s : PS} {p : Int} (h : PMJ s) (hp : 0 ≤ p ∧ p ≤ 7) (hz : gD s 22 p.toNat ||| gD s 23 p.toNat ≠ 0) : HCE (pcS (pfC s) p) 1 := by
  obtain ⟨x, hx⟩ := hc_or.mp hz
  exact Or.inl ⟨rfl, x, (pm_in h hp x).mp hx⟩
theorem hce_0 {s : PS} {p : Int} (h : PMJ s) (hp : 0 ≤ p ∧ p ≤ 7) (hz : gD s 22 p.toNat ||| gD s 23 p.toNat = 0) : HCE (pcS (pfC s) p) 0 := Or.inr ⟨rfl, fun ⟨x, hx⟩ => absurd hz (hc_or.mpr ⟨x, (pm_in h hp x).mpr hx⟩)⟩
/-! The cost of a parting, and the best move -/
def presF (f : Nat → Int) (p : Nat) : Prop := ∃ x, pcS f (p : Int) x
def NON (pr : Nat → Prop) (c : Int) : Prop := ∀ p : Nat, (p : Int) < c → ¬ pr p
def GRT (pr : Nat → Prop) (pk : Nat → Int) (c g : Int) : Prop := (∀ p : Nat, (p : Int) < c → pr p → pk p ≤ g) ∧ ∃ p : Nat, (p : Int) < c ∧ pr p ∧ pk p = g
def LST (pr : Nat → Prop) (pk : Nat → Int) (c g : Int) : Prop := (∀ p : Nat, (p : Int) < c → pr p → g ≤ pk p) ∧ ∃ p : Nat, (p : Int) < c ∧ pr p ∧ pk p = g
def MML (pr : Nat → Prop) (pk : Nat → Int) (c a g l : Int) : Prop := (a = 0 ∧ NON pr c) ∨ (a ≠ 0 ∧ GRT pr pk c g ∧ LST pr pk c l)
theorem mml_0 {pr : Nat → Prop} {pk : Nat → Int} {g l : Int} : MML pr pk 0 0 g l := Or.inl ⟨rfl, fun p hp => by omega⟩
theorem mml_n {pr : Nat → Prop} {pk : Nat → Int} {c a g l : Int} (h : MML pr pk c a g l) (c0 : 0 ≤ c) (hn : ¬ pr c.toNat) : MML pr pk (c + 1) a g l := by
  have no : ∀ p : Nat, (p : Int) < c + 1 → pr p → (p : Int) < c := fun p hp hr => by
    by_cases e : p = c.toNat
    · rw [e] at hr; exact absurd hr hn
    · omega
  rcases h with ⟨h1, h2⟩ | ⟨h1, ⟨h2, p, p1, p2, p3⟩, h4, q, q1, q2, q3⟩
  · exact Or.inl ⟨h1, fun p hp hr => h2 p (no p hp hr) hr⟩
  · exact Or.inr ⟨h1, ⟨fun p hp hr => h2 p (no p hp hr) hr, p, by omega, p2, p3⟩, fun p hp hr => h4 p (no p hp hr) hr, q, by omega, q2, q3⟩
theorem mml_y {pr : Nat → Prop} {pk : Nat → Int} {c a g l v a' g' l' : Int} (h : MML pr pk c a g l) (c0 : 0 ≤ c) (hp : pr c.toNat) (hv : v = pk c.toNat) (ha : a' ≠ 0) (hn : (a = 0 ∧ g' = v ∧ l' = v) ∨ (a ≠ 0 ∧ (g ≤ g' ∧ v ≤ g' ∧ (g' = g ∨ g' = v)) ∧ (l' ≤ l ∧ l' ≤ v ∧ (l' = l ∨ l' = v)))) : MML pr pk (c + 1) a' g' l' := by
  have ec : ((c.toNat : Nat) : Int) < c + 1 := by omega
  rcases h with ⟨h1, h2⟩ | ⟨h1, ⟨h2, p, p1, p2, p3⟩, h4, q, q1, q2, q3⟩
  · rcases hn with ⟨_, e1, e2⟩ | ⟨z, _⟩
    · refine Or.inr ⟨ha, ⟨fun r hr hr2 => ?_, c.toNat, ec, hp, by rw [e1, hv]⟩, fun r hr hr2 => ?_, c.toNat, ec, hp, by rw [e2, hv]⟩
      · by_cases e : r = c.toNat
        · rw [e, e1, hv]; exact Int.le_refl _
        · exact absurd hr2 (h2 r (by omega))
      · by_cases e : r = c.toNat
        · rw [e, e2, hv]; exact Int.le_refl _
        · exact absurd hr2 (h2 r (by omega))
    · exact absurd h1 z
  · rcases hn with ⟨z, _⟩ | ⟨_, ⟨g1, g2, g3⟩, l1, l2, l3⟩
    · exact absurd z h1
    · refine Or.inr ⟨ha, ⟨fun r hr hr2 => ?_, ?_⟩, fun r hr hr2 => ?_, ?_⟩
      · by_cases e : r = c.toNat
        · rw [e, ← hv]; exact g2
        · have := h2 r (by omega) hr2; omega
      · rcases g3 with e | e
        · exact ⟨p, by omega, p2, by rw [p3, e]⟩
        · exact ⟨c.toNat, ec, hp, by rw [e, hv]⟩
      · by_cases e : r = c.toNat
        · rw [e, ← hv]; exact l2
        · have := h4 r (by omega) hr2; omega
      · rcases l3 with e | e
        · exact ⟨q, by omega, q2, by rw [q3, e]⟩
        · exact ⟨c.toNat, ec, hp, by rw [e, hv]⟩
/-- n, and ten times what the greatest is above the least -/
def CSP (n : Int) (pr : Nat → Prop) (pk : Nat → Int) (e : Int) : Prop := rng e ∧ ((NON pr 8 ∧ Int32.ofInt e = Int32.ofInt n) ∨ ∃ g l, GRT pr pk 8 g ∧ LST pr pk 8 l ∧ Int32.ofInt e = Int32.ofInt (n + 10 * (g - l)))
theorem csp_of {n : Int} {pr : Nat → Prop} {pk : Nat → Int} {a g l e : Int} (h : MML pr pk 8 a g l) (hr : rng e) (he : (a = 0 → Int32.ofInt e = Int32.ofInt n) ∧ (a ≠ 0 → Int32.ofInt e = Int32.ofInt (n + 10 * (g - l)))) : CSP n pr pk e := by
  refine ⟨hr, ?_⟩
  rcases h with ⟨h1, h2⟩ | ⟨h1, h2, h3⟩
  · exact Or.inl ⟨h2, he.1 h1⟩
  · exact Or.inr ⟨g, l, h2, h3, he.2 h1⟩
theorem csp_un {n : Int} {pr : Nat → Prop} {pk : Nat → Int} {e e' : Int} (h : CSP n pr pk e) (h' : CSP n pr pk e') : e = e' := by
  obtain ⟨r, h⟩ := h
  obtain ⟨r', h'⟩ := h'
  refine (zi_eq r r').mp ?_
  rcases h with ⟨a, b⟩ | ⟨g, l, ⟨g1, p, p1, p2, p3⟩, ⟨l1, q, q1, q2, q3⟩, b⟩
  · rcases h' with ⟨a', b'⟩ | ⟨g', l', ⟨_, p', p1', p2', _⟩, _, b'⟩
    · rw [b, b']
    · exact absurd p2' (a p' p1')
  · rcases h' with ⟨a', b'⟩ | ⟨g', l', ⟨g1', p', p1', p2', p3'⟩, ⟨l1', q', q1', q2', q3'⟩, b'⟩
    · exact absurd p2 (a' p p1)
    · have eg : g = g' := by
        have x1 := g1 p' p1' p2'
        have x2 := g1' p p1 p2
        omega
      have el : l = l' := by
        have x1 := l1 q' q1' q2'
        have x2 := l1' q q1 q2
        omega
      rw [b, b', eg, el]
theorem csp_c {n : Int} {pr pr' : Nat → Prop} {pk pk' : Nat → Int} {e : Int} (h : CSP n pr pk e) (hp : ∀ p, p < 8 → (pr p ↔ pr' p)) (hk : ∀ p, p < 8 → pr p → pk p = pk' p) : CSP n pr' pk' e := by
  obtain ⟨r, h⟩ := h
  refine ⟨r, ?_⟩
  rcases h with ⟨a, b⟩ | ⟨g, l, ⟨g1, p, p1, p2, p3⟩, ⟨l1, q, q1, q2, q3⟩, b⟩
  · exact Or.inl ⟨fun p hp' q => a p hp' ((hp p (by omega)).mpr q), b⟩
  · refine Or.inr ⟨g, l, ⟨fun r hr hr2 => ?_, p, p1, (hp p (by omega)).mp p2, by rw [← hk p (by omega) p2]; exact p3⟩, ⟨fun r hr hr2 => ?_, q, q1, (hp q (by omega)).mp q2, by rw [← hk q (by omega) q2]; exact q3⟩, b⟩
    · have z := (hp r (by omega)).mpr hr2
      rw [← hk r (by omega) z]; exact g1 r hr z
    · have z := (hp r (by omega)).mpr hr2
      rw [← hk r (by omega) z]; exact l1 r hr z
/-- steps between two cells that are not of one piece -/
noncomputable def crsH (f : Nat → Int) (g : Nat → Int) (n : Nat) : Int := sm (fun k => i01 (f (g k).toNat ≠ f (g (k + 1)).toNat ∨ f (g k).toNat = -1)) n
noncomputable def stpC (U : AirD) (f : Nat → Int) : Int := sm (fun x => uT U x * crsH f ((uW U).1 x) ((uW U).2 x - 1).toNat) (uN U)
theorem one_8 {a b : Int} (ha : -1 ≤ a ∧ a ≤ 7) : sm (fun p => i01 (a = (p : Int) ∧ b = (p : Int))) 8 = i01 (a = b ∧ a ≠ -1) := by
  by_cases c : a = b ∧ a ≠ -1
  · rw [i01_t c]
    have z := sm_up (f := fun _ => (0 : Int)) (g := fun p : Nat => i01 (a = (p : Int) ∧ b = (p : Int))) (i := a.toNat) (n := 8) (fun j hj => i01_f (fun q => hj (by omega))) (by omega)
    rw [z, sm_0 (f := fun _ => (0 : Int)) (fun _ _ => rfl)]
    rw [i01_t ⟨by omega, by omega⟩]
    decide
  · rw [i01_f c]
    exact sm_0 (fun p hp => i01_f (fun q => c ⟨by omega, by omega⟩))
theorem in_8 {f : Nat → Int} {g : Nat → Int} {z : Int} (hg : ∀ k : Nat, (k : Int) < z → 0 ≤ g k ∧ g k ≤ 127) (hf : ∀ j, j < 128 → -1 ≤ f j ∧ f j ≤ 7) : sm (fun p => inH (pcS f ((p : Nat) : Int)) g (z - 1).toNat) 8 + crsH f g (z - 1).toNat = ((z - 1).toNat : Int) := by
  have e1 : sm (fun p => inH (pcS f ((p : Nat) : Int)) g (z - 1).toNat) 8 = sm (fun k => sm (fun p => i01 (pcS f ((p : Nat) : Int) (g k) ∧ pcS f ((p : Nat) : Int) (g (k + 1)))) 8) (z - 1).toNat := sm_swap _ _
  unfold crsH
  rw [e1, ← sm_add]
  have e2 : sm (fun k => sm (fun p => i01 (pcS f ((p : Nat) : Int) (g k) ∧ pcS f ((p : Nat) : Int) (g (k + 1)))) 8 + i01 (f (g k).toNat ≠ f (g (k + 1)).toNat ∨ f (g k).toNat = -1)) (z - 1).toNat = sm (fun _ => 1) (z - 1).toNat := sm_eq (fun k hk => by
    have r1 := hg k (by omega)
    have r2 := hg (k + 1) (by omega)
    have f1 := hf (g k).toNat (by omega)
    have s1 : sm (fun p => i01 (pcS f ((p : Nat) : Int) (g k) ∧ pcS f ((p : Nat) : Int) (g (k + 1)))) 8 = sm (fun p => i01 (f (g k).toNat = ((p : Nat) : Int) ∧ f (g (k + 1)).toNat = ((p : Nat) : Int))) 8 := sm_eq (fun p _ => i01_c ⟨fun q => ⟨q.1.2, q.2.2⟩, fun q => ⟨⟨r1, q.1⟩, r2, q.2⟩⟩)
    show sm (fun p => i01 (pcS f ((p : Nat) : Int) (g k) ∧ pcS f ((p : Nat) : Int) (g (k + 1)))) 8 + i01 (f (g k).toNat ≠ f (g (k + 1)).toNat ∨ f (g k).toNat = -1) = 1
    rw [s1, one_8 f1]
    by_cases c : f (g k).toNat = f (g (k + 1)).toNat ∧ f (g k).toNat ≠ -1
    · rw [i01_t c, i01_f (fun q => q.elim (fun w => w c.1) (fun w => c.2 w))]; rfl
    · rw [i01_f c, i01_t (Classical.byContradiction (fun q => c ⟨Classical.byContradiction (fun w => q (Or.inl w)), fun w => q (Or.inr w)⟩))]; rfl)
  rw [e2]
  generalize (z - 1).toNat = n
  induction n with
  | zero => rfl
  | succ n ih =>
    show sm (fun _ => 1) n + 1 = _
    rw [ih]; rfl
theorem ia_0 {f : Nat → Int} {p : Nat} {w : WyS} {mo : Nat → Int} {n : Nat} (h : ¬ presF f p) : iaH (pcS f (p : Int)) w mo n = 0 := sm_0 (fun x _ => by
  show mo x * inH (pcS f (p : Int)) (w.1 x) (w.2 x - 1).toNat = 0
  have e : inH (pcS f (p : Int)) (w.1 x) (w.2 x - 1).toNat = 0 := sm_0 (fun k _ => i01_f (fun q => h ⟨_, q.1⟩))
  rw [e, Int.mul_zero])
theorem st_id {U : AirD} {f : Nat → Int} (hw : ∀ x, x < uN U → WOK ((uW U).1 x) ((uW U).2 x)) (hf : ∀ j, j < 128 → -1 ≤ f j ∧ f j ≤ 7) : sm (fun x => uT U x * ((uW U).2 x - 1)) (uN U) - sm (fun p => iaH (pcS f ((p : Nat) : Int)) (uW U) (uT U) (uN U)) 8 = stpC U f := by
  have e1 : sm (fun p => iaH (pcS f ((p : Nat) : Int)) (uW U) (uT U) (uN U)) 8 = sm (fun x => sm (fun p => uT U x * inH (pcS f ((p : Nat) : Int)) ((uW U).1 x) ((uW U).2 x - 1).toNat) 8) (uN U) := sm_swap _ _
  have e2 : sm (fun x => uT U x * ((uW U).2 x - 1)) (uN U) = sm (fun x => sm (fun p => uT U x * inH (pcS f ((p : Nat) : Int)) ((uW U).1 x) ((uW U).2 x - 1).toNat) 8 + uT U x * crsH f ((uW U).1 x) ((uW U).2 x - 1).toNat) (uN U) := sm_eq (fun x hx => by
    have w := hw x hx
    have z := in_8 (f := f) w.2.1 hf
    show uT U x * ((uW U).2 x - 1) = sm (fun p => uT U x * inH (pcS f ((p : Nat) : Int)) ((uW U).1 x) ((uW U).2 x - 1).toNat) 8 + uT U x * crsH f ((uW U).1 x) ((uW U).2 x - 1).toNat
    rw [sm_mul, ← Int.mul_add, z]
    have := w.1.1
    congr 1
    omega)
  unfold stpC
  rw [e1, e2, sm_add]
  omega
/-- COST -/
def CST (U : AirD) (f : Nat → Int) (e : Int) : Prop := CSP (stpC U f) (presF f) (fun p => pkH U (pcS f ((p : Nat) : Int))) e
theorem cst_un {U : AirD} {f : Nat → Int} {e e' : Int} (h : CST U f e) (h' : CST U f e') : e = e' := csp_un h h'
/-- what the class has measured: of the parting f -/
def MEQ (U : AirD) (f : Nat → Int) (n : Int) (s : PS) : Prop := ∀ p : Nat, (p : Int) < n → (iC s 35 p ≠ 0 ↔ presF f p) ∧ (presF f p → iC s 36 p = pkH U (pcS f (p : Int)) ∧ iC s 37 p = iaH (pcS f (p : Int)) (uW U) (uT U) (uN U))
theorem meq_sam {U : AirD} {f : Nat → Int} {n : Int} {s t : PS} (h : MEQ U f n s) (h1 : SAM 35 s t) (h2 : SAM 36 s t) (h3 : SAM 37 s t) : MEQ U f n t := fun p hp => by
  rw [h1, h2, h3]; exact h p hp
theorem meq_up {U : AirD} {f : Nat → Int} {c e : Int} {s t u : PS} (h : MEQ U f c s) (c0 : 0 ≤ c) (h1 : UPD 35 c e s t) (h2 : SAM 36 s t) (h3 : SAM 37 s t) (he : HCE (pcS f c) e) (hu : (e = 0 ∧ u = t) ∨ (e ≠ 0 ∧ SAM 35 t u ∧ UPD 36 c (pkH U (pcS f c)) t u ∧ UPD 37 c (iaH (pcS f c) (uW U) (uT U) (uN U)) t u)) : MEQ U f (c + 1) u := by
  have ec : ((c.toNat : Nat) : Int) = c := by omega
  intro p hp
  by_cases z : p = c.toNat
  · rw [z, ec]
    unfold presF
    rw [ec]
    rcases hu with ⟨e0, rfl⟩ | ⟨e0, u1, u2, u3⟩
    · rw [h1.1]
      rcases he with ⟨a, b⟩ | ⟨a, b⟩
      · omega
      · exact ⟨⟨fun q => absurd a q, fun q => absurd q b⟩, fun q => absurd q b⟩
    · rw [u1, h1.1, u2.1, u3.1]
      rcases he with ⟨a, b⟩ | ⟨a, b⟩
      · exact ⟨⟨fun _ => b, fun _ => e0⟩, fun _ => ⟨rfl, rfl⟩⟩
      · exact absurd a e0
  · have o := h p (by omega)
    rcases hu with ⟨e0, rfl⟩ | ⟨e0, u1, u2, u3⟩
    · rw [h1.2 p z, h2, h3]; exact o
    · rw [u1, h1.2 p z, u2.2 p z, h2, u3.2 p z, h3]; exact o
/-- a cell moved from its piece to p: how the measures change -/
theorem meq_mv {U : AirD} {f g : Nat → Int} {o p : Int} {s t : PS} (h : MEQ U f 8 s) (ho : 0 ≤ o ∧ o ≤ 7) (hp : 0 ≤ p ∧ p ≤ 7) (hg : ∀ r : Int, r ≠ o → r ≠ p → pcS g r = pcS f r) (h1 : SAM 35 s t) (h2 : ∀ r : Nat, (r : Int) ≠ o → (r : Int) ≠ p → iC t 36 r = iC s 36 r ∧ iC t 37 r = iC s 37 r) (po : presF f o.toNat ∧ presF g o.toNat) (pp : presF f p.toNat ∧ presF g p.toNat) (vo : iC t 36 o.toNat = pkH U (pcS g o) ∧ iC t 37 o.toNat = iaH (pcS g o) (uW U) (uT U) (uN U)) (vp : iC t 36 p.toNat = pkH U (pcS g p) ∧ iC t 37 p.toNat = iaH (pcS g p) (uW U) (uT U) (uN U)) : MEQ U g 8 t := by
  intro r hr
  have q := h r hr
  rw [h1]
  by_cases e1 : (r : Int) = o
  · have e2 : r = o.toNat := by omega
    rw [e1, e2]
    rw [e2] at q
    exact ⟨⟨fun _ => po.2, fun _ => q.1.mpr po.1⟩, fun _ => vo⟩
  · by_cases e3 : (r : Int) = p
    · have e2 : r = p.toNat := by omega
      rw [e3, e2]
      rw [e2] at q
      exact ⟨⟨fun _ => pp.2, fun _ => q.1.mpr pp.1⟩, fun _ => vp⟩
    · have z := h2 r e1 e3
      rw [z.1, z.2, hg _ e1 e3]
      unfold presF at q ⊢
      rw [hg _ e1 e3]
      exact q
/-- the class's price -/
def prN (n : Int) (s : PS) (c : Nat) : Int := n - sm (fun p => if iC s 35 p ≠ 0 then iC s 37 p else 0) c
theorem pn_cst {U : AirD} {f : Nat → Int} {e : Int} {s : PS} (hw : ∀ x, x < uN U → WOK ((uW U).1 x) ((uW U).2 x)) (hf : ∀ j, j < 128 → -1 ≤ f j ∧ f j ≤ 7) (h : MEQ U f 8 s) (hc : CSP (prN (sm (fun x => uT U x * ((uW U).2 x - 1)) (uN U)) s 8) (fun p => iC s 35 p ≠ 0) (fun p => iC s 36 p) e) : CST U f e := by
  have e1 : prN (sm (fun x => uT U x * ((uW U).2 x - 1)) (uN U)) s 8 = stpC U f := by
    rw [← st_id hw hf]
    unfold prN
    congr 1
    refine sm_eq (fun p hp => ?_)
    have q := h p (by omega)
    show (if iC s 35 p ≠ 0 then iC s 37 p else 0) = iaH (pcS f ((p : Nat) : Int)) (uW U) (uT U) (uN U)
    by_cases c : presF f p
    · rw [if_pos (q.1.mpr c), (q.2 c).2]
    · rw [if_neg (fun z => c (q.1.mp z)), ia_0 c]
  rw [e1] at hc
  exact csp_c hc (fun p hp => (h p (by omega)).1) (fun p hp q => ((h p (by omega)).2 ((h p (by omega)).1.mp q)).1)
theorem prn_n {n m : Int} {s : PS} {c : Int} (h : Int32.ofInt m = Int32.ofInt (prN n s c.toNat)) (c0 : 0 ≤ c) (hz : iC s 35 c.toNat = 0) : Int32.ofInt m = Int32.ofInt (prN n s (c + 1).toNat) := by
  rw [h, show (c + 1).toNat = c.toNat + 1 by omega]
  have e : prN n s (c.toNat + 1) = prN n s c.toNat := by
    show n - (sm (fun p => if iC s 35 p ≠ 0 then iC s 37 p else 0) c.toNat + (if iC s 35 c.toNat ≠ 0 then iC s 37 c.toNat else 0)) = n - sm (fun p => if iC s 35 p ≠ 0 then iC s 37 p else 0) c.toNat
    rw [if_neg (fun q => q hz)]; omega
  rw [e]
theorem prn_y {n m k v : Int} {s : PS} {c : Int} (h : Int32.ofInt m = Int32.ofInt (prN n s c.toNat)) (c0 : 0 ≤ c) (hz : iC s 35 c.toNat ≠ 0) (hk : k = iC s 37 c.toNat) (hv : Int32.ofInt v = Int32.ofInt (m - k)) : Int32.ofInt v = Int32.ofInt (prN n s (c + 1).toNat) := by
  rw [hv, Int32.ofInt_sub, h, ← Int32.ofInt_sub, show (c + 1).toNat = c.toNat + 1 by omega]
  have e : prN n s (c.toNat + 1) = prN n s c.toNat - k := by
    show n - (sm (fun p => if iC s 35 p ≠ 0 then iC s 37 p else 0) c.toNat + (if iC s 35 c.toNat ≠ 0 then iC s 37 c.toNat else 0)) = n - sm (fun p => if iC s 35 p ≠ 0 then iC s 37 p else 0) c.toNat - k
    rw [if_pos hz, hk]; omega
  rw [e]
/-- n + 10 (g - l), step by step -/
theorem ten_of {n m g l a b e : Int} (h : Int32.ofInt m = Int32.ofInt n) (h1 : Int32.ofInt a = Int32.ofInt (g - l)) (h2 : Int32.ofInt b = Int32.ofInt (10 * a)) (h3 : Int32.ofInt e = Int32.ofInt (m + b)) : Int32.ofInt e = Int32.ofInt (n + 10 * (g - l)) := by
  rw [h3, Int32.ofInt_add, h, h2, Int32.ofInt_mul, h1, ← Int32.ofInt_mul, ← Int32.ofInt_add]
/-! Moves -/
/-- p is the piece of a cell beside c, another one -/
def cndF (f : Nat → Int) (c : Nat) (p : Int) : Prop := f c ≠ -1 ∧ p ≠ f c ∧ ∃ d : Int, 0 ≤ d ∧ d ≤ 5 ∧ besT (c : Int) d ≠ -1 ∧ f (besT (c : Int) d).toNat = p
/-- both stay whole, the old one keeps a cell, neither is ever full -/
def goodF (U : AirD) (f lim : Nat → Int) (c : Nat) (p : Int) : Prop := presF (upF f c p) (f c).toNat ∧ HngT (pcS (upF f c p) (f c)) ∧ HngT (pcS (upF f c p) p) ∧ pkH U (pcS (upF f c p) (f c)) ≤ lim (f c).toNat ∧ pkH U (pcS (upF f c p) p) ≤ lim p.toNat
/-- the best of the first i tries (c * 8 + p): which one (-1: none), its cost -/
def BSR (U : AirD) (f lim : Nat → Int) : Nat → Int → Int → Prop
  | 0, k, v => k = -1 ∧ CST U f v
  | i + 1, k, v => ∃ k0 v0, BSR U f lim i k0 v0 ∧ ((cndF f (i / 8) ((i % 8 : Nat) : Int) ∧ goodF U f lim (i / 8) ((i % 8 : Nat) : Int) ∧ CST U (upF f (i / 8) ((i % 8 : Nat) : Int)) v ∧ v < v0 ∧ k = (i : Int)) ∨ ((∀ w, cndF f (i / 8) ((i % 8 : Nat) : Int) → goodF U f lim (i / 8) ((i % 8 : Nat) : Int) → CST U (upF f (i / 8) ((i % 8 : Nat) : Int)) w → ¬ w < v0) ∧ k = k0 ∧ v = v0))
theorem bsr_un {U : AirD} {f lim : Nat → Int} : ∀ {i : Nat} {k v k' v' : Int}, BSR U f lim i k v → BSR U f lim i k' v' → k = k' ∧ v = v'
  | 0, k, v, k', v', h, h' => ⟨h.1.trans h'.1.symm, cst_un h.2 h'.2⟩
  | i + 1, k, v, k', v', h, h' => by
    obtain ⟨k0, v0, a, b⟩ := h
    obtain ⟨k1, v1, a', b'⟩ := h'
    obtain ⟨e1, e2⟩ := bsr_un a a'
    subst e1 e2
    rcases b with ⟨c1, c2, c3, c4, c5⟩ | ⟨c1, c2, c3⟩
    · rcases b' with ⟨d1, d2, d3, d4, d5⟩ | ⟨d1, d2, d3⟩
      · exact ⟨c5.trans d5.symm, cst_un c3 d3⟩
      · exact absurd c4 (d1 _ c1 c2 c3)
    · rcases b' with ⟨d1, d2, d3, d4, d5⟩ | ⟨d1, d2, d3⟩
      · exact absurd d4 (c1 _ d1 d2 d3)
      · exact ⟨c2.trans d2.symm, c3.trans d3.symm⟩
theorem bsr_le {U : AirD} {f lim : Nat → Int} : ∀ {i : Nat} {k v : Int}, BSR U f lim i k v → (∃ v0, CST U f v0 ∧ v ≤ v0) ∧ -1 ≤ k ∧ k < (i : Int)
  | 0, k, v, h => ⟨⟨v, h.2, Int.le_refl _⟩, by have := h.1; omega, by have := h.1; omega⟩
  | i + 1, k, v, h => by
    obtain ⟨k0, v0, a, b⟩ := h
    obtain ⟨⟨w, w1, w2⟩, r1, r2⟩ := bsr_le a
    rcases b with ⟨c1, c2, c3, c4, c5⟩ | ⟨c1, c2, c3⟩
    · exact ⟨⟨w, w1, by omega⟩, by omega, by omega⟩
    · exact ⟨⟨w, w1, by omega⟩, by omega, by omega⟩
theorem bsr_n {U : AirD} {f lim : Nat → Int} {i : Nat} {k v : Int} (h : BSR U f lim i k v) (hn : ∀ w, cndF f (i / 8) ((i % 8 : Nat) : Int) → goodF U f lim (i / 8) ((i % 8 : Nat) : Int) → CST U (upF f (i / 8) ((i % 8 : Nat) : Int)) w → ¬ w < v) : BSR U f lim (i + 1) k v := ⟨k, v, h, Or.inr ⟨hn, rfl, rfl⟩⟩
theorem bsr_y {U : AirD} {f lim : Nat → Int} {i : Nat} {k v w : Int} (h : BSR U f lim i k v) (h1 : cndF f (i / 8) ((i % 8 : Nat) : Int)) (h2 : goodF U f lim (i / 8) ((i % 8 : Nat) : Int)) (h3 : CST U (upF f (i / 8) ((i % 8 : Nat) : Int)) w) (h4 : w < v) : BSR U f lim (i + 1) (i : Int) w := ⟨k, v, h, Or.inl ⟨h1, h2, h3, h4, rfl⟩⟩
theorem bsr_8 {U : AirD} {f lim : Nat → Int} {c : Nat} {k v : Int} (h : BSR U f lim (8 * c) k v) (hn : ∀ p : Nat, p < 8 → ∀ w, cndF f c (p : Int) → goodF U f lim c (p : Int) → CST U (upF f c (p : Int)) w → ¬ w < v) : ∀ p : Nat, p ≤ 8 → BSR U f lim (8 * c + p) k v
  | 0, _ => h
  | p + 1, hp => by
    have a := bsr_8 h hn p (by omega)
    have e1 : (8 * c + p) / 8 = c := by omega
    have e2 : (8 * c + p) % 8 = p := by omega
    refine bsr_n (i := 8 * c + p) a (fun w => ?_)
    rw [e1, e2]
    exact hn p (by omega) w
theorem bsr_up {U : AirD} {f lim : Nat → Int} {c p : Nat} {k v w k' v' : Int} (h : BSR U f lim (8 * c + p) k v) (hp : p < 8) (hc : cndF f c (p : Int)) (hg : goodF U f lim c (p : Int)) (hw : CST U (upF f c (p : Int)) w) (hu : (w < v ∧ k' = ((8 * c + p : Nat) : Int) ∧ v' = w) ∨ (v ≤ w ∧ k' = k ∧ v' = v)) : BSR U f lim (8 * c + p + 1) k' v' := by
  have e1 : (8 * c + p) / 8 = c := by omega
  have e2 : (8 * c + p) % 8 = p := by omega
  rcases hu with ⟨a, b, d⟩ | ⟨a, b, d⟩
  · rw [b, d]
    exact bsr_y (i := 8 * c + p) h (by rw [e1, e2]; exact hc) (by rw [e1, e2]; exact hg) (by rw [e1, e2]; exact hw) a
  · rw [b, d]
    refine bsr_n (i := 8 * c + p) h (fun w' _ _ hw' => ?_)
    rw [e1, e2] at hw'
    have := cst_un hw hw'
    omega
theorem bsr_no {U : AirD} {f lim : Nat → Int} {c p : Nat} {k v : Int} (h : BSR U f lim (8 * c + p) k v) (hp : p < 8) (hn : ¬ (cndF f c (p : Int) ∧ goodF U f lim c (p : Int))) : BSR U f lim (8 * c + p + 1) k v := by
  have e1 : (8 * c + p) / 8 = c := by omega
  have e2 : (8 * c + p) % 8 = p := by omega
  refine bsr_n (i := 8 * c + p) h (fun w h1 h2 _ => ?_)
  rw [e1, e2] at h1 h2
  exact absurd ⟨h1, h2⟩ hn
/-- sets when a cell is moved -/
theorem pcs_up {f : Nat → Int} {c : Nat} {p : Int} (hc : c < 128) (r x : Int) : pcS (upF f c p) r x ↔ (x = (c : Int) ∧ r = p) ∨ (x ≠ (c : Int) ∧ pcS f r x) := by
  unfold pcS upF
  by_cases e : x = (c : Int)
  · rw [if_pos (show x.toNat = c by omega)]
    constructor
    · intro q; exact Or.inl ⟨e, q.2.symm⟩
    · rintro (q | q)
      · exact ⟨by omega, q.2.symm⟩
      · exact absurd e q.1
  · by_cases n : 0 ≤ x
    · rw [if_neg (show x.toNat ≠ c by omega)]
      exact ⟨fun q => Or.inr ⟨e, q⟩, fun q => q.elim (fun z => absurd z.1 e) (fun z => z.2)⟩
    · constructor
      · intro q; exact absurd q.1.1 n
      · rintro (q | q)
        · exact absurd q.1 e
        · exact absurd q.2.1.1 n
/-- another piece: as it was -/
theorem pcs_o {f : Nat → Int} {c : Nat} {p r : Int} (hc : c < 128) (h1 : r ≠ f c) (h2 : r ≠ p) : pcS (upF f c p) r = pcS f r := funext (fun x => propext (by
  rw [pcs_up hc r x]
  constructor
  · rintro (q | q)
    · exact absurd q.2 h2
    · exact q.2
  · intro q
    refine Or.inr ⟨fun e => h1 ?_, q⟩
    have := q.2
    rw [show x.toNat = c by omega] at this
    exact this.symm))
/-- the old one: without the cell, wherever it goes -/
theorem pcs_a {f : Nat → Int} {c : Nat} {p : Int} (hc : c < 128) (h : p ≠ f c) : pcS (upF f c p) (f c) = fun x => pcS f (f c) x ∧ x ≠ (c : Int) := funext (fun x => propext (by
  rw [pcs_up hc (f c) x]
  constructor
  · rintro (q | q)
    · exact absurd q.2.symm h
    · exact ⟨q.2, q.1⟩
  · intro q; exact Or.inr ⟨q.2, q.1⟩))
/-- the new one: with it -/
theorem hng_add {S : Int → Prop} {c n : Int} (hS : celT S) (h : HngT S) (hc : 0 ≤ c ∧ c ≤ 127) (hn : S n) (ha : adjT c n) : HngT (fun x => S x ∨ x = c) := by
  have hS2 : celT (fun x => S x ∨ x = c) := fun x hx => hx.elim (hS x) (fun e => by rw [e]; exact hc)
  have up : ∀ a b, RchT S a b → RchT (fun x => S x ∨ x = c) a b := fun a b hab P h0 h1 => hab P h0 (fun x y hx hxy hy => h1 x y hx hxy (Or.inl hy))
  refine hng_of hS2 (f := n) (Or.inl hn) (fun x hx => ?_)
  rcases hx with hx | hx
  · exact up n x (h n x hn hx)
  · rw [hx]
    exact rch_up rch_0 (adj_sym ha hc.1 hc.2) (Or.inr rfl)
theorem pcs_n {f : Nat → Int} {c : Nat} {p : Int} (hc : c < 128) (h : p ≠ f c) : pcS (upF f c p) p = fun x => pcS f p x ∨ x = (c : Int) := funext (fun x => propext (by
  rw [pcs_up hc p x]
  constructor
  · rintro (q | q)
    · exact Or.inr q.1
    · exact Or.inl q.2
  · rintro (q | q)
    · refine Or.inr ⟨fun e => h ?_, q⟩
      have := q.2
      rw [show x.toNat = c by omega] at this
      exact this.symm
    · exact Or.inl ⟨q, rfl⟩))
/-- a cell that no stream comes to -/
def noV (U : AirD) (c : Int) : Prop := ∀ x, x < uN U → ∀ k : Nat, (k : Int) < (uW U).2 x → (uW U).1 x k ≠ c
theorem crs_no {U : AirD} {f : Nat → Int} {c : Nat} {p : Int} (hv : noV U (c : Int)) (hw : ∀ x, x < uN U → WOK ((uW U).1 x) ((uW U).2 x)) : stpC U (upF f c p) = stpC U f := sm_eq (fun x hx => by
  show uT U x * crsH (upF f c p) ((uW U).1 x) ((uW U).2 x - 1).toNat = uT U x * crsH f ((uW U).1 x) ((uW U).2 x - 1).toNat
  congr 1
  refine sm_eq (fun k hk => ?_)
  have w := hw x hx
  have e : ∀ j : Nat, (j : Int) < (uW U).2 x → upF f c p ((uW U).1 x j).toNat = f ((uW U).1 x j).toNat := fun j hj => by
    have r := w.2.1 j hj
    have n := hv x hx j hj
    unfold upF
    rw [if_neg (by omega)]
  have e1 := e k (by omega)
  have e2 := e (k + 1) (by omega)
  simp only [e1, e2])
/-- what is heard of two sets that are the same where streams come -/
theorem hrd_e {w : WyS} {n : Nat} {S S' : Int → Prop} {mo : Nat → Int} (e : ∀ x, x < n → ∀ k : Nat, (k : Int) < w.2 x → (S (w.1 x k) ↔ S' (w.1 x k))) : waH S w mo n = waH S' w mo n ∧ crH S w mo n = crH S' w mo n ∧ oaH S w mo n = oaH S' w mo n ∧ caH S w mo n = caH S' w mo n := by
  refine ⟨sm_eq (fun x hx => ?_), sm_eq (fun a ha => sm_eq (fun b hb => ?_)), sm_eq (fun x hx => ?_), sm_eq (fun x hx => ?_)⟩
  · show i01 (viH S (w.1 x) (w.2 x)) * mo x = i01 (viH S' (w.1 x) (w.2 x)) * mo x
    rw [i01_c (show viH S (w.1 x) (w.2 x) ↔ viH S' (w.1 x) (w.2 x) from ⟨fun ⟨k, k1, k2⟩ => ⟨k, k1, (e x hx k k1).mp k2⟩, fun ⟨k, k1, k2⟩ => ⟨k, k1, (e x hx k k1).mpr k2⟩⟩)]
  · show (if a < b then mtW S (w.1 a) (w.1 b) (w.2 a) (w.2 b) * min (mo a) (mo b) else 0) = if a < b then mtW S' (w.1 a) (w.1 b) (w.2 a) (w.2 b) * min (mo a) (mo b) else 0
    have z : mtW S (w.1 a) (w.1 b) (w.2 a) (w.2 b) = mtW S' (w.1 a) (w.1 b) (w.2 a) (w.2 b) := sm_eq (fun k hk => i01_c (by rw [e a ha k (by omega)]))
    rw [z]
  · show mo x * ovH S (w.1 x) (w.2 x - 1).toNat = mo x * ovH S' (w.1 x) (w.2 x - 1).toNat
    congr 1
    exact sm_eq (fun k hk => i01_c (by rw [e x hx k (by omega), e x hx (k + 1) (by omega)]))
  · show mo x * clH S (w.1 x) (w.2 x - 1).toNat = mo x * clH S' (w.1 x) (w.2 x - 1).toNat
    congr 1
    exact sm_eq (fun k hk => i01_c (by rw [e x hx k (by omega), e x hx (k + 1) (by omega)]))
theorem hrd_no {U : AirD} {S S' : Int → Prop} {c : Int} {mo : Nat → Int} (hv : noV U c) (hs : ∀ x, x ≠ c → (S x ↔ S' x)) : waH S (uW U) mo (uN U) = waH S' (uW U) mo (uN U) ∧ crH S (uW U) mo (uN U) = crH S' (uW U) mo (uN U) ∧ oaH S (uW U) mo (uN U) = oaH S' (uW U) mo (uN U) ∧ caH S (uW U) mo (uN U) = caH S' (uW U) mo (uN U) := hrd_e (fun x hx k hk => hs _ (hv x hx k hk))
/-- the load does not count cells -/
def noC (L : LdF) : Prop := ∀ nm nm' : Nat → Int32, (∀ j, j ≠ 4 → j ≠ 5 → nm j = nm' j) → L nm = L nm'
theorem pk_no {U : AirD} {S S' : Int → Prop} {c : Int} (hv : noV U c) (hc : noC (uL U)) (hs : ∀ x, x ≠ c → (S x ↔ S' x)) : pkH U S = pkH U S' := by
  have e : lqH U S = lqH U S' := funext (fun q => by
    unfold lqH ldH
    have h := hrd_no (mo := moW U q (-1)) hv hs
    rw [hc _ (nmH S' (uW U) (moW U q (-1)) (uN U) 1) (fun j j4 j5 => by
      unfold nmH
      rw [h.1, h.2.1, h.2.2.1, h.2.2.2, if_neg j4, if_neg j4, if_neg j5, if_neg j5])])
  unfold pkH
  rw [e]
theorem cst_no {U : AirD} {f : Nat → Int} {c : Nat} {p : Int} {v w : Int} (hv : noV U (c : Int)) (hl : noC (uL U)) (hw : ∀ x, x < uN U → WOK ((uW U).1 x) ((uW U).2 x)) (hc : c < 128) (hp : 0 ≤ p ∧ p ≤ 7) (ho : presF (upF f c p) (f c).toNat) (hf : 0 ≤ f c ∧ f c ≤ 7) (hn : p ≠ f c) (hb : presF f p.toNat) (h : CST U f v) (h' : CST U (upF f c p) w) : w = v := by
  refine csp_un h' ?_
  rw [crs_no hv hw]
  have ef : (((f c).toNat : Nat) : Int) = f c := by omega
  have ep : ((p.toNat : Nat) : Int) = p := by omega
  refine csp_c h (fun r hr => ?_) (fun r hr _ => ?_)
  · by_cases e1 : (r : Int) = f c
    · have e2 : r = (f c).toNat := by omega
      rw [e2]
      exact ⟨fun _ => ho, fun _ => ⟨(c : Int), by rw [ef]; exact ⟨by omega, by rw [show ((c : Int)).toNat = c by omega]⟩⟩⟩
    · by_cases e3 : (r : Int) = p
      · have e2 : r = p.toNat := by omega
        rw [e2]
        refine ⟨fun _ => ⟨(c : Int), ?_⟩, fun _ => hb⟩
        rw [ep, pcs_n hc hn]; exact Or.inr rfl
      · unfold presF
        rw [pcs_o hc e1 e3]
  · refine pk_no (c := (c : Int)) hv hl (fun x hx => ?_)
    rw [pcs_up hc]
    exact ⟨fun q => Or.inr ⟨hx, q⟩, fun q => q.elim (fun z => absurd z.1 hx) (fun z => z.2)⟩
/-- a cell that is not visited, stream by stream -/
def NVQ (U : AirD) (y : Int) (c : Int) : Prop := ∀ x : Nat, (x : Int) < c → ∀ k : Nat, (k : Int) < (uW U).2 x → (uW U).1 x k ≠ y
theorem nvq_up {U : AirD} {s : PS} {y c : Int} (h : NVQ U y c) (a : AIR s) (d : CDJ U s) (y0 : 0 ≤ y ∧ y ≤ 127) (c0 : 0 ≤ c ∧ c < iI s 9) (hb : ¬ bJ (gD s 3 (c * 2 + y / 64).toNat) (y % 64).toNat) : NVQ U y (c + 1) := by
  intro x hx k hk
  by_cases e : x = c.toNat
  · intro q
    have q1 : 2 * x + y.toNat / 64 = (c * 2 + y / 64).toNat := by omega
    have q2 : y.toNat % 64 = (y % 64).toNat := by omega
    have q3 : y = ((y.toNat : Nat) : Int) := by omega
    have m := (a.2 x (by omega)).2.1 y.toNat (by omega)
    rw [q1, q2] at m
    obtain ⟨e1, e2⟩ := d.2.1 x (by have := d.1.1; omega)
    rw [← e1] at hk
    refine hb (m.mpr ⟨k, hk, ?_⟩)
    have z := e2 k hk
    replace z : iC s 1 (24 * x + k) = (uW U).1 x k := z
    rw [z, q]; exact q3
  · exact h x (by omega) k hk
theorem nvq_end {U : AirD} {y c : Int} (h : NVQ U y c) (hc : c = (uN U : Int)) : noV U y := fun x hx k hk => h x (by omega) k hk
/-- whether a cell may matter -/
def MMT (U : AirD) (y : Int) (s : PS) (e : Int) : Prop := e = 0 → noV U y ∧ iI s 15 = 0
def CCJ (U : AirD) (s : PS) : Prop := iI s 15 = 0 → noC (uL U)
theorem CCJ_fm {U : AirD} {L M : List Nat} {s t : PS} (F : Fm L M s t) (h : 15 ∉ L) (r : CCJ U s) : CCJ U t := fun q => r (by rw [← fm_i F h]; exact q)
theorem u_wok {U : AirD} {s : PS} (a : AIR s) (d : CDJ U s) : ∀ x, x < uN U → WOK ((uW U).1 x) ((uW U).2 x) := fun x hx => by
  have w := (a.2 x (by have := d.1.1; omega)).1
  obtain ⟨e1, e2⟩ := d.2.1 x hx
  replace e1 : iC s 2 x = (uW U).2 x := e1
  rw [e1] at w
  refine wok_c w (fun k hk => ?_)
  have z := e2 k (by show (k : Int) < iC s 2 x; omega)
  exact z.symm
section M87v
variable {l : Launch} {s0 : State} {D : va_G} {tys : List (ClassId × FieldType)} {a0 : Array Value} {A : Nat → Nat} {dT : Nat → ClassId} {s : PS}
set_option maxRecDepth 4000 in
theorem c3_put3 (G : GX l s0 D tys a0 dT) (I : Bd s) (jPMJ : PMJ s) {x y : Int} (p0 : 0 ≤ x ∧ x ≤ 127) (p1 : -1 ≤ y ∧ y ≤ 7) : CT l s0 D A dT 28 (rmN 28) [.ref (A 25), .int (Int32.ofInt x), .int (Int32.ofInt y)] s (fun o t => Bd t ∧ Fm [] [21, 1022, 1023] s t ∧ PMJ t ∧ ∃ e, o = .inl (some (.int (Int32.ofInt e))) ∧ rng e ∧ ((e = iC s 21 (x : Int).toNat ∧ -1 ≤ e ∧ e ≤ 7) ∧ UPD 21 x y s t)) := by
  refine ct_ofX G (by decide) (Nat.le_of_ble_eq_true rfl) (fun k X E ET hRt hXt q => ?_)
  show WS k 0 [(0, .ref (A 25)), (1, .int (Int32.ofInt x)), (2, .int (Int32.ofInt y))] [] _ 0 0
  have F : Fm [] [21, 1022, 1023] s s := fm_rf _ _ s
  have aw0_21 : SAM 21 s s := sam_rf
  refine z_aload_n X (x := A 25) rfl (List.Mem.head _) (s_getR X 25 rfl (c518_ok rfl) rfl rfl (z_load_n X (x := x) rfl (List.Mem.tail _ (List.Mem.head _)) (z_ald X 26 rfl (c518_ok rfl) rfl (by first | exact p0.1 | omega) (show x < 128 by first | exact oq_31b2bf10 p0.2 | omega) (cbig_ok rfl) ?_)))
  have b1 := bc_21 I (show (x).toNat < 128 by first | exact oq_c7f4e9c1 p0.2 | omega)
  have ar2 : iC s 21 (x).toNat = iC s 21 (x).toNat := aw0_21 _
  refine z_store_n X (lv' := [(3, .int (Int32.ofInt (iC s 21 (x).toNat))), (0, .ref (A 25)), (1, .int (Int32.ofInt x)), (2, .int (Int32.ofInt y))]) rfl (by decide) (fun _ h => h) (w_lconst X.1 (ax_d X (show cdA 28 7 = some (.lconst 1, 1, 0, 0, 0) from rfl)) (z := (1 : Int64)) (by decide) (z_load_n X (x := x) rfl (List.Mem.tail _ (List.Mem.tail _ (List.Mem.head _))) (z_bipush X rfl (z_and63 X rfl (by omega) (z_jshl X rfl (w_lstore X.1 (lv' := [(4, .long (jshl (1 : Int64) (x % 64))), (3, .int (Int32.ofInt (iC s 21 (x).toNat))), (0, .ref (A 25)), (1, .int (Int32.ofInt x)), (2, .int (Int32.ofInt y))]) (ax_d X (show cdA 28 13 = some (.lstore 4, 2, 0, 0, 0) from rfl)) (by rw [X.2.1.2.2]; decide) (fun _ h => h) (z_load_n X (x := x) rfl (List.Mem.tail _ (List.Mem.tail _ (List.Mem.tail _ (List.Mem.head _)))) (z_bipush X rfl (z_icmp_ge X (t := 28) rfl rfl ⟨by first | exact oq_fa4e5087 p0.1 | omega, by first | exact oq_07d346ce p0.2 | omega⟩ (by decide) (fun g3 => ?_) (fun g3 => ?_))))))))))
  ·
    refine z_aload_n X (x := A 25) rfl (List.Mem.tail _ (List.Mem.tail _ (List.Mem.head _))) (s_getR X 25 rfl (c518_ok rfl) rfl rfl (z_astore X (lv' := [(6, .ref (A 28)), (4, .long (jshl (1 : Int64) (x % 64))), (3, .int (Int32.ofInt (iC s 21 (x).toNat))), (0, .ref (A 25)), (1, .int (Int32.ofInt x)), (2, .int (Int32.ofInt y))]) rfl (by decide) (fun _ h => h) (z_load_n X (x := (iC s 21 (x).toNat)) rfl (List.Mem.tail _ (List.Mem.tail _ (List.Mem.head _))) (z_if_lt X (t := 51) rfl rfl (rng_to _) (fun g4 => ?_) (fun g4 => ?_)))))
    ·
      refine z_load_n X (x := y) rfl (List.Mem.tail _ (List.Mem.tail _ (List.Mem.tail _ (List.Mem.tail _ (List.Mem.tail _ (List.Mem.head _)))))) (z_if_lt X (t := 64) rfl rfl ⟨by first | exact oq_97ee2c2a p1.1 | omega, by first | exact oq_0e78ca7d p1.2 | omega⟩ (fun g5 => ?_) (fun g5 => ?_))
      ·
        refine z_aload_n X (x := A 25) rfl (List.Mem.tail _ (List.Mem.tail _ (List.Mem.tail _ (List.Mem.head _)))) (s_getR X 25 rfl (c518_ok rfl) rfl rfl (z_load_n X (x := x) rfl (List.Mem.tail _ (List.Mem.tail _ (List.Mem.tail _ (List.Mem.tail _ (List.Mem.head _))))) (z_load_n X (x := y) rfl (List.Mem.tail _ (List.Mem.tail _ (List.Mem.tail _ (List.Mem.tail _ (List.Mem.tail _ (List.Mem.head _)))))) (z_ast X 26 rfl (c518_ok rfl) rfl (by first | exact p0.1 | omega) (show x < 128 by first | exact oq_31b2bf10 p0.2 | omega) (cbig_ok rfl) (wd_gen (fun s6 hs6 => ?_))))))
        have Is6 : Bd s6 := eqB hs6 (bd_C I (show ((-1) : Int) ≤ y ∧ y ≤ 7 by first | exact ⟨p1.1, p1.2⟩ | omega) ⟨by first | exact oq_97ee2c2a p1.1 | omega, by first | exact oq_b87c5b03 g5 | omega⟩)
        have Fs6 := eqF hs6 (fm_C F (inl_ok (a := 21) rfl))
        have aws6_21 : UPD 21 (x) y s s6 := by rw [hs6]; exact upd_put aw0_21 ⟨by first | exact oq_97ee2c2a p1.1 | omega, by first | exact oq_b87c5b03 g5 | omega⟩
        have JP9 : PMJ s6 := put_ok (a := 23) jPMJ (by omega) (by omega) (by omega) rfl (Or.inr ⟨by omega, rfl⟩) (Or.inr ⟨by omega, rfl⟩) hs6
        refine z_load_n X (x := (iC s 21 (x).toNat)) rfl (List.Mem.tail _ (List.Mem.tail _ (List.Mem.head _))) ?_
        exact w_iret X.1 q hRt rfl (ax_d X (show cdA 28 72 = some (.ireturn, 1, 0, 0, 0) from rfl)) (Nat.zero_le _) (Nat.zero_le _) ⟨_, rfl, Is6, Fs6, JP9, (iC s 21 (x).toNat), rfl, (rng_to _), ⟨⟨rfl, by first | exact b1.1 | omega, by first | exact b1.2 | omega⟩, aws6_21⟩⟩
      ·
        refine z_aload X (x := A 28) rfl (List.Mem.head _) (z_load_n X (x := y) rfl (List.Mem.tail _ (List.Mem.tail _ (List.Mem.tail _ (List.Mem.tail _ (List.Mem.tail _ (List.Mem.head _)))))) (w_dup2_11 X.1 (ax_d X (show cdA 28 58 = some (.dup2, 1, 0, 0, 0) from rfl)) rfl rfl (z_lalE X 28 rfl (by decide) rfl (by first | exact g5 | omega) (show y < 8 by first | exact oq_aaea290e p1.2 | omega) (by decide) (w_lload X.1 (ax_d X (show cdA 28 60 = some (.lload 4, 2, 0, 0, 0) from rfl)) (x := (jshl (1 : Int64) (x % 64))) (List.Mem.tail _ (List.Mem.head _)) (w_lor X.1 (ax_d X (show cdA 28 62 = some (.lor, 1, 0, 0, 0) from rfl)) (z_last X 28 rfl (c518_ok rfl) rfl (by first | exact g5 | omega) (show y < 8 by first | exact oq_aaea290e p1.2 | omega) (cbig_ok rfl) (wd_gen (fun s7 hs7 => ?_))))))))
        have Is7 : Bd s7 := eqB hs7 (bd_D I)
        have Fs7 : Fm [] [21, 1022, 1023] s s7 := by rw [hs7]; exact fm_D F (show 23 + 1000 ∈ _ by decide)
        have aws7_21 : SAM 21 s s7 := by rw [hs7]; exact aw0_21
        refine z_aload_n X (x := A 25) rfl (List.Mem.tail _ (List.Mem.tail _ (List.Mem.tail _ (List.Mem.head _)))) (s_getR X 25 rfl (c518_ok rfl) rfl rfl (z_load_n X (x := x) rfl (List.Mem.tail _ (List.Mem.tail _ (List.Mem.tail _ (List.Mem.tail _ (List.Mem.head _))))) (z_load_n X (x := y) rfl (List.Mem.tail _ (List.Mem.tail _ (List.Mem.tail _ (List.Mem.tail _ (List.Mem.tail _ (List.Mem.head _)))))) (z_ast X 26 rfl (c518_ok rfl) rfl (by first | exact p0.1 | omega) (show x < 128 by first | exact oq_31b2bf10 p0.2 | omega) (cbig_ok rfl) (wd_gen (fun s8 hs8 => ?_))))))
        have Is8 : Bd s8 := eqB hs8 (bd_C Is7 (show ((-1) : Int) ≤ y ∧ y ≤ 7 by first | exact ⟨p1.1, p1.2⟩ | omega) ⟨by first | exact oq_fa4e5087 g5 | omega, by first | exact oq_0e78ca7d p1.2 | omega⟩)
        have Fs8 := eqF hs8 (fm_C Fs7 (inl_ok (a := 21) rfl))
        have aws8_21 : UPD 21 (x) y s s8 := by rw [hs8]; exact upd_put aws7_21 ⟨by first | exact oq_fa4e5087 g5 | omega, by first | exact oq_0e78ca7d p1.2 | omega⟩
        have JP9 : PMJ s8 := put_ok (a := 23) jPMJ (by omega) (by omega) (by omega) rfl (Or.inr ⟨by omega, rfl⟩) (Or.inl ⟨by omega, hs7⟩) hs8
        refine z_load_n X (x := (iC s 21 (x).toNat)) rfl (List.Mem.tail _ (List.Mem.tail _ (List.Mem.head _))) ?_
        exact w_iret X.1 q hRt rfl (ax_d X (show cdA 28 72 = some (.ireturn, 1, 0, 0, 0) from rfl)) (Nat.zero_le _) (Nat.zero_le _) ⟨_, rfl, Is8, Fs8, JP9, (iC s 21 (x).toNat), rfl, (rng_to _), ⟨⟨rfl, by first | exact b1.1 | omega, by first | exact b1.2 | omega⟩, aws8_21⟩⟩
    ·
      refine z_aload X (x := A 28) rfl (List.Mem.head _) (z_load_n X (x := (iC s 21 (x).toNat)) rfl (List.Mem.tail _ (List.Mem.tail _ (List.Mem.head _))) (w_dup2_11 X.1 (ax_d X (show cdA 28 41 = some (.dup2, 1, 0, 0, 0) from rfl)) rfl rfl (z_lalE X 28 rfl (by decide) rfl (by first | exact g4 | omega) (show (iC s 21 (x).toNat) < 8 by first | exact oq_aaea290e b1.2 | omega) (by decide) (w_lload X.1 (ax_d X (show cdA 28 43 = some (.lload 4, 2, 0, 0, 0) from rfl)) (x := (jshl (1 : Int64) (x % 64))) (List.Mem.tail _ (List.Mem.head _)) (z_ldc2E X rfl (w_lxor X.1 (ax_d X (show cdA 28 48 = some (.lxor, 1, 0, 0, 0) from rfl)) (w_land X.1 (ax_d X (show cdA 28 49 = some (.land, 1, 0, 0, 0) from rfl)) (z_last X 28 rfl (c518_ok rfl) rfl (by first | exact g4 | omega) (show (iC s 21 (x).toNat) < 8 by first | exact oq_aaea290e b1.2 | omega) (cbig_ok rfl) (wd_gen (fun s9 hs9 => ?_))))))))))
      have Is9 : Bd s9 := eqB hs9 (bd_D I)
      have Fs9 : Fm [] [21, 1022, 1023] s s9 := by rw [hs9]; exact fm_D F (show 23 + 1000 ∈ _ by decide)
      have aws9_21 : SAM 21 s s9 := by rw [hs9]; exact aw0_21
      refine z_load_n X (x := y) rfl (List.Mem.tail _ (List.Mem.tail _ (List.Mem.tail _ (List.Mem.tail _ (List.Mem.tail _ (List.Mem.head _)))))) (z_if_lt X (t := 64) rfl rfl ⟨by first | exact oq_97ee2c2a p1.1 | omega, by first | exact oq_0e78ca7d p1.2 | omega⟩ (fun g10 => ?_) (fun g10 => ?_))
      ·
        refine z_aload_n X (x := A 25) rfl (List.Mem.tail _ (List.Mem.tail _ (List.Mem.tail _ (List.Mem.head _)))) (s_getR X 25 rfl (c518_ok rfl) rfl rfl (z_load_n X (x := x) rfl (List.Mem.tail _ (List.Mem.tail _ (List.Mem.tail _ (List.Mem.tail _ (List.Mem.head _))))) (z_load_n X (x := y) rfl (List.Mem.tail _ (List.Mem.tail _ (List.Mem.tail _ (List.Mem.tail _ (List.Mem.tail _ (List.Mem.head _)))))) (z_ast X 26 rfl (c518_ok rfl) rfl (by first | exact p0.1 | omega) (show x < 128 by first | exact oq_31b2bf10 p0.2 | omega) (cbig_ok rfl) (wd_gen (fun s11 hs11 => ?_))))))
        have Is11 : Bd s11 := eqB hs11 (bd_C Is9 (show ((-1) : Int) ≤ y ∧ y ≤ 7 by first | exact ⟨p1.1, p1.2⟩ | omega) ⟨by first | exact oq_97ee2c2a p1.1 | omega, by first | exact oq_b87c5b03 g10 | omega⟩)
        have Fs11 := eqF hs11 (fm_C Fs9 (inl_ok (a := 21) rfl))
        have aws11_21 : UPD 21 (x) y s s11 := by rw [hs11]; exact upd_put aws9_21 ⟨by first | exact oq_97ee2c2a p1.1 | omega, by first | exact oq_b87c5b03 g10 | omega⟩
        have JP9 : PMJ s11 := put_ok (a := 23) jPMJ (by omega) (by omega) (by omega) rfl (Or.inl ⟨by omega, hs9⟩) (Or.inr ⟨by omega, rfl⟩) hs11
        refine z_load_n X (x := (iC s 21 (x).toNat)) rfl (List.Mem.tail _ (List.Mem.tail _ (List.Mem.head _))) ?_
        exact w_iret X.1 q hRt rfl (ax_d X (show cdA 28 72 = some (.ireturn, 1, 0, 0, 0) from rfl)) (Nat.zero_le _) (Nat.zero_le _) ⟨_, rfl, Is11, Fs11, JP9, (iC s 21 (x).toNat), rfl, (rng_to _), ⟨⟨rfl, by first | exact b1.1 | omega, by first | exact b1.2 | omega⟩, aws11_21⟩⟩
      ·
        refine z_aload X (x := A 28) rfl (List.Mem.head _) (z_load_n X (x := y) rfl (List.Mem.tail _ (List.Mem.tail _ (List.Mem.tail _ (List.Mem.tail _ (List.Mem.tail _ (List.Mem.head _)))))) (w_dup2_11 X.1 (ax_d X (show cdA 28 58 = some (.dup2, 1, 0, 0, 0) from rfl)) rfl rfl (z_lalE X 28 rfl (by decide) rfl (by first | exact g10 | omega) (show y < 8 by first | exact oq_aaea290e p1.2 | omega) (by decide) (w_lload X.1 (ax_d X (show cdA 28 60 = some (.lload 4, 2, 0, 0, 0) from rfl)) (x := (jshl (1 : Int64) (x % 64))) (List.Mem.tail _ (List.Mem.head _)) (w_lor X.1 (ax_d X (show cdA 28 62 = some (.lor, 1, 0, 0, 0) from rfl)) (z_last X 28 rfl (c518_ok rfl) rfl (by first | exact g10 | omega) (show y < 8 by first | exact oq_aaea290e p1.2 | omega) (cbig_ok rfl) (wd_gen (fun s12 hs12 => ?_))))))))
        have Is12 : Bd s12 := eqB hs12 (bd_D Is9)
        have Fs12 : Fm [] [21, 1022, 1023] s s12 := by rw [hs12]; exact fm_D Fs9 (show 23 + 1000 ∈ _ by decide)
        have aws12_21 : SAM 21 s s12 := by rw [hs12]; exact aws9_21
        refine z_aload_n X (x := A 25) rfl (List.Mem.tail _ (List.Mem.tail _ (List.Mem.tail _ (List.Mem.head _)))) (s_getR X 25 rfl (c518_ok rfl) rfl rfl (z_load_n X (x := x) rfl (List.Mem.tail _ (List.Mem.tail _ (List.Mem.tail _ (List.Mem.tail _ (List.Mem.head _))))) (z_load_n X (x := y) rfl (List.Mem.tail _ (List.Mem.tail _ (List.Mem.tail _ (List.Mem.tail _ (List.Mem.tail _ (List.Mem.head _)))))) (z_ast X 26 rfl (c518_ok rfl) rfl (by first | exact p0.1 | omega) (show x < 128 by first | exact oq_31b2bf10 p0.2 | omega) (cbig_ok rfl) (wd_gen (fun s13 hs13 => ?_))))))
        have Is13 : Bd s13 := eqB hs13 (bd_C Is12 (show ((-1) : Int) ≤ y ∧ y ≤ 7 by first | exact ⟨p1.1, p1.2⟩ | omega) ⟨by first | exact oq_fa4e5087 g10 | omega, by first | exact oq_0e78ca7d p1.2 | omega⟩)
        have Fs13 := eqF hs13 (fm_C Fs12 (inl_ok (a := 21) rfl))
        have aws13_21 : UPD 21 (x) y s s13 := by rw [hs13]; exact upd_put aws12_21 ⟨by first | exact oq_fa4e5087 g10 | omega, by first | exact oq_0e78ca7d p1.2 | omega⟩
        have JP9 : PMJ s13 := put_ok (a := 23) jPMJ (by omega) (by omega) (by omega) rfl (Or.inl ⟨by omega, hs9⟩) (Or.inl ⟨by omega, hs12⟩) hs13
        refine z_load_n X (x := (iC s 21 (x).toNat)) rfl (List.Mem.tail _ (List.Mem.tail _ (List.Mem.head _))) ?_
        exact w_iret X.1 q hRt rfl (ax_d X (show cdA 28 72 = some (.ireturn, 1, 0, 0, 0) from rfl)) (Nat.zero_le _) (Nat.zero_le _) ⟨_, rfl, Is13, Fs13, JP9, (iC s 21 (x).toNat), rfl, (rng_to _), ⟨⟨rfl, by first | exact b1.1 | omega, by first | exact b1.2 | omega⟩, aws13_21⟩⟩
  ·
    refine z_aload_n X (x := A 25) rfl (List.Mem.tail _ (List.Mem.tail _ (List.Mem.head _))) (s_getR X 25 rfl (c518_ok rfl) rfl rfl (z_goto X (t := 32) rfl rfl (z_astore X (lv' := [(6, .ref (A 27)), (4, .long (jshl (1 : Int64) (x % 64))), (3, .int (Int32.ofInt (iC s 21 (x).toNat))), (0, .ref (A 25)), (1, .int (Int32.ofInt x)), (2, .int (Int32.ofInt y))]) rfl (by decide) (fun _ h => h) (z_load_n X (x := (iC s 21 (x).toNat)) rfl (List.Mem.tail _ (List.Mem.tail _ (List.Mem.head _))) (z_if_lt X (t := 51) rfl rfl (rng_to _) (fun g14 => ?_) (fun g14 => ?_))))))
    ·
      refine z_load_n X (x := y) rfl (List.Mem.tail _ (List.Mem.tail _ (List.Mem.tail _ (List.Mem.tail _ (List.Mem.tail _ (List.Mem.head _)))))) (z_if_lt X (t := 64) rfl rfl ⟨by first | exact oq_97ee2c2a p1.1 | omega, by first | exact oq_0e78ca7d p1.2 | omega⟩ (fun g15 => ?_) (fun g15 => ?_))
      ·
        refine z_aload_n X (x := A 25) rfl (List.Mem.tail _ (List.Mem.tail _ (List.Mem.tail _ (List.Mem.head _)))) (s_getR X 25 rfl (c518_ok rfl) rfl rfl (z_load_n X (x := x) rfl (List.Mem.tail _ (List.Mem.tail _ (List.Mem.tail _ (List.Mem.tail _ (List.Mem.head _))))) (z_load_n X (x := y) rfl (List.Mem.tail _ (List.Mem.tail _ (List.Mem.tail _ (List.Mem.tail _ (List.Mem.tail _ (List.Mem.head _)))))) (z_ast X 26 rfl (c518_ok rfl) rfl (by first | exact p0.1 | omega) (show x < 128 by first | exact oq_0b2c4d55 g3 | omega) (cbig_ok rfl) (wd_gen (fun s16 hs16 => ?_))))))
        have Is16 : Bd s16 := eqB hs16 (bd_C I (show ((-1) : Int) ≤ y ∧ y ≤ 7 by first | exact ⟨p1.1, p1.2⟩ | omega) ⟨by first | exact oq_97ee2c2a p1.1 | omega, by first | exact oq_b87c5b03 g15 | omega⟩)
        have Fs16 := eqF hs16 (fm_C F (inl_ok (a := 21) rfl))
        have aws16_21 : UPD 21 (x) y s s16 := by rw [hs16]; exact upd_put aw0_21 ⟨by first | exact oq_97ee2c2a p1.1 | omega, by first | exact oq_b87c5b03 g15 | omega⟩
        have JP9 : PMJ s16 := put_ok (a := 22) jPMJ (by omega) (by omega) (by omega) rfl (Or.inr ⟨by omega, rfl⟩) (Or.inr ⟨by omega, rfl⟩) hs16
        refine z_load_n X (x := (iC s 21 (x).toNat)) rfl (List.Mem.tail _ (List.Mem.tail _ (List.Mem.head _))) ?_
        exact w_iret X.1 q hRt rfl (ax_d X (show cdA 28 72 = some (.ireturn, 1, 0, 0, 0) from rfl)) (Nat.zero_le _) (Nat.zero_le _) ⟨_, rfl, Is16, Fs16, JP9, (iC s 21 (x).toNat), rfl, (rng_to _), ⟨⟨rfl, by first | exact b1.1 | omega, by first | exact b1.2 | omega⟩, aws16_21⟩⟩
      ·
        refine z_aload X (x := A 27) rfl (List.Mem.head _) (z_load_n X (x := y) rfl (List.Mem.tail _ (List.Mem.tail _ (List.Mem.tail _ (List.Mem.tail _ (List.Mem.tail _ (List.Mem.head _)))))) (w_dup2_11 X.1 (ax_d X (show cdA 28 58 = some (.dup2, 1, 0, 0, 0) from rfl)) rfl rfl (z_lalE X 27 rfl (by decide) rfl (by first | exact g15 | omega) (show y < 8 by first | exact oq_aaea290e p1.2 | omega) (by decide) (w_lload X.1 (ax_d X (show cdA 28 60 = some (.lload 4, 2, 0, 0, 0) from rfl)) (x := (jshl (1 : Int64) (x % 64))) (List.Mem.tail _ (List.Mem.head _)) (w_lor X.1 (ax_d X (show cdA 28 62 = some (.lor, 1, 0, 0, 0) from rfl)) (z_last X 27 rfl (c518_ok rfl) rfl (by first | exact g15 | omega) (show y < 8 by first | exact oq_aaea290e p1.2 | omega) (cbig_ok rfl) (wd_gen (fun s17 hs17 => ?_))))))))
        have Is17 : Bd s17 := eqB hs17 (bd_D I)
        have Fs17 : Fm [] [21, 1022, 1023] s s17 := by rw [hs17]; exact fm_D F (show 22 + 1000 ∈ _ by decide)
        have aws17_21 : SAM 21 s s17 := by rw [hs17]; exact aw0_21
        refine z_aload_n X (x := A 25) rfl (List.Mem.tail _ (List.Mem.tail _ (List.Mem.tail _ (List.Mem.head _)))) (s_getR X 25 rfl (c518_ok rfl) rfl rfl (z_load_n X (x := x) rfl (List.Mem.tail _ (List.Mem.tail _ (List.Mem.tail _ (List.Mem.tail _ (List.Mem.head _))))) (z_load_n X (x := y) rfl (List.Mem.tail _ (List.Mem.tail _ (List.Mem.tail _ (List.Mem.tail _ (List.Mem.tail _ (List.Mem.head _)))))) (z_ast X 26 rfl (c518_ok rfl) rfl (by first | exact p0.1 | omega) (show x < 128 by first | exact oq_0b2c4d55 g3 | omega) (cbig_ok rfl) (wd_gen (fun s18 hs18 => ?_))))))
        have Is18 : Bd s18 := eqB hs18 (bd_C Is17 (show ((-1) : Int) ≤ y ∧ y ≤ 7 by first | exact ⟨p1.1, p1.2⟩ | omega) ⟨by first | exact oq_fa4e5087 g15 | omega, by first | exact oq_0e78ca7d p1.2 | omega⟩)
        have Fs18 := eqF hs18 (fm_C Fs17 (inl_ok (a := 21) rfl))
        have aws18_21 : UPD 21 (x) y s s18 := by rw [hs18]; exact upd_put aws17_21 ⟨by first | exact oq_fa4e5087 g15 | omega, by first | exact oq_0e78ca7d p1.2 | omega⟩
        have JP9 : PMJ s18 := put_ok (a := 22) jPMJ (by omega) (by omega) (by omega) rfl (Or.inr ⟨by omega, rfl⟩) (Or.inl ⟨by omega, hs17⟩) hs18
        refine z_load_n X (x := (iC s 21 (x).toNat)) rfl (List.Mem.tail _ (List.Mem.tail _ (List.Mem.head _))) ?_
        exact w_iret X.1 q hRt rfl (ax_d X (show cdA 28 72 = some (.ireturn, 1, 0, 0, 0) from rfl)) (Nat.zero_le _) (Nat.zero_le _) ⟨_, rfl, Is18, Fs18, JP9, (iC s 21 (x).toNat), rfl, (rng_to _), ⟨⟨rfl, by first | exact b1.1 | omega, by first | exact b1.2 | omega⟩, aws18_21⟩⟩
    ·
      refine z_aload X (x := A 27) rfl (List.Mem.head _) (z_load_n X (x := (iC s 21 (x).toNat)) rfl (List.Mem.tail _ (List.Mem.tail _ (List.Mem.head _))) (w_dup2_11 X.1 (ax_d X (show cdA 28 41 = some (.dup2, 1, 0, 0, 0) from rfl)) rfl rfl (z_lalE X 27 rfl (by decide) rfl (by first | exact g14 | omega) (show (iC s 21 (x).toNat) < 8 by first | exact oq_aaea290e b1.2 | omega) (by decide) (w_lload X.1 (ax_d X (show cdA 28 43 = some (.lload 4, 2, 0, 0, 0) from rfl)) (x := (jshl (1 : Int64) (x % 64))) (List.Mem.tail _ (List.Mem.head _)) (z_ldc2E X rfl (w_lxor X.1 (ax_d X (show cdA 28 48 = some (.lxor, 1, 0, 0, 0) from rfl)) (w_land X.1 (ax_d X (show cdA 28 49 = some (.land, 1, 0, 0, 0) from rfl)) (z_last X 27 rfl (c518_ok rfl) rfl (by first | exact g14 | omega) (show (iC s 21 (x).toNat) < 8 by first | exact oq_aaea290e b1.2 | omega) (cbig_ok rfl) (wd_gen (fun s19 hs19 => ?_))))))))))
      have Is19 : Bd s19 := eqB hs19 (bd_D I)
      have Fs19 : Fm [] [21, 1022, 1023] s s19 := by rw [hs19]; exact fm_D F (show 22 + 1000 ∈ _ by decide)
      have aws19_21 : SAM 21 s s19 := by rw [hs19]; exact aw0_21
      refine z_load_n X (x := y) rfl (List.Mem.tail _ (List.Mem.tail _ (List.Mem.tail _ (List.Mem.tail _ (List.Mem.tail _ (List.Mem.head _)))))) (z_if_lt X (t := 64) rfl rfl ⟨by first | exact oq_97ee2c2a p1.1 | omega, by first | exact oq_0e78ca7d p1.2 | omega⟩ (fun g20 => ?_) (fun g20 => ?_))
      ·
        refine z_aload_n X (x := A 25) rfl (List.Mem.tail _ (List.Mem.tail _ (List.Mem.tail _ (List.Mem.head _)))) (s_getR X 25 rfl (c518_ok rfl) rfl rfl (z_load_n X (x := x) rfl (List.Mem.tail _ (List.Mem.tail _ (List.Mem.tail _ (List.Mem.tail _ (List.Mem.head _))))) (z_load_n X (x := y) rfl (List.Mem.tail _ (List.Mem.tail _ (List.Mem.tail _ (List.Mem.tail _ (List.Mem.tail _ (List.Mem.head _)))))) (z_ast X 26 rfl (c518_ok rfl) rfl (by first | exact p0.1 | omega) (show x < 128 by first | exact oq_0b2c4d55 g3 | omega) (cbig_ok rfl) (wd_gen (fun s21 hs21 => ?_))))))
        have Is21 : Bd s21 := eqB hs21 (bd_C Is19 (show ((-1) : Int) ≤ y ∧ y ≤ 7 by first | exact ⟨p1.1, p1.2⟩ | omega) ⟨by first | exact oq_97ee2c2a p1.1 | omega, by first | exact oq_b87c5b03 g20 | omega⟩)
        have Fs21 := eqF hs21 (fm_C Fs19 (inl_ok (a := 21) rfl))
        have aws21_21 : UPD 21 (x) y s s21 := by rw [hs21]; exact upd_put aws19_21 ⟨by first | exact oq_97ee2c2a p1.1 | omega, by first | exact oq_b87c5b03 g20 | omega⟩
        have JP9 : PMJ s21 := put_ok (a := 22) jPMJ (by omega) (by omega) (by omega) rfl (Or.inl ⟨by omega, hs19⟩) (Or.inr ⟨by omega, rfl⟩) hs21
        refine z_load_n X (x := (iC s 21 (x).toNat)) rfl (List.Mem.tail _ (List.Mem.tail _ (List.Mem.head _))) ?_
        exact w_iret X.1 q hRt rfl (ax_d X (show cdA 28 72 = some (.ireturn, 1, 0, 0, 0) from rfl)) (Nat.zero_le _) (Nat.zero_le _) ⟨_, rfl, Is21, Fs21, JP9, (iC s 21 (x).toNat), rfl, (rng_to _), ⟨⟨rfl, by first | exact b1.1 | omega, by first | exact b1.2 | omega⟩, aws21_21⟩⟩
      ·
        refine z_aload X (x := A 27) rfl (List.Mem.head _) (z_load_n X (x := y) rfl (List.Mem.tail _ (List.Mem.tail _ (List.Mem.tail _ (List.Mem.tail _ (List.Mem.tail _ (List.Mem.head _)))))) (w_dup2_11 X.1 (ax_d X (show cdA 28 58 = some (.dup2, 1, 0, 0, 0) from rfl)) rfl rfl (z_lalE X 27 rfl (by decide) rfl (by first | exact g20 | omega) (show y < 8 by first | exact oq_aaea290e p1.2 | omega) (by decide) (w_lload X.1 (ax_d X (show cdA 28 60 = some (.lload 4, 2, 0, 0, 0) from rfl)) (x := (jshl (1 : Int64) (x % 64))) (List.Mem.tail _ (List.Mem.head _)) (w_lor X.1 (ax_d X (show cdA 28 62 = some (.lor, 1, 0, 0, 0) from rfl)) (z_last X 27 rfl (c518_ok rfl) rfl (by first | exact g20 | omega) (show y < 8 by first | exact oq_aaea290e p1.2 | omega) (cbig_ok rfl) (wd_gen (fun s22 hs22 => ?_))))))))
        have Is22 : Bd s22 := eqB hs22 (bd_D Is19)
        have Fs22 : Fm [] [21, 1022, 1023] s s22 := by rw [hs22]; exact fm_D Fs19 (show 22 + 1000 ∈ _ by decide)
        have aws22_21 : SAM 21 s s22 := by rw [hs22]; exact aws19_21
        refine z_aload_n X (x := A 25) rfl (List.Mem.tail _ (List.Mem.tail _ (List.Mem.tail _ (List.Mem.head _)))) (s_getR X 25 rfl (c518_ok rfl) rfl rfl (z_load_n X (x := x) rfl (List.Mem.tail _ (List.Mem.tail _ (List.Mem.tail _ (List.Mem.tail _ (List.Mem.head _))))) (z_load_n X (x := y) rfl (List.Mem.tail _ (List.Mem.tail _ (List.Mem.tail _ (List.Mem.tail _ (List.Mem.tail _ (List.Mem.head _)))))) (z_ast X 26 rfl (c518_ok rfl) rfl (by first | exact p0.1 | omega) (show x < 128 by first | exact oq_0b2c4d55 g3 | omega) (cbig_ok rfl) (wd_gen (fun s23 hs23 => ?_))))))
        have Is23 : Bd s23 := eqB hs23 (bd_C Is22 (show ((-1) : Int) ≤ y ∧ y ≤ 7 by first | exact ⟨p1.1, p1.2⟩ | omega) ⟨by first | exact oq_fa4e5087 g20 | omega, by first | exact oq_0e78ca7d p1.2 | omega⟩)
        have Fs23 := eqF hs23 (fm_C Fs22 (inl_ok (a := 21) rfl))
        have aws23_21 : UPD 21 (x) y s s23 := by rw [hs23]; exact upd_put aws22_21 ⟨by first | exact oq_fa4e5087 g20 | omega, by first | exact oq_0e78ca7d p1.2 | omega⟩
        have JP9 : PMJ s23 := put_ok (a := 22) jPMJ (by omega) (by omega) (by omega) rfl (Or.inl ⟨by omega, hs19⟩) (Or.inl ⟨by omega, hs22⟩) hs23
        refine z_load_n X (x := (iC s 21 (x).toNat)) rfl (List.Mem.tail _ (List.Mem.tail _ (List.Mem.head _))) ?_
        exact w_iret X.1 q hRt rfl (ax_d X (show cdA 28 72 = some (.ireturn, 1, 0, 0, 0) from rfl)) (Nat.zero_le _) (Nat.zero_le _) ⟨_, rfl, Is23, Fs23, JP9, (iC s 21 (x).toNat), rfl, (rng_to _), ⟨⟨rfl, by first | exact b1.1 | omega, by first | exact b1.2 | omega⟩, aws23_21⟩⟩
set_option maxRecDepth 4000 in
theorem c3_has3 (G : GX l s0 D tys a0 dT) (I : Bd s) (jPMJ : PMJ s) {x : Int} (p0 : 0 ≤ x ∧ x ≤ 7) : CT l s0 D A dT 30 (rmN 30) [.ref (A 25), .int (Int32.ofInt x)] s (fun o t => s = t ∧ ∃ e, o = .inl (some (.int (Int32.ofInt e))) ∧ rng e ∧ ((e = 0 ∨ e = 1) ∧ HCE (pcS (pfC s) x) e)) := by
  refine ct_ofX G (by decide) (Nat.le_of_ble_eq_true rfl) (fun k X E ET hRt hXt q => ?_)
  show WS k 0 [(0, .ref (A 25)), (1, .int (Int32.ofInt x))] [] _ 0 0
  have F : Fm [] [] s s := fm_rf _ _ s
  refine z_aload_n X (x := A 25) rfl (List.Mem.head _) (s_getR X 25 rfl (c518_ok rfl) rfl rfl (z_load_n X (x := x) rfl (List.Mem.tail _ (List.Mem.head _)) (z_lalE X 27 rfl (by decide) rfl (by first | exact p0.1 | omega) (show x < 8 by first | exact oq_aaea290e p0.2 | omega) (by decide) (z_aload_n X (x := A 25) rfl (List.Mem.head _) (s_getR X 25 rfl (c518_ok rfl) rfl rfl (z_load_n X (x := x) rfl (List.Mem.tail _ (List.Mem.head _)) (z_lalE X 28 rfl (by decide) rfl (by first | exact p0.1 | omega) (show x < 8 by first | exact oq_aaea290e p0.2 | omega) (by decide) (w_lor X.1 (ax_d X (show cdA 30 12 = some (.lor, 1, 0, 0, 0) from rfl)) (w_lconst X.1 (ax_d X (show cdA 30 13 = some (.lconst 0, 1, 0, 0, 0) from rfl)) (z := (0 : Int64)) (by decide) (z_jcmp X rfl (fun z1 => ?_) (fun z1 c2 hc2 ic2 => ?_)))))))))))
  ·
    refine z_if_eq X (t := 22) rfl rfl (by decide) (fun g3 => ?_) (fun g3 => ?_)
    ·
      refine z_const X rfl ?_
      exact w_iret X.1 q hRt (nar_ret (by first | exact Or.inl (by decide) | omega)) (ax_d X (show cdA 30 23 = some (.ireturn, 1, 0, 0, 0) from rfl)) (Nat.zero_le _) (Nat.zero_le _) ⟨_, rfl, rfl, 0, rfl, (by decide), ⟨Or.inl rfl, hce_0 jPMJ (by omega) z1⟩⟩
    ·
      exfalso
      omega
  ·
    refine z_if_eq X (t := 22) rfl rfl ⟨by omega, by omega⟩ (fun g4 => ?_) (fun g4 => ?_)
    ·
      exfalso
      omega
    ·
      refine z_const X rfl (z_goto X (t := 23) rfl rfl ?_)
      exact w_iret X.1 q hRt (nar_ret (by first | exact Or.inr (by decide) | omega)) (ax_d X (show cdA 30 23 = some (.ireturn, 1, 0, 0, 0) from rfl)) (Nat.zero_le _) (Nat.zero_le _) ⟨_, rfl, rfl, 1, rfl, (by decide), ⟨Or.inr rfl, hce_1 jPMJ (by first | (clear g4; omega) | omega) z1⟩⟩
set_option maxRecDepth 4000 in
theorem c2_whole3 (G : GX l s0 D tys a0 dT) (I : Bd s) (jPMJ : PMJ s) {x : Int} (p0 : 0 ≤ x ∧ x ≤ 7) : CT l s0 D A dT 19 (rmN 19) [.ref (A 41), .int (Int32.ofInt x)] s (fun o t => Bd t ∧ Fm [] [] s t ∧ ∃ e, o = .inl (some (.int (Int32.ofInt e))) ∧ rng e ∧ ((e = 0 ∨ e = 1) ∧ HGE (pcS (pfC s) x) e)) := by
  refine ct_ofX G (by decide) (Nat.le_of_ble_eq_true rfl) (fun k X E ET hRt hXt q => ?_)
  show WS k 0 [(0, .ref (A 41)), (1, .int (Int32.ofInt x))] [] _ 0 0
  have F : Fm [] [] s s := fm_rf _ _ s
  refine z_aload_n X (x := A 41) rfl (List.Mem.head _) (s_getR X 41 rfl (c518_ok rfl) rfl rfl (s_getR X 25 rfl (c518_ok rfl) rfl rfl (z_load_n X (x := x) rfl (List.Mem.tail _ (List.Mem.head _)) (z_lalE X 27 rfl (by decide) rfl (by first | exact p0.1 | omega) (show x < 8 by first | exact oq_aaea290e p0.2 | omega) (by decide) (z_aload_n X (x := A 41) rfl (List.Mem.head _) (s_getR X 41 rfl (c518_ok rfl) rfl rfl (s_getR X 25 rfl (c518_ok rfl) rfl rfl (z_load_n X (x := x) rfl (List.Mem.tail _ (List.Mem.head _)) (z_lalE X 28 rfl (by decide) rfl (by first | exact p0.1 | omega) (show x < 8 by first | exact oq_aaea290e p0.2 | omega) (by decide) (zcS_i0 X E (As := [.long (gD s 22 (x).toNat), .long (gD s 23 (x).toNat)]) (st := []) rfl rfl (c3_hangs3 G I ) rfl (Nat.le_of_ble_eq_true rfl) (fun s1 e2 Is1 Fs1 hrs1 hps1 => ?_)))))))))))
  have hps1p := hps1.2
  have Gs1 := fm_tq F Fs1 rfl rfl
  exact w_iret X.1 q hRt (nar_ret (by first | exact hps1.1 | omega)) (ax_d X (show cdA 19 21 = some (.ireturn, 1, 0, 0, 0) from rfl)) (Nat.zero_le _) (Nat.zero_le _) ⟨_, rfl, Is1, Gs1, e2, rfl, hrs1, ⟨hps1.1, by rw [← pm_eq (p := x) jPMJ (by first | (clear hps1; omega) | omega)]; exact hps1.2⟩⟩
set_option maxRecDepth 4000 in
theorem c3_beside_p3 (G : GX l s0 D tys a0 dT) (I : Bd s) {x : Int} (p0 : 0 ≤ x ∧ x ≤ 127) : CT l s0 D A dT 39 (rmN 39) [.ref (A 25), .int (Int32.ofInt x)] s (fun o t => Bd t ∧ Fm [] [] s t ∧ ∃ e, o = .inl (some (.int (Int32.ofInt e))) ∧ rng e ∧ (PBQ (pfC s) x e 6)) := by
  refine ct_ofX G (by decide) (Nat.le_of_ble_eq_true rfl) (fun k X E ET hRt hXt q => ?_)
  show WS k 0 [(0, .ref (A 25)), (1, .int (Int32.ofInt x))] [] _ 0 0
  have F : Fm [] [] s s := fm_rf _ _ s
  have L4 : ∀ (n : Nat) (t : PS) (xv bi g : Int), Bd t → Fm [] [] s t → (PBQ (pfC s) x bi g) → ((xv = x ∧ 0 ≤ xv ∧ xv ≤ 127) ∧ rng bi ∧ 0 ≤ g ∧ g ≤ 6) → (6 - g : Int).toNat < n → (∀ (t' : PS) (bi' g' : Int), Bd t' → Fm [] [] s t' → (PBQ (pfC s) x bi' g') → (rng bi' ∧ g' = 6) → WS k 51 [(0, .ref (A 25)), (1, .int (Int32.ofInt xv)), (2, .int (Int32.ofInt bi')), (3, .int (Int32.ofInt g'))] [] (Wd A dT t') 0 0) → WS k 4 [(0, .ref (A 25)), (1, .int (Int32.ofInt xv)), (2, .int (Int32.ofInt bi)), (3, .int (Int32.ofInt g))] [] (Wd A dT t) 0 0 := by
    intro n
    induction n with
    | zero =>
      intro t xv bi g I F hq hi hm kx
      exact absurd hm (Nat.not_lt_zero _)
    | succ n ih =>
      intro t xv bi g I F hq hi hm kx
      refine z_load_n X (x := g) rfl (List.Mem.tail _ (List.Mem.tail _ (List.Mem.tail _ (List.Mem.head _)))) (z_bipush X rfl (z_icmp_ge X (t := 51) rfl rfl ⟨by first | exact oq_fa4e5087 hi.2.2.1 | omega, by first | exact oq_b301c3bf hi.2.2.2 | omega⟩ (by decide) (fun g1001 => ?_) (fun g1001 => ?_)))
      ·
        refine WS_pq [0, 1, 2, 3] (lv' := [(0, .ref (A 25)), (1, .int (Int32.ofInt xv)), (2, .int (Int32.ofInt bi)), (3, .int (Int32.ofInt g))]) rfl ?_
        exact kx _ bi g I F hq (by first | exact ⟨And.intro (hi.2.1.1) (hi.2.1.2), oq_0dbc568f hi.2.2.2 g1001⟩ | omega)
      ·
        refine z_load_n X (x := xv) rfl (List.Mem.tail _ (List.Mem.head _)) (z_load_n X (x := g) rfl (List.Mem.tail _ (List.Mem.tail _ (List.Mem.tail _ (List.Mem.head _)))) (z_callS X (rm := rmN 100) (As := [.int (Int32.ofInt xv), .int (Int32.ofInt g)]) (st := []) rfl rfl (by rw [E.1, E.2.1, E.2.2.1]; exact c9_stepFrom2 G I (by first | exact ⟨hi.1.2.1, hi.1.2.2⟩ | omega) (by first | exact ⟨hi.2.2.1, oq_a4cef127 g1001⟩ | omega)) ⟨by rw [E.2.2.2]; exact (show (rmN 100).frames + 1 ≤ (rmN 39).frames by decide), by rw [E.2.2.2]; exact (show 8 + (mNL (miB 100) + 11) + (rmN 100).locals ≤ (rmN 39).locals by decide), by rw [E.2.2.2]; exact (show 0 + (rmN 100).cells ≤ (rmN 39).cells by decide), by rw [E.2.2.2]; exact (show 0 + (rmN 100).slots ≤ (rmN 39).slots by decide)⟩ (Nat.le_of_ble_eq_true rfl) (fun vv s1002 hq => ?_) (fun ee s1002 hq => ?_)))
        rotate_left
        · obtain ⟨rfl, e1003, hv, hrs1002, hps1002⟩ := hq; cases hv
        obtain ⟨rfl, e1003, hv, hrs1002, hps1002⟩ := hq
        cases hv
        show WS k 15 [(0, .ref (A 25)), (1, .int (Int32.ofInt xv)), (2, .int (Int32.ofInt bi)), (3, .int (Int32.ofInt g))] [.int (Int32.ofInt e1003)] (Wd A dT t) 0 0
        refine z_store X (lv' := [(4, .int (Int32.ofInt e1003)), (0, .ref (A 25)), (1, .int (Int32.ofInt xv)), (2, .int (Int32.ofInt bi)), (3, .int (Int32.ofInt g))]) rfl (by decide) (fun _ h => h) (z_load X (x := e1003) rfl (List.Mem.head _) (z_const X rfl (z_icmp_eq X (t := 45) rfl rfl hrs1002 (by decide) (fun g1004 => ?_) (fun g1004 => ?_))))
        ·
          refine z_inc X (x := g) (lv' := [(3, .int (Int32.ofInt (g + 1))), (4, .int (Int32.ofInt e1003)), (0, .ref (A 25)), (1, .int (Int32.ofInt xv)), (2, .int (Int32.ofInt bi))]) rfl (by decide) (List.Mem.tail _ (List.Mem.tail _ (List.Mem.tail _ (List.Mem.tail _ (List.Mem.head _))))) (fun _ h => h) (z_goto X (t := 4) rfl rfl (WS_pq [2, 3, 4, 0] (lv' := [(0, .ref (A 25)), (1, .int (Int32.ofInt xv)), (2, .int (Int32.ofInt bi)), (3, .int (Int32.ofInt (g + 1)))]) rfl ?_))
          exact ih _ xv bi (g + 1) I F (pbq_n (c := e1003) hq (by omega) (by rw [show x = xv by omega]; exact hps1002.1) (by show e1003 = -1 ∨ iC s 21 (e1003 : Int).toNat < 0; have z := (fm_c F List.not_mem_nil : iC t 21 (e1003 : Int).toNat = iC s 21 (e1003 : Int).toNat); omega)) (by first | exact ⟨And.intro (hi.1.1) (And.intro (hi.1.2.1) (hi.1.2.2)), And.intro (hi.2.1.1) (hi.2.1.2), oq_54f49eb5 hi.2.2.1, oq_5bf54478 g1001⟩ | omega) (by first | exact qk_me hm (by decide) (oq_2265a080 g1001) | omega) kx
        ·
          refine z_aload_n X (x := A 25) rfl (List.Mem.tail _ (List.Mem.head _)) (s_getR X 25 rfl (c518_ok rfl) rfl rfl (z_load X (x := e1003) rfl (List.Mem.head _) (z_ald X 26 rfl (c518_ok rfl) rfl (by first | exact oq_7a1025bf g1004 hps1002.2.1 | omega) (show e1003 < 128 by first | exact oq_31b2bf10 hps1002.2.2 | omega) (cbig_ok rfl) ?_)))
          have b1005 := bc_21 I (show (e1003).toNat < 128 by first | exact oq_c7f4e9c1 hps1002.2.2 | omega)
          refine z_if_lt X (t := 45) rfl rfl (rng_to _) (fun g1006 => ?_) (fun g1006 => ?_)
          ·
            refine z_inc X (x := g) (lv' := [(3, .int (Int32.ofInt (g + 1))), (4, .int (Int32.ofInt e1003)), (0, .ref (A 25)), (1, .int (Int32.ofInt xv)), (2, .int (Int32.ofInt bi))]) rfl (by decide) (List.Mem.tail _ (List.Mem.tail _ (List.Mem.tail _ (List.Mem.tail _ (List.Mem.head _))))) (fun _ h => h) (z_goto X (t := 4) rfl rfl (WS_pq [2, 3, 4, 0] (lv' := [(0, .ref (A 25)), (1, .int (Int32.ofInt xv)), (2, .int (Int32.ofInt bi)), (3, .int (Int32.ofInt (g + 1)))]) rfl ?_))
            exact ih _ xv bi (g + 1) I F (pbq_n (c := e1003) hq (by first | (clear g1004; omega) | omega) (by rw [show x = xv by first | (clear g1004; omega) | omega]; exact hps1002.1) (by show e1003 = -1 ∨ iC s 21 (e1003 : Int).toNat < 0; have z := (fm_c F List.not_mem_nil : iC t 21 (e1003 : Int).toNat = iC s 21 (e1003 : Int).toNat); omega)) (by first | exact ⟨And.intro (hi.1.1) (And.intro (hi.1.2.1) (hi.1.2.2)), And.intro (hi.2.1.1) (hi.2.1.2), oq_54f49eb5 hi.2.2.1, oq_5bf54478 g1001⟩ | omega) (by first | exact qk_me hm (by decide) (oq_2265a080 g1001) | omega) kx
          ·
            refine z_load_n X (x := bi) rfl (List.Mem.tail _ (List.Mem.tail _ (List.Mem.tail _ (List.Mem.head _)))) (z_const X rfl (z_aload_n X (x := A 25) rfl (List.Mem.tail _ (List.Mem.head _)) (s_getR X 25 rfl (c518_ok rfl) rfl rfl (z_load X (x := e1003) rfl (List.Mem.head _) (z_ald X 26 rfl (c518_ok rfl) rfl (by first | exact oq_7a1025bf g1004 hps1002.2.1 | omega) (show e1003 < 128 by first | exact oq_31b2bf10 hps1002.2.2 | omega) (cbig_ok rfl) ?_)))))
            have b1007 := bc_21 I (show (e1003).toNat < 128 by first | exact oq_c7f4e9c1 hps1002.2.2 | omega)
            refine z_bshl X rfl (z_anyV (fun y1008 hy1008 ey1008 => ?_))
            refine w_ior X.1 (ax_d X (show cdA 39 43 = some (.ior, 1, 0, 0, 0) from rfl)) (z_anyV (fun y1009 hy1009 ey1009 => ?_))
            refine z_store_n X (lv' := [(2, .int (Int32.ofInt y1009)), (4, .int (Int32.ofInt e1003)), (0, .ref (A 25)), (1, .int (Int32.ofInt xv)), (3, .int (Int32.ofInt g))]) rfl (by decide) (fun _ h => h) (z_inc X (x := g) (lv' := [(3, .int (Int32.ofInt (g + 1))), (2, .int (Int32.ofInt y1009)), (4, .int (Int32.ofInt e1003)), (0, .ref (A 25)), (1, .int (Int32.ofInt xv))]) rfl (by decide) (List.Mem.tail _ (List.Mem.tail _ (List.Mem.tail _ (List.Mem.tail _ (List.Mem.head _))))) (fun _ h => h) (z_goto X (t := 4) rfl rfl (WS_pq [3, 4, 1, 0] (lv' := [(0, .ref (A 25)), (1, .int (Int32.ofInt xv)), (2, .int (Int32.ofInt y1009)), (3, .int (Int32.ofInt (g + 1)))]) rfl ?_)))
            exact ih _ xv y1009 (g + 1) I F (pbq_y (c := e1003) hq (by first | (clear g1004; omega) | omega) (by rw [show x = xv by first | (clear g1004; omega) | omega]; exact hps1002.1) (by first | (clear g1004; omega) | omega) (show (iC t 21 (e1003).toNat) = iC s 21 (e1003 : Int).toNat by have z := (fm_c F List.not_mem_nil : iC t 21 (e1003 : Int).toNat = iC s 21 (e1003 : Int).toNat); omega) (by first | (clear g1004; omega) | omega) ey1008 ey1009) (by first | exact ⟨And.intro (hi.1.1) (And.intro (hi.1.2.1) (hi.1.2.2)), And.intro (hy1009.1) (hy1009.2), oq_54f49eb5 hi.2.2.1, oq_5bf54478 g1001⟩ | omega) (by first | exact qk_me hm (by decide) (oq_2265a080 g1001) | omega) kx
  refine z_const X rfl (z_store_n X (lv' := [(2, .int (Int32.ofInt 0)), (0, .ref (A 25)), (1, .int (Int32.ofInt x))]) rfl (by decide) (fun _ h => h) (z_const X rfl (z_store_n X (lv' := [(3, .int (Int32.ofInt 0)), (2, .int (Int32.ofInt 0)), (0, .ref (A 25)), (1, .int (Int32.ofInt x))]) rfl (by decide) (fun _ h => h) (WS_pq [2, 3, 1, 0] (lv' := [(0, .ref (A 25)), (1, .int (Int32.ofInt x)), (2, .int (Int32.ofInt 0)), (3, .int (Int32.ofInt 0))]) rfl (L4 ((6 - 0 : Int).toNat + 1) s x 0 0 I F pbq_0 (by first | exact ⟨And.intro (by decide) (And.intro (p0.1) (p0.2)), And.intro (by decide) (by decide), by decide, by decide⟩ | omega) (Nat.lt_succ_self _) ?_)))))
  intro s1 x2 x3 Is1 Fs1 Qs1 hs1
  refine z_load_n X (x := x2) rfl (List.Mem.tail _ (List.Mem.tail _ (List.Mem.head _))) ?_
  exact w_iret X.1 q hRt rfl (ax_d X (show cdA 39 52 = some (.ireturn, 1, 0, 0, 0) from rfl)) (Nat.zero_le _) (Nat.zero_le _) ⟨_, rfl, Is1, Fs1, x2, rfl, ⟨by first | exact hs1.1.1 | omega, by first | exact hs1.1.2 | omega⟩, (by have z := Qs1; rw [show x3 = 6 by omega] at z; exact z)⟩
set_option maxRecDepth 4000 in
theorem c2_compare3 (G : GX l s0 D tys a0 dT) (I : Bd s) {x y z : Int} (p0 : 0 ≤ x ∧ x ≤ 127) (p1 : 0 ≤ y ∧ y ≤ 7) (p2 : rng z) : CT l s0 D A dT 26 (rmN 26) [.ref (A 41), .int (Int32.ofInt x), .int (Int32.ofInt y), .int (Int32.ofInt z)] s (fun o t => Bd t ∧ Fm [25, 26, 27] [] s t ∧ o = .inl none ∧ ((z < iI s 27 ∧ iI t 27 = z ∧ iI t 25 = x ∧ iI t 26 = y) ∨ (iI s 27 ≤ z ∧ iI t 27 = iI s 27 ∧ iI t 25 = iI s 25 ∧ iI t 26 = iI s 26))) := by
  refine ct_ofX G (by decide) (Nat.le_of_ble_eq_true rfl) (fun k X E ET hRt hXt q => ?_)
  show WS k 0 [(0, .ref (A 41)), (1, .int (Int32.ofInt x)), (2, .int (Int32.ofInt y)), (3, .int (Int32.ofInt z))] [] _ 0 0
  have F : Fm [25, 26, 27] [] s s := fm_rf _ _ s
  have b1 := bi_25 I
  have b2 := bi_26 I
  have b3 := bi_27 I
  refine z_load_n X (x := z) rfl (List.Mem.tail _ (List.Mem.tail _ (List.Mem.tail _ (List.Mem.head _)))) (z_aload_n X (x := A 41) rfl (List.Mem.head _) (z_getI X 41 rfl (c518_ok rfl) rfl rfl ?_))
  have b4 := bi_27 I
  refine z_icmp_ge X (t := 23) rfl rfl ⟨by first | exact p2.1 | omega, by first | exact p2.2 | omega⟩ (rng_to _) (fun g5 => ?_) (fun g5 => ?_)
  ·
    exact w_vret X.1 q hRt (ax_d X (show cdA 26 23 = some (.return_, 1, 0, 0, 0) from rfl)) (Nat.zero_le _) (Nat.zero_le _) ⟨_, rfl, I, F, rfl, by first | exact Or.inr (And.intro (g5) (And.intro (by decide) (And.intro (by decide) (by decide)))) | omega⟩
  ·
    refine z_aload_n X (x := A 41) rfl (List.Mem.head _) (z_load_n X (x := z) rfl (List.Mem.tail _ (List.Mem.tail _ (List.Mem.tail _ (List.Mem.head _)))) (s_putI X 41 rfl (c518_ok rfl) rfl rfl (by decide) rfl rfl rfl (wd_gen (fun s6 hs6 => ?_))))
    have Is6 : Bd s6 := eqB hs6 (bd_I I (show ((-2147483648) : Int) ≤ z ∧ z ≤ 2147483647 by first | exact ⟨p2.1, p2.2⟩ | omega) ⟨by first | exact p2.1 | omega, by first | exact p2.2 | omega⟩)
    have Fs6 := eqF hs6 (fm_I F (inl_ok (a := 27) rfl))
    have vs6 : iI s6 27 = z := eqI hs6 (iI_u ⟨by first | exact p2.1 | omega, by first | exact p2.2 | omega⟩)
    have ws6_25 : iI s6 25 = iI s 25 := eqI hs6 rfl
    have ws6_26 : iI s6 26 = iI s 26 := eqI hs6 rfl
    refine z_aload_n X (x := A 41) rfl (List.Mem.head _) (z_load_n X (x := x) rfl (List.Mem.tail _ (List.Mem.head _)) (s_putI X 41 rfl (c518_ok rfl) rfl rfl (by decide) rfl rfl rfl (wd_gen (fun s7 hs7 => ?_))))
    have Is7 : Bd s7 := eqB hs7 (bd_I Is6 (show ((-1) : Int) ≤ x ∧ x ≤ 127 by first | exact ⟨oq_ca54ea22 p0.1, p0.2⟩ | omega) ⟨by first | exact oq_fa4e5087 p0.1 | omega, by first | exact oq_07d346ce p0.2 | omega⟩)
    have Fs7 := eqF hs7 (fm_I Fs6 (inl_ok (a := 25) rfl))
    have vs7 : iI s7 25 = x := eqI hs7 (iI_u ⟨by first | exact oq_fa4e5087 p0.1 | omega, by first | exact oq_07d346ce p0.2 | omega⟩)
    have ws7_26 : iI s7 26 = iI s6 26 := eqI hs7 rfl
    have ws7_27 : iI s7 27 = iI s6 27 := eqI hs7 rfl
    refine z_aload_n X (x := A 41) rfl (List.Mem.head _) (z_load_n X (x := y) rfl (List.Mem.tail _ (List.Mem.tail _ (List.Mem.head _))) (s_putI X 41 rfl (c518_ok rfl) rfl rfl (by decide) rfl rfl rfl (wd_gen (fun s8 hs8 => ?_))))
    have Is8 : Bd s8 := eqB hs8 (bd_I Is7 (show (0 : Int) ≤ y ∧ y ≤ 7 by first | exact ⟨p1.1, p1.2⟩ | omega) ⟨by first | exact oq_fa4e5087 p1.1 | omega, by first | exact oq_0e78ca7d p1.2 | omega⟩)
    have Fs8 := eqF hs8 (fm_I Fs7 (inl_ok (a := 26) rfl))
    have vs8 : iI s8 26 = y := eqI hs8 (iI_u ⟨by first | exact oq_fa4e5087 p1.1 | omega, by first | exact oq_0e78ca7d p1.2 | omega⟩)
    have ws8_25 : iI s8 25 = iI s7 25 := eqI hs8 rfl
    have ws8_27 : iI s8 27 = iI s7 27 := eqI hs8 rfl
    exact w_vret X.1 q hRt (ax_d X (show cdA 26 23 = some (.return_, 1, 0, 0, 0) from rfl)) (Nat.zero_le _) (Nat.zero_le _) ⟨_, rfl, Is8, Fs8, rfl, by first | exact Or.inl (And.intro (g5) (And.intro (oq_d0d2714e ws8_27 vs6 ws7_27) (And.intro (oq_1aa5be9e ws8_25 vs7) (vs8)))) | omega⟩
set_option maxRecDepth 4000 in
theorem c9_visited3 (G : GX l s0 D tys a0 dT) {U : AirD} (I : Bd s) (jAIR : AIR s) (jCDJ : CDJ U s) {y : Int} (p0 : 0 ≤ y ∧ y ≤ 127) : CT l s0 D A dT 122 (rmN 122) [.ref (A 3), .int (Int32.ofInt y)] s (fun o t => Bd t ∧ Fm [] [] s t ∧ ∃ e, o = .inl (some (.int (Int32.ofInt e))) ∧ rng e ∧ ((e = 0 ∨ e = 1) ∧ (e = 0 → noV U y))) := by
  refine ct_ofX G (by decide) (Nat.le_of_ble_eq_true rfl) (fun k X E ET hRt hXt q => ?_)
  show WS k 0 [(0, .ref (A 3)), (1, .int (Int32.ofInt y))] [] _ 0 0
  have F : Fm [] [] s s := fm_rf _ _ s
  have b1 := bi_9 I
  have L2 : ∀ (n : Nat) (t : PS) (yv c : Int), Bd t → Fm [] [] s t → AIR t → CDJ U t → (NVQ U y c) → ((yv = y ∧ 0 ≤ yv ∧ yv ≤ 127) ∧ 0 ≤ c ∧ c ≤ iI s 9 ∧ iI t 9 = iI s 9) → (12 - c : Int).toNat < n → (∀ (t' : PS) (c' : Int), Bd t' → Fm [] [] s t' → AIR t' → CDJ U t' → (NVQ U y c') → (c' = iI s 9) → WS k 27 [(0, .ref (A 3)), (1, .int (Int32.ofInt yv)), (2, .int (Int32.ofInt c'))] [] (Wd A dT t') 0 0) → WS k 2 [(0, .ref (A 3)), (1, .int (Int32.ofInt yv)), (2, .int (Int32.ofInt c))] [] (Wd A dT t) 0 0 := by
    intro n
    induction n with
    | zero =>
      intro t yv c I F jjAIR jjCDJ hq hi hm kx
      exact absurd hm (Nat.not_lt_zero _)
    | succ n ih =>
      intro t yv c I F jjAIR jjCDJ hq hi hm kx
      have b1001 := bi_9 I
      refine z_load_n X (x := c) rfl (List.Mem.tail _ (List.Mem.tail _ (List.Mem.head _))) (z_aload_n X (x := A 3) rfl (List.Mem.head _) (z_getI X 3 rfl (c518_ok rfl) rfl rfl ?_))
      have b1002 := bi_9 I
      refine z_icmp_ge X (t := 27) rfl rfl ⟨by first | exact oq_fa4e5087 hi.2.1 | omega, by first | exact oq_39d2cc6e hi.2.2.1 b1.2 | omega⟩ (rng_to _) (fun g1003 => ?_) (fun g1003 => ?_)
      ·
        refine WS_pq [0, 1, 2] (lv' := [(0, .ref (A 3)), (1, .int (Int32.ofInt yv)), (2, .int (Int32.ofInt c))]) rfl ?_
        exact kx _ c I F jjAIR jjCDJ hq (by first | exact oq_537ca82a hi.2.2.1 g1003 hi.2.2.2 | omega)
      ·
        refine z_aload_n X (x := A 3) rfl (List.Mem.head _) (z_load_n X (x := c) rfl (List.Mem.tail _ (List.Mem.tail _ (List.Mem.head _))) (z_load_n X (x := yv) rfl (List.Mem.tail _ (List.Mem.head _)) (z_callV X 3 (rm := rmN 123) (As := [.int (Int32.ofInt c), .int (Int32.ofInt yv)]) (st := []) rfl rfl (by decide) rfl (by rw [E.1, E.2.1, E.2.2.1]; exact c9_comesToM G I (by first | exact ⟨hi.2.1, oq_e4d7f3c5 g1003 b1002.2⟩ | omega) (by first | exact ⟨hi.1.2.1, hi.1.2.2⟩ | omega)) ⟨by rw [E.2.2.2]; exact (show (rmN 123).frames + 1 ≤ (rmN 122).frames by decide), by rw [E.2.2.2]; exact (show 8 + (mNL (miB 123) + 11) + (rmN 123).locals ≤ (rmN 122).locals by decide), by rw [E.2.2.2]; exact (show 0 + (rmN 123).cells ≤ (rmN 122).cells by decide), by rw [E.2.2.2]; exact (show 0 + (rmN 123).slots ≤ (rmN 122).slots by decide)⟩ (Nat.le_of_ble_eq_true rfl) (fun vv s1004 hq => ?_) (fun ee s1004 hq => ?_))))
        rotate_left
        · obtain ⟨rfl, e1005, hv, hrs1004, hps1004⟩ := hq; cases hv
        obtain ⟨rfl, e1005, hv, hrs1004, hps1004⟩ := hq
        cases hv
        show WS k 16 [(0, .ref (A 3)), (1, .int (Int32.ofInt yv)), (2, .int (Int32.ofInt c))] [.int (Int32.ofInt e1005)] (Wd A dT t) 0 0
        refine z_if_eq X (t := 21) rfl rfl hrs1004 (fun g1006 => ?_) (fun g1006 => ?_)
        ·
          refine z_inc X (x := c) (lv' := [(2, .int (Int32.ofInt (c + 1))), (0, .ref (A 3)), (1, .int (Int32.ofInt yv))]) rfl (by decide) (List.Mem.tail _ (List.Mem.tail _ (List.Mem.head _))) (fun _ h => h) (z_goto X (t := 2) rfl rfl (WS_pq [1, 2, 0] (lv' := [(0, .ref (A 3)), (1, .int (Int32.ofInt yv)), (2, .int (Int32.ofInt (c + 1)))]) rfl ?_))
          exact ih _ yv (c + 1) I F jjAIR jjCDJ (nvq_up hq jjAIR jjCDJ (by first | (clear hps1004; omega) | omega) (by first | (clear hps1004; omega) | omega) (or_0 (by rw [show y = yv by first | (clear hps1004; omega) | omega]; exact hps1004) (by first | (clear hps1004; omega) | omega))) (by first | exact ⟨And.intro (hi.1.1) (And.intro (hi.1.2.1) (hi.1.2.2)), oq_54f49eb5 hi.2.1, oq_8a89b3ae g1003 hi.2.2.2, hi.2.2.2⟩ | omega) (by first | exact qk_me hm (by decide) (oq_b575e8c1 g1003 b1002.2) | omega) kx
        ·
          refine z_const X rfl ?_
          exact w_iret X.1 q hRt (nar_ret (by first | exact Or.inr (by decide) | omega)) (ax_d X (show cdA 122 20 = some (.ireturn, 1, 0, 0, 0) from rfl)) (Nat.zero_le _) (Nat.zero_le _) ⟨_, rfl, I, F, 1, rfl, (by decide), ⟨Or.inr rfl, fun h => absurd h (by decide)⟩⟩
  refine z_const X rfl (z_store_n X (lv' := [(2, .int (Int32.ofInt 0)), (0, .ref (A 3)), (1, .int (Int32.ofInt y))]) rfl (by decide) (fun _ h => h) (WS_pq [1, 2, 0] (lv' := [(0, .ref (A 3)), (1, .int (Int32.ofInt y)), (2, .int (Int32.ofInt 0))]) rfl (L2 ((12 - 0 : Int).toNat + 1) s y 0 I F jAIR jCDJ (fun x hx => absurd hx (by omega)) (by first | exact ⟨And.intro (by decide) (And.intro (p0.1) (p0.2)), by decide, b1.1, by decide⟩ | omega) (Nat.lt_succ_self _) ?_)))
  intro s2 x3 Is2 Fs2 JAIR_s2 JCDJ_s2 Qs2 hs2
  have b4 := bi_9 Is2
  refine z_const X rfl ?_
  exact w_iret X.1 q hRt (nar_ret (by first | exact Or.inl (by decide) | omega)) (ax_d X (show cdA 122 28 = some (.ireturn, 1, 0, 0, 0) from rfl)) (Nat.zero_le _) (Nat.zero_le _) ⟨_, rfl, Is2, Fs2, 0, rfl, (by decide), ⟨Or.inl rfl, fun _ => nvq_end Qs2 (by have z := jCDJ.1.1; omega)⟩⟩
set_option maxRecDepth 4000 in
theorem c2_matter3 (G : GX l s0 D tys a0 dT) {U : AirD} (I : Bd s) (jAIR : AIR s) (jCDJ : CDJ U s) {y : Int} (p0 : 0 ≤ y ∧ y ≤ 127) : CT l s0 D A dT 24 (rmN 24) [.ref (A 41), .int (Int32.ofInt y)] s (fun o t => Bd t ∧ Fm [] [] s t ∧ ∃ e, o = .inl (some (.int (Int32.ofInt e))) ∧ rng e ∧ ((e = 0 ∨ e = 1) ∧ MMT U y s e)) := by
  refine ct_ofX G (by decide) (Nat.le_of_ble_eq_true rfl) (fun k X E ET hRt hXt q => ?_)
  show WS k 0 [(0, .ref (A 41)), (1, .int (Int32.ofInt y))] [] _ 0 0
  have F : Fm [] [] s s := fm_rf _ _ s
  have b1 := bi_15 I
  refine z_aload_n X (x := A 41) rfl (List.Mem.head _) (s_getR X 41 rfl (c518_ok rfl) rfl rfl (s_getR X 31 rfl (c518_ok rfl) rfl rfl (z_getI X 19 rfl (c518_ok rfl) rfl rfl ?_)))
  have b2 := bi_15 I
  refine z_if_ne X (t := 24) rfl rfl (rng_to _) (fun g3 => ?_) (fun g3 => ?_)
  ·
    refine z_const X rfl (z_goto X (t := 29) rfl rfl ?_)
    exact w_iret X.1 q hRt (nar_ret (by first | exact Or.inr (by decide) | omega)) (ax_d X (show cdA 24 29 = some (.ireturn, 1, 0, 0, 0) from rfl)) (Nat.zero_le _) (Nat.zero_le _) ⟨_, rfl, I, F, 1, rfl, (by decide), ⟨Or.inr rfl, fun h => absurd h (by decide)⟩⟩
  ·
    refine z_aload_n X (x := A 41) rfl (List.Mem.head _) (s_getR X 41 rfl (c518_ok rfl) rfl rfl (z_load_n X (x := y) rfl (List.Mem.tail _ (List.Mem.head _)) (zcV_i0 X E 3 (As := [.int (Int32.ofInt y)]) (st := []) rfl rfl rfl rfl (c9_visited3 G I jAIR jCDJ (by first | exact ⟨p0.1, p0.2⟩ | omega)) rfl (Nat.le_of_ble_eq_true rfl) (fun s4 e5 Is4 Fs4 hrs4 hps4 => ?_))))
    have Gs4 := fm_tq F Fs4 rfl rfl
    have ws4_15 : iI s4 15 = iI s 15 := fm_iq Fs4 rfl
    refine z_if_eq X (t := 28) rfl rfl hrs4 (fun g6 => ?_) (fun g6 => ?_)
    ·
      refine z_const X rfl ?_
      exact w_iret X.1 q hRt (nar_ret (by first | exact Or.inl (by decide) | omega)) (ax_d X (show cdA 24 29 = some (.ireturn, 1, 0, 0, 0) from rfl)) (Nat.zero_le _) (Nat.zero_le _) ⟨_, rfl, Is4, Gs4, 0, rfl, (by decide), ⟨Or.inl rfl, fun _ => ⟨hps4.2 (by first | (clear hps4; omega) | omega), by first | (clear hps4; omega) | omega⟩⟩⟩
    ·
      refine z_const X rfl (z_goto X (t := 29) rfl rfl ?_)
      exact w_iret X.1 q hRt (nar_ret (by first | exact Or.inr (by decide) | omega)) (ax_d X (show cdA 24 29 = some (.ireturn, 1, 0, 0, 0) from rfl)) (Nat.zero_le _) (Nat.zero_le _) ⟨_, rfl, Is4, Gs4, 1, rfl, (by decide), ⟨Or.inr rfl, fun h => absurd h (by decide)⟩⟩
set_option maxRecDepth 4000 in
theorem c2_weigh3 (G : GX l s0 D tys a0 dT) {U : AirD} (I : Bd s) (jAIR : AIR s) (jCPL : CPL s) (jCDJ : CDJ U s) (jPMJ : PMJ s) {x : Int} (p0 : 0 ≤ x ∧ x ≤ 7) : CT l s0 D A dT 21 (rmN 21) [.ref (A 41), .int (Int32.ofInt x)] s (fun o t => Bd t ∧ Fm [22, 23, 24] [33, 26, 27, 28, 29, 30, 31, 32, 20, 36, 37] s t ∧ ∃ e, o = .inl (some (.int (Int32.ofInt e))) ∧ rng e ∧ (UPD 36 x (pkH U (pcS (pfC s) x)) s t ∧ UPD 37 x (iaH (pcS (pfC s) x) (uW U) (uT U) (uN U)) s t ∧ ((e = 1 ∧ pkH U (pcS (pfC s) x) ≤ iC s 24 (x : Int).toNat) ∨ (e = 0 ∧ iC s 24 (x : Int).toNat < pkH U (pcS (pfC s) x))))) := by
  refine ct_ofX G (by decide) (Nat.le_of_ble_eq_true rfl) (fun k X E ET hRt hXt q => ?_)
  show WS k 0 [(0, .ref (A 41)), (1, .int (Int32.ofInt x))] [] _ 0 0
  have F : Fm [22, 23, 24] [33, 26, 27, 28, 29, 30, 31, 32, 20, 36, 37] s s := fm_rf _ _ s
  have aw0_36 : SAM 36 s s := sam_rf
  have aw0_37 : SAM 37 s s := sam_rf
  have aw0_24 : SAM 24 s s := sam_rf
  refine z_aload_n X (x := A 41) rfl (List.Mem.head _) (s_getR X 41 rfl (c518_ok rfl) rfl rfl (z_aload_n X (x := A 41) rfl (List.Mem.head _) (s_getR X 41 rfl (c518_ok rfl) rfl rfl (s_getR X 25 rfl (c518_ok rfl) rfl rfl (z_load_n X (x := x) rfl (List.Mem.tail _ (List.Mem.head _)) (z_lalE X 27 rfl (by decide) rfl (by first | exact p0.1 | omega) (show x < 8 by first | exact oq_aaea290e p0.2 | omega) (by decide) (z_aload_n X (x := A 41) rfl (List.Mem.head _) (s_getR X 41 rfl (c518_ok rfl) rfl rfl (s_getR X 25 rfl (c518_ok rfl) rfl rfl (z_load_n X (x := x) rfl (List.Mem.tail _ (List.Mem.head _)) (z_lalE X 28 rfl (by decide) rfl (by first | exact p0.1 | omega) (show x < 8 by first | exact oq_aaea290e p0.2 | omega) (by decide) ?_)))))))))))
  refine z_const X rfl (zcV_v0 X E 31 (As := [.long (gD s 22 (x).toNat), .long (gD s 23 (x).toNat), .int (Int32.ofInt 1)]) (st := []) rfl rfl rfl rfl (c0_listen3 G I (by first | exact ⟨by decide, by decide⟩ | omega)) rfl (Nat.le_of_ble_eq_true rfl) (fun s1 Is1 Fs1 hps1 => ?_))
  have Gs1 := fm_tq F Fs1 rfl rfl
  have cw3 : iC s1 36 (x).toNat = iC s 36 (x).toNat := fm_c Fs1 (by decide)
  have JAIR_s1 : AIR s1 := AIR_fm Fs1 (by decide) jAIR
  have JCPL_s1 : CPL s1 := CPL_fm Fs1 (by decide) jCPL
  have JCDJ_s1 : CDJ U s1 := CDJ_fm Fs1 (by decide) jCDJ
  have aws1_36 : SAM 36 s s1 := sam_ts aw0_36 (sam_fm Fs1 (by decide))
  have aws1_37 : SAM 37 s s1 := sam_ts aw0_37 (sam_fm Fs1 (by decide))
  have aws1_24 : SAM 24 s s1 := sam_ts aw0_24 (sam_fm Fs1 (by decide))
  refine z_aload_n X (x := A 41) rfl (List.Mem.head _) (s_getR X 41 rfl (c518_ok rfl) rfl rfl (z_load_n X (x := x) rfl (List.Mem.tail _ (List.Mem.head _)) (z_aload_n X (x := A 41) rfl (List.Mem.head _) (s_getR X 41 rfl (c518_ok rfl) rfl rfl (zcV_i1 X E 31 (As := []) (st := [.int (Int32.ofInt x), .ref (A 43)]) rfl rfl rfl rfl (c0_findPeak3 G Is1 JAIR_s1 JCPL_s1 hps1.1 JCDJ_s1 hps1.2 ) rfl (Nat.le_of_ble_eq_true rfl) (fun s4 e5 Is4 Fs4 JHEH_s4 hrs4 hps4 => ?_))))))
  have Gs4 := fm_tq Gs1 Fs4 rfl rfl
  have cw6 : iC s4 36 (x).toNat = iC s1 36 (x).toNat := fm_c Fs4 (by decide)
  have JAIR_s4 : AIR s4 := AIR_fm Fs4 (by decide) JAIR_s1
  have JCDJ_s4 : CDJ U s4 := CDJ_fm Fs4 (by decide) JCDJ_s1
  have JLSN_s4 : LSN (gD s 22 (x : Int).toNat) (gD s 23 (x : Int).toNat) s4 := LSN_fm Fs4 (by decide) hps1.1
  have aws4_36 : SAM 36 s s4 := sam_ts aws1_36 (sam_fm Fs4 (by decide))
  have aws4_37 : SAM 37 s s4 := sam_ts aws1_37 (sam_fm Fs4 (by decide))
  have aws4_24 : SAM 24 s s4 := sam_ts aws1_24 (sam_fm Fs4 (by decide))
  have hpk : e5 = pkH U (pcS (pfC s) x) := by rw [← pm_eq (p := x) jPMJ (by omega)]; exact hps4.1
  refine z_ast X 43 rfl (c518_ok rfl) rfl (by first | exact p0.1 | omega) (show x < 8 by first | exact oq_aaea290e p0.2 | omega) (cbig_ok rfl) (wd_gen (fun s7 hs7 => ?_))
  have Is7 : Bd s7 := eqB hs7 (bd_C Is4 (show ((-2147483648) : Int) ≤ e5 ∧ e5 ≤ 2147483647 by omega) hrs4)
  have Fs7 := eqF hs7 (fm_C Gs4 (inl_ok (a := 36) rfl))
  have vs7 : iC s7 36 (x).toNat = e5 := eqC hs7 (iC_u hrs4)
  have aws7_36 : UPD 36 (x) e5 s s7 := by rw [hs7]; exact upd_put aws4_36 hrs4
  have aws7_37 : SAM 37 s s7 := by rw [hs7]; exact sam_C (by decide) aws4_37
  have aws7_24 : SAM 24 s s7 := by rw [hs7]; exact sam_C (by decide) aws4_24
  have fs7 : Fm [] [36] s4 s7 := by rw [hs7]; exact fm_C (fm_rf _ _ _) (show 36 ∈ _ by decide)
  have JAIR_s7 : AIR s7 := AIR_fm fs7 (by decide) JAIR_s4
  have JCDJ_s7 : CDJ U s7 := CDJ_fm fs7 (by decide) JCDJ_s4
  have JLSN_s7 : LSN (gD s 22 (x : Int).toNat) (gD s 23 (x : Int).toNat) s7 := LSN_fm fs7 (by decide) JLSN_s4
  refine z_aload_n X (x := A 41) rfl (List.Mem.head _) (s_getR X 41 rfl (c518_ok rfl) rfl rfl (z_load_n X (x := x) rfl (List.Mem.tail _ (List.Mem.head _)) (z_aload_n X (x := A 41) rfl (List.Mem.head _) (s_getR X 41 rfl (c518_ok rfl) rfl rfl (zcV_i0 X E 31 (As := []) (st := [.int (Int32.ofInt x), .ref (A 44)]) rfl rfl rfl rfl (c0_kept3 G Is7 JAIR_s7 JLSN_s7 JCDJ_s7 ) rfl (Nat.le_of_ble_eq_true rfl) (fun s8 e9 Is8 Fs8 hrs8 hps8 => ?_))))))
  have Gs8 := fm_tq Fs7 Fs8 rfl rfl
  have cw10 : iC s8 36 (x).toNat = iC s7 36 (x).toNat := fm_c Fs8 (by decide)
  have aws8_36 : UPD 36 (x) e5 s s8 := upd_ts aws7_36 (sam_fm Fs8 (by decide))
  have aws8_37 : SAM 37 s s8 := sam_ts aws7_37 (sam_fm Fs8 (by decide))
  have aws8_24 : SAM 24 s s8 := sam_ts aws7_24 (sam_fm Fs8 (by decide))
  have hkc : e9 = iaH (pcS (pfC s) x) (uW U) (uT U) (uN U) := by rw [← pm_eq (p := x) jPMJ (by omega)]; exact hps8
  refine z_ast X 44 rfl (c518_ok rfl) rfl (by first | exact p0.1 | omega) (show x < 8 by first | exact oq_aaea290e p0.2 | omega) (cbig_ok rfl) (wd_gen (fun s11 hs11 => ?_))
  have Is11 : Bd s11 := eqB hs11 (bd_C Is8 (show ((-2147483648) : Int) ≤ e9 ∧ e9 ≤ 2147483647 by omega) hrs8)
  have Fs11 := eqF hs11 (fm_C Gs8 (inl_ok (a := 37) rfl))
  have aws11_36 : UPD 36 (x) e5 s s11 := by rw [hs11]; exact upd_C (by decide) aws8_36
  have aws11_37 : UPD 37 (x) e9 s s11 := by rw [hs11]; exact upd_put aws8_37 hrs8
  have aws11_24 : SAM 24 s s11 := by rw [hs11]; exact sam_C (by decide) aws8_24
  have cw12 : iC s11 36 (x).toNat = iC s8 36 (x).toNat := eqC hs11 (iC_a (by omega))
  have fs11 : Fm [] [37] s8 s11 := by rw [hs11]; exact fm_C (fm_rf _ _ _) (show 37 ∈ _ by decide)
  refine z_aload_n X (x := A 41) rfl (List.Mem.head _) (s_getR X 41 rfl (c518_ok rfl) rfl rfl (z_load_n X (x := x) rfl (List.Mem.tail _ (List.Mem.head _)) (z_ald X 43 rfl (c518_ok rfl) rfl (by first | exact p0.1 | omega) (show x < 8 by first | exact oq_aaea290e p0.2 | omega) (cbig_ok rfl) ?_)))
  have b13 := bc_36 Is11 (show (x).toNat < 8 by first | exact oq_c19a3aae p0.2 | omega)
  refine z_aload_n X (x := A 41) rfl (List.Mem.head _) (s_getR X 41 rfl (c518_ok rfl) rfl rfl (s_getR X 25 rfl (c518_ok rfl) rfl rfl (z_load_n X (x := x) rfl (List.Mem.tail _ (List.Mem.head _)) (z_ald X 29 rfl (c518_ok rfl) rfl (by first | exact p0.1 | omega) (show x < 8 by first | exact oq_aaea290e p0.2 | omega) (cbig_ok rfl) ?_))))
  have b14 := bc_24 Is11 (show (x).toNat < 8 by first | exact oq_c19a3aae p0.2 | omega)
  have ar15 : iC s11 24 (x).toNat = iC s 24 (x).toNat := aws11_24 _
  refine z_icmp_gt X (t := 74) rfl rfl (rng_to _) (rng_to _) (fun g16 => ?_) (fun g16 => ?_)
  ·
    refine z_const X rfl ?_
    exact w_iret X.1 q hRt (nar_ret (by first | exact Or.inl (by decide) | omega)) (ax_d X (show cdA 21 75 = some (.ireturn, 1, 0, 0, 0) from rfl)) (Nat.zero_le _) (Nat.zero_le _) ⟨_, rfl, Is11, Fs11, 0, rfl, (by decide), ⟨by have z := aws11_36; rw [hpk] at z; exact z, by have z := aws11_37; rw [hkc] at z; exact z, by first | exact oq_80f4368d g16 ar15 cw12 cw10 vs7 hpk | omega⟩⟩
  ·
    refine z_const X rfl (z_goto X (t := 75) rfl rfl ?_)
    exact w_iret X.1 q hRt (nar_ret (by first | exact Or.inr (by decide) | omega)) (ax_d X (show cdA 21 75 = some (.ireturn, 1, 0, 0, 0) from rfl)) (Nat.zero_le _) (Nat.zero_le _) ⟨_, rfl, Is11, Fs11, 1, rfl, (by decide), ⟨by have z := aws11_36; rw [hpk] at z; exact z, by have z := aws11_37; rw [hkc] at z; exact z, by first | exact oq_ae346a2d g16 ar15 cw12 cw10 vs7 hpk | omega⟩⟩
set_option maxRecDepth 4000 in
theorem c2_measure3 (G : GX l s0 D tys a0 dT) {U : AirD} (I : Bd s) (jAIR : AIR s) (jCPL : CPL s) (jCDJ : CDJ U s) (jPMJ : PMJ s)  : CT l s0 D A dT 20 (rmN 20) [.ref (A 41)] s (fun o t => Bd t ∧ Fm [22, 23, 24] [33, 26, 27, 28, 29, 30, 31, 32, 20, 36, 37, 35] s t ∧ o = .inl none ∧ (MEQ U (pfC s) 8 t)) := by
  refine ct_ofX G (by decide) (Nat.le_of_ble_eq_true rfl) (fun k X E ET hRt hXt q => ?_)
  show WS k 0 [(0, .ref (A 41))] [] _ 0 0
  have F : Fm [22, 23, 24] [33, 26, 27, 28, 29, 30, 31, 32, 20, 36, 37, 35] s s := fm_rf _ _ s
  have L2 : ∀ (n : Nat) (t : PS) (p : Int), Bd t → Fm [22, 23, 24] [33, 26, 27, 28, 29, 30, 31, 32, 20, 36, 37, 35] s t → AIR t → CPL t → CDJ U t → PMJ t → (MEQ U (pfC s) p t) → (0 ≤ p ∧ p ≤ 8) → (8 - p : Int).toNat < n → (∀ (t' : PS) (p' : Int), Bd t' → Fm [22, 23, 24] [33, 26, 27, 28, 29, 30, 31, 32, 20, 36, 37, 35] s t' → AIR t' → CPL t' → CDJ U t' → PMJ t' → (MEQ U (pfC s) p' t') → (p' = 8) → WS k 43 [(0, .ref (A 41)), (1, .int (Int32.ofInt p'))] [] (Wd A dT t') 0 0) → WS k 2 [(0, .ref (A 41)), (1, .int (Int32.ofInt p))] [] (Wd A dT t) 0 0 := by
    intro n
    induction n with
    | zero =>
      intro t p I F jjAIR jjCPL jjCDJ jjPMJ hq hi hm kx
      exact absurd hm (Nat.not_lt_zero _)
    | succ n ih =>
      intro t p I F jjAIR jjCPL jjCDJ jjPMJ hq hi hm kx
      refine z_load_n X (x := p) rfl (List.Mem.tail _ (List.Mem.head _)) (z_bipush X rfl (z_icmp_ge X (t := 43) rfl rfl ⟨by first | exact oq_fa4e5087 hi.1 | omega, by first | exact oq_d3f5d874 hi.2 | omega⟩ (by decide) (fun g1001 => ?_) (fun g1001 => ?_)))
      ·
        refine WS_pq [0, 1] (lv' := [(0, .ref (A 41)), (1, .int (Int32.ofInt p))]) rfl ?_
        exact kx _ p I F jjAIR jjCPL jjCDJ jjPMJ hq (by first | exact oq_73d3719d hi.2 g1001 | omega)
      ·
        refine z_aload_n X (x := A 41) rfl (List.Mem.head _) (s_getR X 41 rfl (c518_ok rfl) rfl rfl (z_load_n X (x := p) rfl (List.Mem.tail _ (List.Mem.head _)) (z_aload_n X (x := A 41) rfl (List.Mem.head _) (s_getR X 41 rfl (c518_ok rfl) rfl rfl (z_load_n X (x := p) rfl (List.Mem.tail _ (List.Mem.head _)) (z_callV X 25 (rm := rmN 30) (As := [.int (Int32.ofInt p)]) (st := [.int (Int32.ofInt p), .ref (A 42)]) rfl rfl (by decide) rfl (by rw [E.1, E.2.1, E.2.2.1]; exact c3_has3 G I jjPMJ (by first | exact ⟨hi.1, oq_78c639ed g1001⟩ | omega)) ⟨by rw [E.2.2.2]; exact (show (rmN 30).frames + 1 ≤ (rmN 20).frames by decide), by rw [E.2.2.2]; exact (show 8 + (mNL (miB 30) + 11) + (rmN 30).locals ≤ (rmN 20).locals by decide), by rw [E.2.2.2]; exact (show 0 + (rmN 30).cells ≤ (rmN 20).cells by decide), by rw [E.2.2.2]; exact (show 0 + (rmN 30).slots ≤ (rmN 20).slots by decide)⟩ (Nat.le_of_ble_eq_true rfl) (fun vv s1002 hq => ?_) (fun ee s1002 hq => ?_)))))))
        rotate_left
        · obtain ⟨rfl, e1003, hv, hrs1002, hps1002⟩ := hq; cases hv
        obtain ⟨rfl, e1003, hv, hrs1002, hps1002⟩ := hq
        have hps1002p := hps1002.2
        cases hv
        show WS k 21 [(0, .ref (A 41)), (1, .int (Int32.ofInt p))] [.int (Int32.ofInt e1003), .int (Int32.ofInt p), .ref (A 42)] (Wd A dT t) 0 0
        refine z_zast X 42 rfl (c518_ok rfl) rfl (by first | exact hi.1 | omega) (show p < 8 by first | exact g1001 | omega) (cbig_ok rfl) (by first | exact hps1002.1 | omega) (wd_gen (fun s1004 hs1004 => ?_))
        have Is1004 : Bd s1004 := eqB hs1004 (bd_C I (show (0 : Int) ≤ e1003 ∧ e1003 ≤ 1 by first | exact ⟨oq_e4aca38c hps1002.1, oq_14617724 hps1002.1⟩ | omega) hrs1002)
        have Fs1004 := eqF hs1004 (fm_C F (inl_ok (a := 35) rfl))
        have aws1004_35 : UPD 35 (p) e1003 t s1004 := by rw [hs1004]; exact upd_put (sam_rf (a := 35) (s := t)) hrs1002
        have aws1004_36 : SAM 36 t s1004 := by rw [hs1004]; exact sam_C (by decide) (sam_rf (a := 36) (s := t))
        have aws1004_37 : SAM 37 t s1004 := by rw [hs1004]; exact sam_C (by decide) (sam_rf (a := 37) (s := t))
        have fs1004 : Fm [] [35] t s1004 := by rw [hs1004]; exact fm_C (fm_rf _ _ _) (show 35 ∈ _ by decide)
        have JAIR_s1004 : AIR s1004 := AIR_fm fs1004 (by decide) jjAIR
        have JCPL_s1004 : CPL s1004 := CPL_fm fs1004 (by decide) jjCPL
        have JCDJ_s1004 : CDJ U s1004 := CDJ_fm fs1004 (by decide) jjCDJ
        have JPMJ_s1004 : PMJ s1004 := PMJ_fm fs1004 (by decide) jjPMJ
        have vP : iC s1004 35 (p : Int).toNat = e1003 := aws1004_35.1
        refine z_aload_n X (x := A 41) rfl (List.Mem.head _) (s_getR X 41 rfl (c518_ok rfl) rfl rfl (z_load_n X (x := p) rfl (List.Mem.tail _ (List.Mem.head _)) (z_zald X 42 rfl (c518_ok rfl) rfl (by first | exact hi.1 | omega) (show p < 8 by first | exact g1001 | omega) (cbig_ok rfl) ?_)))
        have b1005 := bc_35 Is1004 (show (p).toNat < 8 by first | exact oq_db4b3b8b g1001 | omega)
        refine z_if_eq X (t := 37) rfl rfl (rng_to _) (fun g1006 => ?_) (fun g1006 => ?_)
        ·
          refine z_inc X (x := p) (lv' := [(1, .int (Int32.ofInt (p + 1))), (0, .ref (A 41))]) rfl (by decide) (List.Mem.tail _ (List.Mem.head _)) (fun _ h => h) (z_goto X (t := 2) rfl rfl (WS_pq [1, 0] (lv' := [(0, .ref (A 41)), (1, .int (Int32.ofInt (p + 1)))]) rfl ?_))
          exact ih _ (p + 1) Is1004 Fs1004 JAIR_s1004 JCPL_s1004 JCDJ_s1004 JPMJ_s1004 (meq_up hq (by first | (clear hps1002; omega) | omega) aws1004_35 aws1004_36 aws1004_37 (by have z := hps1002.2; rw [show pfC t = pfC s from funext (fun j => fm_c F (by decide))] at z; exact z) (Or.inl ⟨by first | (clear hps1002; omega) | omega, rfl⟩)) (by first | exact ⟨oq_54f49eb5 hi.1, oq_0c7b19c3 g1001⟩ | omega) (by first | exact qk_me hm (by decide) (oq_9f368f35 g1001) | omega) kx
        ·
          refine z_aload_n X (x := A 41) rfl (List.Mem.head _) (z_load_n X (x := p) rfl (List.Mem.tail _ (List.Mem.head _)) (zcV_i0 X E 41 (As := [.int (Int32.ofInt p)]) (st := []) rfl rfl rfl rfl (c2_weigh3 G Is1004 JAIR_s1004 JCPL_s1004 JCDJ_s1004 JPMJ_s1004 (by first | exact ⟨hi.1, oq_78c639ed g1001⟩ | omega)) rfl (Nat.le_of_ble_eq_true rfl) (fun s1007 e1008 Is1007 Fs1007 hrs1007 hps1007 => ?_)))
          have hps1007p := And.intro hps1007.1 (hps1007.2.1)
          have Gs1007 := fm_tq Fs1004 Fs1007 rfl rfl
          have JAIR_s1007 : AIR s1007 := AIR_fm Fs1007 (by decide) JAIR_s1004
          have JCPL_s1007 : CPL s1007 := CPL_fm Fs1007 (by decide) JCPL_s1004
          have JCDJ_s1007 : CDJ U s1007 := CDJ_fm Fs1007 (by decide) JCDJ_s1004
          have JPMJ_s1007 : PMJ s1007 := PMJ_fm Fs1007 (by decide) JPMJ_s1004
          have aws1007_35 : SAM 35 s1004 s1007 := sam_ts (sam_rf (a := 35) (s := s1004)) (sam_fm Fs1007 (by decide))
          refine w_pop X.1 (ax_d X (show cdA 20 36 = some (.pop, 1, 0, 0, 0) from rfl)) rfl (z_inc X (x := p) (lv' := [(1, .int (Int32.ofInt (p + 1))), (0, .ref (A 41))]) rfl (by decide) (List.Mem.tail _ (List.Mem.head _)) (fun _ h => h) (z_goto X (t := 2) rfl rfl (WS_pq [1, 0] (lv' := [(0, .ref (A 41)), (1, .int (Int32.ofInt (p + 1)))]) rfl ?_)))
          exact ih _ (p + 1) Is1007 Gs1007 JAIR_s1007 JCPL_s1007 JCDJ_s1007 JPMJ_s1007 (meq_up hq (by first | (clear hps1007 g1006 hps1002; omega) | (clear g1006 hps1002; omega) | omega) aws1004_35 aws1004_36 aws1004_37 (by have z := hps1002.2; rw [show pfC t = pfC s from funext (fun j => fm_c F (by decide))] at z; exact z) (Or.inr ⟨by first | (clear hps1007 g1006 hps1002; omega) | (clear g1006 hps1002; omega) | omega, aws1007_35, by have z := hps1007.1; rw [show pfC s1004 = pfC s from funext (fun j => fm_c Fs1004 (by decide))] at z; exact z, by have z := hps1007.2.1; rw [show pfC s1004 = pfC s from funext (fun j => fm_c Fs1004 (by decide))] at z; exact z⟩)) (by first | exact ⟨oq_54f49eb5 hi.1, oq_0c7b19c3 g1001⟩ | omega) (by first | exact qk_me hm (by decide) (oq_9f368f35 g1001) | omega) kx
  refine z_const X rfl (z_store_n X (lv' := [(1, .int (Int32.ofInt 0)), (0, .ref (A 41))]) rfl (by decide) (fun _ h => h) (WS_pq [1, 0] (lv' := [(0, .ref (A 41)), (1, .int (Int32.ofInt 0))]) rfl (L2 ((8 - 0 : Int).toNat + 1) s 0 I F jAIR jCPL jCDJ jPMJ (fun p hp => absurd hp (by omega)) (by first | exact ⟨by decide, by decide⟩ | omega) (Nat.lt_succ_self _) ?_)))
  intro s1 x2 Is1 Fs1 JAIR_s1 JCPL_s1 JCDJ_s1 JPMJ_s1 Qs1 hs1
  exact w_vret X.1 q hRt (ax_d X (show cdA 20 43 = some (.return_, 1, 0, 0, 0) from rfl)) (Nat.zero_le _) (Nat.zero_le _) ⟨_, rfl, Is1, Fs1, rfl, (by have z := Qs1; rw [show x2 = 8 by omega] at z; exact z)⟩
set_option maxRecDepth 4000 in
theorem c2_price3 (G : GX l s0 D tys a0 dT) {U : AirD} (I : Bd s) (jAIR : AIR s) (jCDJ : CDJ U s)  : CT l s0 D A dT 22 (rmN 22) [.ref (A 41)] s (fun o t => Bd t ∧ Fm [] [] s t ∧ ∃ e, o = .inl (some (.int (Int32.ofInt e))) ∧ rng e ∧ (CSP (prN (sm (fun x => uT U x * ((uW U).2 x - 1)) (uN U)) s 8) (fun p => iC s 35 p ≠ 0) (fun p => iC s 36 p) e)) := by
  refine ct_ofX G (by decide) (Nat.le_of_ble_eq_true rfl) (fun k X E ET hRt hXt q => ?_)
  show WS k 0 [(0, .ref (A 41))] [] _ 0 0
  have F : Fm [] [] s s := fm_rf _ _ s
  have L20 : ∀ (n : Nat) (t : PS) (pr gr le an p : Int), Bd t → Fm [] [] s t → AIR t → CDJ U t → (Int32.ofInt pr = Int32.ofInt (prN (sm (fun x => uT U x * ((uW U).2 x - 1)) (uN U)) s (p : Int).toNat) ∧ MML (fun p => iC s 35 p ≠ 0) (fun p => iC s 36 p) p an gr le) → (rng pr ∧ rng gr ∧ rng le ∧ ((an = 0 ∧ gr = -2147483648 ∧ le = 2147483647) ∨ an = 1) ∧ 0 ≤ p ∧ p ≤ 8) → (8 - p : Int).toNat < n → (∀ (t' : PS) (pr' gr' le' an' p' : Int), Bd t' → Fm [] [] s t' → AIR t' → CDJ U t' → (Int32.ofInt pr' = Int32.ofInt (prN (sm (fun x => uT U x * ((uW U).2 x - 1)) (uN U)) s (p' : Int).toNat) ∧ MML (fun p => iC s 35 p ≠ 0) (fun p => iC s 36 p) p' an' gr' le') → (rng pr' ∧ rng gr' ∧ rng le' ∧ (an' = 0 ∨ an' = 1) ∧ p' = 8) → WS k 80 [(0, .ref (A 41)), (1, .int (Int32.ofInt pr')), (2, .int (Int32.ofInt gr')), (3, .int (Int32.ofInt le')), (4, .int (Int32.ofInt an')), (5, .int (Int32.ofInt p'))] [] (Wd A dT t') 0 0) → WS k 20 [(0, .ref (A 41)), (1, .int (Int32.ofInt pr)), (2, .int (Int32.ofInt gr)), (3, .int (Int32.ofInt le)), (4, .int (Int32.ofInt an)), (5, .int (Int32.ofInt p))] [] (Wd A dT t) 0 0 := by
    intro n
    induction n with
    | zero =>
      intro t pr gr le an p I F jjAIR jjCDJ hq hi hm kx
      exact absurd hm (Nat.not_lt_zero _)
    | succ n ih =>
      intro t pr gr le an p I F jjAIR jjCDJ hq hi hm kx
      refine z_load X (x := p) rfl (List.Mem.tail _ (List.Mem.tail _ (List.Mem.tail _ (List.Mem.tail _ (List.Mem.tail _ (List.Mem.head _)))))) (z_bipush X rfl (z_icmp_ge X (t := 80) rfl rfl ⟨by first | exact oq_fa4e5087 hi.2.2.2.2.1 | omega, by first | exact oq_d3f5d874 hi.2.2.2.2.2 | omega⟩ (by decide) (fun g1001 => ?_) (fun g1001 => ?_)))
      ·
        refine WS_pq [0, 1, 2, 3, 4, 5] (lv' := [(0, .ref (A 41)), (1, .int (Int32.ofInt pr)), (2, .int (Int32.ofInt gr)), (3, .int (Int32.ofInt le)), (4, .int (Int32.ofInt an)), (5, .int (Int32.ofInt p))]) rfl ?_
        exact kx _ pr gr le an p I F jjAIR jjCDJ hq (by first | exact ⟨And.intro (hi.1.1) (hi.1.2), And.intro (hi.2.1.1) (hi.2.1.2), And.intro (hi.2.2.1.1) (hi.2.2.1.2), oq_88f1d510 hi.2.2.2.1, oq_73d3719d hi.2.2.2.2.2 g1001⟩ | omega)
      ·
        refine z_aload_n X (x := A 41) rfl (List.Mem.head _) (s_getR X 41 rfl (c518_ok rfl) rfl rfl (z_load X (x := p) rfl (List.Mem.tail _ (List.Mem.tail _ (List.Mem.tail _ (List.Mem.tail _ (List.Mem.tail _ (List.Mem.head _)))))) (z_zald X 42 rfl (c518_ok rfl) rfl (by first | exact hi.2.2.2.2.1 | omega) (show p < 8 by first | exact g1001 | omega) (cbig_ok rfl) ?_)))
        have b1002 := bc_35 I (show (p).toNat < 8 by first | exact oq_db4b3b8b g1001 | omega)
        refine z_if_eq X (t := 74) rfl rfl (rng_to _) (fun g1003 => ?_) (fun g1003 => ?_)
        ·
          refine z_inc X (x := p) (lv' := [(5, .int (Int32.ofInt (p + 1))), (0, .ref (A 41)), (1, .int (Int32.ofInt pr)), (2, .int (Int32.ofInt gr)), (3, .int (Int32.ofInt le)), (4, .int (Int32.ofInt an))]) rfl (by decide) (List.Mem.tail _ (List.Mem.tail _ (List.Mem.tail _ (List.Mem.tail _ (List.Mem.tail _ (List.Mem.head _)))))) (fun _ h => h) (z_goto X (t := 20) rfl rfl (WS_pq [1, 2, 3, 4, 5, 0] (lv' := [(0, .ref (A 41)), (1, .int (Int32.ofInt pr)), (2, .int (Int32.ofInt gr)), (3, .int (Int32.ofInt le)), (4, .int (Int32.ofInt an)), (5, .int (Int32.ofInt (p + 1)))]) rfl ?_))
          exact ih _ pr gr le an (p + 1) I F jjAIR jjCDJ ⟨prn_n hq.1 (by omega) (by have z := (fm_c F List.not_mem_nil : iC t 35 (p : Int).toNat = iC s 35 (p : Int).toNat); omega), mml_n hq.2 (by omega) (fun h => h (by have z := (fm_c F List.not_mem_nil : iC t 35 (p : Int).toNat = iC s 35 (p : Int).toNat); omega))⟩ (by first | exact ⟨And.intro (hi.1.1) (hi.1.2), And.intro (hi.2.1.1) (hi.2.1.2), And.intro (hi.2.2.1.1) (hi.2.2.1.2), hi.2.2.2.1, oq_54f49eb5 hi.2.2.2.2.1, oq_0c7b19c3 g1001⟩ | omega) (by first | exact qk_me hm (by decide) (oq_9f368f35 g1001) | omega) kx
        ·
          refine z_const X rfl (z_store X (lv' := [(4, .int (Int32.ofInt 1)), (0, .ref (A 41)), (1, .int (Int32.ofInt pr)), (2, .int (Int32.ofInt gr)), (3, .int (Int32.ofInt le)), (5, .int (Int32.ofInt p))]) rfl (by decide) (fun _ h => h) (z_load_n X (x := pr) rfl (List.Mem.tail _ (List.Mem.tail _ (List.Mem.head _))) (z_aload_n X (x := A 41) rfl (List.Mem.tail _ (List.Mem.head _)) (s_getR X 41 rfl (c518_ok rfl) rfl rfl (z_load X (x := p) rfl (List.Mem.tail _ (List.Mem.tail _ (List.Mem.tail _ (List.Mem.tail _ (List.Mem.tail _ (List.Mem.head _)))))) (z_ald X 44 rfl (c518_ok rfl) rfl (by first | exact hi.2.2.2.2.1 | omega) (show p < 8 by first | exact g1001 | omega) (cbig_ok rfl) ?_))))))
          have b1004 := bc_37 I (show (p).toNat < 8 by first | exact oq_db4b3b8b g1001 | omega)
          refine z_sub X rfl (z_anyV (fun y1005 hy1005 ey1005 => ?_))
          refine z_store_n X (lv' := [(1, .int (Int32.ofInt y1005)), (4, .int (Int32.ofInt 1)), (0, .ref (A 41)), (2, .int (Int32.ofInt gr)), (3, .int (Int32.ofInt le)), (5, .int (Int32.ofInt p))]) rfl (by decide) (fun _ h => h) (z_load_n X (x := gr) rfl (List.Mem.tail _ (List.Mem.tail _ (List.Mem.tail _ (List.Mem.head _)))) (z_aload_n X (x := A 41) rfl (List.Mem.tail _ (List.Mem.tail _ (List.Mem.head _))) (s_getR X 41 rfl (c518_ok rfl) rfl rfl (z_load X (x := p) rfl (List.Mem.tail _ (List.Mem.tail _ (List.Mem.tail _ (List.Mem.tail _ (List.Mem.tail _ (List.Mem.head _)))))) (z_ald X 43 rfl (c518_ok rfl) rfl (by first | exact hi.2.2.2.2.1 | omega) (show p < 8 by first | exact g1001 | omega) (cbig_ok rfl) ?_)))))
          have b1006 := bc_36 I (show (p).toNat < 8 by first | exact oq_db4b3b8b g1001 | omega)
          refine z_max X rfl ⟨by first | exact hi.2.1.1 | omega, by first | exact hi.2.1.2 | omega⟩ (rng_to _) (by rw [E.2.2.2]; decide) (by rw [E.2.2.2]; exact Nat.le_of_ble_eq_true rfl) (Nat.zero_le _) (Nat.zero_le _) (fun e1007 he1007 => ?_)
          refine z_store_n X (lv' := [(2, .int (Int32.ofInt e1007)), (1, .int (Int32.ofInt y1005)), (4, .int (Int32.ofInt 1)), (0, .ref (A 41)), (3, .int (Int32.ofInt le)), (5, .int (Int32.ofInt p))]) rfl (by decide) (fun _ h => h) (z_load_n X (x := le) rfl (List.Mem.tail _ (List.Mem.tail _ (List.Mem.tail _ (List.Mem.tail _ (List.Mem.head _))))) (z_aload_n X (x := A 41) rfl (List.Mem.tail _ (List.Mem.tail _ (List.Mem.tail _ (List.Mem.head _)))) (s_getR X 41 rfl (c518_ok rfl) rfl rfl (z_load X (x := p) rfl (List.Mem.tail _ (List.Mem.tail _ (List.Mem.tail _ (List.Mem.tail _ (List.Mem.tail _ (List.Mem.head _)))))) (z_ald X 43 rfl (c518_ok rfl) rfl (by first | exact hi.2.2.2.2.1 | omega) (show p < 8 by first | exact g1001 | omega) (cbig_ok rfl) ?_)))))
          have b1008 := bc_36 I (show (p).toNat < 8 by first | exact oq_db4b3b8b g1001 | omega)
          refine z_min X rfl ⟨by first | exact hi.2.2.1.1 | omega, by first | exact hi.2.2.1.2 | omega⟩ (rng_to _) (by rw [E.2.2.2]; decide) (by rw [E.2.2.2]; exact Nat.le_of_ble_eq_true rfl) (Nat.zero_le _) (Nat.zero_le _) (fun e1009 he1009 => ?_)
          refine z_store_n X (lv' := [(3, .int (Int32.ofInt e1009)), (2, .int (Int32.ofInt e1007)), (1, .int (Int32.ofInt y1005)), (4, .int (Int32.ofInt 1)), (0, .ref (A 41)), (5, .int (Int32.ofInt p))]) rfl (by decide) (fun _ h => h) (z_inc X (x := p) (lv' := [(5, .int (Int32.ofInt (p + 1))), (3, .int (Int32.ofInt e1009)), (2, .int (Int32.ofInt e1007)), (1, .int (Int32.ofInt y1005)), (4, .int (Int32.ofInt 1)), (0, .ref (A 41))]) rfl (by decide) (List.Mem.tail _ (List.Mem.tail _ (List.Mem.tail _ (List.Mem.tail _ (List.Mem.tail _ (List.Mem.head _)))))) (fun _ h => h) (z_goto X (t := 20) rfl rfl (WS_pq [5, 3, 2, 1, 4, 0] (lv' := [(0, .ref (A 41)), (1, .int (Int32.ofInt y1005)), (2, .int (Int32.ofInt e1007)), (3, .int (Int32.ofInt e1009)), (4, .int (Int32.ofInt 1)), (5, .int (Int32.ofInt (p + 1)))]) rfl ?_)))
          exact ih _ y1005 e1007 e1009 1 (p + 1) I F jjAIR jjCDJ ⟨prn_y (k := iC t 37 (p : Int).toNat) hq.1 (by first | (clear g1003; omega) | omega) (by have z := (fm_c F List.not_mem_nil : iC t 35 (p : Int).toNat = iC s 35 (p : Int).toNat); omega) (fm_c F List.not_mem_nil : iC t 37 (p : Int).toNat = iC s 37 (p : Int).toNat) ey1005, mml_y (v := iC t 36 (p : Int).toNat) hq.2 (by first | (clear g1003; omega) | omega) (show iC s 35 (p : Int).toNat ≠ 0 by have z := (fm_c F List.not_mem_nil : iC t 35 (p : Int).toNat = iC s 35 (p : Int).toNat); omega) (fm_c F List.not_mem_nil : iC t 36 (p : Int).toNat = iC s 36 (p : Int).toNat) (by decide) (by first | (clear g1003; omega) | omega)⟩ (by first | exact ⟨And.intro (hy1005.1) (hy1005.2), oq_27fc0cec b1008.2 he1007 hi.2.1.2 hi.2.1.1, oq_566e2836 he1009 b1008.1 hi.2.2.1.2 hi.2.2.1.1, Or.inr (by decide), oq_54f49eb5 hi.2.2.2.2.1, oq_0c7b19c3 g1001⟩ | omega) (by first | exact qk_me hm (by decide) (oq_9f368f35 g1001) | omega) kx
  refine z_aload_n X (x := A 41) rfl (List.Mem.head _) (s_getR X 41 rfl (c518_ok rfl) rfl rfl (zcV_i0 X E 3 (As := []) (st := []) rfl rfl rfl rfl (c9_steps3 G I jAIR jCDJ ) rfl (Nat.le_of_ble_eq_true rfl) (fun s1 e2 Is1 Fs1 hrs1 hps1 => ?_)))
  have Gs1 := fm_tq F Fs1 rfl rfl
  have JAIR_s1 : AIR s1 := AIR_fm Fs1 (by decide) jAIR
  have JCDJ_s1 : CDJ U s1 := CDJ_fm Fs1 (by decide) jCDJ
  refine z_store_n X (lv' := [(1, .int (Int32.ofInt e2)), (0, .ref (A 41))]) rfl (by decide) (fun _ h => h) (z_ldc X rfl (z_store_n X (lv' := [(2, .int (Int32.ofInt (-2147483648))), (1, .int (Int32.ofInt e2)), (0, .ref (A 41))]) rfl (by decide) (fun _ h => h) (z_ldc X rfl (z_store_n X (lv' := [(3, .int (Int32.ofInt 2147483647)), (2, .int (Int32.ofInt (-2147483648))), (1, .int (Int32.ofInt e2)), (0, .ref (A 41))]) rfl (by decide) (fun _ h => h) (z_const X rfl (z_store X (lv' := [(4, .int (Int32.ofInt 0)), (3, .int (Int32.ofInt 2147483647)), (2, .int (Int32.ofInt (-2147483648))), (1, .int (Int32.ofInt e2)), (0, .ref (A 41))]) rfl (by decide) (fun _ h => h) (z_const X rfl (z_store X (lv' := [(5, .int (Int32.ofInt 0)), (4, .int (Int32.ofInt 0)), (3, .int (Int32.ofInt 2147483647)), (2, .int (Int32.ofInt (-2147483648))), (1, .int (Int32.ofInt e2)), (0, .ref (A 41))]) rfl (by decide) (fun _ h => h) (WS_pq [5, 4, 3, 2, 1, 0] (lv' := [(0, .ref (A 41)), (1, .int (Int32.ofInt e2)), (2, .int (Int32.ofInt (-2147483648))), (3, .int (Int32.ofInt 2147483647)), (4, .int (Int32.ofInt 0)), (5, .int (Int32.ofInt 0))]) rfl (L20 ((8 - 0 : Int).toNat + 1) s1 e2 (-2147483648) 2147483647 0 0 Is1 Gs1 JAIR_s1 JCDJ_s1 ⟨(by rw [hps1]; show Int32.ofInt (sm (fun x => uT U x * ((uW U).2 x - 1)) (uN U)) = Int32.ofInt ((sm (fun x => uT U x * ((uW U).2 x - 1)) (uN U)) - 0); rw [Int.sub_zero]), mml_0⟩ (by first | exact ⟨by omega, And.intro (by decide) (by decide), And.intro (by decide) (by decide), Or.inl (And.intro (by decide) (And.intro (by decide) (by decide))), by decide, by decide⟩ | omega) (Nat.lt_succ_self _) ?_))))))))))
  intro s3 x4 x5 x6 x7 x8 Is3 Fs3 JAIR_s3 JCDJ_s3 Qs3 hs3
  refine z_load X (x := x7) rfl (List.Mem.tail _ (List.Mem.tail _ (List.Mem.tail _ (List.Mem.tail _ (List.Mem.head _))))) (z_if_eq X (t := 96) rfl rfl ⟨by first | exact oq_bde653e9 hs3.2.2.2.1 | omega, by first | exact oq_4ad2cb8b hs3.2.2.2.1 | omega⟩ (fun g9 => ?_) (fun g9 => ?_))
  ·
    refine z_load_n X (x := x4) rfl (List.Mem.tail _ (List.Mem.head _)) ?_
    exact w_iret X.1 q hRt rfl (ax_d X (show cdA 22 97 = some (.ireturn, 1, 0, 0, 0) from rfl)) (Nat.zero_le _) (Nat.zero_le _) ⟨_, rfl, Is3, Fs3, x4, rfl, ⟨by first | exact hs3.1.1 | omega, by first | exact hs3.1.2 | omega⟩, (csp_of (by have z := Qs3.2; rw [show x8 = 8 by omega] at z; exact z) ⟨by first | exact hs3.1.1 | omega, by first | exact hs3.1.2 | omega⟩ ⟨fun _ => (by have z := Qs3.1; rw [show (x8).toNat = 8 by omega] at z; exact z), fun h => absurd (show x7 = 0 by omega) h⟩)⟩
  ·
    refine z_load_n X (x := x4) rfl (List.Mem.tail _ (List.Mem.head _)) (z_bipush X rfl (z_load_n X (x := x5) rfl (List.Mem.tail _ (List.Mem.tail _ (List.Mem.head _))) (z_load_n X (x := x6) rfl (List.Mem.tail _ (List.Mem.tail _ (List.Mem.tail _ (List.Mem.head _)))) (z_sub X rfl (z_anyV (fun y10 hy10 ey10 => ?_))))))
    refine z_mul X rfl (z_anyV (fun y11 hy11 ey11 => ?_))
    refine z_add X rfl (z_anyV (fun y12 hy12 ey12 => ?_))
    refine z_goto X (t := 97) rfl rfl ?_
    exact w_iret X.1 q hRt rfl (ax_d X (show cdA 22 97 = some (.ireturn, 1, 0, 0, 0) from rfl)) (Nat.zero_le _) (Nat.zero_le _) ⟨_, rfl, Is3, Fs3, y12, rfl, hy12, (csp_of (by have z := Qs3.2; rw [show x8 = 8 by first | (clear g9; omega) | omega] at z; exact z) hy12 ⟨fun h => absurd h (by first | (clear g9; omega) | omega), fun _ => ten_of (by have z := Qs3.1; rw [show (x8).toNat = 8 by first | (clear g9; omega) | omega] at z; exact z) ey10 ey11 ey12⟩)⟩
end M87v
