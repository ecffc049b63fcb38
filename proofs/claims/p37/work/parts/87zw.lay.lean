theorem oq_3796e72a {a0 a1 a2 : Int} (h0 : a0 < a1) (h1 : a2 ≤ 24) (h2 : a1 ≤ 12) : ((a0 * 24) + a2) ≤ 288 := by omega
theorem oq_026abc13 {a0 a1 : Int} (h0 : a0 < a1) (h1 : a1 ≤ 12) : a0 < 288 := by omega
theorem oq_c1034abd {a0 a1 : Int} (h0 : a0 < a1) (h1 : a1 ≤ 12) : (a0 : Int).toNat < 288 := by omega
/-! The ways as they are mended -/
noncomputable def rnZ (S : Int → Prop) (a b : Int) : Int := Classical.epsilon (fun z => ∃ p, RNR S a b z p)
noncomputable def rnP (S : Int → Prop) (a b : Int) : Nat → Int := Classical.epsilon (fun p => RNR S a b (rnZ S a b) p)
theorem rnz_eq {S : Int → Prop} {a b z : Int} {p : Nat → Int} (h : RNR S a b z p) : z = rnZ S a b ∧ ∀ k : Nat, (k : Int) < z → p k = rnP S a b k := by
  have e1 : ∃ p, RNR S a b (rnZ S a b) p := Classical.epsilon_spec (p := fun z => ∃ p, RNR S a b z p) ⟨z, p, h⟩
  have e2 : RNR S a b (rnZ S a b) (rnP S a b) := Classical.epsilon_spec (p := fun p => RNR S a b (rnZ S a b) p) e1
  exact rnr_un h e2
/-- a stream's first cell, its last; its way round; the minutes of it -/
def fsA (U : AirD) (x : Nat) : Int := (uW U).1 x 0
def lsA (U : AirD) (x : Nat) : Int := (uW U).1 x ((uW U).2 x - 1).toNat
noncomputable def zF (U : AirD) (S : Int → Prop) (x : Nat) : Int := rnZ S (fsA U x) (lsA U x)
noncomputable def pF9 (U : AirD) (S : Int → Prop) (x : Nat) : Nat → Int := rnP S (fsA U x) (lsA U x)
noncomputable def wyF (U : AirD) (S : Int → Prop) (P : Nat → Prop) : WyS := (fun x k => pickQ (P x ∧ zF U S x ≠ 0) (pF9 U S x k) ((uW U).1 x k), fun x => pickQ (P x ∧ zF U S x ≠ 0) (zF U S x) ((uW U).2 x))
noncomputable def rdX (U : AirD) (S : Int → Prop) (q x : Nat) : Int := pickQ (zF U S x = 0) (-1) (2 * (if 0 < zF U S x - (uW U).2 x then zF U S x - (uW U).2 x else 0) * uM U q x)
theorem wyf_o {U : AirD} {S : Int → Prop} {P : Nat → Prop} {x : Nat} (h : ¬ (P x ∧ zF U S x ≠ 0)) : (wyF U S P).2 x = (uW U).2 x ∧ ∀ k, (wyF U S P).1 x k = (uW U).1 x k := ⟨piq_n h, fun _ => piq_n h⟩
theorem wyf_r {U : AirD} {S : Int → Prop} {P : Nat → Prop} {x : Nat} (h : P x ∧ zF U S x ≠ 0) : (wyF U S P).2 x = zF U S x ∧ ∀ k, (wyF U S P).1 x k = pF9 U S x k := ⟨piq_y h, fun _ => piq_y h⟩
/-- the rows of the mended air below c -/
def LWR (U : AirD) (S : Int → Prop) (q : Nat) (P : Nat → Prop) (c : Int) (t : PS) : Prop := AIN c t ∧ (∀ x : Nat, (x : Int) < c → iC t 58 x = (wyF U S P).2 x ∧ ∀ k : Nat, (k : Int) < (wyF U S P).2 x → iC t 57 (24 * x + k) = (wyF U S P).1 x k) ∧ (∀ x : Nat, (x : Int) < c → iC t 67 x = uM U q x) ∧ ∀ x : Nat, (x : Int) < c → P x → iC t 73 (cHt P x) = rdX U S q x
theorem lwr_0 {U : AirD} {S : Int → Prop} {q : Nat} {P : Nat → Prop} {t : PS} : LWR U S q P 0 t := ⟨fun x hx => absurd hx (by omega), fun x hx => absurd hx (by omega), fun x hx => absurd hx (by omega), fun x hx => absurd hx (by omega)⟩
theorem AIN_fm {n : Int} {L M : List Nat} {s t : PS} (F : Fm L M s t) (h : 57 ∉ M ∧ 58 ∉ M ∧ 59 + 1000 ∉ M ∧ 60 + 1000 ∉ M ∧ 61 + 1000 ∉ M) (r : AIN n s) : AIN n t := by
  have e2 : ∀ j, iC t 57 j = iC s 57 j := fun j => fm_c F h.1
  have e3 : ∀ j, iC t 58 j = iC s 58 j := fun j => fm_c F h.2.1
  have e4 : ∀ j, gD t 59 j = gD s 59 j := fun j => fm_dd F h.2.2.1
  have e5 : ∀ j, gD t 60 j = gD s 60 j := fun j => fm_dd F h.2.2.2.1
  have e6 : ∀ j, gD t 61 j = gD s 61 j := fun j => fm_dd F h.2.2.2.2
  intro x hx
  have z := r x hx
  simp only [e2, e3, e4, e5, e6]
  exact z
theorem LWR_fm {U : AirD} {S : Int → Prop} {q : Nat} {P : Nat → Prop} {c : Int} {L M : List Nat} {s t : PS} (F : Fm L M s t) (h : (57 ∉ M ∧ 58 ∉ M ∧ 59 + 1000 ∉ M ∧ 60 + 1000 ∉ M ∧ 61 + 1000 ∉ M) ∧ 67 ∉ M ∧ 73 ∉ M) (r : LWR U S q P c s) : LWR U S q P c t := ⟨AIN_fm F h.1 r.1, fun x hx => ⟨(fm_c F h.1.2.1).trans (r.2.1 x hx).1, fun k hk => (fm_c F h.1.1).trans ((r.2.1 x hx).2 k hk)⟩, fun x hx => (fm_c F h.2.1).trans (r.2.2.1 x hx), fun x hx p => (fm_c F h.2.2).trans (r.2.2.2 x hx p)⟩
theorem lwr_keep {U : AirD} {S : Int → Prop} {q : Nat} {P : Nat → Prop} {c w : Int} {f : Nat → Int} {s t : PS} (r : LWR U S q P c s) (c0 : 0 ≤ c ∧ c ≤ 11) (h1 : CWG f c w s t) (h2 : WRQM f c w w s t) (ho : WOK f w) (hm : SAM 67 s t) (hr : SAM 73 s t) : LWR U S q P c t := by
  refine ⟨ain_le (ain_up r.1 c0 h2 ho h1) (by omega), fun x hx => ?_, fun x hx => (hm x).trans (r.2.2.1 x hx), fun x hx p => (hr _).trans (r.2.2.2 x hx p)⟩
  obtain ⟨e1, e2⟩ := r.2.1 x hx
  have sz := (r.1 x hx).1.1
  refine ⟨(h1.2.2 x (by omega)).trans e1, fun k hk => ?_⟩
  rw [cwg_c2 h1 c0 (24 * x + k) (by omega)]
  exact e2 k hk
/-- the row c itself: its way, its most -/
theorem lwr_row {U : AirD} {S : Int → Prop} {q : Nat} {P : Nat → Prop} {c w : Int} {f : Nat → Int} {s t : PS} (r : LWR U S q P c s) (c0 : 0 ≤ c ∧ c ≤ 11) (h1 : CWG f c w s t) (h2 : WRQM f c w w s t) (ho : WOK f w) (hm : SAM 67 s t) (hr : SAM 73 s t) (ew : w = (wyF U S P).2 c.toNat) (ef : ∀ k : Nat, (k : Int) < w → f k = (wyF U S P).1 c.toNat k) : AIN (c + 1) t ∧ (∀ x : Nat, (x : Int) < c + 1 → iC t 58 x = (wyF U S P).2 x ∧ ∀ k : Nat, (k : Int) < (wyF U S P).2 x → iC t 57 (24 * x + k) = (wyF U S P).1 x k) := by
  refine ⟨ain_up r.1 c0 h2 ho h1, fun x hx => ?_⟩
  by_cases z : x = c.toNat
  · subst z
    refine ⟨h1.2.1.trans ew, fun k hk => ?_⟩
    rw [← ew] at hk
    rw [cwg_c h1 c0 ho.1.2 k hk]
    exact ef k hk
  · exact (lwr_keep r c0 h1 h2 ho hm hr).2.1 x (by omega)
theorem lwr_up {U : AirD} {S : Int → Prop} {q : Nat} {P : Nat → Prop} {c : Int} {t : PS} (r : LWR U S q P c t) (a : AIN (c + 1) t ∧ (∀ x : Nat, (x : Int) < c + 1 → iC t 58 x = (wyF U S P).2 x ∧ ∀ k : Nat, (k : Int) < (wyF U S P).2 x → iC t 57 (24 * x + k) = (wyF U S P).1 x k)) (c0 : 0 ≤ c) (hm : iC t 67 c.toNat = uM U q c.toNat) (hr : P c.toNat → iC t 73 (cHt P c.toNat) = rdX U S q c.toNat) : LWR U S q P (c + 1) t := ⟨a.1, a.2, fun x hx => by
  by_cases z : x = c.toNat
  · rw [z]; exact hm
  · exact r.2.2.1 x (by omega), fun x hx p => by
  by_cases z : x = c.toNat
  · rw [z] at p ⊢; exact hr p
  · exact r.2.2.2 x (by omega) p⟩
/-- mosts and rounds of the row c written: the rows below stand -/
theorem lwr_mo {U : AirD} {S : Int → Prop} {q : Nat} {P : Nat → Prop} {c m : Int} {s t : PS} (r : LWR U S q P c s) (c0 : 0 ≤ c) (a : AIN c t) (h1 : SAM 57 s t) (h2 : SAM 58 s t) (h3 : UPD 67 c m s t) (h4 : SAM 73 s t) : LWR U S q P c t := ⟨a, fun x hx => ⟨(h2 x).trans (r.2.1 x hx).1, fun k hk => (h1 _).trans ((r.2.1 x hx).2 k hk)⟩, fun x hx => (h3.2 x (by omega)).trans (r.2.2.1 x hx), fun x hx p => (h4 _).trans (r.2.2.2 x hx p)⟩
theorem lwr_rn {U : AirD} {S : Int → Prop} {q : Nat} {P : Nat → Prop} {c n m : Int} {s t : PS} (r : LWR U S q P c s) (c0 : 0 ≤ c) (a : AIN c t) (h1 : SAM 57 s t) (h2 : SAM 58 s t) (h3 : SAM 67 s t) (h4 : UPD 73 n m s t) (hn : n = (cHt P c.toNat : Int)) : LWR U S q P c t := ⟨a, fun x hx => ⟨(h2 x).trans (r.2.1 x hx).1, fun k hk => (h1 _).trans ((r.2.1 x hx).2 k hk)⟩, fun x hx => (h3 x).trans (r.2.2.1 x hx), fun x hx p => (h4.2 _ (by have := cht_lt (P := P) (m := x) (n := c.toNat) (by omega) p; omega)).trans (r.2.2.2 x hx p)⟩
/-- bits of twelve -/
theorem bt_sh12 {x : Int32} {n : Nat} (hn : n < 12) : (x >>> (Int32.ofInt (n : Int) &&& 31)) &&& Int32.ofInt 1 = Int32.ofInt (if bT x n = true then 1 else 0) := by
  have e := sh_sm_ n (by omega)
  have b0 : (x >>> (Int32.ofInt (n : Int) &&& 31)).toBitVec.getLsbD 0 = bT x n := by
    rw [Int32.toBitVec_shiftRight, BitVec.getLsbD_sshiftRight', e]
    simp only [Nat.add_zero]
    rw [if_pos (show n < 32 by omega)]
    show (!decide (32 ≤ 0) && bT x n) = bT x n
    simp
  apply Int32.toBitVec.inj
  apply BitVec.eq_of_getLsbD_eq
  intro i hi
  have o : (Int32.ofInt 1).toBitVec.getLsbD i = decide (i = 0) := by
    have e1 : (Int32.ofInt 1).toBitVec = 1#32 := by decide
    rw [e1, BitVec.getLsbD_one]
    simp
  rw [Int32.toBitVec_and, BitVec.getLsbD_and, o]
  by_cases c : i = 0
  · subst c
    rw [b0, decide_eq_true rfl, Bool.and_true]
    cases bT x n
    · decide
    · decide
  · rw [decide_eq_false c, Bool.and_false]
    cases bT x n
    · show false = (Int32.ofInt 0).toBitVec.getLsbD i
      have e2 : (Int32.ofInt 0).toBitVec = 0#32 := by decide
      rw [e2, BitVec.getLsbD_zero]
    · show false = (Int32.ofInt 1).toBitVec.getLsbD i
      rw [o, decide_eq_false c]
theorem bt_rd12 {b p y w : Int} (h1 : Int32.ofInt y = Int32.ofInt b >>> (Int32.ofInt p &&& 31)) (h2 : Int32.ofInt w = Int32.ofInt y &&& Int32.ofInt 1) (r : rng w) (p0 : 0 ≤ p ∧ p ≤ 11) : (w = 1 ∧ bT (Int32.ofInt b) p.toNat = true) ∨ (w = 0 ∧ ¬ bT (Int32.ofInt b) p.toNat = true) := by
  have z := bt_sh12 (x := Int32.ofInt b) (n := p.toNat) (by omega)
  rw [show ((p.toNat : Nat) : Int) = p by omega, ← h1, ← h2] at z
  by_cases c : bT (Int32.ofInt b) p.toNat = true
  · rw [if_pos c] at z
    exact Or.inl ⟨(of_to r z).trans (by decide), c⟩
  · rw [if_neg c] at z
    exact Or.inr ⟨(of_to r z).trans (by decide), c⟩
theorem row_s {U : AirD} {S : Int → Prop} {P : Nat → Prop} {c : Int} {s t : PS} (r : AIN c s ∧ (∀ x : Nat, (x : Int) < c → iC s 58 x = (wyF U S P).2 x ∧ ∀ k : Nat, (k : Int) < (wyF U S P).2 x → iC s 57 (24 * x + k) = (wyF U S P).1 x k)) (a : AIN c t) (h1 : SAM 57 s t) (h2 : SAM 58 s t) : AIN c t ∧ (∀ x : Nat, (x : Int) < c → iC t 58 x = (wyF U S P).2 x ∧ ∀ k : Nat, (k : Int) < (wyF U S P).2 x → iC t 57 (24 * x + k) = (wyF U S P).1 x k) := ⟨a, fun x hx => ⟨(h2 x).trans (r.2 x hx).1, fun k hk => (h1 _).trans ((r.2 x hx).2 k hk)⟩⟩
theorem rdx_0 {U : AirD} {S : Int → Prop} {q x : Nat} (h : zF U S x = 0) : rdX U S q x = -1 := piq_y h
theorem rdx_z {U : AirD} {S : Int → Prop} {q x : Nat} {mx m : Int} (h : zF U S x ≠ 0) (hx : (mx = 0 ∧ zF U S x - (uW U).2 x ≤ 0) ∨ (mx = zF U S x - (uW U).2 x ∧ 0 < zF U S x - (uW U).2 x)) (hm : m = uM U q x) : rdX U S q x = 2 * mx * m := by
  unfold rdX
  rw [piq_n h, hm]
  rcases hx with ⟨a, b⟩ | ⟨a, b⟩
  · rw [if_neg (by omega), a]
  · rw [if_pos b, a]
/-- the first c ears have heard -/
def EAR9 (c : Int) (t : PS) : Prop := (0 < c → LSNE0 (gD t 22 0) (gD t 23 0) t ∧ HEHE0 (gD t 22 0) (gD t 23 0) 1 t) ∧ (1 < c → LSNE1 (gD t 22 1) (gD t 23 1) t ∧ HEHE1 (gD t 22 1) (gD t 23 1) 1 t) ∧ (2 < c → LSNE2 (gD t 22 2) (gD t 23 2) t ∧ HEHE2 (gD t 22 2) (gD t 23 2) 1 t) ∧ (3 < c → LSNE3 (gD t 22 3) (gD t 23 3) t ∧ HEHE3 (gD t 22 3) (gD t 23 3) 1 t) ∧ (4 < c → LSNE4 (gD t 22 4) (gD t 23 4) t ∧ HEHE4 (gD t 22 4) (gD t 23 4) 1 t) ∧ (5 < c → LSNE5 (gD t 22 5) (gD t 23 5) t ∧ HEHE5 (gD t 22 5) (gD t 23 5) 1 t) ∧ (6 < c → LSNE6 (gD t 22 6) (gD t 23 6) t ∧ HEHE6 (gD t 22 6) (gD t 23 6) 1 t) ∧ (7 < c → LSNE7 (gD t 22 7) (gD t 23 7) t ∧ HEHE7 (gD t 22 7) (gD t 23 7) 1 t)
theorem ear9_0 {c : Int} {t u : PS} (h : EAR9 c t) (hc : c = 0) (F : Fm [46, 47] [87, 80, 81, 82, 83, 84, 85, 86] t u) (h1 : LSNE0 (gD t 22 0) (gD t 23 0) u) (h2 : HEHE0 (gD t 22 0) (gD t 23 0) 1 u) : EAR9 (c + 1) u := by
  have e1 : ∀ i, gD u 22 i = gD t 22 i := fun i => fm_dd F (by decide)
  have e2 : ∀ i, gD u 23 i = gD t 23 i := fun i => fm_dd F (by decide)
  unfold EAR9
  simp only [e1, e2]
  exact ⟨fun _ => ⟨h1, h2⟩, fun z => absurd z (by omega), fun z => absurd z (by omega), fun z => absurd z (by omega), fun z => absurd z (by omega), fun z => absurd z (by omega), fun z => absurd z (by omega), fun z => absurd z (by omega)⟩
theorem ear9_1 {c : Int} {t u : PS} (h : EAR9 c t) (hc : c = 1) (F : Fm [49, 50] [96, 89, 90, 91, 92, 93, 94, 95] t u) (h1 : LSNE1 (gD t 22 1) (gD t 23 1) u) (h2 : HEHE1 (gD t 22 1) (gD t 23 1) 1 u) : EAR9 (c + 1) u := by
  have e1 : ∀ i, gD u 22 i = gD t 22 i := fun i => fm_dd F (by decide)
  have e2 : ∀ i, gD u 23 i = gD t 23 i := fun i => fm_dd F (by decide)
  unfold EAR9
  simp only [e1, e2]
  exact ⟨fun _ => ⟨LSNE0_fm F (by decide) (h.1 (by omega)).1, HEHE0_fm F (by decide) (h.1 (by omega)).2⟩, fun _ => ⟨h1, h2⟩, fun z => absurd z (by omega), fun z => absurd z (by omega), fun z => absurd z (by omega), fun z => absurd z (by omega), fun z => absurd z (by omega), fun z => absurd z (by omega)⟩
theorem ear9_2 {c : Int} {t u : PS} (h : EAR9 c t) (hc : c = 2) (F : Fm [52, 53] [105, 98, 99, 100, 101, 102, 103, 104] t u) (h1 : LSNE2 (gD t 22 2) (gD t 23 2) u) (h2 : HEHE2 (gD t 22 2) (gD t 23 2) 1 u) : EAR9 (c + 1) u := by
  have e1 : ∀ i, gD u 22 i = gD t 22 i := fun i => fm_dd F (by decide)
  have e2 : ∀ i, gD u 23 i = gD t 23 i := fun i => fm_dd F (by decide)
  unfold EAR9
  simp only [e1, e2]
  exact ⟨fun _ => ⟨LSNE0_fm F (by decide) (h.1 (by omega)).1, HEHE0_fm F (by decide) (h.1 (by omega)).2⟩, fun _ => ⟨LSNE1_fm F (by decide) (h.2.1 (by omega)).1, HEHE1_fm F (by decide) (h.2.1 (by omega)).2⟩, fun _ => ⟨h1, h2⟩, fun z => absurd z (by omega), fun z => absurd z (by omega), fun z => absurd z (by omega), fun z => absurd z (by omega), fun z => absurd z (by omega)⟩
theorem ear9_3 {c : Int} {t u : PS} (h : EAR9 c t) (hc : c = 3) (F : Fm [55, 56] [114, 107, 108, 109, 110, 111, 112, 113] t u) (h1 : LSNE3 (gD t 22 3) (gD t 23 3) u) (h2 : HEHE3 (gD t 22 3) (gD t 23 3) 1 u) : EAR9 (c + 1) u := by
  have e1 : ∀ i, gD u 22 i = gD t 22 i := fun i => fm_dd F (by decide)
  have e2 : ∀ i, gD u 23 i = gD t 23 i := fun i => fm_dd F (by decide)
  unfold EAR9
  simp only [e1, e2]
  exact ⟨fun _ => ⟨LSNE0_fm F (by decide) (h.1 (by omega)).1, HEHE0_fm F (by decide) (h.1 (by omega)).2⟩, fun _ => ⟨LSNE1_fm F (by decide) (h.2.1 (by omega)).1, HEHE1_fm F (by decide) (h.2.1 (by omega)).2⟩, fun _ => ⟨LSNE2_fm F (by decide) (h.2.2.1 (by omega)).1, HEHE2_fm F (by decide) (h.2.2.1 (by omega)).2⟩, fun _ => ⟨h1, h2⟩, fun z => absurd z (by omega), fun z => absurd z (by omega), fun z => absurd z (by omega), fun z => absurd z (by omega)⟩
theorem ear9_4 {c : Int} {t u : PS} (h : EAR9 c t) (hc : c = 4) (F : Fm [58, 59] [123, 116, 117, 118, 119, 120, 121, 122] t u) (h1 : LSNE4 (gD t 22 4) (gD t 23 4) u) (h2 : HEHE4 (gD t 22 4) (gD t 23 4) 1 u) : EAR9 (c + 1) u := by
  have e1 : ∀ i, gD u 22 i = gD t 22 i := fun i => fm_dd F (by decide)
  have e2 : ∀ i, gD u 23 i = gD t 23 i := fun i => fm_dd F (by decide)
  unfold EAR9
  simp only [e1, e2]
  exact ⟨fun _ => ⟨LSNE0_fm F (by decide) (h.1 (by omega)).1, HEHE0_fm F (by decide) (h.1 (by omega)).2⟩, fun _ => ⟨LSNE1_fm F (by decide) (h.2.1 (by omega)).1, HEHE1_fm F (by decide) (h.2.1 (by omega)).2⟩, fun _ => ⟨LSNE2_fm F (by decide) (h.2.2.1 (by omega)).1, HEHE2_fm F (by decide) (h.2.2.1 (by omega)).2⟩, fun _ => ⟨LSNE3_fm F (by decide) (h.2.2.2.1 (by omega)).1, HEHE3_fm F (by decide) (h.2.2.2.1 (by omega)).2⟩, fun _ => ⟨h1, h2⟩, fun z => absurd z (by omega), fun z => absurd z (by omega), fun z => absurd z (by omega)⟩
theorem ear9_5 {c : Int} {t u : PS} (h : EAR9 c t) (hc : c = 5) (F : Fm [61, 62] [132, 125, 126, 127, 128, 129, 130, 131] t u) (h1 : LSNE5 (gD t 22 5) (gD t 23 5) u) (h2 : HEHE5 (gD t 22 5) (gD t 23 5) 1 u) : EAR9 (c + 1) u := by
  have e1 : ∀ i, gD u 22 i = gD t 22 i := fun i => fm_dd F (by decide)
  have e2 : ∀ i, gD u 23 i = gD t 23 i := fun i => fm_dd F (by decide)
  unfold EAR9
  simp only [e1, e2]
  exact ⟨fun _ => ⟨LSNE0_fm F (by decide) (h.1 (by omega)).1, HEHE0_fm F (by decide) (h.1 (by omega)).2⟩, fun _ => ⟨LSNE1_fm F (by decide) (h.2.1 (by omega)).1, HEHE1_fm F (by decide) (h.2.1 (by omega)).2⟩, fun _ => ⟨LSNE2_fm F (by decide) (h.2.2.1 (by omega)).1, HEHE2_fm F (by decide) (h.2.2.1 (by omega)).2⟩, fun _ => ⟨LSNE3_fm F (by decide) (h.2.2.2.1 (by omega)).1, HEHE3_fm F (by decide) (h.2.2.2.1 (by omega)).2⟩, fun _ => ⟨LSNE4_fm F (by decide) (h.2.2.2.2.1 (by omega)).1, HEHE4_fm F (by decide) (h.2.2.2.2.1 (by omega)).2⟩, fun _ => ⟨h1, h2⟩, fun z => absurd z (by omega), fun z => absurd z (by omega)⟩
theorem ear9_6 {c : Int} {t u : PS} (h : EAR9 c t) (hc : c = 6) (F : Fm [64, 65] [141, 134, 135, 136, 137, 138, 139, 140] t u) (h1 : LSNE6 (gD t 22 6) (gD t 23 6) u) (h2 : HEHE6 (gD t 22 6) (gD t 23 6) 1 u) : EAR9 (c + 1) u := by
  have e1 : ∀ i, gD u 22 i = gD t 22 i := fun i => fm_dd F (by decide)
  have e2 : ∀ i, gD u 23 i = gD t 23 i := fun i => fm_dd F (by decide)
  unfold EAR9
  simp only [e1, e2]
  exact ⟨fun _ => ⟨LSNE0_fm F (by decide) (h.1 (by omega)).1, HEHE0_fm F (by decide) (h.1 (by omega)).2⟩, fun _ => ⟨LSNE1_fm F (by decide) (h.2.1 (by omega)).1, HEHE1_fm F (by decide) (h.2.1 (by omega)).2⟩, fun _ => ⟨LSNE2_fm F (by decide) (h.2.2.1 (by omega)).1, HEHE2_fm F (by decide) (h.2.2.1 (by omega)).2⟩, fun _ => ⟨LSNE3_fm F (by decide) (h.2.2.2.1 (by omega)).1, HEHE3_fm F (by decide) (h.2.2.2.1 (by omega)).2⟩, fun _ => ⟨LSNE4_fm F (by decide) (h.2.2.2.2.1 (by omega)).1, HEHE4_fm F (by decide) (h.2.2.2.2.1 (by omega)).2⟩, fun _ => ⟨LSNE5_fm F (by decide) (h.2.2.2.2.2.1 (by omega)).1, HEHE5_fm F (by decide) (h.2.2.2.2.2.1 (by omega)).2⟩, fun _ => ⟨h1, h2⟩, fun z => absurd z (by omega)⟩
theorem ear9_7 {c : Int} {t u : PS} (h : EAR9 c t) (hc : c = 7) (F : Fm [67, 68] [150, 143, 144, 145, 146, 147, 148, 149] t u) (h1 : LSNE7 (gD t 22 7) (gD t 23 7) u) (h2 : HEHE7 (gD t 22 7) (gD t 23 7) 1 u) : EAR9 (c + 1) u := by
  have e1 : ∀ i, gD u 22 i = gD t 22 i := fun i => fm_dd F (by decide)
  have e2 : ∀ i, gD u 23 i = gD t 23 i := fun i => fm_dd F (by decide)
  unfold EAR9
  simp only [e1, e2]
  exact ⟨fun _ => ⟨LSNE0_fm F (by decide) (h.1 (by omega)).1, HEHE0_fm F (by decide) (h.1 (by omega)).2⟩, fun _ => ⟨LSNE1_fm F (by decide) (h.2.1 (by omega)).1, HEHE1_fm F (by decide) (h.2.1 (by omega)).2⟩, fun _ => ⟨LSNE2_fm F (by decide) (h.2.2.1 (by omega)).1, HEHE2_fm F (by decide) (h.2.2.1 (by omega)).2⟩, fun _ => ⟨LSNE3_fm F (by decide) (h.2.2.2.1 (by omega)).1, HEHE3_fm F (by decide) (h.2.2.2.1 (by omega)).2⟩, fun _ => ⟨LSNE4_fm F (by decide) (h.2.2.2.2.1 (by omega)).1, HEHE4_fm F (by decide) (h.2.2.2.2.1 (by omega)).2⟩, fun _ => ⟨LSNE5_fm F (by decide) (h.2.2.2.2.2.1 (by omega)).1, HEHE5_fm F (by decide) (h.2.2.2.2.2.1 (by omega)).2⟩, fun _ => ⟨LSNE6_fm F (by decide) (h.2.2.2.2.2.2.1 (by omega)).1, HEHE6_fm F (by decide) (h.2.2.2.2.2.2.1 (by omega)).2⟩, fun _ => ⟨h1, h2⟩⟩
theorem ear9_z {t : PS} : EAR9 0 t := ⟨fun z => absurd z (by omega), fun z => absurd z (by omega), fun z => absurd z (by omega), fun z => absurd z (by omega), fun z => absurd z (by omega), fun z => absurd z (by omega), fun z => absurd z (by omega), fun z => absurd z (by omega)⟩
section M87kw
variable {l : Launch} {s0 : State} {D : va_G} {tys : List (ClassId × FieldType)} {a0 : Array Value} {A : Nat → Nat} {dT : Nat → ClassId} {s : PS}
set_option maxRecDepth 4000 in
theorem c8_lay9 (G : GX l s0 D tys a0 dT) (GR : RS0 s0) {U : AirD} (I : Bd s) (jAIR : AIR s) (jCDJ : CDJ U s) (p0 : FHQ (hitP U (stS s) (iI s 39).toNat) (iI s 9) s) (p1 : iI s 41 ≤ 8) : CT l s0 D A dT 92 (rmN 92) [.ref (A 67)] s (fun o t => Bd t ∧ Fm [43, 44, 46, 47, 49, 50, 52, 53, 55, 56, 58, 59, 61, 62, 64, 65, 67, 68] [57, 58, 67, 62, 77, 78, 79, 73, 87, 80, 81, 82, 83, 84, 85, 86, 96, 89, 90, 91, 92, 93, 94, 95, 105, 98, 99, 100, 101, 102, 103, 104, 114, 107, 108, 109, 110, 111, 112, 113, 123, 116, 117, 118, 119, 120, 121, 122, 132, 125, 126, 127, 128, 129, 130, 131, 141, 134, 135, 136, 137, 138, 139, 140, 150, 143, 144, 145, 146, 147, 148, 149, 1059, 1060, 1061, 1063] s t ∧ AIRM t ∧ CPLM t ∧ o = .inl none ∧ (LWR U (stS s) (iI s 39).toNat (hitP U (stS s) (iI s 39).toNat) (iI s 9) t ∧ EAR9 8 t ∧ iI t 43 = (iI s 9))) := by
  refine ct_ofX G (by decide) (Nat.le_of_ble_eq_true rfl) (fun k X E ET hRt hXt q => ?_)
  show WS k 0 [(0, .ref (A 67))] [] _ 0 0
  have F : Fm [43, 44, 46, 47, 49, 50, 52, 53, 55, 56, 58, 59, 61, 62, 64, 65, 67, 68] [57, 58, 67, 62, 77, 78, 79, 73, 87, 80, 81, 82, 83, 84, 85, 86, 96, 89, 90, 91, 92, 93, 94, 95, 105, 98, 99, 100, 101, 102, 103, 104, 114, 107, 108, 109, 110, 111, 112, 113, 123, 116, 117, 118, 119, 120, 121, 122, 132, 125, 126, 127, 128, 129, 130, 131, 141, 134, 135, 136, 137, 138, 139, 140, 150, 143, 144, 145, 146, 147, 148, 149, 1059, 1060, 1061, 1063] s s := fm_rf _ _ s
  have b1 := bi_9 I
  have b2 := bi_39 I
  have b3 := bi_40 I
  have b4 := bi_43 I
  have L18 : ∀ (n : Nat) (t : PS) (nx c : Int), Bd t → Fm [43, 44, 46, 47, 49, 50, 52, 53, 55, 56, 58, 59, 61, 62, 64, 65, 67, 68] [57, 58, 67, 62, 77, 78, 79, 73, 87, 80, 81, 82, 83, 84, 85, 86, 96, 89, 90, 91, 92, 93, 94, 95, 105, 98, 99, 100, 101, 102, 103, 104, 114, 107, 108, 109, 110, 111, 112, 113, 123, 116, 117, 118, 119, 120, 121, 122, 132, 125, 126, 127, 128, 129, 130, 131, 141, 134, 135, 136, 137, 138, 139, 140, 150, 143, 144, 145, 146, 147, 148, 149, 1059, 1060, 1061, 1063] s t → AIR t → CDJ U t → (LWR U (stS s) (iI s 39).toNat (hitP U (stS s) (iI s 39).toNat) c t ∧ nx = (cHt (hitP U (stS s) (iI s 39).toNat) (c : Int).toNat : Int)) → ((0 ≤ c ∧ c ≤ iI s 9) ∧ (0 ≤ nx ∧ nx ≤ 8) ∧ iI t 9 = iI s 9 ∧ iI s 9 ≤ 12 ∧ iI t 43 = iI s 9 ∧ iI t 39 = iI s 39 ∧ iI t 40 = iI s 40 ∧ iI s 41 ≤ 8) → (12 - c : Int).toNat < n → (∀ (t' : PS) (nx' c' : Int), Bd t' → Fm [43, 44, 46, 47, 49, 50, 52, 53, 55, 56, 58, 59, 61, 62, 64, 65, 67, 68] [57, 58, 67, 62, 77, 78, 79, 73, 87, 80, 81, 82, 83, 84, 85, 86, 96, 89, 90, 91, 92, 93, 94, 95, 105, 98, 99, 100, 101, 102, 103, 104, 114, 107, 108, 109, 110, 111, 112, 113, 123, 116, 117, 118, 119, 120, 121, 122, 132, 125, 126, 127, 128, 129, 130, 131, 141, 134, 135, 136, 137, 138, 139, 140, 150, 143, 144, 145, 146, 147, 148, 149, 1059, 1060, 1061, 1063] s t' → AIR t' → CDJ U t' → (LWR U (stS s) (iI s 39).toNat (hitP U (stS s) (iI s 39).toNat) c' t' ∧ nx' = (cHt (hitP U (stS s) (iI s 39).toNat) (c' : Int).toNat : Int)) → (c' = iI s 9 ∧ iI t' 9 = iI s 9 ∧ iI t' 43 = iI s 9 ∧ iI s 9 ≤ 12) → WS k 186 [(0, .ref (A 67)), (1, .int (Int32.ofInt nx')), (2, .int (Int32.ofInt c'))] [] (Wd A dT t') 0 0) → WS k 18 [(0, .ref (A 67)), (1, .int (Int32.ofInt nx)), (2, .int (Int32.ofInt c))] [] (Wd A dT t) 0 0 := by
    intro n
    induction n with
    | zero =>
      intro t nx c I F jjAIR jjCDJ hq hi hm kx
      exact absurd hm (Nat.not_lt_zero _)
    | succ n ih =>
      intro t nx c I F jjAIR jjCDJ hq hi hm kx
      have b1001 := bi_9 I
      have b1002 := bi_39 I
      have b1003 := bi_40 I
      have b1004 := bi_43 I
      refine z_load_n X (x := c) rfl (List.Mem.tail _ (List.Mem.tail _ (List.Mem.head _))) (z_aload_n X (x := A 67) rfl (List.Mem.head _) (s_getR X 67 rfl (c518_ok rfl) rfl rfl (z_getI X 3 rfl (c518_ok rfl) rfl rfl ?_)))
      have b1005 := bi_9 I
      refine z_icmp_ge X (t := 186) rfl rfl ⟨by first | exact oq_fa4e5087 hi.1.1 | omega, by first | exact oq_39d2cc6e hi.1.2 hi.2.2.2.1 | omega⟩ (rng_to _) (fun g1006 => ?_) (fun g1006 => ?_)
      ·
        refine WS_pq [0, 1, 2] (lv' := [(0, .ref (A 67)), (1, .int (Int32.ofInt nx)), (2, .int (Int32.ofInt c))]) rfl ?_
        exact kx _ nx c I F jjAIR jjCDJ hq (by first | exact ⟨oq_537ca82a hi.1.2 g1006 hi.2.2.1, hi.2.2.1, hi.2.2.2.2.1, hi.2.2.2.1⟩ | omega)
      ·
        have hcn : (c : Int).toNat < (iI s 9).toNat := by omega
        have hdn := jjCDJ.1.1
        have hWk := (jjAIR.2 (c : Int).toNat (by omega)).1
        have hd3 := jjCDJ.2.1 (c : Int).toNat (by omega)
        have hsz : iC t 2 (c : Int).toNat = (uW U).2 (c : Int).toNat := hd3.1
        have hce : ∀ k : Nat, (k : Int) < iC t 2 (c : Int).toNat → iC t 1 (24 * (c : Int).toNat + k) = (uW U).1 (c : Int).toNat k := hd3.2
        have hsr := hWk.1
        refine z_aload_n X (x := A 67) rfl (List.Mem.head _) (s_getR X 67 rfl (c518_ok rfl) rfl rfl (s_getR X 3 rfl (c518_ok rfl) rfl rfl (z_load_n X (x := c) rfl (List.Mem.tail _ (List.Mem.tail _ (List.Mem.head _))) (z_ald X 5 rfl (c518_ok rfl) rfl (by first | exact hi.1.1 | omega) (show c < 12 by first | exact oq_f36e82a8 g1006 b1005.2 | omega) (cbig_ok rfl) ?_))))
        have b1007 := bc_2 I (show (c).toNat < 12 by first | exact oq_2dac6850 g1006 b1005.2 | omega)
        refine z_store_n X (lv' := [(3, .int (Int32.ofInt (iC t 2 (c).toNat))), (0, .ref (A 67)), (1, .int (Int32.ofInt nx)), (2, .int (Int32.ofInt c))]) rfl (by decide) (fun _ h => h) (z_aload_n X (x := A 67) rfl (List.Mem.tail _ (List.Mem.head _)) (s_getR X 67 rfl (c518_ok rfl) rfl rfl (z_load_n X (x := c) rfl (List.Mem.tail _ (List.Mem.tail _ (List.Mem.tail _ (List.Mem.head _)))) (z_aload_n X (x := A 67) rfl (List.Mem.tail _ (List.Mem.head _)) (s_getR X 67 rfl (c518_ok rfl) rfl rfl (s_getR X 3 rfl (c518_ok rfl) rfl rfl (z_load_n X (x := c) rfl (List.Mem.tail _ (List.Mem.tail _ (List.Mem.tail _ (List.Mem.head _)))) (z_bipush X rfl (z_mul X rfl (z_load_n X (x := (iC t 2 (c).toNat)) rfl (List.Mem.head _) (zcV_v0 X E 68 (As := [.int (Int32.ofInt c), .ref (A 4), .int (Int32.ofInt (c * 24)), .int (Int32.ofInt (iC t 2 (c).toNat))]) (st := []) rfl rfl rfl rfl (c9_setWayMa G I (by first | exact ⟨hi.1.1, oq_e4d7f3c5 g1006 b1005.2⟩ | omega) (by first | exact ⟨b1007.1, b1007.2⟩ | omega) (by first | exact ⟨oq_370ce5ec hi.1.1, oq_3796e72a g1006 b1007.2 b1005.2⟩ | omega)) rfl (Nat.le_of_ble_eq_true rfl) (fun s1008 Is1008 Fs1008 hps1008 => ?_))))))))))))
        have Gs1008 := fm_tq F Fs1008 rfl rfl
        have JAIR_s1008 : AIR s1008 := AIR_fm Fs1008 (by decide) jjAIR
        have JCDJ_s1008 : CDJ U s1008 := CDJ_fm Fs1008 (by decide) jjCDJ
        have ws1008_9 : iI s1008 9 = iI t 9 := fm_iq Fs1008 rfl
        have ws1008_39 : iI s1008 39 = iI t 39 := fm_iq Fs1008 rfl
        have ws1008_40 : iI s1008 40 = iI t 40 := fm_iq Fs1008 rfl
        have ws1008_43 : iI s1008 43 = iI t 43 := fm_iq Fs1008 rfl
        have hWo : WOK (fun k => iC t 1 (((c * 24) : Int).toNat + k)) (iC t 2 (c : Int).toNat) := wok_c hWk (fun k _ => by show iC t 1 (((c * 24) : Int).toNat + k) = iC t 1 (24 * (c : Int).toNat + k); exact congrArg (iC t 1) (by omega))
        have hW1 := hps1008
        have hK1 : LWR U (stS s) (iI s 39).toNat (hitP U (stS s) (iI s 39).toNat) c s1008 := lwr_keep hq.1 (by omega) hW1.1 hW1.2 hWo (sam_fm Fs1008 (by decide)) (sam_fm Fs1008 (by decide))
        refine z_aload_n X (x := A 67) rfl (List.Mem.tail _ (List.Mem.head _)) (s_getR X 67 rfl (c518_ok rfl) rfl rfl (s_getR X 68 rfl (c518_ok rfl) rfl rfl (z_load_n X (x := c) rfl (List.Mem.tail _ (List.Mem.tail _ (List.Mem.tail _ (List.Mem.head _)))) (z_aload_n X (x := A 67) rfl (List.Mem.tail _ (List.Mem.head _)) (s_getR X 67 rfl (c518_ok rfl) rfl rfl (s_getR X 3 rfl (c518_ok rfl) rfl rfl (z_aload_n X (x := A 67) rfl (List.Mem.tail _ (List.Mem.head _)) (z_getI X 67 rfl (c518_ok rfl) rfl rfl ?_))))))))
        have b1010 := bi_39 Is1008
        refine z_bipush X rfl (z_mul X rfl (z_load_n X (x := c) rfl (List.Mem.tail _ (List.Mem.tail _ (List.Mem.tail _ (List.Mem.head _)))) (z_add X rfl (z_ald X 14 rfl (c518_ok rfl) rfl (by first | exact oq_1d1618ee hi.1.1 b1010.1 | omega) (show (((iI s1008 39) * 12) + c) < 288 by first | exact oq_45988efc b1010.2 g1006 b1005.2 | omega) (cbig_ok rfl) ?_))))
        have b1011 := bc_11 Is1008 (show ((((iI s1008 39) * 12) + c)).toNat < 288 by first | exact oq_8395bb7c b1010.2 g1006 b1005.2 | omega)
        have hmo : (iC s1008 11 ((((iI s1008 39) * 12) + c)).toNat) = uM U (iI s 39).toNat (c : Int).toNat := by have z := JCDJ_s1008.2.2.1 (iI s 39).toNat (c : Int).toNat (by omega) (by have := JCDJ_s1008.1.1; omega); rw [← z]; exact congrArg (iC s1008 11) (by omega)
        refine z_ast X 79 rfl (c518_ok rfl) rfl (by first | exact hi.1.1 | omega) (show c < 288 by first | exact oq_026abc13 g1006 b1005.2 | omega) (cbig_ok rfl) (wd_gen (fun s1012 hs1012 => ?_))
        have Is1012 : Bd s1012 := eqB hs1012 (bd_C Is1008 (show (0 : Int) ≤ (iC s1008 11 ((((iI s1008 39) * 12) + c)).toNat) ∧ (iC s1008 11 ((((iI s1008 39) * 12) + c)).toNat) ≤ 50 by first | exact ⟨b1011.1, b1011.2⟩ | omega) (rng_to _))
        have Fs1012 := eqF hs1012 (fm_C Gs1008 (inl_ok (a := 67) rfl))
        have ws1012_9 : iI s1012 9 = iI s1008 9 := eqI hs1012 rfl
        have ws1012_39 : iI s1012 39 = iI s1008 39 := eqI hs1012 rfl
        have ws1012_40 : iI s1012 40 = iI s1008 40 := eqI hs1012 rfl
        have ws1012_43 : iI s1012 43 = iI s1008 43 := eqI hs1012 rfl
        have aws1012_57 : SAM 57 s1008 s1012 := by rw [hs1012]; exact sam_C (by decide) (sam_rf (a := 57) (s := s1008))
        have aws1012_58 : SAM 58 s1008 s1012 := by rw [hs1012]; exact sam_C (by decide) (sam_rf (a := 58) (s := s1008))
        have aws1012_67 : UPD 67 (c) (iC s1008 11 ((((iI s1008 39) * 12) + c)).toNat) s1008 s1012 := by rw [hs1012]; exact upd_put (sam_rf (a := 67) (s := s1008)) (rng_to _)
        have aws1012_73 : SAM 73 s1008 s1012 := by rw [hs1012]; exact sam_C (by decide) (sam_rf (a := 73) (s := s1008))
        have fs1012 : Fm [] [67] s1008 s1012 := by rw [hs1012]; exact fm_C (fm_rf _ _ _) (show 67 ∈ _ by decide)
        have JAIR_s1012 : AIR s1012 := AIR_fm fs1012 (by decide) JAIR_s1008
        have JCDJ_s1012 : CDJ U s1012 := CDJ_fm fs1012 (by decide) JCDJ_s1008
        have hA2 : AIN c s1012 := AIN_fm (show Fm [] [67] _ s1012 by rw [hs1012]; exact fm_C (fm_rf _ _ _) (List.Mem.head _)) (by decide) hK1.1
        have hK2 : LWR U (stS s) (iI s 39).toNat (hitP U (stS s) (iI s 39).toNat) c s1012 := lwr_mo hK1 (by omega) hA2 aws1012_57 aws1012_58 aws1012_67 aws1012_73
        have hM2 : iC s1012 67 (c : Int).toNat = uM U (iI s 39).toNat (c : Int).toNat := (aws1012_67).1.trans hmo
        refine z_aload_n X (x := A 67) rfl (List.Mem.tail _ (List.Mem.head _)) (z_getI X 67 rfl (c518_ok rfl) rfl rfl ?_)
        have b1013 := bi_40 Is1012
        refine z_load_n X (x := c) rfl (List.Mem.tail _ (List.Mem.tail _ (List.Mem.tail _ (List.Mem.head _)))) (z_bshr X rfl (z_anyV (fun y1014 hy1014 ey1014 => ?_)))
        refine z_const X rfl (w_iand X.1 (ax_d X (show cdA 92 92 = some (.iand, 1, 0, 0, 0) from rfl)) (z_anyV (fun y1015 hy1015 ey1015 => ?_)))
        have hbit := bt_rd12 (p := c) ey1014 ey1015 hy1015 (by omega)
        rw [show iI s1012 40 = iI s 40 by omega] at hbit
        have hPw := hbw_b (P := (hitP U (stS s) (iI s 39).toNat)) (p := (c : Int).toNat) (by omega) (iI s 9).toNat (by omega)
        rw [← p0.2.1] at hPw
        refine z_if_eq X (t := 180) rfl rfl hy1015 (fun g1016 => ?_) (fun g1016 => ?_)
        ·
          have hnP : ¬ (hitP U (stS s) (iI s 39).toNat) (c : Int).toNat := fun w => hbit.elim (fun z => absurd z.1 (by omega)) (fun z => z.2 (hPw.mpr ⟨hcn, w⟩))
          have hro := lwr_row hq.1 (by omega) hW1.1 hW1.2 hWo (sam_fm Fs1008 (by decide)) (sam_fm Fs1008 (by decide)) (by rw [(wyf_o (P := (hitP U (stS s) (iI s 39).toNat)) (fun w => hnP w.1)).1]; exact hsz) (fun k hk => by rw [(wyf_o (P := (hitP U (stS s) (iI s 39).toNat)) (fun w => hnP w.1)).2]; have z := hce k hk; rw [← z]; exact congrArg (iC t 1) (by omega))
          have hr2 := row_s hro (AIN_fm (show Fm [] [67] _ s1012 by rw [hs1012]; exact fm_C (fm_rf _ _ _) (List.Mem.head _)) (by decide) hro.1) aws1012_57 aws1012_58
          have hr9 := hr2
          have hL9 : LWR U (stS s) (iI s 39).toNat (hitP U (stS s) (iI s 39).toNat) (c + 1) s1012 := lwr_up hK2 hr9 (by omega) hM2 (fun w => absurd w hnP)
          have hct : (cHt (hitP U (stS s) (iI s 39).toNat) (c + 1).toNat : Int) = nx + 0 := by rw [show (c + 1).toNat = (c : Int).toNat + 1 by omega, cht_n hnP]; have := hq.2; omega
          refine z_inc X (x := c) (lv' := [(2, .int (Int32.ofInt (c + 1))), (3, .int (Int32.ofInt (iC t 2 (c).toNat))), (0, .ref (A 67)), (1, .int (Int32.ofInt nx))]) rfl (by decide) (List.Mem.tail _ (List.Mem.tail _ (List.Mem.tail _ (List.Mem.head _)))) (fun _ h => h) (z_goto X (t := 18) rfl rfl (WS_pq [2, 3, 0] (lv' := [(0, .ref (A 67)), (1, .int (Int32.ofInt nx)), (2, .int (Int32.ofInt (c + 1)))]) rfl ?_))
          exact ih _ nx (c + 1) Is1012 Fs1012 JAIR_s1012 JCDJ_s1012 ⟨hL9, by omega⟩ (by first | exact ⟨And.intro (oq_54f49eb5 hi.1.1) (oq_8a89b3ae g1006 hi.2.2.1), And.intro (hi.2.1.1) (hi.2.1.2), oq_878618b1 ws1012_9 ws1008_9 hi.2.2.1, hi.2.2.2.1, oq_878618b1 ws1012_43 ws1008_43 hi.2.2.2.2.1, oq_d0d2714e ws1012_39 hi.2.2.2.2.2.1 ws1008_39, oq_2e8e3af2 hi.2.2.2.2.2.2.1 ws1012_40 ws1008_40, hi.2.2.2.2.2.2.2⟩ | omega) (by first | exact qk_me hm (by decide) (oq_b575e8c1 g1006 b1005.2) | omega) kx
        ·
          have hP : (hitP U (stS s) (iI s 39).toNat) (c : Int).toNat := hbit.elim (fun z => (hPw.mp z.2).2) (fun z => absurd z.1 (by first | (clear g1016; omega) | omega))
          have hnx := cht_lt (P := (hitP U (stS s) (iI s 39).toNat)) hcn hP
          have hnq := hq.2
          have hp1 := p0.1
          refine z_aload_n X (x := A 67) rfl (List.Mem.tail _ (List.Mem.head _)) (z_aload_n X (x := A 67) rfl (List.Mem.tail _ (List.Mem.head _)) (s_getR X 67 rfl (c518_ok rfl) rfl rfl (z_load_n X (x := c) rfl (List.Mem.tail _ (List.Mem.tail _ (List.Mem.tail _ (List.Mem.head _)))) (z_const X rfl (zcV_i0 X E 3 (As := [.int (Int32.ofInt c), .int (Int32.ofInt 0)]) (st := [.ref (A 67)]) rfl rfl rfl rfl (c9_cellAtF G Is1012 (by first | exact ⟨hi.1.1, oq_e4d7f3c5 g1006 b1005.2⟩ | omega) (by first | exact ⟨by decide, by decide⟩ | omega)) rfl (Nat.le_of_ble_eq_true rfl) (fun s1017 e1018 Is1017 Fs1017 hrs1017 hps1017 => ?_))))))
          have hps1017p := And.intro hps1017.1 (hps1017.2.1)
          have Gs1017 := fm_tq Fs1012 Fs1017 rfl rfl
          have JAIR_s1017 : AIR s1017 := AIR_fm Fs1017 (by decide) JAIR_s1012
          have JCDJ_s1017 : CDJ U s1017 := CDJ_fm Fs1017 (by decide) JCDJ_s1012
          have ws1017_9 : iI s1017 9 = iI s1012 9 := fm_iq Fs1017 rfl
          have ws1017_39 : iI s1017 39 = iI s1012 39 := fm_iq Fs1017 rfl
          have ws1017_40 : iI s1017 40 = iI s1012 40 := fm_iq Fs1017 rfl
          have ws1017_43 : iI s1017 43 = iI s1012 43 := fm_iq Fs1017 rfl
          have aws1017_57 : SAM 57 s1008 s1017 := sam_ts aws1012_57 (sam_fm Fs1017 (by decide))
          have aws1017_58 : SAM 58 s1008 s1017 := sam_ts aws1012_58 (sam_fm Fs1017 (by decide))
          have aws1017_67 : UPD 67 (c) (iC s1008 11 ((((iI s1008 39) * 12) + c)).toNat) s1008 s1017 := upd_ts aws1012_67 (sam_fm Fs1017 (by decide))
          have aws1017_73 : SAM 73 s1008 s1017 := sam_ts aws1012_73 (sam_fm Fs1017 (by decide))
          refine z_aload_n X (x := A 67) rfl (List.Mem.tail _ (List.Mem.head _)) (s_getR X 67 rfl (c518_ok rfl) rfl rfl (z_load_n X (x := c) rfl (List.Mem.tail _ (List.Mem.tail _ (List.Mem.tail _ (List.Mem.head _)))) (z_load_n X (x := (iC t 2 (c).toNat)) rfl (List.Mem.head _) (z_const X rfl (z_sub X rfl (zcV_i0 X E 3 (As := [.int (Int32.ofInt c), .int (Int32.ofInt ((iC t 2 (c).toNat) - 1))]) (st := [.int (Int32.ofInt e1018), .ref (A 67)]) rfl rfl rfl rfl (c9_cellAtF G Is1017 (by first | exact ⟨hi.1.1, oq_e4d7f3c5 g1006 b1005.2⟩ | omega) (by first | exact ⟨oq_c1e961c7 b1007.1, oq_0332e1ab b1007.2⟩ | omega)) rfl (Nat.le_of_ble_eq_true rfl) (fun s1019 e1020 Is1019 Fs1019 hrs1019 hps1019 => ?_)))))))
          have hps1019p := And.intro hps1019.1 (hps1019.2.1)
          have Gs1019 := fm_tq Gs1017 Fs1019 rfl rfl
          have JAIR_s1019 : AIR s1019 := AIR_fm Fs1019 (by decide) JAIR_s1017
          have JCDJ_s1019 : CDJ U s1019 := CDJ_fm Fs1019 (by decide) JCDJ_s1017
          have ws1019_9 : iI s1019 9 = iI s1017 9 := fm_iq Fs1019 rfl
          have ws1019_39 : iI s1019 39 = iI s1017 39 := fm_iq Fs1019 rfl
          have ws1019_40 : iI s1019 40 = iI s1017 40 := fm_iq Fs1019 rfl
          have ws1019_43 : iI s1019 43 = iI s1017 43 := fm_iq Fs1019 rfl
          have aws1019_57 : SAM 57 s1008 s1019 := sam_ts aws1017_57 (sam_fm Fs1019 (by decide))
          have aws1019_58 : SAM 58 s1008 s1019 := sam_ts aws1017_58 (sam_fm Fs1019 (by decide))
          have aws1019_67 : UPD 67 (c) (iC s1008 11 ((((iI s1008 39) * 12) + c)).toNat) s1008 s1019 := upd_ts aws1017_67 (sam_fm Fs1019 (by decide))
          have aws1019_73 : SAM 73 s1008 s1019 := sam_ts aws1017_73 (sam_fm Fs1019 (by decide))
          have hSA : ∀ j, iC s1017 1 j = iC t 1 j := fun j => (fm_c Fs1017 (by decide) : iC s1017 1 j = iC s1012 1 j).trans ((fm_c (show Fm [] [67] _ s1012 by rw [hs1012]; exact fm_C (fm_rf _ _ _) (List.Mem.head _)) (by decide) : iC s1012 1 j = iC s1008 1 j).trans (fm_c Fs1008 (by decide)))
          have hSB : ∀ j, iC s1017 2 j = iC t 2 j := fun j => (fm_c Fs1017 (by decide) : iC s1017 2 j = iC s1012 2 j).trans ((fm_c (show Fm [] [67] _ s1012 by rw [hs1012]; exact fm_C (fm_rf _ _ _) (List.Mem.head _)) (by decide) : iC s1012 2 j = iC s1008 2 j).trans (fm_c Fs1008 (by decide)))
          have hS2 : ∀ j, iC s1012 1 j = iC t 1 j := fun j => (fm_c (show Fm [] [67] _ s1012 by rw [hs1012]; exact fm_C (fm_rf _ _ _) (List.Mem.head _)) (by decide) : iC s1012 1 j = iC s1008 1 j).trans (fm_c Fs1008 (by decide))
          have hS3 : ∀ j, iC s1012 2 j = iC t 2 j := fun j => (fm_c (show Fm [] [67] _ s1012 by rw [hs1012]; exact fm_C (fm_rf _ _ _) (List.Mem.head _)) (by decide) : iC s1012 2 j = iC s1008 2 j).trans (fm_c Fs1008 (by decide))
          have hfa : e1018 = fsA U (c : Int).toNat := by have z := hps1017; rw [hS3, hS2] at z; have w := hce 0 (by first | (clear hps1019 hps1017 g1016; omega) | (clear hps1017 g1016; omega) | omega); rw [show 24 * (c : Int).toNat + 0 = (c * 24 + 0).toNat by first | (clear hps1019 hps1017 g1016; omega) | (clear hps1017 g1016; omega) | omega] at w; show _ = (uW U).1 (c : Int).toNat 0; rw [← w]; omega
          have hla : e1020 = lsA U (c : Int).toNat := by have z := hps1019; rw [hSB, hSA] at z; have w := hce ((uW U).2 (c : Int).toNat - 1).toNat (by first | (clear hps1019 hps1017 g1016; omega) | (clear hps1017 g1016; omega) | omega); rw [show 24 * (c : Int).toNat + ((uW U).2 (c : Int).toNat - 1).toNat = (c * 24 + (iC t 2 (c : Int).toNat - 1)).toNat by first | (clear hps1019 hps1017 g1016; omega) | (clear hps1017 g1016; omega) | omega] at w; show _ = (uW U).1 (c : Int).toNat ((uW U).2 (c : Int).toNat - 1).toNat; rw [← w]; omega
          have hra := hWk.2.1 0 (by first | (clear hps1019 hps1017 g1016; omega) | (clear hps1017 g1016; omega) | omega)
          have hrb := hWk.2.1 ((uW U).2 (c : Int).toNat - 1).toNat (by first | (clear hps1019 hps1017 g1016; omega) | (clear hps1017 g1016; omega) | omega)
          have hra9 : 0 ≤ e1018 ∧ e1018 ≤ 127 := by have z := hce 0 (by first | (clear hps1019 hps1017 g1016; omega) | (clear hps1017 g1016; omega) | omega); rw [hfa]; show 0 ≤ (uW U).1 (c : Int).toNat 0 ∧ (uW U).1 (c : Int).toNat 0 ≤ 127; rw [← z]; exact hra
          have hrb9 : 0 ≤ e1020 ∧ e1020 ≤ 127 := by have z := hce ((uW U).2 (c : Int).toNat - 1).toNat (by first | (clear hps1019 hps1017 g1016; omega) | (clear hps1017 g1016; omega) | omega); rw [hla]; show 0 ≤ (uW U).1 (c : Int).toNat ((uW U).2 (c : Int).toNat - 1).toNat ∧ (uW U).1 (c : Int).toNat ((uW U).2 (c : Int).toNat - 1).toNat ≤ 127; rw [← z]; exact hrb
          refine zcV_i0 X E 67 (As := [.int (Int32.ofInt e1018), .int (Int32.ofInt e1020)]) (st := []) rfl rfl rfl rfl (c8_findRound9 G GR Is1019 (by first | exact ⟨hra9.1, hra9.2⟩ | omega) (by first | exact ⟨hrb9.1, hrb9.2⟩ | omega)) rfl (Nat.le_of_ble_eq_true rfl) (fun s1021 e1022 Is1021 Fs1021 hrs1021 hps1021 => ?_)
          have Gs1021 := fm_tq Gs1019 Fs1021 rfl rfl
          have JAIR_s1021 : AIR s1021 := AIR_fm Fs1021 (by decide) JAIR_s1019
          have JCDJ_s1021 : CDJ U s1021 := CDJ_fm Fs1021 (by decide) JCDJ_s1019
          have ws1021_9 : iI s1021 9 = iI s1019 9 := fm_iq Fs1021 rfl
          have ws1021_39 : iI s1021 39 = iI s1019 39 := fm_iq Fs1021 rfl
          have ws1021_40 : iI s1021 40 = iI s1019 40 := fm_iq Fs1021 rfl
          have ws1021_43 : iI s1021 43 = iI s1019 43 := fm_iq Fs1021 rfl
          have aws1021_57 : SAM 57 s1008 s1021 := sam_ts aws1019_57 (sam_fm Fs1021 (by decide))
          have aws1021_58 : SAM 58 s1008 s1021 := sam_ts aws1019_58 (sam_fm Fs1021 (by decide))
          have aws1021_67 : UPD 67 (c) (iC s1008 11 ((((iI s1008 39) * 12) + c)).toNat) s1008 s1021 := upd_ts aws1019_67 (sam_fm Fs1021 (by decide))
          have aws1021_73 : SAM 73 s1008 s1021 := sam_ts aws1019_73 (sam_fm Fs1021 (by decide))
          have hz5 : 0 ≤ e1022 ∧ e1022 ≤ 24 := hps1021.1
          have hRN : RNR (stS s) (fsA U (c : Int).toNat) (lsA U (c : Int).toNat) e1022 (fun k => iC s1021 79 k) := by have z := hps1021.2; rw [show stS s1019 = stS s from sts_s (sbs_fm Gs1019 (by decide)), hfa, hla] at z; exact z
          have hrz := rnz_eq hRN
          have hzF : e1022 = zF U (stS s) (c : Int).toNat := hrz.1
          have hK5 : LWR U (stS s) (iI s 39).toNat (hitP U (stS s) (iI s 39).toNat) c s1021 := LWR_fm Fs1021 (by decide) (LWR_fm Fs1019 (by decide) (LWR_fm Fs1017 (by decide) hK2))
          have hM5 : iC s1021 67 (c : Int).toNat = uM U (iI s 39).toNat (c : Int).toNat := (fm_c Fs1021 (by decide)).trans ((fm_c Fs1019 (by decide)).trans ((fm_c Fs1017 (by decide)).trans hM2))
          refine z_store X (lv' := [(4, .int (Int32.ofInt e1022)), (3, .int (Int32.ofInt (iC t 2 (c).toNat))), (0, .ref (A 67)), (1, .int (Int32.ofInt nx)), (2, .int (Int32.ofInt c))]) rfl (by decide) (fun _ h => h) (z_aload_n X (x := A 67) rfl (List.Mem.tail _ (List.Mem.tail _ (List.Mem.head _))) (s_getR X 67 rfl (c518_ok rfl) rfl rfl (z_load_n X (x := nx) rfl (List.Mem.tail _ (List.Mem.tail _ (List.Mem.tail _ (List.Mem.head _)))) (z_load X (x := e1022) rfl (List.Mem.head _) (z_if_ne X (t := 136) rfl rfl hrs1021 (fun g1023 => ?_) (fun g1023 => ?_))))))
          ·
            refine z_const X rfl (z_const X rfl (z_load X (x := e1022) rfl (List.Mem.head _) (z_load_n X (x := (iC t 2 (c).toNat)) rfl (List.Mem.tail _ (List.Mem.head _)) (z_sub X rfl (z_max X rfl (by decide) ⟨by first | exact oq_5b45330b hz5.1 b1007.2 | omega, by first | exact oq_c3c0165d hz5.2 b1007.1 | omega⟩ (by rw [E.2.2.2]; decide) (by rw [E.2.2.2]; exact Nat.le_of_ble_eq_true rfl) (Nat.zero_le _) (Nat.zero_le _) (fun e1024 he1024 => ?_))))))
            refine z_mul X rfl (z_aload_n X (x := A 67) rfl (List.Mem.tail _ (List.Mem.tail _ (List.Mem.head _))) (s_getR X 67 rfl (c518_ok rfl) rfl rfl (s_getR X 68 rfl (c518_ok rfl) rfl rfl (z_load_n X (x := c) rfl (List.Mem.tail _ (List.Mem.tail _ (List.Mem.tail _ (List.Mem.tail _ (List.Mem.head _))))) (z_ald X 79 rfl (c518_ok rfl) rfl (by first | exact hi.1.1 | omega) (show c < 288 by first | exact oq_026abc13 g1006 b1005.2 | omega) (cbig_ok rfl) ?_)))))
            have b1025 := bc_67 Is1021 (show (c).toNat < 288 by first | exact oq_c1034abd g1006 b1005.2 | omega)
            have ar1026 : iC s1021 67 (c).toNat = iC s1021 67 (c).toNat := (sam_rf (a := 67) (s := s1021)) _
            have hP9 := mul_bd (show 0 ≤ (2 * e1024) by first | (clear g1023 hps1019 hps1017 g1016; omega) | (clear hps1019 hps1017 g1016; omega) | omega) (show (2 * e1024) ≤ 48 by first | (clear g1023 hps1019 hps1017 g1016; omega) | (clear hps1019 hps1017 g1016; omega) | omega) (show 0 ≤ (iC s1021 67 (c).toNat) by first | (clear g1023 hps1019 hps1017 g1016; omega) | (clear hps1019 hps1017 g1016; omega) | omega) (show (iC s1021 67 (c).toNat) ≤ 50 by first | (clear g1023 hps1019 hps1017 g1016; omega) | (clear hps1019 hps1017 g1016; omega) | omega)
            refine z_mul X rfl (z_ast X 86 rfl (c518_ok rfl) rfl (by first | exact hi.2.1.1 | omega) (show nx < 8 by first | (clear g1023 hps1019 hps1017 g1016; omega) | (clear hps1019 hps1017 g1016; omega) | omega) (cbig_ok rfl) (wd_gen (fun s1027 hs1027 => ?_)))
            have Is1027 : Bd s1027 := eqB hs1027 (bd_C Is1021 (show ((-2147483648) : Int) ≤ ((2 * e1024) * (iC s1021 67 (c).toNat)) ∧ ((2 * e1024) * (iC s1021 67 (c).toNat)) ≤ 2147483647 by first | (clear g1023 hps1019 hps1017 g1016; omega) | (clear hps1019 hps1017 g1016; omega) | omega) ⟨by first | (clear g1023 hps1019 hps1017 g1016; omega) | (clear hps1019 hps1017 g1016; omega) | omega, by first | (clear g1023 hps1019 hps1017 g1016; omega) | (clear hps1019 hps1017 g1016; omega) | omega⟩)
            have Fs1027 := eqF hs1027 (fm_C Gs1021 (inl_ok (a := 73) rfl))
            have ws1027_9 : iI s1027 9 = iI s1021 9 := eqI hs1027 rfl
            have ws1027_39 : iI s1027 39 = iI s1021 39 := eqI hs1027 rfl
            have ws1027_40 : iI s1027 40 = iI s1021 40 := eqI hs1027 rfl
            have ws1027_43 : iI s1027 43 = iI s1021 43 := eqI hs1027 rfl
            have aws1027_57 : SAM 57 s1021 s1027 := by rw [hs1027]; exact sam_C (by decide) (sam_rf (a := 57) (s := s1021))
            have aws1027_58 : SAM 58 s1021 s1027 := by rw [hs1027]; exact sam_C (by decide) (sam_rf (a := 58) (s := s1021))
            have aws1027_67 : SAM 67 s1021 s1027 := by rw [hs1027]; exact sam_C (by decide) (sam_rf (a := 67) (s := s1021))
            have aws1027_73 : UPD 73 (nx) ((2 * e1024) * (iC s1021 67 (c).toNat)) s1021 s1027 := by rw [hs1027]; exact upd_put (sam_rf (a := 73) (s := s1021)) ⟨by first | (clear g1023 hps1019 hps1017 g1016; omega) | (clear hps1019 hps1017 g1016; omega) | omega, by first | (clear g1023 hps1019 hps1017 g1016; omega) | (clear hps1019 hps1017 g1016; omega) | omega⟩
            have fs1027 : Fm [] [73] s1021 s1027 := by rw [hs1027]; exact fm_C (fm_rf _ _ _) (show 73 ∈ _ by decide)
            have JAIR_s1027 : AIR s1027 := AIR_fm fs1027 (by decide) JAIR_s1021
            have JCDJ_s1027 : CDJ U s1027 := CDJ_fm fs1027 (by decide) JCDJ_s1021
            have hA6 : AIN c s1027 := AIN_fm (show Fm [] [73] _ s1027 by rw [hs1027]; exact fm_C (fm_rf _ _ _) (List.Mem.head _)) (by decide) hK5.1
            have hK6 : LWR U (stS s) (iI s 39).toNat (hitP U (stS s) (iI s 39).toNat) c s1027 := lwr_rn hK5 (by first | (clear g1023 hps1019 hps1017 g1016; omega) | (clear hps1019 hps1017 g1016; omega) | omega) hA6 aws1027_57 aws1027_58 aws1027_67 aws1027_73 (by first | (clear g1023 hps1019 hps1017 g1016; omega) | (clear hps1019 hps1017 g1016; omega) | omega)
            have hR6 : iC s1027 73 (cHt (hitP U (stS s) (iI s 39).toNat) (c : Int).toNat) = rdX U (stS s) (iI s 39).toNat (c : Int).toNat := by rw [show cHt (hitP U (stS s) (iI s 39).toNat) (c : Int).toNat = (nx : Int).toNat by first | (clear g1023 hps1019 hps1017 g1016; omega) | (clear hps1019 hps1017 g1016; omega) | omega, (aws1027_73).1]; exact (rdx_z (mx := e1024) (m := (iC s1021 67 (c).toNat)) (by first | (clear g1023 hps1019 hps1017 g1016; omega) | (clear hps1019 hps1017 g1016; omega) | omega) (by first | (clear g1023 hps1019 hps1017 g1016; omega) | (clear hps1019 hps1017 g1016; omega) | omega) hM5).symm
            have hM6 : iC s1027 67 (c : Int).toNat = uM U (iI s 39).toNat (c : Int).toNat := (aws1027_67 _).trans hM5
            refine z_inc X (x := nx) (lv' := [(1, .int (Int32.ofInt (nx + 1))), (4, .int (Int32.ofInt e1022)), (3, .int (Int32.ofInt (iC t 2 (c).toNat))), (0, .ref (A 67)), (2, .int (Int32.ofInt c))]) rfl (by decide) (List.Mem.tail _ (List.Mem.tail _ (List.Mem.tail _ (List.Mem.head _)))) (fun _ h => h) (z_load X (x := e1022) rfl (List.Mem.tail _ (List.Mem.head _)) (z_if_le X (t := 180) rfl rfl hrs1021 (fun g1028 => ?_) (fun g1028 => ?_)))
            ·
              exfalso
              omega
            ·
              refine z_aload_n X (x := A 67) rfl (List.Mem.tail _ (List.Mem.tail _ (List.Mem.tail _ (List.Mem.head _)))) (s_getR X 67 rfl (c518_ok rfl) rfl rfl (z_load_n X (x := c) rfl (List.Mem.tail _ (List.Mem.tail _ (List.Mem.tail _ (List.Mem.tail _ (List.Mem.head _))))) (z_aload_n X (x := A 67) rfl (List.Mem.tail _ (List.Mem.tail _ (List.Mem.tail _ (List.Mem.head _)))) (s_getR X 67 rfl (c518_ok rfl) rfl rfl (z_const X rfl (z_load X (x := e1022) rfl (List.Mem.tail _ (List.Mem.head _)) (zcV_v0 X E 68 (As := [.int (Int32.ofInt c), .ref (A 92), .int (Int32.ofInt 0), .int (Int32.ofInt e1022)]) (st := []) rfl rfl rfl rfl (c9_setWayMp G Is1027 (by first | exact ⟨hi.1.1, oq_e4d7f3c5 g1006 b1005.2⟩ | omega) (by first | exact ⟨hz5.1, hz5.2⟩ | omega) (by first | exact ⟨by decide, oq_4854286b hz5.2⟩ | omega)) rfl (Nat.le_of_ble_eq_true rfl) (fun s1029 Is1029 Fs1029 hps1029 => ?_))))))))
              have Gs1029 := fm_tq Fs1027 Fs1029 rfl rfl
              have JAIR_s1029 : AIR s1029 := AIR_fm Fs1029 (by decide) JAIR_s1027
              have JCDJ_s1029 : CDJ U s1029 := CDJ_fm Fs1029 (by decide) JCDJ_s1027
              have ws1029_9 : iI s1029 9 = iI s1027 9 := fm_iq Fs1029 rfl
              have ws1029_39 : iI s1029 39 = iI s1027 39 := fm_iq Fs1029 rfl
              have ws1029_40 : iI s1029 40 = iI s1027 40 := fm_iq Fs1029 rfl
              have ws1029_43 : iI s1029 43 = iI s1027 43 := fm_iq Fs1029 rfl
              have aws1029_67 : SAM 67 s1021 s1029 := sam_ts aws1027_67 (sam_fm Fs1029 (by decide))
              have aws1029_73 : UPD 73 (nx) ((2 * e1024) * (iC s1021 67 (c).toNat)) s1021 s1029 := upd_ts aws1027_73 (sam_fm Fs1029 (by decide))
              have hp6 : ∀ k : Nat, (k : Int) < e1022 → iC s1027 79 ((0 : Int).toNat + k) = pF9 U (stS s) (c : Int).toNat k := fun k hk => by have z := hrz.2 k hk; rw [show (0 : Int).toNat + k = k by first | (clear g1023 hps1019 hps1017 g1016; omega) | (clear hps1019 hps1017 g1016; omega) | omega]; refine Eq.trans (show iC s1027 79 k = iC s1021 79 k from ?_) z; rw [hs1027]; exact iC_a (by decide)
              have hWo2 : WOK (fun k => iC s1027 79 ((0 : Int).toNat + k)) e1022 := wok_c (rnr_wok hRN (by rw [← hfa]; exact hra9) (by first | (clear g1023 hps1019 hps1017 g1016; omega) | (clear hps1019 hps1017 g1016; omega) | omega)) (fun k hk => by show iC s1027 79 ((0 : Int).toNat + k) = iC s1021 79 k; rw [hp6 k hk]; exact (hrz.2 k hk).symm)
              have hro := lwr_row hK6 (by first | (clear g1023 hps1019 hps1017 g1016; omega) | (clear hps1019 hps1017 g1016; omega) | omega) hps1029.1 hps1029.2 hWo2 (sam_fm Fs1029 (by decide)) (sam_fm Fs1029 (by decide)) (by rw [(wyf_r (P := (hitP U (stS s) (iI s 39).toNat)) ⟨hP, by first | (clear g1023 hps1019 hps1017 g1016; omega) | (clear hps1019 hps1017 g1016; omega) | omega⟩).1]; exact hzF) (fun k hk => by rw [(wyf_r (P := (hitP U (stS s) (iI s 39).toNat)) ⟨hP, by first | (clear g1023 hps1019 hps1017 g1016; omega) | (clear hps1019 hps1017 g1016; omega) | omega⟩).2]; exact hp6 k hk)
              have hL9 : LWR U (stS s) (iI s 39).toNat (hitP U (stS s) (iI s 39).toNat) (c + 1) s1029 := lwr_up (lwr_keep hK6 (by first | (clear g1023 hps1019 hps1017 g1016; omega) | (clear hps1019 hps1017 g1016; omega) | omega) hps1029.1 hps1029.2 hWo2 (sam_fm Fs1029 (by decide)) (sam_fm Fs1029 (by decide))) hro (by first | (clear g1023 hps1019 hps1017 g1016; omega) | (clear hps1019 hps1017 g1016; omega) | omega) ((fm_c Fs1029 (by decide)).trans hM6) (fun _ => (fm_c Fs1029 (by decide)).trans hR6)
              have hct : (cHt (hitP U (stS s) (iI s 39).toNat) (c + 1).toNat : Int) = nx + 1 := by rw [show (c + 1).toNat = (c : Int).toNat + 1 by first | (clear g1023 hps1019 hps1017 g1016; omega) | (clear hps1019 hps1017 g1016; omega) | omega, cht_y hP]; have := hq.2; omega
              refine z_inc X (x := c) (lv' := [(2, .int (Int32.ofInt (c + 1))), (1, .int (Int32.ofInt (nx + 1))), (4, .int (Int32.ofInt e1022)), (3, .int (Int32.ofInt (iC t 2 (c).toNat))), (0, .ref (A 67))]) rfl (by decide) (List.Mem.tail _ (List.Mem.tail _ (List.Mem.tail _ (List.Mem.tail _ (List.Mem.head _))))) (fun _ h => h) (z_goto X (t := 18) rfl rfl (WS_pq [4, 1, 0] (lv' := [(0, .ref (A 67)), (1, .int (Int32.ofInt (nx + 1))), (2, .int (Int32.ofInt (c + 1)))]) rfl ?_))
              exact ih _ (nx + 1) (c + 1) Is1029 Gs1029 JAIR_s1029 JCDJ_s1029 ⟨hL9, by first | (clear g1023 hps1019 hps1017 g1016; omega) | (clear hps1019 hps1017 g1016; omega) | omega⟩ (by first | exact ⟨And.intro (oq_54f49eb5 hi.1.1) (oq_8a89b3ae g1006 hi.2.2.1), by first | (clear g1023 hps1019 hps1017 g1016; omega) | (clear hps1019 hps1017 g1016; omega) | omega, oq_ea4036f5 ws1029_9 ws1027_9 ws1021_9 ws1019_9 ws1017_9 ws1012_9 ws1008_9 hi.2.2.1, hi.2.2.2.1, oq_ea4036f5 ws1029_43 ws1027_43 ws1021_43 ws1019_43 ws1017_43 ws1012_43 ws1008_43 hi.2.2.2.2.1, oq_ea4036f5 ws1029_39 ws1027_39 ws1021_39 ws1019_39 ws1017_39 ws1012_39 ws1008_39 hi.2.2.2.2.2.1, oq_ea4036f5 ws1029_40 ws1027_40 ws1021_40 ws1019_40 ws1017_40 ws1012_40 ws1008_40 hi.2.2.2.2.2.2.1, hi.2.2.2.2.2.2.2⟩ | omega) (by first | exact qk_me hm (by decide) (oq_b575e8c1 g1006 b1005.2) | omega) kx
          ·
            refine z_const X rfl (z_goto X (t := 156) rfl rfl (z_ast X 86 rfl (c518_ok rfl) rfl (by first | exact hi.2.1.1 | omega) (show nx < 8 by first | (clear hps1019 hps1017 g1016; omega) | (clear hps1017 g1016; omega) | omega) (cbig_ok rfl) (wd_gen (fun s1031 hs1031 => ?_))))
            have Is1031 : Bd s1031 := eqB hs1031 (bd_C Is1021 (show ((-2147483648) : Int) ≤ (-1) ∧ (-1) ≤ 2147483647 by first | exact ⟨by decide, by decide⟩ | omega) (by decide))
            have Fs1031 := eqF hs1031 (fm_C Gs1021 (inl_ok (a := 73) rfl))
            have ws1031_9 : iI s1031 9 = iI s1021 9 := eqI hs1031 rfl
            have ws1031_39 : iI s1031 39 = iI s1021 39 := eqI hs1031 rfl
            have ws1031_40 : iI s1031 40 = iI s1021 40 := eqI hs1031 rfl
            have ws1031_43 : iI s1031 43 = iI s1021 43 := eqI hs1031 rfl
            have aws1031_57 : SAM 57 s1021 s1031 := by rw [hs1031]; exact sam_C (by decide) (sam_rf (a := 57) (s := s1021))
            have aws1031_58 : SAM 58 s1021 s1031 := by rw [hs1031]; exact sam_C (by decide) (sam_rf (a := 58) (s := s1021))
            have aws1031_67 : SAM 67 s1021 s1031 := by rw [hs1031]; exact sam_C (by decide) (sam_rf (a := 67) (s := s1021))
            have aws1031_73 : UPD 73 (nx) (-1) s1021 s1031 := by rw [hs1031]; exact upd_put (sam_rf (a := 73) (s := s1021)) (by decide)
            have fs1031 : Fm [] [73] s1021 s1031 := by rw [hs1031]; exact fm_C (fm_rf _ _ _) (show 73 ∈ _ by decide)
            have JAIR_s1031 : AIR s1031 := AIR_fm fs1031 (by decide) JAIR_s1021
            have JCDJ_s1031 : CDJ U s1031 := CDJ_fm fs1031 (by decide) JCDJ_s1021
            have hA6 : AIN c s1031 := AIN_fm (show Fm [] [73] _ s1031 by rw [hs1031]; exact fm_C (fm_rf _ _ _) (List.Mem.head _)) (by decide) hK5.1
            have hK6 : LWR U (stS s) (iI s 39).toNat (hitP U (stS s) (iI s 39).toNat) c s1031 := lwr_rn hK5 (by first | (clear hps1019 hps1017 g1016; omega) | (clear hps1017 g1016; omega) | omega) hA6 aws1031_57 aws1031_58 aws1031_67 aws1031_73 (by first | (clear hps1019 hps1017 g1016; omega) | (clear hps1017 g1016; omega) | omega)
            have hR6 : iC s1031 73 (cHt (hitP U (stS s) (iI s 39).toNat) (c : Int).toNat) = rdX U (stS s) (iI s 39).toNat (c : Int).toNat := by rw [show cHt (hitP U (stS s) (iI s 39).toNat) (c : Int).toNat = (nx : Int).toNat by first | (clear hps1019 hps1017 g1016; omega) | (clear hps1017 g1016; omega) | omega, (aws1031_73).1]; exact (rdx_0 (by first | (clear hps1019 hps1017 g1016; omega) | (clear hps1017 g1016; omega) | omega)).symm
            have hM6 : iC s1031 67 (c : Int).toNat = uM U (iI s 39).toNat (c : Int).toNat := (aws1031_67 _).trans hM5
            refine z_inc X (x := nx) (lv' := [(1, .int (Int32.ofInt (nx + 1))), (4, .int (Int32.ofInt e1022)), (3, .int (Int32.ofInt (iC t 2 (c).toNat))), (0, .ref (A 67)), (2, .int (Int32.ofInt c))]) rfl (by decide) (List.Mem.tail _ (List.Mem.tail _ (List.Mem.tail _ (List.Mem.head _)))) (fun _ h => h) (z_load X (x := e1022) rfl (List.Mem.tail _ (List.Mem.head _)) (z_if_le X (t := 180) rfl rfl hrs1021 (fun g1032 => ?_) (fun g1032 => ?_)))
            ·
              have hro := lwr_row hq.1 (by first | (clear hps1019 hps1017 g1016; omega) | (clear hps1017 g1016; omega) | omega) hW1.1 hW1.2 hWo (sam_fm Fs1008 (by decide)) (sam_fm Fs1008 (by decide)) (by rw [(wyf_o (P := (hitP U (stS s) (iI s 39).toNat)) (fun w => w.2 (by first | (clear hps1019 hps1017 g1016; omega) | (clear hps1017 g1016; omega) | omega))).1]; exact hsz) (fun k hk => by rw [(wyf_o (P := (hitP U (stS s) (iI s 39).toNat)) (fun w => w.2 (by first | (clear hps1019 hps1017 g1016; omega) | (clear hps1017 g1016; omega) | omega))).2]; have z := hce k hk; rw [← z]; exact congrArg (iC t 1) (by first | (clear hps1019 hps1017 g1016; omega) | (clear hps1017 g1016; omega) | omega))
              have hr2 := row_s hro (AIN_fm (show Fm [] [67] _ s1012 by rw [hs1012]; exact fm_C (fm_rf _ _ _) (List.Mem.head _)) (by decide) hro.1) aws1012_57 aws1012_58
              have hr5 := row_s hr2 (AIN_fm Fs1021 (by decide) (AIN_fm Fs1019 (by decide) (AIN_fm Fs1017 (by decide) hr2.1))) (sam_ts (sam_fm Fs1017 (by decide)) (sam_ts (sam_fm Fs1019 (by decide)) (sam_fm Fs1021 (by decide)))) (sam_ts (sam_fm Fs1017 (by decide)) (sam_ts (sam_fm Fs1019 (by decide)) (sam_fm Fs1021 (by decide))))
              have hr9 := row_s hr5 (AIN_fm (show Fm [] [73] _ s1031 by rw [hs1031]; exact fm_C (fm_rf _ _ _) (List.Mem.head _)) (by decide) hr5.1) aws1031_57 aws1031_58
              have hL9 : LWR U (stS s) (iI s 39).toNat (hitP U (stS s) (iI s 39).toNat) (c + 1) s1031 := lwr_up hK6 hr9 (by first | (clear hps1019 hps1017 g1016; omega) | (clear hps1017 g1016; omega) | omega) hM6 (fun _ => hR6)
              have hct : (cHt (hitP U (stS s) (iI s 39).toNat) (c + 1).toNat : Int) = nx + 1 := by rw [show (c + 1).toNat = (c : Int).toNat + 1 by first | (clear hps1019 hps1017 g1016; omega) | (clear hps1017 g1016; omega) | omega, cht_y hP]; have := hq.2; omega
              refine z_inc X (x := c) (lv' := [(2, .int (Int32.ofInt (c + 1))), (1, .int (Int32.ofInt (nx + 1))), (4, .int (Int32.ofInt e1022)), (3, .int (Int32.ofInt (iC t 2 (c).toNat))), (0, .ref (A 67))]) rfl (by decide) (List.Mem.tail _ (List.Mem.tail _ (List.Mem.tail _ (List.Mem.tail _ (List.Mem.head _))))) (fun _ h => h) (z_goto X (t := 18) rfl rfl (WS_pq [4, 1, 0] (lv' := [(0, .ref (A 67)), (1, .int (Int32.ofInt (nx + 1))), (2, .int (Int32.ofInt (c + 1)))]) rfl ?_))
              exact ih _ (nx + 1) (c + 1) Is1031 Fs1031 JAIR_s1031 JCDJ_s1031 ⟨hL9, by first | (clear hps1019 hps1017 g1016; omega) | (clear hps1017 g1016; omega) | omega⟩ (by first | exact ⟨And.intro (oq_54f49eb5 hi.1.1) (oq_8a89b3ae g1006 hi.2.2.1), by first | (clear hps1019 hps1017 g1016; omega) | (clear hps1017 g1016; omega) | omega, oq_cc03667a ws1031_9 ws1021_9 ws1019_9 ws1017_9 ws1012_9 ws1008_9 hi.2.2.1, hi.2.2.2.1, oq_cc03667a ws1031_43 ws1021_43 ws1019_43 ws1017_43 ws1012_43 ws1008_43 hi.2.2.2.2.1, oq_cc03667a ws1031_39 ws1021_39 ws1019_39 ws1017_39 ws1012_39 ws1008_39 hi.2.2.2.2.2.1, oq_cc03667a ws1031_40 ws1021_40 ws1019_40 ws1017_40 ws1012_40 ws1008_40 hi.2.2.2.2.2.2.1, hi.2.2.2.2.2.2.2⟩ | omega) (by first | exact qk_me hm (by decide) (oq_b575e8c1 g1006 b1005.2) | omega) kx
            ·
              exfalso
              omega
  have L195 : ∀ (n : Nat) (t : PS) (p : Int), Bd t → Fm [43, 44, 46, 47, 49, 50, 52, 53, 55, 56, 58, 59, 61, 62, 64, 65, 67, 68] [57, 58, 67, 62, 77, 78, 79, 73, 87, 80, 81, 82, 83, 84, 85, 86, 96, 89, 90, 91, 92, 93, 94, 95, 105, 98, 99, 100, 101, 102, 103, 104, 114, 107, 108, 109, 110, 111, 112, 113, 123, 116, 117, 118, 119, 120, 121, 122, 132, 125, 126, 127, 128, 129, 130, 131, 141, 134, 135, 136, 137, 138, 139, 140, 150, 143, 144, 145, 146, 147, 148, 149, 1059, 1060, 1061, 1063] s t → AIR t → CDJ U t → AIRM t → CPLM t → (EAR9 p t ∧ LWR U (stS s) (iI s 39).toNat (hitP U (stS s) (iI s 39).toNat) (iI s 9) t) → ((0 ≤ p ∧ p ≤ 8) ∧ iI t 43 = iI s 9) → (8 - p : Int).toNat < n → (∀ (t' : PS) (p' : Int), Bd t' → Fm [43, 44, 46, 47, 49, 50, 52, 53, 55, 56, 58, 59, 61, 62, 64, 65, 67, 68] [57, 58, 67, 62, 77, 78, 79, 73, 87, 80, 81, 82, 83, 84, 85, 86, 96, 89, 90, 91, 92, 93, 94, 95, 105, 98, 99, 100, 101, 102, 103, 104, 114, 107, 108, 109, 110, 111, 112, 113, 123, 116, 117, 118, 119, 120, 121, 122, 132, 125, 126, 127, 128, 129, 130, 131, 141, 134, 135, 136, 137, 138, 139, 140, 150, 143, 144, 145, 146, 147, 148, 149, 1059, 1060, 1061, 1063] s t' → AIR t' → CDJ U t' → AIRM t' → CPLM t' → (EAR9 p' t' ∧ LWR U (stS s) (iI s 39).toNat (hitP U (stS s) (iI s 39).toNat) (iI s 9) t') → (p' = 8 ∧ iI t' 43 = iI s 9) → WS k 235 [(0, .ref (A 67)), (2, .int (Int32.ofInt p'))] [] (Wd A dT t') 0 0) → WS k 195 [(0, .ref (A 67)), (2, .int (Int32.ofInt p))] [] (Wd A dT t) 0 0 := by
    intro n
    induction n with
    | zero =>
      intro t p I F jjAIR jjCDJ jjAIRM jjCPLM hq hi hm kx
      exact absurd hm (Nat.not_lt_zero _)
    | succ n ih =>
      intro t p I F jjAIR jjCDJ jjAIRM jjCPLM hq hi hm kx
      have b2001 := bi_9 I
      have b2002 := bi_39 I
      have b2003 := bi_40 I
      have b2004 := bi_43 I
      refine z_load_n X (x := p) rfl (List.Mem.tail _ (List.Mem.head _)) (z_bipush X rfl (z_icmp_ge X (t := 235) rfl rfl ⟨by first | exact oq_fa4e5087 hi.1.1 | omega, by first | exact oq_d3f5d874 hi.1.2 | omega⟩ (by decide) (fun g2005 => ?_) (fun g2005 => ?_)))
      ·
        refine WS_pq [0, 1] (lv' := [(0, .ref (A 67)), (2, .int (Int32.ofInt p))]) rfl ?_
        exact kx _ p I F jjAIR jjCDJ jjAIRM jjCPLM hq (by first | exact ⟨oq_73d3719d hi.1.2 g2005, hi.2⟩ | omega)
      ·
        refine z_aload_n X (x := A 67) rfl (List.Mem.head _) (s_getR X 67 rfl (c518_ok rfl) rfl rfl (z_load_n X (x := p) rfl (List.Mem.tail _ (List.Mem.head _)) (z_a8 X rfl (by omega) (show p < 8 by omega) ?_)))
        rcases (show p = 0 ∨ p = 1 ∨ p = 2 ∨ p = 3 ∨ p = 4 ∨ p = 5 ∨ p = 6 ∨ p = 7 by omega) with gs | gs | gs | gs | gs | gs | gs | gs
        ·
          have e8 : 93 + 10 * (p : Int).toNat = 93 := by omega
          rw [e8]
          refine z_aload_n X (x := A 67) rfl (List.Mem.head _) (s_getR X 67 rfl (c518_ok rfl) rfl rfl (s_getR X 25 rfl (c518_ok rfl) rfl rfl (z_load_n X (x := p) rfl (List.Mem.tail _ (List.Mem.head _)) (z_lalE X 27 rfl (by decide) rfl (by first | exact hi.1.1 | omega) (show p < 8 by first | exact g2005 | omega) (by decide) (z_aload_n X (x := A 67) rfl (List.Mem.head _) (s_getR X 67 rfl (c518_ok rfl) rfl rfl (s_getR X 25 rfl (c518_ok rfl) rfl rfl (z_load_n X (x := p) rfl (List.Mem.tail _ (List.Mem.head _)) (z_lalE X 28 rfl (by decide) rfl (by first | exact hi.1.1 | omega) (show p < 8 by first | exact g2005 | omega) (by decide) (z_const X rfl (zcV_v0 X E 93 (As := [.long (gD t 22 (p).toNat), .long (gD t 23 (p).toNat), .int (Int32.ofInt 1)]) (st := []) rfl rfl rfl rfl (c0_listen3e0 G I (by first | exact ⟨by decide, by decide⟩ | omega)) rfl (Nat.le_of_ble_eq_true rfl) (fun s2006 Is2006 Fs2006 hps2006 => ?_))))))))))))
          have Gs2006 := fm_tq F Fs2006 rfl rfl
          have JAIR_s2006 : AIR s2006 := AIR_fm Fs2006 (by decide) jjAIR
          have JCDJ_s2006 : CDJ U s2006 := CDJ_fm Fs2006 (by decide) jjCDJ
          have JAIRM_s2006 : AIRM s2006 := AIRM_fm Fs2006 (by decide) jjAIRM
          have JCPLM_s2006 : CPLM s2006 := CPLM_fm Fs2006 (by decide) jjCPLM
          have ws2006_9 : iI s2006 9 = iI t 9 := fm_iq Fs2006 rfl
          have ws2006_39 : iI s2006 39 = iI t 39 := fm_iq Fs2006 rfl
          have ws2006_40 : iI s2006 40 = iI t 40 := fm_iq Fs2006 rfl
          have ws2006_43 : iI s2006 43 = iI t 43 := fm_iq Fs2006 rfl
          have hE9 : EAR9 (p + 1) s2006 := ear9_0 hq.1 (by omega) Fs2006 (by have z := hps2006.1; rw [show (p : Int).toNat = 0 by omega] at z; exact z) (by have z := hps2006.2; rw [show (p : Int).toNat = 0 by omega] at z; exact z)
          have hL7 : LWR U (stS s) (iI s 39).toNat (hitP U (stS s) (iI s 39).toNat) (iI s 9) s2006 := LWR_fm Fs2006 (by decide) hq.2
          refine z_inc X (x := p) (lv' := [(2, .int (Int32.ofInt (p + 1))), (0, .ref (A 67))]) rfl (by decide) (List.Mem.tail _ (List.Mem.head _)) (fun _ h => h) (z_goto X (t := 195) rfl rfl (WS_pq [1, 0] (lv' := [(0, .ref (A 67)), (2, .int (Int32.ofInt (p + 1)))]) rfl ?_))
          exact ih _ (p + 1) Is2006 Gs2006 JAIR_s2006 JCDJ_s2006 JAIRM_s2006 JCPLM_s2006 ⟨hE9, hL7⟩ (by first | exact ⟨And.intro (oq_54f49eb5 hi.1.1) (oq_0c7b19c3 g2005), oq_1aa5be9e ws2006_43 hi.2⟩ | omega) (by first | exact qk_me hm (by decide) (oq_9f368f35 g2005) | omega) kx
        ·
          have e8 : 93 + 10 * (p : Int).toNat = 103 := by omega
          rw [e8]
          refine z_aload_n X (x := A 67) rfl (List.Mem.head _) (s_getR X 67 rfl (c518_ok rfl) rfl rfl (s_getR X 25 rfl (c518_ok rfl) rfl rfl (z_load_n X (x := p) rfl (List.Mem.tail _ (List.Mem.head _)) (z_lalE X 27 rfl (by decide) rfl (by first | exact hi.1.1 | omega) (show p < 8 by first | exact g2005 | omega) (by decide) (z_aload_n X (x := A 67) rfl (List.Mem.head _) (s_getR X 67 rfl (c518_ok rfl) rfl rfl (s_getR X 25 rfl (c518_ok rfl) rfl rfl (z_load_n X (x := p) rfl (List.Mem.tail _ (List.Mem.head _)) (z_lalE X 28 rfl (by decide) rfl (by first | exact hi.1.1 | omega) (show p < 8 by first | exact g2005 | omega) (by decide) (z_const X rfl (zcV_v0 X E 103 (As := [.long (gD t 22 (p).toNat), .long (gD t 23 (p).toNat), .int (Int32.ofInt 1)]) (st := []) rfl rfl rfl rfl (c0_listen3e1 G I (by first | exact ⟨by decide, by decide⟩ | omega)) rfl (Nat.le_of_ble_eq_true rfl) (fun s2008 Is2008 Fs2008 hps2008 => ?_))))))))))))
          have Gs2008 := fm_tq F Fs2008 rfl rfl
          have JAIR_s2008 : AIR s2008 := AIR_fm Fs2008 (by decide) jjAIR
          have JCDJ_s2008 : CDJ U s2008 := CDJ_fm Fs2008 (by decide) jjCDJ
          have JAIRM_s2008 : AIRM s2008 := AIRM_fm Fs2008 (by decide) jjAIRM
          have JCPLM_s2008 : CPLM s2008 := CPLM_fm Fs2008 (by decide) jjCPLM
          have ws2008_9 : iI s2008 9 = iI t 9 := fm_iq Fs2008 rfl
          have ws2008_39 : iI s2008 39 = iI t 39 := fm_iq Fs2008 rfl
          have ws2008_40 : iI s2008 40 = iI t 40 := fm_iq Fs2008 rfl
          have ws2008_43 : iI s2008 43 = iI t 43 := fm_iq Fs2008 rfl
          have hE9 : EAR9 (p + 1) s2008 := ear9_1 hq.1 (by omega) Fs2008 (by have z := hps2008.1; rw [show (p : Int).toNat = 1 by omega] at z; exact z) (by have z := hps2008.2; rw [show (p : Int).toNat = 1 by omega] at z; exact z)
          have hL7 : LWR U (stS s) (iI s 39).toNat (hitP U (stS s) (iI s 39).toNat) (iI s 9) s2008 := LWR_fm Fs2008 (by decide) hq.2
          refine z_inc X (x := p) (lv' := [(2, .int (Int32.ofInt (p + 1))), (0, .ref (A 67))]) rfl (by decide) (List.Mem.tail _ (List.Mem.head _)) (fun _ h => h) (z_goto X (t := 195) rfl rfl (WS_pq [1, 0] (lv' := [(0, .ref (A 67)), (2, .int (Int32.ofInt (p + 1)))]) rfl ?_))
          exact ih _ (p + 1) Is2008 Gs2008 JAIR_s2008 JCDJ_s2008 JAIRM_s2008 JCPLM_s2008 ⟨hE9, hL7⟩ (by first | exact ⟨And.intro (oq_54f49eb5 hi.1.1) (oq_0c7b19c3 g2005), oq_1aa5be9e ws2008_43 hi.2⟩ | omega) (by first | exact qk_me hm (by decide) (oq_9f368f35 g2005) | omega) kx
        ·
          have e8 : 93 + 10 * (p : Int).toNat = 113 := by omega
          rw [e8]
          refine z_aload_n X (x := A 67) rfl (List.Mem.head _) (s_getR X 67 rfl (c518_ok rfl) rfl rfl (s_getR X 25 rfl (c518_ok rfl) rfl rfl (z_load_n X (x := p) rfl (List.Mem.tail _ (List.Mem.head _)) (z_lalE X 27 rfl (by decide) rfl (by first | exact hi.1.1 | omega) (show p < 8 by first | exact g2005 | omega) (by decide) (z_aload_n X (x := A 67) rfl (List.Mem.head _) (s_getR X 67 rfl (c518_ok rfl) rfl rfl (s_getR X 25 rfl (c518_ok rfl) rfl rfl (z_load_n X (x := p) rfl (List.Mem.tail _ (List.Mem.head _)) (z_lalE X 28 rfl (by decide) rfl (by first | exact hi.1.1 | omega) (show p < 8 by first | exact g2005 | omega) (by decide) (z_const X rfl (zcV_v0 X E 113 (As := [.long (gD t 22 (p).toNat), .long (gD t 23 (p).toNat), .int (Int32.ofInt 1)]) (st := []) rfl rfl rfl rfl (c0_listen3e2 G I (by first | exact ⟨by decide, by decide⟩ | omega)) rfl (Nat.le_of_ble_eq_true rfl) (fun s2010 Is2010 Fs2010 hps2010 => ?_))))))))))))
          have Gs2010 := fm_tq F Fs2010 rfl rfl
          have JAIR_s2010 : AIR s2010 := AIR_fm Fs2010 (by decide) jjAIR
          have JCDJ_s2010 : CDJ U s2010 := CDJ_fm Fs2010 (by decide) jjCDJ
          have JAIRM_s2010 : AIRM s2010 := AIRM_fm Fs2010 (by decide) jjAIRM
          have JCPLM_s2010 : CPLM s2010 := CPLM_fm Fs2010 (by decide) jjCPLM
          have ws2010_9 : iI s2010 9 = iI t 9 := fm_iq Fs2010 rfl
          have ws2010_39 : iI s2010 39 = iI t 39 := fm_iq Fs2010 rfl
          have ws2010_40 : iI s2010 40 = iI t 40 := fm_iq Fs2010 rfl
          have ws2010_43 : iI s2010 43 = iI t 43 := fm_iq Fs2010 rfl
          have hE9 : EAR9 (p + 1) s2010 := ear9_2 hq.1 (by omega) Fs2010 (by have z := hps2010.1; rw [show (p : Int).toNat = 2 by omega] at z; exact z) (by have z := hps2010.2; rw [show (p : Int).toNat = 2 by omega] at z; exact z)
          have hL7 : LWR U (stS s) (iI s 39).toNat (hitP U (stS s) (iI s 39).toNat) (iI s 9) s2010 := LWR_fm Fs2010 (by decide) hq.2
          refine z_inc X (x := p) (lv' := [(2, .int (Int32.ofInt (p + 1))), (0, .ref (A 67))]) rfl (by decide) (List.Mem.tail _ (List.Mem.head _)) (fun _ h => h) (z_goto X (t := 195) rfl rfl (WS_pq [1, 0] (lv' := [(0, .ref (A 67)), (2, .int (Int32.ofInt (p + 1)))]) rfl ?_))
          exact ih _ (p + 1) Is2010 Gs2010 JAIR_s2010 JCDJ_s2010 JAIRM_s2010 JCPLM_s2010 ⟨hE9, hL7⟩ (by first | exact ⟨And.intro (oq_54f49eb5 hi.1.1) (oq_0c7b19c3 g2005), oq_1aa5be9e ws2010_43 hi.2⟩ | omega) (by first | exact qk_me hm (by decide) (oq_9f368f35 g2005) | omega) kx
        ·
          have e8 : 93 + 10 * (p : Int).toNat = 123 := by omega
          rw [e8]
          refine z_aload_n X (x := A 67) rfl (List.Mem.head _) (s_getR X 67 rfl (c518_ok rfl) rfl rfl (s_getR X 25 rfl (c518_ok rfl) rfl rfl (z_load_n X (x := p) rfl (List.Mem.tail _ (List.Mem.head _)) (z_lalE X 27 rfl (by decide) rfl (by first | exact hi.1.1 | omega) (show p < 8 by first | exact g2005 | omega) (by decide) (z_aload_n X (x := A 67) rfl (List.Mem.head _) (s_getR X 67 rfl (c518_ok rfl) rfl rfl (s_getR X 25 rfl (c518_ok rfl) rfl rfl (z_load_n X (x := p) rfl (List.Mem.tail _ (List.Mem.head _)) (z_lalE X 28 rfl (by decide) rfl (by first | exact hi.1.1 | omega) (show p < 8 by first | exact g2005 | omega) (by decide) (z_const X rfl (zcV_v0 X E 123 (As := [.long (gD t 22 (p).toNat), .long (gD t 23 (p).toNat), .int (Int32.ofInt 1)]) (st := []) rfl rfl rfl rfl (c0_listen3e3 G I (by first | exact ⟨by decide, by decide⟩ | omega)) rfl (Nat.le_of_ble_eq_true rfl) (fun s2012 Is2012 Fs2012 hps2012 => ?_))))))))))))
          have Gs2012 := fm_tq F Fs2012 rfl rfl
          have JAIR_s2012 : AIR s2012 := AIR_fm Fs2012 (by decide) jjAIR
          have JCDJ_s2012 : CDJ U s2012 := CDJ_fm Fs2012 (by decide) jjCDJ
          have JAIRM_s2012 : AIRM s2012 := AIRM_fm Fs2012 (by decide) jjAIRM
          have JCPLM_s2012 : CPLM s2012 := CPLM_fm Fs2012 (by decide) jjCPLM
          have ws2012_9 : iI s2012 9 = iI t 9 := fm_iq Fs2012 rfl
          have ws2012_39 : iI s2012 39 = iI t 39 := fm_iq Fs2012 rfl
          have ws2012_40 : iI s2012 40 = iI t 40 := fm_iq Fs2012 rfl
          have ws2012_43 : iI s2012 43 = iI t 43 := fm_iq Fs2012 rfl
          have hE9 : EAR9 (p + 1) s2012 := ear9_3 hq.1 (by omega) Fs2012 (by have z := hps2012.1; rw [show (p : Int).toNat = 3 by omega] at z; exact z) (by have z := hps2012.2; rw [show (p : Int).toNat = 3 by omega] at z; exact z)
          have hL7 : LWR U (stS s) (iI s 39).toNat (hitP U (stS s) (iI s 39).toNat) (iI s 9) s2012 := LWR_fm Fs2012 (by decide) hq.2
          refine z_inc X (x := p) (lv' := [(2, .int (Int32.ofInt (p + 1))), (0, .ref (A 67))]) rfl (by decide) (List.Mem.tail _ (List.Mem.head _)) (fun _ h => h) (z_goto X (t := 195) rfl rfl (WS_pq [1, 0] (lv' := [(0, .ref (A 67)), (2, .int (Int32.ofInt (p + 1)))]) rfl ?_))
          exact ih _ (p + 1) Is2012 Gs2012 JAIR_s2012 JCDJ_s2012 JAIRM_s2012 JCPLM_s2012 ⟨hE9, hL7⟩ (by first | exact ⟨And.intro (oq_54f49eb5 hi.1.1) (oq_0c7b19c3 g2005), oq_1aa5be9e ws2012_43 hi.2⟩ | omega) (by first | exact qk_me hm (by decide) (oq_9f368f35 g2005) | omega) kx
        ·
          have e8 : 93 + 10 * (p : Int).toNat = 133 := by omega
          rw [e8]
          refine z_aload_n X (x := A 67) rfl (List.Mem.head _) (s_getR X 67 rfl (c518_ok rfl) rfl rfl (s_getR X 25 rfl (c518_ok rfl) rfl rfl (z_load_n X (x := p) rfl (List.Mem.tail _ (List.Mem.head _)) (z_lalE X 27 rfl (by decide) rfl (by first | exact hi.1.1 | omega) (show p < 8 by first | exact g2005 | omega) (by decide) (z_aload_n X (x := A 67) rfl (List.Mem.head _) (s_getR X 67 rfl (c518_ok rfl) rfl rfl (s_getR X 25 rfl (c518_ok rfl) rfl rfl (z_load_n X (x := p) rfl (List.Mem.tail _ (List.Mem.head _)) (z_lalE X 28 rfl (by decide) rfl (by first | exact hi.1.1 | omega) (show p < 8 by first | exact g2005 | omega) (by decide) (z_const X rfl (zcV_v0 X E 133 (As := [.long (gD t 22 (p).toNat), .long (gD t 23 (p).toNat), .int (Int32.ofInt 1)]) (st := []) rfl rfl rfl rfl (c0_listen3e4 G I (by first | exact ⟨by decide, by decide⟩ | omega)) rfl (Nat.le_of_ble_eq_true rfl) (fun s2014 Is2014 Fs2014 hps2014 => ?_))))))))))))
          have Gs2014 := fm_tq F Fs2014 rfl rfl
          have JAIR_s2014 : AIR s2014 := AIR_fm Fs2014 (by decide) jjAIR
          have JCDJ_s2014 : CDJ U s2014 := CDJ_fm Fs2014 (by decide) jjCDJ
          have JAIRM_s2014 : AIRM s2014 := AIRM_fm Fs2014 (by decide) jjAIRM
          have JCPLM_s2014 : CPLM s2014 := CPLM_fm Fs2014 (by decide) jjCPLM
          have ws2014_9 : iI s2014 9 = iI t 9 := fm_iq Fs2014 rfl
          have ws2014_39 : iI s2014 39 = iI t 39 := fm_iq Fs2014 rfl
          have ws2014_40 : iI s2014 40 = iI t 40 := fm_iq Fs2014 rfl
          have ws2014_43 : iI s2014 43 = iI t 43 := fm_iq Fs2014 rfl
          have hE9 : EAR9 (p + 1) s2014 := ear9_4 hq.1 (by omega) Fs2014 (by have z := hps2014.1; rw [show (p : Int).toNat = 4 by omega] at z; exact z) (by have z := hps2014.2; rw [show (p : Int).toNat = 4 by omega] at z; exact z)
          have hL7 : LWR U (stS s) (iI s 39).toNat (hitP U (stS s) (iI s 39).toNat) (iI s 9) s2014 := LWR_fm Fs2014 (by decide) hq.2
          refine z_inc X (x := p) (lv' := [(2, .int (Int32.ofInt (p + 1))), (0, .ref (A 67))]) rfl (by decide) (List.Mem.tail _ (List.Mem.head _)) (fun _ h => h) (z_goto X (t := 195) rfl rfl (WS_pq [1, 0] (lv' := [(0, .ref (A 67)), (2, .int (Int32.ofInt (p + 1)))]) rfl ?_))
          exact ih _ (p + 1) Is2014 Gs2014 JAIR_s2014 JCDJ_s2014 JAIRM_s2014 JCPLM_s2014 ⟨hE9, hL7⟩ (by first | exact ⟨And.intro (oq_54f49eb5 hi.1.1) (oq_0c7b19c3 g2005), oq_1aa5be9e ws2014_43 hi.2⟩ | omega) (by first | exact qk_me hm (by decide) (oq_9f368f35 g2005) | omega) kx
        ·
          have e8 : 93 + 10 * (p : Int).toNat = 143 := by omega
          rw [e8]
          refine z_aload_n X (x := A 67) rfl (List.Mem.head _) (s_getR X 67 rfl (c518_ok rfl) rfl rfl (s_getR X 25 rfl (c518_ok rfl) rfl rfl (z_load_n X (x := p) rfl (List.Mem.tail _ (List.Mem.head _)) (z_lalE X 27 rfl (by decide) rfl (by first | exact hi.1.1 | omega) (show p < 8 by first | exact g2005 | omega) (by decide) (z_aload_n X (x := A 67) rfl (List.Mem.head _) (s_getR X 67 rfl (c518_ok rfl) rfl rfl (s_getR X 25 rfl (c518_ok rfl) rfl rfl (z_load_n X (x := p) rfl (List.Mem.tail _ (List.Mem.head _)) (z_lalE X 28 rfl (by decide) rfl (by first | exact hi.1.1 | omega) (show p < 8 by first | exact g2005 | omega) (by decide) (z_const X rfl (zcV_v0 X E 143 (As := [.long (gD t 22 (p).toNat), .long (gD t 23 (p).toNat), .int (Int32.ofInt 1)]) (st := []) rfl rfl rfl rfl (c0_listen3e5 G I (by first | exact ⟨by decide, by decide⟩ | omega)) rfl (Nat.le_of_ble_eq_true rfl) (fun s2016 Is2016 Fs2016 hps2016 => ?_))))))))))))
          have Gs2016 := fm_tq F Fs2016 rfl rfl
          have JAIR_s2016 : AIR s2016 := AIR_fm Fs2016 (by decide) jjAIR
          have JCDJ_s2016 : CDJ U s2016 := CDJ_fm Fs2016 (by decide) jjCDJ
          have JAIRM_s2016 : AIRM s2016 := AIRM_fm Fs2016 (by decide) jjAIRM
          have JCPLM_s2016 : CPLM s2016 := CPLM_fm Fs2016 (by decide) jjCPLM
          have ws2016_9 : iI s2016 9 = iI t 9 := fm_iq Fs2016 rfl
          have ws2016_39 : iI s2016 39 = iI t 39 := fm_iq Fs2016 rfl
          have ws2016_40 : iI s2016 40 = iI t 40 := fm_iq Fs2016 rfl
          have ws2016_43 : iI s2016 43 = iI t 43 := fm_iq Fs2016 rfl
          have hE9 : EAR9 (p + 1) s2016 := ear9_5 hq.1 (by omega) Fs2016 (by have z := hps2016.1; rw [show (p : Int).toNat = 5 by omega] at z; exact z) (by have z := hps2016.2; rw [show (p : Int).toNat = 5 by omega] at z; exact z)
          have hL7 : LWR U (stS s) (iI s 39).toNat (hitP U (stS s) (iI s 39).toNat) (iI s 9) s2016 := LWR_fm Fs2016 (by decide) hq.2
          refine z_inc X (x := p) (lv' := [(2, .int (Int32.ofInt (p + 1))), (0, .ref (A 67))]) rfl (by decide) (List.Mem.tail _ (List.Mem.head _)) (fun _ h => h) (z_goto X (t := 195) rfl rfl (WS_pq [1, 0] (lv' := [(0, .ref (A 67)), (2, .int (Int32.ofInt (p + 1)))]) rfl ?_))
          exact ih _ (p + 1) Is2016 Gs2016 JAIR_s2016 JCDJ_s2016 JAIRM_s2016 JCPLM_s2016 ⟨hE9, hL7⟩ (by first | exact ⟨And.intro (oq_54f49eb5 hi.1.1) (oq_0c7b19c3 g2005), oq_1aa5be9e ws2016_43 hi.2⟩ | omega) (by first | exact qk_me hm (by decide) (oq_9f368f35 g2005) | omega) kx
        ·
          have e8 : 93 + 10 * (p : Int).toNat = 153 := by omega
          rw [e8]
          refine z_aload_n X (x := A 67) rfl (List.Mem.head _) (s_getR X 67 rfl (c518_ok rfl) rfl rfl (s_getR X 25 rfl (c518_ok rfl) rfl rfl (z_load_n X (x := p) rfl (List.Mem.tail _ (List.Mem.head _)) (z_lalE X 27 rfl (by decide) rfl (by first | exact hi.1.1 | omega) (show p < 8 by first | exact g2005 | omega) (by decide) (z_aload_n X (x := A 67) rfl (List.Mem.head _) (s_getR X 67 rfl (c518_ok rfl) rfl rfl (s_getR X 25 rfl (c518_ok rfl) rfl rfl (z_load_n X (x := p) rfl (List.Mem.tail _ (List.Mem.head _)) (z_lalE X 28 rfl (by decide) rfl (by first | exact hi.1.1 | omega) (show p < 8 by first | exact g2005 | omega) (by decide) (z_const X rfl (zcV_v0 X E 153 (As := [.long (gD t 22 (p).toNat), .long (gD t 23 (p).toNat), .int (Int32.ofInt 1)]) (st := []) rfl rfl rfl rfl (c0_listen3e6 G I (by first | exact ⟨by decide, by decide⟩ | omega)) rfl (Nat.le_of_ble_eq_true rfl) (fun s2018 Is2018 Fs2018 hps2018 => ?_))))))))))))
          have Gs2018 := fm_tq F Fs2018 rfl rfl
          have JAIR_s2018 : AIR s2018 := AIR_fm Fs2018 (by decide) jjAIR
          have JCDJ_s2018 : CDJ U s2018 := CDJ_fm Fs2018 (by decide) jjCDJ
          have JAIRM_s2018 : AIRM s2018 := AIRM_fm Fs2018 (by decide) jjAIRM
          have JCPLM_s2018 : CPLM s2018 := CPLM_fm Fs2018 (by decide) jjCPLM
          have ws2018_9 : iI s2018 9 = iI t 9 := fm_iq Fs2018 rfl
          have ws2018_39 : iI s2018 39 = iI t 39 := fm_iq Fs2018 rfl
          have ws2018_40 : iI s2018 40 = iI t 40 := fm_iq Fs2018 rfl
          have ws2018_43 : iI s2018 43 = iI t 43 := fm_iq Fs2018 rfl
          have hE9 : EAR9 (p + 1) s2018 := ear9_6 hq.1 (by omega) Fs2018 (by have z := hps2018.1; rw [show (p : Int).toNat = 6 by omega] at z; exact z) (by have z := hps2018.2; rw [show (p : Int).toNat = 6 by omega] at z; exact z)
          have hL7 : LWR U (stS s) (iI s 39).toNat (hitP U (stS s) (iI s 39).toNat) (iI s 9) s2018 := LWR_fm Fs2018 (by decide) hq.2
          refine z_inc X (x := p) (lv' := [(2, .int (Int32.ofInt (p + 1))), (0, .ref (A 67))]) rfl (by decide) (List.Mem.tail _ (List.Mem.head _)) (fun _ h => h) (z_goto X (t := 195) rfl rfl (WS_pq [1, 0] (lv' := [(0, .ref (A 67)), (2, .int (Int32.ofInt (p + 1)))]) rfl ?_))
          exact ih _ (p + 1) Is2018 Gs2018 JAIR_s2018 JCDJ_s2018 JAIRM_s2018 JCPLM_s2018 ⟨hE9, hL7⟩ (by first | exact ⟨And.intro (oq_54f49eb5 hi.1.1) (oq_0c7b19c3 g2005), oq_1aa5be9e ws2018_43 hi.2⟩ | omega) (by first | exact qk_me hm (by decide) (oq_9f368f35 g2005) | omega) kx
        ·
          have e8 : 93 + 10 * (p : Int).toNat = 163 := by omega
          rw [e8]
          refine z_aload_n X (x := A 67) rfl (List.Mem.head _) (s_getR X 67 rfl (c518_ok rfl) rfl rfl (s_getR X 25 rfl (c518_ok rfl) rfl rfl (z_load_n X (x := p) rfl (List.Mem.tail _ (List.Mem.head _)) (z_lalE X 27 rfl (by decide) rfl (by first | exact hi.1.1 | omega) (show p < 8 by first | exact g2005 | omega) (by decide) (z_aload_n X (x := A 67) rfl (List.Mem.head _) (s_getR X 67 rfl (c518_ok rfl) rfl rfl (s_getR X 25 rfl (c518_ok rfl) rfl rfl (z_load_n X (x := p) rfl (List.Mem.tail _ (List.Mem.head _)) (z_lalE X 28 rfl (by decide) rfl (by first | exact hi.1.1 | omega) (show p < 8 by first | exact g2005 | omega) (by decide) (z_const X rfl (zcV_v0 X E 163 (As := [.long (gD t 22 (p).toNat), .long (gD t 23 (p).toNat), .int (Int32.ofInt 1)]) (st := []) rfl rfl rfl rfl (c0_listen3e7 G I (by first | exact ⟨by decide, by decide⟩ | omega)) rfl (Nat.le_of_ble_eq_true rfl) (fun s2020 Is2020 Fs2020 hps2020 => ?_))))))))))))
          have Gs2020 := fm_tq F Fs2020 rfl rfl
          have JAIR_s2020 : AIR s2020 := AIR_fm Fs2020 (by decide) jjAIR
          have JCDJ_s2020 : CDJ U s2020 := CDJ_fm Fs2020 (by decide) jjCDJ
          have JAIRM_s2020 : AIRM s2020 := AIRM_fm Fs2020 (by decide) jjAIRM
          have JCPLM_s2020 : CPLM s2020 := CPLM_fm Fs2020 (by decide) jjCPLM
          have ws2020_9 : iI s2020 9 = iI t 9 := fm_iq Fs2020 rfl
          have ws2020_39 : iI s2020 39 = iI t 39 := fm_iq Fs2020 rfl
          have ws2020_40 : iI s2020 40 = iI t 40 := fm_iq Fs2020 rfl
          have ws2020_43 : iI s2020 43 = iI t 43 := fm_iq Fs2020 rfl
          have hE9 : EAR9 (p + 1) s2020 := ear9_7 hq.1 (by omega) Fs2020 (by have z := hps2020.1; rw [show (p : Int).toNat = 7 by omega] at z; exact z) (by have z := hps2020.2; rw [show (p : Int).toNat = 7 by omega] at z; exact z)
          have hL7 : LWR U (stS s) (iI s 39).toNat (hitP U (stS s) (iI s 39).toNat) (iI s 9) s2020 := LWR_fm Fs2020 (by decide) hq.2
          refine z_inc X (x := p) (lv' := [(2, .int (Int32.ofInt (p + 1))), (0, .ref (A 67))]) rfl (by decide) (List.Mem.tail _ (List.Mem.head _)) (fun _ h => h) (z_goto X (t := 195) rfl rfl (WS_pq [1, 0] (lv' := [(0, .ref (A 67)), (2, .int (Int32.ofInt (p + 1)))]) rfl ?_))
          exact ih _ (p + 1) Is2020 Gs2020 JAIR_s2020 JCDJ_s2020 JAIRM_s2020 JCPLM_s2020 ⟨hE9, hL7⟩ (by first | exact ⟨And.intro (oq_54f49eb5 hi.1.1) (oq_0c7b19c3 g2005), oq_1aa5be9e ws2020_43 hi.2⟩ | omega) (by first | exact qk_me hm (by decide) (oq_9f368f35 g2005) | omega) kx
  refine z_aload_n X (x := A 67) rfl (List.Mem.head _) (s_getR X 67 rfl (c518_ok rfl) rfl rfl (z_aload_n X (x := A 67) rfl (List.Mem.head _) (s_getR X 67 rfl (c518_ok rfl) rfl rfl (z_getI X 3 rfl (c518_ok rfl) rfl rfl ?_))))
  have b5 := bi_9 I
  refine s_putI X 68 rfl (c518_ok rfl) rfl rfl (by decide) rfl rfl rfl (wd_gen (fun s6 hs6 => ?_))
  have Is6 : Bd s6 := eqB hs6 (bd_I I (show (0 : Int) ≤ (iI s 9) ∧ (iI s 9) ≤ 12 by first | exact ⟨b5.1, b5.2⟩ | omega) (rng_to _))
  have Fs6 := eqF hs6 (fm_I F (inl_ok (a := 43) rfl))
  have vs6 : iI s6 43 = (iI s 9) := eqI hs6 (iI_u (rng_to _))
  have ws6_9 : iI s6 9 = iI s 9 := eqI hs6 rfl
  have ws6_39 : iI s6 39 = iI s 39 := eqI hs6 rfl
  have ws6_40 : iI s6 40 = iI s 40 := eqI hs6 rfl
  have fs6 : Fm [43] [] s s6 := by rw [hs6]; exact fm_I (fm_rf _ _ _) (show 43 ∈ _ by decide)
  have JAIR_s6 : AIR s6 := AIR_fm fs6 (by decide) jAIR
  have JCDJ_s6 : CDJ U s6 := CDJ_fm fs6 (by decide) jCDJ
  refine z_const X rfl (z_store_n X (lv' := [(1, .int (Int32.ofInt 0)), (0, .ref (A 67))]) rfl (by decide) (fun _ h => h) (z_const X rfl (z_store_n X (lv' := [(2, .int (Int32.ofInt 0)), (1, .int (Int32.ofInt 0)), (0, .ref (A 67))]) rfl (by decide) (fun _ h => h) (WS_pq [2, 1, 0] (lv' := [(0, .ref (A 67)), (1, .int (Int32.ofInt 0)), (2, .int (Int32.ofInt 0))]) rfl (L18 ((12 - 0 : Int).toNat + 1) s6 0 0 Is6 Fs6 JAIR_s6 JCDJ_s6 ⟨lwr_0, rfl⟩ (by first | exact ⟨And.intro (by decide) (b5.1), And.intro (by decide) (by decide), ws6_9, b5.2, vs6, ws6_39, ws6_40, p1⟩ | omega) (Nat.lt_succ_self _) ?_)))))
  intro s7 x8 x9 Is7 Fs7 JAIR_s7 JCDJ_s7 Qs7 hs7
  have b10 := bi_9 Is7
  have b11 := bi_39 Is7
  have b12 := bi_40 Is7
  have b13 := bi_43 Is7
  refine z_aload_n X (x := A 67) rfl (List.Mem.head _) (s_getR X 67 rfl (c518_ok rfl) rfl rfl (zcV_v0 X E 68 (As := []) (st := []) rfl rfl rfl rfl (c9_pairUp3m G Is7 ) rfl (Nat.le_of_ble_eq_true rfl) (fun s14 Is14 Fs14 hps14 => ?_)))
  have Gs14 := fm_tq Fs7 Fs14 rfl rfl
  have JAIR_s14 : AIR s14 := AIR_fm Fs14 (by decide) JAIR_s7
  have JCDJ_s14 : CDJ U s14 := CDJ_fm Fs14 (by decide) JCDJ_s7
  have ws14_9 : iI s14 9 = iI s7 9 := fm_iq Fs14 rfl
  have ws14_39 : iI s14 39 = iI s7 39 := fm_iq Fs14 rfl
  have ws14_40 : iI s14 40 = iI s7 40 := fm_iq Fs14 rfl
  have ws14_43 : iI s14 43 = iI s7 43 := fm_iq Fs14 rfl
  have hL8 : LWR U (stS s) (iI s 39).toNat (hitP U (stS s) (iI s 39).toNat) (iI s 9) s14 := LWR_fm Fs14 (by decide) (by have z := Qs7.1; rw [show x9 = iI s 9 by omega] at z; exact z)
  have hAm : AIRM s14 := ain_air (by have z := hL8.1; rw [show iI s 9 = iI s14 43 by omega] at z; exact z) (by omega)
  refine z_const X rfl (z_store_n X (lv' := [(2, .int (Int32.ofInt 0)), (0, .ref (A 67)), (1, .int (Int32.ofInt x8))]) rfl (by decide) (fun _ h => h) (WS_pq [1, 0] (lv' := [(0, .ref (A 67)), (2, .int (Int32.ofInt 0))]) rfl (L195 ((8 - 0 : Int).toNat + 1) s14 0 Is14 Gs14 JAIR_s14 JCDJ_s14 hAm hps14 ⟨ear9_z, hL8⟩ (by first | exact ⟨And.intro (by decide) (by decide), oq_1aa5be9e ws14_43 hs7.2.2.1⟩ | omega) (Nat.lt_succ_self _) ?_)))
  intro s16 x17 Is16 Fs16 JAIR_s16 JCDJ_s16 JAIRM_s16 JCPLM_s16 Qs16 hs16
  have b18 := bi_9 Is16
  have b19 := bi_39 Is16
  have b20 := bi_40 Is16
  have b21 := bi_43 Is16
  exact w_vret X.1 q hRt (ax_d X (show cdA 92 235 = some (.return_, 1, 0, 0, 0) from rfl)) (Nat.zero_le _) (Nat.zero_le _) ⟨_, rfl, Is16, Fs16, JAIRM_s16, JCPLM_s16, rfl, ⟨Qs16.2, by have z := Qs16.1; rw [show x17 = 8 by omega] at z; exact z, by first | exact hs16.2 | omega⟩⟩
end M87kw
