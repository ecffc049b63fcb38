theorem oq_67fee7f6 {a0 a1 a2 : Int} (h0 : a0 < a1) (h1 : a1 = a2) (h2 : a2 ≤ 8) : 0 < (8 - a0) := by omega
theorem oq_1b20a017 {a0 a1 a2 : Int} (h0 : a0 ≤ (3000 * a1)) (h1 : a1 ≤ a2) (h2 : a2 ≤ 12) : a0 ≤ 2147483647 := by omega
theorem oq_a2844aec {a0 a1 a3 : Int} {n2 : Nat} (h0 : (a0 - a1) ≤ (((n2 + 1) : Nat) : Int)) (h1 : a3 = a0) : (a3 - (a1 + 1)) ≤ ((n2 : Nat) : Int) := by omega
theorem oq_bfa8c294 {a0 a1 : Int} (h0 : 0 ≤ a0) (h1 : 0 ≤ a1) : 0 ≤ (a0 + (60 * a1)) := by omega
theorem oq_d01bb3c2 {a0 a1 a2 : Int} (h0 : a0 ≤ (3000 * a1)) (h1 : a2 ≤ 50) : (a0 + (60 * a2)) ≤ (3000 * (a1 + 1)) := by omega
theorem oq_79fab92d {a0 a1 : Int} (h0 : 0 ≤ a0) (h1 : 0 ≤ a1) : 0 ≤ (a0 + (15 * a1)) := by omega
theorem oq_147874d5 {a0 a1 a2 : Int} (h0 : a0 ≤ (3000 * a1)) (h1 : a2 ≤ 50) : (a0 + (15 * a2)) ≤ (3000 * (a1 + 1)) := by omega
theorem oq_7e901d26 {a0 a1 a3 a4 a5 : Int} {n2 : Nat} (h0 : (a0 - a1) ≤ (((n2 + 1) : Nat) : Int)) (h1 : a3 = a4) (h2 : a4 = a5) (h3 : a5 = a0) : (a3 - (a1 + 1)) ≤ ((n2 : Nat) : Int) := by omega
theorem oq_972d7f28 {a0 a1 a2 a3 a4 a5 a6 : Int} (h0 : a0 = a1) (h1 : a1 = a2) (h2 : a2 = a3) (h3 : a3 = a4) (h4 : a4 = a5) (h5 : a6 < a5) : (a6 + 1) ≤ a0 := by omega
theorem oq_c5aacb7e {a0 a1 a2 a3 a4 a5 a6 : Int} {n7 : Nat} (h0 : a0 = a1) (h1 : a1 = a2) (h2 : a2 = a3) (h3 : a3 = a4) (h4 : a4 = a5) (h5 : (a5 - a6) ≤ (((n7 + 1) : Nat) : Int)) : (a0 - (a6 + 1)) ≤ ((n7 : Nat) : Int) := by omega
/-! The loads of the mended air, the search for mends: class -/
noncomputable def moK (U : AirD) (S : Int → Prop) (q : Nat) (k : Int) (x : Nat) : Int := pickQ (hitP U S q x) (pickQ (bT (Int32.ofInt k) (cHt (hitP U S q) x) = true) (uM U q x) 0) (uM U q x)
theorem mok_y {U : AirD} {S : Int → Prop} {q x : Nat} {k : Int} (h : hitP U S q x) (b : bT (Int32.ofInt k) (cHt (hitP U S q) x) = true) : moK U S q k x = uM U q x := by unfold moK; rw [piq_y h, piq_y b]
theorem mok_0 {U : AirD} {S : Int → Prop} {q x : Nat} {k : Int} (h : hitP U S q x) (b : ¬ bT (Int32.ofInt k) (cHt (hitP U S q) x) = true) : moK U S q k x = 0 := by unfold moK; rw [piq_y h, piq_n b]
theorem mok_n {U : AirD} {S : Int → Prop} {q x : Nat} {k : Int} (h : ¬ hitP U S q x) : moK U S q k x = uM U q x := piq_n h
/-- no piece is full, those of the mask round the storm, the other hit ones on the ground -/
noncomputable def ldK9 (U : AirD) (S : Int → Prop) (q : Nat) (f : Nat → Int) (k : Int) (p : Nat) : Int := (uL U (nmH (pcS f (p : Int)) (wyF U S (hitP U S q)) (moK U S q k) (uN U) 1)).toInt
def fitN (U : AirD) (S : Int → Prop) (q : Nat) (f lim : Nat → Int) (k c : Int) : Prop := ∀ p : Nat, (p : Int) < c → presF f p → ldK9 U S q f k p ≤ lim p
def fitK9 (U : AirD) (S : Int → Prop) (q : Nat) (f lim : Nat → Int) (k : Int) : Prop := fitN U S q f lim k 8
theorem fitn_up {U : AirD} {S : Int → Prop} {q : Nat} {f lim : Nat → Int} {k c : Int} (h : fitN U S q f lim k c) (c0 : 0 ≤ c) (g : presF f c.toNat → ldK9 U S q f k c.toNat ≤ lim c.toNat) : fitN U S q f lim k (c + 1) := fun p hp w => by
  by_cases z : p = c.toNat
  · rw [z] at w ⊢; exact g w
  · exact h p (by omega) w
/-- what stands while mends are tried: hits, ways, rounds -/
def ANJ (U : AirD) (S : Int → Prop) (q : Nat) (s : PS) : Prop := (iI s 41 = (cHt (hitP U S q) (uN U) : Int) ∧ iI s 39 = (q : Int) ∧ q < 24) ∧ HTQ (hitP U S q) (uN U) (fun j => iC s 72 j) ∧ (iI s 43 = (uN U : Int) ∧ uN U ≤ 12) ∧ WyE (uN U) (WYCM s) (wyF U S (hitP U S q)) ∧ LDC (uL U) s ∧ (∀ x, x < uN U → iC s 11 (12 * q + x) = uM U q x) ∧ ∀ x, x < uN U → hitP U S q x → iC s 73 (cHt (hitP U S q) x) = rdX U S q x
def PBJ (lj hj : Nat → Int64) (s : PS) : Prop := ∀ p : Nat, p < 8 → gD s 22 p = lj p ∧ gD s 23 p = hj p
/-- minutes of the ways round: bounds -/
def RNB (s : PS) : Prop := ∀ i : Nat, (i : Int) < iI s 41 → -1 ≤ iC s 73 i ∧ iC s 73 i ≤ 2400
def TMK (U : AirD) (S : Int → Prop) (q : Nat) (lj hj : Nat → Int64) (ft : Int → Prop) (s : PS) : Prop := AIRM s ∧ CPLM s ∧ PBJ lj hj s ∧ PMJ s ∧ ANJ U S q s ∧ RNB s ∧ ft = fitK9 U S q (pfC s) (fun j => iC s 24 j)
theorem ANJ_fm {U : AirD} {S : Int → Prop} {q : Nat} {L M : List Nat} {s t : PS} (F : Fm L M s t) (h : (41 ∉ L ∧ 39 ∉ L ∧ 43 ∉ L ∧ 13 ∉ L) ∧ 72 ∉ M ∧ 58 ∉ M ∧ 57 ∉ M ∧ 11 ∉ M ∧ 73 ∉ M ∧ 17 ∉ M ∧ 16 ∉ M) (r : ANJ U S q s) : ANJ U S q t := by
  have e1 : iI t 41 = iI s 41 := fm_i F h.1.1
  have e2 : iI t 39 = iI s 39 := fm_i F h.1.2.1
  have e3 : iI t 43 = iI s 43 := fm_i F h.1.2.2.1
  have e4 : iI t 13 = iI s 13 := fm_i F h.1.2.2.2
  have e5 : ∀ j, iC t 72 j = iC s 72 j := fun j => fm_c F h.2.1
  have e6 : ∀ j, iC t 58 j = iC s 58 j := fun j => fm_c F h.2.2.1
  have e7 : ∀ j, iC t 57 j = iC s 57 j := fun j => fm_c F h.2.2.2.1
  have e8 : ∀ j, iC t 11 j = iC s 11 j := fun j => fm_c F h.2.2.2.2.1
  have e9 : ∀ j, iC t 73 j = iC s 73 j := fun j => fm_c F h.2.2.2.2.2.1
  have e0 : ∀ x, cdL t x = cdL s x := fun x => cdl_fm F h.2.2.2.2.2.2.1 h.2.2.2.2.2.2.2
  unfold ANJ LDC WyE WYCM fwCM at r ⊢
  simp only [e1, e2, e3, e4, e5, e6, e7, e8, e9, e0]
  exact r
theorem PBJ_fm {lj hj : Nat → Int64} {L M : List Nat} {s t : PS} (F : Fm L M s t) (h : 22 + 1000 ∉ M ∧ 23 + 1000 ∉ M) (r : PBJ lj hj s) : PBJ lj hj t := fun p hp => ⟨(fm_dd F h.1).trans (r p hp).1, (fm_dd F h.2).trans (r p hp).2⟩
/-- mosts of those that are not hit -/
def MSJ (U : AirD) (S : Int → Prop) (q : Nat) (s : PS) : Prop := ∀ x, x < uN U → ¬ hitP U S q x → iC s 67 x = uM U q x
theorem MSJ_fm {U : AirD} {S : Int → Prop} {q : Nat} {L M : List Nat} {s t : PS} (F : Fm L M s t) (h : 67 ∉ M) (r : MSJ U S q s) : MSJ U S q t := fun x hx w => (fm_c F h).trans (r x hx w)
def MKQ9 (U : AirD) (S : Int → Prop) (q : Nat) (k c : Int) (t : PS) : Prop := (∀ x, x < uN U → hitP U S q x → (cHt (hitP U S q) x : Int) < c → iC t 67 x = moK U S q k x) ∧ MSJ U S q t
theorem mkq9_0 {U : AirD} {S : Int → Prop} {q : Nat} {k : Int} {t : PS} (h : MSJ U S q t) : MKQ9 U S q k 0 t := ⟨fun x _ _ hc => absurd hc (by omega), h⟩
theorem mkq9_up {U : AirD} {S : Int → Prop} {q : Nat} {k c y v : Int} {t u : PS} (h : MKQ9 U S q k c t) (a : ANJ U S q t) (c0 : 0 ≤ c ∧ c < iI t 41) (hy : y = iC t 72 c.toNat) (hu : UPD 67 y v t u) (hv : (bT (Int32.ofInt k) c.toNat = true ∧ v = uM U q y.toNat) ∨ (¬ bT (Int32.ofInt k) c.toNat = true ∧ v = 0)) : MKQ9 U S q k (c + 1) u := by
  obtain ⟨s1, s2, s3, s4, s5⟩ := htq_at a.2.1 (j := c.toNat) (by have := a.1.1; omega)
  replace s5 : iC t 72 c.toNat = (s1 : Int) := s5
  rw [s5] at hy
  have ey : y.toNat = s1 := by omega
  refine ⟨fun x hx hp hc => ?_, fun x hx hn => ?_⟩
  · by_cases z : x = s1
    · rw [z, ← ey, hu.1, ey]
      rcases hv with ⟨b, e⟩ | ⟨b, e⟩
      · rw [mok_y s3 (by rw [s4]; exact b), e, ey]
      · rw [mok_0 s3 (by rw [s4]; exact b), e]
    · rw [hu.2 x (by omega)]
      refine h.1 x hx hp ?_
      have : cHt (hitP U S q) x ≠ c.toNat := fun w => z (cht_inj hp s3 (w.trans s4.symm))
      omega
  · rw [hu.2 x (fun w => by
      have : x = s1 := by omega
      exact hn (this ▸ s3))]
    exact h.2 x hx hn
theorem mkq9_e {U : AirD} {S : Int → Prop} {q : Nat} {k c : Int} {t : PS} (h : MKQ9 U S q k c t) (a : ANJ U S q t) (hc : c = iI t 41) : CDM (uL U) (wyF U S (hitP U S q)) (moK U S q k) (uN U) t := by
  refine ⟨a.2.2.1, a.2.2.2.1, fun x hx => ?_, a.2.2.2.2.1⟩
  by_cases p : hitP U S q x
  · refine h.1 x hx p ?_
    have := cht_lt (P := hitP U S q) hx p
    have := a.1.1
    omega
  · rw [h.2 x hx p, mok_n p]
/-- what is known of masks -/
def KNJ (ft : Int → Prop) (s : PS) : Prop := ∀ k : Int, 0 ≤ k → k ≤ 255 → iC s 76 k.toNat = 0 ∨ (iC s 76 k.toNat = 1 ∧ ft k) ∨ (iC s 76 k.toNat = 2 ∧ ¬ ft k)
theorem KNJ_fm {ft : Int → Prop} {L M : List Nat} {s t : PS} (F : Fm L M s t) (h : 76 ∉ M) (r : KNJ ft s) : KNJ ft t := fun k h0 h1 => by rw [fm_c F h]; exact r k h0 h1
theorem knj_0 {ft : Int → Prop} {s : PS} (h : ∀ k : Nat, k < 256 → iC s 76 k = 0) : KNJ ft s := fun k h0 h1 => Or.inl (h _ (by omega))
theorem knj_up {ft : Int → Prop} {k v : Int} {s t : PS} (r : KNJ ft s) (h : UPD 76 k v s t) (k0 : 0 ≤ k) (hv : (v = 1 ∧ ft k) ∨ (v = 2 ∧ ¬ ft k)) : KNJ ft t := fun j h0 h1 => by
  by_cases z : j = k
  · rw [z, h.1]; exact Or.inr hv
  · rw [h.2 _ (by omega)]; exact r j h0 h1
/-- the best so far, as the class keeps it -/
def BSS (n : Nat) : MdO → PS → Prop
  | none, s => iI s 42 = 2147483647
  | some b, s => iI s 42 = b.1 ∧ b.1 < 2147483647 ∧ ∀ j : Nat, j < n → iC s 75 j = b.2 j
theorem bss_s {n : Nat} {B : MdO} {s t : PS} (h : BSS n B s) (e1 : iI t 42 = iI s 42) (e2 : SAM 75 s t) : BSS n B t := by
  cases B with
  | none => exact e1.trans (show iI s 42 = 2147483647 from h)
  | some b => exact ⟨e1.trans h.1, h.2.1, fun j hj => (e2 j).trans (h.2.2 j hj)⟩
theorem bss_l {n : Nat} {B : MdO} {s : PS} {m : Int} (h : BSS n B s) (hm : m < 2147483647) : lsB B m ↔ m < iI s 42 := by
  cases B with
  | none =>
    have z : iI s 42 = 2147483647 := h
    exact ⟨fun _ => by omega, fun _ => trivial⟩
  | some b =>
    have z := h.1
    show m < b.1 ↔ _
    rw [z]
theorem bss_w {n : Nat} {h : Nat → Int} {m : Int} {t : PS} (e1 : iI t 42 = m) (hm : m < 2147483647) (e2 : ∀ j : Nat, j < n → iC t 75 j = h j) : BSS n (some (m, trH h n)) t := ⟨e1, hm, fun j hj => (e2 j hj).trans (if_pos hj).symm⟩
theorem trb_no {mo rd : Nat → Int} {ft : Int → Prop} {n r : Nat} {h : Nat → Int} {m a b : Int} {B : MdO} (w : ¬ lsB B m) : trB mo rd ft n r h m a b B = B := by
  cases r with
  | zero => exact piq_n (fun z => w z.1)
  | succ r => exact piq_n w
abbrev mo9 (s : PS) : Nat → Int := fun i => iC s 11 (12 * (iI s 39).toNat + (iC s 72 i).toNat)
abbrev rd9 (s : PS) : Nat → Int := fun i => iC s 73 i
abbrev md9 (s : PS) : Nat → Int := fun j => iC s 74 j
abbrev nn9 (s : PS) : Nat := (iI s 41).toNat
def TRP (B : MdO) (x v : Int) (s : PS) : Prop := BSS (nn9 s) B s ∧ v = msI (md9 s) 1 x.toNat
def TRS (B : MdO) (x : Int) (s t : PS) : Prop := BSS (nn9 s) B t ∧ ∀ j : Nat, j < x.toNat → iC t 74 j = iC s 74 j
def TRQ (ft : Int → Prop) (B : MdO) (x y z w : Int) (s t : PS) : Prop := TRS (trB (mo9 s) (rd9 s) ft (nn9 s) (nn9 s - x.toNat) (md9 s) y z w B) x s t
noncomputable def tr1 (ft : Int → Prop) (s : PS) (x y z w : Int) (B : MdO) : MdO := apB (rd9 s x.toNat ≠ -1) (fun C => trB (mo9 s) (rd9 s) ft (nn9 s) (nn9 s - (x.toNat + 1)) (upH (md9 s) x.toNat 1) (y + rd9 s x.toNat) z w C) B
noncomputable def tr2 (ft : Int → Prop) (s : PS) (x y z w : Int) (B : MdO) : MdO := apB (0 < z) (fun C => trB (mo9 s) (rd9 s) ft (nn9 s) (nn9 s - (x.toNat + 1)) (upH (md9 s) x.toNat 2) (y + 15 * mo9 s x.toNat) (z - 1) w C) B
noncomputable def tr3 (ft : Int → Prop) (s : PS) (x y z w : Int) (B : MdO) : MdO := apB (0 < w) (fun C => trB (mo9 s) (rd9 s) ft (nn9 s) (nn9 s - (x.toNat + 1)) (upH (md9 s) x.toNat 3) (y + 60 * mo9 s x.toNat) z (w - 1) C) B
theorem trq_no {ft : Int → Prop} {B : MdO} {x y z w v : Int} {s : PS} (h : TRP B x v s) (hy : y < 2147483647) (hb : iI s 42 ≤ y) : TRQ ft B x y z w s s := by
  unfold TRQ
  rw [trb_no (fun q => by have := (bss_l h.1 hy).mp q; omega)]
  exact ⟨h.1, fun _ _ => rfl⟩
theorem trq_0 {ft : Int → Prop} {B : MdO} {x y z w v : Int} {s t : PS} (h : TRP B x v s) (hx : x = iI s 41) (hn : ¬ ft v) (e1 : iI t 42 = iI s 42) (e2 : SAM 75 s t) (e3 : SAM 74 s t) : TRQ ft B x y z w s t := by
  unfold TRQ
  rw [show nn9 s - x.toNat = 0 by rw [hx]; exact Nat.sub_self _]
  have e : trB (mo9 s) (rd9 s) ft (nn9 s) 0 (md9 s) y z w B = B := piq_n (fun q => hn (by rw [h.2, hx]; exact q.2))
  rw [e]
  exact ⟨bss_s h.1 e1 e2, fun j _ => e3 j⟩
theorem trq_1 {ft : Int → Prop} {B : MdO} {x y z w v : Int} {s t : PS} (h : TRP B x v s) (hx : x = iI s 41) (hf : ft v) (hl : lsB B y) (hy : y < 2147483647) (e1 : iI t 42 = y) (e2 : ∀ j : Nat, j < nn9 s → iC t 75 j = md9 s j) (e3 : SAM 74 s t) : TRQ ft B x y z w s t := by
  unfold TRQ
  rw [show nn9 s - x.toNat = 0 by rw [hx]; exact Nat.sub_self _]
  have e : trB (mo9 s) (rd9 s) ft (nn9 s) 0 (md9 s) y z w B = some (y, trH (md9 s) (nn9 s)) := piq_y ⟨hl, by rw [h.2, hx] at hf; exact hf⟩
  rw [e]
  exact ⟨bss_w e1 hy e2, fun j _ => e3 j⟩
theorem trq_e {ft : Int → Prop} {B : MdO} {x y z w : Int} {s t : PS} (x0 : 0 ≤ x ∧ x < iI s 41) (hl : lsB B y) (h : TRS (tr3 ft s x y z w (tr2 ft s x y z w (tr1 ft s x y z w B))) x s t) : TRQ ft B x y z w s t := by
  unfold TRQ
  rw [show nn9 s - x.toNat = nn9 s - (x.toNat + 1) + 1 by show (iI s 41).toNat - x.toNat = (iI s 41).toNat - (x.toNat + 1) + 1; omega]
  have e : trB (mo9 s) (rd9 s) ft (nn9 s) (nn9 s - (x.toNat + 1) + 1) (md9 s) y z w B = tr3 ft s x y z w (tr2 ft s x y z w (tr1 ft s x y z w B)) := by
    refine (piq_y hl).trans ?_
    rw [show nn9 s - (nn9 s - (x.toNat + 1) + 1) = x.toNat by show (iI s 41).toNat - ((iI s 41).toNat - (x.toNat + 1) + 1) = x.toNat; omega]
    rfl
  rw [e]; exact h
theorem trs_call {ft : Int → Prop} {B : MdO} {x k y z w : Int} {s t u r : PS} (h : TRS B x s t) (x0 : 0 ≤ x ∧ x < iI s 41) (hu : UPD 74 x k t u) (en : iI u 41 = iI s 41) (em : mo9 u = mo9 s) (er : rd9 u = rd9 s) (q : TRQ ft B (x + 1) y z w u r) : TRS (trB (mo9 s) (rd9 s) ft (nn9 s) (nn9 s - (x.toNat + 1)) (upH (md9 s) x.toNat k) y z w B) x s r := by
  have es : nn9 u = nn9 s := congrArg Int.toNat en
  obtain ⟨q1, q2⟩ := q
  rw [es, em, er, show (x + 1).toNat = x.toNat + 1 by omega] at q1
  have e : trB (mo9 s) (rd9 s) ft (nn9 s) (nn9 s - (x.toNat + 1)) (md9 u) y z w B = trB (mo9 s) (rd9 s) ft (nn9 s) (nn9 s - (x.toNat + 1)) (upH (md9 s) x.toNat k) y z w B := by
    refine trb_c (fun _ _ => ⟨rfl, rfl⟩) _ (Nat.sub_le _ _) (fun j hj => ?_)
    have hj' : j < x.toNat + 1 := by
      have : nn9 s - (nn9 s - (x.toNat + 1)) = x.toNat + 1 := by show (iI s 41).toNat - ((iI s 41).toNat - (x.toNat + 1)) = x.toNat + 1; omega
      omega
    show iC u 74 j = if j = x.toNat then k else iC s 74 j
    by_cases c : j = x.toNat
    · rw [if_pos c, c]; exact hu.1
    · rw [if_neg c, hu.2 j c]; exact h.2 j (by omega)
  rw [e] at q1
  exact ⟨q1, fun j hj => by rw [q2 j (by omega), hu.2 j (by omega)]; exact h.2 j hj⟩
/-- ahead of a call: the best so far, the mask -/
theorem trp_in {B : MdO} {x k v v' : Int} {s t u : PS} (h : TRS B x s t) (x0 : 0 ≤ x ∧ x < iI s 41) (p : v = msI (md9 s) 1 x.toNat) (hu : UPD 74 x k t u) (en : iI u 41 = iI s 41) (e1 : iI u 42 = iI t 42) (e2 : SAM 75 t u) (hv : (k = 1 ∧ v' = v + pwI x.toNat) ∨ (k ≠ 1 ∧ v' = v)) : TRP B (x + 1) v' u := by
  refine ⟨by rw [show nn9 u = nn9 s from congrArg Int.toNat en]; exact bss_s h.1 e1 e2, ?_⟩
  have eh : ∀ j : Nat, j < x.toNat → md9 u j = md9 s j := fun j hj => (hu.2 j (by omega)).trans (h.2 j hj)
  have ex : md9 u x.toNat = k := hu.1
  rw [show (x + 1).toNat = x.toNat + 1 by omega]
  rcases hv with ⟨a, b⟩ | ⟨a, b⟩
  · rw [msi_y (ex.trans a), msi_c x.toNat eh, b, p]
  · rw [msi_n (by rw [ex]; exact a), msi_c x.toNat eh, b, p]
theorem rdx_r {U : AirD} {S : Int → Prop} {q x : Nat} (hz : zF U S x ≤ 24) (hw : 1 ≤ (uW U).2 x) (hm : 0 ≤ uM U q x ∧ uM U q x ≤ 50) : -1 ≤ rdX U S q x ∧ rdX U S q x ≤ 2400 := by
  by_cases c : zF U S x = 0
  · rw [rdx_0 c]; decide
  · unfold rdX
    rw [piq_n c]
    by_cases d : 0 < zF U S x - (uW U).2 x
    · rw [if_pos d]
      have := mul_bd (show 0 ≤ 2 * (zF U S x - (uW U).2 x) by omega) (show 2 * (zF U S x - (uW U).2 x) ≤ 48 by omega) hm.1 hm.2
      omega
    · rw [if_neg d]
      simp
theorem TMK_fm {U : AirD} {S : Int → Prop} {q : Nat} {lj hj : Nat → Int64} {ft : Int → Prop} {L M : List Nat} {s t : PS} (F : Fm L M s t) (h : (∀ a ∈ [43, 44, 41, 39, 13], a ∉ L) ∧ ∀ a ∈ [57, 58, 1059, 1060, 1061, 62, 1063, 1022, 1023, 21, 72, 11, 73, 17, 16, 24], a ∉ M) (r : TMK U S q lj hj ft s) : TMK U S q lj hj ft t := by
  have H1 := h.1
  have H2 := h.2
  refine ⟨AIRM_fm F ⟨H1 _ (by decide), H2 _ (by decide), H2 _ (by decide), H2 _ (by decide), H2 _ (by decide), H2 _ (by decide)⟩ r.1, CPLM_fm F ⟨⟨H1 _ (by decide), H1 _ (by decide)⟩, H2 _ (by decide), H2 _ (by decide), H2 _ (by decide), H2 _ (by decide)⟩ r.2.1, PBJ_fm F ⟨H2 _ (by decide), H2 _ (by decide)⟩ r.2.2.1, PMJ_fm F ⟨H2 _ (by decide), H2 _ (by decide), H2 _ (by decide)⟩ r.2.2.2.1, ANJ_fm F ⟨⟨H1 _ (by decide), H1 _ (by decide), H1 _ (by decide), H1 _ (by decide)⟩, H2 _ (by decide), H2 _ (by decide), H2 _ (by decide), H2 _ (by decide), H2 _ (by decide), H2 _ (by decide), H2 _ (by decide)⟩ r.2.2.2.2.1, fun i hi => ?_, ?_⟩
  · rw [fm_i F (H1 41 (by decide))] at hi
    rw [fm_c F (H2 73 (by decide))]
    exact r.2.2.2.2.2.1 i hi
  · have e1 : pfC t = pfC s := funext (fun j => fm_c F (H2 _ (by decide)))
    have e2 : (fun j => iC t 24 j) = fun j => iC s 24 j := funext (fun j => fm_c F (H2 _ (by decide)))
    rw [e1, e2]
    exact r.2.2.2.2.2.2
theorem tmk_in {U : AirD} {S : Int → Prop} {q : Nat} {lj hj : Nat → Int64} {ft : Int → Prop} {s : PS} (h : TMK U S q lj hj ft s) {p : Nat} (hp : p < 8) : inL (lj p) (hj p) = pcS (pfC s) (p : Int) := by
  have e := h.2.2.1 p hp
  rw [← e.1, ← e.2]
  exact pm_eq h.2.2.2.1 (p := (p : Int)) (by omega)
theorem any_mo {U : AirD} {S : Int → Prop} {q : Nat} {c : Int} {s : PS} (a : ANJ U S q s) (c0 : 0 ≤ c ∧ c < iI s 41) : iC s 11 (iI s 39 * 12 + iC s 72 c.toNat).toNat = uM U q (iC s 72 c.toNat).toNat := by
  obtain ⟨s1, s2, s3, s4, s5⟩ := htq_at a.2.1 (j := c.toNat) (by have := a.1.1; omega)
  replace s5 : iC s 72 c.toNat = (s1 : Int) := s5
  have z := a.2.2.2.2.2.1 s1 s2
  have w := a.1.2.1
  rw [show (iI s 39 * 12 + iC s 72 c.toNat).toNat = 12 * q + s1 by omega, show (iC s 72 c.toNat).toNat = s1 by omega]
  exact z
theorem ldk_of {U : AirD} {S : Int → Prop} {q p : Nat} {lj hj : Nat → Int64} {ft : Int → Prop} {s : PS} {k e : Int} (h : TMK U S q lj hj ft s) (hp : p < 8) (r : rng e) (he : Int32.ofInt e = uL U (nmH (inL (lj p) (hj p)) (wyF U S (hitP U S q)) (moK U S q k) (uN U) 1)) : e = ldK9 U S q (pfC s) k p := by
  rw [tmk_in h hp] at he
  exact of_to r he
theorem fit_y {U : AirD} {S : Int → Prop} {q : Nat} {lj hj : Nat → Int64} {ft : Int → Prop} {s : PS} {k c : Int} (h : TMK U S q lj hj ft s) (n : fitN U S q (pfC s) (fun j => iC s 24 j) k c) (hc : c = 8) : ft k := by
  rw [hc] at n
  exact (congrFun h.2.2.2.2.2.2 k).mpr n
theorem fit_n {U : AirD} {S : Int → Prop} {q p : Nat} {lj hj : Nat → Int64} {ft : Int → Prop} {s : PS} {k e : Int} (h : TMK U S q lj hj ft s) (hp : p < 8) (w : HCE (pcS (pfC s) (p : Int)) 1) (he : e = ldK9 U S q (pfC s) k p) (hl : iC s 24 p < e) : ¬ ft k := fun f => by
  have n : fitK9 U S q (pfC s) (fun j => iC s 24 j) k := (congrFun h.2.2.2.2.2.2 k).mp f
  have z := n p (by omega) (w.elim (fun z => z.2) (fun z => absurd z.1 (by decide)))
  replace z : ldK9 U S q (pfC s) k p ≤ iC s 24 p := z
  omega
theorem kn_1 {ft : Int → Prop} {k : Int} {s : PS} (h : KNJ ft s) (k0 : 0 ≤ k ∧ k ≤ 255) (e : iC s 76 k.toNat = 1) : ft k := by
  rcases h k k0.1 k0.2 with a | a | a
  · omega
  · exact a.2
  · have := a.1; omega
theorem kn_2 {ft : Int → Prop} {k : Int} {s : PS} (h : KNJ ft s) (k0 : 0 ≤ k ∧ k ≤ 255) (e0 : iC s 76 k.toNat ≠ 0) (e : iC s 76 k.toNat ≠ 1) : ¬ ft k := by
  rcases h k k0.1 k0.2 with a | a | a
  · omega
  · have := a.1; omega
  · exact a.2
theorem mo9_fm {L M : List Nat} {s t : PS} (F : Fm L M s t) (h : 39 ∉ L ∧ 72 ∉ M ∧ 11 ∉ M) : mo9 t = mo9 s := funext (fun i => by
  show iC t 11 (12 * (iI t 39).toNat + (iC t 72 i).toNat) = iC s 11 (12 * (iI s 39).toNat + (iC s 72 i).toNat)
  rw [fm_i F h.1, fm_c F h.2.1, fm_c F h.2.2])
theorem rd9_fm {L M : List Nat} {s t : PS} (F : Fm L M s t) (h : 73 ∉ M) : rd9 t = rd9 s := funext (fun i => fm_c F h)
theorem trs_0 {B : MdO} {x v : Int} {s : PS} (h : TRP B x v s) : TRS B x s s := ⟨h.1, fun _ _ => rfl⟩
theorem ap_y {c : Prop} {f : MdO → MdO} {B : MdO} (h : c) : apB c f B = f B := piq_y h
theorem ap_n {c : Prop} {f : MdO → MdO} {B : MdO} (h : ¬ c) : apB c f B = B := piq_n h
theorem bss_g {n : Nat} {B : MdO} {s : PS} {m : Int} (h : BSS n B s) (hm : m < 2147483647) (hl : m < iI s 42) : lsB B m := (bss_l h hm).mpr hl
/-- the eight ears have heard -/
def EAJ (lj hj : Nat → Int64) (s : PS) : Prop := (LSNE0 (lj 0) (hj 0) s ∧ HEHE0 (lj 0) (hj 0) 1 s) ∧ (LSNE1 (lj 1) (hj 1) s ∧ HEHE1 (lj 1) (hj 1) 1 s) ∧ (LSNE2 (lj 2) (hj 2) s ∧ HEHE2 (lj 2) (hj 2) 1 s) ∧ (LSNE3 (lj 3) (hj 3) s ∧ HEHE3 (lj 3) (hj 3) 1 s) ∧ (LSNE4 (lj 4) (hj 4) s ∧ HEHE4 (lj 4) (hj 4) 1 s) ∧ (LSNE5 (lj 5) (hj 5) s ∧ HEHE5 (lj 5) (hj 5) 1 s) ∧ (LSNE6 (lj 6) (hj 6) s ∧ HEHE6 (lj 6) (hj 6) 1 s) ∧ (LSNE7 (lj 7) (hj 7) s ∧ HEHE7 (lj 7) (hj 7) 1 s)
theorem EAJ_fm {lj hj : Nat → Int64} {L M : List Nat} {s t : PS} (F : Fm L M s t) (h : (∀ a ∈ [43, 44, 46, 47, 49, 50, 52, 53, 55, 56, 58, 59, 61, 62, 64, 65, 67, 68], a ∉ L) ∧ ∀ a ∈ [80, 81, 82, 83, 84, 85, 86, 62, 1063, 1059, 1061, 87, 89, 90, 91, 92, 93, 94, 95, 96, 98, 99, 100, 101, 102, 103, 104, 105, 107, 108, 109, 110, 111, 112, 113, 114, 116, 117, 118, 119, 120, 121, 122, 123, 125, 126, 127, 128, 129, 130, 131, 132, 134, 135, 136, 137, 138, 139, 140, 141, 143, 144, 145, 146, 147, 148, 149, 150], a ∉ M) (r : EAJ lj hj s) : EAJ lj hj t := by
  have H1 := h.1
  have H2 := h.2
  exact ⟨⟨LSNE0_fm F ⟨⟨H1 _ (by decide), H1 _ (by decide), H1 _ (by decide), H1 _ (by decide)⟩, ⟨H2 _ (by decide), H2 _ (by decide), H2 _ (by decide), H2 _ (by decide), H2 _ (by decide), H2 _ (by decide), H2 _ (by decide)⟩, H2 _ (by decide), H2 _ (by decide), H2 _ (by decide), H2 _ (by decide)⟩ r.1.1, HEHE0_fm F (H2 _ (by decide)) r.1.2⟩, ⟨LSNE1_fm F ⟨⟨H1 _ (by decide), H1 _ (by decide), H1 _ (by decide), H1 _ (by decide)⟩, ⟨H2 _ (by decide), H2 _ (by decide), H2 _ (by decide), H2 _ (by decide), H2 _ (by decide), H2 _ (by decide), H2 _ (by decide)⟩, H2 _ (by decide), H2 _ (by decide), H2 _ (by decide), H2 _ (by decide)⟩ r.2.1.1, HEHE1_fm F (H2 _ (by decide)) r.2.1.2⟩, ⟨LSNE2_fm F ⟨⟨H1 _ (by decide), H1 _ (by decide), H1 _ (by decide), H1 _ (by decide)⟩, ⟨H2 _ (by decide), H2 _ (by decide), H2 _ (by decide), H2 _ (by decide), H2 _ (by decide), H2 _ (by decide), H2 _ (by decide)⟩, H2 _ (by decide), H2 _ (by decide), H2 _ (by decide), H2 _ (by decide)⟩ r.2.2.1.1, HEHE2_fm F (H2 _ (by decide)) r.2.2.1.2⟩, ⟨LSNE3_fm F ⟨⟨H1 _ (by decide), H1 _ (by decide), H1 _ (by decide), H1 _ (by decide)⟩, ⟨H2 _ (by decide), H2 _ (by decide), H2 _ (by decide), H2 _ (by decide), H2 _ (by decide), H2 _ (by decide), H2 _ (by decide)⟩, H2 _ (by decide), H2 _ (by decide), H2 _ (by decide), H2 _ (by decide)⟩ r.2.2.2.1.1, HEHE3_fm F (H2 _ (by decide)) r.2.2.2.1.2⟩, ⟨LSNE4_fm F ⟨⟨H1 _ (by decide), H1 _ (by decide), H1 _ (by decide), H1 _ (by decide)⟩, ⟨H2 _ (by decide), H2 _ (by decide), H2 _ (by decide), H2 _ (by decide), H2 _ (by decide), H2 _ (by decide), H2 _ (by decide)⟩, H2 _ (by decide), H2 _ (by decide), H2 _ (by decide), H2 _ (by decide)⟩ r.2.2.2.2.1.1, HEHE4_fm F (H2 _ (by decide)) r.2.2.2.2.1.2⟩, ⟨LSNE5_fm F ⟨⟨H1 _ (by decide), H1 _ (by decide), H1 _ (by decide), H1 _ (by decide)⟩, ⟨H2 _ (by decide), H2 _ (by decide), H2 _ (by decide), H2 _ (by decide), H2 _ (by decide), H2 _ (by decide), H2 _ (by decide)⟩, H2 _ (by decide), H2 _ (by decide), H2 _ (by decide), H2 _ (by decide)⟩ r.2.2.2.2.2.1.1, HEHE5_fm F (H2 _ (by decide)) r.2.2.2.2.2.1.2⟩, ⟨LSNE6_fm F ⟨⟨H1 _ (by decide), H1 _ (by decide), H1 _ (by decide), H1 _ (by decide)⟩, ⟨H2 _ (by decide), H2 _ (by decide), H2 _ (by decide), H2 _ (by decide), H2 _ (by decide), H2 _ (by decide), H2 _ (by decide)⟩, H2 _ (by decide), H2 _ (by decide), H2 _ (by decide), H2 _ (by decide)⟩ r.2.2.2.2.2.2.1.1, HEHE6_fm F (H2 _ (by decide)) r.2.2.2.2.2.2.1.2⟩, ⟨LSNE7_fm F ⟨⟨H1 _ (by decide), H1 _ (by decide), H1 _ (by decide), H1 _ (by decide)⟩, ⟨H2 _ (by decide), H2 _ (by decide), H2 _ (by decide), H2 _ (by decide), H2 _ (by decide), H2 _ (by decide), H2 _ (by decide)⟩, H2 _ (by decide), H2 _ (by decide), H2 _ (by decide), H2 _ (by decide)⟩ r.2.2.2.2.2.2.2.1, HEHE7_fm F (H2 _ (by decide)) r.2.2.2.2.2.2.2.2⟩⟩
theorem eaj_up_0 {lj hj : Nat → Int64} {t u : PS} (h : EAJ lj hj t) (F : Fm [] [87, 20] t u) (h2 : HEHE0 (lj 0) (hj 0) 1 u) : EAJ lj hj u := ⟨⟨LSNE0_fm F (by decide) h.1.1, h2⟩, ⟨LSNE1_fm F (by decide) h.2.1.1, HEHE1_fm F (by decide) h.2.1.2⟩, ⟨LSNE2_fm F (by decide) h.2.2.1.1, HEHE2_fm F (by decide) h.2.2.1.2⟩, ⟨LSNE3_fm F (by decide) h.2.2.2.1.1, HEHE3_fm F (by decide) h.2.2.2.1.2⟩, ⟨LSNE4_fm F (by decide) h.2.2.2.2.1.1, HEHE4_fm F (by decide) h.2.2.2.2.1.2⟩, ⟨LSNE5_fm F (by decide) h.2.2.2.2.2.1.1, HEHE5_fm F (by decide) h.2.2.2.2.2.1.2⟩, ⟨LSNE6_fm F (by decide) h.2.2.2.2.2.2.1.1, HEHE6_fm F (by decide) h.2.2.2.2.2.2.1.2⟩, ⟨LSNE7_fm F (by decide) h.2.2.2.2.2.2.2.1, HEHE7_fm F (by decide) h.2.2.2.2.2.2.2.2⟩⟩
theorem eaj_up_1 {lj hj : Nat → Int64} {t u : PS} (h : EAJ lj hj t) (F : Fm [] [96, 20] t u) (h2 : HEHE1 (lj 1) (hj 1) 1 u) : EAJ lj hj u := ⟨⟨LSNE0_fm F (by decide) h.1.1, HEHE0_fm F (by decide) h.1.2⟩, ⟨LSNE1_fm F (by decide) h.2.1.1, h2⟩, ⟨LSNE2_fm F (by decide) h.2.2.1.1, HEHE2_fm F (by decide) h.2.2.1.2⟩, ⟨LSNE3_fm F (by decide) h.2.2.2.1.1, HEHE3_fm F (by decide) h.2.2.2.1.2⟩, ⟨LSNE4_fm F (by decide) h.2.2.2.2.1.1, HEHE4_fm F (by decide) h.2.2.2.2.1.2⟩, ⟨LSNE5_fm F (by decide) h.2.2.2.2.2.1.1, HEHE5_fm F (by decide) h.2.2.2.2.2.1.2⟩, ⟨LSNE6_fm F (by decide) h.2.2.2.2.2.2.1.1, HEHE6_fm F (by decide) h.2.2.2.2.2.2.1.2⟩, ⟨LSNE7_fm F (by decide) h.2.2.2.2.2.2.2.1, HEHE7_fm F (by decide) h.2.2.2.2.2.2.2.2⟩⟩
theorem eaj_up_2 {lj hj : Nat → Int64} {t u : PS} (h : EAJ lj hj t) (F : Fm [] [105, 20] t u) (h2 : HEHE2 (lj 2) (hj 2) 1 u) : EAJ lj hj u := ⟨⟨LSNE0_fm F (by decide) h.1.1, HEHE0_fm F (by decide) h.1.2⟩, ⟨LSNE1_fm F (by decide) h.2.1.1, HEHE1_fm F (by decide) h.2.1.2⟩, ⟨LSNE2_fm F (by decide) h.2.2.1.1, h2⟩, ⟨LSNE3_fm F (by decide) h.2.2.2.1.1, HEHE3_fm F (by decide) h.2.2.2.1.2⟩, ⟨LSNE4_fm F (by decide) h.2.2.2.2.1.1, HEHE4_fm F (by decide) h.2.2.2.2.1.2⟩, ⟨LSNE5_fm F (by decide) h.2.2.2.2.2.1.1, HEHE5_fm F (by decide) h.2.2.2.2.2.1.2⟩, ⟨LSNE6_fm F (by decide) h.2.2.2.2.2.2.1.1, HEHE6_fm F (by decide) h.2.2.2.2.2.2.1.2⟩, ⟨LSNE7_fm F (by decide) h.2.2.2.2.2.2.2.1, HEHE7_fm F (by decide) h.2.2.2.2.2.2.2.2⟩⟩
theorem eaj_up_3 {lj hj : Nat → Int64} {t u : PS} (h : EAJ lj hj t) (F : Fm [] [114, 20] t u) (h2 : HEHE3 (lj 3) (hj 3) 1 u) : EAJ lj hj u := ⟨⟨LSNE0_fm F (by decide) h.1.1, HEHE0_fm F (by decide) h.1.2⟩, ⟨LSNE1_fm F (by decide) h.2.1.1, HEHE1_fm F (by decide) h.2.1.2⟩, ⟨LSNE2_fm F (by decide) h.2.2.1.1, HEHE2_fm F (by decide) h.2.2.1.2⟩, ⟨LSNE3_fm F (by decide) h.2.2.2.1.1, h2⟩, ⟨LSNE4_fm F (by decide) h.2.2.2.2.1.1, HEHE4_fm F (by decide) h.2.2.2.2.1.2⟩, ⟨LSNE5_fm F (by decide) h.2.2.2.2.2.1.1, HEHE5_fm F (by decide) h.2.2.2.2.2.1.2⟩, ⟨LSNE6_fm F (by decide) h.2.2.2.2.2.2.1.1, HEHE6_fm F (by decide) h.2.2.2.2.2.2.1.2⟩, ⟨LSNE7_fm F (by decide) h.2.2.2.2.2.2.2.1, HEHE7_fm F (by decide) h.2.2.2.2.2.2.2.2⟩⟩
theorem eaj_up_4 {lj hj : Nat → Int64} {t u : PS} (h : EAJ lj hj t) (F : Fm [] [123, 20] t u) (h2 : HEHE4 (lj 4) (hj 4) 1 u) : EAJ lj hj u := ⟨⟨LSNE0_fm F (by decide) h.1.1, HEHE0_fm F (by decide) h.1.2⟩, ⟨LSNE1_fm F (by decide) h.2.1.1, HEHE1_fm F (by decide) h.2.1.2⟩, ⟨LSNE2_fm F (by decide) h.2.2.1.1, HEHE2_fm F (by decide) h.2.2.1.2⟩, ⟨LSNE3_fm F (by decide) h.2.2.2.1.1, HEHE3_fm F (by decide) h.2.2.2.1.2⟩, ⟨LSNE4_fm F (by decide) h.2.2.2.2.1.1, h2⟩, ⟨LSNE5_fm F (by decide) h.2.2.2.2.2.1.1, HEHE5_fm F (by decide) h.2.2.2.2.2.1.2⟩, ⟨LSNE6_fm F (by decide) h.2.2.2.2.2.2.1.1, HEHE6_fm F (by decide) h.2.2.2.2.2.2.1.2⟩, ⟨LSNE7_fm F (by decide) h.2.2.2.2.2.2.2.1, HEHE7_fm F (by decide) h.2.2.2.2.2.2.2.2⟩⟩
theorem eaj_up_5 {lj hj : Nat → Int64} {t u : PS} (h : EAJ lj hj t) (F : Fm [] [132, 20] t u) (h2 : HEHE5 (lj 5) (hj 5) 1 u) : EAJ lj hj u := ⟨⟨LSNE0_fm F (by decide) h.1.1, HEHE0_fm F (by decide) h.1.2⟩, ⟨LSNE1_fm F (by decide) h.2.1.1, HEHE1_fm F (by decide) h.2.1.2⟩, ⟨LSNE2_fm F (by decide) h.2.2.1.1, HEHE2_fm F (by decide) h.2.2.1.2⟩, ⟨LSNE3_fm F (by decide) h.2.2.2.1.1, HEHE3_fm F (by decide) h.2.2.2.1.2⟩, ⟨LSNE4_fm F (by decide) h.2.2.2.2.1.1, HEHE4_fm F (by decide) h.2.2.2.2.1.2⟩, ⟨LSNE5_fm F (by decide) h.2.2.2.2.2.1.1, h2⟩, ⟨LSNE6_fm F (by decide) h.2.2.2.2.2.2.1.1, HEHE6_fm F (by decide) h.2.2.2.2.2.2.1.2⟩, ⟨LSNE7_fm F (by decide) h.2.2.2.2.2.2.2.1, HEHE7_fm F (by decide) h.2.2.2.2.2.2.2.2⟩⟩
theorem eaj_up_6 {lj hj : Nat → Int64} {t u : PS} (h : EAJ lj hj t) (F : Fm [] [141, 20] t u) (h2 : HEHE6 (lj 6) (hj 6) 1 u) : EAJ lj hj u := ⟨⟨LSNE0_fm F (by decide) h.1.1, HEHE0_fm F (by decide) h.1.2⟩, ⟨LSNE1_fm F (by decide) h.2.1.1, HEHE1_fm F (by decide) h.2.1.2⟩, ⟨LSNE2_fm F (by decide) h.2.2.1.1, HEHE2_fm F (by decide) h.2.2.1.2⟩, ⟨LSNE3_fm F (by decide) h.2.2.2.1.1, HEHE3_fm F (by decide) h.2.2.2.1.2⟩, ⟨LSNE4_fm F (by decide) h.2.2.2.2.1.1, HEHE4_fm F (by decide) h.2.2.2.2.1.2⟩, ⟨LSNE5_fm F (by decide) h.2.2.2.2.2.1.1, HEHE5_fm F (by decide) h.2.2.2.2.2.1.2⟩, ⟨LSNE6_fm F (by decide) h.2.2.2.2.2.2.1.1, h2⟩, ⟨LSNE7_fm F (by decide) h.2.2.2.2.2.2.2.1, HEHE7_fm F (by decide) h.2.2.2.2.2.2.2.2⟩⟩
theorem eaj_up_7 {lj hj : Nat → Int64} {t u : PS} (h : EAJ lj hj t) (F : Fm [] [150, 20] t u) (h2 : HEHE7 (lj 7) (hj 7) 1 u) : EAJ lj hj u := ⟨⟨LSNE0_fm F (by decide) h.1.1, HEHE0_fm F (by decide) h.1.2⟩, ⟨LSNE1_fm F (by decide) h.2.1.1, HEHE1_fm F (by decide) h.2.1.2⟩, ⟨LSNE2_fm F (by decide) h.2.2.1.1, HEHE2_fm F (by decide) h.2.2.1.2⟩, ⟨LSNE3_fm F (by decide) h.2.2.2.1.1, HEHE3_fm F (by decide) h.2.2.2.1.2⟩, ⟨LSNE4_fm F (by decide) h.2.2.2.2.1.1, HEHE4_fm F (by decide) h.2.2.2.2.1.2⟩, ⟨LSNE5_fm F (by decide) h.2.2.2.2.2.1.1, HEHE5_fm F (by decide) h.2.2.2.2.2.1.2⟩, ⟨LSNE6_fm F (by decide) h.2.2.2.2.2.2.1.1, HEHE6_fm F (by decide) h.2.2.2.2.2.2.1.2⟩, ⟨LSNE7_fm F (by decide) h.2.2.2.2.2.2.2.1, h2⟩⟩
theorem eaj_of {lj hj : Nat → Int64} {t : PS} (h : EAR9 8 t) (e1 : ∀ i, gD t 22 i = lj i) (e2 : ∀ i, gD t 23 i = hj i) : EAJ lj hj t := by
  unfold EAR9 at h
  simp only [e1, e2] at h
  exact ⟨h.1 (by omega), h.2.1 (by omega), h.2.2.1 (by omega), h.2.2.2.1 (by omega), h.2.2.2.2.1 (by omega), h.2.2.2.2.2.1 (by omega), h.2.2.2.2.2.2.1 (by omega), h.2.2.2.2.2.2.2 (by omega)⟩
section M87kx
variable {l : Launch} {s0 : State} {D : va_G} {tys : List (ClassId × FieldType)} {a0 : Array Value} {A : Nat → Nat} {dT : Nat → ClassId} {s : PS}
set_option maxRecDepth 4000 in
theorem c8_any9 (G : GX l s0 D tys a0 dT) {U : AirD} {S : Int → Prop} {qn : Nat} {lj hj : Nat → Int64} {ft : Int → Prop} (I : Bd s) (jTMK : TMK U S qn lj hj ft s) (jEAJ : EAJ lj hj s) (jMSJ : MSJ U S qn s) {x : Int} (p0 : 0 ≤ x ∧ x ≤ 255) (p1 : iI s 41 ≤ 8) : CT l s0 D A dT 98 (rmN 98) [.ref (A 67), .int (Int32.ofInt x)] s (fun o t => Bd t ∧ Fm [] [67, 20, 87, 96, 105, 114, 123, 132, 141, 150] s t ∧ EAJ lj hj t ∧ MSJ U S qn t ∧ ∃ e, o = .inl (some (.int (Int32.ofInt e))) ∧ rng e ∧ ((e = 0 ∧ ft x) ∨ (e = 1 ∧ ¬ ft x))) := by
  refine ct_ofX G (by decide) (Nat.le_of_ble_eq_true rfl) (fun k X E ET hRt hXt q => ?_)
  show WS k 0 [(0, .ref (A 67)), (1, .int (Int32.ofInt x))] [] _ 0 0
  have F : Fm [] [67, 20, 87, 96, 105, 114, 123, 132, 141, 150] s s := fm_rf _ _ s
  have b1 := bi_41 I
  have L2 : ∀ (n : Nat) (t : PS) (xv c : Int), Bd t → Fm [] [67, 20, 87, 96, 105, 114, 123, 132, 141, 150] s t → TMK U S qn lj hj ft t → EAJ lj hj t → (MKQ9 U S qn x c t) → ((xv = x ∧ 0 ≤ x ∧ x ≤ 255) ∧ (0 ≤ c ∧ c ≤ iI s 41) ∧ iI s 41 ≤ 8 ∧ iI t 41 = iI s 41) → (8 - c : Int).toNat < n → (∀ (t' : PS) (c' : Int), Bd t' → Fm [] [67, 20, 87, 96, 105, 114, 123, 132, 141, 150] s t' → TMK U S qn lj hj ft t' → EAJ lj hj t' → (MKQ9 U S qn x c' t') → (c' = iI s 41 ∧ iI t' 41 = iI s 41) → WS k 74 [(0, .ref (A 67)), (1, .int (Int32.ofInt xv)), (2, .int (Int32.ofInt c'))] [] (Wd A dT t') 0 0) → WS k 2 [(0, .ref (A 67)), (1, .int (Int32.ofInt xv)), (2, .int (Int32.ofInt c))] [] (Wd A dT t) 0 0 := by
    intro n
    induction n with
    | zero =>
      intro t xv c I F jjTMK jjEAJ hq hi hm kx
      exact absurd hm (Nat.not_lt_zero _)
    | succ n ih =>
      intro t xv c I F jjTMK jjEAJ hq hi hm kx
      have b1001 := bi_41 I
      refine z_load_n X (x := c) rfl (List.Mem.tail _ (List.Mem.tail _ (List.Mem.head _))) (z_aload_n X (x := A 67) rfl (List.Mem.head _) (z_getI X 67 rfl (c518_ok rfl) rfl rfl ?_))
      have b1002 := bi_41 I
      refine z_icmp_ge X (t := 74) rfl rfl ⟨by first | exact oq_fa4e5087 hi.2.1.1 | omega, by first | exact oq_b5dbaaed hi.2.1.2 hi.2.2.1 | omega⟩ (rng_to _) (fun g1003 => ?_) (fun g1003 => ?_)
      ·
        refine WS_pq [0, 1, 2] (lv' := [(0, .ref (A 67)), (1, .int (Int32.ofInt xv)), (2, .int (Int32.ofInt c))]) rfl ?_
        exact kx _ c I F jjTMK jjEAJ hq (by first | exact ⟨oq_537ca82a hi.2.1.2 g1003 hi.2.2.2, hi.2.2.2⟩ | omega)
      ·
        refine z_load_n X (x := xv) rfl (List.Mem.tail _ (List.Mem.head _)) (z_load_n X (x := c) rfl (List.Mem.tail _ (List.Mem.tail _ (List.Mem.head _))) (z_bshr X rfl (z_anyV (fun y1004 hy1004 ey1004 => ?_))))
        refine z_const X rfl (w_iand X.1 (ax_d X (show cdA 98 14 = some (.iand, 1, 0, 0, 0) from rfl)) (z_anyV (fun y1005 hy1005 ey1005 => ?_)))
        have hbit := bt_rd (b := xv) (p := c) ey1004 ey1005 hy1005 (by omega)
        rw [show xv = x by omega] at hbit
        refine z_if_eq X (t := 22) rfl rfl hy1005 (fun g1006 => ?_) (fun g1006 => ?_)
        ·
          have hnB : ¬ bT (Int32.ofInt x) (c : Int).toNat = true := hbit.elim (fun w => absurd w.1 (by omega)) (fun w => w.2)
          refine z_const X rfl (z_store_n X (lv' := [(3, .int (Int32.ofInt 0)), (0, .ref (A 67)), (1, .int (Int32.ofInt xv)), (2, .int (Int32.ofInt c))]) rfl (by decide) (fun _ h => h) (z_aload_n X (x := A 67) rfl (List.Mem.tail _ (List.Mem.head _)) (s_getR X 67 rfl (c518_ok rfl) rfl rfl (s_getR X 68 rfl (c518_ok rfl) rfl rfl (z_aload_n X (x := A 67) rfl (List.Mem.tail _ (List.Mem.head _)) (s_getR X 67 rfl (c518_ok rfl) rfl rfl (z_load_n X (x := c) rfl (List.Mem.tail _ (List.Mem.tail _ (List.Mem.tail _ (List.Mem.head _)))) (z_ald X 85 rfl (c518_ok rfl) rfl (by first | exact hi.2.1.1 | omega) (show c < 12 by first | exact oq_f36e82a8 g1003 b1002.2 | omega) (cbig_ok rfl) ?_))))))))
          have b1007 := bc_72 I (show (c).toNat < 12 by first | exact oq_2dac6850 g1003 b1002.2 | omega)
          refine z_load_n X (x := 0) rfl (List.Mem.head _) (z_if_eq X (t := 66) rfl rfl (by decide) (fun g1008 => ?_) (fun g1008 => ?_))
          ·
            refine z_const X rfl (z_ast X 79 rfl (c518_ok rfl) rfl (by first | exact b1007.1 | omega) (show (iC t 72 (c).toNat) < 288 by first | exact oq_760f2641 b1007.2 | omega) (cbig_ok rfl) (wd_gen (fun s1009 hs1009 => ?_)))
            have Is1009 : Bd s1009 := eqB hs1009 (bd_C I (show (0 : Int) ≤ 0 ∧ 0 ≤ 50 by first | exact ⟨by decide, by decide⟩ | omega) (by decide))
            have Fs1009 := eqF hs1009 (fm_C F (inl_ok (a := 67) rfl))
            have ws1009_41 : iI s1009 41 = iI t 41 := eqI hs1009 rfl
            have aws1009_67 : UPD 67 ((iC t 72 (c).toNat)) 0 t s1009 := by rw [hs1009]; exact upd_put (sam_rf (a := 67) (s := t)) (by decide)
            have fs1009 : Fm [] [67] t s1009 := by rw [hs1009]; exact fm_C (fm_rf _ _ _) (show 67 ∈ _ by decide)
            have JTMK_s1009 : TMK U S qn lj hj ft s1009 := TMK_fm fs1009 (by decide) jjTMK
            have JEAJ_s1009 : EAJ lj hj s1009 := EAJ_fm fs1009 (by decide) jjEAJ
            refine z_inc X (x := c) (lv' := [(2, .int (Int32.ofInt (c + 1))), (3, .int (Int32.ofInt 0)), (0, .ref (A 67)), (1, .int (Int32.ofInt xv))]) rfl (by decide) (List.Mem.tail _ (List.Mem.tail _ (List.Mem.tail _ (List.Mem.head _)))) (fun _ h => h) (z_goto X (t := 2) rfl rfl (WS_pq [2, 3, 0] (lv' := [(0, .ref (A 67)), (1, .int (Int32.ofInt xv)), (2, .int (Int32.ofInt (c + 1)))]) rfl ?_))
            exact ih _ xv (c + 1) Is1009 Fs1009 JTMK_s1009 JEAJ_s1009 (mkq9_up (k := x) hq jjTMK.2.2.2.2.1 (by omega) rfl aws1009_67 (Or.inr ⟨hnB, rfl⟩)) (by first | exact ⟨And.intro (hi.1.1) (And.intro (hi.1.2.1) (hi.1.2.2)), And.intro (oq_54f49eb5 hi.2.1.1) (oq_8a89b3ae g1003 hi.2.2.2), hi.2.2.1, oq_1aa5be9e ws1009_41 hi.2.2.2⟩ | omega) (by first | exact qk_me hm (by decide) (oq_67fee7f6 g1003 hi.2.2.2 hi.2.2.1) | omega) kx
          ·
            exfalso
            omega
        ·
          have hB : bT (Int32.ofInt x) (c : Int).toNat = true := hbit.elim (fun w => w.2) (fun w => absurd w.1 (by first | (clear g1006; omega) | omega))
          refine z_const X rfl (z_goto X (t := 23) rfl rfl (z_store_n X (lv' := [(3, .int (Int32.ofInt 1)), (0, .ref (A 67)), (1, .int (Int32.ofInt xv)), (2, .int (Int32.ofInt c))]) rfl (by decide) (fun _ h => h) (z_aload_n X (x := A 67) rfl (List.Mem.tail _ (List.Mem.head _)) (s_getR X 67 rfl (c518_ok rfl) rfl rfl (s_getR X 68 rfl (c518_ok rfl) rfl rfl (z_aload_n X (x := A 67) rfl (List.Mem.tail _ (List.Mem.head _)) (s_getR X 67 rfl (c518_ok rfl) rfl rfl (z_load_n X (x := c) rfl (List.Mem.tail _ (List.Mem.tail _ (List.Mem.tail _ (List.Mem.head _)))) (z_ald X 85 rfl (c518_ok rfl) rfl (by first | exact hi.2.1.1 | omega) (show c < 12 by first | exact oq_f36e82a8 g1003 b1002.2 | omega) (cbig_ok rfl) ?_)))))))))
          have b1010 := bc_72 I (show (c).toNat < 12 by first | exact oq_2dac6850 g1003 b1002.2 | omega)
          refine z_load_n X (x := 1) rfl (List.Mem.head _) (z_if_eq X (t := 66) rfl rfl (by decide) (fun g1011 => ?_) (fun g1011 => ?_))
          ·
            exfalso
            omega
          ·
            refine z_aload_n X (x := A 67) rfl (List.Mem.tail _ (List.Mem.head _)) (s_getR X 67 rfl (c518_ok rfl) rfl rfl (s_getR X 3 rfl (c518_ok rfl) rfl rfl (z_aload_n X (x := A 67) rfl (List.Mem.tail _ (List.Mem.head _)) (z_getI X 67 rfl (c518_ok rfl) rfl rfl ?_))))
            have b1012 := bi_39 I
            refine z_bipush X rfl (z_mul X rfl (z_aload_n X (x := A 67) rfl (List.Mem.tail _ (List.Mem.head _)) (s_getR X 67 rfl (c518_ok rfl) rfl rfl (z_load_n X (x := c) rfl (List.Mem.tail _ (List.Mem.tail _ (List.Mem.tail _ (List.Mem.head _)))) (z_ald X 85 rfl (c518_ok rfl) rfl (by first | exact hi.2.1.1 | omega) (show c < 12 by first | exact oq_f36e82a8 g1003 b1002.2 | omega) (cbig_ok rfl) ?_)))))
            have b1013 := bc_72 I (show (c).toNat < 12 by first | exact oq_2dac6850 g1003 b1002.2 | omega)
            refine z_add X rfl (z_ald X 14 rfl (c518_ok rfl) rfl (by first | exact oq_0f03f1de b1012.1 b1013.1 | omega) (show (((iI t 39) * 12) + (iC t 72 (c).toNat)) < 288 by first | exact oq_74a4833a b1012.2 b1013.2 | omega) (cbig_ok rfl) ?_)
            have b1014 := bc_11 I (show ((((iI t 39) * 12) + (iC t 72 (c).toNat))).toNat < 288 by first | exact oq_5aa97b8f b1012.2 b1013.2 | omega)
            have hmo : (iC t 11 ((((iI t 39) * 12) + (iC t 72 (c).toNat))).toNat) = uM U qn ((iC t 72 (c).toNat)).toNat := by have z := any_mo jjTMK.2.2.2.2.1 (c := c) (by first | (clear g1011 g1006; omega) | (clear g1006; omega) | omega); first | exact z | exact (congrArg (iC t 11) (by first | (clear g1011 g1006; omega) | (clear g1006; omega) | omega)).trans z
            refine z_goto X (t := 67) rfl rfl (z_ast X 79 rfl (c518_ok rfl) rfl (by first | exact b1013.1 | omega) (show (iC t 72 (c).toNat) < 288 by first | exact oq_760f2641 b1013.2 | omega) (cbig_ok rfl) (wd_gen (fun s1015 hs1015 => ?_)))
            have Is1015 : Bd s1015 := eqB hs1015 (bd_C I (show (0 : Int) ≤ (iC t 11 ((((iI t 39) * 12) + (iC t 72 (c).toNat))).toNat) ∧ (iC t 11 ((((iI t 39) * 12) + (iC t 72 (c).toNat))).toNat) ≤ 50 by first | exact ⟨b1014.1, b1014.2⟩ | omega) (rng_to _))
            have Fs1015 := eqF hs1015 (fm_C F (inl_ok (a := 67) rfl))
            have ws1015_41 : iI s1015 41 = iI t 41 := eqI hs1015 rfl
            have aws1015_67 : UPD 67 ((iC t 72 (c).toNat)) (iC t 11 ((((iI t 39) * 12) + (iC t 72 (c).toNat))).toNat) t s1015 := by rw [hs1015]; exact upd_put (sam_rf (a := 67) (s := t)) (rng_to _)
            have fs1015 : Fm [] [67] t s1015 := by rw [hs1015]; exact fm_C (fm_rf _ _ _) (show 67 ∈ _ by decide)
            have JTMK_s1015 : TMK U S qn lj hj ft s1015 := TMK_fm fs1015 (by decide) jjTMK
            have JEAJ_s1015 : EAJ lj hj s1015 := EAJ_fm fs1015 (by decide) jjEAJ
            refine z_inc X (x := c) (lv' := [(2, .int (Int32.ofInt (c + 1))), (3, .int (Int32.ofInt 1)), (0, .ref (A 67)), (1, .int (Int32.ofInt xv))]) rfl (by decide) (List.Mem.tail _ (List.Mem.tail _ (List.Mem.tail _ (List.Mem.head _)))) (fun _ h => h) (z_goto X (t := 2) rfl rfl (WS_pq [2, 3, 0] (lv' := [(0, .ref (A 67)), (1, .int (Int32.ofInt xv)), (2, .int (Int32.ofInt (c + 1)))]) rfl ?_))
            exact ih _ xv (c + 1) Is1015 Fs1015 JTMK_s1015 JEAJ_s1015 (mkq9_up (k := x) hq jjTMK.2.2.2.2.1 (by first | (clear g1011 g1006; omega) | (clear g1006; omega) | omega) rfl aws1015_67 (Or.inl ⟨hB, hmo⟩)) (by first | exact ⟨And.intro (hi.1.1) (And.intro (hi.1.2.1) (hi.1.2.2)), And.intro (oq_54f49eb5 hi.2.1.1) (oq_8a89b3ae g1003 hi.2.2.2), hi.2.2.1, oq_1aa5be9e ws1015_41 hi.2.2.2⟩ | omega) (by first | exact qk_me hm (by decide) (oq_67fee7f6 g1003 hi.2.2.2 hi.2.2.1) | omega) kx
  have L76 : ∀ (n : Nat) (t : PS) (p : Int), Bd t → Fm [] [67, 20, 87, 96, 105, 114, 123, 132, 141, 150] s t → TMK U S qn lj hj ft t → EAJ lj hj t → MSJ U S qn t → CDM (uL U) (wyF U S (hitP U S qn)) (moK U S qn x) (uN U) t → (fitN U S qn (pfC s) (fun j => iC s 24 j) x p) → (0 ≤ p ∧ p ≤ 8) → (8 - p : Int).toNat < n → (∀ (t' : PS) (p' : Int), Bd t' → Fm [] [67, 20, 87, 96, 105, 114, 123, 132, 141, 150] s t' → TMK U S qn lj hj ft t' → EAJ lj hj t' → MSJ U S qn t' → CDM (uL U) (wyF U S (hitP U S qn)) (moK U S qn x) (uN U) t' → (fitN U S qn (pfC s) (fun j => iC s 24 j) x p') → (p' = 8) → WS k 124 [(0, .ref (A 67)), (2, .int (Int32.ofInt p'))] [] (Wd A dT t') 0 0) → WS k 76 [(0, .ref (A 67)), (2, .int (Int32.ofInt p))] [] (Wd A dT t) 0 0 := by
    intro n
    induction n with
    | zero =>
      intro t p I F jjTMK jjEAJ jjMSJ jjCDM hq hi hm kx
      exact absurd hm (Nat.not_lt_zero _)
    | succ n ih =>
      intro t p I F jjTMK jjEAJ jjMSJ jjCDM hq hi hm kx
      have b2001 := bi_41 I
      refine z_load_n X (x := p) rfl (List.Mem.tail _ (List.Mem.head _)) (z_bipush X rfl (z_icmp_ge X (t := 124) rfl rfl ⟨by first | exact oq_fa4e5087 hi.1 | omega, by first | exact oq_d3f5d874 hi.2 | omega⟩ (by decide) (fun g2002 => ?_) (fun g2002 => ?_)))
      ·
        refine WS_pq [0, 1] (lv' := [(0, .ref (A 67)), (2, .int (Int32.ofInt p))]) rfl ?_
        exact kx _ p I F jjTMK jjEAJ jjMSJ jjCDM hq (by first | exact oq_73d3719d hi.2 g2002 | omega)
      ·
        refine z_aload_n X (x := A 67) rfl (List.Mem.head _) (s_getR X 67 rfl (c518_ok rfl) rfl rfl (z_load_n X (x := p) rfl (List.Mem.tail _ (List.Mem.head _)) (z_callV X 25 (rm := rmN 30) (As := [.int (Int32.ofInt p)]) (st := []) rfl rfl (by decide) rfl (by rw [E.1, E.2.1, E.2.2.1]; exact c3_has3 G I jjTMK.2.2.2.1 (by first | exact ⟨hi.1, oq_78c639ed g2002⟩ | omega)) ⟨by rw [E.2.2.2]; exact (show (rmN 30).frames + 1 ≤ (rmN 98).frames by decide), by rw [E.2.2.2]; exact (show 8 + (mNL (miB 30) + 11) + (rmN 30).locals ≤ (rmN 98).locals by decide), by rw [E.2.2.2]; exact (show 0 + (rmN 30).cells ≤ (rmN 98).cells by decide), by rw [E.2.2.2]; exact (show 0 + (rmN 30).slots ≤ (rmN 98).slots by decide)⟩ (Nat.le_of_ble_eq_true rfl) (fun vv s2003 hq => ?_) (fun ee s2003 hq => ?_))))
        rotate_left
        · obtain ⟨rfl, e2004, hv, hrs2003, hps2003⟩ := hq; cases hv
        obtain ⟨rfl, e2004, hv, hrs2003, hps2003⟩ := hq
        have hps2003p := hps2003.2
        cases hv
        show WS k 90 [(0, .ref (A 67)), (2, .int (Int32.ofInt p))] [.int (Int32.ofInt e2004)] (Wd A dT t) 0 0
        have hH : HCE (pcS (pfC s) p) e2004 := by have z := (hps2003).2; rw [show pfC t = pfC s from funext (fun j => fm_c F (by decide))] at z; exact z
        refine z_if_eq X (t := 118) rfl rfl hrs2003 (fun g2005 => ?_) (fun g2005 => ?_)
        ·
          refine z_inc X (x := p) (lv' := [(2, .int (Int32.ofInt (p + 1))), (0, .ref (A 67))]) rfl (by decide) (List.Mem.tail _ (List.Mem.head _)) (fun _ h => h) (z_goto X (t := 76) rfl rfl (WS_pq [1, 0] (lv' := [(0, .ref (A 67)), (2, .int (Int32.ofInt (p + 1)))]) rfl ?_))
          exact ih _ (p + 1) I F jjTMK jjEAJ jjMSJ jjCDM (fitn_up hq (by first | (clear hps2003; omega) | omega) (fun w => by unfold presF at w; rw [show (((p : Int).toNat : Nat) : Int) = p by first | (clear hps2003; omega) | omega] at w; exact (hH.elim (fun z => absurd z.1 (by first | (clear hps2003; omega) | omega)) (fun z => z.2 w)).elim)) (by first | exact ⟨oq_54f49eb5 hi.1, oq_0c7b19c3 g2002⟩ | omega) (by first | exact qk_me hm (by decide) (oq_9f368f35 g2002) | omega) kx
        ·
          have hH1 : HCE (pcS (pfC s) (((p : Int).toNat : Nat) : Int)) 1 := by rw [show (((p : Int).toNat : Nat) : Int) = p by first | (clear g2005 hps2003; omega) | (clear hps2003; omega) | omega]; have z := hH; rw [show e2004 = 1 by first | (clear g2005 hps2003; omega) | (clear hps2003; omega) | omega] at z; exact z
          refine z_aload_n X (x := A 67) rfl (List.Mem.head _) (s_getR X 67 rfl (c518_ok rfl) rfl rfl (z_load_n X (x := p) rfl (List.Mem.tail _ (List.Mem.head _)) (z_a8 X rfl (by first | (clear g2005 hps2003; omega) | (clear hps2003; omega) | omega) (show p < 8 by first | (clear g2005 hps2003; omega) | (clear hps2003; omega) | omega) ?_)))
          rcases (show p = 0 ∨ p = 1 ∨ p = 2 ∨ p = 3 ∨ p = 4 ∨ p = 5 ∨ p = 6 ∨ p = 7 by omega) with gs | gs | gs | gs | gs | gs | gs | gs
          ·
            have e8 : 93 + 10 * (p : Int).toNat = 93 := by first | (clear g2005 hps2003; omega) | (clear hps2003; omega) | omega
            rw [e8]
            refine z_const X rfl (z_const X rfl (zcV_i1 X E 93 (As := [.int (Int32.ofInt 0), .int (Int32.ofInt (-1))]) (st := []) rfl rfl rfl rfl (c0_loadAte0 G I jjTMK.1 jjTMK.2.1 jjEAJ.1.1 jjCDM jjEAJ.1.2 (by decide) (by decide)) rfl (Nat.le_of_ble_eq_true rfl) (fun s2006 e2007 Is2006 Fs2006 JHEHE0_s2006 hrs2006 hps2006 => ?_)))
            have Gs2006 := fm_tq F Fs2006 rfl rfl
            have JTMK_s2006 : TMK U S qn lj hj ft s2006 := TMK_fm Fs2006 (by decide) jjTMK
            have JMSJ_s2006 : MSJ U S qn s2006 := MSJ_fm Fs2006 (by decide) jjMSJ
            have JCDM_s2006 : CDM (uL U) (wyF U S (hitP U S qn)) (moK U S qn x) (uN U) s2006 := CDM_fm Fs2006 (by decide) jjCDM
            have ws2006_41 : iI s2006 41 = iI t 41 := fm_iq Fs2006 rfl
            have hEA : EAJ lj hj s2006 := eaj_up_0 jjEAJ Fs2006 JHEHE0_s2006
            have hld : e2007 = ldK9 U S qn (pfC s) x (p : Int).toNat := by rw [show (p : Int).toNat = 0 by first | (clear g2005 hps2003; omega) | (clear hps2003; omega) | omega]; exact ldk_of (k := x) (p := 0) jTMK (by decide) hrs2006 hps2006
            refine z_aload_n X (x := A 67) rfl (List.Mem.head _) (s_getR X 67 rfl (c518_ok rfl) rfl rfl (s_getR X 25 rfl (c518_ok rfl) rfl rfl (z_load_n X (x := p) rfl (List.Mem.tail _ (List.Mem.head _)) (z_ald X 29 rfl (c518_ok rfl) rfl (by first | exact hi.1 | omega) (show p < 8 by first | exact g2002 | omega) (cbig_ok rfl) ?_))))
            have b2008 := bc_24 Is2006 (show (p).toNat < 8 by first | exact oq_db4b3b8b g2002 | omega)
            have hlm : iC s2006 24 (p : Int).toNat = iC s 24 (p : Int).toNat := fm_c Gs2006 (by decide)
            refine z_icmp_le X (t := 118) rfl rfl hrs2006 (rng_to _) (fun g2009 => ?_) (fun g2009 => ?_)
            ·
              refine z_inc X (x := p) (lv' := [(2, .int (Int32.ofInt (p + 1))), (0, .ref (A 67))]) rfl (by decide) (List.Mem.tail _ (List.Mem.head _)) (fun _ h => h) (z_goto X (t := 76) rfl rfl (WS_pq [1, 0] (lv' := [(0, .ref (A 67)), (2, .int (Int32.ofInt (p + 1)))]) rfl ?_))
              exact ih _ (p + 1) Is2006 Gs2006 JTMK_s2006 hEA JMSJ_s2006 JCDM_s2006 (fitn_up hq (by first | (clear g2005 hps2003; omega) | (clear hps2003; omega) | omega) (fun _ => by show ldK9 U S qn (pfC s) x (p : Int).toNat ≤ iC s 24 (p : Int).toNat; omega)) (by first | exact ⟨oq_54f49eb5 hi.1, oq_0c7b19c3 g2002⟩ | omega) (by first | exact qk_me hm (by decide) (oq_9f368f35 g2002) | omega) kx
            ·
              refine z_const X rfl ?_
              exact w_iret X.1 q hRt (nar_ret (by first | exact Or.inr (by decide) | omega)) (ax_d X (show cdA 98 117 = some (.ireturn, 1, 0, 0, 0) from rfl)) (Nat.zero_le _) (Nat.zero_le _) ⟨_, rfl, Is2006, Gs2006, hEA, JMSJ_s2006, 1, rfl, (by decide), (Or.inr ⟨rfl, fit_n jTMK (p := (p : Int).toNat) (by first | (clear g2005 hps2003; omega) | (clear hps2003; omega) | omega) hH1 hld (by first | (clear g2005 hps2003; omega) | (clear hps2003; omega) | omega)⟩)⟩
          ·
            have e8 : 93 + 10 * (p : Int).toNat = 103 := by first | (clear g2005 hps2003; omega) | (clear hps2003; omega) | omega
            rw [e8]
            refine z_const X rfl (z_const X rfl (zcV_i1 X E 103 (As := [.int (Int32.ofInt 0), .int (Int32.ofInt (-1))]) (st := []) rfl rfl rfl rfl (c0_loadAte1 G I jjTMK.1 jjTMK.2.1 jjEAJ.2.1.1 jjCDM jjEAJ.2.1.2 (by decide) (by decide)) rfl (Nat.le_of_ble_eq_true rfl) (fun s2010 e2011 Is2010 Fs2010 JHEHE1_s2010 hrs2010 hps2010 => ?_)))
            have Gs2010 := fm_tq F Fs2010 rfl rfl
            have JTMK_s2010 : TMK U S qn lj hj ft s2010 := TMK_fm Fs2010 (by decide) jjTMK
            have JMSJ_s2010 : MSJ U S qn s2010 := MSJ_fm Fs2010 (by decide) jjMSJ
            have JCDM_s2010 : CDM (uL U) (wyF U S (hitP U S qn)) (moK U S qn x) (uN U) s2010 := CDM_fm Fs2010 (by decide) jjCDM
            have ws2010_41 : iI s2010 41 = iI t 41 := fm_iq Fs2010 rfl
            have hEA : EAJ lj hj s2010 := eaj_up_1 jjEAJ Fs2010 JHEHE1_s2010
            have hld : e2011 = ldK9 U S qn (pfC s) x (p : Int).toNat := by rw [show (p : Int).toNat = 1 by first | (clear g2005 hps2003; omega) | (clear hps2003; omega) | omega]; exact ldk_of (k := x) (p := 1) jTMK (by decide) hrs2010 hps2010
            refine z_aload_n X (x := A 67) rfl (List.Mem.head _) (s_getR X 67 rfl (c518_ok rfl) rfl rfl (s_getR X 25 rfl (c518_ok rfl) rfl rfl (z_load_n X (x := p) rfl (List.Mem.tail _ (List.Mem.head _)) (z_ald X 29 rfl (c518_ok rfl) rfl (by first | exact hi.1 | omega) (show p < 8 by first | exact g2002 | omega) (cbig_ok rfl) ?_))))
            have b2012 := bc_24 Is2010 (show (p).toNat < 8 by first | exact oq_db4b3b8b g2002 | omega)
            have hlm : iC s2010 24 (p : Int).toNat = iC s 24 (p : Int).toNat := fm_c Gs2010 (by decide)
            refine z_icmp_le X (t := 118) rfl rfl hrs2010 (rng_to _) (fun g2013 => ?_) (fun g2013 => ?_)
            ·
              refine z_inc X (x := p) (lv' := [(2, .int (Int32.ofInt (p + 1))), (0, .ref (A 67))]) rfl (by decide) (List.Mem.tail _ (List.Mem.head _)) (fun _ h => h) (z_goto X (t := 76) rfl rfl (WS_pq [1, 0] (lv' := [(0, .ref (A 67)), (2, .int (Int32.ofInt (p + 1)))]) rfl ?_))
              exact ih _ (p + 1) Is2010 Gs2010 JTMK_s2010 hEA JMSJ_s2010 JCDM_s2010 (fitn_up hq (by first | (clear g2005 hps2003; omega) | (clear hps2003; omega) | omega) (fun _ => by show ldK9 U S qn (pfC s) x (p : Int).toNat ≤ iC s 24 (p : Int).toNat; omega)) (by first | exact ⟨oq_54f49eb5 hi.1, oq_0c7b19c3 g2002⟩ | omega) (by first | exact qk_me hm (by decide) (oq_9f368f35 g2002) | omega) kx
            ·
              refine z_const X rfl ?_
              exact w_iret X.1 q hRt (nar_ret (by first | exact Or.inr (by decide) | omega)) (ax_d X (show cdA 98 117 = some (.ireturn, 1, 0, 0, 0) from rfl)) (Nat.zero_le _) (Nat.zero_le _) ⟨_, rfl, Is2010, Gs2010, hEA, JMSJ_s2010, 1, rfl, (by decide), (Or.inr ⟨rfl, fit_n jTMK (p := (p : Int).toNat) (by first | (clear g2005 hps2003; omega) | (clear hps2003; omega) | omega) hH1 hld (by first | (clear g2005 hps2003; omega) | (clear hps2003; omega) | omega)⟩)⟩
          ·
            have e8 : 93 + 10 * (p : Int).toNat = 113 := by first | (clear g2005 hps2003; omega) | (clear hps2003; omega) | omega
            rw [e8]
            refine z_const X rfl (z_const X rfl (zcV_i1 X E 113 (As := [.int (Int32.ofInt 0), .int (Int32.ofInt (-1))]) (st := []) rfl rfl rfl rfl (c0_loadAte2 G I jjTMK.1 jjTMK.2.1 jjEAJ.2.2.1.1 jjCDM jjEAJ.2.2.1.2 (by decide) (by decide)) rfl (Nat.le_of_ble_eq_true rfl) (fun s2014 e2015 Is2014 Fs2014 JHEHE2_s2014 hrs2014 hps2014 => ?_)))
            have Gs2014 := fm_tq F Fs2014 rfl rfl
            have JTMK_s2014 : TMK U S qn lj hj ft s2014 := TMK_fm Fs2014 (by decide) jjTMK
            have JMSJ_s2014 : MSJ U S qn s2014 := MSJ_fm Fs2014 (by decide) jjMSJ
            have JCDM_s2014 : CDM (uL U) (wyF U S (hitP U S qn)) (moK U S qn x) (uN U) s2014 := CDM_fm Fs2014 (by decide) jjCDM
            have ws2014_41 : iI s2014 41 = iI t 41 := fm_iq Fs2014 rfl
            have hEA : EAJ lj hj s2014 := eaj_up_2 jjEAJ Fs2014 JHEHE2_s2014
            have hld : e2015 = ldK9 U S qn (pfC s) x (p : Int).toNat := by rw [show (p : Int).toNat = 2 by first | (clear g2005 hps2003; omega) | (clear hps2003; omega) | omega]; exact ldk_of (k := x) (p := 2) jTMK (by decide) hrs2014 hps2014
            refine z_aload_n X (x := A 67) rfl (List.Mem.head _) (s_getR X 67 rfl (c518_ok rfl) rfl rfl (s_getR X 25 rfl (c518_ok rfl) rfl rfl (z_load_n X (x := p) rfl (List.Mem.tail _ (List.Mem.head _)) (z_ald X 29 rfl (c518_ok rfl) rfl (by first | exact hi.1 | omega) (show p < 8 by first | exact g2002 | omega) (cbig_ok rfl) ?_))))
            have b2016 := bc_24 Is2014 (show (p).toNat < 8 by first | exact oq_db4b3b8b g2002 | omega)
            have hlm : iC s2014 24 (p : Int).toNat = iC s 24 (p : Int).toNat := fm_c Gs2014 (by decide)
            refine z_icmp_le X (t := 118) rfl rfl hrs2014 (rng_to _) (fun g2017 => ?_) (fun g2017 => ?_)
            ·
              refine z_inc X (x := p) (lv' := [(2, .int (Int32.ofInt (p + 1))), (0, .ref (A 67))]) rfl (by decide) (List.Mem.tail _ (List.Mem.head _)) (fun _ h => h) (z_goto X (t := 76) rfl rfl (WS_pq [1, 0] (lv' := [(0, .ref (A 67)), (2, .int (Int32.ofInt (p + 1)))]) rfl ?_))
              exact ih _ (p + 1) Is2014 Gs2014 JTMK_s2014 hEA JMSJ_s2014 JCDM_s2014 (fitn_up hq (by first | (clear g2005 hps2003; omega) | (clear hps2003; omega) | omega) (fun _ => by show ldK9 U S qn (pfC s) x (p : Int).toNat ≤ iC s 24 (p : Int).toNat; omega)) (by first | exact ⟨oq_54f49eb5 hi.1, oq_0c7b19c3 g2002⟩ | omega) (by first | exact qk_me hm (by decide) (oq_9f368f35 g2002) | omega) kx
            ·
              refine z_const X rfl ?_
              exact w_iret X.1 q hRt (nar_ret (by first | exact Or.inr (by decide) | omega)) (ax_d X (show cdA 98 117 = some (.ireturn, 1, 0, 0, 0) from rfl)) (Nat.zero_le _) (Nat.zero_le _) ⟨_, rfl, Is2014, Gs2014, hEA, JMSJ_s2014, 1, rfl, (by decide), (Or.inr ⟨rfl, fit_n jTMK (p := (p : Int).toNat) (by first | (clear g2005 hps2003; omega) | (clear hps2003; omega) | omega) hH1 hld (by first | (clear g2005 hps2003; omega) | (clear hps2003; omega) | omega)⟩)⟩
          ·
            have e8 : 93 + 10 * (p : Int).toNat = 123 := by first | (clear g2005 hps2003; omega) | (clear hps2003; omega) | omega
            rw [e8]
            refine z_const X rfl (z_const X rfl (zcV_i1 X E 123 (As := [.int (Int32.ofInt 0), .int (Int32.ofInt (-1))]) (st := []) rfl rfl rfl rfl (c0_loadAte3 G I jjTMK.1 jjTMK.2.1 jjEAJ.2.2.2.1.1 jjCDM jjEAJ.2.2.2.1.2 (by decide) (by decide)) rfl (Nat.le_of_ble_eq_true rfl) (fun s2018 e2019 Is2018 Fs2018 JHEHE3_s2018 hrs2018 hps2018 => ?_)))
            have Gs2018 := fm_tq F Fs2018 rfl rfl
            have JTMK_s2018 : TMK U S qn lj hj ft s2018 := TMK_fm Fs2018 (by decide) jjTMK
            have JMSJ_s2018 : MSJ U S qn s2018 := MSJ_fm Fs2018 (by decide) jjMSJ
            have JCDM_s2018 : CDM (uL U) (wyF U S (hitP U S qn)) (moK U S qn x) (uN U) s2018 := CDM_fm Fs2018 (by decide) jjCDM
            have ws2018_41 : iI s2018 41 = iI t 41 := fm_iq Fs2018 rfl
            have hEA : EAJ lj hj s2018 := eaj_up_3 jjEAJ Fs2018 JHEHE3_s2018
            have hld : e2019 = ldK9 U S qn (pfC s) x (p : Int).toNat := by rw [show (p : Int).toNat = 3 by first | (clear g2005 hps2003; omega) | (clear hps2003; omega) | omega]; exact ldk_of (k := x) (p := 3) jTMK (by decide) hrs2018 hps2018
            refine z_aload_n X (x := A 67) rfl (List.Mem.head _) (s_getR X 67 rfl (c518_ok rfl) rfl rfl (s_getR X 25 rfl (c518_ok rfl) rfl rfl (z_load_n X (x := p) rfl (List.Mem.tail _ (List.Mem.head _)) (z_ald X 29 rfl (c518_ok rfl) rfl (by first | exact hi.1 | omega) (show p < 8 by first | exact g2002 | omega) (cbig_ok rfl) ?_))))
            have b2020 := bc_24 Is2018 (show (p).toNat < 8 by first | exact oq_db4b3b8b g2002 | omega)
            have hlm : iC s2018 24 (p : Int).toNat = iC s 24 (p : Int).toNat := fm_c Gs2018 (by decide)
            refine z_icmp_le X (t := 118) rfl rfl hrs2018 (rng_to _) (fun g2021 => ?_) (fun g2021 => ?_)
            ·
              refine z_inc X (x := p) (lv' := [(2, .int (Int32.ofInt (p + 1))), (0, .ref (A 67))]) rfl (by decide) (List.Mem.tail _ (List.Mem.head _)) (fun _ h => h) (z_goto X (t := 76) rfl rfl (WS_pq [1, 0] (lv' := [(0, .ref (A 67)), (2, .int (Int32.ofInt (p + 1)))]) rfl ?_))
              exact ih _ (p + 1) Is2018 Gs2018 JTMK_s2018 hEA JMSJ_s2018 JCDM_s2018 (fitn_up hq (by first | (clear g2005 hps2003; omega) | (clear hps2003; omega) | omega) (fun _ => by show ldK9 U S qn (pfC s) x (p : Int).toNat ≤ iC s 24 (p : Int).toNat; omega)) (by first | exact ⟨oq_54f49eb5 hi.1, oq_0c7b19c3 g2002⟩ | omega) (by first | exact qk_me hm (by decide) (oq_9f368f35 g2002) | omega) kx
            ·
              refine z_const X rfl ?_
              exact w_iret X.1 q hRt (nar_ret (by first | exact Or.inr (by decide) | omega)) (ax_d X (show cdA 98 117 = some (.ireturn, 1, 0, 0, 0) from rfl)) (Nat.zero_le _) (Nat.zero_le _) ⟨_, rfl, Is2018, Gs2018, hEA, JMSJ_s2018, 1, rfl, (by decide), (Or.inr ⟨rfl, fit_n jTMK (p := (p : Int).toNat) (by first | (clear g2005 hps2003; omega) | (clear hps2003; omega) | omega) hH1 hld (by first | (clear g2005 hps2003; omega) | (clear hps2003; omega) | omega)⟩)⟩
          ·
            have e8 : 93 + 10 * (p : Int).toNat = 133 := by first | (clear g2005 hps2003; omega) | (clear hps2003; omega) | omega
            rw [e8]
            refine z_const X rfl (z_const X rfl (zcV_i1 X E 133 (As := [.int (Int32.ofInt 0), .int (Int32.ofInt (-1))]) (st := []) rfl rfl rfl rfl (c0_loadAte4 G I jjTMK.1 jjTMK.2.1 jjEAJ.2.2.2.2.1.1 jjCDM jjEAJ.2.2.2.2.1.2 (by decide) (by decide)) rfl (Nat.le_of_ble_eq_true rfl) (fun s2022 e2023 Is2022 Fs2022 JHEHE4_s2022 hrs2022 hps2022 => ?_)))
            have Gs2022 := fm_tq F Fs2022 rfl rfl
            have JTMK_s2022 : TMK U S qn lj hj ft s2022 := TMK_fm Fs2022 (by decide) jjTMK
            have JMSJ_s2022 : MSJ U S qn s2022 := MSJ_fm Fs2022 (by decide) jjMSJ
            have JCDM_s2022 : CDM (uL U) (wyF U S (hitP U S qn)) (moK U S qn x) (uN U) s2022 := CDM_fm Fs2022 (by decide) jjCDM
            have ws2022_41 : iI s2022 41 = iI t 41 := fm_iq Fs2022 rfl
            have hEA : EAJ lj hj s2022 := eaj_up_4 jjEAJ Fs2022 JHEHE4_s2022
            have hld : e2023 = ldK9 U S qn (pfC s) x (p : Int).toNat := by rw [show (p : Int).toNat = 4 by first | (clear g2005 hps2003; omega) | (clear hps2003; omega) | omega]; exact ldk_of (k := x) (p := 4) jTMK (by decide) hrs2022 hps2022
            refine z_aload_n X (x := A 67) rfl (List.Mem.head _) (s_getR X 67 rfl (c518_ok rfl) rfl rfl (s_getR X 25 rfl (c518_ok rfl) rfl rfl (z_load_n X (x := p) rfl (List.Mem.tail _ (List.Mem.head _)) (z_ald X 29 rfl (c518_ok rfl) rfl (by first | exact hi.1 | omega) (show p < 8 by first | exact g2002 | omega) (cbig_ok rfl) ?_))))
            have b2024 := bc_24 Is2022 (show (p).toNat < 8 by first | exact oq_db4b3b8b g2002 | omega)
            have hlm : iC s2022 24 (p : Int).toNat = iC s 24 (p : Int).toNat := fm_c Gs2022 (by decide)
            refine z_icmp_le X (t := 118) rfl rfl hrs2022 (rng_to _) (fun g2025 => ?_) (fun g2025 => ?_)
            ·
              refine z_inc X (x := p) (lv' := [(2, .int (Int32.ofInt (p + 1))), (0, .ref (A 67))]) rfl (by decide) (List.Mem.tail _ (List.Mem.head _)) (fun _ h => h) (z_goto X (t := 76) rfl rfl (WS_pq [1, 0] (lv' := [(0, .ref (A 67)), (2, .int (Int32.ofInt (p + 1)))]) rfl ?_))
              exact ih _ (p + 1) Is2022 Gs2022 JTMK_s2022 hEA JMSJ_s2022 JCDM_s2022 (fitn_up hq (by first | (clear g2005 hps2003; omega) | (clear hps2003; omega) | omega) (fun _ => by show ldK9 U S qn (pfC s) x (p : Int).toNat ≤ iC s 24 (p : Int).toNat; omega)) (by first | exact ⟨oq_54f49eb5 hi.1, oq_0c7b19c3 g2002⟩ | omega) (by first | exact qk_me hm (by decide) (oq_9f368f35 g2002) | omega) kx
            ·
              refine z_const X rfl ?_
              exact w_iret X.1 q hRt (nar_ret (by first | exact Or.inr (by decide) | omega)) (ax_d X (show cdA 98 117 = some (.ireturn, 1, 0, 0, 0) from rfl)) (Nat.zero_le _) (Nat.zero_le _) ⟨_, rfl, Is2022, Gs2022, hEA, JMSJ_s2022, 1, rfl, (by decide), (Or.inr ⟨rfl, fit_n jTMK (p := (p : Int).toNat) (by first | (clear g2005 hps2003; omega) | (clear hps2003; omega) | omega) hH1 hld (by first | (clear g2005 hps2003; omega) | (clear hps2003; omega) | omega)⟩)⟩
          ·
            have e8 : 93 + 10 * (p : Int).toNat = 143 := by first | (clear g2005 hps2003; omega) | (clear hps2003; omega) | omega
            rw [e8]
            refine z_const X rfl (z_const X rfl (zcV_i1 X E 143 (As := [.int (Int32.ofInt 0), .int (Int32.ofInt (-1))]) (st := []) rfl rfl rfl rfl (c0_loadAte5 G I jjTMK.1 jjTMK.2.1 jjEAJ.2.2.2.2.2.1.1 jjCDM jjEAJ.2.2.2.2.2.1.2 (by decide) (by decide)) rfl (Nat.le_of_ble_eq_true rfl) (fun s2026 e2027 Is2026 Fs2026 JHEHE5_s2026 hrs2026 hps2026 => ?_)))
            have Gs2026 := fm_tq F Fs2026 rfl rfl
            have JTMK_s2026 : TMK U S qn lj hj ft s2026 := TMK_fm Fs2026 (by decide) jjTMK
            have JMSJ_s2026 : MSJ U S qn s2026 := MSJ_fm Fs2026 (by decide) jjMSJ
            have JCDM_s2026 : CDM (uL U) (wyF U S (hitP U S qn)) (moK U S qn x) (uN U) s2026 := CDM_fm Fs2026 (by decide) jjCDM
            have ws2026_41 : iI s2026 41 = iI t 41 := fm_iq Fs2026 rfl
            have hEA : EAJ lj hj s2026 := eaj_up_5 jjEAJ Fs2026 JHEHE5_s2026
            have hld : e2027 = ldK9 U S qn (pfC s) x (p : Int).toNat := by rw [show (p : Int).toNat = 5 by first | (clear g2005 hps2003; omega) | (clear hps2003; omega) | omega]; exact ldk_of (k := x) (p := 5) jTMK (by decide) hrs2026 hps2026
            refine z_aload_n X (x := A 67) rfl (List.Mem.head _) (s_getR X 67 rfl (c518_ok rfl) rfl rfl (s_getR X 25 rfl (c518_ok rfl) rfl rfl (z_load_n X (x := p) rfl (List.Mem.tail _ (List.Mem.head _)) (z_ald X 29 rfl (c518_ok rfl) rfl (by first | exact hi.1 | omega) (show p < 8 by first | exact g2002 | omega) (cbig_ok rfl) ?_))))
            have b2028 := bc_24 Is2026 (show (p).toNat < 8 by first | exact oq_db4b3b8b g2002 | omega)
            have hlm : iC s2026 24 (p : Int).toNat = iC s 24 (p : Int).toNat := fm_c Gs2026 (by decide)
            refine z_icmp_le X (t := 118) rfl rfl hrs2026 (rng_to _) (fun g2029 => ?_) (fun g2029 => ?_)
            ·
              refine z_inc X (x := p) (lv' := [(2, .int (Int32.ofInt (p + 1))), (0, .ref (A 67))]) rfl (by decide) (List.Mem.tail _ (List.Mem.head _)) (fun _ h => h) (z_goto X (t := 76) rfl rfl (WS_pq [1, 0] (lv' := [(0, .ref (A 67)), (2, .int (Int32.ofInt (p + 1)))]) rfl ?_))
              exact ih _ (p + 1) Is2026 Gs2026 JTMK_s2026 hEA JMSJ_s2026 JCDM_s2026 (fitn_up hq (by first | (clear g2005 hps2003; omega) | (clear hps2003; omega) | omega) (fun _ => by show ldK9 U S qn (pfC s) x (p : Int).toNat ≤ iC s 24 (p : Int).toNat; omega)) (by first | exact ⟨oq_54f49eb5 hi.1, oq_0c7b19c3 g2002⟩ | omega) (by first | exact qk_me hm (by decide) (oq_9f368f35 g2002) | omega) kx
            ·
              refine z_const X rfl ?_
              exact w_iret X.1 q hRt (nar_ret (by first | exact Or.inr (by decide) | omega)) (ax_d X (show cdA 98 117 = some (.ireturn, 1, 0, 0, 0) from rfl)) (Nat.zero_le _) (Nat.zero_le _) ⟨_, rfl, Is2026, Gs2026, hEA, JMSJ_s2026, 1, rfl, (by decide), (Or.inr ⟨rfl, fit_n jTMK (p := (p : Int).toNat) (by first | (clear g2005 hps2003; omega) | (clear hps2003; omega) | omega) hH1 hld (by first | (clear g2005 hps2003; omega) | (clear hps2003; omega) | omega)⟩)⟩
          ·
            have e8 : 93 + 10 * (p : Int).toNat = 153 := by first | (clear g2005 hps2003; omega) | (clear hps2003; omega) | omega
            rw [e8]
            refine z_const X rfl (z_const X rfl (zcV_i1 X E 153 (As := [.int (Int32.ofInt 0), .int (Int32.ofInt (-1))]) (st := []) rfl rfl rfl rfl (c0_loadAte6 G I jjTMK.1 jjTMK.2.1 jjEAJ.2.2.2.2.2.2.1.1 jjCDM jjEAJ.2.2.2.2.2.2.1.2 (by decide) (by decide)) rfl (Nat.le_of_ble_eq_true rfl) (fun s2030 e2031 Is2030 Fs2030 JHEHE6_s2030 hrs2030 hps2030 => ?_)))
            have Gs2030 := fm_tq F Fs2030 rfl rfl
            have JTMK_s2030 : TMK U S qn lj hj ft s2030 := TMK_fm Fs2030 (by decide) jjTMK
            have JMSJ_s2030 : MSJ U S qn s2030 := MSJ_fm Fs2030 (by decide) jjMSJ
            have JCDM_s2030 : CDM (uL U) (wyF U S (hitP U S qn)) (moK U S qn x) (uN U) s2030 := CDM_fm Fs2030 (by decide) jjCDM
            have ws2030_41 : iI s2030 41 = iI t 41 := fm_iq Fs2030 rfl
            have hEA : EAJ lj hj s2030 := eaj_up_6 jjEAJ Fs2030 JHEHE6_s2030
            have hld : e2031 = ldK9 U S qn (pfC s) x (p : Int).toNat := by rw [show (p : Int).toNat = 6 by first | (clear g2005 hps2003; omega) | (clear hps2003; omega) | omega]; exact ldk_of (k := x) (p := 6) jTMK (by decide) hrs2030 hps2030
            refine z_aload_n X (x := A 67) rfl (List.Mem.head _) (s_getR X 67 rfl (c518_ok rfl) rfl rfl (s_getR X 25 rfl (c518_ok rfl) rfl rfl (z_load_n X (x := p) rfl (List.Mem.tail _ (List.Mem.head _)) (z_ald X 29 rfl (c518_ok rfl) rfl (by first | exact hi.1 | omega) (show p < 8 by first | exact g2002 | omega) (cbig_ok rfl) ?_))))
            have b2032 := bc_24 Is2030 (show (p).toNat < 8 by first | exact oq_db4b3b8b g2002 | omega)
            have hlm : iC s2030 24 (p : Int).toNat = iC s 24 (p : Int).toNat := fm_c Gs2030 (by decide)
            refine z_icmp_le X (t := 118) rfl rfl hrs2030 (rng_to _) (fun g2033 => ?_) (fun g2033 => ?_)
            ·
              refine z_inc X (x := p) (lv' := [(2, .int (Int32.ofInt (p + 1))), (0, .ref (A 67))]) rfl (by decide) (List.Mem.tail _ (List.Mem.head _)) (fun _ h => h) (z_goto X (t := 76) rfl rfl (WS_pq [1, 0] (lv' := [(0, .ref (A 67)), (2, .int (Int32.ofInt (p + 1)))]) rfl ?_))
              exact ih _ (p + 1) Is2030 Gs2030 JTMK_s2030 hEA JMSJ_s2030 JCDM_s2030 (fitn_up hq (by first | (clear g2005 hps2003; omega) | (clear hps2003; omega) | omega) (fun _ => by show ldK9 U S qn (pfC s) x (p : Int).toNat ≤ iC s 24 (p : Int).toNat; omega)) (by first | exact ⟨oq_54f49eb5 hi.1, oq_0c7b19c3 g2002⟩ | omega) (by first | exact qk_me hm (by decide) (oq_9f368f35 g2002) | omega) kx
            ·
              refine z_const X rfl ?_
              exact w_iret X.1 q hRt (nar_ret (by first | exact Or.inr (by decide) | omega)) (ax_d X (show cdA 98 117 = some (.ireturn, 1, 0, 0, 0) from rfl)) (Nat.zero_le _) (Nat.zero_le _) ⟨_, rfl, Is2030, Gs2030, hEA, JMSJ_s2030, 1, rfl, (by decide), (Or.inr ⟨rfl, fit_n jTMK (p := (p : Int).toNat) (by first | (clear g2005 hps2003; omega) | (clear hps2003; omega) | omega) hH1 hld (by first | (clear g2005 hps2003; omega) | (clear hps2003; omega) | omega)⟩)⟩
          ·
            have e8 : 93 + 10 * (p : Int).toNat = 163 := by first | (clear g2005 hps2003; omega) | (clear hps2003; omega) | omega
            rw [e8]
            refine z_const X rfl (z_const X rfl (zcV_i1 X E 163 (As := [.int (Int32.ofInt 0), .int (Int32.ofInt (-1))]) (st := []) rfl rfl rfl rfl (c0_loadAte7 G I jjTMK.1 jjTMK.2.1 jjEAJ.2.2.2.2.2.2.2.1 jjCDM jjEAJ.2.2.2.2.2.2.2.2 (by decide) (by decide)) rfl (Nat.le_of_ble_eq_true rfl) (fun s2034 e2035 Is2034 Fs2034 JHEHE7_s2034 hrs2034 hps2034 => ?_)))
            have Gs2034 := fm_tq F Fs2034 rfl rfl
            have JTMK_s2034 : TMK U S qn lj hj ft s2034 := TMK_fm Fs2034 (by decide) jjTMK
            have JMSJ_s2034 : MSJ U S qn s2034 := MSJ_fm Fs2034 (by decide) jjMSJ
            have JCDM_s2034 : CDM (uL U) (wyF U S (hitP U S qn)) (moK U S qn x) (uN U) s2034 := CDM_fm Fs2034 (by decide) jjCDM
            have ws2034_41 : iI s2034 41 = iI t 41 := fm_iq Fs2034 rfl
            have hEA : EAJ lj hj s2034 := eaj_up_7 jjEAJ Fs2034 JHEHE7_s2034
            have hld : e2035 = ldK9 U S qn (pfC s) x (p : Int).toNat := by rw [show (p : Int).toNat = 7 by first | (clear g2005 hps2003; omega) | (clear hps2003; omega) | omega]; exact ldk_of (k := x) (p := 7) jTMK (by decide) hrs2034 hps2034
            refine z_aload_n X (x := A 67) rfl (List.Mem.head _) (s_getR X 67 rfl (c518_ok rfl) rfl rfl (s_getR X 25 rfl (c518_ok rfl) rfl rfl (z_load_n X (x := p) rfl (List.Mem.tail _ (List.Mem.head _)) (z_ald X 29 rfl (c518_ok rfl) rfl (by first | exact hi.1 | omega) (show p < 8 by first | exact g2002 | omega) (cbig_ok rfl) ?_))))
            have b2036 := bc_24 Is2034 (show (p).toNat < 8 by first | exact oq_db4b3b8b g2002 | omega)
            have hlm : iC s2034 24 (p : Int).toNat = iC s 24 (p : Int).toNat := fm_c Gs2034 (by decide)
            refine z_icmp_le X (t := 118) rfl rfl hrs2034 (rng_to _) (fun g2037 => ?_) (fun g2037 => ?_)
            ·
              refine z_inc X (x := p) (lv' := [(2, .int (Int32.ofInt (p + 1))), (0, .ref (A 67))]) rfl (by decide) (List.Mem.tail _ (List.Mem.head _)) (fun _ h => h) (z_goto X (t := 76) rfl rfl (WS_pq [1, 0] (lv' := [(0, .ref (A 67)), (2, .int (Int32.ofInt (p + 1)))]) rfl ?_))
              exact ih _ (p + 1) Is2034 Gs2034 JTMK_s2034 hEA JMSJ_s2034 JCDM_s2034 (fitn_up hq (by first | (clear g2005 hps2003; omega) | (clear hps2003; omega) | omega) (fun _ => by show ldK9 U S qn (pfC s) x (p : Int).toNat ≤ iC s 24 (p : Int).toNat; omega)) (by first | exact ⟨oq_54f49eb5 hi.1, oq_0c7b19c3 g2002⟩ | omega) (by first | exact qk_me hm (by decide) (oq_9f368f35 g2002) | omega) kx
            ·
              refine z_const X rfl ?_
              exact w_iret X.1 q hRt (nar_ret (by first | exact Or.inr (by decide) | omega)) (ax_d X (show cdA 98 117 = some (.ireturn, 1, 0, 0, 0) from rfl)) (Nat.zero_le _) (Nat.zero_le _) ⟨_, rfl, Is2034, Gs2034, hEA, JMSJ_s2034, 1, rfl, (by decide), (Or.inr ⟨rfl, fit_n jTMK (p := (p : Int).toNat) (by first | (clear g2005 hps2003; omega) | (clear hps2003; omega) | omega) hH1 hld (by first | (clear g2005 hps2003; omega) | (clear hps2003; omega) | omega)⟩)⟩
  refine z_const X rfl (z_store_n X (lv' := [(2, .int (Int32.ofInt 0)), (0, .ref (A 67)), (1, .int (Int32.ofInt x))]) rfl (by decide) (fun _ h => h) (WS_pq [1, 2, 0] (lv' := [(0, .ref (A 67)), (1, .int (Int32.ofInt x)), (2, .int (Int32.ofInt 0))]) rfl (L2 ((8 - 0 : Int).toNat + 1) s x 0 I F jTMK jEAJ (mkq9_0 jMSJ) (by first | exact ⟨And.intro (by decide) (And.intro (p0.1) (p0.2)), And.intro (by decide) (b1.1), p1, by decide⟩ | omega) (Nat.lt_succ_self _) ?_)))
  intro s2 x3 Is2 Fs2 JTMK_s2 JEAJ_s2 Qs2 hs2
  have b4 := bi_41 Is2
  have hCD : CDM (uL U) (wyF U S (hitP U S qn)) (moK U S qn x) (uN U) s2 := mkq9_e Qs2 JTMK_s2.2.2.2.2.1 (by omega)
  refine z_const X rfl (z_store_n X (lv' := [(2, .int (Int32.ofInt 0)), (0, .ref (A 67)), (1, .int (Int32.ofInt x))]) rfl (by decide) (fun _ h => h) (WS_pq [1, 0] (lv' := [(0, .ref (A 67)), (2, .int (Int32.ofInt 0))]) rfl (L76 ((8 - 0 : Int).toNat + 1) s2 0 Is2 Fs2 JTMK_s2 JEAJ_s2 Qs2.2 hCD (fun p hp => absurd hp (by omega)) (by first | exact ⟨by decide, by decide⟩ | omega) (Nat.lt_succ_self _) ?_)))
  intro s5 x6 Is5 Fs5 JTMK_s5 JEAJ_s5 JMSJ_s5 JCDM_s5 Qs5 hs5
  have b7 := bi_41 Is5
  refine z_const X rfl ?_
  exact w_iret X.1 q hRt (nar_ret (by first | exact Or.inl (by decide) | omega)) (ax_d X (show cdA 98 125 = some (.ireturn, 1, 0, 0, 0) from rfl)) (Nat.zero_le _) (Nat.zero_le _) ⟨_, rfl, Is5, Fs5, JEAJ_s5, JMSJ_s5, 0, rfl, (by decide), (Or.inl ⟨rfl, fit_y jTMK Qs5 (by omega)⟩)⟩
set_option maxRecDepth 4000 in
theorem c8_fits9 (G : GX l s0 D tys a0 dT) {U : AirD} {S : Int → Prop} {qn : Nat} {lj hj : Nat → Int64} {ft : Int → Prop} (I : Bd s) (jTMK : TMK U S qn lj hj ft s) (jEAJ : EAJ lj hj s) (jMSJ : MSJ U S qn s) (jKNJ : KNJ ft s) {x : Int} (p0 : 0 ≤ x ∧ x ≤ 255) (p1 : iI s 41 ≤ 8) : CT l s0 D A dT 97 (rmN 97) [.ref (A 67), .int (Int32.ofInt x)] s (fun o t => Bd t ∧ Fm [] [67, 20, 76, 87, 96, 105, 114, 123, 132, 141, 150] s t ∧ EAJ lj hj t ∧ MSJ U S qn t ∧ KNJ ft t ∧ ∃ e, o = .inl (some (.int (Int32.ofInt e))) ∧ rng e ∧ ((e = 1 ∧ ft x) ∨ (e = 0 ∧ ¬ ft x))) := by
  refine ct_ofX G (by decide) (Nat.le_of_ble_eq_true rfl) (fun k X E ET hRt hXt q => ?_)
  show WS k 0 [(0, .ref (A 67)), (1, .int (Int32.ofInt x))] [] _ 0 0
  have F : Fm [] [67, 20, 76, 87, 96, 105, 114, 123, 132, 141, 150] s s := fm_rf _ _ s
  refine z_aload_n X (x := A 67) rfl (List.Mem.head _) (s_getR X 67 rfl (c518_ok rfl) rfl rfl (z_load_n X (x := x) rfl (List.Mem.tail _ (List.Mem.head _)) (z_ald X 89 rfl (c518_ok rfl) rfl (by first | exact p0.1 | omega) (show x < 256 by first | exact oq_29e5dbe2 p0.2 | omega) (cbig_ok rfl) ?_)))
  have b1 := bc_76 I (show (x).toNat < 256 by first | exact oq_c39a26fc p0.2 | omega)
  refine z_if_ne X (t := 28) rfl rfl (rng_to _) (fun g2 => ?_) (fun g2 => ?_)
  ·
    refine z_aload_n X (x := A 67) rfl (List.Mem.head _) (s_getR X 67 rfl (c518_ok rfl) rfl rfl (z_load_n X (x := x) rfl (List.Mem.tail _ (List.Mem.head _)) (z_ald X 89 rfl (c518_ok rfl) rfl (by first | exact p0.1 | omega) (show x < 256 by first | exact oq_29e5dbe2 p0.2 | omega) (cbig_ok rfl) ?_)))
    have b3 := bc_76 I (show (x).toNat < 256 by first | exact oq_c39a26fc p0.2 | omega)
    refine z_const X rfl (z_icmp_ne X (t := 42) rfl rfl (rng_to _) (by decide) (fun g4 => ?_) (fun g4 => ?_))
    ·
      refine z_const X rfl ?_
      exact w_iret X.1 q hRt (nar_ret (by first | exact Or.inl (by decide) | omega)) (ax_d X (show cdA 97 43 = some (.ireturn, 1, 0, 0, 0) from rfl)) (Nat.zero_le _) (Nat.zero_le _) ⟨_, rfl, I, F, jEAJ, jMSJ, jKNJ, 0, rfl, (by decide), (Or.inr ⟨rfl, kn_2 jKNJ (by first | (clear g4 g2; omega) | (clear g2; omega) | omega) (by first | (clear g4 g2; omega) | (clear g2; omega) | omega) (by first | (clear g4 g2; omega) | (clear g2; omega) | omega)⟩)⟩
    ·
      refine z_const X rfl (z_goto X (t := 43) rfl rfl ?_)
      exact w_iret X.1 q hRt (nar_ret (by first | exact Or.inr (by decide) | omega)) (ax_d X (show cdA 97 43 = some (.ireturn, 1, 0, 0, 0) from rfl)) (Nat.zero_le _) (Nat.zero_le _) ⟨_, rfl, I, F, jEAJ, jMSJ, jKNJ, 1, rfl, (by decide), (Or.inl ⟨rfl, kn_1 jKNJ (by first | (clear g2; omega) | omega) (by first | (clear g2; omega) | omega)⟩)⟩
  ·
    refine z_aload_n X (x := A 67) rfl (List.Mem.head _) (s_getR X 67 rfl (c518_ok rfl) rfl rfl (z_load_n X (x := x) rfl (List.Mem.tail _ (List.Mem.head _)) (z_aload_n X (x := A 67) rfl (List.Mem.head _) (z_load_n X (x := x) rfl (List.Mem.tail _ (List.Mem.head _)) (zcV_i2 X E 67 (As := [.int (Int32.ofInt x)]) (st := [.int (Int32.ofInt x), .ref (A 89)]) rfl rfl rfl rfl (c8_any9 G I jTMK jEAJ jMSJ (by first | exact ⟨p0.1, p0.2⟩ | omega) (by first | exact p1 | omega)) rfl (Nat.le_of_ble_eq_true rfl) (fun s5 e6 Is5 Fs5 JEAJ_s5 JMSJ_s5 hrs5 hps5 => ?_))))))
    have Gs5 := fm_tq F Fs5 rfl rfl
    have JKNJ_s5 : KNJ ft s5 := KNJ_fm Fs5 (by decide) jKNJ
    refine z_if_eq X (t := 26) rfl rfl hrs5 (fun g7 => ?_) (fun g7 => ?_)
    ·
      have hf : ft x := (hps5).elim (fun z => z.2) (fun z => absurd z.1 (by first | (clear hps5; omega) | omega))
      refine z_const X rfl (z_ast X 89 rfl (c518_ok rfl) rfl (by first | exact p0.1 | omega) (show x < 256 by first | exact oq_29e5dbe2 p0.2 | omega) (cbig_ok rfl) (wd_gen (fun s8 hs8 => ?_)))
      have Is8 : Bd s8 := eqB hs8 (bd_C Is5 (show ((-2147483648) : Int) ≤ 1 ∧ 1 ≤ 2147483647 by first | exact ⟨by decide, by decide⟩ | omega) (by decide))
      have Fs8 := eqF hs8 (fm_C Gs5 (inl_ok (a := 76) rfl))
      have aws8_76 : UPD 76 (x) 1 s5 s8 := by rw [hs8]; exact upd_put (sam_rf (a := 76) (s := s5)) (by decide)
      have fs8 : Fm [] [76] s5 s8 := by rw [hs8]; exact fm_C (fm_rf _ _ _) (show 76 ∈ _ by decide)
      have JEAJ_s8 : EAJ lj hj s8 := EAJ_fm fs8 (by decide) JEAJ_s5
      have JMSJ_s8 : MSJ U S qn s8 := MSJ_fm fs8 (by decide) JMSJ_s5
      have hKN : KNJ ft s8 := knj_up JKNJ_s5 aws8_76 (by first | (clear hps5; omega) | omega) (Or.inl ⟨rfl, hf⟩)
      have hk1 := (aws8_76).1
      refine z_aload_n X (x := A 67) rfl (List.Mem.head _) (s_getR X 67 rfl (c518_ok rfl) rfl rfl (z_load_n X (x := x) rfl (List.Mem.tail _ (List.Mem.head _)) (z_ald X 89 rfl (c518_ok rfl) rfl (by first | exact p0.1 | omega) (show x < 256 by first | exact oq_29e5dbe2 p0.2 | omega) (cbig_ok rfl) ?_)))
      have b9 := bc_76 Is8 (show (x).toNat < 256 by first | exact oq_c39a26fc p0.2 | omega)
      refine z_const X rfl (z_icmp_ne X (t := 42) rfl rfl (rng_to _) (by decide) (fun g10 => ?_) (fun g10 => ?_))
      ·
        refine z_const X rfl ?_
        exact w_iret X.1 q hRt (nar_ret (by first | exact Or.inl (by decide) | omega)) (ax_d X (show cdA 97 43 = some (.ireturn, 1, 0, 0, 0) from rfl)) (Nat.zero_le _) (Nat.zero_le _) ⟨_, rfl, Is8, Fs8, JEAJ_s8, JMSJ_s8, hKN, 0, rfl, (by decide), (Or.inr ⟨rfl, kn_2 hKN (by first | (clear g10 hps5; omega) | (clear hps5; omega) | omega) (by first | (clear g10 hps5; omega) | (clear hps5; omega) | omega) (by first | (clear g10 hps5; omega) | (clear hps5; omega) | omega)⟩)⟩
      ·
        refine z_const X rfl (z_goto X (t := 43) rfl rfl ?_)
        exact w_iret X.1 q hRt (nar_ret (by first | exact Or.inr (by decide) | omega)) (ax_d X (show cdA 97 43 = some (.ireturn, 1, 0, 0, 0) from rfl)) (Nat.zero_le _) (Nat.zero_le _) ⟨_, rfl, Is8, Fs8, JEAJ_s8, JMSJ_s8, hKN, 1, rfl, (by decide), (Or.inl ⟨rfl, kn_1 hKN (by first | (clear hps5; omega) | omega) (by first | (clear hps5; omega) | omega)⟩)⟩
    ·
      have hnf : ¬ ft x := (hps5).elim (fun z => absurd z.1 (by first | (clear g7 hps5; omega) | (clear hps5; omega) | omega)) (fun z => z.2)
      refine z_const X rfl (z_goto X (t := 27) rfl rfl (z_ast X 89 rfl (c518_ok rfl) rfl (by first | exact p0.1 | omega) (show x < 256 by first | exact oq_29e5dbe2 p0.2 | omega) (cbig_ok rfl) (wd_gen (fun s11 hs11 => ?_))))
      have Is11 : Bd s11 := eqB hs11 (bd_C Is5 (show ((-2147483648) : Int) ≤ 2 ∧ 2 ≤ 2147483647 by first | exact ⟨by decide, by decide⟩ | omega) (by decide))
      have Fs11 := eqF hs11 (fm_C Gs5 (inl_ok (a := 76) rfl))
      have aws11_76 : UPD 76 (x) 2 s5 s11 := by rw [hs11]; exact upd_put (sam_rf (a := 76) (s := s5)) (by decide)
      have fs11 : Fm [] [76] s5 s11 := by rw [hs11]; exact fm_C (fm_rf _ _ _) (show 76 ∈ _ by decide)
      have JEAJ_s11 : EAJ lj hj s11 := EAJ_fm fs11 (by decide) JEAJ_s5
      have JMSJ_s11 : MSJ U S qn s11 := MSJ_fm fs11 (by decide) JMSJ_s5
      have hKN : KNJ ft s11 := knj_up JKNJ_s5 aws11_76 (by first | (clear g7 hps5; omega) | (clear hps5; omega) | omega) (Or.inr ⟨rfl, hnf⟩)
      have hk1 := (aws11_76).1
      refine z_aload_n X (x := A 67) rfl (List.Mem.head _) (s_getR X 67 rfl (c518_ok rfl) rfl rfl (z_load_n X (x := x) rfl (List.Mem.tail _ (List.Mem.head _)) (z_ald X 89 rfl (c518_ok rfl) rfl (by first | exact p0.1 | omega) (show x < 256 by first | exact oq_29e5dbe2 p0.2 | omega) (cbig_ok rfl) ?_)))
      have b12 := bc_76 Is11 (show (x).toNat < 256 by first | exact oq_c39a26fc p0.2 | omega)
      refine z_const X rfl (z_icmp_ne X (t := 42) rfl rfl (rng_to _) (by decide) (fun g13 => ?_) (fun g13 => ?_))
      ·
        refine z_const X rfl ?_
        exact w_iret X.1 q hRt (nar_ret (by first | exact Or.inl (by decide) | omega)) (ax_d X (show cdA 97 43 = some (.ireturn, 1, 0, 0, 0) from rfl)) (Nat.zero_le _) (Nat.zero_le _) ⟨_, rfl, Is11, Fs11, JEAJ_s11, JMSJ_s11, hKN, 0, rfl, (by decide), (Or.inr ⟨rfl, kn_2 hKN (by first | (clear g13 g7 hps5; omega) | (clear g7 hps5; omega) | omega) (by first | (clear g13 g7 hps5; omega) | (clear g7 hps5; omega) | omega) (by first | (clear g13 g7 hps5; omega) | (clear g7 hps5; omega) | omega)⟩)⟩
      ·
        refine z_const X rfl (z_goto X (t := 43) rfl rfl ?_)
        exact w_iret X.1 q hRt (nar_ret (by first | exact Or.inr (by decide) | omega)) (ax_d X (show cdA 97 43 = some (.ireturn, 1, 0, 0, 0) from rfl)) (Nat.zero_le _) (Nat.zero_le _) ⟨_, rfl, Is11, Fs11, JEAJ_s11, JMSJ_s11, hKN, 1, rfl, (by decide), (Or.inl ⟨rfl, kn_1 hKN (by first | (clear g7 hps5; omega) | (clear hps5; omega) | omega) (by first | (clear g7 hps5; omega) | (clear hps5; omega) | omega)⟩)⟩
set_option maxRecDepth 4000 in
theorem c8_try90 (G : GX l s0 D tys a0 dT) {U : AirD} {S : Int → Prop} {qn : Nat} {lj hj : Nat → Int64} {ft : Int → Prop} {B : MdO} (I : Bd s) (jTMK : TMK U S qn lj hj ft s) (jEAJ : EAJ lj hj s) (jMSJ : MSJ U S qn s) (jKNJ : KNJ ft s) {x y z w v : Int} (p0 : 0 ≤ x ∧ x ≤ iI s 41) (p1 : iI s 41 - x ≤ ((0 : Nat) : Int)) (p2 : iI s 41 ≤ 8) (p3 : 0 ≤ y ∧ y ≤ 3000 * x) (p4 : 0 ≤ z ∧ z ≤ 8) (p5 : 0 ≤ w ∧ w ≤ 8) (p6 : 0 ≤ v ∧ v ≤ 255) (p7 : TRP B x v s) : CT l s0 D A dT 96 (rkR (30 + (0))) [.ref (A 67), .int (Int32.ofInt x), .int (Int32.ofInt y), .int (Int32.ofInt z), .int (Int32.ofInt w), .int (Int32.ofInt v)] s (fun o t => Bd t ∧ Fm [42] [67, 20, 76, 74, 75, 87, 96, 105, 114, 123, 132, 141, 150] s t ∧ EAJ lj hj t ∧ MSJ U S qn t ∧ KNJ ft t ∧ o = .inl none ∧ (TRQ ft B x y z w s t)) := by
  refine ct_ofX G (by decide) (Nat.le_of_ble_eq_true rfl) (fun k X E ET hRt hXt q => ?_)
  show WS k 0 [(0, .ref (A 67)), (1, .int (Int32.ofInt x)), (2, .int (Int32.ofInt y)), (3, .int (Int32.ofInt z)), (4, .int (Int32.ofInt w)), (5, .int (Int32.ofInt v))] [] _ 0 0
  have F : Fm [42] [67, 20, 76, 74, 75, 87, 96, 105, 114, 123, 132, 141, 150] s s := fm_rf _ _ s
  have aw0_74 : SAM 74 s s := sam_rf
  have aw0_75 : SAM 75 s s := sam_rf
  have b1 := bi_41 I
  have b2 := bi_42 I
  refine z_load_n X (x := y) rfl (List.Mem.tail _ (List.Mem.tail _ (List.Mem.head _))) (z_aload_n X (x := A 67) rfl (List.Mem.head _) (z_getI X 67 rfl (c518_ok rfl) rfl rfl ?_))
  have b3 := bi_42 I
  refine z_icmp_lt X (t := 9) rfl rfl ⟨by first | exact oq_fa4e5087 p3.1 | omega, by first | exact oq_1b20a017 p3.2 p0.2 b1.2 | omega⟩ (rng_to _) (fun g4 => ?_) (fun g4 => ?_)
  ·
    refine z_load_n X (x := x) rfl (List.Mem.tail _ (List.Mem.head _)) (z_aload_n X (x := A 67) rfl (List.Mem.head _) (z_getI X 67 rfl (c518_ok rfl) rfl rfl ?_))
    have b5 := bi_41 I
    refine z_icmp_lt X (t := 49) rfl rfl ⟨by first | exact oq_fa4e5087 p0.1 | omega, by first | exact oq_39d2cc6e p0.2 b5.2 | omega⟩ (rng_to _) (fun g6 => ?_) (fun g6 => ?_)
    ·
      exfalso
      omega
    ·
      refine z_aload_n X (x := A 67) rfl (List.Mem.head _) (z_load X (x := v) rfl (List.Mem.tail _ (List.Mem.tail _ (List.Mem.tail _ (List.Mem.tail _ (List.Mem.tail _ (List.Mem.head _)))))) (z_callV X 67 (rm := rmN 97) (As := [.int (Int32.ofInt v)]) (st := []) rfl rfl (by decide) rfl (by rw [E.1, E.2.1, E.2.2.1]; exact c8_fits9 G I jTMK jEAJ jMSJ jKNJ (by first | exact ⟨p6.1, p6.2⟩ | omega) (by first | exact p2 | omega)) ⟨by rw [E.2.2.2]; exact (show 10 + 1 ≤ (12 + (30 + (0))) from oq_c3e2e0a8), by rw [E.2.2.2]; exact (show 8 + (2 + 11) + 195 ≤ (500 + 45 * (30 + (0))) from oq_a90377cd), by rw [E.2.2.2]; exact Nat.le_refl 0, by rw [E.2.2.2]; exact Nat.le_refl 0⟩ (Nat.le_of_ble_eq_true rfl) (fun vv s7 hq => ?_) (fun ee s7 hq => ?_)))
      rotate_left
      · obtain ⟨Is7, Fs7, JEAJ_s7, JMSJ_s7, JKNJ_s7, e8, hv, hrs7, hps7⟩ := hq; cases hv
      obtain ⟨Is7, Fs7, JEAJ_s7, JMSJ_s7, JKNJ_s7, e8, hv, hrs7, hps7⟩ := hq
      cases hv
      have Gs7 := fm_tq F Fs7 rfl rfl
      have ws7_41 : iI s7 41 = iI s 41 := fm_iq Fs7 rfl
      have ws7_42 : iI s7 42 = iI s 42 := fm_iq Fs7 rfl
      have aws7_74 : SAM 74 s s7 := sam_ts aw0_74 (sam_fm Fs7 (by decide))
      have aws7_75 : SAM 75 s s7 := sam_ts aw0_75 (sam_fm Fs7 (by decide))
      show WS k 23 [(0, .ref (A 67)), (1, .int (Int32.ofInt x)), (2, .int (Int32.ofInt y)), (3, .int (Int32.ofInt z)), (4, .int (Int32.ofInt w)), (5, .int (Int32.ofInt v))] [.int (Int32.ofInt e8)] (Wd A dT s7) 0 0
      refine z_if_eq X (t := 48) rfl rfl hrs7 (fun g9 => ?_) (fun g9 => ?_)
      ·
        exact w_vret X.1 q hRt (ax_d X (show cdA 96 48 = some (.return_, 1, 0, 0, 0) from rfl)) (Nat.zero_le _) (Nat.zero_le _) ⟨_, rfl, Is7, Gs7, JEAJ_s7, JMSJ_s7, JKNJ_s7, rfl, (trq_0 p7 (by first | (clear hps7; omega) | omega) ((hps7).elim (fun z => absurd z.1 (by first | (clear hps7; omega) | omega)) (fun z => z.2)) (fm_i Fs7 (by decide)) (sam_fm Fs7 (by decide)) (sam_fm Fs7 (by decide)))⟩
      ·
        refine z_aload_n X (x := A 67) rfl (List.Mem.head _) (z_load_n X (x := y) rfl (List.Mem.tail _ (List.Mem.tail _ (List.Mem.head _))) (s_putI X 67 rfl (c518_ok rfl) rfl rfl (by decide) rfl rfl rfl (wd_gen (fun s10 hs10 => ?_))))
        have Is10 : Bd s10 := eqB hs10 (bd_I Is7 (show ((-2147483648) : Int) ≤ y ∧ y ≤ 2147483647 by first | exact ⟨oq_fa4e5087 p3.1, oq_ef392b12 g4 b3.2⟩ | omega) ⟨by first | exact oq_fa4e5087 p3.1 | omega, by first | exact oq_ef392b12 g4 b3.2 | omega⟩)
        have Fs10 := eqF hs10 (fm_I Gs7 (inl_ok (a := 42) rfl))
        have vs10 : iI s10 42 = y := eqI hs10 (iI_u ⟨by first | exact oq_fa4e5087 p3.1 | omega, by first | exact oq_ef392b12 g4 b3.2 | omega⟩)
        have ws10_41 : iI s10 41 = iI s7 41 := eqI hs10 rfl
        have aws10_74 : SAM 74 s s10 := by rw [hs10]; exact aws7_74
        have aws10_75 : SAM 75 s s10 := by rw [hs10]; exact aws7_75
        have fs10 : Fm [42] [] s7 s10 := by rw [hs10]; exact fm_I (fm_rf _ _ _) (show 42 ∈ _ by decide)
        have JEAJ_s10 : EAJ lj hj s10 := EAJ_fm fs10 (by decide) JEAJ_s7
        have JMSJ_s10 : MSJ U S qn s10 := MSJ_fm fs10 (by decide) JMSJ_s7
        have JKNJ_s10 : KNJ ft s10 := KNJ_fm fs10 (by decide) JKNJ_s7
        refine z_aload_n X (x := A 67) rfl (List.Mem.head _) (s_getR X 67 rfl (c518_ok rfl) rfl rfl (z_const X rfl (z_aload_n X (x := A 67) rfl (List.Mem.head _) (s_getR X 67 rfl (c518_ok rfl) rfl rfl (z_const X rfl (z_aload_n X (x := A 67) rfl (List.Mem.head _) (z_getI X 67 rfl (c518_ok rfl) rfl rfl ?_)))))))
        have b11 := bi_41 Is10
        refine z_copyF X Is10 87 88 (st := []) rfl (by decide) (by decide) rfl rfl (by first | (clear g9 hps7; omega) | (clear hps7; omega) | omega) (by first | (clear g9 hps7; omega) | (clear hps7; omega) | omega) (by first | (clear g9 hps7; omega) | (clear hps7; omega) | omega) (show 0 + (iI s10 41) ≤ ((8 : Nat) : Int) by first | (clear g9 hps7; omega) | (clear hps7; omega) | omega) (show 0 + (iI s10 41) ≤ ((8 : Nat) : Int) by first | (clear g9 hps7; omega) | (clear hps7; omega) | omega) (by decide) (by rw [E.2.2.2]; exact (show 1 ≤ (12 + (30 + (0))) by decide)) (by rw [E.2.2.2]; exact (show 0 + 40 ≤ (500 + 45 * (30 + (0))) by decide)) (fun s12 Is12 Fs12 cs12 => ?_)
        have Gs12 := fm_tq Fs10 Fs12 rfl rfl
        have JEAJ_s12 : EAJ lj hj s12 := EAJ_fm Fs12 (by decide) JEAJ_s10
        have JMSJ_s12 : MSJ U S qn s12 := MSJ_fm Fs12 (by decide) JMSJ_s10
        have JKNJ_s12 : KNJ ft s12 := KNJ_fm Fs12 (by decide) JKNJ_s10
        have aws12_74 : SAM 74 s s12 := sam_ts aws10_74 (sam_fm Fs12 (by decide))
        have ws12_41 : iI s12 41 = iI s10 41 := fm_iq Fs12 rfl
        have ws12_42 : iI s12 42 = iI s10 42 := fm_iq Fs12 rfl
        exact w_vret X.1 q hRt (ax_d X (show cdA 96 48 = some (.return_, 1, 0, 0, 0) from rfl)) (Nat.zero_le _) (Nat.zero_le _) ⟨_, rfl, Is12, Gs12, JEAJ_s12, JMSJ_s12, JKNJ_s12, rfl, (trq_1 p7 (by first | (clear g9 hps7; omega) | (clear hps7; omega) | omega) ((hps7).elim (fun z => z.2) (fun z => absurd z.1 (by first | (clear g9 hps7; omega) | (clear hps7; omega) | omega))) (bss_g p7.1 (by first | (clear g9 hps7; omega) | (clear hps7; omega) | omega) (by first | (clear g9 hps7; omega) | (clear hps7; omega) | omega)) (by first | (clear g9 hps7; omega) | (clear hps7; omega) | omega) (by first | (clear g9 hps7; omega) | (clear hps7; omega) | omega) (fun j hj => by have w9 : j < (iI s 41).toNat := hj; have zz := cs12 j (by first | (clear g9 hps7; omega) | (clear hps7; omega) | omega); rw [if_pos (by first | (clear g9 hps7; omega) | (clear hps7; omega) | omega), show (0 : Int).toNat + (j - (0 : Int).toNat) = j by first | (clear g9 hps7; omega) | (clear hps7; omega) | omega] at zz; exact zz.trans ((show iC s10 74 j = iC s7 74 j by rw [hs10]; rfl).trans (fm_c Fs7 (by decide)))) (fun j => (show iC s12 74 j = iC s10 74 j from fm_c Fs12 (by decide)).trans ((show iC s10 74 j = iC s7 74 j by rw [hs10]; rfl).trans (fm_c Fs7 (by decide)))))⟩
  ·
    exact w_vret X.1 q hRt (ax_d X (show cdA 96 8 = some (.return_, 1, 0, 0, 0) from rfl)) (Nat.zero_le _) (Nat.zero_le _) ⟨_, rfl, I, F, jEAJ, jMSJ, jKNJ, rfl, (trq_no p7 (by omega) (by omega))⟩
set_option maxRecDepth 4000 in
theorem c8_try9S (G : GX l s0 D tys a0 dT) {U : AirD} {S : Int → Prop} {qn : Nat} {lj hj : Nat → Int64} {ft : Int → Prop} {B : MdO} {r : Nat} (hR : ∀ {s : PS} {x y z w v : Int} {B : MdO}, Bd s → TMK U S qn lj hj ft s → EAJ lj hj s → MSJ U S qn s → KNJ ft s → (0 ≤ x ∧ x ≤ iI s 41) → (iI s 41 - x ≤ ((r : Nat) : Int)) → (iI s 41 ≤ 8) → (0 ≤ y ∧ y ≤ 3000 * x) → (0 ≤ z ∧ z ≤ 8) → (0 ≤ w ∧ w ≤ 8) → (0 ≤ v ∧ v ≤ 255) → (TRP B x v s) → CT l s0 D A dT 96 (rkR (30 + (r))) [.ref (A 67), .int (Int32.ofInt x), .int (Int32.ofInt y), .int (Int32.ofInt z), .int (Int32.ofInt w), .int (Int32.ofInt v)] s (fun o t => Bd t ∧ Fm [42] [67, 20, 76, 74, 75, 87, 96, 105, 114, 123, 132, 141, 150] s t ∧ EAJ lj hj t ∧ MSJ U S qn t ∧ KNJ ft t ∧ o = .inl none ∧ (TRQ ft B x y z w s t))) (I : Bd s) (jTMK : TMK U S qn lj hj ft s) (jEAJ : EAJ lj hj s) (jMSJ : MSJ U S qn s) (jKNJ : KNJ ft s) {x y z w v : Int} (p0 : 0 ≤ x ∧ x ≤ iI s 41) (p1 : iI s 41 - x ≤ ((r + 1 : Nat) : Int)) (p2 : iI s 41 ≤ 8) (p3 : 0 ≤ y ∧ y ≤ 3000 * x) (p4 : 0 ≤ z ∧ z ≤ 8) (p5 : 0 ≤ w ∧ w ≤ 8) (p6 : 0 ≤ v ∧ v ≤ 255) (p7 : TRP B x v s) : CT l s0 D A dT 96 (rkR (30 + (r + 1))) [.ref (A 67), .int (Int32.ofInt x), .int (Int32.ofInt y), .int (Int32.ofInt z), .int (Int32.ofInt w), .int (Int32.ofInt v)] s (fun o t => Bd t ∧ Fm [42] [67, 20, 76, 74, 75, 87, 96, 105, 114, 123, 132, 141, 150] s t ∧ EAJ lj hj t ∧ MSJ U S qn t ∧ KNJ ft t ∧ o = .inl none ∧ (TRQ ft B x y z w s t)) := by
  refine ct_ofX G (by decide) (Nat.le_of_ble_eq_true rfl) (fun k X E ET hRt hXt q => ?_)
  show WS k 0 [(0, .ref (A 67)), (1, .int (Int32.ofInt x)), (2, .int (Int32.ofInt y)), (3, .int (Int32.ofInt z)), (4, .int (Int32.ofInt w)), (5, .int (Int32.ofInt v))] [] _ 0 0
  have F : Fm [42] [67, 20, 76, 74, 75, 87, 96, 105, 114, 123, 132, 141, 150] s s := fm_rf _ _ s
  have aw0_74 : SAM 74 s s := sam_rf
  have aw0_75 : SAM 75 s s := sam_rf
  have b1 := bi_41 I
  have b2 := bi_42 I
  refine z_load_n X (x := y) rfl (List.Mem.tail _ (List.Mem.tail _ (List.Mem.head _))) (z_aload_n X (x := A 67) rfl (List.Mem.head _) (z_getI X 67 rfl (c518_ok rfl) rfl rfl ?_))
  have b3 := bi_42 I
  refine z_icmp_lt X (t := 9) rfl rfl ⟨by first | exact oq_fa4e5087 p3.1 | omega, by first | exact oq_1b20a017 p3.2 p0.2 b1.2 | omega⟩ (rng_to _) (fun g4 => ?_) (fun g4 => ?_)
  ·
    refine z_load_n X (x := x) rfl (List.Mem.tail _ (List.Mem.head _)) (z_aload_n X (x := A 67) rfl (List.Mem.head _) (z_getI X 67 rfl (c518_ok rfl) rfl rfl ?_))
    have b5 := bi_41 I
    refine z_icmp_lt X (t := 49) rfl rfl ⟨by first | exact oq_fa4e5087 p0.1 | omega, by first | exact oq_39d2cc6e p0.2 b5.2 | omega⟩ (rng_to _) (fun g6 => ?_) (fun g6 => ?_)
    ·
      refine z_aload_n X (x := A 67) rfl (List.Mem.head _) (s_getR X 67 rfl (c518_ok rfl) rfl rfl (s_getR X 3 rfl (c518_ok rfl) rfl rfl (z_aload_n X (x := A 67) rfl (List.Mem.head _) (z_getI X 67 rfl (c518_ok rfl) rfl rfl ?_))))
      have b7 := bi_39 I
      refine z_bipush X rfl (z_mul X rfl (z_aload_n X (x := A 67) rfl (List.Mem.head _) (s_getR X 67 rfl (c518_ok rfl) rfl rfl (z_load_n X (x := x) rfl (List.Mem.tail _ (List.Mem.head _)) (z_ald X 85 rfl (c518_ok rfl) rfl (by first | exact p0.1 | omega) (show x < 12 by first | exact oq_f36e82a8 g6 b5.2 | omega) (cbig_ok rfl) ?_)))))
      have b8 := bc_72 I (show (x).toNat < 12 by first | exact oq_2dac6850 g6 b5.2 | omega)
      refine z_add X rfl (z_ald X 14 rfl (c518_ok rfl) rfl (by first | exact oq_0f03f1de b7.1 b8.1 | omega) (show (((iI s 39) * 12) + (iC s 72 (x).toNat)) < 288 by first | exact oq_74a4833a b7.2 b8.2 | omega) (cbig_ok rfl) ?_)
      have b9 := bc_11 I (show ((((iI s 39) * 12) + (iC s 72 (x).toNat))).toNat < 288 by first | exact oq_5aa97b8f b7.2 b8.2 | omega)
      refine z_store X (lv' := [(6, .int (Int32.ofInt (iC s 11 ((((iI s 39) * 12) + (iC s 72 (x).toNat))).toNat))), (0, .ref (A 67)), (1, .int (Int32.ofInt x)), (2, .int (Int32.ofInt y)), (3, .int (Int32.ofInt z)), (4, .int (Int32.ofInt w)), (5, .int (Int32.ofInt v))]) rfl (by decide) (fun _ h => h) ?_
      have hm6 : (iC s 11 ((((iI s 39) * 12) + (iC s 72 (x).toNat))).toNat) = mo9 s (x : Int).toNat := by show _ = iC s 11 (12 * (iI s 39).toNat + (iC s 72 (x : Int).toNat).toNat); exact congrArg (iC s 11) (by omega)
      have hT0 : TRS B x s s := trs_0 p7
      have hl : lsB B y := bss_g p7.1 (by omega) (by omega)
      have hmb := msi_b (md9 s) 1 (x : Int).toNat
      have hp8 := pwi_8 ((x : Int).toNat + 1) (by omega)
      have hp9 : pwI ((x : Int).toNat + 1) = 2 * pwI (x : Int).toNat := rfl
      have hv7 := p7.2
      have hrb := jTMK.2.2.2.2.2.1 (x : Int).toNat (by omega)
      refine z_aload_n X (x := A 67) rfl (List.Mem.tail _ (List.Mem.head _)) (s_getR X 67 rfl (c518_ok rfl) rfl rfl (z_load_n X (x := x) rfl (List.Mem.tail _ (List.Mem.tail _ (List.Mem.head _))) (z_ald X 86 rfl (c518_ok rfl) rfl (by first | exact p0.1 | omega) (show x < 8 by first | exact oq_7f5b2e79 g6 p2 | omega) (cbig_ok rfl) ?_)))
      have b10 := bc_73 I (show (x).toNat < 8 by first | exact oq_67be0351 g6 p2 | omega)
      refine z_const X rfl (z_icmp_eq X (t := 114) rfl rfl (rng_to _) (by decide) (fun g11 => ?_) (fun g11 => ?_))
      ·
        have hT1 : TRS (tr1 ft s x y z w B) x s s := by unfold tr1; rw [ap_n (fun h => h (show iC s 73 (x : Int).toNat = -1 by omega))]; exact hT0
        refine z_load_n X (x := z) rfl (List.Mem.tail _ (List.Mem.tail _ (List.Mem.tail _ (List.Mem.tail _ (List.Mem.head _))))) (z_if_le X (t := 146) rfl rfl ⟨by first | exact oq_fa4e5087 p4.1 | omega, by first | exact oq_d3f5d874 p4.2 | omega⟩ (fun g12 => ?_) (fun g12 => ?_))
        ·
          have hT2 : TRS (tr2 ft s x y z w (tr1 ft s x y z w B)) x s s := by unfold tr2; rw [ap_n (show ¬ 0 < z by omega)]; exact hT1
          refine z_load X (x := w) rfl (List.Mem.tail _ (List.Mem.tail _ (List.Mem.tail _ (List.Mem.tail _ (List.Mem.tail _ (List.Mem.head _)))))) (z_if_le X (t := 179) rfl rfl ⟨by first | exact oq_fa4e5087 p5.1 | omega, by first | exact oq_d3f5d874 p5.2 | omega⟩ (fun g13 => ?_) (fun g13 => ?_))
          ·
            have hT3 : TRS (tr3 ft s x y z w (tr2 ft s x y z w (tr1 ft s x y z w B))) x s s := by unfold tr3; rw [ap_n (show ¬ 0 < w by omega)]; exact hT2
            exact w_vret X.1 q hRt (ax_d X (show cdA 96 179 = some (.return_, 1, 0, 0, 0) from rfl)) (Nat.zero_le _) (Nat.zero_le _) ⟨_, rfl, I, F, jEAJ, jMSJ, jKNJ, rfl, (trq_e (by omega) hl hT3)⟩
          ·
            refine z_aload_n X (x := A 67) rfl (List.Mem.tail _ (List.Mem.head _)) (s_getR X 67 rfl (c518_ok rfl) rfl rfl (z_load_n X (x := x) rfl (List.Mem.tail _ (List.Mem.tail _ (List.Mem.head _))) (z_const X rfl (z_ast X 87 rfl (c518_ok rfl) rfl (by first | exact p0.1 | omega) (show x < 8 by first | exact oq_7f5b2e79 g6 p2 | omega) (cbig_ok rfl) (wd_gen (fun s14 hs14 => ?_))))))
            have Is14 : Bd s14 := eqB hs14 (bd_C I (show ((-2147483648) : Int) ≤ 3 ∧ 3 ≤ 2147483647 by first | exact ⟨by decide, by decide⟩ | omega) (by decide))
            have Fs14 := eqF hs14 (fm_C F (inl_ok (a := 74) rfl))
            have ws14_41 : iI s14 41 = iI s 41 := eqI hs14 rfl
            have ws14_42 : iI s14 42 = iI s 42 := eqI hs14 rfl
            have aws14_74 : UPD 74 (x) 3 s s14 := by rw [hs14]; exact upd_put aw0_74 (by decide)
            have aws14_75 : SAM 75 s s14 := by rw [hs14]; exact sam_C (by decide) aw0_75
            have fs14 : Fm [] [74] s s14 := by rw [hs14]; exact fm_C (fm_rf _ _ _) (show 74 ∈ _ by decide)
            have JTMK_s14 : TMK U S qn lj hj ft s14 := TMK_fm fs14 (by decide) jTMK
            have JEAJ_s14 : EAJ lj hj s14 := EAJ_fm fs14 (by decide) jEAJ
            have JMSJ_s14 : MSJ U S qn s14 := MSJ_fm fs14 (by decide) jMSJ
            have JKNJ_s14 : KNJ ft s14 := KNJ_fm fs14 (by decide) jKNJ
            refine z_aload_n X (x := A 67) rfl (List.Mem.tail _ (List.Mem.head _)) (z_load_n X (x := x) rfl (List.Mem.tail _ (List.Mem.tail _ (List.Mem.head _))) (z_const X rfl (z_add X rfl (z_load_n X (x := y) rfl (List.Mem.tail _ (List.Mem.tail _ (List.Mem.tail _ (List.Mem.head _)))) (z_bipush X rfl (z_load X (x := (iC s 11 ((((iI s 39) * 12) + (iC s 72 (x).toNat))).toNat)) rfl (List.Mem.head _) (z_mul X rfl (z_add X rfl (z_load_n X (x := z) rfl (List.Mem.tail _ (List.Mem.tail _ (List.Mem.tail _ (List.Mem.tail _ (List.Mem.head _))))) (z_load X (x := w) rfl (List.Mem.tail _ (List.Mem.tail _ (List.Mem.tail _ (List.Mem.tail _ (List.Mem.tail _ (List.Mem.head _)))))) (z_const X rfl ?_)))))))))))
            refine z_sub X rfl (z_load X (x := v) rfl (List.Mem.tail _ (List.Mem.tail _ (List.Mem.tail _ (List.Mem.tail _ (List.Mem.tail _ (List.Mem.tail _ (List.Mem.head _))))))) ?_)
            have hPL15 : TRP (tr2 ft s x y z w (tr1 ft s x y z w B)) (x + 1) v s14 := trp_in hT2 (by omega) hv7 aws14_74 (by omega) (by omega) aws14_75 (Or.inr ⟨by decide, rfl⟩)
            refine z_callV X 67 (rm := (rkR (30 + (r)))) (As := [.int (Int32.ofInt (x + 1)), .int (Int32.ofInt (y + (60 * (iC s 11 ((((iI s 39) * 12) + (iC s 72 (x).toNat))).toNat)))), .int (Int32.ofInt z), .int (Int32.ofInt (w - 1)), .int (Int32.ofInt v)]) (st := []) rfl rfl (by decide) rfl (by rw [E.1, E.2.1, E.2.2.1]; exact hR Is14 JTMK_s14 JEAJ_s14 JMSJ_s14 JKNJ_s14 (by first | exact ⟨oq_54f49eb5 p0.1, oq_808850b7 ws14_41 g6⟩ | omega) (by first | exact oq_a2844aec p1 ws14_41 | omega) (by first | exact oq_86ef0b17 ws14_41 p2 | omega) (by first | exact ⟨oq_bfa8c294 p3.1 b9.1, oq_d01bb3c2 p3.2 b9.2⟩ | omega) (by first | exact ⟨p4.1, p4.2⟩ | omega) (by first | exact ⟨oq_a4f22177 g13, oq_d7fe5c3c p5.2⟩ | omega) (by first | exact ⟨p6.1, p6.2⟩ | omega) (hPL15)) ⟨by rw [E.2.2.2]; exact (show (12 + (30 + (r))) + 1 ≤ (12 + (30 + (r + 1))) from oq_bb14859f r), by rw [E.2.2.2]; exact (show 8 + (7 + 11) + (500 + 45 * (30 + (r))) ≤ (500 + 45 * (30 + (r + 1))) from oq_0bdccef0 r), by rw [E.2.2.2]; exact Nat.le_refl 0, by rw [E.2.2.2]; exact Nat.le_refl 0⟩ (Nat.le_of_ble_eq_true rfl) (fun vv s16 hq => ?_) (fun ee s16 hq => ?_)
            rotate_left
            · obtain ⟨Is16, Fs16, JEAJ_s16, JMSJ_s16, JKNJ_s16, hv, hps16⟩ := hq; cases hv
            obtain ⟨Is16, Fs16, JEAJ_s16, JMSJ_s16, JKNJ_s16, hv, hps16⟩ := hq
            cases hv
            have Gs16 := fm_tq Fs14 Fs16 rfl rfl
            have ws16_41 : iI s16 41 = iI s14 41 := fm_iq Fs16 rfl
            have b18 := bi_42 Is16
            show WS k 179 [(6, .int (Int32.ofInt (iC s 11 ((((iI s 39) * 12) + (iC s 72 (x).toNat))).toNat))), (0, .ref (A 67)), (1, .int (Int32.ofInt x)), (2, .int (Int32.ofInt y)), (3, .int (Int32.ofInt z)), (4, .int (Int32.ofInt w)), (5, .int (Int32.ofInt v))] [] (Wd A dT s16) 0 0
            have hq3 : TRQ ft (tr2 ft s x y z w (tr1 ft s x y z w B)) (x + 1) (y + 60 * mo9 s (x : Int).toNat) z (w - 1) s14 s16 := by have zz := hps16; rw [hm6] at zz; exact zz
            have hT3 : TRS (tr3 ft s x y z w (tr2 ft s x y z w (tr1 ft s x y z w B))) x s s16 := by unfold tr3; rw [ap_y (show 0 < w by omega)]; exact trs_call hT2 (by omega) aws14_74 (by omega) (mo9_fm Fs14 (by decide)) (rd9_fm Fs14 (by decide)) hq3
            exact w_vret X.1 q hRt (ax_d X (show cdA 96 179 = some (.return_, 1, 0, 0, 0) from rfl)) (Nat.zero_le _) (Nat.zero_le _) ⟨_, rfl, Is16, Gs16, JEAJ_s16, JMSJ_s16, JKNJ_s16, rfl, (trq_e (by omega) hl hT3)⟩
        ·
          refine z_aload_n X (x := A 67) rfl (List.Mem.tail _ (List.Mem.head _)) (s_getR X 67 rfl (c518_ok rfl) rfl rfl (z_load_n X (x := x) rfl (List.Mem.tail _ (List.Mem.tail _ (List.Mem.head _))) (z_const X rfl (z_ast X 87 rfl (c518_ok rfl) rfl (by first | exact p0.1 | omega) (show x < 8 by first | exact oq_7f5b2e79 g6 p2 | omega) (cbig_ok rfl) (wd_gen (fun s19 hs19 => ?_))))))
          have Is19 : Bd s19 := eqB hs19 (bd_C I (show ((-2147483648) : Int) ≤ 2 ∧ 2 ≤ 2147483647 by first | exact ⟨by decide, by decide⟩ | omega) (by decide))
          have Fs19 := eqF hs19 (fm_C F (inl_ok (a := 74) rfl))
          have ws19_41 : iI s19 41 = iI s 41 := eqI hs19 rfl
          have ws19_42 : iI s19 42 = iI s 42 := eqI hs19 rfl
          have aws19_74 : UPD 74 (x) 2 s s19 := by rw [hs19]; exact upd_put aw0_74 (by decide)
          have aws19_75 : SAM 75 s s19 := by rw [hs19]; exact sam_C (by decide) aw0_75
          have fs19 : Fm [] [74] s s19 := by rw [hs19]; exact fm_C (fm_rf _ _ _) (show 74 ∈ _ by decide)
          have JTMK_s19 : TMK U S qn lj hj ft s19 := TMK_fm fs19 (by decide) jTMK
          have JEAJ_s19 : EAJ lj hj s19 := EAJ_fm fs19 (by decide) jEAJ
          have JMSJ_s19 : MSJ U S qn s19 := MSJ_fm fs19 (by decide) jMSJ
          have JKNJ_s19 : KNJ ft s19 := KNJ_fm fs19 (by decide) jKNJ
          refine z_aload_n X (x := A 67) rfl (List.Mem.tail _ (List.Mem.head _)) (z_load_n X (x := x) rfl (List.Mem.tail _ (List.Mem.tail _ (List.Mem.head _))) (z_const X rfl (z_add X rfl (z_load_n X (x := y) rfl (List.Mem.tail _ (List.Mem.tail _ (List.Mem.tail _ (List.Mem.head _)))) (z_bipush X rfl (z_load X (x := (iC s 11 ((((iI s 39) * 12) + (iC s 72 (x).toNat))).toNat)) rfl (List.Mem.head _) (z_mul X rfl (z_add X rfl (z_load_n X (x := z) rfl (List.Mem.tail _ (List.Mem.tail _ (List.Mem.tail _ (List.Mem.tail _ (List.Mem.head _))))) (z_const X rfl (z_sub X rfl ?_)))))))))))
          refine z_load X (x := w) rfl (List.Mem.tail _ (List.Mem.tail _ (List.Mem.tail _ (List.Mem.tail _ (List.Mem.tail _ (List.Mem.head _)))))) (z_load X (x := v) rfl (List.Mem.tail _ (List.Mem.tail _ (List.Mem.tail _ (List.Mem.tail _ (List.Mem.tail _ (List.Mem.tail _ (List.Mem.head _))))))) ?_)
          have hPL20 : TRP (tr1 ft s x y z w B) (x + 1) v s19 := trp_in hT1 (by omega) hv7 aws19_74 (by omega) (by omega) aws19_75 (Or.inr ⟨by decide, rfl⟩)
          refine z_callV X 67 (rm := (rkR (30 + (r)))) (As := [.int (Int32.ofInt (x + 1)), .int (Int32.ofInt (y + (15 * (iC s 11 ((((iI s 39) * 12) + (iC s 72 (x).toNat))).toNat)))), .int (Int32.ofInt (z - 1)), .int (Int32.ofInt w), .int (Int32.ofInt v)]) (st := []) rfl rfl (by decide) rfl (by rw [E.1, E.2.1, E.2.2.1]; exact hR Is19 JTMK_s19 JEAJ_s19 JMSJ_s19 JKNJ_s19 (by first | exact ⟨oq_54f49eb5 p0.1, oq_808850b7 ws19_41 g6⟩ | omega) (by first | exact oq_a2844aec p1 ws19_41 | omega) (by first | exact oq_86ef0b17 ws19_41 p2 | omega) (by first | exact ⟨oq_79fab92d p3.1 b9.1, oq_147874d5 p3.2 b9.2⟩ | omega) (by first | exact ⟨oq_a4f22177 g12, oq_d7fe5c3c p4.2⟩ | omega) (by first | exact ⟨p5.1, p5.2⟩ | omega) (by first | exact ⟨p6.1, p6.2⟩ | omega) (hPL20)) ⟨by rw [E.2.2.2]; exact (show (12 + (30 + (r))) + 1 ≤ (12 + (30 + (r + 1))) from oq_bb14859f r), by rw [E.2.2.2]; exact (show 8 + (7 + 11) + (500 + 45 * (30 + (r))) ≤ (500 + 45 * (30 + (r + 1))) from oq_0bdccef0 r), by rw [E.2.2.2]; exact Nat.le_refl 0, by rw [E.2.2.2]; exact Nat.le_refl 0⟩ (Nat.le_of_ble_eq_true rfl) (fun vv s21 hq => ?_) (fun ee s21 hq => ?_)
          rotate_left
          · obtain ⟨Is21, Fs21, JEAJ_s21, JMSJ_s21, JKNJ_s21, hv, hps21⟩ := hq; cases hv
          obtain ⟨Is21, Fs21, JEAJ_s21, JMSJ_s21, JKNJ_s21, hv, hps21⟩ := hq
          cases hv
          have Gs21 := fm_tq Fs19 Fs21 rfl rfl
          have JTMK_s21 : TMK U S qn lj hj ft s21 := TMK_fm Fs21 (by decide) JTMK_s19
          have ws21_41 : iI s21 41 = iI s19 41 := fm_iq Fs21 rfl
          have b23 := bi_42 Is21
          show WS k 146 [(6, .int (Int32.ofInt (iC s 11 ((((iI s 39) * 12) + (iC s 72 (x).toNat))).toNat))), (0, .ref (A 67)), (1, .int (Int32.ofInt x)), (2, .int (Int32.ofInt y)), (3, .int (Int32.ofInt z)), (4, .int (Int32.ofInt w)), (5, .int (Int32.ofInt v))] [] (Wd A dT s21) 0 0
          have hq2 : TRQ ft (tr1 ft s x y z w B) (x + 1) (y + 15 * mo9 s (x : Int).toNat) (z - 1) w s19 s21 := by have zz := hps21; rw [hm6] at zz; exact zz
          have hT2 : TRS (tr2 ft s x y z w (tr1 ft s x y z w B)) x s s21 := by unfold tr2; rw [ap_y (show 0 < z by omega)]; exact trs_call hT1 (by omega) aws19_74 (by omega) (mo9_fm Fs19 (by decide)) (rd9_fm Fs19 (by decide)) hq2
          refine z_load X (x := w) rfl (List.Mem.tail _ (List.Mem.tail _ (List.Mem.tail _ (List.Mem.tail _ (List.Mem.tail _ (List.Mem.head _)))))) (z_if_le X (t := 179) rfl rfl ⟨by first | exact oq_fa4e5087 p5.1 | omega, by first | exact oq_d3f5d874 p5.2 | omega⟩ (fun g24 => ?_) (fun g24 => ?_))
          ·
            have hT3 : TRS (tr3 ft s x y z w (tr2 ft s x y z w (tr1 ft s x y z w B))) x s s21 := by unfold tr3; rw [ap_n (show ¬ 0 < w by omega)]; exact hT2
            exact w_vret X.1 q hRt (ax_d X (show cdA 96 179 = some (.return_, 1, 0, 0, 0) from rfl)) (Nat.zero_le _) (Nat.zero_le _) ⟨_, rfl, Is21, Gs21, JEAJ_s21, JMSJ_s21, JKNJ_s21, rfl, (trq_e (by omega) hl hT3)⟩
          ·
            refine z_aload_n X (x := A 67) rfl (List.Mem.tail _ (List.Mem.head _)) (s_getR X 67 rfl (c518_ok rfl) rfl rfl (z_load_n X (x := x) rfl (List.Mem.tail _ (List.Mem.tail _ (List.Mem.head _))) (z_const X rfl (z_ast X 87 rfl (c518_ok rfl) rfl (by first | exact p0.1 | omega) (show x < 8 by first | exact oq_7f5b2e79 g6 p2 | omega) (cbig_ok rfl) (wd_gen (fun s25 hs25 => ?_))))))
            have Is25 : Bd s25 := eqB hs25 (bd_C Is21 (show ((-2147483648) : Int) ≤ 3 ∧ 3 ≤ 2147483647 by first | exact ⟨by decide, by decide⟩ | omega) (by decide))
            have Fs25 := eqF hs25 (fm_C Gs21 (inl_ok (a := 74) rfl))
            have ws25_41 : iI s25 41 = iI s21 41 := eqI hs25 rfl
            have ws25_42 : iI s25 42 = iI s21 42 := eqI hs25 rfl
            have aws25_74 : UPD 74 (x) 3 s21 s25 := by rw [hs25]; exact upd_put (sam_rf (a := 74) (s := s21)) (by decide)
            have aws25_75 : SAM 75 s21 s25 := by rw [hs25]; exact sam_C (by decide) (sam_rf (a := 75) (s := s21))
            have fs25 : Fm [] [74] s21 s25 := by rw [hs25]; exact fm_C (fm_rf _ _ _) (show 74 ∈ _ by decide)
            have JTMK_s25 : TMK U S qn lj hj ft s25 := TMK_fm fs25 (by decide) JTMK_s21
            have JEAJ_s25 : EAJ lj hj s25 := EAJ_fm fs25 (by decide) JEAJ_s21
            have JMSJ_s25 : MSJ U S qn s25 := MSJ_fm fs25 (by decide) JMSJ_s21
            have JKNJ_s25 : KNJ ft s25 := KNJ_fm fs25 (by decide) JKNJ_s21
            refine z_aload_n X (x := A 67) rfl (List.Mem.tail _ (List.Mem.head _)) (z_load_n X (x := x) rfl (List.Mem.tail _ (List.Mem.tail _ (List.Mem.head _))) (z_const X rfl (z_add X rfl (z_load_n X (x := y) rfl (List.Mem.tail _ (List.Mem.tail _ (List.Mem.tail _ (List.Mem.head _)))) (z_bipush X rfl (z_load X (x := (iC s 11 ((((iI s 39) * 12) + (iC s 72 (x).toNat))).toNat)) rfl (List.Mem.head _) (z_mul X rfl (z_add X rfl (z_load_n X (x := z) rfl (List.Mem.tail _ (List.Mem.tail _ (List.Mem.tail _ (List.Mem.tail _ (List.Mem.head _))))) (z_load X (x := w) rfl (List.Mem.tail _ (List.Mem.tail _ (List.Mem.tail _ (List.Mem.tail _ (List.Mem.tail _ (List.Mem.head _)))))) (z_const X rfl ?_)))))))))))
            refine z_sub X rfl (z_load X (x := v) rfl (List.Mem.tail _ (List.Mem.tail _ (List.Mem.tail _ (List.Mem.tail _ (List.Mem.tail _ (List.Mem.tail _ (List.Mem.head _))))))) ?_)
            have hPL26 : TRP (tr2 ft s x y z w (tr1 ft s x y z w B)) (x + 1) v s25 := trp_in hT2 (by omega) hv7 aws25_74 (by omega) (by omega) aws25_75 (Or.inr ⟨by decide, rfl⟩)
            refine z_callV X 67 (rm := (rkR (30 + (r)))) (As := [.int (Int32.ofInt (x + 1)), .int (Int32.ofInt (y + (60 * (iC s 11 ((((iI s 39) * 12) + (iC s 72 (x).toNat))).toNat)))), .int (Int32.ofInt z), .int (Int32.ofInt (w - 1)), .int (Int32.ofInt v)]) (st := []) rfl rfl (by decide) rfl (by rw [E.1, E.2.1, E.2.2.1]; exact hR Is25 JTMK_s25 JEAJ_s25 JMSJ_s25 JKNJ_s25 (by first | exact ⟨oq_54f49eb5 p0.1, oq_11bbe77e ws25_41 g6 ws21_41 ws19_41⟩ | omega) (by first | exact oq_7e901d26 p1 ws25_41 ws21_41 ws19_41 | omega) (by first | exact oq_e14d47df ws25_41 ws21_41 ws19_41 p2 | omega) (by first | exact ⟨oq_bfa8c294 p3.1 b9.1, oq_d01bb3c2 p3.2 b9.2⟩ | omega) (by first | exact ⟨p4.1, p4.2⟩ | omega) (by first | exact ⟨oq_a4f22177 g24, oq_d7fe5c3c p5.2⟩ | omega) (by first | exact ⟨p6.1, p6.2⟩ | omega) (hPL26)) ⟨by rw [E.2.2.2]; exact (show (12 + (30 + (r))) + 1 ≤ (12 + (30 + (r + 1))) from oq_bb14859f r), by rw [E.2.2.2]; exact (show 8 + (7 + 11) + (500 + 45 * (30 + (r))) ≤ (500 + 45 * (30 + (r + 1))) from oq_0bdccef0 r), by rw [E.2.2.2]; exact Nat.le_refl 0, by rw [E.2.2.2]; exact Nat.le_refl 0⟩ (Nat.le_of_ble_eq_true rfl) (fun vv s27 hq => ?_) (fun ee s27 hq => ?_)
            rotate_left
            · obtain ⟨Is27, Fs27, JEAJ_s27, JMSJ_s27, JKNJ_s27, hv, hps27⟩ := hq; cases hv
            obtain ⟨Is27, Fs27, JEAJ_s27, JMSJ_s27, JKNJ_s27, hv, hps27⟩ := hq
            cases hv
            have Gs27 := fm_tq Fs25 Fs27 rfl rfl
            have ws27_41 : iI s27 41 = iI s25 41 := fm_iq Fs27 rfl
            have b29 := bi_42 Is27
            show WS k 179 [(6, .int (Int32.ofInt (iC s 11 ((((iI s 39) * 12) + (iC s 72 (x).toNat))).toNat))), (0, .ref (A 67)), (1, .int (Int32.ofInt x)), (2, .int (Int32.ofInt y)), (3, .int (Int32.ofInt z)), (4, .int (Int32.ofInt w)), (5, .int (Int32.ofInt v))] [] (Wd A dT s27) 0 0
            have hq3 : TRQ ft (tr2 ft s x y z w (tr1 ft s x y z w B)) (x + 1) (y + 60 * mo9 s (x : Int).toNat) z (w - 1) s25 s27 := by have zz := hps27; rw [hm6] at zz; exact zz
            have hT3 : TRS (tr3 ft s x y z w (tr2 ft s x y z w (tr1 ft s x y z w B))) x s s27 := by unfold tr3; rw [ap_y (show 0 < w by omega)]; exact trs_call hT2 (by omega) aws25_74 (by omega) (mo9_fm Fs25 (by decide)) (rd9_fm Fs25 (by decide)) hq3
            exact w_vret X.1 q hRt (ax_d X (show cdA 96 179 = some (.return_, 1, 0, 0, 0) from rfl)) (Nat.zero_le _) (Nat.zero_le _) ⟨_, rfl, Is27, Gs27, JEAJ_s27, JMSJ_s27, JKNJ_s27, rfl, (trq_e (by omega) hl hT3)⟩
      ·
        refine z_aload_n X (x := A 67) rfl (List.Mem.tail _ (List.Mem.head _)) (s_getR X 67 rfl (c518_ok rfl) rfl rfl (z_load_n X (x := x) rfl (List.Mem.tail _ (List.Mem.tail _ (List.Mem.head _))) (z_const X rfl (z_ast X 87 rfl (c518_ok rfl) rfl (by first | exact p0.1 | omega) (show x < 8 by first | exact oq_7f5b2e79 g6 p2 | omega) (cbig_ok rfl) (wd_gen (fun s30 hs30 => ?_))))))
        have Is30 : Bd s30 := eqB hs30 (bd_C I (show ((-2147483648) : Int) ≤ 1 ∧ 1 ≤ 2147483647 by first | exact ⟨by decide, by decide⟩ | omega) (by decide))
        have Fs30 := eqF hs30 (fm_C F (inl_ok (a := 74) rfl))
        have ws30_41 : iI s30 41 = iI s 41 := eqI hs30 rfl
        have ws30_42 : iI s30 42 = iI s 42 := eqI hs30 rfl
        have aws30_74 : UPD 74 (x) 1 s s30 := by rw [hs30]; exact upd_put aw0_74 (by decide)
        have aws30_75 : SAM 75 s s30 := by rw [hs30]; exact sam_C (by decide) aw0_75
        have fs30 : Fm [] [74] s s30 := by rw [hs30]; exact fm_C (fm_rf _ _ _) (show 74 ∈ _ by decide)
        have JTMK_s30 : TMK U S qn lj hj ft s30 := TMK_fm fs30 (by decide) jTMK
        have JEAJ_s30 : EAJ lj hj s30 := EAJ_fm fs30 (by decide) jEAJ
        have JMSJ_s30 : MSJ U S qn s30 := MSJ_fm fs30 (by decide) jMSJ
        have JKNJ_s30 : KNJ ft s30 := KNJ_fm fs30 (by decide) jKNJ
        refine z_aload_n X (x := A 67) rfl (List.Mem.tail _ (List.Mem.head _)) (z_load_n X (x := x) rfl (List.Mem.tail _ (List.Mem.tail _ (List.Mem.head _))) (z_const X rfl (z_add X rfl (z_load_n X (x := y) rfl (List.Mem.tail _ (List.Mem.tail _ (List.Mem.tail _ (List.Mem.head _)))) (z_aload_n X (x := A 67) rfl (List.Mem.tail _ (List.Mem.head _)) (s_getR X 67 rfl (c518_ok rfl) rfl rfl (z_load_n X (x := x) rfl (List.Mem.tail _ (List.Mem.tail _ (List.Mem.head _))) (z_ald X 86 rfl (c518_ok rfl) rfl (by first | exact p0.1 | omega) (show x < 8 by first | exact oq_7f5b2e79 g6 p2 | omega) (cbig_ok rfl) ?_))))))))
        have b31 := bc_73 Is30 (show (x).toNat < 8 by first | exact oq_67be0351 g6 p2 | omega)
        have hr2 : (iC s30 73 (x).toNat) = iC s 73 (x : Int).toNat := fm_c Fs30 (by decide)
        refine z_add X rfl (z_load_n X (x := z) rfl (List.Mem.tail _ (List.Mem.tail _ (List.Mem.tail _ (List.Mem.tail _ (List.Mem.head _))))) (z_load X (x := w) rfl (List.Mem.tail _ (List.Mem.tail _ (List.Mem.tail _ (List.Mem.tail _ (List.Mem.tail _ (List.Mem.head _)))))) (z_load X (x := v) rfl (List.Mem.tail _ (List.Mem.tail _ (List.Mem.tail _ (List.Mem.tail _ (List.Mem.tail _ (List.Mem.tail _ (List.Mem.head _))))))) (z_const X rfl (z_load_n X (x := x) rfl (List.Mem.tail _ (List.Mem.tail _ (List.Mem.head _))) (z_bshl X rfl (z_anyV (fun y32 hy32 ey32 => ?_))))))))
        refine w_ior X.1 (ax_d X (show cdA 96 110 = some (.ior, 1, 0, 0, 0) from rfl)) (z_anyV (fun y33 hy33 ey33 => ?_))
        have hw : y33 = v + pwI (x : Int).toNat := by have zz := ms_put (k := x) (m := msI (md9 s) 1 (x : Int).toNat) (by first | (clear g11; omega) | omega) hmb ey32 (by rw [← hv7]; exact ey33) hy33; rw [← hv7] at zz; exact zz
        have hPL34 : TRP B (x + 1) y33 s30 := trp_in hT0 (by first | (clear g11; omega) | omega) hv7 aws30_74 (by first | (clear g11; omega) | omega) (by first | (clear g11; omega) | omega) aws30_75 (Or.inl ⟨rfl, hw⟩)
        refine z_callV X 67 (rm := (rkR (30 + (r)))) (As := [.int (Int32.ofInt (x + 1)), .int (Int32.ofInt (y + (iC s30 73 (x).toNat))), .int (Int32.ofInt z), .int (Int32.ofInt w), .int (Int32.ofInt y33)]) (st := []) rfl rfl (by decide) rfl (by rw [E.1, E.2.1, E.2.2.1]; exact hR Is30 JTMK_s30 JEAJ_s30 JMSJ_s30 JKNJ_s30 (by first | exact ⟨oq_54f49eb5 p0.1, oq_808850b7 ws30_41 g6⟩ | omega) (by first | exact oq_a2844aec p1 ws30_41 | omega) (by first | exact oq_86ef0b17 ws30_41 p2 | omega) (by first | (clear g11; omega) | omega) (by first | exact ⟨p4.1, p4.2⟩ | omega) (by first | exact ⟨p5.1, p5.2⟩ | omega) (by first | (clear g11; omega) | omega) (hPL34)) ⟨by rw [E.2.2.2]; exact (show (12 + (30 + (r))) + 1 ≤ (12 + (30 + (r + 1))) from oq_bb14859f r), by rw [E.2.2.2]; exact (show 8 + (7 + 11) + (500 + 45 * (30 + (r))) ≤ (500 + 45 * (30 + (r + 1))) from oq_0bdccef0 r), by rw [E.2.2.2]; exact Nat.le_refl 0, by rw [E.2.2.2]; exact Nat.le_refl 0⟩ (Nat.le_of_ble_eq_true rfl) (fun vv s35 hq => ?_) (fun ee s35 hq => ?_)
        rotate_left
        · obtain ⟨Is35, Fs35, JEAJ_s35, JMSJ_s35, JKNJ_s35, hv, hps35⟩ := hq; cases hv
        obtain ⟨Is35, Fs35, JEAJ_s35, JMSJ_s35, JKNJ_s35, hv, hps35⟩ := hq
        cases hv
        have Gs35 := fm_tq Fs30 Fs35 rfl rfl
        have JTMK_s35 : TMK U S qn lj hj ft s35 := TMK_fm Fs35 (by decide) JTMK_s30
        have ws35_41 : iI s35 41 = iI s30 41 := fm_iq Fs35 rfl
        have b37 := bi_42 Is35
        show WS k 114 [(6, .int (Int32.ofInt (iC s 11 ((((iI s 39) * 12) + (iC s 72 (x).toNat))).toNat))), (0, .ref (A 67)), (1, .int (Int32.ofInt x)), (2, .int (Int32.ofInt y)), (3, .int (Int32.ofInt z)), (4, .int (Int32.ofInt w)), (5, .int (Int32.ofInt v))] [] (Wd A dT s35) 0 0
        have hq1 : TRQ ft B (x + 1) (y + rd9 s (x : Int).toNat) z w s30 s35 := by have zz := hps35; rw [hr2] at zz; exact zz
        have hT1 : TRS (tr1 ft s x y z w B) x s s35 := by unfold tr1; rw [ap_y (show iC s 73 (x : Int).toNat ≠ -1 by first | (clear g11; omega) | omega)]; exact trs_call hT0 (by first | (clear g11; omega) | omega) aws30_74 (by first | (clear g11; omega) | omega) (mo9_fm Fs30 (by decide)) (rd9_fm Fs30 (by decide)) hq1
        refine z_load_n X (x := z) rfl (List.Mem.tail _ (List.Mem.tail _ (List.Mem.tail _ (List.Mem.tail _ (List.Mem.head _))))) (z_if_le X (t := 146) rfl rfl ⟨by first | exact oq_fa4e5087 p4.1 | omega, by first | exact oq_d3f5d874 p4.2 | omega⟩ (fun g38 => ?_) (fun g38 => ?_))
        ·
          have hT2 : TRS (tr2 ft s x y z w (tr1 ft s x y z w B)) x s s35 := by unfold tr2; rw [ap_n (show ¬ 0 < z by first | (clear g11; omega) | omega)]; exact hT1
          refine z_load X (x := w) rfl (List.Mem.tail _ (List.Mem.tail _ (List.Mem.tail _ (List.Mem.tail _ (List.Mem.tail _ (List.Mem.head _)))))) (z_if_le X (t := 179) rfl rfl ⟨by first | exact oq_fa4e5087 p5.1 | omega, by first | exact oq_d3f5d874 p5.2 | omega⟩ (fun g39 => ?_) (fun g39 => ?_))
          ·
            have hT3 : TRS (tr3 ft s x y z w (tr2 ft s x y z w (tr1 ft s x y z w B))) x s s35 := by unfold tr3; rw [ap_n (show ¬ 0 < w by first | (clear g11; omega) | omega)]; exact hT2
            exact w_vret X.1 q hRt (ax_d X (show cdA 96 179 = some (.return_, 1, 0, 0, 0) from rfl)) (Nat.zero_le _) (Nat.zero_le _) ⟨_, rfl, Is35, Gs35, JEAJ_s35, JMSJ_s35, JKNJ_s35, rfl, (trq_e (by first | (clear g11; omega) | omega) hl hT3)⟩
          ·
            refine z_aload_n X (x := A 67) rfl (List.Mem.tail _ (List.Mem.head _)) (s_getR X 67 rfl (c518_ok rfl) rfl rfl (z_load_n X (x := x) rfl (List.Mem.tail _ (List.Mem.tail _ (List.Mem.head _))) (z_const X rfl (z_ast X 87 rfl (c518_ok rfl) rfl (by first | exact p0.1 | omega) (show x < 8 by first | exact oq_7f5b2e79 g6 p2 | omega) (cbig_ok rfl) (wd_gen (fun s40 hs40 => ?_))))))
            have Is40 : Bd s40 := eqB hs40 (bd_C Is35 (show ((-2147483648) : Int) ≤ 3 ∧ 3 ≤ 2147483647 by first | exact ⟨by decide, by decide⟩ | omega) (by decide))
            have Fs40 := eqF hs40 (fm_C Gs35 (inl_ok (a := 74) rfl))
            have ws40_41 : iI s40 41 = iI s35 41 := eqI hs40 rfl
            have ws40_42 : iI s40 42 = iI s35 42 := eqI hs40 rfl
            have aws40_74 : UPD 74 (x) 3 s35 s40 := by rw [hs40]; exact upd_put (sam_rf (a := 74) (s := s35)) (by decide)
            have aws40_75 : SAM 75 s35 s40 := by rw [hs40]; exact sam_C (by decide) (sam_rf (a := 75) (s := s35))
            have fs40 : Fm [] [74] s35 s40 := by rw [hs40]; exact fm_C (fm_rf _ _ _) (show 74 ∈ _ by decide)
            have JTMK_s40 : TMK U S qn lj hj ft s40 := TMK_fm fs40 (by decide) JTMK_s35
            have JEAJ_s40 : EAJ lj hj s40 := EAJ_fm fs40 (by decide) JEAJ_s35
            have JMSJ_s40 : MSJ U S qn s40 := MSJ_fm fs40 (by decide) JMSJ_s35
            have JKNJ_s40 : KNJ ft s40 := KNJ_fm fs40 (by decide) JKNJ_s35
            refine z_aload_n X (x := A 67) rfl (List.Mem.tail _ (List.Mem.head _)) (z_load_n X (x := x) rfl (List.Mem.tail _ (List.Mem.tail _ (List.Mem.head _))) (z_const X rfl (z_add X rfl (z_load_n X (x := y) rfl (List.Mem.tail _ (List.Mem.tail _ (List.Mem.tail _ (List.Mem.head _)))) (z_bipush X rfl (z_load X (x := (iC s 11 ((((iI s 39) * 12) + (iC s 72 (x).toNat))).toNat)) rfl (List.Mem.head _) (z_mul X rfl (z_add X rfl (z_load_n X (x := z) rfl (List.Mem.tail _ (List.Mem.tail _ (List.Mem.tail _ (List.Mem.tail _ (List.Mem.head _))))) (z_load X (x := w) rfl (List.Mem.tail _ (List.Mem.tail _ (List.Mem.tail _ (List.Mem.tail _ (List.Mem.tail _ (List.Mem.head _)))))) (z_const X rfl ?_)))))))))))
            refine z_sub X rfl (z_load X (x := v) rfl (List.Mem.tail _ (List.Mem.tail _ (List.Mem.tail _ (List.Mem.tail _ (List.Mem.tail _ (List.Mem.tail _ (List.Mem.head _))))))) ?_)
            have hPL41 : TRP (tr2 ft s x y z w (tr1 ft s x y z w B)) (x + 1) v s40 := trp_in hT2 (by first | (clear g11; omega) | omega) hv7 aws40_74 (by first | (clear g11; omega) | omega) (by first | (clear g11; omega) | omega) aws40_75 (Or.inr ⟨by decide, rfl⟩)
            refine z_callV X 67 (rm := (rkR (30 + (r)))) (As := [.int (Int32.ofInt (x + 1)), .int (Int32.ofInt (y + (60 * (iC s 11 ((((iI s 39) * 12) + (iC s 72 (x).toNat))).toNat)))), .int (Int32.ofInt z), .int (Int32.ofInt (w - 1)), .int (Int32.ofInt v)]) (st := []) rfl rfl (by decide) rfl (by rw [E.1, E.2.1, E.2.2.1]; exact hR Is40 JTMK_s40 JEAJ_s40 JMSJ_s40 JKNJ_s40 (by first | exact ⟨oq_54f49eb5 p0.1, oq_11bbe77e ws40_41 g6 ws35_41 ws30_41⟩ | omega) (by first | exact oq_7e901d26 p1 ws40_41 ws35_41 ws30_41 | omega) (by first | exact oq_e14d47df ws40_41 ws35_41 ws30_41 p2 | omega) (by first | exact ⟨oq_bfa8c294 p3.1 b9.1, oq_d01bb3c2 p3.2 b9.2⟩ | omega) (by first | exact ⟨p4.1, p4.2⟩ | omega) (by first | exact ⟨oq_a4f22177 g39, oq_d7fe5c3c p5.2⟩ | omega) (by first | exact ⟨p6.1, p6.2⟩ | omega) (hPL41)) ⟨by rw [E.2.2.2]; exact (show (12 + (30 + (r))) + 1 ≤ (12 + (30 + (r + 1))) from oq_bb14859f r), by rw [E.2.2.2]; exact (show 8 + (7 + 11) + (500 + 45 * (30 + (r))) ≤ (500 + 45 * (30 + (r + 1))) from oq_0bdccef0 r), by rw [E.2.2.2]; exact Nat.le_refl 0, by rw [E.2.2.2]; exact Nat.le_refl 0⟩ (Nat.le_of_ble_eq_true rfl) (fun vv s42 hq => ?_) (fun ee s42 hq => ?_)
            rotate_left
            · obtain ⟨Is42, Fs42, JEAJ_s42, JMSJ_s42, JKNJ_s42, hv, hps42⟩ := hq; cases hv
            obtain ⟨Is42, Fs42, JEAJ_s42, JMSJ_s42, JKNJ_s42, hv, hps42⟩ := hq
            cases hv
            have Gs42 := fm_tq Fs40 Fs42 rfl rfl
            have ws42_41 : iI s42 41 = iI s40 41 := fm_iq Fs42 rfl
            have b44 := bi_42 Is42
            show WS k 179 [(6, .int (Int32.ofInt (iC s 11 ((((iI s 39) * 12) + (iC s 72 (x).toNat))).toNat))), (0, .ref (A 67)), (1, .int (Int32.ofInt x)), (2, .int (Int32.ofInt y)), (3, .int (Int32.ofInt z)), (4, .int (Int32.ofInt w)), (5, .int (Int32.ofInt v))] [] (Wd A dT s42) 0 0
            have hq3 : TRQ ft (tr2 ft s x y z w (tr1 ft s x y z w B)) (x + 1) (y + 60 * mo9 s (x : Int).toNat) z (w - 1) s40 s42 := by have zz := hps42; rw [hm6] at zz; exact zz
            have hT3 : TRS (tr3 ft s x y z w (tr2 ft s x y z w (tr1 ft s x y z w B))) x s s42 := by unfold tr3; rw [ap_y (show 0 < w by first | (clear g11; omega) | omega)]; exact trs_call hT2 (by first | (clear g11; omega) | omega) aws40_74 (by first | (clear g11; omega) | omega) (mo9_fm Fs40 (by decide)) (rd9_fm Fs40 (by decide)) hq3
            exact w_vret X.1 q hRt (ax_d X (show cdA 96 179 = some (.return_, 1, 0, 0, 0) from rfl)) (Nat.zero_le _) (Nat.zero_le _) ⟨_, rfl, Is42, Gs42, JEAJ_s42, JMSJ_s42, JKNJ_s42, rfl, (trq_e (by first | (clear g11; omega) | omega) hl hT3)⟩
        ·
          refine z_aload_n X (x := A 67) rfl (List.Mem.tail _ (List.Mem.head _)) (s_getR X 67 rfl (c518_ok rfl) rfl rfl (z_load_n X (x := x) rfl (List.Mem.tail _ (List.Mem.tail _ (List.Mem.head _))) (z_const X rfl (z_ast X 87 rfl (c518_ok rfl) rfl (by first | exact p0.1 | omega) (show x < 8 by first | exact oq_7f5b2e79 g6 p2 | omega) (cbig_ok rfl) (wd_gen (fun s45 hs45 => ?_))))))
          have Is45 : Bd s45 := eqB hs45 (bd_C Is35 (show ((-2147483648) : Int) ≤ 2 ∧ 2 ≤ 2147483647 by first | exact ⟨by decide, by decide⟩ | omega) (by decide))
          have Fs45 := eqF hs45 (fm_C Gs35 (inl_ok (a := 74) rfl))
          have ws45_41 : iI s45 41 = iI s35 41 := eqI hs45 rfl
          have ws45_42 : iI s45 42 = iI s35 42 := eqI hs45 rfl
          have aws45_74 : UPD 74 (x) 2 s35 s45 := by rw [hs45]; exact upd_put (sam_rf (a := 74) (s := s35)) (by decide)
          have aws45_75 : SAM 75 s35 s45 := by rw [hs45]; exact sam_C (by decide) (sam_rf (a := 75) (s := s35))
          have fs45 : Fm [] [74] s35 s45 := by rw [hs45]; exact fm_C (fm_rf _ _ _) (show 74 ∈ _ by decide)
          have JTMK_s45 : TMK U S qn lj hj ft s45 := TMK_fm fs45 (by decide) JTMK_s35
          have JEAJ_s45 : EAJ lj hj s45 := EAJ_fm fs45 (by decide) JEAJ_s35
          have JMSJ_s45 : MSJ U S qn s45 := MSJ_fm fs45 (by decide) JMSJ_s35
          have JKNJ_s45 : KNJ ft s45 := KNJ_fm fs45 (by decide) JKNJ_s35
          refine z_aload_n X (x := A 67) rfl (List.Mem.tail _ (List.Mem.head _)) (z_load_n X (x := x) rfl (List.Mem.tail _ (List.Mem.tail _ (List.Mem.head _))) (z_const X rfl (z_add X rfl (z_load_n X (x := y) rfl (List.Mem.tail _ (List.Mem.tail _ (List.Mem.tail _ (List.Mem.head _)))) (z_bipush X rfl (z_load X (x := (iC s 11 ((((iI s 39) * 12) + (iC s 72 (x).toNat))).toNat)) rfl (List.Mem.head _) (z_mul X rfl (z_add X rfl (z_load_n X (x := z) rfl (List.Mem.tail _ (List.Mem.tail _ (List.Mem.tail _ (List.Mem.tail _ (List.Mem.head _))))) (z_const X rfl (z_sub X rfl ?_)))))))))))
          refine z_load X (x := w) rfl (List.Mem.tail _ (List.Mem.tail _ (List.Mem.tail _ (List.Mem.tail _ (List.Mem.tail _ (List.Mem.head _)))))) (z_load X (x := v) rfl (List.Mem.tail _ (List.Mem.tail _ (List.Mem.tail _ (List.Mem.tail _ (List.Mem.tail _ (List.Mem.tail _ (List.Mem.head _))))))) ?_)
          have hPL46 : TRP (tr1 ft s x y z w B) (x + 1) v s45 := trp_in hT1 (by first | (clear g11; omega) | omega) hv7 aws45_74 (by first | (clear g11; omega) | omega) (by first | (clear g11; omega) | omega) aws45_75 (Or.inr ⟨by decide, rfl⟩)
          refine z_callV X 67 (rm := (rkR (30 + (r)))) (As := [.int (Int32.ofInt (x + 1)), .int (Int32.ofInt (y + (15 * (iC s 11 ((((iI s 39) * 12) + (iC s 72 (x).toNat))).toNat)))), .int (Int32.ofInt (z - 1)), .int (Int32.ofInt w), .int (Int32.ofInt v)]) (st := []) rfl rfl (by decide) rfl (by rw [E.1, E.2.1, E.2.2.1]; exact hR Is45 JTMK_s45 JEAJ_s45 JMSJ_s45 JKNJ_s45 (by first | exact ⟨oq_54f49eb5 p0.1, oq_11bbe77e ws45_41 g6 ws35_41 ws30_41⟩ | omega) (by first | exact oq_7e901d26 p1 ws45_41 ws35_41 ws30_41 | omega) (by first | exact oq_e14d47df ws45_41 ws35_41 ws30_41 p2 | omega) (by first | exact ⟨oq_79fab92d p3.1 b9.1, oq_147874d5 p3.2 b9.2⟩ | omega) (by first | exact ⟨oq_a4f22177 g38, oq_d7fe5c3c p4.2⟩ | omega) (by first | exact ⟨p5.1, p5.2⟩ | omega) (by first | exact ⟨p6.1, p6.2⟩ | omega) (hPL46)) ⟨by rw [E.2.2.2]; exact (show (12 + (30 + (r))) + 1 ≤ (12 + (30 + (r + 1))) from oq_bb14859f r), by rw [E.2.2.2]; exact (show 8 + (7 + 11) + (500 + 45 * (30 + (r))) ≤ (500 + 45 * (30 + (r + 1))) from oq_0bdccef0 r), by rw [E.2.2.2]; exact Nat.le_refl 0, by rw [E.2.2.2]; exact Nat.le_refl 0⟩ (Nat.le_of_ble_eq_true rfl) (fun vv s47 hq => ?_) (fun ee s47 hq => ?_)
          rotate_left
          · obtain ⟨Is47, Fs47, JEAJ_s47, JMSJ_s47, JKNJ_s47, hv, hps47⟩ := hq; cases hv
          obtain ⟨Is47, Fs47, JEAJ_s47, JMSJ_s47, JKNJ_s47, hv, hps47⟩ := hq
          cases hv
          have Gs47 := fm_tq Fs45 Fs47 rfl rfl
          have JTMK_s47 : TMK U S qn lj hj ft s47 := TMK_fm Fs47 (by decide) JTMK_s45
          have ws47_41 : iI s47 41 = iI s45 41 := fm_iq Fs47 rfl
          have b49 := bi_42 Is47
          show WS k 146 [(6, .int (Int32.ofInt (iC s 11 ((((iI s 39) * 12) + (iC s 72 (x).toNat))).toNat))), (0, .ref (A 67)), (1, .int (Int32.ofInt x)), (2, .int (Int32.ofInt y)), (3, .int (Int32.ofInt z)), (4, .int (Int32.ofInt w)), (5, .int (Int32.ofInt v))] [] (Wd A dT s47) 0 0
          have hq2 : TRQ ft (tr1 ft s x y z w B) (x + 1) (y + 15 * mo9 s (x : Int).toNat) (z - 1) w s45 s47 := by have zz := hps47; rw [hm6] at zz; exact zz
          have hT2 : TRS (tr2 ft s x y z w (tr1 ft s x y z w B)) x s s47 := by unfold tr2; rw [ap_y (show 0 < z by first | (clear g11; omega) | omega)]; exact trs_call hT1 (by first | (clear g11; omega) | omega) aws45_74 (by first | (clear g11; omega) | omega) (mo9_fm Fs45 (by decide)) (rd9_fm Fs45 (by decide)) hq2
          refine z_load X (x := w) rfl (List.Mem.tail _ (List.Mem.tail _ (List.Mem.tail _ (List.Mem.tail _ (List.Mem.tail _ (List.Mem.head _)))))) (z_if_le X (t := 179) rfl rfl ⟨by first | exact oq_fa4e5087 p5.1 | omega, by first | exact oq_d3f5d874 p5.2 | omega⟩ (fun g50 => ?_) (fun g50 => ?_))
          ·
            have hT3 : TRS (tr3 ft s x y z w (tr2 ft s x y z w (tr1 ft s x y z w B))) x s s47 := by unfold tr3; rw [ap_n (show ¬ 0 < w by first | (clear g11; omega) | omega)]; exact hT2
            exact w_vret X.1 q hRt (ax_d X (show cdA 96 179 = some (.return_, 1, 0, 0, 0) from rfl)) (Nat.zero_le _) (Nat.zero_le _) ⟨_, rfl, Is47, Gs47, JEAJ_s47, JMSJ_s47, JKNJ_s47, rfl, (trq_e (by first | (clear g11; omega) | omega) hl hT3)⟩
          ·
            refine z_aload_n X (x := A 67) rfl (List.Mem.tail _ (List.Mem.head _)) (s_getR X 67 rfl (c518_ok rfl) rfl rfl (z_load_n X (x := x) rfl (List.Mem.tail _ (List.Mem.tail _ (List.Mem.head _))) (z_const X rfl (z_ast X 87 rfl (c518_ok rfl) rfl (by first | exact p0.1 | omega) (show x < 8 by first | exact oq_7f5b2e79 g6 p2 | omega) (cbig_ok rfl) (wd_gen (fun s51 hs51 => ?_))))))
            have Is51 : Bd s51 := eqB hs51 (bd_C Is47 (show ((-2147483648) : Int) ≤ 3 ∧ 3 ≤ 2147483647 by first | exact ⟨by decide, by decide⟩ | omega) (by decide))
            have Fs51 := eqF hs51 (fm_C Gs47 (inl_ok (a := 74) rfl))
            have ws51_41 : iI s51 41 = iI s47 41 := eqI hs51 rfl
            have ws51_42 : iI s51 42 = iI s47 42 := eqI hs51 rfl
            have aws51_74 : UPD 74 (x) 3 s47 s51 := by rw [hs51]; exact upd_put (sam_rf (a := 74) (s := s47)) (by decide)
            have aws51_75 : SAM 75 s47 s51 := by rw [hs51]; exact sam_C (by decide) (sam_rf (a := 75) (s := s47))
            have fs51 : Fm [] [74] s47 s51 := by rw [hs51]; exact fm_C (fm_rf _ _ _) (show 74 ∈ _ by decide)
            have JTMK_s51 : TMK U S qn lj hj ft s51 := TMK_fm fs51 (by decide) JTMK_s47
            have JEAJ_s51 : EAJ lj hj s51 := EAJ_fm fs51 (by decide) JEAJ_s47
            have JMSJ_s51 : MSJ U S qn s51 := MSJ_fm fs51 (by decide) JMSJ_s47
            have JKNJ_s51 : KNJ ft s51 := KNJ_fm fs51 (by decide) JKNJ_s47
            refine z_aload_n X (x := A 67) rfl (List.Mem.tail _ (List.Mem.head _)) (z_load_n X (x := x) rfl (List.Mem.tail _ (List.Mem.tail _ (List.Mem.head _))) (z_const X rfl (z_add X rfl (z_load_n X (x := y) rfl (List.Mem.tail _ (List.Mem.tail _ (List.Mem.tail _ (List.Mem.head _)))) (z_bipush X rfl (z_load X (x := (iC s 11 ((((iI s 39) * 12) + (iC s 72 (x).toNat))).toNat)) rfl (List.Mem.head _) (z_mul X rfl (z_add X rfl (z_load_n X (x := z) rfl (List.Mem.tail _ (List.Mem.tail _ (List.Mem.tail _ (List.Mem.tail _ (List.Mem.head _))))) (z_load X (x := w) rfl (List.Mem.tail _ (List.Mem.tail _ (List.Mem.tail _ (List.Mem.tail _ (List.Mem.tail _ (List.Mem.head _)))))) (z_const X rfl ?_)))))))))))
            refine z_sub X rfl (z_load X (x := v) rfl (List.Mem.tail _ (List.Mem.tail _ (List.Mem.tail _ (List.Mem.tail _ (List.Mem.tail _ (List.Mem.tail _ (List.Mem.head _))))))) ?_)
            have hPL52 : TRP (tr2 ft s x y z w (tr1 ft s x y z w B)) (x + 1) v s51 := trp_in hT2 (by first | (clear g11; omega) | omega) hv7 aws51_74 (by first | (clear g11; omega) | omega) (by first | (clear g11; omega) | omega) aws51_75 (Or.inr ⟨by decide, rfl⟩)
            refine z_callV X 67 (rm := (rkR (30 + (r)))) (As := [.int (Int32.ofInt (x + 1)), .int (Int32.ofInt (y + (60 * (iC s 11 ((((iI s 39) * 12) + (iC s 72 (x).toNat))).toNat)))), .int (Int32.ofInt z), .int (Int32.ofInt (w - 1)), .int (Int32.ofInt v)]) (st := []) rfl rfl (by decide) rfl (by rw [E.1, E.2.1, E.2.2.1]; exact hR Is51 JTMK_s51 JEAJ_s51 JMSJ_s51 JKNJ_s51 (by first | exact ⟨oq_54f49eb5 p0.1, oq_972d7f28 ws51_41 ws47_41 ws45_41 ws35_41 ws30_41 g6⟩ | omega) (by first | exact oq_c5aacb7e ws51_41 ws47_41 ws45_41 ws35_41 ws30_41 p1 | omega) (by first | exact oq_4e421259 ws51_41 ws47_41 ws45_41 ws35_41 ws30_41 p2 | omega) (by first | exact ⟨oq_bfa8c294 p3.1 b9.1, oq_d01bb3c2 p3.2 b9.2⟩ | omega) (by first | exact ⟨p4.1, p4.2⟩ | omega) (by first | exact ⟨oq_a4f22177 g50, oq_d7fe5c3c p5.2⟩ | omega) (by first | exact ⟨p6.1, p6.2⟩ | omega) (hPL52)) ⟨by rw [E.2.2.2]; exact (show (12 + (30 + (r))) + 1 ≤ (12 + (30 + (r + 1))) from oq_bb14859f r), by rw [E.2.2.2]; exact (show 8 + (7 + 11) + (500 + 45 * (30 + (r))) ≤ (500 + 45 * (30 + (r + 1))) from oq_0bdccef0 r), by rw [E.2.2.2]; exact Nat.le_refl 0, by rw [E.2.2.2]; exact Nat.le_refl 0⟩ (Nat.le_of_ble_eq_true rfl) (fun vv s53 hq => ?_) (fun ee s53 hq => ?_)
            rotate_left
            · obtain ⟨Is53, Fs53, JEAJ_s53, JMSJ_s53, JKNJ_s53, hv, hps53⟩ := hq; cases hv
            obtain ⟨Is53, Fs53, JEAJ_s53, JMSJ_s53, JKNJ_s53, hv, hps53⟩ := hq
            cases hv
            have Gs53 := fm_tq Fs51 Fs53 rfl rfl
            have ws53_41 : iI s53 41 = iI s51 41 := fm_iq Fs53 rfl
            have b55 := bi_42 Is53
            show WS k 179 [(6, .int (Int32.ofInt (iC s 11 ((((iI s 39) * 12) + (iC s 72 (x).toNat))).toNat))), (0, .ref (A 67)), (1, .int (Int32.ofInt x)), (2, .int (Int32.ofInt y)), (3, .int (Int32.ofInt z)), (4, .int (Int32.ofInt w)), (5, .int (Int32.ofInt v))] [] (Wd A dT s53) 0 0
            have hq3 : TRQ ft (tr2 ft s x y z w (tr1 ft s x y z w B)) (x + 1) (y + 60 * mo9 s (x : Int).toNat) z (w - 1) s51 s53 := by have zz := hps53; rw [hm6] at zz; exact zz
            have hT3 : TRS (tr3 ft s x y z w (tr2 ft s x y z w (tr1 ft s x y z w B))) x s s53 := by unfold tr3; rw [ap_y (show 0 < w by first | (clear g11; omega) | omega)]; exact trs_call hT2 (by first | (clear g11; omega) | omega) aws51_74 (by first | (clear g11; omega) | omega) (mo9_fm Fs51 (by decide)) (rd9_fm Fs51 (by decide)) hq3
            exact w_vret X.1 q hRt (ax_d X (show cdA 96 179 = some (.return_, 1, 0, 0, 0) from rfl)) (Nat.zero_le _) (Nat.zero_le _) ⟨_, rfl, Is53, Gs53, JEAJ_s53, JMSJ_s53, JKNJ_s53, rfl, (trq_e (by first | (clear g11; omega) | omega) hl hT3)⟩
    ·
      refine z_aload_n X (x := A 67) rfl (List.Mem.head _) (z_load X (x := v) rfl (List.Mem.tail _ (List.Mem.tail _ (List.Mem.tail _ (List.Mem.tail _ (List.Mem.tail _ (List.Mem.head _)))))) (z_callV X 67 (rm := rmN 97) (As := [.int (Int32.ofInt v)]) (st := []) rfl rfl (by decide) rfl (by rw [E.1, E.2.1, E.2.2.1]; exact c8_fits9 G I jTMK jEAJ jMSJ jKNJ (by first | exact ⟨p6.1, p6.2⟩ | omega) (by first | exact p2 | omega)) ⟨by rw [E.2.2.2]; exact (show 10 + 1 ≤ (12 + (30 + (r + 1))) from oq_70312ee3 r), by rw [E.2.2.2]; exact (show 8 + (2 + 11) + 195 ≤ (500 + 45 * (30 + (r + 1))) from oq_8f886a78 r), by rw [E.2.2.2]; exact Nat.le_refl 0, by rw [E.2.2.2]; exact Nat.le_refl 0⟩ (Nat.le_of_ble_eq_true rfl) (fun vv s56 hq => ?_) (fun ee s56 hq => ?_)))
      rotate_left
      · obtain ⟨Is56, Fs56, JEAJ_s56, JMSJ_s56, JKNJ_s56, e57, hv, hrs56, hps56⟩ := hq; cases hv
      obtain ⟨Is56, Fs56, JEAJ_s56, JMSJ_s56, JKNJ_s56, e57, hv, hrs56, hps56⟩ := hq
      cases hv
      have Gs56 := fm_tq F Fs56 rfl rfl
      have ws56_41 : iI s56 41 = iI s 41 := fm_iq Fs56 rfl
      have ws56_42 : iI s56 42 = iI s 42 := fm_iq Fs56 rfl
      have aws56_74 : SAM 74 s s56 := sam_ts aw0_74 (sam_fm Fs56 (by decide))
      have aws56_75 : SAM 75 s s56 := sam_ts aw0_75 (sam_fm Fs56 (by decide))
      show WS k 23 [(0, .ref (A 67)), (1, .int (Int32.ofInt x)), (2, .int (Int32.ofInt y)), (3, .int (Int32.ofInt z)), (4, .int (Int32.ofInt w)), (5, .int (Int32.ofInt v))] [.int (Int32.ofInt e57)] (Wd A dT s56) 0 0
      refine z_if_eq X (t := 48) rfl rfl hrs56 (fun g58 => ?_) (fun g58 => ?_)
      ·
        exact w_vret X.1 q hRt (ax_d X (show cdA 96 48 = some (.return_, 1, 0, 0, 0) from rfl)) (Nat.zero_le _) (Nat.zero_le _) ⟨_, rfl, Is56, Gs56, JEAJ_s56, JMSJ_s56, JKNJ_s56, rfl, (trq_0 p7 (by first | (clear hps56; omega) | omega) ((hps56).elim (fun z => absurd z.1 (by first | (clear hps56; omega) | omega)) (fun z => z.2)) (fm_i Fs56 (by decide)) (sam_fm Fs56 (by decide)) (sam_fm Fs56 (by decide)))⟩
      ·
        refine z_aload_n X (x := A 67) rfl (List.Mem.head _) (z_load_n X (x := y) rfl (List.Mem.tail _ (List.Mem.tail _ (List.Mem.head _))) (s_putI X 67 rfl (c518_ok rfl) rfl rfl (by decide) rfl rfl rfl (wd_gen (fun s59 hs59 => ?_))))
        have Is59 : Bd s59 := eqB hs59 (bd_I Is56 (show ((-2147483648) : Int) ≤ y ∧ y ≤ 2147483647 by first | exact ⟨oq_fa4e5087 p3.1, oq_ef392b12 g4 b3.2⟩ | omega) ⟨by first | exact oq_fa4e5087 p3.1 | omega, by first | exact oq_ef392b12 g4 b3.2 | omega⟩)
        have Fs59 := eqF hs59 (fm_I Gs56 (inl_ok (a := 42) rfl))
        have vs59 : iI s59 42 = y := eqI hs59 (iI_u ⟨by first | exact oq_fa4e5087 p3.1 | omega, by first | exact oq_ef392b12 g4 b3.2 | omega⟩)
        have ws59_41 : iI s59 41 = iI s56 41 := eqI hs59 rfl
        have aws59_74 : SAM 74 s s59 := by rw [hs59]; exact aws56_74
        have aws59_75 : SAM 75 s s59 := by rw [hs59]; exact aws56_75
        have fs59 : Fm [42] [] s56 s59 := by rw [hs59]; exact fm_I (fm_rf _ _ _) (show 42 ∈ _ by decide)
        have JEAJ_s59 : EAJ lj hj s59 := EAJ_fm fs59 (by decide) JEAJ_s56
        have JMSJ_s59 : MSJ U S qn s59 := MSJ_fm fs59 (by decide) JMSJ_s56
        have JKNJ_s59 : KNJ ft s59 := KNJ_fm fs59 (by decide) JKNJ_s56
        refine z_aload_n X (x := A 67) rfl (List.Mem.head _) (s_getR X 67 rfl (c518_ok rfl) rfl rfl (z_const X rfl (z_aload_n X (x := A 67) rfl (List.Mem.head _) (s_getR X 67 rfl (c518_ok rfl) rfl rfl (z_const X rfl (z_aload_n X (x := A 67) rfl (List.Mem.head _) (z_getI X 67 rfl (c518_ok rfl) rfl rfl ?_)))))))
        have b60 := bi_41 Is59
        refine z_copyF X Is59 87 88 (st := []) rfl (by decide) (by decide) rfl rfl (by first | (clear g58 hps56; omega) | (clear hps56; omega) | omega) (by first | (clear g58 hps56; omega) | (clear hps56; omega) | omega) (by first | (clear g58 hps56; omega) | (clear hps56; omega) | omega) (show 0 + (iI s59 41) ≤ ((8 : Nat) : Int) by first | (clear g58 hps56; omega) | (clear hps56; omega) | omega) (show 0 + (iI s59 41) ≤ ((8 : Nat) : Int) by first | (clear g58 hps56; omega) | (clear hps56; omega) | omega) (by decide) (by rw [E.2.2.2]; exact (show 1 ≤ (12 + (30 + (r + 1))) by first | (clear g58 hps56; omega) | (clear hps56; omega) | omega)) (by rw [E.2.2.2]; exact (show 0 + 40 ≤ (500 + 45 * (30 + (r + 1))) by first | (clear g58 hps56; omega) | (clear hps56; omega) | omega)) (fun s61 Is61 Fs61 cs61 => ?_)
        have Gs61 := fm_tq Fs59 Fs61 rfl rfl
        have JEAJ_s61 : EAJ lj hj s61 := EAJ_fm Fs61 (by decide) JEAJ_s59
        have JMSJ_s61 : MSJ U S qn s61 := MSJ_fm Fs61 (by decide) JMSJ_s59
        have JKNJ_s61 : KNJ ft s61 := KNJ_fm Fs61 (by decide) JKNJ_s59
        have aws61_74 : SAM 74 s s61 := sam_ts aws59_74 (sam_fm Fs61 (by decide))
        have ws61_41 : iI s61 41 = iI s59 41 := fm_iq Fs61 rfl
        have ws61_42 : iI s61 42 = iI s59 42 := fm_iq Fs61 rfl
        exact w_vret X.1 q hRt (ax_d X (show cdA 96 48 = some (.return_, 1, 0, 0, 0) from rfl)) (Nat.zero_le _) (Nat.zero_le _) ⟨_, rfl, Is61, Gs61, JEAJ_s61, JMSJ_s61, JKNJ_s61, rfl, (trq_1 p7 (by first | (clear g58 hps56; omega) | (clear hps56; omega) | omega) ((hps56).elim (fun z => z.2) (fun z => absurd z.1 (by first | (clear g58 hps56; omega) | (clear hps56; omega) | omega))) (bss_g p7.1 (by first | (clear g58 hps56; omega) | (clear hps56; omega) | omega) (by first | (clear g58 hps56; omega) | (clear hps56; omega) | omega)) (by first | (clear g58 hps56; omega) | (clear hps56; omega) | omega) (by first | (clear g58 hps56; omega) | (clear hps56; omega) | omega) (fun j hj => by have w9 : j < (iI s 41).toNat := hj; have zz := cs61 j (by first | (clear g58 hps56; omega) | (clear hps56; omega) | omega); rw [if_pos (by first | (clear g58 hps56; omega) | (clear hps56; omega) | omega), show (0 : Int).toNat + (j - (0 : Int).toNat) = j by first | (clear g58 hps56; omega) | (clear hps56; omega) | omega] at zz; exact zz.trans ((show iC s59 74 j = iC s56 74 j by rw [hs59]; rfl).trans (fm_c Fs56 (by decide)))) (fun j => (show iC s61 74 j = iC s59 74 j from fm_c Fs61 (by decide)).trans ((show iC s59 74 j = iC s56 74 j by rw [hs59]; rfl).trans (fm_c Fs56 (by decide)))))⟩
  ·
    exact w_vret X.1 q hRt (ax_d X (show cdA 96 8 = some (.return_, 1, 0, 0, 0) from rfl)) (Nat.zero_le _) (Nat.zero_le _) ⟨_, rfl, I, F, jEAJ, jMSJ, jKNJ, rfl, (trq_no p7 (by omega) (by omega))⟩
theorem c8_try9 (G : GX l s0 D tys a0 dT) {U : AirD} {S : Int → Prop} {qn : Nat} {lj hj : Nat → Int64} {ft : Int → Prop} (r : Nat) : ∀ {s : PS} {x y z w v : Int} {B : MdO}, Bd s → TMK U S qn lj hj ft s → EAJ lj hj s → MSJ U S qn s → KNJ ft s → (0 ≤ x ∧ x ≤ iI s 41) → (iI s 41 - x ≤ ((r : Nat) : Int)) → (iI s 41 ≤ 8) → (0 ≤ y ∧ y ≤ 3000 * x) → (0 ≤ z ∧ z ≤ 8) → (0 ≤ w ∧ w ≤ 8) → (0 ≤ v ∧ v ≤ 255) → (TRP B x v s) → CT l s0 D A dT 96 (rkR (30 + (r))) [.ref (A 67), .int (Int32.ofInt x), .int (Int32.ofInt y), .int (Int32.ofInt z), .int (Int32.ofInt w), .int (Int32.ofInt v)] s (fun o t => Bd t ∧ Fm [42] [67, 20, 76, 74, 75, 87, 96, 105, 114, 123, 132, 141, 150] s t ∧ EAJ lj hj t ∧ MSJ U S qn t ∧ KNJ ft t ∧ o = .inl none ∧ (TRQ ft B x y z w s t)) := by
  induction r with
  | zero => exact fun {_ _ _ _ _ _ _} I j1 j2 j3 j4 p0 p1 p2 p3 p4 p5 p6 p7 => c8_try90 G I j1 j2 j3 j4 p0 p1 p2 p3 p4 p5 p6 p7
  | succ r ih => exact fun {_ _ _ _ _ _ _} I j1 j2 j3 j4 p0 p1 p2 p3 p4 p5 p6 p7 => c8_try9S G ih I j1 j2 j3 j4 p0 p1 p2 p3 p4 p5 p6 p7
end M87kx
