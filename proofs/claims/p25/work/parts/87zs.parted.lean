theorem oq_d672a951 {a0 a1 : Int} (h0 : a0 < a1) (h1 : a1 ≤ 3) : a0 ≤ 2147483647 := by omega
theorem oq_104b49d1 {a0 a1 : Int} (h0 : a0 = 0) (h1 : 1 ≤ a1) : (a0 + 1) ≤ a1 := by omega
theorem oq_1f22b0de {a0 : Int} (h0 : a0 = 0) : 0 < (3 - a0) := by omega
theorem oq_9499932b {a0 a1 a2 : Int} (h0 : a0 = a1) (h1 : 1 ≤ a1) (h2 : (a0 = 0 ∨ 1 ≤ a2)) : 1 ≤ a2 := by omega
theorem oq_965a5b02 {a0 a1 : Int} (h0 : a0 ≤ a1) (h1 : a1 ≤ 3) : a0 ≤ 7 := by omega
theorem oq_025a4bda {a0 a1 a2 a3 a4 : Int} (h0 : a0 = a1) (h1 : a2 = a3) (h2 : a1 = a4) (h3 : a3 < a4) : (a2 + 1) ≤ a0 := by omega
theorem oq_5d13812a {a0 a1 a3 a4 a5 : Int} {n2 : Nat} (h0 : (a0 - a1) ≤ (((n2 + 1) : Nat) : Int)) (h1 : a3 = a4) (h2 : a5 = a1) (h3 : a4 = a0) : (a3 - (a5 + 1)) ≤ ((n2 : Nat) : Int) := by omega
theorem oq_e1e6ac78 {a0 a1 : Int} (h0 : a0 < a1) (h1 : (-2147483648) ≤ a0) : (-2147483648) ≤ a1 := by omega
theorem oq_9b39ac49 {a0 a1 a2 a3 : Int} (h0 : a0 = 0) (h1 : ((1 = 1 ∧ (a1 = 0 ∧ (a2 = 1 ∧ a0 = 1))) ∨ ((1 = 0 ∨ a1 ≠ 0) ∧ (a2 = a1 ∧ ((a0 = 0 ∧ a1 = 0) ∨ (a0 = 1 ∧ a1 ≠ 0)))))) (h2 : a1 = 0) : 1 ≤ a3 := by omega
theorem oq_d8860bc2 {a0 a1 a2 a3 : Int} (h0 : a0 = 0) (h1 : ((1 = 1 ∧ (a1 = 0 ∧ (a2 = 1 ∧ a0 = 1))) ∨ ((1 = 0 ∨ a1 ≠ 0) ∧ (a2 = a1 ∧ ((a0 = 0 ∧ a1 = 0) ∨ (a0 = 1 ∧ a1 ≠ 0)))))) (h2 : a1 = 0) : a3 ≤ 3 := by omega
theorem oq_5c1b5c66 {a0 a1 a2 : Int} (h0 : a0 = a1) (h1 : a1 = a2) (h2 : a2 ≠ 0) (h3 : 0 ≤ a2) : 1 ≤ a0 := by omega
theorem oq_9989f42a {a0 a1 : Int} (h0 : a0 ≤ a1) (h1 : 0 ≤ a0) : (-2) ≤ a1 := by omega
theorem oq_36a8948f {a0 a1 a2 a3 : Int} (h0 : a0 = 0) (h1 : ((1 = 1 ∧ (a1 = 0 ∧ (a2 = 1 ∧ a0 = 1))) ∨ ((1 = 0 ∨ a1 ≠ 0) ∧ (a2 = a1 ∧ ((a0 = 0 ∧ a1 = 0) ∨ (a0 = 1 ∧ a1 ≠ 0)))))) (h2 : a1 = 0) : (-2) ≤ a3 := by omega
theorem oq_3b577602 {a0 : Int} (h0 : a0 = (-2)) : (-2) ≤ a0 := by omega
theorem oq_03bfe2b6 {a0 : Int} (h0 : a0 = (-2)) : a0 ≤ 7 := by omega
theorem oq_55069952 {a0 : Int} (h0 : a0 = (-1)) : (-2) ≤ a0 := by omega
theorem oq_55529764 {a0 : Int} (h0 : a0 = (-1)) : a0 ≤ 7 := by omega
theorem oq_f4d57307 {a0 a1 a2 : Int} (h0 : a0 = 0) (h1 : 0 ≤ a1) (h2 : ((1 = 1 ∧ (a2 = 0 ∧ (a1 = 1 ∧ a0 = 1))) ∨ ((1 = 0 ∨ a2 ≠ 0) ∧ (a1 = a2 ∧ ((a0 = 0 ∧ a2 = 0) ∨ (a0 = 1 ∧ a2 ≠ 0)))))) (h3 : a2 = 0) : a1 = 0 := by omega
theorem oq_ba64a0a5 {a0 a1 a2 : Int} (h0 : a0 = 0) (h1 : ((a0 = 1 ∧ (1 ≤ a1 ∧ a1 ≤ 3)) ∨ (a0 = 0 ∧ (a1 < 1 ∨ 3 < a1)))) : (a1 < 1 ∨ (3 < a1 ∨ (a2 < (-2) ∨ 7 < a2))) := by omega
theorem oq_fefc7c44 {a0 a1 : Int} (h0 : a0 ≠ 0) (h1 : ((a0 = 1 ∧ (1 ≤ a1 ∧ a1 ≤ 3)) ∨ (a0 = 0 ∧ (a1 < 1 ∨ 3 < a1)))) : 0 ≤ a1 := by omega
theorem oq_912b04fc {a0 a1 : Int} (h0 : a0 ≠ 0) (h1 : ((a0 = 1 ∧ ((-2) ≤ a1 ∧ a1 ≤ 7)) ∨ (a0 = 0 ∧ (a1 < (-2) ∨ 7 < a1)))) : a1 ≤ 7 := by omega
theorem oq_bdfc27cd {a0 a1 : Int} (h0 : a0 ≠ (-2)) (h1 : a0 ≠ (-1)) (h2 : a1 ≠ 0) (h3 : ((a1 = 1 ∧ ((-2) ≤ a0 ∧ a0 ≤ 7)) ∨ (a1 = 0 ∧ (a0 < (-2) ∨ 7 < a0)))) : 0 ≤ a0 := by omega
theorem oq_86b803ad {a0 a1 : Int} (h0 : a0 ≠ 0) (h1 : ((a0 = 1 ∧ ((-2) ≤ a1 ∧ a1 ≤ 7)) ∨ (a0 = 0 ∧ (a1 < (-2) ∨ 7 < a1)))) : (-2) ≤ a1 := by omega
theorem oq_93520411 {a0 a1 a2 : Int} (h0 : 0 ≤ a0) (h1 : ((0 = 1 ∧ (a1 = 0 ∧ (a0 = 1 ∧ a2 = 1))) ∨ ((0 = 0 ∨ a1 ≠ 0) ∧ (a0 = a1 ∧ ((a2 = 0 ∧ a1 = 0) ∨ (a2 = 1 ∧ a1 ≠ 0)))))) (h2 : a1 = 0) : a0 = 0 := by omega
theorem oq_9f65d6fa {a0 a1 a2 a3 a4 : Int} (h0 : a0 ≠ 0) (h1 : ((0 = 1 ∧ (a1 = 0 ∧ (a2 = 1 ∧ a0 = 1))) ∨ ((0 = 0 ∨ a1 ≠ 0) ∧ (a2 = a1 ∧ ((a0 = 0 ∧ a1 = 0) ∨ (a0 = 1 ∧ a1 ≠ 0)))))) (h2 : a1 = 0) : (a3 < 1 ∨ (3 < a3 ∨ (a4 < (-2) ∨ 7 < a4))) := by omega
theorem oq_cb122527 {a0 a1 a2 : Int} (h0 : a0 = 0) (h1 : ((a0 = 1 ∧ ((-2) ≤ a1 ∧ a1 ≤ 7)) ∨ (a0 = 0 ∧ (a1 < (-2) ∨ 7 < a1)))) : (a2 < 1 ∨ (3 < a2 ∨ (a1 < (-2) ∨ 7 < a1))) := by omega
/-! The model's search -/
abbrev ceM (s : PS) : Nat → Int := fun j => iC s 234 j
abbrev hgM (s : PS) : Int → Int := fun x => iC s 240 x.toNat
abbrev pkM (s : PS) : Int → Int := fun x => iC s 238 x.toNat
abbrev ovM (s : PS) : Int → Int := fun x => iC s 239 x.toNat
abbrev hfM (s : PS) : Nat → Int := fun j => iC s 235 j
abbrev nnM (s : PS) : Nat := (iI s 97).toNat
def BSP (n : Nat) : BsO → PS → Prop
  | none, s => iC s 236 0 = -1
  | some b, s => iC s 236 0 ≠ -1 ∧ iI s 100 = b.1 ∧ iI s 101 = b.2.1 ∧ ∀ j : Nat, j < n → iC s 236 j = b.2.2 j
theorem bsp_s {n : Nat} {B : BsO} {s t : PS} (h : BSP n B s) (e2 : iI t 100 = iI s 100) (e3 : iI t 101 = iI s 101) (e4 : SAM 236 s t) : BSP n B t := by
  cases B with
  | none => exact (e4 0).trans (show iC s 236 0 = -1 from h)
  | some b => exact ⟨by rw [e4 0]; exact h.1, e2.trans h.2.1, e3.trans h.2.2.1, fun j hj => (e4 j).trans (h.2.2.2 j hj)⟩
theorem bsp_b {n : Nat} {B : BsO} {s : PS} {p o : Int} (h : BSP n B s) (hc : iC s 236 0 = -1 ∨ p < iI s 100 ∨ (p = iI s 100 ∧ o < iI s 101)) : btB B p o := by
  cases B with
  | none => exact trivial
  | some b =>
    obtain ⟨h1, h2, h3, -⟩ := h
    show p < b.1 ∨ (p = b.1 ∧ o < b.2.1)
    omega
theorem bsp_k {n : Nat} {B : BsO} {s : PS} {p o : Int} (h : BSP n B s) (hc : iC s 236 0 ≠ -1 ∧ (iI s 100 < p ∨ (p = iI s 100 ∧ iI s 101 ≤ o))) : ¬ btB B p o := by
  cases B with
  | none => exact absurd (show iC s 236 0 = -1 from h) hc.1
  | some b =>
    obtain ⟨h1, h2, h3, -⟩ := h
    show ¬ (p < b.1 ∨ (p = b.1 ∧ o < b.2.1))
    omega
theorem bsp_w {n : Nat} {h : Nat → Int} {p o : Int} {t : PS} (e2 : iI t 100 = p) (e3 : iI t 101 = o) (e4 : ∀ j : Nat, j < n → iC t 236 j = h j) (n1 : 1 ≤ n) (h0 : h 0 ≠ -1) : BSP n (some (p, o, trH h n)) t := ⟨by rw [e4 0 (by omega)]; exact h0, e2, e3, fun j hj => (e4 j hj).trans (if_pos hj).symm⟩
def PTQ (B : BsO) (x y z : Int) (s t : PS) : Prop := BSP (nnM s) (plB (hgM s) (pkM s) (ovM s) z (nnM s) (nnM s - x.toNat) (hfM s) y B) t ∧ ∀ j : Nat, j < x.toNat → iC t 235 j = iC s 235 j
noncomputable def ptF (s : PS) (x y z g : Int) (C : BsO) : BsO := plB (hgM s) (pkM s) (ovM s) z (nnM s) (nnM s - (x.toNat + 1)) (upH (hfM s) x.toNat g) (nuH g y) C
def PTL (B : BsO) (x y z : Int) (s : PS) (c : Int) (t : PS) : Prop := BSP (nnM s) (flB (ptF s x y z) c.toNat B) t ∧ ∀ j : Nat, j < x.toNat → iC t 235 j = iC s 235 j
theorem ptl_0 {B : BsO} {x y z : Int} {s : PS} (h : BSP (nnM s) B s) : PTL B x y z s 0 s := ⟨h, fun _ _ => rfl⟩
theorem ptl_e {B : BsO} {x y z c : Int} {s t : PS} (h : PTL B x y z s c t) (x0 : 0 ≤ x ∧ x < iI s 97) (hc : (y < z ∧ c = y + 1) ∨ (z ≤ y ∧ c = z)) : PTQ B x y z s t := by
  refine ⟨?_, h.2⟩
  have w := h.1
  rw [cth_of hc] at w
  rw [show nnM s - x.toNat = nnM s - (x.toNat + 1) + 1 by show (iI s 97).toNat - x.toNat = (iI s 97).toNat - (x.toNat + 1) + 1; omega]
  have e : ptF s x y z = (fun g C => plB (hgM s) (pkM s) (ovM s) z (nnM s) (nnM s - (x.toNat + 1)) (upH (hfM s) (nnM s - (nnM s - (x.toNat + 1) + 1)) g) (nuH g y) C) := funext (fun g => funext (fun C => by
    show plB (hgM s) (pkM s) (ovM s) z (nnM s) (nnM s - (x.toNat + 1)) (upH (hfM s) x.toNat g) (nuH g y) C = _
    rw [show nnM s - (nnM s - (x.toNat + 1) + 1) = x.toNat by show (iI s 97).toNat - ((iI s 97).toNat - (x.toNat + 1) + 1) = x.toNat; omega]))
  rw [e] at w
  exact w
theorem ptl_in {B : BsO} {x y z c : Int} {s t t1 : PS} (h : PTL B x y z s c t) (en : iI t1 97 = iI s 97) (e2 : iI t1 100 = iI t 100) (e3 : iI t1 101 = iI t 101) (e4 : SAM 236 t t1) : BSP (nnM t1) (flB (ptF s x y z) c.toNat B) t1 := by
  rw [show nnM t1 = nnM s from congrArg Int.toNat en]
  exact bsp_s h.1 e2 e3 e4
theorem ptl_up {B : BsO} {x y z c u : Int} {s t t1 t2 : PS} (h : PTL B x y z s c t) (x0 : 0 ≤ x ∧ x < iI s 97) (c0 : 0 ≤ c) (h1 : UPD 235 x c t t1) (en : iI t1 97 = iI s 97) (eg : hgM t1 = hgM s) (ep : pkM t1 = pkM s) (eo : ovM t1 = ovM s) (hu : u = nuH c y) (k : PTQ (flB (ptF s x y z) c.toNat B) (x + 1) u z t1 t2) : PTL B x y z s (c + 1) t2 := by
  have es : nnM t1 = nnM s := congrArg Int.toNat en
  obtain ⟨k1, k2⟩ := k
  refine ⟨?_, fun j hj => ?_⟩
  · rw [show (c + 1).toNat = c.toNat + 1 by omega]
    show BSP (nnM s) (ptF s x y z ((c.toNat : Nat) : Int) (flB (ptF s x y z) c.toNat B)) t2
    rw [show ((c.toNat : Nat) : Int) = c by omega]
    rw [es, eg, ep, eo, hu, show (x + 1).toNat = x.toNat + 1 by omega] at k1
    have e : plB (hgM s) (pkM s) (ovM s) z (nnM s) (nnM s - (x.toNat + 1)) (hfM t1) (nuH c y) (flB (ptF s x y z) c.toNat B) = ptF s x y z c (flB (ptF s x y z) c.toNat B) := by
      show _ = plB (hgM s) (pkM s) (ovM s) z (nnM s) (nnM s - (x.toNat + 1)) (upH (hfM s) x.toNat c) (nuH c y) (flB (ptF s x y z) c.toNat B)
      refine plb_c _ (Nat.sub_le _ _) (fun j hj => ?_)
      have hj' : j < x.toNat + 1 := by
        have : nnM s - (nnM s - (x.toNat + 1)) = x.toNat + 1 := by show (iI s 97).toNat - ((iI s 97).toNat - (x.toNat + 1)) = x.toNat + 1; omega
        omega
      show iC t1 235 j = if j = x.toNat then c else iC s 235 j
      by_cases q : j = x.toNat
      · rw [if_pos q, q]; exact h1.1
      · rw [if_neg q, h1.2 j q]; exact h.2 j (by omega)
    rw [e] at k1
    exact k1
  · rw [k2 j (by omega), h1.2 j (by omega)]
    exact h.2 j hj
theorem ptq_0 {B : BsO} {x y z : Int} {s t : PS} (hx : x = iI s 97) (h : BSP (nnM s) (cmB (hgM s) (pkM s) (ovM s) (nnM s) (hfM s) y B) t) (e1 : SAM 235 s t) : PTQ B x y z s t := by
  refine ⟨?_, fun j _ => e1 j⟩
  rw [show nnM s - x.toNat = 0 by rw [hx]; exact Nat.sub_self _]
  exact h
/-- the model's set -/
def RSM (f : Nat → Int) (x c : Int) (t : PS) : Prop := ∀ z : Int, inS t z ↔ rgS f c.toNat x z
theorem rsm_0 {f : Nat → Int} {x : Int} {t : PS} (h : ∀ j : Nat, (j : Int) < 128 → iC t 230 j = 0) : RSM f x 0 t := fun z => ⟨fun q => absurd (h z.toNat (by have := q.1; omega)) q.2, fun ⟨i, w, _⟩ => absurd w (Nat.not_lt_zero _)⟩
theorem rsm_n {f : Nat → Int} {x c : Int} {t : PS} (h : RSM f x c t) (c0 : 0 ≤ c) (hb : ¬ bT (Int32.ofInt x) c.toNat = true) : RSM f x (c + 1) t := fun z => by
  rw [rgs_up c0, h z]
  exact ⟨Or.inl, fun q => q.elim id (fun w => absurd w.1 hb)⟩
theorem rsm_y {f : Nat → Int} {x c v : Int} {t u : PS} (h : RSM f x c t) (c0 : 0 ≤ c) (hb : bT (Int32.ofInt x) c.toNat = true) (hv : v = f c.toNat) (v0 : 0 ≤ v ∧ v ≤ 127) (hu : UPD 230 v 1 t u) : RSM f x (c + 1) u := fun z => by
  have e : inS u z ↔ inS t z ∨ z = v := by
    unfold inS
    constructor
    · rintro ⟨a, b⟩
      by_cases q : z = v
      · exact Or.inr q
      · rw [hu.2 z.toNat (by omega)] at b
        exact Or.inl ⟨a, b⟩
    · rintro (⟨a, b⟩ | q)
      · by_cases q : z = v
        · subst q
          exact ⟨a, by rw [hu.1]; decide⟩
        · exact ⟨a, by rw [hu.2 z.toNat (by omega)]; exact b⟩
      · subst q
        exact ⟨v0, by rw [hu.1]; decide⟩
  rw [rgs_up c0, e, h z]
  exact ⟨fun q => q.imp id (fun w => ⟨hb, by rw [← hv]; exact w.symm⟩), fun q => q.imp id (fun w => by rw [hv]; exact w.2.symm)⟩
theorem rsm_e {f : Nat → Int} {x c : Int} {n : Nat} {t : PS} (h : RSM f x c t) (hc : c = (n : Int)) : inS t = rgS f n x := funext (fun z => propext (by
  have w := h z
  rw [show c.toNat = n by omega] at w
  exact w))
abbrev TBM (U : AirD) (f : Nat → Int) (n : Nat) (b : Int) (t : PS) : Prop := TBQ U f n (hgM t) (pkM t) (ovM t) b
theorem tbm_s {U : AirD} {f : Nat → Int} {n : Nat} {b : Int} {s t : PS} (h : TBM U f n b s) (h1 : SAM 240 s t) (h2 : SAM 238 s t) (h3 : SAM 239 s t) : TBM U f n b t := tbq_k h (fun _ _ _ => ⟨h1 _, h2 _, h3 _⟩)
/-- the quarters of a set, one behind the other -/
def FSL (U : AirD) (f : Nat → Int) (n : Nat) (b q : Int) (t : PS) : Prop := TBM U f n b t ∧ inS t = rgS f n b ∧ HGE (rgS f n b) (iC t 240 b.toNat) ∧ PKM (lqH U (rgS f n b)) (iC t 238 b.toNat) q ∧ Int32.ofInt (iC t 239 b.toNat) = ovQ U (rgS f n b) q.toNat
theorem fsl_0 {U : AirD} {f : Nat → Int} {n : Nat} {b a z1 z2 : Int} {s t : PS} (h : TBM U f n b s) (b1 : 1 ≤ b) (h1 : UPD 240 b a s t) (h2 : UPD 238 b z1 s t) (h3 : UPD 239 b z2 s t) (hz : z2 = 0) (hS : inS t = rgS f n b) (hg : HGE (rgS f n b) a) : FSL U f n b 0 t := ⟨tbq_k h (fun x x1 x2 => ⟨h1.2 _ (by omega), h2.2 _ (by omega), h3.2 _ (by omega)⟩), hS, by rw [h1.1]; exact hg, pkm_0, by rw [h3.1, hz]; rfl⟩
theorem fsl_up {U : AirD} {f : Nat → Int} {n : Nat} {b q l e w y : Int} {s t : PS} (h : FSL U f n b q s) (q0 : 0 ≤ q) (b1 : 1 ≤ b) (h1 : SAM 240 s t) (h2 : UPD 238 b e s t) (h3 : UPD 239 b y s t) (hS : inS t = inS s) (hl : l = lqH U (rgS f n b) q.toNat) (he : ((q = 0 ∨ iC s 238 b.toNat < l) ∧ e = l) ∨ (q ≠ 0 ∧ l ≤ iC s 238 b.toNat ∧ e = iC s 238 b.toNat)) (hw : Int32.ofInt w = Int32.ofInt (oaH (rgS f n b) (uW U) (uM U q.toNat) (uN U))) (hy : Int32.ofInt y = Int32.ofInt (iC s 239 b.toNat + w)) : FSL U f n b (q + 1) t := by
  obtain ⟨k1, k2, k3, k4, k5⟩ := h
  refine ⟨tbq_k k1 (fun x x1 x2 => ⟨h1 _, h2.2 _ (by omega), h3.2 _ (by omega)⟩), hS.trans k2, by rw [h1]; exact k3, ?_, ?_⟩
  · rw [h2.1]; exact pkm_up k4 q0 hl he
  · rw [h3.1]; exact ovq_up q0 k5 hw hy
theorem fsl_e {U : AirD} {f : Nat → Int} {n : Nat} {b q : Int} {t : PS} (h : FSL U f n b q t) (b1 : 1 ≤ b) (hq : q = 24 ∨ iC t 240 b.toNat = 0) : TBM U f n (b + 1) t := by
  obtain ⟨k1, k2, k3, k4, k5⟩ := h
  refine tbq_up k1 (fun _ _ _ => ⟨rfl, rfl, rfl⟩) ?_
  rcases k3 with ⟨g1, g2⟩ | ⟨g1, g2⟩
  · have e : q = 24 := by omega
    refine Or.inl ⟨g1, g2, ?_, ?_⟩
    · rcases k4 with z | ⟨_, z⟩
      · omega
      · rw [e] at z; exact z
    · rw [e] at k5; exact k5
  · exact Or.inr ⟨g1, g2⟩
/-- the model has solved it -/
def SVM (U : AirD) (f : Nat → Int) (n : Nat) (m : Int) (t : PS) : Prop := ∃ B, BQR U f n m B ∧ BSP n B t
theorem svm_of {U : AirD} {f : Nat → Int} {m : Int} {n : Nat} {s t : PS} (ht : TBM U f n (pwI n) s) (en : nnM s = n) (h : PTQ none 0 0 m s t) : SVM U f n m t := by
  refine ⟨_, ⟨hgM s, pkM s, ovM s, hfM s, ht, rfl⟩, ?_⟩
  have w := h.1
  rw [en, show n - (0 : Int).toNat = n by omega] at w
  exact w
theorem svm_0 {U : AirD} {f : Nat → Int} {n : Nat} {m w : Int} {t : PS} (h : SVM U f n m t) (h0 : iC t 236 0 = -1) : ∃ B, BQR U f n m B ∧ pdB B w (-1) := by
  obtain ⟨B, a, b⟩ := h
  cases B with
  | none => exact ⟨none, a, rfl⟩
  | some c => exact absurd h0 b.1
theorem svm_1 {U : AirD} {f : Nat → Int} {n : Nat} {m w e : Int} {t : PS} (h : SVM U f n m t) (h0 : iC t 236 0 ≠ -1) (he : (w = -1 ∧ e = iI t 100) ∨ (w = -2 ∧ e = iI t 101) ∨ (0 ≤ w ∧ w.toNat < n ∧ e = iC t 236 w.toNat)) : ∃ B, BQR U f n m B ∧ pdB B w e := by
  obtain ⟨B, a, b⟩ := h
  cases B with
  | none => exact absurd (show iC t 236 0 = -1 from b) h0
  | some c =>
    obtain ⟨b1, b2, b3, b4⟩ := b
    refine ⟨some c, a, ?_⟩
    show (w = -1 ∧ e = c.1) ∨ (w = -2 ∧ e = c.2.1) ∨ (0 ≤ w ∧ e = c.2.2 w.toNat)
    rcases he with ⟨h1, h2⟩ | ⟨h1, h2⟩ | ⟨h1, h2, h3⟩
    · exact Or.inl ⟨h1, h2.trans b2⟩
    · exact Or.inr (Or.inl ⟨h1, h2.trans b3⟩)
    · exact Or.inr (Or.inr ⟨h1, h3.trans (b4 _ h2)⟩)
theorem ins_sam {s t : PS} (h : SAM 230 s t) : inS t = inS s := funext (fun x => propext (by unfold inS; rw [h x.toNat]))
section M87ks
variable {l : Launch} {s0 : State} {D : va_G} {tys : List (ClassId × FieldType)} {a0 : Array Value} {A : Nat → Nat} {dT : Nat → ClassId} {s : PS}
set_option maxRecDepth 4000 in
theorem k_judges8 (G : GX l s0 D tys a0 dT) {B : BsO} (I : Bd s) {x : Int} (p0 : 1 ≤ x ∧ x ≤ 3) (p1 : BSP (nnM s) B s) (p2 : 1 ≤ iI s 97) : CT l s0 D A dT 262 (rmN 262) [.ref (A 179), .int (Int32.ofInt x)] s (fun o t => Bd t ∧ Fm [100, 101] [236] s t ∧ o = .inl none ∧ (BSP (nnM s) (cmB (hgM s) (pkM s) (ovM s) (nnM s) (hfM s) x B) t)) := by
  refine ct_of G (by decide) (Nat.le_of_ble_eq_true rfl) (fun k X E hRt hXt q => ?_)
  show WS k 0 [(0, .ref (A 179)), (1, .int (Int32.ofInt x))] [] _ 0 0
  have F : Fm [100, 101] [236] s s := fm_rf _ _ s
  have b1 := bi_97 I
  have b2 := bi_100 I
  have b3 := bi_101 I
  have L19 : ∀ (n : Nat) (t : PS) (xv pk ov hh bi ka : Int), Bd t → Fm [100, 101] [236] s t → (bi = msI (hfM s) hh (ka : Int).toNat ∧ BSP (nnM s) B t) → ((xv = x ∧ 1 ≤ x ∧ x ≤ 3) ∧ rng pk ∧ rng ov ∧ (0 ≤ hh ∧ hh < x) ∧ (0 ≤ bi ∧ bi ≤ 255) ∧ (0 ≤ ka ∧ ka ≤ iI s 97) ∧ iI t 97 = iI s 97 ∧ (1 ≤ iI s 97 ∧ iI s 97 ≤ 8)) → (8 - ka : Int).toNat < n → (∀ (t' : PS) (bi' ka' : Int), Bd t' → Fm [100, 101] [236] s t' → (bi' = msI (hfM s) hh (ka' : Int).toNat ∧ BSP (nnM s) B t') → ((0 ≤ bi' ∧ bi' ≤ 255) ∧ ka' = iI s 97 ∧ iI t' 97 = iI s 97) → WS k 59 [(0, .ref (A 179)), (1, .int (Int32.ofInt xv)), (2, .int (Int32.ofInt pk)), (3, .int (Int32.ofInt ov)), (4, .int (Int32.ofInt hh)), (5, .int (Int32.ofInt bi')), (6, .int (Int32.ofInt ka'))] [] (Wd A dT t') 0 0) → WS k 19 [(0, .ref (A 179)), (1, .int (Int32.ofInt xv)), (2, .int (Int32.ofInt pk)), (3, .int (Int32.ofInt ov)), (4, .int (Int32.ofInt hh)), (5, .int (Int32.ofInt bi)), (6, .int (Int32.ofInt ka))] [] (Wd A dT t) 0 0 := by
    intro n
    induction n with
    | zero =>
      intro t xv pk ov hh bi ka I F hq hi hm kx
      exact absurd hm (Nat.not_lt_zero _)
    | succ n ih =>
      intro t xv pk ov hh bi ka I F hq hi hm kx
      have b1001 := bi_97 I
      have b1002 := bi_100 I
      have b1003 := bi_101 I
      refine z_load X (x := ka) rfl (List.Mem.tail _ (List.Mem.tail _ (List.Mem.tail _ (List.Mem.tail _ (List.Mem.tail _ (List.Mem.tail _ (List.Mem.head _))))))) (z_aload_n X (x := A 179) rfl (List.Mem.head _) (z_getI X 179 rfl (c518_ok rfl) rfl rfl ?_))
      have b1004 := bi_97 I
      refine z_icmp_ge X (t := 59) rfl rfl ⟨by first | exact oq_fa4e5087 hi.2.2.2.2.2.1.1 | omega, by first | exact oq_b5dbaaed hi.2.2.2.2.2.1.2 hi.2.2.2.2.2.2.2.2 | omega⟩ (rng_to _) (fun g1005 => ?_) (fun g1005 => ?_)
      ·
        refine WS_pq [0, 1, 2, 3, 4, 5, 6] (lv' := [(0, .ref (A 179)), (1, .int (Int32.ofInt xv)), (2, .int (Int32.ofInt pk)), (3, .int (Int32.ofInt ov)), (4, .int (Int32.ofInt hh)), (5, .int (Int32.ofInt bi)), (6, .int (Int32.ofInt ka))]) rfl ?_
        exact kx _ bi ka I F hq (by first | exact ⟨And.intro (hi.2.2.2.2.1.1) (hi.2.2.2.2.1.2), oq_537ca82a hi.2.2.2.2.2.1.2 g1005 hi.2.2.2.2.2.2.1, hi.2.2.2.2.2.2.1⟩ | omega)
      ·
        refine z_load X (x := bi) rfl (List.Mem.tail _ (List.Mem.tail _ (List.Mem.tail _ (List.Mem.tail _ (List.Mem.tail _ (List.Mem.head _)))))) (z_aload_n X (x := A 179) rfl (List.Mem.head _) (s_getR X 179 rfl (c518_ok rfl) rfl rfl (z_load X (x := ka) rfl (List.Mem.tail _ (List.Mem.tail _ (List.Mem.tail _ (List.Mem.tail _ (List.Mem.tail _ (List.Mem.tail _ (List.Mem.head _))))))) (z_ald X 263 rfl (c518_ok rfl) rfl (by first | exact hi.2.2.2.2.2.1.1 | omega) (show ka < 8 by first | exact oq_7f5b2e79 g1005 b1004.2 | omega) (cbig_ok rfl) ?_))))
        have b1006 := bc_235 I (show (ka).toNat < 8 by first | exact oq_67be0351 g1005 b1004.2 | omega)
        refine z_load X (x := hh) rfl (List.Mem.tail _ (List.Mem.tail _ (List.Mem.tail _ (List.Mem.tail _ (List.Mem.head _))))) (z_icmp_ne X (t := 49) rfl rfl (rng_to _) ⟨by first | exact oq_fa4e5087 hi.2.2.2.1.1 | omega, by first | exact oq_d672a951 hi.2.2.2.1.2 hi.1.2.2 | omega⟩ (fun g1007 => ?_) (fun g1007 => ?_))
        ·
          refine z_const X rfl (w_ior X.1 (ax_d X (show cdA 262 50 = some (.ior, 1, 0, 0, 0) from rfl)) (z_anyV (fun y1008 hy1008 ey1008 => ?_)))
          have hp8 := pwi_8 ((ka : Int).toNat + 1) (by first | (clear g1007; omega) | omega)
          have hp9 : pwI ((ka : Int).toNat + 1) = 2 * pwI (ka : Int).toNat := rfl
          have hbb : 0 ≤ bi ∧ bi < pwI (ka : Int).toNat := by rw [hq.1]; exact msi_b _ _ _
          have hfk : iC t 235 (ka : Int).toNat = iC s 235 (ka : Int).toNat := fm_c F (by decide)
          have hb : y1008 = bi := or_z8 ey1008 hy1008 ⟨by first | (clear g1007; omega) | omega, by first | (clear g1007; omega) | omega⟩
          refine z_store X (lv' := [(5, .int (Int32.ofInt y1008)), (0, .ref (A 179)), (1, .int (Int32.ofInt xv)), (2, .int (Int32.ofInt pk)), (3, .int (Int32.ofInt ov)), (4, .int (Int32.ofInt hh)), (6, .int (Int32.ofInt ka))]) rfl (by decide) (fun _ h => h) (z_inc X (x := ka) (lv' := [(6, .int (Int32.ofInt (ka + 1))), (5, .int (Int32.ofInt y1008)), (0, .ref (A 179)), (1, .int (Int32.ofInt xv)), (2, .int (Int32.ofInt pk)), (3, .int (Int32.ofInt ov)), (4, .int (Int32.ofInt hh))]) rfl (by decide) (List.Mem.tail _ (List.Mem.tail _ (List.Mem.tail _ (List.Mem.tail _ (List.Mem.tail _ (List.Mem.tail _ (List.Mem.head _))))))) (fun _ h => h) (z_goto X (t := 19) rfl rfl (WS_pq [2, 3, 4, 5, 6, 1, 0] (lv' := [(0, .ref (A 179)), (1, .int (Int32.ofInt xv)), (2, .int (Int32.ofInt pk)), (3, .int (Int32.ofInt ov)), (4, .int (Int32.ofInt hh)), (5, .int (Int32.ofInt y1008)), (6, .int (Int32.ofInt (ka + 1)))]) rfl ?_)))
          exact ih _ xv pk ov hh y1008 (ka + 1) I F ⟨by rw [hb, show (ka + 1).toNat = (ka : Int).toNat + 1 by first | (clear g1007; omega) | omega, msi_n (show hfM s (ka : Int).toNat ≠ hh by show iC s 235 (ka : Int).toNat ≠ hh; omega), ← hq.1], hq.2⟩ (by first | exact ⟨And.intro (hi.1.1) (And.intro (hi.1.2.1) (hi.1.2.2)), And.intro (hi.2.1.1) (hi.2.1.2), And.intro (hi.2.2.1.1) (hi.2.2.1.2), And.intro (hi.2.2.2.1.1) (hi.2.2.2.1.2), And.intro (oq_e4757433 hb hbb.1) (oq_a7bb40ba hb hi.2.2.2.2.1.2), And.intro (oq_54f49eb5 hi.2.2.2.2.2.1.1) (oq_8a89b3ae g1005 hi.2.2.2.2.2.2.1), hi.2.2.2.2.2.2.1, hi.2.2.2.2.2.2.2.1, hi.2.2.2.2.2.2.2.2⟩ | omega) (by first | exact qk_me hm (by decide) (oq_ccc5e5e0 g1005 b1004.2) | omega) kx
        ·
          refine z_const X rfl (z_load X (x := ka) rfl (List.Mem.tail _ (List.Mem.tail _ (List.Mem.tail _ (List.Mem.tail _ (List.Mem.tail _ (List.Mem.tail _ (List.Mem.head _))))))) (z_bshl X rfl (z_anyV (fun y1009 hy1009 ey1009 => ?_))))
          refine z_goto X (t := 50) rfl rfl (w_ior X.1 (ax_d X (show cdA 262 50 = some (.ior, 1, 0, 0, 0) from rfl)) (z_anyV (fun y1010 hy1010 ey1010 => ?_)))
          have hp8 := pwi_8 ((ka : Int).toNat + 1) (by omega)
          have hp9 : pwI ((ka : Int).toNat + 1) = 2 * pwI (ka : Int).toNat := rfl
          have hbb : 0 ≤ bi ∧ bi < pwI (ka : Int).toNat := by rw [hq.1]; exact msi_b _ _ _
          have hfk : iC t 235 (ka : Int).toNat = iC s 235 (ka : Int).toNat := fm_c F (by decide)
          have hb : y1010 = bi + pwI (ka : Int).toNat := ms_put (k := ka) (by omega) hbb ey1009 ey1010 hy1010
          refine z_store X (lv' := [(5, .int (Int32.ofInt y1010)), (0, .ref (A 179)), (1, .int (Int32.ofInt xv)), (2, .int (Int32.ofInt pk)), (3, .int (Int32.ofInt ov)), (4, .int (Int32.ofInt hh)), (6, .int (Int32.ofInt ka))]) rfl (by decide) (fun _ h => h) (z_inc X (x := ka) (lv' := [(6, .int (Int32.ofInt (ka + 1))), (5, .int (Int32.ofInt y1010)), (0, .ref (A 179)), (1, .int (Int32.ofInt xv)), (2, .int (Int32.ofInt pk)), (3, .int (Int32.ofInt ov)), (4, .int (Int32.ofInt hh))]) rfl (by decide) (List.Mem.tail _ (List.Mem.tail _ (List.Mem.tail _ (List.Mem.tail _ (List.Mem.tail _ (List.Mem.tail _ (List.Mem.head _))))))) (fun _ h => h) (z_goto X (t := 19) rfl rfl (WS_pq [2, 3, 4, 5, 6, 1, 0] (lv' := [(0, .ref (A 179)), (1, .int (Int32.ofInt xv)), (2, .int (Int32.ofInt pk)), (3, .int (Int32.ofInt ov)), (4, .int (Int32.ofInt hh)), (5, .int (Int32.ofInt y1010)), (6, .int (Int32.ofInt (ka + 1)))]) rfl ?_)))
          exact ih _ xv pk ov hh y1010 (ka + 1) I F ⟨by rw [hb, show (ka + 1).toNat = (ka : Int).toNat + 1 by omega, msi_y (show hfM s (ka : Int).toNat = hh by show iC s 235 (ka : Int).toNat = hh; omega), ← hq.1], hq.2⟩ (by first | exact ⟨And.intro (hi.1.1) (And.intro (hi.1.2.1) (hi.1.2.2)), And.intro (hi.2.1.1) (hi.2.1.2), And.intro (hi.2.2.1.1) (hi.2.2.1.2), And.intro (hi.2.2.2.1.1) (hi.2.2.2.1.2), by omega, And.intro (oq_54f49eb5 hi.2.2.2.2.2.1.1) (oq_8a89b3ae g1005 hi.2.2.2.2.2.2.1), hi.2.2.2.2.2.2.1, hi.2.2.2.2.2.2.2.1, hi.2.2.2.2.2.2.2.2⟩ | omega) (by first | exact qk_me hm (by decide) (oq_ccc5e5e0 g1005 b1004.2) | omega) kx
  have L7 : ∀ (n : Nat) (t : PS) (xv pk ov hh : Int), Bd t → Fm [100, 101] [236] s t → (CML (hgM s) (pkM s) (ovM s) (nnM s) (hfM s) hh pk ov ∧ BSP (nnM s) B t) → ((xv = x ∧ 1 ≤ x ∧ x ≤ 3) ∧ rng pk ∧ rng ov ∧ (0 ≤ hh ∧ hh ≤ x) ∧ iI t 97 = iI s 97 ∧ (1 ≤ iI s 97 ∧ iI s 97 ≤ 8)) → (3 - hh : Int).toNat < n → (∀ (t' : PS) (pk' ov' hh' : Int), Bd t' → Fm [100, 101] [236] s t' → (CML (hgM s) (pkM s) (ovM s) (nnM s) (hfM s) hh' pk' ov' ∧ BSP (nnM s) B t') → ((xv = x ∧ 1 ≤ x ∧ x ≤ 3) ∧ rng pk' ∧ rng ov' ∧ hh' = x ∧ iI t' 97 = iI s 97 ∧ (1 ≤ iI s 97 ∧ iI s 97 ≤ 8)) → WS k 114 [(0, .ref (A 179)), (1, .int (Int32.ofInt xv)), (2, .int (Int32.ofInt pk')), (3, .int (Int32.ofInt ov')), (4, .int (Int32.ofInt hh'))] [] (Wd A dT t') 0 0) → WS k 7 [(0, .ref (A 179)), (1, .int (Int32.ofInt xv)), (2, .int (Int32.ofInt pk)), (3, .int (Int32.ofInt ov)), (4, .int (Int32.ofInt hh))] [] (Wd A dT t) 0 0 := by
    intro n
    induction n with
    | zero =>
      intro t xv pk ov hh I F hq hi hm kx
      exact absurd hm (Nat.not_lt_zero _)
    | succ n ih =>
      intro t xv pk ov hh I F hq hi hm kx
      have b2001 := bi_97 I
      have b2002 := bi_100 I
      have b2003 := bi_101 I
      refine z_load X (x := hh) rfl (List.Mem.tail _ (List.Mem.tail _ (List.Mem.tail _ (List.Mem.tail _ (List.Mem.head _))))) (z_load_n X (x := xv) rfl (List.Mem.tail _ (List.Mem.head _)) (z_icmp_ge X (t := 114) rfl rfl ⟨by first | exact oq_fa4e5087 hi.2.2.2.1.1 | omega, by first | exact oq_f647a1c7 hi.2.2.2.1.2 hi.1.2.2 | omega⟩ ⟨by first | exact oq_4dc996b7 hi.1.1 hi.1.2.1 | omega, by first | exact oq_fc67fc75 hi.1.1 hi.1.2.2 | omega⟩ (fun g2004 => ?_) (fun g2004 => ?_)))
      ·
        refine WS_pq [0, 1, 2, 3, 4] (lv' := [(0, .ref (A 179)), (1, .int (Int32.ofInt xv)), (2, .int (Int32.ofInt pk)), (3, .int (Int32.ofInt ov)), (4, .int (Int32.ofInt hh))]) rfl ?_
        exact kx _ pk ov hh I F hq (by first | exact ⟨And.intro (hi.1.1) (And.intro (hi.1.2.1) (hi.1.2.2)), And.intro (hi.2.1.1) (hi.2.1.2), And.intro (hi.2.2.1.1) (hi.2.2.1.2), oq_537ca82a hi.2.2.2.1.2 g2004 hi.1.1, hi.2.2.2.2.1, hi.2.2.2.2.2.1, hi.2.2.2.2.2.2⟩ | omega)
      ·
        refine z_const X rfl (z_store X (lv' := [(5, .int (Int32.ofInt 0)), (0, .ref (A 179)), (1, .int (Int32.ofInt xv)), (2, .int (Int32.ofInt pk)), (3, .int (Int32.ofInt ov)), (4, .int (Int32.ofInt hh))]) rfl (by decide) (fun _ h => h) (z_const X rfl (z_store X (lv' := [(6, .int (Int32.ofInt 0)), (5, .int (Int32.ofInt 0)), (0, .ref (A 179)), (1, .int (Int32.ofInt xv)), (2, .int (Int32.ofInt pk)), (3, .int (Int32.ofInt ov)), (4, .int (Int32.ofInt hh))]) rfl (by decide) (fun _ h => h) (WS_pq [2, 3, 4, 5, 6, 1, 0] (lv' := [(0, .ref (A 179)), (1, .int (Int32.ofInt xv)), (2, .int (Int32.ofInt pk)), (3, .int (Int32.ofInt ov)), (4, .int (Int32.ofInt hh)), (5, .int (Int32.ofInt 0)), (6, .int (Int32.ofInt 0))]) rfl (L19 ((8 - 0 : Int).toNat + 1) t xv pk ov hh 0 0 I F ⟨rfl, hq.2⟩ (by first | exact ⟨And.intro (hi.1.1) (And.intro (hi.1.2.1) (hi.1.2.2)), And.intro (hi.2.1.1) (hi.2.1.2), And.intro (hi.2.2.1.1) (hi.2.2.1.2), And.intro (hi.2.2.2.1.1) (oq_9d1a6c71 g2004 hi.1.1), And.intro (by decide) (by decide), And.intro (by decide) (b1.1), hi.2.2.2.2.1, hi.2.2.2.2.2.1, hi.2.2.2.2.2.2⟩ | omega) (Nat.lt_succ_self _) ?_)))))
        intro s2005 x2006 x2007 Is2005 Fs2005 Qs2005 hs2005
        have b2008 := bi_97 Is2005
        have b2009 := bi_100 Is2005
        have b2010 := bi_101 Is2005
        have hx : x2006 = msI (hfM s) hh (nnM s) := by have z := Qs2005.1; rw [show x2007 = iI s 97 by omega] at z; exact z
        refine z_aload_n X (x := A 179) rfl (List.Mem.head _) (s_getR X 179 rfl (c518_ok rfl) rfl rfl (z_load X (x := x2006) rfl (List.Mem.tail _ (List.Mem.tail _ (List.Mem.tail _ (List.Mem.tail _ (List.Mem.tail _ (List.Mem.head _)))))) (z_zald X 268 rfl (c518_ok rfl) rfl (by first | exact hs2005.1.1 | omega) (show x2006 < 256 by first | exact oq_29e5dbe2 hs2005.1.2 | omega) (cbig_ok rfl) ?_)))
        have b2011 := bc_240 Is2005 (show (x2006).toNat < 256 by first | exact oq_c39a26fc hs2005.1.2 | omega)
        refine z_if_ne X (t := 70) rfl rfl (rng_to _) (fun g2012 => ?_) (fun g2012 => ?_)
        ·
          refine z_load X (x := hh) rfl (List.Mem.tail _ (List.Mem.tail _ (List.Mem.tail _ (List.Mem.tail _ (List.Mem.head _))))) (z_if_eq X (t := 86) rfl rfl ⟨by first | exact oq_fa4e5087 hi.2.2.2.1.1 | omega, by first | exact oq_f647a1c7 hi.2.2.2.1.2 hi.1.2.2 | omega⟩ (fun g2013 => ?_) (fun g2013 => ?_))
          ·
            refine z_aload_n X (x := A 179) rfl (List.Mem.head _) (s_getR X 179 rfl (c518_ok rfl) rfl rfl (z_load X (x := x2006) rfl (List.Mem.tail _ (List.Mem.tail _ (List.Mem.tail _ (List.Mem.tail _ (List.Mem.tail _ (List.Mem.head _)))))) (z_ald X 266 rfl (c518_ok rfl) rfl (by first | exact hs2005.1.1 | omega) (show x2006 < 256 by first | exact oq_29e5dbe2 hs2005.1.2 | omega) (cbig_ok rfl) ?_)))
            have b2014 := bc_238 Is2005 (show (x2006).toNat < 256 by first | exact oq_c39a26fc hs2005.1.2 | omega)
            refine z_goto X (t := 97) rfl rfl (z_store_n X (lv' := [(2, .int (Int32.ofInt (iC s2005 238 (x2006).toNat))), (0, .ref (A 179)), (1, .int (Int32.ofInt xv)), (3, .int (Int32.ofInt ov)), (4, .int (Int32.ofInt hh)), (5, .int (Int32.ofInt x2006)), (6, .int (Int32.ofInt x2007))]) rfl (by decide) (fun _ h => h) (z_load_n X (x := ov) rfl (List.Mem.tail _ (List.Mem.tail _ (List.Mem.tail _ (List.Mem.head _)))) (z_aload_n X (x := A 179) rfl (List.Mem.tail _ (List.Mem.head _)) (s_getR X 179 rfl (c518_ok rfl) rfl rfl (z_load X (x := x2006) rfl (List.Mem.tail _ (List.Mem.tail _ (List.Mem.tail _ (List.Mem.tail _ (List.Mem.tail _ (List.Mem.head _)))))) (z_ald X 267 rfl (c518_ok rfl) rfl (by first | exact hs2005.1.1 | omega) (show x2006 < 256 by first | exact oq_29e5dbe2 hs2005.1.2 | omega) (cbig_ok rfl) ?_))))))
            have b2015 := bc_239 Is2005 (show (x2006).toNat < 256 by first | exact oq_c39a26fc hs2005.1.2 | omega)
            refine z_add X rfl (z_anyV (fun y2016 hy2016 ey2016 => ?_))
            refine z_store_n X (lv' := [(3, .int (Int32.ofInt y2016)), (2, .int (Int32.ofInt (iC s2005 238 (x2006).toNat))), (0, .ref (A 179)), (1, .int (Int32.ofInt xv)), (4, .int (Int32.ofInt hh)), (5, .int (Int32.ofInt x2006)), (6, .int (Int32.ofInt x2007))]) rfl (by decide) (fun _ h => h) (z_inc X (x := hh) (lv' := [(4, .int (Int32.ofInt (hh + 1))), (3, .int (Int32.ofInt y2016)), (2, .int (Int32.ofInt (iC s2005 238 (x2006).toNat))), (0, .ref (A 179)), (1, .int (Int32.ofInt xv)), (5, .int (Int32.ofInt x2006)), (6, .int (Int32.ofInt x2007))]) rfl (by decide) (List.Mem.tail _ (List.Mem.tail _ (List.Mem.tail _ (List.Mem.tail _ (List.Mem.head _))))) (fun _ h => h) (z_goto X (t := 7) rfl rfl (WS_pq [3, 4, 2, 1, 0] (lv' := [(0, .ref (A 179)), (1, .int (Int32.ofInt xv)), (2, .int (Int32.ofInt (iC s2005 238 (x2006).toNat))), (3, .int (Int32.ofInt y2016)), (4, .int (Int32.ofInt (hh + 1)))]) rfl ?_)))
            exact ih _ xv (iC s2005 238 (x2006).toNat) y2016 (hh + 1) Is2005 Fs2005 ⟨cml_up (x := x2006) hq.1 (by first | (clear g2012; omega) | omega) hx (fm_c Fs2005 (by decide) : iC s2005 240 (x2006 : Int).toNat = iC s 240 (x2006 : Int).toNat) (by first | (clear g2012; omega) | omega) (fm_c Fs2005 (by decide) : iC s2005 238 (x2006 : Int).toNat = iC s 238 (x2006 : Int).toNat) (by first | (clear g2012; omega) | omega) (fm_c Fs2005 (by decide) : iC s2005 239 (x2006 : Int).toNat = iC s 239 (x2006 : Int).toNat) ey2016, Qs2005.2⟩ (by first | exact ⟨And.intro (hi.1.1) (And.intro (hi.1.2.1) (hi.1.2.2)), And.intro (b2014.1) (b2014.2), And.intro (hy2016.1) (hy2016.2), And.intro (oq_535341f0 g2013) (oq_104b49d1 g2013 hi.1.2.1), hs2005.2.2, hi.2.2.2.2.2.1, hi.2.2.2.2.2.2⟩ | omega) (by first | exact qk_me hm (by decide) (oq_1f22b0de g2013) | omega) kx
          ·
            refine z_aload_n X (x := A 179) rfl (List.Mem.head _) (s_getR X 179 rfl (c518_ok rfl) rfl rfl (z_load X (x := x2006) rfl (List.Mem.tail _ (List.Mem.tail _ (List.Mem.tail _ (List.Mem.tail _ (List.Mem.tail _ (List.Mem.head _)))))) (z_ald X 266 rfl (c518_ok rfl) rfl (by first | exact hs2005.1.1 | omega) (show x2006 < 256 by first | exact oq_29e5dbe2 hs2005.1.2 | omega) (cbig_ok rfl) ?_)))
            have b2017 := bc_238 Is2005 (show (x2006).toNat < 256 by first | exact oq_c39a26fc hs2005.1.2 | omega)
            refine z_load_n X (x := pk) rfl (List.Mem.tail _ (List.Mem.tail _ (List.Mem.head _))) (z_icmp_le X (t := 96) rfl rfl (rng_to _) ⟨by first | exact hi.2.1.1 | omega, by first | exact hi.2.1.2 | omega⟩ (fun g2018 => ?_) (fun g2018 => ?_))
            ·
              refine z_load_n X (x := pk) rfl (List.Mem.tail _ (List.Mem.tail _ (List.Mem.head _))) (z_store_n X (lv' := [(2, .int (Int32.ofInt pk)), (0, .ref (A 179)), (1, .int (Int32.ofInt xv)), (3, .int (Int32.ofInt ov)), (4, .int (Int32.ofInt hh)), (5, .int (Int32.ofInt x2006)), (6, .int (Int32.ofInt x2007))]) rfl (by decide) (fun _ h => h) (z_load_n X (x := ov) rfl (List.Mem.tail _ (List.Mem.tail _ (List.Mem.tail _ (List.Mem.head _)))) (z_aload_n X (x := A 179) rfl (List.Mem.tail _ (List.Mem.head _)) (s_getR X 179 rfl (c518_ok rfl) rfl rfl (z_load X (x := x2006) rfl (List.Mem.tail _ (List.Mem.tail _ (List.Mem.tail _ (List.Mem.tail _ (List.Mem.tail _ (List.Mem.head _)))))) (z_ald X 267 rfl (c518_ok rfl) rfl (by first | exact hs2005.1.1 | omega) (show x2006 < 256 by first | exact oq_29e5dbe2 hs2005.1.2 | omega) (cbig_ok rfl) ?_))))))
              have b2019 := bc_239 Is2005 (show (x2006).toNat < 256 by first | exact oq_c39a26fc hs2005.1.2 | omega)
              refine z_add X rfl (z_anyV (fun y2020 hy2020 ey2020 => ?_))
              refine z_store_n X (lv' := [(3, .int (Int32.ofInt y2020)), (2, .int (Int32.ofInt pk)), (0, .ref (A 179)), (1, .int (Int32.ofInt xv)), (4, .int (Int32.ofInt hh)), (5, .int (Int32.ofInt x2006)), (6, .int (Int32.ofInt x2007))]) rfl (by decide) (fun _ h => h) (z_inc X (x := hh) (lv' := [(4, .int (Int32.ofInt (hh + 1))), (3, .int (Int32.ofInt y2020)), (2, .int (Int32.ofInt pk)), (0, .ref (A 179)), (1, .int (Int32.ofInt xv)), (5, .int (Int32.ofInt x2006)), (6, .int (Int32.ofInt x2007))]) rfl (by decide) (List.Mem.tail _ (List.Mem.tail _ (List.Mem.tail _ (List.Mem.tail _ (List.Mem.head _))))) (fun _ h => h) (z_goto X (t := 7) rfl rfl (WS_pq [3, 4, 2, 1, 0] (lv' := [(0, .ref (A 179)), (1, .int (Int32.ofInt xv)), (2, .int (Int32.ofInt pk)), (3, .int (Int32.ofInt y2020)), (4, .int (Int32.ofInt (hh + 1)))]) rfl ?_)))
              exact ih _ xv pk y2020 (hh + 1) Is2005 Fs2005 ⟨cml_up (x := x2006) hq.1 (by first | (clear g2013 g2012; omega) | (clear g2012; omega) | omega) hx (fm_c Fs2005 (by decide) : iC s2005 240 (x2006 : Int).toNat = iC s 240 (x2006 : Int).toNat) (by first | (clear g2013 g2012; omega) | (clear g2012; omega) | omega) (fm_c Fs2005 (by decide) : iC s2005 238 (x2006 : Int).toNat = iC s 238 (x2006 : Int).toNat) (by first | (clear g2013 g2012; omega) | (clear g2012; omega) | omega) (fm_c Fs2005 (by decide) : iC s2005 239 (x2006 : Int).toNat = iC s 239 (x2006 : Int).toNat) ey2020, Qs2005.2⟩ (by first | exact ⟨And.intro (hi.1.1) (And.intro (hi.1.2.1) (hi.1.2.2)), And.intro (hi.2.1.1) (hi.2.1.2), And.intro (hy2020.1) (hy2020.2), And.intro (oq_54f49eb5 hi.2.2.2.1.1) (oq_8a89b3ae g2004 hi.1.1), hs2005.2.2, hi.2.2.2.2.2.1, hi.2.2.2.2.2.2⟩ | omega) (by first | exact qk_me hm (by decide) (oq_273e7409 g2004 hi.1.1 hi.1.2.2) | omega) kx
            ·
              refine z_aload_n X (x := A 179) rfl (List.Mem.head _) (s_getR X 179 rfl (c518_ok rfl) rfl rfl (z_load X (x := x2006) rfl (List.Mem.tail _ (List.Mem.tail _ (List.Mem.tail _ (List.Mem.tail _ (List.Mem.tail _ (List.Mem.head _)))))) (z_ald X 266 rfl (c518_ok rfl) rfl (by first | exact hs2005.1.1 | omega) (show x2006 < 256 by first | exact oq_29e5dbe2 hs2005.1.2 | omega) (cbig_ok rfl) ?_)))
              have b2021 := bc_238 Is2005 (show (x2006).toNat < 256 by first | exact oq_c39a26fc hs2005.1.2 | omega)
              refine z_goto X (t := 97) rfl rfl (z_store_n X (lv' := [(2, .int (Int32.ofInt (iC s2005 238 (x2006).toNat))), (0, .ref (A 179)), (1, .int (Int32.ofInt xv)), (3, .int (Int32.ofInt ov)), (4, .int (Int32.ofInt hh)), (5, .int (Int32.ofInt x2006)), (6, .int (Int32.ofInt x2007))]) rfl (by decide) (fun _ h => h) (z_load_n X (x := ov) rfl (List.Mem.tail _ (List.Mem.tail _ (List.Mem.tail _ (List.Mem.head _)))) (z_aload_n X (x := A 179) rfl (List.Mem.tail _ (List.Mem.head _)) (s_getR X 179 rfl (c518_ok rfl) rfl rfl (z_load X (x := x2006) rfl (List.Mem.tail _ (List.Mem.tail _ (List.Mem.tail _ (List.Mem.tail _ (List.Mem.tail _ (List.Mem.head _)))))) (z_ald X 267 rfl (c518_ok rfl) rfl (by first | exact hs2005.1.1 | omega) (show x2006 < 256 by first | exact oq_29e5dbe2 hs2005.1.2 | omega) (cbig_ok rfl) ?_))))))
              have b2022 := bc_239 Is2005 (show (x2006).toNat < 256 by first | exact oq_c39a26fc hs2005.1.2 | omega)
              refine z_add X rfl (z_anyV (fun y2023 hy2023 ey2023 => ?_))
              refine z_store_n X (lv' := [(3, .int (Int32.ofInt y2023)), (2, .int (Int32.ofInt (iC s2005 238 (x2006).toNat))), (0, .ref (A 179)), (1, .int (Int32.ofInt xv)), (4, .int (Int32.ofInt hh)), (5, .int (Int32.ofInt x2006)), (6, .int (Int32.ofInt x2007))]) rfl (by decide) (fun _ h => h) (z_inc X (x := hh) (lv' := [(4, .int (Int32.ofInt (hh + 1))), (3, .int (Int32.ofInt y2023)), (2, .int (Int32.ofInt (iC s2005 238 (x2006).toNat))), (0, .ref (A 179)), (1, .int (Int32.ofInt xv)), (5, .int (Int32.ofInt x2006)), (6, .int (Int32.ofInt x2007))]) rfl (by decide) (List.Mem.tail _ (List.Mem.tail _ (List.Mem.tail _ (List.Mem.tail _ (List.Mem.head _))))) (fun _ h => h) (z_goto X (t := 7) rfl rfl (WS_pq [3, 4, 2, 1, 0] (lv' := [(0, .ref (A 179)), (1, .int (Int32.ofInt xv)), (2, .int (Int32.ofInt (iC s2005 238 (x2006).toNat))), (3, .int (Int32.ofInt y2023)), (4, .int (Int32.ofInt (hh + 1)))]) rfl ?_)))
              exact ih _ xv (iC s2005 238 (x2006).toNat) y2023 (hh + 1) Is2005 Fs2005 ⟨cml_up (x := x2006) hq.1 (by first | (clear g2013 g2012; omega) | (clear g2012; omega) | omega) hx (fm_c Fs2005 (by decide) : iC s2005 240 (x2006 : Int).toNat = iC s 240 (x2006 : Int).toNat) (by first | (clear g2013 g2012; omega) | (clear g2012; omega) | omega) (fm_c Fs2005 (by decide) : iC s2005 238 (x2006 : Int).toNat = iC s 238 (x2006 : Int).toNat) (by first | (clear g2013 g2012; omega) | (clear g2012; omega) | omega) (fm_c Fs2005 (by decide) : iC s2005 239 (x2006 : Int).toNat = iC s 239 (x2006 : Int).toNat) ey2023, Qs2005.2⟩ (by first | exact ⟨And.intro (hi.1.1) (And.intro (hi.1.2.1) (hi.1.2.2)), And.intro (b2021.1) (b2021.2), And.intro (hy2023.1) (hy2023.2), And.intro (oq_54f49eb5 hi.2.2.2.1.1) (oq_8a89b3ae g2004 hi.1.1), hs2005.2.2, hi.2.2.2.2.2.1, hi.2.2.2.2.2.2⟩ | omega) (by first | exact qk_me hm (by decide) (oq_273e7409 g2004 hi.1.1 hi.1.2.2) | omega) kx
        ·
          exact w_vret X.1 q hRt (ax_d X (show cdA 262 69 = some (.return_, 1, 0, 0, 0) from rfl)) (Nat.zero_le _) (Nat.zero_le _) ⟨_, rfl, Is2005, Fs2005, rfl, (by rw [cmb_no (c := hh) (x := x2006) (by omega) hx (show iC s 240 (x2006 : Int).toNat = 0 from (fm_c Fs2005 (by decide) : iC s2005 240 (x2006 : Int).toNat = iC s 240 (x2006 : Int).toNat).symm.trans (by omega))]; exact Qs2005.2)⟩
  have L162 : ∀ (n : Nat) (t : PS) (pk ov ka : Int), Bd t → Fm [100, 101] [236] s t → (∀ j : Nat, (j : Int) < ka → iC t 236 j = hfM s j) → (rng pk ∧ rng ov ∧ (0 ≤ ka ∧ ka ≤ iI s 97) ∧ (iI t 100 = pk ∧ iI t 101 = ov) ∧ iI t 97 = iI s 97 ∧ (1 ≤ iI s 97 ∧ iI s 97 ≤ 8)) → (8 - ka : Int).toNat < n → (∀ (t' : PS) (ka' : Int), Bd t' → Fm [100, 101] [236] s t' → (∀ j : Nat, (j : Int) < ka' → iC t' 236 j = hfM s j) → (ka' = iI s 97 ∧ (iI t' 100 = pk ∧ iI t' 101 = ov) ∧ iI t' 97 = iI s 97 ∧ (1 ≤ iI s 97 ∧ iI s 97 ≤ 8)) → WS k 191 [(0, .ref (A 179)), (2, .int (Int32.ofInt pk)), (3, .int (Int32.ofInt ov)), (4, .int (Int32.ofInt ka'))] [] (Wd A dT t') 0 0) → WS k 162 [(0, .ref (A 179)), (2, .int (Int32.ofInt pk)), (3, .int (Int32.ofInt ov)), (4, .int (Int32.ofInt ka))] [] (Wd A dT t) 0 0 := by
    intro n
    induction n with
    | zero =>
      intro t pk ov ka I F hq hi hm kx
      exact absurd hm (Nat.not_lt_zero _)
    | succ n ih =>
      intro t pk ov ka I F hq hi hm kx
      have b3001 := bi_97 I
      have b3002 := bi_100 I
      have b3003 := bi_101 I
      refine z_load X (x := ka) rfl (List.Mem.tail _ (List.Mem.tail _ (List.Mem.tail _ (List.Mem.head _)))) (z_aload_n X (x := A 179) rfl (List.Mem.head _) (z_getI X 179 rfl (c518_ok rfl) rfl rfl ?_))
      have b3004 := bi_97 I
      refine z_icmp_ge X (t := 191) rfl rfl ⟨by first | exact oq_fa4e5087 hi.2.2.1.1 | omega, by first | exact oq_b5dbaaed hi.2.2.1.2 hi.2.2.2.2.2.2 | omega⟩ (rng_to _) (fun g3005 => ?_) (fun g3005 => ?_)
      ·
        refine WS_pq [0, 1, 2, 3] (lv' := [(0, .ref (A 179)), (2, .int (Int32.ofInt pk)), (3, .int (Int32.ofInt ov)), (4, .int (Int32.ofInt ka))]) rfl ?_
        exact kx _ ka I F hq (by first | exact ⟨oq_537ca82a hi.2.2.1.2 g3005 hi.2.2.2.2.1, And.intro (hi.2.2.2.1.1) (hi.2.2.2.1.2), hi.2.2.2.2.1, hi.2.2.2.2.2.1, hi.2.2.2.2.2.2⟩ | omega)
      ·
        refine z_aload_n X (x := A 179) rfl (List.Mem.head _) (s_getR X 179 rfl (c518_ok rfl) rfl rfl (z_load X (x := ka) rfl (List.Mem.tail _ (List.Mem.tail _ (List.Mem.tail _ (List.Mem.head _)))) (z_aload_n X (x := A 179) rfl (List.Mem.head _) (s_getR X 179 rfl (c518_ok rfl) rfl rfl (z_load X (x := ka) rfl (List.Mem.tail _ (List.Mem.tail _ (List.Mem.tail _ (List.Mem.head _)))) (z_ald X 263 rfl (c518_ok rfl) rfl (by first | exact hi.2.2.1.1 | omega) (show ka < 8 by first | exact oq_7f5b2e79 g3005 b3004.2 | omega) (cbig_ok rfl) ?_))))))
        have b3006 := bc_235 I (show (ka).toNat < 8 by first | exact oq_67be0351 g3005 b3004.2 | omega)
        refine z_ast X 264 rfl (c518_ok rfl) rfl (by first | exact hi.2.2.1.1 | omega) (show ka < 8 by first | exact oq_7f5b2e79 g3005 b3004.2 | omega) (cbig_ok rfl) (wd_gen (fun s3007 hs3007 => ?_))
        have Is3007 : Bd s3007 := eqB hs3007 (bd_C I (show ((-1) : Int) ≤ (iC t 235 (ka).toNat) ∧ (iC t 235 (ka).toNat) ≤ 7 by first | exact ⟨oq_ca54ea22 b3006.1, b3006.2⟩ | omega) (rng_to _))
        have Fs3007 := eqF hs3007 (fm_C F (inl_ok (a := 236) rfl))
        have ws3007_97 : iI s3007 97 = iI t 97 := eqI hs3007 rfl
        have ws3007_100 : iI s3007 100 = iI t 100 := eqI hs3007 rfl
        have ws3007_101 : iI s3007 101 = iI t 101 := eqI hs3007 rfl
        have aws3007_236 : UPD 236 (ka) (iC t 235 (ka).toNat) t s3007 := by rw [hs3007]; exact upd_put (sam_rf (a := 236) (s := t)) (rng_to _)
        refine z_inc X (x := ka) (lv' := [(4, .int (Int32.ofInt (ka + 1))), (0, .ref (A 179)), (2, .int (Int32.ofInt pk)), (3, .int (Int32.ofInt ov))]) rfl (by decide) (List.Mem.tail _ (List.Mem.tail _ (List.Mem.tail _ (List.Mem.head _)))) (fun _ h => h) (z_goto X (t := 162) rfl rfl (WS_pq [1, 2, 3, 0] (lv' := [(0, .ref (A 179)), (2, .int (Int32.ofInt pk)), (3, .int (Int32.ofInt ov)), (4, .int (Int32.ofInt (ka + 1)))]) rfl ?_))
        exact ih _ pk ov (ka + 1) Is3007 Fs3007 (fl8_up (f := hfM s) hq (by omega) aws3007_236 (fm_c F (by decide) : iC t 235 (ka : Int).toNat = iC s 235 (ka : Int).toNat)) (by first | exact ⟨And.intro (hi.1.1) (hi.1.2), And.intro (hi.2.1.1) (hi.2.1.2), And.intro (oq_54f49eb5 hi.2.2.1.1) (oq_8a89b3ae g3005 hi.2.2.2.2.1), And.intro (oq_1aa5be9e ws3007_100 hi.2.2.2.1.1) (oq_1aa5be9e ws3007_101 hi.2.2.2.1.2), oq_1aa5be9e ws3007_97 hi.2.2.2.2.1, hi.2.2.2.2.2.1, hi.2.2.2.2.2.2⟩ | omega) (by first | exact qk_me hm (by decide) (oq_ccc5e5e0 g3005 b3004.2) | omega) kx
  refine z_const X rfl (z_store_n X (lv' := [(2, .int (Int32.ofInt 0)), (0, .ref (A 179)), (1, .int (Int32.ofInt x))]) rfl (by decide) (fun _ h => h) (z_const X rfl (z_store_n X (lv' := [(3, .int (Int32.ofInt 0)), (2, .int (Int32.ofInt 0)), (0, .ref (A 179)), (1, .int (Int32.ofInt x))]) rfl (by decide) (fun _ h => h) (z_const X rfl (z_store X (lv' := [(4, .int (Int32.ofInt 0)), (3, .int (Int32.ofInt 0)), (2, .int (Int32.ofInt 0)), (0, .ref (A 179)), (1, .int (Int32.ofInt x))]) rfl (by decide) (fun _ h => h) (WS_pq [3, 4, 2, 1, 0] (lv' := [(0, .ref (A 179)), (1, .int (Int32.ofInt x)), (2, .int (Int32.ofInt 0)), (3, .int (Int32.ofInt 0)), (4, .int (Int32.ofInt 0))]) rfl (L7 ((3 - 0 : Int).toNat + 1) s x 0 0 0 I F ⟨cml_0, p1⟩ (by first | exact ⟨And.intro (by decide) (And.intro (p0.1) (p0.2)), And.intro (by decide) (by decide), And.intro (by decide) (by decide), And.intro (by decide) (oq_2a6e3b50 p0.1), by decide, p2, b1.2⟩ | omega) (Nat.lt_succ_self _) ?_)))))))
  intro s4 x5 x6 x7 Is4 Fs4 Qs4 hs4
  have b8 := bi_97 Is4
  have b9 := bi_100 Is4
  have b10 := bi_101 Is4
  have hC : CML (hgM s) (pkM s) (ovM s) (nnM s) (hfM s) x x5 x6 := by have z := Qs4.1; rw [show x7 = x by omega] at z; exact z
  refine z_aload_n X (x := A 179) rfl (List.Mem.head _) (s_getR X 179 rfl (c518_ok rfl) rfl rfl (z_const X rfl (z_ald X 264 rfl (c518_ok rfl) rfl (by decide) (show 0 < 8 by decide) (cbig_ok rfl) ?_)))
  have b11 := bc_236 Is4 (show (0 : Int).toNat < 8 by first | exact oq_7f42415e | omega)
  have hz0 : (iC s4 236 (0 : Int).toNat) = iC s4 236 0 := rfl
  refine z_const X rfl (z_icmp_eq X (t := 149) rfl rfl (rng_to _) (by decide) (fun g12 => ?_) (fun g12 => ?_))
  ·
    refine z_aload_n X (x := A 179) rfl (List.Mem.head _) (z_load_n X (x := x5) rfl (List.Mem.tail _ (List.Mem.tail _ (List.Mem.head _))) (s_putI X 179 rfl (c518_ok rfl) rfl rfl (by decide) rfl rfl rfl (wd_gen (fun s13 hs13 => ?_))))
    have Is13 : Bd s13 := eqB hs13 (bd_I Is4 (show ((-2147483648) : Int) ≤ x5 ∧ x5 ≤ 2147483647 by first | exact ⟨hs4.2.1.1, hs4.2.1.2⟩ | omega) ⟨by first | exact hs4.2.1.1 | omega, by first | exact hs4.2.1.2 | omega⟩)
    have Fs13 := eqF hs13 (fm_I Fs4 (inl_ok (a := 100) rfl))
    have vs13 : iI s13 100 = x5 := eqI hs13 (iI_u ⟨by first | exact hs4.2.1.1 | omega, by first | exact hs4.2.1.2 | omega⟩)
    have ws13_97 : iI s13 97 = iI s4 97 := eqI hs13 rfl
    have ws13_101 : iI s13 101 = iI s4 101 := eqI hs13 rfl
    refine z_aload_n X (x := A 179) rfl (List.Mem.head _) (z_load_n X (x := x6) rfl (List.Mem.tail _ (List.Mem.tail _ (List.Mem.tail _ (List.Mem.head _)))) (s_putI X 179 rfl (c518_ok rfl) rfl rfl (by decide) rfl rfl rfl (wd_gen (fun s14 hs14 => ?_))))
    have Is14 : Bd s14 := eqB hs14 (bd_I Is13 (show ((-2147483648) : Int) ≤ x6 ∧ x6 ≤ 2147483647 by first | exact ⟨hs4.2.2.1.1, hs4.2.2.1.2⟩ | omega) ⟨by first | exact hs4.2.2.1.1 | omega, by first | exact hs4.2.2.1.2 | omega⟩)
    have Fs14 := eqF hs14 (fm_I Fs13 (inl_ok (a := 101) rfl))
    have vs14 : iI s14 101 = x6 := eqI hs14 (iI_u ⟨by first | exact hs4.2.2.1.1 | omega, by first | exact hs4.2.2.1.2 | omega⟩)
    have ws14_97 : iI s14 97 = iI s13 97 := eqI hs14 rfl
    have ws14_100 : iI s14 100 = iI s13 100 := eqI hs14 rfl
    refine z_const X rfl (z_store X (lv' := [(4, .int (Int32.ofInt 0)), (0, .ref (A 179)), (1, .int (Int32.ofInt x)), (2, .int (Int32.ofInt x5)), (3, .int (Int32.ofInt x6))]) rfl (by decide) (fun _ h => h) (WS_pq [1, 3, 4, 0] (lv' := [(0, .ref (A 179)), (2, .int (Int32.ofInt x5)), (3, .int (Int32.ofInt x6)), (4, .int (Int32.ofInt 0))]) rfl (L162 ((8 - 0 : Int).toNat + 1) s14 x5 x6 0 Is14 Fs14 (fun j hj => absurd hj (by omega)) (by first | exact ⟨And.intro (hs4.2.1.1) (hs4.2.1.2), And.intro (hs4.2.2.1.1) (hs4.2.2.1.2), And.intro (by decide) (b1.1), And.intro (oq_1aa5be9e ws14_100 vs13) (vs14), oq_878618b1 ws14_97 ws13_97 hs4.2.2.2.2.1, hs4.2.2.2.2.2.1, hs4.2.2.2.2.2.2⟩ | omega) (Nat.lt_succ_self _) ?_)))
    intro s15 x16 Is15 Fs15 Qs15 hs15
    have b17 := bi_97 Is15
    have b18 := bi_100 Is15
    have b19 := bi_101 Is15
    exact w_vret X.1 q hRt (ax_d X (show cdA 262 191 = some (.return_, 1, 0, 0, 0) from rfl)) (Nat.zero_le _) (Nat.zero_le _) ⟨_, rfl, Is15, Fs15, rfl, (by rw [cmb_y hC (by omega) ⟨by first | exact hs4.2.2.1.1 | omega, by first | exact hs4.2.2.1.2 | omega⟩ (bsp_b Qs4.2 (by omega))]; exact bsp_w (by omega) (by omega) (fun j hj => Qs15 j (by have w : j < (iI s 97).toNat := hj; omega)) (show 1 ≤ (iI s 97).toNat by omega) (by have z := I.2 235 0 (by decide); replace z : 0 ≤ iC s 235 0 ∧ iC s 235 0 ≤ 7 := z; show iC s 235 0 ≠ -1; omega))⟩
  ·
    refine z_load_n X (x := x5) rfl (List.Mem.tail _ (List.Mem.tail _ (List.Mem.head _))) (z_aload_n X (x := A 179) rfl (List.Mem.head _) (z_getI X 179 rfl (c518_ok rfl) rfl rfl ?_))
    have b20 := bi_100 Is4
    refine z_icmp_gt X (t := 148) rfl rfl ⟨by first | exact hs4.2.1.1 | omega, by first | exact hs4.2.1.2 | omega⟩ (rng_to _) (fun g21 => ?_) (fun g21 => ?_)
    ·
      exact w_vret X.1 q hRt (ax_d X (show cdA 262 148 = some (.return_, 1, 0, 0, 0) from rfl)) (Nat.zero_le _) (Nat.zero_le _) ⟨_, rfl, Is4, Fs4, rfl, (by rw [cmb_k hC (by first | (clear g12; omega) | omega) ⟨by first | exact hs4.2.2.1.1 | omega, by first | exact hs4.2.2.1.2 | omega⟩ (bsp_k Qs4.2 (by first | (clear g12; omega) | omega))]; exact Qs4.2)⟩
    ·
      refine z_load_n X (x := x5) rfl (List.Mem.tail _ (List.Mem.tail _ (List.Mem.head _))) (z_aload_n X (x := A 179) rfl (List.Mem.head _) (z_getI X 179 rfl (c518_ok rfl) rfl rfl ?_))
      have b22 := bi_100 Is4
      refine z_icmp_ne X (t := 149) rfl rfl ⟨by first | exact hs4.2.1.1 | omega, by first | exact hs4.2.1.2 | omega⟩ (rng_to _) (fun g23 => ?_) (fun g23 => ?_)
      ·
        refine z_aload_n X (x := A 179) rfl (List.Mem.head _) (z_load_n X (x := x5) rfl (List.Mem.tail _ (List.Mem.tail _ (List.Mem.head _))) (s_putI X 179 rfl (c518_ok rfl) rfl rfl (by decide) rfl rfl rfl (wd_gen (fun s24 hs24 => ?_))))
        have Is24 : Bd s24 := eqB hs24 (bd_I Is4 (show ((-2147483648) : Int) ≤ x5 ∧ x5 ≤ 2147483647 by first | exact ⟨hs4.2.1.1, hs4.2.1.2⟩ | omega) ⟨by first | exact hs4.2.1.1 | omega, by first | exact hs4.2.1.2 | omega⟩)
        have Fs24 := eqF hs24 (fm_I Fs4 (inl_ok (a := 100) rfl))
        have vs24 : iI s24 100 = x5 := eqI hs24 (iI_u ⟨by first | exact hs4.2.1.1 | omega, by first | exact hs4.2.1.2 | omega⟩)
        have ws24_97 : iI s24 97 = iI s4 97 := eqI hs24 rfl
        have ws24_101 : iI s24 101 = iI s4 101 := eqI hs24 rfl
        refine z_aload_n X (x := A 179) rfl (List.Mem.head _) (z_load_n X (x := x6) rfl (List.Mem.tail _ (List.Mem.tail _ (List.Mem.tail _ (List.Mem.head _)))) (s_putI X 179 rfl (c518_ok rfl) rfl rfl (by decide) rfl rfl rfl (wd_gen (fun s25 hs25 => ?_))))
        have Is25 : Bd s25 := eqB hs25 (bd_I Is24 (show ((-2147483648) : Int) ≤ x6 ∧ x6 ≤ 2147483647 by first | exact ⟨hs4.2.2.1.1, hs4.2.2.1.2⟩ | omega) ⟨by first | exact hs4.2.2.1.1 | omega, by first | exact hs4.2.2.1.2 | omega⟩)
        have Fs25 := eqF hs25 (fm_I Fs24 (inl_ok (a := 101) rfl))
        have vs25 : iI s25 101 = x6 := eqI hs25 (iI_u ⟨by first | exact hs4.2.2.1.1 | omega, by first | exact hs4.2.2.1.2 | omega⟩)
        have ws25_97 : iI s25 97 = iI s24 97 := eqI hs25 rfl
        have ws25_100 : iI s25 100 = iI s24 100 := eqI hs25 rfl
        refine z_const X rfl (z_store X (lv' := [(4, .int (Int32.ofInt 0)), (0, .ref (A 179)), (1, .int (Int32.ofInt x)), (2, .int (Int32.ofInt x5)), (3, .int (Int32.ofInt x6))]) rfl (by decide) (fun _ h => h) (WS_pq [1, 3, 4, 0] (lv' := [(0, .ref (A 179)), (2, .int (Int32.ofInt x5)), (3, .int (Int32.ofInt x6)), (4, .int (Int32.ofInt 0))]) rfl (L162 ((8 - 0 : Int).toNat + 1) s25 x5 x6 0 Is25 Fs25 (fun j hj => absurd hj (by first | (clear g23 g12; omega) | (clear g12; omega) | omega)) (by first | exact ⟨And.intro (hs4.2.1.1) (hs4.2.1.2), And.intro (hs4.2.2.1.1) (hs4.2.2.1.2), And.intro (by decide) (b1.1), And.intro (oq_1aa5be9e ws25_100 vs24) (vs25), oq_878618b1 ws25_97 ws24_97 hs4.2.2.2.2.1, hs4.2.2.2.2.2.1, hs4.2.2.2.2.2.2⟩ | omega) (Nat.lt_succ_self _) ?_)))
        intro s26 x27 Is26 Fs26 Qs26 hs26
        have b28 := bi_97 Is26
        have b29 := bi_100 Is26
        have b30 := bi_101 Is26
        exact w_vret X.1 q hRt (ax_d X (show cdA 262 191 = some (.return_, 1, 0, 0, 0) from rfl)) (Nat.zero_le _) (Nat.zero_le _) ⟨_, rfl, Is26, Fs26, rfl, (by rw [cmb_y hC (by first | (clear g23 g12; omega) | (clear g12; omega) | omega) ⟨by first | exact hs4.2.2.1.1 | omega, by first | exact hs4.2.2.1.2 | omega⟩ (bsp_b Qs4.2 (by first | (clear g23 g12; omega) | (clear g12; omega) | omega))]; exact bsp_w (by first | (clear g23 g12; omega) | (clear g12; omega) | omega) (by first | (clear g23 g12; omega) | (clear g12; omega) | omega) (fun j hj => Qs26 j (by have w : j < (iI s 97).toNat := hj; omega)) (show 1 ≤ (iI s 97).toNat by first | (clear g23 g12; omega) | (clear g12; omega) | omega) (by have z := I.2 235 0 (by decide); replace z : 0 ≤ iC s 235 0 ∧ iC s 235 0 ≤ 7 := z; show iC s 235 0 ≠ -1; omega))⟩
      ·
        refine z_load_n X (x := x6) rfl (List.Mem.tail _ (List.Mem.tail _ (List.Mem.tail _ (List.Mem.head _)))) (z_aload_n X (x := A 179) rfl (List.Mem.head _) (z_getI X 179 rfl (c518_ok rfl) rfl rfl ?_))
        have b31 := bi_101 Is4
        refine z_icmp_lt X (t := 149) rfl rfl ⟨by first | exact hs4.2.2.1.1 | omega, by first | exact hs4.2.2.1.2 | omega⟩ (rng_to _) (fun g32 => ?_) (fun g32 => ?_)
        ·
          refine z_aload_n X (x := A 179) rfl (List.Mem.head _) (z_load_n X (x := x5) rfl (List.Mem.tail _ (List.Mem.tail _ (List.Mem.head _))) (s_putI X 179 rfl (c518_ok rfl) rfl rfl (by decide) rfl rfl rfl (wd_gen (fun s33 hs33 => ?_))))
          have Is33 : Bd s33 := eqB hs33 (bd_I Is4 (show ((-2147483648) : Int) ≤ x5 ∧ x5 ≤ 2147483647 by first | exact ⟨hs4.2.1.1, hs4.2.1.2⟩ | omega) ⟨by first | exact hs4.2.1.1 | omega, by first | exact hs4.2.1.2 | omega⟩)
          have Fs33 := eqF hs33 (fm_I Fs4 (inl_ok (a := 100) rfl))
          have vs33 : iI s33 100 = x5 := eqI hs33 (iI_u ⟨by first | exact hs4.2.1.1 | omega, by first | exact hs4.2.1.2 | omega⟩)
          have ws33_97 : iI s33 97 = iI s4 97 := eqI hs33 rfl
          have ws33_101 : iI s33 101 = iI s4 101 := eqI hs33 rfl
          refine z_aload_n X (x := A 179) rfl (List.Mem.head _) (z_load_n X (x := x6) rfl (List.Mem.tail _ (List.Mem.tail _ (List.Mem.tail _ (List.Mem.head _)))) (s_putI X 179 rfl (c518_ok rfl) rfl rfl (by decide) rfl rfl rfl (wd_gen (fun s34 hs34 => ?_))))
          have Is34 : Bd s34 := eqB hs34 (bd_I Is33 (show ((-2147483648) : Int) ≤ x6 ∧ x6 ≤ 2147483647 by first | exact ⟨hs4.2.2.1.1, hs4.2.2.1.2⟩ | omega) ⟨by first | exact hs4.2.2.1.1 | omega, by first | exact hs4.2.2.1.2 | omega⟩)
          have Fs34 := eqF hs34 (fm_I Fs33 (inl_ok (a := 101) rfl))
          have vs34 : iI s34 101 = x6 := eqI hs34 (iI_u ⟨by first | exact hs4.2.2.1.1 | omega, by first | exact hs4.2.2.1.2 | omega⟩)
          have ws34_97 : iI s34 97 = iI s33 97 := eqI hs34 rfl
          have ws34_100 : iI s34 100 = iI s33 100 := eqI hs34 rfl
          refine z_const X rfl (z_store X (lv' := [(4, .int (Int32.ofInt 0)), (0, .ref (A 179)), (1, .int (Int32.ofInt x)), (2, .int (Int32.ofInt x5)), (3, .int (Int32.ofInt x6))]) rfl (by decide) (fun _ h => h) (WS_pq [1, 3, 4, 0] (lv' := [(0, .ref (A 179)), (2, .int (Int32.ofInt x5)), (3, .int (Int32.ofInt x6)), (4, .int (Int32.ofInt 0))]) rfl (L162 ((8 - 0 : Int).toNat + 1) s34 x5 x6 0 Is34 Fs34 (fun j hj => absurd hj (by first | (clear g12; omega) | omega)) (by first | exact ⟨And.intro (hs4.2.1.1) (hs4.2.1.2), And.intro (hs4.2.2.1.1) (hs4.2.2.1.2), And.intro (by decide) (b1.1), And.intro (oq_1aa5be9e ws34_100 vs33) (vs34), oq_878618b1 ws34_97 ws33_97 hs4.2.2.2.2.1, hs4.2.2.2.2.2.1, hs4.2.2.2.2.2.2⟩ | omega) (Nat.lt_succ_self _) ?_)))
          intro s35 x36 Is35 Fs35 Qs35 hs35
          have b37 := bi_97 Is35
          have b38 := bi_100 Is35
          have b39 := bi_101 Is35
          exact w_vret X.1 q hRt (ax_d X (show cdA 262 191 = some (.return_, 1, 0, 0, 0) from rfl)) (Nat.zero_le _) (Nat.zero_le _) ⟨_, rfl, Is35, Fs35, rfl, (by rw [cmb_y hC (by first | (clear g12; omega) | omega) ⟨by first | exact hs4.2.2.1.1 | omega, by first | exact hs4.2.2.1.2 | omega⟩ (bsp_b Qs4.2 (by first | (clear g12; omega) | omega))]; exact bsp_w (by first | (clear g12; omega) | omega) (by first | (clear g12; omega) | omega) (fun j hj => Qs35 j (by have w : j < (iI s 97).toNat := hj; omega)) (show 1 ≤ (iI s 97).toNat by first | (clear g12; omega) | omega) (by have z := I.2 235 0 (by decide); replace z : 0 ≤ iC s 235 0 ∧ iC s 235 0 ≤ 7 := z; show iC s 235 0 ≠ -1; omega))⟩
        ·
          exact w_vret X.1 q hRt (ax_d X (show cdA 262 148 = some (.return_, 1, 0, 0, 0) from rfl)) (Nat.zero_le _) (Nat.zero_le _) ⟨_, rfl, Is4, Fs4, rfl, (by rw [cmb_k hC (by first | (clear g12; omega) | omega) ⟨by first | exact hs4.2.2.1.1 | omega, by first | exact hs4.2.2.1.2 | omega⟩ (bsp_k Qs4.2 (by first | (clear g12; omega) | omega))]; exact Qs4.2)⟩
set_option maxRecDepth 4000 in
theorem k_parts80 (G : GX l s0 D tys a0 dT) {B : BsO} (I : Bd s) {x y z : Int} (p0 : 0 ≤ x ∧ x ≤ iI s 97) (p1 : iI s 97 - x ≤ ((0 : Nat) : Int)) (p2 : 0 ≤ y ∧ y ≤ z) (p3 : 1 ≤ z ∧ z ≤ 3) (p4 : x = 0 ∨ 1 ≤ y) (p5 : 1 ≤ iI s 97) (p6 : BSP (nnM s) B s) : CT l s0 D A dT 261 (rkR (12 + (0))) [.ref (A 179), .int (Int32.ofInt x), .int (Int32.ofInt y), .int (Int32.ofInt z)] s (fun o t => Bd t ∧ Fm [100, 101] [236, 235] s t ∧ o = .inl none ∧ (PTQ B x y z s t)) := by
  refine ct_of G (by decide) (Nat.le_of_ble_eq_true rfl) (fun k X E hRt hXt q => ?_)
  show WS k 0 [(0, .ref (A 179)), (1, .int (Int32.ofInt x)), (2, .int (Int32.ofInt y)), (3, .int (Int32.ofInt z))] [] _ 0 0
  have F : Fm [100, 101] [236, 235] s s := fm_rf _ _ s
  have b1 := bi_97 I
  have b2 := bi_100 I
  have b3 := bi_101 I
  refine z_load_n X (x := x) rfl (List.Mem.tail _ (List.Mem.head _)) (z_aload_n X (x := A 179) rfl (List.Mem.head _) (z_getI X 179 rfl (c518_ok rfl) rfl rfl ?_))
  have b4 := bi_97 I
  refine z_icmp_ne X (t := 14) rfl rfl ⟨by first | exact oq_fa4e5087 p0.1 | omega, by first | exact oq_b5dbaaed p0.2 b4.2 | omega⟩ (rng_to _) (fun g5 => ?_) (fun g5 => ?_)
  ·
    exfalso
    omega
  ·
    refine z_aload_n X (x := A 179) rfl (List.Mem.head _) (z_load_n X (x := y) rfl (List.Mem.tail _ (List.Mem.tail _ (List.Mem.head _))) (z_callV X 179 (rm := rmN 262) (As := [.int (Int32.ofInt y)]) (st := []) rfl rfl (by decide) rfl (by rw [E.1, E.2.1, E.2.2.1]; exact k_judges8 G I (by first | exact ⟨oq_9499932b g5 p5 p4, oq_300cfc0a p2.2 p3.2⟩ | omega) (p6) (by first | exact p5 | omega)) ⟨by rw [E.2.2.2]; exact (show 6 + 1 ≤ (12 + (12 + (0))) from oq_57e4ae5d), by rw [E.2.2.2]; exact (show 8 + (7 + 11) + 100 ≤ (500 + 45 * (12 + (0))) from oq_67d961ff), by rw [E.2.2.2]; exact Nat.le_refl 0, by rw [E.2.2.2]; exact Nat.le_refl 0⟩ (Nat.le_of_ble_eq_true rfl) (fun vv s6 hq => ?_) (fun ee s6 hq => ?_)))
    rotate_left
    · obtain ⟨Is6, Fs6, hv, hps6⟩ := hq; cases hv
    obtain ⟨Is6, Fs6, hv, hps6⟩ := hq
    cases hv
    have Gs6 := fm_tq F Fs6 rfl rfl
    have ws6_97 : iI s6 97 = iI s 97 := fm_iq Fs6 rfl
    have b8 := bi_100 Is6
    have b9 := bi_101 Is6
    show WS k 13 [(0, .ref (A 179)), (1, .int (Int32.ofInt x)), (2, .int (Int32.ofInt y)), (3, .int (Int32.ofInt z))] [] (Wd A dT s6) 0 0
    exact w_vret X.1 q hRt (ax_d X (show cdA 261 13 = some (.return_, 1, 0, 0, 0) from rfl)) (Nat.zero_le _) (Nat.zero_le _) ⟨_, rfl, Is6, Gs6, rfl, (ptq_0 (by first | (clear p4; omega) | omega) hps6 (sam_fm Fs6 (by decide)))⟩
set_option maxRecDepth 4000 in
theorem k_parts8S (G : GX l s0 D tys a0 dT) {B : BsO} {r : Nat} (hR : ∀ {s : PS} {x y z : Int} {B : BsO}, Bd s → (0 ≤ x ∧ x ≤ iI s 97) → (iI s 97 - x ≤ ((r : Nat) : Int)) → (0 ≤ y ∧ y ≤ z) → (1 ≤ z ∧ z ≤ 3) → (x = 0 ∨ 1 ≤ y) → (1 ≤ iI s 97) → (BSP (nnM s) B s) → CT l s0 D A dT 261 (rkR (12 + (r))) [.ref (A 179), .int (Int32.ofInt x), .int (Int32.ofInt y), .int (Int32.ofInt z)] s (fun o t => Bd t ∧ Fm [100, 101] [236, 235] s t ∧ o = .inl none ∧ (PTQ B x y z s t))) (I : Bd s) {x y z : Int} (p0 : 0 ≤ x ∧ x ≤ iI s 97) (p1 : iI s 97 - x ≤ ((r + 1 : Nat) : Int)) (p2 : 0 ≤ y ∧ y ≤ z) (p3 : 1 ≤ z ∧ z ≤ 3) (p4 : x = 0 ∨ 1 ≤ y) (p5 : 1 ≤ iI s 97) (p6 : BSP (nnM s) B s) : CT l s0 D A dT 261 (rkR (12 + (r + 1))) [.ref (A 179), .int (Int32.ofInt x), .int (Int32.ofInt y), .int (Int32.ofInt z)] s (fun o t => Bd t ∧ Fm [100, 101] [236, 235] s t ∧ o = .inl none ∧ (PTQ B x y z s t)) := by
  refine ct_of G (by decide) (Nat.le_of_ble_eq_true rfl) (fun k X E hRt hXt q => ?_)
  show WS k 0 [(0, .ref (A 179)), (1, .int (Int32.ofInt x)), (2, .int (Int32.ofInt y)), (3, .int (Int32.ofInt z))] [] _ 0 0
  have F : Fm [100, 101] [236, 235] s s := fm_rf _ _ s
  have b1 := bi_97 I
  have b2 := bi_100 I
  have b3 := bi_101 I
  have L17 : ∀ (n : Nat) (t : PS) (xv yv zv hh : Int), Bd t → Fm [100, 101] [236, 235] s t → (PTL B x y z s hh t) → ((xv = x ∧ yv = y ∧ zv = z) ∧ (0 ≤ x ∧ x < iI s 97) ∧ (0 ≤ y ∧ y ≤ z) ∧ (1 ≤ z ∧ z ≤ 3) ∧ (0 ≤ hh ∧ hh ≤ y + 1 ∧ hh ≤ z) ∧ iI t 97 = iI s 97) → (3 - hh : Int).toNat < n → (∀ (t' : PS) (hh' : Int), Bd t' → Fm [100, 101] [236, 235] s t' → (PTL B x y z s hh' t') → ((0 ≤ x ∧ x < iI s 97) ∧ ((y < z ∧ hh' = y + 1) ∨ (z ≤ y ∧ hh' = z))) → WS k 64 [(0, .ref (A 179)), (1, .int (Int32.ofInt xv)), (2, .int (Int32.ofInt yv)), (3, .int (Int32.ofInt zv)), (4, .int (Int32.ofInt hh'))] [] (Wd A dT t') 0 0) → WS k 17 [(0, .ref (A 179)), (1, .int (Int32.ofInt xv)), (2, .int (Int32.ofInt yv)), (3, .int (Int32.ofInt zv)), (4, .int (Int32.ofInt hh))] [] (Wd A dT t) 0 0 := by
    intro n
    induction n with
    | zero =>
      intro t xv yv zv hh I F hq hi hm kx
      exact absurd hm (Nat.not_lt_zero _)
    | succ n ih =>
      intro t xv yv zv hh I F hq hi hm kx
      have b1001 := bi_97 I
      have b1002 := bi_100 I
      have b1003 := bi_101 I
      refine z_load X (x := hh) rfl (List.Mem.tail _ (List.Mem.tail _ (List.Mem.tail _ (List.Mem.tail _ (List.Mem.head _))))) (z_load_n X (x := yv) rfl (List.Mem.tail _ (List.Mem.tail _ (List.Mem.head _))) (z_icmp_gt X (t := 64) rfl rfl ⟨by first | exact oq_fa4e5087 hi.2.2.2.2.1.1 | omega, by first | exact oq_f647a1c7 hi.2.2.2.2.1.2.2 hi.2.2.2.1.2 | omega⟩ ⟨by first | exact oq_b3df2c6f hi.1.2.1 hi.2.2.1.1 | omega, by first | exact oq_558b26b0 hi.1.2.1 hi.2.2.1.2 hi.2.2.2.1.2 | omega⟩ (fun g1004 => ?_) (fun g1004 => ?_)))
      ·
        refine WS_pq [0, 1, 2, 3, 4] (lv' := [(0, .ref (A 179)), (1, .int (Int32.ofInt xv)), (2, .int (Int32.ofInt yv)), (3, .int (Int32.ofInt zv)), (4, .int (Int32.ofInt hh))]) rfl ?_
        exact kx _ hh I F hq (by first | exact ⟨And.intro (hi.2.1.1) (hi.2.1.2), Or.inl (And.intro (oq_5219dbca hi.1.2.1 g1004 hi.2.2.2.2.1.2.2) (oq_72bab12e hi.2.2.2.2.1.2.1 g1004 hi.1.2.1))⟩ | omega)
      ·
        refine z_load X (x := hh) rfl (List.Mem.tail _ (List.Mem.tail _ (List.Mem.tail _ (List.Mem.tail _ (List.Mem.head _))))) (z_load_n X (x := zv) rfl (List.Mem.tail _ (List.Mem.tail _ (List.Mem.tail _ (List.Mem.head _)))) (z_icmp_ge X (t := 64) rfl rfl ⟨by first | exact oq_fa4e5087 hi.2.2.2.2.1.1 | omega, by first | exact oq_f647a1c7 hi.2.2.2.2.1.2.2 hi.2.2.2.1.2 | omega⟩ ⟨by first | exact oq_4dc996b7 hi.1.2.2 hi.2.2.2.1.1 | omega, by first | exact oq_fc67fc75 hi.1.2.2 hi.2.2.2.1.2 | omega⟩ (fun g1005 => ?_) (fun g1005 => ?_)))
        ·
          refine WS_pq [0, 1, 2, 3, 4] (lv' := [(0, .ref (A 179)), (1, .int (Int32.ofInt xv)), (2, .int (Int32.ofInt yv)), (3, .int (Int32.ofInt zv)), (4, .int (Int32.ofInt hh))]) rfl ?_
          exact kx _ hh I F hq (by first | exact ⟨And.intro (hi.2.1.1) (hi.2.1.2), Or.inr (And.intro (oq_5dfda8db hi.1.2.2 g1005 g1004 hi.1.2.1) (oq_537ca82a hi.2.2.2.2.1.2.2 g1005 hi.1.2.2))⟩ | omega)
        ·
          refine z_aload_n X (x := A 179) rfl (List.Mem.head _) (s_getR X 179 rfl (c518_ok rfl) rfl rfl (z_load_n X (x := xv) rfl (List.Mem.tail _ (List.Mem.head _)) (z_load X (x := hh) rfl (List.Mem.tail _ (List.Mem.tail _ (List.Mem.tail _ (List.Mem.tail _ (List.Mem.head _))))) (z_ast X 263 rfl (c518_ok rfl) rfl (by first | exact oq_e4757433 hi.1.1 hi.2.1.1 | omega) (show xv < 8 by first | exact oq_d65fd0d5 hi.1.1 hi.2.1.2 b1.2 | omega) (cbig_ok rfl) (wd_gen (fun s1006 hs1006 => ?_))))))
          have Is1006 : Bd s1006 := eqB hs1006 (bd_C I (show (0 : Int) ≤ hh ∧ hh ≤ 7 by first | exact ⟨hi.2.2.2.2.1.1, oq_965a5b02 hi.2.2.2.2.1.2.2 hi.2.2.2.1.2⟩ | omega) ⟨by first | exact oq_fa4e5087 hi.2.2.2.2.1.1 | omega, by first | exact oq_f647a1c7 hi.2.2.2.2.1.2.2 hi.2.2.2.1.2 | omega⟩)
          have Fs1006 := eqF hs1006 (fm_C F (inl_ok (a := 235) rfl))
          have ws1006_97 : iI s1006 97 = iI t 97 := eqI hs1006 rfl
          have ws1006_100 : iI s1006 100 = iI t 100 := eqI hs1006 rfl
          have ws1006_101 : iI s1006 101 = iI t 101 := eqI hs1006 rfl
          have aws1006_235 : UPD 235 (xv) hh t s1006 := by rw [hs1006]; exact upd_put (sam_rf (a := 235) (s := t)) ⟨by first | exact oq_fa4e5087 hi.2.2.2.2.1.1 | omega, by first | exact oq_f647a1c7 hi.2.2.2.2.1.2.2 hi.2.2.2.1.2 | omega⟩
          have aws1006_236 : SAM 236 t s1006 := by rw [hs1006]; exact sam_C (by decide) (sam_rf (a := 236) (s := t))
          have hxv : xv = x := by first | (clear p4; omega) | omega
          have hzv : zv = z := by first | (clear p4; omega) | omega
          have hPL : BSP (nnM s1006) (flB (ptF s x y z) (hh : Int).toNat B) s1006 := ptl_in hq (by first | (clear p4; omega) | omega) (by first | (clear p4; omega) | omega) (by first | (clear p4; omega) | omega) aws1006_236
          refine z_aload_n X (x := A 179) rfl (List.Mem.head _) (z_load_n X (x := xv) rfl (List.Mem.tail _ (List.Mem.head _)) (z_const X rfl (z_add X rfl (z_load X (x := hh) rfl (List.Mem.tail _ (List.Mem.tail _ (List.Mem.tail _ (List.Mem.tail _ (List.Mem.head _))))) (z_load_n X (x := yv) rfl (List.Mem.tail _ (List.Mem.tail _ (List.Mem.head _))) ?_)))))
          have N1007 : ∀ e1008 : Int, (((hh ≠ yv) ∧ e1008 = yv) ∨ ((hh = yv) ∧ e1008 = (yv + 1))) → WS k 54 [(0, .ref (A 179)), (1, .int (Int32.ofInt xv)), (2, .int (Int32.ofInt yv)), (3, .int (Int32.ofInt zv)), (4, .int (Int32.ofInt hh))] [.int (Int32.ofInt e1008), .int (Int32.ofInt (xv + 1)), .ref (A 179)] (Wd A dT s1006) 0 0 := by
            intro e1008 he1008
            refine z_load_n X (x := zv) rfl (List.Mem.tail _ (List.Mem.tail _ (List.Mem.tail _ (List.Mem.head _)))) (z_callV X 179 (rm := (rkR (12 + (r)))) (As := [.int (Int32.ofInt (xv + 1)), .int (Int32.ofInt e1008), .int (Int32.ofInt zv)]) (st := []) rfl rfl (by decide) rfl (by rw [E.1, E.2.1, E.2.2.1]; exact hR Is1006 (by first | exact ⟨oq_d5e8f086 hxv hi.2.1.1, oq_025a4bda ws1006_97 hxv hi.2.2.2.2.2 hi.2.1.2⟩ | omega) (by first | exact oq_5d13812a p1 ws1006_97 hxv hi.2.2.2.2.2 | omega) (by first | exact ⟨oq_c61725e8 he1008 g1004 hi.2.2.2.2.1.1, oq_212885fb he1008 hzv g1005 hi.2.2.1.2 hi.1.2.1⟩ | omega) (by first | exact ⟨oq_fed65c02 hzv hi.2.2.2.1.1, oq_6b149751 hzv hi.2.2.2.1.2⟩ | omega) (by first | exact oq_7119a11e he1008 g1004 hi.2.2.2.2.1.1 | omega) (by first | exact oq_48a46d4a ws1006_97 hi.2.2.2.2.2 p5 | omega) (hPL)) ⟨by rw [E.2.2.2]; exact (show (12 + (12 + (r))) + 1 ≤ (12 + (12 + (r + 1))) from oq_23161452 r), by rw [E.2.2.2]; exact (show 8 + (5 + 11) + (500 + 45 * (12 + (r))) ≤ (500 + 45 * (12 + (r + 1))) from oq_5db9f55c r), by rw [E.2.2.2]; exact Nat.le_refl 0, by rw [E.2.2.2]; exact Nat.le_refl 0⟩ (Nat.le_of_ble_eq_true rfl) (fun vv s1009 hq => ?_) (fun ee s1009 hq => ?_))
            rotate_left
            · obtain ⟨Is1009, Fs1009, hv, hps1009⟩ := hq; cases hv
            obtain ⟨Is1009, Fs1009, hv, hps1009⟩ := hq
            cases hv
            have Gs1009 := fm_tq Fs1006 Fs1009 rfl rfl
            have ws1009_97 : iI s1009 97 = iI s1006 97 := fm_iq Fs1009 rfl
            have b1011 := bi_100 Is1009
            have b1012 := bi_101 Is1009
            show WS k 58 [(0, .ref (A 179)), (1, .int (Int32.ofInt xv)), (2, .int (Int32.ofInt yv)), (3, .int (Int32.ofInt zv)), (4, .int (Int32.ofInt hh))] [] (Wd A dT s1009) 0 0
            have hk : PTQ (flB (ptF s x y z) (hh : Int).toNat B) (x + 1) e1008 z s1006 s1009 := by have w := hps1009; rw [hxv, hzv] at w; exact w
            refine z_inc X (x := hh) (lv' := [(4, .int (Int32.ofInt (hh + 1))), (0, .ref (A 179)), (1, .int (Int32.ofInt xv)), (2, .int (Int32.ofInt yv)), (3, .int (Int32.ofInt zv))]) rfl (by decide) (List.Mem.tail _ (List.Mem.tail _ (List.Mem.tail _ (List.Mem.tail _ (List.Mem.head _))))) (fun _ h => h) (z_goto X (t := 17) rfl rfl (WS_pq [1, 2, 3, 4, 0] (lv' := [(0, .ref (A 179)), (1, .int (Int32.ofInt xv)), (2, .int (Int32.ofInt yv)), (3, .int (Int32.ofInt zv)), (4, .int (Int32.ofInt (hh + 1)))]) rfl ?_))
            exact ih _ xv yv zv (hh + 1) Is1009 Gs1009 (ptl_up hq (by first | (clear he1008 p4; omega) | (clear p4; omega) | omega) (by first | (clear he1008 p4; omega) | (clear p4; omega) | omega) (upd_ix aws1006_235 hxv) (by first | (clear he1008 p4; omega) | (clear p4; omega) | omega) (funext (fun w => fm_c Fs1006 (by decide)) : hgM s1006 = hgM s) (funext (fun w => fm_c Fs1006 (by decide)) : pkM s1006 = pkM s) (funext (fun w => fm_c Fs1006 (by decide)) : ovM s1006 = ovM s) (nuh_of (by first | (clear he1008 p4; omega) | (clear p4; omega) | omega)) hk) (by first | exact ⟨And.intro (hxv) (And.intro (hi.1.2.1) (hzv)), And.intro (hi.2.1.1) (hi.2.1.2), And.intro (hi.2.2.1.1) (hi.2.2.1.2), And.intro (hi.2.2.2.1.1) (hi.2.2.2.1.2), And.intro (oq_54f49eb5 hi.2.2.2.2.1.1) (And.intro (oq_cb2f634e hi.1.2.1 g1004) (oq_8a89b3ae g1005 hzv)), oq_878618b1 ws1009_97 ws1006_97 hi.2.2.2.2.2⟩ | omega) (by first | exact qk_me hm (by decide) (oq_273e7409 g1005 hzv hi.2.2.2.1.2) | omega) kx
          refine z_icmp_ne X (t := 53) rfl rfl ⟨by first | exact oq_fa4e5087 hi.2.2.2.2.1.1 | omega, by first | exact oq_f647a1c7 hi.2.2.2.2.1.2.2 hi.2.2.2.1.2 | omega⟩ ⟨by first | exact oq_e001bc0d g1004 hi.2.2.2.2.1.1 | omega, by first | exact oq_558b26b0 hi.1.2.1 hi.2.2.1.2 hi.2.2.2.1.2 | omega⟩ (fun g1013 => ?_) (fun g1013 => ?_)
          ·
            exact z_load_n X (x := yv) rfl (List.Mem.tail _ (List.Mem.tail _ (List.Mem.head _))) (N1007 _ (Or.inl ⟨g1013, rfl⟩))
          ·
            exact z_load_n X (x := yv) rfl (List.Mem.tail _ (List.Mem.tail _ (List.Mem.head _))) (z_const X rfl (z_add X rfl (z_goto X (t := 54) rfl rfl (N1007 _ (Or.inr (⟨g1013, rfl⟩))))))
  refine z_load_n X (x := x) rfl (List.Mem.tail _ (List.Mem.head _)) (z_aload_n X (x := A 179) rfl (List.Mem.head _) (z_getI X 179 rfl (c518_ok rfl) rfl rfl ?_))
  have b4 := bi_97 I
  refine z_icmp_ne X (t := 14) rfl rfl ⟨by first | exact oq_fa4e5087 p0.1 | omega, by first | exact oq_b5dbaaed p0.2 b4.2 | omega⟩ (rng_to _) (fun g5 => ?_) (fun g5 => ?_)
  ·
    refine z_const X rfl (z_store X (lv' := [(4, .int (Int32.ofInt 0)), (0, .ref (A 179)), (1, .int (Int32.ofInt x)), (2, .int (Int32.ofInt y)), (3, .int (Int32.ofInt z))]) rfl (by decide) (fun _ h => h) (WS_pq [1, 2, 3, 4, 0] (lv' := [(0, .ref (A 179)), (1, .int (Int32.ofInt x)), (2, .int (Int32.ofInt y)), (3, .int (Int32.ofInt z)), (4, .int (Int32.ofInt 0))]) rfl (L17 ((3 - 0 : Int).toNat + 1) s x y z 0 I F (ptl_0 p6) (by first | exact ⟨And.intro (by decide) (And.intro (by decide) (by decide)), oq_06adfc3a g5 p0.2 p0.1, And.intro (p2.1) (p2.2), And.intro (p3.1) (p3.2), And.intro (by decide) (And.intro (oq_54f49eb5 p2.1) (oq_2a6e3b50 p3.1)), by decide⟩ | omega) (Nat.lt_succ_self _) ?_)))
    intro s6 x7 Is6 Fs6 Qs6 hs6
    have b8 := bi_97 Is6
    have b9 := bi_100 Is6
    have b10 := bi_101 Is6
    exact w_vret X.1 q hRt (ax_d X (show cdA 261 64 = some (.return_, 1, 0, 0, 0) from rfl)) (Nat.zero_le _) (Nat.zero_le _) ⟨_, rfl, Is6, Fs6, rfl, (ptl_e Qs6 (by first | (clear g5 p4; omega) | (clear p4; omega) | omega) (by first | (clear g5 p4; omega) | (clear p4; omega) | omega))⟩
  ·
    refine z_aload_n X (x := A 179) rfl (List.Mem.head _) (z_load_n X (x := y) rfl (List.Mem.tail _ (List.Mem.tail _ (List.Mem.head _))) (z_callV X 179 (rm := rmN 262) (As := [.int (Int32.ofInt y)]) (st := []) rfl rfl (by decide) rfl (by rw [E.1, E.2.1, E.2.2.1]; exact k_judges8 G I (by first | exact ⟨oq_9499932b g5 p5 p4, oq_300cfc0a p2.2 p3.2⟩ | omega) (p6) (by first | exact p5 | omega)) ⟨by rw [E.2.2.2]; exact (show 6 + 1 ≤ (12 + (12 + (r + 1))) from oq_895d89e2 r), by rw [E.2.2.2]; exact (show 8 + (7 + 11) + 100 ≤ (500 + 45 * (12 + (r + 1))) from oq_41a8610d r), by rw [E.2.2.2]; exact Nat.le_refl 0, by rw [E.2.2.2]; exact Nat.le_refl 0⟩ (Nat.le_of_ble_eq_true rfl) (fun vv s11 hq => ?_) (fun ee s11 hq => ?_)))
    rotate_left
    · obtain ⟨Is11, Fs11, hv, hps11⟩ := hq; cases hv
    obtain ⟨Is11, Fs11, hv, hps11⟩ := hq
    cases hv
    have Gs11 := fm_tq F Fs11 rfl rfl
    have ws11_97 : iI s11 97 = iI s 97 := fm_iq Fs11 rfl
    have b13 := bi_100 Is11
    have b14 := bi_101 Is11
    show WS k 13 [(0, .ref (A 179)), (1, .int (Int32.ofInt x)), (2, .int (Int32.ofInt y)), (3, .int (Int32.ofInt z))] [] (Wd A dT s11) 0 0
    exact w_vret X.1 q hRt (ax_d X (show cdA 261 13 = some (.return_, 1, 0, 0, 0) from rfl)) (Nat.zero_le _) (Nat.zero_le _) ⟨_, rfl, Is11, Gs11, rfl, (ptq_0 (by first | (clear p4; omega) | omega) hps11 (sam_fm Fs11 (by decide)))⟩
theorem k_parts8 (G : GX l s0 D tys a0 dT) (r : Nat) : ∀ {s : PS} {x y z : Int} {B : BsO}, Bd s → (0 ≤ x ∧ x ≤ iI s 97) → (iI s 97 - x ≤ ((r : Nat) : Int)) → (0 ≤ y ∧ y ≤ z) → (1 ≤ z ∧ z ≤ 3) → (x = 0 ∨ 1 ≤ y) → (1 ≤ iI s 97) → (BSP (nnM s) B s) → CT l s0 D A dT 261 (rkR (12 + (r))) [.ref (A 179), .int (Int32.ofInt x), .int (Int32.ofInt y), .int (Int32.ofInt z)] s (fun o t => Bd t ∧ Fm [100, 101] [236, 235] s t ∧ o = .inl none ∧ (PTQ B x y z s t)) := by
  induction r with
  | zero => exact fun {_ _ _ _ _} I p0 p1 p2 p3 p4 p5 p6 => k_parts80 G I p0 p1 p2 p3 p4 p5 p6
  | succ r ih => exact fun {_ _ _ _ _} I p0 p1 p2 p3 p4 p5 p6 => k_parts8S G ih I p0 p1 p2 p3 p4 p5 p6
set_option maxRecDepth 4000 in
theorem k_findSets8 (G : GX l s0 D tys a0 dT) {U : AirD} (I : Bd s) (jRLx : RLx s) (jMDJ : MDJ U s) (p0 : iI s 89 = 1) : CT l s0 D A dT 260 (rmN 260) [.ref (A 179)] s (fun o t => Bd t ∧ Fm [77, 75, 78, 79, 80, 81] [202, 204, 205, 206, 207, 208, 209, 210, 211, 212, 213, 214, 215, 216, 217, 218, 219, 220, 221, 222, 223, 224, 225, 226, 227, 203, 161, 230, 231, 232, 240, 238, 239] s t ∧ RLx t ∧ o = .inl none ∧ (TBM U (ceM s) (nnM s) (pwI (nnM s)) t)) := by
  refine ct_of G (by decide) (Nat.le_of_ble_eq_true rfl) (fun k X E hRt hXt q => ?_)
  show WS k 0 [(0, .ref (A 179))] [] _ 0 0
  have F : Fm [77, 75, 78, 79, 80, 81] [202, 204, 205, 206, 207, 208, 209, 210, 211, 212, 213, 214, 215, 216, 217, 218, 219, 220, 221, 222, 223, 224, 225, 226, 227, 203, 161, 230, 231, 232, 240, 238, 239] s s := fm_rf _ _ s
  have hp1 := pwi_1 (iI s 97).toNat
  have b1 := bi_97 I
  have b2 := bi_89 I
  have L14 : ∀ (n : Nat) (t : PS) (bi c : Int), Bd t → Fm [77, 75, 78, 79, 80, 81] [202, 204, 205, 206, 207, 208, 209, 210, 211, 212, 213, 214, 215, 216, 217, 218, 219, 220, 221, 222, 223, 224, 225, 226, 227, 203, 161, 230, 231, 232, 240, 238, 239] s t → RLx t → MDJ U t → (TBM U (ceM s) (nnM s) bi t ∧ ∀ j : Nat, (j : Int) < c → iC t 230 j = 0) → ((1 ≤ bi ∧ bi ≤ 255) ∧ (0 ≤ c ∧ c ≤ 128) ∧ iI t 97 = iI s 97 ∧ iI t 89 = 1 ∧ iI s 97 ≤ 8) → (128 - c : Int).toNat < n → (∀ (t' : PS) (c' : Int), Bd t' → Fm [77, 75, 78, 79, 80, 81] [202, 204, 205, 206, 207, 208, 209, 210, 211, 212, 213, 214, 215, 216, 217, 218, 219, 220, 221, 222, 223, 224, 225, 226, 227, 203, 161, 230, 231, 232, 240, 238, 239] s t' → RLx t' → MDJ U t' → (TBM U (ceM s) (nnM s) bi t' ∧ ∀ j : Nat, (j : Int) < c' → iC t' 230 j = 0) → ((1 ≤ bi ∧ bi ≤ 255) ∧ c' = 128 ∧ iI t' 97 = iI s 97 ∧ iI t' 89 = 1 ∧ iI s 97 ≤ 8) → WS k 34 [(0, .ref (A 179)), (1, .int (Int32.ofInt bi)), (2, .int (Int32.ofInt c'))] [] (Wd A dT t') 0 0) → WS k 14 [(0, .ref (A 179)), (1, .int (Int32.ofInt bi)), (2, .int (Int32.ofInt c))] [] (Wd A dT t) 0 0 := by
    intro n
    induction n with
    | zero =>
      intro t bi c I F jjRLx jjMDJ hq hi hm kx
      exact absurd hm (Nat.not_lt_zero _)
    | succ n ih =>
      intro t bi c I F jjRLx jjMDJ hq hi hm kx
      have b1001 := bi_97 I
      have b1002 := bi_89 I
      refine z_load_n X (x := c) rfl (List.Mem.tail _ (List.Mem.tail _ (List.Mem.head _))) (z_sipush X rfl (z_icmp_ge X (t := 34) rfl rfl ⟨by first | exact oq_fa4e5087 hi.2.1.1 | omega, by first | exact oq_4ee82282 hi.2.1.2 | omega⟩ (by decide) (fun g1003 => ?_) (fun g1003 => ?_)))
      ·
        refine WS_pq [0, 1, 2] (lv' := [(0, .ref (A 179)), (1, .int (Int32.ofInt bi)), (2, .int (Int32.ofInt c))]) rfl ?_
        exact kx _ c I F jjRLx jjMDJ hq (by first | exact ⟨And.intro (hi.1.1) (hi.1.2), oq_42fe298a hi.2.1.2 g1003, hi.2.2.1, hi.2.2.2.1, hi.2.2.2.2⟩ | omega)
      ·
        refine z_aload_n X (x := A 179) rfl (List.Mem.head _) (s_getR X 179 rfl (c518_ok rfl) rfl rfl (z_load_n X (x := c) rfl (List.Mem.tail _ (List.Mem.tail _ (List.Mem.head _))) (z_const X rfl (z_zast X 258 rfl (c518_ok rfl) rfl (by first | exact hi.2.1.1 | omega) (show c < 128 by first | exact g1003 | omega) (by decide) (by first | exact Or.inl (cbig_ok rfl) | omega) (wd_gen (fun s1004 hs1004 => ?_))))))
        have Is1004 : Bd s1004 := eqB hs1004 (bd_C I (show (0 : Int) ≤ 0 ∧ 0 ≤ 1 by first | exact ⟨by decide, by decide⟩ | omega) (by decide))
        have Fs1004 := eqF hs1004 (fm_C F (inl_ok (a := 230) rfl))
        have ws1004_97 : iI s1004 97 = iI t 97 := eqI hs1004 rfl
        have ws1004_89 : iI s1004 89 = iI t 89 := eqI hs1004 rfl
        have aws1004_240 : SAM 240 t s1004 := by rw [hs1004]; exact sam_C (by decide) (sam_rf (a := 240) (s := t))
        have aws1004_238 : SAM 238 t s1004 := by rw [hs1004]; exact sam_C (by decide) (sam_rf (a := 238) (s := t))
        have aws1004_239 : SAM 239 t s1004 := by rw [hs1004]; exact sam_C (by decide) (sam_rf (a := 239) (s := t))
        have aws1004_230 : UPD 230 (c) 0 t s1004 := by rw [hs1004]; exact upd_put (sam_rf (a := 230) (s := t)) (by decide)
        have fs1004 : Fm [] [230] t s1004 := by rw [hs1004]; exact fm_C (fm_rf _ _ _) (show 230 ∈ _ by decide)
        have JRLx_s1004 : RLx s1004 := RLx_fm fs1004 (by decide) jjRLx
        have JMDJ_s1004 : MDJ U s1004 := MDJ_fm fs1004 (by decide) jjMDJ
        refine z_inc X (x := c) (lv' := [(2, .int (Int32.ofInt (c + 1))), (0, .ref (A 179)), (1, .int (Int32.ofInt bi))]) rfl (by decide) (List.Mem.tail _ (List.Mem.tail _ (List.Mem.head _))) (fun _ h => h) (z_goto X (t := 14) rfl rfl (WS_pq [1, 2, 0] (lv' := [(0, .ref (A 179)), (1, .int (Int32.ofInt bi)), (2, .int (Int32.ofInt (c + 1)))]) rfl ?_))
        exact ih _ bi (c + 1) Is1004 Fs1004 JRLx_s1004 JMDJ_s1004 ⟨tbm_s hq.1 aws1004_240 aws1004_238 aws1004_239, fl8_up (f := fun _ => 0) hq.2 (by omega) aws1004_230 rfl⟩ (by first | exact ⟨And.intro (hi.1.1) (hi.1.2), And.intro (oq_54f49eb5 hi.2.1.1) (oq_d2afb425 g1003), oq_1aa5be9e ws1004_97 hi.2.2.1, oq_b44a1c7f ws1004_89 hi.2.2.2.1 b1002.1, hi.2.2.2.2⟩ | omega) (by first | exact qk_me hm (by decide) (oq_c268b7bd g1003) | omega) kx
  have L36 : ∀ (n : Nat) (t : PS) (bi ka : Int), Bd t → Fm [77, 75, 78, 79, 80, 81] [202, 204, 205, 206, 207, 208, 209, 210, 211, 212, 213, 214, 215, 216, 217, 218, 219, 220, 221, 222, 223, 224, 225, 226, 227, 203, 161, 230, 231, 232, 240, 238, 239] s t → RLx t → MDJ U t → (TBM U (ceM s) (nnM s) bi t ∧ RSM (ceM s) bi ka t) → ((1 ≤ bi ∧ bi ≤ 255) ∧ (0 ≤ ka ∧ ka ≤ iI s 97) ∧ iI t 97 = iI s 97 ∧ iI t 89 = 1 ∧ iI s 97 ≤ 8) → (8 - ka : Int).toNat < n → (∀ (t' : PS) (ka' : Int), Bd t' → Fm [77, 75, 78, 79, 80, 81] [202, 204, 205, 206, 207, 208, 209, 210, 211, 212, 213, 214, 215, 216, 217, 218, 219, 220, 221, 222, 223, 224, 225, 226, 227, 203, 161, 230, 231, 232, 240, 238, 239] s t' → RLx t' → MDJ U t' → (TBM U (ceM s) (nnM s) bi t' ∧ RSM (ceM s) bi ka' t') → ((1 ≤ bi ∧ bi ≤ 255) ∧ ka' = iI s 97 ∧ iI t' 97 = iI s 97 ∧ iI t' 89 = 1 ∧ iI s 97 ≤ 8) → WS k 71 [(0, .ref (A 179)), (1, .int (Int32.ofInt bi)), (2, .int (Int32.ofInt ka'))] [] (Wd A dT t') 0 0) → WS k 36 [(0, .ref (A 179)), (1, .int (Int32.ofInt bi)), (2, .int (Int32.ofInt ka))] [] (Wd A dT t) 0 0 := by
    intro n
    induction n with
    | zero =>
      intro t bi ka I F jjRLx jjMDJ hq hi hm kx
      exact absurd hm (Nat.not_lt_zero _)
    | succ n ih =>
      intro t bi ka I F jjRLx jjMDJ hq hi hm kx
      have b2001 := bi_97 I
      have b2002 := bi_89 I
      refine z_load_n X (x := ka) rfl (List.Mem.tail _ (List.Mem.tail _ (List.Mem.head _))) (z_aload_n X (x := A 179) rfl (List.Mem.head _) (z_getI X 179 rfl (c518_ok rfl) rfl rfl ?_))
      have b2003 := bi_97 I
      refine z_icmp_ge X (t := 71) rfl rfl ⟨by first | exact oq_fa4e5087 hi.2.1.1 | omega, by first | exact oq_b5dbaaed hi.2.1.2 hi.2.2.2.2 | omega⟩ (rng_to _) (fun g2004 => ?_) (fun g2004 => ?_)
      ·
        refine WS_pq [0, 1, 2] (lv' := [(0, .ref (A 179)), (1, .int (Int32.ofInt bi)), (2, .int (Int32.ofInt ka))]) rfl ?_
        exact kx _ ka I F jjRLx jjMDJ hq (by first | exact ⟨And.intro (hi.1.1) (hi.1.2), oq_537ca82a hi.2.1.2 g2004 hi.2.2.1, hi.2.2.1, hi.2.2.2.1, hi.2.2.2.2⟩ | omega)
      ·
        refine z_load_n X (x := bi) rfl (List.Mem.tail _ (List.Mem.head _)) (z_load_n X (x := ka) rfl (List.Mem.tail _ (List.Mem.tail _ (List.Mem.head _))) (z_bshr X rfl (z_anyV (fun y2005 hy2005 ey2005 => ?_))))
        refine z_const X rfl (w_iand X.1 (ax_d X (show cdA 260 48 = some (.iand, 1, 0, 0, 0) from rfl)) (z_anyV (fun y2006 hy2006 ey2006 => ?_)))
        refine z_const X rfl ?_
        have hbit := bt_rd (b := bi) (p := ka) ey2005 ey2006 hy2006 (by omega)
        refine z_icmp_ne X (t := 65) rfl rfl hy2006 (by decide) (fun g2007 => ?_) (fun g2007 => ?_)
        ·
          refine z_inc X (x := ka) (lv' := [(2, .int (Int32.ofInt (ka + 1))), (0, .ref (A 179)), (1, .int (Int32.ofInt bi))]) rfl (by decide) (List.Mem.tail _ (List.Mem.tail _ (List.Mem.head _))) (fun _ h => h) (z_goto X (t := 36) rfl rfl (WS_pq [1, 2, 0] (lv' := [(0, .ref (A 179)), (1, .int (Int32.ofInt bi)), (2, .int (Int32.ofInt (ka + 1)))]) rfl ?_))
          exact ih _ bi (ka + 1) I F jjRLx jjMDJ ⟨hq.1, rsm_n hq.2 (by first | (clear g2007; omega) | omega) (hbit.elim (fun w => absurd w.1 (by first | (clear g2007; omega) | omega)) (fun w => w.2))⟩ (by first | exact ⟨And.intro (hi.1.1) (hi.1.2), And.intro (oq_54f49eb5 hi.2.1.1) (oq_8a89b3ae g2004 hi.2.2.1), hi.2.2.1, hi.2.2.2.1, hi.2.2.2.2⟩ | omega) (by first | exact qk_me hm (by decide) (oq_ccc5e5e0 g2004 b2003.2) | omega) kx
        ·
          have hB : bT (Int32.ofInt bi) (ka : Int).toNat = true := hbit.elim (fun w => w.2) (fun w => absurd w.1 (by omega))
          refine z_aload_n X (x := A 179) rfl (List.Mem.head _) (s_getR X 179 rfl (c518_ok rfl) rfl rfl (z_aload_n X (x := A 179) rfl (List.Mem.head _) (s_getR X 179 rfl (c518_ok rfl) rfl rfl (z_load_n X (x := ka) rfl (List.Mem.tail _ (List.Mem.tail _ (List.Mem.head _))) (z_ald X 262 rfl (c518_ok rfl) rfl (by first | exact hi.2.1.1 | omega) (show ka < 8 by first | exact oq_7f5b2e79 g2004 b2003.2 | omega) (cbig_ok rfl) ?_)))))
          have b2008 := bc_234 I (show (ka).toNat < 8 by first | exact oq_67be0351 g2004 b2003.2 | omega)
          refine z_const X rfl (z_zast X 258 rfl (c518_ok rfl) rfl (by first | exact b2008.1 | omega) (show (iC t 234 (ka).toNat) < 128 by first | exact oq_31b2bf10 b2008.2 | omega) (by decide) (by first | exact Or.inr (cbig_ok rfl) | omega) (wd_gen (fun s2009 hs2009 => ?_)))
          have Is2009 : Bd s2009 := eqB hs2009 (bd_C I (show (0 : Int) ≤ 1 ∧ 1 ≤ 1 by first | exact ⟨by decide, by decide⟩ | omega) (by decide))
          have Fs2009 := eqF hs2009 (fm_C F (inl_ok (a := 230) rfl))
          have ws2009_97 : iI s2009 97 = iI t 97 := eqI hs2009 rfl
          have ws2009_89 : iI s2009 89 = iI t 89 := eqI hs2009 rfl
          have aws2009_240 : SAM 240 t s2009 := by rw [hs2009]; exact sam_C (by decide) (sam_rf (a := 240) (s := t))
          have aws2009_238 : SAM 238 t s2009 := by rw [hs2009]; exact sam_C (by decide) (sam_rf (a := 238) (s := t))
          have aws2009_239 : SAM 239 t s2009 := by rw [hs2009]; exact sam_C (by decide) (sam_rf (a := 239) (s := t))
          have aws2009_230 : UPD 230 ((iC t 234 (ka).toNat)) 1 t s2009 := by rw [hs2009]; exact upd_put (sam_rf (a := 230) (s := t)) (by decide)
          have fs2009 : Fm [] [230] t s2009 := by rw [hs2009]; exact fm_C (fm_rf _ _ _) (show 230 ∈ _ by decide)
          have JRLx_s2009 : RLx s2009 := RLx_fm fs2009 (by decide) jjRLx
          have JMDJ_s2009 : MDJ U s2009 := MDJ_fm fs2009 (by decide) jjMDJ
          refine z_inc X (x := ka) (lv' := [(2, .int (Int32.ofInt (ka + 1))), (0, .ref (A 179)), (1, .int (Int32.ofInt bi))]) rfl (by decide) (List.Mem.tail _ (List.Mem.tail _ (List.Mem.head _))) (fun _ h => h) (z_goto X (t := 36) rfl rfl (WS_pq [1, 2, 0] (lv' := [(0, .ref (A 179)), (1, .int (Int32.ofInt bi)), (2, .int (Int32.ofInt (ka + 1)))]) rfl ?_))
          exact ih _ bi (ka + 1) Is2009 Fs2009 JRLx_s2009 JMDJ_s2009 ⟨tbm_s hq.1 aws2009_240 aws2009_238 aws2009_239, rsm_y hq.2 (by omega) hB (fm_c F (by decide) : iC t 234 (ka : Int).toNat = iC s 234 (ka : Int).toNat) (by omega) aws2009_230⟩ (by first | exact ⟨And.intro (hi.1.1) (hi.1.2), And.intro (oq_54f49eb5 hi.2.1.1) (oq_8a89b3ae g2004 hi.2.2.1), oq_1aa5be9e ws2009_97 hi.2.2.1, oq_b44a1c7f ws2009_89 hi.2.2.2.1 b2002.1, hi.2.2.2.2⟩ | omega) (by first | exact qk_me hm (by decide) (oq_ccc5e5e0 g2004 b2003.2) | omega) kx
  have L101 : ∀ (n : Nat) (t : PS) (bi qq : Int), Bd t → Fm [77, 75, 78, 79, 80, 81] [202, 204, 205, 206, 207, 208, 209, 210, 211, 212, 213, 214, 215, 216, 217, 218, 219, 220, 221, 222, 223, 224, 225, 226, 227, 203, 161, 230, 231, 232, 240, 238, 239] s t → RLx t → MDJ U t → NQ t → NWL t → NWE U t → (FSL U (ceM s) (nnM s) bi qq t) → ((1 ≤ bi ∧ bi ≤ 255) ∧ (0 ≤ qq ∧ qq ≤ 24) ∧ iI t 97 = iI s 97 ∧ iI t 89 = 1 ∧ iI s 97 ≤ 8) → (24 - qq : Int).toNat < n → (∀ (t' : PS) (qq' : Int), Bd t' → Fm [77, 75, 78, 79, 80, 81] [202, 204, 205, 206, 207, 208, 209, 210, 211, 212, 213, 214, 215, 216, 217, 218, 219, 220, 221, 222, 223, 224, 225, 226, 227, 203, 161, 230, 231, 232, 240, 238, 239] s t' → RLx t' → MDJ U t' → NQ t' → NWL t' → NWE U t' → (FSL U (ceM s) (nnM s) bi qq' t') → ((1 ≤ bi ∧ bi ≤ 255) ∧ (qq' = 24 ∨ iC t' 240 (bi : Int).toNat = 0) ∧ iI t' 97 = iI s 97 ∧ iI t' 89 = 1 ∧ iI s 97 ≤ 8) → WS k 177 [(0, .ref (A 179)), (1, .int (Int32.ofInt bi)), (2, .int (Int32.ofInt qq'))] [] (Wd A dT t') 0 0) → WS k 101 [(0, .ref (A 179)), (1, .int (Int32.ofInt bi)), (2, .int (Int32.ofInt qq))] [] (Wd A dT t) 0 0 := by
    intro n
    induction n with
    | zero =>
      intro t bi qq I F jjRLx jjMDJ jjNQ jjNWL jjNWE hq hi hm kx
      exact absurd hm (Nat.not_lt_zero _)
    | succ n ih =>
      intro t bi qq I F jjRLx jjMDJ jjNQ jjNWL jjNWE hq hi hm kx
      have b3001 := bi_97 I
      have b3002 := bi_89 I
      refine z_load_n X (x := qq) rfl (List.Mem.tail _ (List.Mem.tail _ (List.Mem.head _))) (z_bipush X rfl (z_icmp_ge X (t := 177) rfl rfl ⟨by first | exact oq_fa4e5087 hi.2.1.1 | omega, by first | exact oq_5bcd337f hi.2.1.2 | omega⟩ (by decide) (fun g3003 => ?_) (fun g3003 => ?_)))
      ·
        refine WS_pq [0, 1, 2] (lv' := [(0, .ref (A 179)), (1, .int (Int32.ofInt bi)), (2, .int (Int32.ofInt qq))]) rfl ?_
        exact kx _ qq I F jjRLx jjMDJ jjNQ jjNWL jjNWE hq (by first | exact ⟨And.intro (hi.1.1) (hi.1.2), Or.inl (oq_ea1742b3 hi.2.1.2 g3003), hi.2.2.1, hi.2.2.2.1, hi.2.2.2.2⟩ | omega)
      ·
        refine z_aload_n X (x := A 179) rfl (List.Mem.head _) (s_getR X 179 rfl (c518_ok rfl) rfl rfl (z_load_n X (x := bi) rfl (List.Mem.tail _ (List.Mem.head _)) (z_zald X 268 rfl (c518_ok rfl) rfl (by first | exact oq_2a6e3b50 hi.1.1 | omega) (show bi < 256 by first | exact oq_29e5dbe2 hi.1.2 | omega) (cbig_ok rfl) ?_)))
        have b3004 := bc_240 I (show (bi).toNat < 256 by first | exact oq_c39a26fc hi.1.2 | omega)
        have ar3005 : iC t 240 (bi).toNat = iC t 240 (bi).toNat := (sam_rf (a := 240) (s := t)) _
        refine z_if_eq X (t := 177) rfl rfl (rng_to _) (fun g3006 => ?_) (fun g3006 => ?_)
        ·
          refine WS_pq [0, 1, 2] (lv' := [(0, .ref (A 179)), (1, .int (Int32.ofInt bi)), (2, .int (Int32.ofInt qq))]) rfl ?_
          exact kx _ qq I F jjRLx jjMDJ jjNQ jjNWL jjNWE hq (by first | exact ⟨And.intro (hi.1.1) (hi.1.2), Or.inr (g3006), hi.2.2.1, hi.2.2.2.1, hi.2.2.2.2⟩ | omega)
        ·
          refine z_aload_n X (x := A 179) rfl (List.Mem.head _) (z_load_n X (x := qq) rfl (List.Mem.tail _ (List.Mem.tail _ (List.Mem.head _))) (zcV_v0 X E 179 (As := [.int (Int32.ofInt qq)]) (st := []) rfl rfl rfl rfl (k_numbers3 G I jjMDJ (by first | exact ⟨hi.2.1.1, oq_c69fe266 g3003⟩ | omega)) rfl (Nat.le_of_ble_eq_true rfl) (fun s3007 Is3007 Fs3007 hps3007 => ?_)))
          have Gs3007 := fm_tq F Fs3007 rfl rfl
          have JRLx_s3007 : RLx s3007 := RLx_fm Fs3007 (by decide) jjRLx
          have JMDJ_s3007 : MDJ U s3007 := MDJ_fm Fs3007 (by decide) jjMDJ
          have JNQ_s3007 : NQ s3007 := NQ_fm Fs3007 (by decide) jjNQ
          have JNWL_s3007 : NWL s3007 := NWL_fm Fs3007 (by decide) jjNWL
          have JNWE_s3007 : NWE U s3007 := NWE_fm Fs3007 (by decide) jjNWE
          have ws3007_97 : iI s3007 97 = iI t 97 := fm_iq Fs3007 rfl
          have ws3007_89 : iI s3007 89 = iI t 89 := fm_iq Fs3007 rfl
          have aws3007_240 : SAM 240 t s3007 := sam_ts (sam_rf (a := 240) (s := t)) (sam_fm Fs3007 (by decide))
          have aws3007_238 : SAM 238 t s3007 := sam_ts (sam_rf (a := 238) (s := t)) (sam_fm Fs3007 (by decide))
          have aws3007_239 : SAM 239 t s3007 := sam_ts (sam_rf (a := 239) (s := t)) (sam_fm Fs3007 (by decide))
          have aws3007_230 : SAM 230 t s3007 := sam_ts (sam_rf (a := 230) (s := t)) (sam_fm Fs3007 (by decide))
          refine z_aload_n X (x := A 179) rfl (List.Mem.head _) ?_
          have JNW_s3007 : NW s3007 := NW_of JNQ_s3007 JRLx_s3007
          refine zcV_i0 X E 179 (As := []) (st := []) rfl rfl rfl rfl (k_load6 G Is3007 JNW_s3007 JNWL_s3007 JMDJ_s3007 JNWE_s3007 hps3007 ) rfl (Nat.le_of_ble_eq_true rfl) (fun s3009 e3010 Is3009 Fs3009 hrs3009 hps3009 => ?_)
          have Gs3009 := fm_tq Gs3007 Fs3009 rfl rfl
          have JRLx_s3009 : RLx s3009 := RLx_fm Fs3009 (by decide) JRLx_s3007
          have JMDJ_s3009 : MDJ U s3009 := MDJ_fm Fs3009 (by decide) JMDJ_s3007
          have JNQ_s3009 : NQ s3009 := NQ_fm Fs3009 (by decide) JNQ_s3007
          have JNWL_s3009 : NWL s3009 := NWL_fm Fs3009 (by decide) JNWL_s3007
          have JNWE_s3009 : NWE U s3009 := NWE_fm Fs3009 (by decide) JNWE_s3007
          have JNW_s3009 : NW s3009 := NW_fm Fs3009 (by decide) JNW_s3007
          have JNMQ_s3009 : NMQ (uM U (qq : Int).toNat) (uN U : Int) s3009 := NMQ_fm Fs3009 (by decide) hps3007
          have ws3009_97 : iI s3009 97 = iI s3007 97 := fm_iq Fs3009 rfl
          have ws3009_89 : iI s3009 89 = iI s3007 89 := fm_iq Fs3009 rfl
          have aws3009_240 : SAM 240 t s3009 := sam_ts aws3007_240 (sam_fm Fs3009 (by decide))
          have aws3009_238 : SAM 238 t s3009 := sam_ts aws3007_238 (sam_fm Fs3009 (by decide))
          have aws3009_239 : SAM 239 t s3009 := sam_ts aws3007_239 (sam_fm Fs3009 (by decide))
          have aws3009_230 : SAM 230 t s3009 := sam_ts aws3007_230 (sam_fm Fs3009 (by decide))
          have hIo : inS s3007 = (rgS (ceM s) (nnM s) bi) := by rw [ins_fm Fs3007 (by decide)]; exact hq.2.1
          have hld : e3010 = lqH U (rgS (ceM s) (nnM s) bi) (qq : Int).toNat := lq_of hrs3009 (by have z := hps3009.1; rw [hIo, show iI s3007 89 = 1 by first | (clear hps3009 g3006; omega) | (clear g3006; omega) | omega] at z; exact z)
          have hnm : Int32.ofInt (iC s3009 161 2) = Int32.ofInt (oaH (rgS (ceM s) (nnM s) bi) (uW U) (uM U (qq : Int).toNat) (uN U)) := by have z := hps3009.2 2 (by decide); rw [hIo] at z; exact z
          refine z_store_n X (lv' := [(3, .int (Int32.ofInt e3010)), (0, .ref (A 179)), (1, .int (Int32.ofInt bi)), (2, .int (Int32.ofInt qq))]) rfl (by decide) (fun _ h => h) (z_aload_n X (x := A 179) rfl (List.Mem.tail _ (List.Mem.head _)) (s_getR X 179 rfl (c518_ok rfl) rfl rfl (z_load_n X (x := bi) rfl (List.Mem.tail _ (List.Mem.tail _ (List.Mem.head _))) (z_load_n X (x := qq) rfl (List.Mem.tail _ (List.Mem.tail _ (List.Mem.tail _ (List.Mem.head _)))) (z_if_eq X (t := 145) rfl rfl ⟨by first | exact oq_fa4e5087 hi.2.1.1 | omega, by first | exact oq_1d70227b g3003 | omega⟩ (fun g3011 => ?_) (fun g3011 => ?_))))))
          ·
            refine z_load_n X (x := e3010) rfl (List.Mem.head _) (z_goto X (t := 155) rfl rfl (z_ast X 266 rfl (c518_ok rfl) rfl (by first | exact oq_2a6e3b50 hi.1.1 | omega) (show bi < 256 by first | exact oq_29e5dbe2 hi.1.2 | omega) (cbig_ok rfl) (wd_gen (fun s3012 hs3012 => ?_))))
            have Is3012 : Bd s3012 := eqB hs3012 (bd_C Is3009 (show ((-2147483648) : Int) ≤ e3010 ∧ e3010 ≤ 2147483647 by first | (clear hps3009 g3006; omega) | (clear g3006; omega) | omega) hrs3009)
            have Fs3012 := eqF hs3012 (fm_C Gs3009 (inl_ok (a := 238) rfl))
            have ws3012_97 : iI s3012 97 = iI s3009 97 := eqI hs3012 rfl
            have ws3012_89 : iI s3012 89 = iI s3009 89 := eqI hs3012 rfl
            have aws3012_240 : SAM 240 t s3012 := by rw [hs3012]; exact sam_C (by decide) aws3009_240
            have aws3012_238 : UPD 238 (bi) e3010 t s3012 := by rw [hs3012]; exact upd_put aws3009_238 hrs3009
            have aws3012_239 : SAM 239 t s3012 := by rw [hs3012]; exact sam_C (by decide) aws3009_239
            have aws3012_230 : SAM 230 t s3012 := by rw [hs3012]; exact sam_C (by decide) aws3009_230
            have fs3012 : Fm [] [238] s3009 s3012 := by rw [hs3012]; exact fm_C (fm_rf _ _ _) (show 238 ∈ _ by decide)
            have JRLx_s3012 : RLx s3012 := RLx_fm fs3012 (by decide) JRLx_s3009
            have JMDJ_s3012 : MDJ U s3012 := MDJ_fm fs3012 (by decide) JMDJ_s3009
            have JNQ_s3012 : NQ s3012 := NQ_fm fs3012 (by decide) JNQ_s3009
            have JNWL_s3012 : NWL s3012 := NWL_fm fs3012 (by decide) JNWL_s3009
            have JNWE_s3012 : NWE U s3012 := NWE_fm fs3012 (by decide) JNWE_s3009
            refine z_aload_n X (x := A 179) rfl (List.Mem.tail _ (List.Mem.head _)) (s_getR X 179 rfl (c518_ok rfl) rfl rfl (z_load_n X (x := bi) rfl (List.Mem.tail _ (List.Mem.tail _ (List.Mem.head _))) (w_dup2_11 X.1 (ax_d X (show cdA 260 161 = some (.dup2, 1, 0, 0, 0) from rfl)) rfl rfl (z_ald X 267 rfl (c518_ok rfl) rfl (by first | exact oq_2a6e3b50 hi.1.1 | omega) (show bi < 256 by first | exact oq_29e5dbe2 hi.1.2 | omega) (cbig_ok rfl) ?_))))
            have b3013 := bc_239 Is3012 (show (bi).toNat < 256 by first | exact oq_c39a26fc hi.1.2 | omega)
            have ar3014 : iC s3012 239 (bi).toNat = iC t 239 (bi).toNat := aws3012_239 _
            refine z_aload_n X (x := A 179) rfl (List.Mem.tail _ (List.Mem.head _)) (s_getR X 179 rfl (c518_ok rfl) rfl rfl (z_const X rfl (z_ald X 184 rfl (c518_ok rfl) rfl (by decide) (show 2 < 7 by decide) (cbig_ok rfl) ?_)))
            have b3015 := bc_161 Is3012 (show (2 : Int).toNat < 7 by first | exact oq_62527c24 | omega)
            have hnm2 : Int32.ofInt (iC s3012 161 (2 : Int).toNat) = Int32.ofInt (oaH (rgS (ceM s) (nnM s) bi) (uW U) (uM U (qq : Int).toNat) (uN U)) := by rw [show (iC s3012 161 (2 : Int).toNat) = iC s3009 161 2 from by rw [hs3012]; exact iC_a (by decide)]; exact hnm
            refine z_add X rfl (z_anyV (fun y3016 hy3016 ey3016 => ?_))
            refine z_ast X 267 rfl (c518_ok rfl) rfl (by first | exact oq_2a6e3b50 hi.1.1 | omega) (show bi < 256 by first | exact oq_29e5dbe2 hi.1.2 | omega) (cbig_ok rfl) (wd_gen (fun s3017 hs3017 => ?_))
            have Is3017 : Bd s3017 := eqB hs3017 (bd_C Is3012 (show ((-2147483648) : Int) ≤ y3016 ∧ y3016 ≤ 2147483647 by first | exact ⟨hy3016.1, hy3016.2⟩ | omega) hy3016)
            have Fs3017 := eqF hs3017 (fm_C Fs3012 (inl_ok (a := 239) rfl))
            have ws3017_97 : iI s3017 97 = iI s3012 97 := eqI hs3017 rfl
            have ws3017_89 : iI s3017 89 = iI s3012 89 := eqI hs3017 rfl
            have aws3017_240 : SAM 240 t s3017 := by rw [hs3017]; exact sam_C (by decide) aws3012_240
            have aws3017_238 : UPD 238 (bi) e3010 t s3017 := by rw [hs3017]; exact upd_C (by decide) aws3012_238
            have aws3017_239 : UPD 239 (bi) y3016 t s3017 := by rw [hs3017]; exact upd_put aws3012_239 hy3016
            have aws3017_230 : SAM 230 t s3017 := by rw [hs3017]; exact sam_C (by decide) aws3012_230
            have fs3017 : Fm [] [239] s3012 s3017 := by rw [hs3017]; exact fm_C (fm_rf _ _ _) (show 239 ∈ _ by decide)
            have JRLx_s3017 : RLx s3017 := RLx_fm fs3017 (by decide) JRLx_s3012
            have JMDJ_s3017 : MDJ U s3017 := MDJ_fm fs3017 (by decide) JMDJ_s3012
            have JNQ_s3017 : NQ s3017 := NQ_fm fs3017 (by decide) JNQ_s3012
            have JNWL_s3017 : NWL s3017 := NWL_fm fs3017 (by decide) JNWL_s3012
            have JNWE_s3017 : NWE U s3017 := NWE_fm fs3017 (by decide) JNWE_s3012
            refine z_inc X (x := qq) (lv' := [(2, .int (Int32.ofInt (qq + 1))), (3, .int (Int32.ofInt e3010)), (0, .ref (A 179)), (1, .int (Int32.ofInt bi))]) rfl (by decide) (List.Mem.tail _ (List.Mem.tail _ (List.Mem.tail _ (List.Mem.head _)))) (fun _ h => h) (z_goto X (t := 101) rfl rfl (WS_pq [2, 3, 0] (lv' := [(0, .ref (A 179)), (1, .int (Int32.ofInt bi)), (2, .int (Int32.ofInt (qq + 1)))]) rfl ?_))
            exact ih _ bi (qq + 1) Is3017 Fs3017 JRLx_s3017 JMDJ_s3017 JNQ_s3017 JNWL_s3017 JNWE_s3017 (fsl_up (w := (iC s3012 161 (2 : Int).toNat)) hq (by first | (clear hps3009 g3006; omega) | (clear g3006; omega) | omega) (by first | (clear hps3009 g3006; omega) | (clear g3006; omega) | omega) aws3017_240 aws3017_238 aws3017_239 (ins_sam aws3017_230) hld (by first | (clear hps3009 g3006; omega) | (clear g3006; omega) | omega) hnm2 (by rw [← (aws3012_239 (bi : Int).toNat)]; exact ey3016)) (by first | exact ⟨And.intro (hi.1.1) (hi.1.2), And.intro (oq_535341f0 g3011) (oq_234775a9 g3011), oq_b4d295d9 ws3017_97 hi.2.2.1 ws3012_97 ws3009_97 ws3007_97, oq_094d069b ws3017_89 ws3012_89 ws3009_89 ws3007_89 hi.2.2.2.1 b3002.1, hi.2.2.2.2⟩ | omega) (by first | exact qk_me hm (by decide) (oq_2cdd0178 g3011) | omega) kx
          ·
            refine z_load_n X (x := e3010) rfl (List.Mem.head _) (z_aload_n X (x := A 179) rfl (List.Mem.tail _ (List.Mem.head _)) (s_getR X 179 rfl (c518_ok rfl) rfl rfl (z_load_n X (x := bi) rfl (List.Mem.tail _ (List.Mem.tail _ (List.Mem.head _))) (z_ald X 266 rfl (c518_ok rfl) rfl (by first | exact oq_2a6e3b50 hi.1.1 | omega) (show bi < 256 by first | exact oq_29e5dbe2 hi.1.2 | omega) (cbig_ok rfl) ?_))))
            have b3018 := bc_238 Is3009 (show (bi).toNat < 256 by first | exact oq_c39a26fc hi.1.2 | omega)
            have ar3019 : iC s3009 238 (bi).toNat = iC t 238 (bi).toNat := aws3009_238 _
            refine z_icmp_le X (t := 149) rfl rfl hrs3009 (rng_to _) (fun g3020 => ?_) (fun g3020 => ?_)
            ·
              refine z_aload_n X (x := A 179) rfl (List.Mem.tail _ (List.Mem.head _)) (s_getR X 179 rfl (c518_ok rfl) rfl rfl (z_load_n X (x := bi) rfl (List.Mem.tail _ (List.Mem.tail _ (List.Mem.head _))) (z_ald X 266 rfl (c518_ok rfl) rfl (by first | exact oq_2a6e3b50 hi.1.1 | omega) (show bi < 256 by first | exact oq_29e5dbe2 hi.1.2 | omega) (cbig_ok rfl) ?_)))
              have b3021 := bc_238 Is3009 (show (bi).toNat < 256 by first | exact oq_c39a26fc hi.1.2 | omega)
              have ar3022 : iC s3009 238 (bi).toNat = iC t 238 (bi).toNat := aws3009_238 _
              refine z_ast X 266 rfl (c518_ok rfl) rfl (by first | exact oq_2a6e3b50 hi.1.1 | omega) (show bi < 256 by first | exact oq_29e5dbe2 hi.1.2 | omega) (cbig_ok rfl) (wd_gen (fun s3023 hs3023 => ?_))
              have Is3023 : Bd s3023 := eqB hs3023 (bd_C Is3009 (show ((-2147483648) : Int) ≤ (iC s3009 238 (bi).toNat) ∧ (iC s3009 238 (bi).toNat) ≤ 2147483647 by first | exact ⟨b3021.1, b3021.2⟩ | omega) (rng_to _))
              have Fs3023 := eqF hs3023 (fm_C Gs3009 (inl_ok (a := 238) rfl))
              have ws3023_97 : iI s3023 97 = iI s3009 97 := eqI hs3023 rfl
              have ws3023_89 : iI s3023 89 = iI s3009 89 := eqI hs3023 rfl
              have aws3023_240 : SAM 240 t s3023 := by rw [hs3023]; exact sam_C (by decide) aws3009_240
              have aws3023_238 : UPD 238 (bi) (iC s3009 238 (bi).toNat) t s3023 := by rw [hs3023]; exact upd_put aws3009_238 (rng_to _)
              have aws3023_239 : SAM 239 t s3023 := by rw [hs3023]; exact sam_C (by decide) aws3009_239
              have aws3023_230 : SAM 230 t s3023 := by rw [hs3023]; exact sam_C (by decide) aws3009_230
              have fs3023 : Fm [] [238] s3009 s3023 := by rw [hs3023]; exact fm_C (fm_rf _ _ _) (show 238 ∈ _ by decide)
              have JRLx_s3023 : RLx s3023 := RLx_fm fs3023 (by decide) JRLx_s3009
              have JMDJ_s3023 : MDJ U s3023 := MDJ_fm fs3023 (by decide) JMDJ_s3009
              have JNQ_s3023 : NQ s3023 := NQ_fm fs3023 (by decide) JNQ_s3009
              have JNWL_s3023 : NWL s3023 := NWL_fm fs3023 (by decide) JNWL_s3009
              have JNWE_s3023 : NWE U s3023 := NWE_fm fs3023 (by decide) JNWE_s3009
              refine z_aload_n X (x := A 179) rfl (List.Mem.tail _ (List.Mem.head _)) (s_getR X 179 rfl (c518_ok rfl) rfl rfl (z_load_n X (x := bi) rfl (List.Mem.tail _ (List.Mem.tail _ (List.Mem.head _))) (w_dup2_11 X.1 (ax_d X (show cdA 260 161 = some (.dup2, 1, 0, 0, 0) from rfl)) rfl rfl (z_ald X 267 rfl (c518_ok rfl) rfl (by first | exact oq_2a6e3b50 hi.1.1 | omega) (show bi < 256 by first | exact oq_29e5dbe2 hi.1.2 | omega) (cbig_ok rfl) ?_))))
              have b3024 := bc_239 Is3023 (show (bi).toNat < 256 by first | exact oq_c39a26fc hi.1.2 | omega)
              have ar3025 : iC s3023 239 (bi).toNat = iC t 239 (bi).toNat := aws3023_239 _
              refine z_aload_n X (x := A 179) rfl (List.Mem.tail _ (List.Mem.head _)) (s_getR X 179 rfl (c518_ok rfl) rfl rfl (z_const X rfl (z_ald X 184 rfl (c518_ok rfl) rfl (by decide) (show 2 < 7 by decide) (cbig_ok rfl) ?_)))
              have b3026 := bc_161 Is3023 (show (2 : Int).toNat < 7 by first | exact oq_62527c24 | omega)
              have hnm2 : Int32.ofInt (iC s3023 161 (2 : Int).toNat) = Int32.ofInt (oaH (rgS (ceM s) (nnM s) bi) (uW U) (uM U (qq : Int).toNat) (uN U)) := by rw [show (iC s3023 161 (2 : Int).toNat) = iC s3009 161 2 from by rw [hs3023]; exact iC_a (by decide)]; exact hnm
              refine z_add X rfl (z_anyV (fun y3027 hy3027 ey3027 => ?_))
              refine z_ast X 267 rfl (c518_ok rfl) rfl (by first | exact oq_2a6e3b50 hi.1.1 | omega) (show bi < 256 by first | exact oq_29e5dbe2 hi.1.2 | omega) (cbig_ok rfl) (wd_gen (fun s3028 hs3028 => ?_))
              have Is3028 : Bd s3028 := eqB hs3028 (bd_C Is3023 (show ((-2147483648) : Int) ≤ y3027 ∧ y3027 ≤ 2147483647 by first | exact ⟨hy3027.1, hy3027.2⟩ | omega) hy3027)
              have Fs3028 := eqF hs3028 (fm_C Fs3023 (inl_ok (a := 239) rfl))
              have ws3028_97 : iI s3028 97 = iI s3023 97 := eqI hs3028 rfl
              have ws3028_89 : iI s3028 89 = iI s3023 89 := eqI hs3028 rfl
              have aws3028_240 : SAM 240 t s3028 := by rw [hs3028]; exact sam_C (by decide) aws3023_240
              have aws3028_238 : UPD 238 (bi) (iC s3009 238 (bi).toNat) t s3028 := by rw [hs3028]; exact upd_C (by decide) aws3023_238
              have aws3028_239 : UPD 239 (bi) y3027 t s3028 := by rw [hs3028]; exact upd_put aws3023_239 hy3027
              have aws3028_230 : SAM 230 t s3028 := by rw [hs3028]; exact sam_C (by decide) aws3023_230
              have fs3028 : Fm [] [239] s3023 s3028 := by rw [hs3028]; exact fm_C (fm_rf _ _ _) (show 239 ∈ _ by decide)
              have JRLx_s3028 : RLx s3028 := RLx_fm fs3028 (by decide) JRLx_s3023
              have JMDJ_s3028 : MDJ U s3028 := MDJ_fm fs3028 (by decide) JMDJ_s3023
              have JNQ_s3028 : NQ s3028 := NQ_fm fs3028 (by decide) JNQ_s3023
              have JNWL_s3028 : NWL s3028 := NWL_fm fs3028 (by decide) JNWL_s3023
              have JNWE_s3028 : NWE U s3028 := NWE_fm fs3028 (by decide) JNWE_s3023
              refine z_inc X (x := qq) (lv' := [(2, .int (Int32.ofInt (qq + 1))), (3, .int (Int32.ofInt e3010)), (0, .ref (A 179)), (1, .int (Int32.ofInt bi))]) rfl (by decide) (List.Mem.tail _ (List.Mem.tail _ (List.Mem.tail _ (List.Mem.head _)))) (fun _ h => h) (z_goto X (t := 101) rfl rfl (WS_pq [2, 3, 0] (lv' := [(0, .ref (A 179)), (1, .int (Int32.ofInt bi)), (2, .int (Int32.ofInt (qq + 1)))]) rfl ?_))
              exact ih _ bi (qq + 1) Is3028 Fs3028 JRLx_s3028 JMDJ_s3028 JNQ_s3028 JNWL_s3028 JNWE_s3028 (fsl_up (w := (iC s3023 161 (2 : Int).toNat)) hq (by first | (clear g3011 hps3009 g3006; omega) | (clear hps3009 g3006; omega) | omega) (by first | (clear g3011 hps3009 g3006; omega) | (clear hps3009 g3006; omega) | omega) aws3028_240 aws3028_238 aws3028_239 (ins_sam aws3028_230) hld (by first | (clear g3011 hps3009 g3006; omega) | (clear hps3009 g3006; omega) | omega) hnm2 (by rw [← (aws3023_239 (bi : Int).toNat)]; exact ey3027)) (by first | exact ⟨And.intro (hi.1.1) (hi.1.2), And.intro (oq_54f49eb5 hi.2.1.1) (oq_cec7cb2e g3003), oq_b4d295d9 ws3028_97 hi.2.2.1 ws3023_97 ws3009_97 ws3007_97, oq_094d069b ws3028_89 ws3023_89 ws3009_89 ws3007_89 hi.2.2.2.1 b3002.1, hi.2.2.2.2⟩ | omega) (by first | exact qk_me hm (by decide) (oq_ffa8317e g3003) | omega) kx
            ·
              refine z_load_n X (x := e3010) rfl (List.Mem.head _) (z_goto X (t := 155) rfl rfl (z_ast X 266 rfl (c518_ok rfl) rfl (by first | exact oq_2a6e3b50 hi.1.1 | omega) (show bi < 256 by first | exact oq_29e5dbe2 hi.1.2 | omega) (cbig_ok rfl) (wd_gen (fun s3029 hs3029 => ?_))))
              have Is3029 : Bd s3029 := eqB hs3029 (bd_C Is3009 (show ((-2147483648) : Int) ≤ e3010 ∧ e3010 ≤ 2147483647 by first | exact ⟨oq_e1e6ac78 g3020 b3018.1, by first | (clear g3011 hps3009 g3006; omega) | (clear hps3009 g3006; omega) | omega⟩ | omega) hrs3009)
              have Fs3029 := eqF hs3029 (fm_C Gs3009 (inl_ok (a := 238) rfl))
              have ws3029_97 : iI s3029 97 = iI s3009 97 := eqI hs3029 rfl
              have ws3029_89 : iI s3029 89 = iI s3009 89 := eqI hs3029 rfl
              have aws3029_240 : SAM 240 t s3029 := by rw [hs3029]; exact sam_C (by decide) aws3009_240
              have aws3029_238 : UPD 238 (bi) e3010 t s3029 := by rw [hs3029]; exact upd_put aws3009_238 hrs3009
              have aws3029_239 : SAM 239 t s3029 := by rw [hs3029]; exact sam_C (by decide) aws3009_239
              have aws3029_230 : SAM 230 t s3029 := by rw [hs3029]; exact sam_C (by decide) aws3009_230
              have fs3029 : Fm [] [238] s3009 s3029 := by rw [hs3029]; exact fm_C (fm_rf _ _ _) (show 238 ∈ _ by decide)
              have JRLx_s3029 : RLx s3029 := RLx_fm fs3029 (by decide) JRLx_s3009
              have JMDJ_s3029 : MDJ U s3029 := MDJ_fm fs3029 (by decide) JMDJ_s3009
              have JNQ_s3029 : NQ s3029 := NQ_fm fs3029 (by decide) JNQ_s3009
              have JNWL_s3029 : NWL s3029 := NWL_fm fs3029 (by decide) JNWL_s3009
              have JNWE_s3029 : NWE U s3029 := NWE_fm fs3029 (by decide) JNWE_s3009
              refine z_aload_n X (x := A 179) rfl (List.Mem.tail _ (List.Mem.head _)) (s_getR X 179 rfl (c518_ok rfl) rfl rfl (z_load_n X (x := bi) rfl (List.Mem.tail _ (List.Mem.tail _ (List.Mem.head _))) (w_dup2_11 X.1 (ax_d X (show cdA 260 161 = some (.dup2, 1, 0, 0, 0) from rfl)) rfl rfl (z_ald X 267 rfl (c518_ok rfl) rfl (by first | exact oq_2a6e3b50 hi.1.1 | omega) (show bi < 256 by first | exact oq_29e5dbe2 hi.1.2 | omega) (cbig_ok rfl) ?_))))
              have b3030 := bc_239 Is3029 (show (bi).toNat < 256 by first | exact oq_c39a26fc hi.1.2 | omega)
              have ar3031 : iC s3029 239 (bi).toNat = iC t 239 (bi).toNat := aws3029_239 _
              refine z_aload_n X (x := A 179) rfl (List.Mem.tail _ (List.Mem.head _)) (s_getR X 179 rfl (c518_ok rfl) rfl rfl (z_const X rfl (z_ald X 184 rfl (c518_ok rfl) rfl (by decide) (show 2 < 7 by decide) (cbig_ok rfl) ?_)))
              have b3032 := bc_161 Is3029 (show (2 : Int).toNat < 7 by first | exact oq_62527c24 | omega)
              have hnm2 : Int32.ofInt (iC s3029 161 (2 : Int).toNat) = Int32.ofInt (oaH (rgS (ceM s) (nnM s) bi) (uW U) (uM U (qq : Int).toNat) (uN U)) := by rw [show (iC s3029 161 (2 : Int).toNat) = iC s3009 161 2 from by rw [hs3029]; exact iC_a (by decide)]; exact hnm
              refine z_add X rfl (z_anyV (fun y3033 hy3033 ey3033 => ?_))
              refine z_ast X 267 rfl (c518_ok rfl) rfl (by first | exact oq_2a6e3b50 hi.1.1 | omega) (show bi < 256 by first | exact oq_29e5dbe2 hi.1.2 | omega) (cbig_ok rfl) (wd_gen (fun s3034 hs3034 => ?_))
              have Is3034 : Bd s3034 := eqB hs3034 (bd_C Is3029 (show ((-2147483648) : Int) ≤ y3033 ∧ y3033 ≤ 2147483647 by first | exact ⟨hy3033.1, hy3033.2⟩ | omega) hy3033)
              have Fs3034 := eqF hs3034 (fm_C Fs3029 (inl_ok (a := 239) rfl))
              have ws3034_97 : iI s3034 97 = iI s3029 97 := eqI hs3034 rfl
              have ws3034_89 : iI s3034 89 = iI s3029 89 := eqI hs3034 rfl
              have aws3034_240 : SAM 240 t s3034 := by rw [hs3034]; exact sam_C (by decide) aws3029_240
              have aws3034_238 : UPD 238 (bi) e3010 t s3034 := by rw [hs3034]; exact upd_C (by decide) aws3029_238
              have aws3034_239 : UPD 239 (bi) y3033 t s3034 := by rw [hs3034]; exact upd_put aws3029_239 hy3033
              have aws3034_230 : SAM 230 t s3034 := by rw [hs3034]; exact sam_C (by decide) aws3029_230
              have fs3034 : Fm [] [239] s3029 s3034 := by rw [hs3034]; exact fm_C (fm_rf _ _ _) (show 239 ∈ _ by decide)
              have JRLx_s3034 : RLx s3034 := RLx_fm fs3034 (by decide) JRLx_s3029
              have JMDJ_s3034 : MDJ U s3034 := MDJ_fm fs3034 (by decide) JMDJ_s3029
              have JNQ_s3034 : NQ s3034 := NQ_fm fs3034 (by decide) JNQ_s3029
              have JNWL_s3034 : NWL s3034 := NWL_fm fs3034 (by decide) JNWL_s3029
              have JNWE_s3034 : NWE U s3034 := NWE_fm fs3034 (by decide) JNWE_s3029
              refine z_inc X (x := qq) (lv' := [(2, .int (Int32.ofInt (qq + 1))), (3, .int (Int32.ofInt e3010)), (0, .ref (A 179)), (1, .int (Int32.ofInt bi))]) rfl (by decide) (List.Mem.tail _ (List.Mem.tail _ (List.Mem.tail _ (List.Mem.head _)))) (fun _ h => h) (z_goto X (t := 101) rfl rfl (WS_pq [2, 3, 0] (lv' := [(0, .ref (A 179)), (1, .int (Int32.ofInt bi)), (2, .int (Int32.ofInt (qq + 1)))]) rfl ?_))
              exact ih _ bi (qq + 1) Is3034 Fs3034 JRLx_s3034 JMDJ_s3034 JNQ_s3034 JNWL_s3034 JNWE_s3034 (fsl_up (w := (iC s3029 161 (2 : Int).toNat)) hq (by first | (clear g3011 hps3009 g3006; omega) | (clear hps3009 g3006; omega) | omega) (by first | (clear g3011 hps3009 g3006; omega) | (clear hps3009 g3006; omega) | omega) aws3034_240 aws3034_238 aws3034_239 (ins_sam aws3034_230) hld (by first | (clear g3011 hps3009 g3006; omega) | (clear hps3009 g3006; omega) | omega) hnm2 (by rw [← (aws3029_239 (bi : Int).toNat)]; exact ey3033)) (by first | exact ⟨And.intro (hi.1.1) (hi.1.2), And.intro (oq_54f49eb5 hi.2.1.1) (oq_cec7cb2e g3003), oq_b4d295d9 ws3034_97 hi.2.2.1 ws3029_97 ws3009_97 ws3007_97, oq_094d069b ws3034_89 ws3029_89 ws3009_89 ws3007_89 hi.2.2.2.1 b3002.1, hi.2.2.2.2⟩ | omega) (by first | exact qk_me hm (by decide) (oq_ffa8317e g3003) | omega) kx
  have L2 : ∀ (n : Nat) (t : PS) (bi : Int), Bd t → Fm [77, 75, 78, 79, 80, 81] [202, 204, 205, 206, 207, 208, 209, 210, 211, 212, 213, 214, 215, 216, 217, 218, 219, 220, 221, 222, 223, 224, 225, 226, 227, 203, 161, 230, 231, 232, 240, 238, 239] s t → RLx t → MDJ U t → (TBM U (ceM s) (nnM s) bi t) → ((1 ≤ bi ∧ bi ≤ pwI (iI s 97).toNat) ∧ iI t 97 = iI s 97 ∧ iI t 89 = 1 ∧ iI s 97 ≤ 8) → (256 - bi : Int).toNat < n → (∀ (t' : PS) (bi' : Int), Bd t' → Fm [77, 75, 78, 79, 80, 81] [202, 204, 205, 206, 207, 208, 209, 210, 211, 212, 213, 214, 215, 216, 217, 218, 219, 220, 221, 222, 223, 224, 225, 226, 227, 203, 161, 230, 231, 232, 240, 238, 239] s t' → RLx t' → MDJ U t' → (TBM U (ceM s) (nnM s) bi' t') → (bi' = pwI (iI s 97).toNat ∧ iI t' 97 = iI s 97 ∧ iI t' 89 = 1 ∧ iI s 97 ≤ 8) → WS k 183 [(0, .ref (A 179)), (1, .int (Int32.ofInt bi'))] [] (Wd A dT t') 0 0) → WS k 2 [(0, .ref (A 179)), (1, .int (Int32.ofInt bi))] [] (Wd A dT t) 0 0 := by
    intro n
    induction n with
    | zero =>
      intro t bi I F jjRLx jjMDJ hq hi hm kx
      exact absurd hm (Nat.not_lt_zero _)
    | succ n ih =>
      intro t bi I F jjRLx jjMDJ hq hi hm kx
      have b4001 := bi_97 I
      have b4002 := bi_89 I
      have hp8 := pwi_8 (iI s 97).toNat (by omega)
      refine z_load_n X (x := bi) rfl (List.Mem.tail _ (List.Mem.head _)) (z_const X rfl (z_aload_n X (x := A 179) rfl (List.Mem.head _) (z_getI X 179 rfl (c518_ok rfl) rfl rfl ?_)))
      have b4003 := bi_97 I
      refine z_bshl X rfl (z_anyV (fun y4004 hy4004 ey4004 => ?_))
      have hpw : y4004 = pwI (iI s 97).toNat := by have z := shl_pw (by omega) ey4004 hy4004; rw [show iI t 97 = iI s 97 by omega] at z; exact z
      refine z_icmp_ge X (t := 183) rfl rfl ⟨by first | exact oq_9462313e hi.1.1 | omega, by first | exact oq_afaf784d hi.1.2 hpw hy4004.2 | omega⟩ hy4004 (fun g4005 => ?_) (fun g4005 => ?_)
      ·
        refine WS_pq [0, 1] (lv' := [(0, .ref (A 179)), (1, .int (Int32.ofInt bi))]) rfl ?_
        exact kx _ bi I F jjRLx jjMDJ hq (by first | exact ⟨oq_dae09544 hi.1.2 hpw g4005, hi.2.1, hi.2.2.1, hi.2.2.2⟩ | omega)
      ·
        refine z_const X rfl (z_store_n X (lv' := [(2, .int (Int32.ofInt 0)), (0, .ref (A 179)), (1, .int (Int32.ofInt bi))]) rfl (by decide) (fun _ h => h) (WS_pq [1, 2, 0] (lv' := [(0, .ref (A 179)), (1, .int (Int32.ofInt bi)), (2, .int (Int32.ofInt 0))]) rfl (L14 ((128 - 0 : Int).toNat + 1) t bi 0 I F jjRLx jjMDJ ⟨hq, fun j hj => absurd hj (by omega)⟩ (by first | exact ⟨by omega, And.intro (by decide) (by decide), hi.2.1, hi.2.2.1, hi.2.2.2⟩ | omega) (Nat.lt_succ_self _) ?_)))
        intro s4006 x4007 Is4006 Fs4006 JRLx_s4006 JMDJ_s4006 Qs4006 hs4006
        have b4008 := bi_97 Is4006
        have b4009 := bi_89 Is4006
        refine z_const X rfl (z_store_n X (lv' := [(2, .int (Int32.ofInt 0)), (0, .ref (A 179)), (1, .int (Int32.ofInt bi))]) rfl (by decide) (fun _ h => h) (WS_pq [1, 2, 0] (lv' := [(0, .ref (A 179)), (1, .int (Int32.ofInt bi)), (2, .int (Int32.ofInt 0))]) rfl (L36 ((8 - 0 : Int).toNat + 1) s4006 bi 0 Is4006 Fs4006 JRLx_s4006 JMDJ_s4006 ⟨Qs4006.1, rsm_0 (by have z := Qs4006.2; rw [show x4007 = 128 by omega] at z; exact z)⟩ (by first | exact ⟨And.intro (hs4006.1.1) (hs4006.1.2), And.intro (by decide) (b1.1), hs4006.2.2.1, hs4006.2.2.2.1, hs4006.2.2.2.2⟩ | omega) (Nat.lt_succ_self _) ?_)))
        intro s4010 x4011 Is4010 Fs4010 JRLx_s4010 JMDJ_s4010 Qs4010 hs4010
        have b4012 := bi_97 Is4010
        have b4013 := bi_89 Is4010
        have hIn : inS s4010 = rgS (ceM s) (nnM s) bi := rsm_e Qs4010.2 (show x4011 = (((iI s 97).toNat : Nat) : Int) by omega)
        refine z_aload_n X (x := A 179) rfl (List.Mem.head _) (s_getR X 179 rfl (c518_ok rfl) rfl rfl (z_load_n X (x := bi) rfl (List.Mem.tail _ (List.Mem.head _)) (z_aload_n X (x := A 179) rfl (List.Mem.head _) (zcV_i0 X E 179 (As := []) (st := [.int (Int32.ofInt bi), .ref (A 268)]) rfl rfl rfl rfl (k_hangs3 G Is4010 ) rfl (Nat.le_of_ble_eq_true rfl) (fun s4014 e4015 Is4014 Fs4014 hrs4014 hps4014 => ?_)))))
        have hps4014p := hps4014.2
        have Gs4014 := fm_tq Fs4010 Fs4014 rfl rfl
        have JRLx_s4014 : RLx s4014 := RLx_fm Fs4014 (by decide) JRLx_s4010
        have JMDJ_s4014 : MDJ U s4014 := MDJ_fm Fs4014 (by decide) JMDJ_s4010
        have ws4014_97 : iI s4014 97 = iI s4010 97 := fm_iq Fs4014 rfl
        have ws4014_89 : iI s4014 89 = iI s4010 89 := fm_iq Fs4014 rfl
        have aws4014_240 : SAM 240 s4010 s4014 := sam_ts (sam_rf (a := 240) (s := s4010)) (sam_fm Fs4014 (by decide))
        have aws4014_238 : SAM 238 s4010 s4014 := sam_ts (sam_rf (a := 238) (s := s4010)) (sam_fm Fs4014 (by decide))
        have aws4014_239 : SAM 239 s4010 s4014 := sam_ts (sam_rf (a := 239) (s := s4010)) (sam_fm Fs4014 (by decide))
        have aws4014_230 : SAM 230 s4010 s4014 := sam_ts (sam_rf (a := 230) (s := s4010)) (sam_fm Fs4014 (by decide))
        have hHG : HGE (rgS (ceM s) (nnM s) bi) e4015 := by rw [← hIn]; exact hps4014.2
        have hE01 := hps4014.1
        refine z_zast X 268 rfl (c518_ok rfl) rfl (by first | exact oq_2a6e3b50 hs4010.1.1 | omega) (show bi < 256 by first | exact oq_29e5dbe2 hs4010.1.2 | omega) (cbig_ok rfl) (by first | exact hps4014.1 | omega) (wd_gen (fun s4016 hs4016 => ?_))
        have Is4016 : Bd s4016 := eqB hs4016 (bd_C Is4014 (show (0 : Int) ≤ e4015 ∧ e4015 ≤ 1 by first | exact ⟨oq_e4aca38c hps4014.1, oq_14617724 hps4014.1⟩ | omega) hrs4014)
        have Fs4016 := eqF hs4016 (fm_C Gs4014 (inl_ok (a := 240) rfl))
        have ws4016_97 : iI s4016 97 = iI s4014 97 := eqI hs4016 rfl
        have ws4016_89 : iI s4016 89 = iI s4014 89 := eqI hs4016 rfl
        have aws4016_240 : UPD 240 (bi) e4015 s4010 s4016 := by rw [hs4016]; exact upd_put aws4014_240 hrs4014
        have aws4016_238 : SAM 238 s4010 s4016 := by rw [hs4016]; exact sam_C (by decide) aws4014_238
        have aws4016_239 : SAM 239 s4010 s4016 := by rw [hs4016]; exact sam_C (by decide) aws4014_239
        have aws4016_230 : SAM 230 s4010 s4016 := by rw [hs4016]; exact sam_C (by decide) aws4014_230
        have fs4016 : Fm [] [240] s4014 s4016 := by rw [hs4016]; exact fm_C (fm_rf _ _ _) (show 240 ∈ _ by decide)
        have JRLx_s4016 : RLx s4016 := RLx_fm fs4016 (by decide) JRLx_s4014
        have JMDJ_s4016 : MDJ U s4016 := MDJ_fm fs4016 (by decide) JMDJ_s4014
        refine z_aload_n X (x := A 179) rfl (List.Mem.head _) (s_getR X 179 rfl (c518_ok rfl) rfl rfl (z_load_n X (x := bi) rfl (List.Mem.tail _ (List.Mem.head _)) (z_const X rfl (z_ast X 266 rfl (c518_ok rfl) rfl (by first | exact oq_2a6e3b50 hs4010.1.1 | omega) (show bi < 256 by first | exact oq_29e5dbe2 hs4010.1.2 | omega) (cbig_ok rfl) (wd_gen (fun s4017 hs4017 => ?_))))))
        have Is4017 : Bd s4017 := eqB hs4017 (bd_C Is4016 (show ((-2147483648) : Int) ≤ 0 ∧ 0 ≤ 2147483647 by first | exact ⟨by decide, by decide⟩ | omega) (by decide))
        have Fs4017 := eqF hs4017 (fm_C Fs4016 (inl_ok (a := 238) rfl))
        have ws4017_97 : iI s4017 97 = iI s4016 97 := eqI hs4017 rfl
        have ws4017_89 : iI s4017 89 = iI s4016 89 := eqI hs4017 rfl
        have aws4017_240 : UPD 240 (bi) e4015 s4010 s4017 := by rw [hs4017]; exact upd_C (by decide) aws4016_240
        have aws4017_238 : UPD 238 (bi) 0 s4010 s4017 := by rw [hs4017]; exact upd_put aws4016_238 (by decide)
        have aws4017_239 : SAM 239 s4010 s4017 := by rw [hs4017]; exact sam_C (by decide) aws4016_239
        have aws4017_230 : SAM 230 s4010 s4017 := by rw [hs4017]; exact sam_C (by decide) aws4016_230
        have fs4017 : Fm [] [238] s4016 s4017 := by rw [hs4017]; exact fm_C (fm_rf _ _ _) (show 238 ∈ _ by decide)
        have JRLx_s4017 : RLx s4017 := RLx_fm fs4017 (by decide) JRLx_s4016
        have JMDJ_s4017 : MDJ U s4017 := MDJ_fm fs4017 (by decide) JMDJ_s4016
        refine z_aload_n X (x := A 179) rfl (List.Mem.head _) (s_getR X 179 rfl (c518_ok rfl) rfl rfl (z_load_n X (x := bi) rfl (List.Mem.tail _ (List.Mem.head _)) (z_const X rfl (z_ast X 267 rfl (c518_ok rfl) rfl (by first | exact oq_2a6e3b50 hs4010.1.1 | omega) (show bi < 256 by first | exact oq_29e5dbe2 hs4010.1.2 | omega) (cbig_ok rfl) (wd_gen (fun s4018 hs4018 => ?_))))))
        have Is4018 : Bd s4018 := eqB hs4018 (bd_C Is4017 (show ((-2147483648) : Int) ≤ 0 ∧ 0 ≤ 2147483647 by first | exact ⟨by decide, by decide⟩ | omega) (by decide))
        have Fs4018 := eqF hs4018 (fm_C Fs4017 (inl_ok (a := 239) rfl))
        have ws4018_97 : iI s4018 97 = iI s4017 97 := eqI hs4018 rfl
        have ws4018_89 : iI s4018 89 = iI s4017 89 := eqI hs4018 rfl
        have aws4018_240 : UPD 240 (bi) e4015 s4010 s4018 := by rw [hs4018]; exact upd_C (by decide) aws4017_240
        have aws4018_238 : UPD 238 (bi) 0 s4010 s4018 := by rw [hs4018]; exact upd_C (by decide) aws4017_238
        have aws4018_239 : UPD 239 (bi) 0 s4010 s4018 := by rw [hs4018]; exact upd_put aws4017_239 (by decide)
        have aws4018_230 : SAM 230 s4010 s4018 := by rw [hs4018]; exact sam_C (by decide) aws4017_230
        have fs4018 : Fm [] [239] s4017 s4018 := by rw [hs4018]; exact fm_C (fm_rf _ _ _) (show 239 ∈ _ by decide)
        have JRLx_s4018 : RLx s4018 := RLx_fm fs4018 (by decide) JRLx_s4017
        have JMDJ_s4018 : MDJ U s4018 := MDJ_fm fs4018 (by decide) JMDJ_s4017
        refine z_aload_n X (x := A 179) rfl (List.Mem.head _) (zcV_v2 X E 179 (As := []) (st := []) rfl rfl rfl rfl (k_waysAsTold G Is4018 JRLx_s4018 ) rfl (Nat.le_of_ble_eq_true rfl) (fun s4019 Is4019 Fs4019 JRLx_s4019 JNQ_s4019 hps4019 => ?_))
        have Gs4019 := fm_tq Fs4018 Fs4019 rfl rfl
        have JRLx_s4019 : RLx s4019 := RLx_fm Fs4019 (by decide) JRLx_s4018
        have JMDJ_s4019 : MDJ U s4019 := MDJ_fm Fs4019 (by decide) JMDJ_s4018
        have ws4019_97 : iI s4019 97 = iI s4018 97 := fm_iq Fs4019 rfl
        have ws4019_89 : iI s4019 89 = iI s4018 89 := fm_iq Fs4019 rfl
        have aws4019_240 : UPD 240 (bi) e4015 s4010 s4019 := upd_ts aws4018_240 (sam_fm Fs4019 (by decide))
        have aws4019_238 : UPD 238 (bi) 0 s4010 s4019 := upd_ts aws4018_238 (sam_fm Fs4019 (by decide))
        have aws4019_239 : UPD 239 (bi) 0 s4010 s4019 := upd_ts aws4018_239 (sam_fm Fs4019 (by decide))
        have aws4019_230 : SAM 230 s4010 s4019 := sam_ts aws4018_230 (sam_fm Fs4019 (by decide))
        have hNW9 := nq_w JMDJ_s4019 JNQ_s4019
        have hNE9 : NWE U s4019 := ⟨JMDJ_s4019.1.2, hNW9.1⟩
        refine z_const X rfl (z_store_n X (lv' := [(2, .int (Int32.ofInt 0)), (0, .ref (A 179)), (1, .int (Int32.ofInt bi))]) rfl (by decide) (fun _ h => h) (WS_pq [1, 2, 0] (lv' := [(0, .ref (A 179)), (1, .int (Int32.ofInt bi)), (2, .int (Int32.ofInt 0))]) rfl (L101 ((24 - 0 : Int).toNat + 1) s4019 bi 0 Is4019 Gs4019 JRLx_s4019 JMDJ_s4019 JNQ_s4019 hNW9.2 hNE9 (fsl_0 Qs4010.1 (by first | (clear hps4014; omega) | omega) aws4019_240 aws4019_238 aws4019_239 rfl ((ins_sam aws4019_230).trans hIn) hHG) (by first | exact ⟨And.intro (hs4010.1.1) (hs4010.1.2), And.intro (by decide) (by decide), oq_4df13a51 ws4019_97 ws4018_97 ws4017_97 ws4016_97 ws4014_97 hs4010.2.2.1, oq_2013374c ws4019_89 ws4018_89 ws4017_89 ws4016_89 ws4014_89 b4013.1 hs4010.2.2.2.1, hs4010.2.2.2.2⟩ | omega) (Nat.lt_succ_self _) ?_)))
        intro s4021 x4022 Is4021 Fs4021 JRLx_s4021 JMDJ_s4021 JNQ_s4021 JNWL_s4021 JNWE_s4021 Qs4021 hs4021
        have b4023 := bi_97 Is4021
        have b4024 := bi_89 Is4021
        refine z_inc X (x := bi) (lv' := [(1, .int (Int32.ofInt (bi + 1))), (0, .ref (A 179)), (2, .int (Int32.ofInt x4022))]) rfl (by decide) (List.Mem.tail _ (List.Mem.head _)) (fun _ h => h) (z_goto X (t := 2) rfl rfl (WS_pq [1, 0] (lv' := [(0, .ref (A 179)), (1, .int (Int32.ofInt (bi + 1)))]) rfl ?_))
        exact ih _ (bi + 1) Is4021 Fs4021 JRLx_s4021 JMDJ_s4021 (fsl_e Qs4021 (by first | (clear hps4014; omega) | omega) (by first | (clear hps4014; omega) | omega)) (by first | exact ⟨And.intro (oq_1e1a2df6 hs4021.1.1) (oq_b1226e90 hpw g4005), hs4021.2.2.1, hs4021.2.2.2.1, hs4021.2.2.2.2⟩ | omega) (by first | exact qk_me hm (by decide) (oq_0e4c52fb hs4021.1.2) | omega) kx
  refine z_const X rfl (z_store_n X (lv' := [(1, .int (Int32.ofInt 1)), (0, .ref (A 179))]) rfl (by decide) (fun _ h => h) (WS_pq [1, 0] (lv' := [(0, .ref (A 179)), (1, .int (Int32.ofInt 1))]) rfl (L2 ((256 - 1 : Int).toNat + 1) s 1 I F jRLx jMDJ tbq_1 (by first | exact ⟨by omega, by decide, p0, b1.2⟩ | omega) (Nat.lt_succ_self _) ?_)))
  intro s3 x4 Is3 Fs3 JRLx_s3 JMDJ_s3 Qs3 hs3
  have b5 := bi_97 Is3
  have b6 := bi_89 Is3
  exact w_vret X.1 q hRt (ax_d X (show cdA 260 183 = some (.return_, 1, 0, 0, 0) from rfl)) (Nat.zero_le _) (Nat.zero_le _) ⟨_, rfl, Is3, Fs3, JRLx_s3, rfl, (by have z := Qs3; rw [show x4 = pwI (nnM s) from (show x4 = pwI (iI s 97).toNat by omega)] at z; exact z)⟩
set_option maxRecDepth 4000 in
theorem k_parted8 (G : GX l s0 D tys a0 dT) {U : AirD} (I : Bd s) (jRLx : RLx s) (jMDJ : MDJ U s) {x y : Int} (p0 : rng x) (p1 : rng y) (p2 : iI s 89 = 1) : CT l s0 D A dT 263 (rmN 263) [.ref (A 179), .int (Int32.ofInt x), .int (Int32.ofInt y)] s (fun o t => Bd t ∧ Fm [73, 77, 75, 78, 79, 80, 81, 100, 101] [202, 204, 205, 206, 207, 208, 209, 210, 211, 212, 213, 214, 215, 216, 217, 218, 219, 220, 221, 222, 223, 224, 225, 226, 227, 203, 161, 230, 231, 232, 240, 238, 239, 236, 235] s t ∧ RLx t ∧ ∃ e, o = .inl (some (.int (Int32.ofInt e))) ∧ rng e ∧ (((1 ≤ x ∧ x ≤ 3) ∧ (-2 ≤ y ∧ y ≤ 7) ∧ iI t 73 = 0 ∧ PTE U (ceM s) (iI s 97) x y e) ∨ ((x < 1 ∨ 3 < x ∨ y < -2 ∨ 7 < y) ∧ iI t 73 = 1))) := by
  refine ct_of G (by decide) (Nat.le_of_ble_eq_true rfl) (fun k X E hRt hXt q => ?_)
  show WS k 0 [(0, .ref (A 179)), (1, .int (Int32.ofInt x)), (2, .int (Int32.ofInt y))] [] _ 0 0
  have F : Fm [73, 77, 75, 78, 79, 80, 81, 100, 101] [202, 204, 205, 206, 207, 208, 209, 210, 211, 212, 213, 214, 215, 216, 217, 218, 219, 220, 221, 222, 223, 224, 225, 226, 227, 203, 161, 230, 231, 232, 240, 238, 239, 236, 235] s s := fm_rf _ _ s
  have b1 := bi_73 I
  have b2 := bi_97 I
  have b3 := bi_89 I
  have b4 := bi_100 I
  have b5 := bi_101 I
  refine z_aload_n X (x := A 179) rfl (List.Mem.head _) (z_const X rfl (s_putI X 179 rfl (c518_ok rfl) rfl rfl (by decide) rfl rfl rfl (wd_gen (fun s6 hs6 => ?_))))
  have Is6 : Bd s6 := eqB hs6 (bd_I I (show (0 : Int) ≤ 0 ∧ 0 ≤ 3 by first | exact ⟨by decide, by decide⟩ | omega) (by decide))
  have Fs6 := eqF hs6 (fm_I F (inl_ok (a := 73) rfl))
  have vs6 : iI s6 73 = 0 := eqI hs6 (iI_u (by decide))
  have ws6_97 : iI s6 97 = iI s 97 := eqI hs6 rfl
  have ws6_89 : iI s6 89 = iI s 89 := eqI hs6 rfl
  have ws6_100 : iI s6 100 = iI s 100 := eqI hs6 rfl
  have ws6_101 : iI s6 101 = iI s 101 := eqI hs6 rfl
  have fs6 : Fm [73] [] s s6 := by rw [hs6]; exact fm_I (fm_rf _ _ _) (show 73 ∈ _ by decide)
  have JRLx_s6 : RLx s6 := RLx_fm fs6 (by decide) jRLx
  have JMDJ_s6 : MDJ U s6 := MDJ_fm fs6 (by decide) jMDJ
  refine z_aload_n X (x := A 179) rfl (List.Mem.head _) (z_load_n X (x := x) rfl (List.Mem.tail _ (List.Mem.head _)) (z_const X rfl (z_const X rfl (z_callS X (rm := rmN 188) (As := [.int (Int32.ofInt x), .int (Int32.ofInt 1), .int (Int32.ofInt 3)]) (st := [.ref (A 179)]) rfl rfl (by rw [E.1, E.2.1, E.2.2.1]; exact k_in2 G Is6 (by first | exact ⟨p0.1, p0.2⟩ | omega) (by first | exact ⟨by decide, by decide⟩ | omega) (by first | exact ⟨by decide, by decide⟩ | omega)) ⟨by rw [E.2.2.2]; exact (show (rmN 188).frames + 1 ≤ (rmN 263).frames by decide), by rw [E.2.2.2]; exact (show 8 + (mNL (miB 188) + 11) + (rmN 188).locals ≤ (rmN 263).locals by decide), by rw [E.2.2.2]; exact (show 0 + (rmN 188).cells ≤ (rmN 263).cells by decide), by rw [E.2.2.2]; exact (show 0 + (rmN 188).slots ≤ (rmN 263).slots by decide)⟩ (Nat.le_of_ble_eq_true rfl) (fun vv s7 hq => ?_) (fun ee s7 hq => ?_)))))
  rotate_left
  · obtain ⟨rfl, e8, hv, hrs7, hps7⟩ := hq; cases hv
  obtain ⟨rfl, e8, hv, hrs7, hps7⟩ := hq
  cases hv
  show WS k 12 [(0, .ref (A 179)), (1, .int (Int32.ofInt x)), (2, .int (Int32.ofInt y))] [.int (Int32.ofInt e8), .ref (A 179)] (Wd A dT s6) 0 0
  refine z_if_eq X (t := 26) rfl rfl hrs7 (fun g9 => ?_) (fun g9 => ?_)
  ·
    refine z_const X rfl (z_goto X (t := 31) rfl rfl (z_const X rfl (zcV_i0 X E 179 (As := [.int (Int32.ofInt 1), .int (Int32.ofInt 1)]) (st := []) rfl rfl rfl rfl (k_bad2 G Is6 (by first | exact Or.inr (by decide) | omega) (by first | exact ⟨by decide, by decide⟩ | omega)) rfl (Nat.le_of_ble_eq_true rfl) (fun s10 e11 Is10 Fs10 hrs10 hps10 => ?_))))
    have Gs10 := fm_tq Fs6 Fs10 rfl rfl
    have JRLx_s10 : RLx s10 := RLx_fm Fs10 (by decide) JRLx_s6
    have JMDJ_s10 : MDJ U s10 := MDJ_fm Fs10 (by decide) JMDJ_s6
    have b12 := bi_73 Is10
    have ws10_97 : iI s10 97 = iI s6 97 := fm_iq Fs10 rfl
    have ws10_89 : iI s10 89 = iI s6 89 := fm_iq Fs10 rfl
    have ws10_100 : iI s10 100 = iI s6 100 := fm_iq Fs10 rfl
    have ws10_101 : iI s10 101 = iI s6 101 := fm_iq Fs10 rfl
    refine z_if_eq X (t := 40) rfl rfl hrs10 (fun g13 => ?_) (fun g13 => ?_)
    ·
      refine z_aload_n X (x := A 179) rfl (List.Mem.head _) (z_getI X 179 rfl (c518_ok rfl) rfl rfl ?_)
      have b14 := bi_97 Is10
      refine z_if_ne X (t := 49) rfl rfl (rng_to _) (fun g15 => ?_) (fun g15 => ?_)
      ·
        refine z_aload_n X (x := A 179) rfl (List.Mem.head _) (zcV_v1 X E 179 (As := []) (st := []) rfl rfl rfl rfl (k_findSets8 G Is10 JRLx_s10 JMDJ_s10 (by first | exact oq_f34933ba ws10_89 ws6_89 p2 b3.1 | omega)) rfl (Nat.le_of_ble_eq_true rfl) (fun s16 Is16 Fs16 JRLx_s16 hps16 => ?_))
        have Gs16 := fm_tq Gs10 Fs16 rfl rfl
        have JRLx_s16 : RLx s16 := RLx_fm Fs16 (by decide) JRLx_s10
        have JMDJ_s16 : MDJ U s16 := MDJ_fm Fs16 (by decide) JMDJ_s10
        have ws16_73 : iI s16 73 = iI s10 73 := fm_iq Fs16 rfl
        have ws16_97 : iI s16 97 = iI s10 97 := fm_iq Fs16 rfl
        have ws16_89 : iI s16 89 = iI s10 89 := fm_iq Fs16 rfl
        have ws16_100 : iI s16 100 = iI s10 100 := fm_iq Fs16 rfl
        have ws16_101 : iI s16 101 = iI s10 101 := fm_iq Fs16 rfl
        have hT : TBM U (ceM s) (nnM s) (pwI (nnM s)) s16 := by have z := hps16; rw [show ceM s10 = ceM s from funext (fun j => fm_c Gs10 (by decide)), show nnM s10 = nnM s from congrArg Int.toNat (show iI s10 97 = iI s 97 by first | (clear g15 hps10 hps7; omega) | (clear hps10 hps7; omega) | omega)] at z; exact z
        refine z_aload_n X (x := A 179) rfl (List.Mem.head _) (s_getR X 179 rfl (c518_ok rfl) rfl rfl (z_const X rfl (z_const X rfl (z_ast X 264 rfl (c518_ok rfl) rfl (by decide) (show 0 < 8 by decide) (cbig_ok rfl) (wd_gen (fun s18 hs18 => ?_))))))
        have Is18 : Bd s18 := eqB hs18 (bd_C Is16 (show ((-1) : Int) ≤ (-1) ∧ (-1) ≤ 7 by first | exact ⟨by decide, by decide⟩ | omega) (by decide))
        have Fs18 := eqF hs18 (fm_C Gs16 (inl_ok (a := 236) rfl))
        have ws18_73 : iI s18 73 = iI s16 73 := eqI hs18 rfl
        have ws18_97 : iI s18 97 = iI s16 97 := eqI hs18 rfl
        have ws18_89 : iI s18 89 = iI s16 89 := eqI hs18 rfl
        have ws18_100 : iI s18 100 = iI s16 100 := eqI hs18 rfl
        have ws18_101 : iI s18 101 = iI s16 101 := eqI hs18 rfl
        have vs18 : iC s18 236 (0 : Int).toNat = (-1) := eqC hs18 (iC_u (by decide))
        have aws18_240 : SAM 240 s16 s18 := by rw [hs18]; exact sam_C (by decide) (sam_rf (a := 240) (s := s16))
        have aws18_238 : SAM 238 s16 s18 := by rw [hs18]; exact sam_C (by decide) (sam_rf (a := 238) (s := s16))
        have aws18_239 : SAM 239 s16 s18 := by rw [hs18]; exact sam_C (by decide) (sam_rf (a := 239) (s := s16))
        have fs18 : Fm [] [236] s16 s18 := by rw [hs18]; exact fm_C (fm_rf _ _ _) (show 236 ∈ _ by decide)
        have JRLx_s18 : RLx s18 := RLx_fm fs18 (by decide) JRLx_s16
        have JMDJ_s18 : MDJ U s18 := MDJ_fm fs18 (by decide) JMDJ_s16
        have hB0 : BSP (nnM s18) none s18 := (show iC s18 236 (0 : Int).toNat = -1 by first | (clear g15 hps10 hps7; omega) | (clear hps10 hps7; omega) | omega)
        have hT2 : TBM U (ceM s) (nnM s) (pwI (nnM s)) s18 := tbm_s hT aws18_240 aws18_238 aws18_239
        refine z_aload_n X (x := A 179) rfl (List.Mem.head _) (z_const X rfl (z_const X rfl (z_load_n X (x := x) rfl (List.Mem.tail _ (List.Mem.head _)) (z_callV X 179 (rm := (rkR (12 + 8))) (As := [.int (Int32.ofInt 0), .int (Int32.ofInt 0), .int (Int32.ofInt x)]) (st := []) rfl rfl (by decide) rfl (by rw [E.1, E.2.1, E.2.2.1]; exact k_parts8 G 8 Is18 (by first | exact ⟨by decide, oq_0f93fca7 ws18_97 ws16_97 b14.1⟩ | omega) (by first | exact oq_869f4868 ws18_97 ws16_97 b14.2 | omega) (by first | exact ⟨by decide, oq_674898f9 g13 hps10 vs6⟩ | omega) (by first | exact ⟨oq_9b39ac49 g13 hps10 vs6, oq_d8860bc2 g13 hps10 vs6⟩ | omega) (by first | exact Or.inl (by decide) | omega) (by first | exact oq_5c1b5c66 ws18_97 ws16_97 g15 b14.1 | omega) (hB0)) ⟨by rw [E.2.2.2]; exact (show 32 + 1 ≤ 38 from oq_7efb0865), by rw [E.2.2.2]; exact (show 8 + (5 + 11) + 1400 ≤ 1601 from oq_2d6821c8), by rw [E.2.2.2]; exact Nat.le_refl 0, by rw [E.2.2.2]; exact Nat.le_refl 0⟩ (Nat.le_of_ble_eq_true rfl) (fun vv s19 hq => ?_) (fun ee s19 hq => ?_)))))
        rotate_left
        · obtain ⟨Is19, Fs19, hv, hps19⟩ := hq; cases hv
        obtain ⟨Is19, Fs19, hv, hps19⟩ := hq
        cases hv
        have Gs19 := fm_tq Fs18 Fs19 rfl rfl
        have JRLx_s19 : RLx s19 := RLx_fm Fs19 (by decide) JRLx_s18
        have JMDJ_s19 : MDJ U s19 := MDJ_fm Fs19 (by decide) JMDJ_s18
        have ws19_73 : iI s19 73 = iI s18 73 := fm_iq Fs19 rfl
        have ws19_97 : iI s19 97 = iI s18 97 := fm_iq Fs19 rfl
        have ws19_89 : iI s19 89 = iI s18 89 := fm_iq Fs19 rfl
        have b21 := bi_100 Is19
        have b22 := bi_101 Is19
        have aws19_240 : SAM 240 s16 s19 := sam_ts aws18_240 (sam_fm Fs19 (by decide))
        have aws19_238 : SAM 238 s16 s19 := sam_ts aws18_238 (sam_fm Fs19 (by decide))
        have aws19_239 : SAM 239 s16 s19 := sam_ts aws18_239 (sam_fm Fs19 (by decide))
        show WS k 67 [(0, .ref (A 179)), (1, .int (Int32.ofInt x)), (2, .int (Int32.ofInt y))] [] (Wd A dT s19) 0 0
        have hSV : SVM U (ceM s) (nnM s) x s19 := svm_of hT2 (congrArg Int.toNat (show iI s18 97 = iI s 97 by first | (clear g15 hps10 hps7; omega) | (clear hps10 hps7; omega) | omega)) hps19
        refine z_aload_n X (x := A 179) rfl (List.Mem.head _) (s_getR X 179 rfl (c518_ok rfl) rfl rfl (z_const X rfl (z_ald X 264 rfl (c518_ok rfl) rfl (by decide) (show 0 < 8 by decide) (cbig_ok rfl) ?_)))
        have b23 := bc_236 Is19 (show (0 : Int).toNat < 8 by first | exact oq_7f42415e | omega)
        have hz0 : (iC s19 236 (0 : Int).toNat) = iC s19 236 0 := rfl
        refine z_const X rfl (z_icmp_ne X (t := 79) rfl rfl (rng_to _) (by decide) (fun g24 => ?_) (fun g24 => ?_))
        ·
          refine z_load_n X (x := y) rfl (List.Mem.tail _ (List.Mem.tail _ (List.Mem.head _))) (z_const X rfl (z_icmp_ne X (t := 91) rfl rfl ⟨by first | exact p1.1 | omega, by first | exact p1.2 | omega⟩ (by decide) (fun g25 => ?_) (fun g25 => ?_)))
          ·
            refine z_load_n X (x := y) rfl (List.Mem.tail _ (List.Mem.tail _ (List.Mem.head _))) (z_bipush X rfl (z_icmp_ne X (t := 104) rfl rfl ⟨by first | exact p1.1 | omega, by first | exact p1.2 | omega⟩ (by decide) (fun g26 => ?_) (fun g26 => ?_)))
            ·
              refine z_load_n X (x := y) rfl (List.Mem.tail _ (List.Mem.tail _ (List.Mem.head _))) (z_aload_n X (x := A 179) rfl (List.Mem.head _) (z_getI X 179 rfl (c518_ok rfl) rfl rfl ?_))
              have b27 := bi_97 Is19
              refine z_icmp_ge X (t := 121) rfl rfl ⟨by first | exact p1.1 | omega, by first | exact p1.2 | omega⟩ (rng_to _) (fun g28 => ?_) (fun g28 => ?_)
              ·
                refine z_const X rfl ?_
                exact w_iret X.1 q hRt rfl (ax_d X (show cdA 263 122 = some (.ireturn, 1, 0, 0, 0) from rfl)) (Nat.zero_le _) (Nat.zero_le _) ⟨_, rfl, Is19, Gs19, JRLx_s19, (-1), rfl, (by decide), Or.inl ⟨by first | exact ⟨oq_9b39ac49 g13 hps10 vs6, oq_d8860bc2 g13 hps10 vs6⟩ | omega, by first | exact ⟨oq_9989f42a g28 b27.1, oq_7d7a532a g13 hps10 vs6⟩ | omega, by first | exact oq_3904add8 ws19_73 ws18_73 ws16_73 g13 b12.1 hps10 vs6 | omega, Or.inl ⟨by first | (clear g26 g25 g24 g15 hps10 hps7; omega) | (clear g25 g24 g15 hps10 hps7; omega) | omega, rfl⟩⟩⟩
              ·
                refine z_aload_n X (x := A 179) rfl (List.Mem.head _) (s_getR X 179 rfl (c518_ok rfl) rfl rfl (z_load_n X (x := y) rfl (List.Mem.tail _ (List.Mem.tail _ (List.Mem.head _))) (z_ald X 264 rfl (c518_ok rfl) rfl (by first | exact oq_674898f9 g13 hps10 vs6 | omega) (show y < 8 by first | exact oq_7f5b2e79 g28 b27.2 | omega) (cbig_ok rfl) ?_)))
                have b29 := bc_236 Is19 (show (y).toNat < 8 by first | exact oq_67be0351 g28 b27.2 | omega)
                refine z_goto X (t := 122) rfl rfl ?_
                exact w_iret X.1 q hRt rfl (ax_d X (show cdA 263 122 = some (.ireturn, 1, 0, 0, 0) from rfl)) (Nat.zero_le _) (Nat.zero_le _) ⟨_, rfl, Is19, Gs19, JRLx_s19, (iC s19 236 (y).toNat), rfl, (rng_to _), Or.inl ⟨by first | exact ⟨oq_9b39ac49 g13 hps10 vs6, oq_d8860bc2 g13 hps10 vs6⟩ | omega, by first | exact ⟨oq_36a8948f g13 hps10 vs6, oq_e297cd40 g28 b27.2⟩ | omega, by first | exact oq_3904add8 ws19_73 ws18_73 ws16_73 g13 b12.1 hps10 vs6 | omega, Or.inr ⟨by first | (clear g26 g25 g24 g15 hps10 hps7; omega) | (clear g25 g24 g15 hps10 hps7; omega) | omega, Or.inr ⟨by first | (clear g26 g25 g24 g15 hps10 hps7; omega) | (clear g25 g24 g15 hps10 hps7; omega) | omega, svm_1 hSV (by first | (clear g26 g25 g24 g15 hps10 hps7; omega) | (clear g25 g24 g15 hps10 hps7; omega) | omega) (Or.inr (Or.inr ⟨by first | (clear g26 g25 g24 g15 hps10 hps7; omega) | (clear g25 g24 g15 hps10 hps7; omega) | omega, show (y : Int).toNat < (iI s 97).toNat by first | (clear g26 g25 g24 g15 hps10 hps7; omega) | (clear g25 g24 g15 hps10 hps7; omega) | omega, rfl⟩))⟩⟩⟩⟩
            ·
              refine z_aload_n X (x := A 179) rfl (List.Mem.head _) (z_getI X 179 rfl (c518_ok rfl) rfl rfl ?_)
              have b30 := bi_101 Is19
              refine z_goto X (t := 122) rfl rfl ?_
              exact w_iret X.1 q hRt rfl (ax_d X (show cdA 263 122 = some (.ireturn, 1, 0, 0, 0) from rfl)) (Nat.zero_le _) (Nat.zero_le _) ⟨_, rfl, Is19, Gs19, JRLx_s19, (iI s19 101), rfl, (rng_to _), Or.inl ⟨by first | exact ⟨oq_9b39ac49 g13 hps10 vs6, oq_d8860bc2 g13 hps10 vs6⟩ | omega, by first | exact ⟨oq_3b577602 g26, oq_03bfe2b6 g26⟩ | omega, by first | exact oq_3904add8 ws19_73 ws18_73 ws16_73 g13 b12.1 hps10 vs6 | omega, Or.inr ⟨by first | (clear g25 g24 g15 hps10 hps7; omega) | (clear g24 g15 hps10 hps7; omega) | omega, Or.inr ⟨by first | (clear g25 g24 g15 hps10 hps7; omega) | (clear g24 g15 hps10 hps7; omega) | omega, svm_1 hSV (by first | (clear g25 g24 g15 hps10 hps7; omega) | (clear g24 g15 hps10 hps7; omega) | omega) (Or.inr (Or.inl ⟨by first | (clear g25 g24 g15 hps10 hps7; omega) | (clear g24 g15 hps10 hps7; omega) | omega, rfl⟩))⟩⟩⟩⟩
          ·
            refine z_aload_n X (x := A 179) rfl (List.Mem.head _) (z_getI X 179 rfl (c518_ok rfl) rfl rfl ?_)
            have b31 := bi_100 Is19
            refine z_goto X (t := 122) rfl rfl ?_
            exact w_iret X.1 q hRt rfl (ax_d X (show cdA 263 122 = some (.ireturn, 1, 0, 0, 0) from rfl)) (Nat.zero_le _) (Nat.zero_le _) ⟨_, rfl, Is19, Gs19, JRLx_s19, (iI s19 100), rfl, (rng_to _), Or.inl ⟨by first | exact ⟨oq_9b39ac49 g13 hps10 vs6, oq_d8860bc2 g13 hps10 vs6⟩ | omega, by first | exact ⟨oq_55069952 g25, oq_55529764 g25⟩ | omega, by first | exact oq_3904add8 ws19_73 ws18_73 ws16_73 g13 b12.1 hps10 vs6 | omega, Or.inr ⟨by first | (clear g24 g15 hps10 hps7; omega) | (clear g15 hps10 hps7; omega) | omega, Or.inr ⟨by first | (clear g24 g15 hps10 hps7; omega) | (clear g15 hps10 hps7; omega) | omega, svm_1 hSV (by first | (clear g24 g15 hps10 hps7; omega) | (clear g15 hps10 hps7; omega) | omega) (Or.inl ⟨by first | (clear g24 g15 hps10 hps7; omega) | (clear g15 hps10 hps7; omega) | omega, rfl⟩)⟩⟩⟩⟩
        ·
          refine z_const X rfl ?_
          exact w_iret X.1 q hRt rfl (ax_d X (show cdA 263 78 = some (.ireturn, 1, 0, 0, 0) from rfl)) (Nat.zero_le _) (Nat.zero_le _) ⟨_, rfl, Is19, Gs19, JRLx_s19, (-1), rfl, (by decide), Or.inl ⟨by first | exact ⟨oq_9b39ac49 g13 hps10 vs6, oq_d8860bc2 g13 hps10 vs6⟩ | omega, by first | exact ⟨oq_36a8948f g13 hps10 vs6, oq_7d7a532a g13 hps10 vs6⟩ | omega, by first | exact oq_3904add8 ws19_73 ws18_73 ws16_73 g13 b12.1 hps10 vs6 | omega, by rcases (show iI s 97 ≤ y ∨ y < iI s 97 by first | (clear g15 hps10 hps7; omega) | (clear hps10 hps7; omega) | omega) with z | z; (· exact Or.inl ⟨z, rfl⟩); (· exact Or.inr ⟨z, Or.inr ⟨by first | (clear g15 hps10 hps7; omega) | (clear hps10 hps7; omega) | omega, svm_0 hSV (by first | (clear g15 hps10 hps7; omega) | (clear hps10 hps7; omega) | omega)⟩⟩)⟩⟩
      ·
        refine z_const X rfl ?_
        exact w_iret X.1 q hRt rfl (ax_d X (show cdA 263 48 = some (.ireturn, 1, 0, 0, 0) from rfl)) (Nat.zero_le _) (Nat.zero_le _) ⟨_, rfl, Is10, Gs10, JRLx_s10, (-1), rfl, (by decide), Or.inl ⟨by first | exact ⟨oq_9b39ac49 g13 hps10 vs6, oq_d8860bc2 g13 hps10 vs6⟩ | omega, by first | exact ⟨oq_36a8948f g13 hps10 vs6, oq_7d7a532a g13 hps10 vs6⟩ | omega, by first | exact oq_f4d57307 g13 b12.1 hps10 vs6 | omega, by rcases (show iI s 97 ≤ y ∨ y < iI s 97 by first | (clear hps10 hps7; omega) | (clear hps7; omega) | omega) with z | z; (· exact Or.inl ⟨z, rfl⟩); (· exact Or.inr ⟨z, Or.inl ⟨by first | (clear hps10 hps7; omega) | (clear hps7; omega) | omega, rfl⟩⟩)⟩⟩
    ·
      refine z_const X rfl ?_
      exact w_iret X.1 q hRt rfl (ax_d X (show cdA 263 39 = some (.ireturn, 1, 0, 0, 0) from rfl)) (Nat.zero_le _) (Nat.zero_le _) ⟨_, rfl, Is10, Gs10, JRLx_s10, 0, rfl, (by decide), Or.inr ⟨by first | exact oq_ba64a0a5 g9 hps7 | omega, by first | exact oq_faabd673 g13 hps10 vs6 | omega⟩⟩
  ·
    refine z_load_n X (x := y) rfl (List.Mem.tail _ (List.Mem.tail _ (List.Mem.head _))) (z_bipush X rfl (z_bipush X rfl (z_callS X (rm := rmN 188) (As := [.int (Int32.ofInt y), .int (Int32.ofInt (-2)), .int (Int32.ofInt 7)]) (st := [.ref (A 179)]) rfl rfl (by rw [E.1, E.2.1, E.2.2.1]; exact k_in2 G Is6 (by first | exact ⟨p1.1, p1.2⟩ | omega) (by first | exact ⟨by decide, by decide⟩ | omega) (by first | exact ⟨by decide, by decide⟩ | omega)) ⟨by rw [E.2.2.2]; exact (show (rmN 188).frames + 1 ≤ (rmN 263).frames by decide), by rw [E.2.2.2]; exact (show 8 + (mNL (miB 188) + 11) + (rmN 188).locals ≤ (rmN 263).locals by decide), by rw [E.2.2.2]; exact (show 0 + (rmN 188).cells ≤ (rmN 263).cells by decide), by rw [E.2.2.2]; exact (show 0 + (rmN 188).slots ≤ (rmN 263).slots by decide)⟩ (Nat.le_of_ble_eq_true rfl) (fun vv s32 hq => ?_) (fun ee s32 hq => ?_))))
    rotate_left
    · obtain ⟨rfl, e33, hv, hrs32, hps32⟩ := hq; cases hv
    obtain ⟨rfl, e33, hv, hrs32, hps32⟩ := hq
    cases hv
    show WS k 23 [(0, .ref (A 179)), (1, .int (Int32.ofInt x)), (2, .int (Int32.ofInt y))] [.int (Int32.ofInt e33), .ref (A 179)] (Wd A dT s6) 0 0
    refine z_if_ne X (t := 30) rfl rfl hrs32 (fun g34 => ?_) (fun g34 => ?_)
    ·
      refine z_const X rfl (z_const X rfl (zcV_i0 X E 179 (As := [.int (Int32.ofInt 0), .int (Int32.ofInt 1)]) (st := []) rfl rfl rfl rfl (k_bad2 G Is6 (by first | exact Or.inl (by decide) | omega) (by first | exact ⟨by decide, by decide⟩ | omega)) rfl (Nat.le_of_ble_eq_true rfl) (fun s35 e36 Is35 Fs35 hrs35 hps35 => ?_)))
      have Gs35 := fm_tq Fs6 Fs35 rfl rfl
      have JRLx_s35 : RLx s35 := RLx_fm Fs35 (by decide) JRLx_s6
      have JMDJ_s35 : MDJ U s35 := MDJ_fm Fs35 (by decide) JMDJ_s6
      have b37 := bi_73 Is35
      have ws35_97 : iI s35 97 = iI s6 97 := fm_iq Fs35 rfl
      have ws35_89 : iI s35 89 = iI s6 89 := fm_iq Fs35 rfl
      have ws35_100 : iI s35 100 = iI s6 100 := fm_iq Fs35 rfl
      have ws35_101 : iI s35 101 = iI s6 101 := fm_iq Fs35 rfl
      refine z_if_eq X (t := 40) rfl rfl hrs35 (fun g38 => ?_) (fun g38 => ?_)
      ·
        refine z_aload_n X (x := A 179) rfl (List.Mem.head _) (z_getI X 179 rfl (c518_ok rfl) rfl rfl ?_)
        have b39 := bi_97 Is35
        refine z_if_ne X (t := 49) rfl rfl (rng_to _) (fun g40 => ?_) (fun g40 => ?_)
        ·
          refine z_aload_n X (x := A 179) rfl (List.Mem.head _) (zcV_v1 X E 179 (As := []) (st := []) rfl rfl rfl rfl (k_findSets8 G Is35 JRLx_s35 JMDJ_s35 (by first | exact oq_f34933ba ws35_89 ws6_89 p2 b3.1 | omega)) rfl (Nat.le_of_ble_eq_true rfl) (fun s41 Is41 Fs41 JRLx_s41 hps41 => ?_))
          have Gs41 := fm_tq Gs35 Fs41 rfl rfl
          have JRLx_s41 : RLx s41 := RLx_fm Fs41 (by decide) JRLx_s35
          have JMDJ_s41 : MDJ U s41 := MDJ_fm Fs41 (by decide) JMDJ_s35
          have ws41_73 : iI s41 73 = iI s35 73 := fm_iq Fs41 rfl
          have ws41_97 : iI s41 97 = iI s35 97 := fm_iq Fs41 rfl
          have ws41_89 : iI s41 89 = iI s35 89 := fm_iq Fs41 rfl
          have ws41_100 : iI s41 100 = iI s35 100 := fm_iq Fs41 rfl
          have ws41_101 : iI s41 101 = iI s35 101 := fm_iq Fs41 rfl
          have hT : TBM U (ceM s) (nnM s) (pwI (nnM s)) s41 := by have z := hps41; rw [show ceM s35 = ceM s from funext (fun j => fm_c Gs35 (by decide)), show nnM s35 = nnM s from congrArg Int.toNat (show iI s35 97 = iI s 97 by first | (clear g40 hps35 g34 hps32 g9 hps7; omega) | (clear hps35 g34 hps32 g9 hps7; omega) | omega)] at z; exact z
          refine z_aload_n X (x := A 179) rfl (List.Mem.head _) (s_getR X 179 rfl (c518_ok rfl) rfl rfl (z_const X rfl (z_const X rfl (z_ast X 264 rfl (c518_ok rfl) rfl (by decide) (show 0 < 8 by decide) (cbig_ok rfl) (wd_gen (fun s43 hs43 => ?_))))))
          have Is43 : Bd s43 := eqB hs43 (bd_C Is41 (show ((-1) : Int) ≤ (-1) ∧ (-1) ≤ 7 by first | exact ⟨by decide, by decide⟩ | omega) (by decide))
          have Fs43 := eqF hs43 (fm_C Gs41 (inl_ok (a := 236) rfl))
          have ws43_73 : iI s43 73 = iI s41 73 := eqI hs43 rfl
          have ws43_97 : iI s43 97 = iI s41 97 := eqI hs43 rfl
          have ws43_89 : iI s43 89 = iI s41 89 := eqI hs43 rfl
          have ws43_100 : iI s43 100 = iI s41 100 := eqI hs43 rfl
          have ws43_101 : iI s43 101 = iI s41 101 := eqI hs43 rfl
          have vs43 : iC s43 236 (0 : Int).toNat = (-1) := eqC hs43 (iC_u (by decide))
          have aws43_240 : SAM 240 s41 s43 := by rw [hs43]; exact sam_C (by decide) (sam_rf (a := 240) (s := s41))
          have aws43_238 : SAM 238 s41 s43 := by rw [hs43]; exact sam_C (by decide) (sam_rf (a := 238) (s := s41))
          have aws43_239 : SAM 239 s41 s43 := by rw [hs43]; exact sam_C (by decide) (sam_rf (a := 239) (s := s41))
          have fs43 : Fm [] [236] s41 s43 := by rw [hs43]; exact fm_C (fm_rf _ _ _) (show 236 ∈ _ by decide)
          have JRLx_s43 : RLx s43 := RLx_fm fs43 (by decide) JRLx_s41
          have JMDJ_s43 : MDJ U s43 := MDJ_fm fs43 (by decide) JMDJ_s41
          have hB0 : BSP (nnM s43) none s43 := (show iC s43 236 (0 : Int).toNat = -1 by first | (clear g40 hps35 g34 hps32 g9 hps7; omega) | (clear hps35 g34 hps32 g9 hps7; omega) | omega)
          have hT2 : TBM U (ceM s) (nnM s) (pwI (nnM s)) s43 := tbm_s hT aws43_240 aws43_238 aws43_239
          refine z_aload_n X (x := A 179) rfl (List.Mem.head _) (z_const X rfl (z_const X rfl (z_load_n X (x := x) rfl (List.Mem.tail _ (List.Mem.head _)) (z_callV X 179 (rm := (rkR (12 + 8))) (As := [.int (Int32.ofInt 0), .int (Int32.ofInt 0), .int (Int32.ofInt x)]) (st := []) rfl rfl (by decide) rfl (by rw [E.1, E.2.1, E.2.2.1]; exact k_parts8 G 8 Is43 (by first | exact ⟨by decide, oq_0f93fca7 ws43_97 ws41_97 b39.1⟩ | omega) (by first | exact oq_869f4868 ws43_97 ws41_97 b39.2 | omega) (by first | exact ⟨by decide, oq_fefc7c44 g9 hps7⟩ | omega) (by first | exact ⟨oq_ce6c459a g9 hps7, oq_3bba0cb6 g9 hps7⟩ | omega) (by first | exact Or.inl (by decide) | omega) (by first | exact oq_5c1b5c66 ws43_97 ws41_97 g40 b39.1 | omega) (hB0)) ⟨by rw [E.2.2.2]; exact (show 32 + 1 ≤ 38 from oq_7efb0865), by rw [E.2.2.2]; exact (show 8 + (5 + 11) + 1400 ≤ 1601 from oq_2d6821c8), by rw [E.2.2.2]; exact Nat.le_refl 0, by rw [E.2.2.2]; exact Nat.le_refl 0⟩ (Nat.le_of_ble_eq_true rfl) (fun vv s44 hq => ?_) (fun ee s44 hq => ?_)))))
          rotate_left
          · obtain ⟨Is44, Fs44, hv, hps44⟩ := hq; cases hv
          obtain ⟨Is44, Fs44, hv, hps44⟩ := hq
          cases hv
          have Gs44 := fm_tq Fs43 Fs44 rfl rfl
          have JRLx_s44 : RLx s44 := RLx_fm Fs44 (by decide) JRLx_s43
          have JMDJ_s44 : MDJ U s44 := MDJ_fm Fs44 (by decide) JMDJ_s43
          have ws44_73 : iI s44 73 = iI s43 73 := fm_iq Fs44 rfl
          have ws44_97 : iI s44 97 = iI s43 97 := fm_iq Fs44 rfl
          have ws44_89 : iI s44 89 = iI s43 89 := fm_iq Fs44 rfl
          have b46 := bi_100 Is44
          have b47 := bi_101 Is44
          have aws44_240 : SAM 240 s41 s44 := sam_ts aws43_240 (sam_fm Fs44 (by decide))
          have aws44_238 : SAM 238 s41 s44 := sam_ts aws43_238 (sam_fm Fs44 (by decide))
          have aws44_239 : SAM 239 s41 s44 := sam_ts aws43_239 (sam_fm Fs44 (by decide))
          show WS k 67 [(0, .ref (A 179)), (1, .int (Int32.ofInt x)), (2, .int (Int32.ofInt y))] [] (Wd A dT s44) 0 0
          have hSV : SVM U (ceM s) (nnM s) x s44 := svm_of hT2 (congrArg Int.toNat (show iI s43 97 = iI s 97 by first | (clear g40 hps35 g34 hps32 g9 hps7; omega) | (clear hps35 g34 hps32 g9 hps7; omega) | omega)) hps44
          refine z_aload_n X (x := A 179) rfl (List.Mem.head _) (s_getR X 179 rfl (c518_ok rfl) rfl rfl (z_const X rfl (z_ald X 264 rfl (c518_ok rfl) rfl (by decide) (show 0 < 8 by decide) (cbig_ok rfl) ?_)))
          have b48 := bc_236 Is44 (show (0 : Int).toNat < 8 by first | exact oq_7f42415e | omega)
          have hz0 : (iC s44 236 (0 : Int).toNat) = iC s44 236 0 := rfl
          refine z_const X rfl (z_icmp_ne X (t := 79) rfl rfl (rng_to _) (by decide) (fun g49 => ?_) (fun g49 => ?_))
          ·
            refine z_load_n X (x := y) rfl (List.Mem.tail _ (List.Mem.tail _ (List.Mem.head _))) (z_const X rfl (z_icmp_ne X (t := 91) rfl rfl ⟨by first | exact p1.1 | omega, by first | exact p1.2 | omega⟩ (by decide) (fun g50 => ?_) (fun g50 => ?_)))
            ·
              refine z_load_n X (x := y) rfl (List.Mem.tail _ (List.Mem.tail _ (List.Mem.head _))) (z_bipush X rfl (z_icmp_ne X (t := 104) rfl rfl ⟨by first | exact p1.1 | omega, by first | exact p1.2 | omega⟩ (by decide) (fun g51 => ?_) (fun g51 => ?_)))
              ·
                refine z_load_n X (x := y) rfl (List.Mem.tail _ (List.Mem.tail _ (List.Mem.head _))) (z_aload_n X (x := A 179) rfl (List.Mem.head _) (z_getI X 179 rfl (c518_ok rfl) rfl rfl ?_))
                have b52 := bi_97 Is44
                refine z_icmp_ge X (t := 121) rfl rfl ⟨by first | exact p1.1 | omega, by first | exact p1.2 | omega⟩ (rng_to _) (fun g53 => ?_) (fun g53 => ?_)
                ·
                  refine z_const X rfl ?_
                  exact w_iret X.1 q hRt rfl (ax_d X (show cdA 263 122 = some (.ireturn, 1, 0, 0, 0) from rfl)) (Nat.zero_le _) (Nat.zero_le _) ⟨_, rfl, Is44, Gs44, JRLx_s44, (-1), rfl, (by decide), Or.inl ⟨by first | exact ⟨oq_ce6c459a g9 hps7, oq_3bba0cb6 g9 hps7⟩ | omega, by first | exact ⟨oq_9989f42a g53 b52.1, oq_912b04fc g34 hps32⟩ | omega, by first | exact oq_851b6b8b ws44_73 ws43_73 ws41_73 b37.1 hps35 vs6 | omega, Or.inl ⟨by first | (clear g51 g50 g49 g40 hps35 g34 hps32 g9 hps7; omega) | (clear g50 g49 g40 hps35 g34 hps32 g9 hps7; omega) | omega, rfl⟩⟩⟩
                ·
                  refine z_aload_n X (x := A 179) rfl (List.Mem.head _) (s_getR X 179 rfl (c518_ok rfl) rfl rfl (z_load_n X (x := y) rfl (List.Mem.tail _ (List.Mem.tail _ (List.Mem.head _))) (z_ald X 264 rfl (c518_ok rfl) rfl (by first | exact oq_bdfc27cd g51 g50 g34 hps32 | omega) (show y < 8 by first | exact oq_7f5b2e79 g53 b52.2 | omega) (cbig_ok rfl) ?_)))
                  have b54 := bc_236 Is44 (show (y).toNat < 8 by first | exact oq_67be0351 g53 b52.2 | omega)
                  refine z_goto X (t := 122) rfl rfl ?_
                  exact w_iret X.1 q hRt rfl (ax_d X (show cdA 263 122 = some (.ireturn, 1, 0, 0, 0) from rfl)) (Nat.zero_le _) (Nat.zero_le _) ⟨_, rfl, Is44, Gs44, JRLx_s44, (iC s44 236 (y).toNat), rfl, (rng_to _), Or.inl ⟨by first | exact ⟨oq_ce6c459a g9 hps7, oq_3bba0cb6 g9 hps7⟩ | omega, by first | exact ⟨oq_86b803ad g34 hps32, oq_e297cd40 g53 b52.2⟩ | omega, by first | (clear g51 g50 g49 g40 hps35 g34 hps32 g9 hps7; omega) | (clear g50 g49 g40 hps35 g34 hps32 g9 hps7; omega) | omega, Or.inr ⟨by first | (clear g51 g50 g49 g40 hps35 g34 hps32 g9 hps7; omega) | (clear g50 g49 g40 hps35 g34 hps32 g9 hps7; omega) | omega, Or.inr ⟨by first | (clear g51 g50 g49 g40 hps35 g34 hps32 g9 hps7; omega) | (clear g50 g49 g40 hps35 g34 hps32 g9 hps7; omega) | omega, svm_1 hSV (by first | (clear g51 g50 g49 g40 hps35 g34 hps32 g9 hps7; omega) | (clear g50 g49 g40 hps35 g34 hps32 g9 hps7; omega) | omega) (Or.inr (Or.inr ⟨by first | (clear g51 g50 g49 g40 hps35 g34 hps32 g9 hps7; omega) | (clear g50 g49 g40 hps35 g34 hps32 g9 hps7; omega) | omega, show (y : Int).toNat < (iI s 97).toNat by first | (clear g51 g50 g49 g40 hps35 g34 hps32 g9 hps7; omega) | (clear g50 g49 g40 hps35 g34 hps32 g9 hps7; omega) | omega, rfl⟩))⟩⟩⟩⟩
              ·
                refine z_aload_n X (x := A 179) rfl (List.Mem.head _) (z_getI X 179 rfl (c518_ok rfl) rfl rfl ?_)
                have b55 := bi_101 Is44
                refine z_goto X (t := 122) rfl rfl ?_
                exact w_iret X.1 q hRt rfl (ax_d X (show cdA 263 122 = some (.ireturn, 1, 0, 0, 0) from rfl)) (Nat.zero_le _) (Nat.zero_le _) ⟨_, rfl, Is44, Gs44, JRLx_s44, (iI s44 101), rfl, (rng_to _), Or.inl ⟨by first | exact ⟨oq_ce6c459a g9 hps7, oq_3bba0cb6 g9 hps7⟩ | omega, by first | exact ⟨oq_3b577602 g51, oq_03bfe2b6 g51⟩ | omega, by first | exact oq_851b6b8b ws44_73 ws43_73 ws41_73 b37.1 hps35 vs6 | omega, Or.inr ⟨by first | (clear g50 g49 g40 hps35 g34 hps32 g9 hps7; omega) | (clear g49 g40 hps35 g34 hps32 g9 hps7; omega) | omega, Or.inr ⟨by first | (clear g50 g49 g40 hps35 g34 hps32 g9 hps7; omega) | (clear g49 g40 hps35 g34 hps32 g9 hps7; omega) | omega, svm_1 hSV (by first | (clear g50 g49 g40 hps35 g34 hps32 g9 hps7; omega) | (clear g49 g40 hps35 g34 hps32 g9 hps7; omega) | omega) (Or.inr (Or.inl ⟨by first | (clear g50 g49 g40 hps35 g34 hps32 g9 hps7; omega) | (clear g49 g40 hps35 g34 hps32 g9 hps7; omega) | omega, rfl⟩))⟩⟩⟩⟩
            ·
              refine z_aload_n X (x := A 179) rfl (List.Mem.head _) (z_getI X 179 rfl (c518_ok rfl) rfl rfl ?_)
              have b56 := bi_100 Is44
              refine z_goto X (t := 122) rfl rfl ?_
              exact w_iret X.1 q hRt rfl (ax_d X (show cdA 263 122 = some (.ireturn, 1, 0, 0, 0) from rfl)) (Nat.zero_le _) (Nat.zero_le _) ⟨_, rfl, Is44, Gs44, JRLx_s44, (iI s44 100), rfl, (rng_to _), Or.inl ⟨by first | exact ⟨oq_ce6c459a g9 hps7, oq_3bba0cb6 g9 hps7⟩ | omega, by first | exact ⟨oq_55069952 g50, oq_55529764 g50⟩ | omega, by first | exact oq_851b6b8b ws44_73 ws43_73 ws41_73 b37.1 hps35 vs6 | omega, Or.inr ⟨by first | (clear g49 g40 hps35 g34 hps32 g9 hps7; omega) | (clear g40 hps35 g34 hps32 g9 hps7; omega) | omega, Or.inr ⟨by first | (clear g49 g40 hps35 g34 hps32 g9 hps7; omega) | (clear g40 hps35 g34 hps32 g9 hps7; omega) | omega, svm_1 hSV (by first | (clear g49 g40 hps35 g34 hps32 g9 hps7; omega) | (clear g40 hps35 g34 hps32 g9 hps7; omega) | omega) (Or.inl ⟨by first | (clear g49 g40 hps35 g34 hps32 g9 hps7; omega) | (clear g40 hps35 g34 hps32 g9 hps7; omega) | omega, rfl⟩)⟩⟩⟩⟩
          ·
            refine z_const X rfl ?_
            exact w_iret X.1 q hRt rfl (ax_d X (show cdA 263 78 = some (.ireturn, 1, 0, 0, 0) from rfl)) (Nat.zero_le _) (Nat.zero_le _) ⟨_, rfl, Is44, Gs44, JRLx_s44, (-1), rfl, (by decide), Or.inl ⟨by first | exact ⟨oq_ce6c459a g9 hps7, oq_3bba0cb6 g9 hps7⟩ | omega, by first | exact ⟨oq_86b803ad g34 hps32, oq_912b04fc g34 hps32⟩ | omega, by first | exact oq_851b6b8b ws44_73 ws43_73 ws41_73 b37.1 hps35 vs6 | omega, by rcases (show iI s 97 ≤ y ∨ y < iI s 97 by first | (clear g40 hps35 g34 hps32 g9 hps7; omega) | (clear hps35 g34 hps32 g9 hps7; omega) | omega) with z | z; (· exact Or.inl ⟨z, rfl⟩); (· exact Or.inr ⟨z, Or.inr ⟨by first | (clear g40 hps35 g34 hps32 g9 hps7; omega) | (clear hps35 g34 hps32 g9 hps7; omega) | omega, svm_0 hSV (by first | (clear g40 hps35 g34 hps32 g9 hps7; omega) | (clear hps35 g34 hps32 g9 hps7; omega) | omega)⟩⟩)⟩⟩
        ·
          refine z_const X rfl ?_
          exact w_iret X.1 q hRt rfl (ax_d X (show cdA 263 48 = some (.ireturn, 1, 0, 0, 0) from rfl)) (Nat.zero_le _) (Nat.zero_le _) ⟨_, rfl, Is35, Gs35, JRLx_s35, (-1), rfl, (by decide), Or.inl ⟨by first | exact ⟨oq_ce6c459a g9 hps7, oq_3bba0cb6 g9 hps7⟩ | omega, by first | exact ⟨oq_86b803ad g34 hps32, oq_912b04fc g34 hps32⟩ | omega, by first | exact oq_93520411 b37.1 hps35 vs6 | omega, by rcases (show iI s 97 ≤ y ∨ y < iI s 97 by first | (clear hps35 g34 hps32 g9 hps7; omega) | (clear g34 hps32 g9 hps7; omega) | omega) with z | z; (· exact Or.inl ⟨z, rfl⟩); (· exact Or.inr ⟨z, Or.inl ⟨by first | (clear hps35 g34 hps32 g9 hps7; omega) | (clear g34 hps32 g9 hps7; omega) | omega, rfl⟩⟩)⟩⟩
      ·
        refine z_const X rfl ?_
        exact w_iret X.1 q hRt rfl (ax_d X (show cdA 263 39 = some (.ireturn, 1, 0, 0, 0) from rfl)) (Nat.zero_le _) (Nat.zero_le _) ⟨_, rfl, Is35, Gs35, JRLx_s35, 0, rfl, (by decide), Or.inr ⟨by first | exact oq_9f65d6fa g38 hps35 vs6 | omega, by first | exact oq_df0d149a g38 hps35 vs6 | omega⟩⟩
    ·
      refine z_const X rfl (z_goto X (t := 31) rfl rfl (z_const X rfl (zcV_i0 X E 179 (As := [.int (Int32.ofInt 1), .int (Int32.ofInt 1)]) (st := []) rfl rfl rfl rfl (k_bad2 G Is6 (by first | exact Or.inr (by decide) | omega) (by first | exact ⟨by decide, by decide⟩ | omega)) rfl (Nat.le_of_ble_eq_true rfl) (fun s57 e58 Is57 Fs57 hrs57 hps57 => ?_))))
      have Gs57 := fm_tq Fs6 Fs57 rfl rfl
      have JRLx_s57 : RLx s57 := RLx_fm Fs57 (by decide) JRLx_s6
      have JMDJ_s57 : MDJ U s57 := MDJ_fm Fs57 (by decide) JMDJ_s6
      have b59 := bi_73 Is57
      have ws57_97 : iI s57 97 = iI s6 97 := fm_iq Fs57 rfl
      have ws57_89 : iI s57 89 = iI s6 89 := fm_iq Fs57 rfl
      have ws57_100 : iI s57 100 = iI s6 100 := fm_iq Fs57 rfl
      have ws57_101 : iI s57 101 = iI s6 101 := fm_iq Fs57 rfl
      refine z_if_eq X (t := 40) rfl rfl hrs57 (fun g60 => ?_) (fun g60 => ?_)
      ·
        refine z_aload_n X (x := A 179) rfl (List.Mem.head _) (z_getI X 179 rfl (c518_ok rfl) rfl rfl ?_)
        have b61 := bi_97 Is57
        refine z_if_ne X (t := 49) rfl rfl (rng_to _) (fun g62 => ?_) (fun g62 => ?_)
        ·
          refine z_aload_n X (x := A 179) rfl (List.Mem.head _) (zcV_v1 X E 179 (As := []) (st := []) rfl rfl rfl rfl (k_findSets8 G Is57 JRLx_s57 JMDJ_s57 (by first | exact oq_f34933ba ws57_89 ws6_89 p2 b3.1 | omega)) rfl (Nat.le_of_ble_eq_true rfl) (fun s63 Is63 Fs63 JRLx_s63 hps63 => ?_))
          have Gs63 := fm_tq Gs57 Fs63 rfl rfl
          have JRLx_s63 : RLx s63 := RLx_fm Fs63 (by decide) JRLx_s57
          have JMDJ_s63 : MDJ U s63 := MDJ_fm Fs63 (by decide) JMDJ_s57
          have ws63_73 : iI s63 73 = iI s57 73 := fm_iq Fs63 rfl
          have ws63_97 : iI s63 97 = iI s57 97 := fm_iq Fs63 rfl
          have ws63_89 : iI s63 89 = iI s57 89 := fm_iq Fs63 rfl
          have ws63_100 : iI s63 100 = iI s57 100 := fm_iq Fs63 rfl
          have ws63_101 : iI s63 101 = iI s57 101 := fm_iq Fs63 rfl
          have hT : TBM U (ceM s) (nnM s) (pwI (nnM s)) s63 := by have z := hps63; rw [show ceM s57 = ceM s from funext (fun j => fm_c Gs57 (by decide)), show nnM s57 = nnM s from congrArg Int.toNat (show iI s57 97 = iI s 97 by first | (clear g62 hps57 hps32 g9 hps7; omega) | (clear hps57 hps32 g9 hps7; omega) | omega)] at z; exact z
          refine z_aload_n X (x := A 179) rfl (List.Mem.head _) (s_getR X 179 rfl (c518_ok rfl) rfl rfl (z_const X rfl (z_const X rfl (z_ast X 264 rfl (c518_ok rfl) rfl (by decide) (show 0 < 8 by decide) (cbig_ok rfl) (wd_gen (fun s65 hs65 => ?_))))))
          have Is65 : Bd s65 := eqB hs65 (bd_C Is63 (show ((-1) : Int) ≤ (-1) ∧ (-1) ≤ 7 by first | exact ⟨by decide, by decide⟩ | omega) (by decide))
          have Fs65 := eqF hs65 (fm_C Gs63 (inl_ok (a := 236) rfl))
          have ws65_73 : iI s65 73 = iI s63 73 := eqI hs65 rfl
          have ws65_97 : iI s65 97 = iI s63 97 := eqI hs65 rfl
          have ws65_89 : iI s65 89 = iI s63 89 := eqI hs65 rfl
          have ws65_100 : iI s65 100 = iI s63 100 := eqI hs65 rfl
          have ws65_101 : iI s65 101 = iI s63 101 := eqI hs65 rfl
          have vs65 : iC s65 236 (0 : Int).toNat = (-1) := eqC hs65 (iC_u (by decide))
          have aws65_240 : SAM 240 s63 s65 := by rw [hs65]; exact sam_C (by decide) (sam_rf (a := 240) (s := s63))
          have aws65_238 : SAM 238 s63 s65 := by rw [hs65]; exact sam_C (by decide) (sam_rf (a := 238) (s := s63))
          have aws65_239 : SAM 239 s63 s65 := by rw [hs65]; exact sam_C (by decide) (sam_rf (a := 239) (s := s63))
          have fs65 : Fm [] [236] s63 s65 := by rw [hs65]; exact fm_C (fm_rf _ _ _) (show 236 ∈ _ by decide)
          have JRLx_s65 : RLx s65 := RLx_fm fs65 (by decide) JRLx_s63
          have JMDJ_s65 : MDJ U s65 := MDJ_fm fs65 (by decide) JMDJ_s63
          have hB0 : BSP (nnM s65) none s65 := (show iC s65 236 (0 : Int).toNat = -1 by first | (clear g62 hps57 hps32 g9 hps7; omega) | (clear hps57 hps32 g9 hps7; omega) | omega)
          have hT2 : TBM U (ceM s) (nnM s) (pwI (nnM s)) s65 := tbm_s hT aws65_240 aws65_238 aws65_239
          refine z_aload_n X (x := A 179) rfl (List.Mem.head _) (z_const X rfl (z_const X rfl (z_load_n X (x := x) rfl (List.Mem.tail _ (List.Mem.head _)) (z_callV X 179 (rm := (rkR (12 + 8))) (As := [.int (Int32.ofInt 0), .int (Int32.ofInt 0), .int (Int32.ofInt x)]) (st := []) rfl rfl (by decide) rfl (by rw [E.1, E.2.1, E.2.2.1]; exact k_parts8 G 8 Is65 (by first | exact ⟨by decide, oq_0f93fca7 ws65_97 ws63_97 b61.1⟩ | omega) (by first | exact oq_869f4868 ws65_97 ws63_97 b61.2 | omega) (by first | exact ⟨by decide, oq_fefc7c44 g9 hps7⟩ | omega) (by first | exact ⟨oq_ce6c459a g9 hps7, oq_3bba0cb6 g9 hps7⟩ | omega) (by first | exact Or.inl (by decide) | omega) (by first | exact oq_5c1b5c66 ws65_97 ws63_97 g62 b61.1 | omega) (hB0)) ⟨by rw [E.2.2.2]; exact (show 32 + 1 ≤ 38 from oq_7efb0865), by rw [E.2.2.2]; exact (show 8 + (5 + 11) + 1400 ≤ 1601 from oq_2d6821c8), by rw [E.2.2.2]; exact Nat.le_refl 0, by rw [E.2.2.2]; exact Nat.le_refl 0⟩ (Nat.le_of_ble_eq_true rfl) (fun vv s66 hq => ?_) (fun ee s66 hq => ?_)))))
          rotate_left
          · obtain ⟨Is66, Fs66, hv, hps66⟩ := hq; cases hv
          obtain ⟨Is66, Fs66, hv, hps66⟩ := hq
          cases hv
          have Gs66 := fm_tq Fs65 Fs66 rfl rfl
          have JRLx_s66 : RLx s66 := RLx_fm Fs66 (by decide) JRLx_s65
          have JMDJ_s66 : MDJ U s66 := MDJ_fm Fs66 (by decide) JMDJ_s65
          have ws66_73 : iI s66 73 = iI s65 73 := fm_iq Fs66 rfl
          have ws66_97 : iI s66 97 = iI s65 97 := fm_iq Fs66 rfl
          have ws66_89 : iI s66 89 = iI s65 89 := fm_iq Fs66 rfl
          have b68 := bi_100 Is66
          have b69 := bi_101 Is66
          have aws66_240 : SAM 240 s63 s66 := sam_ts aws65_240 (sam_fm Fs66 (by decide))
          have aws66_238 : SAM 238 s63 s66 := sam_ts aws65_238 (sam_fm Fs66 (by decide))
          have aws66_239 : SAM 239 s63 s66 := sam_ts aws65_239 (sam_fm Fs66 (by decide))
          show WS k 67 [(0, .ref (A 179)), (1, .int (Int32.ofInt x)), (2, .int (Int32.ofInt y))] [] (Wd A dT s66) 0 0
          have hSV : SVM U (ceM s) (nnM s) x s66 := svm_of hT2 (congrArg Int.toNat (show iI s65 97 = iI s 97 by first | (clear g62 hps57 hps32 g9 hps7; omega) | (clear hps57 hps32 g9 hps7; omega) | omega)) hps66
          refine z_aload_n X (x := A 179) rfl (List.Mem.head _) (s_getR X 179 rfl (c518_ok rfl) rfl rfl (z_const X rfl (z_ald X 264 rfl (c518_ok rfl) rfl (by decide) (show 0 < 8 by decide) (cbig_ok rfl) ?_)))
          have b70 := bc_236 Is66 (show (0 : Int).toNat < 8 by first | exact oq_7f42415e | omega)
          have hz0 : (iC s66 236 (0 : Int).toNat) = iC s66 236 0 := rfl
          refine z_const X rfl (z_icmp_ne X (t := 79) rfl rfl (rng_to _) (by decide) (fun g71 => ?_) (fun g71 => ?_))
          ·
            refine z_load_n X (x := y) rfl (List.Mem.tail _ (List.Mem.tail _ (List.Mem.head _))) (z_const X rfl (z_icmp_ne X (t := 91) rfl rfl ⟨by first | exact p1.1 | omega, by first | exact p1.2 | omega⟩ (by decide) (fun g72 => ?_) (fun g72 => ?_)))
            ·
              refine z_load_n X (x := y) rfl (List.Mem.tail _ (List.Mem.tail _ (List.Mem.head _))) (z_bipush X rfl (z_icmp_ne X (t := 104) rfl rfl ⟨by first | exact p1.1 | omega, by first | exact p1.2 | omega⟩ (by decide) (fun g73 => ?_) (fun g73 => ?_)))
              ·
                refine z_load_n X (x := y) rfl (List.Mem.tail _ (List.Mem.tail _ (List.Mem.head _))) (z_aload_n X (x := A 179) rfl (List.Mem.head _) (z_getI X 179 rfl (c518_ok rfl) rfl rfl ?_))
                have b74 := bi_97 Is66
                refine z_icmp_ge X (t := 121) rfl rfl ⟨by first | exact p1.1 | omega, by first | exact p1.2 | omega⟩ (rng_to _) (fun g75 => ?_) (fun g75 => ?_)
                ·
                  refine z_const X rfl ?_
                  exact w_iret X.1 q hRt rfl (ax_d X (show cdA 263 122 = some (.ireturn, 1, 0, 0, 0) from rfl)) (Nat.zero_le _) (Nat.zero_le _) ⟨_, rfl, Is66, Gs66, JRLx_s66, (-1), rfl, (by decide), Or.inl ⟨by first | exact ⟨oq_ce6c459a g9 hps7, oq_3bba0cb6 g9 hps7⟩ | omega, by first | exact ⟨oq_9989f42a g75 b74.1, oq_7d7a532a g60 hps57 vs6⟩ | omega, by first | exact oq_3904add8 ws66_73 ws65_73 ws63_73 g60 b59.1 hps57 vs6 | omega, Or.inl ⟨by first | (clear g73 g72 g71 g62 hps57 hps32 g9 hps7; omega) | (clear g72 g71 g62 hps57 hps32 g9 hps7; omega) | omega, rfl⟩⟩⟩
                ·
                  refine z_aload_n X (x := A 179) rfl (List.Mem.head _) (s_getR X 179 rfl (c518_ok rfl) rfl rfl (z_load_n X (x := y) rfl (List.Mem.tail _ (List.Mem.tail _ (List.Mem.head _))) (z_ald X 264 rfl (c518_ok rfl) rfl (by first | exact oq_674898f9 g60 hps57 vs6 | omega) (show y < 8 by first | exact oq_7f5b2e79 g75 b74.2 | omega) (cbig_ok rfl) ?_)))
                  have b76 := bc_236 Is66 (show (y).toNat < 8 by first | exact oq_67be0351 g75 b74.2 | omega)
                  refine z_goto X (t := 122) rfl rfl ?_
                  exact w_iret X.1 q hRt rfl (ax_d X (show cdA 263 122 = some (.ireturn, 1, 0, 0, 0) from rfl)) (Nat.zero_le _) (Nat.zero_le _) ⟨_, rfl, Is66, Gs66, JRLx_s66, (iC s66 236 (y).toNat), rfl, (rng_to _), Or.inl ⟨by first | exact ⟨oq_ce6c459a g9 hps7, oq_3bba0cb6 g9 hps7⟩ | omega, by first | exact ⟨oq_36a8948f g60 hps57 vs6, oq_e297cd40 g75 b74.2⟩ | omega, by first | exact oq_3904add8 ws66_73 ws65_73 ws63_73 g60 b59.1 hps57 vs6 | omega, Or.inr ⟨by first | (clear g73 g72 g71 g62 hps57 hps32 g9 hps7; omega) | (clear g72 g71 g62 hps57 hps32 g9 hps7; omega) | omega, Or.inr ⟨by first | (clear g73 g72 g71 g62 hps57 hps32 g9 hps7; omega) | (clear g72 g71 g62 hps57 hps32 g9 hps7; omega) | omega, svm_1 hSV (by first | (clear g73 g72 g71 g62 hps57 hps32 g9 hps7; omega) | (clear g72 g71 g62 hps57 hps32 g9 hps7; omega) | omega) (Or.inr (Or.inr ⟨by first | (clear g73 g72 g71 g62 hps57 hps32 g9 hps7; omega) | (clear g72 g71 g62 hps57 hps32 g9 hps7; omega) | omega, show (y : Int).toNat < (iI s 97).toNat by first | (clear g73 g72 g71 g62 hps57 hps32 g9 hps7; omega) | (clear g72 g71 g62 hps57 hps32 g9 hps7; omega) | omega, rfl⟩))⟩⟩⟩⟩
              ·
                refine z_aload_n X (x := A 179) rfl (List.Mem.head _) (z_getI X 179 rfl (c518_ok rfl) rfl rfl ?_)
                have b77 := bi_101 Is66
                refine z_goto X (t := 122) rfl rfl ?_
                exact w_iret X.1 q hRt rfl (ax_d X (show cdA 263 122 = some (.ireturn, 1, 0, 0, 0) from rfl)) (Nat.zero_le _) (Nat.zero_le _) ⟨_, rfl, Is66, Gs66, JRLx_s66, (iI s66 101), rfl, (rng_to _), Or.inl ⟨by first | exact ⟨oq_ce6c459a g9 hps7, oq_3bba0cb6 g9 hps7⟩ | omega, by first | exact ⟨oq_3b577602 g73, oq_03bfe2b6 g73⟩ | omega, by first | exact oq_3904add8 ws66_73 ws65_73 ws63_73 g60 b59.1 hps57 vs6 | omega, Or.inr ⟨by first | (clear g72 g71 g62 hps57 hps32 g9 hps7; omega) | (clear g71 g62 hps57 hps32 g9 hps7; omega) | omega, Or.inr ⟨by first | (clear g72 g71 g62 hps57 hps32 g9 hps7; omega) | (clear g71 g62 hps57 hps32 g9 hps7; omega) | omega, svm_1 hSV (by first | (clear g72 g71 g62 hps57 hps32 g9 hps7; omega) | (clear g71 g62 hps57 hps32 g9 hps7; omega) | omega) (Or.inr (Or.inl ⟨by first | (clear g72 g71 g62 hps57 hps32 g9 hps7; omega) | (clear g71 g62 hps57 hps32 g9 hps7; omega) | omega, rfl⟩))⟩⟩⟩⟩
            ·
              refine z_aload_n X (x := A 179) rfl (List.Mem.head _) (z_getI X 179 rfl (c518_ok rfl) rfl rfl ?_)
              have b78 := bi_100 Is66
              refine z_goto X (t := 122) rfl rfl ?_
              exact w_iret X.1 q hRt rfl (ax_d X (show cdA 263 122 = some (.ireturn, 1, 0, 0, 0) from rfl)) (Nat.zero_le _) (Nat.zero_le _) ⟨_, rfl, Is66, Gs66, JRLx_s66, (iI s66 100), rfl, (rng_to _), Or.inl ⟨by first | exact ⟨oq_ce6c459a g9 hps7, oq_3bba0cb6 g9 hps7⟩ | omega, by first | exact ⟨oq_55069952 g72, oq_55529764 g72⟩ | omega, by first | exact oq_3904add8 ws66_73 ws65_73 ws63_73 g60 b59.1 hps57 vs6 | omega, Or.inr ⟨by first | (clear g71 g62 hps57 hps32 g9 hps7; omega) | (clear g62 hps57 hps32 g9 hps7; omega) | omega, Or.inr ⟨by first | (clear g71 g62 hps57 hps32 g9 hps7; omega) | (clear g62 hps57 hps32 g9 hps7; omega) | omega, svm_1 hSV (by first | (clear g71 g62 hps57 hps32 g9 hps7; omega) | (clear g62 hps57 hps32 g9 hps7; omega) | omega) (Or.inl ⟨by first | (clear g71 g62 hps57 hps32 g9 hps7; omega) | (clear g62 hps57 hps32 g9 hps7; omega) | omega, rfl⟩)⟩⟩⟩⟩
          ·
            refine z_const X rfl ?_
            exact w_iret X.1 q hRt rfl (ax_d X (show cdA 263 78 = some (.ireturn, 1, 0, 0, 0) from rfl)) (Nat.zero_le _) (Nat.zero_le _) ⟨_, rfl, Is66, Gs66, JRLx_s66, (-1), rfl, (by decide), Or.inl ⟨by first | exact ⟨oq_ce6c459a g9 hps7, oq_3bba0cb6 g9 hps7⟩ | omega, by first | exact ⟨oq_36a8948f g60 hps57 vs6, oq_7d7a532a g60 hps57 vs6⟩ | omega, by first | exact oq_3904add8 ws66_73 ws65_73 ws63_73 g60 b59.1 hps57 vs6 | omega, by rcases (show iI s 97 ≤ y ∨ y < iI s 97 by first | (clear g62 hps57 hps32 g9 hps7; omega) | (clear hps57 hps32 g9 hps7; omega) | omega) with z | z; (· exact Or.inl ⟨z, rfl⟩); (· exact Or.inr ⟨z, Or.inr ⟨by first | (clear g62 hps57 hps32 g9 hps7; omega) | (clear hps57 hps32 g9 hps7; omega) | omega, svm_0 hSV (by first | (clear g62 hps57 hps32 g9 hps7; omega) | (clear hps57 hps32 g9 hps7; omega) | omega)⟩⟩)⟩⟩
        ·
          refine z_const X rfl ?_
          exact w_iret X.1 q hRt rfl (ax_d X (show cdA 263 48 = some (.ireturn, 1, 0, 0, 0) from rfl)) (Nat.zero_le _) (Nat.zero_le _) ⟨_, rfl, Is57, Gs57, JRLx_s57, (-1), rfl, (by decide), Or.inl ⟨by first | exact ⟨oq_ce6c459a g9 hps7, oq_3bba0cb6 g9 hps7⟩ | omega, by first | exact ⟨oq_36a8948f g60 hps57 vs6, oq_7d7a532a g60 hps57 vs6⟩ | omega, by first | exact oq_f4d57307 g60 b59.1 hps57 vs6 | omega, by rcases (show iI s 97 ≤ y ∨ y < iI s 97 by first | (clear hps57 hps32 g9 hps7; omega) | (clear hps32 g9 hps7; omega) | omega) with z | z; (· exact Or.inl ⟨z, rfl⟩); (· exact Or.inr ⟨z, Or.inl ⟨by first | (clear hps57 hps32 g9 hps7; omega) | (clear hps32 g9 hps7; omega) | omega, rfl⟩⟩)⟩⟩
      ·
        refine z_const X rfl ?_
        exact w_iret X.1 q hRt rfl (ax_d X (show cdA 263 39 = some (.ireturn, 1, 0, 0, 0) from rfl)) (Nat.zero_le _) (Nat.zero_le _) ⟨_, rfl, Is57, Gs57, JRLx_s57, 0, rfl, (by decide), Or.inr ⟨by first | exact oq_cb122527 g34 hps32 | omega, by first | exact oq_faabd673 g60 hps57 vs6 | omega⟩⟩
end M87ks
