section

theorem oq_29138f78 {a0 : Int} {n1 : Nat} (h0 : a0 = ((n1 : Nat) : Int)) : 0 ≤ a0 := by omega
theorem oq_bf18e527 {a0 a2 : Int} {n1 n3 : Nat} (h0 : a0 = ((n1 : Nat) : Int)) (h1 : a2 = ((n3 : Nat) : Int)) : ((((8 * n3) + n1) : Nat) : Int) = ((8 * a2) + a0) := by omega
theorem oq_9791b9df {a1 : Int} {n0 : Nat} (h0 : ((n0 : Nat) : Int) ≠ a1) (h1 : 0 ≤ a1) : n0 ≠ (a1 : Int).toNat := by omega
theorem oq_c8586e93 {a0 a1 : Int} (h0 : a0 ≠ a1) (h1 : 0 ≤ a0) (h2 : 0 ≤ a1) : (a1 : Int).toNat ≠ (a0 : Int).toNat := by omega
theorem oq_96a56f83 {n0 : Nat} (h0 : n0 < 8) : ((n0 : Nat) : Int) ≤ 7 := by omega
theorem oq_9a7077d0 {n0 : Nat} (h0 : n0 < 128) : ((n0 : Nat) : Int) ≤ 127 := by omega
theorem oq_9f29ee2a {n0 : Nat}  : (((((n0 : Nat) : Int) : Int).toNat : Nat) : Int) = ((n0 : Nat) : Int) := by omega
theorem oq_332451b5 {n0 : Nat} (h0 : n0 < 8) : n0 < 32 := by omega
theorem oq_f1c5a9fe {a0 : Int} (h0 : a0 ≤ 7) : a0 < 32 := by omega
theorem oq_63cf4a9b {a0 a1 : Int} (h0 : 0 ≤ a0) : ((8 * (a1 : Int).toNat) + ((a0 + 1) : Int).toNat) = (((8 * (a1 : Int).toNat) + (a0 : Int).toNat) + 1) := by omega
theorem oq_05a14228 {a0 a1 : Int} (h0 : (((a0 : Int).toNat : Nat) : Int) = a0) (h1 : 0 ≤ a0) : ((8 * (a1 : Int).toNat) + ((a0 + 1) : Int).toNat) = (((8 * (a1 : Int).toNat) + (a0 : Int).toNat) + 1) := by omega
theorem oq_18c93385 {a0 : Int} (h0 : (((a0 : Int).toNat : Nat) : Int) = a0) (h1 : a0 ≤ 7) : (a0 : Int).toNat < 8 := by omega
theorem oq_ffbdad1d {a1 : Int} {n0 : Nat} (h0 : n0 = (a1 : Int).toNat) (h1 : ((n0 : Nat) : Int) < (a1 + 1)) : (((a1 : Int).toNat : Nat) : Int) = a1 := by omega
theorem oq_d34a8c05 {a1 a2 : Int} {n0 : Nat} (h0 : ((n0 : Nat) : Int) ≠ a1) (h1 : a2 = a1) (h2 : 0 ≤ a1) : n0 ≠ (a2 : Int).toNat := by omega
theorem oq_e3b2ff0b {a0 : Int} (h0 : a0 < 8) : a0 < 32 := by omega
theorem oq_6fede409 {a0 a1 a2 a3 a4 a5 a6 a7 a8 a9 a10 a11 a12 a13 a14 a15 a16 a17 a18 a19 a20 a21 a22 a23 a24 : Int} (h0 : a0 = a1) (h1 : a2 = a3) (h2 : a4 = a5) (h3 : a1 = a6) (h4 : a3 = a7) (h5 : a5 = a8) (h6 : ((a9 < a10 ∧ (a6 = a9 ∧ (a8 = a11 ∧ a7 = a12))) ∨ (a10 ≤ a9 ∧ (a6 = a10 ∧ (a8 = a13 ∧ a7 = a14))))) (h7 : a10 = a15) (h8 : a14 = a16) (h9 : a13 = a17) (h10 : a15 = a18) (h11 : a16 = a19) (h12 : a17 = a20) (h13 : a18 = a21) (h14 : a19 = a22) (h15 : a20 = a23) (h16 : a11 = a24) : ((a9 < a21 ∧ (a0 = a9 ∧ (a4 = a24 ∧ a2 = a12))) ∨ (a21 ≤ a9 ∧ (a0 = a21 ∧ (a4 = a23 ∧ a2 = a22)))) := by omega
theorem oq_417d0fef {a0 : Int} (h0 : a0 = 1) (h1 : a0 = 0) : (¬ (a0 = 1)) := by omega
theorem oq_28bfa4f0 {a0 : Int} (h0 : a0 = 0) (h1 : a0 ≠ 0) : (¬ (a0 = 0)) := by omega
theorem oq_6b4c78f0 {a0 a1 a2 a3 a4 a5 a6 a7 a8 a9 a10 a11 a12 a13 a14 a15 a16 a17 a18 a19 a20 a21 a22 a23 a24 a25 a26 a27 : Int} (h0 : a0 = a1) (h1 : a2 = a3) (h2 : a4 = a5) (h3 : a1 = a6) (h4 : a3 = a7) (h5 : a5 = a8) (h6 : ((a9 < a10 ∧ (a6 = a9 ∧ (a8 = a11 ∧ a7 = a12))) ∨ (a10 ≤ a9 ∧ (a6 = a10 ∧ (a8 = a13 ∧ a7 = a14))))) (h7 : a10 = a15) (h8 : a14 = a16) (h9 : a13 = a17) (h10 : a15 = a18) (h11 : a16 = a19) (h12 : a17 = a20) (h13 : a18 = a21) (h14 : a19 = a22) (h15 : a20 = a23) (h16 : a21 = a24) (h17 : a22 = a25) (h18 : a23 = a26) (h19 : a11 = a27) : ((a9 < a24 ∧ (a0 = a9 ∧ (a4 = a27 ∧ a2 = a12))) ∨ (a24 ≤ a9 ∧ (a0 = a24 ∧ (a4 = a26 ∧ a2 = a25)))) := by omega
theorem oq_8dac520e {a0 : Int} (h0 : 0 ≤ a0) : (-1) ≠ a0 := by omega
theorem oq_80d0328e  : (-1) ≤ 7 := by omega
theorem oq_382224ae {a0 a1 a2 a3 : Int} (h0 : a0 ≠ 0) (h1 : a1 = a2) (h2 : ((a0 = 1 ∧ a3 ≤ a1) ∨ (a0 = 0 ∧ a1 < a3))) : a3 ≤ a2 := by omega
theorem oq_1ed47a9a  : (0 : Int) ≤ 8 := by omega
theorem oq_4cfd06af {a0 : Int} (h0 : a0 = 8) : (a0 : Int).toNat = 8 := by omega

theorem oq_e4fbac31 {a0 a1 : Int} (h0 : a0 = a1) (h1 : a1 ≤ 127) : a0 ≤ 127 := by omega
theorem oq_6ec175c2 {a0 a1 : Int} (h0 : a0 = a1) (h1 : 0 ≤ a1) : (-1) ≤ a0 := by omega
theorem oq_4da978b7 {a0 a1 : Int} (h0 : a0 = a1) (h1 : a1 ≤ 7) : a0 ≤ 7 := by omega
theorem oq_50c017b4 {a0 a1 : Int} (h0 : a0 = a1) (h1 : a1 ≤ 7) : a0 < 8 := by omega
/-! Tries, as the class makes them -/
def GOLD (U : AirD) (f lim : Nat → Int) (c : Nat) : Prop := (∃ x, pcS f (f c) x ∧ x ≠ (c : Int)) ∧ HngT (fun x => pcS f (f c) x ∧ x ≠ (c : Int)) ∧ pkH U (fun x => pcS f (f c) x ∧ x ≠ (c : Int)) ≤ lim (f c).toNat
theorem good_old {U : AirD} {f lim : Nat → Int} {c : Nat} {p : Int} (hc : c < 128) (hn : p ≠ f c) (h0 : 0 ≤ f c) (h : goodF U f lim c p) : GOLD U f lim c := by
  unfold goodF presF at h
  rw [show (((f c).toNat : Nat) : Int) = f c by first | exact oq_94c0d625 h0 | omega, pcs_a hc hn] at h
  exact ⟨h.1, h.2.1, h.2.2.2.1⟩
theorem good_of {U : AirD} {f lim : Nat → Int} {c : Nat} {p : Int} (hc : c < 128) (hn : p ≠ f c) (h0 : 0 ≤ f c) (g : GOLD U f lim c) (h1 : HngT (pcS (upF f c p) p)) (h2 : pkH U (pcS (upF f c p) p) ≤ lim p.toNat) : goodF U f lim c p := by
  unfold goodF presF
  rw [show (((f c).toNat : Nat) : Int) = f c by first | exact oq_94c0d625 h0 | omega, pcs_a hc hn]
  exact ⟨g.1, g.2.1, h1, g.2.2, h2⟩
/-- the best so far, as the class keeps it -/
def BST (U : AirD) (f lim : Nat → Int) (i : Nat) (s : PS) : Prop := ∃ k, BSR U f lim i k (iI s 27) ∧ ((k = -1 ∧ iI s 25 = -1) ∨ (0 ≤ iI s 25 ∧ k = 8 * iI s 25 + iI s 26))
theorem bst_s {U : AirD} {f lim : Nat → Int} {i : Nat} {s t : PS} (h : BST U f lim i s) (e1 : iI t 27 = iI s 27) (e2 : iI t 25 = iI s 25) (e3 : iI t 26 = iI s 26) : BST U f lim i t := by
  unfold BST
  rw [e1, e2, e3]
  exact h
theorem bst_0 {U : AirD} {f lim : Nat → Int} {s : PS} (h : CST U f (iI s 27)) (h1 : iI s 25 = -1) : BST U f lim 0 s := ⟨-1, ⟨rfl, h⟩, Or.inl ⟨rfl, h1⟩⟩
theorem bst_n8 {U : AirD} {f lim : Nat → Int} {c : Nat} {s : PS} (h : BST U f lim (8 * c) s) (hn : ∀ p : Nat, p < 8 → ∀ w, cndF f c (p : Int) → goodF U f lim c (p : Int) → CST U (upF f c (p : Int)) w → ¬ w < iI s 27) : BST U f lim (8 * c + 8) s := by
  obtain ⟨k, a, b⟩ := h
  exact ⟨k, bsr_8 a hn 8 (Nat.le_refl _), b⟩
theorem bst_8 {U : AirD} {f lim : Nat → Int} {c : Nat} {s : PS} (h : BST U f lim (8 * c) s) (hn : ¬ GOLD U f lim c) (hc : c < 128) (h0 : 0 ≤ f c) : BST U f lim (8 * c + 8) s := bst_n8 h (fun _ _ _ h1 h2 _ => absurd (good_old hc h1.2.1 h0 h2) hn)
theorem bst_no {U : AirD} {f lim : Nat → Int} {c p : Nat} {s : PS} (h : BST U f lim (8 * c + p) s) (hp : p < 8) (hn : ¬ (cndF f c (p : Int) ∧ goodF U f lim c (p : Int))) : BST U f lim (8 * c + p + 1) s := by
  obtain ⟨k, a, b⟩ := h
  exact ⟨k, bsr_no a hp hn, b⟩
theorem bst_up {U : AirD} {f lim : Nat → Int} {c p : Nat} {w : Int} {s t : PS} (h : BST U f lim (8 * c + p) s) (hp : p < 8) (hc : cndF f c (p : Int)) (hg : goodF U f lim c (p : Int)) (hw : CST U (upF f c (p : Int)) w) (hu : (w < iI s 27 ∧ iI t 27 = w ∧ iI t 25 = (c : Int) ∧ iI t 26 = (p : Int)) ∨ (iI s 27 ≤ w ∧ iI t 27 = iI s 27 ∧ iI t 25 = iI s 25 ∧ iI t 26 = iI s 26)) : BST U f lim (8 * c + p + 1) t := by
  obtain ⟨k, a, b⟩ := h
  rcases hu with ⟨u1, u2, u3, u4⟩ | ⟨u1, u2, u3, u4⟩
  · refine ⟨((8 * c + p : Nat) : Int), bsr_up a hp hc hg hw (Or.inl ⟨u1, rfl, u2⟩), Or.inr ⟨by first | exact oq_29138f78 u3 | omega, by first | exact oq_bf18e527 u4 u3 | omega⟩⟩
  · refine ⟨k, bsr_up a hp hc hg hw (Or.inr ⟨u1, rfl, u2⟩), ?_⟩
    rw [u3, u4]; exact b
/-- which pieces of cells beside it a cell may go to -/
def OTH (f : Nat → Int) (c : Nat) (z : Int) : Prop := ∀ p : Nat, p < 8 → (bIt z p ↔ cndF f c (p : Int))
/-- the pieces that are whole, as the class has found -/
def WHJ (s : PS) : Prop := ∀ p : Nat, p < 8 → HGE (pcS (pfC s) (p : Int)) (iC s 38 p)
def MEJ (U : AirD) (s : PS) : Prop := MEQ U (pfC s) 8 s
theorem WHJ_fm {L M : List Nat} {s t : PS} (F : Fm L M s t) (h : 21 ∉ M ∧ 38 ∉ M) (r : WHJ s) : WHJ t := fun p hp => by
  have e1 : pfC t = pfC s := funext (fun j => fm_c F h.1)
  rw [e1, fm_c F h.2]; exact r p hp
theorem MEJ_fm {U : AirD} {L M : List Nat} {s t : PS} (F : Fm L M s t) (h : 21 ∉ M ∧ 35 ∉ M ∧ 36 ∉ M ∧ 37 ∉ M) (r : MEJ U s) : MEJ U t := by
  have e1 : pfC t = pfC s := funext (fun j => fm_c F h.1)
  unfold MEJ
  rw [e1]
  exact meq_sam r (fun j => fm_c F h.2.1) (fun j => fm_c F h.2.2.1) (fun j => fm_c F h.2.2.2)
/-- among the tries of a cell -/
def TCH (U : AirD) (x y : Int) (i : Nat) (s t : PS) : Prop := (∃ r, (-1 ≤ r ∧ r ≤ 7) ∧ pfC t = upF (pfC s) x.toNat r) ∧ (∀ j : Nat, (j : Int) ≠ y → iC t 36 j = iC s 36 j ∧ iC t 37 j = iC s 37 j) ∧ BST U (pfC s) (fun j => iC s 24 j) i t
/-- the old piece without the cell -/
abbrev oldS (s : PS) (x y : Int) : Int → Prop := fun c => pcS (pfC s) y c ∧ c ≠ x
def TCG (U : AirD) (x y : Int) (s t : PS) : Prop := (iC t 36 y.toNat = pkH U (oldS s x y) ∧ iC t 37 y.toNat = iaH (oldS s x y) (uW U) (uT U) (uN U)) ∧ (∃ c, oldS s x y c) ∧ HngT (oldS s x y) ∧ pkH U (oldS s x y) ≤ iC s 24 y.toNat
theorem tcg_old {U : AirD} {x y : Int} {s t : PS} (h : TCG U x y s t) (hx : 0 ≤ x) (hy : pfC s x.toNat = y) : GOLD U (pfC s) (fun j => iC s 24 j) x.toNat := by
  unfold GOLD
  rw [hy, show ((x.toNat : Nat) : Int) = x by first | exact oq_94c0d625 hx | omega]
  exact h.2
theorem old_eq {s : PS} {x y r : Int} (hx : 0 ≤ x ∧ x ≤ 127) (hy : pfC s x.toNat = y) (hr : r ≠ y) : pcS (upF (pfC s) x.toNat r) y = oldS s x y := by
  have z := pcs_a (f := pfC s) (c := x.toNat) (p := r) (by first | exact oq_c7f4e9c1 hx.2 | omega) (by rw [hy]; exact hr)
  rw [hy, show ((x.toNat : Nat) : Int) = x by first | exact oq_94c0d625 hx.1 | omega] at z
  exact z
theorem not_old {U : AirD} {x y : Int} {s : PS} (hx : 0 ≤ x ∧ x ≤ 127) (hy : pfC s x.toNat = y) (h : ¬ ((∃ c, oldS s x y c) ∧ HngT (oldS s x y) ∧ pkH U (oldS s x y) ≤ iC s 24 y.toNat)) : ¬ GOLD U (pfC s) (fun j => iC s 24 j) x.toNat := by
  unfold GOLD
  rw [hy, show ((x.toNat : Nat) : Int) = x by first | exact oq_94c0d625 hx.1 | omega]
  exact h
/-- the old one falls apart: told without looking at all of it -/
theorem apt_no {s : PS} {x y w v : Int} (hx : 0 ≤ x ∧ x ≤ 127) (hy : pfC s x.toNat = y) (h1 : HGE (pcS (pfC s) y) w) (w1 : w ≠ 0) (h2 : HWE (pcS (pfC s) y) x v) : (v = 0 → ¬ HngT (oldS s x y)) ∧ (v ≠ 0 → HngT (oldS s x y)) := by
  have hh : HngT (pcS (pfC s) y) := h1.elim (fun q => q.2) (fun q => absurd q.1 w1)
  have hc : pcS (pfC s) y x := ⟨hx, hy⟩
  have e := hw_iff pcs_cel hh hc
  rcases h2 with ⟨a, b⟩ | ⟨a, b⟩
  · exact ⟨fun q => by omega, fun _ => e.mp b⟩
  · exact ⟨fun _ q => b (e.mpr q), fun q => absurd a q⟩
/-- the new one stays whole -/
theorem new_wh {s : PS} {x y p w : Int} (hx : 0 ≤ x ∧ x ≤ 127) (hc : cndF (pfC s) x.toNat p) (h1 : HGE (pcS (pfC s) p) w) (w1 : w ≠ 0) : HngT (pcS (upF (pfC s) x.toNat p) p) := by
  have hh : HngT (pcS (pfC s) p) := h1.elim (fun q => q.2) (fun q => absurd q.1 w1)
  obtain ⟨c1, c2, d, d0, d5, d6, d7⟩ := hc
  rw [show ((x.toNat : Nat) : Int) = x by first | exact oq_94c0d625 hx.1 | omega] at d6 d7
  rw [pcs_n (by first | exact oq_c7f4e9c1 hx.2 | omega) c2, show ((x.toNat : Nat) : Int) = x by first | exact oq_94c0d625 hx.1 | omega]
  have ad : adjT x (besT x d) := ⟨d, d0, d5, rfl, d6⟩
  exact hng_add pcs_cel hh hx ⟨adj_rng ad hx.1 hx.2, d7⟩ ad
/-- the parting with the cell moved, measured -/
theorem mv_meq {U : AirD} {x y p : Int} {i : Nat} {s t u : PS} (hm : MEJ U s) (hx : 0 ≤ x ∧ x ≤ 127) (hy : pfC s x.toNat = y) (y0 : 0 ≤ y ∧ y ≤ 7) (p0 : 0 ≤ p ∧ p ≤ 7) (hc : cndF (pfC s) x.toNat p) (ht : TCH U x y i s t) (hg : TCG U x y s t) (h1 : ∀ j, iC u 35 j = iC s 35 j) (h2 : UPD 36 p (pkH U (pcS (upF (pfC s) x.toNat p) p)) t u) (h3 : UPD 37 p (iaH (pcS (upF (pfC s) x.toNat p) p) (uW U) (uT U) (uN U)) t u) : MEQ U (upF (pfC s) x.toNat p) 8 u := by
  have np : p ≠ y := by rw [← hy]; exact hc.2.1
  have ox := old_eq (s := s) (r := p) hx hy np
  have hf : pfC s x.toNat = y := hy
  refine meq_mv (f := pfC s) (o := y) (p := p) hm y0 p0 (fun r r1 r2 => pcs_o (by first | exact oq_c7f4e9c1 hx.2 | omega) (by rw [hy]; exact r1) r2) h1 (fun r r1 r2 => ?_) ⟨?_, ?_⟩ ⟨?_, ?_⟩ ⟨?_, ?_⟩ ⟨?_, ?_⟩
  · have e1 : r ≠ p.toNat := by first | exact oq_9791b9df r2 p0.1 | omega
    rw [h2.2 r e1, h3.2 r e1]
    exact ht.2.1 r r1
  · unfold presF
    rw [show ((y.toNat : Nat) : Int) = y by first | exact oq_94c0d625 y0.1 | omega]
    exact ⟨x, hx, hy⟩
  · unfold presF
    rw [show ((y.toNat : Nat) : Int) = y by first | exact oq_94c0d625 y0.1 | omega, ox]
    exact hg.2.1
  · unfold presF
    rw [show ((p.toNat : Nat) : Int) = p by first | exact oq_94c0d625 p0.1 | omega]
    obtain ⟨c1, c2, d, d0, d5, d6, d7⟩ := hc
    rw [show ((x.toNat : Nat) : Int) = x by first | exact oq_94c0d625 hx.1 | omega] at d6 d7
    exact ⟨besT x d, adj_rng ⟨d, d0, d5, rfl, d6⟩ hx.1 hx.2, d7⟩
  · unfold presF
    rw [show ((p.toNat : Nat) : Int) = p by first | exact oq_94c0d625 p0.1 | omega, pcs_n (by first | exact oq_c7f4e9c1 hx.2 | omega) (by rw [hy]; exact np)]
    exact ⟨_, Or.inr rfl⟩
  · rw [h2.2 _ (by first | exact oq_c8586e93 np p0.1 y0.1 | omega), ox]; exact hg.1.1
  · rw [h3.2 _ (by first | exact oq_c8586e93 np p0.1 y0.1 | omega), ox]; exact hg.1.2
  · rw [h2.1]
  · rw [h3.1]
theorem tcg_s {U : AirD} {x y : Int} {s t u : PS} (h : TCG U x y s t) (h1 : iC u 36 y.toNat = iC t 36 y.toNat) (h2 : iC u 37 y.toNat = iC t 37 y.toNat) : TCG U x y s u := by
  unfold TCG
  rw [h1, h2]; exact h
/-- cells that cannot be moved for the better -/
theorem bst_shut {U : AirD} {f lim : Nat → Int} {c : Nat} {s : PS} (h : BST U f lim (8 * c) s) (hf : f c = -1) : BST U f lim (8 * c + 8) s := bst_n8 h (fun _ _ _ h1 _ _ => absurd hf h1.1)
theorem bst_mat {U : AirD} {f lim : Nat → Int} {c : Nat} {s : PS} (h : BST U f lim (8 * c) s) (hc : c < 128) (hf : ∀ j, j < 128 → -1 ≤ f j ∧ f j ≤ 7) (hv : noV U (c : Int)) (hl : noC (uL U)) (hw : ∀ x, x < uN U → WOK ((uW U).1 x) ((uW U).2 x)) : BST U f lim (8 * c + 8) s := by
  have hb := h
  obtain ⟨k, a, -⟩ := hb
  obtain ⟨⟨v0, v1, v2⟩, -⟩ := bsr_le a
  refine bst_n8 h (fun p hp w h1 h2 h3 => ?_)
  obtain ⟨c1, c2, d, d0, d5, d6, d7⟩ := h1
  have fc := hf c hc
  have e := cst_no hv hl hw hc (show 0 ≤ (p : Int) ∧ (p : Int) ≤ 7 by first | exact And.intro (oq_a3593015) (oq_96a56f83 hp) | omega) h2.1 (by first | exact And.intro (oq_5234833b fc.1 c1) (fc.2) | omega) c2 ⟨besT (c : Int) d, adj_rng ⟨d, d0, d5, rfl, d6⟩ (by first | exact oq_a3593015 | omega) (by first | exact oq_9a7077d0 hc | omega), by rw [show ((((p : Int)).toNat : Nat) : Int) = (p : Int) by first | exact oq_9f29ee2a | omega]; exact d7⟩ v1 h3
  omega
theorem bst_none {U : AirD} {f lim : Nat → Int} {c : Nat} {s : PS} {z : Int} (h : BST U f lim (8 * c) s) (ho : OTH f c z) (hz : z = 0) : BST U f lim (8 * c + 8) s := bst_n8 h (fun p hp _ h1 _ _ => by
  have q := (ho p hp).mpr h1
  rw [hz] at q
  exact absurd q biq_0)
theorem oth_of {f : Nat → Int} {x y b m o z : Int} (hx : 0 ≤ x) (hy : f x.toNat = y) (y0 : 0 ≤ y ∧ y ≤ 7) (h : PBQ f x b 6) (h1 : Int32.ofInt m = Int32.ofInt 1 <<< (Int32.ofInt y &&& 31)) (h2 : Int32.ofInt o = Int32.ofInt m ^^^ Int32.ofInt (-1)) (h3 : Int32.ofInt z = Int32.ofInt b &&& Int32.ofInt o) : OTH f x.toNat z := fun p hp => by
  rw [bi_and h3, bi_not h2 (by first | exact oq_332451b5 hp | omega), biq_1 h1 (by first | exact And.intro (y0.1) (oq_f1c5a9fe y0.2) | omega) (by first | exact oq_332451b5 hp | omega), h p hp]
  unfold cndF
  rw [hy, show ((x.toNat : Nat) : Int) = x by first | exact oq_94c0d625 hx | omega]
  constructor
  · rintro ⟨⟨d, d0, d1, d2, d3⟩, q⟩
    exact ⟨by first | exact oq_c470344a y0.1 | omega, q, d, d0, by first | exact oq_a4cef127 d1 | omega, d2, d3⟩
  · rintro ⟨q1, q2, d, d0, d1, d2, d3⟩
    exact ⟨⟨d, d0, by first | exact oq_9207f8f8 d1 | omega, d2, d3⟩, q2⟩
theorem upf_r {f : Nat → Int} {c : Nat} {p : Int} (hf : ∀ j, j < 128 → -1 ≤ f j ∧ f j ≤ 7) (hp : -1 ≤ p ∧ p ≤ 7) : ∀ j, j < 128 → -1 ≤ upF f c p j ∧ upF f c p j ≤ 7 := fun j hj => by
  unfold upF
  by_cases e : j = c
  · rw [if_pos e]; exact hp
  · rw [if_neg e]; exact hf j hj
theorem upd_back {a : Nat} {i v w : Int} {t m u : PS} (h1 : UPD a i v t m) (h2 : UPD a i w m u) (hw : w = iC t a i.toNat) : SAM a t u := fun j => by
  by_cases e : j = i.toNat
  · rw [e, h2.1, hw]
  · rw [h2.2 j e, h1.2 j e]
theorem upd_same {a : Nat} {i w : Int} {t u : PS} (h : UPD a i w t u) (hw : w = iC t a i.toNat) : SAM a t u := fun j => by
  by_cases e : j = i.toNat
  · rw [e, h.1, hw]
  · exact h.2 j e
theorem tch_n {U : AirD} {x y p : Int} {s t u : PS} (h : TCH U x y (8 * x.toNat + p.toNat) s t) (p0 : 0 ≤ p ∧ p ≤ 7) (hr : ∃ r, (-1 ≤ r ∧ r ≤ 7) ∧ pfC u = upF (pfC s) x.toNat r) (h1 : SAM 36 t u) (h2 : SAM 37 t u) (e1 : iI u 27 = iI t 27) (e2 : iI u 25 = iI t 25) (e3 : iI u 26 = iI t 26) (hn : ¬ (cndF (pfC s) x.toNat p ∧ goodF U (pfC s) (fun j => iC s 24 j) x.toNat p)) : TCH U x y (8 * x.toNat + (p + 1).toNat) s u := by
  refine ⟨hr, fun j hj => ?_, ?_⟩
  · rw [h1, h2]; exact h.2.1 j hj
  · rw [show 8 * x.toNat + (p + 1).toNat = 8 * x.toNat + p.toNat + 1 by first | exact oq_63cf4a9b p0.1 | omega]
    refine bst_no (bst_s h.2.2 e1 e2 e3) (by first | exact oq_c19a3aae p0.2 | omega) ?_
    rw [show ((p.toNat : Nat) : Int) = p by first | exact oq_94c0d625 p0.1 | omega]
    exact hn
theorem tch_y {U : AirD} {x y p w : Int} {s t u : PS} (h : TCH U x y (8 * x.toNat + p.toNat) s t) (x0 : 0 ≤ x) (p0 : 0 ≤ p ∧ p ≤ 7) (hr : ∃ r, (-1 ≤ r ∧ r ≤ 7) ∧ pfC u = upF (pfC s) x.toNat r) (h1 : SAM 36 t u) (h2 : SAM 37 t u) (hc : cndF (pfC s) x.toNat p) (hg : goodF U (pfC s) (fun j => iC s 24 j) x.toNat p) (hw : CST U (upF (pfC s) x.toNat p) w) (hu : (w < iI t 27 ∧ iI u 27 = w ∧ iI u 25 = x ∧ iI u 26 = p) ∨ (iI t 27 ≤ w ∧ iI u 27 = iI t 27 ∧ iI u 25 = iI t 25 ∧ iI u 26 = iI t 26)) : TCH U x y (8 * x.toNat + (p + 1).toNat) s u := by
  have ep : ((p.toNat : Nat) : Int) = p := by first | exact oq_94c0d625 p0.1 | omega
  refine ⟨hr, fun j hj => ?_, ?_⟩
  · rw [h1, h2]; exact h.2.1 j hj
  · rw [show 8 * x.toNat + (p + 1).toNat = 8 * x.toNat + p.toNat + 1 by first | exact oq_05a14228 ep p0.1 | omega]
    refine bst_up (p := p.toNat) (w := w) h.2.2 (by first | exact oq_18c93385 ep p0.2 | omega) (by rw [ep]; exact hc) (by rw [ep]; exact hg) (by rw [ep]; exact hw) ?_
    rw [ep, show ((x.toNat : Nat) : Int) = x by first | exact oq_94c0d625 x0 | omega]
    exact hu
/-- ahead of the last put: the tries are over -/
theorem tch_j {U : AirD} {x y : Int} {s t : PS} (hr : ∃ r, (-1 ≤ r ∧ r ≤ 7) ∧ pfC t = upF (pfC s) x.toNat r) (h2 : ∀ j : Nat, (j : Int) ≠ y → iC t 36 j = iC s 36 j ∧ iC t 37 j = iC s 37 j) (hb : BST U (pfC s) (fun j => iC s 24 j) (8 * x.toNat) s) (hx : 0 ≤ x ∧ x ≤ 127) (hy : pfC s x.toNat = y) (y0 : 0 ≤ y) (hn : ¬ ((∃ c, oldS s x y c) ∧ HngT (oldS s x y) ∧ pkH U (oldS s x y) ≤ iC s 24 y.toNat)) (e1 : iI t 27 = iI s 27) (e2 : iI t 25 = iI s 25) (e3 : iI t 26 = iI s 26) : TCH U x y (8 * x.toNat + 8) s t := ⟨hr, h2, bst_s (bst_8 hb (not_old hx hy hn) (by first | exact oq_c7f4e9c1 hx.2 | omega) (by rw [hy]; exact y0)) e1 e2 e3⟩
theorem tch_e {U : AirD} {x y : Int} {s t u v w : PS} (h : TCH U x y (8 * x.toNat + 8) s t) (hy : pfC s x.toNat = y) (y0 : 0 ≤ y) (h1 : UPD 21 x y t u) (h2 : SAM 21 u w) : pfC w = pfC s := by
  obtain ⟨⟨r, -, r2⟩, -⟩ := h
  have e : pfC w = pfC u := funext h2
  rw [e, upf_upd h1, r2, upf_up]
  exact upf_id hy
theorem mej_b {U : AirD} {y : Int} {s w : PS} (hm : MEJ U s) (hf : pfC w = pfC s) (h1 : ∀ j, iC w 35 j = iC s 35 j) (h2 : ∀ j : Nat, (j : Int) ≠ y → iC w 36 j = iC s 36 j ∧ iC w 37 j = iC s 37 j) (h3 : iC w 36 y.toNat = iC s 36 y.toNat ∧ iC w 37 y.toNat = iC s 37 y.toNat) (y0 : 0 ≤ y) : MEJ U w := by
  have a : ∀ j : Nat, iC w 36 j = iC s 36 j ∧ iC w 37 j = iC s 37 j := fun j => by
    by_cases e : (j : Int) = y
    · have : j = y.toNat := by first | exact oq_15bd8e2f e | omega
      rw [this]; exact h3
    · exact h2 j e
  unfold MEJ
  rw [hf]
  exact meq_sam hm h1 (fun j => (a j).1) (fun j => (a j).2)
theorem whj_b {s w : PS} (h : WHJ s) (hf : pfC w = pfC s) (h1 : ∀ j, iC w 38 j = iC s 38 j) : WHJ w := fun p hp => by rw [hf, h1]; exact h p hp
/-- the wholes found so far -/
def WHX (f : Nat → Int) (n : Int) (t : PS) : Prop := ∀ p : Nat, (p : Int) < n → HGE (pcS f (p : Int)) (iC t 38 p)
theorem whx_up {f : Nat → Int} {n e : Int} {t u : PS} (h : WHX f n t) (n0 : 0 ≤ n) (he : HGE (pcS f n) e) (hu : UPD 38 n e t u) : WHX f (n + 1) u := fun p hp => by
  by_cases z : p = n.toNat
  · rw [z, hu.1, show ((n.toNat : Nat) : Int) = n by first | exact oq_ffbdad1d z hp | omega]; exact he
  · rw [hu.2 p z]; exact h p (by first | exact oq_d0f089f6 z hp | omega)
theorem bst_c {U : AirD} {f f' lim lim' : Nat → Int} {i j : Nat} {s : PS} (h : BST U f lim i s) (e1 : f = f') (e2 : lim = lim') (e3 : i = j) : BST U f' lim' j s := by subst e1 e2 e3; exact h
section M87x
variable {l : Launch} {s0 : State} {D : va_G} {tys : List (ClassId × FieldType)} {a0 : Array Value} {A : Nat → Nat} {dT : Nat → ClassId} {s : PS}
set_option maxRecDepth 4000 in
theorem c2_try3 (G : GX l s0 D tys a0 dT) {U : AirD} (I : Bd s) (jAIR : AIR s) (jCPL : CPL s) (jCDJ : CDJ U s) (jPMJ : PMJ s) (jMEJ : MEJ U s) (jWHJ : WHJ s) {x y z : Int} (p0 : 0 ≤ x ∧ x ≤ 127) (p1 : 0 ≤ y ∧ y ≤ 7) (p2 : rng z) (p3 : iC s 21 (x : Int).toNat = y) (p4 : OTH (pfC s) (x : Int).toNat z) (p5 : BST U (pfC s) (fun j => iC s 24 j) (8 * (x : Int).toNat) s) : CT l s0 D A dT 25 (rmN 25) [.ref (A 41), .int (Int32.ofInt x), .int (Int32.ofInt y), .int (Int32.ofInt z)] s (fun o t => Bd t ∧ Fm [22, 23, 24, 25, 26, 27] [33, 26, 27, 28, 29, 30, 31, 32, 20, 36, 37, 21, 1022, 1023] s t ∧ PMJ t ∧ MEJ U t ∧ WHJ t ∧ o = .inl none ∧ (SAM 21 s t ∧ BST U (pfC s) (fun j => iC s 24 j) (8 * (x : Int).toNat + 8) t)) := by
  refine ct_ofX G (by decide) (Nat.le_of_ble_eq_true rfl) (fun k X E ET hRt hXt q => ?_)
  show WS k 0 [(0, .ref (A 41)), (1, .int (Int32.ofInt x)), (2, .int (Int32.ofInt y)), (3, .int (Int32.ofInt z))] [] _ 0 0
  have F : Fm [22, 23, 24, 25, 26, 27] [33, 26, 27, 28, 29, 30, 31, 32, 20, 36, 37, 21, 1022, 1023] s s := fm_rf _ _ s
  have aw0_21 : SAM 21 s s := sam_rf
  have aw0_36 : SAM 36 s s := sam_rf
  have aw0_37 : SAM 37 s s := sam_rf
  have aw0_24 : SAM 24 s s := sam_rf
  have I0 := I
  have hY : pfC s (x : Int).toNat = y := p3
  have hW : HGE (pcS (pfC s) y) (iC s 38 (y : Int).toNat) := by have z := jWHJ (y : Int).toNat (by first | exact oq_c19a3aae p1.2 | omega); rw [show (((y : Int).toNat : Nat) : Int) = y by first | exact oq_94c0d625 p1.1 | omega] at z; exact z
  have b1 := bi_25 I
  have b2 := bi_26 I
  have b3 := bi_27 I
  have L206 : ∀ (t : PS) (xv yv op ok : Int), Bd t → Fm [22, 23, 24, 25, 26, 27] [33, 26, 27, 28, 29, 30, 31, 32, 20, 36, 37, 21, 1022, 1023] s t → AIR t → CPL t → CDJ U t → PMJ t → (TCH U x y (8 * (x : Int).toNat + 8) s t) → ((xv = x ∧ yv = y) ∧ op = iC s 36 (y : Int).toNat ∧ ok = iC s 37 (y : Int).toNat ∧ rng op ∧ rng ok) → WS k 206 [(0, .ref (A 41)), (1, .int (Int32.ofInt xv)), (2, .int (Int32.ofInt yv)), (5, .int (Int32.ofInt op)), (6, .int (Int32.ofInt ok))] [] (Wd A dT t) 0 0 := by
    intro t xv yv op ok I F jjAIR jjCPL jjCDJ jjPMJ hq hi
    have b1001 := bi_25 I
    have b1002 := bi_26 I
    have b1003 := bi_27 I
    refine z_aload_n X (x := A 41) rfl (List.Mem.head _) (s_getR X 41 rfl (c518_ok rfl) rfl rfl (z_load_n X (x := xv) rfl (List.Mem.tail _ (List.Mem.head _)) (z_load_n X (x := yv) rfl (List.Mem.tail _ (List.Mem.tail _ (List.Mem.head _))) (zcV_i1 X E 25 (As := [.int (Int32.ofInt xv), .int (Int32.ofInt yv)]) (st := []) rfl rfl rfl rfl (c3_put3 G I jjPMJ (by first | exact ⟨oq_e4757433 hi.1.1 p0.1, oq_e4fbac31 hi.1.1 p0.2⟩ | omega) (by first | exact ⟨oq_6ec175c2 hi.1.2 p1.1, oq_4da978b7 hi.1.2 p1.2⟩ | omega)) rfl (Nat.le_of_ble_eq_true rfl) (fun s1004 e1005 Is1004 Fs1004 JPMJ_s1004 hrs1004 hps1004 => ?_)))))
    have Gs1004 := fm_tq F Fs1004 rfl rfl
    have ws1004_25 : iI s1004 25 = iI t 25 := fm_iq Fs1004 rfl
    have ws1004_26 : iI s1004 26 = iI t 26 := fm_iq Fs1004 rfl
    have ws1004_27 : iI s1004 27 = iI t 27 := fm_iq Fs1004 rfl
    have aws1004_36 : SAM 36 t s1004 := sam_ts (sam_rf (a := 36) (s := t)) (sam_fm Fs1004 (by decide))
    have aws1004_37 : SAM 37 t s1004 := sam_ts (sam_rf (a := 37) (s := t)) (sam_fm Fs1004 (by decide))
    refine w_pop X.1 (ax_d X (show cdA 25 215 = some (.pop, 1, 0, 0, 0) from rfl)) rfl (z_aload_n X (x := A 41) rfl (List.Mem.head _) (s_getR X 41 rfl (c518_ok rfl) rfl rfl (z_load_n X (x := yv) rfl (List.Mem.tail _ (List.Mem.tail _ (List.Mem.head _))) (z_load X (x := op) rfl (List.Mem.tail _ (List.Mem.tail _ (List.Mem.tail _ (List.Mem.head _)))) (z_ast X 43 rfl (c518_ok rfl) rfl (by first | exact oq_e4757433 hi.1.2 p1.1 | omega) (show yv < 8 by first | exact oq_50c017b4 hi.1.2 p1.2 | omega) (cbig_ok rfl) (wd_gen (fun s1006 hs1006 => ?_)))))))
    have Is1006 : Bd s1006 := eqB hs1006 (bd_C Is1004 (show ((-2147483648) : Int) ≤ op ∧ op ≤ 2147483647 by first | exact ⟨hi.2.2.2.1.1, hi.2.2.2.1.2⟩ | omega) ⟨by first | exact hi.2.2.2.1.1 | omega, by first | exact hi.2.2.2.1.2 | omega⟩)
    have Fs1006 := eqF hs1006 (fm_C Gs1004 (inl_ok (a := 36) rfl))
    have ws1006_25 : iI s1006 25 = iI s1004 25 := eqI hs1006 rfl
    have ws1006_26 : iI s1006 26 = iI s1004 26 := eqI hs1006 rfl
    have ws1006_27 : iI s1006 27 = iI s1004 27 := eqI hs1006 rfl
    have aws1006_36 : UPD 36 (yv) op t s1006 := by rw [hs1006]; exact upd_put aws1004_36 ⟨by first | exact hi.2.2.2.1.1 | omega, by first | exact hi.2.2.2.1.2 | omega⟩
    have aws1006_37 : SAM 37 t s1006 := by rw [hs1006]; exact sam_C (by decide) aws1004_37
    have fs1006 : Fm [] [36] s1004 s1006 := by rw [hs1006]; exact fm_C (fm_rf _ _ _) (show 36 ∈ _ by decide)
    have JPMJ_s1006 : PMJ s1006 := PMJ_fm fs1006 (by decide) JPMJ_s1004
    refine z_aload_n X (x := A 41) rfl (List.Mem.head _) (s_getR X 41 rfl (c518_ok rfl) rfl rfl (z_load_n X (x := yv) rfl (List.Mem.tail _ (List.Mem.tail _ (List.Mem.head _))) (z_load X (x := ok) rfl (List.Mem.tail _ (List.Mem.tail _ (List.Mem.tail _ (List.Mem.tail _ (List.Mem.head _))))) (z_ast X 44 rfl (c518_ok rfl) rfl (by first | exact oq_e4757433 hi.1.2 p1.1 | omega) (show yv < 8 by first | exact oq_50c017b4 hi.1.2 p1.2 | omega) (cbig_ok rfl) (wd_gen (fun s1007 hs1007 => ?_))))))
    have Is1007 : Bd s1007 := eqB hs1007 (bd_C Is1006 (show ((-2147483648) : Int) ≤ ok ∧ ok ≤ 2147483647 by first | exact ⟨hi.2.2.2.2.1, hi.2.2.2.2.2⟩ | omega) ⟨by first | exact hi.2.2.2.2.1 | omega, by first | exact hi.2.2.2.2.2 | omega⟩)
    have Fs1007 := eqF hs1007 (fm_C Fs1006 (inl_ok (a := 37) rfl))
    have ws1007_25 : iI s1007 25 = iI s1006 25 := eqI hs1007 rfl
    have ws1007_26 : iI s1007 26 = iI s1006 26 := eqI hs1007 rfl
    have ws1007_27 : iI s1007 27 = iI s1006 27 := eqI hs1007 rfl
    have aws1007_36 : UPD 36 (yv) op t s1007 := by rw [hs1007]; exact upd_C (by decide) aws1006_36
    have aws1007_37 : UPD 37 (yv) ok t s1007 := by rw [hs1007]; exact upd_put aws1006_37 ⟨by first | exact hi.2.2.2.2.1 | omega, by first | exact hi.2.2.2.2.2 | omega⟩
    have fs1007 : Fm [] [37] s1006 s1007 := by rw [hs1007]; exact fm_C (fm_rf _ _ _) (show 37 ∈ _ by decide)
    have JPMJ_s1007 : PMJ s1007 := PMJ_fm fs1007 (by decide) JPMJ_s1006
    have hpx : pfC s1007 = pfC s := tch_e (v := s) hq hY (by first | exact p1.1 | omega) (by have z := hps1004.2; rw [show xv = x by first | exact hi.1.1 | omega, show yv = y by first | exact hi.1.2 | omega] at z; exact z) (fun j => by rw [hs1007, hs1006]; exact (iC_a (by decide)).trans (iC_a (by decide)))
    have hM9 : MEJ U s1007 := mej_b (y := y) jMEJ hpx (fun j => fm_c Fs1007 (by decide)) (fun j hj => ⟨(aws1007_36.2 j (by first | exact oq_d34a8c05 hj hi.1.2 p1.1 | omega)).trans (hq.2.1 j hj).1, (aws1007_37.2 j (by first | exact oq_d34a8c05 hj hi.1.2 p1.1 | omega)).trans (hq.2.1 j hj).2⟩) ⟨by have z := aws1007_36.1; rw [show yv = y by first | exact hi.1.2 | omega] at z; rw [z]; omega, by have z := aws1007_37.1; rw [show yv = y by first | exact hi.1.2 | omega] at z; rw [z]; omega⟩ (by first | exact p1.1 | omega)
    have hW8 : WHJ s1007 := whj_b jWHJ hpx (fun j => fm_c Fs1007 (by decide))
    exact w_vret X.1 q hRt (ax_d X (show cdA 25 232 = some (.return_, 1, 0, 0, 0) from rfl)) (Nat.zero_le _) (Nat.zero_le _) ⟨_, rfl, Is1007, Fs1007, JPMJ_s1007, hM9, hW8, rfl, ⟨fun j => congrFun hpx j, bst_s hq.2.2 (by first | exact oq_878618b1 ws1007_27 ws1006_27 ws1004_27 | omega) (by first | exact oq_878618b1 ws1007_25 ws1006_25 ws1004_25 | omega) (by first | exact oq_878618b1 ws1007_26 ws1006_26 ws1004_26 | omega)⟩⟩
  have L98 : ∀ (n : Nat) (t : PS) (xv yv zv op ok p : Int), Bd t → Fm [22, 23, 24, 25, 26, 27] [33, 26, 27, 28, 29, 30, 31, 32, 20, 36, 37, 21, 1022, 1023] s t → AIR t → CPL t → CDJ U t → PMJ t → (TCH U x y (8 * (x : Int).toNat + (p : Int).toNat) s t ∧ TCG U x y s t) → ((xv = x ∧ yv = y ∧ zv = z) ∧ (op = iC s 36 (y : Int).toNat ∧ ok = iC s 37 (y : Int).toNat) ∧ (0 ≤ xv ∧ xv ≤ 127) ∧ (0 ≤ yv ∧ yv ≤ 7) ∧ rng zv ∧ 0 ≤ p ∧ p ≤ 8 ∧ rng op ∧ rng ok) → (8 - p : Int).toNat < n → (∀ (t' : PS) (p' : Int), Bd t' → Fm [22, 23, 24, 25, 26, 27] [33, 26, 27, 28, 29, 30, 31, 32, 20, 36, 37, 21, 1022, 1023] s t' → AIR t' → CPL t' → CDJ U t' → PMJ t' → (TCH U x y (8 * (x : Int).toNat + (p' : Int).toNat) s t' ∧ TCG U x y s t') → ((xv = x ∧ yv = y) ∧ (op = iC s 36 (y : Int).toNat ∧ ok = iC s 37 (y : Int).toNat) ∧ p' = 8 ∧ rng op ∧ rng ok) → WS k 206 [(0, .ref (A 41)), (1, .int (Int32.ofInt xv)), (2, .int (Int32.ofInt yv)), (3, .int (Int32.ofInt zv)), (5, .int (Int32.ofInt op)), (6, .int (Int32.ofInt ok)), (7, .int (Int32.ofInt p'))] [] (Wd A dT t') 0 0) → WS k 98 [(0, .ref (A 41)), (1, .int (Int32.ofInt xv)), (2, .int (Int32.ofInt yv)), (3, .int (Int32.ofInt zv)), (5, .int (Int32.ofInt op)), (6, .int (Int32.ofInt ok)), (7, .int (Int32.ofInt p))] [] (Wd A dT t) 0 0 := by
    as_aux_lemma =>
     intro n
     induction n with
     | zero =>
       intro t xv yv zv op ok p I F jjAIR jjCPL jjCDJ jjPMJ hq hi hm kx
       exact absurd hm (Nat.not_lt_zero _)
     | succ n ih =>
       intro t xv yv zv op ok p I F jjAIR jjCPL jjCDJ jjPMJ hq hi hm kx
       have b2001 := bi_25 I
       have b2002 := bi_26 I
       have b2003 := bi_27 I
       refine z_load X (x := p) rfl (List.Mem.tail _ (List.Mem.tail _ (List.Mem.tail _ (List.Mem.tail _ (List.Mem.tail _ (List.Mem.tail _ (List.Mem.head _))))))) (z_bipush X rfl (z_icmp_ge X (t := 206) rfl rfl ⟨by first | exact oq_fa4e5087 hi.2.2.2.2.2.1 | omega, by first | exact oq_d3f5d874 hi.2.2.2.2.2.2.1 | omega⟩ (by decide) (fun g2004 => ?_) (fun g2004 => ?_)))
       ·
         refine WS_pq [0, 1, 2, 3, 4, 5, 6] (lv' := [(0, .ref (A 41)), (1, .int (Int32.ofInt xv)), (2, .int (Int32.ofInt yv)), (3, .int (Int32.ofInt zv)), (5, .int (Int32.ofInt op)), (6, .int (Int32.ofInt ok)), (7, .int (Int32.ofInt p))]) rfl ?_
         exact kx _ p I F jjAIR jjCPL jjCDJ jjPMJ hq (by first | exact ⟨And.intro (hi.1.1) (hi.1.2.1), And.intro (hi.2.1.1) (hi.2.1.2), oq_73d3719d hi.2.2.2.2.2.2.1 g2004, And.intro (hi.2.2.2.2.2.2.2.1.1) (hi.2.2.2.2.2.2.2.1.2), hi.2.2.2.2.2.2.2.2.1, hi.2.2.2.2.2.2.2.2.2⟩ | omega)
       ·
         refine z_load_n X (x := zv) rfl (List.Mem.tail _ (List.Mem.tail _ (List.Mem.tail _ (List.Mem.head _)))) (z_load X (x := p) rfl (List.Mem.tail _ (List.Mem.tail _ (List.Mem.tail _ (List.Mem.tail _ (List.Mem.tail _ (List.Mem.tail _ (List.Mem.head _))))))) (z_bshr X rfl (z_anyV (fun y2005 hy2005 ey2005 => ?_))))
         refine z_const X rfl (w_iand X.1 (ax_d X (show cdA 25 110 = some (.iand, 1, 0, 0, 0) from rfl)) (z_anyV (fun y2006 hy2006 ey2006 => ?_)))
         have hbit := bi_at ey2005 ey2006 hy2006 (show 0 ≤ p ∧ p < 32 by first | exact And.intro (hi.2.2.2.2.2.1) (oq_e3b2ff0b g2004) | omega)
         rw [show zv = z by first | exact hi.1.2.2 | omega] at hbit
         have hoth := p4 (p : Int).toNat (by first | exact oq_db4b3b8b g2004 | omega)
         rw [show (((p : Int).toNat : Nat) : Int) = p by first | exact oq_94c0d625 hi.2.2.2.2.2.1 | omega] at hoth
         refine z_if_eq X (t := 200) rfl rfl hy2006 (fun g2007 => ?_) (fun g2007 => ?_)
         ·
           refine z_inc X (x := p) (lv' := [(7, .int (Int32.ofInt (p + 1))), (0, .ref (A 41)), (1, .int (Int32.ofInt xv)), (2, .int (Int32.ofInt yv)), (3, .int (Int32.ofInt zv)), (5, .int (Int32.ofInt op)), (6, .int (Int32.ofInt ok))]) rfl (by decide) (List.Mem.tail _ (List.Mem.tail _ (List.Mem.tail _ (List.Mem.tail _ (List.Mem.tail _ (List.Mem.tail _ (List.Mem.head _))))))) (fun _ h => h) (z_goto X (t := 98) rfl rfl (WS_pq [1, 2, 3, 4, 5, 6, 0] (lv' := [(0, .ref (A 41)), (1, .int (Int32.ofInt xv)), (2, .int (Int32.ofInt yv)), (3, .int (Int32.ofInt zv)), (5, .int (Int32.ofInt op)), (6, .int (Int32.ofInt ok)), (7, .int (Int32.ofInt (p + 1)))]) rfl ?_))
           exact ih _ xv yv zv op ok (p + 1) I F jjAIR jjCPL jjCDJ jjPMJ ⟨tch_n hq.1 (by first | exact And.intro (hi.2.2.2.2.2.1) (oq_78c639ed g2004) | omega) hq.1.1 sam_rf sam_rf rfl rfl rfl (fun h => (hbit.mpr (hoth.mpr h.1)) (by first | exact g2007 | omega)), hq.2⟩ (by first | exact ⟨And.intro (hi.1.1) (And.intro (hi.1.2.1) (hi.1.2.2)), And.intro (hi.2.1.1) (hi.2.1.2), And.intro (hi.2.2.1.1) (hi.2.2.1.2), And.intro (hi.2.2.2.1.1) (hi.2.2.2.1.2), And.intro (hi.2.2.2.2.1.1) (hi.2.2.2.2.1.2), oq_54f49eb5 hi.2.2.2.2.2.1, oq_0c7b19c3 g2004, And.intro (hi.2.2.2.2.2.2.2.1.1) (hi.2.2.2.2.2.2.2.1.2), hi.2.2.2.2.2.2.2.2.1, hi.2.2.2.2.2.2.2.2.2⟩ | omega) (by first | exact qk_me hm (by decide) (oq_9f368f35 g2004) | exact oq_1ef5cbe1 g2004 hm | omega) kx
         ·
           as_aux_lemma =>
            have hC : cndF (pfC s) (x : Int).toNat p := hoth.mp (hbit.mp (by first | exact g2007 | (clear g2007; omega) | omega))
            have hnp : p ≠ y := by have z := hC.2.1; rw [hY] at z; exact z
            refine z_aload_n X (x := A 41) rfl (List.Mem.head _) (s_getR X 41 rfl (c518_ok rfl) rfl rfl (z_load X (x := p) rfl (List.Mem.tail _ (List.Mem.tail _ (List.Mem.tail _ (List.Mem.tail _ (List.Mem.tail _ (List.Mem.tail _ (List.Mem.head _))))))) (z_ald X 43 rfl (c518_ok rfl) rfl (by first | exact hi.2.2.2.2.2.1 | omega) (show p < 8 by first | exact g2004 | omega) (cbig_ok rfl) ?_)))
            have b2008 := bc_36 I (show (p).toNat < 8 by first | exact oq_db4b3b8b g2004 | omega)
            have ar2009 : iC t 36 (p).toNat = iC t 36 (p).toNat := (sam_rf (a := 36) (s := t)) _
            refine z_store X (lv' := [(8, .int (Int32.ofInt (iC t 36 (p).toNat))), (0, .ref (A 41)), (1, .int (Int32.ofInt xv)), (2, .int (Int32.ofInt yv)), (3, .int (Int32.ofInt zv)), (5, .int (Int32.ofInt op)), (6, .int (Int32.ofInt ok)), (7, .int (Int32.ofInt p))]) rfl (by decide) (fun _ h => h) (z_aload_n X (x := A 41) rfl (List.Mem.tail _ (List.Mem.head _)) (s_getR X 41 rfl (c518_ok rfl) rfl rfl (z_load X (x := p) rfl (List.Mem.tail _ (List.Mem.tail _ (List.Mem.tail _ (List.Mem.tail _ (List.Mem.tail _ (List.Mem.tail _ (List.Mem.tail _ (List.Mem.head _)))))))) (z_ald X 44 rfl (c518_ok rfl) rfl (by first | exact hi.2.2.2.2.2.1 | omega) (show p < 8 by first | exact g2004 | omega) (cbig_ok rfl) ?_))))
            have b2010 := bc_37 I (show (p).toNat < 8 by first | exact oq_db4b3b8b g2004 | omega)
            have ar2011 : iC t 37 (p).toNat = iC t 37 (p).toNat := (sam_rf (a := 37) (s := t)) _
            refine z_store X (lv' := [(9, .int (Int32.ofInt (iC t 37 (p).toNat))), (8, .int (Int32.ofInt (iC t 36 (p).toNat))), (0, .ref (A 41)), (1, .int (Int32.ofInt xv)), (2, .int (Int32.ofInt yv)), (3, .int (Int32.ofInt zv)), (5, .int (Int32.ofInt op)), (6, .int (Int32.ofInt ok)), (7, .int (Int32.ofInt p))]) rfl (by decide) (fun _ h => h) (z_aload_n X (x := A 41) rfl (List.Mem.tail _ (List.Mem.tail _ (List.Mem.head _))) (s_getR X 41 rfl (c518_ok rfl) rfl rfl (z_load_n X (x := xv) rfl (List.Mem.tail _ (List.Mem.tail _ (List.Mem.tail _ (List.Mem.head _)))) (z_load X (x := p) rfl (List.Mem.tail _ (List.Mem.tail _ (List.Mem.tail _ (List.Mem.tail _ (List.Mem.tail _ (List.Mem.tail _ (List.Mem.tail _ (List.Mem.tail _ (List.Mem.head _))))))))) (zcV_i1 X E 25 (As := [.int (Int32.ofInt xv), .int (Int32.ofInt p)]) (st := []) rfl rfl rfl rfl (c3_put3 G I jjPMJ (by first | exact ⟨hi.2.2.1.1, hi.2.2.1.2⟩ | omega) (by first | exact ⟨oq_ca54ea22 hi.2.2.2.2.2.1, oq_78c639ed g2004⟩ | omega)) rfl (Nat.le_of_ble_eq_true rfl) (fun s2012 e2013 Is2012 Fs2012 JPMJ_s2012 hrs2012 hps2012 => ?_))))))
            have Gs2012 := fm_tq F Fs2012 rfl rfl
            have JAIR_s2012 : AIR s2012 := AIR_fm Fs2012 (by decide) jjAIR
            have JCPL_s2012 : CPL s2012 := CPL_fm Fs2012 (by decide) jjCPL
            have JCDJ_s2012 : CDJ U s2012 := CDJ_fm Fs2012 (by decide) jjCDJ
            have ws2012_25 : iI s2012 25 = iI t 25 := fm_iq Fs2012 rfl
            have ws2012_26 : iI s2012 26 = iI t 26 := fm_iq Fs2012 rfl
            have ws2012_27 : iI s2012 27 = iI t 27 := fm_iq Fs2012 rfl
            have aws2012_36 : SAM 36 t s2012 := sam_ts (sam_rf (a := 36) (s := t)) (sam_fm Fs2012 (by decide))
            have aws2012_37 : SAM 37 t s2012 := sam_ts (sam_rf (a := 37) (s := t)) (sam_fm Fs2012 (by decide))
            have hP1 : pfC s2012 = upF (pfC s) (x : Int).toNat p := by obtain ⟨⟨r9, -, r2⟩, -, -⟩ := hq.1; rw [upf_upd hps2012.2, r2, show xv = x by first | exact hi.1.1 | (clear g2007; omega) | omega, upf_up]
            refine w_pop X.1 (ax_d X (show cdA 25 142 = some (.pop, 1, 0, 0, 0) from rfl)) rfl (z_aload_n X (x := A 41) rfl (List.Mem.tail _ (List.Mem.tail _ (List.Mem.head _))) (s_getR X 41 rfl (c518_ok rfl) rfl rfl (z_load X (x := p) rfl (List.Mem.tail _ (List.Mem.tail _ (List.Mem.tail _ (List.Mem.tail _ (List.Mem.tail _ (List.Mem.tail _ (List.Mem.tail _ (List.Mem.tail _ (List.Mem.head _))))))))) (z_zald X 45 rfl (c518_ok rfl) rfl (by first | exact hi.2.2.2.2.2.1 | omega) (show p < 8 by first | exact g2004 | omega) (cbig_ok rfl) ?_))))
            have b2014 := bc_38 Is2012 (show (p).toNat < 8 by first | exact oq_db4b3b8b g2004 | omega)
            refine z_if_ne X (t := 162) rfl rfl (rng_to _) (fun g2015 => ?_) (fun g2015 => ?_)
            ·
              as_aux_lemma =>
               have hH4 : HngT (pcS (upF (pfC s) (x : Int).toNat p) p) := new_wh (y := y) p0 hC (w := iC s 38 (p : Int).toNat) (by have z := jWHJ (p : Int).toNat (by first | exact oq_db4b3b8b g2004 | (clear g2015 g2007; omega) | (clear g2007; omega) | omega); rw [show (((p : Int).toNat : Nat) : Int) = p by first | exact oq_94c0d625 hi.2.2.2.2.2.1 | (clear g2015 g2007; omega) | (clear g2007; omega) | omega] at z; exact z) (by have z := (fm_c Gs2012 (by decide) : iC s2012 38 (p : Int).toNat = iC s 38 (p : Int).toNat); omega)
               refine z_aload_n X (x := A 41) rfl (List.Mem.tail _ (List.Mem.tail _ (List.Mem.head _))) (z_load X (x := p) rfl (List.Mem.tail _ (List.Mem.tail _ (List.Mem.tail _ (List.Mem.tail _ (List.Mem.tail _ (List.Mem.tail _ (List.Mem.tail _ (List.Mem.tail _ (List.Mem.head _))))))))) (zcV_i0 X E 41 (As := [.int (Int32.ofInt p)]) (st := []) rfl rfl rfl rfl (c2_weigh3 G Is2012 JAIR_s2012 JCPL_s2012 JCDJ_s2012 JPMJ_s2012 (by first | exact ⟨hi.2.2.2.2.2.1, oq_78c639ed g2004⟩ | omega)) rfl (Nat.le_of_ble_eq_true rfl) (fun s2016 e2017 Is2016 Fs2016 hrs2016 hps2016 => ?_)))
               have hps2016p := And.intro hps2016.1 (hps2016.2.1)
               have Gs2016 := fm_tq Gs2012 Fs2016 rfl rfl
               have JAIR_s2016 : AIR s2016 := AIR_fm Fs2016 (by decide) JAIR_s2012
               have JCPL_s2016 : CPL s2016 := CPL_fm Fs2016 (by decide) JCPL_s2012
               have JCDJ_s2016 : CDJ U s2016 := CDJ_fm Fs2016 (by decide) JCDJ_s2012
               have JPMJ_s2016 : PMJ s2016 := PMJ_fm Fs2016 (by decide) JPMJ_s2012
               have ws2016_25 : iI s2016 25 = iI s2012 25 := fm_iq Fs2016 rfl
               have ws2016_26 : iI s2016 26 = iI s2012 26 := fm_iq Fs2016 rfl
               have ws2016_27 : iI s2016 27 = iI s2012 27 := fm_iq Fs2016 rfl
               have hWp := hps2016
               rw [(show pfC s2012 = pfC s2012 from rfl), hP1] at hWp
               have hL8 : iC s2012 24 (p : Int).toNat = iC s 24 (p : Int).toNat := fm_c Gs2012 (by decide)
               have hU1 : UPD 36 p (pkH U (pcS (upF (pfC s) (x : Int).toNat p) p)) t s2016 := upd_st aws2012_36 hWp.1
               have hU2 : UPD 37 p (iaH (pcS (upF (pfC s) (x : Int).toNat p) p) (uW U) (uT U) (uN U)) t s2016 := upd_st aws2012_37 hWp.2.1
               have hP4 : pfC s2016 = upF (pfC s) (x : Int).toNat p := (show pfC s2016 = pfC s2012 from funext (fun j => fm_c Fs2016 (by decide))).trans ((show pfC s2012 = pfC s2012 from rfl).trans hP1)
               refine z_if_eq X (t := 182) rfl rfl hrs2016 (fun g2018 => ?_) (fun g2018 => ?_)
               ·
                 refine z_aload_n X (x := A 41) rfl (List.Mem.tail _ (List.Mem.tail _ (List.Mem.head _))) (s_getR X 41 rfl (c518_ok rfl) rfl rfl (z_load X (x := p) rfl (List.Mem.tail _ (List.Mem.tail _ (List.Mem.tail _ (List.Mem.tail _ (List.Mem.tail _ (List.Mem.tail _ (List.Mem.tail _ (List.Mem.tail _ (List.Mem.head _))))))))) (z_load X (x := (iC t 36 (p).toNat)) rfl (List.Mem.tail _ (List.Mem.head _)) (z_ast X 43 rfl (c518_ok rfl) rfl (by first | exact hi.2.2.2.2.2.1 | omega) (show p < 8 by first | exact g2004 | omega) (cbig_ok rfl) (wd_gen (fun s2019 hs2019 => ?_))))))
                 have Is2019 : Bd s2019 := eqB hs2019 (bd_C Is2016 (show ((-2147483648) : Int) ≤ (iC t 36 (p).toNat) ∧ (iC t 36 (p).toNat) ≤ 2147483647 by first | exact ⟨b2008.1, b2008.2⟩ | omega) (rng_to _))
                 have Fs2019 := eqF hs2019 (fm_C Gs2016 (inl_ok (a := 36) rfl))
                 have ws2019_25 : iI s2019 25 = iI s2016 25 := eqI hs2019 rfl
                 have ws2019_26 : iI s2019 26 = iI s2016 26 := eqI hs2019 rfl
                 have ws2019_27 : iI s2019 27 = iI s2016 27 := eqI hs2019 rfl
                 have aws2019_36 : UPD 36 (p) (iC t 36 (p).toNat) s2016 s2019 := by rw [hs2019]; exact upd_put (sam_rf (a := 36) (s := s2016)) (rng_to _)
                 have aws2019_37 : SAM 37 s2016 s2019 := by rw [hs2019]; exact sam_C (by decide) (sam_rf (a := 37) (s := s2016))
                 have fs2019 : Fm [] [36] s2016 s2019 := by rw [hs2019]; exact fm_C (fm_rf _ _ _) (show 36 ∈ _ by decide)
                 have JAIR_s2019 : AIR s2019 := AIR_fm fs2019 (by decide) JAIR_s2016
                 have JCPL_s2019 : CPL s2019 := CPL_fm fs2019 (by decide) JCPL_s2016
                 have JCDJ_s2019 : CDJ U s2019 := CDJ_fm fs2019 (by decide) JCDJ_s2016
                 have JPMJ_s2019 : PMJ s2019 := PMJ_fm fs2019 (by decide) JPMJ_s2016
                 refine z_aload_n X (x := A 41) rfl (List.Mem.tail _ (List.Mem.tail _ (List.Mem.head _))) (s_getR X 41 rfl (c518_ok rfl) rfl rfl (z_load X (x := p) rfl (List.Mem.tail _ (List.Mem.tail _ (List.Mem.tail _ (List.Mem.tail _ (List.Mem.tail _ (List.Mem.tail _ (List.Mem.tail _ (List.Mem.tail _ (List.Mem.head _))))))))) (z_load X (x := (iC t 37 (p).toNat)) rfl (List.Mem.head _) (z_ast X 44 rfl (c518_ok rfl) rfl (by first | exact hi.2.2.2.2.2.1 | omega) (show p < 8 by first | exact g2004 | omega) (cbig_ok rfl) (wd_gen (fun s2020 hs2020 => ?_))))))
                 have Is2020 : Bd s2020 := eqB hs2020 (bd_C Is2019 (show ((-2147483648) : Int) ≤ (iC t 37 (p).toNat) ∧ (iC t 37 (p).toNat) ≤ 2147483647 by first | exact ⟨b2010.1, b2010.2⟩ | omega) (rng_to _))
                 have Fs2020 := eqF hs2020 (fm_C Fs2019 (inl_ok (a := 37) rfl))
                 have ws2020_25 : iI s2020 25 = iI s2019 25 := eqI hs2020 rfl
                 have ws2020_26 : iI s2020 26 = iI s2019 26 := eqI hs2020 rfl
                 have ws2020_27 : iI s2020 27 = iI s2019 27 := eqI hs2020 rfl
                 have aws2020_36 : UPD 36 (p) (iC t 36 (p).toNat) s2016 s2020 := by rw [hs2020]; exact upd_C (by decide) aws2019_36
                 have aws2020_37 : UPD 37 (p) (iC t 37 (p).toNat) s2016 s2020 := by rw [hs2020]; exact upd_put aws2019_37 (rng_to _)
                 have fs2020 : Fm [] [37] s2019 s2020 := by rw [hs2020]; exact fm_C (fm_rf _ _ _) (show 37 ∈ _ by decide)
                 have JAIR_s2020 : AIR s2020 := AIR_fm fs2020 (by decide) JAIR_s2019
                 have JCPL_s2020 : CPL s2020 := CPL_fm fs2020 (by decide) JCPL_s2019
                 have JCDJ_s2020 : CDJ U s2020 := CDJ_fm fs2020 (by decide) JCDJ_s2019
                 have JPMJ_s2020 : PMJ s2020 := PMJ_fm fs2020 (by decide) JPMJ_s2019
                 refine z_inc X (x := p) (lv' := [(7, .int (Int32.ofInt (p + 1))), (9, .int (Int32.ofInt (iC t 37 (p).toNat))), (8, .int (Int32.ofInt (iC t 36 (p).toNat))), (0, .ref (A 41)), (1, .int (Int32.ofInt xv)), (2, .int (Int32.ofInt yv)), (3, .int (Int32.ofInt zv)), (5, .int (Int32.ofInt op)), (6, .int (Int32.ofInt ok))]) rfl (by decide) (List.Mem.tail _ (List.Mem.tail _ (List.Mem.tail _ (List.Mem.tail _ (List.Mem.tail _ (List.Mem.tail _ (List.Mem.tail _ (List.Mem.tail _ (List.Mem.head _))))))))) (fun _ h => h) (z_goto X (t := 98) rfl rfl (WS_pq [3, 4, 5, 6, 7, 8, 0] (lv' := [(0, .ref (A 41)), (1, .int (Int32.ofInt xv)), (2, .int (Int32.ofInt yv)), (3, .int (Int32.ofInt zv)), (5, .int (Int32.ofInt op)), (6, .int (Int32.ofInt ok)), (7, .int (Int32.ofInt (p + 1)))]) rfl ?_))
                 exact ih _ xv yv zv op ok (p + 1) Is2020 Fs2020 JAIR_s2020 JCPL_s2020 JCDJ_s2020 JPMJ_s2020 ⟨tch_n hq.1 (by first | exact And.intro (hi.2.2.2.2.2.1) (oq_78c639ed g2004) | (clear hps2016 g2015 g2007; omega) | (clear g2015 g2007; omega) | omega) ⟨p, by first | exact And.intro (oq_ca54ea22 hi.2.2.2.2.2.1) (oq_78c639ed g2004) | (clear hps2016 g2015 g2007; omega) | (clear g2015 g2007; omega) | omega, (show pfC s2020 = pfC s2016 from funext (fun j => by rw [hs2020, hs2019]; exact (iC_a (by decide)).trans (iC_a (by decide)))).trans hP4⟩ (upd_back hU1 aws2020_36 rfl) (upd_back hU2 aws2020_37 rfl) (by first | exact oq_ac0e91e1 ws2020_27 ws2019_27 ws2016_27 ws2012_27 | (clear hps2016 g2015 g2007; omega) | (clear g2015 g2007; omega) | omega) (by first | exact oq_ac0e91e1 ws2020_25 ws2019_25 ws2016_25 ws2012_25 | (clear hps2016 g2015 g2007; omega) | (clear g2015 g2007; omega) | omega) (by first | exact oq_ac0e91e1 ws2020_26 ws2019_26 ws2016_26 ws2012_26 | (clear hps2016 g2015 g2007; omega) | (clear g2015 g2007; omega) | omega) (fun h => by have z := h.2.2.2.2.2; replace z : _ ≤ iC s 24 (p : Int).toNat := z; omega), tcg_s hq.2 ((upd_back hU1 aws2020_36 rfl) _) ((upd_back hU2 aws2020_37 rfl) _)⟩ (by first | exact ⟨And.intro (hi.1.1) (And.intro (hi.1.2.1) (hi.1.2.2)), And.intro (hi.2.1.1) (hi.2.1.2), And.intro (hi.2.2.1.1) (hi.2.2.1.2), And.intro (hi.2.2.2.1.1) (hi.2.2.2.1.2), And.intro (hi.2.2.2.2.1.1) (hi.2.2.2.2.1.2), oq_54f49eb5 hi.2.2.2.2.2.1, oq_0c7b19c3 g2004, And.intro (hi.2.2.2.2.2.2.2.1.1) (hi.2.2.2.2.2.2.2.1.2), hi.2.2.2.2.2.2.2.2.1, hi.2.2.2.2.2.2.2.2.2⟩ | omega) (by first | exact qk_me hm (by decide) (oq_9f368f35 g2004) | exact oq_1ef5cbe1 g2004 hm | omega) kx
               ·
                 as_aux_lemma =>
                  have hG9 : goodF U (pfC s) (fun j => iC s 24 j) (x : Int).toNat p := good_of (by first | exact oq_c7f4e9c1 p0.2 | (clear g2018 hps2016 g2015 g2007; omega) | (clear hps2016 g2015 g2007; omega) | omega) hC.2.1 (by rw [hY]; omega) (tcg_old hq.2 (by first | exact p0.1 | (clear g2018 hps2016 g2015 g2007; omega) | (clear hps2016 g2015 g2007; omega) | omega) hY) hH4 (by show _ ≤ iC s 24 (p : Int).toNat; omega)
                  have hMQ : MEQ U (upF (pfC s) (x : Int).toNat p) 8 s2016 := mv_meq jMEJ p0 hY p1 (by first | exact And.intro (hi.2.2.2.2.2.1) (oq_78c639ed g2004) | (clear g2018 hps2016 g2015 g2007; omega) | (clear hps2016 g2015 g2007; omega) | omega) hC hq.1 hq.2 (fun j => fm_c Gs2016 (by decide)) hU1 hU2
                  refine z_aload_n X (x := A 41) rfl (List.Mem.tail _ (List.Mem.tail _ (List.Mem.head _))) (z_load_n X (x := xv) rfl (List.Mem.tail _ (List.Mem.tail _ (List.Mem.tail _ (List.Mem.head _)))) (z_load X (x := p) rfl (List.Mem.tail _ (List.Mem.tail _ (List.Mem.tail _ (List.Mem.tail _ (List.Mem.tail _ (List.Mem.tail _ (List.Mem.tail _ (List.Mem.tail _ (List.Mem.head _))))))))) (z_aload_n X (x := A 41) rfl (List.Mem.tail _ (List.Mem.tail _ (List.Mem.head _))) (zcV_i0 X E 41 (As := []) (st := [.int (Int32.ofInt p), .int (Int32.ofInt xv), .ref (A 41)]) rfl rfl rfl rfl (c2_price3 G Is2016 JAIR_s2016 JCDJ_s2016 ) rfl (Nat.le_of_ble_eq_true rfl) (fun s2021 e2022 Is2021 Fs2021 hrs2021 hps2021 => ?_)))))
                  have Gs2021 := fm_tq Gs2016 Fs2021 rfl rfl
                  have JAIR_s2021 : AIR s2021 := AIR_fm Fs2021 (by decide) JAIR_s2016
                  have JCPL_s2021 : CPL s2021 := CPL_fm Fs2021 (by decide) JCPL_s2016
                  have JCDJ_s2021 : CDJ U s2021 := CDJ_fm Fs2021 (by decide) JCDJ_s2016
                  have JPMJ_s2021 : PMJ s2021 := PMJ_fm Fs2021 (by decide) JPMJ_s2016
                  have ws2021_25 : iI s2021 25 = iI s2016 25 := fm_iq Fs2021 rfl
                  have ws2021_26 : iI s2021 26 = iI s2016 26 := fm_iq Fs2021 rfl
                  have ws2021_27 : iI s2021 27 = iI s2016 27 := fm_iq Fs2021 rfl
                  have aws2021_36 : SAM 36 s2016 s2021 := sam_ts (sam_rf (a := 36) (s := s2016)) (sam_fm Fs2021 (by decide))
                  have aws2021_37 : SAM 37 s2016 s2021 := sam_ts (sam_rf (a := 37) (s := s2016)) (sam_fm Fs2021 (by decide))
                  have hCS : CST U (upF (pfC s) (x : Int).toNat p) e2022 := pn_cst (u_wok JAIR_s2016 JCDJ_s2016) (upf_r (fun j hj => I0.2 21 j hj) (by first | exact And.intro (oq_ca54ea22 hi.2.2.2.2.2.1) (oq_78c639ed g2004) | (clear hps2021 g2018 hps2016 g2015 g2007; omega) | (clear g2018 hps2016 g2015 g2007; omega) | omega)) hMQ hps2021
                  refine zcV_v0 X E 41 (As := [.int (Int32.ofInt xv), .int (Int32.ofInt p), .int (Int32.ofInt e2022)]) (st := []) rfl rfl rfl rfl (c2_compare3 G Is2021 (by first | exact ⟨hi.2.2.1.1, hi.2.2.1.2⟩ | omega) (by first | exact ⟨hi.2.2.2.2.2.1, oq_78c639ed g2004⟩ | omega) (by first | exact And.intro (hrs2021.1) (hrs2021.2) | (clear hps2021 g2018 hps2016 g2015 g2007; omega) | (clear g2018 hps2016 g2015 g2007; omega) | omega)) rfl (Nat.le_of_ble_eq_true rfl) (fun s2023 Is2023 Fs2023 hps2023 => ?_)
                  have Gs2023 := fm_tq Gs2021 Fs2023 rfl rfl
                  have JAIR_s2023 : AIR s2023 := AIR_fm Fs2023 (by decide) JAIR_s2021
                  have JCPL_s2023 : CPL s2023 := CPL_fm Fs2023 (by decide) JCPL_s2021
                  have JCDJ_s2023 : CDJ U s2023 := CDJ_fm Fs2023 (by decide) JCDJ_s2021
                  have JPMJ_s2023 : PMJ s2023 := PMJ_fm Fs2023 (by decide) JPMJ_s2021
                  have b2025 := bi_25 Is2023
                  have b2026 := bi_26 Is2023
                  have b2027 := bi_27 Is2023
                  have aws2023_36 : SAM 36 s2016 s2023 := sam_ts aws2021_36 (sam_fm Fs2023 (by decide))
                  have aws2023_37 : SAM 37 s2016 s2023 := sam_ts aws2021_37 (sam_fm Fs2023 (by decide))
                  refine z_aload_n X (x := A 41) rfl (List.Mem.tail _ (List.Mem.tail _ (List.Mem.head _))) (s_getR X 41 rfl (c518_ok rfl) rfl rfl (z_load X (x := p) rfl (List.Mem.tail _ (List.Mem.tail _ (List.Mem.tail _ (List.Mem.tail _ (List.Mem.tail _ (List.Mem.tail _ (List.Mem.tail _ (List.Mem.tail _ (List.Mem.head _))))))))) (z_load X (x := (iC t 36 (p).toNat)) rfl (List.Mem.tail _ (List.Mem.head _)) (z_ast X 43 rfl (c518_ok rfl) rfl (by first | exact hi.2.2.2.2.2.1 | omega) (show p < 8 by first | exact g2004 | omega) (cbig_ok rfl) (wd_gen (fun s2028 hs2028 => ?_))))))
                  have Is2028 : Bd s2028 := eqB hs2028 (bd_C Is2023 (show ((-2147483648) : Int) ≤ (iC t 36 (p).toNat) ∧ (iC t 36 (p).toNat) ≤ 2147483647 by first | exact ⟨b2008.1, b2008.2⟩ | omega) (rng_to _))
                  have Fs2028 := eqF hs2028 (fm_C Gs2023 (inl_ok (a := 36) rfl))
                  have ws2028_25 : iI s2028 25 = iI s2023 25 := eqI hs2028 rfl
                  have ws2028_26 : iI s2028 26 = iI s2023 26 := eqI hs2028 rfl
                  have ws2028_27 : iI s2028 27 = iI s2023 27 := eqI hs2028 rfl
                  have aws2028_36 : UPD 36 (p) (iC t 36 (p).toNat) s2016 s2028 := by rw [hs2028]; exact upd_put aws2023_36 (rng_to _)
                  have aws2028_37 : SAM 37 s2016 s2028 := by rw [hs2028]; exact sam_C (by decide) aws2023_37
                  have fs2028 : Fm [] [36] s2023 s2028 := by rw [hs2028]; exact fm_C (fm_rf _ _ _) (show 36 ∈ _ by decide)
                  have JAIR_s2028 : AIR s2028 := AIR_fm fs2028 (by decide) JAIR_s2023
                  have JCPL_s2028 : CPL s2028 := CPL_fm fs2028 (by decide) JCPL_s2023
                  have JCDJ_s2028 : CDJ U s2028 := CDJ_fm fs2028 (by decide) JCDJ_s2023
                  have JPMJ_s2028 : PMJ s2028 := PMJ_fm fs2028 (by decide) JPMJ_s2023
                  refine z_aload_n X (x := A 41) rfl (List.Mem.tail _ (List.Mem.tail _ (List.Mem.head _))) (s_getR X 41 rfl (c518_ok rfl) rfl rfl (z_load X (x := p) rfl (List.Mem.tail _ (List.Mem.tail _ (List.Mem.tail _ (List.Mem.tail _ (List.Mem.tail _ (List.Mem.tail _ (List.Mem.tail _ (List.Mem.tail _ (List.Mem.head _))))))))) (z_load X (x := (iC t 37 (p).toNat)) rfl (List.Mem.head _) (z_ast X 44 rfl (c518_ok rfl) rfl (by first | exact hi.2.2.2.2.2.1 | omega) (show p < 8 by first | exact g2004 | omega) (cbig_ok rfl) (wd_gen (fun s2029 hs2029 => ?_))))))
                  have Is2029 : Bd s2029 := eqB hs2029 (bd_C Is2028 (show ((-2147483648) : Int) ≤ (iC t 37 (p).toNat) ∧ (iC t 37 (p).toNat) ≤ 2147483647 by first | exact ⟨b2010.1, b2010.2⟩ | omega) (rng_to _))
                  have Fs2029 := eqF hs2029 (fm_C Fs2028 (inl_ok (a := 37) rfl))
                  have ws2029_25 : iI s2029 25 = iI s2028 25 := eqI hs2029 rfl
                  have ws2029_26 : iI s2029 26 = iI s2028 26 := eqI hs2029 rfl
                  have ws2029_27 : iI s2029 27 = iI s2028 27 := eqI hs2029 rfl
                  have aws2029_36 : UPD 36 (p) (iC t 36 (p).toNat) s2016 s2029 := by rw [hs2029]; exact upd_C (by decide) aws2028_36
                  have aws2029_37 : UPD 37 (p) (iC t 37 (p).toNat) s2016 s2029 := by rw [hs2029]; exact upd_put aws2028_37 (rng_to _)
                  have fs2029 : Fm [] [37] s2028 s2029 := by rw [hs2029]; exact fm_C (fm_rf _ _ _) (show 37 ∈ _ by decide)
                  have JAIR_s2029 : AIR s2029 := AIR_fm fs2029 (by decide) JAIR_s2028
                  have JCPL_s2029 : CPL s2029 := CPL_fm fs2029 (by decide) JCPL_s2028
                  have JCDJ_s2029 : CDJ U s2029 := CDJ_fm fs2029 (by decide) JCDJ_s2028
                  have JPMJ_s2029 : PMJ s2029 := PMJ_fm fs2029 (by decide) JPMJ_s2028
                  refine z_inc X (x := p) (lv' := [(7, .int (Int32.ofInt (p + 1))), (9, .int (Int32.ofInt (iC t 37 (p).toNat))), (8, .int (Int32.ofInt (iC t 36 (p).toNat))), (0, .ref (A 41)), (1, .int (Int32.ofInt xv)), (2, .int (Int32.ofInt yv)), (3, .int (Int32.ofInt zv)), (5, .int (Int32.ofInt op)), (6, .int (Int32.ofInt ok))]) rfl (by decide) (List.Mem.tail _ (List.Mem.tail _ (List.Mem.tail _ (List.Mem.tail _ (List.Mem.tail _ (List.Mem.tail _ (List.Mem.tail _ (List.Mem.tail _ (List.Mem.head _))))))))) (fun _ h => h) (z_goto X (t := 98) rfl rfl (WS_pq [3, 4, 5, 6, 7, 8, 0] (lv' := [(0, .ref (A 41)), (1, .int (Int32.ofInt xv)), (2, .int (Int32.ofInt yv)), (3, .int (Int32.ofInt zv)), (5, .int (Int32.ofInt op)), (6, .int (Int32.ofInt ok)), (7, .int (Int32.ofInt (p + 1)))]) rfl ?_))
                  exact ih _ xv yv zv op ok (p + 1) Is2029 Fs2029 JAIR_s2029 JCPL_s2029 JCDJ_s2029 JPMJ_s2029 ⟨tch_y hq.1 (by first | exact p0.1 | (clear hps2023 hps2021 g2018 hps2016 g2015 g2007; omega) | (clear hps2021 g2018 hps2016 g2015 g2007; omega) | omega) (by first | exact And.intro (hi.2.2.2.2.2.1) (oq_78c639ed g2004) | (clear hps2023 hps2021 g2018 hps2016 g2015 g2007; omega) | (clear hps2021 g2018 hps2016 g2015 g2007; omega) | omega) ⟨p, by first | exact And.intro (oq_ca54ea22 hi.2.2.2.2.2.1) (oq_78c639ed g2004) | (clear hps2023 hps2021 g2018 hps2016 g2015 g2007; omega) | (clear hps2021 g2018 hps2016 g2015 g2007; omega) | omega, (show pfC s2029 = pfC s2023 from funext (fun j => by rw [hs2029, hs2028]; exact (iC_a (by decide)).trans (iC_a (by decide)))).trans ((show pfC s2023 = pfC s2016 from funext (fun j => (fm_c Fs2023 (by decide)).trans (fm_c Fs2021 (by decide)))).trans hP4)⟩ (upd_back hU1 aws2029_36 rfl) (upd_back hU2 aws2029_37 rfl) hC hG9 hCS (by first | exact oq_6fede409 ws2029_27 ws2029_26 ws2029_25 ws2028_27 ws2028_26 ws2028_25 hps2023 ws2021_27 ws2021_26 ws2021_25 ws2016_27 ws2016_26 ws2016_25 ws2012_27 ws2012_26 ws2012_25 hi.1.1 | (clear hps2023 hps2021 g2018 hps2016 g2015 g2007; omega) | (clear hps2021 g2018 hps2016 g2015 g2007; omega) | omega), tcg_s hq.2 ((upd_back hU1 aws2029_36 rfl) _) ((upd_back hU2 aws2029_37 rfl) _)⟩ (by first | exact ⟨And.intro (hi.1.1) (And.intro (hi.1.2.1) (hi.1.2.2)), And.intro (hi.2.1.1) (hi.2.1.2), And.intro (hi.2.2.1.1) (hi.2.2.1.2), And.intro (hi.2.2.2.1.1) (hi.2.2.2.1.2), And.intro (hi.2.2.2.2.1.1) (hi.2.2.2.2.1.2), oq_54f49eb5 hi.2.2.2.2.2.1, oq_0c7b19c3 g2004, And.intro (hi.2.2.2.2.2.2.2.1.1) (hi.2.2.2.2.2.2.2.1.2), hi.2.2.2.2.2.2.2.2.1, hi.2.2.2.2.2.2.2.2.2⟩ | omega) (by first | exact qk_me hm (by decide) (oq_9f368f35 g2004) | exact oq_1ef5cbe1 g2004 hm | omega) kx
            ·
              as_aux_lemma =>
               refine z_aload_n X (x := A 41) rfl (List.Mem.tail _ (List.Mem.tail _ (List.Mem.head _))) (z_load X (x := p) rfl (List.Mem.tail _ (List.Mem.tail _ (List.Mem.tail _ (List.Mem.tail _ (List.Mem.tail _ (List.Mem.tail _ (List.Mem.tail _ (List.Mem.tail _ (List.Mem.head _))))))))) (zcV_i0 X E 41 (As := [.int (Int32.ofInt p)]) (st := []) rfl rfl rfl rfl (c2_whole3 G Is2012 JPMJ_s2012 (by first | exact ⟨hi.2.2.2.2.2.1, oq_78c639ed g2004⟩ | omega)) rfl (Nat.le_of_ble_eq_true rfl) (fun s2030 e2031 Is2030 Fs2030 hrs2030 hps2030 => ?_)))
               have hps2030p := hps2030.2
               have Gs2030 := fm_tq Gs2012 Fs2030 rfl rfl
               have JAIR_s2030 : AIR s2030 := AIR_fm Fs2030 (by decide) JAIR_s2012
               have JCPL_s2030 : CPL s2030 := CPL_fm Fs2030 (by decide) JCPL_s2012
               have JCDJ_s2030 : CDJ U s2030 := CDJ_fm Fs2030 (by decide) JCDJ_s2012
               have JPMJ_s2030 : PMJ s2030 := PMJ_fm Fs2030 (by decide) JPMJ_s2012
               have ws2030_25 : iI s2030 25 = iI s2012 25 := fm_iq Fs2030 rfl
               have ws2030_26 : iI s2030 26 = iI s2012 26 := fm_iq Fs2030 rfl
               have ws2030_27 : iI s2030 27 = iI s2012 27 := fm_iq Fs2030 rfl
               have aws2030_36 : SAM 36 t s2030 := sam_ts aws2012_36 (sam_fm Fs2030 (by decide))
               have aws2030_37 : SAM 37 t s2030 := sam_ts aws2012_37 (sam_fm Fs2030 (by decide))
               have hH3 : HGE (pcS (upF (pfC s) (x : Int).toNat p) p) e2031 := by have z := hps2030.2; rw [hP1] at z; exact z
               refine z_if_eq X (t := 182) rfl rfl hrs2030 (fun g2032 => ?_) (fun g2032 => ?_)
               ·
                 refine z_aload_n X (x := A 41) rfl (List.Mem.tail _ (List.Mem.tail _ (List.Mem.head _))) (s_getR X 41 rfl (c518_ok rfl) rfl rfl (z_load X (x := p) rfl (List.Mem.tail _ (List.Mem.tail _ (List.Mem.tail _ (List.Mem.tail _ (List.Mem.tail _ (List.Mem.tail _ (List.Mem.tail _ (List.Mem.tail _ (List.Mem.head _))))))))) (z_load X (x := (iC t 36 (p).toNat)) rfl (List.Mem.tail _ (List.Mem.head _)) (z_ast X 43 rfl (c518_ok rfl) rfl (by first | exact hi.2.2.2.2.2.1 | omega) (show p < 8 by first | exact g2004 | omega) (cbig_ok rfl) (wd_gen (fun s2033 hs2033 => ?_))))))
                 have Is2033 : Bd s2033 := eqB hs2033 (bd_C Is2030 (show ((-2147483648) : Int) ≤ (iC t 36 (p).toNat) ∧ (iC t 36 (p).toNat) ≤ 2147483647 by first | exact ⟨b2008.1, b2008.2⟩ | omega) (rng_to _))
                 have Fs2033 := eqF hs2033 (fm_C Gs2030 (inl_ok (a := 36) rfl))
                 have ws2033_25 : iI s2033 25 = iI s2030 25 := eqI hs2033 rfl
                 have ws2033_26 : iI s2033 26 = iI s2030 26 := eqI hs2033 rfl
                 have ws2033_27 : iI s2033 27 = iI s2030 27 := eqI hs2033 rfl
                 have aws2033_36 : UPD 36 (p) (iC t 36 (p).toNat) t s2033 := by rw [hs2033]; exact upd_put aws2030_36 (rng_to _)
                 have aws2033_37 : SAM 37 t s2033 := by rw [hs2033]; exact sam_C (by decide) aws2030_37
                 have fs2033 : Fm [] [36] s2030 s2033 := by rw [hs2033]; exact fm_C (fm_rf _ _ _) (show 36 ∈ _ by decide)
                 have JAIR_s2033 : AIR s2033 := AIR_fm fs2033 (by decide) JAIR_s2030
                 have JCPL_s2033 : CPL s2033 := CPL_fm fs2033 (by decide) JCPL_s2030
                 have JCDJ_s2033 : CDJ U s2033 := CDJ_fm fs2033 (by decide) JCDJ_s2030
                 have JPMJ_s2033 : PMJ s2033 := PMJ_fm fs2033 (by decide) JPMJ_s2030
                 refine z_aload_n X (x := A 41) rfl (List.Mem.tail _ (List.Mem.tail _ (List.Mem.head _))) (s_getR X 41 rfl (c518_ok rfl) rfl rfl (z_load X (x := p) rfl (List.Mem.tail _ (List.Mem.tail _ (List.Mem.tail _ (List.Mem.tail _ (List.Mem.tail _ (List.Mem.tail _ (List.Mem.tail _ (List.Mem.tail _ (List.Mem.head _))))))))) (z_load X (x := (iC t 37 (p).toNat)) rfl (List.Mem.head _) (z_ast X 44 rfl (c518_ok rfl) rfl (by first | exact hi.2.2.2.2.2.1 | omega) (show p < 8 by first | exact g2004 | omega) (cbig_ok rfl) (wd_gen (fun s2034 hs2034 => ?_))))))
                 have Is2034 : Bd s2034 := eqB hs2034 (bd_C Is2033 (show ((-2147483648) : Int) ≤ (iC t 37 (p).toNat) ∧ (iC t 37 (p).toNat) ≤ 2147483647 by first | exact ⟨b2010.1, b2010.2⟩ | omega) (rng_to _))
                 have Fs2034 := eqF hs2034 (fm_C Fs2033 (inl_ok (a := 37) rfl))
                 have ws2034_25 : iI s2034 25 = iI s2033 25 := eqI hs2034 rfl
                 have ws2034_26 : iI s2034 26 = iI s2033 26 := eqI hs2034 rfl
                 have ws2034_27 : iI s2034 27 = iI s2033 27 := eqI hs2034 rfl
                 have aws2034_36 : UPD 36 (p) (iC t 36 (p).toNat) t s2034 := by rw [hs2034]; exact upd_C (by decide) aws2033_36
                 have aws2034_37 : UPD 37 (p) (iC t 37 (p).toNat) t s2034 := by rw [hs2034]; exact upd_put aws2033_37 (rng_to _)
                 have fs2034 : Fm [] [37] s2033 s2034 := by rw [hs2034]; exact fm_C (fm_rf _ _ _) (show 37 ∈ _ by decide)
                 have JAIR_s2034 : AIR s2034 := AIR_fm fs2034 (by decide) JAIR_s2033
                 have JCPL_s2034 : CPL s2034 := CPL_fm fs2034 (by decide) JCPL_s2033
                 have JCDJ_s2034 : CDJ U s2034 := CDJ_fm fs2034 (by decide) JCDJ_s2033
                 have JPMJ_s2034 : PMJ s2034 := PMJ_fm fs2034 (by decide) JPMJ_s2033
                 refine z_inc X (x := p) (lv' := [(7, .int (Int32.ofInt (p + 1))), (9, .int (Int32.ofInt (iC t 37 (p).toNat))), (8, .int (Int32.ofInt (iC t 36 (p).toNat))), (0, .ref (A 41)), (1, .int (Int32.ofInt xv)), (2, .int (Int32.ofInt yv)), (3, .int (Int32.ofInt zv)), (5, .int (Int32.ofInt op)), (6, .int (Int32.ofInt ok))]) rfl (by decide) (List.Mem.tail _ (List.Mem.tail _ (List.Mem.tail _ (List.Mem.tail _ (List.Mem.tail _ (List.Mem.tail _ (List.Mem.tail _ (List.Mem.tail _ (List.Mem.head _))))))))) (fun _ h => h) (z_goto X (t := 98) rfl rfl (WS_pq [3, 4, 5, 6, 7, 8, 0] (lv' := [(0, .ref (A 41)), (1, .int (Int32.ofInt xv)), (2, .int (Int32.ofInt yv)), (3, .int (Int32.ofInt zv)), (5, .int (Int32.ofInt op)), (6, .int (Int32.ofInt ok)), (7, .int (Int32.ofInt (p + 1)))]) rfl ?_))
                 exact ih _ xv yv zv op ok (p + 1) Is2034 Fs2034 JAIR_s2034 JCPL_s2034 JCDJ_s2034 JPMJ_s2034 ⟨tch_n hq.1 (by first | exact And.intro (hi.2.2.2.2.2.1) (oq_78c639ed g2004) | (clear hps2030 g2007; omega) | (clear g2007; omega) | omega) ⟨p, by first | exact And.intro (oq_ca54ea22 hi.2.2.2.2.2.1) (oq_78c639ed g2004) | (clear hps2030 g2007; omega) | (clear g2007; omega) | omega, (show pfC s2034 = pfC s2030 from funext (fun j => by rw [hs2034, hs2033]; exact (iC_a (by decide)).trans (iC_a (by decide)))).trans ((show pfC s2030 = pfC s2012 from funext (fun j => (fm_c Fs2030 (by decide)).trans (rfl))).trans hP1)⟩ (upd_same aws2034_36 rfl) (upd_same aws2034_37 rfl) (by first | exact oq_ac0e91e1 ws2034_27 ws2033_27 ws2030_27 ws2012_27 | (clear hps2030 g2007; omega) | (clear g2007; omega) | omega) (by first | exact oq_ac0e91e1 ws2034_25 ws2033_25 ws2030_25 ws2012_25 | (clear hps2030 g2007; omega) | (clear g2007; omega) | omega) (by first | exact oq_ac0e91e1 ws2034_26 ws2033_26 ws2030_26 ws2012_26 | (clear hps2030 g2007; omega) | (clear g2007; omega) | omega) (fun h => hH3.elim (fun w => absurd w.1 (by first | exact oq_417d0fef w.1 g2032 | (clear hps2030 g2007; omega) | (clear g2007; omega) | omega)) (fun w => w.2 h.2.2.2.1)), tcg_s hq.2 ((upd_same aws2034_36 rfl) _) ((upd_same aws2034_37 rfl) _)⟩ (by first | exact ⟨And.intro (hi.1.1) (And.intro (hi.1.2.1) (hi.1.2.2)), And.intro (hi.2.1.1) (hi.2.1.2), And.intro (hi.2.2.1.1) (hi.2.2.1.2), And.intro (hi.2.2.2.1.1) (hi.2.2.2.1.2), And.intro (hi.2.2.2.2.1.1) (hi.2.2.2.2.1.2), oq_54f49eb5 hi.2.2.2.2.2.1, oq_0c7b19c3 g2004, And.intro (hi.2.2.2.2.2.2.2.1.1) (hi.2.2.2.2.2.2.2.1.2), hi.2.2.2.2.2.2.2.2.1, hi.2.2.2.2.2.2.2.2.2⟩ | omega) (by first | exact qk_me hm (by decide) (oq_9f368f35 g2004) | exact oq_1ef5cbe1 g2004 hm | omega) kx
               ·
                 as_aux_lemma =>
                  have hH4 : HngT (pcS (upF (pfC s) (x : Int).toNat p) p) := hH3.elim (fun q => q.2) (fun q => absurd q.1 (by first | exact oq_28bfa4f0 q.1 g2032 | (clear g2032 hps2030 g2007; omega) | (clear hps2030 g2007; omega) | omega))
                  refine z_aload_n X (x := A 41) rfl (List.Mem.tail _ (List.Mem.tail _ (List.Mem.head _))) (z_load X (x := p) rfl (List.Mem.tail _ (List.Mem.tail _ (List.Mem.tail _ (List.Mem.tail _ (List.Mem.tail _ (List.Mem.tail _ (List.Mem.tail _ (List.Mem.tail _ (List.Mem.head _))))))))) (zcV_i0 X E 41 (As := [.int (Int32.ofInt p)]) (st := []) rfl rfl rfl rfl (c2_weigh3 G Is2030 JAIR_s2030 JCPL_s2030 JCDJ_s2030 JPMJ_s2030 (by first | exact ⟨hi.2.2.2.2.2.1, oq_78c639ed g2004⟩ | omega)) rfl (Nat.le_of_ble_eq_true rfl) (fun s2035 e2036 Is2035 Fs2035 hrs2035 hps2035 => ?_)))
                  have hps2035p := And.intro hps2035.1 (hps2035.2.1)
                  have Gs2035 := fm_tq Gs2030 Fs2035 rfl rfl
                  have JAIR_s2035 : AIR s2035 := AIR_fm Fs2035 (by decide) JAIR_s2030
                  have JCPL_s2035 : CPL s2035 := CPL_fm Fs2035 (by decide) JCPL_s2030
                  have JCDJ_s2035 : CDJ U s2035 := CDJ_fm Fs2035 (by decide) JCDJ_s2030
                  have JPMJ_s2035 : PMJ s2035 := PMJ_fm Fs2035 (by decide) JPMJ_s2030
                  have ws2035_25 : iI s2035 25 = iI s2030 25 := fm_iq Fs2035 rfl
                  have ws2035_26 : iI s2035 26 = iI s2030 26 := fm_iq Fs2035 rfl
                  have ws2035_27 : iI s2035 27 = iI s2030 27 := fm_iq Fs2035 rfl
                  have hWp := hps2035
                  rw [(show pfC s2030 = pfC s2012 from funext (fun j => fm_c Fs2030 (by decide))), hP1] at hWp
                  have hL8 : iC s2030 24 (p : Int).toNat = iC s 24 (p : Int).toNat := fm_c Gs2030 (by decide)
                  have hU1 : UPD 36 p (pkH U (pcS (upF (pfC s) (x : Int).toNat p) p)) t s2035 := upd_st aws2030_36 hWp.1
                  have hU2 : UPD 37 p (iaH (pcS (upF (pfC s) (x : Int).toNat p) p) (uW U) (uT U) (uN U)) t s2035 := upd_st aws2030_37 hWp.2.1
                  have hP4 : pfC s2035 = upF (pfC s) (x : Int).toNat p := (show pfC s2035 = pfC s2030 from funext (fun j => fm_c Fs2035 (by decide))).trans ((show pfC s2030 = pfC s2012 from funext (fun j => fm_c Fs2030 (by decide))).trans hP1)
                  refine z_if_eq X (t := 182) rfl rfl hrs2035 (fun g2037 => ?_) (fun g2037 => ?_)
                  ·
                    refine z_aload_n X (x := A 41) rfl (List.Mem.tail _ (List.Mem.tail _ (List.Mem.head _))) (s_getR X 41 rfl (c518_ok rfl) rfl rfl (z_load X (x := p) rfl (List.Mem.tail _ (List.Mem.tail _ (List.Mem.tail _ (List.Mem.tail _ (List.Mem.tail _ (List.Mem.tail _ (List.Mem.tail _ (List.Mem.tail _ (List.Mem.head _))))))))) (z_load X (x := (iC t 36 (p).toNat)) rfl (List.Mem.tail _ (List.Mem.head _)) (z_ast X 43 rfl (c518_ok rfl) rfl (by first | exact hi.2.2.2.2.2.1 | omega) (show p < 8 by first | exact g2004 | omega) (cbig_ok rfl) (wd_gen (fun s2038 hs2038 => ?_))))))
                    have Is2038 : Bd s2038 := eqB hs2038 (bd_C Is2035 (show ((-2147483648) : Int) ≤ (iC t 36 (p).toNat) ∧ (iC t 36 (p).toNat) ≤ 2147483647 by first | exact ⟨b2008.1, b2008.2⟩ | omega) (rng_to _))
                    have Fs2038 := eqF hs2038 (fm_C Gs2035 (inl_ok (a := 36) rfl))
                    have ws2038_25 : iI s2038 25 = iI s2035 25 := eqI hs2038 rfl
                    have ws2038_26 : iI s2038 26 = iI s2035 26 := eqI hs2038 rfl
                    have ws2038_27 : iI s2038 27 = iI s2035 27 := eqI hs2038 rfl
                    have aws2038_36 : UPD 36 (p) (iC t 36 (p).toNat) s2035 s2038 := by rw [hs2038]; exact upd_put (sam_rf (a := 36) (s := s2035)) (rng_to _)
                    have aws2038_37 : SAM 37 s2035 s2038 := by rw [hs2038]; exact sam_C (by decide) (sam_rf (a := 37) (s := s2035))
                    have fs2038 : Fm [] [36] s2035 s2038 := by rw [hs2038]; exact fm_C (fm_rf _ _ _) (show 36 ∈ _ by decide)
                    have JAIR_s2038 : AIR s2038 := AIR_fm fs2038 (by decide) JAIR_s2035
                    have JCPL_s2038 : CPL s2038 := CPL_fm fs2038 (by decide) JCPL_s2035
                    have JCDJ_s2038 : CDJ U s2038 := CDJ_fm fs2038 (by decide) JCDJ_s2035
                    have JPMJ_s2038 : PMJ s2038 := PMJ_fm fs2038 (by decide) JPMJ_s2035
                    refine z_aload_n X (x := A 41) rfl (List.Mem.tail _ (List.Mem.tail _ (List.Mem.head _))) (s_getR X 41 rfl (c518_ok rfl) rfl rfl (z_load X (x := p) rfl (List.Mem.tail _ (List.Mem.tail _ (List.Mem.tail _ (List.Mem.tail _ (List.Mem.tail _ (List.Mem.tail _ (List.Mem.tail _ (List.Mem.tail _ (List.Mem.head _))))))))) (z_load X (x := (iC t 37 (p).toNat)) rfl (List.Mem.head _) (z_ast X 44 rfl (c518_ok rfl) rfl (by first | exact hi.2.2.2.2.2.1 | omega) (show p < 8 by first | exact g2004 | omega) (cbig_ok rfl) (wd_gen (fun s2039 hs2039 => ?_))))))
                    have Is2039 : Bd s2039 := eqB hs2039 (bd_C Is2038 (show ((-2147483648) : Int) ≤ (iC t 37 (p).toNat) ∧ (iC t 37 (p).toNat) ≤ 2147483647 by first | exact ⟨b2010.1, b2010.2⟩ | omega) (rng_to _))
                    have Fs2039 := eqF hs2039 (fm_C Fs2038 (inl_ok (a := 37) rfl))
                    have ws2039_25 : iI s2039 25 = iI s2038 25 := eqI hs2039 rfl
                    have ws2039_26 : iI s2039 26 = iI s2038 26 := eqI hs2039 rfl
                    have ws2039_27 : iI s2039 27 = iI s2038 27 := eqI hs2039 rfl
                    have aws2039_36 : UPD 36 (p) (iC t 36 (p).toNat) s2035 s2039 := by rw [hs2039]; exact upd_C (by decide) aws2038_36
                    have aws2039_37 : UPD 37 (p) (iC t 37 (p).toNat) s2035 s2039 := by rw [hs2039]; exact upd_put aws2038_37 (rng_to _)
                    have fs2039 : Fm [] [37] s2038 s2039 := by rw [hs2039]; exact fm_C (fm_rf _ _ _) (show 37 ∈ _ by decide)
                    have JAIR_s2039 : AIR s2039 := AIR_fm fs2039 (by decide) JAIR_s2038
                    have JCPL_s2039 : CPL s2039 := CPL_fm fs2039 (by decide) JCPL_s2038
                    have JCDJ_s2039 : CDJ U s2039 := CDJ_fm fs2039 (by decide) JCDJ_s2038
                    have JPMJ_s2039 : PMJ s2039 := PMJ_fm fs2039 (by decide) JPMJ_s2038
                    refine z_inc X (x := p) (lv' := [(7, .int (Int32.ofInt (p + 1))), (9, .int (Int32.ofInt (iC t 37 (p).toNat))), (8, .int (Int32.ofInt (iC t 36 (p).toNat))), (0, .ref (A 41)), (1, .int (Int32.ofInt xv)), (2, .int (Int32.ofInt yv)), (3, .int (Int32.ofInt zv)), (5, .int (Int32.ofInt op)), (6, .int (Int32.ofInt ok))]) rfl (by decide) (List.Mem.tail _ (List.Mem.tail _ (List.Mem.tail _ (List.Mem.tail _ (List.Mem.tail _ (List.Mem.tail _ (List.Mem.tail _ (List.Mem.tail _ (List.Mem.head _))))))))) (fun _ h => h) (z_goto X (t := 98) rfl rfl (WS_pq [3, 4, 5, 6, 7, 8, 0] (lv' := [(0, .ref (A 41)), (1, .int (Int32.ofInt xv)), (2, .int (Int32.ofInt yv)), (3, .int (Int32.ofInt zv)), (5, .int (Int32.ofInt op)), (6, .int (Int32.ofInt ok)), (7, .int (Int32.ofInt (p + 1)))]) rfl ?_))
                    exact ih _ xv yv zv op ok (p + 1) Is2039 Fs2039 JAIR_s2039 JCPL_s2039 JCDJ_s2039 JPMJ_s2039 ⟨tch_n hq.1 (by first | exact And.intro (hi.2.2.2.2.2.1) (oq_78c639ed g2004) | (clear hps2035 g2032 hps2030 g2007; omega) | (clear g2032 hps2030 g2007; omega) | omega) ⟨p, by first | exact And.intro (oq_ca54ea22 hi.2.2.2.2.2.1) (oq_78c639ed g2004) | (clear hps2035 g2032 hps2030 g2007; omega) | (clear g2032 hps2030 g2007; omega) | omega, (show pfC s2039 = pfC s2035 from funext (fun j => by rw [hs2039, hs2038]; exact (iC_a (by decide)).trans (iC_a (by decide)))).trans hP4⟩ (upd_back hU1 aws2039_36 rfl) (upd_back hU2 aws2039_37 rfl) (by first | exact oq_469c7eaf ws2039_27 ws2038_27 ws2035_27 ws2030_27 ws2012_27 | (clear hps2035 g2032 hps2030 g2007; omega) | (clear g2032 hps2030 g2007; omega) | omega) (by first | exact oq_469c7eaf ws2039_25 ws2038_25 ws2035_25 ws2030_25 ws2012_25 | (clear hps2035 g2032 hps2030 g2007; omega) | (clear g2032 hps2030 g2007; omega) | omega) (by first | exact oq_469c7eaf ws2039_26 ws2038_26 ws2035_26 ws2030_26 ws2012_26 | (clear hps2035 g2032 hps2030 g2007; omega) | (clear g2032 hps2030 g2007; omega) | omega) (fun h => by have z := h.2.2.2.2.2; replace z : _ ≤ iC s 24 (p : Int).toNat := z; omega), tcg_s hq.2 ((upd_back hU1 aws2039_36 rfl) _) ((upd_back hU2 aws2039_37 rfl) _)⟩ (by first | exact ⟨And.intro (hi.1.1) (And.intro (hi.1.2.1) (hi.1.2.2)), And.intro (hi.2.1.1) (hi.2.1.2), And.intro (hi.2.2.1.1) (hi.2.2.1.2), And.intro (hi.2.2.2.1.1) (hi.2.2.2.1.2), And.intro (hi.2.2.2.2.1.1) (hi.2.2.2.2.1.2), oq_54f49eb5 hi.2.2.2.2.2.1, oq_0c7b19c3 g2004, And.intro (hi.2.2.2.2.2.2.2.1.1) (hi.2.2.2.2.2.2.2.1.2), hi.2.2.2.2.2.2.2.2.1, hi.2.2.2.2.2.2.2.2.2⟩ | omega) (by first | exact qk_me hm (by decide) (oq_9f368f35 g2004) | exact oq_1ef5cbe1 g2004 hm | omega) kx
                  ·
                    as_aux_lemma =>
                     have hG9 : goodF U (pfC s) (fun j => iC s 24 j) (x : Int).toNat p := good_of (by first | exact oq_c7f4e9c1 p0.2 | (clear g2037 hps2035 g2032 hps2030 g2007; omega) | (clear hps2035 g2032 hps2030 g2007; omega) | omega) hC.2.1 (by rw [hY]; omega) (tcg_old hq.2 (by first | exact p0.1 | (clear g2037 hps2035 g2032 hps2030 g2007; omega) | (clear hps2035 g2032 hps2030 g2007; omega) | omega) hY) hH4 (by show _ ≤ iC s 24 (p : Int).toNat; omega)
                     have hMQ : MEQ U (upF (pfC s) (x : Int).toNat p) 8 s2035 := mv_meq jMEJ p0 hY p1 (by first | exact And.intro (hi.2.2.2.2.2.1) (oq_78c639ed g2004) | (clear g2037 hps2035 g2032 hps2030 g2007; omega) | (clear hps2035 g2032 hps2030 g2007; omega) | omega) hC hq.1 hq.2 (fun j => fm_c Gs2035 (by decide)) hU1 hU2
                     refine z_aload_n X (x := A 41) rfl (List.Mem.tail _ (List.Mem.tail _ (List.Mem.head _))) (z_load_n X (x := xv) rfl (List.Mem.tail _ (List.Mem.tail _ (List.Mem.tail _ (List.Mem.head _)))) (z_load X (x := p) rfl (List.Mem.tail _ (List.Mem.tail _ (List.Mem.tail _ (List.Mem.tail _ (List.Mem.tail _ (List.Mem.tail _ (List.Mem.tail _ (List.Mem.tail _ (List.Mem.head _))))))))) (z_aload_n X (x := A 41) rfl (List.Mem.tail _ (List.Mem.tail _ (List.Mem.head _))) (zcV_i0 X E 41 (As := []) (st := [.int (Int32.ofInt p), .int (Int32.ofInt xv), .ref (A 41)]) rfl rfl rfl rfl (c2_price3 G Is2035 JAIR_s2035 JCDJ_s2035 ) rfl (Nat.le_of_ble_eq_true rfl) (fun s2040 e2041 Is2040 Fs2040 hrs2040 hps2040 => ?_)))))
                     have Gs2040 := fm_tq Gs2035 Fs2040 rfl rfl
                     have JAIR_s2040 : AIR s2040 := AIR_fm Fs2040 (by decide) JAIR_s2035
                     have JCPL_s2040 : CPL s2040 := CPL_fm Fs2040 (by decide) JCPL_s2035
                     have JCDJ_s2040 : CDJ U s2040 := CDJ_fm Fs2040 (by decide) JCDJ_s2035
                     have JPMJ_s2040 : PMJ s2040 := PMJ_fm Fs2040 (by decide) JPMJ_s2035
                     have ws2040_25 : iI s2040 25 = iI s2035 25 := fm_iq Fs2040 rfl
                     have ws2040_26 : iI s2040 26 = iI s2035 26 := fm_iq Fs2040 rfl
                     have ws2040_27 : iI s2040 27 = iI s2035 27 := fm_iq Fs2040 rfl
                     have aws2040_36 : SAM 36 s2035 s2040 := sam_ts (sam_rf (a := 36) (s := s2035)) (sam_fm Fs2040 (by decide))
                     have aws2040_37 : SAM 37 s2035 s2040 := sam_ts (sam_rf (a := 37) (s := s2035)) (sam_fm Fs2040 (by decide))
                     have hCS : CST U (upF (pfC s) (x : Int).toNat p) e2041 := pn_cst (u_wok JAIR_s2035 JCDJ_s2035) (upf_r (fun j hj => I0.2 21 j hj) (by first | exact And.intro (oq_ca54ea22 hi.2.2.2.2.2.1) (oq_78c639ed g2004) | (clear hps2040 g2037 hps2035 g2032 hps2030 g2007; omega) | (clear g2037 hps2035 g2032 hps2030 g2007; omega) | omega)) hMQ hps2040
                     refine zcV_v0 X E 41 (As := [.int (Int32.ofInt xv), .int (Int32.ofInt p), .int (Int32.ofInt e2041)]) (st := []) rfl rfl rfl rfl (c2_compare3 G Is2040 (by first | exact ⟨hi.2.2.1.1, hi.2.2.1.2⟩ | omega) (by first | exact ⟨hi.2.2.2.2.2.1, oq_78c639ed g2004⟩ | omega) (by first | exact And.intro (hrs2040.1) (hrs2040.2) | (clear hps2040 g2037 hps2035 g2032 hps2030 g2007; omega) | (clear g2037 hps2035 g2032 hps2030 g2007; omega) | omega)) rfl (Nat.le_of_ble_eq_true rfl) (fun s2042 Is2042 Fs2042 hps2042 => ?_)
                     have Gs2042 := fm_tq Gs2040 Fs2042 rfl rfl
                     have JAIR_s2042 : AIR s2042 := AIR_fm Fs2042 (by decide) JAIR_s2040
                     have JCPL_s2042 : CPL s2042 := CPL_fm Fs2042 (by decide) JCPL_s2040
                     have JCDJ_s2042 : CDJ U s2042 := CDJ_fm Fs2042 (by decide) JCDJ_s2040
                     have JPMJ_s2042 : PMJ s2042 := PMJ_fm Fs2042 (by decide) JPMJ_s2040
                     have b2044 := bi_25 Is2042
                     have b2045 := bi_26 Is2042
                     have b2046 := bi_27 Is2042
                     have aws2042_36 : SAM 36 s2035 s2042 := sam_ts aws2040_36 (sam_fm Fs2042 (by decide))
                     have aws2042_37 : SAM 37 s2035 s2042 := sam_ts aws2040_37 (sam_fm Fs2042 (by decide))
                     refine z_aload_n X (x := A 41) rfl (List.Mem.tail _ (List.Mem.tail _ (List.Mem.head _))) (s_getR X 41 rfl (c518_ok rfl) rfl rfl (z_load X (x := p) rfl (List.Mem.tail _ (List.Mem.tail _ (List.Mem.tail _ (List.Mem.tail _ (List.Mem.tail _ (List.Mem.tail _ (List.Mem.tail _ (List.Mem.tail _ (List.Mem.head _))))))))) (z_load X (x := (iC t 36 (p).toNat)) rfl (List.Mem.tail _ (List.Mem.head _)) (z_ast X 43 rfl (c518_ok rfl) rfl (by first | exact hi.2.2.2.2.2.1 | omega) (show p < 8 by first | exact g2004 | omega) (cbig_ok rfl) (wd_gen (fun s2047 hs2047 => ?_))))))
                     have Is2047 : Bd s2047 := eqB hs2047 (bd_C Is2042 (show ((-2147483648) : Int) ≤ (iC t 36 (p).toNat) ∧ (iC t 36 (p).toNat) ≤ 2147483647 by first | exact ⟨b2008.1, b2008.2⟩ | omega) (rng_to _))
                     have Fs2047 := eqF hs2047 (fm_C Gs2042 (inl_ok (a := 36) rfl))
                     have ws2047_25 : iI s2047 25 = iI s2042 25 := eqI hs2047 rfl
                     have ws2047_26 : iI s2047 26 = iI s2042 26 := eqI hs2047 rfl
                     have ws2047_27 : iI s2047 27 = iI s2042 27 := eqI hs2047 rfl
                     have aws2047_36 : UPD 36 (p) (iC t 36 (p).toNat) s2035 s2047 := by rw [hs2047]; exact upd_put aws2042_36 (rng_to _)
                     have aws2047_37 : SAM 37 s2035 s2047 := by rw [hs2047]; exact sam_C (by decide) aws2042_37
                     have fs2047 : Fm [] [36] s2042 s2047 := by rw [hs2047]; exact fm_C (fm_rf _ _ _) (show 36 ∈ _ by decide)
                     have JAIR_s2047 : AIR s2047 := AIR_fm fs2047 (by decide) JAIR_s2042
                     have JCPL_s2047 : CPL s2047 := CPL_fm fs2047 (by decide) JCPL_s2042
                     have JCDJ_s2047 : CDJ U s2047 := CDJ_fm fs2047 (by decide) JCDJ_s2042
                     have JPMJ_s2047 : PMJ s2047 := PMJ_fm fs2047 (by decide) JPMJ_s2042
                     refine z_aload_n X (x := A 41) rfl (List.Mem.tail _ (List.Mem.tail _ (List.Mem.head _))) (s_getR X 41 rfl (c518_ok rfl) rfl rfl (z_load X (x := p) rfl (List.Mem.tail _ (List.Mem.tail _ (List.Mem.tail _ (List.Mem.tail _ (List.Mem.tail _ (List.Mem.tail _ (List.Mem.tail _ (List.Mem.tail _ (List.Mem.head _))))))))) (z_load X (x := (iC t 37 (p).toNat)) rfl (List.Mem.head _) (z_ast X 44 rfl (c518_ok rfl) rfl (by first | exact hi.2.2.2.2.2.1 | omega) (show p < 8 by first | exact g2004 | omega) (cbig_ok rfl) (wd_gen (fun s2048 hs2048 => ?_))))))
                     have Is2048 : Bd s2048 := eqB hs2048 (bd_C Is2047 (show ((-2147483648) : Int) ≤ (iC t 37 (p).toNat) ∧ (iC t 37 (p).toNat) ≤ 2147483647 by first | exact ⟨b2010.1, b2010.2⟩ | omega) (rng_to _))
                     have Fs2048 := eqF hs2048 (fm_C Fs2047 (inl_ok (a := 37) rfl))
                     have ws2048_25 : iI s2048 25 = iI s2047 25 := eqI hs2048 rfl
                     have ws2048_26 : iI s2048 26 = iI s2047 26 := eqI hs2048 rfl
                     have ws2048_27 : iI s2048 27 = iI s2047 27 := eqI hs2048 rfl
                     have aws2048_36 : UPD 36 (p) (iC t 36 (p).toNat) s2035 s2048 := by rw [hs2048]; exact upd_C (by decide) aws2047_36
                     have aws2048_37 : UPD 37 (p) (iC t 37 (p).toNat) s2035 s2048 := by rw [hs2048]; exact upd_put aws2047_37 (rng_to _)
                     have fs2048 : Fm [] [37] s2047 s2048 := by rw [hs2048]; exact fm_C (fm_rf _ _ _) (show 37 ∈ _ by decide)
                     have JAIR_s2048 : AIR s2048 := AIR_fm fs2048 (by decide) JAIR_s2047
                     have JCPL_s2048 : CPL s2048 := CPL_fm fs2048 (by decide) JCPL_s2047
                     have JCDJ_s2048 : CDJ U s2048 := CDJ_fm fs2048 (by decide) JCDJ_s2047
                     have JPMJ_s2048 : PMJ s2048 := PMJ_fm fs2048 (by decide) JPMJ_s2047
                     refine z_inc X (x := p) (lv' := [(7, .int (Int32.ofInt (p + 1))), (9, .int (Int32.ofInt (iC t 37 (p).toNat))), (8, .int (Int32.ofInt (iC t 36 (p).toNat))), (0, .ref (A 41)), (1, .int (Int32.ofInt xv)), (2, .int (Int32.ofInt yv)), (3, .int (Int32.ofInt zv)), (5, .int (Int32.ofInt op)), (6, .int (Int32.ofInt ok))]) rfl (by decide) (List.Mem.tail _ (List.Mem.tail _ (List.Mem.tail _ (List.Mem.tail _ (List.Mem.tail _ (List.Mem.tail _ (List.Mem.tail _ (List.Mem.tail _ (List.Mem.head _))))))))) (fun _ h => h) (z_goto X (t := 98) rfl rfl (WS_pq [3, 4, 5, 6, 7, 8, 0] (lv' := [(0, .ref (A 41)), (1, .int (Int32.ofInt xv)), (2, .int (Int32.ofInt yv)), (3, .int (Int32.ofInt zv)), (5, .int (Int32.ofInt op)), (6, .int (Int32.ofInt ok)), (7, .int (Int32.ofInt (p + 1)))]) rfl ?_))
                     exact ih _ xv yv zv op ok (p + 1) Is2048 Fs2048 JAIR_s2048 JCPL_s2048 JCDJ_s2048 JPMJ_s2048 ⟨tch_y hq.1 (by first | exact p0.1 | (clear hps2042 hps2040 g2037 hps2035 g2032 hps2030 g2007; omega) | (clear hps2040 g2037 hps2035 g2032 hps2030 g2007; omega) | omega) (by first | exact And.intro (hi.2.2.2.2.2.1) (oq_78c639ed g2004) | (clear hps2042 hps2040 g2037 hps2035 g2032 hps2030 g2007; omega) | (clear hps2040 g2037 hps2035 g2032 hps2030 g2007; omega) | omega) ⟨p, by first | exact And.intro (oq_ca54ea22 hi.2.2.2.2.2.1) (oq_78c639ed g2004) | (clear hps2042 hps2040 g2037 hps2035 g2032 hps2030 g2007; omega) | (clear hps2040 g2037 hps2035 g2032 hps2030 g2007; omega) | omega, (show pfC s2048 = pfC s2042 from funext (fun j => by rw [hs2048, hs2047]; exact (iC_a (by decide)).trans (iC_a (by decide)))).trans ((show pfC s2042 = pfC s2035 from funext (fun j => (fm_c Fs2042 (by decide)).trans (fm_c Fs2040 (by decide)))).trans hP4)⟩ (upd_back hU1 aws2048_36 rfl) (upd_back hU2 aws2048_37 rfl) hC hG9 hCS (by first | exact oq_6b4c78f0 ws2048_27 ws2048_26 ws2048_25 ws2047_27 ws2047_26 ws2047_25 hps2042 ws2040_27 ws2040_26 ws2040_25 ws2035_27 ws2035_26 ws2035_25 ws2030_27 ws2030_26 ws2030_25 ws2012_27 ws2012_26 ws2012_25 hi.1.1 | (clear hps2042 hps2040 g2037 hps2035 g2032 hps2030 g2007; omega) | (clear hps2040 g2037 hps2035 g2032 hps2030 g2007; omega) | omega), tcg_s hq.2 ((upd_back hU1 aws2048_36 rfl) _) ((upd_back hU2 aws2048_37 rfl) _)⟩ (by first | exact ⟨And.intro (hi.1.1) (And.intro (hi.1.2.1) (hi.1.2.2)), And.intro (hi.2.1.1) (hi.2.1.2), And.intro (hi.2.2.1.1) (hi.2.2.1.2), And.intro (hi.2.2.2.1.1) (hi.2.2.2.1.2), And.intro (hi.2.2.2.2.1.1) (hi.2.2.2.2.1.2), oq_54f49eb5 hi.2.2.2.2.2.1, oq_0c7b19c3 g2004, And.intro (hi.2.2.2.2.2.2.2.1.1) (hi.2.2.2.2.2.2.2.1.2), hi.2.2.2.2.2.2.2.2.1, hi.2.2.2.2.2.2.2.2.2⟩ | omega) (by first | exact qk_me hm (by decide) (oq_9f368f35 g2004) | exact oq_1ef5cbe1 g2004 hm | omega) kx
  refine z_aload_n X (x := A 41) rfl (List.Mem.head _) (s_getR X 41 rfl (c518_ok rfl) rfl rfl (z_load_n X (x := y) rfl (List.Mem.tail _ (List.Mem.tail _ (List.Mem.head _))) (z_zald X 45 rfl (c518_ok rfl) rfl (by first | exact p1.1 | omega) (show y < 8 by first | exact oq_aaea290e p1.2 | omega) (cbig_ok rfl) ?_)))
  have b4 := bc_38 I (show (y).toNat < 8 by first | exact oq_c19a3aae p1.2 | omega)
  refine z_if_eq X (t := 25) rfl rfl (rng_to _) (fun g5 => ?_) (fun g5 => ?_)
  ·
    as_aux_lemma =>
     refine z_const X rfl (z_store X (lv' := [(4, .int (Int32.ofInt 0)), (0, .ref (A 41)), (1, .int (Int32.ofInt x)), (2, .int (Int32.ofInt y)), (3, .int (Int32.ofInt z))]) rfl (by decide) (fun _ h => h) (z_aload_n X (x := A 41) rfl (List.Mem.tail _ (List.Mem.head _)) (s_getR X 41 rfl (c518_ok rfl) rfl rfl (z_load_n X (x := y) rfl (List.Mem.tail _ (List.Mem.tail _ (List.Mem.tail _ (List.Mem.head _)))) (z_ald X 43 rfl (c518_ok rfl) rfl (by first | exact p1.1 | omega) (show y < 8 by first | exact oq_aaea290e p1.2 | omega) (cbig_ok rfl) ?_)))))
     have b6 := bc_36 I (show (y).toNat < 8 by first | exact oq_c19a3aae p1.2 | omega)
     have ar7 : iC s 36 (y).toNat = iC s 36 (y).toNat := aw0_36 _
     refine z_store X (lv' := [(5, .int (Int32.ofInt (iC s 36 (y).toNat))), (4, .int (Int32.ofInt 0)), (0, .ref (A 41)), (1, .int (Int32.ofInt x)), (2, .int (Int32.ofInt y)), (3, .int (Int32.ofInt z))]) rfl (by decide) (fun _ h => h) (z_aload_n X (x := A 41) rfl (List.Mem.tail _ (List.Mem.tail _ (List.Mem.head _))) (s_getR X 41 rfl (c518_ok rfl) rfl rfl (z_load_n X (x := y) rfl (List.Mem.tail _ (List.Mem.tail _ (List.Mem.tail _ (List.Mem.tail _ (List.Mem.head _))))) (z_ald X 44 rfl (c518_ok rfl) rfl (by first | exact p1.1 | omega) (show y < 8 by first | exact oq_aaea290e p1.2 | omega) (cbig_ok rfl) ?_))))
     have b8 := bc_37 I (show (y).toNat < 8 by first | exact oq_c19a3aae p1.2 | omega)
     have ar9 : iC s 37 (y).toNat = iC s 37 (y).toNat := aw0_37 _
     refine z_store X (lv' := [(6, .int (Int32.ofInt (iC s 37 (y).toNat))), (5, .int (Int32.ofInt (iC s 36 (y).toNat))), (4, .int (Int32.ofInt 0)), (0, .ref (A 41)), (1, .int (Int32.ofInt x)), (2, .int (Int32.ofInt y)), (3, .int (Int32.ofInt z))]) rfl (by decide) (fun _ h => h) (z_aload_n X (x := A 41) rfl (List.Mem.tail _ (List.Mem.tail _ (List.Mem.tail _ (List.Mem.head _)))) (s_getR X 41 rfl (c518_ok rfl) rfl rfl (z_load_n X (x := x) rfl (List.Mem.tail _ (List.Mem.tail _ (List.Mem.tail _ (List.Mem.tail _ (List.Mem.head _))))) (z_const X rfl (zcV_i1 X E 25 (As := [.int (Int32.ofInt x), .int (Int32.ofInt (-1))]) (st := []) rfl rfl rfl rfl (c3_put3 G I jPMJ (by first | exact ⟨p0.1, p0.2⟩ | omega) (by first | exact ⟨by decide, by decide⟩ | omega)) rfl (Nat.le_of_ble_eq_true rfl) (fun s10 e11 Is10 Fs10 JPMJ_s10 hrs10 hps10 => ?_))))))
     have Gs10 := fm_tq F Fs10 rfl rfl
     have JAIR_s10 : AIR s10 := AIR_fm Fs10 (by decide) jAIR
     have JCPL_s10 : CPL s10 := CPL_fm Fs10 (by decide) jCPL
     have JCDJ_s10 : CDJ U s10 := CDJ_fm Fs10 (by decide) jCDJ
     have ws10_25 : iI s10 25 = iI s 25 := fm_iq Fs10 rfl
     have ws10_26 : iI s10 26 = iI s 26 := fm_iq Fs10 rfl
     have ws10_27 : iI s10 27 = iI s 27 := fm_iq Fs10 rfl
     have aws10_36 : SAM 36 s s10 := sam_ts aw0_36 (sam_fm Fs10 (by decide))
     have aws10_37 : SAM 37 s s10 := sam_ts aw0_37 (sam_fm Fs10 (by decide))
     have aws10_24 : SAM 24 s s10 := sam_ts aw0_24 (sam_fm Fs10 (by decide))
     have hP0 : pfC s10 = upF (pfC s) (x : Int).toNat (-1) := by rw [← (funext aw0_21 : pfC s = pfC s)]; exact upf_upd hps10.2
     have hO0 : pcS (pfC s10) y = oldS s x y := by rw [hP0]; exact old_eq p0 hY (by first | exact oq_8dac520e p1.1 | omega)
     refine w_pop X.1 (ax_d X (show cdA 25 53 = some (.pop, 1, 0, 0, 0) from rfl)) rfl (z_load X (x := 0) rfl (List.Mem.tail _ (List.Mem.tail _ (List.Mem.head _))) (z_if_ne X (t := 206) rfl rfl (by decide) (fun g12 => ?_) (fun g12 => ?_)))
     ·
       exfalso
       omega
     ·
       as_aux_lemma =>
        refine z_aload_n X (x := A 41) rfl (List.Mem.tail _ (List.Mem.tail _ (List.Mem.tail _ (List.Mem.head _)))) (s_getR X 41 rfl (c518_ok rfl) rfl rfl (z_load_n X (x := y) rfl (List.Mem.tail _ (List.Mem.tail _ (List.Mem.tail _ (List.Mem.tail _ (List.Mem.tail _ (List.Mem.head _)))))) (z_callV X 25 (rm := rmN 30) (As := [.int (Int32.ofInt y)]) (st := []) rfl rfl (by decide) rfl (by rw [E.1, E.2.1, E.2.2.1]; exact c3_has3 G Is10 JPMJ_s10 (by first | exact ⟨p1.1, p1.2⟩ | omega)) ⟨by rw [E.2.2.2]; exact (show (rmN 30).frames + 1 ≤ (rmN 25).frames by decide), by rw [E.2.2.2]; exact (show 8 + (mNL (miB 30) + 11) + (rmN 30).locals ≤ (rmN 25).locals by decide), by rw [E.2.2.2]; exact (show 0 + (rmN 30).cells ≤ (rmN 25).cells by decide), by rw [E.2.2.2]; exact (show 0 + (rmN 30).slots ≤ (rmN 25).slots by decide)⟩ (Nat.le_of_ble_eq_true rfl) (fun vv s13 hq => ?_) (fun ee s13 hq => ?_))))
        rotate_left
        · obtain ⟨rfl, e14, hv, hrs13, hps13⟩ := hq; cases hv
        obtain ⟨rfl, e14, hv, hrs13, hps13⟩ := hq
        have hps13p := hps13.2
        cases hv
        show WS k 67 [(6, .int (Int32.ofInt (iC s 37 (y).toNat))), (5, .int (Int32.ofInt (iC s 36 (y).toNat))), (4, .int (Int32.ofInt 0)), (0, .ref (A 41)), (1, .int (Int32.ofInt x)), (2, .int (Int32.ofInt y)), (3, .int (Int32.ofInt z))] [.int (Int32.ofInt e14)] (Wd A dT s10) 0 0
        refine z_if_eq X (t := 206) rfl rfl hrs13 (fun g15 => ?_) (fun g15 => ?_)
        ·
          refine WS_pq [3, 4, 5, 1, 0] (lv' := [(0, .ref (A 41)), (1, .int (Int32.ofInt x)), (2, .int (Int32.ofInt y)), (5, .int (Int32.ofInt (iC s 36 (y).toNat))), (6, .int (Int32.ofInt (iC s 37 (y).toNat)))]) rfl ?_
          exact L206 _ x y (iC s 36 (y).toNat) (iC s 37 (y).toNat) Is10 Gs10 JAIR_s10 JCPL_s10 JCDJ_s10 JPMJ_s10 (tch_j ⟨(-1), by first | exact And.intro (oq_bac6f319) (oq_80d0328e) | (clear hps13; omega) | omega, hP0⟩ (fun j _ => ⟨aws10_36 j, aws10_37 j⟩) p5 p0 hY (by first | exact p1.1 | (clear hps13; omega) | omega) (fun q => by have z := hps13.2; rw [hO0] at z; exact z.elim (fun w => absurd w.1 (by first | exact oq_417d0fef w.1 g15 | (clear hps13; omega) | omega)) (fun w => w.2 q.1)) (by first | exact ws10_27 | (clear hps13; omega) | omega) (by first | exact ws10_25 | (clear hps13; omega) | omega) (by first | exact ws10_26 | (clear hps13; omega) | omega)) (by first | exact ⟨And.intro (by decide) (by decide), by decide, by decide, And.intro (b6.1) (b6.2), b8.1, b8.2⟩ | exact And.intro (And.intro (rfl) (rfl)) (And.intro (ar7) (And.intro (ar9) (And.intro (And.intro (b6.1) (b6.2)) (And.intro (b8.1) (b8.2))))) | omega)
        ·
          have hE1 : ∃ c, oldS s x y c := by have z := hps13.2; rw [hO0] at z; exact z.elim (fun q => q.2) (fun q => absurd q.1 (by first | exact oq_28bfa4f0 q.1 g15 | (clear g15 hps13; omega) | (clear hps13; omega) | omega))
          refine z_aload_n X (x := A 41) rfl (List.Mem.tail _ (List.Mem.tail _ (List.Mem.tail _ (List.Mem.head _)))) (s_getR X 41 rfl (c518_ok rfl) rfl rfl (z_load_n X (x := y) rfl (List.Mem.tail _ (List.Mem.tail _ (List.Mem.tail _ (List.Mem.tail _ (List.Mem.tail _ (List.Mem.head _)))))) (z_zald X 45 rfl (c518_ok rfl) rfl (by first | exact p1.1 | omega) (show y < 8 by first | exact oq_aaea290e p1.2 | omega) (cbig_ok rfl) ?_)))
          have b16 := bc_38 Is10 (show (y).toNat < 8 by first | exact oq_c19a3aae p1.2 | omega)
          have hWo : iC s10 38 (y : Int).toNat = iC s 38 (y : Int).toNat := fm_c Gs10 (by decide)
          refine z_if_ne X (t := 87) rfl rfl (rng_to _) (fun g17 => ?_) (fun g17 => ?_)
          ·
            exfalso
            omega
          ·
            as_aux_lemma =>
             refine z_aload_n X (x := A 41) rfl (List.Mem.tail _ (List.Mem.tail _ (List.Mem.tail _ (List.Mem.head _)))) (z_load_n X (x := y) rfl (List.Mem.tail _ (List.Mem.tail _ (List.Mem.tail _ (List.Mem.tail _ (List.Mem.tail _ (List.Mem.head _)))))) (zcV_i0 X E 41 (As := [.int (Int32.ofInt y)]) (st := []) rfl rfl rfl rfl (c2_whole3 G Is10 JPMJ_s10 (by first | exact ⟨p1.1, p1.2⟩ | omega)) rfl (Nat.le_of_ble_eq_true rfl) (fun s18 e19 Is18 Fs18 hrs18 hps18 => ?_)))
             have hps18p := hps18.2
             have Gs18 := fm_tq Gs10 Fs18 rfl rfl
             have JAIR_s18 : AIR s18 := AIR_fm Fs18 (by decide) JAIR_s10
             have JCPL_s18 : CPL s18 := CPL_fm Fs18 (by decide) JCPL_s10
             have JCDJ_s18 : CDJ U s18 := CDJ_fm Fs18 (by decide) JCDJ_s10
             have JPMJ_s18 : PMJ s18 := PMJ_fm Fs18 (by decide) JPMJ_s10
             have ws18_25 : iI s18 25 = iI s10 25 := fm_iq Fs18 rfl
             have ws18_26 : iI s18 26 = iI s10 26 := fm_iq Fs18 rfl
             have ws18_27 : iI s18 27 = iI s10 27 := fm_iq Fs18 rfl
             have aws18_36 : SAM 36 s s18 := sam_ts aws10_36 (sam_fm Fs18 (by decide))
             have aws18_37 : SAM 37 s s18 := sam_ts aws10_37 (sam_fm Fs18 (by decide))
             have aws18_24 : SAM 24 s s18 := sam_ts aws10_24 (sam_fm Fs18 (by decide))
             have hH1 : HGE (oldS s x y) e19 := by have z := hps18.2; rw [show pfC s10 = pfC s10 from rfl, hO0] at z; exact z
             have hP9 : pfC s18 = upF (pfC s) (x : Int).toNat (-1) := (show pfC s18 = pfC s10 from funext (fun j => fm_c Fs18 (by decide))).trans hP0
             refine z_if_eq X (t := 206) rfl rfl hrs18 (fun g20 => ?_) (fun g20 => ?_)
             ·
               refine WS_pq [3, 4, 5, 1, 0] (lv' := [(0, .ref (A 41)), (1, .int (Int32.ofInt x)), (2, .int (Int32.ofInt y)), (5, .int (Int32.ofInt (iC s 36 (y).toNat))), (6, .int (Int32.ofInt (iC s 37 (y).toNat)))]) rfl ?_
               exact L206 _ x y (iC s 36 (y).toNat) (iC s 37 (y).toNat) Is18 Gs18 JAIR_s18 JCPL_s18 JCDJ_s18 JPMJ_s18 (tch_j ⟨(-1), by first | exact And.intro (oq_bac6f319) (oq_80d0328e) | (clear hps18 g15 hps13; omega) | (clear g15 hps13; omega) | omega, hP9⟩ (fun j _ => ⟨aws18_36 j, aws18_37 j⟩) p5 p0 hY (by first | exact p1.1 | (clear hps18 g15 hps13; omega) | (clear g15 hps13; omega) | omega) (fun q => hH1.elim (fun w => absurd w.1 (by first | exact oq_417d0fef w.1 g20 | (clear hps18 g15 hps13; omega) | (clear g15 hps13; omega) | omega)) (fun w => w.2 q.2.1)) (by first | exact oq_1aa5be9e ws18_27 ws10_27 | (clear hps18 g15 hps13; omega) | (clear g15 hps13; omega) | omega) (by first | exact oq_1aa5be9e ws18_25 ws10_25 | (clear hps18 g15 hps13; omega) | (clear g15 hps13; omega) | omega) (by first | exact oq_1aa5be9e ws18_26 ws10_26 | (clear hps18 g15 hps13; omega) | (clear g15 hps13; omega) | omega)) (by first | exact ⟨And.intro (by decide) (by decide), by decide, by decide, And.intro (b6.1) (b6.2), b8.1, b8.2⟩ | exact And.intro (And.intro (rfl) (rfl)) (And.intro (ar7) (And.intro (ar9) (And.intro (And.intro (b6.1) (b6.2)) (And.intro (b8.1) (b8.2))))) | omega)
             ·
               as_aux_lemma =>
                have hH2 : HngT (oldS s x y) := hH1.elim (fun q => q.2) (fun q => absurd q.1 (by first | exact oq_28bfa4f0 q.1 g20 | (clear g20 hps18 g15 hps13; omega) | (clear hps18 g15 hps13; omega) | omega))
                refine z_aload_n X (x := A 41) rfl (List.Mem.tail _ (List.Mem.tail _ (List.Mem.tail _ (List.Mem.head _)))) (z_load_n X (x := y) rfl (List.Mem.tail _ (List.Mem.tail _ (List.Mem.tail _ (List.Mem.tail _ (List.Mem.tail _ (List.Mem.head _)))))) (zcV_i0 X E 41 (As := [.int (Int32.ofInt y)]) (st := []) rfl rfl rfl rfl (c2_weigh3 G Is18 JAIR_s18 JCPL_s18 JCDJ_s18 JPMJ_s18 (by first | exact ⟨p1.1, p1.2⟩ | omega)) rfl (Nat.le_of_ble_eq_true rfl) (fun s21 e22 Is21 Fs21 hrs21 hps21 => ?_)))
                have hps21p := And.intro hps21.1 (hps21.2.1)
                have Gs21 := fm_tq Gs18 Fs21 rfl rfl
                have JAIR_s21 : AIR s21 := AIR_fm Fs21 (by decide) JAIR_s18
                have JCPL_s21 : CPL s21 := CPL_fm Fs21 (by decide) JCPL_s18
                have JCDJ_s21 : CDJ U s21 := CDJ_fm Fs21 (by decide) JCDJ_s18
                have JPMJ_s21 : PMJ s21 := PMJ_fm Fs21 (by decide) JPMJ_s18
                have ws21_25 : iI s21 25 = iI s18 25 := fm_iq Fs21 rfl
                have ws21_26 : iI s21 26 = iI s18 26 := fm_iq Fs21 rfl
                have ws21_27 : iI s21 27 = iI s18 27 := fm_iq Fs21 rfl
                have aws21_24 : SAM 24 s s21 := sam_ts aws18_24 (sam_fm Fs21 (by decide))
                have hP2 : pfC s18 = pfC s10 := funext (fun j => fm_c Fs18 (by decide))
                have hWg := hps21
                rw [hP2, hO0] at hWg
                have hP3 : pfC s21 = upF (pfC s) (x : Int).toNat (-1) := (show pfC s21 = pfC s18 from funext (fun j => fm_c Fs21 (by decide))).trans (hP2.trans hP0)
                have hL9 : iC s18 24 (y : Int).toNat = iC s 24 (y : Int).toNat := aws18_24 _
                refine z_if_eq X (t := 206) rfl rfl hrs21 (fun g23 => ?_) (fun g23 => ?_)
                ·
                  refine WS_pq [3, 4, 5, 1, 0] (lv' := [(0, .ref (A 41)), (1, .int (Int32.ofInt x)), (2, .int (Int32.ofInt y)), (5, .int (Int32.ofInt (iC s 36 (y).toNat))), (6, .int (Int32.ofInt (iC s 37 (y).toNat)))]) rfl ?_
                  exact L206 _ x y (iC s 36 (y).toNat) (iC s 37 (y).toNat) Is21 Gs21 JAIR_s21 JCPL_s21 JCDJ_s21 JPMJ_s21 (tch_j ⟨(-1), by first | exact And.intro (oq_bac6f319) (oq_80d0328e) | (clear hps21 g20 hps18 g15 hps13; omega) | (clear g20 hps18 g15 hps13; omega) | omega, hP3⟩ (fun j hj => ⟨(hWg.1.2 j (by first | exact oq_9791b9df hj p1.1 | (clear hps21 g20 hps18 g15 hps13; omega) | (clear g20 hps18 g15 hps13; omega) | omega)).trans (aws18_36 j), (hWg.2.1.2 j (by first | exact oq_9791b9df hj p1.1 | (clear hps21 g20 hps18 g15 hps13; omega) | (clear g20 hps18 g15 hps13; omega) | omega)).trans (aws18_37 j)⟩) p5 p0 hY (by first | exact p1.1 | (clear hps21 g20 hps18 g15 hps13; omega) | (clear g20 hps18 g15 hps13; omega) | omega) (fun q => by have z := q.2.2; omega) (by first | exact oq_878618b1 ws21_27 ws18_27 ws10_27 | (clear hps21 g20 hps18 g15 hps13; omega) | (clear g20 hps18 g15 hps13; omega) | omega) (by first | exact oq_878618b1 ws21_25 ws18_25 ws10_25 | (clear hps21 g20 hps18 g15 hps13; omega) | (clear g20 hps18 g15 hps13; omega) | omega) (by first | exact oq_878618b1 ws21_26 ws18_26 ws10_26 | (clear hps21 g20 hps18 g15 hps13; omega) | (clear g20 hps18 g15 hps13; omega) | omega)) (by first | exact ⟨And.intro (by decide) (by decide), by decide, by decide, And.intro (b6.1) (b6.2), b8.1, b8.2⟩ | exact And.intro (And.intro (rfl) (rfl)) (And.intro (ar7) (And.intro (ar9) (And.intro (And.intro (b6.1) (b6.2)) (And.intro (b8.1) (b8.2))))) | omega)
                ·
                  as_aux_lemma =>
                   refine z_const X rfl (z_store X (lv' := [(7, .int (Int32.ofInt 0)), (6, .int (Int32.ofInt (iC s 37 (y).toNat))), (5, .int (Int32.ofInt (iC s 36 (y).toNat))), (4, .int (Int32.ofInt 0)), (0, .ref (A 41)), (1, .int (Int32.ofInt x)), (2, .int (Int32.ofInt y)), (3, .int (Int32.ofInt z))]) rfl (by decide) (fun _ h => h) (WS_pq [4, 5, 6, 7, 2, 1, 0] (lv' := [(0, .ref (A 41)), (1, .int (Int32.ofInt x)), (2, .int (Int32.ofInt y)), (3, .int (Int32.ofInt z)), (5, .int (Int32.ofInt (iC s 36 (y).toNat))), (6, .int (Int32.ofInt (iC s 37 (y).toNat))), (7, .int (Int32.ofInt 0))]) rfl (L98 ((8 - 0 : Int).toNat + 1) s21 x y z (iC s 36 (y).toNat) (iC s 37 (y).toNat) 0 Is21 Gs21 JAIR_s21 JCPL_s21 JCDJ_s21 JPMJ_s21 ⟨⟨⟨(-1), by first | exact And.intro (oq_bac6f319) (oq_80d0328e) | (clear g23 hps21 g20 hps18 g15 hps13; omega) | (clear hps21 g20 hps18 g15 hps13; omega) | omega, hP3⟩, (fun j hj => ⟨(hWg.1.2 j (by first | exact oq_9791b9df hj p1.1 | (clear g23 hps21 g20 hps18 g15 hps13; omega) | (clear hps21 g20 hps18 g15 hps13; omega) | omega)).trans (aws18_36 j), (hWg.2.1.2 j (by first | exact oq_9791b9df hj p1.1 | (clear g23 hps21 g20 hps18 g15 hps13; omega) | (clear hps21 g20 hps18 g15 hps13; omega) | omega)).trans (aws18_37 j)⟩), bst_s p5 (by first | exact oq_878618b1 ws21_27 ws18_27 ws10_27 | (clear g23 hps21 g20 hps18 g15 hps13; omega) | (clear hps21 g20 hps18 g15 hps13; omega) | omega) (by first | exact oq_878618b1 ws21_25 ws18_25 ws10_25 | (clear g23 hps21 g20 hps18 g15 hps13; omega) | (clear hps21 g20 hps18 g15 hps13; omega) | omega) (by first | exact oq_878618b1 ws21_26 ws18_26 ws10_26 | (clear g23 hps21 g20 hps18 g15 hps13; omega) | (clear hps21 g20 hps18 g15 hps13; omega) | omega)⟩, ⟨hWg.1.1, hWg.2.1.1⟩, hE1, hH2, by first | exact oq_382224ae g23 hL9 hWg.2.2 | (clear g23 hps21 g20 hps18 g15 hps13; omega) | (clear hps21 g20 hps18 g15 hps13; omega) | omega⟩ (by first | exact ⟨And.intro (by decide) (And.intro (by decide) (by decide)), And.intro (by decide) (by decide), And.intro (p0.1) (p0.2), And.intro (p1.1) (p1.2), And.intro (p2.1) (p2.2), by decide, by decide, And.intro (b6.1) (b6.2), b8.1, b8.2⟩ | exact And.intro (And.intro (rfl) (And.intro (rfl) (rfl))) (And.intro (And.intro (ar7) (ar9)) (And.intro (And.intro (p0.1) (p0.2)) (And.intro (And.intro (p1.1) (p1.2)) (And.intro (And.intro (p2.1) (p2.2)) (And.intro (oq_0fe6b7e2) (And.intro (oq_1ed47a9a) (And.intro (And.intro (b6.1) (b6.2)) (And.intro (b8.1) (b8.2))))))))) | omega) (Nat.lt_succ_self _) ?_)))
                   intro s24 x25 Is24 Fs24 JAIR_s24 JCPL_s24 JCDJ_s24 JPMJ_s24 Qs24 hs24
                   have b26 := bi_25 Is24
                   have b27 := bi_26 Is24
                   have b28 := bi_27 Is24
                   refine WS_pq [0, 1, 2, 4, 5] (lv' := [(0, .ref (A 41)), (1, .int (Int32.ofInt x)), (2, .int (Int32.ofInt y)), (5, .int (Int32.ofInt (iC s 36 (y).toNat))), (6, .int (Int32.ofInt (iC s 37 (y).toNat)))]) rfl ?_
                   exact L206 _ x y (iC s 36 (y).toNat) (iC s 37 (y).toNat) Is24 Fs24 JAIR_s24 JCPL_s24 JCDJ_s24 JPMJ_s24 (by have z := Qs24.1; rw [show (x25).toNat = 8 by first | exact oq_4cfd06af hs24.2.2.1 | (clear g23 hps21 g20 hps18 g15 hps13; omega) | (clear hps21 g20 hps18 g15 hps13; omega) | omega] at z; exact z) (by first | exact ⟨And.intro (by decide) (by decide), by decide, by decide, And.intro (hs24.2.2.2.1.1) (hs24.2.2.2.1.2), hs24.2.2.2.2.1, hs24.2.2.2.2.2⟩ | exact And.intro (And.intro (hs24.1.1) (hs24.1.2)) (And.intro (hs24.2.1.1) (And.intro (hs24.2.1.2) (And.intro (And.intro (hs24.2.2.2.1.1) (hs24.2.2.2.1.2)) (And.intro (hs24.2.2.2.2.1) (hs24.2.2.2.2.2))))) | omega)
  ·
    as_aux_lemma =>
     have hW9 : iC s 38 (y : Int).toNat ≠ 0 := by first | exact g5 | (clear g5; omega) | omega
     refine z_aload_n X (x := A 41) rfl (List.Mem.head _) (s_getR X 41 rfl (c518_ok rfl) rfl rfl (z_load_n X (x := y) rfl (List.Mem.tail _ (List.Mem.tail _ (List.Mem.head _))) (z_load_n X (x := x) rfl (List.Mem.tail _ (List.Mem.head _)) (zcV_i0 X E 25 (As := [.int (Int32.ofInt y), .int (Int32.ofInt x)]) (st := []) rfl rfl rfl rfl (c3_without3 G I (by first | exact ⟨p1.1, p1.2⟩ | omega) (by first | exact ⟨p0.1, p0.2⟩ | omega)) rfl (Nat.le_of_ble_eq_true rfl) (fun s29 e30 Is29 Fs29 hrs29 hps29 => ?_)))))
     have hps29p := hps29.2
     have Gs29 := fm_tq F Fs29 rfl rfl
     have JAIR_s29 : AIR s29 := AIR_fm Fs29 (by decide) jAIR
     have JCPL_s29 : CPL s29 := CPL_fm Fs29 (by decide) jCPL
     have JCDJ_s29 : CDJ U s29 := CDJ_fm Fs29 (by decide) jCDJ
     have JPMJ_s29 : PMJ s29 := PMJ_fm Fs29 (by decide) jPMJ
     have ws29_25 : iI s29 25 = iI s 25 := fm_iq Fs29 rfl
     have ws29_26 : iI s29 26 = iI s 26 := fm_iq Fs29 rfl
     have ws29_27 : iI s29 27 = iI s 27 := fm_iq Fs29 rfl
     have aws29_21 : SAM 21 s s29 := sam_ts aw0_21 (sam_fm Fs29 (by decide))
     have aws29_36 : SAM 36 s s29 := sam_ts aw0_36 (sam_fm Fs29 (by decide))
     have aws29_37 : SAM 37 s s29 := sam_ts aw0_37 (sam_fm Fs29 (by decide))
     have aws29_24 : SAM 24 s s29 := sam_ts aw0_24 (sam_fm Fs29 (by decide))
     have hAP := apt_no p0 hY hW hW9 (by rw [← pm_eq (p := y) jPMJ (by first | exact And.intro (p1.1) (p1.2) | (clear hps29 g5; omega) | (clear g5; omega) | omega)]; exact hps29.2)
     refine z_if_ne X (t := 25) rfl rfl hrs29 (fun g31 => ?_) (fun g31 => ?_)
     ·
       refine z_const X rfl (z_store X (lv' := [(4, .int (Int32.ofInt 0)), (0, .ref (A 41)), (1, .int (Int32.ofInt x)), (2, .int (Int32.ofInt y)), (3, .int (Int32.ofInt z))]) rfl (by decide) (fun _ h => h) (z_aload_n X (x := A 41) rfl (List.Mem.tail _ (List.Mem.head _)) (s_getR X 41 rfl (c518_ok rfl) rfl rfl (z_load_n X (x := y) rfl (List.Mem.tail _ (List.Mem.tail _ (List.Mem.tail _ (List.Mem.head _)))) (z_ald X 43 rfl (c518_ok rfl) rfl (by first | exact p1.1 | omega) (show y < 8 by first | exact oq_aaea290e p1.2 | omega) (cbig_ok rfl) ?_)))))
       have b32 := bc_36 Is29 (show (y).toNat < 8 by first | exact oq_c19a3aae p1.2 | omega)
       have ar33 : iC s29 36 (y).toNat = iC s 36 (y).toNat := aws29_36 _
       refine z_store X (lv' := [(5, .int (Int32.ofInt (iC s29 36 (y).toNat))), (4, .int (Int32.ofInt 0)), (0, .ref (A 41)), (1, .int (Int32.ofInt x)), (2, .int (Int32.ofInt y)), (3, .int (Int32.ofInt z))]) rfl (by decide) (fun _ h => h) (z_aload_n X (x := A 41) rfl (List.Mem.tail _ (List.Mem.tail _ (List.Mem.head _))) (s_getR X 41 rfl (c518_ok rfl) rfl rfl (z_load_n X (x := y) rfl (List.Mem.tail _ (List.Mem.tail _ (List.Mem.tail _ (List.Mem.tail _ (List.Mem.head _))))) (z_ald X 44 rfl (c518_ok rfl) rfl (by first | exact p1.1 | omega) (show y < 8 by first | exact oq_aaea290e p1.2 | omega) (cbig_ok rfl) ?_))))
       have b34 := bc_37 Is29 (show (y).toNat < 8 by first | exact oq_c19a3aae p1.2 | omega)
       have ar35 : iC s29 37 (y).toNat = iC s 37 (y).toNat := aws29_37 _
       refine z_store X (lv' := [(6, .int (Int32.ofInt (iC s29 37 (y).toNat))), (5, .int (Int32.ofInt (iC s29 36 (y).toNat))), (4, .int (Int32.ofInt 0)), (0, .ref (A 41)), (1, .int (Int32.ofInt x)), (2, .int (Int32.ofInt y)), (3, .int (Int32.ofInt z))]) rfl (by decide) (fun _ h => h) (z_aload_n X (x := A 41) rfl (List.Mem.tail _ (List.Mem.tail _ (List.Mem.tail _ (List.Mem.head _)))) (s_getR X 41 rfl (c518_ok rfl) rfl rfl (z_load_n X (x := x) rfl (List.Mem.tail _ (List.Mem.tail _ (List.Mem.tail _ (List.Mem.tail _ (List.Mem.head _))))) (z_const X rfl (zcV_i1 X E 25 (As := [.int (Int32.ofInt x), .int (Int32.ofInt (-1))]) (st := []) rfl rfl rfl rfl (c3_put3 G Is29 JPMJ_s29 (by first | exact ⟨p0.1, p0.2⟩ | omega) (by first | exact ⟨by decide, by decide⟩ | omega)) rfl (Nat.le_of_ble_eq_true rfl) (fun s36 e37 Is36 Fs36 JPMJ_s36 hrs36 hps36 => ?_))))))
       have Gs36 := fm_tq Gs29 Fs36 rfl rfl
       have JAIR_s36 : AIR s36 := AIR_fm Fs36 (by decide) JAIR_s29
       have JCPL_s36 : CPL s36 := CPL_fm Fs36 (by decide) JCPL_s29
       have JCDJ_s36 : CDJ U s36 := CDJ_fm Fs36 (by decide) JCDJ_s29
       have ws36_25 : iI s36 25 = iI s29 25 := fm_iq Fs36 rfl
       have ws36_26 : iI s36 26 = iI s29 26 := fm_iq Fs36 rfl
       have ws36_27 : iI s36 27 = iI s29 27 := fm_iq Fs36 rfl
       have aws36_36 : SAM 36 s s36 := sam_ts aws29_36 (sam_fm Fs36 (by decide))
       have aws36_37 : SAM 37 s s36 := sam_ts aws29_37 (sam_fm Fs36 (by decide))
       have aws36_24 : SAM 24 s s36 := sam_ts aws29_24 (sam_fm Fs36 (by decide))
       have hP0 : pfC s36 = upF (pfC s) (x : Int).toNat (-1) := by rw [← (funext aws29_21 : pfC s29 = pfC s)]; exact upf_upd hps36.2
       have hO0 : pcS (pfC s36) y = oldS s x y := by rw [hP0]; exact old_eq p0 hY (by first | exact oq_8dac520e p1.1 | (clear g31 hps29 g5; omega) | (clear hps29 g5; omega) | omega)
       refine w_pop X.1 (ax_d X (show cdA 25 53 = some (.pop, 1, 0, 0, 0) from rfl)) rfl (z_load X (x := 0) rfl (List.Mem.tail _ (List.Mem.tail _ (List.Mem.head _))) (z_if_ne X (t := 206) rfl rfl (by decide) (fun g38 => ?_) (fun g38 => ?_)))
       ·
         exfalso
         omega
       ·
         as_aux_lemma =>
          refine z_aload_n X (x := A 41) rfl (List.Mem.tail _ (List.Mem.tail _ (List.Mem.tail _ (List.Mem.head _)))) (s_getR X 41 rfl (c518_ok rfl) rfl rfl (z_load_n X (x := y) rfl (List.Mem.tail _ (List.Mem.tail _ (List.Mem.tail _ (List.Mem.tail _ (List.Mem.tail _ (List.Mem.head _)))))) (z_callV X 25 (rm := rmN 30) (As := [.int (Int32.ofInt y)]) (st := []) rfl rfl (by decide) rfl (by rw [E.1, E.2.1, E.2.2.1]; exact c3_has3 G Is36 JPMJ_s36 (by first | exact ⟨p1.1, p1.2⟩ | omega)) ⟨by rw [E.2.2.2]; exact (show (rmN 30).frames + 1 ≤ (rmN 25).frames by decide), by rw [E.2.2.2]; exact (show 8 + (mNL (miB 30) + 11) + (rmN 30).locals ≤ (rmN 25).locals by decide), by rw [E.2.2.2]; exact (show 0 + (rmN 30).cells ≤ (rmN 25).cells by decide), by rw [E.2.2.2]; exact (show 0 + (rmN 30).slots ≤ (rmN 25).slots by decide)⟩ (Nat.le_of_ble_eq_true rfl) (fun vv s39 hq => ?_) (fun ee s39 hq => ?_))))
          rotate_left
          · obtain ⟨rfl, e40, hv, hrs39, hps39⟩ := hq; cases hv
          obtain ⟨rfl, e40, hv, hrs39, hps39⟩ := hq
          have hps39p := hps39.2
          cases hv
          show WS k 67 [(6, .int (Int32.ofInt (iC s29 37 (y).toNat))), (5, .int (Int32.ofInt (iC s29 36 (y).toNat))), (4, .int (Int32.ofInt 0)), (0, .ref (A 41)), (1, .int (Int32.ofInt x)), (2, .int (Int32.ofInt y)), (3, .int (Int32.ofInt z))] [.int (Int32.ofInt e40)] (Wd A dT s36) 0 0
          refine z_if_eq X (t := 206) rfl rfl hrs39 (fun g41 => ?_) (fun g41 => ?_)
          ·
            refine WS_pq [3, 4, 5, 1, 0] (lv' := [(0, .ref (A 41)), (1, .int (Int32.ofInt x)), (2, .int (Int32.ofInt y)), (5, .int (Int32.ofInt (iC s29 36 (y).toNat))), (6, .int (Int32.ofInt (iC s29 37 (y).toNat)))]) rfl ?_
            exact L206 _ x y (iC s29 36 (y).toNat) (iC s29 37 (y).toNat) Is36 Gs36 JAIR_s36 JCPL_s36 JCDJ_s36 JPMJ_s36 (tch_j ⟨(-1), by first | exact And.intro (oq_bac6f319) (oq_80d0328e) | (clear hps39 g31 hps29 g5; omega) | (clear g31 hps29 g5; omega) | omega, hP0⟩ (fun j _ => ⟨aws36_36 j, aws36_37 j⟩) p5 p0 hY (by first | exact p1.1 | (clear hps39 g31 hps29 g5; omega) | (clear g31 hps29 g5; omega) | omega) (fun q => by have z := hps39.2; rw [hO0] at z; exact z.elim (fun w => absurd w.1 (by first | exact oq_417d0fef w.1 g41 | (clear hps39 g31 hps29 g5; omega) | (clear g31 hps29 g5; omega) | omega)) (fun w => w.2 q.1)) (by first | exact oq_1aa5be9e ws36_27 ws29_27 | (clear hps39 g31 hps29 g5; omega) | (clear g31 hps29 g5; omega) | omega) (by first | exact oq_1aa5be9e ws36_25 ws29_25 | (clear hps39 g31 hps29 g5; omega) | (clear g31 hps29 g5; omega) | omega) (by first | exact oq_1aa5be9e ws36_26 ws29_26 | (clear hps39 g31 hps29 g5; omega) | (clear g31 hps29 g5; omega) | omega)) (by first | exact ⟨And.intro (by decide) (by decide), ar33, ar35, And.intro (b32.1) (b32.2), b34.1, b34.2⟩ | exact And.intro (And.intro (rfl) (rfl)) (And.intro (ar33) (And.intro (ar35) (And.intro (And.intro (b32.1) (b32.2)) (And.intro (b34.1) (b34.2))))) | omega)
          ·
            have hE1 : ∃ c, oldS s x y c := by have z := hps39.2; rw [hO0] at z; exact z.elim (fun q => q.2) (fun q => absurd q.1 (by first | exact oq_28bfa4f0 q.1 g41 | (clear g41 hps39 g31 hps29 g5; omega) | (clear hps39 g31 hps29 g5; omega) | omega))
            refine z_aload_n X (x := A 41) rfl (List.Mem.tail _ (List.Mem.tail _ (List.Mem.tail _ (List.Mem.head _)))) (s_getR X 41 rfl (c518_ok rfl) rfl rfl (z_load_n X (x := y) rfl (List.Mem.tail _ (List.Mem.tail _ (List.Mem.tail _ (List.Mem.tail _ (List.Mem.tail _ (List.Mem.head _)))))) (z_zald X 45 rfl (c518_ok rfl) rfl (by first | exact p1.1 | omega) (show y < 8 by first | exact oq_aaea290e p1.2 | omega) (cbig_ok rfl) ?_)))
            have b42 := bc_38 Is36 (show (y).toNat < 8 by first | exact oq_c19a3aae p1.2 | omega)
            have hWo : iC s36 38 (y : Int).toNat = iC s 38 (y : Int).toNat := fm_c Gs36 (by decide)
            refine z_if_ne X (t := 87) rfl rfl (rng_to _) (fun g43 => ?_) (fun g43 => ?_)
            ·
              as_aux_lemma =>
               have hH2 : HngT (oldS s x y) := hAP.2 (by first | exact g31 | (clear g43 g41 hps39 g31 hps29 g5; omega) | (clear g41 hps39 g31 hps29 g5; omega) | omega)
               refine z_aload_n X (x := A 41) rfl (List.Mem.tail _ (List.Mem.tail _ (List.Mem.tail _ (List.Mem.head _)))) (z_load_n X (x := y) rfl (List.Mem.tail _ (List.Mem.tail _ (List.Mem.tail _ (List.Mem.tail _ (List.Mem.tail _ (List.Mem.head _)))))) (zcV_i0 X E 41 (As := [.int (Int32.ofInt y)]) (st := []) rfl rfl rfl rfl (c2_weigh3 G Is36 JAIR_s36 JCPL_s36 JCDJ_s36 JPMJ_s36 (by first | exact ⟨p1.1, p1.2⟩ | omega)) rfl (Nat.le_of_ble_eq_true rfl) (fun s44 e45 Is44 Fs44 hrs44 hps44 => ?_)))
               have hps44p := And.intro hps44.1 (hps44.2.1)
               have Gs44 := fm_tq Gs36 Fs44 rfl rfl
               have JAIR_s44 : AIR s44 := AIR_fm Fs44 (by decide) JAIR_s36
               have JCPL_s44 : CPL s44 := CPL_fm Fs44 (by decide) JCPL_s36
               have JCDJ_s44 : CDJ U s44 := CDJ_fm Fs44 (by decide) JCDJ_s36
               have JPMJ_s44 : PMJ s44 := PMJ_fm Fs44 (by decide) JPMJ_s36
               have ws44_25 : iI s44 25 = iI s36 25 := fm_iq Fs44 rfl
               have ws44_26 : iI s44 26 = iI s36 26 := fm_iq Fs44 rfl
               have ws44_27 : iI s44 27 = iI s36 27 := fm_iq Fs44 rfl
               have aws44_24 : SAM 24 s s44 := sam_ts aws36_24 (sam_fm Fs44 (by decide))
               have hP2 : pfC s36 = pfC s36 := rfl
               have hWg := hps44
               rw [hP2, hO0] at hWg
               have hP3 : pfC s44 = upF (pfC s) (x : Int).toNat (-1) := (show pfC s44 = pfC s36 from funext (fun j => fm_c Fs44 (by decide))).trans (hP2.trans hP0)
               have hL9 : iC s36 24 (y : Int).toNat = iC s 24 (y : Int).toNat := aws36_24 _
               refine z_if_eq X (t := 206) rfl rfl hrs44 (fun g46 => ?_) (fun g46 => ?_)
               ·
                 refine WS_pq [3, 4, 5, 1, 0] (lv' := [(0, .ref (A 41)), (1, .int (Int32.ofInt x)), (2, .int (Int32.ofInt y)), (5, .int (Int32.ofInt (iC s29 36 (y).toNat))), (6, .int (Int32.ofInt (iC s29 37 (y).toNat)))]) rfl ?_
                 exact L206 _ x y (iC s29 36 (y).toNat) (iC s29 37 (y).toNat) Is44 Gs44 JAIR_s44 JCPL_s44 JCDJ_s44 JPMJ_s44 (tch_j ⟨(-1), by first | exact And.intro (oq_bac6f319) (oq_80d0328e) | (clear hps44 g43 g41 hps39 g31 hps29 g5; omega) | (clear g43 g41 hps39 g31 hps29 g5; omega) | omega, hP3⟩ (fun j hj => ⟨(hWg.1.2 j (by first | exact oq_9791b9df hj p1.1 | (clear hps44 g43 g41 hps39 g31 hps29 g5; omega) | (clear g43 g41 hps39 g31 hps29 g5; omega) | omega)).trans (aws36_36 j), (hWg.2.1.2 j (by first | exact oq_9791b9df hj p1.1 | (clear hps44 g43 g41 hps39 g31 hps29 g5; omega) | (clear g43 g41 hps39 g31 hps29 g5; omega) | omega)).trans (aws36_37 j)⟩) p5 p0 hY (by first | exact p1.1 | (clear hps44 g43 g41 hps39 g31 hps29 g5; omega) | (clear g43 g41 hps39 g31 hps29 g5; omega) | omega) (fun q => by have z := q.2.2; omega) (by first | exact oq_878618b1 ws44_27 ws36_27 ws29_27 | (clear hps44 g43 g41 hps39 g31 hps29 g5; omega) | (clear g43 g41 hps39 g31 hps29 g5; omega) | omega) (by first | exact oq_878618b1 ws44_25 ws36_25 ws29_25 | (clear hps44 g43 g41 hps39 g31 hps29 g5; omega) | (clear g43 g41 hps39 g31 hps29 g5; omega) | omega) (by first | exact oq_878618b1 ws44_26 ws36_26 ws29_26 | (clear hps44 g43 g41 hps39 g31 hps29 g5; omega) | (clear g43 g41 hps39 g31 hps29 g5; omega) | omega)) (by first | exact ⟨And.intro (by decide) (by decide), ar33, ar35, And.intro (b32.1) (b32.2), b34.1, b34.2⟩ | exact And.intro (And.intro (rfl) (rfl)) (And.intro (ar33) (And.intro (ar35) (And.intro (And.intro (b32.1) (b32.2)) (And.intro (b34.1) (b34.2))))) | omega)
               ·
                 as_aux_lemma =>
                  refine z_const X rfl (z_store X (lv' := [(7, .int (Int32.ofInt 0)), (6, .int (Int32.ofInt (iC s29 37 (y).toNat))), (5, .int (Int32.ofInt (iC s29 36 (y).toNat))), (4, .int (Int32.ofInt 0)), (0, .ref (A 41)), (1, .int (Int32.ofInt x)), (2, .int (Int32.ofInt y)), (3, .int (Int32.ofInt z))]) rfl (by decide) (fun _ h => h) (WS_pq [4, 5, 6, 7, 2, 1, 0] (lv' := [(0, .ref (A 41)), (1, .int (Int32.ofInt x)), (2, .int (Int32.ofInt y)), (3, .int (Int32.ofInt z)), (5, .int (Int32.ofInt (iC s29 36 (y).toNat))), (6, .int (Int32.ofInt (iC s29 37 (y).toNat))), (7, .int (Int32.ofInt 0))]) rfl (L98 ((8 - 0 : Int).toNat + 1) s44 x y z (iC s29 36 (y).toNat) (iC s29 37 (y).toNat) 0 Is44 Gs44 JAIR_s44 JCPL_s44 JCDJ_s44 JPMJ_s44 ⟨⟨⟨(-1), by first | exact And.intro (oq_bac6f319) (oq_80d0328e) | (clear g46 hps44 g43 g41 hps39 g31 hps29 g5; omega) | (clear hps44 g43 g41 hps39 g31 hps29 g5; omega) | omega, hP3⟩, (fun j hj => ⟨(hWg.1.2 j (by first | exact oq_9791b9df hj p1.1 | (clear g46 hps44 g43 g41 hps39 g31 hps29 g5; omega) | (clear hps44 g43 g41 hps39 g31 hps29 g5; omega) | omega)).trans (aws36_36 j), (hWg.2.1.2 j (by first | exact oq_9791b9df hj p1.1 | (clear g46 hps44 g43 g41 hps39 g31 hps29 g5; omega) | (clear hps44 g43 g41 hps39 g31 hps29 g5; omega) | omega)).trans (aws36_37 j)⟩), bst_s p5 (by first | exact oq_878618b1 ws44_27 ws36_27 ws29_27 | (clear g46 hps44 g43 g41 hps39 g31 hps29 g5; omega) | (clear hps44 g43 g41 hps39 g31 hps29 g5; omega) | omega) (by first | exact oq_878618b1 ws44_25 ws36_25 ws29_25 | (clear g46 hps44 g43 g41 hps39 g31 hps29 g5; omega) | (clear hps44 g43 g41 hps39 g31 hps29 g5; omega) | omega) (by first | exact oq_878618b1 ws44_26 ws36_26 ws29_26 | (clear g46 hps44 g43 g41 hps39 g31 hps29 g5; omega) | (clear hps44 g43 g41 hps39 g31 hps29 g5; omega) | omega)⟩, ⟨hWg.1.1, hWg.2.1.1⟩, hE1, hH2, by first | exact oq_382224ae g46 hL9 hWg.2.2 | (clear g46 hps44 g43 g41 hps39 g31 hps29 g5; omega) | (clear hps44 g43 g41 hps39 g31 hps29 g5; omega) | omega⟩ (by first | exact ⟨And.intro (by decide) (And.intro (by decide) (by decide)), And.intro (ar33) (ar35), And.intro (p0.1) (p0.2), And.intro (p1.1) (p1.2), And.intro (p2.1) (p2.2), by decide, by decide, And.intro (b32.1) (b32.2), b34.1, b34.2⟩ | exact And.intro (And.intro (rfl) (And.intro (rfl) (rfl))) (And.intro (And.intro (ar33) (ar35)) (And.intro (And.intro (p0.1) (p0.2)) (And.intro (And.intro (p1.1) (p1.2)) (And.intro (And.intro (p2.1) (p2.2)) (And.intro (oq_0fe6b7e2) (And.intro (oq_1ed47a9a) (And.intro (And.intro (b32.1) (b32.2)) (And.intro (b34.1) (b34.2))))))))) | omega) (Nat.lt_succ_self _) ?_)))
                  intro s47 x48 Is47 Fs47 JAIR_s47 JCPL_s47 JCDJ_s47 JPMJ_s47 Qs47 hs47
                  have b49 := bi_25 Is47
                  have b50 := bi_26 Is47
                  have b51 := bi_27 Is47
                  refine WS_pq [0, 1, 2, 4, 5] (lv' := [(0, .ref (A 41)), (1, .int (Int32.ofInt x)), (2, .int (Int32.ofInt y)), (5, .int (Int32.ofInt (iC s29 36 (y).toNat))), (6, .int (Int32.ofInt (iC s29 37 (y).toNat)))]) rfl ?_
                  exact L206 _ x y (iC s29 36 (y).toNat) (iC s29 37 (y).toNat) Is47 Fs47 JAIR_s47 JCPL_s47 JCDJ_s47 JPMJ_s47 (by have z := Qs47.1; rw [show (x48).toNat = 8 by first | exact oq_4cfd06af hs47.2.2.1 | (clear g46 hps44 g43 g41 hps39 g31 hps29 g5; omega) | (clear hps44 g43 g41 hps39 g31 hps29 g5; omega) | omega] at z; exact z) (by first | exact ⟨And.intro (by decide) (by decide), hs47.2.1.1, hs47.2.1.2, And.intro (hs47.2.2.2.1.1) (hs47.2.2.2.1.2), hs47.2.2.2.2.1, hs47.2.2.2.2.2⟩ | exact And.intro (And.intro (hs47.1.1) (hs47.1.2)) (And.intro (hs47.2.1.1) (And.intro (hs47.2.1.2) (And.intro (And.intro (hs47.2.2.2.1.1) (hs47.2.2.2.1.2)) (And.intro (hs47.2.2.2.2.1) (hs47.2.2.2.2.2))))) | omega)
            ·
              as_aux_lemma =>
               refine z_aload_n X (x := A 41) rfl (List.Mem.tail _ (List.Mem.tail _ (List.Mem.tail _ (List.Mem.head _)))) (z_load_n X (x := y) rfl (List.Mem.tail _ (List.Mem.tail _ (List.Mem.tail _ (List.Mem.tail _ (List.Mem.tail _ (List.Mem.head _)))))) (zcV_i0 X E 41 (As := [.int (Int32.ofInt y)]) (st := []) rfl rfl rfl rfl (c2_whole3 G Is36 JPMJ_s36 (by first | exact ⟨p1.1, p1.2⟩ | omega)) rfl (Nat.le_of_ble_eq_true rfl) (fun s52 e53 Is52 Fs52 hrs52 hps52 => ?_)))
               have hps52p := hps52.2
               have Gs52 := fm_tq Gs36 Fs52 rfl rfl
               have JAIR_s52 : AIR s52 := AIR_fm Fs52 (by decide) JAIR_s36
               have JCPL_s52 : CPL s52 := CPL_fm Fs52 (by decide) JCPL_s36
               have JCDJ_s52 : CDJ U s52 := CDJ_fm Fs52 (by decide) JCDJ_s36
               have JPMJ_s52 : PMJ s52 := PMJ_fm Fs52 (by decide) JPMJ_s36
               have ws52_25 : iI s52 25 = iI s36 25 := fm_iq Fs52 rfl
               have ws52_26 : iI s52 26 = iI s36 26 := fm_iq Fs52 rfl
               have ws52_27 : iI s52 27 = iI s36 27 := fm_iq Fs52 rfl
               have aws52_36 : SAM 36 s s52 := sam_ts aws36_36 (sam_fm Fs52 (by decide))
               have aws52_37 : SAM 37 s s52 := sam_ts aws36_37 (sam_fm Fs52 (by decide))
               have aws52_24 : SAM 24 s s52 := sam_ts aws36_24 (sam_fm Fs52 (by decide))
               have hH1 : HGE (oldS s x y) e53 := by have z := hps52.2; rw [show pfC s36 = pfC s36 from rfl, hO0] at z; exact z
               have hP9 : pfC s52 = upF (pfC s) (x : Int).toNat (-1) := (show pfC s52 = pfC s36 from funext (fun j => fm_c Fs52 (by decide))).trans hP0
               refine z_if_eq X (t := 206) rfl rfl hrs52 (fun g54 => ?_) (fun g54 => ?_)
               ·
                 refine WS_pq [3, 4, 5, 1, 0] (lv' := [(0, .ref (A 41)), (1, .int (Int32.ofInt x)), (2, .int (Int32.ofInt y)), (5, .int (Int32.ofInt (iC s29 36 (y).toNat))), (6, .int (Int32.ofInt (iC s29 37 (y).toNat)))]) rfl ?_
                 exact L206 _ x y (iC s29 36 (y).toNat) (iC s29 37 (y).toNat) Is52 Gs52 JAIR_s52 JCPL_s52 JCDJ_s52 JPMJ_s52 (tch_j ⟨(-1), by first | exact And.intro (oq_bac6f319) (oq_80d0328e) | (clear hps52 g41 hps39 g31 hps29 g5; omega) | (clear g41 hps39 g31 hps29 g5; omega) | omega, hP9⟩ (fun j _ => ⟨aws52_36 j, aws52_37 j⟩) p5 p0 hY (by first | exact p1.1 | (clear hps52 g41 hps39 g31 hps29 g5; omega) | (clear g41 hps39 g31 hps29 g5; omega) | omega) (fun q => hH1.elim (fun w => absurd w.1 (by first | exact oq_417d0fef w.1 g54 | (clear hps52 g41 hps39 g31 hps29 g5; omega) | (clear g41 hps39 g31 hps29 g5; omega) | omega)) (fun w => w.2 q.2.1)) (by first | exact oq_878618b1 ws52_27 ws36_27 ws29_27 | (clear hps52 g41 hps39 g31 hps29 g5; omega) | (clear g41 hps39 g31 hps29 g5; omega) | omega) (by first | exact oq_878618b1 ws52_25 ws36_25 ws29_25 | (clear hps52 g41 hps39 g31 hps29 g5; omega) | (clear g41 hps39 g31 hps29 g5; omega) | omega) (by first | exact oq_878618b1 ws52_26 ws36_26 ws29_26 | (clear hps52 g41 hps39 g31 hps29 g5; omega) | (clear g41 hps39 g31 hps29 g5; omega) | omega)) (by first | exact ⟨And.intro (by decide) (by decide), ar33, ar35, And.intro (b32.1) (b32.2), b34.1, b34.2⟩ | exact And.intro (And.intro (rfl) (rfl)) (And.intro (ar33) (And.intro (ar35) (And.intro (And.intro (b32.1) (b32.2)) (And.intro (b34.1) (b34.2))))) | omega)
               ·
                 as_aux_lemma =>
                  have hH2 : HngT (oldS s x y) := hH1.elim (fun q => q.2) (fun q => absurd q.1 (by first | exact oq_28bfa4f0 q.1 g54 | (clear g54 hps52 g41 hps39 g31 hps29 g5; omega) | (clear hps52 g41 hps39 g31 hps29 g5; omega) | omega))
                  refine z_aload_n X (x := A 41) rfl (List.Mem.tail _ (List.Mem.tail _ (List.Mem.tail _ (List.Mem.head _)))) (z_load_n X (x := y) rfl (List.Mem.tail _ (List.Mem.tail _ (List.Mem.tail _ (List.Mem.tail _ (List.Mem.tail _ (List.Mem.head _)))))) (zcV_i0 X E 41 (As := [.int (Int32.ofInt y)]) (st := []) rfl rfl rfl rfl (c2_weigh3 G Is52 JAIR_s52 JCPL_s52 JCDJ_s52 JPMJ_s52 (by first | exact ⟨p1.1, p1.2⟩ | omega)) rfl (Nat.le_of_ble_eq_true rfl) (fun s55 e56 Is55 Fs55 hrs55 hps55 => ?_)))
                  have hps55p := And.intro hps55.1 (hps55.2.1)
                  have Gs55 := fm_tq Gs52 Fs55 rfl rfl
                  have JAIR_s55 : AIR s55 := AIR_fm Fs55 (by decide) JAIR_s52
                  have JCPL_s55 : CPL s55 := CPL_fm Fs55 (by decide) JCPL_s52
                  have JCDJ_s55 : CDJ U s55 := CDJ_fm Fs55 (by decide) JCDJ_s52
                  have JPMJ_s55 : PMJ s55 := PMJ_fm Fs55 (by decide) JPMJ_s52
                  have ws55_25 : iI s55 25 = iI s52 25 := fm_iq Fs55 rfl
                  have ws55_26 : iI s55 26 = iI s52 26 := fm_iq Fs55 rfl
                  have ws55_27 : iI s55 27 = iI s52 27 := fm_iq Fs55 rfl
                  have aws55_24 : SAM 24 s s55 := sam_ts aws52_24 (sam_fm Fs55 (by decide))
                  have hP2 : pfC s52 = pfC s36 := funext (fun j => fm_c Fs52 (by decide))
                  have hWg := hps55
                  rw [hP2, hO0] at hWg
                  have hP3 : pfC s55 = upF (pfC s) (x : Int).toNat (-1) := (show pfC s55 = pfC s52 from funext (fun j => fm_c Fs55 (by decide))).trans (hP2.trans hP0)
                  have hL9 : iC s52 24 (y : Int).toNat = iC s 24 (y : Int).toNat := aws52_24 _
                  refine z_if_eq X (t := 206) rfl rfl hrs55 (fun g57 => ?_) (fun g57 => ?_)
                  ·
                    refine WS_pq [3, 4, 5, 1, 0] (lv' := [(0, .ref (A 41)), (1, .int (Int32.ofInt x)), (2, .int (Int32.ofInt y)), (5, .int (Int32.ofInt (iC s29 36 (y).toNat))), (6, .int (Int32.ofInt (iC s29 37 (y).toNat)))]) rfl ?_
                    exact L206 _ x y (iC s29 36 (y).toNat) (iC s29 37 (y).toNat) Is55 Gs55 JAIR_s55 JCPL_s55 JCDJ_s55 JPMJ_s55 (tch_j ⟨(-1), by first | exact And.intro (oq_bac6f319) (oq_80d0328e) | (clear hps55 g54 hps52 g41 hps39 g31 hps29 g5; omega) | (clear g54 hps52 g41 hps39 g31 hps29 g5; omega) | omega, hP3⟩ (fun j hj => ⟨(hWg.1.2 j (by first | exact oq_9791b9df hj p1.1 | (clear hps55 g54 hps52 g41 hps39 g31 hps29 g5; omega) | (clear g54 hps52 g41 hps39 g31 hps29 g5; omega) | omega)).trans (aws52_36 j), (hWg.2.1.2 j (by first | exact oq_9791b9df hj p1.1 | (clear hps55 g54 hps52 g41 hps39 g31 hps29 g5; omega) | (clear g54 hps52 g41 hps39 g31 hps29 g5; omega) | omega)).trans (aws52_37 j)⟩) p5 p0 hY (by first | exact p1.1 | (clear hps55 g54 hps52 g41 hps39 g31 hps29 g5; omega) | (clear g54 hps52 g41 hps39 g31 hps29 g5; omega) | omega) (fun q => by have z := q.2.2; omega) (by first | exact oq_ac0e91e1 ws55_27 ws52_27 ws36_27 ws29_27 | (clear hps55 g54 hps52 g41 hps39 g31 hps29 g5; omega) | (clear g54 hps52 g41 hps39 g31 hps29 g5; omega) | omega) (by first | exact oq_ac0e91e1 ws55_25 ws52_25 ws36_25 ws29_25 | (clear hps55 g54 hps52 g41 hps39 g31 hps29 g5; omega) | (clear g54 hps52 g41 hps39 g31 hps29 g5; omega) | omega) (by first | exact oq_ac0e91e1 ws55_26 ws52_26 ws36_26 ws29_26 | (clear hps55 g54 hps52 g41 hps39 g31 hps29 g5; omega) | (clear g54 hps52 g41 hps39 g31 hps29 g5; omega) | omega)) (by first | exact ⟨And.intro (by decide) (by decide), ar33, ar35, And.intro (b32.1) (b32.2), b34.1, b34.2⟩ | exact And.intro (And.intro (rfl) (rfl)) (And.intro (ar33) (And.intro (ar35) (And.intro (And.intro (b32.1) (b32.2)) (And.intro (b34.1) (b34.2))))) | omega)
                  ·
                    as_aux_lemma =>
                     refine z_const X rfl (z_store X (lv' := [(7, .int (Int32.ofInt 0)), (6, .int (Int32.ofInt (iC s29 37 (y).toNat))), (5, .int (Int32.ofInt (iC s29 36 (y).toNat))), (4, .int (Int32.ofInt 0)), (0, .ref (A 41)), (1, .int (Int32.ofInt x)), (2, .int (Int32.ofInt y)), (3, .int (Int32.ofInt z))]) rfl (by decide) (fun _ h => h) (WS_pq [4, 5, 6, 7, 2, 1, 0] (lv' := [(0, .ref (A 41)), (1, .int (Int32.ofInt x)), (2, .int (Int32.ofInt y)), (3, .int (Int32.ofInt z)), (5, .int (Int32.ofInt (iC s29 36 (y).toNat))), (6, .int (Int32.ofInt (iC s29 37 (y).toNat))), (7, .int (Int32.ofInt 0))]) rfl (L98 ((8 - 0 : Int).toNat + 1) s55 x y z (iC s29 36 (y).toNat) (iC s29 37 (y).toNat) 0 Is55 Gs55 JAIR_s55 JCPL_s55 JCDJ_s55 JPMJ_s55 ⟨⟨⟨(-1), by first | exact And.intro (oq_bac6f319) (oq_80d0328e) | (clear g57 hps55 g54 hps52 g41 hps39 g31 hps29 g5; omega) | (clear hps55 g54 hps52 g41 hps39 g31 hps29 g5; omega) | omega, hP3⟩, (fun j hj => ⟨(hWg.1.2 j (by first | exact oq_9791b9df hj p1.1 | (clear g57 hps55 g54 hps52 g41 hps39 g31 hps29 g5; omega) | (clear hps55 g54 hps52 g41 hps39 g31 hps29 g5; omega) | omega)).trans (aws52_36 j), (hWg.2.1.2 j (by first | exact oq_9791b9df hj p1.1 | (clear g57 hps55 g54 hps52 g41 hps39 g31 hps29 g5; omega) | (clear hps55 g54 hps52 g41 hps39 g31 hps29 g5; omega) | omega)).trans (aws52_37 j)⟩), bst_s p5 (by first | exact oq_ac0e91e1 ws55_27 ws52_27 ws36_27 ws29_27 | (clear g57 hps55 g54 hps52 g41 hps39 g31 hps29 g5; omega) | (clear hps55 g54 hps52 g41 hps39 g31 hps29 g5; omega) | omega) (by first | exact oq_ac0e91e1 ws55_25 ws52_25 ws36_25 ws29_25 | (clear g57 hps55 g54 hps52 g41 hps39 g31 hps29 g5; omega) | (clear hps55 g54 hps52 g41 hps39 g31 hps29 g5; omega) | omega) (by first | exact oq_ac0e91e1 ws55_26 ws52_26 ws36_26 ws29_26 | (clear g57 hps55 g54 hps52 g41 hps39 g31 hps29 g5; omega) | (clear hps55 g54 hps52 g41 hps39 g31 hps29 g5; omega) | omega)⟩, ⟨hWg.1.1, hWg.2.1.1⟩, hE1, hH2, by first | exact oq_382224ae g57 hL9 hWg.2.2 | (clear g57 hps55 g54 hps52 g41 hps39 g31 hps29 g5; omega) | (clear hps55 g54 hps52 g41 hps39 g31 hps29 g5; omega) | omega⟩ (by first | exact ⟨And.intro (by decide) (And.intro (by decide) (by decide)), And.intro (ar33) (ar35), And.intro (p0.1) (p0.2), And.intro (p1.1) (p1.2), And.intro (p2.1) (p2.2), by decide, by decide, And.intro (b32.1) (b32.2), b34.1, b34.2⟩ | exact And.intro (And.intro (rfl) (And.intro (rfl) (rfl))) (And.intro (And.intro (ar33) (ar35)) (And.intro (And.intro (p0.1) (p0.2)) (And.intro (And.intro (p1.1) (p1.2)) (And.intro (And.intro (p2.1) (p2.2)) (And.intro (oq_0fe6b7e2) (And.intro (oq_1ed47a9a) (And.intro (And.intro (b32.1) (b32.2)) (And.intro (b34.1) (b34.2))))))))) | omega) (Nat.lt_succ_self _) ?_)))
                     intro s58 x59 Is58 Fs58 JAIR_s58 JCPL_s58 JCDJ_s58 JPMJ_s58 Qs58 hs58
                     have b60 := bi_25 Is58
                     have b61 := bi_26 Is58
                     have b62 := bi_27 Is58
                     refine WS_pq [0, 1, 2, 4, 5] (lv' := [(0, .ref (A 41)), (1, .int (Int32.ofInt x)), (2, .int (Int32.ofInt y)), (5, .int (Int32.ofInt (iC s29 36 (y).toNat))), (6, .int (Int32.ofInt (iC s29 37 (y).toNat)))]) rfl ?_
                     exact L206 _ x y (iC s29 36 (y).toNat) (iC s29 37 (y).toNat) Is58 Fs58 JAIR_s58 JCPL_s58 JCDJ_s58 JPMJ_s58 (by have z := Qs58.1; rw [show (x59).toNat = 8 by first | exact oq_4cfd06af hs58.2.2.1 | (clear g57 hps55 g54 hps52 g41 hps39 g31 hps29 g5; omega) | (clear hps55 g54 hps52 g41 hps39 g31 hps29 g5; omega) | omega] at z; exact z) (by first | exact ⟨And.intro (by decide) (by decide), hs58.2.1.1, hs58.2.1.2, And.intro (hs58.2.2.2.1.1) (hs58.2.2.2.1.2), hs58.2.2.2.2.1, hs58.2.2.2.2.2⟩ | exact And.intro (And.intro (hs58.1.1) (hs58.1.2)) (And.intro (hs58.2.1.1) (And.intro (hs58.2.1.2) (And.intro (And.intro (hs58.2.2.2.1.1) (hs58.2.2.2.1.2)) (And.intro (hs58.2.2.2.2.1) (hs58.2.2.2.2.2))))) | omega)
     ·
       as_aux_lemma =>
        refine z_const X rfl (z_goto X (t := 26) rfl rfl (z_store X (lv' := [(4, .int (Int32.ofInt 1)), (0, .ref (A 41)), (1, .int (Int32.ofInt x)), (2, .int (Int32.ofInt y)), (3, .int (Int32.ofInt z))]) rfl (by decide) (fun _ h => h) (z_aload_n X (x := A 41) rfl (List.Mem.tail _ (List.Mem.head _)) (s_getR X 41 rfl (c518_ok rfl) rfl rfl (z_load_n X (x := y) rfl (List.Mem.tail _ (List.Mem.tail _ (List.Mem.tail _ (List.Mem.head _)))) (z_ald X 43 rfl (c518_ok rfl) rfl (by first | exact p1.1 | omega) (show y < 8 by first | exact oq_aaea290e p1.2 | omega) (cbig_ok rfl) ?_))))))
        have b63 := bc_36 Is29 (show (y).toNat < 8 by first | exact oq_c19a3aae p1.2 | omega)
        have ar64 : iC s29 36 (y).toNat = iC s 36 (y).toNat := aws29_36 _
        refine z_store X (lv' := [(5, .int (Int32.ofInt (iC s29 36 (y).toNat))), (4, .int (Int32.ofInt 1)), (0, .ref (A 41)), (1, .int (Int32.ofInt x)), (2, .int (Int32.ofInt y)), (3, .int (Int32.ofInt z))]) rfl (by decide) (fun _ h => h) (z_aload_n X (x := A 41) rfl (List.Mem.tail _ (List.Mem.tail _ (List.Mem.head _))) (s_getR X 41 rfl (c518_ok rfl) rfl rfl (z_load_n X (x := y) rfl (List.Mem.tail _ (List.Mem.tail _ (List.Mem.tail _ (List.Mem.tail _ (List.Mem.head _))))) (z_ald X 44 rfl (c518_ok rfl) rfl (by first | exact p1.1 | omega) (show y < 8 by first | exact oq_aaea290e p1.2 | omega) (cbig_ok rfl) ?_))))
        have b65 := bc_37 Is29 (show (y).toNat < 8 by first | exact oq_c19a3aae p1.2 | omega)
        have ar66 : iC s29 37 (y).toNat = iC s 37 (y).toNat := aws29_37 _
        refine z_store X (lv' := [(6, .int (Int32.ofInt (iC s29 37 (y).toNat))), (5, .int (Int32.ofInt (iC s29 36 (y).toNat))), (4, .int (Int32.ofInt 1)), (0, .ref (A 41)), (1, .int (Int32.ofInt x)), (2, .int (Int32.ofInt y)), (3, .int (Int32.ofInt z))]) rfl (by decide) (fun _ h => h) (z_aload_n X (x := A 41) rfl (List.Mem.tail _ (List.Mem.tail _ (List.Mem.tail _ (List.Mem.head _)))) (s_getR X 41 rfl (c518_ok rfl) rfl rfl (z_load_n X (x := x) rfl (List.Mem.tail _ (List.Mem.tail _ (List.Mem.tail _ (List.Mem.tail _ (List.Mem.head _))))) (z_const X rfl (zcV_i1 X E 25 (As := [.int (Int32.ofInt x), .int (Int32.ofInt (-1))]) (st := []) rfl rfl rfl rfl (c3_put3 G Is29 JPMJ_s29 (by first | exact ⟨p0.1, p0.2⟩ | omega) (by first | exact ⟨by decide, by decide⟩ | omega)) rfl (Nat.le_of_ble_eq_true rfl) (fun s67 e68 Is67 Fs67 JPMJ_s67 hrs67 hps67 => ?_))))))
        have Gs67 := fm_tq Gs29 Fs67 rfl rfl
        have JAIR_s67 : AIR s67 := AIR_fm Fs67 (by decide) JAIR_s29
        have JCPL_s67 : CPL s67 := CPL_fm Fs67 (by decide) JCPL_s29
        have JCDJ_s67 : CDJ U s67 := CDJ_fm Fs67 (by decide) JCDJ_s29
        have ws67_25 : iI s67 25 = iI s29 25 := fm_iq Fs67 rfl
        have ws67_26 : iI s67 26 = iI s29 26 := fm_iq Fs67 rfl
        have ws67_27 : iI s67 27 = iI s29 27 := fm_iq Fs67 rfl
        have aws67_36 : SAM 36 s s67 := sam_ts aws29_36 (sam_fm Fs67 (by decide))
        have aws67_37 : SAM 37 s s67 := sam_ts aws29_37 (sam_fm Fs67 (by decide))
        have aws67_24 : SAM 24 s s67 := sam_ts aws29_24 (sam_fm Fs67 (by decide))
        have hP0 : pfC s67 = upF (pfC s) (x : Int).toNat (-1) := by rw [← (funext aws29_21 : pfC s29 = pfC s)]; exact upf_upd hps67.2
        have hO0 : pcS (pfC s67) y = oldS s x y := by rw [hP0]; exact old_eq p0 hY (by first | exact oq_8dac520e p1.1 | (clear hps29 g5; omega) | (clear g5; omega) | omega)
        refine w_pop X.1 (ax_d X (show cdA 25 53 = some (.pop, 1, 0, 0, 0) from rfl)) rfl (z_load X (x := 1) rfl (List.Mem.tail _ (List.Mem.tail _ (List.Mem.head _))) (z_if_ne X (t := 206) rfl rfl (by decide) (fun g69 => ?_) (fun g69 => ?_)))
        ·
          refine WS_pq [3, 4, 5, 1, 0] (lv' := [(0, .ref (A 41)), (1, .int (Int32.ofInt x)), (2, .int (Int32.ofInt y)), (5, .int (Int32.ofInt (iC s29 36 (y).toNat))), (6, .int (Int32.ofInt (iC s29 37 (y).toNat)))]) rfl ?_
          exact L206 _ x y (iC s29 36 (y).toNat) (iC s29 37 (y).toNat) Is67 Gs67 JAIR_s67 JCPL_s67 JCDJ_s67 JPMJ_s67 (tch_j ⟨(-1), by first | exact And.intro (oq_bac6f319) (oq_80d0328e) | (clear g69 hps29 g5; omega) | (clear hps29 g5; omega) | omega, hP0⟩ (fun j _ => ⟨aws67_36 j, aws67_37 j⟩) p5 p0 hY (by first | exact p1.1 | (clear g69 hps29 g5; omega) | (clear hps29 g5; omega) | omega) (fun q => hAP.1 (by first | exact g31 | (clear g69 hps29 g5; omega) | (clear hps29 g5; omega) | omega) q.2.1) (by first | exact oq_1aa5be9e ws67_27 ws29_27 | (clear g69 hps29 g5; omega) | (clear hps29 g5; omega) | omega) (by first | exact oq_1aa5be9e ws67_25 ws29_25 | (clear g69 hps29 g5; omega) | (clear hps29 g5; omega) | omega) (by first | exact oq_1aa5be9e ws67_26 ws29_26 | (clear g69 hps29 g5; omega) | (clear hps29 g5; omega) | omega)) (by first | exact ⟨And.intro (by decide) (by decide), ar64, ar66, And.intro (b63.1) (b63.2), b65.1, b65.2⟩ | exact And.intro (And.intro (rfl) (rfl)) (And.intro (ar64) (And.intro (ar66) (And.intro (And.intro (b63.1) (b63.2)) (And.intro (b65.1) (b65.2))))) | omega)
        ·
          exfalso
          omega
end M87x
end
section
theorem oq_e0dc1a50 {a0 : Int} (h0 : a0 ≠ (-1)) (h1 : (-1) ≤ a0) : ((1 = 1 ∧ 0 ≤ a0) ∨ (1 = 0 ∧ a0 = (-1))) := by omega
/-! The class seeks -/
section M87y
variable {l : Launch} {s0 : State} {D : va_G} {tys : List (ClassId × FieldType)} {a0 : Array Value} {A : Nat → Nat} {dT : Nat → ClassId} {s : PS}
set_option maxRecDepth 4000 in
theorem c2_seek3 (G : GX l s0 D tys a0 dT) {U : AirD} (I : Bd s) (jAIR : AIR s) (jCPL : CPL s) (jCDJ : CDJ U s) (jPMJ : PMJ s) (jCCJ : CCJ U s)  : CT l s0 D A dT 23 (rmN 23) [.ref (A 41)] s (fun o t => Bd t ∧ Fm [22, 23, 24, 25, 26, 27] [33, 26, 27, 28, 29, 30, 31, 32, 20, 36, 37, 21, 35, 38, 1022, 1023] s t ∧ PMJ t ∧ ∃ e, o = .inl (some (.int (Int32.ofInt e))) ∧ rng e ∧ ((e = 0 ∨ e = 1) ∧ SAM 21 s t ∧ BST U (pfC s) (fun j => iC s 24 j) 1024 t ∧ ((e = 1 ∧ 0 ≤ iI t 25) ∨ (e = 0 ∧ iI t 25 = -1)))) := by
  refine ct_ofX G (by decide) (Nat.le_of_ble_eq_true rfl) (fun k X E ET hRt hXt q => ?_)
  show WS k 0 [(0, .ref (A 41))] [] _ 0 0
  have F : Fm [22, 23, 24, 25, 26, 27] [33, 26, 27, 28, 29, 30, 31, 32, 20, 36, 37, 21, 35, 38, 1022, 1023] s s := fm_rf _ _ s
  have aw0_21 : SAM 21 s s := sam_rf
  have I0 := I
  have b1 := bi_25 I
  have b2 := bi_26 I
  have b3 := bi_27 I
  have L6 : ∀ (n : Nat) (t : PS) (p : Int), Bd t → Fm [22, 23, 24, 25, 26, 27] [33, 26, 27, 28, 29, 30, 31, 32, 20, 36, 37, 21, 35, 38, 1022, 1023] s t → AIR t → CPL t → CDJ U t → PMJ t → CCJ U t → MEJ U t → (WHX (pfC s) p t ∧ SAM 21 s t) → (0 ≤ p ∧ p ≤ 8) → (8 - p : Int).toNat < n → (∀ (t' : PS) (p' : Int), Bd t' → Fm [22, 23, 24, 25, 26, 27] [33, 26, 27, 28, 29, 30, 31, 32, 20, 36, 37, 21, 35, 38, 1022, 1023] s t' → AIR t' → CPL t' → CDJ U t' → PMJ t' → CCJ U t' → MEJ U t' → (WHX (pfC s) p' t' ∧ SAM 21 s t') → (p' = 8) → WS k 29 [(0, .ref (A 41)), (1, .int (Int32.ofInt p'))] [] (Wd A dT t') 0 0) → WS k 6 [(0, .ref (A 41)), (1, .int (Int32.ofInt p))] [] (Wd A dT t) 0 0 := by
    intro n
    induction n with
    | zero =>
      intro t p I F jjAIR jjCPL jjCDJ jjPMJ jjCCJ jjMEJ hq hi hm kx
      exact absurd hm (Nat.not_lt_zero _)
    | succ n ih =>
      intro t p I F jjAIR jjCPL jjCDJ jjPMJ jjCCJ jjMEJ hq hi hm kx
      have b1001 := bi_25 I
      have b1002 := bi_26 I
      have b1003 := bi_27 I
      refine z_load_n X (x := p) rfl (List.Mem.tail _ (List.Mem.head _)) (z_bipush X rfl (z_icmp_ge X (t := 29) rfl rfl ⟨by first | exact oq_fa4e5087 hi.1 | omega, by first | exact oq_d3f5d874 hi.2 | omega⟩ (by decide) (fun g1004 => ?_) (fun g1004 => ?_)))
      ·
        refine WS_pq [0, 1] (lv' := [(0, .ref (A 41)), (1, .int (Int32.ofInt p))]) rfl ?_
        exact kx _ p I F jjAIR jjCPL jjCDJ jjPMJ jjCCJ jjMEJ hq (by first | exact oq_73d3719d hi.2 g1004 | omega)
      ·
        refine z_aload_n X (x := A 41) rfl (List.Mem.head _) (s_getR X 41 rfl (c518_ok rfl) rfl rfl (z_load_n X (x := p) rfl (List.Mem.tail _ (List.Mem.head _)) (z_aload_n X (x := A 41) rfl (List.Mem.head _) (z_load_n X (x := p) rfl (List.Mem.tail _ (List.Mem.head _)) (zcV_i0 X E 41 (As := [.int (Int32.ofInt p)]) (st := [.int (Int32.ofInt p), .ref (A 45)]) rfl rfl rfl rfl (c2_whole3 G I jjPMJ (by first | exact ⟨hi.1, oq_78c639ed g1004⟩ | omega)) rfl (Nat.le_of_ble_eq_true rfl) (fun s1005 e1006 Is1005 Fs1005 hrs1005 hps1005 => ?_))))))
        have hps1005p := hps1005.2
        have Gs1005 := fm_tq F Fs1005 rfl rfl
        have JAIR_s1005 : AIR s1005 := AIR_fm Fs1005 (by decide) jjAIR
        have JCPL_s1005 : CPL s1005 := CPL_fm Fs1005 (by decide) jjCPL
        have JCDJ_s1005 : CDJ U s1005 := CDJ_fm Fs1005 (by decide) jjCDJ
        have JPMJ_s1005 : PMJ s1005 := PMJ_fm Fs1005 (by decide) jjPMJ
        have JCCJ_s1005 : CCJ U s1005 := CCJ_fm Fs1005 (by decide) jjCCJ
        have JMEJ_s1005 : MEJ U s1005 := MEJ_fm Fs1005 (by decide) jjMEJ
        have ws1005_25 : iI s1005 25 = iI t 25 := fm_iq Fs1005 rfl
        have ws1005_26 : iI s1005 26 = iI t 26 := fm_iq Fs1005 rfl
        have ws1005_27 : iI s1005 27 = iI t 27 := fm_iq Fs1005 rfl
        have aws1005_38 : SAM 38 t s1005 := sam_ts (sam_rf (a := 38) (s := t)) (sam_fm Fs1005 (by decide))
        have aws1005_21 : SAM 21 t s1005 := sam_ts (sam_rf (a := 21) (s := t)) (sam_fm Fs1005 (by decide))
        refine z_zast X 45 rfl (c518_ok rfl) rfl (by first | exact hi.1 | omega) (show p < 8 by first | exact g1004 | omega) (cbig_ok rfl) (by first | exact hps1005.1 | omega) (wd_gen (fun s1007 hs1007 => ?_))
        have Is1007 : Bd s1007 := eqB hs1007 (bd_C Is1005 (show (0 : Int) ≤ e1006 ∧ e1006 ≤ 1 by first | exact ⟨oq_e4aca38c hps1005.1, oq_14617724 hps1005.1⟩ | omega) hrs1005)
        have Fs1007 := eqF hs1007 (fm_C Gs1005 (inl_ok (a := 38) rfl))
        have ws1007_25 : iI s1007 25 = iI s1005 25 := eqI hs1007 rfl
        have ws1007_26 : iI s1007 26 = iI s1005 26 := eqI hs1007 rfl
        have ws1007_27 : iI s1007 27 = iI s1005 27 := eqI hs1007 rfl
        have aws1007_38 : UPD 38 (p) e1006 t s1007 := by rw [hs1007]; exact upd_put aws1005_38 hrs1005
        have aws1007_21 : SAM 21 t s1007 := by rw [hs1007]; exact sam_C (by decide) aws1005_21
        have fs1007 : Fm [] [38] s1005 s1007 := by rw [hs1007]; exact fm_C (fm_rf _ _ _) (show 38 ∈ _ by decide)
        have JAIR_s1007 : AIR s1007 := AIR_fm fs1007 (by decide) JAIR_s1005
        have JCPL_s1007 : CPL s1007 := CPL_fm fs1007 (by decide) JCPL_s1005
        have JCDJ_s1007 : CDJ U s1007 := CDJ_fm fs1007 (by decide) JCDJ_s1005
        have JPMJ_s1007 : PMJ s1007 := PMJ_fm fs1007 (by decide) JPMJ_s1005
        have JCCJ_s1007 : CCJ U s1007 := CCJ_fm fs1007 (by decide) JCCJ_s1005
        have JMEJ_s1007 : MEJ U s1007 := MEJ_fm fs1007 (by decide) JMEJ_s1005
        refine z_inc X (x := p) (lv' := [(1, .int (Int32.ofInt (p + 1))), (0, .ref (A 41))]) rfl (by decide) (List.Mem.tail _ (List.Mem.head _)) (fun _ h => h) (z_goto X (t := 6) rfl rfl (WS_pq [1, 0] (lv' := [(0, .ref (A 41)), (1, .int (Int32.ofInt (p + 1)))]) rfl ?_))
        exact ih _ (p + 1) Is1007 Fs1007 JAIR_s1007 JCPL_s1007 JCDJ_s1007 JPMJ_s1007 JCCJ_s1007 JMEJ_s1007 ⟨whx_up hq.1 (by first | (clear hps1005; omega) | omega) (by have z := hps1005.2; rw [show pfC t = pfC s from funext hq.2] at z; exact z) aws1007_38, sam_ts hq.2 aws1007_21⟩ (by first | exact ⟨oq_54f49eb5 hi.1, oq_0c7b19c3 g1004⟩ | omega) (by first | exact qk_me hm (by decide) (oq_9f368f35 g1004) | omega) kx
  have L44 : ∀ (n : Nat) (t : PS) (c : Int), Bd t → Fm [22, 23, 24, 25, 26, 27] [33, 26, 27, 28, 29, 30, 31, 32, 20, 36, 37, 21, 35, 38, 1022, 1023] s t → AIR t → CPL t → CDJ U t → PMJ t → CCJ U t → MEJ U t → WHJ t → (BST U (pfC s) (fun j => iC s 24 j) (8 * (c : Int).toNat) t ∧ SAM 21 s t) → (0 ≤ c ∧ c ≤ 128) → (128 - c : Int).toNat < n → (∀ (t' : PS) (c' : Int), Bd t' → Fm [22, 23, 24, 25, 26, 27] [33, 26, 27, 28, 29, 30, 31, 32, 20, 36, 37, 21, 35, 38, 1022, 1023] s t' → AIR t' → CPL t' → CDJ U t' → PMJ t' → CCJ U t' → MEJ U t' → WHJ t' → (BST U (pfC s) (fun j => iC s 24 j) (8 * (c' : Int).toNat) t' ∧ SAM 21 s t') → (c' = 128) → WS k 106 [(0, .ref (A 41)), (1, .int (Int32.ofInt c'))] [] (Wd A dT t') 0 0) → WS k 44 [(0, .ref (A 41)), (1, .int (Int32.ofInt c))] [] (Wd A dT t) 0 0 := by
    intro n
    induction n with
    | zero =>
      intro t c I F jjAIR jjCPL jjCDJ jjPMJ jjCCJ jjMEJ jjWHJ hq hi hm kx
      exact absurd hm (Nat.not_lt_zero _)
    | succ n ih =>
      intro t c I F jjAIR jjCPL jjCDJ jjPMJ jjCCJ jjMEJ jjWHJ hq hi hm kx
      have b2001 := bi_25 I
      have b2002 := bi_26 I
      have b2003 := bi_27 I
      have hPf : pfC t = pfC s := funext hq.2
      have hLf : (fun j => iC t 24 j) = (fun j => iC s 24 j) := funext (fun j => fm_c F (by decide))
      have hfc : pfC s (c : Int).toNat = iC t 21 (c : Int).toNat := (hq.2 _).symm
      refine z_load_n X (x := c) rfl (List.Mem.tail _ (List.Mem.head _)) (z_sipush X rfl (z_icmp_ge X (t := 106) rfl rfl ⟨by first | exact oq_fa4e5087 hi.1 | omega, by first | exact oq_4ee82282 hi.2 | omega⟩ (by decide) (fun g2004 => ?_) (fun g2004 => ?_)))
      ·
        refine WS_pq [0, 1] (lv' := [(0, .ref (A 41)), (1, .int (Int32.ofInt c))]) rfl ?_
        exact kx _ c I F jjAIR jjCPL jjCDJ jjPMJ jjCCJ jjMEJ jjWHJ hq (by first | exact oq_42fe298a hi.2 g2004 | omega)
      ·
        refine z_aload_n X (x := A 41) rfl (List.Mem.head _) (s_getR X 41 rfl (c518_ok rfl) rfl rfl (s_getR X 25 rfl (c518_ok rfl) rfl rfl (z_load_n X (x := c) rfl (List.Mem.tail _ (List.Mem.head _)) (z_ald X 26 rfl (c518_ok rfl) rfl (by first | exact hi.1 | omega) (show c < 128 by first | exact g2004 | omega) (cbig_ok rfl) ?_))))
        have b2005 := bc_21 I (show (c).toNat < 128 by first | exact oq_afb89947 g2004 | omega)
        have ar2006 : iC t 21 (c).toNat = iC t 21 (c).toNat := (sam_rf (a := 21) (s := t)) _
        refine z_store_n X (lv' := [(2, .int (Int32.ofInt (iC t 21 (c).toNat))), (0, .ref (A 41)), (1, .int (Int32.ofInt c))]) rfl (by decide) (fun _ h => h) (z_load_n X (x := (iC t 21 (c).toNat)) rfl (List.Mem.head _) (z_const X rfl (z_icmp_eq X (t := 100) rfl rfl (rng_to _) (by decide) (fun g2007 => ?_) (fun g2007 => ?_))))
        ·
          refine z_inc X (x := c) (lv' := [(1, .int (Int32.ofInt (c + 1))), (2, .int (Int32.ofInt (iC t 21 (c).toNat))), (0, .ref (A 41))]) rfl (by decide) (List.Mem.tail _ (List.Mem.tail _ (List.Mem.head _))) (fun _ h => h) (z_goto X (t := 44) rfl rfl (WS_pq [2, 0] (lv' := [(0, .ref (A 41)), (1, .int (Int32.ofInt (c + 1)))]) rfl ?_))
          exact ih _ (c + 1) I F jjAIR jjCPL jjCDJ jjPMJ jjCCJ jjMEJ jjWHJ ⟨(by rw [show 8 * (c + 1 : Int).toNat = 8 * (c : Int).toNat + 8 by omega]; exact bst_shut (bst_s hq.1 (by omega) (by omega) (by omega)) (by rw [hfc]; omega)), sam_ts hq.2 (sam_rf (a := 21) (s := t))⟩ (by first | exact ⟨oq_54f49eb5 hi.1, oq_d2afb425 g2004⟩ | omega) (by first | exact qk_me hm (by decide) (oq_c268b7bd g2004) | omega) kx
        ·
          refine z_aload_n X (x := A 41) rfl (List.Mem.tail _ (List.Mem.head _)) (z_load_n X (x := c) rfl (List.Mem.tail _ (List.Mem.tail _ (List.Mem.head _))) (zcV_i0 X E 41 (As := [.int (Int32.ofInt c)]) (st := []) rfl rfl rfl rfl (c2_matter3 G I jjAIR jjCDJ (by first | exact ⟨hi.1, oq_04367f15 g2004⟩ | omega)) rfl (Nat.le_of_ble_eq_true rfl) (fun s2008 e2009 Is2008 Fs2008 hrs2008 hps2008 => ?_)))
          have hps2008p := hps2008.2
          have Gs2008 := fm_tq F Fs2008 rfl rfl
          have JAIR_s2008 : AIR s2008 := AIR_fm Fs2008 (by decide) jjAIR
          have JCPL_s2008 : CPL s2008 := CPL_fm Fs2008 (by decide) jjCPL
          have JCDJ_s2008 : CDJ U s2008 := CDJ_fm Fs2008 (by decide) jjCDJ
          have JPMJ_s2008 : PMJ s2008 := PMJ_fm Fs2008 (by decide) jjPMJ
          have JCCJ_s2008 : CCJ U s2008 := CCJ_fm Fs2008 (by decide) jjCCJ
          have JMEJ_s2008 : MEJ U s2008 := MEJ_fm Fs2008 (by decide) jjMEJ
          have JWHJ_s2008 : WHJ s2008 := WHJ_fm Fs2008 (by decide) jjWHJ
          have ws2008_25 : iI s2008 25 = iI t 25 := fm_iq Fs2008 rfl
          have ws2008_26 : iI s2008 26 = iI t 26 := fm_iq Fs2008 rfl
          have ws2008_27 : iI s2008 27 = iI t 27 := fm_iq Fs2008 rfl
          have aws2008_21 : SAM 21 t s2008 := sam_ts (sam_rf (a := 21) (s := t)) (sam_fm Fs2008 (by decide))
          refine z_if_eq X (t := 100) rfl rfl hrs2008 (fun g2010 => ?_) (fun g2010 => ?_)
          ·
            refine z_inc X (x := c) (lv' := [(1, .int (Int32.ofInt (c + 1))), (2, .int (Int32.ofInt (iC t 21 (c).toNat))), (0, .ref (A 41))]) rfl (by decide) (List.Mem.tail _ (List.Mem.tail _ (List.Mem.head _))) (fun _ h => h) (z_goto X (t := 44) rfl rfl (WS_pq [2, 0] (lv' := [(0, .ref (A 41)), (1, .int (Int32.ofInt (c + 1)))]) rfl ?_))
            exact ih _ (c + 1) Is2008 Gs2008 JAIR_s2008 JCPL_s2008 JCDJ_s2008 JPMJ_s2008 JCCJ_s2008 JMEJ_s2008 JWHJ_s2008 ⟨(by rw [show 8 * (c + 1 : Int).toNat = 8 * (c : Int).toNat + 8 by first | (clear hps2008 g2007; omega) | (clear g2007; omega) | omega]; exact bst_mat (bst_s hq.1 (by first | (clear hps2008 g2007; omega) | (clear g2007; omega) | omega) (by first | (clear hps2008 g2007; omega) | (clear g2007; omega) | omega) (by first | (clear hps2008 g2007; omega) | (clear g2007; omega) | omega)) (by first | (clear hps2008 g2007; omega) | (clear g2007; omega) | omega) (fun j hj => I0.2 21 j hj) (by have z := (hps2008.2 (by first | (clear hps2008 g2007; omega) | (clear g2007; omega) | omega)).1; rw [show (((c : Int).toNat : Nat) : Int) = c by first | (clear hps2008 g2007; omega) | (clear g2007; omega) | omega]; exact z) (jjCCJ (by have z := (hps2008.2 (by first | (clear hps2008 g2007; omega) | (clear g2007; omega) | omega)).2; omega)) (u_wok jjAIR jjCDJ)), sam_ts hq.2 aws2008_21⟩ (by first | exact ⟨oq_54f49eb5 hi.1, oq_d2afb425 g2004⟩ | omega) (by first | exact qk_me hm (by decide) (oq_c268b7bd g2004) | omega) kx
          ·
            refine z_aload_n X (x := A 41) rfl (List.Mem.tail _ (List.Mem.head _)) (s_getR X 41 rfl (c518_ok rfl) rfl rfl (z_load_n X (x := c) rfl (List.Mem.tail _ (List.Mem.tail _ (List.Mem.head _))) (zcV_i0 X E 25 (As := [.int (Int32.ofInt c)]) (st := []) rfl rfl rfl rfl (c3_beside_p3 G Is2008 (by first | exact ⟨hi.1, oq_04367f15 g2004⟩ | omega)) rfl (Nat.le_of_ble_eq_true rfl) (fun s2011 e2012 Is2011 Fs2011 hrs2011 hps2011 => ?_))))
            have Gs2011 := fm_tq Gs2008 Fs2011 rfl rfl
            have JAIR_s2011 : AIR s2011 := AIR_fm Fs2011 (by decide) JAIR_s2008
            have JCPL_s2011 : CPL s2011 := CPL_fm Fs2011 (by decide) JCPL_s2008
            have JCDJ_s2011 : CDJ U s2011 := CDJ_fm Fs2011 (by decide) JCDJ_s2008
            have JPMJ_s2011 : PMJ s2011 := PMJ_fm Fs2011 (by decide) JPMJ_s2008
            have JCCJ_s2011 : CCJ U s2011 := CCJ_fm Fs2011 (by decide) JCCJ_s2008
            have JMEJ_s2011 : MEJ U s2011 := MEJ_fm Fs2011 (by decide) JMEJ_s2008
            have JWHJ_s2011 : WHJ s2011 := WHJ_fm Fs2011 (by decide) JWHJ_s2008
            have ws2011_25 : iI s2011 25 = iI s2008 25 := fm_iq Fs2011 rfl
            have ws2011_26 : iI s2011 26 = iI s2008 26 := fm_iq Fs2011 rfl
            have ws2011_27 : iI s2011 27 = iI s2008 27 := fm_iq Fs2011 rfl
            have aws2011_21 : SAM 21 t s2011 := sam_ts aws2008_21 (sam_fm Fs2011 (by decide))
            refine z_const X rfl (z_load_n X (x := (iC t 21 (c).toNat)) rfl (List.Mem.head _) (z_bshl X rfl (z_anyV (fun y2013 hy2013 ey2013 => ?_))))
            refine z_const X rfl (z_bxor X rfl (z_anyV (fun y2014 hy2014 ey2014 => ?_)))
            refine w_iand X.1 (ax_d X (show cdA 23 87 = some (.iand, 1, 0, 0, 0) from rfl)) (z_anyV (fun y2015 hy2015 ey2015 => ?_))
            have hOT : OTH (pfC s) (c : Int).toNat y2015 := oth_of (by first | (clear g2010 hps2008 g2007; omega) | (clear hps2008 g2007; omega) | omega) (hfc.trans rfl) (by first | (clear g2010 hps2008 g2007; omega) | (clear hps2008 g2007; omega) | omega) (by have z := hps2011; rw [show pfC s2008 = pfC s from funext (sam_ts hq.2 (fun j => fm_c Fs2008 (by decide)))] at z; exact z) ey2013 ey2014 ey2015
            refine z_store_n X (lv' := [(3, .int (Int32.ofInt y2015)), (2, .int (Int32.ofInt (iC t 21 (c).toNat))), (0, .ref (A 41)), (1, .int (Int32.ofInt c))]) rfl (by decide) (fun _ h => h) (z_load_n X (x := y2015) rfl (List.Mem.head _) (z_if_eq X (t := 100) rfl rfl hy2015 (fun g2016 => ?_) (fun g2016 => ?_)))
            ·
              refine z_inc X (x := c) (lv' := [(1, .int (Int32.ofInt (c + 1))), (3, .int (Int32.ofInt y2015)), (2, .int (Int32.ofInt (iC t 21 (c).toNat))), (0, .ref (A 41))]) rfl (by decide) (List.Mem.tail _ (List.Mem.tail _ (List.Mem.tail _ (List.Mem.head _)))) (fun _ h => h) (z_goto X (t := 44) rfl rfl (WS_pq [3, 0] (lv' := [(0, .ref (A 41)), (1, .int (Int32.ofInt (c + 1)))]) rfl ?_))
              exact ih _ (c + 1) Is2011 Gs2011 JAIR_s2011 JCPL_s2011 JCDJ_s2011 JPMJ_s2011 JCCJ_s2011 JMEJ_s2011 JWHJ_s2011 ⟨(by rw [show 8 * (c + 1 : Int).toNat = 8 * (c : Int).toNat + 8 by first | (clear g2010 hps2008 g2007; omega) | (clear hps2008 g2007; omega) | omega]; exact bst_none (bst_s hq.1 (by first | (clear g2010 hps2008 g2007; omega) | (clear hps2008 g2007; omega) | omega) (by first | (clear g2010 hps2008 g2007; omega) | (clear hps2008 g2007; omega) | omega) (by first | (clear g2010 hps2008 g2007; omega) | (clear hps2008 g2007; omega) | omega)) hOT (by first | (clear g2010 hps2008 g2007; omega) | (clear hps2008 g2007; omega) | omega)), sam_ts hq.2 aws2011_21⟩ (by first | exact ⟨oq_54f49eb5 hi.1, oq_d2afb425 g2004⟩ | omega) (by first | exact qk_me hm (by decide) (oq_c268b7bd g2004) | omega) kx
            ·
              refine z_aload_n X (x := A 41) rfl (List.Mem.tail _ (List.Mem.tail _ (List.Mem.head _))) (z_load_n X (x := c) rfl (List.Mem.tail _ (List.Mem.tail _ (List.Mem.tail _ (List.Mem.head _)))) (z_load_n X (x := (iC t 21 (c).toNat)) rfl (List.Mem.tail _ (List.Mem.head _)) (z_load_n X (x := y2015) rfl (List.Mem.head _) (zcV_v3 X E 41 (As := [.int (Int32.ofInt c), .int (Int32.ofInt (iC t 21 (c).toNat)), .int (Int32.ofInt y2015)]) (st := []) rfl rfl rfl rfl (c2_try3 G Is2011 JAIR_s2011 JCPL_s2011 JCDJ_s2011 JPMJ_s2011 JMEJ_s2011 JWHJ_s2011 (by first | exact ⟨hi.1, oq_04367f15 g2004⟩ | omega) (by first | exact ⟨oq_7a1025bf g2007 b2005.1, b2005.2⟩ | omega) (by first | exact ⟨hy2015.1, hy2015.2⟩ | omega) (aws2011_21 _) (by rw [show pfC s2011 = pfC s from funext (sam_ts hq.2 aws2011_21)]; exact hOT) (bst_c (bst_s hq.1 (by first | (clear g2016 g2010 hps2008 g2007; omega) | (clear g2010 hps2008 g2007; omega) | omega) (by first | (clear g2016 g2010 hps2008 g2007; omega) | (clear g2010 hps2008 g2007; omega) | omega) (by first | (clear g2016 g2010 hps2008 g2007; omega) | (clear g2010 hps2008 g2007; omega) | omega)) (show pfC s = pfC s2011 from (funext (sam_ts hq.2 aws2011_21)).symm) (show (fun j => iC s 24 j) = (fun j => iC s2011 24 j) from (funext (fun j => fm_c Gs2011 (by decide))).symm) rfl)) rfl (Nat.le_of_ble_eq_true rfl) (fun s2017 Is2017 Fs2017 JPMJ_s2017 JMEJ_s2017 JWHJ_s2017 hps2017 => ?_)))))
              have Gs2017 := fm_tq Gs2011 Fs2017 rfl rfl
              have JAIR_s2017 : AIR s2017 := AIR_fm Fs2017 (by decide) JAIR_s2011
              have JCPL_s2017 : CPL s2017 := CPL_fm Fs2017 (by decide) JCPL_s2011
              have JCDJ_s2017 : CDJ U s2017 := CDJ_fm Fs2017 (by decide) JCDJ_s2011
              have JCCJ_s2017 : CCJ U s2017 := CCJ_fm Fs2017 (by decide) JCCJ_s2011
              have b2019 := bi_25 Is2017
              have b2020 := bi_26 Is2017
              have b2021 := bi_27 Is2017
              refine z_inc X (x := c) (lv' := [(1, .int (Int32.ofInt (c + 1))), (3, .int (Int32.ofInt y2015)), (2, .int (Int32.ofInt (iC t 21 (c).toNat))), (0, .ref (A 41))]) rfl (by decide) (List.Mem.tail _ (List.Mem.tail _ (List.Mem.tail _ (List.Mem.head _)))) (fun _ h => h) (z_goto X (t := 44) rfl rfl (WS_pq [3, 0] (lv' := [(0, .ref (A 41)), (1, .int (Int32.ofInt (c + 1)))]) rfl ?_))
              exact ih _ (c + 1) Is2017 Gs2017 JAIR_s2017 JCPL_s2017 JCDJ_s2017 JPMJ_s2017 JCCJ_s2017 JMEJ_s2017 JWHJ_s2017 ⟨(by rw [show 8 * (c + 1 : Int).toNat = 8 * (c : Int).toNat + 8 by first | (clear g2016 g2010 hps2008 g2007; omega) | (clear g2010 hps2008 g2007; omega) | omega]; exact bst_c hps2017.2 (show pfC s2011 = pfC s from funext (sam_ts hq.2 aws2011_21)) (show (fun j => iC s2011 24 j) = (fun j => iC s 24 j) from funext (fun j => fm_c Gs2011 (by decide))) rfl), sam_ts (sam_ts hq.2 aws2011_21) hps2017.1⟩ (by first | exact ⟨oq_54f49eb5 hi.1, oq_d2afb425 g2004⟩ | omega) (by first | exact qk_me hm (by decide) (oq_c268b7bd g2004) | omega) kx
  refine z_aload_n X (x := A 41) rfl (List.Mem.head _) (zcV_v0 X E 41 (As := []) (st := []) rfl rfl rfl rfl (c2_measure3 G I jAIR jCPL jCDJ jPMJ ) rfl (Nat.le_of_ble_eq_true rfl) (fun s4 Is4 Fs4 hps4 => ?_))
  have Gs4 := fm_tq F Fs4 rfl rfl
  have JAIR_s4 : AIR s4 := AIR_fm Fs4 (by decide) jAIR
  have JCPL_s4 : CPL s4 := CPL_fm Fs4 (by decide) jCPL
  have JCDJ_s4 : CDJ U s4 := CDJ_fm Fs4 (by decide) jCDJ
  have JPMJ_s4 : PMJ s4 := PMJ_fm Fs4 (by decide) jPMJ
  have JCCJ_s4 : CCJ U s4 := CCJ_fm Fs4 (by decide) jCCJ
  have ws4_25 : iI s4 25 = iI s 25 := fm_iq Fs4 rfl
  have ws4_26 : iI s4 26 = iI s 26 := fm_iq Fs4 rfl
  have ws4_27 : iI s4 27 = iI s 27 := fm_iq Fs4 rfl
  have aws4_21 : SAM 21 s s4 := sam_ts aw0_21 (sam_fm Fs4 (by decide))
  have hM0 : MEJ U s4 := by unfold MEJ; rw [(show pfC s4 = pfC s from funext (fun j => fm_c Fs4 (by decide)))]; exact hps4
  refine z_const X rfl (z_store_n X (lv' := [(1, .int (Int32.ofInt 0)), (0, .ref (A 41))]) rfl (by decide) (fun _ h => h) (WS_pq [1, 0] (lv' := [(0, .ref (A 41)), (1, .int (Int32.ofInt 0))]) rfl (L6 ((8 - 0 : Int).toNat + 1) s4 0 Is4 Gs4 JAIR_s4 JCPL_s4 JCDJ_s4 JPMJ_s4 JCCJ_s4 hM0 ⟨fun p hp => absurd hp (by omega), aws4_21⟩ (by first | exact ⟨by decide, by decide⟩ | omega) (Nat.lt_succ_self _) ?_)))
  intro s6 x7 Is6 Fs6 JAIR_s6 JCPL_s6 JCDJ_s6 JPMJ_s6 JCCJ_s6 JMEJ_s6 Qs6 hs6
  have b8 := bi_25 Is6
  have b9 := bi_26 Is6
  have b10 := bi_27 Is6
  have hW0 : WHJ s6 := fun p hp => by rw [show pfC s6 = pfC s from funext Qs6.2]; exact Qs6.1 p (by omega)
  refine z_aload_n X (x := A 41) rfl (List.Mem.head _) (z_const X rfl (s_putI X 41 rfl (c518_ok rfl) rfl rfl (by decide) rfl rfl rfl (wd_gen (fun s11 hs11 => ?_))))
  have Is11 : Bd s11 := eqB hs11 (bd_I Is6 (show ((-1) : Int) ≤ (-1) ∧ (-1) ≤ 127 by first | exact ⟨by decide, by decide⟩ | omega) (by decide))
  have Fs11 := eqF hs11 (fm_I Fs6 (inl_ok (a := 25) rfl))
  have vs11 : iI s11 25 = (-1) := eqI hs11 (iI_u (by decide))
  have ws11_26 : iI s11 26 = iI s6 26 := eqI hs11 rfl
  have ws11_27 : iI s11 27 = iI s6 27 := eqI hs11 rfl
  have aws11_21 : SAM 21 s6 s11 := by rw [hs11]; exact (sam_rf (a := 21) (s := s6))
  have fs11 : Fm [25] [] s6 s11 := by rw [hs11]; exact fm_I (fm_rf _ _ _) (show 25 ∈ _ by decide)
  have JAIR_s11 : AIR s11 := AIR_fm fs11 (by decide) JAIR_s6
  have JCPL_s11 : CPL s11 := CPL_fm fs11 (by decide) JCPL_s6
  have JCDJ_s11 : CDJ U s11 := CDJ_fm fs11 (by decide) JCDJ_s6
  have JPMJ_s11 : PMJ s11 := PMJ_fm fs11 (by decide) JPMJ_s6
  have JCCJ_s11 : CCJ U s11 := CCJ_fm fs11 (by decide) JCCJ_s6
  have JMEJ_s11 : MEJ U s11 := MEJ_fm fs11 (by decide) JMEJ_s6
  have JWHJ_s11 : WHJ s11 := WHJ_fm fs11 (by decide) hW0
  refine z_aload_n X (x := A 41) rfl (List.Mem.head _) (z_aload_n X (x := A 41) rfl (List.Mem.head _) (zcV_i0 X E 41 (As := []) (st := [.ref (A 41)]) rfl rfl rfl rfl (c2_price3 G Is11 JAIR_s11 JCDJ_s11 ) rfl (Nat.le_of_ble_eq_true rfl) (fun s12 e13 Is12 Fs12 hrs12 hps12 => ?_)))
  have Gs12 := fm_tq Fs11 Fs12 rfl rfl
  have JAIR_s12 : AIR s12 := AIR_fm Fs12 (by decide) JAIR_s11
  have JCPL_s12 : CPL s12 := CPL_fm Fs12 (by decide) JCPL_s11
  have JCDJ_s12 : CDJ U s12 := CDJ_fm Fs12 (by decide) JCDJ_s11
  have JPMJ_s12 : PMJ s12 := PMJ_fm Fs12 (by decide) JPMJ_s11
  have JCCJ_s12 : CCJ U s12 := CCJ_fm Fs12 (by decide) JCCJ_s11
  have JMEJ_s12 : MEJ U s12 := MEJ_fm Fs12 (by decide) JMEJ_s11
  have JWHJ_s12 : WHJ s12 := WHJ_fm Fs12 (by decide) JWHJ_s11
  have ws12_25 : iI s12 25 = iI s11 25 := fm_iq Fs12 rfl
  have ws12_26 : iI s12 26 = iI s11 26 := fm_iq Fs12 rfl
  have ws12_27 : iI s12 27 = iI s11 27 := fm_iq Fs12 rfl
  have aws12_21 : SAM 21 s6 s12 := sam_ts aws11_21 (sam_fm Fs12 (by decide))
  have hC0 : CST U (pfC s) e13 := pn_cst (u_wok JAIR_s11 JCDJ_s11) (fun j hj => I0.2 21 j hj) (by have z := JMEJ_s11; unfold MEJ at z; rw [show pfC s11 = pfC s from funext (sam_ts Qs6.2 aws11_21)] at z; exact z) hps12
  refine s_putI X 41 rfl (c518_ok rfl) rfl rfl (by decide) rfl rfl rfl (wd_gen (fun s14 hs14 => ?_))
  have Is14 : Bd s14 := eqB hs14 (bd_I Is12 (show ((-2147483648) : Int) ≤ e13 ∧ e13 ≤ 2147483647 by first | (clear hps12; omega) | omega) hrs12)
  have Fs14 := eqF hs14 (fm_I Gs12 (inl_ok (a := 27) rfl))
  have vs14 : iI s14 27 = e13 := eqI hs14 (iI_u hrs12)
  have ws14_25 : iI s14 25 = iI s12 25 := eqI hs14 rfl
  have ws14_26 : iI s14 26 = iI s12 26 := eqI hs14 rfl
  have aws14_21 : SAM 21 s6 s14 := by rw [hs14]; exact aws12_21
  have fs14 : Fm [27] [] s12 s14 := by rw [hs14]; exact fm_I (fm_rf _ _ _) (show 27 ∈ _ by decide)
  have JAIR_s14 : AIR s14 := AIR_fm fs14 (by decide) JAIR_s12
  have JCPL_s14 : CPL s14 := CPL_fm fs14 (by decide) JCPL_s12
  have JCDJ_s14 : CDJ U s14 := CDJ_fm fs14 (by decide) JCDJ_s12
  have JPMJ_s14 : PMJ s14 := PMJ_fm fs14 (by decide) JPMJ_s12
  have JCCJ_s14 : CCJ U s14 := CCJ_fm fs14 (by decide) JCCJ_s12
  have JMEJ_s14 : MEJ U s14 := MEJ_fm fs14 (by decide) JMEJ_s12
  have JWHJ_s14 : WHJ s14 := WHJ_fm fs14 (by decide) JWHJ_s12
  refine z_const X rfl (z_store_n X (lv' := [(1, .int (Int32.ofInt 0)), (0, .ref (A 41))]) rfl (by decide) (fun _ h => h) (WS_pq [1, 0] (lv' := [(0, .ref (A 41)), (1, .int (Int32.ofInt 0))]) rfl (L44 ((128 - 0 : Int).toNat + 1) s14 0 Is14 Fs14 JAIR_s14 JCPL_s14 JCDJ_s14 JPMJ_s14 JCCJ_s14 JMEJ_s14 JWHJ_s14 ⟨bst_c (bst_0 (f := pfC s) (lim := (fun j => iC s 24 j)) (by rw [show iI s14 27 = e13 by first | (clear hps12; omega) | omega]; exact hC0) (by first | (clear hps12; omega) | omega)) rfl rfl (by decide), sam_ts Qs6.2 aws14_21⟩ (by first | exact ⟨by decide, by decide⟩ | omega) (Nat.lt_succ_self _) ?_)))
  intro s15 x16 Is15 Fs15 JAIR_s15 JCPL_s15 JCDJ_s15 JPMJ_s15 JCCJ_s15 JMEJ_s15 JWHJ_s15 Qs15 hs15
  have b17 := bi_25 Is15
  have b18 := bi_26 Is15
  have b19 := bi_27 Is15
  refine z_aload_n X (x := A 41) rfl (List.Mem.head _) (z_getI X 41 rfl (c518_ok rfl) rfl rfl ?_)
  have b20 := bi_25 Is15
  refine z_const X rfl (z_icmp_eq X (t := 118) rfl rfl (rng_to _) (by decide) (fun g21 => ?_) (fun g21 => ?_))
  ·
    refine z_const X rfl ?_
    exact w_iret X.1 q hRt (nar_ret (by first | exact Or.inl (by decide) | omega)) (ax_d X (show cdA 23 119 = some (.ireturn, 1, 0, 0, 0) from rfl)) (Nat.zero_le _) (Nat.zero_le _) ⟨_, rfl, Is15, Fs15, JPMJ_s15, 0, rfl, (by decide), ⟨by first | exact Or.inl (by decide) | omega, Qs15.2, by have z := Qs15.1; rw [show 8 * (x16 : Int).toNat = 1024 by first | (clear hps12; omega) | omega] at z; exact z, by first | exact Or.inr (And.intro (by decide) (g21)) | omega⟩⟩
  ·
    refine z_const X rfl (z_goto X (t := 119) rfl rfl ?_)
    exact w_iret X.1 q hRt (nar_ret (by first | exact Or.inr (by decide) | omega)) (ax_d X (show cdA 23 119 = some (.ireturn, 1, 0, 0, 0) from rfl)) (Nat.zero_le _) (Nat.zero_le _) ⟨_, rfl, Is15, Fs15, JPMJ_s15, 1, rfl, (by decide), ⟨by first | exact Or.inr (by decide) | omega, Qs15.2, by have z := Qs15.1; rw [show 8 * (x16 : Int).toNat = 1024 by first | (clear g21 hps12; omega) | (clear hps12; omega) | omega] at z; exact z, by first | exact oq_e0dc1a50 g21 b20.1 | omega⟩⟩
end M87y
end
