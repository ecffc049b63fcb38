theorem oq_6b02d9ba {a0 a1 a2 a3 : Int} (h0 : a0 = 0) (h1 : ((1 = 1 ∧ (a1 = 0 ∧ (a2 = 1 ∧ a0 = 1))) ∨ ((1 = 0 ∨ a1 ≠ 0) ∧ (a2 = a1 ∧ ((a0 = 0 ∧ a1 = 0) ∨ (a0 = 1 ∧ a1 ≠ 0)))))) (h2 : a1 = 0) : (0 ≤ a3 ∧ a3 ≤ 23) := by omega
theorem oq_4c9b0342 {a0 a1 a2 a3 : Int} (h0 : a0 = 0) (h1 : ((1 = 1 ∧ (a1 = 0 ∧ (a2 = 1 ∧ a0 = 1))) ∨ ((1 = 0 ∨ a1 ≠ 0) ∧ (a2 = a1 ∧ ((a0 = 0 ∧ a1 = 0) ∨ (a0 = 1 ∧ a1 ≠ 0)))))) (h2 : a1 = 0) : (0 ≤ a3 ∧ a3 ≤ 8) := by omega
theorem oq_d3994d9a {a0 a1 a2 a3 : Int} (h0 : a0 = 0) (h1 : ((1 = 1 ∧ (a1 = 0 ∧ (a2 = 1 ∧ a0 = 1))) ∨ ((1 = 0 ∨ a1 ≠ 0) ∧ (a2 = a1 ∧ ((a0 = 0 ∧ a1 = 0) ∨ (a0 = 1 ∧ a1 ≠ 0)))))) (h2 : a1 = 0) : ((-2) ≤ a3 ∧ a3 ≤ 11) := by omega
theorem oq_9014f91b {a0 a1 a2 a3 a4 : Int} (h0 : a0 = 0) (h1 : ((1 = 1 ∧ (a1 = 0 ∧ (a2 = 1 ∧ a0 = 1))) ∨ ((1 = 0 ∨ a1 ≠ 0) ∧ (a2 = a1 ∧ ((a0 = 0 ∧ a1 = 0) ∨ (a0 = 1 ∧ a1 ≠ 0)))))) (h2 : a1 = 0) : (a3 = a4 ∧ a4 ≤ 12) := by omega
theorem oq_f955fd23 {a0 a1 a2 a3 : Int} (h0 : a0 ≤ 23) (h1 : 0 ≤ a0) (h2 : a1 = 0) (h3 : ((a1 = 1 ∧ (0 ≤ a0 ∧ a0 ≤ 23)) ∨ (a1 = 0 ∧ (a0 < 0 ∨ 23 < a0)))) : a2 = a3 := by omega
theorem oq_a8ea036d {a0 : Int} (h0 : a0 ≤ 8) : (a0 - 0) ≤ ((8 : Nat) : Int) := by omega
theorem oq_b576d2a3 {a0 a1 a2 : Int} (h0 : a0 ≤ 23) (h1 : 0 ≤ a0) (h2 : a1 = 0) (h3 : ((a1 = 1 ∧ (0 ≤ a0 ∧ a0 ≤ 23)) ∨ (a1 = 0 ∧ (a0 < 0 ∨ 23 < a0)))) : a0 = a2 := by omega
theorem oq_d493c7ce {a0 a1 a2 a3 a4 : Int} (h0 : a0 = 0) (h1 : ((a0 = 1 ∧ (0 ≤ a1 ∧ a1 ≤ 23)) ∨ (a0 = 0 ∧ (a1 < 0 ∨ 23 < a1)))) : (a1 < 0 ∨ (23 < a1 ∨ (a2 < 0 ∨ (8 < a2 ∨ (a3 < 0 ∨ (8 < a3 ∨ (a4 < (-2) ∨ 11 < a4))))))) := by omega
theorem oq_028bc7f3 {a0 a1 a2 a3 : Int} (h0 : a0 ≤ 8) (h1 : 0 ≤ a0) (h2 : a1 = 0) (h3 : ((a1 = 1 ∧ (0 ≤ a0 ∧ a0 ≤ 8)) ∨ (a1 = 0 ∧ (a0 < 0 ∨ 8 < a0)))) : a2 = a3 := by omega
theorem oq_23424b26 {a0 a1 a2 a3 a4 : Int} (h0 : a0 = 0) (h1 : ((a0 = 1 ∧ (0 ≤ a1 ∧ a1 ≤ 8)) ∨ (a0 = 0 ∧ (a1 < 0 ∨ 8 < a1)))) : (a2 < 0 ∨ (23 < a2 ∨ (a1 < 0 ∨ (8 < a1 ∨ (a3 < 0 ∨ (8 < a3 ∨ (a4 < (-2) ∨ 11 < a4))))))) := by omega
theorem oq_5f471880 {a0 a1 a2 a3 a4 : Int} (h0 : a0 = 0) (h1 : ((a0 = 1 ∧ (0 ≤ a1 ∧ a1 ≤ 8)) ∨ (a0 = 0 ∧ (a1 < 0 ∨ 8 < a1)))) : (a2 < 0 ∨ (23 < a2 ∨ (a3 < 0 ∨ (8 < a3 ∨ (a1 < 0 ∨ (8 < a1 ∨ (a4 < (-2) ∨ 11 < a4))))))) := by omega
theorem oq_d324d61e {a0 a1 a2 a3 a4 a5 a6 : Int} (h0 : a0 ≠ 0) (h1 : ((0 = 1 ∧ (a1 = 0 ∧ (a2 = 1 ∧ a0 = 1))) ∨ ((0 = 0 ∨ a1 ≠ 0) ∧ (a2 = a1 ∧ ((a0 = 0 ∧ a1 = 0) ∨ (a0 = 1 ∧ a1 ≠ 0)))))) (h2 : a1 = 0) : (a3 < 0 ∨ (23 < a3 ∨ (a4 < 0 ∨ (8 < a4 ∨ (a5 < 0 ∨ (8 < a5 ∨ (a6 < (-2) ∨ 11 < a6))))))) := by omega
theorem oq_5d5b93d4 {a0 a1 a2 a3 : Int} (h0 : a0 ≤ 11) (h1 : (-2) ≤ a0) (h2 : a1 = 0) (h3 : ((a1 = 1 ∧ ((-2) ≤ a0 ∧ a0 ≤ 11)) ∨ (a1 = 0 ∧ (a0 < (-2) ∨ 11 < a0)))) : a2 = a3 := by omega
theorem oq_0d043b07 {a0 a1 a2 a3 a4 : Int} (h0 : a0 = 0) (h1 : ((a0 = 1 ∧ ((-2) ≤ a1 ∧ a1 ≤ 11)) ∨ (a0 = 0 ∧ (a1 < (-2) ∨ 11 < a1)))) : (a2 < 0 ∨ (23 < a2 ∨ (a3 < 0 ∨ (8 < a3 ∨ (a4 < 0 ∨ (8 < a4 ∨ (a1 < (-2) ∨ 11 < a1))))))) := by omega
/-! Mends: model, the whole -/
def HSQ (P : Nat → Prop) (c bi : Int) (t : PS) : Prop := iI t 105 = (cHt P c.toNat : Int) ∧ Int32.ofInt bi = hbW P c.toNat ∧ (∀ x : Nat, (x : Int) < c → P x → cHt P x < 8 → iC t 400 (cHt P x) = (x : Int)) ∧ ∀ x : Nat, (x : Int) < c → iC t 401 x = 0
theorem hsq_0 {P : Nat → Prop} {t : PS} (h : iI t 105 = 0) : HSQ P 0 0 t := ⟨h, rfl, fun x hx => absurd hx (by omega), fun x hx => absurd hx (by omega)⟩
theorem hsq_n {P : Nat → Prop} {c bi : Int} {t u : PS} (h : HSQ P c bi t) (c0 : 0 ≤ c) (hn : ¬ P c.toNat) (e1 : iI u 105 = iI t 105) (e2 : SAM 400 t u) (e3 : UPD 401 c 0 t u) : HSQ P (c + 1) bi u := by
  rw [show c + 1 = ((c.toNat + 1 : Nat) : Int) by omega]
  refine ⟨?_, ?_, fun x hx p k => ?_, fun x hx => ?_⟩
  · rw [Int.toNat_natCast, cht_n hn, e1]; exact h.1
  · rw [Int.toNat_natCast, hbw_n hn]; exact h.2.1
  · have : x ≠ c.toNat := fun z => hn (z ▸ p)
    rw [e2]; exact h.2.2.1 x (by omega) p k
  · by_cases z : x = c.toNat
    · rw [z]; exact e3.1
    · rw [e3.2 x z]; exact h.2.2.2 x (by omega)
theorem hsq_y {P : Nat → Prop} {c bi bj y : Int} {t u : PS} (h : HSQ P c bi t) (c0 : 0 ≤ c) (hp : P c.toNat) (e1 : iI u 105 = iI t 105 + 1) (e2 : (iI t 105 < 8 ∧ UPD 400 (iI t 105) c t u) ∨ (8 ≤ iI t 105 ∧ SAM 400 t u)) (e3 : UPD 401 c 0 t u) (b1 : Int32.ofInt y = Int32.ofInt 1 <<< (Int32.ofInt c &&& 31)) (b2 : Int32.ofInt bj = Int32.ofInt bi ||| Int32.ofInt y) : HSQ P (c + 1) bj u := by
  have h1 := h.1
  rw [show c + 1 = ((c.toNat + 1 : Nat) : Int) by omega]
  refine ⟨?_, ?_, fun x hx p k => ?_, fun x hx => ?_⟩
  · rw [Int.toNat_natCast, cht_y hp, e1]; omega
  · rw [Int.toNat_natCast, hbw_y hp, b2, b1, h.2.1, show ((c.toNat : Nat) : Int) = c by omega]
  · by_cases z : x = c.toNat
    · rw [z] at k ⊢
      rcases e2 with ⟨a1, a2⟩ | ⟨a1, a2⟩
      · have w := a2.1
        rw [h1, Int.toNat_natCast] at w
        rw [w]; omega
      · omega
    · have w := h.2.2.1 x (by omega) p k
      have hl := cht_lt (P := P) (m := x) (n := c.toNat) (by omega) p
      rcases e2 with ⟨a1, a2⟩ | ⟨a1, a2⟩
      · rw [a2.2 _ (by omega)]; exact w
      · rw [a2]; exact w
  · by_cases z : x = c.toNat
    · rw [z]; exact e3.1
    · rw [e3.2 x z]; exact h.2.2.2 x (by omega)
/-- the ways round found so far -/
def RNL (U : AirD) (S : Int → Prop) (P : Nat → Prop) (c : Int) (t : PS) : Prop := ∀ x, x < uN U → P x → (cHt P x : Int) < c → RNR S (fsA U x) (lsA U x) (iC t 403 x) (fun k => iC t (405 + x) k)
theorem rnl_0 {U : AirD} {S : Int → Prop} {P : Nat → Prop} {t : PS} : RNL U S P 0 t := fun x _ _ h => absurd h (by omega)
theorem rnl_up {U : AirD} {S : Int → Prop} {P : Nat → Prop} {c b : Int} {t u : PS} (h : RNL U S P c t) (hn : uN U ≤ 12) (b0 : 0 ≤ b) (hb : P b.toNat) (e : (cHt P b.toNat : Int) = c) (r : RNR S (fsA U b.toNat) (lsA U b.toNat) (iC u 403 b.toNat) (fun k => iC u (405 + b.toNat) k)) (k : RKP b t u) : RNL U S P (c + 1) u := fun x hx p hc => by
  by_cases z : x = b.toNat
  · rw [z]; exact r
  · have ne : cHt P x ≠ cHt P b.toNat := fun w => z (cht_inj p hb w)
    rw [k.1 x z, show (fun i => iC u (405 + x) i) = fun i => iC t (405 + x) i from funext (fun i => k.2 x i (by omega) z)]
    exact h x hx p (by omega)
theorem slm_of {U : AirD} {S : Int → Prop} {q : Nat} {ft : Int → Prop} {a b : Int} {s t : PS} (g : GTQ U S q ft none 0 0 a b s t) : BSO9 U (hitP U S q) (slB U S q ft a b) t := by
  have z := g.1
  have e : trB (hmoS U S q) (hrdS U S q) ft (cHt (hitP U S q) (uN U)) (cHt (hitP U S q) (uN U) - (0 : Int).toNat) (mdM s) 0 a b none = slB U S q ft a b := trb_c (fun _ _ => ⟨rfl, rfl⟩) _ (Nat.le_refl _) (fun j hj => absurd hj (by omega))
  rw [e] at z
  exact z
theorem bso9_0 {U : AirD} {P : Nat → Prop} {B : MdO} {s : PS} (h : BSO9 U P B s) (e : iI s 106 = -1) : B = none := by
  cases B with
  | none => rfl
  | some b =>
    have h1 := h.1
    omega
theorem bso9_1 {U : AirD} {P : Nat → Prop} {B : MdO} {s : PS} (h : BSO9 U P B s) (e : iI s 106 ≠ -1) : ∃ b, B = some b ∧ iI s 106 = b.1 ∧ (∀ j, j < cHt P (uN U) → iC s 402 (hAt P j) = b.2 j) ∧ ∀ x, x < uN U → ¬ P x → iC s 402 x = 0 := by
  cases B with
  | none => exact absurd (show iI s 106 = -1 from h) e
  | some b => exact ⟨b, rfl, h.1.1, h.2.1, h.2.2⟩
theorem mnm_m {U : AirD} {S : Int → Prop} {q : Nat} {ft : Int → Prop} {a b p e : Int} {t : PS} (h : BSO9 U (hitP U S q) (slB U S q ft a b) t) (hb : iI t 106 ≠ -1) (hn : cHt (hitP U S q) (uN U) ≤ 8) (he : p = -1 ∧ e = iI t 106) : MNE U S q ft a b p e := by
  obtain ⟨c, c1, c2, c3⟩ := bso9_1 h hb
  exact Or.inr (Or.inr ⟨by omega, hn, c, c1, Or.inl ⟨he.1, he.2.trans c2⟩⟩)
theorem mnm_s {U : AirD} {S : Int → Prop} {q : Nat} {ft : Int → Prop} {a b p e : Int} {t : PS} (h : BSO9 U (hitP U S q) (slB U S q ft a b) t) (hb : iI t 106 ≠ -1) (hn : cHt (hitP U S q) (uN U) ≤ 8) (hp : 0 ≤ p) (he : (p < (uN U : Int) ∧ e = iC t 402 p.toNat) ∨ ((uN U : Int) ≤ p ∧ e = 0)) : MNE U S q ft a b p e := by
  obtain ⟨c, c1, c2, c3, c4⟩ := bso9_1 h hb
  refine Or.inr (Or.inr ⟨by omega, hn, c, c1, Or.inr ⟨hp, ?_⟩⟩)
  have ha : ∀ i, i < cHt (hitP U S q) (uN U) → hAt (hitP U S q) i < uN U ∧ hitP U S q (hAt (hitP U S q) i) := fun i hi => by
    obtain ⟨s1, s2, s3, s4⟩ := cht_at hi
    rw [hat_eq s3 s4]; exact ⟨s2, s3⟩
  rcases he with ⟨e1, e2⟩ | ⟨e1, e2⟩
  · by_cases w : hitP U S q p.toNat
    · have hl := cht_lt (P := hitP U S q) (m := p.toNat) (n := uN U) (by omega) w
      have e : hAt (hitP U S q) (cHt (hitP U S q) p.toNat) = p.toNat := hat_eq w rfl
      refine Or.inl ⟨cHt (hitP U S q) p.toNat, hl, by rw [e]; omega, ?_⟩
      rw [e2, ← c3 _ hl, e]
    · exact Or.inr ⟨fun i hi z => w (by rw [show p.toNat = hAt (hitP U S q) i by omega]; exact (ha i hi).2), e2.trans (c4 _ (by omega) w)⟩
  · exact Or.inr ⟨fun i hi z => by have := (ha i hi).1; omega, e2⟩
/-- both sides: the same storm, the same pieces and limits, the same answer -/
theorem st_eq {s : PS} (h : SEQ s) (b : ∀ j, j < 128 → 0 ≤ iC s 399 j ∧ iC s 399 j ≤ 1) : stS s = stM s := funext (fun c => propext (by
  unfold stS stM
  constructor
  · rintro ⟨c0, c1⟩
    have := (h c c0.1 c0.2).mp c1
    exact ⟨c0, by omega⟩
  · rintro ⟨c0, c1⟩
    have := b c.toNat (by omega)
    exact ⟨c0, (h c c0.1 c0.2).mpr (by omega)⟩))
theorem fitk_c {U : AirD} {S : Int → Prop} {q : Nat} {f f' lim lim' : Nat → Int} (hf : ∀ j, j < 128 → f j = f' j) (hl : ∀ p, p < 8 → lim p = lim' p) : fitK9 U S q f lim = fitK9 U S q f' lim' := by
  have e : ∀ p : Int, pcS f p = pcS f' p := fun p => funext (fun x => propext (by
    unfold pcS
    constructor
    · rintro ⟨a, b⟩
      exact ⟨a, by rw [← hf _ (by omega)]; exact b⟩
    · rintro ⟨a, b⟩
      exact ⟨a, by rw [hf _ (by omega)]; exact b⟩))
  funext k
  refine propext ?_
  unfold fitK9 fitN ldK9 presF
  simp only [e]
  constructor
  · intro z p hp w
    rw [← hl p (by omega)]; exact z p hp w
  · intro z p hp w
    rw [hl p (by omega)]; exact z p hp w
theorem hat_at {P : Nat → Prop} {n i : Nat} (h : i < cHt P n) : cHt P (hAt P i) = i := by
  obtain ⟨s1, s2, s3, s4⟩ := cht_at h
  rw [hat_eq s3 s4]; exact s4
theorem mne_un {U : AirD} {S : Int → Prop} {q : Nat} {ft : Int → Prop} {a b p e e' : Int} (h : MNE U S q ft a b p e) (h' : MNE U S q ft a b p e') : e = e' := by
  rcases h with ⟨a1, a2, a3⟩ | ⟨a1, a2, a3⟩ | ⟨a1, a2, c, c1, c2⟩
  · rcases h' with ⟨b1, b2, b3⟩ | ⟨b1, b2, b3⟩ | ⟨b1, b2, d, d1, d2⟩
    · exact (of_to a2 a3).trans (of_to b2 b3).symm
    · exact absurd a1 b1
    · exact absurd a1 b1
  · rcases h' with ⟨b1, b2, b3⟩ | ⟨b1, b2, b3⟩ | ⟨b1, b2, d, d1, d2⟩
    · exact absurd b1 a1
    · exact a3.trans b3.symm
    · rcases a2 with w | w
      · omega
      · rw [w] at d1; cases d1
  · rcases h' with ⟨b1, b2, b3⟩ | ⟨b1, b2, b3⟩ | ⟨b1, b2, d, d1, d2⟩
    · exact absurd b1 a1
    · rcases b2 with w | w
      · omega
      · rw [w] at c1; cases c1
    · rw [c1] at d1
      cases d1
      rcases c2 with ⟨x1, x2⟩ | ⟨x1, x2⟩
      · rcases d2 with ⟨y1, y2⟩ | ⟨y1, y2⟩
        · exact x2.trans y2.symm
        · omega
      · rcases d2 with ⟨y1, y2⟩ | ⟨y1, y2⟩
        · omega
        · rcases x2 with ⟨i, i1, i2, i3⟩ | ⟨i1, i2⟩
          · rcases y2 with ⟨j, j1, j2, j3⟩ | ⟨j1, j2⟩
            · have e1 := hat_at i1
              have e2 := hat_at j1
              have e3 : hAt (hitP U S q) i = hAt (hitP U S q) j := by omega
              rw [e3, e2] at e1
              rw [i3, j3, e1]
            · exact absurd i2 (j1 i i1)
          · rcases y2 with ⟨j, j1, j2, j3⟩ | ⟨j1, j2⟩
            · exact absurd j2 (i1 j j1)
            · exact i2.trans j2.symm
section M87ld
variable {l : Launch} {s0 : State} {D : va_G} {tys : List (ClassId × FieldType)} {a0 : Array Value} {A : Nat → Nat} {dT : Nat → ClassId} {s : PS}
set_option maxRecDepth 4000 in
theorem k_mends9 (G : GX l s0 D tys a0 dT) {U : AirD} (hMB : ∀ q x, q < 24 → x < uN U → 0 ≤ uM U q x ∧ uM U q x ≤ 50) (I : Bd s) (jRLx : RLx s) (jMDJ : MDJ U s) {x y z w : Int} (p0 : rng x) (p1 : rng y) (p2 : rng z) (p3 : rng w) (p4 : iI s 89 = 1) : CT l s0 D A dT 286 (rmN 286) [.ref (A 179), .int (Int32.ofInt x), .int (Int32.ofInt y), .int (Int32.ofInt z), .int (Int32.ofInt w)] s (fun o t => Bd t ∧ Fm [73, 105, 106, 77, 75, 78, 79, 80, 81] [401, 400, 403, 404, 232, 402, 405, 406, 407, 408, 409, 410, 411, 412, 413, 414, 415, 416, 202, 204, 205, 206, 207, 208, 209, 210, 211, 212, 213, 214, 215, 216, 217, 218, 219, 220, 221, 222, 223, 224, 225, 226, 227, 203, 161, 230] s t ∧ RLx t ∧ ∃ e, o = .inl (some (.int (Int32.ofInt e))) ∧ rng e ∧ (((0 ≤ x ∧ x ≤ 23) ∧ (0 ≤ y ∧ y ≤ 8) ∧ (0 ≤ z ∧ z ≤ 8) ∧ (-2 ≤ w ∧ w ≤ 11) ∧ iI t 73 = 0 ∧ MNE U (stM s) (x : Int).toNat (fitK9 U (stM s) (x : Int).toNat (pfM s) (fun j => iC s 229 j)) y z w e) ∨ ((x < 0 ∨ 23 < x ∨ y < 0 ∨ 8 < y ∨ z < 0 ∨ 8 < z ∨ w < -2 ∨ 11 < w) ∧ iI t 73 = 1))) := by
  refine ct_of G (by decide) (Nat.le_of_ble_eq_true rfl) (fun k X E hRt hXt q => ?_)
  show WS k 0 [(0, .ref (A 179)), (1, .int (Int32.ofInt x)), (2, .int (Int32.ofInt y)), (3, .int (Int32.ofInt z)), (4, .int (Int32.ofInt w))] [] _ 0 0
  have F : Fm [73, 105, 106, 77, 75, 78, 79, 80, 81] [401, 400, 403, 404, 232, 402, 405, 406, 407, 408, 409, 410, 411, 412, 413, 414, 415, 416, 202, 204, 205, 206, 207, 208, 209, 210, 211, 212, 213, 214, 215, 216, 217, 218, 219, 220, 221, 222, 223, 224, 225, 226, 227, 203, 161, 230] s s := fm_rf _ _ s
  have b1 := bi_73 I
  have b2 := bi_105 I
  have b3 := bi_90 I
  have b4 := bi_106 I
  have b5 := bi_89 I
  have L73 : ∀ (n : Nat) (t : PS) (bi av : Int), Bd t → Fm [73, 105, 106, 77, 75, 78, 79, 80, 81] [401, 400, 403, 404, 232, 402, 405, 406, 407, 408, 409, 410, 411, 412, 413, 414, 415, 416, 202, 204, 205, 206, 207, 208, 209, 210, 211, 212, 213, 214, 215, 216, 217, 218, 219, 220, 221, 222, 223, 224, 225, 226, 227, 203, 161, 230] s t → RLx t → MDJ U t → (HSQ (hitP U (stM s) (x : Int).toNat) av bi t) → ((0 ≤ x ∧ x ≤ 23) ∧ (0 ≤ y ∧ y ≤ 8) ∧ (0 ≤ z ∧ z ≤ 8) ∧ (-2 ≤ w ∧ w ≤ 11) ∧ iI t 73 = 0 ∧ iI t 89 = 1 ∧ iI t 90 = iI s 90 ∧ (iI s 90 = (uN U : Int) ∧ uN U ≤ 12) ∧ rng bi ∧ (0 ≤ av ∧ av ≤ iI s 90) ∧ (0 ≤ iI t 105 ∧ iI t 105 ≤ av)) → (12 - av : Int).toNat < n → (∀ (t' : PS) (bi' av' : Int), Bd t' → Fm [73, 105, 106, 77, 75, 78, 79, 80, 81] [401, 400, 403, 404, 232, 402, 405, 406, 407, 408, 409, 410, 411, 412, 413, 414, 415, 416, 202, 204, 205, 206, 207, 208, 209, 210, 211, 212, 213, 214, 215, 216, 217, 218, 219, 220, 221, 222, 223, 224, 225, 226, 227, 203, 161, 230] s t' → RLx t' → MDJ U t' → (HSQ (hitP U (stM s) (x : Int).toNat) av' bi' t') → ((0 ≤ x ∧ x ≤ 23) ∧ (0 ≤ y ∧ y ≤ 8) ∧ (0 ≤ z ∧ z ≤ 8) ∧ (-2 ≤ w ∧ w ≤ 11) ∧ iI t' 73 = 0 ∧ iI t' 89 = 1 ∧ iI t' 90 = iI s 90 ∧ (iI s 90 = (uN U : Int) ∧ uN U ≤ 12) ∧ rng bi' ∧ av' = iI s 90 ∧ (0 ≤ iI t' 105 ∧ iI t' 105 ≤ 12)) → WS k 148 [(0, .ref (A 179)), (1, .int (Int32.ofInt x)), (2, .int (Int32.ofInt y)), (3, .int (Int32.ofInt z)), (4, .int (Int32.ofInt w)), (5, .int (Int32.ofInt bi')), (6, .int (Int32.ofInt av'))] [] (Wd A dT t') 0 0) → WS k 73 [(0, .ref (A 179)), (1, .int (Int32.ofInt x)), (2, .int (Int32.ofInt y)), (3, .int (Int32.ofInt z)), (4, .int (Int32.ofInt w)), (5, .int (Int32.ofInt bi)), (6, .int (Int32.ofInt av))] [] (Wd A dT t) 0 0 := by
    intro n
    induction n with
    | zero =>
      intro t bi av I F jjRLx jjMDJ hq hi hm kx
      exact absurd hm (Nat.not_lt_zero _)
    | succ n ih =>
      intro t bi av I F jjRLx jjMDJ hq hi hm kx
      have b1001 := bi_73 I
      have b1002 := bi_105 I
      have b1003 := bi_90 I
      have b1004 := bi_106 I
      have b1005 := bi_89 I
      refine z_load X (x := av) rfl (List.Mem.tail _ (List.Mem.tail _ (List.Mem.tail _ (List.Mem.tail _ (List.Mem.tail _ (List.Mem.tail _ (List.Mem.head _))))))) (z_aload_n X (x := A 179) rfl (List.Mem.head _) (z_getI X 179 rfl (c518_ok rfl) rfl rfl ?_))
      have b1006 := bi_90 I
      refine z_icmp_ge X (t := 148) rfl rfl ⟨by first | exact oq_fa4e5087 hi.2.2.2.2.2.2.2.2.2.1.1 | omega, by first | exact oq_39d2cc6e hi.2.2.2.2.2.2.2.2.2.1.2 b3.2 | omega⟩ (rng_to _) (fun g1007 => ?_) (fun g1007 => ?_)
      ·
        refine WS_pq [0, 1, 2, 3, 4, 5, 6] (lv' := [(0, .ref (A 179)), (1, .int (Int32.ofInt x)), (2, .int (Int32.ofInt y)), (3, .int (Int32.ofInt z)), (4, .int (Int32.ofInt w)), (5, .int (Int32.ofInt bi)), (6, .int (Int32.ofInt av))]) rfl ?_
        exact kx _ bi av I F jjRLx jjMDJ hq (by first | exact ⟨And.intro (hi.1.1) (hi.1.2), And.intro (hi.2.1.1) (hi.2.1.2), And.intro (hi.2.2.1.1) (hi.2.2.1.2), And.intro (hi.2.2.2.1.1) (hi.2.2.2.1.2), hi.2.2.2.2.1, hi.2.2.2.2.2.1, hi.2.2.2.2.2.2.1, And.intro (hi.2.2.2.2.2.2.2.1.1) (hi.2.2.2.2.2.2.2.1.2), And.intro (hi.2.2.2.2.2.2.2.2.1.1) (hi.2.2.2.2.2.2.2.2.1.2), oq_537ca82a hi.2.2.2.2.2.2.2.2.2.1.2 g1007 hi.2.2.2.2.2.2.1, b1002.1, b1002.2⟩ | omega)
      ·
        refine z_aload_n X (x := A 179) rfl (List.Mem.head _) (s_getR X 179 rfl (c518_ok rfl) rfl rfl (z_load X (x := av) rfl (List.Mem.tail _ (List.Mem.tail _ (List.Mem.tail _ (List.Mem.tail _ (List.Mem.tail _ (List.Mem.tail _ (List.Mem.head _))))))) (z_const X rfl (z_ast X 456 rfl (c518_ok rfl) rfl (by first | exact hi.2.2.2.2.2.2.2.2.2.1.1 | omega) (show av < 12 by first | exact oq_f36e82a8 g1007 b1006.2 | omega) (cbig_ok rfl) (wd_gen (fun s1008 hs1008 => ?_))))))
        have Is1008 : Bd s1008 := eqB hs1008 (bd_C I (show (0 : Int) ≤ 0 ∧ 0 ≤ 3 by first | exact ⟨by decide, by decide⟩ | omega) (by decide))
        have Fs1008 := eqF hs1008 (fm_C F (inl_ok (a := 401) rfl))
        have ws1008_73 : iI s1008 73 = iI t 73 := eqI hs1008 rfl
        have ws1008_105 : iI s1008 105 = iI t 105 := eqI hs1008 rfl
        have ws1008_90 : iI s1008 90 = iI t 90 := eqI hs1008 rfl
        have ws1008_106 : iI s1008 106 = iI t 106 := eqI hs1008 rfl
        have ws1008_89 : iI s1008 89 = iI t 89 := eqI hs1008 rfl
        have aws1008_401 : UPD 401 (av) 0 t s1008 := by rw [hs1008]; exact upd_put (sam_rf (a := 401) (s := t)) (by decide)
        have aws1008_400 : SAM 400 t s1008 := by rw [hs1008]; exact sam_C (by decide) (sam_rf (a := 400) (s := t))
        have fs1008 : Fm [] [401] t s1008 := by rw [hs1008]; exact fm_C (fm_rf _ _ _) (show 401 ∈ _ by decide)
        have JRLx_s1008 : RLx s1008 := RLx_fm fs1008 (by decide) jjRLx
        have JMDJ_s1008 : MDJ U s1008 := MDJ_fm fs1008 (by decide) jjMDJ
        refine z_aload_n X (x := A 179) rfl (List.Mem.head _) (z_load X (x := av) rfl (List.Mem.tail _ (List.Mem.tail _ (List.Mem.tail _ (List.Mem.tail _ (List.Mem.tail _ (List.Mem.tail _ (List.Mem.head _))))))) (z_load_n X (x := x) rfl (List.Mem.tail _ (List.Mem.head _)) (zcV_i0 X E 179 (As := [.int (Int32.ofInt av), .int (Int32.ofInt x)]) (st := []) rfl rfl rfl rfl (k_isHit9 G Is1008 JMDJ_s1008 (by first | exact ⟨hi.2.2.2.2.2.2.2.2.2.1.1, oq_71f4b7b9 ws1008_90 g1007⟩ | omega) (by first | exact ⟨hi.1.1, hi.1.2⟩ | omega)) rfl (Nat.le_of_ble_eq_true rfl) (fun s1009 e1010 Is1009 Fs1009 hrs1009 hps1009 => ?_))))
        have Gs1009 := fm_tq Fs1008 Fs1009 rfl rfl
        have JRLx_s1009 : RLx s1009 := RLx_fm Fs1009 (by decide) JRLx_s1008
        have JMDJ_s1009 : MDJ U s1009 := MDJ_fm Fs1009 (by decide) JMDJ_s1008
        have ws1009_73 : iI s1009 73 = iI s1008 73 := fm_iq Fs1009 rfl
        have ws1009_105 : iI s1009 105 = iI s1008 105 := fm_iq Fs1009 rfl
        have ws1009_90 : iI s1009 90 = iI s1008 90 := fm_iq Fs1009 rfl
        have ws1009_106 : iI s1009 106 = iI s1008 106 := fm_iq Fs1009 rfl
        have ws1009_89 : iI s1009 89 = iI s1008 89 := fm_iq Fs1009 rfl
        have aws1009_401 : UPD 401 (av) 0 t s1009 := upd_ts aws1008_401 (sam_fm Fs1009 (by decide))
        have aws1009_400 : SAM 400 t s1009 := sam_ts aws1008_400 (sam_fm Fs1009 (by decide))
        have hhit : (e1010 = 1 ∧ (hitP U (stM s) (x : Int).toNat) (av : Int).toNat) ∨ (e1010 = 0 ∧ ¬ (hitP U (stM s) (x : Int).toNat) (av : Int).toNat) := by have zz := hps1009; rw [show stM s1008 = stM s from stm_s (sam_fm Fs1008 (by decide))] at zz; exact zz
        refine z_if_ne X (t := 103) rfl rfl hrs1009 (fun g1011 => ?_) (fun g1011 => ?_)
        ·
          have hP : (hitP U (stM s) (x : Int).toNat) (av : Int).toNat := hhit.elim (fun zz => zz.2) (fun zz => absurd zz.1 (by first | (clear g1011 hps1009; omega) | (clear hps1009; omega) | omega))
          have hcn := cht_n' (P := (hitP U (stM s) (x : Int).toNat)) (av : Int).toNat
          have hq1 := hq.1
          refine z_load X (x := bi) rfl (List.Mem.tail _ (List.Mem.tail _ (List.Mem.tail _ (List.Mem.tail _ (List.Mem.tail _ (List.Mem.head _)))))) (z_const X rfl (z_load X (x := av) rfl (List.Mem.tail _ (List.Mem.tail _ (List.Mem.tail _ (List.Mem.tail _ (List.Mem.tail _ (List.Mem.tail _ (List.Mem.head _))))))) (z_bshl X rfl (z_anyV (fun y1012 hy1012 ey1012 => ?_)))))
          refine w_ior X.1 (ax_d X (show cdA 286 109 = some (.ior, 1, 0, 0, 0) from rfl)) (z_anyV (fun y1013 hy1013 ey1013 => ?_))
          refine z_store X (lv' := [(5, .int (Int32.ofInt y1013)), (0, .ref (A 179)), (1, .int (Int32.ofInt x)), (2, .int (Int32.ofInt y)), (3, .int (Int32.ofInt z)), (4, .int (Int32.ofInt w)), (6, .int (Int32.ofInt av))]) rfl (by decide) (fun _ h => h) (z_aload_n X (x := A 179) rfl (List.Mem.tail _ (List.Mem.head _)) (z_getI X 179 rfl (c518_ok rfl) rfl rfl ?_))
          have b1014 := bi_105 Is1009
          refine z_bipush X rfl (z_icmp_ge X (t := 132) rfl rfl (rng_to _) (by decide) (fun g1015 => ?_) (fun g1015 => ?_))
          ·
            refine z_aload_n X (x := A 179) rfl (List.Mem.tail _ (List.Mem.head _)) (w_dup X.1 (ax_d X (show cdA 286 133 = some (.dup, 1, 0, 0, 0) from rfl)) rfl (z_getI X 179 rfl (c518_ok rfl) rfl rfl ?_))
            have b1016 := bi_105 Is1009
            refine z_const X rfl (z_add X rfl (s_putI X 179 rfl (c518_ok rfl) rfl rfl (by decide) rfl rfl rfl (wd_gen (fun s1017 hs1017 => ?_))))
            have Is1017 : Bd s1017 := eqB hs1017 (bd_I Is1009 (show (0 : Int) ≤ ((iI s1009 105) + 1) ∧ ((iI s1009 105) + 1) ≤ 12 by first | exact ⟨oq_54f49eb5 b1016.1, oq_1fea0193 ws1009_105 ws1008_105 hi.2.2.2.2.2.2.2.2.2.2.2 g1007 b1006.2⟩ | omega) ⟨by first | exact oq_74de1e16 b1016.1 | omega, by first | exact oq_76a8a5b7 b1016.2 | omega⟩)
            have Fs1017 := eqF hs1017 (fm_I Gs1009 (inl_ok (a := 105) rfl))
            have vs1017 : iI s1017 105 = ((iI s1009 105) + 1) := eqI hs1017 (iI_u ⟨by first | exact oq_74de1e16 b1016.1 | omega, by first | exact oq_76a8a5b7 b1016.2 | omega⟩)
            have ws1017_73 : iI s1017 73 = iI s1009 73 := eqI hs1017 rfl
            have ws1017_90 : iI s1017 90 = iI s1009 90 := eqI hs1017 rfl
            have ws1017_106 : iI s1017 106 = iI s1009 106 := eqI hs1017 rfl
            have ws1017_89 : iI s1017 89 = iI s1009 89 := eqI hs1017 rfl
            have aws1017_401 : UPD 401 (av) 0 t s1017 := by rw [hs1017]; exact aws1009_401
            have aws1017_400 : SAM 400 t s1017 := by rw [hs1017]; exact aws1009_400
            have fs1017 : Fm [105] [] s1009 s1017 := by rw [hs1017]; exact fm_I (fm_rf _ _ _) (show 105 ∈ _ by decide)
            have JRLx_s1017 : RLx s1017 := RLx_fm fs1017 (by decide) JRLx_s1009
            have JMDJ_s1017 : MDJ U s1017 := MDJ_fm fs1017 (by decide) JMDJ_s1009
            refine z_inc X (x := av) (lv' := [(6, .int (Int32.ofInt (av + 1))), (5, .int (Int32.ofInt y1013)), (0, .ref (A 179)), (1, .int (Int32.ofInt x)), (2, .int (Int32.ofInt y)), (3, .int (Int32.ofInt z)), (4, .int (Int32.ofInt w))]) rfl (by decide) (List.Mem.tail _ (List.Mem.tail _ (List.Mem.tail _ (List.Mem.tail _ (List.Mem.tail _ (List.Mem.tail _ (List.Mem.head _))))))) (fun _ h => h) (z_goto X (t := 73) rfl rfl (WS_pq [2, 3, 4, 5, 6, 1, 0] (lv' := [(0, .ref (A 179)), (1, .int (Int32.ofInt x)), (2, .int (Int32.ofInt y)), (3, .int (Int32.ofInt z)), (4, .int (Int32.ofInt w)), (5, .int (Int32.ofInt y1013)), (6, .int (Int32.ofInt (av + 1)))]) rfl ?_))
            exact ih _ y1013 (av + 1) Is1017 Fs1017 JRLx_s1017 JMDJ_s1017 (hsq_y hq (by first | (clear g1011 hps1009; omega) | (clear hps1009; omega) | omega) hP (by first | (clear g1011 hps1009; omega) | (clear hps1009; omega) | omega) (Or.inr ⟨by first | (clear g1011 hps1009; omega) | (clear hps1009; omega) | omega, aws1017_400⟩) aws1017_401 ey1012 ey1013) (by first | exact ⟨And.intro (hi.1.1) (hi.1.2), And.intro (hi.2.1.1) (hi.2.1.2), And.intro (hi.2.2.1.1) (hi.2.2.1.2), And.intro (hi.2.2.2.1.1) (hi.2.2.2.1.2), oq_0f72f93b ws1017_73 ws1009_73 ws1008_73 hi.2.2.2.2.1 b1001.1, oq_29301542 ws1017_89 ws1009_89 ws1008_89 hi.2.2.2.2.2.1 b1005.1, oq_ac0e91e1 ws1017_90 ws1009_90 ws1008_90 hi.2.2.2.2.2.2.1, And.intro (hi.2.2.2.2.2.2.2.1.1) (hi.2.2.2.2.2.2.2.1.2), And.intro (hy1013.1) (hy1013.2), And.intro (oq_54f49eb5 hi.2.2.2.2.2.2.2.2.2.1.1) (oq_8a89b3ae g1007 hi.2.2.2.2.2.2.1), oq_b50d5e62 vs1017 b1016.1, oq_9004941c vs1017 hi.2.2.2.2.2.2.2.2.2.2.2 ws1008_105 ws1009_105⟩ | omega) (by first | exact qk_me hm (by decide) (oq_b575e8c1 g1007 b1006.2) | omega) kx
          ·
            refine z_aload_n X (x := A 179) rfl (List.Mem.tail _ (List.Mem.head _)) (s_getR X 179 rfl (c518_ok rfl) rfl rfl (z_aload_n X (x := A 179) rfl (List.Mem.tail _ (List.Mem.head _)) (z_getI X 179 rfl (c518_ok rfl) rfl rfl ?_)))
            have b1018 := bi_105 Is1009
            refine z_load X (x := av) rfl (List.Mem.tail _ (List.Mem.tail _ (List.Mem.tail _ (List.Mem.tail _ (List.Mem.tail _ (List.Mem.tail _ (List.Mem.head _))))))) (z_ast X 455 rfl (c518_ok rfl) rfl (by first | exact b1018.1 | omega) (show (iI s1009 105) < 8 by first | exact g1015 | omega) (cbig_ok rfl) (wd_gen (fun s1019 hs1019 => ?_)))
            have Is1019 : Bd s1019 := eqB hs1019 (bd_C Is1009 (show (0 : Int) ≤ av ∧ av ≤ 11 by first | exact ⟨hi.2.2.2.2.2.2.2.2.2.1.1, oq_e4d7f3c5 g1007 b1006.2⟩ | omega) ⟨by first | exact oq_fa4e5087 hi.2.2.2.2.2.2.2.2.2.1.1 | omega, by first | exact oq_8be37138 g1007 b1006.2 | omega⟩)
            have Fs1019 := eqF hs1019 (fm_C Gs1009 (inl_ok (a := 400) rfl))
            have ws1019_73 : iI s1019 73 = iI s1009 73 := eqI hs1019 rfl
            have ws1019_105 : iI s1019 105 = iI s1009 105 := eqI hs1019 rfl
            have ws1019_90 : iI s1019 90 = iI s1009 90 := eqI hs1019 rfl
            have ws1019_106 : iI s1019 106 = iI s1009 106 := eqI hs1019 rfl
            have ws1019_89 : iI s1019 89 = iI s1009 89 := eqI hs1019 rfl
            have aws1019_401 : UPD 401 (av) 0 t s1019 := by rw [hs1019]; exact upd_C (by decide) aws1009_401
            have aws1019_400 : UPD 400 ((iI s1009 105)) av t s1019 := by rw [hs1019]; exact upd_put aws1009_400 ⟨by first | exact oq_fa4e5087 hi.2.2.2.2.2.2.2.2.2.1.1 | omega, by first | exact oq_8be37138 g1007 b1006.2 | omega⟩
            have fs1019 : Fm [] [400] s1009 s1019 := by rw [hs1019]; exact fm_C (fm_rf _ _ _) (show 400 ∈ _ by decide)
            have JRLx_s1019 : RLx s1019 := RLx_fm fs1019 (by decide) JRLx_s1009
            have JMDJ_s1019 : MDJ U s1019 := MDJ_fm fs1019 (by decide) JMDJ_s1009
            refine z_aload_n X (x := A 179) rfl (List.Mem.tail _ (List.Mem.head _)) (w_dup X.1 (ax_d X (show cdA 286 133 = some (.dup, 1, 0, 0, 0) from rfl)) rfl (z_getI X 179 rfl (c518_ok rfl) rfl rfl ?_))
            have b1020 := bi_105 Is1019
            refine z_const X rfl (z_add X rfl (s_putI X 179 rfl (c518_ok rfl) rfl rfl (by decide) rfl rfl rfl (wd_gen (fun s1021 hs1021 => ?_))))
            have Is1021 : Bd s1021 := eqB hs1021 (bd_I Is1019 (show (0 : Int) ≤ ((iI s1019 105) + 1) ∧ ((iI s1019 105) + 1) ≤ 12 by first | exact ⟨oq_54f49eb5 b1020.1, oq_8860b8cf ws1019_105 g1015⟩ | omega) ⟨by first | exact oq_74de1e16 b1020.1 | omega, by first | exact oq_76a8a5b7 b1020.2 | omega⟩)
            have Fs1021 := eqF hs1021 (fm_I Fs1019 (inl_ok (a := 105) rfl))
            have vs1021 : iI s1021 105 = ((iI s1019 105) + 1) := eqI hs1021 (iI_u ⟨by first | exact oq_74de1e16 b1020.1 | omega, by first | exact oq_76a8a5b7 b1020.2 | omega⟩)
            have ws1021_73 : iI s1021 73 = iI s1019 73 := eqI hs1021 rfl
            have ws1021_90 : iI s1021 90 = iI s1019 90 := eqI hs1021 rfl
            have ws1021_106 : iI s1021 106 = iI s1019 106 := eqI hs1021 rfl
            have ws1021_89 : iI s1021 89 = iI s1019 89 := eqI hs1021 rfl
            have aws1021_401 : UPD 401 (av) 0 t s1021 := by rw [hs1021]; exact aws1019_401
            have aws1021_400 : UPD 400 ((iI s1009 105)) av t s1021 := by rw [hs1021]; exact aws1019_400
            have fs1021 : Fm [105] [] s1019 s1021 := by rw [hs1021]; exact fm_I (fm_rf _ _ _) (show 105 ∈ _ by decide)
            have JRLx_s1021 : RLx s1021 := RLx_fm fs1021 (by decide) JRLx_s1019
            have JMDJ_s1021 : MDJ U s1021 := MDJ_fm fs1021 (by decide) JMDJ_s1019
            refine z_inc X (x := av) (lv' := [(6, .int (Int32.ofInt (av + 1))), (5, .int (Int32.ofInt y1013)), (0, .ref (A 179)), (1, .int (Int32.ofInt x)), (2, .int (Int32.ofInt y)), (3, .int (Int32.ofInt z)), (4, .int (Int32.ofInt w))]) rfl (by decide) (List.Mem.tail _ (List.Mem.tail _ (List.Mem.tail _ (List.Mem.tail _ (List.Mem.tail _ (List.Mem.tail _ (List.Mem.head _))))))) (fun _ h => h) (z_goto X (t := 73) rfl rfl (WS_pq [2, 3, 4, 5, 6, 1, 0] (lv' := [(0, .ref (A 179)), (1, .int (Int32.ofInt x)), (2, .int (Int32.ofInt y)), (3, .int (Int32.ofInt z)), (4, .int (Int32.ofInt w)), (5, .int (Int32.ofInt y1013)), (6, .int (Int32.ofInt (av + 1)))]) rfl ?_))
            exact ih _ y1013 (av + 1) Is1021 Fs1021 JRLx_s1021 JMDJ_s1021 (hsq_y hq (by first | (clear g1011 hps1009; omega) | (clear hps1009; omega) | omega) hP (by first | (clear g1011 hps1009; omega) | (clear hps1009; omega) | omega) (Or.inl ⟨by first | (clear g1011 hps1009; omega) | (clear hps1009; omega) | omega, upd_ix aws1021_400 (by first | (clear g1011 hps1009; omega) | (clear hps1009; omega) | omega)⟩) aws1021_401 ey1012 ey1013) (by first | exact ⟨And.intro (hi.1.1) (hi.1.2), And.intro (hi.2.1.1) (hi.2.1.2), And.intro (hi.2.2.1.1) (hi.2.2.1.2), And.intro (hi.2.2.2.1.1) (hi.2.2.2.1.2), oq_d0299403 ws1021_73 ws1019_73 ws1009_73 ws1008_73 hi.2.2.2.2.1 b1001.1, oq_094d069b ws1021_89 ws1019_89 ws1009_89 ws1008_89 hi.2.2.2.2.2.1 b1005.1, oq_469c7eaf ws1021_90 ws1019_90 ws1009_90 ws1008_90 hi.2.2.2.2.2.2.1, And.intro (hi.2.2.2.2.2.2.2.1.1) (hi.2.2.2.2.2.2.2.1.2), And.intro (hy1013.1) (hy1013.2), And.intro (oq_54f49eb5 hi.2.2.2.2.2.2.2.2.2.1.1) (oq_8a89b3ae g1007 hi.2.2.2.2.2.2.1), oq_b50d5e62 vs1021 b1020.1, oq_a50d5726 vs1021 hi.2.2.2.2.2.2.2.2.2.2.2 ws1019_105 ws1008_105 ws1009_105⟩ | omega) (by first | exact qk_me hm (by decide) (oq_b575e8c1 g1007 b1006.2) | omega) kx
        ·
          refine z_goto X (t := 142) rfl rfl (z_inc X (x := av) (lv' := [(6, .int (Int32.ofInt (av + 1))), (0, .ref (A 179)), (1, .int (Int32.ofInt x)), (2, .int (Int32.ofInt y)), (3, .int (Int32.ofInt z)), (4, .int (Int32.ofInt w)), (5, .int (Int32.ofInt bi))]) rfl (by decide) (List.Mem.tail _ (List.Mem.tail _ (List.Mem.tail _ (List.Mem.tail _ (List.Mem.tail _ (List.Mem.tail _ (List.Mem.head _))))))) (fun _ h => h) (z_goto X (t := 73) rfl rfl (WS_pq [1, 2, 3, 4, 5, 6, 0] (lv' := [(0, .ref (A 179)), (1, .int (Int32.ofInt x)), (2, .int (Int32.ofInt y)), (3, .int (Int32.ofInt z)), (4, .int (Int32.ofInt w)), (5, .int (Int32.ofInt bi)), (6, .int (Int32.ofInt (av + 1)))]) rfl ?_)))
          exact ih _ bi (av + 1) Is1009 Gs1009 JRLx_s1009 JMDJ_s1009 (hsq_n hq (by first | (clear hps1009; omega) | omega) (hhit.elim (fun zz => absurd zz.1 (by first | (clear hps1009; omega) | omega)) (fun zz => zz.2)) (by first | (clear hps1009; omega) | omega) aws1009_400 aws1009_401) (by first | exact ⟨And.intro (hi.1.1) (hi.1.2), And.intro (hi.2.1.1) (hi.2.1.2), And.intro (hi.2.2.1.1) (hi.2.2.1.2), And.intro (hi.2.2.2.1.1) (hi.2.2.2.1.2), oq_7fe879e0 ws1009_73 ws1008_73 hi.2.2.2.2.1 b1001.1, oq_f34933ba ws1009_89 ws1008_89 hi.2.2.2.2.2.1 b1005.1, oq_878618b1 ws1009_90 ws1008_90 hi.2.2.2.2.2.2.1, And.intro (hi.2.2.2.2.2.2.2.1.1) (hi.2.2.2.2.2.2.2.1.2), And.intro (hi.2.2.2.2.2.2.2.2.1.1) (hi.2.2.2.2.2.2.2.2.1.2), And.intro (oq_54f49eb5 hi.2.2.2.2.2.2.2.2.2.1.1) (oq_8a89b3ae g1007 hi.2.2.2.2.2.2.1), oq_0f93fca7 ws1009_105 ws1008_105 b1002.1, oq_2e1f687c ws1009_105 hi.2.2.2.2.2.2.2.2.2.2.2 ws1008_105⟩ | omega) (by first | exact qk_me hm (by decide) (oq_b575e8c1 g1007 b1006.2) | omega) kx
  have L177 : ∀ (n : Nat) (t : PS) (iv : Int), Bd t → Fm [73, 105, 106, 77, 75, 78, 79, 80, 81] [401, 400, 403, 404, 232, 402, 405, 406, 407, 408, 409, 410, 411, 412, 413, 414, 415, 416, 202, 204, 205, 206, 207, 208, 209, 210, 211, 212, 213, 214, 215, 216, 217, 218, 219, 220, 221, 222, 223, 224, 225, 226, 227, 203, 161, 230] s t → RLx t → MDJ U t → (RNL U (stM s) (hitP U (stM s) (x : Int).toNat) iv t ∧ HTQ (hitP U (stM s) (x : Int).toNat) (uN U) (fun j => iC t 400 j) ∧ MZJ U (hitP U (stM s) (x : Int).toNat) t) → ((0 ≤ x ∧ x ≤ 23) ∧ (0 ≤ y ∧ y ≤ 8) ∧ (0 ≤ z ∧ z ≤ 8) ∧ (-2 ≤ w ∧ w ≤ 11) ∧ iI t 73 = 0 ∧ iI t 89 = 1 ∧ iI t 90 = iI s 90 ∧ (iI s 90 = (uN U : Int) ∧ uN U ≤ 12) ∧ (0 ≤ iv ∧ iv ≤ iI t 105) ∧ iI t 105 ≤ 8 ∧ iI t 105 = ((cHt (hitP U (stM s) (x : Int).toNat) (uN U)) : Int) ∧ iI t 106 = -1) → (8 - iv : Int).toNat < n → (∀ (t' : PS) (iv' : Int), Bd t' → Fm [73, 105, 106, 77, 75, 78, 79, 80, 81] [401, 400, 403, 404, 232, 402, 405, 406, 407, 408, 409, 410, 411, 412, 413, 414, 415, 416, 202, 204, 205, 206, 207, 208, 209, 210, 211, 212, 213, 214, 215, 216, 217, 218, 219, 220, 221, 222, 223, 224, 225, 226, 227, 203, 161, 230] s t' → RLx t' → MDJ U t' → (RNL U (stM s) (hitP U (stM s) (x : Int).toNat) iv' t' ∧ HTQ (hitP U (stM s) (x : Int).toNat) (uN U) (fun j => iC t' 400 j) ∧ MZJ U (hitP U (stM s) (x : Int).toNat) t') → ((0 ≤ x ∧ x ≤ 23) ∧ (0 ≤ y ∧ y ≤ 8) ∧ (0 ≤ z ∧ z ≤ 8) ∧ (-2 ≤ w ∧ w ≤ 11) ∧ iI t' 73 = 0 ∧ iI t' 89 = 1 ∧ iI t' 90 = iI s 90 ∧ (iI s 90 = (uN U : Int) ∧ uN U ≤ 12) ∧ iv' = iI t' 105 ∧ iI t' 105 ≤ 8 ∧ iI t' 105 = ((cHt (hitP U (stM s) (x : Int).toNat) (uN U)) : Int) ∧ iI t' 106 = -1) → WS k 203 [(0, .ref (A 179)), (1, .int (Int32.ofInt x)), (2, .int (Int32.ofInt y)), (3, .int (Int32.ofInt z)), (4, .int (Int32.ofInt w)), (6, .int (Int32.ofInt iv'))] [] (Wd A dT t') 0 0) → WS k 177 [(0, .ref (A 179)), (1, .int (Int32.ofInt x)), (2, .int (Int32.ofInt y)), (3, .int (Int32.ofInt z)), (4, .int (Int32.ofInt w)), (6, .int (Int32.ofInt iv))] [] (Wd A dT t) 0 0 := by
    intro n
    induction n with
    | zero =>
      intro t iv I F jjRLx jjMDJ hq hi hm kx
      exact absurd hm (Nat.not_lt_zero _)
    | succ n ih =>
      intro t iv I F jjRLx jjMDJ hq hi hm kx
      have b2001 := bi_73 I
      have b2002 := bi_105 I
      have b2003 := bi_90 I
      have b2004 := bi_106 I
      have b2005 := bi_89 I
      refine z_load X (x := iv) rfl (List.Mem.tail _ (List.Mem.tail _ (List.Mem.tail _ (List.Mem.tail _ (List.Mem.tail _ (List.Mem.head _)))))) (z_aload_n X (x := A 179) rfl (List.Mem.head _) (z_getI X 179 rfl (c518_ok rfl) rfl rfl ?_))
      have b2006 := bi_105 I
      refine z_icmp_ge X (t := 203) rfl rfl ⟨by first | exact oq_fa4e5087 hi.2.2.2.2.2.2.2.2.1.1 | omega, by first | exact oq_39d2cc6e hi.2.2.2.2.2.2.2.2.1.2 b2006.2 | omega⟩ (rng_to _) (fun g2007 => ?_) (fun g2007 => ?_)
      ·
        refine WS_pq [0, 1, 2, 3, 4, 5] (lv' := [(0, .ref (A 179)), (1, .int (Int32.ofInt x)), (2, .int (Int32.ofInt y)), (3, .int (Int32.ofInt z)), (4, .int (Int32.ofInt w)), (6, .int (Int32.ofInt iv))]) rfl ?_
        exact kx _ iv I F jjRLx jjMDJ hq (by first | exact ⟨And.intro (hi.1.1) (hi.1.2), And.intro (hi.2.1.1) (hi.2.1.2), And.intro (hi.2.2.1.1) (hi.2.2.1.2), And.intro (hi.2.2.2.1.1) (hi.2.2.2.1.2), hi.2.2.2.2.1, hi.2.2.2.2.2.1, hi.2.2.2.2.2.2.1, And.intro (hi.2.2.2.2.2.2.2.1.1) (hi.2.2.2.2.2.2.2.1.2), oq_daa9f991 hi.2.2.2.2.2.2.2.2.1.2 g2007, hi.2.2.2.2.2.2.2.2.2.1, hi.2.2.2.2.2.2.2.2.2.2.1, hi.2.2.2.2.2.2.2.2.2.2.2⟩ | omega)
      ·
        refine z_aload_n X (x := A 179) rfl (List.Mem.head _) (z_aload_n X (x := A 179) rfl (List.Mem.head _) (s_getR X 179 rfl (c518_ok rfl) rfl rfl (z_load X (x := iv) rfl (List.Mem.tail _ (List.Mem.tail _ (List.Mem.tail _ (List.Mem.tail _ (List.Mem.tail _ (List.Mem.head _)))))) (z_ald X 455 rfl (c518_ok rfl) rfl (by first | exact hi.2.2.2.2.2.2.2.2.1.1 | omega) (show iv < 8 by first | exact oq_7f5b2e79 g2007 hi.2.2.2.2.2.2.2.2.2.1 | omega) (cbig_ok rfl) ?_))))
        have b2008 := bc_400 I (show (iv).toNat < 8 by first | exact oq_67be0351 g2007 hi.2.2.2.2.2.2.2.2.2.1 | omega)
        obtain ⟨b1, hb2, hb3, hb4, hb5⟩ := htq_at hq.2.1 (j := (iv : Int).toNat) (by omega)
        replace hb5 : iC t 400 (iv : Int).toNat = (b1 : Int) := hb5
        have hbn : ((iC t 400 (iv).toNat) : Int).toNat = b1 := by omega
        have hdn := jjMDJ.1.1
        refine zcV_v1 X E 179 (As := [.int (Int32.ofInt (iC t 400 (iv).toNat))]) (st := []) rfl rfl rfl rfl (k_findRound9 G I jjRLx jjMDJ (by first | exact ⟨b2008.1, by omega⟩ | omega)) rfl (Nat.le_of_ble_eq_true rfl) (fun s2009 Is2009 Fs2009 JRLx_s2009 hps2009 => ?_)
        have Gs2009 := fm_tq F Fs2009 rfl rfl
        have JRLx_s2009 : RLx s2009 := RLx_fm Fs2009 (by decide) jjRLx
        have JMDJ_s2009 : MDJ U s2009 := MDJ_fm Fs2009 (by decide) jjMDJ
        have ws2009_73 : iI s2009 73 = iI t 73 := fm_iq Fs2009 rfl
        have ws2009_105 : iI s2009 105 = iI t 105 := fm_iq Fs2009 rfl
        have ws2009_90 : iI s2009 90 = iI t 90 := fm_iq Fs2009 rfl
        have ws2009_106 : iI s2009 106 = iI t 106 := fm_iq Fs2009 rfl
        have ws2009_89 : iI s2009 89 = iI t 89 := fm_iq Fs2009 rfl
        have hR9 := hps2009
        rw [show stM t = stM s from stm_s (sam_fm F (by decide))] at hR9
        have hRN : RNL U (stM s) (hitP U (stM s) (x : Int).toNat) (iv + 1) s2009 := rnl_up (b := (iC t 400 (iv).toNat)) hq.1 (by omega) (by omega) (by rw [hbn]; exact hb3) (by rw [hbn]; omega) hR9.1 hR9.2
        have hHT2 : HTQ (hitP U (stM s) (x : Int).toNat) (uN U) (fun j => iC s2009 400 j) := by rw [show (fun j => iC s2009 400 j) = (fun j => iC t 400 j) from funext (fun j => fm_c Fs2009 (by decide))]; exact hq.2.1
        have hMZ2 : MZJ U (hitP U (stM s) (x : Int).toNat) s2009 := MZJ_fm Fs2009 (by decide) hq.2.2
        refine z_inc X (x := iv) (lv' := [(6, .int (Int32.ofInt (iv + 1))), (0, .ref (A 179)), (1, .int (Int32.ofInt x)), (2, .int (Int32.ofInt y)), (3, .int (Int32.ofInt z)), (4, .int (Int32.ofInt w))]) rfl (by decide) (List.Mem.tail _ (List.Mem.tail _ (List.Mem.tail _ (List.Mem.tail _ (List.Mem.tail _ (List.Mem.head _)))))) (fun _ h => h) (z_goto X (t := 177) rfl rfl (WS_pq [1, 2, 3, 4, 5, 0] (lv' := [(0, .ref (A 179)), (1, .int (Int32.ofInt x)), (2, .int (Int32.ofInt y)), (3, .int (Int32.ofInt z)), (4, .int (Int32.ofInt w)), (6, .int (Int32.ofInt (iv + 1)))]) rfl ?_))
        exact ih _ (iv + 1) Is2009 Gs2009 JRLx_s2009 JMDJ_s2009 ⟨hRN, hHT2, hMZ2⟩ (by first | exact ⟨And.intro (hi.1.1) (hi.1.2), And.intro (hi.2.1.1) (hi.2.1.2), And.intro (hi.2.2.1.1) (hi.2.2.1.2), And.intro (hi.2.2.2.1.1) (hi.2.2.2.1.2), oq_333640b7 ws2009_73 hi.2.2.2.2.1 b2001.1, oq_b44a1c7f ws2009_89 hi.2.2.2.2.2.1 b2005.1, oq_1aa5be9e ws2009_90 hi.2.2.2.2.2.2.1, And.intro (hi.2.2.2.2.2.2.2.1.1) (hi.2.2.2.2.2.2.2.1.2), And.intro (oq_54f49eb5 hi.2.2.2.2.2.2.2.2.1.1) (oq_808850b7 ws2009_105 g2007), oq_86ef0b17 ws2009_105 hi.2.2.2.2.2.2.2.2.2.1, oq_27118732 hi.2.2.2.2.2.2.2.2.2.2.1 ws2009_105, oq_627b51e0 ws2009_106 hi.2.2.2.2.2.2.2.2.2.2.2⟩ | omega) (by first | exact qk_me hm (by decide) (oq_ccc5e5e0 g2007 hi.2.2.2.2.2.2.2.2.2.1) | omega) kx
  refine z_aload_n X (x := A 179) rfl (List.Mem.head _) (z_const X rfl (s_putI X 179 rfl (c518_ok rfl) rfl rfl (by decide) rfl rfl rfl (wd_gen (fun s6 hs6 => ?_))))
  have Is6 : Bd s6 := eqB hs6 (bd_I I (show (0 : Int) ≤ 0 ∧ 0 ≤ 3 by first | exact ⟨by decide, by decide⟩ | omega) (by decide))
  have Fs6 := eqF hs6 (fm_I F (inl_ok (a := 73) rfl))
  have vs6 : iI s6 73 = 0 := eqI hs6 (iI_u (by decide))
  have ws6_105 : iI s6 105 = iI s 105 := eqI hs6 rfl
  have ws6_90 : iI s6 90 = iI s 90 := eqI hs6 rfl
  have ws6_106 : iI s6 106 = iI s 106 := eqI hs6 rfl
  have ws6_89 : iI s6 89 = iI s 89 := eqI hs6 rfl
  have fs6 : Fm [73] [] s s6 := by rw [hs6]; exact fm_I (fm_rf _ _ _) (show 73 ∈ _ by decide)
  have JRLx_s6 : RLx s6 := RLx_fm fs6 (by decide) jRLx
  have JMDJ_s6 : MDJ U s6 := MDJ_fm fs6 (by decide) jMDJ
  refine z_aload_n X (x := A 179) rfl (List.Mem.head _) (z_load_n X (x := x) rfl (List.Mem.tail _ (List.Mem.head _)) (z_const X rfl (z_bipush X rfl (z_callS X (rm := rmN 188) (As := [.int (Int32.ofInt x), .int (Int32.ofInt 0), .int (Int32.ofInt 23)]) (st := [.ref (A 179)]) rfl rfl (by rw [E.1, E.2.1, E.2.2.1]; exact k_in2 G Is6 (by first | exact ⟨p0.1, p0.2⟩ | omega) (by first | exact ⟨by decide, by decide⟩ | omega) (by first | exact ⟨by decide, by decide⟩ | omega)) ⟨by rw [E.2.2.2]; exact (show (rmN 188).frames + 1 ≤ (rmN 286).frames by decide), by rw [E.2.2.2]; exact (show 8 + (mNL (miB 188) + 11) + (rmN 188).locals ≤ (rmN 286).locals by decide), by rw [E.2.2.2]; exact (show 0 + (rmN 188).cells ≤ (rmN 286).cells by decide), by rw [E.2.2.2]; exact (show 0 + (rmN 188).slots ≤ (rmN 286).slots by decide)⟩ (Nat.le_of_ble_eq_true rfl) (fun vv s7 hq => ?_) (fun ee s7 hq => ?_)))))
  rotate_left
  · obtain ⟨rfl, e8, hv, hrs7, hps7⟩ := hq; cases hv
  obtain ⟨rfl, e8, hv, hrs7, hps7⟩ := hq
  cases hv
  show WS k 13 [(0, .ref (A 179)), (1, .int (Int32.ofInt x)), (2, .int (Int32.ofInt y)), (3, .int (Int32.ofInt z)), (4, .int (Int32.ofInt w))] [.int (Int32.ofInt e8), .ref (A 179)] (Wd A dT s6) 0 0
  refine z_if_eq X (t := 48) rfl rfl hrs7 (fun g9 => ?_) (fun g9 => ?_)
  ·
    refine z_const X rfl (z_goto X (t := 53) rfl rfl (z_const X rfl (zcV_i0 X E 179 (As := [.int (Int32.ofInt 1), .int (Int32.ofInt 1)]) (st := []) rfl rfl rfl rfl (k_bad2 G Is6 (by first | exact Or.inr (by decide) | omega) (by first | exact ⟨by decide, by decide⟩ | omega)) rfl (Nat.le_of_ble_eq_true rfl) (fun s10 e11 Is10 Fs10 hrs10 hps10 => ?_))))
    have Gs10 := fm_tq Fs6 Fs10 rfl rfl
    have JRLx_s10 : RLx s10 := RLx_fm Fs10 (by decide) JRLx_s6
    have JMDJ_s10 : MDJ U s10 := MDJ_fm Fs10 (by decide) JMDJ_s6
    have b12 := bi_73 Is10
    have ws10_105 : iI s10 105 = iI s6 105 := fm_iq Fs10 rfl
    have ws10_90 : iI s10 90 = iI s6 90 := fm_iq Fs10 rfl
    have ws10_106 : iI s10 106 = iI s6 106 := fm_iq Fs10 rfl
    have ws10_89 : iI s10 89 = iI s6 89 := fm_iq Fs10 rfl
    refine z_if_eq X (t := 62) rfl rfl hrs10 (fun g13 => ?_) (fun g13 => ?_)
    ·
      have hst9 := jMDJ.1
      refine z_const X rfl (z_store X (lv' := [(5, .int (Int32.ofInt 0)), (0, .ref (A 179)), (1, .int (Int32.ofInt x)), (2, .int (Int32.ofInt y)), (3, .int (Int32.ofInt z)), (4, .int (Int32.ofInt w))]) rfl (by decide) (fun _ h => h) (z_aload_n X (x := A 179) rfl (List.Mem.tail _ (List.Mem.head _)) (z_const X rfl (s_putI X 179 rfl (c518_ok rfl) rfl rfl (by decide) rfl rfl rfl (wd_gen (fun s14 hs14 => ?_))))))
      have Is14 : Bd s14 := eqB hs14 (bd_I Is10 (show (0 : Int) ≤ 0 ∧ 0 ≤ 12 by first | exact ⟨by decide, by decide⟩ | omega) (by decide))
      have Fs14 := eqF hs14 (fm_I Gs10 (inl_ok (a := 105) rfl))
      have vs14 : iI s14 105 = 0 := eqI hs14 (iI_u (by decide))
      have ws14_73 : iI s14 73 = iI s10 73 := eqI hs14 rfl
      have ws14_90 : iI s14 90 = iI s10 90 := eqI hs14 rfl
      have ws14_106 : iI s14 106 = iI s10 106 := eqI hs14 rfl
      have ws14_89 : iI s14 89 = iI s10 89 := eqI hs14 rfl
      have fs14 : Fm [105] [] s10 s14 := by rw [hs14]; exact fm_I (fm_rf _ _ _) (show 105 ∈ _ by decide)
      have JRLx_s14 : RLx s14 := RLx_fm fs14 (by decide) JRLx_s10
      have JMDJ_s14 : MDJ U s14 := MDJ_fm fs14 (by decide) JMDJ_s10
      refine z_const X rfl (z_store X (lv' := [(6, .int (Int32.ofInt 0)), (5, .int (Int32.ofInt 0)), (0, .ref (A 179)), (1, .int (Int32.ofInt x)), (2, .int (Int32.ofInt y)), (3, .int (Int32.ofInt z)), (4, .int (Int32.ofInt w))]) rfl (by decide) (fun _ h => h) (WS_pq [2, 3, 4, 5, 6, 1, 0] (lv' := [(0, .ref (A 179)), (1, .int (Int32.ofInt x)), (2, .int (Int32.ofInt y)), (3, .int (Int32.ofInt z)), (4, .int (Int32.ofInt w)), (5, .int (Int32.ofInt 0)), (6, .int (Int32.ofInt 0))]) rfl (L73 ((12 - 0 : Int).toNat + 1) s14 0 0 Is14 Fs14 JRLx_s14 JMDJ_s14 (hsq_0 (by first | (clear hps10 hps7; omega) | (clear hps7; omega) | omega)) (by first | exact ⟨oq_6b02d9ba g13 hps10 vs6, oq_4c9b0342 g13 hps10 vs6, oq_4c9b0342 g13 hps10 vs6, oq_d3994d9a g13 hps10 vs6, oq_8c407924 ws14_73 g13 b12.1 hps10 vs6, oq_29301542 ws14_89 ws10_89 ws6_89 p4 b5.1, oq_d0d2714e ws14_90 ws6_90 ws10_90, oq_9014f91b g13 hps10 vs6, And.intro (by decide) (by decide), And.intro (by decide) (b3.1), oq_0b35aa92 vs14, oq_1af0b4f8 vs14⟩ | omega) (Nat.lt_succ_self _) ?_)))
      intro s15 x16 x17 Is15 Fs15 JRLx_s15 JMDJ_s15 Qs15 hs15
      have b18 := bi_73 Is15
      have b19 := bi_105 Is15
      have b20 := bi_90 Is15
      have b21 := bi_106 Is15
      have b22 := bi_89 Is15
      have hHS : HSQ (hitP U (stM s) (x : Int).toNat) (uN U : Int) x16 s15 := by have zz := Qs15; rw [show x17 = (uN U : Int) by first | (clear hps10 hps7; omega) | (clear hps7; omega) | omega] at zz; exact zz
      have hH1 := hHS.1
      rw [Int.toNat_natCast] at hH1
      refine z_load X (x := w) rfl (List.Mem.tail _ (List.Mem.tail _ (List.Mem.tail _ (List.Mem.tail _ (List.Mem.head _))))) (z_bipush X rfl (z_icmp_ne X (t := 158) rfl rfl ⟨by first | exact p3.1 | omega, by first | exact p3.2 | omega⟩ (by decide) (fun g23 => ?_) (fun g23 => ?_)))
      ·
        refine z_aload_n X (x := A 179) rfl (List.Mem.head _) (z_const X rfl (s_putI X 179 rfl (c518_ok rfl) rfl rfl (by decide) rfl rfl rfl (wd_gen (fun s24 hs24 => ?_))))
        have Is24 : Bd s24 := eqB hs24 (bd_I Is15 (show ((-2147483648) : Int) ≤ (-1) ∧ (-1) ≤ 2147483647 by first | exact ⟨by decide, by decide⟩ | omega) (by decide))
        have Fs24 := eqF hs24 (fm_I Fs15 (inl_ok (a := 106) rfl))
        have vs24 : iI s24 106 = (-1) := eqI hs24 (iI_u (by decide))
        have ws24_73 : iI s24 73 = iI s15 73 := eqI hs24 rfl
        have ws24_105 : iI s24 105 = iI s15 105 := eqI hs24 rfl
        have ws24_90 : iI s24 90 = iI s15 90 := eqI hs24 rfl
        have ws24_89 : iI s24 89 = iI s15 89 := eqI hs24 rfl
        have fs24 : Fm [106] [] s15 s24 := by rw [hs24]; exact fm_I (fm_rf _ _ _) (show 106 ∈ _ by decide)
        have JRLx_s24 : RLx s24 := RLx_fm fs24 (by decide) JRLx_s15
        have JMDJ_s24 : MDJ U s24 := MDJ_fm fs24 (by decide) JMDJ_s15
        refine z_aload_n X (x := A 179) rfl (List.Mem.head _) (z_getI X 179 rfl (c518_ok rfl) rfl rfl ?_)
        have b25 := bi_105 Is24
        refine z_bipush X rfl (z_icmp_le X (t := 174) rfl rfl (rng_to _) (by decide) (fun g26 => ?_) (fun g26 => ?_))
        ·
          have hHT : HTQ (hitP U (stM s) (x : Int).toNat) (uN U) (fun j => iC s24 400 j) := fun b hb p => (show iC s24 400 (cHt (hitP U (stM s) (x : Int).toNat) b) = iC s15 400 (cHt (hitP U (stM s) (x : Int).toNat) b) by rw [hs24]; rfl).trans (hHS.2.2.1 b (by first | (clear g23 hps10 hps7; omega) | (clear hps10 hps7; omega) | omega) p (by have := cht_lt (P := (hitP U (stM s) (x : Int).toNat)) hb p; omega))
          have hMZ0 : MZJ U (hitP U (stM s) (x : Int).toNat) s24 := fun b hb _ => (show iC s24 401 b = iC s15 401 b by rw [hs24]; rfl).trans (hHS.2.2.2 b (by first | (clear g23 hps10 hps7; omega) | (clear hps10 hps7; omega) | omega))
          refine z_const X rfl (z_store X (lv' := [(6, .int (Int32.ofInt 0)), (0, .ref (A 179)), (1, .int (Int32.ofInt x)), (2, .int (Int32.ofInt y)), (3, .int (Int32.ofInt z)), (4, .int (Int32.ofInt w)), (5, .int (Int32.ofInt x16))]) rfl (by decide) (fun _ h => h) (WS_pq [1, 2, 3, 4, 5, 0] (lv' := [(0, .ref (A 179)), (1, .int (Int32.ofInt x)), (2, .int (Int32.ofInt y)), (3, .int (Int32.ofInt z)), (4, .int (Int32.ofInt w)), (6, .int (Int32.ofInt 0))]) rfl (L177 ((8 - 0 : Int).toNat + 1) s24 0 Is24 Fs24 JRLx_s24 JMDJ_s24 ⟨rnl_0, hHT, hMZ0⟩ (by first | exact ⟨And.intro (hs15.1.1) (hs15.1.2), And.intro (hs15.2.1.1) (hs15.2.1.2), And.intro (hs15.2.2.1.1) (hs15.2.2.1.2), And.intro (hs15.2.2.2.1.1) (hs15.2.2.2.1.2), oq_333640b7 ws24_73 hs15.2.2.2.2.1 b18.1, oq_b44a1c7f ws24_89 hs15.2.2.2.2.2.1 b22.1, oq_1aa5be9e ws24_90 hs15.2.2.2.2.2.2.1, And.intro (hs15.2.2.2.2.2.2.2.1.1) (hs15.2.2.2.2.2.2.2.1.2), And.intro (by decide) (b25.1), g26, oq_f955fd23 hs15.1.2 hs15.1.1 g9 hps7, vs24⟩ | omega) (Nat.lt_succ_self _) ?_)))
          intro s27 x28 Is27 Fs27 JRLx_s27 JMDJ_s27 Qs27 hs27
          have b29 := bi_73 Is27
          have b30 := bi_105 Is27
          have b31 := bi_90 Is27
          have b32 := bi_106 Is27
          have b33 := bi_89 Is27
          have hGJ : GTJ U (stM s) (x : Int).toNat (fitK9 U (stM s) (x : Int).toNat (pfM s) (fun j => iC s 229 j)) s27 := ⟨⟨⟨by first | (clear g23 hps10 hps7; omega) | (clear hps10 hps7; omega) | omega, by first | (clear g23 hps10 hps7; omega) | (clear hps10 hps7; omega) | omega⟩, Qs27.2.1⟩, fun b hb p => Qs27.1 b hb p (by have := cht_lt (P := (hitP U (stM s) (x : Int).toNat)) hb p; omega), by first | (clear g23 hps10 hps7; omega) | (clear hps10 hps7; omega) | omega, ⟨by first | (clear g23 hps10 hps7; omega) | (clear hps10 hps7; omega) | omega, jMDJ.1.2, fun b hb => hMB (x : Int).toNat b (by first | (clear g23 hps10 hps7; omega) | (clear hps10 hps7; omega) | omega) hb⟩, by rw [show pfM s27 = pfM s from funext (fun j => fm_c Fs27 (by decide)), show (fun j => iC s27 229 j) = (fun j => iC s 229 j) from funext (fun j => fm_c Fs27 (by decide))]⟩
          refine z_aload_n X (x := A 179) rfl (List.Mem.head _) (z_const X rfl (z_load_n X (x := x) rfl (List.Mem.tail _ (List.Mem.head _)) (z_load_n X (x := y) rfl (List.Mem.tail _ (List.Mem.tail _ (List.Mem.head _))) (z_load_n X (x := z) rfl (List.Mem.tail _ (List.Mem.tail _ (List.Mem.tail _ (List.Mem.head _)))) (z_const X rfl ?_)))))
          have hGP : GTP U (hitP U (stM s) (x : Int).toNat) none 0 s27 := ⟨show iI s27 106 = -1 by first | (clear g23 hps10 hps7; omega) | (clear hps10 hps7; omega) | omega, fun j hj => absurd hj (by first | (clear g23 hps10 hps7; omega) | (clear hps10 hps7; omega) | omega)⟩
          refine z_callV X 179 (rm := (rkR (52 + 8))) (As := [.int (Int32.ofInt 0), .int (Int32.ofInt x), .int (Int32.ofInt y), .int (Int32.ofInt z), .int (Int32.ofInt 0)]) (st := []) rfl rfl (by decide) rfl (by rw [E.1, E.2.1, E.2.2.1]; exact k_gor9 G 8 Is27 JRLx_s27 JMDJ_s27 hGJ Qs27.2.2 (by first | exact ⟨by decide, b30.1⟩ | omega) (by first | exact oq_a8ea036d hs27.2.2.2.2.2.2.2.2.2.1 | omega) (by first | exact hs27.2.2.2.2.2.2.2.2.2.1 | omega) (by first | exact oq_b576d2a3 hs27.1.2 hs27.1.1 g9 hps7 | omega) (by first | exact ⟨hs27.1.1, hs27.1.2⟩ | omega) (by first | exact ⟨hs27.2.1.1, hs27.2.1.2⟩ | omega) (by first | exact ⟨hs27.2.2.1.1, hs27.2.2.1.2⟩ | omega) (by first | exact ⟨by decide, by decide⟩ | omega) (hGP)) ⟨by rw [E.2.2.2]; exact (show 72 + 1 ≤ 73 from oq_26188e76), by rw [E.2.2.2]; exact (show 8 + (8 + 11) + 3200 ≤ 3227 from oq_e592698d), by rw [E.2.2.2]; exact Nat.le_refl 0, by rw [E.2.2.2]; exact Nat.le_refl 0⟩ (Nat.le_of_ble_eq_true rfl) (fun vv s34 hq => ?_) (fun ee s34 hq => ?_)
          rotate_left
          · obtain ⟨Is34, Fs34, JRLx_s34, JMZJ_s34, hv, hps34⟩ := hq; cases hv
          obtain ⟨Is34, Fs34, JRLx_s34, JMZJ_s34, hv, hps34⟩ := hq
          cases hv
          have Gs34 := fm_tq Fs27 Fs34 rfl rfl
          have JRLx_s34 : RLx s34 := RLx_fm Fs34 (by decide) JRLx_s27
          have ws34_73 : iI s34 73 = iI s27 73 := fm_iq Fs34 rfl
          have ws34_105 : iI s34 105 = iI s27 105 := fm_iq Fs34 rfl
          have ws34_90 : iI s34 90 = iI s27 90 := fm_iq Fs34 rfl
          have b36 := bi_106 Is34
          have ws34_89 : iI s34 89 = iI s27 89 := fm_iq Fs34 rfl
          show WS k 212 [(0, .ref (A 179)), (1, .int (Int32.ofInt x)), (2, .int (Int32.ofInt y)), (3, .int (Int32.ofInt z)), (4, .int (Int32.ofInt w)), (6, .int (Int32.ofInt x28))] [] (Wd A dT s34) 0 0
          have hBS := slm_of hps34
          refine z_aload_n X (x := A 179) rfl (List.Mem.head _) (z_getI X 179 rfl (c518_ok rfl) rfl rfl ?_)
          have b37 := bi_106 Is34
          refine z_const X rfl (z_icmp_ne X (t := 224) rfl rfl (rng_to _) (by decide) (fun g38 => ?_) (fun g38 => ?_))
          ·
            refine z_load X (x := w) rfl (List.Mem.tail _ (List.Mem.tail _ (List.Mem.tail _ (List.Mem.tail _ (List.Mem.head _))))) (z_const X rfl (z_icmp_ne X (t := 237) rfl rfl ⟨by first | exact p3.1 | omega, by first | exact p3.2 | omega⟩ (by decide) (fun g39 => ?_) (fun g39 => ?_)))
            ·
              refine z_load X (x := w) rfl (List.Mem.tail _ (List.Mem.tail _ (List.Mem.tail _ (List.Mem.tail _ (List.Mem.head _))))) (z_aload_n X (x := A 179) rfl (List.Mem.head _) (z_getI X 179 rfl (c518_ok rfl) rfl rfl ?_))
              have b40 := bi_90 Is34
              refine z_icmp_ge X (t := 256) rfl rfl ⟨by first | exact p3.1 | omega, by first | exact p3.2 | omega⟩ (rng_to _) (fun g41 => ?_) (fun g41 => ?_)
              ·
                refine z_const X rfl ?_
                exact w_iret X.1 q hRt rfl (ax_d X (show cdA 286 257 = some (.ireturn, 1, 0, 0, 0) from rfl)) (Nat.zero_le _) (Nat.zero_le _) ⟨_, rfl, Is34, Gs34, JRLx_s34, 0, rfl, (by decide), Or.inl ⟨by first | exact ⟨hs27.1.1, hs27.1.2⟩ | omega, by first | exact ⟨hs27.2.1.1, hs27.2.1.2⟩ | omega, by first | exact ⟨hs27.2.2.1.1, hs27.2.2.1.2⟩ | omega, by first | exact ⟨hs27.2.2.2.1.1, hs27.2.2.2.1.2⟩ | omega, by first | exact oq_333640b7 ws34_73 hs27.2.2.2.2.1 b29.1 | omega, mnm_s hBS (by first | (clear g39 g38 g23 hps10 hps7; omega) | (clear g38 g23 hps10 hps7; omega) | omega) (by first | (clear g39 g38 g23 hps10 hps7; omega) | (clear g38 g23 hps10 hps7; omega) | omega) (by first | (clear g39 g38 g23 hps10 hps7; omega) | (clear g38 g23 hps10 hps7; omega) | omega) (Or.inr ⟨by first | (clear g39 g38 g23 hps10 hps7; omega) | (clear g38 g23 hps10 hps7; omega) | omega, rfl⟩)⟩⟩
              ·
                refine z_aload_n X (x := A 179) rfl (List.Mem.head _) (s_getR X 179 rfl (c518_ok rfl) rfl rfl (z_load X (x := w) rfl (List.Mem.tail _ (List.Mem.tail _ (List.Mem.tail _ (List.Mem.tail _ (List.Mem.head _))))) (z_ald X 457 rfl (c518_ok rfl) rfl (by first | exact oq_33feeab9 g39 hs27.2.2.2.1.1 g23 | omega) (show w < 12 by first | exact oq_0ddfcfee hs27.2.2.2.1.2 | omega) (cbig_ok rfl) ?_)))
                have b42 := bc_402 Is34 (show (w).toNat < 12 by first | exact oq_9c5fa447 hs27.2.2.2.1.2 | omega)
                refine z_goto X (t := 257) rfl rfl ?_
                exact w_iret X.1 q hRt rfl (ax_d X (show cdA 286 257 = some (.ireturn, 1, 0, 0, 0) from rfl)) (Nat.zero_le _) (Nat.zero_le _) ⟨_, rfl, Is34, Gs34, JRLx_s34, (iC s34 402 (w).toNat), rfl, (rng_to _), Or.inl ⟨by first | exact ⟨hs27.1.1, hs27.1.2⟩ | omega, by first | exact ⟨hs27.2.1.1, hs27.2.1.2⟩ | omega, by first | exact ⟨hs27.2.2.1.1, hs27.2.2.1.2⟩ | omega, by first | exact ⟨hs27.2.2.2.1.1, hs27.2.2.2.1.2⟩ | omega, by first | exact oq_333640b7 ws34_73 hs27.2.2.2.2.1 b29.1 | omega, mnm_s hBS (by first | (clear g39 g38 g23 hps10 hps7; omega) | (clear g38 g23 hps10 hps7; omega) | omega) (by first | (clear g39 g38 g23 hps10 hps7; omega) | (clear g38 g23 hps10 hps7; omega) | omega) (by first | (clear g39 g38 g23 hps10 hps7; omega) | (clear g38 g23 hps10 hps7; omega) | omega) (Or.inl ⟨by first | (clear g39 g38 g23 hps10 hps7; omega) | (clear g38 g23 hps10 hps7; omega) | omega, rfl⟩)⟩⟩
            ·
              refine z_aload_n X (x := A 179) rfl (List.Mem.head _) (z_getI X 179 rfl (c518_ok rfl) rfl rfl ?_)
              have b43 := bi_106 Is34
              refine z_goto X (t := 257) rfl rfl ?_
              exact w_iret X.1 q hRt rfl (ax_d X (show cdA 286 257 = some (.ireturn, 1, 0, 0, 0) from rfl)) (Nat.zero_le _) (Nat.zero_le _) ⟨_, rfl, Is34, Gs34, JRLx_s34, (iI s34 106), rfl, (rng_to _), Or.inl ⟨by first | exact ⟨hs27.1.1, hs27.1.2⟩ | omega, by first | exact ⟨hs27.2.1.1, hs27.2.1.2⟩ | omega, by first | exact ⟨hs27.2.2.1.1, hs27.2.2.1.2⟩ | omega, by first | exact ⟨hs27.2.2.2.1.1, hs27.2.2.2.1.2⟩ | omega, by first | exact oq_333640b7 ws34_73 hs27.2.2.2.2.1 b29.1 | omega, mnm_m hBS (by first | (clear g38 g23 hps10 hps7; omega) | (clear g23 hps10 hps7; omega) | omega) (by first | (clear g38 g23 hps10 hps7; omega) | (clear g23 hps10 hps7; omega) | omega) ⟨by first | (clear g38 g23 hps10 hps7; omega) | (clear g23 hps10 hps7; omega) | omega, rfl⟩⟩⟩
          ·
            refine z_const X rfl (z_goto X (t := 257) rfl rfl ?_)
            exact w_iret X.1 q hRt rfl (ax_d X (show cdA 286 257 = some (.ireturn, 1, 0, 0, 0) from rfl)) (Nat.zero_le _) (Nat.zero_le _) ⟨_, rfl, Is34, Gs34, JRLx_s34, (-1), rfl, (by decide), Or.inl ⟨by first | exact ⟨hs27.1.1, hs27.1.2⟩ | omega, by first | exact ⟨hs27.2.1.1, hs27.2.1.2⟩ | omega, by first | exact ⟨hs27.2.2.1.1, hs27.2.2.1.2⟩ | omega, by first | exact ⟨hs27.2.2.2.1.1, hs27.2.2.2.1.2⟩ | omega, by first | exact oq_333640b7 ws34_73 hs27.2.2.2.2.1 b29.1 | omega, Or.inr (Or.inl ⟨by first | (clear g23 hps10 hps7; omega) | (clear hps10 hps7; omega) | omega, Or.inr (bso9_0 hBS (by first | (clear g23 hps10 hps7; omega) | (clear hps10 hps7; omega) | omega)), rfl⟩)⟩⟩
        ·
          refine z_const X rfl ?_
          exact w_iret X.1 q hRt rfl (ax_d X (show cdA 286 173 = some (.ireturn, 1, 0, 0, 0) from rfl)) (Nat.zero_le _) (Nat.zero_le _) ⟨_, rfl, Is24, Fs24, JRLx_s24, (-1), rfl, (by decide), Or.inl ⟨by first | exact ⟨hs15.1.1, hs15.1.2⟩ | omega, by first | exact ⟨hs15.2.1.1, hs15.2.1.2⟩ | omega, by first | exact ⟨hs15.2.2.1.1, hs15.2.2.1.2⟩ | omega, by first | exact ⟨hs15.2.2.2.1.1, hs15.2.2.2.1.2⟩ | omega, by first | exact oq_333640b7 ws24_73 hs15.2.2.2.2.1 b18.1 | omega, Or.inr (Or.inl ⟨by first | (clear g23 hps10 hps7; omega) | (clear hps10 hps7; omega) | omega, Or.inl (by first | (clear g23 hps10 hps7; omega) | (clear hps10 hps7; omega) | omega), rfl⟩)⟩⟩
      ·
        refine z_load X (x := x16) rfl (List.Mem.tail _ (List.Mem.tail _ (List.Mem.tail _ (List.Mem.tail _ (List.Mem.tail _ (List.Mem.head _)))))) ?_
        exact w_iret X.1 q hRt rfl (ax_d X (show cdA 286 157 = some (.ireturn, 1, 0, 0, 0) from rfl)) (Nat.zero_le _) (Nat.zero_le _) ⟨_, rfl, Is15, Fs15, JRLx_s15, x16, rfl, ⟨by first | exact hs15.2.2.2.2.2.2.2.2.1.1 | omega, by first | exact hs15.2.2.2.2.2.2.2.2.1.2 | omega⟩, Or.inl ⟨by first | exact ⟨hs15.1.1, hs15.1.2⟩ | omega, by first | exact ⟨hs15.2.1.1, hs15.2.1.2⟩ | omega, by first | exact ⟨hs15.2.2.1.1, hs15.2.2.1.2⟩ | omega, by first | exact ⟨hs15.2.2.2.1.1, hs15.2.2.2.1.2⟩ | omega, by first | exact hs15.2.2.2.2.1 | omega, Or.inl ⟨by first | (clear hps10 hps7; omega) | (clear hps7; omega) | omega, ⟨by first | exact hs15.2.2.2.2.2.2.2.2.1.1 | omega, by first | exact hs15.2.2.2.2.2.2.2.2.1.2 | omega⟩, by have zz := hHS.2.1; rw [Int.toNat_natCast] at zz; exact zz⟩⟩⟩
    ·
      refine z_const X rfl ?_
      exact w_iret X.1 q hRt rfl (ax_d X (show cdA 286 61 = some (.ireturn, 1, 0, 0, 0) from rfl)) (Nat.zero_le _) (Nat.zero_le _) ⟨_, rfl, Is10, Gs10, JRLx_s10, 0, rfl, (by decide), Or.inr ⟨by first | exact oq_d493c7ce g9 hps7 | omega, by first | exact oq_faabd673 g13 hps10 vs6 | omega⟩⟩
  ·
    refine z_load_n X (x := y) rfl (List.Mem.tail _ (List.Mem.tail _ (List.Mem.head _))) (z_const X rfl (z_bipush X rfl (z_callS X (rm := rmN 188) (As := [.int (Int32.ofInt y), .int (Int32.ofInt 0), .int (Int32.ofInt 8)]) (st := [.ref (A 179)]) rfl rfl (by rw [E.1, E.2.1, E.2.2.1]; exact k_in2 G Is6 (by first | exact ⟨p1.1, p1.2⟩ | omega) (by first | exact ⟨by decide, by decide⟩ | omega) (by first | exact ⟨by decide, by decide⟩ | omega)) ⟨by rw [E.2.2.2]; exact (show (rmN 188).frames + 1 ≤ (rmN 286).frames by decide), by rw [E.2.2.2]; exact (show 8 + (mNL (miB 188) + 11) + (rmN 188).locals ≤ (rmN 286).locals by decide), by rw [E.2.2.2]; exact (show 0 + (rmN 188).cells ≤ (rmN 286).cells by decide), by rw [E.2.2.2]; exact (show 0 + (rmN 188).slots ≤ (rmN 286).slots by decide)⟩ (Nat.le_of_ble_eq_true rfl) (fun vv s44 hq => ?_) (fun ee s44 hq => ?_))))
    rotate_left
    · obtain ⟨rfl, e45, hv, hrs44, hps44⟩ := hq; cases hv
    obtain ⟨rfl, e45, hv, hrs44, hps44⟩ := hq
    cases hv
    show WS k 23 [(0, .ref (A 179)), (1, .int (Int32.ofInt x)), (2, .int (Int32.ofInt y)), (3, .int (Int32.ofInt z)), (4, .int (Int32.ofInt w))] [.int (Int32.ofInt e45), .ref (A 179)] (Wd A dT s6) 0 0
    refine z_if_eq X (t := 48) rfl rfl hrs44 (fun g46 => ?_) (fun g46 => ?_)
    ·
      refine z_const X rfl (z_goto X (t := 53) rfl rfl (z_const X rfl (zcV_i0 X E 179 (As := [.int (Int32.ofInt 1), .int (Int32.ofInt 1)]) (st := []) rfl rfl rfl rfl (k_bad2 G Is6 (by first | exact Or.inr (by decide) | omega) (by first | exact ⟨by decide, by decide⟩ | omega)) rfl (Nat.le_of_ble_eq_true rfl) (fun s47 e48 Is47 Fs47 hrs47 hps47 => ?_))))
      have Gs47 := fm_tq Fs6 Fs47 rfl rfl
      have JRLx_s47 : RLx s47 := RLx_fm Fs47 (by decide) JRLx_s6
      have JMDJ_s47 : MDJ U s47 := MDJ_fm Fs47 (by decide) JMDJ_s6
      have b49 := bi_73 Is47
      have ws47_105 : iI s47 105 = iI s6 105 := fm_iq Fs47 rfl
      have ws47_90 : iI s47 90 = iI s6 90 := fm_iq Fs47 rfl
      have ws47_106 : iI s47 106 = iI s6 106 := fm_iq Fs47 rfl
      have ws47_89 : iI s47 89 = iI s6 89 := fm_iq Fs47 rfl
      refine z_if_eq X (t := 62) rfl rfl hrs47 (fun g50 => ?_) (fun g50 => ?_)
      ·
        have hst9 := jMDJ.1
        refine z_const X rfl (z_store X (lv' := [(5, .int (Int32.ofInt 0)), (0, .ref (A 179)), (1, .int (Int32.ofInt x)), (2, .int (Int32.ofInt y)), (3, .int (Int32.ofInt z)), (4, .int (Int32.ofInt w))]) rfl (by decide) (fun _ h => h) (z_aload_n X (x := A 179) rfl (List.Mem.tail _ (List.Mem.head _)) (z_const X rfl (s_putI X 179 rfl (c518_ok rfl) rfl rfl (by decide) rfl rfl rfl (wd_gen (fun s51 hs51 => ?_))))))
        have Is51 : Bd s51 := eqB hs51 (bd_I Is47 (show (0 : Int) ≤ 0 ∧ 0 ≤ 12 by first | exact ⟨by decide, by decide⟩ | omega) (by decide))
        have Fs51 := eqF hs51 (fm_I Gs47 (inl_ok (a := 105) rfl))
        have vs51 : iI s51 105 = 0 := eqI hs51 (iI_u (by decide))
        have ws51_73 : iI s51 73 = iI s47 73 := eqI hs51 rfl
        have ws51_90 : iI s51 90 = iI s47 90 := eqI hs51 rfl
        have ws51_106 : iI s51 106 = iI s47 106 := eqI hs51 rfl
        have ws51_89 : iI s51 89 = iI s47 89 := eqI hs51 rfl
        have fs51 : Fm [105] [] s47 s51 := by rw [hs51]; exact fm_I (fm_rf _ _ _) (show 105 ∈ _ by decide)
        have JRLx_s51 : RLx s51 := RLx_fm fs51 (by decide) JRLx_s47
        have JMDJ_s51 : MDJ U s51 := MDJ_fm fs51 (by decide) JMDJ_s47
        refine z_const X rfl (z_store X (lv' := [(6, .int (Int32.ofInt 0)), (5, .int (Int32.ofInt 0)), (0, .ref (A 179)), (1, .int (Int32.ofInt x)), (2, .int (Int32.ofInt y)), (3, .int (Int32.ofInt z)), (4, .int (Int32.ofInt w))]) rfl (by decide) (fun _ h => h) (WS_pq [2, 3, 4, 5, 6, 1, 0] (lv' := [(0, .ref (A 179)), (1, .int (Int32.ofInt x)), (2, .int (Int32.ofInt y)), (3, .int (Int32.ofInt z)), (4, .int (Int32.ofInt w)), (5, .int (Int32.ofInt 0)), (6, .int (Int32.ofInt 0))]) rfl (L73 ((12 - 0 : Int).toNat + 1) s51 0 0 Is51 Fs51 JRLx_s51 JMDJ_s51 (hsq_0 (by first | (clear hps47 hps44 g9 hps7; omega) | (clear hps44 g9 hps7; omega) | omega)) (by first | exact ⟨oq_e5a089c2 g9 hps7, oq_4c9b0342 g50 hps47 vs6, oq_4c9b0342 g50 hps47 vs6, oq_d3994d9a g50 hps47 vs6, oq_8c407924 ws51_73 g50 b49.1 hps47 vs6, oq_29301542 ws51_89 ws47_89 ws6_89 p4 b5.1, oq_d0d2714e ws51_90 ws6_90 ws47_90, oq_9014f91b g50 hps47 vs6, And.intro (by decide) (by decide), And.intro (by decide) (b3.1), oq_0b35aa92 vs51, oq_1af0b4f8 vs51⟩ | omega) (Nat.lt_succ_self _) ?_)))
        intro s52 x53 x54 Is52 Fs52 JRLx_s52 JMDJ_s52 Qs52 hs52
        have b55 := bi_73 Is52
        have b56 := bi_105 Is52
        have b57 := bi_90 Is52
        have b58 := bi_106 Is52
        have b59 := bi_89 Is52
        have hHS : HSQ (hitP U (stM s) (x : Int).toNat) (uN U : Int) x53 s52 := by have zz := Qs52; rw [show x54 = (uN U : Int) by first | (clear hps47 hps44 g9 hps7; omega) | (clear hps44 g9 hps7; omega) | omega] at zz; exact zz
        have hH1 := hHS.1
        rw [Int.toNat_natCast] at hH1
        refine z_load X (x := w) rfl (List.Mem.tail _ (List.Mem.tail _ (List.Mem.tail _ (List.Mem.tail _ (List.Mem.head _))))) (z_bipush X rfl (z_icmp_ne X (t := 158) rfl rfl ⟨by first | exact p3.1 | omega, by first | exact p3.2 | omega⟩ (by decide) (fun g60 => ?_) (fun g60 => ?_)))
        ·
          refine z_aload_n X (x := A 179) rfl (List.Mem.head _) (z_const X rfl (s_putI X 179 rfl (c518_ok rfl) rfl rfl (by decide) rfl rfl rfl (wd_gen (fun s61 hs61 => ?_))))
          have Is61 : Bd s61 := eqB hs61 (bd_I Is52 (show ((-2147483648) : Int) ≤ (-1) ∧ (-1) ≤ 2147483647 by first | exact ⟨by decide, by decide⟩ | omega) (by decide))
          have Fs61 := eqF hs61 (fm_I Fs52 (inl_ok (a := 106) rfl))
          have vs61 : iI s61 106 = (-1) := eqI hs61 (iI_u (by decide))
          have ws61_73 : iI s61 73 = iI s52 73 := eqI hs61 rfl
          have ws61_105 : iI s61 105 = iI s52 105 := eqI hs61 rfl
          have ws61_90 : iI s61 90 = iI s52 90 := eqI hs61 rfl
          have ws61_89 : iI s61 89 = iI s52 89 := eqI hs61 rfl
          have fs61 : Fm [106] [] s52 s61 := by rw [hs61]; exact fm_I (fm_rf _ _ _) (show 106 ∈ _ by decide)
          have JRLx_s61 : RLx s61 := RLx_fm fs61 (by decide) JRLx_s52
          have JMDJ_s61 : MDJ U s61 := MDJ_fm fs61 (by decide) JMDJ_s52
          refine z_aload_n X (x := A 179) rfl (List.Mem.head _) (z_getI X 179 rfl (c518_ok rfl) rfl rfl ?_)
          have b62 := bi_105 Is61
          refine z_bipush X rfl (z_icmp_le X (t := 174) rfl rfl (rng_to _) (by decide) (fun g63 => ?_) (fun g63 => ?_))
          ·
            have hHT : HTQ (hitP U (stM s) (x : Int).toNat) (uN U) (fun j => iC s61 400 j) := fun b hb p => (show iC s61 400 (cHt (hitP U (stM s) (x : Int).toNat) b) = iC s52 400 (cHt (hitP U (stM s) (x : Int).toNat) b) by rw [hs61]; rfl).trans (hHS.2.2.1 b (by first | (clear g60 hps47 hps44 g9 hps7; omega) | (clear hps47 hps44 g9 hps7; omega) | omega) p (by have := cht_lt (P := (hitP U (stM s) (x : Int).toNat)) hb p; omega))
            have hMZ0 : MZJ U (hitP U (stM s) (x : Int).toNat) s61 := fun b hb _ => (show iC s61 401 b = iC s52 401 b by rw [hs61]; rfl).trans (hHS.2.2.2 b (by first | (clear g60 hps47 hps44 g9 hps7; omega) | (clear hps47 hps44 g9 hps7; omega) | omega))
            refine z_const X rfl (z_store X (lv' := [(6, .int (Int32.ofInt 0)), (0, .ref (A 179)), (1, .int (Int32.ofInt x)), (2, .int (Int32.ofInt y)), (3, .int (Int32.ofInt z)), (4, .int (Int32.ofInt w)), (5, .int (Int32.ofInt x53))]) rfl (by decide) (fun _ h => h) (WS_pq [1, 2, 3, 4, 5, 0] (lv' := [(0, .ref (A 179)), (1, .int (Int32.ofInt x)), (2, .int (Int32.ofInt y)), (3, .int (Int32.ofInt z)), (4, .int (Int32.ofInt w)), (6, .int (Int32.ofInt 0))]) rfl (L177 ((8 - 0 : Int).toNat + 1) s61 0 Is61 Fs61 JRLx_s61 JMDJ_s61 ⟨rnl_0, hHT, hMZ0⟩ (by first | exact ⟨And.intro (hs52.1.1) (hs52.1.2), And.intro (hs52.2.1.1) (hs52.2.1.2), And.intro (hs52.2.2.1.1) (hs52.2.2.1.2), And.intro (hs52.2.2.2.1.1) (hs52.2.2.2.1.2), oq_333640b7 ws61_73 hs52.2.2.2.2.1 b55.1, oq_b44a1c7f ws61_89 hs52.2.2.2.2.2.1 b59.1, oq_1aa5be9e ws61_90 hs52.2.2.2.2.2.2.1, And.intro (hs52.2.2.2.2.2.2.2.1.1) (hs52.2.2.2.2.2.2.2.1.2), And.intro (by decide) (b62.1), g63, oq_028bc7f3 hs52.2.1.2 hs52.2.1.1 g46 hps44, vs61⟩ | omega) (Nat.lt_succ_self _) ?_)))
            intro s64 x65 Is64 Fs64 JRLx_s64 JMDJ_s64 Qs64 hs64
            have b66 := bi_73 Is64
            have b67 := bi_105 Is64
            have b68 := bi_90 Is64
            have b69 := bi_106 Is64
            have b70 := bi_89 Is64
            have hGJ : GTJ U (stM s) (x : Int).toNat (fitK9 U (stM s) (x : Int).toNat (pfM s) (fun j => iC s 229 j)) s64 := ⟨⟨⟨by first | (clear g60 hps47 hps44 g9 hps7; omega) | (clear hps47 hps44 g9 hps7; omega) | omega, by first | (clear g60 hps47 hps44 g9 hps7; omega) | (clear hps47 hps44 g9 hps7; omega) | omega⟩, Qs64.2.1⟩, fun b hb p => Qs64.1 b hb p (by have := cht_lt (P := (hitP U (stM s) (x : Int).toNat)) hb p; omega), by first | (clear g60 hps47 hps44 g9 hps7; omega) | (clear hps47 hps44 g9 hps7; omega) | omega, ⟨by first | (clear g60 hps47 hps44 g9 hps7; omega) | (clear hps47 hps44 g9 hps7; omega) | omega, jMDJ.1.2, fun b hb => hMB (x : Int).toNat b (by first | (clear g60 hps47 hps44 g9 hps7; omega) | (clear hps47 hps44 g9 hps7; omega) | omega) hb⟩, by rw [show pfM s64 = pfM s from funext (fun j => fm_c Fs64 (by decide)), show (fun j => iC s64 229 j) = (fun j => iC s 229 j) from funext (fun j => fm_c Fs64 (by decide))]⟩
            refine z_aload_n X (x := A 179) rfl (List.Mem.head _) (z_const X rfl (z_load_n X (x := x) rfl (List.Mem.tail _ (List.Mem.head _)) (z_load_n X (x := y) rfl (List.Mem.tail _ (List.Mem.tail _ (List.Mem.head _))) (z_load_n X (x := z) rfl (List.Mem.tail _ (List.Mem.tail _ (List.Mem.tail _ (List.Mem.head _)))) (z_const X rfl ?_)))))
            have hGP : GTP U (hitP U (stM s) (x : Int).toNat) none 0 s64 := ⟨show iI s64 106 = -1 by first | (clear g60 hps47 hps44 g9 hps7; omega) | (clear hps47 hps44 g9 hps7; omega) | omega, fun j hj => absurd hj (by first | (clear g60 hps47 hps44 g9 hps7; omega) | (clear hps47 hps44 g9 hps7; omega) | omega)⟩
            refine z_callV X 179 (rm := (rkR (52 + 8))) (As := [.int (Int32.ofInt 0), .int (Int32.ofInt x), .int (Int32.ofInt y), .int (Int32.ofInt z), .int (Int32.ofInt 0)]) (st := []) rfl rfl (by decide) rfl (by rw [E.1, E.2.1, E.2.2.1]; exact k_gor9 G 8 Is64 JRLx_s64 JMDJ_s64 hGJ Qs64.2.2 (by first | exact ⟨by decide, b67.1⟩ | omega) (by first | exact oq_a8ea036d hs64.2.2.2.2.2.2.2.2.2.1 | omega) (by first | exact hs64.2.2.2.2.2.2.2.2.2.1 | omega) (by first | exact oq_028bc7f3 hs64.2.1.2 hs64.2.1.1 g46 hps44 | omega) (by first | exact ⟨hs64.1.1, hs64.1.2⟩ | omega) (by first | exact ⟨hs64.2.1.1, hs64.2.1.2⟩ | omega) (by first | exact ⟨hs64.2.2.1.1, hs64.2.2.1.2⟩ | omega) (by first | exact ⟨by decide, by decide⟩ | omega) (hGP)) ⟨by rw [E.2.2.2]; exact (show 72 + 1 ≤ 73 from oq_26188e76), by rw [E.2.2.2]; exact (show 8 + (8 + 11) + 3200 ≤ 3227 from oq_e592698d), by rw [E.2.2.2]; exact Nat.le_refl 0, by rw [E.2.2.2]; exact Nat.le_refl 0⟩ (Nat.le_of_ble_eq_true rfl) (fun vv s71 hq => ?_) (fun ee s71 hq => ?_)
            rotate_left
            · obtain ⟨Is71, Fs71, JRLx_s71, JMZJ_s71, hv, hps71⟩ := hq; cases hv
            obtain ⟨Is71, Fs71, JRLx_s71, JMZJ_s71, hv, hps71⟩ := hq
            cases hv
            have Gs71 := fm_tq Fs64 Fs71 rfl rfl
            have JRLx_s71 : RLx s71 := RLx_fm Fs71 (by decide) JRLx_s64
            have ws71_73 : iI s71 73 = iI s64 73 := fm_iq Fs71 rfl
            have ws71_105 : iI s71 105 = iI s64 105 := fm_iq Fs71 rfl
            have ws71_90 : iI s71 90 = iI s64 90 := fm_iq Fs71 rfl
            have b73 := bi_106 Is71
            have ws71_89 : iI s71 89 = iI s64 89 := fm_iq Fs71 rfl
            show WS k 212 [(0, .ref (A 179)), (1, .int (Int32.ofInt x)), (2, .int (Int32.ofInt y)), (3, .int (Int32.ofInt z)), (4, .int (Int32.ofInt w)), (6, .int (Int32.ofInt x65))] [] (Wd A dT s71) 0 0
            have hBS := slm_of hps71
            refine z_aload_n X (x := A 179) rfl (List.Mem.head _) (z_getI X 179 rfl (c518_ok rfl) rfl rfl ?_)
            have b74 := bi_106 Is71
            refine z_const X rfl (z_icmp_ne X (t := 224) rfl rfl (rng_to _) (by decide) (fun g75 => ?_) (fun g75 => ?_))
            ·
              refine z_load X (x := w) rfl (List.Mem.tail _ (List.Mem.tail _ (List.Mem.tail _ (List.Mem.tail _ (List.Mem.head _))))) (z_const X rfl (z_icmp_ne X (t := 237) rfl rfl ⟨by first | exact p3.1 | omega, by first | exact p3.2 | omega⟩ (by decide) (fun g76 => ?_) (fun g76 => ?_)))
              ·
                refine z_load X (x := w) rfl (List.Mem.tail _ (List.Mem.tail _ (List.Mem.tail _ (List.Mem.tail _ (List.Mem.head _))))) (z_aload_n X (x := A 179) rfl (List.Mem.head _) (z_getI X 179 rfl (c518_ok rfl) rfl rfl ?_))
                have b77 := bi_90 Is71
                refine z_icmp_ge X (t := 256) rfl rfl ⟨by first | exact p3.1 | omega, by first | exact p3.2 | omega⟩ (rng_to _) (fun g78 => ?_) (fun g78 => ?_)
                ·
                  refine z_const X rfl ?_
                  exact w_iret X.1 q hRt rfl (ax_d X (show cdA 286 257 = some (.ireturn, 1, 0, 0, 0) from rfl)) (Nat.zero_le _) (Nat.zero_le _) ⟨_, rfl, Is71, Gs71, JRLx_s71, 0, rfl, (by decide), Or.inl ⟨by first | exact ⟨hs64.1.1, hs64.1.2⟩ | omega, by first | exact ⟨hs64.2.1.1, hs64.2.1.2⟩ | omega, by first | exact ⟨hs64.2.2.1.1, hs64.2.2.1.2⟩ | omega, by first | exact ⟨hs64.2.2.2.1.1, hs64.2.2.2.1.2⟩ | omega, by first | exact oq_333640b7 ws71_73 hs64.2.2.2.2.1 b66.1 | omega, mnm_s hBS (by first | (clear g76 g75 g60 hps47 hps44 g9 hps7; omega) | (clear g75 g60 hps47 hps44 g9 hps7; omega) | omega) (by first | (clear g76 g75 g60 hps47 hps44 g9 hps7; omega) | (clear g75 g60 hps47 hps44 g9 hps7; omega) | omega) (by first | (clear g76 g75 g60 hps47 hps44 g9 hps7; omega) | (clear g75 g60 hps47 hps44 g9 hps7; omega) | omega) (Or.inr ⟨by first | (clear g76 g75 g60 hps47 hps44 g9 hps7; omega) | (clear g75 g60 hps47 hps44 g9 hps7; omega) | omega, rfl⟩)⟩⟩
                ·
                  refine z_aload_n X (x := A 179) rfl (List.Mem.head _) (s_getR X 179 rfl (c518_ok rfl) rfl rfl (z_load X (x := w) rfl (List.Mem.tail _ (List.Mem.tail _ (List.Mem.tail _ (List.Mem.tail _ (List.Mem.head _))))) (z_ald X 457 rfl (c518_ok rfl) rfl (by first | exact oq_33feeab9 g76 hs64.2.2.2.1.1 g60 | omega) (show w < 12 by first | exact oq_0ddfcfee hs64.2.2.2.1.2 | omega) (cbig_ok rfl) ?_)))
                  have b79 := bc_402 Is71 (show (w).toNat < 12 by first | exact oq_9c5fa447 hs64.2.2.2.1.2 | omega)
                  refine z_goto X (t := 257) rfl rfl ?_
                  exact w_iret X.1 q hRt rfl (ax_d X (show cdA 286 257 = some (.ireturn, 1, 0, 0, 0) from rfl)) (Nat.zero_le _) (Nat.zero_le _) ⟨_, rfl, Is71, Gs71, JRLx_s71, (iC s71 402 (w).toNat), rfl, (rng_to _), Or.inl ⟨by first | exact ⟨hs64.1.1, hs64.1.2⟩ | omega, by first | exact ⟨hs64.2.1.1, hs64.2.1.2⟩ | omega, by first | exact ⟨hs64.2.2.1.1, hs64.2.2.1.2⟩ | omega, by first | exact ⟨hs64.2.2.2.1.1, hs64.2.2.2.1.2⟩ | omega, by first | exact oq_333640b7 ws71_73 hs64.2.2.2.2.1 b66.1 | omega, mnm_s hBS (by first | (clear g76 g75 g60 hps47 hps44 g9 hps7; omega) | (clear g75 g60 hps47 hps44 g9 hps7; omega) | omega) (by first | (clear g76 g75 g60 hps47 hps44 g9 hps7; omega) | (clear g75 g60 hps47 hps44 g9 hps7; omega) | omega) (by first | (clear g76 g75 g60 hps47 hps44 g9 hps7; omega) | (clear g75 g60 hps47 hps44 g9 hps7; omega) | omega) (Or.inl ⟨by first | (clear g76 g75 g60 hps47 hps44 g9 hps7; omega) | (clear g75 g60 hps47 hps44 g9 hps7; omega) | omega, rfl⟩)⟩⟩
              ·
                refine z_aload_n X (x := A 179) rfl (List.Mem.head _) (z_getI X 179 rfl (c518_ok rfl) rfl rfl ?_)
                have b80 := bi_106 Is71
                refine z_goto X (t := 257) rfl rfl ?_
                exact w_iret X.1 q hRt rfl (ax_d X (show cdA 286 257 = some (.ireturn, 1, 0, 0, 0) from rfl)) (Nat.zero_le _) (Nat.zero_le _) ⟨_, rfl, Is71, Gs71, JRLx_s71, (iI s71 106), rfl, (rng_to _), Or.inl ⟨by first | exact ⟨hs64.1.1, hs64.1.2⟩ | omega, by first | exact ⟨hs64.2.1.1, hs64.2.1.2⟩ | omega, by first | exact ⟨hs64.2.2.1.1, hs64.2.2.1.2⟩ | omega, by first | exact ⟨hs64.2.2.2.1.1, hs64.2.2.2.1.2⟩ | omega, by first | exact oq_333640b7 ws71_73 hs64.2.2.2.2.1 b66.1 | omega, mnm_m hBS (by first | (clear g75 g60 hps47 hps44 g9 hps7; omega) | (clear g60 hps47 hps44 g9 hps7; omega) | omega) (by first | (clear g75 g60 hps47 hps44 g9 hps7; omega) | (clear g60 hps47 hps44 g9 hps7; omega) | omega) ⟨by first | (clear g75 g60 hps47 hps44 g9 hps7; omega) | (clear g60 hps47 hps44 g9 hps7; omega) | omega, rfl⟩⟩⟩
            ·
              refine z_const X rfl (z_goto X (t := 257) rfl rfl ?_)
              exact w_iret X.1 q hRt rfl (ax_d X (show cdA 286 257 = some (.ireturn, 1, 0, 0, 0) from rfl)) (Nat.zero_le _) (Nat.zero_le _) ⟨_, rfl, Is71, Gs71, JRLx_s71, (-1), rfl, (by decide), Or.inl ⟨by first | exact ⟨hs64.1.1, hs64.1.2⟩ | omega, by first | exact ⟨hs64.2.1.1, hs64.2.1.2⟩ | omega, by first | exact ⟨hs64.2.2.1.1, hs64.2.2.1.2⟩ | omega, by first | exact ⟨hs64.2.2.2.1.1, hs64.2.2.2.1.2⟩ | omega, by first | exact oq_333640b7 ws71_73 hs64.2.2.2.2.1 b66.1 | omega, Or.inr (Or.inl ⟨by first | (clear g60 hps47 hps44 g9 hps7; omega) | (clear hps47 hps44 g9 hps7; omega) | omega, Or.inr (bso9_0 hBS (by first | (clear g60 hps47 hps44 g9 hps7; omega) | (clear hps47 hps44 g9 hps7; omega) | omega)), rfl⟩)⟩⟩
          ·
            refine z_const X rfl ?_
            exact w_iret X.1 q hRt rfl (ax_d X (show cdA 286 173 = some (.ireturn, 1, 0, 0, 0) from rfl)) (Nat.zero_le _) (Nat.zero_le _) ⟨_, rfl, Is61, Fs61, JRLx_s61, (-1), rfl, (by decide), Or.inl ⟨by first | exact ⟨hs52.1.1, hs52.1.2⟩ | omega, by first | exact ⟨hs52.2.1.1, hs52.2.1.2⟩ | omega, by first | exact ⟨hs52.2.2.1.1, hs52.2.2.1.2⟩ | omega, by first | exact ⟨hs52.2.2.2.1.1, hs52.2.2.2.1.2⟩ | omega, by first | exact oq_333640b7 ws61_73 hs52.2.2.2.2.1 b55.1 | omega, Or.inr (Or.inl ⟨by first | (clear g60 hps47 hps44 g9 hps7; omega) | (clear hps47 hps44 g9 hps7; omega) | omega, Or.inl (by first | (clear g60 hps47 hps44 g9 hps7; omega) | (clear hps47 hps44 g9 hps7; omega) | omega), rfl⟩)⟩⟩
        ·
          refine z_load X (x := x53) rfl (List.Mem.tail _ (List.Mem.tail _ (List.Mem.tail _ (List.Mem.tail _ (List.Mem.tail _ (List.Mem.head _)))))) ?_
          exact w_iret X.1 q hRt rfl (ax_d X (show cdA 286 157 = some (.ireturn, 1, 0, 0, 0) from rfl)) (Nat.zero_le _) (Nat.zero_le _) ⟨_, rfl, Is52, Fs52, JRLx_s52, x53, rfl, ⟨by first | exact hs52.2.2.2.2.2.2.2.2.1.1 | omega, by first | exact hs52.2.2.2.2.2.2.2.2.1.2 | omega⟩, Or.inl ⟨by first | exact ⟨hs52.1.1, hs52.1.2⟩ | omega, by first | exact ⟨hs52.2.1.1, hs52.2.1.2⟩ | omega, by first | exact ⟨hs52.2.2.1.1, hs52.2.2.1.2⟩ | omega, by first | exact ⟨hs52.2.2.2.1.1, hs52.2.2.2.1.2⟩ | omega, by first | exact hs52.2.2.2.2.1 | omega, Or.inl ⟨by first | (clear hps47 hps44 g9 hps7; omega) | (clear hps44 g9 hps7; omega) | omega, ⟨by first | exact hs52.2.2.2.2.2.2.2.2.1.1 | omega, by first | exact hs52.2.2.2.2.2.2.2.2.1.2 | omega⟩, by have zz := hHS.2.1; rw [Int.toNat_natCast] at zz; exact zz⟩⟩⟩
      ·
        refine z_const X rfl ?_
        exact w_iret X.1 q hRt rfl (ax_d X (show cdA 286 61 = some (.ireturn, 1, 0, 0, 0) from rfl)) (Nat.zero_le _) (Nat.zero_le _) ⟨_, rfl, Is47, Gs47, JRLx_s47, 0, rfl, (by decide), Or.inr ⟨by first | exact oq_23424b26 g46 hps44 | omega, by first | exact oq_faabd673 g50 hps47 vs6 | omega⟩⟩
    ·
      refine z_load_n X (x := z) rfl (List.Mem.tail _ (List.Mem.tail _ (List.Mem.tail _ (List.Mem.head _)))) (z_const X rfl (z_bipush X rfl (z_callS X (rm := rmN 188) (As := [.int (Int32.ofInt z), .int (Int32.ofInt 0), .int (Int32.ofInt 8)]) (st := [.ref (A 179)]) rfl rfl (by rw [E.1, E.2.1, E.2.2.1]; exact k_in2 G Is6 (by first | exact ⟨p2.1, p2.2⟩ | omega) (by first | exact ⟨by decide, by decide⟩ | omega) (by first | exact ⟨by decide, by decide⟩ | omega)) ⟨by rw [E.2.2.2]; exact (show (rmN 188).frames + 1 ≤ (rmN 286).frames by decide), by rw [E.2.2.2]; exact (show 8 + (mNL (miB 188) + 11) + (rmN 188).locals ≤ (rmN 286).locals by decide), by rw [E.2.2.2]; exact (show 0 + (rmN 188).cells ≤ (rmN 286).cells by decide), by rw [E.2.2.2]; exact (show 0 + (rmN 188).slots ≤ (rmN 286).slots by decide)⟩ (Nat.le_of_ble_eq_true rfl) (fun vv s81 hq => ?_) (fun ee s81 hq => ?_))))
      rotate_left
      · obtain ⟨rfl, e82, hv, hrs81, hps81⟩ := hq; cases hv
      obtain ⟨rfl, e82, hv, hrs81, hps81⟩ := hq
      cases hv
      show WS k 33 [(0, .ref (A 179)), (1, .int (Int32.ofInt x)), (2, .int (Int32.ofInt y)), (3, .int (Int32.ofInt z)), (4, .int (Int32.ofInt w))] [.int (Int32.ofInt e82), .ref (A 179)] (Wd A dT s6) 0 0
      refine z_if_eq X (t := 48) rfl rfl hrs81 (fun g83 => ?_) (fun g83 => ?_)
      ·
        refine z_const X rfl (z_goto X (t := 53) rfl rfl (z_const X rfl (zcV_i0 X E 179 (As := [.int (Int32.ofInt 1), .int (Int32.ofInt 1)]) (st := []) rfl rfl rfl rfl (k_bad2 G Is6 (by first | exact Or.inr (by decide) | omega) (by first | exact ⟨by decide, by decide⟩ | omega)) rfl (Nat.le_of_ble_eq_true rfl) (fun s84 e85 Is84 Fs84 hrs84 hps84 => ?_))))
        have Gs84 := fm_tq Fs6 Fs84 rfl rfl
        have JRLx_s84 : RLx s84 := RLx_fm Fs84 (by decide) JRLx_s6
        have JMDJ_s84 : MDJ U s84 := MDJ_fm Fs84 (by decide) JMDJ_s6
        have b86 := bi_73 Is84
        have ws84_105 : iI s84 105 = iI s6 105 := fm_iq Fs84 rfl
        have ws84_90 : iI s84 90 = iI s6 90 := fm_iq Fs84 rfl
        have ws84_106 : iI s84 106 = iI s6 106 := fm_iq Fs84 rfl
        have ws84_89 : iI s84 89 = iI s6 89 := fm_iq Fs84 rfl
        refine z_if_eq X (t := 62) rfl rfl hrs84 (fun g87 => ?_) (fun g87 => ?_)
        ·
          have hst9 := jMDJ.1
          refine z_const X rfl (z_store X (lv' := [(5, .int (Int32.ofInt 0)), (0, .ref (A 179)), (1, .int (Int32.ofInt x)), (2, .int (Int32.ofInt y)), (3, .int (Int32.ofInt z)), (4, .int (Int32.ofInt w))]) rfl (by decide) (fun _ h => h) (z_aload_n X (x := A 179) rfl (List.Mem.tail _ (List.Mem.head _)) (z_const X rfl (s_putI X 179 rfl (c518_ok rfl) rfl rfl (by decide) rfl rfl rfl (wd_gen (fun s88 hs88 => ?_))))))
          have Is88 : Bd s88 := eqB hs88 (bd_I Is84 (show (0 : Int) ≤ 0 ∧ 0 ≤ 12 by first | exact ⟨by decide, by decide⟩ | omega) (by decide))
          have Fs88 := eqF hs88 (fm_I Gs84 (inl_ok (a := 105) rfl))
          have vs88 : iI s88 105 = 0 := eqI hs88 (iI_u (by decide))
          have ws88_73 : iI s88 73 = iI s84 73 := eqI hs88 rfl
          have ws88_90 : iI s88 90 = iI s84 90 := eqI hs88 rfl
          have ws88_106 : iI s88 106 = iI s84 106 := eqI hs88 rfl
          have ws88_89 : iI s88 89 = iI s84 89 := eqI hs88 rfl
          have fs88 : Fm [105] [] s84 s88 := by rw [hs88]; exact fm_I (fm_rf _ _ _) (show 105 ∈ _ by decide)
          have JRLx_s88 : RLx s88 := RLx_fm fs88 (by decide) JRLx_s84
          have JMDJ_s88 : MDJ U s88 := MDJ_fm fs88 (by decide) JMDJ_s84
          refine z_const X rfl (z_store X (lv' := [(6, .int (Int32.ofInt 0)), (5, .int (Int32.ofInt 0)), (0, .ref (A 179)), (1, .int (Int32.ofInt x)), (2, .int (Int32.ofInt y)), (3, .int (Int32.ofInt z)), (4, .int (Int32.ofInt w))]) rfl (by decide) (fun _ h => h) (WS_pq [2, 3, 4, 5, 6, 1, 0] (lv' := [(0, .ref (A 179)), (1, .int (Int32.ofInt x)), (2, .int (Int32.ofInt y)), (3, .int (Int32.ofInt z)), (4, .int (Int32.ofInt w)), (5, .int (Int32.ofInt 0)), (6, .int (Int32.ofInt 0))]) rfl (L73 ((12 - 0 : Int).toNat + 1) s88 0 0 Is88 Fs88 JRLx_s88 JMDJ_s88 (hsq_0 (by first | (clear hps84 hps81 g46 hps44 g9 hps7; omega) | (clear hps81 g46 hps44 g9 hps7; omega) | omega)) (by first | exact ⟨oq_e5a089c2 g9 hps7, oq_5933ef41 g46 hps44, oq_4c9b0342 g87 hps84 vs6, oq_d3994d9a g87 hps84 vs6, oq_8c407924 ws88_73 g87 b86.1 hps84 vs6, oq_29301542 ws88_89 ws84_89 ws6_89 p4 b5.1, oq_d0d2714e ws88_90 ws6_90 ws84_90, oq_9014f91b g87 hps84 vs6, And.intro (by decide) (by decide), And.intro (by decide) (b3.1), oq_0b35aa92 vs88, oq_1af0b4f8 vs88⟩ | omega) (Nat.lt_succ_self _) ?_)))
          intro s89 x90 x91 Is89 Fs89 JRLx_s89 JMDJ_s89 Qs89 hs89
          have b92 := bi_73 Is89
          have b93 := bi_105 Is89
          have b94 := bi_90 Is89
          have b95 := bi_106 Is89
          have b96 := bi_89 Is89
          have hHS : HSQ (hitP U (stM s) (x : Int).toNat) (uN U : Int) x90 s89 := by have zz := Qs89; rw [show x91 = (uN U : Int) by first | (clear hps84 hps81 g46 hps44 g9 hps7; omega) | (clear hps81 g46 hps44 g9 hps7; omega) | omega] at zz; exact zz
          have hH1 := hHS.1
          rw [Int.toNat_natCast] at hH1
          refine z_load X (x := w) rfl (List.Mem.tail _ (List.Mem.tail _ (List.Mem.tail _ (List.Mem.tail _ (List.Mem.head _))))) (z_bipush X rfl (z_icmp_ne X (t := 158) rfl rfl ⟨by first | exact p3.1 | omega, by first | exact p3.2 | omega⟩ (by decide) (fun g97 => ?_) (fun g97 => ?_)))
          ·
            refine z_aload_n X (x := A 179) rfl (List.Mem.head _) (z_const X rfl (s_putI X 179 rfl (c518_ok rfl) rfl rfl (by decide) rfl rfl rfl (wd_gen (fun s98 hs98 => ?_))))
            have Is98 : Bd s98 := eqB hs98 (bd_I Is89 (show ((-2147483648) : Int) ≤ (-1) ∧ (-1) ≤ 2147483647 by first | exact ⟨by decide, by decide⟩ | omega) (by decide))
            have Fs98 := eqF hs98 (fm_I Fs89 (inl_ok (a := 106) rfl))
            have vs98 : iI s98 106 = (-1) := eqI hs98 (iI_u (by decide))
            have ws98_73 : iI s98 73 = iI s89 73 := eqI hs98 rfl
            have ws98_105 : iI s98 105 = iI s89 105 := eqI hs98 rfl
            have ws98_90 : iI s98 90 = iI s89 90 := eqI hs98 rfl
            have ws98_89 : iI s98 89 = iI s89 89 := eqI hs98 rfl
            have fs98 : Fm [106] [] s89 s98 := by rw [hs98]; exact fm_I (fm_rf _ _ _) (show 106 ∈ _ by decide)
            have JRLx_s98 : RLx s98 := RLx_fm fs98 (by decide) JRLx_s89
            have JMDJ_s98 : MDJ U s98 := MDJ_fm fs98 (by decide) JMDJ_s89
            refine z_aload_n X (x := A 179) rfl (List.Mem.head _) (z_getI X 179 rfl (c518_ok rfl) rfl rfl ?_)
            have b99 := bi_105 Is98
            refine z_bipush X rfl (z_icmp_le X (t := 174) rfl rfl (rng_to _) (by decide) (fun g100 => ?_) (fun g100 => ?_))
            ·
              have hHT : HTQ (hitP U (stM s) (x : Int).toNat) (uN U) (fun j => iC s98 400 j) := fun b hb p => (show iC s98 400 (cHt (hitP U (stM s) (x : Int).toNat) b) = iC s89 400 (cHt (hitP U (stM s) (x : Int).toNat) b) by rw [hs98]; rfl).trans (hHS.2.2.1 b (by first | (clear g97 hps84 hps81 g46 hps44 g9 hps7; omega) | (clear hps84 hps81 g46 hps44 g9 hps7; omega) | omega) p (by have := cht_lt (P := (hitP U (stM s) (x : Int).toNat)) hb p; omega))
              have hMZ0 : MZJ U (hitP U (stM s) (x : Int).toNat) s98 := fun b hb _ => (show iC s98 401 b = iC s89 401 b by rw [hs98]; rfl).trans (hHS.2.2.2 b (by first | (clear g97 hps84 hps81 g46 hps44 g9 hps7; omega) | (clear hps84 hps81 g46 hps44 g9 hps7; omega) | omega))
              refine z_const X rfl (z_store X (lv' := [(6, .int (Int32.ofInt 0)), (0, .ref (A 179)), (1, .int (Int32.ofInt x)), (2, .int (Int32.ofInt y)), (3, .int (Int32.ofInt z)), (4, .int (Int32.ofInt w)), (5, .int (Int32.ofInt x90))]) rfl (by decide) (fun _ h => h) (WS_pq [1, 2, 3, 4, 5, 0] (lv' := [(0, .ref (A 179)), (1, .int (Int32.ofInt x)), (2, .int (Int32.ofInt y)), (3, .int (Int32.ofInt z)), (4, .int (Int32.ofInt w)), (6, .int (Int32.ofInt 0))]) rfl (L177 ((8 - 0 : Int).toNat + 1) s98 0 Is98 Fs98 JRLx_s98 JMDJ_s98 ⟨rnl_0, hHT, hMZ0⟩ (by first | exact ⟨And.intro (hs89.1.1) (hs89.1.2), And.intro (hs89.2.1.1) (hs89.2.1.2), And.intro (hs89.2.2.1.1) (hs89.2.2.1.2), And.intro (hs89.2.2.2.1.1) (hs89.2.2.2.1.2), oq_333640b7 ws98_73 hs89.2.2.2.2.1 b92.1, oq_b44a1c7f ws98_89 hs89.2.2.2.2.2.1 b96.1, oq_1aa5be9e ws98_90 hs89.2.2.2.2.2.2.1, And.intro (hs89.2.2.2.2.2.2.2.1.1) (hs89.2.2.2.2.2.2.2.1.2), And.intro (by decide) (b99.1), g100, oq_028bc7f3 hs89.2.2.1.2 hs89.2.2.1.1 g83 hps81, vs98⟩ | omega) (Nat.lt_succ_self _) ?_)))
              intro s101 x102 Is101 Fs101 JRLx_s101 JMDJ_s101 Qs101 hs101
              have b103 := bi_73 Is101
              have b104 := bi_105 Is101
              have b105 := bi_90 Is101
              have b106 := bi_106 Is101
              have b107 := bi_89 Is101
              have hGJ : GTJ U (stM s) (x : Int).toNat (fitK9 U (stM s) (x : Int).toNat (pfM s) (fun j => iC s 229 j)) s101 := ⟨⟨⟨by first | (clear g97 hps84 hps81 g46 hps44 g9 hps7; omega) | (clear hps84 hps81 g46 hps44 g9 hps7; omega) | omega, by first | (clear g97 hps84 hps81 g46 hps44 g9 hps7; omega) | (clear hps84 hps81 g46 hps44 g9 hps7; omega) | omega⟩, Qs101.2.1⟩, fun b hb p => Qs101.1 b hb p (by have := cht_lt (P := (hitP U (stM s) (x : Int).toNat)) hb p; omega), by first | (clear g97 hps84 hps81 g46 hps44 g9 hps7; omega) | (clear hps84 hps81 g46 hps44 g9 hps7; omega) | omega, ⟨by first | (clear g97 hps84 hps81 g46 hps44 g9 hps7; omega) | (clear hps84 hps81 g46 hps44 g9 hps7; omega) | omega, jMDJ.1.2, fun b hb => hMB (x : Int).toNat b (by first | (clear g97 hps84 hps81 g46 hps44 g9 hps7; omega) | (clear hps84 hps81 g46 hps44 g9 hps7; omega) | omega) hb⟩, by rw [show pfM s101 = pfM s from funext (fun j => fm_c Fs101 (by decide)), show (fun j => iC s101 229 j) = (fun j => iC s 229 j) from funext (fun j => fm_c Fs101 (by decide))]⟩
              refine z_aload_n X (x := A 179) rfl (List.Mem.head _) (z_const X rfl (z_load_n X (x := x) rfl (List.Mem.tail _ (List.Mem.head _)) (z_load_n X (x := y) rfl (List.Mem.tail _ (List.Mem.tail _ (List.Mem.head _))) (z_load_n X (x := z) rfl (List.Mem.tail _ (List.Mem.tail _ (List.Mem.tail _ (List.Mem.head _)))) (z_const X rfl ?_)))))
              have hGP : GTP U (hitP U (stM s) (x : Int).toNat) none 0 s101 := ⟨show iI s101 106 = -1 by first | (clear g97 hps84 hps81 g46 hps44 g9 hps7; omega) | (clear hps84 hps81 g46 hps44 g9 hps7; omega) | omega, fun j hj => absurd hj (by first | (clear g97 hps84 hps81 g46 hps44 g9 hps7; omega) | (clear hps84 hps81 g46 hps44 g9 hps7; omega) | omega)⟩
              refine z_callV X 179 (rm := (rkR (52 + 8))) (As := [.int (Int32.ofInt 0), .int (Int32.ofInt x), .int (Int32.ofInt y), .int (Int32.ofInt z), .int (Int32.ofInt 0)]) (st := []) rfl rfl (by decide) rfl (by rw [E.1, E.2.1, E.2.2.1]; exact k_gor9 G 8 Is101 JRLx_s101 JMDJ_s101 hGJ Qs101.2.2 (by first | exact ⟨by decide, b104.1⟩ | omega) (by first | exact oq_a8ea036d hs101.2.2.2.2.2.2.2.2.2.1 | omega) (by first | exact hs101.2.2.2.2.2.2.2.2.2.1 | omega) (by first | exact oq_028bc7f3 hs101.2.2.1.2 hs101.2.2.1.1 g83 hps81 | omega) (by first | exact ⟨hs101.1.1, hs101.1.2⟩ | omega) (by first | exact ⟨hs101.2.1.1, hs101.2.1.2⟩ | omega) (by first | exact ⟨hs101.2.2.1.1, hs101.2.2.1.2⟩ | omega) (by first | exact ⟨by decide, by decide⟩ | omega) (hGP)) ⟨by rw [E.2.2.2]; exact (show 72 + 1 ≤ 73 from oq_26188e76), by rw [E.2.2.2]; exact (show 8 + (8 + 11) + 3200 ≤ 3227 from oq_e592698d), by rw [E.2.2.2]; exact Nat.le_refl 0, by rw [E.2.2.2]; exact Nat.le_refl 0⟩ (Nat.le_of_ble_eq_true rfl) (fun vv s108 hq => ?_) (fun ee s108 hq => ?_)
              rotate_left
              · obtain ⟨Is108, Fs108, JRLx_s108, JMZJ_s108, hv, hps108⟩ := hq; cases hv
              obtain ⟨Is108, Fs108, JRLx_s108, JMZJ_s108, hv, hps108⟩ := hq
              cases hv
              have Gs108 := fm_tq Fs101 Fs108 rfl rfl
              have JRLx_s108 : RLx s108 := RLx_fm Fs108 (by decide) JRLx_s101
              have ws108_73 : iI s108 73 = iI s101 73 := fm_iq Fs108 rfl
              have ws108_105 : iI s108 105 = iI s101 105 := fm_iq Fs108 rfl
              have ws108_90 : iI s108 90 = iI s101 90 := fm_iq Fs108 rfl
              have b110 := bi_106 Is108
              have ws108_89 : iI s108 89 = iI s101 89 := fm_iq Fs108 rfl
              show WS k 212 [(0, .ref (A 179)), (1, .int (Int32.ofInt x)), (2, .int (Int32.ofInt y)), (3, .int (Int32.ofInt z)), (4, .int (Int32.ofInt w)), (6, .int (Int32.ofInt x102))] [] (Wd A dT s108) 0 0
              have hBS := slm_of hps108
              refine z_aload_n X (x := A 179) rfl (List.Mem.head _) (z_getI X 179 rfl (c518_ok rfl) rfl rfl ?_)
              have b111 := bi_106 Is108
              refine z_const X rfl (z_icmp_ne X (t := 224) rfl rfl (rng_to _) (by decide) (fun g112 => ?_) (fun g112 => ?_))
              ·
                refine z_load X (x := w) rfl (List.Mem.tail _ (List.Mem.tail _ (List.Mem.tail _ (List.Mem.tail _ (List.Mem.head _))))) (z_const X rfl (z_icmp_ne X (t := 237) rfl rfl ⟨by first | exact p3.1 | omega, by first | exact p3.2 | omega⟩ (by decide) (fun g113 => ?_) (fun g113 => ?_)))
                ·
                  refine z_load X (x := w) rfl (List.Mem.tail _ (List.Mem.tail _ (List.Mem.tail _ (List.Mem.tail _ (List.Mem.head _))))) (z_aload_n X (x := A 179) rfl (List.Mem.head _) (z_getI X 179 rfl (c518_ok rfl) rfl rfl ?_))
                  have b114 := bi_90 Is108
                  refine z_icmp_ge X (t := 256) rfl rfl ⟨by first | exact p3.1 | omega, by first | exact p3.2 | omega⟩ (rng_to _) (fun g115 => ?_) (fun g115 => ?_)
                  ·
                    refine z_const X rfl ?_
                    exact w_iret X.1 q hRt rfl (ax_d X (show cdA 286 257 = some (.ireturn, 1, 0, 0, 0) from rfl)) (Nat.zero_le _) (Nat.zero_le _) ⟨_, rfl, Is108, Gs108, JRLx_s108, 0, rfl, (by decide), Or.inl ⟨by first | exact ⟨hs101.1.1, hs101.1.2⟩ | omega, by first | exact ⟨hs101.2.1.1, hs101.2.1.2⟩ | omega, by first | exact ⟨hs101.2.2.1.1, hs101.2.2.1.2⟩ | omega, by first | exact ⟨hs101.2.2.2.1.1, hs101.2.2.2.1.2⟩ | omega, by first | exact oq_333640b7 ws108_73 hs101.2.2.2.2.1 b103.1 | omega, mnm_s hBS (by first | (clear g113 g112 g97 hps84 hps81 g46 hps44 g9 hps7; omega) | (clear g112 g97 hps84 hps81 g46 hps44 g9 hps7; omega) | omega) (by first | (clear g113 g112 g97 hps84 hps81 g46 hps44 g9 hps7; omega) | (clear g112 g97 hps84 hps81 g46 hps44 g9 hps7; omega) | omega) (by first | (clear g113 g112 g97 hps84 hps81 g46 hps44 g9 hps7; omega) | (clear g112 g97 hps84 hps81 g46 hps44 g9 hps7; omega) | omega) (Or.inr ⟨by first | (clear g113 g112 g97 hps84 hps81 g46 hps44 g9 hps7; omega) | (clear g112 g97 hps84 hps81 g46 hps44 g9 hps7; omega) | omega, rfl⟩)⟩⟩
                  ·
                    refine z_aload_n X (x := A 179) rfl (List.Mem.head _) (s_getR X 179 rfl (c518_ok rfl) rfl rfl (z_load X (x := w) rfl (List.Mem.tail _ (List.Mem.tail _ (List.Mem.tail _ (List.Mem.tail _ (List.Mem.head _))))) (z_ald X 457 rfl (c518_ok rfl) rfl (by first | exact oq_33feeab9 g113 hs101.2.2.2.1.1 g97 | omega) (show w < 12 by first | exact oq_0ddfcfee hs101.2.2.2.1.2 | omega) (cbig_ok rfl) ?_)))
                    have b116 := bc_402 Is108 (show (w).toNat < 12 by first | exact oq_9c5fa447 hs101.2.2.2.1.2 | omega)
                    refine z_goto X (t := 257) rfl rfl ?_
                    exact w_iret X.1 q hRt rfl (ax_d X (show cdA 286 257 = some (.ireturn, 1, 0, 0, 0) from rfl)) (Nat.zero_le _) (Nat.zero_le _) ⟨_, rfl, Is108, Gs108, JRLx_s108, (iC s108 402 (w).toNat), rfl, (rng_to _), Or.inl ⟨by first | exact ⟨hs101.1.1, hs101.1.2⟩ | omega, by first | exact ⟨hs101.2.1.1, hs101.2.1.2⟩ | omega, by first | exact ⟨hs101.2.2.1.1, hs101.2.2.1.2⟩ | omega, by first | exact ⟨hs101.2.2.2.1.1, hs101.2.2.2.1.2⟩ | omega, by first | exact oq_333640b7 ws108_73 hs101.2.2.2.2.1 b103.1 | omega, mnm_s hBS (by first | (clear g113 g112 g97 hps84 hps81 g46 hps44 g9 hps7; omega) | (clear g112 g97 hps84 hps81 g46 hps44 g9 hps7; omega) | omega) (by first | (clear g113 g112 g97 hps84 hps81 g46 hps44 g9 hps7; omega) | (clear g112 g97 hps84 hps81 g46 hps44 g9 hps7; omega) | omega) (by first | (clear g113 g112 g97 hps84 hps81 g46 hps44 g9 hps7; omega) | (clear g112 g97 hps84 hps81 g46 hps44 g9 hps7; omega) | omega) (Or.inl ⟨by first | (clear g113 g112 g97 hps84 hps81 g46 hps44 g9 hps7; omega) | (clear g112 g97 hps84 hps81 g46 hps44 g9 hps7; omega) | omega, rfl⟩)⟩⟩
                ·
                  refine z_aload_n X (x := A 179) rfl (List.Mem.head _) (z_getI X 179 rfl (c518_ok rfl) rfl rfl ?_)
                  have b117 := bi_106 Is108
                  refine z_goto X (t := 257) rfl rfl ?_
                  exact w_iret X.1 q hRt rfl (ax_d X (show cdA 286 257 = some (.ireturn, 1, 0, 0, 0) from rfl)) (Nat.zero_le _) (Nat.zero_le _) ⟨_, rfl, Is108, Gs108, JRLx_s108, (iI s108 106), rfl, (rng_to _), Or.inl ⟨by first | exact ⟨hs101.1.1, hs101.1.2⟩ | omega, by first | exact ⟨hs101.2.1.1, hs101.2.1.2⟩ | omega, by first | exact ⟨hs101.2.2.1.1, hs101.2.2.1.2⟩ | omega, by first | exact ⟨hs101.2.2.2.1.1, hs101.2.2.2.1.2⟩ | omega, by first | exact oq_333640b7 ws108_73 hs101.2.2.2.2.1 b103.1 | omega, mnm_m hBS (by first | (clear g112 g97 hps84 hps81 g46 hps44 g9 hps7; omega) | (clear g97 hps84 hps81 g46 hps44 g9 hps7; omega) | omega) (by first | (clear g112 g97 hps84 hps81 g46 hps44 g9 hps7; omega) | (clear g97 hps84 hps81 g46 hps44 g9 hps7; omega) | omega) ⟨by first | (clear g112 g97 hps84 hps81 g46 hps44 g9 hps7; omega) | (clear g97 hps84 hps81 g46 hps44 g9 hps7; omega) | omega, rfl⟩⟩⟩
              ·
                refine z_const X rfl (z_goto X (t := 257) rfl rfl ?_)
                exact w_iret X.1 q hRt rfl (ax_d X (show cdA 286 257 = some (.ireturn, 1, 0, 0, 0) from rfl)) (Nat.zero_le _) (Nat.zero_le _) ⟨_, rfl, Is108, Gs108, JRLx_s108, (-1), rfl, (by decide), Or.inl ⟨by first | exact ⟨hs101.1.1, hs101.1.2⟩ | omega, by first | exact ⟨hs101.2.1.1, hs101.2.1.2⟩ | omega, by first | exact ⟨hs101.2.2.1.1, hs101.2.2.1.2⟩ | omega, by first | exact ⟨hs101.2.2.2.1.1, hs101.2.2.2.1.2⟩ | omega, by first | exact oq_333640b7 ws108_73 hs101.2.2.2.2.1 b103.1 | omega, Or.inr (Or.inl ⟨by first | (clear g97 hps84 hps81 g46 hps44 g9 hps7; omega) | (clear hps84 hps81 g46 hps44 g9 hps7; omega) | omega, Or.inr (bso9_0 hBS (by first | (clear g97 hps84 hps81 g46 hps44 g9 hps7; omega) | (clear hps84 hps81 g46 hps44 g9 hps7; omega) | omega)), rfl⟩)⟩⟩
            ·
              refine z_const X rfl ?_
              exact w_iret X.1 q hRt rfl (ax_d X (show cdA 286 173 = some (.ireturn, 1, 0, 0, 0) from rfl)) (Nat.zero_le _) (Nat.zero_le _) ⟨_, rfl, Is98, Fs98, JRLx_s98, (-1), rfl, (by decide), Or.inl ⟨by first | exact ⟨hs89.1.1, hs89.1.2⟩ | omega, by first | exact ⟨hs89.2.1.1, hs89.2.1.2⟩ | omega, by first | exact ⟨hs89.2.2.1.1, hs89.2.2.1.2⟩ | omega, by first | exact ⟨hs89.2.2.2.1.1, hs89.2.2.2.1.2⟩ | omega, by first | exact oq_333640b7 ws98_73 hs89.2.2.2.2.1 b92.1 | omega, Or.inr (Or.inl ⟨by first | (clear g97 hps84 hps81 g46 hps44 g9 hps7; omega) | (clear hps84 hps81 g46 hps44 g9 hps7; omega) | omega, Or.inl (by first | (clear g97 hps84 hps81 g46 hps44 g9 hps7; omega) | (clear hps84 hps81 g46 hps44 g9 hps7; omega) | omega), rfl⟩)⟩⟩
          ·
            refine z_load X (x := x90) rfl (List.Mem.tail _ (List.Mem.tail _ (List.Mem.tail _ (List.Mem.tail _ (List.Mem.tail _ (List.Mem.head _)))))) ?_
            exact w_iret X.1 q hRt rfl (ax_d X (show cdA 286 157 = some (.ireturn, 1, 0, 0, 0) from rfl)) (Nat.zero_le _) (Nat.zero_le _) ⟨_, rfl, Is89, Fs89, JRLx_s89, x90, rfl, ⟨by first | exact hs89.2.2.2.2.2.2.2.2.1.1 | omega, by first | exact hs89.2.2.2.2.2.2.2.2.1.2 | omega⟩, Or.inl ⟨by first | exact ⟨hs89.1.1, hs89.1.2⟩ | omega, by first | exact ⟨hs89.2.1.1, hs89.2.1.2⟩ | omega, by first | exact ⟨hs89.2.2.1.1, hs89.2.2.1.2⟩ | omega, by first | exact ⟨hs89.2.2.2.1.1, hs89.2.2.2.1.2⟩ | omega, by first | exact hs89.2.2.2.2.1 | omega, Or.inl ⟨by first | (clear hps84 hps81 g46 hps44 g9 hps7; omega) | (clear hps81 g46 hps44 g9 hps7; omega) | omega, ⟨by first | exact hs89.2.2.2.2.2.2.2.2.1.1 | omega, by first | exact hs89.2.2.2.2.2.2.2.2.1.2 | omega⟩, by have zz := hHS.2.1; rw [Int.toNat_natCast] at zz; exact zz⟩⟩⟩
        ·
          refine z_const X rfl ?_
          exact w_iret X.1 q hRt rfl (ax_d X (show cdA 286 61 = some (.ireturn, 1, 0, 0, 0) from rfl)) (Nat.zero_le _) (Nat.zero_le _) ⟨_, rfl, Is84, Gs84, JRLx_s84, 0, rfl, (by decide), Or.inr ⟨by first | exact oq_5f471880 g83 hps81 | omega, by first | exact oq_faabd673 g87 hps84 vs6 | omega⟩⟩
      ·
        refine z_load X (x := w) rfl (List.Mem.tail _ (List.Mem.tail _ (List.Mem.tail _ (List.Mem.tail _ (List.Mem.head _))))) (z_bipush X rfl (z_bipush X rfl (z_callS X (rm := rmN 188) (As := [.int (Int32.ofInt w), .int (Int32.ofInt (-2)), .int (Int32.ofInt 11)]) (st := [.ref (A 179)]) rfl rfl (by rw [E.1, E.2.1, E.2.2.1]; exact k_in2 G Is6 (by first | exact ⟨p3.1, p3.2⟩ | omega) (by first | exact ⟨by decide, by decide⟩ | omega) (by first | exact ⟨by decide, by decide⟩ | omega)) ⟨by rw [E.2.2.2]; exact (show (rmN 188).frames + 1 ≤ (rmN 286).frames by decide), by rw [E.2.2.2]; exact (show 8 + (mNL (miB 188) + 11) + (rmN 188).locals ≤ (rmN 286).locals by decide), by rw [E.2.2.2]; exact (show 0 + (rmN 188).cells ≤ (rmN 286).cells by decide), by rw [E.2.2.2]; exact (show 0 + (rmN 188).slots ≤ (rmN 286).slots by decide)⟩ (Nat.le_of_ble_eq_true rfl) (fun vv s118 hq => ?_) (fun ee s118 hq => ?_))))
        rotate_left
        · obtain ⟨rfl, e119, hv, hrs118, hps118⟩ := hq; cases hv
        obtain ⟨rfl, e119, hv, hrs118, hps118⟩ := hq
        cases hv
        show WS k 45 [(0, .ref (A 179)), (1, .int (Int32.ofInt x)), (2, .int (Int32.ofInt y)), (3, .int (Int32.ofInt z)), (4, .int (Int32.ofInt w))] [.int (Int32.ofInt e119), .ref (A 179)] (Wd A dT s6) 0 0
        refine z_if_ne X (t := 52) rfl rfl hrs118 (fun g120 => ?_) (fun g120 => ?_)
        ·
          refine z_const X rfl (z_const X rfl (zcV_i0 X E 179 (As := [.int (Int32.ofInt 0), .int (Int32.ofInt 1)]) (st := []) rfl rfl rfl rfl (k_bad2 G Is6 (by first | exact Or.inl (by decide) | omega) (by first | exact ⟨by decide, by decide⟩ | omega)) rfl (Nat.le_of_ble_eq_true rfl) (fun s121 e122 Is121 Fs121 hrs121 hps121 => ?_)))
          have Gs121 := fm_tq Fs6 Fs121 rfl rfl
          have JRLx_s121 : RLx s121 := RLx_fm Fs121 (by decide) JRLx_s6
          have JMDJ_s121 : MDJ U s121 := MDJ_fm Fs121 (by decide) JMDJ_s6
          have b123 := bi_73 Is121
          have ws121_105 : iI s121 105 = iI s6 105 := fm_iq Fs121 rfl
          have ws121_90 : iI s121 90 = iI s6 90 := fm_iq Fs121 rfl
          have ws121_106 : iI s121 106 = iI s6 106 := fm_iq Fs121 rfl
          have ws121_89 : iI s121 89 = iI s6 89 := fm_iq Fs121 rfl
          refine z_if_eq X (t := 62) rfl rfl hrs121 (fun g124 => ?_) (fun g124 => ?_)
          ·
            have hst9 := jMDJ.1
            refine z_const X rfl (z_store X (lv' := [(5, .int (Int32.ofInt 0)), (0, .ref (A 179)), (1, .int (Int32.ofInt x)), (2, .int (Int32.ofInt y)), (3, .int (Int32.ofInt z)), (4, .int (Int32.ofInt w))]) rfl (by decide) (fun _ h => h) (z_aload_n X (x := A 179) rfl (List.Mem.tail _ (List.Mem.head _)) (z_const X rfl (s_putI X 179 rfl (c518_ok rfl) rfl rfl (by decide) rfl rfl rfl (wd_gen (fun s125 hs125 => ?_))))))
            have Is125 : Bd s125 := eqB hs125 (bd_I Is121 (show (0 : Int) ≤ 0 ∧ 0 ≤ 12 by first | exact ⟨by decide, by decide⟩ | omega) (by decide))
            have Fs125 := eqF hs125 (fm_I Gs121 (inl_ok (a := 105) rfl))
            have vs125 : iI s125 105 = 0 := eqI hs125 (iI_u (by decide))
            have ws125_73 : iI s125 73 = iI s121 73 := eqI hs125 rfl
            have ws125_90 : iI s125 90 = iI s121 90 := eqI hs125 rfl
            have ws125_106 : iI s125 106 = iI s121 106 := eqI hs125 rfl
            have ws125_89 : iI s125 89 = iI s121 89 := eqI hs125 rfl
            have fs125 : Fm [105] [] s121 s125 := by rw [hs125]; exact fm_I (fm_rf _ _ _) (show 105 ∈ _ by decide)
            have JRLx_s125 : RLx s125 := RLx_fm fs125 (by decide) JRLx_s121
            have JMDJ_s125 : MDJ U s125 := MDJ_fm fs125 (by decide) JMDJ_s121
            refine z_const X rfl (z_store X (lv' := [(6, .int (Int32.ofInt 0)), (5, .int (Int32.ofInt 0)), (0, .ref (A 179)), (1, .int (Int32.ofInt x)), (2, .int (Int32.ofInt y)), (3, .int (Int32.ofInt z)), (4, .int (Int32.ofInt w))]) rfl (by decide) (fun _ h => h) (WS_pq [2, 3, 4, 5, 6, 1, 0] (lv' := [(0, .ref (A 179)), (1, .int (Int32.ofInt x)), (2, .int (Int32.ofInt y)), (3, .int (Int32.ofInt z)), (4, .int (Int32.ofInt w)), (5, .int (Int32.ofInt 0)), (6, .int (Int32.ofInt 0))]) rfl (L73 ((12 - 0 : Int).toNat + 1) s125 0 0 Is125 Fs125 JRLx_s125 JMDJ_s125 (hsq_0 (by first | (clear hps121 g120 hps118 g83 hps81 g46 hps44 g9 hps7; omega) | (clear g120 hps118 g83 hps81 g46 hps44 g9 hps7; omega) | omega)) (by first | (clear hps121 g120 hps118 g83 hps81 g46 hps44 g9 hps7; omega) | (clear g120 hps118 g83 hps81 g46 hps44 g9 hps7; omega) | omega) (Nat.lt_succ_self _) ?_)))
            intro s126 x127 x128 Is126 Fs126 JRLx_s126 JMDJ_s126 Qs126 hs126
            have b129 := bi_73 Is126
            have b130 := bi_105 Is126
            have b131 := bi_90 Is126
            have b132 := bi_106 Is126
            have b133 := bi_89 Is126
            have hHS : HSQ (hitP U (stM s) (x : Int).toNat) (uN U : Int) x127 s126 := by have zz := Qs126; rw [show x128 = (uN U : Int) by first | (clear hps121 g120 hps118 g83 hps81 g46 hps44 g9 hps7; omega) | (clear g120 hps118 g83 hps81 g46 hps44 g9 hps7; omega) | omega] at zz; exact zz
            have hH1 := hHS.1
            rw [Int.toNat_natCast] at hH1
            refine z_load X (x := w) rfl (List.Mem.tail _ (List.Mem.tail _ (List.Mem.tail _ (List.Mem.tail _ (List.Mem.head _))))) (z_bipush X rfl (z_icmp_ne X (t := 158) rfl rfl ⟨by first | exact p3.1 | omega, by first | exact p3.2 | omega⟩ (by decide) (fun g134 => ?_) (fun g134 => ?_)))
            ·
              refine z_aload_n X (x := A 179) rfl (List.Mem.head _) (z_const X rfl (s_putI X 179 rfl (c518_ok rfl) rfl rfl (by decide) rfl rfl rfl (wd_gen (fun s135 hs135 => ?_))))
              have Is135 : Bd s135 := eqB hs135 (bd_I Is126 (show ((-2147483648) : Int) ≤ (-1) ∧ (-1) ≤ 2147483647 by first | exact ⟨by decide, by decide⟩ | omega) (by decide))
              have Fs135 := eqF hs135 (fm_I Fs126 (inl_ok (a := 106) rfl))
              have vs135 : iI s135 106 = (-1) := eqI hs135 (iI_u (by decide))
              have ws135_73 : iI s135 73 = iI s126 73 := eqI hs135 rfl
              have ws135_105 : iI s135 105 = iI s126 105 := eqI hs135 rfl
              have ws135_90 : iI s135 90 = iI s126 90 := eqI hs135 rfl
              have ws135_89 : iI s135 89 = iI s126 89 := eqI hs135 rfl
              have fs135 : Fm [106] [] s126 s135 := by rw [hs135]; exact fm_I (fm_rf _ _ _) (show 106 ∈ _ by decide)
              have JRLx_s135 : RLx s135 := RLx_fm fs135 (by decide) JRLx_s126
              have JMDJ_s135 : MDJ U s135 := MDJ_fm fs135 (by decide) JMDJ_s126
              refine z_aload_n X (x := A 179) rfl (List.Mem.head _) (z_getI X 179 rfl (c518_ok rfl) rfl rfl ?_)
              have b136 := bi_105 Is135
              refine z_bipush X rfl (z_icmp_le X (t := 174) rfl rfl (rng_to _) (by decide) (fun g137 => ?_) (fun g137 => ?_))
              ·
                have hHT : HTQ (hitP U (stM s) (x : Int).toNat) (uN U) (fun j => iC s135 400 j) := fun b hb p => (show iC s135 400 (cHt (hitP U (stM s) (x : Int).toNat) b) = iC s126 400 (cHt (hitP U (stM s) (x : Int).toNat) b) by rw [hs135]; rfl).trans (hHS.2.2.1 b (by first | (clear g134 hps121 g120 hps118 g83 hps81 g46 hps44 g9 hps7; omega) | (clear hps121 g120 hps118 g83 hps81 g46 hps44 g9 hps7; omega) | omega) p (by have := cht_lt (P := (hitP U (stM s) (x : Int).toNat)) hb p; omega))
                have hMZ0 : MZJ U (hitP U (stM s) (x : Int).toNat) s135 := fun b hb _ => (show iC s135 401 b = iC s126 401 b by rw [hs135]; rfl).trans (hHS.2.2.2 b (by first | (clear g134 hps121 g120 hps118 g83 hps81 g46 hps44 g9 hps7; omega) | (clear hps121 g120 hps118 g83 hps81 g46 hps44 g9 hps7; omega) | omega))
                refine z_const X rfl (z_store X (lv' := [(6, .int (Int32.ofInt 0)), (0, .ref (A 179)), (1, .int (Int32.ofInt x)), (2, .int (Int32.ofInt y)), (3, .int (Int32.ofInt z)), (4, .int (Int32.ofInt w)), (5, .int (Int32.ofInt x127))]) rfl (by decide) (fun _ h => h) (WS_pq [1, 2, 3, 4, 5, 0] (lv' := [(0, .ref (A 179)), (1, .int (Int32.ofInt x)), (2, .int (Int32.ofInt y)), (3, .int (Int32.ofInt z)), (4, .int (Int32.ofInt w)), (6, .int (Int32.ofInt 0))]) rfl (L177 ((8 - 0 : Int).toNat + 1) s135 0 Is135 Fs135 JRLx_s135 JMDJ_s135 ⟨rnl_0, hHT, hMZ0⟩ (by first | exact ⟨And.intro (hs126.1.1) (hs126.1.2), And.intro (hs126.2.1.1) (hs126.2.1.2), And.intro (hs126.2.2.1.1) (hs126.2.2.1.2), And.intro (hs126.2.2.2.1.1) (hs126.2.2.2.1.2), oq_333640b7 ws135_73 hs126.2.2.2.2.1 b129.1, oq_b44a1c7f ws135_89 hs126.2.2.2.2.2.1 b133.1, oq_1aa5be9e ws135_90 hs126.2.2.2.2.2.2.1, And.intro (hs126.2.2.2.2.2.2.2.1.1) (hs126.2.2.2.2.2.2.2.1.2), And.intro (by decide) (b136.1), g137, by first | (clear g134 hps121 g120 hps118 g83 hps81 g46 hps44 g9 hps7; omega) | (clear hps121 g120 hps118 g83 hps81 g46 hps44 g9 hps7; omega) | omega, vs135⟩ | omega) (Nat.lt_succ_self _) ?_)))
                intro s138 x139 Is138 Fs138 JRLx_s138 JMDJ_s138 Qs138 hs138
                have b140 := bi_73 Is138
                have b141 := bi_105 Is138
                have b142 := bi_90 Is138
                have b143 := bi_106 Is138
                have b144 := bi_89 Is138
                have hGJ : GTJ U (stM s) (x : Int).toNat (fitK9 U (stM s) (x : Int).toNat (pfM s) (fun j => iC s 229 j)) s138 := ⟨⟨⟨by first | (clear g134 hps121 g120 hps118 g83 hps81 g46 hps44 g9 hps7; omega) | (clear hps121 g120 hps118 g83 hps81 g46 hps44 g9 hps7; omega) | omega, by first | (clear g134 hps121 g120 hps118 g83 hps81 g46 hps44 g9 hps7; omega) | (clear hps121 g120 hps118 g83 hps81 g46 hps44 g9 hps7; omega) | omega⟩, Qs138.2.1⟩, fun b hb p => Qs138.1 b hb p (by have := cht_lt (P := (hitP U (stM s) (x : Int).toNat)) hb p; omega), by first | (clear g134 hps121 g120 hps118 g83 hps81 g46 hps44 g9 hps7; omega) | (clear hps121 g120 hps118 g83 hps81 g46 hps44 g9 hps7; omega) | omega, ⟨by first | (clear g134 hps121 g120 hps118 g83 hps81 g46 hps44 g9 hps7; omega) | (clear hps121 g120 hps118 g83 hps81 g46 hps44 g9 hps7; omega) | omega, jMDJ.1.2, fun b hb => hMB (x : Int).toNat b (by first | (clear g134 hps121 g120 hps118 g83 hps81 g46 hps44 g9 hps7; omega) | (clear hps121 g120 hps118 g83 hps81 g46 hps44 g9 hps7; omega) | omega) hb⟩, by rw [show pfM s138 = pfM s from funext (fun j => fm_c Fs138 (by decide)), show (fun j => iC s138 229 j) = (fun j => iC s 229 j) from funext (fun j => fm_c Fs138 (by decide))]⟩
                refine z_aload_n X (x := A 179) rfl (List.Mem.head _) (z_const X rfl (z_load_n X (x := x) rfl (List.Mem.tail _ (List.Mem.head _)) (z_load_n X (x := y) rfl (List.Mem.tail _ (List.Mem.tail _ (List.Mem.head _))) (z_load_n X (x := z) rfl (List.Mem.tail _ (List.Mem.tail _ (List.Mem.tail _ (List.Mem.head _)))) (z_const X rfl ?_)))))
                have hGP : GTP U (hitP U (stM s) (x : Int).toNat) none 0 s138 := ⟨show iI s138 106 = -1 by first | (clear g134 hps121 g120 hps118 g83 hps81 g46 hps44 g9 hps7; omega) | (clear hps121 g120 hps118 g83 hps81 g46 hps44 g9 hps7; omega) | omega, fun j hj => absurd hj (by first | (clear g134 hps121 g120 hps118 g83 hps81 g46 hps44 g9 hps7; omega) | (clear hps121 g120 hps118 g83 hps81 g46 hps44 g9 hps7; omega) | omega)⟩
                refine z_callV X 179 (rm := (rkR (52 + 8))) (As := [.int (Int32.ofInt 0), .int (Int32.ofInt x), .int (Int32.ofInt y), .int (Int32.ofInt z), .int (Int32.ofInt 0)]) (st := []) rfl rfl (by decide) rfl (by rw [E.1, E.2.1, E.2.2.1]; exact k_gor9 G 8 Is138 JRLx_s138 JMDJ_s138 hGJ Qs138.2.2 (by first | exact ⟨by decide, b141.1⟩ | omega) (by first | exact oq_a8ea036d hs138.2.2.2.2.2.2.2.2.2.1 | omega) (by first | exact hs138.2.2.2.2.2.2.2.2.2.1 | omega) (by first | (clear g134 hps121 g120 hps118 g83 hps81 g46 hps44 g9 hps7; omega) | (clear hps121 g120 hps118 g83 hps81 g46 hps44 g9 hps7; omega) | omega) (by first | exact ⟨hs138.1.1, hs138.1.2⟩ | omega) (by first | exact ⟨hs138.2.1.1, hs138.2.1.2⟩ | omega) (by first | exact ⟨hs138.2.2.1.1, hs138.2.2.1.2⟩ | omega) (by first | exact ⟨by decide, by decide⟩ | omega) (hGP)) ⟨by rw [E.2.2.2]; exact (show 72 + 1 ≤ 73 from oq_26188e76), by rw [E.2.2.2]; exact (show 8 + (8 + 11) + 3200 ≤ 3227 from oq_e592698d), by rw [E.2.2.2]; exact Nat.le_refl 0, by rw [E.2.2.2]; exact Nat.le_refl 0⟩ (Nat.le_of_ble_eq_true rfl) (fun vv s145 hq => ?_) (fun ee s145 hq => ?_)
                rotate_left
                · obtain ⟨Is145, Fs145, JRLx_s145, JMZJ_s145, hv, hps145⟩ := hq; cases hv
                obtain ⟨Is145, Fs145, JRLx_s145, JMZJ_s145, hv, hps145⟩ := hq
                cases hv
                have Gs145 := fm_tq Fs138 Fs145 rfl rfl
                have JRLx_s145 : RLx s145 := RLx_fm Fs145 (by decide) JRLx_s138
                have ws145_73 : iI s145 73 = iI s138 73 := fm_iq Fs145 rfl
                have ws145_105 : iI s145 105 = iI s138 105 := fm_iq Fs145 rfl
                have ws145_90 : iI s145 90 = iI s138 90 := fm_iq Fs145 rfl
                have b147 := bi_106 Is145
                have ws145_89 : iI s145 89 = iI s138 89 := fm_iq Fs145 rfl
                show WS k 212 [(0, .ref (A 179)), (1, .int (Int32.ofInt x)), (2, .int (Int32.ofInt y)), (3, .int (Int32.ofInt z)), (4, .int (Int32.ofInt w)), (6, .int (Int32.ofInt x139))] [] (Wd A dT s145) 0 0
                have hBS := slm_of hps145
                refine z_aload_n X (x := A 179) rfl (List.Mem.head _) (z_getI X 179 rfl (c518_ok rfl) rfl rfl ?_)
                have b148 := bi_106 Is145
                refine z_const X rfl (z_icmp_ne X (t := 224) rfl rfl (rng_to _) (by decide) (fun g149 => ?_) (fun g149 => ?_))
                ·
                  refine z_load X (x := w) rfl (List.Mem.tail _ (List.Mem.tail _ (List.Mem.tail _ (List.Mem.tail _ (List.Mem.head _))))) (z_const X rfl (z_icmp_ne X (t := 237) rfl rfl ⟨by first | exact p3.1 | omega, by first | exact p3.2 | omega⟩ (by decide) (fun g150 => ?_) (fun g150 => ?_)))
                  ·
                    refine z_load X (x := w) rfl (List.Mem.tail _ (List.Mem.tail _ (List.Mem.tail _ (List.Mem.tail _ (List.Mem.head _))))) (z_aload_n X (x := A 179) rfl (List.Mem.head _) (z_getI X 179 rfl (c518_ok rfl) rfl rfl ?_))
                    have b151 := bi_90 Is145
                    refine z_icmp_ge X (t := 256) rfl rfl ⟨by first | exact p3.1 | omega, by first | exact p3.2 | omega⟩ (rng_to _) (fun g152 => ?_) (fun g152 => ?_)
                    ·
                      refine z_const X rfl ?_
                      exact w_iret X.1 q hRt rfl (ax_d X (show cdA 286 257 = some (.ireturn, 1, 0, 0, 0) from rfl)) (Nat.zero_le _) (Nat.zero_le _) ⟨_, rfl, Is145, Gs145, JRLx_s145, 0, rfl, (by decide), Or.inl ⟨by first | exact ⟨hs138.1.1, hs138.1.2⟩ | omega, by first | exact ⟨hs138.2.1.1, hs138.2.1.2⟩ | omega, by first | exact ⟨hs138.2.2.1.1, hs138.2.2.1.2⟩ | omega, by first | exact ⟨hs138.2.2.2.1.1, hs138.2.2.2.1.2⟩ | omega, by first | exact oq_333640b7 ws145_73 hs138.2.2.2.2.1 b140.1 | omega, mnm_s hBS (by first | (clear g150 g149 g134 hps121 g120 hps118 g83 hps81 g46 hps44 g9 hps7; omega) | (clear g149 g134 hps121 g120 hps118 g83 hps81 g46 hps44 g9 hps7; omega) | omega) (by first | (clear g150 g149 g134 hps121 g120 hps118 g83 hps81 g46 hps44 g9 hps7; omega) | (clear g149 g134 hps121 g120 hps118 g83 hps81 g46 hps44 g9 hps7; omega) | omega) (by first | (clear g150 g149 g134 hps121 g120 hps118 g83 hps81 g46 hps44 g9 hps7; omega) | (clear g149 g134 hps121 g120 hps118 g83 hps81 g46 hps44 g9 hps7; omega) | omega) (Or.inr ⟨by first | (clear g150 g149 g134 hps121 g120 hps118 g83 hps81 g46 hps44 g9 hps7; omega) | (clear g149 g134 hps121 g120 hps118 g83 hps81 g46 hps44 g9 hps7; omega) | omega, rfl⟩)⟩⟩
                    ·
                      refine z_aload_n X (x := A 179) rfl (List.Mem.head _) (s_getR X 179 rfl (c518_ok rfl) rfl rfl (z_load X (x := w) rfl (List.Mem.tail _ (List.Mem.tail _ (List.Mem.tail _ (List.Mem.tail _ (List.Mem.head _))))) (z_ald X 457 rfl (c518_ok rfl) rfl (by first | exact oq_33feeab9 g150 hs138.2.2.2.1.1 g134 | omega) (show w < 12 by first | exact oq_0ddfcfee hs138.2.2.2.1.2 | omega) (cbig_ok rfl) ?_)))
                      have b153 := bc_402 Is145 (show (w).toNat < 12 by first | exact oq_9c5fa447 hs138.2.2.2.1.2 | omega)
                      refine z_goto X (t := 257) rfl rfl ?_
                      exact w_iret X.1 q hRt rfl (ax_d X (show cdA 286 257 = some (.ireturn, 1, 0, 0, 0) from rfl)) (Nat.zero_le _) (Nat.zero_le _) ⟨_, rfl, Is145, Gs145, JRLx_s145, (iC s145 402 (w).toNat), rfl, (rng_to _), Or.inl ⟨by first | exact ⟨hs138.1.1, hs138.1.2⟩ | omega, by first | exact ⟨hs138.2.1.1, hs138.2.1.2⟩ | omega, by first | exact ⟨hs138.2.2.1.1, hs138.2.2.1.2⟩ | omega, by first | exact ⟨hs138.2.2.2.1.1, hs138.2.2.2.1.2⟩ | omega, by first | exact oq_333640b7 ws145_73 hs138.2.2.2.2.1 b140.1 | omega, mnm_s hBS (by first | (clear g150 g149 g134 hps121 g120 hps118 g83 hps81 g46 hps44 g9 hps7; omega) | (clear g149 g134 hps121 g120 hps118 g83 hps81 g46 hps44 g9 hps7; omega) | omega) (by first | (clear g150 g149 g134 hps121 g120 hps118 g83 hps81 g46 hps44 g9 hps7; omega) | (clear g149 g134 hps121 g120 hps118 g83 hps81 g46 hps44 g9 hps7; omega) | omega) (by first | (clear g150 g149 g134 hps121 g120 hps118 g83 hps81 g46 hps44 g9 hps7; omega) | (clear g149 g134 hps121 g120 hps118 g83 hps81 g46 hps44 g9 hps7; omega) | omega) (Or.inl ⟨by first | (clear g150 g149 g134 hps121 g120 hps118 g83 hps81 g46 hps44 g9 hps7; omega) | (clear g149 g134 hps121 g120 hps118 g83 hps81 g46 hps44 g9 hps7; omega) | omega, rfl⟩)⟩⟩
                  ·
                    refine z_aload_n X (x := A 179) rfl (List.Mem.head _) (z_getI X 179 rfl (c518_ok rfl) rfl rfl ?_)
                    have b154 := bi_106 Is145
                    refine z_goto X (t := 257) rfl rfl ?_
                    exact w_iret X.1 q hRt rfl (ax_d X (show cdA 286 257 = some (.ireturn, 1, 0, 0, 0) from rfl)) (Nat.zero_le _) (Nat.zero_le _) ⟨_, rfl, Is145, Gs145, JRLx_s145, (iI s145 106), rfl, (rng_to _), Or.inl ⟨by first | exact ⟨hs138.1.1, hs138.1.2⟩ | omega, by first | exact ⟨hs138.2.1.1, hs138.2.1.2⟩ | omega, by first | exact ⟨hs138.2.2.1.1, hs138.2.2.1.2⟩ | omega, by first | exact ⟨hs138.2.2.2.1.1, hs138.2.2.2.1.2⟩ | omega, by first | exact oq_333640b7 ws145_73 hs138.2.2.2.2.1 b140.1 | omega, mnm_m hBS (by first | (clear g149 g134 hps121 g120 hps118 g83 hps81 g46 hps44 g9 hps7; omega) | (clear g134 hps121 g120 hps118 g83 hps81 g46 hps44 g9 hps7; omega) | omega) (by first | (clear g149 g134 hps121 g120 hps118 g83 hps81 g46 hps44 g9 hps7; omega) | (clear g134 hps121 g120 hps118 g83 hps81 g46 hps44 g9 hps7; omega) | omega) ⟨by first | (clear g149 g134 hps121 g120 hps118 g83 hps81 g46 hps44 g9 hps7; omega) | (clear g134 hps121 g120 hps118 g83 hps81 g46 hps44 g9 hps7; omega) | omega, rfl⟩⟩⟩
                ·
                  refine z_const X rfl (z_goto X (t := 257) rfl rfl ?_)
                  exact w_iret X.1 q hRt rfl (ax_d X (show cdA 286 257 = some (.ireturn, 1, 0, 0, 0) from rfl)) (Nat.zero_le _) (Nat.zero_le _) ⟨_, rfl, Is145, Gs145, JRLx_s145, (-1), rfl, (by decide), Or.inl ⟨by first | exact ⟨hs138.1.1, hs138.1.2⟩ | omega, by first | exact ⟨hs138.2.1.1, hs138.2.1.2⟩ | omega, by first | exact ⟨hs138.2.2.1.1, hs138.2.2.1.2⟩ | omega, by first | exact ⟨hs138.2.2.2.1.1, hs138.2.2.2.1.2⟩ | omega, by first | exact oq_333640b7 ws145_73 hs138.2.2.2.2.1 b140.1 | omega, Or.inr (Or.inl ⟨by first | (clear g134 hps121 g120 hps118 g83 hps81 g46 hps44 g9 hps7; omega) | (clear hps121 g120 hps118 g83 hps81 g46 hps44 g9 hps7; omega) | omega, Or.inr (bso9_0 hBS (by first | (clear g134 hps121 g120 hps118 g83 hps81 g46 hps44 g9 hps7; omega) | (clear hps121 g120 hps118 g83 hps81 g46 hps44 g9 hps7; omega) | omega)), rfl⟩)⟩⟩
              ·
                refine z_const X rfl ?_
                exact w_iret X.1 q hRt rfl (ax_d X (show cdA 286 173 = some (.ireturn, 1, 0, 0, 0) from rfl)) (Nat.zero_le _) (Nat.zero_le _) ⟨_, rfl, Is135, Fs135, JRLx_s135, (-1), rfl, (by decide), Or.inl ⟨by first | exact ⟨hs126.1.1, hs126.1.2⟩ | omega, by first | exact ⟨hs126.2.1.1, hs126.2.1.2⟩ | omega, by first | exact ⟨hs126.2.2.1.1, hs126.2.2.1.2⟩ | omega, by first | exact ⟨hs126.2.2.2.1.1, hs126.2.2.2.1.2⟩ | omega, by first | exact oq_333640b7 ws135_73 hs126.2.2.2.2.1 b129.1 | omega, Or.inr (Or.inl ⟨by first | (clear g134 hps121 g120 hps118 g83 hps81 g46 hps44 g9 hps7; omega) | (clear hps121 g120 hps118 g83 hps81 g46 hps44 g9 hps7; omega) | omega, Or.inl (by first | (clear g134 hps121 g120 hps118 g83 hps81 g46 hps44 g9 hps7; omega) | (clear hps121 g120 hps118 g83 hps81 g46 hps44 g9 hps7; omega) | omega), rfl⟩)⟩⟩
            ·
              refine z_load X (x := x127) rfl (List.Mem.tail _ (List.Mem.tail _ (List.Mem.tail _ (List.Mem.tail _ (List.Mem.tail _ (List.Mem.head _)))))) ?_
              exact w_iret X.1 q hRt rfl (ax_d X (show cdA 286 157 = some (.ireturn, 1, 0, 0, 0) from rfl)) (Nat.zero_le _) (Nat.zero_le _) ⟨_, rfl, Is126, Fs126, JRLx_s126, x127, rfl, ⟨by first | exact hs126.2.2.2.2.2.2.2.2.1.1 | omega, by first | exact hs126.2.2.2.2.2.2.2.2.1.2 | omega⟩, Or.inl ⟨by first | exact ⟨hs126.1.1, hs126.1.2⟩ | omega, by first | exact ⟨hs126.2.1.1, hs126.2.1.2⟩ | omega, by first | exact ⟨hs126.2.2.1.1, hs126.2.2.1.2⟩ | omega, by first | exact ⟨hs126.2.2.2.1.1, hs126.2.2.2.1.2⟩ | omega, by first | exact hs126.2.2.2.2.1 | omega, Or.inl ⟨by first | (clear hps121 g120 hps118 g83 hps81 g46 hps44 g9 hps7; omega) | (clear g120 hps118 g83 hps81 g46 hps44 g9 hps7; omega) | omega, ⟨by first | exact hs126.2.2.2.2.2.2.2.2.1.1 | omega, by first | exact hs126.2.2.2.2.2.2.2.2.1.2 | omega⟩, by have zz := hHS.2.1; rw [Int.toNat_natCast] at zz; exact zz⟩⟩⟩
          ·
            refine z_const X rfl ?_
            exact w_iret X.1 q hRt rfl (ax_d X (show cdA 286 61 = some (.ireturn, 1, 0, 0, 0) from rfl)) (Nat.zero_le _) (Nat.zero_le _) ⟨_, rfl, Is121, Gs121, JRLx_s121, 0, rfl, (by decide), Or.inr ⟨by first | exact oq_d324d61e g124 hps121 vs6 | omega, by first | (clear g124 hps121 g120 hps118 g83 hps81 g46 hps44 g9 hps7; omega) | (clear hps121 g120 hps118 g83 hps81 g46 hps44 g9 hps7; omega) | omega⟩⟩
        ·
          refine z_const X rfl (z_goto X (t := 53) rfl rfl (z_const X rfl (zcV_i0 X E 179 (As := [.int (Int32.ofInt 1), .int (Int32.ofInt 1)]) (st := []) rfl rfl rfl rfl (k_bad2 G Is6 (by first | exact Or.inr (by decide) | omega) (by first | exact ⟨by decide, by decide⟩ | omega)) rfl (Nat.le_of_ble_eq_true rfl) (fun s155 e156 Is155 Fs155 hrs155 hps155 => ?_))))
          have Gs155 := fm_tq Fs6 Fs155 rfl rfl
          have JRLx_s155 : RLx s155 := RLx_fm Fs155 (by decide) JRLx_s6
          have JMDJ_s155 : MDJ U s155 := MDJ_fm Fs155 (by decide) JMDJ_s6
          have b157 := bi_73 Is155
          have ws155_105 : iI s155 105 = iI s6 105 := fm_iq Fs155 rfl
          have ws155_90 : iI s155 90 = iI s6 90 := fm_iq Fs155 rfl
          have ws155_106 : iI s155 106 = iI s6 106 := fm_iq Fs155 rfl
          have ws155_89 : iI s155 89 = iI s6 89 := fm_iq Fs155 rfl
          refine z_if_eq X (t := 62) rfl rfl hrs155 (fun g158 => ?_) (fun g158 => ?_)
          ·
            have hst9 := jMDJ.1
            refine z_const X rfl (z_store X (lv' := [(5, .int (Int32.ofInt 0)), (0, .ref (A 179)), (1, .int (Int32.ofInt x)), (2, .int (Int32.ofInt y)), (3, .int (Int32.ofInt z)), (4, .int (Int32.ofInt w))]) rfl (by decide) (fun _ h => h) (z_aload_n X (x := A 179) rfl (List.Mem.tail _ (List.Mem.head _)) (z_const X rfl (s_putI X 179 rfl (c518_ok rfl) rfl rfl (by decide) rfl rfl rfl (wd_gen (fun s159 hs159 => ?_))))))
            have Is159 : Bd s159 := eqB hs159 (bd_I Is155 (show (0 : Int) ≤ 0 ∧ 0 ≤ 12 by first | exact ⟨by decide, by decide⟩ | omega) (by decide))
            have Fs159 := eqF hs159 (fm_I Gs155 (inl_ok (a := 105) rfl))
            have vs159 : iI s159 105 = 0 := eqI hs159 (iI_u (by decide))
            have ws159_73 : iI s159 73 = iI s155 73 := eqI hs159 rfl
            have ws159_90 : iI s159 90 = iI s155 90 := eqI hs159 rfl
            have ws159_106 : iI s159 106 = iI s155 106 := eqI hs159 rfl
            have ws159_89 : iI s159 89 = iI s155 89 := eqI hs159 rfl
            have fs159 : Fm [105] [] s155 s159 := by rw [hs159]; exact fm_I (fm_rf _ _ _) (show 105 ∈ _ by decide)
            have JRLx_s159 : RLx s159 := RLx_fm fs159 (by decide) JRLx_s155
            have JMDJ_s159 : MDJ U s159 := MDJ_fm fs159 (by decide) JMDJ_s155
            refine z_const X rfl (z_store X (lv' := [(6, .int (Int32.ofInt 0)), (5, .int (Int32.ofInt 0)), (0, .ref (A 179)), (1, .int (Int32.ofInt x)), (2, .int (Int32.ofInt y)), (3, .int (Int32.ofInt z)), (4, .int (Int32.ofInt w))]) rfl (by decide) (fun _ h => h) (WS_pq [2, 3, 4, 5, 6, 1, 0] (lv' := [(0, .ref (A 179)), (1, .int (Int32.ofInt x)), (2, .int (Int32.ofInt y)), (3, .int (Int32.ofInt z)), (4, .int (Int32.ofInt w)), (5, .int (Int32.ofInt 0)), (6, .int (Int32.ofInt 0))]) rfl (L73 ((12 - 0 : Int).toNat + 1) s159 0 0 Is159 Fs159 JRLx_s159 JMDJ_s159 (hsq_0 (by first | (clear hps155 hps118 g83 hps81 g46 hps44 g9 hps7; omega) | (clear hps118 g83 hps81 g46 hps44 g9 hps7; omega) | omega)) (by first | exact ⟨oq_e5a089c2 g9 hps7, oq_5933ef41 g46 hps44, oq_5933ef41 g83 hps81, oq_d3994d9a g158 hps155 vs6, oq_8c407924 ws159_73 g158 b157.1 hps155 vs6, oq_29301542 ws159_89 ws155_89 ws6_89 p4 b5.1, oq_d0d2714e ws159_90 ws6_90 ws155_90, oq_9014f91b g158 hps155 vs6, And.intro (by decide) (by decide), And.intro (by decide) (b3.1), oq_0b35aa92 vs159, oq_1af0b4f8 vs159⟩ | omega) (Nat.lt_succ_self _) ?_)))
            intro s160 x161 x162 Is160 Fs160 JRLx_s160 JMDJ_s160 Qs160 hs160
            have b163 := bi_73 Is160
            have b164 := bi_105 Is160
            have b165 := bi_90 Is160
            have b166 := bi_106 Is160
            have b167 := bi_89 Is160
            have hHS : HSQ (hitP U (stM s) (x : Int).toNat) (uN U : Int) x161 s160 := by have zz := Qs160; rw [show x162 = (uN U : Int) by first | (clear hps155 hps118 g83 hps81 g46 hps44 g9 hps7; omega) | (clear hps118 g83 hps81 g46 hps44 g9 hps7; omega) | omega] at zz; exact zz
            have hH1 := hHS.1
            rw [Int.toNat_natCast] at hH1
            refine z_load X (x := w) rfl (List.Mem.tail _ (List.Mem.tail _ (List.Mem.tail _ (List.Mem.tail _ (List.Mem.head _))))) (z_bipush X rfl (z_icmp_ne X (t := 158) rfl rfl ⟨by first | exact p3.1 | omega, by first | exact p3.2 | omega⟩ (by decide) (fun g168 => ?_) (fun g168 => ?_)))
            ·
              refine z_aload_n X (x := A 179) rfl (List.Mem.head _) (z_const X rfl (s_putI X 179 rfl (c518_ok rfl) rfl rfl (by decide) rfl rfl rfl (wd_gen (fun s169 hs169 => ?_))))
              have Is169 : Bd s169 := eqB hs169 (bd_I Is160 (show ((-2147483648) : Int) ≤ (-1) ∧ (-1) ≤ 2147483647 by first | exact ⟨by decide, by decide⟩ | omega) (by decide))
              have Fs169 := eqF hs169 (fm_I Fs160 (inl_ok (a := 106) rfl))
              have vs169 : iI s169 106 = (-1) := eqI hs169 (iI_u (by decide))
              have ws169_73 : iI s169 73 = iI s160 73 := eqI hs169 rfl
              have ws169_105 : iI s169 105 = iI s160 105 := eqI hs169 rfl
              have ws169_90 : iI s169 90 = iI s160 90 := eqI hs169 rfl
              have ws169_89 : iI s169 89 = iI s160 89 := eqI hs169 rfl
              have fs169 : Fm [106] [] s160 s169 := by rw [hs169]; exact fm_I (fm_rf _ _ _) (show 106 ∈ _ by decide)
              have JRLx_s169 : RLx s169 := RLx_fm fs169 (by decide) JRLx_s160
              have JMDJ_s169 : MDJ U s169 := MDJ_fm fs169 (by decide) JMDJ_s160
              refine z_aload_n X (x := A 179) rfl (List.Mem.head _) (z_getI X 179 rfl (c518_ok rfl) rfl rfl ?_)
              have b170 := bi_105 Is169
              refine z_bipush X rfl (z_icmp_le X (t := 174) rfl rfl (rng_to _) (by decide) (fun g171 => ?_) (fun g171 => ?_))
              ·
                have hHT : HTQ (hitP U (stM s) (x : Int).toNat) (uN U) (fun j => iC s169 400 j) := fun b hb p => (show iC s169 400 (cHt (hitP U (stM s) (x : Int).toNat) b) = iC s160 400 (cHt (hitP U (stM s) (x : Int).toNat) b) by rw [hs169]; rfl).trans (hHS.2.2.1 b (by first | (clear g168 hps155 hps118 g83 hps81 g46 hps44 g9 hps7; omega) | (clear hps155 hps118 g83 hps81 g46 hps44 g9 hps7; omega) | omega) p (by have := cht_lt (P := (hitP U (stM s) (x : Int).toNat)) hb p; omega))
                have hMZ0 : MZJ U (hitP U (stM s) (x : Int).toNat) s169 := fun b hb _ => (show iC s169 401 b = iC s160 401 b by rw [hs169]; rfl).trans (hHS.2.2.2 b (by first | (clear g168 hps155 hps118 g83 hps81 g46 hps44 g9 hps7; omega) | (clear hps155 hps118 g83 hps81 g46 hps44 g9 hps7; omega) | omega))
                refine z_const X rfl (z_store X (lv' := [(6, .int (Int32.ofInt 0)), (0, .ref (A 179)), (1, .int (Int32.ofInt x)), (2, .int (Int32.ofInt y)), (3, .int (Int32.ofInt z)), (4, .int (Int32.ofInt w)), (5, .int (Int32.ofInt x161))]) rfl (by decide) (fun _ h => h) (WS_pq [1, 2, 3, 4, 5, 0] (lv' := [(0, .ref (A 179)), (1, .int (Int32.ofInt x)), (2, .int (Int32.ofInt y)), (3, .int (Int32.ofInt z)), (4, .int (Int32.ofInt w)), (6, .int (Int32.ofInt 0))]) rfl (L177 ((8 - 0 : Int).toNat + 1) s169 0 Is169 Fs169 JRLx_s169 JMDJ_s169 ⟨rnl_0, hHT, hMZ0⟩ (by first | exact ⟨And.intro (hs160.1.1) (hs160.1.2), And.intro (hs160.2.1.1) (hs160.2.1.2), And.intro (hs160.2.2.1.1) (hs160.2.2.1.2), And.intro (hs160.2.2.2.1.1) (hs160.2.2.2.1.2), oq_333640b7 ws169_73 hs160.2.2.2.2.1 b163.1, oq_b44a1c7f ws169_89 hs160.2.2.2.2.2.1 b167.1, oq_1aa5be9e ws169_90 hs160.2.2.2.2.2.2.1, And.intro (hs160.2.2.2.2.2.2.2.1.1) (hs160.2.2.2.2.2.2.2.1.2), And.intro (by decide) (b170.1), g171, oq_5d5b93d4 hs160.2.2.2.1.2 hs160.2.2.2.1.1 g120 hps118, vs169⟩ | omega) (Nat.lt_succ_self _) ?_)))
                intro s172 x173 Is172 Fs172 JRLx_s172 JMDJ_s172 Qs172 hs172
                have b174 := bi_73 Is172
                have b175 := bi_105 Is172
                have b176 := bi_90 Is172
                have b177 := bi_106 Is172
                have b178 := bi_89 Is172
                have hGJ : GTJ U (stM s) (x : Int).toNat (fitK9 U (stM s) (x : Int).toNat (pfM s) (fun j => iC s 229 j)) s172 := ⟨⟨⟨by first | (clear g168 hps155 hps118 g83 hps81 g46 hps44 g9 hps7; omega) | (clear hps155 hps118 g83 hps81 g46 hps44 g9 hps7; omega) | omega, by first | (clear g168 hps155 hps118 g83 hps81 g46 hps44 g9 hps7; omega) | (clear hps155 hps118 g83 hps81 g46 hps44 g9 hps7; omega) | omega⟩, Qs172.2.1⟩, fun b hb p => Qs172.1 b hb p (by have := cht_lt (P := (hitP U (stM s) (x : Int).toNat)) hb p; omega), by first | (clear g168 hps155 hps118 g83 hps81 g46 hps44 g9 hps7; omega) | (clear hps155 hps118 g83 hps81 g46 hps44 g9 hps7; omega) | omega, ⟨by first | (clear g168 hps155 hps118 g83 hps81 g46 hps44 g9 hps7; omega) | (clear hps155 hps118 g83 hps81 g46 hps44 g9 hps7; omega) | omega, jMDJ.1.2, fun b hb => hMB (x : Int).toNat b (by first | (clear g168 hps155 hps118 g83 hps81 g46 hps44 g9 hps7; omega) | (clear hps155 hps118 g83 hps81 g46 hps44 g9 hps7; omega) | omega) hb⟩, by rw [show pfM s172 = pfM s from funext (fun j => fm_c Fs172 (by decide)), show (fun j => iC s172 229 j) = (fun j => iC s 229 j) from funext (fun j => fm_c Fs172 (by decide))]⟩
                refine z_aload_n X (x := A 179) rfl (List.Mem.head _) (z_const X rfl (z_load_n X (x := x) rfl (List.Mem.tail _ (List.Mem.head _)) (z_load_n X (x := y) rfl (List.Mem.tail _ (List.Mem.tail _ (List.Mem.head _))) (z_load_n X (x := z) rfl (List.Mem.tail _ (List.Mem.tail _ (List.Mem.tail _ (List.Mem.head _)))) (z_const X rfl ?_)))))
                have hGP : GTP U (hitP U (stM s) (x : Int).toNat) none 0 s172 := ⟨show iI s172 106 = -1 by first | (clear g168 hps155 hps118 g83 hps81 g46 hps44 g9 hps7; omega) | (clear hps155 hps118 g83 hps81 g46 hps44 g9 hps7; omega) | omega, fun j hj => absurd hj (by first | (clear g168 hps155 hps118 g83 hps81 g46 hps44 g9 hps7; omega) | (clear hps155 hps118 g83 hps81 g46 hps44 g9 hps7; omega) | omega)⟩
                refine z_callV X 179 (rm := (rkR (52 + 8))) (As := [.int (Int32.ofInt 0), .int (Int32.ofInt x), .int (Int32.ofInt y), .int (Int32.ofInt z), .int (Int32.ofInt 0)]) (st := []) rfl rfl (by decide) rfl (by rw [E.1, E.2.1, E.2.2.1]; exact k_gor9 G 8 Is172 JRLx_s172 JMDJ_s172 hGJ Qs172.2.2 (by first | exact ⟨by decide, b175.1⟩ | omega) (by first | exact oq_a8ea036d hs172.2.2.2.2.2.2.2.2.2.1 | omega) (by first | exact hs172.2.2.2.2.2.2.2.2.2.1 | omega) (by first | exact oq_5d5b93d4 hs172.2.2.2.1.2 hs172.2.2.2.1.1 g120 hps118 | omega) (by first | exact ⟨hs172.1.1, hs172.1.2⟩ | omega) (by first | exact ⟨hs172.2.1.1, hs172.2.1.2⟩ | omega) (by first | exact ⟨hs172.2.2.1.1, hs172.2.2.1.2⟩ | omega) (by first | exact ⟨by decide, by decide⟩ | omega) (hGP)) ⟨by rw [E.2.2.2]; exact (show 72 + 1 ≤ 73 from oq_26188e76), by rw [E.2.2.2]; exact (show 8 + (8 + 11) + 3200 ≤ 3227 from oq_e592698d), by rw [E.2.2.2]; exact Nat.le_refl 0, by rw [E.2.2.2]; exact Nat.le_refl 0⟩ (Nat.le_of_ble_eq_true rfl) (fun vv s179 hq => ?_) (fun ee s179 hq => ?_)
                rotate_left
                · obtain ⟨Is179, Fs179, JRLx_s179, JMZJ_s179, hv, hps179⟩ := hq; cases hv
                obtain ⟨Is179, Fs179, JRLx_s179, JMZJ_s179, hv, hps179⟩ := hq
                cases hv
                have Gs179 := fm_tq Fs172 Fs179 rfl rfl
                have JRLx_s179 : RLx s179 := RLx_fm Fs179 (by decide) JRLx_s172
                have ws179_73 : iI s179 73 = iI s172 73 := fm_iq Fs179 rfl
                have ws179_105 : iI s179 105 = iI s172 105 := fm_iq Fs179 rfl
                have ws179_90 : iI s179 90 = iI s172 90 := fm_iq Fs179 rfl
                have b181 := bi_106 Is179
                have ws179_89 : iI s179 89 = iI s172 89 := fm_iq Fs179 rfl
                show WS k 212 [(0, .ref (A 179)), (1, .int (Int32.ofInt x)), (2, .int (Int32.ofInt y)), (3, .int (Int32.ofInt z)), (4, .int (Int32.ofInt w)), (6, .int (Int32.ofInt x173))] [] (Wd A dT s179) 0 0
                have hBS := slm_of hps179
                refine z_aload_n X (x := A 179) rfl (List.Mem.head _) (z_getI X 179 rfl (c518_ok rfl) rfl rfl ?_)
                have b182 := bi_106 Is179
                refine z_const X rfl (z_icmp_ne X (t := 224) rfl rfl (rng_to _) (by decide) (fun g183 => ?_) (fun g183 => ?_))
                ·
                  refine z_load X (x := w) rfl (List.Mem.tail _ (List.Mem.tail _ (List.Mem.tail _ (List.Mem.tail _ (List.Mem.head _))))) (z_const X rfl (z_icmp_ne X (t := 237) rfl rfl ⟨by first | exact p3.1 | omega, by first | exact p3.2 | omega⟩ (by decide) (fun g184 => ?_) (fun g184 => ?_)))
                  ·
                    refine z_load X (x := w) rfl (List.Mem.tail _ (List.Mem.tail _ (List.Mem.tail _ (List.Mem.tail _ (List.Mem.head _))))) (z_aload_n X (x := A 179) rfl (List.Mem.head _) (z_getI X 179 rfl (c518_ok rfl) rfl rfl ?_))
                    have b185 := bi_90 Is179
                    refine z_icmp_ge X (t := 256) rfl rfl ⟨by first | exact p3.1 | omega, by first | exact p3.2 | omega⟩ (rng_to _) (fun g186 => ?_) (fun g186 => ?_)
                    ·
                      refine z_const X rfl ?_
                      exact w_iret X.1 q hRt rfl (ax_d X (show cdA 286 257 = some (.ireturn, 1, 0, 0, 0) from rfl)) (Nat.zero_le _) (Nat.zero_le _) ⟨_, rfl, Is179, Gs179, JRLx_s179, 0, rfl, (by decide), Or.inl ⟨by first | exact ⟨hs172.1.1, hs172.1.2⟩ | omega, by first | exact ⟨hs172.2.1.1, hs172.2.1.2⟩ | omega, by first | exact ⟨hs172.2.2.1.1, hs172.2.2.1.2⟩ | omega, by first | exact ⟨hs172.2.2.2.1.1, hs172.2.2.2.1.2⟩ | omega, by first | exact oq_333640b7 ws179_73 hs172.2.2.2.2.1 b174.1 | omega, mnm_s hBS (by first | (clear g184 g183 g168 hps155 hps118 g83 hps81 g46 hps44 g9 hps7; omega) | (clear g183 g168 hps155 hps118 g83 hps81 g46 hps44 g9 hps7; omega) | omega) (by first | (clear g184 g183 g168 hps155 hps118 g83 hps81 g46 hps44 g9 hps7; omega) | (clear g183 g168 hps155 hps118 g83 hps81 g46 hps44 g9 hps7; omega) | omega) (by first | (clear g184 g183 g168 hps155 hps118 g83 hps81 g46 hps44 g9 hps7; omega) | (clear g183 g168 hps155 hps118 g83 hps81 g46 hps44 g9 hps7; omega) | omega) (Or.inr ⟨by first | (clear g184 g183 g168 hps155 hps118 g83 hps81 g46 hps44 g9 hps7; omega) | (clear g183 g168 hps155 hps118 g83 hps81 g46 hps44 g9 hps7; omega) | omega, rfl⟩)⟩⟩
                    ·
                      refine z_aload_n X (x := A 179) rfl (List.Mem.head _) (s_getR X 179 rfl (c518_ok rfl) rfl rfl (z_load X (x := w) rfl (List.Mem.tail _ (List.Mem.tail _ (List.Mem.tail _ (List.Mem.tail _ (List.Mem.head _))))) (z_ald X 457 rfl (c518_ok rfl) rfl (by first | exact oq_33feeab9 g184 hs172.2.2.2.1.1 g168 | omega) (show w < 12 by first | exact oq_0ddfcfee hs172.2.2.2.1.2 | omega) (cbig_ok rfl) ?_)))
                      have b187 := bc_402 Is179 (show (w).toNat < 12 by first | exact oq_9c5fa447 hs172.2.2.2.1.2 | omega)
                      refine z_goto X (t := 257) rfl rfl ?_
                      exact w_iret X.1 q hRt rfl (ax_d X (show cdA 286 257 = some (.ireturn, 1, 0, 0, 0) from rfl)) (Nat.zero_le _) (Nat.zero_le _) ⟨_, rfl, Is179, Gs179, JRLx_s179, (iC s179 402 (w).toNat), rfl, (rng_to _), Or.inl ⟨by first | exact ⟨hs172.1.1, hs172.1.2⟩ | omega, by first | exact ⟨hs172.2.1.1, hs172.2.1.2⟩ | omega, by first | exact ⟨hs172.2.2.1.1, hs172.2.2.1.2⟩ | omega, by first | exact ⟨hs172.2.2.2.1.1, hs172.2.2.2.1.2⟩ | omega, by first | exact oq_333640b7 ws179_73 hs172.2.2.2.2.1 b174.1 | omega, mnm_s hBS (by first | (clear g184 g183 g168 hps155 hps118 g83 hps81 g46 hps44 g9 hps7; omega) | (clear g183 g168 hps155 hps118 g83 hps81 g46 hps44 g9 hps7; omega) | omega) (by first | (clear g184 g183 g168 hps155 hps118 g83 hps81 g46 hps44 g9 hps7; omega) | (clear g183 g168 hps155 hps118 g83 hps81 g46 hps44 g9 hps7; omega) | omega) (by first | (clear g184 g183 g168 hps155 hps118 g83 hps81 g46 hps44 g9 hps7; omega) | (clear g183 g168 hps155 hps118 g83 hps81 g46 hps44 g9 hps7; omega) | omega) (Or.inl ⟨by first | (clear g184 g183 g168 hps155 hps118 g83 hps81 g46 hps44 g9 hps7; omega) | (clear g183 g168 hps155 hps118 g83 hps81 g46 hps44 g9 hps7; omega) | omega, rfl⟩)⟩⟩
                  ·
                    refine z_aload_n X (x := A 179) rfl (List.Mem.head _) (z_getI X 179 rfl (c518_ok rfl) rfl rfl ?_)
                    have b188 := bi_106 Is179
                    refine z_goto X (t := 257) rfl rfl ?_
                    exact w_iret X.1 q hRt rfl (ax_d X (show cdA 286 257 = some (.ireturn, 1, 0, 0, 0) from rfl)) (Nat.zero_le _) (Nat.zero_le _) ⟨_, rfl, Is179, Gs179, JRLx_s179, (iI s179 106), rfl, (rng_to _), Or.inl ⟨by first | exact ⟨hs172.1.1, hs172.1.2⟩ | omega, by first | exact ⟨hs172.2.1.1, hs172.2.1.2⟩ | omega, by first | exact ⟨hs172.2.2.1.1, hs172.2.2.1.2⟩ | omega, by first | exact ⟨hs172.2.2.2.1.1, hs172.2.2.2.1.2⟩ | omega, by first | exact oq_333640b7 ws179_73 hs172.2.2.2.2.1 b174.1 | omega, mnm_m hBS (by first | (clear g183 g168 hps155 hps118 g83 hps81 g46 hps44 g9 hps7; omega) | (clear g168 hps155 hps118 g83 hps81 g46 hps44 g9 hps7; omega) | omega) (by first | (clear g183 g168 hps155 hps118 g83 hps81 g46 hps44 g9 hps7; omega) | (clear g168 hps155 hps118 g83 hps81 g46 hps44 g9 hps7; omega) | omega) ⟨by first | (clear g183 g168 hps155 hps118 g83 hps81 g46 hps44 g9 hps7; omega) | (clear g168 hps155 hps118 g83 hps81 g46 hps44 g9 hps7; omega) | omega, rfl⟩⟩⟩
                ·
                  refine z_const X rfl (z_goto X (t := 257) rfl rfl ?_)
                  exact w_iret X.1 q hRt rfl (ax_d X (show cdA 286 257 = some (.ireturn, 1, 0, 0, 0) from rfl)) (Nat.zero_le _) (Nat.zero_le _) ⟨_, rfl, Is179, Gs179, JRLx_s179, (-1), rfl, (by decide), Or.inl ⟨by first | exact ⟨hs172.1.1, hs172.1.2⟩ | omega, by first | exact ⟨hs172.2.1.1, hs172.2.1.2⟩ | omega, by first | exact ⟨hs172.2.2.1.1, hs172.2.2.1.2⟩ | omega, by first | exact ⟨hs172.2.2.2.1.1, hs172.2.2.2.1.2⟩ | omega, by first | exact oq_333640b7 ws179_73 hs172.2.2.2.2.1 b174.1 | omega, Or.inr (Or.inl ⟨by first | (clear g168 hps155 hps118 g83 hps81 g46 hps44 g9 hps7; omega) | (clear hps155 hps118 g83 hps81 g46 hps44 g9 hps7; omega) | omega, Or.inr (bso9_0 hBS (by first | (clear g168 hps155 hps118 g83 hps81 g46 hps44 g9 hps7; omega) | (clear hps155 hps118 g83 hps81 g46 hps44 g9 hps7; omega) | omega)), rfl⟩)⟩⟩
              ·
                refine z_const X rfl ?_
                exact w_iret X.1 q hRt rfl (ax_d X (show cdA 286 173 = some (.ireturn, 1, 0, 0, 0) from rfl)) (Nat.zero_le _) (Nat.zero_le _) ⟨_, rfl, Is169, Fs169, JRLx_s169, (-1), rfl, (by decide), Or.inl ⟨by first | exact ⟨hs160.1.1, hs160.1.2⟩ | omega, by first | exact ⟨hs160.2.1.1, hs160.2.1.2⟩ | omega, by first | exact ⟨hs160.2.2.1.1, hs160.2.2.1.2⟩ | omega, by first | exact ⟨hs160.2.2.2.1.1, hs160.2.2.2.1.2⟩ | omega, by first | exact oq_333640b7 ws169_73 hs160.2.2.2.2.1 b163.1 | omega, Or.inr (Or.inl ⟨by first | (clear g168 hps155 hps118 g83 hps81 g46 hps44 g9 hps7; omega) | (clear hps155 hps118 g83 hps81 g46 hps44 g9 hps7; omega) | omega, Or.inl (by first | (clear g168 hps155 hps118 g83 hps81 g46 hps44 g9 hps7; omega) | (clear hps155 hps118 g83 hps81 g46 hps44 g9 hps7; omega) | omega), rfl⟩)⟩⟩
            ·
              refine z_load X (x := x161) rfl (List.Mem.tail _ (List.Mem.tail _ (List.Mem.tail _ (List.Mem.tail _ (List.Mem.tail _ (List.Mem.head _)))))) ?_
              exact w_iret X.1 q hRt rfl (ax_d X (show cdA 286 157 = some (.ireturn, 1, 0, 0, 0) from rfl)) (Nat.zero_le _) (Nat.zero_le _) ⟨_, rfl, Is160, Fs160, JRLx_s160, x161, rfl, ⟨by first | exact hs160.2.2.2.2.2.2.2.2.1.1 | omega, by first | exact hs160.2.2.2.2.2.2.2.2.1.2 | omega⟩, Or.inl ⟨by first | exact ⟨hs160.1.1, hs160.1.2⟩ | omega, by first | exact ⟨hs160.2.1.1, hs160.2.1.2⟩ | omega, by first | exact ⟨hs160.2.2.1.1, hs160.2.2.1.2⟩ | omega, by first | exact ⟨hs160.2.2.2.1.1, hs160.2.2.2.1.2⟩ | omega, by first | exact hs160.2.2.2.2.1 | omega, Or.inl ⟨by first | (clear hps155 hps118 g83 hps81 g46 hps44 g9 hps7; omega) | (clear hps118 g83 hps81 g46 hps44 g9 hps7; omega) | omega, ⟨by first | exact hs160.2.2.2.2.2.2.2.2.1.1 | omega, by first | exact hs160.2.2.2.2.2.2.2.2.1.2 | omega⟩, by have zz := hHS.2.1; rw [Int.toNat_natCast] at zz; exact zz⟩⟩⟩
          ·
            refine z_const X rfl ?_
            exact w_iret X.1 q hRt rfl (ax_d X (show cdA 286 61 = some (.ireturn, 1, 0, 0, 0) from rfl)) (Nat.zero_le _) (Nat.zero_le _) ⟨_, rfl, Is155, Gs155, JRLx_s155, 0, rfl, (by decide), Or.inr ⟨by first | exact oq_0d043b07 g120 hps118 | omega, by first | (clear g158 hps155 hps118 g83 hps81 g46 hps44 g9 hps7; omega) | (clear hps155 hps118 g83 hps81 g46 hps44 g9 hps7; omega) | omega⟩⟩
end M87ld
