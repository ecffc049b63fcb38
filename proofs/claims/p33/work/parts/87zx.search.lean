
theorem oq_1b20a017 {a0 a1 a2 : Int} (h0 : a0 ≤ (3000 * a1)) (h1 : a1 ≤ a2) (h2 : a2 ≤ 12) : a0 ≤ 2147483647 := by sorry
theorem oq_a2844aec {a0 a1 a3 : Int} {n2 : Nat} (h0 : (a0 - a1) ≤ (((n2 + 1) : Nat) : Int)) (h1 : a3 = a0) : (a3 - (a1 + 1)) ≤ ((n2 : Nat) : Int) := by sorry
theorem oq_bfa8c294 {a0 a1 : Int} (h0 : 0 ≤ a0) (h1 : 0 ≤ a1) : 0 ≤ (a0 + (60 * a1)) := by sorry
theorem oq_d01bb3c2 {a0 a1 a2 : Int} (h0 : a0 ≤ (3000 * a1)) (h1 : a2 ≤ 50) : (a0 + (60 * a2)) ≤ (3000 * (a1 + 1)) := by sorry
theorem oq_79fab92d {a0 a1 : Int} (h0 : 0 ≤ a0) (h1 : 0 ≤ a1) : 0 ≤ (a0 + (15 * a1)) := by sorry
theorem oq_147874d5 {a0 a1 a2 : Int} (h0 : a0 ≤ (3000 * a1)) (h1 : a2 ≤ 50) : (a0 + (15 * a2)) ≤ (3000 * (a1 + 1)) := by sorry
theorem oq_7e901d26 {a0 a1 a3 a4 a5 : Int} {n2 : Nat} (h0 : (a0 - a1) ≤ (((n2 + 1) : Nat) : Int)) (h1 : a3 = a4) (h2 : a4 = a5) (h3 : a5 = a0) : (a3 - (a1 + 1)) ≤ ((n2 : Nat) : Int) := by sorry
theorem oq_972d7f28 {a0 a1 a2 a3 a4 a5 a6 : Int} (h0 : a0 = a1) (h1 : a1 = a2) (h2 : a2 = a3) (h3 : a3 = a4) (h4 : a4 = a5) (h5 : a6 < a5) : (a6 + 1) ≤ a0 := by sorry
theorem oq_c5aacb7e {a0 a1 a2 a3 a4 a5 a6 : Int} {n7 : Nat} (h0 : a0 = a1) (h1 : a1 = a2) (h2 : a2 = a3) (h3 : a3 = a4) (h4 : a4 = a5) (h5 : (a5 - a6) ≤ (((n7 + 1) : Nat) : Int)) : (a0 - (a6 + 1)) ≤ ((n7 : Nat) : Int) := by sorry
/-! The loads of the mended air, the search for mends: class -/
noncomputable def moK (U : AirD) (S : Int → Prop) (q : Nat) (k : Int) (x : Nat) : Int := pickQ (hitP U S q x) (pickQ (bT (Int32.ofInt k) (cHt (hitP U S q) x) = true) (uM U q x) 0) (uM U q x)
theorem mok_y {U : AirD} {S : Int → Prop} {q x : Nat} {k : Int} (h : hitP U S q x) (b : bT (Int32.ofInt k) (cHt (hitP U S q) x) = true) : moK U S q k x = uM U q x := by sorry
theorem mok_0 {U : AirD} {S : Int → Prop} {q x : Nat} {k : Int} (h : hitP U S q x) (b : ¬ bT (Int32.ofInt k) (cHt (hitP U S q) x) = true) : moK U S q k x = 0 := by sorry
theorem mok_n {U : AirD} {S : Int → Prop} {q x : Nat} {k : Int} (h : ¬ hitP U S q x) : moK U S q k x = uM U q x := by sorry
/-- no piece is full, those of the mask round the storm, the other hit ones on the ground -/
noncomputable def ldK9 (U : AirD) (S : Int → Prop) (q : Nat) (f : Nat → Int) (k : Int) (p : Nat) : Int := (uL U (nmH (pcS f (p : Int)) (wyF U S (hitP U S q)) (moK U S q k) (uN U) 1)).toInt
def fitN (U : AirD) (S : Int → Prop) (q : Nat) (f lim : Nat → Int) (k c : Int) : Prop := ∀ p : Nat, (p : Int) < c → presF f p → ldK9 U S q f k p ≤ lim p
def fitK9 (U : AirD) (S : Int → Prop) (q : Nat) (f lim : Nat → Int) (k : Int) : Prop := fitN U S q f lim k 8
theorem fitn_up {U : AirD} {S : Int → Prop} {q : Nat} {f lim : Nat → Int} {k c : Int} (h : fitN U S q f lim k c) (c0 : 0 ≤ c) (g : presF f c.toNat → ldK9 U S q f k c.toNat ≤ lim c.toNat) : fitN U S q f lim k (c + 1) := by sorry
/-- what stands while mends are tried: hits, ways, rounds -/
def ANJ (U : AirD) (S : Int → Prop) (q : Nat) (s : PS) : Prop := (iI s 41 = (cHt (hitP U S q) (uN U) : Int) ∧ iI s 39 = (q : Int) ∧ q < 24) ∧ HTQ (hitP U S q) (uN U) (fun j => iC s 72 j) ∧ (iI s 43 = (uN U : Int) ∧ uN U ≤ 12) ∧ WyE (uN U) (WYCM s) (wyF U S (hitP U S q)) ∧ LDC (uL U) s ∧ (∀ x, x < uN U → iC s 11 (12 * q + x) = uM U q x) ∧ ∀ x, x < uN U → hitP U S q x → iC s 73 (cHt (hitP U S q) x) = rdX U S q x
def PBJ (lj hj : Nat → Int64) (s : PS) : Prop := ∀ p : Nat, p < 8 → gD s 22 p = lj p ∧ gD s 23 p = hj p
/-- minutes of the ways round: bounds -/
def RNB (s : PS) : Prop := ∀ i : Nat, (i : Int) < iI s 41 → -1 ≤ iC s 73 i ∧ iC s 73 i ≤ 2400
def TMK (U : AirD) (S : Int → Prop) (q : Nat) (lj hj : Nat → Int64) (ft : Int → Prop) (s : PS) : Prop := AIRM s ∧ CPLM s ∧ PBJ lj hj s ∧ PMJ s ∧ ANJ U S q s ∧ RNB s ∧ ft = fitK9 U S q (pfC s) (fun j => iC s 24 j)
theorem ANJ_fm {U : AirD} {S : Int → Prop} {q : Nat} {L M : List Nat} {s t : PS} (F : Fm L M s t) (h : (41 ∉ L ∧ 39 ∉ L ∧ 43 ∉ L ∧ 13 ∉ L) ∧ 72 ∉ M ∧ 58 ∉ M ∧ 57 ∉ M ∧ 11 ∉ M ∧ 73 ∉ M ∧ 17 ∉ M ∧ 16 ∉ M) (r : ANJ U S q s) : ANJ U S q t := by sorry
theorem PBJ_fm {lj hj : Nat → Int64} {L M : List Nat} {s t : PS} (F : Fm L M s t) (h : 22 + 1000 ∉ M ∧ 23 + 1000 ∉ M) (r : PBJ lj hj s) : PBJ lj hj t := by sorry
/-- mosts of those that are not hit -/
def MSJ (U : AirD) (S : Int → Prop) (q : Nat) (s : PS) : Prop := ∀ x, x < uN U → ¬ hitP U S q x → iC s 67 x = uM U q x
theorem MSJ_fm {U : AirD} {S : Int → Prop} {q : Nat} {L M : List Nat} {s t : PS} (F : Fm L M s t) (h : 67 ∉ M) (r : MSJ U S q s) : MSJ U S q t := by sorry
def MKQ9 (U : AirD) (S : Int → Prop) (q : Nat) (k c : Int) (t : PS) : Prop := (∀ x, x < uN U → hitP U S q x → (cHt (hitP U S q) x : Int) < c → iC t 67 x = moK U S q k x) ∧ MSJ U S q t
theorem mkq9_0 {U : AirD} {S : Int → Prop} {q : Nat} {k : Int} {t : PS} (h : MSJ U S q t) : MKQ9 U S q k 0 t := by sorry
theorem mkq9_up {U : AirD} {S : Int → Prop} {q : Nat} {k c y v : Int} {t u : PS} (h : MKQ9 U S q k c t) (a : ANJ U S q t) (c0 : 0 ≤ c ∧ c < iI t 41) (hy : y = iC t 72 c.toNat) (hu : UPD 67 y v t u) (hv : (bT (Int32.ofInt k) c.toNat = true ∧ v = uM U q y.toNat) ∨ (¬ bT (Int32.ofInt k) c.toNat = true ∧ v = 0)) : MKQ9 U S q k (c + 1) u := by sorry
theorem mkq9_e {U : AirD} {S : Int → Prop} {q : Nat} {k c : Int} {t : PS} (h : MKQ9 U S q k c t) (a : ANJ U S q t) (hc : c = iI t 41) : CDM (uL U) (wyF U S (hitP U S q)) (moK U S q k) (uN U) t := by sorry
/-- what is known of masks -/
def KNJ (ft : Int → Prop) (s : PS) : Prop := ∀ k : Int, 0 ≤ k → k ≤ 255 → iC s 76 k.toNat = 0 ∨ (iC s 76 k.toNat = 1 ∧ ft k) ∨ (iC s 76 k.toNat = 2 ∧ ¬ ft k)
theorem KNJ_fm {ft : Int → Prop} {L M : List Nat} {s t : PS} (F : Fm L M s t) (h : 76 ∉ M) (r : KNJ ft s) : KNJ ft t := by sorry
theorem knj_0 {ft : Int → Prop} {s : PS} (h : ∀ k : Nat, k < 256 → iC s 76 k = 0) : KNJ ft s := by sorry
theorem knj_up {ft : Int → Prop} {k v : Int} {s t : PS} (r : KNJ ft s) (h : UPD 76 k v s t) (k0 : 0 ≤ k) (hv : (v = 1 ∧ ft k) ∨ (v = 2 ∧ ¬ ft k)) : KNJ ft t := by sorry
/-- the best so far, as the class keeps it -/
def BSS (n : Nat) : MdO → PS → Prop
  | none, s => iI s 42 = 2147483647
  | some b, s => iI s 42 = b.1 ∧ b.1 < 2147483647 ∧ ∀ j : Nat, j < n → iC s 75 j = b.2 j
theorem bss_s {n : Nat} {B : MdO} {s t : PS} (h : BSS n B s) (e1 : iI t 42 = iI s 42) (e2 : SAM 75 s t) : BSS n B t := by sorry
theorem bss_l {n : Nat} {B : MdO} {s : PS} {m : Int} (h : BSS n B s) (hm : m < 2147483647) : lsB B m ↔ m < iI s 42 := by sorry
theorem bss_w {n : Nat} {h : Nat → Int} {m : Int} {t : PS} (e1 : iI t 42 = m) (hm : m < 2147483647) (e2 : ∀ j : Nat, j < n → iC t 75 j = h j) : BSS n (some (m, trH h n)) t := by sorry
theorem trb_no {mo rd : Nat → Int} {ft : Int → Prop} {n r : Nat} {h : Nat → Int} {m a b : Int} {B : MdO} (w : ¬ lsB B m) : trB mo rd ft n r h m a b B = B := by sorry
abbrev mo9 (s : PS) : Nat → Int := fun i => iC s 11 (12 * (iI s 39).toNat + (iC s 72 i).toNat)
abbrev rd9 (s : PS) : Nat → Int := fun i => iC s 73 i
abbrev md9 (s : PS) : Nat → Int := fun j => iC s 74 j
abbrev nn9 (s : PS) : Nat := (iI s 41).toNat
def TRP (B : MdO) (x v : Int) (s : PS) : Prop := BSS (nn9 s) B s ∧ v = msI (md9 s) 1 x.toNat
def TRS (B : MdO) (x : Int) (s t : PS) : Prop := BSS (nn9 s) B t ∧ ∀ j : Nat, j < x.toNat → iC t 74 j = iC s 74 j
def TRQ (ft : Int → Prop) (B : MdO) (x y z w : Int) (s t : PS) : Prop := TRS (trB (mo9 s) (rd9 s) ft (nn9 s) (nn9 s - x.toNat) (md9 s) y z w B) x s t
noncomputable def tr1 (ft : Int → Prop) (s : PS) (x y z w : Int) (B : MdO) : MdO := apB (rd9 s x.toNat ≠ -1) (fun C => trB (mo9 s) (rd9 s) ft (nn9 s) (nn9 s - (x.toNat + 1)) (upH (md9 s) x.toNat 1) (y + rd9 s x.toNat) z w C) B
noncomputable def tr2 (ft : Int → Prop) (s : PS) (x y z w : Int) (B : MdO) : MdO := apB (0 < z) (fun C => trB (mo9 s) (rd9 s) ft (nn9 s) (nn9 s - (x.toNat + 1)) (upH (md9 s) x.toNat 2) (y + 15 * mo9 s x.toNat) (z - 1) w C) B
noncomputable def tr3 (ft : Int → Prop) (s : PS) (x y z w : Int) (B : MdO) : MdO := apB (0 < w) (fun C => trB (mo9 s) (rd9 s) ft (nn9 s) (nn9 s - (x.toNat + 1)) (upH (md9 s) x.toNat 3) (y + 60 * mo9 s x.toNat) z (w - 1) C) B
theorem trq_no {ft : Int → Prop} {B : MdO} {x y z w v : Int} {s : PS} (h : TRP B x v s) (hy : y < 2147483647) (hb : iI s 42 ≤ y) : TRQ ft B x y z w s s := by sorry
theorem trq_0 {ft : Int → Prop} {B : MdO} {x y z w v : Int} {s t : PS} (h : TRP B x v s) (hx : x = iI s 41) (hn : ¬ ft v) (e1 : iI t 42 = iI s 42) (e2 : SAM 75 s t) (e3 : SAM 74 s t) : TRQ ft B x y z w s t := by sorry
theorem trq_1 {ft : Int → Prop} {B : MdO} {x y z w v : Int} {s t : PS} (h : TRP B x v s) (hx : x = iI s 41) (hf : ft v) (hl : lsB B y) (hy : y < 2147483647) (e1 : iI t 42 = y) (e2 : ∀ j : Nat, j < nn9 s → iC t 75 j = md9 s j) (e3 : SAM 74 s t) : TRQ ft B x y z w s t := by sorry
theorem trq_e {ft : Int → Prop} {B : MdO} {x y z w : Int} {s t : PS} (x0 : 0 ≤ x ∧ x < iI s 41) (hl : lsB B y) (h : TRS (tr3 ft s x y z w (tr2 ft s x y z w (tr1 ft s x y z w B))) x s t) : TRQ ft B x y z w s t := by sorry
theorem trs_call {ft : Int → Prop} {B : MdO} {x k y z w : Int} {s t u r : PS} (h : TRS B x s t) (x0 : 0 ≤ x ∧ x < iI s 41) (hu : UPD 74 x k t u) (en : iI u 41 = iI s 41) (em : mo9 u = mo9 s) (er : rd9 u = rd9 s) (q : TRQ ft B (x + 1) y z w u r) : TRS (trB (mo9 s) (rd9 s) ft (nn9 s) (nn9 s - (x.toNat + 1)) (upH (md9 s) x.toNat k) y z w B) x s r := by sorry
/-- ahead of a call: the best so far, the mask -/
theorem trp_in {B : MdO} {x k v v' : Int} {s t u : PS} (h : TRS B x s t) (x0 : 0 ≤ x ∧ x < iI s 41) (p : v = msI (md9 s) 1 x.toNat) (hu : UPD 74 x k t u) (en : iI u 41 = iI s 41) (e1 : iI u 42 = iI t 42) (e2 : SAM 75 t u) (hv : (k = 1 ∧ v' = v + pwI x.toNat) ∨ (k ≠ 1 ∧ v' = v)) : TRP B (x + 1) v' u := by sorry
theorem rdx_r {U : AirD} {S : Int → Prop} {q x : Nat} (hz : zF U S x ≤ 24) (hw : 1 ≤ (uW U).2 x) (hm : 0 ≤ uM U q x ∧ uM U q x ≤ 50) : -1 ≤ rdX U S q x ∧ rdX U S q x ≤ 2400 := by sorry
theorem TMK_fm {U : AirD} {S : Int → Prop} {q : Nat} {lj hj : Nat → Int64} {ft : Int → Prop} {L M : List Nat} {s t : PS} (F : Fm L M s t) (h : (∀ a ∈ [43, 44, 41, 39, 13], a ∉ L) ∧ ∀ a ∈ [57, 58, 1059, 1060, 1061, 62, 1063, 1022, 1023, 21, 72, 11, 73, 17, 16, 24], a ∉ M) (r : TMK U S q lj hj ft s) : TMK U S q lj hj ft t := by sorry
theorem tmk_in {U : AirD} {S : Int → Prop} {q : Nat} {lj hj : Nat → Int64} {ft : Int → Prop} {s : PS} (h : TMK U S q lj hj ft s) {p : Nat} (hp : p < 8) : inL (lj p) (hj p) = pcS (pfC s) (p : Int) := by sorry
theorem any_mo {U : AirD} {S : Int → Prop} {q : Nat} {c : Int} {s : PS} (a : ANJ U S q s) (c0 : 0 ≤ c ∧ c < iI s 41) : iC s 11 (iI s 39 * 12 + iC s 72 c.toNat).toNat = uM U q (iC s 72 c.toNat).toNat := by sorry
theorem ldk_of {U : AirD} {S : Int → Prop} {q p : Nat} {lj hj : Nat → Int64} {ft : Int → Prop} {s : PS} {k e : Int} (h : TMK U S q lj hj ft s) (hp : p < 8) (r : rng e) (he : Int32.ofInt e = uL U (nmH (inL (lj p) (hj p)) (wyF U S (hitP U S q)) (moK U S q k) (uN U) 1)) : e = ldK9 U S q (pfC s) k p := by sorry
theorem fit_y {U : AirD} {S : Int → Prop} {q : Nat} {lj hj : Nat → Int64} {ft : Int → Prop} {s : PS} {k c : Int} (h : TMK U S q lj hj ft s) (n : fitN U S q (pfC s) (fun j => iC s 24 j) k c) (hc : c = 8) : ft k := by sorry
theorem fit_n {U : AirD} {S : Int → Prop} {q p : Nat} {lj hj : Nat → Int64} {ft : Int → Prop} {s : PS} {k e : Int} (h : TMK U S q lj hj ft s) (hp : p < 8) (w : HCE (pcS (pfC s) (p : Int)) 1) (he : e = ldK9 U S q (pfC s) k p) (hl : iC s 24 p < e) : ¬ ft k := by sorry
theorem kn_1 {ft : Int → Prop} {k : Int} {s : PS} (h : KNJ ft s) (k0 : 0 ≤ k ∧ k ≤ 255) (e : iC s 76 k.toNat = 1) : ft k := by sorry
theorem kn_2 {ft : Int → Prop} {k : Int} {s : PS} (h : KNJ ft s) (k0 : 0 ≤ k ∧ k ≤ 255) (e0 : iC s 76 k.toNat ≠ 0) (e : iC s 76 k.toNat ≠ 1) : ¬ ft k := by sorry
theorem mo9_fm {L M : List Nat} {s t : PS} (F : Fm L M s t) (h : 39 ∉ L ∧ 72 ∉ M ∧ 11 ∉ M) : mo9 t = mo9 s := by sorry
theorem rd9_fm {L M : List Nat} {s t : PS} (F : Fm L M s t) (h : 73 ∉ M) : rd9 t = rd9 s := by sorry
theorem mo9_at {s : PS} {x : Int} (h : 0 ≤ iI s 39 ∧ 0 ≤ iC s 72 x.toNat) : iC s 11 (iI s 39 * 12 + iC s 72 x.toNat).toNat = mo9 s x.toNat := by sorry
theorem trs_0 {B : MdO} {x v : Int} {s : PS} (h : TRP B x v s) : TRS B x s s := by sorry
theorem ap_y {c : Prop} {f : MdO → MdO} {B : MdO} (h : c) : apB c f B = f B := by sorry
theorem ap_n {c : Prop} {f : MdO → MdO} {B : MdO} (h : ¬ c) : apB c f B = B := by sorry
theorem bss_g {n : Nat} {B : MdO} {s : PS} {m : Int} (h : BSS n B s) (hm : m < 2147483647) (hl : m < iI s 42) : lsB B m := by sorry
/-- the eight ears have heard -/
def EAJ (lj hj : Nat → Int64) (s : PS) : Prop := (LSNE0 (lj 0) (hj 0) s ∧ HEHE0 (lj 0) (hj 0) 1 s) ∧ (LSNE1 (lj 1) (hj 1) s ∧ HEHE1 (lj 1) (hj 1) 1 s) ∧ (LSNE2 (lj 2) (hj 2) s ∧ HEHE2 (lj 2) (hj 2) 1 s) ∧ (LSNE3 (lj 3) (hj 3) s ∧ HEHE3 (lj 3) (hj 3) 1 s) ∧ (LSNE4 (lj 4) (hj 4) s ∧ HEHE4 (lj 4) (hj 4) 1 s) ∧ (LSNE5 (lj 5) (hj 5) s ∧ HEHE5 (lj 5) (hj 5) 1 s) ∧ (LSNE6 (lj 6) (hj 6) s ∧ HEHE6 (lj 6) (hj 6) 1 s) ∧ (LSNE7 (lj 7) (hj 7) s ∧ HEHE7 (lj 7) (hj 7) 1 s)
theorem EAJ_fm {lj hj : Nat → Int64} {L M : List Nat} {s t : PS} (F : Fm L M s t) (h : (∀ a ∈ [43, 44, 46, 47, 49, 50, 52, 53, 55, 56, 58, 59, 61, 62, 64, 65, 67, 68], a ∉ L) ∧ ∀ a ∈ [80, 81, 82, 83, 84, 85, 86, 62, 1063, 1059, 1061, 87, 89, 90, 91, 92, 93, 94, 95, 96, 98, 99, 100, 101, 102, 103, 104, 105, 107, 108, 109, 110, 111, 112, 113, 114, 116, 117, 118, 119, 120, 121, 122, 123, 125, 126, 127, 128, 129, 130, 131, 132, 134, 135, 136, 137, 138, 139, 140, 141, 143, 144, 145, 146, 147, 148, 149, 150], a ∉ M) (r : EAJ lj hj s) : EAJ lj hj t := by sorry
theorem eaj_up_0 {lj hj : Nat → Int64} {t u : PS} (h : EAJ lj hj t) (F : Fm [] [87, 20] t u) (h2 : HEHE0 (lj 0) (hj 0) 1 u) : EAJ lj hj u := by sorry
theorem eaj_up_1 {lj hj : Nat → Int64} {t u : PS} (h : EAJ lj hj t) (F : Fm [] [96, 20] t u) (h2 : HEHE1 (lj 1) (hj 1) 1 u) : EAJ lj hj u := by sorry
theorem eaj_up_2 {lj hj : Nat → Int64} {t u : PS} (h : EAJ lj hj t) (F : Fm [] [105, 20] t u) (h2 : HEHE2 (lj 2) (hj 2) 1 u) : EAJ lj hj u := by sorry
theorem eaj_up_3 {lj hj : Nat → Int64} {t u : PS} (h : EAJ lj hj t) (F : Fm [] [114, 20] t u) (h2 : HEHE3 (lj 3) (hj 3) 1 u) : EAJ lj hj u := by sorry
theorem eaj_up_4 {lj hj : Nat → Int64} {t u : PS} (h : EAJ lj hj t) (F : Fm [] [123, 20] t u) (h2 : HEHE4 (lj 4) (hj 4) 1 u) : EAJ lj hj u := by sorry
theorem eaj_up_5 {lj hj : Nat → Int64} {t u : PS} (h : EAJ lj hj t) (F : Fm [] [132, 20] t u) (h2 : HEHE5 (lj 5) (hj 5) 1 u) : EAJ lj hj u := by sorry
theorem eaj_up_6 {lj hj : Nat → Int64} {t u : PS} (h : EAJ lj hj t) (F : Fm [] [141, 20] t u) (h2 : HEHE6 (lj 6) (hj 6) 1 u) : EAJ lj hj u := by sorry
theorem eaj_up_7 {lj hj : Nat → Int64} {t u : PS} (h : EAJ lj hj t) (F : Fm [] [150, 20] t u) (h2 : HEHE7 (lj 7) (hj 7) 1 u) : EAJ lj hj u := by sorry
theorem eaj_of {lj hj : Nat → Int64} {t : PS} (h : EAR9 8 t) (e1 : ∀ i, gD t 22 i = lj i) (e2 : ∀ i, gD t 23 i = hj i) : EAJ lj hj t := by sorry
section M87kx
variable {l : Launch} {s0 : State} {D : va_G} {tys : List (ClassId × FieldType)} {a0 : Array Value} {A : Nat → Nat} {dT : Nat → ClassId} {s : PS}
set_option maxRecDepth 4000 in
theorem c8_any9 (G : GX l s0 D tys a0 dT) {U : AirD} {S : Int → Prop} {qn : Nat} {lj hj : Nat → Int64} {ft : Int → Prop} (I : Bd s) (jTMK : TMK U S qn lj hj ft s) (jEAJ : EAJ lj hj s) (jMSJ : MSJ U S qn s) {x : Int} (p0 : 0 ≤ x ∧ x ≤ 255) (p1 : iI s 41 ≤ 8) : CT l s0 D A dT 98 (rmN 98) [.ref (A 67), .int (Int32.ofInt x)] s (fun o t => Bd t ∧ Fm [] [67, 20, 87, 96, 105, 114, 123, 132, 141, 150] s t ∧ EAJ lj hj t ∧ MSJ U S qn t ∧ ∃ e, o = .inl (some (.int (Int32.ofInt e))) ∧ rng e ∧ ((e = 0 ∧ ft x) ∨ (e = 1 ∧ ¬ ft x))) := by sorry
set_option maxRecDepth 4000 in
theorem c8_fits9 (G : GX l s0 D tys a0 dT) {U : AirD} {S : Int → Prop} {qn : Nat} {lj hj : Nat → Int64} {ft : Int → Prop} (I : Bd s) (jTMK : TMK U S qn lj hj ft s) (jEAJ : EAJ lj hj s) (jMSJ : MSJ U S qn s) (jKNJ : KNJ ft s) {x : Int} (p0 : 0 ≤ x ∧ x ≤ 255) (p1 : iI s 41 ≤ 8) : CT l s0 D A dT 97 (rmN 97) [.ref (A 67), .int (Int32.ofInt x)] s (fun o t => Bd t ∧ Fm [] [67, 20, 76, 87, 96, 105, 114, 123, 132, 141, 150] s t ∧ EAJ lj hj t ∧ MSJ U S qn t ∧ KNJ ft t ∧ ∃ e, o = .inl (some (.int (Int32.ofInt e))) ∧ rng e ∧ ((e = 1 ∧ ft x) ∨ (e = 0 ∧ ¬ ft x))) := by sorry
set_option maxRecDepth 4000 in
theorem c8_try90 (G : GX l s0 D tys a0 dT) {U : AirD} {S : Int → Prop} {qn : Nat} {lj hj : Nat → Int64} {ft : Int → Prop} {B : MdO} (I : Bd s) (jTMK : TMK U S qn lj hj ft s) (jEAJ : EAJ lj hj s) (jMSJ : MSJ U S qn s) (jKNJ : KNJ ft s) {x y z w v : Int} (p0 : 0 ≤ x ∧ x ≤ iI s 41) (p1 : iI s 41 - x ≤ ((0 : Nat) : Int)) (p2 : iI s 41 ≤ 8) (p3 : 0 ≤ y ∧ y ≤ 3000 * x) (p4 : 0 ≤ z ∧ z ≤ 8) (p5 : 0 ≤ w ∧ w ≤ 8) (p6 : 0 ≤ v ∧ v ≤ 255) (p7 : TRP B x v s) : CT l s0 D A dT 96 (rkR (30 + (0))) [.ref (A 67), .int (Int32.ofInt x), .int (Int32.ofInt y), .int (Int32.ofInt z), .int (Int32.ofInt w), .int (Int32.ofInt v)] s (fun o t => Bd t ∧ Fm [42] [67, 20, 76, 74, 75, 87, 96, 105, 114, 123, 132, 141, 150] s t ∧ EAJ lj hj t ∧ MSJ U S qn t ∧ KNJ ft t ∧ o = .inl none ∧ (TRQ ft B x y z w s t)) := by sorry
set_option maxRecDepth 4000 in
theorem c8_try9S (G : GX l s0 D tys a0 dT) {U : AirD} {S : Int → Prop} {qn : Nat} {lj hj : Nat → Int64} {ft : Int → Prop} {B : MdO} {r : Nat} (hR : ∀ {s : PS} {x y z w v : Int} {B : MdO}, Bd s → TMK U S qn lj hj ft s → EAJ lj hj s → MSJ U S qn s → KNJ ft s → (0 ≤ x ∧ x ≤ iI s 41) → (iI s 41 - x ≤ ((r : Nat) : Int)) → (iI s 41 ≤ 8) → (0 ≤ y ∧ y ≤ 3000 * x) → (0 ≤ z ∧ z ≤ 8) → (0 ≤ w ∧ w ≤ 8) → (0 ≤ v ∧ v ≤ 255) → (TRP B x v s) → CT l s0 D A dT 96 (rkR (30 + (r))) [.ref (A 67), .int (Int32.ofInt x), .int (Int32.ofInt y), .int (Int32.ofInt z), .int (Int32.ofInt w), .int (Int32.ofInt v)] s (fun o t => Bd t ∧ Fm [42] [67, 20, 76, 74, 75, 87, 96, 105, 114, 123, 132, 141, 150] s t ∧ EAJ lj hj t ∧ MSJ U S qn t ∧ KNJ ft t ∧ o = .inl none ∧ (TRQ ft B x y z w s t))) (I : Bd s) (jTMK : TMK U S qn lj hj ft s) (jEAJ : EAJ lj hj s) (jMSJ : MSJ U S qn s) (jKNJ : KNJ ft s) {x y z w v : Int} (p0 : 0 ≤ x ∧ x ≤ iI s 41) (p1 : iI s 41 - x ≤ ((r + 1 : Nat) : Int)) (p2 : iI s 41 ≤ 8) (p3 : 0 ≤ y ∧ y ≤ 3000 * x) (p4 : 0 ≤ z ∧ z ≤ 8) (p5 : 0 ≤ w ∧ w ≤ 8) (p6 : 0 ≤ v ∧ v ≤ 255) (p7 : TRP B x v s) : CT l s0 D A dT 96 (rkR (30 + (r + 1))) [.ref (A 67), .int (Int32.ofInt x), .int (Int32.ofInt y), .int (Int32.ofInt z), .int (Int32.ofInt w), .int (Int32.ofInt v)] s (fun o t => Bd t ∧ Fm [42] [67, 20, 76, 74, 75, 87, 96, 105, 114, 123, 132, 141, 150] s t ∧ EAJ lj hj t ∧ MSJ U S qn t ∧ KNJ ft t ∧ o = .inl none ∧ (TRQ ft B x y z w s t)) := by sorry
theorem c8_try9 (G : GX l s0 D tys a0 dT) {U : AirD} {S : Int → Prop} {qn : Nat} {lj hj : Nat → Int64} {ft : Int → Prop} (r : Nat) : ∀ {s : PS} {x y z w v : Int} {B : MdO}, Bd s → TMK U S qn lj hj ft s → EAJ lj hj s → MSJ U S qn s → KNJ ft s → (0 ≤ x ∧ x ≤ iI s 41) → (iI s 41 - x ≤ ((r : Nat) : Int)) → (iI s 41 ≤ 8) → (0 ≤ y ∧ y ≤ 3000 * x) → (0 ≤ z ∧ z ≤ 8) → (0 ≤ w ∧ w ≤ 8) → (0 ≤ v ∧ v ≤ 255) → (TRP B x v s) → CT l s0 D A dT 96 (rkR (30 + (r))) [.ref (A 67), .int (Int32.ofInt x), .int (Int32.ofInt y), .int (Int32.ofInt z), .int (Int32.ofInt w), .int (Int32.ofInt v)] s (fun o t => Bd t ∧ Fm [42] [67, 20, 76, 74, 75, 87, 96, 105, 114, 123, 132, 141, 150] s t ∧ EAJ lj hj t ∧ MSJ U S qn t ∧ KNJ ft t ∧ o = .inl none ∧ (TRQ ft B x y z w s t)) := by sorry
end M87kx
