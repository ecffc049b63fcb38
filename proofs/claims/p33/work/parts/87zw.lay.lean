
theorem oq_3796e72a {a0 a1 a2 : Int} (h0 : a0 < a1) (h1 : a2 ≤ 24) (h2 : a1 ≤ 12) : ((a0 * 24) + a2) ≤ 288 := by sorry
theorem oq_026abc13 {a0 a1 : Int} (h0 : a0 < a1) (h1 : a1 ≤ 12) : a0 < 288 := by sorry
theorem oq_c1034abd {a0 a1 : Int} (h0 : a0 < a1) (h1 : a1 ≤ 12) : (a0 : Int).toNat < 288 := by sorry
/-! The ways as they are mended -/
noncomputable def rnZ (S : Int → Prop) (a b : Int) : Int := Classical.epsilon (fun z => ∃ p, RNR S a b z p)
noncomputable def rnP (S : Int → Prop) (a b : Int) : Nat → Int := Classical.epsilon (fun p => RNR S a b (rnZ S a b) p)
theorem rnz_eq {S : Int → Prop} {a b z : Int} {p : Nat → Int} (h : RNR S a b z p) : z = rnZ S a b ∧ ∀ k : Nat, (k : Int) < z → p k = rnP S a b k := by sorry
/-- a stream's first cell, its last; its way round; the minutes of it -/
def fsA (U : AirD) (x : Nat) : Int := (uW U).1 x 0
def lsA (U : AirD) (x : Nat) : Int := (uW U).1 x ((uW U).2 x - 1).toNat
noncomputable def zF (U : AirD) (S : Int → Prop) (x : Nat) : Int := rnZ S (fsA U x) (lsA U x)
noncomputable def pF9 (U : AirD) (S : Int → Prop) (x : Nat) : Nat → Int := rnP S (fsA U x) (lsA U x)
noncomputable def wyF (U : AirD) (S : Int → Prop) (P : Nat → Prop) : WyS := (fun x k => pickQ (P x ∧ zF U S x ≠ 0) (pF9 U S x k) ((uW U).1 x k), fun x => pickQ (P x ∧ zF U S x ≠ 0) (zF U S x) ((uW U).2 x))
noncomputable def rdX (U : AirD) (S : Int → Prop) (q x : Nat) : Int := pickQ (zF U S x = 0) (-1) (2 * (if 0 < zF U S x - (uW U).2 x then zF U S x - (uW U).2 x else 0) * uM U q x)
theorem wyf_o {U : AirD} {S : Int → Prop} {P : Nat → Prop} {x : Nat} (h : ¬ (P x ∧ zF U S x ≠ 0)) : (wyF U S P).2 x = (uW U).2 x ∧ ∀ k, (wyF U S P).1 x k = (uW U).1 x k := by sorry
theorem wyf_r {U : AirD} {S : Int → Prop} {P : Nat → Prop} {x : Nat} (h : P x ∧ zF U S x ≠ 0) : (wyF U S P).2 x = zF U S x ∧ ∀ k, (wyF U S P).1 x k = pF9 U S x k := by sorry
/-- the rows of the mended air below c -/
def LWR (U : AirD) (S : Int → Prop) (q : Nat) (P : Nat → Prop) (c : Int) (t : PS) : Prop := AIN c t ∧ (∀ x : Nat, (x : Int) < c → iC t 58 x = (wyF U S P).2 x ∧ ∀ k : Nat, (k : Int) < (wyF U S P).2 x → iC t 57 (24 * x + k) = (wyF U S P).1 x k) ∧ (∀ x : Nat, (x : Int) < c → iC t 67 x = uM U q x) ∧ ∀ x : Nat, (x : Int) < c → P x → iC t 73 (cHt P x) = rdX U S q x
theorem lwr_0 {U : AirD} {S : Int → Prop} {q : Nat} {P : Nat → Prop} {t : PS} : LWR U S q P 0 t := by sorry
theorem AIN_fm {n : Int} {L M : List Nat} {s t : PS} (F : Fm L M s t) (h : 57 ∉ M ∧ 58 ∉ M ∧ 59 + 1000 ∉ M ∧ 60 + 1000 ∉ M ∧ 61 + 1000 ∉ M) (r : AIN n s) : AIN n t := by sorry
theorem LWR_fm {U : AirD} {S : Int → Prop} {q : Nat} {P : Nat → Prop} {c : Int} {L M : List Nat} {s t : PS} (F : Fm L M s t) (h : (57 ∉ M ∧ 58 ∉ M ∧ 59 + 1000 ∉ M ∧ 60 + 1000 ∉ M ∧ 61 + 1000 ∉ M) ∧ 67 ∉ M ∧ 73 ∉ M) (r : LWR U S q P c s) : LWR U S q P c t := by sorry
theorem lwr_keep {U : AirD} {S : Int → Prop} {q : Nat} {P : Nat → Prop} {c w : Int} {f : Nat → Int} {s t : PS} (r : LWR U S q P c s) (c0 : 0 ≤ c ∧ c ≤ 11) (h1 : CWG f c w s t) (h2 : WRQM f c w w s t) (ho : WOK f w) (hm : SAM 67 s t) (hr : SAM 73 s t) : LWR U S q P c t := by sorry
/-- the row c itself: its way, its most -/
theorem lwr_row {U : AirD} {S : Int → Prop} {q : Nat} {P : Nat → Prop} {c w : Int} {f : Nat → Int} {s t : PS} (r : LWR U S q P c s) (c0 : 0 ≤ c ∧ c ≤ 11) (h1 : CWG f c w s t) (h2 : WRQM f c w w s t) (ho : WOK f w) (hm : SAM 67 s t) (hr : SAM 73 s t) (ew : w = (wyF U S P).2 c.toNat) (ef : ∀ k : Nat, (k : Int) < w → f k = (wyF U S P).1 c.toNat k) : AIN (c + 1) t ∧ (∀ x : Nat, (x : Int) < c + 1 → iC t 58 x = (wyF U S P).2 x ∧ ∀ k : Nat, (k : Int) < (wyF U S P).2 x → iC t 57 (24 * x + k) = (wyF U S P).1 x k) := by sorry
theorem lwr_up {U : AirD} {S : Int → Prop} {q : Nat} {P : Nat → Prop} {c : Int} {t : PS} (r : LWR U S q P c t) (a : AIN (c + 1) t ∧ (∀ x : Nat, (x : Int) < c + 1 → iC t 58 x = (wyF U S P).2 x ∧ ∀ k : Nat, (k : Int) < (wyF U S P).2 x → iC t 57 (24 * x + k) = (wyF U S P).1 x k)) (c0 : 0 ≤ c) (hm : iC t 67 c.toNat = uM U q c.toNat) (hr : P c.toNat → iC t 73 (cHt P c.toNat) = rdX U S q c.toNat) : LWR U S q P (c + 1) t := by sorry
/-- mosts and rounds of the row c written: the rows below stand -/
theorem lwr_mo {U : AirD} {S : Int → Prop} {q : Nat} {P : Nat → Prop} {c m : Int} {s t : PS} (r : LWR U S q P c s) (c0 : 0 ≤ c) (a : AIN c t) (h1 : SAM 57 s t) (h2 : SAM 58 s t) (h3 : UPD 67 c m s t) (h4 : SAM 73 s t) : LWR U S q P c t := by sorry
theorem lwr_rn {U : AirD} {S : Int → Prop} {q : Nat} {P : Nat → Prop} {c n m : Int} {s t : PS} (r : LWR U S q P c s) (c0 : 0 ≤ c) (a : AIN c t) (h1 : SAM 57 s t) (h2 : SAM 58 s t) (h3 : SAM 67 s t) (h4 : UPD 73 n m s t) (hn : n = (cHt P c.toNat : Int)) : LWR U S q P c t := by sorry
/-- bits of twelve -/
theorem bt_sh12 {x : Int32} {n : Nat} (hn : n < 12) : (x >>> (Int32.ofInt (n : Int) &&& 31)) &&& Int32.ofInt 1 = Int32.ofInt (if bT x n = true then 1 else 0) := by sorry
theorem bt_rd12 {b p y w : Int} (h1 : Int32.ofInt y = Int32.ofInt b >>> (Int32.ofInt p &&& 31)) (h2 : Int32.ofInt w = Int32.ofInt y &&& Int32.ofInt 1) (r : rng w) (p0 : 0 ≤ p ∧ p ≤ 11) : (w = 1 ∧ bT (Int32.ofInt b) p.toNat = true) ∨ (w = 0 ∧ ¬ bT (Int32.ofInt b) p.toNat = true) := by sorry
theorem row_s {U : AirD} {S : Int → Prop} {P : Nat → Prop} {c : Int} {s t : PS} (r : AIN c s ∧ (∀ x : Nat, (x : Int) < c → iC s 58 x = (wyF U S P).2 x ∧ ∀ k : Nat, (k : Int) < (wyF U S P).2 x → iC s 57 (24 * x + k) = (wyF U S P).1 x k)) (a : AIN c t) (h1 : SAM 57 s t) (h2 : SAM 58 s t) : AIN c t ∧ (∀ x : Nat, (x : Int) < c → iC t 58 x = (wyF U S P).2 x ∧ ∀ k : Nat, (k : Int) < (wyF U S P).2 x → iC t 57 (24 * x + k) = (wyF U S P).1 x k) := by sorry
theorem rdx_0 {U : AirD} {S : Int → Prop} {q x : Nat} (h : zF U S x = 0) : rdX U S q x = -1 := by sorry
theorem rdx_z {U : AirD} {S : Int → Prop} {q x : Nat} {mx m : Int} (h : zF U S x ≠ 0) (hx : (mx = 0 ∧ zF U S x - (uW U).2 x ≤ 0) ∨ (mx = zF U S x - (uW U).2 x ∧ 0 < zF U S x - (uW U).2 x)) (hm : m = uM U q x) : rdX U S q x = 2 * mx * m := by sorry
/-- the first c ears have heard -/
def EAR9 (c : Int) (t : PS) : Prop := (0 < c → LSNE0 (gD t 22 0) (gD t 23 0) t ∧ HEHE0 (gD t 22 0) (gD t 23 0) 1 t) ∧ (1 < c → LSNE1 (gD t 22 1) (gD t 23 1) t ∧ HEHE1 (gD t 22 1) (gD t 23 1) 1 t) ∧ (2 < c → LSNE2 (gD t 22 2) (gD t 23 2) t ∧ HEHE2 (gD t 22 2) (gD t 23 2) 1 t) ∧ (3 < c → LSNE3 (gD t 22 3) (gD t 23 3) t ∧ HEHE3 (gD t 22 3) (gD t 23 3) 1 t) ∧ (4 < c → LSNE4 (gD t 22 4) (gD t 23 4) t ∧ HEHE4 (gD t 22 4) (gD t 23 4) 1 t) ∧ (5 < c → LSNE5 (gD t 22 5) (gD t 23 5) t ∧ HEHE5 (gD t 22 5) (gD t 23 5) 1 t) ∧ (6 < c → LSNE6 (gD t 22 6) (gD t 23 6) t ∧ HEHE6 (gD t 22 6) (gD t 23 6) 1 t) ∧ (7 < c → LSNE7 (gD t 22 7) (gD t 23 7) t ∧ HEHE7 (gD t 22 7) (gD t 23 7) 1 t)
theorem ear9_0 {c : Int} {t u : PS} (h : EAR9 c t) (hc : c = 0) (F : Fm [46, 47] [87, 80, 81, 82, 83, 84, 85, 86] t u) (h1 : LSNE0 (gD t 22 0) (gD t 23 0) u) (h2 : HEHE0 (gD t 22 0) (gD t 23 0) 1 u) : EAR9 (c + 1) u := by sorry
theorem ear9_1 {c : Int} {t u : PS} (h : EAR9 c t) (hc : c = 1) (F : Fm [49, 50] [96, 89, 90, 91, 92, 93, 94, 95] t u) (h1 : LSNE1 (gD t 22 1) (gD t 23 1) u) (h2 : HEHE1 (gD t 22 1) (gD t 23 1) 1 u) : EAR9 (c + 1) u := by sorry
theorem ear9_2 {c : Int} {t u : PS} (h : EAR9 c t) (hc : c = 2) (F : Fm [52, 53] [105, 98, 99, 100, 101, 102, 103, 104] t u) (h1 : LSNE2 (gD t 22 2) (gD t 23 2) u) (h2 : HEHE2 (gD t 22 2) (gD t 23 2) 1 u) : EAR9 (c + 1) u := by sorry
theorem ear9_3 {c : Int} {t u : PS} (h : EAR9 c t) (hc : c = 3) (F : Fm [55, 56] [114, 107, 108, 109, 110, 111, 112, 113] t u) (h1 : LSNE3 (gD t 22 3) (gD t 23 3) u) (h2 : HEHE3 (gD t 22 3) (gD t 23 3) 1 u) : EAR9 (c + 1) u := by sorry
theorem ear9_4 {c : Int} {t u : PS} (h : EAR9 c t) (hc : c = 4) (F : Fm [58, 59] [123, 116, 117, 118, 119, 120, 121, 122] t u) (h1 : LSNE4 (gD t 22 4) (gD t 23 4) u) (h2 : HEHE4 (gD t 22 4) (gD t 23 4) 1 u) : EAR9 (c + 1) u := by sorry
theorem ear9_5 {c : Int} {t u : PS} (h : EAR9 c t) (hc : c = 5) (F : Fm [61, 62] [132, 125, 126, 127, 128, 129, 130, 131] t u) (h1 : LSNE5 (gD t 22 5) (gD t 23 5) u) (h2 : HEHE5 (gD t 22 5) (gD t 23 5) 1 u) : EAR9 (c + 1) u := by sorry
theorem ear9_6 {c : Int} {t u : PS} (h : EAR9 c t) (hc : c = 6) (F : Fm [64, 65] [141, 134, 135, 136, 137, 138, 139, 140] t u) (h1 : LSNE6 (gD t 22 6) (gD t 23 6) u) (h2 : HEHE6 (gD t 22 6) (gD t 23 6) 1 u) : EAR9 (c + 1) u := by sorry
theorem ear9_7 {c : Int} {t u : PS} (h : EAR9 c t) (hc : c = 7) (F : Fm [67, 68] [150, 143, 144, 145, 146, 147, 148, 149] t u) (h1 : LSNE7 (gD t 22 7) (gD t 23 7) u) (h2 : HEHE7 (gD t 22 7) (gD t 23 7) 1 u) : EAR9 (c + 1) u := by sorry
theorem ear9_z {t : PS} : EAR9 0 t := by sorry
section M87kw
variable {l : Launch} {s0 : State} {D : va_G} {tys : List (ClassId × FieldType)} {a0 : Array Value} {A : Nat → Nat} {dT : Nat → ClassId} {s : PS}
set_option maxRecDepth 4000 in
theorem c8_lay9 (G : GX l s0 D tys a0 dT) (GR : RS0 s0) {U : AirD} (I : Bd s) (jAIR : AIR s) (jCDJ : CDJ U s) (p0 : FHQ (hitP U (stS s) (iI s 39).toNat) (iI s 9) s) (p1 : iI s 41 ≤ 8) : CT l s0 D A dT 92 (rmN 92) [.ref (A 67)] s (fun o t => Bd t ∧ Fm [43, 44, 46, 47, 49, 50, 52, 53, 55, 56, 58, 59, 61, 62, 64, 65, 67, 68] [57, 58, 67, 62, 77, 78, 79, 73, 87, 80, 81, 82, 83, 84, 85, 86, 96, 89, 90, 91, 92, 93, 94, 95, 105, 98, 99, 100, 101, 102, 103, 104, 114, 107, 108, 109, 110, 111, 112, 113, 123, 116, 117, 118, 119, 120, 121, 122, 132, 125, 126, 127, 128, 129, 130, 131, 141, 134, 135, 136, 137, 138, 139, 140, 150, 143, 144, 145, 146, 147, 148, 149, 1059, 1060, 1061, 1063] s t ∧ AIRM t ∧ CPLM t ∧ o = .inl none ∧ (LWR U (stS s) (iI s 39).toNat (hitP U (stS s) (iI s 39).toNat) (iI s 9) t ∧ EAR9 8 t ∧ iI t 43 = (iI s 9))) := by sorry
end M87kw
