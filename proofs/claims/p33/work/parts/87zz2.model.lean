
theorem oq_09bb1bf4 {a0 : Int} (h0 : 0 ≤ a0) : (-2147483648) ≤ (a0 * 60) := by sorry
theorem oq_daf99d9c {a0 : Int} (h0 : a0 ≤ 50) : (a0 * 60) ≤ 2147483647 := by sorry
theorem oq_64fb5450 {a0 : Int} (h0 : 0 ≤ a0) : 0 ≤ (a0 * 60) := by sorry
theorem oq_f85c0b9a {a0 : Int} (h0 : a0 ≤ 50) : (a0 * 60) ≤ 3000 := by sorry
theorem oq_5e667f62 {a0 : Int} (h0 : a0 ≠ 2) (h1 : a0 ≠ 1) (h2 : a0 ≤ 3) (h3 : 1 ≤ a0) : a0 = 3 := by sorry
theorem oq_0926c754 {a0 : Int} (h0 : 0 ≤ a0) : (-2147483648) ≤ (a0 * 15) := by sorry
theorem oq_2c5ca475 {a0 : Int} (h0 : a0 ≤ 50) : (a0 * 15) ≤ 2147483647 := by sorry
theorem oq_f86a6cbe {a0 : Int} (h0 : 0 ≤ a0) : 0 ≤ (a0 * 15) := by sorry
theorem oq_294476f4 {a0 : Int} (h0 : a0 ≤ 50) : (a0 * 15) ≤ 3000 := by sorry
/-! Mends: model, minutes, loads of the mended -/
def MDL (U : AirD) (s : PS) : Prop := (iI s 90 = (uN U : Int) ∧ uN U ≤ 12) ∧ (∀ x, x < uN U → WOK ((uW U).1 x) ((uW U).2 x)) ∧ LDM (uL U) s
/-- no piece is full: the model's -/
def fitQ (U : AirD) (mo : Nat → Int) (f lim : Nat → Int) (c : Int) : Prop := ∀ p : Nat, (p : Int) < c → presF f p → (uL U (nmH (pcS f (p : Int)) (uW U) mo (uN U) 1)).toInt ≤ lim p
theorem fitq_up {U : AirD} {mo f lim : Nat → Int} {c : Int} (h : fitQ U mo f lim c) (c0 : 0 ≤ c) (g : presF f c.toNat → (uL U (nmH (pcS f ((c.toNat : Nat) : Int)) (uW U) mo (uN U) 1)).toInt ≤ lim c.toNat) : fitQ U mo f lim (c + 1) := by sorry
theorem MDL_fm {U : AirD} {L M : List Nat} {s t : PS} (F : Fm L M s t) (h : 90 ∉ L ∧ 85 ∉ L ∧ 82 ∉ L ∧ 158 ∉ M) (r : MDL U s) : MDL U t := by sorry
theorem ins_f9 {L M : List Nat} {s t : PS} (F : Fm L M s t) (h : 230 ∉ M) : inS t = inS s := by sorry
theorem fitq_n {U : AirD} {mo f lim : Nat → Int} {p : Nat} {e : Int} (hp : p < 8) (w : HCE (pcS f (p : Int)) 1) (he : e = (uL U (nmH (pcS f (p : Int)) (uW U) mo (uN U) 1)).toInt) (hl : lim p < e) : ¬ fitQ U mo f lim 8 := by sorry
section M87la
variable {l : Launch} {s0 : State} {D : va_G} {tys : List (ClassId × FieldType)} {a0 : Array Value} {A : Nat → Nat} {dT : Nat → ClassId} {s : PS}
set_option maxRecDepth 4000 in
theorem k_minutes9 (G : GX l s0 D tys a0 dT) {U : AirD} (I : Bd s) (jMDJ : MDJ U s) {x y z : Int} (p0 : 0 ≤ x ∧ x < iI s 90) (p1 : 1 ≤ y ∧ y ≤ 3) (p2 : 0 ≤ z ∧ z ≤ 23) (p3 : 0 ≤ iC s 403 (x : Int).toNat ∧ iC s 403 (x : Int).toNat ≤ 24) : CT l s0 D A dT 282 (rmN 282) [.ref (A 179), .int (Int32.ofInt x), .int (Int32.ofInt y), .int (Int32.ofInt z)] s (fun o t => Bd t ∧ Fm [] [] s t ∧ ∃ e, o = .inl (some (.int (Int32.ofInt e))) ∧ rng e ∧ ((0 ≤ e ∧ e ≤ 3000) ∧ ((y = 1 ∧ e = 2 * (if 0 < iC s 403 (x : Int).toNat - (uW U).2 (x : Int).toNat then iC s 403 (x : Int).toNat - (uW U).2 (x : Int).toNat else 0) * uM U (z : Int).toNat (x : Int).toNat) ∨ (y = 2 ∧ e = 15 * uM U (z : Int).toNat (x : Int).toNat) ∨ (y = 3 ∧ e = 60 * uM U (z : Int).toNat (x : Int).toNat)))) := by sorry
set_option maxRecDepth 4000 in
theorem k_load9 (G : GX l s0 D tys a0 dT) {U : AirD} {mo : Nat → Int} (I : Bd s) (jNW : NW s) (jNWL : NWL s) (jMDL : MDL U s) (jNWE : NWE U s) (jNMQ : NMQ mo (uN U : Int) s)  : CT l s0 D A dT 228 (rmN 228) [.ref (A 179)] s (fun o t => Bd t ∧ Fm [77, 75, 78, 79, 80, 81] [161] s t ∧ ∃ e, o = .inl (some (.int (Int32.ofInt e))) ∧ rng e ∧ (Int32.ofInt e = uL U (nmH (inS s) (uW U) mo (uN U) (iI s 89)))) := by sorry
set_option maxRecDepth 4000 in
theorem k_noneFull9 (G : GX l s0 D tys a0 dT) {U : AirD} {mo : Nat → Int} (I : Bd s) (jNW : NW s) (jNWL : NWL s) (jMDL : MDL U s) (jNWE : NWE U s) (jNMQ : NMQ mo (uN U : Int) s) (p0 : iI s 89 = 1) : CT l s0 D A dT 283 (rmN 283) [.ref (A 179)] s (fun o t => Bd t ∧ Fm [77, 75, 78, 79, 80, 81] [161, 230] s t ∧ ∃ e, o = .inl (some (.int (Int32.ofInt e))) ∧ rng e ∧ ((e = 1 ∧ fitQ U mo (pfM s) (fun j => iC s 229 j) 8) ∨ (e = 0 ∧ ¬ fitQ U mo (pfM s) (fun j => iC s 229 j) 8))) := by sorry
end M87la
