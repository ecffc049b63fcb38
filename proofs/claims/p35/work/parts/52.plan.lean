theorem oq_c20d0986  : (24 : Int).toNat < 25 := by omega
theorem oq_4af6a0a9 {a0 a1 : Int} (h0 : a0 < a1) (h1 : a1 ≤ 6) : a0 ≤ 5 := by omega
theorem oq_43d764ef {a0 : Int} (h0 : a0 < 23) : (a0 + 1) < 25 := by omega
theorem oq_01db684a {a0 : Int} (h0 : a0 < 23) : ((a0 + 1) : Int).toNat < 25 := by omega
theorem oq_21455124 {a0 : Int} (h0 : (-1) ≤ a0) : (-1) ≤ (a0 + 1) := by omega
theorem oq_15296bdf {a0 a1 : Int} (h0 : a0 ≤ (a1 + 1)) (h1 : a1 ≤ 23) : a0 ≤ 2147483647 := by omega
theorem oq_6bc8e091 {a0 : Int} (h0 : a0 ≤ 23) : (a0 + 1) < 25 := by omega
theorem oq_f0814736 {a0 : Int} (h0 : a0 ≤ 23) : ((a0 + 1) : Int).toNat < 25 := by omega
theorem oq_681cfa87 {a0 : Int} (h0 : a0 ≤ 23) : a0 < 25 := by omega
theorem oq_d2cdea76 {a0 : Int} (h0 : a0 ≤ 23) : (a0 : Int).toNat < 25 := by omega
theorem oq_e0dc2abd {a0 a1 : Int} (h0 : (-1) ≤ a0) (h1 : (-1) ≤ a1) : (-2147483648) ≤ (a0 + (100 * a1)) := by omega
theorem oq_92f1d9fb {a0 : Int} (h0 : a0 ≤ 23) : (a0 + (-1)) ≤ 23 := by omega
/-! The model: how a plan is found -/
section TBL
variable {P : Int → Int → Int} {B : Int → Int} {C m q c j : Int} {t : PS}
end TBL
section M52
variable {l : Launch} {s0 : State} {D : va_G} {tys : List (ClassId × FieldType)} {a0 : Array Value} {A : Nat → Nat} {dT : Nat → ClassId} {s : PS}
end M52
