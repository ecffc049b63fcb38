section
/-! The model: small methods -/
section M30
variable {l : Launch} {s0 : State} {D : va_G} {tys : List (ClassId × FieldType)} {a0 : Array Value} {A : Nat → Nat} {dT : Nat → ClassId} {s : PS}
theorem fm_i {L M : List Nat} {s t : PS} {k : Nat} (F : Fm L M s t) (h : k ∉ L) : iI t k = iI s k := congrArg Int32.toInt (F.1 k h)
theorem nar_ret {e : Int} (h : e = 0 ∨ e = 1) : narrow .boolean (.int (Int32.ofInt e)) = .int (Int32.ofInt e) := by rcases h with h | h <;> subst h <;> decide
end M30
end
section
theorem oq_31e518ae {a0 : Int} (h0 : a0 ≤ 1) (h1 : 0 ≤ a0) : (a0 = 0 ∨ a0 = 1) := by omega
theorem oq_fa4e5087 {a0 : Int} (h0 : 0 ≤ a0) : (-2147483648) ≤ a0 := by omega
theorem oq_22e1e6b0 {a0 : Int} (h0 : a0 ≤ 1) : a0 ≤ 2147483647 := by omega
theorem oq_eb048f71 {a0 a1 a2 a3 : Int} (h0 : a0 ≤ 1) (h1 : 0 ≤ a0) (h2 : ((a1 < a2 ∧ a0 = 0) ∨ ((a2 ≤ a1 ∧ (a3 < a1 ∧ a0 = 0)) ∨ (a2 ≤ a1 ∧ (a1 ≤ a3 ∧ a0 = 1))))) : ((a0 = 1 ∧ (a2 ≤ a1 ∧ a1 ≤ a3)) ∨ (a0 = 0 ∧ (a1 < a2 ∨ a3 < a1))) := by omega
theorem oq_08c8a296 {a0 a1 : Int} (h0 : a0 ≤ 1) (h1 : 0 ≤ a0) (h2 : ((a1 < 48 ∧ a0 = 0) ∨ ((48 ≤ a1 ∧ (57 < a1 ∧ a0 = 0)) ∨ (48 ≤ a1 ∧ (a1 ≤ 57 ∧ a0 = 1))))) : ((a0 = 1 ∧ (48 ≤ a1 ∧ a1 ≤ 57)) ∨ (a0 = 0 ∧ (a1 < 48 ∨ 57 < a1))) := by omega
theorem oq_bde653e9 {a0 : Int} (h0 : (a0 = 0 ∨ a0 = 1)) : (-2147483648) ≤ a0 := by omega
theorem oq_4ad2cb8b {a0 : Int} (h0 : (a0 = 0 ∨ a0 = 1)) : a0 ≤ 2147483647 := by omega
theorem oq_eedb2150 {a0 a1 : Int} (h0 : a0 ≤ 1) (h1 : 0 ≤ a0) (h2 : ((a1 = 0 ∧ a0 = 0) ∨ (a1 ≠ 0 ∧ a0 = 1))) (h3 : 0 ≤ a1) : ((a0 = 0 ∧ a1 = 0) ∨ (a0 = 1 ∧ a1 ≠ 0)) := by omega
theorem oq_3734ab87 {a0 a1 : Int} (h0 : a0 = 0) : (a0 = 1 → a1 = 1) := by omega
theorem oq_03aa4181 {a0 a1 : Int}  : (a0 = 0 → a1 = a1) := by omega
theorem oq_438aa68f {a0 a1 : Int} (h0 : a0 ≤ 1) (h1 : ((a1 = 0 ∧ a0 = 0) ∨ (a1 ≠ 0 ∧ a0 = 1))) (h2 : 0 ≤ a1) (h3 : a1 ≠ 0) : (a0 = 0 ∨ a0 = 1) := by omega
theorem oq_3ad403e6 {a0 a1 : Int} (h0 : a0 ≤ 1) (h1 : ((a1 = 0 ∧ a0 = 0) ∨ (a1 ≠ 0 ∧ a0 = 1))) (h2 : 0 ≤ a1) (h3 : a1 ≠ 0) : ((a0 = 0 ∧ a1 = 0) ∨ (a0 = 1 ∧ a1 ≠ 0)) := by omega
theorem oq_22e5e821 {a0 a1 a2 : Int} (h0 : a0 ≤ 1) (h1 : ((a1 = 0 ∧ a0 = 0) ∨ (a1 ≠ 0 ∧ a0 = 1))) (h2 : 0 ≤ a1) (h3 : a1 ≠ 0) : (a2 = 1 → a0 = 1) := by omega
theorem oq_0da2dd66 {a0 a1 : Int} (h0 : a0 ≠ 0) : (a0 = 0 → a1 = a1) := by omega
theorem oq_2a6e3b50 {a0 : Int} (h0 : 1 ≤ a0) : 0 ≤ a0 := by omega
theorem oq_9462313e {a0 : Int} (h0 : 1 ≤ a0) : (-2147483648) ≤ a0 := by omega
theorem oq_c5520c83 {a0 : Int} (h0 : a0 ≤ 3) : a0 ≤ 2147483647 := by omega
theorem oq_4f030bbc {a0 a1 a2 : Int} (h0 : a0 ≤ 1) (h1 : ((a1 = 0 ∧ a0 = 0) ∨ (a1 ≠ 0 ∧ a0 = 1))) (h2 : a1 = a2) (h3 : 1 ≤ a2) : (a0 = 0 ∨ a0 = 1) := by omega
theorem oq_e232e10b {a0 a1 a2 : Int} (h0 : a0 ≤ 1) (h1 : ((a1 = 0 ∧ a0 = 0) ∨ (a1 ≠ 0 ∧ a0 = 1))) (h2 : a1 = a2) (h3 : 1 ≤ a2) : ((a0 = 0 ∧ a1 = 0) ∨ (a0 = 1 ∧ a1 ≠ 0)) := by omega
theorem oq_b3466af9 {a0 a1 a2 a3 : Int} (h0 : a0 ≤ 1) (h1 : ((a1 = 0 ∧ a0 = 0) ∨ (a1 ≠ 0 ∧ a0 = 1))) (h2 : a1 = a2) (h3 : 1 ≤ a2) : (a3 = 1 → a0 = 1) := by omega
theorem oq_6f3bd9cf {a0 a1 a2 : Int} (h0 : a0 ≠ 0) : (a0 = 0 → a1 = a2) := by omega
theorem oq_f7e7bb0e {a0 : Int} (h0 : a0 ≤ 9) : a0 ≤ 2147483647 := by omega
theorem oq_97ee2c2a {a0 : Int} (h0 : (-1) ≤ a0) : (-2147483648) ≤ a0 := by omega
theorem oq_5a8480eb {a0 : Int} (h0 : a0 ≤ 400) : a0 ≤ 2147483647 := by omega
theorem oq_ed8779e6 {a0 a1 a2 : Int} (h0 : a0 = a1) (h1 : a1 = a2) (h2 : 1 ≤ a2) : a0 ≠ 0 := by omega
theorem oq_e9a2ed3a {a0 a1 a2 a3 a4 a5 : Int} (h0 : ((a0 < a1 ∧ ((0 ≤ a2 ∧ a2 ≤ 1) ∧ (a2 ≠ 0 ∧ ((0 ≤ a3 ∧ a3 ≤ 255) ∧ a4 = a3)))) ∨ ((a0 < a1 ∧ ((0 ≤ a2 ∧ a2 ≤ 1) ∧ (a2 = 0 ∧ ((0 ≤ a5 ∧ a5 ≤ 255) ∧ a4 = a5)))) ∨ (a1 ≤ a0 ∧ a4 = (-1))))) : (-2147483648) ≤ a4 := by omega
theorem oq_bae66a67 {a0 a1 a2 a3 a4 a5 : Int} (h0 : ((a0 < a1 ∧ ((0 ≤ a2 ∧ a2 ≤ 1) ∧ (a2 ≠ 0 ∧ ((0 ≤ a3 ∧ a3 ≤ 255) ∧ a4 = a3)))) ∨ ((a0 < a1 ∧ ((0 ≤ a2 ∧ a2 ≤ 1) ∧ (a2 = 0 ∧ ((0 ≤ a5 ∧ a5 ≤ 255) ∧ a4 = a5)))) ∨ (a1 ≤ a0 ∧ a4 = (-1))))) : a4 ≤ 2147483647 := by omega
theorem oq_736808e1 {a0 a1 a2 a3 a4 a5 : Int} (h0 : ((a0 < a1 ∧ ((0 ≤ a2 ∧ a2 ≤ 1) ∧ (a2 ≠ 0 ∧ ((0 ≤ a3 ∧ a3 ≤ 255) ∧ a4 = a3)))) ∨ ((a0 < a1 ∧ ((0 ≤ a2 ∧ a2 ≤ 1) ∧ (a2 = 0 ∧ ((0 ≤ a5 ∧ a5 ≤ 255) ∧ a4 = a5)))) ∨ (a1 ≤ a0 ∧ a4 = (-1))))) : ((a1 ≤ a0 ∧ a4 = (-1)) ∨ (a0 < a1 ∧ (0 ≤ a4 ∧ a4 ≤ 255))) := by omega
theorem oq_6fca3d72 {a0 a1 : Int} (h0 : a0 < a1) (h1 : a1 ≤ 200) : a0 < 200 := by omega
theorem oq_b70289d5 {a0 a1 : Int} (h0 : a0 < a1) (h1 : a1 ≤ 200) : (a0 : Int).toNat < 200 := by omega
theorem oq_52af2b96 {a0 : Int} (h0 : a0 ≤ 200) : a0 ≤ 2147483647 := by omega
theorem oq_d5af8cc9 {a0 a1 a2 a3 a4 a5 : Int} (h0 : a0 = a1) (h1 : a2 = a3) (h2 : a1 = a4) (h3 : a5 = a2) (h4 : a4 = a5) : a0 = a3 := by omega
theorem oq_264718cb {a0 a1 a2 a3 : Int} (h0 : a0 = a1) (h1 : a1 = a2) (h2 : a2 = a3) (h3 : a3 = 0) : a0 = 0 := by omega
theorem oq_cd9cbf39 {a0 a1 a2 : Int} (h0 : a0 = a1) (h1 : a1 = a2) (h2 : a2 = 0) : a0 = 0 := by omega
theorem oq_e5e5d3d6 {a0 a1 : Int} (h0 : a0 = a1) (h1 : a1 = 0) : a0 = 0 := by omega
theorem oq_0d446a69 {a0 a1 a2 a3 : Int} (h0 : a0 = 0) (h1 : (a1 = 1 → a0 = 1)) (h2 : a1 ≤ 1) (h3 : ((a2 ≠ 0 ∧ a1 = 0) ∨ (a2 = 0 ∧ a1 = 1))) (h4 : ((a2 = 1 ∧ (0 ≤ a3 ∧ a3 ≤ 100000)) ∨ (a2 = 0 ∧ (a3 < 0 ∨ 100000 < a3)))) : 0 ≤ a3 := by omega
theorem oq_b2047f00 {a0 a1 a2 a3 : Int} (h0 : a0 = 0) (h1 : (a1 = 1 → a0 = 1)) (h2 : a1 ≤ 1) (h3 : ((a2 ≠ 0 ∧ a1 = 0) ∨ (a2 = 0 ∧ a1 = 1))) (h4 : ((a2 = 1 ∧ (0 ≤ a3 ∧ a3 ≤ 100000)) ∨ (a2 = 0 ∧ (a3 < 0 ∨ 100000 < a3)))) : a3 ≤ 100000 := by omega
theorem oq_63ad3ecb {a0 a1 a2 a3 : Int} (h0 : a0 = 0) (h1 : (a1 = 1 → a0 = 1)) (h2 : a1 ≤ 1) (h3 : ((a2 ≠ 0 ∧ a1 = 0) ∨ (a2 = 0 ∧ a1 = 1))) (h4 : ((a2 = 1 ∧ (0 ≤ a3 ∧ a3 ≤ 9)) ∨ (a2 = 0 ∧ (a3 < 0 ∨ 9 < a3)))) : 0 ≤ a3 := by omega
theorem oq_98d377b2 {a0 a1 a2 a3 : Int} (h0 : a0 = 0) (h1 : (a1 = 1 → a0 = 1)) (h2 : a1 ≤ 1) (h3 : ((a2 ≠ 0 ∧ a1 = 0) ∨ (a2 = 0 ∧ a1 = 1))) (h4 : ((a2 = 1 ∧ (0 ≤ a3 ∧ a3 ≤ 9)) ∨ (a2 = 0 ∧ (a3 < 0 ∨ 9 < a3)))) : a3 ≤ 9 := by omega
theorem oq_d2f74293 {a0 a1 a2 a3 : Int} (h0 : a0 = 0) (h1 : (a1 = 1 → a0 = 1)) (h2 : a1 ≤ 1) (h3 : ((a2 ≠ 0 ∧ a1 = 0) ∨ (a2 = 0 ∧ a1 = 1))) (h4 : ((a2 = 1 ∧ (0 ≤ a3 ∧ a3 ≤ 127)) ∨ (a2 = 0 ∧ (a3 < 0 ∨ 127 < a3)))) : 0 ≤ a3 := by omega
theorem oq_bb641c4c {a0 a1 a2 a3 : Int} (h0 : a0 = 0) (h1 : (a1 = 1 → a0 = 1)) (h2 : a1 ≤ 1) (h3 : ((a2 ≠ 0 ∧ a1 = 0) ∨ (a2 = 0 ∧ a1 = 1))) (h4 : ((a2 = 1 ∧ (0 ≤ a3 ∧ a3 ≤ 127)) ∨ (a2 = 0 ∧ (a3 < 0 ∨ 127 < a3)))) : a3 < 128 := by omega
theorem oq_48be0e30 {a0 a1 a2 a3 : Int} (h0 : a0 = 0) (h1 : (a1 = 1 → a0 = 1)) (h2 : a1 ≤ 1) (h3 : ((a2 ≠ 0 ∧ a1 = 0) ∨ (a2 = 0 ∧ a1 = 1))) (h4 : ((a2 = 1 ∧ (0 ≤ a3 ∧ a3 ≤ 127)) ∨ (a2 = 0 ∧ (a3 < 0 ∨ 127 < a3)))) : (a3 : Int).toNat < 128 := by omega
theorem oq_65cab3da {a0 a1 : Int} (h0 : a0 = 0) (h1 : (1 = 1 → a0 = 1)) : 0 ≤ a1 := by omega
theorem oq_28d92795 {a0 a1 : Int} (h0 : a0 ≠ 0) (h1 : ((a0 = 1 ∧ (0 ≤ a1 ∧ a1 ≤ 7)) ∨ (a0 = 0 ∧ (a1 < 0 ∨ 7 < a1)))) : 0 ≤ a1 := by omega
theorem oq_246a8e49 {a0 a1 : Int} (h0 : a0 ≠ 0) (h1 : ((a0 = 1 ∧ (0 ≤ a1 ∧ a1 ≤ 7)) ∨ (a0 = 0 ∧ (a1 < 0 ∨ 7 < a1)))) : a1 < 8 := by omega
theorem oq_9a20133a {a0 a1 : Int} (h0 : a0 ≠ 0) (h1 : ((a0 = 1 ∧ (0 ≤ a1 ∧ a1 ≤ 7)) ∨ (a0 = 0 ∧ (a1 < 0 ∨ 7 < a1)))) : (a1 : Int).toNat < 8 := by omega
theorem oq_859d1a00 {a0 a1 a2 a3 : Int} (h0 : a0 = 0) (h1 : (a1 = 1 → a0 = 1)) (h2 : a1 ≤ 1) (h3 : ((a2 ≠ 0 ∧ a1 = 0) ∨ (a2 = 0 ∧ a1 = 1))) (h4 : ((a2 = 1 ∧ (0 ≤ a3 ∧ a3 ≤ 7)) ∨ (a2 = 0 ∧ (a3 < 0 ∨ 7 < a3)))) : 0 ≤ a3 := by omega
theorem oq_dcc08218 {a0 a1 a2 a3 : Int} (h0 : a0 = 0) (h1 : (a1 = 1 → a0 = 1)) (h2 : a1 ≤ 1) (h3 : ((a2 ≠ 0 ∧ a1 = 0) ∨ (a2 = 0 ∧ a1 = 1))) (h4 : ((a2 = 1 ∧ (0 ≤ a3 ∧ a3 ≤ 7)) ∨ (a2 = 0 ∧ (a3 < 0 ∨ 7 < a3)))) : a3 < 8 := by omega
theorem oq_6129a798 {a0 a1 a2 a3 : Int} (h0 : a0 = 0) (h1 : (a1 = 1 → a0 = 1)) (h2 : a1 ≤ 1) (h3 : ((a2 ≠ 0 ∧ a1 = 0) ∨ (a2 = 0 ∧ a1 = 1))) (h4 : ((a2 = 1 ∧ (0 ≤ a3 ∧ a3 ≤ 7)) ∨ (a2 = 0 ∧ (a3 < 0 ∨ 7 < a3)))) : (a3 : Int).toNat < 8 := by omega
theorem oq_b7ca64e0 {a0 a1 a2 a3 : Int} (h0 : a0 = 0) (h1 : (a1 = 1 → a0 = 1)) (h2 : a1 ≤ 1) (h3 : ((a2 ≠ 0 ∧ a1 = 0) ∨ (a2 = 0 ∧ a1 = 1))) (h4 : ((a2 = 1 ∧ (0 ≤ a3 ∧ a3 ≤ 24)) ∨ (a2 = 0 ∧ (a3 < 0 ∨ 24 < a3)))) : 0 ≤ a3 := by omega
theorem oq_240b5d14 {a0 a1 a2 a3 : Int} (h0 : a0 = 0) (h1 : (a1 = 1 → a0 = 1)) (h2 : a1 ≤ 1) (h3 : ((a2 ≠ 0 ∧ a1 = 0) ∨ (a2 = 0 ∧ a1 = 1))) (h4 : ((a2 = 1 ∧ (0 ≤ a3 ∧ a3 ≤ 24)) ∨ (a2 = 0 ∧ (a3 < 0 ∨ 24 < a3)))) : a3 ≤ 24 := by omega
theorem oq_c74211cc {a0 a1 : Int} (h0 : a0 = 0) (h1 : (1 = 1 → a0 = 1)) : 1 ≤ a1 := by omega
theorem oq_3ff45f06 {a0 a1 : Int} (h0 : a0 = 0) (h1 : (1 = 1 → a0 = 1)) : a1 ≤ 8 := by omega
theorem oq_62abe554 {a0 a1 a2 a3 : Int} (h0 : ((a0 ≠ 0 ∧ ((1 ≤ a1 ∧ a1 ≤ 8) ∧ a2 = a1)) ∨ (a0 = 0 ∧ ((1 ≤ a3 ∧ a3 ≤ 24) ∧ a2 = a3)))) : (-2147483648) ≤ a2 := by omega
theorem oq_c46c61bd {a0 a1 a2 a3 : Int} (h0 : ((a0 ≠ 0 ∧ ((1 ≤ a1 ∧ a1 ≤ 8) ∧ a2 = a1)) ∨ (a0 = 0 ∧ ((1 ≤ a3 ∧ a3 ≤ 24) ∧ a2 = a3)))) : a2 ≤ 2147483647 := by omega
theorem oq_7a39abe9 {a0 a1 a2 : Int} (h0 : a0 = 0) (h1 : a1 = 0) (h2 : ((a1 = 1 ∧ (0 ≤ a0 ∧ a0 ≤ 1)) ∨ (a1 = 0 ∧ (a0 < 0 ∨ 1 < a0)))) : 1 ≤ a2 := by omega
theorem oq_fc8cbade {a0 a1 a2 : Int} (h0 : a0 = 0) (h1 : a1 = 0) (h2 : ((a1 = 1 ∧ (0 ≤ a0 ∧ a0 ≤ 1)) ∨ (a1 = 0 ∧ (a0 < 0 ∨ 1 < a0)))) : a2 ≤ 24 := by omega
theorem oq_ebc40354 {a0 : Int} (h0 : 8 ≤ a0) : (-2147483648) ≤ a0 := by omega
theorem oq_5bcd337f {a0 : Int} (h0 : a0 ≤ 24) : a0 ≤ 2147483647 := by omega
theorem oq_e8d47ac5 {a0 a1 a2 a3 a4 : Int} (h0 : a0 = 0) (h1 : (a1 = 1 → a0 = 1)) (h2 : a1 ≤ 1) (h3 : ((a2 ≠ 0 ∧ a1 = 0) ∨ (a2 = 0 ∧ a1 = 1))) (h4 : ((a2 = 1 ∧ (1 ≤ a3 ∧ a3 ≤ a4)) ∨ (a2 = 0 ∧ (a3 < 1 ∨ a4 < a3)))) : 1 ≤ a3 := by omega
theorem oq_71db95f9 {a0 a1 a2 a3 a4 : Int} (h0 : a0 = 0) (h1 : (a1 = 1 → a0 = 1)) (h2 : a1 ≤ 1) (h3 : ((a2 ≠ 0 ∧ a1 = 0) ∨ (a2 = 0 ∧ a1 = 1))) (h4 : ((a2 = 1 ∧ (1 ≤ a3 ∧ a3 ≤ a4)) ∨ (a2 = 0 ∧ (a3 < 1 ∨ a4 < a3)))) (h5 : a4 ≤ 24) : a3 ≤ 24 := by omega
theorem oq_e4aca38c {a0 : Int} (h0 : (a0 = 0 ∨ a0 = 1)) : 0 ≤ a0 := by omega
theorem oq_14617724 {a0 : Int} (h0 : (a0 = 0 ∨ a0 = 1)) : a0 ≤ 1 := by omega
theorem oq_fac8de0c {a0 : Int} (h0 : a0 ≤ 6) (h1 : a0 ≠ 6) : a0 < 6 := by omega
theorem oq_c2c3ef0b {a0 : Int} (h0 : a0 < 0) : a0 ≤ 16777215 := by omega
theorem oq_54f49eb5 {a0 : Int} (h0 : 0 ≤ a0) : 0 ≤ (a0 + 1) := by omega
theorem oq_6c19c907 {a0 a1 : Int} (h0 : a0 = a1) (h1 : a1 ≤ 6) (h2 : a1 ≠ 6) : (a0 + 1) ≤ 6 := by omega
theorem oq_74de1e16 {a0 : Int} (h0 : 0 ≤ a0) : (-2147483648) ≤ (a0 + 1) := by omega
theorem oq_5fe14c36 {a0 : Int} (h0 : a0 ≤ 6) : (a0 + 1) ≤ 2147483647 := by omega
theorem oq_c1e961c7 {a0 : Int} (h0 : 0 ≤ a0) : (-2147483648) ≤ (a0 - 1) := by omega
theorem oq_b383b26c {a0 : Int} (h0 : a0 ≤ 6) : (a0 - 1) ≤ 2147483647 := by omega
theorem oq_a8b2581c {a0 a1 a2 : Int} (h0 : a0 = 0) (h1 : (a1 = 1 → a0 = 1)) (h2 : a1 ≤ 1) (h3 : ((a2 < 16777216 ∧ a1 = 0) ∨ (16777216 ≤ a2 ∧ a1 = 1))) : a2 ≤ 16777215 := by omega
/-! The model: methods without loops -/
theorem fm_ts {L M L' M' : List Nat} {s t u : PS} (h : Fm L M s t) (g : Fm L' M' t u) (h1 : ∀ k ∈ L', k ∈ L) (h2 : ∀ k ∈ M', k ∈ M) : Fm L M s u :=
  ⟨fun k hk => (g.1 k (fun q => hk (h1 k q))).trans (h.1 k hk), fun a ha => (g.2.1 a (fun q => ha (h2 a q))).trans (h.2.1 a ha), g.2.2.1.trans h.2.2.1, fl_ts h.2.2.2 g.2.2.2 h1 h2⟩
section M31
variable {l : Launch} {s0 : State} {D : va_G} {tys : List (ClassId × FieldType)} {a0 : Array Value} {A : Nat → Nat} {dT : Nat → ClassId} {s : PS}
theorem k_in (G : GX l s0 D tys a0 dT) (I : Bd s) {x y z : Int} (p0 : rng x) (p1 : rng y) (p2 : rng z) : CT l s0 D A dT 188 (rmN 188) [.int (Int32.ofInt x), .int (Int32.ofInt y), .int (Int32.ofInt z)] s (fun o t => Bd t ∧ Fm [] [] s t ∧ ∃ e, o = .inl (some (.int (Int32.ofInt e))) ∧ rng e ∧ ((e = 1 ∧ y ≤ x ∧ x ≤ z) ∨ (e = 0 ∧ (x < y ∨ z < x)))) := by
  refine ct_of G (by decide) (Nat.le_of_ble_eq_true rfl) (fun k X E hRt hXt q => ?_)
  show WS k 0 [(0, .int (Int32.ofInt x)), (1, .int (Int32.ofInt y)), (2, .int (Int32.ofInt z))] [] _ 0 0
  have F : Fm [] [] s s := fm_rf _ _ s
  refine z_load_n X (x := x) rfl (List.Mem.head _) (z_load_n X (x := y) rfl (List.Mem.tail _ (List.Mem.head _)) ?_)
  have N1 : ∀ e2 : Int, (((x < y) ∧ e2 = 0) ∨ ((y ≤ x) ∧ (z < x) ∧ e2 = 0) ∨ ((y ≤ x) ∧ (x ≤ z) ∧ e2 = 1)) → WS k 15 [(0, .int (Int32.ofInt x)), (1, .int (Int32.ofInt y)), (2, .int (Int32.ofInt z))] [.int (Int32.ofInt e2)] (Wd A dT s) 0 0 := by
    intro e2 he2
    have re2 : 0 ≤ e2 ∧ e2 ≤ 1 := by first | (clear he2; omega) | omega
    exact w_iret X.1 q hRt (nar_ret (by first | exact oq_31e518ae re2.2 re2.1 | omega)) (ax_d X (show cdA 188 15 = some (.ireturn, 1, 0, 0, 0) from rfl)) (Nat.zero_le _) (Nat.zero_le _) ⟨_, rfl, I, F, e2, rfl, ⟨by first | exact oq_fa4e5087 re2.1 | omega, by first | exact oq_22e1e6b0 re2.2 | omega⟩, by first | exact oq_eb048f71 re2.2 re2.1 he2 | omega⟩
  refine z_icmp_lt X (t := 14) rfl rfl ⟨by first | exact p0.1 | omega, by first | exact p0.2 | omega⟩ ⟨by first | exact p1.1 | omega, by first | exact p1.2 | omega⟩ (fun g3 => ?_) (fun g3 => ?_)
  ·
    exact z_const X rfl (N1 _ (Or.inl ⟨g3, rfl⟩))
  ·
    refine z_load_n X (x := x) rfl (List.Mem.head _) (z_load_n X (x := z) rfl (List.Mem.tail _ (List.Mem.tail _ (List.Mem.head _))) (z_icmp_gt X (t := 14) rfl rfl ⟨by first | exact p0.1 | omega, by first | exact p0.2 | omega⟩ ⟨by first | exact p2.1 | omega, by first | exact p2.2 | omega⟩ (fun g4 => ?_) (fun g4 => ?_)))
    ·
      exact z_const X rfl (N1 _ (Or.inr (Or.inl ⟨g3, g4, rfl⟩)))
    ·
      exact z_const X rfl (z_goto X (t := 15) rfl rfl (N1 _ (Or.inr (Or.inr (⟨g3, g4, rfl⟩)))))
theorem k_bad (G : GX l s0 D tys a0 dT) (I : Bd s) {x y : Int} (p0 : x = 0 ∨ x = 1) (p1 : 1 ≤ y ∧ y ≤ 3) : CT l s0 D A dT 187 (rmN 187) [.ref (A 179), .int (Int32.ofInt x), .int (Int32.ofInt y)] s (fun o t => Bd t ∧ Fm [73] [] s t ∧ ∃ e, o = .inl (some (.int (Int32.ofInt e))) ∧ rng e ∧ (((e = 0 ∧ iI t 73 = 0) ∨ (e = 1 ∧ iI t 73 ≠ 0)) ∧ (x = 1 → e = 1) ∧ (x = 0 → iI t 73 = iI s 73))) := by
  refine ct_of G (by decide) (Nat.le_of_ble_eq_true rfl) (fun k X E hRt hXt q => ?_)
  show WS k 0 [(0, .ref (A 179)), (1, .int (Int32.ofInt x)), (2, .int (Int32.ofInt y))] [] _ 0 0
  have F : Fm [73] [] s s := fm_rf _ _ s
  have b1 := bi_73 I
  refine z_load_n X (x := x) rfl (List.Mem.tail _ (List.Mem.head _)) (z_if_eq X (t := 16) rfl rfl ⟨by first | exact oq_bde653e9 p0 | omega, by first | exact oq_4ad2cb8b p0 | omega⟩ (fun g2 => ?_) (fun g2 => ?_))
  ·
    refine z_aload_n X (x := A 179) rfl (List.Mem.head _) (z_getI X 179 rfl (c518_ok rfl) rfl rfl ?_)
    have b3 := bi_73 I
    have N4 : ∀ e5 : Int, ((((iI s 73) = 0) ∧ e5 = 0) ∨ (((iI s 73) ≠ 0) ∧ e5 = 1)) → WS k 28 [(0, .ref (A 179)), (1, .int (Int32.ofInt x)), (2, .int (Int32.ofInt y))] [.int (Int32.ofInt e5)] (Wd A dT s) 0 0 := by
      intro e5 he5
      have re5 : 0 ≤ e5 ∧ e5 ≤ 1 := by first | (clear he5 p0; omega) | (clear p0; omega) | omega
      exact w_iret X.1 q hRt (nar_ret (by first | exact oq_31e518ae re5.2 re5.1 | omega)) (ax_d X (show cdA 187 28 = some (.ireturn, 1, 0, 0, 0) from rfl)) (Nat.zero_le _) (Nat.zero_le _) ⟨_, rfl, I, F, e5, rfl, ⟨by first | exact oq_fa4e5087 re5.1 | omega, by first | exact oq_22e1e6b0 re5.2 | omega⟩, by first | exact ⟨oq_eedb2150 re5.2 re5.1 he5 b3.1, oq_3734ab87 g2, oq_03aa4181⟩ | omega⟩
    refine z_if_eq X (t := 27) rfl rfl (rng_to _) (fun g6 => ?_) (fun g6 => ?_)
    ·
      exact z_const X rfl (N4 _ (Or.inl ⟨g6, rfl⟩))
    ·
      exact z_const X rfl (z_goto X (t := 28) rfl rfl (N4 _ (Or.inr (⟨g6, rfl⟩))))
  ·
    refine z_aload_n X (x := A 179) rfl (List.Mem.head _) (z_getI X 179 rfl (c518_ok rfl) rfl rfl ?_)
    have b7 := bi_73 I
    refine z_if_ne X (t := 16) rfl rfl (rng_to _) (fun g8 => ?_) (fun g8 => ?_)
    ·
      refine z_aload_n X (x := A 179) rfl (List.Mem.head _) (z_getI X 179 rfl (c518_ok rfl) rfl rfl ?_)
      have b9 := bi_73 I
      have N10 : ∀ e11 : Int, ((((iI s 73) = 0) ∧ e11 = 0) ∨ (((iI s 73) ≠ 0) ∧ e11 = 1)) → WS k 28 [(0, .ref (A 179)), (1, .int (Int32.ofInt x)), (2, .int (Int32.ofInt y))] [.int (Int32.ofInt e11)] (Wd A dT s) 0 0 := by
        intro e11 he11
        have re11 : 0 ≤ e11 ∧ e11 ≤ 1 := by first | (clear he11 g8 g2 p0; omega) | (clear g8 g2 p0; omega) | omega
        exact w_iret X.1 q hRt (nar_ret (by first | exact oq_438aa68f re11.2 he11 b9.1 g8 | omega)) (ax_d X (show cdA 187 28 = some (.ireturn, 1, 0, 0, 0) from rfl)) (Nat.zero_le _) (Nat.zero_le _) ⟨_, rfl, I, F, e11, rfl, ⟨by first | exact oq_fa4e5087 re11.1 | omega, by first | exact oq_22e1e6b0 re11.2 | omega⟩, by first | exact ⟨oq_3ad403e6 re11.2 he11 b9.1 g8, oq_22e5e821 re11.2 he11 b9.1 g8, oq_0da2dd66 g2⟩ | omega⟩
      refine z_if_eq X (t := 27) rfl rfl (rng_to _) (fun g12 => ?_) (fun g12 => ?_)
      ·
        exact z_const X rfl (N10 _ (Or.inl ⟨g12, rfl⟩))
      ·
        exact z_const X rfl (z_goto X (t := 28) rfl rfl (N10 _ (Or.inr (⟨g12, rfl⟩))))
    ·
      refine z_aload_n X (x := A 179) rfl (List.Mem.head _) (z_load_n X (x := y) rfl (List.Mem.tail _ (List.Mem.tail _ (List.Mem.head _))) (s_putI X 179 rfl (c518_ok rfl) rfl rfl (by decide) rfl rfl rfl (wd_gen (fun s13 hs13 => ?_))))
      have Is13 : Bd s13 := eqB hs13 (bd_I I (show (0 : Int) ≤ y ∧ y ≤ 3 by first | exact ⟨oq_2a6e3b50 p1.1, p1.2⟩ | omega) ⟨by first | exact oq_9462313e p1.1 | omega, by first | exact oq_c5520c83 p1.2 | omega⟩)
      have Fs13 := eqF hs13 (fm_I F (inl_ok (a := 73) rfl))
      have vs13 : iI s13 73 = y := eqI hs13 (iI_u ⟨by first | exact oq_9462313e p1.1 | omega, by first | exact oq_c5520c83 p1.2 | omega⟩)
      refine z_aload_n X (x := A 179) rfl (List.Mem.head _) (z_getI X 179 rfl (c518_ok rfl) rfl rfl ?_)
      have b14 := bi_73 Is13
      have N15 : ∀ e16 : Int, ((((iI s13 73) = 0) ∧ e16 = 0) ∨ (((iI s13 73) ≠ 0) ∧ e16 = 1)) → WS k 28 [(0, .ref (A 179)), (1, .int (Int32.ofInt x)), (2, .int (Int32.ofInt y))] [.int (Int32.ofInt e16)] (Wd A dT s13) 0 0 := by
        intro e16 he16
        have re16 : 0 ≤ e16 ∧ e16 ≤ 1 := by first | (clear he16 g2 p0; omega) | (clear g2 p0; omega) | omega
        exact w_iret X.1 q hRt (nar_ret (by first | exact oq_4f030bbc re16.2 he16 vs13 p1.1 | omega)) (ax_d X (show cdA 187 28 = some (.ireturn, 1, 0, 0, 0) from rfl)) (Nat.zero_le _) (Nat.zero_le _) ⟨_, rfl, Is13, Fs13, e16, rfl, ⟨by first | exact oq_fa4e5087 re16.1 | omega, by first | exact oq_22e1e6b0 re16.2 | omega⟩, by first | exact ⟨oq_e232e10b re16.2 he16 vs13 p1.1, oq_b3466af9 re16.2 he16 vs13 p1.1, oq_6f3bd9cf g2⟩ | omega⟩
      refine z_if_eq X (t := 27) rfl rfl (rng_to _) (fun g17 => ?_) (fun g17 => ?_)
      ·
        exact z_const X rfl (N15 _ (Or.inl ⟨g17, rfl⟩))
      ·
        exact z_const X rfl (z_goto X (t := 28) rfl rfl (N15 _ (Or.inr (⟨g17, rfl⟩))))
theorem k_fault (G : GX l s0 D tys a0 dT) (I : Bd s)  : CT l s0 D A dT 215 (rmN 215) [.ref (A 179)] s (fun o t => Bd t ∧ Fm [73] [] s t ∧ ∃ e, o = .inl (some (.int (Int32.ofInt e))) ∧ rng e ∧ (True)) := by
  refine ct_of G (by decide) (Nat.le_of_ble_eq_true rfl) (fun k X E hRt hXt q => ?_)
  show WS k 0 [(0, .ref (A 179))] [] _ 0 0
  have F : Fm [73] [] s s := fm_rf _ _ s
  refine z_aload_n X (x := A 179) rfl (List.Mem.head _) (z_const X rfl (s_putI X 179 rfl (c518_ok rfl) rfl rfl (by decide) rfl rfl rfl (wd_gen (fun s1 hs1 => ?_))))
  have Is1 : Bd s1 := eqB hs1 (bd_I I (show (0 : Int) ≤ 0 ∧ 0 ≤ 3 by first | exact ⟨by decide, by decide⟩ | omega) (by decide))
  have Fs1 := eqF hs1 (fm_I F (inl_ok (a := 73) rfl))
  have vs1 : iI s1 73 = 0 := eqI hs1 (iI_u (by decide))
  refine z_aload_n X (x := A 179) rfl (List.Mem.head _) (z_getI X 179 rfl (c518_ok rfl) rfl rfl ?_)
  have b2 := bi_76 Is1
  exact w_iret X.1 q hRt rfl (ax_d X (show cdA 215 9 = some (.ireturn, 1, 0, 0, 0) from rfl)) (Nat.zero_le _) (Nat.zero_le _) ⟨_, rfl, Is1, Fs1, (iI s1 76), rfl, (rng_to _), trivial⟩
theorem k_busy (G : GX l s0 D tys a0 dT) (I : Bd s) {x : Int} (p0 : rng x) : CT l s0 D A dT 268 (rmN 268) [.ref (A 179), .int (Int32.ofInt x)] s (fun o t => Bd t ∧ Fm [73, 96] [] s t ∧ ∃ e, o = .inl (some (.int (Int32.ofInt e))) ∧ rng e ∧ (True)) := by
  refine ct_of G (by decide) (Nat.le_of_ble_eq_true rfl) (fun k X E hRt hXt q => ?_)
  show WS k 0 [(0, .ref (A 179)), (1, .int (Int32.ofInt x))] [] _ 0 0
  have F : Fm [73, 96] [] s s := fm_rf _ _ s
  have b1 := bi_73 I
  refine z_aload_n X (x := A 179) rfl (List.Mem.head _) (z_const X rfl (s_putI X 179 rfl (c518_ok rfl) rfl rfl (by decide) rfl rfl rfl (wd_gen (fun s2 hs2 => ?_))))
  have Is2 : Bd s2 := eqB hs2 (bd_I I (show (0 : Int) ≤ 0 ∧ 0 ≤ 3 by first | exact ⟨by decide, by decide⟩ | omega) (by decide))
  have Fs2 := eqF hs2 (fm_I F (inl_ok (a := 73) rfl))
  have vs2 : iI s2 73 = 0 := eqI hs2 (iI_u (by decide))
  refine z_aload_n X (x := A 179) rfl (List.Mem.head _) (z_load_n X (x := x) rfl (List.Mem.tail _ (List.Mem.head _)) (z_const X rfl (z_ldc X rfl (zcS_i0 X E (As := [.int (Int32.ofInt x), .int (Int32.ofInt 0), .int (Int32.ofInt 100000)]) (st := [.ref (A 179)]) rfl rfl (k_in G Is2 (by first | exact ⟨p0.1, p0.2⟩ | omega) (by first | exact ⟨by decide, by decide⟩ | omega) (by first | exact ⟨by decide, by decide⟩ | omega)) rfl (Nat.le_of_ble_eq_true rfl) (fun s3 e4 Is3 Fs3 hrs3 hps3 => ?_)))))
  have Gs3 := fm_tq Fs2 Fs3 rfl rfl
  have ws3_73 : iI s3 73 = iI s2 73 := fm_iq Fs3 rfl
  have N5 : ∀ e6 : Int, (((e4 ≠ 0) ∧ e6 = 0) ∨ ((e4 = 0) ∧ e6 = 1)) → WS k 21 [(0, .ref (A 179)), (1, .int (Int32.ofInt x))] [.int (Int32.ofInt e6), .ref (A 179)] (Wd A dT s3) 0 0 := by
    intro e6 he6
    have re6 : 0 ≤ e6 ∧ e6 ≤ 1 := by first | (clear he6 hps3; omega) | (clear hps3; omega) | omega
    refine z_const X rfl (zcV_i0 X E 179 (As := [.int (Int32.ofInt e6), .int (Int32.ofInt 1)]) (st := []) rfl rfl rfl rfl (k_bad G Is3 (by first | exact oq_31e518ae re6.2 re6.1 | omega) (by first | exact ⟨by decide, by decide⟩ | omega)) rfl (Nat.le_of_ble_eq_true rfl) (fun s7 e8 Is7 Fs7 hrs7 hps7 => ?_))
    have Gs7 := fm_tq Gs3 Fs7 rfl rfl
    have b9 := bi_73 Is7
    refine z_if_eq X (t := 30) rfl rfl hrs7 (fun g10 => ?_) (fun g10 => ?_)
    ·
      refine z_aload_n X (x := A 179) rfl (List.Mem.head _) (z_getI X 179 rfl (c518_ok rfl) rfl rfl ?_)
      have b11 := bi_96 Is7
      refine z_store_n X (lv' := [(2, .int (Int32.ofInt (iI s7 96))), (0, .ref (A 179)), (1, .int (Int32.ofInt x))]) rfl (by decide) (fun _ h => h) (z_aload_n X (x := A 179) rfl (List.Mem.tail _ (List.Mem.head _)) (z_load_n X (x := x) rfl (List.Mem.tail _ (List.Mem.tail _ (List.Mem.head _))) (s_putI X 179 rfl (c518_ok rfl) rfl rfl (by decide) rfl rfl rfl (wd_gen (fun s12 hs12 => ?_)))))
      have Is12 : Bd s12 := eqB hs12 (bd_I Is7 (show (0 : Int) ≤ x ∧ x ≤ 100000 by first | exact ⟨oq_0d446a69 g10 hps7.2.1 re6.2 he6 hps3, oq_b2047f00 g10 hps7.2.1 re6.2 he6 hps3⟩ | omega) ⟨by first | exact p0.1 | omega, by first | exact p0.2 | omega⟩)
      have Fs12 := eqF hs12 (fm_I Gs7 (inl_ok (a := 96) rfl))
      have vs12 : iI s12 96 = x := eqI hs12 (iI_u ⟨by first | exact p0.1 | omega, by first | exact p0.2 | omega⟩)
      have ws12_73 : iI s12 73 = iI s7 73 := eqI hs12 rfl
      exact z_load_n X (x := (iI s7 96)) rfl (List.Mem.head _) (w_iret X.1 q hRt rfl (ax_d X (show cdA 268 41 = some (.ireturn, 1, 0, 0, 0) from rfl)) (Nat.zero_le _) (Nat.zero_le _) ⟨_, rfl, Is12, Fs12, (iI s7 96), rfl, (rng_to _), trivial⟩)
    ·
      refine z_const X rfl ?_
      exact w_iret X.1 q hRt rfl (ax_d X (show cdA 268 29 = some (.ireturn, 1, 0, 0, 0) from rfl)) (Nat.zero_le _) (Nat.zero_le _) ⟨_, rfl, Is7, Gs7, 0, rfl, (by decide), trivial⟩
  refine z_if_ne X (t := 20) rfl rfl hrs3 (fun g13 => ?_) (fun g13 => ?_)
  ·
    exact z_const X rfl (N5 _ (Or.inl ⟨g13, rfl⟩))
  ·
    exact z_const X rfl (z_goto X (t := 21) rfl rfl (N5 _ (Or.inr (⟨g13, rfl⟩))))
theorem k_length (G : GX l s0 D tys a0 dT) (I : Bd s) {x : Int} (p0 : rng x) : CT l s0 D A dT 244 (rmN 244) [.ref (A 179), .int (Int32.ofInt x)] s (fun o t => Bd t ∧ Fm [73, 95] [] s t ∧ ∃ e, o = .inl (some (.int (Int32.ofInt e))) ∧ rng e ∧ (True)) := by
  refine ct_of G (by decide) (Nat.le_of_ble_eq_true rfl) (fun k X E hRt hXt q => ?_)
  show WS k 0 [(0, .ref (A 179)), (1, .int (Int32.ofInt x))] [] _ 0 0
  have F : Fm [73, 95] [] s s := fm_rf _ _ s
  have b1 := bi_73 I
  refine z_aload_n X (x := A 179) rfl (List.Mem.head _) (z_const X rfl (s_putI X 179 rfl (c518_ok rfl) rfl rfl (by decide) rfl rfl rfl (wd_gen (fun s2 hs2 => ?_))))
  have Is2 : Bd s2 := eqB hs2 (bd_I I (show (0 : Int) ≤ 0 ∧ 0 ≤ 3 by first | exact ⟨by decide, by decide⟩ | omega) (by decide))
  have Fs2 := eqF hs2 (fm_I F (inl_ok (a := 73) rfl))
  have vs2 : iI s2 73 = 0 := eqI hs2 (iI_u (by decide))
  refine z_aload_n X (x := A 179) rfl (List.Mem.head _) (z_load_n X (x := x) rfl (List.Mem.tail _ (List.Mem.head _)) (z_const X rfl (z_bipush X rfl (zcS_i0 X E (As := [.int (Int32.ofInt x), .int (Int32.ofInt 0), .int (Int32.ofInt 9)]) (st := [.ref (A 179)]) rfl rfl (k_in G Is2 (by first | exact ⟨p0.1, p0.2⟩ | omega) (by first | exact ⟨by decide, by decide⟩ | omega) (by first | exact ⟨by decide, by decide⟩ | omega)) rfl (Nat.le_of_ble_eq_true rfl) (fun s3 e4 Is3 Fs3 hrs3 hps3 => ?_)))))
  have Gs3 := fm_tq Fs2 Fs3 rfl rfl
  have ws3_73 : iI s3 73 = iI s2 73 := fm_iq Fs3 rfl
  have N5 : ∀ e6 : Int, (((e4 ≠ 0) ∧ e6 = 0) ∨ ((e4 = 0) ∧ e6 = 1)) → WS k 21 [(0, .ref (A 179)), (1, .int (Int32.ofInt x))] [.int (Int32.ofInt e6), .ref (A 179)] (Wd A dT s3) 0 0 := by
    intro e6 he6
    have re6 : 0 ≤ e6 ∧ e6 ≤ 1 := by first | (clear he6 hps3; omega) | (clear hps3; omega) | omega
    refine z_const X rfl (zcV_i0 X E 179 (As := [.int (Int32.ofInt e6), .int (Int32.ofInt 1)]) (st := []) rfl rfl rfl rfl (k_bad G Is3 (by first | exact oq_31e518ae re6.2 re6.1 | omega) (by first | exact ⟨by decide, by decide⟩ | omega)) rfl (Nat.le_of_ble_eq_true rfl) (fun s7 e8 Is7 Fs7 hrs7 hps7 => ?_))
    have Gs7 := fm_tq Gs3 Fs7 rfl rfl
    have b9 := bi_73 Is7
    refine z_if_eq X (t := 30) rfl rfl hrs7 (fun g10 => ?_) (fun g10 => ?_)
    ·
      refine z_aload_n X (x := A 179) rfl (List.Mem.head _) (z_getI X 179 rfl (c518_ok rfl) rfl rfl ?_)
      have b11 := bi_95 Is7
      refine z_store_n X (lv' := [(2, .int (Int32.ofInt (iI s7 95))), (0, .ref (A 179)), (1, .int (Int32.ofInt x))]) rfl (by decide) (fun _ h => h) (z_aload_n X (x := A 179) rfl (List.Mem.tail _ (List.Mem.head _)) (z_load_n X (x := x) rfl (List.Mem.tail _ (List.Mem.tail _ (List.Mem.head _))) (s_putI X 179 rfl (c518_ok rfl) rfl rfl (by decide) rfl rfl rfl (wd_gen (fun s12 hs12 => ?_)))))
      have Is12 : Bd s12 := eqB hs12 (bd_I Is7 (show (0 : Int) ≤ x ∧ x ≤ 9 by first | exact ⟨oq_63ad3ecb g10 hps7.2.1 re6.2 he6 hps3, oq_98d377b2 g10 hps7.2.1 re6.2 he6 hps3⟩ | omega) ⟨by first | exact p0.1 | omega, by first | exact p0.2 | omega⟩)
      have Fs12 := eqF hs12 (fm_I Gs7 (inl_ok (a := 95) rfl))
      have vs12 : iI s12 95 = x := eqI hs12 (iI_u ⟨by first | exact p0.1 | omega, by first | exact p0.2 | omega⟩)
      have ws12_73 : iI s12 73 = iI s7 73 := eqI hs12 rfl
      exact z_load_n X (x := (iI s7 95)) rfl (List.Mem.head _) (w_iret X.1 q hRt rfl (ax_d X (show cdA 244 41 = some (.ireturn, 1, 0, 0, 0) from rfl)) (Nat.zero_le _) (Nat.zero_le _) ⟨_, rfl, Is12, Fs12, (iI s7 95), rfl, (rng_to _), trivial⟩)
    ·
      refine z_const X rfl ?_
      exact w_iret X.1 q hRt rfl (ax_d X (show cdA 244 29 = some (.ireturn, 1, 0, 0, 0) from rfl)) (Nat.zero_le _) (Nat.zero_le _) ⟨_, rfl, Is7, Gs7, 0, rfl, (by decide), trivial⟩
  refine z_if_ne X (t := 20) rfl rfl hrs3 (fun g13 => ?_) (fun g13 => ?_)
  ·
    exact z_const X rfl (N5 _ (Or.inl ⟨g13, rfl⟩))
  ·
    exact z_const X rfl (z_goto X (t := 21) rfl rfl (N5 _ (Or.inr (⟨g13, rfl⟩))))
theorem k_clear (G : GX l s0 D tys a0 dT) (I : Bd s)  : CT l s0 D A dT 259 (rmN 259) [.ref (A 179)] s (fun o t => Bd t ∧ Fm [73, 97] [] s t ∧ ∃ e, o = .inl (some (.int (Int32.ofInt e))) ∧ rng e ∧ (True)) := by
  refine ct_of G (by decide) (Nat.le_of_ble_eq_true rfl) (fun k X E hRt hXt q => ?_)
  show WS k 0 [(0, .ref (A 179))] [] _ 0 0
  have F : Fm [73, 97] [] s s := fm_rf _ _ s
  have b1 := bi_73 I
  refine z_aload_n X (x := A 179) rfl (List.Mem.head _) (z_const X rfl (s_putI X 179 rfl (c518_ok rfl) rfl rfl (by decide) rfl rfl rfl (wd_gen (fun s2 hs2 => ?_))))
  have Is2 : Bd s2 := eqB hs2 (bd_I I (show (0 : Int) ≤ 0 ∧ 0 ≤ 3 by first | exact ⟨by decide, by decide⟩ | omega) (by decide))
  have Fs2 := eqF hs2 (fm_I F (inl_ok (a := 73) rfl))
  have vs2 : iI s2 73 = 0 := eqI hs2 (iI_u (by decide))
  refine z_aload_n X (x := A 179) rfl (List.Mem.head _) (z_getI X 179 rfl (c518_ok rfl) rfl rfl ?_)
  have b3 := bi_97 Is2
  refine z_store_n X (lv' := [(1, .int (Int32.ofInt (iI s2 97))), (0, .ref (A 179))]) rfl (by decide) (fun _ h => h) (z_aload_n X (x := A 179) rfl (List.Mem.tail _ (List.Mem.head _)) (z_const X rfl (s_putI X 179 rfl (c518_ok rfl) rfl rfl (by decide) rfl rfl rfl (wd_gen (fun s4 hs4 => ?_)))))
  have Is4 : Bd s4 := eqB hs4 (bd_I Is2 (show (0 : Int) ≤ 0 ∧ 0 ≤ 8 by first | exact ⟨by decide, by decide⟩ | omega) (by decide))
  have Fs4 := eqF hs4 (fm_I Fs2 (inl_ok (a := 97) rfl))
  have vs4 : iI s4 97 = 0 := eqI hs4 (iI_u (by decide))
  have ws4_73 : iI s4 73 = iI s2 73 := eqI hs4 rfl
  exact z_load_n X (x := (iI s2 97)) rfl (List.Mem.head _) (w_iret X.1 q hRt rfl (ax_d X (show cdA 259 16 = some (.ireturn, 1, 0, 0, 0) from rfl)) (Nat.zero_le _) (Nat.zero_le _) ⟨_, rfl, Is4, Fs4, (iI s2 97), rfl, (rng_to _), trivial⟩)
theorem k_ill (G : GX l s0 D tys a0 dT) (I : Bd s) {x y : Int} (p0 : rng x) (p1 : rng y) : CT l s0 D A dT 274 (rmN 274) [.ref (A 179), .int (Int32.ofInt x), .int (Int32.ofInt y)] s (fun o t => Bd t ∧ Fm [73] [398] s t ∧ ∃ e, o = .inl (some (.int (Int32.ofInt e))) ∧ rng e ∧ (True)) := by
  refine ct_of G (by decide) (Nat.le_of_ble_eq_true rfl) (fun k X E hRt hXt q => ?_)
  show WS k 0 [(0, .ref (A 179)), (1, .int (Int32.ofInt x)), (2, .int (Int32.ofInt y))] [] _ 0 0
  have F : Fm [73] [398] s s := fm_rf _ _ s
  have b1 := bi_73 I
  refine z_aload_n X (x := A 179) rfl (List.Mem.head _) (z_const X rfl (s_putI X 179 rfl (c518_ok rfl) rfl rfl (by decide) rfl rfl rfl (wd_gen (fun s2 hs2 => ?_))))
  have Is2 : Bd s2 := eqB hs2 (bd_I I (show (0 : Int) ≤ 0 ∧ 0 ≤ 3 by first | exact ⟨by decide, by decide⟩ | omega) (by decide))
  have Fs2 := eqF hs2 (fm_I F (inl_ok (a := 73) rfl))
  have vs2 : iI s2 73 = 0 := eqI hs2 (iI_u (by decide))
  refine z_aload_n X (x := A 179) rfl (List.Mem.head _) (z_load_n X (x := x) rfl (List.Mem.tail _ (List.Mem.head _)) (z_const X rfl (z_bipush X rfl (zcS_i0 X E (As := [.int (Int32.ofInt x), .int (Int32.ofInt 0), .int (Int32.ofInt 7)]) (st := [.ref (A 179)]) rfl rfl (k_in G Is2 (by first | exact ⟨p0.1, p0.2⟩ | omega) (by first | exact ⟨by decide, by decide⟩ | omega) (by first | exact ⟨by decide, by decide⟩ | omega)) rfl (Nat.le_of_ble_eq_true rfl) (fun s3 e4 Is3 Fs3 hrs3 hps3 => ?_)))))
  have Gs3 := fm_tq Fs2 Fs3 rfl rfl
  have ws3_73 : iI s3 73 = iI s2 73 := fm_iq Fs3 rfl
  have N5 : ∀ e6 : Int, (((e4 ≠ 0) ∧ e6 = 0) ∨ ((e4 = 0) ∧ e6 = 1)) → WS k 21 [(0, .ref (A 179)), (1, .int (Int32.ofInt x)), (2, .int (Int32.ofInt y))] [.int (Int32.ofInt e6), .ref (A 179)] (Wd A dT s3) 0 0 := by
    intro e6 he6
    have re6 : 0 ≤ e6 ∧ e6 ≤ 1 := by first | (clear he6 hps3; omega) | (clear hps3; omega) | omega
    refine z_const X rfl (zcV_i0 X E 179 (As := [.int (Int32.ofInt e6), .int (Int32.ofInt 1)]) (st := []) rfl rfl rfl rfl (k_bad G Is3 (by first | exact oq_31e518ae re6.2 re6.1 | omega) (by first | exact ⟨by decide, by decide⟩ | omega)) rfl (Nat.le_of_ble_eq_true rfl) (fun s7 e8 Is7 Fs7 hrs7 hps7 => ?_))
    have Gs7 := fm_tq Gs3 Fs7 rfl rfl
    have b9 := bi_73 Is7
    refine z_if_ne X (t := 51) rfl rfl hrs7 (fun g10 => ?_) (fun g10 => ?_)
    ·
      refine z_const X rfl ?_
      exact w_iret X.1 q hRt rfl (ax_d X (show cdA 274 52 = some (.ireturn, 1, 0, 0, 0) from rfl)) (Nat.zero_le _) (Nat.zero_le _) ⟨_, rfl, Is7, Gs7, 0, rfl, (by decide), trivial⟩
    ·
      refine z_aload_n X (x := A 179) rfl (List.Mem.head _) (z_load_n X (x := y) rfl (List.Mem.tail _ (List.Mem.tail _ (List.Mem.head _))) (z_const X rfl (z_bipush X rfl (zcS_i0 X E (As := [.int (Int32.ofInt y), .int (Int32.ofInt 0), .int (Int32.ofInt 24)]) (st := [.ref (A 179)]) rfl rfl (k_in G Is7 (by first | exact ⟨p1.1, p1.2⟩ | omega) (by first | exact ⟨by decide, by decide⟩ | omega) (by first | exact ⟨by decide, by decide⟩ | omega)) rfl (Nat.le_of_ble_eq_true rfl) (fun s11 e12 Is11 Fs11 hrs11 hps11 => ?_)))))
      have Gs11 := fm_tq Gs7 Fs11 rfl rfl
      have ws11_73 : iI s11 73 = iI s7 73 := fm_iq Fs11 rfl
      have N13 : ∀ e14 : Int, (((e12 ≠ 0) ∧ e14 = 0) ∨ ((e12 = 0) ∧ e14 = 1)) → WS k 44 [(0, .ref (A 179)), (1, .int (Int32.ofInt x)), (2, .int (Int32.ofInt y))] [.int (Int32.ofInt e14), .ref (A 179)] (Wd A dT s11) 0 0 := by
        intro e14 he14
        have re14 : 0 ≤ e14 ∧ e14 ≤ 1 := by first | (clear he14 hps11 hps7 he6 hps3; omega) | (clear hps11 hps7 he6 hps3; omega) | omega
        refine z_const X rfl (zcV_i0 X E 179 (As := [.int (Int32.ofInt e14), .int (Int32.ofInt 2)]) (st := []) rfl rfl rfl rfl (k_bad G Is11 (by first | exact oq_31e518ae re14.2 re14.1 | omega) (by first | exact ⟨by decide, by decide⟩ | omega)) rfl (Nat.le_of_ble_eq_true rfl) (fun s15 e16 Is15 Fs15 hrs15 hps15 => ?_))
        have Gs15 := fm_tq Gs11 Fs15 rfl rfl
        have b17 := bi_73 Is15
        refine z_if_eq X (t := 53) rfl rfl hrs15 (fun g18 => ?_) (fun g18 => ?_)
        ·
          refine z_aload_n X (x := A 179) rfl (List.Mem.head _) (s_getR X 179 rfl (c518_ok rfl) rfl rfl (z_load_n X (x := x) rfl (List.Mem.tail _ (List.Mem.head _)) (z_ald X 453 rfl (c518_ok rfl) rfl (by first | exact oq_859d1a00 g10 hps7.2.1 re6.2 he6 hps3 | omega) (show x < 8 by first | exact oq_dcc08218 g10 hps7.2.1 re6.2 he6 hps3 | omega) (cbig_ok rfl) ?_)))
          have b19 := bc_398 Is15 (show (x).toNat < 8 by first | exact oq_6129a798 g10 hps7.2.1 re6.2 he6 hps3 | omega)
          refine z_store_n X (lv' := [(3, .int (Int32.ofInt (iC s15 398 (x).toNat))), (0, .ref (A 179)), (1, .int (Int32.ofInt x)), (2, .int (Int32.ofInt y))]) rfl (by decide) (fun _ h => h) (z_aload_n X (x := A 179) rfl (List.Mem.tail _ (List.Mem.head _)) (s_getR X 179 rfl (c518_ok rfl) rfl rfl (z_load_n X (x := x) rfl (List.Mem.tail _ (List.Mem.tail _ (List.Mem.head _))) (z_load_n X (x := y) rfl (List.Mem.tail _ (List.Mem.tail _ (List.Mem.tail _ (List.Mem.head _)))) (z_ast X 453 rfl (c518_ok rfl) rfl (by first | exact oq_859d1a00 g10 hps7.2.1 re6.2 he6 hps3 | omega) (show x < 8 by first | exact oq_dcc08218 g10 hps7.2.1 re6.2 he6 hps3 | omega) (cbig_ok rfl) (wd_gen (fun s20 hs20 => ?_)))))))
          have Is20 : Bd s20 := eqB hs20 (bd_C Is15 (show (0 : Int) ≤ y ∧ y ≤ 24 by first | exact ⟨oq_b7ca64e0 g18 hps15.2.1 re14.2 he14 hps11, oq_240b5d14 g18 hps15.2.1 re14.2 he14 hps11⟩ | omega) ⟨by first | exact p1.1 | omega, by first | exact p1.2 | omega⟩)
          have Fs20 := eqF hs20 (fm_C Gs15 (inl_ok (a := 398) rfl))
          have ws20_73 : iI s20 73 = iI s15 73 := eqI hs20 rfl
          exact z_load_n X (x := (iC s15 398 (x).toNat)) rfl (List.Mem.head _) (w_iret X.1 q hRt rfl (ax_d X (show cdA 274 68 = some (.ireturn, 1, 0, 0, 0) from rfl)) (Nat.zero_le _) (Nat.zero_le _) ⟨_, rfl, Is20, Fs20, (iC s15 398 (x).toNat), rfl, (rng_to _), trivial⟩)
        ·
          refine z_const X rfl ?_
          exact w_iret X.1 q hRt rfl (ax_d X (show cdA 274 52 = some (.ireturn, 1, 0, 0, 0) from rfl)) (Nat.zero_le _) (Nat.zero_le _) ⟨_, rfl, Is15, Gs15, 0, rfl, (by decide), trivial⟩
      refine z_if_ne X (t := 43) rfl rfl hrs11 (fun g21 => ?_) (fun g21 => ?_)
      ·
        exact z_const X rfl (N13 _ (Or.inl ⟨g21, rfl⟩))
      ·
        exact z_const X rfl (z_goto X (t := 44) rfl rfl (N13 _ (Or.inr (⟨g21, rfl⟩))))
  refine z_if_ne X (t := 20) rfl rfl hrs3 (fun g22 => ?_) (fun g22 => ?_)
  ·
    exact z_const X rfl (N5 _ (Or.inl ⟨g22, rfl⟩))
  ·
    exact z_const X rfl (z_goto X (t := 21) rfl rfl (N5 _ (Or.inr (⟨g22, rfl⟩))))
theorem k_hours (G : GX l s0 D tys a0 dT) (I : Bd s) {x y : Int} (p0 : rng x) (p1 : rng y) : CT l s0 D A dT 273 (rmN 273) [.ref (A 179), .int (Int32.ofInt x), .int (Int32.ofInt y)] s (fun o t => Bd t ∧ Fm [73, 102, 103] [] s t ∧ ∃ e, o = .inl (some (.int (Int32.ofInt e))) ∧ rng e ∧ (True)) := by
  refine ct_of G (by decide) (Nat.le_of_ble_eq_true rfl) (fun k X E hRt hXt q => ?_)
  show WS k 0 [(0, .ref (A 179)), (1, .int (Int32.ofInt x)), (2, .int (Int32.ofInt y))] [] _ 0 0
  have F : Fm [73, 102, 103] [] s s := fm_rf _ _ s
  have b1 := bi_73 I
  refine z_aload_n X (x := A 179) rfl (List.Mem.head _) (z_const X rfl (s_putI X 179 rfl (c518_ok rfl) rfl rfl (by decide) rfl rfl rfl (wd_gen (fun s2 hs2 => ?_))))
  have Is2 : Bd s2 := eqB hs2 (bd_I I (show (0 : Int) ≤ 0 ∧ 0 ≤ 3 by first | exact ⟨by decide, by decide⟩ | omega) (by decide))
  have Fs2 := eqF hs2 (fm_I F (inl_ok (a := 73) rfl))
  have vs2 : iI s2 73 = 0 := eqI hs2 (iI_u (by decide))
  refine z_aload_n X (x := A 179) rfl (List.Mem.head _) (z_load_n X (x := x) rfl (List.Mem.tail _ (List.Mem.head _)) (z_const X rfl (z_const X rfl (zcS_i0 X E (As := [.int (Int32.ofInt x), .int (Int32.ofInt 0), .int (Int32.ofInt 1)]) (st := [.ref (A 179)]) rfl rfl (k_in G Is2 (by first | exact ⟨p0.1, p0.2⟩ | omega) (by first | exact ⟨by decide, by decide⟩ | omega) (by first | exact ⟨by decide, by decide⟩ | omega)) rfl (Nat.le_of_ble_eq_true rfl) (fun s3 e4 Is3 Fs3 hrs3 hps3 => ?_)))))
  have Gs3 := fm_tq Fs2 Fs3 rfl rfl
  have ws3_73 : iI s3 73 = iI s2 73 := fm_iq Fs3 rfl
  refine z_if_eq X (t := 34) rfl rfl hrs3 (fun g5 => ?_) (fun g5 => ?_)
  ·
    refine z_const X rfl (z_goto X (t := 39) rfl rfl (z_const X rfl (zcV_i0 X E 179 (As := [.int (Int32.ofInt 1), .int (Int32.ofInt 1)]) (st := []) rfl rfl rfl rfl (k_bad G Is3 (by first | exact Or.inr (by decide) | omega) (by first | exact ⟨by decide, by decide⟩ | omega)) rfl (Nat.le_of_ble_eq_true rfl) (fun s6 e7 Is6 Fs6 hrs6 hps6 => ?_))))
    have Gs6 := fm_tq Gs3 Fs6 rfl rfl
    have b8 := bi_73 Is6
    refine z_if_eq X (t := 48) rfl rfl hrs6 (fun g9 => ?_) (fun g9 => ?_)
    ·
      refine z_load_n X (x := x) rfl (List.Mem.tail _ (List.Mem.head _)) ?_
      have N10 : ∀ e11 : Int, (((x ≠ 0) ∧ ((1 : Int) ≤ iI s6 103 ∧ iI s6 103 ≤ 8) ∧ e11 = (iI s6 103)) ∨ ((x = 0) ∧ ((1 : Int) ≤ iI s6 102 ∧ iI s6 102 ≤ 24) ∧ e11 = (iI s6 102))) → WS k 63 [(0, .ref (A 179)), (1, .int (Int32.ofInt x)), (2, .int (Int32.ofInt y))] [.int (Int32.ofInt e11)] (Wd A dT s6) 0 0 := by
        intro e11 he11
        refine z_store_n X (lv' := [(3, .int (Int32.ofInt e11)), (0, .ref (A 179)), (1, .int (Int32.ofInt x)), (2, .int (Int32.ofInt y))]) rfl (by decide) (fun _ h => h) (z_load_n X (x := x) rfl (List.Mem.tail _ (List.Mem.tail _ (List.Mem.head _))) (z_if_ne X (t := 76) rfl rfl ⟨by first | exact p0.1 | omega, by first | exact p0.2 | omega⟩ (fun g12 => ?_) (fun g12 => ?_)))
        ·
          refine z_aload_n X (x := A 179) rfl (List.Mem.tail _ (List.Mem.head _)) (z_load_n X (x := y) rfl (List.Mem.tail _ (List.Mem.tail _ (List.Mem.tail _ (List.Mem.head _)))) (s_putI X 179 rfl (c518_ok rfl) rfl rfl (by decide) rfl rfl rfl (wd_gen (fun s13 hs13 => ?_))))
          have Is13 : Bd s13 := eqB hs13 (bd_I Is6 (show (1 : Int) ≤ y ∧ y ≤ 8 by first | exact ⟨oq_c74211cc g9 hps6.2.1, oq_3ff45f06 g9 hps6.2.1⟩ | omega) ⟨by first | exact p1.1 | omega, by first | exact p1.2 | omega⟩)
          have Fs13 := eqF hs13 (fm_I Gs6 (inl_ok (a := 103) rfl))
          have vs13 : iI s13 103 = y := eqI hs13 (iI_u ⟨by first | exact p1.1 | omega, by first | exact p1.2 | omega⟩)
          have ws13_73 : iI s13 73 = iI s6 73 := eqI hs13 rfl
          refine z_load_n X (x := e11) rfl (List.Mem.head _) ?_
          exact w_iret X.1 q hRt rfl (ax_d X (show cdA 273 82 = some (.ireturn, 1, 0, 0, 0) from rfl)) (Nat.zero_le _) (Nat.zero_le _) ⟨_, rfl, Is13, Fs13, e11, rfl, ⟨by first | exact oq_62abe554 he11 | omega, by first | exact oq_c46c61bd he11 | omega⟩, trivial⟩
        ·
          refine z_aload_n X (x := A 179) rfl (List.Mem.tail _ (List.Mem.head _)) (z_load_n X (x := y) rfl (List.Mem.tail _ (List.Mem.tail _ (List.Mem.tail _ (List.Mem.head _)))) (s_putI X 179 rfl (c518_ok rfl) rfl rfl (by decide) rfl rfl rfl (wd_gen (fun s14 hs14 => ?_))))
          have Is14 : Bd s14 := eqB hs14 (bd_I Is6 (show (1 : Int) ≤ y ∧ y ≤ 24 by first | exact ⟨oq_7a39abe9 g12 g5 hps3, oq_fc8cbade g12 g5 hps3⟩ | omega) ⟨by first | exact p1.1 | omega, by first | exact p1.2 | omega⟩)
          have Fs14 := eqF hs14 (fm_I Gs6 (inl_ok (a := 102) rfl))
          have vs14 : iI s14 102 = y := eqI hs14 (iI_u ⟨by first | exact p1.1 | omega, by first | exact p1.2 | omega⟩)
          have ws14_73 : iI s14 73 = iI s6 73 := eqI hs14 rfl
          refine z_goto X (t := 81) rfl rfl (z_load_n X (x := e11) rfl (List.Mem.head _) ?_)
          exact w_iret X.1 q hRt rfl (ax_d X (show cdA 273 82 = some (.ireturn, 1, 0, 0, 0) from rfl)) (Nat.zero_le _) (Nat.zero_le _) ⟨_, rfl, Is14, Fs14, e11, rfl, ⟨by first | exact oq_62abe554 he11 | omega, by first | exact oq_c46c61bd he11 | omega⟩, trivial⟩
      refine z_if_ne X (t := 59) rfl rfl ⟨by first | exact p0.1 | omega, by first | exact p0.2 | omega⟩ (fun g15 => ?_) (fun g15 => ?_)
      ·
        refine z_aload_n X (x := A 179) rfl (List.Mem.head _) (z_getI X 179 rfl (c518_ok rfl) rfl rfl ?_)
        have b16 := bi_103 Is6
        exact N10 _ (Or.inl ⟨g15, b16, rfl⟩)
      ·
        refine z_aload_n X (x := A 179) rfl (List.Mem.head _) (z_getI X 179 rfl (c518_ok rfl) rfl rfl ?_)
        have b17 := bi_102 Is6
        exact z_goto X (t := 63) rfl rfl (N10 _ (Or.inr (⟨g15, b17, rfl⟩)))
    ·
      refine z_const X rfl ?_
      exact w_iret X.1 q hRt rfl (ax_d X (show cdA 273 47 = some (.ireturn, 1, 0, 0, 0) from rfl)) (Nat.zero_le _) (Nat.zero_le _) ⟨_, rfl, Is6, Gs6, 0, rfl, (by decide), trivial⟩
  ·
    refine z_load_n X (x := y) rfl (List.Mem.tail _ (List.Mem.tail _ (List.Mem.head _))) (z_const X rfl (z_load_n X (x := x) rfl (List.Mem.tail _ (List.Mem.head _)) ?_))
    have N18 : ∀ e19 : Int, (((x ≠ 0) ∧ e19 = 8) ∨ ((x = 0) ∧ e19 = 24)) → WS k 28 [(0, .ref (A 179)), (1, .int (Int32.ofInt x)), (2, .int (Int32.ofInt y))] [.int (Int32.ofInt e19), .int (Int32.ofInt 1), .int (Int32.ofInt y), .ref (A 179)] (Wd A dT s3) 0 0 := by
      intro e19 he19
      have re19 : 8 ≤ e19 ∧ e19 ≤ 24 := by first | (clear he19 g5 hps3; omega) | (clear g5 hps3; omega) | omega
      refine zcS_i0 X E (As := [.int (Int32.ofInt y), .int (Int32.ofInt 1), .int (Int32.ofInt e19)]) (st := [.ref (A 179)]) rfl rfl (k_in G Is3 (by first | exact ⟨p1.1, p1.2⟩ | omega) (by first | exact ⟨by decide, by decide⟩ | omega) (by first | exact ⟨oq_ebc40354 re19.1, oq_5bcd337f re19.2⟩ | omega)) rfl (Nat.le_of_ble_eq_true rfl) (fun s20 e21 Is20 Fs20 hrs20 hps20 => ?_)
      have Gs20 := fm_tq Gs3 Fs20 rfl rfl
      have ws20_73 : iI s20 73 = iI s3 73 := fm_iq Fs20 rfl
      have N22 : ∀ e23 : Int, (((e21 ≠ 0) ∧ e23 = 0) ∨ ((e21 = 0) ∧ e23 = 1)) → WS k 39 [(0, .ref (A 179)), (1, .int (Int32.ofInt x)), (2, .int (Int32.ofInt y))] [.int (Int32.ofInt e23), .ref (A 179)] (Wd A dT s20) 0 0 := by
        intro e23 he23
        have re23 : 0 ≤ e23 ∧ e23 ≤ 1 := by first | (clear he23 hps20 he19 g5 hps3; omega) | (clear hps20 he19 g5 hps3; omega) | omega
        refine z_const X rfl (zcV_i0 X E 179 (As := [.int (Int32.ofInt e23), .int (Int32.ofInt 1)]) (st := []) rfl rfl rfl rfl (k_bad G Is20 (by first | exact oq_31e518ae re23.2 re23.1 | omega) (by first | exact ⟨by decide, by decide⟩ | omega)) rfl (Nat.le_of_ble_eq_true rfl) (fun s24 e25 Is24 Fs24 hrs24 hps24 => ?_))
        have Gs24 := fm_tq Gs20 Fs24 rfl rfl
        have b26 := bi_73 Is24
        refine z_if_eq X (t := 48) rfl rfl hrs24 (fun g27 => ?_) (fun g27 => ?_)
        ·
          refine z_load_n X (x := x) rfl (List.Mem.tail _ (List.Mem.head _)) ?_
          have N28 : ∀ e29 : Int, (((x ≠ 0) ∧ ((1 : Int) ≤ iI s24 103 ∧ iI s24 103 ≤ 8) ∧ e29 = (iI s24 103)) ∨ ((x = 0) ∧ ((1 : Int) ≤ iI s24 102 ∧ iI s24 102 ≤ 24) ∧ e29 = (iI s24 102))) → WS k 63 [(0, .ref (A 179)), (1, .int (Int32.ofInt x)), (2, .int (Int32.ofInt y))] [.int (Int32.ofInt e29)] (Wd A dT s24) 0 0 := by
            intro e29 he29
            refine z_store_n X (lv' := [(3, .int (Int32.ofInt e29)), (0, .ref (A 179)), (1, .int (Int32.ofInt x)), (2, .int (Int32.ofInt y))]) rfl (by decide) (fun _ h => h) (z_load_n X (x := x) rfl (List.Mem.tail _ (List.Mem.tail _ (List.Mem.head _))) (z_if_ne X (t := 76) rfl rfl ⟨by first | exact p0.1 | omega, by first | exact p0.2 | omega⟩ (fun g30 => ?_) (fun g30 => ?_)))
            ·
              refine z_aload_n X (x := A 179) rfl (List.Mem.tail _ (List.Mem.head _)) (z_load_n X (x := y) rfl (List.Mem.tail _ (List.Mem.tail _ (List.Mem.tail _ (List.Mem.head _)))) (s_putI X 179 rfl (c518_ok rfl) rfl rfl (by decide) rfl rfl rfl (wd_gen (fun s31 hs31 => ?_))))
              have Is31 : Bd s31 := eqB hs31 (bd_I Is24 (show (1 : Int) ≤ y ∧ y ≤ 8 by first | exact ⟨oq_e8d47ac5 g27 hps24.2.1 re23.2 he23 hps20, by first | (clear g30 he29 hps24 he23 hps20 he19 g5 hps3; omega) | (clear he29 hps24 he23 hps20 he19 g5 hps3; omega) | omega⟩ | omega) ⟨by first | exact p1.1 | omega, by first | exact p1.2 | omega⟩)
              have Fs31 := eqF hs31 (fm_I Gs24 (inl_ok (a := 103) rfl))
              have vs31 : iI s31 103 = y := eqI hs31 (iI_u ⟨by first | exact p1.1 | omega, by first | exact p1.2 | omega⟩)
              have ws31_73 : iI s31 73 = iI s24 73 := eqI hs31 rfl
              refine z_load_n X (x := e29) rfl (List.Mem.head _) ?_
              exact w_iret X.1 q hRt rfl (ax_d X (show cdA 273 82 = some (.ireturn, 1, 0, 0, 0) from rfl)) (Nat.zero_le _) (Nat.zero_le _) ⟨_, rfl, Is31, Fs31, e29, rfl, ⟨by first | exact oq_62abe554 he29 | omega, by first | exact oq_c46c61bd he29 | omega⟩, trivial⟩
            ·
              refine z_aload_n X (x := A 179) rfl (List.Mem.tail _ (List.Mem.head _)) (z_load_n X (x := y) rfl (List.Mem.tail _ (List.Mem.tail _ (List.Mem.tail _ (List.Mem.head _)))) (s_putI X 179 rfl (c518_ok rfl) rfl rfl (by decide) rfl rfl rfl (wd_gen (fun s32 hs32 => ?_))))
              have Is32 : Bd s32 := eqB hs32 (bd_I Is24 (show (1 : Int) ≤ y ∧ y ≤ 24 by first | exact ⟨oq_e8d47ac5 g27 hps24.2.1 re23.2 he23 hps20, oq_71db95f9 g27 hps24.2.1 re23.2 he23 hps20 re19.2⟩ | omega) ⟨by first | exact p1.1 | omega, by first | exact p1.2 | omega⟩)
              have Fs32 := eqF hs32 (fm_I Gs24 (inl_ok (a := 102) rfl))
              have vs32 : iI s32 102 = y := eqI hs32 (iI_u ⟨by first | exact p1.1 | omega, by first | exact p1.2 | omega⟩)
              have ws32_73 : iI s32 73 = iI s24 73 := eqI hs32 rfl
              refine z_goto X (t := 81) rfl rfl (z_load_n X (x := e29) rfl (List.Mem.head _) ?_)
              exact w_iret X.1 q hRt rfl (ax_d X (show cdA 273 82 = some (.ireturn, 1, 0, 0, 0) from rfl)) (Nat.zero_le _) (Nat.zero_le _) ⟨_, rfl, Is32, Fs32, e29, rfl, ⟨by first | exact oq_62abe554 he29 | omega, by first | exact oq_c46c61bd he29 | omega⟩, trivial⟩
          refine z_if_ne X (t := 59) rfl rfl ⟨by first | exact p0.1 | omega, by first | exact p0.2 | omega⟩ (fun g33 => ?_) (fun g33 => ?_)
          ·
            refine z_aload_n X (x := A 179) rfl (List.Mem.head _) (z_getI X 179 rfl (c518_ok rfl) rfl rfl ?_)
            have b34 := bi_103 Is24
            exact N28 _ (Or.inl ⟨g33, b34, rfl⟩)
          ·
            refine z_aload_n X (x := A 179) rfl (List.Mem.head _) (z_getI X 179 rfl (c518_ok rfl) rfl rfl ?_)
            have b35 := bi_102 Is24
            exact z_goto X (t := 63) rfl rfl (N28 _ (Or.inr (⟨g33, b35, rfl⟩)))
        ·
          refine z_const X rfl ?_
          exact w_iret X.1 q hRt rfl (ax_d X (show cdA 273 47 = some (.ireturn, 1, 0, 0, 0) from rfl)) (Nat.zero_le _) (Nat.zero_le _) ⟨_, rfl, Is24, Gs24, 0, rfl, (by decide), trivial⟩
      refine z_if_ne X (t := 38) rfl rfl hrs20 (fun g36 => ?_) (fun g36 => ?_)
      ·
        exact z_const X rfl (N22 _ (Or.inl ⟨g36, rfl⟩))
      ·
        exact z_const X rfl (z_goto X (t := 39) rfl rfl (N22 _ (Or.inr (⟨g36, rfl⟩))))
    refine z_if_ne X (t := 26) rfl rfl ⟨by first | exact p0.1 | omega, by first | exact p0.2 | omega⟩ (fun g37 => ?_) (fun g37 => ?_)
    ·
      exact z_bipush X rfl (N18 _ (Or.inl ⟨g37, rfl⟩))
    ·
      exact z_bipush X rfl (z_goto X (t := 28) rfl rfl (N18 _ (Or.inr (⟨g37, rfl⟩))))
theorem k_storm (G : GX l s0 D tys a0 dT) (I : Bd s) {x y : Int} (p0 : rng x) (p1 : y = 0 ∨ y = 1) : CT l s0 D A dT 279 (rmN 279) [.ref (A 179), .int (Int32.ofInt x), .int (Int32.ofInt y)] s (fun o t => Bd t ∧ Fm [73] [399] s t ∧ ∃ e, o = .inl (some (.int (Int32.ofInt e))) ∧ rng e ∧ (True)) := by
  refine ct_of G (by decide) (Nat.le_of_ble_eq_true rfl) (fun k X E hRt hXt q => ?_)
  show WS k 0 [(0, .ref (A 179)), (1, .int (Int32.ofInt x)), (2, .int (Int32.ofInt y))] [] _ 0 0
  have F : Fm [73] [399] s s := fm_rf _ _ s
  have b1 := bi_73 I
  refine z_aload_n X (x := A 179) rfl (List.Mem.head _) (z_const X rfl (s_putI X 179 rfl (c518_ok rfl) rfl rfl (by decide) rfl rfl rfl (wd_gen (fun s2 hs2 => ?_))))
  have Is2 : Bd s2 := eqB hs2 (bd_I I (show (0 : Int) ≤ 0 ∧ 0 ≤ 3 by first | exact ⟨by decide, by decide⟩ | omega) (by decide))
  have Fs2 := eqF hs2 (fm_I F (inl_ok (a := 73) rfl))
  have vs2 : iI s2 73 = 0 := eqI hs2 (iI_u (by decide))
  refine z_aload_n X (x := A 179) rfl (List.Mem.head _) (z_load_n X (x := x) rfl (List.Mem.tail _ (List.Mem.head _)) (z_const X rfl (z_bipush X rfl (zcS_i0 X E (As := [.int (Int32.ofInt x), .int (Int32.ofInt 0), .int (Int32.ofInt 127)]) (st := [.ref (A 179)]) rfl rfl (k_in G Is2 (by first | exact ⟨p0.1, p0.2⟩ | omega) (by first | exact ⟨by decide, by decide⟩ | omega) (by first | exact ⟨by decide, by decide⟩ | omega)) rfl (Nat.le_of_ble_eq_true rfl) (fun s3 e4 Is3 Fs3 hrs3 hps3 => ?_)))))
  have Gs3 := fm_tq Fs2 Fs3 rfl rfl
  have ws3_73 : iI s3 73 = iI s2 73 := fm_iq Fs3 rfl
  have N5 : ∀ e6 : Int, (((e4 ≠ 0) ∧ e6 = 0) ∨ ((e4 = 0) ∧ e6 = 1)) → WS k 21 [(0, .ref (A 179)), (1, .int (Int32.ofInt x)), (2, .int (Int32.ofInt y))] [.int (Int32.ofInt e6), .ref (A 179)] (Wd A dT s3) 0 0 := by
    intro e6 he6
    have re6 : 0 ≤ e6 ∧ e6 ≤ 1 := by first | (clear he6 hps3 p1; omega) | (clear hps3 p1; omega) | omega
    refine z_const X rfl (zcV_i0 X E 179 (As := [.int (Int32.ofInt e6), .int (Int32.ofInt 1)]) (st := []) rfl rfl rfl rfl (k_bad G Is3 (by first | exact oq_31e518ae re6.2 re6.1 | omega) (by first | exact ⟨by decide, by decide⟩ | omega)) rfl (Nat.le_of_ble_eq_true rfl) (fun s7 e8 Is7 Fs7 hrs7 hps7 => ?_))
    have Gs7 := fm_tq Gs3 Fs7 rfl rfl
    have b9 := bi_73 Is7
    refine z_if_eq X (t := 30) rfl rfl hrs7 (fun g10 => ?_) (fun g10 => ?_)
    ·
      refine z_aload_n X (x := A 179) rfl (List.Mem.head _) (s_getR X 179 rfl (c518_ok rfl) rfl rfl (z_load_n X (x := x) rfl (List.Mem.tail _ (List.Mem.head _)) (z_zald X 454 rfl (c518_ok rfl) rfl (by first | exact oq_d2f74293 g10 hps7.2.1 re6.2 he6 hps3 | omega) (show x < 128 by first | exact oq_bb641c4c g10 hps7.2.1 re6.2 he6 hps3 | omega) (cbig_ok rfl) ?_)))
      have b11 := bc_399 Is7 (show (x).toNat < 128 by first | exact oq_48be0e30 g10 hps7.2.1 re6.2 he6 hps3 | omega)
      refine z_store_n X (lv' := [(3, .int (Int32.ofInt (iC s7 399 (x).toNat))), (0, .ref (A 179)), (1, .int (Int32.ofInt x)), (2, .int (Int32.ofInt y))]) rfl (by decide) (fun _ h => h) (z_aload_n X (x := A 179) rfl (List.Mem.tail _ (List.Mem.head _)) (s_getR X 179 rfl (c518_ok rfl) rfl rfl (z_load_n X (x := x) rfl (List.Mem.tail _ (List.Mem.tail _ (List.Mem.head _))) (z_load_n X (x := y) rfl (List.Mem.tail _ (List.Mem.tail _ (List.Mem.tail _ (List.Mem.head _)))) (z_zast X 454 rfl (c518_ok rfl) rfl (by first | exact oq_d2f74293 g10 hps7.2.1 re6.2 he6 hps3 | omega) (show x < 128 by first | exact oq_bb641c4c g10 hps7.2.1 re6.2 he6 hps3 | omega) (cbig_ok rfl) (by first | exact p1 | omega) (wd_gen (fun s12 hs12 => ?_)))))))
      have Is12 : Bd s12 := eqB hs12 (bd_C Is7 (show (0 : Int) ≤ y ∧ y ≤ 1 by first | exact ⟨oq_e4aca38c p1, oq_14617724 p1⟩ | omega) ⟨by first | exact oq_bde653e9 p1 | omega, by first | exact oq_4ad2cb8b p1 | omega⟩)
      have Fs12 := eqF hs12 (fm_C Gs7 (inl_ok (a := 399) rfl))
      have ws12_73 : iI s12 73 = iI s7 73 := eqI hs12 rfl
      refine z_load_n X (x := (iC s7 399 (x).toNat)) rfl (List.Mem.head _) ?_
      exact w_iret X.1 q hRt (nar_ret (by first | exact oq_31e518ae b11.2 b11.1 | omega)) (ax_d X (show cdA 279 45 = some (.ireturn, 1, 0, 0, 0) from rfl)) (Nat.zero_le _) (Nat.zero_le _) ⟨_, rfl, Is12, Fs12, (iC s7 399 (x).toNat), rfl, (rng_to _), trivial⟩
    ·
      refine z_const X rfl ?_
      exact w_iret X.1 q hRt (nar_ret (by first | exact Or.inl (by decide) | omega)) (ax_d X (show cdA 279 29 = some (.ireturn, 1, 0, 0, 0) from rfl)) (Nat.zero_le _) (Nat.zero_le _) ⟨_, rfl, Is7, Gs7, 0, rfl, (by decide), trivial⟩
  refine z_if_ne X (t := 20) rfl rfl hrs3 (fun g13 => ?_) (fun g13 => ?_)
  ·
    exact z_const X rfl (N5 _ (Or.inl ⟨g13, rfl⟩))
  ·
    exact z_const X rfl (z_goto X (t := 21) rfl rfl (N5 _ (Or.inr (⟨g13, rfl⟩))))
theorem k_configure (G : GX l s0 D tys a0 dT) (I : Bd s) {x : Int} (p0 : rng x) : CT l s0 D A dT 264 (rmN 264) [.ref (A 179), .int (Int32.ofInt x)] s (fun o t => Bd t ∧ Fm [73, 99] [237] s t ∧ ∃ e, o = .inl (some (.int (Int32.ofInt e))) ∧ rng e ∧ (True)) := by
  refine ct_of G (by decide) (Nat.le_of_ble_eq_true rfl) (fun k X E hRt hXt q => ?_)
  show WS k 0 [(0, .ref (A 179)), (1, .int (Int32.ofInt x))] [] _ 0 0
  have F : Fm [73, 99] [237] s s := fm_rf _ _ s
  have b1 := bi_73 I
  have b2 := bi_99 I
  refine z_aload_n X (x := A 179) rfl (List.Mem.head _) (z_const X rfl (s_putI X 179 rfl (c518_ok rfl) rfl rfl (by decide) rfl rfl rfl (wd_gen (fun s3 hs3 => ?_))))
  have Is3 : Bd s3 := eqB hs3 (bd_I I (show (0 : Int) ≤ 0 ∧ 0 ≤ 3 by first | exact ⟨by decide, by decide⟩ | omega) (by decide))
  have Fs3 := eqF hs3 (fm_I F (inl_ok (a := 73) rfl))
  have vs3 : iI s3 73 = 0 := eqI hs3 (iI_u (by decide))
  have ws3_99 : iI s3 99 = iI s 99 := eqI hs3 rfl
  refine z_aload_n X (x := A 179) rfl (List.Mem.head _) (z_load_n X (x := x) rfl (List.Mem.tail _ (List.Mem.head _)) (z_if_lt X (t := 17) rfl rfl ⟨by first | exact p0.1 | omega, by first | exact p0.2 | omega⟩ (fun g4 => ?_) (fun g4 => ?_)))
  ·
    refine z_const X rfl (z_goto X (t := 22) rfl rfl (z_const X rfl (zcV_i0 X E 179 (As := [.int (Int32.ofInt 1), .int (Int32.ofInt 1)]) (st := []) rfl rfl rfl rfl (k_bad G Is3 (by first | exact Or.inr (by decide) | omega) (by first | exact ⟨by decide, by decide⟩ | omega)) rfl (Nat.le_of_ble_eq_true rfl) (fun s5 e6 Is5 Fs5 hrs5 hps5 => ?_))))
    have Gs5 := fm_tq Fs3 Fs5 rfl rfl
    have b7 := bi_73 Is5
    have ws5_99 : iI s5 99 = iI s3 99 := fm_iq Fs5 rfl
    refine z_if_eq X (t := 31) rfl rfl hrs5 (fun g8 => ?_) (fun g8 => ?_)
    ·
      refine z_aload_n X (x := A 179) rfl (List.Mem.head _) (z_getI X 179 rfl (c518_ok rfl) rfl rfl ?_)
      have b9 := bi_99 Is5
      refine z_bipush X rfl (z_icmp_ne X (t := 42) rfl rfl (rng_to _) (by decide) (fun g10 => ?_) (fun g10 => ?_))
      ·
        refine z_aload_n X (x := A 179) rfl (List.Mem.head _) (s_getR X 179 rfl (c518_ok rfl) rfl rfl (z_aload_n X (x := A 179) rfl (List.Mem.head _) (z_getI X 179 rfl (c518_ok rfl) rfl rfl ?_)))
        have b11 := bi_99 Is5
        refine z_load_n X (x := x) rfl (List.Mem.tail _ (List.Mem.head _)) (z_ast X 265 rfl (c518_ok rfl) rfl (by first | exact b11.1 | omega) (show (iI s5 99) < 6 by first | exact oq_fac8de0c b11.2 g10 | omega) (cbig_ok rfl) (wd_gen (fun s12 hs12 => ?_)))
        have Is12 : Bd s12 := eqB hs12 (bd_C Is5 (show (0 : Int) ≤ x ∧ x ≤ 16777215 by first | exact ⟨oq_65cab3da g8 hps5.2.1, oq_c2c3ef0b g4⟩ | omega) ⟨by first | exact p0.1 | omega, by first | exact p0.2 | omega⟩)
        have Fs12 := eqF hs12 (fm_C Gs5 (inl_ok (a := 237) rfl))
        have ws12_73 : iI s12 73 = iI s5 73 := eqI hs12 rfl
        have ws12_99 : iI s12 99 = iI s5 99 := eqI hs12 rfl
        refine z_aload_n X (x := A 179) rfl (List.Mem.head _) (w_dup X.1 (ax_d X (show cdA 264 53 = some (.dup, 1, 0, 0, 0) from rfl)) rfl (z_getI X 179 rfl (c518_ok rfl) rfl rfl ?_))
        have b13 := bi_99 Is12
        refine z_const X rfl (z_add X rfl (s_putI X 179 rfl (c518_ok rfl) rfl rfl (by decide) rfl rfl rfl (wd_gen (fun s14 hs14 => ?_))))
        have Is14 : Bd s14 := eqB hs14 (bd_I Is12 (show (0 : Int) ≤ ((iI s12 99) + 1) ∧ ((iI s12 99) + 1) ≤ 6 by first | exact ⟨oq_54f49eb5 b13.1, oq_6c19c907 ws12_99 b11.2 g10⟩ | omega) ⟨by first | exact oq_74de1e16 b13.1 | omega, by first | exact oq_5fe14c36 b13.2 | omega⟩)
        have Fs14 := eqF hs14 (fm_I Fs12 (inl_ok (a := 99) rfl))
        have vs14 : iI s14 99 = ((iI s12 99) + 1) := eqI hs14 (iI_u ⟨by first | exact oq_74de1e16 b13.1 | omega, by first | exact oq_5fe14c36 b13.2 | omega⟩)
        have ws14_73 : iI s14 73 = iI s12 73 := eqI hs14 rfl
        refine z_aload_n X (x := A 179) rfl (List.Mem.head _) (z_getI X 179 rfl (c518_ok rfl) rfl rfl ?_)
        have b15 := bi_99 Is14
        refine z_const X rfl (z_sub X rfl ?_)
        exact w_iret X.1 q hRt rfl (ax_d X (show cdA 264 68 = some (.ireturn, 1, 0, 0, 0) from rfl)) (Nat.zero_le _) (Nat.zero_le _) ⟨_, rfl, Is14, Fs14, ((iI s14 99) - 1), rfl, ⟨by first | exact oq_c1e961c7 b15.1 | omega, by first | exact oq_b383b26c b15.2 | omega⟩, trivial⟩
      ·
        refine z_const X rfl ?_
        exact w_iret X.1 q hRt rfl (ax_d X (show cdA 264 41 = some (.ireturn, 1, 0, 0, 0) from rfl)) (Nat.zero_le _) (Nat.zero_le _) ⟨_, rfl, Is5, Gs5, (-1), rfl, (by decide), trivial⟩
    ·
      refine z_const X rfl ?_
      exact w_iret X.1 q hRt rfl (ax_d X (show cdA 264 30 = some (.ireturn, 1, 0, 0, 0) from rfl)) (Nat.zero_le _) (Nat.zero_le _) ⟨_, rfl, Is5, Gs5, 0, rfl, (by decide), trivial⟩
  ·
    refine z_load_n X (x := x) rfl (List.Mem.tail _ (List.Mem.head _)) (z_ldcw X rfl ?_)
    have N16 : ∀ e17 : Int, (((x < 16777216) ∧ e17 = 0) ∨ ((16777216 ≤ x) ∧ e17 = 1)) → WS k 22 [(0, .ref (A 179)), (1, .int (Int32.ofInt x))] [.int (Int32.ofInt e17), .ref (A 179)] (Wd A dT s3) 0 0 := by
      intro e17 he17
      have re17 : 0 ≤ e17 ∧ e17 ≤ 1 := by first | (clear he17; omega) | omega
      refine z_const X rfl (zcV_i0 X E 179 (As := [.int (Int32.ofInt e17), .int (Int32.ofInt 1)]) (st := []) rfl rfl rfl rfl (k_bad G Is3 (by first | exact oq_31e518ae re17.2 re17.1 | omega) (by first | exact ⟨by decide, by decide⟩ | omega)) rfl (Nat.le_of_ble_eq_true rfl) (fun s18 e19 Is18 Fs18 hrs18 hps18 => ?_))
      have Gs18 := fm_tq Fs3 Fs18 rfl rfl
      have b20 := bi_73 Is18
      have ws18_99 : iI s18 99 = iI s3 99 := fm_iq Fs18 rfl
      refine z_if_eq X (t := 31) rfl rfl hrs18 (fun g21 => ?_) (fun g21 => ?_)
      ·
        refine z_aload_n X (x := A 179) rfl (List.Mem.head _) (z_getI X 179 rfl (c518_ok rfl) rfl rfl ?_)
        have b22 := bi_99 Is18
        refine z_bipush X rfl (z_icmp_ne X (t := 42) rfl rfl (rng_to _) (by decide) (fun g23 => ?_) (fun g23 => ?_))
        ·
          refine z_aload_n X (x := A 179) rfl (List.Mem.head _) (s_getR X 179 rfl (c518_ok rfl) rfl rfl (z_aload_n X (x := A 179) rfl (List.Mem.head _) (z_getI X 179 rfl (c518_ok rfl) rfl rfl ?_)))
          have b24 := bi_99 Is18
          refine z_load_n X (x := x) rfl (List.Mem.tail _ (List.Mem.head _)) (z_ast X 265 rfl (c518_ok rfl) rfl (by first | exact b24.1 | omega) (show (iI s18 99) < 6 by first | exact oq_fac8de0c b24.2 g23 | omega) (cbig_ok rfl) (wd_gen (fun s25 hs25 => ?_)))
          have Is25 : Bd s25 := eqB hs25 (bd_C Is18 (show (0 : Int) ≤ x ∧ x ≤ 16777215 by first | exact ⟨g4, oq_a8b2581c g21 hps18.2.1 re17.2 he17⟩ | omega) ⟨by first | exact p0.1 | omega, by first | exact p0.2 | omega⟩)
          have Fs25 := eqF hs25 (fm_C Gs18 (inl_ok (a := 237) rfl))
          have ws25_73 : iI s25 73 = iI s18 73 := eqI hs25 rfl
          have ws25_99 : iI s25 99 = iI s18 99 := eqI hs25 rfl
          refine z_aload_n X (x := A 179) rfl (List.Mem.head _) (w_dup X.1 (ax_d X (show cdA 264 53 = some (.dup, 1, 0, 0, 0) from rfl)) rfl (z_getI X 179 rfl (c518_ok rfl) rfl rfl ?_))
          have b26 := bi_99 Is25
          refine z_const X rfl (z_add X rfl (s_putI X 179 rfl (c518_ok rfl) rfl rfl (by decide) rfl rfl rfl (wd_gen (fun s27 hs27 => ?_))))
          have Is27 : Bd s27 := eqB hs27 (bd_I Is25 (show (0 : Int) ≤ ((iI s25 99) + 1) ∧ ((iI s25 99) + 1) ≤ 6 by first | exact ⟨oq_54f49eb5 b26.1, oq_6c19c907 ws25_99 b24.2 g23⟩ | omega) ⟨by first | exact oq_74de1e16 b26.1 | omega, by first | exact oq_5fe14c36 b26.2 | omega⟩)
          have Fs27 := eqF hs27 (fm_I Fs25 (inl_ok (a := 99) rfl))
          have vs27 : iI s27 99 = ((iI s25 99) + 1) := eqI hs27 (iI_u ⟨by first | exact oq_74de1e16 b26.1 | omega, by first | exact oq_5fe14c36 b26.2 | omega⟩)
          have ws27_73 : iI s27 73 = iI s25 73 := eqI hs27 rfl
          refine z_aload_n X (x := A 179) rfl (List.Mem.head _) (z_getI X 179 rfl (c518_ok rfl) rfl rfl ?_)
          have b28 := bi_99 Is27
          refine z_const X rfl (z_sub X rfl ?_)
          exact w_iret X.1 q hRt rfl (ax_d X (show cdA 264 68 = some (.ireturn, 1, 0, 0, 0) from rfl)) (Nat.zero_le _) (Nat.zero_le _) ⟨_, rfl, Is27, Fs27, ((iI s27 99) - 1), rfl, ⟨by first | exact oq_c1e961c7 b28.1 | omega, by first | exact oq_b383b26c b28.2 | omega⟩, trivial⟩
        ·
          refine z_const X rfl ?_
          exact w_iret X.1 q hRt rfl (ax_d X (show cdA 264 41 = some (.ireturn, 1, 0, 0, 0) from rfl)) (Nat.zero_le _) (Nat.zero_le _) ⟨_, rfl, Is18, Gs18, (-1), rfl, (by decide), trivial⟩
      ·
        refine z_const X rfl ?_
        exact w_iret X.1 q hRt rfl (ax_d X (show cdA 264 30 = some (.ireturn, 1, 0, 0, 0) from rfl)) (Nat.zero_le _) (Nat.zero_le _) ⟨_, rfl, Is18, Gs18, 0, rfl, (by decide), trivial⟩
    refine z_icmp_lt X (t := 21) rfl rfl ⟨by first | exact p0.1 | omega, by first | exact p0.2 | omega⟩ (by decide) (fun g29 => ?_) (fun g29 => ?_)
    ·
      exact z_const X rfl (N16 _ (Or.inl ⟨g29, rfl⟩))
    ·
      exact z_const X rfl (z_goto X (t := 22) rfl rfl (N16 _ (Or.inr (⟨g29, rfl⟩))))
end M31
end
section
theorem oq_4ee82282 {a0 : Int} (h0 : a0 ≤ 128) : a0 ≤ 2147483647 := by omega
theorem oq_afb89947 {a0 : Int} (h0 : a0 < 128) : (a0 : Int).toNat < 128 := by omega
theorem oq_d2afb425 {a0 : Int} (h0 : a0 < 128) : (a0 + 1) ≤ 128 := by omega
theorem qk_me {a b : Int} {n : Nat} (h : a.toNat < n + 1) (h1 : b < a) (h2 : 0 < a) : b.toNat < n := by omega
theorem oq_c268b7bd {a0 : Int} (h0 : a0 < 128) : 0 < (128 - a0) := by omega
theorem oq_4cdb41ba {a0 a1 a2 : Int} (h0 : a0 ≤ 1) (h1 : 0 ≤ a0) (h2 : ((a1 ≠ a2 ∧ a0 = 0) ∨ (a1 = a2 ∧ a0 = 1))) : (a0 = 0 ∨ a0 = 1) := by omega
theorem oq_8ff7beb9 {a0 a1 : Int} (h0 : a0 < a1) (h1 : a1 ≤ 24) : a0 < 24 := by omega
theorem oq_9e668fc9 {a0 a1 : Int} (h0 : a0 < a1) (h1 : a1 ≤ 24) : (a0 : Int).toNat < 24 := by omega
theorem oq_41473be0 {a0 a1 : Int} (h0 : a0 < a1) (h1 : a1 ≤ 24) : (a0 + 1) ≤ 24 := by omega
theorem oq_9dea93e6 {a0 a1 : Int} (h0 : a0 < a1) (h1 : a1 ≤ 24) : 0 < (24 - a0) := by omega
theorem oq_d3f5d874 {a0 : Int} (h0 : a0 ≤ 8) : a0 ≤ 2147483647 := by omega
theorem oq_7f5b2e79 {a0 a1 : Int} (h0 : a0 < a1) (h1 : a1 ≤ 8) : a0 < 8 := by omega
theorem oq_67be0351 {a0 a1 : Int} (h0 : a0 < a1) (h1 : a1 ≤ 8) : (a0 : Int).toNat < 8 := by omega
theorem oq_07d346ce {a0 : Int} (h0 : a0 ≤ 127) : a0 ≤ 2147483647 := by omega
theorem oq_f6204d84 {a0 a1 : Int} (h0 : a0 < a1) (h1 : a1 ≤ 8) : (a0 + 1) ≤ 8 := by omega
theorem oq_ccc5e5e0 {a0 a1 : Int} (h0 : a0 < a1) (h1 : a1 ≤ 8) : 0 < (8 - a0) := by omega
theorem oq_0661024d {a0 a1 a2 a3 : Int} (h0 : a0 = 0) (h1 : (a1 = 1 → a0 = 1)) (h2 : a1 ≤ 1) (h3 : ((a2 ≠ 0 ∧ a1 = 0) ∨ (a2 = 0 ∧ a1 = 1))) (h4 : ((a2 = 1 ∧ (0 ≤ a3 ∧ a3 ≤ 127)) ∨ (a2 = 0 ∧ (a3 < 0 ∨ 127 < a3)))) : (0 ≤ a3 ∧ a3 ≤ 127) := by omega
theorem oq_5dae24e3 {a0 : Int} (h0 : a0 ≠ 8) (h1 : a0 ≤ 8) : a0 ≤ 7 := by omega
theorem oq_aaea290e {a0 : Int} (h0 : a0 ≤ 7) : a0 < 8 := by omega
theorem oq_216077ba {a0 a1 : Int} (h0 : a0 = a1) (h1 : a1 ≤ 7) : (a0 + 1) ≤ 8 := by omega
theorem oq_3762dfb5 {a0 : Int} (h0 : a0 ≤ 8) : (a0 + 1) ≤ 2147483647 := by omega
theorem oq_9272904e {a0 a1 a2 : Int} (h0 : a0 = a1) (h1 : a2 ≤ a1) : a2 ≤ a0 := by omega
theorem oq_8dc46605 {a0 a1 a2 a3 : Int} (h0 : a0 = a1) (h1 : (a1 = a2 ∨ a1 ≤ a3)) (h2 : a2 ≤ a1) : (a0 = a2 ∨ a0 ≤ a3) := by omega
theorem oq_1aa5be9e {a0 a1 a2 : Int} (h0 : a0 = a1) (h1 : a1 = a2) : a0 = a2 := by omega
theorem oq_9fb74c64 {a0 a1 a2 a3 : Int} (h0 : a0 = 32) (h1 : a1 = a2) (h2 : ((a3 ≤ a2 ∧ a0 = (-1)) ∨ (a2 < a3 ∧ (0 ≤ a0 ∧ a0 ≤ 255)))) (h3 : a3 ≤ 200) : (a1 + 1) ≤ 400 := by omega
theorem oq_964ce197 {a0 : Int} (h0 : a0 ≤ 400) : (a0 + 1) ≤ 2147483647 := by omega
theorem oq_6d7927be {a0 a1 a2 a3 : Int} (h0 : a0 = (a1 + 1)) (h1 : a2 ≤ a3) (h2 : a1 = a3) : a2 ≤ a0 := by omega
theorem oq_cfc91213 {a0 a1 a2 a3 a4 a5 a6 : Int} (h0 : a0 = (a1 + 1)) (h1 : a2 = 32) (h2 : a1 = a3) (h3 : ((a4 ≤ a3 ∧ a2 = (-1)) ∨ (a3 < a4 ∧ (0 ≤ a2 ∧ a2 ≤ 255)))) (h4 : a4 = a5) : (a0 = a6 ∨ a0 ≤ a5) := by omega
theorem oq_d0d2714e {a0 a1 a2 a3 : Int} (h0 : a0 = a1) (h1 : a2 = a3) (h2 : a1 = a2) : a0 = a3 := by omega
theorem oq_956b687f {a0 a1 a2 a3 a4 a5 : Int} (h0 : a0 = a1) (h1 : a2 = (a3 + 1)) (h2 : a1 = a4) (h3 : a3 = a5) : (a0 - a2) < (a4 - a5) := by omega
theorem oq_a9fc5a51 {a0 a1 a2 : Int} (h0 : a0 = 32) (h1 : ((a1 ≤ a2 ∧ a0 = (-1)) ∨ (a2 < a1 ∧ (0 ≤ a0 ∧ a0 ≤ 255)))) : 0 < (a1 - a2) := by omega
/-! The model: simple loops -/
section M32
variable {l : Launch} {s0 : State} {D : va_G} {tys : List (ClassId × FieldType)} {a0 : Array Value} {A : Nat → Nat} {dT : Nat → ClassId} {s : PS}
theorem k_hasCells (G : GX l s0 D tys a0 dT) (I : Bd s) {x : Int} (p0 : rng x) : CT l s0 D A dT 233 (rmN 233) [.ref (A 179), .int (Int32.ofInt x)] s (fun o t => Bd t ∧ Fm [] [] s t ∧ ∃ e, o = .inl (some (.int (Int32.ofInt e))) ∧ rng e ∧ (e = 0 ∨ e = 1)) := by
  refine ct_of G (by decide) (Nat.le_of_ble_eq_true rfl) (fun k X E hRt hXt q => ?_)
  show WS k 0 [(0, .ref (A 179)), (1, .int (Int32.ofInt x))] [] _ 0 0
  have F : Fm [] [] s s := fm_rf _ _ s
  have L2 : ∀ (n : Nat) (t : PS) (x1 c : Int), Bd t → Fm [] [] s t → (rng x1 ∧ 0 ≤ c ∧ c ≤ 128) → (128 - c : Int).toNat < n → (∀ (t' : PS) (x1' c' : Int), Bd t' → Fm [] [] s t' → (rng x1' ∧ 0 ≤ c' ∧ c' ≤ 128) → WS k 27 [(0, .ref (A 179)), (1, .int (Int32.ofInt x1')), (2, .int (Int32.ofInt c'))] [] (Wd A dT t') 0 0) → WS k 2 [(0, .ref (A 179)), (1, .int (Int32.ofInt x1)), (2, .int (Int32.ofInt c))] [] (Wd A dT t) 0 0 := by
    intro n
    induction n with
    | zero =>
      intro t x1 c I F hi hm kx
      exact absurd hm (Nat.not_lt_zero _)
    | succ n ih =>
      intro t x1 c I F hi hm kx
      refine z_load_n X (x := c) rfl (List.Mem.tail _ (List.Mem.tail _ (List.Mem.head _))) (z_sipush X rfl (z_icmp_ge X (t := 27) rfl rfl ⟨by first | exact oq_fa4e5087 hi.2.1 | omega, by first | exact oq_4ee82282 hi.2.2 | omega⟩ (by decide) (fun g1001 => ?_) (fun g1001 => ?_)))
      ·
        refine WS_pq [0, 1, 2] (lv' := [(0, .ref (A 179)), (1, .int (Int32.ofInt x1)), (2, .int (Int32.ofInt c))]) rfl ?_
        exact kx _ x1 c I F (by first | exact ⟨And.intro (hi.1.1) (hi.1.2), hi.2.1, hi.2.2⟩ | omega)
      ·
        refine z_aload_n X (x := A 179) rfl (List.Mem.head _) (s_getR X 179 rfl (c518_ok rfl) rfl rfl (z_load_n X (x := c) rfl (List.Mem.tail _ (List.Mem.tail _ (List.Mem.head _))) (z_ald X 256 rfl (c518_ok rfl) rfl (by first | exact hi.2.1 | omega) (show c < 128 by first | exact g1001 | omega) (cbig_ok rfl) ?_)))
        have b1002 := bc_228 I (show (c).toNat < 128 by first | exact oq_afb89947 g1001 | omega)
        refine z_load_n X (x := x1) rfl (List.Mem.tail _ (List.Mem.head _)) (z_icmp_ne X (t := 21) rfl rfl (rng_to _) ⟨by first | exact hi.1.1 | omega, by first | exact hi.1.2 | omega⟩ (fun g1003 => ?_) (fun g1003 => ?_))
        ·
          refine z_inc X (x := c) (lv' := [(2, .int (Int32.ofInt (c + 1))), (0, .ref (A 179)), (1, .int (Int32.ofInt x1))]) rfl (by decide) (List.Mem.tail _ (List.Mem.tail _ (List.Mem.head _))) (fun _ h => h) (z_goto X (t := 2) rfl rfl (WS_pq [1, 2, 0] (lv' := [(0, .ref (A 179)), (1, .int (Int32.ofInt x1)), (2, .int (Int32.ofInt (c + 1)))]) rfl ?_))
          exact ih _ x1 (c + 1) I F (by first | exact ⟨And.intro (hi.1.1) (hi.1.2), oq_54f49eb5 hi.2.1, oq_d2afb425 g1001⟩ | omega) (by first | exact qk_me hm (by decide) (oq_c268b7bd g1001) | omega) kx
        ·
          refine z_const X rfl ?_
          exact w_iret X.1 q hRt (nar_ret (by first | exact Or.inr (by decide) | omega)) (ax_d X (show cdA 233 20 = some (.ireturn, 1, 0, 0, 0) from rfl)) (Nat.zero_le _) (Nat.zero_le _) ⟨_, rfl, I, F, 1, rfl, (by decide), by first | exact Or.inr (by decide) | omega⟩
  refine z_const X rfl (z_store_n X (lv' := [(2, .int (Int32.ofInt 0)), (0, .ref (A 179)), (1, .int (Int32.ofInt x))]) rfl (by decide) (fun _ h => h) (WS_pq [1, 2, 0] (lv' := [(0, .ref (A 179)), (1, .int (Int32.ofInt x)), (2, .int (Int32.ofInt 0))]) rfl (L2 ((128 - 0 : Int).toNat + 1) s x 0 I F (by first | exact ⟨And.intro (p0.1) (p0.2), by decide, by decide⟩ | omega) (Nat.lt_succ_self _) ?_)))
  intro s1 x2 x3 Is1 Fs1 hs1
  refine z_const X rfl ?_
  exact w_iret X.1 q hRt (nar_ret (by first | exact Or.inl (by decide) | omega)) (ax_d X (show cdA 233 28 = some (.ireturn, 1, 0, 0, 0) from rfl)) (Nat.zero_le _) (Nat.zero_le _) ⟨_, rfl, Is1, Fs1, 0, rfl, (by decide), by first | exact Or.inl (by decide) | omega⟩
theorem k_setOf (G : GX l s0 D tys a0 dT) (I : Bd s) {x : Int} (p0 : rng x) : CT l s0 D A dT 230 (rmN 230) [.ref (A 179), .int (Int32.ofInt x)] s (fun o t => Bd t ∧ Fm [] [230] s t ∧ o = .inl none ∧ (True)) := by
  refine ct_of G (by decide) (Nat.le_of_ble_eq_true rfl) (fun k X E hRt hXt q => ?_)
  show WS k 0 [(0, .ref (A 179)), (1, .int (Int32.ofInt x))] [] _ 0 0
  have F : Fm [] [230] s s := fm_rf _ _ s
  have L2 : ∀ (n : Nat) (t : PS) (x1 c : Int), Bd t → Fm [] [230] s t → (rng x1 ∧ 0 ≤ c ∧ c ≤ 128) → (128 - c : Int).toNat < n → (∀ (t' : PS) (x1' c' : Int), Bd t' → Fm [] [230] s t' → (rng x1' ∧ 0 ≤ c' ∧ c' ≤ 128) → WS k 36 [(0, .ref (A 179)), (1, .int (Int32.ofInt x1')), (2, .int (Int32.ofInt c'))] [] (Wd A dT t') 0 0) → WS k 2 [(0, .ref (A 179)), (1, .int (Int32.ofInt x1)), (2, .int (Int32.ofInt c))] [] (Wd A dT t) 0 0 := by
    intro n
    induction n with
    | zero =>
      intro t x1 c I F hi hm kx
      exact absurd hm (Nat.not_lt_zero _)
    | succ n ih =>
      intro t x1 c I F hi hm kx
      refine z_load_n X (x := c) rfl (List.Mem.tail _ (List.Mem.tail _ (List.Mem.head _))) (z_sipush X rfl (z_icmp_ge X (t := 36) rfl rfl ⟨by first | exact oq_fa4e5087 hi.2.1 | omega, by first | exact oq_4ee82282 hi.2.2 | omega⟩ (by decide) (fun g1001 => ?_) (fun g1001 => ?_)))
      ·
        refine WS_pq [0, 1, 2] (lv' := [(0, .ref (A 179)), (1, .int (Int32.ofInt x1)), (2, .int (Int32.ofInt c))]) rfl ?_
        exact kx _ x1 c I F (by first | exact ⟨And.intro (hi.1.1) (hi.1.2), hi.2.1, hi.2.2⟩ | omega)
      ·
        refine z_aload_n X (x := A 179) rfl (List.Mem.head _) (s_getR X 179 rfl (c518_ok rfl) rfl rfl (z_load_n X (x := c) rfl (List.Mem.tail _ (List.Mem.tail _ (List.Mem.head _))) (z_aload_n X (x := A 179) rfl (List.Mem.head _) (s_getR X 179 rfl (c518_ok rfl) rfl rfl (z_load_n X (x := c) rfl (List.Mem.tail _ (List.Mem.tail _ (List.Mem.head _))) (z_ald X 256 rfl (c518_ok rfl) rfl (by first | exact hi.2.1 | omega) (show c < 128 by first | exact g1001 | omega) (cbig_ok rfl) ?_))))))
        have b1002 := bc_228 I (show (c).toNat < 128 by first | exact oq_afb89947 g1001 | omega)
        refine z_load_n X (x := x1) rfl (List.Mem.tail _ (List.Mem.head _)) ?_
        have N1003 : ∀ e1004 : Int, ((((iC t 228 (c).toNat) ≠ x1) ∧ e1004 = 0) ∨ (((iC t 228 (c).toNat) = x1) ∧ e1004 = 1)) → WS k 29 [(0, .ref (A 179)), (1, .int (Int32.ofInt x1)), (2, .int (Int32.ofInt c))] [.int (Int32.ofInt e1004), .int (Int32.ofInt c), .ref (A 258)] (Wd A dT t) 0 0 := by
          intro e1004 he1004
          have re1004 : 0 ≤ e1004 ∧ e1004 ≤ 1 := by first | (clear he1004; omega) | omega
          refine z_zast X 258 rfl (c518_ok rfl) rfl (by first | exact hi.2.1 | omega) (show c < 128 by first | exact g1001 | omega) (cbig_ok rfl) (by first | exact oq_4cdb41ba re1004.2 re1004.1 he1004 | omega) (wd_gen (fun s1005 hs1005 => ?_))
          have Is1005 : Bd s1005 := eqB hs1005 (bd_C I (show (0 : Int) ≤ e1004 ∧ e1004 ≤ 1 by first | exact ⟨re1004.1, re1004.2⟩ | omega) ⟨by first | exact oq_fa4e5087 re1004.1 | omega, by first | exact oq_22e1e6b0 re1004.2 | omega⟩)
          have Fs1005 := eqF hs1005 (fm_C F (inl_ok (a := 230) rfl))
          refine z_inc X (x := c) (lv' := [(2, .int (Int32.ofInt (c + 1))), (0, .ref (A 179)), (1, .int (Int32.ofInt x1))]) rfl (by decide) (List.Mem.tail _ (List.Mem.tail _ (List.Mem.head _))) (fun _ h => h) (z_goto X (t := 2) rfl rfl (WS_pq [1, 2, 0] (lv' := [(0, .ref (A 179)), (1, .int (Int32.ofInt x1)), (2, .int (Int32.ofInt (c + 1)))]) rfl ?_))
          exact ih _ x1 (c + 1) Is1005 Fs1005 (by first | exact ⟨And.intro (hi.1.1) (hi.1.2), oq_54f49eb5 hi.2.1, oq_d2afb425 g1001⟩ | omega) (by first | exact qk_me hm (by decide) (oq_c268b7bd g1001) | omega) kx
        refine z_icmp_ne X (t := 28) rfl rfl (rng_to _) ⟨by first | exact hi.1.1 | omega, by first | exact hi.1.2 | omega⟩ (fun g1006 => ?_) (fun g1006 => ?_)
        ·
          exact z_const X rfl (N1003 _ (Or.inl ⟨g1006, rfl⟩))
        ·
          exact z_const X rfl (z_goto X (t := 29) rfl rfl (N1003 _ (Or.inr (⟨g1006, rfl⟩))))
  refine z_const X rfl (z_store_n X (lv' := [(2, .int (Int32.ofInt 0)), (0, .ref (A 179)), (1, .int (Int32.ofInt x))]) rfl (by decide) (fun _ h => h) (WS_pq [1, 2, 0] (lv' := [(0, .ref (A 179)), (1, .int (Int32.ofInt x)), (2, .int (Int32.ofInt 0))]) rfl (L2 ((128 - 0 : Int).toNat + 1) s x 0 I F (by first | exact ⟨And.intro (p0.1) (p0.2), by decide, by decide⟩ | omega) (Nat.lt_succ_self _) ?_)))
  intro s1 x2 x3 Is1 Fs1 hs1
  exact w_vret X.1 q hRt (ax_d X (show cdA 230 36 = some (.return_, 1, 0, 0, 0) from rfl)) (Nat.zero_le _) (Nat.zero_le _) ⟨_, rfl, Is1, Fs1, rfl, trivial⟩
theorem k_region (G : GX l s0 D tys a0 dT) (I : Bd s) {x : Int} (p0 : rng x) : CT l s0 D A dT 258 (rmN 258) [.ref (A 179), .int (Int32.ofInt x)] s (fun o t => Bd t ∧ Fm [73, 97] [234] s t ∧ ∃ e, o = .inl (some (.int (Int32.ofInt e))) ∧ rng e ∧ (True)) := by
  refine ct_of G (by decide) (Nat.le_of_ble_eq_true rfl) (fun k X E hRt hXt q => ?_)
  show WS k 0 [(0, .ref (A 179)), (1, .int (Int32.ofInt x))] [] _ 0 0
  have F : Fm [73, 97] [234] s s := fm_rf _ _ s
  have b1 := bi_73 I
  have b2 := bi_97 I
  have L43 : ∀ (n : Nat) (t : PS) (x1 c : Int), Bd t → Fm [73, 97] [234] s t → ((0 ≤ x1 ∧ x1 ≤ 127) ∧ 0 ≤ c ∧ c ≤ 8 ∧ iI t 97 ≤ 7) → (8 - c : Int).toNat < n → (∀ (t' : PS) (x1' c' : Int), Bd t' → Fm [73, 97] [234] s t' → ((0 ≤ x1' ∧ x1' ≤ 127) ∧ 0 ≤ c' ∧ c' ≤ 8 ∧ iI t' 97 ≤ 7) → WS k 70 [(0, .ref (A 179)), (1, .int (Int32.ofInt x1')), (2, .int (Int32.ofInt c'))] [] (Wd A dT t') 0 0) → WS k 43 [(0, .ref (A 179)), (1, .int (Int32.ofInt x1)), (2, .int (Int32.ofInt c))] [] (Wd A dT t) 0 0 := by
    intro n
    induction n with
    | zero =>
      intro t x1 c I F hi hm kx
      exact absurd hm (Nat.not_lt_zero _)
    | succ n ih =>
      intro t x1 c I F hi hm kx
      have b1001 := bi_73 I
      have b1002 := bi_97 I
      refine z_load_n X (x := c) rfl (List.Mem.tail _ (List.Mem.tail _ (List.Mem.head _))) (z_aload_n X (x := A 179) rfl (List.Mem.head _) (z_getI X 179 rfl (c518_ok rfl) rfl rfl ?_))
      have b1003 := bi_97 I
      refine z_icmp_ge X (t := 70) rfl rfl ⟨by first | exact oq_fa4e5087 hi.2.1 | omega, by first | exact oq_d3f5d874 hi.2.2.1 | omega⟩ (rng_to _) (fun g1004 => ?_) (fun g1004 => ?_)
      ·
        refine WS_pq [0, 1, 2] (lv' := [(0, .ref (A 179)), (1, .int (Int32.ofInt x1)), (2, .int (Int32.ofInt c))]) rfl ?_
        exact kx _ x1 c I F (by first | exact ⟨And.intro (hi.1.1) (hi.1.2), hi.2.1, hi.2.2.1, hi.2.2.2⟩ | omega)
      ·
        refine z_aload_n X (x := A 179) rfl (List.Mem.head _) (s_getR X 179 rfl (c518_ok rfl) rfl rfl (z_load_n X (x := c) rfl (List.Mem.tail _ (List.Mem.tail _ (List.Mem.head _))) (z_ald X 262 rfl (c518_ok rfl) rfl (by first | exact hi.2.1 | omega) (show c < 8 by first | exact oq_7f5b2e79 g1004 b1003.2 | omega) (cbig_ok rfl) ?_)))
        have b1005 := bc_234 I (show (c).toNat < 8 by first | exact oq_67be0351 g1004 b1003.2 | omega)
        refine z_load_n X (x := x1) rfl (List.Mem.tail _ (List.Mem.head _)) (z_icmp_ne X (t := 64) rfl rfl (rng_to _) ⟨by first | exact oq_fa4e5087 hi.1.1 | omega, by first | exact oq_07d346ce hi.1.2 | omega⟩ (fun g1006 => ?_) (fun g1006 => ?_))
        ·
          refine z_inc X (x := c) (lv' := [(2, .int (Int32.ofInt (c + 1))), (0, .ref (A 179)), (1, .int (Int32.ofInt x1))]) rfl (by decide) (List.Mem.tail _ (List.Mem.tail _ (List.Mem.head _))) (fun _ h => h) (z_goto X (t := 43) rfl rfl (WS_pq [1, 2, 0] (lv' := [(0, .ref (A 179)), (1, .int (Int32.ofInt x1)), (2, .int (Int32.ofInt (c + 1)))]) rfl ?_))
          exact ih _ x1 (c + 1) I F (by first | exact ⟨And.intro (hi.1.1) (hi.1.2), oq_54f49eb5 hi.2.1, oq_f6204d84 g1004 b1003.2, hi.2.2.2⟩ | omega) (by first | exact qk_me hm (by decide) (oq_ccc5e5e0 g1004 b1003.2) | omega) kx
        ·
          refine z_bipush X rfl ?_
          exact w_iret X.1 q hRt rfl (ax_d X (show cdA 258 63 = some (.ireturn, 1, 0, 0, 0) from rfl)) (Nat.zero_le _) (Nat.zero_le _) ⟨_, rfl, I, F, (-2), rfl, (by decide), trivial⟩
  refine z_aload_n X (x := A 179) rfl (List.Mem.head _) (z_const X rfl (s_putI X 179 rfl (c518_ok rfl) rfl rfl (by decide) rfl rfl rfl (wd_gen (fun s3 hs3 => ?_))))
  have Is3 : Bd s3 := eqB hs3 (bd_I I (show (0 : Int) ≤ 0 ∧ 0 ≤ 3 by first | exact ⟨by decide, by decide⟩ | omega) (by decide))
  have Fs3 := eqF hs3 (fm_I F (inl_ok (a := 73) rfl))
  have vs3 : iI s3 73 = 0 := eqI hs3 (iI_u (by decide))
  have ws3_97 : iI s3 97 = iI s 97 := eqI hs3 rfl
  refine z_aload_n X (x := A 179) rfl (List.Mem.head _) (z_load_n X (x := x) rfl (List.Mem.tail _ (List.Mem.head _)) (z_const X rfl (z_bipush X rfl (zcS_i0 X E (As := [.int (Int32.ofInt x), .int (Int32.ofInt 0), .int (Int32.ofInt 127)]) (st := [.ref (A 179)]) rfl rfl (k_in G Is3 (by first | exact ⟨p0.1, p0.2⟩ | omega) (by first | exact ⟨by decide, by decide⟩ | omega) (by first | exact ⟨by decide, by decide⟩ | omega)) rfl (Nat.le_of_ble_eq_true rfl) (fun s4 e5 Is4 Fs4 hrs4 hps4 => ?_)))))
  have Gs4 := fm_tq Fs3 Fs4 rfl rfl
  have ws4_73 : iI s4 73 = iI s3 73 := fm_iq Fs4 rfl
  have ws4_97 : iI s4 97 = iI s3 97 := fm_iq Fs4 rfl
  have N6 : ∀ e7 : Int, (((e5 ≠ 0) ∧ e7 = 0) ∨ ((e5 = 0) ∧ e7 = 1)) → WS k 21 [(0, .ref (A 179)), (1, .int (Int32.ofInt x))] [.int (Int32.ofInt e7), .ref (A 179)] (Wd A dT s4) 0 0 := by
    intro e7 he7
    have re7 : 0 ≤ e7 ∧ e7 ≤ 1 := by first | (clear he7 hps4; omega) | (clear hps4; omega) | omega
    refine z_const X rfl (zcV_i0 X E 179 (As := [.int (Int32.ofInt e7), .int (Int32.ofInt 1)]) (st := []) rfl rfl rfl rfl (k_bad G Is4 (by first | exact oq_31e518ae re7.2 re7.1 | omega) (by first | exact ⟨by decide, by decide⟩ | omega)) rfl (Nat.le_of_ble_eq_true rfl) (fun s8 e9 Is8 Fs8 hrs8 hps8 => ?_))
    have Gs8 := fm_tq Gs4 Fs8 rfl rfl
    have b10 := bi_73 Is8
    have ws8_97 : iI s8 97 = iI s4 97 := fm_iq Fs8 rfl
    refine z_if_eq X (t := 30) rfl rfl hrs8 (fun g11 => ?_) (fun g11 => ?_)
    ·
      refine z_aload_n X (x := A 179) rfl (List.Mem.head _) (z_getI X 179 rfl (c518_ok rfl) rfl rfl ?_)
      have b12 := bi_97 Is8
      refine z_bipush X rfl (z_icmp_ne X (t := 41) rfl rfl (rng_to _) (by decide) (fun g13 => ?_) (fun g13 => ?_))
      ·
        refine z_const X rfl (z_store_n X (lv' := [(2, .int (Int32.ofInt 0)), (0, .ref (A 179)), (1, .int (Int32.ofInt x))]) rfl (by decide) (fun _ h => h) (WS_pq [1, 2, 0] (lv' := [(0, .ref (A 179)), (1, .int (Int32.ofInt x)), (2, .int (Int32.ofInt 0))]) rfl (L43 ((8 - 0 : Int).toNat + 1) s8 x 0 Is8 Gs8 (by first | exact ⟨oq_0661024d g11 hps8.2.1 re7.2 he7 hps4, by decide, by decide, oq_5dae24e3 g13 b12.2⟩ | omega) (Nat.lt_succ_self _) ?_)))
        intro s14 x15 x16 Is14 Fs14 hs14
        have b17 := bi_73 Is14
        have b18 := bi_97 Is14
        refine z_aload_n X (x := A 179) rfl (List.Mem.head _) (s_getR X 179 rfl (c518_ok rfl) rfl rfl (z_aload_n X (x := A 179) rfl (List.Mem.head _) (z_getI X 179 rfl (c518_ok rfl) rfl rfl ?_)))
        have b19 := bi_97 Is14
        refine z_load_n X (x := x15) rfl (List.Mem.tail _ (List.Mem.head _)) (z_ast X 262 rfl (c518_ok rfl) rfl (by first | exact b19.1 | omega) (show (iI s14 97) < 8 by first | exact oq_aaea290e hs14.2.2.2 | omega) (cbig_ok rfl) (wd_gen (fun s20 hs20 => ?_)))
        have Is20 : Bd s20 := eqB hs20 (bd_C Is14 (show (0 : Int) ≤ x15 ∧ x15 ≤ 127 by first | exact ⟨hs14.1.1, hs14.1.2⟩ | omega) ⟨by first | exact oq_fa4e5087 hs14.1.1 | omega, by first | exact oq_07d346ce hs14.1.2 | omega⟩)
        have Fs20 := eqF hs20 (fm_C Fs14 (inl_ok (a := 234) rfl))
        have ws20_73 : iI s20 73 = iI s14 73 := eqI hs20 rfl
        have ws20_97 : iI s20 97 = iI s14 97 := eqI hs20 rfl
        refine z_aload_n X (x := A 179) rfl (List.Mem.head _) (w_dup X.1 (ax_d X (show cdA 258 81 = some (.dup, 1, 0, 0, 0) from rfl)) rfl (z_getI X 179 rfl (c518_ok rfl) rfl rfl ?_))
        have b21 := bi_97 Is20
        refine z_const X rfl (z_add X rfl (s_putI X 179 rfl (c518_ok rfl) rfl rfl (by decide) rfl rfl rfl (wd_gen (fun s22 hs22 => ?_))))
        have Is22 : Bd s22 := eqB hs22 (bd_I Is20 (show (0 : Int) ≤ ((iI s20 97) + 1) ∧ ((iI s20 97) + 1) ≤ 8 by first | exact ⟨oq_54f49eb5 b21.1, oq_216077ba ws20_97 hs14.2.2.2⟩ | omega) ⟨by first | exact oq_74de1e16 b21.1 | omega, by first | exact oq_3762dfb5 b21.2 | omega⟩)
        have Fs22 := eqF hs22 (fm_I Fs20 (inl_ok (a := 97) rfl))
        have vs22 : iI s22 97 = ((iI s20 97) + 1) := eqI hs22 (iI_u ⟨by first | exact oq_74de1e16 b21.1 | omega, by first | exact oq_3762dfb5 b21.2 | omega⟩)
        have ws22_73 : iI s22 73 = iI s20 73 := eqI hs22 rfl
        refine z_aload_n X (x := A 179) rfl (List.Mem.head _) (z_getI X 179 rfl (c518_ok rfl) rfl rfl ?_)
        have b23 := bi_97 Is22
        exact w_iret X.1 q hRt rfl (ax_d X (show cdA 258 94 = some (.ireturn, 1, 0, 0, 0) from rfl)) (Nat.zero_le _) (Nat.zero_le _) ⟨_, rfl, Is22, Fs22, (iI s22 97), rfl, (rng_to _), trivial⟩
      ·
        refine z_const X rfl ?_
        exact w_iret X.1 q hRt rfl (ax_d X (show cdA 258 40 = some (.ireturn, 1, 0, 0, 0) from rfl)) (Nat.zero_le _) (Nat.zero_le _) ⟨_, rfl, Is8, Gs8, (-1), rfl, (by decide), trivial⟩
    ·
      refine z_const X rfl ?_
      exact w_iret X.1 q hRt rfl (ax_d X (show cdA 258 29 = some (.ireturn, 1, 0, 0, 0) from rfl)) (Nat.zero_le _) (Nat.zero_le _) ⟨_, rfl, Is8, Gs8, 0, rfl, (by decide), trivial⟩
  refine z_if_ne X (t := 20) rfl rfl hrs4 (fun g24 => ?_) (fun g24 => ?_)
  ·
    exact z_const X rfl (N6 _ (Or.inl ⟨g24, rfl⟩))
  ·
    exact z_const X rfl (z_goto X (t := 21) rfl rfl (N6 _ (Or.inr (⟨g24, rfl⟩))))
end M32
end
section
theorem oq_d1028203 {a0 : Int} (h0 : a0 ≤ 20) : a0 ≤ 2147483647 := by omega
theorem oq_17475ac8 {a0 a1 a2 : Int} (h0 : a0 = (a1 + a2)) (h1 : a2 ≤ 20) (h2 : 20 ≤ a2) : a0 = (a1 + 20) := by omega
theorem oq_c3313697 {a0 : Int} (h0 : a0 < 20) : a0 ≤ 2147483647 := by omega
theorem oq_ae322fb4 {a0 a1 a2 : Int} (h0 : a0 = (a1 + a2)) (h1 : a1 ≤ 180) (h2 : a2 < 20) : a0 < 200 := by omega
theorem oq_4567a937 {a0 : Int} (h0 : a0 ≤ 255) : a0 ≤ 2147483647 := by omega
theorem oq_e59c0308 {a0 a1 a2 a3 : Int} (h0 : a0 = a1) (h1 : a1 = (a2 + a3)) (h2 : a2 ≤ 180) (h3 : a3 < 20) : (a0 + 1) ≤ 200 := by omega
theorem oq_bb8d498d {a0 : Int} (h0 : a0 ≤ 200) : (a0 + 1) ≤ 2147483647 := by omega
theorem oq_34835694 {a0 : Int} (h0 : a0 < 20) : (a0 + 1) ≤ 20 := by omega
theorem oq_cb7deedc {a0 a1 a2 a3 a4 : Int} (h0 : a0 = (a1 + 1)) (h1 : a2 = (a3 + a4)) (h2 : a1 = a2) : a0 = (a3 + (a4 + 1)) := by omega
theorem oq_53ce64b9 {a0 : Int} (h0 : a0 < 20) : 0 < (20 - a0) := by omega
theorem oq_866185f5 {a0 : Int} (h0 : 4 ≤ a0) : (-2147483648) ≤ a0 := by omega
theorem oq_f1d511b8 {a0 : Int} (h0 : 12 ≤ a0) : (-2147483648) ≤ a0 := by omega
theorem oq_0de1c162 {a0 : Int} (h0 : 0 ≤ a0) : (-2147483648) ≤ (a0 + 20) := by omega
theorem oq_ed776728 {a0 : Int} (h0 : a0 ≤ 200) : (a0 + 20) ≤ 2147483647 := by omega
theorem oq_ec17a77e {a0 a1 : Int} (h0 : a0 = a1) : a0 = (a1 + 0) := by omega
theorem oq_2ec15ebf {a0 a1 : Int} (h0 : a0 = a1) (h1 : (a0 + 20) ≤ 200) : a1 ≤ 180 := by omega
theorem oq_dae52d74 {a0 a1 : Int} (h0 : a0 = a1) (h1 : 200 < (a0 + 20)) : 180 < a1 := by omega
theorem oq_d526ebd3 {a0 : Int} (h0 : a0 ≤ 12) : (a0 - 1) ≤ 2147483647 := by omega
theorem oq_ed86839e {a0 a1 : Int} (h0 : a0 ≠ 0) (h1 : ((a0 = 1 ∧ (0 ≤ a1 ∧ a1 ≤ 2)) ∨ (a0 = 0 ∧ (a1 < 0 ∨ 2 < a1)))) : 0 ≤ a1 := by omega
theorem oq_1e4f7caf {a0 a1 : Int} (h0 : a0 ≠ 0) (h1 : ((a0 = 1 ∧ (0 ≤ a1 ∧ a1 ≤ 2)) ∨ (a0 = 0 ∧ (a1 < 0 ∨ 2 < a1)))) : a1 ≤ 2 := by omega
theorem oq_8280ce40 {a0 a1 a2 a3 a4 : Int} (h0 : a0 = 0) (h1 : (a1 = 1 → a0 = 1)) (h2 : a1 ≤ 1) (h3 : ((a2 ≠ 0 ∧ a1 = 0) ∨ (a2 = 0 ∧ a1 = 1))) (h4 : ((a2 = 1 ∧ (0 ≤ a3 ∧ a3 ≤ (a4 - 1))) ∨ (a2 = 0 ∧ (a3 < 0 ∨ (a4 - 1) < a3)))) : 0 ≤ a3 := by omega
theorem oq_0332e1ab {a0 : Int} (h0 : a0 ≤ 24) : (a0 - 1) ≤ 2147483647 := by omega
theorem oq_5dfe5e68 {a0 a1 a2 : Int} (h0 : a0 ≠ 0) (h1 : ((a0 = 1 ∧ (0 ≤ a1 ∧ a1 ≤ (a2 - 1))) ∨ (a0 = 0 ∧ (a1 < 0 ∨ (a2 - 1) < a1)))) : 0 ≤ a1 := by omega
theorem oq_6c39bb95 {a0 a1 a2 : Int} (h0 : a0 ≠ 0) (h1 : ((a0 = 1 ∧ (0 ≤ a1 ∧ a1 ≤ (a2 - 1))) ∨ (a0 = 0 ∧ (a1 < 0 ∨ (a2 - 1) < a1)))) (h2 : a2 ≤ 24) : a1 < 24 := by omega
theorem oq_76eef144 {a0 a1 a2 : Int} (h0 : a0 ≠ 0) (h1 : ((a0 = 1 ∧ (0 ≤ a1 ∧ a1 ≤ (a2 - 1))) ∨ (a0 = 0 ∧ (a1 < 0 ∨ (a2 - 1) < a1)))) (h2 : a2 ≤ 24) : (a1 : Int).toNat < 24 := by omega
theorem oq_1a42ef34 {a0 : Int} (h0 : a0 ≤ 23) : a0 ≤ 2147483647 := by omega
theorem oq_0ddfcfee {a0 : Int} (h0 : a0 ≤ 11) : a0 < 12 := by omega
theorem oq_9c5fa447 {a0 : Int} (h0 : a0 ≤ 11) : (a0 : Int).toNat < 12 := by omega
theorem oq_c5e79f47 {a0 a1 : Int} (h0 : a0 ≤ a1) (h1 : a1 ≤ 23) : a0 < 24 := by omega
theorem oq_cbe526b3 {a0 : Int} (h0 : a0 ≤ 50) : a0 ≤ 2147483647 := by omega
theorem oq_3f5436dc {a0 a1 : Int} (h0 : a0 ≤ a1) (h1 : a1 ≤ 23) : (a0 + 1) ≤ 24 := by omega
theorem oq_416f5e90 {a0 a1 : Int} (h0 : a0 ≤ a1) (h1 : a1 ≤ 23) : 0 < (24 - a0) := by omega
theorem oq_895647ec {a0 a1 : Int} (h0 : a0 = 0) (h1 : (1 = 1 → a0 = 1)) : (0 ≤ a1 ∧ a1 ≤ 23) := by omega
theorem oq_0159bb48 {a0 a1 : Int} (h0 : a0 ≠ 0) (h1 : ((a0 = 1 ∧ (0 ≤ a1 ∧ a1 ≤ 23)) ∨ (a0 = 0 ∧ (a1 < 0 ∨ 23 < a1)))) : 0 ≤ a1 := by omega
theorem oq_f518633a {a0 a1 : Int} (h0 : a0 ≠ 0) (h1 : ((a0 = 1 ∧ (0 ≤ a1 ∧ a1 ≤ 23)) ∨ (a0 = 0 ∧ (a1 < 0 ∨ 23 < a1)))) : a1 ≤ 24 := by omega
theorem oq_71c16c0e {a0 a1 a2 a3 : Int} (h0 : a0 < a1) (h1 : a2 ≠ 0) (h2 : ((a2 = 1 ∧ (0 ≤ a0 ∧ a0 ≤ 23)) ∨ (a2 = 0 ∧ (a0 < 0 ∨ 23 < a0)))) (h3 : a3 ≠ 0) (h4 : ((a3 = 1 ∧ (0 ≤ a1 ∧ a1 ≤ 23)) ∨ (a3 = 0 ∧ (a1 < 0 ∨ 23 < a1)))) : (0 ≤ a0 ∧ a0 ≤ 23) := by omega
theorem oq_043ce32e {a0 a1 a2 : Int} (h0 : a0 < a1) (h1 : a2 ≠ 0) (h2 : ((a2 = 1 ∧ (0 ≤ a0 ∧ a0 ≤ 23)) ∨ (a2 = 0 ∧ (a0 < 0 ∨ 23 < a0)))) : 0 ≤ a1 := by omega
theorem oq_e5a089c2 {a0 a1 : Int} (h0 : a0 ≠ 0) (h1 : ((a0 = 1 ∧ (0 ≤ a1 ∧ a1 ≤ 23)) ∨ (a0 = 0 ∧ (a1 < 0 ∨ 23 < a1)))) : (0 ≤ a1 ∧ a1 ≤ 23) := by omega
theorem oq_f81b6609 {a0 : Int} (h0 : (-2) ≤ a0) : (-2147483648) ≤ a0 := by omega
theorem oq_9e7d853b {a0 : Int} (h0 : a0 ≤ 26) : a0 ≤ 2147483647 := by omega
theorem oq_34aac425 {a0 a1 : Int} (h0 : 0 ≤ a0) (h1 : 0 ≤ a1) : (-2147483648) ≤ (a0 + a1) := by omega
theorem oq_b5a47671 {a0 a1 : Int} (h0 : a0 ≤ 23) (h1 : a1 ≤ 2) : (a0 + a1) ≤ 2147483647 := by omega
theorem oq_826c3458 {a0 : Int} (h0 : (-2) ≤ a0) : (-2) ≤ (a0 + 1) := by omega
theorem oq_78fc2d48 {a0 a1 a2 : Int} (h0 : a0 ≤ (a1 + a2)) (h1 : a1 ≤ 23) (h2 : a2 ≤ 2) : (a0 + 1) ≤ 26 := by omega
theorem oq_5c7f6a1c {a0 a1 a2 : Int} (h0 : a0 ≤ (a1 + a2)) (h1 : a1 ≤ 23) (h2 : a2 ≤ 2) : 0 < (26 - a0) := by omega
theorem oq_127752ee {a0 a1 : Int} (h0 : a0 ≠ 0) (h1 : ((a0 = 1 ∧ (0 ≤ a1 ∧ a1 ≤ 23)) ∨ (a0 = 0 ∧ (a1 < 0 ∨ 23 < a1)))) : a1 < 24 := by omega
theorem oq_200d9360 {a0 a1 : Int} (h0 : a0 ≠ 0) (h1 : ((a0 = 1 ∧ (0 ≤ a1 ∧ a1 ≤ 23)) ∨ (a0 = 0 ∧ (a1 < 0 ∨ 23 < a1)))) : (a1 : Int).toNat < 24 := by omega
theorem oq_15fc5886 {a0 a1 : Int} (h0 : 0 ≤ a0) (h1 : a1 ≤ 2) : (-2) ≤ (a0 - a1) := by omega
theorem oq_0fb31b58 {a0 a1 : Int} (h0 : a0 ≤ 23) (h1 : 0 ≤ a1) : (a0 - a1) ≤ 26 := by omega
theorem oq_4c4e29f5 {a0 a1 a2 a3 : Int} (h0 : a0 = 0) (h1 : (a1 = 1 → a0 = 1)) (h2 : a1 ≤ 1) (h3 : ((a2 ≠ 0 ∧ a1 = 0) ∨ (a2 = 0 ∧ a1 = 1))) (h4 : ((a2 = 1 ∧ (0 ≤ a3 ∧ a3 ≤ 23)) ∨ (a2 = 0 ∧ (a3 < 0 ∨ 23 < a3)))) : 0 ≤ a3 := by omega
theorem oq_3a13f1ce {a0 a1 a2 a3 : Int} (h0 : a0 = 0) (h1 : (a1 = 1 → a0 = 1)) (h2 : a1 ≤ 1) (h3 : ((a2 ≠ 0 ∧ a1 = 0) ∨ (a2 = 0 ∧ a1 = 1))) (h4 : ((a2 = 1 ∧ (0 ≤ a3 ∧ a3 ≤ 23)) ∨ (a2 = 0 ∧ (a3 < 0 ∨ 23 < a3)))) : a3 ≤ 23 := by omega
theorem oq_78843a64 {a0 : Int} (h0 : a0 ≤ 12) : a0 ≤ 2147483647 := by omega
theorem oq_e4d7f3c5 {a0 a1 : Int} (h0 : a0 < a1) (h1 : a1 ≤ 12) : a0 ≤ 11 := by omega
theorem oq_f36e82a8 {a0 a1 : Int} (h0 : a0 < a1) (h1 : a1 ≤ 12) : a0 < 12 := by omega
theorem oq_4dae995e {a0 a1 : Int} (h0 : a0 < a1) (h1 : a1 ≤ 12) : (a0 + 1) ≤ 12 := by omega
theorem oq_b575e8c1 {a0 a1 : Int} (h0 : a0 < a1) (h1 : a1 ≤ 12) : 0 < (12 - a0) := by omega
/-! The model: feed and its like -/
section M33
variable {l : Launch} {s0 : State} {D : va_G} {tys : List (ClassId × FieldType)} {a0 : Array Value} {A : Nat → Nat} {dT : Nat → ClassId} {s : PS}
theorem k_mostOf (G : GX l s0 D tys a0 dT) (I : Bd s) {x y : Int} (p0 : 0 ≤ x ∧ x ≤ 11) (p1 : 0 ≤ y ∧ y ≤ 23) : CT l s0 D A dT 220 (rmN 220) [.ref (A 179), .int (Int32.ofInt x), .int (Int32.ofInt y)] s (fun o t => Bd t ∧ Fm [] [] s t ∧ ∃ e, o = .inl (some (.int (Int32.ofInt e))) ∧ rng e ∧ (0 ≤ e ∧ e ≤ 50)) := by
  refine ct_of G (by decide) (Nat.le_of_ble_eq_true rfl) (fun k X E hRt hXt q => ?_)
  show WS k 0 [(0, .ref (A 179)), (1, .int (Int32.ofInt x)), (2, .int (Int32.ofInt y))] [] _ 0 0
  have F : Fm [] [] s s := fm_rf _ _ s
  have L12 : ∀ (n : Nat) (t : PS) (xv yv nv c : Int), Bd t → Fm [] [] s t → ((0 ≤ xv ∧ xv ≤ 11) ∧ (0 ≤ yv ∧ yv ≤ 23) ∧ (0 ≤ nv ∧ nv ≤ 50) ∧ -2 ≤ c ∧ c ≤ 26) → (26 - c : Int).toNat < n → (∀ (t' : PS) (xv' yv' nv' c' : Int), Bd t' → Fm [] [] s t' → ((0 ≤ xv' ∧ xv' ≤ 11) ∧ (0 ≤ yv' ∧ yv' ≤ 23) ∧ (0 ≤ nv' ∧ nv' ≤ 50) ∧ -2 ≤ c' ∧ c' ≤ 26) → WS k 65 [(0, .ref (A 179)), (1, .int (Int32.ofInt xv')), (2, .int (Int32.ofInt yv')), (3, .int (Int32.ofInt nv')), (4, .int (Int32.ofInt c'))] [] (Wd A dT t') 0 0) → WS k 12 [(0, .ref (A 179)), (1, .int (Int32.ofInt xv)), (2, .int (Int32.ofInt yv)), (3, .int (Int32.ofInt nv)), (4, .int (Int32.ofInt c))] [] (Wd A dT t) 0 0 := by
    intro n
    induction n with
    | zero =>
      intro t xv yv nv c I F hi hm kx
      exact absurd hm (Nat.not_lt_zero _)
    | succ n ih =>
      intro t xv yv nv c I F hi hm kx
      refine z_load X (x := c) rfl (List.Mem.tail _ (List.Mem.tail _ (List.Mem.tail _ (List.Mem.tail _ (List.Mem.head _))))) (z_load_n X (x := yv) rfl (List.Mem.tail _ (List.Mem.tail _ (List.Mem.head _))) (z_aload_n X (x := A 179) rfl (List.Mem.head _) (s_getR X 179 rfl (c518_ok rfl) rfl rfl (z_load_n X (x := xv) rfl (List.Mem.tail _ (List.Mem.head _)) (z_ald X 186 rfl (c518_ok rfl) rfl (by first | exact hi.1.1 | omega) (show xv < 12 by first | exact oq_0ddfcfee hi.1.2 | omega) (cbig_ok rfl) ?_)))))
      have b1001 := bc_163 I (show (xv).toNat < 12 by first | exact oq_9c5fa447 hi.1.2 | omega)
      refine z_add X rfl (z_icmp_gt X (t := 65) rfl rfl ⟨by first | exact oq_f81b6609 hi.2.2.2.1 | omega, by first | exact oq_9e7d853b hi.2.2.2.2 | omega⟩ ⟨by first | exact oq_34aac425 hi.2.1.1 b1001.1 | omega, by first | exact oq_b5a47671 hi.2.1.2 b1001.2 | omega⟩ (fun g1002 => ?_) (fun g1002 => ?_))
      ·
        refine WS_pq [0, 1, 2, 3, 4] (lv' := [(0, .ref (A 179)), (1, .int (Int32.ofInt xv)), (2, .int (Int32.ofInt yv)), (3, .int (Int32.ofInt nv)), (4, .int (Int32.ofInt c))]) rfl ?_
        exact kx _ xv yv nv c I F (by first | exact ⟨And.intro (hi.1.1) (hi.1.2), And.intro (hi.2.1.1) (hi.2.1.2), And.intro (hi.2.2.1.1) (hi.2.2.1.2), hi.2.2.2.1, hi.2.2.2.2⟩ | omega)
      ·
        refine z_load X (x := c) rfl (List.Mem.tail _ (List.Mem.tail _ (List.Mem.tail _ (List.Mem.tail _ (List.Mem.head _))))) (z_const X rfl (z_bipush X rfl (zcS_i0 X E (As := [.int (Int32.ofInt c), .int (Int32.ofInt 0), .int (Int32.ofInt 23)]) (st := []) rfl rfl (k_in G I (by first | exact ⟨oq_f81b6609 hi.2.2.2.1, oq_9e7d853b hi.2.2.2.2⟩ | omega) (by first | exact ⟨by decide, by decide⟩ | omega) (by first | exact ⟨by decide, by decide⟩ | omega)) rfl (Nat.le_of_ble_eq_true rfl) (fun s1003 e1004 Is1003 Fs1003 hrs1003 hps1003 => ?_))))
        have Gs1003 := fm_tq F Fs1003 rfl rfl
        refine z_if_eq X (t := 59) rfl rfl hrs1003 (fun g1005 => ?_) (fun g1005 => ?_)
        ·
          refine z_inc X (x := c) (lv' := [(4, .int (Int32.ofInt (c + 1))), (0, .ref (A 179)), (1, .int (Int32.ofInt xv)), (2, .int (Int32.ofInt yv)), (3, .int (Int32.ofInt nv))]) rfl (by decide) (List.Mem.tail _ (List.Mem.tail _ (List.Mem.tail _ (List.Mem.tail _ (List.Mem.head _))))) (fun _ h => h) (z_goto X (t := 12) rfl rfl (WS_pq [1, 2, 3, 4, 0] (lv' := [(0, .ref (A 179)), (1, .int (Int32.ofInt xv)), (2, .int (Int32.ofInt yv)), (3, .int (Int32.ofInt nv)), (4, .int (Int32.ofInt (c + 1)))]) rfl ?_))
          exact ih _ xv yv nv (c + 1) Is1003 Gs1003 (by first | exact ⟨And.intro (hi.1.1) (hi.1.2), And.intro (hi.2.1.1) (hi.2.1.2), And.intro (hi.2.2.1.1) (hi.2.2.1.2), oq_826c3458 hi.2.2.2.1, oq_78fc2d48 g1002 hi.2.1.2 b1001.2⟩ | omega) (by first | exact qk_me hm (by decide) (oq_5c7f6a1c g1002 hi.2.1.2 b1001.2) | omega) kx
        ·
          refine z_aload_n X (x := A 179) rfl (List.Mem.head _) (s_getR X 179 rfl (c518_ok rfl) rfl rfl (z_load_n X (x := xv) rfl (List.Mem.tail _ (List.Mem.head _)) (z_aald X rw_215 rfl (by first | exact hi.1.1 | omega) (show xv < 12 by first | exact oq_0ddfcfee hi.1.2 | omega) (by decide) (z_load X (x := c) rfl (List.Mem.tail _ (List.Mem.tail _ (List.Mem.tail _ (List.Mem.tail _ (List.Mem.head _))))) (z_ald2 X rw_215 rfl (show (xv : Int).toNat < 12 by first | exact oq_9c5fa447 hi.1.2 | omega) (by first | exact oq_0159bb48 g1005 hps1003 | omega) (show c < 24 by first | exact oq_127752ee g1005 hps1003 | omega) (by decide) ?_)))))
          have b1006 : (0 : Int) ≤ (iC s1003 (190 + (xv : Int).toNat) (c : Int).toNat) ∧ (iC s1003 (190 + (xv : Int).toNat) (c : Int).toNat) ≤ 50 := rw_bd rw_215 Is1003 (show (xv : Int).toNat < 12 by first | exact oq_9c5fa447 hi.1.2 | omega) (show (c : Int).toNat < 24 by first | exact oq_200d9360 g1005 hps1003 | omega)
          refine z_load_n X (x := nv) rfl (List.Mem.tail _ (List.Mem.tail _ (List.Mem.tail _ (List.Mem.head _)))) (z_icmp_le X (t := 59) rfl rfl (rng_to _) ⟨by first | exact oq_fa4e5087 hi.2.2.1.1 | omega, by first | exact oq_cbe526b3 hi.2.2.1.2 | omega⟩ (fun g1007 => ?_) (fun g1007 => ?_))
          ·
            refine z_inc X (x := c) (lv' := [(4, .int (Int32.ofInt (c + 1))), (0, .ref (A 179)), (1, .int (Int32.ofInt xv)), (2, .int (Int32.ofInt yv)), (3, .int (Int32.ofInt nv))]) rfl (by decide) (List.Mem.tail _ (List.Mem.tail _ (List.Mem.tail _ (List.Mem.tail _ (List.Mem.head _))))) (fun _ h => h) (z_goto X (t := 12) rfl rfl (WS_pq [1, 2, 3, 4, 0] (lv' := [(0, .ref (A 179)), (1, .int (Int32.ofInt xv)), (2, .int (Int32.ofInt yv)), (3, .int (Int32.ofInt nv)), (4, .int (Int32.ofInt (c + 1)))]) rfl ?_))
            exact ih _ xv yv nv (c + 1) Is1003 Gs1003 (by first | exact ⟨And.intro (hi.1.1) (hi.1.2), And.intro (hi.2.1.1) (hi.2.1.2), And.intro (hi.2.2.1.1) (hi.2.2.1.2), oq_826c3458 hi.2.2.2.1, oq_78fc2d48 g1002 hi.2.1.2 b1001.2⟩ | omega) (by first | exact qk_me hm (by decide) (oq_5c7f6a1c g1002 hi.2.1.2 b1001.2) | omega) kx
          ·
            refine z_aload_n X (x := A 179) rfl (List.Mem.head _) (s_getR X 179 rfl (c518_ok rfl) rfl rfl (z_load_n X (x := xv) rfl (List.Mem.tail _ (List.Mem.head _)) (z_aald X rw_215 rfl (by first | exact hi.1.1 | omega) (show xv < 12 by first | exact oq_0ddfcfee hi.1.2 | omega) (by decide) (z_load X (x := c) rfl (List.Mem.tail _ (List.Mem.tail _ (List.Mem.tail _ (List.Mem.tail _ (List.Mem.head _))))) (z_ald2 X rw_215 rfl (show (xv : Int).toNat < 12 by first | exact oq_9c5fa447 hi.1.2 | omega) (by first | exact oq_0159bb48 g1005 hps1003 | omega) (show c < 24 by first | exact oq_127752ee g1005 hps1003 | omega) (by decide) ?_)))))
            have b1008 : (0 : Int) ≤ (iC s1003 (190 + (xv : Int).toNat) (c : Int).toNat) ∧ (iC s1003 (190 + (xv : Int).toNat) (c : Int).toNat) ≤ 50 := rw_bd rw_215 Is1003 (show (xv : Int).toNat < 12 by first | exact oq_9c5fa447 hi.1.2 | omega) (show (c : Int).toNat < 24 by first | exact oq_200d9360 g1005 hps1003 | omega)
            refine z_store_n X (lv' := [(3, .int (Int32.ofInt (iC s1003 (190 + (xv : Int).toNat) (c : Int).toNat))), (0, .ref (A 179)), (1, .int (Int32.ofInt xv)), (2, .int (Int32.ofInt yv)), (4, .int (Int32.ofInt c))]) rfl (by decide) (fun _ h => h) (z_inc X (x := c) (lv' := [(4, .int (Int32.ofInt (c + 1))), (3, .int (Int32.ofInt (iC s1003 (190 + (xv : Int).toNat) (c : Int).toNat))), (0, .ref (A 179)), (1, .int (Int32.ofInt xv)), (2, .int (Int32.ofInt yv))]) rfl (by decide) (List.Mem.tail _ (List.Mem.tail _ (List.Mem.tail _ (List.Mem.tail _ (List.Mem.head _))))) (fun _ h => h) (z_goto X (t := 12) rfl rfl (WS_pq [2, 3, 4, 1, 0] (lv' := [(0, .ref (A 179)), (1, .int (Int32.ofInt xv)), (2, .int (Int32.ofInt yv)), (3, .int (Int32.ofInt (iC s1003 (190 + (xv : Int).toNat) (c : Int).toNat))), (4, .int (Int32.ofInt (c + 1)))]) rfl ?_)))
            exact ih _ xv yv (iC s1003 (190 + (xv : Int).toNat) (c : Int).toNat) (c + 1) Is1003 Gs1003 (by first | exact ⟨And.intro (hi.1.1) (hi.1.2), And.intro (hi.2.1.1) (hi.2.1.2), And.intro (b1008.1) (b1008.2), oq_826c3458 hi.2.2.2.1, oq_78fc2d48 g1002 hi.2.1.2 b1001.2⟩ | omega) (by first | exact qk_me hm (by decide) (oq_5c7f6a1c g1002 hi.2.1.2 b1001.2) | omega) kx
  refine z_const X rfl (z_store_n X (lv' := [(3, .int (Int32.ofInt 0)), (0, .ref (A 179)), (1, .int (Int32.ofInt x)), (2, .int (Int32.ofInt y))]) rfl (by decide) (fun _ h => h) (z_load_n X (x := y) rfl (List.Mem.tail _ (List.Mem.tail _ (List.Mem.tail _ (List.Mem.head _)))) (z_aload_n X (x := A 179) rfl (List.Mem.tail _ (List.Mem.head _)) (s_getR X 179 rfl (c518_ok rfl) rfl rfl (z_load_n X (x := x) rfl (List.Mem.tail _ (List.Mem.tail _ (List.Mem.head _))) (z_ald X 187 rfl (c518_ok rfl) rfl (by first | exact p0.1 | omega) (show x < 12 by first | exact oq_0ddfcfee p0.2 | omega) (cbig_ok rfl) ?_))))))
  have b1 := bc_164 I (show (x).toNat < 12 by first | exact oq_9c5fa447 p0.2 | omega)
  refine z_sub X rfl (z_store X (lv' := [(4, .int (Int32.ofInt (y - (iC s 164 (x).toNat)))), (3, .int (Int32.ofInt 0)), (0, .ref (A 179)), (1, .int (Int32.ofInt x)), (2, .int (Int32.ofInt y))]) rfl (by decide) (fun _ h => h) (WS_pq [2, 3, 4, 1, 0] (lv' := [(0, .ref (A 179)), (1, .int (Int32.ofInt x)), (2, .int (Int32.ofInt y)), (3, .int (Int32.ofInt 0)), (4, .int (Int32.ofInt (y - (iC s 164 (x).toNat))))]) rfl (L12 ((26 - (y - (iC s 164 (x).toNat)) : Int).toNat + 1) s x y 0 (y - (iC s 164 (x).toNat)) I F (by first | exact ⟨And.intro (p0.1) (p0.2), And.intro (p1.1) (p1.2), And.intro (by decide) (by decide), oq_15fc5886 p1.1 b1.2, oq_0fb31b58 p1.2 b1.1⟩ | omega) (Nat.lt_succ_self _) ?_)))
  intro s2 x3 x4 x5 x6 Is2 Fs2 hs2
  refine z_load_n X (x := x5) rfl (List.Mem.tail _ (List.Mem.tail _ (List.Mem.tail _ (List.Mem.head _)))) ?_
  exact w_iret X.1 q hRt rfl (ax_d X (show cdA 220 66 = some (.ireturn, 1, 0, 0, 0) from rfl)) (Nat.zero_le _) (Nat.zero_le _) ⟨_, rfl, Is2, Fs2, x5, rfl, ⟨by first | exact oq_fa4e5087 hs2.2.2.1.1 | omega, by first | exact oq_cbe526b3 hs2.2.2.1.2 | omega⟩, by first | exact ⟨hs2.2.2.1.1, hs2.2.2.1.2⟩ | omega⟩
theorem k_numbersIn (G : GX l s0 D tys a0 dT) (I : Bd s) {x : Int} (p0 : 0 ≤ x ∧ x ≤ 23) : CT l s0 D A dT 224 (rmN 224) [.ref (A 179), .int (Int32.ofInt x)] s (fun o t => Bd t ∧ Fm [] [203] s t ∧ o = .inl none ∧ (True)) := by
  refine ct_of G (by decide) (Nat.le_of_ble_eq_true rfl) (fun k X E hRt hXt q => ?_)
  show WS k 0 [(0, .ref (A 179)), (1, .int (Int32.ofInt x))] [] _ 0 0
  have F : Fm [] [203] s s := fm_rf _ _ s
  have b1 := bi_90 I
  have L2 : ∀ (n : Nat) (t : PS) (xv c : Int), Bd t → Fm [] [203] s t → ((0 ≤ xv ∧ xv ≤ 23) ∧ 0 ≤ c ∧ c ≤ 12) → (12 - c : Int).toNat < n → (∀ (t' : PS) (xv' c' : Int), Bd t' → Fm [] [203] s t' → ((0 ≤ xv' ∧ xv' ≤ 23) ∧ 0 ≤ c' ∧ c' ≤ 12) → WS k 28 [(0, .ref (A 179)), (1, .int (Int32.ofInt xv')), (2, .int (Int32.ofInt c'))] [] (Wd A dT t') 0 0) → WS k 2 [(0, .ref (A 179)), (1, .int (Int32.ofInt xv)), (2, .int (Int32.ofInt c))] [] (Wd A dT t) 0 0 := by
    intro n
    induction n with
    | zero =>
      intro t xv c I F hi hm kx
      exact absurd hm (Nat.not_lt_zero _)
    | succ n ih =>
      intro t xv c I F hi hm kx
      have b1001 := bi_90 I
      refine z_load_n X (x := c) rfl (List.Mem.tail _ (List.Mem.tail _ (List.Mem.head _))) (z_aload_n X (x := A 179) rfl (List.Mem.head _) (z_getI X 179 rfl (c518_ok rfl) rfl rfl ?_))
      have b1002 := bi_90 I
      refine z_icmp_ge X (t := 28) rfl rfl ⟨by first | exact oq_fa4e5087 hi.2.1 | omega, by first | exact oq_78843a64 hi.2.2 | omega⟩ (rng_to _) (fun g1003 => ?_) (fun g1003 => ?_)
      ·
        refine WS_pq [0, 1, 2] (lv' := [(0, .ref (A 179)), (1, .int (Int32.ofInt xv)), (2, .int (Int32.ofInt c))]) rfl ?_
        exact kx _ xv c I F (by first | exact ⟨And.intro (hi.1.1) (hi.1.2), hi.2.1, hi.2.2⟩ | omega)
      ·
        refine z_aload_n X (x := A 179) rfl (List.Mem.head _) (s_getR X 179 rfl (c518_ok rfl) rfl rfl (z_load_n X (x := c) rfl (List.Mem.tail _ (List.Mem.tail _ (List.Mem.head _))) (z_aload_n X (x := A 179) rfl (List.Mem.head _) (z_load_n X (x := c) rfl (List.Mem.tail _ (List.Mem.tail _ (List.Mem.head _))) (z_load_n X (x := xv) rfl (List.Mem.tail _ (List.Mem.head _)) (zcV_i0 X E 179 (As := [.int (Int32.ofInt c), .int (Int32.ofInt xv)]) (st := [.int (Int32.ofInt c), .ref (A 229)]) rfl rfl rfl rfl (k_mostOf G I (by first | exact ⟨hi.2.1, oq_e4d7f3c5 g1003 b1002.2⟩ | omega) (by first | exact ⟨hi.1.1, hi.1.2⟩ | omega)) rfl (Nat.le_of_ble_eq_true rfl) (fun s1004 e1005 Is1004 Fs1004 hrs1004 hps1004 => ?_)))))))
        have Gs1004 := fm_tq F Fs1004 rfl rfl
        have ws1004_90 : iI s1004 90 = iI t 90 := fm_iq Fs1004 rfl
        refine z_ast X 229 rfl (c518_ok rfl) rfl (by first | exact hi.2.1 | omega) (show c < 12 by first | exact oq_f36e82a8 g1003 b1002.2 | omega) (cbig_ok rfl) (wd_gen (fun s1006 hs1006 => ?_))
        have Is1006 : Bd s1006 := eqB hs1006 (bd_C Is1004 (show (0 : Int) ≤ e1005 ∧ e1005 ≤ 50 by first | exact ⟨hps1004.1, hps1004.2⟩ | omega) hrs1004)
        have Fs1006 := eqF hs1006 (fm_C Gs1004 (inl_ok (a := 203) rfl))
        have ws1006_90 : iI s1006 90 = iI s1004 90 := eqI hs1006 rfl
        refine z_inc X (x := c) (lv' := [(2, .int (Int32.ofInt (c + 1))), (0, .ref (A 179)), (1, .int (Int32.ofInt xv))]) rfl (by decide) (List.Mem.tail _ (List.Mem.tail _ (List.Mem.head _))) (fun _ h => h) (z_goto X (t := 2) rfl rfl (WS_pq [1, 2, 0] (lv' := [(0, .ref (A 179)), (1, .int (Int32.ofInt xv)), (2, .int (Int32.ofInt (c + 1)))]) rfl ?_))
        exact ih _ xv (c + 1) Is1006 Fs1006 (by first | exact ⟨And.intro (hi.1.1) (hi.1.2), oq_54f49eb5 hi.2.1, oq_4dae995e g1003 b1002.2⟩ | omega) (by first | exact qk_me hm (by decide) (oq_b575e8c1 g1003 b1002.2) | omega) kx
  refine z_const X rfl (z_store_n X (lv' := [(2, .int (Int32.ofInt 0)), (0, .ref (A 179)), (1, .int (Int32.ofInt x))]) rfl (by decide) (fun _ h => h) (WS_pq [1, 2, 0] (lv' := [(0, .ref (A 179)), (1, .int (Int32.ofInt x)), (2, .int (Int32.ofInt 0))]) rfl (L2 ((12 - 0 : Int).toNat + 1) s x 0 I F (by first | exact ⟨And.intro (p0.1) (p0.2), by decide, by decide⟩ | omega) (Nat.lt_succ_self _) ?_)))
  intro s2 x3 x4 Is2 Fs2 hs2
  have b5 := bi_90 Is2
  exact w_vret X.1 q hRt (ax_d X (show cdA 224 28 = some (.return_, 1, 0, 0, 0) from rfl)) (Nat.zero_le _) (Nat.zero_le _) ⟨_, rfl, Is2, Fs2, rfl, trivial⟩
end M33
end
section
theorem oq_a3dd55e5 {a0 : Int} (h0 : a0 ≤ 5) : a0 ≤ 2147483647 := by omega
theorem oq_449d3e35 {a0 a1 : Int} (h0 : 0 ≤ a0) (h1 : a1 ≤ 127) : (-2147483648) ≤ (a0 - a1) := by omega
theorem oq_ad754bc3 {a0 a1 : Int} (h0 : a0 ≤ 127) (h1 : 0 ≤ a1) : (a0 - a1) ≤ 2147483647 := by omega
theorem oq_ecd050b7 {a0 a1 a2 a3 a4 a5 a6 a7 a8 a9 : Int} (h0 : ((a0 ≠ 0 ∧ a1 = ((27 * a2) + a0)) ∨ (a0 = 0 ∧ a1 = a2))) (h1 : ((a3 ≠ 0 ∧ a2 = ((27 * a4) + a3)) ∨ (a3 = 0 ∧ a2 = a4))) (h2 : ((a5 ≠ 0 ∧ a4 = ((27 * a6) + a5)) ∨ (a5 = 0 ∧ a4 = a6))) (h3 : ((a7 ≠ 0 ∧ a6 = ((27 * ((27 * a8) + a9)) + a7)) ∨ (a7 = 0 ∧ a6 = ((27 * a8) + a9)))) (h4 : 0 ≤ a0) (h5 : 0 ≤ a3) (h6 : 0 ≤ a5) (h7 : 0 ≤ a7) (h8 : 0 ≤ a9) (h9 : 1 ≤ a8) : (-2147483648) ≤ a1 := by omega
theorem oq_5f3f93de {a0 a1 a2 a3 a4 a5 a6 a7 a8 a9 : Int} (h0 : ((a0 ≠ 0 ∧ a1 = ((27 * a2) + a0)) ∨ (a0 = 0 ∧ a1 = a2))) (h1 : ((a3 ≠ 0 ∧ a2 = ((27 * a4) + a3)) ∨ (a3 = 0 ∧ a2 = a4))) (h2 : ((a5 ≠ 0 ∧ a4 = ((27 * a6) + a5)) ∨ (a5 = 0 ∧ a4 = a6))) (h3 : ((a7 ≠ 0 ∧ a6 = ((27 * ((27 * a8) + a9)) + a7)) ∨ (a7 = 0 ∧ a6 = ((27 * a8) + a9)))) (h4 : a0 ≤ 27) (h5 : a3 ≤ 27) (h6 : a5 ≤ 27) (h7 : a7 ≤ 27) (h8 : a9 ≤ 27) (h9 : a8 ≤ 27) : a1 ≤ 2147483647 := by omega
theorem oq_66594a1b {a0 a1 a2 a3 a4 a5 a6 a7 a8 a9 : Int} (h0 : ((a0 ≠ 0 ∧ a1 = ((27 * a2) + a0)) ∨ (a0 = 0 ∧ a1 = a2))) (h1 : ((a3 ≠ 0 ∧ a2 = ((27 * a4) + a3)) ∨ (a3 = 0 ∧ a2 = a4))) (h2 : ((a5 ≠ 0 ∧ a4 = ((27 * a6) + a5)) ∨ (a5 = 0 ∧ a4 = a6))) (h3 : ((a7 ≠ 0 ∧ a6 = ((27 * ((27 * a8) + a9)) + a7)) ∨ (a7 = 0 ∧ a6 = ((27 * a8) + a9)))) (h4 : 0 ≤ a0) (h5 : 0 ≤ a3) (h6 : 0 ≤ a5) (h7 : 0 ≤ a7) (h8 : 0 ≤ a9) (h9 : 1 ≤ a8) : 1 ≤ a1 := by omega
theorem oq_e977c44f {a0 : Int} (h0 : a0 ≤ 27) : a0 ≤ 2147483647 := by omega
theorem oq_797efae6 {a0 : Int} (h0 : a0 < 24) : (a0 : Int).toNat < 24 := by omega
theorem oq_dd29f52d {a0 a1 : Int} (h0 : 0 ≤ a0) (h1 : 0 ≤ a1) : 0 ≤ (a0 + a1) := by omega
theorem oq_d1fd8eeb {a0 a1 a2 : Int} (h0 : a0 ≤ (50 * a1)) (h1 : a2 ≤ 50) : (a0 + a2) ≤ (50 * (a1 + 1)) := by omega
theorem oq_cec7cb2e {a0 : Int} (h0 : a0 < 24) : (a0 + 1) ≤ 24 := by omega
theorem oq_ffa8317e {a0 : Int} (h0 : a0 < 24) : 0 < (24 - a0) := by omega
theorem oq_fe510769 {a0 a1 : Int} (h0 : a0 ≤ (50 * a1)) (h1 : a1 ≤ 24) : a0 ≤ 2147483647 := by omega
theorem oq_552552b9 {a0 a1 : Int} (h0 : a0 ≤ (50 * a1)) (h1 : a1 ≤ 24) : a0 ≤ 1200 := by omega
theorem oq_907d7be5 {a0 : Int} (h0 : a0 ≤ 3) : a0 < 4 := by omega
theorem oq_b6a8a4cc {a0 : Int} (h0 : a0 ≤ 3) : (a0 : Int).toNat < 4 := by omega
theorem oq_45419e6e {a0 : Int} (h0 : a0 ≤ 4) : (a0 + 1) ≤ 2147483647 := by omega
theorem oq_3ec5d522 {a0 : Int} (h0 : 0 ≤ a0) (h1 : a0 ≠ 0) : 0 ≤ (a0 - 1) := by omega
theorem oq_f3f8f749 {a0 : Int} (h0 : a0 ≤ 4) : (a0 - 1) ≤ 4 := by omega
theorem oq_dc10bb6e {a0 : Int} (h0 : a0 ≤ 4) : (a0 - 1) ≤ 2147483647 := by omega
theorem oq_143762c7 {a0 a1 a2 a3 : Int} (h0 : a0 = a1) (h1 : a2 ≤ a3) (h2 : a1 = a3) : a2 ≤ a0 := by omega
theorem oq_2519f37c {a0 a1 a2 a3 a4 a5 a6 : Int} (h0 : 122 < a0) (h1 : a1 = a2) (h2 : ((a3 ≤ a2 ∧ a0 = (-1)) ∨ (a2 < a3 ∧ (0 ≤ a0 ∧ a0 ≤ 255)))) (h3 : a3 = a4) (h4 : a4 = a5) : (a1 = a6 ∨ a1 ≤ a5) := by omega
theorem oq_7e7c278b {a0 a1 a2 a3 a4 : Int} (h0 : a0 = a1) (h1 : 97 ≤ a2) (h2 : a1 = a3) (h3 : ((a4 ≤ a3 ∧ a2 = (-1)) ∨ (a3 < a4 ∧ (0 ≤ a2 ∧ a2 ≤ 255)))) (h4 : a4 ≤ 200) : (a0 + 1) ≤ 400 := by omega
theorem oq_c108a731 {a0 a1 a2 a3 a4 : Int} (h0 : a0 = (a1 + 1)) (h1 : a2 ≤ a3) (h2 : a1 = a4) (h3 : a4 = a3) : a2 ≤ a0 := by omega
theorem oq_a49c266d {a0 a1 a2 a3 a4 a5 a6 a7 a8 a9 : Int} (h0 : a0 = (a1 + 1)) (h1 : a1 = a2) (h2 : ((a3 ≤ a2 ∧ a4 = (-1)) ∨ (a2 < a3 ∧ (0 ≤ a4 ∧ a4 ≤ 255)))) (h3 : 97 ≤ a5) (h4 : a3 = a6) (h5 : a2 = a7) (h6 : ((a6 ≤ a7 ∧ a5 = (-1)) ∨ (a7 < a6 ∧ (0 ≤ a5 ∧ a5 ≤ 255)))) (h7 : a6 = a8) : (a0 = a9 ∨ a0 ≤ a8) := by omega
theorem oq_45b593e3 {a0 a1 a2 a3 a4 : Int} (h0 : a0 = a1) (h1 : a2 = a3) (h2 : a1 = a4) (h3 : a4 = a2) : a0 = a3 := by omega
theorem oq_e6145000 {a0 a1 a2 a3 a4 a5 a6 a7 : Int} (h0 : a0 = a1) (h1 : a2 = (a3 + 1)) (h2 : a1 = a4) (h3 : a3 = a5) (h4 : a4 = a6) (h5 : a5 = a7) : (a0 - a2) < (a6 - a7) := by omega
theorem oq_88aeaead {a0 a1 a2 : Int} (h0 : 97 ≤ a0) (h1 : ((a1 ≤ a2 ∧ a0 = (-1)) ∨ (a2 < a1 ∧ (0 ≤ a0 ∧ a0 ≤ 255)))) : 0 < (a1 - a2) := by omega
theorem oq_f72601a2 {a0 : Int} (h0 : a0 ≤ 380) : a0 ≤ 390 := by omega
theorem oq_ca54ea22 {a0 : Int} (h0 : 0 ≤ a0) : (-1) ≤ a0 := by omega
theorem oq_9d983156 {a0 a1 a2 a3 a4 : Int} (h0 : a0 = a1) (h1 : a1 = a2) (h2 : (a2 = a3 ∨ a2 ≤ a4)) (h3 : a3 ≤ a2) : (a0 = a3 ∨ a0 ≤ a4) := by omega
theorem oq_5071f1ab {a0 a1 : Int} (h0 : 0 ≤ a0) (h1 : a0 ≠ 0) : (a1 ≠ 0 → a0 ≠ 0) := by omega
theorem oq_c324d438 {a0 a1 a2 a3 : Int} (h0 : 0 ≤ a0) (h1 : a0 ≠ 0) : (a0 = 0 → (a1 < a2 ∧ a2 ≤ a3)) := by omega
theorem oq_f2693aa9 {a0 a1 a2 a3 a4 a5 : Int} (h0 : a0 = a1) (h1 : a2 = a3) (h2 : ((a4 ≤ a3 ∧ a0 = (-1)) ∨ (a3 < a4 ∧ (0 ≤ a0 ∧ a0 ≤ 255)))) (h3 : a4 = a5) (h4 : a5 ≤ 200) (h5 : 0 ≤ a1) : (a2 + 1) ≤ 400 := by omega
theorem oq_669de7e1 {a0 a1 a2 a3 a4 a5 a6 a7 : Int} (h0 : a0 = (a1 + 1)) (h1 : a2 = a3) (h2 : a1 = a4) (h3 : ((a5 ≤ a4 ∧ a2 = (-1)) ∨ (a4 < a5 ∧ (0 ≤ a2 ∧ a2 ≤ 255)))) (h4 : a5 = a6) (h5 : 0 ≤ a3) : (a0 = a7 ∨ a0 ≤ a6) := by omega
theorem oq_00dd204b {a0 a1 a2 a3 : Int} (h0 : a0 = a1) (h1 : a1 = a2) (h2 : a2 = a3) (h3 : 0 ≤ a3) : (a3 ≠ 0 → a0 ≠ 0) := by omega
theorem oq_8800f1ea {a0 a1 a2 a3 a4 a5 a6 a7 a8 : Int} (h0 : a0 = (a1 + 1)) (h1 : a2 = a3) (h2 : a1 = a4) (h3 : ((a5 ≤ a4 ∧ a2 = (-1)) ∨ (a4 < a5 ∧ (0 ≤ a2 ∧ a2 ≤ 255)))) (h4 : a5 = a6) (h5 : a7 ≤ a4) (h6 : 0 ≤ a3) : (a8 = 0 → (a7 < a0 ∧ a0 ≤ a6)) := by omega
theorem oq_18969492 {a0 : Int} (h0 : a0 ≤ 7) : (a0 + 1) ≤ 8 := by omega
theorem oq_c3299dea {a0 a1 : Int} (h0 : 1 ≤ a0) (h1 : 0 ≤ a1) : 0 ≤ (a1 + a0) := by omega
theorem oq_69d89cff {a0 a1 a2 : Int} (h0 : a0 ≤ 3) (h1 : a1 = a2) (h2 : a2 ≤ 380) : (a1 + a0) ≤ 400 := by omega
theorem oq_96c994d3 {a0 a1 : Int} (h0 : 1 ≤ a0) (h1 : 0 ≤ a1) : (-2147483648) ≤ (a1 + a0) := by omega
theorem oq_99fe3e62 {a0 a1 : Int} (h0 : a0 ≤ 3) (h1 : a1 ≤ 400) : (a1 + a0) ≤ 2147483647 := by omega
theorem oq_f1381ab8 {a0 a1 a2 a3 : Int} (h0 : a0 = (a1 + a2)) (h1 : a1 = a3) : a0 = (a3 + a2) := by omega
theorem oq_4b8d46b3 {a0 a1 a2 : Int} (h0 : a0 = a1) (h1 : a1 = (a2 + 1)) : a0 = (a2 + 1) := by omega
theorem oq_3da60cc3 {a0 a1 a2 : Int} (h0 : a0 = a1) (h1 : a1 = a2) (h2 : 0 ≤ a2) : (a2 ≠ 0 → a0 ≠ 0) := by omega
theorem oq_2b028323 {a0 a1 : Int} (h0 : a0 ≠ 6) : (a0 = 6 → a1 ≠ 0) := by omega
theorem oq_7dbb59f7 {a0 a1 : Int} (h0 : a0 = a1) (h1 : a1 = 6) : (a0 + 1) ≤ 8 := by omega
theorem oq_75116c0c {a0 a1 a2 a3 : Int} (h0 : a0 ≤ 3) (h1 : a1 = a2) (h2 : a2 = a3) (h3 : a3 ≤ 380) : (a1 + a0) ≤ 400 := by omega
theorem oq_0f45dae9 {a0 a1 a2 a3 a4 : Int} (h0 : a0 = (a1 + a2)) (h1 : a3 = a4) (h2 : a1 = a3) : a0 = (a4 + a2) := by omega
theorem oq_20fce6d9 {a0 a1 a2 a3 : Int} (h0 : a0 = a1) (h1 : a1 = (a2 + 1)) (h2 : a2 = a3) : a0 = (a3 + 1) := by omega
theorem oq_07c40900 {a0 a1 a2 a3 : Int} (h0 : a0 = a1) (h1 : a1 = a2) (h2 : 0 ≤ a2) (h3 : a2 ≠ 0) : (a3 ≠ 0 → a0 ≠ 0) := by omega
theorem oq_43918552 {a0 a1 a2 a3 : Int} (h0 : a0 = a1) (h1 : a1 = a2) (h2 : 0 ≤ a2) (h3 : a2 ≠ 0) : (a3 = 6 → a0 ≠ 0) := by omega
theorem oq_2954f754 {a0 a1 a2 a3 : Int} (h0 : a0 = a1) (h1 : a1 = a2) (h2 : a3 ≤ a2) : a3 ≤ a0 := by omega
theorem oq_c694edf3 {a0 a1 a2 a3 : Int} (h0 : a0 = a1) (h1 : a1 = a2) (h2 : 0 ≤ a2) (h3 : (a3 ≠ 0 → a2 ≠ 0)) (h4 : 0 ≤ a3) : (a3 ≠ 0 → a0 ≠ 0) := by omega
theorem oq_f45fb0af {a0 a1 a2 a3 a4 a5 a6 : Int} (h0 : a0 = a1) (h1 : a2 ≠ 0) (h2 : a1 = a3) (h3 : ((a2 = 1 ∧ (48 ≤ a4 ∧ a4 ≤ 57)) ∨ (a2 = 0 ∧ (a4 < 48 ∨ 57 < a4)))) (h4 : a3 = a5) (h5 : ((a6 ≤ a5 ∧ a4 = (-1)) ∨ (a5 < a6 ∧ (0 ≤ a4 ∧ a4 ≤ 255)))) (h6 : a6 ≤ 200) : (a0 + 1) ≤ 400 := by omega
theorem oq_09a0992e {a0 a1 a2 a3 a4 a5 : Int} (h0 : a0 = (a1 + 1)) (h1 : a2 ≤ a3) (h2 : a1 = a4) (h3 : a5 = a3) (h4 : a4 = a5) : a2 ≤ a0 := by omega
theorem oq_f92305f6 {a0 a1 a2 a3 a4 a5 a6 a7 a8 a9 a10 a11 a12 : Int} (h0 : a0 = (a1 + 1)) (h1 : a1 = a2) (h2 : ((a3 ≤ a2 ∧ a4 = (-1)) ∨ (a2 < a3 ∧ (0 ≤ a4 ∧ a4 ≤ 255)))) (h3 : a5 ≠ 0) (h4 : a3 = a6) (h5 : a2 = a7) (h6 : ((a5 = 1 ∧ (48 ≤ a8 ∧ a8 ≤ 57)) ∨ (a5 = 0 ∧ (a8 < 48 ∨ 57 < a8)))) (h7 : a6 = a9) (h8 : a7 = a10) (h9 : ((a9 ≤ a10 ∧ a8 = (-1)) ∨ (a10 < a9 ∧ (0 ≤ a8 ∧ a8 ≤ 255)))) (h10 : a9 = a11) : (a0 = a12 ∨ a0 ≤ a11) := by omega
theorem oq_b4d295d9 {a0 a1 a2 a3 a4 a5 : Int} (h0 : a0 = a1) (h1 : a2 = a3) (h2 : a1 = a4) (h3 : a4 = a5) (h4 : a5 = a2) : a0 = a3 := by omega
theorem oq_3bb1476c {a0 a1 a2 a3 a4 a5 : Int} (h0 : a0 = a1) (h1 : a1 = a2) (h2 : a2 = a3) (h3 : a3 = a4) (h4 : 0 ≤ a4) (h5 : (a5 ≠ 0 → a4 ≠ 0)) (h6 : 0 ≤ a5) : (a5 ≠ 0 → a0 ≠ 0) := by omega
theorem oq_7fe4a191 {a0 a1 a2 a3 a4 a5 a6 a7 a8 a9 : Int} (h0 : a0 = a1) (h1 : a2 = (a3 + 1)) (h2 : a1 = a4) (h3 : a3 = a5) (h4 : a4 = a6) (h5 : a5 = a7) (h6 : a6 = a8) (h7 : a7 = a9) : (a0 - a2) < (a8 - a9) := by omega
theorem oq_ff13add5 {a0 a1 a2 a3 : Int} (h0 : a0 ≠ 0) (h1 : ((a0 = 1 ∧ (48 ≤ a1 ∧ a1 ≤ 57)) ∨ (a0 = 0 ∧ (a1 < 48 ∨ 57 < a1)))) (h2 : ((a2 ≤ a3 ∧ a1 = (-1)) ∨ (a3 < a2 ∧ (0 ≤ a1 ∧ a1 ≤ 255)))) : 0 < (a2 - a3) := by omega
theorem oq_821adba3 {a0 a1 a2 a3 a4 a5 a6 a7 : Int} (h0 : a0 ≠ 0) (h1 : a1 = a2) (h2 : ((a0 = 1 ∧ (48 ≤ a3 ∧ a3 ≤ 57)) ∨ (a0 = 0 ∧ (a3 < 48 ∨ 57 < a3)))) (h3 : a2 = a4) (h4 : ((a5 ≤ a4 ∧ a3 = (-1)) ∨ (a4 < a5 ∧ (0 ≤ a3 ∧ a3 ≤ 255)))) (h5 : a5 = a6) : (a1 = a7 ∨ a1 ≤ a6) := by omega
theorem oq_6bc29d15 {a0 a1 : Int} (h0 : a0 = a1) (h1 : (-2147483648) ≤ a1) : (-2147483648) ≤ a0 := by omega
theorem oq_60a194f9 {a0 a1 : Int} (h0 : a0 = a1) (h1 : a1 ≤ 2147483647) : a0 ≤ 2147483647 := by omega
theorem oq_82a8716b {a0 a1 a2 a3 a4 a5 a6 a7 : Int} (h0 : a0 = a1) (h1 : (a1 = a2 ∨ a1 ≤ a3)) (h2 : a4 ≠ 0) (h3 : ((a4 = 1 ∧ (48 ≤ a5 ∧ a5 ≤ 57)) ∨ (a4 = 0 ∧ (a5 < 48 ∨ 57 < a5)))) (h4 : ((a6 ≤ a7 ∧ a5 = (-1)) ∨ (a7 < a6 ∧ (0 ≤ a5 ∧ a5 ≤ 255)))) (h5 : a6 = a3) (h6 : a2 ≤ a7) : (a0 = a2 ∨ a0 ≤ a3) := by omega
theorem oq_88e312fc {a0 a1 a2 : Int} (h0 : a0 = a1) (h1 : 0 ≤ a1) (h2 : (a2 ≠ 0 → a1 ≠ 0)) (h3 : 0 ≤ a2) : (a2 ≠ 0 → a0 ≠ 0) := by omega
theorem oq_9d364511 {a0 a1 a2 a3 a4 a5 a6 : Int} (h0 : a0 ≠ 0) (h1 : ((a0 = 1 ∧ (a1 ≤ a2 ∧ a2 ≤ a3)) ∨ (a0 = 0 ∧ (a2 < a1 ∨ a3 < a2)))) (h2 : a3 = a4) (h3 : a1 = a5) : (a6 = 0 → (a5 ≤ a2 ∧ a2 ≤ a4)) := by omega
theorem oq_e191e89b {a0 a1 a2 a3 a4 a5 a6 a7 a8 : Int} (h0 : a0 = a1) (h1 : a1 = a2) (h2 : (a2 = a3 ∨ a2 ≤ a4)) (h3 : a5 ≠ 0) (h4 : ((a5 = 1 ∧ (48 ≤ a6 ∧ a6 ≤ 57)) ∨ (a5 = 0 ∧ (a6 < 48 ∨ 57 < a6)))) (h5 : ((a7 ≤ a8 ∧ a6 = (-1)) ∨ (a8 < a7 ∧ (0 ≤ a6 ∧ a6 ≤ 255)))) (h6 : a7 = a4) (h7 : a3 ≤ a8) : (a0 = a3 ∨ a0 ≤ a4) := by omega
theorem oq_38faa694 {a0 a1 a2 a3 : Int} (h0 : 0 ≤ a0) (h1 : a0 ≠ 0) : (a0 = 0 → (a1 ≤ a2 ∧ a2 ≤ a3)) := by omega
theorem oq_bd4a8eb1 {a0 a1 a2 a3 a4 : Int} (h0 : a0 = a1) (h1 : a2 ≤ a3) (h2 : a1 = a4) (h3 : a4 = a3) : a2 ≤ a0 := by omega
theorem oq_38b7f8bb {a0 a1 a2 a3 a4 a5 : Int} (h0 : a0 = a1) (h1 : a1 = a2) (h2 : a2 = a3) (h3 : (a3 = a4 ∨ a3 ≤ a5)) (h4 : a4 ≤ a3) : (a0 = a4 ∨ a0 ≤ a5) := by omega
theorem oq_d8d6a599 {a0 a1 : Int} (h0 : 0 ≤ a0) (h1 : 0 ≤ a1) : 0 ≤ (a1 + a0) := by omega
theorem oq_faec2b3d {a0 a1 : Int} (h0 : a0 ≤ 200) (h1 : a1 ≤ 400) : (a1 + a0) ≤ 2147483647 := by omega
theorem oq_64f00eb9 {a0 a1 a2 a3 : Int} (h0 : a0 = a1) (h1 : (1 ≤ a2 → a1 < a3)) : (1 ≤ a2 → a0 < a3) := by omega
theorem oq_cd0949b0 {a0 a1 a2 a3 a4 a5 a6 a7 : Int} (h0 : 122 < a0) (h1 : a1 = a2) (h2 : ((a3 ≤ (a2 + a4) ∧ a0 = (-1)) ∨ ((a2 + a4) < a3 ∧ (0 ≤ a0 ∧ a0 ≤ 255)))) (h3 : a3 = a5) (h4 : 0 ≤ a4) (h5 : a5 = a6) : (a1 = a7 ∨ a1 ≤ a6) := by omega
theorem oq_1863856d {a0 a1 a2 a3 a4 a5 a6 : Int} (h0 : 122 < a0) (h1 : a1 = a2) (h2 : ((a3 ≤ (a2 + a4) ∧ a0 = (-1)) ∨ ((a2 + a4) < a3 ∧ (0 ≤ a0 ∧ a0 ≤ 255)))) (h3 : a3 = a5) (h4 : a5 = a6) : (1 ≤ a4 → a1 < a6) := by omega
theorem oq_8987532c {a0 a1 a2 a3 a4 a5 a6 a7 : Int} (h0 : 6 ≤ a0) (h1 : a1 = a2) (h2 : 97 ≤ a3) (h3 : a2 = a4) (h4 : ((a5 ≤ (a4 + a0) ∧ a3 = (-1)) ∨ ((a4 + a0) < a5 ∧ (0 ≤ a3 ∧ a3 ≤ 255)))) (h5 : a5 = a6) : (a1 = a7 ∨ a1 ≤ a6) := by omega
theorem oq_ef1a1f20 {a0 : Int} (h0 : 6 ≤ a0) : 0 ≤ (a0 + 1) := by omega
theorem oq_46d7741e {a0 a1 a2 a3 a4 a5 a6 : Int} (h0 : ((a0 ≤ (a1 + a2) ∧ a3 = (-1)) ∨ ((a1 + a2) < a0 ∧ (0 ≤ a3 ∧ a3 ≤ 255)))) (h1 : 0 ≤ a1) (h2 : 97 ≤ a4) (h3 : a0 = a5) (h4 : a1 = a6) (h5 : ((a5 ≤ (a6 + a2) ∧ a4 = (-1)) ∨ ((a6 + a2) < a5 ∧ (0 ≤ a4 ∧ a4 ≤ 255)))) (h6 : a5 ≤ 200) : (a2 + 1) ≤ 200 := by omega
theorem oq_d8509bc0 {a0 a1 : Int} (h0 : 6 ≤ a0) : ((a0 + 1) = 0 → a1 = 0) := by omega
theorem oq_810f8ff6 {a0 a1 a2 a3 a4 a5 a6 : Int} (h0 : 6 ≤ a0) (h1 : a1 = a2) (h2 : 97 ≤ a3) (h3 : a2 = a4) (h4 : ((a5 ≤ (a4 + a0) ∧ a3 = (-1)) ∨ ((a4 + a0) < a5 ∧ (0 ≤ a3 ∧ a3 ≤ 255)))) (h5 : a5 = a6) : (1 ≤ (a0 + 1) → a1 < a6) := by omega
theorem oq_4b400f0f {a0 a1 a2 a3 a4 a5 a6 : Int} (h0 : ((a0 ≤ (a1 + a2) ∧ a3 = (-1)) ∨ ((a1 + a2) < a0 ∧ (0 ≤ a3 ∧ a3 ≤ 255)))) (h1 : 0 ≤ a1) (h2 : 97 ≤ a4) (h3 : a0 = a5) (h4 : a1 = a6) (h5 : ((a5 ≤ (a6 + a2) ∧ a4 = (-1)) ∨ ((a6 + a2) < a5 ∧ (0 ≤ a4 ∧ a4 ≤ 255)))) (h6 : a5 ≤ 200) : 0 < (200 - a2) := by omega
theorem oq_0835e488 {a0 a1 : Int} (h0 : a0 ≤ 400) (h1 : a1 < 6) : (a0 + a1) ≤ 2147483647 := by omega
theorem oq_fbd1858b {a0 a1 a2 a3 a4 a5 a6 a7 a8 : Int} (h0 : a0 = a1) (h1 : a1 = a2) (h2 : 97 ≤ a3) (h3 : a2 = a4) (h4 : ((a5 ≤ (a4 + a6) ∧ a3 = (-1)) ∨ ((a4 + a6) < a5 ∧ (0 ≤ a3 ∧ a3 ≤ 255)))) (h5 : 0 ≤ a6) (h6 : a5 = a7) : (a0 = a8 ∨ a0 ≤ a7) := by omega
theorem oq_88fcdc91 {a0 : Int} (h0 : a0 < 6) : (a0 + 1) ≤ 200 := by omega
theorem oq_b860ca62 {a0 a1 : Int} (h0 : 0 ≤ a0) : ((a0 + 1) = 0 → a1 = 0) := by omega
theorem oq_3fd0273b {a0 a1 a2 a3 a4 a5 a6 a7 a8 a9 a10 a11 : Int} (h0 : a0 = a1) (h1 : ((a2 ≤ (a1 + a3) ∧ a4 = (-1)) ∨ ((a1 + a3) < a2 ∧ (0 ≤ a4 ∧ a4 ≤ 255)))) (h2 : a2 = a5) (h3 : a1 = a6) (h4 : ((a5 ≤ (a6 + a3) ∧ a7 = (-1)) ∨ ((a6 + a3) < a5 ∧ (0 ≤ a7 ∧ a7 ≤ 255)))) (h5 : 97 ≤ a8) (h6 : a5 = a9) (h7 : a6 = a10) (h8 : ((a9 ≤ (a10 + a3) ∧ a8 = (-1)) ∨ ((a10 + a3) < a9 ∧ (0 ≤ a8 ∧ a8 ≤ 255)))) (h9 : 0 ≤ a3) (h10 : a9 = a11) : (1 ≤ (a3 + 1) → a0 < a11) := by omega
theorem oq_8e8d8f07 {a0 : Int} (h0 : a0 < 6) : 0 < (200 - a0) := by omega
theorem oq_c2ed65b6  : (0 = 0 → 0 = 0) := by omega
theorem oq_901188d8 {a0 a1 : Int}  : (1 ≤ 0 → a0 < a1) := by omega
theorem oq_02aa45b0 {a0 a1 a2 : Int} (h0 : ((a0 ≤ 6 ∧ a1 = a2) ∨ (6 < a0 ∧ a1 = (-1)))) (h1 : (-2147483648) ≤ a2) : (-2147483648) ≤ a1 := by omega
theorem oq_78b72728 {a0 a1 a2 : Int} (h0 : ((a0 ≤ 6 ∧ a1 = a2) ∨ (6 < a0 ∧ a1 = (-1)))) (h1 : a2 ≤ 2147483647) : a1 ≤ 2147483647 := by omega
theorem oq_c9cc9202 {a0 a1 a2 a3 a4 : Int} (h0 : ((a0 ≤ 6 ∧ a1 = a2) ∨ (6 < a0 ∧ a1 = (-1)))) (h1 : (1 ≤ a0 → a3 < a4)) (h2 : (a0 = 0 → a2 = 0)) (h3 : 0 ≤ a0) : (a1 ≠ 0 → a3 < a4) := by omega
theorem oq_b301c3bf {a0 : Int} (h0 : a0 ≤ 6) : a0 ≤ 2147483647 := by omega
theorem oq_1a22b625 {a0 a1 a2 a3 a4 a5 a6 a7 a8 : Int} (h0 : a0 = a1) (h1 : a1 = a2) (h2 : a2 = a3) (h3 : a3 = a4) (h4 : a4 = a5) (h5 : a5 = a6) (h6 : a6 = a7) (h7 : a8 ≤ a7) : a8 ≤ a0 := by omega
theorem oq_c7e4d1fa {a0 a1 a2 a3 a4 a5 a6 a7 a8 a9 : Int} (h0 : a0 = a1) (h1 : a1 = a2) (h2 : a2 = a3) (h3 : a3 = a4) (h4 : a4 = a5) (h5 : a5 = a6) (h6 : a6 = a7) (h7 : (a7 = a8 ∨ a7 ≤ a9)) (h8 : a8 ≤ a7) : (a0 = a8 ∨ a0 ≤ a9) := by omega
theorem oq_0d4062ee {a0 a1 a2 a3 a4 a5 a6 a7 a8 a9 a10 a11 : Int} (h0 : (-1) ≤ a0) (h1 : ((a1 ≠ a2 ∧ a0 = (-1)) ∨ (a1 = a2 ∧ a0 = 6))) (h2 : a3 = a4) (h3 : 1 ≤ a2) (h4 : a4 = a5) (h5 : a5 = a6) (h6 : a6 = a7) (h7 : a7 = a8) (h8 : a8 = a9) (h9 : a9 = a10) (h10 : (a1 ≠ 0 → a10 < a11)) : (a0 ≠ (-1) → a3 < a11) := by omega
theorem oq_848a55a6 {a0 a1 a2 a3 a4 a5 a6 a7 : Int} (h0 : a0 = a1) (h1 : a1 = a2) (h2 : a2 = a3) (h3 : a3 = a4) (h4 : a4 = a5) (h5 : a5 = a6) (h6 : a7 ≤ a6) : a7 ≤ a0 := by omega
theorem oq_729a7106 {a0 a1 a2 a3 a4 a5 a6 a7 a8 a9 a10 : Int} (h0 : a0 = a1) (h1 : a2 = a3) (h2 : 1 ≤ a1) (h3 : a3 = a4) (h4 : a4 = a5) (h5 : a5 = a6) (h6 : a6 = a7) (h7 : a7 = a8) (h8 : (a0 ≠ 0 → a8 < a9)) : (a2 = a10 ∨ a2 ≤ a9) := by omega
theorem oq_829509e8 {a0 a1 a2 a3 a4 a5 a6 a7 a8 a9 : Int} (h0 : a0 = a1) (h1 : a2 = a3) (h2 : 1 ≤ a1) (h3 : a3 = a4) (h4 : a4 = a5) (h5 : a5 = a6) (h6 : a6 = a7) (h7 : a7 = a8) (h8 : (a0 ≠ 0 → a8 < a9)) : (5 ≠ (-1) → a2 < a9) := by omega
theorem oq_17730e68 {a0 a1 a2 a3 a4 a5 a6 : Int} (h0 : a0 = a1) (h1 : a1 = a2) (h2 : a2 = a3) (h3 : a3 = a4) (h4 : a4 = a5) (h5 : a6 ≤ a5) : a6 ≤ a0 := by omega
theorem oq_1ad4a7f8 {a0 a1 a2 a3 a4 a5 a6 a7 a8 a9 : Int} (h0 : a0 = a1) (h1 : a2 = a3) (h2 : 1 ≤ a1) (h3 : a3 = a4) (h4 : a4 = a5) (h5 : a5 = a6) (h6 : a6 = a7) (h7 : (a0 ≠ 0 → a7 < a8)) : (a2 = a9 ∨ a2 ≤ a8) := by omega
theorem oq_57df88a9 {a0 a1 a2 a3 a4 a5 a6 a7 a8 : Int} (h0 : a0 = a1) (h1 : a2 = a3) (h2 : 1 ≤ a1) (h3 : a3 = a4) (h4 : a4 = a5) (h5 : a5 = a6) (h6 : a6 = a7) (h7 : (a0 ≠ 0 → a7 < a8)) : (4 ≠ (-1) → a2 < a8) := by omega
theorem oq_11fe630f {a0 a1 a2 a3 a4 a5 : Int} (h0 : a0 = a1) (h1 : a1 = a2) (h2 : a2 = a3) (h3 : a3 = a4) (h4 : a5 ≤ a4) : a5 ≤ a0 := by omega
theorem oq_69067335 {a0 a1 a2 a3 a4 a5 a6 a7 a8 : Int} (h0 : a0 = a1) (h1 : a2 = a3) (h2 : 1 ≤ a1) (h3 : a3 = a4) (h4 : a4 = a5) (h5 : a5 = a6) (h6 : (a0 ≠ 0 → a6 < a7)) : (a2 = a8 ∨ a2 ≤ a7) := by omega
theorem oq_24ca1aeb {a0 a1 a2 a3 a4 a5 a6 a7 : Int} (h0 : a0 = a1) (h1 : a2 = a3) (h2 : 1 ≤ a1) (h3 : a3 = a4) (h4 : a4 = a5) (h5 : a5 = a6) (h6 : (a0 ≠ 0 → a6 < a7)) : (3 ≠ (-1) → a2 < a7) := by omega
theorem oq_47978b2f {a0 a1 a2 a3 a4 : Int} (h0 : a0 = a1) (h1 : a1 = a2) (h2 : a2 = a3) (h3 : a4 ≤ a3) : a4 ≤ a0 := by omega
theorem oq_85016481 {a0 a1 a2 a3 a4 a5 a6 a7 : Int} (h0 : a0 = a1) (h1 : a2 = a3) (h2 : 1 ≤ a1) (h3 : a3 = a4) (h4 : a4 = a5) (h5 : (a0 ≠ 0 → a5 < a6)) : (a2 = a7 ∨ a2 ≤ a6) := by omega
theorem oq_ed1d23fc {a0 a1 a2 a3 a4 a5 a6 : Int} (h0 : a0 = a1) (h1 : a2 = a3) (h2 : 1 ≤ a1) (h3 : a3 = a4) (h4 : a4 = a5) (h5 : (a0 ≠ 0 → a5 < a6)) : (2 ≠ (-1) → a2 < a6) := by omega
theorem oq_d2f0a5e5 {a0 a1 a2 a3 a4 a5 a6 : Int} (h0 : a0 = a1) (h1 : a2 = a3) (h2 : 1 ≤ a1) (h3 : a3 = a4) (h4 : (a0 ≠ 0 → a4 < a5)) : (a2 = a6 ∨ a2 ≤ a5) := by omega
theorem oq_4f60f847 {a0 a1 a2 a3 a4 a5 : Int} (h0 : a0 = a1) (h1 : a2 = a3) (h2 : 1 ≤ a1) (h3 : a3 = a4) (h4 : (a0 ≠ 0 → a4 < a5)) : (1 ≠ (-1) → a2 < a5) := by omega
theorem oq_0b55d760 {a0 a1 a2 a3 a4 a5 : Int} (h0 : a0 = a1) (h1 : a2 = a3) (h2 : 1 ≤ a1) (h3 : (a0 ≠ 0 → a3 < a4)) : (a2 = a5 ∨ a2 ≤ a4) := by omega
theorem oq_89d1dd48 {a0 a1 a2 a3 a4 : Int} (h0 : a0 = a1) (h1 : a2 = a3) (h2 : 1 ≤ a1) (h3 : (a0 ≠ 0 → a3 < a4)) : (0 ≠ (-1) → a2 < a4) := by omega
theorem oq_6c55e2f6 {a0 : Int} (h0 : a0 ≤ 380) : a0 ≤ 400 := by omega
theorem oq_5d668942 {a0 : Int} (h0 : a0 ≤ 380) : a0 ≤ 2147483647 := by omega
/-! The model: words and numbers of a text, marks -/
section M34
variable {l : Launch} {s0 : State} {D : va_G} {tys : List (ClassId × FieldType)} {a0 : Array Value} {A : Nat → Nat} {dT : Nat → ClassId} {s : PS}
theorem k_stepOf (G : GX l s0 D tys a0 dT) (I : Bd s) {x y : Int} (p0 : 0 ≤ x ∧ x ≤ 127) (p1 : 0 ≤ y ∧ y ≤ 127) : CT l s0 D A dT 225 (rmN 225) [.int (Int32.ofInt x), .int (Int32.ofInt y)] s (fun o t => Bd t ∧ Fm [] [] s t ∧ ∃ e, o = .inl (some (.int (Int32.ofInt e))) ∧ rng e ∧ (0 ≤ e ∧ e ≤ 5)) := by
  refine ct_of G (by decide) (Nat.le_of_ble_eq_true rfl) (fun k X E hRt hXt q => ?_)
  show WS k 0 [(0, .int (Int32.ofInt x)), (1, .int (Int32.ofInt y))] [] _ 0 0
  have F : Fm [] [] s s := fm_rf _ _ s
  refine z_load_n X (x := y) rfl (List.Mem.tail _ (List.Mem.head _)) (z_load_n X (x := x) rfl (List.Mem.head _) (z_sub X rfl (z_const X rfl ?_)))
  have N1 : ∀ e2 : Int, (0 ≤ e2 ∧ e2 ≤ 5) → WS k 59 [(0, .int (Int32.ofInt x)), (1, .int (Int32.ofInt y))] [.int (Int32.ofInt e2)] (Wd A dT s) 0 0 := by
    intro e2 he2
    exact w_iret X.1 q hRt rfl (ax_d X (show cdA 225 59 = some (.ireturn, 1, 0, 0, 0) from rfl)) (Nat.zero_le _) (Nat.zero_le _) ⟨_, rfl, I, F, e2, rfl, ⟨by first | exact oq_fa4e5087 he2.1 | omega, by first | exact oq_a3dd55e5 he2.2 | omega⟩, by first | exact ⟨he2.1, he2.2⟩ | omega⟩
  refine z_icmp_ne X (t := 11) rfl rfl ⟨by first | exact oq_449d3e35 p1.1 p0.2 | omega, by first | exact oq_ad754bc3 p1.2 p0.1 | omega⟩ (by decide) (fun g3 => ?_) (fun g3 => ?_)
  ·
    refine z_load_n X (x := y) rfl (List.Mem.tail _ (List.Mem.head _)) (z_load_n X (x := x) rfl (List.Mem.head _) (z_sub X rfl (z_const X rfl (z_icmp_ne X (t := 22) rfl rfl ⟨by first | exact oq_449d3e35 p1.1 p0.2 | omega, by first | exact oq_ad754bc3 p1.2 p0.1 | omega⟩ (by decide) (fun g4 => ?_) (fun g4 => ?_)))))
    ·
      refine z_load_n X (x := y) rfl (List.Mem.tail _ (List.Mem.head _)) (z_load_n X (x := x) rfl (List.Mem.head _) (z_sub X rfl (z_bipush X rfl (z_icmp_ne X (t := 34) rfl rfl ⟨by first | exact oq_449d3e35 p1.1 p0.2 | omega, by first | exact oq_ad754bc3 p1.2 p0.1 | omega⟩ (by decide) (fun g5 => ?_) (fun g5 => ?_)))))
      ·
        refine z_load_n X (x := y) rfl (List.Mem.tail _ (List.Mem.head _)) (z_load_n X (x := x) rfl (List.Mem.head _) (z_sub X rfl (z_bipush X rfl (z_icmp_ne X (t := 46) rfl rfl ⟨by first | exact oq_449d3e35 p1.1 p0.2 | omega, by first | exact oq_ad754bc3 p1.2 p0.1 | omega⟩ (by decide) (fun g6 => ?_) (fun g6 => ?_)))))
        ·
          refine z_load_n X (x := y) rfl (List.Mem.tail _ (List.Mem.head _)) (z_load_n X (x := x) rfl (List.Mem.head _) (z_sub X rfl (z_bipush X rfl (z_icmp_ne X (t := 58) rfl rfl ⟨by first | exact oq_449d3e35 p1.1 p0.2 | omega, by first | exact oq_ad754bc3 p1.2 p0.1 | omega⟩ (by decide) (fun g7 => ?_) (fun g7 => ?_)))))
          ·
            refine z_const X rfl ?_
            exact N1 _ (by first | (clear g7 g6 g5 g4 g3; omega) | (clear g6 g5 g4 g3; omega) | omega)
          ·
            refine z_const X rfl (z_goto X (t := 59) rfl rfl ?_)
            exact N1 _ (by first | (clear g6 g5 g4 g3; omega) | (clear g5 g4 g3; omega) | omega)
        ·
          refine z_const X rfl (z_goto X (t := 59) rfl rfl ?_)
          exact N1 _ (by first | (clear g5 g4 g3; omega) | (clear g4 g3; omega) | omega)
      ·
        refine z_const X rfl (z_goto X (t := 59) rfl rfl ?_)
        exact N1 _ (by first | (clear g4 g3; omega) | (clear g3; omega) | omega)
    ·
      refine z_const X rfl (z_goto X (t := 59) rfl rfl ?_)
      exact N1 _ (by first | (clear g3; omega) | omega)
  ·
    refine z_const X rfl (z_goto X (t := 59) rfl rfl ?_)
    exact N1 _ (by omega)
theorem k_total (G : GX l s0 D tys a0 dT) (I : Bd s) {x : Int} (p0 : 0 ≤ x ∧ x ≤ 11) : CT l s0 D A dT 248 (rmN 248) [.ref (A 179), .int (Int32.ofInt x)] s (fun o t => Bd t ∧ Fm [] [] s t ∧ ∃ e, o = .inl (some (.int (Int32.ofInt e))) ∧ rng e ∧ (0 ≤ e ∧ e ≤ 1200)) := by
  refine ct_of G (by decide) (Nat.le_of_ble_eq_true rfl) (fun k X E hRt hXt q => ?_)
  show WS k 0 [(0, .ref (A 179)), (1, .int (Int32.ofInt x))] [] _ 0 0
  have F : Fm [] [] s s := fm_rf _ _ s
  have L4 : ∀ (n : Nat) (t : PS) (xv nv c : Int), Bd t → Fm [] [] s t → ((0 ≤ xv ∧ xv ≤ 11) ∧ 0 ≤ nv ∧ nv ≤ 50 * c ∧ 0 ≤ c ∧ c ≤ 24) → (24 - c : Int).toNat < n → (∀ (t' : PS) (xv' nv' c' : Int), Bd t' → Fm [] [] s t' → ((0 ≤ xv' ∧ xv' ≤ 11) ∧ 0 ≤ nv' ∧ nv' ≤ 50 * c' ∧ 0 ≤ c' ∧ c' ≤ 24) → WS k 27 [(0, .ref (A 179)), (1, .int (Int32.ofInt xv')), (2, .int (Int32.ofInt nv')), (3, .int (Int32.ofInt c'))] [] (Wd A dT t') 0 0) → WS k 4 [(0, .ref (A 179)), (1, .int (Int32.ofInt xv)), (2, .int (Int32.ofInt nv)), (3, .int (Int32.ofInt c))] [] (Wd A dT t) 0 0 := by
    intro n
    induction n with
    | zero =>
      intro t xv nv c I F hi hm kx
      exact absurd hm (Nat.not_lt_zero _)
    | succ n ih =>
      intro t xv nv c I F hi hm kx
      refine z_load_n X (x := c) rfl (List.Mem.tail _ (List.Mem.tail _ (List.Mem.tail _ (List.Mem.head _)))) (z_bipush X rfl (z_icmp_ge X (t := 27) rfl rfl ⟨by first | exact oq_fa4e5087 hi.2.2.2.1 | omega, by first | exact oq_5bcd337f hi.2.2.2.2 | omega⟩ (by decide) (fun g1001 => ?_) (fun g1001 => ?_)))
      ·
        refine WS_pq [0, 1, 2, 3] (lv' := [(0, .ref (A 179)), (1, .int (Int32.ofInt xv)), (2, .int (Int32.ofInt nv)), (3, .int (Int32.ofInt c))]) rfl ?_
        exact kx _ xv nv c I F (by first | exact ⟨And.intro (hi.1.1) (hi.1.2), hi.2.1, hi.2.2.1, hi.2.2.2.1, hi.2.2.2.2⟩ | omega)
      ·
        refine z_load_n X (x := nv) rfl (List.Mem.tail _ (List.Mem.tail _ (List.Mem.head _))) (z_aload_n X (x := A 179) rfl (List.Mem.head _) (s_getR X 179 rfl (c518_ok rfl) rfl rfl (z_load_n X (x := xv) rfl (List.Mem.tail _ (List.Mem.head _)) (z_aald X rw_215 rfl (by first | exact hi.1.1 | omega) (show xv < 12 by first | exact oq_0ddfcfee hi.1.2 | omega) (by decide) (z_load_n X (x := c) rfl (List.Mem.tail _ (List.Mem.tail _ (List.Mem.tail _ (List.Mem.head _)))) (z_ald2 X rw_215 rfl (show (xv : Int).toNat < 12 by first | exact oq_9c5fa447 hi.1.2 | omega) (by first | exact hi.2.2.2.1 | omega) (show c < 24 by first | exact g1001 | omega) (by decide) ?_))))))
        have b1002 : (0 : Int) ≤ (iC t (190 + (xv : Int).toNat) (c : Int).toNat) ∧ (iC t (190 + (xv : Int).toNat) (c : Int).toNat) ≤ 50 := rw_bd rw_215 I (show (xv : Int).toNat < 12 by first | exact oq_9c5fa447 hi.1.2 | omega) (show (c : Int).toNat < 24 by first | exact oq_797efae6 g1001 | omega)
        refine z_add X rfl (z_store_n X (lv' := [(2, .int (Int32.ofInt (nv + (iC t (190 + (xv : Int).toNat) (c : Int).toNat)))), (0, .ref (A 179)), (1, .int (Int32.ofInt xv)), (3, .int (Int32.ofInt c))]) rfl (by decide) (fun _ h => h) (z_inc X (x := c) (lv' := [(3, .int (Int32.ofInt (c + 1))), (2, .int (Int32.ofInt (nv + (iC t (190 + (xv : Int).toNat) (c : Int).toNat)))), (0, .ref (A 179)), (1, .int (Int32.ofInt xv))]) rfl (by decide) (List.Mem.tail _ (List.Mem.tail _ (List.Mem.tail _ (List.Mem.head _)))) (fun _ h => h) (z_goto X (t := 4) rfl rfl (WS_pq [2, 3, 1, 0] (lv' := [(0, .ref (A 179)), (1, .int (Int32.ofInt xv)), (2, .int (Int32.ofInt (nv + (iC t (190 + (xv : Int).toNat) (c : Int).toNat)))), (3, .int (Int32.ofInt (c + 1)))]) rfl ?_))))
        exact ih _ xv (nv + (iC t (190 + (xv : Int).toNat) (c : Int).toNat)) (c + 1) I F (by first | exact ⟨And.intro (hi.1.1) (hi.1.2), oq_dd29f52d hi.2.1 b1002.1, oq_d1fd8eeb hi.2.2.1 b1002.2, oq_54f49eb5 hi.2.2.2.1, oq_cec7cb2e g1001⟩ | omega) (by first | exact qk_me hm (by decide) (oq_ffa8317e g1001) | omega) kx
  refine z_const X rfl (z_store_n X (lv' := [(2, .int (Int32.ofInt 0)), (0, .ref (A 179)), (1, .int (Int32.ofInt x))]) rfl (by decide) (fun _ h => h) (z_const X rfl (z_store_n X (lv' := [(3, .int (Int32.ofInt 0)), (2, .int (Int32.ofInt 0)), (0, .ref (A 179)), (1, .int (Int32.ofInt x))]) rfl (by decide) (fun _ h => h) (WS_pq [2, 3, 1, 0] (lv' := [(0, .ref (A 179)), (1, .int (Int32.ofInt x)), (2, .int (Int32.ofInt 0)), (3, .int (Int32.ofInt 0))]) rfl (L4 ((24 - 0 : Int).toNat + 1) s x 0 0 I F (by first | exact ⟨And.intro (p0.1) (p0.2), by decide, by decide, by decide, by decide⟩ | omega) (Nat.lt_succ_self _) ?_)))))
  intro s1 x2 x3 x4 Is1 Fs1 hs1
  refine z_load_n X (x := x3) rfl (List.Mem.tail _ (List.Mem.tail _ (List.Mem.head _))) ?_
  exact w_iret X.1 q hRt rfl (ax_d X (show cdA 248 28 = some (.ireturn, 1, 0, 0, 0) from rfl)) (Nat.zero_le _) (Nat.zero_le _) ⟨_, rfl, Is1, Fs1, x3, rfl, ⟨by first | exact oq_fa4e5087 hs1.2.1 | omega, by first | exact oq_fe510769 hs1.2.2.1 hs1.2.2.2.2 | omega⟩, by first | exact ⟨hs1.2.1, oq_552552b9 hs1.2.2.1 hs1.2.2.2.2⟩ | omega⟩
end M34
end
