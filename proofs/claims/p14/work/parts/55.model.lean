theorem oq_c9c52c8f {a0 : Int} (h0 : a0 ≤ 203) : a0 ≤ 380 := by omega
theorem oq_fed65c02 {a0 a1 : Int} (h0 : a0 = a1) (h1 : 1 ≤ a1) : 1 ≤ a0 := by omega
theorem oq_210fcd76 {a0 a1 : Int} (h0 : a0 = a1) (h1 : a1 ≤ 11) : a0 < 12 := by omega
theorem oq_cba5df33 {a0 a1 : Int} (h0 : a0 = a1) (h1 : a1 ≤ 11) : (a0 : Int).toNat < 12 := by omega
theorem oq_f5ee3737 {a0 a1 a2 a3 : Int} (h0 : a0 = a1) (h1 : a2 = a3) (h2 : a3 = a1) : a2 = a0 := by omega
theorem oq_e2284db0 {a0 a1 a2 : Int} (h0 : a0 = a1) (h1 : a1 = a2) (h2 : a2 ≤ 11) : a0 < 12 := by omega
theorem oq_29bc6d1f {a0 a1 a2 : Int} (h0 : a0 = a1) (h1 : a1 = a2) (h2 : a2 ≤ 11) : (a0 : Int).toNat < 12 := by omega
theorem oq_123e5d3a {a0 a1 a2 a3 a4 : Int} (h0 : a0 = a1) (h1 : a2 = a3) (h2 : a1 = a4) (h3 : a3 = a4) : a2 = a0 := by omega
theorem oq_24bf7586 {a0 a1 : Int} (h0 : ((100 ≤ a0 ∧ a1 = 100) ∨ (a0 < 100 ∧ ((0 ≤ a0 ∧ a0 ≤ 200) ∧ a1 = a0)))) (h1 : 0 ≤ a0) : (-2147483648) ≤ a1 := by omega
theorem oq_1539ade6 {a0 a1 : Int} (h0 : ((100 ≤ a0 ∧ a1 = 100) ∨ (a0 < 100 ∧ ((0 ≤ a0 ∧ a0 ≤ 200) ∧ a1 = a0)))) : a1 ≤ 2147483647 := by omega
theorem oq_c2d9d76f {a0 a1 : Int} (h0 : a0 = a1) (h1 : a1 = 0) : a0 ≤ 390 := by omega
theorem oq_fe2501c1 {a0 a1 a2 a3 a4 a5 a6 : Int} (h0 : a0 = a1) (h1 : a1 = a2) (h2 : a2 = a3) (h3 : a3 = a4) (h4 : a4 = a5) (h5 : a5 = a6) (h6 : a6 = 0) : a0 = 0 := by omega
theorem oq_3a510cc0 {a0 a1 a2 a3 : Int} (h0 : a0 = a1) (h1 : a1 = a2) (h2 : a2 = a3) (h3 : a3 = 1) : 1 ≤ a0 := by omega
theorem oq_f6b042d5 {a0 a1 a2 : Int} (h0 : a0 = a1) (h1 : a2 = a1) : a2 = a0 := by omega
theorem oq_6a44be7e {a0 a1 : Int} (h0 : a0 = a1) (h1 : a1 ≤ 11) : (a0 + 1) ≤ 12 := by omega
theorem oq_76a8a5b7 {a0 : Int} (h0 : a0 ≤ 12) : (a0 + 1) ≤ 2147483647 := by omega
/-! The model: stream -/
def TDF (t : PS) : Prop := iI t 79 = 0 → TD t
theorem RLx_m {s : PS} {i : Nat} {x : Int32} (r : RLx s) (hi : iI s 90 ≤ (i : Int)) : RLx (uC s 162 i x) := fun j hj hs => by
  obtain ⟨r1, r2⟩ := r j hj hs
  have hs' : (j : Int) < iI s 90 := hs
  exact ⟨by rw [iC_n (by omega)]; exact r1, fun c hc => by rw [iC_n (by omega), iC_a (by omega)]; exact r2 c hc⟩
theorem RLx_l {s : PS} {k i : Nat} {x : Int32} (r : RLx s) (hi : iI s 90 ≤ (k : Int)) : RLx (uC s (178 + k) i x) := fun j hj hs => by
  obtain ⟨r1, r2⟩ := r j hj hs
  have hs' : (j : Int) < iI s 90 := hs
  by_cases e : 162 = 178 + k
  · omega
  · exact ⟨by rw [iC_a e]; exact r1, fun c hc => by rw [iC_a e, iC_a (by omega)]; exact r2 c hc⟩
theorem RLx_up {s : PS} {n : Int} (r : RLx s) (hn : iI s 90 = n) (h0 : 0 ≤ n ∧ n ≤ 11) (h1 : 1 ≤ iC s 162 (n : Int).toNat) (h2 : ∀ i : Nat, i < 128 → iC s (178 + (n : Int).toNat) i < iC s 162 (n : Int).toNat) : RLx (uI s 90 (Int32.ofInt (n + 1))) := fun j hj hs => by
  rw [iI_u ⟨by omega, by omega⟩] at hs
  show RW1 s j
  by_cases e : (j : Int) < n
  · exact r j hj (by omega)
  · have ej : j = (n : Int).toNat := by omega
    rw [ej]
    exact ⟨h1, h2⟩
theorem RLx_w {s : PS} {a i : Nat} {x : Int32} (r : RLx s) (h : a ≠ 162 ∧ ∀ j, j < 12 → 178 + j ≠ a) : RLx (uC s a i x) := fun j hj hs => by
  obtain ⟨r1, r2⟩ := r j hj hs
  exact ⟨by rw [iC_a (Ne.symm h.1)]; exact r1, fun c hc => by rw [iC_a (Ne.symm h.1), iC_a (h.2 j hj)]; exact r2 c hc⟩
section M55
variable {l : Launch} {s0 : State} {D : va_G} {tys : List (ClassId × FieldType)} {a0 : Array Value} {A : Nat → Nat} {dT : Nat → ClassId} {s : PS}
end M55
