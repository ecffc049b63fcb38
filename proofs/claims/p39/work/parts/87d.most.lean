theorem oq_e1c0d1f5 {a0 a1 a2 : Int} (h0 : (a0 - a1) ≤ a2) : (a0 - a1) ≤ (a2 + 1) := by omega
theorem oq_27f44d03 {a0 a1 a2 : Int} (h0 : ((a0 = 0 ∧ (a1 - a2) ≤ 0) ∨ (a0 = (a1 - a2) ∧ 0 < (a1 - a2)))) : (a1 - a2) ≤ a0 := by omega
theorem oq_f5925612 {a0 a1 a2 : Int} (h0 : ((a0 = 23 ∧ 23 ≤ (a1 + a2)) ∨ (a0 = (a1 + a2) ∧ (a1 + a2) < 23))) : a0 ≤ (a1 + a2) := by omega
theorem oq_86d47d54 {a0 a1 a2 : Int} (h0 : ((a0 = 23 ∧ 23 ≤ (a1 + a2)) ∨ (a0 = (a1 + a2) ∧ (a1 + a2) < 23))) : (a0 = 23 ∨ a0 = (a1 + a2)) := by omega
theorem oq_7ed948bf {a0 a1 a2 a3 a4 : Int} (h0 : ((a0 = 23 ∧ 23 ≤ (a1 + a2)) ∨ (a0 = (a1 + a2) ∧ (a1 + a2) < 23))) (h1 : 0 ≤ a2) (h2 : ((a3 = 0 ∧ (a1 - a4) ≤ 0) ∨ (a3 = (a1 - a4) ∧ 0 < (a1 - a4)))) (h3 : 0 ≤ a4) (h4 : a1 ≤ 23) (h5 : 0 ≤ a1) : a3 ≤ (a0 + 1) := by omega
theorem oq_ea1742b3 {a0 : Int} (h0 : a0 ≤ 24) (h1 : 24 ≤ a0) : a0 = 24 := by omega
theorem oq_b653f49d {a0 a1 : Int} (h0 : a0 < 24) (h1 : a1 ≤ 11) : ((a0 * 12) + a1) < 288 := by omega
theorem oq_7ef63f09 {a0 a1 a2 a3 : Int} (h0 : a0 ≤ 50) (h1 : a1 = a2) (h2 : a2 ≤ (50 * a3)) (h3 : a3 < 24) : (a1 + a0) ≤ 1200 := by omega
theorem oq_99166280 {a0 a1 a2 a3 a4 a5 : Int} (h0 : a0 = a1) (h1 : a1 = (a2 + a3)) (h2 : a4 ≤ (50 * a5)) (h3 : a2 = a4) (h4 : a3 ≤ 50) : a0 ≤ (50 * (a5 + 1)) := by omega
theorem oq_4ab5b7c2 {a0 a1 a2 : Int} (h0 : a0 ≤ (a1 + 1)) (h1 : a2 = a1) (h2 : a2 < a0) : a0 = (a1 + 1) := by omega
theorem oq_667557f6 {a0 a1 a2 : Int} (h0 : a0 ≤ a1) (h1 : a1 = a2) : (a0 + 1) ≤ (a2 + 1) := by omega
theorem oq_e9f60b4d {a0 a1 a2 a3 a4 a5 : Int} (h0 : a0 = a1) (h1 : a2 = a3) (h2 : a4 = a2) (h3 : a5 ≤ (a0 + a4)) : (a5 + 1) ≤ ((a1 + a3) + 1) := by omega
theorem oq_b9ecc99b {a0 a1 a2 : Int} (h0 : 0 ≤ a0) (h1 : 0 ≤ a1) : (a2 - a1) ≤ ((a2 + a0) + 1) := by omega
theorem oq_5aec5af9 {a0 a1 a2 a3 a4 a5 a6 a7 a8 : Int} (h0 : a0 ≠ 0) (h1 : ((a1 = 1 ∧ (a2 = 0 ∧ (a3 = 1 ∧ a0 = 1))) ∨ ((a1 = 0 ∨ a2 ≠ 0) ∧ (a3 = a2 ∧ ((a0 = 0 ∧ a2 = 0) ∨ (a0 = 1 ∧ a2 ≠ 0)))))) (h2 : ((a4 ≠ 0 ∧ a1 = 0) ∨ (a4 = 0 ∧ a1 = 1))) (h3 : ((a4 = 1 ∧ (0 ≤ a5 ∧ a5 ≤ (a6 - 1))) ∨ (a4 = 0 ∧ (a5 < 0 ∨ (a6 - 1) < a5)))) (h4 : a6 = a7) (h5 : a2 = 0) : (((a5 < 0 ∨ a7 ≤ a5) ∧ a3 = 1) ∨ (0 ≤ a5 ∧ (a5 < a7 ∧ ((a8 < 0 ∨ 23 < a8) ∧ a3 = 2)))) := by omega
theorem oq_b4c3a517 {a0 a1 a2 a3 a4 a5 a6 : Int} (h0 : a0 = 0) (h1 : ((a1 = 1 ∧ (a2 = 0 ∧ (a3 = 1 ∧ a0 = 1))) ∨ ((a1 = 0 ∨ a2 ≠ 0) ∧ (a3 = a2 ∧ ((a0 = 0 ∧ a2 = 0) ∨ (a0 = 1 ∧ a2 ≠ 0)))))) (h2 : ((a4 ≠ 0 ∧ a1 = 0) ∨ (a4 = 0 ∧ a1 = 1))) (h3 : ((a4 = 1 ∧ (0 ≤ a5 ∧ a5 ≤ (a6 - 1))) ∨ (a4 = 0 ∧ (a5 < 0 ∨ (a6 - 1) < a5)))) (h4 : a6 ≤ 12) (h5 : a2 = 0) : a5 ≤ 11 := by omega
theorem oq_7a13fe08 {a0 a1 a2 a3 a4 a5 a6 a7 a8 : Int} (h0 : a0 = 0) (h1 : ((a1 = 1 ∧ (a2 = 0 ∧ (a3 = 2 ∧ a0 = 1))) ∨ ((a1 = 0 ∨ a2 ≠ 0) ∧ (a3 = a2 ∧ ((a0 = 0 ∧ a2 = 0) ∨ (a0 = 1 ∧ a2 ≠ 0)))))) (h2 : ((a4 ≠ 0 ∧ a1 = 0) ∨ (a4 = 0 ∧ a1 = 1))) (h3 : ((a4 = 1 ∧ (0 ≤ a5 ∧ a5 ≤ 23)) ∨ (a4 = 0 ∧ (a5 < 0 ∨ 23 < a5)))) (h4 : a6 = 0) (h5 : 0 ≤ a2) (h6 : ((a7 = 1 ∧ (a8 = 0 ∧ (a2 = 1 ∧ a6 = 1))) ∨ ((a7 = 0 ∨ a8 ≠ 0) ∧ (a2 = a8 ∧ ((a6 = 0 ∧ a8 = 0) ∨ (a6 = 1 ∧ a8 ≠ 0)))))) (h7 : a8 = 0) : 0 ≤ a5 := by omega
theorem oq_2366bc3c {a0 a1 a2 a3 a4 a5 a6 a7 a8 : Int} (h0 : a0 = 0) (h1 : ((a1 = 1 ∧ (a2 = 0 ∧ (a3 = 2 ∧ a0 = 1))) ∨ ((a1 = 0 ∨ a2 ≠ 0) ∧ (a3 = a2 ∧ ((a0 = 0 ∧ a2 = 0) ∨ (a0 = 1 ∧ a2 ≠ 0)))))) (h2 : ((a4 ≠ 0 ∧ a1 = 0) ∨ (a4 = 0 ∧ a1 = 1))) (h3 : ((a4 = 1 ∧ (0 ≤ a5 ∧ a5 ≤ 23)) ∨ (a4 = 0 ∧ (a5 < 0 ∨ 23 < a5)))) (h4 : a6 = 0) (h5 : 0 ≤ a2) (h6 : ((a7 = 1 ∧ (a8 = 0 ∧ (a2 = 1 ∧ a6 = 1))) ∨ ((a7 = 0 ∨ a8 ≠ 0) ∧ (a2 = a8 ∧ ((a6 = 0 ∧ a8 = 0) ∨ (a6 = 1 ∧ a8 ≠ 0)))))) (h7 : a8 = 0) : a5 ≤ 23 := by omega
theorem oq_96bc3da2 {a0 a1 a2 a3 a4 a5 a6 a7 : Int} (h0 : a0 = 0) (h1 : ((a1 = 1 ∧ (a2 = 0 ∧ (a3 = 1 ∧ a0 = 1))) ∨ ((a1 = 0 ∨ a2 ≠ 0) ∧ (a3 = a2 ∧ ((a0 = 0 ∧ a2 = 0) ∨ (a0 = 1 ∧ a2 ≠ 0)))))) (h2 : ((a4 ≠ 0 ∧ a1 = 0) ∨ (a4 = 0 ∧ a1 = 1))) (h3 : ((a4 = 1 ∧ (0 ≤ a5 ∧ a5 ≤ (a6 - 1))) ∨ (a4 = 0 ∧ (a5 < 0 ∨ (a6 - 1) < a5)))) (h4 : a6 = a7) (h5 : a2 = 0) : a5 < a7 := by omega
theorem oq_24676001 {a0 a1 a2 a3 a4 a5 a6 a7 : Int} (h0 : a0 = a1) (h1 : a2 = 0) (h2 : 0 ≤ a1) (h3 : ((a3 = 1 ∧ (a4 = 0 ∧ (a1 = 2 ∧ a2 = 1))) ∨ ((a3 = 0 ∨ a4 ≠ 0) ∧ (a1 = a4 ∧ ((a2 = 0 ∧ a4 = 0) ∨ (a2 = 1 ∧ a4 ≠ 0)))))) (h4 : a5 = 0) (h5 : ((a6 = 1 ∧ (a7 = 0 ∧ (a4 = 1 ∧ a5 = 1))) ∨ ((a6 = 0 ∨ a7 ≠ 0) ∧ (a4 = a7 ∧ ((a5 = 0 ∧ a7 = 0) ∨ (a5 = 1 ∧ a7 ≠ 0)))))) (h6 : a7 = 0) : a0 = 0 := by omega
theorem oq_c73d7b31 {a0 a1 a2 a3 a4 a5 a6 a7 a8 a9 a10 a11 a12 : Int} (h0 : a0 ≠ 0) (h1 : ((a1 = 1 ∧ (a2 = 0 ∧ (a3 = 2 ∧ a0 = 1))) ∨ ((a1 = 0 ∨ a2 ≠ 0) ∧ (a3 = a2 ∧ ((a0 = 0 ∧ a2 = 0) ∨ (a0 = 1 ∧ a2 ≠ 0)))))) (h2 : ((a4 ≠ 0 ∧ a1 = 0) ∨ (a4 = 0 ∧ a1 = 1))) (h3 : ((a4 = 1 ∧ (0 ≤ a5 ∧ a5 ≤ 23)) ∨ (a4 = 0 ∧ (a5 < 0 ∨ 23 < a5)))) (h4 : a6 = 0) (h5 : 0 ≤ a2) (h6 : ((a7 = 1 ∧ (a8 = 0 ∧ (a2 = 1 ∧ a6 = 1))) ∨ ((a7 = 0 ∨ a8 ≠ 0) ∧ (a2 = a8 ∧ ((a6 = 0 ∧ a8 = 0) ∨ (a6 = 1 ∧ a8 ≠ 0)))))) (h7 : ((a9 ≠ 0 ∧ a7 = 0) ∨ (a9 = 0 ∧ a7 = 1))) (h8 : ((a9 = 1 ∧ (0 ≤ a10 ∧ a10 ≤ (a11 - 1))) ∨ (a9 = 0 ∧ (a10 < 0 ∨ (a11 - 1) < a10)))) (h9 : a11 = a12) (h10 : a8 = 0) : (((a10 < 0 ∨ a12 ≤ a10) ∧ a3 = 1) ∨ (0 ≤ a10 ∧ (a10 < a12 ∧ ((a5 < 0 ∨ 23 < a5) ∧ a3 = 2)))) := by omega
theorem oq_72ff5d19 {a0 a1 : Int} (h0 : a0 = a1) (h1 : a0 ≤ 23) : a1 ≤ 23 := by omega
theorem oq_151a919a {a0 a1 : Int} (h0 : a0 = a1) (h1 : 0 ≤ a0) : 0 ≤ a1 := by omega
theorem oq_445e9ec3 {a0 a1 : Int} (h0 : a0 = a1) (h1 : a0 ≤ 50) : a1 ≤ 50 := by omega
theorem oq_af21c3a9 {a0 a1 a2 a3 a4 a5 a6 a7 : Int} (h0 : a0 = 0) (h1 : ((1 = 1 ∧ (a1 = 0 ∧ (a2 = 2 ∧ a0 = 1))) ∨ ((1 = 0 ∨ a1 ≠ 0) ∧ (a2 = a1 ∧ ((a0 = 0 ∧ a1 = 0) ∨ (a0 = 1 ∧ a1 ≠ 0)))))) (h2 : a3 = 0) (h3 : 0 ≤ a1) (h4 : ((a4 = 1 ∧ (a5 = 0 ∧ (a1 = 1 ∧ a3 = 1))) ∨ ((a4 = 0 ∨ a5 ≠ 0) ∧ (a1 = a5 ∧ ((a3 = 0 ∧ a5 = 0) ∨ (a3 = 1 ∧ a5 ≠ 0)))))) (h5 : a5 = 0) : a6 ≤ a7 := by omega
theorem oq_39cb83a2 {a0 a1 a2 a3 a4 a5 a6 a7 a8 a9 a10 a11 : Int} (h0 : a0 = 0) (h1 : ((1 = 1 ∧ (a1 = 0 ∧ (a2 = 2 ∧ a0 = 1))) ∨ ((1 = 0 ∨ a1 ≠ 0) ∧ (a2 = a1 ∧ ((a0 = 0 ∧ a1 = 0) ∨ (a0 = 1 ∧ a1 ≠ 0)))))) (h2 : a3 = 0) (h3 : 0 ≤ a1) (h4 : ((a4 = 1 ∧ (a5 = 0 ∧ (a1 = 1 ∧ a3 = 1))) ∨ ((a4 = 0 ∨ a5 ≠ 0) ∧ (a1 = a5 ∧ ((a3 = 0 ∧ a5 = 0) ∨ (a3 = 1 ∧ a5 ≠ 0)))))) (h5 : a5 = 0) : (a6 = a6 ∧ (a7 = a7 ∧ (a8 = a8 ∧ (a9 ≤ a9 ∧ (a9 ≤ (a7 + 1) ∧ (0 ≤ a6 ∧ (a6 < a10 ∧ (0 ≤ a9 ∧ a11 = a10)))))))) := by omega
theorem oq_8ce8240a {a0 a1 a2 a3 a4 a5 a6 a7 : Int} (h0 : a0 = 0) (h1 : ((1 = 1 ∧ (a1 = 0 ∧ (a2 = 2 ∧ a0 = 1))) ∨ ((1 = 0 ∨ a1 ≠ 0) ∧ (a2 = a1 ∧ ((a0 = 0 ∧ a1 = 0) ∨ (a0 = 1 ∧ a1 ≠ 0)))))) (h2 : a3 = 0) (h3 : 0 ≤ a1) (h4 : ((a4 = 1 ∧ (a5 = 0 ∧ (a1 = 1 ∧ a3 = 1))) ∨ ((a4 = 0 ∨ a5 ≠ 0) ∧ (a1 = a5 ∧ ((a3 = 0 ∧ a5 = 0) ∨ (a3 = 1 ∧ a5 ≠ 0)))))) (h5 : a5 = 0) : a6 < a7 := by omega
theorem oq_52fdae6d {a0 a1 a2 a3 a4 a5 a6 a7 : Int} (h0 : a0 = a1) (h1 : a1 = a2) (h2 : a3 = 0) (h3 : 0 ≤ a2) (h4 : ((1 = 1 ∧ (a4 = 0 ∧ (a2 = 2 ∧ a3 = 1))) ∨ ((1 = 0 ∨ a4 ≠ 0) ∧ (a2 = a4 ∧ ((a3 = 0 ∧ a4 = 0) ∨ (a3 = 1 ∧ a4 ≠ 0)))))) (h5 : a5 = 0) (h6 : ((a6 = 1 ∧ (a7 = 0 ∧ (a4 = 1 ∧ a5 = 1))) ∨ ((a6 = 0 ∨ a7 ≠ 0) ∧ (a4 = a7 ∧ ((a5 = 0 ∧ a7 = 0) ∨ (a5 = 1 ∧ a7 ≠ 0)))))) (h7 : a7 = 0) : a0 = 0 := by omega
theorem oq_4548e717 {a0 a1 a2 a3 a4 a5 a6 a7 a8 : Int} (h0 : a0 = a1) (h1 : a1 = a2) (h2 : a3 = 0) (h3 : 0 ≤ a2) (h4 : ((a4 = 1 ∧ (a5 = 0 ∧ (a2 = 2 ∧ a3 = 1))) ∨ ((a4 = 0 ∨ a5 ≠ 0) ∧ (a2 = a5 ∧ ((a3 = 0 ∧ a5 = 0) ∨ (a3 = 1 ∧ a5 ≠ 0)))))) (h5 : a6 = 0) (h6 : ((a7 = 1 ∧ (a8 = 0 ∧ (a5 = 1 ∧ a6 = 1))) ∨ ((a7 = 0 ∨ a8 ≠ 0) ∧ (a5 = a8 ∧ ((a6 = 0 ∧ a8 = 0) ∨ (a6 = 1 ∧ a8 ≠ 0)))))) (h7 : a8 = 0) : a0 = 0 := by omega
/-! The greatest count near a quarter -/
/-- the greatest of f's values from l on and below h, as far as there are such (0 to 23), and 0 -/
def MXG (f : Int → Int) (l h g : Int) : Prop := 0 ≤ g ∧ (∀ k : Int, 0 ≤ k → k ≤ 23 → l ≤ k → k < h → f k ≤ g) ∧ (g = 0 ∨ ∃ k : Int, 0 ≤ k ∧ k ≤ 23 ∧ l ≤ k ∧ k < h ∧ f k = g)
theorem mx_0 {f : Int → Int} {l h : Int} (e : h ≤ l ∨ h ≤ 0) : MXG f l h 0 := ⟨Int.le_refl _, fun k h0 h1 h2 h3 => by omega, Or.inl rfl⟩
theorem mx_up {f : Int → Int} {l c g v e : Int} (h : MXG f l c g) (hv : v = f c) (h0 : 0 ≤ c) (h1 : c ≤ 23) (h2 : l ≤ c) (h3 : g ≤ e) (h4 : v ≤ e) (h5 : e = g ∨ e = v) : MXG f l (c + 1) e := by
  refine ⟨Int.le_trans h.1 h3, fun k k0 k1 k2 k3 => ?_, ?_⟩
  · by_cases q : k = c
    · rw [q, ← hv]; exact h4
    · exact Int.le_trans (h.2.1 k k0 k1 k2 (by omega)) h3
  · rcases h5 with q | q
    · rcases h.2.2 with z | ⟨k, k0, k1, k2, k3, k4⟩
      · exact Or.inl (by omega)
      · exact Or.inr ⟨k, k0, k1, k2, by omega, by rw [k4, q]⟩
    · exact Or.inr ⟨c, h0, h1, h2, by omega, by rw [← hv, q]⟩
theorem mx_to {f : Int → Int} {l c d g : Int} (h : MXG f l c g) (hd : ∀ k : Int, 0 ≤ k → k ≤ 23 → l ≤ k → (k < c ↔ k < d)) : MXG f l d g :=
  ⟨h.1, fun k k0 k1 k2 k3 => h.2.1 k k0 k1 k2 ((hd k k0 k1 k2).mpr k3), h.2.2.elim Or.inl (fun ⟨k, k0, k1, k2, k3, k4⟩ => Or.inr ⟨k, k0, k1, k2, (hd k k0 k1 k2).mp k3, k4⟩)⟩
theorem mx_f {f f' : Int → Int} {l h g : Int} (m : MXG f l h g) (hf : ∀ k : Int, 0 ≤ k → k ≤ 23 → f k = f' k) : MXG f' l h g :=
  ⟨m.1, fun k k0 k1 k2 k3 => by rw [← hf k k0 k1]; exact m.2.1 k k0 k1 k2 k3, m.2.2.elim Or.inl (fun ⟨k, k0, k1, k2, k3, k4⟩ => Or.inr ⟨k, k0, k1, k2, k3, by rw [← hf k k0 k1]; exact k4⟩)⟩
theorem mx_le {f : Int → Int} {l h g g' : Int} (m : MXG f l h g) (n : MXG f l h g') : g ≤ g' := by
  rcases m.2.2 with z | ⟨k, k0, k1, k2, k3, k4⟩
  · rw [z]; exact n.1
  · rw [← k4]; exact n.2.1 k k0 k1 k2 k3
theorem mx_un {f f' : Int → Int} {l h g g' : Int} (m : MXG f l h g) (n : MXG f' l h g') (hf : ∀ k : Int, 0 ≤ k → k ≤ 23 → f k = f' k) : g = g' :=
  Int.le_antisymm (mx_le (mx_f m hf) n) (mx_le n (mx_f m hf))
/-- f's values of row x from y on and below z are w in g, all others as they were -/
def FLU (f g : Int → Int → Int) (x y z w : Int) : Prop := ∀ a k : Int, 0 ≤ a → a ≤ 11 → 0 ≤ k → k ≤ 23 → g a k = if a = x ∧ y ≤ k ∧ k < z then w else f a k
theorem flu_0 {f : Int → Int → Int} {x y w : Int} : FLU f f x y y w := fun a k _ _ _ _ => by rw [if_neg (by omega)]
theorem flu_up {f g h : Int → Int → Int} {x y c w : Int} (r : FLU f g x y c w) (hc : y ≤ c) (hu : ∀ a k : Int, 0 ≤ a → a ≤ 11 → 0 ≤ k → k ≤ 23 → h a k = if a = x ∧ k = c then w else g a k) : FLU f h x y (c + 1) w := fun a k a0 a1 k0 k1 => by
  rw [hu a k a0 a1 k0 k1]
  by_cases q : a = x ∧ k = c
  · rw [if_pos q, if_pos (by omega)]
  · rw [if_neg q, r a k a0 a1 k0 k1]
    by_cases q2 : a = x ∧ y ≤ k ∧ k < c
    · rw [if_pos q2, if_pos (by omega)]
    · rw [if_neg q2, if_neg (by omega)]
theorem flu_eq {f g f' g' : Int → Int → Int} {x y z w x' y' z' w' : Int} (r : FLU f g x y z w) (r' : FLU f' g' x' y' z' w') (ex : x = x') (ey : y = y') (ez : z = z') (ew : w = w') (h : ∀ a k : Int, 0 ≤ a → a ≤ 11 → 0 ≤ k → k ≤ 23 → f a k = f' a k) : ∀ a k : Int, 0 ≤ a → a ≤ 11 → 0 ≤ k → k ≤ 23 → g a k = g' a k := fun a k a0 a1 k0 k1 => by
  rw [r a k a0 a1 k0 k1, r' a k a0 a1 k0 k1, ex, ey, ez, ew, h a k a0 a1 k0 k1]
/-- the class's counts, the model's -/
def CNR (s : PS) (x k : Int) : Int := iC s 8 (x * 24 + k).toNat
def CMR (s : PS) (x k : Int) : Int := iC s (190 + x.toNat) k.toNat
theorem cnr_sam {s t : PS} (h : SAM 8 s t) : CNR t = CNR s := funext fun _ => funext fun _ => h _
theorem cnr_upd {s t : PS} {x c w : Int} (h : UPD 8 (x * 24 + c) w s t) (x0 : 0 ≤ x) (x1 : x ≤ 11) (c0 : 0 ≤ c) (c1 : c ≤ 23) : ∀ a k : Int, 0 ≤ a → a ≤ 11 → 0 ≤ k → k ≤ 23 → CNR t a k = if a = x ∧ k = c then w else CNR s a k := fun a k a0 a1 k0 k1 => by
  by_cases q : a = x ∧ k = c
  · rw [if_pos q, q.1, q.2]; exact h.1
  · rw [if_neg q]; exact h.2 _ (by omega)
theorem cmr_put {s : PS} {x c w : Int} (hw : rng w) (x0 : 0 ≤ x) (x1 : x ≤ 11) (c0 : 0 ≤ c) (c1 : c ≤ 23) : ∀ a k : Int, 0 ≤ a → a ≤ 11 → 0 ≤ k → k ≤ 23 → CMR (uC s (190 + x.toNat) c.toNat (Int32.ofInt w)) a k = if a = x ∧ k = c then w else CMR s a k := fun a k a0 a1 k0 k1 => by
  by_cases q : a = x
  · by_cases q2 : k = c
    · rw [if_pos ⟨q, q2⟩, q, q2]; exact iC_u hw
    · rw [if_neg (fun z => q2 z.2), q]; exact iC_n (by omega)
  · rw [if_neg (fun z => q z.1)]; exact iC_a (by omega)
/-- the sum of f's first values -/
def sqn (f : Int → Int) : Nat → Int
  | 0 => 0
  | n + 1 => sqn f n + f n
theorem sqn_f {f g : Int → Int} : ∀ {n : Nat}, (∀ k : Int, 0 ≤ k → k < n → f k = g k) → sqn f n = sqn g n
  | 0, _ => rfl
  | n + 1, h => by
    show sqn f n + f n = sqn g n + g n
    rw [sqn_f (n := n) (fun k k0 k1 => h k k0 (by omega)), h n (by omega) (by omega)]
theorem sqn_up {f : Int → Int} {c v : Int} (hc : 0 ≤ c) (hv : v = f c) : sqn f c.toNat + v = sqn f (c + 1).toNat := by
  have e : (c + 1).toNat = c.toNat + 1 := by omega
  rw [e]
  show _ = sqn f c.toNat + f c.toNat
  rw [hv, show ((c.toNat : Nat) : Int) = c by omega]
/-- the total of stream x, up to quarter c; those of the others are as they were -/
def RTS (x c : Int) (s t : PS) : Prop := iC t 12 x.toNat = sqn (CNR s x) c.toNat ∧ ∀ y : Int, 0 ≤ y → y ≤ 11 → y ≠ x → iC t 12 y.toNat = iC s 12 y.toNat
theorem rts_0 {x : Int} {s t : PS} (h : UPD 12 x 0 s t) (x0 : 0 ≤ x) : RTS x 0 s t := ⟨h.1, fun y y0 _ hy => h.2 _ (by omega)⟩
theorem rts_up {x c e v : Int} {s t u : PS} (r : RTS x c s t) (h : UPD 12 x e t u) (he : e = iC t 12 x.toNat + v) (hv : v = CNR s x c) (x0 : 0 ≤ x) (c0 : 0 ≤ c) : RTS x (c + 1) s u :=
  ⟨by rw [h.1, he, r.1]; exact sqn_up c0 hv, fun y y0 y1 hy => by rw [h.2 _ (by omega)]; exact r.2 y y0 y1 hy⟩
theorem rts_sam {x c : Int} {s t u : PS} (r : RTS x c s t) (h : SAM 12 t u) : RTS x c s u := ⟨by rw [h]; exact r.1, fun y y0 y1 hy => by rw [h]; exact r.2 y y0 y1 hy⟩
/-- the most of stream x is right in all quarters below c, those of the others are as they were -/
def RTQ (x c : Int) (s t : PS) : Prop := (∀ q : Int, 0 ≤ q → q < c → MXG (CNR s x) (q - iC s 10 x.toNat) (q + iC s 9 x.toNat + 1) (iC t 11 (q * 12 + x).toNat)) ∧ ∀ y q : Int, 0 ≤ y → y ≤ 11 → 0 ≤ q → q ≤ 23 → y ≠ x → iC t 11 (q * 12 + y).toNat = iC s 11 (q * 12 + y).toNat
theorem rtq_0 {x : Int} {s t : PS} (h : SAM 11 s t) : RTQ x 0 s t := ⟨fun q h0 h1 => by omega, fun y q _ _ _ _ _ => h _⟩
theorem rtq_up {x c e : Int} {s t u : PS} (r : RTQ x c s t) (h : UPD 11 (c * 12 + x) e t u) (m : MXG (CNR s x) (c - iC s 10 x.toNat) (c + iC s 9 x.toNat + 1) e) (x0 : 0 ≤ x) (x1 : x ≤ 11) (c0 : 0 ≤ c) (c1 : c ≤ 23) : RTQ x (c + 1) s u := by
  refine ⟨fun q h0 h1 => ?_, fun y q y0 y1 q0 q1 hy => ?_⟩
  · by_cases z : q = c
    · rw [z, h.1]; exact m
    · rw [h.2 _ (by omega)]; exact r.1 q h0 (by omega)
  · rw [h.2 _ (by omega)]; exact r.2 y q y0 y1 q0 q1 hy
theorem rtq_sam {x c : Int} {s t u : PS} (r : RTQ x c s t) (h : SAM 11 t u) : RTQ x c s u := ⟨fun q h0 h1 => by rw [h]; exact r.1 q h0 h1, fun y q y0 y1 q0 q1 hy => by rw [h]; exact r.2 y q y0 y1 q0 q1 hy⟩
theorem mx_st {x y z e : Int} {s t : PS} (m : MXG (CNR t x) (y - iC t 10 x.toNat) (y + iC t 9 x.toNat + 1) e) (h1 : SAM 8 s t) (h2 : SAM 10 s t) (h3 : SAM 9 s t) (ex : x = z) : MXG (CNR s z) (y - iC s 10 z.toNat) (y + iC s 9 z.toNat + 1) e := by
  subst ex
  rw [cnr_sam h1, h2, h3] at m
  exact m
/-- the mosts are right -/
def MOI (s : PS) : Prop := (∀ x q : Int, 0 ≤ x → x ≤ 11 → 0 ≤ q → q ≤ 23 → MXG (CNR s x) (q - iC s 10 x.toNat) (q + iC s 9 x.toNat + 1) (iC s 11 (q * 12 + x).toNat)) ∧ ∀ x : Int, 0 ≤ x → x ≤ 11 → iC s 12 x.toNat = sqn (CNR s x) 24
/-- counts, spans and mosts are as they were -/
def SA4 (s t : PS) : Prop := SAM 8 s t ∧ SAM 10 s t ∧ SAM 9 s t ∧ SAM 11 s t ∧ SAM 12 s t
theorem moi_sam {s t : PS} (h : MOI s) (r : SA4 s t) : MOI t := ⟨fun x q x0 x1 q0 q1 => by
  rw [cnr_sam r.1, r.2.1, r.2.2.1, r.2.2.2.1]; exact h.1 x q x0 x1 q0 q1, fun x x0 x1 => by rw [cnr_sam r.1, r.2.2.2.2]; exact h.2 x x0 x1⟩
theorem moi_fl {s u t : PS} {x y z w : Int} (h : MOI s) (hf : FLU (CNR s) (CNR u) x y z w) (hm : SAM 11 s u) (ht : SAM 12 s u) (hl : SAM 10 s u) (he : SAM 9 s u) (hr : RTQ x 24 u t) (hs : RTS x 24 u t) (h1 : SAM 8 u t) (h2 : SAM 10 u t) (h3 : SAM 9 u t) : MOI t := by
  refine ⟨fun a q a0 a1 q0 q1 => ?_, fun a a0 a1 => ?_⟩
  · rw [cnr_sam h1, h2, h3]
    by_cases e : a = x
    · rw [e]; exact hr.1 q q0 (by omega)
    · rw [hr.2 a q a0 a1 q0 q1 e, hm, hl, he]
      exact mx_f (h.1 a q a0 a1 q0 q1) (fun k k0 k1 => by rw [hf a k a0 a1 k0 k1, if_neg (fun z => e z.1)])
  · rw [cnr_sam h1]
    by_cases e : a = x
    · rw [e]; exact hs.1
    · rw [hs.2 a a0 a1 e, ht, h.2 a a0 a1]
      exact sqn_f (fun k k0 k1 => by rw [hf a k a0 a1 k0 (by omega), if_neg (fun z => e z.1)])
theorem moi_sp {s u t : PS} {x y z : Int} (h : MOI s) (hc : SAM 8 s u) (hm : SAM 11 s u) (ht : SAM 12 s u) (he : UPD 9 x y s u) (hl : UPD 10 x z s u) (x0 : 0 ≤ x) (hr : RTQ x 24 u t) (hs : RTS x 24 u t) (h1 : SAM 8 u t) (h2 : SAM 10 u t) (h3 : SAM 9 u t) : MOI t := by
  refine ⟨fun a q a0 a1 q0 q1 => ?_, fun a a0 a1 => ?_⟩
  · rw [cnr_sam h1, h2, h3]
    by_cases e : a = x
    · rw [e]; exact hr.1 q q0 (by omega)
    · rw [hr.2 a q a0 a1 q0 q1 e, hm, cnr_sam hc, he.2 _ (by omega), hl.2 _ (by omega)]
      exact h.1 a q a0 a1 q0 q1
  · rw [cnr_sam h1]
    by_cases e : a = x
    · rw [e]; exact hs.1
    · rw [hs.2 a a0 a1 e, ht, cnr_sam hc]; exact h.2 a a0 a1
/-- all that class and model have of counts and spans -/
def MQJ (s : PS) : Prop := MOI s ∧ (∀ a k : Int, 0 ≤ a → a ≤ 11 → 0 ≤ k → k ≤ 23 → CNR s a k = CMR s a k) ∧ AEQ 9 163 12 s ∧ AEQ 10 164 12 s
/-- the model's counts are as they were -/
def SMR (s t : PS) : Prop := ∀ a k : Int, 0 ≤ a → a ≤ 11 → CMR t a k = CMR s a k
theorem smr_fm {L M : List Nat} {s t : PS} (F : Fm L M s t) (h : ∀ j, j < 12 → 190 + j ∉ M) : SMR s t := fun _ _ _ _ => fm_c F (h _ (by omega))
theorem upd_st {a : Nat} {i x : Int} {s t u : PS} (h : SAM a s t) (g : UPD a i x t u) : UPD a i x s u := ⟨g.1, fun j hj => (g.2 j hj).trans (h j)⟩
theorem smr_rf {s : PS} : SMR s s := fun _ _ _ _ => rfl
theorem smr_ts {s t u : PS} (h : SMR s t) (g : SMR t u) : SMR s u := fun a k a0 a1 => (g a k a0 a1).trans (h a k a0 a1)
theorem mqj_sam {s t : PS} (h : MQJ s) (r : SA4 s t) (m : SMR s t) (e : SAM 163 s t) (l : SAM 164 s t) : MQJ t :=
  ⟨moi_sam h.1 r, fun a k a0 a1 k0 k1 => by rw [cnr_sam r.1, m a k a0 a1]; exact h.2.1 a k a0 a1 k0 k1, aeq_sam h.2.2.1 r.2.2.1 e, aeq_sam h.2.2.2 r.2.1 l⟩
theorem MQJ_fm {L M : List Nat} {s t : PS} (F : Fm L M s t) (h : (8 ∉ M ∧ 10 ∉ M ∧ 9 ∉ M ∧ 11 ∉ M ∧ 12 ∉ M) ∧ (∀ j, j < 12 → 190 + j ∉ M) ∧ 163 ∉ M ∧ 164 ∉ M) (r : MQJ s) : MQJ t :=
  mqj_sam r ⟨sam_fm F h.1.1, sam_fm F h.1.2.1, sam_fm F h.1.2.2.1, sam_fm F h.1.2.2.2.1, sam_fm F h.1.2.2.2.2⟩ (smr_fm F h.2.1) (sam_fm F h.2.2.1) (sam_fm F h.2.2.2)
theorem mqj_flow {s t u : PS} {x y z w x' y' z' w' : Int} (h : MQJ s) (hm : MOI t) (hf : FLU (CNR s) (CNR t) x y z w) (hl : SAM 10 s t) (he : SAM 9 s t) (c : SMR s t) (el : SAM 164 s t) (ee : SAM 163 s t)
    (g : FLU (CMR t) (CMR u) x' y' z' w') (r : SA4 t u) (fl : SAM 164 t u) (fe : SAM 163 t u) (ex : x = x') (ey : y = y') (ez : z = z') (ew : w = w') : MQJ u := by
  refine ⟨moi_sam hm r, fun a k a0 a1 k0 k1 => ?_, aeq_sam h.2.2.1 (sam_ts he r.2.2.1) (sam_ts ee fe), aeq_sam h.2.2.2 (sam_ts hl r.2.1) (sam_ts el fl)⟩
  rw [cnr_sam r.1]
  exact flu_eq hf g ex ey ez ew (fun b j b0 b1 j0 j1 => by rw [c b j b0 b1]; exact h.2.1 b j b0 b1 j0 j1) a k a0 a1 k0 k1
theorem mqj_span {s t u : PS} {x y z : Int} (h : MQJ s) (hm : MOI t) (hc : SAM 8 s t) (he : UPD 9 x y s t) (hl : UPD 10 x z s t) (c : SMR s t) (el : SAM 164 s t) (ee : SAM 163 s t)
    (ge : UPD 163 x y t u) (gl : UPD 164 x z t u) (r : SA4 t u) (c2 : SMR t u) : MQJ u := by
  refine ⟨moi_sam hm r, fun a k a0 a1 k0 k1 => ?_, aeq_upd h.2.2.1 he ee ge r.2.2.1, aeq_upd h.2.2.2 hl el gl r.2.1⟩
  rw [cnr_sam r.1, cnr_sam hc, c2 a k a0 a1, c a k a0 a1]
  exact h.2.1 a k a0 a1 k0 k1
theorem sa4_fm {L M : List Nat} {s t : PS} (F : Fm L M s t) (h : 8 ∉ M ∧ 10 ∉ M ∧ 9 ∉ M ∧ 11 ∉ M ∧ 12 ∉ M) : SA4 s t := ⟨sam_fm F h.1, sam_fm F h.2.1, sam_fm F h.2.2.1, sam_fm F h.2.2.2.1, sam_fm F h.2.2.2.2⟩
theorem sa4_ts {s t u : PS} (h : SA4 s t) (g : SA4 t u) : SA4 s u := ⟨sam_ts h.1 g.1, sam_ts h.2.1 g.2.1, sam_ts h.2.2.1 g.2.2.1, sam_ts h.2.2.2.1 g.2.2.2.1, sam_ts h.2.2.2.2 g.2.2.2.2⟩
theorem mqj_0 {s : PS} (h1 : ∀ j, j < 288 → iC s 8 j = 0) (h2 : ∀ j, j < 288 → iC s 11 j = 0) (h6 : ∀ j, j < 12 → iC s 12 j = 0) (h3 : ∀ r j, r < 12 → j < 24 → iC s (190 + r) j = 0) (h4 : AEQ 9 163 12 s) (h5 : AEQ 10 164 12 s) : MQJ s := by
  have hz : ∀ x k : Int, 0 ≤ x → x ≤ 11 → 0 ≤ k → k ≤ 23 → CNR s x k = 0 := fun x k x0 x1 k0 k1 => h1 _ (by omega)
  refine ⟨⟨fun x q x0 x1 q0 q1 => ?_, fun x x0 x1 => ?_⟩, fun a k a0 a1 k0 k1 => ?_, h4, h5⟩
  · rw [h2 _ (by omega)]
    refine ⟨Int.le_refl _, fun k k0 k1 _ _ => ?_, Or.inl rfl⟩
    show iC s 8 (x * 24 + k).toNat ≤ 0
    rw [h1 _ (by omega)]
    exact Int.le_refl _
  · rw [h6 _ (by omega), sqn_f (g := fun _ => 0) (fun k k0 k1 => hz x k x0 x1 k0 (by omega))]
    rfl
  · show iC s 8 (a * 24 + k).toNat = iC s (190 + a.toNat) k.toNat
    rw [h1 _ (by omega), h3 _ _ (by omega) (by omega)]
theorem MOI_fm {L M : List Nat} {s t : PS} (F : Fm L M s t) (h : 8 ∉ M ∧ 10 ∉ M ∧ 9 ∉ M ∧ 11 ∉ M ∧ 12 ∉ M) (r : MOI s) : MOI t := moi_sam r (sa4_fm F h)
theorem mxm_st {x y e : Int} {s t : PS} (m : MXG (CMR t x) (y - iC t 164 x.toNat) (y + iC t 163 x.toNat + 1) e) (h1 : ∀ j, j < 12 → ∀ {i : Nat}, iC t (190 + j) i = iC s (190 + j) i) (h2 : SAM 164 s t) (h3 : SAM 163 s t) (x0 : 0 ≤ x) (x1 : x ≤ 11) : MXG (CMR s x) (y - iC s 164 x.toNat) (y + iC s 163 x.toNat + 1) e := by
  have e1 : CMR t x = CMR s x := funext fun k => h1 _ (by omega)
  rw [e1, h2, h3] at m
  exact m
theorem flu_sm {s t : PS} {x y w : Int} (h : SMR s t) : FLU (CMR s) (CMR t) x y y w := fun a k a0 a1 _ _ => by rw [if_neg (by omega)]; exact h a k a0 a1
section M87d
variable {l : Launch} {s0 : State} {D : va_G} {tys : List (ClassId × FieldType)} {a0 : Array Value} {A : Nat → Nat} {dT : Nat → ClassId} {s : PS}
set_option maxRecDepth 4000 in
theorem c9_mostIn2 (G : GX l s0 D tys a0 dT) (I : Bd s) {x y : Int} (p0 : 0 ≤ x ∧ x ≤ 11) (p1 : 0 ≤ y ∧ y ≤ 23) : CT l s0 D A dT 117 (rmN 117) [.ref (A 3), .int (Int32.ofInt x), .int (Int32.ofInt y)] s (fun o t => Bd t ∧ Fm [] [] s t ∧ ∃ e, o = .inl (some (.int (Int32.ofInt e))) ∧ rng e ∧ (0 ≤ e ∧ e ≤ 50 ∧ MXG (CNR s x) (y - iC s 10 x.toNat) (y + iC s 9 x.toNat + 1) e)) := by
  refine ct_ofX G (by decide) (Nat.le_of_ble_eq_true rfl) (fun k X E ET hRt hXt q => ?_)
  show WS k 0 [(0, .ref (A 3)), (1, .int (Int32.ofInt x)), (2, .int (Int32.ofInt y))] [] _ 0 0
  have F : Fm [] [] s s := fm_rf _ _ s
  have aw0_10 : SAM 10 s s := sam_rf
  have aw0_9 : SAM 9 s s := sam_rf
  have L34 : ∀ (n : Nat) (t : PS) (xv la gr qq : Int), Bd t → Fm [] [] s t → (MXG (CNR s x) (y - iC s 10 x.toNat) qq gr) → (xv = x ∧ (0 ≤ xv ∧ xv ≤ 11) ∧ (-30 ≤ la ∧ la ≤ 23) ∧ (0 ≤ gr ∧ gr ≤ 50) ∧ 0 ≤ qq ∧ qq ≤ 24 ∧ y - iC s 10 x.toNat ≤ qq ∧ la ≤ y + iC s 9 x.toNat ∧ (la = 23 ∨ la = y + iC s 9 x.toNat) ∧ qq ≤ la + 1) → (24 - qq : Int).toNat < n → (∀ (t' : PS) (gr' qq' : Int), Bd t' → Fm [] [] s t' → (MXG (CNR s x) (y - iC s 10 x.toNat) (y + iC s 9 x.toNat + 1) gr') → (0 ≤ gr' ∧ gr' ≤ 50) → WS k 66 [(0, .ref (A 3)), (1, .int (Int32.ofInt xv)), (4, .int (Int32.ofInt la)), (5, .int (Int32.ofInt gr')), (6, .int (Int32.ofInt qq'))] [] (Wd A dT t') 0 0) → WS k 34 [(0, .ref (A 3)), (1, .int (Int32.ofInt xv)), (4, .int (Int32.ofInt la)), (5, .int (Int32.ofInt gr)), (6, .int (Int32.ofInt qq))] [] (Wd A dT t) 0 0 := by
    intro n
    induction n with
    | zero =>
      intro t xv la gr qq I F hq hi hm kx
      exact absurd hm (Nat.not_lt_zero _)
    | succ n ih =>
      intro t xv la gr qq I F hq hi hm kx
      refine z_load X (x := qq) rfl (List.Mem.tail _ (List.Mem.tail _ (List.Mem.tail _ (List.Mem.tail _ (List.Mem.head _))))) (z_load X (x := la) rfl (List.Mem.tail _ (List.Mem.tail _ (List.Mem.head _))) (z_icmp_gt X (t := 66) rfl rfl ⟨by first | exact oq_fa4e5087 hi.2.2.2.2.1 | omega, by first | exact oq_5bcd337f hi.2.2.2.2.2.1 | omega⟩ ⟨by first | exact oq_68756d7a hi.2.2.1.1 | omega, by first | exact oq_1a42ef34 hi.2.2.1.2 | omega⟩ (fun g1001 => ?_) (fun g1001 => ?_)))
      ·
        refine WS_pq [0, 1, 2, 3, 4] (lv' := [(0, .ref (A 3)), (1, .int (Int32.ofInt xv)), (4, .int (Int32.ofInt la)), (5, .int (Int32.ofInt gr)), (6, .int (Int32.ofInt qq))]) rfl ?_
        exact kx _ gr qq I F (mx_to hq (fun k _ _ _ => by omega)) (by first | exact ⟨hi.2.2.2.1.1, hi.2.2.2.1.2⟩ | omega)
      ·
        refine z_load X (x := gr) rfl (List.Mem.tail _ (List.Mem.tail _ (List.Mem.tail _ (List.Mem.head _)))) (z_aload_n X (x := A 3) rfl (List.Mem.head _) (s_getR X 3 rfl (c518_ok rfl) rfl rfl (z_load_n X (x := xv) rfl (List.Mem.tail _ (List.Mem.head _)) (z_bipush X rfl (z_mul X rfl (z_load X (x := qq) rfl (List.Mem.tail _ (List.Mem.tail _ (List.Mem.tail _ (List.Mem.tail _ (List.Mem.head _))))) (z_add X rfl (z_ald X 11 rfl (c518_ok rfl) rfl (by first | exact oq_4071a75f hi.2.1.1 hi.2.2.2.2.1 | omega) (show ((xv * 24) + qq) < 288 by first | exact oq_df38adfb hi.2.1.2 g1001 hi.2.2.1.2 | omega) (cbig_ok rfl) ?_))))))))
        have b1002 := bc_8 I (show (((xv * 24) + qq)).toNat < 288 by first | exact oq_bba4069f hi.2.1.2 g1001 hi.2.2.1.2 | omega)
        refine z_max X rfl ⟨by first | exact oq_fa4e5087 hi.2.2.2.1.1 | omega, by first | exact oq_cbe526b3 hi.2.2.2.1.2 | omega⟩ (rng_to _) (by rw [E.2.2.2]; decide) (by rw [E.2.2.2]; exact Nat.le_of_ble_eq_true rfl) (Nat.zero_le _) (Nat.zero_le _) (fun e1003 he1003 => ?_)
        refine z_store X (lv' := [(5, .int (Int32.ofInt e1003)), (0, .ref (A 3)), (1, .int (Int32.ofInt xv)), (4, .int (Int32.ofInt la)), (6, .int (Int32.ofInt qq))]) rfl (by decide) (fun _ h => h) (z_inc X (x := qq) (lv' := [(6, .int (Int32.ofInt (qq + 1))), (5, .int (Int32.ofInt e1003)), (0, .ref (A 3)), (1, .int (Int32.ofInt xv)), (4, .int (Int32.ofInt la))]) rfl (by decide) (List.Mem.tail _ (List.Mem.tail _ (List.Mem.tail _ (List.Mem.tail _ (List.Mem.head _))))) (fun _ h => h) (z_goto X (t := 34) rfl rfl (WS_pq [2, 3, 4, 1, 0] (lv' := [(0, .ref (A 3)), (1, .int (Int32.ofInt xv)), (4, .int (Int32.ofInt la)), (5, .int (Int32.ofInt e1003)), (6, .int (Int32.ofInt (qq + 1)))]) rfl ?_)))
        exact ih _ xv la e1003 (qq + 1) I F (mx_up (v := iC t 8 ((xv * 24) + qq).toNat) hq (by rw [show xv = x by omega]; exact (sam_fm F (by decide) : SAM 8 s t) _) (by omega) (by omega) (by omega) (by omega) (by omega) (by omega)) (by first | exact ⟨hi.1, And.intro (hi.2.1.1) (hi.2.1.2), And.intro (hi.2.2.1.1) (hi.2.2.1.2), oq_a302a59b he1003 b1002.2 hi.2.2.2.1.2 hi.2.2.2.1.1, oq_54f49eb5 hi.2.2.2.2.1, oq_3f5436dc g1001 hi.2.2.1.2, oq_e1c0d1f5 hi.2.2.2.2.2.2.1, hi.2.2.2.2.2.2.2.1, hi.2.2.2.2.2.2.2.2.1, oq_8d48a029 g1001⟩ | omega) (by first | exact qk_me hm (by decide) (oq_416f5e90 g1001 hi.2.2.1.2) | omega) kx
  refine z_const X rfl (z_load_n X (x := y) rfl (List.Mem.tail _ (List.Mem.tail _ (List.Mem.head _))) (z_aload_n X (x := A 3) rfl (List.Mem.head _) (s_getR X 3 rfl (c518_ok rfl) rfl rfl (z_load_n X (x := x) rfl (List.Mem.tail _ (List.Mem.head _)) (z_ald X 13 rfl (c518_ok rfl) rfl (by first | exact p0.1 | omega) (show x < 12 by first | exact oq_0ddfcfee p0.2 | omega) (cbig_ok rfl) ?_)))))
  have b1 := bc_10 I (show (x).toNat < 12 by first | exact oq_9c5fa447 p0.2 | omega)
  have ar2 : iC s 10 (x).toNat = iC s 10 (x).toNat := aw0_10 _
  refine z_sub X rfl (z_max X rfl (by decide) ⟨by first | exact oq_daade761 p1.1 b1.2 | omega, by first | exact oq_941e6dcc p1.2 b1.1 | omega⟩ (by rw [E.2.2.2]; decide) (by rw [E.2.2.2]; exact Nat.le_of_ble_eq_true rfl) (Nat.zero_le _) (Nat.zero_le _) (fun e3 he3 => ?_))
  refine z_store_n X (lv' := [(3, .int (Int32.ofInt e3)), (0, .ref (A 3)), (1, .int (Int32.ofInt x)), (2, .int (Int32.ofInt y))]) rfl (by decide) (fun _ h => h) (z_bipush X rfl (z_load_n X (x := y) rfl (List.Mem.tail _ (List.Mem.tail _ (List.Mem.tail _ (List.Mem.head _)))) (z_aload_n X (x := A 3) rfl (List.Mem.tail _ (List.Mem.head _)) (s_getR X 3 rfl (c518_ok rfl) rfl rfl (z_load_n X (x := x) rfl (List.Mem.tail _ (List.Mem.tail _ (List.Mem.head _))) (z_ald X 12 rfl (c518_ok rfl) rfl (by first | exact p0.1 | omega) (show x < 12 by first | exact oq_0ddfcfee p0.2 | omega) (cbig_ok rfl) ?_))))))
  have b4 := bc_9 I (show (x).toNat < 12 by first | exact oq_9c5fa447 p0.2 | omega)
  have ar5 : iC s 9 (x).toNat = iC s 9 (x).toNat := aw0_9 _
  refine z_add X rfl (z_min X rfl (by decide) ⟨by first | exact oq_34aac425 p1.1 b4.1 | omega, by first | exact oq_b5a47671 p1.2 b4.2 | omega⟩ (by rw [E.2.2.2]; decide) (by rw [E.2.2.2]; exact Nat.le_of_ble_eq_true rfl) (Nat.zero_le _) (Nat.zero_le _) (fun e6 he6 => ?_))
  refine z_store X (lv' := [(4, .int (Int32.ofInt e6)), (3, .int (Int32.ofInt e3)), (0, .ref (A 3)), (1, .int (Int32.ofInt x)), (2, .int (Int32.ofInt y))]) rfl (by decide) (fun _ h => h) (z_const X rfl (z_store X (lv' := [(5, .int (Int32.ofInt 0)), (4, .int (Int32.ofInt e6)), (3, .int (Int32.ofInt e3)), (0, .ref (A 3)), (1, .int (Int32.ofInt x)), (2, .int (Int32.ofInt y))]) rfl (by decide) (fun _ h => h) (z_load_n X (x := e3) rfl (List.Mem.tail _ (List.Mem.tail _ (List.Mem.head _))) (z_store X (lv' := [(6, .int (Int32.ofInt e3)), (5, .int (Int32.ofInt 0)), (4, .int (Int32.ofInt e6)), (3, .int (Int32.ofInt e3)), (0, .ref (A 3)), (1, .int (Int32.ofInt x)), (2, .int (Int32.ofInt y))]) rfl (by decide) (fun _ h => h) (WS_pq [4, 5, 2, 1, 0] (lv' := [(0, .ref (A 3)), (1, .int (Int32.ofInt x)), (4, .int (Int32.ofInt e6)), (5, .int (Int32.ofInt 0)), (6, .int (Int32.ofInt e3))]) rfl (L34 ((24 - e3 : Int).toNat + 1) s x e6 0 e3 I F (mx_0 (by omega)) (by first | exact ⟨by decide, And.intro (p0.1) (p0.2), oq_15ca313a he6 b4.1 p1.1, And.intro (by decide) (by decide), oq_b74587d4 he3, oq_f627406d he3 b1.1 p1.2, oq_27f44d03 he3, oq_f5925612 he6, oq_86d47d54 he6, oq_7ed948bf he6 b4.1 he3 b1.1 p1.2 p1.1⟩ | omega) (Nat.lt_succ_self _) ?_))))))
  intro s7 x8 x9 Is7 Fs7 Qs7 hs7
  refine z_load X (x := x8) rfl (List.Mem.tail _ (List.Mem.tail _ (List.Mem.tail _ (List.Mem.head _)))) ?_
  exact w_iret X.1 q hRt rfl (ax_d X (show cdA 117 68 = some (.ireturn, 1, 0, 0, 0) from rfl)) (Nat.zero_le _) (Nat.zero_le _) ⟨_, rfl, Is7, Fs7, x8, rfl, ⟨by first | exact oq_fa4e5087 hs7.1 | omega, by first | exact oq_cbe526b3 hs7.2 | omega⟩, ⟨by first | exact hs7.1 | omega, by first | exact hs7.2 | omega, Qs7⟩⟩
set_option maxRecDepth 4000 in
theorem cs_most2 (G : GX l s0 D tys a0 dT) (I : Bd s) {u v : Int} (p0 : rng u) (p1 : rng v) : CT l s0 D A dT 142 (rmN 142) [.ref (A 0), .int (Int32.ofInt u), .int (Int32.ofInt v)] s (fun o t => Bd t ∧ Fm [] [] s t ∧ ((∃ e, o = .inl (some (.int (Int32.ofInt e))) ∧ rng e ∧ (0 ≤ u ∧ u < iI s 9 ∧ 0 ≤ v ∧ v ≤ 23 ∧ e = iC s 11 (v * 12 + u).toNat)) ∨ ∃ x : Nat, o = .inr (exN x) ∧ (((x = 1 ∧ (u < 0 ∨ iI s 9 ≤ u)) ∨ (x = 0 ∧ 0 ≤ u ∧ u < iI s 9 ∧ (v < 0 ∨ 23 < v)))))) := by
  refine ct_ofX G (by decide) (Nat.le_of_ble_eq_true rfl) (fun k X E ET hRt hXt q => ?_)
  show WS k 0 [(0, .ref (A 0)), (1, .int (Int32.ofInt u)), (2, .int (Int32.ofInt v))] [] _ 0 0
  have F : Fm [] [] s s := fm_rf _ _ s
  have aw0_11 : SAM 11 s s := sam_rf
  have b1 := bi_9 I
  refine z_aload_n X (x := A 0) rfl (List.Mem.head _) (z_load_n X (x := u) rfl (List.Mem.tail _ (List.Mem.head _)) (z_callV X 0 (rm := rmN 180) (As := [.int (Int32.ofInt u)]) (st := []) rfl rfl (by decide) rfl (by rw [E.1, E.2.1, E.2.2.1]; exact cs_needStream2 G I (by first | exact ⟨p0.1, p0.2⟩ | omega)) ⟨by rw [E.2.2.2]; exact (show (rmN 180).frames + 1 ≤ (rmN 142).frames by decide), by rw [E.2.2.2]; exact (show 8 + (mNL (miB 180) + 11) + (rmN 180).locals ≤ (rmN 142).locals by decide), by rw [E.2.2.2]; exact (show 0 + 1 ≤ 2 by decide), by rw [E.2.2.2]; exact (show 0 + 6 ≤ 12 by decide)⟩ (Nat.le_of_ble_eq_true rfl) (fun vv s2 hq => ?_) (fun ee s2 hq => ?_)))
  rotate_left
  · obtain ⟨Is2, Fs2, (⟨hv, hps2⟩ | ⟨xx, hv, hps2⟩)⟩ := hq
    · cases hv
    · cases hv
      have Gs2 := fm_tq F Fs2 rfl rfl
      have ws2_9 : iI s2 9 = iI s 9 := fm_iq Fs2 rfl
      have aws2_11 : SAM 11 s s2 := sam_ts aw0_11 (sam_fm Fs2 (by decide))
      exact x_out X.1 q (fun x hx => (hXt x hx).elim) (show 1 ≤ 2 by decide) (show 6 ≤ 12 by decide) ⟨_, rfl, Is2, Gs2, Or.inr ⟨xx, rfl, by omega⟩⟩
  obtain ⟨Is2, Fs2, (⟨hv, hps2⟩ | ⟨xx, hv, hps2⟩)⟩ := hq
  rotate_left
  · cases hv
  cases hv
  have Gs2 := fm_tq F Fs2 rfl rfl
  have ws2_9 : iI s2 9 = iI s 9 := fm_iq Fs2 rfl
  have aws2_11 : SAM 11 s s2 := sam_ts aw0_11 (sam_fm Fs2 (by decide))
  show WS k 5 [(0, .ref (A 0)), (1, .int (Int32.ofInt u)), (2, .int (Int32.ofInt v))] [] (Wd A dT s2) 1 6
  refine z_aload_n X (x := A 0) rfl (List.Mem.head _) (z_load_n X (x := v) rfl (List.Mem.tail _ (List.Mem.tail _ (List.Mem.head _))) (z_callV X 0 (rm := rmN 183) (As := [.int (Int32.ofInt v)]) (st := []) rfl rfl (by decide) rfl (by rw [E.1, E.2.1, E.2.2.1]; exact cs_needQuarter2 G Is2 (by first | exact ⟨p1.1, p1.2⟩ | omega)) ⟨by rw [E.2.2.2]; exact (show (rmN 183).frames + 1 ≤ (rmN 142).frames by decide), by rw [E.2.2.2]; exact (show 8 + (mNL (miB 183) + 11) + (rmN 183).locals ≤ (rmN 142).locals by decide), by rw [E.2.2.2]; exact (show 1 + 1 ≤ 2 by decide), by rw [E.2.2.2]; exact (show 6 + 6 ≤ 12 by decide)⟩ (Nat.le_of_ble_eq_true rfl) (fun vv s4 hq => ?_) (fun ee s4 hq => ?_)))
  rotate_left
  · obtain ⟨Is4, Fs4, (⟨hv, hps4⟩ | ⟨xx, hv, hps4⟩)⟩ := hq
    · cases hv
    · cases hv
      have Gs4 := fm_tq Gs2 Fs4 rfl rfl
      have ws4_9 : iI s4 9 = iI s2 9 := fm_iq Fs4 rfl
      have aws4_11 : SAM 11 s s4 := sam_ts aws2_11 (sam_fm Fs4 (by decide))
      exact x_out X.1 q (fun x hx => (hXt x hx).elim) (show (1 + 1) ≤ 2 by decide) (show (6 + 6) ≤ 12 by decide) ⟨_, rfl, Is4, Gs4, Or.inr ⟨xx, rfl, by first | (clear hps2; omega) | omega⟩⟩
  obtain ⟨Is4, Fs4, (⟨hv, hps4⟩ | ⟨xx, hv, hps4⟩)⟩ := hq
  rotate_left
  · cases hv
  cases hv
  have Gs4 := fm_tq Gs2 Fs4 rfl rfl
  have ws4_9 : iI s4 9 = iI s2 9 := fm_iq Fs4 rfl
  have aws4_11 : SAM 11 s s4 := sam_ts aws2_11 (sam_fm Fs4 (by decide))
  show WS k 10 [(0, .ref (A 0)), (1, .int (Int32.ofInt u)), (2, .int (Int32.ofInt v))] [] (Wd A dT s4) (1 + 1) (6 + 6)
  refine z_aload_n X (x := A 0) rfl (List.Mem.head _) (s_getR X 0 rfl (c518_ok rfl) rfl rfl (s_getR X 3 rfl (c518_ok rfl) rfl rfl (z_load_n X (x := v) rfl (List.Mem.tail _ (List.Mem.tail _ (List.Mem.head _))) (z_bipush X rfl (z_mul X rfl (z_load_n X (x := u) rfl (List.Mem.tail _ (List.Mem.head _)) (z_add X rfl (z_ald X 14 rfl (c518_ok rfl) rfl (by first | exact oq_0f03f1de hps4.1 hps2.1 | omega) (show ((v * 12) + u) < 288 by first | exact oq_45988efc hps4.2 hps2.2 b1.2 | omega) (cbig_ok rfl) ?_))))))))
  have b6 := bc_11 Is4 (show (((v * 12) + u)).toNat < 288 by first | exact oq_8395bb7c hps4.2 hps2.2 b1.2 | omega)
  have ar7 : iC s4 11 (((v * 12) + u)).toNat = iC s 11 (((v * 12) + u)).toNat := aws4_11 _
  exact w_iret X.1 q hRt rfl (ax_d X (show cdA 142 24 = some (.ireturn, 1, 0, 0, 0) from rfl)) (show (1 + 1) ≤ 2 by decide) (show (6 + 6) ≤ 12 by decide) ⟨_, rfl, Is4, Gs4, Or.inl ⟨(iC s4 11 (((v * 12) + u)).toNat), rfl, (rng_to _), by first | exact ⟨hps2.1, hps2.2, hps4.1, hps4.2, ar7⟩ | omega⟩⟩
set_option maxRecDepth 4000 in
theorem lw_most2 (G : GX l s0 D tys a0 dT) (I : Bd s) {u v : Int} (p0 : rng u) (p1 : rng v) : CTL l s0 D A dT 319 (rmN 319) [.ref (A 0), .int (Int32.ofInt u), .int (Int32.ofInt v), .ref (A 517)] s (fun o t => Bd t ∧ Fm [] [1460] s t ∧ ∃ e, o = .inl (some (.int (Int32.ofInt e))) ∧ rng e ∧ ((e = 0 ∧ 0 ≤ u ∧ u < iI s 9 ∧ 0 ≤ v ∧ v ≤ 23 ∧ iO t = iC s 11 (v * 12 + u).toNat) ∨ (e = 1 ∧ (u < 0 ∨ iI s 9 ≤ u)) ∨ (e = 2 ∧ 0 ≤ u ∧ u < iI s 9 ∧ (v < 0 ∨ 23 < v)))) := by
  refine ctL_of G (by decide) (Nat.le_of_ble_eq_true rfl) (by decide) rfl (fun k X E ET hRt hEx q => ?_)
  show WS k 0 [(0, .ref (A 0)), (1, .int (Int32.ofInt u)), (2, .int (Int32.ofInt v)), (3, .ref (A 517))] [] _ 0 0
  have F : Fm [] [1460] s s := fm_rf _ _ s
  have hA := swA_rf A
  have b1 := bi_9 I
  refine z_aload_n X (x := A 517) rfl (List.Mem.tail _ (List.Mem.tail _ (List.Mem.tail _ (List.Mem.head _)))) (z_const X rfl (z_aload_n X (x := A 0) rfl (List.Mem.head _) (z_load_n X (x := u) rfl (List.Mem.tail _ (List.Mem.head _)) (z_load_n X (x := v) rfl (List.Mem.tail _ (List.Mem.tail _ (List.Mem.head _))) (z_callV X 0 (rm := rmN 142) (As := [.int (Int32.ofInt u), .int (Int32.ofInt v)]) (st := [.int (Int32.ofInt 0), .ref (A 517)]) rfl rfl (by decide) rfl (by rw [E.1, E.2.1, E.2.2.1]; exact cs_most2 G I (by omega) (by omega)) ⟨by rw [E.2.2.2]; exact (show (rmN 142).frames + 1 ≤ (rmN 319).frames by decide), by rw [E.2.2.2]; exact (show 8 + (mNL (miB 142) + 11) + (rmN 142).locals ≤ (rmN 319).locals by decide), by rw [E.2.2.2]; exact (show 0 + (rmN 142).cells ≤ (rmN 319).cells by decide), by rw [E.2.2.2]; exact (show 0 + (rmN 142).slots ≤ (rmN 319).slots by decide)⟩ (Nat.le_of_ble_eq_true rfl) (fun vv s2 hq => ?_) (fun ee s2 hq => ?_))))))
  rotate_left
  · obtain ⟨Is2, Fs2, (⟨e3, hv, hrs2, hps2⟩ | ⟨xx, hv, hps2⟩)⟩ := hq
    · cases hv
    · cases hv
      rcases (show xx = 0 ∨ xx = 1 by omega) with gx | gx
      ·
        subst gx
        have Gs2 := fm_tq F Fs2 rfl rfl
        have ws2_9 : iI s2 9 = iI s 9 := fm_iq Fs2 rfl
        refine (hEx 5 0).2 17 rfl _ _ _ _ _ (fun q1 => ?_)
        show WS k 17 [(0, .ref (A 0)), (1, .int (Int32.ofInt u)), (2, .int (Int32.ofInt v)), (3, .ref (A 517))] [.ref q1] (Wd A dT s2) 2 12
        refine z_astore X (lv' := [(4, .ref q1), (0, .ref (A 0)), (1, .int (Int32.ofInt u)), (2, .int (Int32.ofInt v)), (3, .ref (A 517))]) rfl (by decide) (fun _ h => h) (z_const X rfl ?_)
        exact w_iret X.1 q hRt rfl (ax_d X (show cdA 319 20 = some (.ireturn, 1, 0, 0, 0) from rfl)) (show 2 ≤ 2 by decide) (show 12 ≤ 12 by decide) ⟨A, _, hA, rfl, Is2, Gs2, 2, rfl, (by decide), by omega⟩
      ·
        subst gx
        have Gs2 := fm_tq F Fs2 rfl rfl
        have ws2_9 : iI s2 9 = iI s 9 := fm_iq Fs2 rfl
        refine (hEx 5 1).2 13 rfl _ _ _ _ _ (fun q1 => ?_)
        show WS k 13 [(0, .ref (A 0)), (1, .int (Int32.ofInt u)), (2, .int (Int32.ofInt v)), (3, .ref (A 517))] [.ref q1] (Wd A dT s2) 2 12
        refine z_astore X (lv' := [(4, .ref q1), (0, .ref (A 0)), (1, .int (Int32.ofInt u)), (2, .int (Int32.ofInt v)), (3, .ref (A 517))]) rfl (by decide) (fun _ h => h) (z_const X rfl ?_)
        exact w_iret X.1 q hRt rfl (ax_d X (show cdA 319 16 = some (.ireturn, 1, 0, 0, 0) from rfl)) (show 2 ≤ 2 by decide) (show 12 ≤ 12 by decide) ⟨A, _, hA, rfl, Is2, Gs2, 1, rfl, (by decide), by omega⟩
  obtain ⟨Is2, Fs2, (⟨e3, hv, hrs2, hps2⟩ | ⟨xx, hv, hps2⟩)⟩ := hq
  rotate_left
  · cases hv
  cases hv
  have Gs2 := fm_tq F Fs2 rfl rfl
  have ws2_9 : iI s2 9 = iI s 9 := fm_iq Fs2 rfl
  show WS k 8 [(0, .ref (A 0)), (1, .int (Int32.ofInt u)), (2, .int (Int32.ofInt v)), (3, .ref (A 517))] [.int (Int32.ofInt e3), .int (Int32.ofInt 0), .ref (A 517)] (Wd A dT s2) 2 12
  refine w_i2l X.1 (ax_d X (show cdA 319 8 = some (.i2l, 1, 0, 0, 0) from rfl)) (z_last X 517 rfl (c518_ok rfl) rfl (by first | (clear hps2; omega) | omega) (show 0 < 1 by first | (clear hps2; omega) | omega) (cbig_ok rfl) (wd_gen (fun s4 hs4 => ?_)))
  have Is4 : Bd s4 := eqB hs4 (bd_D Is2)
  have Fs4 : Fm [] [1460] s s4 := by rw [hs4]; exact fm_D Gs2 (show 460 + 1000 ∈ _ by decide)
  have ws4_9 : iI s4 9 = iI s2 9 := eqI hs4 rfl
  have oos4 : iO s4 = e3 := by rw [hs4]; exact iO_u (by first | (clear hps2; omega) | omega)
  refine z_goto X (t := 21) rfl rfl (z_const X rfl ?_)
  exact w_iret X.1 q hRt rfl (ax_d X (show cdA 319 22 = some (.ireturn, 1, 0, 0, 0) from rfl)) (show 2 ≤ 2 by decide) (show 12 ≤ 12 by decide) ⟨A, _, hA, rfl, Is4, Fs4, 0, rfl, (by decide), by first | (clear hps2; omega) | omega⟩
set_option maxRecDepth 4000 in
theorem k_mostOf2 (G : GX l s0 D tys a0 dT) (I : Bd s) {x y : Int} (p0 : 0 ≤ x ∧ x ≤ 11) (p1 : 0 ≤ y ∧ y ≤ 23) : CT l s0 D A dT 220 (rmN 220) [.ref (A 179), .int (Int32.ofInt x), .int (Int32.ofInt y)] s (fun o t => Bd t ∧ Fm [] [] s t ∧ ∃ e, o = .inl (some (.int (Int32.ofInt e))) ∧ rng e ∧ (0 ≤ e ∧ e ≤ 50 ∧ MXG (CMR s x) (y - iC s 164 x.toNat) (y + iC s 163 x.toNat + 1) e)) := by
  refine ct_of G (by decide) (Nat.le_of_ble_eq_true rfl) (fun k X E hRt hXt q => ?_)
  show WS k 0 [(0, .ref (A 179)), (1, .int (Int32.ofInt x)), (2, .int (Int32.ofInt y))] [] _ 0 0
  have F : Fm [] [] s s := fm_rf _ _ s
  have aw0_164 : SAM 164 s s := sam_rf
  have aw0_163 : SAM 163 s s := sam_rf
  have hb9 : (0 : Int) ≤ iC s 163 x.toNat ∧ iC s 163 x.toNat ≤ 2 := I.2 163 _ (show x.toNat < 12 by omega)
  have L12 : ∀ (n : Nat) (t : PS) (xv yv nv c : Int), Bd t → Fm [] [] s t → (MXG (CMR s x) (y - iC s 164 x.toNat) c nv) → ((xv = x ∧ yv = y) ∧ (0 ≤ xv ∧ xv ≤ 11) ∧ (0 ≤ yv ∧ yv ≤ 23) ∧ (0 ≤ nv ∧ nv ≤ 50) ∧ -2 ≤ c ∧ c ≤ 26 ∧ y - iC s 164 x.toNat ≤ c ∧ c ≤ y + iC s 163 x.toNat + 1) → (26 - c : Int).toNat < n → (∀ (t' : PS) (nv' c' : Int), Bd t' → Fm [] [] s t' → (MXG (CMR s x) (y - iC s 164 x.toNat) (y + iC s 163 x.toNat + 1) nv') → (0 ≤ nv' ∧ nv' ≤ 50) → WS k 65 [(0, .ref (A 179)), (1, .int (Int32.ofInt xv)), (2, .int (Int32.ofInt yv)), (3, .int (Int32.ofInt nv')), (4, .int (Int32.ofInt c'))] [] (Wd A dT t') 0 0) → WS k 12 [(0, .ref (A 179)), (1, .int (Int32.ofInt xv)), (2, .int (Int32.ofInt yv)), (3, .int (Int32.ofInt nv)), (4, .int (Int32.ofInt c))] [] (Wd A dT t) 0 0 := by
    intro n
    induction n with
    | zero =>
      intro t xv yv nv c I F hq hi hm kx
      exact absurd hm (Nat.not_lt_zero _)
    | succ n ih =>
      intro t xv yv nv c I F hq hi hm kx
      have hx9 : xv = x := by omega
      have hE9 : iC s 163 (xv).toNat = iC s 163 x.toNat := by rw [hx9]
      refine z_load X (x := c) rfl (List.Mem.tail _ (List.Mem.tail _ (List.Mem.tail _ (List.Mem.tail _ (List.Mem.head _))))) (z_load_n X (x := yv) rfl (List.Mem.tail _ (List.Mem.tail _ (List.Mem.head _))) (z_aload_n X (x := A 179) rfl (List.Mem.head _) (s_getR X 179 rfl (c518_ok rfl) rfl rfl (z_load_n X (x := xv) rfl (List.Mem.tail _ (List.Mem.head _)) (z_ald X 186 rfl (c518_ok rfl) rfl (by first | exact hi.2.1.1 | omega) (show xv < 12 by first | exact oq_0ddfcfee hi.2.1.2 | omega) (cbig_ok rfl) ?_)))))
      have b1001 := bc_163 I (show (xv).toNat < 12 by first | exact oq_9c5fa447 hi.2.1.2 | omega)
      have ar1002 : iC t 163 (xv).toNat = iC s 163 (xv).toNat := (sam_fm F (by decide) : SAM 163 s t) _
      refine z_add X rfl (z_icmp_gt X (t := 65) rfl rfl ⟨by first | exact oq_f81b6609 hi.2.2.2.2.1 | omega, by first | exact oq_9e7d853b hi.2.2.2.2.2.1 | omega⟩ ⟨by first | exact oq_34aac425 hi.2.2.1.1 b1001.1 | omega, by first | exact oq_b5a47671 hi.2.2.1.2 b1001.2 | omega⟩ (fun g1003 => ?_) (fun g1003 => ?_))
      ·
        refine WS_pq [0, 1, 2, 3, 4] (lv' := [(0, .ref (A 179)), (1, .int (Int32.ofInt xv)), (2, .int (Int32.ofInt yv)), (3, .int (Int32.ofInt nv)), (4, .int (Int32.ofInt c))]) rfl ?_
        exact kx _ nv c I F (mx_to hq (fun k _ _ _ => by omega)) (by first | exact ⟨hi.2.2.2.1.1, hi.2.2.2.1.2⟩ | omega)
      ·
        refine z_load X (x := c) rfl (List.Mem.tail _ (List.Mem.tail _ (List.Mem.tail _ (List.Mem.tail _ (List.Mem.head _))))) (z_const X rfl (z_bipush X rfl (z_callS X (rm := rmN 188) (As := [.int (Int32.ofInt c), .int (Int32.ofInt 0), .int (Int32.ofInt 23)]) (st := []) rfl rfl (by rw [E.1, E.2.1, E.2.2.1]; exact k_in2 G I (by first | exact ⟨oq_f81b6609 hi.2.2.2.2.1, oq_9e7d853b hi.2.2.2.2.2.1⟩ | omega) (by first | exact ⟨by decide, by decide⟩ | omega) (by first | exact ⟨by decide, by decide⟩ | omega)) ⟨by rw [E.2.2.2]; exact (show (rmN 188).frames + 1 ≤ (rmN 220).frames by decide), by rw [E.2.2.2]; exact (show 8 + (mNL (miB 188) + 11) + (rmN 188).locals ≤ (rmN 220).locals by decide), by rw [E.2.2.2]; exact (show 0 + (rmN 188).cells ≤ (rmN 220).cells by decide), by rw [E.2.2.2]; exact (show 0 + (rmN 188).slots ≤ (rmN 220).slots by decide)⟩ (Nat.le_of_ble_eq_true rfl) (fun vv s1004 hq => ?_) (fun ee s1004 hq => ?_))))
        rotate_left
        · obtain ⟨rfl, e1005, hv, hrs1004, hps1004⟩ := hq; cases hv
        obtain ⟨rfl, e1005, hv, hrs1004, hps1004⟩ := hq
        cases hv
        show WS k 33 [(0, .ref (A 179)), (1, .int (Int32.ofInt xv)), (2, .int (Int32.ofInt yv)), (3, .int (Int32.ofInt nv)), (4, .int (Int32.ofInt c))] [.int (Int32.ofInt e1005)] (Wd A dT t) 0 0
        refine z_if_eq X (t := 59) rfl rfl hrs1004 (fun g1006 => ?_) (fun g1006 => ?_)
        ·
          refine z_inc X (x := c) (lv' := [(4, .int (Int32.ofInt (c + 1))), (0, .ref (A 179)), (1, .int (Int32.ofInt xv)), (2, .int (Int32.ofInt yv)), (3, .int (Int32.ofInt nv))]) rfl (by decide) (List.Mem.tail _ (List.Mem.tail _ (List.Mem.tail _ (List.Mem.tail _ (List.Mem.head _))))) (fun _ h => h) (z_goto X (t := 12) rfl rfl (WS_pq [1, 2, 3, 4, 0] (lv' := [(0, .ref (A 179)), (1, .int (Int32.ofInt xv)), (2, .int (Int32.ofInt yv)), (3, .int (Int32.ofInt nv)), (4, .int (Int32.ofInt (c + 1)))]) rfl ?_))
          exact ih _ xv yv nv (c + 1) I F (by first | exact mx_to hq (fun k _ _ _ => by first | (clear hps1004; omega) | omega) | exact mx_up (v := (iC t (190 + xv.toNat) c.toNat)) hq (by rw [show xv = x by first | (clear hps1004; omega) | omega]; exact fm_c F List.not_mem_nil) (by first | (clear hps1004; omega) | omega) (by first | (clear hps1004; omega) | omega) (by first | (clear hps1004; omega) | omega) (by first | (clear hps1004; omega) | omega) (by first | (clear hps1004; omega) | omega) (by first | (clear hps1004; omega) | omega)) (by first | exact ⟨And.intro (hx9) (hi.1.2), And.intro (hi.2.1.1) (hi.2.1.2), And.intro (hi.2.2.1.1) (hi.2.2.1.2), And.intro (hi.2.2.2.1.1) (hi.2.2.2.1.2), oq_826c3458 hi.2.2.2.2.1, oq_78fc2d48 g1003 hi.2.2.1.2 b1001.2, oq_e1c0d1f5 hi.2.2.2.2.2.2.1, oq_e9f60b4d hi.1.2 hE9 ar1002 g1003⟩ | omega) (by first | exact qk_me hm (by decide) (oq_5c7f6a1c g1003 hi.2.2.1.2 b1001.2) | omega) kx
        ·
          refine z_aload_n X (x := A 179) rfl (List.Mem.head _) (s_getR X 179 rfl (c518_ok rfl) rfl rfl (z_load_n X (x := xv) rfl (List.Mem.tail _ (List.Mem.head _)) (z_aald X rw_215 rfl (by first | exact hi.2.1.1 | omega) (show xv < 12 by first | exact oq_0ddfcfee hi.2.1.2 | omega) (by decide) (z_load X (x := c) rfl (List.Mem.tail _ (List.Mem.tail _ (List.Mem.tail _ (List.Mem.tail _ (List.Mem.head _))))) (z_ald2 X rw_215 rfl (show (xv : Int).toNat < 12 by first | exact oq_9c5fa447 hi.2.1.2 | omega) (by first | exact oq_0159bb48 g1006 hps1004 | omega) (show c < 24 by first | exact oq_127752ee g1006 hps1004 | omega) (by decide) ?_)))))
          have b1007 : (0 : Int) ≤ (iC t (190 + (xv : Int).toNat) (c : Int).toNat) ∧ (iC t (190 + (xv : Int).toNat) (c : Int).toNat) ≤ 50 := rw_bd rw_215 I (show (xv : Int).toNat < 12 by first | exact oq_9c5fa447 hi.2.1.2 | omega) (show (c : Int).toNat < 24 by first | exact oq_200d9360 g1006 hps1004 | omega)
          refine z_load_n X (x := nv) rfl (List.Mem.tail _ (List.Mem.tail _ (List.Mem.tail _ (List.Mem.head _)))) (z_icmp_le X (t := 59) rfl rfl (rng_to _) ⟨by first | exact oq_fa4e5087 hi.2.2.2.1.1 | omega, by first | exact oq_cbe526b3 hi.2.2.2.1.2 | omega⟩ (fun g1008 => ?_) (fun g1008 => ?_))
          ·
            refine z_inc X (x := c) (lv' := [(4, .int (Int32.ofInt (c + 1))), (0, .ref (A 179)), (1, .int (Int32.ofInt xv)), (2, .int (Int32.ofInt yv)), (3, .int (Int32.ofInt nv))]) rfl (by decide) (List.Mem.tail _ (List.Mem.tail _ (List.Mem.tail _ (List.Mem.tail _ (List.Mem.head _))))) (fun _ h => h) (z_goto X (t := 12) rfl rfl (WS_pq [1, 2, 3, 4, 0] (lv' := [(0, .ref (A 179)), (1, .int (Int32.ofInt xv)), (2, .int (Int32.ofInt yv)), (3, .int (Int32.ofInt nv)), (4, .int (Int32.ofInt (c + 1)))]) rfl ?_))
            exact ih _ xv yv nv (c + 1) I F (by first | exact mx_to hq (fun k _ _ _ => by first | (clear g1006 hps1004; omega) | (clear hps1004; omega) | omega) | exact mx_up (v := (iC t (190 + xv.toNat) c.toNat)) hq (by rw [show xv = x by first | (clear g1006 hps1004; omega) | (clear hps1004; omega) | omega]; exact fm_c F List.not_mem_nil) (by first | (clear g1006 hps1004; omega) | (clear hps1004; omega) | omega) (by first | (clear g1006 hps1004; omega) | (clear hps1004; omega) | omega) (by first | (clear g1006 hps1004; omega) | (clear hps1004; omega) | omega) (by first | (clear g1006 hps1004; omega) | (clear hps1004; omega) | omega) (by first | (clear g1006 hps1004; omega) | (clear hps1004; omega) | omega) (by first | (clear g1006 hps1004; omega) | (clear hps1004; omega) | omega)) (by first | exact ⟨And.intro (hx9) (hi.1.2), And.intro (hi.2.1.1) (hi.2.1.2), And.intro (hi.2.2.1.1) (hi.2.2.1.2), And.intro (hi.2.2.2.1.1) (hi.2.2.2.1.2), oq_826c3458 hi.2.2.2.2.1, oq_78fc2d48 g1003 hi.2.2.1.2 b1001.2, oq_e1c0d1f5 hi.2.2.2.2.2.2.1, oq_e9f60b4d hi.1.2 hE9 ar1002 g1003⟩ | omega) (by first | exact qk_me hm (by decide) (oq_5c7f6a1c g1003 hi.2.2.1.2 b1001.2) | omega) kx
          ·
            refine z_aload_n X (x := A 179) rfl (List.Mem.head _) (s_getR X 179 rfl (c518_ok rfl) rfl rfl (z_load_n X (x := xv) rfl (List.Mem.tail _ (List.Mem.head _)) (z_aald X rw_215 rfl (by first | exact hi.2.1.1 | omega) (show xv < 12 by first | exact oq_0ddfcfee hi.2.1.2 | omega) (by decide) (z_load X (x := c) rfl (List.Mem.tail _ (List.Mem.tail _ (List.Mem.tail _ (List.Mem.tail _ (List.Mem.head _))))) (z_ald2 X rw_215 rfl (show (xv : Int).toNat < 12 by first | exact oq_9c5fa447 hi.2.1.2 | omega) (by first | exact oq_0159bb48 g1006 hps1004 | omega) (show c < 24 by first | exact oq_127752ee g1006 hps1004 | omega) (by decide) ?_)))))
            have b1009 : (0 : Int) ≤ (iC t (190 + (xv : Int).toNat) (c : Int).toNat) ∧ (iC t (190 + (xv : Int).toNat) (c : Int).toNat) ≤ 50 := rw_bd rw_215 I (show (xv : Int).toNat < 12 by first | exact oq_9c5fa447 hi.2.1.2 | omega) (show (c : Int).toNat < 24 by first | exact oq_200d9360 g1006 hps1004 | omega)
            refine z_store_n X (lv' := [(3, .int (Int32.ofInt (iC t (190 + (xv : Int).toNat) (c : Int).toNat))), (0, .ref (A 179)), (1, .int (Int32.ofInt xv)), (2, .int (Int32.ofInt yv)), (4, .int (Int32.ofInt c))]) rfl (by decide) (fun _ h => h) (z_inc X (x := c) (lv' := [(4, .int (Int32.ofInt (c + 1))), (3, .int (Int32.ofInt (iC t (190 + (xv : Int).toNat) (c : Int).toNat))), (0, .ref (A 179)), (1, .int (Int32.ofInt xv)), (2, .int (Int32.ofInt yv))]) rfl (by decide) (List.Mem.tail _ (List.Mem.tail _ (List.Mem.tail _ (List.Mem.tail _ (List.Mem.head _))))) (fun _ h => h) (z_goto X (t := 12) rfl rfl (WS_pq [2, 3, 4, 1, 0] (lv' := [(0, .ref (A 179)), (1, .int (Int32.ofInt xv)), (2, .int (Int32.ofInt yv)), (3, .int (Int32.ofInt (iC t (190 + (xv : Int).toNat) (c : Int).toNat))), (4, .int (Int32.ofInt (c + 1)))]) rfl ?_)))
            exact ih _ xv yv (iC t (190 + (xv : Int).toNat) (c : Int).toNat) (c + 1) I F (mx_up (v := (iC t (190 + xv.toNat) c.toNat)) hq (by rw [show xv = x by first | (clear g1006 hps1004; omega) | (clear hps1004; omega) | omega]; exact fm_c F List.not_mem_nil) (by first | (clear g1006 hps1004; omega) | (clear hps1004; omega) | omega) (by first | (clear g1006 hps1004; omega) | (clear hps1004; omega) | omega) (by first | (clear g1006 hps1004; omega) | (clear hps1004; omega) | omega) (by first | (clear g1006 hps1004; omega) | (clear hps1004; omega) | omega) (by first | (clear g1006 hps1004; omega) | (clear hps1004; omega) | omega) (by first | (clear g1006 hps1004; omega) | (clear hps1004; omega) | omega)) (by first | exact ⟨And.intro (hx9) (hi.1.2), And.intro (hi.2.1.1) (hi.2.1.2), And.intro (hi.2.2.1.1) (hi.2.2.1.2), And.intro (b1009.1) (b1009.2), oq_826c3458 hi.2.2.2.2.1, oq_78fc2d48 g1003 hi.2.2.1.2 b1001.2, oq_e1c0d1f5 hi.2.2.2.2.2.2.1, oq_e9f60b4d hi.1.2 hE9 ar1002 g1003⟩ | omega) (by first | exact qk_me hm (by decide) (oq_5c7f6a1c g1003 hi.2.2.1.2 b1001.2) | omega) kx
  refine z_const X rfl (z_store_n X (lv' := [(3, .int (Int32.ofInt 0)), (0, .ref (A 179)), (1, .int (Int32.ofInt x)), (2, .int (Int32.ofInt y))]) rfl (by decide) (fun _ h => h) (z_load_n X (x := y) rfl (List.Mem.tail _ (List.Mem.tail _ (List.Mem.tail _ (List.Mem.head _)))) (z_aload_n X (x := A 179) rfl (List.Mem.tail _ (List.Mem.head _)) (s_getR X 179 rfl (c518_ok rfl) rfl rfl (z_load_n X (x := x) rfl (List.Mem.tail _ (List.Mem.tail _ (List.Mem.head _))) (z_ald X 187 rfl (c518_ok rfl) rfl (by first | exact p0.1 | omega) (show x < 12 by first | exact oq_0ddfcfee p0.2 | omega) (cbig_ok rfl) ?_))))))
  have b1 := bc_164 I (show (x).toNat < 12 by first | exact oq_9c5fa447 p0.2 | omega)
  have ar2 : iC s 164 (x).toNat = iC s 164 (x).toNat := aw0_164 _
  refine z_sub X rfl (z_store X (lv' := [(4, .int (Int32.ofInt (y - (iC s 164 (x).toNat)))), (3, .int (Int32.ofInt 0)), (0, .ref (A 179)), (1, .int (Int32.ofInt x)), (2, .int (Int32.ofInt y))]) rfl (by decide) (fun _ h => h) (WS_pq [2, 3, 4, 1, 0] (lv' := [(0, .ref (A 179)), (1, .int (Int32.ofInt x)), (2, .int (Int32.ofInt y)), (3, .int (Int32.ofInt 0)), (4, .int (Int32.ofInt (y - (iC s 164 (x).toNat))))]) rfl (L12 ((26 - (y - (iC s 164 (x).toNat)) : Int).toNat + 1) s x y 0 (y - (iC s 164 (x).toNat)) I F (mx_0 (by omega)) (by first | exact ⟨And.intro (by decide) (by decide), And.intro (p0.1) (p0.2), And.intro (p1.1) (p1.2), And.intro (by decide) (by decide), oq_15fc5886 p1.1 b1.2, oq_0fb31b58 p1.2 b1.1, by decide, oq_b9ecc99b hb9.1 b1.1⟩ | omega) (Nat.lt_succ_self _) ?_)))
  intro s3 x4 x5 Is3 Fs3 Qs3 hs3
  refine z_load_n X (x := x4) rfl (List.Mem.tail _ (List.Mem.tail _ (List.Mem.tail _ (List.Mem.head _)))) ?_
  exact w_iret X.1 q hRt rfl (ax_d X (show cdA 220 66 = some (.ireturn, 1, 0, 0, 0) from rfl)) (Nat.zero_le _) (Nat.zero_le _) ⟨_, rfl, Is3, Fs3, x4, rfl, ⟨by first | exact oq_fa4e5087 hs3.1 | omega, by first | exact oq_cbe526b3 hs3.2 | omega⟩, ⟨by first | exact hs3.1 | omega, by first | exact hs3.2 | omega, Qs3⟩⟩
set_option maxRecDepth 4000 in
theorem k_most2 (G : GX l s0 D tys a0 dT) (I : Bd s) {x y : Int} (p0 : rng x) (p1 : rng y) : CT l s0 D A dT 221 (rmN 221) [.ref (A 179), .int (Int32.ofInt x), .int (Int32.ofInt y)] s (fun o t => Bd t ∧ Fm [73] [] s t ∧ ∃ e, o = .inl (some (.int (Int32.ofInt e))) ∧ rng e ∧ ((0 ≤ x ∧ x < iI s 90 ∧ 0 ≤ y ∧ y ≤ 23 ∧ iI t 73 = 0 ∧ MXG (CMR s x) (y - iC s 164 x.toNat) (y + iC s 163 x.toNat + 1) e) ∨ ((x < 0 ∨ iI s 90 ≤ x) ∧ iI t 73 = 1) ∨ (0 ≤ x ∧ x < iI s 90 ∧ (y < 0 ∨ 23 < y) ∧ iI t 73 = 2))) := by
  refine ct_of G (by decide) (Nat.le_of_ble_eq_true rfl) (fun k X E hRt hXt q => ?_)
  show WS k 0 [(0, .ref (A 179)), (1, .int (Int32.ofInt x)), (2, .int (Int32.ofInt y))] [] _ 0 0
  have F : Fm [73] [] s s := fm_rf _ _ s
  have b1 := bi_73 I
  have b2 := bi_90 I
  refine z_aload_n X (x := A 179) rfl (List.Mem.head _) (z_const X rfl (s_putI X 179 rfl (c518_ok rfl) rfl rfl (by decide) rfl rfl rfl (wd_gen (fun s3 hs3 => ?_))))
  have Is3 : Bd s3 := eqB hs3 (bd_I I (show (0 : Int) ≤ 0 ∧ 0 ≤ 3 by first | exact ⟨by decide, by decide⟩ | omega) (by decide))
  have Fs3 := eqF hs3 (fm_I F (inl_ok (a := 73) rfl))
  have vs3 : iI s3 73 = 0 := eqI hs3 (iI_u (by decide))
  have ws3_90 : iI s3 90 = iI s 90 := eqI hs3 rfl
  refine z_aload_n X (x := A 179) rfl (List.Mem.head _) (z_load_n X (x := x) rfl (List.Mem.tail _ (List.Mem.head _)) (z_const X rfl (z_aload_n X (x := A 179) rfl (List.Mem.head _) (z_getI X 179 rfl (c518_ok rfl) rfl rfl ?_))))
  have b4 := bi_90 Is3
  refine z_const X rfl (z_sub X rfl (z_callS X (rm := rmN 188) (As := [.int (Int32.ofInt x), .int (Int32.ofInt 0), .int (Int32.ofInt ((iI s3 90) - 1))]) (st := [.ref (A 179)]) rfl rfl (by rw [E.1, E.2.1, E.2.2.1]; exact k_in2 G Is3 (by first | exact ⟨p0.1, p0.2⟩ | omega) (by first | exact ⟨by decide, by decide⟩ | omega) (by first | exact ⟨oq_c1e961c7 b4.1, oq_d526ebd3 b4.2⟩ | omega)) ⟨by rw [E.2.2.2]; exact (show (rmN 188).frames + 1 ≤ (rmN 221).frames by decide), by rw [E.2.2.2]; exact (show 8 + (mNL (miB 188) + 11) + (rmN 188).locals ≤ (rmN 221).locals by decide), by rw [E.2.2.2]; exact (show 0 + (rmN 188).cells ≤ (rmN 221).cells by decide), by rw [E.2.2.2]; exact (show 0 + (rmN 188).slots ≤ (rmN 221).slots by decide)⟩ (Nat.le_of_ble_eq_true rfl) (fun vv s5 hq => ?_) (fun ee s5 hq => ?_)))
  rotate_left
  · obtain ⟨rfl, e6, hv, hrs5, hps5⟩ := hq; cases hv
  obtain ⟨rfl, e6, hv, hrs5, hps5⟩ := hq
  cases hv
  show WS k 17 [(0, .ref (A 179)), (1, .int (Int32.ofInt x)), (2, .int (Int32.ofInt y))] [.int (Int32.ofInt e6), .ref (A 179)] (Wd A dT s3) 0 0
  have N7 : ∀ e8 : Int, (((e6 ≠ 0) ∧ e8 = 0) ∨ ((e6 = 0) ∧ e8 = 1)) → WS k 25 [(0, .ref (A 179)), (1, .int (Int32.ofInt x)), (2, .int (Int32.ofInt y))] [.int (Int32.ofInt e8), .ref (A 179)] (Wd A dT s3) 0 0 := by
    intro e8 he8
    have re8 : 0 ≤ e8 ∧ e8 ≤ 1 := by first | (clear he8 hps5; omega) | (clear hps5; omega) | omega
    refine z_const X rfl (zcV_i0 X E 179 (As := [.int (Int32.ofInt e8), .int (Int32.ofInt 1)]) (st := []) rfl rfl rfl rfl (k_bad2 G Is3 (by first | exact oq_31e518ae re8.2 re8.1 | omega) (by first | exact ⟨by decide, by decide⟩ | omega)) rfl (Nat.le_of_ble_eq_true rfl) (fun s9 e10 Is9 Fs9 hrs9 hps9 => ?_))
    have Gs9 := fm_tq Fs3 Fs9 rfl rfl
    have b11 := bi_73 Is9
    have ws9_90 : iI s9 90 = iI s3 90 := fm_iq Fs9 rfl
    refine z_if_ne X (t := 55) rfl rfl hrs9 (fun g12 => ?_) (fun g12 => ?_)
    ·
      refine z_const X rfl ?_
      exact w_iret X.1 q hRt rfl (ax_d X (show cdA 221 56 = some (.ireturn, 1, 0, 0, 0) from rfl)) (Nat.zero_le _) (Nat.zero_le _) ⟨_, rfl, Is9, Gs9, 0, rfl, (by decide), Or.inr (by first | exact oq_5aec5af9 g12 hps9 he8 hps5 ws3_90 vs3 | omega)⟩
    ·
      refine z_aload_n X (x := A 179) rfl (List.Mem.head _) (z_load_n X (x := y) rfl (List.Mem.tail _ (List.Mem.tail _ (List.Mem.head _))) (z_const X rfl (z_bipush X rfl (z_callS X (rm := rmN 188) (As := [.int (Int32.ofInt y), .int (Int32.ofInt 0), .int (Int32.ofInt 23)]) (st := [.ref (A 179)]) rfl rfl (by rw [E.1, E.2.1, E.2.2.1]; exact k_in2 G Is9 (by first | exact ⟨p1.1, p1.2⟩ | omega) (by first | exact ⟨by decide, by decide⟩ | omega) (by first | exact ⟨by decide, by decide⟩ | omega)) ⟨by rw [E.2.2.2]; exact (show (rmN 188).frames + 1 ≤ (rmN 221).frames by decide), by rw [E.2.2.2]; exact (show 8 + (mNL (miB 188) + 11) + (rmN 188).locals ≤ (rmN 221).locals by decide), by rw [E.2.2.2]; exact (show 0 + (rmN 188).cells ≤ (rmN 221).cells by decide), by rw [E.2.2.2]; exact (show 0 + (rmN 188).slots ≤ (rmN 221).slots by decide)⟩ (Nat.le_of_ble_eq_true rfl) (fun vv s13 hq => ?_) (fun ee s13 hq => ?_)))))
      rotate_left
      · obtain ⟨rfl, e14, hv, hrs13, hps13⟩ := hq; cases hv
      obtain ⟨rfl, e14, hv, hrs13, hps13⟩ := hq
      cases hv
      show WS k 40 [(0, .ref (A 179)), (1, .int (Int32.ofInt x)), (2, .int (Int32.ofInt y))] [.int (Int32.ofInt e14), .ref (A 179)] (Wd A dT s9) 0 0
      have N15 : ∀ e16 : Int, (((e14 ≠ 0) ∧ e16 = 0) ∨ ((e14 = 0) ∧ e16 = 1)) → WS k 48 [(0, .ref (A 179)), (1, .int (Int32.ofInt x)), (2, .int (Int32.ofInt y))] [.int (Int32.ofInt e16), .ref (A 179)] (Wd A dT s9) 0 0 := by
        intro e16 he16
        have re16 : 0 ≤ e16 ∧ e16 ≤ 1 := by first | (clear he16 hps13 hps9 he8 hps5; omega) | (clear hps13 hps9 he8 hps5; omega) | omega
        refine z_const X rfl (zcV_i0 X E 179 (As := [.int (Int32.ofInt e16), .int (Int32.ofInt 2)]) (st := []) rfl rfl rfl rfl (k_bad2 G Is9 (by first | exact oq_31e518ae re16.2 re16.1 | omega) (by first | exact ⟨by decide, by decide⟩ | omega)) rfl (Nat.le_of_ble_eq_true rfl) (fun s17 e18 Is17 Fs17 hrs17 hps17 => ?_))
        have Gs17 := fm_tq Gs9 Fs17 rfl rfl
        have b19 := bi_73 Is17
        have ws17_90 : iI s17 90 = iI s9 90 := fm_iq Fs17 rfl
        refine z_if_eq X (t := 57) rfl rfl hrs17 (fun g20 => ?_) (fun g20 => ?_)
        ·
          refine z_aload_n X (x := A 179) rfl (List.Mem.head _) (z_load_n X (x := x) rfl (List.Mem.tail _ (List.Mem.head _)) (z_load_n X (x := y) rfl (List.Mem.tail _ (List.Mem.tail _ (List.Mem.head _))) (zcV_i0 X E 179 (As := [.int (Int32.ofInt x), .int (Int32.ofInt y)]) (st := []) rfl rfl rfl rfl (k_mostOf2 G Is17 (by first | exact ⟨oq_b1e4434e g12 hps9 he8 hps5 vs3, oq_b4c3a517 g12 hps9 he8 hps5 b4.2 vs3⟩ | omega) (by first | exact ⟨oq_7a13fe08 g20 hps17 he16 hps13 g12 b11.1 hps9 vs3, oq_2366bc3c g20 hps17 he16 hps13 g12 b11.1 hps9 vs3⟩ | omega)) rfl (Nat.le_of_ble_eq_true rfl) (fun s21 e22 Is21 Fs21 hrs21 hps21 => ?_))))
          have Gs21 := fm_tq Gs17 Fs21 rfl rfl
          have ws21_73 : iI s21 73 = iI s17 73 := fm_iq Fs21 rfl
          have ws21_90 : iI s21 90 = iI s17 90 := fm_iq Fs21 rfl
          exact w_iret X.1 q hRt rfl (ax_d X (show cdA 221 63 = some (.ireturn, 1, 0, 0, 0) from rfl)) (Nat.zero_le _) (Nat.zero_le _) ⟨_, rfl, Is21, Gs21, e22, rfl, hrs21, Or.inl ⟨by first | exact oq_b1e4434e g12 hps9 he8 hps5 vs3 | omega, by first | exact oq_96bc3da2 g12 hps9 he8 hps5 ws3_90 vs3 | omega, by first | exact oq_7a13fe08 g20 hps17 he16 hps13 g12 b11.1 hps9 vs3 | omega, by first | exact oq_2366bc3c g20 hps17 he16 hps13 g12 b11.1 hps9 vs3 | omega, by first | exact oq_24676001 ws21_73 g20 b19.1 hps17 g12 hps9 vs3 | omega, mxm_st hps21.2.2 (fun j hj => fm_c Gs17 List.not_mem_nil) (sam_fm Gs17 (by decide)) (sam_fm Gs17 (by decide)) (by first | (clear hps17 he16 hps13 hps9 he8 hps5; omega) | (clear he16 hps13 hps9 he8 hps5; omega) | omega) (by first | (clear hps17 he16 hps13 hps9 he8 hps5; omega) | (clear he16 hps13 hps9 he8 hps5; omega) | omega)⟩⟩
        ·
          refine z_const X rfl ?_
          exact w_iret X.1 q hRt rfl (ax_d X (show cdA 221 56 = some (.ireturn, 1, 0, 0, 0) from rfl)) (Nat.zero_le _) (Nat.zero_le _) ⟨_, rfl, Is17, Gs17, 0, rfl, (by decide), Or.inr (by first | exact oq_c73d7b31 g20 hps17 he16 hps13 g12 b11.1 hps9 he8 hps5 ws3_90 vs3 | omega)⟩
      refine z_if_ne X (t := 47) rfl rfl hrs13 (fun g23 => ?_) (fun g23 => ?_)
      ·
        exact z_const X rfl (N15 _ (Or.inl ⟨g23, rfl⟩))
      ·
        exact z_const X rfl (z_goto X (t := 48) rfl rfl (N15 _ (Or.inr (⟨g23, rfl⟩))))
  refine z_if_ne X (t := 24) rfl rfl hrs5 (fun g24 => ?_) (fun g24 => ?_)
  ·
    exact z_const X rfl (N7 _ (Or.inl ⟨g24, rfl⟩))
  ·
    exact z_const X rfl (z_goto X (t := 25) rfl rfl (N7 _ (Or.inr (⟨g24, rfl⟩))))
set_option maxRecDepth 4000 in
theorem k_flow3 (G : GX l s0 D tys a0 dT) (I : Bd s) {x y z w : Int} (p0 : rng x) (p1 : rng y) (p2 : rng z) (p3 : rng w) : CT l s0 D A dT 218 (rmN 218) [.ref (A 179), .int (Int32.ofInt x), .int (Int32.ofInt y), .int (Int32.ofInt z), .int (Int32.ofInt w)] s (fun o t => Bd t ∧ Fm [73] [190, 191, 192, 193, 194, 195, 196, 197, 198, 199, 200, 201] s t ∧ o = .inl none ∧ ((0 ≤ x ∧ x < iI s 90 ∧ 0 ≤ y ∧ y ≤ 23 ∧ 0 ≤ z ∧ z ≤ 23 ∧ y ≤ z ∧ 0 ≤ w ∧ w ≤ 50 ∧ iI t 73 = 0 ∧ FLU (CMR s) (CMR t) x y (z + 1) w) ∨ ((x < 0 ∨ iI s 90 ≤ x) ∧ iI t 73 = 1 ∧ SMR s t) ∨ (0 ≤ x ∧ x < iI s 90 ∧ (y < 0 ∨ 23 < y ∨ z < 0 ∨ 23 < z ∨ z < y ∨ w < 0 ∨ 50 < w) ∧ iI t 73 = 2 ∧ SMR s t))) := by
  refine ct_of G (by decide) (Nat.le_of_ble_eq_true rfl) (fun k X E hRt hXt q => ?_)
  show WS k 0 [(0, .ref (A 179)), (1, .int (Int32.ofInt x)), (2, .int (Int32.ofInt y)), (3, .int (Int32.ofInt z)), (4, .int (Int32.ofInt w))] [] _ 0 0
  have F : Fm [73] [190, 191, 192, 193, 194, 195, 196, 197, 198, 199, 200, 201] s s := fm_rf _ _ s
  have aw0_SMR : SMR s s := smr_rf
  have b1 := bi_73 I
  have b2 := bi_90 I
  have L85 : ∀ (n : Nat) (t : PS) (xv zv wv c : Int), Bd t → Fm [73] [190, 191, 192, 193, 194, 195, 196, 197, 198, 199, 200, 201] s t → (FLU (CMR s) (CMR t) x y c w) → (y ≤ z ∧ (xv = x ∧ zv = z ∧ wv = w ∧ y ≤ c ∧ c ≤ z + 1 ∧ 0 ≤ x ∧ x < iI s 90 ∧ 0 ≤ y ∧ iI t 90 = iI s 90) ∧ (0 ≤ xv ∧ xv ≤ 11) ∧ (0 ≤ zv ∧ zv ≤ 23) ∧ (0 ≤ wv ∧ wv ≤ 50) ∧ 0 ≤ c ∧ c ≤ 24 ∧ iI t 73 = 0) → (24 - c : Int).toNat < n → (∀ (t' : PS) (c' : Int), Bd t' → Fm [73] [190, 191, 192, 193, 194, 195, 196, 197, 198, 199, 200, 201] s t' → (FLU (CMR s) (CMR t') x y (z + 1) w) → ((c' = z + 1 ∧ 0 ≤ x ∧ x < iI s 90 ∧ 0 ≤ y ∧ y ≤ z ∧ z ≤ 23 ∧ 0 ≤ w ∧ w ≤ 50) ∧ iI t' 73 = 0) → WS k 108 [(0, .ref (A 179)), (1, .int (Int32.ofInt xv)), (3, .int (Int32.ofInt zv)), (4, .int (Int32.ofInt wv)), (5, .int (Int32.ofInt c'))] [] (Wd A dT t') 0 0) → WS k 85 [(0, .ref (A 179)), (1, .int (Int32.ofInt xv)), (3, .int (Int32.ofInt zv)), (4, .int (Int32.ofInt wv)), (5, .int (Int32.ofInt c))] [] (Wd A dT t) 0 0 := by
    intro n
    induction n with
    | zero =>
      intro t xv zv wv c I F hq hi hm kx
      exact absurd hm (Nat.not_lt_zero _)
    | succ n ih =>
      intro t xv zv wv c I F hq hi hm kx
      have b1001 := bi_73 I
      have b1002 := bi_90 I
      refine z_load X (x := c) rfl (List.Mem.tail _ (List.Mem.tail _ (List.Mem.tail _ (List.Mem.tail _ (List.Mem.head _))))) (z_load_n X (x := zv) rfl (List.Mem.tail _ (List.Mem.tail _ (List.Mem.head _))) (z_icmp_gt X (t := 108) rfl rfl ⟨by first | exact oq_fa4e5087 hi.2.2.2.2.2.1 | omega, by first | exact oq_5bcd337f hi.2.2.2.2.2.2.1 | omega⟩ ⟨by first | exact oq_fa4e5087 hi.2.2.2.1.1 | omega, by first | exact oq_1a42ef34 hi.2.2.2.1.2 | omega⟩ (fun g1003 => ?_) (fun g1003 => ?_)))
      ·
        refine WS_pq [0, 1, 2, 3, 4] (lv' := [(0, .ref (A 179)), (1, .int (Int32.ofInt xv)), (3, .int (Int32.ofInt zv)), (4, .int (Int32.ofInt wv)), (5, .int (Int32.ofInt c))]) rfl ?_
        exact kx _ c I F (by rw [show z + 1 = c by omega]; exact hq) (by first | exact ⟨And.intro (oq_4ab5b7c2 hi.2.1.2.2.2.2.1 hi.2.1.2.1 g1003) (And.intro (hi.2.1.2.2.2.2.2.1) (And.intro (hi.2.1.2.2.2.2.2.2.1) (And.intro (hi.2.1.2.2.2.2.2.2.2.1) (And.intro (hi.1) (And.intro (oq_72ff5d19 hi.2.1.2.1 hi.2.2.2.1.2) (And.intro (oq_151a919a hi.2.1.2.2.1 hi.2.2.2.2.1.1) (oq_445e9ec3 hi.2.1.2.2.1 hi.2.2.2.2.1.2))))))), hi.2.2.2.2.2.2.2⟩ | omega)
      ·
        refine z_aload_n X (x := A 179) rfl (List.Mem.head _) (s_getR X 179 rfl (c518_ok rfl) rfl rfl (z_load_n X (x := xv) rfl (List.Mem.tail _ (List.Mem.head _)) (z_aald X rw_215 rfl (by first | exact hi.2.2.1.1 | omega) (show xv < 12 by first | exact oq_0ddfcfee hi.2.2.1.2 | omega) (by decide) (z_load X (x := c) rfl (List.Mem.tail _ (List.Mem.tail _ (List.Mem.tail _ (List.Mem.tail _ (List.Mem.head _))))) (z_load X (x := wv) rfl (List.Mem.tail _ (List.Mem.tail _ (List.Mem.tail _ (List.Mem.head _)))) (z_ast2 X rw_215 rfl (show (xv : Int).toNat < 12 by first | exact oq_9c5fa447 hi.2.2.1.2 | omega) (by first | exact hi.2.2.2.2.2.1 | omega) (show c < 24 by first | exact oq_c5e79f47 g1003 hi.2.2.2.1.2 | omega) (by decide) (wd_gen (fun s1004 hs1004 => ?_))))))))
        have Is1004 : Bd s1004 := eqB hs1004 (rw_st rw_215 I (show (xv : Int).toNat < 12 by first | exact oq_9c5fa447 hi.2.2.1.2 | omega) (show (0 : Int) ≤ wv ∧ wv ≤ 50 by first | exact ⟨hi.2.2.2.2.1.1, hi.2.2.2.2.1.2⟩ | omega) ⟨by first | exact oq_fa4e5087 hi.2.2.2.2.1.1 | omega, by first | exact oq_cbe526b3 hi.2.2.2.2.1.2 | omega⟩)
        have Fs1004 := eqF hs1004 (fm_C (i := (c : Int).toNat) (x := Int32.ofInt wv) F ((show ∀ j, j < 12 → 190 + j ∈ _ by decide) (xv : Int).toNat (by first | exact oq_9c5fa447 hi.2.2.1.2 | omega)))
        have ws1004_73 : iI s1004 73 = iI t 73 := eqI hs1004 rfl
        have ws1004_90 : iI s1004 90 = iI t 90 := eqI hs1004 rfl
        refine z_inc X (x := c) (lv' := [(5, .int (Int32.ofInt (c + 1))), (0, .ref (A 179)), (1, .int (Int32.ofInt xv)), (3, .int (Int32.ofInt zv)), (4, .int (Int32.ofInt wv))]) rfl (by decide) (List.Mem.tail _ (List.Mem.tail _ (List.Mem.tail _ (List.Mem.tail _ (List.Mem.head _))))) (fun _ h => h) (z_goto X (t := 85) rfl rfl (WS_pq [1, 2, 3, 4, 0] (lv' := [(0, .ref (A 179)), (1, .int (Int32.ofInt xv)), (3, .int (Int32.ofInt zv)), (4, .int (Int32.ofInt wv)), (5, .int (Int32.ofInt (c + 1)))]) rfl ?_))
        exact ih _ xv zv wv (c + 1) Is1004 Fs1004 (by rw [hs1004]; exact flu_up hq (by omega) (by rw [show xv = x by omega, show wv = w by omega]; exact cmr_put ⟨by omega, by omega⟩ (by omega) (by omega) (by omega) (by omega))) (by first | exact ⟨hi.1, And.intro (hi.2.1.1) (And.intro (hi.2.1.2.1) (And.intro (hi.2.1.2.2.1) (And.intro (oq_03182e9e hi.2.1.2.2.2.1) (And.intro (oq_667557f6 g1003 hi.2.1.2.1) (And.intro (hi.2.1.2.2.2.2.2.1) (And.intro (hi.2.1.2.2.2.2.2.2.1) (And.intro (hi.2.1.2.2.2.2.2.2.2.1) (oq_1aa5be9e ws1004_90 hi.2.1.2.2.2.2.2.2.2.2)))))))), And.intro (hi.2.2.1.1) (hi.2.2.1.2), And.intro (hi.2.2.2.1.1) (hi.2.2.2.1.2), And.intro (hi.2.2.2.2.1.1) (hi.2.2.2.2.1.2), oq_54f49eb5 hi.2.2.2.2.2.1, oq_3f5436dc g1003 hi.2.2.2.1.2, oq_333640b7 ws1004_73 hi.2.2.2.2.2.2.2 b1001.1⟩ | omega) (by first | exact qk_me hm (by decide) (oq_416f5e90 g1003 hi.2.2.2.1.2) | omega) kx
  refine z_aload_n X (x := A 179) rfl (List.Mem.head _) (z_const X rfl (s_putI X 179 rfl (c518_ok rfl) rfl rfl (by decide) rfl rfl rfl (wd_gen (fun s3 hs3 => ?_))))
  have Is3 : Bd s3 := eqB hs3 (bd_I I (show (0 : Int) ≤ 0 ∧ 0 ≤ 3 by first | exact ⟨by decide, by decide⟩ | omega) (by decide))
  have Fs3 := eqF hs3 (fm_I F (inl_ok (a := 73) rfl))
  have vs3 : iI s3 73 = 0 := eqI hs3 (iI_u (by decide))
  have ws3_90 : iI s3 90 = iI s 90 := eqI hs3 rfl
  have aws3_SMR : SMR s s3 := by rw [hs3]; exact aw0_SMR
  refine z_aload_n X (x := A 179) rfl (List.Mem.head _) (z_load_n X (x := x) rfl (List.Mem.tail _ (List.Mem.head _)) (z_const X rfl (z_aload_n X (x := A 179) rfl (List.Mem.head _) (z_getI X 179 rfl (c518_ok rfl) rfl rfl ?_))))
  have b4 := bi_90 Is3
  refine z_const X rfl (z_sub X rfl (z_callS X (rm := rmN 188) (As := [.int (Int32.ofInt x), .int (Int32.ofInt 0), .int (Int32.ofInt ((iI s3 90) - 1))]) (st := [.ref (A 179)]) rfl rfl (by rw [E.1, E.2.1, E.2.2.1]; exact k_in2 G Is3 (by first | exact ⟨p0.1, p0.2⟩ | omega) (by first | exact ⟨by decide, by decide⟩ | omega) (by first | exact ⟨oq_c1e961c7 b4.1, oq_d526ebd3 b4.2⟩ | omega)) ⟨by rw [E.2.2.2]; exact (show (rmN 188).frames + 1 ≤ (rmN 218).frames by decide), by rw [E.2.2.2]; exact (show 8 + (mNL (miB 188) + 11) + (rmN 188).locals ≤ (rmN 218).locals by decide), by rw [E.2.2.2]; exact (show 0 + (rmN 188).cells ≤ (rmN 218).cells by decide), by rw [E.2.2.2]; exact (show 0 + (rmN 188).slots ≤ (rmN 218).slots by decide)⟩ (Nat.le_of_ble_eq_true rfl) (fun vv s5 hq => ?_) (fun ee s5 hq => ?_)))
  rotate_left
  · obtain ⟨rfl, e6, hv, hrs5, hps5⟩ := hq; cases hv
  obtain ⟨rfl, e6, hv, hrs5, hps5⟩ := hq
  cases hv
  show WS k 17 [(0, .ref (A 179)), (1, .int (Int32.ofInt x)), (2, .int (Int32.ofInt y)), (3, .int (Int32.ofInt z)), (4, .int (Int32.ofInt w))] [.int (Int32.ofInt e6), .ref (A 179)] (Wd A dT s3) 0 0
  have N7 : ∀ e8 : Int, (((e6 ≠ 0) ∧ e8 = 0) ∨ ((e6 = 0) ∧ e8 = 1)) → WS k 25 [(0, .ref (A 179)), (1, .int (Int32.ofInt x)), (2, .int (Int32.ofInt y)), (3, .int (Int32.ofInt z)), (4, .int (Int32.ofInt w))] [.int (Int32.ofInt e8), .ref (A 179)] (Wd A dT s3) 0 0 := by
    intro e8 he8
    have re8 : 0 ≤ e8 ∧ e8 ≤ 1 := by first | (clear he8 hps5; omega) | (clear hps5; omega) | omega
    refine z_const X rfl (zcV_i0 X E 179 (As := [.int (Int32.ofInt e8), .int (Int32.ofInt 1)]) (st := []) rfl rfl rfl rfl (k_bad2 G Is3 (by first | exact oq_31e518ae re8.2 re8.1 | omega) (by first | exact ⟨by decide, by decide⟩ | omega)) rfl (Nat.le_of_ble_eq_true rfl) (fun s9 e10 Is9 Fs9 hrs9 hps9 => ?_))
    have Gs9 := fm_tq Fs3 Fs9 rfl rfl
    have b11 := bi_73 Is9
    have ws9_90 : iI s9 90 = iI s3 90 := fm_iq Fs9 rfl
    have aws9_SMR : SMR s s9 := smr_ts aws3_SMR (smr_fm Fs9 (by decide))
    refine z_if_ne X (t := 81) rfl rfl hrs9 (fun g12 => ?_) (fun g12 => ?_)
    ·
      exact w_vret X.1 q hRt (ax_d X (show cdA 218 81 = some (.return_, 1, 0, 0, 0) from rfl)) (Nat.zero_le _) (Nat.zero_le _) ⟨_, rfl, Is9, Gs9, rfl, Or.inr (by first | exact Or.inl ⟨by first | (clear g12 hps9 he8 hps5; omega) | (clear hps9 he8 hps5; omega) | omega, by first | (clear g12 hps9 he8 hps5; omega) | (clear hps9 he8 hps5; omega) | omega, aws9_SMR⟩ | exact Or.inr ⟨by first | (clear g12 hps9 he8 hps5; omega) | (clear hps9 he8 hps5; omega) | omega, by first | (clear g12 hps9 he8 hps5; omega) | (clear hps9 he8 hps5; omega) | omega, by first | (clear g12 hps9 he8 hps5; omega) | (clear hps9 he8 hps5; omega) | omega, by first | (clear g12 hps9 he8 hps5; omega) | (clear hps9 he8 hps5; omega) | omega, aws9_SMR⟩)⟩
    ·
      refine z_aload_n X (x := A 179) rfl (List.Mem.head _) (z_load_n X (x := y) rfl (List.Mem.tail _ (List.Mem.tail _ (List.Mem.head _))) (z_const X rfl (z_bipush X rfl (z_callS X (rm := rmN 188) (As := [.int (Int32.ofInt y), .int (Int32.ofInt 0), .int (Int32.ofInt 23)]) (st := [.ref (A 179)]) rfl rfl (by rw [E.1, E.2.1, E.2.2.1]; exact k_in2 G Is9 (by first | exact ⟨p1.1, p1.2⟩ | omega) (by first | exact ⟨by decide, by decide⟩ | omega) (by first | exact ⟨by decide, by decide⟩ | omega)) ⟨by rw [E.2.2.2]; exact (show (rmN 188).frames + 1 ≤ (rmN 218).frames by decide), by rw [E.2.2.2]; exact (show 8 + (mNL (miB 188) + 11) + (rmN 188).locals ≤ (rmN 218).locals by decide), by rw [E.2.2.2]; exact (show 0 + (rmN 188).cells ≤ (rmN 218).cells by decide), by rw [E.2.2.2]; exact (show 0 + (rmN 188).slots ≤ (rmN 218).slots by decide)⟩ (Nat.le_of_ble_eq_true rfl) (fun vv s13 hq => ?_) (fun ee s13 hq => ?_)))))
      rotate_left
      · obtain ⟨rfl, e14, hv, hrs13, hps13⟩ := hq; cases hv
      obtain ⟨rfl, e14, hv, hrs13, hps13⟩ := hq
      cases hv
      show WS k 40 [(0, .ref (A 179)), (1, .int (Int32.ofInt x)), (2, .int (Int32.ofInt y)), (3, .int (Int32.ofInt z)), (4, .int (Int32.ofInt w))] [.int (Int32.ofInt e14), .ref (A 179)] (Wd A dT s9) 0 0
      refine z_if_eq X (t := 69) rfl rfl hrs13 (fun g15 => ?_) (fun g15 => ?_)
      ·
        refine z_const X rfl (z_goto X (t := 74) rfl rfl (z_const X rfl (zcV_i0 X E 179 (As := [.int (Int32.ofInt 1), .int (Int32.ofInt 2)]) (st := []) rfl rfl rfl rfl (k_bad2 G Is9 (by first | exact Or.inr (by decide) | omega) (by first | exact ⟨by decide, by decide⟩ | omega)) rfl (Nat.le_of_ble_eq_true rfl) (fun s16 e17 Is16 Fs16 hrs16 hps16 => ?_))))
        have Gs16 := fm_tq Gs9 Fs16 rfl rfl
        have b18 := bi_73 Is16
        have ws16_90 : iI s16 90 = iI s9 90 := fm_iq Fs16 rfl
        have aws16_SMR : SMR s s16 := smr_ts aws9_SMR (smr_fm Fs16 (by decide))
        refine z_if_eq X (t := 82) rfl rfl hrs16 (fun g19 => ?_) (fun g19 => ?_)
        ·
          refine z_load_n X (x := y) rfl (List.Mem.tail _ (List.Mem.tail _ (List.Mem.head _))) (z_store X (lv' := [(5, .int (Int32.ofInt y)), (0, .ref (A 179)), (1, .int (Int32.ofInt x)), (2, .int (Int32.ofInt y)), (3, .int (Int32.ofInt z)), (4, .int (Int32.ofInt w))]) rfl (by decide) (fun _ h => h) (WS_pq [1, 2, 4, 5, 0] (lv' := [(0, .ref (A 179)), (1, .int (Int32.ofInt x)), (3, .int (Int32.ofInt z)), (4, .int (Int32.ofInt w)), (5, .int (Int32.ofInt y))]) rfl (L85 ((24 - y : Int).toNat + 1) s16 x z w y Is16 Gs16 (flu_sm aws16_SMR) (by first | exact ⟨oq_af21c3a9 g19 hps16 g12 b11.1 hps9 vs3, oq_39cb83a2 g19 hps16 g12 b11.1 hps9 vs3, oq_076d59f2 g19 hps16 g12 b11.1 hps9 vs3, oq_351fca93 g19 hps16 g12 b11.1 hps9 vs3, oq_8e25c494 g19 hps16 g12 b11.1 hps9 vs3, oq_50a02c5b g19 hps16 g12 b11.1 hps9 vs3, oq_852de6cf g19 hps16 g12 b11.1 hps9 vs3, oq_0568af07 g19 b18.1 hps16 g12 hps9 vs3⟩ | omega) (Nat.lt_succ_self _) ?_)))
          intro s20 x21 Is20 Fs20 Qs20 hs20
          have b22 := bi_73 Is20
          have b23 := bi_90 Is20
          exact w_vret X.1 q hRt (ax_d X (show cdA 218 108 = some (.return_, 1, 0, 0, 0) from rfl)) (Nat.zero_le _) (Nat.zero_le _) ⟨_, rfl, Is20, Fs20, rfl, Or.inl ⟨by first | exact hs20.1.2.1 | omega, by first | exact hs20.1.2.2.1 | omega, by first | exact hs20.1.2.2.2.1 | omega, by first | exact oq_943835ba hs20.1.2.2.2.2.1 hs20.1.2.2.2.2.2.1 | omega, by first | exact oq_12a1f9e1 hs20.1.2.2.2.2.1 hs20.1.2.2.2.1 | omega, by first | exact hs20.1.2.2.2.2.2.1 | omega, by first | exact hs20.1.2.2.2.2.1 | omega, by first | exact hs20.1.2.2.2.2.2.2.1 | omega, by first | exact hs20.1.2.2.2.2.2.2.2 | omega, by first | exact hs20.2 | omega, Qs20⟩⟩
        ·
          exact w_vret X.1 q hRt (ax_d X (show cdA 218 81 = some (.return_, 1, 0, 0, 0) from rfl)) (Nat.zero_le _) (Nat.zero_le _) ⟨_, rfl, Is16, Gs16, rfl, Or.inr (by first | exact Or.inl ⟨by first | (clear g19 hps16 hps13 hps9 he8 hps5; omega) | (clear hps16 hps13 hps9 he8 hps5; omega) | omega, by first | (clear g19 hps16 hps13 hps9 he8 hps5; omega) | (clear hps16 hps13 hps9 he8 hps5; omega) | omega, aws16_SMR⟩ | exact Or.inr ⟨by first | (clear g19 hps16 hps13 hps9 he8 hps5; omega) | (clear hps16 hps13 hps9 he8 hps5; omega) | omega, by first | (clear g19 hps16 hps13 hps9 he8 hps5; omega) | (clear hps16 hps13 hps9 he8 hps5; omega) | omega, by first | (clear g19 hps16 hps13 hps9 he8 hps5; omega) | (clear hps16 hps13 hps9 he8 hps5; omega) | omega, by first | (clear g19 hps16 hps13 hps9 he8 hps5; omega) | (clear hps16 hps13 hps9 he8 hps5; omega) | omega, aws16_SMR⟩)⟩
      ·
        refine z_load_n X (x := z) rfl (List.Mem.tail _ (List.Mem.tail _ (List.Mem.tail _ (List.Mem.head _)))) (z_const X rfl (z_bipush X rfl (z_callS X (rm := rmN 188) (As := [.int (Int32.ofInt z), .int (Int32.ofInt 0), .int (Int32.ofInt 23)]) (st := [.ref (A 179)]) rfl rfl (by rw [E.1, E.2.1, E.2.2.1]; exact k_in2 G Is9 (by first | exact ⟨p2.1, p2.2⟩ | omega) (by first | exact ⟨by decide, by decide⟩ | omega) (by first | exact ⟨by decide, by decide⟩ | omega)) ⟨by rw [E.2.2.2]; exact (show (rmN 188).frames + 1 ≤ (rmN 218).frames by decide), by rw [E.2.2.2]; exact (show 8 + (mNL (miB 188) + 11) + (rmN 188).locals ≤ (rmN 218).locals by decide), by rw [E.2.2.2]; exact (show 0 + (rmN 188).cells ≤ (rmN 218).cells by decide), by rw [E.2.2.2]; exact (show 0 + (rmN 188).slots ≤ (rmN 218).slots by decide)⟩ (Nat.le_of_ble_eq_true rfl) (fun vv s24 hq => ?_) (fun ee s24 hq => ?_))))
        rotate_left
        · obtain ⟨rfl, e25, hv, hrs24, hps24⟩ := hq; cases hv
        obtain ⟨rfl, e25, hv, hrs24, hps24⟩ := hq
        cases hv
        show WS k 50 [(0, .ref (A 179)), (1, .int (Int32.ofInt x)), (2, .int (Int32.ofInt y)), (3, .int (Int32.ofInt z)), (4, .int (Int32.ofInt w))] [.int (Int32.ofInt e25), .ref (A 179)] (Wd A dT s9) 0 0
        refine z_if_eq X (t := 69) rfl rfl hrs24 (fun g26 => ?_) (fun g26 => ?_)
        ·
          refine z_const X rfl (z_goto X (t := 74) rfl rfl (z_const X rfl (zcV_i0 X E 179 (As := [.int (Int32.ofInt 1), .int (Int32.ofInt 2)]) (st := []) rfl rfl rfl rfl (k_bad2 G Is9 (by first | exact Or.inr (by decide) | omega) (by first | exact ⟨by decide, by decide⟩ | omega)) rfl (Nat.le_of_ble_eq_true rfl) (fun s27 e28 Is27 Fs27 hrs27 hps27 => ?_))))
          have Gs27 := fm_tq Gs9 Fs27 rfl rfl
          have b29 := bi_73 Is27
          have ws27_90 : iI s27 90 = iI s9 90 := fm_iq Fs27 rfl
          have aws27_SMR : SMR s s27 := smr_ts aws9_SMR (smr_fm Fs27 (by decide))
          refine z_if_eq X (t := 82) rfl rfl hrs27 (fun g30 => ?_) (fun g30 => ?_)
          ·
            refine z_load_n X (x := y) rfl (List.Mem.tail _ (List.Mem.tail _ (List.Mem.head _))) (z_store X (lv' := [(5, .int (Int32.ofInt y)), (0, .ref (A 179)), (1, .int (Int32.ofInt x)), (2, .int (Int32.ofInt y)), (3, .int (Int32.ofInt z)), (4, .int (Int32.ofInt w))]) rfl (by decide) (fun _ h => h) (WS_pq [1, 2, 4, 5, 0] (lv' := [(0, .ref (A 179)), (1, .int (Int32.ofInt x)), (3, .int (Int32.ofInt z)), (4, .int (Int32.ofInt w)), (5, .int (Int32.ofInt y))]) rfl (L85 ((24 - y : Int).toNat + 1) s27 x z w y Is27 Gs27 (flu_sm aws27_SMR) (by first | exact ⟨oq_af21c3a9 g30 hps27 g12 b11.1 hps9 vs3, oq_39cb83a2 g30 hps27 g12 b11.1 hps9 vs3, oq_076d59f2 g30 hps27 g12 b11.1 hps9 vs3, oq_351fca93 g30 hps27 g12 b11.1 hps9 vs3, oq_8e25c494 g30 hps27 g12 b11.1 hps9 vs3, oq_0159bb48 g15 hps13, oq_f518633a g15 hps13, oq_0568af07 g30 b29.1 hps27 g12 hps9 vs3⟩ | omega) (Nat.lt_succ_self _) ?_)))
            intro s31 x32 Is31 Fs31 Qs31 hs31
            have b33 := bi_73 Is31
            have b34 := bi_90 Is31
            exact w_vret X.1 q hRt (ax_d X (show cdA 218 108 = some (.return_, 1, 0, 0, 0) from rfl)) (Nat.zero_le _) (Nat.zero_le _) ⟨_, rfl, Is31, Fs31, rfl, Or.inl ⟨by first | exact hs31.1.2.1 | omega, by first | exact hs31.1.2.2.1 | omega, by first | exact hs31.1.2.2.2.1 | omega, by first | exact oq_943835ba hs31.1.2.2.2.2.1 hs31.1.2.2.2.2.2.1 | omega, by first | exact oq_12a1f9e1 hs31.1.2.2.2.2.1 hs31.1.2.2.2.1 | omega, by first | exact hs31.1.2.2.2.2.2.1 | omega, by first | exact hs31.1.2.2.2.2.1 | omega, by first | exact hs31.1.2.2.2.2.2.2.1 | omega, by first | exact hs31.1.2.2.2.2.2.2.2 | omega, by first | exact hs31.2 | omega, Qs31⟩⟩
          ·
            exact w_vret X.1 q hRt (ax_d X (show cdA 218 81 = some (.return_, 1, 0, 0, 0) from rfl)) (Nat.zero_le _) (Nat.zero_le _) ⟨_, rfl, Is27, Gs27, rfl, Or.inr (by first | exact Or.inl ⟨by first | (clear g30 hps27 hps24 g15 hps13 hps9 he8 hps5; omega) | (clear hps27 hps24 g15 hps13 hps9 he8 hps5; omega) | omega, by first | (clear g30 hps27 hps24 g15 hps13 hps9 he8 hps5; omega) | (clear hps27 hps24 g15 hps13 hps9 he8 hps5; omega) | omega, aws27_SMR⟩ | exact Or.inr ⟨by first | (clear g30 hps27 hps24 g15 hps13 hps9 he8 hps5; omega) | (clear hps27 hps24 g15 hps13 hps9 he8 hps5; omega) | omega, by first | (clear g30 hps27 hps24 g15 hps13 hps9 he8 hps5; omega) | (clear hps27 hps24 g15 hps13 hps9 he8 hps5; omega) | omega, by first | (clear g30 hps27 hps24 g15 hps13 hps9 he8 hps5; omega) | (clear hps27 hps24 g15 hps13 hps9 he8 hps5; omega) | omega, by first | (clear g30 hps27 hps24 g15 hps13 hps9 he8 hps5; omega) | (clear hps27 hps24 g15 hps13 hps9 he8 hps5; omega) | omega, aws27_SMR⟩)⟩
        ·
          refine z_load_n X (x := y) rfl (List.Mem.tail _ (List.Mem.tail _ (List.Mem.head _))) (z_load_n X (x := z) rfl (List.Mem.tail _ (List.Mem.tail _ (List.Mem.tail _ (List.Mem.head _)))) (z_icmp_gt X (t := 69) rfl rfl ⟨by first | exact p1.1 | omega, by first | exact p1.2 | omega⟩ ⟨by first | exact p2.1 | omega, by first | exact p2.2 | omega⟩ (fun g35 => ?_) (fun g35 => ?_)))
          ·
            refine z_const X rfl (z_goto X (t := 74) rfl rfl (z_const X rfl (zcV_i0 X E 179 (As := [.int (Int32.ofInt 1), .int (Int32.ofInt 2)]) (st := []) rfl rfl rfl rfl (k_bad2 G Is9 (by first | exact Or.inr (by decide) | omega) (by first | exact ⟨by decide, by decide⟩ | omega)) rfl (Nat.le_of_ble_eq_true rfl) (fun s36 e37 Is36 Fs36 hrs36 hps36 => ?_))))
            have Gs36 := fm_tq Gs9 Fs36 rfl rfl
            have b38 := bi_73 Is36
            have ws36_90 : iI s36 90 = iI s9 90 := fm_iq Fs36 rfl
            have aws36_SMR : SMR s s36 := smr_ts aws9_SMR (smr_fm Fs36 (by decide))
            refine z_if_eq X (t := 82) rfl rfl hrs36 (fun g39 => ?_) (fun g39 => ?_)
            ·
              refine z_load_n X (x := y) rfl (List.Mem.tail _ (List.Mem.tail _ (List.Mem.head _))) (z_store X (lv' := [(5, .int (Int32.ofInt y)), (0, .ref (A 179)), (1, .int (Int32.ofInt x)), (2, .int (Int32.ofInt y)), (3, .int (Int32.ofInt z)), (4, .int (Int32.ofInt w))]) rfl (by decide) (fun _ h => h) (WS_pq [1, 2, 4, 5, 0] (lv' := [(0, .ref (A 179)), (1, .int (Int32.ofInt x)), (3, .int (Int32.ofInt z)), (4, .int (Int32.ofInt w)), (5, .int (Int32.ofInt y))]) rfl (L85 ((24 - y : Int).toNat + 1) s36 x z w y Is36 Gs36 (flu_sm aws36_SMR) (by first | exact ⟨oq_af21c3a9 g39 hps36 g12 b11.1 hps9 vs3, oq_39cb83a2 g39 hps36 g12 b11.1 hps9 vs3, oq_076d59f2 g39 hps36 g12 b11.1 hps9 vs3, oq_71c16c0e g35 g26 hps24 g15 hps13, oq_8e25c494 g39 hps36 g12 b11.1 hps9 vs3, oq_043ce32e g35 g26 hps24, oq_f518633a g15 hps13, oq_0568af07 g39 b38.1 hps36 g12 hps9 vs3⟩ | omega) (Nat.lt_succ_self _) ?_)))
              intro s40 x41 Is40 Fs40 Qs40 hs40
              have b42 := bi_73 Is40
              have b43 := bi_90 Is40
              exact w_vret X.1 q hRt (ax_d X (show cdA 218 108 = some (.return_, 1, 0, 0, 0) from rfl)) (Nat.zero_le _) (Nat.zero_le _) ⟨_, rfl, Is40, Fs40, rfl, Or.inl ⟨by first | exact hs40.1.2.1 | omega, by first | exact hs40.1.2.2.1 | omega, by first | exact hs40.1.2.2.2.1 | omega, by first | exact oq_943835ba hs40.1.2.2.2.2.1 hs40.1.2.2.2.2.2.1 | omega, by first | exact oq_12a1f9e1 hs40.1.2.2.2.2.1 hs40.1.2.2.2.1 | omega, by first | exact hs40.1.2.2.2.2.2.1 | omega, by first | exact hs40.1.2.2.2.2.1 | omega, by first | exact hs40.1.2.2.2.2.2.2.1 | omega, by first | exact hs40.1.2.2.2.2.2.2.2 | omega, by first | exact hs40.2 | omega, Qs40⟩⟩
            ·
              exact w_vret X.1 q hRt (ax_d X (show cdA 218 81 = some (.return_, 1, 0, 0, 0) from rfl)) (Nat.zero_le _) (Nat.zero_le _) ⟨_, rfl, Is36, Gs36, rfl, Or.inr (by first | exact Or.inl ⟨by first | (clear g39 hps36 g26 hps24 g15 hps13 hps9 he8 hps5; omega) | (clear hps36 g26 hps24 g15 hps13 hps9 he8 hps5; omega) | omega, by first | (clear g39 hps36 g26 hps24 g15 hps13 hps9 he8 hps5; omega) | (clear hps36 g26 hps24 g15 hps13 hps9 he8 hps5; omega) | omega, aws36_SMR⟩ | exact Or.inr ⟨by first | (clear g39 hps36 g26 hps24 g15 hps13 hps9 he8 hps5; omega) | (clear hps36 g26 hps24 g15 hps13 hps9 he8 hps5; omega) | omega, by first | (clear g39 hps36 g26 hps24 g15 hps13 hps9 he8 hps5; omega) | (clear hps36 g26 hps24 g15 hps13 hps9 he8 hps5; omega) | omega, by first | (clear g39 hps36 g26 hps24 g15 hps13 hps9 he8 hps5; omega) | (clear hps36 g26 hps24 g15 hps13 hps9 he8 hps5; omega) | omega, by first | (clear g39 hps36 g26 hps24 g15 hps13 hps9 he8 hps5; omega) | (clear hps36 g26 hps24 g15 hps13 hps9 he8 hps5; omega) | omega, aws36_SMR⟩)⟩
          ·
            refine z_load X (x := w) rfl (List.Mem.tail _ (List.Mem.tail _ (List.Mem.tail _ (List.Mem.tail _ (List.Mem.head _))))) (z_const X rfl (z_bipush X rfl (z_callS X (rm := rmN 188) (As := [.int (Int32.ofInt w), .int (Int32.ofInt 0), .int (Int32.ofInt 50)]) (st := [.ref (A 179)]) rfl rfl (by rw [E.1, E.2.1, E.2.2.1]; exact k_in2 G Is9 (by first | exact ⟨p3.1, p3.2⟩ | omega) (by first | exact ⟨by decide, by decide⟩ | omega) (by first | exact ⟨by decide, by decide⟩ | omega)) ⟨by rw [E.2.2.2]; exact (show (rmN 188).frames + 1 ≤ (rmN 218).frames by decide), by rw [E.2.2.2]; exact (show 8 + (mNL (miB 188) + 11) + (rmN 188).locals ≤ (rmN 218).locals by decide), by rw [E.2.2.2]; exact (show 0 + (rmN 188).cells ≤ (rmN 218).cells by decide), by rw [E.2.2.2]; exact (show 0 + (rmN 188).slots ≤ (rmN 218).slots by decide)⟩ (Nat.le_of_ble_eq_true rfl) (fun vv s44 hq => ?_) (fun ee s44 hq => ?_))))
            rotate_left
            · obtain ⟨rfl, e45, hv, hrs44, hps44⟩ := hq; cases hv
            obtain ⟨rfl, e45, hv, hrs44, hps44⟩ := hq
            cases hv
            show WS k 66 [(0, .ref (A 179)), (1, .int (Int32.ofInt x)), (2, .int (Int32.ofInt y)), (3, .int (Int32.ofInt z)), (4, .int (Int32.ofInt w))] [.int (Int32.ofInt e45), .ref (A 179)] (Wd A dT s9) 0 0
            have N46 : ∀ e47 : Int, (((e45 ≠ 0) ∧ e47 = 0) ∨ ((e45 = 0) ∧ e47 = 1)) → WS k 74 [(0, .ref (A 179)), (1, .int (Int32.ofInt x)), (2, .int (Int32.ofInt y)), (3, .int (Int32.ofInt z)), (4, .int (Int32.ofInt w))] [.int (Int32.ofInt e47), .ref (A 179)] (Wd A dT s9) 0 0 := by
              intro e47 he47
              have re47 : 0 ≤ e47 ∧ e47 ≤ 1 := by first | (clear he47 hps44 g26 hps24 g15 hps13 hps9 he8 hps5; omega) | (clear hps44 g26 hps24 g15 hps13 hps9 he8 hps5; omega) | omega
              refine z_const X rfl (zcV_i0 X E 179 (As := [.int (Int32.ofInt e47), .int (Int32.ofInt 2)]) (st := []) rfl rfl rfl rfl (k_bad2 G Is9 (by first | exact oq_31e518ae re47.2 re47.1 | omega) (by first | exact ⟨by decide, by decide⟩ | omega)) rfl (Nat.le_of_ble_eq_true rfl) (fun s48 e49 Is48 Fs48 hrs48 hps48 => ?_))
              have Gs48 := fm_tq Gs9 Fs48 rfl rfl
              have b50 := bi_73 Is48
              have ws48_90 : iI s48 90 = iI s9 90 := fm_iq Fs48 rfl
              have aws48_SMR : SMR s s48 := smr_ts aws9_SMR (smr_fm Fs48 (by decide))
              refine z_if_eq X (t := 82) rfl rfl hrs48 (fun g51 => ?_) (fun g51 => ?_)
              ·
                refine z_load_n X (x := y) rfl (List.Mem.tail _ (List.Mem.tail _ (List.Mem.head _))) (z_store X (lv' := [(5, .int (Int32.ofInt y)), (0, .ref (A 179)), (1, .int (Int32.ofInt x)), (2, .int (Int32.ofInt y)), (3, .int (Int32.ofInt z)), (4, .int (Int32.ofInt w))]) rfl (by decide) (fun _ h => h) (WS_pq [1, 2, 4, 5, 0] (lv' := [(0, .ref (A 179)), (1, .int (Int32.ofInt x)), (3, .int (Int32.ofInt z)), (4, .int (Int32.ofInt w)), (5, .int (Int32.ofInt y))]) rfl (L85 ((24 - y : Int).toNat + 1) s48 x z w y Is48 Gs48 (flu_sm aws48_SMR) (by first | (clear hps48 he47 hps44 g26 hps24 g15 hps13 hps9 he8 hps5; omega) | (clear he47 hps44 g26 hps24 g15 hps13 hps9 he8 hps5; omega) | omega) (Nat.lt_succ_self _) ?_)))
                intro s52 x53 Is52 Fs52 Qs52 hs52
                have b54 := bi_73 Is52
                have b55 := bi_90 Is52
                exact w_vret X.1 q hRt (ax_d X (show cdA 218 108 = some (.return_, 1, 0, 0, 0) from rfl)) (Nat.zero_le _) (Nat.zero_le _) ⟨_, rfl, Is52, Fs52, rfl, Or.inl ⟨by first | exact hs52.1.2.1 | omega, by first | exact hs52.1.2.2.1 | omega, by first | exact hs52.1.2.2.2.1 | omega, by first | exact oq_943835ba hs52.1.2.2.2.2.1 hs52.1.2.2.2.2.2.1 | omega, by first | exact oq_12a1f9e1 hs52.1.2.2.2.2.1 hs52.1.2.2.2.1 | omega, by first | exact hs52.1.2.2.2.2.2.1 | omega, by first | exact hs52.1.2.2.2.2.1 | omega, by first | exact hs52.1.2.2.2.2.2.2.1 | omega, by first | exact hs52.1.2.2.2.2.2.2.2 | omega, by first | exact hs52.2 | omega, Qs52⟩⟩
              ·
                exact w_vret X.1 q hRt (ax_d X (show cdA 218 81 = some (.return_, 1, 0, 0, 0) from rfl)) (Nat.zero_le _) (Nat.zero_le _) ⟨_, rfl, Is48, Gs48, rfl, Or.inr (by first | exact Or.inl ⟨by first | (clear g51 hps48 he47 hps44 g26 hps24 g15 hps13 hps9 he8 hps5; omega) | (clear hps48 he47 hps44 g26 hps24 g15 hps13 hps9 he8 hps5; omega) | omega, by first | (clear g51 hps48 he47 hps44 g26 hps24 g15 hps13 hps9 he8 hps5; omega) | (clear hps48 he47 hps44 g26 hps24 g15 hps13 hps9 he8 hps5; omega) | omega, aws48_SMR⟩ | exact Or.inr ⟨by first | (clear g51 hps48 he47 hps44 g26 hps24 g15 hps13 hps9 he8 hps5; omega) | (clear hps48 he47 hps44 g26 hps24 g15 hps13 hps9 he8 hps5; omega) | omega, by first | (clear g51 hps48 he47 hps44 g26 hps24 g15 hps13 hps9 he8 hps5; omega) | (clear hps48 he47 hps44 g26 hps24 g15 hps13 hps9 he8 hps5; omega) | omega, by first | (clear g51 hps48 he47 hps44 g26 hps24 g15 hps13 hps9 he8 hps5; omega) | (clear hps48 he47 hps44 g26 hps24 g15 hps13 hps9 he8 hps5; omega) | omega, by first | (clear g51 hps48 he47 hps44 g26 hps24 g15 hps13 hps9 he8 hps5; omega) | (clear hps48 he47 hps44 g26 hps24 g15 hps13 hps9 he8 hps5; omega) | omega, aws48_SMR⟩)⟩
            refine z_if_ne X (t := 73) rfl rfl hrs44 (fun g56 => ?_) (fun g56 => ?_)
            ·
              exact z_const X rfl (N46 _ (Or.inl ⟨g56, rfl⟩))
            ·
              exact z_const X rfl (z_goto X (t := 74) rfl rfl (N46 _ (Or.inr (⟨g56, rfl⟩))))
  refine z_if_ne X (t := 24) rfl rfl hrs5 (fun g57 => ?_) (fun g57 => ?_)
  ·
    exact z_const X rfl (N7 _ (Or.inl ⟨g57, rfl⟩))
  ·
    exact z_const X rfl (z_goto X (t := 25) rfl rfl (N7 _ (Or.inr (⟨g57, rfl⟩))))
set_option maxRecDepth 4000 in
theorem k_span3 (G : GX l s0 D tys a0 dT) (I : Bd s) {x y z : Int} (p0 : rng x) (p1 : rng y) (p2 : rng z) : CT l s0 D A dT 219 (rmN 219) [.ref (A 179), .int (Int32.ofInt x), .int (Int32.ofInt y), .int (Int32.ofInt z)] s (fun o t => Bd t ∧ Fm [73] [163, 164] s t ∧ o = .inl none ∧ ((0 ≤ x ∧ x < iI s 90 ∧ 0 ≤ y ∧ y ≤ 2 ∧ 0 ≤ z ∧ z ≤ 2 ∧ iI t 73 = 0 ∧ UPD 163 x y s t ∧ UPD 164 x z s t) ∨ ((x < 0 ∨ iI s 90 ≤ x) ∧ iI t 73 = 1 ∧ SAM 163 s t ∧ SAM 164 s t) ∨ (0 ≤ x ∧ x < iI s 90 ∧ (y < 0 ∨ 2 < y ∨ z < 0 ∨ 2 < z) ∧ iI t 73 = 2 ∧ SAM 163 s t ∧ SAM 164 s t))) := by
  refine ct_of G (by decide) (Nat.le_of_ble_eq_true rfl) (fun k X E hRt hXt q => ?_)
  show WS k 0 [(0, .ref (A 179)), (1, .int (Int32.ofInt x)), (2, .int (Int32.ofInt y)), (3, .int (Int32.ofInt z))] [] _ 0 0
  have F : Fm [73] [163, 164] s s := fm_rf _ _ s
  have aw0_163 : SAM 163 s s := sam_rf
  have aw0_164 : SAM 164 s s := sam_rf
  have b1 := bi_73 I
  have b2 := bi_90 I
  refine z_aload_n X (x := A 179) rfl (List.Mem.head _) (z_const X rfl (s_putI X 179 rfl (c518_ok rfl) rfl rfl (by decide) rfl rfl rfl (wd_gen (fun s3 hs3 => ?_))))
  have Is3 : Bd s3 := eqB hs3 (bd_I I (show (0 : Int) ≤ 0 ∧ 0 ≤ 3 by first | exact ⟨by decide, by decide⟩ | omega) (by decide))
  have Fs3 := eqF hs3 (fm_I F (inl_ok (a := 73) rfl))
  have vs3 : iI s3 73 = 0 := eqI hs3 (iI_u (by decide))
  have ws3_90 : iI s3 90 = iI s 90 := eqI hs3 rfl
  have aws3_163 : SAM 163 s s3 := by rw [hs3]; exact aw0_163
  have aws3_164 : SAM 164 s s3 := by rw [hs3]; exact aw0_164
  refine z_aload_n X (x := A 179) rfl (List.Mem.head _) (z_load_n X (x := x) rfl (List.Mem.tail _ (List.Mem.head _)) (z_const X rfl (z_aload_n X (x := A 179) rfl (List.Mem.head _) (z_getI X 179 rfl (c518_ok rfl) rfl rfl ?_))))
  have b4 := bi_90 Is3
  refine z_const X rfl (z_sub X rfl (z_callS X (rm := rmN 188) (As := [.int (Int32.ofInt x), .int (Int32.ofInt 0), .int (Int32.ofInt ((iI s3 90) - 1))]) (st := [.ref (A 179)]) rfl rfl (by rw [E.1, E.2.1, E.2.2.1]; exact k_in2 G Is3 (by first | exact ⟨p0.1, p0.2⟩ | omega) (by first | exact ⟨by decide, by decide⟩ | omega) (by first | exact ⟨oq_c1e961c7 b4.1, oq_d526ebd3 b4.2⟩ | omega)) ⟨by rw [E.2.2.2]; exact (show (rmN 188).frames + 1 ≤ (rmN 219).frames by decide), by rw [E.2.2.2]; exact (show 8 + (mNL (miB 188) + 11) + (rmN 188).locals ≤ (rmN 219).locals by decide), by rw [E.2.2.2]; exact (show 0 + (rmN 188).cells ≤ (rmN 219).cells by decide), by rw [E.2.2.2]; exact (show 0 + (rmN 188).slots ≤ (rmN 219).slots by decide)⟩ (Nat.le_of_ble_eq_true rfl) (fun vv s5 hq => ?_) (fun ee s5 hq => ?_)))
  rotate_left
  · obtain ⟨rfl, e6, hv, hrs5, hps5⟩ := hq; cases hv
  obtain ⟨rfl, e6, hv, hrs5, hps5⟩ := hq
  cases hv
  show WS k 17 [(0, .ref (A 179)), (1, .int (Int32.ofInt x)), (2, .int (Int32.ofInt y)), (3, .int (Int32.ofInt z))] [.int (Int32.ofInt e6), .ref (A 179)] (Wd A dT s3) 0 0
  have N7 : ∀ e8 : Int, (((e6 ≠ 0) ∧ e8 = 0) ∨ ((e6 = 0) ∧ e8 = 1)) → WS k 25 [(0, .ref (A 179)), (1, .int (Int32.ofInt x)), (2, .int (Int32.ofInt y)), (3, .int (Int32.ofInt z))] [.int (Int32.ofInt e8), .ref (A 179)] (Wd A dT s3) 0 0 := by
    intro e8 he8
    have re8 : 0 ≤ e8 ∧ e8 ≤ 1 := by first | (clear he8 hps5; omega) | (clear hps5; omega) | omega
    refine z_const X rfl (zcV_i0 X E 179 (As := [.int (Int32.ofInt e8), .int (Int32.ofInt 1)]) (st := []) rfl rfl rfl rfl (k_bad2 G Is3 (by first | exact oq_31e518ae re8.2 re8.1 | omega) (by first | exact ⟨by decide, by decide⟩ | omega)) rfl (Nat.le_of_ble_eq_true rfl) (fun s9 e10 Is9 Fs9 hrs9 hps9 => ?_))
    have Gs9 := fm_tq Fs3 Fs9 rfl rfl
    have b11 := bi_73 Is9
    have ws9_90 : iI s9 90 = iI s3 90 := fm_iq Fs9 rfl
    have aws9_163 : SAM 163 s s9 := sam_ts aws3_163 (sam_fm Fs9 (by decide))
    have aws9_164 : SAM 164 s s9 := sam_ts aws3_164 (sam_fm Fs9 (by decide))
    refine z_if_ne X (t := 63) rfl rfl hrs9 (fun g12 => ?_) (fun g12 => ?_)
    ·
      exact w_vret X.1 q hRt (ax_d X (show cdA 219 63 = some (.return_, 1, 0, 0, 0) from rfl)) (Nat.zero_le _) (Nat.zero_le _) ⟨_, rfl, Is9, Gs9, rfl, Or.inr (by first | exact Or.inl ⟨by first | (clear g12 hps9 he8 hps5; omega) | (clear hps9 he8 hps5; omega) | omega, by first | (clear g12 hps9 he8 hps5; omega) | (clear hps9 he8 hps5; omega) | omega, aws9_163, aws9_164⟩ | exact Or.inr ⟨by first | (clear g12 hps9 he8 hps5; omega) | (clear hps9 he8 hps5; omega) | omega, by first | (clear g12 hps9 he8 hps5; omega) | (clear hps9 he8 hps5; omega) | omega, by first | (clear g12 hps9 he8 hps5; omega) | (clear hps9 he8 hps5; omega) | omega, by first | (clear g12 hps9 he8 hps5; omega) | (clear hps9 he8 hps5; omega) | omega, aws9_163, aws9_164⟩)⟩
    ·
      refine z_aload_n X (x := A 179) rfl (List.Mem.head _) (z_load_n X (x := y) rfl (List.Mem.tail _ (List.Mem.tail _ (List.Mem.head _))) (z_const X rfl (z_const X rfl (z_callS X (rm := rmN 188) (As := [.int (Int32.ofInt y), .int (Int32.ofInt 0), .int (Int32.ofInt 2)]) (st := [.ref (A 179)]) rfl rfl (by rw [E.1, E.2.1, E.2.2.1]; exact k_in2 G Is9 (by first | exact ⟨p1.1, p1.2⟩ | omega) (by first | exact ⟨by decide, by decide⟩ | omega) (by first | exact ⟨by decide, by decide⟩ | omega)) ⟨by rw [E.2.2.2]; exact (show (rmN 188).frames + 1 ≤ (rmN 219).frames by decide), by rw [E.2.2.2]; exact (show 8 + (mNL (miB 188) + 11) + (rmN 188).locals ≤ (rmN 219).locals by decide), by rw [E.2.2.2]; exact (show 0 + (rmN 188).cells ≤ (rmN 219).cells by decide), by rw [E.2.2.2]; exact (show 0 + (rmN 188).slots ≤ (rmN 219).slots by decide)⟩ (Nat.le_of_ble_eq_true rfl) (fun vv s13 hq => ?_) (fun ee s13 hq => ?_)))))
      rotate_left
      · obtain ⟨rfl, e14, hv, hrs13, hps13⟩ := hq; cases hv
      obtain ⟨rfl, e14, hv, hrs13, hps13⟩ := hq
      cases hv
      show WS k 39 [(0, .ref (A 179)), (1, .int (Int32.ofInt x)), (2, .int (Int32.ofInt y)), (3, .int (Int32.ofInt z))] [.int (Int32.ofInt e14), .ref (A 179)] (Wd A dT s9) 0 0
      refine z_if_eq X (t := 51) rfl rfl hrs13 (fun g15 => ?_) (fun g15 => ?_)
      ·
        refine z_const X rfl (z_goto X (t := 56) rfl rfl (z_const X rfl (zcV_i0 X E 179 (As := [.int (Int32.ofInt 1), .int (Int32.ofInt 2)]) (st := []) rfl rfl rfl rfl (k_bad2 G Is9 (by first | exact Or.inr (by decide) | omega) (by first | exact ⟨by decide, by decide⟩ | omega)) rfl (Nat.le_of_ble_eq_true rfl) (fun s16 e17 Is16 Fs16 hrs16 hps16 => ?_))))
        have Gs16 := fm_tq Gs9 Fs16 rfl rfl
        have b18 := bi_73 Is16
        have ws16_90 : iI s16 90 = iI s9 90 := fm_iq Fs16 rfl
        have aws16_163 : SAM 163 s s16 := sam_ts aws9_163 (sam_fm Fs16 (by decide))
        have aws16_164 : SAM 164 s s16 := sam_ts aws9_164 (sam_fm Fs16 (by decide))
        refine z_if_eq X (t := 64) rfl rfl hrs16 (fun g19 => ?_) (fun g19 => ?_)
        ·
          refine z_aload_n X (x := A 179) rfl (List.Mem.head _) (s_getR X 179 rfl (c518_ok rfl) rfl rfl (z_load_n X (x := x) rfl (List.Mem.tail _ (List.Mem.head _)) (z_load_n X (x := y) rfl (List.Mem.tail _ (List.Mem.tail _ (List.Mem.head _))) (z_ast X 186 rfl (c518_ok rfl) rfl (by first | exact oq_50a02c5b g19 hps16 g12 b11.1 hps9 vs3 | omega) (show x < 12 by first | exact oq_b915df81 g19 hps16 g12 b11.1 hps9 vs3 | omega) (cbig_ok rfl) (wd_gen (fun s20 hs20 => ?_))))))
          have Is20 : Bd s20 := eqB hs20 (bd_C Is16 (show (0 : Int) ≤ y ∧ y ≤ 2 by first | exact ⟨oq_50a02c5b g19 hps16 g12 b11.1 hps9 vs3, oq_b78e71ae g19 hps16 g12 b11.1 hps9 vs3⟩ | omega) ⟨by first | exact p1.1 | omega, by first | exact p1.2 | omega⟩)
          have Fs20 := eqF hs20 (fm_C Gs16 (inl_ok (a := 163) rfl))
          have ws20_73 : iI s20 73 = iI s16 73 := eqI hs20 rfl
          have ws20_90 : iI s20 90 = iI s16 90 := eqI hs20 rfl
          have aws20_163 : UPD 163 (x) y s s20 := by rw [hs20]; exact upd_put aws16_163 ⟨by first | exact p1.1 | omega, by first | exact p1.2 | omega⟩
          have aws20_164 : SAM 164 s s20 := by rw [hs20]; exact sam_C (by decide) aws16_164
          refine z_aload_n X (x := A 179) rfl (List.Mem.head _) (s_getR X 179 rfl (c518_ok rfl) rfl rfl (z_load_n X (x := x) rfl (List.Mem.tail _ (List.Mem.head _)) (z_load_n X (x := z) rfl (List.Mem.tail _ (List.Mem.tail _ (List.Mem.tail _ (List.Mem.head _)))) (z_ast X 187 rfl (c518_ok rfl) rfl (by first | exact oq_50a02c5b g19 hps16 g12 b11.1 hps9 vs3 | omega) (show x < 12 by first | exact oq_b915df81 g19 hps16 g12 b11.1 hps9 vs3 | omega) (cbig_ok rfl) (wd_gen (fun s21 hs21 => ?_))))))
          have Is21 : Bd s21 := eqB hs21 (bd_C Is20 (show (0 : Int) ≤ z ∧ z ≤ 2 by first | exact ⟨oq_50a02c5b g19 hps16 g12 b11.1 hps9 vs3, oq_b78e71ae g19 hps16 g12 b11.1 hps9 vs3⟩ | omega) ⟨by first | exact p2.1 | omega, by first | exact p2.2 | omega⟩)
          have Fs21 := eqF hs21 (fm_C Fs20 (inl_ok (a := 164) rfl))
          have ws21_73 : iI s21 73 = iI s20 73 := eqI hs21 rfl
          have ws21_90 : iI s21 90 = iI s20 90 := eqI hs21 rfl
          have aws21_163 : UPD 163 (x) y s s21 := by rw [hs21]; exact upd_C (by decide) aws20_163
          have aws21_164 : UPD 164 (x) z s s21 := by rw [hs21]; exact upd_put aws20_164 ⟨by first | exact p2.1 | omega, by first | exact p2.2 | omega⟩
          exact w_vret X.1 q hRt (ax_d X (show cdA 219 78 = some (.return_, 1, 0, 0, 0) from rfl)) (Nat.zero_le _) (Nat.zero_le _) ⟨_, rfl, Is21, Fs21, rfl, Or.inl ⟨by first | exact oq_50a02c5b g19 hps16 g12 b11.1 hps9 vs3 | omega, by first | exact oq_8ce8240a g19 hps16 g12 b11.1 hps9 vs3 | omega, by first | exact oq_50a02c5b g19 hps16 g12 b11.1 hps9 vs3 | omega, by first | exact oq_b78e71ae g19 hps16 g12 b11.1 hps9 vs3 | omega, by first | exact oq_50a02c5b g19 hps16 g12 b11.1 hps9 vs3 | omega, by first | exact oq_b78e71ae g19 hps16 g12 b11.1 hps9 vs3 | omega, by first | exact oq_52fdae6d ws21_73 ws20_73 g19 b18.1 hps16 g12 hps9 vs3 | omega, aws21_163, aws21_164⟩⟩
        ·
          exact w_vret X.1 q hRt (ax_d X (show cdA 219 63 = some (.return_, 1, 0, 0, 0) from rfl)) (Nat.zero_le _) (Nat.zero_le _) ⟨_, rfl, Is16, Gs16, rfl, Or.inr (by first | exact Or.inl ⟨by first | (clear g19 hps16 hps13 hps9 he8 hps5; omega) | (clear hps16 hps13 hps9 he8 hps5; omega) | omega, by first | (clear g19 hps16 hps13 hps9 he8 hps5; omega) | (clear hps16 hps13 hps9 he8 hps5; omega) | omega, aws16_163, aws16_164⟩ | exact Or.inr ⟨by first | (clear g19 hps16 hps13 hps9 he8 hps5; omega) | (clear hps16 hps13 hps9 he8 hps5; omega) | omega, by first | (clear g19 hps16 hps13 hps9 he8 hps5; omega) | (clear hps16 hps13 hps9 he8 hps5; omega) | omega, by first | (clear g19 hps16 hps13 hps9 he8 hps5; omega) | (clear hps16 hps13 hps9 he8 hps5; omega) | omega, by first | (clear g19 hps16 hps13 hps9 he8 hps5; omega) | (clear hps16 hps13 hps9 he8 hps5; omega) | omega, aws16_163, aws16_164⟩)⟩
      ·
        refine z_load_n X (x := z) rfl (List.Mem.tail _ (List.Mem.tail _ (List.Mem.tail _ (List.Mem.head _)))) (z_const X rfl (z_const X rfl (z_callS X (rm := rmN 188) (As := [.int (Int32.ofInt z), .int (Int32.ofInt 0), .int (Int32.ofInt 2)]) (st := [.ref (A 179)]) rfl rfl (by rw [E.1, E.2.1, E.2.2.1]; exact k_in2 G Is9 (by first | exact ⟨p2.1, p2.2⟩ | omega) (by first | exact ⟨by decide, by decide⟩ | omega) (by first | exact ⟨by decide, by decide⟩ | omega)) ⟨by rw [E.2.2.2]; exact (show (rmN 188).frames + 1 ≤ (rmN 219).frames by decide), by rw [E.2.2.2]; exact (show 8 + (mNL (miB 188) + 11) + (rmN 188).locals ≤ (rmN 219).locals by decide), by rw [E.2.2.2]; exact (show 0 + (rmN 188).cells ≤ (rmN 219).cells by decide), by rw [E.2.2.2]; exact (show 0 + (rmN 188).slots ≤ (rmN 219).slots by decide)⟩ (Nat.le_of_ble_eq_true rfl) (fun vv s22 hq => ?_) (fun ee s22 hq => ?_))))
        rotate_left
        · obtain ⟨rfl, e23, hv, hrs22, hps22⟩ := hq; cases hv
        obtain ⟨rfl, e23, hv, hrs22, hps22⟩ := hq
        cases hv
        show WS k 48 [(0, .ref (A 179)), (1, .int (Int32.ofInt x)), (2, .int (Int32.ofInt y)), (3, .int (Int32.ofInt z))] [.int (Int32.ofInt e23), .ref (A 179)] (Wd A dT s9) 0 0
        have N24 : ∀ e25 : Int, (((e23 ≠ 0) ∧ e25 = 0) ∨ ((e23 = 0) ∧ e25 = 1)) → WS k 56 [(0, .ref (A 179)), (1, .int (Int32.ofInt x)), (2, .int (Int32.ofInt y)), (3, .int (Int32.ofInt z))] [.int (Int32.ofInt e25), .ref (A 179)] (Wd A dT s9) 0 0 := by
          intro e25 he25
          have re25 : 0 ≤ e25 ∧ e25 ≤ 1 := by first | (clear he25 hps22 g15 hps13 hps9 he8 hps5; omega) | (clear hps22 g15 hps13 hps9 he8 hps5; omega) | omega
          refine z_const X rfl (zcV_i0 X E 179 (As := [.int (Int32.ofInt e25), .int (Int32.ofInt 2)]) (st := []) rfl rfl rfl rfl (k_bad2 G Is9 (by first | exact oq_31e518ae re25.2 re25.1 | omega) (by first | exact ⟨by decide, by decide⟩ | omega)) rfl (Nat.le_of_ble_eq_true rfl) (fun s26 e27 Is26 Fs26 hrs26 hps26 => ?_))
          have Gs26 := fm_tq Gs9 Fs26 rfl rfl
          have b28 := bi_73 Is26
          have ws26_90 : iI s26 90 = iI s9 90 := fm_iq Fs26 rfl
          have aws26_163 : SAM 163 s s26 := sam_ts aws9_163 (sam_fm Fs26 (by decide))
          have aws26_164 : SAM 164 s s26 := sam_ts aws9_164 (sam_fm Fs26 (by decide))
          refine z_if_eq X (t := 64) rfl rfl hrs26 (fun g29 => ?_) (fun g29 => ?_)
          ·
            refine z_aload_n X (x := A 179) rfl (List.Mem.head _) (s_getR X 179 rfl (c518_ok rfl) rfl rfl (z_load_n X (x := x) rfl (List.Mem.tail _ (List.Mem.head _)) (z_load_n X (x := y) rfl (List.Mem.tail _ (List.Mem.tail _ (List.Mem.head _))) (z_ast X 186 rfl (c518_ok rfl) rfl (by first | (clear hps26 he25 hps22 g15 hps13 hps9 he8 hps5; omega) | (clear he25 hps22 g15 hps13 hps9 he8 hps5; omega) | omega) (show x < 12 by first | (clear hps26 he25 hps22 g15 hps13 hps9 he8 hps5; omega) | (clear he25 hps22 g15 hps13 hps9 he8 hps5; omega) | omega) (cbig_ok rfl) (wd_gen (fun s30 hs30 => ?_))))))
            have Is30 : Bd s30 := eqB hs30 (bd_C Is26 (show (0 : Int) ≤ y ∧ y ≤ 2 by first | exact ⟨oq_ed86839e g15 hps13, oq_1e4f7caf g15 hps13⟩ | omega) ⟨by first | exact p1.1 | omega, by first | exact p1.2 | omega⟩)
            have Fs30 := eqF hs30 (fm_C Gs26 (inl_ok (a := 163) rfl))
            have ws30_73 : iI s30 73 = iI s26 73 := eqI hs30 rfl
            have ws30_90 : iI s30 90 = iI s26 90 := eqI hs30 rfl
            have aws30_163 : UPD 163 (x) y s s30 := by rw [hs30]; exact upd_put aws26_163 ⟨by first | exact p1.1 | omega, by first | exact p1.2 | omega⟩
            have aws30_164 : SAM 164 s s30 := by rw [hs30]; exact sam_C (by decide) aws26_164
            refine z_aload_n X (x := A 179) rfl (List.Mem.head _) (s_getR X 179 rfl (c518_ok rfl) rfl rfl (z_load_n X (x := x) rfl (List.Mem.tail _ (List.Mem.head _)) (z_load_n X (x := z) rfl (List.Mem.tail _ (List.Mem.tail _ (List.Mem.tail _ (List.Mem.head _)))) (z_ast X 187 rfl (c518_ok rfl) rfl (by first | exact oq_b1e4434e g12 hps9 he8 hps5 vs3 | omega) (show x < 12 by first | exact oq_00fd1383 g12 hps9 he8 hps5 b4.2 vs3 | omega) (cbig_ok rfl) (wd_gen (fun s31 hs31 => ?_))))))
            have Is31 : Bd s31 := eqB hs31 (bd_C Is30 (show (0 : Int) ≤ z ∧ z ≤ 2 by first | exact ⟨oq_69fe46bc g29 hps26 he25 hps22 g12 b11.1 hps9 vs3, oq_bf244170 g29 hps26 he25 hps22 g12 b11.1 hps9 vs3⟩ | omega) ⟨by first | exact p2.1 | omega, by first | exact p2.2 | omega⟩)
            have Fs31 := eqF hs31 (fm_C Fs30 (inl_ok (a := 164) rfl))
            have ws31_73 : iI s31 73 = iI s30 73 := eqI hs31 rfl
            have ws31_90 : iI s31 90 = iI s30 90 := eqI hs31 rfl
            have aws31_163 : UPD 163 (x) y s s31 := by rw [hs31]; exact upd_C (by decide) aws30_163
            have aws31_164 : UPD 164 (x) z s s31 := by rw [hs31]; exact upd_put aws30_164 ⟨by first | exact p2.1 | omega, by first | exact p2.2 | omega⟩
            exact w_vret X.1 q hRt (ax_d X (show cdA 219 78 = some (.return_, 1, 0, 0, 0) from rfl)) (Nat.zero_le _) (Nat.zero_le _) ⟨_, rfl, Is31, Fs31, rfl, Or.inl ⟨by first | (clear hps26 he25 hps22 g15 hps13 hps9 he8 hps5; omega) | (clear he25 hps22 g15 hps13 hps9 he8 hps5; omega) | omega, by first | (clear hps26 he25 hps22 g15 hps13 hps9 he8 hps5; omega) | (clear he25 hps22 g15 hps13 hps9 he8 hps5; omega) | omega, by first | exact oq_ed86839e g15 hps13 | omega, by first | exact oq_1e4f7caf g15 hps13 | omega, by first | exact oq_69fe46bc g29 hps26 he25 hps22 g12 b11.1 hps9 vs3 | omega, by first | exact oq_bf244170 g29 hps26 he25 hps22 g12 b11.1 hps9 vs3 | omega, by first | exact oq_4548e717 ws31_73 ws30_73 g29 b28.1 hps26 g12 hps9 vs3 | omega, aws31_163, aws31_164⟩⟩
          ·
            exact w_vret X.1 q hRt (ax_d X (show cdA 219 63 = some (.return_, 1, 0, 0, 0) from rfl)) (Nat.zero_le _) (Nat.zero_le _) ⟨_, rfl, Is26, Gs26, rfl, Or.inr (by first | exact Or.inl ⟨by first | (clear g29 hps26 he25 hps22 g15 hps13 hps9 he8 hps5; omega) | (clear hps26 he25 hps22 g15 hps13 hps9 he8 hps5; omega) | omega, by first | (clear g29 hps26 he25 hps22 g15 hps13 hps9 he8 hps5; omega) | (clear hps26 he25 hps22 g15 hps13 hps9 he8 hps5; omega) | omega, aws26_163, aws26_164⟩ | exact Or.inr ⟨by first | (clear g29 hps26 he25 hps22 g15 hps13 hps9 he8 hps5; omega) | (clear hps26 he25 hps22 g15 hps13 hps9 he8 hps5; omega) | omega, by first | (clear g29 hps26 he25 hps22 g15 hps13 hps9 he8 hps5; omega) | (clear hps26 he25 hps22 g15 hps13 hps9 he8 hps5; omega) | omega, by first | (clear g29 hps26 he25 hps22 g15 hps13 hps9 he8 hps5; omega) | (clear hps26 he25 hps22 g15 hps13 hps9 he8 hps5; omega) | omega, by first | (clear g29 hps26 he25 hps22 g15 hps13 hps9 he8 hps5; omega) | (clear hps26 he25 hps22 g15 hps13 hps9 he8 hps5; omega) | omega, aws26_163, aws26_164⟩)⟩
        refine z_if_ne X (t := 55) rfl rfl hrs22 (fun g32 => ?_) (fun g32 => ?_)
        ·
          exact z_const X rfl (N24 _ (Or.inl ⟨g32, rfl⟩))
        ·
          exact z_const X rfl (z_goto X (t := 56) rfl rfl (N24 _ (Or.inr (⟨g32, rfl⟩))))
  refine z_if_ne X (t := 24) rfl rfl hrs5 (fun g33 => ?_) (fun g33 => ?_)
  ·
    exact z_const X rfl (N7 _ (Or.inl ⟨g33, rfl⟩))
  ·
    exact z_const X rfl (z_goto X (t := 25) rfl rfl (N7 _ (Or.inr (⟨g33, rfl⟩))))
end M87d
