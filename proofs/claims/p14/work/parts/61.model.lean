/-! The model: ways round a storm -/
/-- d is beside x by the step y -/
def BS (x y d : Int) : Prop := ((y = 0 ∧ ((x % 8 = 7 ∧ d = -1) ∨ (¬ x % 8 = 7 ∧ d = x + 1))) ∨ (y = 1 ∧ ((x % 8 = 0 ∧ d = -1) ∨ (¬ x % 8 = 0 ∧ d = x - 1))) ∨ (y = 2 ∧ ((x / 8 % 8 = 7 ∧ d = -1) ∨ (¬ x / 8 % 8 = 7 ∧ d = x + 8))) ∨ (y = 3 ∧ ((x / 8 % 8 = 0 ∧ d = -1) ∨ (¬ x / 8 % 8 = 0 ∧ d = x - 8))) ∨ (y = 4 ∧ ((x / 64 = 1 ∧ d = -1) ∨ (¬ x / 64 = 1 ∧ d = x + 64))) ∨ (y = 5 ∧ ((x / 64 = 0 ∧ d = -1) ∨ (¬ x / 64 = 0 ∧ d = x - 64)))) ∧ -1 ≤ d ∧ d ≤ 127
theorem bs_sym {x y d : Int} (hx : 0 ≤ x ∧ x ≤ 127) (hd : d ≠ -1) (h : BS x y d) : ∃ z : Int, 0 ≤ z ∧ z ≤ 5 ∧ BS d z x := by
  unfold BS at h ⊢
  obtain ⟨h, hb⟩ := h
  rcases h with ⟨e, h⟩ | ⟨e, h⟩ | ⟨e, h⟩ | ⟨e, h⟩ | ⟨e, h⟩ | ⟨e, h⟩ <;> rcases h with ⟨h1, h2⟩ | ⟨h1, h2⟩
  · exact absurd h2 hd
  · exact ⟨1, by decide, by decide, ⟨Or.inr (Or.inl ⟨rfl, Or.inr ⟨by omega, by omega⟩⟩), by omega, by omega⟩⟩
  · exact absurd h2 hd
  · exact ⟨0, by decide, by decide, ⟨Or.inl ⟨rfl, Or.inr ⟨by omega, by omega⟩⟩, by omega, by omega⟩⟩
  · exact absurd h2 hd
  · exact ⟨3, by decide, by decide, ⟨Or.inr (Or.inr (Or.inr (Or.inl ⟨rfl, Or.inr ⟨by omega, by omega⟩⟩))), by omega, by omega⟩⟩
  · exact absurd h2 hd
  · exact ⟨2, by decide, by decide, ⟨Or.inr (Or.inr (Or.inl ⟨rfl, Or.inr ⟨by omega, by omega⟩⟩)), by omega, by omega⟩⟩
  · exact absurd h2 hd
  · exact ⟨5, by decide, by decide, ⟨Or.inr (Or.inr (Or.inr (Or.inr (Or.inr (⟨rfl, Or.inr ⟨by omega, by omega⟩⟩))))), by omega, by omega⟩⟩
  · exact absurd h2 hd
  · exact ⟨4, by decide, by decide, ⟨Or.inr (Or.inr (Or.inr (Or.inr (Or.inl ⟨rfl, Or.inr ⟨by omega, by omega⟩⟩)))), by omega, by omega⟩⟩
theorem bs_fun {x y d e : Int} (h : BS x y d) (g : BS x y e) : d = e := by
  unfold BS at h g
  obtain ⟨h, -⟩ := h
  obtain ⟨g, -⟩ := g
  rcases h with ⟨e1, h⟩ | ⟨e1, h⟩ | ⟨e1, h⟩ | ⟨e1, h⟩ | ⟨e1, h⟩ | ⟨e1, h⟩ <;> rcases g with ⟨e2, g⟩ | ⟨e2, g⟩ | ⟨e2, g⟩ | ⟨e2, g⟩ | ⟨e2, g⟩ | ⟨e2, g⟩ <;> omega
def rch (t : PS) (j : Nat) : Int := if iC t 404 j = -1 then 0 else 1
def smF (t : PS) : Int := sm (rch t) 128
/-- the cells reached so far -/
def FB (t : PS) (n : Int) : Prop := smF t = n ∧ (∀ j, j < 128 → iC t 404 j ≤ n - 1) ∧ (∀ j, j < 128 → 1 ≤ iC t 404 j → ∃ d : Nat, d < 128 ∧ (∃ y : Int, 0 ≤ y ∧ y ≤ 5 ∧ BS j y d) ∧ iC t 404 d = iC t 404 j - 1 ∧ iC t 399 d = 0) ∧ ∀ i : Nat, i < 128 → (i : Int) < n → 0 ≤ iC t 404 (iC t 232 i).toNat ∧ iC t 399 (iC t 232 i).toNat = 0
theorem FB_fm {L M : List Nat} {s t : PS} {n : Int} (F : Fm L M s t) (h : 404 ∉ M ∧ 399 ∉ M ∧ 232 ∉ M) (r : FB s n) : FB t n := by
  obtain ⟨r1, r2, r3, r4⟩ := r
  have e1 : ∀ j, iC t 404 j = iC s 404 j := fun j => fm_c F h.1
  have e2 : ∀ j, iC t 399 j = iC s 399 j := fun j => fm_c F h.2.1
  have e3 : ∀ j, iC t 232 j = iC s 232 j := fun j => fm_c F h.2.2
  refine ⟨?_, fun j hj => by rw [e1]; exact r2 j hj, fun j hj h1 => ?_, fun i hi h1 => by rw [e3, e1, e2]; exact r4 i hi h1⟩
  · rw [← r1]; exact sm_eq (fun j _ => by unfold rch; rw [e1])
  · rw [e1] at h1
    obtain ⟨d, d1, d2, d3, d4⟩ := r3 j hj h1
    exact ⟨d, d1, d2, by rw [e1, e1]; exact d3, by rw [e2]; exact d4⟩
theorem FB_0 {t : PS} {b : Int} {t1 t2 : PS} (hb : 0 ≤ b ∧ b ≤ 127) (h0 : ∀ j, j < 128 → iC t 404 j = -1) (hs : iC t 399 (b : Int).toNat = 0) (e1 : t1 = uC t 404 (b : Int).toNat (Int32.ofInt 0)) (e2 : t2 = uC t1 232 (0 : Int).toNat (Int32.ofInt b)) : FB t2 1 := by
  have a1 : ∀ j, iC t2 404 j = iC t1 404 j := fun j => by rw [e2]; exact iC_a (by decide)
  have a2 : ∀ j, iC t2 399 j = iC t 399 j := fun j => by rw [e2, iC_a (by decide), e1]; exact iC_a (by decide)
  have b0 : iC t1 404 (b : Int).toNat = 0 := by rw [e1]; exact iC_u ⟨by omega, by omega⟩
  have b1 : ∀ j, j ≠ (b : Int).toNat → iC t1 404 j = iC t 404 j := fun j hj => by rw [e1]; exact iC_n hj
  refine ⟨?_, fun j hj => ?_, fun j hj h1 => ?_, fun i hi h1 => ?_⟩
  · show sm (rch t2) 128 = 1
    have z : sm (rch t) 128 = 0 := sm_0 (fun j hj => by unfold rch; rw [if_pos (h0 j hj)])
    have u := sm_up (f := rch t) (g := rch t2) (i := (b : Int).toNat) (fun j hj => by unfold rch; rw [a1, b1 j hj]) (n := 128) (by omega)
    rw [z] at u
    rw [u]
    unfold rch
    rw [a1, b0, if_pos (h0 _ (by omega)), if_neg (by decide)]
    rfl
  · rw [a1]
    by_cases e : j = (b : Int).toNat
    · rw [e, b0]; decide
    · rw [b1 j e, h0 j hj]; decide
  · exfalso
    rw [a1] at h1
    by_cases e : j = (b : Int).toNat
    · rw [e, b0] at h1; omega
    · rw [b1 j e, h0 j hj] at h1; omega
  · have ei : i = (0 : Int).toNat := by show i = 0; omega
    rw [ei, a1, a2]
    rw [show iC t2 232 (0 : Int).toNat = b by rw [e2]; exact iC_u ⟨by omega, by omega⟩]
    rw [b0]
    exact ⟨by decide, hs⟩
/-- one cell more -/
theorem FB_up {t t1 t2 : PS} {n x y d : Int} (I : Bd t) (r : FB t n) (hn : 1 ≤ n ∧ n ≤ 127) (hx : 0 ≤ x ∧ x ≤ 127) (hd : 0 ≤ d ∧ d ≤ 127) (hs : iC t 399 (d : Int).toNat = 0) (hf : iC t 404 (d : Int).toNat = -1) (hB : BS x y d) (hx1 : 0 ≤ iC t 404 (x : Int).toNat) (hx2 : iC t 399 (x : Int).toNat = 0) (e1 : t1 = uC t 404 (d : Int).toNat (Int32.ofInt (iC t 404 (x : Int).toNat + 1))) (e2 : t2 = uC t1 232 (n : Int).toNat (Int32.ofInt d)) : FB t2 (n + 1) := by
  obtain ⟨r1, r2, r3, r4⟩ := r
  have hxb := r2 (x : Int).toNat (by omega)
  have a1 : ∀ j, iC t2 404 j = iC t1 404 j := fun j => by rw [e2]; exact iC_a (by decide)
  have a2 : ∀ j, iC t2 399 j = iC t 399 j := fun j => by rw [e2, iC_a (by decide), e1]; exact iC_a (by decide)
  have b0 : iC t1 404 (d : Int).toNat = iC t 404 (x : Int).toNat + 1 := by rw [e1]; exact iC_u ⟨by omega, by omega⟩
  have b1 : ∀ j, j ≠ (d : Int).toNat → iC t1 404 j = iC t 404 j := fun j hj => by rw [e1]; exact iC_n hj
  have hne : (x : Int).toNat ≠ (d : Int).toNat := fun q => by rw [q, hf] at hx1; omega
  refine ⟨?_, fun j hj => ?_, fun j hj h1 => ?_, fun i hi h1 => ?_⟩
  · show sm (rch t2) 128 = n + 1
    have u := sm_up (f := rch t) (g := rch t2) (i := (d : Int).toNat) (fun j hj => by unfold rch; rw [a1, b1 j hj]) (n := 128) (by omega)
    have u0 : sm (rch t) 128 = n := r1
    rw [u0] at u
    rw [u]
    have v1 : rch t (d : Int).toNat = 0 := by unfold rch; rw [if_pos hf]
    have v2 : rch t2 (d : Int).toNat = 1 := by unfold rch; rw [a1, b0, if_neg (by omega)]
    omega
  · rw [a1]
    by_cases e : j = (d : Int).toNat
    · rw [e, b0]; omega
    · rw [b1 j e]; have := r2 j hj; omega
  · rw [a1] at h1
    by_cases e : j = (d : Int).toNat
    · obtain ⟨z, z0, z1, z2⟩ := bs_sym hx (by omega) hB
      have ej : (j : Int) = d := by omega
      refine ⟨(x : Int).toNat, by omega, ⟨z, z0, z1, by rw [ej, Int.toNat_of_nonneg hx.1]; exact z2⟩, ?_, by rw [a2]; exact hx2⟩
      rw [a1, a1, e, b0, b1 _ hne]; omega
    · rw [b1 j e] at h1
      obtain ⟨c, c1, c2, c3, c4⟩ := r3 j hj h1
      have hc : c ≠ (d : Int).toNat := fun q => by rw [q, hf] at c3; omega
      exact ⟨c, c1, c2, by rw [a1, a1, b1 j e, b1 c hc]; exact c3, by rw [a2]; exact c4⟩
  · by_cases e : i = (n : Int).toNat
    · rw [e, show iC t2 232 (n : Int).toNat = d by rw [e2]; exact iC_u ⟨by omega, by omega⟩, a1, a2, b0]
      exact ⟨by omega, hs⟩
    · have eh : iC t2 232 i = iC t 232 i := by rw [e2, iC_n e, e1]; exact iC_a (by decide)
      obtain ⟨g1, g2⟩ := r4 i hi (by omega)
      have hc : (iC t 232 i).toNat ≠ (d : Int).toNat := fun q => by rw [q, hf] at g1; omega
      rw [eh, a1, a2, b1 _ hc]
      exact ⟨g1, g2⟩
theorem FB_le {t : PS} {n : Int} (r : FB t n) {d : Nat} (hd : d < 128) (hf : iC t 404 d = -1) : n ≤ 127 := by
  rw [← r.1]
  exact sm_lt (i := d) (n := 128) (by unfold rch; rw [if_pos hf]; decide) hd (fun j _ => by unfold rch; split <;> decide)
section M61
variable {l : Launch} {s0 : State} {D : va_G} {tys : List (ClassId × FieldType)} {a0 : Array Value} {A : Nat → Nat} {dT : Nat → ClassId} {s : PS}
end M61
