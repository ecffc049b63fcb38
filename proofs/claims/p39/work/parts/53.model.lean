section
/-! Contracts out of the determined ones -/
theorem lt1000 {L : List Nat} (h : L.all (fun x => Nat.blt x 1000) = true) (k : Nat) : k + 1000 ∉ L := fun hk => by
  have h1 := Nat.blt_eq.mp (List.all_eq_true.mp h _ hk)
  omega
theorem k_of_d2 {l : Launch} {s0 : State} {D : va_G} {A : Nat → Nat} {dT : Nat → ClassId} {mn : Nat} {rm : Room} {L M : List Nat} {To : TT} {vals : List Value} {s : PS} {Q : mb_O → PS → Prop} (b : Bd s) (hF : ∀ o t, Q o t → Fm L M s t) (hl : L.all (fun x => Nat.blt x 1000) = true) (hm : M.all (fun x => Nat.blt x 1000) = true) (h1 : ∀ q, To.1 q) (h2 : ∀ a j, To.2 a j) (h : CD l s0 D A dT mn rm L M TA To vals s Q) : CT l s0 D A dT mn rm vals s Q := by
  obtain ⟨o, g', q, w⟩ := h
  have := w s (AGr_rf _ _) b
  refine MB_mono this (fun o' ws hk => ?_)
  obtain ⟨t, e, e1, bt, ft, r⟩ := hk
  refine ⟨t, e, ?_⟩
  rw [e1]
  have fg := hF o g' q
  have a1 : g'.1 = t.1 := funext fun q => (r.1 q (h1 q)).symm
  have a2 : g'.2.2.1 = t.2.2.1 := funext fun a => funext fun j => (r.2 a j (h2 a j)).symm
  have a3 : pX g' = pX t := fg.2.2.1.trans ft.2.2.1.symm
  have a4 : g'.2.1 = t.2.1 := funext fun k => (fg.2.2.2.1 k (lt1000 hl k)).trans (ft.2.2.2.1 k (lt1000 hl k)).symm
  have a5 : g'.2.2.2.1 = t.2.2.2.1 := funext fun a => (fg.2.2.2.2 a (lt1000 hm a)).trans (ft.2.2.2.2 a (lt1000 hm a)).symm
  have et : g' = t := by
    clear q w this bt ft r fg e
    obtain ⟨x1, x2, x3, x4, x5⟩ := g'
    obtain ⟨y1, y2, y3, y4, y5⟩ := t
    cases a1; cases a2; cases a3; cases a4; cases a5
    rfl
  rw [← et]; exact q
theorem ta_i {l : List Nat} : ∀ q ∈ l, TA.1 q := fun _ _ => trivial
theorem ta_a {l : List Nat} : ∀ a ∈ l, ∀ j, j < (bA a).2.2 → TA.2 a j := fun _ _ _ _ => trivial
theorem ta_n {s : PS} : OKN TA s := fun _ _ _ => ⟨trivial, trivial, fun _ _ => trivial, fun _ _ => trivial⟩
section M53
variable {l : Launch} {s0 : State} {D : va_G} {tys : List (ClassId × FieldType)} {a0 : Array Value} {A : Nat → Nat} {dT : Nat → ClassId} {s : PS}
theorem k_load (G : GX l s0 D tys a0 dT) (I : Bd s) (jNW : NW s)  : CT l s0 D A dT 228 (rmN 228) [.ref (A 179)] s (fun o t => Bd t ∧ Fm [77, 75, 78, 79, 80, 81] [161] s t ∧ NW t ∧ ∃ e, o = .inl (some (.int (Int32.ofInt e))) ∧ rng e ∧ (True)) := by
  exact k_of_d2 (To := TU TA 161 7) I (fun o t h => h.2.1) (by decide) (by decide) (fun _ => trivial) (fun _ _ => Or.inr trivial) (d_load (T := TA) G I jNW ta_i ta_a ta_n)
theorem k_pairsOf (G : GX l s0 D tys a0 dT) (I : Bd s) (jNW : NW s) {x : Int} (p0 : 0 ≤ x ∧ x ≤ 5) : CT l s0 D A dT 266 (rmN 266) [.ref (A 179), .int (Int32.ofInt x)] s (fun o t => Bd t ∧ Fm [77, 75, 78, 79, 80, 81, 89] [161, 230] s t ∧ NW t ∧ ∃ e, o = .inl (some (.int (Int32.ofInt e))) ∧ rng e ∧ (-1 ≤ e ∧ e ≤ 8 ∧ (iI s 89 = 1 → iI t 89 = 1))) := by
  exact k_of_d2 (To := TA) I (fun o t h => h.2.1) (by decide) (by decide) (fun _ => trivial) (fun _ _ => trivial) (d_pairsOf (T := TA) G I jNW p0 ta_i ta_a ta_n)
end M53
end
section
theorem oq_8bddf595 {a0 a1 : Int} (h0 : a0 ≤ a1) (h1 : a1 ≤ 200) : a0 ≤ 390 := by omega
theorem oq_36461835 {a0 a1 a2 a3 a4 : Int} (h0 : a0 = a1) (h1 : a1 = a2) (h2 : a2 = a3) (h3 : a3 = a4) (h4 : a4 ≠ 8) (h5 : a4 ≤ 8) : (a0 + 1) ≤ 8 := by omega
theorem oq_971796bb {a0 a1 a2 a3 a4 : Int} (h0 : a0 = a1) (h1 : a1 ≠ 0) (h2 : 0 ≤ a1) : (a0 = 0 → (a2 < a3 ∧ a3 ≤ a4)) := by omega
theorem oq_56cdf1d3 {a0 a1 a2 a3 a4 a5 : Int} (h0 : a0 = a1) (h1 : a1 = a2) (h2 : a2 = a3) (h3 : a3 = a4) (h4 : a4 = a5) (h5 : a5 ≠ 8) (h6 : a5 ≤ 8) : (a0 + 1) ≤ 8 := by omega
theorem oq_fa715ff6 {a0 a1 a2 a3 : Int} (h0 : a0 = a1) (h1 : a1 = a2) (h2 : a2 = a3) (h3 : a3 ≠ 8) (h4 : a3 ≤ 8) : (a0 + 1) ≤ 8 := by omega
theorem oq_0f72f93b {a0 a1 a2 a3 : Int} (h0 : a0 = a1) (h1 : a1 = a2) (h2 : a2 = a3) (h3 : a3 = 0) (h4 : 0 ≤ a3) : a0 = 0 := by omega
theorem oq_f7664523 {a0 a1 a2 a3 : Int} (h0 : a0 ≠ 0) (h1 : 0 ≤ a0) : (a0 = 0 → (a1 < a2 ∧ a2 ≤ a3)) := by omega
theorem oq_7f1a346e {a0 a1 a2 a3 a4 a5 a6 a7 : Int} (h0 : a0 = a1) (h1 : a2 = a3) (h2 : a1 = a4) (h3 : a3 = a5) (h4 : a4 = a6) (h5 : a5 = a7) (h6 : a6 ≤ a7) : a0 ≤ a2 := by omega
theorem oq_d0299403 {a0 a1 a2 a3 a4 : Int} (h0 : a0 = a1) (h1 : a1 = a2) (h2 : a2 = a3) (h3 : a3 = a4) (h4 : a4 = 0) (h5 : 0 ≤ a4) : a0 = 0 := by omega
theorem oq_969cff60 {a0 a1 a2 a3 a4 a5 a6 a7 a8 a9 : Int} (h0 : a0 = a1) (h1 : a2 = a3) (h2 : a1 = a4) (h3 : a3 = a5) (h4 : a4 = a6) (h5 : a5 = a7) (h6 : a6 = a8) (h7 : a7 = a9) (h8 : a8 ≤ a9) : a0 ≤ a2 := by omega
theorem oq_7fe879e0 {a0 a1 a2 : Int} (h0 : a0 = a1) (h1 : a1 = a2) (h2 : a2 = 0) (h3 : 0 ≤ a2) : a0 = 0 := by omega
theorem oq_333640b7 {a0 a1 : Int} (h0 : a0 = a1) (h1 : a1 = 0) (h2 : 0 ≤ a1) : a0 = 0 := by omega
theorem oq_e7b9ecab {a0 a1 a2 a3 : Int} (h0 : a0 = a1) (h1 : a2 = a3) (h2 : a3 ≤ a1) : a2 ≤ a0 := by omega
theorem oq_5b7b6df3 {a0 a1 a2 a3 a4 a5 a6 : Int} (h0 : a0 = a1) (h1 : a2 ≤ a3) (h2 : 0 ≤ a1) (h3 : (a1 = 0 → (a4 < a2 ∧ a2 ≤ a5))) (h4 : a4 ≤ a2) (h5 : a6 = 0) : ((400 - a3) + (9 - a0)) < ((400 - a4) + (9 - a6)) := by omega
theorem oq_faaf1092 {a0 a1 : Int} (h0 : a0 = 0) (h1 : a1 ≤ 400) : 0 < ((400 - a1) + (9 - a0)) := by omega
theorem oq_b3df2c6f {a0 a1 : Int} (h0 : a0 = a1) (h1 : 0 ≤ a1) : (-2147483648) ≤ a0 := by omega
theorem oq_b1fe1193 {a0 a1 : Int} (h0 : a0 = a1) (h1 : a1 ≤ 200) : a0 ≤ 200 := by omega
theorem oq_1cee15ac {a0 a1 a2 a3 : Int} (h0 : a0 = a1) (h1 : a1 = a2) (h2 : a2 = a3) (h3 : a3 = 0) : a0 ≤ 390 := by omega
theorem oq_d9a35dd1 {a0 a1 a2 a3 a4 a5 : Int} (h0 : a0 = a1) (h1 : a1 = a2) (h2 : a2 = a3) (h3 : a3 = a4) (h4 : a4 = a5) (h5 : a5 = 0) : a0 = 0 := by omega
theorem oq_606f3a06 {a0 a1 a2 a3 a4 a5 a6 : Int} (h0 : a0 = a1) (h1 : a2 = a3) (h2 : a1 = a4) (h3 : a3 = a5) (h4 : a5 = a6) (h5 : a4 = 0) (h6 : a6 = 0) : a0 ≤ a2 := by omega
theorem oq_9a94ea72 {a0 a1 : Int} (h0 : a0 ≤ a1) (h1 : a1 ≤ 200) : a0 ≤ 200 := by omega
theorem oq_d3c9ade5 {a0 : Int} (h0 : 0 ≤ a0) : (-2147483648) ≤ (a0 - 10) := by omega
theorem oq_71609f9f {a0 : Int} (h0 : a0 ≤ 9) : (a0 - 10) ≤ 2147483647 := by omega
/-! The model: rules -/
section M54
variable {l : Launch} {s0 : State} {D : va_G} {tys : List (ClassId × FieldType)} {a0 : Array Value} {A : Nat → Nat} {dT : Nat → ClassId} {s : PS}
end M54
end
section
theorem oq_c9c52c8f {a0 : Int} (h0 : a0 ≤ 203) : a0 ≤ 380 := by omega
theorem oq_fed65c02 {a0 a1 : Int} (h0 : a0 = a1) (h1 : 1 ≤ a1) : 1 ≤ a0 := by omega
theorem oq_210fcd76 {a0 a1 : Int} (h0 : a0 = a1) (h1 : a1 ≤ 11) : a0 < 12 := by omega
theorem oq_cba5df33 {a0 a1 : Int} (h0 : a0 = a1) (h1 : a1 ≤ 11) : (a0 : Int).toNat < 12 := by omega
theorem oq_f5ee3737 {a0 a1 a2 a3 : Int} (h0 : a0 = a1) (h1 : a2 = a3) (h2 : a3 = a1) : a2 = a0 := by omega
theorem oq_e2284db0 {a0 a1 a2 : Int} (h0 : a0 = a1) (h1 : a1 = a2) (h2 : a2 ≤ 11) : a0 < 12 := by omega
theorem oq_29bc6d1f {a0 a1 a2 : Int} (h0 : a0 = a1) (h1 : a1 = a2) (h2 : a2 ≤ 11) : (a0 : Int).toNat < 12 := by omega
theorem oq_123e5d3a {a0 a1 a2 a3 a4 : Int} (h0 : a0 = a1) (h1 : a2 = a3) (h2 : a1 = a4) (h3 : a3 = a4) : a2 = a0 := by omega
theorem oq_24bf7586 {a0 a1 : Int} (h0 : ((100 ≤ a0 ∧ a1 = 100) ∨ (a0 < 100 ∧ ((0 ≤ a0 ∧ a0 ≤ 200) ∧ a1 = a0)))) (h1 : 0 ≤ a0) : (-2147483648) ≤ a1 := by omega
theorem oq_1539ade6 {a0 a1 : Int} (h0 : ((100 ≤ a0 ∧ a1 = 100) ∨ (a0 < 100 ∧ ((0 ≤ a0 ∧ a0 ≤ 200) ∧ a1 = a0)))) : a1 ≤ 2147483647 := by omega
theorem oq_c2d9d76f {a0 a1 : Int} (h0 : a0 = a1) (h1 : a1 = 0) : a0 ≤ 390 := by omega
theorem oq_fe2501c1 {a0 a1 a2 a3 a4 a5 a6 : Int} (h0 : a0 = a1) (h1 : a1 = a2) (h2 : a2 = a3) (h3 : a3 = a4) (h4 : a4 = a5) (h5 : a5 = a6) (h6 : a6 = 0) : a0 = 0 := by omega
theorem oq_3a510cc0 {a0 a1 a2 a3 : Int} (h0 : a0 = a1) (h1 : a1 = a2) (h2 : a2 = a3) (h3 : a3 = 1) : 1 ≤ a0 := by omega
theorem oq_f6b042d5 {a0 a1 a2 : Int} (h0 : a0 = a1) (h1 : a2 = a1) : a2 = a0 := by omega
theorem oq_6a44be7e {a0 a1 : Int} (h0 : a0 = a1) (h1 : a1 ≤ 11) : (a0 + 1) ≤ 12 := by omega
theorem oq_76a8a5b7 {a0 : Int} (h0 : a0 ≤ 12) : (a0 + 1) ≤ 2147483647 := by omega
/-! The model: stream -/
def TDF (t : PS) : Prop := iI t 79 = 0 → TD t
theorem RLx_m {s : PS} {i : Nat} {x : Int32} (r : RLx s) (hi : iI s 90 ≤ (i : Int)) : RLx (uC s 162 i x) := fun j hj hs => by
  obtain ⟨r1, r2⟩ := r j hj hs
  have hs' : (j : Int) < iI s 90 := hs
  exact ⟨by rw [iC_n (by omega)]; exact r1, fun c hc => by rw [iC_n (by omega), iC_a (by omega)]; exact r2 c hc⟩
theorem RLx_l {s : PS} {k i : Nat} {x : Int32} (r : RLx s) (hi : iI s 90 ≤ (k : Int)) : RLx (uC s (178 + k) i x) := fun j hj hs => by
  obtain ⟨r1, r2⟩ := r j hj hs
  have hs' : (j : Int) < iI s 90 := hs
  by_cases e : 162 = 178 + k
  · omega
  · exact ⟨by rw [iC_a e]; exact r1, fun c hc => by rw [iC_a e, iC_a (by omega)]; exact r2 c hc⟩
theorem RLx_up {s : PS} {n : Int} (r : RLx s) (hn : iI s 90 = n) (h0 : 0 ≤ n ∧ n ≤ 11) (h1 : 1 ≤ iC s 162 (n : Int).toNat) (h2 : ∀ i : Nat, i < 128 → iC s (178 + (n : Int).toNat) i < iC s 162 (n : Int).toNat) : RLx (uI s 90 (Int32.ofInt (n + 1))) := fun j hj hs => by
  rw [iI_u ⟨by omega, by omega⟩] at hs
  show RW1 s j
  by_cases e : (j : Int) < n
  · exact r j hj (by omega)
  · have ej : j = (n : Int).toNat := by omega
    rw [ej]
    exact ⟨h1, h2⟩
theorem RLx_w {s : PS} {a i : Nat} {x : Int32} (r : RLx s) (h : a ≠ 162 ∧ ∀ j, j < 12 → 178 + j ≠ a) : RLx (uC s a i x) := fun j hj hs => by
  obtain ⟨r1, r2⟩ := r j hj hs
  exact ⟨by rw [iC_a (Ne.symm h.1)]; exact r1, fun c hc => by rw [iC_a (Ne.symm h.1), iC_a (h.2 j hj)]; exact r2 c hc⟩
section M55
variable {l : Launch} {s0 : State} {D : va_G} {tys : List (ClassId × FieldType)} {a0 : Array Value} {A : Nat → Nat} {dT : Nat → ClassId} {s : PS}
end M55
end
section
theorem oq_c69fe266 {a0 : Int} (h0 : a0 < 24) : a0 ≤ 23 := by omega
theorem oq_5b968bc5 {a0 a1 : Int} (h0 : a0 = 0) (h1 : (1 = 1 → a0 = 1)) : a1 ≤ 23 := by omega
theorem oq_4386d538 {a0 a1 : Int} (h0 : a0 = 0) (h1 : (1 = 1 → a0 = 1)) : (-2147483648) ≤ a1 := by omega
theorem oq_403037f8 {a0 a1 : Int} (h0 : a0 = 0) (h1 : (1 = 1 → a0 = 1)) : a1 ≤ 2147483647 := by omega
theorem oq_8b498cf6 {a0 a1 : Int} (h0 : a0 ≠ 0) (h1 : ((a0 = 1 ∧ (0 ≤ a1 ∧ a1 ≤ 23)) ∨ (a0 = 0 ∧ (a1 < 0 ∨ 23 < a1)))) : a1 ≤ 23 := by omega
theorem oq_b7ca6a19 {a0 a1 : Int} (h0 : a0 = 0) (h1 : (1 = 1 → a0 = 1)) : ((-2147483648) ≤ a1 ∧ a1 ≤ 2147483647) := by omega
theorem oq_888c5194 {a0 a1 a2 a3 : Int} (h0 : a0 = a1) (h1 : a1 = a2) (h2 : a2 = a3) (h3 : 1 ≤ a3) : (a3 = 1 → a0 = 1) := by omega
theorem oq_6febf996 {a0 a1 a2 a3 a4 : Int} (h0 : a0 = 0) (h1 : (a1 = 1 → a0 = 1)) (h2 : a1 ≤ 1) (h3 : ((a2 ≠ 0 ∧ a1 = 0) ∨ (a2 = 0 ∧ a1 = 1))) (h4 : ((a2 = 1 ∧ (0 ≤ a3 ∧ a3 ≤ (a4 - 1))) ∨ (a2 = 0 ∧ (a3 < 0 ∨ (a4 - 1) < a3)))) (h5 : a4 ≤ 6) : a3 ≤ 5 := by omega
theorem oq_5d374288 {a0 a1 a2 a3 a4 a5 a6 a7 : Int} (h0 : 1 ≤ a0) (h1 : (a1 = 1 → a0 = 1)) (h2 : a1 = a2) (h3 : a2 = a3) (h4 : a3 = a4) (h5 : a4 = a5) (h6 : a5 = a6) (h7 : a6 = a7) (h8 : 1 ≤ a7) : (a7 = 1 → a0 = 1) := by omega
theorem oq_746f139a {a0 a1 a2 a3 a4 a5 : Int} (h0 : a0 = a1) (h1 : a1 = a2) (h2 : a2 = a3) (h3 : a3 = a4) (h4 : a4 = a5) (h5 : 1 ≤ a5) : (a5 = 1 → a0 = 1) := by omega
theorem oq_4a4414da {a0 : Int} (h0 : a0 ≤ 4) : a0 ≤ 2147483647 := by omega
theorem oq_2ca8b5c0 {a0 : Int} (h0 : a0 ≤ 39) : a0 < 40 := by omega
theorem oq_453ddee4 {a0 : Int} (h0 : a0 < 4) : a0 < 7 := by omega
theorem oq_ca1d9e56 {a0 : Int} (h0 : a0 < 4) : (a0 : Int).toNat < 7 := by omega
theorem oq_09251224 {a0 : Int} (h0 : a0 ≤ 39) : (a0 : Int).toNat < 40 := by omega
theorem oq_5b7aaf9e {a0 : Int} (h0 : a0 < 4) : (a0 + 1) ≤ 4 := by omega
theorem oq_bcf6953c {a0 a1 : Int} (h0 : a0 = a1) (h1 : a1 ≤ 39) : a0 ≤ 39 := by omega
theorem oq_de1b25d0 {a0 : Int} (h0 : a0 < 4) : 0 < (4 - a0) := by omega
theorem oq_e7509aa9 {a0 a1 : Int} (h0 : a0 = a1) (h1 : a1 ≤ 39) : a0 < 40 := by omega
theorem oq_44ae331b {a0 a1 a2 : Int} (h0 : a0 = a1) (h1 : a1 = a2) (h2 : a2 ≤ 39) : (a0 + 1) ≤ 40 := by omega
theorem oq_c01d6c28 {a0 : Int} (h0 : a0 ≤ 40) : (a0 + 1) ≤ 2147483647 := by omega
theorem oq_86f8893e {a0 : Int} (h0 : a0 ≤ 40) : (a0 - 1) ≤ 2147483647 := by omega
theorem oq_db4b3b8b {a0 : Int} (h0 : a0 < 8) : (a0 : Int).toNat < 8 := by omega
/-! The model: peaks -/
section M56
variable {l : Launch} {s0 : State} {D : va_G} {tys : List (ClassId × FieldType)} {a0 : Array Value} {A : Nat → Nat} {dT : Nat → ClassId} {s : PS}
set_option maxRecDepth 4000 in
theorem k_pairs (G : GX l s0 D tys a0 dT) (I : Bd s) (jRLx : RLx s) {x y : Int} (p0 : rng x) (p1 : rng y) : CT l s0 D A dT 267 (rmN 267) [.ref (A 179), .int (Int32.ofInt x), .int (Int32.ofInt y)] s (fun o t => Bd t ∧ Fm [73, 89, 77, 75, 78, 79, 80, 81] [202, 204, 205, 206, 207, 208, 209, 210, 211, 212, 213, 214, 215, 216, 217, 218, 219, 220, 221, 222, 223, 224, 225, 226, 227, 203, 161, 230] s t ∧ RLx t ∧ ∃ e, o = .inl (some (.int (Int32.ofInt e))) ∧ rng e ∧ (iI s 89 = 1 → iI t 89 = 1)) := by
  refine ct_of G (by decide) (Nat.le_of_ble_eq_true rfl) (fun k X E hRt hXt q => ?_)
  show WS k 0 [(0, .ref (A 179)), (1, .int (Int32.ofInt x)), (2, .int (Int32.ofInt y))] [] _ 0 0
  have F : Fm [73, 89, 77, 75, 78, 79, 80, 81] [202, 204, 205, 206, 207, 208, 209, 210, 211, 212, 213, 214, 215, 216, 217, 218, 219, 220, 221, 222, 223, 224, 225, 226, 227, 203, 161, 230] s s := fm_rf _ _ s
  have b1 := bi_73 I
  have b2 := bi_99 I
  have b3 := bi_89 I
  refine z_aload_n X (x := A 179) rfl (List.Mem.head _) (z_const X rfl (s_putI X 179 rfl (c518_ok rfl) rfl rfl (by decide) rfl rfl rfl (wd_gen (fun s4 hs4 => ?_))))
  have Is4 : Bd s4 := eqB hs4 (bd_I I (show (0 : Int) ≤ 0 ∧ 0 ≤ 3 by first | exact ⟨by decide, by decide⟩ | omega) (by decide))
  have Fs4 := eqF hs4 (fm_I F (inl_ok (a := 73) rfl))
  have vs4 : iI s4 73 = 0 := eqI hs4 (iI_u (by decide))
  have ws4_99 : iI s4 99 = iI s 99 := eqI hs4 rfl
  have ws4_89 : iI s4 89 = iI s 89 := eqI hs4 rfl
  have fs4 : Fm [73] [] s s4 := by rw [hs4]; exact fm_I (fm_rf _ _ _) (show 73 ∈ _ by decide)
  have JRLx_s4 : RLx s4 := RLx_fm fs4 (by decide) jRLx
  refine z_aload_n X (x := A 179) rfl (List.Mem.head _) (z_load_n X (x := x) rfl (List.Mem.tail _ (List.Mem.head _)) (z_const X rfl (z_aload_n X (x := A 179) rfl (List.Mem.head _) (z_getI X 179 rfl (c518_ok rfl) rfl rfl ?_))))
  have b5 := bi_99 Is4
  refine z_const X rfl (z_sub X rfl (zcS_i0 X E (As := [.int (Int32.ofInt x), .int (Int32.ofInt 0), .int (Int32.ofInt ((iI s4 99) - 1))]) (st := [.ref (A 179)]) rfl rfl (k_in G Is4 (by first | exact ⟨p0.1, p0.2⟩ | omega) (by first | exact ⟨by decide, by decide⟩ | omega) (by first | exact ⟨oq_c1e961c7 b5.1, oq_b383b26c b5.2⟩ | omega)) rfl (Nat.le_of_ble_eq_true rfl) (fun s6 e7 Is6 Fs6 hrs6 hps6 => ?_)))
  have Gs6 := fm_tq Fs4 Fs6 rfl rfl
  have JRLx_s6 : RLx s6 := RLx_fm Fs6 (by decide) JRLx_s4
  have ws6_73 : iI s6 73 = iI s4 73 := fm_iq Fs6 rfl
  have ws6_99 : iI s6 99 = iI s4 99 := fm_iq Fs6 rfl
  have ws6_89 : iI s6 89 = iI s4 89 := fm_iq Fs6 rfl
  have N8 : ∀ e9 : Int, (((e7 ≠ 0) ∧ e9 = 0) ∨ ((e7 = 0) ∧ e9 = 1)) → WS k 25 [(0, .ref (A 179)), (1, .int (Int32.ofInt x)), (2, .int (Int32.ofInt y))] [.int (Int32.ofInt e9), .ref (A 179)] (Wd A dT s6) 0 0 := by
    intro e9 he9
    have re9 : 0 ≤ e9 ∧ e9 ≤ 1 := by first | (clear he9 hps6; omega) | (clear hps6; omega) | omega
    refine z_const X rfl (zcV_i0 X E 179 (As := [.int (Int32.ofInt e9), .int (Int32.ofInt 1)]) (st := []) rfl rfl rfl rfl (k_bad G Is6 (by first | exact oq_31e518ae re9.2 re9.1 | omega) (by first | exact ⟨by decide, by decide⟩ | omega)) rfl (Nat.le_of_ble_eq_true rfl) (fun s10 e11 Is10 Fs10 hrs10 hps10 => ?_))
    have Gs10 := fm_tq Gs6 Fs10 rfl rfl
    have JRLx_s10 : RLx s10 := RLx_fm Fs10 (by decide) JRLx_s6
    have b12 := bi_73 Is10
    have ws10_99 : iI s10 99 = iI s6 99 := fm_iq Fs10 rfl
    have ws10_89 : iI s10 89 = iI s6 89 := fm_iq Fs10 rfl
    refine z_if_ne X (t := 55) rfl rfl hrs10 (fun g13 => ?_) (fun g13 => ?_)
    ·
      refine z_const X rfl ?_
      exact w_iret X.1 q hRt rfl (ax_d X (show cdA 267 56 = some (.ireturn, 1, 0, 0, 0) from rfl)) (Nat.zero_le _) (Nat.zero_le _) ⟨_, rfl, Is10, Gs10, JRLx_s10, 0, rfl, (by decide), by first | exact oq_888c5194 ws10_89 ws6_89 ws4_89 b3.1 | omega⟩
    ·
      refine z_aload_n X (x := A 179) rfl (List.Mem.head _) (z_load_n X (x := y) rfl (List.Mem.tail _ (List.Mem.tail _ (List.Mem.head _))) (z_const X rfl (z_bipush X rfl (zcS_i0 X E (As := [.int (Int32.ofInt y), .int (Int32.ofInt 0), .int (Int32.ofInt 23)]) (st := [.ref (A 179)]) rfl rfl (k_in G Is10 (by first | exact ⟨p1.1, p1.2⟩ | omega) (by first | exact ⟨by decide, by decide⟩ | omega) (by first | exact ⟨by decide, by decide⟩ | omega)) rfl (Nat.le_of_ble_eq_true rfl) (fun s14 e15 Is14 Fs14 hrs14 hps14 => ?_)))))
      have Gs14 := fm_tq Gs10 Fs14 rfl rfl
      have JRLx_s14 : RLx s14 := RLx_fm Fs14 (by decide) JRLx_s10
      have ws14_73 : iI s14 73 = iI s10 73 := fm_iq Fs14 rfl
      have ws14_99 : iI s14 99 = iI s10 99 := fm_iq Fs14 rfl
      have ws14_89 : iI s14 89 = iI s10 89 := fm_iq Fs14 rfl
      have N16 : ∀ e17 : Int, (((e15 ≠ 0) ∧ e17 = 0) ∨ ((e15 = 0) ∧ e17 = 1)) → WS k 48 [(0, .ref (A 179)), (1, .int (Int32.ofInt x)), (2, .int (Int32.ofInt y))] [.int (Int32.ofInt e17), .ref (A 179)] (Wd A dT s14) 0 0 := by
        intro e17 he17
        have re17 : 0 ≤ e17 ∧ e17 ≤ 1 := by first | (clear he17 hps14 hps10 he9 hps6; omega) | (clear hps14 hps10 he9 hps6; omega) | omega
        refine z_const X rfl (zcV_i0 X E 179 (As := [.int (Int32.ofInt e17), .int (Int32.ofInt 2)]) (st := []) rfl rfl rfl rfl (k_bad G Is14 (by first | exact oq_31e518ae re17.2 re17.1 | omega) (by first | exact ⟨by decide, by decide⟩ | omega)) rfl (Nat.le_of_ble_eq_true rfl) (fun s18 e19 Is18 Fs18 hrs18 hps18 => ?_))
        have Gs18 := fm_tq Gs14 Fs18 rfl rfl
        have JRLx_s18 : RLx s18 := RLx_fm Fs18 (by decide) JRLx_s14
        have b20 := bi_73 Is18
        have ws18_99 : iI s18 99 = iI s14 99 := fm_iq Fs18 rfl
        have ws18_89 : iI s18 89 = iI s14 89 := fm_iq Fs18 rfl
        refine z_if_eq X (t := 57) rfl rfl hrs18 (fun g21 => ?_) (fun g21 => ?_)
        ·
          refine z_aload_n X (x := A 179) rfl (List.Mem.head _) (z_load_n X (x := y) rfl (List.Mem.tail _ (List.Mem.tail _ (List.Mem.head _))) (zcV_v2 X E 179 (As := [.int (Int32.ofInt y)]) (st := []) rfl rfl rfl rfl (k_asTold G Is18 JRLx_s18 (by first | exact ⟨oq_4c4e29f5 g21 hps18.2.1 re17.2 he17 hps14, oq_3a13f1ce g21 hps18.2.1 re17.2 he17 hps14⟩ | omega)) rfl (Nat.le_of_ble_eq_true rfl) (fun s22 Is22 Fs22 JRLx_s22 JNQ_s22 hps22 => ?_)))
          have Gs22 := fm_tq Gs18 Fs22 rfl rfl
          have JRLx_s22 : RLx s22 := RLx_fm Fs22 (by decide) JRLx_s18
          have ws22_73 : iI s22 73 = iI s18 73 := fm_iq Fs22 rfl
          have ws22_99 : iI s22 99 = iI s18 99 := fm_iq Fs22 rfl
          have ws22_89 : iI s22 89 = iI s18 89 := fm_iq Fs22 rfl
          refine z_aload_n X (x := A 179) rfl (List.Mem.head _) (z_load_n X (x := x) rfl (List.Mem.tail _ (List.Mem.head _)) ?_)
          have JNW_s22 : NW s22 := NW_of JNQ_s22 JRLx_s22
          refine zcV_i1 X E 179 (As := [.int (Int32.ofInt x)]) (st := []) rfl rfl rfl rfl (k_pairsOf G Is22 JNW_s22 (by first | exact ⟨oq_8280ce40 g13 hps10.2.1 re9.2 he9 hps6, oq_6febf996 g13 hps10.2.1 re9.2 he9 hps6 b5.2⟩ | omega)) rfl (Nat.le_of_ble_eq_true rfl) (fun s24 e25 Is24 Fs24 JNW_s24 hrs24 hps24 => ?_)
          have hps24p := And.intro hps24.1 (hps24.2.1)
          have Gs24 := fm_tq Gs22 Fs24 rfl rfl
          have JRLx_s24 : RLx s24 := RLx_fm Fs24 (by decide) JRLx_s22
          have JNW_s24 : NW s24 := NW_fm Fs24 (by decide) JNW_s22
          have ws24_73 : iI s24 73 = iI s22 73 := fm_iq Fs24 rfl
          have ws24_99 : iI s24 99 = iI s22 99 := fm_iq Fs24 rfl
          have b26 := bi_89 Is24
          exact w_iret X.1 q hRt rfl (ax_d X (show cdA 267 67 = some (.ireturn, 1, 0, 0, 0) from rfl)) (Nat.zero_le _) (Nat.zero_le _) ⟨_, rfl, Is24, Gs24, JRLx_s24, e25, rfl, hrs24, by first | exact oq_5d374288 b26.1 hps24.2.2 ws22_89 ws18_89 ws14_89 ws10_89 ws6_89 ws4_89 b3.1 | omega⟩
        ·
          refine z_const X rfl ?_
          exact w_iret X.1 q hRt rfl (ax_d X (show cdA 267 56 = some (.ireturn, 1, 0, 0, 0) from rfl)) (Nat.zero_le _) (Nat.zero_le _) ⟨_, rfl, Is18, Gs18, JRLx_s18, 0, rfl, (by decide), by first | exact oq_746f139a ws18_89 ws14_89 ws10_89 ws6_89 ws4_89 b3.1 | omega⟩
      refine z_if_ne X (t := 47) rfl rfl hrs14 (fun g27 => ?_) (fun g27 => ?_)
      ·
        exact z_const X rfl (N16 _ (Or.inl ⟨g27, rfl⟩))
      ·
        exact z_const X rfl (z_goto X (t := 48) rfl rfl (N16 _ (Or.inr (⟨g27, rfl⟩))))
  refine z_if_ne X (t := 24) rfl rfl hrs6 (fun g28 => ?_) (fun g28 => ?_)
  ·
    exact z_const X rfl (N8 _ (Or.inl ⟨g28, rfl⟩))
  ·
    exact z_const X rfl (z_goto X (t := 25) rfl rfl (N8 _ (Or.inr (⟨g28, rfl⟩))))
set_option maxRecDepth 4000 in
theorem k_isNoneFull (G : GX l s0 D tys a0 dT) (I : Bd s) (jNW : NW s)  : CT l s0 D A dT 283 (rmN 283) [.ref (A 179)] s (fun o t => Bd t ∧ Fm [77, 75, 78, 79, 80, 81] [161, 230] s t ∧ NW t ∧ ∃ e, o = .inl (some (.int (Int32.ofInt e))) ∧ rng e ∧ (e = 0 ∨ e = 1)) := by
  refine ct_of G (by decide) (Nat.le_of_ble_eq_true rfl) (fun k X E hRt hXt q => ?_)
  show WS k 0 [(0, .ref (A 179))] [] _ 0 0
  have F : Fm [77, 75, 78, 79, 80, 81] [161, 230] s s := fm_rf _ _ s
  have L2 : ∀ (n : Nat) (t : PS) (p : Int), Bd t → Fm [77, 75, 78, 79, 80, 81] [161, 230] s t → NW t → (0 ≤ p ∧ p ≤ 8) → (8 - p : Int).toNat < n → (∀ (t' : PS) (p' : Int), Bd t' → Fm [77, 75, 78, 79, 80, 81] [161, 230] s t' → NW t' → (0 ≤ p' ∧ p' ≤ 8) → WS k 42 [(0, .ref (A 179)), (1, .int (Int32.ofInt p'))] [] (Wd A dT t') 0 0) → WS k 2 [(0, .ref (A 179)), (1, .int (Int32.ofInt p))] [] (Wd A dT t) 0 0 := by
    intro n
    induction n with
    | zero =>
      intro t p I F jjNW hi hm kx
      exact absurd hm (Nat.not_lt_zero _)
    | succ n ih =>
      intro t p I F jjNW hi hm kx
      refine z_load_n X (x := p) rfl (List.Mem.tail _ (List.Mem.head _)) (z_bipush X rfl (z_icmp_ge X (t := 42) rfl rfl ⟨by first | exact oq_fa4e5087 hi.1 | omega, by first | exact oq_d3f5d874 hi.2 | omega⟩ (by decide) (fun g1001 => ?_) (fun g1001 => ?_)))
      ·
        refine WS_pq [0, 1] (lv' := [(0, .ref (A 179)), (1, .int (Int32.ofInt p))]) rfl ?_
        exact kx _ p I F jjNW (by first | exact ⟨hi.1, hi.2⟩ | omega)
      ·
        refine z_aload_n X (x := A 179) rfl (List.Mem.head _) (z_load_n X (x := p) rfl (List.Mem.tail _ (List.Mem.head _)) (zcV_v0 X E 179 (As := [.int (Int32.ofInt p)]) (st := []) rfl rfl rfl rfl (k_setOf G I (by first | exact ⟨oq_fa4e5087 hi.1, oq_7bea7075 g1001⟩ | omega)) rfl (Nat.le_of_ble_eq_true rfl) (fun s1002 Is1002 Fs1002 hps1002 => ?_)))
        have Gs1002 := fm_tq F Fs1002 rfl rfl
        have JNW_s1002 : NW s1002 := NW_fm Fs1002 (by decide) jjNW
        refine z_aload_n X (x := A 179) rfl (List.Mem.head _) (z_load_n X (x := p) rfl (List.Mem.tail _ (List.Mem.head _)) (zcV_i0 X E 179 (As := [.int (Int32.ofInt p)]) (st := []) rfl rfl rfl rfl (k_hasCells G Is1002 (by first | exact ⟨oq_fa4e5087 hi.1, oq_7bea7075 g1001⟩ | omega)) rfl (Nat.le_of_ble_eq_true rfl) (fun s1004 e1005 Is1004 Fs1004 hrs1004 hps1004 => ?_)))
        have Gs1004 := fm_tq Gs1002 Fs1004 rfl rfl
        have JNW_s1004 : NW s1004 := NW_fm Fs1004 (by decide) JNW_s1002
        refine z_if_eq X (t := 36) rfl rfl hrs1004 (fun g1006 => ?_) (fun g1006 => ?_)
        ·
          refine z_inc X (x := p) (lv' := [(1, .int (Int32.ofInt (p + 1))), (0, .ref (A 179))]) rfl (by decide) (List.Mem.tail _ (List.Mem.head _)) (fun _ h => h) (z_goto X (t := 2) rfl rfl (WS_pq [1, 0] (lv' := [(0, .ref (A 179)), (1, .int (Int32.ofInt (p + 1)))]) rfl ?_))
          exact ih _ (p + 1) Is1004 Gs1004 JNW_s1004 (by first | exact ⟨oq_54f49eb5 hi.1, oq_0c7b19c3 g1001⟩ | omega) (by first | exact qk_me hm (by decide) (oq_9f368f35 g1001) | omega) kx
        ·
          refine z_aload_n X (x := A 179) rfl (List.Mem.head _) (zcV_i1 X E 179 (As := []) (st := []) rfl rfl rfl rfl (k_load G Is1004 JNW_s1004 ) rfl (Nat.le_of_ble_eq_true rfl) (fun s1007 e1008 Is1007 Fs1007 JNW_s1007 hrs1007 hps1007 => ?_))
          have Gs1007 := fm_tq Gs1004 Fs1007 rfl rfl
          have JNW_s1007 : NW s1007 := NW_fm Fs1007 (by decide) JNW_s1004
          refine z_aload_n X (x := A 179) rfl (List.Mem.head _) (s_getR X 179 rfl (c518_ok rfl) rfl rfl (z_load_n X (x := p) rfl (List.Mem.tail _ (List.Mem.head _)) (z_ald X 257 rfl (c518_ok rfl) rfl (by first | exact hi.1 | omega) (show p < 8 by first | exact g1001 | omega) (cbig_ok rfl) ?_)))
          have b1009 := bc_229 Is1007 (show (p).toNat < 8 by first | exact oq_db4b3b8b g1001 | omega)
          refine z_icmp_le X (t := 36) rfl rfl hrs1007 (rng_to _) (fun g1010 => ?_) (fun g1010 => ?_)
          ·
            refine z_inc X (x := p) (lv' := [(1, .int (Int32.ofInt (p + 1))), (0, .ref (A 179))]) rfl (by decide) (List.Mem.tail _ (List.Mem.head _)) (fun _ h => h) (z_goto X (t := 2) rfl rfl (WS_pq [1, 0] (lv' := [(0, .ref (A 179)), (1, .int (Int32.ofInt (p + 1)))]) rfl ?_))
            exact ih _ (p + 1) Is1007 Gs1007 JNW_s1007 (by first | exact ⟨oq_54f49eb5 hi.1, oq_0c7b19c3 g1001⟩ | omega) (by first | exact qk_me hm (by decide) (oq_9f368f35 g1001) | omega) kx
          ·
            refine z_const X rfl ?_
            exact w_iret X.1 q hRt (nar_ret (by first | exact Or.inl (by decide) | omega)) (ax_d X (show cdA 283 35 = some (.ireturn, 1, 0, 0, 0) from rfl)) (Nat.zero_le _) (Nat.zero_le _) ⟨_, rfl, Is1007, Gs1007, JNW_s1007, 0, rfl, (by decide), by first | exact Or.inl (by decide) | omega⟩
  refine z_const X rfl (z_store_n X (lv' := [(1, .int (Int32.ofInt 0)), (0, .ref (A 179))]) rfl (by decide) (fun _ h => h) (WS_pq [1, 0] (lv' := [(0, .ref (A 179)), (1, .int (Int32.ofInt 0))]) rfl (L2 ((8 - 0 : Int).toNat + 1) s 0 I F jNW (by first | exact ⟨by decide, by decide⟩ | omega) (Nat.lt_succ_self _) ?_)))
  intro s1 x2 Is1 Fs1 JNW_s1 hs1
  refine z_const X rfl ?_
  exact w_iret X.1 q hRt (nar_ret (by first | exact Or.inr (by decide) | omega)) (ax_d X (show cdA 283 43 = some (.ireturn, 1, 0, 0, 0) from rfl)) (Nat.zero_le _) (Nat.zero_le _) ⟨_, rfl, Is1, Fs1, JNW_s1, 1, rfl, (by decide), by first | exact Or.inr (by decide) | omega⟩
end M56
end
section
theorem oq_19dc38cc {a0 a1 : Int} (h0 : a0 ≤ (127 - a1)) (h1 : (-1) ≤ a1) : a0 ≤ 128 := by omega
theorem oq_ea98cc13 {a0 a1 a2 : Int} (h0 : a0 ≤ (127 - a1)) (h1 : a2 ≤ 1) : (a0 + a2) ≤ (127 - (a1 + (-1))) := by omega
theorem oq_9d44c698 {a0 a1 a2 a3 : Int} (h0 : ((a0 = 0 ∧ a1 = a2) ∨ (a0 ≠ 0 ∧ a1 = a3))) (h1 : 0 ≤ a3) (h2 : (-1) ≤ a2) : (-1) ≤ a1 := by omega
theorem oq_9427d874 {a0 a1 a2 a3 : Int} (h0 : ((a0 = 0 ∧ a1 = a2) ∨ (a0 ≠ 0 ∧ a1 = a3))) (h1 : a3 ≤ 127) (h2 : a2 ≤ 127) : a1 ≤ 127 := by omega
theorem oq_3500ac20 {a0 : Int} (h0 : a0 ≤ 127) : (a0 + (-1)) ≤ 127 := by omega
theorem oq_13b70d5e {a0 a1 : Int} (h0 : a0 < a1) (h1 : a1 ≤ 128) : a0 < 128 := by omega
theorem oq_293b3716 {a0 a1 : Int} (h0 : a0 < a1) (h1 : a1 ≤ 128) : (a0 : Int).toNat < 128 := by omega
theorem oq_a4cef127 {a0 : Int} (h0 : a0 < 6) : a0 ≤ 5 := by omega
theorem oq_5bf54478 {a0 : Int} (h0 : a0 < 6) : (a0 + 1) ≤ 6 := by omega
theorem oq_2265a080 {a0 : Int} (h0 : a0 < 6) : 0 < (6 - a0) := by omega
theorem oq_d130ae0d {a0 a1 : Int} (h0 : a0 < a1) : a0 < (a1 + 1) := by omega
theorem oq_6c95e3fe {a0 a1 a2 a3 a4 : Int} (h0 : a0 = a1) (h1 : a1 = (a2 + 1)) (h2 : a2 = a3) (h3 : a3 = a4) : a0 = (a4 + 1) := by omega
theorem oq_afc84a8d {a0 a1 : Int} (h0 : a0 < a1) : (a0 + 1) ≤ a1 := by omega
theorem oq_3bafc0a8 {a0 a1 : Int} (h0 : a0 < a1) (h1 : a1 ≤ 128) : 0 < (128 - a0) := by omega
theorem oq_303f220b {a0 a1 : Int} (h0 : a0 = (a1 + 1)) (h1 : a1 = 0) : a0 = 1 := by omega
theorem oq_0961352d {a0 a1 : Int} (h0 : a0 ≤ a1) (h1 : a1 < 128) : a0 ≤ 2147483647 := by omega
/-! The model: what hangs together -/
def sm (f : Nat → Int) : Nat → Int
  | 0 => 0
  | n + 1 => sm f n + f n
theorem sm_eq {f g : Nat → Int} : ∀ {n : Nat}, (∀ j, j < n → g j = f j) → sm g n = sm f n
  | 0, _ => rfl
  | n + 1, h => by
    show sm g n + g n = sm f n + f n
    rw [sm_eq (fun j hj => h j (by omega)), h n (by omega)]
theorem sm_0 {f : Nat → Int} : ∀ {n : Nat}, (∀ j, j < n → f j = 0) → sm f n = 0
  | 0, _ => rfl
  | n + 1, h => by
    show sm f n + f n = 0
    rw [sm_0 (fun j hj => h j (by omega)), h n (by omega)]
    rfl
theorem sm_up {f g : Nat → Int} {i : Nat} (h : ∀ j, j ≠ i → g j = f j) : ∀ {n : Nat}, i < n → sm g n = sm f n - f i + g i
  | 0, hi => absurd hi (Nat.not_lt_zero _)
  | n + 1, hi => by
    show sm g n + g n = sm f n + f n - f i + g i
    by_cases e : i = n
    · subst e
      rw [sm_eq (fun j hj => h j (by omega))]
      omega
    · rw [sm_up h (n := n) (by omega), h n (Ne.symm e)]
      omega
theorem sm_le {f : Nat → Int} : ∀ {n : Nat}, (∀ j, j < n → f j ≤ 1) → sm f n ≤ n
  | 0, _ => Int.le_refl _
  | n + 1, h => by
    show sm f n + f n ≤ ((n + 1 : Nat) : Int)
    have a := sm_le (n := n) (fun j hj => h j (by omega))
    have b := h n (by omega)
    omega
theorem sm_lt {f : Nat → Int} {i : Nat} (h0 : f i ≤ 0) : ∀ {n : Nat}, i < n → (∀ j, j < n → f j ≤ 1) → sm f n ≤ (n : Int) - 1
  | 0, hi, _ => absurd hi (Nat.not_lt_zero _)
  | n + 1, hi, h => by
    show sm f n + f n ≤ ((n + 1 : Nat) : Int) - 1
    by_cases e : i = n
    · subst e
      have a := sm_le (n := i) (fun j hj => h j (by omega))
      omega
    · have a := sm_lt h0 (n := n) (by omega) (fun j hj => h j (by omega))
      have b := h n (by omega)
      omega
/-- how many cells are met -/
def smM (t : PS) : Int := sm (fun j => iC t 231 j) 128
theorem SM_o {t : PS} {a i : Nat} {x : Int32} (h : 231 ≠ a) : smM (uC t a i x) = smM t := sm_eq (fun j _ => iC_a h)
theorem SM_st {t : PS} {i : Nat} (hi : i < 128) (h0 : iC t 231 i = 0) : smM (uC t 231 i (Int32.ofInt 1)) = smM t + 1 := by
  unfold smM
  rw [sm_up (f := fun j => iC t 231 j) (i := i) (fun j hj => iC_n hj) hi]
  show _ - iC t 231 i + iC (uC t 231 i (Int32.ofInt 1)) 231 i = _
  rw [h0, iC_u ⟨by omega, by omega⟩]
  omega
theorem SM_fm {L M : List Nat} {s t : PS} (F : Fm L M s t) (h : 231 ∉ M) : smM t = smM s := sm_eq (fun j _ => fm_c F h)
theorem SM_le {t : PS} (I : Bd t) {i : Nat} (hi : i < 128) (h0 : iC t 231 i = 0) : smM t ≤ 127 := sm_lt (i := i) (Int.le_of_eq h0) hi (fun j hj => (I.2 231 j hj).2)
theorem SM_0 {t : PS} (h : ∀ j, j < 128 → iC t 231 j = 0) : smM t = 0 := sm_0 h
section M57
variable {l : Launch} {s0 : State} {D : va_G} {tys : List (ClassId × FieldType)} {a0 : Array Value} {A : Nat → Nat} {dT : Nat → ClassId} {s : PS}
set_option maxRecDepth 4000 in
theorem k_hangs (G : GX l s0 D tys a0 dT) (I : Bd s)  : CT l s0 D A dT 239 (rmN 239) [.ref (A 179)] s (fun o t => Bd t ∧ Fm [] [231, 232] s t ∧ ∃ e, o = .inl (some (.int (Int32.ofInt e))) ∧ rng e ∧ (e = 0 ∨ e = 1)) := by
  refine ct_of G (by decide) (Nat.le_of_ble_eq_true rfl) (fun k X E hRt hXt q => ?_)
  show WS k 0 [(0, .ref (A 179))] [] _ 0 0
  have F : Fm [] [231, 232] s s := fm_rf _ _ s
  have L10 : ∀ (n : Nat) (t : PS) (m0 al fi c : Int), Bd t → Fm [] [231, 232] s t → (∀ j : Nat, j < 128 → c < (j : Int) → iC t 231 j = 0) → (0 ≤ al ∧ al ≤ 127 - c ∧ -1 ≤ fi ∧ fi ≤ 127 ∧ -1 ≤ c ∧ c ≤ 127) → (c + 1 : Int).toNat < n → (∀ (t' : PS) (al' fi' c' : Int), Bd t' → Fm [] [231, 232] s t' → (∀ j : Nat, j < 128 → c' < (j : Int) → iC t' 231 j = 0) → (0 ≤ al' ∧ al' ≤ 128 ∧ -1 ≤ fi' ∧ fi' ≤ 127 ∧ c' < 0) → WS k 64 [(0, .ref (A 179)), (1, .int (Int32.ofInt m0)), (2, .int (Int32.ofInt al')), (3, .int (Int32.ofInt fi')), (4, .int (Int32.ofInt c'))] [] (Wd A dT t') 0 0) → WS k 10 [(0, .ref (A 179)), (1, .int (Int32.ofInt m0)), (2, .int (Int32.ofInt al)), (3, .int (Int32.ofInt fi)), (4, .int (Int32.ofInt c))] [] (Wd A dT t) 0 0 := by
    intro n
    induction n with
    | zero =>
      intro t m0 al fi c I F hq hi hm kx
      exact absurd hm (Nat.not_lt_zero _)
    | succ n ih =>
      intro t m0 al fi c I F hq hi hm kx
      refine z_load X (x := c) rfl (List.Mem.tail _ (List.Mem.tail _ (List.Mem.tail _ (List.Mem.tail _ (List.Mem.head _))))) (z_if_lt X (t := 64) rfl rfl ⟨by first | exact oq_97ee2c2a hi.2.2.2.2.1 | omega, by first | exact oq_07d346ce hi.2.2.2.2.2 | omega⟩ (fun g1001 => ?_) (fun g1001 => ?_))
      ·
        refine WS_pq [0, 1, 2, 3, 4] (lv' := [(0, .ref (A 179)), (1, .int (Int32.ofInt m0)), (2, .int (Int32.ofInt al)), (3, .int (Int32.ofInt fi)), (4, .int (Int32.ofInt c))]) rfl ?_
        exact kx _ al fi c I F hq (by first | exact ⟨hi.1, oq_19dc38cc hi.2.1 hi.2.2.2.2.1, hi.2.2.1, hi.2.2.2.1, g1001⟩ | omega)
      ·
        refine z_aload_n X (x := A 179) rfl (List.Mem.head _) (s_getR X 179 rfl (c518_ok rfl) rfl rfl (z_load X (x := c) rfl (List.Mem.tail _ (List.Mem.tail _ (List.Mem.tail _ (List.Mem.tail _ (List.Mem.head _))))) (z_const X rfl (z_zast X 259 rfl (c518_ok rfl) rfl (by first | exact g1001 | omega) (show c < 128 by first | exact oq_31b2bf10 hi.2.2.2.2.2 | omega) (by decide) (by first | exact Or.inl (cbig_ok rfl) | omega) (wd_gen (fun s1002 hs1002 => ?_))))))
        have Is1002 : Bd s1002 := eqB hs1002 (bd_C I (show (0 : Int) ≤ 0 ∧ 0 ≤ 1 by first | exact ⟨by decide, by decide⟩ | omega) (by decide))
        have Fs1002 := eqF hs1002 (fm_C F (inl_ok (a := 231) rfl))
        refine z_load_n X (x := al) rfl (List.Mem.tail _ (List.Mem.tail _ (List.Mem.head _))) (z_aload_n X (x := A 179) rfl (List.Mem.head _) (s_getR X 179 rfl (c518_ok rfl) rfl rfl (z_load X (x := c) rfl (List.Mem.tail _ (List.Mem.tail _ (List.Mem.tail _ (List.Mem.tail _ (List.Mem.head _))))) (z_zald X 258 rfl (c518_ok rfl) rfl (by first | exact g1001 | omega) (show c < 128 by first | exact oq_31b2bf10 hi.2.2.2.2.2 | omega) (cbig_ok rfl) ?_))))
        have b1003 := bc_230 Is1002 (show (c).toNat < 128 by first | exact oq_c7f4e9c1 hi.2.2.2.2.2 | omega)
        have N1004 : ∀ e1005 : Int, ((((iC s1002 230 (c).toNat) = 0) ∧ e1005 = 0) ∨ (((iC s1002 230 (c).toNat) ≠ 0) ∧ e1005 = 1)) → WS k 39 [(0, .ref (A 179)), (1, .int (Int32.ofInt m0)), (2, .int (Int32.ofInt al)), (3, .int (Int32.ofInt fi)), (4, .int (Int32.ofInt c))] [.int (Int32.ofInt e1005), .int (Int32.ofInt al)] (Wd A dT s1002) 0 0 := by
          intro e1005 he1005
          have re1005 : 0 ≤ e1005 ∧ e1005 ≤ 1 := by first | (clear he1005; omega) | omega
          refine z_add X rfl (z_store_n X (lv' := [(2, .int (Int32.ofInt (al + e1005))), (0, .ref (A 179)), (1, .int (Int32.ofInt m0)), (3, .int (Int32.ofInt fi)), (4, .int (Int32.ofInt c))]) rfl (by decide) (fun _ h => h) (z_aload_n X (x := A 179) rfl (List.Mem.tail _ (List.Mem.head _)) (s_getR X 179 rfl (c518_ok rfl) rfl rfl (z_load X (x := c) rfl (List.Mem.tail _ (List.Mem.tail _ (List.Mem.tail _ (List.Mem.tail _ (List.Mem.head _))))) (z_zald X 258 rfl (c518_ok rfl) rfl (by first | exact g1001 | omega) (show c < 128 by first | exact oq_31b2bf10 hi.2.2.2.2.2 | omega) (cbig_ok rfl) ?_)))))
          have b1006 := bc_230 Is1002 (show (c).toNat < 128 by first | exact oq_c7f4e9c1 hi.2.2.2.2.2 | omega)
          have N1007 : ∀ e1008 : Int, ((((iC s1002 230 (c).toNat) = 0) ∧ e1008 = fi) ∨ (((iC s1002 230 (c).toNat) ≠ 0) ∧ e1008 = c)) → WS k 57 [(2, .int (Int32.ofInt (al + e1005))), (0, .ref (A 179)), (1, .int (Int32.ofInt m0)), (3, .int (Int32.ofInt fi)), (4, .int (Int32.ofInt c))] [.int (Int32.ofInt e1008)] (Wd A dT s1002) 0 0 := by
            intro e1008 he1008
            refine z_store_n X (lv' := [(3, .int (Int32.ofInt e1008)), (2, .int (Int32.ofInt (al + e1005))), (0, .ref (A 179)), (1, .int (Int32.ofInt m0)), (4, .int (Int32.ofInt c))]) rfl (by decide) (fun _ h => h) (z_inc X (x := c) (lv' := [(4, .int (Int32.ofInt (c + (-1)))), (3, .int (Int32.ofInt e1008)), (2, .int (Int32.ofInt (al + e1005))), (0, .ref (A 179)), (1, .int (Int32.ofInt m0))]) rfl (by decide) (List.Mem.tail _ (List.Mem.tail _ (List.Mem.tail _ (List.Mem.tail _ (List.Mem.head _))))) (fun _ h => h) (z_goto X (t := 10) rfl rfl (WS_pq [3, 4, 2, 1, 0] (lv' := [(0, .ref (A 179)), (1, .int (Int32.ofInt m0)), (2, .int (Int32.ofInt (al + e1005))), (3, .int (Int32.ofInt e1008)), (4, .int (Int32.ofInt (c + (-1))))]) rfl ?_)))
            have hZ1009 : ∀ j : Nat, j < 128 → (c + (-1)) < (j : Int) → iC s1002 231 j = 0 := fun j hj h => by
              by_cases e : j = (c : Int).toNat
              · rw [e, hs1002, iC_u ⟨by first | (clear he1008 he1005; omega) | (clear he1005; omega) | omega, by first | (clear he1008 he1005; omega) | (clear he1005; omega) | omega⟩]
              · rw [hs1002, iC_n e]; exact hq j hj (by first | (clear he1008 he1005; omega) | (clear he1005; omega) | omega)
            exact ih _ m0 (al + e1005) e1008 (c + (-1)) Is1002 Fs1002 hZ1009 (by first | exact ⟨oq_dd29f52d hi.1 re1005.1, oq_ea98cc13 hi.2.1 re1005.2, oq_9d44c698 he1008 g1001 hi.2.2.1, oq_9427d874 he1008 hi.2.2.2.2.2 hi.2.2.2.1, oq_285ed02d g1001, oq_3500ac20 hi.2.2.2.2.2⟩ | omega) (by first | exact qk_me hm (by decide) (oq_7a276f11 g1001) | omega) kx
          refine z_if_eq X (t := 56) rfl rfl (rng_to _) (fun g1010 => ?_) (fun g1010 => ?_)
          ·
            exact z_load_n X (x := fi) rfl (List.Mem.tail _ (List.Mem.tail _ (List.Mem.tail _ (List.Mem.head _)))) (N1007 _ (Or.inl ⟨g1010, rfl⟩))
          ·
            exact z_load X (x := c) rfl (List.Mem.tail _ (List.Mem.tail _ (List.Mem.tail _ (List.Mem.tail _ (List.Mem.head _))))) (z_goto X (t := 57) rfl rfl (N1007 _ (Or.inr (⟨g1010, rfl⟩))))
        refine z_if_eq X (t := 38) rfl rfl (rng_to _) (fun g1011 => ?_) (fun g1011 => ?_)
        ·
          exact z_const X rfl (N1004 _ (Or.inl ⟨g1011, rfl⟩))
        ·
          exact z_const X rfl (z_goto X (t := 39) rfl rfl (N1004 _ (Or.inr (⟨g1011, rfl⟩))))
  have L99 : ∀ (n : Nat) (t : PS) (m0 al fi ka st0 : Int), Bd t → Fm [] [231, 232] s t → ((0 ≤ al ∧ al ≤ 128) ∧ 1 ≤ m0 ∧ m0 ≤ 128 ∧ 0 ≤ ka ∧ ka < m0 ∧ 0 ≤ st0 ∧ st0 ≤ 6 ∧ smM t = m0) → (6 - st0 : Int).toNat < n → (∀ (t' : PS) (m0' st0' : Int), Bd t' → Fm [] [231, 232] s t' → ((0 ≤ al ∧ al ≤ 128) ∧ 1 ≤ m0' ∧ m0' ≤ 128 ∧ 0 ≤ ka ∧ ka < m0' ∧ 0 ≤ st0' ∧ st0' ≤ 6 ∧ smM t' = m0') → WS k 174 [(0, .ref (A 179)), (1, .int (Int32.ofInt m0')), (2, .int (Int32.ofInt al)), (3, .int (Int32.ofInt fi)), (4, .int (Int32.ofInt ka)), (5, .int (Int32.ofInt st0'))] [] (Wd A dT t') 0 0) → WS k 99 [(0, .ref (A 179)), (1, .int (Int32.ofInt m0)), (2, .int (Int32.ofInt al)), (3, .int (Int32.ofInt fi)), (4, .int (Int32.ofInt ka)), (5, .int (Int32.ofInt st0))] [] (Wd A dT t) 0 0 := by
    intro n
    induction n with
    | zero =>
      intro t m0 al fi ka st0 I F hi hm kx
      exact absurd hm (Nat.not_lt_zero _)
    | succ n ih =>
      intro t m0 al fi ka st0 I F hi hm kx
      refine z_load X (x := st0) rfl (List.Mem.tail _ (List.Mem.tail _ (List.Mem.tail _ (List.Mem.tail _ (List.Mem.tail _ (List.Mem.head _)))))) (z_bipush X rfl (z_icmp_ge X (t := 174) rfl rfl ⟨by first | exact oq_fa4e5087 hi.2.2.2.2.2.1 | omega, by first | exact oq_b301c3bf hi.2.2.2.2.2.2.1 | omega⟩ (by decide) (fun g2001 => ?_) (fun g2001 => ?_)))
      ·
        refine WS_pq [0, 1, 2, 3, 4, 5] (lv' := [(0, .ref (A 179)), (1, .int (Int32.ofInt m0)), (2, .int (Int32.ofInt al)), (3, .int (Int32.ofInt fi)), (4, .int (Int32.ofInt ka)), (5, .int (Int32.ofInt st0))]) rfl ?_
        exact kx _ m0 st0 I F (by first | exact ⟨And.intro (hi.1.1) (hi.1.2), hi.2.1, hi.2.2.1, hi.2.2.2.1, hi.2.2.2.2.1, hi.2.2.2.2.2.1, hi.2.2.2.2.2.2.1, hi.2.2.2.2.2.2.2⟩ | omega)
      ·
        refine z_aload_n X (x := A 179) rfl (List.Mem.head _) (s_getR X 179 rfl (c518_ok rfl) rfl rfl (z_load X (x := ka) rfl (List.Mem.tail _ (List.Mem.tail _ (List.Mem.tail _ (List.Mem.tail _ (List.Mem.head _))))) (z_ald X 260 rfl (c518_ok rfl) rfl (by first | exact hi.2.2.2.1 | omega) (show ka < 128 by first | exact oq_13b70d5e hi.2.2.2.2.1 hi.2.2.1 | omega) (cbig_ok rfl) ?_)))
        have b2002 := bc_232 I (show (ka).toNat < 128 by first | exact oq_293b3716 hi.2.2.2.2.1 hi.2.2.1 | omega)
        refine z_load X (x := st0) rfl (List.Mem.tail _ (List.Mem.tail _ (List.Mem.tail _ (List.Mem.tail _ (List.Mem.tail _ (List.Mem.head _)))))) (zcS_i0 X E (As := [.int (Int32.ofInt (iC t 232 (ka).toNat)), .int (Int32.ofInt st0)]) (st := []) rfl rfl (k_beside G I (by first | exact ⟨b2002.1, b2002.2⟩ | omega) (by first | exact ⟨hi.2.2.2.2.2.1, oq_a4cef127 g2001⟩ | omega)) rfl (Nat.le_of_ble_eq_true rfl) (fun s2003 e2004 Is2003 Fs2003 hrs2003 hps2003 => ?_))
        have hps2003p := And.intro hps2003.2.1 (hps2003.2.2)
        have Gs2003 := fm_tq F Fs2003 rfl rfl
        have sf2005 : smM s2003 = smM t := SM_fm Fs2003 (by decide)
        refine z_store X (lv' := [(6, .int (Int32.ofInt e2004)), (0, .ref (A 179)), (1, .int (Int32.ofInt m0)), (2, .int (Int32.ofInt al)), (3, .int (Int32.ofInt fi)), (4, .int (Int32.ofInt ka)), (5, .int (Int32.ofInt st0))]) rfl (by decide) (fun _ h => h) (z_load X (x := e2004) rfl (List.Mem.head _) (z_const X rfl (z_icmp_eq X (t := 168) rfl rfl hrs2003 (by decide) (fun g2006 => ?_) (fun g2006 => ?_))))
        ·
          refine z_inc X (x := st0) (lv' := [(5, .int (Int32.ofInt (st0 + 1))), (6, .int (Int32.ofInt e2004)), (0, .ref (A 179)), (1, .int (Int32.ofInt m0)), (2, .int (Int32.ofInt al)), (3, .int (Int32.ofInt fi)), (4, .int (Int32.ofInt ka))]) rfl (by decide) (List.Mem.tail _ (List.Mem.tail _ (List.Mem.tail _ (List.Mem.tail _ (List.Mem.tail _ (List.Mem.tail _ (List.Mem.head _))))))) (fun _ h => h) (z_goto X (t := 99) rfl rfl (WS_pq [2, 3, 4, 5, 6, 0] (lv' := [(0, .ref (A 179)), (1, .int (Int32.ofInt m0)), (2, .int (Int32.ofInt al)), (3, .int (Int32.ofInt fi)), (4, .int (Int32.ofInt ka)), (5, .int (Int32.ofInt (st0 + 1)))]) rfl ?_))
          exact ih _ m0 al fi ka (st0 + 1) Is2003 Gs2003 (by first | exact ⟨And.intro (hi.1.1) (hi.1.2), hi.2.1, hi.2.2.1, hi.2.2.2.1, hi.2.2.2.2.1, oq_54f49eb5 hi.2.2.2.2.2.1, oq_5bf54478 g2001, oq_1aa5be9e sf2005 hi.2.2.2.2.2.2.2⟩ | omega) (by first | exact qk_me hm (by decide) (oq_2265a080 g2001) | omega) kx
        ·
          refine z_aload_n X (x := A 179) rfl (List.Mem.tail _ (List.Mem.head _)) (s_getR X 179 rfl (c518_ok rfl) rfl rfl (z_load X (x := e2004) rfl (List.Mem.head _) (z_zald X 258 rfl (c518_ok rfl) rfl (by first | exact oq_7a1025bf g2006 hps2003.2.1 | omega) (show e2004 < 128 by first | exact oq_31b2bf10 hps2003.2.2 | omega) (cbig_ok rfl) ?_)))
          have b2007 := bc_230 Is2003 (show (e2004).toNat < 128 by first | exact oq_c7f4e9c1 hps2003.2.2 | omega)
          refine z_if_eq X (t := 168) rfl rfl (rng_to _) (fun g2008 => ?_) (fun g2008 => ?_)
          ·
            refine z_inc X (x := st0) (lv' := [(5, .int (Int32.ofInt (st0 + 1))), (6, .int (Int32.ofInt e2004)), (0, .ref (A 179)), (1, .int (Int32.ofInt m0)), (2, .int (Int32.ofInt al)), (3, .int (Int32.ofInt fi)), (4, .int (Int32.ofInt ka))]) rfl (by decide) (List.Mem.tail _ (List.Mem.tail _ (List.Mem.tail _ (List.Mem.tail _ (List.Mem.tail _ (List.Mem.tail _ (List.Mem.head _))))))) (fun _ h => h) (z_goto X (t := 99) rfl rfl (WS_pq [2, 3, 4, 5, 6, 0] (lv' := [(0, .ref (A 179)), (1, .int (Int32.ofInt m0)), (2, .int (Int32.ofInt al)), (3, .int (Int32.ofInt fi)), (4, .int (Int32.ofInt ka)), (5, .int (Int32.ofInt (st0 + 1)))]) rfl ?_))
            exact ih _ m0 al fi ka (st0 + 1) Is2003 Gs2003 (by first | exact ⟨And.intro (hi.1.1) (hi.1.2), hi.2.1, hi.2.2.1, hi.2.2.2.1, hi.2.2.2.2.1, oq_54f49eb5 hi.2.2.2.2.2.1, oq_5bf54478 g2001, oq_1aa5be9e sf2005 hi.2.2.2.2.2.2.2⟩ | omega) (by first | exact qk_me hm (by decide) (oq_2265a080 g2001) | omega) kx
          ·
            refine z_aload_n X (x := A 179) rfl (List.Mem.tail _ (List.Mem.head _)) (s_getR X 179 rfl (c518_ok rfl) rfl rfl (z_load X (x := e2004) rfl (List.Mem.head _) (z_zald X 259 rfl (c518_ok rfl) rfl (by first | exact oq_7a1025bf g2006 hps2003.2.1 | omega) (show e2004 < 128 by first | exact oq_31b2bf10 hps2003.2.2 | omega) (cbig_ok rfl) ?_)))
            have b2009 := bc_231 Is2003 (show (e2004).toNat < 128 by first | exact oq_c7f4e9c1 hps2003.2.2 | omega)
            refine z_if_eq X (t := 149) rfl rfl (rng_to _) (fun g2010 => ?_) (fun g2010 => ?_)
            ·
              have sl2011 := SM_le Is2003 (i := (e2004 : Int).toNat) (by first | (clear g2008 g2006 hps2003; omega) | (clear g2006 hps2003; omega) | omega) (by first | (clear g2008 g2006 hps2003; omega) | (clear g2006 hps2003; omega) | omega)
              refine z_aload_n X (x := A 179) rfl (List.Mem.tail _ (List.Mem.head _)) (s_getR X 179 rfl (c518_ok rfl) rfl rfl (z_load X (x := e2004) rfl (List.Mem.head _) (z_const X rfl (z_zast X 259 rfl (c518_ok rfl) rfl (by first | exact oq_7a1025bf g2006 hps2003.2.1 | omega) (show e2004 < 128 by first | exact oq_31b2bf10 hps2003.2.2 | omega) (by decide) (by first | exact Or.inr (cbig_ok rfl) | omega) (wd_gen (fun s2012 hs2012 => ?_))))))
              have Is2012 : Bd s2012 := eqB hs2012 (bd_C Is2003 (show (0 : Int) ≤ 1 ∧ 1 ≤ 1 by first | exact ⟨by decide, by decide⟩ | omega) (by decide))
              have Fs2012 := eqF hs2012 (fm_C Gs2003 (inl_ok (a := 231) rfl))
              have sa2013 : smM s2012 = smM s2003 + 1 := by rw [hs2012]; exact SM_st (by first | (clear g2008 g2006 hps2003; omega) | (clear g2006 hps2003; omega) | omega) (by first | (clear g2008 g2006 hps2003; omega) | (clear g2006 hps2003; omega) | omega)
              refine z_aload_n X (x := A 179) rfl (List.Mem.tail _ (List.Mem.head _)) (s_getR X 179 rfl (c518_ok rfl) rfl rfl (z_load_n X (x := m0) rfl (List.Mem.tail _ (List.Mem.tail _ (List.Mem.head _))) (z_load X (x := e2004) rfl (List.Mem.head _) (z_ast X 260 rfl (c518_ok rfl) rfl (by first | exact oq_2a6e3b50 hi.2.1 | omega) (show m0 < 128 by first | (clear g2008 g2006 hps2003; omega) | (clear g2006 hps2003; omega) | omega) (cbig_ok rfl) (wd_gen (fun s2014 hs2014 => ?_))))))
              have Is2014 : Bd s2014 := eqB hs2014 (bd_C Is2012 (show (0 : Int) ≤ e2004 ∧ e2004 ≤ 127 by first | exact ⟨oq_7a1025bf g2006 hps2003.2.1, hps2003.2.2⟩ | omega) hrs2003)
              have Fs2014 := eqF hs2014 (fm_C Fs2012 (inl_ok (a := 232) rfl))
              have sa2015 : smM s2014 = smM s2012 := by rw [hs2014]; exact SM_o (by decide)
              refine z_inc X (x := m0) (lv' := [(1, .int (Int32.ofInt (m0 + 1))), (6, .int (Int32.ofInt e2004)), (0, .ref (A 179)), (2, .int (Int32.ofInt al)), (3, .int (Int32.ofInt fi)), (4, .int (Int32.ofInt ka)), (5, .int (Int32.ofInt st0))]) rfl (by decide) (List.Mem.tail _ (List.Mem.tail _ (List.Mem.head _))) (fun _ h => h) (z_inc X (x := st0) (lv' := [(5, .int (Int32.ofInt (st0 + 1))), (1, .int (Int32.ofInt (m0 + 1))), (6, .int (Int32.ofInt e2004)), (0, .ref (A 179)), (2, .int (Int32.ofInt al)), (3, .int (Int32.ofInt fi)), (4, .int (Int32.ofInt ka))]) rfl (by decide) (List.Mem.tail _ (List.Mem.tail _ (List.Mem.tail _ (List.Mem.tail _ (List.Mem.tail _ (List.Mem.tail _ (List.Mem.head _))))))) (fun _ h => h) (z_goto X (t := 99) rfl rfl (WS_pq [3, 1, 4, 5, 6, 0] (lv' := [(0, .ref (A 179)), (1, .int (Int32.ofInt (m0 + 1))), (2, .int (Int32.ofInt al)), (3, .int (Int32.ofInt fi)), (4, .int (Int32.ofInt ka)), (5, .int (Int32.ofInt (st0 + 1)))]) rfl ?_)))
              exact ih _ (m0 + 1) al fi ka (st0 + 1) Is2014 Fs2014 (by first | exact ⟨And.intro (hi.1.1) (hi.1.2), oq_1e1a2df6 hi.2.1, by first | (clear g2008 g2006 hps2003; omega) | (clear g2006 hps2003; omega) | omega, hi.2.2.2.1, oq_d130ae0d hi.2.2.2.2.1, oq_54f49eb5 hi.2.2.2.2.2.1, oq_5bf54478 g2001, oq_6c95e3fe sa2015 sa2013 sf2005 hi.2.2.2.2.2.2.2⟩ | omega) (by first | exact qk_me hm (by decide) (oq_2265a080 g2001) | omega) kx
            ·
              refine z_goto X (t := 168) rfl rfl (z_inc X (x := st0) (lv' := [(5, .int (Int32.ofInt (st0 + 1))), (6, .int (Int32.ofInt e2004)), (0, .ref (A 179)), (1, .int (Int32.ofInt m0)), (2, .int (Int32.ofInt al)), (3, .int (Int32.ofInt fi)), (4, .int (Int32.ofInt ka))]) rfl (by decide) (List.Mem.tail _ (List.Mem.tail _ (List.Mem.tail _ (List.Mem.tail _ (List.Mem.tail _ (List.Mem.tail _ (List.Mem.head _))))))) (fun _ h => h) (z_goto X (t := 99) rfl rfl (WS_pq [2, 3, 4, 5, 6, 0] (lv' := [(0, .ref (A 179)), (1, .int (Int32.ofInt m0)), (2, .int (Int32.ofInt al)), (3, .int (Int32.ofInt fi)), (4, .int (Int32.ofInt ka)), (5, .int (Int32.ofInt (st0 + 1)))]) rfl ?_)))
              exact ih _ m0 al fi ka (st0 + 1) Is2003 Gs2003 (by first | exact ⟨And.intro (hi.1.1) (hi.1.2), hi.2.1, hi.2.2.1, hi.2.2.2.1, hi.2.2.2.2.1, oq_54f49eb5 hi.2.2.2.2.2.1, oq_5bf54478 g2001, oq_1aa5be9e sf2005 hi.2.2.2.2.2.2.2⟩ | omega) (by first | exact qk_me hm (by decide) (oq_2265a080 g2001) | omega) kx
  have L90 : ∀ (n : Nat) (t : PS) (m0 al fi ka : Int), Bd t → Fm [] [231, 232] s t → ((0 ≤ al ∧ al ≤ 128) ∧ 1 ≤ m0 ∧ m0 ≤ 128 ∧ 0 ≤ ka ∧ ka ≤ m0 ∧ smM t = m0) → (128 - ka : Int).toNat < n → (∀ (t' : PS) (m0' ka' : Int), Bd t' → Fm [] [231, 232] s t' → ((0 ≤ al ∧ al ≤ 128) ∧ 1 ≤ m0' ∧ m0' ≤ 128 ∧ 0 ≤ ka' ∧ ka' ≤ m0' ∧ smM t' = m0') → WS k 180 [(0, .ref (A 179)), (1, .int (Int32.ofInt m0')), (2, .int (Int32.ofInt al)), (3, .int (Int32.ofInt fi)), (4, .int (Int32.ofInt ka'))] [] (Wd A dT t') 0 0) → WS k 90 [(0, .ref (A 179)), (1, .int (Int32.ofInt m0)), (2, .int (Int32.ofInt al)), (3, .int (Int32.ofInt fi)), (4, .int (Int32.ofInt ka))] [] (Wd A dT t) 0 0 := by
    intro n
    induction n with
    | zero =>
      intro t m0 al fi ka I F hi hm kx
      exact absurd hm (Nat.not_lt_zero _)
    | succ n ih =>
      intro t m0 al fi ka I F hi hm kx
      refine z_load X (x := ka) rfl (List.Mem.tail _ (List.Mem.tail _ (List.Mem.tail _ (List.Mem.tail _ (List.Mem.head _))))) (z_load_n X (x := m0) rfl (List.Mem.tail _ (List.Mem.head _)) (z_icmp_ge X (t := 180) rfl rfl ⟨by first | exact oq_fa4e5087 hi.2.2.2.1 | omega, by first | exact oq_9eb6cd9c hi.2.2.2.2.1 hi.2.2.1 | omega⟩ ⟨by first | exact oq_9462313e hi.2.1 | omega, by first | exact oq_4ee82282 hi.2.2.1 | omega⟩ (fun g3001 => ?_) (fun g3001 => ?_)))
      ·
        refine WS_pq [0, 1, 2, 3, 4] (lv' := [(0, .ref (A 179)), (1, .int (Int32.ofInt m0)), (2, .int (Int32.ofInt al)), (3, .int (Int32.ofInt fi)), (4, .int (Int32.ofInt ka))]) rfl ?_
        exact kx _ m0 ka I F (by first | exact ⟨And.intro (hi.1.1) (hi.1.2), hi.2.1, hi.2.2.1, hi.2.2.2.1, hi.2.2.2.2.1, hi.2.2.2.2.2⟩ | omega)
      ·
        refine z_const X rfl (z_store X (lv' := [(5, .int (Int32.ofInt 0)), (0, .ref (A 179)), (1, .int (Int32.ofInt m0)), (2, .int (Int32.ofInt al)), (3, .int (Int32.ofInt fi)), (4, .int (Int32.ofInt ka))]) rfl (by decide) (fun _ h => h) (WS_pq [1, 2, 3, 4, 5, 0] (lv' := [(0, .ref (A 179)), (1, .int (Int32.ofInt m0)), (2, .int (Int32.ofInt al)), (3, .int (Int32.ofInt fi)), (4, .int (Int32.ofInt ka)), (5, .int (Int32.ofInt 0))]) rfl (L99 ((6 - 0 : Int).toNat + 1) t m0 al fi ka 0 I F (by first | exact ⟨And.intro (hi.1.1) (hi.1.2), hi.2.1, hi.2.2.1, hi.2.2.2.1, g3001, by decide, by decide, hi.2.2.2.2.2⟩ | omega) (Nat.lt_succ_self _) ?_)))
        intro s3002 x3003 x3004 Is3002 Fs3002 hs3002
        refine z_inc X (x := ka) (lv' := [(4, .int (Int32.ofInt (ka + 1))), (0, .ref (A 179)), (1, .int (Int32.ofInt x3003)), (2, .int (Int32.ofInt al)), (3, .int (Int32.ofInt fi)), (5, .int (Int32.ofInt x3004))]) rfl (by decide) (List.Mem.tail _ (List.Mem.tail _ (List.Mem.tail _ (List.Mem.tail _ (List.Mem.head _))))) (fun _ h => h) (z_goto X (t := 90) rfl rfl (WS_pq [1, 2, 3, 4, 0] (lv' := [(0, .ref (A 179)), (1, .int (Int32.ofInt x3003)), (2, .int (Int32.ofInt al)), (3, .int (Int32.ofInt fi)), (4, .int (Int32.ofInt (ka + 1)))]) rfl ?_))
        exact ih _ x3003 al fi (ka + 1) Is3002 Fs3002 (by first | exact ⟨And.intro (hs3002.1.1) (hs3002.1.2), hs3002.2.1, hs3002.2.2.1, oq_54f49eb5 hs3002.2.2.2.1, oq_afc84a8d hs3002.2.2.2.2.1, hs3002.2.2.2.2.2.2.2⟩ | omega) (by first | exact qk_me hm (by decide) (oq_3bafc0a8 hs3002.2.2.2.2.1 hs3002.2.2.1) | omega) kx
  refine z_const X rfl (z_store_n X (lv' := [(1, .int (Int32.ofInt 0)), (0, .ref (A 179))]) rfl (by decide) (fun _ h => h) (z_const X rfl (z_store_n X (lv' := [(2, .int (Int32.ofInt 0)), (1, .int (Int32.ofInt 0)), (0, .ref (A 179))]) rfl (by decide) (fun _ h => h) (z_const X rfl (z_store_n X (lv' := [(3, .int (Int32.ofInt (-1))), (2, .int (Int32.ofInt 0)), (1, .int (Int32.ofInt 0)), (0, .ref (A 179))]) rfl (by decide) (fun _ h => h) (z_bipush X rfl (z_store X (lv' := [(4, .int (Int32.ofInt 127)), (3, .int (Int32.ofInt (-1))), (2, .int (Int32.ofInt 0)), (1, .int (Int32.ofInt 0)), (0, .ref (A 179))]) rfl (by decide) (fun _ h => h) (WS_pq [4, 3, 2, 1, 0] (lv' := [(0, .ref (A 179)), (1, .int (Int32.ofInt 0)), (2, .int (Int32.ofInt 0)), (3, .int (Int32.ofInt (-1))), (4, .int (Int32.ofInt 127))]) rfl (L10 ((127 + 1 : Int).toNat + 1) s 0 0 (-1) 127 I F (fun j hj h => absurd h (by omega)) (by first | exact ⟨by decide, by decide, by decide, by decide, by decide, by decide⟩ | omega) (Nat.lt_succ_self _) ?_)))))))))
  intro s1 x2 x3 x4 Is1 Fs1 Qs1 hs1
  refine z_load_n X (x := x3) rfl (List.Mem.tail _ (List.Mem.tail _ (List.Mem.tail _ (List.Mem.head _)))) (z_const X rfl (z_icmp_ne X (t := 71) rfl rfl ⟨by first | exact oq_97ee2c2a hs1.2.2.1 | omega, by first | exact oq_07d346ce hs1.2.2.2.1 | omega⟩ (by decide) (fun g5 => ?_) (fun g5 => ?_)))
  ·
    refine z_aload_n X (x := A 179) rfl (List.Mem.head _) (s_getR X 179 rfl (c518_ok rfl) rfl rfl (z_const X rfl (z_load_n X (x := x3) rfl (List.Mem.tail _ (List.Mem.tail _ (List.Mem.tail _ (List.Mem.head _)))) (z_ast X 260 rfl (c518_ok rfl) rfl (by decide) (show 0 < 128 by decide) (cbig_ok rfl) (wd_gen (fun s6 hs6 => ?_))))))
    have Is6 : Bd s6 := eqB hs6 (bd_C Is1 (show (0 : Int) ≤ x3 ∧ x3 ≤ 127 by first | exact ⟨oq_7a1025bf g5 hs1.2.2.1, hs1.2.2.2.1⟩ | omega) ⟨by first | exact oq_97ee2c2a hs1.2.2.1 | omega, by first | exact oq_07d346ce hs1.2.2.2.1 | omega⟩)
    have Fs6 := eqF hs6 (fm_C Fs1 (inl_ok (a := 232) rfl))
    have hz0 : ∀ j, j < 128 → iC s6 231 j = 0 := fun j hj => by rw [hs6, iC_a (by decide)]; exact Qs1 j hj (by first | (clear g5; omega) | omega)
    have sm0 : smM s6 = 0 := SM_0 hz0
    refine z_aload_n X (x := A 179) rfl (List.Mem.head _) (s_getR X 179 rfl (c518_ok rfl) rfl rfl (z_load_n X (x := x3) rfl (List.Mem.tail _ (List.Mem.tail _ (List.Mem.tail _ (List.Mem.head _)))) (z_const X rfl (z_zast X 259 rfl (c518_ok rfl) rfl (by first | exact oq_7a1025bf g5 hs1.2.2.1 | omega) (show x3 < 128 by first | exact oq_31b2bf10 hs1.2.2.2.1 | omega) (by decide) (by first | exact Or.inr (cbig_ok rfl) | omega) (wd_gen (fun s7 hs7 => ?_))))))
    have Is7 : Bd s7 := eqB hs7 (bd_C Is6 (show (0 : Int) ≤ 1 ∧ 1 ≤ 1 by first | exact ⟨by decide, by decide⟩ | omega) (by decide))
    have Fs7 := eqF hs7 (fm_C Fs6 (inl_ok (a := 231) rfl))
    have sm1 : smM s7 = smM s6 + 1 := by rw [hs7]; exact SM_st (by first | (clear g5; omega) | omega) (hz0 _ (by first | (clear g5; omega) | omega))
    refine z_const X rfl (z_store_n X (lv' := [(1, .int (Int32.ofInt 1)), (0, .ref (A 179)), (2, .int (Int32.ofInt x2)), (3, .int (Int32.ofInt x3)), (4, .int (Int32.ofInt x4))]) rfl (by decide) (fun _ h => h) (z_const X rfl (z_store X (lv' := [(4, .int (Int32.ofInt 0)), (1, .int (Int32.ofInt 1)), (0, .ref (A 179)), (2, .int (Int32.ofInt x2)), (3, .int (Int32.ofInt x3))]) rfl (by decide) (fun _ h => h) (WS_pq [2, 1, 3, 4, 0] (lv' := [(0, .ref (A 179)), (1, .int (Int32.ofInt 1)), (2, .int (Int32.ofInt x2)), (3, .int (Int32.ofInt x3)), (4, .int (Int32.ofInt 0))]) rfl (L90 ((128 - 0 : Int).toNat + 1) s7 1 x2 x3 0 Is7 Fs7 (by first | exact ⟨And.intro (hs1.1) (hs1.2.1), by decide, by decide, by decide, by decide, oq_303f220b sm1 sm0⟩ | omega) (Nat.lt_succ_self _) ?_)))))
    intro s8 x9 x10 Is8 Fs8 hs8
    refine z_load_n X (x := x9) rfl (List.Mem.tail _ (List.Mem.head _)) (z_load_n X (x := x2) rfl (List.Mem.tail _ (List.Mem.tail _ (List.Mem.head _))) ?_)
    have N11 : ∀ e12 : Int, (((x9 ≠ x2) ∧ e12 = 0) ∨ ((x9 = x2) ∧ e12 = 1)) → WS k 190 [(0, .ref (A 179)), (1, .int (Int32.ofInt x9)), (2, .int (Int32.ofInt x2)), (3, .int (Int32.ofInt x3)), (4, .int (Int32.ofInt x10))] [.int (Int32.ofInt e12)] (Wd A dT s8) 0 0 := by
      intro e12 he12
      have re12 : 0 ≤ e12 ∧ e12 ≤ 1 := by first | (clear he12 g5; omega) | (clear g5; omega) | omega
      exact w_iret X.1 q hRt (nar_ret (by first | exact oq_4cdb41ba re12.2 re12.1 he12 | omega)) (ax_d X (show cdA 239 190 = some (.ireturn, 1, 0, 0, 0) from rfl)) (Nat.zero_le _) (Nat.zero_le _) ⟨_, rfl, Is8, Fs8, e12, rfl, ⟨by first | exact oq_fa4e5087 re12.1 | omega, by first | exact oq_22e1e6b0 re12.2 | omega⟩, by first | exact oq_4cdb41ba re12.2 re12.1 he12 | omega⟩
    refine z_icmp_ne X (t := 189) rfl rfl ⟨by first | exact oq_9462313e hs8.2.1 | omega, by first | exact oq_4ee82282 hs8.2.2.1 | omega⟩ ⟨by first | exact oq_fa4e5087 hs8.1.1 | omega, by first | exact oq_4ee82282 hs8.1.2 | omega⟩ (fun g13 => ?_) (fun g13 => ?_)
    ·
      exact z_const X rfl (N11 _ (Or.inl ⟨g13, rfl⟩))
    ·
      exact z_const X rfl (z_goto X (t := 190) rfl rfl (N11 _ (Or.inr (⟨g13, rfl⟩))))
  ·
    refine z_const X rfl ?_
    exact w_iret X.1 q hRt (nar_ret (by first | exact Or.inr (by decide) | omega)) (ax_d X (show cdA 239 70 = some (.ireturn, 1, 0, 0, 0) from rfl)) (Nat.zero_le _) (Nat.zero_le _) ⟨_, rfl, Is1, Fs1, 1, rfl, (by decide), by first | exact Or.inr (by decide) | omega⟩
set_option maxRecDepth 4000 in
theorem k_isWhole (G : GX l s0 D tys a0 dT) (I : Bd s) {x : Int} (p0 : rng x) : CT l s0 D A dT 240 (rmN 240) [.ref (A 179), .int (Int32.ofInt x)] s (fun o t => Bd t ∧ Fm [] [231, 232, 230] s t ∧ ∃ e, o = .inl (some (.int (Int32.ofInt e))) ∧ rng e ∧ (e = 0 ∨ e = 1)) := by
  refine ct_of G (by decide) (Nat.le_of_ble_eq_true rfl) (fun k X E hRt hXt q => ?_)
  show WS k 0 [(0, .ref (A 179)), (1, .int (Int32.ofInt x))] [] _ 0 0
  have F : Fm [] [231, 232, 230] s s := fm_rf _ _ s
  refine z_aload_n X (x := A 179) rfl (List.Mem.head _) (z_load_n X (x := x) rfl (List.Mem.tail _ (List.Mem.head _)) (zcV_v0 X E 179 (As := [.int (Int32.ofInt x)]) (st := []) rfl rfl rfl rfl (k_setOf G I (by first | exact ⟨p0.1, p0.2⟩ | omega)) rfl (Nat.le_of_ble_eq_true rfl) (fun s1 Is1 Fs1 hps1 => ?_)))
  have Gs1 := fm_tq F Fs1 rfl rfl
  refine z_aload_n X (x := A 179) rfl (List.Mem.head _) (zcV_i0 X E 179 (As := []) (st := []) rfl rfl rfl rfl (k_hangs G Is1 ) rfl (Nat.le_of_ble_eq_true rfl) (fun s3 e4 Is3 Fs3 hrs3 hps3 => ?_))
  have Gs3 := fm_tq Gs1 Fs3 rfl rfl
  exact w_iret X.1 q hRt (nar_ret (by first | exact hps3 | omega)) (ax_d X (show cdA 240 9 = some (.ireturn, 1, 0, 0, 0) from rfl)) (Nat.zero_le _) (Nat.zero_le _) ⟨_, rfl, Is3, Gs3, e4, rfl, hrs3, by first | exact hps3 | omega⟩
set_option maxRecDepth 4000 in
theorem k_neck (G : GX l s0 D tys a0 dT) (I : Bd s) {x y : Int} (p0 : rng x) (p1 : rng y) : CT l s0 D A dT 242 (rmN 242) [.ref (A 179), .int (Int32.ofInt x), .int (Int32.ofInt y)] s (fun o t => Bd t ∧ Fm [73] [231, 232, 230] s t ∧ ∃ e, o = .inl (some (.int (Int32.ofInt e))) ∧ rng e ∧ (True)) := by
  refine ct_of G (by decide) (Nat.le_of_ble_eq_true rfl) (fun k X E hRt hXt q => ?_)
  show WS k 0 [(0, .ref (A 179)), (1, .int (Int32.ofInt x)), (2, .int (Int32.ofInt y))] [] _ 0 0
  have F : Fm [73] [231, 232, 230] s s := fm_rf _ _ s
  have b1 := bi_73 I
  have L45 : ∀ (n : Nat) (t : PS) (xv yv nn c : Int), Bd t → Fm [73] [231, 232, 230] s t → (rng yv ∧ 0 ≤ nn ∧ nn ≤ c ∧ c ≤ 128) → (128 - c : Int).toNat < n → (∀ (t' : PS) (nn' c' : Int), Bd t' → Fm [73] [231, 232, 230] s t' → (rng yv ∧ 0 ≤ nn' ∧ nn' ≤ c' ∧ c' ≤ 128) → WS k 121 [(0, .ref (A 179)), (1, .int (Int32.ofInt xv)), (2, .int (Int32.ofInt yv)), (3, .int (Int32.ofInt nn')), (4, .int (Int32.ofInt c'))] [] (Wd A dT t') 0 0) → WS k 45 [(0, .ref (A 179)), (1, .int (Int32.ofInt xv)), (2, .int (Int32.ofInt yv)), (3, .int (Int32.ofInt nn)), (4, .int (Int32.ofInt c))] [] (Wd A dT t) 0 0 := by
    intro n
    induction n with
    | zero =>
      intro t xv yv nn c I F hi hm kx
      exact absurd hm (Nat.not_lt_zero _)
    | succ n ih =>
      intro t xv yv nn c I F hi hm kx
      have b1001 := bi_73 I
      refine z_load X (x := c) rfl (List.Mem.tail _ (List.Mem.tail _ (List.Mem.tail _ (List.Mem.tail _ (List.Mem.head _))))) (z_sipush X rfl (z_icmp_ge X (t := 121) rfl rfl ⟨by first | exact oq_e001bc0d hi.2.2.1 hi.2.1 | omega, by first | exact oq_4ee82282 hi.2.2.2 | omega⟩ (by decide) (fun g1002 => ?_) (fun g1002 => ?_)))
      ·
        refine WS_pq [0, 1, 2, 3, 4] (lv' := [(0, .ref (A 179)), (1, .int (Int32.ofInt xv)), (2, .int (Int32.ofInt yv)), (3, .int (Int32.ofInt nn)), (4, .int (Int32.ofInt c))]) rfl ?_
        exact kx _ nn c I F (by first | exact ⟨And.intro (hi.1.1) (hi.1.2), hi.2.1, hi.2.2.1, hi.2.2.2⟩ | omega)
      ·
        refine z_aload_n X (x := A 179) rfl (List.Mem.head _) (s_getR X 179 rfl (c518_ok rfl) rfl rfl (z_load X (x := c) rfl (List.Mem.tail _ (List.Mem.tail _ (List.Mem.tail _ (List.Mem.tail _ (List.Mem.head _))))) (z_zald X 258 rfl (c518_ok rfl) rfl (by first | exact oq_12a1f9e1 hi.2.2.1 hi.2.1 | omega) (show c < 128 by first | exact g1002 | omega) (cbig_ok rfl) ?_)))
        have b1003 := bc_230 I (show (c).toNat < 128 by first | exact oq_afb89947 g1002 | omega)
        refine z_if_ne X (t := 66) rfl rfl (rng_to _) (fun g1004 => ?_) (fun g1004 => ?_)
        ·
          refine z_aload_n X (x := A 179) rfl (List.Mem.head _) (s_getR X 179 rfl (c518_ok rfl) rfl rfl (z_load X (x := c) rfl (List.Mem.tail _ (List.Mem.tail _ (List.Mem.tail _ (List.Mem.tail _ (List.Mem.head _))))) (z_const X rfl (z_zast X 258 rfl (c518_ok rfl) rfl (by first | exact oq_12a1f9e1 hi.2.2.1 hi.2.1 | omega) (show c < 128 by first | exact g1002 | omega) (by decide) (by first | exact Or.inl (cbig_ok rfl) | omega) (wd_gen (fun s1005 hs1005 => ?_))))))
          have Is1005 : Bd s1005 := eqB hs1005 (bd_C I (show (0 : Int) ≤ 0 ∧ 0 ≤ 1 by first | exact ⟨by decide, by decide⟩ | omega) (by decide))
          have Fs1005 := eqF hs1005 (fm_C F (inl_ok (a := 230) rfl))
          have ws1005_73 : iI s1005 73 = iI t 73 := eqI hs1005 rfl
          refine z_aload_n X (x := A 179) rfl (List.Mem.head _) (zcV_i0 X E 179 (As := []) (st := []) rfl rfl rfl rfl (k_hangs G Is1005 ) rfl (Nat.le_of_ble_eq_true rfl) (fun s1006 e1007 Is1006 Fs1006 hrs1006 hps1006 => ?_))
          have Gs1006 := fm_tq Fs1005 Fs1006 rfl rfl
          have ws1006_73 : iI s1006 73 = iI s1005 73 := fm_iq Fs1006 rfl
          have N1008 : ∀ e1009 : Int, (((e1007 ≠ 0) ∧ e1009 = 0) ∨ ((e1007 = 0) ∧ e1009 = 1)) → WS k 86 [(0, .ref (A 179)), (1, .int (Int32.ofInt xv)), (2, .int (Int32.ofInt yv)), (3, .int (Int32.ofInt nn)), (4, .int (Int32.ofInt c))] [.int (Int32.ofInt e1009)] (Wd A dT s1006) 0 0 := by
            intro e1009 he1009
            have re1009 : 0 ≤ e1009 ∧ e1009 ≤ 1 := by first | (clear he1009 hps1006 g1004; omega) | (clear hps1006 g1004; omega) | omega
            refine z_store X (lv' := [(5, .int (Int32.ofInt e1009)), (0, .ref (A 179)), (1, .int (Int32.ofInt xv)), (2, .int (Int32.ofInt yv)), (3, .int (Int32.ofInt nn)), (4, .int (Int32.ofInt c))]) rfl (by decide) (fun _ h => h) (z_aload_n X (x := A 179) rfl (List.Mem.tail _ (List.Mem.head _)) (s_getR X 179 rfl (c518_ok rfl) rfl rfl (z_load X (x := c) rfl (List.Mem.tail _ (List.Mem.tail _ (List.Mem.tail _ (List.Mem.tail _ (List.Mem.tail _ (List.Mem.head _)))))) (z_const X rfl (z_zast X 258 rfl (c518_ok rfl) rfl (by first | exact oq_12a1f9e1 hi.2.2.1 hi.2.1 | omega) (show c < 128 by first | exact g1002 | omega) (by decide) (by first | exact Or.inr (cbig_ok rfl) | omega) (wd_gen (fun s1010 hs1010 => ?_)))))))
            have Is1010 : Bd s1010 := eqB hs1010 (bd_C Is1006 (show (0 : Int) ≤ 1 ∧ 1 ≤ 1 by first | exact ⟨by decide, by decide⟩ | omega) (by decide))
            have Fs1010 := eqF hs1010 (fm_C Gs1006 (inl_ok (a := 230) rfl))
            have ws1010_73 : iI s1010 73 = iI s1006 73 := eqI hs1010 rfl
            refine z_load X (x := e1009) rfl (List.Mem.head _) (z_if_ne X (t := 104) rfl rfl ⟨by first | exact oq_fa4e5087 re1009.1 | omega, by first | exact oq_22e1e6b0 re1009.2 | omega⟩ (fun g1011 => ?_) (fun g1011 => ?_))
            ·
              refine z_load_n X (x := nn) rfl (List.Mem.tail _ (List.Mem.tail _ (List.Mem.tail _ (List.Mem.tail _ (List.Mem.head _))))) (z_load_n X (x := yv) rfl (List.Mem.tail _ (List.Mem.tail _ (List.Mem.tail _ (List.Mem.head _)))) (z_icmp_ne X (t := 112) rfl rfl ⟨by first | exact oq_fa4e5087 hi.2.1 | omega, by first | exact oq_0961352d hi.2.2.1 g1002 | omega⟩ ⟨by first | exact hi.1.1 | omega, by first | exact hi.1.2 | omega⟩ (fun g1012 => ?_) (fun g1012 => ?_)))
              ·
                refine z_inc X (x := nn) (lv' := [(3, .int (Int32.ofInt (nn + 1))), (5, .int (Int32.ofInt e1009)), (0, .ref (A 179)), (1, .int (Int32.ofInt xv)), (2, .int (Int32.ofInt yv)), (4, .int (Int32.ofInt c))]) rfl (by decide) (List.Mem.tail _ (List.Mem.tail _ (List.Mem.tail _ (List.Mem.tail _ (List.Mem.head _))))) (fun _ h => h) (z_inc X (x := c) (lv' := [(4, .int (Int32.ofInt (c + 1))), (3, .int (Int32.ofInt (nn + 1))), (5, .int (Int32.ofInt e1009)), (0, .ref (A 179)), (1, .int (Int32.ofInt xv)), (2, .int (Int32.ofInt yv))]) rfl (by decide) (List.Mem.tail _ (List.Mem.tail _ (List.Mem.tail _ (List.Mem.tail _ (List.Mem.tail _ (List.Mem.head _)))))) (fun _ h => h) (z_goto X (t := 45) rfl rfl (WS_pq [3, 4, 5, 1, 0] (lv' := [(0, .ref (A 179)), (1, .int (Int32.ofInt xv)), (2, .int (Int32.ofInt yv)), (3, .int (Int32.ofInt (nn + 1))), (4, .int (Int32.ofInt (c + 1)))]) rfl ?_)))
                exact ih _ xv yv (nn + 1) (c + 1) Is1010 Fs1010 (by first | exact ⟨And.intro (hi.1.1) (hi.1.2), oq_54f49eb5 hi.2.1, oq_8d48a029 hi.2.2.1, oq_d2afb425 g1002⟩ | omega) (by first | exact qk_me hm (by decide) (oq_c268b7bd g1002) | omega) kx
              ·
                refine z_load X (x := c) rfl (List.Mem.tail _ (List.Mem.tail _ (List.Mem.tail _ (List.Mem.tail _ (List.Mem.tail _ (List.Mem.head _)))))) ?_
                exact w_iret X.1 q hRt rfl (ax_d X (show cdA 242 111 = some (.ireturn, 1, 0, 0, 0) from rfl)) (Nat.zero_le _) (Nat.zero_le _) ⟨_, rfl, Is1010, Fs1010, c, rfl, ⟨by first | exact oq_e001bc0d hi.2.2.1 hi.2.1 | omega, by first | exact oq_fe95e6e4 g1002 | omega⟩, trivial⟩
            ·
              refine z_goto X (t := 115) rfl rfl (z_inc X (x := c) (lv' := [(4, .int (Int32.ofInt (c + 1))), (5, .int (Int32.ofInt e1009)), (0, .ref (A 179)), (1, .int (Int32.ofInt xv)), (2, .int (Int32.ofInt yv)), (3, .int (Int32.ofInt nn))]) rfl (by decide) (List.Mem.tail _ (List.Mem.tail _ (List.Mem.tail _ (List.Mem.tail _ (List.Mem.tail _ (List.Mem.head _)))))) (fun _ h => h) (z_goto X (t := 45) rfl rfl (WS_pq [2, 3, 4, 5, 0] (lv' := [(0, .ref (A 179)), (1, .int (Int32.ofInt xv)), (2, .int (Int32.ofInt yv)), (3, .int (Int32.ofInt nn)), (4, .int (Int32.ofInt (c + 1)))]) rfl ?_)))
              exact ih _ xv yv nn (c + 1) Is1010 Fs1010 (by first | exact ⟨And.intro (hi.1.1) (hi.1.2), hi.2.1, oq_03182e9e hi.2.2.1, oq_d2afb425 g1002⟩ | omega) (by first | exact qk_me hm (by decide) (oq_c268b7bd g1002) | omega) kx
          refine z_if_ne X (t := 85) rfl rfl hrs1006 (fun g1013 => ?_) (fun g1013 => ?_)
          ·
            exact z_const X rfl (N1008 _ (Or.inl ⟨g1013, rfl⟩))
          ·
            exact z_const X rfl (z_goto X (t := 86) rfl rfl (N1008 _ (Or.inr (⟨g1013, rfl⟩))))
        ·
          refine z_goto X (t := 115) rfl rfl (z_inc X (x := c) (lv' := [(4, .int (Int32.ofInt (c + 1))), (0, .ref (A 179)), (1, .int (Int32.ofInt xv)), (2, .int (Int32.ofInt yv)), (3, .int (Int32.ofInt nn))]) rfl (by decide) (List.Mem.tail _ (List.Mem.tail _ (List.Mem.tail _ (List.Mem.tail _ (List.Mem.head _))))) (fun _ h => h) (z_goto X (t := 45) rfl rfl (WS_pq [1, 2, 3, 4, 0] (lv' := [(0, .ref (A 179)), (1, .int (Int32.ofInt xv)), (2, .int (Int32.ofInt yv)), (3, .int (Int32.ofInt nn)), (4, .int (Int32.ofInt (c + 1)))]) rfl ?_)))
          exact ih _ xv yv nn (c + 1) I F (by first | exact ⟨And.intro (hi.1.1) (hi.1.2), hi.2.1, oq_03182e9e hi.2.2.1, oq_d2afb425 g1002⟩ | omega) (by first | exact qk_me hm (by decide) (oq_c268b7bd g1002) | omega) kx
  refine z_aload_n X (x := A 179) rfl (List.Mem.head _) (z_const X rfl (s_putI X 179 rfl (c518_ok rfl) rfl rfl (by decide) rfl rfl rfl (wd_gen (fun s2 hs2 => ?_))))
  have Is2 : Bd s2 := eqB hs2 (bd_I I (show (0 : Int) ≤ 0 ∧ 0 ≤ 3 by first | exact ⟨by decide, by decide⟩ | omega) (by decide))
  have Fs2 := eqF hs2 (fm_I F (inl_ok (a := 73) rfl))
  have vs2 : iI s2 73 = 0 := eqI hs2 (iI_u (by decide))
  refine z_aload_n X (x := A 179) rfl (List.Mem.head _) (z_load_n X (x := x) rfl (List.Mem.tail _ (List.Mem.head _)) (z_const X rfl (z_bipush X rfl (zcS_i0 X E (As := [.int (Int32.ofInt x), .int (Int32.ofInt 0), .int (Int32.ofInt 7)]) (st := [.ref (A 179)]) rfl rfl (k_in G Is2 (by first | exact ⟨p0.1, p0.2⟩ | omega) (by first | exact ⟨by decide, by decide⟩ | omega) (by first | exact ⟨by decide, by decide⟩ | omega)) rfl (Nat.le_of_ble_eq_true rfl) (fun s3 e4 Is3 Fs3 hrs3 hps3 => ?_)))))
  have Gs3 := fm_tq Fs2 Fs3 rfl rfl
  have ws3_73 : iI s3 73 = iI s2 73 := fm_iq Fs3 rfl
  have N5 : ∀ e6 : Int, (((e4 ≠ 0) ∧ e6 = 0) ∨ ((e4 = 0) ∧ e6 = 1)) → WS k 21 [(0, .ref (A 179)), (1, .int (Int32.ofInt x)), (2, .int (Int32.ofInt y))] [.int (Int32.ofInt e6), .ref (A 179)] (Wd A dT s3) 0 0 := by
    intro e6 he6
    have re6 : 0 ≤ e6 ∧ e6 ≤ 1 := by first | (clear he6 hps3; omega) | (clear hps3; omega) | omega
    refine z_const X rfl (zcV_i0 X E 179 (As := [.int (Int32.ofInt e6), .int (Int32.ofInt 1)]) (st := []) rfl rfl rfl rfl (k_bad G Is3 (by first | exact oq_31e518ae re6.2 re6.1 | omega) (by first | exact ⟨by decide, by decide⟩ | omega)) rfl (Nat.le_of_ble_eq_true rfl) (fun s7 e8 Is7 Fs7 hrs7 hps7 => ?_))
    have Gs7 := fm_tq Gs3 Fs7 rfl rfl
    have b9 := bi_73 Is7
    refine z_if_eq X (t := 30) rfl rfl hrs7 (fun g10 => ?_) (fun g10 => ?_)
    ·
      refine z_aload_n X (x := A 179) rfl (List.Mem.head _) (z_load_n X (x := x) rfl (List.Mem.tail _ (List.Mem.head _)) (zcV_i0 X E 179 (As := [.int (Int32.ofInt x)]) (st := []) rfl rfl rfl rfl (k_isWhole G Is7 (by first | exact ⟨p0.1, p0.2⟩ | omega)) rfl (Nat.le_of_ble_eq_true rfl) (fun s11 e12 Is11 Fs11 hrs11 hps11 => ?_)))
      have Gs11 := fm_tq Gs7 Fs11 rfl rfl
      have ws11_73 : iI s11 73 = iI s7 73 := fm_iq Fs11 rfl
      refine z_if_ne X (t := 40) rfl rfl hrs11 (fun g13 => ?_) (fun g13 => ?_)
      ·
        refine z_const X rfl (z_store_n X (lv' := [(3, .int (Int32.ofInt 0)), (0, .ref (A 179)), (1, .int (Int32.ofInt x)), (2, .int (Int32.ofInt y))]) rfl (by decide) (fun _ h => h) (z_const X rfl (z_store X (lv' := [(4, .int (Int32.ofInt 0)), (3, .int (Int32.ofInt 0)), (0, .ref (A 179)), (1, .int (Int32.ofInt x)), (2, .int (Int32.ofInt y))]) rfl (by decide) (fun _ h => h) (WS_pq [2, 3, 4, 1, 0] (lv' := [(0, .ref (A 179)), (1, .int (Int32.ofInt x)), (2, .int (Int32.ofInt y)), (3, .int (Int32.ofInt 0)), (4, .int (Int32.ofInt 0))]) rfl (L45 ((128 - 0 : Int).toNat + 1) s11 x y 0 0 Is11 Gs11 (by first | exact ⟨And.intro (p1.1) (p1.2), by decide, by decide, by decide⟩ | omega) (Nat.lt_succ_self _) ?_)))))
        intro s14 x15 x16 Is14 Fs14 hs14
        have b17 := bi_73 Is14
        refine z_const X rfl ?_
        exact w_iret X.1 q hRt rfl (ax_d X (show cdA 242 122 = some (.ireturn, 1, 0, 0, 0) from rfl)) (Nat.zero_le _) (Nat.zero_le _) ⟨_, rfl, Is14, Fs14, (-1), rfl, (by decide), trivial⟩
      ·
        refine z_const X rfl ?_
        exact w_iret X.1 q hRt rfl (ax_d X (show cdA 242 39 = some (.ireturn, 1, 0, 0, 0) from rfl)) (Nat.zero_le _) (Nat.zero_le _) ⟨_, rfl, Is11, Gs11, (-1), rfl, (by decide), trivial⟩
    ·
      refine z_const X rfl ?_
      exact w_iret X.1 q hRt rfl (ax_d X (show cdA 242 29 = some (.ireturn, 1, 0, 0, 0) from rfl)) (Nat.zero_le _) (Nat.zero_le _) ⟨_, rfl, Is7, Gs7, 0, rfl, (by decide), trivial⟩
  refine z_if_ne X (t := 20) rfl rfl hrs3 (fun g18 => ?_) (fun g18 => ?_)
  ·
    exact z_const X rfl (N5 _ (Or.inl ⟨g18, rfl⟩))
  ·
    exact z_const X rfl (z_goto X (t := 21) rfl rfl (N5 _ (Or.inr (⟨g18, rfl⟩))))
end M57
end
section
theorem oq_212cfe9d {a0 a1 : Int} (h0 : a0 = a1) (h1 : a1 ≠ (-1)) (h2 : (-1) ≤ a1) : 0 ≤ a0 := by omega
theorem oq_a618c864 {a0 a1 a2 a3 : Int} (h0 : a0 = a1) (h1 : a2 < a3) (h2 : a1 = a3) : a2 < a0 := by omega
theorem oq_5ccab359 {a0 a1 a2 a3 : Int} (h0 : ((a0 = 0 ∧ (((a1 % 8) = 7 ∧ a2 = (-1)) ∨ ((¬ ((a1 % 8) = 7)) ∧ a2 = (a1 + 1)))) ∨ ((a0 = 1 ∧ (((a1 % 8) = 0 ∧ a2 = (-1)) ∨ ((¬ ((a1 % 8) = 0)) ∧ a2 = (a1 - 1)))) ∨ ((a0 = 2 ∧ ((((a1 / 8) % 8) = 7 ∧ a2 = (-1)) ∨ ((¬ (((a1 / 8) % 8) = 7)) ∧ a2 = (a1 + 8)))) ∨ ((a0 = 3 ∧ ((((a1 / 8) % 8) = 0 ∧ a2 = (-1)) ∨ ((¬ (((a1 / 8) % 8) = 0)) ∧ a2 = (a1 - 8)))) ∨ ((a0 = 4 ∧ (((a1 / 64) = 1 ∧ a2 = (-1)) ∨ ((¬ ((a1 / 64) = 1)) ∧ a2 = (a1 + 64)))) ∨ (a0 = 5 ∧ (((a1 / 64) = 0 ∧ a2 = (-1)) ∨ ((¬ ((a1 / 64) = 0)) ∧ a2 = (a1 - 64)))))))))) (h1 : a3 ≠ (-1)) (h2 : a3 ≤ 127) (h3 : (-1) ≤ a3) (h4 : ((a0 = 0 ∧ (((a1 % 8) = 7 ∧ a3 = (-1)) ∨ ((¬ ((a1 % 8) = 7)) ∧ a3 = (a1 + 1)))) ∨ ((a0 = 1 ∧ (((a1 % 8) = 0 ∧ a3 = (-1)) ∨ ((¬ ((a1 % 8) = 0)) ∧ a3 = (a1 - 1)))) ∨ ((a0 = 2 ∧ ((((a1 / 8) % 8) = 7 ∧ a3 = (-1)) ∨ ((¬ (((a1 / 8) % 8) = 7)) ∧ a3 = (a1 + 8)))) ∨ ((a0 = 3 ∧ ((((a1 / 8) % 8) = 0 ∧ a3 = (-1)) ∨ ((¬ (((a1 / 8) % 8) = 0)) ∧ a3 = (a1 - 8)))) ∨ ((a0 = 4 ∧ (((a1 / 64) = 1 ∧ a3 = (-1)) ∨ ((¬ ((a1 / 64) = 1)) ∧ a3 = (a1 + 64)))) ∨ (a0 = 5 ∧ (((a1 / 64) = 0 ∧ a3 = (-1)) ∨ ((¬ ((a1 / 64) = 0)) ∧ a3 = (a1 - 64)))))))))) (h5 : 0 ≤ a1) : 0 ≤ a2 := by omega
theorem oq_04367f15 {a0 : Int} (h0 : a0 < 128) : a0 ≤ 127 := by omega
theorem oq_5c09eddf {a0 a1 a2 : Int} (h0 : a0 ≤ 1) (h1 : a1 ≤ a2) : (a1 + a0) ≤ (a2 + 1) := by omega
theorem oq_e4399267 {a0 : Int} (h0 : a0 ≤ 127) : (a0 + 1) ≤ 128 := by omega
theorem oq_7e05e720 {a0 : Int} (h0 : a0 ≤ 127) : 0 < (128 - a0) := by omega
theorem oq_df5c764a {a0 a1 a2 a3 : Int} (h0 : ((a0 = 0 ∧ (((-2147483648) ≤ a1 ∧ a1 ≤ 2147483647) ∧ a2 = a1)) ∨ ((a0 ≠ 0 ∧ (((-2147483648) ≤ a1 ∧ a1 ≤ 2147483647) ∧ (a1 ≤ a3 ∧ a2 = a3))) ∨ (a0 ≠ 0 ∧ (((-2147483648) ≤ a1 ∧ a1 ≤ 2147483647) ∧ (a3 < a1 ∧ (((-2147483648) ≤ a1 ∧ a1 ≤ 2147483647) ∧ a2 = a1))))))) (h1 : a3 ≤ 2147483647) (h2 : (-2147483648) ≤ a3) : ((-2147483648) ≤ a2 ∧ a2 ≤ 2147483647) := by omega
theorem oq_70a17013 {a0 a1 : Int} (h0 : a0 ≤ a1) (h1 : a1 < 8) : a0 ≤ 2147483647 := by omega
theorem oq_e9ac77f5 {a0 a1 : Int} (h0 : a0 ≤ a1) (h1 : a0 = 0) : 0 ≤ a1 := by omega
theorem oq_ef392b12 {a0 a1 : Int} (h0 : a0 < a1) (h1 : a1 ≤ 2147483647) : a0 ≤ 2147483647 := by omega
/-! The model: edges, costs, moves -/
section M58
variable {l : Launch} {s0 : State} {D : va_G} {tys : List (ClassId × FieldType)} {a0 : Array Value} {A : Nat → Nat} {dT : Nat → ClassId} {s : PS}
set_option maxRecDepth 4000 in
theorem k_isCrossing (G : GX l s0 D tys a0 dT) (I : Bd s) (jRLx : RLx s) {x : Int} (p0 : 0 ≤ x ∧ x ≤ 127) : CT l s0 D A dT 245 (rmN 245) [.ref (A 179), .int (Int32.ofInt x)] s (fun o t => Bd t ∧ Fm [] [202, 204, 205, 206, 207, 208, 209, 210, 211, 212, 213, 214, 215, 216, 217, 218, 219, 220, 221, 222, 223, 224, 225, 226, 227, 203] s t ∧ RLx t ∧ ∃ e, o = .inl (some (.int (Int32.ofInt e))) ∧ rng e ∧ (e = 0 ∨ e = 1)) := by
  refine ct_of G (by decide) (Nat.le_of_ble_eq_true rfl) (fun k X E hRt hXt q => ?_)
  show WS k 0 [(0, .ref (A 179)), (1, .int (Int32.ofInt x))] [] _ 0 0
  have F : Fm [] [202, 204, 205, 206, 207, 208, 209, 210, 211, 212, 213, 214, 215, 216, 217, 218, 219, 220, 221, 222, 223, 224, 225, 226, 227, 203] s s := fm_rf _ _ s
  have b1 := bi_90 I
  have L19 : ∀ (n : Nat) (t : PS) (xv a b : Int), Bd t → Fm [] [202, 204, 205, 206, 207, 208, 209, 210, 211, 212, 213, 214, 215, 216, 217, 218, 219, 220, 221, 222, 223, 224, 225, 226, 227, 203] s t → RLx t → (NQ t) → ((0 ≤ xv ∧ xv ≤ 127) ∧ 0 ≤ a ∧ a < iI t 90 ∧ 1 ≤ b ∧ b ≤ 12) → (12 - b : Int).toNat < n → (∀ (t' : PS) (b' : Int), Bd t' → Fm [] [202, 204, 205, 206, 207, 208, 209, 210, 211, 212, 213, 214, 215, 216, 217, 218, 219, 220, 221, 222, 223, 224, 225, 226, 227, 203] s t' → RLx t' → (NQ t') → ((0 ≤ xv ∧ xv ≤ 127) ∧ 0 ≤ a ∧ a < iI t' 90 ∧ 1 ≤ b' ∧ b' ≤ 12) → WS k 88 [(0, .ref (A 179)), (1, .int (Int32.ofInt xv)), (2, .int (Int32.ofInt a)), (3, .int (Int32.ofInt b'))] [] (Wd A dT t') 0 0) → WS k 19 [(0, .ref (A 179)), (1, .int (Int32.ofInt xv)), (2, .int (Int32.ofInt a)), (3, .int (Int32.ofInt b))] [] (Wd A dT t) 0 0 := by
    intro n
    induction n with
    | zero =>
      intro t xv a b I F jjRLx hq hi hm kx
      exact absurd hm (Nat.not_lt_zero _)
    | succ n ih =>
      intro t xv a b I F jjRLx hq hi hm kx
      have b1001 := bi_90 I
      refine z_load_n X (x := b) rfl (List.Mem.tail _ (List.Mem.tail _ (List.Mem.tail _ (List.Mem.head _)))) (z_aload_n X (x := A 179) rfl (List.Mem.head _) (z_getI X 179 rfl (c518_ok rfl) rfl rfl ?_))
      have b1002 := bi_90 I
      refine z_icmp_ge X (t := 88) rfl rfl ⟨by first | exact oq_9462313e hi.2.2.2.1 | omega, by first | exact oq_78843a64 hi.2.2.2.2 | omega⟩ (rng_to _) (fun g1003 => ?_) (fun g1003 => ?_)
      ·
        refine WS_pq [0, 1, 2, 3] (lv' := [(0, .ref (A 179)), (1, .int (Int32.ofInt xv)), (2, .int (Int32.ofInt a)), (3, .int (Int32.ofInt b))]) rfl ?_
        exact kx _ b I F jjRLx hq (by first | exact ⟨And.intro (hi.1.1) (hi.1.2), hi.2.1, hi.2.2.1, hi.2.2.2.1, hi.2.2.2.2⟩ | omega)
      ·
        refine z_aload_n X (x := A 179) rfl (List.Mem.head _) (s_getR X 179 rfl (c518_ok rfl) rfl rfl (z_load_n X (x := a) rfl (List.Mem.tail _ (List.Mem.tail _ (List.Mem.head _))) (z_aald X rw_202 rfl (by first | exact hi.2.1 | omega) (show a < 12 by first | exact oq_f36e82a8 hi.2.2.1 b1002.2 | omega) (by decide) (z_load_n X (x := xv) rfl (List.Mem.tail _ (List.Mem.head _)) (z_ald2 X rw_202 rfl (show (a : Int).toNat < 12 by first | exact oq_2dac6850 hi.2.2.1 b1002.2 | omega) (by first | exact hi.1.1 | omega) (show xv < 128 by first | exact oq_31b2bf10 hi.1.2 | omega) (by decide) ?_)))))
        have b1004 : ((-1) : Int) ≤ (iC t (178 + (a : Int).toNat) (xv : Int).toNat) ∧ (iC t (178 + (a : Int).toNat) (xv : Int).toNat) ≤ 23 := rw_bd rw_202 I (show (a : Int).toNat < 12 by first | exact oq_2dac6850 hi.2.2.1 b1002.2 | omega) (show (xv : Int).toNat < 128 by first | exact oq_c7f4e9c1 hi.1.2 | omega)
        refine z_const X rfl (z_icmp_eq X (t := 82) rfl rfl (rng_to _) (by decide) (fun g1005 => ?_) (fun g1005 => ?_))
        ·
          refine z_inc X (x := b) (lv' := [(3, .int (Int32.ofInt (b + 1))), (0, .ref (A 179)), (1, .int (Int32.ofInt xv)), (2, .int (Int32.ofInt a))]) rfl (by decide) (List.Mem.tail _ (List.Mem.tail _ (List.Mem.tail _ (List.Mem.head _)))) (fun _ h => h) (z_goto X (t := 19) rfl rfl (WS_pq [1, 2, 3, 0] (lv' := [(0, .ref (A 179)), (1, .int (Int32.ofInt xv)), (2, .int (Int32.ofInt a)), (3, .int (Int32.ofInt (b + 1)))]) rfl ?_))
          exact ih _ xv a (b + 1) I F jjRLx hq (by first | exact ⟨And.intro (hi.1.1) (hi.1.2), hi.2.1, hi.2.2.1, oq_1e1a2df6 hi.2.2.2.1, oq_4dae995e g1003 b1002.2⟩ | omega) (by first | exact qk_me hm (by decide) (oq_b575e8c1 g1003 b1002.2) | omega) kx
        ·
          refine z_aload_n X (x := A 179) rfl (List.Mem.head _) (s_getR X 179 rfl (c518_ok rfl) rfl rfl (z_load_n X (x := b) rfl (List.Mem.tail _ (List.Mem.tail _ (List.Mem.tail _ (List.Mem.head _)))) (z_aald X rw_202 rfl (by first | exact oq_2a6e3b50 hi.2.2.2.1 | omega) (show b < 12 by first | exact oq_f36e82a8 g1003 b1002.2 | omega) (by decide) (z_load_n X (x := xv) rfl (List.Mem.tail _ (List.Mem.head _)) (z_ald2 X rw_202 rfl (show (b : Int).toNat < 12 by first | exact oq_2dac6850 g1003 b1002.2 | omega) (by first | exact hi.1.1 | omega) (show xv < 128 by first | exact oq_31b2bf10 hi.1.2 | omega) (by decide) ?_)))))
          have b1006 : ((-1) : Int) ≤ (iC t (178 + (b : Int).toNat) (xv : Int).toNat) ∧ (iC t (178 + (b : Int).toNat) (xv : Int).toNat) ≤ 23 := rw_bd rw_202 I (show (b : Int).toNat < 12 by first | exact oq_2dac6850 g1003 b1002.2 | omega) (show (xv : Int).toNat < 128 by first | exact oq_c7f4e9c1 hi.1.2 | omega)
          refine z_const X rfl (z_icmp_eq X (t := 82) rfl rfl (rng_to _) (by decide) (fun g1007 => ?_) (fun g1007 => ?_))
          ·
            refine z_inc X (x := b) (lv' := [(3, .int (Int32.ofInt (b + 1))), (0, .ref (A 179)), (1, .int (Int32.ofInt xv)), (2, .int (Int32.ofInt a))]) rfl (by decide) (List.Mem.tail _ (List.Mem.tail _ (List.Mem.tail _ (List.Mem.head _)))) (fun _ h => h) (z_goto X (t := 19) rfl rfl (WS_pq [1, 2, 3, 0] (lv' := [(0, .ref (A 179)), (1, .int (Int32.ofInt xv)), (2, .int (Int32.ofInt a)), (3, .int (Int32.ofInt (b + 1)))]) rfl ?_))
            exact ih _ xv a (b + 1) I F jjRLx hq (by first | exact ⟨And.intro (hi.1.1) (hi.1.2), hi.2.1, hi.2.2.1, oq_1e1a2df6 hi.2.2.2.1, oq_4dae995e g1003 b1002.2⟩ | omega) (by first | exact qk_me hm (by decide) (oq_b575e8c1 g1003 b1002.2) | omega) kx
          ·
            refine z_aload_n X (x := A 179) rfl (List.Mem.head _) (z_load_n X (x := a) rfl (List.Mem.tail _ (List.Mem.tail _ (List.Mem.head _))) (z_aload_n X (x := A 179) rfl (List.Mem.head _) (s_getR X 179 rfl (c518_ok rfl) rfl rfl (z_load_n X (x := a) rfl (List.Mem.tail _ (List.Mem.tail _ (List.Mem.head _))) (z_aald X rw_202 rfl (by first | exact hi.2.1 | omega) (show a < 12 by first | exact oq_f36e82a8 hi.2.2.1 b1002.2 | omega) (by decide) (z_load_n X (x := xv) rfl (List.Mem.tail _ (List.Mem.head _)) (z_ald2 X rw_202 rfl (show (a : Int).toNat < 12 by first | exact oq_2dac6850 hi.2.2.1 b1002.2 | omega) (by first | exact hi.1.1 | omega) (show xv < 128 by first | exact oq_31b2bf10 hi.1.2 | omega) (by decide) ?_)))))))
            have b1008 : ((-1) : Int) ≤ (iC t (178 + (a : Int).toNat) (xv : Int).toNat) ∧ (iC t (178 + (a : Int).toNat) (xv : Int).toNat) ≤ 23 := rw_bd rw_202 I (show (a : Int).toNat < 12 by first | exact oq_2dac6850 hi.2.2.1 b1002.2 | omega) (show (xv : Int).toNat < 128 by first | exact oq_c7f4e9c1 hi.1.2 | omega)
            have n11009 := (hq (a : Int).toNat (by first | (clear g1007 g1005; omega) | (clear g1005; omega) | omega) (by first | (clear g1007 g1005; omega) | (clear g1005; omega) | omega)).1
            have r11010 := (jjRLx (a : Int).toNat (by first | (clear g1007 g1005; omega) | (clear g1005; omega) | omega) (by first | (clear g1007 g1005; omega) | (clear g1005; omega) | omega)).2 (xv : Int).toNat (by first | (clear g1007 g1005; omega) | (clear g1005; omega) | omega)
            refine zcV_i0 X E 179 (As := [.int (Int32.ofInt a), .int (Int32.ofInt (iC t (178 + (a : Int).toNat) (xv : Int).toNat))]) (st := []) rfl rfl rfl rfl (k_goes G I (by first | exact ⟨hi.2.1, oq_e4d7f3c5 hi.2.2.1 b1002.2⟩ | omega) (by first | exact ⟨oq_5234833b b1008.1 g1005, by first | (clear g1007 g1005; omega) | (clear g1005; omega) | omega⟩ | omega)) rfl (Nat.le_of_ble_eq_true rfl) (fun s1011 e1012 Is1011 Fs1011 hrs1011 hps1011 => ?_)
            have Gs1011 := fm_tq F Fs1011 rfl rfl
            have JRLx_s1011 : RLx s1011 := RLx_fm Fs1011 (by decide) jjRLx
            have JNQ_s1011 : NQ s1011 := NQ_fm Fs1011 (by decide) hq
            have ws1011_90 : iI s1011 90 = iI t 90 := fm_iq Fs1011 rfl
            refine z_aload_n X (x := A 179) rfl (List.Mem.head _) (z_load_n X (x := b) rfl (List.Mem.tail _ (List.Mem.tail _ (List.Mem.tail _ (List.Mem.head _)))) (z_aload_n X (x := A 179) rfl (List.Mem.head _) (s_getR X 179 rfl (c518_ok rfl) rfl rfl (z_load_n X (x := b) rfl (List.Mem.tail _ (List.Mem.tail _ (List.Mem.tail _ (List.Mem.head _)))) (z_aald X rw_202 rfl (by first | exact oq_2a6e3b50 hi.2.2.2.1 | omega) (show b < 12 by first | exact oq_f36e82a8 g1003 b1002.2 | omega) (by decide) (z_load_n X (x := xv) rfl (List.Mem.tail _ (List.Mem.head _)) (z_ald2 X rw_202 rfl (show (b : Int).toNat < 12 by first | exact oq_2dac6850 g1003 b1002.2 | omega) (by first | exact hi.1.1 | omega) (show xv < 128 by first | exact oq_31b2bf10 hi.1.2 | omega) (by decide) ?_)))))))
            have b1013 : ((-1) : Int) ≤ (iC s1011 (178 + (b : Int).toNat) (xv : Int).toNat) ∧ (iC s1011 (178 + (b : Int).toNat) (xv : Int).toNat) ≤ 23 := rw_bd rw_202 Is1011 (show (b : Int).toNat < 12 by first | exact oq_2dac6850 g1003 b1002.2 | omega) (show (xv : Int).toNat < 128 by first | exact oq_c7f4e9c1 hi.1.2 | omega)
            have n01014 : iC s1011 (178 + (b : Int).toNat) (xv : Int).toNat = iC t (178 + (b : Int).toNat) (xv : Int).toNat := fm_c Fs1011 (fun h => absurd h List.not_mem_nil)
            have n11015 := (JNQ_s1011 (b : Int).toNat (by first | (clear g1007 g1005; omega) | (clear g1005; omega) | omega) (by first | (clear g1007 g1005; omega) | (clear g1005; omega) | omega)).1
            have r11016 := (JRLx_s1011 (b : Int).toNat (by first | (clear g1007 g1005; omega) | (clear g1005; omega) | omega) (by first | (clear g1007 g1005; omega) | (clear g1005; omega) | omega)).2 (xv : Int).toNat (by first | (clear g1007 g1005; omega) | (clear g1005; omega) | omega)
            refine zcV_i0 X E 179 (As := [.int (Int32.ofInt b), .int (Int32.ofInt (iC s1011 (178 + (b : Int).toNat) (xv : Int).toNat))]) (st := [.int (Int32.ofInt e1012)]) rfl rfl rfl rfl (k_goes G Is1011 (by first | exact ⟨oq_2a6e3b50 hi.2.2.2.1, oq_e4d7f3c5 g1003 b1002.2⟩ | omega) (by first | exact ⟨oq_212cfe9d n01014 g1007 b1006.1, by first | (clear g1007 g1005; omega) | (clear g1005; omega) | omega⟩ | omega)) rfl (Nat.le_of_ble_eq_true rfl) (fun s1017 e1018 Is1017 Fs1017 hrs1017 hps1017 => ?_)
            have Gs1017 := fm_tq Gs1011 Fs1017 rfl rfl
            have JRLx_s1017 : RLx s1017 := RLx_fm Fs1017 (by decide) JRLx_s1011
            have JNQ_s1017 : NQ s1017 := NQ_fm Fs1017 (by decide) JNQ_s1011
            have ws1017_90 : iI s1017 90 = iI s1011 90 := fm_iq Fs1017 rfl
            refine z_icmp_eq X (t := 82) rfl rfl hrs1011 hrs1017 (fun g1019 => ?_) (fun g1019 => ?_)
            ·
              refine z_inc X (x := b) (lv' := [(3, .int (Int32.ofInt (b + 1))), (0, .ref (A 179)), (1, .int (Int32.ofInt xv)), (2, .int (Int32.ofInt a))]) rfl (by decide) (List.Mem.tail _ (List.Mem.tail _ (List.Mem.tail _ (List.Mem.head _)))) (fun _ h => h) (z_goto X (t := 19) rfl rfl (WS_pq [1, 2, 3, 0] (lv' := [(0, .ref (A 179)), (1, .int (Int32.ofInt xv)), (2, .int (Int32.ofInt a)), (3, .int (Int32.ofInt (b + 1)))]) rfl ?_))
              exact ih _ xv a (b + 1) Is1017 Gs1017 JRLx_s1017 JNQ_s1017 (by first | exact ⟨And.intro (hi.1.1) (hi.1.2), hi.2.1, oq_a618c864 ws1017_90 hi.2.2.1 ws1011_90, oq_1e1a2df6 hi.2.2.2.1, oq_4dae995e g1003 b1002.2⟩ | omega) (by first | exact qk_me hm (by decide) (oq_b575e8c1 g1003 b1002.2) | omega) kx
            ·
              refine z_const X rfl ?_
              exact w_iret X.1 q hRt (nar_ret (by first | exact Or.inr (by decide) | omega)) (ax_d X (show cdA 245 81 = some (.ireturn, 1, 0, 0, 0) from rfl)) (Nat.zero_le _) (Nat.zero_le _) ⟨_, rfl, Is1017, Gs1017, JRLx_s1017, 1, rfl, (by decide), by first | exact Or.inr (by decide) | omega⟩
  have L7 : ∀ (n : Nat) (t : PS) (xv a : Int), Bd t → Fm [] [202, 204, 205, 206, 207, 208, 209, 210, 211, 212, 213, 214, 215, 216, 217, 218, 219, 220, 221, 222, 223, 224, 225, 226, 227, 203] s t → RLx t → (NQ t) → ((0 ≤ xv ∧ xv ≤ 127) ∧ 0 ≤ a ∧ a ≤ 12) → (12 - a : Int).toNat < n → (∀ (t' : PS) (a' : Int), Bd t' → Fm [] [202, 204, 205, 206, 207, 208, 209, 210, 211, 212, 213, 214, 215, 216, 217, 218, 219, 220, 221, 222, 223, 224, 225, 226, 227, 203] s t' → RLx t' → (NQ t') → ((0 ≤ xv ∧ xv ≤ 127) ∧ 0 ≤ a' ∧ a' ≤ 12) → WS k 94 [(0, .ref (A 179)), (1, .int (Int32.ofInt xv)), (2, .int (Int32.ofInt a'))] [] (Wd A dT t') 0 0) → WS k 7 [(0, .ref (A 179)), (1, .int (Int32.ofInt xv)), (2, .int (Int32.ofInt a))] [] (Wd A dT t) 0 0 := by
    intro n
    induction n with
    | zero =>
      intro t xv a I F jjRLx hq hi hm kx
      exact absurd hm (Nat.not_lt_zero _)
    | succ n ih =>
      intro t xv a I F jjRLx hq hi hm kx
      have b2001 := bi_90 I
      refine z_load_n X (x := a) rfl (List.Mem.tail _ (List.Mem.tail _ (List.Mem.head _))) (z_aload_n X (x := A 179) rfl (List.Mem.head _) (z_getI X 179 rfl (c518_ok rfl) rfl rfl ?_))
      have b2002 := bi_90 I
      refine z_icmp_ge X (t := 94) rfl rfl ⟨by first | exact oq_fa4e5087 hi.2.1 | omega, by first | exact oq_78843a64 hi.2.2 | omega⟩ (rng_to _) (fun g2003 => ?_) (fun g2003 => ?_)
      ·
        refine WS_pq [0, 1, 2] (lv' := [(0, .ref (A 179)), (1, .int (Int32.ofInt xv)), (2, .int (Int32.ofInt a))]) rfl ?_
        exact kx _ a I F jjRLx hq (by first | exact ⟨And.intro (hi.1.1) (hi.1.2), hi.2.1, hi.2.2⟩ | omega)
      ·
        refine z_load_n X (x := a) rfl (List.Mem.tail _ (List.Mem.tail _ (List.Mem.head _))) (z_const X rfl (z_add X rfl (z_store_n X (lv' := [(3, .int (Int32.ofInt (a + 1))), (0, .ref (A 179)), (1, .int (Int32.ofInt xv)), (2, .int (Int32.ofInt a))]) rfl (by decide) (fun _ h => h) (WS_pq [1, 2, 3, 0] (lv' := [(0, .ref (A 179)), (1, .int (Int32.ofInt xv)), (2, .int (Int32.ofInt a)), (3, .int (Int32.ofInt (a + 1)))]) rfl (L19 ((12 - (a + 1) : Int).toNat + 1) t xv a (a + 1) I F jjRLx hq (by first | exact ⟨And.intro (hi.1.1) (hi.1.2), hi.2.1, g2003, oq_b15b052d hi.2.1, oq_4dae995e g2003 b2002.2⟩ | omega) (Nat.lt_succ_self _) ?_)))))
        intro s2004 x2005 Is2004 Fs2004 JRLx_s2004 Qs2004 hs2004
        have b2006 := bi_90 Is2004
        refine z_inc X (x := a) (lv' := [(2, .int (Int32.ofInt (a + 1))), (0, .ref (A 179)), (1, .int (Int32.ofInt xv)), (3, .int (Int32.ofInt x2005))]) rfl (by decide) (List.Mem.tail _ (List.Mem.tail _ (List.Mem.head _))) (fun _ h => h) (z_goto X (t := 7) rfl rfl (WS_pq [1, 2, 0] (lv' := [(0, .ref (A 179)), (1, .int (Int32.ofInt xv)), (2, .int (Int32.ofInt (a + 1)))]) rfl ?_))
        exact ih _ xv (a + 1) Is2004 Fs2004 JRLx_s2004 Qs2004 (by first | exact ⟨And.intro (hs2004.1.1) (hs2004.1.2), oq_54f49eb5 hs2004.2.1, oq_4dae995e hs2004.2.2.1 b2006.2⟩ | omega) (by first | exact qk_me hm (by decide) (oq_b575e8c1 hs2004.2.2.1 b2006.2) | omega) kx
  refine z_aload_n X (x := A 179) rfl (List.Mem.head _) (z_const X rfl (zcV_v2 X E 179 (As := [.int (Int32.ofInt 0)]) (st := []) rfl rfl rfl rfl (k_asTold G I jRLx (by first | exact ⟨by decide, by decide⟩ | omega)) rfl (Nat.le_of_ble_eq_true rfl) (fun s2 Is2 Fs2 JRLx_s2 JNQ_s2 hps2 => ?_)))
  have Gs2 := fm_tq F Fs2 rfl rfl
  have JRLx_s2 : RLx s2 := RLx_fm Fs2 (by decide) jRLx
  have ws2_90 : iI s2 90 = iI s 90 := fm_iq Fs2 rfl
  refine z_const X rfl (z_store_n X (lv' := [(2, .int (Int32.ofInt 0)), (0, .ref (A 179)), (1, .int (Int32.ofInt x))]) rfl (by decide) (fun _ h => h) (WS_pq [1, 2, 0] (lv' := [(0, .ref (A 179)), (1, .int (Int32.ofInt x)), (2, .int (Int32.ofInt 0))]) rfl (L7 ((12 - 0 : Int).toNat + 1) s2 x 0 Is2 Gs2 JRLx_s2 JNQ_s2 (by first | exact ⟨And.intro (p0.1) (p0.2), by decide, by decide⟩ | omega) (Nat.lt_succ_self _) ?_)))
  intro s4 x5 Is4 Fs4 JRLx_s4 Qs4 hs4
  have b6 := bi_90 Is4
  refine z_const X rfl ?_
  exact w_iret X.1 q hRt (nar_ret (by first | exact Or.inl (by decide) | omega)) (ax_d X (show cdA 245 95 = some (.ireturn, 1, 0, 0, 0) from rfl)) (Nat.zero_le _) (Nat.zero_le _) ⟨_, rfl, Is4, Fs4, JRLx_s4, 0, rfl, (by decide), by first | exact Or.inl (by decide) | omega⟩
set_option maxRecDepth 4000 in
theorem k_edge (G : GX l s0 D tys a0 dT) (I : Bd s) (jRLx : RLx s) {x : Int} (p0 : rng x) : CT l s0 D A dT 246 (rmN 246) [.ref (A 179), .int (Int32.ofInt x)] s (fun o t => Bd t ∧ Fm [73] [202, 204, 205, 206, 207, 208, 209, 210, 211, 212, 213, 214, 215, 216, 217, 218, 219, 220, 221, 222, 223, 224, 225, 226, 227, 203] s t ∧ RLx t ∧ ∃ e, o = .inl (some (.int (Int32.ofInt e))) ∧ rng e ∧ (True)) := by
  refine ct_of G (by decide) (Nat.le_of_ble_eq_true rfl) (fun k X E hRt hXt q => ?_)
  show WS k 0 [(0, .ref (A 179)), (1, .int (Int32.ofInt x))] [] _ 0 0
  have F : Fm [73] [202, 204, 205, 206, 207, 208, 209, 210, 211, 212, 213, 214, 215, 216, 217, 218, 219, 220, 221, 222, 223, 224, 225, 226, 227, 203] s s := fm_rf _ _ s
  have b1 := bi_73 I
  have L68 : ∀ (n : Nat) (t : PS) (xv nn c iz st0 : Int), Bd t → Fm [73] [202, 204, 205, 206, 207, 208, 209, 210, 211, 212, 213, 214, 215, 216, 217, 218, 219, 220, 221, 222, 223, 224, 225, 226, 227, 203] s t → RLx t → (rng xv ∧ (0 ≤ nn ∧ nn ≤ c) ∧ (0 ≤ c ∧ c ≤ 127) ∧ (iz = 0 ∨ iz = 1) ∧ 0 ≤ st0 ∧ st0 ≤ 6) → (6 - st0 : Int).toNat < n → (∀ (t' : PS) (iz' st0' : Int), Bd t' → Fm [73] [202, 204, 205, 206, 207, 208, 209, 210, 211, 212, 213, 214, 215, 216, 217, 218, 219, 220, 221, 222, 223, 224, 225, 226, 227, 203] s t' → RLx t' → (rng xv ∧ (0 ≤ nn ∧ nn ≤ c) ∧ (0 ≤ c ∧ c ≤ 127) ∧ (iz' = 0 ∨ iz' = 1) ∧ 0 ≤ st0' ∧ st0' ≤ 6) → WS k 118 [(0, .ref (A 179)), (1, .int (Int32.ofInt xv)), (2, .int (Int32.ofInt nn)), (3, .int (Int32.ofInt c)), (4, .int (Int32.ofInt iz')), (5, .int (Int32.ofInt st0'))] [] (Wd A dT t') 0 0) → WS k 68 [(0, .ref (A 179)), (1, .int (Int32.ofInt xv)), (2, .int (Int32.ofInt nn)), (3, .int (Int32.ofInt c)), (4, .int (Int32.ofInt iz)), (5, .int (Int32.ofInt st0))] [] (Wd A dT t) 0 0 := by
    intro n
    induction n with
    | zero =>
      intro t xv nn c iz st0 I F jjRLx hi hm kx
      exact absurd hm (Nat.not_lt_zero _)
    | succ n ih =>
      intro t xv nn c iz st0 I F jjRLx hi hm kx
      have b1001 := bi_73 I
      refine z_load X (x := st0) rfl (List.Mem.tail _ (List.Mem.tail _ (List.Mem.tail _ (List.Mem.tail _ (List.Mem.tail _ (List.Mem.head _)))))) (z_bipush X rfl (z_icmp_ge X (t := 118) rfl rfl ⟨by first | exact oq_fa4e5087 hi.2.2.2.2.1 | omega, by first | exact oq_b301c3bf hi.2.2.2.2.2 | omega⟩ (by decide) (fun g1002 => ?_) (fun g1002 => ?_)))
      ·
        refine WS_pq [0, 1, 2, 3, 4, 5] (lv' := [(0, .ref (A 179)), (1, .int (Int32.ofInt xv)), (2, .int (Int32.ofInt nn)), (3, .int (Int32.ofInt c)), (4, .int (Int32.ofInt iz)), (5, .int (Int32.ofInt st0))]) rfl ?_
        exact kx _ iz st0 I F jjRLx (by first | exact ⟨And.intro (hi.1.1) (hi.1.2), And.intro (hi.2.1.1) (hi.2.1.2), And.intro (hi.2.2.1.1) (hi.2.2.1.2), hi.2.2.2.1, hi.2.2.2.2.1, hi.2.2.2.2.2⟩ | omega)
      ·
        refine z_load X (x := iz) rfl (List.Mem.tail _ (List.Mem.tail _ (List.Mem.tail _ (List.Mem.tail _ (List.Mem.head _))))) (z_if_ne X (t := 105) rfl rfl ⟨by first | exact oq_bde653e9 hi.2.2.2.1 | omega, by first | exact oq_4ad2cb8b hi.2.2.2.1 | omega⟩ (fun g1003 => ?_) (fun g1003 => ?_))
        ·
          refine z_const X rfl (z_goto X (t := 110) rfl rfl (z_store X (lv' := [(4, .int (Int32.ofInt 1)), (0, .ref (A 179)), (1, .int (Int32.ofInt xv)), (2, .int (Int32.ofInt nn)), (3, .int (Int32.ofInt c)), (5, .int (Int32.ofInt st0))]) rfl (by decide) (fun _ h => h) (z_inc X (x := st0) (lv' := [(5, .int (Int32.ofInt (st0 + 1))), (4, .int (Int32.ofInt 1)), (0, .ref (A 179)), (1, .int (Int32.ofInt xv)), (2, .int (Int32.ofInt nn)), (3, .int (Int32.ofInt c))]) rfl (by decide) (List.Mem.tail _ (List.Mem.tail _ (List.Mem.tail _ (List.Mem.tail _ (List.Mem.tail _ (List.Mem.head _)))))) (fun _ h => h) (z_goto X (t := 68) rfl rfl (WS_pq [2, 3, 4, 5, 1, 0] (lv' := [(0, .ref (A 179)), (1, .int (Int32.ofInt xv)), (2, .int (Int32.ofInt nn)), (3, .int (Int32.ofInt c)), (4, .int (Int32.ofInt 1)), (5, .int (Int32.ofInt (st0 + 1)))]) rfl ?_)))))
          exact ih _ xv nn c 1 (st0 + 1) I F jjRLx (by first | exact ⟨And.intro (hi.1.1) (hi.1.2), And.intro (hi.2.1.1) (hi.2.1.2), And.intro (hi.2.2.1.1) (hi.2.2.1.2), Or.inr (by decide), oq_54f49eb5 hi.2.2.2.2.1, oq_5bf54478 g1002⟩ | omega) (by first | exact qk_me hm (by decide) (oq_2265a080 g1002) | omega) kx
        ·
          refine z_load_n X (x := c) rfl (List.Mem.tail _ (List.Mem.tail _ (List.Mem.tail _ (List.Mem.head _)))) (z_load X (x := st0) rfl (List.Mem.tail _ (List.Mem.tail _ (List.Mem.tail _ (List.Mem.tail _ (List.Mem.tail _ (List.Mem.head _)))))) (zcS_i0 X E (As := [.int (Int32.ofInt c), .int (Int32.ofInt st0)]) (st := []) rfl rfl (k_beside G I (by first | exact ⟨hi.2.2.1.1, hi.2.2.1.2⟩ | omega) (by first | exact ⟨hi.2.2.2.2.1, oq_a4cef127 g1002⟩ | omega)) rfl (Nat.le_of_ble_eq_true rfl) (fun s1004 e1005 Is1004 Fs1004 hrs1004 hps1004 => ?_)))
          have hps1004p := And.intro hps1004.2.1 (hps1004.2.2)
          have Gs1004 := fm_tq F Fs1004 rfl rfl
          have JRLx_s1004 : RLx s1004 := RLx_fm Fs1004 (by decide) jjRLx
          have ws1004_73 : iI s1004 73 = iI t 73 := fm_iq Fs1004 rfl
          refine z_const X rfl (z_icmp_eq X (t := 109) rfl rfl hrs1004 (by decide) (fun g1006 => ?_) (fun g1006 => ?_))
          ·
            refine z_const X rfl (z_store X (lv' := [(4, .int (Int32.ofInt 0)), (0, .ref (A 179)), (1, .int (Int32.ofInt xv)), (2, .int (Int32.ofInt nn)), (3, .int (Int32.ofInt c)), (5, .int (Int32.ofInt st0))]) rfl (by decide) (fun _ h => h) (z_inc X (x := st0) (lv' := [(5, .int (Int32.ofInt (st0 + 1))), (4, .int (Int32.ofInt 0)), (0, .ref (A 179)), (1, .int (Int32.ofInt xv)), (2, .int (Int32.ofInt nn)), (3, .int (Int32.ofInt c))]) rfl (by decide) (List.Mem.tail _ (List.Mem.tail _ (List.Mem.tail _ (List.Mem.tail _ (List.Mem.tail _ (List.Mem.head _)))))) (fun _ h => h) (z_goto X (t := 68) rfl rfl (WS_pq [2, 3, 4, 5, 1, 0] (lv' := [(0, .ref (A 179)), (1, .int (Int32.ofInt xv)), (2, .int (Int32.ofInt nn)), (3, .int (Int32.ofInt c)), (4, .int (Int32.ofInt 0)), (5, .int (Int32.ofInt (st0 + 1)))]) rfl ?_))))
            exact ih _ xv nn c 0 (st0 + 1) Is1004 Gs1004 JRLx_s1004 (by first | exact ⟨And.intro (hi.1.1) (hi.1.2), And.intro (hi.2.1.1) (hi.2.1.2), And.intro (hi.2.2.1.1) (hi.2.2.1.2), Or.inl (by decide), oq_54f49eb5 hi.2.2.2.2.1, oq_5bf54478 g1002⟩ | omega) (by first | exact qk_me hm (by decide) (oq_2265a080 g1002) | omega) kx
          ·
            refine z_aload_n X (x := A 179) rfl (List.Mem.head _) (s_getR X 179 rfl (c518_ok rfl) rfl rfl (z_load_n X (x := c) rfl (List.Mem.tail _ (List.Mem.tail _ (List.Mem.tail _ (List.Mem.head _)))) (z_load X (x := st0) rfl (List.Mem.tail _ (List.Mem.tail _ (List.Mem.tail _ (List.Mem.tail _ (List.Mem.tail _ (List.Mem.head _)))))) (zcS_i0 X E (As := [.int (Int32.ofInt c), .int (Int32.ofInt st0)]) (st := [.ref (A 256)]) rfl rfl (k_beside G Is1004 (by first | exact ⟨hi.2.2.1.1, hi.2.2.1.2⟩ | omega) (by first | exact ⟨hi.2.2.2.2.1, oq_a4cef127 g1002⟩ | omega)) rfl (Nat.le_of_ble_eq_true rfl) (fun s1007 e1008 Is1007 Fs1007 hrs1007 hps1007 => ?_)))))
            have hps1007p := And.intro hps1007.2.1 (hps1007.2.2)
            have Gs1007 := fm_tq Gs1004 Fs1007 rfl rfl
            have JRLx_s1007 : RLx s1007 := RLx_fm Fs1007 (by decide) JRLx_s1004
            have ws1007_73 : iI s1007 73 = iI s1004 73 := fm_iq Fs1007 rfl
            refine z_ald X 256 rfl (c518_ok rfl) rfl (by first | exact oq_5ccab359 hps1007.1 g1006 hps1004.2.2 hps1004.2.1 hps1004.1 hi.2.2.1.1 | omega) (show e1008 < 128 by first | exact oq_31b2bf10 hps1007.2.2 | omega) (cbig_ok rfl) ?_
            have b1009 := bc_228 Is1007 (show (e1008).toNat < 128 by first | exact oq_c7f4e9c1 hps1007.2.2 | omega)
            refine z_load_n X (x := xv) rfl (List.Mem.tail _ (List.Mem.head _)) ?_
            have N1010 : ∀ e1011 : Int, ((((iC s1007 228 (e1008).toNat) = xv) ∧ e1011 = 0) ∨ (((iC s1007 228 (e1008).toNat) ≠ xv) ∧ e1011 = 1)) → WS k 110 [(0, .ref (A 179)), (1, .int (Int32.ofInt xv)), (2, .int (Int32.ofInt nn)), (3, .int (Int32.ofInt c)), (4, .int (Int32.ofInt iz)), (5, .int (Int32.ofInt st0))] [.int (Int32.ofInt e1011)] (Wd A dT s1007) 0 0 := by
              intro e1011 he1011
              have re1011 : 0 ≤ e1011 ∧ e1011 ≤ 1 := by first | (clear he1011 hps1007 g1006 hps1004; omega) | (clear hps1007 g1006 hps1004; omega) | omega
              refine z_store X (lv' := [(4, .int (Int32.ofInt e1011)), (0, .ref (A 179)), (1, .int (Int32.ofInt xv)), (2, .int (Int32.ofInt nn)), (3, .int (Int32.ofInt c)), (5, .int (Int32.ofInt st0))]) rfl (by decide) (fun _ h => h) (z_inc X (x := st0) (lv' := [(5, .int (Int32.ofInt (st0 + 1))), (4, .int (Int32.ofInt e1011)), (0, .ref (A 179)), (1, .int (Int32.ofInt xv)), (2, .int (Int32.ofInt nn)), (3, .int (Int32.ofInt c))]) rfl (by decide) (List.Mem.tail _ (List.Mem.tail _ (List.Mem.tail _ (List.Mem.tail _ (List.Mem.tail _ (List.Mem.head _)))))) (fun _ h => h) (z_goto X (t := 68) rfl rfl (WS_pq [2, 3, 4, 5, 1, 0] (lv' := [(0, .ref (A 179)), (1, .int (Int32.ofInt xv)), (2, .int (Int32.ofInt nn)), (3, .int (Int32.ofInt c)), (4, .int (Int32.ofInt e1011)), (5, .int (Int32.ofInt (st0 + 1)))]) rfl ?_)))
              exact ih _ xv nn c e1011 (st0 + 1) Is1007 Gs1007 JRLx_s1007 (by first | exact ⟨And.intro (hi.1.1) (hi.1.2), And.intro (hi.2.1.1) (hi.2.1.2), And.intro (hi.2.2.1.1) (hi.2.2.1.2), oq_31e518ae re1011.2 re1011.1, oq_54f49eb5 hi.2.2.2.2.1, oq_5bf54478 g1002⟩ | omega) (by first | exact qk_me hm (by decide) (oq_2265a080 g1002) | omega) kx
            refine z_icmp_eq X (t := 109) rfl rfl (rng_to _) ⟨by first | exact hi.1.1 | omega, by first | exact hi.1.2 | omega⟩ (fun g1012 => ?_) (fun g1012 => ?_)
            ·
              exact z_const X rfl (N1010 _ (Or.inl ⟨g1012, rfl⟩))
            ·
              exact z_const X rfl (z_goto X (t := 110) rfl rfl (N1010 _ (Or.inr (⟨g1012, rfl⟩))))
  have L34 : ∀ (n : Nat) (t : PS) (xv nn c : Int), Bd t → Fm [73] [202, 204, 205, 206, 207, 208, 209, 210, 211, 212, 213, 214, 215, 216, 217, 218, 219, 220, 221, 222, 223, 224, 225, 226, 227, 203] s t → RLx t → (rng xv ∧ (0 ≤ nn ∧ nn ≤ c) ∧ c ≤ 128) → (128 - c : Int).toNat < n → (∀ (t' : PS) (nn' c' : Int), Bd t' → Fm [73] [202, 204, 205, 206, 207, 208, 209, 210, 211, 212, 213, 214, 215, 216, 217, 218, 219, 220, 221, 222, 223, 224, 225, 226, 227, 203] s t' → RLx t' → (rng xv ∧ (0 ≤ nn' ∧ nn' ≤ c') ∧ c' ≤ 128) → WS k 137 [(0, .ref (A 179)), (1, .int (Int32.ofInt xv)), (2, .int (Int32.ofInt nn')), (3, .int (Int32.ofInt c'))] [] (Wd A dT t') 0 0) → WS k 34 [(0, .ref (A 179)), (1, .int (Int32.ofInt xv)), (2, .int (Int32.ofInt nn)), (3, .int (Int32.ofInt c))] [] (Wd A dT t) 0 0 := by
    intro n
    induction n with
    | zero =>
      intro t xv nn c I F jjRLx hi hm kx
      exact absurd hm (Nat.not_lt_zero _)
    | succ n ih =>
      intro t xv nn c I F jjRLx hi hm kx
      have b2001 := bi_73 I
      refine z_load_n X (x := c) rfl (List.Mem.tail _ (List.Mem.tail _ (List.Mem.tail _ (List.Mem.head _)))) (z_sipush X rfl (z_icmp_ge X (t := 137) rfl rfl ⟨by first | exact oq_e001bc0d hi.2.1.2 hi.2.1.1 | omega, by first | exact oq_4ee82282 hi.2.2 | omega⟩ (by decide) (fun g2002 => ?_) (fun g2002 => ?_)))
      ·
        refine WS_pq [0, 1, 2, 3] (lv' := [(0, .ref (A 179)), (1, .int (Int32.ofInt xv)), (2, .int (Int32.ofInt nn)), (3, .int (Int32.ofInt c))]) rfl ?_
        exact kx _ nn c I F jjRLx (by first | exact ⟨And.intro (hi.1.1) (hi.1.2), And.intro (hi.2.1.1) (hi.2.1.2), hi.2.2⟩ | omega)
      ·
        refine z_aload_n X (x := A 179) rfl (List.Mem.head _) (s_getR X 179 rfl (c518_ok rfl) rfl rfl (z_load_n X (x := c) rfl (List.Mem.tail _ (List.Mem.tail _ (List.Mem.tail _ (List.Mem.head _)))) (z_ald X 256 rfl (c518_ok rfl) rfl (by first | exact oq_12a1f9e1 hi.2.1.2 hi.2.1.1 | omega) (show c < 128 by first | exact g2002 | omega) (cbig_ok rfl) ?_)))
        have b2003 := bc_228 I (show (c).toNat < 128 by first | exact oq_afb89947 g2002 | omega)
        refine z_load_n X (x := xv) rfl (List.Mem.tail _ (List.Mem.head _)) (z_icmp_ne X (t := 131) rfl rfl (rng_to _) ⟨by first | exact hi.1.1 | omega, by first | exact hi.1.2 | omega⟩ (fun g2004 => ?_) (fun g2004 => ?_))
        ·
          refine z_inc X (x := c) (lv' := [(3, .int (Int32.ofInt (c + 1))), (0, .ref (A 179)), (1, .int (Int32.ofInt xv)), (2, .int (Int32.ofInt nn))]) rfl (by decide) (List.Mem.tail _ (List.Mem.tail _ (List.Mem.tail _ (List.Mem.head _)))) (fun _ h => h) (z_goto X (t := 34) rfl rfl (WS_pq [1, 2, 3, 0] (lv' := [(0, .ref (A 179)), (1, .int (Int32.ofInt xv)), (2, .int (Int32.ofInt nn)), (3, .int (Int32.ofInt (c + 1)))]) rfl ?_))
          exact ih _ xv nn (c + 1) I F jjRLx (by first | exact ⟨And.intro (hi.1.1) (hi.1.2), And.intro (hi.2.1.1) (oq_03182e9e hi.2.1.2), oq_d2afb425 g2002⟩ | omega) (by first | exact qk_me hm (by decide) (oq_c268b7bd g2002) | omega) kx
        ·
          refine z_aload_n X (x := A 179) rfl (List.Mem.head _) (z_load_n X (x := c) rfl (List.Mem.tail _ (List.Mem.tail _ (List.Mem.tail _ (List.Mem.head _)))) (zcV_i1 X E 179 (As := [.int (Int32.ofInt c)]) (st := []) rfl rfl rfl rfl (k_isCrossing G I jjRLx (by first | exact ⟨oq_12a1f9e1 hi.2.1.2 hi.2.1.1, oq_04367f15 g2002⟩ | omega)) rfl (Nat.le_of_ble_eq_true rfl) (fun s2005 e2006 Is2005 Fs2005 JRLx_s2005 hrs2005 hps2005 => ?_)))
          have Gs2005 := fm_tq F Fs2005 rfl rfl
          have JRLx_s2005 : RLx s2005 := RLx_fm Fs2005 (by decide) jjRLx
          have ws2005_73 : iI s2005 73 = iI t 73 := fm_iq Fs2005 rfl
          refine z_if_ne X (t := 62) rfl rfl hrs2005 (fun g2007 => ?_) (fun g2007 => ?_)
          ·
            refine z_const X rfl (z_store X (lv' := [(4, .int (Int32.ofInt 0)), (0, .ref (A 179)), (1, .int (Int32.ofInt xv)), (2, .int (Int32.ofInt nn)), (3, .int (Int32.ofInt c))]) rfl (by decide) (fun _ h => h) (z_const X rfl (z_store X (lv' := [(5, .int (Int32.ofInt 0)), (4, .int (Int32.ofInt 0)), (0, .ref (A 179)), (1, .int (Int32.ofInt xv)), (2, .int (Int32.ofInt nn)), (3, .int (Int32.ofInt c))]) rfl (by decide) (fun _ h => h) (WS_pq [2, 3, 4, 5, 1, 0] (lv' := [(0, .ref (A 179)), (1, .int (Int32.ofInt xv)), (2, .int (Int32.ofInt nn)), (3, .int (Int32.ofInt c)), (4, .int (Int32.ofInt 0)), (5, .int (Int32.ofInt 0))]) rfl (L68 ((6 - 0 : Int).toNat + 1) s2005 xv nn c 0 0 Is2005 Gs2005 JRLx_s2005 (by first | exact ⟨And.intro (hi.1.1) (hi.1.2), And.intro (hi.2.1.1) (hi.2.1.2), And.intro (oq_12a1f9e1 hi.2.1.2 hi.2.1.1) (oq_04367f15 g2002), Or.inl (by decide), by decide, by decide⟩ | omega) (Nat.lt_succ_self _) ?_)))))
            intro s2008 x2009 x2010 Is2008 Fs2008 JRLx_s2008 hs2008
            have b2011 := bi_73 Is2008
            refine z_load_n X (x := nn) rfl (List.Mem.tail _ (List.Mem.tail _ (List.Mem.head _))) (z_load X (x := x2009) rfl (List.Mem.tail _ (List.Mem.tail _ (List.Mem.tail _ (List.Mem.tail _ (List.Mem.head _))))) ?_)
            have N2012 : ∀ e2013 : Int, (((x2009 = 0) ∧ e2013 = 0) ∨ ((x2009 ≠ 0) ∧ e2013 = 1)) → WS k 129 [(0, .ref (A 179)), (1, .int (Int32.ofInt xv)), (2, .int (Int32.ofInt nn)), (3, .int (Int32.ofInt c)), (4, .int (Int32.ofInt x2009)), (5, .int (Int32.ofInt x2010))] [.int (Int32.ofInt e2013), .int (Int32.ofInt nn)] (Wd A dT s2008) 0 0 := by
              intro e2013 he2013
              have re2013 : 0 ≤ e2013 ∧ e2013 ≤ 1 := by first | (clear he2013 g2007 hps2005; omega) | (clear g2007 hps2005; omega) | omega
              refine z_add X rfl (z_store_n X (lv' := [(2, .int (Int32.ofInt (nn + e2013))), (0, .ref (A 179)), (1, .int (Int32.ofInt xv)), (3, .int (Int32.ofInt c)), (4, .int (Int32.ofInt x2009)), (5, .int (Int32.ofInt x2010))]) rfl (by decide) (fun _ h => h) (z_inc X (x := c) (lv' := [(3, .int (Int32.ofInt (c + 1))), (2, .int (Int32.ofInt (nn + e2013))), (0, .ref (A 179)), (1, .int (Int32.ofInt xv)), (4, .int (Int32.ofInt x2009)), (5, .int (Int32.ofInt x2010))]) rfl (by decide) (List.Mem.tail _ (List.Mem.tail _ (List.Mem.tail _ (List.Mem.head _)))) (fun _ h => h) (z_goto X (t := 34) rfl rfl (WS_pq [2, 3, 1, 0] (lv' := [(0, .ref (A 179)), (1, .int (Int32.ofInt xv)), (2, .int (Int32.ofInt (nn + e2013))), (3, .int (Int32.ofInt (c + 1)))]) rfl ?_))))
              exact ih _ xv (nn + e2013) (c + 1) Is2008 Fs2008 JRLx_s2008 (by first | exact ⟨And.intro (hs2008.1.1) (hs2008.1.2), And.intro (oq_d8d6a599 re2013.1 hs2008.2.1.1) (oq_5c09eddf re2013.2 hs2008.2.1.2), oq_e4399267 hs2008.2.2.1.2⟩ | omega) (by first | exact qk_me hm (by decide) (oq_7e05e720 hs2008.2.2.1.2) | omega) kx
            refine z_if_eq X (t := 128) rfl rfl ⟨by first | exact oq_bde653e9 hs2008.2.2.2.1 | omega, by first | exact oq_4ad2cb8b hs2008.2.2.2.1 | omega⟩ (fun g2014 => ?_) (fun g2014 => ?_)
            ·
              exact z_const X rfl (N2012 _ (Or.inl ⟨g2014, rfl⟩))
            ·
              exact z_const X rfl (z_goto X (t := 129) rfl rfl (N2012 _ (Or.inr (⟨g2014, rfl⟩))))
          ·
            refine z_goto X (t := 131) rfl rfl (z_inc X (x := c) (lv' := [(3, .int (Int32.ofInt (c + 1))), (0, .ref (A 179)), (1, .int (Int32.ofInt xv)), (2, .int (Int32.ofInt nn))]) rfl (by decide) (List.Mem.tail _ (List.Mem.tail _ (List.Mem.tail _ (List.Mem.head _)))) (fun _ h => h) (z_goto X (t := 34) rfl rfl (WS_pq [1, 2, 3, 0] (lv' := [(0, .ref (A 179)), (1, .int (Int32.ofInt xv)), (2, .int (Int32.ofInt nn)), (3, .int (Int32.ofInt (c + 1)))]) rfl ?_)))
            exact ih _ xv nn (c + 1) Is2005 Gs2005 JRLx_s2005 (by first | exact ⟨And.intro (hi.1.1) (hi.1.2), And.intro (hi.2.1.1) (oq_03182e9e hi.2.1.2), oq_d2afb425 g2002⟩ | omega) (by first | exact qk_me hm (by decide) (oq_c268b7bd g2002) | omega) kx
  refine z_aload_n X (x := A 179) rfl (List.Mem.head _) (z_const X rfl (s_putI X 179 rfl (c518_ok rfl) rfl rfl (by decide) rfl rfl rfl (wd_gen (fun s2 hs2 => ?_))))
  have Is2 : Bd s2 := eqB hs2 (bd_I I (show (0 : Int) ≤ 0 ∧ 0 ≤ 3 by first | exact ⟨by decide, by decide⟩ | omega) (by decide))
  have Fs2 := eqF hs2 (fm_I F (inl_ok (a := 73) rfl))
  have vs2 : iI s2 73 = 0 := eqI hs2 (iI_u (by decide))
  have fs2 : Fm [73] [] s s2 := by rw [hs2]; exact fm_I (fm_rf _ _ _) (show 73 ∈ _ by decide)
  have JRLx_s2 : RLx s2 := RLx_fm fs2 (by decide) jRLx
  refine z_aload_n X (x := A 179) rfl (List.Mem.head _) (z_load_n X (x := x) rfl (List.Mem.tail _ (List.Mem.head _)) (z_const X rfl (z_bipush X rfl (zcS_i0 X E (As := [.int (Int32.ofInt x), .int (Int32.ofInt 0), .int (Int32.ofInt 7)]) (st := [.ref (A 179)]) rfl rfl (k_in G Is2 (by first | exact ⟨p0.1, p0.2⟩ | omega) (by first | exact ⟨by decide, by decide⟩ | omega) (by first | exact ⟨by decide, by decide⟩ | omega)) rfl (Nat.le_of_ble_eq_true rfl) (fun s3 e4 Is3 Fs3 hrs3 hps3 => ?_)))))
  have Gs3 := fm_tq Fs2 Fs3 rfl rfl
  have JRLx_s3 : RLx s3 := RLx_fm Fs3 (by decide) JRLx_s2
  have ws3_73 : iI s3 73 = iI s2 73 := fm_iq Fs3 rfl
  have N5 : ∀ e6 : Int, (((e4 ≠ 0) ∧ e6 = 0) ∨ ((e4 = 0) ∧ e6 = 1)) → WS k 21 [(0, .ref (A 179)), (1, .int (Int32.ofInt x))] [.int (Int32.ofInt e6), .ref (A 179)] (Wd A dT s3) 0 0 := by
    intro e6 he6
    have re6 : 0 ≤ e6 ∧ e6 ≤ 1 := by first | (clear he6 hps3; omega) | (clear hps3; omega) | omega
    refine z_const X rfl (zcV_i0 X E 179 (As := [.int (Int32.ofInt e6), .int (Int32.ofInt 1)]) (st := []) rfl rfl rfl rfl (k_bad G Is3 (by first | exact oq_31e518ae re6.2 re6.1 | omega) (by first | exact ⟨by decide, by decide⟩ | omega)) rfl (Nat.le_of_ble_eq_true rfl) (fun s7 e8 Is7 Fs7 hrs7 hps7 => ?_))
    have Gs7 := fm_tq Gs3 Fs7 rfl rfl
    have JRLx_s7 : RLx s7 := RLx_fm Fs7 (by decide) JRLx_s3
    have b9 := bi_73 Is7
    refine z_if_eq X (t := 30) rfl rfl hrs7 (fun g10 => ?_) (fun g10 => ?_)
    ·
      refine z_const X rfl (z_store_n X (lv' := [(2, .int (Int32.ofInt 0)), (0, .ref (A 179)), (1, .int (Int32.ofInt x))]) rfl (by decide) (fun _ h => h) (z_const X rfl (z_store_n X (lv' := [(3, .int (Int32.ofInt 0)), (2, .int (Int32.ofInt 0)), (0, .ref (A 179)), (1, .int (Int32.ofInt x))]) rfl (by decide) (fun _ h => h) (WS_pq [2, 3, 1, 0] (lv' := [(0, .ref (A 179)), (1, .int (Int32.ofInt x)), (2, .int (Int32.ofInt 0)), (3, .int (Int32.ofInt 0))]) rfl (L34 ((128 - 0 : Int).toNat + 1) s7 x 0 0 Is7 Gs7 JRLx_s7 (by first | exact ⟨And.intro (p0.1) (p0.2), And.intro (by decide) (by decide), by decide⟩ | omega) (Nat.lt_succ_self _) ?_)))))
      intro s11 x12 x13 Is11 Fs11 JRLx_s11 hs11
      have b14 := bi_73 Is11
      refine z_load_n X (x := x12) rfl (List.Mem.tail _ (List.Mem.tail _ (List.Mem.head _))) ?_
      exact w_iret X.1 q hRt rfl (ax_d X (show cdA 246 138 = some (.ireturn, 1, 0, 0, 0) from rfl)) (Nat.zero_le _) (Nat.zero_le _) ⟨_, rfl, Is11, Fs11, JRLx_s11, x12, rfl, ⟨by first | exact oq_fa4e5087 hs11.2.1.1 | omega, by first | exact oq_9eb6cd9c hs11.2.1.2 hs11.2.2 | omega⟩, trivial⟩
    ·
      refine z_const X rfl ?_
      exact w_iret X.1 q hRt rfl (ax_d X (show cdA 246 29 = some (.ireturn, 1, 0, 0, 0) from rfl)) (Nat.zero_le _) (Nat.zero_le _) ⟨_, rfl, Is7, Gs7, JRLx_s7, 0, rfl, (by decide), trivial⟩
  refine z_if_ne X (t := 20) rfl rfl hrs3 (fun g15 => ?_) (fun g15 => ?_)
  ·
    exact z_const X rfl (N5 _ (Or.inl ⟨g15, rfl⟩))
  ·
    exact z_const X rfl (z_goto X (t := 21) rfl rfl (N5 _ (Or.inr (⟨g15, rfl⟩))))
end M58
end
