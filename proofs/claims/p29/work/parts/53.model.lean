/-! Contracts out of the determined ones -/
theorem q_of (t t' : PS) (e1 : t.1 = t'.1) (e2 : t.2.2.1 = t'.2.2.1) (e3 : pX t = pX t') : t' = (t.1, t'.2.1, t.2.2.1, t'.2.2.2.1, pX t) := by
  obtain ⟨a, b, c, d, e⟩ := t
  obtain ⟨a', b', c', d', e'⟩ := t'
  cases e1; cases e2; cases e3
  rfl
theorem ta_i {l : List Nat} : ∀ q ∈ l, TA.1 q := fun _ _ => trivial
theorem ta_a {l : List Nat} : ∀ a ∈ l, ∀ j, j < (bA a).2.2 → TA.2 a j := fun _ _ _ _ => trivial
theorem ta_n {s : PS} : OKN TA s := fun _ _ _ => ⟨trivial, trivial, fun _ _ => trivial, fun _ _ => trivial⟩
section M53
variable {l : Launch} {s0 : State} {D : va_G} {tys : List (ClassId × FieldType)} {a0 : Array Value} {A : Nat → Nat} {dT : Nat → ClassId} {s : PS}
theorem k_sum (G : GX l s0 D tys a0 dT) (I : Bd s) (p0 : iI s 77 ≤ 203) (p1 : iI s 78 + ((7 : Nat) : Int) = 7) (p2 : iI s 78 = 7 → iI s 79 ≠ 0) : CT l s0 D A dT 209 (rmN 209) [.ref (A 179)] s (fun o t => Bd t ∧ Fm [77, 79, 80, 78] [] s t ∧ ∃ e, o = .inl (some (.int (Int32.ofInt e))) ∧ rng e ∧ (iI t 78 = iI s 78 ∧ iI s 77 ≤ iI t 77 ∧ (iI t 77 = iI s 77 ∨ iI t 77 ≤ 202) ∧ (iI s 79 ≠ 0 → iI t 79 ≠ 0) ∧ (iI t 79 = 0 → iI t 77 ≤ iI s 75))) := by
  refine k_of_d (To := TA) I (fun t t' e1 e2 e3 o h => ?_) (fun o t h => h.2.1.2.2) (fun _ => trivial) (fun _ _ => trivial) ((d_sumr G 7).2.2 (T := TA) I p0 p1 p2 ta_i ta_a)
  rw [q_of t t' e1 e2 e3]
  exact h
theorem k_ors (G : GX l s0 D tys a0 dT) (I : Bd s) (p0 : iI s 77 ≤ 203) (p1 : iI s 78 + ((7 : Nat) : Int) = 7) (p2 : iI s 78 = 7 → iI s 79 ≠ 0) (p3 : iI s 79 = 0 → iI s 77 ≤ 202) : CT l s0 D A dT 212 (rmN 212) [.ref (A 179)] s (fun o t => Bd t ∧ Fm [77, 79, 80, 78] [] s t ∧ ∃ e, o = .inl (some (.int (Int32.ofInt e))) ∧ rng e ∧ (iI t 78 = iI s 78 ∧ iI s 77 ≤ iI t 77 ∧ (iI t 77 = iI s 77 ∨ iI t 77 ≤ 203) ∧ (iI s 79 ≠ 0 → iI t 79 ≠ 0) ∧ (iI t 79 = 0 → iI t 77 ≤ iI s 75) ∧ (iI s 79 = 0 → iI s 77 < iI t 77) ∧ (e = 0 ∨ e = 1))) := by
  refine k_of_d (To := TA) I (fun t t' e1 e2 e3 o h => ?_) (fun o t h => h.2.1.2.2) (fun _ => trivial) (fun _ _ => trivial) ((d_orsr G 7).2.2 (T := TA) I p0 p1 p2 p3 ta_i ta_a)
  rw [q_of t t' e1 e2 e3]
  exact h
theorem k_listen (G : GX l s0 D tys a0 dT) (I : Bd s) (jNW : NW s)  : CT l s0 D A dT 227 (rmN 227) [.ref (A 179)] s (fun o t => Bd t ∧ Fm [] [161] s t ∧ NW t ∧ o = .inl none ∧ (True)) := by
  refine k_of_d (To := TU TA 161 7) I (fun t t' e1 e2 e3 o h => ?_) (fun o t h => h.2.1.2.2) (fun _ => trivial) (fun _ _ => Or.inr trivial) (d_listen (T := TA) G I jNW ta_i ta_a ta_n)
  rw [q_of t t' e1 e2 e3]
  exact h
theorem k_load (G : GX l s0 D tys a0 dT) (I : Bd s) (jNW : NW s)  : CT l s0 D A dT 228 (rmN 228) [.ref (A 179)] s (fun o t => Bd t ∧ Fm [77, 75, 78, 79, 80, 81] [161] s t ∧ NW t ∧ ∃ e, o = .inl (some (.int (Int32.ofInt e))) ∧ rng e ∧ (True)) := by
  refine k_of_d (To := TU TA 161 7) I (fun t t' e1 e2 e3 o h => ?_) (fun o t h => h.2.1.2.2) (fun _ => trivial) (fun _ _ => Or.inr trivial) (d_load (T := TA) G I jNW ta_i ta_a ta_n)
  rw [q_of t t' e1 e2 e3]
  exact h
theorem k_pairsOf (G : GX l s0 D tys a0 dT) (I : Bd s) (jNW : NW s) {x : Int} (p0 : 0 ≤ x ∧ x ≤ 5) : CT l s0 D A dT 266 (rmN 266) [.ref (A 179), .int (Int32.ofInt x)] s (fun o t => Bd t ∧ Fm [77, 75, 78, 79, 80, 81, 89] [161, 230] s t ∧ NW t ∧ ∃ e, o = .inl (some (.int (Int32.ofInt e))) ∧ rng e ∧ (-1 ≤ e ∧ e ≤ 8 ∧ (iI s 89 = 1 → iI t 89 = 1))) := by
  refine k_of_d (To := TA) I (fun t t' e1 e2 e3 o h => ?_) (fun o t h => h.2.1.2.2) (fun _ => trivial) (fun _ _ => trivial) (d_pairsOf (T := TA) G I jNW p0 ta_i ta_a ta_n)
  rw [q_of t t' e1 e2 e3]
  exact h
end M53
