/-! Contracts out of the determined ones -/
theorem lt1000 {L : List Nat} (h : L.all (fun x => Nat.blt x 1000) = true) (k : Nat) : k + 1000 ∉ L := fun hk => by
  have h1 := Nat.blt_eq.mp (List.all_eq_true.mp h _ hk)
  omega
theorem k_of_d2 {l : Launch} {s0 : State} {D : va_G} {A : Nat → Nat} {dT : Nat → ClassId} {mn : Nat} {rm : Room} {L M : List Nat} {To : TT} {vals : List Value} {s : PS} {Q : mb_O → PS → Prop} (b : Bd s) (hF : ∀ o t, Q o t → Fm L M s t) (hl : L.all (fun x => Nat.blt x 1000) = true) (hm : M.all (fun x => Nat.blt x 1000) = true) (h1 : ∀ q, To.1 q) (h2 : ∀ a j, To.2 a j) (h : CD l s0 D A dT mn rm L M TA To vals s Q) : CT l s0 D A dT mn rm vals s Q := by
  obtain ⟨o, g', q, w⟩ := h
  have := w s (AGr_rf _ _) b
  refine MB_mono this (fun o' ws hk => ?_)
  obtain ⟨t, e, e1, bt, ft, r⟩ := hk
  refine ⟨t, e, ?_⟩
  rw [e1]
  have fg := hF o g' q
  have a1 : g'.1 = t.1 := funext fun q => (r.1 q (h1 q)).symm
  have a2 : g'.2.2.1 = t.2.2.1 := funext fun a => funext fun j => (r.2 a j (h2 a j)).symm
  have a3 : pX g' = pX t := fg.2.2.1.trans ft.2.2.1.symm
  have a4 : g'.2.1 = t.2.1 := funext fun k => (fg.2.2.2.1 k (lt1000 hl k)).trans (ft.2.2.2.1 k (lt1000 hl k)).symm
  have a5 : g'.2.2.2.1 = t.2.2.2.1 := funext fun a => (fg.2.2.2.2 a (lt1000 hm a)).trans (ft.2.2.2.2 a (lt1000 hm a)).symm
  have et : g' = t := by
    clear q w this bt ft r fg e
    obtain ⟨x1, x2, x3, x4, x5⟩ := g'
    obtain ⟨y1, y2, y3, y4, y5⟩ := t
    cases a1; cases a2; cases a3; cases a4; cases a5
    rfl
  rw [← et]; exact q
theorem ta_i {l : List Nat} : ∀ q ∈ l, TA.1 q := fun _ _ => trivial
theorem ta_a {l : List Nat} : ∀ a ∈ l, ∀ j, j < (bA a).2.2 → TA.2 a j := fun _ _ _ _ => trivial
theorem ta_n {s : PS} : OKN TA s := fun _ _ _ => ⟨trivial, trivial, fun _ _ => trivial, fun _ _ => trivial⟩
section M53
variable {l : Launch} {s0 : State} {D : va_G} {tys : List (ClassId × FieldType)} {a0 : Array Value} {A : Nat → Nat} {dT : Nat → ClassId} {s : PS}
theorem k_listen (G : GX l s0 D tys a0 dT) (I : Bd s) (jNW : NW s)  : CT l s0 D A dT 227 (rmN 227) [.ref (A 179)] s (fun o t => Bd t ∧ Fm [] [161] s t ∧ NW t ∧ o = .inl none ∧ (True)) := by
  exact k_of_d2 (To := TU TA 161 7) I (fun o t h => h.2.1) (by decide) (by decide) (fun _ => trivial) (fun _ _ => Or.inr trivial) (d_listen (T := TA) G I jNW ta_i ta_a ta_n)
theorem k_load (G : GX l s0 D tys a0 dT) (I : Bd s) (jNW : NW s)  : CT l s0 D A dT 228 (rmN 228) [.ref (A 179)] s (fun o t => Bd t ∧ Fm [77, 75, 78, 79, 80, 81] [161] s t ∧ NW t ∧ ∃ e, o = .inl (some (.int (Int32.ofInt e))) ∧ rng e ∧ (True)) := by
  exact k_of_d2 (To := TU TA 161 7) I (fun o t h => h.2.1) (by decide) (by decide) (fun _ => trivial) (fun _ _ => Or.inr trivial) (d_load (T := TA) G I jNW ta_i ta_a ta_n)
theorem k_pairsOf (G : GX l s0 D tys a0 dT) (I : Bd s) (jNW : NW s) {x : Int} (p0 : 0 ≤ x ∧ x ≤ 5) : CT l s0 D A dT 266 (rmN 266) [.ref (A 179), .int (Int32.ofInt x)] s (fun o t => Bd t ∧ Fm [77, 75, 78, 79, 80, 81, 89] [161, 230] s t ∧ NW t ∧ ∃ e, o = .inl (some (.int (Int32.ofInt e))) ∧ rng e ∧ (-1 ≤ e ∧ e ≤ 8 ∧ (iI s 89 = 1 → iI t 89 = 1))) := by
  exact k_of_d2 (To := TA) I (fun o t h => h.2.1) (by decide) (by decide) (fun _ => trivial) (fun _ _ => trivial) (d_pairsOf (T := TA) G I jNW p0 ta_i ta_a ta_n)
end M53
