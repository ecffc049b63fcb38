/-! Plans: rows of the table, what is determined -/
theorem cu_rw : ∀ q, q < 25 → rwB (275 + 7 * q) (276 + 7 * q) (245 + 6 * q) 6 24 (-2147483648) 2147483647 = true := by decide +kernel
theorem cu_mem {M : List Nat} (h : ∀ j, j < 150 → 245 + j ∈ M) {q c : Nat} (hq : q < 25) (hc : c < 6) : 245 + 6 * q + c ∈ M := by
  have := h (6 * q + c) (by omega)
  rwa [← Nat.add_assoc] at this
theorem cu_nm {M : List Nat} (h : ∀ j, j < 150 → 245 + j ∉ M) {q c : Nat} (hq : q < 25) (hc : c < 6) : 245 + 6 * q + c ∉ M := by
  have := h (6 * q + c) (by omega)
  rwa [← Nat.add_assoc] at this
def cuB : Bool := match bsS 274 with
  | .inl (4, 25, .inl l) => (List.range 25).all (fun j => match l.getD j (aR none) with | .inr (.inr (.inr (.inr (.inl (some q))))) => Nat.beq q (275 + 7 * j) | _ => false)
  | _ => false
theorem cu_ok : cuB = true := by decide +kernel
theorem cu_c : ∃ l, bsS 274 = .inl (4, 25, .inl l) ∧ ∀ j, j < 25 → l.getD j (aR none) = aR (some (275 + 7 * j)) := by
  have h := cu_ok
  unfold cuB at h
  split at h
  · rename_i l hb
    refine ⟨l, hb, fun j hj => ?_⟩
    have h4 := List.all_eq_true.mp h j (List.mem_range.mpr hj)
    split at h4
    · rename_i q hq
      rw [hq, Nat.eq_of_beq_eq_true h4]
    · cases h4
  · cases h
theorem z_a3 {k : kx_T} {mn pc : Nat} {dT : Nat → ClassId} {lv : List (Nat × Value)} {st : List Value} {ce sl a b : Nat} {z : Int} {A : Nat → Nat} {s : PS} (X : AX k mn dT) {i : Int} (h : cdA mn pc = some (.aaload, 1, a, b, z)) (h0 : 0 ≤ i) (hi' : i < 25) (g : WS k (pc + 1) lv (.ref (A (275 + 7 * i.toNat)) :: st) (Wd A dT s) ce sl) : WS k pc lv (.int (Int32.ofInt i) :: .ref (A 274) :: st) (Wd A dT s) ce sl := by
  obtain ⟨l, hb, hl⟩ := cu_c
  have he := Wd_get (A := A) (dT := dT) (s := s) (show 274 < 518 by decide)
  rw [hb] at he
  rw [on_of h0]
  refine w_aald X.1 274 he (X.2.2.1 4) rfl (on_in (by omega) (by decide)) (ax_d X h) ?_
  have e : va_rf ((fun j => if j < 25 then cBr (vS A s) (.inl l) j else none) (Int32.ofNat i.toNat).toNatClampNeg) = .ref (A (275 + 7 * i.toNat)) := by
    show va_rf (if (Int32.ofNat i.toNat).toNatClampNeg < 25 then cR (vS A s) (l.getD (Int32.ofNat i.toNat).toNatClampNeg (aR none)) else none) = _
    rw [on_cl (by omega), if_pos (by omega), hl i.toNat (by omega)]
    rfl
  rw [e]
  exact g
/-- what stays all through the making of a plan -/
def T0 : TT := (fun q => q ∈ ([90, 89, 85, 82, 84, 96] : List Nat), fun a _ => a ∈ ([162, 163, 164, 228, 237, 229, 157, 158, 159, 166, 167, 168, 169, 170, 171, 172, 173, 174, 175, 176, 177, 178, 179, 180, 181, 182, 183, 184, 185, 186, 187, 188, 189, 190, 191, 192, 193, 194, 195, 196, 197, 198, 199, 200, 201] : List Nat))
def TP (g : PS) : TT := TU (TN T0 g) 203 (iI g 90)
def AG0 (g u : PS) : Prop := AGr T0 g u ∧ iI u 89 = 1
def AG1 (g g1 u : PS) : Prop := AG0 g u ∧ AGr (TP g) g1 u
theorem AG0_fm {L M : List Nat} {g u t : PS} (F : Fm L M u t) (h : (∀ q ∈ L, q ∉ ([90, 89, 85, 82, 84, 96] : List Nat)) ∧ ∀ a ∈ M, a ∉ ([162, 163, 164, 228, 237, 229, 157, 158, 159, 166, 167, 168, 169, 170, 171, 172, 173, 174, 175, 176, 177, 178, 179, 180, 181, 182, 183, 184, 185, 186, 187, 188, 189, 190, 191, 192, 193, 194, 195, 196, 197, 198, 199, 200, 201] : List Nat)) (r : AG0 g u) : AG0 g t :=
  ⟨⟨fun q hq => by rw [F.1 q (fun z => h.1 q z hq)]; exact r.1.1 q hq, fun a j hj => by rw [show gC t a j = gC u a j from congrFun (F.2.1 a (fun z => h.2 a z hj)) j]; exact r.1.2 a j hj⟩, by rw [fm_i F (fun z => h.1 _ z (by decide))]; exact r.2⟩
theorem TP_m {g : PS} {a j : Nat} (h : (TP g).2 a j) : a = 203 ∨ a ∈ ([202, 204, 205, 206, 207, 208, 209, 210, 211, 212, 213, 214, 215, 216, 217, 218, 219, 220, 221, 222, 223, 224, 225, 226, 227] : List Nat) ∨ a ∈ ([162, 163, 164, 228, 237, 229, 157, 158, 159, 166, 167, 168, 169, 170, 171, 172, 173, 174, 175, 176, 177, 178, 179, 180, 181, 182, 183, 184, 185, 186, 187, 188, 189, 190, 191, 192, 193, 194, 195, 196, 197, 198, 199, 200, 201] : List Nat) := by
  rcases h with ⟨e, -⟩ | (⟨e, -⟩ | ⟨i, hi, -, ⟨e, -⟩ | ⟨e, -⟩⟩) | h
  · exact Or.inl e
  · exact Or.inr (Or.inl (by rw [e]; decide))
  · exact Or.inr (Or.inl (by rw [e]; exact (by decide : ∀ i, i < 12 → 216 + i ∈ ([202, 204, 205, 206, 207, 208, 209, 210, 211, 212, 213, 214, 215, 216, 217, 218, 219, 220, 221, 222, 223, 224, 225, 226, 227] : List Nat)) i hi))
  · exact Or.inr (Or.inl (by rw [e]; exact (by decide : ∀ i, i < 12 → 204 + i ∈ ([202, 204, 205, 206, 207, 208, 209, 210, 211, 212, 213, 214, 215, 216, 217, 218, 219, 220, 221, 222, 223, 224, 225, 226, 227] : List Nat)) i hi))
  · exact Or.inr (Or.inr h)
theorem AG1_fm {L M : List Nat} {g g1 u t : PS} (F : Fm L M u t) (h : (∀ q ∈ L, q ∉ ([90, 89, 85, 82, 84, 96] : List Nat)) ∧ (∀ a ∈ M, a ∉ ([162, 163, 164, 228, 237, 229, 157, 158, 159, 166, 167, 168, 169, 170, 171, 172, 173, 174, 175, 176, 177, 178, 179, 180, 181, 182, 183, 184, 185, 186, 187, 188, 189, 190, 191, 192, 193, 194, 195, 196, 197, 198, 199, 200, 201] : List Nat)) ∧ 203 ∉ M ∧ ∀ a ∈ ([202, 204, 205, 206, 207, 208, 209, 210, 211, 212, 213, 214, 215, 216, 217, 218, 219, 220, 221, 222, 223, 224, 225, 226, 227] : List Nat), a ∉ M) (r : AG1 g g1 u) : AG1 g g1 t := by
  refine ⟨AG0_fm F ⟨h.1, h.2.1⟩ r.1, fun q hq => ?_, fun a j hj => ?_⟩
  · rw [F.1 q (fun z => h.1 q z hq)]; exact r.2.1 q hq
  · have ha : a ∉ M := by
      rcases TP_m hj with e | e | e
      · rw [e]; exact h.2.2.1
      · exact h.2.2.2 a e
      · exact fun z => h.2.1 a z e
    rw [show gC t a j = gC u a j from congrFun (F.2.1 a ha) j]; exact r.2.2 a j hj
section M50
variable {l : Launch} {s0 : State} {D : va_G} {tys : List (ClassId × FieldType)} {a0 : Array Value} {A : Nat → Nat} {dT : Nat → ClassId} {s : PS}
def HAs (l : Launch) (s0 : State) (D : va_G) (A : Nat → Nat) (dT : Nat → ClassId) (g : PS) (gq : Int → PS) : Prop := ∀ {u : PS} {x : Int}, Bd u → AG0 g u → 0 ≤ x ∧ x ≤ 23 → CT l s0 D A dT 222 (rmN 222) [.ref (A 179), .int (Int32.ofInt x)] u (fun o t => Bd t ∧ Fm [] [202, 204, 205, 206, 207, 208, 209, 210, 211, 212, 213, 214, 215, 216, 217, 218, 219, 220, 221, 222, 223, 224, 225, 226, 227, 203] u t ∧ AG1 g (gq x) t ∧ o = .inl none ∧ True)
def HPr (l : Launch) (s0 : State) (D : va_G) (A : Nat → Nat) (dT : Nat → ClassId) (g : PS) (gq : Int → PS) (P : Int → Int → Int) : Prop := ∀ {u : PS} {q x : Int}, Bd u → AG1 g (gq q) u → 0 ≤ q ∧ q ≤ 23 → 0 ≤ x ∧ x ≤ 5 → CT l s0 D A dT 266 (rmN 266) [.ref (A 179), .int (Int32.ofInt x)] u (fun o t => Bd t ∧ Fm [77, 75, 78, 79, 80, 81, 89] [161, 230] u t ∧ AG1 g (gq q) t ∧ ∃ e, o = .inl (some (.int (Int32.ofInt e))) ∧ rng e ∧ (e = P q x ∧ -1 ≤ e ∧ e ≤ 8))
def HBu (l : Launch) (s0 : State) (D : va_G) (A : Nat → Nat) (dT : Nat → ClassId) (g : PS) (B : Int → Int) : Prop := ∀ {u : PS} {x : Int}, Bd u → AG0 g u → 0 ≤ x ∧ x ≤ 23 → CT l s0 D A dT 269 (rmN 269) [.ref (A 179), .int (Int32.ofInt x)] u (fun o t => Bd t ∧ Fm [77, 75, 78, 79, 80, 81] [161, 230, 202, 204, 205, 206, 207, 208, 209, 210, 211, 212, 213, 214, 215, 216, 217, 218, 219, 220, 221, 222, 223, 224, 225, 226, 227, 203] u t ∧ AG0 g t ∧ ∃ e, o = .inl (some (.int (Int32.ofInt e))) ∧ rng e ∧ (e = B x ∧ (e = 0 ∨ e = 1)))
theorem t0_i {q : Nat} {l : List Nat} (h : ∀ q ∈ l, q ∈ ([90, 89, 85, 82, 84, 96] : List Nat)) : ∀ q ∈ l, T0.1 q := h
theorem t0_a {l : List Nat} (h : ∀ q ∈ l, q ∈ ([162, 163, 164, 228, 237, 229, 157, 158, 159, 166, 167, 168, 169, 170, 171, 172, 173, 174, 175, 176, 177, 178, 179, 180, 181, 182, 183, 184, 185, 186, 187, 188, 189, 190, 191, 192, 193, 194, 195, 196, 197, 198, 199, 200, 201] : List Nat)) : ∀ a ∈ l, ∀ j, j < (bA a).2.2 → T0.2 a j := fun a ha _ _ => h a ha
theorem t0_w : OKW T0 := ⟨fun j hj _ _ => (by decide : ∀ j, j < 12 → 166 + j ∈ ([162, 163, 164, 228, 237, 229, 157, 158, 159, 166, 167, 168, 169, 170, 171, 172, 173, 174, 175, 176, 177, 178, 179, 180, 181, 182, 183, 184, 185, 186, 187, 188, 189, 190, 191, 192, 193, 194, 195, 196, 197, 198, 199, 200, 201] : List Nat)) j hj, fun j hj _ _ => (by decide : ∀ j, j < 12 → 178 + j ∈ ([162, 163, 164, 228, 237, 229, 157, 158, 159, 166, 167, 168, 169, 170, 171, 172, 173, 174, 175, 176, 177, 178, 179, 180, 181, 182, 183, 184, 185, 186, 187, 188, 189, 190, 191, 192, 193, 194, 195, 196, 197, 198, 199, 200, 201] : List Nat)) j hj, fun a _ h => (by decide : ∀ a ∈ ([162, 163, 164, 228, 237, 229, 157, 158, 159, 166, 167, 168, 169, 170, 171, 172, 173, 174, 175, 176, 177, 178, 179, 180, 181, 182, 183, 184, 185, 186, 187, 188, 189, 190, 191, 192, 193, 194, 195, 196, 197, 198, 199, 200, 201] : List Nat), a ∉ ([202, 204, 205, 206, 207, 208, 209, 210, 211, 212, 213, 214, 215, 216, 217, 218, 219, 220, 221, 222, 223, 224, 225, 226, 227] : List Nat)) a h, fun j hj _ _ => (by decide : ∀ j, j < 12 → 190 + j ∈ ([162, 163, 164, 228, 237, 229, 157, 158, 159, 166, 167, 168, 169, 170, 171, 172, 173, 174, 175, 176, 177, 178, 179, 180, 181, 182, 183, 184, 185, 186, 187, 188, 189, 190, 191, 192, 193, 194, 195, 196, 197, 198, 199, 200, 201] : List Nat)) j hj⟩
theorem plan_as (G : GX l s0 D tys a0 dT) (I : Bd s) (jR : RLx s) : ∃ gq : Int → PS, HAs l s0 D A dT s gq ∧ ∀ x, 0 ≤ x ∧ x ≤ 23 → Bd (gq x) ∧ Fm [] [202, 204, 205, 206, 207, 208, 209, 210, 211, 212, 213, 214, 215, 216, 217, 218, 219, 220, 221, 222, 223, 224, 225, 226, 227, 203] s (gq x) ∧ RLx (gq x) ∧ NQ (gq x) := by
  have h : ∀ x : Int, ∃ g' : PS, (0 ≤ x ∧ x ≤ 23) → (Bd g' ∧ Fm [] [202, 204, 205, 206, 207, 208, 209, 210, 211, 212, 213, 214, 215, 216, 217, 218, 219, 220, 221, 222, 223, 224, 225, 226, 227, 203] s g' ∧ RLx g' ∧ NQ g') ∧ ∀ u, AGr T0 s u → Bd u → CT l s0 D A dT 222 (rmN 222) [.ref (A 179), .int (Int32.ofInt x)] u (fun o t => o = .inl none ∧ Bd t ∧ Fm [] [202, 204, 205, 206, 207, 208, 209, 210, 211, 212, 213, 214, 215, 216, 217, 218, 219, 220, 221, 222, 223, 224, 225, 226, 227, 203] u t ∧ AGr (TP s) g' t) := by
    intro x
    by_cases hx : 0 ≤ x ∧ x ≤ 23
    · obtain ⟨o, g', ⟨q1, q2, q3, q4, q5, -⟩, w⟩ := d_asTold (A := A) (T := T0) G I jR hx (t0_i (q := 0) (by decide)) (t0_a (by decide)) t0_w
      subst q5
      exact ⟨g', fun _ => ⟨⟨q1, q2, q3, q4⟩, w⟩⟩
    · exact ⟨s, fun z => absurd z hx⟩
  obtain ⟨gq, hg⟩ := Classical.axiomOfChoice h
  refine ⟨gq, fun {u x} b a hx => ?_, fun x hx => (hg x hx).1⟩
  refine MB_mono ((hg x hx).2 u a.1 b) (fun o ws hk => ?_)
  obtain ⟨t, e, e1, bt, ft, r⟩ := hk
  exact ⟨t, e, bt, ft, ⟨AG0_fm ft (by decide) a, r⟩, e1, trivial⟩
theorem plan_pr (G : GX l s0 D tys a0 dT) (I : Bd s) (h1 : iI s 89 = 1) {gq : Int → PS} (hq : ∀ x, 0 ≤ x ∧ x ≤ 23 → Bd (gq x) ∧ Fm [] [202, 204, 205, 206, 207, 208, 209, 210, 211, 212, 213, 214, 215, 216, 217, 218, 219, 220, 221, 222, 223, 224, 225, 226, 227, 203] s (gq x) ∧ RLx (gq x) ∧ NQ (gq x)) : ∃ P : Int → Int → Int, HPr l s0 D A dT s gq P := by
  have h : ∀ y : Int × Int, ∃ e : Int, (0 ≤ y.1 ∧ y.1 ≤ 23) → (0 ≤ y.2 ∧ y.2 ≤ 5) → rng e ∧ (-1 ≤ e ∧ e ≤ 8) ∧ ∀ u, AGr (TP s) (gq y.1) u → Bd u → CT l s0 D A dT 266 (rmN 266) [.ref (A 179), .int (Int32.ofInt y.2)] u (fun o t => o = .inl (some (.int (Int32.ofInt e))) ∧ Bd t ∧ Fm [77, 75, 78, 79, 80, 81, 89] [161, 230] u t ∧ iI t 89 = 1) := by
    intro y
    by_cases hx : 0 ≤ y.1 ∧ y.1 ≤ 23
    · by_cases hy : 0 ≤ y.2 ∧ y.2 ≤ 5
      · obtain ⟨b, f, r, n⟩ := hq y.1 hx
        obtain ⟨o, g', ⟨q1, q2, q3, e, q4, q5, q6, q7, q8⟩, w⟩ := d_pairsOf (A := A) (T := TP s) G b (NW_of n r) hy (t0_i (q := 0) (by decide)) (fun a ha j hj => Or.inr (Or.inr ((by decide : ∀ a ∈ ([228, 237, 229, 157, 158, 159] : List Nat), a ∈ ([162, 163, 164, 228, 237, 229, 157, 158, 159, 166, 167, 168, 169, 170, 171, 172, 173, 174, 175, 176, 177, 178, 179, 180, 181, 182, 183, 184, 185, 186, 187, 188, 189, 190, 191, 192, 193, 194, 195, 196, 197, 198, 199, 200, 201] : List Nat)) a ha))) (OKN_as f (by decide) I n)
        subst q4
        refine ⟨e, fun _ _ => ⟨q5, ⟨q6, q7⟩, fun u r b => MB_mono (w u r b) (fun o ws hk => ?_)⟩⟩
        obtain ⟨t, e0, e1, bt, ft, rt⟩ := hk
        refine ⟨t, e0, e1, bt, ft, ?_⟩
        rw [show iI t 89 = iI g' 89 from congrArg Int32.toInt (rt.1 89 (show 89 ∈ ([90, 89, 85, 82, 84, 96] : List Nat) by decide))]
        exact q8 (by rw [fm_i f (by decide)]; exact h1)
      · exact ⟨0, fun _ z => absurd z hy⟩
    · exact ⟨0, fun z => absurd z hx⟩
  obtain ⟨P, hP⟩ := Classical.axiomOfChoice h
  refine ⟨fun q x => P (q, x), fun {u q x} b a hx hy => ?_⟩
  obtain ⟨e1, e2, e3⟩ := hP (q, x) hx hy
  refine MB_mono (e3 u a.2 b) (fun o ws hk => ?_)
  obtain ⟨t, e, eo, bt, ft, h1t⟩ := hk
  have hm : AGr (TP s) (gq q) t := by
    refine ⟨fun i hi => ?_, fun c j hj => ?_⟩
    · by_cases hM : i = 89
      · subst hM
        apply i32_inj
        show iI t 89 = iI (gq q) 89
        rw [h1t, fm_i (hq q hx).2.1 (by decide), h1]
      · rw [ft.1 i (fun z => by
          have z := (by decide : ∀ i ∈ ([77, 75, 78, 79, 80, 81, 89] : List Nat), i = 89 ∨ i ∉ ([90, 89, 85, 82, 84, 96] : List Nat)) i z
          rcases z with z | z
          · exact hM z
          · exact z hi)]
        exact a.2.1 i hi
    · have hc : c ∉ ([161, 230] : List Nat) := by
        rcases TP_m hj with e | e | e
        · rw [e]; decide
        · exact (by decide : ∀ c ∈ ([202, 204, 205, 206, 207, 208, 209, 210, 211, 212, 213, 214, 215, 216, 217, 218, 219, 220, 221, 222, 223, 224, 225, 226, 227] : List Nat), c ∉ ([161, 230] : List Nat)) c e
        · exact (by decide : ∀ c ∈ ([162, 163, 164, 228, 237, 229, 157, 158, 159, 166, 167, 168, 169, 170, 171, 172, 173, 174, 175, 176, 177, 178, 179, 180, 181, 182, 183, 184, 185, 186, 187, 188, 189, 190, 191, 192, 193, 194, 195, 196, 197, 198, 199, 200, 201] : List Nat), c ∉ ([161, 230] : List Nat)) c e
      rw [show gC t c j = gC u c j from congrFun (ft.2.1 c hc) j]; exact a.2.2 c j hj
  refine ⟨t, e, bt, ft, ⟨⟨⟨fun i hi => ?_, fun c j hj => ?_⟩, h1t⟩, hm⟩, _, eo, e1, rfl, e2⟩
  · rw [hm.1 i hi, (hq q hx).2.1.1 i (fun z => absurd z List.not_mem_nil)]
  · rw [hm.2 c j (Or.inr (Or.inr hj)), show gC (gq q) c j = gC s c j from congrFun ((hq q hx).2.1.2.1 c ((by decide : ∀ c ∈ ([162, 163, 164, 228, 237, 229, 157, 158, 159, 166, 167, 168, 169, 170, 171, 172, 173, 174, 175, 176, 177, 178, 179, 180, 181, 182, 183, 184, 185, 186, 187, 188, 189, 190, 191, 192, 193, 194, 195, 196, 197, 198, 199, 200, 201] : List Nat), c ∉ ([202, 204, 205, 206, 207, 208, 209, 210, 211, 212, 213, 214, 215, 216, 217, 218, 219, 220, 221, 222, 223, 224, 225, 226, 227, 203] : List Nat)) c hj)) j]
theorem plan_bu (G : GX l s0 D tys a0 dT) (I : Bd s) (jR : RLx s) : ∃ B : Int → Int, HBu l s0 D A dT s B := by
  have h : ∀ x : Int, ∃ e : Int, (0 ≤ x ∧ x ≤ 23) → rng e ∧ (e = 0 ∨ e = 1) ∧ ∀ u, AGr T0 s u → Bd u → CT l s0 D A dT 269 (rmN 269) [.ref (A 179), .int (Int32.ofInt x)] u (fun o t => o = .inl (some (.int (Int32.ofInt e))) ∧ Bd t ∧ Fm [77, 75, 78, 79, 80, 81] [161, 230, 202, 204, 205, 206, 207, 208, 209, 210, 211, 212, 213, 214, 215, 216, 217, 218, 219, 220, 221, 222, 223, 224, 225, 226, 227, 203] u t) := by
    intro x
    by_cases hx : 0 ≤ x ∧ x ≤ 23
    · obtain ⟨o, g', ⟨q1, q2, q3, e, q4, q5, q6⟩, w⟩ := d_isBusy (A := A) (T := T0) G I jR hx (t0_i (q := 0) (by decide)) (t0_a (by decide)) t0_w
      subst q4
      refine ⟨e, fun _ => ⟨q5, q6, fun u r b => MB_mono (w u r b) (fun o ws hk => ?_)⟩⟩
      obtain ⟨t, e0, e1, bt, ft, rt⟩ := hk
      exact ⟨t, e0, e1, bt, ft⟩
    · exact ⟨0, fun z => absurd z hx⟩
  obtain ⟨B, hB⟩ := Classical.axiomOfChoice h
  refine ⟨B, fun {u x} b a hx => ?_⟩
  obtain ⟨e1, e2, e3⟩ := hB x hx
  refine MB_mono (e3 u a.1 b) (fun o ws hk => ?_)
  obtain ⟨t, e, eo, bt, ft⟩ := hk
  exact ⟨t, e, bt, ft, AG0_fm ft (by decide) a, _, eo, e1, rfl, e2⟩
end M50
/-! The table of a plan -/
abbrev tb (t : PS) (q c j : Nat) : Int := iC t (245 + 6 * q + c) j
/-- an entry is no plan, or one that goes on in the next quarter -/
def WE (P : Int → Int → Int) (B : Int → Int) (C : Int) (t : PS) (q c j : Nat) : Prop :=
  -1 ≤ tb t q c j ∧ tb t q c j ≤ 1000 * (24 - (q : Int)) ∧ (tb t q c j ≠ -1 → 0 ≤ P q c ∧ 0 ≤ tb t q c j - 100 * P q c ∧ (q < 23 → tb t (q + 1) c j = tb t q c j - 100 * P q c ∨ ∃ d : Nat, d ≠ c ∧ d < 6 ∧ (d : Int) < C ∧ 1 ≤ j ∧ B ((q : Int) + 1) = 0 ∧ tb t (q + 1) d (j - 1) ≠ -1 ∧ tb t (q + 1) d (j - 1) + 1 = tb t q c j - 100 * P q c))
theorem tb_st {t : PS} {q c j a i : Nat} {x : Int32} (h : 245 + 6 * q + c ≠ a ∨ j ≠ i) : tb (uC t a i x) q c j = tb t q c j := by
  by_cases e : 245 + 6 * q + c = a
  · subst e; exact iC_n (h.resolve_left (fun z => z rfl))
  · exact iC_a e
theorem WE_st {P : Int → Int → Int} {B : Int → Int} {C : Int} {t : PS} {q c j q0 c0 i : Nat} {x : Int32} (hc : c < 6) (hc0 : c0 < 6) (h : q0 < q ∨ (q0 = q ∧ (c ≠ c0 ∨ j ≠ i))) (r : WE P B C t q c j) : WE P B C (uC t (245 + 6 * q0 + c0) i x) q c j := by
  have e0 : tb (uC t (245 + 6 * q0 + c0) i x) q c j = tb t q c j := tb_st (by omega)
  have e1 : ∀ d i', d < 6 → tb (uC t (245 + 6 * q0 + c0) i x) (q + 1) d i' = tb t (q + 1) d i' := fun d i' hd => tb_st (by omega)
  obtain ⟨r1, r2, r3⟩ := r
  refine ⟨by rw [e0]; exact r1, by rw [e0]; exact r2, fun hn => ?_⟩
  rw [e0] at hn
  obtain ⟨p1, p2, p3⟩ := r3 hn
  refine ⟨p1, by rw [e0]; exact p2, fun hq => ?_⟩
  rw [e0]
  rcases p3 hq with p | ⟨d, d1, d2, d3, d4, d5, d6, d7⟩
  · exact Or.inl (by rw [e1 c j hc]; exact p)
  · exact Or.inr ⟨d, d1, d2, d3, d4, d5, by rw [e1 d _ d2]; exact d6, by rw [e1 d _ d2]; exact d7⟩
def TBl (P : Int → Int → Int) (B : Int → Int) (C m : Int) (t : PS) (q0 : Int) : Prop := ∀ q c j : Nat, q0 ≤ (q : Int) → q ≤ 23 → c < 6 → (c : Int) < C → j < 24 → (j : Int) ≤ m → WE P B C t q c j
def TBs (P : Int → Int → Int) (B : Int → Int) (C m : Int) (t : PS) : Prop := TBl P B C m t 0