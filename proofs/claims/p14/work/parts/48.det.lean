theorem oq_1d59014a : 8 + (3 + 11) + 100 ≤ 168 := by omega
theorem oq_63dd6a8c : 8 + (3 + 11) + 146 ≤ 168 := by omega
/-! Determined: the ways as they are told -/
/-- the ways of now, as told -/
def ovN (s : PS) : PS := (s.1, s.2.1, (fun a => if a = 202 then s.2.2.1 162 else if 204 ≤ a ∧ a < 204 + 12 then s.2.2.1 (166 + (a - 204)) else if 216 ≤ a ∧ a < 216 + 12 then s.2.2.1 (178 + (a - 216)) else s.2.2.1 a), s.2.2.2)
theorem ov_m (s : PS) : (ovN s).2.2.1 202 = s.2.2.1 162 := rfl
theorem ov_w (s : PS) {j : Nat} (hj : j < 12) : (ovN s).2.2.1 (204 + j) = s.2.2.1 (166 + j) := by
  show (if 204 + j = 202 then _ else if 204 ≤ 204 + j ∧ 204 + j < 204 + 12 then s.2.2.1 (166 + (204 + j - 204)) else _) = _
  rw [if_neg (by omega), if_pos (by omega), Nat.add_sub_cancel_left]
theorem ov_l (s : PS) {j : Nat} (hj : j < 12) : (ovN s).2.2.1 (216 + j) = s.2.2.1 (178 + j) := by
  show (if 216 + j = 202 then _ else if 204 ≤ 216 + j ∧ 216 + j < 204 + 12 then _ else if 216 ≤ 216 + j ∧ 216 + j < 216 + 12 then s.2.2.1 (178 + (216 + j - 216)) else _) = _
  rw [if_neg (by omega), if_neg (by omega), if_pos (by omega), Nat.add_sub_cancel_left]
theorem mw_out {a : Nat} (h : a ∉ ([202, 204, 205, 206, 207, 208, 209, 210, 211, 212, 213, 214, 215, 216, 217, 218, 219, 220, 221, 222, 223, 224, 225, 226, 227] : List Nat)) : a ≠ 202 ∧ ¬ (204 ≤ a ∧ a < 204 + 12) ∧ ¬ (216 ≤ a ∧ a < 216 + 12) := by
  refine ⟨fun e => h (by rw [e]; decide), fun e => h ?_, fun e => h ?_⟩
  · have := (by decide : ∀ j, j < 12 → 204 + j ∈ ([202, 204, 205, 206, 207, 208, 209, 210, 211, 212, 213, 214, 215, 216, 217, 218, 219, 220, 221, 222, 223, 224, 225, 226, 227] : List Nat)) (a - 204) (by omega)
    rwa [show 204 + (a - 204) = a by omega] at this
  · have := (by decide : ∀ j, j < 12 → 216 + j ∈ ([202, 204, 205, 206, 207, 208, 209, 210, 211, 212, 213, 214, 215, 216, 217, 218, 219, 220, 221, 222, 223, 224, 225, 226, 227] : List Nat)) (a - 216) (by omega)
    rwa [show 216 + (a - 216) = a by omega] at this
theorem ov_o (s : PS) {a : Nat} (h : a ∉ ([202, 204, 205, 206, 207, 208, 209, 210, 211, 212, 213, 214, 215, 216, 217, 218, 219, 220, 221, 222, 223, 224, 225, 226, 227] : List Nat)) : (ovN s).2.2.1 a = s.2.2.1 a := by
  obtain ⟨h1, h2, h3⟩ := mw_out h
  show (if a = 202 then _ else if 204 ≤ a ∧ a < 204 + 12 then _ else if 216 ≤ a ∧ a < 216 + 12 then _ else s.2.2.1 a) = _
  rw [if_neg h1, if_neg h2, if_neg h3]
theorem ov_fm (s : PS) : Fm [] [202, 204, 205, 206, 207, 208, 209, 210, 211, 212, 213, 214, 215, 216, 217, 218, 219, 220, 221, 222, 223, 224, 225, 226, 227] s (ovN s) := ⟨fun _ _ => rfl, fun a ha => ov_o s ha, rfl, fun _ _ => rfl, fun _ _ => rfl⟩
theorem ov_i {s : PS} {a b j : Nat} (h : (ovN s).2.2.1 a = s.2.2.1 b) : iC (ovN s) a j = iC s b j := congrArg Int32.toInt (congrFun h j)
theorem ov_bd {s : PS} (I : Bd s) : Bd (ovN s) := by
  refine ⟨fun k => I.1 k, fun a j hj => ?_⟩
  have go : ∀ b, (ovN s).2.2.1 a = s.2.2.1 b → bA a = bA b → (bA a).1 ≤ iC (ovN s) a j ∧ iC (ovN s) a j ≤ (bA a).2.1 := fun b e1 e2 => by
    rw [ov_i e1, e2]
    exact I.2 b j (by rw [← e2]; exact hj)
  by_cases h1 : a = 202
  · subst h1; exact go _ (ov_m s) (by decide)
  by_cases h2 : 204 ≤ a ∧ a < 204 + 12
  · obtain ⟨i, hi, e⟩ : ∃ i, i < 12 ∧ a = 204 + i := ⟨a - 204, by omega, by omega⟩
    subst e
    exact go (166 + i) (ov_w s hi) ((by decide +kernel : ∀ i, i < 12 → bA (204 + i) = bA (166 + i)) i hi)
  by_cases h3 : 216 ≤ a ∧ a < 216 + 12
  · obtain ⟨i, hi, e⟩ : ∃ i, i < 12 ∧ a = 216 + i := ⟨a - 216, by omega, by omega⟩
    subst e
    exact go (178 + i) (ov_l s hi) ((by decide +kernel : ∀ i, i < 12 → bA (216 + i) = bA (178 + i)) i hi)
  refine go a ?_ rfl
  show (if a = 202 then _ else if 204 ≤ a ∧ a < 204 + 12 then _ else if 216 ≤ a ∧ a < 216 + 12 then _ else s.2.2.1 a) = _
  rw [if_neg h1, if_neg h2, if_neg h3]
theorem ov_nq (s : PS) : NQ (ovN s) := fun j hj _ => by
  have e1 : iC (ovN s) 162 j = iC s 162 j := ov_i (ov_o s (by decide))
  refine ⟨?_, fun k hk _ => ?_, fun c hc => ?_⟩
  · rw [ov_i (ov_m s), e1]
  · rw [ov_i (ov_w s hj), ov_i (ov_o s ((by decide : ∀ i, i < 12 → 166 + i ∉ ([202, 204, 205, 206, 207, 208, 209, 210, 211, 212, 213, 214, 215, 216, 217, 218, 219, 220, 221, 222, 223, 224, 225, 226, 227] : List Nat)) j hj))]
  · rw [ov_i (ov_l s hj), ov_i (ov_o s ((by decide : ∀ i, i < 12 → 178 + i ∉ ([202, 204, 205, 206, 207, 208, 209, 210, 211, 212, 213, 214, 215, 216, 217, 218, 219, 220, 221, 222, 223, 224, 225, 226, 227] : List Nat)) j hj))]
/-- T and the ways of now -/
def TN (T : TT) (s : PS) : TT := (T.1, fun a j => ((a = 202 ∧ (j : Int) < iI s 90) ∨ ∃ i : Nat, i < 12 ∧ (i : Int) < iI s 90 ∧ ((a = 216 + i ∧ j < 128) ∨ (a = 204 + i ∧ j < 24 ∧ (j : Int) < iC s 162 i))) ∨ T.2 a j)
theorem OKN_as {T : TT} {s t : PS} {L M : List Nat} (F : Fm L M s t) (h : 90 ∉ L ∧ 162 ∉ M) (I : Bd s) (nt : NQ t) : OKN (TU (TN T s) 203 (iI s 90)) t := fun j hj hs => by
  have e1 : iI t 90 = iI s 90 := fm_i F h.1
  have e2 : iC t 162 j = iC s 162 j := fm_c F h.2
  obtain ⟨n1, -, -⟩ := nt j hj hs
  rw [e1] at hs
  have b0 : (0 : Int) ≤ iC s 162 j ∧ iC s 162 j ≤ 24 := I.2 162 j (show j < 12 from hj)
  exact ⟨Or.inr (Or.inl (Or.inl ⟨rfl, hs⟩)), Or.inl ⟨rfl, hs⟩, fun c hc => Or.inr (Or.inl (Or.inr ⟨j, hj, hs, Or.inl ⟨rfl, hc⟩⟩)), fun k hk => Or.inr (Or.inl (Or.inr ⟨j, hj, hs, Or.inr ⟨rfl, by rw [n1, e2] at hk; omega, by rw [n1, e2] at hk; exact hk⟩⟩))⟩
theorem RLx_ag {T : TT} {s u : PS} (r : AGr T s u) (hi : T.1 90) (hm : ∀ j, j < 12 → T.2 162 j) (hl : ∀ j, j < 12 → ∀ c, c < 128 → T.2 (178 + j) c) (h : RLx s) : RLx u := fun j hj hs => by
  rw [show iI u 90 = iI s 90 from congrArg Int32.toInt (r.1 _ hi)] at hs
  obtain ⟨a, b⟩ := h j hj hs
  have e : iC u 162 j = iC s 162 j := congrArg Int32.toInt (r.2 _ _ (hm j hj))
  exact ⟨by rw [e]; exact a, fun c hc => by rw [e, show iC u (178 + j) c = iC s (178 + j) c from congrArg Int32.toInt (r.2 _ _ (hl j hj c hc))]; exact b c hc⟩
theorem i32_inj {x y : Int32} (h : x.toInt = y.toInt) : x = y := Int32.toInt_inj.mp h
section M48
variable {l : Launch} {s0 : State} {D : va_G} {tys : List (ClassId × FieldType)} {a0 : Array Value} {A : Nat → Nat} {dT : Nat → ClassId} {s : PS}
/-- what T holds of the ways as told; of the ways of now nothing -/
def OKW (T : TT) : Prop := (∀ j, j < 12 → ∀ k, k < 24 → T.2 (166 + j) k) ∧ (∀ j, j < 12 → ∀ c, c < 128 → T.2 (178 + j) c) ∧ (∀ a j, T.2 a j → a ∉ ([202, 204, 205, 206, 207, 208, 209, 210, 211, 212, 213, 214, 215, 216, 217, 218, 219, 220, 221, 222, 223, 224, 225, 226, 227] : List Nat)) ∧ ∀ j, j < 12 → ∀ k, k < 24 → T.2 (190 + j) k
theorem d_waysAsTold (G : GX l s0 D tys a0 dT) (I : Bd s) (jRLx : RLx s) {T : TT} (hti : ∀ q ∈ ([90] : List Nat), T.1 q) (hta : ∀ a ∈ ([162] : List Nat), ∀ j, j < (bA a).2.2 → T.2 a j) (how : OKW T) : CD l s0 D A dT 223 (rmN 223) [] [202, 204, 205, 206, 207, 208, 209, 210, 211, 212, 213, 214, 215, 216, 217, 218, 219, 220, 221, 222, 223, 224, 225, 226, 227] T (TN T s) [.ref (A 179)] s (fun o t => Bd t ∧ Fm [] [202, 204, 205, 206, 207, 208, 209, 210, 211, 212, 213, 214, 215, 216, 217, 218, 219, 220, 221, 222, 223, 224, 225, 226, 227] s t ∧ RLx t ∧ NQ t ∧ o = .inl none ∧ (True)) := by
  have hm : ∀ j, j < 12 → T.2 162 j := fun j hj => hta 162 (by decide) j hj
  refine ⟨.inl none, ovN s, ⟨ov_bd I, ov_fm s, RLx_fm (ov_fm s) (by decide) jRLx, ov_nq s, rfl, trivial⟩, fun u r b => ?_⟩
  refine MB_mono (k_waysAsTold G b (RLx_ag r (hti 90 (by decide)) hm how.2.1 jRLx)) (fun o ws hk => ?_)
  obtain ⟨t, e, It, Ft, rt, nt, eo, -⟩ := hk
  refine ⟨t, e, eo, It, Ft, ?_, ?_⟩
  · intro q hq
    rw [Ft.1 q (fun z => absurd z List.not_mem_nil)]
    exact r.1 q hq
  · intro a j hq
    have es : iI t 90 = iI s 90 := by rw [fm_i Ft (fun z => absurd z List.not_mem_nil)]; exact congrArg Int32.toInt (r.1 _ (hti 90 (by decide)))
    have em : ∀ i, i < 12 → iC t 162 i = iC s 162 i := fun i hi => by rw [fm_c Ft (by decide)]; exact congrArg Int32.toInt (r.2 _ _ (hm i hi))
    rcases hq with (⟨q1, q2⟩ | ⟨i, hi, hs, ⟨q1, q2⟩ | ⟨q1, q2, q3⟩⟩) | hq
    · subst q1
      have b0 : iI s 90 ≤ 12 := (I.1 90).2
      have hj : j < 12 := by omega
      apply i32_inj
      have n1 := (nt j hj (by rw [es]; exact q2)).1
      show iC t 202 j = iC (ovN s) 202 j
      rw [n1, em j hj, ov_i (ov_m s)]
    · subst q1
      apply i32_inj
      have n3 := (nt i hi (by rw [es]; exact hs)).2.2 j q2
      show iC t (216 + i) j = iC (ovN s) (216 + i) j
      rw [n3, ov_i (ov_l s hi), fm_c Ft ((by decide : ∀ i, i < 12 → 178 + i ∉ ([202, 204, 205, 206, 207, 208, 209, 210, 211, 212, 213, 214, 215, 216, 217, 218, 219, 220, 221, 222, 223, 224, 225, 226, 227] : List Nat)) i hi)]
      exact congrArg Int32.toInt (r.2 _ _ (how.2.1 i hi j q2))
    · subst q1
      apply i32_inj
      have n2 := (nt i hi (by rw [es]; exact hs)).2.1 j q2 (by rw [em i hi]; exact q3)
      show iC t (204 + i) j = iC (ovN s) (204 + i) j
      rw [n2, ov_i (ov_w s hi), fm_c Ft ((by decide : ∀ i, i < 12 → 166 + i ∉ ([202, 204, 205, 206, 207, 208, 209, 210, 211, 212, 213, 214, 215, 216, 217, 218, 219, 220, 221, 222, 223, 224, 225, 226, 227] : List Nat)) i hi)]
      exact congrArg Int32.toInt (r.2 _ _ (how.1 i hi j q2))
    · have ha := how.2.2.1 a j hq
      rw [show gC (ovN s) a j = gC s a j from congrFun (ov_o s ha) j, show gC t a j = gC u a j from congrFun (Ft.2.1 a ha) j]
      exact r.2 a j hq
end M48
section M48b
variable {l : Launch} {s0 : State} {D : va_G} {tys : List (ClassId × FieldType)} {a0 : Array Value} {A : Nat → Nat} {dT : Nat → ClassId} {s : PS}
set_option maxHeartbeats 16000000 in
theorem d_asTold (G : GX l s0 D tys a0 dT) (I : Bd s) (jRLx : RLx s) {x : Int} (p0 : 0 ≤ x ∧ x ≤ 23) {T : TT} (hti : ∀ q ∈ ([90] : List Nat), T.1 q) (hta : ∀ a ∈ ([162, 163, 164] : List Nat), ∀ j, j < (bA a).2.2 → T.2 a j) (how : OKW T) : CD l s0 D A dT 222 (rmN 222) [] [202, 204, 205, 206, 207, 208, 209, 210, 211, 212, 213, 214, 215, 216, 217, 218, 219, 220, 221, 222, 223, 224, 225, 226, 227, 203] T (TU (TN T s) 203 (iI s 90)) [.ref (A 179), .int (Int32.ofInt x)] s (fun o t => Bd t ∧ Fm [] [202, 204, 205, 206, 207, 208, 209, 210, 211, 212, 213, 214, 215, 216, 217, 218, 219, 220, 221, 222, 223, 224, 225, 226, 227, 203] s t ∧ RLx t ∧ NQ t ∧ o = .inl none ∧ (True)) := by
  refine cd_of G (by decide) (Nat.le_of_ble_eq_true rfl) (fun Q hQ => ?_)
  have I0 := I
  show DS l s0 D A dT 222 (rmN 222) [] [202, 204, 205, 206, 207, 208, 209, 210, 211, 212, 213, 214, 215, 216, 217, 218, 219, 220, 221, 222, 223, 224, 225, 226, 227, 203] (TU (TN T s) 203 (iI s 90)) Q (T) 0 [(0, .ref (A 179)), (1, .int (Int32.ofInt x))] [] s
  have F : Fm [] [202, 204, 205, 206, 207, 208, 209, 210, 211, 212, 213, 214, 215, 216, 217, 218, 219, 220, 221, 222, 223, 224, 225, 226, 227, 203] s s := fm_rf _ _ s
  refine d_lift (fun k ws X h => z_aload_n X (x := A 179) rfl (List.Mem.head _) h) (d_callV 179 (As := []) (st := []) rfl rfl (by decide) rfl (d_waysAsTold G I jRLx  (fun q h => hti q ((by decide : ∀ q ∈ ([90] : List Nat), q ∈ ([90] : List Nat)) q h)) (fun a h => hta a ((by decide : ∀ q ∈ ([162] : List Nat), q ∈ ([162, 163, 164] : List Nat)) a h)) how) ⟨rfl, rfl⟩ ⟨(show 6 + 1 ≤ 9 from oq_4a198724), (show 8 + (mNL (miB 223) + 11) + 100 ≤ 168 from oq_1d59014a)⟩ (Nat.le_of_ble_eq_true rfl) (by decide) (by decide) (fun ee s1 hq => ?_) (fun vv s1 hq => ?_))
  · obtain ⟨Is1, Fs1, JRLx_s1, JNQ_s1, hv, hps1⟩ := hq; cases hv
  obtain ⟨Is1, Fs1, JRLx_s1, JNQ_s1, hv, hps1⟩ := hq
  cases hv
  have hta3 : ∀ a ∈ ([162, 163, 164] : List Nat), ∀ j, j < (bA a).2.2 → (TN T s).2 a j := fun a h j hj => Or.inr (hta a h j hj)
  have hcn : ∀ j, j < 12 → ∀ k, k < 24 → T.2 (190 + j) k := how.2.2.2
  have Gs1 := fm_tq F Fs1 rfl rfl
  have JRLx_s1 : RLx s1 := RLx_fm Fs1 (by decide) jRLx
  show DS l s0 D A dT 222 (rmN 222) [] [202, 204, 205, 206, 207, 208, 209, 210, 211, 212, 213, 214, 215, 216, 217, 218, 219, 220, 221, 222, 223, 224, 225, 226, 227, 203] (TU (TN T s) 203 (iI s 90)) Q (TN T s) 4 [(0, .ref (A 179)), (1, .int (Int32.ofInt x))] [] s1
  refine d_lift (fun k ws X h => z_aload_n X (x := A 179) rfl (List.Mem.head _) h) (d_lift (fun k ws X h => z_load_n X (x := x) rfl (List.Mem.tail _ (List.Mem.head _)) h) (d_callV 179 (As := [.int (Int32.ofInt x)]) (st := []) rfl rfl (by decide) rfl (d_numbersIn (T := TN T s) G Is1 (by first | exact ⟨p0.1, p0.2⟩ | omega) (fun q h => hti q ((by decide : ∀ q ∈ ([90] : List Nat), q ∈ ([90] : List Nat)) q h)) (fun a h => hta3 a ((by decide : ∀ q ∈ ([163, 164] : List Nat), q ∈ ([162, 163, 164] : List Nat)) a h)) (fun j hj k hk => (Or.inr (hcn j hj k hk)))) ⟨rfl, rfl⟩ ⟨(show 8 + 1 ≤ 9 from oq_67c02c84), (show 8 + (mNL (miB 224) + 11) + 146 ≤ 168 from oq_63dd6a8c)⟩ (Nat.le_of_ble_eq_true rfl) (by decide) (by decide) (fun ee s4 hq => ?_) (fun vv s4 hq => ?_)))
  · obtain ⟨Is4, Fs4, hv, hps4⟩ := hq; cases hv
  obtain ⟨Is4, Fs4, hv, hps4⟩ := hq
  cases hv
  rw [show iI s1 90 = iI s 90 from fm_i Gs1 (by decide)]
  have hta6 : ∀ a ∈ ([162, 163, 164] : List Nat), ∀ j, j < (bA a).2.2 → (TU (TN T s) 203 (iI s 90)).2 a j := fun a h j hj => Or.inr (Or.inr (hta a h j hj))
  have Gs4 := fm_tq Gs1 Fs4 rfl rfl
  have JRLx_s4 : RLx s4 := RLx_fm Fs4 (by decide) JRLx_s1
  have JNQ_s4 : NQ s4 := NQ_fm Fs4 (by decide) JNQ_s1
  show DS l s0 D A dT 222 (rmN 222) [] [202, 204, 205, 206, 207, 208, 209, 210, 211, 212, 213, 214, 215, 216, 217, 218, 219, 220, 221, 222, 223, 224, 225, 226, 227, 203] (TU (TN T s) 203 (iI s 90)) Q (TU (TN T s) 203 (iI s 90)) 9 [(0, .ref (A 179)), (1, .int (Int32.ofInt x))] [] s4
  exact d_vret rfl rfl (fun _ h => h) (hQ _ _ ⟨Is4, Gs4, JRLx_s4, JNQ_s4, rfl, trivial⟩)
end M48b
