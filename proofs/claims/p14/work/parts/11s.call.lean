/-! Calls -/
def mRm (m : AM) : Room := { frames := mFr m, locals := mLo m, cells := mCe m, slots := mSl m }
/-- a method's own word: with handlers, or without -/
def cdX (x : ACx) (Y : Nat → MethodName) (By : Nat → ByteArray) (Rt : Nat → Option FieldType) (Hh : Nat → List (Nat × Nat × Nat × Nat)) (cn : Nat) : Cond := match Hh cn with
  | [] => .code (Y cn) (By cn) (mNL (xM x cn)) (Rt cn)
  | h :: t => .codeWith (Y cn) (By cn) (mNL (xM x cn)) (Rt cn) (h :: t)
/-- what is known of the methods that are called -/
def callX (k : kx_T) (x : ACx) (mn : Nat) (dT : Nat → ClassId) (wB w0 : AW) (v0 : VL) (Y : Nat → MethodName) (By : Nat → ByteArray) (Rt : Nat → Option FieldType) (Hh : Nat → List (Nat × Nat × Nat × Nat)) (call : Nat → Nat → List AV → AW → Option (List AR)) : Prop :=
  ∀ (cn : Nat) (as : List AV) (w : AW) (rs : List AR) (v : VL), call mn cn as w = some rs → okW (xB x) v w → agr w0 v0 v → scL w as → wle wB w → (argF as).length ≤ mNL (xM x cn) →
    MB (kL k) (kS0 k) (kD k) (Y cn) (cdX x Y By Rt Hh cn) (mRm (xM x cn)) (as.map (cv v)) (cW v dT (xB x) (wH w)) (Kd x dT w v rs)
/-- the receiver's check -/
def kOk (x : ACx) (s : AS) (cn kind : Nat) (as : List AV) : Bool := match kind, as with
      | 0, .inr (.inr (.inr (.inr (.inl (some id))))) :: _ => Nat.blt id (wH (sW s)).1 && (match hGet (xB x) (wH (sW s)) id with | .inr (c, _) => Nat.beq c (mCl (xM x cn)) | _ => false)
      | 0, _ => false
      | 1, _ => true
      | _, .inr (.inr (.inr (.inr (.inl (some _))))) :: _ => true
      | _, _ => false
section CC
variable {k : kx_T} {x : ACx} {mn c : Nat} {dT : Nat → ClassId} {w0 : AW} {v0 : VL} {s : AS} {v : VL} {Rs : List AR} {wB : AW} {Y : Nat → MethodName} {By : Nat → ByteArray} {Rt : Nat → Option FieldType} {Hh : Nat → List (Nat × Nat × Nat × Nat)} {call : Nat → Nat → List AV → AW → Option (List AR)}
theorem call_ok {cn kind : Nat} (so : SO k x mn c dT w0 v0 Rs (oCall x call mn s cn kind)) : ∃ (A r : List AV) (rs ps : List AR), sSt s = A.reverse ++ r ∧ A.length = mAr (xM x cn) ∧ (r.map aCat).sum ≤ 8 ∧ mFr (xM x cn) + 1 ≤ mFr (xM x mn) ∧ 8 + (mNL (xM x cn) + 11) + mLo (xM x cn) ≤ mLo (xM x mn) ∧ sC s + mCe (xM x cn) ≤ mCe (xM x mn) ∧ sS s + mSl (xM x cn) ≤ mSl (xM x mn) ∧
    kOk x s cn kind (A.map (aNm (wE (sW s)))) = true ∧ (argF (A.map (aNm (wE (sW s))))).length ≤ mNL (xM x cn) ∧ call mn cn (A.map (aNm (wE (sW s)))) (sW s) = some rs ∧ smMay x (A.map (aNm (wE (sW s)))) (sW s) (xSm x mn cn) rs = some ps ∧ (Nat.ble kind 1 || rs.all endV) = true ∧ SO k x mn c dT w0 v0 Rs (oCont (xEx x mn (sPc s)) s r (xM x mn) (xM x cn) ps) := by
  obtain ⟨h1, so1⟩ := so_if so
  clear so
  simp only [Bool.and_eq_true] at h1
  obtain ⟨⟨⟨⟨⟨h1, h2⟩, h3⟩, h4⟩, h5⟩, h6⟩ := h1
  have h1 := Nat.le_of_ble_eq_true h1
  obtain ⟨h7, so2⟩ := so_if (b := kOk x s cn kind ((((sSt s).take (mAr (xM x cn))).reverse).map (aNm (wE (sW s)))) && Nat.ble (argsL 0 ((((sSt s).take (mAr (xM x cn))).reverse).map (aNm (wE (sW s))))).length (mNL (xM x cn))) so1
  clear so1
  simp only [Bool.and_eq_true] at h7
  have h8 := Nat.le_of_ble_eq_true h7.2
  rw [argsL_0] at h8
  cases hc : call mn cn ((((sSt s).take (mAr (xM x cn))).reverse).map (aNm (wE (sW s)))) (sW s) with
  | none => simp only [hc] at so2; exact SO_no so2
  | some rs =>
    simp only [hc] at so2
    cases hm : smMay x ((((sSt s).take (mAr (xM x cn))).reverse).map (aNm (wE (sW s)))) (sW s) (xSm x mn cn) rs with
    | none => simp only [hm] at so2; exact SO_no so2
    | some ps =>
      simp only [hm] at so2
      obtain ⟨h9, so3⟩ := so_if so2
      refine ⟨((sSt s).take (mAr (xM x cn))).reverse, (sSt s).drop (mAr (xM x cn)), rs, ps, ?_, ?_, Nat.le_of_ble_eq_true h2, Nat.le_of_ble_eq_true h3, Nat.le_of_ble_eq_true h4, Nat.le_of_ble_eq_true h5, Nat.le_of_ble_eq_true h6, h7.1, h8, hc, hm, h9, so3⟩
      · rw [List.reverse_reverse, List.take_append_drop]
      · rw [List.length_reverse, List.length_take]
        omega
theorem may_ok (hB : ∀ i, scC wB (xB x i)) {as : List AV} {w : AW} (hBw : wle wB w) {o : Option ASm} {rs ps : List AR} (h : smMay x as w o rs = some ps) {q : mb_O} {ws : va_W} (hk : Kd x dT w v rs q ws) : Kd x dT w v ps q ws := by
  cases o with
  | none => cases h; exact hk
  | some sm => exact sm_ok hB hBw h hk
theorem sum_cat (r : List AV) : ((r.map (cv v)).map fun y => y.category).sum = (r.map aCat).sum := by
  rw [List.map_map]
  exact congrArg List.sum (List.map_congr_left (fun a _ => cv_cat v a))
theorem g_callS (C : kx_ok k) (R : rmX k x mn) (hB : ∀ i, scC wB (xB x i)) (hB0 : wle wB w0) (hcall : callX k x mn dT wB w0 v0 Y By Rt Hh call) (qe : keX k x mn dT w0 v0 Rs) (hx : exX k x mn (sPc s)) {idx cn : Nat} (w00 : Hh cn = [])
    (w1 : Cond.methodLink (kOwn k) idx (Y cn) ∈ gT) (w2 : Cond.code (Y cn) (By cn) (mNL (xM x cn)) (Rt cn) ∈ gT) (w3 : Cond.initialized (Y cn).cls ∈ gT) (w4 : (Y cn).cls ≠ "java/lang/invoke/MethodHandle" ∧ (Y cn).cls ≠ "java/lang/invoke/VarHandle" ∧ (parseMethodDescriptor (Y cn).desc).map (fun d => d.parameters.length) = some (mAr (xM x cn))) (w5 : Cond.static (Y cn) ∈ gT)
    (d : decode (kCc k) (sPc s) = .ok (.invokestatic idx, 3)) (so : SO k x mn c dT w0 v0 Rs (oCall x call mn s cn 1)) : GS k x mn c dT w0 v0 s := fun v I => by
  obtain ⟨A, r, rs, ps, e, h1, h2, h3, h4, h5, h6, -, h8, h9, h10, -, so1⟩ := call_ok so
  have hst := I.2.2.2.2.1
  rw [e] at hst
  have hA : scL (sW s) A := fun a ha => hst a (List.mem_append_left _ (List.mem_reverse.mpr ha))
  have hr : scL (sW s) r := fun a ha => hst a (List.mem_append_right _ ha)
  have hBw : wle wB (sW s) := wle_tr hB0 I.1
  have hM := hcall cn _ _ rs v h9 I.2.2.1 I.2.1 (fun a ha => by obtain ⟨b, hb, rfl⟩ := List.mem_map.mp ha; exact aNm_sc (hA b hb)) hBw h8
  obtain ⟨g1, g2⟩ := cont_ok C qe hx so1 I hr
  have ea : (A.map (aNm (wE (sW s)))).map (cv v) = A.map (cv v) := by
    rw [List.map_map]
    exact List.map_congr_left (fun a _ => aNm_cv I.2.2.1.1 a)
  rw [ea] at hM
  unfold cdX at hM
  rw [w00] at hM
  rw [e, List.map_append, List.map_reverse]
  exact w_callS (rm := mRm (xM x cn)) C ⟨w1, w2, w3, w4, by rw [R.1]; exact h3, by rw [R.2.1]; exact h4⟩ w5 hM (by rw [List.length_map]; exact h1) (by rw [sum_cat]; exact h2) ⟨by rw [R.2.2.1]; exact h5, by rw [R.2.2.2]; exact h6⟩ d (fun o ws hk => g1 o ws (may_ok hB hBw h10 hk)) (fun E ws hk => g2 E ws (may_ok hB hBw h10 hk))
end CC
