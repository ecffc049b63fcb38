/-! Calls of instance methods -/
section CV
variable {k : kx_T} {x : ACx} {mn c : Nat} {dT : Nat → ClassId} {w0 : AW} {v0 : VL} {s : AS} {v : VL} {Rs : List AR} {wB : AW} {Y : Nat → MethodName} {By : Nat → ByteArray} {Rt : Nat → Option FieldType} {Hh : Nat → List (Nat × Nat × Nat × Nat)} {call : Nat → Nat → List AV → AW → Option (List AR)}
theorem aNm_ref {E : AE} {a : AV} {id : Nat} (h : aNm E a = aR (some id)) : a = aR (some id) := by
  rcases aNm_or E a with e | ⟨z, j, e, -⟩
  · rw [← e]; exact h
  · rw [e] at h; cases h
theorem kOk_V {cn : Nat} {as : List AV} (h : kOk x s cn 0 as = true) : ∃ id t fs, as = aR (some id) :: t ∧ id < (wH (sW s)).1 ∧ hGet (xB x) (wH (sW s)) id = .inr (mCl (xM x cn), fs) := by
  cases as with
  | nil => cases h
  | cons a t =>
    rcases a with z | j | m | j | o | j
    · cases h
    · cases h
    · cases h
    · cases h
    · cases o with
      | none => cases h
      | some id =>
        replace h : (Nat.blt id (wH (sW s)).1 && (match hGet (xB x) (wH (sW s)) id with | .inr (c, _) => Nat.beq c (mCl (xM x cn)) | _ => false)) = true := h
        simp only [Bool.and_eq_true] at h
        cases hg : hGet (xB x) (wH (sW s)) id with
        | inl o => rw [hg] at h; cases h.2
        | inr o =>
          obtain ⟨ci, fs⟩ := o
          rw [hg] at h
          have e := Nat.eq_of_beq_eq_true h.2
          exact ⟨id, t, fs, rfl, Nat.blt_eq.mp h.1, by rw [← e]; exact hg⟩
    · cases h
theorem g_callV (C : kx_ok k) (R : rmX k x mn) (hB : ∀ i, scC wB (xB x i)) (hB0 : wle wB w0) (hcall : callX k x mn dT wB w0 v0 Y By Rt Hh call) (qe : keX k x mn dT w0 v0 Rs) (hx : exX k x mn (sPc s)) {idx cn n N : Nat} {T : u_T} (w00 : Hh cn = [])
    (w1 : Cond.methodLink (kOwn k) idx (Y cn) ∈ gT) (w2 : Cond.code (Y cn) (By cn) (mNL (xM x cn)) (Rt cn) ∈ gT) (w3 : Cond.initialized (Y cn).cls ∈ gT) (w4 : (Y cn).cls ≠ "java/lang/invoke/MethodHandle" ∧ (Y cn).cls ≠ "java/lang/invoke/VarHandle" ∧ (parseMethodDescriptor (Y cn).desc).map (fun d => d.parameters.length) = some n) (w5 : Cond.instanceMethod (Y cn) ∈ gT) (w6 : Cond.selects (Y cn).cls (Y cn) (Y cn) ∈ gT)
    (hn : mAr (xM x cn) = n + 1) (hcl : vwCl[mCl (xM x cn)]? = some ((Y cn).cls, T, N)) (d : decode (kCc k) (sPc s) = .ok (.invokevirtual idx, 3)) (so : SO k x mn c dT w0 v0 Rs (oCall x call mn s cn 0)) : GS k x mn c dT w0 v0 s := fun v I => by
  obtain ⟨A, r, rs, ps, e, h1, h2, h3, h4, h5, h6, h7, h8, h9, h10, -, so1⟩ := call_ok so
  have hst := I.2.2.2.2.1
  rw [e] at hst
  have hA : scL (sW s) A := fun a ha => hst a (List.mem_append_left _ (List.mem_reverse.mpr ha))
  have hr : scL (sW s) r := fun a ha => hst a (List.mem_append_right _ ha)
  have hBw : wle wB (sW s) := wle_tr hB0 I.1
  have hM := hcall cn _ _ rs v h9 I.2.2.1 I.2.1 (fun a ha => by obtain ⟨b, hb, rfl⟩ := List.mem_map.mp ha; exact aNm_sc (hA b hb)) hBw h8
  obtain ⟨g1, g2⟩ := cont_ok C qe hx so1 I hr
  have ea : (A.map (aNm (wE (sW s)))).map (cv v) = A.map (cv v) := by
    rw [List.map_map]
    exact List.map_congr_left (fun a _ => aNm_cv I.2.2.1.1 a)
  rw [ea] at hM
  unfold cdX at hM
  rw [w00] at hM
  obtain ⟨id, t, fs, e2, hid, hg⟩ := kOk_V h7
  cases A with
  | nil => cases e2
  | cons a A' =>
    have ha : a = aR (some id) := aNm_ref (List.cons.inj e2).1
    subst ha
    rw [e, List.map_append, List.map_reverse]
    have es : ((aR (some id) :: A').map (cv v)).reverse ++ r.map (cv v) = (A'.map (cv v)).reverse ++ .ref (vA v id) :: r.map (cv v) := by
      rw [List.map_cons, List.reverse_cons, List.append_assoc]
      rfl
    rw [es]
    have hl : A'.length = n := by
      have : A'.length + 1 = mAr (xM x cn) := h1
      omega
    exact w_callV (rm := mRm (xM x cn)) C ⟨w1, w2, w3, w4, by rw [R.1]; exact h3, by rw [R.2.1]; exact h4⟩ w5 w6 hM (cW_cell hid hg) hcl (by rw [List.length_map]; exact hl) (by rw [sum_cat]; exact h2) ⟨by rw [R.2.2.1]; exact h5, by rw [R.2.2.2]; exact h6⟩ d (fun o ws hk => g1 o ws (may_ok hB hBw h10 hk)) (fun E ws hk => g2 E ws (may_ok hB hBw h10 hk))
end CV
