/-! Steps: new things -/
def vAu (v : VL) (n q : Nat) : VL := (vI v, vJ v, fun i => if i = n then q else vA v i, v.2.2.2)
/-- the room of an activation is its method's -/
def rmX (k : kx_T) (x : ACx) (mn : Nat) : Prop := (kR k).frames = mFr (xM x mn) ∧ (kR k).locals = mLo (xM x mn) ∧ (kR k).cells = mCe (xM x mn) ∧ (kR k).slots = mSl (xM x mn)
section ST8
variable {k : kx_T} {x : ACx} {mn c : Nat} {dT : Nat → ClassId} {w0 : AW} {v0 : VL} {s : AS} {v : VL} {Rs : List AR} {B : Nat → AC} {w : AW}
theorem agr_vAu (q : Nat) : agr w v (vAu v (wH w).1 q) :=
  ⟨fun _ _ => rfl, fun i hi => by show vA v i = if i = _ then q else vA v i; rw [if_neg (by omega)], fun _ _ => rfl, fun _ _ => ⟨rfl, rfl⟩, fun _ _ => rfl⟩
theorem wle_add {cl : AC} : wle w (wHp w (hAdd (wH w) cl)) := ⟨Nat.le_refl _, Nat.le_succ _, Nat.le_refl _, Nat.le_refl _, Nat.le_refl _⟩
theorem okW_add {cl : AC} {u : VL} (h : okW B v w) (ha : agr w v u) (hE : okE u (wE w)) (hs : scC (wHp w (hAdd (wH w) cl)) cl) (ho : okC u cl) : okW B u (wHp w (hAdd (wH w) cl)) := by
  refine ⟨hE, fun i hi => ?_, fun i hi => ?_, h.2.2.2⟩
  · show okC u (hGet B (hAdd (wH w) cl) i)
    rw [hGet_add]
    split
    · exact ho
    · rename_i hne
      have hi' : i < (wH w).1 + 1 := hi
      have hlt : i < (wH w).1 := by omega
      exact okC_agr ha (h.2.2.1 i hlt) (h.2.1 i hlt)
  · show scC _ (hGet B (hAdd (wH w) cl) i)
    rw [hGet_add]
    split
    · exact hs
    · rename_i hne
      have hi' : i < (wH w).1 + 1 := hi
      have hlt : i < (wH w).1 := by omega
      exact scC_mono wle_add (h.2.2.1 i hlt)
/-- a cell added, in a world that has grown -/
theorem gs_add {pc ce sl : Nat} {r : List AV} {w1 : AW} {v1 : VL} {cl : AC} {e : va_E} {q : Nat} (g : GS k x mn c dT w0 v0 (pc, sLv s, aR (some (wH w1).1) :: r, wHp w1 (hAdd (wH w1) cl), sLp s, ce, sl)) (I : Inv k x mn c dT w0 v0 s v) (hl : wle (sW s) w1) (hH : wH w1 = wH (sW s)) (ha : agr (sW s) v v1) (hw : okW (xB x) v1 w1) (hs : scC (wHp w1 (hAdd (wH w1) cl)) cl) (ho : okC (vAu v1 (wH w1).1 q) cl) (hc : cC (vAu v1 (wH w1).1 q) dT cl = e) (hst : scL (sW s) r) :
    WS k pc (cL v (sLv s)) (.ref q :: r.map (cv v)) (cW v dT (xB x) (wH (sW s)) ++ [(q, e)]) ce sl := by
  have a1 : agr w1 v1 (vAu v1 (wH w1).1 q) := agr_vAu q
  have a2 : agr (sW s) v (vAu v1 (wH w1).1 q) := agr_tr ha (agr_mono a1 hl)
  have hl2 : wle (sW s) (wHp w1 (hAdd (wH w1) cl)) := wle_tr hl wle_add
  have hq : vA (vAu v1 (wH w1).1 q) (wH w1).1 = q := if_pos rfl
  have h := g (vAu v1 (wH w1).1 q) (Inv_go I hl2 a2 (okW_add hw a1 hw.1 hs ho) (scO_mono hl2 I.2.2.2.1) (sc_cons (show (wH w1).1 < (wH w1).1 + 1 by omega) (scL_mono hl2 hst)) I.2.2.2.2.2.1 (fun p hp => hp))
  replace h : WS k pc (cL (vAu v1 (wH w1).1 q) (sLv s)) (.ref (vA (vAu v1 (wH w1).1 q) (wH w1).1) :: r.map (cv (vAu v1 (wH w1).1 q))) (cW (vAu v1 (wH w1).1 q) dT (xB x) (hAdd (wH w1) cl)) ce sl := h
  rw [cW_add (v := v1) (fun i hi => ⟨(a1.2.1 i hi).symm, (cC_agr a1 (hw.2.2.1 i hi)).symm⟩), hq, hc, ← cL_agr a2 I.2.2.2.1, ← cS_agr a2 hst, hH, ← cW_agr ha I.2.2.1.2.2.1] at h
  exact h
theorem dfV_cv (u : VL) (ty : FieldType) (h : fK ty ≤ 3) : cv u (dfV (fK ty)) = defaultValue ty := by
  cases ty with
  | int => rfl
  | boolean => rfl
  | long => rfl
  | object n => rfl
  | array t => rfl
  | _ => exact absurd h (by decide)
theorem dfl_cv (u : VL) {ci : Nat} (hk : ∀ f, f < (nCl ci).2.1 → nKd ci f ≤ 3) : ∀ j, j < (nCl ci).2.1 → defaultValue ((nCl ci).2.2.2 j) = vp_V ((dfl ci).map (cv u)) j := by
  intro j hj
  unfold vp_V dfl
  rw [List.map_map, List.getD_eq_getElem?_getD, List.getElem?_map, List.getElem?_range hj]
  exact (dfV_cv u _ (hk j hj)).symm
theorem dfl_sc (ci : Nat) : ∀ a ∈ dfl ci, scV w a := by
  intro a ha
  obtain ⟨f, -, rfl⟩ := List.mem_map.mp ha
  unfold dfV
  split
  · trivial
  · split <;> trivial
theorem g_new (C : kx_ok k) (R : rmX k x mn) {idx ci : Nat} (hc : cl_ok ci (nCl ci).2.1 (nCl ci).1 (nCl ci).2.2.1 (nCl ci).2.2.2) (hk : ∀ f, f < (nCl ci).2.1 → nKd ci f ≤ 3) (h1 : Cond.classLink (kOwn k) idx (nCl ci).1 ∈ gT) (h2 : Cond.instantiable (nCl ci).1 (nCl ci).2.1 ∈ gT) (h3 : Cond.initialized (nCl ci).1 ∈ gT) (d : decode (kCc k) (sPc s) = .ok (.new idx, 3)) (so : SO k x mn c dT w0 v0 Rs (oNew s (xM x mn) ci)) : GS k x mn c dT w0 v0 s := fun v I => by
  obtain ⟨h4, so1⟩ := so_if so
  simp only [Bool.and_eq_true] at h4
  have a1 := Nat.le_of_ble_eq_true h4.1
  have a2 := Nat.le_of_ble_eq_true h4.2
  have g := SO_one (t := (sPc s + 3, sLv s, aR (some (wH (sW s)).1) :: sSt s, wHp (sW s) (hAdd (wH (sW s)) (.inr (ci, dfl ci))), sLp s, sC s + 1, sS s + (nCl ci).2.1)) so1
  refine w_new C hc h1 h2 h3 (dfl_cv v hk) (by rw [R.2.2.1]; exact a1) (by rw [R.2.2.2]; exact a2) d (fun q => ?_)
  refine gs_add (w1 := sW s) (v1 := v) g I (wle_rf _) rfl (agr_rf _ _) I.2.2.1 (dfl_sc ci) trivial ?_ I.2.2.2.2.1
  show Sum.inr (ci, (dfl ci).map _) = Sum.inr (ci, (dfl ci).map _)
  rw [List.map_congr_left (fun a ha => cv_agr (w := sW s) (agr_sy (agr_vAu q)) (dfl_sc ci a ha))]
theorem nat_of {z : Int} (h0 : 0 ≤ z) (h1 : z ≤ 100000) : ¬ Int32.ofInt z < 0 ∧ (Int32.ofInt z).toNatClampNeg = z.toNat := by
  have hz : inI z = true := z_inI (by omega) (by omega)
  constructor
  · rw [Int32.lt_iff_toInt_lt, z_in hz]
    have : (0 : Int32).toInt = 0 := rfl
    omega
  · show (Int32.ofInt z).toInt.toNat = _
    rw [z_in hz]
theorem nwa_ok {t : Nat} (so : SO k x mn c dT w0 v0 Rs (oNwa s (xM x mn) t)) : ∃ z r, sSt s = aI z :: r ∧ 0 ≤ z ∧ z ≤ 100000 ∧ sC s + 1 ≤ mCe (xM x mn) ∧ sS s + z.toNat ≤ mSl (xM x mn) ∧ GS k x mn c dT w0 v0 (sPc s + 2, sLv s, aR (some (wH (wA1 (sW s))).1) :: r, wHp (wA1 (sW s)) (hAdd (wH (wA1 (sW s))) (.inl (t, z.toNat, if Nat.beq t 1 then .inl (List.replicate z.toNat (aJ 0)) else .inr (0, 0, wA (sW s))))), sLp s, sC s + 1, sS s + z.toNat) := by
  obtain ⟨pc, lv, st, w, lp, ce, sl⟩ := s
  cases st with
  | nil => exact SO_no so
  | cons a r =>
    rcases a with z | j | m | j | o | j
    · obtain ⟨h, so1⟩ := so_if (b := decide (0 ≤ z) && decide (z ≤ 100000) && Nat.ble (ce + 1) (mCe (xM x mn)) && Nat.ble (sl + z.toNat) (mSl (xM x mn))) so
      simp only [Bool.and_eq_true, decide_eq_true_eq] at h
      exact ⟨z, r, rfl, h.1.1.1, h.1.1.2, Nat.le_of_ble_eq_true h.1.2, Nat.le_of_ble_eq_true h.2, SO_one so1⟩
    all_goals exact SO_no so
theorem g_newI (C : kx_ok k) (R : rmX k x mn) (T : tyX k dT) (harr : Cond.arrayClass .int ∈ gT) (d : decode (kCc k) (sPc s) = .ok (.newarray .int, 2)) (so : SO k x mn c dT w0 v0 Rs (oNwa s (xM x mn) 0)) : GS k x mn c dT w0 v0 s := fun v I => by
  obtain ⟨z, r, e, z0, z1, a1, a2, g⟩ := nwa_ok so
  obtain ⟨n1, n2⟩ := nat_of z0 z1
  have hst := I.2.2.2.2.1
  rw [e] at hst ⊢
  refine w_newa C (N := z.toNat) (a0 := (z.toNat, .inl (fun _ => 0))) harr rfl (fun _ h => by cases h) (T 0) (vp_cell_i _ _ _) (fun c => vp_cell_i _ _ _) n1 n2 (by show z.toNat * 4 ≤ _; omega) (by rw [R.2.2.1]; exact a1) (by rw [R.2.2.2]; exact a2) d (fun q => ?_)
  refine gs_add (w1 := wA1 (sW s)) (v1 := vCu v (wA (sW s)) (fun _ => 0) (fun _ => 0)) g I wle_A1 rfl (agr_vCu _ _) (okW_A1 I.2.2.1 _ _) (Nat.lt_succ_self _) (fun _ j _ => ?_) ?_ (sc_tl hst)
  · show (0 : Int) ≤ (vC (vCu v (wA (sW s)) _ _) (wA (sW s)) j).toInt ∧ (vC (vCu v (wA (sW s)) _ _) (wA (sW s)) j).toInt ≤ 0
    rw [vCu_C]
    decide
  · show Sum.inl (dT 0, z.toNat, Sum.inl (fun j => if j < z.toNat then vC (vCu v (wA (sW s)) _ _) (wA (sW s)) j else 0)) = _
    rw [vCu_C]
    refine congrArg (fun f => Sum.inl (dT 0, z.toNat, Sum.inl f)) (funext fun j => ?_)
    split <;> rfl
theorem g_newZ (C : kx_ok k) (R : rmX k x mn) (T : tyX k dT) (harr : Cond.arrayClass .boolean ∈ gT) (d : decode (kCc k) (sPc s) = .ok (.newarray .boolean, 2)) (so : SO k x mn c dT w0 v0 Rs (oNwa s (xM x mn) 2)) : GS k x mn c dT w0 v0 s := fun v I => by
  obtain ⟨z, r, e, z0, z1, a1, a2, g⟩ := nwa_ok so
  obtain ⟨n1, n2⟩ := nat_of z0 z1
  have hst := I.2.2.2.2.1
  rw [e] at hst ⊢
  refine w_newa C (N := z.toNat) (a0 := (z.toNat, .inl (fun _ => 0))) harr rfl (fun _ h => by cases h) (T 2) (vp_cell_i _ _ _) (fun c => vp_cell_i _ _ _) n1 n2 (by show z.toNat * 1 ≤ _; omega) (by rw [R.2.2.1]; exact a1) (by rw [R.2.2.2]; exact a2) d (fun q => ?_)
  refine gs_add (w1 := wA1 (sW s)) (v1 := vCu v (wA (sW s)) (fun _ => 0) (fun _ => 0)) g I wle_A1 rfl (agr_vCu _ _) (okW_A1 I.2.2.1 _ _) (Nat.lt_succ_self _) (fun _ j _ => ?_) ?_ (sc_tl hst)
  · show (0 : Int) ≤ (vC (vCu v (wA (sW s)) _ _) (wA (sW s)) j).toInt ∧ (vC (vCu v (wA (sW s)) _ _) (wA (sW s)) j).toInt ≤ 0
    rw [vCu_C]
    decide
  · show Sum.inl (dT 2, z.toNat, Sum.inl (fun j => if j < z.toNat then vC (vCu v (wA (sW s)) _ _) (wA (sW s)) j else 0)) = _
    rw [vCu_C]
    refine congrArg (fun f => Sum.inl (dT 2, z.toNat, Sum.inl f)) (funext fun j => ?_)
    split <;> rfl
theorem g_newL (C : kx_ok k) (R : rmX k x mn) (T : tyX k dT) (harr : Cond.arrayClass .long ∈ gT) (d : decode (kCc k) (sPc s) = .ok (.newarray .long, 2)) (so : SO k x mn c dT w0 v0 Rs (oNwa s (xM x mn) 1)) : GS k x mn c dT w0 v0 s := fun v I => by
  obtain ⟨z, r, e, z0, z1, a1, a2, g⟩ := nwa_ok so
  obtain ⟨n1, n2⟩ := nat_of z0 z1
  have hst := I.2.2.2.2.1
  rw [e] at hst ⊢
  refine w_newa C (N := z.toNat) (a0 := (z.toNat, .inr (.inl (fun _ => 0)))) harr rfl (fun _ h => by cases h) (T 1) (vp_cell_l _ _ _) (fun c => vp_cell_l _ _ _) n1 n2 (by show z.toNat * 8 ≤ _; omega) (by rw [R.2.2.1]; exact a1) (by rw [R.2.2.2]; exact a2) d (fun q => ?_)
  refine gs_add (w1 := wA1 (sW s)) (v1 := vCu v (wA (sW s)) (fun _ => 0) (fun _ => 0)) g I wle_A1 rfl (agr_vCu _ _) (okW_A1 I.2.2.1 _ _) (fun a ha => by rw [(List.mem_replicate.mp ha).2]; trivial) trivial ?_ (sc_tl hst)
  show Sum.inl (dT 1, z.toNat, Sum.inr (Sum.inl (fun j => if j < z.toNat then cQ _ ((List.replicate z.toNat (aJ 0)).getD j (aJ 0)) else 0))) = _
  refine congrArg (fun f => Sum.inl (dT 1, z.toNat, Sum.inr (Sum.inl f))) (funext fun j => ?_)
  split
  · rename_i hj
    rw [List.getD_eq_getElem?_getD, List.getElem?_replicate, if_pos hj]
    rfl
  · rfl
theorem g_newq (C : kx_ok k) (R : rmX k x mn) (T : tyX k dT) {idx : Nat} (hcl : Cond.classLink (kOwn k) idx RX0 ∈ gT) (hov : va_AO RX0 (kS k)) (d : decode (kCc k) (sPc s) = .ok (.anewarray idx, 3)) (so : SO k x mn c dT w0 v0 Rs (oNwq s (xM x mn))) : GS k x mn c dT w0 v0 s := fun v I => by
  obtain ⟨pc, lv, st, w, lp, ce, sl⟩ := s
  cases st with
  | nil => exact SO_no so
  | cons a r =>
    rcases a with z | j | m | j | o | j
    · obtain ⟨h, so1⟩ := so_if (b := decide (0 ≤ z) && decide (z ≤ 100000) && Nat.ble (ce + 1) (mCe (xM x mn)) && Nat.ble (sl + z.toNat) (mSl (xM x mn))) so
      simp only [Bool.and_eq_true, decide_eq_true_eq] at h
      obtain ⟨n1, n2⟩ := nat_of h.1.1.1 h.1.1.2
      have g := SO_one (t := (pc + 3, lv, aR (some (wH w).1) :: r, wHp w (hAdd (wH w) (.inl (5, z.toNat, .inl (List.replicate z.toNat (aR none))))), lp, ce + 1, sl + z.toNat)) so1
      refine w_newq C (N := z.toNat) hcl hov (T 5) n1 n2 (by have := h.1.1.2; omega) (by rw [R.2.2.1]; exact Nat.le_of_ble_eq_true h.1.2) (by rw [R.2.2.2]; exact Nat.le_of_ble_eq_true h.2) d (fun q => ?_)
      refine gs_add (s := (pc, lv, aI z :: r, w, lp, ce, sl)) (w1 := w) (v1 := v) g I (wle_rf _) rfl (agr_rf _ _) I.2.2.1 (fun a ha => by rw [(List.mem_replicate.mp ha).2]; trivial) trivial ?_ (sc_tl I.2.2.2.2.1)
      show Sum.inl (dT 5, z.toNat, Sum.inr (Sum.inr (Sum.inr (Sum.inr (fun j => if j < z.toNat then cR _ ((List.replicate z.toNat (aR none)).getD j (aR none)) else none))))) = _
      refine congrArg (fun f => Sum.inl (dT 5, z.toNat, Sum.inr (Sum.inr (Sum.inr (Sum.inr f))))) (funext fun j => ?_)
      split
      · rename_i hj
        rw [List.getD_eq_getElem?_getD, List.getElem?_replicate, if_pos hj]
        rfl
      · rfl
    all_goals exact SO_no so
end ST8
