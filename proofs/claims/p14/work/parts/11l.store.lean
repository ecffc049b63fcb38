/-! Steps: stores and puts -/
section ST6
variable {k : kx_T} {x : ACx} {mn c : Nat} {dT : Nat → ClassId} {w0 : AW} {v0 : VL} {s : AS} {v : VL} {Rs : List AR}
theorem aNm_isL (E : AE) (a : AV) : aIsL (aNm E a) = aIsL a := by
  rcases aNm_or E a with e | ⟨z, k, e, e2⟩
  · rw [e]
  · rw [e, e2]
    rfl
theorem aNm_cQ {E : AE} (h : okE v E) (a : AV) : cQ v (aNm E a) = cQ v a := by rw [cQ_cv, aNm_cv h, ← cQ_cv]
def bl01 (E : AE) (a : AV) : Bool := match aBd E a with | some (l, h) => decide (0 ≤ l) && decide (h ≤ 1) | none => false
theorem bl01_ok {E : AE} (hE : okE v E) {a : AV} (h : bl01 E a = true) : 0 ≤ (cZ v a).toInt ∧ (cZ v a).toInt ≤ 1 := by
  unfold bl01 at h
  cases hb : aBd E a with
  | none => rw [hb] at h; cases h
  | some p =>
    rw [hb] at h
    simp only [Bool.and_eq_true, decide_eq_true_eq] at h
    have := aBd_ok hE hb
    omega
theorem z01 {y : Int32} (h0 : 0 ≤ y.toInt) (h1 : y.toInt ≤ 1) : y = 0 ∨ y = 1 := by
  by_cases e : y.toInt = 0
  · exact Or.inl (Int32.toInt_inj.1 e)
  · exact Or.inr (Int32.toInt_inj.1 (show y.toInt = (1 : Int32).toInt by show y.toInt = 1; omega))
theorem st_ok {t : Nat} (so : SO k x mn c dT w0 v0 Rs (oSt (xB x) s t)) (I : Inv k x mn c dT w0 v0 s v) : ∃ a i id r n b, sSt s = a :: i :: aR (some id) :: r ∧ id < (wH (sW s)).1 ∧ hGet (xB x) (wH (sW s)) id = .inl (t, n, b) ∧ (if Nat.beq t 1 then aIsL (aNm (wE (sW s)) a) else aIsI (aNm (wE (sW s)) a)) = true ∧ (if Nat.beq t 2 then bl01 (wE (sW s)) (aNm (wE (sW s)) a) else true) = true ∧
    (WS k (sPc s) (cL v (sLv s)) ((sSt s).map (cv v)) (cW v dT (xB x) (wH (sW s))) (sC s) (sS s) ∨ ∃ w1 b', arSet (sW s) n b (Nat.beq t 1) (aNm (wE (sW s)) i) (aNm (wE (sW s)) a) = some (some (w1, b')) ∧ GS k x mn c dT w0 v0 (sGoW s (sPc s + 1) r (wHp w1 (hSet (wH w1) id (.inl (t, n, b')))))) := by
  obtain ⟨pc, lv, st, w, lp, ce, sl⟩ := s
  cases st with
  | nil => exact SO_no so
  | cons a st =>
    cases st with
    | nil => exact SO_no so
    | cons i st =>
      cases st with
      | nil => exact SO_no so
      | cons o r =>
        rcases o with z | j | m | j | o | j
        · exact SO_no so
        · exact SO_no so
        · exact SO_no so
        · exact SO_no so
        · cases o with
          | none => exact SO_no so
          | some id =>
            obtain ⟨h1, so1⟩ := so_if (b := Nat.blt id (wH w).1) so
            clear so
            cases hg : hGet (xB x) (wH w) id with
            | inr o =>
              simp only [hg] at so1
              exact SO_no so1
            | inl o =>
              obtain ⟨t', n, b⟩ := o
              simp only [hg] at so1
              obtain ⟨h2, so2⟩ := so_if (b := Nat.beq t' t && (if Nat.beq t 1 then aIsL (aNm (wE w) a) else aIsI (aNm (wE w) a))) so1
              clear so1
              simp only [Bool.and_eq_true] at h2
              have h20 := Nat.eq_of_beq_eq_true h2.1
              subst h20
              obtain ⟨h3, so3⟩ := so_if (b := if Nat.beq t' 2 then bl01 (wE w) (aNm (wE w) a) else true) so2
              clear so2
              refine ⟨a, i, id, r, n, b, rfl, Nat.blt_eq.mp h1, hg, h2.2, h3, ?_⟩
              cases ha : arSet w n b (Nat.beq t' 1) (aNm (wE w) i) (aNm (wE w) a) with
              | none =>
                simp only [ha] at so3
                exact SO_no so3
              | some o =>
                cases o with
                | none =>
                  simp only [ha] at so3
                  exact Or.inl (spl_all (s := (pc, lv, a :: i :: aR (some id) :: r, w, lp, ce, sl)) so3 I)
                | some q =>
                  obtain ⟨w1, b'⟩ := q
                  simp only [ha] at so3
                  exact Or.inr ⟨w1, b', rfl, SO_one so3⟩
        · exact SO_no so
theorem g_iastore (C : kx_ok k) (T : tyX k dT) (d : decode (kCc k) (sPc s) = .ok (.iastore, 1)) (so : SO k x mn c dT w0 v0 Rs (oSt (xB x) s 0)) : GS k x mn c dT w0 v0 s := fun v I => by
  obtain ⟨a, i, id, r, n, b, e, hid, hg, h1, -, h⟩ := st_ok so I
  rcases h with h | ⟨w1, b', h2, h3⟩
  · exact h
  · have hst := I.2.2.2.2.1
    rw [e] at hst
    have hE := I.2.2.1.1
    replace h1 : aIsI (aNm (wE (sW s)) a) = true := h1
    obtain ⟨f1, f2, f3, f4, v', f5, f6, f7, f8, f9⟩ := arSetI h2 hid hg (Or.inl rfl) h1 I.2.2.1 (aNm_sc (sc_hd hst))
    have g := gs_set (e := .inl (dT 0, n, .inl (upd (fun j => if j < n then cBz v b j else 0) (cZ v i).toNatClampNeg (cZ v a)))) h3 I f1 f2 f5 f6 hid f7 f8 (by show Sum.inl (dT 0, n, cB v' 0 n b') = _; rw [f9, aNm_cZ hE, aNm_cZ hE]) (sc_tl (sc_tl (sc_tl hst)))
    rw [aNm_isI] at h1 f3
    rw [aNm_cZ hE] at f4
    rw [e, List.map_cons, List.map_cons, List.map_cons, cv_int h1, cv_int f3]
    exact w_iast C id (cW_cell hid hg) (T 0) f4 d g
theorem g_bastore (C : kx_ok k) (T : tyX k dT) (d : decode (kCc k) (sPc s) = .ok (.bastore, 1)) (so : SO k x mn c dT w0 v0 Rs (oSt (xB x) s 2)) : GS k x mn c dT w0 v0 s := fun v I => by
  obtain ⟨a, i, id, r, n, b, e, hid, hg, h1, h10, h⟩ := st_ok so I
  rcases h with h | ⟨w1, b', h2, h3⟩
  · exact h
  · have hst := I.2.2.2.2.1
    rw [e] at hst
    have hE := I.2.2.1.1
    replace h1 : aIsI (aNm (wE (sW s)) a) = true := h1
    have hb := bl01_ok hE (a := aNm (wE (sW s)) a) h10
    rw [aNm_cZ hE] at hb
    have hn : vp_nar .boolean (cZ v a) = cZ v a := by
      rcases z01 hb.1 hb.2 with q | q <;> rw [q] <;> rfl
    obtain ⟨f1, f2, f3, f4, v', f5, f6, f7, f8, f9⟩ := arSetI h2 hid hg (Or.inr rfl) h1 I.2.2.1 (aNm_sc (sc_hd hst))
    have g := gs_set (e := .inl (dT 2, n, .inl (upd (fun j => if j < n then cBz v b j else 0) (cZ v i).toNatClampNeg (cZ v a)))) h3 I f1 f2 f5 f6 hid f7 f8 (by show Sum.inl (dT 2, n, cB v' 2 n b') = _; rw [f9, aNm_cZ hE, aNm_cZ hE]) (sc_tl (sc_tl (sc_tl hst)))
    rw [aNm_isI] at h1 f3
    rw [aNm_cZ hE] at f4
    rw [e, List.map_cons, List.map_cons, List.map_cons, cv_int h1, cv_int f3]
    exact w_zast C id (cW_cell hid hg) (T 2) f4 d (by rw [hn]; exact g)
theorem g_lastore (C : kx_ok k) (T : tyX k dT) (d : decode (kCc k) (sPc s) = .ok (.lastore, 1)) (so : SO k x mn c dT w0 v0 Rs (oSt (xB x) s 1)) : GS k x mn c dT w0 v0 s := fun v I => by
  obtain ⟨a, i, id, r, n, b, e, hid, hg, h1, -, h⟩ := st_ok so I
  rcases h with h | ⟨w1, b', h2, h3⟩
  · exact h
  · have hst := I.2.2.2.2.1
    rw [e] at hst
    have hE := I.2.2.1.1
    replace h1 : aIsL (aNm (wE (sW s)) a) = true := h1
    obtain ⟨f1, f2, f3, f4, v', f5, f6, f7, f8, f9⟩ := arSetL h2 hid hg I.2.2.1 (aNm_sc (sc_hd hst))
    have g := gs_set (e := .inl (dT 1, n, .inr (.inl (vp_updL (fun j => if j < n then cBq v b j else 0) (cZ v i).toNatClampNeg (cQ v a))))) h3 I f1 f2 f5 f6 hid f7 f8 (by show Sum.inl (dT 1, n, cB v' 1 n b') = _; rw [f9, aNm_cZ hE, aNm_cQ hE]) (sc_tl (sc_tl (sc_tl hst)))
    rw [aNm_isL] at h1
    rw [aNm_isI] at f3
    rw [aNm_cZ hE] at f4
    rw [e, List.map_cons, List.map_cons, List.map_cons, cv_long h1, cv_int f3]
    exact w_last C id (cW_cell hid hg) (T 1) f4 d g
/-- a value that fits its field -/
theorem fit_ok {E : AE} (hE : okE v E) {a : AV} {ty : FieldType} (h : fitK E (fK ty) a = true) : narrow ty (cv v a) = cv v a ∧ fits ty (cv v a) = true := by
  cases ty with
  | int => rw [cv_int h]; exact ⟨rfl, rfl⟩
  | boolean =>
    replace h : (aIsI a && bl01 E a) = true := h
    simp only [Bool.and_eq_true] at h
    rw [cv_int h.1]
    rcases z01 (bl01_ok hE h.2).1 (bl01_ok hE h.2).2 with q | q <;> rw [q] <;> exact ⟨rfl, rfl⟩
  | long => rw [cv_long h]; exact ⟨rfl, rfl⟩
  | object n => rw [cv_ref h]; cases cR v a <;> exact ⟨rfl, rfl⟩
  | array t => rw [cv_ref h]; cases cR v a <;> exact ⟨rfl, rfl⟩
  | _ => cases h
theorem g_put (C : kx_ok k) {idx ci f : Nat} (hc : cl_ok ci (nCl ci).2.1 (nCl ci).1 (nCl ci).2.2.1 (nCl ci).2.2.2) (hl : Cond.fieldLink (kOwn k) idx ((nCl ci).2.2.1 f).1 ((nCl ci).2.2.1 f).2.1 ((nCl ci).2.2.1 f).2.2.1 ∈ gT)
    (hfin : ((nCl ci).2.2.1 f).2.2.2 = false ∨ (((nCl ci).2.2.1 f).2.2.2 = true ∧ (kMe k).name = "<init>" ∧ ((nCl ci).2.2.1 f).1 = kOwn k)) (d : decode (kCc k) (sPc s) = .ok (.putfield idx, 3)) (so : SO k x mn c dT w0 v0 Rs (oPut x s ci f)) : GS k x mn c dT w0 v0 s := fun v I => by
  obtain ⟨pc, lv, st, w, lp, ce, sl⟩ := s
  cases st with
  | nil => exact SO_no so
  | cons a st =>
    cases st with
    | nil => exact SO_no so
    | cons o r =>
      rcases o with z | j | m | j | o | j
      · exact SO_no so
      · exact SO_no so
      · exact SO_no so
      · exact SO_no so
      · cases o with
        | none => exact SO_no so
        | some id =>
          obtain ⟨h1, so1⟩ := so_if (b := Nat.blt id (wH w).1 && fitK (wE w) (nKd ci f) a) so
          clear so
          simp only [Bool.and_eq_true] at h1
          have hid := Nat.blt_eq.mp h1.1
          cases hg : hGet (xB x) (wH w) id with
          | inl o =>
            simp only [hg] at so1
            exact SO_no so1
          | inr o =>
            obtain ⟨ci', fs⟩ := o
            simp only [hg] at so1
            obtain ⟨h2, so2⟩ := so_if (b := Nat.beq ci' ci && Nat.blt f fs.length && Nat.blt f (nCl ci).2.1) so1
            clear so1
            simp only [Bool.and_eq_true] at h2
            have h20 := Nat.eq_of_beq_eq_true h2.1.1
            subst h20
            have hE : okE v (wE w) := I.2.2.1.1
            obtain ⟨n1, n2⟩ := fit_ok hE h1.2
            have hst := I.2.2.2.2.1
            have hsc := I.2.2.1.2.2.1 id hid
            rw [hg] at hsc
            have g := gs_set (s := (pc, lv, a :: aR (some id) :: r, w, lp, ce, sl)) (w1 := w) (v' := v) (e := .inr (ci', (fs.map (cv v)).set f (cv v a))) (SO_one so2) I (wle_rf _) rfl (agr_rf _ _) I.2.2.1 hid (sc_set hsc (aNm_sc (sc_hd hst))) trivial (by show Sum.inr (ci', (fs.set f _).map (cv v)) = _; rw [List.map_set, aNm_cv hE]) (sc_tl (sc_tl hst))
            exact w_put C id hc (cW_cell hid hg) (Nat.blt_eq.mp h2.2) hl n1 n2 (by rw [List.length_map]; exact Nat.blt_eq.mp h2.1.2) hfin d g
      · exact SO_no so
end ST6
