/-! Steps: switches, rows of objects, plain jumps -/
section ST7
variable {k : kx_T} {x : ACx} {mn c : Nat} {dT : Nat → ClassId} {w0 : AW} {v0 : VL} {s : AS} {v : VL} {Rs : List AR}
theorem tgt_nn {o : Int} (h : 0 ≤ (sPc s : Int) + o) : (sPc s : Int) + o = (tgt s o : Int) := by
  show _ = ((((sPc s : Int) + o).toNat : Nat) : Int)
  omega
theorem g_goto0 (C : kx_ok k) {o : Int} (d : decode (kCc k) (sPc s) = .ok (.goto o, 3)) (ht : (sPc s : Int) + o = (tgt s o : Int)) (lp : List ALp) (hlp : ∀ p ∈ lp, p ∈ sLp s) (g : GS k x mn c dT w0 v0 (tgt s o, sLv s, sSt s, sW s, lp, sC s, sS s)) : GS k x mn c dT w0 v0 s := fun v I =>
  w_goto C d ht (g v (Inv_go I (wle_rf _) (agr_rf _ _) I.2.2.1 I.2.2.2.1 I.2.2.2.2.1 I.2.2.2.2.2.1 hlp))
theorem g_switch (C : kx_ok k) {dflt lo hi : Int} {offs : Array Int} {len : Nat} (d : decode (kCc k) (sPc s) = .ok (.tableswitch dflt lo hi offs, len)) (hd : 0 ≤ (sPc s : Int) + dflt) (ho : ∀ (j : Nat) (o : Int), offs[j]? = some o → 0 ≤ (sPc s : Int) + o) (so : SO k x mn c dT w0 v0 Rs (oSw s dflt lo hi offs)) : GS k x mn c dT w0 v0 s := fun v I => by
  obtain ⟨pc, lv, st, w, lp, ce, sl⟩ := s
  cases st with
  | nil => exact SO_no so
  | cons a r =>
    have hr : scL w r := sc_tl I.2.2.2.2.1
    have hE : okE v (wE w) := I.2.2.1.1
    rcases a with z | j | m | j | o | j
    · obtain ⟨h1, so1⟩ := so_if (b := inI z) so
      clear so
      by_cases hz : (decide (z < lo) || decide (hi < z)) = true
      · rw [if_pos hz] at so1
        simp only [Bool.or_eq_true, decide_eq_true_eq] at hz
        exact w_tabOut C d (by rw [z_in h1]; exact hz) (tgt_nn (s := (pc, lv, aI z :: r, w, lp, ce, sl)) hd) (gs_same (s := (pc, lv, aI z :: r, w, lp, ce, sl)) (SO_one so1) I hr)
      · rw [if_neg hz] at so1
        simp only [Bool.or_eq_true, decide_eq_true_eq, not_or] at hz
        cases hoff : offs[(z - lo).toNat]? with
        | none => simp only [hoff] at so1; exact SO_no so1
        | some o =>
          simp only [hoff] at so1
          exact w_tabIn C d (by rw [z_in h1]; exact hz.1) (by rw [z_in h1]; exact hz.2) (by rw [z_in h1]; exact hoff) (tgt_nn (s := (pc, lv, aI z :: r, w, lp, ce, sl)) (ho _ _ hoff)) (gs_same (s := (pc, lv, aI z :: r, w, lp, ce, sl)) (SO_one so1) I hr)
    · cases he : (wE w)[j]? with
      | none =>
        replace so : SO k x mn c dT w0 v0 Rs (match (wE w)[j]? with
          | some b => some (((List.range (hi - lo + 1).toNat).flatMap (fun (i : Nat) => if (decide (b.1 ≤ lo + (i : Int)) && decide (lo + (i : Int) ≤ b.2.1)) = true then [sGoW (pc, lv, aS j :: r, w, lp, ce, sl) pc (aS j :: r) (wEnv w (eSet (wE w) j (lo + (i : Int)) (lo + (i : Int))))] else [])).map (fun t => sGoW t (sPc t) (aNm (wE (sW t)) (aS j) :: r) (sW t)) ++ ((if b.1 < lo then [sGoW (pc, lv, aS j :: r, w, lp, ce, sl) ((pc : Int) + dflt).toNat r (wEnv w (eSet (wE w) j b.1 (min b.2.1 (lo - 1))))] else []) ++ (if hi < b.2.1 then [sGoW (pc, lv, aS j :: r, w, lp, ce, sl) ((pc : Int) + dflt).toNat r (wEnv w (eSet (wE w) j (max b.1 (hi + 1)) b.2.1))] else [])), [])
          | none => none) := so
        rw [he] at so
        exact SO_no so
      | some b =>
        replace so : SO k x mn c dT w0 v0 Rs (match (wE w)[j]? with
          | some b => some (((List.range (hi - lo + 1).toNat).flatMap (fun (i : Nat) => if (decide (b.1 ≤ lo + (i : Int)) && decide (lo + (i : Int) ≤ b.2.1)) = true then [sGoW (pc, lv, aS j :: r, w, lp, ce, sl) pc (aS j :: r) (wEnv w (eSet (wE w) j (lo + (i : Int)) (lo + (i : Int))))] else [])).map (fun t => sGoW t (sPc t) (aNm (wE (sW t)) (aS j) :: r) (sW t)) ++ ((if b.1 < lo then [sGoW (pc, lv, aS j :: r, w, lp, ce, sl) ((pc : Int) + dflt).toNat r (wEnv w (eSet (wE w) j b.1 (min b.2.1 (lo - 1))))] else []) ++ (if hi < b.2.1 then [sGoW (pc, lv, aS j :: r, w, lp, ce, sl) ((pc : Int) + dflt).toNat r (wEnv w (eSet (wE w) j (max b.1 (hi + 1)) b.2.1))] else [])), [])
          | none => none) := so
        rw [he] at so
        obtain ⟨ss, rs, e, g, -⟩ := so
        cases e
        have q := hE j b he
        by_cases c1 : (vI v j).toInt < lo
        · obtain ⟨n1, o1⟩ := eSet_ok (lo := b.1) (hi := min b.2.1 (lo - 1)) hE he q.1 (by omega)
          obtain ⟨q1, q2⟩ := okW_nar I.2.2.1 n1 o1
          refine w_tabOut C d (Or.inl c1) (tgt_nn (s := (pc, lv, aS j :: r, w, lp, ce, sl)) hd) (gs_go (s := (pc, lv, aS j :: r, w, lp, ce, sl)) (g (sGoW (pc, lv, aS j :: r, w, lp, ce, sl) ((pc : Int) + dflt).toNat r (wEnv w (eSet (wE w) j b.1 (min b.2.1 (lo - 1))))) ?_) I q2 rfl (agr_rf _ _) q1 (scL_mono q2 hr) rfl)
          refine List.mem_append_right _ (List.mem_append_left _ ?_)
          rw [if_pos (by omega)]
          exact List.mem_cons_self
        · by_cases c2 : hi < (vI v j).toInt
          · obtain ⟨n1, o1⟩ := eSet_ok (lo := max b.1 (hi + 1)) (hi := b.2.1) hE he (by omega) q.2.1
            obtain ⟨q1, q2⟩ := okW_nar I.2.2.1 n1 o1
            refine w_tabOut C d (Or.inr c2) (tgt_nn (s := (pc, lv, aS j :: r, w, lp, ce, sl)) hd) (gs_go (s := (pc, lv, aS j :: r, w, lp, ce, sl)) (g (sGoW (pc, lv, aS j :: r, w, lp, ce, sl) ((pc : Int) + dflt).toNat r (wEnv w (eSet (wE w) j (max b.1 (hi + 1)) b.2.1))) ?_) I q2 rfl (agr_rf _ _) q1 (scL_mono q2 hr) rfl)
            refine List.mem_append_right _ (List.mem_append_right _ ?_)
            rw [if_pos (by omega)]
            exact List.mem_cons_self
          · have hz : lo + ((((vI v j).toInt - lo).toNat : Nat) : Int) = (vI v j).toInt := by omega
            obtain ⟨n1, o1⟩ := eSet_ok (lo := (vI v j).toInt) (hi := (vI v j).toInt) hE he (Int.le_refl _) (Int.le_refl _)
            obtain ⟨q1, q2⟩ := okW_nar I.2.2.1 n1 o1
            refine gs_go (s := (pc, lv, aS j :: r, w, lp, ce, sl)) (pc := pc) (st := aNm (eSet (wE w) j (vI v j).toInt (vI v j).toInt) (aS j) :: r) (w := wEnv w (eSet (wE w) j (vI v j).toInt (vI v j).toInt)) (g _ ?_) I q2 rfl (agr_rf _ _) q1 (sc_cons (aNm_sc (scV_mono q2 (sc_hd I.2.2.2.2.1))) (scL_mono q2 hr)) ?_
            · refine List.mem_append_left _ (List.mem_map.mpr ⟨sGoW (pc, lv, aS j :: r, w, lp, ce, sl) pc (aS j :: r) (wEnv w (eSet (wE w) j (vI v j).toInt (vI v j).toInt)), List.mem_flatMap.mpr ⟨((vI v j).toInt - lo).toNat, List.mem_range.mpr (by omega), ?_⟩, rfl⟩)
              rw [hz, if_pos (by simp only [Bool.and_eq_true, decide_eq_true_eq]; exact ⟨q.1, q.2.1⟩)]
              exact List.mem_cons_self
            · rw [List.map_cons, aNm_cv o1]
              rfl
    all_goals exact SO_no so
theorem g_aast (C : kx_ok k) (T : tyX k dT) (hc : cl_ok 0 (nCl 0).2.1 (nCl 0).1 (nCl 0).2.2.1 (nCl 0).2.2.2) (d : decode (kCc k) (sPc s) = .ok (.aastore, 1)) (so : SO k x mn c dT w0 v0 Rs (fAst x (fun _ _ _ _ => none) mn c s)) : GS k x mn c dT w0 v0 s := fun v I => by
  obtain ⟨pc, lv, st, w, lp, ce, sl⟩ := s
  have hE : okE v (wE w) := I.2.2.1.1
  unfold fAst at so
  split at so
  · rename_i y q id r hst
    have hst' : st = aR (some y) :: aI q :: aR (some id) :: r := hst
    subst hst'
    obtain ⟨h1, so1⟩ := so_if so
    clear so hst
    simp only [Bool.and_eq_true] at h1
    have i1 : id < (wH w).1 := Nat.blt_eq.mp h1.1
    have i2 : y < (wH w).1 := Nat.blt_eq.mp h1.2
    split at so1
    · rename_i n l fs hg1 hg2
      obtain ⟨h2, so2⟩ := so_if so1
      simp only [Bool.and_eq_true, decide_eq_true_eq] at h2
      obtain ⟨⟨⟨a1, a2⟩, a3⟩, a4⟩ := h2
      have a4 := Nat.eq_of_beq_eq_true a4
      have hqI : inI q = true := z_inI (by omega) (by omega)
      have hi : (Int32.ofInt q).toNatClampNeg = q.toNat := by
        show (Int32.ofInt q).toInt.toNat = _
        rw [z_in hqI]
      have hin : vp_in (Int32.ofInt q) n := by
        rintro (z | z)
        · rw [Int32.lt_iff_toInt_lt, z_in hqI] at z
          have : (0 : Int32).toInt = 0 := rfl
          omega
        · rw [hi] at z; omega
      have hsc := I.2.2.1.2.2.1 id i1
      replace hg1 : hGet (xB x) (wH w) id = .inl (5, n, .inl l) := hg1
      rw [hg1] at hsc
      have g := gs_set (s := (pc, lv, aR (some y) :: aI q :: aR (some id) :: r, w, lp, ce, sl)) (w1 := w) (v' := v) (e := .inl (dT 5, n, .inr (.inr (.inr (.inr (va_up (fun j => if j < n then cBr v (.inl l) j else none) (Int32.ofInt q).toNatClampNeg (some (vA v y)))))))) (SO_one so2) I (wle_rf _) rfl (agr_rf _ _) I.2.2.1 i1 (sc_set hsc i2) trivial (by
        show Sum.inl (dT 5, n, Sum.inr (Sum.inr (Sum.inr (Sum.inr (fun j => if j < n then cR v ((l.set q.toNat (aR (some y))).getD j (aR none)) else none))))) = _
        refine congrArg (fun f => Sum.inl (dT 5, n, Sum.inr (Sum.inr (Sum.inr (Sum.inr f))))) (funext fun j => ?_)
        show _ = if j = (Int32.ofInt q).toNatClampNeg then some (vA v y) else (if j < n then cR v (l.getD j (aR none)) else none)
        rw [hi, getD_set (by omega)]
        by_cases ej : j = q.toNat
        · rw [if_pos ej, if_pos ej, if_pos (by omega)]
          rfl
        · rw [if_neg ej, if_neg ej]) (sc_tl (sc_tl (sc_tl I.2.2.2.2.1)))
      exact w_aast C id y (cW_cell i1 hg1) (T 5) (cW_cell i2 hg2) hc.1 hin d g
    · exact SO_no so1
  · exact SO_no so
theorem g_objInit (C : kx_ok k) {idx : Nat} (hl : Cond.methodLink (kOwn k) idx Lib.objectInit ∈ gT) (hi : Cond.instanceMethod Lib.objectInit ∈ gT) (hcd : Cond.code Lib.objectInit ⟨#[0xb1]⟩ 1 none ∈ gT) (hF : (kR k).frames = mFr (xM x mn)) (hL : (kR k).locals = mLo (xM x mn)) (d : decode (kCc k) (sPc s) = .ok (.invokespecial idx, 3)) {a b : Nat} (hb : b = 4) (so : SO k x mn c dT w0 v0 Rs (fInvI a b x (fun _ _ _ _ => none) mn c s)) : GS k x mn c dT w0 v0 s := fun v I => by
  subst hb
  obtain ⟨pc, lv, st, w, lp, ce, sl⟩ := s
  cases st with
  | nil => exact SO_no so
  | cons o r =>
    rcases o with z | j | m | j | o | j
    · exact SO_no so
    · exact SO_no so
    · exact SO_no so
    · exact SO_no so
    · cases o with
      | none => exact SO_no so
      | some id =>
        obtain ⟨h1, so1⟩ := so_if (b := Nat.ble 1 (mFr (xM x mn)) && Nat.ble ((r.map aCat).sum + 12) (mLo (xM x mn))) so
        simp only [Bool.and_eq_true] at h1
        refine w_objInit C hl hi hcd d (by rw [hF]; exact Nat.le_of_ble_eq_true h1.1) ?_ (gs_same (s := (pc, lv, aR (some id) :: r, w, lp, ce, sl)) (SO_one so1) I (sc_tl I.2.2.2.2.1))
        have e : ((r.map (cv v)).map fun v => v.category) = r.map aCat := by
          rw [List.map_map]
          exact List.map_congr_left (fun a _ => cv_cat v a)
        rw [hL]
        show (((r.map (cv v)).map fun v => v.category).sum) + 12 ≤ _
        rw [e]
        exact Nat.le_of_ble_eq_true h1.2
    · exact SO_no so
end ST7
