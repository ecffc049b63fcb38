/-! Steps: writing arrays and fields -/
/-- one more symbol for contents -/
abbrev wA1 (w : AW) : AW := (w.1, w.2.1, wL w, wA w + 1, wX w)
def vCu (v : VL) (n : Nat) (f : Nat → Int32) (g : Nat → Int64) : VL := (vI v, vJ v, vA v, vO v, fun k => if k = n then f else vC v k, fun k => if k = n then g else vD v k)
section ST5
variable {k : kx_T} {x : ACx} {mn c : Nat} {dT : Nat → ClassId} {w0 : AW} {v0 : VL} {s : AS} {v : VL} {Rs : List AR} {B : Nat → AC} {w : AW}
theorem wle_A1 : wle w (wA1 w) := ⟨Nat.le_refl _, Nat.le_refl _, Nat.le_refl _, Nat.le_succ _, Nat.le_refl _⟩
theorem agr_vCu (f : Nat → Int32) (g : Nat → Int64) : agr w v (vCu v (wA w) f g) :=
  ⟨fun _ _ => rfl, fun _ _ => rfl, fun _ _ => rfl, fun j hj => by
    constructor
    · show vC v j = if j = _ then f else vC v j
      rw [if_neg (by omega)]
    · show vD v j = if j = _ then g else vD v j
      rw [if_neg (by omega)], fun _ _ => rfl⟩
theorem okW_A1 (h : okW B v w) (f : Nat → Int32) (g : Nat → Int64) : okW B (vCu v (wA w) f g) (wA1 w) := okW_ext h (agr_vCu f g) wle_A1 rfl h.1 h.2.2.2
theorem vCu_C (v : VL) (n : Nat) (f : Nat → Int32) (g : Nat → Int64) : vC (vCu v n f g) n = f := if_pos rfl
theorem vCu_D (v : VL) (n : Nat) (f : Nat → Int32) (g : Nat → Int64) : vD (vCu v n f g) n = g := if_pos rfl
theorem wle_set {id : Nat} {cl : AC} : wle w (wHp w (hSet (wH w) id cl)) := ⟨Nat.le_refl _, Nat.le_refl _, Nat.le_refl _, Nat.le_refl _, Nat.le_refl _⟩
theorem okW_set {id : Nat} {cl : AC} (h : okW B v w) (hs : scC w cl) (ho : okC v cl) : okW B v (wHp w (hSet (wH w) id cl)) := by
  refine ⟨h.1, fun i hi => ?_, fun i hi => ?_, h.2.2.2⟩
  · show okC v (hGet B (hSet (wH w) id cl) i)
    rw [hGet_set]
    split
    · exact ho
    · exact h.2.1 i hi
  · show scC _ (hGet B (hSet (wH w) id cl) i)
    rw [hGet_set]
    split
    · exact scC_mono wle_set hs
    · exact scC_mono wle_set (h.2.2.1 i hi)
/-- a cell written, in a world that has grown -/
theorem gs_set {pc id : Nat} {st : List AV} {w1 : AW} {v' : VL} {cl : AC} {e : va_E} (g : GS k x mn c dT w0 v0 (sGoW s pc st (wHp w1 (hSet (wH w1) id cl)))) (I : Inv k x mn c dT w0 v0 s v) (hl : wle (sW s) w1) (hH : wH w1 = wH (sW s)) (ha : agr (sW s) v v') (hw : okW (xB x) v' w1) (hid : id < (wH (sW s)).1) (hs : scC w1 cl) (ho : okC v' cl) (hc : cC v' dT cl = e) (hst : scL (sW s) st) :
    WS k pc (cL v (sLv s)) (st.map (cv v)) ((cW v dT (xB x) (wH (sW s))).set id (vA v id, e)) (sC s) (sS s) := by
  have hl2 : wle (sW s) (wHp w1 (hSet (wH w1) id cl)) := wle_tr hl wle_set
  have h := g v' (Inv_go I hl2 ha (okW_set hw hs ho) (scO_mono hl2 I.2.2.2.1) (scL_mono hl2 hst) I.2.2.2.2.2.1 (fun p hp => hp))
  replace h : WS k pc (cL v' (sLv s)) (st.map (cv v')) (cW v' dT (xB x) (hSet (wH w1) id cl)) (sC s) (sS s) := h
  rw [cW_set (by rw [hH]; exact hid), hH, ← cW_agr ha I.2.2.1.2.2.1, ← cL_agr ha I.2.2.2.1, ← cS_agr ha hst, hc, ← ha.2.1 id hid] at h
  exact h
theorem getD_set {l : List AV} {z j : Nat} {a d : AV} (h : z < l.length) : (l.set z a).getD j d = if j = z then a else l.getD j d := by
  rw [List.getD_eq_getElem?_getD, List.getD_eq_getElem?_getD, List.getElem?_set]
  by_cases e : z = j
  · subst e
    rw [if_pos rfl, if_pos h, if_pos rfl]
    rfl
  · rw [if_neg e, if_neg (Ne.symm e)]
theorem sc_set {l : List AV} {z : Nat} {a : AV} (hl : ∀ b ∈ l, scV w b) (ha : scV w a) : ∀ b ∈ l.set z a, scV w b := fun b hb => by
  rcases List.mem_or_eq_of_mem_set hb with q | q
  · exact hl b q
  · rw [q]; exact ha
/-- ints written -/
theorem arSetI {id t n : Nat} {b b' : AB} {i a : AV} {w1 : AW} (h : arSet w n b false i a = some (some (w1, b'))) (hid : id < (wH w).1) (hg : hGet B (wH w) id = .inl (t, n, b)) (ht : t = 0 ∨ t = 2) (ha : aIsI a = true) (hv : okW B v w) (hsa : scV w a) :
    wle w w1 ∧ wH w1 = wH w ∧ aIsI i = true ∧ vp_in (cZ v i) n ∧ ∃ v', agr w v v' ∧ okW B v' w1 ∧ scC w1 (.inl (t, n, b')) ∧ okC v' (.inl (t, n, b')) ∧ cB v' t n b' = .inl (upd (fun j => if j < n then cBz v b j else 0) (cZ v i).toNatClampNeg (cZ v a)) := by
  have hsc := hv.2.2.1 id hid
  have hok := hv.2.1 id hid
  rw [hg] at hsc hok
  unfold arSet at h
  cases hb : aBd (wE w) i with
  | none => rw [hb] at h; cases h
  | some p =>
    obtain ⟨lo, hi⟩ := p
    rw [hb] at h
    simp only [] at h
    by_cases hc : (decide (0 ≤ lo) && decide (hi < (n : Int))) = true
    · rw [if_pos hc] at h
      simp only [Bool.and_eq_true, decide_eq_true_eq] at hc
      obtain ⟨p1, p2, -, -⟩ := ix_ok hv.1 hb hc.1 hc.2
      have hiI := aBd_int hb
      have put : ∀ {v' : VL} {f : Nat → Int32}, (∀ j, j < n → cBz v' b' j = upd (cBz v b) (cZ v i).toNatClampNeg (cZ v a) j) → cB v' t n b' = .inl (upd (fun j => if j < n then cBz v b j else 0) (cZ v i).toNatClampNeg (cZ v a)) := by
        intro v' f hj
        have e : cB v' t n b' = .inl (fun j => if j < n then cBz v' b' j else 0) := by rcases ht with e | e <;> subst e <;> rfl
        rw [e]
        refine congrArg Sum.inl (funext fun j => ?_)
        show (if j < n then cBz v' b' j else 0) = if j = (cZ v i).toNatClampNeg then cZ v a else (if j < n then cBz v b j else 0)
        by_cases hjn : j < n
        · rw [if_pos hjn, hj j hjn, if_pos hjn]
          rfl
        · rw [if_neg hjn, if_neg (by omega), if_neg hjn]
      rcases b with l | e
      · simp only [] at h
        rcases i with z | j | m | j | q | j
        · simp only [] at h
          cases hz : l[z.toNat]? with
          | none => rw [hz] at h; cases h
          | some a0 =>
            rw [hz] at h
            cases h
            have hzl := (List.getElem?_eq_some_iff.mp hz).1
            have hzi : (cZ v (.inl z)).toNatClampNeg = z.toNat := by
              have : (cZ v (.inl z)).toInt = z := aBd_cz (E := wE w) (by rw [hb]; rfl)
              show (cZ v (.inl z)).toInt.toNat = _
              rw [this]
            refine ⟨wle_rf _, rfl, hiI, p1, v, agr_rf _ _, hv, sc_set hsc hsa, trivial, put (f := fun _ => 0) (fun j _ => ?_)⟩
            show cZ v ((l.set z.toNat a).getD j (aI 0)) = upd _ _ _ j
            rw [getD_set hzl, hzi]
            unfold upd
            by_cases ej : j = z.toNat
            · rw [if_pos ej, if_pos ej]
            · rw [if_neg ej, if_neg ej]
              rfl
        all_goals cases h
      · simp only [Bool.false_eq_true, if_false] at h
        cases hba : aBd (wE w) a with
        | none => rw [hba] at h; cases h
        | some pa =>
          obtain ⟨al, ah⟩ := pa
          rw [hba] at h
          simp only [] at h
          have qa := aBd_ok hv.1 hba
          simp only [] at qa
          have hbd : ∀ j, j < n → e.1 ≤ (vC v e.2.2 j).toInt ∧ (vC v e.2.2 j).toInt ≤ e.2.1 := hok (by omega)
          have summ : ∀ {e' : Int × Int × Nat}, e' = (min e.1 al, max e.2.1 ah, wA w) → w1 = wA1 w → b' = .inr e' → wle w w1 ∧ wH w1 = wH w ∧ aIsI i = true ∧ vp_in (cZ v i) n ∧ ∃ v', agr w v v' ∧ okW B v' w1 ∧ scC w1 (.inl (t, n, b')) ∧ okC v' (.inl (t, n, b')) ∧ cB v' t n b' = .inl (upd (fun j => if j < n then cBz v (.inr e) j else 0) (cZ v i).toNatClampNeg (cZ v a)) := by
            intro e' e1 e2 e3
            subst e1
            subst e2
            subst e3
            refine ⟨wle_A1, rfl, hiI, p1, vCu v (wA w) (upd (vC v e.2.2) (cZ v i).toNatClampNeg (cZ v a)) (vD v 0), agr_vCu _ _, okW_A1 hv _ _, Nat.lt_succ_self _, fun _ j hj => ?_, put (f := fun _ => 0) (fun j _ => ?_)⟩
            · show min e.1 al ≤ (vC (vCu v (wA w) _ _) (wA w) j).toInt ∧ (vC (vCu v (wA w) _ _) (wA w) j).toInt ≤ max e.2.1 ah
              rw [vCu_C]
              unfold upd
              have := hbd j hj
              split <;> omega
            · show vC (vCu v (wA w) _ _) (wA w) j = _
              rw [vCu_C]
              rfl
          by_cases hq : (decide (e.1 = e.2.1) && inI e.1 && decide (al = e.1) && decide (ah = e.1)) = true
          · rw [if_pos hq] at h
            simp only [Bool.and_eq_true, decide_eq_true_eq] at hq
            cases h
            refine ⟨wle_rf _, rfl, hiI, p1, v, agr_rf _ _, hv, hsc, hok, put (f := fun _ => 0) (fun j hj => ?_)⟩
            show vC v e.2.2 j = upd (vC v e.2.2) _ _ j
            unfold upd
            split
            · have := hbd j hj
              apply Int32.toInt_inj.1
              omega
            · rfl
          · rw [if_neg hq] at h
            rcases i with z | j | m | j | q | j
            · simp only [] at h
              by_cases hr : (decide (e.1 = e.2.1) && inI e.1 && Nat.ble n 256) = true
              · rw [if_pos hr] at h
                simp only [Bool.and_eq_true, decide_eq_true_eq] at hr
                cases h
                have hzi : (cZ v (.inl z)).toNatClampNeg = z.toNat := by
                  have : (cZ v (.inl z)).toInt = z := aBd_cz (E := wE w) (by rw [hb]; rfl)
                  show (cZ v (.inl z)).toInt.toNat = _
                  rw [this]
                rw [hzi] at p2
                refine ⟨wle_rf _, rfl, hiI, p1, v, agr_rf _ _, hv, sc_set (fun b hb => by rw [(List.mem_replicate.mp hb).2]; trivial) hsa, trivial, put (f := fun _ => 0) (fun j hj => ?_)⟩
                show cZ v (((List.replicate n (aI e.1)).set z.toNat a).getD j (aI 0)) = upd (vC v e.2.2) _ _ j
                rw [getD_set (by rw [List.length_replicate]; exact p2), hzi]
                unfold upd
                by_cases ej : j = z.toNat
                · rw [if_pos ej, if_pos ej]
                · rw [if_neg ej, if_neg ej, List.getD_eq_getElem?_getD, List.getElem?_replicate, if_pos hj]
                  have := hbd j hj
                  apply Int32.toInt_inj.1
                  show (Int32.ofInt e.1).toInt = _
                  rw [z_in hr.1.2]
                  omega
              · rw [if_neg hr] at h
                cases h
                exact summ rfl rfl rfl
            all_goals (cases h; exact summ rfl rfl rfl)
    · rw [if_neg hc] at h
      cases h
/-- longs written -/
theorem arSetL {id n : Nat} {b b' : AB} {i a : AV} {w1 : AW} (h : arSet w n b true i a = some (some (w1, b'))) (hid : id < (wH w).1) (hg : hGet B (wH w) id = .inl (1, n, b)) (hv : okW B v w) (hsa : scV w a) :
    wle w w1 ∧ wH w1 = wH w ∧ aIsI i = true ∧ vp_in (cZ v i) n ∧ ∃ v', agr w v v' ∧ okW B v' w1 ∧ scC w1 (.inl (1, n, b')) ∧ okC v' (.inl (1, n, b')) ∧ cB v' 1 n b' = .inr (.inl (vp_updL (fun j => if j < n then cBq v b j else 0) (cZ v i).toNatClampNeg (cQ v a))) := by
  have hsc := hv.2.2.1 id hid
  rw [hg] at hsc
  unfold arSet at h
  cases hb : aBd (wE w) i with
  | none => rw [hb] at h; cases h
  | some p =>
    obtain ⟨lo, hi⟩ := p
    rw [hb] at h
    simp only [] at h
    by_cases hc : (decide (0 ≤ lo) && decide (hi < (n : Int))) = true
    · rw [if_pos hc] at h
      simp only [Bool.and_eq_true, decide_eq_true_eq] at hc
      obtain ⟨p1, p2, -, -⟩ := ix_ok hv.1 hb hc.1 hc.2
      have hiI := aBd_int hb
      have put : ∀ {v' : VL}, (∀ j, j < n → cBq v' b' j = vp_updL (cBq v b) (cZ v i).toNatClampNeg (cQ v a) j) → cB v' 1 n b' = .inr (.inl (vp_updL (fun j => if j < n then cBq v b j else 0) (cZ v i).toNatClampNeg (cQ v a))) := by
        intro v' hj
        show Sum.inr (Sum.inl (fun j => if j < n then cBq v' b' j else 0)) = _
        refine congrArg (fun f => Sum.inr (Sum.inl f)) (funext fun j => ?_)
        show (if j < n then cBq v' b' j else 0) = if j = (cZ v i).toNatClampNeg then cQ v a else (if j < n then cBq v b j else 0)
        by_cases hjn : j < n
        · rw [if_pos hjn, hj j hjn, if_pos hjn]
          rfl
        · rw [if_neg hjn, if_neg (by omega), if_neg hjn]
      rcases b with l | e
      · simp only [] at h
        rcases i with z | j | m | j | q | j
        · simp only [] at h
          cases hz : l[z.toNat]? with
          | none => rw [hz] at h; cases h
          | some a0 =>
            rw [hz] at h
            cases h
            have hzl := (List.getElem?_eq_some_iff.mp hz).1
            have hzi : (cZ v (.inl z)).toNatClampNeg = z.toNat := by
              have : (cZ v (.inl z)).toInt = z := aBd_cz (E := wE w) (by rw [hb]; rfl)
              show (cZ v (.inl z)).toInt.toNat = _
              rw [this]
            refine ⟨wle_rf _, rfl, hiI, p1, v, agr_rf _ _, hv, sc_set hsc hsa, trivial, put (fun j _ => ?_)⟩
            show cQ v ((l.set z.toNat a).getD j (aJ 0)) = vp_updL _ _ _ j
            rw [getD_set hzl, hzi]
            unfold vp_updL
            by_cases ej : j = z.toNat
            · rw [if_pos ej, if_pos ej]
            · rw [if_neg ej, if_neg ej]
              rfl
        all_goals cases h
      · simp only [if_true] at h
        cases h
        refine ⟨wle_A1, rfl, hiI, p1, vCu v (wA w) (vC v 0) (vp_updL (vD v e.2.2) (cZ v i).toNatClampNeg (cQ v a)), agr_vCu _ _, okW_A1 hv _ _, Nat.lt_succ_self _, fun q => absurd rfl q, put (fun j _ => ?_)⟩
        show vD (vCu v (wA w) _ _) (wA w) j = _
        rw [vCu_D]
        rfl
    · rw [if_neg hc] at h
      cases h
end ST5
