/-! Steps: fields, arrays -/
section ST3
variable {k : kx_T} {x : ACx} {mn c : Nat} {dT : Nat → ClassId} {w0 : AW} {v0 : VL} {s : AS} {v : VL} {Rs : List AR}
theorem spl_all {a : AV} (so : SO k x mn c dT w0 v0 Rs (oSpl s a)) (I : Inv k x mn c dT w0 v0 s v) : WS k (sPc s) (cL v (sLv s)) ((sSt s).map (cv v)) (cW v dT (xB x) (wH (sW s))) (sC s) (sS s) := by
  rcases a with z | j | n | j | r | j
  · exact SO_no so
  · replace so : SO k x mn c dT w0 v0 Rs (match (wE (sW s))[j]? with
      | some b => if b.2.1 - b.1 ≤ 260 then some ((List.range ((b.2.1 - b.1).toNat + 1)).map (fun (i : Nat) => sGoW s (sPc s) (sSt s) (wEnv (sW s) (eSet (wE (sW s)) j (b.1 + (i : Int)) (b.1 + (i : Int))))), []) else none
      | none => none) := so
    cases he : (wE (sW s))[j]? with
    | none => rw [he] at so; exact SO_no so
    | some b =>
      rw [he] at so
      simp only [] at so
      by_cases hb : b.2.1 - b.1 ≤ 260
      · rw [if_pos hb] at so
        obtain ⟨ss, rs, e, g, -⟩ := so
        cases e
        obtain ⟨i, hi, n1, o1⟩ := spl_ok I.2.2.1.1 he
        obtain ⟨q1, q2⟩ := okW_nar I.2.2.1 n1 o1
        exact gs_go (g _ (List.mem_map.mpr ⟨i, List.mem_range.mpr hi, rfl⟩)) I q2 rfl (agr_rf _ _) q1 (scL_mono q2 I.2.2.2.2.1) rfl
      · rw [if_neg hb] at so
        exact SO_no so
  all_goals exact SO_no so
/-- an index within bounds -/
theorem ix_ok {E : AE} (h : okE v E) {i : AV} {lo hi : Int} {n : Nat} (hb : aBd E i = some (lo, hi)) (h0 : 0 ≤ lo) (h1 : hi < (n : Int)) : vp_in (cZ v i) n ∧ (cZ v i).toNatClampNeg < n ∧ lo.toNat ≤ (cZ v i).toNatClampNeg ∧ (cZ v i).toNatClampNeg ≤ hi.toNat := by
  have q := aBd_ok h hb
  simp only [] at q
  have e : (cZ v i).toNatClampNeg = (cZ v i).toInt.toNat := rfl
  have hn : ¬ cZ v i < 0 := by
    rw [Int32.lt_iff_toInt_lt]
    have : (0 : Int32).toInt = 0 := rfl
    omega
  rw [e]
  refine ⟨?_, by omega, by omega, by omega⟩
  intro z
  rcases z with z | z
  · exact hn z
  · rw [e] at z
    omega
theorem allEq_ok : ∀ {l : List AV} {a : AV}, allEq l = some a → ∀ b ∈ l, b = a
  | [], a, h, b, hb => absurd hb List.not_mem_nil
  | d :: r, a, h, b, hb => by
    replace h : (if r.all (fun b => decide (b = d)) = true then some d else none) = some a := h
    split at h
    · rename_i hc
      cases h
      rcases List.mem_cons.mp hb with e | e
      · exact e
      · exact of_decide_eq_true (List.all_eq_true.mp hc b e)
    · cases h
/-- what arGet says -/
theorem arGet_ok {w : AW} {n : Nat} {b : AB} {lng : Bool} {i : AV} {r : AW × AV} (h : arGet w n b lng i = some (some r)) : ∃ lo hi, aBd (wE w) i = some (lo, hi) ∧ 0 ≤ lo ∧ hi < (n : Int) ∧
    (match b with
      | .inl l => r.1 = w ∧ ∀ v, okE v (wE w) → l[(cZ v i).toNatClampNeg]? = some r.2
      | .inr e => if lng = true then r = wNewU w else (e.1 = e.2.1 ∧ inI e.1 = true ∧ r = (w, aI e.1)) ∨ r = wNewI w e.1 e.2.1 none) := by
  unfold arGet at h
  cases hb : aBd (wE w) i with
  | none => rw [hb] at h; cases h
  | some p =>
    obtain ⟨lo, hi⟩ := p
    rw [hb] at h
    simp only [] at h
    by_cases hc : (decide (0 ≤ lo) && decide (hi < (n : Int))) = true
    · rw [if_pos hc] at h
      simp only [Bool.and_eq_true, decide_eq_true_eq] at hc
      refine ⟨lo, hi, rfl, hc.1, hc.2, ?_⟩
      rcases b with l | e
      · simp only [] at h ⊢
        have gen : (if Nat.beq l.length n = true then (match allEq ((l.drop lo.toNat).take (hi.toNat + 1 - lo.toNat)) with
            | some a => some (some (w, a))
            | none => some none) else none) = some (some r) → r.1 = w ∧ ∀ v, okE v (wE w) → l[(cZ v i).toNatClampNeg]? = some r.2 := by
          intro h
          split at h
          · rename_i hl
            have hl := Nat.eq_of_beq_eq_true hl
            split at h
            · rename_i a ha
              cases h
              refine ⟨rfl, fun v hv => ?_⟩
              obtain ⟨-, h2, h3, h4⟩ := ix_ok hv hb hc.1 hc.2
              have hlt : (cZ v i).toNatClampNeg < l.length := by omega
              rw [List.getElem?_eq_getElem hlt]
              refine congrArg some (allEq_ok ha _ (List.mem_iff_getElem?.mpr ⟨(cZ v i).toNatClampNeg - lo.toNat, ?_⟩))
              rw [List.getElem?_take, if_pos (by omega), List.getElem?_drop, show lo.toNat + ((cZ v i).toNatClampNeg - lo.toNat) = (cZ v i).toNatClampNeg by omega, List.getElem?_eq_getElem hlt]
            · cases h
          · cases h
        rcases i with z | j | m | j | q | j
        · simp only [] at h
          cases hz : l[z.toNat]? with
          | none => rw [hz] at h; cases h
          | some a =>
            rw [hz] at h
            cases h
            refine ⟨rfl, fun v hv => ?_⟩
            have : (cZ v (.inl z)).toInt = z := aBd_cz (E := wE w) (by rw [hb]; rfl)
            show l[((cZ v (.inl z)).toInt).toNat]? = _
            rw [this, hz]
        all_goals exact gen h
      · simp only [] at h ⊢
        cases lng with
        | true =>
          simp only [if_true] at h ⊢
          cases h
          rfl
        | false =>
          simp only [Bool.false_eq_true, if_false] at h ⊢
          by_cases he : e.1 = e.2.1
          · rw [if_pos he] at h
            split at h
            · rename_i hi2
              cases h
              exact Or.inl ⟨he, hi2, rfl⟩
            · cases h
          · rw [if_neg he] at h
            cases h
            exact Or.inr rfl
    · rw [if_neg hc] at h
      cases h
/-- ints of an array -/
theorem arGetI {B : Nat → AC} {w : AW} {id t n : Nat} {b : AB} {i : AV} {r : AW × AV} (hid : id < (wH w).1) (hg : hGet B (wH w) id = .inl (t, n, b)) (ht : t = 0 ∨ t = 2) (h : arGet w n b (Nat.beq t 1) i = some (some r)) (hI : aIsI r.2 = true) : Fr B w (fun v => .int (cBz v b (cZ v i).toNatClampNeg)) r := by
  obtain ⟨lo, hi, hb, h0, h1, h2⟩ := arGet_ok h
  have hl : Nat.beq t 1 = false := by rcases ht with e | e <;> subst e <;> rfl
  rcases b with l | e
  · simp only [] at h2
    obtain ⟨q1, q2⟩ := h2
    obtain ⟨r1, r2⟩ := r
    simp only at q1 q2 hI
    subst q1
    by_cases hv : ∃ v, okW B v r1
    · obtain ⟨v1, hv1⟩ := hv
      have hs : scV r1 r2 := by
        have := hv1.2.2.1 id hid
        rw [hg] at this
        exact this r2 (List.mem_of_getElem? (q2 v1 hv1.1))
      refine Fr_same hs (fun v hv => ?_)
      show cv v r2 = .int (cZ v (l.getD _ _))
      rw [List.getD_eq_getElem?_getD, q2 v hv.1]
      exact cv_int hI
    · exact ⟨wle_rf _, rfl, fun v hv0 => absurd ⟨v, hv0⟩ hv⟩
  · simp only [hl, Bool.false_eq_true, if_false] at h2
    have hbd : ∀ v, okW B v w → e.1 ≤ (vC v e.2.2 (cZ v i).toNatClampNeg).toInt ∧ (vC v e.2.2 (cZ v i).toNatClampNeg).toInt ≤ e.2.1 := fun v hv => by
      have q := hv.2.1 id hid
      rw [hg] at q
      exact q (by omega) _ (ix_ok hv.1 hb h0 h1).2.1
    rcases h2 with ⟨e1, e2, rfl⟩ | rfl
    · refine Fr_same trivial (fun v hv => ?_)
      have := hbd v hv
      show Value.int (Int32.ofInt e.1) = Value.int (vC v e.2.2 _)
      congr 1
      apply Int32.toInt_inj.1
      rw [z_in e2]
      omega
    · exact Fr_newI _ hbd
theorem arGetL {B : Nat → AC} {w : AW} {id n : Nat} {b : AB} {i : AV} {r : AW × AV} (hid : id < (wH w).1) (hg : hGet B (wH w) id = .inl (1, n, b)) (h : arGet w n b (Nat.beq 1 1) i = some (some r)) (hI : aIsL r.2 = true) : Fr B w (fun v => .long (cBq v b (cZ v i).toNatClampNeg)) r := by
  obtain ⟨lo, hi, hb, h0, h1, h2⟩ := arGet_ok h
  rcases b with l | e
  · simp only [] at h2
    obtain ⟨q1, q2⟩ := h2
    obtain ⟨r1, r2⟩ := r
    simp only at q1 q2 hI
    subst q1
    by_cases hv : ∃ v, okW B v r1
    · obtain ⟨v1, hv1⟩ := hv
      have hs : scV r1 r2 := by
        have := hv1.2.2.1 id hid
        rw [hg] at this
        exact this r2 (List.mem_of_getElem? (q2 v1 hv1.1))
      refine Fr_same hs (fun v hv => ?_)
      show cv v r2 = .long (cQ v (l.getD _ _))
      rw [List.getD_eq_getElem?_getD, q2 v hv.1]
      exact cv_long hI
    · exact ⟨wle_rf _, rfl, fun v hv0 => absurd ⟨v, hv0⟩ hv⟩
  · simp only [show Nat.beq 1 1 = true from rfl, if_true] at h2
    subst h2
    exact Fr_newU _
theorem arGetR {B : Nat → AC} {w : AW} {id t n : Nat} {l : List AV} {lng : Bool} {i : AV} {r : AW × AV} (hid : id < (wH w).1) (hg : hGet B (wH w) id = .inl (t, n, .inl l)) (h : arGet w n (.inl l) lng i = some (some r)) (hI : aIsR r.2 = true) : Fr B w (fun v => va_rf (cBr v (.inl l) (cZ v i).toNatClampNeg)) r := by
  obtain ⟨lo, hi, hb, h0, h1, q1, q2⟩ := arGet_ok h
  obtain ⟨r1, r2⟩ := r
  simp only at q1 q2 hI
  subst q1
  by_cases hv : ∃ v, okW B v r1
  · obtain ⟨v1, hv1⟩ := hv
    have hs : scV r1 r2 := by
      have := hv1.2.2.1 id hid
      rw [hg] at this
      exact this r2 (List.mem_of_getElem? (q2 v1 hv1.1))
    refine Fr_same hs (fun v hv => ?_)
    show cv v r2 = va_rf (cR v (l.getD _ _))
    rw [List.getD_eq_getElem?_getD, q2 v hv.1]
    exact cv_ref hI
  · exact ⟨wle_rf _, rfl, fun v hv0 => absurd ⟨v, hv0⟩ hv⟩
end ST3
