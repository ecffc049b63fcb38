section
/-! Steps: fields, arrays -/
section ST3
variable {k : kx_T} {x : ACx} {mn c : Nat} {dT : Nat → ClassId} {w0 : AW} {v0 : VL} {s : AS} {v : VL} {Rs : List AR}
theorem spl_all {a : AV} (so : SO k x mn c dT w0 v0 Rs (oSpl s a)) (I : Inv k x mn c dT w0 v0 s v) : WS k (sPc s) (cL v (sLv s)) ((sSt s).map (cv v)) (cW v dT (xB x) (wH (sW s))) (sC s) (sS s) := by
  rcases a with z | j | n | j | r | j
  · exact SO_no so
  · replace so : SO k x mn c dT w0 v0 Rs (match (wE (sW s))[j]? with
      | some b => if b.2.1 - b.1 ≤ 260 then some ((List.range ((b.2.1 - b.1).toNat + 1)).map (fun (i : Nat) => sGoW s (sPc s) (sSt s) (wEnv (sW s) (eSet (wE (sW s)) j (b.1 + (i : Int)) (b.1 + (i : Int))))), []) else none
      | none => none) := so
    cases he : (wE (sW s))[j]? with
    | none => rw [he] at so; exact SO_no so
    | some b =>
      rw [he] at so
      simp only [] at so
      by_cases hb : b.2.1 - b.1 ≤ 260
      · rw [if_pos hb] at so
        obtain ⟨ss, rs, e, g, -⟩ := so
        cases e
        obtain ⟨i, hi, n1, o1⟩ := spl_ok I.2.2.1.1 he
        obtain ⟨q1, q2⟩ := okW_nar I.2.2.1 n1 o1
        exact gs_go (g _ (List.mem_map.mpr ⟨i, List.mem_range.mpr hi, rfl⟩)) I q2 rfl (agr_rf _ _) q1 (scL_mono q2 I.2.2.2.2.1) rfl
      · rw [if_neg hb] at so
        exact SO_no so
  all_goals exact SO_no so
/-- an index within bounds -/
theorem ix_ok {E : AE} (h : okE v E) {i : AV} {lo hi : Int} {n : Nat} (hb : aBd E i = some (lo, hi)) (h0 : 0 ≤ lo) (h1 : hi < (n : Int)) : vp_in (cZ v i) n ∧ (cZ v i).toNatClampNeg < n ∧ lo.toNat ≤ (cZ v i).toNatClampNeg ∧ (cZ v i).toNatClampNeg ≤ hi.toNat := by
  have q := aBd_ok h hb
  simp only [] at q
  have e : (cZ v i).toNatClampNeg = (cZ v i).toInt.toNat := rfl
  have hn : ¬ cZ v i < 0 := by
    rw [Int32.lt_iff_toInt_lt]
    have : (0 : Int32).toInt = 0 := rfl
    omega
  rw [e]
  refine ⟨?_, by omega, by omega, by omega⟩
  intro z
  rcases z with z | z
  · exact hn z
  · rw [e] at z
    omega
theorem allEq_ok : ∀ {l : List AV} {a : AV}, allEq l = some a → ∀ b ∈ l, b = a
  | [], a, h, b, hb => absurd hb List.not_mem_nil
  | d :: r, a, h, b, hb => by
    replace h : (if r.all (fun b => decide (b = d)) = true then some d else none) = some a := h
    split at h
    · rename_i hc
      cases h
      rcases List.mem_cons.mp hb with e | e
      · exact e
      · exact of_decide_eq_true (List.all_eq_true.mp hc b e)
    · cases h
/-- what arGet says -/
theorem arGet_ok {w : AW} {n : Nat} {b : AB} {lng : Bool} {i : AV} {r : AW × AV} (h : arGet w n b lng i = some (some r)) : ∃ lo hi, aBd (wE w) i = some (lo, hi) ∧ 0 ≤ lo ∧ hi < (n : Int) ∧
    (match b with
      | .inl l => r.1 = w ∧ ∀ v, okE v (wE w) → l[(cZ v i).toNatClampNeg]? = some r.2
      | .inr e => if lng = true then r = wNewU w else (e.1 = e.2.1 ∧ inI e.1 = true ∧ r = (w, aI e.1)) ∨ r = wNewI w e.1 e.2.1 none) := by
  unfold arGet at h
  cases hb : aBd (wE w) i with
  | none => rw [hb] at h; cases h
  | some p =>
    obtain ⟨lo, hi⟩ := p
    rw [hb] at h
    simp only [] at h
    by_cases hc : (decide (0 ≤ lo) && decide (hi < (n : Int))) = true
    · rw [if_pos hc] at h
      simp only [Bool.and_eq_true, decide_eq_true_eq] at hc
      refine ⟨lo, hi, rfl, hc.1, hc.2, ?_⟩
      rcases b with l | e
      · simp only [] at h ⊢
        have gen : (if Nat.beq l.length n = true then (match allEq ((l.drop lo.toNat).take (hi.toNat + 1 - lo.toNat)) with
            | some a => some (some (w, a))
            | none => some none) else none) = some (some r) → r.1 = w ∧ ∀ v, okE v (wE w) → l[(cZ v i).toNatClampNeg]? = some r.2 := by
          intro h
          split at h
          · rename_i hl
            have hl := Nat.eq_of_beq_eq_true hl
            split at h
            · rename_i a ha
              cases h
              refine ⟨rfl, fun v hv => ?_⟩
              obtain ⟨-, h2, h3, h4⟩ := ix_ok hv hb hc.1 hc.2
              have hlt : (cZ v i).toNatClampNeg < l.length := by omega
              rw [List.getElem?_eq_getElem hlt]
              refine congrArg some (allEq_ok ha _ (List.mem_iff_getElem?.mpr ⟨(cZ v i).toNatClampNeg - lo.toNat, ?_⟩))
              rw [List.getElem?_take, if_pos (by omega), List.getElem?_drop, show lo.toNat + ((cZ v i).toNatClampNeg - lo.toNat) = (cZ v i).toNatClampNeg by omega, List.getElem?_eq_getElem hlt]
            · cases h
          · cases h
        rcases i with z | j | m | j | q | j
        · simp only [] at h
          cases hz : l[z.toNat]? with
          | none => rw [hz] at h; cases h
          | some a =>
            rw [hz] at h
            cases h
            refine ⟨rfl, fun v hv => ?_⟩
            have : (cZ v (.inl z)).toInt = z := aBd_cz (E := wE w) (by rw [hb]; rfl)
            show l[((cZ v (.inl z)).toInt).toNat]? = _
            rw [this, hz]
        all_goals exact gen h
      · simp only [] at h ⊢
        cases lng with
        | true =>
          simp only [if_true] at h ⊢
          cases h
          rfl
        | false =>
          simp only [Bool.false_eq_true, if_false] at h ⊢
          by_cases he : e.1 = e.2.1
          · rw [if_pos he] at h
            split at h
            · rename_i hi2
              cases h
              exact Or.inl ⟨he, hi2, rfl⟩
            · cases h
          · rw [if_neg he] at h
            cases h
            exact Or.inr rfl
    · rw [if_neg hc] at h
      cases h
/-- ints of an array -/
theorem arGetI {B : Nat → AC} {w : AW} {id t n : Nat} {b : AB} {i : AV} {r : AW × AV} (hid : id < (wH w).1) (hg : hGet B (wH w) id = .inl (t, n, b)) (ht : t = 0 ∨ t = 2) (h : arGet w n b (Nat.beq t 1) i = some (some r)) (hI : aIsI r.2 = true) : Fr B w (fun v => .int (cBz v b (cZ v i).toNatClampNeg)) r := by
  obtain ⟨lo, hi, hb, h0, h1, h2⟩ := arGet_ok h
  have hl : Nat.beq t 1 = false := by rcases ht with e | e <;> subst e <;> rfl
  rcases b with l | e
  · simp only [] at h2
    obtain ⟨q1, q2⟩ := h2
    obtain ⟨r1, r2⟩ := r
    simp only at q1 q2 hI
    subst q1
    by_cases hv : ∃ v, okW B v r1
    · obtain ⟨v1, hv1⟩ := hv
      have hs : scV r1 r2 := by
        have := hv1.2.2.1 id hid
        rw [hg] at this
        exact this r2 (List.mem_of_getElem? (q2 v1 hv1.1))
      refine Fr_same hs (fun v hv => ?_)
      show cv v r2 = .int (cZ v (l.getD _ _))
      rw [List.getD_eq_getElem?_getD, q2 v hv.1]
      exact cv_int hI
    · exact ⟨wle_rf _, rfl, fun v hv0 => absurd ⟨v, hv0⟩ hv⟩
  · simp only [hl, Bool.false_eq_true, if_false] at h2
    have hbd : ∀ v, okW B v w → e.1 ≤ (vC v e.2.2 (cZ v i).toNatClampNeg).toInt ∧ (vC v e.2.2 (cZ v i).toNatClampNeg).toInt ≤ e.2.1 := fun v hv => by
      have q := hv.2.1 id hid
      rw [hg] at q
      exact q (by omega) _ (ix_ok hv.1 hb h0 h1).2.1
    rcases h2 with ⟨e1, e2, rfl⟩ | rfl
    · refine Fr_same trivial (fun v hv => ?_)
      have := hbd v hv
      show Value.int (Int32.ofInt e.1) = Value.int (vC v e.2.2 _)
      congr 1
      apply Int32.toInt_inj.1
      rw [z_in e2]
      omega
    · exact Fr_newI _ hbd
theorem arGetL {B : Nat → AC} {w : AW} {id n : Nat} {b : AB} {i : AV} {r : AW × AV} (hid : id < (wH w).1) (hg : hGet B (wH w) id = .inl (1, n, b)) (h : arGet w n b (Nat.beq 1 1) i = some (some r)) (hI : aIsL r.2 = true) : Fr B w (fun v => .long (cBq v b (cZ v i).toNatClampNeg)) r := by
  obtain ⟨lo, hi, hb, h0, h1, h2⟩ := arGet_ok h
  rcases b with l | e
  · simp only [] at h2
    obtain ⟨q1, q2⟩ := h2
    obtain ⟨r1, r2⟩ := r
    simp only at q1 q2 hI
    subst q1
    by_cases hv : ∃ v, okW B v r1
    · obtain ⟨v1, hv1⟩ := hv
      have hs : scV r1 r2 := by
        have := hv1.2.2.1 id hid
        rw [hg] at this
        exact this r2 (List.mem_of_getElem? (q2 v1 hv1.1))
      refine Fr_same hs (fun v hv => ?_)
      show cv v r2 = .long (cQ v (l.getD _ _))
      rw [List.getD_eq_getElem?_getD, q2 v hv.1]
      exact cv_long hI
    · exact ⟨wle_rf _, rfl, fun v hv0 => absurd ⟨v, hv0⟩ hv⟩
  · simp only [show Nat.beq 1 1 = true from rfl, if_true] at h2
    subst h2
    exact Fr_newU _
theorem arGetR {B : Nat → AC} {w : AW} {id t n : Nat} {l : List AV} {lng : Bool} {i : AV} {r : AW × AV} (hid : id < (wH w).1) (hg : hGet B (wH w) id = .inl (t, n, .inl l)) (h : arGet w n (.inl l) lng i = some (some r)) (hI : aIsR r.2 = true) : Fr B w (fun v => va_rf (cBr v (.inl l) (cZ v i).toNatClampNeg)) r := by
  obtain ⟨lo, hi, hb, h0, h1, q1, q2⟩ := arGet_ok h
  obtain ⟨r1, r2⟩ := r
  simp only at q1 q2 hI
  subst q1
  by_cases hv : ∃ v, okW B v r1
  · obtain ⟨v1, hv1⟩ := hv
    have hs : scV r1 r2 := by
      have := hv1.2.2.1 id hid
      rw [hg] at this
      exact this r2 (List.mem_of_getElem? (q2 v1 hv1.1))
    refine Fr_same hs (fun v hv => ?_)
    show cv v r2 = va_rf (cR v (l.getD _ _))
    rw [List.getD_eq_getElem?_getD, q2 v hv.1]
    exact cv_ref hI
  · exact ⟨wle_rf _, rfl, fun v hv0 => absurd ⟨v, hv0⟩ hv⟩
end ST3
end
section
/-! Steps: reading arrays and fields -/
def tyF : Nat → FieldType
  | 0 => .int
  | 1 => .long
  | 2 => .boolean
  | 3 => .array .int
  | 4 => .array (.array .int)
  | _ => .object RX0
/-- the array classes by number -/
def tyX (k : kx_T) (dT : Nat → ClassId) : Prop := ∀ t, (kTy k)[min t 5]? = some (dT t, tyF t)
section ST4
variable {k : kx_T} {x : ACx} {mn c : Nat} {dT : Nat → ClassId} {w0 : AW} {v0 : VL} {s : AS} {v : VL} {Rs : List AR}
theorem Fr_nm {B : Nat → AC} {w : AW} {val : VL → Value} {q : AW × AV} (h : Fr B w val q) : Fr B w val (q.1, aNm (wE q.1) q.2) := by
  refine ⟨h.1, h.2.1, fun v hv => ?_⟩
  obtain ⟨v', a, b, d, e⟩ := h.2.2 v hv
  exact ⟨v', a, b, aNm_sc d, (aNm_cv b.1 _).trans e⟩
/-- the check behind a load -/
def ldK (t' : Nat) (ref : Bool) (b : AB) (a : AV) : Bool := if ref then aIsR a && (match b with | .inl _ => true | .inr _ => false) else if Nat.beq t' 1 then aIsL a else aIsI a
theorem ld_ok {t : Nat} {ref : Bool} (so : SO k x mn c dT w0 v0 Rs (oLd (xB x) s t ref)) (I : Inv k x mn c dT w0 v0 s v) : ∃ i id r t' n b, sSt s = i :: aR (some id) :: r ∧ id < (wH (sW s)).1 ∧ hGet (xB x) (wH (sW s)) id = .inl (t', n, b) ∧ (if ref then Nat.ble 3 t' else Nat.beq t' t) = true ∧
    (WS k (sPc s) (cL v (sLv s)) ((sSt s).map (cv v)) (cW v dT (xB x) (wH (sW s))) (sC s) (sS s) ∨ ∃ q, arGet (sW s) n b (Nat.beq t' 1) (aNm (wE (sW s)) i) = some (some q) ∧ ldK t' ref b q.2 = true ∧ GS k x mn c dT w0 v0 (sGoW s (sPc s + 1) (aNm (wE q.1) q.2 :: r) q.1)) := by
  obtain ⟨pc, lv, st, w, lp, ce, sl⟩ := s
  cases st with
  | nil => exact SO_no so
  | cons i st =>
    cases st with
    | nil => exact SO_no so
    | cons a r =>
      rcases a with z | j | m | j | a | j
      · exact SO_no so
      · exact SO_no so
      · exact SO_no so
      · exact SO_no so
      · cases a with
        | none => exact SO_no so
        | some id =>
          obtain ⟨h1, so⟩ := so_if (b := Nat.blt id (wH w).1) so
          cases hg : hGet (xB x) (wH w) id with
          | inr o =>
            have so' := so
            simp only [hg] at so'
            exact SO_no so'
          | inl o =>
            obtain ⟨t', n, b⟩ := o
            have so' := so
            simp only [hg] at so'
            obtain ⟨h2, so'⟩ := so_if (b := if ref then Nat.ble 3 t' else Nat.beq t' t) so'
            refine ⟨i, id, r, t', n, b, rfl, Nat.blt_eq.mp h1, hg, h2, ?_⟩
            cases ha : arGet w n b (Nat.beq t' 1) (aNm (wE w) i) with
            | none =>
              simp only [ha] at so'
              exact SO_no so'
            | some o =>
              cases o with
              | none =>
                simp only [ha] at so'
                exact Or.inl (spl_all (s := (pc, lv, i :: aR (some id) :: r, w, lp, ce, sl)) so' I)
              | some q =>
                obtain ⟨q1, q2⟩ := q
                simp only [ha] at so'
                obtain ⟨h3, so'⟩ := so_if (b := ldK t' ref b q2) so'
                exact Or.inr ⟨(q1, q2), rfl, h3, SO_one so'⟩
      · exact SO_no so
theorem cW_cell {w : AW} {id : Nat} {cl : AC} (hid : id < (wH w).1) (hg : hGet (xB x) (wH w) id = cl) : (cW v dT (xB x) (wH w))[id]? = some (vA v id, cC v dT cl) := by
  rw [cW_get hid, hg]
theorem g_iaload (C : kx_ok k) (T : tyX k dT) (d : decode (kCc k) (sPc s) = .ok (.iaload, 1)) (so : SO k x mn c dT w0 v0 Rs (oLd (xB x) s 0 false)) : GS k x mn c dT w0 v0 s := fun v I => by
  obtain ⟨i, id, r, t', n, b, e, hid, hg, ht, h⟩ := ld_ok so I
  rcases h with h | ⟨q, h1, h2, h3⟩
  · exact h
  · have ht := Nat.eq_of_beq_eq_true ht
    subst ht
    have hst := I.2.2.2.2.1
    rw [e] at hst
    obtain ⟨lo, hi, hb, a0, a1, -⟩ := arGet_ok h1
    obtain ⟨p1, p2, -⟩ := ix_ok I.2.2.1.1 hb a0 a1
    rw [aNm_cZ I.2.2.1.1] at p1 p2
    have hi : aIsI i = true := by rw [← aNm_isI (wE (sW s))]; exact aBd_int hb
    have g := gs_fr (Fr_nm (arGetI hid hg (Or.inl rfl) h1 h2)) h3 I (sc_tl (sc_tl hst))
    rw [e, List.map_cons, List.map_cons, cv_int hi]
    refine w_iald C id (cW_cell hid hg) (T 0) p1 d ?_
    simp only [aNm_cZ I.2.2.1.1] at g
    rw [if_pos p2]
    exact g
theorem g_baload (C : kx_ok k) (T : tyX k dT) (d : decode (kCc k) (sPc s) = .ok (.baload, 1)) (so : SO k x mn c dT w0 v0 Rs (oLd (xB x) s 2 false)) : GS k x mn c dT w0 v0 s := fun v I => by
  obtain ⟨i, id, r, t', n, b, e, hid, hg, ht, h⟩ := ld_ok so I
  rcases h with h | ⟨q, h1, h2, h3⟩
  · exact h
  · have ht := Nat.eq_of_beq_eq_true ht
    subst ht
    have hst := I.2.2.2.2.1
    rw [e] at hst
    obtain ⟨lo, hi, hb, a0, a1, -⟩ := arGet_ok h1
    obtain ⟨p1, p2, -⟩ := ix_ok I.2.2.1.1 hb a0 a1
    rw [aNm_cZ I.2.2.1.1] at p1 p2
    have hi : aIsI i = true := by rw [← aNm_isI (wE (sW s))]; exact aBd_int hb
    have g := gs_fr (Fr_nm (arGetI hid hg (Or.inr rfl) h1 h2)) h3 I (sc_tl (sc_tl hst))
    rw [e, List.map_cons, List.map_cons, cv_int hi]
    refine w_zald C id (cW_cell hid hg) (T 2) p1 d ?_
    simp only [aNm_cZ I.2.2.1.1] at g
    rw [if_pos p2]
    exact g
theorem g_laload (C : kx_ok k) (T : tyX k dT) (d : decode (kCc k) (sPc s) = .ok (.laload, 1)) (so : SO k x mn c dT w0 v0 Rs (oLd (xB x) s 1 false)) : GS k x mn c dT w0 v0 s := fun v I => by
  obtain ⟨i, id, r, t', n, b, e, hid, hg, ht, h⟩ := ld_ok so I
  rcases h with h | ⟨q, h1, h2, h3⟩
  · exact h
  · have ht := Nat.eq_of_beq_eq_true ht
    subst ht
    have hst := I.2.2.2.2.1
    rw [e] at hst
    obtain ⟨lo, hi, hb, a0, a1, -⟩ := arGet_ok h1
    obtain ⟨p1, p2, -⟩ := ix_ok I.2.2.1.1 hb a0 a1
    rw [aNm_cZ I.2.2.1.1] at p1 p2
    have hi : aIsI i = true := by rw [← aNm_isI (wE (sW s))]; exact aBd_int hb
    have g := gs_fr (Fr_nm (arGetL hid hg h1 h2)) h3 I (sc_tl (sc_tl hst))
    rw [e, List.map_cons, List.map_cons, cv_int hi]
    refine w_lald C id (cW_cell hid hg) (T 1) p1 d ?_
    simp only [aNm_cZ I.2.2.1.1] at g
    rw [if_pos p2]
    exact g
theorem cB_ref {t n : Nat} {b : AB} (h : 3 ≤ t) : cB v t n b = .inr (.inr (.inr (.inr (fun j => if j < n then cBr v b j else none)))) := by
  match t, h with
  | t + 3, _ => rfl
theorem tyF_ref {t : Nat} (h : 3 ≤ t) : refKind (tyF t) = true := by
  match t, h with
  | 3, _ => rfl
  | 4, _ => rfl
  | t + 5, _ => rfl
theorem g_aaload (C : kx_ok k) (T : tyX k dT) (d : decode (kCc k) (sPc s) = .ok (.aaload, 1)) (so : SO k x mn c dT w0 v0 Rs (oLd (xB x) s 0 true)) : GS k x mn c dT w0 v0 s := fun v I => by
  obtain ⟨i, id, r, t', n, b, e, hid, hg, ht, h⟩ := ld_ok so I
  rcases h with h | ⟨q, h1, h2, h3⟩
  · exact h
  · have ht : 3 ≤ t' := Nat.le_of_ble_eq_true ht
    have hst := I.2.2.2.2.1
    rw [e] at hst
    rcases b with l | z
    · replace h2 : (aIsR q.2 && true) = true := h2
      rw [Bool.and_true] at h2
      obtain ⟨lo, hi, hb, a0, a1, -⟩ := arGet_ok h1
      obtain ⟨p1, p2, -⟩ := ix_ok I.2.2.1.1 hb a0 a1
      rw [aNm_cZ I.2.2.1.1] at p1 p2
      have hi : aIsI i = true := by rw [← aNm_isI (wE (sW s))]; exact aBd_int hb
      have g := gs_fr (Fr_nm (arGetR hid hg h1 h2)) h3 I (sc_tl (sc_tl hst))
      rw [e, List.map_cons, List.map_cons, cv_int hi]
      have hcell := cW_cell (v := v) (dT := dT) hid hg
      have hc2 : cC v dT (.inl (t', n, .inl l)) = .inl (dT t', n, cB v t' n (.inl l)) := rfl
      rw [hc2, cB_ref ht] at hcell
      refine w_aald C id hcell (T t') (tyF_ref ht) p1 d ?_
      simp only [aNm_cZ I.2.2.1.1] at g
      rw [if_pos p2]
      exact g
    · replace h2 : (aIsR q.2 && false) = true := h2
      rw [Bool.and_false] at h2
      cases h2
theorem g_alen (C : kx_ok k) (T : tyX k dT) (d : decode (kCc k) (sPc s) = .ok (.arraylength, 1)) (so : SO k x mn c dT w0 v0 Rs (fLen x (fun _ _ _ _ => none) mn c s)) : GS k x mn c dT w0 v0 s := fun v I => by
  obtain ⟨pc, lv, st, w, lp, ce, sl⟩ := s
  cases st with
  | nil => exact SO_no so
  | cons a r =>
    rcases a with z | j | m | j | a | j
    · exact SO_no so
    · exact SO_no so
    · exact SO_no so
    · exact SO_no so
    · cases a with
      | none => exact SO_no so
      | some id =>
        obtain ⟨h1, so⟩ := so_if (b := Nat.blt id (wH w).1) so
        cases hg : hGet (xB x) (wH w) id with
        | inr o =>
          have so' := so
          simp only [hg] at so'
          exact SO_no so'
        | inl o =>
          obtain ⟨t', n, b⟩ := o
          have so' := so
          simp only [hg] at so'
          obtain ⟨h2, so'⟩ := so_if (b := Nat.ble n 100000) so'
          have g := gs_same (s := (pc, lv, aR (some id) :: r, w, lp, ce, sl)) (SO_one so') I (sc_cons trivial (sc_tl I.2.2.2.2.1))
          exact w_alen C id (cW_cell (Nat.blt_eq.mp h1) hg) (T t') d g
    · exact SO_no so
theorem g_get (C : kx_ok k) {idx ci f : Nat} (hc : cl_ok ci (nCl ci).2.1 (nCl ci).1 (nCl ci).2.2.1 (nCl ci).2.2.2) (hf : f < (nCl ci).2.1) (hl : Cond.fieldLink (kOwn k) idx ((nCl ci).2.2.1 f).1 ((nCl ci).2.2.1 f).2.1 ((nCl ci).2.2.1 f).2.2.1 ∈ gT) (d : decode (kCc k) (sPc s) = .ok (.getfield idx, 3)) (so : SO k x mn c dT w0 v0 Rs (oGet x s ci f)) : GS k x mn c dT w0 v0 s := fun v I => by
  obtain ⟨pc, lv, st, w, lp, ce, sl⟩ := s
  cases st with
  | nil => exact SO_no so
  | cons a r =>
    rcases a with z | j | m | j | a | j
    · exact SO_no so
    · exact SO_no so
    · exact SO_no so
    · exact SO_no so
    · cases a with
      | none => exact SO_no so
      | some id =>
        obtain ⟨h1, so⟩ := so_if (b := Nat.blt id (wH w).1) so
        have h1 := Nat.blt_eq.mp h1
        cases hg : hGet (xB x) (wH w) id with
        | inl o =>
          have so' := so
          simp only [hg] at so'
          exact SO_no so'
        | inr o =>
          obtain ⟨ci', fs⟩ := o
          have so' := so
          simp only [hg] at so'
          obtain ⟨h2, so2⟩ := so_if (b := Nat.beq ci' ci) so'
          have h2 := Nat.eq_of_beq_eq_true h2
          clear so so'
          subst h2
          cases ha : fs[f]? with
          | none =>
            simp only [ha] at so2
            exact SO_no so2
          | some a =>
            simp only [ha] at so2
            have hsc : scV w a := by
              have := I.2.2.1.2.2.1 id h1
              rw [hg] at this
              exact this a (List.mem_of_getElem? ha)
            have g := gs_same (s := (pc, lv, aR (some id) :: r, w, lp, ce, sl)) (SO_one so2) I (sc_cons (aNm_sc hsc) (sc_tl I.2.2.2.2.1))
            rw [List.map_cons, aNm_cv I.2.2.1.1] at g
            exact w_get C id hc (cW_cell h1 hg) hf hl (by rw [List.getElem?_map, ha]; rfl) d g
    · exact SO_no so
end ST4
end
section
/-! Steps: writing arrays and fields -/
/-- one more symbol for contents -/
abbrev wA1 (w : AW) : AW := (w.1, w.2.1, wL w, wA w + 1, wX w)
def vCu (v : VL) (n : Nat) (f : Nat → Int32) (g : Nat → Int64) : VL := (vI v, vJ v, vA v, vO v, fun k => if k = n then f else vC v k, fun k => if k = n then g else vD v k)
section ST5
variable {k : kx_T} {x : ACx} {mn c : Nat} {dT : Nat → ClassId} {w0 : AW} {v0 : VL} {s : AS} {v : VL} {Rs : List AR} {B : Nat → AC} {w : AW}
theorem wle_A1 : wle w (wA1 w) := ⟨Nat.le_refl _, Nat.le_refl _, Nat.le_refl _, Nat.le_succ _, Nat.le_refl _⟩
theorem agr_vCu (f : Nat → Int32) (g : Nat → Int64) : agr w v (vCu v (wA w) f g) :=
  ⟨fun _ _ => rfl, fun _ _ => rfl, fun _ _ => rfl, fun j hj => by
    constructor
    · show vC v j = if j = _ then f else vC v j
      rw [if_neg (by omega)]
    · show vD v j = if j = _ then g else vD v j
      rw [if_neg (by omega)], fun _ _ => rfl⟩
theorem okW_A1 (h : okW B v w) (f : Nat → Int32) (g : Nat → Int64) : okW B (vCu v (wA w) f g) (wA1 w) := okW_ext h (agr_vCu f g) wle_A1 rfl h.1 h.2.2.2
theorem vCu_C (v : VL) (n : Nat) (f : Nat → Int32) (g : Nat → Int64) : vC (vCu v n f g) n = f := if_pos rfl
theorem vCu_D (v : VL) (n : Nat) (f : Nat → Int32) (g : Nat → Int64) : vD (vCu v n f g) n = g := if_pos rfl
theorem wle_set {id : Nat} {cl : AC} : wle w (wHp w (hSet (wH w) id cl)) := ⟨Nat.le_refl _, Nat.le_refl _, Nat.le_refl _, Nat.le_refl _, Nat.le_refl _⟩
theorem okW_set {id : Nat} {cl : AC} (h : okW B v w) (hs : scC w cl) (ho : okC v cl) : okW B v (wHp w (hSet (wH w) id cl)) := by
  refine ⟨h.1, fun i hi => ?_, fun i hi => ?_, h.2.2.2⟩
  · show okC v (hGet B (hSet (wH w) id cl) i)
    rw [hGet_set]
    split
    · exact ho
    · exact h.2.1 i hi
  · show scC _ (hGet B (hSet (wH w) id cl) i)
    rw [hGet_set]
    split
    · exact scC_mono wle_set hs
    · exact scC_mono wle_set (h.2.2.1 i hi)
/-- a cell written, in a world that has grown -/
theorem gs_set {pc id : Nat} {st : List AV} {w1 : AW} {v' : VL} {cl : AC} {e : va_E} (g : GS k x mn c dT w0 v0 (sGoW s pc st (wHp w1 (hSet (wH w1) id cl)))) (I : Inv k x mn c dT w0 v0 s v) (hl : wle (sW s) w1) (hH : wH w1 = wH (sW s)) (ha : agr (sW s) v v') (hw : okW (xB x) v' w1) (hid : id < (wH (sW s)).1) (hs : scC w1 cl) (ho : okC v' cl) (hc : cC v' dT cl = e) (hst : scL (sW s) st) :
    WS k pc (cL v (sLv s)) (st.map (cv v)) ((cW v dT (xB x) (wH (sW s))).set id (vA v id, e)) (sC s) (sS s) := by
  have hl2 : wle (sW s) (wHp w1 (hSet (wH w1) id cl)) := wle_tr hl wle_set
  have h := g v' (Inv_go I hl2 ha (okW_set hw hs ho) (scO_mono hl2 I.2.2.2.1) (scL_mono hl2 hst) I.2.2.2.2.2.1 (fun p hp => hp))
  replace h : WS k pc (cL v' (sLv s)) (st.map (cv v')) (cW v' dT (xB x) (hSet (wH w1) id cl)) (sC s) (sS s) := h
  rw [cW_set (by rw [hH]; exact hid), hH, ← cW_agr ha I.2.2.1.2.2.1, ← cL_agr ha I.2.2.2.1, ← cS_agr ha hst, hc, ← ha.2.1 id hid] at h
  exact h
theorem getD_set {l : List AV} {z j : Nat} {a d : AV} (h : z < l.length) : (l.set z a).getD j d = if j = z then a else l.getD j d := by
  rw [List.getD_eq_getElem?_getD, List.getD_eq_getElem?_getD, List.getElem?_set]
  by_cases e : z = j
  · subst e
    rw [if_pos rfl, if_pos h, if_pos rfl]
    rfl
  · rw [if_neg e, if_neg (Ne.symm e)]
theorem sc_set {l : List AV} {z : Nat} {a : AV} (hl : ∀ b ∈ l, scV w b) (ha : scV w a) : ∀ b ∈ l.set z a, scV w b := fun b hb => by
  rcases List.mem_or_eq_of_mem_set hb with q | q
  · exact hl b q
  · rw [q]; exact ha
/-- ints written -/
theorem arSetI {id t n : Nat} {b b' : AB} {i a : AV} {w1 : AW} (h : arSet w n b false i a = some (some (w1, b'))) (hid : id < (wH w).1) (hg : hGet B (wH w) id = .inl (t, n, b)) (ht : t = 0 ∨ t = 2) (ha : aIsI a = true) (hv : okW B v w) (hsa : scV w a) :
    wle w w1 ∧ wH w1 = wH w ∧ aIsI i = true ∧ vp_in (cZ v i) n ∧ ∃ v', agr w v v' ∧ okW B v' w1 ∧ scC w1 (.inl (t, n, b')) ∧ okC v' (.inl (t, n, b')) ∧ cB v' t n b' = .inl (upd (fun j => if j < n then cBz v b j else 0) (cZ v i).toNatClampNeg (cZ v a)) := by
  have hsc := hv.2.2.1 id hid
  have hok := hv.2.1 id hid
  rw [hg] at hsc hok
  unfold arSet at h
  cases hb : aBd (wE w) i with
  | none => rw [hb] at h; cases h
  | some p =>
    obtain ⟨lo, hi⟩ := p
    rw [hb] at h
    simp only [] at h
    by_cases hc : (decide (0 ≤ lo) && decide (hi < (n : Int))) = true
    · rw [if_pos hc] at h
      simp only [Bool.and_eq_true, decide_eq_true_eq] at hc
      obtain ⟨p1, p2, -, -⟩ := ix_ok hv.1 hb hc.1 hc.2
      have hiI := aBd_int hb
      have put : ∀ {v' : VL} {f : Nat → Int32}, (∀ j, j < n → cBz v' b' j = upd (cBz v b) (cZ v i).toNatClampNeg (cZ v a) j) → cB v' t n b' = .inl (upd (fun j => if j < n then cBz v b j else 0) (cZ v i).toNatClampNeg (cZ v a)) := by
        intro v' f hj
        have e : cB v' t n b' = .inl (fun j => if j < n then cBz v' b' j else 0) := by rcases ht with e | e <;> subst e <;> rfl
        rw [e]
        refine congrArg Sum.inl (funext fun j => ?_)
        show (if j < n then cBz v' b' j else 0) = if j = (cZ v i).toNatClampNeg then cZ v a else (if j < n then cBz v b j else 0)
        by_cases hjn : j < n
        · rw [if_pos hjn, hj j hjn, if_pos hjn]
          rfl
        · rw [if_neg hjn, if_neg (by omega), if_neg hjn]
      rcases b with l | e
      · simp only [] at h
        rcases i with z | j | m | j | q | j
        · simp only [] at h
          cases hz : l[z.toNat]? with
          | none => rw [hz] at h; cases h
          | some a0 =>
            rw [hz] at h
            cases h
            have hzl := (List.getElem?_eq_some_iff.mp hz).1
            have hzi : (cZ v (.inl z)).toNatClampNeg = z.toNat := by
              have : (cZ v (.inl z)).toInt = z := aBd_cz (E := wE w) (by rw [hb]; rfl)
              show (cZ v (.inl z)).toInt.toNat = _
              rw [this]
            refine ⟨wle_rf _, rfl, hiI, p1, v, agr_rf _ _, hv, sc_set hsc hsa, trivial, put (f := fun _ => 0) (fun j _ => ?_)⟩
            show cZ v ((l.set z.toNat a).getD j (aI 0)) = upd _ _ _ j
            rw [getD_set hzl, hzi]
            unfold upd
            by_cases ej : j = z.toNat
            · rw [if_pos ej, if_pos ej]
            · rw [if_neg ej, if_neg ej]
              rfl
        all_goals cases h
      · simp only [Bool.false_eq_true, if_false] at h
        cases hba : aBd (wE w) a with
        | none => rw [hba] at h; cases h
        | some pa =>
          obtain ⟨al, ah⟩ := pa
          rw [hba] at h
          simp only [] at h
          have qa := aBd_ok hv.1 hba
          simp only [] at qa
          have hbd : ∀ j, j < n → e.1 ≤ (vC v e.2.2 j).toInt ∧ (vC v e.2.2 j).toInt ≤ e.2.1 := hok (by omega)
          have summ : ∀ {e' : Int × Int × Nat}, e' = (min e.1 al, max e.2.1 ah, wA w) → w1 = wA1 w → b' = .inr e' → wle w w1 ∧ wH w1 = wH w ∧ aIsI i = true ∧ vp_in (cZ v i) n ∧ ∃ v', agr w v v' ∧ okW B v' w1 ∧ scC w1 (.inl (t, n, b')) ∧ okC v' (.inl (t, n, b')) ∧ cB v' t n b' = .inl (upd (fun j => if j < n then cBz v (.inr e) j else 0) (cZ v i).toNatClampNeg (cZ v a)) := by
            intro e' e1 e2 e3
            subst e1
            subst e2
            subst e3
            refine ⟨wle_A1, rfl, hiI, p1, vCu v (wA w) (upd (vC v e.2.2) (cZ v i).toNatClampNeg (cZ v a)) (vD v 0), agr_vCu _ _, okW_A1 hv _ _, Nat.lt_succ_self _, fun _ j hj => ?_, put (f := fun _ => 0) (fun j _ => ?_)⟩
            · show min e.1 al ≤ (vC (vCu v (wA w) _ _) (wA w) j).toInt ∧ (vC (vCu v (wA w) _ _) (wA w) j).toInt ≤ max e.2.1 ah
              rw [vCu_C]
              unfold upd
              have := hbd j hj
              split <;> omega
            · show vC (vCu v (wA w) _ _) (wA w) j = _
              rw [vCu_C]
              rfl
          by_cases hq : (decide (e.1 = e.2.1) && inI e.1 && decide (al = e.1) && decide (ah = e.1)) = true
          · rw [if_pos hq] at h
            simp only [Bool.and_eq_true, decide_eq_true_eq] at hq
            cases h
            refine ⟨wle_rf _, rfl, hiI, p1, v, agr_rf _ _, hv, hsc, hok, put (f := fun _ => 0) (fun j hj => ?_)⟩
            show vC v e.2.2 j = upd (vC v e.2.2) _ _ j
            unfold upd
            split
            · have := hbd j hj
              apply Int32.toInt_inj.1
              omega
            · rfl
          · rw [if_neg hq] at h
            rcases i with z | j | m | j | q | j
            · simp only [] at h
              by_cases hr : (decide (e.1 = e.2.1) && inI e.1 && Nat.ble n 256) = true
              · rw [if_pos hr] at h
                simp only [Bool.and_eq_true, decide_eq_true_eq] at hr
                cases h
                have hzi : (cZ v (.inl z)).toNatClampNeg = z.toNat := by
                  have : (cZ v (.inl z)).toInt = z := aBd_cz (E := wE w) (by rw [hb]; rfl)
                  show (cZ v (.inl z)).toInt.toNat = _
                  rw [this]
                rw [hzi] at p2
                refine ⟨wle_rf _, rfl, hiI, p1, v, agr_rf _ _, hv, sc_set (fun b hb => by rw [(List.mem_replicate.mp hb).2]; trivial) hsa, trivial, put (f := fun _ => 0) (fun j hj => ?_)⟩
                show cZ v (((List.replicate n (aI e.1)).set z.toNat a).getD j (aI 0)) = upd (vC v e.2.2) _ _ j
                rw [getD_set (by rw [List.length_replicate]; exact p2), hzi]
                unfold upd
                by_cases ej : j = z.toNat
                · rw [if_pos ej, if_pos ej]
                · rw [if_neg ej, if_neg ej, List.getD_eq_getElem?_getD, List.getElem?_replicate, if_pos hj]
                  have := hbd j hj
                  apply Int32.toInt_inj.1
                  show (Int32.ofInt e.1).toInt = _
                  rw [z_in hr.1.2]
                  omega
              · rw [if_neg hr] at h
                cases h
                exact summ rfl rfl rfl
            all_goals (cases h; exact summ rfl rfl rfl)
    · rw [if_neg hc] at h
      cases h
/-- longs written -/
theorem arSetL {id n : Nat} {b b' : AB} {i a : AV} {w1 : AW} (h : arSet w n b true i a = some (some (w1, b'))) (hid : id < (wH w).1) (hg : hGet B (wH w) id = .inl (1, n, b)) (hv : okW B v w) (hsa : scV w a) :
    wle w w1 ∧ wH w1 = wH w ∧ aIsI i = true ∧ vp_in (cZ v i) n ∧ ∃ v', agr w v v' ∧ okW B v' w1 ∧ scC w1 (.inl (1, n, b')) ∧ okC v' (.inl (1, n, b')) ∧ cB v' 1 n b' = .inr (.inl (vp_updL (fun j => if j < n then cBq v b j else 0) (cZ v i).toNatClampNeg (cQ v a))) := by
  have hsc := hv.2.2.1 id hid
  rw [hg] at hsc
  unfold arSet at h
  cases hb : aBd (wE w) i with
  | none => rw [hb] at h; cases h
  | some p =>
    obtain ⟨lo, hi⟩ := p
    rw [hb] at h
    simp only [] at h
    by_cases hc : (decide (0 ≤ lo) && decide (hi < (n : Int))) = true
    · rw [if_pos hc] at h
      simp only [Bool.and_eq_true, decide_eq_true_eq] at hc
      obtain ⟨p1, p2, -, -⟩ := ix_ok hv.1 hb hc.1 hc.2
      have hiI := aBd_int hb
      have put : ∀ {v' : VL}, (∀ j, j < n → cBq v' b' j = vp_updL (cBq v b) (cZ v i).toNatClampNeg (cQ v a) j) → cB v' 1 n b' = .inr (.inl (vp_updL (fun j => if j < n then cBq v b j else 0) (cZ v i).toNatClampNeg (cQ v a))) := by
        intro v' hj
        show Sum.inr (Sum.inl (fun j => if j < n then cBq v' b' j else 0)) = _
        refine congrArg (fun f => Sum.inr (Sum.inl f)) (funext fun j => ?_)
        show (if j < n then cBq v' b' j else 0) = if j = (cZ v i).toNatClampNeg then cQ v a else (if j < n then cBq v b j else 0)
        by_cases hjn : j < n
        · rw [if_pos hjn, hj j hjn, if_pos hjn]
          rfl
        · rw [if_neg hjn, if_neg (by omega), if_neg hjn]
      rcases b with l | e
      · simp only [] at h
        rcases i with z | j | m | j | q | j
        · simp only [] at h
          cases hz : l[z.toNat]? with
          | none => rw [hz] at h; cases h
          | some a0 =>
            rw [hz] at h
            cases h
            have hzl := (List.getElem?_eq_some_iff.mp hz).1
            have hzi : (cZ v (.inl z)).toNatClampNeg = z.toNat := by
              have : (cZ v (.inl z)).toInt = z := aBd_cz (E := wE w) (by rw [hb]; rfl)
              show (cZ v (.inl z)).toInt.toNat = _
              rw [this]
            refine ⟨wle_rf _, rfl, hiI, p1, v, agr_rf _ _, hv, sc_set hsc hsa, trivial, put (fun j _ => ?_)⟩
            show cQ v ((l.set z.toNat a).getD j (aJ 0)) = vp_updL _ _ _ j
            rw [getD_set hzl, hzi]
            unfold vp_updL
            by_cases ej : j = z.toNat
            · rw [if_pos ej, if_pos ej]
            · rw [if_neg ej, if_neg ej]
              rfl
        all_goals cases h
      · simp only [if_true] at h
        cases h
        refine ⟨wle_A1, rfl, hiI, p1, vCu v (wA w) (vC v 0) (vp_updL (vD v e.2.2) (cZ v i).toNatClampNeg (cQ v a)), agr_vCu _ _, okW_A1 hv _ _, Nat.lt_succ_self _, fun q => absurd rfl q, put (fun j _ => ?_)⟩
        show vD (vCu v (wA w) _ _) (wA w) j = _
        rw [vCu_D]
        rfl
    · rw [if_neg hc] at h
      cases h
end ST5
end
section
/-! Steps: stores and puts -/
section ST6
variable {k : kx_T} {x : ACx} {mn c : Nat} {dT : Nat → ClassId} {w0 : AW} {v0 : VL} {s : AS} {v : VL} {Rs : List AR}
theorem aNm_isL (E : AE) (a : AV) : aIsL (aNm E a) = aIsL a := by
  rcases aNm_or E a with e | ⟨z, k, e, e2⟩
  · rw [e]
  · rw [e, e2]
    rfl
theorem aNm_cQ {E : AE} (h : okE v E) (a : AV) : cQ v (aNm E a) = cQ v a := by rw [cQ_cv, aNm_cv h, ← cQ_cv]
def bl01 (E : AE) (a : AV) : Bool := match aBd E a with | some (l, h) => decide (0 ≤ l) && decide (h ≤ 1) | none => false
theorem bl01_ok {E : AE} (hE : okE v E) {a : AV} (h : bl01 E a = true) : 0 ≤ (cZ v a).toInt ∧ (cZ v a).toInt ≤ 1 := by
  unfold bl01 at h
  cases hb : aBd E a with
  | none => rw [hb] at h; cases h
  | some p =>
    rw [hb] at h
    simp only [Bool.and_eq_true, decide_eq_true_eq] at h
    have := aBd_ok hE hb
    omega
theorem z01 {y : Int32} (h0 : 0 ≤ y.toInt) (h1 : y.toInt ≤ 1) : y = 0 ∨ y = 1 := by
  by_cases e : y.toInt = 0
  · exact Or.inl (Int32.toInt_inj.1 e)
  · exact Or.inr (Int32.toInt_inj.1 (show y.toInt = (1 : Int32).toInt by show y.toInt = 1; omega))
theorem st_ok {t : Nat} (so : SO k x mn c dT w0 v0 Rs (oSt (xB x) s t)) (I : Inv k x mn c dT w0 v0 s v) : ∃ a i id r n b, sSt s = a :: i :: aR (some id) :: r ∧ id < (wH (sW s)).1 ∧ hGet (xB x) (wH (sW s)) id = .inl (t, n, b) ∧ (if Nat.beq t 1 then aIsL (aNm (wE (sW s)) a) else aIsI (aNm (wE (sW s)) a)) = true ∧ (if Nat.beq t 2 then bl01 (wE (sW s)) (aNm (wE (sW s)) a) else true) = true ∧
    (WS k (sPc s) (cL v (sLv s)) ((sSt s).map (cv v)) (cW v dT (xB x) (wH (sW s))) (sC s) (sS s) ∨ ∃ w1 b', arSet (sW s) n b (Nat.beq t 1) (aNm (wE (sW s)) i) (aNm (wE (sW s)) a) = some (some (w1, b')) ∧ GS k x mn c dT w0 v0 (sGoW s (sPc s + 1) r (wHp w1 (hSet (wH w1) id (.inl (t, n, b')))))) := by
  obtain ⟨pc, lv, st, w, lp, ce, sl⟩ := s
  cases st with
  | nil => exact SO_no so
  | cons a st =>
    cases st with
    | nil => exact SO_no so
    | cons i st =>
      cases st with
      | nil => exact SO_no so
      | cons o r =>
        rcases o with z | j | m | j | o | j
        · exact SO_no so
        · exact SO_no so
        · exact SO_no so
        · exact SO_no so
        · cases o with
          | none => exact SO_no so
          | some id =>
            obtain ⟨h1, so1⟩ := so_if (b := Nat.blt id (wH w).1) so
            clear so
            cases hg : hGet (xB x) (wH w) id with
            | inr o =>
              simp only [hg] at so1
              exact SO_no so1
            | inl o =>
              obtain ⟨t', n, b⟩ := o
              simp only [hg] at so1
              obtain ⟨h2, so2⟩ := so_if (b := Nat.beq t' t && (if Nat.beq t 1 then aIsL (aNm (wE w) a) else aIsI (aNm (wE w) a))) so1
              clear so1
              simp only [Bool.and_eq_true] at h2
              have h20 := Nat.eq_of_beq_eq_true h2.1
              subst h20
              obtain ⟨h3, so3⟩ := so_if (b := if Nat.beq t' 2 then bl01 (wE w) (aNm (wE w) a) else true) so2
              clear so2
              refine ⟨a, i, id, r, n, b, rfl, Nat.blt_eq.mp h1, hg, h2.2, h3, ?_⟩
              cases ha : arSet w n b (Nat.beq t' 1) (aNm (wE w) i) (aNm (wE w) a) with
              | none =>
                simp only [ha] at so3
                exact SO_no so3
              | some o =>
                cases o with
                | none =>
                  simp only [ha] at so3
                  exact Or.inl (spl_all (s := (pc, lv, a :: i :: aR (some id) :: r, w, lp, ce, sl)) so3 I)
                | some q =>
                  obtain ⟨w1, b'⟩ := q
                  simp only [ha] at so3
                  exact Or.inr ⟨w1, b', rfl, SO_one so3⟩
        · exact SO_no so
theorem g_iastore (C : kx_ok k) (T : tyX k dT) (d : decode (kCc k) (sPc s) = .ok (.iastore, 1)) (so : SO k x mn c dT w0 v0 Rs (oSt (xB x) s 0)) : GS k x mn c dT w0 v0 s := fun v I => by
  obtain ⟨a, i, id, r, n, b, e, hid, hg, h1, -, h⟩ := st_ok so I
  rcases h with h | ⟨w1, b', h2, h3⟩
  · exact h
  · have hst := I.2.2.2.2.1
    rw [e] at hst
    have hE := I.2.2.1.1
    replace h1 : aIsI (aNm (wE (sW s)) a) = true := h1
    obtain ⟨f1, f2, f3, f4, v', f5, f6, f7, f8, f9⟩ := arSetI h2 hid hg (Or.inl rfl) h1 I.2.2.1 (aNm_sc (sc_hd hst))
    have g := gs_set (e := .inl (dT 0, n, .inl (upd (fun j => if j < n then cBz v b j else 0) (cZ v i).toNatClampNeg (cZ v a)))) h3 I f1 f2 f5 f6 hid f7 f8 (by show Sum.inl (dT 0, n, cB v' 0 n b') = _; rw [f9, aNm_cZ hE, aNm_cZ hE]) (sc_tl (sc_tl (sc_tl hst)))
    rw [aNm_isI] at h1 f3
    rw [aNm_cZ hE] at f4
    rw [e, List.map_cons, List.map_cons, List.map_cons, cv_int h1, cv_int f3]
    exact w_iast C id (cW_cell hid hg) (T 0) f4 d g
theorem g_bastore (C : kx_ok k) (T : tyX k dT) (d : decode (kCc k) (sPc s) = .ok (.bastore, 1)) (so : SO k x mn c dT w0 v0 Rs (oSt (xB x) s 2)) : GS k x mn c dT w0 v0 s := fun v I => by
  obtain ⟨a, i, id, r, n, b, e, hid, hg, h1, h10, h⟩ := st_ok so I
  rcases h with h | ⟨w1, b', h2, h3⟩
  · exact h
  · have hst := I.2.2.2.2.1
    rw [e] at hst
    have hE := I.2.2.1.1
    replace h1 : aIsI (aNm (wE (sW s)) a) = true := h1
    have hb := bl01_ok hE (a := aNm (wE (sW s)) a) h10
    rw [aNm_cZ hE] at hb
    have hn : vp_nar .boolean (cZ v a) = cZ v a := by
      rcases z01 hb.1 hb.2 with q | q <;> rw [q] <;> rfl
    obtain ⟨f1, f2, f3, f4, v', f5, f6, f7, f8, f9⟩ := arSetI h2 hid hg (Or.inr rfl) h1 I.2.2.1 (aNm_sc (sc_hd hst))
    have g := gs_set (e := .inl (dT 2, n, .inl (upd (fun j => if j < n then cBz v b j else 0) (cZ v i).toNatClampNeg (cZ v a)))) h3 I f1 f2 f5 f6 hid f7 f8 (by show Sum.inl (dT 2, n, cB v' 2 n b') = _; rw [f9, aNm_cZ hE, aNm_cZ hE]) (sc_tl (sc_tl (sc_tl hst)))
    rw [aNm_isI] at h1 f3
    rw [aNm_cZ hE] at f4
    rw [e, List.map_cons, List.map_cons, List.map_cons, cv_int h1, cv_int f3]
    exact w_zast C id (cW_cell hid hg) (T 2) f4 d (by rw [hn]; exact g)
theorem g_lastore (C : kx_ok k) (T : tyX k dT) (d : decode (kCc k) (sPc s) = .ok (.lastore, 1)) (so : SO k x mn c dT w0 v0 Rs (oSt (xB x) s 1)) : GS k x mn c dT w0 v0 s := fun v I => by
  obtain ⟨a, i, id, r, n, b, e, hid, hg, h1, -, h⟩ := st_ok so I
  rcases h with h | ⟨w1, b', h2, h3⟩
  · exact h
  · have hst := I.2.2.2.2.1
    rw [e] at hst
    have hE := I.2.2.1.1
    replace h1 : aIsL (aNm (wE (sW s)) a) = true := h1
    obtain ⟨f1, f2, f3, f4, v', f5, f6, f7, f8, f9⟩ := arSetL h2 hid hg I.2.2.1 (aNm_sc (sc_hd hst))
    have g := gs_set (e := .inl (dT 1, n, .inr (.inl (vp_updL (fun j => if j < n then cBq v b j else 0) (cZ v i).toNatClampNeg (cQ v a))))) h3 I f1 f2 f5 f6 hid f7 f8 (by show Sum.inl (dT 1, n, cB v' 1 n b') = _; rw [f9, aNm_cZ hE, aNm_cQ hE]) (sc_tl (sc_tl (sc_tl hst)))
    rw [aNm_isL] at h1
    rw [aNm_isI] at f3
    rw [aNm_cZ hE] at f4
    rw [e, List.map_cons, List.map_cons, List.map_cons, cv_long h1, cv_int f3]
    exact w_last C id (cW_cell hid hg) (T 1) f4 d g
/-- a value that fits its field -/
theorem fit_ok {E : AE} (hE : okE v E) {a : AV} {ty : FieldType} (h : fitK E (fK ty) a = true) : narrow ty (cv v a) = cv v a ∧ fits ty (cv v a) = true := by
  cases ty with
  | int => rw [cv_int h]; exact ⟨rfl, rfl⟩
  | boolean =>
    replace h : (aIsI a && bl01 E a) = true := h
    simp only [Bool.and_eq_true] at h
    rw [cv_int h.1]
    rcases z01 (bl01_ok hE h.2).1 (bl01_ok hE h.2).2 with q | q <;> rw [q] <;> exact ⟨rfl, rfl⟩
  | long => rw [cv_long h]; exact ⟨rfl, rfl⟩
  | object n => rw [cv_ref h]; cases cR v a <;> exact ⟨rfl, rfl⟩
  | array t => rw [cv_ref h]; cases cR v a <;> exact ⟨rfl, rfl⟩
  | _ => cases h
theorem g_put (C : kx_ok k) {idx ci f : Nat} (hc : cl_ok ci (nCl ci).2.1 (nCl ci).1 (nCl ci).2.2.1 (nCl ci).2.2.2) (hl : Cond.fieldLink (kOwn k) idx ((nCl ci).2.2.1 f).1 ((nCl ci).2.2.1 f).2.1 ((nCl ci).2.2.1 f).2.2.1 ∈ gT)
    (hfin : ((nCl ci).2.2.1 f).2.2.2 = false ∨ (((nCl ci).2.2.1 f).2.2.2 = true ∧ (kMe k).name = "<init>" ∧ ((nCl ci).2.2.1 f).1 = kOwn k)) (d : decode (kCc k) (sPc s) = .ok (.putfield idx, 3)) (so : SO k x mn c dT w0 v0 Rs (oPut x s ci f)) : GS k x mn c dT w0 v0 s := fun v I => by
  obtain ⟨pc, lv, st, w, lp, ce, sl⟩ := s
  cases st with
  | nil => exact SO_no so
  | cons a st =>
    cases st with
    | nil => exact SO_no so
    | cons o r =>
      rcases o with z | j | m | j | o | j
      · exact SO_no so
      · exact SO_no so
      · exact SO_no so
      · exact SO_no so
      · cases o with
        | none => exact SO_no so
        | some id =>
          obtain ⟨h1, so1⟩ := so_if (b := Nat.blt id (wH w).1 && fitK (wE w) (nKd ci f) a) so
          clear so
          simp only [Bool.and_eq_true] at h1
          have hid := Nat.blt_eq.mp h1.1
          cases hg : hGet (xB x) (wH w) id with
          | inl o =>
            simp only [hg] at so1
            exact SO_no so1
          | inr o =>
            obtain ⟨ci', fs⟩ := o
            simp only [hg] at so1
            obtain ⟨h2, so2⟩ := so_if (b := Nat.beq ci' ci && Nat.blt f fs.length && Nat.blt f (nCl ci).2.1) so1
            clear so1
            simp only [Bool.and_eq_true] at h2
            have h20 := Nat.eq_of_beq_eq_true h2.1.1
            subst h20
            have hE : okE v (wE w) := I.2.2.1.1
            obtain ⟨n1, n2⟩ := fit_ok hE h1.2
            have hst := I.2.2.2.2.1
            have hsc := I.2.2.1.2.2.1 id hid
            rw [hg] at hsc
            have g := gs_set (s := (pc, lv, a :: aR (some id) :: r, w, lp, ce, sl)) (w1 := w) (v' := v) (e := .inr (ci', (fs.map (cv v)).set f (cv v a))) (SO_one so2) I (wle_rf _) rfl (agr_rf _ _) I.2.2.1 hid (sc_set hsc (aNm_sc (sc_hd hst))) trivial (by show Sum.inr (ci', (fs.set f _).map (cv v)) = _; rw [List.map_set, aNm_cv hE]) (sc_tl (sc_tl hst))
            exact w_put C id hc (cW_cell hid hg) (Nat.blt_eq.mp h2.2) hl n1 n2 (by rw [List.length_map]; exact Nat.blt_eq.mp h2.1.2) hfin d g
      · exact SO_no so
end ST6
end
section
/-! Steps: switches, rows of objects, plain jumps -/
section ST7
variable {k : kx_T} {x : ACx} {mn c : Nat} {dT : Nat → ClassId} {w0 : AW} {v0 : VL} {s : AS} {v : VL} {Rs : List AR}
theorem tgt_nn {o : Int} (h : 0 ≤ (sPc s : Int) + o) : (sPc s : Int) + o = (tgt s o : Int) := by
  show _ = ((((sPc s : Int) + o).toNat : Nat) : Int)
  omega
theorem g_goto0 (C : kx_ok k) {o : Int} (d : decode (kCc k) (sPc s) = .ok (.goto o, 3)) (ht : (sPc s : Int) + o = (tgt s o : Int)) (lp : List ALp) (hlp : ∀ p ∈ lp, p ∈ sLp s) (g : GS k x mn c dT w0 v0 (tgt s o, sLv s, sSt s, sW s, lp, sC s, sS s)) : GS k x mn c dT w0 v0 s := fun v I =>
  w_goto C d ht (g v (Inv_go I (wle_rf _) (agr_rf _ _) I.2.2.1 I.2.2.2.1 I.2.2.2.2.1 I.2.2.2.2.2.1 hlp))
theorem g_switch (C : kx_ok k) {dflt lo hi : Int} {offs : Array Int} {len : Nat} (d : decode (kCc k) (sPc s) = .ok (.tableswitch dflt lo hi offs, len)) (hd : 0 ≤ (sPc s : Int) + dflt) (ho : ∀ (j : Nat) (o : Int), offs[j]? = some o → 0 ≤ (sPc s : Int) + o) (so : SO k x mn c dT w0 v0 Rs (oSw s dflt lo hi offs)) : GS k x mn c dT w0 v0 s := fun v I => by
  obtain ⟨pc, lv, st, w, lp, ce, sl⟩ := s
  cases st with
  | nil => exact SO_no so
  | cons a r =>
    have hr : scL w r := sc_tl I.2.2.2.2.1
    have hE : okE v (wE w) := I.2.2.1.1
    rcases a with z | j | m | j | o | j
    · obtain ⟨h1, so1⟩ := so_if (b := inI z) so
      clear so
      by_cases hz : (decide (z < lo) || decide (hi < z)) = true
      · rw [if_pos hz] at so1
        simp only [Bool.or_eq_true, decide_eq_true_eq] at hz
        exact w_tabOut C d (by rw [z_in h1]; exact hz) (tgt_nn (s := (pc, lv, aI z :: r, w, lp, ce, sl)) hd) (gs_same (s := (pc, lv, aI z :: r, w, lp, ce, sl)) (SO_one so1) I hr)
      · rw [if_neg hz] at so1
        simp only [Bool.or_eq_true, decide_eq_true_eq, not_or] at hz
        cases hoff : offs[(z - lo).toNat]? with
        | none => simp only [hoff] at so1; exact SO_no so1
        | some o =>
          simp only [hoff] at so1
          exact w_tabIn C d (by rw [z_in h1]; exact hz.1) (by rw [z_in h1]; exact hz.2) (by rw [z_in h1]; exact hoff) (tgt_nn (s := (pc, lv, aI z :: r, w, lp, ce, sl)) (ho _ _ hoff)) (gs_same (s := (pc, lv, aI z :: r, w, lp, ce, sl)) (SO_one so1) I hr)
    · cases he : (wE w)[j]? with
      | none =>
        replace so : SO k x mn c dT w0 v0 Rs (match (wE w)[j]? with
          | some b => some (((List.range (hi - lo + 1).toNat).flatMap (fun (i : Nat) => if (decide (b.1 ≤ lo + (i : Int)) && decide (lo + (i : Int) ≤ b.2.1)) = true then [sGoW (pc, lv, aS j :: r, w, lp, ce, sl) pc (aS j :: r) (wEnv w (eSet (wE w) j (lo + (i : Int)) (lo + (i : Int))))] else [])).map (fun t => sGoW t (sPc t) (aNm (wE (sW t)) (aS j) :: r) (sW t)) ++ ((if b.1 < lo then [sGoW (pc, lv, aS j :: r, w, lp, ce, sl) ((pc : Int) + dflt).toNat r (wEnv w (eSet (wE w) j b.1 (min b.2.1 (lo - 1))))] else []) ++ (if hi < b.2.1 then [sGoW (pc, lv, aS j :: r, w, lp, ce, sl) ((pc : Int) + dflt).toNat r (wEnv w (eSet (wE w) j (max b.1 (hi + 1)) b.2.1))] else [])), [])
          | none => none) := so
        rw [he] at so
        exact SO_no so
      | some b =>
        replace so : SO k x mn c dT w0 v0 Rs (match (wE w)[j]? with
          | some b => some (((List.range (hi - lo + 1).toNat).flatMap (fun (i : Nat) => if (decide (b.1 ≤ lo + (i : Int)) && decide (lo + (i : Int) ≤ b.2.1)) = true then [sGoW (pc, lv, aS j :: r, w, lp, ce, sl) pc (aS j :: r) (wEnv w (eSet (wE w) j (lo + (i : Int)) (lo + (i : Int))))] else [])).map (fun t => sGoW t (sPc t) (aNm (wE (sW t)) (aS j) :: r) (sW t)) ++ ((if b.1 < lo then [sGoW (pc, lv, aS j :: r, w, lp, ce, sl) ((pc : Int) + dflt).toNat r (wEnv w (eSet (wE w) j b.1 (min b.2.1 (lo - 1))))] else []) ++ (if hi < b.2.1 then [sGoW (pc, lv, aS j :: r, w, lp, ce, sl) ((pc : Int) + dflt).toNat r (wEnv w (eSet (wE w) j (max b.1 (hi + 1)) b.2.1))] else [])), [])
          | none => none) := so
        rw [he] at so
        obtain ⟨ss, rs, e, g, -⟩ := so
        cases e
        have q := hE j b he
        by_cases c1 : (vI v j).toInt < lo
        · obtain ⟨n1, o1⟩ := eSet_ok (lo := b.1) (hi := min b.2.1 (lo - 1)) hE he q.1 (by omega)
          obtain ⟨q1, q2⟩ := okW_nar I.2.2.1 n1 o1
          refine w_tabOut C d (Or.inl c1) (tgt_nn (s := (pc, lv, aS j :: r, w, lp, ce, sl)) hd) (gs_go (s := (pc, lv, aS j :: r, w, lp, ce, sl)) (g (sGoW (pc, lv, aS j :: r, w, lp, ce, sl) ((pc : Int) + dflt).toNat r (wEnv w (eSet (wE w) j b.1 (min b.2.1 (lo - 1))))) ?_) I q2 rfl (agr_rf _ _) q1 (scL_mono q2 hr) rfl)
          refine List.mem_append_right _ (List.mem_append_left _ ?_)
          rw [if_pos (by omega)]
          exact List.mem_cons_self
        · by_cases c2 : hi < (vI v j).toInt
          · obtain ⟨n1, o1⟩ := eSet_ok (lo := max b.1 (hi + 1)) (hi := b.2.1) hE he (by omega) q.2.1
            obtain ⟨q1, q2⟩ := okW_nar I.2.2.1 n1 o1
            refine w_tabOut C d (Or.inr c2) (tgt_nn (s := (pc, lv, aS j :: r, w, lp, ce, sl)) hd) (gs_go (s := (pc, lv, aS j :: r, w, lp, ce, sl)) (g (sGoW (pc, lv, aS j :: r, w, lp, ce, sl) ((pc : Int) + dflt).toNat r (wEnv w (eSet (wE w) j (max b.1 (hi + 1)) b.2.1))) ?_) I q2 rfl (agr_rf _ _) q1 (scL_mono q2 hr) rfl)
            refine List.mem_append_right _ (List.mem_append_right _ ?_)
            rw [if_pos (by omega)]
            exact List.mem_cons_self
          · have hz : lo + ((((vI v j).toInt - lo).toNat : Nat) : Int) = (vI v j).toInt := by omega
            obtain ⟨n1, o1⟩ := eSet_ok (lo := (vI v j).toInt) (hi := (vI v j).toInt) hE he (Int.le_refl _) (Int.le_refl _)
            obtain ⟨q1, q2⟩ := okW_nar I.2.2.1 n1 o1
            refine gs_go (s := (pc, lv, aS j :: r, w, lp, ce, sl)) (pc := pc) (st := aNm (eSet (wE w) j (vI v j).toInt (vI v j).toInt) (aS j) :: r) (w := wEnv w (eSet (wE w) j (vI v j).toInt (vI v j).toInt)) (g _ ?_) I q2 rfl (agr_rf _ _) q1 (sc_cons (aNm_sc (scV_mono q2 (sc_hd I.2.2.2.2.1))) (scL_mono q2 hr)) ?_
            · refine List.mem_append_left _ (List.mem_map.mpr ⟨sGoW (pc, lv, aS j :: r, w, lp, ce, sl) pc (aS j :: r) (wEnv w (eSet (wE w) j (vI v j).toInt (vI v j).toInt)), List.mem_flatMap.mpr ⟨((vI v j).toInt - lo).toNat, List.mem_range.mpr (by omega), ?_⟩, rfl⟩)
              rw [hz, if_pos (by simp only [Bool.and_eq_true, decide_eq_true_eq]; exact ⟨q.1, q.2.1⟩)]
              exact List.mem_cons_self
            · rw [List.map_cons, aNm_cv o1]
              rfl
    all_goals exact SO_no so
theorem g_aast (C : kx_ok k) (T : tyX k dT) (hc : cl_ok 0 (nCl 0).2.1 (nCl 0).1 (nCl 0).2.2.1 (nCl 0).2.2.2) (d : decode (kCc k) (sPc s) = .ok (.aastore, 1)) (so : SO k x mn c dT w0 v0 Rs (fAst x (fun _ _ _ _ => none) mn c s)) : GS k x mn c dT w0 v0 s := fun v I => by
  obtain ⟨pc, lv, st, w, lp, ce, sl⟩ := s
  have hE : okE v (wE w) := I.2.2.1.1
  unfold fAst at so
  split at so
  · rename_i y q id r hst
    have hst' : st = aR (some y) :: aI q :: aR (some id) :: r := hst
    subst hst'
    obtain ⟨h1, so1⟩ := so_if so
    clear so hst
    simp only [Bool.and_eq_true] at h1
    have i1 : id < (wH w).1 := Nat.blt_eq.mp h1.1
    have i2 : y < (wH w).1 := Nat.blt_eq.mp h1.2
    split at so1
    · rename_i n l fs hg1 hg2
      obtain ⟨h2, so2⟩ := so_if so1
      simp only [Bool.and_eq_true, decide_eq_true_eq] at h2
      obtain ⟨⟨⟨a1, a2⟩, a3⟩, a4⟩ := h2
      have a4 := Nat.eq_of_beq_eq_true a4
      have hqI : inI q = true := z_inI (by omega) (by omega)
      have hi : (Int32.ofInt q).toNatClampNeg = q.toNat := by
        show (Int32.ofInt q).toInt.toNat = _
        rw [z_in hqI]
      have hin : vp_in (Int32.ofInt q) n := by
        rintro (z | z)
        · rw [Int32.lt_iff_toInt_lt, z_in hqI] at z
          have : (0 : Int32).toInt = 0 := rfl
          omega
        · rw [hi] at z; omega
      have hsc := I.2.2.1.2.2.1 id i1
      replace hg1 : hGet (xB x) (wH w) id = .inl (5, n, .inl l) := hg1
      rw [hg1] at hsc
      have g := gs_set (s := (pc, lv, aR (some y) :: aI q :: aR (some id) :: r, w, lp, ce, sl)) (w1 := w) (v' := v) (e := .inl (dT 5, n, .inr (.inr (.inr (.inr (va_up (fun j => if j < n then cBr v (.inl l) j else none) (Int32.ofInt q).toNatClampNeg (some (vA v y)))))))) (SO_one so2) I (wle_rf _) rfl (agr_rf _ _) I.2.2.1 i1 (sc_set hsc i2) trivial (by
        show Sum.inl (dT 5, n, Sum.inr (Sum.inr (Sum.inr (Sum.inr (fun j => if j < n then cR v ((l.set q.toNat (aR (some y))).getD j (aR none)) else none))))) = _
        refine congrArg (fun f => Sum.inl (dT 5, n, Sum.inr (Sum.inr (Sum.inr (Sum.inr f))))) (funext fun j => ?_)
        show _ = if j = (Int32.ofInt q).toNatClampNeg then some (vA v y) else (if j < n then cR v (l.getD j (aR none)) else none)
        rw [hi, getD_set (by omega)]
        by_cases ej : j = q.toNat
        · rw [if_pos ej, if_pos ej, if_pos (by omega)]
          rfl
        · rw [if_neg ej, if_neg ej]) (sc_tl (sc_tl (sc_tl I.2.2.2.2.1)))
      exact w_aast C id y (cW_cell i1 hg1) (T 5) (cW_cell i2 hg2) hc.1 hin d g
    · exact SO_no so1
  · exact SO_no so
theorem g_objInit (C : kx_ok k) {idx : Nat} (hl : Cond.methodLink (kOwn k) idx Lib.objectInit ∈ gT) (hi : Cond.instanceMethod Lib.objectInit ∈ gT) (hcd : Cond.code Lib.objectInit ⟨#[0xb1]⟩ 1 none ∈ gT) (hF : (kR k).frames = mFr (xM x mn)) (hL : (kR k).locals = mLo (xM x mn)) (d : decode (kCc k) (sPc s) = .ok (.invokespecial idx, 3)) {a b : Nat} (hb : b = 4) (so : SO k x mn c dT w0 v0 Rs (fInvI a b x (fun _ _ _ _ => none) mn c s)) : GS k x mn c dT w0 v0 s := fun v I => by
  subst hb
  obtain ⟨pc, lv, st, w, lp, ce, sl⟩ := s
  cases st with
  | nil => exact SO_no so
  | cons o r =>
    rcases o with z | j | m | j | o | j
    · exact SO_no so
    · exact SO_no so
    · exact SO_no so
    · exact SO_no so
    · cases o with
      | none => exact SO_no so
      | some id =>
        obtain ⟨h1, so1⟩ := so_if (b := Nat.ble 1 (mFr (xM x mn)) && Nat.ble ((r.map aCat).sum + 12) (mLo (xM x mn))) so
        simp only [Bool.and_eq_true] at h1
        refine w_objInit C hl hi hcd d (by rw [hF]; exact Nat.le_of_ble_eq_true h1.1) ?_ (gs_same (s := (pc, lv, aR (some id) :: r, w, lp, ce, sl)) (SO_one so1) I (sc_tl I.2.2.2.2.1))
        have e : ((r.map (cv v)).map fun v => v.category) = r.map aCat := by
          rw [List.map_map]
          exact List.map_congr_left (fun a _ => cv_cat v a)
        rw [hL]
        show (((r.map (cv v)).map fun v => v.category).sum) + 12 ≤ _
        rw [e]
        exact Nat.le_of_ble_eq_true h1.2
    · exact SO_no so
end ST7
end
section
/-! Loops -/
section LP
variable {k : kx_T} {x : ACx} {mn c : Nat} {dT : Nat → ClassId} {w0 : AW} {v0 : VL} {s : AS} {v : VL} {Rs : List AR} {wB : AW}
theorem mtA_cnt {n : Nat × Nat × Nat} {w u : AW} {pl : List (AV × AV)} (h : mtA x n w u pl = true) : wX w = wX u ∧ (wH w).1 = (wH u).1 := by
  unfold mtA mtA0 at h
  simp only [Bool.and_eq_true] at h
  obtain ⟨⟨⟨⟨-, e7⟩, e8⟩, -⟩, -⟩ := h
  exact ⟨Nat.eq_of_beq_eq_true e7, Nat.eq_of_beq_eq_true e8⟩
theorem plO_ok : ∀ {l q : List (Option AV)} {pl : List (AV × AV)}, plO l q = some pl → q.length = l.length ∧ (∀ p ∈ pl, some p.1 ∈ l) ∧ ∀ (i : Nat) (b : AV), q[i]? = some (some b) → ∃ a, l[i]? = some (some a) ∧ (a, b) ∈ pl
  | [], [], pl, h => by
    cases h
    exact ⟨rfl, fun p hp => absurd hp List.not_mem_nil, fun i b hb => by simp at hb⟩
  | [], _ :: _, pl, h => by cases h
  | none :: _, [], pl, h => by cases h
  | some _ :: _, [], pl, h => by cases h
  | o :: r, none :: q, pl, h => by
    have h' : plO r q = some pl := by
      cases o <;> exact h
    obtain ⟨g1, g2, g3⟩ := plO_ok h'
    refine ⟨by simp [g1], fun p hp => List.mem_cons_of_mem _ (g2 p hp), fun i b hb => ?_⟩
    cases i with
    | zero => cases hb
    | succ i => exact g3 i b hb
  | none :: r, some b0 :: q, pl, h => by cases h
  | some a :: r, some b0 :: q, pl, h => by
    replace h : (match plO r q with
      | some l => some ((a, b0) :: l)
      | none => none) = some pl := h
    cases hq : plO r q with
    | none => rw [hq] at h; cases h
    | some pl' =>
      rw [hq] at h
      cases h
      obtain ⟨g1, g2, g3⟩ := plO_ok hq
      refine ⟨by simp [g1], fun p hp => ?_, fun i b hb => ?_⟩
      · rcases List.mem_cons.mp hp with e | e
        · rw [e]; exact List.mem_cons_self
        · exact List.mem_cons_of_mem _ (g2 p e)
      · cases i with
        | zero =>
          cases hb
          exact ⟨a, rfl, List.mem_cons_self⟩
        | succ i =>
          obtain ⟨a', h1, h2⟩ := g3 i b hb
          exact ⟨a', h1, List.mem_cons_of_mem _ h2⟩
theorem mtS_ok {n : Nat × Nat × Nat} {w u : AW} {l l1 : List (Option AV)} (h : mtS x n w u l l1 = true) (hB : ∀ i, scC wB (xB x i)) (hBn : wle wB (fkw n (wH w).1 (wX w))) (hv : okW (xB x) v w) (hl : scO w l) :
    (wX w = wX u ∧ (wH w).1 = (wH u).1) ∧ l1.length = l.length ∧ scO u l1 ∧ wle (fkw n (wH w).1 (wX w)) u ∧ ∃ v', agr (fkw n (wH w).1 (wX w)) v v' ∧ okW (xB x) v' u ∧ cW v' dT (xB x) (wH u) = cW v dT (xB x) (wH w) ∧ (∀ q ∈ cL v' l1, q ∈ cL v l) ∧ ∀ (i : Nat) (a b : AV), lGet l i = some a → lGet l1 i = some b → cv v' b = cv v a := by
  unfold mtS at h
  cases hp : plO l l1 with
  | none => rw [hp] at h; cases h
  | some pl =>
    rw [hp] at h
    obtain ⟨g1, g2, g3⟩ := plO_ok hp
    obtain ⟨v', e1, e2, e3, e4, e5⟩ := mtA_ok (dT := dT) h hB hBn hv (fun p hp => hl _ (g2 p hp))
    refine ⟨mtA_cnt h, g1, fun b hb => ?_, e5, v', e1, e2, e3, fun q hq => ?_, fun i a b ha hb => ?_⟩
    · obtain ⟨i, hi⟩ := List.mem_iff_getElem?.mp hb
      obtain ⟨a, -, h2⟩ := g3 i b hi
      exact (e4 _ h2).2
    · obtain ⟨i, y⟩ := q
      obtain ⟨b, hb, rfl⟩ := cL_mem.mp hq
      obtain ⟨a, h1, h2⟩ := g3 i b hb
      exact cL_mem.mpr ⟨a, h1, (e4 _ h2).1⟩
    · obtain ⟨a', h1, h2⟩ := g3 i b (lGet_mem hb)
      rw [lGet_mem ha] at h1
      cases h1
      exact (e4 _ h2).1
theorem w_lv {pc : Nat} {lv lv' : List (Nat × Value)} {st : List Value} {ws : va_W} {ce sl : Nat} (h : WS k pc lv st ws ce sl) (hs : ∀ q ∈ lv, q ∈ lv') : WS k pc lv' st ws ce sl :=
  fun H locs ls hP hD hS hl => h H locs ls hP hD hS (lv_mono hl hs)
theorem lpAt_ok {t : Nat} : ∀ {l : List ALp} {p : ALp}, lpAt t l = some p → p ∈ l ∧ p.1 = t
  | [], p, h => by cases h
  | q :: r, p, h => by
    replace h : (if Nat.beq q.1 t = true then some q else lpAt t r) = some p := h
    split at h
    · rename_i hc
      cases h
      exact ⟨List.mem_cons_self, Nat.eq_of_beq_eq_true hc⟩
    · have := lpAt_ok h
      exact ⟨List.mem_cons_of_mem _ this.1, this.2⟩
theorem rkd_s (E : AE) (up : Bool) (a : AV) (kc : Nat) : rkd E up a (aS kc) = ((match a with
      | .inr (.inl j) => (match E[j]? with | some e => Nat.beq e.2.2.1 kc && decide (if up = true then 0 < e.2.2.2 else e.2.2.2 < 0) | none => false)
      | _ => false) ||
    (match aBd E a, aBd E (aS kc) with
      | some (l, h), some (l', h') => decide (if up = true then h' < l else h < l')
      | _, _ => false)) := rfl
theorem rkd_ok {E : AE} (hE : okE v E) {up : Bool} {a : AV} {kc : Nat} (h : rkd E up a (aS kc) = true) : if up = true then (vI v kc).toInt < (cZ v a).toInt else (cZ v a).toInt < (vI v kc).toInt := by
  rw [rkd_s] at h
  rw [Bool.or_eq_true] at h
  rcases h with h | h
  · rcases a with z | j | m | j | r | j
    · cases h
    · simp only [] at h
      cases he : E[j]? with
      | none => rw [he] at h; cases h
      | some e =>
        rw [he] at h
        simp only [Bool.and_eq_true, decide_eq_true_eq] at h
        have h1 := Nat.eq_of_beq_eq_true h.1
        have q := (hE j e he).2.2
        rw [h1] at q
        have h2 := h.2
        cases up with
        | true =>
          simp only [if_true] at h2 ⊢
          show _ < (vI v j).toInt
          omega
        | false =>
          simp only [Bool.false_eq_true, if_false] at h2 ⊢
          show (vI v j).toInt < _
          omega
    all_goals cases h
  · cases ha : aBd E a with
    | none => rw [ha] at h; cases h
    | some p =>
      cases hb : aBd E (aS kc) with
      | none => rw [ha, hb] at h; cases h
      | some q =>
        rw [ha, hb] at h
        have q1 := aBd_ok hE ha
        have q2 := aBd_ok hE hb
        have h2 := of_decide_eq_true h
        replace q2 : q.1 ≤ (vI v kc).toInt ∧ (vI v kc).toInt ≤ q.2 := q2
        cases up with
        | true =>
          simp only [if_true] at h2 ⊢
          omega
        | false =>
          simp only [Bool.false_eq_true, if_false] at h2 ⊢
          omega
/-- how far a loop can still go -/
def lpM (l1 : List (Option AV)) (ct : Nat) (up : Bool) (u : VL) : Nat := match lGet l1 ct with
  | some (.inr (.inl kc)) => if up = true then (2147483647 - (vI u kc).toInt).toNat else ((vI u kc).toInt + 2147483648).toNat
  | _ => 0
theorem lpM_lt {l1 : List (Option AV)} {ct : Nat} {up : Bool} {u z : VL} {kc : Nat} (h : lGet l1 ct = some (aS kc)) (hr : if up = true then (vI u kc).toInt < (vI z kc).toInt else (vI z kc).toInt < (vI u kc).toInt) : lpM l1 ct up z < lpM l1 ct up u := by
  unfold lpM
  rw [h]
  have q1 := z_toInt (vI u kc)
  have q2 := z_toInt (vI z kc)
  cases up with
  | true =>
    simp only [if_true] at hr ⊢
    omega
  | false =>
    simp only [Bool.false_eq_true, if_false] at hr ⊢
    omega
abbrev cnt (w : AW) : Nat × Nat × Nat := ((wE w).length, wL w, wA w)
theorem wle_fk (w : AW) : wle w (fkw (cnt w) (wH w).1 (wX w)) := ⟨by rw [fkw_len]; exact Nat.le_refl _, Nat.le_refl _, Nat.le_refl _, Nat.le_refl _, Nat.le_refl _⟩
theorem g_goto (C : kx_ok k) (hB : ∀ i, scC wB (xB x i)) (hB0 : wle wB w0) {o : Int} (d : decode (kCc k) (sPc s) = .ok (.goto o, 3)) (ht : (sPc s : Int) + o = (tgt s o : Int)) (so : SO k x mn c dT w0 v0 Rs (oGoto x mn c s (tgt s o))) : GS k x mn c dT w0 v0 s := by
  generalize htt : tgt s o = t at so ht
  unfold oGoto at so
  by_cases hf : Nat.blt (sPc s) t = true
  · rw [if_pos hf] at so
    subst htt
    exact g_goto0 C d ht (sLp s) (fun _ h => h) (SO_one so)
  · rw [if_neg hf] at so
    simp only [] at so
    have hlp : ∀ p ∈ (sLp s).filter (fun p => Nat.ble p.1 t), p ∈ sLp s := fun p hp => (List.mem_filter.mp hp).1
    generalize (sLp s).filter (fun p => Nat.ble p.1 t) = lp at so hlp
    cases hx : xLh x c mn t with
    | none =>
      rw [hx] at so
      subst htt
      exact g_goto0 C d ht lp hlp (SO_one so)
    | some hh =>
      obtain ⟨hs, ct, up⟩ := hh
      rw [hx] at so
      obtain ⟨pc, lv, st, w, lps, ce, sl⟩ := s
      cases st with
      | cons a r => exact SO_no so
      | nil =>
        intro v I
        have hlv : scO w lv := I.2.2.2.1
        have hn : lv.length = kN k := I.2.2.2.2.2.1
        refine w_goto C d ht ?_
        simp only [] at so
        cases hp : lpAt t lp with
        | some p =>
          rw [hp] at so
          simp only [] at so
          obtain ⟨h1, so1⟩ := so_if so
          clear so
          simp only [Bool.and_eq_true] at h1
          obtain ⟨⟨h1, h2⟩, h3⟩ := h1
          have h2 : ce = 0 := Nat.eq_of_beq_eq_true h2
          have h3 : sl = 0 := Nat.eq_of_beq_eq_true h3
          obtain ⟨hpm, hpt⟩ := lpAt_ok hp
          obtain ⟨l1, l2, l3, l4, l5, l6⟩ := I.2.2.2.2.2.2 p (hlp p hpm)
          cases ha : lGet lv ct with
          | none => simp only [ha] at so1; exact SO_no so1
          | some a =>
            cases hb : lGet p.2.1 ct with
            | none => simp only [ha, hb] at so1; exact SO_no so1
            | some b =>
              simp only [ha, hb] at so1
              obtain ⟨h4, -⟩ := so_if so1
              simp only [Bool.and_eq_true] at h4
              rcases b with z | kc | m | j | q | j
              · cases h4.2
              · have hBn : wle wB (fkw p.2.2.2 (wH w).1 (wX w)) := by
                  have := wle_tr hB0 l5
                  refine ⟨this.1, ?_, this.2.2.1, this.2.2.2.1, ?_⟩
                  · exact Nat.le_trans (wle_tr hB0 I.1).2.1 (Nat.le_refl _)
                  · exact Nat.le_trans (wle_tr hB0 I.1).2.2.2.2 (Nat.le_refl _)
                obtain ⟨⟨c1, c2⟩, -, -, -, v', e1, e2, e3, e4, e5⟩ := mtS_ok (dT := dT) h1 hB hBn I.2.2.1 hlv
                have hr := rkd_ok I.2.2.1.1 h4.1
                have hk : vI v' kc = cZ v a := by
                  have := congrArg vz (e5 ct a (aS kc) ha hb)
                  rw [← cZ_cv, ← cZ_cv] at this
                  exact this
                have hW := l6 hs ct up kc (by rw [hpt]; exact hx) hb v' e2 (by rw [← c1, ← c2]; exact e1) (by rw [hk]; exact hr)
                rw [hpt, e3] at hW
                show WS k t (cL v lv) [] (cW v dT (xB x) (wH w)) ce sl
                rw [h2, h3]
                exact w_lv hW e4
              all_goals cases h4.2
        | none =>
          rw [hp] at so
          simp only [] at so
          cases hh : hvs x lv w hs with
          | none => simp only [hh] at so; exact SO_no so
          | some q =>
            obtain ⟨l1, w1⟩ := q
            simp only [hh] at so
            obtain ⟨h1, so1⟩ := so_if so
            clear so
            simp only [Bool.and_eq_true] at h1
            obtain ⟨⟨h1, h2⟩, h3⟩ := h1
            have h2 : ce = 0 := Nat.eq_of_beq_eq_true h2
            have h3 : sl = 0 := Nat.eq_of_beq_eq_true h3
            have g := SO_one (t := (t, l1, [], w1, (t, l1, w1, cnt w) :: lp, 0, 0)) so1
            have hfk := wle_fk w
            obtain ⟨⟨c1, c2⟩, d1, d2, d3, v', e1, e2, e3, e4, -⟩ := mtS_ok (dT := dT) (n := cnt w) h1 hB (wle_tr (wle_tr hB0 I.1) hfk) I.2.2.1 hlv
            have hlen : l1.length = kN k := d1.trans hn
            have claim : ∀ (m : Nat) (u : VL), okW (xB x) u w1 → agr (fkw (cnt w) (wH w).1 (wX w)) v u → lpM l1 ct up u < m → WS k t (cL u l1) [] (cW u dT (xB x) (wH w1)) 0 0 := by
              intro m
              induction m with
              | zero => intro u _ _ hm; exact absurd hm (Nat.not_lt_zero _)
              | succ m ih =>
                intro u hu hag hm
                have hagw : agr w v u := agr_mono hag hfk
                have hww : wle w w1 := wle_tr hfk d3
                refine g u ⟨wle_tr I.1 hww, agr_tr I.2.1 (agr_mono hagw I.1), hu, d2, fun a ha => absurd ha List.not_mem_nil, hlen, fun p hpm => ?_⟩
                rcases List.mem_cons.mp hpm with e | e
                · subst e
                  refine ⟨by show wle (fkw (cnt w) (wH w1).1 (wX w1)) w1; rw [← c1, ← c2]; exact d3, wle_rf _, d2, hlen, by show wle w0 (fkw (cnt w) (wH w1).1 (wX w1)); rw [← c1, ← c2]; exact wle_tr I.1 hfk, ?_⟩
                  intro hs' ct' up' kc f1 f2 z hz hzag hr
                  replace f1 : xLh x c mn t = some (hs', ct', up') := f1
                  rw [hx] at f1
                  cases f1
                  replace hzag : agr (fkw (cnt w) (wH w1).1 (wX w1)) u z := hzag
                  rw [← c1, ← c2] at hzag
                  exact ih z hz (agr_tr hag hzag) (Nat.lt_of_lt_of_le (lpM_lt f2 hr) (Nat.le_of_lt_succ hm))
                · exact LI_go hagw hww (I.2.2.2.2.2.2 p (hlp p e))
            have hW := claim _ v' e2 e1 (Nat.lt_succ_self _)
            rw [e3] at hW
            show WS k t (cL v lv) [] (cW v dT (xB x) (wH w)) ce sl
            rw [h2, h3]
            exact w_lv hW e4
end LP
end
section
/-! Steps: new things -/
def vAu (v : VL) (n q : Nat) : VL := (vI v, vJ v, fun i => if i = n then q else vA v i, v.2.2.2)
/-- the room of an activation is its method's -/
def rmX (k : kx_T) (x : ACx) (mn : Nat) : Prop := (kR k).frames = mFr (xM x mn) ∧ (kR k).locals = mLo (xM x mn) ∧ (kR k).cells = mCe (xM x mn) ∧ (kR k).slots = mSl (xM x mn)
section ST8
variable {k : kx_T} {x : ACx} {mn c : Nat} {dT : Nat → ClassId} {w0 : AW} {v0 : VL} {s : AS} {v : VL} {Rs : List AR} {B : Nat → AC} {w : AW}
theorem agr_vAu (q : Nat) : agr w v (vAu v (wH w).1 q) :=
  ⟨fun _ _ => rfl, fun i hi => by show vA v i = if i = _ then q else vA v i; rw [if_neg (by omega)], fun _ _ => rfl, fun _ _ => ⟨rfl, rfl⟩, fun _ _ => rfl⟩
theorem wle_add {cl : AC} : wle w (wHp w (hAdd (wH w) cl)) := ⟨Nat.le_refl _, Nat.le_succ _, Nat.le_refl _, Nat.le_refl _, Nat.le_refl _⟩
theorem okW_add {cl : AC} {u : VL} (h : okW B v w) (ha : agr w v u) (hE : okE u (wE w)) (hs : scC (wHp w (hAdd (wH w) cl)) cl) (ho : okC u cl) : okW B u (wHp w (hAdd (wH w) cl)) := by
  refine ⟨hE, fun i hi => ?_, fun i hi => ?_, h.2.2.2⟩
  · show okC u (hGet B (hAdd (wH w) cl) i)
    rw [hGet_add]
    split
    · exact ho
    · rename_i hne
      have hi' : i < (wH w).1 + 1 := hi
      have hlt : i < (wH w).1 := by omega
      exact okC_agr ha (h.2.2.1 i hlt) (h.2.1 i hlt)
  · show scC _ (hGet B (hAdd (wH w) cl) i)
    rw [hGet_add]
    split
    · exact hs
    · rename_i hne
      have hi' : i < (wH w).1 + 1 := hi
      have hlt : i < (wH w).1 := by omega
      exact scC_mono wle_add (h.2.2.1 i hlt)
/-- a cell added, in a world that has grown -/
theorem gs_add {pc ce sl : Nat} {r : List AV} {w1 : AW} {v1 : VL} {cl : AC} {e : va_E} {q : Nat} (g : GS k x mn c dT w0 v0 (pc, sLv s, aR (some (wH w1).1) :: r, wHp w1 (hAdd (wH w1) cl), sLp s, ce, sl)) (I : Inv k x mn c dT w0 v0 s v) (hl : wle (sW s) w1) (hH : wH w1 = wH (sW s)) (ha : agr (sW s) v v1) (hw : okW (xB x) v1 w1) (hs : scC (wHp w1 (hAdd (wH w1) cl)) cl) (ho : okC (vAu v1 (wH w1).1 q) cl) (hc : cC (vAu v1 (wH w1).1 q) dT cl = e) (hst : scL (sW s) r) :
    WS k pc (cL v (sLv s)) (.ref q :: r.map (cv v)) (cW v dT (xB x) (wH (sW s)) ++ [(q, e)]) ce sl := by
  have a1 : agr w1 v1 (vAu v1 (wH w1).1 q) := agr_vAu q
  have a2 : agr (sW s) v (vAu v1 (wH w1).1 q) := agr_tr ha (agr_mono a1 hl)
  have hl2 : wle (sW s) (wHp w1 (hAdd (wH w1) cl)) := wle_tr hl wle_add
  have hq : vA (vAu v1 (wH w1).1 q) (wH w1).1 = q := if_pos rfl
  have h := g (vAu v1 (wH w1).1 q) (Inv_go I hl2 a2 (okW_add hw a1 hw.1 hs ho) (scO_mono hl2 I.2.2.2.1) (sc_cons (show (wH w1).1 < (wH w1).1 + 1 by omega) (scL_mono hl2 hst)) I.2.2.2.2.2.1 (fun p hp => hp))
  replace h : WS k pc (cL (vAu v1 (wH w1).1 q) (sLv s)) (.ref (vA (vAu v1 (wH w1).1 q) (wH w1).1) :: r.map (cv (vAu v1 (wH w1).1 q))) (cW (vAu v1 (wH w1).1 q) dT (xB x) (hAdd (wH w1) cl)) ce sl := h
  rw [cW_add (v := v1) (fun i hi => ⟨(a1.2.1 i hi).symm, (cC_agr a1 (hw.2.2.1 i hi)).symm⟩), hq, hc, ← cL_agr a2 I.2.2.2.1, ← cS_agr a2 hst, hH, ← cW_agr ha I.2.2.1.2.2.1] at h
  exact h
theorem dfV_cv (u : VL) (ty : FieldType) (h : fK ty ≤ 3) : cv u (dfV (fK ty)) = defaultValue ty := by
  cases ty with
  | int => rfl
  | boolean => rfl
  | long => rfl
  | object n => rfl
  | array t => rfl
  | _ => exact absurd h (by decide)
theorem dfl_cv (u : VL) {ci : Nat} (hk : ∀ f, f < (nCl ci).2.1 → nKd ci f ≤ 3) : ∀ j, j < (nCl ci).2.1 → defaultValue ((nCl ci).2.2.2 j) = vp_V ((dfl ci).map (cv u)) j := by
  intro j hj
  unfold vp_V dfl
  rw [List.map_map, List.getD_eq_getElem?_getD, List.getElem?_map, List.getElem?_range hj]
  exact (dfV_cv u _ (hk j hj)).symm
theorem dfl_sc (ci : Nat) : ∀ a ∈ dfl ci, scV w a := by
  intro a ha
  obtain ⟨f, -, rfl⟩ := List.mem_map.mp ha
  unfold dfV
  split
  · trivial
  · split <;> trivial
theorem g_new (C : kx_ok k) (R : rmX k x mn) {idx ci : Nat} (hc : cl_ok ci (nCl ci).2.1 (nCl ci).1 (nCl ci).2.2.1 (nCl ci).2.2.2) (hk : ∀ f, f < (nCl ci).2.1 → nKd ci f ≤ 3) (h1 : Cond.classLink (kOwn k) idx (nCl ci).1 ∈ gT) (h2 : Cond.instantiable (nCl ci).1 (nCl ci).2.1 ∈ gT) (h3 : Cond.initialized (nCl ci).1 ∈ gT) (d : decode (kCc k) (sPc s) = .ok (.new idx, 3)) (so : SO k x mn c dT w0 v0 Rs (oNew s (xM x mn) ci)) : GS k x mn c dT w0 v0 s := fun v I => by
  obtain ⟨h4, so1⟩ := so_if so
  simp only [Bool.and_eq_true] at h4
  have a1 := Nat.le_of_ble_eq_true h4.1
  have a2 := Nat.le_of_ble_eq_true h4.2
  have g := SO_one (t := (sPc s + 3, sLv s, aR (some (wH (sW s)).1) :: sSt s, wHp (sW s) (hAdd (wH (sW s)) (.inr (ci, dfl ci))), sLp s, sC s + 1, sS s + (nCl ci).2.1)) so1
  refine w_new C hc h1 h2 h3 (dfl_cv v hk) (by rw [R.2.2.1]; exact a1) (by rw [R.2.2.2]; exact a2) d (fun q => ?_)
  refine gs_add (w1 := sW s) (v1 := v) g I (wle_rf _) rfl (agr_rf _ _) I.2.2.1 (dfl_sc ci) trivial ?_ I.2.2.2.2.1
  show Sum.inr (ci, (dfl ci).map _) = Sum.inr (ci, (dfl ci).map _)
  rw [List.map_congr_left (fun a ha => cv_agr (w := sW s) (agr_sy (agr_vAu q)) (dfl_sc ci a ha))]
theorem nat_of {z : Int} (h0 : 0 ≤ z) (h1 : z ≤ 100000) : ¬ Int32.ofInt z < 0 ∧ (Int32.ofInt z).toNatClampNeg = z.toNat := by
  have hz : inI z = true := z_inI (by omega) (by omega)
  constructor
  · rw [Int32.lt_iff_toInt_lt, z_in hz]
    have : (0 : Int32).toInt = 0 := rfl
    omega
  · show (Int32.ofInt z).toInt.toNat = _
    rw [z_in hz]
theorem nwa_ok {t : Nat} (so : SO k x mn c dT w0 v0 Rs (oNwa s (xM x mn) t)) : ∃ z r, sSt s = aI z :: r ∧ 0 ≤ z ∧ z ≤ 100000 ∧ sC s + 1 ≤ mCe (xM x mn) ∧ sS s + z.toNat ≤ mSl (xM x mn) ∧ GS k x mn c dT w0 v0 (sPc s + 2, sLv s, aR (some (wH (wA1 (sW s))).1) :: r, wHp (wA1 (sW s)) (hAdd (wH (wA1 (sW s))) (.inl (t, z.toNat, if Nat.beq t 1 then .inl (List.replicate z.toNat (aJ 0)) else .inr (0, 0, wA (sW s))))), sLp s, sC s + 1, sS s + z.toNat) := by
  obtain ⟨pc, lv, st, w, lp, ce, sl⟩ := s
  cases st with
  | nil => exact SO_no so
  | cons a r =>
    rcases a with z | j | m | j | o | j
    · obtain ⟨h, so1⟩ := so_if (b := decide (0 ≤ z) && decide (z ≤ 100000) && Nat.ble (ce + 1) (mCe (xM x mn)) && Nat.ble (sl + z.toNat) (mSl (xM x mn))) so
      simp only [Bool.and_eq_true, decide_eq_true_eq] at h
      exact ⟨z, r, rfl, h.1.1.1, h.1.1.2, Nat.le_of_ble_eq_true h.1.2, Nat.le_of_ble_eq_true h.2, SO_one so1⟩
    all_goals exact SO_no so
theorem g_newI (C : kx_ok k) (R : rmX k x mn) (T : tyX k dT) (harr : Cond.arrayClass .int ∈ gT) (d : decode (kCc k) (sPc s) = .ok (.newarray .int, 2)) (so : SO k x mn c dT w0 v0 Rs (oNwa s (xM x mn) 0)) : GS k x mn c dT w0 v0 s := fun v I => by
  obtain ⟨z, r, e, z0, z1, a1, a2, g⟩ := nwa_ok so
  obtain ⟨n1, n2⟩ := nat_of z0 z1
  have hst := I.2.2.2.2.1
  rw [e] at hst ⊢
  refine w_newa C (N := z.toNat) (a0 := (z.toNat, .inl (fun _ => 0))) harr rfl (fun _ h => by cases h) (T 0) (vp_cell_i _ _ _) (fun c => vp_cell_i _ _ _) n1 n2 (by show z.toNat * 4 ≤ _; omega) (by rw [R.2.2.1]; exact a1) (by rw [R.2.2.2]; exact a2) d (fun q => ?_)
  refine gs_add (w1 := wA1 (sW s)) (v1 := vCu v (wA (sW s)) (fun _ => 0) (fun _ => 0)) g I wle_A1 rfl (agr_vCu _ _) (okW_A1 I.2.2.1 _ _) (Nat.lt_succ_self _) (fun _ j _ => ?_) ?_ (sc_tl hst)
  · show (0 : Int) ≤ (vC (vCu v (wA (sW s)) _ _) (wA (sW s)) j).toInt ∧ (vC (vCu v (wA (sW s)) _ _) (wA (sW s)) j).toInt ≤ 0
    rw [vCu_C]
    decide
  · show Sum.inl (dT 0, z.toNat, Sum.inl (fun j => if j < z.toNat then vC (vCu v (wA (sW s)) _ _) (wA (sW s)) j else 0)) = _
    rw [vCu_C]
    refine congrArg (fun f => Sum.inl (dT 0, z.toNat, Sum.inl f)) (funext fun j => ?_)
    split <;> rfl
theorem g_newZ (C : kx_ok k) (R : rmX k x mn) (T : tyX k dT) (harr : Cond.arrayClass .boolean ∈ gT) (d : decode (kCc k) (sPc s) = .ok (.newarray .boolean, 2)) (so : SO k x mn c dT w0 v0 Rs (oNwa s (xM x mn) 2)) : GS k x mn c dT w0 v0 s := fun v I => by
  obtain ⟨z, r, e, z0, z1, a1, a2, g⟩ := nwa_ok so
  obtain ⟨n1, n2⟩ := nat_of z0 z1
  have hst := I.2.2.2.2.1
  rw [e] at hst ⊢
  refine w_newa C (N := z.toNat) (a0 := (z.toNat, .inl (fun _ => 0))) harr rfl (fun _ h => by cases h) (T 2) (vp_cell_i _ _ _) (fun c => vp_cell_i _ _ _) n1 n2 (by show z.toNat * 1 ≤ _; omega) (by rw [R.2.2.1]; exact a1) (by rw [R.2.2.2]; exact a2) d (fun q => ?_)
  refine gs_add (w1 := wA1 (sW s)) (v1 := vCu v (wA (sW s)) (fun _ => 0) (fun _ => 0)) g I wle_A1 rfl (agr_vCu _ _) (okW_A1 I.2.2.1 _ _) (Nat.lt_succ_self _) (fun _ j _ => ?_) ?_ (sc_tl hst)
  · show (0 : Int) ≤ (vC (vCu v (wA (sW s)) _ _) (wA (sW s)) j).toInt ∧ (vC (vCu v (wA (sW s)) _ _) (wA (sW s)) j).toInt ≤ 0
    rw [vCu_C]
    decide
  · show Sum.inl (dT 2, z.toNat, Sum.inl (fun j => if j < z.toNat then vC (vCu v (wA (sW s)) _ _) (wA (sW s)) j else 0)) = _
    rw [vCu_C]
    refine congrArg (fun f => Sum.inl (dT 2, z.toNat, Sum.inl f)) (funext fun j => ?_)
    split <;> rfl
theorem g_newL (C : kx_ok k) (R : rmX k x mn) (T : tyX k dT) (harr : Cond.arrayClass .long ∈ gT) (d : decode (kCc k) (sPc s) = .ok (.newarray .long, 2)) (so : SO k x mn c dT w0 v0 Rs (oNwa s (xM x mn) 1)) : GS k x mn c dT w0 v0 s := fun v I => by
  obtain ⟨z, r, e, z0, z1, a1, a2, g⟩ := nwa_ok so
  obtain ⟨n1, n2⟩ := nat_of z0 z1
  have hst := I.2.2.2.2.1
  rw [e] at hst ⊢
  refine w_newa C (N := z.toNat) (a0 := (z.toNat, .inr (.inl (fun _ => 0)))) harr rfl (fun _ h => by cases h) (T 1) (vp_cell_l _ _ _) (fun c => vp_cell_l _ _ _) n1 n2 (by show z.toNat * 8 ≤ _; omega) (by rw [R.2.2.1]; exact a1) (by rw [R.2.2.2]; exact a2) d (fun q => ?_)
  refine gs_add (w1 := wA1 (sW s)) (v1 := vCu v (wA (sW s)) (fun _ => 0) (fun _ => 0)) g I wle_A1 rfl (agr_vCu _ _) (okW_A1 I.2.2.1 _ _) (fun a ha => by rw [(List.mem_replicate.mp ha).2]; trivial) trivial ?_ (sc_tl hst)
  show Sum.inl (dT 1, z.toNat, Sum.inr (Sum.inl (fun j => if j < z.toNat then cQ _ ((List.replicate z.toNat (aJ 0)).getD j (aJ 0)) else 0))) = _
  refine congrArg (fun f => Sum.inl (dT 1, z.toNat, Sum.inr (Sum.inl f))) (funext fun j => ?_)
  split
  · rename_i hj
    rw [List.getD_eq_getElem?_getD, List.getElem?_replicate, if_pos hj]
    rfl
  · rfl
theorem g_newq (C : kx_ok k) (R : rmX k x mn) (T : tyX k dT) {idx : Nat} (hcl : Cond.classLink (kOwn k) idx RX0 ∈ gT) (hov : va_AO RX0 (kS k)) (d : decode (kCc k) (sPc s) = .ok (.anewarray idx, 3)) (so : SO k x mn c dT w0 v0 Rs (oNwq s (xM x mn))) : GS k x mn c dT w0 v0 s := fun v I => by
  obtain ⟨pc, lv, st, w, lp, ce, sl⟩ := s
  cases st with
  | nil => exact SO_no so
  | cons a r =>
    rcases a with z | j | m | j | o | j
    · obtain ⟨h, so1⟩ := so_if (b := decide (0 ≤ z) && decide (z ≤ 100000) && Nat.ble (ce + 1) (mCe (xM x mn)) && Nat.ble (sl + z.toNat) (mSl (xM x mn))) so
      simp only [Bool.and_eq_true, decide_eq_true_eq] at h
      obtain ⟨n1, n2⟩ := nat_of h.1.1.1 h.1.1.2
      have g := SO_one (t := (pc + 3, lv, aR (some (wH w).1) :: r, wHp w (hAdd (wH w) (.inl (5, z.toNat, .inl (List.replicate z.toNat (aR none))))), lp, ce + 1, sl + z.toNat)) so1
      refine w_newq C (N := z.toNat) hcl hov (T 5) n1 n2 (by have := h.1.1.2; omega) (by rw [R.2.2.1]; exact Nat.le_of_ble_eq_true h.1.2) (by rw [R.2.2.2]; exact Nat.le_of_ble_eq_true h.2) d (fun q => ?_)
      refine gs_add (s := (pc, lv, aI z :: r, w, lp, ce, sl)) (w1 := w) (v1 := v) g I (wle_rf _) rfl (agr_rf _ _) I.2.2.1 (fun a ha => by rw [(List.mem_replicate.mp ha).2]; trivial) trivial ?_ (sc_tl I.2.2.2.2.1)
      show Sum.inl (dT 5, z.toNat, Sum.inr (Sum.inr (Sum.inr (Sum.inr (fun j => if j < z.toNat then cR _ ((List.replicate z.toNat (aR none)).getD j (aR none)) else none))))) = _
      refine congrArg (fun f => Sum.inl (dT 5, z.toNat, Sum.inr (Sum.inr (Sum.inr (Sum.inr f))))) (funext fun j => ?_)
      split
      · rename_i hj
        rw [List.getD_eq_getElem?_getD, List.getElem?_replicate, if_pos hj]
        rfl
      · rfl
    all_goals exact SO_no so
end ST8
end
section
/-! Ends -/
def exN : Nat → String
  | 0 => "java/lang/IllegalArgumentException"
  | 1 => "java/util/NoSuchElementException"
  | _ => "java/lang/IndexOutOfBoundsException"
def Ko (v : VL) : Option AV ⊕ Nat → mb_O
  | .inl o => .inl (o.map (cv v))
  | .inr e => .inr (exN e)
/-- the ends Rs, seen from the world w0 that v0 stands for -/
def Kd (x : ACx) (dT : Nat → ClassId) (w0 : AW) (v0 : VL) (Rs : List AR) : mb_O → va_W → Prop := fun o ws =>
  ∃ r ∈ Rs, ∃ v, agr w0 v0 v ∧ wle w0 r.2 ∧ okW (xB x) v r.2 ∧ (∀ a, r.1 = .inl (some a) → scV r.2 a) ∧ o = Ko v r.1 ∧ ws = cW v dT (xB x) (wH r.2)
/-- what a method answers -/
def rtX (k : kx_T) (n : Nat) : Prop := (n = 0 → (kMe k).sig.returnType = none) ∧ (n = 1 → (kMe k).sig.returnType = some .int) ∧ (n = 2 → (kMe k).sig.returnType = some .boolean) ∧ (n = 3 → (kMe k).sig.returnType = some .long)
/-- how the activation is to end: at least so as the ends Rs say -/
def keX (k : kx_T) (x : ACx) (mn : Nat) (dT : Nat → ClassId) (w0 : AW) (v0 : VL) (Rs : List AR) : Prop := ∃ K : mb_O → va_W → Prop, kx_end k K (mCe (xM x mn)) (mSl (xM x mn)) ∧ ∀ o ws, Kd x dT w0 v0 Rs o ws → K o ws
section EN
variable {k : kx_T} {x : ACx} {mn c : Nat} {dT : Nat → ClassId} {w0 : AW} {v0 : VL} {s : AS} {v : VL} {Rs : List AR}
theorem Kd_of (I : Inv k x mn c dT w0 v0 s v) {o : Option AV ⊕ Nat} (h : (o, sW s) ∈ Rs) (hs : ∀ a, o = .inl (some a) → scV (sW s) a) : Kd x dT w0 v0 Rs (Ko v o) (cW v dT (xB x) (wH (sW s))) :=
  ⟨(o, sW s), h, v, I.2.1, I.1, I.2.2.1, hs, rfl, rfl⟩
theorem SO_end {r : AR} (h : SO k x mn c dT w0 v0 Rs (some ([], [r]))) : r ∈ Rs := by
  obtain ⟨ss, rs, e, -, h2⟩ := h
  cases e
  exact h2 r List.mem_cons_self
theorem ret_ok {m : AM} (so : SO k x mn c dT w0 v0 Rs (oRet s m)) (I : Inv k x mn c dT w0 v0 s v) : sC s ≤ mCe m ∧ sS s ≤ mSl m ∧
    ((mRt m = 0 ∧ sSt s = [] ∧ Kd x dT w0 v0 Rs (.inl none) (cW v dT (xB x) (wH (sW s)))) ∨ (mRt m = 1 ∧ ∃ a, sSt s = [a] ∧ aIsI a = true ∧ Kd x dT w0 v0 Rs (.inl (some (cv v a))) (cW v dT (xB x) (wH (sW s)))) ∨ (mRt m = 2 ∧ ∃ a, sSt s = [a] ∧ fitK (wE (sW s)) 1 a = true ∧ Kd x dT w0 v0 Rs (.inl (some (cv v a))) (cW v dT (xB x) (wH (sW s)))) ∨ (mRt m = 3 ∧ ∃ a, sSt s = [a] ∧ aIsL a = true ∧ Kd x dT w0 v0 Rs (.inl (some (cv v a))) (cW v dT (xB x) (wH (sW s))))) := by
  obtain ⟨h1, so1⟩ := so_if so
  clear so
  simp only [Bool.and_eq_true] at h1
  refine ⟨Nat.le_of_ble_eq_true h1.1, Nat.le_of_ble_eq_true h1.2, ?_⟩
  have nm : ∀ (a : AV), sSt s = [a] → (Sum.inl (some (aNm (wE (sW s)) a)), sW s) ∈ Rs → Kd x dT w0 v0 Rs (.inl (some (cv v a))) (cW v dT (xB x) (wH (sW s))) := by
    intro a e h
    have hst := I.2.2.2.2.1
    rw [e] at hst
    have := Kd_of I h (fun b hb => by cases hb; exact aNm_sc (sc_hd hst))
    replace this : Kd x dT w0 v0 Rs (.inl (some (cv v (aNm (wE (sW s)) a)))) (cW v dT (xB x) (wH (sW s))) := this
    rw [aNm_cv I.2.2.1.1] at this
    exact this
  split at so1
  · rename_i e1 e2
    exact Or.inl ⟨e1, e2, Kd_of I (SO_end so1) (fun a h => by cases h)⟩
  · rename_i a e1 e2
    obtain ⟨h2, so2⟩ := so_if so1
    exact Or.inr (Or.inl ⟨e1, a, e2, h2, nm a e2 (SO_end so2)⟩)
  · rename_i a e1 e2
    obtain ⟨h2, so2⟩ := so_if so1
    exact Or.inr (Or.inr (Or.inl ⟨e1, a, e2, h2, nm a e2 (SO_end so2)⟩))
  · rename_i a e1 e2
    obtain ⟨h2, so2⟩ := so_if so1
    have hst := I.2.2.2.2.1
    rw [e2] at hst
    exact Or.inr (Or.inr (Or.inr ⟨e1, a, e2, h2, Kd_of I (SO_end so2) (fun b hb => by cases hb; exact sc_hd hst)⟩))
  · exact SO_no so1
theorem g_vret (C : kx_ok k) (q : keX k x mn dT w0 v0 Rs) (hr : rtX k (mRt (xM x mn))) (d : decode (kCc k) (sPc s) = .ok (.return_, 1)) (so : SO k x mn c dT w0 v0 Rs (fRet 0 x (fun _ _ _ _ => none) mn c s)) : GS k x mn c dT w0 v0 s := fun v I => by
  obtain ⟨h0, so1⟩ := so_if (b := Nat.beq (mRt (xM x mn)) 0) so
  have h0 := Nat.eq_of_beq_eq_true h0
  obtain ⟨h1, h2, h⟩ := ret_ok so1 I
  rcases h with ⟨-, e, h⟩ | ⟨e, -⟩ | ⟨e, -⟩ | ⟨e, -⟩
  · rw [e]
    obtain ⟨K, q, hK⟩ := q
    exact w_vret C q (hr.1 h0) d h1 h2 (hK _ _ h)
  all_goals (rw [h0] at e; cases e)
theorem g_lret (C : kx_ok k) (q : keX k x mn dT w0 v0 Rs) (hr : rtX k (mRt (xM x mn))) (d : decode (kCc k) (sPc s) = .ok (.lreturn, 1)) (so : SO k x mn c dT w0 v0 Rs (fRet 3 x (fun _ _ _ _ => none) mn c s)) : GS k x mn c dT w0 v0 s := fun v I => by
  obtain ⟨h0, so1⟩ := so_if (b := Nat.beq (mRt (xM x mn)) 3) so
  have h0 := Nat.eq_of_beq_eq_true h0
  obtain ⟨h1, h2, h⟩ := ret_ok so1 I
  rcases h with ⟨e, -⟩ | ⟨e, -⟩ | ⟨e, -⟩ | ⟨-, a, e, ha, h⟩
  · rw [h0] at e; cases e
  · rw [h0] at e; cases e
  · rw [h0] at e; cases e
  · rw [e]
    rw [cv_long ha] at h
    show WS k (sPc s) _ [cv v a] _ _ _
    rw [cv_long ha]
    obtain ⟨K, q, hK⟩ := q
    exact w_lret C q (hr.2.2.2 h0) d h1 h2 (hK _ _ h)
theorem g_iret (C : kx_ok k) (q : keX k x mn dT w0 v0 Rs) (hr : rtX k (mRt (xM x mn))) (d : decode (kCc k) (sPc s) = .ok (.ireturn, 1)) (so : SO k x mn c dT w0 v0 Rs (fRet 1 x (fun _ _ _ _ => none) mn c s)) : GS k x mn c dT w0 v0 s := fun v I => by
  obtain ⟨h0, so1⟩ := so_if (b := Nat.beq (mRt (xM x mn)) 1 || Nat.beq (mRt (xM x mn)) 2) so
  simp only [Bool.or_eq_true] at h0
  obtain ⟨h1, h2, h⟩ := ret_ok so1 I
  rcases h with ⟨e, -⟩ | ⟨e0, a, e, ha, h⟩ | ⟨e0, a, e, ha, h⟩ | ⟨e, -⟩
  · rw [e] at h0
    rcases h0 with h0 | h0 <;> cases h0
  · rw [e]
    rw [cv_int ha] at h
    show WS k (sPc s) _ [cv v a] _ _ _
    rw [cv_int ha]
    obtain ⟨K, q, hK⟩ := q
    exact w_iret C q (hr.2.1 e0) rfl d h1 h2 (hK _ _ h)
  · have hf := (fit_ok (ty := .boolean) I.2.2.1.1 ha).1
    have hi : aIsI a = true := by
      replace ha : (aIsI a && bl01 (wE (sW s)) a) = true := ha
      simp only [Bool.and_eq_true] at ha
      exact ha.1
    rw [e]
    rw [cv_int hi] at h hf
    show WS k (sPc s) _ [cv v a] _ _ _
    rw [cv_int hi]
    obtain ⟨K, q, hK⟩ := q
    exact w_iret C q (hr.2.2.1 e0) hf d h1 h2 (hK _ _ h)
  · rw [e] at h0
    rcases h0 with h0 | h0 <;> cases h0
end EN
end
