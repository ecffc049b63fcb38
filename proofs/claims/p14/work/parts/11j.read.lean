/-! Steps: reading arrays and fields -/
def tyF : Nat → FieldType
  | 0 => .int
  | 1 => .long
  | 2 => .boolean
  | 3 => .array .int
  | 4 => .array (.array .int)
  | _ => .object RX0
/-- the array classes by number -/
def tyX (k : kx_T) (dT : Nat → ClassId) : Prop := ∀ t, (kTy k)[min t 5]? = some (dT t, tyF t)
section ST4
variable {k : kx_T} {x : ACx} {mn c : Nat} {dT : Nat → ClassId} {w0 : AW} {v0 : VL} {s : AS} {v : VL} {Rs : List AR}
theorem Fr_nm {B : Nat → AC} {w : AW} {val : VL → Value} {q : AW × AV} (h : Fr B w val q) : Fr B w val (q.1, aNm (wE q.1) q.2) := by
  refine ⟨h.1, h.2.1, fun v hv => ?_⟩
  obtain ⟨v', a, b, d, e⟩ := h.2.2 v hv
  exact ⟨v', a, b, aNm_sc d, (aNm_cv b.1 _).trans e⟩
/-- the check behind a load -/
def ldK (t' : Nat) (ref : Bool) (b : AB) (a : AV) : Bool := if ref then aIsR a && (match b with | .inl _ => true | .inr _ => false) else if Nat.beq t' 1 then aIsL a else aIsI a
theorem ld_ok {t : Nat} {ref : Bool} (so : SO k x mn c dT w0 v0 Rs (oLd (xB x) s t ref)) (I : Inv k x mn c dT w0 v0 s v) : ∃ i id r t' n b, sSt s = i :: aR (some id) :: r ∧ id < (wH (sW s)).1 ∧ hGet (xB x) (wH (sW s)) id = .inl (t', n, b) ∧ (if ref then Nat.ble 3 t' else Nat.beq t' t) = true ∧
    (WS k (sPc s) (cL v (sLv s)) ((sSt s).map (cv v)) (cW v dT (xB x) (wH (sW s))) (sC s) (sS s) ∨ ∃ q, arGet (sW s) n b (Nat.beq t' 1) (aNm (wE (sW s)) i) = some (some q) ∧ ldK t' ref b q.2 = true ∧ GS k x mn c dT w0 v0 (sGoW s (sPc s + 1) (aNm (wE q.1) q.2 :: r) q.1)) := by
  obtain ⟨pc, lv, st, w, lp, ce, sl⟩ := s
  cases st with
  | nil => exact SO_no so
  | cons i st =>
    cases st with
    | nil => exact SO_no so
    | cons a r =>
      rcases a with z | j | m | j | a | j
      · exact SO_no so
      · exact SO_no so
      · exact SO_no so
      · exact SO_no so
      · cases a with
        | none => exact SO_no so
        | some id =>
          obtain ⟨h1, so⟩ := so_if (b := Nat.blt id (wH w).1) so
          cases hg : hGet (xB x) (wH w) id with
          | inr o =>
            have so' := so
            simp only [hg] at so'
            exact SO_no so'
          | inl o =>
            obtain ⟨t', n, b⟩ := o
            have so' := so
            simp only [hg] at so'
            obtain ⟨h2, so'⟩ := so_if (b := if ref then Nat.ble 3 t' else Nat.beq t' t) so'
            refine ⟨i, id, r, t', n, b, rfl, Nat.blt_eq.mp h1, hg, h2, ?_⟩
            cases ha : arGet w n b (Nat.beq t' 1) (aNm (wE w) i) with
            | none =>
              simp only [ha] at so'
              exact SO_no so'
            | some o =>
              cases o with
              | none =>
                simp only [ha] at so'
                exact Or.inl (spl_all (s := (pc, lv, i :: aR (some id) :: r, w, lp, ce, sl)) so' I)
              | some q =>
                obtain ⟨q1, q2⟩ := q
                simp only [ha] at so'
                obtain ⟨h3, so'⟩ := so_if (b := ldK t' ref b q2) so'
                exact Or.inr ⟨(q1, q2), rfl, h3, SO_one so'⟩
      · exact SO_no so
theorem cW_cell {w : AW} {id : Nat} {cl : AC} (hid : id < (wH w).1) (hg : hGet (xB x) (wH w) id = cl) : (cW v dT (xB x) (wH w))[id]? = some (vA v id, cC v dT cl) := by
  rw [cW_get hid, hg]
theorem g_iaload (C : kx_ok k) (T : tyX k dT) (d : decode (kCc k) (sPc s) = .ok (.iaload, 1)) (so : SO k x mn c dT w0 v0 Rs (oLd (xB x) s 0 false)) : GS k x mn c dT w0 v0 s := fun v I => by
  obtain ⟨i, id, r, t', n, b, e, hid, hg, ht, h⟩ := ld_ok so I
  rcases h with h | ⟨q, h1, h2, h3⟩
  · exact h
  · have ht := Nat.eq_of_beq_eq_true ht
    subst ht
    have hst := I.2.2.2.2.1
    rw [e] at hst
    obtain ⟨lo, hi, hb, a0, a1, -⟩ := arGet_ok h1
    obtain ⟨p1, p2, -⟩ := ix_ok I.2.2.1.1 hb a0 a1
    rw [aNm_cZ I.2.2.1.1] at p1 p2
    have hi : aIsI i = true := by rw [← aNm_isI (wE (sW s))]; exact aBd_int hb
    have g := gs_fr (Fr_nm (arGetI hid hg (Or.inl rfl) h1 h2)) h3 I (sc_tl (sc_tl hst))
    rw [e, List.map_cons, List.map_cons, cv_int hi]
    refine w_iald C id (cW_cell hid hg) (T 0) p1 d ?_
    simp only [aNm_cZ I.2.2.1.1] at g
    rw [if_pos p2]
    exact g
theorem g_baload (C : kx_ok k) (T : tyX k dT) (d : decode (kCc k) (sPc s) = .ok (.baload, 1)) (so : SO k x mn c dT w0 v0 Rs (oLd (xB x) s 2 false)) : GS k x mn c dT w0 v0 s := fun v I => by
  obtain ⟨i, id, r, t', n, b, e, hid, hg, ht, h⟩ := ld_ok so I
  rcases h with h | ⟨q, h1, h2, h3⟩
  · exact h
  · have ht := Nat.eq_of_beq_eq_true ht
    subst ht
    have hst := I.2.2.2.2.1
    rw [e] at hst
    obtain ⟨lo, hi, hb, a0, a1, -⟩ := arGet_ok h1
    obtain ⟨p1, p2, -⟩ := ix_ok I.2.2.1.1 hb a0 a1
    rw [aNm_cZ I.2.2.1.1] at p1 p2
    have hi : aIsI i = true := by rw [← aNm_isI (wE (sW s))]; exact aBd_int hb
    have g := gs_fr (Fr_nm (arGetI hid hg (Or.inr rfl) h1 h2)) h3 I (sc_tl (sc_tl hst))
    rw [e, List.map_cons, List.map_cons, cv_int hi]
    refine w_zald C id (cW_cell hid hg) (T 2) p1 d ?_
    simp only [aNm_cZ I.2.2.1.1] at g
    rw [if_pos p2]
    exact g
theorem g_laload (C : kx_ok k) (T : tyX k dT) (d : decode (kCc k) (sPc s) = .ok (.laload, 1)) (so : SO k x mn c dT w0 v0 Rs (oLd (xB x) s 1 false)) : GS k x mn c dT w0 v0 s := fun v I => by
  obtain ⟨i, id, r, t', n, b, e, hid, hg, ht, h⟩ := ld_ok so I
  rcases h with h | ⟨q, h1, h2, h3⟩
  · exact h
  · have ht := Nat.eq_of_beq_eq_true ht
    subst ht
    have hst := I.2.2.2.2.1
    rw [e] at hst
    obtain ⟨lo, hi, hb, a0, a1, -⟩ := arGet_ok h1
    obtain ⟨p1, p2, -⟩ := ix_ok I.2.2.1.1 hb a0 a1
    rw [aNm_cZ I.2.2.1.1] at p1 p2
    have hi : aIsI i = true := by rw [← aNm_isI (wE (sW s))]; exact aBd_int hb
    have g := gs_fr (Fr_nm (arGetL hid hg h1 h2)) h3 I (sc_tl (sc_tl hst))
    rw [e, List.map_cons, List.map_cons, cv_int hi]
    refine w_lald C id (cW_cell hid hg) (T 1) p1 d ?_
    simp only [aNm_cZ I.2.2.1.1] at g
    rw [if_pos p2]
    exact g
theorem cB_ref {t n : Nat} {b : AB} (h : 3 ≤ t) : cB v t n b = .inr (.inr (.inr (.inr (fun j => if j < n then cBr v b j else none)))) := by
  match t, h with
  | t + 3, _ => rfl
theorem tyF_ref {t : Nat} (h : 3 ≤ t) : refKind (tyF t) = true := by
  match t, h with
  | 3, _ => rfl
  | 4, _ => rfl
  | t + 5, _ => rfl
theorem g_aaload (C : kx_ok k) (T : tyX k dT) (d : decode (kCc k) (sPc s) = .ok (.aaload, 1)) (so : SO k x mn c dT w0 v0 Rs (oLd (xB x) s 0 true)) : GS k x mn c dT w0 v0 s := fun v I => by
  obtain ⟨i, id, r, t', n, b, e, hid, hg, ht, h⟩ := ld_ok so I
  rcases h with h | ⟨q, h1, h2, h3⟩
  · exact h
  · have ht : 3 ≤ t' := Nat.le_of_ble_eq_true ht
    have hst := I.2.2.2.2.1
    rw [e] at hst
    rcases b with l | z
    · replace h2 : (aIsR q.2 && true) = true := h2
      rw [Bool.and_true] at h2
      obtain ⟨lo, hi, hb, a0, a1, -⟩ := arGet_ok h1
      obtain ⟨p1, p2, -⟩ := ix_ok I.2.2.1.1 hb a0 a1
      rw [aNm_cZ I.2.2.1.1] at p1 p2
      have hi : aIsI i = true := by rw [← aNm_isI (wE (sW s))]; exact aBd_int hb
      have g := gs_fr (Fr_nm (arGetR hid hg h1 h2)) h3 I (sc_tl (sc_tl hst))
      rw [e, List.map_cons, List.map_cons, cv_int hi]
      have hcell := cW_cell (v := v) (dT := dT) hid hg
      have hc2 : cC v dT (.inl (t', n, .inl l)) = .inl (dT t', n, cB v t' n (.inl l)) := rfl
      rw [hc2, cB_ref ht] at hcell
      refine w_aald C id hcell (T t') (tyF_ref ht) p1 d ?_
      simp only [aNm_cZ I.2.2.1.1] at g
      rw [if_pos p2]
      exact g
    · replace h2 : (aIsR q.2 && false) = true := h2
      rw [Bool.and_false] at h2
      cases h2
theorem g_alen (C : kx_ok k) (T : tyX k dT) (d : decode (kCc k) (sPc s) = .ok (.arraylength, 1)) (so : SO k x mn c dT w0 v0 Rs (fLen x (fun _ _ _ _ => none) mn c s)) : GS k x mn c dT w0 v0 s := fun v I => by
  obtain ⟨pc, lv, st, w, lp, ce, sl⟩ := s
  cases st with
  | nil => exact SO_no so
  | cons a r =>
    rcases a with z | j | m | j | a | j
    · exact SO_no so
    · exact SO_no so
    · exact SO_no so
    · exact SO_no so
    · cases a with
      | none => exact SO_no so
      | some id =>
        obtain ⟨h1, so⟩ := so_if (b := Nat.blt id (wH w).1) so
        cases hg : hGet (xB x) (wH w) id with
        | inr o =>
          have so' := so
          simp only [hg] at so'
          exact SO_no so'
        | inl o =>
          obtain ⟨t', n, b⟩ := o
          have so' := so
          simp only [hg] at so'
          obtain ⟨h2, so'⟩ := so_if (b := Nat.ble n 100000) so'
          have g := gs_same (s := (pc, lv, aR (some id) :: r, w, lp, ce, sl)) (SO_one so') I (sc_cons trivial (sc_tl I.2.2.2.2.1))
          exact w_alen C id (cW_cell (Nat.blt_eq.mp h1) hg) (T t') d g
    · exact SO_no so
theorem g_get (C : kx_ok k) {idx ci f : Nat} (hc : cl_ok ci (nCl ci).2.1 (nCl ci).1 (nCl ci).2.2.1 (nCl ci).2.2.2) (hf : f < (nCl ci).2.1) (hl : Cond.fieldLink (kOwn k) idx ((nCl ci).2.2.1 f).1 ((nCl ci).2.2.1 f).2.1 ((nCl ci).2.2.1 f).2.2.1 ∈ gT) (d : decode (kCc k) (sPc s) = .ok (.getfield idx, 3)) (so : SO k x mn c dT w0 v0 Rs (oGet x s ci f)) : GS k x mn c dT w0 v0 s := fun v I => by
  obtain ⟨pc, lv, st, w, lp, ce, sl⟩ := s
  cases st with
  | nil => exact SO_no so
  | cons a r =>
    rcases a with z | j | m | j | a | j
    · exact SO_no so
    · exact SO_no so
    · exact SO_no so
    · exact SO_no so
    · cases a with
      | none => exact SO_no so
      | some id =>
        obtain ⟨h1, so⟩ := so_if (b := Nat.blt id (wH w).1) so
        have h1 := Nat.blt_eq.mp h1
        cases hg : hGet (xB x) (wH w) id with
        | inl o =>
          have so' := so
          simp only [hg] at so'
          exact SO_no so'
        | inr o =>
          obtain ⟨ci', fs⟩ := o
          have so' := so
          simp only [hg] at so'
          obtain ⟨h2, so2⟩ := so_if (b := Nat.beq ci' ci) so'
          have h2 := Nat.eq_of_beq_eq_true h2
          clear so so'
          subst h2
          cases ha : fs[f]? with
          | none =>
            simp only [ha] at so2
            exact SO_no so2
          | some a =>
            simp only [ha] at so2
            have hsc : scV w a := by
              have := I.2.2.1.2.2.1 id h1
              rw [hg] at this
              exact this a (List.mem_of_getElem? ha)
            have g := gs_same (s := (pc, lv, aR (some id) :: r, w, lp, ce, sl)) (SO_one so2) I (sc_cons (aNm_sc hsc) (sc_tl I.2.2.2.2.1))
            rw [List.map_cons, aNm_cv I.2.2.1.1] at g
            exact w_get C id hc (cW_cell h1 hg) hf hl (by rw [List.getElem?_map, ha]; rfl) d g
    · exact SO_no so
end ST4
