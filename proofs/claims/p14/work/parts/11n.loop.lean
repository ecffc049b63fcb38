/-! Loops -/
section LP
variable {k : kx_T} {x : ACx} {mn c : Nat} {dT : Nat → ClassId} {w0 : AW} {v0 : VL} {s : AS} {v : VL} {Rs : List AR} {wB : AW}
theorem mtA_cnt {n : Nat × Nat × Nat} {w u : AW} {pl : List (AV × AV)} (h : mtA x n w u pl = true) : wX w = wX u ∧ (wH w).1 = (wH u).1 := by
  unfold mtA mtA0 at h
  simp only [Bool.and_eq_true] at h
  obtain ⟨⟨⟨⟨-, e7⟩, e8⟩, -⟩, -⟩ := h
  exact ⟨Nat.eq_of_beq_eq_true e7, Nat.eq_of_beq_eq_true e8⟩
theorem plO_ok : ∀ {l q : List (Option AV)} {pl : List (AV × AV)}, plO l q = some pl → q.length = l.length ∧ (∀ p ∈ pl, some p.1 ∈ l) ∧ ∀ (i : Nat) (b : AV), q[i]? = some (some b) → ∃ a, l[i]? = some (some a) ∧ (a, b) ∈ pl
  | [], [], pl, h => by
    cases h
    exact ⟨rfl, fun p hp => absurd hp List.not_mem_nil, fun i b hb => by simp at hb⟩
  | [], _ :: _, pl, h => by cases h
  | none :: _, [], pl, h => by cases h
  | some _ :: _, [], pl, h => by cases h
  | o :: r, none :: q, pl, h => by
    have h' : plO r q = some pl := by
      cases o <;> exact h
    obtain ⟨g1, g2, g3⟩ := plO_ok h'
    refine ⟨by simp [g1], fun p hp => List.mem_cons_of_mem _ (g2 p hp), fun i b hb => ?_⟩
    cases i with
    | zero => cases hb
    | succ i => exact g3 i b hb
  | none :: r, some b0 :: q, pl, h => by cases h
  | some a :: r, some b0 :: q, pl, h => by
    replace h : (match plO r q with
      | some l => some ((a, b0) :: l)
      | none => none) = some pl := h
    cases hq : plO r q with
    | none => rw [hq] at h; cases h
    | some pl' =>
      rw [hq] at h
      cases h
      obtain ⟨g1, g2, g3⟩ := plO_ok hq
      refine ⟨by simp [g1], fun p hp => ?_, fun i b hb => ?_⟩
      · rcases List.mem_cons.mp hp with e | e
        · rw [e]; exact List.mem_cons_self
        · exact List.mem_cons_of_mem _ (g2 p e)
      · cases i with
        | zero =>
          cases hb
          exact ⟨a, rfl, List.mem_cons_self⟩
        | succ i =>
          obtain ⟨a', h1, h2⟩ := g3 i b hb
          exact ⟨a', h1, List.mem_cons_of_mem _ h2⟩
theorem mtS_ok {n : Nat × Nat × Nat} {w u : AW} {l l1 : List (Option AV)} (h : mtS x n w u l l1 = true) (hB : ∀ i, scC wB (xB x i)) (hBn : wle wB (fkw n (wH w).1 (wX w))) (hv : okW (xB x) v w) (hl : scO w l) :
    (wX w = wX u ∧ (wH w).1 = (wH u).1) ∧ l1.length = l.length ∧ scO u l1 ∧ wle (fkw n (wH w).1 (wX w)) u ∧ ∃ v', agr (fkw n (wH w).1 (wX w)) v v' ∧ okW (xB x) v' u ∧ cW v' dT (xB x) (wH u) = cW v dT (xB x) (wH w) ∧ (∀ q ∈ cL v' l1, q ∈ cL v l) ∧ ∀ (i : Nat) (a b : AV), lGet l i = some a → lGet l1 i = some b → cv v' b = cv v a := by
  unfold mtS at h
  cases hp : plO l l1 with
  | none => rw [hp] at h; cases h
  | some pl =>
    rw [hp] at h
    obtain ⟨g1, g2, g3⟩ := plO_ok hp
    obtain ⟨v', e1, e2, e3, e4, e5⟩ := mtA_ok (dT := dT) h hB hBn hv (fun p hp => hl _ (g2 p hp))
    refine ⟨mtA_cnt h, g1, fun b hb => ?_, e5, v', e1, e2, e3, fun q hq => ?_, fun i a b ha hb => ?_⟩
    · obtain ⟨i, hi⟩ := List.mem_iff_getElem?.mp hb
      obtain ⟨a, -, h2⟩ := g3 i b hi
      exact (e4 _ h2).2
    · obtain ⟨i, y⟩ := q
      obtain ⟨b, hb, rfl⟩ := cL_mem.mp hq
      obtain ⟨a, h1, h2⟩ := g3 i b hb
      exact cL_mem.mpr ⟨a, h1, (e4 _ h2).1⟩
    · obtain ⟨a', h1, h2⟩ := g3 i b (lGet_mem hb)
      rw [lGet_mem ha] at h1
      cases h1
      exact (e4 _ h2).1
theorem w_lv {pc : Nat} {lv lv' : List (Nat × Value)} {st : List Value} {ws : va_W} {ce sl : Nat} (h : WS k pc lv st ws ce sl) (hs : ∀ q ∈ lv, q ∈ lv') : WS k pc lv' st ws ce sl :=
  fun H locs ls hP hD hS hl => h H locs ls hP hD hS (lv_mono hl hs)
theorem lpAt_ok {t : Nat} : ∀ {l : List ALp} {p : ALp}, lpAt t l = some p → p ∈ l ∧ p.1 = t
  | [], p, h => by cases h
  | q :: r, p, h => by
    replace h : (if Nat.beq q.1 t = true then some q else lpAt t r) = some p := h
    split at h
    · rename_i hc
      cases h
      exact ⟨List.mem_cons_self, Nat.eq_of_beq_eq_true hc⟩
    · have := lpAt_ok h
      exact ⟨List.mem_cons_of_mem _ this.1, this.2⟩
theorem rkd_s (E : AE) (up : Bool) (a : AV) (kc : Nat) : rkd E up a (aS kc) = ((match a with
      | .inr (.inl j) => (match E[j]? with | some e => Nat.beq e.2.2.1 kc && decide (if up = true then 0 < e.2.2.2 else e.2.2.2 < 0) | none => false)
      | _ => false) ||
    (match aBd E a, aBd E (aS kc) with
      | some (l, h), some (l', h') => decide (if up = true then h' < l else h < l')
      | _, _ => false)) := rfl
theorem rkd_ok {E : AE} (hE : okE v E) {up : Bool} {a : AV} {kc : Nat} (h : rkd E up a (aS kc) = true) : if up = true then (vI v kc).toInt < (cZ v a).toInt else (cZ v a).toInt < (vI v kc).toInt := by
  rw [rkd_s] at h
  rw [Bool.or_eq_true] at h
  rcases h with h | h
  · rcases a with z | j | m | j | r | j
    · cases h
    · simp only [] at h
      cases he : E[j]? with
      | none => rw [he] at h; cases h
      | some e =>
        rw [he] at h
        simp only [Bool.and_eq_true, decide_eq_true_eq] at h
        have h1 := Nat.eq_of_beq_eq_true h.1
        have q := (hE j e he).2.2
        rw [h1] at q
        have h2 := h.2
        cases up with
        | true =>
          simp only [if_true] at h2 ⊢
          show _ < (vI v j).toInt
          omega
        | false =>
          simp only [Bool.false_eq_true, if_false] at h2 ⊢
          show (vI v j).toInt < _
          omega
    all_goals cases h
  · cases ha : aBd E a with
    | none => rw [ha] at h; cases h
    | some p =>
      cases hb : aBd E (aS kc) with
      | none => rw [ha, hb] at h; cases h
      | some q =>
        rw [ha, hb] at h
        have q1 := aBd_ok hE ha
        have q2 := aBd_ok hE hb
        have h2 := of_decide_eq_true h
        replace q2 : q.1 ≤ (vI v kc).toInt ∧ (vI v kc).toInt ≤ q.2 := q2
        cases up with
        | true =>
          simp only [if_true] at h2 ⊢
          omega
        | false =>
          simp only [Bool.false_eq_true, if_false] at h2 ⊢
          omega
/-- how far a loop can still go -/
def lpM (l1 : List (Option AV)) (ct : Nat) (up : Bool) (u : VL) : Nat := match lGet l1 ct with
  | some (.inr (.inl kc)) => if up = true then (2147483647 - (vI u kc).toInt).toNat else ((vI u kc).toInt + 2147483648).toNat
  | _ => 0
theorem lpM_lt {l1 : List (Option AV)} {ct : Nat} {up : Bool} {u z : VL} {kc : Nat} (h : lGet l1 ct = some (aS kc)) (hr : if up = true then (vI u kc).toInt < (vI z kc).toInt else (vI z kc).toInt < (vI u kc).toInt) : lpM l1 ct up z < lpM l1 ct up u := by
  unfold lpM
  rw [h]
  have q1 := z_toInt (vI u kc)
  have q2 := z_toInt (vI z kc)
  cases up with
  | true =>
    simp only [if_true] at hr ⊢
    omega
  | false =>
    simp only [Bool.false_eq_true, if_false] at hr ⊢
    omega
abbrev cnt (w : AW) : Nat × Nat × Nat := ((wE w).length, wL w, wA w)
theorem wle_fk (w : AW) : wle w (fkw (cnt w) (wH w).1 (wX w)) := ⟨by rw [fkw_len]; exact Nat.le_refl _, Nat.le_refl _, Nat.le_refl _, Nat.le_refl _, Nat.le_refl _⟩
theorem g_goto (C : kx_ok k) (hB : ∀ i, scC wB (xB x i)) (hB0 : wle wB w0) {o : Int} (d : decode (kCc k) (sPc s) = .ok (.goto o, 3)) (ht : (sPc s : Int) + o = (tgt s o : Int)) (so : SO k x mn c dT w0 v0 Rs (oGoto x mn c s (tgt s o))) : GS k x mn c dT w0 v0 s := by
  generalize htt : tgt s o = t at so ht
  unfold oGoto at so
  by_cases hf : Nat.blt (sPc s) t = true
  · rw [if_pos hf] at so
    subst htt
    exact g_goto0 C d ht (sLp s) (fun _ h => h) (SO_one so)
  · rw [if_neg hf] at so
    simp only [] at so
    have hlp : ∀ p ∈ (sLp s).filter (fun p => Nat.ble p.1 t), p ∈ sLp s := fun p hp => (List.mem_filter.mp hp).1
    generalize (sLp s).filter (fun p => Nat.ble p.1 t) = lp at so hlp
    cases hx : xLh x c mn t with
    | none =>
      rw [hx] at so
      subst htt
      exact g_goto0 C d ht lp hlp (SO_one so)
    | some hh =>
      obtain ⟨hs, ct, up⟩ := hh
      rw [hx] at so
      obtain ⟨pc, lv, st, w, lps, ce, sl⟩ := s
      cases st with
      | cons a r => exact SO_no so
      | nil =>
        intro v I
        have hlv : scO w lv := I.2.2.2.1
        have hn : lv.length = kN k := I.2.2.2.2.2.1
        refine w_goto C d ht ?_
        simp only [] at so
        cases hp : lpAt t lp with
        | some p =>
          rw [hp] at so
          simp only [] at so
          obtain ⟨h1, so1⟩ := so_if so
          clear so
          simp only [Bool.and_eq_true] at h1
          obtain ⟨⟨h1, h2⟩, h3⟩ := h1
          have h2 : ce = 0 := Nat.eq_of_beq_eq_true h2
          have h3 : sl = 0 := Nat.eq_of_beq_eq_true h3
          obtain ⟨hpm, hpt⟩ := lpAt_ok hp
          obtain ⟨l1, l2, l3, l4, l5, l6⟩ := I.2.2.2.2.2.2 p (hlp p hpm)
          cases ha : lGet lv ct with
          | none => simp only [ha] at so1; exact SO_no so1
          | some a =>
            cases hb : lGet p.2.1 ct with
            | none => simp only [ha, hb] at so1; exact SO_no so1
            | some b =>
              simp only [ha, hb] at so1
              obtain ⟨h4, -⟩ := so_if so1
              simp only [Bool.and_eq_true] at h4
              rcases b with z | kc | m | j | q | j
              · cases h4.2
              · have hBn : wle wB (fkw p.2.2.2 (wH w).1 (wX w)) := by
                  have := wle_tr hB0 l5
                  refine ⟨this.1, ?_, this.2.2.1, this.2.2.2.1, ?_⟩
                  · exact Nat.le_trans (wle_tr hB0 I.1).2.1 (Nat.le_refl _)
                  · exact Nat.le_trans (wle_tr hB0 I.1).2.2.2.2 (Nat.le_refl _)
                obtain ⟨⟨c1, c2⟩, -, -, -, v', e1, e2, e3, e4, e5⟩ := mtS_ok (dT := dT) h1 hB hBn I.2.2.1 hlv
                have hr := rkd_ok I.2.2.1.1 h4.1
                have hk : vI v' kc = cZ v a := by
                  have := congrArg vz (e5 ct a (aS kc) ha hb)
                  rw [← cZ_cv, ← cZ_cv] at this
                  exact this
                have hW := l6 hs ct up kc (by rw [hpt]; exact hx) hb v' e2 (by rw [← c1, ← c2]; exact e1) (by rw [hk]; exact hr)
                rw [hpt, e3] at hW
                show WS k t (cL v lv) [] (cW v dT (xB x) (wH w)) ce sl
                rw [h2, h3]
                exact w_lv hW e4
              all_goals cases h4.2
        | none =>
          rw [hp] at so
          simp only [] at so
          cases hh : hvs x lv w hs with
          | none => simp only [hh] at so; exact SO_no so
          | some q =>
            obtain ⟨l1, w1⟩ := q
            simp only [hh] at so
            obtain ⟨h1, so1⟩ := so_if so
            clear so
            simp only [Bool.and_eq_true] at h1
            obtain ⟨⟨h1, h2⟩, h3⟩ := h1
            have h2 : ce = 0 := Nat.eq_of_beq_eq_true h2
            have h3 : sl = 0 := Nat.eq_of_beq_eq_true h3
            have g := SO_one (t := (t, l1, [], w1, (t, l1, w1, cnt w) :: lp, 0, 0)) so1
            have hfk := wle_fk w
            obtain ⟨⟨c1, c2⟩, d1, d2, d3, v', e1, e2, e3, e4, -⟩ := mtS_ok (dT := dT) (n := cnt w) h1 hB (wle_tr (wle_tr hB0 I.1) hfk) I.2.2.1 hlv
            have hlen : l1.length = kN k := d1.trans hn
            have claim : ∀ (m : Nat) (u : VL), okW (xB x) u w1 → agr (fkw (cnt w) (wH w).1 (wX w)) v u → lpM l1 ct up u < m → WS k t (cL u l1) [] (cW u dT (xB x) (wH w1)) 0 0 := by
              intro m
              induction m with
              | zero => intro u _ _ hm; exact absurd hm (Nat.not_lt_zero _)
              | succ m ih =>
                intro u hu hag hm
                have hagw : agr w v u := agr_mono hag hfk
                have hww : wle w w1 := wle_tr hfk d3
                refine g u ⟨wle_tr I.1 hww, agr_tr I.2.1 (agr_mono hagw I.1), hu, d2, fun a ha => absurd ha List.not_mem_nil, hlen, fun p hpm => ?_⟩
                rcases List.mem_cons.mp hpm with e | e
                · subst e
                  refine ⟨by show wle (fkw (cnt w) (wH w1).1 (wX w1)) w1; rw [← c1, ← c2]; exact d3, wle_rf _, d2, hlen, by show wle w0 (fkw (cnt w) (wH w1).1 (wX w1)); rw [← c1, ← c2]; exact wle_tr I.1 hfk, ?_⟩
                  intro hs' ct' up' kc f1 f2 z hz hzag hr
                  replace f1 : xLh x c mn t = some (hs', ct', up') := f1
                  rw [hx] at f1
                  cases f1
                  replace hzag : agr (fkw (cnt w) (wH w1).1 (wX w1)) u z := hzag
                  rw [← c1, ← c2] at hzag
                  exact ih z hz (agr_tr hag hzag) (Nat.lt_of_lt_of_le (lpM_lt f2 hr) (Nat.le_of_lt_succ hm))
                · exact LI_go hagw hww (I.2.2.2.2.2.2 p (hlp p e))
            have hW := claim _ v' e2 e1 (Nat.lt_succ_self _)
            rw [e3] at hW
            show WS k t (cL v lv) [] (cW v dT (xB x) (wH w)) ce sl
            rw [h2, h3]
            exact w_lv hW e4
end LP
