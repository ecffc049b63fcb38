/-! Behind a call -/
section CA
variable {k : kx_T} {x : ACx} {mn c : Nat} {dT : Nat → ClassId} {w0 : AW} {v0 : VL} {s : AS} {v : VL} {Rs : List AR} {wB : AW}
/-- ends taken together -/
theorem sm_ok (hB : ∀ i, scC wB (xB x i)) {as : List AV} {w : AW} (hBw : wle wB w) {sm : ASm} {rs ps : List AR} (h : smTry x as w sm rs = some ps) {o : mb_O} {ws : va_W} (hk : Kd x dT w v rs o ws) : Kd x dT w v ps o ws := by
  unfold smTry at h
  split at h
  · rename_i ps' hps
    split at h
    · rename_i hall
      cases h
      obtain ⟨r, hr, v', a1, a2, a3, a4, a5, a6⟩ := hk
      obtain ⟨q, hq, hle⟩ := List.any_eq_true.mp (List.all_eq_true.mp hall r hr)
      obtain ⟨ro, rw_⟩ := r
      obtain ⟨qo, qw⟩ := q
      have hfk : wle w (fkw (cnt w) (wH rw_).1 (wX rw_)) := ⟨by rw [fkw_len]; exact Nat.le_refl _, a2.2.1, Nat.le_refl _, Nat.le_refl _, a2.2.2.2.2⟩
      have go : ∀ (pl : List (AV × AV)), mtA x (cnt w) rw_ qw pl = true → (∀ p ∈ pl, scV rw_ p.1) → ∃ v'', agr w v v'' ∧ wle w qw ∧ okW (xB x) v'' qw ∧ ws = cW v'' dT (xB x) (wH qw) ∧ ∀ p ∈ pl, cv v'' p.2 = cv v' p.1 ∧ scV qw p.2 := by
        intro pl hm hpl
        obtain ⟨v'', b1, b2, b3, b4, b5⟩ := mtA_ok (dT := dT) hm hB (wle_tr hBw hfk) a3 hpl
        exact ⟨v'', agr_tr a1 (agr_mono b1 hfk), wle_tr hfk b5, b2, a6.trans b3.symm, b4⟩
      rcases ro with ro | re
      · cases ro with
        | none =>
          rcases qo with qo | qe
          · cases qo with
            | none =>
              obtain ⟨v'', c1, c2, c3, c4, -⟩ := go [] hle (fun p hp => absurd hp List.not_mem_nil)
              exact ⟨(.inl none, qw), hq, v'', c1, c2, c3, fun a ha => (by cases ha), a5, c4⟩
            | some b => cases hle
          · cases hle
        | some a =>
          rcases qo with qo | qe
          · cases qo with
            | none => cases hle
            | some b =>
              obtain ⟨v'', c1, c2, c3, c4, c5⟩ := go [(a, b)] hle (fun p hp => by rw [List.mem_singleton.mp hp]; exact a4 a rfl)
              have c6 := c5 (a, b) List.mem_cons_self
              refine ⟨(.inl (some b), qw), hq, v'', c1, c2, c3, fun a' ha => by cases ha; exact c6.2, ?_, c4⟩
              rw [a5]
              show Sum.inl (some (cv v' a)) = Sum.inl (some (cv v'' b))
              rw [c6.1]
          · cases hle
      · rcases qo with qo | qe
        · cases qo <;> cases hle
        · replace hle : (Nat.beq re qe && mtA x (cnt w) rw_ qw []) = true := hle
          simp only [Bool.and_eq_true] at hle
          have he := Nat.eq_of_beq_eq_true hle.1
          subst he
          obtain ⟨v'', c1, c2, c3, c4, -⟩ := go [] hle.2 (fun p hp => absurd hp List.not_mem_nil)
          exact ⟨(.inr re, qw), hq, v'', c1, c2, c3, fun a ha => (by cases ha), a5, c4⟩
    · cases h
  · cases h
theorem cont_mem {r : List AV} {m q : AM} : ∀ {ps : List AR} {ss : List AS} {rs : List AR}, oCont s r m q ps = some (ss, rs) → (∀ o w, (Sum.inl o, w) ∈ ps → (sPc s + 3, sLv s, o.toList ++ r, w, sLp s, sC s + mCe q, sS s + mSl q) ∈ ss) ∧ ∀ e w, (Sum.inr e, w) ∈ ps → (Sum.inr e, w) ∈ rs ∧ sC s + mCe q ≤ mCe m ∧ sS s + mSl q ≤ mSl m
  | [], ss, rs, h => ⟨fun o w hm => absurd hm List.not_mem_nil, fun e w hm => absurd hm List.not_mem_nil⟩
  | (.inl v, w) :: t, ss, rs, h => by
    replace h : (match oCont s r m q t with
      | some (a, b) => some ((sPc s + 3, sLv s, v.toList ++ r, w, sLp s, sC s + mCe q, sS s + mSl q) :: a, b)
      | none => none) = some (ss, rs) := h
    cases ht : oCont s r m q t with
    | none => rw [ht] at h; cases h
    | some z =>
      obtain ⟨a, b⟩ := z
      rw [ht] at h
      cases h
      obtain ⟨g1, g2⟩ := cont_mem ht
      refine ⟨fun o w' hm => ?_, fun e w' hm => ?_⟩
      · rcases List.mem_cons.mp hm with e | e
        · cases e; exact List.mem_cons_self
        · exact List.mem_cons_of_mem _ (g1 o w' e)
      · rcases List.mem_cons.mp hm with e | e
        · cases e
        · exact g2 _ w' e
  | (.inr e0, w) :: t, ss, rs, h => by
    replace h : (match oCont s r m q t with
      | some (a, b) => if (Nat.ble (sC s + mCe q) (mCe m) && Nat.ble (sS s + mSl q) (mSl m)) = true then some (a, (.inr e0, w) :: b) else none
      | none => none) = some (ss, rs) := h
    cases ht : oCont s r m q t with
    | none => rw [ht] at h; cases h
    | some z =>
      obtain ⟨a, b⟩ := z
      rw [ht] at h
      simp only [] at h
      split at h
      · rename_i hc
        simp only [Bool.and_eq_true] at hc
        cases h
        obtain ⟨g1, g2⟩ := cont_mem ht
        refine ⟨fun o w' hm => ?_, fun e w' hm => ?_⟩
        · rcases List.mem_cons.mp hm with e | e
          · cases e
          · exact g1 o w' e
        · rcases List.mem_cons.mp hm with e | e
          · cases e; exact ⟨List.mem_cons_self, Nat.le_of_ble_eq_true hc.1, Nat.le_of_ble_eq_true hc.2⟩
          · obtain ⟨z1, z2⟩ := g2 _ w' e
            exact ⟨List.mem_cons_of_mem _ z1, z2⟩
      · cases h
/-- behind a call: on with a value, or out with an exception -/
theorem cont_ok (C : kx_ok k) (qe : kx_end k (Kd x dT w0 v0 Rs) (mCe (xM x mn)) (mSl (xM x mn))) (hx : ∀ z ∈ (kC k).exceptionTable.toList, False) {r : List AV} {q : AM} {ps : List AR} (so : SO k x mn c dT w0 v0 Rs (oCont s r (xM x mn) q ps)) (I : Inv k x mn c dT w0 v0 s v) (hr : scL (sW s) r) :
    (∀ o ws, Kd x dT (sW s) v ps (.inl o) ws → WS k (sPc s + 3) (cL v (sLv s)) (o.toList ++ r.map (cv v)) ws (sC s + mCe q) (sS s + mSl q)) ∧ (∀ E ws, Kd x dT (sW s) v ps (.inr E) ws → WX k (sPc s) (cL v (sLv s)) (r.map (cv v)) ws E (sC s + mCe q) (sS s + mSl q)) := by
  obtain ⟨ss, rs, e, g1, g2⟩ := so
  obtain ⟨m1, m2⟩ := cont_mem e
  constructor
  · rintro o ws ⟨⟨ro, w⟩, hp, v', a1, a2, a3, a4, a5, a6⟩
    rcases ro with ro | re
    · have ho : o = ro.map (cv v') := Sum.inl.inj a5
      subst ho
      subst a6
      have hsc : scL w (ro.toList ++ r) := fun a ha => by
        rcases List.mem_append.mp ha with q | q
        · cases ro with
          | none => exact absurd q List.not_mem_nil
          | some b =>
            rw [List.mem_singleton.mp q]
            exact a4 b rfl
        · exact scV_mono a2 (hr a q)
      have h := g1 _ (m1 ro w hp) v' (Inv_go I a2 a1 a3 (scO_mono a2 I.2.2.2.1) hsc I.2.2.2.2.2.1 (fun p hp => hp))
      replace h : WS k (sPc s + 3) (cL v' (sLv s)) ((ro.toList ++ r).map (cv v')) (cW v' dT (xB x) (wH w)) (sC s + mCe q) (sS s + mSl q) := h
      rw [← cL_agr a1 I.2.2.2.1, List.map_append, ← cS_agr a1 hr] at h
      cases ro <;> exact h
    · cases a5
  · rintro E ws ⟨⟨ro, w⟩, hp, v', a1, a2, a3, a4, a5, a6⟩
    rcases ro with ro | re
    · cases a5
    · obtain ⟨z1, z2, z3⟩ := m2 re w hp
      refine x_out C qe (fun z hz => absurd (hx z hz) id) z2 z3 ?_
      exact ⟨(.inr re, w), g2 _ z1, v', agr_tr I.2.1 (agr_mono a1 I.1), wle_tr I.1 a2, a3, a4, a5, a6⟩
end CA
