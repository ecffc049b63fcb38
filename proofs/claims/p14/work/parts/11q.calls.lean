/-! Behind a call -/
section CA
variable {k : kx_T} {x : ACx} {mn c : Nat} {dT : Nat → ClassId} {w0 : AW} {v0 : VL} {s : AS} {v : VL} {Rs : List AR} {wB : AW}
/-- ends taken together -/
theorem sm_ok (hB : ∀ i, scC wB (xB x i)) {as : List AV} {w : AW} (hBw : wle wB w) {sm : ASm} {rs ps : List AR} (h : smTry x as w sm rs = some ps) {o : mb_O} {ws : va_W} (hk : Kd x dT w v rs o ws) : Kd x dT w v ps o ws := by
  unfold smTry at h
  split at h
  · rename_i ps' hps
    split at h
    · rename_i hall
      cases h
      obtain ⟨r, hr, v', a1, a2, a3, a4, a5, a6⟩ := hk
      obtain ⟨q, hq, hle⟩ := List.any_eq_true.mp (List.all_eq_true.mp hall r hr)
      obtain ⟨ro, rw_⟩ := r
      obtain ⟨qo, qw⟩ := q
      have hfk : wle w (fkw (cnt w) (wH rw_).1 (wX rw_)) := ⟨by rw [fkw_len]; exact Nat.le_refl _, a2.2.1, Nat.le_refl _, Nat.le_refl _, a2.2.2.2.2⟩
      have go : ∀ (pl : List (AV × AV)), mtA x (cnt w) rw_ qw pl = true → (∀ p ∈ pl, scV rw_ p.1) → ∃ v'', agr w v v'' ∧ wle w qw ∧ okW (xB x) v'' qw ∧ ws = cW v'' dT (xB x) (wH qw) ∧ ∀ p ∈ pl, cv v'' p.2 = cv v' p.1 ∧ scV qw p.2 := by
        intro pl hm hpl
        obtain ⟨v'', b1, b2, b3, b4, b5⟩ := mtA_ok (dT := dT) hm hB (wle_tr hBw hfk) a3 hpl
        exact ⟨v'', agr_tr a1 (agr_mono b1 hfk), wle_tr hfk b5, b2, a6.trans b3.symm, b4⟩
      rcases ro with ro | re
      · cases ro with
        | none =>
          rcases qo with qo | qe
          · cases qo with
            | none =>
              obtain ⟨v'', c1, c2, c3, c4, -⟩ := go [] hle (fun p hp => absurd hp List.not_mem_nil)
              exact ⟨(.inl none, qw), hq, v'', c1, c2, c3, fun a ha => (by cases ha), a5, c4⟩
            | some b => cases hle
          · cases hle
        | some a =>
          rcases qo with qo | qe
          · cases qo with
            | none => cases hle
            | some b =>
              obtain ⟨v'', c1, c2, c3, c4, c5⟩ := go [(a, b)] hle (fun p hp => by rw [List.mem_singleton.mp hp]; exact a4 a rfl)
              have c6 := c5 (a, b) List.mem_cons_self
              refine ⟨(.inl (some b), qw), hq, v'', c1, c2, c3, fun a' ha => by cases ha; exact c6.2, ?_, c4⟩
              rw [a5]
              show Sum.inl (some (cv v' a)) = Sum.inl (some (cv v'' b))
              rw [c6.1]
          · cases hle
      · rcases qo with qo | qe
        · cases qo <;> cases hle
        · replace hle : (Nat.beq re qe && mtA x (cnt w) rw_ qw []) = true := hle
          simp only [Bool.and_eq_true] at hle
          have he := Nat.eq_of_beq_eq_true hle.1
          subst he
          obtain ⟨v'', c1, c2, c3, c4, -⟩ := go [] hle.2 (fun p hp => absurd hp List.not_mem_nil)
          exact ⟨(.inr re, qw), hq, v'', c1, c2, c3, fun a ha => (by cases ha), a5, c4⟩
    · cases h
  · cases h
theorem oCont_v {hd : Nat → Option Nat} {r : List AV} {m q : AM} {v : Option AV} {w : AW} {t : List AR} : oCont hd s r m q ((.inl v, w) :: t) = match oCont hd s r m q t with
    | some (a, b) => some ((sPc s + 3, sLv s, v.toList ++ r, w, sLp s, sC s + mCe q, sS s + mSl q) :: a, b)
    | none => none := rfl
theorem oCont_x {hd : Nat → Option Nat} {r : List AV} {m q : AM} {e : Nat} {w : AW} {t : List AR} : oCont hd s r m q ((.inr e, w) :: t) = match oCont hd s r m q t with
    | some (a, b) => match hd e with
      | some h => some ((h, sLv s, [aX (wX w)], (wNewX w).1, sLp s, sC s + mCe q, sS s + mSl q) :: a, b)
      | none => if (Nat.ble (sC s + mCe q) (mCe m) && Nat.ble (sS s + mSl q) (mSl m)) = true then some (a, (.inr e, w) :: b) else none
    | none => none := rfl
/-- where an end by an exception goes on -/
def ctX (hd : Nat → Option Nat) (s : AS) (m q : AM) (ss : List AS) (rs : List AR) (e : Nat) (w : AW) : Prop :=
  (∃ h, hd e = some h ∧ (h, sLv s, [aX (wX w)], (wNewX w).1, sLp s, sC s + mCe q, sS s + mSl q) ∈ ss) ∨ (hd e = none ∧ (Sum.inr e, w) ∈ rs ∧ sC s + mCe q ≤ mCe m ∧ sS s + mSl q ≤ mSl m)
theorem ctX_mono {hd : Nat → Option Nat} {m q : AM} {ss ss' : List AS} {rs rs' : List AR} {e : Nat} {w : AW} (h : ctX hd s m q ss rs e w) (h1 : ∀ t ∈ ss, t ∈ ss') (h2 : ∀ t ∈ rs, t ∈ rs') : ctX hd s m q ss' rs' e w := by
  rcases h with ⟨p, a, b⟩ | ⟨a, b, d⟩
  · exact Or.inl ⟨p, a, h1 _ b⟩
  · exact Or.inr ⟨a, h2 _ b, d⟩
theorem cont_mem {hd : Nat → Option Nat} {r : List AV} {m q : AM} : ∀ {ps : List AR} {ss : List AS} {rs : List AR}, oCont hd s r m q ps = some (ss, rs) → (∀ o w, (Sum.inl o, w) ∈ ps → (sPc s + 3, sLv s, o.toList ++ r, w, sLp s, sC s + mCe q, sS s + mSl q) ∈ ss) ∧ ∀ e w, (Sum.inr e, w) ∈ ps → ctX hd s m q ss rs e w
  | [], ss, rs, h => ⟨fun o w hm => absurd hm List.not_mem_nil, fun e w hm => absurd hm List.not_mem_nil⟩
  | (.inl v, w) :: t, ss, rs, h => by
    rw [oCont_v] at h
    cases ht : oCont hd s r m q t with
    | none => rw [ht] at h; cases h
    | some z =>
      obtain ⟨a, b⟩ := z
      rw [ht] at h
      cases h
      obtain ⟨g1, g2⟩ := cont_mem ht
      refine ⟨fun o w' hm => ?_, fun e w' hm => ?_⟩
      · rcases List.mem_cons.mp hm with e | e
        · cases e; exact List.mem_cons_self
        · exact List.mem_cons_of_mem _ (g1 o w' e)
      · rcases List.mem_cons.mp hm with e | e
        · cases e
        · exact ctX_mono (g2 _ w' e) (fun _ h => List.mem_cons_of_mem _ h) (fun _ h => h)
  | (.inr e0, w) :: t, ss, rs, h => by
    rw [oCont_x] at h
    cases ht : oCont hd s r m q t with
    | none => rw [ht] at h; cases h
    | some z =>
      obtain ⟨a, b⟩ := z
      obtain ⟨g1, g2⟩ := cont_mem ht
      rw [ht] at h
      simp only [] at h
      cases hh : hd e0 with
      | some p =>
        rw [hh] at h
        cases h
        refine ⟨fun o w' hm => ?_, fun e w' hm => ?_⟩
        · rcases List.mem_cons.mp hm with e | e
          · cases e
          · exact List.mem_cons_of_mem _ (g1 o w' e)
        · rcases List.mem_cons.mp hm with e | e
          · cases e; exact Or.inl ⟨p, hh, List.mem_cons_self⟩
          · exact ctX_mono (g2 _ w' e) (fun _ h => List.mem_cons_of_mem _ h) (fun _ h => h)
      | none =>
        rw [hh] at h
        simp only [] at h
        split at h
        · rename_i hc
          simp only [Bool.and_eq_true] at hc
          cases h
          refine ⟨fun o w' hm => ?_, fun e w' hm => ?_⟩
          · rcases List.mem_cons.mp hm with e | e
            · cases e
            · exact g1 o w' e
          · rcases List.mem_cons.mp hm with e | e
            · cases e; exact Or.inr ⟨hh, List.mem_cons_self, Nat.le_of_ble_eq_true hc.1, Nat.le_of_ble_eq_true hc.2⟩
            · exact ctX_mono (g2 _ w' e) (fun _ h => h) (fun _ h => List.mem_cons_of_mem _ h)
        · cases h
/-- past rows that name other classes: on to the caller -/
theorem x_outP (C : kx_ok k) {pc : Nat} {lv : List (Nat × Value)} {st : List Value} {ws : va_W} {ce sl mc ms : Nat} {K : mb_O → va_W → Prop} {E : String} (q : kx_end k K mc ms) (hout : ∀ z ∈ (kC k).exceptionTable.toList, covers z pc = false ∨ (z.catchType ≠ 0 ∧ ∃ nm : String, Cond.classLink (kOwn k) z.catchType nm ∈ gT ∧ va_Nc E nm (kS k))) (h1 : ce ≤ mc) (h2 : sl ≤ ms) (h : K (.inr E) ws) : WX k pc lv st ws E ce sl := by
  intro H locs ls a cell hP hD hS hl hc hv hcl
  show vx_W _ _ _ _ _ _ _ _ _ _ _ _ _ _ (kQ k) _ _
  rw [q]
  exact vx_outP C.2.2.2.1 C.2.2.2.2.2.2.2.2.1 (fun z hz => (hout z hz).imp id (fun ⟨a, nm, b, c⟩ => ⟨a, nm, kx_wd C _ b, c⟩)) hc hv hcl (fun t ht _ => ⟨ws, h, by rw [ht]; exact hP, hD, hS.F ht⟩) (fun z hz => hS.2.2 z hz) h1 h2
/-- what the method's own handlers do -/
def exX (k : kx_T) (x : ACx) (mn pc : Nat) : Prop := ∀ e, (xEx x mn pc e = none → ∀ z ∈ (kC k).exceptionTable.toList, covers z pc = false ∨ (z.catchType ≠ 0 ∧ ∃ nm : String, Cond.classLink (kOwn k) z.catchType nm ∈ gT ∧ va_Nc (exN e) nm (kS k))) ∧
  ∀ h, xEx x mn pc e = some h → ∀ (lv : List (Nat × Value)) (st : List Value) (ws : va_W) (ce sl : Nat), (∀ q : Nat, WS k h lv [.ref q] ws ce sl) → WX k pc lv st ws (exN e) ce sl
theorem exX_no (h0 : ∀ pc e, xEx x mn pc e = none) (hx : ∀ z ∈ (kC k).exceptionTable.toList, False) (pc : Nat) : exX k x mn pc := fun e => ⟨fun _ z hz => absurd (hx z hz) id, fun h hh => by rw [h0] at hh; cases hh⟩
def vOu (v : VL) (n q : Nat) : VL := (vI v, vJ v, vA v, fun i => if i = n then q else vO v i, v.2.2.2.2)
theorem agr_vOu {w : AW} (q : Nat) : agr w v (vOu v (wX w) q) :=
  ⟨fun _ _ => rfl, fun _ _ => rfl, fun _ _ => rfl, fun _ _ => ⟨rfl, rfl⟩, fun i hi => by show vO v i = if i = _ then q else vO v i; rw [if_neg (by omega)]⟩
theorem wle_newX {w : AW} : wle w (wNewX w).1 := ⟨Nat.le_refl _, Nat.le_refl _, Nat.le_refl _, Nat.le_refl _, Nat.le_succ _⟩
/-- behind a call: on with a value, or with an exception: to a handler, or out -/
theorem cont_ok (C : kx_ok k) (qe : keX k x mn dT w0 v0 Rs) (hx : exX k x mn (sPc s)) {r : List AV} {q : AM} {ps : List AR} (so : SO k x mn c dT w0 v0 Rs (oCont (xEx x mn (sPc s)) s r (xM x mn) q ps)) (I : Inv k x mn c dT w0 v0 s v) (hr : scL (sW s) r) :
    (∀ o ws, Kd x dT (sW s) v ps (.inl o) ws → WS k (sPc s + 3) (cL v (sLv s)) (o.toList ++ r.map (cv v)) ws (sC s + mCe q) (sS s + mSl q)) ∧ (∀ E ws, Kd x dT (sW s) v ps (.inr E) ws → WX k (sPc s) (cL v (sLv s)) (r.map (cv v)) ws E (sC s + mCe q) (sS s + mSl q)) := by
  obtain ⟨ss, rs, e, g1, g2⟩ := so
  obtain ⟨m1, m2⟩ := cont_mem e
  constructor
  · rintro o ws ⟨⟨ro, w⟩, hp, v', a1, a2, a3, a4, a5, a6⟩
    rcases ro with ro | re
    · have ho : o = ro.map (cv v') := Sum.inl.inj a5
      subst ho
      subst a6
      have hsc : scL w (ro.toList ++ r) := fun a ha => by
        rcases List.mem_append.mp ha with q | q
        · cases ro with
          | none => exact absurd q List.not_mem_nil
          | some b =>
            rw [List.mem_singleton.mp q]
            exact a4 b rfl
        · exact scV_mono a2 (hr a q)
      have h := g1 _ (m1 ro w hp) v' (Inv_go I a2 a1 a3 (scO_mono a2 I.2.2.2.1) hsc I.2.2.2.2.2.1 (fun p hp => hp))
      replace h : WS k (sPc s + 3) (cL v' (sLv s)) ((ro.toList ++ r).map (cv v')) (cW v' dT (xB x) (wH w)) (sC s + mCe q) (sS s + mSl q) := h
      rw [← cL_agr a1 I.2.2.2.1, List.map_append, ← cS_agr a1 hr] at h
      cases ro <;> exact h
    · cases a5
  · rintro E ws ⟨⟨ro, w⟩, hp, v', a1, a2, a3, a4, a5, a6⟩
    rcases ro with ro | re
    · cases a5
    · have hE : E = exN re := Sum.inr.inj a5
      subst hE
      rcases m2 re w hp with ⟨h, z1, z2⟩ | ⟨z0, z1, z2, z3⟩
      · refine (hx re).2 h z1 _ _ _ _ _ (fun a => ?_)
        subst a6
        have b1 : agr w v' (vOu v' (wX w) a) := agr_vOu a
        have b2 : agr (sW s) v (vOu v' (wX w) a) := agr_tr a1 (agr_mono b1 a2)
        have hl : wle (sW s) (wNewX w).1 := wle_tr a2 wle_newX
        have hw : okW (xB x) (vOu v' (wX w) a) (wNewX w).1 := okW_ext a3 b1 wle_newX rfl a3.1 a3.2.2.2
        have h := g1 _ z2 (vOu v' (wX w) a) (Inv_go I hl b2 hw (scO_mono hl I.2.2.2.1) (sc_cons (show wX w < wX w + 1 by omega) (fun z hz => absurd hz List.not_mem_nil)) I.2.2.2.2.2.1 (fun p hp => hp))
        replace h : WS k _ (cL (vOu v' (wX w) a) (sLv s)) [.ref (vO (vOu v' (wX w) a) (wX w))] (cW (vOu v' (wX w) a) dT (xB x) (wH w)) (sC s + mCe q) (sS s + mSl q) := h
        have hq : vO (vOu v' (wX w) a) (wX w) = a := if_pos rfl
        rw [hq, ← cL_agr b2 I.2.2.2.1, ← cW_agr b1 a3.2.2.1] at h
        exact h
      · obtain ⟨K, qe, hK⟩ := qe
        refine x_outP C qe ((hx re).1 z0) z2 z3 (hK _ _ ?_)
        exact ⟨(.inr re, w), g2 _ z1, v', agr_tr I.2.1 (agr_mono a1 I.1), wle_tr I.1 a2, a3, a4, a5, a6⟩
end CA
