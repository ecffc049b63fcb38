/-! States that lead to the goal -/
/-- a loop's head p, seen from a pass that v stands for: from every later pass the machine comes to its goal -/
def LH (k : kx_T) (x : ACx) (mn c : Nat) (dT : Nat → ClassId) (p : ALp) (v : VL) : Prop :=
  ∀ (hs : List AHv) (ct : Nat) (up : Bool) (kc : Nat), xLh x c mn p.1 = some (hs, ct, up) → lGet p.2.1 ct = some (aS kc) → ∀ u, okW (xB x) u p.2.2.1 → agr (fkw p.2.2.2 (wH p.2.2.1).1 (wX p.2.2.1)) v u →
    (if up = true then (vI v kc).toInt < (vI u kc).toInt else (vI u kc).toInt < (vI v kc).toInt) → WS k p.1 (cL u p.2.1) [] (cW u dT (xB x) (wH p.2.2.1)) 0 0
def LI (k : kx_T) (x : ACx) (mn c : Nat) (dT : Nat → ClassId) (w0 : AW) (W : AW) (v : VL) (p : ALp) : Prop :=
  wle (fkw p.2.2.2 (wH p.2.2.1).1 (wX p.2.2.1)) p.2.2.1 ∧ wle p.2.2.1 W ∧ scO p.2.2.1 p.2.1 ∧ p.2.1.length = kN k ∧ wle w0 (fkw p.2.2.2 (wH p.2.2.1).1 (wX p.2.2.1)) ∧ LH k x mn c dT p v
/-- what holds of a state and what its symbols stand for -/
def Inv (k : kx_T) (x : ACx) (mn c : Nat) (dT : Nat → ClassId) (w0 : AW) (v0 : VL) (s : AS) (v : VL) : Prop :=
  wle w0 (sW s) ∧ agr w0 v0 v ∧ okW (xB x) v (sW s) ∧ scO (sW s) (sLv s) ∧ scL (sW s) (sSt s) ∧ (sLv s).length = kN k ∧ ∀ p ∈ sLp s, LI k x mn c dT w0 (sW s) v p
def GS (k : kx_T) (x : ACx) (mn c : Nat) (dT : Nat → ClassId) (w0 : AW) (v0 : VL) (s : AS) : Prop :=
  ∀ v, Inv k x mn c dT w0 v0 s v → WS k (sPc s) (cL v (sLv s)) ((sSt s).map (cv v)) (cW v dT (xB x) (wH (sW s))) (sC s) (sS s)
section GD
variable {k : kx_T} {x : ACx} {mn c : Nat} {dT : Nat → ClassId} {w0 : AW} {v0 : VL} {s : AS} {v : VL}
theorem lGet_mem {l : List (Option AV)} {i : Nat} {a : AV} (h : lGet l i = some a) : l[i]? = some (some a) := by
  unfold lGet at h
  split at h
  · rename_i b hb
    cases h
    exact hb
  · cases h
theorem lGet_sc {w : AW} {l : List (Option AV)} (hs : scO w l) {i : Nat} {a : AV} (h : lGet l i = some a) : scV w a := hs a (List.mem_of_getElem? (lGet_mem h))
theorem LH_agr {p : ALp} {W : AW} {u : VL} (h1 : wle (fkw p.2.2.2 (wH p.2.2.1).1 (wX p.2.2.1)) p.2.2.1) (h2 : wle p.2.2.1 W) (h3 : scO p.2.2.1 p.2.1) (ha : agr W v u) (h : LH k x mn c dT p v) : LH k x mn c dT p u := by
  intro hs ct up kc e1 e2 z hz hag hr
  have hk : vI v kc = vI u kc := ha.1 kc (Nat.lt_of_lt_of_le (lGet_sc h3 e2) h2.1)
  refine h hs ct up kc e1 e2 z hz (agr_tr (agr_mono ha (wle_tr h1 h2)) hag) ?_
  rw [hk]
  exact hr
theorem LI_go {p : ALp} {W W' : AW} {u : VL} (ha : agr W v u) (hl : wle W W') (h : LI k x mn c dT w0 W v p) : LI k x mn c dT w0 W' u p :=
  ⟨h.1, wle_tr h.2.1 hl, h.2.2.1, h.2.2.2.1, h.2.2.2.2.1, LH_agr h.1 h.2.1 h.2.2.1 ha h.2.2.2.2.2⟩
/-- on to the next state -/
theorem Inv_go {s' : AS} {v' : VL} (I : Inv k x mn c dT w0 v0 s v) (hl : wle (sW s) (sW s')) (ha : agr (sW s) v v') (hw : okW (xB x) v' (sW s')) (hlv : scO (sW s') (sLv s')) (hst : scL (sW s') (sSt s')) (hn : (sLv s').length = kN k) (hlp : ∀ p ∈ sLp s', p ∈ sLp s) : Inv k x mn c dT w0 v0 s' v' :=
  ⟨wle_tr I.1 hl, agr_tr I.2.1 (agr_mono ha I.1), hw, hlv, hst, hn, fun p hp => LI_go ha hl (I.2.2.2.2.2.2 p (hlp p hp))⟩
/-- the same locals, the same cells, a new stack in a grown world -/
theorem gs_go {pc : Nat} {st : List AV} {w : AW} {v' : VL} {vs : List Value} (g : GS k x mn c dT w0 v0 (sGoW s pc st w)) (I : Inv k x mn c dT w0 v0 s v) (hl : wle (sW s) w) (hH : wH w = wH (sW s)) (ha : agr (sW s) v v') (hw : okW (xB x) v' w) (hst : scL w st) (e : st.map (cv v') = vs) :
    WS k pc (cL v (sLv s)) vs (cW v dT (xB x) (wH (sW s))) (sC s) (sS s) := by
  have h := g v' (Inv_go I hl ha hw (scO_mono hl I.2.2.2.1) hst I.2.2.2.2.2.1 (fun p hp => hp))
  have h : WS k pc (cL v' (sLv s)) (st.map (cv v')) (cW v' dT (xB x) (wH w)) (sC s) (sS s) := h
  rw [hH, ← cW_agr ha I.2.2.1.2.2.1, ← cL_agr ha I.2.2.2.1, e] at h
  exact h
theorem gs_same {pc : Nat} {st : List AV} (g : GS k x mn c dT w0 v0 (sGo s pc st)) (I : Inv k x mn c dT w0 v0 s v) (hst : scL (sW s) st) : WS k pc (cL v (sLv s)) (st.map (cv v)) (cW v dT (xB x) (wH (sW s))) (sC s) (sS s) :=
  g v (Inv_go I (wle_rf _) (agr_rf _ _) I.2.2.1 I.2.2.2.1 hst I.2.2.2.2.2.1 (fun p hp => hp))
/-- a fresh value on the stack -/
theorem gs_fr {pc : Nat} {r : List AV} {val : VL → Value} {q : AW × AV} (hF : Fr (xB x) (sW s) val q) (g : GS k x mn c dT w0 v0 (sGoW s pc (q.2 :: r) q.1)) (I : Inv k x mn c dT w0 v0 s v) (hr : scL (sW s) r) :
    WS k pc (cL v (sLv s)) (val v :: r.map (cv v)) (cW v dT (xB x) (wH (sW s))) (sC s) (sS s) := by
  obtain ⟨h1, h2, h3⟩ := hF
  obtain ⟨v', a, b, d, e⟩ := h3 v I.2.2.1
  refine gs_go g I h1 h2 a b (fun z hz => ?_) ?_
  · rcases List.mem_cons.mp hz with q | q
    · rw [q]; exact d
    · exact scV_mono h1 (hr z q)
  · rw [List.map_cons, e, ← cS_agr a hr]
theorem sc_tl {w : AW} {a : AV} {l : List AV} (h : scL w (a :: l)) : scL w l := fun z hz => h z (List.mem_cons_of_mem _ hz)
theorem sc_hd {w : AW} {a : AV} {l : List AV} (h : scL w (a :: l)) : scV w a := h a List.mem_cons_self
theorem sc_cons {w : AW} {a : AV} {l : List AV} (h : scV w a) (g : scL w l) : scL w (a :: l) := fun z hz => by
  rcases List.mem_cons.mp hz with q | q
  · rw [q]; exact h
  · exact g z q
/-- what a step owes -/
def SO (k : kx_T) (x : ACx) (mn c : Nat) (dT : Nat → ClassId) (w0 : AW) (v0 : VL) (Rs : List AR) (o : AO) : Prop := ∃ ss rs, o = some (ss, rs) ∧ (∀ t ∈ ss, GS k x mn c dT w0 v0 t) ∧ ∀ r ∈ rs, r ∈ Rs
theorem SO_one {Rs : List AR} {t : AS} (h : SO k x mn c dT w0 v0 Rs (oOne t)) : GS k x mn c dT w0 v0 t := by
  obtain ⟨ss, rs, e, h1, -⟩ := h
  cases e
  exact h1 t List.mem_cons_self
theorem SO_no {Rs : List AR} {P : Prop} (h : SO k x mn c dT w0 v0 Rs none) : P := by
  obtain ⟨ss, rs, e, -⟩ := h
  cases e
end GD
