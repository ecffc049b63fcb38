/-! The contract of the model's hangs -/
/-- a row of ones and zeros as bits -/
def sbL : List AV → Option Nat
  | [] => some 0
  | .inl z :: r => match sbL r with
    | some s => if z = 0 then some (2 * s) else if z = 1 then some (2 * s + 1) else none
    | none => none
  | _ => none
theorem sbL_ok : ∀ {l : List AV} {s : Nat}, sbL l = some s → ∀ c, c < l.length → l[c]? = some (.inl (bif s.testBit c then 1 else 0))
  | [], s, _, c, hc => absurd hc (Nat.not_lt_zero _)
  | .inr _ :: r, s, h, _, _ => by cases h
  | .inl z :: r, s, h, c, hc => by
    replace h : (match sbL r with
      | some s => if z = 0 then some (2 * s) else if z = 1 then some (2 * s + 1) else none
      | none => none) = some s := h
    cases hr : sbL r with
    | none => rw [hr] at h; cases h
    | some t =>
      rw [hr] at h
      replace h : (if z = 0 then some (2 * t) else if z = 1 then some (2 * t + 1) else none) = some s := h
      have ih := sbL_ok hr
      by_cases h0 : z = 0
      · rw [if_pos h0] at h
        cases h; subst h0
        cases c with
        | zero => rw [Nat.testBit_zero]; simp
        | succ c =>
          rw [Nat.testBit_succ, show 2 * t / 2 = t by omega]
          exact ih c (by simpa using hc)
      · rw [if_neg h0] at h
        by_cases h1 : z = 1
        · rw [if_pos h1] at h
          cases h; subst h1
          cases c with
          | zero => rw [Nat.testBit_zero]; simp
          | succ c =>
            rw [Nat.testBit_succ, show (2 * t + 1) / 2 = t by omega]
            exact ih c (by simpa using hc)
        · rw [if_neg h1] at h; cases h
def sbB (b : AB) : Option Nat := match b with
  | .inl l => if Nat.beq l.length 128 then sbL l else none
  | .inr (0, 0, _) => some 0
  | _ => none
theorem sbB_ok {B : Nat → AC} {v : VL} {b : AB} {s : Nat} (h : sbB b = some s) (hok : okC v (.inl (2, 128, b))) : ∀ c, c < 128 → cBz v b c = bif s.testBit c then 1 else 0 := by
  intro c hc
  unfold sbB at h
  split at h
  · rename_i l
    split at h
    · rename_i hl
      have hl := Nat.eq_of_beq_eq_true hl
      have := sbL_ok h c (by omega)
      show cZ v (l.getD c (aI 0)) = _
      rw [List.getD_eq_getElem?_getD, this]
      cases s.testBit c <;> rfl
    · cases h
  · rename_i m
    cases h
    have := hok (by decide) c hc
    rw [Nat.zero_testBit]
    show vC v m c = 0
    apply Int32.toInt_inj.1
    show _ = (0 : Int)
    replace this : (0 : Int) ≤ (vC v m c).toInt ∧ (vC v m c).toInt ≤ 0 := this
    omega
  · cases h
/-- contents that are 0 or 1 -/
def zoB (b : AB) : Bool := match b with
  | .inl l => l.all (fun a => match a with | .inl z => decide (z = 0) || decide (z = 1) | _ => false)
  | .inr (lo, hi, _) => decide (0 ≤ lo) && decide (hi ≤ 1)
theorem zo_two {x : Int32} (h0 : 0 ≤ x.toInt) (h1 : x.toInt ≤ 1) : x = 0 ∨ x = 1 := by
  rcases (show x.toInt = 0 ∨ x.toInt = 1 by omega) with e | e
  · exact Or.inl (Int32.toInt_inj.1 e)
  · exact Or.inr (Int32.toInt_inj.1 e)
theorem zoB_ok {v : VL} {b : AB} (h : zoB b = true) (hok : okC v (.inl (2, 128, b))) : ∀ c, c < 128 → cBz v b c = 0 ∨ cBz v b c = 1 := by
  intro c hc
  unfold zoB at h
  split at h
  · rename_i l
    show cZ v (l.getD c (aI 0)) = 0 ∨ cZ v (l.getD c (aI 0)) = 1
    rcases getD_mem (l := l) (j := c) (d := aI 0) with q | q
    · rw [q]; exact Or.inl rfl
    · have := List.all_eq_true.mp h _ q
      generalize l.getD c (aI 0) = a at this
      rcases a with z | a
      · replace this : (decide (z = 0) || decide (z = 1)) = true := this
        simp only [Bool.or_eq_true, decide_eq_true_eq] at this
        rcases this with e | e <;> subst e
        · exact Or.inl rfl
        · exact Or.inr rfl
      · cases this
  · rename_i lo hi m
    simp only [Bool.and_eq_true, decide_eq_true_eq] at h
    have := hok (by decide) c hc
    replace this : lo ≤ (vC v m c).toInt ∧ (vC v m c).toInt ≤ hi := this
    exact zo_two (x := vC v m c) (by omega) (by omega)
/-- the world behind hangs: met and heap forgotten -/
def hgN (w : AW) (qM qH : Nat) : AW := (w.1, hSet (hSet (wH w) qM (.inl (2, 128, .inr (0, 1, wA w)))) qH (.inl (0, 128, .inr (-2147483648, 2147483647, wA w + 1))), wL w, wA w + 2, wX w)
def hgC (s : Nat) : Bool := match frd s 128 with
  | none => true
  | some f => flK s f
/-- a field that is a reference -/
def rfA (fs : List AV) (i : Nat) : Option Nat := match lGet (fs.map some) i with
  | some (.inr (.inr (.inr (.inr (.inl (some q)))))) => some q
  | _ => none
theorem rfA_ok {fs : List AV} {i q : Nat} (h : rfA fs i = some q) : fs[i]? = some (aR (some q)) := by
  unfold rfA at h
  split at h
  · rename_i q' e
    cases h
    have := lGet_mem e
    rw [List.getElem?_map] at this
    cases hf : fs[i]? with
    | none => rw [hf] at this; cases this
    | some a => rw [hf] at this; cases this; rfl
  · cases h
def ctH (as : List AV) (w : AW) : Option (List AR) := match as with
  | [.inr (.inr (.inr (.inr (.inl (some m)))))] => match hGet bsB (wH w) m with
    | .inr (12, fs) => match rfA fs 37, rfA fs 38, rfA fs 39 with
      | some qS, some qM, some qH =>
        match hGet bsB (wH w) qS, hGet bsB (wH w) qM, hGet bsB (wH w) qH with
        | .inl (2, 128, bS), .inl (2, 128, bM), .inl (0, 128, _) =>
          if Nat.blt m (wH w).1 && Nat.blt qS (wH w).1 && Nat.blt qM (wH w).1 && Nat.blt qH (wH w).1 && !Nat.beq qM qH && !Nat.beq qS qM && zoB bM then
            match sbB bS with
            | some s => if hgC s then some [(.inl (some (aI 1)), hgN w qM qH)] else none
            | none => none
          else none
        | _, _, _ => none
      | _, _, _ => none
    | _ => none
  | _ => none
theorem set_same {α : Type} {l : List α} {i : Nat} {a : α} (h : l[i]? = some a) : l.set i a = l := by
  apply List.ext_getElem?
  intro j
  rw [List.getElem?_set]
  by_cases e : i = j
  · subst e
    rw [if_pos rfl, if_pos (List.getElem?_eq_some_iff.mp h).1, h]
  · rw [if_neg e]
def vC2 (v : VL) (n : Nat) (f g : Nat → Int32) : VL := (v.1, v.2.1, v.2.2.1, v.2.2.2.1, fun k => if k = n then f else if k = n + 1 then g else vC v k, v.2.2.2.2.2)
section HC
variable {k : kx_T} {dT : Nat → ClassId} {a0 : Array Value} {b L : Nat} {xs : Nat → Int32}
/-- the end, whatever met and heap hold -/
theorem hgN_ok {x : ACx} {w : AW} {v : VL} {qM qH : Nat} {fM fH : Nat → Int32} {bM bH : AB} (hw : okW (xB x) v w) (h1 : qM < (wH w).1) (h2 : qH < (wH w).1) (hne : qM ≠ qH)
    (z1 : ∀ j, fM j = 0 ∨ fM j = 1) (z2 : ∀ j, 128 ≤ j → fM j = 0) (z3 : ∀ j, 128 ≤ j → fH j = 0) : Kd x dT w v [(.inl (some (aI 1)), hgN w qM qH)] (.inl (some (.int 1))) (((cW v dT (xB x) (wH w)).set qM (vA v qM, .inl (dT 2, 128, .inl fM))).set qH (vA v qH, .inl (dT 0, 128, .inl fH))) := by
  have hle : wle w (hgN w qM qH) := ⟨Nat.le_refl _, Nat.le_refl _, Nat.le_refl _, Nat.le_add_right _ _, Nat.le_refl _⟩
  have ha : agr w v (vC2 v (wA w) fM fH) := ⟨fun _ _ => rfl, fun _ _ => rfl, fun _ _ => rfl, fun j hj => ⟨by show vC v j = if j = wA w then fM else if j = wA w + 1 then fH else vC v j; rw [if_neg (by omega), if_neg (by omega)], rfl⟩, fun _ _ => rfl⟩
  refine ⟨_, List.mem_cons_self, vC2 v (wA w) fM fH, ha, hle, ⟨fun j c hc => hw.1 j c hc, fun i hi => ?_, fun i hi => ?_, fun j c hc => hw.2.2.2 j c hc⟩, fun a h => by cases h; trivial, rfl, ?_⟩
  · show okC _ (hGet (xB x) (hSet (hSet (wH w) qM _) qH _) i)
    rw [hGet_set]
    by_cases e : i = qH
    · rw [if_pos e]
      intro _ j _
      exact z_toInt _
    · rw [if_neg e, hGet_set]
      by_cases e1 : i = qM
      · rw [if_pos e1]
        intro _ j _
        show (0 : Int) ≤ ((if wA w = wA w then fM else _) j).toInt ∧ ((if wA w = wA w then fM else _) j).toInt ≤ 1
        rw [if_pos rfl]
        rcases z1 j with q | q <;> rw [q] <;> decide
      · rw [if_neg e1]
        exact okC_agr ha (hw.2.2.1 i hi) (hw.2.1 i hi)
  · show scC _ (hGet (xB x) (hSet (hSet (wH w) qM _) qH _) i)
    rw [hGet_set]
    by_cases e : i = qH
    · rw [if_pos e]
      show wA w + 1 < wA w + 2
      omega
    · rw [if_neg e, hGet_set]
      by_cases e1 : i = qM
      · rw [if_pos e1]
        show wA w < wA w + 2
        omega
      · rw [if_neg e1]
        exact scC_mono hle (hw.2.2.1 i hi)
  · show _ = cW (vC2 v (wA w) fM fH) dT (xB x) (hSet (hSet (wH w) qM _) qH _)
    rw [cW_set (h := hSet (wH w) qM _) h2, cW_set h1, ← cW_agr ha hw.2.2.1]
    have e1 : cC (vC2 v (wA w) fM fH) dT (.inl (2, 128, .inr (0, 1, wA w))) = .inl (dT 2, 128, .inl fM) := by
      show Sum.inl (dT 2, 128, Sum.inl (fun j => if j < 128 then (if wA w = wA w then fM else _) j else 0)) = _
      rw [if_pos rfl]
      congr 4
      funext j
      by_cases hj : j < 128
      · rw [if_pos hj]
      · rw [if_neg hj, z2 j (by omega)]
    have e2 : cC (vC2 v (wA w) fM fH) dT (.inl (0, 128, .inr (-2147483648, 2147483647, wA w + 1))) = .inl (dT 0, 128, .inl fH) := by
      show Sum.inl (dT 0, 128, Sum.inl (fun j => if j < 128 then (if wA w + 1 = wA w then fM else if wA w + 1 = wA w + 1 then fH else _) j else 0)) = _
      rw [if_neg (by omega), if_pos rfl]
      congr 4
      funext j
      by_cases hj : j < 128
      · rw [if_pos hj]
      · rw [if_neg hj, z3 j (by omega)]
    rw [e1, e2]
    rfl
theorem hgR {s0 : State} (hN : ncX s0) : (clX 12 ∧ 37 < (nCl 12).2.1 ∧ 38 < (nCl 12).2.1 ∧ 39 < (nCl 12).2.1) ∧ (Cond.fieldLink (yA 239).cls 76 ((nCl 12).2.2.1 37).1 ((nCl 12).2.2.1 37).2.1 ((nCl 12).2.2.1 37).2.2.1 ∈ gT ∧ Cond.fieldLink (yA 239).cls 80 ((nCl 12).2.2.1 38).1 ((nCl 12).2.2.1 38).2.1 ((nCl 12).2.2.1 38).2.2.1 ∈ gT ∧ Cond.fieldLink (yA 239).cls 83 ((nCl 12).2.2.1 39).1 ((nCl 12).2.2.1 39).2.1 ((nCl 12).2.2.1 39).2.2.1 ∈ gT) ∧
    (Cond.methodLink (yA 239).cls 223 yX12_beside ∈ gT ∧ Cond.static yX12_beside ∈ gT ∧ mtX cx0 yA byA rtA hhA 190 2) := by
  have g37 : rowQ cx0 yA byA rtA hhA 239 25 (.getfield 76, 3, 12, 37, 0) := (rows_ok (a0 := #[]) hN (by rfl)).1
  have g38 : rowQ cx0 yA byA rtA hhA 239 16 (.getfield 80, 3, 12, 38, 0) := (rows_ok (a0 := #[]) hN (by rfl)).1
  have g39 : rowQ cx0 yA byA rtA hhA 239 72 (.getfield 83, 3, 12, 39, 0) := (rows_ok (a0 := #[]) hN (by rfl)).1
  have gc : rowQ cx0 yA byA rtA hhA 239 115 (.invokestatic 223, 3, 190, 1, 0) := (rows_ok (a0 := #[]) hN (by rfl)).1
  obtain ⟨c1, c2, c3⟩ := g37.2.2
  obtain ⟨-, c4, c5⟩ := g38.2.2
  obtain ⟨-, c6, c7⟩ := g39.2.2
  refine ⟨⟨c1, c2, c4, c6⟩, ⟨c3, c5, c7⟩, ?_⟩
  rcases gc.2.2 with ⟨q, -⟩ | ⟨q, -⟩ | ⟨q, -⟩ | ⟨-, -, q1, q2, q3⟩
  · cases q
  · cases q
  · cases q
  · exact ⟨q1, q2, q3⟩
theorem ctH_ok (X : LX k dT a0 b L xs) (h : HT) {as : List AV} {w : AW} {rs : List AR} {v : VL} (hc : ctH as w = some rs) (hw : okW bsB v w) : MB (kL k) (kS0 k) (kD k) (yA 239) (cdX (cxM h) yA byA rtA hhA 239) (mRm (xM (cxM h) 239)) (as.map (cv v)) (cW v dT bsB (wH w)) (Kd (cxM h) dT w v rs) := by
  unfold ctH at hc
  split at hc
  · rename_i m
    split at hc
    · rename_i fs hm
      split at hc
      · rename_i qS qM qH f37 f38 f39
        have f37 := rfA_ok f37
        have f38 := rfA_ok f38
        have f39 := rfA_ok f39
        split at hc
        · rename_i bS bM bH gS gM gH
          split at hc
          · rename_i hq
            split at hc
            · rename_i s hs
              split at hc
              · rename_i hg
                cases hc
                simp only [Bool.and_eq_true, Bool.not_eq_true'] at hq
                obtain ⟨⟨⟨⟨⟨⟨i1, i2⟩, i3⟩, i4⟩, i5⟩, i6⟩, i7⟩ := hq
                have i1 := Nat.blt_eq.mp i1
                have i2 := Nat.blt_eq.mp i2
                have i3 := Nat.blt_eq.mp i3
                have i4 := Nat.blt_eq.mp i4
                have j5 : qM ≠ qH := fun e => by rw [e] at i5; simp at i5
                have j6 : qS ≠ qM := fun e => by rw [e] at i6; simp at i6
                have j1 : m ≠ qM := fun e => by rw [e, gM] at hm; cases hm
                have j2 : m ≠ qH := fun e => by rw [e, gH] at hm; cases hm
                have j3 : qS ≠ qH := fun e => by rw [e, gH] at gS; cases gS
                have oS := hw.2.1 qS i2
                have oM := hw.2.1 qM i3
                rw [gS] at oS
                rw [gM] at oM
                obtain ⟨⟨c1, c2, c3, c4⟩, ⟨c5, c6, c7⟩, c8, c9, c10⟩ := hgR X.1.2.2.2.1
                have t2 := X.1.2.2.1 2
                have t0 := X.1.2.2.1 0
                have wS := cW_get (v := v) (dT := dT) (B := bsB) (h := wH w) i2
                have wM := cW_get (v := v) (dT := dT) (B := bsB) (h := wH w) i3
                have wHh := cW_get (v := v) (dT := dT) (B := bsB) (h := wH w) i4
                have wm := cW_get (v := v) (dT := dT) (B := bsB) (h := wH w) i1
                rw [gS] at wS
                rw [gM] at wM
                rw [gH] at wHh
                rw [hm] at wm
                have len : (cW v dT bsB (wH w)).length = (wH w).1 := by unfold cW; simp
                refine mb_of X.1.2.1 (by decide) (Nat.le_of_ble_eq_true rfl) (fun k' C e1 e2 e3 e4 e5 e6 e7 e8 e9 e10 e11 qe => ?_)
                refine hg_body (s := s) (rm := mRm (miB 190)) (qt := m) (qS := qS) (qM := qM) (qH := qH) (bt := vA v m) (aS := vA v qS) (aM := vA v qM) (aH := vA v qH) (cz := dT 2) (ci := dT 0) (fs := fs.map (cv v))
                  (fS := fun j => if j < 128 then cBz v bS j else 0) (fM0 := fun j => if j < 128 then cBz v bM j else 0) (fH0 := fun j => if j < 128 then cBz v bH j else 0)
                  (Wd := fun fM fH => ((cW v dT bsB (wH w)).set qM (vA v qM, .inl (dT 2, 128, .inl fM))).set qH (vA v qH, .inl (dT 0, 128, .inl fH)))
                  C e7 e8 e9 qe c1 c2 c3 c4 (by rw [e6]; exact c5) (by rw [e6]; exact c6) (by rw [e6]; exact c7) (by rw [e5]; exact t2) (by rw [e5]; exact t0) c9 ⟨by rw [e6]; exact c8, c10.1, c10.2.1, c10.2.2, by rw [e2]; exact (show mFr (miB 190) + 1 ≤ mFr (miB 239) by decide), by rw [e2]; exact (show 8 + (5 + 11) + mLo (miB 190) ≤ mLo (miB 239) by decide)⟩ rfl rfl ?_ ?_ ?_ ?_ ?_ ?_ ?_ ?_ ?_ ?_ ?_ ?_ ?_ ?_ ?_ ?_ ?_
                · intro c t h1 h2 ws
                  rw [e1, e3, e4]
                  exact bs_mb X h1 h2 ⟨rfl, rfl⟩
                · intro fM fH
                  rw [List.getElem?_set_ne j2.symm, List.getElem?_set_ne j1.symm]
                  exact wm
                · rw [List.getElem?_map, f37]; rfl
                · rw [List.getElem?_map, f38]; rfl
                · rw [List.getElem?_map, f39]; rfl
                · intro fM fH
                  rw [List.getElem?_set_ne j3.symm, List.getElem?_set_ne j6.symm]
                  exact wS
                · intro fM fH
                  rw [List.getElem?_set_ne j5.symm, List.getElem?_set, if_pos rfl, if_pos (by rw [len]; exact i3)]
                · intro fM fH
                  rw [List.getElem?_set, if_pos rfl, if_pos (by rw [List.length_set, len]; exact i4)]
                · intro fM fH g
                  rw [List.set_comm _ _ j5.symm, List.set_set]
                · intro fM fH g
                  rw [List.set_set]
                · have e1 : (cW v dT bsB (wH w)).set qM (vA v qM, .inl (dT 2, 128, .inl (fun j => if j < 128 then cBz v bM j else 0))) = cW v dT bsB (wH w) := set_same wM
                  show ((cW v dT bsB (wH w)).set qM _).set qH _ = _
                  rw [e1]
                  exact set_same wHh
                · intro c hcc
                  show (if c < 128 then _ else _) = _
                  rw [if_pos hcc]
                  exact sbB_ok (B := bsB) hs oS c hcc
                · intro j
                  show (if j < 128 then _ else _) = _ ∨ (if j < 128 then _ else _) = _
                  by_cases hj : j < 128
                  · rw [if_pos hj]; exact zoB_ok i7 oM j hj
                  · rw [if_neg hj]; exact Or.inl rfl
                · intro j hj
                  exact if_neg (by omega)
                · intro j hj
                  exact if_neg (by omega)
                · intro fM fH z1 z2 z3
                  exact hgN_ok (x := cxM h) (bM := bM) (bH := bH) hw i3 i4 j5 z1 z2 z3
                · unfold hgC at hg
                  split at hg
                  · rename_i hn; exact Or.inl hn
                  · rename_i f hn; exact Or.inr ⟨f, hn, hg⟩
              · cases hc
            · cases hc
          · cases hc
        · cases hc
      · cases hc
    · cases hc
  · cases hc
end HC
