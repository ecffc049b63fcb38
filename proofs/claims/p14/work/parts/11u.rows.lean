/-! Steps: arrays of arrays, arraycopy -/
/-- addresses of new cells in a row -/
def vAs (v : VL) (n q : Nat) : VL := (vI v, vJ v, fun i => if i < n then vA v i else q + (i - n), v.2.2.2)
/-- new contents, all 0 -/
def vCn (v : VL) (n : Nat) : VL := (vI v, vJ v, vA v, vO v, fun j => if j < n then vC v j else fun _ => 0, fun j => if j < n then vD v j else fun _ => 0)
/-- more symbols for contents -/
abbrev wAn (w : AW) (n : Nat) : AW := (w.1, w.2.1, wL w, wA w + n, wX w)
section SU
variable {k : kx_T} {x : ACx} {mn c : Nat} {dT : Nat → ClassId} {w0 : AW} {v0 : VL} {s : AS} {v : VL} {Rs : List AR} {B : Nat → AC} {w : AW}
theorem hAdds_n (h : AH) (cs : List AC) : (hAdds h cs).1 = h.1 + cs.length := by
  induction cs generalizing h with
  | nil => rfl
  | cons a r ih =>
    show (hAdds (hAdd h a) r).1 = _
    rw [ih]
    show h.1 + 1 + r.length = h.1 + (r.length + 1)
    omega
theorem hAdds_old (B : Nat → AC) (h : AH) (cs : List AC) {j : Nat} (hj : j < h.1) : hGet B (hAdds h cs) j = hGet B h j := by
  induction cs generalizing h with
  | nil => rfl
  | cons a r ih =>
    show hGet B (hAdds (hAdd h a) r) j = _
    rw [ih (hAdd h a) (show j < h.1 + 1 by omega), hGet_add, if_neg (by omega)]
theorem hAdds_new (B : Nat → AC) (h : AH) (cs : List AC) {j : Nat} {e : AC} (he : cs[j]? = some e) : hGet B (hAdds h cs) (h.1 + j) = e := by
  induction cs generalizing h j with
  | nil => cases he
  | cons a r ih =>
    show hGet B (hAdds (hAdd h a) r) (h.1 + j) = _
    cases j with
    | zero =>
      cases he
      rw [hAdds_old B (hAdd h _) r (show h.1 + 0 < h.1 + 1 by omega), hGet_add, if_pos (by omega)]
    | succ j =>
      have := ih (hAdd h a) (j := j) he
      rw [show h.1 + (j + 1) = (hAdd h a).1 + j by show h.1 + (j + 1) = h.1 + 1 + j; omega]
      exact this
theorem agr_vAs (q : Nat) : agr w v (vAs v (wH w).1 q) :=
  ⟨fun _ _ => rfl, fun i hi => by show vA v i = if i < _ then vA v i else _; rw [if_pos hi], fun _ _ => rfl, fun _ _ => ⟨rfl, rfl⟩, fun _ _ => rfl⟩
theorem wle_adds {cs : List AC} : wle w (wHp w (hAdds (wH w) cs)) := ⟨Nat.le_refl _, by show (wH w).1 ≤ (hAdds (wH w) cs).1; rw [hAdds_n]; omega, Nat.le_refl _, Nat.le_refl _, Nat.le_refl _⟩
theorem vz_at (q : Nat) (es : List va_E) (j : Nat) : (vz_row q es)[j]? = (es[j]?).map (fun e => (q + j, e)) := by
  unfold vz_row
  rw [List.getElem?_map, List.getElem?_zipIdx]
  cases es[j]? with
  | none => rfl
  | some e => simp
theorem cW_adds {h : AH} {cs : List AC} {q : Nat} {u : VL} (hu : ∀ i, i < h.1 → vA u i = vA v i ∧ cC u dT (hGet B h i) = cC v dT (hGet B h i)) (hq : ∀ j, vA u (h.1 + j) = q + j) : cW u dT B (hAdds h cs) = cW v dT B h ++ vz_row q (cs.map (cC u dT)) := by
  have hlen : (cW v dT B h).length = h.1 := by unfold cW; simp
  apply List.ext_getElem?
  intro i
  by_cases hi : i < h.1
  · rw [cW_get (by rw [hAdds_n]; omega), List.getElem?_append_left (by omega), cW_get hi, hAdds_old B h cs hi, (hu i hi).1, (hu i hi).2]
  · obtain ⟨j, rfl⟩ := Nat.exists_eq_add_of_le (Nat.not_lt.mp hi)
    rw [List.getElem?_append_right (by omega), hlen, Nat.add_sub_cancel_left, vz_at, List.getElem?_map]
    cases hc : cs[j]? with
    | none =>
      have : cs.length ≤ j := List.getElem?_eq_none_iff.mp hc
      rw [List.getElem?_eq_none (by unfold cW; rw [List.length_map, List.length_range, hAdds_n]; omega)]
      rfl
    | some e =>
      have : j < cs.length := (List.getElem?_eq_some_iff.mp hc).1
      rw [cW_get (by rw [hAdds_n]; omega), hAdds_new B h cs hc, hq]
      rfl
theorem okW_adds {cs : List AC} {u : VL} (h : okW B v w) (ha : agr w v u) (hE : okE u (wE w)) (hs : ∀ e ∈ cs, scC (wHp w (hAdds (wH w) cs)) e) (ho : ∀ e ∈ cs, okC u e) : okW B u (wHp w (hAdds (wH w) cs)) := by
  have key : ∀ i, i < (hAdds (wH w) cs).1 → (i < (wH w).1 ∧ hGet B (hAdds (wH w) cs) i = hGet B (wH w) i) ∨ hGet B (hAdds (wH w) cs) i ∈ cs := by
    intro i hi
    by_cases hl : i < (wH w).1
    · exact Or.inl ⟨hl, hAdds_old B _ _ hl⟩
    · obtain ⟨j, rfl⟩ := Nat.exists_eq_add_of_le (Nat.not_lt.mp hl)
      rw [hAdds_n] at hi
      have hj : j < cs.length := by omega
      have := hAdds_new B (wH w) cs (List.getElem?_eq_getElem hj)
      rw [this]
      exact Or.inr (List.getElem_mem hj)
  refine ⟨hE, fun i hi => ?_, fun i hi => ?_, h.2.2.2⟩
  · show okC u (hGet B (hAdds (wH w) cs) i)
    rcases key i hi with ⟨hl, e⟩ | hm
    · rw [e]
      exact okC_agr ha (h.2.2.1 i hl) (h.2.1 i hl)
    · exact ho _ hm
  · show scC _ (hGet B (hAdds (wH w) cs) i)
    rcases key i hi with ⟨hl, e⟩ | hm
    · rw [e]
      exact scC_mono wle_adds (h.2.2.1 i hl)
    · exact hs _ hm
/-- cells added, in a world that has grown -/
theorem gs_adds {pc ce sl : Nat} {r : List AV} {w1 : AW} {v1 : VL} {cs : List AC} {q : Nat} (g : GS k x mn c dT w0 v0 (pc, sLv s, aR (some (wH w1).1) :: r, wHp w1 (hAdds (wH w1) cs), sLp s, ce, sl)) (I : Inv k x mn c dT w0 v0 s v) (hl : wle (sW s) w1) (hH : wH w1 = wH (sW s)) (ha : agr (sW s) v v1) (hw : okW (xB x) v1 w1) (hn : 0 < cs.length) (hs : ∀ e ∈ cs, scC (wHp w1 (hAdds (wH w1) cs)) e) (ho : ∀ e ∈ cs, okC (vAs v1 (wH w1).1 q) e) (hst : scL (sW s) r) :
    WS k pc (cL v (sLv s)) (.ref q :: r.map (cv v)) (cW v dT (xB x) (wH (sW s)) ++ vz_row q (cs.map (cC (vAs v1 (wH w1).1 q) dT))) ce sl := by
  have a1 : agr w1 v1 (vAs v1 (wH w1).1 q) := agr_vAs q
  have a2 : agr (sW s) v (vAs v1 (wH w1).1 q) := agr_tr ha (agr_mono a1 hl)
  have hl2 : wle (sW s) (wHp w1 (hAdds (wH w1) cs)) := wle_tr hl wle_adds
  have hq : ∀ j, vA (vAs v1 (wH w1).1 q) ((wH w1).1 + j) = q + j := fun j => by
    show (if (wH w1).1 + j < (wH w1).1 then _ else q + ((wH w1).1 + j - (wH w1).1)) = _
    rw [if_neg (by omega), Nat.add_sub_cancel_left]
  have hsc : scL (wHp w1 (hAdds (wH w1) cs)) (aR (some (wH w1).1) :: r) := sc_cons (show (wH w1).1 < (hAdds (wH w1) cs).1 by rw [hAdds_n]; omega) (scL_mono hl2 hst)
  have h := g (vAs v1 (wH w1).1 q) (Inv_go I hl2 a2 (okW_adds hw a1 hw.1 hs ho) (scO_mono hl2 I.2.2.2.1) hsc I.2.2.2.2.2.1 (fun p hp => hp))
  replace h : WS k pc (cL (vAs v1 (wH w1).1 q) (sLv s)) (.ref (vA (vAs v1 (wH w1).1 q) ((wH w1).1 + 0)) :: r.map (cv (vAs v1 (wH w1).1 q))) (cW (vAs v1 (wH w1).1 q) dT (xB x) (hAdds (wH w1) cs)) ce sl := h
  rw [cW_adds (v := v1) (q := q) (fun i hi => ⟨(a1.2.1 i hi).symm, (cC_agr a1 (hw.2.2.1 i hi)).symm⟩) hq, hq, ← cL_agr a2 I.2.2.2.1, ← cS_agr a2 hst, hH, ← cW_agr ha I.2.2.1.2.2.1] at h
  rw [hH]
  exact h
theorem wle_An (n : Nat) : wle w (wAn w n) := ⟨Nat.le_refl _, Nat.le_refl _, Nat.le_refl _, Nat.le_add_right _ _, Nat.le_refl _⟩
theorem agr_vCn : agr w v (vCn v (wA w)) :=
  ⟨fun _ _ => rfl, fun _ _ => rfl, fun _ _ => rfl, fun j hj => by
    constructor
    · show vC v j = if j < _ then vC v j else _
      rw [if_pos hj]
    · show vD v j = if j < _ then vD v j else _
      rw [if_pos hj], fun _ _ => rfl⟩
theorem okW_An (h : okW B v w) (n : Nat) : okW B (vCn v (wA w)) (wAn w n) := okW_ext h agr_vCn (wle_An n) rfl h.1 h.2.2.2
theorem vCn_new (v : VL) (A j : Nat) (q n : Nat) : vC (vAs (vCn v A) n q) (A + j) = fun _ => 0 := if_neg (by omega)
/-- a row of 0s -/
theorem row0_ok (A i M t : Nat) (q n : Nat) : okC (vAs (vCn v A) n q) (.inl (t, M, .inr (0, 0, A + i))) := by
  intro _ j _
  show (0 : Int) ≤ (vC (vAs (vCn v A) n q) (A + i) j).toInt ∧ (vC (vAs (vCn v A) n q) (A + i) j).toInt ≤ 0
  rw [vCn_new]
  show (0 : Int) ≤ (0 : Int32).toInt ∧ (0 : Int32).toInt ≤ 0
  decide
theorem row0_cC (A i M : Nat) (q n : Nat) : cC (vAs (vCn v A) n q) dT (.inl (0, M, .inr (0, 0, A + i))) = .inl (dT 0, M, .inl (fun _ => 0)) := by
  show Sum.inl (dT 0, M, Sum.inl (fun j => if j < M then vC (vAs (vCn v A) n q) (A + i) j else 0)) = _
  rw [vCn_new]
  refine congrArg (fun f => Sum.inl (dT 0, M, Sum.inl f)) (funext fun j => ?_)
  split <;> rfl
/-- a row of references to new cells -/
theorem rowR_cC (t N q n : Nat) (f : Nat → Nat) (u : VL) (ht : 3 ≤ t) : cC (vAs u n q) dT (.inl (t, N, .inl ((List.range N).map (fun i => aR (some (n + f i)))))) = .inl (dT t, N, .inr (.inr (.inr (.inr (fun i => if i < N then some (q + f i) else none))))) := by
  have e : cB (vAs u n q) t N (.inl ((List.range N).map (fun i => aR (some (n + f i))))) = .inr (.inr (.inr (.inr (fun j => if j < N then cBr (vAs u n q) (.inl ((List.range N).map (fun i => aR (some (n + f i))))) j else none)))) := by
    match t, ht with
    | t + 3, _ => rfl
  show Sum.inl (dT t, N, cB _ t N _) = _
  rw [e]
  refine congrArg (fun g => Sum.inl (dT t, N, Sum.inr (Sum.inr (Sum.inr (Sum.inr g))))) (funext fun j => ?_)
  by_cases hj : j < N
  · rw [if_pos hj, if_pos hj]
    show cR (vAs u n q) (((List.range N).map (fun i => aR (some (n + f i)))).getD j (aR none)) = _
    rw [List.getD_eq_getElem?_getD, List.getElem?_map, List.getElem?_range hj]
    show some (if n + f j < n then _ else q + (n + f j - n)) = _
    rw [if_neg (by omega), Nat.add_sub_cancel_left]
  · rw [if_neg hj, if_neg hj]
theorem mn2_ok {m : AM} (so : SO k x mn c dT w0 v0 Rs (oMn2 s m)) : ∃ a b r, sSt s = aI b :: aI a :: r ∧ 0 ≤ a ∧ a ≤ 1000 ∧ 0 ≤ b ∧ b ≤ 1000 ∧ sC s + (1 + a.toNat) ≤ mCe m ∧ sS s + (a.toNat + a.toNat * b.toNat) ≤ mSl m ∧
    GS k x mn c dT w0 v0 (sPc s + 4, sLv s, aR (some (wH (sW s)).1) :: r, wHp (wAn (sW s) a.toNat) (hAdds (wH (sW s)) (.inl (3, a.toNat, .inl ((List.range a.toNat).map (fun i => aR (some ((wH (sW s)).1 + 1 + i))))) :: (List.range a.toNat).map (fun i => .inl (0, b.toNat, .inr (0, 0, wA (sW s) + i))))), sLp s, sC s + 1 + a.toNat, sS s + a.toNat + a.toNat * b.toNat) := by
  unfold oMn2 at so
  split at so
  · rename_i b a r e
    obtain ⟨h, so1⟩ := so_if so
    simp only [Bool.and_eq_true, decide_eq_true_eq] at h
    obtain ⟨⟨⟨⟨⟨h1, h2⟩, h3⟩, h4⟩, h5⟩, h6⟩ := h
    exact ⟨a, b, r, e, h1, h2, h3, h4, Nat.le_of_ble_eq_true h5, Nat.le_of_ble_eq_true h6, SO_one so1⟩
  · exact SO_no so
theorem g_mn2 (C : kx_ok k) (R : rmX k x mn) (T : tyX k dT) {idx : Nat} (hcl : Cond.classLink (kOwn k) idx "[[I" ∈ gT) (hov : (Cond.arrayOver (.array .int)).before (kA k) (kS k) = true) (harr : Cond.arrayClass .int ∈ gT) (d : decode (kCc k) (sPc s) = .ok (.multianewarray idx 2, 4)) (so : SO k x mn c dT w0 v0 Rs (oMn2 s (xM x mn))) : GS k x mn c dT w0 v0 s := fun v I => by
  obtain ⟨a, b, r, e, a0, a1, b0, b1, c1, c2, g⟩ := mn2_ok so
  obtain ⟨n1, n2⟩ := nat_of a0 (by omega)
  obtain ⟨n3, n4⟩ := nat_of b0 (by omega)
  have hst := I.2.2.2.2.1
  rw [e] at hst ⊢
  refine w_mna2 C (N := a.toNat) (M := b.toNat) hcl hov harr (T 0) (T 3) n1 n3 n2 n4 (by omega) (by omega) (by rw [R.2.2.1]; exact c1) (by rw [R.2.2.2]; exact c2) d (fun q => ?_)
  have h := gs_adds (q := q) (w1 := wAn (sW s) a.toNat) (v1 := vCn v (wA (sW s))) g I (wle_An _) rfl agr_vCn (okW_An I.2.2.1 _) (Nat.succ_pos _) (fun z hz => ?_) (fun z hz => ?_) (sc_tl (sc_tl hst))
  · rw [List.map_cons, List.map_map] at h
    have e1 : cC (vAs (vCn v (wA (sW s))) (wH (sW s)).1 q) dT (.inl (3, a.toNat, .inl ((List.range a.toNat).map (fun i => aR (some ((wH (sW s)).1 + 1 + i)))))) = .inl (dT 3, a.toNat, .inr (.inr (.inr (.inr (fun i => if i < a.toNat then some (q + 1 + i) else none))))) := by
      have := rowR_cC (dT := dT) 3 a.toNat q (wH (sW s)).1 (fun i => 1 + i) (vCn v (wA (sW s))) (Nat.le_refl _)
      simp only [← Nat.add_assoc] at this
      exact this
    have e2 : (List.range a.toNat).map ((cC (vAs (vCn v (wA (sW s))) (wH (sW s)).1 q) dT) ∘ (fun i => .inl (0, b.toNat, .inr (0, 0, wA (sW s) + i)))) = List.replicate a.toNat (.inl (dT 0, b.toNat, .inl (fun _ => 0))) := by
      apply List.eq_replicate_iff.mpr
      refine ⟨by rw [List.length_map, List.length_range], fun z hz => ?_⟩
      obtain ⟨i, -, rfl⟩ := List.mem_map.mp hz
      exact row0_cC _ _ _ _ _
    have h := h
    rw [e1, e2] at h
    exact h
  · rcases List.mem_cons.mp hz with q1 | q1
    · subst q1
      intro y hy
      obtain ⟨i, hi, rfl⟩ := List.mem_map.mp hy
      have hi := List.mem_range.mp hi
      show (wH (sW s)).1 + 1 + i < (hAdds (wH (sW s)) _).1
      rw [hAdds_n, List.length_cons, List.length_map, List.length_range]
      omega
    · obtain ⟨i, hi, rfl⟩ := List.mem_map.mp q1
      have hi := List.mem_range.mp hi
      show wA (sW s) + i < wA (sW s) + a.toNat
      omega
  · rcases List.mem_cons.mp hz with q1 | q1
    · subst q1
      trivial
    · obtain ⟨i, -, rfl⟩ := List.mem_map.mp q1
      exact row0_ok _ _ _ _ _ _
theorem mn3_ok {m : AM} (so : SO k x mn c dT w0 v0 Rs (oMn3 s m)) : ∃ a b c3 r, sSt s = aI c3 :: aI b :: aI a :: r ∧ 0 ≤ a ∧ a ≤ 1000 ∧ 0 ≤ b ∧ b ≤ 1000 ∧ 0 ≤ c3 ∧ c3 ≤ 1000 ∧ sC s + (1 + a.toNat * (1 + b.toNat)) ≤ mCe m ∧ sS s + (a.toNat + a.toNat * (b.toNat + b.toNat * c3.toNat)) ≤ mSl m ∧
    GS k x mn c dT w0 v0 (sPc s + 4, sLv s, aR (some (wH (sW s)).1) :: r, wHp (wAn (sW s) (a.toNat * (1 + b.toNat))) (hAdds (wH (sW s)) (.inl (4, a.toNat, .inl ((List.range a.toNat).map (fun i => aR (some ((wH (sW s)).1 + 1 + i * (1 + b.toNat)))))) :: (List.range (a.toNat * (1 + b.toNat))).map (fun j => if j % (1 + b.toNat) = 0 then .inl (3, b.toNat, .inl ((List.range b.toNat).map (fun i => aR (some ((wH (sW s)).1 + 1 + j + 1 + i))))) else .inl (0, c3.toNat, .inr (0, 0, wA (sW s) + j))))), sLp s, sC s + 1 + a.toNat * (1 + b.toNat), sS s + a.toNat + a.toNat * (b.toNat + b.toNat * c3.toNat)) := by
  unfold oMn3 at so
  split at so
  · rename_i c3 b a r e
    obtain ⟨h, so1⟩ := so_if so
    simp only [Bool.and_eq_true, decide_eq_true_eq] at h
    obtain ⟨⟨⟨⟨⟨⟨⟨h1, h2⟩, h3⟩, h4⟩, h5⟩, h6⟩, h7⟩, h8⟩ := h
    exact ⟨a, b, c3, r, e, h1, h2, h3, h4, h5, h6, Nat.le_of_ble_eq_true h7, Nat.le_of_ble_eq_true h8, SO_one so1⟩
  · exact SO_no so
theorem g_mn3 (C : kx_ok k) (R : rmX k x mn) (T : tyX k dT) {idx : Nat} (hcl : Cond.classLink (kOwn k) idx "[[[I" ∈ gT) (hov : (Cond.arrayOver (.array (.array .int))).before (kA k) (kS k) = true) (hov2 : (Cond.arrayOver (.array .int)).before (kA k) (kS k) = true) (harr : Cond.arrayClass .int ∈ gT) (d : decode (kCc k) (sPc s) = .ok (.multianewarray idx 3, 4)) (so : SO k x mn c dT w0 v0 Rs (oMn3 s (xM x mn))) : GS k x mn c dT w0 v0 s := fun v I => by
  obtain ⟨a, b, c3, r, e, a0, a1, b0, b1, c0, c1, d1, d2, g⟩ := mn3_ok so
  obtain ⟨n1, n2⟩ := nat_of a0 (by omega)
  obtain ⟨n3, n4⟩ := nat_of b0 (by omega)
  obtain ⟨n5, n6⟩ := nat_of c0 (by omega)
  have hst := I.2.2.2.2.1
  rw [e] at hst ⊢
  refine w_mna3 C (N := a.toNat) (M := b.toNat) (L := c3.toNat) hcl hov hov2 harr (T 0) (T 3) (T 4) n1 n3 n5 n2 n4 n6 (by omega) (by omega) (by omega) (by rw [R.2.2.1]; exact d1) (by rw [R.2.2.2]; exact d2) d (fun q => ?_)
  have hm : ∀ i j p : Nat, i < p → i * (1 + j) + (1 + j) ≤ p * (1 + j) := fun i j p h => by
    have := Nat.mul_le_mul_right (1 + j) (show i + 1 ≤ p from h)
    rw [Nat.succ_mul] at this
    exact this
  have h := gs_adds (q := q) (w1 := wAn (sW s) (a.toNat * (1 + b.toNat))) (v1 := vCn v (wA (sW s))) g I (wle_An _) rfl agr_vCn (okW_An I.2.2.1 _) (Nat.succ_pos _) (fun z hz => ?_) (fun z hz => ?_) (sc_tl (sc_tl (sc_tl hst)))
  · rw [List.map_cons, List.map_map] at h
    have e1 : cC (vAs (vCn v (wA (sW s))) (wH (sW s)).1 q) dT (.inl (4, a.toNat, .inl ((List.range a.toNat).map (fun i => aR (some ((wH (sW s)).1 + 1 + i * (1 + b.toNat))))))) = .inl (dT 4, a.toNat, .inr (.inr (.inr (.inr (fun i => if i < a.toNat then some (q + 1 + i * (1 + b.toNat)) else none))))) := by
      have := rowR_cC (dT := dT) 4 a.toNat q (wH (sW s)).1 (fun i => 1 + i * (1 + b.toNat)) (vCn v (wA (sW s))) (by decide)
      simp only [← Nat.add_assoc] at this
      exact this
    have e2 : (List.range (a.toNat * (1 + b.toNat))).map ((cC (vAs (vCn v (wA (sW s))) (wH (sW s)).1 q) dT) ∘ (fun j => if j % (1 + b.toNat) = 0 then .inl (3, b.toNat, .inl ((List.range b.toNat).map (fun i => aR (some ((wH (sW s)).1 + 1 + j + 1 + i))))) else .inl (0, c3.toNat, .inr (0, 0, wA (sW s) + j)))) = (List.range (a.toNat * (1 + b.toNat))).map (fun j => if j % (1 + b.toNat) = 0 then .inl (dT 3, b.toNat, .inr (.inr (.inr (.inr (fun i => if i < b.toNat then some (q + 1 + j + 1 + i) else none))))) else .inl (dT 0, c3.toNat, .inl (fun _ => 0))) := by
      apply List.map_congr_left
      intro j _
      show cC _ dT (if j % (1 + b.toNat) = 0 then _ else _) = _
      by_cases hj : j % (1 + b.toNat) = 0
      · rw [if_pos hj, if_pos hj]
        have := rowR_cC (dT := dT) 3 b.toNat q (wH (sW s)).1 (fun i => 1 + j + 1 + i) (vCn v (wA (sW s))) (Nat.le_refl _)
        simp only [← Nat.add_assoc] at this
        exact this
      · rw [if_neg hj, if_neg hj]
        exact row0_cC _ _ _ _ _
    have h := h
    rw [e1, e2] at h
    exact h
  · rcases List.mem_cons.mp hz with q1 | q1
    · subst q1
      intro y hy
      obtain ⟨i, hi, rfl⟩ := List.mem_map.mp hy
      have hi := List.mem_range.mp hi
      show (wH (sW s)).1 + 1 + i * (1 + b.toNat) < (hAdds (wH (sW s)) _).1
      rw [hAdds_n, List.length_cons, List.length_map, List.length_range]
      have := hm i b.toNat a.toNat hi
      omega
    · obtain ⟨j, hj, rfl⟩ := List.mem_map.mp q1
      have hj := List.mem_range.mp hj
      by_cases h0 : j % (1 + b.toNat) = 0
      · rw [if_pos h0]
        intro y hy
        obtain ⟨i, hi, rfl⟩ := List.mem_map.mp hy
        have hi := List.mem_range.mp hi
        show (wH (sW s)).1 + 1 + j + 1 + i < (hAdds (wH (sW s)) _).1
        rw [hAdds_n, List.length_cons, List.length_map, List.length_range]
        have hdm := Nat.div_add_mod j (1 + b.toNat)
        rw [h0, Nat.add_zero, Nat.mul_comm] at hdm
        have hlt : j / (1 + b.toNat) < a.toNat := Nat.div_lt_of_lt_mul (by rw [Nat.mul_comm]; exact hj)
        have := hm (j / (1 + b.toNat)) b.toNat a.toNat hlt
        omega
      · rw [if_neg h0]
        show wA (sW s) + j < wA (sW s) + a.toNat * (1 + b.toNat)
        omega
  · rcases List.mem_cons.mp hz with q1 | q1
    · subst q1
      trivial
    · obtain ⟨j, -, rfl⟩ := List.mem_map.mp q1
      by_cases h0 : j % (1 + b.toNat) = 0
      · rw [if_pos h0]
        trivial
      · rw [if_neg h0]
        exact row0_ok _ _ _ _ _ _
end SU
