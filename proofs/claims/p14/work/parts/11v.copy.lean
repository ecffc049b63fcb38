/-! Steps: arraycopy; constructors called; statics with handlers; throws; the script -/
section SV
variable {k : kx_T} {x : ACx} {mn c : Nat} {dT : Nat → ClassId} {w0 : AW} {v0 : VL} {s : AS} {v : VL} {Rs : List AR} {B : Nat → AC} {w : AW}
theorem abL_ok {n : Nat} {b : AB} {l : List AV} (h : abL n b = some l) (hs : scC w (.inl (0, n, b))) (ho : okC v (.inl (0, n, b))) : l.length = n ∧ (∀ a ∈ l, scV w a) ∧ ∀ j, j < n → cBz v b j = cZ v (l.getD j (aI 0)) := by
  rcases b with q | e
  · replace h : (if Nat.beq q.length n = true then some q else none) = some l := h
    split at h
    · rename_i hl
      cases h
      exact ⟨Nat.eq_of_beq_eq_true hl, hs, fun j _ => rfl⟩
    · cases h
  · obtain ⟨lo, hi, y⟩ := e
    replace h : (if (decide (lo = hi) && inI lo && Nat.ble n 1024) = true then some (List.replicate n (aI lo)) else none) = some l := h
    split at h
    · rename_i hl
      simp only [Bool.and_eq_true, decide_eq_true_eq] at hl
      cases h
      refine ⟨List.length_replicate, fun a ha => by rw [(List.mem_replicate.mp ha).2]; trivial, fun j hj => ?_⟩
      rw [List.getD_eq_getElem?_getD, List.getElem?_replicate, if_pos hj]
      show vC v y j = Int32.ofInt lo
      have h2 := ho (by decide) j hj
      simp only at h2
      have h3 := z_rng hl.1.2
      have h4 := hl.1.1
      apply Int32.toInt_inj.1
      rw [z_in hl.1.2]
      omega
    · cases h
theorem list_set_same {α : Type} {l : List α} {i : Nat} {a : α} (h : l[i]? = some a) : l.set i a = l := by
  apply List.ext_getElem?
  intro j
  rw [List.getElem?_set]
  by_cases e : i = j
  · subst e
    rw [if_pos rfl, if_pos ((List.getElem?_eq_some_iff.mp h).1), h]
  · rw [if_neg e]
theorem cpy_get {l0 l1 : List AV} {sp dp n j : Nat} (h0 : sp + n ≤ l0.length) (h1 : dp + n ≤ l1.length) : (l1.take dp ++ ((l0.drop sp).take n ++ l1.drop (dp + n)))[j]? = if dp ≤ j ∧ j < dp + n then l0[sp + (j - dp)]? else l1[j]? := by
  have e1 : (l1.take dp).length = dp := by rw [List.length_take]; omega
  have e2 : ((l0.drop sp).take n).length = n := by rw [List.length_take, List.length_drop]; omega
  by_cases h : j < dp
  · rw [List.getElem?_append_left (by omega), if_neg (by omega), List.getElem?_take_of_lt h]
  · rw [List.getElem?_append_right (by omega), e1]
    by_cases g : j < dp + n
    · rw [List.getElem?_append_left (by omega), if_pos (by omega), List.getElem?_take_of_lt (by omega), List.getElem?_drop]
    · rw [List.getElem?_append_right (by omega), e2, if_neg (by omega), List.getElem?_drop]
      congr 1
      omega
theorem mem_cpy {l0 l1 : List AV} {sp dp n : Nat} {a : AV} (h : a ∈ l1.take dp ++ ((l0.drop sp).take n ++ l1.drop (dp + n))) : a ∈ l0 ∨ a ∈ l1 := by
  rcases List.mem_append.mp h with h | h
  · exact Or.inr (List.mem_of_mem_take h)
  · rcases List.mem_append.mp h with h | h
    · exact Or.inl (List.mem_of_mem_drop (List.mem_of_mem_take h))
    · exact Or.inr (List.mem_of_mem_drop h)
theorem cpy_ok {m : AM} (so : SO k x mn c dT w0 v0 Rs (oCpy x s m)) : ∃ n dp d sp a r n0 b0 n1 b1, sSt s = aI n :: aI dp :: aR (some d) :: aI sp :: aR (some a) :: r ∧ (0 ≤ n ∧ n ≤ 1000) ∧ (0 ≤ dp ∧ dp ≤ 1000) ∧ (0 ≤ sp ∧ sp ≤ 1000) ∧ d < (wH (sW s)).1 ∧ a < (wH (sW s)).1 ∧ 1 ≤ mFr m ∧ (r.map aCat).sum + 40 ≤ mLo m ∧ hGet (xB x) (wH (sW s)) a = .inl (0, n0, b0) ∧ hGet (xB x) (wH (sW s)) d = .inl (0, n1, b1) ∧ sp.toNat + n.toNat ≤ n0 ∧ dp.toNat + n.toNat ≤ n1 ∧
    ((n.toNat = 0 ∧ GS k x mn c dT w0 v0 (sGo s (sPc s + 3) r)) ∨ ∃ l0 l1, abL n0 b0 = some l0 ∧ abL n1 b1 = some l1 ∧ GS k x mn c dT w0 v0 (sGoW s (sPc s + 3) r (wHp (sW s) (hSet (wH (sW s)) d (.inl (0, n1, .inl (l1.take dp.toNat ++ ((l0.drop sp.toNat).take n.toNat ++ l1.drop (dp.toNat + n.toNat))))))))) := by
  unfold oCpy at so
  split at so
  · rename_i n dp d sp a r e
    obtain ⟨h, so1⟩ := so_if so
    clear so
    simp only [Bool.and_eq_true, decide_eq_true_eq] at h
    obtain ⟨⟨⟨⟨⟨⟨⟨⟨⟨h1, h2⟩, h3⟩, h4⟩, h5⟩, h6⟩, h7⟩, h8⟩, h9⟩, h10⟩ := h
    split at so1
    · rename_i n0 b0 n1 b1 ea ed
      obtain ⟨g, so2⟩ := so_if so1
      clear so1
      simp only [Bool.and_eq_true] at g
      refine ⟨n, dp, d, sp, a, r, n0, b0, n1, b1, e, ⟨h1, h4⟩, ⟨h2, h5⟩, ⟨h3, h6⟩, Nat.blt_eq.mp h7, Nat.blt_eq.mp h8, Nat.le_of_ble_eq_true h9, Nat.le_of_ble_eq_true h10, ea, ed, Nat.le_of_ble_eq_true g.1, Nat.le_of_ble_eq_true g.2, ?_⟩
      split at so2
      · rename_i hn
        exact Or.inl ⟨Nat.eq_of_beq_eq_true hn, SO_one so2⟩
      · split at so2
        · rename_i l0 l1 q0 q1
          exact Or.inr ⟨l0, l1, q0, q1, SO_one so2⟩
        · exact SO_no so2
    · exact SO_no so1
  · exact SO_no so
theorem g_copy (C : kx_ok k) (R : rmX k x mn) (T : tyX k dT) {idx : Nat} (hl : Cond.methodLink (kOwn k) idx arraycopyName ∈ gT) (hnat : Cond.native arraycopyName ∈ gT) (hst : Cond.static arraycopyName ∈ gT) (hini : Cond.initialized "java/lang/System" ∈ gT) (d : decode (kCc k) (sPc s) = .ok (.invokestatic idx, 3)) (so : SO k x mn c dT w0 v0 Rs (oCpy x s (xM x mn))) : GS k x mn c dT w0 v0 s := fun v I => by
  obtain ⟨n, dp, q1, sp, q0, r, n0, b0, n1, b1, e, hn, hd, hs, l1, l0, f1, f2, g0, g1, z0, z1, g⟩ := cpy_ok so
  obtain ⟨n1', n2⟩ := nat_of hn.1 (by omega)
  obtain ⟨n3, n4⟩ := nat_of hd.1 (by omega)
  obtain ⟨n5, n6⟩ := nat_of hs.1 (by omega)
  have hsc := I.2.2.2.2.1
  rw [e] at hsc ⊢
  have hr : scL (sW s) r := sc_tl (sc_tl (sc_tl (sc_tl (sc_tl hsc))))
  have w40 : nativeFrameWords "java/lang/System" "arraycopy" 5 + 11 ≤ 40 := by decide +kernel
  have c0 := cW_cell (v := v) (dT := dT) l0 g0
  have c1 := cW_cell (v := v) (dT := dT) l1 g1
  refine w_copyi C (q0 := q0) (q1 := q1) (c0 := dT 0) (n0 := n0) (n1 := n1) (f := fun j => if j < n0 then cBz v b0 j else 0) (g := fun j => if j < n1 then cBz v b1 j else 0) hl hnat hst hini c0 c1 (T 0) n5 n3 n1' (by rw [n6, n2]; exact z0) (by rw [n4, n2]; exact z1) (by rw [R.1]; exact f1) (by rw [R.2.1, sum_cat]; omega) d ?_
  rw [n6, n4, n2]
  rcases g with ⟨hz, g⟩ | ⟨y0, y1, a0, a1, g⟩
  · have e1 : va_cpy (fun j => if j < n0 then cBz v b0 j else 0) (fun j => if j < n1 then cBz v b1 j else 0) sp.toNat dp.toNat n.toNat = fun j => if j < n1 then cBz v b1 j else 0 := by
      funext j
      unfold va_cpy
      rw [if_neg (by omega)]
    rw [e1]
    have e2 := list_set_same c1
    replace e2 : (cW v dT (xB x) (wH (sW s))).set q1 (vA v q1, Sum.inl (dT 0, n1, Sum.inl (fun j => if j < n1 then cBz v b1 j else 0))) = cW v dT (xB x) (wH (sW s)) := e2
    rw [e2]
    exact gs_same g I hr
  · have s0 := I.2.2.1.2.2.1 q0 l0
    have s1 := I.2.2.1.2.2.1 q1 l1
    have o0 := I.2.2.1.2.1 q0 l0
    have o1 := I.2.2.1.2.1 q1 l1
    rw [g0] at s0 o0
    rw [g1] at s1 o1
    obtain ⟨u1, u2, u3⟩ := abL_ok a0 s0 o0
    obtain ⟨t1, t2, t3⟩ := abL_ok a1 s1 o1
    refine gs_set g I (wle_rf _) rfl (agr_rf _ _) I.2.2.1 l1 (fun a ha => ?_) trivial ?_ hr
    · rcases mem_cpy ha with q | q
      · exact u2 a q
      · exact t2 a q
    · show Sum.inl (dT 0, n1, Sum.inl (fun j => if j < n1 then cZ v ((y1.take dp.toNat ++ ((y0.drop sp.toNat).take n.toNat ++ y1.drop (dp.toNat + n.toNat))).getD j (aI 0)) else 0)) = _
      refine congrArg (fun f => Sum.inl (dT 0, n1, Sum.inl f)) (funext fun j => ?_)
      rw [List.getD_eq_getElem?_getD, cpy_get (by omega) (by omega)]
      unfold va_cpy
      by_cases hj : dp.toNat ≤ j ∧ j < dp.toNat + n.toNat
      · rw [if_pos hj, if_pos hj, if_pos (by omega)]
        show _ = if sp.toNat + (j - dp.toNat) < n0 then _ else _
        rw [if_pos (by omega), u3 _ (by omega), List.getD_eq_getElem?_getD]
      · rw [if_neg hj, if_neg hj]
        show _ = if j < n1 then _ else _
        by_cases hj1 : j < n1
        · rw [if_pos hj1, if_pos hj1, t3 _ hj1, List.getD_eq_getElem?_getD]
        · rw [if_neg hj1, if_neg hj1]
end SV
