/-! Ends -/
def exN : Nat → String
  | 0 => "java/lang/IllegalArgumentException"
  | 1 => "java/util/NoSuchElementException"
  | _ => "java/lang/IndexOutOfBoundsException"
def Ko (v : VL) : Option AV ⊕ Nat → mb_O
  | .inl o => .inl (o.map (cv v))
  | .inr e => .inr (exN e)
/-- the ends Rs, seen from the world w0 that v0 stands for -/
def Kd (x : ACx) (dT : Nat → ClassId) (w0 : AW) (v0 : VL) (Rs : List AR) : mb_O → va_W → Prop := fun o ws =>
  ∃ r ∈ Rs, ∃ v, agr w0 v0 v ∧ wle w0 r.2 ∧ okW (xB x) v r.2 ∧ (∀ a, r.1 = .inl (some a) → scV r.2 a) ∧ o = Ko v r.1 ∧ ws = cW v dT (xB x) (wH r.2)
/-- what a method answers -/
def rtX (k : kx_T) (n : Nat) : Prop := (n = 0 → (kMe k).sig.returnType = none) ∧ (n = 1 → (kMe k).sig.returnType = some .int) ∧ (n = 2 → (kMe k).sig.returnType = some .boolean) ∧ (n = 3 → (kMe k).sig.returnType = some .long)
/-- how the activation is to end: at least so as the ends Rs say -/
def keX (k : kx_T) (x : ACx) (mn : Nat) (dT : Nat → ClassId) (w0 : AW) (v0 : VL) (Rs : List AR) : Prop := ∃ K : mb_O → va_W → Prop, kx_end k K (mCe (xM x mn)) (mSl (xM x mn)) ∧ ∀ o ws, Kd x dT w0 v0 Rs o ws → K o ws
section EN
variable {k : kx_T} {x : ACx} {mn c : Nat} {dT : Nat → ClassId} {w0 : AW} {v0 : VL} {s : AS} {v : VL} {Rs : List AR}
theorem Kd_of (I : Inv k x mn c dT w0 v0 s v) {o : Option AV ⊕ Nat} (h : (o, sW s) ∈ Rs) (hs : ∀ a, o = .inl (some a) → scV (sW s) a) : Kd x dT w0 v0 Rs (Ko v o) (cW v dT (xB x) (wH (sW s))) :=
  ⟨(o, sW s), h, v, I.2.1, I.1, I.2.2.1, hs, rfl, rfl⟩
theorem SO_end {r : AR} (h : SO k x mn c dT w0 v0 Rs (some ([], [r]))) : r ∈ Rs := by
  obtain ⟨ss, rs, e, -, h2⟩ := h
  cases e
  exact h2 r List.mem_cons_self
theorem ret_ok {m : AM} (so : SO k x mn c dT w0 v0 Rs (oRet s m)) (I : Inv k x mn c dT w0 v0 s v) : sC s ≤ mCe m ∧ sS s ≤ mSl m ∧
    ((mRt m = 0 ∧ sSt s = [] ∧ Kd x dT w0 v0 Rs (.inl none) (cW v dT (xB x) (wH (sW s)))) ∨ (mRt m = 1 ∧ ∃ a, sSt s = [a] ∧ aIsI a = true ∧ Kd x dT w0 v0 Rs (.inl (some (cv v a))) (cW v dT (xB x) (wH (sW s)))) ∨ (mRt m = 2 ∧ ∃ a, sSt s = [a] ∧ fitK (wE (sW s)) 1 a = true ∧ Kd x dT w0 v0 Rs (.inl (some (cv v a))) (cW v dT (xB x) (wH (sW s)))) ∨ (mRt m = 3 ∧ ∃ a, sSt s = [a] ∧ aIsL a = true ∧ Kd x dT w0 v0 Rs (.inl (some (cv v a))) (cW v dT (xB x) (wH (sW s))))) := by
  obtain ⟨h1, so1⟩ := so_if so
  clear so
  simp only [Bool.and_eq_true] at h1
  refine ⟨Nat.le_of_ble_eq_true h1.1, Nat.le_of_ble_eq_true h1.2, ?_⟩
  have nm : ∀ (a : AV), sSt s = [a] → (Sum.inl (some (aNm (wE (sW s)) a)), sW s) ∈ Rs → Kd x dT w0 v0 Rs (.inl (some (cv v a))) (cW v dT (xB x) (wH (sW s))) := by
    intro a e h
    have hst := I.2.2.2.2.1
    rw [e] at hst
    have := Kd_of I h (fun b hb => by cases hb; exact aNm_sc (sc_hd hst))
    replace this : Kd x dT w0 v0 Rs (.inl (some (cv v (aNm (wE (sW s)) a)))) (cW v dT (xB x) (wH (sW s))) := this
    rw [aNm_cv I.2.2.1.1] at this
    exact this
  split at so1
  · rename_i e1 e2
    exact Or.inl ⟨e1, e2, Kd_of I (SO_end so1) (fun a h => by cases h)⟩
  · rename_i a e1 e2
    obtain ⟨h2, so2⟩ := so_if so1
    exact Or.inr (Or.inl ⟨e1, a, e2, h2, nm a e2 (SO_end so2)⟩)
  · rename_i a e1 e2
    obtain ⟨h2, so2⟩ := so_if so1
    exact Or.inr (Or.inr (Or.inl ⟨e1, a, e2, h2, nm a e2 (SO_end so2)⟩))
  · rename_i a e1 e2
    obtain ⟨h2, so2⟩ := so_if so1
    have hst := I.2.2.2.2.1
    rw [e2] at hst
    exact Or.inr (Or.inr (Or.inr ⟨e1, a, e2, h2, Kd_of I (SO_end so2) (fun b hb => by cases hb; exact sc_hd hst)⟩))
  · exact SO_no so1
theorem g_vret (C : kx_ok k) (q : keX k x mn dT w0 v0 Rs) (hr : rtX k (mRt (xM x mn))) (d : decode (kCc k) (sPc s) = .ok (.return_, 1)) (so : SO k x mn c dT w0 v0 Rs (fRet 0 x (fun _ _ _ _ => none) mn c s)) : GS k x mn c dT w0 v0 s := fun v I => by
  obtain ⟨h0, so1⟩ := so_if (b := Nat.beq (mRt (xM x mn)) 0) so
  have h0 := Nat.eq_of_beq_eq_true h0
  obtain ⟨h1, h2, h⟩ := ret_ok so1 I
  rcases h with ⟨-, e, h⟩ | ⟨e, -⟩ | ⟨e, -⟩ | ⟨e, -⟩
  · rw [e]
    obtain ⟨K, q, hK⟩ := q
    exact w_vret C q (hr.1 h0) d h1 h2 (hK _ _ h)
  all_goals (rw [h0] at e; cases e)
theorem g_lret (C : kx_ok k) (q : keX k x mn dT w0 v0 Rs) (hr : rtX k (mRt (xM x mn))) (d : decode (kCc k) (sPc s) = .ok (.lreturn, 1)) (so : SO k x mn c dT w0 v0 Rs (fRet 3 x (fun _ _ _ _ => none) mn c s)) : GS k x mn c dT w0 v0 s := fun v I => by
  obtain ⟨h0, so1⟩ := so_if (b := Nat.beq (mRt (xM x mn)) 3) so
  have h0 := Nat.eq_of_beq_eq_true h0
  obtain ⟨h1, h2, h⟩ := ret_ok so1 I
  rcases h with ⟨e, -⟩ | ⟨e, -⟩ | ⟨e, -⟩ | ⟨-, a, e, ha, h⟩
  · rw [h0] at e; cases e
  · rw [h0] at e; cases e
  · rw [h0] at e; cases e
  · rw [e]
    rw [cv_long ha] at h
    show WS k (sPc s) _ [cv v a] _ _ _
    rw [cv_long ha]
    obtain ⟨K, q, hK⟩ := q
    exact w_lret C q (hr.2.2.2 h0) d h1 h2 (hK _ _ h)
theorem g_iret (C : kx_ok k) (q : keX k x mn dT w0 v0 Rs) (hr : rtX k (mRt (xM x mn))) (d : decode (kCc k) (sPc s) = .ok (.ireturn, 1)) (so : SO k x mn c dT w0 v0 Rs (fRet 1 x (fun _ _ _ _ => none) mn c s)) : GS k x mn c dT w0 v0 s := fun v I => by
  obtain ⟨h0, so1⟩ := so_if (b := Nat.beq (mRt (xM x mn)) 1 || Nat.beq (mRt (xM x mn)) 2) so
  simp only [Bool.or_eq_true] at h0
  obtain ⟨h1, h2, h⟩ := ret_ok so1 I
  rcases h with ⟨e, -⟩ | ⟨e0, a, e, ha, h⟩ | ⟨e0, a, e, ha, h⟩ | ⟨e, -⟩
  · rw [e] at h0
    rcases h0 with h0 | h0 <;> cases h0
  · rw [e]
    rw [cv_int ha] at h
    show WS k (sPc s) _ [cv v a] _ _ _
    rw [cv_int ha]
    obtain ⟨K, q, hK⟩ := q
    exact w_iret C q (hr.2.1 e0) rfl d h1 h2 (hK _ _ h)
  · have hf := (fit_ok (ty := .boolean) I.2.2.1.1 ha).1
    have hi : aIsI a = true := by
      replace ha : (aIsI a && bl01 (wE (sW s)) a) = true := ha
      simp only [Bool.and_eq_true] at ha
      exact ha.1
    rw [e]
    rw [cv_int hi] at h hf
    show WS k (sPc s) _ [cv v a] _ _ _
    rw [cv_int hi]
    obtain ⟨K, q, hK⟩ := q
    exact w_iret C q (hr.2.2.1 e0) hf d h1 h2 (hK _ _ h)
  · rw [e] at h0
    rcases h0 with h0 | h0 <;> cases h0
end EN
