theorem oq_f6d1716d {a0 : Int} (h0 : a0 < 2) : a0 ≤ 2147483647 := by omega
theorem oq_e4757433 {a0 a1 : Int} (h0 : a0 = a1) (h1 : 0 ≤ a1) : 0 ≤ a0 := by omega
theorem oq_12cf304a {a0 : Int} (h0 : a0 ≤ 8) : a0 ≤ 9 := by omega
theorem oq_85681322 {a0 a1 a2 a3 a4 : Int} (h0 : a0 = a1) (h1 : a1 = a2) (h2 : a2 = a3) (h3 : a3 = a4) (h4 : a4 ≤ 8) : a0 ≤ 8 := by omega
/-! The class: rules adopted: two pairs of rows change places -/
def sw (c : Nat) : Nat := if c = 20 then 22 else if c = 22 then 20 else if c = 21 then 23 else if c = 23 then 21 else c
def swB (a : Nat) : Nat := if a = 16 then 18 else if a = 18 then 16 else if a = 17 then 19 else if a = 19 then 17 else a
def pSw (s : PS) : PS := (s.1, s.2.1, fun a => s.2.2.1 (swB a), s.2.2.2)
theorem sw_sw (c : Nat) : sw (sw c) = c := by
  by_cases h1 : c = 20
  · subst h1; rfl
  · by_cases h2 : c = 22
    · subst h2; rfl
    · by_cases h3 : c = 21
      · subst h3; rfl
      · by_cases h4 : c = 23
        · subst h4; rfl
        · have e : sw c = c := by
            unfold sw
            rw [if_neg h1, if_neg h2, if_neg h3, if_neg h4]
          rw [e, e]
theorem sw_big {c : Nat} (h : 23 < c) : sw c = c := by
  unfold sw
  rw [if_neg (by omega), if_neg (by omega), if_neg (by omega), if_neg (by omega)]
theorem sw_lt {c : Nat} (h : c < 518) : sw c < 518 := by
  unfold sw
  by_cases h1 : c = 20
  · rw [if_pos h1]; decide
  · rw [if_neg h1]
    by_cases h2 : c = 22
    · rw [if_pos h2]; decide
    · rw [if_neg h2]
      by_cases h3 : c = 21
      · rw [if_pos h3]; decide
      · rw [if_neg h3]
        by_cases h4 : c = 23
        · rw [if_pos h4]; decide
        · rw [if_neg h4]; exact h
theorem sw_19 {c : Nat} (h : c ≠ 19) : sw c ≠ 19 := by
  intro q
  have := sw_sw c
  rw [q] at this
  exact h this.symm
def rnV : AV → AV
  | .inr (.inr (.inr (.inr (.inl (some q))))) => aR (some (sw q))
  | a => a
def rnC : AC → AC
  | .inl (t, n, .inl l) => .inl (t, n, .inl (l.map rnV))
  | .inl (t, n, .inr (lo, hi, a)) => .inl (t, n, .inr (lo, hi, if t = 1 then a else swB a))
  | .inr (ci, fs) => .inr (ci, fs.map rnV)
theorem rn_ok : (List.range 518).all (fun j => Nat.beq j 19 || qAC (rnC (bsS j)) (bsS (sw j))) = true := by decide +kernel
theorem rn_at {j : Nat} (h : j < 518) (hn : j ≠ 19) : rnC (bsS j) = bsS (sw j) := by
  have := List.all_eq_true.mp rn_ok j (List.mem_range.mpr h)
  rw [Bool.or_eq_true] at this
  rcases this with q | q
  · exact absurd (Nat.eq_of_beq_eq_true q) hn
  · exact qAC_ok q
section PM
variable {A : Nat → Nat} {dT : Nat → ClassId} {s : PS}
theorem cv_rn (a : AV) : cv (vS (fun c => A (sw c)) (pSw s)) a = cv (vS A s) (rnV a) := by
  rcases a with z | k' | n' | k' | r | k'
  · rfl
  · rfl
  · rfl
  · rfl
  · cases r <;> rfl
  · rfl
theorem cZ_rn (a : AV) : cZ (vS (fun c => A (sw c)) (pSw s)) a = cZ (vS A s) (rnV a) := by
  rcases a with z | k' | n' | k' | r | k'
  · rfl
  · rfl
  · rfl
  · rfl
  · cases r <;> rfl
  · rfl
theorem cQ_rn (a : AV) : cQ (vS (fun c => A (sw c)) (pSw s)) a = cQ (vS A s) (rnV a) := by
  rcases a with z | k' | n' | k' | r | k'
  · rfl
  · rfl
  · rfl
  · rfl
  · cases r <;> rfl
  · rfl
theorem cR_rn (a : AV) : cR (vS (fun c => A (sw c)) (pSw s)) a = cR (vS A s) (rnV a) := by
  rcases a with z | k' | n' | k' | r | k'
  · rfl
  · rfl
  · rfl
  · rfl
  · cases r <;> rfl
  · rfl
theorem getD_rn (l : List AV) (j : Nat) (d : AV) (hd : rnV d = d) : (l.map rnV).getD j d = rnV (l.getD j d) := by
  rw [List.getD_eq_getElem?_getD, List.getD_eq_getElem?_getD, List.getElem?_map]
  cases l[j]? with
  | none => exact hd.symm
  | some x => rfl
theorem cC_rn (c : AC) : cC (vS (fun c => A (sw c)) (pSw s)) dT c = cC (vS A s) dT (rnC c) := by
  rcases c with ⟨t, n, b⟩ | ⟨ci, fs⟩
  · rcases b with l | ⟨lo, hi, a⟩
    · show Sum.inl (dT t, n, cB _ t n _) = Sum.inl (dT t, n, cB _ t n _)
      congr 3
      refine cB_ext (fun _ j _ => ?_) (fun _ j _ => ?_) (fun _ j _ => ?_)
      · show cZ _ (l.getD j (aI 0)) = cZ _ ((l.map rnV).getD j (aI 0))
        rw [getD_rn l j (aI 0) rfl, cZ_rn]
      · show cQ _ (l.getD j (aJ 0)) = cQ _ ((l.map rnV).getD j (aJ 0))
        rw [getD_rn l j (aJ 0) rfl, cQ_rn]
      · show cR _ (l.getD j (aR none)) = cR _ ((l.map rnV).getD j (aR none))
        rw [getD_rn l j (aR none) rfl, cR_rn]
    · show Sum.inl (dT t, n, cB _ t n _) = Sum.inl (dT t, n, cB _ t n _)
      congr 3
      refine cB_ext (fun ht j _ => ?_) (fun ht j _ => ?_) (fun _ j _ => rfl)
      · show s.2.2.1 (swB a) j = s.2.2.1 (if t = 1 then a else swB a) j
        rw [if_neg (by omega)]
      · show s.2.2.2.1 a j = s.2.2.2.1 (if t = 1 then a else swB a) j
        rw [if_pos ht]
  · show Sum.inr (ci, fs.map _) = Sum.inr (ci, (fs.map rnV).map _)
    rw [List.map_map]
    congr 2
    exact List.map_congr_left (fun a _ => cv_rn a)
theorem Wd_sw (j : Nat) : (Wd (fun c => A (sw c)) dT (pSw s))[j]? = ((Wd A dT s).set 19 (A 19, cC (vS A s) dT (rnC (bsS 19))))[sw j]? := by
  by_cases hj : j < 518
  · rw [Wd_get hj, cC_rn]
    by_cases h9 : j = 19
    · subst h9
      show some (A 19, _) = (List.set _ 19 _)[19]?
      rw [List.getElem?_set_self (by rw [Wd_len]; omega)]
    · rw [List.getElem?_set_ne (fun q => sw_19 h9 q.symm), Wd_get (sw_lt hj), rn_at hj h9]
  · rw [sw_big (by omega), List.getElem?_set_ne (by omega), Wd_ext (by omega), Wd_ext (by omega)]
    all_goals rfl
theorem WS_perm {k : kx_T} {pc ce sl : Nat} {lv : List (Nat × Value)} {st : List Value} {W1 W2 : va_W} (h : ∀ j, W2[j]? = W1[sw j]?) (g : WS k pc lv st W2 ce sl) : WS k pc lv st W1 ce sl := fun H locs ls hP hD hS hl => by
  refine g H locs ls (fun j q hq => hP (sw j) q (by rw [← h]; exact hq)) ⟨fun i j p q hp hq e => ?_, fun j q hq => hD.2 (sw j) q (by rw [← h]; exact hq)⟩ hS hl
  have := hD.1 (sw i) (sw j) p q (by rw [← h]; exact hp) (by rw [← h]; exact hq) e
  have e2 := congrArg sw this
  rwa [sw_sw, sw_sw] at e2
theorem bA_sw (a : Nat) : bA (swB a) = bA a := by
  unfold swB
  by_cases h1 : a = 16
  · subst h1; rfl
  · by_cases h2 : a = 18
    · subst h2; rfl
    · by_cases h3 : a = 17
      · subst h3; rfl
      · by_cases h4 : a = 19
        · subst h4; rfl
        · rw [if_neg h1, if_neg h2, if_neg h3, if_neg h4]
theorem bd_sw (I : Bd s) : Bd (pSw s) := by
  refine ⟨fun q => I.1 q, fun a j hj => ?_⟩
  have := I.2 (swB a) j (by rw [bA_sw]; exact hj)
  rw [bA_sw] at this
  exact this
theorem fm_sw : Fm [] [16, 17, 18, 19] s (pSw s) := by
  refine ⟨fun _ _ => rfl, fun a ha => ?_, rfl, fun _ _ => rfl, fun _ _ => rfl⟩
  show s.2.2.1 (swB a) = s.2.2.1 a
  have h1 : a ≠ 16 := fun q => ha (by rw [q]; decide)
  have h2 : a ≠ 17 := fun q => ha (by rw [q]; decide)
  have h3 : a ≠ 18 := fun q => ha (by rw [q]; decide)
  have h4 : a ≠ 19 := fun q => ha (by rw [q]; decide)
  have : swB a = a := by
    unfold swB
    rw [if_neg h1, if_neg h3, if_neg h2, if_neg h4]
  rw [this]
end PM
/-- addresses but those of the four rows are the same -/
def swA (A B : Nat → Nat) : Prop := ∀ c, (c < 20 ∨ 23 < c) → B c = A c
theorem swA_rf (A : Nat → Nat) : swA A A := fun _ _ => rfl
theorem swA_sw (A : Nat → Nat) : swA A (fun c => A (sw c)) := fun c h => by
  show A (sw c) = A c
  unfold sw
  rw [if_neg (by omega), if_neg (by omega), if_neg (by omega), if_neg (by omega)]
theorem swA_ts {A B C : Nat → Nat} (h : swA A B) (g : swA B C) : swA A C := fun c hc => (g c hc).trans (h c hc)
/-- a contract of a method that may let rows change places -/
def CTX (l : Launch) (s0 : State) (D : va_G) (A : Nat → Nat) (dT : Nat → ClassId) (mn : Nat) (rm : Room) (vals : List Value) (s : PS) (Q : mb_O → PS → Prop) : Prop :=
  MB l s0 D (yA mn) (.code (yA mn) (byA mn) (mNL (miB mn)) (rtA mn)) rm vals (Wd A dT s) (fun o ws => ∃ (B : Nat → Nat) (s' : PS), swA A B ∧ ws = Wd B dT s' ∧ Q o s')
section CT3
variable {l : Launch} {s0 : State} {D : va_G} {tys : List (ClassId × FieldType)} {a0 : Array Value} {A : Nat → Nat} {dT : Nat → ClassId} {s : PS}
theorem ctX_ofX (G : GX l s0 D tys a0 dT) {mn : Nat} {rm : Room} {vals : List Value} {Q : mb_O → PS → Prop} (hy : plainName (yA mn).cls = true) (hn : (lg_sl vals).length ≤ mNL (miB mn))
    (body : ∀ k, AX k mn dT → (kL k = l ∧ kS0 k = s0 ∧ kD k = D ∧ kR k = rm) → kTy k = tys → (kMe k).sig.returnType = rtA mn → (∀ x ∈ (kC k).exceptionTable.toList, False) → kx_end k (fun o ws => ∃ (B : Nat → Nat) (s' : PS), swA A B ∧ ws = Wd B dT s' ∧ Q o s') rm.cells rm.slots → WS k 0 (lv_args 0 vals) [] (Wd A dT s) 0 0) : CTX l s0 D A dT mn rm vals s Q :=
  mb_of G.1 hy hn (fun k C e1 e2 e3 e4 e5 e6 e7 e8 e9 e10 e11 qe => body k ⟨C, ⟨e7, e6, e8⟩, fun t => by rw [e5]; exact G.2.1 t, by rw [e3]; exact G.2.2⟩ ⟨e1, e3, e4, e2⟩ e5 e9 e11 qe)
variable {k : kx_T} {mn pc : Nat} {lv : List (Nat × Value)} {st : List Value} {ws : va_W} {ce sl b : Nat} {z : Int} {Q : mb_O → PS → Prop} {rm : Room}
theorem z_callVX (X : AX k mn dT) (c : Nat) {idx cn : Nat} {fs : List AV} {As : List Value} (h : cdA mn pc = some (.invokevirtual idx, 3, cn, b, z)) (hn : mAr (miB cn) = As.length + 1) (hc : c < 518) (hb : bsS c = .inr (mCl (miB cn), fs)) (hM : CTX (kL k) (kS0 k) (kD k) A dT cn rm (.ref (A c) :: As) s Q) (hr : rmK k cn rm ce sl) (hw : (st.map fun v => v.category).sum ≤ 8)
    (h1 : ∀ v B s', swA A B → Q (.inl v) s' → WS k (pc + 3) lv (v.toList ++ st) (Wd B dT s') (ce + rm.cells) (sl + rm.slots)) (h2 : ∀ E B s', swA A B → Q (.inr E) s' → WX k pc lv st (Wd B dT s') E (ce + rm.cells) (sl + rm.slots)) : WS k pc lv (As.reverse ++ .ref (A c) :: st) (Wd A dT s) ce sl := by
  obtain ⟨v0, v1, v2, v3, n, N, T, v4, v5, v6⟩ := (ax_r X h).2.2
  have en : n = As.length := by
    have v5 : mAr (miB cn) = n + 1 := v5
    omega
  subst en
  have he := Wd_get (A := A) (dT := dT) (s := s) hc
  rw [hb] at he
  obtain ⟨r1, r2, r3⟩ := hr
  exact w_callV (K := fun o ws => ∃ (B : Nat → Nat) (s' : PS), swA A B ∧ ws = Wd B dT s' ∧ Q o s') (rm := rm) X.1 ⟨by rw [X.2.1.2.1]; exact v1, cd_code v0 v4.1, v4.2.1, v4.2.2, r1, r2⟩ v2 v3 hM he v6 rfl hw r3 (ax_d X h) (fun v ws' hk => hk.elim (fun B hk => hk.elim (fun s' hq => by rw [hq.2.1]; exact h1 v B s' hq.1 hq.2.2))) (fun E ws' hk => hk.elim (fun B hk => hk.elim (fun s' hq => by rw [hq.2.1]; exact h2 E B s' hq.1 hq.2.2)))
theorem w_getR (X : AX k mn dT) {a idx f : Nat} {fs : List Value} {v : Value} (h : cdA mn pc = some (.getfield idx, 3, 7, f, 0)) (he : ws[19]? = some (a, .inr (7, fs))) (hv : fs[f]? = some v) (g : WS k (pc + 3) lv (v :: st) ws ce sl) : WS k pc lv (.ref a :: st) ws ce sl := by
  obtain ⟨c1, c2, c3⟩ := (ax_r X h).2.2
  exact w_get X.1 19 c1 he c2 (by rw [X.2.1.2.1]; exact c3) hv (ax_d X h) g
theorem w_putR (X : AX k mn dT) {a idx f v : Nat} {fs : List Value} (h : cdA mn pc = some (.putfield idx, 3, 7, f, 0)) (he : ws[19]? = some (a, .inr (7, fs))) (hN : f < (nCl 7).2.1) (hl : f < fs.length) (hn : narrow ((nCl 7).2.2.2 f) (.ref v) = .ref v) (ht : fits ((nCl 7).2.2.2 f) (.ref v) = true) (hfin : ((nCl 7).2.2.1 f).2.2.2 = false) (g : WS k (pc + 3) lv st (ws.set 19 (a, .inr (7, fs.set f (.ref v)))) ce sl) : WS k pc lv (.ref v :: .ref a :: st) ws ce sl := by
  obtain ⟨c1, c2, -⟩ := (ax_r X h).2.2
  exact w_put X.1 19 c1 he hN (by rw [X.2.1.2.1]; exact c2) hn ht hl (Or.inl hfin) (ax_d X h) g
end CT3
section M86
variable {l : Launch} {s0 : State} {D : va_G} {tys : List (ClassId × FieldType)} {a0 : Array Value} {A : Nat → Nat} {dT : Nat → ClassId} {s : PS}
end M86
