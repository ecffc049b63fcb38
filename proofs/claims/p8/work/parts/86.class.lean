theorem oq_f6d1716d {a0 : Int} (h0 : a0 < 2) : a0 ≤ 2147483647 := by omega
theorem oq_e4757433 {a0 a1 : Int} (h0 : a0 = a1) (h1 : 0 ≤ a1) : 0 ≤ a0 := by omega
theorem oq_12cf304a {a0 : Int} (h0 : a0 ≤ 8) : a0 ≤ 9 := by omega
theorem oq_211b57f4 {a0 a1 : Int} (h0 : a0 = a1) (h1 : (-1) ≤ a1) (h2 : a1 ≠ (-1)) : 0 ≤ a0 := by omega
theorem oq_85681322 {a0 a1 a2 a3 a4 : Int} (h0 : a0 = a1) (h1 : a1 = a2) (h2 : a2 = a3) (h3 : a3 = a4) (h4 : a4 ≤ 8) : a0 ≤ 8 := by omega
theorem oq_8fdf5018 {a0 a1 a2 a3 : Int} (h0 : ((a0 = 0 ∧ ((0 ≤ a1 ∧ a1 ≤ 9) ∧ a2 = (a1 - 10))) ∨ (a0 ≠ 0 ∧ ((0 ≤ a3 ∧ a3 ≤ 9) ∧ a2 = a3)))) (h1 : 0 ≤ a3) : (-2147483648) ≤ a2 := by omega
theorem oq_70026c09 {a0 a1 a2 a3 : Int} (h0 : ((a0 = 0 ∧ ((0 ≤ a1 ∧ a1 ≤ 9) ∧ a2 = (a1 - 10))) ∨ (a0 ≠ 0 ∧ ((0 ≤ a3 ∧ a3 ≤ 9) ∧ a2 = a3)))) (h1 : a3 ≤ 9) : a2 ≤ 2147483647 := by omega
/-! The class: rules adopted: two pairs of rows change places -/
def sw (c : Nat) : Nat := if c = 20 then 22 else if c = 22 then 20 else if c = 21 then 23 else if c = 23 then 21 else c
def swB (a : Nat) : Nat := if a = 16 then 18 else if a = 18 then 16 else if a = 17 then 19 else if a = 19 then 17 else a
def pSw (s : PS) : PS := (s.1, s.2.1, fun a => s.2.2.1 (swB a), s.2.2.2)
theorem sw_sw (c : Nat) : sw (sw c) = c := by
  by_cases h1 : c = 20
  · subst h1; rfl
  · by_cases h2 : c = 22
    · subst h2; rfl
    · by_cases h3 : c = 21
      · subst h3; rfl
      · by_cases h4 : c = 23
        · subst h4; rfl
        · have e : sw c = c := by
            unfold sw
            rw [if_neg h1, if_neg h2, if_neg h3, if_neg h4]
          rw [e, e]
theorem sw_big {c : Nat} (h : 23 < c) : sw c = c := by
  unfold sw
  rw [if_neg (by omega), if_neg (by omega), if_neg (by omega), if_neg (by omega)]
theorem sw_lt {c : Nat} (h : c < 518) : sw c < 518 := by
  unfold sw
  by_cases h1 : c = 20
  · rw [if_pos h1]; decide
  · rw [if_neg h1]
    by_cases h2 : c = 22
    · rw [if_pos h2]; decide
    · rw [if_neg h2]
      by_cases h3 : c = 21
      · rw [if_pos h3]; decide
      · rw [if_neg h3]
        by_cases h4 : c = 23
        · rw [if_pos h4]; decide
        · rw [if_neg h4]; exact h
theorem sw_19 {c : Nat} (h : c ≠ 19) : sw c ≠ 19 := by
  intro q
  have := sw_sw c
  rw [q] at this
  exact h this.symm
def rnV : AV → AV
  | .inr (.inr (.inr (.inr (.inl (some q))))) => aR (some (sw q))
  | a => a
def rnC : AC → AC
  | .inl (t, n, .inl l) => .inl (t, n, .inl (l.map rnV))
  | .inl (t, n, .inr (lo, hi, a)) => .inl (t, n, .inr (lo, hi, if t = 1 then a else swB a))
  | .inr (ci, fs) => .inr (ci, fs.map rnV)
theorem rn_ok : (List.range 518).all (fun j => Nat.beq j 19 || qAC (rnC (bsS j)) (bsS (sw j))) = true := by decide +kernel
theorem rn_at {j : Nat} (h : j < 518) (hn : j ≠ 19) : rnC (bsS j) = bsS (sw j) := by
  have := List.all_eq_true.mp rn_ok j (List.mem_range.mpr h)
  rw [Bool.or_eq_true] at this
  rcases this with q | q
  · exact absurd (Nat.eq_of_beq_eq_true q) hn
  · exact qAC_ok q
section PM
variable {A : Nat → Nat} {dT : Nat → ClassId} {s : PS}
theorem cv_rn (a : AV) : cv (vS (fun c => A (sw c)) (pSw s)) a = cv (vS A s) (rnV a) := by
  rcases a with z | k' | n' | k' | r | k'
  · rfl
  · rfl
  · rfl
  · rfl
  · cases r <;> rfl
  · rfl
theorem cZ_rn (a : AV) : cZ (vS (fun c => A (sw c)) (pSw s)) a = cZ (vS A s) (rnV a) := by
  rcases a with z | k' | n' | k' | r | k'
  · rfl
  · rfl
  · rfl
  · rfl
  · cases r <;> rfl
  · rfl
theorem cQ_rn (a : AV) : cQ (vS (fun c => A (sw c)) (pSw s)) a = cQ (vS A s) (rnV a) := by
  rcases a with z | k' | n' | k' | r | k'
  · rfl
  · rfl
  · rfl
  · rfl
  · cases r <;> rfl
  · rfl
theorem cR_rn (a : AV) : cR (vS (fun c => A (sw c)) (pSw s)) a = cR (vS A s) (rnV a) := by
  rcases a with z | k' | n' | k' | r | k'
  · rfl
  · rfl
  · rfl
  · rfl
  · cases r <;> rfl
  · rfl
theorem getD_rn (l : List AV) (j : Nat) (d : AV) (hd : rnV d = d) : (l.map rnV).getD j d = rnV (l.getD j d) := by
  rw [List.getD_eq_getElem?_getD, List.getD_eq_getElem?_getD, List.getElem?_map]
  cases l[j]? with
  | none => exact hd.symm
  | some x => rfl
theorem cC_rn (c : AC) : cC (vS (fun c => A (sw c)) (pSw s)) dT c = cC (vS A s) dT (rnC c) := by
  rcases c with ⟨t, n, b⟩ | ⟨ci, fs⟩
  · rcases b with l | ⟨lo, hi, a⟩
    · show Sum.inl (dT t, n, cB _ t n _) = Sum.inl (dT t, n, cB _ t n _)
      congr 3
      refine cB_ext (fun _ j _ => ?_) (fun _ j _ => ?_) (fun _ j _ => ?_)
      · show cZ _ (l.getD j (aI 0)) = cZ _ ((l.map rnV).getD j (aI 0))
        rw [getD_rn l j (aI 0) rfl, cZ_rn]
      · show cQ _ (l.getD j (aJ 0)) = cQ _ ((l.map rnV).getD j (aJ 0))
        rw [getD_rn l j (aJ 0) rfl, cQ_rn]
      · show cR _ (l.getD j (aR none)) = cR _ ((l.map rnV).getD j (aR none))
        rw [getD_rn l j (aR none) rfl, cR_rn]
    · show Sum.inl (dT t, n, cB _ t n _) = Sum.inl (dT t, n, cB _ t n _)
      congr 3
      refine cB_ext (fun ht j _ => ?_) (fun ht j _ => ?_) (fun _ j _ => rfl)
      · show s.2.2.1 (swB a) j = s.2.2.1 (if t = 1 then a else swB a) j
        rw [if_neg (by omega)]
      · show s.2.2.2.1 a j = s.2.2.2.1 (if t = 1 then a else swB a) j
        rw [if_pos ht]
  · show Sum.inr (ci, fs.map _) = Sum.inr (ci, (fs.map rnV).map _)
    rw [List.map_map]
    congr 2
    exact List.map_congr_left (fun a _ => cv_rn a)
theorem Wd_sw (j : Nat) : (Wd (fun c => A (sw c)) dT (pSw s))[j]? = ((Wd A dT s).set 19 (A 19, cC (vS A s) dT (rnC (bsS 19))))[sw j]? := by
  by_cases hj : j < 518
  · rw [Wd_get hj, cC_rn]
    by_cases h9 : j = 19
    · subst h9
      show some (A 19, _) = (List.set _ 19 _)[19]?
      rw [List.getElem?_set_self (by rw [Wd_len]; omega)]
    · rw [List.getElem?_set_ne (fun q => sw_19 h9 q.symm), Wd_get (sw_lt hj), rn_at hj h9]
  · rw [sw_big (by omega), List.getElem?_set_ne (by omega), Wd_ext (by omega), Wd_ext (by omega)]
    all_goals rfl
theorem WS_perm {k : kx_T} {pc ce sl : Nat} {lv : List (Nat × Value)} {st : List Value} {W1 W2 : va_W} (h : ∀ j, W2[j]? = W1[sw j]?) (g : WS k pc lv st W2 ce sl) : WS k pc lv st W1 ce sl := fun H locs ls hP hD hS hl => by
  refine g H locs ls (fun j q hq => hP (sw j) q (by rw [← h]; exact hq)) ⟨fun i j p q hp hq e => ?_, fun j q hq => hD.2 (sw j) q (by rw [← h]; exact hq)⟩ hS hl
  have := hD.1 (sw i) (sw j) p q (by rw [← h]; exact hp) (by rw [← h]; exact hq) e
  have e2 := congrArg sw this
  rwa [sw_sw, sw_sw] at e2
theorem bA_sw (a : Nat) : bA (swB a) = bA a := by
  unfold swB
  by_cases h1 : a = 16
  · subst h1; rfl
  · by_cases h2 : a = 18
    · subst h2; rfl
    · by_cases h3 : a = 17
      · subst h3; rfl
      · by_cases h4 : a = 19
        · subst h4; rfl
        · rw [if_neg h1, if_neg h2, if_neg h3, if_neg h4]
theorem bd_sw (I : Bd s) : Bd (pSw s) := by
  refine ⟨fun q => I.1 q, fun a j hj => ?_⟩
  have := I.2 (swB a) j (by rw [bA_sw]; exact hj)
  rw [bA_sw] at this
  exact this
theorem fm_sw : Fm [] [16, 17, 18, 19] s (pSw s) := by
  refine ⟨fun _ _ => rfl, fun a ha => ?_, rfl, fun _ _ => rfl, fun _ _ => rfl⟩
  show s.2.2.1 (swB a) = s.2.2.1 a
  have h1 : a ≠ 16 := fun q => ha (by rw [q]; decide)
  have h2 : a ≠ 17 := fun q => ha (by rw [q]; decide)
  have h3 : a ≠ 18 := fun q => ha (by rw [q]; decide)
  have h4 : a ≠ 19 := fun q => ha (by rw [q]; decide)
  have : swB a = a := by
    unfold swB
    rw [if_neg h1, if_neg h3, if_neg h2, if_neg h4]
  rw [this]
end PM
/-- addresses but those of the four rows are the same -/
def swA (A B : Nat → Nat) : Prop := ∀ c, (c < 20 ∨ 23 < c) → B c = A c
theorem swA_rf (A : Nat → Nat) : swA A A := fun _ _ => rfl
theorem swA_sw (A : Nat → Nat) : swA A (fun c => A (sw c)) := fun c h => by
  show A (sw c) = A c
  unfold sw
  rw [if_neg (by omega), if_neg (by omega), if_neg (by omega), if_neg (by omega)]
theorem swA_ts {A B C : Nat → Nat} (h : swA A B) (g : swA B C) : swA A C := fun c hc => (g c hc).trans (h c hc)
/-- a contract of a method that may let rows change places -/
def CTX (l : Launch) (s0 : State) (D : va_G) (A : Nat → Nat) (dT : Nat → ClassId) (mn : Nat) (rm : Room) (vals : List Value) (s : PS) (Q : mb_O → PS → Prop) : Prop :=
  MB l s0 D (yA mn) (.code (yA mn) (byA mn) (mNL (miB mn)) (rtA mn)) rm vals (Wd A dT s) (fun o ws => ∃ (B : Nat → Nat) (s' : PS), swA A B ∧ ws = Wd B dT s' ∧ Q o s')
section CT3
variable {l : Launch} {s0 : State} {D : va_G} {tys : List (ClassId × FieldType)} {a0 : Array Value} {A : Nat → Nat} {dT : Nat → ClassId} {s : PS}
theorem ctX_ofX (G : GX l s0 D tys a0 dT) {mn : Nat} {rm : Room} {vals : List Value} {Q : mb_O → PS → Prop} (hy : plainName (yA mn).cls = true) (hn : (lg_sl vals).length ≤ mNL (miB mn))
    (body : ∀ k, AX k mn dT → (kL k = l ∧ kS0 k = s0 ∧ kD k = D ∧ kR k = rm) → kTy k = tys → (kMe k).sig.returnType = rtA mn → (∀ x ∈ (kC k).exceptionTable.toList, False) → kx_end k (fun o ws => ∃ (B : Nat → Nat) (s' : PS), swA A B ∧ ws = Wd B dT s' ∧ Q o s') rm.cells rm.slots → WS k 0 (lv_args 0 vals) [] (Wd A dT s) 0 0) : CTX l s0 D A dT mn rm vals s Q :=
  mb_of G.1 hy hn (fun k C e1 e2 e3 e4 e5 e6 e7 e8 e9 e10 e11 qe => body k ⟨C, ⟨e7, e6, e8⟩, fun t => by rw [e5]; exact G.2.1 t, by rw [e3]; exact G.2.2⟩ ⟨e1, e3, e4, e2⟩ e5 e9 e11 qe)
variable {k : kx_T} {mn pc : Nat} {lv : List (Nat × Value)} {st : List Value} {ws : va_W} {ce sl b : Nat} {z : Int} {Q : mb_O → PS → Prop} {rm : Room}
theorem z_callVX (X : AX k mn dT) (c : Nat) {idx cn : Nat} {fs : List AV} {As : List Value} (h : cdA mn pc = some (.invokevirtual idx, 3, cn, b, z)) (hn : mAr (miB cn) = As.length + 1) (hc : c < 518) (hb : bsS c = .inr (mCl (miB cn), fs)) (hM : CTX (kL k) (kS0 k) (kD k) A dT cn rm (.ref (A c) :: As) s Q) (hr : rmK k cn rm ce sl) (hw : (st.map fun v => v.category).sum ≤ 8)
    (h1 : ∀ v B s', swA A B → Q (.inl v) s' → WS k (pc + 3) lv (v.toList ++ st) (Wd B dT s') (ce + rm.cells) (sl + rm.slots)) (h2 : ∀ E B s', swA A B → Q (.inr E) s' → WX k pc lv st (Wd B dT s') E (ce + rm.cells) (sl + rm.slots)) : WS k pc lv (As.reverse ++ .ref (A c) :: st) (Wd A dT s) ce sl := by
  obtain ⟨v0, v1, v2, v3, n, N, T, v4, v5, v6⟩ := (ax_r X h).2.2
  have en : n = As.length := by
    have v5 : mAr (miB cn) = n + 1 := v5
    omega
  subst en
  have he := Wd_get (A := A) (dT := dT) (s := s) hc
  rw [hb] at he
  obtain ⟨r1, r2, r3⟩ := hr
  exact w_callV (K := fun o ws => ∃ (B : Nat → Nat) (s' : PS), swA A B ∧ ws = Wd B dT s' ∧ Q o s') (rm := rm) X.1 ⟨by rw [X.2.1.2.1]; exact v1, cd_code v0 v4.1, v4.2.1, v4.2.2, r1, r2⟩ v2 v3 hM he v6 rfl hw r3 (ax_d X h) (fun v ws' hk => hk.elim (fun B hk => hk.elim (fun s' hq => by rw [hq.2.1]; exact h1 v B s' hq.1 hq.2.2))) (fun E ws' hk => hk.elim (fun B hk => hk.elim (fun s' hq => by rw [hq.2.1]; exact h2 E B s' hq.1 hq.2.2)))
theorem w_getR (X : AX k mn dT) {a idx f : Nat} {fs : List Value} {v : Value} (h : cdA mn pc = some (.getfield idx, 3, 7, f, 0)) (he : ws[19]? = some (a, .inr (7, fs))) (hv : fs[f]? = some v) (g : WS k (pc + 3) lv (v :: st) ws ce sl) : WS k pc lv (.ref a :: st) ws ce sl := by
  obtain ⟨c1, c2, c3⟩ := (ax_r X h).2.2
  exact w_get X.1 19 c1 he c2 (by rw [X.2.1.2.1]; exact c3) hv (ax_d X h) g
theorem w_putR (X : AX k mn dT) {a idx f v : Nat} {fs : List Value} (h : cdA mn pc = some (.putfield idx, 3, 7, f, 0)) (he : ws[19]? = some (a, .inr (7, fs))) (hN : f < (nCl 7).2.1) (hl : f < fs.length) (hn : narrow ((nCl 7).2.2.2 f) (.ref v) = .ref v) (ht : fits ((nCl 7).2.2.2 f) (.ref v) = true) (hfin : ((nCl 7).2.2.1 f).2.2.2 = false) (g : WS k (pc + 3) lv st (ws.set 19 (a, .inr (7, fs.set f (.ref v)))) ce sl) : WS k pc lv (.ref v :: .ref a :: st) ws ce sl := by
  obtain ⟨c1, c2, -⟩ := (ax_r X h).2.2
  exact w_put X.1 19 c1 he hN (by rw [X.2.1.2.1]; exact c2) hn ht hl (Or.inl hfin) (ax_d X h) g
end CT3
section M86
variable {l : Launch} {s0 : State} {D : va_G} {tys : List (ClassId × FieldType)} {a0 : Array Value} {A : Nat → Nat} {dT : Nat → ClassId} {s : PS}
theorem c7_adopt36 (G : GX l s0 D tys a0 dT) (I : Bd s) {x : Int} (p0 : 0 ≤ x ∧ x ≤ 8) {k : kx_T} (X : AX k 69 dT) (E : kL k = l ∧ kS0 k = s0 ∧ kD k = D ∧ kR k = rmN 69) (hRt : (kMe k).sig.returnType = rtA 69) {KK : mb_O → va_W → Prop} {mc ms : Nat} (q : kx_end k KK mc ms) (hK : ∀ t : PS, Bd t → Fm [12, 13, 14, 15] [] s t → iI t 12 ≤ 8 → KK (.inl none) (Wd A dT t)) : WS k 36 [(0, .ref (A 19)), (1, .int (Int32.ofInt x))] [] (Wd A dT s) 0 0 := by
  skip
  skip
  have F : Fm [12, 13, 14, 15] [] s s := fm_rf _ _ s
  have b1 := bi_12 I
  have b2 := bi_13 I
  have L80 : ∀ (n : Nat) (t : PS) (c : Int), Bd t → Fm [12, 13, 14, 15] [] s t → (0 ≤ c ∧ c ≤ 200 ∧ iI t 12 ≤ 8 ∧ 0 ≤ iI t 13) → (200 - c : Int).toNat < n → (∀ (t' : PS) (c' : Int), Bd t' → Fm [12, 13, 14, 15] [] s t' → (0 ≤ c' ∧ c' ≤ 200 ∧ iI t' 12 ≤ 8 ∧ 0 ≤ iI t' 13) → WS k 138 [(0, .ref (A 19)), (4, .int (Int32.ofInt c'))] [] (Wd A dT t') 0 0) → WS k 80 [(0, .ref (A 19)), (4, .int (Int32.ofInt c))] [] (Wd A dT t) 0 0 := by
    intro n
    induction n with
    | zero =>
      intro t c I F hi hm kx
      exact absurd hm (Nat.not_lt_zero _)
    | succ n ih =>
      intro t c I F hi hm kx
      have b1001 := bi_12 I
      have b1002 := bi_13 I
      refine z_load X (x := c) rfl (List.Mem.tail _ (List.Mem.head _)) (z_aload_n X (x := A 19) rfl (List.Mem.head _) (s_getR X 19 rfl (c518_ok rfl) rfl rfl (z_aload_n X (x := A 19) rfl (List.Mem.head _) (z_getI X 19 rfl (c518_ok rfl) rfl rfl ?_))))
      have b1003 := bi_13 I
      refine z_ald X 21 rfl (c518_ok rfl) rfl (by first | exact hi.2.2.2 | omega) (show (iI t 13) < 8 by first | exact oq_aaea290e b1003.2 | omega) (cbig_ok rfl) ?_
      have b1004 := bc_17 I (show ((iI t 13)).toNat < 8 by first | exact oq_c19a3aae b1003.2 | omega)
      refine z_icmp_ge X (t := 138) rfl rfl ⟨by first | exact oq_fa4e5087 hi.1 | omega, by first | exact oq_52af2b96 hi.2.1 | omega⟩ (rng_to _) (fun g1005 => ?_) (fun g1005 => ?_)
      ·
        refine WS_pq [0, 1] (lv' := [(0, .ref (A 19)), (4, .int (Int32.ofInt c))]) rfl ?_
        exact kx _ c I F (by first | exact ⟨hi.1, hi.2.1, hi.2.2.1, hi.2.2.2⟩ | omega)
      ·
        refine z_aload_n X (x := A 19) rfl (List.Mem.head _) (w_dup X.1 (ax_d X (show cdA 69 95 = some (.dup, 1, 0, 0, 0) from rfl)) rfl (z_getI X 19 rfl (c518_ok rfl) rfl rfl ?_))
        have b1006 := bi_15 I
        refine z_aload_n X (x := A 19) rfl (List.Mem.head _) (s_getR X 19 rfl (c518_ok rfl) rfl rfl (z_load X (x := c) rfl (List.Mem.tail _ (List.Mem.head _)) (z_ald X 20 rfl (c518_ok rfl) rfl (by first | exact hi.1 | omega) (show c < 200 by first | exact oq_6fca3d72 g1005 b1004.2 | omega) (cbig_ok rfl) ?_)))
        have b1007 := bc_16 I (show (c).toNat < 200 by first | exact oq_b70289d5 g1005 b1004.2 | omega)
        refine z_bipush X rfl ?_
        have N1008 : ∀ e1009 : Int, ((((iC t 16 (c).toNat) = (-5)) ∧ e1009 = 1) ∨ (((iC t 16 (c).toNat) ≠ (-5)) ∧ (((-2147483648) : Int) ≤ iC t 16 (c).toNat ∧ iC t 16 (c).toNat ≤ 2147483647) ∧ ((iC t 16 (c).toNat) ≠ (-6)) ∧ e1009 = 0) ∨ (((iC t 16 (c).toNat) ≠ (-5)) ∧ (((-2147483648) : Int) ≤ iC t 16 (c).toNat ∧ iC t 16 (c).toNat ≤ 2147483647) ∧ ((iC t 16 (c).toNat) = (-6)) ∧ e1009 = 1)) → WS k 128 [(0, .ref (A 19)), (4, .int (Int32.ofInt c))] [.int (Int32.ofInt e1009), .int (Int32.ofInt (iI t 15)), .ref (A 19)] (Wd A dT t) 0 0 := by
          intro e1009 he1009
          have re1009 : 0 ≤ e1009 ∧ e1009 ≤ 1 := by first | (clear he1009; omega) | omega
          refine z_orb X rfl 1 (by decide) (show 0 ≤ (iI t 15) ∧ (iI t 15) < 2 ^ 1 by first | (clear he1009; omega) | omega) (show 0 ≤ e1009 ∧ e1009 < 2 ^ 1 by first | (clear he1009; omega) | omega) (fun y1010 hy1010 iy1010 => ?_)
          have ib1011 : y1010 < 2 := iy1010
          refine s_putI X 19 rfl (c518_ok rfl) rfl rfl (by decide) (nar_ret (by first | (clear he1009; omega) | omega)) (fit_z (by first | (clear he1009; omega) | omega)) rfl (wd_gen (fun s1012 hs1012 => ?_))
          have Is1012 : Bd s1012 := eqB hs1012 (bd_I I (show (0 : Int) ≤ y1010 ∧ y1010 ≤ 1 by first | exact ⟨hy1010, oq_b11e0c68 ib1011⟩ | omega) ⟨by first | exact oq_fa4e5087 hy1010 | omega, by first | exact oq_f6d1716d ib1011 | omega⟩)
          have Fs1012 := eqF hs1012 (fm_I F (inl_ok (a := 15) rfl))
          have vs1012 : iI s1012 15 = y1010 := eqI hs1012 (iI_u ⟨by first | exact oq_fa4e5087 hy1010 | omega, by first | exact oq_f6d1716d ib1011 | omega⟩)
          have ws1012_12 : iI s1012 12 = iI t 12 := eqI hs1012 rfl
          have ws1012_13 : iI s1012 13 = iI t 13 := eqI hs1012 rfl
          refine z_inc X (x := c) (lv' := [(4, .int (Int32.ofInt (c + 1))), (0, .ref (A 19))]) rfl (by decide) (List.Mem.tail _ (List.Mem.head _)) (fun _ h => h) (z_goto X (t := 80) rfl rfl (WS_pq [1, 0] (lv' := [(0, .ref (A 19)), (4, .int (Int32.ofInt (c + 1)))]) rfl ?_))
          exact ih _ (c + 1) Is1012 Fs1012 (by first | exact ⟨oq_54f49eb5 hi.1, oq_228270fa g1005 b1004.2, oq_86ef0b17 ws1012_12 hi.2.2.1, oq_e4757433 ws1012_13 hi.2.2.2⟩ | omega) (by first | exact qk_me hm (by decide) (oq_b0a4f3e2 g1005 b1004.2) | omega) kx
        refine z_icmp_eq X (t := 123) rfl rfl (rng_to _) (by decide) (fun g1013 => ?_) (fun g1013 => ?_)
        ·
          exact z_const X rfl (z_goto X (t := 128) rfl rfl (N1008 _ (Or.inl ⟨g1013, rfl⟩)))
        ·
          refine z_aload_n X (x := A 19) rfl (List.Mem.head _) (s_getR X 19 rfl (c518_ok rfl) rfl rfl (z_load X (x := c) rfl (List.Mem.tail _ (List.Mem.head _)) (z_ald X 20 rfl (c518_ok rfl) rfl (by first | exact hi.1 | omega) (show c < 200 by first | exact oq_6fca3d72 g1005 b1004.2 | omega) (cbig_ok rfl) ?_)))
          have b1014 := bc_16 I (show (c).toNat < 200 by first | exact oq_b70289d5 g1005 b1004.2 | omega)
          refine z_bipush X rfl (z_icmp_ne X (t := 127) rfl rfl (rng_to _) (by decide) (fun g1015 => ?_) (fun g1015 => ?_))
          ·
            exact z_const X rfl (N1008 _ (Or.inr (Or.inl ⟨g1013, b1014, g1015, rfl⟩)))
          ·
            exact z_const X rfl (z_goto X (t := 128) rfl rfl (N1008 _ (Or.inr (Or.inr (⟨g1013, b1014, g1015, rfl⟩)))))
  refine z_aload_n X (x := A 19) rfl (List.Mem.head _) (z_load_n X (x := x) rfl (List.Mem.tail _ (List.Mem.head _)) (s_putI X 19 rfl (c518_ok rfl) rfl rfl (by decide) rfl rfl rfl (wd_gen (fun s3 hs3 => ?_))))
  have Is3 : Bd s3 := eqB hs3 (bd_I I (show (0 : Int) ≤ x ∧ x ≤ 9 by first | exact ⟨p0.1, oq_12cf304a p0.2⟩ | omega) ⟨by first | exact oq_fa4e5087 p0.1 | omega, by first | exact oq_d3f5d874 p0.2 | omega⟩)
  have Fs3 := eqF hs3 (fm_I F (inl_ok (a := 12) rfl))
  have vs3 : iI s3 12 = x := eqI hs3 (iI_u ⟨by first | exact oq_fa4e5087 p0.1 | omega, by first | exact oq_d3f5d874 p0.2 | omega⟩)
  have ws3_13 : iI s3 13 = iI s 13 := eqI hs3 rfl
  refine z_aload_n X (x := A 19) rfl (List.Mem.head _) (z_aload_n X (x := A 19) rfl (List.Mem.head _) (z_getI X 19 rfl (c518_ok rfl) rfl rfl ?_))
  have b4 := bi_17 Is3
  refine s_putI X 19 rfl (c518_ok rfl) rfl rfl (by decide) rfl rfl rfl (wd_gen (fun s5 hs5 => ?_))
  have Is5 : Bd s5 := eqB hs5 (bd_I Is3 (show ((-1) : Int) ≤ (iI s3 17) ∧ (iI s3 17) ≤ 7 by first | exact ⟨b4.1, b4.2⟩ | omega) (rng_to _))
  have Fs5 := eqF hs5 (fm_I Fs3 (inl_ok (a := 13) rfl))
  have vs5 : iI s5 13 = (iI s3 17) := eqI hs5 (iI_u (rng_to _))
  have ws5_12 : iI s5 12 = iI s3 12 := eqI hs5 rfl
  refine z_aload_n X (x := A 19) rfl (List.Mem.head _) (z_aload_n X (x := A 19) rfl (List.Mem.head _) (z_getI X 19 rfl (c518_ok rfl) rfl rfl ?_))
  have b6 := bi_18 Is5
  refine s_putI X 19 rfl (c518_ok rfl) rfl rfl (by decide) rfl rfl rfl (wd_gen (fun s7 hs7 => ?_))
  have Is7 : Bd s7 := eqB hs7 (bd_I Is5 (show ((-2147483648) : Int) ≤ (iI s5 18) ∧ (iI s5 18) ≤ 2147483647 by first | exact ⟨b6.1, b6.2⟩ | omega) (rng_to _))
  have Fs7 := eqF hs7 (fm_I Fs5 (inl_ok (a := 14) rfl))
  have vs7 : iI s7 14 = (iI s5 18) := eqI hs7 (iI_u (rng_to _))
  have ws7_12 : iI s7 12 = iI s5 12 := eqI hs7 rfl
  have ws7_13 : iI s7 13 = iI s5 13 := eqI hs7 rfl
  refine z_aload_n X (x := A 19) rfl (List.Mem.head _) (z_const X rfl (s_putI X 19 rfl (c518_ok rfl) rfl rfl (by decide) (nar_ret (by omega)) (fit_z (by omega)) rfl (wd_gen (fun s8 hs8 => ?_))))
  have Is8 : Bd s8 := eqB hs8 (bd_I Is7 (show (0 : Int) ≤ 0 ∧ 0 ≤ 1 by first | exact ⟨by decide, by decide⟩ | omega) (by decide))
  have Fs8 := eqF hs8 (fm_I Fs7 (inl_ok (a := 15) rfl))
  have vs8 : iI s8 15 = 0 := eqI hs8 (iI_u (by decide))
  have ws8_12 : iI s8 12 = iI s7 12 := eqI hs8 rfl
  have ws8_13 : iI s8 13 = iI s7 13 := eqI hs8 rfl
  refine z_aload_n X (x := A 19) rfl (List.Mem.head _) (z_getI X 19 rfl (c518_ok rfl) rfl rfl ?_)
  have b9 := bi_13 Is8
  refine z_const X rfl (z_icmp_eq X (t := 138) rfl rfl (rng_to _) (by decide) (fun g10 => ?_) (fun g10 => ?_))
  ·
    exact w_vret X.1 q hRt (ax_d X (show cdA 69 138 = some (.return_, 1, 0, 0, 0) from rfl)) (Nat.zero_le _) (Nat.zero_le _) (hK _ Is8 Fs8 (by omega))
  ·
    refine z_aload_n X (x := A 19) rfl (List.Mem.head _) (z_aload_n X (x := A 19) rfl (List.Mem.head _) (z_getI X 19 rfl (c518_ok rfl) rfl rfl ?_))
    have b11 := bi_13 Is8
    refine zcV_i0 X E 19 (As := [.int (Int32.ofInt (iI s8 13))]) (st := []) rfl rfl rfl rfl (c7_beginOf_19 G Is8 (by first | exact ⟨oq_5234833b b11.1 g10, b11.2⟩ | omega)) rfl (Nat.le_of_ble_eq_true rfl) (fun s12 e13 Is12 Fs12 hrs12 hps12 => ?_)
    have Gs12 := fm_tq Fs8 Fs12 rfl rfl
    have ws12_12 : iI s12 12 = iI s8 12 := fm_iq Fs12 rfl
    have ws12_13 : iI s12 13 = iI s8 13 := fm_iq Fs12 rfl
    refine z_store X (lv' := [(4, .int (Int32.ofInt e13)), (0, .ref (A 19)), (1, .int (Int32.ofInt x))]) rfl (by decide) (fun _ h => h) (WS_pq [1, 0] (lv' := [(0, .ref (A 19)), (4, .int (Int32.ofInt e13))]) rfl (L80 ((200 - e13 : Int).toNat + 1) s12 e13 Is12 Gs12 (by first | exact ⟨hps12.1, hps12.2, oq_4e421259 ws12_12 ws8_12 ws7_12 ws5_12 vs3 p0.2, oq_211b57f4 ws12_13 b11.1 g10⟩ | omega) (Nat.lt_succ_self _) ?_))
    intro s14 x15 Is14 Fs14 hs14
    have b16 := bi_12 Is14
    have b17 := bi_13 Is14
    exact w_vret X.1 q hRt (ax_d X (show cdA 69 138 = some (.return_, 1, 0, 0, 0) from rfl)) (Nat.zero_le _) (Nat.zero_le _) (hK _ Is14 Fs14 (by first | (clear g10; omega) | omega))
theorem c7_adopt (G : GX l s0 D tys a0 dT) (I : Bd s) {x : Int} (p0 : 0 ≤ x ∧ x ≤ 8) : CTX l s0 D A dT 69 (rmN 69) [.ref (A 19), .int (Int32.ofInt x)] s (fun o t => Bd t ∧ Fm [12, 13, 14, 15] [16, 17, 18, 19] s t ∧ o = .inl none ∧ (iI t 12 ≤ 8)) := by
  refine ctX_ofX G (by decide) (Nat.le_of_ble_eq_true rfl) (fun k X E ET hRt hXt q => ?_)
  show WS k 0 [(0, .ref (A 19)), (1, .int (Int32.ofInt x))] [] _ 0 0
  have hb : bsS 19 = .inr (7, [aR (some 1), aR (some 20), aR (some 21), aS 12, aS 13, aS 14, aS 15, aR (some 22), aR (some 23), aS 16, aS 17, aS 18, aS 19, aR (some 24)]) := rfl
  have he := Wd_get (A := A) (dT := dT) (s := s) (show 19 < 518 by decide)
  rw [hb] at he
  have hlen : 19 < (Wd A dT s).length := by rw [Wd_len]; omega
  refine w_aload_n X.1 (x := A 19) (ax_d X (show cdA 69 0 = some (.aload_n 0, 1, 0, 0, 0) from rfl)) (List.Mem.head _) (w_getR X rfl he (v := .ref (A 20)) rfl (w_astore_n X.1 (lv' := [(2, .ref (A 20)), (0, .ref (A 19)), (1, .int (Int32.ofInt x))]) (ax_d X (show cdA 69 4 = some (.astore_n 2, 1, 0, 0, 0) from rfl)) (by rw [X.2.1.2.2]; decide) (fun _ h => h) (w_aload_n X.1 (x := A 19) (ax_d X (show cdA 69 5 = some (.aload_n 0, 1, 0, 0, 0) from rfl)) (List.Mem.tail _ (List.Mem.head _)) (w_getR X rfl he (v := .ref (A 21)) rfl (w_astore_n X.1 (lv' := [(3, .ref (A 21)), (2, .ref (A 20)), (0, .ref (A 19)), (1, .int (Int32.ofInt x))]) (ax_d X (show cdA 69 9 = some (.astore_n 3, 1, 0, 0, 0) from rfl)) (by rw [X.2.1.2.2]; decide) (fun _ h => h) (w_aload_n X.1 (x := A 19) (ax_d X (show cdA 69 10 = some (.aload_n 0, 1, 0, 0, 0) from rfl)) (List.Mem.tail _ (List.Mem.tail _ (List.Mem.head _))) (w_aload_n X.1 (x := A 19) (ax_d X (show cdA 69 11 = some (.aload_n 0, 1, 0, 0, 0) from rfl)) (List.Mem.tail _ (List.Mem.tail _ (List.Mem.head _))) (w_getR X rfl he (v := .ref (A 22)) rfl (w_putR X rfl he (by decide) (by show _ < 14; decide) rfl rfl rfl ?_)))))))))
  have he1 := List.getElem?_set_self (a := ((A 19, .inr (7, (List.map (cv (vS A s)) [aR (some 1), aR (some 20), aR (some 21), aS 12, aS 13, aS 14, aS 15, aR (some 22), aR (some 23), aS 16, aS 17, aS 18, aS 19, aR (some 24)]).set 1 (.ref (A 22)))) : Nat × va_E)) hlen
  refine w_aload_n X.1 (x := A 19) (ax_d X (show cdA 69 18 = some (.aload_n 0, 1, 0, 0, 0) from rfl)) (List.Mem.tail _ (List.Mem.tail _ (List.Mem.head _))) (w_aload_n X.1 (x := A 19) (ax_d X (show cdA 69 19 = some (.aload_n 0, 1, 0, 0, 0) from rfl)) (List.Mem.tail _ (List.Mem.tail _ (List.Mem.head _))) (w_getR X rfl he1 (v := .ref (A 23)) rfl (w_putR X rfl he1 (by decide) (by show _ < 14; decide) rfl rfl rfl ?_)))
  rw [List.set_set]
  have he2 := List.getElem?_set_self (a := ((A 19, .inr (7, ((List.map (cv (vS A s)) [aR (some 1), aR (some 20), aR (some 21), aS 12, aS 13, aS 14, aS 15, aR (some 22), aR (some 23), aS 16, aS 17, aS 18, aS 19, aR (some 24)]).set 1 (.ref (A 22))).set 2 (.ref (A 23)))) : Nat × va_E)) hlen
  refine w_aload_n X.1 (x := A 19) (ax_d X (show cdA 69 26 = some (.aload_n 0, 1, 0, 0, 0) from rfl)) (List.Mem.tail _ (List.Mem.tail _ (List.Mem.head _))) (w_aload_n X.1 (x := A 20) (ax_d X (show cdA 69 27 = some (.aload_n 2, 1, 0, 0, 0) from rfl)) (List.Mem.tail _ (List.Mem.head _)) (w_putR X rfl he2 (by decide) (by show _ < 14; decide) rfl rfl rfl ?_))
  rw [List.set_set]
  have he3 := List.getElem?_set_self (a := ((A 19, .inr (7, (((List.map (cv (vS A s)) [aR (some 1), aR (some 20), aR (some 21), aS 12, aS 13, aS 14, aS 15, aR (some 22), aR (some 23), aS 16, aS 17, aS 18, aS 19, aR (some 24)]).set 1 (.ref (A 22))).set 2 (.ref (A 23))).set 7 (.ref (A 20)))) : Nat × va_E)) hlen
  refine w_aload_n X.1 (x := A 19) (ax_d X (show cdA 69 31 = some (.aload_n 0, 1, 0, 0, 0) from rfl)) (List.Mem.tail _ (List.Mem.tail _ (List.Mem.head _))) (w_aload_n X.1 (x := A 21) (ax_d X (show cdA 69 32 = some (.aload_n 3, 1, 0, 0, 0) from rfl)) (List.Mem.head _) (w_putR X rfl he3 (by decide) (by show _ < 14; decide) rfl rfl rfl ?_))
  rw [List.set_set]
  have hsw : ∀ j, (Wd (fun c => A (sw c)) dT (pSw s))[j]? = ((Wd A dT s).set 19 (A 19, .inr (7, ((((List.map (cv (vS A s)) [aR (some 1), aR (some 20), aR (some 21), aS 12, aS 13, aS 14, aS 15, aR (some 22), aR (some 23), aS 16, aS 17, aS 18, aS 19, aR (some 24)]).set 1 (.ref (A 22))).set 2 (.ref (A 23))).set 7 (.ref (A 20))).set 8 (.ref (A 21)))))[sw j]? := fun j => by
    rw [Wd_sw j, hb]
    rfl
  refine WS_perm hsw (WS_pq [2, 3] (lv' := [(0, .ref (A 19)), (1, .int (Int32.ofInt x))]) rfl ?_)
  exact c7_adopt36 (A := fun c => A (sw c)) G (bd_sw I) p0 X E hRt q (fun t It Ft ht => ⟨fun c => A (sw c), t, swA_sw A, rfl, It, fm_ts (fm_ts (fm_rf _ _ _) fm_sw (by decide) (by decide)) Ft (by decide) (by decide), rfl, ht⟩)
set_option maxRecDepth 4000 in
theorem c7_read (G : GX l s0 D tys a0 dT) (SF : SF0 s0) (GT : TXs0 s0) (I : Bd s) (p0 : iI s 2 ≤ iI s 1) (p1 : iI s 4 ≤ iI s 2) (p2 : iI s 12 ≤ 8) : CTX l s0 D A dT 68 (rmN 68) [.ref (A 19)] s (fun o t => Bd t ∧ Fm [2, 4, 6, 5, 7, 8, 19, 16, 17, 18, 12, 13, 14, 15] [16, 17, 18, 19] s t ∧ ∃ e, o = .inl (some (.int (Int32.ofInt e))) ∧ rng e ∧ ((e = 0 ∨ e = 1) ∧ iI t 12 ≤ 8)) := by
  refine ctX_ofX G (by decide) (Nat.le_of_ble_eq_true rfl) (fun k X E ET hRt hXt q => ?_)
  show WS k 0 [(0, .ref (A 19))] [] _ 0 0
  have F : Fm [2, 4, 6, 5, 7, 8, 19, 16, 17, 18, 12, 13, 14, 15] [16, 17, 18, 19] s s := fm_rf _ _ s
  have hA := swA_rf A
  have b1 := bi_2 I
  have b2 := bi_1 I
  have b3 := bi_4 I
  have b4 := bi_5 I
  have b5 := bi_6 I
  have b6 := bi_19 I
  have b7 := bi_16 I
  have b8 := bi_12 I
  have L22 : ∀ (n : Nat) (t : PS) (c : Int), Bd t → Fm [2, 4, 6, 5, 7, 8, 19, 16, 17, 18, 12, 13, 14, 15] [16, 17, 18, 19] s t → (0 ≤ c ∧ c ≤ 9 ∧ iI t 12 ≤ 8 ∧ iI t 2 ≤ iI t 1 ∧ iI t 4 ≤ iI t 2) → (9 - c : Int).toNat < n → (∀ (t' : PS) (c' : Int), Bd t' → Fm [2, 4, 6, 5, 7, 8, 19, 16, 17, 18, 12, 13, 14, 15] [16, 17, 18, 19] s t' → (0 ≤ c' ∧ c' ≤ 9 ∧ iI t' 12 ≤ 8 ∧ iI t' 2 ≤ iI t' 1 ∧ iI t' 4 ≤ iI t' 2) → WS k 62 [(0, .ref (A 19)), (1, .int (Int32.ofInt c'))] [] (Wd A dT t') 0 0) → WS k 22 [(0, .ref (A 19)), (1, .int (Int32.ofInt c))] [] (Wd A dT t) 0 0 := by
    intro n
    induction n with
    | zero =>
      intro t c I F hi hm kx
      exact absurd hm (Nat.not_lt_zero _)
    | succ n ih =>
      intro t c I F hi hm kx
      have b1001 := bi_2 I
      have b1002 := bi_1 I
      have b1003 := bi_4 I
      have b1004 := bi_5 I
      have b1005 := bi_6 I
      have b1006 := bi_19 I
      have b1007 := bi_16 I
      have b1008 := bi_12 I
      refine z_load_n X (x := c) rfl (List.Mem.tail _ (List.Mem.head _)) (z_bipush X rfl (z_icmp_gt X (t := 62) rfl rfl ⟨by first | exact oq_fa4e5087 hi.1 | omega, by first | exact oq_f7e7bb0e hi.2.1 | omega⟩ (by decide) (fun g1009 => ?_) (fun g1009 => ?_)))
      ·
        refine WS_pq [0, 1] (lv' := [(0, .ref (A 19)), (1, .int (Int32.ofInt c))]) rfl ?_
        exact kx _ c I F (by first | exact ⟨hi.1, hi.2.1, hi.2.2.1, hi.2.2.2.1, hi.2.2.2.2⟩ | omega)
      ·
        refine z_aload_n X (x := A 19) rfl (List.Mem.head _) (s_getR X 19 rfl (c518_ok rfl) rfl rfl (z_getI X 1 rfl (c518_ok rfl) rfl rfl ?_))
        have b1010 := bi_5 I
        refine z_const X rfl (z_icmp_ne X (t := 46) rfl rfl (rng_to _) (by decide) (fun g1011 => ?_) (fun g1011 => ?_))
        ·
          refine z_aload_n X (x := A 19) rfl (List.Mem.head _) (z_load_n X (x := c) rfl (List.Mem.tail _ (List.Mem.head _)) (zcV_i0 X E 19 (As := [.int (Int32.ofInt c)]) (st := []) rfl rfl rfl rfl (c7_readClause_19 G SF GT I (by first | exact ⟨hi.1, g1009⟩ | omega) (by first | exact hi.2.2.2.1 | omega) (by first | exact hi.2.2.2.2 | omega)) rfl (Nat.le_of_ble_eq_true rfl) (fun s1012 e1013 Is1012 Fs1012 hrs1012 hps1012 => ?_)))
          have hps1012p := And.intro hps1012.2.1 (hps1012.2.2)
          have Gs1012 := fm_tq F Fs1012 rfl rfl
          have b1014 := bi_2 Is1012
          have ws1012_1 : iI s1012 1 = iI t 1 := fm_iq Fs1012 rfl
          have b1015 := bi_4 Is1012
          have b1016 := bi_5 Is1012
          have b1017 := bi_6 Is1012
          have b1018 := bi_19 Is1012
          have b1019 := bi_16 Is1012
          have ws1012_12 : iI s1012 12 = iI t 12 := fm_iq Fs1012 rfl
          refine z_if_ne X (t := 56) rfl rfl hrs1012 (fun g1020 => ?_) (fun g1020 => ?_)
          ·
            refine z_inc X (x := c) (lv' := [(1, .int (Int32.ofInt (c + 1))), (0, .ref (A 19))]) rfl (by decide) (List.Mem.tail _ (List.Mem.head _)) (fun _ h => h) (z_goto X (t := 22) rfl rfl (WS_pq [1, 0] (lv' := [(0, .ref (A 19)), (1, .int (Int32.ofInt (c + 1)))]) rfl ?_))
            exact ih _ (c + 1) Is1012 Gs1012 (by first | exact ⟨oq_54f49eb5 hi.1, oq_c5edd56f g1009, oq_86ef0b17 ws1012_12 hi.2.2.1, hps1012.2.1, hps1012.2.2⟩ | omega) (by first | exact qk_me hm (by decide) (oq_fa1cb672 g1009) | omega) kx
          ·
            refine z_const X rfl ?_
            exact w_iret X.1 q hRt (nar_ret (by first | exact Or.inl (by decide) | omega)) (ax_d X (show cdA 68 55 = some (.ireturn, 1, 0, 0, 0) from rfl)) (Nat.zero_le _) (Nat.zero_le _) ⟨A, _, hA, rfl, Is1012, Gs1012, 0, rfl, (by decide), by first | exact ⟨Or.inl (by decide), oq_86ef0b17 ws1012_12 hi.2.2.1⟩ | omega⟩
        ·
          refine z_aload_n X (x := A 19) rfl (List.Mem.head _) (z_load_n X (x := c) rfl (List.Mem.tail _ (List.Mem.head _)) (z_callVX X 19 (rm := rmN 69) (As := [.int (Int32.ofInt c)]) (st := []) rfl rfl (by decide) rfl (by rw [E.1, E.2.1, E.2.2.1]; exact c7_adopt G I (by omega) ) ⟨by rw [E.2.2.2]; exact (show (rmN 69).frames + 1 ≤ (rmN 68).frames by decide), by rw [E.2.2.2]; exact (show 8 + (mNL (miB 69) + 11) + (rmN 69).locals ≤ (rmN 68).locals by decide), by rw [E.2.2.2]; exact (show 0 + (rmN 69).cells ≤ (rmN 68).cells by decide), by rw [E.2.2.2]; exact (show 0 + (rmN 69).slots ≤ (rmN 68).slots by decide)⟩ (Nat.le_of_ble_eq_true rfl) (fun vv A s1021 hA2 hq => ?_) (fun ee A s1021 hA2 hq => ?_)))
          rotate_left
          · obtain ⟨Is1021, Fs1021, hv, hps1021⟩ := hq; cases hv
          obtain ⟨Is1021, Fs1021, hv, hps1021⟩ := hq
          cases hv
          replace hA := swA_ts hA hA2
          rw [← hA2 19 (by decide)]
          have Gs1021 := fm_tq F Fs1021 rfl rfl
          have ws1021_2 : iI s1021 2 = iI t 2 := fm_iq Fs1021 rfl
          have ws1021_1 : iI s1021 1 = iI t 1 := fm_iq Fs1021 rfl
          have ws1021_4 : iI s1021 4 = iI t 4 := fm_iq Fs1021 rfl
          have ws1021_5 : iI s1021 5 = iI t 5 := fm_iq Fs1021 rfl
          have ws1021_6 : iI s1021 6 = iI t 6 := fm_iq Fs1021 rfl
          have ws1021_19 : iI s1021 19 = iI t 19 := fm_iq Fs1021 rfl
          have ws1021_16 : iI s1021 16 = iI t 16 := fm_iq Fs1021 rfl
          have b1023 := bi_12 Is1021
          show WS k 44 [(0, .ref (A 19)), (1, .int (Int32.ofInt c))] [] (Wd A dT s1021) 0 0
          refine z_const X rfl ?_
          exact w_iret X.1 q hRt (nar_ret (by first | exact Or.inr (by decide) | omega)) (ax_d X (show cdA 68 45 = some (.ireturn, 1, 0, 0, 0) from rfl)) (Nat.zero_le _) (Nat.zero_le _) ⟨A, _, hA, rfl, Is1021, Gs1021, 1, rfl, (by decide), by first | exact ⟨Or.inr (by decide), by omega⟩ | omega⟩
  refine z_aload_n X (x := A 19) rfl (List.Mem.head _) (z_const X rfl (s_putI X 19 rfl (c518_ok rfl) rfl rfl (by decide) rfl rfl rfl (wd_gen (fun s9 hs9 => ?_))))
  have Is9 : Bd s9 := eqB hs9 (bd_I I (show (0 : Int) ≤ 0 ∧ 0 ≤ 200 by first | exact ⟨by decide, by decide⟩ | omega) (by decide))
  have Fs9 := eqF hs9 (fm_I F (inl_ok (a := 16) rfl))
  have vs9 : iI s9 16 = 0 := eqI hs9 (iI_u (by decide))
  have ws9_2 : iI s9 2 = iI s 2 := eqI hs9 rfl
  have ws9_1 : iI s9 1 = iI s 1 := eqI hs9 rfl
  have ws9_4 : iI s9 4 = iI s 4 := eqI hs9 rfl
  have ws9_5 : iI s9 5 = iI s 5 := eqI hs9 rfl
  have ws9_6 : iI s9 6 = iI s 6 := eqI hs9 rfl
  have ws9_19 : iI s9 19 = iI s 19 := eqI hs9 rfl
  have ws9_12 : iI s9 12 = iI s 12 := eqI hs9 rfl
  refine z_aload_n X (x := A 19) rfl (List.Mem.head _) (z_const X rfl (s_putI X 19 rfl (c518_ok rfl) rfl rfl (by decide) rfl rfl rfl (wd_gen (fun s10 hs10 => ?_))))
  have Is10 : Bd s10 := eqB hs10 (bd_I Is9 (show ((-1) : Int) ≤ (-1) ∧ (-1) ≤ 7 by first | exact ⟨by decide, by decide⟩ | omega) (by decide))
  have Fs10 := eqF hs10 (fm_I Fs9 (inl_ok (a := 17) rfl))
  have vs10 : iI s10 17 = (-1) := eqI hs10 (iI_u (by decide))
  have ws10_2 : iI s10 2 = iI s9 2 := eqI hs10 rfl
  have ws10_1 : iI s10 1 = iI s9 1 := eqI hs10 rfl
  have ws10_4 : iI s10 4 = iI s9 4 := eqI hs10 rfl
  have ws10_5 : iI s10 5 = iI s9 5 := eqI hs10 rfl
  have ws10_6 : iI s10 6 = iI s9 6 := eqI hs10 rfl
  have ws10_19 : iI s10 19 = iI s9 19 := eqI hs10 rfl
  have ws10_16 : iI s10 16 = iI s9 16 := eqI hs10 rfl
  have ws10_12 : iI s10 12 = iI s9 12 := eqI hs10 rfl
  refine z_aload_n X (x := A 19) rfl (List.Mem.head _) (z_const X rfl (s_putI X 19 rfl (c518_ok rfl) rfl rfl (by decide) rfl rfl rfl (wd_gen (fun s11 hs11 => ?_))))
  have Is11 : Bd s11 := eqB hs11 (bd_I Is10 (show ((-2147483648) : Int) ≤ 0 ∧ 0 ≤ 2147483647 by first | exact ⟨by decide, by decide⟩ | omega) (by decide))
  have Fs11 := eqF hs11 (fm_I Fs10 (inl_ok (a := 18) rfl))
  have vs11 : iI s11 18 = 0 := eqI hs11 (iI_u (by decide))
  have ws11_2 : iI s11 2 = iI s10 2 := eqI hs11 rfl
  have ws11_1 : iI s11 1 = iI s10 1 := eqI hs11 rfl
  have ws11_4 : iI s11 4 = iI s10 4 := eqI hs11 rfl
  have ws11_5 : iI s11 5 = iI s10 5 := eqI hs11 rfl
  have ws11_6 : iI s11 6 = iI s10 6 := eqI hs11 rfl
  have ws11_19 : iI s11 19 = iI s10 19 := eqI hs11 rfl
  have ws11_16 : iI s11 16 = iI s10 16 := eqI hs11 rfl
  have ws11_12 : iI s11 12 = iI s10 12 := eqI hs11 rfl
  refine z_aload_n X (x := A 19) rfl (List.Mem.head _) (z_const X rfl (s_putI X 19 rfl (c518_ok rfl) rfl rfl (by decide) rfl rfl rfl (wd_gen (fun s12 hs12 => ?_))))
  have Is12 : Bd s12 := eqB hs12 (bd_I Is11 (show (0 : Int) ≤ 0 ∧ 0 ≤ 6 by first | exact ⟨by decide, by decide⟩ | omega) (by decide))
  have Fs12 := eqF hs12 (fm_I Fs11 (inl_ok (a := 19) rfl))
  have vs12 : iI s12 19 = 0 := eqI hs12 (iI_u (by decide))
  have ws12_2 : iI s12 2 = iI s11 2 := eqI hs12 rfl
  have ws12_1 : iI s12 1 = iI s11 1 := eqI hs12 rfl
  have ws12_4 : iI s12 4 = iI s11 4 := eqI hs12 rfl
  have ws12_5 : iI s12 5 = iI s11 5 := eqI hs12 rfl
  have ws12_6 : iI s12 6 = iI s11 6 := eqI hs12 rfl
  have ws12_16 : iI s12 16 = iI s11 16 := eqI hs12 rfl
  have ws12_12 : iI s12 12 = iI s11 12 := eqI hs12 rfl
  refine z_const X rfl (z_store_n X (lv' := [(1, .int (Int32.ofInt 0)), (0, .ref (A 19))]) rfl (by decide) (fun _ h => h) (WS_pq [1, 0] (lv' := [(0, .ref (A 19)), (1, .int (Int32.ofInt 0))]) rfl (L22 ((9 - 0 : Int).toNat + 1) s12 0 Is12 Fs12 (by first | exact ⟨by decide, by decide, oq_85681322 ws12_12 ws11_12 ws10_12 ws9_12 p2, oq_25674cec ws12_1 ws12_2 ws11_1 ws11_2 ws10_1 ws10_2 ws9_1 ws9_2 p0, oq_969cff60 ws12_4 ws12_2 ws11_4 ws11_2 ws10_4 ws10_2 ws9_4 ws9_2 p1⟩ | omega) (Nat.lt_succ_self _) ?_)))
  intro s13 x14 Is13 Fs13 hs13
  have b15 := bi_2 Is13
  have b16 := bi_1 Is13
  have b17 := bi_4 Is13
  have b18 := bi_5 Is13
  have b19 := bi_6 Is13
  have b20 := bi_19 Is13
  have b21 := bi_16 Is13
  have b22 := bi_12 Is13
  refine z_const X rfl ?_
  exact w_iret X.1 q hRt (nar_ret (by first | exact Or.inl (by decide) | omega)) (ax_d X (show cdA 68 63 = some (.ireturn, 1, 0, 0, 0) from rfl)) (Nat.zero_le _) (Nat.zero_le _) ⟨A, _, hA, rfl, Is13, Fs13, 0, rfl, (by decide), by first | exact ⟨Or.inl (by decide), hs13.2.2.1⟩ | omega⟩
set_option maxRecDepth 4000 in
theorem cs_rules (G : GX l s0 D tys a0 dT) (SF : SF0 s0) (GT : TXs0 s0) (I : Bd s) {w : Int} (p0 : rng w) (p1 : iI s 12 ≤ 8) : CTX l s0 D A dT 137 (rmN 137) [.ref (A 0), .int (Int32.ofInt w)] s (fun o t => Bd t ∧ Fm [2, 4, 6, 5, 7, 8, 19, 16, 17, 18, 12, 13, 14, 15, 1, 3, 0] [16, 17, 18, 19] s t ∧ ((∃ e, o = .inl (some (.int (Int32.ofInt e))) ∧ rng e ∧ (iI t 0 = 0 ∧ 0 ≤ w ∧ w ≤ iI s 0 ∧ iI t 12 ≤ 8)) ∨ ∃ x : Nat, o = .inr (exN x) ∧ (x = 0 ∧ iI t 0 = iI s 0 ∧ iI t 12 ≤ 8 ∧ (w < 0 ∨ iI s 0 < w)))) := by
  refine ctX_ofX G (by decide) (Nat.le_of_ble_eq_true rfl) (fun k X E ET hRt hXt q => ?_)
  show WS k 0 [(0, .ref (A 0)), (1, .int (Int32.ofInt w))] [] _ 0 0
  have F : Fm [2, 4, 6, 5, 7, 8, 19, 16, 17, 18, 12, 13, 14, 15, 1, 3, 0] [16, 17, 18, 19] s s := fm_rf _ _ s
  have hA := swA_rf A
  have b1 := bi_0 I
  have b2 := bi_2 I
  have b3 := bi_1 I
  have b4 := bi_4 I
  have b5 := bi_12 I
  refine z_load_n X (x := w) rfl (List.Mem.tail _ (List.Mem.head _)) (z_if_lt X (t := 15) rfl rfl ⟨by first | exact p0.1 | omega, by first | exact p0.2 | omega⟩ (fun g6 => ?_) (fun g6 => ?_))
  ·
    exact z_throw G X E ET hXt q (st := []) rfl (by decide) (by decide) (Nat.le_of_ble_eq_true rfl) (show 0 + 1 ≤ 1 by decide) (show 0 + 6 ≤ 6 by decide) (show 0 + 1 ≤ 1 by decide) (show 0 + 6 ≤ 6 by decide) ⟨A, _, hA, rfl, I, F, Or.inr ⟨0, rfl, by omega⟩⟩
  ·
    refine z_load_n X (x := w) rfl (List.Mem.tail _ (List.Mem.head _)) (z_aload_n X (x := A 0) rfl (List.Mem.head _) (s_getR X 0 rfl (c518_ok rfl) rfl rfl (z_getI X 1 rfl (c518_ok rfl) rfl rfl ?_)))
    have b7 := bi_0 I
    refine z_icmp_le X (t := 25) rfl rfl ⟨by first | exact p0.1 | omega, by first | exact p0.2 | omega⟩ (rng_to _) (fun g8 => ?_) (fun g8 => ?_)
    ·
      refine z_aload_n X (x := A 0) rfl (List.Mem.head _) (s_getR X 0 rfl (c518_ok rfl) rfl rfl (z_load_n X (x := w) rfl (List.Mem.tail _ (List.Mem.head _)) (z_const X rfl (zcV_v0 X E 1 (As := [.int (Int32.ofInt w), .int (Int32.ofInt 1)]) (st := []) rfl rfl rfl rfl (c10_open_1 G I (by first | exact ⟨g6, oq_9a94ea72 g8 b7.2⟩ | omega) (by first | exact Or.inr (by decide) | omega)) rfl (Nat.le_of_ble_eq_true rfl) (fun s9 Is9 Fs9 hps9 => ?_)))))
      have Gs9 := fm_tq F Fs9 rfl rfl
      have b11 := bi_0 Is9
      have b12 := bi_2 Is9
      have b13 := bi_1 Is9
      have b14 := bi_4 Is9
      have ws9_12 : iI s9 12 = iI s 12 := fm_iq Fs9 rfl
      refine z_aload_n X (x := A 0) rfl (List.Mem.head _) (s_getR X 0 rfl (c518_ok rfl) rfl rfl (z_callVX X 19 (rm := rmN 68) (As := []) (st := []) rfl rfl (by decide) rfl (by rw [E.1, E.2.1, E.2.2.1]; exact c7_read G SF GT Is9 (by omega) (by omega) (by omega) ) ⟨by rw [E.2.2.2]; exact (show (rmN 68).frames + 1 ≤ (rmN 137).frames by decide), by rw [E.2.2.2]; exact (show 8 + (mNL (miB 68) + 11) + (rmN 68).locals ≤ (rmN 137).locals by decide), by rw [E.2.2.2]; exact (show 0 + (rmN 68).cells ≤ (rmN 137).cells by decide), by rw [E.2.2.2]; exact (show 0 + (rmN 68).slots ≤ (rmN 137).slots by decide)⟩ (Nat.le_of_ble_eq_true rfl) (fun vv A s15 hA2 hq => ?_) (fun ee A s15 hA2 hq => ?_)))
      rotate_left
      · obtain ⟨Is15, Fs15, e16, hv, hrs15, hps15⟩ := hq; cases hv
      obtain ⟨Is15, Fs15, e16, hv, hrs15, hps15⟩ := hq
      have hps15p := hps15.2
      cases hv
      replace hA := swA_ts hA hA2
      rw [← hA2 0 (by decide)]
      have Gs15 := fm_tq Gs9 Fs15 rfl rfl
      have ws15_0 : iI s15 0 = iI s9 0 := fm_iq Fs15 rfl
      have b17 := bi_2 Is15
      have ws15_1 : iI s15 1 = iI s9 1 := fm_iq Fs15 rfl
      have b18 := bi_4 Is15
      have b19 := bi_12 Is15
      show WS k 41 [(0, .ref (A 0)), (1, .int (Int32.ofInt w))] [.int (Int32.ofInt e16)] (Wd A dT s15) 0 0
      have N20 : ∀ e21 : Int, (((e16 = 0) ∧ ((0 : Int) ≤ iI s15 7 ∧ iI s15 7 ≤ 9) ∧ e21 = ((iI s15 7) - 10)) ∨ ((e16 ≠ 0) ∧ ((0 : Int) ≤ iI s15 12 ∧ iI s15 12 ≤ 9) ∧ e21 = (iI s15 12))) → WS k 64 [(0, .ref (A 0)), (1, .int (Int32.ofInt w))] [.int (Int32.ofInt e21)] (Wd A dT s15) 0 0 := by
        intro e21 he21
        exact w_iret X.1 q hRt rfl (ax_d X (show cdA 137 64 = some (.ireturn, 1, 0, 0, 0) from rfl)) (Nat.zero_le _) (Nat.zero_le _) ⟨A, _, hA, rfl, Is15, Gs15, Or.inl ⟨e21, rfl, ⟨by first | exact oq_8fdf5018 he21 b19.1 | omega, by first | exact oq_70026c09 he21 b19.2 | omega⟩, by first | exact ⟨oq_333640b7 ws15_0 hps9.1 b11.1, g6, g8, by first | (clear he21 hps15; omega) | (clear hps15; omega) | omega⟩ | omega⟩⟩
      refine z_if_eq X (t := 54) rfl rfl ⟨by first | (clear hps15; omega) | omega, by first | (clear hps15; omega) | omega⟩ (fun g22 => ?_) (fun g22 => ?_)
      ·
        refine z_aload_n X (x := A 0) rfl (List.Mem.head _) (s_getR X 0 rfl (c518_ok rfl) rfl rfl (z_getI X 1 rfl (c518_ok rfl) rfl rfl ?_))
        have b23 := bi_7 Is15
        exact z_bipush X rfl (z_sub X rfl (N20 _ (Or.inl ⟨g22, b23, rfl⟩)))
      ·
        refine z_aload_n X (x := A 0) rfl (List.Mem.head _) (s_getR X 0 rfl (c518_ok rfl) rfl rfl (z_getI X 19 rfl (c518_ok rfl) rfl rfl ?_))
        have b24 := bi_12 Is15
        exact z_goto X (t := 64) rfl rfl (N20 _ (Or.inr (⟨g22, b24, rfl⟩)))
    ·
      exact z_throw G X E ET hXt q (st := []) rfl (by decide) (by decide) (Nat.le_of_ble_eq_true rfl) (show 0 + 1 ≤ 1 by decide) (show 0 + 6 ≤ 6 by decide) (show 0 + 1 ≤ 1 by decide) (show 0 + 6 ≤ 6 by decide) ⟨A, _, hA, rfl, I, F, Or.inr ⟨0, rfl, by omega⟩⟩
end M86
