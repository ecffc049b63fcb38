/-! The class: rules adopted: two pairs of rows change places -/
def sw (c : Nat) : Nat := if c = 20 then 22 else if c = 22 then 20 else if c = 21 then 23 else if c = 23 then 21 else c
def swB (a : Nat) : Nat := if a = 16 then 18 else if a = 18 then 16 else if a = 17 then 19 else if a = 19 then 17 else a
def pSw (s : PS) : PS := (s.1, s.2.1, fun a => s.2.2.1 (swB a), s.2.2.2)
theorem sw_sw (c : Nat) : sw (sw c) = c := by
  by_cases h1 : c = 20
  · subst h1; rfl
  · by_cases h2 : c = 22
    · subst h2; rfl
    · by_cases h3 : c = 21
      · subst h3; rfl
      · by_cases h4 : c = 23
        · subst h4; rfl
        · have e : sw c = c := by
            unfold sw
            rw [if_neg h1, if_neg h2, if_neg h3, if_neg h4]
          rw [e, e]
theorem sw_big {c : Nat} (h : 23 < c) : sw c = c := by
  unfold sw
  rw [if_neg (by omega), if_neg (by omega), if_neg (by omega), if_neg (by omega)]
theorem sw_lt {c : Nat} (h : c < 518) : sw c < 518 := by
  unfold sw
  by_cases h1 : c = 20
  · rw [if_pos h1]; decide
  · rw [if_neg h1]
    by_cases h2 : c = 22
    · rw [if_pos h2]; decide
    · rw [if_neg h2]
      by_cases h3 : c = 21
      · rw [if_pos h3]; decide
      · rw [if_neg h3]
        by_cases h4 : c = 23
        · rw [if_pos h4]; decide
        · rw [if_neg h4]; exact h
theorem sw_19 {c : Nat} (h : c ≠ 19) : sw c ≠ 19 := by
  intro q
  have := sw_sw c
  rw [q] at this
  exact h this.symm
def rnV : AV → AV
  | .inr (.inr (.inr (.inr (.inl (some q))))) => aR (some (sw q))
  | a => a
def rnC : AC → AC
  | .inl (t, n, .inl l) => .inl (t, n, .inl (l.map rnV))
  | .inl (t, n, .inr (lo, hi, a)) => .inl (t, n, .inr (lo, hi, if t = 1 then a else swB a))
  | .inr (ci, fs) => .inr (ci, fs.map rnV)
theorem rn_ok : (List.range 518).all (fun j => Nat.beq j 19 || qAC (rnC (bsS j)) (bsS (sw j))) = true := by decide +kernel
theorem rn_at {j : Nat} (h : j < 518) (hn : j ≠ 19) : rnC (bsS j) = bsS (sw j) := by
  have := List.all_eq_true.mp rn_ok j (List.mem_range.mpr h)
  rw [Bool.or_eq_true] at this
  rcases this with q | q
  · exact absurd (Nat.eq_of_beq_eq_true q) hn
  · exact qAC_ok q
section PM
variable {A : Nat → Nat} {dT : Nat → ClassId} {s : PS}
theorem cv_rn (a : AV) : cv (vS (fun c => A (sw c)) (pSw s)) a = cv (vS A s) (rnV a) := by
  rcases a with z | k' | n' | k' | r | k'
  · rfl
  · rfl
  · rfl
  · rfl
  · cases r <;> rfl
  · rfl
theorem cZ_rn (a : AV) : cZ (vS (fun c => A (sw c)) (pSw s)) a = cZ (vS A s) (rnV a) := by
  rcases a with z | k' | n' | k' | r | k'
  · rfl
  · rfl
  · rfl
  · rfl
  · cases r <;> rfl
  · rfl
theorem cQ_rn (a : AV) : cQ (vS (fun c => A (sw c)) (pSw s)) a = cQ (vS A s) (rnV a) := by
  rcases a with z | k' | n' | k' | r | k'
  · rfl
  · rfl
  · rfl
  · rfl
  · cases r <;> rfl
  · rfl
theorem cR_rn (a : AV) : cR (vS (fun c => A (sw c)) (pSw s)) a = cR (vS A s) (rnV a) := by
  rcases a with z | k' | n' | k' | r | k'
  · rfl
  · rfl
  · rfl
  · rfl
  · cases r <;> rfl
  · rfl
theorem getD_rn (l : List AV) (j : Nat) (d : AV) (hd : rnV d = d) : (l.map rnV).getD j d = rnV (l.getD j d) := by
  rw [List.getD_eq_getElem?_getD, List.getD_eq_getElem?_getD, List.getElem?_map]
  cases l[j]? with
  | none => exact hd.symm
  | some x => rfl
theorem cC_rn (c : AC) : cC (vS (fun c => A (sw c)) (pSw s)) dT c = cC (vS A s) dT (rnC c) := by
  rcases c with ⟨t, n, b⟩ | ⟨ci, fs⟩
  · rcases b with l | ⟨lo, hi, a⟩
    · show Sum.inl (dT t, n, cB _ t n _) = Sum.inl (dT t, n, cB _ t n _)
      congr 3
      refine cB_ext (fun _ j _ => ?_) (fun _ j _ => ?_) (fun _ j _ => ?_)
      · show cZ _ (l.getD j (aI 0)) = cZ _ ((l.map rnV).getD j (aI 0))
        rw [getD_rn l j (aI 0) rfl, cZ_rn]
      · show cQ _ (l.getD j (aJ 0)) = cQ _ ((l.map rnV).getD j (aJ 0))
        rw [getD_rn l j (aJ 0) rfl, cQ_rn]
      · show cR _ (l.getD j (aR none)) = cR _ ((l.map rnV).getD j (aR none))
        rw [getD_rn l j (aR none) rfl, cR_rn]
    · show Sum.inl (dT t, n, cB _ t n _) = Sum.inl (dT t, n, cB _ t n _)
      congr 3
      refine cB_ext (fun ht j _ => ?_) (fun ht j _ => ?_) (fun _ j _ => rfl)
      · show s.2.2.1 (swB a) j = s.2.2.1 (if t = 1 then a else swB a) j
        rw [if_neg (by omega)]
      · show s.2.2.2.1 a j = s.2.2.2.1 (if t = 1 then a else swB a) j
        rw [if_pos ht]
  · show Sum.inr (ci, fs.map _) = Sum.inr (ci, (fs.map rnV).map _)
    rw [List.map_map]
    congr 2
    exact List.map_congr_left (fun a _ => cv_rn a)
theorem Wd_sw (j : Nat) : (Wd (fun c => A (sw c)) dT (pSw s))[j]? = ((Wd A dT s).set 19 (A 19, cC (vS A s) dT (rnC (bsS 19))))[sw j]? := by
  by_cases hj : j < 518
  · rw [Wd_get hj, cC_rn]
    by_cases h9 : j = 19
    · subst h9
      show some (A 19, _) = (List.set _ 19 _)[19]?
      rw [List.getElem?_set_self (by rw [Wd_len]; omega)]
    · rw [List.getElem?_set_ne (fun q => sw_19 h9 q.symm), Wd_get (sw_lt hj), rn_at hj h9]
  · rw [sw_big (by omega), List.getElem?_set_ne (by omega), Wd_ext (by omega), Wd_ext (by omega)]
    all_goals rfl
theorem WS_perm {k : kx_T} {pc ce sl : Nat} {lv : List (Nat × Value)} {st : List Value} {W1 W2 : va_W} (h : ∀ j, W2[j]? = W1[sw j]?) (g : WS k pc lv st W2 ce sl) : WS k pc lv st W1 ce sl := fun H locs ls hP hD hS hl => by
  refine g H locs ls (fun j q hq => hP (sw j) q (by rw [← h]; exact hq)) ⟨fun i j p q hp hq e => ?_, fun j q hq => hD.2 (sw j) q (by rw [← h]; exact hq)⟩ hS hl
  have := hD.1 (sw i) (sw j) p q (by rw [← h]; exact hp) (by rw [← h]; exact hq) e
  have e2 := congrArg sw this
  rwa [sw_sw, sw_sw] at e2
theorem bA_sw (a : Nat) : bA (swB a) = bA a := by
  unfold swB
  by_cases h1 : a = 16
  · subst h1; rfl
  · by_cases h2 : a = 18
    · subst h2; rfl
    · by_cases h3 : a = 17
      · subst h3; rfl
      · by_cases h4 : a = 19
        · subst h4; rfl
        · rw [if_neg h1, if_neg h2, if_neg h3, if_neg h4]
theorem bd_sw (I : Bd s) : Bd (pSw s) := by
  refine ⟨fun q => I.1 q, fun a j hj => ?_⟩
  have := I.2 (swB a) j (by rw [bA_sw]; exact hj)
  rw [bA_sw] at this
  exact this
theorem fm_sw : Fm [] [16, 17, 18, 19] s (pSw s) := by
  refine ⟨fun _ _ => rfl, fun a ha => ?_, rfl, fun _ _ => rfl, fun _ _ => rfl⟩
  show s.2.2.1 (swB a) = s.2.2.1 a
  have h1 : a ≠ 16 := fun q => ha (by rw [q]; decide)
  have h2 : a ≠ 17 := fun q => ha (by rw [q]; decide)
  have h3 : a ≠ 18 := fun q => ha (by rw [q]; decide)
  have h4 : a ≠ 19 := fun q => ha (by rw [q]; decide)
  have : swB a = a := by
    unfold swB
    rw [if_neg h1, if_neg h3, if_neg h2, if_neg h4]
  rw [this]
end PM
/-- addresses but those of the four rows are the same -/
def swA (A B : Nat → Nat) : Prop := ∀ c, (c < 20 ∨ 23 < c) → B c = A c
theorem swA_rf (A : Nat → Nat) : swA A A := fun _ _ => rfl
theorem swA_sw (A : Nat → Nat) : swA A (fun c => A (sw c)) := fun c h => by
  show A (sw c) = A c
  unfold sw
  rw [if_neg (by omega), if_neg (by omega), if_neg (by omega), if_neg (by omega)]
theorem swA_ts {A B C : Nat → Nat} (h : swA A B) (g : swA B C) : swA A C := fun c hc => (g c hc).trans (h c hc)
/-- a contract of a method that may let rows change places -/
def CTX (l : Launch) (s0 : State) (D : va_G) (A : Nat → Nat) (dT : Nat → ClassId) (mn : Nat) (rm : Room) (vals : List Value) (s : PS) (Q : mb_O → PS → Prop) : Prop :=
  MB l s0 D (yA mn) (.code (yA mn) (byA mn) (mNL (miB mn)) (rtA mn)) rm vals (Wd A dT s) (fun o ws => ∃ (B : Nat → Nat) (s' : PS), swA A B ∧ ws = Wd B dT s' ∧ Q o s')
section CT3
variable {l : Launch} {s0 : State} {D : va_G} {tys : List (ClassId × FieldType)} {a0 : Array Value} {A : Nat → Nat} {dT : Nat → ClassId} {s : PS}
theorem ctX_ofX (G : GX l s0 D tys a0 dT) {mn : Nat} {rm : Room} {vals : List Value} {Q : mb_O → PS → Prop} (hy : plainName (yA mn).cls = true) (hn : (lg_sl vals).length ≤ mNL (miB mn))
    (body : ∀ k, AX k mn dT → (kL k = l ∧ kS0 k = s0 ∧ kD k = D ∧ kR k = rm) → kTy k = tys → (kMe k).sig.returnType = rtA mn → (∀ x ∈ (kC k).exceptionTable.toList, False) → kx_end k (fun o ws => ∃ (B : Nat → Nat) (s' : PS), swA A B ∧ ws = Wd B dT s' ∧ Q o s') rm.cells rm.slots → WS k 0 (lv_args 0 vals) [] (Wd A dT s) 0 0) : CTX l s0 D A dT mn rm vals s Q :=
  mb_of G.1 hy hn (fun k C e1 e2 e3 e4 e5 e6 e7 e8 e9 e10 e11 qe => body k ⟨C, ⟨e7, e6, e8⟩, fun t => by rw [e5]; exact G.2.1 t, by rw [e3]; exact G.2.2⟩ ⟨e1, e3, e4, e2⟩ e5 e9 e11 qe)
variable {k : kx_T} {mn pc : Nat} {lv : List (Nat × Value)} {st : List Value} {ws : va_W} {ce sl b : Nat} {z : Int} {Q : mb_O → PS → Prop} {rm : Room}
theorem z_callVX (X : AX k mn dT) (c : Nat) {idx cn : Nat} {fs : List AV} {As : List Value} (h : cdA mn pc = some (.invokevirtual idx, 3, cn, b, z)) (hn : mAr (miB cn) = As.length + 1) (hc : c < 518) (hb : bsS c = .inr (mCl (miB cn), fs)) (hM : CTX (kL k) (kS0 k) (kD k) A dT cn rm (.ref (A c) :: As) s Q) (hr : rmK k cn rm ce sl) (hw : (st.map fun v => v.category).sum ≤ 8)
    (h1 : ∀ v B s', swA A B → Q (.inl v) s' → WS k (pc + 3) lv (v.toList ++ st) (Wd B dT s') (ce + rm.cells) (sl + rm.slots)) (h2 : ∀ E B s', swA A B → Q (.inr E) s' → WX k pc lv st (Wd B dT s') E (ce + rm.cells) (sl + rm.slots)) : WS k pc lv (As.reverse ++ .ref (A c) :: st) (Wd A dT s) ce sl := by
  obtain ⟨v0, v1, v2, v3, n, N, T, v4, v5, v6⟩ := (ax_r X h).2.2
  have en : n = As.length := by
    have v5 : mAr (miB cn) = n + 1 := v5
    omega
  subst en
  have he := Wd_get (A := A) (dT := dT) (s := s) hc
  rw [hb] at he
  obtain ⟨r1, r2, r3⟩ := hr
  exact w_callV (K := fun o ws => ∃ (B : Nat → Nat) (s' : PS), swA A B ∧ ws = Wd B dT s' ∧ Q o s') (rm := rm) X.1 ⟨by rw [X.2.1.2.1]; exact v1, cd_code v0 v4.1, v4.2.1, v4.2.2, r1, r2⟩ v2 v3 hM he v6 rfl hw r3 (ax_d X h) (fun v ws' hk => hk.elim (fun B hk => hk.elim (fun s' hq => by rw [hq.2.1]; exact h1 v B s' hq.1 hq.2.2))) (fun E ws' hk => hk.elim (fun B hk => hk.elim (fun s' hq => by rw [hq.2.1]; exact h2 E B s' hq.1 hq.2.2)))
theorem w_getR (X : AX k mn dT) {a idx f : Nat} {fs : List Value} {v : Value} (h : cdA mn pc = some (.getfield idx, 3, 7, f, 0)) (he : ws[19]? = some (a, .inr (7, fs))) (hv : fs[f]? = some v) (g : WS k (pc + 3) lv (v :: st) ws ce sl) : WS k pc lv (.ref a :: st) ws ce sl := by
  obtain ⟨c1, c2, c3⟩ := (ax_r X h).2.2
  exact w_get X.1 19 c1 he c2 (by rw [X.2.1.2.1]; exact c3) hv (ax_d X h) g
theorem w_putR (X : AX k mn dT) {a idx f v : Nat} {fs : List Value} (h : cdA mn pc = some (.putfield idx, 3, 7, f, 0)) (he : ws[19]? = some (a, .inr (7, fs))) (hN : f < (nCl 7).2.1) (hl : f < fs.length) (hn : narrow ((nCl 7).2.2.2 f) (.ref v) = .ref v) (ht : fits ((nCl 7).2.2.2 f) (.ref v) = true) (hfin : ((nCl 7).2.2.1 f).2.2.2 = false) (g : WS k (pc + 3) lv st (ws.set 19 (a, .inr (7, fs.set f (.ref v)))) ce sl) : WS k pc lv (.ref v :: .ref a :: st) ws ce sl := by
  obtain ⟨c1, c2, -⟩ := (ax_r X h).2.2
  exact w_put X.1 19 c1 he hN (by rw [X.2.1.2.1]; exact c2) hn ht hl (Or.inl hfin) (ax_d X h) g
end CT3
section M86
variable {l : Launch} {s0 : State} {D : va_G} {tys : List (ClassId × FieldType)} {a0 : Array Value} {A : Nat → Nat} {dT : Nat → ClassId} {s : PS}
theorem c7_adopt36 (G : GX l s0 D tys a0 dT) (I : Bd s) {x : Int} (p0 : 0 ≤ x ∧ x ≤ 8) {k : kx_T} (X : AX k 69 dT) (E : kL k = l ∧ kS0 k = s0 ∧ kD k = D ∧ kR k = rmN 69) (hRt : (kMe k).sig.returnType = rtA 69) {KK : mb_O → va_W → Prop} {mc ms : Nat} (q : kx_end k KK mc ms) (hK : ∀ t : PS, Bd t → Fm [12, 13, 14, 15] [] s t → iI t 12 ≤ 8 → KK (.inl none) (Wd A dT t)) : WS k 36 [(0, .ref (A 19)), (1, .int (Int32.ofInt x))] [] (Wd A dT s) 0 0 := by
  skip
  skip
  have F : Fm [12, 13, 14, 15] [] s s := fm_rf _ _ s
  have b1 : (0 : Int) ≤ iI s 12 ∧ iI s 12 ≤ 9 := I.1 12
  have b2 : ((-1) : Int) ≤ iI s 13 ∧ iI s 13 ≤ 7 := I.1 13
  have L80 : ∀ (n : Nat) (t : PS) (c : Int), Bd t → Fm [12, 13, 14, 15] [] s t → (0 ≤ c ∧ c ≤ 200 ∧ iI t 12 ≤ 8 ∧ 0 ≤ iI t 13) → (200 - c : Int).toNat < n → (∀ (t' : PS) (c' : Int), Bd t' → Fm [12, 13, 14, 15] [] s t' → (0 ≤ c' ∧ c' ≤ 200 ∧ iI t' 12 ≤ 8 ∧ 0 ≤ iI t' 13) → WS k 138 [(0, .ref (A 19)), (4, .int (Int32.ofInt c'))] [] (Wd A dT t') 0 0) → WS k 80 [(0, .ref (A 19)), (4, .int (Int32.ofInt c))] [] (Wd A dT t) 0 0 := by
    intro n
    induction n with
    | zero =>
      intro t c I F hi hm kx
      exact absurd hm (Nat.not_lt_zero _)
    | succ n ih =>
      intro t c I F hi hm kx
      have b1001 : (0 : Int) ≤ iI t 12 ∧ iI t 12 ≤ 9 := I.1 12
      have b1002 : ((-1) : Int) ≤ iI t 13 ∧ iI t 13 ≤ 7 := I.1 13
      refine z_load X (x := c) (show cdA 69 80 = some (.iload 4, 2, 0, 0, 0) from rfl) (List.Mem.tail _ (List.Mem.head _)) ?_
      refine z_aload_n X (x := A 19) (show cdA 69 82 = some (.aload_n 0, 1, 0, 0, 0) from rfl) (List.Mem.head _) ?_
      refine s_getR X 19 (show cdA 69 83 = some (.getfield 15, 3, 7, 2, 0) from rfl) (by decide) rfl rfl ?_
      refine z_aload_n X (x := A 19) (show cdA 69 86 = some (.aload_n 0, 1, 0, 0, 0) from rfl) (List.Mem.head _) ?_
      refine z_getI X 19 (show cdA 69 87 = some (.getfield 18, 3, 7, 4, 0) from rfl) (by decide) rfl rfl ?_
      have b1003 : ((-1) : Int) ≤ iI t 13 ∧ iI t 13 ≤ 7 := I.1 13
      refine z_ald X 21 (show cdA 69 90 = some (.iaload, 1, 0, 0, 0) from rfl) (by decide) rfl (by first | exact hi.2.2.2 | omega) (show (iI t 13) < 8 by first | exact oq_aaea290e b1003.2 | omega) (by decide) ?_
      have b1004 : (0 : Int) ≤ iC t 17 ((iI t 13)).toNat ∧ iC t 17 ((iI t 13)).toNat ≤ 200 := I.2 17 _ (show ((iI t 13)).toNat < 8 by first | exact oq_c19a3aae b1003.2 | omega)
      refine z_icmp_ge X (t := 138) (show cdA 69 91 = some (.if_icmp .ge 47, 3, 3, 0, 0) from rfl) (by decide) ⟨by first | exact oq_fa4e5087 hi.1 | omega, by first | exact oq_52af2b96 hi.2.1 | omega⟩ (rng_to _) (fun g1005 => ?_) (fun g1005 => ?_)
      ·
        refine WS_lv (lv := [(0, .ref (A 19)), (4, .int (Int32.ofInt c))]) (List.forall_mem_cons.mpr ⟨(List.Mem.head _), (List.forall_mem_cons.mpr ⟨(List.Mem.tail _ (List.Mem.head _)), (fun q h => absurd h List.not_mem_nil)⟩)⟩) ?_
        exact kx _ c I F (by first | exact ⟨hi.1, hi.2.1, hi.2.2.1, hi.2.2.2⟩ | omega)
      ·
        refine z_aload_n X (x := A 19) (show cdA 69 94 = some (.aload_n 0, 1, 0, 0, 0) from rfl) (List.Mem.head _) ?_
        refine w_dup X.1 (ax_d X (show cdA 69 95 = some (.dup, 1, 0, 0, 0) from rfl)) rfl ?_
        refine z_getI X 19 (show cdA 69 96 = some (.getfield 66, 3, 7, 6, 0) from rfl) (by decide) rfl rfl ?_
        have b1006 : (0 : Int) ≤ iI t 15 ∧ iI t 15 ≤ 1 := I.1 15
        refine z_aload_n X (x := A 19) (show cdA 69 99 = some (.aload_n 0, 1, 0, 0, 0) from rfl) (List.Mem.head _) ?_
        refine s_getR X 19 (show cdA 69 100 = some (.getfield 11, 3, 7, 1, 0) from rfl) (by decide) rfl rfl ?_
        refine z_load X (x := c) (show cdA 69 103 = some (.iload 4, 2, 0, 0, 0) from rfl) (List.Mem.tail _ (List.Mem.head _)) ?_
        refine z_ald X 20 (show cdA 69 105 = some (.iaload, 1, 0, 0, 0) from rfl) (by decide) rfl (by first | exact hi.1 | omega) (show c < 200 by first | exact oq_6fca3d72 g1005 b1004.2 | omega) (by decide) ?_
        have b1007 : ((-2147483648) : Int) ≤ iC t 16 (c).toNat ∧ iC t 16 (c).toNat ≤ 2147483647 := I.2 16 _ (show (c).toNat < 200 by first | exact oq_b70289d5 g1005 b1004.2 | omega)
        refine z_bipush X (show cdA 69 106 = some (.bipush (-5), 2, 0, 0, (-5)) from rfl) ?_
        have N1008 : ∀ e1009 : Int, ((((iC t 16 (c).toNat) = (-5)) ∧ e1009 = 1) ∨ (((iC t 16 (c).toNat) ≠ (-5)) ∧ (((-2147483648) : Int) ≤ iC t 16 (c).toNat ∧ iC t 16 (c).toNat ≤ 2147483647) ∧ ((iC t 16 (c).toNat) ≠ (-6)) ∧ e1009 = 0) ∨ (((iC t 16 (c).toNat) ≠ (-5)) ∧ (((-2147483648) : Int) ≤ iC t 16 (c).toNat ∧ iC t 16 (c).toNat ≤ 2147483647) ∧ ((iC t 16 (c).toNat) = (-6)) ∧ e1009 = 1)) → WS k 128 [(0, .ref (A 19)), (4, .int (Int32.ofInt c))] [.int (Int32.ofInt e1009), .int (Int32.ofInt (iI t 15)), .ref (A 19)] (Wd A dT t) 0 0 := by
          intro e1009 he1009
          have re1009 : 0 ≤ e1009 ∧ e1009 ≤ 1 := by omega
          refine z_orb X (show cdA 69 128 = some (.ior, 1, 0, 0, 0) from rfl) 1 (by decide) (show 0 ≤ (iI t 15) ∧ (iI t 15) < 2 ^ 1 by omega) (show 0 ≤ e1009 ∧ e1009 < 2 ^ 1 by omega) (fun y1010 hy1010 iy1010 => ?_)
          have ib1011 : y1010 < 2 := iy1010
          refine s_putI X 19 (show cdA 69 129 = some (.putfield 66, 3, 7, 6, 0) from rfl) (by decide) rfl rfl (by decide) (nar_ret (by omega)) (fit_z (by omega)) rfl ?_
          obtain ⟨s1012, hs1012⟩ : ∃ x0, x0 = uI t 15 (Int32.ofInt y1010) := ⟨_, rfl⟩
          rw [← hs1012]
          have Is1012 : Bd s1012 := by rw [hs1012]; exact bd_I I (show (0 : Int) ≤ y1010 ∧ y1010 ≤ 1 by first | exact ⟨hy1010, oq_b11e0c68 ib1011⟩ | omega) ⟨by first | exact oq_fa4e5087 hy1010 | omega, by first | exact oq_f6d1716d ib1011 | omega⟩
          have Fs1012 := fm_I (x := Int32.ofInt y1010) F (show 15 ∈ _ by decide)
          rw [← hs1012] at Fs1012
          have vs1012 : iI s1012 15 = y1010 := by rw [hs1012]; exact iI_u ⟨by first | exact oq_fa4e5087 hy1010 | omega, by first | exact oq_f6d1716d ib1011 | omega⟩
          have ws1012_12 : iI s1012 12 = iI t 12 := by rw [hs1012]; rfl
          have ws1012_13 : iI s1012 13 = iI t 13 := by rw [hs1012]; rfl
          refine z_inc X (x := c) (lv' := [(4, .int (Int32.ofInt (c + 1))), (0, .ref (A 19))]) (show cdA 69 132 = some (.iinc 4 1, 3, 0, 0, 0) from rfl) (by decide) (List.Mem.tail _ (List.Mem.head _)) (fun _ h => h) ?_
          refine z_goto X (t := 80) (show cdA 69 135 = some (.goto (-55), 3, 0, 0, 0) from rfl) (by decide) ?_
          refine WS_lv (lv := [(0, .ref (A 19)), (4, .int (Int32.ofInt (c + 1)))]) (List.forall_mem_cons.mpr ⟨(List.Mem.tail _ (List.Mem.head _)), (List.forall_mem_cons.mpr ⟨(List.Mem.head _), (fun q h => absurd h List.not_mem_nil)⟩)⟩) ?_
          exact ih _ (c + 1) Is1012 Fs1012 (by first | exact ⟨oq_54f49eb5 hi.1, oq_228270fa g1005 b1004.2, oq_86ef0b17 ws1012_12 hi.2.2.1, oq_e4757433 ws1012_13 hi.2.2.2⟩ | omega) (by first | exact qk_me hm (by decide) (oq_b0a4f3e2 g1005 b1004.2) | omega) kx
        refine z_icmp_eq X (t := 123) (show cdA 69 108 = some (.if_icmp .eq 15, 3, 0, 0, 0) from rfl) (by decide) (rng_to _) (by decide) (fun g1013 => ?_) (fun g1013 => ?_)
        ·
          refine z_const X (show cdA 69 123 = some (.iconst 1, 1, 0, 0, 0) from rfl) ?_
          refine z_goto X (t := 128) (show cdA 69 124 = some (.goto 4, 3, 0, 0, 0) from rfl) (by decide) ?_
          exact N1008 _ (Or.inl ⟨g1013, rfl⟩)
        ·
          refine z_aload_n X (x := A 19) (show cdA 69 111 = some (.aload_n 0, 1, 0, 0, 0) from rfl) (List.Mem.head _) ?_
          refine s_getR X 19 (show cdA 69 112 = some (.getfield 11, 3, 7, 1, 0) from rfl) (by decide) rfl rfl ?_
          refine z_load X (x := c) (show cdA 69 115 = some (.iload 4, 2, 0, 0, 0) from rfl) (List.Mem.tail _ (List.Mem.head _)) ?_
          refine z_ald X 20 (show cdA 69 117 = some (.iaload, 1, 0, 0, 0) from rfl) (by decide) rfl (by first | exact hi.1 | omega) (show c < 200 by first | exact oq_6fca3d72 g1005 b1004.2 | omega) (by decide) ?_
          have b1014 : ((-2147483648) : Int) ≤ iC t 16 (c).toNat ∧ iC t 16 (c).toNat ≤ 2147483647 := I.2 16 _ (show (c).toNat < 200 by first | exact oq_b70289d5 g1005 b1004.2 | omega)
          refine z_bipush X (show cdA 69 118 = some (.bipush (-6), 2, 0, 0, (-6)) from rfl) ?_
          refine z_icmp_ne X (t := 127) (show cdA 69 120 = some (.if_icmp .ne 7, 3, 1, 0, 0) from rfl) (by decide) (rng_to _) (by decide) (fun g1015 => ?_) (fun g1015 => ?_)
          ·
            refine z_const X (show cdA 69 127 = some (.iconst 0, 1, 0, 0, 0) from rfl) ?_
            exact N1008 _ (Or.inr (Or.inl ⟨g1013, b1014, g1015, rfl⟩))
          ·
            refine z_const X (show cdA 69 123 = some (.iconst 1, 1, 0, 0, 0) from rfl) ?_
            refine z_goto X (t := 128) (show cdA 69 124 = some (.goto 4, 3, 0, 0, 0) from rfl) (by decide) ?_
            exact N1008 _ (Or.inr (Or.inr (⟨g1013, b1014, g1015, rfl⟩)))
  refine z_aload_n X (x := A 19) (show cdA 69 36 = some (.aload_n 0, 1, 0, 0, 0) from rfl) (List.Mem.head _) ?_
  refine z_load_n X (x := x) (show cdA 69 37 = some (.iload_n 1, 1, 0, 0, 0) from rfl) (List.Mem.tail _ (List.Mem.head _)) ?_
  refine s_putI X 19 (show cdA 69 38 = some (.putfield 60, 3, 7, 3, 0) from rfl) (by decide) rfl rfl (by decide) rfl rfl rfl ?_
  obtain ⟨s3, hs3⟩ : ∃ x0, x0 = uI s 12 (Int32.ofInt x) := ⟨_, rfl⟩
  rw [← hs3]
  have Is3 : Bd s3 := by rw [hs3]; exact bd_I I (show (0 : Int) ≤ x ∧ x ≤ 9 by first | exact ⟨p0.1, oq_12cf304a p0.2⟩ | omega) ⟨by first | exact oq_fa4e5087 p0.1 | omega, by first | exact oq_d3f5d874 p0.2 | omega⟩
  have Fs3 := fm_I (x := Int32.ofInt x) F (show 12 ∈ _ by decide)
  rw [← hs3] at Fs3
  have vs3 : iI s3 12 = x := by rw [hs3]; exact iI_u ⟨by first | exact oq_fa4e5087 p0.1 | omega, by first | exact oq_d3f5d874 p0.2 | omega⟩
  have ws3_13 : iI s3 13 = iI s 13 := by rw [hs3]; rfl
  refine z_aload_n X (x := A 19) (show cdA 69 41 = some (.aload_n 0, 1, 0, 0, 0) from rfl) (List.Mem.head _) ?_
  refine z_aload_n X (x := A 19) (show cdA 69 42 = some (.aload_n 0, 1, 0, 0, 0) from rfl) (List.Mem.head _) ?_
  refine z_getI X 19 (show cdA 69 43 = some (.getfield 38, 3, 7, 10, 0) from rfl) (by decide) rfl rfl ?_
  have b4 : ((-1) : Int) ≤ iI s3 17 ∧ iI s3 17 ≤ 7 := Is3.1 17
  refine s_putI X 19 (show cdA 69 46 = some (.putfield 18, 3, 7, 4, 0) from rfl) (by decide) rfl rfl (by decide) rfl rfl rfl ?_
  obtain ⟨s5, hs5⟩ : ∃ x0, x0 = uI s3 13 (Int32.ofInt (iI s3 17)) := ⟨_, rfl⟩
  rw [← hs5]
  have Is5 : Bd s5 := by rw [hs5]; exact bd_I Is3 (show ((-1) : Int) ≤ (iI s3 17) ∧ (iI s3 17) ≤ 7 by first | exact ⟨b4.1, b4.2⟩ | omega) (rng_to _)
  have Fs5 := fm_I (x := Int32.ofInt (iI s3 17)) Fs3 (show 13 ∈ _ by decide)
  rw [← hs5] at Fs5
  have vs5 : iI s5 13 = (iI s3 17) := by rw [hs5]; exact iI_u (rng_to _)
  have ws5_12 : iI s5 12 = iI s3 12 := by rw [hs5]; rfl
  refine z_aload_n X (x := A 19) (show cdA 69 49 = some (.aload_n 0, 1, 0, 0, 0) from rfl) (List.Mem.head _) ?_
  refine z_aload_n X (x := A 19) (show cdA 69 50 = some (.aload_n 0, 1, 0, 0, 0) from rfl) (List.Mem.head _) ?_
  refine z_getI X 19 (show cdA 69 51 = some (.getfield 41, 3, 7, 11, 0) from rfl) (by decide) rfl rfl ?_
  have b6 : ((-2147483648) : Int) ≤ iI s5 18 ∧ iI s5 18 ≤ 2147483647 := Is5.1 18
  refine s_putI X 19 (show cdA 69 54 = some (.putfield 63, 3, 7, 5, 0) from rfl) (by decide) rfl rfl (by decide) rfl rfl rfl ?_
  obtain ⟨s7, hs7⟩ : ∃ x0, x0 = uI s5 14 (Int32.ofInt (iI s5 18)) := ⟨_, rfl⟩
  rw [← hs7]
  have Is7 : Bd s7 := by rw [hs7]; exact bd_I Is5 (show ((-2147483648) : Int) ≤ (iI s5 18) ∧ (iI s5 18) ≤ 2147483647 by first | exact ⟨b6.1, b6.2⟩ | omega) (rng_to _)
  have Fs7 := fm_I (x := Int32.ofInt (iI s5 18)) Fs5 (show 14 ∈ _ by decide)
  rw [← hs7] at Fs7
  have vs7 : iI s7 14 = (iI s5 18) := by rw [hs7]; exact iI_u (rng_to _)
  have ws7_12 : iI s7 12 = iI s5 12 := by rw [hs7]; rfl
  have ws7_13 : iI s7 13 = iI s5 13 := by rw [hs7]; rfl
  refine z_aload_n X (x := A 19) (show cdA 69 57 = some (.aload_n 0, 1, 0, 0, 0) from rfl) (List.Mem.head _) ?_
  refine z_const X (show cdA 69 58 = some (.iconst 0, 1, 0, 0, 0) from rfl) ?_
  refine s_putI X 19 (show cdA 69 59 = some (.putfield 66, 3, 7, 6, 0) from rfl) (by decide) rfl rfl (by decide) (nar_ret (by omega)) (fit_z (by omega)) rfl ?_
  obtain ⟨s8, hs8⟩ : ∃ x0, x0 = uI s7 15 (Int32.ofInt 0) := ⟨_, rfl⟩
  rw [← hs8]
  have Is8 : Bd s8 := by rw [hs8]; exact bd_I Is7 (show (0 : Int) ≤ 0 ∧ 0 ≤ 1 by first | exact ⟨by decide, by decide⟩ | omega) (by decide)
  have Fs8 := fm_I (x := Int32.ofInt 0) Fs7 (show 15 ∈ _ by decide)
  rw [← hs8] at Fs8
  have vs8 : iI s8 15 = 0 := by rw [hs8]; exact iI_u (by decide)
  have ws8_12 : iI s8 12 = iI s7 12 := by rw [hs8]; rfl
  have ws8_13 : iI s8 13 = iI s7 13 := by rw [hs8]; rfl
  refine z_aload_n X (x := A 19) (show cdA 69 62 = some (.aload_n 0, 1, 0, 0, 0) from rfl) (List.Mem.head _) ?_
  refine z_getI X 19 (show cdA 69 63 = some (.getfield 18, 3, 7, 4, 0) from rfl) (by decide) rfl rfl ?_
  have b9 : ((-1) : Int) ≤ iI s8 13 ∧ iI s8 13 ≤ 7 := Is8.1 13
  refine z_const X (show cdA 69 66 = some (.iconst (-1), 1, 0, 0, 0) from rfl) ?_
  refine z_icmp_eq X (t := 138) (show cdA 69 67 = some (.if_icmp .eq 71, 3, 0, 0, 0) from rfl) (by decide) (rng_to _) (by decide) (fun g10 => ?_) (fun g10 => ?_)
  ·
    exact w_vret X.1 q hRt (ax_d X (show cdA 69 138 = some (.return_, 1, 0, 0, 0) from rfl)) (Nat.zero_le _) (Nat.zero_le _) (hK _ Is8 Fs8 (by omega))
  ·
    refine z_aload_n X (x := A 19) (show cdA 69 70 = some (.aload_n 0, 1, 0, 0, 0) from rfl) (List.Mem.head _) ?_
    refine z_aload_n X (x := A 19) (show cdA 69 71 = some (.aload_n 0, 1, 0, 0, 0) from rfl) (List.Mem.head _) ?_
    refine z_getI X 19 (show cdA 69 72 = some (.getfield 18, 3, 7, 4, 0) from rfl) (by decide) rfl rfl ?_
    have b11 : ((-1) : Int) ≤ iI s8 13 ∧ iI s8 13 ≤ 7 := Is8.1 13
    refine z_callV X 19 (rm := rmN 70) (As := [.int (Int32.ofInt (iI s8 13))]) (st := []) (show cdA 69 75 = some (.invokevirtual 70, 3, 70, 0, 0) from rfl) rfl (by decide) rfl (by rw [E.1, E.2.1, E.2.2.1]; exact c7_beginOf_19 G Is8 (by first | exact ⟨oq_5234833b b11.1 g10, b11.2⟩ | omega)) ⟨by rw [E.2.2.2]; exact (show (rmN 70).frames + 1 ≤ (rmN 69).frames by decide), by rw [E.2.2.2]; exact (show 8 + (mNL (miB 70) + 11) + (rmN 70).locals ≤ (rmN 69).locals by decide), by rw [E.2.2.2]; exact (show 0 + (rmN 70).cells ≤ (rmN 69).cells by decide), by rw [E.2.2.2]; exact (show 0 + (rmN 70).slots ≤ (rmN 69).slots by decide)⟩ (Nat.le_of_ble_eq_true rfl) (fun vv s12 hq => ?_) (fun ee s12 hq => ?_)
    rotate_left
    · obtain ⟨Is12, Fs12, e13, hv, hrs12, hps12⟩ := hq; cases hv
    obtain ⟨Is12, Fs12, e13, hv, hrs12, hps12⟩ := hq
    cases hv
    have Gs12 := fm_ts Fs8 Fs12 (by decide) (by decide)
    have ws12_12 : iI s12 12 = iI s8 12 := fm_i Fs12 (by decide)
    have ws12_13 : iI s12 13 = iI s8 13 := fm_i Fs12 (by decide)
    show WS k 78 [(0, .ref (A 19)), (1, .int (Int32.ofInt x))] [.int (Int32.ofInt e13)] (Wd A dT s12) 0 0
    refine z_store X (lv' := [(4, .int (Int32.ofInt e13)), (0, .ref (A 19)), (1, .int (Int32.ofInt x))]) (show cdA 69 78 = some (.istore 4, 2, 0, 0, 0) from rfl) (by decide) (fun _ h => h) ?_
    refine WS_lv (lv := [(0, .ref (A 19)), (4, .int (Int32.ofInt e13))]) (List.forall_mem_cons.mpr ⟨(List.Mem.tail _ (List.Mem.head _)), (List.forall_mem_cons.mpr ⟨(List.Mem.head _), (fun q h => absurd h List.not_mem_nil)⟩)⟩) ?_
    refine L80 ((200 - e13 : Int).toNat + 1) s12 e13 Is12 Gs12 (by first | exact ⟨hps12.1, hps12.2, oq_4e421259 ws12_12 ws8_12 ws7_12 ws5_12 vs3 p0.2, oq_211b57f4 ws12_13 b11.1 g10⟩ | omega) (Nat.lt_succ_self _) ?_
    intro s14 x15 Is14 Fs14 hs14
    have b16 : (0 : Int) ≤ iI s14 12 ∧ iI s14 12 ≤ 9 := Is14.1 12
    have b17 : ((-1) : Int) ≤ iI s14 13 ∧ iI s14 13 ≤ 7 := Is14.1 13
    exact w_vret X.1 q hRt (ax_d X (show cdA 69 138 = some (.return_, 1, 0, 0, 0) from rfl)) (Nat.zero_le _) (Nat.zero_le _) (hK _ Is14 Fs14 (by omega))
theorem c7_adopt (G : GX l s0 D tys a0 dT) (I : Bd s) {x : Int} (p0 : 0 ≤ x ∧ x ≤ 8) : CTX l s0 D A dT 69 (rmN 69) [.ref (A 19), .int (Int32.ofInt x)] s (fun o t => Bd t ∧ Fm [12, 13, 14, 15] [16, 17, 18, 19] s t ∧ o = .inl none ∧ (iI t 12 ≤ 8)) := by
  refine ctX_ofX G (by decide) (Nat.le_of_ble_eq_true rfl) (fun k X E ET hRt hXt q => ?_)
  show WS k 0 [(0, .ref (A 19)), (1, .int (Int32.ofInt x))] [] _ 0 0
  have hb : bsS 19 = .inr (7, [aR (some 1), aR (some 20), aR (some 21), aS 12, aS 13, aS 14, aS 15, aR (some 22), aR (some 23), aS 16, aS 17, aS 18, aS 19, aR (some 24)]) := rfl
  have he := Wd_get (A := A) (dT := dT) (s := s) (show 19 < 518 by decide)
  rw [hb] at he
  have hlen : 19 < (Wd A dT s).length := by rw [Wd_len]; omega
  refine w_aload_n X.1 (x := A 19) (ax_d X (show cdA 69 0 = some (.aload_n 0, 1, 0, 0, 0) from rfl)) (List.Mem.head _) ?_
  refine w_getR X (show cdA 69 1 = some (.getfield 11, 3, 7, 1, 0) from rfl) he (v := .ref (A 20)) rfl ?_
  refine w_astore_n X.1 (lv' := [(2, .ref (A 20)), (0, .ref (A 19)), (1, .int (Int32.ofInt x))]) (ax_d X (show cdA 69 4 = some (.astore_n 2, 1, 0, 0, 0) from rfl)) (by rw [X.2.1.2.2]; decide) (fun _ h => h) ?_
  refine w_aload_n X.1 (x := A 19) (ax_d X (show cdA 69 5 = some (.aload_n 0, 1, 0, 0, 0) from rfl)) (List.Mem.tail _ (List.Mem.head _)) ?_
  refine w_getR X (show cdA 69 6 = some (.getfield 15, 3, 7, 2, 0) from rfl) he (v := .ref (A 21)) rfl ?_
  refine w_astore_n X.1 (lv' := [(3, .ref (A 21)), (2, .ref (A 20)), (0, .ref (A 19)), (1, .int (Int32.ofInt x))]) (ax_d X (show cdA 69 9 = some (.astore_n 3, 1, 0, 0, 0) from rfl)) (by rw [X.2.1.2.2]; decide) (fun _ h => h) ?_
  refine w_aload_n X.1 (x := A 19) (ax_d X (show cdA 69 10 = some (.aload_n 0, 1, 0, 0, 0) from rfl)) (List.Mem.tail _ (List.Mem.tail _ (List.Mem.head _))) ?_
  refine w_aload_n X.1 (x := A 19) (ax_d X (show cdA 69 11 = some (.aload_n 0, 1, 0, 0, 0) from rfl)) (List.Mem.tail _ (List.Mem.tail _ (List.Mem.head _))) ?_
  refine w_getR X (show cdA 69 12 = some (.getfield 22, 3, 7, 7, 0) from rfl) he (v := .ref (A 22)) rfl ?_
  refine w_putR X (show cdA 69 15 = some (.putfield 11, 3, 7, 1, 0) from rfl) he (by decide) (by show _ < 14; decide) rfl rfl rfl ?_
  have he1 := List.getElem?_set_self (a := ((A 19, .inr (7, (List.map (cv (vS A s)) [aR (some 1), aR (some 20), aR (some 21), aS 12, aS 13, aS 14, aS 15, aR (some 22), aR (some 23), aS 16, aS 17, aS 18, aS 19, aR (some 24)]).set 1 (.ref (A 22)))) : Nat × va_E)) hlen
  refine w_aload_n X.1 (x := A 19) (ax_d X (show cdA 69 18 = some (.aload_n 0, 1, 0, 0, 0) from rfl)) (List.Mem.tail _ (List.Mem.tail _ (List.Mem.head _))) ?_
  refine w_aload_n X.1 (x := A 19) (ax_d X (show cdA 69 19 = some (.aload_n 0, 1, 0, 0, 0) from rfl)) (List.Mem.tail _ (List.Mem.tail _ (List.Mem.head _))) ?_
  refine w_getR X (show cdA 69 20 = some (.getfield 25, 3, 7, 8, 0) from rfl) he1 (v := .ref (A 23)) rfl ?_
  refine w_putR X (show cdA 69 23 = some (.putfield 15, 3, 7, 2, 0) from rfl) he1 (by decide) (by show _ < 14; decide) rfl rfl rfl ?_
  rw [List.set_set]
  have he2 := List.getElem?_set_self (a := ((A 19, .inr (7, ((List.map (cv (vS A s)) [aR (some 1), aR (some 20), aR (some 21), aS 12, aS 13, aS 14, aS 15, aR (some 22), aR (some 23), aS 16, aS 17, aS 18, aS 19, aR (some 24)]).set 1 (.ref (A 22))).set 2 (.ref (A 23)))) : Nat × va_E)) hlen
  refine w_aload_n X.1 (x := A 19) (ax_d X (show cdA 69 26 = some (.aload_n 0, 1, 0, 0, 0) from rfl)) (List.Mem.tail _ (List.Mem.tail _ (List.Mem.head _))) ?_
  refine w_aload_n X.1 (x := A 20) (ax_d X (show cdA 69 27 = some (.aload_n 2, 1, 0, 0, 0) from rfl)) (List.Mem.tail _ (List.Mem.head _)) ?_
  refine w_putR X (show cdA 69 28 = some (.putfield 22, 3, 7, 7, 0) from rfl) he2 (by decide) (by show _ < 14; decide) rfl rfl rfl ?_
  rw [List.set_set]
  have he3 := List.getElem?_set_self (a := ((A 19, .inr (7, (((List.map (cv (vS A s)) [aR (some 1), aR (some 20), aR (some 21), aS 12, aS 13, aS 14, aS 15, aR (some 22), aR (some 23), aS 16, aS 17, aS 18, aS 19, aR (some 24)]).set 1 (.ref (A 22))).set 2 (.ref (A 23))).set 7 (.ref (A 20)))) : Nat × va_E)) hlen
  refine w_aload_n X.1 (x := A 19) (ax_d X (show cdA 69 31 = some (.aload_n 0, 1, 0, 0, 0) from rfl)) (List.Mem.tail _ (List.Mem.tail _ (List.Mem.head _))) ?_
  refine w_aload_n X.1 (x := A 21) (ax_d X (show cdA 69 32 = some (.aload_n 3, 1, 0, 0, 0) from rfl)) (List.Mem.head _) ?_
  refine w_putR X (show cdA 69 33 = some (.putfield 25, 3, 7, 8, 0) from rfl) he3 (by decide) (by show _ < 14; decide) rfl rfl rfl ?_
  rw [List.set_set]
  have hsw : ∀ j, (Wd (fun c => A (sw c)) dT (pSw s))[j]? = ((Wd A dT s).set 19 (A 19, .inr (7, ((((List.map (cv (vS A s)) [aR (some 1), aR (some 20), aR (some 21), aS 12, aS 13, aS 14, aS 15, aR (some 22), aR (some 23), aS 16, aS 17, aS 18, aS 19, aR (some 24)]).set 1 (.ref (A 22))).set 2 (.ref (A 23))).set 7 (.ref (A 20))).set 8 (.ref (A 21)))))[sw j]? := fun j => by
    rw [Wd_sw j, hb]
    rfl
  refine WS_perm hsw ?_
  refine WS_lv (lv := [(0, .ref (A 19)), (1, .int (Int32.ofInt x))]) (List.forall_mem_cons.mpr ⟨(List.Mem.tail _ (List.Mem.tail _ (List.Mem.head _))), List.forall_mem_cons.mpr ⟨(List.Mem.tail _ (List.Mem.tail _ (List.Mem.tail _ (List.Mem.head _)))), fun q h => absurd h List.not_mem_nil⟩⟩) ?_
  exact c7_adopt36 (A := fun c => A (sw c)) G (bd_sw I) p0 X E hRt q (fun t It Ft ht => ⟨fun c => A (sw c), t, swA_sw A, rfl, It, fm_ts (fm_ts (fm_rf _ _ _) fm_sw (by decide) (by decide)) Ft (by decide) (by decide), rfl, ht⟩)
set_option maxRecDepth 4000 in
theorem c7_read (G : GX l s0 D tys a0 dT) (SF : SF0 s0) (GT : TXs0 s0) (I : Bd s) (p0 : iI s 2 ≤ iI s 1) (p1 : iI s 4 ≤ iI s 2) (p2 : iI s 12 ≤ 8) : CTX l s0 D A dT 68 (rmN 68) [.ref (A 19)] s (fun o t => Bd t ∧ Fm [2, 4, 6, 5, 7, 8, 19, 16, 17, 18, 12, 13, 14, 15] [16, 17, 18, 19] s t ∧ ∃ e, o = .inl (some (.int (Int32.ofInt e))) ∧ rng e ∧ ((e = 0 ∨ e = 1) ∧ iI t 12 ≤ 8)) := by
  refine ctX_ofX G (by decide) (Nat.le_of_ble_eq_true rfl) (fun k X E ET hRt hXt q => ?_)
  show WS k 0 [(0, .ref (A 19))] [] _ 0 0
  have F : Fm [2, 4, 6, 5, 7, 8, 19, 16, 17, 18, 12, 13, 14, 15] [16, 17, 18, 19] s s := fm_rf _ _ s
  have hA := swA_rf A
  have b1 : (0 : Int) ≤ iI s 2 ∧ iI s 2 ≤ 200 := I.1 2
  have b2 : (0 : Int) ≤ iI s 1 ∧ iI s 1 ≤ 200 := I.1 1
  have b3 : (0 : Int) ≤ iI s 4 ∧ iI s 4 ≤ 200 := I.1 4
  have b4 : ((-3) : Int) ≤ iI s 5 ∧ iI s 5 ≤ 255 := I.1 5
  have b5 : (0 : Int) ≤ iI s 6 ∧ iI s 6 ≤ 100000 := I.1 6
  have b6 : (0 : Int) ≤ iI s 19 ∧ iI s 19 ≤ 6 := I.1 19
  have b7 : (0 : Int) ≤ iI s 16 ∧ iI s 16 ≤ 200 := I.1 16
  have b8 : (0 : Int) ≤ iI s 12 ∧ iI s 12 ≤ 9 := I.1 12
  have L22 : ∀ (n : Nat) (t : PS) (c : Int), Bd t → Fm [2, 4, 6, 5, 7, 8, 19, 16, 17, 18, 12, 13, 14, 15] [16, 17, 18, 19] s t → (0 ≤ c ∧ c ≤ 9 ∧ iI t 12 ≤ 8 ∧ iI t 2 ≤ iI t 1 ∧ iI t 4 ≤ iI t 2) → (9 - c : Int).toNat < n → (∀ (t' : PS) (c' : Int), Bd t' → Fm [2, 4, 6, 5, 7, 8, 19, 16, 17, 18, 12, 13, 14, 15] [16, 17, 18, 19] s t' → (0 ≤ c' ∧ c' ≤ 9 ∧ iI t' 12 ≤ 8 ∧ iI t' 2 ≤ iI t' 1 ∧ iI t' 4 ≤ iI t' 2) → WS k 62 [(0, .ref (A 19)), (1, .int (Int32.ofInt c'))] [] (Wd A dT t') 0 0) → WS k 22 [(0, .ref (A 19)), (1, .int (Int32.ofInt c))] [] (Wd A dT t) 0 0 := by
    intro n
    induction n with
    | zero =>
      intro t c I F hi hm kx
      exact absurd hm (Nat.not_lt_zero _)
    | succ n ih =>
      intro t c I F hi hm kx
      have b1001 : (0 : Int) ≤ iI t 2 ∧ iI t 2 ≤ 200 := I.1 2
      have b1002 : (0 : Int) ≤ iI t 1 ∧ iI t 1 ≤ 200 := I.1 1
      have b1003 : (0 : Int) ≤ iI t 4 ∧ iI t 4 ≤ 200 := I.1 4
      have b1004 : ((-3) : Int) ≤ iI t 5 ∧ iI t 5 ≤ 255 := I.1 5
      have b1005 : (0 : Int) ≤ iI t 6 ∧ iI t 6 ≤ 100000 := I.1 6
      have b1006 : (0 : Int) ≤ iI t 19 ∧ iI t 19 ≤ 6 := I.1 19
      have b1007 : (0 : Int) ≤ iI t 16 ∧ iI t 16 ≤ 200 := I.1 16
      have b1008 : (0 : Int) ≤ iI t 12 ∧ iI t 12 ≤ 9 := I.1 12
      refine z_load_n X (x := c) (show cdA 68 22 = some (.iload_n 1, 1, 0, 0, 0) from rfl) (List.Mem.tail _ (List.Mem.head _)) ?_
      refine z_bipush X (show cdA 68 23 = some (.bipush 8, 2, 0, 0, 8) from rfl) ?_
      refine z_icmp_gt X (t := 62) (show cdA 68 25 = some (.if_icmp .gt 37, 3, 4, 0, 0) from rfl) (by decide) ⟨by first | exact oq_fa4e5087 hi.1 | omega, by first | exact oq_f7e7bb0e hi.2.1 | omega⟩ (by decide) (fun g1009 => ?_) (fun g1009 => ?_)
      ·
        refine WS_lv (lv := [(0, .ref (A 19)), (1, .int (Int32.ofInt c))]) (List.forall_mem_cons.mpr ⟨(List.Mem.head _), (List.forall_mem_cons.mpr ⟨(List.Mem.tail _ (List.Mem.head _)), (fun q h => absurd h List.not_mem_nil)⟩)⟩) ?_
        exact kx _ c I F (by first | exact ⟨hi.1, hi.2.1, hi.2.2.1, hi.2.2.2.1, hi.2.2.2.2⟩ | omega)
      ·
        refine z_aload_n X (x := A 19) (show cdA 68 28 = some (.aload_n 0, 1, 0, 0, 0) from rfl) (List.Mem.head _) ?_
        refine s_getR X 19 (show cdA 68 29 = some (.getfield 31, 3, 7, 0, 0) from rfl) (by decide) rfl rfl ?_
        refine z_getI X 1 (show cdA 68 32 = some (.getfield 47, 3, 10, 6, 0) from rfl) (by decide) rfl rfl ?_
        have b1010 : ((-3) : Int) ≤ iI t 5 ∧ iI t 5 ≤ 255 := I.1 5
        refine z_const X (show cdA 68 35 = some (.iconst (-1), 1, 0, 0, 0) from rfl) ?_
        refine z_icmp_ne X (t := 46) (show cdA 68 36 = some (.if_icmp .ne 10, 3, 1, 0, 0) from rfl) (by decide) (rng_to _) (by decide) (fun g1011 => ?_) (fun g1011 => ?_)
        ·
          refine z_aload_n X (x := A 19) (show cdA 68 46 = some (.aload_n 0, 1, 0, 0, 0) from rfl) (List.Mem.head _) ?_
          refine z_load_n X (x := c) (show cdA 68 47 = some (.iload_n 1, 1, 0, 0, 0) from rfl) (List.Mem.tail _ (List.Mem.head _)) ?_
          refine z_callV X 19 (rm := rmN 71) (As := [.int (Int32.ofInt c)]) (st := []) (show cdA 68 48 = some (.invokevirtual 56, 3, 71, 0, 0) from rfl) rfl (by decide) rfl (by rw [E.1, E.2.1, E.2.2.1]; exact c7_readClause_19 G SF GT I (by first | exact ⟨hi.1, g1009⟩ | omega) (by first | exact hi.2.2.2.1 | omega) (by first | exact hi.2.2.2.2 | omega)) ⟨by rw [E.2.2.2]; exact (show (rmN 71).frames + 1 ≤ (rmN 68).frames by decide), by rw [E.2.2.2]; exact (show 8 + (mNL (miB 71) + 11) + (rmN 71).locals ≤ (rmN 68).locals by decide), by rw [E.2.2.2]; exact (show 0 + (rmN 71).cells ≤ (rmN 68).cells by decide), by rw [E.2.2.2]; exact (show 0 + (rmN 71).slots ≤ (rmN 68).slots by decide)⟩ (Nat.le_of_ble_eq_true rfl) (fun vv s1012 hq => ?_) (fun ee s1012 hq => ?_)
          rotate_left
          · obtain ⟨Is1012, Fs1012, e1013, hv, hrs1012, hps1012⟩ := hq; cases hv
          obtain ⟨Is1012, Fs1012, e1013, hv, hrs1012, hps1012⟩ := hq
          cases hv
          have Gs1012 := fm_ts F Fs1012 (by decide) (by decide)
          have b1014 : (0 : Int) ≤ iI s1012 2 ∧ iI s1012 2 ≤ 200 := Is1012.1 2
          have ws1012_1 : iI s1012 1 = iI t 1 := fm_i Fs1012 (by decide)
          have b1015 : (0 : Int) ≤ iI s1012 4 ∧ iI s1012 4 ≤ 200 := Is1012.1 4
          have b1016 : ((-3) : Int) ≤ iI s1012 5 ∧ iI s1012 5 ≤ 255 := Is1012.1 5
          have b1017 : (0 : Int) ≤ iI s1012 6 ∧ iI s1012 6 ≤ 100000 := Is1012.1 6
          have b1018 : (0 : Int) ≤ iI s1012 19 ∧ iI s1012 19 ≤ 6 := Is1012.1 19
          have b1019 : (0 : Int) ≤ iI s1012 16 ∧ iI s1012 16 ≤ 200 := Is1012.1 16
          have ws1012_12 : iI s1012 12 = iI t 12 := fm_i Fs1012 (by decide)
          show WS k 51 [(0, .ref (A 19)), (1, .int (Int32.ofInt c))] [.int (Int32.ofInt e1013)] (Wd A dT s1012) 0 0
          refine z_if_ne X (t := 56) (show cdA 68 51 = some (.ifCond .ne 5, 3, 1, 0, 0) from rfl) (by decide) hrs1012 (fun g1020 => ?_) (fun g1020 => ?_)
          ·
            refine z_inc X (x := c) (lv' := [(1, .int (Int32.ofInt (c + 1))), (0, .ref (A 19))]) (show cdA 68 56 = some (.iinc 1 1, 3, 0, 0, 0) from rfl) (by decide) (List.Mem.tail _ (List.Mem.head _)) (fun _ h => h) ?_
            refine z_goto X (t := 22) (show cdA 68 59 = some (.goto (-37), 3, 0, 0, 0) from rfl) (by decide) ?_
            refine WS_lv (lv := [(0, .ref (A 19)), (1, .int (Int32.ofInt (c + 1)))]) (List.forall_mem_cons.mpr ⟨(List.Mem.tail _ (List.Mem.head _)), (List.forall_mem_cons.mpr ⟨(List.Mem.head _), (fun q h => absurd h List.not_mem_nil)⟩)⟩) ?_
            exact ih _ (c + 1) Is1012 Gs1012 (by first | exact ⟨oq_54f49eb5 hi.1, oq_c5edd56f g1009, oq_86ef0b17 ws1012_12 hi.2.2.1, hps1012.2.1, hps1012.2.2⟩ | omega) (by first | exact qk_me hm (by decide) (oq_fa1cb672 g1009) | omega) kx
          ·
            refine z_const X (show cdA 68 54 = some (.iconst 0, 1, 0, 0, 0) from rfl) ?_
            exact w_iret X.1 q hRt (nar_ret (by first | exact Or.inl (by decide) | omega)) (ax_d X (show cdA 68 55 = some (.ireturn, 1, 0, 0, 0) from rfl)) (Nat.zero_le _) (Nat.zero_le _) ⟨A, _, hA, rfl, Is1012, Gs1012, 0, rfl, (by decide), by first | exact ⟨Or.inl (by decide), oq_86ef0b17 ws1012_12 hi.2.2.1⟩ | omega⟩
        ·
          refine z_aload_n X (x := A 19) (show cdA 68 39 = some (.aload_n 0, 1, 0, 0, 0) from rfl) (List.Mem.head _) ?_
          refine z_load_n X (x := c) (show cdA 68 40 = some (.iload_n 1, 1, 0, 0, 0) from rfl) (List.Mem.tail _ (List.Mem.head _)) ?_
          refine z_callVX X 19 (rm := rmN 69) (As := [.int (Int32.ofInt c)]) (st := []) (show cdA 68 41 = some (.invokevirtual 52, 3, 69, 0, 0) from rfl) rfl (by decide) rfl (by rw [E.1, E.2.1, E.2.2.1]; exact c7_adopt G I (by omega) ) ⟨by rw [E.2.2.2]; exact (show (rmN 69).frames + 1 ≤ (rmN 68).frames by decide), by rw [E.2.2.2]; exact (show 8 + (mNL (miB 69) + 11) + (rmN 69).locals ≤ (rmN 68).locals by decide), by rw [E.2.2.2]; exact (show 0 + (rmN 69).cells ≤ (rmN 68).cells by decide), by rw [E.2.2.2]; exact (show 0 + (rmN 69).slots ≤ (rmN 68).slots by decide)⟩ (Nat.le_of_ble_eq_true rfl) (fun vv A s1021 hA2 hq => ?_) (fun ee A s1021 hA2 hq => ?_)
          rotate_left
          · obtain ⟨Is1021, Fs1021, hv, hps1021⟩ := hq; cases hv
          obtain ⟨Is1021, Fs1021, hv, hps1021⟩ := hq
          cases hv
          replace hA := swA_ts hA hA2
          rw [← hA2 19 (by decide)]
          have Gs1021 := fm_ts F Fs1021 (by decide) (by decide)
          have ws1021_2 : iI s1021 2 = iI t 2 := fm_i Fs1021 (by decide)
          have ws1021_1 : iI s1021 1 = iI t 1 := fm_i Fs1021 (by decide)
          have ws1021_4 : iI s1021 4 = iI t 4 := fm_i Fs1021 (by decide)
          have ws1021_5 : iI s1021 5 = iI t 5 := fm_i Fs1021 (by decide)
          have ws1021_6 : iI s1021 6 = iI t 6 := fm_i Fs1021 (by decide)
          have ws1021_19 : iI s1021 19 = iI t 19 := fm_i Fs1021 (by decide)
          have ws1021_16 : iI s1021 16 = iI t 16 := fm_i Fs1021 (by decide)
          have b1023 : (0 : Int) ≤ iI s1021 12 ∧ iI s1021 12 ≤ 9 := Is1021.1 12
          show WS k 44 [(0, .ref (A 19)), (1, .int (Int32.ofInt c))] [] (Wd A dT s1021) 0 0
          refine z_const X (show cdA 68 44 = some (.iconst 1, 1, 0, 0, 0) from rfl) ?_
          exact w_iret X.1 q hRt (nar_ret (by first | exact Or.inr (by decide) | omega)) (ax_d X (show cdA 68 45 = some (.ireturn, 1, 0, 0, 0) from rfl)) (Nat.zero_le _) (Nat.zero_le _) ⟨A, _, hA, rfl, Is1021, Gs1021, 1, rfl, (by decide), by first | exact ⟨Or.inr (by decide), by omega⟩ | omega⟩
  refine z_aload_n X (x := A 19) (show cdA 68 0 = some (.aload_n 0, 1, 0, 0, 0) from rfl) (List.Mem.head _) ?_
  refine z_const X (show cdA 68 1 = some (.iconst 0, 1, 0, 0, 0) from rfl) ?_
  refine s_putI X 19 (show cdA 68 2 = some (.putfield 35, 3, 7, 9, 0) from rfl) (by decide) rfl rfl (by decide) rfl rfl rfl ?_
  obtain ⟨s9, hs9⟩ : ∃ x0, x0 = uI s 16 (Int32.ofInt 0) := ⟨_, rfl⟩
  rw [← hs9]
  have Is9 : Bd s9 := by rw [hs9]; exact bd_I I (show (0 : Int) ≤ 0 ∧ 0 ≤ 200 by first | exact ⟨by decide, by decide⟩ | omega) (by decide)
  have Fs9 := fm_I (x := Int32.ofInt 0) F (show 16 ∈ _ by decide)
  rw [← hs9] at Fs9
  have vs9 : iI s9 16 = 0 := by rw [hs9]; exact iI_u (by decide)
  have ws9_2 : iI s9 2 = iI s 2 := by rw [hs9]; rfl
  have ws9_1 : iI s9 1 = iI s 1 := by rw [hs9]; rfl
  have ws9_4 : iI s9 4 = iI s 4 := by rw [hs9]; rfl
  have ws9_5 : iI s9 5 = iI s 5 := by rw [hs9]; rfl
  have ws9_6 : iI s9 6 = iI s 6 := by rw [hs9]; rfl
  have ws9_19 : iI s9 19 = iI s 19 := by rw [hs9]; rfl
  have ws9_12 : iI s9 12 = iI s 12 := by rw [hs9]; rfl
  refine z_aload_n X (x := A 19) (show cdA 68 5 = some (.aload_n 0, 1, 0, 0, 0) from rfl) (List.Mem.head _) ?_
  refine z_const X (show cdA 68 6 = some (.iconst (-1), 1, 0, 0, 0) from rfl) ?_
  refine s_putI X 19 (show cdA 68 7 = some (.putfield 38, 3, 7, 10, 0) from rfl) (by decide) rfl rfl (by decide) rfl rfl rfl ?_
  obtain ⟨s10, hs10⟩ : ∃ x0, x0 = uI s9 17 (Int32.ofInt (-1)) := ⟨_, rfl⟩
  rw [← hs10]
  have Is10 : Bd s10 := by rw [hs10]; exact bd_I Is9 (show ((-1) : Int) ≤ (-1) ∧ (-1) ≤ 7 by first | exact ⟨by decide, by decide⟩ | omega) (by decide)
  have Fs10 := fm_I (x := Int32.ofInt (-1)) Fs9 (show 17 ∈ _ by decide)
  rw [← hs10] at Fs10
  have vs10 : iI s10 17 = (-1) := by rw [hs10]; exact iI_u (by decide)
  have ws10_2 : iI s10 2 = iI s9 2 := by rw [hs10]; rfl
  have ws10_1 : iI s10 1 = iI s9 1 := by rw [hs10]; rfl
  have ws10_4 : iI s10 4 = iI s9 4 := by rw [hs10]; rfl
  have ws10_5 : iI s10 5 = iI s9 5 := by rw [hs10]; rfl
  have ws10_6 : iI s10 6 = iI s9 6 := by rw [hs10]; rfl
  have ws10_19 : iI s10 19 = iI s9 19 := by rw [hs10]; rfl
  have ws10_16 : iI s10 16 = iI s9 16 := by rw [hs10]; rfl
  have ws10_12 : iI s10 12 = iI s9 12 := by rw [hs10]; rfl
  refine z_aload_n X (x := A 19) (show cdA 68 10 = some (.aload_n 0, 1, 0, 0, 0) from rfl) (List.Mem.head _) ?_
  refine z_const X (show cdA 68 11 = some (.iconst 0, 1, 0, 0, 0) from rfl) ?_
  refine s_putI X 19 (show cdA 68 12 = some (.putfield 41, 3, 7, 11, 0) from rfl) (by decide) rfl rfl (by decide) rfl rfl rfl ?_
  obtain ⟨s11, hs11⟩ : ∃ x0, x0 = uI s10 18 (Int32.ofInt 0) := ⟨_, rfl⟩
  rw [← hs11]
  have Is11 : Bd s11 := by rw [hs11]; exact bd_I Is10 (show ((-2147483648) : Int) ≤ 0 ∧ 0 ≤ 2147483647 by first | exact ⟨by decide, by decide⟩ | omega) (by decide)
  have Fs11 := fm_I (x := Int32.ofInt 0) Fs10 (show 18 ∈ _ by decide)
  rw [← hs11] at Fs11
  have vs11 : iI s11 18 = 0 := by rw [hs11]; exact iI_u (by decide)
  have ws11_2 : iI s11 2 = iI s10 2 := by rw [hs11]; rfl
  have ws11_1 : iI s11 1 = iI s10 1 := by rw [hs11]; rfl
  have ws11_4 : iI s11 4 = iI s10 4 := by rw [hs11]; rfl
  have ws11_5 : iI s11 5 = iI s10 5 := by rw [hs11]; rfl
  have ws11_6 : iI s11 6 = iI s10 6 := by rw [hs11]; rfl
  have ws11_19 : iI s11 19 = iI s10 19 := by rw [hs11]; rfl
  have ws11_16 : iI s11 16 = iI s10 16 := by rw [hs11]; rfl
  have ws11_12 : iI s11 12 = iI s10 12 := by rw [hs11]; rfl
  refine z_aload_n X (x := A 19) (show cdA 68 15 = some (.aload_n 0, 1, 0, 0, 0) from rfl) (List.Mem.head _) ?_
  refine z_const X (show cdA 68 16 = some (.iconst 0, 1, 0, 0, 0) from rfl) ?_
  refine s_putI X 19 (show cdA 68 17 = some (.putfield 44, 3, 7, 12, 0) from rfl) (by decide) rfl rfl (by decide) rfl rfl rfl ?_
  obtain ⟨s12, hs12⟩ : ∃ x0, x0 = uI s11 19 (Int32.ofInt 0) := ⟨_, rfl⟩
  rw [← hs12]
  have Is12 : Bd s12 := by rw [hs12]; exact bd_I Is11 (show (0 : Int) ≤ 0 ∧ 0 ≤ 6 by first | exact ⟨by decide, by decide⟩ | omega) (by decide)
  have Fs12 := fm_I (x := Int32.ofInt 0) Fs11 (show 19 ∈ _ by decide)
  rw [← hs12] at Fs12
  have vs12 : iI s12 19 = 0 := by rw [hs12]; exact iI_u (by decide)
  have ws12_2 : iI s12 2 = iI s11 2 := by rw [hs12]; rfl
  have ws12_1 : iI s12 1 = iI s11 1 := by rw [hs12]; rfl
  have ws12_4 : iI s12 4 = iI s11 4 := by rw [hs12]; rfl
  have ws12_5 : iI s12 5 = iI s11 5 := by rw [hs12]; rfl
  have ws12_6 : iI s12 6 = iI s11 6 := by rw [hs12]; rfl
  have ws12_16 : iI s12 16 = iI s11 16 := by rw [hs12]; rfl
  have ws12_12 : iI s12 12 = iI s11 12 := by rw [hs12]; rfl
  refine z_const X (show cdA 68 20 = some (.iconst 0, 1, 0, 0, 0) from rfl) ?_
  refine z_store_n X (lv' := [(1, .int (Int32.ofInt 0)), (0, .ref (A 19))]) (show cdA 68 21 = some (.istore_n 1, 1, 0, 0, 0) from rfl) (by decide) (fun _ h => h) ?_
  refine WS_lv (lv := [(0, .ref (A 19)), (1, .int (Int32.ofInt 0))]) (List.forall_mem_cons.mpr ⟨(List.Mem.tail _ (List.Mem.head _)), (List.forall_mem_cons.mpr ⟨(List.Mem.head _), (fun q h => absurd h List.not_mem_nil)⟩)⟩) ?_
  refine L22 ((9 - 0 : Int).toNat + 1) s12 0 Is12 Fs12 (by first | exact ⟨by decide, by decide, oq_85681322 ws12_12 ws11_12 ws10_12 ws9_12 p2, oq_25674cec ws12_1 ws12_2 ws11_1 ws11_2 ws10_1 ws10_2 ws9_1 ws9_2 p0, oq_969cff60 ws12_4 ws12_2 ws11_4 ws11_2 ws10_4 ws10_2 ws9_4 ws9_2 p1⟩ | omega) (Nat.lt_succ_self _) ?_
  intro s13 x14 Is13 Fs13 hs13
  have b15 : (0 : Int) ≤ iI s13 2 ∧ iI s13 2 ≤ 200 := Is13.1 2
  have b16 : (0 : Int) ≤ iI s13 1 ∧ iI s13 1 ≤ 200 := Is13.1 1
  have b17 : (0 : Int) ≤ iI s13 4 ∧ iI s13 4 ≤ 200 := Is13.1 4
  have b18 : ((-3) : Int) ≤ iI s13 5 ∧ iI s13 5 ≤ 255 := Is13.1 5
  have b19 : (0 : Int) ≤ iI s13 6 ∧ iI s13 6 ≤ 100000 := Is13.1 6
  have b20 : (0 : Int) ≤ iI s13 19 ∧ iI s13 19 ≤ 6 := Is13.1 19
  have b21 : (0 : Int) ≤ iI s13 16 ∧ iI s13 16 ≤ 200 := Is13.1 16
  have b22 : (0 : Int) ≤ iI s13 12 ∧ iI s13 12 ≤ 9 := Is13.1 12
  refine z_const X (show cdA 68 62 = some (.iconst 0, 1, 0, 0, 0) from rfl) ?_
  exact w_iret X.1 q hRt (nar_ret (by first | exact Or.inl (by decide) | omega)) (ax_d X (show cdA 68 63 = some (.ireturn, 1, 0, 0, 0) from rfl)) (Nat.zero_le _) (Nat.zero_le _) ⟨A, _, hA, rfl, Is13, Fs13, 0, rfl, (by decide), by first | exact ⟨Or.inl (by decide), hs13.2.2.1⟩ | omega⟩
set_option maxRecDepth 4000 in
theorem cs_rules (G : GX l s0 D tys a0 dT) (SF : SF0 s0) (GT : TXs0 s0) (I : Bd s) {w : Int} (p0 : rng w) (p1 : iI s 12 ≤ 8) : CTX l s0 D A dT 137 (rmN 137) [.ref (A 0), .int (Int32.ofInt w)] s (fun o t => Bd t ∧ Fm [2, 4, 6, 5, 7, 8, 19, 16, 17, 18, 12, 13, 14, 15, 1, 3, 0] [16, 17, 18, 19] s t ∧ ((∃ e, o = .inl (some (.int (Int32.ofInt e))) ∧ rng e ∧ (iI t 0 = 0 ∧ 0 ≤ w ∧ w ≤ iI s 0 ∧ iI t 12 ≤ 8)) ∨ ∃ x : Nat, o = .inr (exN x) ∧ (x = 0 ∧ iI t 0 = iI s 0 ∧ iI t 12 ≤ 8 ∧ (w < 0 ∨ iI s 0 < w)))) := by
  refine ctX_ofX G (by decide) (Nat.le_of_ble_eq_true rfl) (fun k X E ET hRt hXt q => ?_)
  show WS k 0 [(0, .ref (A 0)), (1, .int (Int32.ofInt w))] [] _ 0 0
  have F : Fm [2, 4, 6, 5, 7, 8, 19, 16, 17, 18, 12, 13, 14, 15, 1, 3, 0] [16, 17, 18, 19] s s := fm_rf _ _ s
  have hA := swA_rf A
  have b1 : (0 : Int) ≤ iI s 0 ∧ iI s 0 ≤ 200 := I.1 0
  have b2 : (0 : Int) ≤ iI s 2 ∧ iI s 2 ≤ 200 := I.1 2
  have b3 : (0 : Int) ≤ iI s 1 ∧ iI s 1 ≤ 200 := I.1 1
  have b4 : (0 : Int) ≤ iI s 4 ∧ iI s 4 ≤ 200 := I.1 4
  have b5 : (0 : Int) ≤ iI s 12 ∧ iI s 12 ≤ 9 := I.1 12
  refine z_load_n X (x := w) (show cdA 137 0 = some (.iload_n 1, 1, 0, 0, 0) from rfl) (List.Mem.tail _ (List.Mem.head _)) ?_
  refine z_if_lt X (t := 15) (show cdA 137 1 = some (.ifCond .lt 14, 3, 2, 0, 0) from rfl) (by decide) ⟨by first | exact p0.1 | omega, by first | exact p0.2 | omega⟩ (fun g6 => ?_) (fun g6 => ?_)
  ·
    exact z_throw G X E ET hXt q (st := []) (show cdA 137 15 = some (.new 108, 3, 0, 1, 0) from rfl) (by decide) (by decide) (Nat.le_of_ble_eq_true rfl) (show 0 + 1 ≤ 1 by omega) (show 0 + 6 ≤ 6 by omega) (show 0 + 1 ≤ 1 by omega) (show 0 + 6 ≤ 6 by omega) ⟨A, _, hA, rfl, I, F, Or.inr ⟨0, rfl, by omega⟩⟩
  ·
    refine z_load_n X (x := w) (show cdA 137 4 = some (.iload_n 1, 1, 0, 0, 0) from rfl) (List.Mem.tail _ (List.Mem.head _)) ?_
    refine z_aload_n X (x := A 0) (show cdA 137 5 = some (.aload_n 0, 1, 0, 0, 0) from rfl) (List.Mem.head _) ?_
    refine s_getR X 0 (show cdA 137 6 = some (.getfield 10, 3, 11, 0, 0) from rfl) (by decide) rfl rfl ?_
    refine z_getI X 1 (show cdA 137 9 = some (.getfield 104, 3, 10, 1, 0) from rfl) (by decide) rfl rfl ?_
    have b7 : (0 : Int) ≤ iI s 0 ∧ iI s 0 ≤ 200 := I.1 0
    refine z_icmp_le X (t := 25) (show cdA 137 12 = some (.if_icmp .le 13, 3, 5, 0, 0) from rfl) (by decide) ⟨by first | exact p0.1 | omega, by first | exact p0.2 | omega⟩ (rng_to _) (fun g8 => ?_) (fun g8 => ?_)
    ·
      refine z_aload_n X (x := A 0) (show cdA 137 25 = some (.aload_n 0, 1, 0, 0, 0) from rfl) (List.Mem.head _) ?_
      refine s_getR X 0 (show cdA 137 26 = some (.getfield 10, 3, 11, 0, 0) from rfl) (by decide) rfl rfl ?_
      refine z_load_n X (x := w) (show cdA 137 29 = some (.iload_n 1, 1, 0, 0, 0) from rfl) (List.Mem.tail _ (List.Mem.head _)) ?_
      refine z_const X (show cdA 137 30 = some (.iconst 1, 1, 0, 0, 0) from rfl) ?_
      refine z_callV X 1 (rm := rmN 128) (As := [.int (Int32.ofInt w), .int (Int32.ofInt 1)]) (st := []) (show cdA 137 31 = some (.invokevirtual 115, 3, 128, 0, 0) from rfl) rfl (by decide) rfl (by rw [E.1, E.2.1, E.2.2.1]; exact c10_open_1 G I (by first | exact ⟨g6, oq_9a94ea72 g8 b7.2⟩ | omega) (by first | exact Or.inr (by decide) | omega)) ⟨by rw [E.2.2.2]; exact (show (rmN 128).frames + 1 ≤ (rmN 137).frames by decide), by rw [E.2.2.2]; exact (show 8 + (mNL (miB 128) + 11) + (rmN 128).locals ≤ (rmN 137).locals by decide), by rw [E.2.2.2]; exact (show 0 + (rmN 128).cells ≤ (rmN 137).cells by decide), by rw [E.2.2.2]; exact (show 0 + (rmN 128).slots ≤ (rmN 137).slots by decide)⟩ (Nat.le_of_ble_eq_true rfl) (fun vv s9 hq => ?_) (fun ee s9 hq => ?_)
      rotate_left
      · obtain ⟨Is9, Fs9, hv, hps9⟩ := hq; cases hv
      obtain ⟨Is9, Fs9, hv, hps9⟩ := hq
      cases hv
      have Gs9 := fm_ts F Fs9 (by decide) (by decide)
      have b11 : (0 : Int) ≤ iI s9 0 ∧ iI s9 0 ≤ 200 := Is9.1 0
      have b12 : (0 : Int) ≤ iI s9 2 ∧ iI s9 2 ≤ 200 := Is9.1 2
      have b13 : (0 : Int) ≤ iI s9 1 ∧ iI s9 1 ≤ 200 := Is9.1 1
      have b14 : (0 : Int) ≤ iI s9 4 ∧ iI s9 4 ≤ 200 := Is9.1 4
      have ws9_12 : iI s9 12 = iI s 12 := fm_i Fs9 (by decide)
      show WS k 34 [(0, .ref (A 0)), (1, .int (Int32.ofInt w))] [] (Wd A dT s9) 0 0
      refine z_aload_n X (x := A 0) (show cdA 137 34 = some (.aload_n 0, 1, 0, 0, 0) from rfl) (List.Mem.head _) ?_
      refine s_getR X 0 (show cdA 137 35 = some (.getfield 28, 3, 11, 2, 0) from rfl) (by decide) rfl rfl ?_
      refine z_callVX X 19 (rm := rmN 68) (As := []) (st := []) (show cdA 137 38 = some (.invokevirtual 130, 3, 68, 0, 0) from rfl) rfl (by decide) rfl (by rw [E.1, E.2.1, E.2.2.1]; exact c7_read G SF GT Is9 (by omega) (by omega) (by omega) ) ⟨by rw [E.2.2.2]; exact (show (rmN 68).frames + 1 ≤ (rmN 137).frames by decide), by rw [E.2.2.2]; exact (show 8 + (mNL (miB 68) + 11) + (rmN 68).locals ≤ (rmN 137).locals by decide), by rw [E.2.2.2]; exact (show 0 + (rmN 68).cells ≤ (rmN 137).cells by decide), by rw [E.2.2.2]; exact (show 0 + (rmN 68).slots ≤ (rmN 137).slots by decide)⟩ (Nat.le_of_ble_eq_true rfl) (fun vv A s15 hA2 hq => ?_) (fun ee A s15 hA2 hq => ?_)
      rotate_left
      · obtain ⟨Is15, Fs15, e16, hv, hrs15, hps15⟩ := hq; cases hv
      obtain ⟨Is15, Fs15, e16, hv, hrs15, hps15⟩ := hq
      cases hv
      replace hA := swA_ts hA hA2
      rw [← hA2 0 (by decide)]
      have Gs15 := fm_ts Gs9 Fs15 (by decide) (by decide)
      have ws15_0 : iI s15 0 = iI s9 0 := fm_i Fs15 (by decide)
      have b17 : (0 : Int) ≤ iI s15 2 ∧ iI s15 2 ≤ 200 := Is15.1 2
      have ws15_1 : iI s15 1 = iI s9 1 := fm_i Fs15 (by decide)
      have b18 : (0 : Int) ≤ iI s15 4 ∧ iI s15 4 ≤ 200 := Is15.1 4
      have b19 : (0 : Int) ≤ iI s15 12 ∧ iI s15 12 ≤ 9 := Is15.1 12
      show WS k 41 [(0, .ref (A 0)), (1, .int (Int32.ofInt w))] [.int (Int32.ofInt e16)] (Wd A dT s15) 0 0
      have N20 : ∀ e21 : Int, (((e16 = 0) ∧ ((0 : Int) ≤ iI s15 7 ∧ iI s15 7 ≤ 9) ∧ e21 = ((iI s15 7) - 10)) ∨ ((e16 ≠ 0) ∧ ((0 : Int) ≤ iI s15 12 ∧ iI s15 12 ≤ 9) ∧ e21 = (iI s15 12))) → WS k 64 [(0, .ref (A 0)), (1, .int (Int32.ofInt w))] [.int (Int32.ofInt e21)] (Wd A dT s15) 0 0 := by
        intro e21 he21
        exact w_iret X.1 q hRt rfl (ax_d X (show cdA 137 64 = some (.ireturn, 1, 0, 0, 0) from rfl)) (Nat.zero_le _) (Nat.zero_le _) ⟨A, _, hA, rfl, Is15, Gs15, Or.inl ⟨e21, rfl, ⟨by first | exact oq_8fdf5018 he21 b19.1 | omega, by first | exact oq_70026c09 he21 b19.2 | omega⟩, by first | exact ⟨oq_333640b7 ws15_0 hps9.1 b11.1, g6, g8, by omega⟩ | omega⟩⟩
      refine z_if_eq X (t := 54) (show cdA 137 41 = some (.ifCond .eq 13, 3, 0, 0, 0) from rfl) (by decide) ⟨by omega, by omega⟩ (fun g22 => ?_) (fun g22 => ?_)
      ·
        refine z_aload_n X (x := A 0) (show cdA 137 54 = some (.aload_n 0, 1, 0, 0, 0) from rfl) (List.Mem.head _) ?_
        refine s_getR X 0 (show cdA 137 55 = some (.getfield 10, 3, 11, 0, 0) from rfl) (by decide) rfl rfl ?_
        refine z_getI X 1 (show cdA 137 58 = some (.getfield 123, 3, 10, 8, 0) from rfl) (by decide) rfl rfl ?_
        have b23 : (0 : Int) ≤ iI s15 7 ∧ iI s15 7 ≤ 9 := Is15.1 7
        refine z_bipush X (show cdA 137 61 = some (.bipush 10, 2, 0, 0, 10) from rfl) ?_
        refine z_sub X (show cdA 137 63 = some (.isub, 1, 0, 0, 0) from rfl) ?_
        exact N20 _ (Or.inl ⟨g22, b23, rfl⟩)
      ·
        refine z_aload_n X (x := A 0) (show cdA 137 44 = some (.aload_n 0, 1, 0, 0, 0) from rfl) (List.Mem.head _) ?_
        refine s_getR X 0 (show cdA 137 45 = some (.getfield 28, 3, 11, 2, 0) from rfl) (by decide) rfl rfl ?_
        refine z_getI X 19 (show cdA 137 48 = some (.getfield 134, 3, 7, 3, 0) from rfl) (by decide) rfl rfl ?_
        have b24 : (0 : Int) ≤ iI s15 12 ∧ iI s15 12 ≤ 9 := Is15.1 12
        refine z_goto X (t := 64) (show cdA 137 51 = some (.goto 13, 3, 0, 0, 0) from rfl) (by decide) ?_
        exact N20 _ (Or.inr (⟨g22, b24, rfl⟩))
    ·
      exact z_throw G X E ET hXt q (st := []) (show cdA 137 15 = some (.new 108, 3, 0, 1, 0) from rfl) (by decide) (by decide) (Nat.le_of_ble_eq_true rfl) (show 0 + 1 ≤ 1 by omega) (show 0 + 6 ≤ 6 by omega) (show 0 + 1 ≤ 1 by omega) (show 0 + 6 ≤ 6 by omega) ⟨A, _, hA, rfl, I, F, Or.inr ⟨0, rfl, by omega⟩⟩
end M86
