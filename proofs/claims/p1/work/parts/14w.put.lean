/-! The class's put and putAll, walked by hand -/
theorem pt_tail {k : kx_T} {U : (Nat → Int32) → (Nat → Int64) → va_W} {qt qP qY bt aP aY N mc ms c : Nat} {ci cl : ClassId} {gs : List Value} {f : Nat → Int32} {g : Nat → Int64} {P : Int32} {bit m1 : Int64} {K : mb_O → va_W → Prop} {Cn : String} {T : u_T} {ty : Nat → FieldType}
    (C : kx_ok k) (e7 : kCc k = cX3_put) (eN : kN k = 7) (e9 : (kMe k).sig.returnType = some .int) (q : kx_end k K mc ms)
    (hc : cl_ok 3 N Cn T ty) (n0 : 0 < N) (l0 : Cond.fieldLink (kOwn k) 9 (T 0).1 (T 0).2.1 (T 0).2.2.1 ∈ gT) (hk1 : Cond.constantLong (kOwn k) 28 m1 ∈ gT)
    (ti : (kTy k)[0]? = some (ci, .int)) (tl : (kTy k)[1]? = some (cl, .long))
    (T1 : ∀ f g, (U f g)[qt]? = some (bt, .inr (3, gs))) (f0 : gs[0]? = some (.ref aP)) (T2 : ∀ f g, (U f g)[qP]? = some (aP, .inl (ci, 128, .inl f))) (T3 : ∀ f g, (U f g)[qY]? = some (aY, .inl (cl, 8, .inr (.inl g))))
    (T4 : ∀ f g f', (U f g).set qP (aP, .inl (ci, 128, .inl f')) = U f' g) (T5 : ∀ f g g', (U f g).set qY (aY, .inl (cl, 8, .inr (.inl g'))) = U f g')
    (hc1 : c < 128) (hP1 : -1 ≤ P.toInt) (hP2 : P.toInt ≤ 7) (hg : ∀ j, 8 ≤ j → g j = 0)
    (hgoal : ∀ g', (∀ j, 8 ≤ j → g' j = 0) → K (.inl (some (.int 0))) (U (upd f c P) g')) : WS k 34 [(6, .ref aY), (4, .long bit), (3, .int 0), (0, .ref bt), (1, .int (Int32.ofNat c)), (2, .int P)] [] (U f g) 0 0 := by
  have d : ∀ {pc : Nat} {q : Instr × Nat}, decode cX3_put pc = .ok q → decode (kCc k) pc = .ok q := fun h => by rw [e7]; exact h
  have i0 : vp_in (0 : Int32) 8 := on_in (a := 0) (by omega) (by omega)
  have e0 : (0 : Int32).toNatClampNeg = 0 := on_cl (a := 0) (by omega)
  have L64 : ∀ g', (∀ j, 8 ≤ j → g' j = 0) → WS k 64 [(6, .ref aY), (4, .long bit), (3, .int 0), (0, .ref bt), (1, .int (Int32.ofNat c)), (2, .int P)] [] (U f g') 0 0 := by
    intro g' hg'
    refine w_aload_n C (i := 0) (x := bt) (d (by decide +kernel)) (List.Mem.tail _ (List.Mem.tail _ (List.Mem.tail _ (List.Mem.head _)))) ?_
    refine w_get C qt hc (T1 _ _) n0 l0 f0 (d (by decide +kernel)) ?_
    refine w_iload_n C (i := 1) (x := Int32.ofNat c) (d (by decide +kernel)) (List.Mem.tail _ (List.Mem.tail _ (List.Mem.tail _ (List.Mem.tail _ (List.Mem.head _))))) ?_
    refine w_iload_n C (i := 2) (x := P) (d (by decide +kernel)) (List.Mem.tail _ (List.Mem.tail _ (List.Mem.tail _ (List.Mem.tail _ (List.Mem.tail _ (List.Mem.head _)))))) ?_
    refine w_iast C qP (T2 _ _) ti (on_in hc1 (by omega)) (d (by decide +kernel)) ?_
    rw [T4, on_cl (by omega)]
    refine w_iload_n C (i := 3) (x := 0) (d (by decide +kernel)) (List.Mem.tail _ (List.Mem.tail _ (List.Mem.head _))) ?_
    exact w_iret C q e9 rfl (d (by decide +kernel)) (Nat.zero_le _) (Nat.zero_le _) (hgoal _ hg')
  refine w_iload_n C (i := 3) (x := 0) (d (by decide +kernel)) (List.Mem.tail _ (List.Mem.tail _ (List.Mem.head _))) ?_
  refine w_if_lt C (off := 16) (t := 51) (d (by decide +kernel)) (by decide) (fun h1 => ?_) (fun h1 => ?_)
  ·
    exact absurd h1 (by decide)
  ·
    clear h1
    refine w_aload C (i := 6) (x := aY) (d (by decide +kernel)) (List.Mem.head _) ?_
    refine w_iload_n C (i := 3) (x := 0) (d (by decide +kernel)) (List.Mem.tail _ (List.Mem.tail _ (List.Mem.head _))) ?_
    refine w_dup2_11 C (d (by decide +kernel)) rfl rfl ?_
    refine w_lald C qY (T3 _ _) tl i0 (d (by decide +kernel)) ?_
    rw [e0]
    refine w_lload C (i := 4) (x := bit) (d (by decide +kernel)) (List.Mem.tail _ (List.Mem.head _)) ?_
    refine w_ldc2 C (z := m1) hk1 (d (by decide +kernel)) ?_
    refine w_lxor C (d (by decide +kernel)) ?_
    refine w_land C (d (by decide +kernel)) ?_
    refine w_last C qY (T3 _ _) tl i0 (d (by decide +kernel)) ?_
    rw [T5, e0]
    have hg1 : ∀ j, 8 ≤ j → vp_updL g 0 ((g 0) &&& (bit ^^^ m1)) j = 0 := fun j hj => by unfold vp_updL; rw [if_neg (by omega)]; exact hg j hj
    generalize vp_updL g 0 ((g 0) &&& (bit ^^^ m1)) = g1 at hg1 ⊢
    refine w_iload_n C (i := 2) (x := P) (d (by decide +kernel)) (List.Mem.tail _ (List.Mem.tail _ (List.Mem.tail _ (List.Mem.tail _ (List.Mem.tail _ (List.Mem.head _)))))) ?_
    refine w_if_lt C (off := 12) (t := 64) (d (by decide +kernel)) (by decide) (fun h1 => ?_) (fun h1 => ?_)
    ·
      exact L64 g1 hg1
    ·
      have hp : 0 ≤ P.toInt := by
        have := Int32.not_lt.mp h1
        exact Int32.le_iff_toInt_le.mp this
      have ep : P = Int32.ofNat P.toInt.toNat := by rw [← on_of hp, Int32.ofInt_toInt]
      have ip : vp_in P 8 := by rw [ep]; exact on_in (by omega) (by omega)
      have cp : P.toNatClampNeg = P.toInt.toNat := rfl
      refine w_aload C (i := 6) (x := aY) (d (by decide +kernel)) (List.Mem.head _) ?_
      refine w_iload_n C (i := 2) (x := P) (d (by decide +kernel)) (List.Mem.tail _ (List.Mem.tail _ (List.Mem.tail _ (List.Mem.tail _ (List.Mem.tail _ (List.Mem.head _)))))) ?_
      refine w_dup2_11 C (d (by decide +kernel)) rfl rfl ?_
      refine w_lald C qY (T3 _ _) tl ip (d (by decide +kernel)) ?_
      rw [cp]
      refine w_lload C (i := 4) (x := bit) (d (by decide +kernel)) (List.Mem.tail _ (List.Mem.head _)) ?_
      refine w_lor C (d (by decide +kernel)) ?_
      refine w_last C qY (T3 _ _) tl ip (d (by decide +kernel)) ?_
      rw [T5, cp]
      exact L64 _ (fun j hj => by unfold vp_updL; rw [if_neg (by omega)]; exact hg1 j hj)
theorem pt_body {k : kx_T} {Wd : (Nat → Int32) → (Nat → Int64) → (Nat → Int64) → va_W} {qt qP qL qH bt aP aL aH N mc ms c : Nat} {ci cl : ClassId} {gs : List Value} {f : Nat → Int32} {gL gH : Nat → Int64} {P : Int32} {m1 : Int64} {K : mb_O → va_W → Prop} {Cn : String} {T : u_T} {ty : Nat → FieldType}
    (C : kx_ok k) (e7 : kCc k = cX3_put) (eN : kN k = 7) (e9 : (kMe k).sig.returnType = some .int) (q : kx_end k K mc ms)
    (hc : cl_ok 3 N Cn T ty) (n0 : 0 < N) (n1 : 1 < N) (n2 : 2 < N) (l0 : Cond.fieldLink (kOwn k) 9 (T 0).1 (T 0).2.1 (T 0).2.2.1 ∈ gT) (l1 : Cond.fieldLink (kOwn k) 15 (T 1).1 (T 1).2.1 (T 1).2.2.1 ∈ gT) (l2 : Cond.fieldLink (kOwn k) 19 (T 2).1 (T 2).2.1 (T 2).2.2.1 ∈ gT) (hk1 : Cond.constantLong (kOwn k) 28 m1 ∈ gT)
    (ti : (kTy k)[0]? = some (ci, .int)) (tl : (kTy k)[1]? = some (cl, .long))
    (T1 : ∀ f g h, (Wd f g h)[qt]? = some (bt, .inr (3, gs))) (f0 : gs[0]? = some (.ref aP)) (f1 : gs[1]? = some (.ref aL)) (f2 : gs[2]? = some (.ref aH))
    (T2 : ∀ f g h, (Wd f g h)[qP]? = some (aP, .inl (ci, 128, .inl f))) (TL : ∀ f g h, (Wd f g h)[qL]? = some (aL, .inl (cl, 8, .inr (.inl g)))) (TH : ∀ f g h, (Wd f g h)[qH]? = some (aH, .inl (cl, 8, .inr (.inl h))))
    (T4 : ∀ f g h f', (Wd f g h).set qP (aP, .inl (ci, 128, .inl f')) = Wd f' g h) (T5 : ∀ f g h g', (Wd f g h).set qL (aL, .inl (cl, 8, .inr (.inl g'))) = Wd f g' h) (T6 : ∀ f g h g', (Wd f g h).set qH (aH, .inl (cl, 8, .inr (.inl g'))) = Wd f g g')
    (hc1 : c < 128) (hf : f c = 0) (hP1 : -1 ≤ P.toInt) (hP2 : P.toInt ≤ 7) (hL : ∀ j, 8 ≤ j → gL j = 0) (hH : ∀ j, 8 ≤ j → gH j = 0)
    (hgoal : ∀ g h, (∀ j, 8 ≤ j → g j = 0) → (∀ j, 8 ≤ j → h j = 0) → K (.inl (some (.int 0))) (Wd (upd f c P) g h)) : WS k 0 (lv_args 0 [.ref bt, .int (Int32.ofNat c), .int P]) [] (Wd f gL gH) 0 0 := by
  have d : ∀ {pc : Nat} {q : Instr × Nat}, decode cX3_put pc = .ok q → decode (kCc k) pc = .ok q := fun h => by rw [e7]; exact h
  have hf1 : f (Int32.ofNat c).toNatClampNeg = 0 := by rw [on_cl (by omega)]; exact hf
  show WS k 0 [(0, .ref bt), (1, .int (Int32.ofNat c)), (2, .int P)] [] (Wd f gL gH) 0 0
  refine w_aload_n C (i := 0) (x := bt) (d (by decide +kernel)) (List.Mem.head _) ?_
  refine w_get C qt hc (T1 _ _ _) n0 l0 f0 (d (by decide +kernel)) ?_
  refine w_iload_n C (i := 1) (x := Int32.ofNat c) (d (by decide +kernel)) (List.Mem.tail _ (List.Mem.head _)) ?_
  refine w_iald C qP (T2 _ _ _) ti (on_in hc1 (by omega)) (d (by decide +kernel)) ?_
  rw [hf1]
  refine w_istore_n C (i := 3) (lv' := [(3, .int 0), (0, .ref bt), (1, .int (Int32.ofNat c)), (2, .int P)]) (d (by decide +kernel)) (by rw [eN]; decide) (fun _ h => h) ?_
  refine w_lconst C (n := 1) (z := 1) (d (by decide +kernel)) (by decide) ?_
  refine w_iload_n C (i := 1) (x := Int32.ofNat c) (d (by decide +kernel)) (List.Mem.tail _ (List.Mem.tail _ (List.Mem.head _))) ?_
  refine w_bipush C (n := 63) (z := 63) (d (by decide +kernel)) (by decide) ?_
  refine w_iand C (d (by decide +kernel)) ?_
  refine w_lshl C (d (by decide +kernel)) ?_
  refine w_lstore C (i := 4) (lv' := [(4, .long ((1 : Int64) <<< (Int32.toInt64 ((Int32.ofNat c) &&& 63) &&& 63))), (3, .int 0), (0, .ref bt), (1, .int (Int32.ofNat c)), (2, .int P)]) (d (by decide +kernel)) (by rw [eN]; decide) (fun _ h => h) ?_
  refine w_iload_n C (i := 1) (x := Int32.ofNat c) (d (by decide +kernel)) (List.Mem.tail _ (List.Mem.tail _ (List.Mem.tail _ (List.Mem.head _)))) ?_
  refine w_bipush C (n := 64) (z := 64) (d (by decide +kernel)) (by decide) ?_
  refine w_icmp_ge C (off := 10) (t := 28) (d (by decide +kernel)) (by decide) (fun h1 => ?_) (fun h1 => ?_)
  ·
    refine w_aload_n C (i := 0) (x := bt) (d (by decide +kernel)) (List.Mem.tail _ (List.Mem.tail _ (List.Mem.head _))) ?_
    refine w_get C qt hc (T1 _ _ _) n2 l2 f2 (d (by decide +kernel)) ?_
    refine w_astore C (i := 6) (lv' := [(6, .ref aH), (4, .long ((1 : Int64) <<< (Int32.toInt64 ((Int32.ofNat c) &&& 63) &&& 63))), (3, .int 0), (0, .ref bt), (1, .int (Int32.ofNat c)), (2, .int P)]) (d (by decide +kernel)) (by rw [eN]; decide) (fun _ h => h) ?_
    exact pt_tail (U := fun f h => Wd f gL h) (qt := qt) (qP := qP) (qY := qH) (aP := aP) C e7 eN e9 q hc n0 l0 hk1 ti tl (fun _ _ => T1 _ _ _) f0 (fun _ _ => T2 _ _ _) (fun _ _ => TH _ _ _) (fun _ _ _ => T4 _ _ _ _) (fun _ _ _ => T6 _ _ _ _) hc1 hP1 hP2 hH (fun h hh => hgoal _ _ hL hh)
  ·
    refine w_aload_n C (i := 0) (x := bt) (d (by decide +kernel)) (List.Mem.tail _ (List.Mem.tail _ (List.Mem.head _))) ?_
    refine w_get C qt hc (T1 _ _ _) n1 l1 f1 (d (by decide +kernel)) ?_
    refine w_goto C (off := 7) (t := 32) (d (by decide +kernel)) (by decide) ?_
    refine w_astore C (i := 6) (lv' := [(6, .ref aL), (4, .long ((1 : Int64) <<< (Int32.toInt64 ((Int32.ofNat c) &&& 63) &&& 63))), (3, .int 0), (0, .ref bt), (1, .int (Int32.ofNat c)), (2, .int P)]) (d (by decide +kernel)) (by rw [eN]; decide) (fun _ h => h) ?_
    exact pt_tail (U := fun f g => Wd f g gH) (qt := qt) (qP := qP) (qY := qL) (aP := aP) C e7 eN e9 q hc n0 l0 hk1 ti tl (fun _ _ => T1 _ _ _) f0 (fun _ _ => T2 _ _ _) (fun _ _ => TL _ _ _) (fun _ _ _ => T4 _ _ _ _) (fun _ _ _ => T5 _ _ _ _) hc1 hP1 hP2 hL (fun g hg => hgoal _ _ hg hH)
theorem pa_body {k : kx_T} {Wd : (Nat → Int32) → (Nat → Int64) → (Nat → Int64) → va_W} {qt bt N mc ms A B : Nat} {gs : List Value} {f0 : Nat → Int32} {gL0 gH0 : Nat → Int64} {P : Int32} {K : mb_O → va_W → Prop} {T : u_T} {rm : Room} {mL : Nat}
    (C : kx_ok k) (e7 : kCc k = cX3_putAll) (eN : kN k = 7) (e9 : (kMe k).sig.returnType = some .int) (q : kx_end k K mc ms)
    (cb : cb_ok k 36 yX3_put cX3_put mL (some .int) rm 2) (hi : Cond.instanceMethod yX3_put ∈ gT) (hse : Cond.selects yX3_put.cls yX3_put yX3_put ∈ gT) (hvc : vwCl[3]? = some (yX3_put.cls, T, N)) (r1 : rm.cells = 0) (r2 : rm.slots = 0)
    (hM : ∀ c f g h, c < 128 → f c = 0 → (∀ j, 8 ≤ j → g j = 0) → (∀ j, 8 ≤ j → h j = 0) → MB (kL k) (kS0 k) (kD k) yX3_put (.code yX3_put cX3_put mL (some .int)) rm [.ref bt, .int (Int32.ofNat c), .int P] (Wd f g h) (fun o ws' => o = .inl (some (.int 0)) ∧ ∃ g' h', (∀ j, 8 ≤ j → g' j = 0) ∧ (∀ j, 8 ≤ j → h' j = 0) ∧ ws' = Wd (upd f c P) g' h'))
    (T1 : ∀ f g h, (Wd f g h)[qt]? = some (bt, .inr (3, gs)))
    (hA : A < 128) (hB : B < 128) (hv : pVal A B) (hf : ∀ j, f0 j = 0) (hL : ∀ j, 8 ≤ j → gL0 j = 0) (hH : ∀ j, 8 ≤ j → gH0 j = 0)
    (hgoal : ∀ f g h, (∀ j, 128 ≤ j → f j = 0) → (∀ j, 8 ≤ j → g j = 0) → (∀ j, 8 ≤ j → h j = 0) → K (.inl (some (.int (Int32.ofNat (pN A B (decide (P = 0))))))) (Wd f g h)) : WS k 0 (lv_args 0 [.ref bt, .int (Int32.ofNat A), .int (Int32.ofNat B), .int P]) [] (Wd f0 gL0 gH0) 0 0 := by
  have d : ∀ {pc : Nat} {q : Instr × Nat}, decode cX3_putAll pc = .ok q → decode (kCc k) pc = .ok q := fun h => by rw [e7]; exact h
  generalize hz : decide (P = 0) = zb at hgoal
  have hAB : A ≤ B := by obtain ⟨h1, h2, h3⟩ := hv; omega
  have qA : Int32.ofNat A &&& 7 = Int32.ofNat (A % 8) := (cq_ok hA).2.1
  have qB : Int32.ofNat B &&& 7 = Int32.ofNat (B % 8) := (cq_ok hB).2.1
  have hrf : 0 + rm.cells ≤ (kR k).cells ∧ 0 + rm.slots ≤ (kR k).slots := ⟨by rw [r1]; exact Nat.zero_le _, by rw [r2]; exact Nat.zero_le _⟩
  have L1 : ∀ r c, c + r = B + 1 → A ≤ c → ∀ f g h, (∀ j, c ≤ j → f j = 0) → (∀ j, 128 ≤ j → f j = 0) → (∀ j, 8 ≤ j → g j = 0) → (∀ j, 8 ≤ j → h j = 0) → WS k 6 [(0, .ref bt), (1, .int (Int32.ofNat A)), (2, .int (Int32.ofNat B)), (3, .int P), (4, .int (Int32.ofNat (bct (pC A B zb) c))), (5, .int (Int32.ofNat c))] [] (Wd f g h) 0 0 := by
    intro r
    induction r with
    | zero =>
      intro c hc1 hc2 f g h h1 h2 h3 h4
      replace hc1 : c = B + 1 := hc1
      refine w_iload C (i := 5) (x := Int32.ofNat c) (d (by decide +kernel)) (List.Mem.tail _ (List.Mem.tail _ (List.Mem.tail _ (List.Mem.tail _ (List.Mem.tail _ (List.Mem.head _)))))) ?_
      refine w_iload_n C (i := 2) (x := Int32.ofNat B) (d (by decide +kernel)) (List.Mem.tail _ (List.Mem.tail _ (List.Mem.head _))) ?_
      refine w_icmp_gt C (off := 59) (t := 68) (d (by decide +kernel)) (by decide) (fun e => ?_) (fun e => ?_)
      ·
        refine w_iload C (i := 4) (x := Int32.ofNat (bct (pC A B zb) c)) (d (by decide +kernel)) (List.Mem.tail _ (List.Mem.tail _ (List.Mem.tail _ (List.Mem.tail _ (List.Mem.head _))))) ?_
        rw [hc1, pC_end hA hB hv]
        exact w_iret C q e9 rfl (d (by decide +kernel)) (Nat.zero_le _) (Nat.zero_le _) (hgoal _ _ _ h2 h3 h4)
      ·
        exact absurd ((on_lt (by omega) (by omega)).mpr (by omega)) e
    | succ r ih =>
      intro c hc1 hc2 f g h h1 h2 h3 h4
      have hc3 : c < 128 := by omega
      have qc : Int32.ofNat c &&& 7 = Int32.ofNat (c % 8) := (cq_ok hc3).2.1
      have hs : bct (pC A B zb) (c + 1) = bct (pC A B zb) c + (bif pC A B zb c then 1 else 0) := rfl
      have hp : pC A B zb c = ((decide (A % 8 ≤ c % 8) && decide (c % 8 ≤ B % 8)) && !zb) := by unfold pC; rw [decide_eq_true hc2, decide_eq_true (show c ≤ B by omega)]; simp
      have skip : pC A B zb c = false → WS k 62 [(0, .ref bt), (1, .int (Int32.ofNat A)), (2, .int (Int32.ofNat B)), (3, .int P), (4, .int (Int32.ofNat (bct (pC A B zb) c))), (5, .int (Int32.ofNat c))] [] (Wd f g h) 0 0 := fun hq => by
        rw [hq] at hs
        replace hs : bct (pC A B zb) (c + 1) = bct (pC A B zb) c := hs
        refine w_iinc C (i := 5) (n := 1) (x := Int32.ofNat c) (lv' := [(5, .int (Int32.ofNat (c + 1))), (0, .ref bt), (1, .int (Int32.ofNat A)), (2, .int (Int32.ofNat B)), (3, .int P), (4, .int (Int32.ofNat (bct (pC A B zb) c)))]) (d (by decide +kernel)) (by rw [eN]; decide) (List.Mem.tail _ (List.Mem.tail _ (List.Mem.tail _ (List.Mem.tail _ (List.Mem.tail _ (List.Mem.head _)))))) (fun _ h => by rw [on_up]; exact h) ?_
        refine w_goto C (off := (-59)) (t := 6) (d (by decide +kernel)) (by decide) ?_
        have z := ih (c + 1) (by omega) (by omega) f g h (fun j hj => h1 j (by omega)) h2 h3 h4
        rw [hs] at z
        exact WS_lv (lv := [(0, .ref bt), (1, .int (Int32.ofNat A)), (2, .int (Int32.ofNat B)), (3, .int P), (4, .int (Int32.ofNat (bct (pC A B zb) c))), (5, .int (Int32.ofNat (c + 1)))]) (List.forall_mem_cons.mpr ⟨(List.Mem.tail _ (List.Mem.head _)), (List.forall_mem_cons.mpr ⟨(List.Mem.tail _ (List.Mem.tail _ (List.Mem.head _))), (List.forall_mem_cons.mpr ⟨(List.Mem.tail _ (List.Mem.tail _ (List.Mem.tail _ (List.Mem.head _)))), (List.forall_mem_cons.mpr ⟨(List.Mem.tail _ (List.Mem.tail _ (List.Mem.tail _ (List.Mem.tail _ (List.Mem.head _))))), (List.forall_mem_cons.mpr ⟨(List.Mem.tail _ (List.Mem.tail _ (List.Mem.tail _ (List.Mem.tail _ (List.Mem.tail _ (List.Mem.head _)))))), (List.forall_mem_cons.mpr ⟨(List.Mem.head _), (fun q h => absurd h List.not_mem_nil)⟩)⟩)⟩)⟩)⟩)⟩) z
      refine w_iload C (i := 5) (x := Int32.ofNat c) (d (by decide +kernel)) (List.Mem.tail _ (List.Mem.tail _ (List.Mem.tail _ (List.Mem.tail _ (List.Mem.tail _ (List.Mem.head _)))))) ?_
      refine w_iload_n C (i := 2) (x := Int32.ofNat B) (d (by decide +kernel)) (List.Mem.tail _ (List.Mem.tail _ (List.Mem.head _))) ?_
      refine w_icmp_gt C (off := 59) (t := 68) (d (by decide +kernel)) (by decide) (fun e => ?_) (fun e => ?_)
      ·
        exact absurd ((on_lt (by omega) (by omega)).mp e) (by omega)
      ·
        clear e
        refine w_iload C (i := 5) (x := Int32.ofNat c) (d (by decide +kernel)) (List.Mem.tail _ (List.Mem.tail _ (List.Mem.tail _ (List.Mem.tail _ (List.Mem.tail _ (List.Mem.head _)))))) ?_
        refine w_bipush C (n := 7) (z := 7) (d (by decide +kernel)) (by decide) ?_
        refine w_iand C (d (by decide +kernel)) ?_
        rw [qc]
        refine w_iload_n C (i := 1) (x := Int32.ofNat A) (d (by decide +kernel)) (List.Mem.tail _ (List.Mem.head _)) ?_
        refine w_bipush C (n := 7) (z := 7) (d (by decide +kernel)) (by decide) ?_
        refine w_iand C (d (by decide +kernel)) ?_
        rw [qA]
        refine w_icmp_lt C (off := 19) (t := 40) (d (by decide +kernel)) (by decide) (fun e1 => ?_) (fun e1 => ?_)
        ·
          have e1 := (on_lt (by omega) (by omega)).mp e1
          refine w_iconst C (n := 0) (d (by decide +kernel)) ?_
          refine w_istore C (i := 6) (lv' := [(6, .int (Int32.ofInt 0)), (0, .ref bt), (1, .int (Int32.ofNat A)), (2, .int (Int32.ofNat B)), (3, .int P), (4, .int (Int32.ofNat (bct (pC A B zb) c))), (5, .int (Int32.ofNat c))]) (d (by decide +kernel)) (by rw [eN]; decide) (fun _ h => h) ?_
          refine w_iload C (i := 6) (x := Int32.ofInt 0) (d (by decide +kernel)) (List.Mem.head _) ?_
          refine w_if_eq C (off := 17) (t := 62) (d (by decide +kernel)) (by decide) (fun e2 => ?_) (fun e2 => ?_)
          ·
            exact WS_lv (lv := [(0, .ref bt), (1, .int (Int32.ofNat A)), (2, .int (Int32.ofNat B)), (3, .int P), (4, .int (Int32.ofNat (bct (pC A B zb) c))), (5, .int (Int32.ofNat c))]) (List.forall_mem_cons.mpr ⟨(List.Mem.tail _ (List.Mem.head _)), (List.forall_mem_cons.mpr ⟨(List.Mem.tail _ (List.Mem.tail _ (List.Mem.head _))), (List.forall_mem_cons.mpr ⟨(List.Mem.tail _ (List.Mem.tail _ (List.Mem.tail _ (List.Mem.head _)))), (List.forall_mem_cons.mpr ⟨(List.Mem.tail _ (List.Mem.tail _ (List.Mem.tail _ (List.Mem.tail _ (List.Mem.head _))))), (List.forall_mem_cons.mpr ⟨(List.Mem.tail _ (List.Mem.tail _ (List.Mem.tail _ (List.Mem.tail _ (List.Mem.tail _ (List.Mem.head _)))))), (List.forall_mem_cons.mpr ⟨(List.Mem.tail _ (List.Mem.tail _ (List.Mem.tail _ (List.Mem.tail _ (List.Mem.tail _ (List.Mem.tail _ (List.Mem.head _))))))), (fun q h => absurd h List.not_mem_nil)⟩)⟩)⟩)⟩)⟩)⟩) (skip (by rw [hp, decide_eq_false (show ¬ A % 8 ≤ c % 8 by omega)]; rfl))
          ·
            exact absurd rfl e2
        ·
          have e1 : A % 8 ≤ c % 8 := Nat.le_of_not_lt (fun z => e1 ((on_lt (by omega) (by omega)).mpr z))
          refine w_iload C (i := 5) (x := Int32.ofNat c) (d (by decide +kernel)) (List.Mem.tail _ (List.Mem.tail _ (List.Mem.tail _ (List.Mem.tail _ (List.Mem.tail _ (List.Mem.head _)))))) ?_
          refine w_bipush C (n := 7) (z := 7) (d (by decide +kernel)) (by decide) ?_
          refine w_iand C (d (by decide +kernel)) ?_
          rw [qc]
          refine w_iload_n C (i := 2) (x := Int32.ofNat B) (d (by decide +kernel)) (List.Mem.tail _ (List.Mem.tail _ (List.Mem.head _))) ?_
          refine w_bipush C (n := 7) (z := 7) (d (by decide +kernel)) (by decide) ?_
          refine w_iand C (d (by decide +kernel)) ?_
          rw [qB]
          refine w_icmp_gt C (off := 7) (t := 40) (d (by decide +kernel)) (by decide) (fun e3 => ?_) (fun e3 => ?_)
          ·
            have e3 := (on_lt (by omega) (by omega)).mp e3
            refine w_iconst C (n := 0) (d (by decide +kernel)) ?_
            refine w_istore C (i := 6) (lv' := [(6, .int (Int32.ofInt 0)), (0, .ref bt), (1, .int (Int32.ofNat A)), (2, .int (Int32.ofNat B)), (3, .int P), (4, .int (Int32.ofNat (bct (pC A B zb) c))), (5, .int (Int32.ofNat c))]) (d (by decide +kernel)) (by rw [eN]; decide) (fun _ h => h) ?_
            refine w_iload C (i := 6) (x := Int32.ofInt 0) (d (by decide +kernel)) (List.Mem.head _) ?_
            refine w_if_eq C (off := 17) (t := 62) (d (by decide +kernel)) (by decide) (fun e2 => ?_) (fun e2 => ?_)
            ·
              exact WS_lv (lv := [(0, .ref bt), (1, .int (Int32.ofNat A)), (2, .int (Int32.ofNat B)), (3, .int P), (4, .int (Int32.ofNat (bct (pC A B zb) c))), (5, .int (Int32.ofNat c))]) (List.forall_mem_cons.mpr ⟨(List.Mem.tail _ (List.Mem.head _)), (List.forall_mem_cons.mpr ⟨(List.Mem.tail _ (List.Mem.tail _ (List.Mem.head _))), (List.forall_mem_cons.mpr ⟨(List.Mem.tail _ (List.Mem.tail _ (List.Mem.tail _ (List.Mem.head _)))), (List.forall_mem_cons.mpr ⟨(List.Mem.tail _ (List.Mem.tail _ (List.Mem.tail _ (List.Mem.tail _ (List.Mem.head _))))), (List.forall_mem_cons.mpr ⟨(List.Mem.tail _ (List.Mem.tail _ (List.Mem.tail _ (List.Mem.tail _ (List.Mem.tail _ (List.Mem.head _)))))), (List.forall_mem_cons.mpr ⟨(List.Mem.tail _ (List.Mem.tail _ (List.Mem.tail _ (List.Mem.tail _ (List.Mem.tail _ (List.Mem.tail _ (List.Mem.head _))))))), (fun q h => absurd h List.not_mem_nil)⟩)⟩)⟩)⟩)⟩)⟩) (skip (by rw [hp, decide_eq_false (show ¬ c % 8 ≤ B % 8 by omega)]; simp))
            ·
              exact absurd rfl e2
          ·
            have e3 : c % 8 ≤ B % 8 := Nat.le_of_not_lt (fun z => e3 ((on_lt (by omega) (by omega)).mpr z))
            rw [decide_eq_true e1, decide_eq_true e3] at hp
            replace hp : pC A B zb c = !zb := hp
            refine w_iconst C (n := 1) (d (by decide +kernel)) ?_
            refine w_goto C (off := 4) (t := 41) (d (by decide +kernel)) (by decide) ?_
            refine w_istore C (i := 6) (lv' := [(6, .int (Int32.ofInt 1)), (0, .ref bt), (1, .int (Int32.ofNat A)), (2, .int (Int32.ofNat B)), (3, .int P), (4, .int (Int32.ofNat (bct (pC A B zb) c))), (5, .int (Int32.ofNat c))]) (d (by decide +kernel)) (by rw [eN]; decide) (fun _ h => h) ?_
            refine w_iload C (i := 6) (x := Int32.ofInt 1) (d (by decide +kernel)) (List.Mem.head _) ?_
            refine w_if_eq C (off := 17) (t := 62) (d (by decide +kernel)) (by decide) (fun e4 => ?_) (fun e4 => ?_)
            ·
              exact absurd e4 (by decide)
            ·
              clear e4
              refine w_aload_n C (i := 0) (x := bt) (d (by decide +kernel)) (List.Mem.tail _ (List.Mem.head _)) ?_
              refine w_iload C (i := 5) (x := Int32.ofNat c) (d (by decide +kernel)) (List.Mem.tail _ (List.Mem.tail _ (List.Mem.tail _ (List.Mem.tail _ (List.Mem.tail _ (List.Mem.tail _ (List.Mem.head _))))))) ?_
              refine w_iload_n C (i := 3) (x := P) (d (by decide +kernel)) (List.Mem.tail _ (List.Mem.tail _ (List.Mem.tail _ (List.Mem.tail _ (List.Mem.head _))))) ?_
              refine w_callV (As := [.int (Int32.ofNat c), .int P]) (st := []) (q0 := qt) C cb hi hse (hM c f g h hc3 (h1 c (Nat.le_refl _)) h3 h4) (T1 f g h) hvc rfl (by decide) hrf (d (by decide +kernel)) (fun v ws' hK => ?_) (fun E ws' hK => by cases hK.1)
              obtain ⟨hv1, g', h', z3, z4, rfl⟩ := hK
              cases hv1
              rw [r1, r2]
              show WS k 55 [(6, .int (Int32.ofInt 1)), (0, .ref bt), (1, .int (Int32.ofNat A)), (2, .int (Int32.ofNat B)), (3, .int P), (4, .int (Int32.ofNat (bct (pC A B zb) c))), (5, .int (Int32.ofNat c))] [.int 0] (Wd (upd f c P) g' h') 0 0
              have z1 : ∀ j, c + 1 ≤ j → upd f c P j = 0 := fun j hj => by unfold upd; rw [if_neg (by omega)]; exact h1 j (by omega)
              have z2 : ∀ j, 128 ≤ j → upd f c P j = 0 := fun j hj => by unfold upd; rw [if_neg (by omega)]; exact h2 j hj
              have z := ih (c + 1) (by omega) (by omega) (upd f c P) g' h' z1 z2 z3 z4
              refine w_iload_n C (i := 3) (x := P) (d (by decide +kernel)) (List.Mem.tail _ (List.Mem.tail _ (List.Mem.tail _ (List.Mem.tail _ (List.Mem.head _))))) ?_
              refine w_icmp_eq C (off := 6) (t := 62) (d (by decide +kernel)) (by decide) (fun e5 => ?_) (fun e5 => ?_)
              ·
                have hq : pC A B zb c = false := by rw [hp, ← hz, decide_eq_true e5.symm]; rfl
                rw [hs, hq] at z
                refine w_iinc C (i := 5) (n := 1) (x := Int32.ofNat c) (lv' := [(5, .int (Int32.ofNat (c + 1))), (6, .int (Int32.ofInt 1)), (0, .ref bt), (1, .int (Int32.ofNat A)), (2, .int (Int32.ofNat B)), (3, .int P), (4, .int (Int32.ofNat (bct (pC A B zb) c)))]) (d (by decide +kernel)) (by rw [eN]; decide) (List.Mem.tail _ (List.Mem.tail _ (List.Mem.tail _ (List.Mem.tail _ (List.Mem.tail _ (List.Mem.tail _ (List.Mem.head _))))))) (fun _ h => by rw [on_up]; exact h) ?_
                refine w_goto C (off := (-59)) (t := 6) (d (by decide +kernel)) (by decide) ?_
                exact WS_lv (lv := [(0, .ref bt), (1, .int (Int32.ofNat A)), (2, .int (Int32.ofNat B)), (3, .int P), (4, .int (Int32.ofNat (bct (pC A B zb) c))), (5, .int (Int32.ofNat (c + 1)))]) (List.forall_mem_cons.mpr ⟨(List.Mem.tail _ (List.Mem.tail _ (List.Mem.head _))), (List.forall_mem_cons.mpr ⟨(List.Mem.tail _ (List.Mem.tail _ (List.Mem.tail _ (List.Mem.head _)))), (List.forall_mem_cons.mpr ⟨(List.Mem.tail _ (List.Mem.tail _ (List.Mem.tail _ (List.Mem.tail _ (List.Mem.head _))))), (List.forall_mem_cons.mpr ⟨(List.Mem.tail _ (List.Mem.tail _ (List.Mem.tail _ (List.Mem.tail _ (List.Mem.tail _ (List.Mem.head _)))))), (List.forall_mem_cons.mpr ⟨(List.Mem.tail _ (List.Mem.tail _ (List.Mem.tail _ (List.Mem.tail _ (List.Mem.tail _ (List.Mem.tail _ (List.Mem.head _))))))), (List.forall_mem_cons.mpr ⟨(List.Mem.head _), (fun q h => absurd h List.not_mem_nil)⟩)⟩)⟩)⟩)⟩)⟩) z
              ·
                have hq : pC A B zb c = true := by rw [hp, ← hz, decide_eq_false (fun z => e5 z.symm)]; rfl
                rw [hs, hq] at z
                replace z : WS k 6 [(0, .ref bt), (1, .int (Int32.ofNat A)), (2, .int (Int32.ofNat B)), (3, .int P), (4, .int (Int32.ofNat (bct (pC A B zb) c + 1))), (5, .int (Int32.ofNat (c + 1)))] [] (Wd (upd f c P) g' h') 0 0 := z
                refine w_iinc C (i := 4) (n := 1) (x := Int32.ofNat (bct (pC A B zb) c)) (lv' := [(4, .int (Int32.ofNat (bct (pC A B zb) c + 1))), (6, .int (Int32.ofInt 1)), (0, .ref bt), (1, .int (Int32.ofNat A)), (2, .int (Int32.ofNat B)), (3, .int P), (5, .int (Int32.ofNat c))]) (d (by decide +kernel)) (by rw [eN]; decide) (List.Mem.tail _ (List.Mem.tail _ (List.Mem.tail _ (List.Mem.tail _ (List.Mem.tail _ (List.Mem.head _)))))) (fun _ h => by rw [on_up]; exact h) ?_
                refine w_iinc C (i := 5) (n := 1) (x := Int32.ofNat c) (lv' := [(5, .int (Int32.ofNat (c + 1))), (4, .int (Int32.ofNat (bct (pC A B zb) c + 1))), (6, .int (Int32.ofInt 1)), (0, .ref bt), (1, .int (Int32.ofNat A)), (2, .int (Int32.ofNat B)), (3, .int P)]) (d (by decide +kernel)) (by rw [eN]; decide) (List.Mem.tail _ (List.Mem.tail _ (List.Mem.tail _ (List.Mem.tail _ (List.Mem.tail _ (List.Mem.tail _ (List.Mem.head _))))))) (fun _ h => by rw [on_up]; exact h) ?_
                refine w_goto C (off := (-59)) (t := 6) (d (by decide +kernel)) (by decide) ?_
                exact WS_lv (lv := [(0, .ref bt), (1, .int (Int32.ofNat A)), (2, .int (Int32.ofNat B)), (3, .int P), (4, .int (Int32.ofNat (bct (pC A B zb) c + 1))), (5, .int (Int32.ofNat (c + 1)))]) (List.forall_mem_cons.mpr ⟨(List.Mem.tail _ (List.Mem.tail _ (List.Mem.tail _ (List.Mem.head _)))), (List.forall_mem_cons.mpr ⟨(List.Mem.tail _ (List.Mem.tail _ (List.Mem.tail _ (List.Mem.tail _ (List.Mem.head _))))), (List.forall_mem_cons.mpr ⟨(List.Mem.tail _ (List.Mem.tail _ (List.Mem.tail _ (List.Mem.tail _ (List.Mem.tail _ (List.Mem.head _)))))), (List.forall_mem_cons.mpr ⟨(List.Mem.tail _ (List.Mem.tail _ (List.Mem.tail _ (List.Mem.tail _ (List.Mem.tail _ (List.Mem.tail _ (List.Mem.head _))))))), (List.forall_mem_cons.mpr ⟨(List.Mem.tail _ (List.Mem.head _)), (List.forall_mem_cons.mpr ⟨(List.Mem.head _), (fun q h => absurd h List.not_mem_nil)⟩)⟩)⟩)⟩)⟩)⟩) z
  show WS k 0 [(0, .ref bt), (1, .int (Int32.ofNat A)), (2, .int (Int32.ofNat B)), (3, .int P)] [] (Wd f0 gL0 gH0) 0 0
  refine w_iconst C (n := 0) (d (by decide +kernel)) ?_
  refine w_istore C (i := 4) (lv' := [(4, .int (Int32.ofInt 0)), (0, .ref bt), (1, .int (Int32.ofNat A)), (2, .int (Int32.ofNat B)), (3, .int P)]) (d (by decide +kernel)) (by rw [eN]; decide) (fun _ h => h) ?_
  refine w_iload_n C (i := 1) (x := Int32.ofNat A) (d (by decide +kernel)) (List.Mem.tail _ (List.Mem.tail _ (List.Mem.head _))) ?_
  refine w_istore C (i := 5) (lv' := [(5, .int (Int32.ofNat A)), (4, .int (Int32.ofInt 0)), (0, .ref bt), (1, .int (Int32.ofNat A)), (2, .int (Int32.ofNat B)), (3, .int P)]) (d (by decide +kernel)) (by rw [eN]; decide) (fun _ h => h) ?_
  have z := L1 (B + 1 - A) A (by omega) (Nat.le_refl _) f0 gL0 gH0 (fun j _ => hf j) (fun j _ => hf j) hL hH
  rw [pC_start] at z
  exact WS_lv (lv := [(0, .ref bt), (1, .int (Int32.ofNat A)), (2, .int (Int32.ofNat B)), (3, .int P), (4, .int (Int32.ofInt 0)), (5, .int (Int32.ofNat A))]) (List.forall_mem_cons.mpr ⟨(List.Mem.tail _ (List.Mem.tail _ (List.Mem.head _))), (List.forall_mem_cons.mpr ⟨(List.Mem.tail _ (List.Mem.tail _ (List.Mem.tail _ (List.Mem.head _)))), (List.forall_mem_cons.mpr ⟨(List.Mem.tail _ (List.Mem.tail _ (List.Mem.tail _ (List.Mem.tail _ (List.Mem.head _))))), (List.forall_mem_cons.mpr ⟨(List.Mem.tail _ (List.Mem.tail _ (List.Mem.tail _ (List.Mem.tail _ (List.Mem.tail _ (List.Mem.head _)))))), (List.forall_mem_cons.mpr ⟨(List.Mem.tail _ (List.Mem.head _)), (List.forall_mem_cons.mpr ⟨(List.Mem.head _), (fun q h => absurd h List.not_mem_nil)⟩)⟩)⟩)⟩)⟩)⟩) z
