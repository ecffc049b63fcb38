/-! The model's setOf, walked by hand; its contract -/
theorem st_body {k : kx_T} {ws : va_W} {Wd : (Nat → Int32) → va_W} {qt qS qP bt aS aP N mc ms : Nat} {cz ci : ClassId} {fs : List Value} {fS0 fP : Nat → Int32} {P z : Int32} {K : mb_O → va_W → Prop} {Cn : String} {T : u_T} {ty : Nat → FieldType}
    (C : kx_ok k) (e7 : kCc k = cX12_setOf) (eN : kN k = 3) (e9 : (kMe k).sig.returnType = none) (q : kx_end k K mc ms)
    (hc : cl_ok 12 N Cn T ty) (n37 : 37 < N) (n35 : 35 < N) (l37 : Cond.fieldLink (kOwn k) 76 (T 37).1 (T 37).2.1 (T 37).2.2.1 ∈ gT) (l35 : Cond.fieldLink (kOwn k) 70 (T 35).1 (T 35).2.1 (T 35).2.2.1 ∈ gT)
    (tz : (kTy k)[2]? = some (cz, .boolean)) (ti : (kTy k)[0]? = some (ci, .int))
    (P1 : ∀ fS, (Wd fS)[qt]? = some (bt, .inr (12, fs))) (f37 : fs[37]? = some (.ref aS)) (f35 : fs[35]? = some (.ref aP))
    (P2 : ∀ fS, (Wd fS)[qS]? = some (aS, .inl (cz, 128, .inl fS))) (P3 : ∀ fS, (Wd fS)[qP]? = some (aP, .inl (ci, 128, .inl fP)))
    (P5 : ∀ fS g, (Wd fS).set qS (aS, .inl (cz, 128, .inl g)) = Wd g) (P7 : Wd fS0 = ws)
    (hP : ∀ c, c < 128 → fP c = 0) (hz0 : P = 0 → z = 1) (hz1 : ¬ P = 0 → z = 0) (zS : ∀ j, 128 ≤ j → fS0 j = 0)
    (hgoal : K (.inl none) (Wd (fun j => if j < 128 then z else 0))) : WS k 0 (lv_args 0 [.ref bt, .int P]) [] ws 0 0 := by
  have d : ∀ {pc : Nat} {q : Instr × Nat}, decode cX12_setOf pc = .ok q → decode (kCc k) pc = .ok q := fun h => by rw [e7]; exact h
  have nz0 : vp_nar .boolean (Int32.ofInt 0) = 0 := by decide
  have nz1 : vp_nar .boolean (Int32.ofInt 1) = 1 := by decide
  have L1 : ∀ r c, c + r = 128 → ∀ fS, (∀ j, j < c → fS j = z) → (∀ j, 128 ≤ j → fS j = 0) → WS k 2 [(0, .ref bt), (1, .int P), (2, .int (Int32.ofNat c))] [] (Wd fS) 0 0 := by
    intro r
    induction r with
    | zero =>
      intro c hc1 fS h1 h2
      refine w_iload_n C (i := 2) (x := Int32.ofNat c) (d (by decide +kernel)) (List.Mem.tail _ (List.Mem.tail _ (List.Mem.head _))) ?_
      refine w_sipush C (n := 128) (z := 128) (d (by decide +kernel)) (by decide) ?_
      refine w_icmp_ge C (off := 30) (t := 36) (d (by decide +kernel)) (by decide) (fun g => ?_) (fun g => ?_)
      ·
        replace hc1 : c = 128 := hc1
        have e : fS = fun j => if j < 128 then z else 0 := funext fun j => by
          by_cases hj : j < 128
          · rw [if_pos hj]; exact h1 j (by omega)
          · rw [if_neg hj]; exact h2 j (by omega)
        rw [e]
        exact w_vret C q e9 (d (by decide +kernel)) (Nat.zero_le _) (Nat.zero_le _) hgoal
      ·
        replace hc1 : c = 128 := hc1
        exact absurd ((on_le (a := 128) (by omega) (by omega)).mpr (by omega)) g
    | succ r ih =>
      intro c hc1 fS h1 h2
      refine w_iload_n C (i := 2) (x := Int32.ofNat c) (d (by decide +kernel)) (List.Mem.tail _ (List.Mem.tail _ (List.Mem.head _))) ?_
      refine w_sipush C (n := 128) (z := 128) (d (by decide +kernel)) (by decide) ?_
      refine w_icmp_ge C (off := 30) (t := 36) (d (by decide +kernel)) (by decide) (fun g => ?_) (fun g => ?_)
      ·
        exact absurd ((on_le (a := 128) (by omega) (by omega)).mp g) (by omega)
      ·
        clear g
        have hp1 : fP (Int32.ofNat c).toNatClampNeg = 0 := by rw [on_cl (by omega)]; exact hP c (by omega)
        refine w_aload_n C (i := 0) (x := bt) (d (by decide +kernel)) (List.Mem.head _) ?_
        refine w_get C qt hc (P1 _) n37 l37 f37 (d (by decide +kernel)) ?_
        refine w_iload_n C (i := 2) (x := Int32.ofNat c) (d (by decide +kernel)) (List.Mem.tail _ (List.Mem.tail _ (List.Mem.head _))) ?_
        refine w_aload_n C (i := 0) (x := bt) (d (by decide +kernel)) (List.Mem.head _) ?_
        refine w_get C qt hc (P1 _) n35 l35 f35 (d (by decide +kernel)) ?_
        refine w_iload_n C (i := 2) (x := Int32.ofNat c) (d (by decide +kernel)) (List.Mem.tail _ (List.Mem.tail _ (List.Mem.head _))) ?_
        refine w_iald C qP (P3 _) ti (on_in (by omega) (by omega)) (d (by decide +kernel)) ?_
        rw [hp1]
        refine w_iload_n C (i := 1) (x := P) (d (by decide +kernel)) (List.Mem.tail _ (List.Mem.head _)) ?_
        refine w_icmp_ne C (off := 7) (t := 28) (d (by decide +kernel)) (by decide) (fun g => ?_) (fun g => ?_)
        ·
          have ez : z = 0 := hz1 (fun e => g e.symm)
          refine w_iconst C (n := 0) (d (by decide +kernel)) ?_
          refine w_zast C qS (P2 _) tz (on_in (by omega) (by omega)) (d (by decide +kernel)) ?_
          rw [P5, nz0, on_cl (by omega)]
          refine w_iinc C (i := 2) (n := 1) (x := Int32.ofNat c) (lv' := [(2, .int (Int32.ofNat (c + 1))), (0, .ref bt), (1, .int P)]) (d (by decide +kernel)) (by rw [eN]; decide) (List.Mem.tail _ (List.Mem.tail _ (List.Mem.head _))) (fun _ h => by rw [on_up]; exact h) ?_
          refine w_goto C (off := (-31)) (t := 2) (d (by decide +kernel)) (by decide) ?_
          exact WS_lv (lv := [(0, .ref bt), (1, .int P), (2, .int (Int32.ofNat (c + 1)))]) (List.forall_mem_cons.mpr ⟨(List.Mem.tail _ (List.Mem.head _)), (List.forall_mem_cons.mpr ⟨(List.Mem.tail _ (List.Mem.tail _ (List.Mem.head _))), (List.forall_mem_cons.mpr ⟨(List.Mem.head _), (fun q h => absurd h List.not_mem_nil)⟩)⟩)⟩) (ih (c + 1) (by omega) _ (fun j hj => by unfold upd; split; exact ez.symm; exact h1 j (by omega)) (fun j hj => by unfold upd; rw [if_neg (by omega)]; exact h2 j hj))
        ·
          have ez : z = 1 := hz0 g.symm
          refine w_iconst C (n := 1) (d (by decide +kernel)) ?_
          refine w_goto C (off := 4) (t := 29) (d (by decide +kernel)) (by decide) ?_
          refine w_zast C qS (P2 _) tz (on_in (by omega) (by omega)) (d (by decide +kernel)) ?_
          rw [P5, nz1, on_cl (by omega)]
          refine w_iinc C (i := 2) (n := 1) (x := Int32.ofNat c) (lv' := [(2, .int (Int32.ofNat (c + 1))), (0, .ref bt), (1, .int P)]) (d (by decide +kernel)) (by rw [eN]; decide) (List.Mem.tail _ (List.Mem.tail _ (List.Mem.head _))) (fun _ h => by rw [on_up]; exact h) ?_
          refine w_goto C (off := (-31)) (t := 2) (d (by decide +kernel)) (by decide) ?_
          exact WS_lv (lv := [(0, .ref bt), (1, .int P), (2, .int (Int32.ofNat (c + 1)))]) (List.forall_mem_cons.mpr ⟨(List.Mem.tail _ (List.Mem.head _)), (List.forall_mem_cons.mpr ⟨(List.Mem.tail _ (List.Mem.tail _ (List.Mem.head _))), (List.forall_mem_cons.mpr ⟨(List.Mem.head _), (fun q h => absurd h List.not_mem_nil)⟩)⟩)⟩) (ih (c + 1) (by omega) _ (fun j hj => by unfold upd; split; exact ez.symm; exact h1 j (by omega)) (fun j hj => by unfold upd; rw [if_neg (by omega)]; exact h2 j hj))
  show WS k 0 [(0, .ref bt), (1, .int P)] [] ws 0 0
  rw [← P7]
  refine w_iconst C (n := 0) (d (by decide +kernel)) ?_
  refine w_istore_n C (i := 2) (lv' := [(2, .int (Int32.ofInt 0)), (0, .ref bt), (1, .int P)]) (d (by decide +kernel)) (by rw [eN]; decide) (fun _ h => h) ?_
  exact WS_lv (lv := [(0, .ref bt), (1, .int P), (2, .int (Int32.ofInt 0))]) (List.forall_mem_cons.mpr ⟨(List.Mem.tail _ (List.Mem.head _)), (List.forall_mem_cons.mpr ⟨(List.Mem.tail _ (List.Mem.tail _ (List.Mem.head _))), (List.forall_mem_cons.mpr ⟨(List.Mem.head _), (fun q h => absurd h List.not_mem_nil)⟩)⟩)⟩) (L1 128 0 rfl fS0 (fun j hj => absurd hj (Nat.not_lt_zero _)) zS)
/-- contents that are all 0 -/
def zrB (b : AB) : Bool := match b with
  | .inl l => l.all (fun a => match a with | .inl z => decide (z = 0) | _ => false)
  | .inr (0, 0, _) => true
  | _ => false
theorem zrB_ok {v : VL} {b : AB} (h : zrB b = true) (hok : okC v (.inl (0, 128, b))) : ∀ c, c < 128 → cBz v b c = 0 := by
  intro c hc
  unfold zrB at h
  split at h
  · rename_i l
    show cZ v (l.getD c (aI 0)) = 0
    rcases getD_mem (l := l) (j := c) (d := aI 0) with q | q
    · rw [q]; rfl
    · have := List.all_eq_true.mp h _ q
      generalize l.getD c (aI 0) = a at this
      rcases a with z | a
      · replace this : decide (z = 0) = true := this
        have := of_decide_eq_true this
        subst this; rfl
      · cases this
  · rename_i m
    have := hok (by decide) c hc
    replace this : (0 : Int) ≤ (vC v m c).toInt ∧ (vC v m c).toInt ≤ 0 := this
    show vC v m c = 0
    apply Int32.toInt_inj.1
    show _ = (0 : Int)
    omega
  · cases h
def stN (w : AW) (qS : Nat) (p : Int) : AW := wHp w (hSet (wH w) qS (.inl (2, 128, .inl (List.replicate 128 (aI (if p = 0 then 1 else 0))))))
def ctS (as : List AV) (w : AW) : Option (List AR) := match as with
  | [.inr (.inr (.inr (.inr (.inl (some m))))), .inl p] => match hGet bsB (wH w) m with
    | .inr (12, fs) => match rfA fs 37, rfA fs 35 with
      | some qS, some qP =>
        match hGet bsB (wH w) qS, hGet bsB (wH w) qP with
        | .inl (2, 128, _), .inl (0, 128, bP) =>
          if Nat.blt m (wH w).1 && Nat.blt qS (wH w).1 && Nat.blt qP (wH w).1 && zrB bP && inI p then some [(.inl none, stN w qS p)] else none
        | _, _ => none
      | _, _ => none
    | _ => none
  | _ => none
section SC
variable {k : kx_T} {dT : Nat → ClassId} {a0 : Array Value} {b L : Nat} {xs : Nat → Int32}
theorem stN_ok {x : ACx} {w : AW} {v : VL} {qS : Nat} {p : Int} {z : Int32} (hw : okW (xB x) v w) (h1 : qS < (wH w).1) (hz : z = Int32.ofInt (if p = 0 then 1 else 0)) : Kd x dT w v [(.inl none, stN w qS p)] (.inl none) ((cW v dT (xB x) (wH w)).set qS (vA v qS, .inl (dT 2, 128, .inl (fun j => if j < 128 then z else 0)))) := by
  have hle : wle w (stN w qS p) := wle_rf w
  refine ⟨_, List.mem_cons_self, v, agr_rf _ _, hle, ⟨hw.1, fun i hi => ?_, fun i hi => ?_, hw.2.2.2⟩, fun a h => (by cases h), rfl, ?_⟩
  · show okC _ (hGet (xB x) (hSet (wH w) qS _) i)
    rw [hGet_set]
    by_cases e : i = qS
    · rw [if_pos e]; trivial
    · rw [if_neg e]; exact hw.2.1 i hi
  · show scC _ (hGet (xB x) (hSet (wH w) qS _) i)
    rw [hGet_set]
    by_cases e : i = qS
    · rw [if_pos e]
      intro a ha
      have := List.eq_of_mem_replicate ha
      rw [this]; trivial
    · rw [if_neg e]; exact hw.2.2.1 i hi
  · show _ = cW v dT (xB x) (hSet (wH w) qS _)
    rw [cW_set h1]
    have e1 : cC v dT (.inl (2, 128, .inl (List.replicate 128 (aI (if p = 0 then 1 else 0))))) = .inl (dT 2, 128, .inl (fun j => if j < 128 then z else 0)) := by
      show Sum.inl (dT 2, 128, Sum.inl (fun j => if j < 128 then cZ v ((List.replicate 128 (aI (if p = 0 then 1 else 0))).getD j (aI 0)) else 0)) = _
      congr 4
      funext j
      by_cases hj : j < 128
      · rw [if_pos hj, if_pos hj, List.getD_eq_getElem?_getD, List.getElem?_replicate, if_pos hj, hz]
        rfl
      · rw [if_neg hj, if_neg hj]
    rw [e1]
theorem stR {s0 : State} (hN : ncX s0) : (clX 12 ∧ 37 < (nCl 12).2.1 ∧ 35 < (nCl 12).2.1) ∧ (Cond.fieldLink (yA 230).cls 76 ((nCl 12).2.2.1 37).1 ((nCl 12).2.2.1 37).2.1 ((nCl 12).2.2.1 37).2.2.1 ∈ gT ∧ Cond.fieldLink (yA 230).cls 70 ((nCl 12).2.2.1 35).1 ((nCl 12).2.2.1 35).2.1 ((nCl 12).2.2.1 35).2.2.1 ∈ gT) := by
  have g37 : rowQ cx0 yA byA rtA hhA 230 10 (.getfield 76, 3, 12, 37, 0) := (rows_ok (a0 := #[]) hN (by rfl)).1
  have g35 : rowQ cx0 yA byA rtA hhA 230 15 (.getfield 70, 3, 12, 35, 0) := (rows_ok (a0 := #[]) hN (by rfl)).1
  obtain ⟨c1, c2, c3⟩ := g37.2.2
  obtain ⟨-, c4, c5⟩ := g35.2.2
  exact ⟨⟨c1, c2, c4⟩, c3, c5⟩
theorem ctS_ok (X : LX k dT a0 b L xs) (h : HT) {as : List AV} {w : AW} {rs : List AR} {v : VL} (hc : ctS as w = some rs) (hw : okW bsB v w) : MB (kL k) (kS0 k) (kD k) (yA 230) (cdX (cxM h) yA byA rtA hhA 230) (mRm (xM (cxM h) 230)) (as.map (cv v)) (cW v dT bsB (wH w)) (Kd (cxM h) dT w v rs) := by
  unfold ctS at hc
  split at hc
  · rename_i m p
    split at hc
    · rename_i fs hm
      split at hc
      · rename_i qS qP f37 f35
        have f37 := rfA_ok f37
        have f35 := rfA_ok f35
        split at hc
        · rename_i bS bP gS gP
          split at hc
          · rename_i hq
            cases hc
            simp only [Bool.and_eq_true] at hq
            obtain ⟨⟨⟨⟨i1, i2⟩, i3⟩, i4⟩, i5⟩ := hq
            have i1 := Nat.blt_eq.mp i1
            have i2 := Nat.blt_eq.mp i2
            have i3 := Nat.blt_eq.mp i3
            have j1 : m ≠ qS := fun e => by rw [e, gS] at hm; cases hm
            have j2 : qP ≠ qS := fun e => by rw [e, gS] at gP; cases gP
            have oP := hw.2.1 qP i3
            rw [gP] at oP
            obtain ⟨⟨c1, c2, c3⟩, c5, c6⟩ := stR X.1.2.2.2.1
            have t2 := X.1.2.2.1 2
            have t0 := X.1.2.2.1 0
            have wS := cW_get (v := v) (dT := dT) (B := bsB) (h := wH w) i2
            have wP := cW_get (v := v) (dT := dT) (B := bsB) (h := wH w) i3
            have wm := cW_get (v := v) (dT := dT) (B := bsB) (h := wH w) i1
            rw [gS] at wS
            rw [gP] at wP
            rw [hm] at wm
            have len : (cW v dT bsB (wH w)).length = (wH w).1 := by unfold cW; simp
            refine mb_of X.1.2.1 (by decide) (Nat.le_of_ble_eq_true rfl) (fun k' C e1 e2 e3 e4 e5 e6 e7 e8 e9 e10 e11 qe => ?_)
            refine st_body (P := Int32.ofInt p) (z := Int32.ofInt (if p = 0 then 1 else 0)) (qt := m) (qS := qS) (qP := qP) (bt := vA v m) (aS := vA v qS) (aP := vA v qP) (cz := dT 2) (ci := dT 0) (fs := fs.map (cv v))
              (fS0 := fun j => if j < 128 then cBz v bS j else 0) (fP := fun j => if j < 128 then cBz v bP j else 0)
              (Wd := fun fS => (cW v dT bsB (wH w)).set qS (vA v qS, .inl (dT 2, 128, .inl fS)))
              C e7 e8 e9 qe c1 c2 c3 (by rw [e6]; exact c5) (by rw [e6]; exact c6) (by rw [e5]; exact t2) (by rw [e5]; exact t0) ?_ ?_ ?_ ?_ ?_ ?_ ?_ ?_ ?_ ?_ ?_ ?_
            · intro fS
              rw [List.getElem?_set_ne j1.symm]
              exact wm
            · rw [List.getElem?_map, f37]; rfl
            · rw [List.getElem?_map, f35]; rfl
            · intro fS
              rw [List.getElem?_set, if_pos rfl, if_pos (by rw [len]; exact i2)]
            · intro fS
              rw [List.getElem?_set_ne j2.symm]
              exact wP
            · intro fS g
              rw [List.set_set]
            · exact set_same wS
            · intro c hcc
              show (if c < 128 then _ else _) = _
              rw [if_pos hcc]
              exact zrB_ok i4 oP c hcc
            · intro e
              have : p = 0 := by
                have e2 := congrArg Int32.toInt e
                rw [z_in i5] at e2
                exact e2
              rw [if_pos this]; rfl
            · intro e
              rw [if_neg (fun q => e (by rw [q]; rfl))]; rfl
            · intro j hj
              exact if_neg (by omega)
            · exact stN_ok (x := cxM h) hw i2 rfl
          · cases hc
        · cases hc
      · cases hc
    · cases hc
  · cases hc
end SC
