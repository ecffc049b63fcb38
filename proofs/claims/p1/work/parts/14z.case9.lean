/-! Paint: the contracts proved, the case's runs -/
theorem vdK {x : ACx} {dT : Nat → ClassId} {w : AW} {v : VL} {o : mb_O} {ws : va_W} (hw : okW (xB x) v w) (hK : Kd x dT w v [(.inl none, w)] o ws) : o = .inl none ∧ ws = cW v dT (xB x) (wH w) := by
  obtain ⟨r, hr, v', a1, a2, a3, a4, a5, a6⟩ := hK
  have := List.mem_singleton.mp hr
  subst this
  exact ⟨a5, a6.trans (cW_agr a1 hw.2.2.1).symm⟩
section PD
variable {k : kx_T} {dT : Nat → ClassId} {a0 : Array Value} {b L : Nat} {xs : Nat → Int32}
theorem wle_19 : wle wB1 w9 := ⟨by decide, by decide, by decide, by decide, by decide⟩
theorem pxR {s0 : State} (hN : ncX s0) : clX 11 ∧ 3 < (nCl 11).2.1 ∧ Cond.fieldLink (yA 144).cls 35 ((nCl 11).2.2.1 3).1 ((nCl 11).2.2.1 3).2.1 ((nCl 11).2.2.1 3).2.2.1 ∈ gT := by
  have g : rowQ cx0 yA byA rtA hhA 144 66 (.getfield 35, 3, 11, 3, 0) := (rows_ok (a0 := #[]) hN (by rfl)).1
  exact g.2.2
theorem p144 (X : LX k dT a0 b L xs) (hh0 : HT) {v0 v : VL} {A B : Nat} {P : Int32} {t : Option Nat} (F : P9 v0 A B P t) (hw : okW bsB v w9) (hA : agr wB1 v0 v) : MB (kL k) (kS0 k) (kD k) (yA 144) (cdX (cxM hh0) yA byA rtA hhA 144) (mRm (xM (cxM hh0) 144)) (as9.map (cv v)) (cW v dT bsB (wH w9)) (Kd (cxM hh0) dT w9 v (r144 t)) := by
  obtain ⟨⟨v1, v2, v3⟩, ⟨hA1, hB1, hP1, hP2⟩, ht⟩ := F
  have u1 : vI v 1 = Int32.ofNat A := (hA.1 1 (by decide)).symm.trans v1
  have u2 : vI v 2 = Int32.ofNat B := (hA.1 2 (by decide)).symm.trans v2
  have u3 : vI v 3 = P := (hA.1 3 (by decide)).symm.trans v3
  have hcf : cfX cfA (cxM ht0) := fun mn pc f (q : cfA mn pc = some f) => cf_ok q
  have sc0 : scV w9 (aR (some 0)) := (show (0 : Nat) < 518 by decide)
  have scS : ∀ j, j < 7 → scV w9 (aS j) := fun j hj => hj
  have hM1 := meth_ok (x := cxM ht0) (vP := v0) hcf (PXL X ht0) (fun _ => rfl) (ct_no (h := ht0) rfl) 58 144 181 _ _ _ v (vdB_ok nc1) hw hA (List.forall_mem_cons.mpr ⟨sc0, List.forall_mem_cons.mpr ⟨scS 1 (by decide), fun a h => absurd h List.not_mem_nil⟩⟩) wle_19 (Nat.le_of_ble_eq_true rfl)
  have hM2 := meth_ok (x := cxM ht0) (vP := v0) hcf (PXL X ht0) (fun _ => rfl) (ct_no (h := ht0) rfl) 58 144 181 _ _ _ v (vdB_ok nc2) hw hA (List.forall_mem_cons.mpr ⟨sc0, List.forall_mem_cons.mpr ⟨scS 2 (by decide), fun a h => absurd h List.not_mem_nil⟩⟩) wle_19 (Nat.le_of_ble_eq_true rfl)
  have hM3 := meth_ok (x := cxM ht0) (vP := v0) hcf (PXL X ht0) (fun _ => rfl) (ct_no (h := ht0) rfl) 58 144 184 _ _ _ v (vdB_ok nc3) hw hA (List.forall_mem_cons.mpr ⟨sc0, List.forall_mem_cons.mpr ⟨scS 3 (by decide), List.forall_mem_cons.mpr ⟨trivial, List.forall_mem_cons.mpr ⟨trivial, fun a h => absurd h List.not_mem_nil⟩⟩⟩⟩) wle_19 (Nat.le_of_ble_eq_true rfl)
  replace hM1 : MB (kL k) (kS0 k) (kD k) (yA 181) (.code (yA 181) (byA 181) (mNL (miB 181)) (rtA 181)) (mRm (miB 181)) [.ref (vA v 0), .int (vI v 1)] (cW v dT bsB (wH w9)) (Kd (cxM ht0) dT w9 v [(.inl none, w9)]) := hM1
  replace hM2 : MB (kL k) (kS0 k) (kD k) (yA 181) (.code (yA 181) (byA 181) (mNL (miB 181)) (rtA 181)) (mRm (miB 181)) [.ref (vA v 0), .int (vI v 2)] (cW v dT bsB (wH w9)) (Kd (cxM ht0) dT w9 v [(.inl none, w9)]) := hM2
  replace hM3 : MB (kL k) (kS0 k) (kD k) (yA 184) (.code (yA 184) (byA 184) (mNL (miB 184)) (rtA 184)) (mRm (miB 184)) [.ref (vA v 0), .int (vI v 3), .int (Int32.ofInt (-1)), .int 7] (cW v dT bsB (wH w9)) (Kd (cxM ht0) dT w9 v [(.inl none, w9)]) := hM3
  rw [u1] at hM1
  rw [u2] at hM2
  rw [u3] at hM3
  have hN := X.1.2.2.2.1
  obtain ⟨c1, c2, c3⟩ := pxR hN
  obtain ⟨d1, d2, d3, d4, N1, T1, d5⟩ := cvR hN (mn := 144) (pc := 2) (idx := 168) (a := 181) (n := 1) (c := 11) rfl rfl rfl
  obtain ⟨g1, g2, g3, g4, N2, T2, g5⟩ := cvR hN (mn := 144) (pc := 15) (idx := 151) (a := 184) (n := 3) (c := 11) rfl rfl rfl
  obtain ⟨i1, i2, i3, i4, N3, T3, i5⟩ := cvR hN (mn := 144) (pc := 72) (idx := 176) (a := 29) (n := 3) (c := 3) rfl rfl rfl
  obtain ⟨j1, j2, j3, j4, N4, T4, j5⟩ := paR hN
  obtain ⟨a1, a2, a3, -, -⟩ := cq_ok hA1
  obtain ⟨b1, b2, b3, -, -⟩ := cq_ok hB1
  have w0 := cW_get (v := v) (dT := dT) (B := bsB) (h := wH w9) (i := 0) (by decide)
  have w25 := cW_get (v := v) (dT := dT) (B := bsB) (h := wH w9) (i := 25) (by decide)
  have w26 := cW_get (v := v) (dT := dT) (B := bsB) (h := wH w9) (i := 26) (by decide)
  have w27 := cW_get (v := v) (dT := dT) (B := bsB) (h := wH w9) (i := 27) (by decide)
  have w28 := cW_get (v := v) (dT := dT) (B := bsB) (h := wH w9) (i := 28) (by decide)
  rw [g9_0] at w0
  rw [g9_25] at w25
  rw [g9_26] at w26
  rw [g9_27] at w27
  rw [g9_28] at w28
  have len : (cW v dT bsB (wH w9)).length = 518 := by unfold cW; simp; rfl
  have o26 := hw.2.1 26 (by decide)
  rw [g9_26] at o26
  refine mb_of X.1.2.1 (by decide) (Nat.le_of_ble_eq_true rfl) (fun k' C e1 e2 e3 e4 e5 e6 e7 e8 e9 e10 e11 qe => ?_)
  have d : ∀ {pc : Nat} {q : Instr × Nat}, decode cX11_paint pc = .ok q → decode (kCc k') pc = .ok q := fun h => by rw [e7]; exact h
  have eN : kN k' = 4 := e8
  show WS k' 0 [(0, .ref (vA v 0)), (1, .int (vI v 1)), (2, .int (vI v 2)), (3, .int (vI v 3))] [] _ 0 0
  rw [u1, u2, u3]
  refine w_aload_n C (i := 0) (x := (vA v 0)) (d (by decide +kernel)) (List.Mem.head _) ?_
  refine w_iload_n C (i := 1) (x := Int32.ofNat A) (d (by decide +kernel)) (List.Mem.tail _ (List.Mem.head _)) ?_
  refine w_callV (As := [.int (Int32.ofNat A)]) (st := []) (y := yA 181) (rm := mRm (miB 181)) C ⟨by rw [e6]; exact d1, d4.1, d4.2.1, d4.2.2, by rw [e2]; exact (show mFr (miB 181) + 1 ≤ mFr (miB 144) by decide), by rw [e2]; exact (show 8 + (mNL (miB 181) + 11) + mLo (miB 181) ≤ mLo (miB 144) by decide)⟩ d2 d3 (by rw [e1, e3, e4]; exact hM1) w0 d5 rfl (by decide) ⟨by rw [e2]; exact (show 0 + mCe (miB 181) ≤ mCe (miB 144) by decide), by rw [e2]; exact (show 0 + mSl (miB 181) ≤ mSl (miB 144) by decide)⟩ (d (by decide +kernel)) (fun vv ws' hK => ?_) (fun E ws' hK => by cases (vdK (x := cxM ht0) hw hK).1)
  obtain ⟨q1, q2⟩ := vdK (x := cxM ht0) hw hK
  cases q1
  rw [q2]
  show WS k' 5 [(0, .ref (vA v 0)), (1, .int (Int32.ofNat A)), (2, .int (Int32.ofNat B)), (3, .int P)] [] (cW v dT bsB (wH w9)) 1 6
  refine w_aload_n C (i := 0) (x := (vA v 0)) (d (by decide +kernel)) (List.Mem.head _) ?_
  refine w_iload_n C (i := 2) (x := Int32.ofNat B) (d (by decide +kernel)) (List.Mem.tail _ (List.Mem.tail _ (List.Mem.head _))) ?_
  refine w_callV (As := [.int (Int32.ofNat B)]) (st := []) (y := yA 181) (rm := mRm (miB 181)) C ⟨by rw [e6]; exact d1, d4.1, d4.2.1, d4.2.2, by rw [e2]; exact (show mFr (miB 181) + 1 ≤ mFr (miB 144) by decide), by rw [e2]; exact (show 8 + (mNL (miB 181) + 11) + mLo (miB 181) ≤ mLo (miB 144) by decide)⟩ d2 d3 (by rw [e1, e3, e4]; exact hM2) w0 d5 rfl (by decide) ⟨by rw [e2]; exact (show 1 + mCe (miB 181) ≤ mCe (miB 144) by decide), by rw [e2]; exact (show 6 + mSl (miB 181) ≤ mSl (miB 144) by decide)⟩ (d (by decide +kernel)) (fun vv ws' hK => ?_) (fun E ws' hK => by cases (vdK (x := cxM ht0) hw hK).1)
  obtain ⟨q1, q2⟩ := vdK (x := cxM ht0) hw hK
  cases q1
  rw [q2]
  show WS k' 10 [(0, .ref (vA v 0)), (1, .int (Int32.ofNat A)), (2, .int (Int32.ofNat B)), (3, .int P)] [] (cW v dT bsB (wH w9)) 2 12
  refine w_aload_n C (i := 0) (x := (vA v 0)) (d (by decide +kernel)) (List.Mem.head _) ?_
  refine w_iload_n C (i := 3) (x := P) (d (by decide +kernel)) (List.Mem.tail _ (List.Mem.tail _ (List.Mem.tail _ (List.Mem.head _)))) ?_
  refine w_iconst C (n := (-1)) (d (by decide +kernel)) ?_
  refine w_bipush C (n := 7) (z := 7) (d (by decide +kernel)) (by decide) ?_
  refine w_callV (As := [.int P, .int (Int32.ofInt (-1)), .int 7]) (st := []) (y := yA 184) (rm := mRm (miB 184)) C ⟨by rw [e6]; exact g1, g4.1, g4.2.1, g4.2.2, by rw [e2]; exact (show mFr (miB 184) + 1 ≤ mFr (miB 144) by decide), by rw [e2]; exact (show 8 + (mNL (miB 184) + 11) + mLo (miB 184) ≤ mLo (miB 144) by decide)⟩ g2 g3 (by rw [e1, e3, e4]; exact hM3) w0 g5 rfl (by decide) ⟨by rw [e2]; exact (show 2 + mCe (miB 184) ≤ mCe (miB 144) by decide), by rw [e2]; exact (show 12 + mSl (miB 184) ≤ mSl (miB 144) by decide)⟩ (d (by decide +kernel)) (fun vv ws' hK => ?_) (fun E ws' hK => by cases (vdK (x := cxM ht0) hw hK).1)
  obtain ⟨q1, q2⟩ := vdK (x := cxM ht0) hw hK
  cases q1
  rw [q2]
  show WS k' 18 [(0, .ref (vA v 0)), (1, .int (Int32.ofNat A)), (2, .int (Int32.ofNat B)), (3, .int P)] [] (cW v dT bsB (wH w9)) 3 18
  have bad : ¬ pVal A B → WS k' 55 [(0, .ref (vA v 0)), (1, .int (Int32.ofNat A)), (2, .int (Int32.ofNat B)), (3, .int P)] [] (cW v dT bsB (wH w9)) 3 18 := fun hv => by
    rcases ht with ⟨-, rfl⟩ | ⟨q, -⟩
    · have g := gs_at X (thB_ok nt55) hA wle_19 k' C e1 e2 e3 e4 e5 e6 e7 e9 e10 e11 qe (fun o ws h => h)
      have z := g v ⟨wle_rf _, agr_rf _ _, hw, ?_, fun z hz => absurd hz List.not_mem_nil, e8.symm, fun p hp => absurd hp List.not_mem_nil⟩
      · replace z : WS k' 55 [(0, .ref (vA v 0)), (1, .int (vI v 1)), (2, .int (vI v 2)), (3, .int (vI v 3))] [] (cW v dT bsB (wH w9)) 3 18 := z
        rw [u1, u2, u3] at z
        exact z
      · intro a ha
        replace ha : some a ∈ [some (aR (some 0)), some (aS 1), some (aS 2), some (aS 3)] := ha
        simp only [List.mem_cons, List.not_mem_nil, or_false, Option.some.injEq] at ha
        rcases ha with e | e | e | e <;> subst e
        · exact sc0
        · exact scS 1 (by decide)
        · exact scS 2 (by decide)
        · exact scS 3 (by decide)
    · exact absurd q hv
  have good : pVal A B → WS k' 65 [(0, .ref (vA v 0)), (1, .int (Int32.ofNat A)), (2, .int (Int32.ofNat B)), (3, .int P)] [] (cW v dT bsB (wH w9)) 3 18 := fun hv => by
    rcases ht with ⟨q, -⟩ | ⟨-, rfl⟩
    · exact absurd hv q
    ·
      refine w_aload_n C (i := 0) (x := (vA v 0)) (d (by decide +kernel)) (List.Mem.head _) ?_
      refine w_get C 0 c1 w0 c2 (by rw [e6]; exact c3) (v := .ref (vA v 25)) (by rw [List.getElem?_map, rfA_ok r9_3]; rfl) (d (by decide +kernel)) ?_
      refine w_iload_n C (i := 1) (x := Int32.ofNat A) (d (by decide +kernel)) (List.Mem.tail _ (List.Mem.head _)) ?_
      refine w_iload_n C (i := 2) (x := Int32.ofNat B) (d (by decide +kernel)) (List.Mem.tail _ (List.Mem.tail _ (List.Mem.head _))) ?_
      refine w_iload_n C (i := 3) (x := P) (d (by decide +kernel)) (List.Mem.tail _ (List.Mem.tail _ (List.Mem.tail _ (List.Mem.head _)))) ?_
      refine w_callV (As := [.int (Int32.ofNat A), .int (Int32.ofNat B), .int P]) (st := []) (y := yA 29) (rm := mRm (miB 29)) (K := Kd (cxM hh0) dT w9 v (r144 (some (pN A B (decide (P = 0)))))) C ⟨by rw [e6]; exact i1, i4.1, i4.2.1, i4.2.2, by rw [e2]; exact (show mFr (miB 29) + 1 ≤ mFr (miB 144) by decide), by rw [e2]; exact (show 8 + (mNL (miB 29) + 11) + mLo (miB 29) ≤ mLo (miB 144) by decide)⟩ i2 i3 ?_ w25 i5 rfl (by decide) ⟨by rw [e2]; exact (show 3 + mCe (miB 29) ≤ mCe (miB 144) by decide), by rw [e2]; exact (show 18 + mSl (miB 29) ≤ mSl (miB 144) by decide)⟩ (d (by decide +kernel)) (fun vv ws' hK => ?_) (fun E ws' hK => ?_)
      · rw [e1, e3, e4]
        refine mb_of X.1.2.1 (by decide) (Nat.le_of_ble_eq_true rfl) (fun k2 C' f1 f2 f3 f4 f5 f6 f7 f8 f9 f10 f11 qf => ?_)
        have P7 : (((cW v dT bsB (wH w9)).set 26 (vA v 26, .inl (dT 0, 128, .inl (fun j => if j < 128 then cBz v b26 j else 0)))).set 27 (vA v 27, .inl (dT 1, 8, .inr (.inl (fun j => if j < 8 then cBq v b27 j else 0))))).set 28 (vA v 28, .inl (dT 1, 8, .inr (.inl (fun j => if j < 8 then cBq v b28 j else 0)))) = cW v dT bsB (wH w9) := by
          have q1 : (cW v dT bsB (wH w9)).set 26 (vA v 26, .inl (dT 0, 128, .inl (fun j => if j < 128 then cBz v b26 j else 0))) = cW v dT bsB (wH w9) := set_same w26
          have q2 : (cW v dT bsB (wH w9)).set 27 (vA v 27, .inl (dT 1, 8, .inr (.inl (fun j => if j < 8 then cBq v b27 j else 0)))) = cW v dT bsB (wH w9) := set_same w27
          rw [q1, q2]
          exact set_same w28
        rw [← P7]
        have hT1 : ∀ f g h, ((((cW v dT bsB (wH w9)).set 26 (vA v 26, .inl (dT 0, 128, .inl f))).set 27 (vA v 27, .inl (dT 1, 8, .inr (.inl g)))).set 28 (vA v 28, .inl (dT 1, 8, .inr (.inl h))))[25]? = some (vA v 25, .inr (3, q3f.map (cv v))) := fun f g h => by
          rw [List.getElem?_set_ne (by decide), List.getElem?_set_ne (by decide), List.getElem?_set_ne (by decide)]
          exact w25
        refine pa_body (rm := mRm (miB 28)) (mL := 7) (qt := 25) (gs := q3f.map (cv v)) (Wd := fun f g h => (((cW v dT bsB (wH w9)).set 26 (vA v 26, .inl (dT 0, 128, .inl f))).set 27 (vA v 27, .inl (dT 1, 8, .inr (.inl g)))).set 28 (vA v 28, .inl (dT 1, 8, .inr (.inl h)))) C' f7 f8 f9 qf ⟨by rw [f6]; exact j1, j4.1, j4.2.1, j4.2.2, by rw [f2]; exact (show mFr (miB 28) + 1 ≤ mFr (miB 29) by decide), by rw [f2]; exact (show 8 + (7 + 11) + mLo (miB 28) ≤ mLo (miB 29) by decide)⟩ j2 j3 j5 rfl rfl ?_ hT1 hA1 hB1 hv ?_ (fun j hj => if_neg (by omega)) (fun j hj => if_neg (by omega)) ?_
        · intro c f g h hc hf hg hh
          rw [f1, f3, f4]
          refine pt_mb X (qt := 25) (qP := 26) (qL := 27) (qH := 28) (aP := vA v 26) (aL := vA v 27) (aH := vA v 28) (Wd := fun f g h => (((cW v dT bsB (wH w9)).set 26 (vA v 26, .inl (dT 0, 128, .inl f))).set 27 (vA v 27, .inl (dT 1, 8, .inr (.inl g)))).set 28 (vA v 28, .inl (dT 1, 8, .inr (.inl h)))) hT1 (by rw [List.getElem?_map, rfA_ok r9_0]; rfl) (by rw [List.getElem?_map, rfA_ok r9_1]; rfl) (by rw [List.getElem?_map, rfA_ok r9_2]; rfl) ?_ ?_ ?_ ?_ ?_ ?_ hc hf hP1 hP2 hg hh (fun g' h' z1 z2 => ⟨rfl, g', h', z1, z2, rfl⟩)
          · intro f g h
            rw [List.getElem?_set_ne (by decide), List.getElem?_set_ne (by decide), List.getElem?_set, if_pos rfl, if_pos (by rw [len]; decide)]
          · intro f g h
            rw [List.getElem?_set_ne (by decide), List.getElem?_set, if_pos rfl, if_pos (by rw [List.length_set, len]; decide)]
          · intro f g h
            rw [List.getElem?_set, if_pos rfl, if_pos (by rw [List.length_set, List.length_set, len]; decide)]
          · intro f g h f'
            show List.set (List.set (List.set (List.set _ 26 _) 27 _) 28 _) 26 _ = _
            rw [List.set_comm _ _ (show (28 : Nat) ≠ 26 by decide), List.set_comm _ _ (show (27 : Nat) ≠ 26 by decide), List.set_set]
          · intro f g h g'
            show List.set (List.set (List.set (List.set _ 26 _) 27 _) 28 _) 27 _ = _
            rw [List.set_comm _ _ (show (28 : Nat) ≠ 27 by decide), List.set_set]
          · intro f g h g'
            show List.set (List.set (List.set (List.set _ 26 _) 27 _) 28 _) 28 _ = _
            rw [List.set_set]
        · intro j
          by_cases hj : j < 128
          · show (if j < 128 then _ else _) = _
            rw [if_pos hj]
            exact zrB_ok z9 o26 j hj
          · exact if_neg hj
        · intro f g h z1 z2 z3
          exact n3_ok (x := cxM hh0) (z := (pN A B (decide (P = 0)) : Nat)) hw (by decide) (by decide) (by decide) z1 z2 z3
      · obtain ⟨r, hr, v', x1, x2, x3, x4, x5, x6⟩ := hK
        have er := List.mem_singleton.mp hr
        subst er
        cases x5
        show WS k' 75 _ [.int (Int32.ofInt ((pN A B (decide (P = 0)) : Nat) : Int))] ws' 3 18
        refine w_iret C qe e9 rfl (d (by decide +kernel)) (show 3 ≤ mCe (miB 144) by decide) (show 18 ≤ mSl (miB 144) by decide) ?_
        exact ⟨_, List.mem_singleton.mpr rfl, v', x1, x2, x3, x4, rfl, x6⟩
      · obtain ⟨r, hr, v', x1, x2, x3, x4, x5, x6⟩ := hK
        have er := List.mem_singleton.mp hr
        subst er
        cases x5
  refine w_iload_n C (i := 1) (x := Int32.ofNat A) (d (by decide +kernel)) (List.Mem.tail _ (List.Mem.head _)) ?_
  refine w_bipush C (n := 64) (z := 64) (d (by decide +kernel)) (by decide) ?_
  refine w_idiv C (d (by decide +kernel)) (by decide) ?_
  rw [a1]
  refine w_iload_n C (i := 2) (x := Int32.ofNat B) (d (by decide +kernel)) (List.Mem.tail _ (List.Mem.tail _ (List.Mem.head _))) ?_
  refine w_bipush C (n := 64) (z := 64) (d (by decide +kernel)) (by decide) ?_
  refine w_idiv C (d (by decide +kernel)) (by decide) ?_
  rw [b1]
  refine w_icmp_ne C (off := 29) (t := 55) (d (by decide +kernel)) (by decide) (fun z => ?_) (fun z => ?_)
  ·
    exact bad (fun hv => z (by rw [hv.1]))
  ·
    have z1 : A / 64 = B / 64 := (on_eq (by omega) (by omega)).mp z
    refine w_iload_n C (i := 1) (x := Int32.ofNat A) (d (by decide +kernel)) (List.Mem.tail _ (List.Mem.head _)) ?_
    refine w_bipush C (n := 7) (z := 7) (d (by decide +kernel)) (by decide) ?_
    refine w_iand C (d (by decide +kernel)) ?_
    rw [a2]
    refine w_iload_n C (i := 2) (x := Int32.ofNat B) (d (by decide +kernel)) (List.Mem.tail _ (List.Mem.tail _ (List.Mem.head _))) ?_
    refine w_bipush C (n := 7) (z := 7) (d (by decide +kernel)) (by decide) ?_
    refine w_iand C (d (by decide +kernel)) ?_
    rw [b2]
    refine w_icmp_gt C (off := 18) (t := 55) (d (by decide +kernel)) (by decide) (fun z2 => ?_) (fun z2 => ?_)
    ·
      exact bad (fun hv => absurd ((on_lt (by omega) (by omega)).mp z2) (by have := hv.2.1; omega))
    ·
      have z3 : A % 8 ≤ B % 8 := Nat.le_of_not_lt (fun z => z2 ((on_lt (by omega) (by omega)).mpr z))
      refine w_iload_n C (i := 1) (x := Int32.ofNat A) (d (by decide +kernel)) (List.Mem.tail _ (List.Mem.head _)) ?_
      refine w_iconst C (n := 3) (d (by decide +kernel)) ?_
      refine w_ishr C (d (by decide +kernel)) ?_
      refine w_bipush C (n := 7) (z := 7) (d (by decide +kernel)) (by decide) ?_
      refine w_iand C (d (by decide +kernel)) ?_
      rw [a3]
      refine w_iload_n C (i := 2) (x := Int32.ofNat B) (d (by decide +kernel)) (List.Mem.tail _ (List.Mem.tail _ (List.Mem.head _))) ?_
      refine w_iconst C (n := 3) (d (by decide +kernel)) ?_
      refine w_ishr C (d (by decide +kernel)) ?_
      refine w_bipush C (n := 7) (z := 7) (d (by decide +kernel)) (by decide) ?_
      refine w_iand C (d (by decide +kernel)) ?_
      rw [b3]
      refine w_icmp_le C (off := 13) (t := 65) (d (by decide +kernel)) (by decide) (fun z4 => ?_) (fun z4 => ?_)
      ·
        exact good ⟨z1, z3, (on_le (by omega) (by omega)).mp z4⟩
      ·
        exact bad (fun hv => z4 ((on_le (by omega) (by omega)).mpr hv.2.2))
def wT (w : AW) (m : Nat) (fs : List AV) (z : Int) : AW := wHp w (hSet (wH w) m (.inr (12, fs.set 0 (aI z))))
def n1 (w : AW) (q : Nat) : AW := (w.1, hSet (wH w) q (.inl (0, 128, .inr (-2147483648, 2147483647, wA w))), wL w, wA w + 1, wX w)
def r235 (t : Option Nat) (w : AW) (m : Nat) (fs : List AV) (qP : Nat) : List AR := match t with
  | none => [(.inl (some (aI 0)), wT w m fs 2)]
  | some n => [(.inl (some (aI (n : Int))), n1 (wT w m fs 0) qP)]
def ctM (t : Option Nat) (as : List AV) (w : AW) : Option (List AR) := match as with
  | [.inr (.inr (.inr (.inr (.inl (some m))))), .inr (.inl 1), .inr (.inl 2), .inr (.inl 3)] => match hGet bsB (wH w) m with
    | .inr (12, fs) => match rfA fs 35, lGet (fs.map some) 0 with
      | some qP, some (.inl _) => match hGet bsB (wH w) qP with
        | .inl (0, 128, bP) => if Nat.blt m (wH w).1 && Nat.blt qP (wH w).1 && zrB bP then some (r235 t w m fs qP) else none
        | _ => none
      | _, _ => none
    | _ => none
  | _ => none
theorem n1_ok {x : ACx} {w : AW} {v : VL} {q : Nat} {f : Nat → Int32} {z : Int} (hw : okW (xB x) v w) (h1 : q < (wH w).1) (z1 : ∀ j, 128 ≤ j → f j = 0) : Kd x dT w v [(.inl (some (aI z)), n1 w q)] (.inl (some (.int (Int32.ofInt z)))) ((cW v dT (xB x) (wH w)).set q (vA v q, .inl (dT 0, 128, .inl f))) := by
  have hle : wle w (n1 w q) := ⟨Nat.le_refl _, Nat.le_refl _, Nat.le_refl _, Nat.le_add_right _ _, Nat.le_refl _⟩
  have ha : agr w v (v3 v (wA w) f (fun _ => 0) (fun _ => 0)) := ⟨fun _ _ => rfl, fun _ _ => rfl, fun _ _ => rfl, fun j hj => ⟨by show vC v j = if j = wA w then f else vC v j; rw [if_neg (by omega)], by show vD v j = if j = wA w + 1 then (fun _ => 0) else if j = wA w + 2 then (fun _ => 0) else vD v j; rw [if_neg (by omega), if_neg (by omega)]⟩, fun _ _ => rfl⟩
  refine ⟨_, List.mem_cons_self, v3 v (wA w) f (fun _ => 0) (fun _ => 0), ha, hle, ⟨fun j c hc => hw.1 j c hc, fun i hi => ?_, fun i hi => ?_, fun j c hc => hw.2.2.2 j c hc⟩, fun a h => (by cases h; trivial), rfl, ?_⟩
  · show okC _ (hGet (xB x) (hSet (wH w) q _) i)
    rw [hGet_set]
    by_cases e2 : i = q
    · rw [if_pos e2]; exact fun _ j _ => z_toInt _
    · rw [if_neg e2]; exact okC_agr ha (hw.2.2.1 i hi) (hw.2.1 i hi)
  · show scC _ (hGet (xB x) (hSet (wH w) q _) i)
    rw [hGet_set]
    by_cases e2 : i = q
    · rw [if_pos e2]; show wA w < wA w + 1; omega
    · rw [if_neg e2]; exact scC_mono hle (hw.2.2.1 i hi)
  · show _ = cW (v3 v (wA w) f (fun _ => 0) (fun _ => 0)) dT (xB x) (hSet (wH w) q _)
    rw [cW_set h1, ← cW_agr ha hw.2.2.1]
    have e1 : cC (v3 v (wA w) f (fun _ => 0) (fun _ => 0)) dT (.inl (0, 128, .inr (-2147483648, 2147483647, wA w))) = .inl (dT 0, 128, .inl f) := by
      show Sum.inl (dT 0, 128, Sum.inl (fun j => if j < 128 then (if wA w = wA w then f else _) j else 0)) = _
      rw [if_pos rfl]
      congr 4
      funext j
      by_cases hj : j < 128
      · rw [if_pos hj]
      · rw [if_neg hj, z1 j (by omega)]
    rw [e1]
    rfl
/-- ends seen from a world that is the same in all but cells -/
theorem Kd_same {x : ACx} {w w1 : AW} {v : VL} {rs : List AR} {o : mb_O} {ws : va_W} (h1 : wle w w1) (h : Kd x dT w1 v rs o ws) : Kd x dT w v rs o ws := by
  obtain ⟨r, hr, v', a1, a2, a3⟩ := h
  exact ⟨r, hr, v', agr_mono a1 h1, wle_tr h1 a2, a3⟩
theorem pmR {s0 : State} (hN : ncX s0) : (clX 12 ∧ 0 < (nCl 12).2.1 ∧ 35 < (nCl 12).2.1) ∧ (Cond.fieldLink (yA 235).cls 172 ((nCl 12).2.2.1 0).1 ((nCl 12).2.2.1 0).2.1 ((nCl 12).2.2.1 0).2.2.1 ∈ gT ∧ Cond.fieldLink (yA 235).cls 70 ((nCl 12).2.2.1 35).1 ((nCl 12).2.2.1 35).2.1 ((nCl 12).2.2.1 35).2.2.1 ∈ gT ∧ Cond.fieldLink (yA 187).cls 172 ((nCl 12).2.2.1 0).1 ((nCl 12).2.2.1 0).2.1 ((nCl 12).2.2.1 0).2.2.1 ∈ gT) ∧
    (Cond.methodLink (yA 235).cls 209 (yA 188) ∈ gT ∧ Cond.static (yA 188) ∈ gT ∧ mtX cx0 yA byA rtA hhA 188 3) := by
  have g0 : rowQ cx0 yA byA rtA hhA 235 2 (.putfield 172, 3, 12, 0, 0) := (rows_ok (a0 := #[]) hN (by rfl)).1
  have g35 : rowQ cx0 yA byA rtA hhA 235 182 (.getfield 70, 3, 12, 35, 0) := (rows_ok (a0 := #[]) hN (by rfl)).1
  have gb : rowQ cx0 yA byA rtA hhA 187 5 (.getfield 172, 3, 12, 0, 0) := (rows_ok (a0 := #[]) hN (by rfl)).1
  have gc : rowQ cx0 yA byA rtA hhA 235 10 (.invokestatic 209, 3, 188, 1, 0) := (rows_ok (a0 := #[]) hN (by rfl)).1
  obtain ⟨c1, c2, -⟩ := g0.2.2
  obtain ⟨-, c3, c4⟩ := g35.2.2
  obtain ⟨-, c5, c6⟩ := gb.2.2
  refine ⟨⟨c1, c5, c3⟩, ⟨c2, c4, c6⟩, ?_⟩
  rcases gc.2.2 with ⟨q, -⟩ | ⟨q, -⟩ | ⟨q, -⟩ | ⟨-, -, q1, q2, q3⟩
  · cases q
  · cases q
  · cases q
  · exact ⟨q1, q2, q3⟩
theorem p235 (X : LX k dT a0 b L xs) (h : HT) {v0 v : VL} {A B : Nat} {P : Int32} {t : Option Nat} (F : P9 v0 A B P t) {as : List AV} {w : AW} {rs : List AR} (hc : ctM t as w = some rs) (hw : okW bsB v w) (hA : agr wB1 v0 v) : MB (kL k) (kS0 k) (kD k) (yA 235) (cdX (cxM h) yA byA rtA hhA 235) (mRm (xM (cxM h) 235)) (as.map (cv v)) (cW v dT bsB (wH w)) (Kd (cxM h) dT w v rs) := by
  obtain ⟨⟨v1, v2, v3⟩, ⟨hA1, hB1, hP1, hP2⟩, ht⟩ := F
  have u1 : vI v 1 = Int32.ofNat A := (hA.1 1 (by decide)).symm.trans v1
  have u2 : vI v 2 = Int32.ofNat B := (hA.1 2 (by decide)).symm.trans v2
  have u3 : vI v 3 = P := (hA.1 3 (by decide)).symm.trans v3
  unfold ctM at hc
  split at hc
  · rename_i m
    split at hc
    · rename_i fs hm
      split at hc
      · rename_i qP z0 f35 fz
        have f35 := rfA_ok f35
        have fz : fs[0]? = some (aI z0) := by
          have := lGet_mem fz
          rw [List.getElem?_map] at this
          cases hf : fs[0]? with
          | none => rw [hf] at this; cases this
          | some a => rw [hf] at this; cases this; rfl
        split at hc
        · rename_i bP gP
          split at hc
          · rename_i hq
            cases hc
            simp only [Bool.and_eq_true] at hq
            obtain ⟨⟨i1, i2⟩, i3⟩ := hq
            have i1 := Nat.blt_eq.mp i1
            have i2 := Nat.blt_eq.mp i2
            have j1 : m ≠ qP := fun e => by rw [e, gP] at hm; cases hm
            have oP := hw.2.1 qP i2
            rw [gP] at oP
            have wm := cW_get (v := v) (dT := dT) (B := bsB) (h := wH w) i1
            have wP := cW_get (v := v) (dT := dT) (B := bsB) (h := wH w) i2
            rw [hm] at wm
            rw [gP] at wP
            have len : (cW v dT bsB (wH w)).length = (wH w).1 := by unfold cW; simp
            have hN := X.1.2.2.2.1
            obtain ⟨⟨c1, c2, c3⟩, ⟨c4, c5, c6⟩, c7, c8, c9⟩ := pmR hN
            obtain ⟨d1, d2, d3, d4, N2, T2, d5⟩ := cvR hN (mn := 235) (pc := 32) (idx := 229) (a := 187) (n := 2) (c := 12) rfl rfl rfl
            have t0 := X.1.2.2.1 0
            have l0 : 0 < (fs.map (cv v)).length := by rw [List.length_map]; exact (List.getElem?_eq_some_iff.mp fz).1
            have hP1w : ∀ t f, (((cW v dT bsB (wH w)).set m (vA v m, .inr (12, (fs.map (cv v)).set 0 (.int t)))).set qP (vA v qP, .inl (dT 0, 128, .inl f)))[m]? = some (vA v m, .inr (12, (fs.map (cv v)).set 0 (.int t))) := fun t f => by
              rw [List.getElem?_set_ne j1.symm, List.getElem?_set, if_pos rfl, if_pos (by rw [len]; exact i1)]
            have hF0 : ∀ t, ((fs.map (cv v)).set 0 (.int t))[0]? = some (.int t) := fun t => by
              rw [List.getElem?_set, if_pos rfl, if_pos l0]
            have hP3 : ∀ t f t', (((cW v dT bsB (wH w)).set m (vA v m, .inr (12, (fs.map (cv v)).set 0 (.int t)))).set qP (vA v qP, .inl (dT 0, 128, .inl f))).set m (vA v m, .inr (12, ((fs.map (cv v)).set 0 (.int t)).set 0 (.int t'))) = ((cW v dT bsB (wH w)).set m (vA v m, .inr (12, (fs.map (cv v)).set 0 (.int t')))).set qP (vA v qP, .inl (dT 0, 128, .inl f)) := fun t f t' => by
              rw [List.set_comm _ _ j1.symm, List.set_set, List.set_set]
            have s0 : (fs.map (cv v)).set 0 (.int (Int32.ofInt z0)) = fs.map (cv v) := set_same (by rw [List.getElem?_map, fz]; rfl)
            have P7 : ((cW v dT bsB (wH w)).set m (vA v m, .inr (12, (fs.map (cv v)).set 0 (.int (Int32.ofInt z0))))).set qP (vA v qP, .inl (dT 0, 128, .inl (fun j => if j < 128 then cBz v bP j else 0))) = cW v dT bsB (wH w) := by
              rw [s0]
              have q1 : (cW v dT bsB (wH w)).set m (vA v m, .inr (12, fs.map (cv v))) = cW v dT bsB (wH w) := set_same wm
              rw [q1]
              exact set_same wP
            refine mb_of X.1.2.1 (by decide) (Nat.le_of_ble_eq_true rfl) (fun k' C e1 e2 e3 e4 e5 e6 e7 e8 e9 e10 e11 qe => ?_)
            show WS k' 0 (lv_args 0 [.ref (vA v m), .int (vI v 1), .int (vI v 2), .int (vI v 3)]) [] _ 0 0
            rw [u1, u2, u3, ← P7]
            refine pm_body (rI := mRm (miB 188)) (rB := mRm (miB 187)) (mI := 3) (mB := 3) (qt := m) (qP := qP) (bt := vA v m) (aP := vA v qP) (ci := dT 0) (fsT := fun t => (fs.map (cv v)).set 0 (.int t)) (Wd := fun t f => ((cW v dT bsB (wH w)).set m (vA v m, .inr (12, (fs.map (cv v)).set 0 (.int t)))).set qP (vA v qP, .inl (dT 0, 128, .inl f))) (th0 := Int32.ofInt z0) (P := P)
              C e7 e8 e9 qe c1 c2 c3 (by rw [e6]; exact c4) (by rw [e6]; exact c5) rfl rfl (by rw [e5]; exact t0) c8 ⟨by rw [e6]; exact c7, c9.1, c9.2.1, c9.2.2, by rw [e2]; exact (show mFr (miB 188) + 1 ≤ mFr (miB 235) by decide), by rw [e2]; exact (show 8 + (3 + 11) + mLo (miB 188) ≤ mLo (miB 235) by decide)⟩ rfl rfl ?_
              ⟨by rw [e6]; exact d1, d4.1, d4.2.1, d4.2.2, by rw [e2]; exact (show mFr (miB 187) + 1 ≤ mFr (miB 235) by decide), by rw [e2]; exact (show 8 + (3 + 11) + mLo (miB 187) ≤ mLo (miB 235) by decide)⟩ d2 d3 d5 rfl rfl ?_ hP1w hF0 ?_ ?_ hP3 ?_ hA1 hB1 hP1 hP2 ?_ ?_ ?_
            · intro x lo hi ws
              rw [e1, e3, e4]
              exact mb_of X.1.2.1 (by decide) (Nat.le_of_ble_eq_true rfl) (fun k2 C' f1 f2 f3 f4 f5 f6 f7 f8 f9 f10 f11 qf => in_body C' f7 f9 qf ⟨rfl, rfl⟩)
            · intro f is what his
              rw [e1, e3, e4]
              refine mb_of X.1.2.1 (by decide) (Nat.le_of_ble_eq_true rfl) (fun k2 C' f1 f2 f3 f4 f5 f6 f7 f8 f9 f10 f11 qf => ?_)
              refine bad_body (qt := m) (fsT := fun t => (fs.map (cv v)).set 0 (.int t)) (Wd := fun t => ((cW v dT bsB (wH w)).set m (vA v m, .inr (12, (fs.map (cv v)).set 0 (.int t)))).set qP (vA v qP, .inl (dT 0, 128, .inl f))) C' f7 f9 qf c1 c2 (by rw [f6]; exact c6) rfl rfl (fun t => hP1w t f) hF0 (fun t t' => hP3 t f t') ?_
              rcases his with his | his
              · exact Or.inl ⟨his, Or.inl ⟨his, rfl, rfl⟩⟩
              · exact Or.inr ⟨his.1, his.2, Or.inr ⟨his.1, rfl, rfl⟩⟩
            · intro t
              show ((fs.map (cv v)).set 0 (.int t))[35]? = _
              rw [List.getElem?_set_ne (by decide), List.getElem?_map, f35]; rfl
            · intro t f
              rw [List.getElem?_set, if_pos rfl, if_pos (by rw [List.length_set, len]; exact i2)]
            · intro t f f'
              rw [List.set_set]
            · intro j
              by_cases hj : j < 128
              · show (if j < 128 then _ else _) = _
                rw [if_pos hj]
                exact zrB_ok i3 oP j hj
              · exact if_neg hj
            · intro hv
              rcases ht with ⟨-, rfl⟩ | ⟨q, -⟩
              · have hw2 : okW bsB v (wT w m fs 2) := fld_ok hw i1 hm trivial
                refine ⟨_, List.mem_singleton.mpr rfl, v, agr_rf _ _, wle_rf w, hw2, fun a h => (by cases h; trivial), rfl, ?_⟩
                have q1 : (cW v dT bsB (wH w)).set m (vA v m, .inr (12, (fs.map (cv v)).set 0 (.int (Int32.ofInt 2)))) = cW v dT bsB (wH (wT w m fs 2)) := fld_cW (a := aI 2) i1
                show ((cW v dT bsB (wH w)).set m (vA v m, .inr (12, (fs.map (cv v)).set 0 (.int (Int32.ofInt 2))))).set qP _ = _
                rw [q1]
                refine set_same ?_
                have := cW_get (v := v) (dT := dT) (B := bsB) (h := wH (wT w m fs 2)) (i := qP) i2
                rw [show hGet bsB (wH (wT w m fs 2)) qP = .inl (0, 128, bP) by show hGet bsB (hSet (wH w) m _) qP = _; rw [hGet_set, if_neg j1.symm, gP]] at this
                exact this
              · exact absurd q hv
            · intro hv f z1
              rcases ht with ⟨q, -⟩ | ⟨-, rfl⟩
              · exact absurd hv q
              · have hw2 : okW bsB v (wT w m fs 0) := fld_ok hw i1 hm trivial
                have q1 : (cW v dT bsB (wH w)).set m (vA v m, .inr (12, (fs.map (cv v)).set 0 (.int (Int32.ofInt 0)))) = cW v dT bsB (wH (wT w m fs 0)) := fld_cW (a := aI 0) i1
                show Kd (cxM h) dT w v _ _ (((cW v dT bsB (wH w)).set m (vA v m, .inr (12, (fs.map (cv v)).set 0 (.int (Int32.ofInt 0))))).set qP _)
                rw [q1]
                exact Kd_same (show wle w (wT w m fs 0) from wle_rf w) (n1_ok (x := cxM h) (z := (pN A B (decide (P = 0)) : Nat)) hw2 i2 z1)
          · cases hc
        · cases hc
      · cases hc
    · cases hc
  · cases hc
/-- the contracts of the case, for one way of the script's ints -/
def ct9 (t : Option Nat) : Nat → List AV → AW → Option (List AR) := fun mn as w => if Nat.beq mn 144 then (if qLV as as9 && eqW w w9 then some (r144 t) else none) else if Nat.beq mn 235 then ctM t as w else none
def h9 (t : Option Nat) : HT := (lhA, smA, ct9 t)
theorem ct9_ok (X : LX k dT a0 b L xs) {v0 : VL} {A B : Nat} {P : Int32} {t : Option Nat} (F : P9 v0 A B P t) : CtX (h9 t) k dT v0 := fun mn as w rs v q1 q2 q3 q4 q5 q6 => by
  replace q1 : ct9 t mn as w = some rs := q1
  unfold ct9 at q1
  split at q1
  · rename_i e
    rw [Nat.eq_of_beq_eq_true e]
    split at q1
    · rename_i e2
      rw [Bool.and_eq_true] at e2
      have g1 := qLV_ok e2.1
      have g2 := eqW_ok e2.2
      subst g1
      subst g2
      cases q1
      exact p144 X (h9 t) F q2 q3
    · cases q1
  · split at q1
    · rename_i e
      rw [Nat.eq_of_beq_eq_true e]
      exact p235 X (h9 t) F q1 q2 q3
    · cases q1
noncomputable def run9 (t : Option Nat) : Bool := okEnds (oRun cfA (cxS (h9 t) 6) (oMeth cfA (cxM (h9 t)) 60) 350 350 100000 S9)
theorem c9_bad : run9 none = true := by decide +kernel
theorem c9_0 : (List.range 13).all (fun i => run9 (some (0 + i))) = true := by decide +kernel
theorem c9_1 : (List.range 13).all (fun i => run9 (some (13 + i))) = true := by decide +kernel
theorem c9_2 : (List.range 13).all (fun i => run9 (some (26 + i))) = true := by decide +kernel
theorem c9_3 : (List.range 13).all (fun i => run9 (some (39 + i))) = true := by decide +kernel
theorem c9_4 : (List.range 13).all (fun i => run9 (some (52 + i))) = true := by decide +kernel
theorem c9_a1 : okEnds (oRun cfA (cxS ht0 6) (oMeth cfA (cxM ht0) 60) 350 350 100000 (narS (swS 9) 1 (-2147483648) (-1))) = true := by decide +kernel
theorem c9_a2 : okEnds (oRun cfA (cxS ht0 6) (oMeth cfA (cxM ht0) 60) 350 350 100000 (narS (swS 9) 1 128 2147483647)) = true := by decide +kernel
theorem c9_b1 : okEnds (oRun cfA (cxS ht0 6) (oMeth cfA (cxM ht0) 60) 350 350 100000 (narS (narS (swS 9) 1 0 127) 2 (-2147483648) (-1))) = true := by decide +kernel
theorem c9_b2 : okEnds (oRun cfA (cxS ht0 6) (oMeth cfA (cxM ht0) 60) 350 350 100000 (narS (narS (swS 9) 1 0 127) 2 128 2147483647)) = true := by decide +kernel
theorem c9_p1 : okEnds (oRun cfA (cxS ht0 6) (oMeth cfA (cxM ht0) 60) 350 350 100000 (narS (narS (narS (swS 9) 1 0 127) 2 0 127) 3 (-2147483648) (-2))) = true := by decide +kernel
theorem c9_p2 : okEnds (oRun cfA (cxS ht0 6) (oMeth cfA (cxM ht0) 60) 350 350 100000 (narS (narS (narS (swS 9) 1 0 127) 2 0 127) 3 8 2147483647)) = true := by decide +kernel
theorem c9_some {n : Nat} (hn : n ≤ 64) : run9 (some n) = true := by
  have g : ∀ {a : Nat}, (List.range 13).all (fun i => run9 (some (a + i))) = true → a ≤ n → n < a + 13 → run9 (some n) = true := fun {a} h h1 h2 => by
    have := List.all_eq_true.mp h (n - a) (List.mem_range.mpr (by omega))
    rw [Nat.add_sub_cancel' h1] at this
    exact this
  rcases (show n < 13 ∨ (13 ≤ n ∧ n < 26) ∨ (26 ≤ n ∧ n < 39) ∨ (39 ≤ n ∧ n < 52) ∨ 52 ≤ n by omega) with h | h | h | h | h
  · exact g c9_0 (by omega) (by omega)
  · exact g c9_1 (by omega) (by omega)
  · exact g c9_2 (by omega) (by omega)
  · exact g c9_3 (by omega) (by omega)
  · exact g c9_4 (by omega) (by omega)
theorem in9 (X : LX k dT a0 b 6 xs) {v : VL} (h1 : vO v 0 = b) (h2 : ∀ z, z < 6 → vI v z = xs z) : GS k (cxS ht0 6) 350 350 dT wH0 v S9 := fun u I => by
  have ok := I.2.2.1.1
  have b1 := ok 1 (0, 127, 1, 0) rfl
  have b2 := ok 2 (0, 127, 2, 0) rfl
  have b3 := ok 3 (-1, 7, 3, 0) rfl
  have e1 : vI v 1 = vI u 1 := I.2.1.1 1 (by decide)
  have e2 : vI v 2 = vI u 2 := I.2.1.1 2 (by decide)
  have e3 : vI v 3 = vI u 3 := I.2.1.1 3 (by decide)
  replace b1 : (0 : Int) ≤ (vI u 1).toInt ∧ (vI u 1).toInt ≤ 127 := ⟨b1.1, b1.2.1⟩
  replace b2 : (0 : Int) ≤ (vI u 2).toInt ∧ (vI u 2).toInt ≤ 127 := ⟨b2.1, b2.2.1⟩
  replace b3 : (-1 : Int) ≤ (vI u 3).toInt ∧ (vI u 3).toInt ≤ 7 := ⟨b3.1, b3.2.1⟩
  have n1 : vI v 1 = Int32.ofNat (vI u 1).toInt.toNat := by rw [e1, ← on_of b1.1, Int32.ofInt_toInt]
  have n2 : vI v 2 = Int32.ofNat (vI u 2).toInt.toNat := by rw [e2, ← on_of b2.1, Int32.ofInt_toInt]
  have key : ∃ t, P9 v (vI u 1).toInt.toNat (vI u 2).toInt.toNat (vI u 3) t ∧ run9 t = true := by
    rcases (Classical.em (pVal (vI u 1).toInt.toNat (vI u 2).toInt.toNat)).symm with hv | hv
    · exact ⟨none, ⟨⟨n1, n2, e3⟩, ⟨by omega, by omega, b3.1, b3.2⟩, Or.inl ⟨hv, rfl⟩⟩, c9_bad⟩
    · exact ⟨_, ⟨⟨n1, n2, e3⟩, ⟨by omega, by omega, b3.1, b3.2⟩, Or.inr ⟨hv, rfl⟩⟩, c9_some (pN_le (by omega))⟩
  obtain ⟨t, F, hr⟩ := key
  exact GS_hints (h := h9 t) rfl (law_run (ct9_ok X F) X (Nat.le_refl _) hr wle_BH (by decide) (by decide) h1 h2) u I
end PD
