/-! Paint: contracts of the class's paint and the model's, at the one world where the law calls the class -/
/-- the world with three arrays forgotten: ints, longs, longs -/
def n3 (w : AW) (qP qL qH : Nat) : AW := (w.1, hSet (hSet (hSet (wH w) qP (.inl (0, 128, .inr (-2147483648, 2147483647, wA w)))) qL (.inl (1, 8, .inr (0, 0, wA w + 1)))) qH (.inl (1, 8, .inr (0, 0, wA w + 2))), wL w, wA w + 3, wX w)
def v3 (v : VL) (n : Nat) (f : Nat → Int32) (g h : Nat → Int64) : VL := (v.1, v.2.1, v.2.2.1, v.2.2.2.1, fun k => if k = n then f else vC v k, fun k => if k = n + 1 then g else if k = n + 2 then h else vD v k)
theorem n3_ok {x : ACx} {dT : Nat → ClassId} {w : AW} {v : VL} {qP qL qH : Nat} {f : Nat → Int32} {g h : Nat → Int64} {z : Int} (hw : okW (xB x) v w) (h1 : qP < (wH w).1) (h2 : qL < (wH w).1) (h3 : qH < (wH w).1)
    (z1 : ∀ j, 128 ≤ j → f j = 0) (z2 : ∀ j, 8 ≤ j → g j = 0) (z3 : ∀ j, 8 ≤ j → h j = 0) : Kd x dT w v [(.inl (some (aI z)), n3 w qP qL qH)] (.inl (some (.int (Int32.ofInt z)))) ((((cW v dT (xB x) (wH w)).set qP (vA v qP, .inl (dT 0, 128, .inl f))).set qL (vA v qL, .inl (dT 1, 8, .inr (.inl g)))).set qH (vA v qH, .inl (dT 1, 8, .inr (.inl h)))) := by
  have hle : wle w (n3 w qP qL qH) := ⟨Nat.le_refl _, Nat.le_refl _, Nat.le_refl _, Nat.le_add_right _ _, Nat.le_refl _⟩
  have ha : agr w v (v3 v (wA w) f g h) := ⟨fun _ _ => rfl, fun _ _ => rfl, fun _ _ => rfl, fun j hj => ⟨by show vC v j = if j = wA w then f else vC v j; rw [if_neg (by omega)], by show vD v j = if j = wA w + 1 then g else if j = wA w + 2 then h else vD v j; rw [if_neg (by omega), if_neg (by omega)]⟩, fun _ _ => rfl⟩
  refine ⟨_, List.mem_cons_self, v3 v (wA w) f g h, ha, hle, ⟨fun j c hc => hw.1 j c hc, fun i hi => ?_, fun i hi => ?_, fun j c hc => hw.2.2.2 j c hc⟩, fun a h => (by cases h; trivial), rfl, ?_⟩
  · show okC _ (hGet (xB x) (hSet (hSet (hSet (wH w) qP _) qL _) qH _) i)
    rw [hGet_set]
    by_cases e : i = qH
    · rw [if_pos e]; exact fun q => absurd rfl q
    · rw [if_neg e, hGet_set]
      by_cases e1 : i = qL
      · rw [if_pos e1]; exact fun q => absurd rfl q
      · rw [if_neg e1, hGet_set]
        by_cases e2 : i = qP
        · rw [if_pos e2]; exact fun _ j _ => z_toInt _
        · rw [if_neg e2]; exact okC_agr ha (hw.2.2.1 i hi) (hw.2.1 i hi)
  · show scC _ (hGet (xB x) (hSet (hSet (hSet (wH w) qP _) qL _) qH _) i)
    rw [hGet_set]
    by_cases e : i = qH
    · rw [if_pos e]; show wA w + 2 < wA w + 3; omega
    · rw [if_neg e, hGet_set]
      by_cases e1 : i = qL
      · rw [if_pos e1]; show wA w + 1 < wA w + 3; omega
      · rw [if_neg e1, hGet_set]
        by_cases e2 : i = qP
        · rw [if_pos e2]; show wA w < wA w + 3; omega
        · rw [if_neg e2]; exact scC_mono hle (hw.2.2.1 i hi)
  · show _ = cW (v3 v (wA w) f g h) dT (xB x) (hSet (hSet (hSet (wH w) qP _) qL _) qH _)
    rw [cW_set (h := hSet (hSet (wH w) qP _) qL _) h3, cW_set (h := hSet (wH w) qP _) h2, cW_set h1, ← cW_agr ha hw.2.2.1]
    have e1 : cC (v3 v (wA w) f g h) dT (.inl (0, 128, .inr (-2147483648, 2147483647, wA w))) = .inl (dT 0, 128, .inl f) := by
      show Sum.inl (dT 0, 128, Sum.inl (fun j => if j < 128 then (if wA w = wA w then f else _) j else 0)) = _
      rw [if_pos rfl]
      congr 4
      funext j
      by_cases hj : j < 128
      · rw [if_pos hj]
      · rw [if_neg hj, z1 j (by omega)]
    have e2 : cC (v3 v (wA w) f g h) dT (.inl (1, 8, .inr (0, 0, wA w + 1))) = .inl (dT 1, 8, .inr (.inl g)) := by
      show Sum.inl (dT 1, 8, Sum.inr (Sum.inl (fun j => if j < 8 then (if wA w + 1 = wA w + 1 then g else _) j else 0))) = _
      rw [if_pos rfl]
      congr 5
      funext j
      by_cases hj : j < 8
      · rw [if_pos hj]
      · rw [if_neg hj, z2 j (by omega)]
    have e3 : cC (v3 v (wA w) f g h) dT (.inl (1, 8, .inr (0, 0, wA w + 2))) = .inl (dT 1, 8, .inr (.inl h)) := by
      show Sum.inl (dT 1, 8, Sum.inr (Sum.inl (fun j => if j < 8 then (if wA w + 2 = wA w + 1 then g else if wA w + 2 = wA w + 2 then h else _) j else 0))) = _
      rw [if_neg (by omega), if_pos rfl]
      congr 5
      funext j
      by_cases hj : j < 8
      · rw [if_pos hj]
      · rw [if_neg hj, z3 j (by omega)]
    rw [e1, e2, e3]
    rfl
/-- what the script's ints are: a span of cells or not, how many cells change -/
def P9 (v0 : VL) (A B : Nat) (P : Int32) (t : Option Nat) : Prop := (vI v0 1 = Int32.ofNat A ∧ vI v0 2 = Int32.ofNat B ∧ vI v0 3 = P) ∧ (A < 128 ∧ B < 128 ∧ -1 ≤ P.toInt ∧ P.toInt ≤ 7) ∧ ((¬ pVal A B ∧ t = none) ∨ (pVal A B ∧ t = some (pN A B (decide (P = 0)))))
def S9 : AS := narS (narS (narS (swS 9) 1 0 127) 2 0 127) 3 (-1) 7
def w9 : AW := sW S9
def q11f : List AV := match bsB 0 with | .inr (_, fs) => fs | _ => []
def q3f : List AV := match bsB 25 with | .inr (_, fs) => fs | _ => []
def b26 : AB := match bsB 26 with | .inl (_, _, b) => b | _ => .inl []
def b27 : AB := match bsB 27 with | .inl (_, _, b) => b | _ => .inl []
def b28 : AB := match bsB 28 with | .inl (_, _, b) => b | _ => .inl []
theorem g9_0 : hGet bsB (wH w9) 0 = .inr (11, q11f) := rfl
theorem g9_25 : hGet bsB (wH w9) 25 = .inr (3, q3f) := rfl
theorem g9_26 : hGet bsB (wH w9) 26 = .inl (0, 128, b26) := rfl
theorem g9_27 : hGet bsB (wH w9) 27 = .inl (1, 8, b27) := rfl
theorem g9_28 : hGet bsB (wH w9) 28 = .inl (1, 8, b28) := rfl
theorem r9_3 : rfA q11f 3 = some 25 := rfl
theorem r9_0 : rfA q3f 0 = some 26 := rfl
theorem r9_1 : rfA q3f 1 = some 27 := rfl
theorem r9_2 : rfA q3f 2 = some 28 := rfl
theorem z9 : zrB b26 = true := rfl
def as9 : List AV := [aR (some 0), aS 1, aS 2, aS 3]
/-- a call that answers nothing and changes nothing -/
def vdB (o : Option (List AR)) : Bool := match o with
  | some [(.inl none, w)] => eqW w w9
  | _ => false
theorem vdB_ok {o : Option (List AR)} (h : vdB o = true) : o = some [(.inl none, w9)] := by
  unfold vdB at h
  split at h
  · rename_i w
    rw [eqW_ok h]
  · cases h
theorem nc1 : vdB (oMeth cfA (cxM ht0) 58 144 181 [aR (some 0), aS 1] w9) = true := by decide +kernel
theorem nc2 : vdB (oMeth cfA (cxM ht0) 58 144 181 [aR (some 0), aS 2] w9) = true := by decide +kernel
theorem nc3 : vdB (oMeth cfA (cxM ht0) 58 144 184 [aR (some 0), aS 3, aI (-1), aI 7] w9) = true := by decide +kernel
def s55 : AS := (55, as9.map some, [], w9, [], 3, 18)
def thB (o : Option (List AR)) : Bool := match o with
  | some [(.inr 0, w)] => eqW w w9
  | _ => false
theorem thB_ok {o : Option (List AR)} (h : thB o = true) : o = some [(.inr 0, w9)] := by
  unfold thB at h
  split at h
  · rename_i w
    rw [eqW_ok h]
  · cases h
theorem nt55 : thB (oRun cfA (cxM ht0) (oMeth cfA (cxM ht0) 58) 144 144 10 s55) = true := by decide +kernel
def r144 : Option Nat → List AR
  | none => [(.inr 0, w9)]
  | some n => [(.inl (some (aI (n : Int))), n3 w9 26 27 28)]
section PC
variable {k : kx_T} {dT : Nat → ClassId} {a0 : Array Value} {b L : Nat} {xs : Nat → Int32}
theorem ptR {s0 : State} (hN : ncX s0) : (clX 3 ∧ 0 < (nCl 3).2.1 ∧ 1 < (nCl 3).2.1 ∧ 2 < (nCl 3).2.1) ∧ (Cond.fieldLink (yA 28).cls 9 ((nCl 3).2.2.1 0).1 ((nCl 3).2.2.1 0).2.1 ((nCl 3).2.2.1 0).2.2.1 ∈ gT ∧ Cond.fieldLink (yA 28).cls 15 ((nCl 3).2.2.1 1).1 ((nCl 3).2.2.1 1).2.1 ((nCl 3).2.2.1 1).2.2.1 ∈ gT ∧ Cond.fieldLink (yA 28).cls 19 ((nCl 3).2.2.1 2).1 ((nCl 3).2.2.1 2).2.1 ((nCl 3).2.2.1 2).2.2.1 ∈ gT) ∧
    Cond.constantLong (yA 28).cls 28 (lN 18446744073709551615) ∈ gT := by
  have g0 : rowQ cx0 yA byA rtA hhA 28 1 (.getfield 9, 3, 3, 0, 0) := (rows_ok (a0 := #[]) hN (by rfl)).1
  have g1 : rowQ cx0 yA byA rtA hhA 28 22 (.getfield 15, 3, 3, 1, 0) := (rows_ok (a0 := #[]) hN (by rfl)).1
  have g2 : rowQ cx0 yA byA rtA hhA 28 29 (.getfield 19, 3, 3, 2, 0) := (rows_ok (a0 := #[]) hN (by rfl)).1
  have gl : rowQ cx0 yA byA rtA hhA 28 45 (.ldc2_w 28, 3, 18446744073709551615, 0, 0) := (rows_ok (a0 := #[]) hN (by rfl)).1
  obtain ⟨c1, c2, c3⟩ := g0.2.2
  obtain ⟨-, c4, c5⟩ := g1.2.2
  obtain ⟨-, c6, c7⟩ := g2.2.2
  exact ⟨⟨c1, c2, c4, c6⟩, ⟨c3, c5, c7⟩, gl.2.2⟩
theorem paR {s0 : State} (hN : ncX s0) : Cond.methodLink (yA 29).cls 36 (yA 28) ∈ gT ∧ Cond.instanceMethod (yA 28) ∈ gT ∧ Cond.selects (yA 28).cls (yA 28) (yA 28) ∈ gT ∧ mtX cx0 yA byA rtA hhA 28 2 ∧ ∃ (N : Nat) (T : u_T), vwCl[3]? = some ((yA 28).cls, T, N) := by
  have gv : rowQ cx0 yA byA rtA hhA 29 52 (.invokevirtual 36, 3, 28, 0, 0) := (rows_ok (a0 := #[]) hN (by rfl)).1
  obtain ⟨-, v1, v2, v3, n, N, T, v4, v5, v6⟩ := gv.2.2
  have en : n = 2 := by
    have : (3 : Nat) = n + 1 := v5
    omega
  subst en
  exact ⟨v1, v2, v3, v4, N, T, v6⟩
/-- a call's words, out of a row -/
theorem cvR {s0 : State} (hN : ncX s0) {mn pc idx a n c : Nat} (hd : cdA mn pc = some (.invokevirtual idx, 3, a, 0, 0)) (ha : mAr (miB a) = n + 1) (hm : mCl (miB a) = c) : Cond.methodLink (yA mn).cls idx (yA a) ∈ gT ∧ Cond.instanceMethod (yA a) ∈ gT ∧ Cond.selects (yA a).cls (yA a) (yA a) ∈ gT ∧ mtX cx0 yA byA rtA hhA a n ∧ ∃ (N : Nat) (T : u_T), vwCl[c]? = some ((yA a).cls, T, N) := by
  have gv : rowQ cx0 yA byA rtA hhA mn pc (.invokevirtual idx, 3, a, 0, 0) := (rows_ok (a0 := #[]) hN hd).1
  obtain ⟨-, v1, v2, v3, n', N, T, v4, v5, v6⟩ := gv.2.2
  have en : n' = n := by
    have v5 : mAr (miB a) = n' + 1 := v5
    omega
  subst en
  replace v6 : vwCl[mCl (miB a)]? = some ((yA a).cls, T, N) := v6
  rw [hm] at v6
  exact ⟨v1, v2, v3, v4, N, T, v6⟩
theorem pt_mb (X : LX k dT a0 b L xs) {Wd : (Nat → Int32) → (Nat → Int64) → (Nat → Int64) → va_W} {bt c aP aL aH : Nat} {gs : List Value} {f : Nat → Int32} {gL gH : Nat → Int64} {P : Int32} {K : mb_O → va_W → Prop} {qt qP qL qH : Nat}
    (T1 : ∀ f g h, (Wd f g h)[qt]? = some (bt, .inr (3, gs))) (f0 : gs[0]? = some (.ref aP)) (f1 : gs[1]? = some (.ref aL)) (f2 : gs[2]? = some (.ref aH))
    (T2 : ∀ f g h, (Wd f g h)[qP]? = some (aP, .inl (dT 0, 128, .inl f))) (TL : ∀ f g h, (Wd f g h)[qL]? = some (aL, .inl (dT 1, 8, .inr (.inl g)))) (TH : ∀ f g h, (Wd f g h)[qH]? = some (aH, .inl (dT 1, 8, .inr (.inl h))))
    (T4 : ∀ f g h f', (Wd f g h).set qP (aP, .inl (dT 0, 128, .inl f')) = Wd f' g h) (T5 : ∀ f g h g', (Wd f g h).set qL (aL, .inl (dT 1, 8, .inr (.inl g'))) = Wd f g' h) (T6 : ∀ f g h g', (Wd f g h).set qH (aH, .inl (dT 1, 8, .inr (.inl g'))) = Wd f g g')
    (hc1 : c < 128) (hf : f c = 0) (hP1 : -1 ≤ P.toInt) (hP2 : P.toInt ≤ 7) (hL : ∀ j, 8 ≤ j → gL j = 0) (hH : ∀ j, 8 ≤ j → gH j = 0)
    (hgoal : ∀ g h, (∀ j, 8 ≤ j → g j = 0) → (∀ j, 8 ≤ j → h j = 0) → K (.inl (some (.int 0))) (Wd (upd f c P) g h)) : MB (kL k) (kS0 k) (kD k) yX3_put (.code yX3_put cX3_put 7 (some .int)) (mRm (miB 28)) [.ref bt, .int (Int32.ofNat c), .int P] (Wd f gL gH) K := by
  obtain ⟨⟨c1, c2, c3, c4⟩, ⟨c5, c6, c7⟩, c8⟩ := ptR X.1.2.2.2.1
  have t0 := X.1.2.2.1 0
  have t1 := X.1.2.2.1 1
  exact mb_of X.1.2.1 (by decide) (Nat.le_of_ble_eq_true rfl) (fun k' C e1 e2 e3 e4 e5 e6 e7 e8 e9 e10 e11 qe => pt_body C e7 e8 e9 qe c1 c2 c3 c4 (by rw [e6]; exact c5) (by rw [e6]; exact c6) (by rw [e6]; exact c7) (by rw [e6]; exact c8) (by rw [e5]; exact t0) (by rw [e5]; exact t1) T1 f0 f1 f2 T2 TL TH T4 T5 T6 hc1 hf hP1 hP2 hL hH hgoal)
/-- the states that the interpreter takes on, in an activation of the class's paint -/
theorem gs_at (X : LX k dT a0 b L xs) {v0 v : VL} {w : AW} {rs : List AR} {s : AS} {n d : Nat} (ho : oRun cfA (cxM ht0) (oMeth cfA (cxM ht0) d) 144 144 n s = some rs) (hA : agr wB1 v0 v) (hB : wle wB1 w)
    (k' : kx_T) (C : kx_ok k') (e1 : kL k' = kL k) (e2 : kR k' = mRm (miB 144)) (e3 : kS0 k' = kS0 k) (e4 : kD k' = kD k) (e5 : kTy k' = kTy k) (e6 : kOwn k' = (yA 144).cls) (e7 : kCc k' = byA 144) (e9 : (kMe k').sig.returnType = rtA 144) (e10 : (kMe k').name = (yA 144).name) (e11 : ∀ x ∈ (kC k').exceptionTable.toList, False)
    {K : mb_O → va_W → Prop} (qe : kx_end k' K (mCe (miB 144)) (mSl (miB 144))) (hK : ∀ o ws, Kd (cxM ht0) dT w v rs o ws → K o ws) : GS k' (cxM ht0) 144 144 dT w v s := by
  obtain ⟨Z, hT, hBB, ⟨o1, o2, o3⟩, hrow⟩ := PXL X ht0
  have hcf : cfX cfA (cxM ht0) := fun mn pc f (q : cfA mn pc = some f) => cf_ok q
  have hcall := meth_ok (x := cxM ht0) (vP := v0) hcf (PXL X ht0) (fun _ => rfl) (ct_no (h := ht0) rfl) d
  obtain ⟨r0, hr0⟩ := run_some hcf ho
  obtain ⟨-, -, t0, t1, t2, t3, h0, -⟩ := hrow 144 _ r0 hr0
  rw [← e1, ← e3, ← e4, ← e5] at Z
  have al := C.2.2.2.2.1.alike
  have M : MX k' (cxM ht0) 144 dT w v rs wB1 yA byA rtA hhA a0 := ⟨⟨C, Z, ⟨by rw [e2]; rfl, by rw [e2]; rfl, by rw [e2]; rfl, by rw [e2]; rfl⟩, fun t => by rw [e5]; exact hT t, hBB, hB, ⟨K, qe, hK⟩, Or.inl rfl⟩,
    ⟨⟨fun q => e9.trans (t0 q), fun q => e9.trans (t1 q), fun q => e9.trans (t2 q), fun q => e9.trans (t3 q)⟩, exX_no (h0 rfl) e11, fun _ => e11, e7, e6, e10⟩,
    va_AO.moved al (va_AO.of (Z.2.1 _ o1)), arrA_moved al (Z.2.1 _ o2), arrA_moved al (Z.2.1 _ o3)⟩
  have hc : callX k' (cxM ht0) 144 dT wB1 w v yA byA rtA hhA (oMeth cfA (cxM ht0) d) := fun cn as' w' rs' v' q1 q2 qa q3 q4 q5 => by
    rw [e1, e3, e4]
    exact hcall 144 cn as' w' rs' v' q1 q2 (agr_tr hA (agr_mono qa hB)) q3 q4 q5
  exact (run_ok (c := 144) hcf M hc (fun pc r q => (hrow 144 pc r q).1) n _ _ rs ho (fun r hr => hr)).1 _ List.mem_cons_self
end PC
