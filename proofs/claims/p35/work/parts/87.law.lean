/-! The law's own methods: a call of the class each, its exceptions caught -/
/-- a contract of a method with handlers, rows may change places -/
def CTL (l : Launch) (s0 : State) (D : va_G) (A : Nat → Nat) (dT : Nat → ClassId) (mn : Nat) (rm : Room) (vals : List Value) (s : PS) (Q : mb_O → PS → Prop) : Prop :=
  MB l s0 D (yA mn) (.codeWith (yA mn) (byA mn) (mNL (miB mn)) (rtA mn) (hhA mn)) rm vals (Wd A dT s) (fun o ws => ∃ (B : Nat → Nat) (s' : PS), swA A B ∧ ws = Wd B dT s' ∧ Q o s')
section CT4
variable {l : Launch} {s0 : State} {D : va_G} {tys : List (ClassId × FieldType)} {a0 : Array Value} {A : Nat → Nat} {dT : Nat → ClassId} {s : PS}
theorem ctL_of (G : GX l s0 D tys a0 dT) {mn : Nat} {rm : Room} {vals : List Value} {Q : mb_O → PS → Prop} (hy : plainName (yA mn).cls = true) (hn : (lg_sl vals).length ≤ mNL (miB mn)) (hne : hhA mn ≠ []) {r0 : ARow} (h0 : cdA mn 0 = some r0)
    (body : ∀ k, AX k mn dT → (kL k = l ∧ kS0 k = s0 ∧ kD k = D ∧ kR k = rm) → kTy k = tys → (kMe k).sig.returnType = rtA mn → (∀ pc, exX k cx0 mn pc) → kx_end k (fun o ws => ∃ (B : Nat → Nat) (s' : PS), swA A B ∧ ws = Wd B dT s' ∧ Q o s') rm.cells rm.slots → WS k 0 (lv_args 0 vals) [] (Wd A dT s) 0 0) : CTL l s0 D A dT mn rm vals s Q :=
  mb_ofH G.1 hy hn (fun k C e1 e2 e3 e4 e5 e6 e7 e8 e9 e10 e11 qe => body k ⟨C, ⟨e7, e6, e8⟩, fun t => by rw [e5]; exact G.2.1 t, by rw [e3]; exact G.2.2⟩ ⟨e1, e3, e4, e2⟩ e5 e9 ((rows_ok (a0 := a0) G.2.2 h0).2.2.2.2.2.2.2 hne k C (by rw [e1, e3, e4, e5]; exact G.1) e3 e6 e11) qe)
variable {k : kx_T} {mn pc : Nat} {lv : List (Nat × Value)} {st : List Value} {ce sl : Nat} {z : Int} {Q : mb_O → PS → Prop} {rm : Room}
/-- a call of one of them -/
theorem z_callL (X : AX k mn dT) {idx cn : Nat} {As : List Value} (h : cdA mn pc = some (.invokestatic idx, 3, cn, 6, z)) (hne : hhA cn ≠ []) (hn : mAr (miB cn) = As.length) (hM : CTL (kL k) (kS0 k) (kD k) A dT cn rm As s Q) (hr : rmK k cn rm ce sl) (hw : (st.map fun v => v.category).sum ≤ 8)
    (h1 : ∀ v B s', swA A B → Q (.inl v) s' → WS k (pc + 3) lv (v.toList ++ st) (Wd B dT s') (ce + rm.cells) (sl + rm.slots)) (h2 : ∀ E B s', swA A B → Q (.inr E) s' → WX k pc lv st (Wd B dT s') E (ce + rm.cells) (sl + rm.slots)) : WS k pc lv (As.reverse ++ st) (Wd A dT s) ce sl := by
  have hq := (ax_r X h).2.2
  rcases hq with ⟨q, -⟩ | ⟨q, -⟩ | ⟨q, -⟩ | ⟨-, -, q1, q2, q3⟩
  · cases q
  · cases q
  · cases q
  · replace q3 : mtX cx0 yA byA rtA hhA cn (mAr (miB cn)) := q3
    rw [hn] at q3
    obtain ⟨r1, r2, r3⟩ := hr
    exact w_callSX (K := fun o ws => ∃ (B : Nat → Nat) (s' : PS), swA A B ∧ ws = Wd B dT s' ∧ Q o s') (rm := rm) X.1 (by rw [X.2.1.2.1]; exact q1) (cd_with hne q3.1) q3.2.1 q3.2.2 r1 r2 q2 hM rfl hw r3 (ax_d X h) (fun v ws' hk => hk.elim (fun B hk => hk.elim (fun s' hq => by rw [hq.2.1]; exact h1 v B s' hq.1 hq.2.2))) (fun E ws' hk => hk.elim (fun B hk => hk.elim (fun s' hq => by rw [hq.2.1]; exact h2 E B s' hq.1 hq.2.2)))
end CT4
section M87
variable {l : Launch} {s0 : State} {D : va_G} {tys : List (ClassId × FieldType)} {a0 : Array Value} {A : Nat → Nat} {dT : Nat → ClassId} {s : PS}
set_option maxRecDepth 4000 in
theorem lw_stream (G : GX l s0 D tys a0 dT) (I : Bd s) {w : Int} (p0 : rng w) : CTL l s0 D A dT 314 (rmN 314) [.ref (A 0), .int (Int32.ofInt w), .ref (A 517)] s (fun o t => Bd t ∧ Fm [11, 9, 10, 2, 4, 6, 5, 1, 3, 0, 7, 8] [15, 1, 2, 6, 1003, 1004, 1005, 1007, 1460] s t ∧ ∃ e, o = .inl (some (.int (Int32.ofInt e))) ∧ rng e ∧ ((0 ≤ w ∧ w ≤ iI s 0 ∧ w ≤ 100 ∧ iI t 0 = 0) ∨ ((w < 0 ∨ iI s 0 < w ∨ 100 < w) ∧ iI t 0 = iI s 0))) := by
  refine ctL_of G (by decide) (Nat.le_of_ble_eq_true rfl) (by decide) (show cdA 314 0 = some (.aload_n 2, 1, 0, 0, 0) from rfl) (fun k X E ET hRt hEx q => ?_)
  show WS k 0 [(0, .ref (A 0)), (1, .int (Int32.ofInt w)), (2, .ref (A 517))] [] _ 0 0
  have F : Fm [11, 9, 10, 2, 4, 6, 5, 1, 3, 0, 7, 8] [15, 1, 2, 6, 1003, 1004, 1005, 1007, 1460] s s := fm_rf _ _ s
  have hA := swA_rf A
  have b1 : (0 : Int) ≤ iI s 0 ∧ iI s 0 ≤ 200 := I.1 0
  refine z_aload_n X (x := A 517) (show cdA 314 0 = some (.aload_n 2, 1, 0, 0, 0) from rfl) (List.Mem.tail _ (List.Mem.tail _ (List.Mem.head _))) ?_
  refine z_const X (show cdA 314 1 = some (.iconst 0, 1, 0, 0, 0) from rfl) ?_
  refine z_aload_n X (x := A 0) (show cdA 314 2 = some (.aload_n 0, 1, 0, 0, 0) from rfl) (List.Mem.head _) ?_
  refine z_load_n X (x := w) (show cdA 314 3 = some (.iload_n 1, 1, 0, 0, 0) from rfl) (List.Mem.tail _ (List.Mem.head _)) ?_
  refine z_callV X 0 (rm := rmN 136) (As := [.int (Int32.ofInt w)]) (st := [.int (Int32.ofInt 0), .ref (A 517)]) (show cdA 314 4 = some (.invokevirtual 7, 3, 136, 0, 0) from rfl) rfl (by decide) rfl (by rw [E.1, E.2.1, E.2.2.1]; exact cs_stream G I (by omega)) ⟨by rw [E.2.2.2]; exact (show (rmN 136).frames + 1 ≤ (rmN 314).frames by decide), by rw [E.2.2.2]; exact (show 8 + (mNL (miB 136) + 11) + (rmN 136).locals ≤ (rmN 314).locals by decide), by rw [E.2.2.2]; exact (show 0 + (rmN 136).cells ≤ (rmN 314).cells by decide), by rw [E.2.2.2]; exact (show 0 + (rmN 136).slots ≤ (rmN 314).slots by decide)⟩ (Nat.le_of_ble_eq_true rfl) (fun vv s2 hq => ?_) (fun ee s2 hq => ?_)
  rotate_left
  · obtain ⟨Is2, Fs2, (⟨e3, hv, hrs2, hps2⟩ | ⟨xx, hv, hps2⟩)⟩ := hq
    · cases hv
    · cases hv
      rcases (show xx = 0 by omega) with gx
      ·
        subst gx
        have Gs2 := fm_ts F Fs2 (by decide) (by decide)
        have b4 : (0 : Int) ≤ iI s2 0 ∧ iI s2 0 ≤ 200 := Is2.1 0
        refine (hEx 4 0).2 12 rfl _ _ _ _ _ (fun q1 => ?_)
        show WS k 12 [(0, .ref (A 0)), (1, .int (Int32.ofInt w)), (2, .ref (A 517))] [.ref q1] (Wd A dT s2) 1 6
        refine z_astore_n X (lv' := [(3, .ref q1), (0, .ref (A 0)), (1, .int (Int32.ofInt w)), (2, .ref (A 517))]) (show cdA 314 12 = some (.astore_n 3, 1, 0, 0, 0) from rfl) (by decide) (fun _ h => h) ?_
        refine z_const X (show cdA 314 13 = some (.iconst 1, 1, 0, 0, 0) from rfl) ?_
        exact w_iret X.1 q hRt rfl (ax_d X (show cdA 314 14 = some (.ireturn, 1, 0, 0, 0) from rfl)) (show 1 ≤ 1 by omega) (show 6 ≤ 6 by omega) ⟨A, _, hA, rfl, Is2, Gs2, 1, rfl, (by decide), by omega⟩
  obtain ⟨Is2, Fs2, (⟨e3, hv, hrs2, hps2⟩ | ⟨xx, hv, hps2⟩)⟩ := hq
  rotate_left
  · cases hv
  cases hv
  have Gs2 := fm_ts F Fs2 (by decide) (by decide)
  have b5 : (0 : Int) ≤ iI s2 0 ∧ iI s2 0 ≤ 200 := Is2.1 0
  show WS k 7 [(0, .ref (A 0)), (1, .int (Int32.ofInt w)), (2, .ref (A 517))] [.int (Int32.ofInt e3), .int (Int32.ofInt 0), .ref (A 517)] (Wd A dT s2) 1 6
  refine w_i2l X.1 (ax_d X (show cdA 314 7 = some (.i2l, 1, 0, 0, 0) from rfl)) ?_
  refine z_anyJ (fun j6 => ?_)
  refine z_last X 517 (show cdA 314 8 = some (.lastore, 1, 0, 0, 0) from rfl) (by decide) rfl (by decide) (show 0 < 1 by decide) (by decide) ?_
  obtain ⟨s7, hs7⟩ : ∃ x0, x0 = uD s2 460 (0 : Int).toNat j6 := ⟨_, rfl⟩
  rw [← hs7]
  have Is7 : Bd s7 := by rw [hs7]; exact bd_D Is2
  have Fs7 : Fm [11, 9, 10, 2, 4, 6, 5, 1, 3, 0, 7, 8] [15, 1, 2, 6, 1003, 1004, 1005, 1007, 1460] s s7 := by rw [hs7]; exact fm_D Gs2 (show 460 + 1000 ∈ _ by decide)
  have ws7_0 : iI s7 0 = iI s2 0 := by rw [hs7]; rfl
  refine z_goto X (t := 15) (show cdA 314 9 = some (.goto 6, 3, 0, 0, 0) from rfl) (by decide) ?_
  refine z_const X (show cdA 314 15 = some (.iconst 0, 1, 0, 0, 0) from rfl) ?_
  exact w_iret X.1 q hRt rfl (ax_d X (show cdA 314 16 = some (.ireturn, 1, 0, 0, 0) from rfl)) (show 1 ≤ 1 by omega) (show 6 ≤ 6 by omega) ⟨A, _, hA, rfl, Is7, Fs7, 0, rfl, (by decide), by omega⟩
set_option maxRecDepth 4000 in
theorem lw_rules (G : GX l s0 D tys a0 dT) (SF : SF0 s0) (GT : TXs0 s0) (I : Bd s) {w : Int} (p0 : rng w) (p1 : iI s 12 ≤ 8) : CTL l s0 D A dT 315 (rmN 315) [.ref (A 0), .int (Int32.ofInt w), .ref (A 517)] s (fun o t => Bd t ∧ Fm [2, 4, 6, 5, 7, 8, 19, 16, 17, 18, 12, 13, 14, 15, 1, 3, 0] [16, 17, 18, 19, 1460] s t ∧ ∃ e, o = .inl (some (.int (Int32.ofInt e))) ∧ rng e ∧ (((0 ≤ w ∧ w ≤ iI s 0 ∧ iI t 0 = 0) ∨ ((w < 0 ∨ iI s 0 < w) ∧ iI t 0 = iI s 0)) ∧ iI t 12 ≤ 8)) := by
  refine ctL_of G (by decide) (Nat.le_of_ble_eq_true rfl) (by decide) (show cdA 315 0 = some (.aload_n 2, 1, 0, 0, 0) from rfl) (fun k X E ET hRt hEx q => ?_)
  show WS k 0 [(0, .ref (A 0)), (1, .int (Int32.ofInt w)), (2, .ref (A 517))] [] _ 0 0
  have F : Fm [2, 4, 6, 5, 7, 8, 19, 16, 17, 18, 12, 13, 14, 15, 1, 3, 0] [16, 17, 18, 19, 1460] s s := fm_rf _ _ s
  have hA := swA_rf A
  have b1 : (0 : Int) ≤ iI s 0 ∧ iI s 0 ≤ 200 := I.1 0
  have b2 : (0 : Int) ≤ iI s 12 ∧ iI s 12 ≤ 9 := I.1 12
  refine z_aload_n X (x := A 517) (show cdA 315 0 = some (.aload_n 2, 1, 0, 0, 0) from rfl) (List.Mem.tail _ (List.Mem.tail _ (List.Mem.head _))) ?_
  refine z_const X (show cdA 315 1 = some (.iconst 0, 1, 0, 0, 0) from rfl) ?_
  refine z_aload_n X (x := A 0) (show cdA 315 2 = some (.aload_n 0, 1, 0, 0, 0) from rfl) (List.Mem.head _) ?_
  refine z_load_n X (x := w) (show cdA 315 3 = some (.iload_n 1, 1, 0, 0, 0) from rfl) (List.Mem.tail _ (List.Mem.head _)) ?_
  refine z_callVX X 0 (rm := rmN 137) (As := [.int (Int32.ofInt w)]) (st := [.int (Int32.ofInt 0), .ref (A 517)]) (show cdA 315 4 = some (.invokevirtual 15, 3, 137, 0, 0) from rfl) rfl (by decide) rfl (by rw [E.1, E.2.1, E.2.2.1]; exact cs_rules G SF GT I (by omega) (by omega)) ⟨by rw [E.2.2.2]; exact (show (rmN 137).frames + 1 ≤ (rmN 315).frames by decide), by rw [E.2.2.2]; exact (show 8 + (mNL (miB 137) + 11) + (rmN 137).locals ≤ (rmN 315).locals by decide), by rw [E.2.2.2]; exact (show 0 + (rmN 137).cells ≤ (rmN 315).cells by decide), by rw [E.2.2.2]; exact (show 0 + (rmN 137).slots ≤ (rmN 315).slots by decide)⟩ (Nat.le_of_ble_eq_true rfl) (fun vv A s3 hA2 hq => ?_) (fun ee A s3 hA2 hq => ?_)
  rotate_left
  · obtain ⟨Is3, Fs3, (⟨e4, hv, hrs3, hps3⟩ | ⟨xx, hv, hps3⟩)⟩ := hq
    · cases hv
    · cases hv
      rcases (show xx = 0 by omega) with gx
      ·
        subst gx
        replace hA := swA_ts hA hA2
        rw [← hA2 0 (by decide)]
        rw [← hA2 517 (by decide)]
        have Gs3 := fm_ts F Fs3 (by decide) (by decide)
        have b5 : (0 : Int) ≤ iI s3 0 ∧ iI s3 0 ≤ 200 := Is3.1 0
        have b6 : (0 : Int) ≤ iI s3 12 ∧ iI s3 12 ≤ 9 := Is3.1 12
        refine (hEx 4 0).2 12 rfl _ _ _ _ _ (fun q1 => ?_)
        show WS k 12 [(0, .ref (A 0)), (1, .int (Int32.ofInt w)), (2, .ref (A 517))] [.ref q1] (Wd A dT s3) 1 6
        refine z_astore_n X (lv' := [(3, .ref q1), (0, .ref (A 0)), (1, .int (Int32.ofInt w)), (2, .ref (A 517))]) (show cdA 315 12 = some (.astore_n 3, 1, 0, 0, 0) from rfl) (by decide) (fun _ h => h) ?_
        refine z_const X (show cdA 315 13 = some (.iconst 1, 1, 0, 0, 0) from rfl) ?_
        exact w_iret X.1 q hRt rfl (ax_d X (show cdA 315 14 = some (.ireturn, 1, 0, 0, 0) from rfl)) (show 1 ≤ 1 by omega) (show 6 ≤ 6 by omega) ⟨A, _, hA, rfl, Is3, Gs3, 1, rfl, (by decide), by omega⟩
  obtain ⟨Is3, Fs3, (⟨e4, hv, hrs3, hps3⟩ | ⟨xx, hv, hps3⟩)⟩ := hq
  rotate_left
  · cases hv
  cases hv
  replace hA := swA_ts hA hA2
  rw [← hA2 0 (by decide)]
  rw [← hA2 517 (by decide)]
  have Gs3 := fm_ts F Fs3 (by decide) (by decide)
  have b7 : (0 : Int) ≤ iI s3 0 ∧ iI s3 0 ≤ 200 := Is3.1 0
  have b8 : (0 : Int) ≤ iI s3 12 ∧ iI s3 12 ≤ 9 := Is3.1 12
  show WS k 7 [(0, .ref (A 0)), (1, .int (Int32.ofInt w)), (2, .ref (A 517))] [.int (Int32.ofInt e4), .int (Int32.ofInt 0), .ref (A 517)] (Wd A dT s3) 1 6
  refine w_i2l X.1 (ax_d X (show cdA 315 7 = some (.i2l, 1, 0, 0, 0) from rfl)) ?_
  refine z_anyJ (fun j9 => ?_)
  refine z_last X 517 (show cdA 315 8 = some (.lastore, 1, 0, 0, 0) from rfl) (by decide) rfl (by decide) (show 0 < 1 by decide) (by decide) ?_
  obtain ⟨s10, hs10⟩ : ∃ x0, x0 = uD s3 460 (0 : Int).toNat j9 := ⟨_, rfl⟩
  rw [← hs10]
  have Is10 : Bd s10 := by rw [hs10]; exact bd_D Is3
  have Fs10 : Fm [2, 4, 6, 5, 7, 8, 19, 16, 17, 18, 12, 13, 14, 15, 1, 3, 0] [16, 17, 18, 19, 1460] s s10 := by rw [hs10]; exact fm_D Gs3 (show 460 + 1000 ∈ _ by decide)
  have ws10_0 : iI s10 0 = iI s3 0 := by rw [hs10]; rfl
  have ws10_12 : iI s10 12 = iI s3 12 := by rw [hs10]; rfl
  refine z_goto X (t := 15) (show cdA 315 9 = some (.goto 6, 3, 0, 0, 0) from rfl) (by decide) ?_
  refine z_const X (show cdA 315 15 = some (.iconst 0, 1, 0, 0, 0) from rfl) ?_
  exact w_iret X.1 q hRt rfl (ax_d X (show cdA 315 16 = some (.ireturn, 1, 0, 0, 0) from rfl)) (show 1 ≤ 1 by omega) (show 6 ≤ 6 by omega) ⟨A, _, hA, rfl, Is10, Fs10, 0, rfl, (by decide), by omega⟩
set_option maxRecDepth 4000 in
theorem lw_way (G : GX l s0 D tys a0 dT) (I : Bd s) {x y : Int} (p0 : rng x) (p1 : rng y) : CTL l s0 D A dT 316 (rmN 316) [.ref (A 0), .int (Int32.ofInt x), .int (Int32.ofInt y), .ref (A 517)] s (fun o t => Bd t ∧ Fm [] [1460] s t ∧ ∃ e, o = .inl (some (.int (Int32.ofInt e))) ∧ rng e ∧ (True)) := by
  refine ctL_of G (by decide) (Nat.le_of_ble_eq_true rfl) (by decide) (show cdA 316 0 = some (.aload_n 3, 1, 0, 0, 0) from rfl) (fun k X E ET hRt hEx q => ?_)
  show WS k 0 [(0, .ref (A 0)), (1, .int (Int32.ofInt x)), (2, .int (Int32.ofInt y)), (3, .ref (A 517))] [] _ 0 0
  have F : Fm [] [1460] s s := fm_rf _ _ s
  have hA := swA_rf A
  refine z_aload_n X (x := A 517) (show cdA 316 0 = some (.aload_n 3, 1, 0, 0, 0) from rfl) (List.Mem.tail _ (List.Mem.tail _ (List.Mem.tail _ (List.Mem.head _)))) ?_
  refine z_const X (show cdA 316 1 = some (.iconst 0, 1, 0, 0, 0) from rfl) ?_
  refine z_aload_n X (x := A 0) (show cdA 316 2 = some (.aload_n 0, 1, 0, 0, 0) from rfl) (List.Mem.head _) ?_
  refine z_load_n X (x := x) (show cdA 316 3 = some (.iload_n 1, 1, 0, 0, 0) from rfl) (List.Mem.tail _ (List.Mem.head _)) ?_
  refine z_load_n X (x := y) (show cdA 316 4 = some (.iload_n 2, 1, 0, 0, 0) from rfl) (List.Mem.tail _ (List.Mem.tail _ (List.Mem.head _))) ?_
  refine z_callV X 0 (rm := rmN 139) (As := [.int (Int32.ofInt x), .int (Int32.ofInt y)]) (st := [.int (Int32.ofInt 0), .ref (A 517)]) (show cdA 316 5 = some (.invokevirtual 18, 3, 139, 0, 0) from rfl) rfl (by decide) rfl (by rw [E.1, E.2.1, E.2.2.1]; exact cs_way G I (by omega) (by omega)) ⟨by rw [E.2.2.2]; exact (show (rmN 139).frames + 1 ≤ (rmN 316).frames by decide), by rw [E.2.2.2]; exact (show 8 + (mNL (miB 139) + 11) + (rmN 139).locals ≤ (rmN 316).locals by decide), by rw [E.2.2.2]; exact (show 0 + (rmN 139).cells ≤ (rmN 316).cells by decide), by rw [E.2.2.2]; exact (show 0 + (rmN 139).slots ≤ (rmN 316).slots by decide)⟩ (Nat.le_of_ble_eq_true rfl) (fun vv s1 hq => ?_) (fun ee s1 hq => ?_)
  rotate_left
  · obtain ⟨Is1, Fs1, (⟨e2, hv, hrs1, hps1⟩ | ⟨xx, hv, hps1⟩)⟩ := hq
    · cases hv
    · cases hv
      rcases (show xx = 1 by omega) with gx
      ·
        subst gx
        have Gs1 := fm_ts F Fs1 (by decide) (by decide)
        refine (hEx 5 1).2 13 rfl _ _ _ _ _ (fun q1 => ?_)
        show WS k 13 [(0, .ref (A 0)), (1, .int (Int32.ofInt x)), (2, .int (Int32.ofInt y)), (3, .ref (A 517))] [.ref q1] (Wd A dT s1) 1 6
        refine z_astore X (lv' := [(4, .ref q1), (0, .ref (A 0)), (1, .int (Int32.ofInt x)), (2, .int (Int32.ofInt y)), (3, .ref (A 517))]) (show cdA 316 13 = some (.astore 4, 2, 0, 0, 0) from rfl) (by decide) (fun _ h => h) ?_
        refine z_const X (show cdA 316 15 = some (.iconst 1, 1, 0, 0, 0) from rfl) ?_
        exact w_iret X.1 q hRt rfl (ax_d X (show cdA 316 16 = some (.ireturn, 1, 0, 0, 0) from rfl)) (show 1 ≤ 1 by omega) (show 6 ≤ 6 by omega) ⟨A, _, hA, rfl, Is1, Gs1, 1, rfl, (by decide), trivial⟩
  obtain ⟨Is1, Fs1, (⟨e2, hv, hrs1, hps1⟩ | ⟨xx, hv, hps1⟩)⟩ := hq
  rotate_left
  · cases hv
  cases hv
  have Gs1 := fm_ts F Fs1 (by decide) (by decide)
  show WS k 8 [(0, .ref (A 0)), (1, .int (Int32.ofInt x)), (2, .int (Int32.ofInt y)), (3, .ref (A 517))] [.int (Int32.ofInt e2), .int (Int32.ofInt 0), .ref (A 517)] (Wd A dT s1) 1 6
  refine w_i2l X.1 (ax_d X (show cdA 316 8 = some (.i2l, 1, 0, 0, 0) from rfl)) ?_
  refine z_anyJ (fun j3 => ?_)
  refine z_last X 517 (show cdA 316 9 = some (.lastore, 1, 0, 0, 0) from rfl) (by decide) rfl (by decide) (show 0 < 1 by decide) (by decide) ?_
  obtain ⟨s4, hs4⟩ : ∃ x0, x0 = uD s1 460 (0 : Int).toNat j3 := ⟨_, rfl⟩
  rw [← hs4]
  have Is4 : Bd s4 := by rw [hs4]; exact bd_D Is1
  have Fs4 : Fm [] [1460] s s4 := by rw [hs4]; exact fm_D Gs1 (show 460 + 1000 ∈ _ by decide)
  refine z_goto X (t := 17) (show cdA 316 10 = some (.goto 7, 3, 0, 0, 0) from rfl) (by decide) ?_
  refine z_const X (show cdA 316 17 = some (.iconst 0, 1, 0, 0, 0) from rfl) ?_
  exact w_iret X.1 q hRt rfl (ax_d X (show cdA 316 18 = some (.ireturn, 1, 0, 0, 0) from rfl)) (show 1 ≤ 1 by omega) (show 6 ≤ 6 by omega) ⟨A, _, hA, rfl, Is4, Fs4, 0, rfl, (by decide), trivial⟩
set_option maxRecDepth 4000 in
theorem lw_flow (G : GX l s0 D tys a0 dT) (I : Bd s) {x y z w : Int} (p0 : rng x) (p1 : rng y) (p2 : rng z) (p3 : rng w) : CTL l s0 D A dT 317 (rmN 317) [.ref (A 0), .int (Int32.ofInt x), .int (Int32.ofInt y), .int (Int32.ofInt z), .int (Int32.ofInt w)] s (fun o t => Bd t ∧ Fm [] [8, 11, 12, 13, 14] s t ∧ ∃ e, o = .inl (some (.int (Int32.ofInt e))) ∧ rng e ∧ (True)) := by
  refine ctL_of G (by decide) (Nat.le_of_ble_eq_true rfl) (by decide) (show cdA 317 0 = some (.aload_n 0, 1, 0, 0, 0) from rfl) (fun k X E ET hRt hEx q => ?_)
  show WS k 0 [(0, .ref (A 0)), (1, .int (Int32.ofInt x)), (2, .int (Int32.ofInt y)), (3, .int (Int32.ofInt z)), (4, .int (Int32.ofInt w))] [] _ 0 0
  have F : Fm [] [8, 11, 12, 13, 14] s s := fm_rf _ _ s
  have hA := swA_rf A
  refine z_aload_n X (x := A 0) (show cdA 317 0 = some (.aload_n 0, 1, 0, 0, 0) from rfl) (List.Mem.head _) ?_
  refine z_load_n X (x := x) (show cdA 317 1 = some (.iload_n 1, 1, 0, 0, 0) from rfl) (List.Mem.tail _ (List.Mem.head _)) ?_
  refine z_load_n X (x := y) (show cdA 317 2 = some (.iload_n 2, 1, 0, 0, 0) from rfl) (List.Mem.tail _ (List.Mem.tail _ (List.Mem.head _))) ?_
  refine z_load_n X (x := z) (show cdA 317 3 = some (.iload_n 3, 1, 0, 0, 0) from rfl) (List.Mem.tail _ (List.Mem.tail _ (List.Mem.tail _ (List.Mem.head _)))) ?_
  refine z_load X (x := w) (show cdA 317 4 = some (.iload 4, 2, 0, 0, 0) from rfl) (List.Mem.tail _ (List.Mem.tail _ (List.Mem.tail _ (List.Mem.tail _ (List.Mem.head _))))) ?_
  refine z_callV X 0 (rm := rmN 140) (As := [.int (Int32.ofInt x), .int (Int32.ofInt y), .int (Int32.ofInt z), .int (Int32.ofInt w)]) (st := []) (show cdA 317 6 = some (.invokevirtual 24, 3, 140, 0, 0) from rfl) rfl (by decide) rfl (by rw [E.1, E.2.1, E.2.2.1]; exact cs_flow G I (by omega) (by omega) (by omega) (by omega)) ⟨by rw [E.2.2.2]; exact (show (rmN 140).frames + 1 ≤ (rmN 317).frames by decide), by rw [E.2.2.2]; exact (show 8 + (mNL (miB 140) + 11) + (rmN 140).locals ≤ (rmN 317).locals by decide), by rw [E.2.2.2]; exact (show 0 + (rmN 140).cells ≤ (rmN 317).cells by decide), by rw [E.2.2.2]; exact (show 0 + (rmN 140).slots ≤ (rmN 317).slots by decide)⟩ (Nat.le_of_ble_eq_true rfl) (fun vv s1 hq => ?_) (fun ee s1 hq => ?_)
  rotate_left
  · obtain ⟨Is1, Fs1, (⟨hv, hps1⟩ | ⟨xx, hv, hps1⟩)⟩ := hq
    · cases hv
    · cases hv
      rcases (show xx = 0 ∨ xx = 1 by omega) with gx | gx
      ·
        subst gx
        have Gs1 := fm_ts F Fs1 (by decide) (by decide)
        refine (hEx 6 0).2 16 rfl _ _ _ _ _ (fun q1 => ?_)
        show WS k 16 [(0, .ref (A 0)), (1, .int (Int32.ofInt x)), (2, .int (Int32.ofInt y)), (3, .int (Int32.ofInt z)), (4, .int (Int32.ofInt w))] [.ref q1] (Wd A dT s1) 5 30
        refine z_astore X (lv' := [(5, .ref q1), (0, .ref (A 0)), (1, .int (Int32.ofInt x)), (2, .int (Int32.ofInt y)), (3, .int (Int32.ofInt z)), (4, .int (Int32.ofInt w))]) (show cdA 317 16 = some (.astore 5, 2, 0, 0, 0) from rfl) (by decide) (fun _ h => h) ?_
        refine z_const X (show cdA 317 18 = some (.iconst 2, 1, 0, 0, 0) from rfl) ?_
        exact w_iret X.1 q hRt rfl (ax_d X (show cdA 317 19 = some (.ireturn, 1, 0, 0, 0) from rfl)) (show 5 ≤ 5 by omega) (show 30 ≤ 30 by omega) ⟨A, _, hA, rfl, Is1, Gs1, 2, rfl, (by decide), trivial⟩
      ·
        subst gx
        have Gs1 := fm_ts F Fs1 (by decide) (by decide)
        refine (hEx 6 1).2 12 rfl _ _ _ _ _ (fun q1 => ?_)
        show WS k 12 [(0, .ref (A 0)), (1, .int (Int32.ofInt x)), (2, .int (Int32.ofInt y)), (3, .int (Int32.ofInt z)), (4, .int (Int32.ofInt w))] [.ref q1] (Wd A dT s1) 5 30
        refine z_astore X (lv' := [(5, .ref q1), (0, .ref (A 0)), (1, .int (Int32.ofInt x)), (2, .int (Int32.ofInt y)), (3, .int (Int32.ofInt z)), (4, .int (Int32.ofInt w))]) (show cdA 317 12 = some (.astore 5, 2, 0, 0, 0) from rfl) (by decide) (fun _ h => h) ?_
        refine z_const X (show cdA 317 14 = some (.iconst 1, 1, 0, 0, 0) from rfl) ?_
        exact w_iret X.1 q hRt rfl (ax_d X (show cdA 317 15 = some (.ireturn, 1, 0, 0, 0) from rfl)) (show 5 ≤ 5 by omega) (show 30 ≤ 30 by omega) ⟨A, _, hA, rfl, Is1, Gs1, 1, rfl, (by decide), trivial⟩
  obtain ⟨Is1, Fs1, (⟨hv, hps1⟩ | ⟨xx, hv, hps1⟩)⟩ := hq
  rotate_left
  · cases hv
  cases hv
  have Gs1 := fm_ts F Fs1 (by decide) (by decide)
  show WS k 9 [(0, .ref (A 0)), (1, .int (Int32.ofInt x)), (2, .int (Int32.ofInt y)), (3, .int (Int32.ofInt z)), (4, .int (Int32.ofInt w))] [] (Wd A dT s1) 5 30
  refine z_goto X (t := 20) (show cdA 317 9 = some (.goto 11, 3, 0, 0, 0) from rfl) (by decide) ?_
  refine z_const X (show cdA 317 20 = some (.iconst 0, 1, 0, 0, 0) from rfl) ?_
  exact w_iret X.1 q hRt rfl (ax_d X (show cdA 317 21 = some (.ireturn, 1, 0, 0, 0) from rfl)) (show 5 ≤ 5 by omega) (show 30 ≤ 30 by omega) ⟨A, _, hA, rfl, Is1, Gs1, 0, rfl, (by decide), trivial⟩
set_option maxRecDepth 4000 in
theorem lw_span (G : GX l s0 D tys a0 dT) (I : Bd s) {x y z : Int} (p0 : rng x) (p1 : rng y) (p2 : rng z) : CTL l s0 D A dT 318 (rmN 318) [.ref (A 0), .int (Int32.ofInt x), .int (Int32.ofInt y), .int (Int32.ofInt z)] s (fun o t => Bd t ∧ Fm [] [9, 10, 11, 12, 13, 14] s t ∧ ∃ e, o = .inl (some (.int (Int32.ofInt e))) ∧ rng e ∧ (True)) := by
  refine ctL_of G (by decide) (Nat.le_of_ble_eq_true rfl) (by decide) (show cdA 318 0 = some (.aload_n 0, 1, 0, 0, 0) from rfl) (fun k X E ET hRt hEx q => ?_)
  show WS k 0 [(0, .ref (A 0)), (1, .int (Int32.ofInt x)), (2, .int (Int32.ofInt y)), (3, .int (Int32.ofInt z))] [] _ 0 0
  have F : Fm [] [9, 10, 11, 12, 13, 14] s s := fm_rf _ _ s
  have hA := swA_rf A
  refine z_aload_n X (x := A 0) (show cdA 318 0 = some (.aload_n 0, 1, 0, 0, 0) from rfl) (List.Mem.head _) ?_
  refine z_load_n X (x := x) (show cdA 318 1 = some (.iload_n 1, 1, 0, 0, 0) from rfl) (List.Mem.tail _ (List.Mem.head _)) ?_
  refine z_load_n X (x := y) (show cdA 318 2 = some (.iload_n 2, 1, 0, 0, 0) from rfl) (List.Mem.tail _ (List.Mem.tail _ (List.Mem.head _))) ?_
  refine z_load_n X (x := z) (show cdA 318 3 = some (.iload_n 3, 1, 0, 0, 0) from rfl) (List.Mem.tail _ (List.Mem.tail _ (List.Mem.tail _ (List.Mem.head _)))) ?_
  refine z_callV X 0 (rm := rmN 141) (As := [.int (Int32.ofInt x), .int (Int32.ofInt y), .int (Int32.ofInt z)]) (st := []) (show cdA 318 4 = some (.invokevirtual 28, 3, 141, 0, 0) from rfl) rfl (by decide) rfl (by rw [E.1, E.2.1, E.2.2.1]; exact cs_span G I (by omega) (by omega) (by omega)) ⟨by rw [E.2.2.2]; exact (show (rmN 141).frames + 1 ≤ (rmN 318).frames by decide), by rw [E.2.2.2]; exact (show 8 + (mNL (miB 141) + 11) + (rmN 141).locals ≤ (rmN 318).locals by decide), by rw [E.2.2.2]; exact (show 0 + (rmN 141).cells ≤ (rmN 318).cells by decide), by rw [E.2.2.2]; exact (show 0 + (rmN 141).slots ≤ (rmN 318).slots by decide)⟩ (Nat.le_of_ble_eq_true rfl) (fun vv s1 hq => ?_) (fun ee s1 hq => ?_)
  rotate_left
  · obtain ⟨Is1, Fs1, (⟨hv, hps1⟩ | ⟨xx, hv, hps1⟩)⟩ := hq
    · cases hv
    · cases hv
      rcases (show xx = 0 ∨ xx = 1 by omega) with gx | gx
      ·
        subst gx
        have Gs1 := fm_ts F Fs1 (by decide) (by decide)
        refine (hEx 4 0).2 14 rfl _ _ _ _ _ (fun q1 => ?_)
        show WS k 14 [(0, .ref (A 0)), (1, .int (Int32.ofInt x)), (2, .int (Int32.ofInt y)), (3, .int (Int32.ofInt z))] [.ref q1] (Wd A dT s1) 3 18
        refine z_astore X (lv' := [(4, .ref q1), (0, .ref (A 0)), (1, .int (Int32.ofInt x)), (2, .int (Int32.ofInt y)), (3, .int (Int32.ofInt z))]) (show cdA 318 14 = some (.astore 4, 2, 0, 0, 0) from rfl) (by decide) (fun _ h => h) ?_
        refine z_const X (show cdA 318 16 = some (.iconst 2, 1, 0, 0, 0) from rfl) ?_
        exact w_iret X.1 q hRt rfl (ax_d X (show cdA 318 17 = some (.ireturn, 1, 0, 0, 0) from rfl)) (show 3 ≤ 3 by omega) (show 18 ≤ 18 by omega) ⟨A, _, hA, rfl, Is1, Gs1, 2, rfl, (by decide), trivial⟩
      ·
        subst gx
        have Gs1 := fm_ts F Fs1 (by decide) (by decide)
        refine (hEx 4 1).2 10 rfl _ _ _ _ _ (fun q1 => ?_)
        show WS k 10 [(0, .ref (A 0)), (1, .int (Int32.ofInt x)), (2, .int (Int32.ofInt y)), (3, .int (Int32.ofInt z))] [.ref q1] (Wd A dT s1) 3 18
        refine z_astore X (lv' := [(4, .ref q1), (0, .ref (A 0)), (1, .int (Int32.ofInt x)), (2, .int (Int32.ofInt y)), (3, .int (Int32.ofInt z))]) (show cdA 318 10 = some (.astore 4, 2, 0, 0, 0) from rfl) (by decide) (fun _ h => h) ?_
        refine z_const X (show cdA 318 12 = some (.iconst 1, 1, 0, 0, 0) from rfl) ?_
        exact w_iret X.1 q hRt rfl (ax_d X (show cdA 318 13 = some (.ireturn, 1, 0, 0, 0) from rfl)) (show 3 ≤ 3 by omega) (show 18 ≤ 18 by omega) ⟨A, _, hA, rfl, Is1, Gs1, 1, rfl, (by decide), trivial⟩
  obtain ⟨Is1, Fs1, (⟨hv, hps1⟩ | ⟨xx, hv, hps1⟩)⟩ := hq
  rotate_left
  · cases hv
  cases hv
  have Gs1 := fm_ts F Fs1 (by decide) (by decide)
  show WS k 7 [(0, .ref (A 0)), (1, .int (Int32.ofInt x)), (2, .int (Int32.ofInt y)), (3, .int (Int32.ofInt z))] [] (Wd A dT s1) 3 18
  refine z_goto X (t := 18) (show cdA 318 7 = some (.goto 11, 3, 0, 0, 0) from rfl) (by decide) ?_
  refine z_const X (show cdA 318 18 = some (.iconst 0, 1, 0, 0, 0) from rfl) ?_
  exact w_iret X.1 q hRt rfl (ax_d X (show cdA 318 19 = some (.ireturn, 1, 0, 0, 0) from rfl)) (show 3 ≤ 3 by omega) (show 18 ≤ 18 by omega) ⟨A, _, hA, rfl, Is1, Gs1, 0, rfl, (by decide), trivial⟩
set_option maxRecDepth 4000 in
theorem lw_most (G : GX l s0 D tys a0 dT) (I : Bd s) {x y : Int} (p0 : rng x) (p1 : rng y) : CTL l s0 D A dT 319 (rmN 319) [.ref (A 0), .int (Int32.ofInt x), .int (Int32.ofInt y), .ref (A 517)] s (fun o t => Bd t ∧ Fm [] [1460] s t ∧ ∃ e, o = .inl (some (.int (Int32.ofInt e))) ∧ rng e ∧ (True)) := by
  refine ctL_of G (by decide) (Nat.le_of_ble_eq_true rfl) (by decide) (show cdA 319 0 = some (.aload_n 3, 1, 0, 0, 0) from rfl) (fun k X E ET hRt hEx q => ?_)
  show WS k 0 [(0, .ref (A 0)), (1, .int (Int32.ofInt x)), (2, .int (Int32.ofInt y)), (3, .ref (A 517))] [] _ 0 0
  have F : Fm [] [1460] s s := fm_rf _ _ s
  have hA := swA_rf A
  refine z_aload_n X (x := A 517) (show cdA 319 0 = some (.aload_n 3, 1, 0, 0, 0) from rfl) (List.Mem.tail _ (List.Mem.tail _ (List.Mem.tail _ (List.Mem.head _)))) ?_
  refine z_const X (show cdA 319 1 = some (.iconst 0, 1, 0, 0, 0) from rfl) ?_
  refine z_aload_n X (x := A 0) (show cdA 319 2 = some (.aload_n 0, 1, 0, 0, 0) from rfl) (List.Mem.head _) ?_
  refine z_load_n X (x := x) (show cdA 319 3 = some (.iload_n 1, 1, 0, 0, 0) from rfl) (List.Mem.tail _ (List.Mem.head _)) ?_
  refine z_load_n X (x := y) (show cdA 319 4 = some (.iload_n 2, 1, 0, 0, 0) from rfl) (List.Mem.tail _ (List.Mem.tail _ (List.Mem.head _))) ?_
  refine z_callV X 0 (rm := rmN 142) (As := [.int (Int32.ofInt x), .int (Int32.ofInt y)]) (st := [.int (Int32.ofInt 0), .ref (A 517)]) (show cdA 319 5 = some (.invokevirtual 32, 3, 142, 0, 0) from rfl) rfl (by decide) rfl (by rw [E.1, E.2.1, E.2.2.1]; exact cs_most G I (by omega) (by omega)) ⟨by rw [E.2.2.2]; exact (show (rmN 142).frames + 1 ≤ (rmN 319).frames by decide), by rw [E.2.2.2]; exact (show 8 + (mNL (miB 142) + 11) + (rmN 142).locals ≤ (rmN 319).locals by decide), by rw [E.2.2.2]; exact (show 0 + (rmN 142).cells ≤ (rmN 319).cells by decide), by rw [E.2.2.2]; exact (show 0 + (rmN 142).slots ≤ (rmN 319).slots by decide)⟩ (Nat.le_of_ble_eq_true rfl) (fun vv s1 hq => ?_) (fun ee s1 hq => ?_)
  rotate_left
  · obtain ⟨Is1, Fs1, (⟨e2, hv, hrs1, hps1⟩ | ⟨xx, hv, hps1⟩)⟩ := hq
    · cases hv
    · cases hv
      rcases (show xx = 0 ∨ xx = 1 by omega) with gx | gx
      ·
        subst gx
        have Gs1 := fm_ts F Fs1 (by decide) (by decide)
        refine (hEx 5 0).2 17 rfl _ _ _ _ _ (fun q1 => ?_)
        show WS k 17 [(0, .ref (A 0)), (1, .int (Int32.ofInt x)), (2, .int (Int32.ofInt y)), (3, .ref (A 517))] [.ref q1] (Wd A dT s1) 2 12
        refine z_astore X (lv' := [(4, .ref q1), (0, .ref (A 0)), (1, .int (Int32.ofInt x)), (2, .int (Int32.ofInt y)), (3, .ref (A 517))]) (show cdA 319 17 = some (.astore 4, 2, 0, 0, 0) from rfl) (by decide) (fun _ h => h) ?_
        refine z_const X (show cdA 319 19 = some (.iconst 2, 1, 0, 0, 0) from rfl) ?_
        exact w_iret X.1 q hRt rfl (ax_d X (show cdA 319 20 = some (.ireturn, 1, 0, 0, 0) from rfl)) (show 2 ≤ 2 by omega) (show 12 ≤ 12 by omega) ⟨A, _, hA, rfl, Is1, Gs1, 2, rfl, (by decide), trivial⟩
      ·
        subst gx
        have Gs1 := fm_ts F Fs1 (by decide) (by decide)
        refine (hEx 5 1).2 13 rfl _ _ _ _ _ (fun q1 => ?_)
        show WS k 13 [(0, .ref (A 0)), (1, .int (Int32.ofInt x)), (2, .int (Int32.ofInt y)), (3, .ref (A 517))] [.ref q1] (Wd A dT s1) 2 12
        refine z_astore X (lv' := [(4, .ref q1), (0, .ref (A 0)), (1, .int (Int32.ofInt x)), (2, .int (Int32.ofInt y)), (3, .ref (A 517))]) (show cdA 319 13 = some (.astore 4, 2, 0, 0, 0) from rfl) (by decide) (fun _ h => h) ?_
        refine z_const X (show cdA 319 15 = some (.iconst 1, 1, 0, 0, 0) from rfl) ?_
        exact w_iret X.1 q hRt rfl (ax_d X (show cdA 319 16 = some (.ireturn, 1, 0, 0, 0) from rfl)) (show 2 ≤ 2 by omega) (show 12 ≤ 12 by omega) ⟨A, _, hA, rfl, Is1, Gs1, 1, rfl, (by decide), trivial⟩
  obtain ⟨Is1, Fs1, (⟨e2, hv, hrs1, hps1⟩ | ⟨xx, hv, hps1⟩)⟩ := hq
  rotate_left
  · cases hv
  cases hv
  have Gs1 := fm_ts F Fs1 (by decide) (by decide)
  show WS k 8 [(0, .ref (A 0)), (1, .int (Int32.ofInt x)), (2, .int (Int32.ofInt y)), (3, .ref (A 517))] [.int (Int32.ofInt e2), .int (Int32.ofInt 0), .ref (A 517)] (Wd A dT s1) 2 12
  refine w_i2l X.1 (ax_d X (show cdA 319 8 = some (.i2l, 1, 0, 0, 0) from rfl)) ?_
  refine z_anyJ (fun j3 => ?_)
  refine z_last X 517 (show cdA 319 9 = some (.lastore, 1, 0, 0, 0) from rfl) (by decide) rfl (by decide) (show 0 < 1 by decide) (by decide) ?_
  obtain ⟨s4, hs4⟩ : ∃ x0, x0 = uD s1 460 (0 : Int).toNat j3 := ⟨_, rfl⟩
  rw [← hs4]
  have Is4 : Bd s4 := by rw [hs4]; exact bd_D Is1
  have Fs4 : Fm [] [1460] s s4 := by rw [hs4]; exact fm_D Gs1 (show 460 + 1000 ∈ _ by decide)
  refine z_goto X (t := 21) (show cdA 319 10 = some (.goto 11, 3, 0, 0, 0) from rfl) (by decide) ?_
  refine z_const X (show cdA 319 21 = some (.iconst 0, 1, 0, 0, 0) from rfl) ?_
  exact w_iret X.1 q hRt rfl (ax_d X (show cdA 319 22 = some (.ireturn, 1, 0, 0, 0) from rfl)) (show 2 ≤ 2 by omega) (show 12 ≤ 12 by omega) ⟨A, _, hA, rfl, Is4, Fs4, 0, rfl, (by decide), trivial⟩
set_option maxRecDepth 4000 in
theorem lw_assign (G : GX l s0 D tys a0 dT) (I : Bd s) {x y : Int} (p0 : rng x) (p1 : rng y) : CTL l s0 D A dT 320 (rmN 320) [.ref (A 0), .int (Int32.ofInt x), .int (Int32.ofInt y), .ref (A 517)] s (fun o t => Bd t ∧ Fm [] [21, 1022, 1023, 1460] s t ∧ ∃ e, o = .inl (some (.int (Int32.ofInt e))) ∧ rng e ∧ (True)) := by
  refine ctL_of G (by decide) (Nat.le_of_ble_eq_true rfl) (by decide) (show cdA 320 0 = some (.aload_n 3, 1, 0, 0, 0) from rfl) (fun k X E ET hRt hEx q => ?_)
  show WS k 0 [(0, .ref (A 0)), (1, .int (Int32.ofInt x)), (2, .int (Int32.ofInt y)), (3, .ref (A 517))] [] _ 0 0
  have F : Fm [] [21, 1022, 1023, 1460] s s := fm_rf _ _ s
  have hA := swA_rf A
  refine z_aload_n X (x := A 517) (show cdA 320 0 = some (.aload_n 3, 1, 0, 0, 0) from rfl) (List.Mem.tail _ (List.Mem.tail _ (List.Mem.tail _ (List.Mem.head _)))) ?_
  refine z_const X (show cdA 320 1 = some (.iconst 0, 1, 0, 0, 0) from rfl) ?_
  refine z_aload_n X (x := A 0) (show cdA 320 2 = some (.aload_n 0, 1, 0, 0, 0) from rfl) (List.Mem.head _) ?_
  refine z_load_n X (x := x) (show cdA 320 3 = some (.iload_n 1, 1, 0, 0, 0) from rfl) (List.Mem.tail _ (List.Mem.head _)) ?_
  refine z_load_n X (x := y) (show cdA 320 4 = some (.iload_n 2, 1, 0, 0, 0) from rfl) (List.Mem.tail _ (List.Mem.tail _ (List.Mem.head _))) ?_
  refine z_callV X 0 (rm := rmN 143) (As := [.int (Int32.ofInt x), .int (Int32.ofInt y)]) (st := [.int (Int32.ofInt 0), .ref (A 517)]) (show cdA 320 5 = some (.invokevirtual 35, 3, 143, 0, 0) from rfl) rfl (by decide) rfl (by rw [E.1, E.2.1, E.2.2.1]; exact cs_assign G I (by omega) (by omega)) ⟨by rw [E.2.2.2]; exact (show (rmN 143).frames + 1 ≤ (rmN 320).frames by decide), by rw [E.2.2.2]; exact (show 8 + (mNL (miB 143) + 11) + (rmN 143).locals ≤ (rmN 320).locals by decide), by rw [E.2.2.2]; exact (show 0 + (rmN 143).cells ≤ (rmN 320).cells by decide), by rw [E.2.2.2]; exact (show 0 + (rmN 143).slots ≤ (rmN 320).slots by decide)⟩ (Nat.le_of_ble_eq_true rfl) (fun vv s1 hq => ?_) (fun ee s1 hq => ?_)
  rotate_left
  · obtain ⟨Is1, Fs1, (⟨e2, hv, hrs1, hps1⟩ | ⟨xx, hv, hps1⟩)⟩ := hq
    · cases hv
    · cases hv
      rcases (show xx = 0 ∨ xx = 2 by omega) with gx | gx
      ·
        subst gx
        have Gs1 := fm_ts F Fs1 (by decide) (by decide)
        refine (hEx 5 0).2 17 rfl _ _ _ _ _ (fun q1 => ?_)
        show WS k 17 [(0, .ref (A 0)), (1, .int (Int32.ofInt x)), (2, .int (Int32.ofInt y)), (3, .ref (A 517))] [.ref q1] (Wd A dT s1) 2 12
        refine z_astore X (lv' := [(4, .ref q1), (0, .ref (A 0)), (1, .int (Int32.ofInt x)), (2, .int (Int32.ofInt y)), (3, .ref (A 517))]) (show cdA 320 17 = some (.astore 4, 2, 0, 0, 0) from rfl) (by decide) (fun _ h => h) ?_
        refine z_const X (show cdA 320 19 = some (.iconst 2, 1, 0, 0, 0) from rfl) ?_
        exact w_iret X.1 q hRt rfl (ax_d X (show cdA 320 20 = some (.ireturn, 1, 0, 0, 0) from rfl)) (show 2 ≤ 2 by omega) (show 12 ≤ 12 by omega) ⟨A, _, hA, rfl, Is1, Gs1, 2, rfl, (by decide), trivial⟩
      ·
        subst gx
        have Gs1 := fm_ts F Fs1 (by decide) (by decide)
        refine (hEx 5 2).2 13 rfl _ _ _ _ _ (fun q1 => ?_)
        show WS k 13 [(0, .ref (A 0)), (1, .int (Int32.ofInt x)), (2, .int (Int32.ofInt y)), (3, .ref (A 517))] [.ref q1] (Wd A dT s1) 2 12
        refine z_astore X (lv' := [(4, .ref q1), (0, .ref (A 0)), (1, .int (Int32.ofInt x)), (2, .int (Int32.ofInt y)), (3, .ref (A 517))]) (show cdA 320 13 = some (.astore 4, 2, 0, 0, 0) from rfl) (by decide) (fun _ h => h) ?_
        refine z_const X (show cdA 320 15 = some (.iconst 1, 1, 0, 0, 0) from rfl) ?_
        exact w_iret X.1 q hRt rfl (ax_d X (show cdA 320 16 = some (.ireturn, 1, 0, 0, 0) from rfl)) (show 2 ≤ 2 by omega) (show 12 ≤ 12 by omega) ⟨A, _, hA, rfl, Is1, Gs1, 1, rfl, (by decide), trivial⟩
  obtain ⟨Is1, Fs1, (⟨e2, hv, hrs1, hps1⟩ | ⟨xx, hv, hps1⟩)⟩ := hq
  rotate_left
  · cases hv
  cases hv
  have Gs1 := fm_ts F Fs1 (by decide) (by decide)
  show WS k 8 [(0, .ref (A 0)), (1, .int (Int32.ofInt x)), (2, .int (Int32.ofInt y)), (3, .ref (A 517))] [.int (Int32.ofInt e2), .int (Int32.ofInt 0), .ref (A 517)] (Wd A dT s1) 2 12
  refine w_i2l X.1 (ax_d X (show cdA 320 8 = some (.i2l, 1, 0, 0, 0) from rfl)) ?_
  refine z_anyJ (fun j3 => ?_)
  refine z_last X 517 (show cdA 320 9 = some (.lastore, 1, 0, 0, 0) from rfl) (by decide) rfl (by decide) (show 0 < 1 by decide) (by decide) ?_
  obtain ⟨s4, hs4⟩ : ∃ x0, x0 = uD s1 460 (0 : Int).toNat j3 := ⟨_, rfl⟩
  rw [← hs4]
  have Is4 : Bd s4 := by rw [hs4]; exact bd_D Is1
  have Fs4 : Fm [] [21, 1022, 1023, 1460] s s4 := by rw [hs4]; exact fm_D Gs1 (show 460 + 1000 ∈ _ by decide)
  refine z_goto X (t := 21) (show cdA 320 10 = some (.goto 11, 3, 0, 0, 0) from rfl) (by decide) ?_
  refine z_const X (show cdA 320 21 = some (.iconst 0, 1, 0, 0, 0) from rfl) ?_
  exact w_iret X.1 q hRt rfl (ax_d X (show cdA 320 22 = some (.ireturn, 1, 0, 0, 0) from rfl)) (show 2 ≤ 2 by omega) (show 12 ≤ 12 by omega) ⟨A, _, hA, rfl, Is4, Fs4, 0, rfl, (by decide), trivial⟩
set_option maxRecDepth 4000 in
theorem lw_paint (G : GX l s0 D tys a0 dT) (I : Bd s) {x y z : Int} (p0 : rng x) (p1 : rng y) (p2 : rng z) : CTL l s0 D A dT 321 (rmN 321) [.ref (A 0), .int (Int32.ofInt x), .int (Int32.ofInt y), .int (Int32.ofInt z), .ref (A 517)] s (fun o t => Bd t ∧ Fm [] [21, 1022, 1023, 1460] s t ∧ ∃ e, o = .inl (some (.int (Int32.ofInt e))) ∧ rng e ∧ (True)) := by
  refine ctL_of G (by decide) (Nat.le_of_ble_eq_true rfl) (by decide) (show cdA 321 0 = some (.aload 4, 2, 0, 0, 0) from rfl) (fun k X E ET hRt hEx q => ?_)
  show WS k 0 [(0, .ref (A 0)), (1, .int (Int32.ofInt x)), (2, .int (Int32.ofInt y)), (3, .int (Int32.ofInt z)), (4, .ref (A 517))] [] _ 0 0
  have F : Fm [] [21, 1022, 1023, 1460] s s := fm_rf _ _ s
  have hA := swA_rf A
  refine z_aload X (x := A 517) (show cdA 321 0 = some (.aload 4, 2, 0, 0, 0) from rfl) (List.Mem.tail _ (List.Mem.tail _ (List.Mem.tail _ (List.Mem.tail _ (List.Mem.head _))))) ?_
  refine z_const X (show cdA 321 2 = some (.iconst 0, 1, 0, 0, 0) from rfl) ?_
  refine z_aload_n X (x := A 0) (show cdA 321 3 = some (.aload_n 0, 1, 0, 0, 0) from rfl) (List.Mem.head _) ?_
  refine z_load_n X (x := x) (show cdA 321 4 = some (.iload_n 1, 1, 0, 0, 0) from rfl) (List.Mem.tail _ (List.Mem.head _)) ?_
  refine z_load_n X (x := y) (show cdA 321 5 = some (.iload_n 2, 1, 0, 0, 0) from rfl) (List.Mem.tail _ (List.Mem.tail _ (List.Mem.head _))) ?_
  refine z_load_n X (x := z) (show cdA 321 6 = some (.iload_n 3, 1, 0, 0, 0) from rfl) (List.Mem.tail _ (List.Mem.tail _ (List.Mem.tail _ (List.Mem.head _)))) ?_
  refine z_callV X 0 (rm := rmN 144) (As := [.int (Int32.ofInt x), .int (Int32.ofInt y), .int (Int32.ofInt z)]) (st := [.int (Int32.ofInt 0), .ref (A 517)]) (show cdA 321 7 = some (.invokevirtual 40, 3, 144, 0, 0) from rfl) rfl (by decide) rfl (by rw [E.1, E.2.1, E.2.2.1]; exact cs_paint G I (by omega) (by omega) (by omega)) ⟨by rw [E.2.2.2]; exact (show (rmN 144).frames + 1 ≤ (rmN 321).frames by decide), by rw [E.2.2.2]; exact (show 8 + (mNL (miB 144) + 11) + (rmN 144).locals ≤ (rmN 321).locals by decide), by rw [E.2.2.2]; exact (show 0 + (rmN 144).cells ≤ (rmN 321).cells by decide), by rw [E.2.2.2]; exact (show 0 + (rmN 144).slots ≤ (rmN 321).slots by decide)⟩ (Nat.le_of_ble_eq_true rfl) (fun vv s1 hq => ?_) (fun ee s1 hq => ?_)
  rotate_left
  · obtain ⟨Is1, Fs1, (⟨e2, hv, hrs1, hps1⟩ | ⟨xx, hv, hps1⟩)⟩ := hq
    · cases hv
    · cases hv
      rcases (show xx = 0 ∨ xx = 2 by omega) with gx | gx
      ·
        subst gx
        have Gs1 := fm_ts F Fs1 (by decide) (by decide)
        refine (hEx 7 0).2 19 rfl _ _ _ _ _ (fun q1 => ?_)
        show WS k 19 [(0, .ref (A 0)), (1, .int (Int32.ofInt x)), (2, .int (Int32.ofInt y)), (3, .int (Int32.ofInt z)), (4, .ref (A 517))] [.ref q1] (Wd A dT s1) 4 24
        refine z_astore X (lv' := [(5, .ref q1), (0, .ref (A 0)), (1, .int (Int32.ofInt x)), (2, .int (Int32.ofInt y)), (3, .int (Int32.ofInt z)), (4, .ref (A 517))]) (show cdA 321 19 = some (.astore 5, 2, 0, 0, 0) from rfl) (by decide) (fun _ h => h) ?_
        refine z_const X (show cdA 321 21 = some (.iconst 2, 1, 0, 0, 0) from rfl) ?_
        exact w_iret X.1 q hRt rfl (ax_d X (show cdA 321 22 = some (.ireturn, 1, 0, 0, 0) from rfl)) (show 4 ≤ 4 by omega) (show 24 ≤ 24 by omega) ⟨A, _, hA, rfl, Is1, Gs1, 2, rfl, (by decide), trivial⟩
      ·
        subst gx
        have Gs1 := fm_ts F Fs1 (by decide) (by decide)
        refine (hEx 7 2).2 15 rfl _ _ _ _ _ (fun q1 => ?_)
        show WS k 15 [(0, .ref (A 0)), (1, .int (Int32.ofInt x)), (2, .int (Int32.ofInt y)), (3, .int (Int32.ofInt z)), (4, .ref (A 517))] [.ref q1] (Wd A dT s1) 4 24
        refine z_astore X (lv' := [(5, .ref q1), (0, .ref (A 0)), (1, .int (Int32.ofInt x)), (2, .int (Int32.ofInt y)), (3, .int (Int32.ofInt z)), (4, .ref (A 517))]) (show cdA 321 15 = some (.astore 5, 2, 0, 0, 0) from rfl) (by decide) (fun _ h => h) ?_
        refine z_const X (show cdA 321 17 = some (.iconst 1, 1, 0, 0, 0) from rfl) ?_
        exact w_iret X.1 q hRt rfl (ax_d X (show cdA 321 18 = some (.ireturn, 1, 0, 0, 0) from rfl)) (show 4 ≤ 4 by omega) (show 24 ≤ 24 by omega) ⟨A, _, hA, rfl, Is1, Gs1, 1, rfl, (by decide), trivial⟩
  obtain ⟨Is1, Fs1, (⟨e2, hv, hrs1, hps1⟩ | ⟨xx, hv, hps1⟩)⟩ := hq
  rotate_left
  · cases hv
  cases hv
  have Gs1 := fm_ts F Fs1 (by decide) (by decide)
  show WS k 10 [(0, .ref (A 0)), (1, .int (Int32.ofInt x)), (2, .int (Int32.ofInt y)), (3, .int (Int32.ofInt z)), (4, .ref (A 517))] [.int (Int32.ofInt e2), .int (Int32.ofInt 0), .ref (A 517)] (Wd A dT s1) 4 24
  refine w_i2l X.1 (ax_d X (show cdA 321 10 = some (.i2l, 1, 0, 0, 0) from rfl)) ?_
  refine z_anyJ (fun j3 => ?_)
  refine z_last X 517 (show cdA 321 11 = some (.lastore, 1, 0, 0, 0) from rfl) (by decide) rfl (by decide) (show 0 < 1 by decide) (by decide) ?_
  obtain ⟨s4, hs4⟩ : ∃ x0, x0 = uD s1 460 (0 : Int).toNat j3 := ⟨_, rfl⟩
  rw [← hs4]
  have Is4 : Bd s4 := by rw [hs4]; exact bd_D Is1
  have Fs4 : Fm [] [21, 1022, 1023, 1460] s s4 := by rw [hs4]; exact fm_D Gs1 (show 460 + 1000 ∈ _ by decide)
  refine z_goto X (t := 23) (show cdA 321 12 = some (.goto 11, 3, 0, 0, 0) from rfl) (by decide) ?_
  refine z_const X (show cdA 321 23 = some (.iconst 0, 1, 0, 0, 0) from rfl) ?_
  exact w_iret X.1 q hRt rfl (ax_d X (show cdA 321 24 = some (.ireturn, 1, 0, 0, 0) from rfl)) (show 4 ≤ 4 by omega) (show 24 ≤ 24 by omega) ⟨A, _, hA, rfl, Is4, Fs4, 0, rfl, (by decide), trivial⟩
set_option maxRecDepth 4000 in
theorem lw_limit (G : GX l s0 D tys a0 dT) (I : Bd s) {x y : Int} (p0 : rng x) (p1 : rng y) : CTL l s0 D A dT 322 (rmN 322) [.ref (A 0), .int (Int32.ofInt x), .int (Int32.ofInt y), .ref (A 517)] s (fun o t => Bd t ∧ Fm [] [24, 1460] s t ∧ ∃ e, o = .inl (some (.int (Int32.ofInt e))) ∧ rng e ∧ (True)) := by
  refine ctL_of G (by decide) (Nat.le_of_ble_eq_true rfl) (by decide) (show cdA 322 0 = some (.aload_n 3, 1, 0, 0, 0) from rfl) (fun k X E ET hRt hEx q => ?_)
  show WS k 0 [(0, .ref (A 0)), (1, .int (Int32.ofInt x)), (2, .int (Int32.ofInt y)), (3, .ref (A 517))] [] _ 0 0
  have F : Fm [] [24, 1460] s s := fm_rf _ _ s
  have hA := swA_rf A
  refine z_aload_n X (x := A 517) (show cdA 322 0 = some (.aload_n 3, 1, 0, 0, 0) from rfl) (List.Mem.tail _ (List.Mem.tail _ (List.Mem.tail _ (List.Mem.head _)))) ?_
  refine z_const X (show cdA 322 1 = some (.iconst 0, 1, 0, 0, 0) from rfl) ?_
  refine z_aload_n X (x := A 0) (show cdA 322 2 = some (.aload_n 0, 1, 0, 0, 0) from rfl) (List.Mem.head _) ?_
  refine z_load_n X (x := x) (show cdA 322 3 = some (.iload_n 1, 1, 0, 0, 0) from rfl) (List.Mem.tail _ (List.Mem.head _)) ?_
  refine z_load_n X (x := y) (show cdA 322 4 = some (.iload_n 2, 1, 0, 0, 0) from rfl) (List.Mem.tail _ (List.Mem.tail _ (List.Mem.head _))) ?_
  refine z_callV X 0 (rm := rmN 145) (As := [.int (Int32.ofInt x), .int (Int32.ofInt y)]) (st := [.int (Int32.ofInt 0), .ref (A 517)]) (show cdA 322 5 = some (.invokevirtual 44, 3, 145, 0, 0) from rfl) rfl (by decide) rfl (by rw [E.1, E.2.1, E.2.2.1]; exact cs_limit G I (by omega) (by omega)) ⟨by rw [E.2.2.2]; exact (show (rmN 145).frames + 1 ≤ (rmN 322).frames by decide), by rw [E.2.2.2]; exact (show 8 + (mNL (miB 145) + 11) + (rmN 145).locals ≤ (rmN 322).locals by decide), by rw [E.2.2.2]; exact (show 0 + (rmN 145).cells ≤ (rmN 322).cells by decide), by rw [E.2.2.2]; exact (show 0 + (rmN 145).slots ≤ (rmN 322).slots by decide)⟩ (Nat.le_of_ble_eq_true rfl) (fun vv s1 hq => ?_) (fun ee s1 hq => ?_)
  rotate_left
  · obtain ⟨Is1, Fs1, (⟨e2, hv, hrs1, hps1⟩ | ⟨xx, hv, hps1⟩)⟩ := hq
    · cases hv
    · cases hv
      rcases (show xx = 0 by omega) with gx
      ·
        subst gx
        have Gs1 := fm_ts F Fs1 (by decide) (by decide)
        refine (hEx 5 0).2 13 rfl _ _ _ _ _ (fun q1 => ?_)
        show WS k 13 [(0, .ref (A 0)), (1, .int (Int32.ofInt x)), (2, .int (Int32.ofInt y)), (3, .ref (A 517))] [.ref q1] (Wd A dT s1) 2 12
        refine z_astore X (lv' := [(4, .ref q1), (0, .ref (A 0)), (1, .int (Int32.ofInt x)), (2, .int (Int32.ofInt y)), (3, .ref (A 517))]) (show cdA 322 13 = some (.astore 4, 2, 0, 0, 0) from rfl) (by decide) (fun _ h => h) ?_
        refine z_const X (show cdA 322 15 = some (.iconst 1, 1, 0, 0, 0) from rfl) ?_
        exact w_iret X.1 q hRt rfl (ax_d X (show cdA 322 16 = some (.ireturn, 1, 0, 0, 0) from rfl)) (show 2 ≤ 2 by omega) (show 12 ≤ 12 by omega) ⟨A, _, hA, rfl, Is1, Gs1, 1, rfl, (by decide), trivial⟩
  obtain ⟨Is1, Fs1, (⟨e2, hv, hrs1, hps1⟩ | ⟨xx, hv, hps1⟩)⟩ := hq
  rotate_left
  · cases hv
  cases hv
  have Gs1 := fm_ts F Fs1 (by decide) (by decide)
  show WS k 8 [(0, .ref (A 0)), (1, .int (Int32.ofInt x)), (2, .int (Int32.ofInt y)), (3, .ref (A 517))] [.int (Int32.ofInt e2), .int (Int32.ofInt 0), .ref (A 517)] (Wd A dT s1) 2 12
  refine w_i2l X.1 (ax_d X (show cdA 322 8 = some (.i2l, 1, 0, 0, 0) from rfl)) ?_
  refine z_anyJ (fun j3 => ?_)
  refine z_last X 517 (show cdA 322 9 = some (.lastore, 1, 0, 0, 0) from rfl) (by decide) rfl (by decide) (show 0 < 1 by decide) (by decide) ?_
  obtain ⟨s4, hs4⟩ : ∃ x0, x0 = uD s1 460 (0 : Int).toNat j3 := ⟨_, rfl⟩
  rw [← hs4]
  have Is4 : Bd s4 := by rw [hs4]; exact bd_D Is1
  have Fs4 : Fm [] [24, 1460] s s4 := by rw [hs4]; exact fm_D Gs1 (show 460 + 1000 ∈ _ by decide)
  refine z_goto X (t := 17) (show cdA 322 10 = some (.goto 7, 3, 0, 0, 0) from rfl) (by decide) ?_
  refine z_const X (show cdA 322 17 = some (.iconst 0, 1, 0, 0, 0) from rfl) ?_
  exact w_iret X.1 q hRt rfl (ax_d X (show cdA 322 18 = some (.ireturn, 1, 0, 0, 0) from rfl)) (show 2 ≤ 2 by omega) (show 12 ≤ 12 by omega) ⟨A, _, hA, rfl, Is4, Fs4, 0, rfl, (by decide), trivial⟩
set_option maxRecDepth 4000 in
theorem lw_hears (G : GX l s0 D tys a0 dT) (I : Bd s) {x y z : Int} (p0 : rng x) (p1 : rng y) (p2 : rng z) : CTL l s0 D A dT 323 (rmN 323) [.ref (A 0), .int (Int32.ofInt x), .int (Int32.ofInt y), .int (Int32.ofInt z), .ref (A 517)] s (fun o t => Bd t ∧ Fm [22, 23] [33, 26, 27, 28, 29, 30, 31, 32, 20, 1460] s t ∧ ∃ e, o = .inl (some (.int (Int32.ofInt e))) ∧ rng e ∧ (True)) := by
  refine ctL_of G (by decide) (Nat.le_of_ble_eq_true rfl) (by decide) (show cdA 323 0 = some (.aload 4, 2, 0, 0, 0) from rfl) (fun k X E ET hRt hEx q => ?_)
  show WS k 0 [(0, .ref (A 0)), (1, .int (Int32.ofInt x)), (2, .int (Int32.ofInt y)), (3, .int (Int32.ofInt z)), (4, .ref (A 517))] [] _ 0 0
  have F : Fm [22, 23] [33, 26, 27, 28, 29, 30, 31, 32, 20, 1460] s s := fm_rf _ _ s
  have hA := swA_rf A
  refine z_aload X (x := A 517) (show cdA 323 0 = some (.aload 4, 2, 0, 0, 0) from rfl) (List.Mem.tail _ (List.Mem.tail _ (List.Mem.tail _ (List.Mem.tail _ (List.Mem.head _))))) ?_
  refine z_const X (show cdA 323 2 = some (.iconst 0, 1, 0, 0, 0) from rfl) ?_
  refine z_aload_n X (x := A 0) (show cdA 323 3 = some (.aload_n 0, 1, 0, 0, 0) from rfl) (List.Mem.head _) ?_
  refine z_load_n X (x := x) (show cdA 323 4 = some (.iload_n 1, 1, 0, 0, 0) from rfl) (List.Mem.tail _ (List.Mem.head _)) ?_
  refine z_load_n X (x := y) (show cdA 323 5 = some (.iload_n 2, 1, 0, 0, 0) from rfl) (List.Mem.tail _ (List.Mem.tail _ (List.Mem.head _))) ?_
  refine z_load_n X (x := z) (show cdA 323 6 = some (.iload_n 3, 1, 0, 0, 0) from rfl) (List.Mem.tail _ (List.Mem.tail _ (List.Mem.tail _ (List.Mem.head _)))) ?_
  refine z_callV X 0 (rm := rmN 146) (As := [.int (Int32.ofInt x), .int (Int32.ofInt y), .int (Int32.ofInt z)]) (st := [.int (Int32.ofInt 0), .ref (A 517)]) (show cdA 323 7 = some (.invokevirtual 47, 3, 146, 0, 0) from rfl) rfl (by decide) rfl (by rw [E.1, E.2.1, E.2.2.1]; exact cs_hears G I (by omega) (by omega) (by omega)) ⟨by rw [E.2.2.2]; exact (show (rmN 146).frames + 1 ≤ (rmN 323).frames by decide), by rw [E.2.2.2]; exact (show 8 + (mNL (miB 146) + 11) + (rmN 146).locals ≤ (rmN 323).locals by decide), by rw [E.2.2.2]; exact (show 0 + (rmN 146).cells ≤ (rmN 323).cells by decide), by rw [E.2.2.2]; exact (show 0 + (rmN 146).slots ≤ (rmN 323).slots by decide)⟩ (Nat.le_of_ble_eq_true rfl) (fun vv s1 hq => ?_) (fun ee s1 hq => ?_)
  rotate_left
  · obtain ⟨Is1, Fs1, (⟨e2, hv, hrs1, hps1⟩ | ⟨xx, hv, hps1⟩)⟩ := hq
    · cases hv
    · cases hv
      rcases (show xx = 0 by omega) with gx
      ·
        subst gx
        have Gs1 := fm_ts F Fs1 (by decide) (by decide)
        refine (hEx 7 0).2 15 rfl _ _ _ _ _ (fun q1 => ?_)
        show WS k 15 [(0, .ref (A 0)), (1, .int (Int32.ofInt x)), (2, .int (Int32.ofInt y)), (3, .int (Int32.ofInt z)), (4, .ref (A 517))] [.ref q1] (Wd A dT s1) 3 18
        refine z_astore X (lv' := [(5, .ref q1), (0, .ref (A 0)), (1, .int (Int32.ofInt x)), (2, .int (Int32.ofInt y)), (3, .int (Int32.ofInt z)), (4, .ref (A 517))]) (show cdA 323 15 = some (.astore 5, 2, 0, 0, 0) from rfl) (by decide) (fun _ h => h) ?_
        refine z_const X (show cdA 323 17 = some (.iconst 1, 1, 0, 0, 0) from rfl) ?_
        exact w_iret X.1 q hRt rfl (ax_d X (show cdA 323 18 = some (.ireturn, 1, 0, 0, 0) from rfl)) (show 3 ≤ 3 by omega) (show 18 ≤ 18 by omega) ⟨A, _, hA, rfl, Is1, Gs1, 1, rfl, (by decide), trivial⟩
  obtain ⟨Is1, Fs1, (⟨e2, hv, hrs1, hps1⟩ | ⟨xx, hv, hps1⟩)⟩ := hq
  rotate_left
  · cases hv
  cases hv
  have Gs1 := fm_ts F Fs1 (by decide) (by decide)
  show WS k 10 [(0, .ref (A 0)), (1, .int (Int32.ofInt x)), (2, .int (Int32.ofInt y)), (3, .int (Int32.ofInt z)), (4, .ref (A 517))] [.int (Int32.ofInt e2), .int (Int32.ofInt 0), .ref (A 517)] (Wd A dT s1) 3 18
  refine w_i2l X.1 (ax_d X (show cdA 323 10 = some (.i2l, 1, 0, 0, 0) from rfl)) ?_
  refine z_anyJ (fun j3 => ?_)
  refine z_last X 517 (show cdA 323 11 = some (.lastore, 1, 0, 0, 0) from rfl) (by decide) rfl (by decide) (show 0 < 1 by decide) (by decide) ?_
  obtain ⟨s4, hs4⟩ : ∃ x0, x0 = uD s1 460 (0 : Int).toNat j3 := ⟨_, rfl⟩
  rw [← hs4]
  have Is4 : Bd s4 := by rw [hs4]; exact bd_D Is1
  have Fs4 : Fm [22, 23] [33, 26, 27, 28, 29, 30, 31, 32, 20, 1460] s s4 := by rw [hs4]; exact fm_D Gs1 (show 460 + 1000 ∈ _ by decide)
  refine z_goto X (t := 19) (show cdA 323 12 = some (.goto 7, 3, 0, 0, 0) from rfl) (by decide) ?_
  refine z_const X (show cdA 323 19 = some (.iconst 0, 1, 0, 0, 0) from rfl) ?_
  exact w_iret X.1 q hRt rfl (ax_d X (show cdA 323 20 = some (.ireturn, 1, 0, 0, 0) from rfl)) (show 3 ≤ 3 by omega) (show 18 ≤ 18 by omega) ⟨A, _, hA, rfl, Is4, Fs4, 0, rfl, (by decide), trivial⟩
set_option maxRecDepth 4000 in
theorem lw_peak (G : GX l s0 D tys a0 dT) (I : Bd s) {x y : Int} (p0 : rng x) (p1 : rng y) : CTL l s0 D A dT 324 (rmN 324) [.ref (A 0), .int (Int32.ofInt x), .int (Int32.ofInt y), .ref (A 517)] s (fun o t => Bd t ∧ Fm [22, 23, 24] [33, 26, 27, 28, 29, 30, 31, 32, 20, 1460] s t ∧ ∃ e, o = .inl (some (.int (Int32.ofInt e))) ∧ rng e ∧ (True)) := by
  refine ctL_of G (by decide) (Nat.le_of_ble_eq_true rfl) (by decide) (show cdA 324 0 = some (.aload_n 3, 1, 0, 0, 0) from rfl) (fun k X E ET hRt hEx q => ?_)
  show WS k 0 [(0, .ref (A 0)), (1, .int (Int32.ofInt x)), (2, .int (Int32.ofInt y)), (3, .ref (A 517))] [] _ 0 0
  have F : Fm [22, 23, 24] [33, 26, 27, 28, 29, 30, 31, 32, 20, 1460] s s := fm_rf _ _ s
  have hA := swA_rf A
  refine z_aload_n X (x := A 517) (show cdA 324 0 = some (.aload_n 3, 1, 0, 0, 0) from rfl) (List.Mem.tail _ (List.Mem.tail _ (List.Mem.tail _ (List.Mem.head _)))) ?_
  refine z_const X (show cdA 324 1 = some (.iconst 0, 1, 0, 0, 0) from rfl) ?_
  refine z_aload_n X (x := A 0) (show cdA 324 2 = some (.aload_n 0, 1, 0, 0, 0) from rfl) (List.Mem.head _) ?_
  refine z_load_n X (x := x) (show cdA 324 3 = some (.iload_n 1, 1, 0, 0, 0) from rfl) (List.Mem.tail _ (List.Mem.head _)) ?_
  refine z_load_n X (x := y) (show cdA 324 4 = some (.iload_n 2, 1, 0, 0, 0) from rfl) (List.Mem.tail _ (List.Mem.tail _ (List.Mem.head _))) ?_
  refine z_callV X 0 (rm := rmN 147) (As := [.int (Int32.ofInt x), .int (Int32.ofInt y)]) (st := [.int (Int32.ofInt 0), .ref (A 517)]) (show cdA 324 5 = some (.invokevirtual 50, 3, 147, 0, 0) from rfl) rfl (by decide) rfl (by rw [E.1, E.2.1, E.2.2.1]; exact cs_peak G I (by omega) (by omega)) ⟨by rw [E.2.2.2]; exact (show (rmN 147).frames + 1 ≤ (rmN 324).frames by decide), by rw [E.2.2.2]; exact (show 8 + (mNL (miB 147) + 11) + (rmN 147).locals ≤ (rmN 324).locals by decide), by rw [E.2.2.2]; exact (show 0 + (rmN 147).cells ≤ (rmN 324).cells by decide), by rw [E.2.2.2]; exact (show 0 + (rmN 147).slots ≤ (rmN 324).slots by decide)⟩ (Nat.le_of_ble_eq_true rfl) (fun vv s1 hq => ?_) (fun ee s1 hq => ?_)
  rotate_left
  · obtain ⟨Is1, Fs1, (⟨e2, hv, hrs1, hps1⟩ | ⟨xx, hv, hps1⟩)⟩ := hq
    · cases hv
    · cases hv
      rcases (show xx = 0 by omega) with gx
      ·
        subst gx
        have Gs1 := fm_ts F Fs1 (by decide) (by decide)
        refine (hEx 5 0).2 13 rfl _ _ _ _ _ (fun q1 => ?_)
        show WS k 13 [(0, .ref (A 0)), (1, .int (Int32.ofInt x)), (2, .int (Int32.ofInt y)), (3, .ref (A 517))] [.ref q1] (Wd A dT s1) 2 12
        refine z_astore X (lv' := [(4, .ref q1), (0, .ref (A 0)), (1, .int (Int32.ofInt x)), (2, .int (Int32.ofInt y)), (3, .ref (A 517))]) (show cdA 324 13 = some (.astore 4, 2, 0, 0, 0) from rfl) (by decide) (fun _ h => h) ?_
        refine z_const X (show cdA 324 15 = some (.iconst 1, 1, 0, 0, 0) from rfl) ?_
        exact w_iret X.1 q hRt rfl (ax_d X (show cdA 324 16 = some (.ireturn, 1, 0, 0, 0) from rfl)) (show 2 ≤ 2 by omega) (show 12 ≤ 12 by omega) ⟨A, _, hA, rfl, Is1, Gs1, 1, rfl, (by decide), trivial⟩
  obtain ⟨Is1, Fs1, (⟨e2, hv, hrs1, hps1⟩ | ⟨xx, hv, hps1⟩)⟩ := hq
  rotate_left
  · cases hv
  cases hv
  have Gs1 := fm_ts F Fs1 (by decide) (by decide)
  show WS k 8 [(0, .ref (A 0)), (1, .int (Int32.ofInt x)), (2, .int (Int32.ofInt y)), (3, .ref (A 517))] [.int (Int32.ofInt e2), .int (Int32.ofInt 0), .ref (A 517)] (Wd A dT s1) 2 12
  refine w_i2l X.1 (ax_d X (show cdA 324 8 = some (.i2l, 1, 0, 0, 0) from rfl)) ?_
  refine z_anyJ (fun j3 => ?_)
  refine z_last X 517 (show cdA 324 9 = some (.lastore, 1, 0, 0, 0) from rfl) (by decide) rfl (by decide) (show 0 < 1 by decide) (by decide) ?_
  obtain ⟨s4, hs4⟩ : ∃ x0, x0 = uD s1 460 (0 : Int).toNat j3 := ⟨_, rfl⟩
  rw [← hs4]
  have Is4 : Bd s4 := by rw [hs4]; exact bd_D Is1
  have Fs4 : Fm [22, 23, 24] [33, 26, 27, 28, 29, 30, 31, 32, 20, 1460] s s4 := by rw [hs4]; exact fm_D Gs1 (show 460 + 1000 ∈ _ by decide)
  refine z_goto X (t := 17) (show cdA 324 10 = some (.goto 7, 3, 0, 0, 0) from rfl) (by decide) ?_
  refine z_const X (show cdA 324 17 = some (.iconst 0, 1, 0, 0, 0) from rfl) ?_
  exact w_iret X.1 q hRt rfl (ax_d X (show cdA 324 18 = some (.ireturn, 1, 0, 0, 0) from rfl)) (show 2 ≤ 2 by omega) (show 12 ≤ 12 by omega) ⟨A, _, hA, rfl, Is4, Fs4, 0, rfl, (by decide), trivial⟩
set_option maxRecDepth 4000 in
theorem lw_whole (G : GX l s0 D tys a0 dT) (I : Bd s) {x : Int} (p0 : rng x) : CTL l s0 D A dT 325 (rmN 325) [.ref (A 0), .int (Int32.ofInt x), .ref (A 517)] s (fun o t => Bd t ∧ Fm [] [1460] s t ∧ ∃ e, o = .inl (some (.int (Int32.ofInt e))) ∧ rng e ∧ (True)) := by
  refine ctL_of G (by decide) (Nat.le_of_ble_eq_true rfl) (by decide) (show cdA 325 0 = some (.aload_n 2, 1, 0, 0, 0) from rfl) (fun k X E ET hRt hEx q => ?_)
  show WS k 0 [(0, .ref (A 0)), (1, .int (Int32.ofInt x)), (2, .ref (A 517))] [] _ 0 0
  have F : Fm [] [1460] s s := fm_rf _ _ s
  have hA := swA_rf A
  refine z_aload_n X (x := A 517) (show cdA 325 0 = some (.aload_n 2, 1, 0, 0, 0) from rfl) (List.Mem.tail _ (List.Mem.tail _ (List.Mem.head _))) ?_
  refine z_const X (show cdA 325 1 = some (.iconst 0, 1, 0, 0, 0) from rfl) ?_
  refine z_aload_n X (x := A 0) (show cdA 325 2 = some (.aload_n 0, 1, 0, 0, 0) from rfl) (List.Mem.head _) ?_
  refine z_load_n X (x := x) (show cdA 325 3 = some (.iload_n 1, 1, 0, 0, 0) from rfl) (List.Mem.tail _ (List.Mem.head _)) ?_
  refine z_callV X 0 (rm := rmN 148) (As := [.int (Int32.ofInt x)]) (st := [.int (Int32.ofInt 0), .ref (A 517)]) (show cdA 325 4 = some (.invokevirtual 53, 3, 148, 0, 0) from rfl) rfl (by decide) rfl (by rw [E.1, E.2.1, E.2.2.1]; exact cs_whole G I (by omega)) ⟨by rw [E.2.2.2]; exact (show (rmN 148).frames + 1 ≤ (rmN 325).frames by decide), by rw [E.2.2.2]; exact (show 8 + (mNL (miB 148) + 11) + (rmN 148).locals ≤ (rmN 325).locals by decide), by rw [E.2.2.2]; exact (show 0 + (rmN 148).cells ≤ (rmN 325).cells by decide), by rw [E.2.2.2]; exact (show 0 + (rmN 148).slots ≤ (rmN 325).slots by decide)⟩ (Nat.le_of_ble_eq_true rfl) (fun vv s1 hq => ?_) (fun ee s1 hq => ?_)
  rotate_left
  · obtain ⟨Is1, Fs1, (⟨e2, hv, hrs1, hps1⟩ | ⟨xx, hv, hps1⟩)⟩ := hq
    · cases hv
    · cases hv
      rcases (show xx = 0 by omega) with gx
      ·
        subst gx
        have Gs1 := fm_ts F Fs1 (by decide) (by decide)
        refine (hEx 4 0).2 19 rfl _ _ _ _ _ (fun q1 => ?_)
        show WS k 19 [(0, .ref (A 0)), (1, .int (Int32.ofInt x)), (2, .ref (A 517))] [.ref q1] (Wd A dT s1) 1 6
        refine z_astore_n X (lv' := [(3, .ref q1), (0, .ref (A 0)), (1, .int (Int32.ofInt x)), (2, .ref (A 517))]) (show cdA 325 19 = some (.astore_n 3, 1, 0, 0, 0) from rfl) (by decide) (fun _ h => h) ?_
        refine z_const X (show cdA 325 20 = some (.iconst 1, 1, 0, 0, 0) from rfl) ?_
        exact w_iret X.1 q hRt rfl (ax_d X (show cdA 325 21 = some (.ireturn, 1, 0, 0, 0) from rfl)) (show 1 ≤ 1 by omega) (show 6 ≤ 6 by omega) ⟨A, _, hA, rfl, Is1, Gs1, 1, rfl, (by decide), trivial⟩
  obtain ⟨Is1, Fs1, (⟨e2, hv, hrs1, hps1⟩ | ⟨xx, hv, hps1⟩)⟩ := hq
  rotate_left
  · cases hv
  cases hv
  have Gs1 := fm_ts F Fs1 (by decide) (by decide)
  show WS k 7 [(0, .ref (A 0)), (1, .int (Int32.ofInt x)), (2, .ref (A 517))] [.int (Int32.ofInt e2), .int (Int32.ofInt 0), .ref (A 517)] (Wd A dT s1) 1 6
  have N3 : ∀ j4 : Int64, WS k 15 [(0, .ref (A 0)), (1, .int (Int32.ofInt x)), (2, .ref (A 517))] [.long j4, .int (Int32.ofInt 0), .ref (A 517)] (Wd A dT s1) 1 6 := by
    intro j4
    refine z_last X 517 (show cdA 325 15 = some (.lastore, 1, 0, 0, 0) from rfl) (by decide) rfl (by decide) (show 0 < 1 by decide) (by decide) ?_
    obtain ⟨s5, hs5⟩ : ∃ x0, x0 = uD s1 460 (0 : Int).toNat j4 := ⟨_, rfl⟩
    rw [← hs5]
    have Is5 : Bd s5 := by rw [hs5]; exact bd_D Is1
    have Fs5 : Fm [] [1460] s s5 := by rw [hs5]; exact fm_D Gs1 (show 460 + 1000 ∈ _ by decide)
    refine z_goto X (t := 22) (show cdA 325 16 = some (.goto 6, 3, 0, 0, 0) from rfl) (by decide) ?_
    refine z_const X (show cdA 325 22 = some (.iconst 0, 1, 0, 0, 0) from rfl) ?_
    exact w_iret X.1 q hRt rfl (ax_d X (show cdA 325 23 = some (.ireturn, 1, 0, 0, 0) from rfl)) (show 1 ≤ 1 by omega) (show 6 ≤ 6 by omega) ⟨A, _, hA, rfl, Is5, Fs5, 0, rfl, (by decide), trivial⟩
  refine z_if_eq X (t := 14) (show cdA 325 7 = some (.ifCond .eq 7, 3, 0, 0, 0) from rfl) (by decide) ⟨by omega, by omega⟩ (fun g6 => ?_) (fun g6 => ?_)
  ·
    refine w_lconst X.1 (ax_d X (show cdA 325 14 = some (.lconst 0, 1, 0, 0, 0) from rfl)) rfl ?_
    refine z_anyJ (fun j7 => ?_)
    exact N3 _
  ·
    refine w_lconst X.1 (ax_d X (show cdA 325 10 = some (.lconst 1, 1, 0, 0, 0) from rfl)) rfl ?_
    refine z_anyJ (fun j8 => ?_)
    refine z_goto X (t := 15) (show cdA 325 11 = some (.goto 4, 3, 0, 0, 0) from rfl) (by decide) ?_
    exact N3 _
set_option maxRecDepth 4000 in
theorem lw_neck (G : GX l s0 D tys a0 dT) (I : Bd s) {x y : Int} (p0 : rng x) (p1 : rng y) : CTL l s0 D A dT 326 (rmN 326) [.ref (A 0), .int (Int32.ofInt x), .int (Int32.ofInt y), .ref (A 517)] s (fun o t => Bd t ∧ Fm [] [1460] s t ∧ ∃ e, o = .inl (some (.int (Int32.ofInt e))) ∧ rng e ∧ (True)) := by
  refine ctL_of G (by decide) (Nat.le_of_ble_eq_true rfl) (by decide) (show cdA 326 0 = some (.aload_n 3, 1, 0, 0, 0) from rfl) (fun k X E ET hRt hEx q => ?_)
  show WS k 0 [(0, .ref (A 0)), (1, .int (Int32.ofInt x)), (2, .int (Int32.ofInt y)), (3, .ref (A 517))] [] _ 0 0
  have F : Fm [] [1460] s s := fm_rf _ _ s
  have hA := swA_rf A
  refine z_aload_n X (x := A 517) (show cdA 326 0 = some (.aload_n 3, 1, 0, 0, 0) from rfl) (List.Mem.tail _ (List.Mem.tail _ (List.Mem.tail _ (List.Mem.head _)))) ?_
  refine z_const X (show cdA 326 1 = some (.iconst 0, 1, 0, 0, 0) from rfl) ?_
  refine z_aload_n X (x := A 0) (show cdA 326 2 = some (.aload_n 0, 1, 0, 0, 0) from rfl) (List.Mem.head _) ?_
  refine z_load_n X (x := x) (show cdA 326 3 = some (.iload_n 1, 1, 0, 0, 0) from rfl) (List.Mem.tail _ (List.Mem.head _)) ?_
  refine z_load_n X (x := y) (show cdA 326 4 = some (.iload_n 2, 1, 0, 0, 0) from rfl) (List.Mem.tail _ (List.Mem.tail _ (List.Mem.head _))) ?_
  refine z_callV X 0 (rm := rmN 149) (As := [.int (Int32.ofInt x), .int (Int32.ofInt y)]) (st := [.int (Int32.ofInt 0), .ref (A 517)]) (show cdA 326 5 = some (.invokevirtual 57, 3, 149, 0, 0) from rfl) rfl (by decide) rfl (by rw [E.1, E.2.1, E.2.2.1]; exact cs_neck G I (by omega) (by omega)) ⟨by rw [E.2.2.2]; exact (show (rmN 149).frames + 1 ≤ (rmN 326).frames by decide), by rw [E.2.2.2]; exact (show 8 + (mNL (miB 149) + 11) + (rmN 149).locals ≤ (rmN 326).locals by decide), by rw [E.2.2.2]; exact (show 0 + (rmN 149).cells ≤ (rmN 326).cells by decide), by rw [E.2.2.2]; exact (show 0 + (rmN 149).slots ≤ (rmN 326).slots by decide)⟩ (Nat.le_of_ble_eq_true rfl) (fun vv s1 hq => ?_) (fun ee s1 hq => ?_)
  rotate_left
  · obtain ⟨Is1, Fs1, (⟨e2, hv, hrs1, hps1⟩ | ⟨xx, hv, hps1⟩)⟩ := hq
    · cases hv
    · cases hv
      rcases (show xx = 0 by omega) with gx
      ·
        subst gx
        have Gs1 := fm_ts F Fs1 (by decide) (by decide)
        refine (hEx 5 0).2 13 rfl _ _ _ _ _ (fun q1 => ?_)
        show WS k 13 [(0, .ref (A 0)), (1, .int (Int32.ofInt x)), (2, .int (Int32.ofInt y)), (3, .ref (A 517))] [.ref q1] (Wd A dT s1) 1 6
        refine z_astore X (lv' := [(4, .ref q1), (0, .ref (A 0)), (1, .int (Int32.ofInt x)), (2, .int (Int32.ofInt y)), (3, .ref (A 517))]) (show cdA 326 13 = some (.astore 4, 2, 0, 0, 0) from rfl) (by decide) (fun _ h => h) ?_
        refine z_const X (show cdA 326 15 = some (.iconst 1, 1, 0, 0, 0) from rfl) ?_
        exact w_iret X.1 q hRt rfl (ax_d X (show cdA 326 16 = some (.ireturn, 1, 0, 0, 0) from rfl)) (show 1 ≤ 1 by omega) (show 6 ≤ 6 by omega) ⟨A, _, hA, rfl, Is1, Gs1, 1, rfl, (by decide), trivial⟩
  obtain ⟨Is1, Fs1, (⟨e2, hv, hrs1, hps1⟩ | ⟨xx, hv, hps1⟩)⟩ := hq
  rotate_left
  · cases hv
  cases hv
  have Gs1 := fm_ts F Fs1 (by decide) (by decide)
  show WS k 8 [(0, .ref (A 0)), (1, .int (Int32.ofInt x)), (2, .int (Int32.ofInt y)), (3, .ref (A 517))] [.int (Int32.ofInt e2), .int (Int32.ofInt 0), .ref (A 517)] (Wd A dT s1) 1 6
  refine w_i2l X.1 (ax_d X (show cdA 326 8 = some (.i2l, 1, 0, 0, 0) from rfl)) ?_
  refine z_anyJ (fun j3 => ?_)
  refine z_last X 517 (show cdA 326 9 = some (.lastore, 1, 0, 0, 0) from rfl) (by decide) rfl (by decide) (show 0 < 1 by decide) (by decide) ?_
  obtain ⟨s4, hs4⟩ : ∃ x0, x0 = uD s1 460 (0 : Int).toNat j3 := ⟨_, rfl⟩
  rw [← hs4]
  have Is4 : Bd s4 := by rw [hs4]; exact bd_D Is1
  have Fs4 : Fm [] [1460] s s4 := by rw [hs4]; exact fm_D Gs1 (show 460 + 1000 ∈ _ by decide)
  refine z_goto X (t := 17) (show cdA 326 10 = some (.goto 7, 3, 0, 0, 0) from rfl) (by decide) ?_
  refine z_const X (show cdA 326 17 = some (.iconst 0, 1, 0, 0, 0) from rfl) ?_
  exact w_iret X.1 q hRt rfl (ax_d X (show cdA 326 18 = some (.ireturn, 1, 0, 0, 0) from rfl)) (show 1 ≤ 1 by omega) (show 6 ≤ 6 by omega) ⟨A, _, hA, rfl, Is4, Fs4, 0, rfl, (by decide), trivial⟩
set_option maxRecDepth 4000 in
theorem lw_shorts (G : GX l s0 D tys a0 dT) (I : Bd s) {x : Int} (p0 : rng x) : CTL l s0 D A dT 327 (rmN 327) [.ref (A 0), .int (Int32.ofInt x), .ref (A 517)] s (fun o t => Bd t ∧ Fm [] [1460] s t ∧ ∃ e, o = .inl (some (.int (Int32.ofInt e))) ∧ rng e ∧ (True)) := by
  refine ctL_of G (by decide) (Nat.le_of_ble_eq_true rfl) (by decide) (show cdA 327 0 = some (.aload_n 2, 1, 0, 0, 0) from rfl) (fun k X E ET hRt hEx q => ?_)
  show WS k 0 [(0, .ref (A 0)), (1, .int (Int32.ofInt x)), (2, .ref (A 517))] [] _ 0 0
  have F : Fm [] [1460] s s := fm_rf _ _ s
  have hA := swA_rf A
  refine z_aload_n X (x := A 517) (show cdA 327 0 = some (.aload_n 2, 1, 0, 0, 0) from rfl) (List.Mem.tail _ (List.Mem.tail _ (List.Mem.head _))) ?_
  refine z_const X (show cdA 327 1 = some (.iconst 0, 1, 0, 0, 0) from rfl) ?_
  refine z_aload_n X (x := A 0) (show cdA 327 2 = some (.aload_n 0, 1, 0, 0, 0) from rfl) (List.Mem.head _) ?_
  refine z_load_n X (x := x) (show cdA 327 3 = some (.iload_n 1, 1, 0, 0, 0) from rfl) (List.Mem.tail _ (List.Mem.head _)) ?_
  refine z_callV X 0 (rm := rmN 150) (As := [.int (Int32.ofInt x)]) (st := [.int (Int32.ofInt 0), .ref (A 517)]) (show cdA 327 4 = some (.invokevirtual 60, 3, 150, 0, 0) from rfl) rfl (by decide) rfl (by rw [E.1, E.2.1, E.2.2.1]; exact cs_shorts G I (by omega)) ⟨by rw [E.2.2.2]; exact (show (rmN 150).frames + 1 ≤ (rmN 327).frames by decide), by rw [E.2.2.2]; exact (show 8 + (mNL (miB 150) + 11) + (rmN 150).locals ≤ (rmN 327).locals by decide), by rw [E.2.2.2]; exact (show 0 + (rmN 150).cells ≤ (rmN 327).cells by decide), by rw [E.2.2.2]; exact (show 0 + (rmN 150).slots ≤ (rmN 327).slots by decide)⟩ (Nat.le_of_ble_eq_true rfl) (fun vv s1 hq => ?_) (fun ee s1 hq => ?_)
  rotate_left
  · obtain ⟨Is1, Fs1, (⟨e2, hv, hrs1, hps1⟩ | ⟨xx, hv, hps1⟩)⟩ := hq
    · cases hv
    · cases hv
      rcases (show xx = 0 by omega) with gx
      ·
        subst gx
        have Gs1 := fm_ts F Fs1 (by decide) (by decide)
        refine (hEx 4 0).2 12 rfl _ _ _ _ _ (fun q1 => ?_)
        show WS k 12 [(0, .ref (A 0)), (1, .int (Int32.ofInt x)), (2, .ref (A 517))] [.ref q1] (Wd A dT s1) 1 6
        refine z_astore_n X (lv' := [(3, .ref q1), (0, .ref (A 0)), (1, .int (Int32.ofInt x)), (2, .ref (A 517))]) (show cdA 327 12 = some (.astore_n 3, 1, 0, 0, 0) from rfl) (by decide) (fun _ h => h) ?_
        refine z_const X (show cdA 327 13 = some (.iconst 1, 1, 0, 0, 0) from rfl) ?_
        exact w_iret X.1 q hRt rfl (ax_d X (show cdA 327 14 = some (.ireturn, 1, 0, 0, 0) from rfl)) (show 1 ≤ 1 by omega) (show 6 ≤ 6 by omega) ⟨A, _, hA, rfl, Is1, Gs1, 1, rfl, (by decide), trivial⟩
  obtain ⟨Is1, Fs1, (⟨e2, hv, hrs1, hps1⟩ | ⟨xx, hv, hps1⟩)⟩ := hq
  rotate_left
  · cases hv
  cases hv
  have Gs1 := fm_ts F Fs1 (by decide) (by decide)
  show WS k 7 [(0, .ref (A 0)), (1, .int (Int32.ofInt x)), (2, .ref (A 517))] [.int (Int32.ofInt e2), .int (Int32.ofInt 0), .ref (A 517)] (Wd A dT s1) 1 6
  refine w_i2l X.1 (ax_d X (show cdA 327 7 = some (.i2l, 1, 0, 0, 0) from rfl)) ?_
  refine z_anyJ (fun j3 => ?_)
  refine z_last X 517 (show cdA 327 8 = some (.lastore, 1, 0, 0, 0) from rfl) (by decide) rfl (by decide) (show 0 < 1 by decide) (by decide) ?_
  obtain ⟨s4, hs4⟩ : ∃ x0, x0 = uD s1 460 (0 : Int).toNat j3 := ⟨_, rfl⟩
  rw [← hs4]
  have Is4 : Bd s4 := by rw [hs4]; exact bd_D Is1
  have Fs4 : Fm [] [1460] s s4 := by rw [hs4]; exact fm_D Gs1 (show 460 + 1000 ∈ _ by decide)
  refine z_goto X (t := 15) (show cdA 327 9 = some (.goto 6, 3, 0, 0, 0) from rfl) (by decide) ?_
  refine z_const X (show cdA 327 15 = some (.iconst 0, 1, 0, 0, 0) from rfl) ?_
  exact w_iret X.1 q hRt rfl (ax_d X (show cdA 327 16 = some (.ireturn, 1, 0, 0, 0) from rfl)) (show 1 ≤ 1 by omega) (show 6 ≤ 6 by omega) ⟨A, _, hA, rfl, Is4, Fs4, 0, rfl, (by decide), trivial⟩
set_option maxRecDepth 4000 in
theorem lw_length (G : GX l s0 D tys a0 dT) (I : Bd s) {x : Int} (p0 : rng x) : CTL l s0 D A dT 328 (rmN 328) [.ref (A 0), .int (Int32.ofInt x), .ref (A 517)] s (fun o t => Bd t ∧ Fm [21] [1460] s t ∧ ∃ e, o = .inl (some (.int (Int32.ofInt e))) ∧ rng e ∧ (True)) := by
  refine ctL_of G (by decide) (Nat.le_of_ble_eq_true rfl) (by decide) (show cdA 328 0 = some (.aload_n 2, 1, 0, 0, 0) from rfl) (fun k X E ET hRt hEx q => ?_)
  show WS k 0 [(0, .ref (A 0)), (1, .int (Int32.ofInt x)), (2, .ref (A 517))] [] _ 0 0
  have F : Fm [21] [1460] s s := fm_rf _ _ s
  have hA := swA_rf A
  refine z_aload_n X (x := A 517) (show cdA 328 0 = some (.aload_n 2, 1, 0, 0, 0) from rfl) (List.Mem.tail _ (List.Mem.tail _ (List.Mem.head _))) ?_
  refine z_const X (show cdA 328 1 = some (.iconst 0, 1, 0, 0, 0) from rfl) ?_
  refine z_aload_n X (x := A 0) (show cdA 328 2 = some (.aload_n 0, 1, 0, 0, 0) from rfl) (List.Mem.head _) ?_
  refine z_load_n X (x := x) (show cdA 328 3 = some (.iload_n 1, 1, 0, 0, 0) from rfl) (List.Mem.tail _ (List.Mem.head _)) ?_
  refine z_callV X 0 (rm := rmN 151) (As := [.int (Int32.ofInt x)]) (st := [.int (Int32.ofInt 0), .ref (A 517)]) (show cdA 328 4 = some (.invokevirtual 63, 3, 151, 0, 0) from rfl) rfl (by decide) rfl (by rw [E.1, E.2.1, E.2.2.1]; exact cs_length G I (by omega)) ⟨by rw [E.2.2.2]; exact (show (rmN 151).frames + 1 ≤ (rmN 328).frames by decide), by rw [E.2.2.2]; exact (show 8 + (mNL (miB 151) + 11) + (rmN 151).locals ≤ (rmN 328).locals by decide), by rw [E.2.2.2]; exact (show 0 + (rmN 151).cells ≤ (rmN 328).cells by decide), by rw [E.2.2.2]; exact (show 0 + (rmN 151).slots ≤ (rmN 328).slots by decide)⟩ (Nat.le_of_ble_eq_true rfl) (fun vv s1 hq => ?_) (fun ee s1 hq => ?_)
  rotate_left
  · obtain ⟨Is1, Fs1, (⟨e2, hv, hrs1, hps1⟩ | ⟨xx, hv, hps1⟩)⟩ := hq
    · cases hv
    · cases hv
      rcases (show xx = 0 by omega) with gx
      ·
        subst gx
        have Gs1 := fm_ts F Fs1 (by decide) (by decide)
        refine (hEx 4 0).2 12 rfl _ _ _ _ _ (fun q1 => ?_)
        show WS k 12 [(0, .ref (A 0)), (1, .int (Int32.ofInt x)), (2, .ref (A 517))] [.ref q1] (Wd A dT s1) 1 6
        refine z_astore_n X (lv' := [(3, .ref q1), (0, .ref (A 0)), (1, .int (Int32.ofInt x)), (2, .ref (A 517))]) (show cdA 328 12 = some (.astore_n 3, 1, 0, 0, 0) from rfl) (by decide) (fun _ h => h) ?_
        refine z_const X (show cdA 328 13 = some (.iconst 1, 1, 0, 0, 0) from rfl) ?_
        exact w_iret X.1 q hRt rfl (ax_d X (show cdA 328 14 = some (.ireturn, 1, 0, 0, 0) from rfl)) (show 1 ≤ 1 by omega) (show 6 ≤ 6 by omega) ⟨A, _, hA, rfl, Is1, Gs1, 1, rfl, (by decide), trivial⟩
  obtain ⟨Is1, Fs1, (⟨e2, hv, hrs1, hps1⟩ | ⟨xx, hv, hps1⟩)⟩ := hq
  rotate_left
  · cases hv
  cases hv
  have Gs1 := fm_ts F Fs1 (by decide) (by decide)
  show WS k 7 [(0, .ref (A 0)), (1, .int (Int32.ofInt x)), (2, .ref (A 517))] [.int (Int32.ofInt e2), .int (Int32.ofInt 0), .ref (A 517)] (Wd A dT s1) 1 6
  refine w_i2l X.1 (ax_d X (show cdA 328 7 = some (.i2l, 1, 0, 0, 0) from rfl)) ?_
  refine z_anyJ (fun j3 => ?_)
  refine z_last X 517 (show cdA 328 8 = some (.lastore, 1, 0, 0, 0) from rfl) (by decide) rfl (by decide) (show 0 < 1 by decide) (by decide) ?_
  obtain ⟨s4, hs4⟩ : ∃ x0, x0 = uD s1 460 (0 : Int).toNat j3 := ⟨_, rfl⟩
  rw [← hs4]
  have Is4 : Bd s4 := by rw [hs4]; exact bd_D Is1
  have Fs4 : Fm [21] [1460] s s4 := by rw [hs4]; exact fm_D Gs1 (show 460 + 1000 ∈ _ by decide)
  refine z_goto X (t := 15) (show cdA 328 9 = some (.goto 6, 3, 0, 0, 0) from rfl) (by decide) ?_
  refine z_const X (show cdA 328 15 = some (.iconst 0, 1, 0, 0, 0) from rfl) ?_
  exact w_iret X.1 q hRt rfl (ax_d X (show cdA 328 16 = some (.ireturn, 1, 0, 0, 0) from rfl)) (show 1 ≤ 1 by omega) (show 6 ≤ 6 by omega) ⟨A, _, hA, rfl, Is4, Fs4, 0, rfl, (by decide), trivial⟩
set_option maxRecDepth 4000 in
theorem lw_edge (G : GX l s0 D tys a0 dT) (I : Bd s) {x : Int} (p0 : rng x) : CTL l s0 D A dT 329 (rmN 329) [.ref (A 0), .int (Int32.ofInt x), .ref (A 517)] s (fun o t => Bd t ∧ Fm [] [1460] s t ∧ ∃ e, o = .inl (some (.int (Int32.ofInt e))) ∧ rng e ∧ (True)) := by
  refine ctL_of G (by decide) (Nat.le_of_ble_eq_true rfl) (by decide) (show cdA 329 0 = some (.aload_n 2, 1, 0, 0, 0) from rfl) (fun k X E ET hRt hEx q => ?_)
  show WS k 0 [(0, .ref (A 0)), (1, .int (Int32.ofInt x)), (2, .ref (A 517))] [] _ 0 0
  have F : Fm [] [1460] s s := fm_rf _ _ s
  have hA := swA_rf A
  refine z_aload_n X (x := A 517) (show cdA 329 0 = some (.aload_n 2, 1, 0, 0, 0) from rfl) (List.Mem.tail _ (List.Mem.tail _ (List.Mem.head _))) ?_
  refine z_const X (show cdA 329 1 = some (.iconst 0, 1, 0, 0, 0) from rfl) ?_
  refine z_aload_n X (x := A 0) (show cdA 329 2 = some (.aload_n 0, 1, 0, 0, 0) from rfl) (List.Mem.head _) ?_
  refine z_load_n X (x := x) (show cdA 329 3 = some (.iload_n 1, 1, 0, 0, 0) from rfl) (List.Mem.tail _ (List.Mem.head _)) ?_
  refine z_callV X 0 (rm := rmN 152) (As := [.int (Int32.ofInt x)]) (st := [.int (Int32.ofInt 0), .ref (A 517)]) (show cdA 329 4 = some (.invokevirtual 66, 3, 152, 0, 0) from rfl) rfl (by decide) rfl (by rw [E.1, E.2.1, E.2.2.1]; exact cs_edge G I (by omega)) ⟨by rw [E.2.2.2]; exact (show (rmN 152).frames + 1 ≤ (rmN 329).frames by decide), by rw [E.2.2.2]; exact (show 8 + (mNL (miB 152) + 11) + (rmN 152).locals ≤ (rmN 329).locals by decide), by rw [E.2.2.2]; exact (show 0 + (rmN 152).cells ≤ (rmN 329).cells by decide), by rw [E.2.2.2]; exact (show 0 + (rmN 152).slots ≤ (rmN 329).slots by decide)⟩ (Nat.le_of_ble_eq_true rfl) (fun vv s1 hq => ?_) (fun ee s1 hq => ?_)
  rotate_left
  · obtain ⟨Is1, Fs1, (⟨e2, hv, hrs1, hps1⟩ | ⟨xx, hv, hps1⟩)⟩ := hq
    · cases hv
    · cases hv
      rcases (show xx = 0 by omega) with gx
      ·
        subst gx
        have Gs1 := fm_ts F Fs1 (by decide) (by decide)
        refine (hEx 4 0).2 12 rfl _ _ _ _ _ (fun q1 => ?_)
        show WS k 12 [(0, .ref (A 0)), (1, .int (Int32.ofInt x)), (2, .ref (A 517))] [.ref q1] (Wd A dT s1) 1 6
        refine z_astore_n X (lv' := [(3, .ref q1), (0, .ref (A 0)), (1, .int (Int32.ofInt x)), (2, .ref (A 517))]) (show cdA 329 12 = some (.astore_n 3, 1, 0, 0, 0) from rfl) (by decide) (fun _ h => h) ?_
        refine z_const X (show cdA 329 13 = some (.iconst 1, 1, 0, 0, 0) from rfl) ?_
        exact w_iret X.1 q hRt rfl (ax_d X (show cdA 329 14 = some (.ireturn, 1, 0, 0, 0) from rfl)) (show 1 ≤ 1 by omega) (show 6 ≤ 6 by omega) ⟨A, _, hA, rfl, Is1, Gs1, 1, rfl, (by decide), trivial⟩
  obtain ⟨Is1, Fs1, (⟨e2, hv, hrs1, hps1⟩ | ⟨xx, hv, hps1⟩)⟩ := hq
  rotate_left
  · cases hv
  cases hv
  have Gs1 := fm_ts F Fs1 (by decide) (by decide)
  show WS k 7 [(0, .ref (A 0)), (1, .int (Int32.ofInt x)), (2, .ref (A 517))] [.int (Int32.ofInt e2), .int (Int32.ofInt 0), .ref (A 517)] (Wd A dT s1) 1 6
  refine w_i2l X.1 (ax_d X (show cdA 329 7 = some (.i2l, 1, 0, 0, 0) from rfl)) ?_
  refine z_anyJ (fun j3 => ?_)
  refine z_last X 517 (show cdA 329 8 = some (.lastore, 1, 0, 0, 0) from rfl) (by decide) rfl (by decide) (show 0 < 1 by decide) (by decide) ?_
  obtain ⟨s4, hs4⟩ : ∃ x0, x0 = uD s1 460 (0 : Int).toNat j3 := ⟨_, rfl⟩
  rw [← hs4]
  have Is4 : Bd s4 := by rw [hs4]; exact bd_D Is1
  have Fs4 : Fm [] [1460] s s4 := by rw [hs4]; exact fm_D Gs1 (show 460 + 1000 ∈ _ by decide)
  refine z_goto X (t := 15) (show cdA 329 9 = some (.goto 6, 3, 0, 0, 0) from rfl) (by decide) ?_
  refine z_const X (show cdA 329 15 = some (.iconst 0, 1, 0, 0, 0) from rfl) ?_
  exact w_iret X.1 q hRt rfl (ax_d X (show cdA 329 16 = some (.ireturn, 1, 0, 0, 0) from rfl)) (show 1 ≤ 1 by omega) (show 6 ≤ 6 by omega) ⟨A, _, hA, rfl, Is4, Fs4, 0, rfl, (by decide), trivial⟩
set_option maxRecDepth 4000 in
theorem lw_better (G : GX l s0 D tys a0 dT) (I : Bd s) {x : Int} (p0 : rng x) : CTL l s0 D A dT 330 (rmN 330) [.ref (A 0), .int (Int32.ofInt x), .ref (A 517)] s (fun o t => Bd t ∧ Fm [22, 23, 24, 25, 26, 27] [33, 26, 27, 28, 29, 30, 31, 32, 20, 36, 37, 21, 35, 38, 1022, 1023, 1460] s t ∧ ∃ e, o = .inl (some (.int (Int32.ofInt e))) ∧ rng e ∧ (True)) := by
  refine ctL_of G (by decide) (Nat.le_of_ble_eq_true rfl) (by decide) (show cdA 330 0 = some (.aload_n 2, 1, 0, 0, 0) from rfl) (fun k X E ET hRt hEx q => ?_)
  show WS k 0 [(0, .ref (A 0)), (1, .int (Int32.ofInt x)), (2, .ref (A 517))] [] _ 0 0
  have F : Fm [22, 23, 24, 25, 26, 27] [33, 26, 27, 28, 29, 30, 31, 32, 20, 36, 37, 21, 35, 38, 1022, 1023, 1460] s s := fm_rf _ _ s
  have hA := swA_rf A
  refine z_aload_n X (x := A 517) (show cdA 330 0 = some (.aload_n 2, 1, 0, 0, 0) from rfl) (List.Mem.tail _ (List.Mem.tail _ (List.Mem.head _))) ?_
  refine z_const X (show cdA 330 1 = some (.iconst 0, 1, 0, 0, 0) from rfl) ?_
  refine z_aload_n X (x := A 0) (show cdA 330 2 = some (.aload_n 0, 1, 0, 0, 0) from rfl) (List.Mem.head _) ?_
  refine z_load_n X (x := x) (show cdA 330 3 = some (.iload_n 1, 1, 0, 0, 0) from rfl) (List.Mem.tail _ (List.Mem.head _)) ?_
  refine z_callV X 0 (rm := rmN 155) (As := [.int (Int32.ofInt x)]) (st := [.int (Int32.ofInt 0), .ref (A 517)]) (show cdA 330 4 = some (.invokevirtual 69, 3, 155, 0, 0) from rfl) rfl (by decide) rfl (by rw [E.1, E.2.1, E.2.2.1]; exact cs_better G I (by omega)) ⟨by rw [E.2.2.2]; exact (show (rmN 155).frames + 1 ≤ (rmN 330).frames by decide), by rw [E.2.2.2]; exact (show 8 + (mNL (miB 155) + 11) + (rmN 155).locals ≤ (rmN 330).locals by decide), by rw [E.2.2.2]; exact (show 0 + (rmN 155).cells ≤ (rmN 330).cells by decide), by rw [E.2.2.2]; exact (show 0 + (rmN 155).slots ≤ (rmN 330).slots by decide)⟩ (Nat.le_of_ble_eq_true rfl) (fun vv s1 hq => ?_) (fun ee s1 hq => ?_)
  rotate_left
  · obtain ⟨Is1, Fs1, (⟨e2, hv, hrs1, hps1⟩ | ⟨xx, hv, hps1⟩)⟩ := hq
    · cases hv
    · cases hv
      rcases (show xx = 0 by omega) with gx
      ·
        subst gx
        have Gs1 := fm_ts F Fs1 (by decide) (by decide)
        refine (hEx 4 0).2 12 rfl _ _ _ _ _ (fun q1 => ?_)
        show WS k 12 [(0, .ref (A 0)), (1, .int (Int32.ofInt x)), (2, .ref (A 517))] [.ref q1] (Wd A dT s1) 1 6
        refine z_astore_n X (lv' := [(3, .ref q1), (0, .ref (A 0)), (1, .int (Int32.ofInt x)), (2, .ref (A 517))]) (show cdA 330 12 = some (.astore_n 3, 1, 0, 0, 0) from rfl) (by decide) (fun _ h => h) ?_
        refine z_const X (show cdA 330 13 = some (.iconst 1, 1, 0, 0, 0) from rfl) ?_
        exact w_iret X.1 q hRt rfl (ax_d X (show cdA 330 14 = some (.ireturn, 1, 0, 0, 0) from rfl)) (show 1 ≤ 1 by omega) (show 6 ≤ 6 by omega) ⟨A, _, hA, rfl, Is1, Gs1, 1, rfl, (by decide), trivial⟩
  obtain ⟨Is1, Fs1, (⟨e2, hv, hrs1, hps1⟩ | ⟨xx, hv, hps1⟩)⟩ := hq
  rotate_left
  · cases hv
  cases hv
  have Gs1 := fm_ts F Fs1 (by decide) (by decide)
  show WS k 7 [(0, .ref (A 0)), (1, .int (Int32.ofInt x)), (2, .ref (A 517))] [.int (Int32.ofInt e2), .int (Int32.ofInt 0), .ref (A 517)] (Wd A dT s1) 1 6
  refine w_i2l X.1 (ax_d X (show cdA 330 7 = some (.i2l, 1, 0, 0, 0) from rfl)) ?_
  refine z_anyJ (fun j3 => ?_)
  refine z_last X 517 (show cdA 330 8 = some (.lastore, 1, 0, 0, 0) from rfl) (by decide) rfl (by decide) (show 0 < 1 by decide) (by decide) ?_
  obtain ⟨s4, hs4⟩ : ∃ x0, x0 = uD s1 460 (0 : Int).toNat j3 := ⟨_, rfl⟩
  rw [← hs4]
  have Is4 : Bd s4 := by rw [hs4]; exact bd_D Is1
  have Fs4 : Fm [22, 23, 24, 25, 26, 27] [33, 26, 27, 28, 29, 30, 31, 32, 20, 36, 37, 21, 35, 38, 1022, 1023, 1460] s s4 := by rw [hs4]; exact fm_D Gs1 (show 460 + 1000 ∈ _ by decide)
  refine z_goto X (t := 15) (show cdA 330 9 = some (.goto 6, 3, 0, 0, 0) from rfl) (by decide) ?_
  refine z_const X (show cdA 330 15 = some (.iconst 0, 1, 0, 0, 0) from rfl) ?_
  exact w_iret X.1 q hRt rfl (ax_d X (show cdA 330 16 = some (.ireturn, 1, 0, 0, 0) from rfl)) (show 1 ≤ 1 by omega) (show 6 ≤ 6 by omega) ⟨A, _, hA, rfl, Is4, Fs4, 0, rfl, (by decide), trivial⟩
set_option maxRecDepth 4000 in
theorem lw_grow (G : GX l s0 D tys a0 dT) (I : Bd s) {x : Int} (p0 : rng x) : CTL l s0 D A dT 331 (rmN 331) [.ref (A 0), .int (Int32.ofInt x), .ref (A 517)] s (fun o t => Bd t ∧ Fm [22, 23, 24, 25, 26, 27] [33, 26, 27, 28, 29, 30, 31, 32, 20, 36, 37, 21, 35, 38, 1022, 1023, 1460] s t ∧ ∃ e, o = .inl (some (.int (Int32.ofInt e))) ∧ rng e ∧ (True)) := by
  refine ctL_of G (by decide) (Nat.le_of_ble_eq_true rfl) (by decide) (show cdA 331 0 = some (.aload_n 2, 1, 0, 0, 0) from rfl) (fun k X E ET hRt hEx q => ?_)
  show WS k 0 [(0, .ref (A 0)), (1, .int (Int32.ofInt x)), (2, .ref (A 517))] [] _ 0 0
  have F : Fm [22, 23, 24, 25, 26, 27] [33, 26, 27, 28, 29, 30, 31, 32, 20, 36, 37, 21, 35, 38, 1022, 1023, 1460] s s := fm_rf _ _ s
  have hA := swA_rf A
  refine z_aload_n X (x := A 517) (show cdA 331 0 = some (.aload_n 2, 1, 0, 0, 0) from rfl) (List.Mem.tail _ (List.Mem.tail _ (List.Mem.head _))) ?_
  refine z_const X (show cdA 331 1 = some (.iconst 0, 1, 0, 0, 0) from rfl) ?_
  refine z_aload_n X (x := A 0) (show cdA 331 2 = some (.aload_n 0, 1, 0, 0, 0) from rfl) (List.Mem.head _) ?_
  refine z_load_n X (x := x) (show cdA 331 3 = some (.iload_n 1, 1, 0, 0, 0) from rfl) (List.Mem.tail _ (List.Mem.head _)) ?_
  refine z_callV X 0 (rm := rmN 156) (As := [.int (Int32.ofInt x)]) (st := [.int (Int32.ofInt 0), .ref (A 517)]) (show cdA 331 4 = some (.invokevirtual 72, 3, 156, 0, 0) from rfl) rfl (by decide) rfl (by rw [E.1, E.2.1, E.2.2.1]; exact cs_grow G I (by omega)) ⟨by rw [E.2.2.2]; exact (show (rmN 156).frames + 1 ≤ (rmN 331).frames by decide), by rw [E.2.2.2]; exact (show 8 + (mNL (miB 156) + 11) + (rmN 156).locals ≤ (rmN 331).locals by decide), by rw [E.2.2.2]; exact (show 0 + (rmN 156).cells ≤ (rmN 331).cells by decide), by rw [E.2.2.2]; exact (show 0 + (rmN 156).slots ≤ (rmN 331).slots by decide)⟩ (Nat.le_of_ble_eq_true rfl) (fun vv s1 hq => ?_) (fun ee s1 hq => ?_)
  rotate_left
  · obtain ⟨Is1, Fs1, (⟨e2, hv, hrs1, hps1⟩ | ⟨xx, hv, hps1⟩)⟩ := hq
    · cases hv
    · cases hv
      rcases (show xx = 0 by omega) with gx
      ·
        subst gx
        have Gs1 := fm_ts F Fs1 (by decide) (by decide)
        refine (hEx 4 0).2 12 rfl _ _ _ _ _ (fun q1 => ?_)
        show WS k 12 [(0, .ref (A 0)), (1, .int (Int32.ofInt x)), (2, .ref (A 517))] [.ref q1] (Wd A dT s1) 1 6
        refine z_astore_n X (lv' := [(3, .ref q1), (0, .ref (A 0)), (1, .int (Int32.ofInt x)), (2, .ref (A 517))]) (show cdA 331 12 = some (.astore_n 3, 1, 0, 0, 0) from rfl) (by decide) (fun _ h => h) ?_
        refine z_const X (show cdA 331 13 = some (.iconst 1, 1, 0, 0, 0) from rfl) ?_
        exact w_iret X.1 q hRt rfl (ax_d X (show cdA 331 14 = some (.ireturn, 1, 0, 0, 0) from rfl)) (show 1 ≤ 1 by omega) (show 6 ≤ 6 by omega) ⟨A, _, hA, rfl, Is1, Gs1, 1, rfl, (by decide), trivial⟩
  obtain ⟨Is1, Fs1, (⟨e2, hv, hrs1, hps1⟩ | ⟨xx, hv, hps1⟩)⟩ := hq
  rotate_left
  · cases hv
  cases hv
  have Gs1 := fm_ts F Fs1 (by decide) (by decide)
  show WS k 7 [(0, .ref (A 0)), (1, .int (Int32.ofInt x)), (2, .ref (A 517))] [.int (Int32.ofInt e2), .int (Int32.ofInt 0), .ref (A 517)] (Wd A dT s1) 1 6
  refine w_i2l X.1 (ax_d X (show cdA 331 7 = some (.i2l, 1, 0, 0, 0) from rfl)) ?_
  refine z_anyJ (fun j3 => ?_)
  refine z_last X 517 (show cdA 331 8 = some (.lastore, 1, 0, 0, 0) from rfl) (by decide) rfl (by decide) (show 0 < 1 by decide) (by decide) ?_
  obtain ⟨s4, hs4⟩ : ∃ x0, x0 = uD s1 460 (0 : Int).toNat j3 := ⟨_, rfl⟩
  rw [← hs4]
  have Is4 : Bd s4 := by rw [hs4]; exact bd_D Is1
  have Fs4 : Fm [22, 23, 24, 25, 26, 27] [33, 26, 27, 28, 29, 30, 31, 32, 20, 36, 37, 21, 35, 38, 1022, 1023, 1460] s s4 := by rw [hs4]; exact fm_D Gs1 (show 460 + 1000 ∈ _ by decide)
  refine z_goto X (t := 15) (show cdA 331 9 = some (.goto 6, 3, 0, 0, 0) from rfl) (by decide) ?_
  refine z_const X (show cdA 331 15 = some (.iconst 0, 1, 0, 0, 0) from rfl) ?_
  exact w_iret X.1 q hRt rfl (ax_d X (show cdA 331 16 = some (.ireturn, 1, 0, 0, 0) from rfl)) (show 1 ≤ 1 by omega) (show 6 ≤ 6 by omega) ⟨A, _, hA, rfl, Is4, Fs4, 0, rfl, (by decide), trivial⟩
set_option maxRecDepth 4000 in
theorem lw_region (G : GX l s0 D tys a0 dT) (I : Bd s) {x : Int} (p0 : rng x) : CTL l s0 D A dT 332 (rmN 332) [.ref (A 0), .int (Int32.ofInt x), .ref (A 517)] s (fun o t => Bd t ∧ Fm [28] [39, 1460] s t ∧ ∃ e, o = .inl (some (.int (Int32.ofInt e))) ∧ rng e ∧ (True)) := by
  refine ctL_of G (by decide) (Nat.le_of_ble_eq_true rfl) (by decide) (show cdA 332 0 = some (.aload_n 2, 1, 0, 0, 0) from rfl) (fun k X E ET hRt hEx q => ?_)
  show WS k 0 [(0, .ref (A 0)), (1, .int (Int32.ofInt x)), (2, .ref (A 517))] [] _ 0 0
  have F : Fm [28] [39, 1460] s s := fm_rf _ _ s
  have hA := swA_rf A
  refine z_aload_n X (x := A 517) (show cdA 332 0 = some (.aload_n 2, 1, 0, 0, 0) from rfl) (List.Mem.tail _ (List.Mem.tail _ (List.Mem.head _))) ?_
  refine z_const X (show cdA 332 1 = some (.iconst 0, 1, 0, 0, 0) from rfl) ?_
  refine z_aload_n X (x := A 0) (show cdA 332 2 = some (.aload_n 0, 1, 0, 0, 0) from rfl) (List.Mem.head _) ?_
  refine z_load_n X (x := x) (show cdA 332 3 = some (.iload_n 1, 1, 0, 0, 0) from rfl) (List.Mem.tail _ (List.Mem.head _)) ?_
  refine z_callV X 0 (rm := rmN 157) (As := [.int (Int32.ofInt x)]) (st := [.int (Int32.ofInt 0), .ref (A 517)]) (show cdA 332 4 = some (.invokevirtual 75, 3, 157, 0, 0) from rfl) rfl (by decide) rfl (by rw [E.1, E.2.1, E.2.2.1]; exact cs_region G I (by omega)) ⟨by rw [E.2.2.2]; exact (show (rmN 157).frames + 1 ≤ (rmN 332).frames by decide), by rw [E.2.2.2]; exact (show 8 + (mNL (miB 157) + 11) + (rmN 157).locals ≤ (rmN 332).locals by decide), by rw [E.2.2.2]; exact (show 0 + (rmN 157).cells ≤ (rmN 332).cells by decide), by rw [E.2.2.2]; exact (show 0 + (rmN 157).slots ≤ (rmN 332).slots by decide)⟩ (Nat.le_of_ble_eq_true rfl) (fun vv s1 hq => ?_) (fun ee s1 hq => ?_)
  rotate_left
  · obtain ⟨Is1, Fs1, (⟨e2, hv, hrs1, hps1⟩ | ⟨xx, hv, hps1⟩)⟩ := hq
    · cases hv
    · cases hv
      rcases (show xx = 2 by omega) with gx
      ·
        subst gx
        have Gs1 := fm_ts F Fs1 (by decide) (by decide)
        refine (hEx 4 2).2 12 rfl _ _ _ _ _ (fun q1 => ?_)
        show WS k 12 [(0, .ref (A 0)), (1, .int (Int32.ofInt x)), (2, .ref (A 517))] [.ref q1] (Wd A dT s1) 1 6
        refine z_astore_n X (lv' := [(3, .ref q1), (0, .ref (A 0)), (1, .int (Int32.ofInt x)), (2, .ref (A 517))]) (show cdA 332 12 = some (.astore_n 3, 1, 0, 0, 0) from rfl) (by decide) (fun _ h => h) ?_
        refine z_const X (show cdA 332 13 = some (.iconst 1, 1, 0, 0, 0) from rfl) ?_
        exact w_iret X.1 q hRt rfl (ax_d X (show cdA 332 14 = some (.ireturn, 1, 0, 0, 0) from rfl)) (show 1 ≤ 1 by omega) (show 6 ≤ 6 by omega) ⟨A, _, hA, rfl, Is1, Gs1, 1, rfl, (by decide), trivial⟩
  obtain ⟨Is1, Fs1, (⟨e2, hv, hrs1, hps1⟩ | ⟨xx, hv, hps1⟩)⟩ := hq
  rotate_left
  · cases hv
  cases hv
  have Gs1 := fm_ts F Fs1 (by decide) (by decide)
  show WS k 7 [(0, .ref (A 0)), (1, .int (Int32.ofInt x)), (2, .ref (A 517))] [.int (Int32.ofInt e2), .int (Int32.ofInt 0), .ref (A 517)] (Wd A dT s1) 1 6
  refine w_i2l X.1 (ax_d X (show cdA 332 7 = some (.i2l, 1, 0, 0, 0) from rfl)) ?_
  refine z_anyJ (fun j3 => ?_)
  refine z_last X 517 (show cdA 332 8 = some (.lastore, 1, 0, 0, 0) from rfl) (by decide) rfl (by decide) (show 0 < 1 by decide) (by decide) ?_
  obtain ⟨s4, hs4⟩ : ∃ x0, x0 = uD s1 460 (0 : Int).toNat j3 := ⟨_, rfl⟩
  rw [← hs4]
  have Is4 : Bd s4 := by rw [hs4]; exact bd_D Is1
  have Fs4 : Fm [28] [39, 1460] s s4 := by rw [hs4]; exact fm_D Gs1 (show 460 + 1000 ∈ _ by decide)
  refine z_goto X (t := 15) (show cdA 332 9 = some (.goto 6, 3, 0, 0, 0) from rfl) (by decide) ?_
  refine z_const X (show cdA 332 15 = some (.iconst 0, 1, 0, 0, 0) from rfl) ?_
  exact w_iret X.1 q hRt rfl (ax_d X (show cdA 332 16 = some (.ireturn, 1, 0, 0, 0) from rfl)) (show 1 ≤ 1 by omega) (show 6 ≤ 6 by omega) ⟨A, _, hA, rfl, Is4, Fs4, 0, rfl, (by decide), trivial⟩
set_option maxRecDepth 4000 in
theorem lw_parted (G : GX l s0 D tys a0 dT) (I : Bd s) {x y : Int} (p0 : rng x) (p1 : rng y) : CTL l s0 D A dT 333 (rmN 333) [.ref (A 0), .int (Int32.ofInt x), .int (Int32.ofInt y), .ref (A 517)] s (fun o t => Bd t ∧ Fm [22, 23, 24, 31, 29, 30] [33, 26, 27, 28, 29, 30, 31, 32, 20, 40, 41, 42, 45, 43, 44, 1460] s t ∧ ∃ e, o = .inl (some (.int (Int32.ofInt e))) ∧ rng e ∧ (True)) := by
  refine ctL_of G (by decide) (Nat.le_of_ble_eq_true rfl) (by decide) (show cdA 333 0 = some (.aload_n 3, 1, 0, 0, 0) from rfl) (fun k X E ET hRt hEx q => ?_)
  show WS k 0 [(0, .ref (A 0)), (1, .int (Int32.ofInt x)), (2, .int (Int32.ofInt y)), (3, .ref (A 517))] [] _ 0 0
  have F : Fm [22, 23, 24, 31, 29, 30] [33, 26, 27, 28, 29, 30, 31, 32, 20, 40, 41, 42, 45, 43, 44, 1460] s s := fm_rf _ _ s
  have hA := swA_rf A
  refine z_aload_n X (x := A 517) (show cdA 333 0 = some (.aload_n 3, 1, 0, 0, 0) from rfl) (List.Mem.tail _ (List.Mem.tail _ (List.Mem.tail _ (List.Mem.head _)))) ?_
  refine z_const X (show cdA 333 1 = some (.iconst 0, 1, 0, 0, 0) from rfl) ?_
  refine z_aload_n X (x := A 0) (show cdA 333 2 = some (.aload_n 0, 1, 0, 0, 0) from rfl) (List.Mem.head _) ?_
  refine z_load_n X (x := x) (show cdA 333 3 = some (.iload_n 1, 1, 0, 0, 0) from rfl) (List.Mem.tail _ (List.Mem.head _)) ?_
  refine z_load_n X (x := y) (show cdA 333 4 = some (.iload_n 2, 1, 0, 0, 0) from rfl) (List.Mem.tail _ (List.Mem.tail _ (List.Mem.head _))) ?_
  refine z_callV X 0 (rm := rmN 158) (As := [.int (Int32.ofInt x), .int (Int32.ofInt y)]) (st := [.int (Int32.ofInt 0), .ref (A 517)]) (show cdA 333 5 = some (.invokevirtual 78, 3, 158, 0, 0) from rfl) rfl (by decide) rfl (by rw [E.1, E.2.1, E.2.2.1]; exact cs_parted G I (by omega) (by omega)) ⟨by rw [E.2.2.2]; exact (show (rmN 158).frames + 1 ≤ (rmN 333).frames by decide), by rw [E.2.2.2]; exact (show 8 + (mNL (miB 158) + 11) + (rmN 158).locals ≤ (rmN 333).locals by decide), by rw [E.2.2.2]; exact (show 0 + (rmN 158).cells ≤ (rmN 333).cells by decide), by rw [E.2.2.2]; exact (show 0 + (rmN 158).slots ≤ (rmN 333).slots by decide)⟩ (Nat.le_of_ble_eq_true rfl) (fun vv s1 hq => ?_) (fun ee s1 hq => ?_)
  rotate_left
  · obtain ⟨Is1, Fs1, (⟨e2, hv, hrs1, hps1⟩ | ⟨xx, hv, hps1⟩)⟩ := hq
    · cases hv
    · cases hv
      rcases (show xx = 0 by omega) with gx
      ·
        subst gx
        have Gs1 := fm_ts F Fs1 (by decide) (by decide)
        refine (hEx 5 0).2 13 rfl _ _ _ _ _ (fun q1 => ?_)
        show WS k 13 [(0, .ref (A 0)), (1, .int (Int32.ofInt x)), (2, .int (Int32.ofInt y)), (3, .ref (A 517))] [.ref q1] (Wd A dT s1) 2 12
        refine z_astore X (lv' := [(4, .ref q1), (0, .ref (A 0)), (1, .int (Int32.ofInt x)), (2, .int (Int32.ofInt y)), (3, .ref (A 517))]) (show cdA 333 13 = some (.astore 4, 2, 0, 0, 0) from rfl) (by decide) (fun _ h => h) ?_
        refine z_const X (show cdA 333 15 = some (.iconst 1, 1, 0, 0, 0) from rfl) ?_
        exact w_iret X.1 q hRt rfl (ax_d X (show cdA 333 16 = some (.ireturn, 1, 0, 0, 0) from rfl)) (show 2 ≤ 2 by omega) (show 12 ≤ 12 by omega) ⟨A, _, hA, rfl, Is1, Gs1, 1, rfl, (by decide), trivial⟩
  obtain ⟨Is1, Fs1, (⟨e2, hv, hrs1, hps1⟩ | ⟨xx, hv, hps1⟩)⟩ := hq
  rotate_left
  · cases hv
  cases hv
  have Gs1 := fm_ts F Fs1 (by decide) (by decide)
  show WS k 8 [(0, .ref (A 0)), (1, .int (Int32.ofInt x)), (2, .int (Int32.ofInt y)), (3, .ref (A 517))] [.int (Int32.ofInt e2), .int (Int32.ofInt 0), .ref (A 517)] (Wd A dT s1) 2 12
  refine w_i2l X.1 (ax_d X (show cdA 333 8 = some (.i2l, 1, 0, 0, 0) from rfl)) ?_
  refine z_anyJ (fun j3 => ?_)
  refine z_last X 517 (show cdA 333 9 = some (.lastore, 1, 0, 0, 0) from rfl) (by decide) rfl (by decide) (show 0 < 1 by decide) (by decide) ?_
  obtain ⟨s4, hs4⟩ : ∃ x0, x0 = uD s1 460 (0 : Int).toNat j3 := ⟨_, rfl⟩
  rw [← hs4]
  have Is4 : Bd s4 := by rw [hs4]; exact bd_D Is1
  have Fs4 : Fm [22, 23, 24, 31, 29, 30] [33, 26, 27, 28, 29, 30, 31, 32, 20, 40, 41, 42, 45, 43, 44, 1460] s s4 := by rw [hs4]; exact fm_D Gs1 (show 460 + 1000 ∈ _ by decide)
  refine z_goto X (t := 17) (show cdA 333 10 = some (.goto 7, 3, 0, 0, 0) from rfl) (by decide) ?_
  refine z_const X (show cdA 333 17 = some (.iconst 0, 1, 0, 0, 0) from rfl) ?_
  exact w_iret X.1 q hRt rfl (ax_d X (show cdA 333 18 = some (.ireturn, 1, 0, 0, 0) from rfl)) (show 2 ≤ 2 by omega) (show 12 ≤ 12 by omega) ⟨A, _, hA, rfl, Is4, Fs4, 0, rfl, (by decide), trivial⟩
set_option maxRecDepth 4000 in
theorem lw_configure (G : GX l s0 D tys a0 dT) (I : Bd s) {x : Int} (p0 : rng x) : CTL l s0 D A dT 334 (rmN 334) [.ref (A 0), .int (Int32.ofInt x), .ref (A 517)] s (fun o t => Bd t ∧ Fm [32] [46, 1460] s t ∧ ∃ e, o = .inl (some (.int (Int32.ofInt e))) ∧ rng e ∧ (True)) := by
  refine ctL_of G (by decide) (Nat.le_of_ble_eq_true rfl) (by decide) (show cdA 334 0 = some (.aload_n 2, 1, 0, 0, 0) from rfl) (fun k X E ET hRt hEx q => ?_)
  show WS k 0 [(0, .ref (A 0)), (1, .int (Int32.ofInt x)), (2, .ref (A 517))] [] _ 0 0
  have F : Fm [32] [46, 1460] s s := fm_rf _ _ s
  have hA := swA_rf A
  refine z_aload_n X (x := A 517) (show cdA 334 0 = some (.aload_n 2, 1, 0, 0, 0) from rfl) (List.Mem.tail _ (List.Mem.tail _ (List.Mem.head _))) ?_
  refine z_const X (show cdA 334 1 = some (.iconst 0, 1, 0, 0, 0) from rfl) ?_
  refine z_aload_n X (x := A 0) (show cdA 334 2 = some (.aload_n 0, 1, 0, 0, 0) from rfl) (List.Mem.head _) ?_
  refine z_load_n X (x := x) (show cdA 334 3 = some (.iload_n 1, 1, 0, 0, 0) from rfl) (List.Mem.tail _ (List.Mem.head _)) ?_
  refine z_callV X 0 (rm := rmN 160) (As := [.int (Int32.ofInt x)]) (st := [.int (Int32.ofInt 0), .ref (A 517)]) (show cdA 334 4 = some (.invokevirtual 81, 3, 160, 0, 0) from rfl) rfl (by decide) rfl (by rw [E.1, E.2.1, E.2.2.1]; exact cs_configure G I (by omega)) ⟨by rw [E.2.2.2]; exact (show (rmN 160).frames + 1 ≤ (rmN 334).frames by decide), by rw [E.2.2.2]; exact (show 8 + (mNL (miB 160) + 11) + (rmN 160).locals ≤ (rmN 334).locals by decide), by rw [E.2.2.2]; exact (show 0 + (rmN 160).cells ≤ (rmN 334).cells by decide), by rw [E.2.2.2]; exact (show 0 + (rmN 160).slots ≤ (rmN 334).slots by decide)⟩ (Nat.le_of_ble_eq_true rfl) (fun vv s1 hq => ?_) (fun ee s1 hq => ?_)
  rotate_left
  · obtain ⟨Is1, Fs1, (⟨e2, hv, hrs1, hps1⟩ | ⟨xx, hv, hps1⟩)⟩ := hq
    · cases hv
    · cases hv
      rcases (show xx = 0 by omega) with gx
      ·
        subst gx
        have Gs1 := fm_ts F Fs1 (by decide) (by decide)
        refine (hEx 4 0).2 12 rfl _ _ _ _ _ (fun q1 => ?_)
        show WS k 12 [(0, .ref (A 0)), (1, .int (Int32.ofInt x)), (2, .ref (A 517))] [.ref q1] (Wd A dT s1) 1 6
        refine z_astore_n X (lv' := [(3, .ref q1), (0, .ref (A 0)), (1, .int (Int32.ofInt x)), (2, .ref (A 517))]) (show cdA 334 12 = some (.astore_n 3, 1, 0, 0, 0) from rfl) (by decide) (fun _ h => h) ?_
        refine z_const X (show cdA 334 13 = some (.iconst 1, 1, 0, 0, 0) from rfl) ?_
        exact w_iret X.1 q hRt rfl (ax_d X (show cdA 334 14 = some (.ireturn, 1, 0, 0, 0) from rfl)) (show 1 ≤ 1 by omega) (show 6 ≤ 6 by omega) ⟨A, _, hA, rfl, Is1, Gs1, 1, rfl, (by decide), trivial⟩
  obtain ⟨Is1, Fs1, (⟨e2, hv, hrs1, hps1⟩ | ⟨xx, hv, hps1⟩)⟩ := hq
  rotate_left
  · cases hv
  cases hv
  have Gs1 := fm_ts F Fs1 (by decide) (by decide)
  show WS k 7 [(0, .ref (A 0)), (1, .int (Int32.ofInt x)), (2, .ref (A 517))] [.int (Int32.ofInt e2), .int (Int32.ofInt 0), .ref (A 517)] (Wd A dT s1) 1 6
  refine w_i2l X.1 (ax_d X (show cdA 334 7 = some (.i2l, 1, 0, 0, 0) from rfl)) ?_
  refine z_anyJ (fun j3 => ?_)
  refine z_last X 517 (show cdA 334 8 = some (.lastore, 1, 0, 0, 0) from rfl) (by decide) rfl (by decide) (show 0 < 1 by decide) (by decide) ?_
  obtain ⟨s4, hs4⟩ : ∃ x0, x0 = uD s1 460 (0 : Int).toNat j3 := ⟨_, rfl⟩
  rw [← hs4]
  have Is4 : Bd s4 := by rw [hs4]; exact bd_D Is1
  have Fs4 : Fm [32] [46, 1460] s s4 := by rw [hs4]; exact fm_D Gs1 (show 460 + 1000 ∈ _ by decide)
  refine z_goto X (t := 15) (show cdA 334 9 = some (.goto 6, 3, 0, 0, 0) from rfl) (by decide) ?_
  refine z_const X (show cdA 334 15 = some (.iconst 0, 1, 0, 0, 0) from rfl) ?_
  exact w_iret X.1 q hRt rfl (ax_d X (show cdA 334 16 = some (.ireturn, 1, 0, 0, 0) from rfl)) (show 1 ≤ 1 by omega) (show 6 ≤ 6 by omega) ⟨A, _, hA, rfl, Is4, Fs4, 0, rfl, (by decide), trivial⟩
set_option maxRecDepth 4000 in
theorem lw_pairs (G : GX l s0 D tys a0 dT) (I : Bd s) {x y : Int} (p0 : rng x) (p1 : rng y) (p2 : iI s 12 ≤ 8) : CTL l s0 D A dT 335 (rmN 335) [.ref (A 0), .int (Int32.ofInt x), .int (Int32.ofInt y), .ref (A 517)] s (fun o t => Bd t ∧ Fm [22, 23, 24] [33, 26, 27, 28, 29, 30, 31, 32, 20, 48, 47, 1460] s t ∧ ∃ e, o = .inl (some (.int (Int32.ofInt e))) ∧ rng e ∧ (True)) := by
  refine ctL_of G (by decide) (Nat.le_of_ble_eq_true rfl) (by decide) (show cdA 335 0 = some (.aload_n 3, 1, 0, 0, 0) from rfl) (fun k X E ET hRt hEx q => ?_)
  show WS k 0 [(0, .ref (A 0)), (1, .int (Int32.ofInt x)), (2, .int (Int32.ofInt y)), (3, .ref (A 517))] [] _ 0 0
  have F : Fm [22, 23, 24] [33, 26, 27, 28, 29, 30, 31, 32, 20, 48, 47, 1460] s s := fm_rf _ _ s
  have hA := swA_rf A
  refine z_aload_n X (x := A 517) (show cdA 335 0 = some (.aload_n 3, 1, 0, 0, 0) from rfl) (List.Mem.tail _ (List.Mem.tail _ (List.Mem.tail _ (List.Mem.head _)))) ?_
  refine z_const X (show cdA 335 1 = some (.iconst 0, 1, 0, 0, 0) from rfl) ?_
  refine z_aload_n X (x := A 0) (show cdA 335 2 = some (.aload_n 0, 1, 0, 0, 0) from rfl) (List.Mem.head _) ?_
  refine z_load_n X (x := x) (show cdA 335 3 = some (.iload_n 1, 1, 0, 0, 0) from rfl) (List.Mem.tail _ (List.Mem.head _)) ?_
  refine z_load_n X (x := y) (show cdA 335 4 = some (.iload_n 2, 1, 0, 0, 0) from rfl) (List.Mem.tail _ (List.Mem.tail _ (List.Mem.head _))) ?_
  refine z_callV X 0 (rm := rmN 161) (As := [.int (Int32.ofInt x), .int (Int32.ofInt y)]) (st := [.int (Int32.ofInt 0), .ref (A 517)]) (show cdA 335 5 = some (.invokevirtual 84, 3, 161, 0, 0) from rfl) rfl (by decide) rfl (by rw [E.1, E.2.1, E.2.2.1]; exact cs_pairs G I (by omega) (by omega) (by omega)) ⟨by rw [E.2.2.2]; exact (show (rmN 161).frames + 1 ≤ (rmN 335).frames by decide), by rw [E.2.2.2]; exact (show 8 + (mNL (miB 161) + 11) + (rmN 161).locals ≤ (rmN 335).locals by decide), by rw [E.2.2.2]; exact (show 0 + (rmN 161).cells ≤ (rmN 335).cells by decide), by rw [E.2.2.2]; exact (show 0 + (rmN 161).slots ≤ (rmN 335).slots by decide)⟩ (Nat.le_of_ble_eq_true rfl) (fun vv s1 hq => ?_) (fun ee s1 hq => ?_)
  rotate_left
  · obtain ⟨Is1, Fs1, (⟨e2, hv, hrs1, hps1⟩ | ⟨xx, hv, hps1⟩)⟩ := hq
    · cases hv
    · cases hv
      rcases (show xx = 0 ∨ xx = 1 by omega) with gx | gx
      ·
        subst gx
        have Gs1 := fm_ts F Fs1 (by decide) (by decide)
        refine (hEx 5 0).2 17 rfl _ _ _ _ _ (fun q1 => ?_)
        show WS k 17 [(0, .ref (A 0)), (1, .int (Int32.ofInt x)), (2, .int (Int32.ofInt y)), (3, .ref (A 517))] [.ref q1] (Wd A dT s1) 2 12
        refine z_astore X (lv' := [(4, .ref q1), (0, .ref (A 0)), (1, .int (Int32.ofInt x)), (2, .int (Int32.ofInt y)), (3, .ref (A 517))]) (show cdA 335 17 = some (.astore 4, 2, 0, 0, 0) from rfl) (by decide) (fun _ h => h) ?_
        refine z_const X (show cdA 335 19 = some (.iconst 2, 1, 0, 0, 0) from rfl) ?_
        exact w_iret X.1 q hRt rfl (ax_d X (show cdA 335 20 = some (.ireturn, 1, 0, 0, 0) from rfl)) (show 2 ≤ 2 by omega) (show 12 ≤ 12 by omega) ⟨A, _, hA, rfl, Is1, Gs1, 2, rfl, (by decide), trivial⟩
      ·
        subst gx
        have Gs1 := fm_ts F Fs1 (by decide) (by decide)
        refine (hEx 5 1).2 13 rfl _ _ _ _ _ (fun q1 => ?_)
        show WS k 13 [(0, .ref (A 0)), (1, .int (Int32.ofInt x)), (2, .int (Int32.ofInt y)), (3, .ref (A 517))] [.ref q1] (Wd A dT s1) 2 12
        refine z_astore X (lv' := [(4, .ref q1), (0, .ref (A 0)), (1, .int (Int32.ofInt x)), (2, .int (Int32.ofInt y)), (3, .ref (A 517))]) (show cdA 335 13 = some (.astore 4, 2, 0, 0, 0) from rfl) (by decide) (fun _ h => h) ?_
        refine z_const X (show cdA 335 15 = some (.iconst 1, 1, 0, 0, 0) from rfl) ?_
        exact w_iret X.1 q hRt rfl (ax_d X (show cdA 335 16 = some (.ireturn, 1, 0, 0, 0) from rfl)) (show 2 ≤ 2 by omega) (show 12 ≤ 12 by omega) ⟨A, _, hA, rfl, Is1, Gs1, 1, rfl, (by decide), trivial⟩
  obtain ⟨Is1, Fs1, (⟨e2, hv, hrs1, hps1⟩ | ⟨xx, hv, hps1⟩)⟩ := hq
  rotate_left
  · cases hv
  cases hv
  have Gs1 := fm_ts F Fs1 (by decide) (by decide)
  show WS k 8 [(0, .ref (A 0)), (1, .int (Int32.ofInt x)), (2, .int (Int32.ofInt y)), (3, .ref (A 517))] [.int (Int32.ofInt e2), .int (Int32.ofInt 0), .ref (A 517)] (Wd A dT s1) 2 12
  refine w_i2l X.1 (ax_d X (show cdA 335 8 = some (.i2l, 1, 0, 0, 0) from rfl)) ?_
  refine z_anyJ (fun j3 => ?_)
  refine z_last X 517 (show cdA 335 9 = some (.lastore, 1, 0, 0, 0) from rfl) (by decide) rfl (by decide) (show 0 < 1 by decide) (by decide) ?_
  obtain ⟨s4, hs4⟩ : ∃ x0, x0 = uD s1 460 (0 : Int).toNat j3 := ⟨_, rfl⟩
  rw [← hs4]
  have Is4 : Bd s4 := by rw [hs4]; exact bd_D Is1
  have Fs4 : Fm [22, 23, 24] [33, 26, 27, 28, 29, 30, 31, 32, 20, 48, 47, 1460] s s4 := by rw [hs4]; exact fm_D Gs1 (show 460 + 1000 ∈ _ by decide)
  refine z_goto X (t := 21) (show cdA 335 10 = some (.goto 11, 3, 0, 0, 0) from rfl) (by decide) ?_
  refine z_const X (show cdA 335 21 = some (.iconst 0, 1, 0, 0, 0) from rfl) ?_
  exact w_iret X.1 q hRt rfl (ax_d X (show cdA 335 22 = some (.ireturn, 1, 0, 0, 0) from rfl)) (show 2 ≤ 2 by omega) (show 12 ≤ 12 by omega) ⟨A, _, hA, rfl, Is4, Fs4, 0, rfl, (by decide), trivial⟩
set_option maxRecDepth 4000 in
theorem lw_busy (G : GX l s0 D tys a0 dT) (I : Bd s) {x : Int} (p0 : rng x) : CTL l s0 D A dT 336 (rmN 336) [.ref (A 0), .int (Int32.ofInt x), .ref (A 517)] s (fun o t => Bd t ∧ Fm [33] [1460] s t ∧ ∃ e, o = .inl (some (.int (Int32.ofInt e))) ∧ rng e ∧ (True)) := by
  refine ctL_of G (by decide) (Nat.le_of_ble_eq_true rfl) (by decide) (show cdA 336 0 = some (.aload_n 2, 1, 0, 0, 0) from rfl) (fun k X E ET hRt hEx q => ?_)
  show WS k 0 [(0, .ref (A 0)), (1, .int (Int32.ofInt x)), (2, .ref (A 517))] [] _ 0 0
  have F : Fm [33] [1460] s s := fm_rf _ _ s
  have hA := swA_rf A
  refine z_aload_n X (x := A 517) (show cdA 336 0 = some (.aload_n 2, 1, 0, 0, 0) from rfl) (List.Mem.tail _ (List.Mem.tail _ (List.Mem.head _))) ?_
  refine z_const X (show cdA 336 1 = some (.iconst 0, 1, 0, 0, 0) from rfl) ?_
  refine z_aload_n X (x := A 0) (show cdA 336 2 = some (.aload_n 0, 1, 0, 0, 0) from rfl) (List.Mem.head _) ?_
  refine z_load_n X (x := x) (show cdA 336 3 = some (.iload_n 1, 1, 0, 0, 0) from rfl) (List.Mem.tail _ (List.Mem.head _)) ?_
  refine z_callV X 0 (rm := rmN 162) (As := [.int (Int32.ofInt x)]) (st := [.int (Int32.ofInt 0), .ref (A 517)]) (show cdA 336 4 = some (.invokevirtual 87, 3, 162, 0, 0) from rfl) rfl (by decide) rfl (by rw [E.1, E.2.1, E.2.2.1]; exact cs_busy G I (by omega)) ⟨by rw [E.2.2.2]; exact (show (rmN 162).frames + 1 ≤ (rmN 336).frames by decide), by rw [E.2.2.2]; exact (show 8 + (mNL (miB 162) + 11) + (rmN 162).locals ≤ (rmN 336).locals by decide), by rw [E.2.2.2]; exact (show 0 + (rmN 162).cells ≤ (rmN 336).cells by decide), by rw [E.2.2.2]; exact (show 0 + (rmN 162).slots ≤ (rmN 336).slots by decide)⟩ (Nat.le_of_ble_eq_true rfl) (fun vv s1 hq => ?_) (fun ee s1 hq => ?_)
  rotate_left
  · obtain ⟨Is1, Fs1, (⟨e2, hv, hrs1, hps1⟩ | ⟨xx, hv, hps1⟩)⟩ := hq
    · cases hv
    · cases hv
      rcases (show xx = 0 by omega) with gx
      ·
        subst gx
        have Gs1 := fm_ts F Fs1 (by decide) (by decide)
        refine (hEx 4 0).2 12 rfl _ _ _ _ _ (fun q1 => ?_)
        show WS k 12 [(0, .ref (A 0)), (1, .int (Int32.ofInt x)), (2, .ref (A 517))] [.ref q1] (Wd A dT s1) 1 6
        refine z_astore_n X (lv' := [(3, .ref q1), (0, .ref (A 0)), (1, .int (Int32.ofInt x)), (2, .ref (A 517))]) (show cdA 336 12 = some (.astore_n 3, 1, 0, 0, 0) from rfl) (by decide) (fun _ h => h) ?_
        refine z_const X (show cdA 336 13 = some (.iconst 1, 1, 0, 0, 0) from rfl) ?_
        exact w_iret X.1 q hRt rfl (ax_d X (show cdA 336 14 = some (.ireturn, 1, 0, 0, 0) from rfl)) (show 1 ≤ 1 by omega) (show 6 ≤ 6 by omega) ⟨A, _, hA, rfl, Is1, Gs1, 1, rfl, (by decide), trivial⟩
  obtain ⟨Is1, Fs1, (⟨e2, hv, hrs1, hps1⟩ | ⟨xx, hv, hps1⟩)⟩ := hq
  rotate_left
  · cases hv
  cases hv
  have Gs1 := fm_ts F Fs1 (by decide) (by decide)
  show WS k 7 [(0, .ref (A 0)), (1, .int (Int32.ofInt x)), (2, .ref (A 517))] [.int (Int32.ofInt e2), .int (Int32.ofInt 0), .ref (A 517)] (Wd A dT s1) 1 6
  refine w_i2l X.1 (ax_d X (show cdA 336 7 = some (.i2l, 1, 0, 0, 0) from rfl)) ?_
  refine z_anyJ (fun j3 => ?_)
  refine z_last X 517 (show cdA 336 8 = some (.lastore, 1, 0, 0, 0) from rfl) (by decide) rfl (by decide) (show 0 < 1 by decide) (by decide) ?_
  obtain ⟨s4, hs4⟩ : ∃ x0, x0 = uD s1 460 (0 : Int).toNat j3 := ⟨_, rfl⟩
  rw [← hs4]
  have Is4 : Bd s4 := by rw [hs4]; exact bd_D Is1
  have Fs4 : Fm [33] [1460] s s4 := by rw [hs4]; exact fm_D Gs1 (show 460 + 1000 ∈ _ by decide)
  refine z_goto X (t := 15) (show cdA 336 9 = some (.goto 6, 3, 0, 0, 0) from rfl) (by decide) ?_
  refine z_const X (show cdA 336 15 = some (.iconst 0, 1, 0, 0, 0) from rfl) ?_
  exact w_iret X.1 q hRt rfl (ax_d X (show cdA 336 16 = some (.ireturn, 1, 0, 0, 0) from rfl)) (show 1 ≤ 1 by omega) (show 6 ≤ 6 by omega) ⟨A, _, hA, rfl, Is4, Fs4, 0, rfl, (by decide), trivial⟩
set_option maxRecDepth 4000 in
theorem lw_plan (G : GX l s0 D tys a0 dT) (I : Bd s) {x y : Int} (p0 : rng x) (p1 : rng y) (p2 : iI s 12 ≤ 8) : CTL l s0 D A dT 337 (rmN 337) [.ref (A 0), .int (Int32.ofInt x), .int (Int32.ofInt y), .ref (A 517)] s (fun o t => Bd t ∧ Fm [22, 23, 24, 34, 35] [33, 26, 27, 28, 29, 30, 31, 32, 20, 48, 47, 49, 50, 51, 1460] s t ∧ ∃ e, o = .inl (some (.int (Int32.ofInt e))) ∧ rng e ∧ (True)) := by
  refine ctL_of G (by decide) (Nat.le_of_ble_eq_true rfl) (by decide) (show cdA 337 0 = some (.aload_n 3, 1, 0, 0, 0) from rfl) (fun k X E ET hRt hEx q => ?_)
  show WS k 0 [(0, .ref (A 0)), (1, .int (Int32.ofInt x)), (2, .int (Int32.ofInt y)), (3, .ref (A 517))] [] _ 0 0
  have F : Fm [22, 23, 24, 34, 35] [33, 26, 27, 28, 29, 30, 31, 32, 20, 48, 47, 49, 50, 51, 1460] s s := fm_rf _ _ s
  have hA := swA_rf A
  refine z_aload_n X (x := A 517) (show cdA 337 0 = some (.aload_n 3, 1, 0, 0, 0) from rfl) (List.Mem.tail _ (List.Mem.tail _ (List.Mem.tail _ (List.Mem.head _)))) ?_
  refine z_const X (show cdA 337 1 = some (.iconst 0, 1, 0, 0, 0) from rfl) ?_
  refine z_aload_n X (x := A 0) (show cdA 337 2 = some (.aload_n 0, 1, 0, 0, 0) from rfl) (List.Mem.head _) ?_
  refine z_load_n X (x := x) (show cdA 337 3 = some (.iload_n 1, 1, 0, 0, 0) from rfl) (List.Mem.tail _ (List.Mem.head _)) ?_
  refine z_load_n X (x := y) (show cdA 337 4 = some (.iload_n 2, 1, 0, 0, 0) from rfl) (List.Mem.tail _ (List.Mem.tail _ (List.Mem.head _))) ?_
  refine z_callV X 0 (rm := rmN 163) (As := [.int (Int32.ofInt x), .int (Int32.ofInt y)]) (st := [.int (Int32.ofInt 0), .ref (A 517)]) (show cdA 337 5 = some (.invokevirtual 90, 3, 163, 0, 0) from rfl) rfl (by decide) rfl (by rw [E.1, E.2.1, E.2.2.1]; exact cs_plan G I (by omega) (by omega) (by omega)) ⟨by rw [E.2.2.2]; exact (show (rmN 163).frames + 1 ≤ (rmN 337).frames by decide), by rw [E.2.2.2]; exact (show 8 + (mNL (miB 163) + 11) + (rmN 163).locals ≤ (rmN 337).locals by decide), by rw [E.2.2.2]; exact (show 0 + (rmN 163).cells ≤ (rmN 337).cells by decide), by rw [E.2.2.2]; exact (show 0 + (rmN 163).slots ≤ (rmN 337).slots by decide)⟩ (Nat.le_of_ble_eq_true rfl) (fun vv s1 hq => ?_) (fun ee s1 hq => ?_)
  rotate_left
  · obtain ⟨Is1, Fs1, (⟨e2, hv, hrs1, hps1⟩ | ⟨xx, hv, hps1⟩)⟩ := hq
    · cases hv
    · cases hv
      rcases (show xx = 0 by omega) with gx
      ·
        subst gx
        have Gs1 := fm_ts F Fs1 (by decide) (by decide)
        refine (hEx 5 0).2 13 rfl _ _ _ _ _ (fun q1 => ?_)
        show WS k 13 [(0, .ref (A 0)), (1, .int (Int32.ofInt x)), (2, .int (Int32.ofInt y)), (3, .ref (A 517))] [.ref q1] (Wd A dT s1) 2 12
        refine z_astore X (lv' := [(4, .ref q1), (0, .ref (A 0)), (1, .int (Int32.ofInt x)), (2, .int (Int32.ofInt y)), (3, .ref (A 517))]) (show cdA 337 13 = some (.astore 4, 2, 0, 0, 0) from rfl) (by decide) (fun _ h => h) ?_
        refine z_const X (show cdA 337 15 = some (.iconst 1, 1, 0, 0, 0) from rfl) ?_
        exact w_iret X.1 q hRt rfl (ax_d X (show cdA 337 16 = some (.ireturn, 1, 0, 0, 0) from rfl)) (show 2 ≤ 2 by omega) (show 12 ≤ 12 by omega) ⟨A, _, hA, rfl, Is1, Gs1, 1, rfl, (by decide), trivial⟩
  obtain ⟨Is1, Fs1, (⟨e2, hv, hrs1, hps1⟩ | ⟨xx, hv, hps1⟩)⟩ := hq
  rotate_left
  · cases hv
  cases hv
  have Gs1 := fm_ts F Fs1 (by decide) (by decide)
  show WS k 8 [(0, .ref (A 0)), (1, .int (Int32.ofInt x)), (2, .int (Int32.ofInt y)), (3, .ref (A 517))] [.int (Int32.ofInt e2), .int (Int32.ofInt 0), .ref (A 517)] (Wd A dT s1) 2 12
  refine w_i2l X.1 (ax_d X (show cdA 337 8 = some (.i2l, 1, 0, 0, 0) from rfl)) ?_
  refine z_anyJ (fun j3 => ?_)
  refine z_last X 517 (show cdA 337 9 = some (.lastore, 1, 0, 0, 0) from rfl) (by decide) rfl (by decide) (show 0 < 1 by decide) (by decide) ?_
  obtain ⟨s4, hs4⟩ : ∃ x0, x0 = uD s1 460 (0 : Int).toNat j3 := ⟨_, rfl⟩
  rw [← hs4]
  have Is4 : Bd s4 := by rw [hs4]; exact bd_D Is1
  have Fs4 : Fm [22, 23, 24, 34, 35] [33, 26, 27, 28, 29, 30, 31, 32, 20, 48, 47, 49, 50, 51, 1460] s s4 := by rw [hs4]; exact fm_D Gs1 (show 460 + 1000 ∈ _ by decide)
  refine z_goto X (t := 17) (show cdA 337 10 = some (.goto 7, 3, 0, 0, 0) from rfl) (by decide) ?_
  refine z_const X (show cdA 337 17 = some (.iconst 0, 1, 0, 0, 0) from rfl) ?_
  exact w_iret X.1 q hRt rfl (ax_d X (show cdA 337 18 = some (.ireturn, 1, 0, 0, 0) from rfl)) (show 2 ≤ 2 by omega) (show 12 ≤ 12 by omega) ⟨A, _, hA, rfl, Is4, Fs4, 0, rfl, (by decide), trivial⟩
set_option maxRecDepth 4000 in
theorem lw_hours (G : GX l s0 D tys a0 dT) (I : Bd s) {x y : Int} (p0 : rng x) (p1 : rng y) : CTL l s0 D A dT 338 (rmN 338) [.ref (A 0), .int (Int32.ofInt x), .int (Int32.ofInt y), .ref (A 517)] s (fun o t => Bd t ∧ Fm [36, 37] [1460] s t ∧ ∃ e, o = .inl (some (.int (Int32.ofInt e))) ∧ rng e ∧ (True)) := by
  refine ctL_of G (by decide) (Nat.le_of_ble_eq_true rfl) (by decide) (show cdA 338 0 = some (.aload_n 3, 1, 0, 0, 0) from rfl) (fun k X E ET hRt hEx q => ?_)
  show WS k 0 [(0, .ref (A 0)), (1, .int (Int32.ofInt x)), (2, .int (Int32.ofInt y)), (3, .ref (A 517))] [] _ 0 0
  have F : Fm [36, 37] [1460] s s := fm_rf _ _ s
  have hA := swA_rf A
  refine z_aload_n X (x := A 517) (show cdA 338 0 = some (.aload_n 3, 1, 0, 0, 0) from rfl) (List.Mem.tail _ (List.Mem.tail _ (List.Mem.tail _ (List.Mem.head _)))) ?_
  refine z_const X (show cdA 338 1 = some (.iconst 0, 1, 0, 0, 0) from rfl) ?_
  refine z_aload_n X (x := A 0) (show cdA 338 2 = some (.aload_n 0, 1, 0, 0, 0) from rfl) (List.Mem.head _) ?_
  refine z_load_n X (x := x) (show cdA 338 3 = some (.iload_n 1, 1, 0, 0, 0) from rfl) (List.Mem.tail _ (List.Mem.head _)) ?_
  refine z_load_n X (x := y) (show cdA 338 4 = some (.iload_n 2, 1, 0, 0, 0) from rfl) (List.Mem.tail _ (List.Mem.tail _ (List.Mem.head _))) ?_
  refine z_callV X 0 (rm := rmN 164) (As := [.int (Int32.ofInt x), .int (Int32.ofInt y)]) (st := [.int (Int32.ofInt 0), .ref (A 517)]) (show cdA 338 5 = some (.invokevirtual 93, 3, 164, 0, 0) from rfl) rfl (by decide) rfl (by rw [E.1, E.2.1, E.2.2.1]; exact cs_hours G I (by omega) (by omega)) ⟨by rw [E.2.2.2]; exact (show (rmN 164).frames + 1 ≤ (rmN 338).frames by decide), by rw [E.2.2.2]; exact (show 8 + (mNL (miB 164) + 11) + (rmN 164).locals ≤ (rmN 338).locals by decide), by rw [E.2.2.2]; exact (show 0 + (rmN 164).cells ≤ (rmN 338).cells by decide), by rw [E.2.2.2]; exact (show 0 + (rmN 164).slots ≤ (rmN 338).slots by decide)⟩ (Nat.le_of_ble_eq_true rfl) (fun vv s1 hq => ?_) (fun ee s1 hq => ?_)
  rotate_left
  · obtain ⟨Is1, Fs1, (⟨e2, hv, hrs1, hps1⟩ | ⟨xx, hv, hps1⟩)⟩ := hq
    · cases hv
    · cases hv
      rcases (show xx = 0 by omega) with gx
      ·
        subst gx
        have Gs1 := fm_ts F Fs1 (by decide) (by decide)
        refine (hEx 5 0).2 13 rfl _ _ _ _ _ (fun q1 => ?_)
        show WS k 13 [(0, .ref (A 0)), (1, .int (Int32.ofInt x)), (2, .int (Int32.ofInt y)), (3, .ref (A 517))] [.ref q1] (Wd A dT s1) 2 12
        refine z_astore X (lv' := [(4, .ref q1), (0, .ref (A 0)), (1, .int (Int32.ofInt x)), (2, .int (Int32.ofInt y)), (3, .ref (A 517))]) (show cdA 338 13 = some (.astore 4, 2, 0, 0, 0) from rfl) (by decide) (fun _ h => h) ?_
        refine z_const X (show cdA 338 15 = some (.iconst 1, 1, 0, 0, 0) from rfl) ?_
        exact w_iret X.1 q hRt rfl (ax_d X (show cdA 338 16 = some (.ireturn, 1, 0, 0, 0) from rfl)) (show 2 ≤ 2 by omega) (show 12 ≤ 12 by omega) ⟨A, _, hA, rfl, Is1, Gs1, 1, rfl, (by decide), trivial⟩
  obtain ⟨Is1, Fs1, (⟨e2, hv, hrs1, hps1⟩ | ⟨xx, hv, hps1⟩)⟩ := hq
  rotate_left
  · cases hv
  cases hv
  have Gs1 := fm_ts F Fs1 (by decide) (by decide)
  show WS k 8 [(0, .ref (A 0)), (1, .int (Int32.ofInt x)), (2, .int (Int32.ofInt y)), (3, .ref (A 517))] [.int (Int32.ofInt e2), .int (Int32.ofInt 0), .ref (A 517)] (Wd A dT s1) 2 12
  refine w_i2l X.1 (ax_d X (show cdA 338 8 = some (.i2l, 1, 0, 0, 0) from rfl)) ?_
  refine z_anyJ (fun j3 => ?_)
  refine z_last X 517 (show cdA 338 9 = some (.lastore, 1, 0, 0, 0) from rfl) (by decide) rfl (by decide) (show 0 < 1 by decide) (by decide) ?_
  obtain ⟨s4, hs4⟩ : ∃ x0, x0 = uD s1 460 (0 : Int).toNat j3 := ⟨_, rfl⟩
  rw [← hs4]
  have Is4 : Bd s4 := by rw [hs4]; exact bd_D Is1
  have Fs4 : Fm [36, 37] [1460] s s4 := by rw [hs4]; exact fm_D Gs1 (show 460 + 1000 ∈ _ by decide)
  refine z_goto X (t := 17) (show cdA 338 10 = some (.goto 7, 3, 0, 0, 0) from rfl) (by decide) ?_
  refine z_const X (show cdA 338 17 = some (.iconst 0, 1, 0, 0, 0) from rfl) ?_
  exact w_iret X.1 q hRt rfl (ax_d X (show cdA 338 18 = some (.ireturn, 1, 0, 0, 0) from rfl)) (show 2 ≤ 2 by omega) (show 12 ≤ 12 by omega) ⟨A, _, hA, rfl, Is4, Fs4, 0, rfl, (by decide), trivial⟩
set_option maxRecDepth 4000 in
theorem lw_ill (G : GX l s0 D tys a0 dT) (I : Bd s) {x y : Int} (p0 : rng x) (p1 : rng y) : CTL l s0 D A dT 339 (rmN 339) [.ref (A 0), .int (Int32.ofInt x), .int (Int32.ofInt y), .ref (A 517)] s (fun o t => Bd t ∧ Fm [] [52, 1460] s t ∧ ∃ e, o = .inl (some (.int (Int32.ofInt e))) ∧ rng e ∧ (True)) := by
  refine ctL_of G (by decide) (Nat.le_of_ble_eq_true rfl) (by decide) (show cdA 339 0 = some (.aload_n 3, 1, 0, 0, 0) from rfl) (fun k X E ET hRt hEx q => ?_)
  show WS k 0 [(0, .ref (A 0)), (1, .int (Int32.ofInt x)), (2, .int (Int32.ofInt y)), (3, .ref (A 517))] [] _ 0 0
  have F : Fm [] [52, 1460] s s := fm_rf _ _ s
  have hA := swA_rf A
  refine z_aload_n X (x := A 517) (show cdA 339 0 = some (.aload_n 3, 1, 0, 0, 0) from rfl) (List.Mem.tail _ (List.Mem.tail _ (List.Mem.tail _ (List.Mem.head _)))) ?_
  refine z_const X (show cdA 339 1 = some (.iconst 0, 1, 0, 0, 0) from rfl) ?_
  refine z_aload_n X (x := A 0) (show cdA 339 2 = some (.aload_n 0, 1, 0, 0, 0) from rfl) (List.Mem.head _) ?_
  refine z_load_n X (x := x) (show cdA 339 3 = some (.iload_n 1, 1, 0, 0, 0) from rfl) (List.Mem.tail _ (List.Mem.head _)) ?_
  refine z_load_n X (x := y) (show cdA 339 4 = some (.iload_n 2, 1, 0, 0, 0) from rfl) (List.Mem.tail _ (List.Mem.tail _ (List.Mem.head _))) ?_
  refine z_callV X 0 (rm := rmN 165) (As := [.int (Int32.ofInt x), .int (Int32.ofInt y)]) (st := [.int (Int32.ofInt 0), .ref (A 517)]) (show cdA 339 5 = some (.invokevirtual 96, 3, 165, 0, 0) from rfl) rfl (by decide) rfl (by rw [E.1, E.2.1, E.2.2.1]; exact cs_ill G I (by omega) (by omega)) ⟨by rw [E.2.2.2]; exact (show (rmN 165).frames + 1 ≤ (rmN 339).frames by decide), by rw [E.2.2.2]; exact (show 8 + (mNL (miB 165) + 11) + (rmN 165).locals ≤ (rmN 339).locals by decide), by rw [E.2.2.2]; exact (show 0 + (rmN 165).cells ≤ (rmN 339).cells by decide), by rw [E.2.2.2]; exact (show 0 + (rmN 165).slots ≤ (rmN 339).slots by decide)⟩ (Nat.le_of_ble_eq_true rfl) (fun vv s1 hq => ?_) (fun ee s1 hq => ?_)
  rotate_left
  · obtain ⟨Is1, Fs1, (⟨e2, hv, hrs1, hps1⟩ | ⟨xx, hv, hps1⟩)⟩ := hq
    · cases hv
    · cases hv
      rcases (show xx = 0 ∨ xx = 2 by omega) with gx | gx
      ·
        subst gx
        have Gs1 := fm_ts F Fs1 (by decide) (by decide)
        refine (hEx 5 0).2 17 rfl _ _ _ _ _ (fun q1 => ?_)
        show WS k 17 [(0, .ref (A 0)), (1, .int (Int32.ofInt x)), (2, .int (Int32.ofInt y)), (3, .ref (A 517))] [.ref q1] (Wd A dT s1) 2 12
        refine z_astore X (lv' := [(4, .ref q1), (0, .ref (A 0)), (1, .int (Int32.ofInt x)), (2, .int (Int32.ofInt y)), (3, .ref (A 517))]) (show cdA 339 17 = some (.astore 4, 2, 0, 0, 0) from rfl) (by decide) (fun _ h => h) ?_
        refine z_const X (show cdA 339 19 = some (.iconst 2, 1, 0, 0, 0) from rfl) ?_
        exact w_iret X.1 q hRt rfl (ax_d X (show cdA 339 20 = some (.ireturn, 1, 0, 0, 0) from rfl)) (show 2 ≤ 2 by omega) (show 12 ≤ 12 by omega) ⟨A, _, hA, rfl, Is1, Gs1, 2, rfl, (by decide), trivial⟩
      ·
        subst gx
        have Gs1 := fm_ts F Fs1 (by decide) (by decide)
        refine (hEx 5 2).2 13 rfl _ _ _ _ _ (fun q1 => ?_)
        show WS k 13 [(0, .ref (A 0)), (1, .int (Int32.ofInt x)), (2, .int (Int32.ofInt y)), (3, .ref (A 517))] [.ref q1] (Wd A dT s1) 2 12
        refine z_astore X (lv' := [(4, .ref q1), (0, .ref (A 0)), (1, .int (Int32.ofInt x)), (2, .int (Int32.ofInt y)), (3, .ref (A 517))]) (show cdA 339 13 = some (.astore 4, 2, 0, 0, 0) from rfl) (by decide) (fun _ h => h) ?_
        refine z_const X (show cdA 339 15 = some (.iconst 1, 1, 0, 0, 0) from rfl) ?_
        exact w_iret X.1 q hRt rfl (ax_d X (show cdA 339 16 = some (.ireturn, 1, 0, 0, 0) from rfl)) (show 2 ≤ 2 by omega) (show 12 ≤ 12 by omega) ⟨A, _, hA, rfl, Is1, Gs1, 1, rfl, (by decide), trivial⟩
  obtain ⟨Is1, Fs1, (⟨e2, hv, hrs1, hps1⟩ | ⟨xx, hv, hps1⟩)⟩ := hq
  rotate_left
  · cases hv
  cases hv
  have Gs1 := fm_ts F Fs1 (by decide) (by decide)
  show WS k 8 [(0, .ref (A 0)), (1, .int (Int32.ofInt x)), (2, .int (Int32.ofInt y)), (3, .ref (A 517))] [.int (Int32.ofInt e2), .int (Int32.ofInt 0), .ref (A 517)] (Wd A dT s1) 2 12
  refine w_i2l X.1 (ax_d X (show cdA 339 8 = some (.i2l, 1, 0, 0, 0) from rfl)) ?_
  refine z_anyJ (fun j3 => ?_)
  refine z_last X 517 (show cdA 339 9 = some (.lastore, 1, 0, 0, 0) from rfl) (by decide) rfl (by decide) (show 0 < 1 by decide) (by decide) ?_
  obtain ⟨s4, hs4⟩ : ∃ x0, x0 = uD s1 460 (0 : Int).toNat j3 := ⟨_, rfl⟩
  rw [← hs4]
  have Is4 : Bd s4 := by rw [hs4]; exact bd_D Is1
  have Fs4 : Fm [] [52, 1460] s s4 := by rw [hs4]; exact fm_D Gs1 (show 460 + 1000 ∈ _ by decide)
  refine z_goto X (t := 21) (show cdA 339 10 = some (.goto 11, 3, 0, 0, 0) from rfl) (by decide) ?_
  refine z_const X (show cdA 339 21 = some (.iconst 0, 1, 0, 0, 0) from rfl) ?_
  exact w_iret X.1 q hRt rfl (ax_d X (show cdA 339 22 = some (.ireturn, 1, 0, 0, 0) from rfl)) (show 2 ≤ 2 by omega) (show 12 ≤ 12 by omega) ⟨A, _, hA, rfl, Is4, Fs4, 0, rfl, (by decide), trivial⟩
set_option maxRecDepth 4000 in
theorem lw_rota (G : GX l s0 D tys a0 dT) (I : Bd s) {x y z : Int} (p0 : rng x) (p1 : rng y) (p2 : rng z) (p3 : iI s 12 ≤ 8) : CTL l s0 D A dT 340 (rmN 340) [.ref (A 0), .int (Int32.ofInt x), .int (Int32.ofInt y), .int (Int32.ofInt z), .ref (A 517)] s (fun o t => Bd t ∧ Fm [22, 23, 24, 34, 35, 38] [33, 26, 27, 28, 29, 30, 31, 32, 20, 48, 47, 49, 50, 51, 53, 54, 55, 56, 1460] s t ∧ ∃ e, o = .inl (some (.int (Int32.ofInt e))) ∧ rng e ∧ (True)) := by
  refine ctL_of G (by decide) (Nat.le_of_ble_eq_true rfl) (by decide) (show cdA 340 0 = some (.aload 4, 2, 0, 0, 0) from rfl) (fun k X E ET hRt hEx q => ?_)
  show WS k 0 [(0, .ref (A 0)), (1, .int (Int32.ofInt x)), (2, .int (Int32.ofInt y)), (3, .int (Int32.ofInt z)), (4, .ref (A 517))] [] _ 0 0
  have F : Fm [22, 23, 24, 34, 35, 38] [33, 26, 27, 28, 29, 30, 31, 32, 20, 48, 47, 49, 50, 51, 53, 54, 55, 56, 1460] s s := fm_rf _ _ s
  have hA := swA_rf A
  refine z_aload X (x := A 517) (show cdA 340 0 = some (.aload 4, 2, 0, 0, 0) from rfl) (List.Mem.tail _ (List.Mem.tail _ (List.Mem.tail _ (List.Mem.tail _ (List.Mem.head _))))) ?_
  refine z_const X (show cdA 340 2 = some (.iconst 0, 1, 0, 0, 0) from rfl) ?_
  refine z_aload_n X (x := A 0) (show cdA 340 3 = some (.aload_n 0, 1, 0, 0, 0) from rfl) (List.Mem.head _) ?_
  refine z_load_n X (x := x) (show cdA 340 4 = some (.iload_n 1, 1, 0, 0, 0) from rfl) (List.Mem.tail _ (List.Mem.head _)) ?_
  refine z_load_n X (x := y) (show cdA 340 5 = some (.iload_n 2, 1, 0, 0, 0) from rfl) (List.Mem.tail _ (List.Mem.tail _ (List.Mem.head _))) ?_
  refine z_load_n X (x := z) (show cdA 340 6 = some (.iload_n 3, 1, 0, 0, 0) from rfl) (List.Mem.tail _ (List.Mem.tail _ (List.Mem.tail _ (List.Mem.head _)))) ?_
  refine z_callV X 0 (rm := rmN 166) (As := [.int (Int32.ofInt x), .int (Int32.ofInt y), .int (Int32.ofInt z)]) (st := [.int (Int32.ofInt 0), .ref (A 517)]) (show cdA 340 7 = some (.invokevirtual 99, 3, 166, 0, 0) from rfl) rfl (by decide) rfl (by rw [E.1, E.2.1, E.2.2.1]; exact cs_rota G I (by omega) (by omega) (by omega) (by omega)) ⟨by rw [E.2.2.2]; exact (show (rmN 166).frames + 1 ≤ (rmN 340).frames by decide), by rw [E.2.2.2]; exact (show 8 + (mNL (miB 166) + 11) + (rmN 166).locals ≤ (rmN 340).locals by decide), by rw [E.2.2.2]; exact (show 0 + (rmN 166).cells ≤ (rmN 340).cells by decide), by rw [E.2.2.2]; exact (show 0 + (rmN 166).slots ≤ (rmN 340).slots by decide)⟩ (Nat.le_of_ble_eq_true rfl) (fun vv s1 hq => ?_) (fun ee s1 hq => ?_)
  rotate_left
  · obtain ⟨Is1, Fs1, (⟨e2, hv, hrs1, hps1⟩ | ⟨xx, hv, hps1⟩)⟩ := hq
    · cases hv
    · cases hv
      rcases (show xx = 0 by omega) with gx
      ·
        subst gx
        have Gs1 := fm_ts F Fs1 (by decide) (by decide)
        refine (hEx 7 0).2 15 rfl _ _ _ _ _ (fun q1 => ?_)
        show WS k 15 [(0, .ref (A 0)), (1, .int (Int32.ofInt x)), (2, .int (Int32.ofInt y)), (3, .int (Int32.ofInt z)), (4, .ref (A 517))] [.ref q1] (Wd A dT s1) 3 18
        refine z_astore X (lv' := [(5, .ref q1), (0, .ref (A 0)), (1, .int (Int32.ofInt x)), (2, .int (Int32.ofInt y)), (3, .int (Int32.ofInt z)), (4, .ref (A 517))]) (show cdA 340 15 = some (.astore 5, 2, 0, 0, 0) from rfl) (by decide) (fun _ h => h) ?_
        refine z_const X (show cdA 340 17 = some (.iconst 1, 1, 0, 0, 0) from rfl) ?_
        exact w_iret X.1 q hRt rfl (ax_d X (show cdA 340 18 = some (.ireturn, 1, 0, 0, 0) from rfl)) (show 3 ≤ 3 by omega) (show 18 ≤ 18 by omega) ⟨A, _, hA, rfl, Is1, Gs1, 1, rfl, (by decide), trivial⟩
  obtain ⟨Is1, Fs1, (⟨e2, hv, hrs1, hps1⟩ | ⟨xx, hv, hps1⟩)⟩ := hq
  rotate_left
  · cases hv
  cases hv
  have Gs1 := fm_ts F Fs1 (by decide) (by decide)
  show WS k 10 [(0, .ref (A 0)), (1, .int (Int32.ofInt x)), (2, .int (Int32.ofInt y)), (3, .int (Int32.ofInt z)), (4, .ref (A 517))] [.int (Int32.ofInt e2), .int (Int32.ofInt 0), .ref (A 517)] (Wd A dT s1) 3 18
  refine w_i2l X.1 (ax_d X (show cdA 340 10 = some (.i2l, 1, 0, 0, 0) from rfl)) ?_
  refine z_anyJ (fun j3 => ?_)
  refine z_last X 517 (show cdA 340 11 = some (.lastore, 1, 0, 0, 0) from rfl) (by decide) rfl (by decide) (show 0 < 1 by decide) (by decide) ?_
  obtain ⟨s4, hs4⟩ : ∃ x0, x0 = uD s1 460 (0 : Int).toNat j3 := ⟨_, rfl⟩
  rw [← hs4]
  have Is4 : Bd s4 := by rw [hs4]; exact bd_D Is1
  have Fs4 : Fm [22, 23, 24, 34, 35, 38] [33, 26, 27, 28, 29, 30, 31, 32, 20, 48, 47, 49, 50, 51, 53, 54, 55, 56, 1460] s s4 := by rw [hs4]; exact fm_D Gs1 (show 460 + 1000 ∈ _ by decide)
  refine z_goto X (t := 19) (show cdA 340 12 = some (.goto 7, 3, 0, 0, 0) from rfl) (by decide) ?_
  refine z_const X (show cdA 340 19 = some (.iconst 0, 1, 0, 0, 0) from rfl) ?_
  exact w_iret X.1 q hRt rfl (ax_d X (show cdA 340 20 = some (.ireturn, 1, 0, 0, 0) from rfl)) (show 3 ≤ 3 by omega) (show 18 ≤ 18 by omega) ⟨A, _, hA, rfl, Is4, Fs4, 0, rfl, (by decide), trivial⟩
set_option maxRecDepth 4000 in
theorem lw_lacks (G : GX l s0 D tys a0 dT) (I : Bd s) {x y : Int} (p0 : rng x) (p1 : rng y) (p2 : iI s 12 ≤ 8) : CTL l s0 D A dT 341 (rmN 341) [.ref (A 0), .int (Int32.ofInt x), .int (Int32.ofInt y), .ref (A 517)] s (fun o t => Bd t ∧ Fm [22, 23, 24, 34, 35, 38] [33, 26, 27, 28, 29, 30, 31, 32, 20, 48, 47, 49, 50, 51, 53, 54, 55, 56, 1460] s t ∧ ∃ e, o = .inl (some (.int (Int32.ofInt e))) ∧ rng e ∧ (True)) := by
  refine ctL_of G (by decide) (Nat.le_of_ble_eq_true rfl) (by decide) (show cdA 341 0 = some (.aload_n 3, 1, 0, 0, 0) from rfl) (fun k X E ET hRt hEx q => ?_)
  show WS k 0 [(0, .ref (A 0)), (1, .int (Int32.ofInt x)), (2, .int (Int32.ofInt y)), (3, .ref (A 517))] [] _ 0 0
  have F : Fm [22, 23, 24, 34, 35, 38] [33, 26, 27, 28, 29, 30, 31, 32, 20, 48, 47, 49, 50, 51, 53, 54, 55, 56, 1460] s s := fm_rf _ _ s
  have hA := swA_rf A
  refine z_aload_n X (x := A 517) (show cdA 341 0 = some (.aload_n 3, 1, 0, 0, 0) from rfl) (List.Mem.tail _ (List.Mem.tail _ (List.Mem.tail _ (List.Mem.head _)))) ?_
  refine z_const X (show cdA 341 1 = some (.iconst 0, 1, 0, 0, 0) from rfl) ?_
  refine z_aload_n X (x := A 0) (show cdA 341 2 = some (.aload_n 0, 1, 0, 0, 0) from rfl) (List.Mem.head _) ?_
  refine z_load_n X (x := x) (show cdA 341 3 = some (.iload_n 1, 1, 0, 0, 0) from rfl) (List.Mem.tail _ (List.Mem.head _)) ?_
  refine z_load_n X (x := y) (show cdA 341 4 = some (.iload_n 2, 1, 0, 0, 0) from rfl) (List.Mem.tail _ (List.Mem.tail _ (List.Mem.head _))) ?_
  refine z_callV X 0 (rm := rmN 167) (As := [.int (Int32.ofInt x), .int (Int32.ofInt y)]) (st := [.int (Int32.ofInt 0), .ref (A 517)]) (show cdA 341 5 = some (.invokevirtual 102, 3, 167, 0, 0) from rfl) rfl (by decide) rfl (by rw [E.1, E.2.1, E.2.2.1]; exact cs_lacks G I (by omega) (by omega) (by omega)) ⟨by rw [E.2.2.2]; exact (show (rmN 167).frames + 1 ≤ (rmN 341).frames by decide), by rw [E.2.2.2]; exact (show 8 + (mNL (miB 167) + 11) + (rmN 167).locals ≤ (rmN 341).locals by decide), by rw [E.2.2.2]; exact (show 0 + (rmN 167).cells ≤ (rmN 341).cells by decide), by rw [E.2.2.2]; exact (show 0 + (rmN 167).slots ≤ (rmN 341).slots by decide)⟩ (Nat.le_of_ble_eq_true rfl) (fun vv s1 hq => ?_) (fun ee s1 hq => ?_)
  rotate_left
  · obtain ⟨Is1, Fs1, (⟨e2, hv, hrs1, hps1⟩ | ⟨xx, hv, hps1⟩)⟩ := hq
    · cases hv
    · cases hv
      rcases (show xx = 0 by omega) with gx
      ·
        subst gx
        have Gs1 := fm_ts F Fs1 (by decide) (by decide)
        refine (hEx 5 0).2 13 rfl _ _ _ _ _ (fun q1 => ?_)
        show WS k 13 [(0, .ref (A 0)), (1, .int (Int32.ofInt x)), (2, .int (Int32.ofInt y)), (3, .ref (A 517))] [.ref q1] (Wd A dT s1) 2 12
        refine z_astore X (lv' := [(4, .ref q1), (0, .ref (A 0)), (1, .int (Int32.ofInt x)), (2, .int (Int32.ofInt y)), (3, .ref (A 517))]) (show cdA 341 13 = some (.astore 4, 2, 0, 0, 0) from rfl) (by decide) (fun _ h => h) ?_
        refine z_const X (show cdA 341 15 = some (.iconst 1, 1, 0, 0, 0) from rfl) ?_
        exact w_iret X.1 q hRt rfl (ax_d X (show cdA 341 16 = some (.ireturn, 1, 0, 0, 0) from rfl)) (show 2 ≤ 2 by omega) (show 12 ≤ 12 by omega) ⟨A, _, hA, rfl, Is1, Gs1, 1, rfl, (by decide), trivial⟩
  obtain ⟨Is1, Fs1, (⟨e2, hv, hrs1, hps1⟩ | ⟨xx, hv, hps1⟩)⟩ := hq
  rotate_left
  · cases hv
  cases hv
  have Gs1 := fm_ts F Fs1 (by decide) (by decide)
  show WS k 8 [(0, .ref (A 0)), (1, .int (Int32.ofInt x)), (2, .int (Int32.ofInt y)), (3, .ref (A 517))] [.int (Int32.ofInt e2), .int (Int32.ofInt 0), .ref (A 517)] (Wd A dT s1) 2 12
  refine w_i2l X.1 (ax_d X (show cdA 341 8 = some (.i2l, 1, 0, 0, 0) from rfl)) ?_
  refine z_anyJ (fun j3 => ?_)
  refine z_last X 517 (show cdA 341 9 = some (.lastore, 1, 0, 0, 0) from rfl) (by decide) rfl (by decide) (show 0 < 1 by decide) (by decide) ?_
  obtain ⟨s4, hs4⟩ : ∃ x0, x0 = uD s1 460 (0 : Int).toNat j3 := ⟨_, rfl⟩
  rw [← hs4]
  have Is4 : Bd s4 := by rw [hs4]; exact bd_D Is1
  have Fs4 : Fm [22, 23, 24, 34, 35, 38] [33, 26, 27, 28, 29, 30, 31, 32, 20, 48, 47, 49, 50, 51, 53, 54, 55, 56, 1460] s s4 := by rw [hs4]; exact fm_D Gs1 (show 460 + 1000 ∈ _ by decide)
  refine z_goto X (t := 17) (show cdA 341 10 = some (.goto 7, 3, 0, 0, 0) from rfl) (by decide) ?_
  refine z_const X (show cdA 341 17 = some (.iconst 0, 1, 0, 0, 0) from rfl) ?_
  exact w_iret X.1 q hRt rfl (ax_d X (show cdA 341 18 = some (.ireturn, 1, 0, 0, 0) from rfl)) (show 2 ≤ 2 by omega) (show 12 ≤ 12 by omega) ⟨A, _, hA, rfl, Is4, Fs4, 0, rfl, (by decide), trivial⟩
set_option maxRecDepth 4000 in
theorem lw_enough (G : GX l s0 D tys a0 dT) (I : Bd s) {x : Int} (p0 : rng x) (p1 : iI s 12 ≤ 8) : CTL l s0 D A dT 342 (rmN 342) [.ref (A 0), .int (Int32.ofInt x), .ref (A 517)] s (fun o t => Bd t ∧ Fm [22, 23, 24, 34, 35, 38] [33, 26, 27, 28, 29, 30, 31, 32, 20, 48, 47, 49, 50, 51, 53, 54, 55, 56, 1460] s t ∧ ∃ e, o = .inl (some (.int (Int32.ofInt e))) ∧ rng e ∧ (True)) := by
  refine ctL_of G (by decide) (Nat.le_of_ble_eq_true rfl) (by decide) (show cdA 342 0 = some (.aload_n 2, 1, 0, 0, 0) from rfl) (fun k X E ET hRt hEx q => ?_)
  show WS k 0 [(0, .ref (A 0)), (1, .int (Int32.ofInt x)), (2, .ref (A 517))] [] _ 0 0
  have F : Fm [22, 23, 24, 34, 35, 38] [33, 26, 27, 28, 29, 30, 31, 32, 20, 48, 47, 49, 50, 51, 53, 54, 55, 56, 1460] s s := fm_rf _ _ s
  have hA := swA_rf A
  refine z_aload_n X (x := A 517) (show cdA 342 0 = some (.aload_n 2, 1, 0, 0, 0) from rfl) (List.Mem.tail _ (List.Mem.tail _ (List.Mem.head _))) ?_
  refine z_const X (show cdA 342 1 = some (.iconst 0, 1, 0, 0, 0) from rfl) ?_
  refine z_aload_n X (x := A 0) (show cdA 342 2 = some (.aload_n 0, 1, 0, 0, 0) from rfl) (List.Mem.head _) ?_
  refine z_load_n X (x := x) (show cdA 342 3 = some (.iload_n 1, 1, 0, 0, 0) from rfl) (List.Mem.tail _ (List.Mem.head _)) ?_
  refine z_callV X 0 (rm := rmN 168) (As := [.int (Int32.ofInt x)]) (st := [.int (Int32.ofInt 0), .ref (A 517)]) (show cdA 342 4 = some (.invokevirtual 105, 3, 168, 0, 0) from rfl) rfl (by decide) rfl (by rw [E.1, E.2.1, E.2.2.1]; exact cs_enough G I (by omega) (by omega)) ⟨by rw [E.2.2.2]; exact (show (rmN 168).frames + 1 ≤ (rmN 342).frames by decide), by rw [E.2.2.2]; exact (show 8 + (mNL (miB 168) + 11) + (rmN 168).locals ≤ (rmN 342).locals by decide), by rw [E.2.2.2]; exact (show 0 + (rmN 168).cells ≤ (rmN 342).cells by decide), by rw [E.2.2.2]; exact (show 0 + (rmN 168).slots ≤ (rmN 342).slots by decide)⟩ (Nat.le_of_ble_eq_true rfl) (fun vv s1 hq => ?_) (fun ee s1 hq => ?_)
  rotate_left
  · obtain ⟨Is1, Fs1, (⟨e2, hv, hrs1, hps1⟩ | ⟨xx, hv, hps1⟩)⟩ := hq
    · cases hv
    · cases hv
      rcases (show xx = 0 by omega) with gx
      ·
        subst gx
        have Gs1 := fm_ts F Fs1 (by decide) (by decide)
        refine (hEx 4 0).2 12 rfl _ _ _ _ _ (fun q1 => ?_)
        show WS k 12 [(0, .ref (A 0)), (1, .int (Int32.ofInt x)), (2, .ref (A 517))] [.ref q1] (Wd A dT s1) 1 6
        refine z_astore_n X (lv' := [(3, .ref q1), (0, .ref (A 0)), (1, .int (Int32.ofInt x)), (2, .ref (A 517))]) (show cdA 342 12 = some (.astore_n 3, 1, 0, 0, 0) from rfl) (by decide) (fun _ h => h) ?_
        refine z_const X (show cdA 342 13 = some (.iconst 1, 1, 0, 0, 0) from rfl) ?_
        exact w_iret X.1 q hRt rfl (ax_d X (show cdA 342 14 = some (.ireturn, 1, 0, 0, 0) from rfl)) (show 1 ≤ 1 by omega) (show 6 ≤ 6 by omega) ⟨A, _, hA, rfl, Is1, Gs1, 1, rfl, (by decide), trivial⟩
  obtain ⟨Is1, Fs1, (⟨e2, hv, hrs1, hps1⟩ | ⟨xx, hv, hps1⟩)⟩ := hq
  rotate_left
  · cases hv
  cases hv
  have Gs1 := fm_ts F Fs1 (by decide) (by decide)
  show WS k 7 [(0, .ref (A 0)), (1, .int (Int32.ofInt x)), (2, .ref (A 517))] [.int (Int32.ofInt e2), .int (Int32.ofInt 0), .ref (A 517)] (Wd A dT s1) 1 6
  refine w_i2l X.1 (ax_d X (show cdA 342 7 = some (.i2l, 1, 0, 0, 0) from rfl)) ?_
  refine z_anyJ (fun j3 => ?_)
  refine z_last X 517 (show cdA 342 8 = some (.lastore, 1, 0, 0, 0) from rfl) (by decide) rfl (by decide) (show 0 < 1 by decide) (by decide) ?_
  obtain ⟨s4, hs4⟩ : ∃ x0, x0 = uD s1 460 (0 : Int).toNat j3 := ⟨_, rfl⟩
  rw [← hs4]
  have Is4 : Bd s4 := by rw [hs4]; exact bd_D Is1
  have Fs4 : Fm [22, 23, 24, 34, 35, 38] [33, 26, 27, 28, 29, 30, 31, 32, 20, 48, 47, 49, 50, 51, 53, 54, 55, 56, 1460] s s4 := by rw [hs4]; exact fm_D Gs1 (show 460 + 1000 ∈ _ by decide)
  refine z_goto X (t := 15) (show cdA 342 9 = some (.goto 6, 3, 0, 0, 0) from rfl) (by decide) ?_
  refine z_const X (show cdA 342 15 = some (.iconst 0, 1, 0, 0, 0) from rfl) ?_
  exact w_iret X.1 q hRt rfl (ax_d X (show cdA 342 16 = some (.ireturn, 1, 0, 0, 0) from rfl)) (show 1 ≤ 1 by omega) (show 6 ≤ 6 by omega) ⟨A, _, hA, rfl, Is4, Fs4, 0, rfl, (by decide), trivial⟩
set_option maxRecDepth 4000 in
theorem lw_storm (G : GX l s0 D tys a0 dT) (I : Bd s) {x y : Int} (p0 : rng x) (p1 : y = 0 ∨ y = 1) : CTL l s0 D A dT 343 (rmN 343) [.ref (A 0), .int (Int32.ofInt x), .int (Int32.ofInt y), .ref (A 517)] s (fun o t => Bd t ∧ Fm [1000, 1001] [1460] s t ∧ ∃ e, o = .inl (some (.int (Int32.ofInt e))) ∧ rng e ∧ (True)) := by
  refine ctL_of G (by decide) (Nat.le_of_ble_eq_true rfl) (by decide) (show cdA 343 0 = some (.aload_n 3, 1, 0, 0, 0) from rfl) (fun k X E ET hRt hEx q => ?_)
  show WS k 0 [(0, .ref (A 0)), (1, .int (Int32.ofInt x)), (2, .int (Int32.ofInt y)), (3, .ref (A 517))] [] _ 0 0
  have F : Fm [1000, 1001] [1460] s s := fm_rf _ _ s
  have hA := swA_rf A
  refine z_aload_n X (x := A 517) (show cdA 343 0 = some (.aload_n 3, 1, 0, 0, 0) from rfl) (List.Mem.tail _ (List.Mem.tail _ (List.Mem.tail _ (List.Mem.head _)))) ?_
  refine z_const X (show cdA 343 1 = some (.iconst 0, 1, 0, 0, 0) from rfl) ?_
  refine z_aload_n X (x := A 0) (show cdA 343 2 = some (.aload_n 0, 1, 0, 0, 0) from rfl) (List.Mem.head _) ?_
  refine z_load_n X (x := x) (show cdA 343 3 = some (.iload_n 1, 1, 0, 0, 0) from rfl) (List.Mem.tail _ (List.Mem.head _)) ?_
  refine z_load_n X (x := y) (show cdA 343 4 = some (.iload_n 2, 1, 0, 0, 0) from rfl) (List.Mem.tail _ (List.Mem.tail _ (List.Mem.head _))) ?_
  refine z_callV X 0 (rm := rmN 169) (As := [.int (Int32.ofInt x), .int (Int32.ofInt y)]) (st := [.int (Int32.ofInt 0), .ref (A 517)]) (show cdA 343 5 = some (.invokevirtual 108, 3, 169, 0, 0) from rfl) rfl (by decide) rfl (by rw [E.1, E.2.1, E.2.2.1]; exact cs_storm G I (by omega) (by omega)) ⟨by rw [E.2.2.2]; exact (show (rmN 169).frames + 1 ≤ (rmN 343).frames by decide), by rw [E.2.2.2]; exact (show 8 + (mNL (miB 169) + 11) + (rmN 169).locals ≤ (rmN 343).locals by decide), by rw [E.2.2.2]; exact (show 0 + (rmN 169).cells ≤ (rmN 343).cells by decide), by rw [E.2.2.2]; exact (show 0 + (rmN 169).slots ≤ (rmN 343).slots by decide)⟩ (Nat.le_of_ble_eq_true rfl) (fun vv s1 hq => ?_) (fun ee s1 hq => ?_)
  rotate_left
  · obtain ⟨Is1, Fs1, (⟨e2, hv, hrs1, hps1⟩ | ⟨xx, hv, hps1⟩)⟩ := hq
    · cases hv
    · cases hv
      rcases (show xx = 2 by omega) with gx
      ·
        subst gx
        have Gs1 := fm_ts F Fs1 (by decide) (by decide)
        refine (hEx 5 2).2 20 rfl _ _ _ _ _ (fun q1 => ?_)
        show WS k 20 [(0, .ref (A 0)), (1, .int (Int32.ofInt x)), (2, .int (Int32.ofInt y)), (3, .ref (A 517))] [.ref q1] (Wd A dT s1) 1 6
        refine z_astore X (lv' := [(4, .ref q1), (0, .ref (A 0)), (1, .int (Int32.ofInt x)), (2, .int (Int32.ofInt y)), (3, .ref (A 517))]) (show cdA 343 20 = some (.astore 4, 2, 0, 0, 0) from rfl) (by decide) (fun _ h => h) ?_
        refine z_const X (show cdA 343 22 = some (.iconst 1, 1, 0, 0, 0) from rfl) ?_
        exact w_iret X.1 q hRt rfl (ax_d X (show cdA 343 23 = some (.ireturn, 1, 0, 0, 0) from rfl)) (show 1 ≤ 1 by omega) (show 6 ≤ 6 by omega) ⟨A, _, hA, rfl, Is1, Gs1, 1, rfl, (by decide), trivial⟩
  obtain ⟨Is1, Fs1, (⟨e2, hv, hrs1, hps1⟩ | ⟨xx, hv, hps1⟩)⟩ := hq
  rotate_left
  · cases hv
  cases hv
  have Gs1 := fm_ts F Fs1 (by decide) (by decide)
  show WS k 8 [(0, .ref (A 0)), (1, .int (Int32.ofInt x)), (2, .int (Int32.ofInt y)), (3, .ref (A 517))] [.int (Int32.ofInt e2), .int (Int32.ofInt 0), .ref (A 517)] (Wd A dT s1) 1 6
  have N3 : ∀ j4 : Int64, WS k 16 [(0, .ref (A 0)), (1, .int (Int32.ofInt x)), (2, .int (Int32.ofInt y)), (3, .ref (A 517))] [.long j4, .int (Int32.ofInt 0), .ref (A 517)] (Wd A dT s1) 1 6 := by
    intro j4
    refine z_last X 517 (show cdA 343 16 = some (.lastore, 1, 0, 0, 0) from rfl) (by decide) rfl (by decide) (show 0 < 1 by decide) (by decide) ?_
    obtain ⟨s5, hs5⟩ : ∃ x0, x0 = uD s1 460 (0 : Int).toNat j4 := ⟨_, rfl⟩
    rw [← hs5]
    have Is5 : Bd s5 := by rw [hs5]; exact bd_D Is1
    have Fs5 : Fm [1000, 1001] [1460] s s5 := by rw [hs5]; exact fm_D Gs1 (show 460 + 1000 ∈ _ by decide)
    refine z_goto X (t := 24) (show cdA 343 17 = some (.goto 7, 3, 0, 0, 0) from rfl) (by decide) ?_
    refine z_const X (show cdA 343 24 = some (.iconst 0, 1, 0, 0, 0) from rfl) ?_
    exact w_iret X.1 q hRt rfl (ax_d X (show cdA 343 25 = some (.ireturn, 1, 0, 0, 0) from rfl)) (show 1 ≤ 1 by omega) (show 6 ≤ 6 by omega) ⟨A, _, hA, rfl, Is5, Fs5, 0, rfl, (by decide), trivial⟩
  refine z_if_eq X (t := 15) (show cdA 343 8 = some (.ifCond .eq 7, 3, 0, 0, 0) from rfl) (by decide) ⟨by omega, by omega⟩ (fun g6 => ?_) (fun g6 => ?_)
  ·
    refine w_lconst X.1 (ax_d X (show cdA 343 15 = some (.lconst 0, 1, 0, 0, 0) from rfl)) rfl ?_
    refine z_anyJ (fun j7 => ?_)
    exact N3 _
  ·
    refine w_lconst X.1 (ax_d X (show cdA 343 11 = some (.lconst 1, 1, 0, 0, 0) from rfl)) rfl ?_
    refine z_anyJ (fun j8 => ?_)
    refine z_goto X (t := 16) (show cdA 343 12 = some (.goto 4, 3, 0, 0, 0) from rfl) (by decide) ?_
    exact N3 _
set_option maxRecDepth 4000 in
theorem lw_mends (G : GX l s0 D tys a0 dT) (GR : RS0 s0) (I : Bd s) {x y z w : Int} (p0 : rng x) (p1 : rng y) (p2 : rng z) (p3 : rng w) : CTL l s0 D A dT 344 (rmN 344) [.ref (A 0), .int (Int32.ofInt x), .int (Int32.ofInt y), .int (Int32.ofInt z), .int (Int32.ofInt w), .ref (A 517)] s (fun o t => Bd t ∧ Fm [43, 44, 46, 47, 49, 50, 52, 53, 55, 56, 58, 59, 61, 62, 64, 65, 67, 68, 42, 39, 40, 41] [57, 58, 67, 62, 77, 78, 79, 73, 87, 80, 81, 82, 83, 84, 85, 86, 96, 89, 90, 91, 92, 93, 94, 95, 105, 98, 99, 100, 101, 102, 103, 104, 114, 107, 108, 109, 110, 111, 112, 113, 123, 116, 117, 118, 119, 120, 121, 122, 132, 125, 126, 127, 128, 129, 130, 131, 141, 134, 135, 136, 137, 138, 139, 140, 150, 143, 144, 145, 146, 147, 148, 149, 20, 76, 74, 75, 72, 1059, 1060, 1061, 1063, 1460] s t ∧ ∃ e, o = .inl (some (.int (Int32.ofInt e))) ∧ rng e ∧ (True)) := by
  refine ctL_of G (by decide) (Nat.le_of_ble_eq_true rfl) (by decide) (show cdA 344 0 = some (.aload 5, 2, 0, 0, 0) from rfl) (fun k X E ET hRt hEx q => ?_)
  show WS k 0 [(0, .ref (A 0)), (1, .int (Int32.ofInt x)), (2, .int (Int32.ofInt y)), (3, .int (Int32.ofInt z)), (4, .int (Int32.ofInt w)), (5, .ref (A 517))] [] _ 0 0
  have F : Fm [43, 44, 46, 47, 49, 50, 52, 53, 55, 56, 58, 59, 61, 62, 64, 65, 67, 68, 42, 39, 40, 41] [57, 58, 67, 62, 77, 78, 79, 73, 87, 80, 81, 82, 83, 84, 85, 86, 96, 89, 90, 91, 92, 93, 94, 95, 105, 98, 99, 100, 101, 102, 103, 104, 114, 107, 108, 109, 110, 111, 112, 113, 123, 116, 117, 118, 119, 120, 121, 122, 132, 125, 126, 127, 128, 129, 130, 131, 141, 134, 135, 136, 137, 138, 139, 140, 150, 143, 144, 145, 146, 147, 148, 149, 20, 76, 74, 75, 72, 1059, 1060, 1061, 1063, 1460] s s := fm_rf _ _ s
  have hA := swA_rf A
  refine z_aload X (x := A 517) (show cdA 344 0 = some (.aload 5, 2, 0, 0, 0) from rfl) (List.Mem.tail _ (List.Mem.tail _ (List.Mem.tail _ (List.Mem.tail _ (List.Mem.tail _ (List.Mem.head _)))))) ?_
  refine z_const X (show cdA 344 2 = some (.iconst 0, 1, 0, 0, 0) from rfl) ?_
  refine z_aload_n X (x := A 0) (show cdA 344 3 = some (.aload_n 0, 1, 0, 0, 0) from rfl) (List.Mem.head _) ?_
  refine z_load_n X (x := x) (show cdA 344 4 = some (.iload_n 1, 1, 0, 0, 0) from rfl) (List.Mem.tail _ (List.Mem.head _)) ?_
  refine z_load_n X (x := y) (show cdA 344 5 = some (.iload_n 2, 1, 0, 0, 0) from rfl) (List.Mem.tail _ (List.Mem.tail _ (List.Mem.head _))) ?_
  refine z_load_n X (x := z) (show cdA 344 6 = some (.iload_n 3, 1, 0, 0, 0) from rfl) (List.Mem.tail _ (List.Mem.tail _ (List.Mem.tail _ (List.Mem.head _)))) ?_
  refine z_load X (x := w) (show cdA 344 7 = some (.iload 4, 2, 0, 0, 0) from rfl) (List.Mem.tail _ (List.Mem.tail _ (List.Mem.tail _ (List.Mem.tail _ (List.Mem.head _))))) ?_
  refine z_callV X 0 (rm := rmN 170) (As := [.int (Int32.ofInt x), .int (Int32.ofInt y), .int (Int32.ofInt z), .int (Int32.ofInt w)]) (st := [.int (Int32.ofInt 0), .ref (A 517)]) (show cdA 344 9 = some (.invokevirtual 112, 3, 170, 0, 0) from rfl) rfl (by decide) rfl (by rw [E.1, E.2.1, E.2.2.1]; exact cs_mends G GR I (by omega) (by omega) (by omega) (by omega)) ⟨by rw [E.2.2.2]; exact (show (rmN 170).frames + 1 ≤ (rmN 344).frames by decide), by rw [E.2.2.2]; exact (show 8 + (mNL (miB 170) + 11) + (rmN 170).locals ≤ (rmN 344).locals by decide), by rw [E.2.2.2]; exact (show 0 + (rmN 170).cells ≤ (rmN 344).cells by decide), by rw [E.2.2.2]; exact (show 0 + (rmN 170).slots ≤ (rmN 344).slots by decide)⟩ (Nat.le_of_ble_eq_true rfl) (fun vv s1 hq => ?_) (fun ee s1 hq => ?_)
  rotate_left
  · obtain ⟨Is1, Fs1, (⟨e2, hv, hrs1, hps1⟩ | ⟨xx, hv, hps1⟩)⟩ := hq
    · cases hv
    · cases hv
      rcases (show xx = 0 by omega) with gx
      ·
        subst gx
        have Gs1 := fm_ts F Fs1 (by decide) (by decide +kernel)
        refine (hEx 9 0).2 17 rfl _ _ _ _ _ (fun q1 => ?_)
        show WS k 17 [(0, .ref (A 0)), (1, .int (Int32.ofInt x)), (2, .int (Int32.ofInt y)), (3, .int (Int32.ofInt z)), (4, .int (Int32.ofInt w)), (5, .ref (A 517))] [.ref q1] (Wd A dT s1) 4 24
        refine z_astore X (lv' := [(6, .ref q1), (0, .ref (A 0)), (1, .int (Int32.ofInt x)), (2, .int (Int32.ofInt y)), (3, .int (Int32.ofInt z)), (4, .int (Int32.ofInt w)), (5, .ref (A 517))]) (show cdA 344 17 = some (.astore 6, 2, 0, 0, 0) from rfl) (by decide) (fun _ h => h) ?_
        refine z_const X (show cdA 344 19 = some (.iconst 1, 1, 0, 0, 0) from rfl) ?_
        exact w_iret X.1 q hRt rfl (ax_d X (show cdA 344 20 = some (.ireturn, 1, 0, 0, 0) from rfl)) (show 4 ≤ 4 by omega) (show 24 ≤ 24 by omega) ⟨A, _, hA, rfl, Is1, Gs1, 1, rfl, (by decide), trivial⟩
  obtain ⟨Is1, Fs1, (⟨e2, hv, hrs1, hps1⟩ | ⟨xx, hv, hps1⟩)⟩ := hq
  rotate_left
  · cases hv
  cases hv
  have Gs1 := fm_ts F Fs1 (by decide) (by decide +kernel)
  show WS k 12 [(0, .ref (A 0)), (1, .int (Int32.ofInt x)), (2, .int (Int32.ofInt y)), (3, .int (Int32.ofInt z)), (4, .int (Int32.ofInt w)), (5, .ref (A 517))] [.int (Int32.ofInt e2), .int (Int32.ofInt 0), .ref (A 517)] (Wd A dT s1) 4 24
  refine w_i2l X.1 (ax_d X (show cdA 344 12 = some (.i2l, 1, 0, 0, 0) from rfl)) ?_
  refine z_anyJ (fun j3 => ?_)
  refine z_last X 517 (show cdA 344 13 = some (.lastore, 1, 0, 0, 0) from rfl) (by decide) rfl (by decide) (show 0 < 1 by decide) (by decide) ?_
  obtain ⟨s4, hs4⟩ : ∃ x0, x0 = uD s1 460 (0 : Int).toNat j3 := ⟨_, rfl⟩
  rw [← hs4]
  have Is4 : Bd s4 := by rw [hs4]; exact bd_D Is1
  have Fs4 : Fm [43, 44, 46, 47, 49, 50, 52, 53, 55, 56, 58, 59, 61, 62, 64, 65, 67, 68, 42, 39, 40, 41] [57, 58, 67, 62, 77, 78, 79, 73, 87, 80, 81, 82, 83, 84, 85, 86, 96, 89, 90, 91, 92, 93, 94, 95, 105, 98, 99, 100, 101, 102, 103, 104, 114, 107, 108, 109, 110, 111, 112, 113, 123, 116, 117, 118, 119, 120, 121, 122, 132, 125, 126, 127, 128, 129, 130, 131, 141, 134, 135, 136, 137, 138, 139, 140, 150, 143, 144, 145, 146, 147, 148, 149, 20, 76, 74, 75, 72, 1059, 1060, 1061, 1063, 1460] s s4 := by rw [hs4]; exact fm_D Gs1 (show 460 + 1000 ∈ _ by decide)
  refine z_goto X (t := 21) (show cdA 344 14 = some (.goto 7, 3, 0, 0, 0) from rfl) (by decide) ?_
  refine z_const X (show cdA 344 21 = some (.iconst 0, 1, 0, 0, 0) from rfl) ?_
  exact w_iret X.1 q hRt rfl (ax_d X (show cdA 344 22 = some (.ireturn, 1, 0, 0, 0) from rfl)) (show 4 ≤ 4 by omega) (show 24 ≤ 24 by omega) ⟨A, _, hA, rfl, Is4, Fs4, 0, rfl, (by decide), trivial⟩
set_option maxRecDepth 4000 in
theorem lw_did (G : GX l s0 D tys a0 dT) (I : Bd s) {x y z w : Int} (p0 : rng x) (p1 : rng y) (p2 : rng z) (p3 : w = 0 ∨ w = 1) : CTL l s0 D A dT 345 (rmN 345) [.ref (A 0), .int (Int32.ofInt x), .int (Int32.ofInt y), .int (Int32.ofInt z), .int (Int32.ofInt w), .ref (A 517)] s (fun o t => Bd t ∧ Fm [22, 23, 70] [33, 26, 27, 28, 29, 30, 31, 32, 152, 153, 154, 1460] s t ∧ ∃ e, o = .inl (some (.int (Int32.ofInt e))) ∧ rng e ∧ (True)) := by
  refine ctL_of G (by decide) (Nat.le_of_ble_eq_true rfl) (by decide) (show cdA 345 0 = some (.aload 5, 2, 0, 0, 0) from rfl) (fun k X E ET hRt hEx q => ?_)
  show WS k 0 [(0, .ref (A 0)), (1, .int (Int32.ofInt x)), (2, .int (Int32.ofInt y)), (3, .int (Int32.ofInt z)), (4, .int (Int32.ofInt w)), (5, .ref (A 517))] [] _ 0 0
  have F : Fm [22, 23, 70] [33, 26, 27, 28, 29, 30, 31, 32, 152, 153, 154, 1460] s s := fm_rf _ _ s
  have hA := swA_rf A
  refine z_aload X (x := A 517) (show cdA 345 0 = some (.aload 5, 2, 0, 0, 0) from rfl) (List.Mem.tail _ (List.Mem.tail _ (List.Mem.tail _ (List.Mem.tail _ (List.Mem.tail _ (List.Mem.head _)))))) ?_
  refine z_const X (show cdA 345 2 = some (.iconst 0, 1, 0, 0, 0) from rfl) ?_
  refine z_aload_n X (x := A 0) (show cdA 345 3 = some (.aload_n 0, 1, 0, 0, 0) from rfl) (List.Mem.head _) ?_
  refine z_load_n X (x := x) (show cdA 345 4 = some (.iload_n 1, 1, 0, 0, 0) from rfl) (List.Mem.tail _ (List.Mem.head _)) ?_
  refine z_load_n X (x := y) (show cdA 345 5 = some (.iload_n 2, 1, 0, 0, 0) from rfl) (List.Mem.tail _ (List.Mem.tail _ (List.Mem.head _))) ?_
  refine z_load_n X (x := z) (show cdA 345 6 = some (.iload_n 3, 1, 0, 0, 0) from rfl) (List.Mem.tail _ (List.Mem.tail _ (List.Mem.tail _ (List.Mem.head _)))) ?_
  refine z_load X (x := w) (show cdA 345 7 = some (.iload 4, 2, 0, 0, 0) from rfl) (List.Mem.tail _ (List.Mem.tail _ (List.Mem.tail _ (List.Mem.tail _ (List.Mem.head _))))) ?_
  refine z_callV X 0 (rm := rmN 171) (As := [.int (Int32.ofInt x), .int (Int32.ofInt y), .int (Int32.ofInt z), .int (Int32.ofInt w)]) (st := [.int (Int32.ofInt 0), .ref (A 517)]) (show cdA 345 9 = some (.invokevirtual 116, 3, 171, 0, 0) from rfl) rfl (by decide) rfl (by rw [E.1, E.2.1, E.2.2.1]; exact cs_did G I (by omega) (by omega) (by omega) (by omega)) ⟨by rw [E.2.2.2]; exact (show (rmN 171).frames + 1 ≤ (rmN 345).frames by decide), by rw [E.2.2.2]; exact (show 8 + (mNL (miB 171) + 11) + (rmN 171).locals ≤ (rmN 345).locals by decide), by rw [E.2.2.2]; exact (show 0 + (rmN 171).cells ≤ (rmN 345).cells by decide), by rw [E.2.2.2]; exact (show 0 + (rmN 171).slots ≤ (rmN 345).slots by decide)⟩ (Nat.le_of_ble_eq_true rfl) (fun vv s1 hq => ?_) (fun ee s1 hq => ?_)
  rotate_left
  · obtain ⟨Is1, Fs1, (⟨e2, hv, hrs1, hps1⟩ | ⟨xx, hv, hps1⟩)⟩ := hq
    · cases hv
    · cases hv
      rcases (show xx = 0 by omega) with gx
      ·
        subst gx
        have Gs1 := fm_ts F Fs1 (by decide) (by decide)
        refine (hEx 9 0).2 17 rfl _ _ _ _ _ (fun q1 => ?_)
        show WS k 17 [(0, .ref (A 0)), (1, .int (Int32.ofInt x)), (2, .int (Int32.ofInt y)), (3, .int (Int32.ofInt z)), (4, .int (Int32.ofInt w)), (5, .ref (A 517))] [.ref q1] (Wd A dT s1) 3 18
        refine z_astore X (lv' := [(6, .ref q1), (0, .ref (A 0)), (1, .int (Int32.ofInt x)), (2, .int (Int32.ofInt y)), (3, .int (Int32.ofInt z)), (4, .int (Int32.ofInt w)), (5, .ref (A 517))]) (show cdA 345 17 = some (.astore 6, 2, 0, 0, 0) from rfl) (by decide) (fun _ h => h) ?_
        refine z_const X (show cdA 345 19 = some (.iconst 1, 1, 0, 0, 0) from rfl) ?_
        exact w_iret X.1 q hRt rfl (ax_d X (show cdA 345 20 = some (.ireturn, 1, 0, 0, 0) from rfl)) (show 3 ≤ 3 by omega) (show 18 ≤ 18 by omega) ⟨A, _, hA, rfl, Is1, Gs1, 1, rfl, (by decide), trivial⟩
  obtain ⟨Is1, Fs1, (⟨e2, hv, hrs1, hps1⟩ | ⟨xx, hv, hps1⟩)⟩ := hq
  rotate_left
  · cases hv
  cases hv
  have Gs1 := fm_ts F Fs1 (by decide) (by decide)
  show WS k 12 [(0, .ref (A 0)), (1, .int (Int32.ofInt x)), (2, .int (Int32.ofInt y)), (3, .int (Int32.ofInt z)), (4, .int (Int32.ofInt w)), (5, .ref (A 517))] [.int (Int32.ofInt e2), .int (Int32.ofInt 0), .ref (A 517)] (Wd A dT s1) 3 18
  refine w_i2l X.1 (ax_d X (show cdA 345 12 = some (.i2l, 1, 0, 0, 0) from rfl)) ?_
  refine z_anyJ (fun j3 => ?_)
  refine z_last X 517 (show cdA 345 13 = some (.lastore, 1, 0, 0, 0) from rfl) (by decide) rfl (by decide) (show 0 < 1 by decide) (by decide) ?_
  obtain ⟨s4, hs4⟩ : ∃ x0, x0 = uD s1 460 (0 : Int).toNat j3 := ⟨_, rfl⟩
  rw [← hs4]
  have Is4 : Bd s4 := by rw [hs4]; exact bd_D Is1
  have Fs4 : Fm [22, 23, 70] [33, 26, 27, 28, 29, 30, 31, 32, 152, 153, 154, 1460] s s4 := by rw [hs4]; exact fm_D Gs1 (show 460 + 1000 ∈ _ by decide)
  refine z_goto X (t := 21) (show cdA 345 14 = some (.goto 7, 3, 0, 0, 0) from rfl) (by decide) ?_
  refine z_const X (show cdA 345 21 = some (.iconst 0, 1, 0, 0, 0) from rfl) ?_
  exact w_iret X.1 q hRt rfl (ax_d X (show cdA 345 22 = some (.ireturn, 1, 0, 0, 0) from rfl)) (show 3 ≤ 3 by omega) (show 18 ≤ 18 by omega) ⟨A, _, hA, rfl, Is4, Fs4, 0, rfl, (by decide), trivial⟩
set_option maxRecDepth 4000 in
theorem lw_fit (G : GX l s0 D tys a0 dT) (I : Bd s) {x : Int} (p0 : rng x) : CTL l s0 D A dT 346 (rmN 346) [.ref (A 0), .int (Int32.ofInt x), .ref (A 517)] s (fun o t => Bd t ∧ Fm [71, 72] [156, 155, 1460] s t ∧ ∃ e, o = .inl (some (.int (Int32.ofInt e))) ∧ rng e ∧ (True)) := by
  refine ctL_of G (by decide) (Nat.le_of_ble_eq_true rfl) (by decide) (show cdA 346 0 = some (.aload_n 2, 1, 0, 0, 0) from rfl) (fun k X E ET hRt hEx q => ?_)
  show WS k 0 [(0, .ref (A 0)), (1, .int (Int32.ofInt x)), (2, .ref (A 517))] [] _ 0 0
  have F : Fm [71, 72] [156, 155, 1460] s s := fm_rf _ _ s
  have hA := swA_rf A
  refine z_aload_n X (x := A 517) (show cdA 346 0 = some (.aload_n 2, 1, 0, 0, 0) from rfl) (List.Mem.tail _ (List.Mem.tail _ (List.Mem.head _))) ?_
  refine z_const X (show cdA 346 1 = some (.iconst 0, 1, 0, 0, 0) from rfl) ?_
  refine z_aload_n X (x := A 0) (show cdA 346 2 = some (.aload_n 0, 1, 0, 0, 0) from rfl) (List.Mem.head _) ?_
  refine z_load_n X (x := x) (show cdA 346 3 = some (.iload_n 1, 1, 0, 0, 0) from rfl) (List.Mem.tail _ (List.Mem.head _)) ?_
  refine z_callV X 0 (rm := rmN 172) (As := [.int (Int32.ofInt x)]) (st := [.int (Int32.ofInt 0), .ref (A 517)]) (show cdA 346 4 = some (.invokevirtual 120, 3, 172, 0, 0) from rfl) rfl (by decide) rfl (by rw [E.1, E.2.1, E.2.2.1]; exact cs_fit G I (by omega)) ⟨by rw [E.2.2.2]; exact (show (rmN 172).frames + 1 ≤ (rmN 346).frames by decide), by rw [E.2.2.2]; exact (show 8 + (mNL (miB 172) + 11) + (rmN 172).locals ≤ (rmN 346).locals by decide), by rw [E.2.2.2]; exact (show 0 + (rmN 172).cells ≤ (rmN 346).cells by decide), by rw [E.2.2.2]; exact (show 0 + (rmN 172).slots ≤ (rmN 346).slots by decide)⟩ (Nat.le_of_ble_eq_true rfl) (fun vv s1 hq => ?_) (fun ee s1 hq => ?_)
  rotate_left
  · obtain ⟨Is1, Fs1, (⟨e2, hv, hrs1, hps1⟩ | ⟨xx, hv, hps1⟩)⟩ := hq
    · cases hv
    · cases hv
      rcases (show xx = 0 by omega) with gx
      ·
        subst gx
        have Gs1 := fm_ts F Fs1 (by decide) (by decide)
        refine (hEx 4 0).2 12 rfl _ _ _ _ _ (fun q1 => ?_)
        show WS k 12 [(0, .ref (A 0)), (1, .int (Int32.ofInt x)), (2, .ref (A 517))] [.ref q1] (Wd A dT s1) 1 6
        refine z_astore_n X (lv' := [(3, .ref q1), (0, .ref (A 0)), (1, .int (Int32.ofInt x)), (2, .ref (A 517))]) (show cdA 346 12 = some (.astore_n 3, 1, 0, 0, 0) from rfl) (by decide) (fun _ h => h) ?_
        refine z_const X (show cdA 346 13 = some (.iconst 1, 1, 0, 0, 0) from rfl) ?_
        exact w_iret X.1 q hRt rfl (ax_d X (show cdA 346 14 = some (.ireturn, 1, 0, 0, 0) from rfl)) (show 1 ≤ 1 by omega) (show 6 ≤ 6 by omega) ⟨A, _, hA, rfl, Is1, Gs1, 1, rfl, (by decide), trivial⟩
  obtain ⟨Is1, Fs1, (⟨e2, hv, hrs1, hps1⟩ | ⟨xx, hv, hps1⟩)⟩ := hq
  rotate_left
  · cases hv
  cases hv
  have Gs1 := fm_ts F Fs1 (by decide) (by decide)
  show WS k 7 [(0, .ref (A 0)), (1, .int (Int32.ofInt x)), (2, .ref (A 517))] [.int (Int32.ofInt e2), .int (Int32.ofInt 0), .ref (A 517)] (Wd A dT s1) 1 6
  refine w_i2l X.1 (ax_d X (show cdA 346 7 = some (.i2l, 1, 0, 0, 0) from rfl)) ?_
  refine z_anyJ (fun j3 => ?_)
  refine z_last X 517 (show cdA 346 8 = some (.lastore, 1, 0, 0, 0) from rfl) (by decide) rfl (by decide) (show 0 < 1 by decide) (by decide) ?_
  obtain ⟨s4, hs4⟩ : ∃ x0, x0 = uD s1 460 (0 : Int).toNat j3 := ⟨_, rfl⟩
  rw [← hs4]
  have Is4 : Bd s4 := by rw [hs4]; exact bd_D Is1
  have Fs4 : Fm [71, 72] [156, 155, 1460] s s4 := by rw [hs4]; exact fm_D Gs1 (show 460 + 1000 ∈ _ by decide)
  refine z_goto X (t := 15) (show cdA 346 9 = some (.goto 6, 3, 0, 0, 0) from rfl) (by decide) ?_
  refine z_const X (show cdA 346 15 = some (.iconst 0, 1, 0, 0, 0) from rfl) ?_
  exact w_iret X.1 q hRt rfl (ax_d X (show cdA 346 16 = some (.ireturn, 1, 0, 0, 0) from rfl)) (show 1 ≤ 1 by omega) (show 6 ≤ 6 by omega) ⟨A, _, hA, rfl, Is4, Fs4, 0, rfl, (by decide), trivial⟩
set_option maxRecDepth 4000 in
theorem lw_lead (G : GX l s0 D tys a0 dT) (I : Bd s) {x y z w : Int} (p0 : rng x) (p1 : rng y) (p2 : rng z) (p3 : w = 0 ∨ w = 1) : CTL l s0 D A dT 347 (rmN 347) [.ref (A 0), .int (Int32.ofInt x), .int (Int32.ofInt y), .int (Int32.ofInt z), .int (Int32.ofInt w), .ref (A 517)] s (fun o t => Bd t ∧ Fm [22, 23] [33, 26, 27, 28, 29, 30, 31, 32, 20, 34, 1460] s t ∧ ∃ e, o = .inl (some (.int (Int32.ofInt e))) ∧ rng e ∧ (True)) := by
  refine ctL_of G (by decide) (Nat.le_of_ble_eq_true rfl) (by decide) (show cdA 347 0 = some (.aload 5, 2, 0, 0, 0) from rfl) (fun k X E ET hRt hEx q => ?_)
  show WS k 0 [(0, .ref (A 0)), (1, .int (Int32.ofInt x)), (2, .int (Int32.ofInt y)), (3, .int (Int32.ofInt z)), (4, .int (Int32.ofInt w)), (5, .ref (A 517))] [] _ 0 0
  have F : Fm [22, 23] [33, 26, 27, 28, 29, 30, 31, 32, 20, 34, 1460] s s := fm_rf _ _ s
  have hA := swA_rf A
  refine z_aload X (x := A 517) (show cdA 347 0 = some (.aload 5, 2, 0, 0, 0) from rfl) (List.Mem.tail _ (List.Mem.tail _ (List.Mem.tail _ (List.Mem.tail _ (List.Mem.tail _ (List.Mem.head _)))))) ?_
  refine z_const X (show cdA 347 2 = some (.iconst 0, 1, 0, 0, 0) from rfl) ?_
  refine z_aload_n X (x := A 0) (show cdA 347 3 = some (.aload_n 0, 1, 0, 0, 0) from rfl) (List.Mem.head _) ?_
  refine z_load_n X (x := x) (show cdA 347 4 = some (.iload_n 1, 1, 0, 0, 0) from rfl) (List.Mem.tail _ (List.Mem.head _)) ?_
  refine z_load_n X (x := y) (show cdA 347 5 = some (.iload_n 2, 1, 0, 0, 0) from rfl) (List.Mem.tail _ (List.Mem.tail _ (List.Mem.head _))) ?_
  refine z_load_n X (x := z) (show cdA 347 6 = some (.iload_n 3, 1, 0, 0, 0) from rfl) (List.Mem.tail _ (List.Mem.tail _ (List.Mem.tail _ (List.Mem.head _)))) ?_
  refine z_load X (x := w) (show cdA 347 7 = some (.iload 4, 2, 0, 0, 0) from rfl) (List.Mem.tail _ (List.Mem.tail _ (List.Mem.tail _ (List.Mem.tail _ (List.Mem.head _))))) ?_
  refine z_callV X 0 (rm := rmN 173) (As := [.int (Int32.ofInt x), .int (Int32.ofInt y), .int (Int32.ofInt z), .int (Int32.ofInt w)]) (st := [.int (Int32.ofInt 0), .ref (A 517)]) (show cdA 347 9 = some (.invokevirtual 123, 3, 173, 0, 0) from rfl) rfl (by decide) rfl (by rw [E.1, E.2.1, E.2.2.1]; exact cs_lead G I (by omega) (by omega) (by omega) (by omega)) ⟨by rw [E.2.2.2]; exact (show (rmN 173).frames + 1 ≤ (rmN 347).frames by decide), by rw [E.2.2.2]; exact (show 8 + (mNL (miB 173) + 11) + (rmN 173).locals ≤ (rmN 347).locals by decide), by rw [E.2.2.2]; exact (show 0 + (rmN 173).cells ≤ (rmN 347).cells by decide), by rw [E.2.2.2]; exact (show 0 + (rmN 173).slots ≤ (rmN 347).slots by decide)⟩ (Nat.le_of_ble_eq_true rfl) (fun vv s1 hq => ?_) (fun ee s1 hq => ?_)
  rotate_left
  · obtain ⟨Is1, Fs1, (⟨e2, hv, hrs1, hps1⟩ | ⟨xx, hv, hps1⟩)⟩ := hq
    · cases hv
    · cases hv
      rcases (show xx = 0 by omega) with gx
      ·
        subst gx
        have Gs1 := fm_ts F Fs1 (by decide) (by decide)
        refine (hEx 9 0).2 17 rfl _ _ _ _ _ (fun q1 => ?_)
        show WS k 17 [(0, .ref (A 0)), (1, .int (Int32.ofInt x)), (2, .int (Int32.ofInt y)), (3, .int (Int32.ofInt z)), (4, .int (Int32.ofInt w)), (5, .ref (A 517))] [.ref q1] (Wd A dT s1) 2 12
        refine z_astore X (lv' := [(6, .ref q1), (0, .ref (A 0)), (1, .int (Int32.ofInt x)), (2, .int (Int32.ofInt y)), (3, .int (Int32.ofInt z)), (4, .int (Int32.ofInt w)), (5, .ref (A 517))]) (show cdA 347 17 = some (.astore 6, 2, 0, 0, 0) from rfl) (by decide) (fun _ h => h) ?_
        refine z_const X (show cdA 347 19 = some (.iconst 1, 1, 0, 0, 0) from rfl) ?_
        exact w_iret X.1 q hRt rfl (ax_d X (show cdA 347 20 = some (.ireturn, 1, 0, 0, 0) from rfl)) (show 2 ≤ 2 by omega) (show 12 ≤ 12 by omega) ⟨A, _, hA, rfl, Is1, Gs1, 1, rfl, (by decide), trivial⟩
  obtain ⟨Is1, Fs1, (⟨e2, hv, hrs1, hps1⟩ | ⟨xx, hv, hps1⟩)⟩ := hq
  rotate_left
  · cases hv
  cases hv
  have Gs1 := fm_ts F Fs1 (by decide) (by decide)
  show WS k 12 [(0, .ref (A 0)), (1, .int (Int32.ofInt x)), (2, .int (Int32.ofInt y)), (3, .int (Int32.ofInt z)), (4, .int (Int32.ofInt w)), (5, .ref (A 517))] [.int (Int32.ofInt e2), .int (Int32.ofInt 0), .ref (A 517)] (Wd A dT s1) 2 12
  refine w_i2l X.1 (ax_d X (show cdA 347 12 = some (.i2l, 1, 0, 0, 0) from rfl)) ?_
  refine z_anyJ (fun j3 => ?_)
  refine z_last X 517 (show cdA 347 13 = some (.lastore, 1, 0, 0, 0) from rfl) (by decide) rfl (by decide) (show 0 < 1 by decide) (by decide) ?_
  obtain ⟨s4, hs4⟩ : ∃ x0, x0 = uD s1 460 (0 : Int).toNat j3 := ⟨_, rfl⟩
  rw [← hs4]
  have Is4 : Bd s4 := by rw [hs4]; exact bd_D Is1
  have Fs4 : Fm [22, 23] [33, 26, 27, 28, 29, 30, 31, 32, 20, 34, 1460] s s4 := by rw [hs4]; exact fm_D Gs1 (show 460 + 1000 ∈ _ by decide)
  refine z_goto X (t := 21) (show cdA 347 14 = some (.goto 7, 3, 0, 0, 0) from rfl) (by decide) ?_
  refine z_const X (show cdA 347 21 = some (.iconst 0, 1, 0, 0, 0) from rfl) ?_
  exact w_iret X.1 q hRt rfl (ax_d X (show cdA 347 22 = some (.ireturn, 1, 0, 0, 0) from rfl)) (show 2 ≤ 2 by omega) (show 12 ≤ 12 by omega) ⟨A, _, hA, rfl, Is4, Fs4, 0, rfl, (by decide), trivial⟩
set_option maxRecDepth 4000 in
theorem lw_worth (G : GX l s0 D tys a0 dT) (I : Bd s) {x y : Int} (p0 : rng x) (p1 : rng y) : CTL l s0 D A dT 348 (rmN 348) [.ref (A 0), .int (Int32.ofInt x), .int (Int32.ofInt y), .ref (A 517)] s (fun o t => Bd t ∧ Fm [22, 23, 24] [33, 26, 27, 28, 29, 30, 31, 32, 20, 36, 37, 35, 21, 1022, 1023, 1460] s t ∧ ∃ e, o = .inl (some (.int (Int32.ofInt e))) ∧ rng e ∧ (True)) := by
  refine ctL_of G (by decide) (Nat.le_of_ble_eq_true rfl) (by decide) (show cdA 348 0 = some (.aload_n 3, 1, 0, 0, 0) from rfl) (fun k X E ET hRt hEx q => ?_)
  show WS k 0 [(0, .ref (A 0)), (1, .int (Int32.ofInt x)), (2, .int (Int32.ofInt y)), (3, .ref (A 517))] [] _ 0 0
  have F : Fm [22, 23, 24] [33, 26, 27, 28, 29, 30, 31, 32, 20, 36, 37, 35, 21, 1022, 1023, 1460] s s := fm_rf _ _ s
  have hA := swA_rf A
  refine z_aload_n X (x := A 517) (show cdA 348 0 = some (.aload_n 3, 1, 0, 0, 0) from rfl) (List.Mem.tail _ (List.Mem.tail _ (List.Mem.tail _ (List.Mem.head _)))) ?_
  refine z_const X (show cdA 348 1 = some (.iconst 0, 1, 0, 0, 0) from rfl) ?_
  refine z_aload_n X (x := A 0) (show cdA 348 2 = some (.aload_n 0, 1, 0, 0, 0) from rfl) (List.Mem.head _) ?_
  refine z_load_n X (x := x) (show cdA 348 3 = some (.iload_n 1, 1, 0, 0, 0) from rfl) (List.Mem.tail _ (List.Mem.head _)) ?_
  refine z_load_n X (x := y) (show cdA 348 4 = some (.iload_n 2, 1, 0, 0, 0) from rfl) (List.Mem.tail _ (List.Mem.tail _ (List.Mem.head _))) ?_
  refine z_callV X 0 (rm := rmN 174) (As := [.int (Int32.ofInt x), .int (Int32.ofInt y)]) (st := [.int (Int32.ofInt 0), .ref (A 517)]) (show cdA 348 5 = some (.invokevirtual 126, 3, 174, 0, 0) from rfl) rfl (by decide) rfl (by rw [E.1, E.2.1, E.2.2.1]; exact cs_worth G I (by omega) (by omega)) ⟨by rw [E.2.2.2]; exact (show (rmN 174).frames + 1 ≤ (rmN 348).frames by decide), by rw [E.2.2.2]; exact (show 8 + (mNL (miB 174) + 11) + (rmN 174).locals ≤ (rmN 348).locals by decide), by rw [E.2.2.2]; exact (show 0 + (rmN 174).cells ≤ (rmN 348).cells by decide), by rw [E.2.2.2]; exact (show 0 + (rmN 174).slots ≤ (rmN 348).slots by decide)⟩ (Nat.le_of_ble_eq_true rfl) (fun vv s1 hq => ?_) (fun ee s1 hq => ?_)
  rotate_left
  · obtain ⟨Is1, Fs1, (⟨e2, hv, hrs1, hps1⟩ | ⟨xx, hv, hps1⟩)⟩ := hq
    · cases hv
    · cases hv
      rcases (show xx = 0 ∨ xx = 2 by omega) with gx | gx
      ·
        subst gx
        have Gs1 := fm_ts F Fs1 (by decide) (by decide)
        refine (hEx 5 0).2 17 rfl _ _ _ _ _ (fun q1 => ?_)
        show WS k 17 [(0, .ref (A 0)), (1, .int (Int32.ofInt x)), (2, .int (Int32.ofInt y)), (3, .ref (A 517))] [.ref q1] (Wd A dT s1) 3 18
        refine z_astore X (lv' := [(4, .ref q1), (0, .ref (A 0)), (1, .int (Int32.ofInt x)), (2, .int (Int32.ofInt y)), (3, .ref (A 517))]) (show cdA 348 17 = some (.astore 4, 2, 0, 0, 0) from rfl) (by decide) (fun _ h => h) ?_
        refine z_const X (show cdA 348 19 = some (.iconst 2, 1, 0, 0, 0) from rfl) ?_
        exact w_iret X.1 q hRt rfl (ax_d X (show cdA 348 20 = some (.ireturn, 1, 0, 0, 0) from rfl)) (show 3 ≤ 3 by omega) (show 18 ≤ 18 by omega) ⟨A, _, hA, rfl, Is1, Gs1, 2, rfl, (by decide), trivial⟩
      ·
        subst gx
        have Gs1 := fm_ts F Fs1 (by decide) (by decide)
        refine (hEx 5 2).2 13 rfl _ _ _ _ _ (fun q1 => ?_)
        show WS k 13 [(0, .ref (A 0)), (1, .int (Int32.ofInt x)), (2, .int (Int32.ofInt y)), (3, .ref (A 517))] [.ref q1] (Wd A dT s1) 3 18
        refine z_astore X (lv' := [(4, .ref q1), (0, .ref (A 0)), (1, .int (Int32.ofInt x)), (2, .int (Int32.ofInt y)), (3, .ref (A 517))]) (show cdA 348 13 = some (.astore 4, 2, 0, 0, 0) from rfl) (by decide) (fun _ h => h) ?_
        refine z_const X (show cdA 348 15 = some (.iconst 1, 1, 0, 0, 0) from rfl) ?_
        exact w_iret X.1 q hRt rfl (ax_d X (show cdA 348 16 = some (.ireturn, 1, 0, 0, 0) from rfl)) (show 3 ≤ 3 by omega) (show 18 ≤ 18 by omega) ⟨A, _, hA, rfl, Is1, Gs1, 1, rfl, (by decide), trivial⟩
  obtain ⟨Is1, Fs1, (⟨e2, hv, hrs1, hps1⟩ | ⟨xx, hv, hps1⟩)⟩ := hq
  rotate_left
  · cases hv
  cases hv
  have Gs1 := fm_ts F Fs1 (by decide) (by decide)
  show WS k 8 [(0, .ref (A 0)), (1, .int (Int32.ofInt x)), (2, .int (Int32.ofInt y)), (3, .ref (A 517))] [.int (Int32.ofInt e2), .int (Int32.ofInt 0), .ref (A 517)] (Wd A dT s1) 3 18
  refine w_i2l X.1 (ax_d X (show cdA 348 8 = some (.i2l, 1, 0, 0, 0) from rfl)) ?_
  refine z_anyJ (fun j3 => ?_)
  refine z_last X 517 (show cdA 348 9 = some (.lastore, 1, 0, 0, 0) from rfl) (by decide) rfl (by decide) (show 0 < 1 by decide) (by decide) ?_
  obtain ⟨s4, hs4⟩ : ∃ x0, x0 = uD s1 460 (0 : Int).toNat j3 := ⟨_, rfl⟩
  rw [← hs4]
  have Is4 : Bd s4 := by rw [hs4]; exact bd_D Is1
  have Fs4 : Fm [22, 23, 24] [33, 26, 27, 28, 29, 30, 31, 32, 20, 36, 37, 35, 21, 1022, 1023, 1460] s s4 := by rw [hs4]; exact fm_D Gs1 (show 460 + 1000 ∈ _ by decide)
  refine z_goto X (t := 21) (show cdA 348 10 = some (.goto 11, 3, 0, 0, 0) from rfl) (by decide) ?_
  refine z_const X (show cdA 348 21 = some (.iconst 0, 1, 0, 0, 0) from rfl) ?_
  exact w_iret X.1 q hRt rfl (ax_d X (show cdA 348 22 = some (.ireturn, 1, 0, 0, 0) from rfl)) (show 3 ≤ 3 by omega) (show 18 ≤ 18 by omega) ⟨A, _, hA, rfl, Is4, Fs4, 0, rfl, (by decide), trivial⟩
set_option maxRecDepth 4000 in
theorem lw_quiet (G : GX l s0 D tys a0 dT) (I : Bd s) {x : Int} (p0 : rng x) : CTL l s0 D A dT 349 (rmN 349) [.ref (A 0), .int (Int32.ofInt x), .ref (A 517)] s (fun o t => Bd t ∧ Fm [] [1460] s t ∧ ∃ e, o = .inl (some (.int (Int32.ofInt e))) ∧ rng e ∧ (True)) := by
  refine ctL_of G (by decide) (Nat.le_of_ble_eq_true rfl) (by decide) (show cdA 349 0 = some (.aload_n 2, 1, 0, 0, 0) from rfl) (fun k X E ET hRt hEx q => ?_)
  show WS k 0 [(0, .ref (A 0)), (1, .int (Int32.ofInt x)), (2, .ref (A 517))] [] _ 0 0
  have F : Fm [] [1460] s s := fm_rf _ _ s
  have hA := swA_rf A
  refine z_aload_n X (x := A 517) (show cdA 349 0 = some (.aload_n 2, 1, 0, 0, 0) from rfl) (List.Mem.tail _ (List.Mem.tail _ (List.Mem.head _))) ?_
  refine z_const X (show cdA 349 1 = some (.iconst 0, 1, 0, 0, 0) from rfl) ?_
  refine z_aload_n X (x := A 0) (show cdA 349 2 = some (.aload_n 0, 1, 0, 0, 0) from rfl) (List.Mem.head _) ?_
  refine z_load_n X (x := x) (show cdA 349 3 = some (.iload_n 1, 1, 0, 0, 0) from rfl) (List.Mem.tail _ (List.Mem.head _)) ?_
  refine z_callV X 0 (rm := rmN 175) (As := [.int (Int32.ofInt x)]) (st := [.int (Int32.ofInt 0), .ref (A 517)]) (show cdA 349 4 = some (.invokevirtual 129, 3, 175, 0, 0) from rfl) rfl (by decide) rfl (by rw [E.1, E.2.1, E.2.2.1]; exact cs_quiet G I (by omega)) ⟨by rw [E.2.2.2]; exact (show (rmN 175).frames + 1 ≤ (rmN 349).frames by decide), by rw [E.2.2.2]; exact (show 8 + (mNL (miB 175) + 11) + (rmN 175).locals ≤ (rmN 349).locals by decide), by rw [E.2.2.2]; exact (show 0 + (rmN 175).cells ≤ (rmN 349).cells by decide), by rw [E.2.2.2]; exact (show 0 + (rmN 175).slots ≤ (rmN 349).slots by decide)⟩ (Nat.le_of_ble_eq_true rfl) (fun vv s1 hq => ?_) (fun ee s1 hq => ?_)
  rotate_left
  · obtain ⟨Is1, Fs1, (⟨e2, hv, hrs1, hps1⟩ | ⟨xx, hv, hps1⟩)⟩ := hq
    · cases hv
    · cases hv
      rcases (show xx = 2 by omega) with gx
      ·
        subst gx
        have Gs1 := fm_ts F Fs1 (by decide) (by decide)
        refine (hEx 4 2).2 12 rfl _ _ _ _ _ (fun q1 => ?_)
        show WS k 12 [(0, .ref (A 0)), (1, .int (Int32.ofInt x)), (2, .ref (A 517))] [.ref q1] (Wd A dT s1) 1 6
        refine z_astore_n X (lv' := [(3, .ref q1), (0, .ref (A 0)), (1, .int (Int32.ofInt x)), (2, .ref (A 517))]) (show cdA 349 12 = some (.astore_n 3, 1, 0, 0, 0) from rfl) (by decide) (fun _ h => h) ?_
        refine z_const X (show cdA 349 13 = some (.iconst 1, 1, 0, 0, 0) from rfl) ?_
        exact w_iret X.1 q hRt rfl (ax_d X (show cdA 349 14 = some (.ireturn, 1, 0, 0, 0) from rfl)) (show 1 ≤ 1 by omega) (show 6 ≤ 6 by omega) ⟨A, _, hA, rfl, Is1, Gs1, 1, rfl, (by decide), trivial⟩
  obtain ⟨Is1, Fs1, (⟨e2, hv, hrs1, hps1⟩ | ⟨xx, hv, hps1⟩)⟩ := hq
  rotate_left
  · cases hv
  cases hv
  have Gs1 := fm_ts F Fs1 (by decide) (by decide)
  show WS k 7 [(0, .ref (A 0)), (1, .int (Int32.ofInt x)), (2, .ref (A 517))] [.int (Int32.ofInt e2), .int (Int32.ofInt 0), .ref (A 517)] (Wd A dT s1) 1 6
  refine w_i2l X.1 (ax_d X (show cdA 349 7 = some (.i2l, 1, 0, 0, 0) from rfl)) ?_
  refine z_anyJ (fun j3 => ?_)
  refine z_last X 517 (show cdA 349 8 = some (.lastore, 1, 0, 0, 0) from rfl) (by decide) rfl (by decide) (show 0 < 1 by decide) (by decide) ?_
  obtain ⟨s4, hs4⟩ : ∃ x0, x0 = uD s1 460 (0 : Int).toNat j3 := ⟨_, rfl⟩
  rw [← hs4]
  have Is4 : Bd s4 := by rw [hs4]; exact bd_D Is1
  have Fs4 : Fm [] [1460] s s4 := by rw [hs4]; exact fm_D Gs1 (show 460 + 1000 ∈ _ by decide)
  refine z_goto X (t := 15) (show cdA 349 9 = some (.goto 6, 3, 0, 0, 0) from rfl) (by decide) ?_
  refine z_const X (show cdA 349 15 = some (.iconst 0, 1, 0, 0, 0) from rfl) ?_
  exact w_iret X.1 q hRt rfl (ax_d X (show cdA 349 16 = some (.ireturn, 1, 0, 0, 0) from rfl)) (show 1 ≤ 1 by omega) (show 6 ≤ 6 by omega) ⟨A, _, hA, rfl, Is4, Fs4, 0, rfl, (by decide), trivial⟩
end M87
