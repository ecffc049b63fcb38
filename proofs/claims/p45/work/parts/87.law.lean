section
/-! The law's own methods: a call of the class each, its exceptions caught -/
/-- a contract of a method with handlers, rows may change places -/
def CTL (l : Launch) (s0 : State) (D : va_G) (A : Nat → Nat) (dT : Nat → ClassId) (mn : Nat) (rm : Room) (vals : List Value) (s : PS) (Q : mb_O → PS → Prop) : Prop :=
  MB l s0 D (yA mn) (.codeWith (yA mn) (byA mn) (mNL (miB mn)) (rtA mn) (hhA mn)) rm vals (Wd A dT s) (fun o ws => ∃ (B : Nat → Nat) (s' : PS), swA A B ∧ ws = Wd B dT s' ∧ Q o s')
section CT4
variable {l : Launch} {s0 : State} {D : va_G} {tys : List (ClassId × FieldType)} {a0 : Array Value} {A : Nat → Nat} {dT : Nat → ClassId} {s : PS}
theorem ctL_of (G : GX l s0 D tys a0 dT) {mn : Nat} {rm : Room} {vals : List Value} {Q : mb_O → PS → Prop} (hy : plainName (yA mn).cls = true) (hn : (lg_sl vals).length ≤ mNL (miB mn)) (hne : hhA mn ≠ []) {r0 : ARow} (h0 : cdA mn 0 = some r0)
    (body : ∀ k, AX k mn dT → (kL k = l ∧ kS0 k = s0 ∧ kD k = D ∧ kR k = rm) → kTy k = tys → (kMe k).sig.returnType = rtA mn → (∀ pc, exX k cx0 mn pc) → kx_end k (fun o ws => ∃ (B : Nat → Nat) (s' : PS), swA A B ∧ ws = Wd B dT s' ∧ Q o s') rm.cells rm.slots → WS k 0 (lv_args 0 vals) [] (Wd A dT s) 0 0) : CTL l s0 D A dT mn rm vals s Q :=
  mb_ofH G.1 hy hn (fun k C e1 e2 e3 e4 e5 e6 e7 e8 e9 e10 e11 qe => body k ⟨C, ⟨e7, e6, e8⟩, fun t => by rw [e5]; exact G.2.1 t, by rw [e3]; exact G.2.2⟩ ⟨e1, e3, e4, e2⟩ e5 e9 ((rows_ok (a0 := a0) G.2.2 h0).2.2.2.2.2.2.2 hne k C (by rw [e1, e3, e4, e5]; exact G.1) e3 e6 e11) qe)
variable {k : kx_T} {mn pc : Nat} {lv : List (Nat × Value)} {st : List Value} {ce sl : Nat} {z : Int} {Q : mb_O → PS → Prop} {rm : Room}
/-- a call of one of them -/
theorem z_callL (X : AX k mn dT) {idx cn : Nat} {As : List Value} (h : cdA mn pc = some (.invokestatic idx, 3, cn, 6, z)) (hne : hhA cn ≠ []) (hn : mAr (miB cn) = As.length) (hM : CTL (kL k) (kS0 k) (kD k) A dT cn rm As s Q) (hr : rmK k cn rm ce sl) (hw : (st.map fun v => v.category).sum ≤ 8)
    (h1 : ∀ v B s', swA A B → Q (.inl v) s' → WS k (pc + 3) lv (v.toList ++ st) (Wd B dT s') (ce + rm.cells) (sl + rm.slots)) (h2 : ∀ E B s', swA A B → Q (.inr E) s' → WX k pc lv st (Wd B dT s') E (ce + rm.cells) (sl + rm.slots)) : WS k pc lv (As.reverse ++ st) (Wd A dT s) ce sl := by
  have hq := (ax_r X h).2.2
  rcases hq with ⟨q, -⟩ | ⟨q, -⟩ | ⟨q, -⟩ | ⟨-, -, q1, q2, q3⟩
  · cases q
  · cases q
  · cases q
  · replace q3 : mtX cx0 yA byA rtA hhA cn (mAr (miB cn)) := q3
    rw [hn] at q3
    obtain ⟨r1, r2, r3⟩ := hr
    exact w_callSX (K := fun o ws => ∃ (B : Nat → Nat) (s' : PS), swA A B ∧ ws = Wd B dT s' ∧ Q o s') (rm := rm) X.1 (by rw [X.2.1.2.1]; exact q1) (cd_with hne q3.1) q3.2.1 q3.2.2 r1 r2 q2 hM rfl hw r3 (ax_d X h) (fun v ws' hk => hk.elim (fun B hk => hk.elim (fun s' hq => by rw [hq.2.1]; exact h1 v B s' hq.1 hq.2.2))) (fun E ws' hk => hk.elim (fun B hk => hk.elim (fun s' hq => by rw [hq.2.1]; exact h2 E B s' hq.1 hq.2.2)))
end CT4
section M87
variable {l : Launch} {s0 : State} {D : va_G} {tys : List (ClassId × FieldType)} {a0 : Array Value} {A : Nat → Nat} {dT : Nat → ClassId} {s : PS}
set_option maxRecDepth 4000 in
theorem lw_hears (G : GX l s0 D tys a0 dT) (I : Bd s) {x y z : Int} (p0 : rng x) (p1 : rng y) (p2 : rng z) : CTL l s0 D A dT 323 (rmN 323) [.ref (A 0), .int (Int32.ofInt x), .int (Int32.ofInt y), .int (Int32.ofInt z), .ref (A 517)] s (fun o t => Bd t ∧ Fm [22, 23] [33, 26, 27, 28, 29, 30, 31, 32, 20, 1460] s t ∧ ∃ e, o = .inl (some (.int (Int32.ofInt e))) ∧ rng e ∧ (True)) := by
  refine ctL_of G (by decide) (Nat.le_of_ble_eq_true rfl) (by decide) rfl (fun k X E ET hRt hEx q => ?_)
  show WS k 0 [(0, .ref (A 0)), (1, .int (Int32.ofInt x)), (2, .int (Int32.ofInt y)), (3, .int (Int32.ofInt z)), (4, .ref (A 517))] [] _ 0 0
  have F : Fm [22, 23] [33, 26, 27, 28, 29, 30, 31, 32, 20, 1460] s s := fm_rf _ _ s
  have hA := swA_rf A
  refine z_aload X (x := A 517) rfl (List.Mem.tail _ (List.Mem.tail _ (List.Mem.tail _ (List.Mem.tail _ (List.Mem.head _))))) (z_const X rfl (z_aload_n X (x := A 0) rfl (List.Mem.head _) (z_load_n X (x := x) rfl (List.Mem.tail _ (List.Mem.head _)) (z_load_n X (x := y) rfl (List.Mem.tail _ (List.Mem.tail _ (List.Mem.head _))) (z_load_n X (x := z) rfl (List.Mem.tail _ (List.Mem.tail _ (List.Mem.tail _ (List.Mem.head _)))) (z_callV X 0 (rm := rmN 146) (As := [.int (Int32.ofInt x), .int (Int32.ofInt y), .int (Int32.ofInt z)]) (st := [.int (Int32.ofInt 0), .ref (A 517)]) rfl rfl (by decide) rfl (by rw [E.1, E.2.1, E.2.2.1]; exact cs_hears G I (by omega) (by omega) (by omega)) ⟨by rw [E.2.2.2]; exact (show (rmN 146).frames + 1 ≤ (rmN 323).frames by decide), by rw [E.2.2.2]; exact (show 8 + (mNL (miB 146) + 11) + (rmN 146).locals ≤ (rmN 323).locals by decide), by rw [E.2.2.2]; exact (show 0 + (rmN 146).cells ≤ (rmN 323).cells by decide), by rw [E.2.2.2]; exact (show 0 + (rmN 146).slots ≤ (rmN 323).slots by decide)⟩ (Nat.le_of_ble_eq_true rfl) (fun vv s1 hq => ?_) (fun ee s1 hq => ?_)))))))
  rotate_left
  · obtain ⟨Is1, Fs1, (⟨e2, hv, hrs1, hps1⟩ | ⟨xx, hv, hps1⟩)⟩ := hq
    · cases hv
    · cases hv
      rcases (show xx = 0 by omega) with gx
      ·
        subst gx
        have Gs1 := fm_tq F Fs1 rfl rfl
        refine (hEx 7 0).2 15 rfl _ _ _ _ _ (fun q1 => ?_)
        show WS k 15 [(0, .ref (A 0)), (1, .int (Int32.ofInt x)), (2, .int (Int32.ofInt y)), (3, .int (Int32.ofInt z)), (4, .ref (A 517))] [.ref q1] (Wd A dT s1) 3 18
        refine z_astore X (lv' := [(5, .ref q1), (0, .ref (A 0)), (1, .int (Int32.ofInt x)), (2, .int (Int32.ofInt y)), (3, .int (Int32.ofInt z)), (4, .ref (A 517))]) rfl (by decide) (fun _ h => h) (z_const X rfl ?_)
        exact w_iret X.1 q hRt rfl (ax_d X (show cdA 323 18 = some (.ireturn, 1, 0, 0, 0) from rfl)) (show 3 ≤ 3 by decide) (show 18 ≤ 18 by decide) ⟨A, _, hA, rfl, Is1, Gs1, 1, rfl, (by decide), trivial⟩
  obtain ⟨Is1, Fs1, (⟨e2, hv, hrs1, hps1⟩ | ⟨xx, hv, hps1⟩)⟩ := hq
  rotate_left
  · cases hv
  cases hv
  have Gs1 := fm_tq F Fs1 rfl rfl
  show WS k 10 [(0, .ref (A 0)), (1, .int (Int32.ofInt x)), (2, .int (Int32.ofInt y)), (3, .int (Int32.ofInt z)), (4, .ref (A 517))] [.int (Int32.ofInt e2), .int (Int32.ofInt 0), .ref (A 517)] (Wd A dT s1) 3 18
  refine w_i2l X.1 (ax_d X (show cdA 323 10 = some (.i2l, 1, 0, 0, 0) from rfl)) (z_anyJ (fun j3 => ?_))
  refine z_last X 517 rfl (c518_ok rfl) rfl (by decide) (show 0 < 1 by decide) (cbig_ok rfl) (wd_gen (fun s4 hs4 => ?_))
  have Is4 : Bd s4 := eqB hs4 (bd_D Is1)
  have Fs4 : Fm [22, 23] [33, 26, 27, 28, 29, 30, 31, 32, 20, 1460] s s4 := by rw [hs4]; exact fm_D Gs1 (show 460 + 1000 ∈ _ by decide)
  refine z_goto X (t := 19) rfl rfl (z_const X rfl ?_)
  exact w_iret X.1 q hRt rfl (ax_d X (show cdA 323 20 = some (.ireturn, 1, 0, 0, 0) from rfl)) (show 3 ≤ 3 by decide) (show 18 ≤ 18 by decide) ⟨A, _, hA, rfl, Is4, Fs4, 0, rfl, (by decide), trivial⟩
set_option maxRecDepth 4000 in
theorem lw_peak (G : GX l s0 D tys a0 dT) (I : Bd s) {x y : Int} (p0 : rng x) (p1 : rng y) : CTL l s0 D A dT 324 (rmN 324) [.ref (A 0), .int (Int32.ofInt x), .int (Int32.ofInt y), .ref (A 517)] s (fun o t => Bd t ∧ Fm [22, 23, 24] [33, 26, 27, 28, 29, 30, 31, 32, 20, 1460] s t ∧ ∃ e, o = .inl (some (.int (Int32.ofInt e))) ∧ rng e ∧ (True)) := by
  refine ctL_of G (by decide) (Nat.le_of_ble_eq_true rfl) (by decide) rfl (fun k X E ET hRt hEx q => ?_)
  show WS k 0 [(0, .ref (A 0)), (1, .int (Int32.ofInt x)), (2, .int (Int32.ofInt y)), (3, .ref (A 517))] [] _ 0 0
  have F : Fm [22, 23, 24] [33, 26, 27, 28, 29, 30, 31, 32, 20, 1460] s s := fm_rf _ _ s
  have hA := swA_rf A
  refine z_aload_n X (x := A 517) rfl (List.Mem.tail _ (List.Mem.tail _ (List.Mem.tail _ (List.Mem.head _)))) (z_const X rfl (z_aload_n X (x := A 0) rfl (List.Mem.head _) (z_load_n X (x := x) rfl (List.Mem.tail _ (List.Mem.head _)) (z_load_n X (x := y) rfl (List.Mem.tail _ (List.Mem.tail _ (List.Mem.head _))) (z_callV X 0 (rm := rmN 147) (As := [.int (Int32.ofInt x), .int (Int32.ofInt y)]) (st := [.int (Int32.ofInt 0), .ref (A 517)]) rfl rfl (by decide) rfl (by rw [E.1, E.2.1, E.2.2.1]; exact cs_peak G I (by omega) (by omega)) ⟨by rw [E.2.2.2]; exact (show (rmN 147).frames + 1 ≤ (rmN 324).frames by decide), by rw [E.2.2.2]; exact (show 8 + (mNL (miB 147) + 11) + (rmN 147).locals ≤ (rmN 324).locals by decide), by rw [E.2.2.2]; exact (show 0 + (rmN 147).cells ≤ (rmN 324).cells by decide), by rw [E.2.2.2]; exact (show 0 + (rmN 147).slots ≤ (rmN 324).slots by decide)⟩ (Nat.le_of_ble_eq_true rfl) (fun vv s1 hq => ?_) (fun ee s1 hq => ?_))))))
  rotate_left
  · obtain ⟨Is1, Fs1, (⟨e2, hv, hrs1, hps1⟩ | ⟨xx, hv, hps1⟩)⟩ := hq
    · cases hv
    · cases hv
      rcases (show xx = 0 by omega) with gx
      ·
        subst gx
        have Gs1 := fm_tq F Fs1 rfl rfl
        refine (hEx 5 0).2 13 rfl _ _ _ _ _ (fun q1 => ?_)
        show WS k 13 [(0, .ref (A 0)), (1, .int (Int32.ofInt x)), (2, .int (Int32.ofInt y)), (3, .ref (A 517))] [.ref q1] (Wd A dT s1) 2 12
        refine z_astore X (lv' := [(4, .ref q1), (0, .ref (A 0)), (1, .int (Int32.ofInt x)), (2, .int (Int32.ofInt y)), (3, .ref (A 517))]) rfl (by decide) (fun _ h => h) (z_const X rfl ?_)
        exact w_iret X.1 q hRt rfl (ax_d X (show cdA 324 16 = some (.ireturn, 1, 0, 0, 0) from rfl)) (show 2 ≤ 2 by decide) (show 12 ≤ 12 by decide) ⟨A, _, hA, rfl, Is1, Gs1, 1, rfl, (by decide), trivial⟩
  obtain ⟨Is1, Fs1, (⟨e2, hv, hrs1, hps1⟩ | ⟨xx, hv, hps1⟩)⟩ := hq
  rotate_left
  · cases hv
  cases hv
  have Gs1 := fm_tq F Fs1 rfl rfl
  show WS k 8 [(0, .ref (A 0)), (1, .int (Int32.ofInt x)), (2, .int (Int32.ofInt y)), (3, .ref (A 517))] [.int (Int32.ofInt e2), .int (Int32.ofInt 0), .ref (A 517)] (Wd A dT s1) 2 12
  refine w_i2l X.1 (ax_d X (show cdA 324 8 = some (.i2l, 1, 0, 0, 0) from rfl)) (z_anyJ (fun j3 => ?_))
  refine z_last X 517 rfl (c518_ok rfl) rfl (by decide) (show 0 < 1 by decide) (cbig_ok rfl) (wd_gen (fun s4 hs4 => ?_))
  have Is4 : Bd s4 := eqB hs4 (bd_D Is1)
  have Fs4 : Fm [22, 23, 24] [33, 26, 27, 28, 29, 30, 31, 32, 20, 1460] s s4 := by rw [hs4]; exact fm_D Gs1 (show 460 + 1000 ∈ _ by decide)
  refine z_goto X (t := 17) rfl rfl (z_const X rfl ?_)
  exact w_iret X.1 q hRt rfl (ax_d X (show cdA 324 18 = some (.ireturn, 1, 0, 0, 0) from rfl)) (show 2 ≤ 2 by decide) (show 12 ≤ 12 by decide) ⟨A, _, hA, rfl, Is4, Fs4, 0, rfl, (by decide), trivial⟩
set_option maxRecDepth 4000 in
theorem lw_whole (G : GX l s0 D tys a0 dT) (I : Bd s) {x : Int} (p0 : rng x) : CTL l s0 D A dT 325 (rmN 325) [.ref (A 0), .int (Int32.ofInt x), .ref (A 517)] s (fun o t => Bd t ∧ Fm [] [1460] s t ∧ ∃ e, o = .inl (some (.int (Int32.ofInt e))) ∧ rng e ∧ (True)) := by
  refine ctL_of G (by decide) (Nat.le_of_ble_eq_true rfl) (by decide) rfl (fun k X E ET hRt hEx q => ?_)
  show WS k 0 [(0, .ref (A 0)), (1, .int (Int32.ofInt x)), (2, .ref (A 517))] [] _ 0 0
  have F : Fm [] [1460] s s := fm_rf _ _ s
  have hA := swA_rf A
  refine z_aload_n X (x := A 517) rfl (List.Mem.tail _ (List.Mem.tail _ (List.Mem.head _))) (z_const X rfl (z_aload_n X (x := A 0) rfl (List.Mem.head _) (z_load_n X (x := x) rfl (List.Mem.tail _ (List.Mem.head _)) (z_callV X 0 (rm := rmN 148) (As := [.int (Int32.ofInt x)]) (st := [.int (Int32.ofInt 0), .ref (A 517)]) rfl rfl (by decide) rfl (by rw [E.1, E.2.1, E.2.2.1]; exact cs_whole G I (by omega)) ⟨by rw [E.2.2.2]; exact (show (rmN 148).frames + 1 ≤ (rmN 325).frames by decide), by rw [E.2.2.2]; exact (show 8 + (mNL (miB 148) + 11) + (rmN 148).locals ≤ (rmN 325).locals by decide), by rw [E.2.2.2]; exact (show 0 + (rmN 148).cells ≤ (rmN 325).cells by decide), by rw [E.2.2.2]; exact (show 0 + (rmN 148).slots ≤ (rmN 325).slots by decide)⟩ (Nat.le_of_ble_eq_true rfl) (fun vv s1 hq => ?_) (fun ee s1 hq => ?_)))))
  rotate_left
  · obtain ⟨Is1, Fs1, (⟨e2, hv, hrs1, hps1⟩ | ⟨xx, hv, hps1⟩)⟩ := hq
    · cases hv
    · cases hv
      rcases (show xx = 0 by omega) with gx
      ·
        subst gx
        have Gs1 := fm_tq F Fs1 rfl rfl
        refine (hEx 4 0).2 19 rfl _ _ _ _ _ (fun q1 => ?_)
        show WS k 19 [(0, .ref (A 0)), (1, .int (Int32.ofInt x)), (2, .ref (A 517))] [.ref q1] (Wd A dT s1) 1 6
        refine z_astore_n X (lv' := [(3, .ref q1), (0, .ref (A 0)), (1, .int (Int32.ofInt x)), (2, .ref (A 517))]) rfl (by decide) (fun _ h => h) (z_const X rfl ?_)
        exact w_iret X.1 q hRt rfl (ax_d X (show cdA 325 21 = some (.ireturn, 1, 0, 0, 0) from rfl)) (show 1 ≤ 1 by decide) (show 6 ≤ 6 by decide) ⟨A, _, hA, rfl, Is1, Gs1, 1, rfl, (by decide), trivial⟩
  obtain ⟨Is1, Fs1, (⟨e2, hv, hrs1, hps1⟩ | ⟨xx, hv, hps1⟩)⟩ := hq
  rotate_left
  · cases hv
  cases hv
  have Gs1 := fm_tq F Fs1 rfl rfl
  show WS k 7 [(0, .ref (A 0)), (1, .int (Int32.ofInt x)), (2, .ref (A 517))] [.int (Int32.ofInt e2), .int (Int32.ofInt 0), .ref (A 517)] (Wd A dT s1) 1 6
  have N3 : ∀ j4 : Int64, WS k 15 [(0, .ref (A 0)), (1, .int (Int32.ofInt x)), (2, .ref (A 517))] [.long j4, .int (Int32.ofInt 0), .ref (A 517)] (Wd A dT s1) 1 6 := by
    intro j4
    refine z_last X 517 rfl (c518_ok rfl) rfl (by decide) (show 0 < 1 by decide) (cbig_ok rfl) (wd_gen (fun s5 hs5 => ?_))
    have Is5 : Bd s5 := eqB hs5 (bd_D Is1)
    have Fs5 : Fm [] [1460] s s5 := by rw [hs5]; exact fm_D Gs1 (show 460 + 1000 ∈ _ by decide)
    refine z_goto X (t := 22) rfl rfl (z_const X rfl ?_)
    exact w_iret X.1 q hRt rfl (ax_d X (show cdA 325 23 = some (.ireturn, 1, 0, 0, 0) from rfl)) (show 1 ≤ 1 by decide) (show 6 ≤ 6 by decide) ⟨A, _, hA, rfl, Is5, Fs5, 0, rfl, (by decide), trivial⟩
  refine z_if_eq X (t := 14) rfl rfl ⟨by first | (clear hps1; omega) | omega, by first | (clear hps1; omega) | omega⟩ (fun g6 => ?_) (fun g6 => ?_)
  ·
    refine w_lconst X.1 (ax_d X (show cdA 325 14 = some (.lconst 0, 1, 0, 0, 0) from rfl)) rfl (z_anyJ (fun j7 => ?_))
    exact N3 _
  ·
    refine w_lconst X.1 (ax_d X (show cdA 325 10 = some (.lconst 1, 1, 0, 0, 0) from rfl)) rfl (z_anyJ (fun j8 => ?_))
    exact z_goto X (t := 15) rfl rfl (N3 _)
set_option maxRecDepth 4000 in
theorem lw_neck (G : GX l s0 D tys a0 dT) (I : Bd s) {x y : Int} (p0 : rng x) (p1 : rng y) : CTL l s0 D A dT 326 (rmN 326) [.ref (A 0), .int (Int32.ofInt x), .int (Int32.ofInt y), .ref (A 517)] s (fun o t => Bd t ∧ Fm [] [1460] s t ∧ ∃ e, o = .inl (some (.int (Int32.ofInt e))) ∧ rng e ∧ (True)) := by
  refine ctL_of G (by decide) (Nat.le_of_ble_eq_true rfl) (by decide) rfl (fun k X E ET hRt hEx q => ?_)
  show WS k 0 [(0, .ref (A 0)), (1, .int (Int32.ofInt x)), (2, .int (Int32.ofInt y)), (3, .ref (A 517))] [] _ 0 0
  have F : Fm [] [1460] s s := fm_rf _ _ s
  have hA := swA_rf A
  refine z_aload_n X (x := A 517) rfl (List.Mem.tail _ (List.Mem.tail _ (List.Mem.tail _ (List.Mem.head _)))) (z_const X rfl (z_aload_n X (x := A 0) rfl (List.Mem.head _) (z_load_n X (x := x) rfl (List.Mem.tail _ (List.Mem.head _)) (z_load_n X (x := y) rfl (List.Mem.tail _ (List.Mem.tail _ (List.Mem.head _))) (z_callV X 0 (rm := rmN 149) (As := [.int (Int32.ofInt x), .int (Int32.ofInt y)]) (st := [.int (Int32.ofInt 0), .ref (A 517)]) rfl rfl (by decide) rfl (by rw [E.1, E.2.1, E.2.2.1]; exact cs_neck G I (by omega) (by omega)) ⟨by rw [E.2.2.2]; exact (show (rmN 149).frames + 1 ≤ (rmN 326).frames by decide), by rw [E.2.2.2]; exact (show 8 + (mNL (miB 149) + 11) + (rmN 149).locals ≤ (rmN 326).locals by decide), by rw [E.2.2.2]; exact (show 0 + (rmN 149).cells ≤ (rmN 326).cells by decide), by rw [E.2.2.2]; exact (show 0 + (rmN 149).slots ≤ (rmN 326).slots by decide)⟩ (Nat.le_of_ble_eq_true rfl) (fun vv s1 hq => ?_) (fun ee s1 hq => ?_))))))
  rotate_left
  · obtain ⟨Is1, Fs1, (⟨e2, hv, hrs1, hps1⟩ | ⟨xx, hv, hps1⟩)⟩ := hq
    · cases hv
    · cases hv
      rcases (show xx = 0 by omega) with gx
      ·
        subst gx
        have Gs1 := fm_tq F Fs1 rfl rfl
        refine (hEx 5 0).2 13 rfl _ _ _ _ _ (fun q1 => ?_)
        show WS k 13 [(0, .ref (A 0)), (1, .int (Int32.ofInt x)), (2, .int (Int32.ofInt y)), (3, .ref (A 517))] [.ref q1] (Wd A dT s1) 1 6
        refine z_astore X (lv' := [(4, .ref q1), (0, .ref (A 0)), (1, .int (Int32.ofInt x)), (2, .int (Int32.ofInt y)), (3, .ref (A 517))]) rfl (by decide) (fun _ h => h) (z_const X rfl ?_)
        exact w_iret X.1 q hRt rfl (ax_d X (show cdA 326 16 = some (.ireturn, 1, 0, 0, 0) from rfl)) (show 1 ≤ 1 by decide) (show 6 ≤ 6 by decide) ⟨A, _, hA, rfl, Is1, Gs1, 1, rfl, (by decide), trivial⟩
  obtain ⟨Is1, Fs1, (⟨e2, hv, hrs1, hps1⟩ | ⟨xx, hv, hps1⟩)⟩ := hq
  rotate_left
  · cases hv
  cases hv
  have Gs1 := fm_tq F Fs1 rfl rfl
  show WS k 8 [(0, .ref (A 0)), (1, .int (Int32.ofInt x)), (2, .int (Int32.ofInt y)), (3, .ref (A 517))] [.int (Int32.ofInt e2), .int (Int32.ofInt 0), .ref (A 517)] (Wd A dT s1) 1 6
  refine w_i2l X.1 (ax_d X (show cdA 326 8 = some (.i2l, 1, 0, 0, 0) from rfl)) (z_anyJ (fun j3 => ?_))
  refine z_last X 517 rfl (c518_ok rfl) rfl (by decide) (show 0 < 1 by decide) (cbig_ok rfl) (wd_gen (fun s4 hs4 => ?_))
  have Is4 : Bd s4 := eqB hs4 (bd_D Is1)
  have Fs4 : Fm [] [1460] s s4 := by rw [hs4]; exact fm_D Gs1 (show 460 + 1000 ∈ _ by decide)
  refine z_goto X (t := 17) rfl rfl (z_const X rfl ?_)
  exact w_iret X.1 q hRt rfl (ax_d X (show cdA 326 18 = some (.ireturn, 1, 0, 0, 0) from rfl)) (show 1 ≤ 1 by decide) (show 6 ≤ 6 by decide) ⟨A, _, hA, rfl, Is4, Fs4, 0, rfl, (by decide), trivial⟩
set_option maxRecDepth 4000 in
theorem lw_shorts (G : GX l s0 D tys a0 dT) (I : Bd s) {x : Int} (p0 : rng x) : CTL l s0 D A dT 327 (rmN 327) [.ref (A 0), .int (Int32.ofInt x), .ref (A 517)] s (fun o t => Bd t ∧ Fm [] [1460] s t ∧ ∃ e, o = .inl (some (.int (Int32.ofInt e))) ∧ rng e ∧ (True)) := by
  refine ctL_of G (by decide) (Nat.le_of_ble_eq_true rfl) (by decide) rfl (fun k X E ET hRt hEx q => ?_)
  show WS k 0 [(0, .ref (A 0)), (1, .int (Int32.ofInt x)), (2, .ref (A 517))] [] _ 0 0
  have F : Fm [] [1460] s s := fm_rf _ _ s
  have hA := swA_rf A
  refine z_aload_n X (x := A 517) rfl (List.Mem.tail _ (List.Mem.tail _ (List.Mem.head _))) (z_const X rfl (z_aload_n X (x := A 0) rfl (List.Mem.head _) (z_load_n X (x := x) rfl (List.Mem.tail _ (List.Mem.head _)) (z_callV X 0 (rm := rmN 150) (As := [.int (Int32.ofInt x)]) (st := [.int (Int32.ofInt 0), .ref (A 517)]) rfl rfl (by decide) rfl (by rw [E.1, E.2.1, E.2.2.1]; exact cs_shorts G I (by omega)) ⟨by rw [E.2.2.2]; exact (show (rmN 150).frames + 1 ≤ (rmN 327).frames by decide), by rw [E.2.2.2]; exact (show 8 + (mNL (miB 150) + 11) + (rmN 150).locals ≤ (rmN 327).locals by decide), by rw [E.2.2.2]; exact (show 0 + (rmN 150).cells ≤ (rmN 327).cells by decide), by rw [E.2.2.2]; exact (show 0 + (rmN 150).slots ≤ (rmN 327).slots by decide)⟩ (Nat.le_of_ble_eq_true rfl) (fun vv s1 hq => ?_) (fun ee s1 hq => ?_)))))
  rotate_left
  · obtain ⟨Is1, Fs1, (⟨e2, hv, hrs1, hps1⟩ | ⟨xx, hv, hps1⟩)⟩ := hq
    · cases hv
    · cases hv
      rcases (show xx = 0 by omega) with gx
      ·
        subst gx
        have Gs1 := fm_tq F Fs1 rfl rfl
        refine (hEx 4 0).2 12 rfl _ _ _ _ _ (fun q1 => ?_)
        show WS k 12 [(0, .ref (A 0)), (1, .int (Int32.ofInt x)), (2, .ref (A 517))] [.ref q1] (Wd A dT s1) 1 6
        refine z_astore_n X (lv' := [(3, .ref q1), (0, .ref (A 0)), (1, .int (Int32.ofInt x)), (2, .ref (A 517))]) rfl (by decide) (fun _ h => h) (z_const X rfl ?_)
        exact w_iret X.1 q hRt rfl (ax_d X (show cdA 327 14 = some (.ireturn, 1, 0, 0, 0) from rfl)) (show 1 ≤ 1 by decide) (show 6 ≤ 6 by decide) ⟨A, _, hA, rfl, Is1, Gs1, 1, rfl, (by decide), trivial⟩
  obtain ⟨Is1, Fs1, (⟨e2, hv, hrs1, hps1⟩ | ⟨xx, hv, hps1⟩)⟩ := hq
  rotate_left
  · cases hv
  cases hv
  have Gs1 := fm_tq F Fs1 rfl rfl
  show WS k 7 [(0, .ref (A 0)), (1, .int (Int32.ofInt x)), (2, .ref (A 517))] [.int (Int32.ofInt e2), .int (Int32.ofInt 0), .ref (A 517)] (Wd A dT s1) 1 6
  refine w_i2l X.1 (ax_d X (show cdA 327 7 = some (.i2l, 1, 0, 0, 0) from rfl)) (z_anyJ (fun j3 => ?_))
  refine z_last X 517 rfl (c518_ok rfl) rfl (by decide) (show 0 < 1 by decide) (cbig_ok rfl) (wd_gen (fun s4 hs4 => ?_))
  have Is4 : Bd s4 := eqB hs4 (bd_D Is1)
  have Fs4 : Fm [] [1460] s s4 := by rw [hs4]; exact fm_D Gs1 (show 460 + 1000 ∈ _ by decide)
  refine z_goto X (t := 15) rfl rfl (z_const X rfl ?_)
  exact w_iret X.1 q hRt rfl (ax_d X (show cdA 327 16 = some (.ireturn, 1, 0, 0, 0) from rfl)) (show 1 ≤ 1 by decide) (show 6 ≤ 6 by decide) ⟨A, _, hA, rfl, Is4, Fs4, 0, rfl, (by decide), trivial⟩
set_option maxRecDepth 4000 in
theorem lw_length (G : GX l s0 D tys a0 dT) (I : Bd s) {x : Int} (p0 : rng x) : CTL l s0 D A dT 328 (rmN 328) [.ref (A 0), .int (Int32.ofInt x), .ref (A 517)] s (fun o t => Bd t ∧ Fm [21] [1460] s t ∧ ∃ e, o = .inl (some (.int (Int32.ofInt e))) ∧ rng e ∧ (True)) := by
  refine ctL_of G (by decide) (Nat.le_of_ble_eq_true rfl) (by decide) rfl (fun k X E ET hRt hEx q => ?_)
  show WS k 0 [(0, .ref (A 0)), (1, .int (Int32.ofInt x)), (2, .ref (A 517))] [] _ 0 0
  have F : Fm [21] [1460] s s := fm_rf _ _ s
  have hA := swA_rf A
  refine z_aload_n X (x := A 517) rfl (List.Mem.tail _ (List.Mem.tail _ (List.Mem.head _))) (z_const X rfl (z_aload_n X (x := A 0) rfl (List.Mem.head _) (z_load_n X (x := x) rfl (List.Mem.tail _ (List.Mem.head _)) (z_callV X 0 (rm := rmN 151) (As := [.int (Int32.ofInt x)]) (st := [.int (Int32.ofInt 0), .ref (A 517)]) rfl rfl (by decide) rfl (by rw [E.1, E.2.1, E.2.2.1]; exact cs_length G I (by omega)) ⟨by rw [E.2.2.2]; exact (show (rmN 151).frames + 1 ≤ (rmN 328).frames by decide), by rw [E.2.2.2]; exact (show 8 + (mNL (miB 151) + 11) + (rmN 151).locals ≤ (rmN 328).locals by decide), by rw [E.2.2.2]; exact (show 0 + (rmN 151).cells ≤ (rmN 328).cells by decide), by rw [E.2.2.2]; exact (show 0 + (rmN 151).slots ≤ (rmN 328).slots by decide)⟩ (Nat.le_of_ble_eq_true rfl) (fun vv s1 hq => ?_) (fun ee s1 hq => ?_)))))
  rotate_left
  · obtain ⟨Is1, Fs1, (⟨e2, hv, hrs1, hps1⟩ | ⟨xx, hv, hps1⟩)⟩ := hq
    · cases hv
    · cases hv
      rcases (show xx = 0 by omega) with gx
      ·
        subst gx
        have Gs1 := fm_tq F Fs1 rfl rfl
        refine (hEx 4 0).2 12 rfl _ _ _ _ _ (fun q1 => ?_)
        show WS k 12 [(0, .ref (A 0)), (1, .int (Int32.ofInt x)), (2, .ref (A 517))] [.ref q1] (Wd A dT s1) 1 6
        refine z_astore_n X (lv' := [(3, .ref q1), (0, .ref (A 0)), (1, .int (Int32.ofInt x)), (2, .ref (A 517))]) rfl (by decide) (fun _ h => h) (z_const X rfl ?_)
        exact w_iret X.1 q hRt rfl (ax_d X (show cdA 328 14 = some (.ireturn, 1, 0, 0, 0) from rfl)) (show 1 ≤ 1 by decide) (show 6 ≤ 6 by decide) ⟨A, _, hA, rfl, Is1, Gs1, 1, rfl, (by decide), trivial⟩
  obtain ⟨Is1, Fs1, (⟨e2, hv, hrs1, hps1⟩ | ⟨xx, hv, hps1⟩)⟩ := hq
  rotate_left
  · cases hv
  cases hv
  have Gs1 := fm_tq F Fs1 rfl rfl
  show WS k 7 [(0, .ref (A 0)), (1, .int (Int32.ofInt x)), (2, .ref (A 517))] [.int (Int32.ofInt e2), .int (Int32.ofInt 0), .ref (A 517)] (Wd A dT s1) 1 6
  refine w_i2l X.1 (ax_d X (show cdA 328 7 = some (.i2l, 1, 0, 0, 0) from rfl)) (z_anyJ (fun j3 => ?_))
  refine z_last X 517 rfl (c518_ok rfl) rfl (by decide) (show 0 < 1 by decide) (cbig_ok rfl) (wd_gen (fun s4 hs4 => ?_))
  have Is4 : Bd s4 := eqB hs4 (bd_D Is1)
  have Fs4 : Fm [21] [1460] s s4 := by rw [hs4]; exact fm_D Gs1 (show 460 + 1000 ∈ _ by decide)
  refine z_goto X (t := 15) rfl rfl (z_const X rfl ?_)
  exact w_iret X.1 q hRt rfl (ax_d X (show cdA 328 16 = some (.ireturn, 1, 0, 0, 0) from rfl)) (show 1 ≤ 1 by decide) (show 6 ≤ 6 by decide) ⟨A, _, hA, rfl, Is4, Fs4, 0, rfl, (by decide), trivial⟩
set_option maxRecDepth 4000 in
theorem lw_edge (G : GX l s0 D tys a0 dT) (I : Bd s) {x : Int} (p0 : rng x) : CTL l s0 D A dT 329 (rmN 329) [.ref (A 0), .int (Int32.ofInt x), .ref (A 517)] s (fun o t => Bd t ∧ Fm [] [1460] s t ∧ ∃ e, o = .inl (some (.int (Int32.ofInt e))) ∧ rng e ∧ (True)) := by
  refine ctL_of G (by decide) (Nat.le_of_ble_eq_true rfl) (by decide) rfl (fun k X E ET hRt hEx q => ?_)
  show WS k 0 [(0, .ref (A 0)), (1, .int (Int32.ofInt x)), (2, .ref (A 517))] [] _ 0 0
  have F : Fm [] [1460] s s := fm_rf _ _ s
  have hA := swA_rf A
  refine z_aload_n X (x := A 517) rfl (List.Mem.tail _ (List.Mem.tail _ (List.Mem.head _))) (z_const X rfl (z_aload_n X (x := A 0) rfl (List.Mem.head _) (z_load_n X (x := x) rfl (List.Mem.tail _ (List.Mem.head _)) (z_callV X 0 (rm := rmN 152) (As := [.int (Int32.ofInt x)]) (st := [.int (Int32.ofInt 0), .ref (A 517)]) rfl rfl (by decide) rfl (by rw [E.1, E.2.1, E.2.2.1]; exact cs_edge G I (by omega)) ⟨by rw [E.2.2.2]; exact (show (rmN 152).frames + 1 ≤ (rmN 329).frames by decide), by rw [E.2.2.2]; exact (show 8 + (mNL (miB 152) + 11) + (rmN 152).locals ≤ (rmN 329).locals by decide), by rw [E.2.2.2]; exact (show 0 + (rmN 152).cells ≤ (rmN 329).cells by decide), by rw [E.2.2.2]; exact (show 0 + (rmN 152).slots ≤ (rmN 329).slots by decide)⟩ (Nat.le_of_ble_eq_true rfl) (fun vv s1 hq => ?_) (fun ee s1 hq => ?_)))))
  rotate_left
  · obtain ⟨Is1, Fs1, (⟨e2, hv, hrs1, hps1⟩ | ⟨xx, hv, hps1⟩)⟩ := hq
    · cases hv
    · cases hv
      rcases (show xx = 0 by omega) with gx
      ·
        subst gx
        have Gs1 := fm_tq F Fs1 rfl rfl
        refine (hEx 4 0).2 12 rfl _ _ _ _ _ (fun q1 => ?_)
        show WS k 12 [(0, .ref (A 0)), (1, .int (Int32.ofInt x)), (2, .ref (A 517))] [.ref q1] (Wd A dT s1) 1 6
        refine z_astore_n X (lv' := [(3, .ref q1), (0, .ref (A 0)), (1, .int (Int32.ofInt x)), (2, .ref (A 517))]) rfl (by decide) (fun _ h => h) (z_const X rfl ?_)
        exact w_iret X.1 q hRt rfl (ax_d X (show cdA 329 14 = some (.ireturn, 1, 0, 0, 0) from rfl)) (show 1 ≤ 1 by decide) (show 6 ≤ 6 by decide) ⟨A, _, hA, rfl, Is1, Gs1, 1, rfl, (by decide), trivial⟩
  obtain ⟨Is1, Fs1, (⟨e2, hv, hrs1, hps1⟩ | ⟨xx, hv, hps1⟩)⟩ := hq
  rotate_left
  · cases hv
  cases hv
  have Gs1 := fm_tq F Fs1 rfl rfl
  show WS k 7 [(0, .ref (A 0)), (1, .int (Int32.ofInt x)), (2, .ref (A 517))] [.int (Int32.ofInt e2), .int (Int32.ofInt 0), .ref (A 517)] (Wd A dT s1) 1 6
  refine w_i2l X.1 (ax_d X (show cdA 329 7 = some (.i2l, 1, 0, 0, 0) from rfl)) (z_anyJ (fun j3 => ?_))
  refine z_last X 517 rfl (c518_ok rfl) rfl (by decide) (show 0 < 1 by decide) (cbig_ok rfl) (wd_gen (fun s4 hs4 => ?_))
  have Is4 : Bd s4 := eqB hs4 (bd_D Is1)
  have Fs4 : Fm [] [1460] s s4 := by rw [hs4]; exact fm_D Gs1 (show 460 + 1000 ∈ _ by decide)
  refine z_goto X (t := 15) rfl rfl (z_const X rfl ?_)
  exact w_iret X.1 q hRt rfl (ax_d X (show cdA 329 16 = some (.ireturn, 1, 0, 0, 0) from rfl)) (show 1 ≤ 1 by decide) (show 6 ≤ 6 by decide) ⟨A, _, hA, rfl, Is4, Fs4, 0, rfl, (by decide), trivial⟩
set_option maxRecDepth 4000 in
theorem lw_parted (G : GX l s0 D tys a0 dT) (I : Bd s) {x y : Int} (p0 : rng x) (p1 : rng y) : CTL l s0 D A dT 333 (rmN 333) [.ref (A 0), .int (Int32.ofInt x), .int (Int32.ofInt y), .ref (A 517)] s (fun o t => Bd t ∧ Fm [22, 23, 24, 31, 29, 30] [33, 26, 27, 28, 29, 30, 31, 32, 20, 40, 41, 42, 45, 43, 44, 1460] s t ∧ ∃ e, o = .inl (some (.int (Int32.ofInt e))) ∧ rng e ∧ (True)) := by
  refine ctL_of G (by decide) (Nat.le_of_ble_eq_true rfl) (by decide) rfl (fun k X E ET hRt hEx q => ?_)
  show WS k 0 [(0, .ref (A 0)), (1, .int (Int32.ofInt x)), (2, .int (Int32.ofInt y)), (3, .ref (A 517))] [] _ 0 0
  have F : Fm [22, 23, 24, 31, 29, 30] [33, 26, 27, 28, 29, 30, 31, 32, 20, 40, 41, 42, 45, 43, 44, 1460] s s := fm_rf _ _ s
  have hA := swA_rf A
  refine z_aload_n X (x := A 517) rfl (List.Mem.tail _ (List.Mem.tail _ (List.Mem.tail _ (List.Mem.head _)))) (z_const X rfl (z_aload_n X (x := A 0) rfl (List.Mem.head _) (z_load_n X (x := x) rfl (List.Mem.tail _ (List.Mem.head _)) (z_load_n X (x := y) rfl (List.Mem.tail _ (List.Mem.tail _ (List.Mem.head _))) (z_callV X 0 (rm := rmN 158) (As := [.int (Int32.ofInt x), .int (Int32.ofInt y)]) (st := [.int (Int32.ofInt 0), .ref (A 517)]) rfl rfl (by decide) rfl (by rw [E.1, E.2.1, E.2.2.1]; exact cs_parted G I (by omega) (by omega)) ⟨by rw [E.2.2.2]; exact (show (rmN 158).frames + 1 ≤ (rmN 333).frames by decide), by rw [E.2.2.2]; exact (show 8 + (mNL (miB 158) + 11) + (rmN 158).locals ≤ (rmN 333).locals by decide), by rw [E.2.2.2]; exact (show 0 + (rmN 158).cells ≤ (rmN 333).cells by decide), by rw [E.2.2.2]; exact (show 0 + (rmN 158).slots ≤ (rmN 333).slots by decide)⟩ (Nat.le_of_ble_eq_true rfl) (fun vv s1 hq => ?_) (fun ee s1 hq => ?_))))))
  rotate_left
  · obtain ⟨Is1, Fs1, (⟨e2, hv, hrs1, hps1⟩ | ⟨xx, hv, hps1⟩)⟩ := hq
    · cases hv
    · cases hv
      rcases (show xx = 0 by omega) with gx
      ·
        subst gx
        have Gs1 := fm_tq F Fs1 rfl rfl
        refine (hEx 5 0).2 13 rfl _ _ _ _ _ (fun q1 => ?_)
        show WS k 13 [(0, .ref (A 0)), (1, .int (Int32.ofInt x)), (2, .int (Int32.ofInt y)), (3, .ref (A 517))] [.ref q1] (Wd A dT s1) 2 12
        refine z_astore X (lv' := [(4, .ref q1), (0, .ref (A 0)), (1, .int (Int32.ofInt x)), (2, .int (Int32.ofInt y)), (3, .ref (A 517))]) rfl (by decide) (fun _ h => h) (z_const X rfl ?_)
        exact w_iret X.1 q hRt rfl (ax_d X (show cdA 333 16 = some (.ireturn, 1, 0, 0, 0) from rfl)) (show 2 ≤ 2 by decide) (show 12 ≤ 12 by decide) ⟨A, _, hA, rfl, Is1, Gs1, 1, rfl, (by decide), trivial⟩
  obtain ⟨Is1, Fs1, (⟨e2, hv, hrs1, hps1⟩ | ⟨xx, hv, hps1⟩)⟩ := hq
  rotate_left
  · cases hv
  cases hv
  have Gs1 := fm_tq F Fs1 rfl rfl
  show WS k 8 [(0, .ref (A 0)), (1, .int (Int32.ofInt x)), (2, .int (Int32.ofInt y)), (3, .ref (A 517))] [.int (Int32.ofInt e2), .int (Int32.ofInt 0), .ref (A 517)] (Wd A dT s1) 2 12
  refine w_i2l X.1 (ax_d X (show cdA 333 8 = some (.i2l, 1, 0, 0, 0) from rfl)) (z_anyJ (fun j3 => ?_))
  refine z_last X 517 rfl (c518_ok rfl) rfl (by decide) (show 0 < 1 by decide) (cbig_ok rfl) (wd_gen (fun s4 hs4 => ?_))
  have Is4 : Bd s4 := eqB hs4 (bd_D Is1)
  have Fs4 : Fm [22, 23, 24, 31, 29, 30] [33, 26, 27, 28, 29, 30, 31, 32, 20, 40, 41, 42, 45, 43, 44, 1460] s s4 := by rw [hs4]; exact fm_D Gs1 (show 460 + 1000 ∈ _ by decide)
  refine z_goto X (t := 17) rfl rfl (z_const X rfl ?_)
  exact w_iret X.1 q hRt rfl (ax_d X (show cdA 333 18 = some (.ireturn, 1, 0, 0, 0) from rfl)) (show 2 ≤ 2 by decide) (show 12 ≤ 12 by decide) ⟨A, _, hA, rfl, Is4, Fs4, 0, rfl, (by decide), trivial⟩
set_option maxRecDepth 4000 in
theorem lw_pairs (G : GX l s0 D tys a0 dT) (I : Bd s) {x y : Int} (p0 : rng x) (p1 : rng y) (p2 : iI s 12 ≤ 8) : CTL l s0 D A dT 335 (rmN 335) [.ref (A 0), .int (Int32.ofInt x), .int (Int32.ofInt y), .ref (A 517)] s (fun o t => Bd t ∧ Fm [22, 23, 24] [33, 26, 27, 28, 29, 30, 31, 32, 20, 48, 47, 1460] s t ∧ ∃ e, o = .inl (some (.int (Int32.ofInt e))) ∧ rng e ∧ (True)) := by
  refine ctL_of G (by decide) (Nat.le_of_ble_eq_true rfl) (by decide) rfl (fun k X E ET hRt hEx q => ?_)
  show WS k 0 [(0, .ref (A 0)), (1, .int (Int32.ofInt x)), (2, .int (Int32.ofInt y)), (3, .ref (A 517))] [] _ 0 0
  have F : Fm [22, 23, 24] [33, 26, 27, 28, 29, 30, 31, 32, 20, 48, 47, 1460] s s := fm_rf _ _ s
  have hA := swA_rf A
  refine z_aload_n X (x := A 517) rfl (List.Mem.tail _ (List.Mem.tail _ (List.Mem.tail _ (List.Mem.head _)))) (z_const X rfl (z_aload_n X (x := A 0) rfl (List.Mem.head _) (z_load_n X (x := x) rfl (List.Mem.tail _ (List.Mem.head _)) (z_load_n X (x := y) rfl (List.Mem.tail _ (List.Mem.tail _ (List.Mem.head _))) (z_callV X 0 (rm := rmN 161) (As := [.int (Int32.ofInt x), .int (Int32.ofInt y)]) (st := [.int (Int32.ofInt 0), .ref (A 517)]) rfl rfl (by decide) rfl (by rw [E.1, E.2.1, E.2.2.1]; exact cs_pairs G I (by omega) (by omega) (by omega)) ⟨by rw [E.2.2.2]; exact (show (rmN 161).frames + 1 ≤ (rmN 335).frames by decide), by rw [E.2.2.2]; exact (show 8 + (mNL (miB 161) + 11) + (rmN 161).locals ≤ (rmN 335).locals by decide), by rw [E.2.2.2]; exact (show 0 + (rmN 161).cells ≤ (rmN 335).cells by decide), by rw [E.2.2.2]; exact (show 0 + (rmN 161).slots ≤ (rmN 335).slots by decide)⟩ (Nat.le_of_ble_eq_true rfl) (fun vv s1 hq => ?_) (fun ee s1 hq => ?_))))))
  rotate_left
  · obtain ⟨Is1, Fs1, (⟨e2, hv, hrs1, hps1⟩ | ⟨xx, hv, hps1⟩)⟩ := hq
    · cases hv
    · cases hv
      rcases (show xx = 0 ∨ xx = 1 by omega) with gx | gx
      ·
        subst gx
        have Gs1 := fm_tq F Fs1 rfl rfl
        refine (hEx 5 0).2 17 rfl _ _ _ _ _ (fun q1 => ?_)
        show WS k 17 [(0, .ref (A 0)), (1, .int (Int32.ofInt x)), (2, .int (Int32.ofInt y)), (3, .ref (A 517))] [.ref q1] (Wd A dT s1) 2 12
        refine z_astore X (lv' := [(4, .ref q1), (0, .ref (A 0)), (1, .int (Int32.ofInt x)), (2, .int (Int32.ofInt y)), (3, .ref (A 517))]) rfl (by decide) (fun _ h => h) (z_const X rfl ?_)
        exact w_iret X.1 q hRt rfl (ax_d X (show cdA 335 20 = some (.ireturn, 1, 0, 0, 0) from rfl)) (show 2 ≤ 2 by decide) (show 12 ≤ 12 by decide) ⟨A, _, hA, rfl, Is1, Gs1, 2, rfl, (by decide), trivial⟩
      ·
        subst gx
        have Gs1 := fm_tq F Fs1 rfl rfl
        refine (hEx 5 1).2 13 rfl _ _ _ _ _ (fun q1 => ?_)
        show WS k 13 [(0, .ref (A 0)), (1, .int (Int32.ofInt x)), (2, .int (Int32.ofInt y)), (3, .ref (A 517))] [.ref q1] (Wd A dT s1) 2 12
        refine z_astore X (lv' := [(4, .ref q1), (0, .ref (A 0)), (1, .int (Int32.ofInt x)), (2, .int (Int32.ofInt y)), (3, .ref (A 517))]) rfl (by decide) (fun _ h => h) (z_const X rfl ?_)
        exact w_iret X.1 q hRt rfl (ax_d X (show cdA 335 16 = some (.ireturn, 1, 0, 0, 0) from rfl)) (show 2 ≤ 2 by decide) (show 12 ≤ 12 by decide) ⟨A, _, hA, rfl, Is1, Gs1, 1, rfl, (by decide), trivial⟩
  obtain ⟨Is1, Fs1, (⟨e2, hv, hrs1, hps1⟩ | ⟨xx, hv, hps1⟩)⟩ := hq
  rotate_left
  · cases hv
  cases hv
  have Gs1 := fm_tq F Fs1 rfl rfl
  show WS k 8 [(0, .ref (A 0)), (1, .int (Int32.ofInt x)), (2, .int (Int32.ofInt y)), (3, .ref (A 517))] [.int (Int32.ofInt e2), .int (Int32.ofInt 0), .ref (A 517)] (Wd A dT s1) 2 12
  refine w_i2l X.1 (ax_d X (show cdA 335 8 = some (.i2l, 1, 0, 0, 0) from rfl)) (z_anyJ (fun j3 => ?_))
  refine z_last X 517 rfl (c518_ok rfl) rfl (by decide) (show 0 < 1 by decide) (cbig_ok rfl) (wd_gen (fun s4 hs4 => ?_))
  have Is4 : Bd s4 := eqB hs4 (bd_D Is1)
  have Fs4 : Fm [22, 23, 24] [33, 26, 27, 28, 29, 30, 31, 32, 20, 48, 47, 1460] s s4 := by rw [hs4]; exact fm_D Gs1 (show 460 + 1000 ∈ _ by decide)
  refine z_goto X (t := 21) rfl rfl (z_const X rfl ?_)
  exact w_iret X.1 q hRt rfl (ax_d X (show cdA 335 22 = some (.ireturn, 1, 0, 0, 0) from rfl)) (show 2 ≤ 2 by decide) (show 12 ≤ 12 by decide) ⟨A, _, hA, rfl, Is4, Fs4, 0, rfl, (by decide), trivial⟩
set_option maxRecDepth 4000 in
theorem lw_busy (G : GX l s0 D tys a0 dT) (I : Bd s) {x : Int} (p0 : rng x) : CTL l s0 D A dT 336 (rmN 336) [.ref (A 0), .int (Int32.ofInt x), .ref (A 517)] s (fun o t => Bd t ∧ Fm [33] [1460] s t ∧ ∃ e, o = .inl (some (.int (Int32.ofInt e))) ∧ rng e ∧ (True)) := by
  refine ctL_of G (by decide) (Nat.le_of_ble_eq_true rfl) (by decide) rfl (fun k X E ET hRt hEx q => ?_)
  show WS k 0 [(0, .ref (A 0)), (1, .int (Int32.ofInt x)), (2, .ref (A 517))] [] _ 0 0
  have F : Fm [33] [1460] s s := fm_rf _ _ s
  have hA := swA_rf A
  refine z_aload_n X (x := A 517) rfl (List.Mem.tail _ (List.Mem.tail _ (List.Mem.head _))) (z_const X rfl (z_aload_n X (x := A 0) rfl (List.Mem.head _) (z_load_n X (x := x) rfl (List.Mem.tail _ (List.Mem.head _)) (z_callV X 0 (rm := rmN 162) (As := [.int (Int32.ofInt x)]) (st := [.int (Int32.ofInt 0), .ref (A 517)]) rfl rfl (by decide) rfl (by rw [E.1, E.2.1, E.2.2.1]; exact cs_busy G I (by omega)) ⟨by rw [E.2.2.2]; exact (show (rmN 162).frames + 1 ≤ (rmN 336).frames by decide), by rw [E.2.2.2]; exact (show 8 + (mNL (miB 162) + 11) + (rmN 162).locals ≤ (rmN 336).locals by decide), by rw [E.2.2.2]; exact (show 0 + (rmN 162).cells ≤ (rmN 336).cells by decide), by rw [E.2.2.2]; exact (show 0 + (rmN 162).slots ≤ (rmN 336).slots by decide)⟩ (Nat.le_of_ble_eq_true rfl) (fun vv s1 hq => ?_) (fun ee s1 hq => ?_)))))
  rotate_left
  · obtain ⟨Is1, Fs1, (⟨e2, hv, hrs1, hps1⟩ | ⟨xx, hv, hps1⟩)⟩ := hq
    · cases hv
    · cases hv
      rcases (show xx = 0 by omega) with gx
      ·
        subst gx
        have Gs1 := fm_tq F Fs1 rfl rfl
        refine (hEx 4 0).2 12 rfl _ _ _ _ _ (fun q1 => ?_)
        show WS k 12 [(0, .ref (A 0)), (1, .int (Int32.ofInt x)), (2, .ref (A 517))] [.ref q1] (Wd A dT s1) 1 6
        refine z_astore_n X (lv' := [(3, .ref q1), (0, .ref (A 0)), (1, .int (Int32.ofInt x)), (2, .ref (A 517))]) rfl (by decide) (fun _ h => h) (z_const X rfl ?_)
        exact w_iret X.1 q hRt rfl (ax_d X (show cdA 336 14 = some (.ireturn, 1, 0, 0, 0) from rfl)) (show 1 ≤ 1 by decide) (show 6 ≤ 6 by decide) ⟨A, _, hA, rfl, Is1, Gs1, 1, rfl, (by decide), trivial⟩
  obtain ⟨Is1, Fs1, (⟨e2, hv, hrs1, hps1⟩ | ⟨xx, hv, hps1⟩)⟩ := hq
  rotate_left
  · cases hv
  cases hv
  have Gs1 := fm_tq F Fs1 rfl rfl
  show WS k 7 [(0, .ref (A 0)), (1, .int (Int32.ofInt x)), (2, .ref (A 517))] [.int (Int32.ofInt e2), .int (Int32.ofInt 0), .ref (A 517)] (Wd A dT s1) 1 6
  refine w_i2l X.1 (ax_d X (show cdA 336 7 = some (.i2l, 1, 0, 0, 0) from rfl)) (z_anyJ (fun j3 => ?_))
  refine z_last X 517 rfl (c518_ok rfl) rfl (by decide) (show 0 < 1 by decide) (cbig_ok rfl) (wd_gen (fun s4 hs4 => ?_))
  have Is4 : Bd s4 := eqB hs4 (bd_D Is1)
  have Fs4 : Fm [33] [1460] s s4 := by rw [hs4]; exact fm_D Gs1 (show 460 + 1000 ∈ _ by decide)
  refine z_goto X (t := 15) rfl rfl (z_const X rfl ?_)
  exact w_iret X.1 q hRt rfl (ax_d X (show cdA 336 16 = some (.ireturn, 1, 0, 0, 0) from rfl)) (show 1 ≤ 1 by decide) (show 6 ≤ 6 by decide) ⟨A, _, hA, rfl, Is4, Fs4, 0, rfl, (by decide), trivial⟩
set_option maxRecDepth 4000 in
theorem lw_plan (G : GX l s0 D tys a0 dT) (I : Bd s) {x y : Int} (p0 : rng x) (p1 : rng y) (p2 : iI s 12 ≤ 8) : CTL l s0 D A dT 337 (rmN 337) [.ref (A 0), .int (Int32.ofInt x), .int (Int32.ofInt y), .ref (A 517)] s (fun o t => Bd t ∧ Fm [22, 23, 24, 34, 35] [33, 26, 27, 28, 29, 30, 31, 32, 20, 48, 47, 49, 50, 51, 1460] s t ∧ ∃ e, o = .inl (some (.int (Int32.ofInt e))) ∧ rng e ∧ (True)) := by
  refine ctL_of G (by decide) (Nat.le_of_ble_eq_true rfl) (by decide) rfl (fun k X E ET hRt hEx q => ?_)
  show WS k 0 [(0, .ref (A 0)), (1, .int (Int32.ofInt x)), (2, .int (Int32.ofInt y)), (3, .ref (A 517))] [] _ 0 0
  have F : Fm [22, 23, 24, 34, 35] [33, 26, 27, 28, 29, 30, 31, 32, 20, 48, 47, 49, 50, 51, 1460] s s := fm_rf _ _ s
  have hA := swA_rf A
  refine z_aload_n X (x := A 517) rfl (List.Mem.tail _ (List.Mem.tail _ (List.Mem.tail _ (List.Mem.head _)))) (z_const X rfl (z_aload_n X (x := A 0) rfl (List.Mem.head _) (z_load_n X (x := x) rfl (List.Mem.tail _ (List.Mem.head _)) (z_load_n X (x := y) rfl (List.Mem.tail _ (List.Mem.tail _ (List.Mem.head _))) (z_callV X 0 (rm := rmN 163) (As := [.int (Int32.ofInt x), .int (Int32.ofInt y)]) (st := [.int (Int32.ofInt 0), .ref (A 517)]) rfl rfl (by decide) rfl (by rw [E.1, E.2.1, E.2.2.1]; exact cs_plan G I (by omega) (by omega) (by omega)) ⟨by rw [E.2.2.2]; exact (show (rmN 163).frames + 1 ≤ (rmN 337).frames by decide), by rw [E.2.2.2]; exact (show 8 + (mNL (miB 163) + 11) + (rmN 163).locals ≤ (rmN 337).locals by decide), by rw [E.2.2.2]; exact (show 0 + (rmN 163).cells ≤ (rmN 337).cells by decide), by rw [E.2.2.2]; exact (show 0 + (rmN 163).slots ≤ (rmN 337).slots by decide)⟩ (Nat.le_of_ble_eq_true rfl) (fun vv s1 hq => ?_) (fun ee s1 hq => ?_))))))
  rotate_left
  · obtain ⟨Is1, Fs1, (⟨e2, hv, hrs1, hps1⟩ | ⟨xx, hv, hps1⟩)⟩ := hq
    · cases hv
    · cases hv
      rcases (show xx = 0 by omega) with gx
      ·
        subst gx
        have Gs1 := fm_tq F Fs1 rfl rfl
        refine (hEx 5 0).2 13 rfl _ _ _ _ _ (fun q1 => ?_)
        show WS k 13 [(0, .ref (A 0)), (1, .int (Int32.ofInt x)), (2, .int (Int32.ofInt y)), (3, .ref (A 517))] [.ref q1] (Wd A dT s1) 2 12
        refine z_astore X (lv' := [(4, .ref q1), (0, .ref (A 0)), (1, .int (Int32.ofInt x)), (2, .int (Int32.ofInt y)), (3, .ref (A 517))]) rfl (by decide) (fun _ h => h) (z_const X rfl ?_)
        exact w_iret X.1 q hRt rfl (ax_d X (show cdA 337 16 = some (.ireturn, 1, 0, 0, 0) from rfl)) (show 2 ≤ 2 by decide) (show 12 ≤ 12 by decide) ⟨A, _, hA, rfl, Is1, Gs1, 1, rfl, (by decide), trivial⟩
  obtain ⟨Is1, Fs1, (⟨e2, hv, hrs1, hps1⟩ | ⟨xx, hv, hps1⟩)⟩ := hq
  rotate_left
  · cases hv
  cases hv
  have Gs1 := fm_tq F Fs1 rfl rfl
  show WS k 8 [(0, .ref (A 0)), (1, .int (Int32.ofInt x)), (2, .int (Int32.ofInt y)), (3, .ref (A 517))] [.int (Int32.ofInt e2), .int (Int32.ofInt 0), .ref (A 517)] (Wd A dT s1) 2 12
  refine w_i2l X.1 (ax_d X (show cdA 337 8 = some (.i2l, 1, 0, 0, 0) from rfl)) (z_anyJ (fun j3 => ?_))
  refine z_last X 517 rfl (c518_ok rfl) rfl (by decide) (show 0 < 1 by decide) (cbig_ok rfl) (wd_gen (fun s4 hs4 => ?_))
  have Is4 : Bd s4 := eqB hs4 (bd_D Is1)
  have Fs4 : Fm [22, 23, 24, 34, 35] [33, 26, 27, 28, 29, 30, 31, 32, 20, 48, 47, 49, 50, 51, 1460] s s4 := by rw [hs4]; exact fm_D Gs1 (show 460 + 1000 ∈ _ by decide)
  refine z_goto X (t := 17) rfl rfl (z_const X rfl ?_)
  exact w_iret X.1 q hRt rfl (ax_d X (show cdA 337 18 = some (.ireturn, 1, 0, 0, 0) from rfl)) (show 2 ≤ 2 by decide) (show 12 ≤ 12 by decide) ⟨A, _, hA, rfl, Is4, Fs4, 0, rfl, (by decide), trivial⟩
set_option maxRecDepth 4000 in
theorem lw_hours (G : GX l s0 D tys a0 dT) (I : Bd s) {x y : Int} (p0 : rng x) (p1 : rng y) : CTL l s0 D A dT 338 (rmN 338) [.ref (A 0), .int (Int32.ofInt x), .int (Int32.ofInt y), .ref (A 517)] s (fun o t => Bd t ∧ Fm [36, 37] [1460] s t ∧ ∃ e, o = .inl (some (.int (Int32.ofInt e))) ∧ rng e ∧ (True)) := by
  refine ctL_of G (by decide) (Nat.le_of_ble_eq_true rfl) (by decide) rfl (fun k X E ET hRt hEx q => ?_)
  show WS k 0 [(0, .ref (A 0)), (1, .int (Int32.ofInt x)), (2, .int (Int32.ofInt y)), (3, .ref (A 517))] [] _ 0 0
  have F : Fm [36, 37] [1460] s s := fm_rf _ _ s
  have hA := swA_rf A
  refine z_aload_n X (x := A 517) rfl (List.Mem.tail _ (List.Mem.tail _ (List.Mem.tail _ (List.Mem.head _)))) (z_const X rfl (z_aload_n X (x := A 0) rfl (List.Mem.head _) (z_load_n X (x := x) rfl (List.Mem.tail _ (List.Mem.head _)) (z_load_n X (x := y) rfl (List.Mem.tail _ (List.Mem.tail _ (List.Mem.head _))) (z_callV X 0 (rm := rmN 164) (As := [.int (Int32.ofInt x), .int (Int32.ofInt y)]) (st := [.int (Int32.ofInt 0), .ref (A 517)]) rfl rfl (by decide) rfl (by rw [E.1, E.2.1, E.2.2.1]; exact cs_hours G I (by omega) (by omega)) ⟨by rw [E.2.2.2]; exact (show (rmN 164).frames + 1 ≤ (rmN 338).frames by decide), by rw [E.2.2.2]; exact (show 8 + (mNL (miB 164) + 11) + (rmN 164).locals ≤ (rmN 338).locals by decide), by rw [E.2.2.2]; exact (show 0 + (rmN 164).cells ≤ (rmN 338).cells by decide), by rw [E.2.2.2]; exact (show 0 + (rmN 164).slots ≤ (rmN 338).slots by decide)⟩ (Nat.le_of_ble_eq_true rfl) (fun vv s1 hq => ?_) (fun ee s1 hq => ?_))))))
  rotate_left
  · obtain ⟨Is1, Fs1, (⟨e2, hv, hrs1, hps1⟩ | ⟨xx, hv, hps1⟩)⟩ := hq
    · cases hv
    · cases hv
      rcases (show xx = 0 by omega) with gx
      ·
        subst gx
        have Gs1 := fm_tq F Fs1 rfl rfl
        refine (hEx 5 0).2 13 rfl _ _ _ _ _ (fun q1 => ?_)
        show WS k 13 [(0, .ref (A 0)), (1, .int (Int32.ofInt x)), (2, .int (Int32.ofInt y)), (3, .ref (A 517))] [.ref q1] (Wd A dT s1) 2 12
        refine z_astore X (lv' := [(4, .ref q1), (0, .ref (A 0)), (1, .int (Int32.ofInt x)), (2, .int (Int32.ofInt y)), (3, .ref (A 517))]) rfl (by decide) (fun _ h => h) (z_const X rfl ?_)
        exact w_iret X.1 q hRt rfl (ax_d X (show cdA 338 16 = some (.ireturn, 1, 0, 0, 0) from rfl)) (show 2 ≤ 2 by decide) (show 12 ≤ 12 by decide) ⟨A, _, hA, rfl, Is1, Gs1, 1, rfl, (by decide), trivial⟩
  obtain ⟨Is1, Fs1, (⟨e2, hv, hrs1, hps1⟩ | ⟨xx, hv, hps1⟩)⟩ := hq
  rotate_left
  · cases hv
  cases hv
  have Gs1 := fm_tq F Fs1 rfl rfl
  show WS k 8 [(0, .ref (A 0)), (1, .int (Int32.ofInt x)), (2, .int (Int32.ofInt y)), (3, .ref (A 517))] [.int (Int32.ofInt e2), .int (Int32.ofInt 0), .ref (A 517)] (Wd A dT s1) 2 12
  refine w_i2l X.1 (ax_d X (show cdA 338 8 = some (.i2l, 1, 0, 0, 0) from rfl)) (z_anyJ (fun j3 => ?_))
  refine z_last X 517 rfl (c518_ok rfl) rfl (by decide) (show 0 < 1 by decide) (cbig_ok rfl) (wd_gen (fun s4 hs4 => ?_))
  have Is4 : Bd s4 := eqB hs4 (bd_D Is1)
  have Fs4 : Fm [36, 37] [1460] s s4 := by rw [hs4]; exact fm_D Gs1 (show 460 + 1000 ∈ _ by decide)
  refine z_goto X (t := 17) rfl rfl (z_const X rfl ?_)
  exact w_iret X.1 q hRt rfl (ax_d X (show cdA 338 18 = some (.ireturn, 1, 0, 0, 0) from rfl)) (show 2 ≤ 2 by decide) (show 12 ≤ 12 by decide) ⟨A, _, hA, rfl, Is4, Fs4, 0, rfl, (by decide), trivial⟩
set_option maxRecDepth 4000 in
theorem lw_ill (G : GX l s0 D tys a0 dT) (I : Bd s) {x y : Int} (p0 : rng x) (p1 : rng y) : CTL l s0 D A dT 339 (rmN 339) [.ref (A 0), .int (Int32.ofInt x), .int (Int32.ofInt y), .ref (A 517)] s (fun o t => Bd t ∧ Fm [] [52, 1460] s t ∧ ∃ e, o = .inl (some (.int (Int32.ofInt e))) ∧ rng e ∧ (True)) := by
  refine ctL_of G (by decide) (Nat.le_of_ble_eq_true rfl) (by decide) rfl (fun k X E ET hRt hEx q => ?_)
  show WS k 0 [(0, .ref (A 0)), (1, .int (Int32.ofInt x)), (2, .int (Int32.ofInt y)), (3, .ref (A 517))] [] _ 0 0
  have F : Fm [] [52, 1460] s s := fm_rf _ _ s
  have hA := swA_rf A
  refine z_aload_n X (x := A 517) rfl (List.Mem.tail _ (List.Mem.tail _ (List.Mem.tail _ (List.Mem.head _)))) (z_const X rfl (z_aload_n X (x := A 0) rfl (List.Mem.head _) (z_load_n X (x := x) rfl (List.Mem.tail _ (List.Mem.head _)) (z_load_n X (x := y) rfl (List.Mem.tail _ (List.Mem.tail _ (List.Mem.head _))) (z_callV X 0 (rm := rmN 165) (As := [.int (Int32.ofInt x), .int (Int32.ofInt y)]) (st := [.int (Int32.ofInt 0), .ref (A 517)]) rfl rfl (by decide) rfl (by rw [E.1, E.2.1, E.2.2.1]; exact cs_ill G I (by omega) (by omega)) ⟨by rw [E.2.2.2]; exact (show (rmN 165).frames + 1 ≤ (rmN 339).frames by decide), by rw [E.2.2.2]; exact (show 8 + (mNL (miB 165) + 11) + (rmN 165).locals ≤ (rmN 339).locals by decide), by rw [E.2.2.2]; exact (show 0 + (rmN 165).cells ≤ (rmN 339).cells by decide), by rw [E.2.2.2]; exact (show 0 + (rmN 165).slots ≤ (rmN 339).slots by decide)⟩ (Nat.le_of_ble_eq_true rfl) (fun vv s1 hq => ?_) (fun ee s1 hq => ?_))))))
  rotate_left
  · obtain ⟨Is1, Fs1, (⟨e2, hv, hrs1, hps1⟩ | ⟨xx, hv, hps1⟩)⟩ := hq
    · cases hv
    · cases hv
      rcases (show xx = 0 ∨ xx = 2 by omega) with gx | gx
      ·
        subst gx
        have Gs1 := fm_tq F Fs1 rfl rfl
        refine (hEx 5 0).2 17 rfl _ _ _ _ _ (fun q1 => ?_)
        show WS k 17 [(0, .ref (A 0)), (1, .int (Int32.ofInt x)), (2, .int (Int32.ofInt y)), (3, .ref (A 517))] [.ref q1] (Wd A dT s1) 2 12
        refine z_astore X (lv' := [(4, .ref q1), (0, .ref (A 0)), (1, .int (Int32.ofInt x)), (2, .int (Int32.ofInt y)), (3, .ref (A 517))]) rfl (by decide) (fun _ h => h) (z_const X rfl ?_)
        exact w_iret X.1 q hRt rfl (ax_d X (show cdA 339 20 = some (.ireturn, 1, 0, 0, 0) from rfl)) (show 2 ≤ 2 by decide) (show 12 ≤ 12 by decide) ⟨A, _, hA, rfl, Is1, Gs1, 2, rfl, (by decide), trivial⟩
      ·
        subst gx
        have Gs1 := fm_tq F Fs1 rfl rfl
        refine (hEx 5 2).2 13 rfl _ _ _ _ _ (fun q1 => ?_)
        show WS k 13 [(0, .ref (A 0)), (1, .int (Int32.ofInt x)), (2, .int (Int32.ofInt y)), (3, .ref (A 517))] [.ref q1] (Wd A dT s1) 2 12
        refine z_astore X (lv' := [(4, .ref q1), (0, .ref (A 0)), (1, .int (Int32.ofInt x)), (2, .int (Int32.ofInt y)), (3, .ref (A 517))]) rfl (by decide) (fun _ h => h) (z_const X rfl ?_)
        exact w_iret X.1 q hRt rfl (ax_d X (show cdA 339 16 = some (.ireturn, 1, 0, 0, 0) from rfl)) (show 2 ≤ 2 by decide) (show 12 ≤ 12 by decide) ⟨A, _, hA, rfl, Is1, Gs1, 1, rfl, (by decide), trivial⟩
  obtain ⟨Is1, Fs1, (⟨e2, hv, hrs1, hps1⟩ | ⟨xx, hv, hps1⟩)⟩ := hq
  rotate_left
  · cases hv
  cases hv
  have Gs1 := fm_tq F Fs1 rfl rfl
  show WS k 8 [(0, .ref (A 0)), (1, .int (Int32.ofInt x)), (2, .int (Int32.ofInt y)), (3, .ref (A 517))] [.int (Int32.ofInt e2), .int (Int32.ofInt 0), .ref (A 517)] (Wd A dT s1) 2 12
  refine w_i2l X.1 (ax_d X (show cdA 339 8 = some (.i2l, 1, 0, 0, 0) from rfl)) (z_anyJ (fun j3 => ?_))
  refine z_last X 517 rfl (c518_ok rfl) rfl (by decide) (show 0 < 1 by decide) (cbig_ok rfl) (wd_gen (fun s4 hs4 => ?_))
  have Is4 : Bd s4 := eqB hs4 (bd_D Is1)
  have Fs4 : Fm [] [52, 1460] s s4 := by rw [hs4]; exact fm_D Gs1 (show 460 + 1000 ∈ _ by decide)
  refine z_goto X (t := 21) rfl rfl (z_const X rfl ?_)
  exact w_iret X.1 q hRt rfl (ax_d X (show cdA 339 22 = some (.ireturn, 1, 0, 0, 0) from rfl)) (show 2 ≤ 2 by decide) (show 12 ≤ 12 by decide) ⟨A, _, hA, rfl, Is4, Fs4, 0, rfl, (by decide), trivial⟩
set_option maxRecDepth 4000 in
theorem lw_rota (G : GX l s0 D tys a0 dT) (I : Bd s) {x y z : Int} (p0 : rng x) (p1 : rng y) (p2 : rng z) (p3 : iI s 12 ≤ 8) : CTL l s0 D A dT 340 (rmN 340) [.ref (A 0), .int (Int32.ofInt x), .int (Int32.ofInt y), .int (Int32.ofInt z), .ref (A 517)] s (fun o t => Bd t ∧ Fm [22, 23, 24, 34, 35, 38] [33, 26, 27, 28, 29, 30, 31, 32, 20, 48, 47, 49, 50, 51, 53, 54, 55, 56, 1460] s t ∧ ∃ e, o = .inl (some (.int (Int32.ofInt e))) ∧ rng e ∧ (True)) := by
  refine ctL_of G (by decide) (Nat.le_of_ble_eq_true rfl) (by decide) rfl (fun k X E ET hRt hEx q => ?_)
  show WS k 0 [(0, .ref (A 0)), (1, .int (Int32.ofInt x)), (2, .int (Int32.ofInt y)), (3, .int (Int32.ofInt z)), (4, .ref (A 517))] [] _ 0 0
  have F : Fm [22, 23, 24, 34, 35, 38] [33, 26, 27, 28, 29, 30, 31, 32, 20, 48, 47, 49, 50, 51, 53, 54, 55, 56, 1460] s s := fm_rf _ _ s
  have hA := swA_rf A
  refine z_aload X (x := A 517) rfl (List.Mem.tail _ (List.Mem.tail _ (List.Mem.tail _ (List.Mem.tail _ (List.Mem.head _))))) (z_const X rfl (z_aload_n X (x := A 0) rfl (List.Mem.head _) (z_load_n X (x := x) rfl (List.Mem.tail _ (List.Mem.head _)) (z_load_n X (x := y) rfl (List.Mem.tail _ (List.Mem.tail _ (List.Mem.head _))) (z_load_n X (x := z) rfl (List.Mem.tail _ (List.Mem.tail _ (List.Mem.tail _ (List.Mem.head _)))) (z_callV X 0 (rm := rmN 166) (As := [.int (Int32.ofInt x), .int (Int32.ofInt y), .int (Int32.ofInt z)]) (st := [.int (Int32.ofInt 0), .ref (A 517)]) rfl rfl (by decide) rfl (by rw [E.1, E.2.1, E.2.2.1]; exact cs_rota G I (by omega) (by omega) (by omega) (by omega)) ⟨by rw [E.2.2.2]; exact (show (rmN 166).frames + 1 ≤ (rmN 340).frames by decide), by rw [E.2.2.2]; exact (show 8 + (mNL (miB 166) + 11) + (rmN 166).locals ≤ (rmN 340).locals by decide), by rw [E.2.2.2]; exact (show 0 + (rmN 166).cells ≤ (rmN 340).cells by decide), by rw [E.2.2.2]; exact (show 0 + (rmN 166).slots ≤ (rmN 340).slots by decide)⟩ (Nat.le_of_ble_eq_true rfl) (fun vv s1 hq => ?_) (fun ee s1 hq => ?_)))))))
  rotate_left
  · obtain ⟨Is1, Fs1, (⟨e2, hv, hrs1, hps1⟩ | ⟨xx, hv, hps1⟩)⟩ := hq
    · cases hv
    · cases hv
      rcases (show xx = 0 by omega) with gx
      ·
        subst gx
        have Gs1 := fm_tq F Fs1 rfl rfl
        refine (hEx 7 0).2 15 rfl _ _ _ _ _ (fun q1 => ?_)
        show WS k 15 [(0, .ref (A 0)), (1, .int (Int32.ofInt x)), (2, .int (Int32.ofInt y)), (3, .int (Int32.ofInt z)), (4, .ref (A 517))] [.ref q1] (Wd A dT s1) 3 18
        refine z_astore X (lv' := [(5, .ref q1), (0, .ref (A 0)), (1, .int (Int32.ofInt x)), (2, .int (Int32.ofInt y)), (3, .int (Int32.ofInt z)), (4, .ref (A 517))]) rfl (by decide) (fun _ h => h) (z_const X rfl ?_)
        exact w_iret X.1 q hRt rfl (ax_d X (show cdA 340 18 = some (.ireturn, 1, 0, 0, 0) from rfl)) (show 3 ≤ 3 by decide) (show 18 ≤ 18 by decide) ⟨A, _, hA, rfl, Is1, Gs1, 1, rfl, (by decide), trivial⟩
  obtain ⟨Is1, Fs1, (⟨e2, hv, hrs1, hps1⟩ | ⟨xx, hv, hps1⟩)⟩ := hq
  rotate_left
  · cases hv
  cases hv
  have Gs1 := fm_tq F Fs1 rfl rfl
  show WS k 10 [(0, .ref (A 0)), (1, .int (Int32.ofInt x)), (2, .int (Int32.ofInt y)), (3, .int (Int32.ofInt z)), (4, .ref (A 517))] [.int (Int32.ofInt e2), .int (Int32.ofInt 0), .ref (A 517)] (Wd A dT s1) 3 18
  refine w_i2l X.1 (ax_d X (show cdA 340 10 = some (.i2l, 1, 0, 0, 0) from rfl)) (z_anyJ (fun j3 => ?_))
  refine z_last X 517 rfl (c518_ok rfl) rfl (by decide) (show 0 < 1 by decide) (cbig_ok rfl) (wd_gen (fun s4 hs4 => ?_))
  have Is4 : Bd s4 := eqB hs4 (bd_D Is1)
  have Fs4 : Fm [22, 23, 24, 34, 35, 38] [33, 26, 27, 28, 29, 30, 31, 32, 20, 48, 47, 49, 50, 51, 53, 54, 55, 56, 1460] s s4 := by rw [hs4]; exact fm_D Gs1 (show 460 + 1000 ∈ _ by decide)
  refine z_goto X (t := 19) rfl rfl (z_const X rfl ?_)
  exact w_iret X.1 q hRt rfl (ax_d X (show cdA 340 20 = some (.ireturn, 1, 0, 0, 0) from rfl)) (show 3 ≤ 3 by decide) (show 18 ≤ 18 by decide) ⟨A, _, hA, rfl, Is4, Fs4, 0, rfl, (by decide), trivial⟩
set_option maxRecDepth 4000 in
theorem lw_lacks (G : GX l s0 D tys a0 dT) (I : Bd s) {x y : Int} (p0 : rng x) (p1 : rng y) (p2 : iI s 12 ≤ 8) : CTL l s0 D A dT 341 (rmN 341) [.ref (A 0), .int (Int32.ofInt x), .int (Int32.ofInt y), .ref (A 517)] s (fun o t => Bd t ∧ Fm [22, 23, 24, 34, 35, 38] [33, 26, 27, 28, 29, 30, 31, 32, 20, 48, 47, 49, 50, 51, 53, 54, 55, 56, 1460] s t ∧ ∃ e, o = .inl (some (.int (Int32.ofInt e))) ∧ rng e ∧ (True)) := by
  refine ctL_of G (by decide) (Nat.le_of_ble_eq_true rfl) (by decide) rfl (fun k X E ET hRt hEx q => ?_)
  show WS k 0 [(0, .ref (A 0)), (1, .int (Int32.ofInt x)), (2, .int (Int32.ofInt y)), (3, .ref (A 517))] [] _ 0 0
  have F : Fm [22, 23, 24, 34, 35, 38] [33, 26, 27, 28, 29, 30, 31, 32, 20, 48, 47, 49, 50, 51, 53, 54, 55, 56, 1460] s s := fm_rf _ _ s
  have hA := swA_rf A
  refine z_aload_n X (x := A 517) rfl (List.Mem.tail _ (List.Mem.tail _ (List.Mem.tail _ (List.Mem.head _)))) (z_const X rfl (z_aload_n X (x := A 0) rfl (List.Mem.head _) (z_load_n X (x := x) rfl (List.Mem.tail _ (List.Mem.head _)) (z_load_n X (x := y) rfl (List.Mem.tail _ (List.Mem.tail _ (List.Mem.head _))) (z_callV X 0 (rm := rmN 167) (As := [.int (Int32.ofInt x), .int (Int32.ofInt y)]) (st := [.int (Int32.ofInt 0), .ref (A 517)]) rfl rfl (by decide) rfl (by rw [E.1, E.2.1, E.2.2.1]; exact cs_lacks G I (by omega) (by omega) (by omega)) ⟨by rw [E.2.2.2]; exact (show (rmN 167).frames + 1 ≤ (rmN 341).frames by decide), by rw [E.2.2.2]; exact (show 8 + (mNL (miB 167) + 11) + (rmN 167).locals ≤ (rmN 341).locals by decide), by rw [E.2.2.2]; exact (show 0 + (rmN 167).cells ≤ (rmN 341).cells by decide), by rw [E.2.2.2]; exact (show 0 + (rmN 167).slots ≤ (rmN 341).slots by decide)⟩ (Nat.le_of_ble_eq_true rfl) (fun vv s1 hq => ?_) (fun ee s1 hq => ?_))))))
  rotate_left
  · obtain ⟨Is1, Fs1, (⟨e2, hv, hrs1, hps1⟩ | ⟨xx, hv, hps1⟩)⟩ := hq
    · cases hv
    · cases hv
      rcases (show xx = 0 by omega) with gx
      ·
        subst gx
        have Gs1 := fm_tq F Fs1 rfl rfl
        refine (hEx 5 0).2 13 rfl _ _ _ _ _ (fun q1 => ?_)
        show WS k 13 [(0, .ref (A 0)), (1, .int (Int32.ofInt x)), (2, .int (Int32.ofInt y)), (3, .ref (A 517))] [.ref q1] (Wd A dT s1) 2 12
        refine z_astore X (lv' := [(4, .ref q1), (0, .ref (A 0)), (1, .int (Int32.ofInt x)), (2, .int (Int32.ofInt y)), (3, .ref (A 517))]) rfl (by decide) (fun _ h => h) (z_const X rfl ?_)
        exact w_iret X.1 q hRt rfl (ax_d X (show cdA 341 16 = some (.ireturn, 1, 0, 0, 0) from rfl)) (show 2 ≤ 2 by decide) (show 12 ≤ 12 by decide) ⟨A, _, hA, rfl, Is1, Gs1, 1, rfl, (by decide), trivial⟩
  obtain ⟨Is1, Fs1, (⟨e2, hv, hrs1, hps1⟩ | ⟨xx, hv, hps1⟩)⟩ := hq
  rotate_left
  · cases hv
  cases hv
  have Gs1 := fm_tq F Fs1 rfl rfl
  show WS k 8 [(0, .ref (A 0)), (1, .int (Int32.ofInt x)), (2, .int (Int32.ofInt y)), (3, .ref (A 517))] [.int (Int32.ofInt e2), .int (Int32.ofInt 0), .ref (A 517)] (Wd A dT s1) 2 12
  refine w_i2l X.1 (ax_d X (show cdA 341 8 = some (.i2l, 1, 0, 0, 0) from rfl)) (z_anyJ (fun j3 => ?_))
  refine z_last X 517 rfl (c518_ok rfl) rfl (by decide) (show 0 < 1 by decide) (cbig_ok rfl) (wd_gen (fun s4 hs4 => ?_))
  have Is4 : Bd s4 := eqB hs4 (bd_D Is1)
  have Fs4 : Fm [22, 23, 24, 34, 35, 38] [33, 26, 27, 28, 29, 30, 31, 32, 20, 48, 47, 49, 50, 51, 53, 54, 55, 56, 1460] s s4 := by rw [hs4]; exact fm_D Gs1 (show 460 + 1000 ∈ _ by decide)
  refine z_goto X (t := 17) rfl rfl (z_const X rfl ?_)
  exact w_iret X.1 q hRt rfl (ax_d X (show cdA 341 18 = some (.ireturn, 1, 0, 0, 0) from rfl)) (show 2 ≤ 2 by decide) (show 12 ≤ 12 by decide) ⟨A, _, hA, rfl, Is4, Fs4, 0, rfl, (by decide), trivial⟩
set_option maxRecDepth 4000 in
theorem lw_enough (G : GX l s0 D tys a0 dT) (I : Bd s) {x : Int} (p0 : rng x) (p1 : iI s 12 ≤ 8) : CTL l s0 D A dT 342 (rmN 342) [.ref (A 0), .int (Int32.ofInt x), .ref (A 517)] s (fun o t => Bd t ∧ Fm [22, 23, 24, 34, 35, 38] [33, 26, 27, 28, 29, 30, 31, 32, 20, 48, 47, 49, 50, 51, 53, 54, 55, 56, 1460] s t ∧ ∃ e, o = .inl (some (.int (Int32.ofInt e))) ∧ rng e ∧ (True)) := by
  refine ctL_of G (by decide) (Nat.le_of_ble_eq_true rfl) (by decide) rfl (fun k X E ET hRt hEx q => ?_)
  show WS k 0 [(0, .ref (A 0)), (1, .int (Int32.ofInt x)), (2, .ref (A 517))] [] _ 0 0
  have F : Fm [22, 23, 24, 34, 35, 38] [33, 26, 27, 28, 29, 30, 31, 32, 20, 48, 47, 49, 50, 51, 53, 54, 55, 56, 1460] s s := fm_rf _ _ s
  have hA := swA_rf A
  refine z_aload_n X (x := A 517) rfl (List.Mem.tail _ (List.Mem.tail _ (List.Mem.head _))) (z_const X rfl (z_aload_n X (x := A 0) rfl (List.Mem.head _) (z_load_n X (x := x) rfl (List.Mem.tail _ (List.Mem.head _)) (z_callV X 0 (rm := rmN 168) (As := [.int (Int32.ofInt x)]) (st := [.int (Int32.ofInt 0), .ref (A 517)]) rfl rfl (by decide) rfl (by rw [E.1, E.2.1, E.2.2.1]; exact cs_enough G I (by omega) (by omega)) ⟨by rw [E.2.2.2]; exact (show (rmN 168).frames + 1 ≤ (rmN 342).frames by decide), by rw [E.2.2.2]; exact (show 8 + (mNL (miB 168) + 11) + (rmN 168).locals ≤ (rmN 342).locals by decide), by rw [E.2.2.2]; exact (show 0 + (rmN 168).cells ≤ (rmN 342).cells by decide), by rw [E.2.2.2]; exact (show 0 + (rmN 168).slots ≤ (rmN 342).slots by decide)⟩ (Nat.le_of_ble_eq_true rfl) (fun vv s1 hq => ?_) (fun ee s1 hq => ?_)))))
  rotate_left
  · obtain ⟨Is1, Fs1, (⟨e2, hv, hrs1, hps1⟩ | ⟨xx, hv, hps1⟩)⟩ := hq
    · cases hv
    · cases hv
      rcases (show xx = 0 by omega) with gx
      ·
        subst gx
        have Gs1 := fm_tq F Fs1 rfl rfl
        refine (hEx 4 0).2 12 rfl _ _ _ _ _ (fun q1 => ?_)
        show WS k 12 [(0, .ref (A 0)), (1, .int (Int32.ofInt x)), (2, .ref (A 517))] [.ref q1] (Wd A dT s1) 1 6
        refine z_astore_n X (lv' := [(3, .ref q1), (0, .ref (A 0)), (1, .int (Int32.ofInt x)), (2, .ref (A 517))]) rfl (by decide) (fun _ h => h) (z_const X rfl ?_)
        exact w_iret X.1 q hRt rfl (ax_d X (show cdA 342 14 = some (.ireturn, 1, 0, 0, 0) from rfl)) (show 1 ≤ 1 by decide) (show 6 ≤ 6 by decide) ⟨A, _, hA, rfl, Is1, Gs1, 1, rfl, (by decide), trivial⟩
  obtain ⟨Is1, Fs1, (⟨e2, hv, hrs1, hps1⟩ | ⟨xx, hv, hps1⟩)⟩ := hq
  rotate_left
  · cases hv
  cases hv
  have Gs1 := fm_tq F Fs1 rfl rfl
  show WS k 7 [(0, .ref (A 0)), (1, .int (Int32.ofInt x)), (2, .ref (A 517))] [.int (Int32.ofInt e2), .int (Int32.ofInt 0), .ref (A 517)] (Wd A dT s1) 1 6
  refine w_i2l X.1 (ax_d X (show cdA 342 7 = some (.i2l, 1, 0, 0, 0) from rfl)) (z_anyJ (fun j3 => ?_))
  refine z_last X 517 rfl (c518_ok rfl) rfl (by decide) (show 0 < 1 by decide) (cbig_ok rfl) (wd_gen (fun s4 hs4 => ?_))
  have Is4 : Bd s4 := eqB hs4 (bd_D Is1)
  have Fs4 : Fm [22, 23, 24, 34, 35, 38] [33, 26, 27, 28, 29, 30, 31, 32, 20, 48, 47, 49, 50, 51, 53, 54, 55, 56, 1460] s s4 := by rw [hs4]; exact fm_D Gs1 (show 460 + 1000 ∈ _ by decide)
  refine z_goto X (t := 15) rfl rfl (z_const X rfl ?_)
  exact w_iret X.1 q hRt rfl (ax_d X (show cdA 342 16 = some (.ireturn, 1, 0, 0, 0) from rfl)) (show 1 ≤ 1 by decide) (show 6 ≤ 6 by decide) ⟨A, _, hA, rfl, Is4, Fs4, 0, rfl, (by decide), trivial⟩
set_option maxRecDepth 4000 in
theorem lw_mends (G : GX l s0 D tys a0 dT) (GR : RS0 s0) (I : Bd s) {x y z w : Int} (p0 : rng x) (p1 : rng y) (p2 : rng z) (p3 : rng w) : CTL l s0 D A dT 344 (rmN 344) [.ref (A 0), .int (Int32.ofInt x), .int (Int32.ofInt y), .int (Int32.ofInt z), .int (Int32.ofInt w), .ref (A 517)] s (fun o t => Bd t ∧ Fm [43, 44, 46, 47, 49, 50, 52, 53, 55, 56, 58, 59, 61, 62, 64, 65, 67, 68, 42, 39, 40, 41] [57, 58, 67, 62, 77, 78, 79, 73, 87, 80, 81, 82, 83, 84, 85, 86, 96, 89, 90, 91, 92, 93, 94, 95, 105, 98, 99, 100, 101, 102, 103, 104, 114, 107, 108, 109, 110, 111, 112, 113, 123, 116, 117, 118, 119, 120, 121, 122, 132, 125, 126, 127, 128, 129, 130, 131, 141, 134, 135, 136, 137, 138, 139, 140, 150, 143, 144, 145, 146, 147, 148, 149, 20, 76, 74, 75, 72, 1059, 1060, 1061, 1063, 1460] s t ∧ ∃ e, o = .inl (some (.int (Int32.ofInt e))) ∧ rng e ∧ (True)) := by
  refine ctL_of G (by decide) (Nat.le_of_ble_eq_true rfl) (by decide) rfl (fun k X E ET hRt hEx q => ?_)
  show WS k 0 [(0, .ref (A 0)), (1, .int (Int32.ofInt x)), (2, .int (Int32.ofInt y)), (3, .int (Int32.ofInt z)), (4, .int (Int32.ofInt w)), (5, .ref (A 517))] [] _ 0 0
  have F : Fm [43, 44, 46, 47, 49, 50, 52, 53, 55, 56, 58, 59, 61, 62, 64, 65, 67, 68, 42, 39, 40, 41] [57, 58, 67, 62, 77, 78, 79, 73, 87, 80, 81, 82, 83, 84, 85, 86, 96, 89, 90, 91, 92, 93, 94, 95, 105, 98, 99, 100, 101, 102, 103, 104, 114, 107, 108, 109, 110, 111, 112, 113, 123, 116, 117, 118, 119, 120, 121, 122, 132, 125, 126, 127, 128, 129, 130, 131, 141, 134, 135, 136, 137, 138, 139, 140, 150, 143, 144, 145, 146, 147, 148, 149, 20, 76, 74, 75, 72, 1059, 1060, 1061, 1063, 1460] s s := fm_rf _ _ s
  have hA := swA_rf A
  refine z_aload X (x := A 517) rfl (List.Mem.tail _ (List.Mem.tail _ (List.Mem.tail _ (List.Mem.tail _ (List.Mem.tail _ (List.Mem.head _)))))) (z_const X rfl (z_aload_n X (x := A 0) rfl (List.Mem.head _) (z_load_n X (x := x) rfl (List.Mem.tail _ (List.Mem.head _)) (z_load_n X (x := y) rfl (List.Mem.tail _ (List.Mem.tail _ (List.Mem.head _))) (z_load_n X (x := z) rfl (List.Mem.tail _ (List.Mem.tail _ (List.Mem.tail _ (List.Mem.head _)))) (z_load X (x := w) rfl (List.Mem.tail _ (List.Mem.tail _ (List.Mem.tail _ (List.Mem.tail _ (List.Mem.head _))))) (z_callV X 0 (rm := rmN 170) (As := [.int (Int32.ofInt x), .int (Int32.ofInt y), .int (Int32.ofInt z), .int (Int32.ofInt w)]) (st := [.int (Int32.ofInt 0), .ref (A 517)]) rfl rfl (by decide) rfl (by rw [E.1, E.2.1, E.2.2.1]; exact cs_mends G GR I (by omega) (by omega) (by omega) (by omega)) ⟨by rw [E.2.2.2]; exact (show (rmN 170).frames + 1 ≤ (rmN 344).frames by decide), by rw [E.2.2.2]; exact (show 8 + (mNL (miB 170) + 11) + (rmN 170).locals ≤ (rmN 344).locals by decide), by rw [E.2.2.2]; exact (show 0 + (rmN 170).cells ≤ (rmN 344).cells by decide), by rw [E.2.2.2]; exact (show 0 + (rmN 170).slots ≤ (rmN 344).slots by decide)⟩ (Nat.le_of_ble_eq_true rfl) (fun vv s1 hq => ?_) (fun ee s1 hq => ?_))))))))
  rotate_left
  · obtain ⟨Is1, Fs1, (⟨e2, hv, hrs1, hps1⟩ | ⟨xx, hv, hps1⟩)⟩ := hq
    · cases hv
    · cases hv
      rcases (show xx = 0 by omega) with gx
      ·
        subst gx
        have Gs1 := fm_ts F Fs1 (by decide) (by decide +kernel)
        refine (hEx 9 0).2 17 rfl _ _ _ _ _ (fun q1 => ?_)
        show WS k 17 [(0, .ref (A 0)), (1, .int (Int32.ofInt x)), (2, .int (Int32.ofInt y)), (3, .int (Int32.ofInt z)), (4, .int (Int32.ofInt w)), (5, .ref (A 517))] [.ref q1] (Wd A dT s1) 4 24
        refine z_astore X (lv' := [(6, .ref q1), (0, .ref (A 0)), (1, .int (Int32.ofInt x)), (2, .int (Int32.ofInt y)), (3, .int (Int32.ofInt z)), (4, .int (Int32.ofInt w)), (5, .ref (A 517))]) rfl (by decide) (fun _ h => h) (z_const X rfl ?_)
        exact w_iret X.1 q hRt rfl (ax_d X (show cdA 344 20 = some (.ireturn, 1, 0, 0, 0) from rfl)) (show 4 ≤ 4 by decide) (show 24 ≤ 24 by decide) ⟨A, _, hA, rfl, Is1, Gs1, 1, rfl, (by decide), trivial⟩
  obtain ⟨Is1, Fs1, (⟨e2, hv, hrs1, hps1⟩ | ⟨xx, hv, hps1⟩)⟩ := hq
  rotate_left
  · cases hv
  cases hv
  have Gs1 := fm_ts F Fs1 (by decide) (by decide +kernel)
  show WS k 12 [(0, .ref (A 0)), (1, .int (Int32.ofInt x)), (2, .int (Int32.ofInt y)), (3, .int (Int32.ofInt z)), (4, .int (Int32.ofInt w)), (5, .ref (A 517))] [.int (Int32.ofInt e2), .int (Int32.ofInt 0), .ref (A 517)] (Wd A dT s1) 4 24
  refine w_i2l X.1 (ax_d X (show cdA 344 12 = some (.i2l, 1, 0, 0, 0) from rfl)) (z_anyJ (fun j3 => ?_))
  refine z_last X 517 rfl (c518_ok rfl) rfl (by decide) (show 0 < 1 by decide) (cbig_ok rfl) (wd_gen (fun s4 hs4 => ?_))
  have Is4 : Bd s4 := eqB hs4 (bd_D Is1)
  have Fs4 : Fm [43, 44, 46, 47, 49, 50, 52, 53, 55, 56, 58, 59, 61, 62, 64, 65, 67, 68, 42, 39, 40, 41] [57, 58, 67, 62, 77, 78, 79, 73, 87, 80, 81, 82, 83, 84, 85, 86, 96, 89, 90, 91, 92, 93, 94, 95, 105, 98, 99, 100, 101, 102, 103, 104, 114, 107, 108, 109, 110, 111, 112, 113, 123, 116, 117, 118, 119, 120, 121, 122, 132, 125, 126, 127, 128, 129, 130, 131, 141, 134, 135, 136, 137, 138, 139, 140, 150, 143, 144, 145, 146, 147, 148, 149, 20, 76, 74, 75, 72, 1059, 1060, 1061, 1063, 1460] s s4 := by rw [hs4]; exact fm_D Gs1 (show 460 + 1000 ∈ _ by decide)
  refine z_goto X (t := 21) rfl rfl (z_const X rfl ?_)
  exact w_iret X.1 q hRt rfl (ax_d X (show cdA 344 22 = some (.ireturn, 1, 0, 0, 0) from rfl)) (show 4 ≤ 4 by decide) (show 24 ≤ 24 by decide) ⟨A, _, hA, rfl, Is4, Fs4, 0, rfl, (by decide), trivial⟩
set_option maxRecDepth 4000 in
theorem lw_fit (G : GX l s0 D tys a0 dT) (I : Bd s) {x : Int} (p0 : rng x) : CTL l s0 D A dT 346 (rmN 346) [.ref (A 0), .int (Int32.ofInt x), .ref (A 517)] s (fun o t => Bd t ∧ Fm [71, 72] [156, 155, 1460] s t ∧ ∃ e, o = .inl (some (.int (Int32.ofInt e))) ∧ rng e ∧ (True)) := by
  refine ctL_of G (by decide) (Nat.le_of_ble_eq_true rfl) (by decide) rfl (fun k X E ET hRt hEx q => ?_)
  show WS k 0 [(0, .ref (A 0)), (1, .int (Int32.ofInt x)), (2, .ref (A 517))] [] _ 0 0
  have F : Fm [71, 72] [156, 155, 1460] s s := fm_rf _ _ s
  have hA := swA_rf A
  refine z_aload_n X (x := A 517) rfl (List.Mem.tail _ (List.Mem.tail _ (List.Mem.head _))) (z_const X rfl (z_aload_n X (x := A 0) rfl (List.Mem.head _) (z_load_n X (x := x) rfl (List.Mem.tail _ (List.Mem.head _)) (z_callV X 0 (rm := rmN 172) (As := [.int (Int32.ofInt x)]) (st := [.int (Int32.ofInt 0), .ref (A 517)]) rfl rfl (by decide) rfl (by rw [E.1, E.2.1, E.2.2.1]; exact cs_fit G I (by omega)) ⟨by rw [E.2.2.2]; exact (show (rmN 172).frames + 1 ≤ (rmN 346).frames by decide), by rw [E.2.2.2]; exact (show 8 + (mNL (miB 172) + 11) + (rmN 172).locals ≤ (rmN 346).locals by decide), by rw [E.2.2.2]; exact (show 0 + (rmN 172).cells ≤ (rmN 346).cells by decide), by rw [E.2.2.2]; exact (show 0 + (rmN 172).slots ≤ (rmN 346).slots by decide)⟩ (Nat.le_of_ble_eq_true rfl) (fun vv s1 hq => ?_) (fun ee s1 hq => ?_)))))
  rotate_left
  · obtain ⟨Is1, Fs1, (⟨e2, hv, hrs1, hps1⟩ | ⟨xx, hv, hps1⟩)⟩ := hq
    · cases hv
    · cases hv
      rcases (show xx = 0 by omega) with gx
      ·
        subst gx
        have Gs1 := fm_tq F Fs1 rfl rfl
        refine (hEx 4 0).2 12 rfl _ _ _ _ _ (fun q1 => ?_)
        show WS k 12 [(0, .ref (A 0)), (1, .int (Int32.ofInt x)), (2, .ref (A 517))] [.ref q1] (Wd A dT s1) 1 6
        refine z_astore_n X (lv' := [(3, .ref q1), (0, .ref (A 0)), (1, .int (Int32.ofInt x)), (2, .ref (A 517))]) rfl (by decide) (fun _ h => h) (z_const X rfl ?_)
        exact w_iret X.1 q hRt rfl (ax_d X (show cdA 346 14 = some (.ireturn, 1, 0, 0, 0) from rfl)) (show 1 ≤ 1 by decide) (show 6 ≤ 6 by decide) ⟨A, _, hA, rfl, Is1, Gs1, 1, rfl, (by decide), trivial⟩
  obtain ⟨Is1, Fs1, (⟨e2, hv, hrs1, hps1⟩ | ⟨xx, hv, hps1⟩)⟩ := hq
  rotate_left
  · cases hv
  cases hv
  have Gs1 := fm_tq F Fs1 rfl rfl
  show WS k 7 [(0, .ref (A 0)), (1, .int (Int32.ofInt x)), (2, .ref (A 517))] [.int (Int32.ofInt e2), .int (Int32.ofInt 0), .ref (A 517)] (Wd A dT s1) 1 6
  refine w_i2l X.1 (ax_d X (show cdA 346 7 = some (.i2l, 1, 0, 0, 0) from rfl)) (z_anyJ (fun j3 => ?_))
  refine z_last X 517 rfl (c518_ok rfl) rfl (by decide) (show 0 < 1 by decide) (cbig_ok rfl) (wd_gen (fun s4 hs4 => ?_))
  have Is4 : Bd s4 := eqB hs4 (bd_D Is1)
  have Fs4 : Fm [71, 72] [156, 155, 1460] s s4 := by rw [hs4]; exact fm_D Gs1 (show 460 + 1000 ∈ _ by decide)
  refine z_goto X (t := 15) rfl rfl (z_const X rfl ?_)
  exact w_iret X.1 q hRt rfl (ax_d X (show cdA 346 16 = some (.ireturn, 1, 0, 0, 0) from rfl)) (show 1 ≤ 1 by decide) (show 6 ≤ 6 by decide) ⟨A, _, hA, rfl, Is4, Fs4, 0, rfl, (by decide), trivial⟩
set_option maxRecDepth 4000 in
theorem lw_lead (G : GX l s0 D tys a0 dT) (I : Bd s) {x y z w : Int} (p0 : rng x) (p1 : rng y) (p2 : rng z) (p3 : w = 0 ∨ w = 1) : CTL l s0 D A dT 347 (rmN 347) [.ref (A 0), .int (Int32.ofInt x), .int (Int32.ofInt y), .int (Int32.ofInt z), .int (Int32.ofInt w), .ref (A 517)] s (fun o t => Bd t ∧ Fm [22, 23] [33, 26, 27, 28, 29, 30, 31, 32, 20, 34, 1460] s t ∧ ∃ e, o = .inl (some (.int (Int32.ofInt e))) ∧ rng e ∧ (True)) := by
  refine ctL_of G (by decide) (Nat.le_of_ble_eq_true rfl) (by decide) rfl (fun k X E ET hRt hEx q => ?_)
  show WS k 0 [(0, .ref (A 0)), (1, .int (Int32.ofInt x)), (2, .int (Int32.ofInt y)), (3, .int (Int32.ofInt z)), (4, .int (Int32.ofInt w)), (5, .ref (A 517))] [] _ 0 0
  have F : Fm [22, 23] [33, 26, 27, 28, 29, 30, 31, 32, 20, 34, 1460] s s := fm_rf _ _ s
  have hA := swA_rf A
  refine z_aload X (x := A 517) rfl (List.Mem.tail _ (List.Mem.tail _ (List.Mem.tail _ (List.Mem.tail _ (List.Mem.tail _ (List.Mem.head _)))))) (z_const X rfl (z_aload_n X (x := A 0) rfl (List.Mem.head _) (z_load_n X (x := x) rfl (List.Mem.tail _ (List.Mem.head _)) (z_load_n X (x := y) rfl (List.Mem.tail _ (List.Mem.tail _ (List.Mem.head _))) (z_load_n X (x := z) rfl (List.Mem.tail _ (List.Mem.tail _ (List.Mem.tail _ (List.Mem.head _)))) (z_load X (x := w) rfl (List.Mem.tail _ (List.Mem.tail _ (List.Mem.tail _ (List.Mem.tail _ (List.Mem.head _))))) (z_callV X 0 (rm := rmN 173) (As := [.int (Int32.ofInt x), .int (Int32.ofInt y), .int (Int32.ofInt z), .int (Int32.ofInt w)]) (st := [.int (Int32.ofInt 0), .ref (A 517)]) rfl rfl (by decide) rfl (by rw [E.1, E.2.1, E.2.2.1]; exact cs_lead G I (by first | (clear p3; omega) | omega) (by first | (clear p3; omega) | omega) (by first | (clear p3; omega) | omega) (by first | (clear p3; omega) | omega)) ⟨by rw [E.2.2.2]; exact (show (rmN 173).frames + 1 ≤ (rmN 347).frames by decide), by rw [E.2.2.2]; exact (show 8 + (mNL (miB 173) + 11) + (rmN 173).locals ≤ (rmN 347).locals by decide), by rw [E.2.2.2]; exact (show 0 + (rmN 173).cells ≤ (rmN 347).cells by decide), by rw [E.2.2.2]; exact (show 0 + (rmN 173).slots ≤ (rmN 347).slots by decide)⟩ (Nat.le_of_ble_eq_true rfl) (fun vv s1 hq => ?_) (fun ee s1 hq => ?_))))))))
  rotate_left
  · obtain ⟨Is1, Fs1, (⟨e2, hv, hrs1, hps1⟩ | ⟨xx, hv, hps1⟩)⟩ := hq
    · cases hv
    · cases hv
      rcases (show xx = 0 by omega) with gx
      ·
        subst gx
        have Gs1 := fm_tq F Fs1 rfl rfl
        refine (hEx 9 0).2 17 rfl _ _ _ _ _ (fun q1 => ?_)
        show WS k 17 [(0, .ref (A 0)), (1, .int (Int32.ofInt x)), (2, .int (Int32.ofInt y)), (3, .int (Int32.ofInt z)), (4, .int (Int32.ofInt w)), (5, .ref (A 517))] [.ref q1] (Wd A dT s1) 2 12
        refine z_astore X (lv' := [(6, .ref q1), (0, .ref (A 0)), (1, .int (Int32.ofInt x)), (2, .int (Int32.ofInt y)), (3, .int (Int32.ofInt z)), (4, .int (Int32.ofInt w)), (5, .ref (A 517))]) rfl (by decide) (fun _ h => h) (z_const X rfl ?_)
        exact w_iret X.1 q hRt rfl (ax_d X (show cdA 347 20 = some (.ireturn, 1, 0, 0, 0) from rfl)) (show 2 ≤ 2 by decide) (show 12 ≤ 12 by decide) ⟨A, _, hA, rfl, Is1, Gs1, 1, rfl, (by decide), trivial⟩
  obtain ⟨Is1, Fs1, (⟨e2, hv, hrs1, hps1⟩ | ⟨xx, hv, hps1⟩)⟩ := hq
  rotate_left
  · cases hv
  cases hv
  have Gs1 := fm_tq F Fs1 rfl rfl
  show WS k 12 [(0, .ref (A 0)), (1, .int (Int32.ofInt x)), (2, .int (Int32.ofInt y)), (3, .int (Int32.ofInt z)), (4, .int (Int32.ofInt w)), (5, .ref (A 517))] [.int (Int32.ofInt e2), .int (Int32.ofInt 0), .ref (A 517)] (Wd A dT s1) 2 12
  refine w_i2l X.1 (ax_d X (show cdA 347 12 = some (.i2l, 1, 0, 0, 0) from rfl)) (z_anyJ (fun j3 => ?_))
  refine z_last X 517 rfl (c518_ok rfl) rfl (by decide) (show 0 < 1 by decide) (cbig_ok rfl) (wd_gen (fun s4 hs4 => ?_))
  have Is4 : Bd s4 := eqB hs4 (bd_D Is1)
  have Fs4 : Fm [22, 23] [33, 26, 27, 28, 29, 30, 31, 32, 20, 34, 1460] s s4 := by rw [hs4]; exact fm_D Gs1 (show 460 + 1000 ∈ _ by decide)
  refine z_goto X (t := 21) rfl rfl (z_const X rfl ?_)
  exact w_iret X.1 q hRt rfl (ax_d X (show cdA 347 22 = some (.ireturn, 1, 0, 0, 0) from rfl)) (show 2 ≤ 2 by decide) (show 12 ≤ 12 by decide) ⟨A, _, hA, rfl, Is4, Fs4, 0, rfl, (by decide), trivial⟩
set_option maxRecDepth 4000 in
theorem lw_quiet (G : GX l s0 D tys a0 dT) (I : Bd s) {x : Int} (p0 : rng x) : CTL l s0 D A dT 349 (rmN 349) [.ref (A 0), .int (Int32.ofInt x), .ref (A 517)] s (fun o t => Bd t ∧ Fm [] [1460] s t ∧ ∃ e, o = .inl (some (.int (Int32.ofInt e))) ∧ rng e ∧ (True)) := by
  refine ctL_of G (by decide) (Nat.le_of_ble_eq_true rfl) (by decide) rfl (fun k X E ET hRt hEx q => ?_)
  show WS k 0 [(0, .ref (A 0)), (1, .int (Int32.ofInt x)), (2, .ref (A 517))] [] _ 0 0
  have F : Fm [] [1460] s s := fm_rf _ _ s
  have hA := swA_rf A
  refine z_aload_n X (x := A 517) rfl (List.Mem.tail _ (List.Mem.tail _ (List.Mem.head _))) (z_const X rfl (z_aload_n X (x := A 0) rfl (List.Mem.head _) (z_load_n X (x := x) rfl (List.Mem.tail _ (List.Mem.head _)) (z_callV X 0 (rm := rmN 175) (As := [.int (Int32.ofInt x)]) (st := [.int (Int32.ofInt 0), .ref (A 517)]) rfl rfl (by decide) rfl (by rw [E.1, E.2.1, E.2.2.1]; exact cs_quiet G I (by omega)) ⟨by rw [E.2.2.2]; exact (show (rmN 175).frames + 1 ≤ (rmN 349).frames by decide), by rw [E.2.2.2]; exact (show 8 + (mNL (miB 175) + 11) + (rmN 175).locals ≤ (rmN 349).locals by decide), by rw [E.2.2.2]; exact (show 0 + (rmN 175).cells ≤ (rmN 349).cells by decide), by rw [E.2.2.2]; exact (show 0 + (rmN 175).slots ≤ (rmN 349).slots by decide)⟩ (Nat.le_of_ble_eq_true rfl) (fun vv s1 hq => ?_) (fun ee s1 hq => ?_)))))
  rotate_left
  · obtain ⟨Is1, Fs1, (⟨e2, hv, hrs1, hps1⟩ | ⟨xx, hv, hps1⟩)⟩ := hq
    · cases hv
    · cases hv
      rcases (show xx = 2 by omega) with gx
      ·
        subst gx
        have Gs1 := fm_tq F Fs1 rfl rfl
        refine (hEx 4 2).2 12 rfl _ _ _ _ _ (fun q1 => ?_)
        show WS k 12 [(0, .ref (A 0)), (1, .int (Int32.ofInt x)), (2, .ref (A 517))] [.ref q1] (Wd A dT s1) 1 6
        refine z_astore_n X (lv' := [(3, .ref q1), (0, .ref (A 0)), (1, .int (Int32.ofInt x)), (2, .ref (A 517))]) rfl (by decide) (fun _ h => h) (z_const X rfl ?_)
        exact w_iret X.1 q hRt rfl (ax_d X (show cdA 349 14 = some (.ireturn, 1, 0, 0, 0) from rfl)) (show 1 ≤ 1 by decide) (show 6 ≤ 6 by decide) ⟨A, _, hA, rfl, Is1, Gs1, 1, rfl, (by decide), trivial⟩
  obtain ⟨Is1, Fs1, (⟨e2, hv, hrs1, hps1⟩ | ⟨xx, hv, hps1⟩)⟩ := hq
  rotate_left
  · cases hv
  cases hv
  have Gs1 := fm_tq F Fs1 rfl rfl
  show WS k 7 [(0, .ref (A 0)), (1, .int (Int32.ofInt x)), (2, .ref (A 517))] [.int (Int32.ofInt e2), .int (Int32.ofInt 0), .ref (A 517)] (Wd A dT s1) 1 6
  refine w_i2l X.1 (ax_d X (show cdA 349 7 = some (.i2l, 1, 0, 0, 0) from rfl)) (z_anyJ (fun j3 => ?_))
  refine z_last X 517 rfl (c518_ok rfl) rfl (by decide) (show 0 < 1 by decide) (cbig_ok rfl) (wd_gen (fun s4 hs4 => ?_))
  have Is4 : Bd s4 := eqB hs4 (bd_D Is1)
  have Fs4 : Fm [] [1460] s s4 := by rw [hs4]; exact fm_D Gs1 (show 460 + 1000 ∈ _ by decide)
  refine z_goto X (t := 15) rfl rfl (z_const X rfl ?_)
  exact w_iret X.1 q hRt rfl (ax_d X (show cdA 349 16 = some (.ireturn, 1, 0, 0, 0) from rfl)) (show 1 ≤ 1 by decide) (show 6 ≤ 6 by decide) ⟨A, _, hA, rfl, Is4, Fs4, 0, rfl, (by decide), trivial⟩
end M87
end
section
theorem oq_bfa51c91 {a1 a2 : Int} {n0 : Nat} (h0 : ((n0 : Nat) : Int) < 0) : a1 ≠ a2 := by omega
theorem oq_d0f089f6 {a1 : Int} {n0 : Nat} (h0 : (¬ (n0 = (a1 : Int).toNat))) (h1 : ((n0 : Nat) : Int) < (a1 + 1)) : ((n0 : Nat) : Int) < a1 := by omega
theorem oq_c51ca0d4 {a1 a2 : Int} {n0 : Nat} (h0 : ((n0 : Nat) : Int) < a1) (h1 : a1 ≤ a2) : ((n0 : Nat) : Int) < a2 := by omega
theorem oq_b6311778 {a0 a1 a2 a3 : Int} (h0 : ((a0 < a1 ∧ a2 = 0) ∨ ((a1 ≤ a0 ∧ (a3 < a0 ∧ a2 = 0)) ∨ (a1 ≤ a0 ∧ (a0 ≤ a3 ∧ a2 = 1))))) : 0 ≤ a2 := by omega
theorem oq_fa974669 {a0 a1 a2 a3 : Int} (h0 : ((a0 < a1 ∧ a2 = 0) ∨ ((a1 ≤ a0 ∧ (a3 < a0 ∧ a2 = 0)) ∨ (a1 ≤ a0 ∧ (a0 ≤ a3 ∧ a2 = 1))))) : a2 ≤ 1 := by omega
theorem oq_77725ddd {a0 a1 : Int} (h0 : ((a0 = 0 ∧ a1 = 0) ∨ (a0 ≠ 0 ∧ a1 = 1))) : 0 ≤ a1 := by omega
theorem oq_baf83cd6 {a0 a1 : Int} (h0 : ((a0 = 0 ∧ a1 = 0) ∨ (a0 ≠ 0 ∧ a1 = 1))) : a1 ≤ 1 := by omega
theorem oq_3fe98d9b {a0 a1 a2 a3 : Int} (h0 : a0 = 0) (h1 : (((1 : Int) = 1 ∧ (a1 = 0 ∧ (a2 = 1 ∧ a0 = 1))) ∨ (((1 : Int) = 0 ∨ a1 ≠ 0) ∧ (a2 = a1 ∧ ((a0 = 0 ∧ a1 = 0) ∨ (a0 = 1 ∧ a1 ≠ 0)))))) (h2 : a1 = 0) : 0 ≤ a3 := by omega
theorem oq_828a1831 {a0 a1 a2 a3 : Int} (h0 : a0 = 0) (h1 : (((1 : Int) = 1 ∧ (a1 = 0 ∧ (a2 = 1 ∧ a0 = 1))) ∨ (((1 : Int) = 0 ∨ a1 ≠ 0) ∧ (a2 = a1 ∧ ((a0 = 0 ∧ a1 = 0) ∨ (a0 = 1 ∧ a1 ≠ 0)))))) (h2 : a1 = 0) : a3 < 8 := by omega
theorem oq_9653948d {a0 a1 a2 a3 : Int} (h0 : a0 = 0) (h1 : (((1 : Int) = 1 ∧ (a1 = 0 ∧ (a2 = 1 ∧ a0 = 1))) ∨ (((1 : Int) = 0 ∨ a1 ≠ 0) ∧ (a2 = a1 ∧ ((a0 = 0 ∧ a1 = 0) ∨ (a0 = 1 ∧ a1 ≠ 0)))))) (h2 : a1 = 0) : (a3 : Int).toNat < 8 := by omega
theorem oq_6a3c7244 {a0 a1 a2 a3 : Int} (h0 : a0 = 0) (h1 : (((1 : Int) = 1 ∧ (a1 = 0 ∧ (a2 = 1 ∧ a0 = 1))) ∨ (((1 : Int) = 0 ∨ a1 ≠ 0) ∧ (a2 = a1 ∧ ((a0 = 0 ∧ a1 = 0) ∨ (a0 = 1 ∧ a1 ≠ 0)))))) (h2 : a1 = 0) : a3 ≤ 9999 := by omega
theorem oq_d56cd6cd {a0 a1 a2 a3 : Int} (h0 : a0 = 0) (h1 : (((1 : Int) = 1 ∧ (a1 = 0 ∧ (a2 = 1 ∧ a0 = 1))) ∨ (((1 : Int) = 0 ∨ a1 ≠ 0) ∧ (a2 = a1 ∧ ((a0 = 0 ∧ a1 = 0) ∨ (a0 = 1 ∧ a1 ≠ 0)))))) (h2 : a1 = 0) : a3 ≤ 7 := by omega
theorem oq_36519d78 {a0 a1 a2 a3 : Int} (h0 : a0 = a1) (h1 : a2 = 0) (h2 : 0 ≤ a1) (h3 : (((1 : Int) = 1 ∧ (a3 = 0 ∧ (a1 = 1 ∧ a2 = 1))) ∨ (((1 : Int) = 0 ∨ a3 ≠ 0) ∧ (a1 = a3 ∧ ((a2 = 0 ∧ a3 = 0) ∨ (a2 = 1 ∧ a3 ≠ 0)))))) (h4 : a3 = 0) : a0 = 0 := by omega
theorem oq_e8001c64 {a0 a1 a2 : Int} (h0 : (((1 : Int) = 1 ∧ (a0 = 0 ∧ (a1 = 1 ∧ a2 = 1))) ∨ (((1 : Int) = 0 ∨ a0 ≠ 0) ∧ (a1 = a0 ∧ ((a2 = 0 ∧ a0 = 0) ∨ (a2 = 1 ∧ a0 ≠ 0)))))) (h1 : a0 = 0) : a1 = 1 := by omega
theorem oq_c272ea18 {a0 a1 : Int} (h0 : (a0 < 0 ∨ 7 < a0)) : (a0 < 0 ∨ (7 < a0 ∨ (a1 < 0 ∨ 9999 < a1))) := by omega
theorem oq_e5adbe74  : (0 : Int) < 1 := by omega

theorem oq_0fa7b120 {a0 a1 a2 a3 : Int} (h0 : a0 ≤ 1) (h1 : 0 ≤ a0) (h2 : ((a1 = 0 ∧ a0 = 0) ∨ (a1 ≠ 0 ∧ a0 = 1))) (h3 : 0 ≤ a1) (h4 : a2 = 0) : ((a2 = 1 ∧ (a1 = 0 ∧ (a1 = a3 ∧ a0 = 1))) ∨ ((a2 = 0 ∨ a1 ≠ 0) ∧ (a1 = a1 ∧ ((a0 = 0 ∧ a1 = 0) ∨ (a0 = 1 ∧ a1 ≠ 0))))) := by omega
theorem oq_7136ffd4 {a0 a1 a2 a3 : Int} (h0 : a0 ≤ 1) (h1 : ((a1 = 0 ∧ a0 = 0) ∨ (a1 ≠ 0 ∧ a0 = 1))) (h2 : 0 ≤ a1) (h3 : a1 ≠ 0) : ((a2 = 1 ∧ (a1 = 0 ∧ (a1 = a3 ∧ a0 = 1))) ∨ ((a2 = 0 ∨ a1 ≠ 0) ∧ (a1 = a1 ∧ ((a0 = 0 ∧ a1 = 0) ∨ (a0 = 1 ∧ a1 ≠ 0))))) := by omega
theorem oq_add61c1a {a0 a1 a2 a3 a4 : Int} (h0 : a0 ≤ 1) (h1 : ((a1 = 0 ∧ a0 = 0) ∨ (a1 ≠ 0 ∧ a0 = 1))) (h2 : a1 = a2) (h3 : a3 = 0) (h4 : a4 ≠ 0) (h5 : 1 ≤ a2) (h6 : (a4 = 0 ∨ a4 = 1)) : ((a4 = 1 ∧ (a3 = 0 ∧ (a1 = a2 ∧ a0 = 1))) ∨ ((a4 = 0 ∨ a3 ≠ 0) ∧ (a1 = a3 ∧ ((a0 = 0 ∧ a3 = 0) ∨ (a0 = 1 ∧ a3 ≠ 0))))) := by omega
theorem oq_674898f9 {a0 a1 a2 a3 : Int} (h0 : a0 = 0) (h1 : ((1 = 1 ∧ (a1 = 0 ∧ (a2 = 1 ∧ a0 = 1))) ∨ ((1 = 0 ∨ a1 ≠ 0) ∧ (a2 = a1 ∧ ((a0 = 0 ∧ a1 = 0) ∨ (a0 = 1 ∧ a1 ≠ 0)))))) (h2 : a1 = 0) : 0 ≤ a3 := by omega
theorem oq_4be661e3 {a0 a1 a2 a3 a4 a5 a6 : Int} (h0 : a0 = 0) (h1 : ((1 = 1 ∧ (a1 = 0 ∧ (a2 = 1 ∧ a0 = 1))) ∨ ((1 = 0 ∨ a1 ≠ 0) ∧ (a2 = a1 ∧ ((a0 = 0 ∧ a1 = 0) ∨ (a0 = 1 ∧ a1 ≠ 0)))))) (h2 : a1 = 0) : ((0 ≤ a3 ∧ (a3 < 16777216 ∧ (a4 = 0 ∧ ((a5 = 6 ∧ ((a6 - 1) = (-1) ∧ a6 = 6)) ∨ (a5 ≠ 6 ∧ ((a6 - 1) = a5 ∧ a6 = (a5 + 1))))))) ∨ ((a3 < 0 ∨ 16777216 ≤ a3) ∧ (a4 = 1 ∧ a6 = a5))) := by omega
theorem oq_a9b13c05 {a0 a1 a2 a3 a4 a5 : Int} (h0 : a0 = 0) (h1 : ((1 = 1 ∧ (a1 = 0 ∧ (a2 = 1 ∧ a0 = 1))) ∨ ((1 = 0 ∨ a1 ≠ 0) ∧ (a2 = a1 ∧ ((a0 = 0 ∧ a1 = 0) ∨ (a0 = 1 ∧ a1 ≠ 0)))))) (h2 : a1 = 0) : ((0 ≤ a3 ∧ (a3 < 16777216 ∧ (a2 = 0 ∧ ((a4 = 6 ∧ ((-1) = (-1) ∧ a5 = 6)) ∨ (a4 ≠ 6 ∧ ((-1) = a4 ∧ a5 = (a4 + 1))))))) ∨ ((a3 < 0 ∨ 16777216 ≤ a3) ∧ (a2 = 1 ∧ a5 = a4))) := by omega
theorem oq_33cebf6a {a0 a1 a2 a3 a4 a5 a6 : Int} (h0 : a0 ≠ 0) (h1 : a1 = a2) (h2 : ((1 = 1 ∧ (a3 = 0 ∧ (a4 = 1 ∧ a0 = 1))) ∨ ((1 = 0 ∨ a3 ≠ 0) ∧ (a4 = a3 ∧ ((a0 = 0 ∧ a3 = 0) ∨ (a0 = 1 ∧ a3 ≠ 0)))))) (h3 : a5 < 0) (h4 : a2 = a6) (h5 : a3 = 0) : ((0 ≤ a5 ∧ (a5 < 16777216 ∧ (a4 = 0 ∧ ((a6 = 6 ∧ (0 = (-1) ∧ a1 = 6)) ∨ (a6 ≠ 6 ∧ (0 = a6 ∧ a1 = (a6 + 1))))))) ∨ ((a5 < 0 ∨ 16777216 ≤ a5) ∧ (a4 = 1 ∧ a1 = a6))) := by omega
theorem oq_f39aaab5 {a0 a1 a2 a3 a4 : Int} (h0 : a0 = 0) (h1 : ((a1 = 1 ∧ (a2 = 0 ∧ (a3 = 1 ∧ a0 = 1))) ∨ ((a1 = 0 ∨ a2 ≠ 0) ∧ (a3 = a2 ∧ ((a0 = 0 ∧ a2 = 0) ∨ (a0 = 1 ∧ a2 ≠ 0)))))) (h2 : ((a4 < 16777216 ∧ a1 = 0) ∨ (16777216 ≤ a4 ∧ a1 = 1))) (h3 : a2 = 0) : a4 ≤ 16777215 := by omega
theorem oq_32729de4 {a0 a1 a2 a3 a4 a5 a6 a7 a8 a9 a10 a11 : Int} (h0 : a0 ≤ 6) (h1 : a1 = a2) (h2 : a0 = (a3 + 1)) (h3 : a3 = a4) (h4 : a2 = a5) (h5 : a6 = 0) (h6 : a4 = a7) (h7 : 0 ≤ a5) (h8 : ((a8 = 1 ∧ (a9 = 0 ∧ (a5 = 1 ∧ a6 = 1))) ∨ ((a8 = 0 ∨ a9 ≠ 0) ∧ (a5 = a9 ∧ ((a6 = 0 ∧ a9 = 0) ∨ (a6 = 1 ∧ a9 ≠ 0)))))) (h9 : ((a10 < 16777216 ∧ a8 = 0) ∨ (16777216 ≤ a10 ∧ a8 = 1))) (h10 : 0 ≤ a10) (h11 : a7 = a11) (h12 : a9 = 0) : ((0 ≤ a10 ∧ (a10 < 16777216 ∧ (a1 = 0 ∧ ((a11 = 6 ∧ ((a0 - 1) = (-1) ∧ a0 = 6)) ∨ (a11 ≠ 6 ∧ ((a0 - 1) = a11 ∧ a0 = (a11 + 1))))))) ∨ ((a10 < 0 ∨ 16777216 ≤ a10) ∧ (a1 = 1 ∧ a0 = a11))) := by omega
theorem oq_f5100887 {a0 a1 a2 a3 a4 a5 a6 a7 : Int} (h0 : a0 = 6) (h1 : a1 = 0) (h2 : a0 = a2) (h3 : 0 ≤ a3) (h4 : ((a4 = 1 ∧ (a5 = 0 ∧ (a3 = 1 ∧ a1 = 1))) ∨ ((a4 = 0 ∨ a5 ≠ 0) ∧ (a3 = a5 ∧ ((a1 = 0 ∧ a5 = 0) ∨ (a1 = 1 ∧ a5 ≠ 0)))))) (h5 : ((a6 < 16777216 ∧ a4 = 0) ∨ (16777216 ≤ a6 ∧ a4 = 1))) (h6 : 0 ≤ a6) (h7 : a2 = a7) (h8 : a5 = 0) (h9 : a7 ≤ 6) : ((0 ≤ a6 ∧ (a6 < 16777216 ∧ (a3 = 0 ∧ ((a7 = 6 ∧ ((-1) = (-1) ∧ a0 = 6)) ∨ (a7 ≠ 6 ∧ ((-1) = a7 ∧ a0 = (a7 + 1))))))) ∨ ((a6 < 0 ∨ 16777216 ≤ a6) ∧ (a3 = 1 ∧ a0 = a7))) := by omega
theorem oq_4670b00c {a0 a1 a2 a3 a4 a5 a6 a7 : Int} (h0 : a0 ≠ 0) (h1 : a1 = a2) (h2 : ((a3 = 1 ∧ (a4 = 0 ∧ (a5 = 1 ∧ a0 = 1))) ∨ ((a3 = 0 ∨ a4 ≠ 0) ∧ (a5 = a4 ∧ ((a0 = 0 ∧ a4 = 0) ∨ (a0 = 1 ∧ a4 ≠ 0)))))) (h3 : ((a6 < 16777216 ∧ a3 = 0) ∨ (16777216 ≤ a6 ∧ a3 = 1))) (h4 : a2 = a7) (h5 : a4 = 0) : ((0 ≤ a6 ∧ (a6 < 16777216 ∧ (a5 = 0 ∧ ((a7 = 6 ∧ (0 = (-1) ∧ a1 = 6)) ∨ (a7 ≠ 6 ∧ (0 = a7 ∧ a1 = (a7 + 1))))))) ∨ ((a6 < 0 ∨ 16777216 ≤ a6) ∧ (a5 = 1 ∧ a1 = a7))) := by omega
theorem oq_87396caf {a0 : Int} (h0 : a0 ≤ 16777215) : a0 < 16777216 := by omega
theorem oq_76903a84 {a0 a1 a2 a3 : Int} (h0 : a0 ≤ 6) (h1 : ((a1 ≤ 5 ∧ (a0 = (a1 + 1) ∧ a2 = a1)) ∨ (a1 = 6 ∧ (a0 = 6 ∧ a2 = (-1))))) (h2 : a1 = a3) (h3 : a3 ≤ 6) : ((a3 = 6 ∧ (a2 = (-1) ∧ a0 = 6)) ∨ (a3 ≠ 6 ∧ (a2 = a3 ∧ a0 = (a3 + 1)))) := by omega
theorem oq_48516caf {a0 a1 a2 a3 : Int} (h0 : a0 = 0) (h1 : ((1 = 1 ∧ (a1 = 0 ∧ (a2 = 1 ∧ a0 = 1))) ∨ ((1 = 0 ∨ a1 ≠ 0) ∧ (a2 = a1 ∧ ((a0 = 0 ∧ a1 = 0) ∨ (a0 = 1 ∧ a1 ≠ 0)))))) (h2 : a1 = 0) : a3 ≤ 23 := by omega
theorem oq_3904add8 {a0 a1 a2 a3 a4 a5 : Int} (h0 : a0 = a1) (h1 : a1 = a2) (h2 : a2 = a3) (h3 : a4 = 0) (h4 : 0 ≤ a3) (h5 : ((1 = 1 ∧ (a5 = 0 ∧ (a3 = 1 ∧ a4 = 1))) ∨ ((1 = 0 ∨ a5 ≠ 0) ∧ (a3 = a5 ∧ ((a4 = 0 ∧ a5 = 0) ∨ (a4 = 1 ∧ a5 ≠ 0)))))) (h6 : a5 = 0) : a0 = 0 := by omega
theorem oq_c19f6a79 {a0 a1 a2 a3 a4 a5 a6 a7 a8 : Int} (h0 : a0 = 0) (h1 : ((1 = 1 ∧ (a1 = 0 ∧ (a2 = 1 ∧ a0 = 1))) ∨ ((1 = 0 ∨ a1 ≠ 0) ∧ (a2 = a1 ∧ ((a0 = 0 ∧ a1 = 0) ∨ (a0 = 1 ∧ a1 ≠ 0)))))) (h2 : a1 = 0) : ((0 ≤ a3 ∧ (a3 ≤ 7 ∧ (0 ≤ a4 ∧ (a4 ≤ 23 ∧ (0 ≤ a5 ∧ (a5 ≤ 9999 ∧ (a6 = 0 ∧ ((a7 = 40 ∧ ((a8 - 1) = (-1) ∧ a8 = 40)) ∨ (a7 ≠ 40 ∧ ((a8 - 1) = a7 ∧ a8 = (a7 + 1))))))))))) ∨ ((a3 < 0 ∨ (7 < a3 ∨ (a4 < 0 ∨ (23 < a4 ∨ (a5 < 0 ∨ 9999 < a5))))) ∧ (a6 = 1 ∧ a8 = a7))) := by omega
theorem oq_79b67d7f {a0 a1 a2 a3 a4 a5 a6 a7 : Int} (h0 : a0 = 0) (h1 : ((1 = 1 ∧ (a1 = 0 ∧ (a2 = 1 ∧ a0 = 1))) ∨ ((1 = 0 ∨ a1 ≠ 0) ∧ (a2 = a1 ∧ ((a0 = 0 ∧ a1 = 0) ∨ (a0 = 1 ∧ a1 ≠ 0)))))) (h2 : a1 = 0) : ((0 ≤ a3 ∧ (a3 ≤ 7 ∧ (0 ≤ a4 ∧ (a4 ≤ 23 ∧ (0 ≤ a5 ∧ (a5 ≤ 9999 ∧ (a2 = 0 ∧ ((a6 = 40 ∧ ((-1) = (-1) ∧ a7 = 40)) ∨ (a6 ≠ 40 ∧ ((-1) = a6 ∧ a7 = (a6 + 1))))))))))) ∨ ((a3 < 0 ∨ (7 < a3 ∨ (a4 < 0 ∨ (23 < a4 ∨ (a5 < 0 ∨ 9999 < a5))))) ∧ (a2 = 1 ∧ a7 = a6))) := by omega
theorem oq_c407e084 {a0 a1 a2 a3 a4 a5 a6 a7 a8 a9 : Int} (h0 : a0 ≠ 0) (h1 : a1 = a2) (h2 : ((1 = 1 ∧ (a3 = 0 ∧ (a4 = 1 ∧ a0 = 1))) ∨ ((1 = 0 ∨ a3 ≠ 0) ∧ (a4 = a3 ∧ ((a0 = 0 ∧ a3 = 0) ∨ (a0 = 1 ∧ a3 ≠ 0)))))) (h3 : a5 = 0) (h4 : ((a5 = 1 ∧ (0 ≤ a6 ∧ a6 ≤ 7)) ∨ (a5 = 0 ∧ (a6 < 0 ∨ 7 < a6)))) (h5 : a2 = a7) (h6 : a3 = 0) : ((0 ≤ a6 ∧ (a6 ≤ 7 ∧ (0 ≤ a8 ∧ (a8 ≤ 23 ∧ (0 ≤ a9 ∧ (a9 ≤ 9999 ∧ (a4 = 0 ∧ ((a7 = 40 ∧ (0 = (-1) ∧ a1 = 40)) ∨ (a7 ≠ 40 ∧ (0 = a7 ∧ a1 = (a7 + 1))))))))))) ∨ ((a6 < 0 ∨ (7 < a6 ∨ (a8 < 0 ∨ (23 < a8 ∨ (a9 < 0 ∨ 9999 < a9))))) ∧ (a4 = 1 ∧ a1 = a7))) := by omega
theorem oq_a986e2a9 {a0 a1 a2 a3 a4 a5 a6 a7 a8 a9 : Int} (h0 : a0 ≠ 0) (h1 : a1 = a2) (h2 : ((1 = 1 ∧ (a3 = 0 ∧ (a4 = 1 ∧ a0 = 1))) ∨ ((1 = 0 ∨ a3 ≠ 0) ∧ (a4 = a3 ∧ ((a0 = 0 ∧ a3 = 0) ∨ (a0 = 1 ∧ a3 ≠ 0)))))) (h3 : a5 = 0) (h4 : ((a5 = 1 ∧ (0 ≤ a6 ∧ a6 ≤ 23)) ∨ (a5 = 0 ∧ (a6 < 0 ∨ 23 < a6)))) (h5 : a2 = a7) (h6 : a3 = 0) : ((0 ≤ a8 ∧ (a8 ≤ 7 ∧ (0 ≤ a6 ∧ (a6 ≤ 23 ∧ (0 ≤ a9 ∧ (a9 ≤ 9999 ∧ (a4 = 0 ∧ ((a7 = 40 ∧ (0 = (-1) ∧ a1 = 40)) ∨ (a7 ≠ 40 ∧ (0 = a7 ∧ a1 = (a7 + 1))))))))))) ∨ ((a8 < 0 ∨ (7 < a8 ∨ (a6 < 0 ∨ (23 < a6 ∨ (a9 < 0 ∨ 9999 < a9))))) ∧ (a4 = 1 ∧ a1 = a7))) := by omega
theorem oq_31982ae6 {a0 a1 a2 a3 a4 a5 a6 : Int} (h0 : a0 = a1) (h1 : a1 = a2) (h2 : a2 = a3) (h3 : a4 = 0) (h4 : 0 ≤ a3) (h5 : ((a5 = 1 ∧ (a6 = 0 ∧ (a3 = 1 ∧ a4 = 1))) ∨ ((a5 = 0 ∨ a6 ≠ 0) ∧ (a3 = a6 ∧ ((a4 = 0 ∧ a6 = 0) ∨ (a4 = 1 ∧ a6 ≠ 0)))))) (h6 : a6 = 0) : a0 = 0 := by omega
theorem oq_49373b71 {a0 a1 a2 a3 a4 a5 a6 a7 a8 a9 a10 a11 a12 a13 a14 a15 a16 a17 a18 : Int} (h0 : a0 = a1) (h1 : a2 = (a3 + 1)) (h2 : a3 = a4) (h3 : a1 = a5) (h4 : a4 = a6) (h5 : a5 = a7) (h6 : 0 ≤ a7) (h7 : a7 = 0) (h8 : a6 = a8) (h9 : a6 ≤ 39) (h10 : a9 = 0) (h11 : ((a10 = 1 ∧ (a11 = 0 ∧ (a12 = 1 ∧ a9 = 1))) ∨ ((a10 = 0 ∨ a11 ≠ 0) ∧ (a12 = a11 ∧ ((a9 = 0 ∧ a11 = 0) ∨ (a9 = 1 ∧ a11 ≠ 0)))))) (h12 : ((a13 ≠ 0 ∧ a10 = 0) ∨ (a13 = 0 ∧ a10 = 1))) (h13 : ((a13 = 1 ∧ (0 ≤ a14 ∧ a14 ≤ 9999)) ∨ (a13 = 0 ∧ (a14 < 0 ∨ 9999 < a14)))) (h14 : a15 ≠ 0) (h15 : ((a15 = 1 ∧ (0 ≤ a16 ∧ a16 ≤ 23)) ∨ (a15 = 0 ∧ (a16 < 0 ∨ 23 < a16)))) (h16 : a17 ≠ 0) (h17 : ((a17 = 1 ∧ (0 ≤ a18 ∧ a18 ≤ 7)) ∨ (a17 = 0 ∧ (a18 < 0 ∨ 7 < a18)))) (h18 : a11 = 0) : ((0 ≤ a18 ∧ (a18 ≤ 7 ∧ (0 ≤ a16 ∧ (a16 ≤ 23 ∧ (0 ≤ a14 ∧ (a14 ≤ 9999 ∧ (a0 = 0 ∧ ((a8 = 40 ∧ ((a2 - 1) = (-1) ∧ a2 = 40)) ∨ (a8 ≠ 40 ∧ ((a2 - 1) = a8 ∧ a2 = (a8 + 1))))))))))) ∨ ((a18 < 0 ∨ (7 < a18 ∨ (a16 < 0 ∨ (23 < a16 ∨ (a14 < 0 ∨ 9999 < a14))))) ∧ (a0 = 1 ∧ a2 = a8))) := by omega
theorem oq_88e4fd05 {a0 a1 a2 a3 a4 a5 a6 a7 a8 a9 a10 a11 a12 : Int} (h0 : a0 = 40) (h1 : a1 = 0) (h2 : a0 = a2) (h3 : 0 ≤ a3) (h4 : ((a4 = 1 ∧ (a5 = 0 ∧ (a3 = 1 ∧ a1 = 1))) ∨ ((a4 = 0 ∨ a5 ≠ 0) ∧ (a3 = a5 ∧ ((a1 = 0 ∧ a5 = 0) ∨ (a1 = 1 ∧ a5 ≠ 0)))))) (h5 : ((a6 ≠ 0 ∧ a4 = 0) ∨ (a6 = 0 ∧ a4 = 1))) (h6 : ((a6 = 1 ∧ (0 ≤ a7 ∧ a7 ≤ 9999)) ∨ (a6 = 0 ∧ (a7 < 0 ∨ 9999 < a7)))) (h7 : a8 ≠ 0) (h8 : ((a8 = 1 ∧ (0 ≤ a9 ∧ a9 ≤ 23)) ∨ (a8 = 0 ∧ (a9 < 0 ∨ 23 < a9)))) (h9 : a10 ≠ 0) (h10 : ((a10 = 1 ∧ (0 ≤ a11 ∧ a11 ≤ 7)) ∨ (a10 = 0 ∧ (a11 < 0 ∨ 7 < a11)))) (h11 : a2 = a12) (h12 : a5 = 0) (h13 : a12 ≤ 40) : ((0 ≤ a11 ∧ (a11 ≤ 7 ∧ (0 ≤ a9 ∧ (a9 ≤ 23 ∧ (0 ≤ a7 ∧ (a7 ≤ 9999 ∧ (a3 = 0 ∧ ((a12 = 40 ∧ ((-1) = (-1) ∧ a0 = 40)) ∨ (a12 ≠ 40 ∧ ((-1) = a12 ∧ a0 = (a12 + 1))))))))))) ∨ ((a11 < 0 ∨ (7 < a11 ∨ (a9 < 0 ∨ (23 < a9 ∨ (a7 < 0 ∨ 9999 < a7))))) ∧ (a3 = 1 ∧ a0 = a12))) := by omega
theorem oq_1f0218b1 {a0 a1 a2 a3 a4 a5 a6 a7 a8 a9 a10 : Int} (h0 : a0 ≠ 0) (h1 : a1 = a2) (h2 : ((a3 = 1 ∧ (a4 = 0 ∧ (a5 = 1 ∧ a0 = 1))) ∨ ((a3 = 0 ∨ a4 ≠ 0) ∧ (a5 = a4 ∧ ((a0 = 0 ∧ a4 = 0) ∨ (a0 = 1 ∧ a4 ≠ 0)))))) (h3 : ((a6 ≠ 0 ∧ a3 = 0) ∨ (a6 = 0 ∧ a3 = 1))) (h4 : ((a6 = 1 ∧ (0 ≤ a7 ∧ a7 ≤ 9999)) ∨ (a6 = 0 ∧ (a7 < 0 ∨ 9999 < a7)))) (h5 : a2 = a8) (h6 : a4 = 0) : ((0 ≤ a9 ∧ (a9 ≤ 7 ∧ (0 ≤ a10 ∧ (a10 ≤ 23 ∧ (0 ≤ a7 ∧ (a7 ≤ 9999 ∧ (a5 = 0 ∧ ((a8 = 40 ∧ (0 = (-1) ∧ a1 = 40)) ∨ (a8 ≠ 40 ∧ (0 = a8 ∧ a1 = (a8 + 1))))))))))) ∨ ((a9 < 0 ∨ (7 < a9 ∨ (a10 < 0 ∨ (23 < a10 ∨ (a7 < 0 ∨ 9999 < a7))))) ∧ (a5 = 1 ∧ a1 = a8))) := by omega
theorem oq_9603bbcc {a0 : Int} (h0 : a0 < 40) : a0 ≠ 40 := by omega
theorem oq_1349e71a {a0 a1 a2 a3 a4 : Int} (h0 : a0 = (a1 + 1)) (h1 : a1 = a2) (h2 : a2 = a3) (h3 : a3 = a4) : (a0 - 1) = a4 := by omega
theorem oq_003dad9f {a0 a1 a2 a3 a4 : Int} (h0 : a0 = (a1 + 1)) (h1 : a1 = a2) (h2 : a2 = a3) (h3 : a3 = a4) : a0 = (a4 + 1) := by omega
theorem oq_cb92d216 {a0 : Int} (h0 : a0 ≤ 40) (h1 : 40 ≤ a0) : a0 = 40 := by omega
theorem oq_a05d2c1f {a0 a1 a2 a3 a4 a5 a6 a7 : Int} (h0 : a0 ≤ 40) (h1 : ((a1 = 40 ∧ (a2 = (-1) ∧ a0 = 40)) ∨ (a1 ≠ 40 ∧ (a2 = a1 ∧ a0 = (a1 + 1))))) (h2 : a1 = a3) (h3 : a3 = a4) (h4 : a4 = a5) (h5 : a5 = a6) (h6 : a6 = a7) (h7 : a7 ≤ 40) : ((a7 = 40 ∧ (a2 = (-1) ∧ a0 = 40)) ∨ (a7 ≠ 40 ∧ (a2 = a7 ∧ a0 = (a7 + 1)))) := by omega
theorem oq_46361496 {a0 a1 a2 a3 : Int} (h0 : a0 = 0) (h1 : ((1 = 1 ∧ (a1 = 0 ∧ (a2 = 1 ∧ a0 = 1))) ∨ ((1 = 0 ∨ a1 ≠ 0) ∧ (a2 = a1 ∧ ((a0 = 0 ∧ a1 = 0) ∨ (a0 = 1 ∧ a1 ≠ 0)))))) (h2 : a1 = 0) : a3 < 8 := by omega
theorem oq_086235ae {a0 a1 a2 a3 : Int} (h0 : a0 = 0) (h1 : ((1 = 1 ∧ (a1 = 0 ∧ (a2 = 1 ∧ a0 = 1))) ∨ ((1 = 0 ∨ a1 ≠ 0) ∧ (a2 = a1 ∧ ((a0 = 0 ∧ a1 = 0) ∨ (a0 = 1 ∧ a1 ≠ 0)))))) (h2 : a1 = 0) : (a3 : Int).toNat < 8 := by omega
theorem oq_e48faaef {a0 a1 a2 a3 : Int} (h0 : a0 = 0) (h1 : ((1 = 1 ∧ (a1 = 0 ∧ (a2 = 1 ∧ a0 = 1))) ∨ ((1 = 0 ∨ a1 ≠ 0) ∧ (a2 = a1 ∧ ((a0 = 0 ∧ a1 = 0) ∨ (a0 = 1 ∧ a1 ≠ 0)))))) (h2 : a1 = 0) : a3 ≤ 9999 := by omega
theorem oq_7d7a532a {a0 a1 a2 a3 : Int} (h0 : a0 = 0) (h1 : ((1 = 1 ∧ (a1 = 0 ∧ (a2 = 1 ∧ a0 = 1))) ∨ ((1 = 0 ∨ a1 ≠ 0) ∧ (a2 = a1 ∧ ((a0 = 0 ∧ a1 = 0) ∨ (a0 = 1 ∧ a1 ≠ 0)))))) (h2 : a1 = 0) : a3 ≤ 7 := by omega
theorem oq_8c407924 {a0 a1 a2 a3 : Int} (h0 : a0 = a1) (h1 : a2 = 0) (h2 : 0 ≤ a1) (h3 : ((1 = 1 ∧ (a3 = 0 ∧ (a1 = 1 ∧ a2 = 1))) ∨ ((1 = 0 ∨ a3 ≠ 0) ∧ (a1 = a3 ∧ ((a2 = 0 ∧ a3 = 0) ∨ (a2 = 1 ∧ a3 ≠ 0)))))) (h4 : a3 = 0) : a0 = 0 := by omega
theorem oq_791d66b1 {a0 a1 a2 : Int} (h0 : a0 = 0) (h1 : ((a0 = 1 ∧ (0 ≤ a1 ∧ a1 ≤ 7)) ∨ (a0 = 0 ∧ (a1 < 0 ∨ 7 < a1)))) : (a1 < 0 ∨ (7 < a1 ∨ (a2 < 0 ∨ 9999 < a2))) := by omega
theorem oq_faabd673 {a0 a1 a2 : Int} (h0 : a0 ≠ 0) (h1 : ((1 = 1 ∧ (a1 = 0 ∧ (a2 = 1 ∧ a0 = 1))) ∨ ((1 = 0 ∨ a1 ≠ 0) ∧ (a2 = a1 ∧ ((a0 = 0 ∧ a1 = 0) ∨ (a0 = 1 ∧ a1 ≠ 0)))))) (h2 : a1 = 0) : a2 = 1 := by omega
theorem oq_7f8ce9be {a0 a1 a2 a3 a4 a5 : Int} (h0 : a0 = 0) (h1 : ((a1 = 1 ∧ (a2 = 0 ∧ (a3 = 1 ∧ a0 = 1))) ∨ ((a1 = 0 ∨ a2 ≠ 0) ∧ (a3 = a2 ∧ ((a0 = 0 ∧ a2 = 0) ∨ (a0 = 1 ∧ a2 ≠ 0)))))) (h2 : ((a4 ≠ 0 ∧ a1 = 0) ∨ (a4 = 0 ∧ a1 = 1))) (h3 : ((a4 = 1 ∧ (0 ≤ a5 ∧ a5 ≤ 9999)) ∨ (a4 = 0 ∧ (a5 < 0 ∨ 9999 < a5)))) (h4 : a2 = 0) : 0 ≤ a5 := by omega
theorem oq_7cd554bd {a0 a1 a2 a3 a4 a5 : Int} (h0 : a0 = 0) (h1 : ((a1 = 1 ∧ (a2 = 0 ∧ (a3 = 1 ∧ a0 = 1))) ∨ ((a1 = 0 ∨ a2 ≠ 0) ∧ (a3 = a2 ∧ ((a0 = 0 ∧ a2 = 0) ∨ (a0 = 1 ∧ a2 ≠ 0)))))) (h2 : ((a4 ≠ 0 ∧ a1 = 0) ∨ (a4 = 0 ∧ a1 = 1))) (h3 : ((a4 = 1 ∧ (0 ≤ a5 ∧ a5 ≤ 9999)) ∨ (a4 = 0 ∧ (a5 < 0 ∨ 9999 < a5)))) (h4 : a2 = 0) : a5 ≤ 9999 := by omega
theorem oq_ca823699 {a0 a1 : Int} (h0 : a0 ≠ 0) (h1 : ((a0 = 1 ∧ (0 ≤ a1 ∧ a1 ≤ 7)) ∨ (a0 = 0 ∧ (a1 < 0 ∨ 7 < a1)))) : a1 ≤ 7 := by omega
theorem oq_36baa0f5 {a0 a1 a2 a3 a4 : Int} (h0 : a0 = a1) (h1 : a2 = 0) (h2 : 0 ≤ a1) (h3 : ((a3 = 1 ∧ (a4 = 0 ∧ (a1 = 1 ∧ a2 = 1))) ∨ ((a3 = 0 ∨ a4 ≠ 0) ∧ (a1 = a4 ∧ ((a2 = 0 ∧ a4 = 0) ∨ (a2 = 1 ∧ a4 ≠ 0)))))) (h4 : a4 = 0) : a0 = 0 := by omega
theorem oq_bc7378e0 {a0 a1 a2 a3 a4 a5 a6 : Int} (h0 : a0 ≠ 0) (h1 : ((a1 = 1 ∧ (a2 = 0 ∧ (a3 = 1 ∧ a0 = 1))) ∨ ((a1 = 0 ∨ a2 ≠ 0) ∧ (a3 = a2 ∧ ((a0 = 0 ∧ a2 = 0) ∨ (a0 = 1 ∧ a2 ≠ 0)))))) (h2 : ((a4 ≠ 0 ∧ a1 = 0) ∨ (a4 = 0 ∧ a1 = 1))) (h3 : ((a4 = 1 ∧ (0 ≤ a5 ∧ a5 ≤ 9999)) ∨ (a4 = 0 ∧ (a5 < 0 ∨ 9999 < a5)))) (h4 : a2 = 0) : (a6 < 0 ∨ (7 < a6 ∨ (a5 < 0 ∨ 9999 < a5))) := by omega
theorem oq_58a3c280 {a0 a1 a2 a3 : Int} (h0 : a0 ≠ 0) (h1 : ((a1 = 1 ∧ (a2 = 0 ∧ (a3 = 1 ∧ a0 = 1))) ∨ ((a1 = 0 ∨ a2 ≠ 0) ∧ (a3 = a2 ∧ ((a0 = 0 ∧ a2 = 0) ∨ (a0 = 1 ∧ a2 ≠ 0)))))) (h2 : a2 = 0) : a3 = 1 := by omega
theorem oq_5f8273e9 {a0 a1 : Int} (h0 : a0 = a1) (h1 : a0 ≤ 7) : a1 ≤ 7 := by omega
theorem oq_869f4f0c {a0 a1 a2 a3 : Int} (h0 : a0 = (a1 + 1)) (h1 : a2 = a3) (h2 : a1 = a2) : a0 = (a3 + 1) := by omega
theorem oq_73d3719d {a0 : Int} (h0 : a0 ≤ 8) (h1 : 8 ≤ a0) : a0 = 8 := by omega
theorem oq_151a919a {a0 a1 : Int} (h0 : a0 = a1) (h1 : 0 ≤ a0) : 0 ≤ a1 := by omega
theorem oq_b97c161b {a0 a1 : Int} (h0 : a0 = a1) (h1 : a0 ≤ 127) : a1 ≤ 127 := by omega
theorem oq_29af1651 {a0 a1 a2 a3 a4 a5 : Int} (h0 : a0 = 0) (h1 : ((a1 = 1 ∧ (a2 = 0 ∧ (a3 = 1 ∧ a0 = 1))) ∨ ((a1 = 0 ∨ a2 ≠ 0) ∧ (a3 = a2 ∧ ((a0 = 0 ∧ a2 = 0) ∨ (a0 = 1 ∧ a2 ≠ 0)))))) (h2 : ((a4 ≠ 0 ∧ a1 = 0) ∨ (a4 = 0 ∧ a1 = 1))) (h3 : ((a4 = 1 ∧ (0 ≤ a5 ∧ a5 ≤ 127)) ∨ (a4 = 0 ∧ (a5 < 0 ∨ 127 < a5)))) (h4 : a2 = 0) : (0 ≤ a5 ∧ a5 ≤ 127) := by omega
theorem oq_9f99e80f {a0 a1 a2 a3 : Int} (h0 : a0 = 0) (h1 : 0 ≤ a1) (h2 : ((a2 = 1 ∧ (a3 = 0 ∧ (a1 = 1 ∧ a0 = 1))) ∨ ((a2 = 0 ∨ a3 ≠ 0) ∧ (a1 = a3 ∧ ((a0 = 0 ∧ a3 = 0) ∨ (a0 = 1 ∧ a3 ≠ 0)))))) (h3 : a3 = 0) : a1 = 0 := by omega
theorem oq_c0af69ba {a0 a1 a2 a3 a4 a5 : Int} (h0 : a0 = 0) (h1 : ((a1 = 1 ∧ (a2 = 0 ∧ (a3 = 1 ∧ a0 = 1))) ∨ ((a1 = 0 ∨ a2 ≠ 0) ∧ (a3 = a2 ∧ ((a0 = 0 ∧ a2 = 0) ∨ (a0 = 1 ∧ a2 ≠ 0)))))) (h2 : ((a4 ≠ 0 ∧ a1 = 0) ∨ (a4 = 0 ∧ a1 = 1))) (h3 : ((a4 = 1 ∧ (0 ≤ a5 ∧ a5 ≤ 127)) ∨ (a4 = 0 ∧ (a5 < 0 ∨ 127 < a5)))) (h4 : a2 = 0) : 0 ≤ a5 := by omega
theorem oq_6404d05d {a0 a1 a2 a3 a4 a5 : Int} (h0 : a0 = 0) (h1 : ((a1 = 1 ∧ (a2 = 0 ∧ (a3 = 1 ∧ a0 = 1))) ∨ ((a1 = 0 ∨ a2 ≠ 0) ∧ (a3 = a2 ∧ ((a0 = 0 ∧ a2 = 0) ∨ (a0 = 1 ∧ a2 ≠ 0)))))) (h2 : ((a4 ≠ 0 ∧ a1 = 0) ∨ (a4 = 0 ∧ a1 = 1))) (h3 : ((a4 = 1 ∧ (0 ≤ a5 ∧ a5 ≤ 127)) ∨ (a4 = 0 ∧ (a5 < 0 ∨ 127 < a5)))) (h4 : a2 = 0) : a5 ≤ 127 := by omega
theorem oq_4c3c6c9d {a0 a1 a2 : Int} (h0 : a0 ≤ 8) (h1 : a1 = a0) (h2 : a2 = a1) (h3 : a2 = 8) : a0 = 8 := by omega
theorem oq_2d4c9f41 {a0 a1 a2 a3 a4 a5 : Int} (h0 : a0 ≠ 0) (h1 : ((a1 = 1 ∧ (a2 = 0 ∧ (a3 = 1 ∧ a0 = 1))) ∨ ((a1 = 0 ∨ a2 ≠ 0) ∧ (a3 = a2 ∧ ((a0 = 0 ∧ a2 = 0) ∨ (a0 = 1 ∧ a2 ≠ 0)))))) (h2 : ((a4 ≠ 0 ∧ a1 = 0) ∨ (a4 = 0 ∧ a1 = 1))) (h3 : ((a4 = 1 ∧ (0 ≤ a5 ∧ a5 ≤ 127)) ∨ (a4 = 0 ∧ (a5 < 0 ∨ 127 < a5)))) (h4 : a2 = 0) : (a5 < 0 ∨ 127 < a5) := by omega
theorem oq_8ca45d8a {a0 a1 : Int} (h0 : a0 = a1) (h1 : (a1 = 0 ∨ a1 = 1)) : (a0 = 0 ∨ a0 = 1) := by omega
theorem oq_34756d52 {a0 a1 a2 a3 a4 a5 : Int} (h0 : a0 = 0) (h1 : ((a1 = 1 ∧ (a2 = 0 ∧ (a3 = 1 ∧ a0 = 1))) ∨ ((a1 = 0 ∨ a2 ≠ 0) ∧ (a3 = a2 ∧ ((a0 = 0 ∧ a2 = 0) ∨ (a0 = 1 ∧ a2 ≠ 0)))))) (h2 : ((a4 ≠ 0 ∧ a1 = 0) ∨ (a4 = 0 ∧ a1 = 1))) (h3 : ((a4 = 1 ∧ (0 ≤ a5 ∧ a5 ≤ 127)) ∨ (a4 = 0 ∧ (a5 < 0 ∨ 127 < a5)))) (h4 : a2 = 0) : a5 < 128 := by omega
theorem oq_a3e036ca {a0 a1 a2 a3 a4 a5 : Int} (h0 : a0 = 0) (h1 : ((a1 = 1 ∧ (a2 = 0 ∧ (a3 = 1 ∧ a0 = 1))) ∨ ((a1 = 0 ∨ a2 ≠ 0) ∧ (a3 = a2 ∧ ((a0 = 0 ∧ a2 = 0) ∨ (a0 = 1 ∧ a2 ≠ 0)))))) (h2 : ((a4 ≠ 0 ∧ a1 = 0) ∨ (a4 = 0 ∧ a1 = 1))) (h3 : ((a4 = 1 ∧ (0 ≤ a5 ∧ a5 ≤ 127)) ∨ (a4 = 0 ∧ (a5 < 0 ∨ 127 < a5)))) (h4 : a2 = 0) : (a5 : Int).toNat < 128 := by omega
/-! Contracts that say what is answered -/
/-- the law's long -/
def iO (t : PS) : Int := (gD t 460 0).toInt
theorem iO_u {s : PS} {e : Int} (h : rng e) : iO (uD s 460 (0 : Int).toNat (Int32.ofInt e).toInt64) = e := by
  show ((if 460 = 460 then vp_updL (s.2.2.2.1 460) (0 : Int).toNat (Int32.ofInt e).toInt64 else s.2.2.2.1 460) 0).toInt = e
  rw [if_pos rfl]
  show ((if 0 = (0 : Int).toNat then (Int32.ofInt e).toInt64 else s.2.2.2.1 460 0)).toInt = e
  rw [if_pos (by decide), Int32.toInt_toInt64, zi h]
theorem fm_o {L M : List Nat} {s t : PS} (F : Fm L M s t) (h : 460 + 1000 ∉ M) : iO t = iO s := congrArg Int64.toInt (fm_dd F h)
/-- an array's cells are as they were; but for one -/
def SAM (a : Nat) (s t : PS) : Prop := ∀ j, iC t a j = iC s a j
def UPD (a : Nat) (i x : Int) (s t : PS) : Prop := iC t a i.toNat = x ∧ ∀ j, j ≠ i.toNat → iC t a j = iC s a j
theorem sam_rf {a : Nat} {s : PS} : SAM a s s := fun _ => rfl
theorem sam_fm {L M : List Nat} {a : Nat} {s t : PS} (F : Fm L M s t) (h : a ∉ M) : SAM a s t := fun _ => fm_c F h
theorem sam_ts {a : Nat} {s t u : PS} (h : SAM a s t) (g : SAM a t u) : SAM a s u := fun j => (g j).trans (h j)
theorem upd_ts {a : Nat} {i x : Int} {s t u : PS} (h : UPD a i x s t) (g : SAM a t u) : UPD a i x s u := ⟨(g _).trans h.1, fun j hj => (g j).trans (h.2 j hj)⟩
theorem sam_C {a b i : Nat} {x : Int32} {s t : PS} (hb : a ≠ b) (h : SAM a s t) : SAM a s (uC t b i x) := fun j => (iC_a hb).trans (h j)
theorem upd_C {a b i : Nat} {x : Int32} {y z : Int} {s t : PS} (hb : a ≠ b) (h : UPD a y z s t) : UPD a y z s (uC t b i x) := ⟨(iC_a hb).trans h.1, fun j hj => (iC_a hb).trans (h.2 j hj)⟩
theorem upd_put {a : Nat} {i x : Int} {s t : PS} (h : SAM a s t) (hx : rng x) : UPD a i x s (uC t a i.toNat (Int32.ofInt x)) := ⟨iC_u hx, fun j hj => (iC_n hj).trans (h j)⟩
/-- two arrays are the same, n cells of them -/
def AEQ (a b n : Nat) (s : PS) : Prop := ∀ j, j < n → iC s a j = iC s b j
theorem aeq_sam {a b n : Nat} {s t : PS} (h : AEQ a b n s) (h1 : SAM a s t) (h2 : SAM b s t) : AEQ a b n t := fun j hj => by rw [h1, h2]; exact h j hj
theorem aeq_upd {a b n : Nat} {i x : Int} {s t u : PS} (h : AEQ a b n s) (h1 : UPD a i x s t) (h2 : SAM b s t) (h3 : UPD b i x t u) (h4 : SAM a t u) : AEQ a b n u := fun j hj => by
  by_cases e : j = i.toNat
  · rw [e, h3.1, h4, h1.1]
  · rw [h4, h1.2 j e, h3.2 j e, h2]; exact h j hj
/-- x is among the first n cells; it is not -/
def HAS (a : Nat) (n x : Int) (s : PS) : Prop := ∃ j : Nat, (j : Int) < n ∧ iC s a j = x
def NHS (a : Nat) (n x : Int) (s : PS) : Prop := ∀ j : Nat, (j : Int) < n → iC s a j ≠ x
theorem nhs_0 {a : Nat} {x : Int} {s : PS} : NHS a 0 x s := fun j hj => by first | exact oq_bfa51c91 hj | omega
theorem nhs_up {a : Nat} {c x : Int} {s : PS} (h : NHS a c x s) (h0 : 0 ≤ c) (h1 : iC s a c.toNat ≠ x) : NHS a (c + 1) x s := fun j hj => by
  by_cases e : j = c.toNat
  · rw [e]; exact h1
  · exact h j (by first | exact oq_d0f089f6 e hj | omega)
theorem nhs_le {a : Nat} {c n x : Int} {s : PS} (h : NHS a c x s) (h0 : n ≤ c) : NHS a n x s := fun j hj => h j (by first | exact oq_c51ca0d4 hj h0 | omega)
theorem hs_of {a : Nat} {n x : Int} {s : PS} (c : Int) (h0 : 0 ≤ c) (h1 : c < n) (h2 : iC s a c.toNat = x) : HAS a n x s := ⟨c.toNat, by first | exact oq_084ea114 h1 h0 | omega, h2⟩
theorem upd_ix {a : Nat} {i j x : Int} {s t : PS} (h : UPD a i x s t) (e : i = j) : UPD a j x s t := e ▸ h
/-- the first cells of two arrays are the same, as many as the symbol q says -/
def REQ (a b q : Nat) (s : PS) : Prop := ∀ j : Nat, (j : Int) < iI s q → iC s a j = iC s b j
theorem req_0 {a b q : Nat} {s : PS} (h : iI s q = 0) : REQ a b q s := fun j hj => by omega
theorem req_sam {a b q : Nat} {s t : PS} (h : REQ a b q s) (h1 : SAM a s t) (h2 : SAM b s t) (e : iI t q = iI s q) : REQ a b q t := fun j hj => by rw [h1, h2]; exact h j (by omega)
theorem req_upd {a b q : Nat} {n m x : Int} {s t u : PS} (h : REQ a b q s) (h1 : UPD a n x s t) (h2 : SAM b s t) (h3 : UPD b m x t u) (h4 : SAM a t u) (e1 : n = iI s q) (e2 : m = n) (e3 : iI u q = iI s q + 1) (h0 : 0 ≤ n) : REQ a b q u := fun j hj => by
  subst e2
  by_cases e : j = m.toNat
  · rw [e, h3.1, h4, h1.1]
  · rw [h4, h1.2 j e, h3.2 j e, h2]; exact h j (by omega)
theorem req_no {a b q : Nat} {n m x : Int} {s t : PS} (h : REQ a b q s) (hb : SAM b s t) (h1 : HAS a n x s) (h2 : NHS b m x t) (e1 : n = iI s q) (e2 : m = n) : False := by
  obtain ⟨j, h3, h4⟩ := h1
  exact h2 j (by omega) (by rw [hb, ← h j (by omega)]; exact h4)
theorem req_no2 {a b q : Nat} {n m x : Int} {s t : PS} (h : REQ a b q s) (hb : SAM b s t) (h1 : NHS a n x s) (h2 : HAS b m x t) (e1 : n = iI s q) (e2 : m = n) : False := by
  obtain ⟨j, h3, h4⟩ := h2
  exact h1 j (by omega) (by rw [h j (by omega), ← hb]; exact h4)
theorem aeq_at {a b n : Nat} {i : Int} {s t : PS} (h : AEQ a b n s) (h2 : SAM b s t) (hi : i.toNat < n) : iC s a i.toNat = iC t b i.toNat := by rw [h2]; exact h _ hi
theorem ts_bit {w : Int64} {s : UInt64} {j : Nat} (hj : j < 64) (hs : s.toNat = j) : ((w.toUInt64 >>> s).toInt64 &&& 1) = 0 ↔ w.toBitVec.getLsbD j = false := by
  have e : (w.toUInt64 >>> s).toInt64.toBitVec = w.toBitVec >>> j := by
    apply BitVec.eq_of_toNat_eq
    show (w.toUInt64 >>> s).toNat = _
    rw [UInt64.toNat_shiftRight, hs, Nat.mod_eq_of_lt hj, BitVec.toNat_ushiftRight]
    rfl
  rw [← Int64.toBitVec_inj, Int64.toBitVec_and, e]
  show w.toBitVec >>> j &&& 1#64 = 0#64 ↔ _
  constructor
  · intro h
    have t := congrArg (fun x => x.getLsbD 0) h
    simpa using t
  · intro h
    apply BitVec.eq_of_getLsbD_eq
    intro i hi
    cases i with
    | zero => simp [h]
    | succ i => simp
theorem wb_cu : ∀ k, k < 64 → ((nI k).toInt64.toUInt64 &&& Int64.toUInt64 63).toNat = k := by decide +kernel
theorem jm_1 : ∀ n, n < 64 → ((1 : Int64) <<< ((nI n).toInt64 &&& 63)).toBitVec = BitVec.twoPow 64 n := by decide +kernel
def jushr (x : Int64) (c : Int) : Int64 := (x.toUInt64 >>> ((Int32.ofInt c).toInt64.toUInt64 &&& Int64.toUInt64 63)).toInt64
def jshl (x : Int64) (c : Int) : Int64 := x <<< ((Int32.ofInt c).toInt64 &&& 63)
/-- bit i of a long -/
def bJ (x : Int64) (i : Nat) : Prop := x.toBitVec.getLsbD i = true
theorem jb_0 {x : Int64} {c : Int} (h : 0 ≤ c ∧ c < 64) : (jushr x c &&& 1) = 0 ↔ ¬ bJ x c.toNat := by
  have e : ((Int32.ofInt c).toInt64.toUInt64 &&& Int64.toUInt64 63).toNat = c.toNat := by rw [on_of h.1]; exact wb_cu c.toNat (by omega)
  have := ts_bit (w := x) (j := c.toNat) (by omega) e
  unfold jushr bJ
  rw [this]
  cases x.toBitVec.getLsbD c.toNat <;> decide
theorem jb_x {x : Int64} {c : Int} {i : Nat} (h : 0 ≤ c ∧ c < 64) (hi : i < 64) : bJ (x ^^^ jshl 1 c) i ↔ (if i = c.toNat then ¬ bJ x i else bJ x i) := by
  have e : (jshl 1 c).toBitVec = BitVec.twoPow 64 c.toNat := by unfold jshl; rw [on_of h.1]; exact jm_1 c.toNat (by omega)
  unfold bJ
  rw [Int64.toBitVec_xor, BitVec.getLsbD_xor, e, BitVec.getLsbD_twoPow]
  have h1 : decide (c.toNat < 64) = true := decide_eq_true (by omega)
  rw [h1]
  by_cases q : i = c.toNat
  · rw [if_pos q, decide_eq_true q.symm]; cases x.toBitVec.getLsbD i <;> decide
  · rw [if_neg q, decide_eq_false (fun z => q z.symm)]; cases x.toBitVec.getLsbD i <;> decide
theorem jb_n {x : Int64} {i : Nat} : bJ (x ^^^ 0) i ↔ bJ x i := by
  unfold bJ
  rw [Int64.toBitVec_xor, BitVec.getLsbD_xor]
  show ((x.toBitVec.getLsbD i ^^ (0#64).getLsbD i) = true) ↔ _
  rw [BitVec.getLsbD_zero]
  cases x.toBitVec.getLsbD i <;> decide
/-- the storm shuts the cell c, by the class's longs -/
def SB (c : Int) (s : PS) : Prop := bJ (if c < 64 then gJ s 0 else gJ s 1) (c.toNat % 64)
def SBU (x y : Int) (s t : PS) : Prop := (y = 1 → SB x t) ∧ (y = 0 → ¬ SB x t) ∧ ∀ c, 0 ≤ c → c ≤ 127 → c ≠ x → (SB c t ↔ SB c s)
def SBS (s t : PS) : Prop := gJ t 0 = gJ s 0 ∧ gJ t 1 = gJ s 1
theorem sb_lo {x : Int} {s : PS} (h : 0 ≤ x ∧ x < 64) : SB x s ↔ bJ (gJ s 0) x.toNat := by
  unfold SB
  rw [if_pos h.2, Nat.mod_eq_of_lt (by omega)]
theorem sb_hi {x : Int} {s : PS} (h : 64 ≤ x ∧ x ≤ 127) : SB x s ↔ bJ (gJ s 1) (x - 64).toNat := by
  unfold SB
  rw [if_neg (by omega), show x.toNat % 64 = (x - 64).toNat by omega]
theorem sb_of {x : Int} {s : PS} (h : 0 ≤ x ∧ x ≤ 127) {w : Int64} (hw : (x < 64 ∧ w = gJ s 0) ∨ (64 ≤ x ∧ w = gJ s 1)) : (jushr w (x % 64) &&& 1) = 0 ↔ ¬ SB x s := by
  rw [jb_0 (by omega)]
  rcases hw with ⟨h1, h2⟩ | ⟨h1, h2⟩
  · rw [sb_lo ⟨h.1, h1⟩, h2, show (x % 64).toNat = x.toNat by omega]
  · rw [sb_hi ⟨h1, h.2⟩, h2, show (x % 64).toNat = (x - 64).toNat by omega]
theorem gJ_u {s : PS} {q : Nat} {w : Int64} : gJ (uJ s q w) q = w := if_pos rfl
theorem gJ_n {s : PS} {q r : Nat} {w : Int64} (h : r ≠ q) : gJ (uJ s q w) r = gJ s r := if_neg h
theorem sbu_lo {x y : Int} {s : PS} {w : Int64} (h : 0 ≤ x ∧ x < 64) (hw : ∀ i, i < 64 → i ≠ x.toNat → (bJ w i ↔ bJ (gJ s 0) i)) (h1 : y = 1 → bJ w x.toNat) (h0 : y = 0 → ¬ bJ w x.toNat) : SBU x y s (uJ s 0 w) := by
  refine ⟨fun q => ?_, fun q => ?_, fun c c0 c1 c2 => ?_⟩
  · rw [sb_lo h, gJ_u]; exact h1 q
  · rw [sb_lo h, gJ_u]; exact h0 q
  · by_cases q : c < 64
    · rw [sb_lo ⟨c0, q⟩, sb_lo ⟨c0, q⟩, gJ_u]; exact hw _ (by omega) (by omega)
    · rw [sb_hi ⟨by omega, c1⟩, sb_hi ⟨by omega, c1⟩, gJ_n (by decide)]
theorem sbu_hi {x y : Int} {s : PS} {w : Int64} (h : 64 ≤ x ∧ x ≤ 127) (hw : ∀ i, i < 64 → i ≠ (x - 64).toNat → (bJ w i ↔ bJ (gJ s 1) i)) (h1 : y = 1 → bJ w (x - 64).toNat) (h0 : y = 0 → ¬ bJ w (x - 64).toNat) : SBU x y s (uJ s 1 w) := by
  refine ⟨fun q => ?_, fun q => ?_, fun c c0 c1 c2 => ?_⟩
  · rw [sb_hi h, gJ_u]; exact h1 q
  · rw [sb_hi h, gJ_u]; exact h0 q
  · by_cases q : c < 64
    · rw [sb_lo ⟨c0, q⟩, sb_lo ⟨c0, q⟩, gJ_n (by decide)]
    · rw [sb_hi ⟨by omega, c1⟩, sb_hi ⟨by omega, c1⟩, gJ_u]; exact hw _ (by omega) (by omega)
/-- the ends of shut: as it was, or turned -/
theorem sbu_l0 {x y e : Int} {s : PS} (h : 0 ≤ x ∧ x < 64) (he : (e = 1 ∧ SB x s) ∨ (e = 0 ∧ ¬ SB x s)) (hy : e = y) : SBU x y s (uJ s 0 (gJ s 0 ^^^ 0)) := by
  rw [sb_lo h] at he
  refine sbu_lo h (fun i _ _ => jb_n) (fun q => ?_) (fun q => ?_) <;> rw [jb_n]
  · rcases he with he | he
    · exact he.2
    · omega
  · rcases he with he | he
    · omega
    · exact he.2
theorem sbu_h0 {x y e : Int} {s : PS} (h : 64 ≤ x ∧ x ≤ 127) (he : (e = 1 ∧ SB x s) ∨ (e = 0 ∧ ¬ SB x s)) (hy : e = y) : SBU x y s (uJ s 1 (gJ s 1 ^^^ 0)) := by
  rw [sb_hi h] at he
  refine sbu_hi h (fun i _ _ => jb_n) (fun q => ?_) (fun q => ?_) <;> rw [jb_n]
  · rcases he with he | he
    · exact he.2
    · omega
  · rcases he with he | he
    · omega
    · exact he.2
theorem sbu_l1 {x y e : Int} {s : PS} (h : 0 ≤ x ∧ x < 64) (he : (e = 1 ∧ SB x s) ∨ (e = 0 ∧ ¬ SB x s)) (hb : y = 0 ∨ y = 1) (hy : e ≠ y) : SBU x y s (uJ s 0 (gJ s 0 ^^^ jshl 1 (x % 64))) := by
  rw [sb_lo h] at he
  have e1 : (x % 64).toNat = x.toNat := by omega
  refine sbu_lo h (fun i hi hn => ?_) (fun q => ?_) (fun q => ?_) <;> rw [jb_x (by omega) (by omega), e1]
  · rw [if_neg hn]
  · rw [if_pos rfl]
    rcases he with he | he
    · omega
    · exact he.2
  · rw [if_pos rfl]
    rcases he with he | he
    · exact fun z => z he.2
    · omega
theorem sbu_h1 {x y e : Int} {s : PS} (h : 64 ≤ x ∧ x ≤ 127) (he : (e = 1 ∧ SB x s) ∨ (e = 0 ∧ ¬ SB x s)) (hb : y = 0 ∨ y = 1) (hy : e ≠ y) : SBU x y s (uJ s 1 (gJ s 1 ^^^ jshl 1 (x % 64))) := by
  rw [sb_hi h] at he
  have e1 : (x % 64).toNat = (x - 64).toNat := by omega
  refine sbu_hi h (fun i hi hn => ?_) (fun q => ?_) (fun q => ?_) <;> rw [jb_x (by omega) (by omega), e1]
  · rw [if_neg hn]
  · rw [if_pos rfl]
    rcases he with he | he
    · omega
    · exact he.2
  · rw [if_pos rfl]
    rcases he with he | he
    · exact fun z => z he.2
    · omega
/-- the class's longs and the model's row say the same of the storm -/
def SEQ (s : PS) : Prop := ∀ c : Int, 0 ≤ c → c ≤ 127 → (SB c s ↔ iC s 399 c.toNat = 1)
theorem sbs_ts {s t u : PS} (h : SBS s t) (g : SBS t u) : SBS s u := ⟨g.1.trans h.1, g.2.trans h.2⟩
theorem sbs_fm {L M : List Nat} {s t : PS} (F : Fm L M s t) (h : 1000 ∉ L ∧ 1001 ∉ L) : SBS s t := ⟨fm_jj (k := 0) F h.1, fm_jj (k := 1) F h.2⟩
theorem sb_s {s t : PS} (h : SBS s t) (c : Int) : SB c t ↔ SB c s := by unfold SB; rw [h.1, h.2]
theorem seq_same {s t : PS} (h : SEQ s) (h1 : SBS s t) (h2 : SAM 399 s t) : SEQ t := fun c c0 c1 => by rw [sb_s h1, h2]; exact h c c0 c1
theorem seq_upd {x y : Int} {s t u : PS} (h : SEQ s) (hx : 0 ≤ x ∧ x ≤ 127) (hy : y = 0 ∨ y = 1) (h1 : SBU x y s t) (h2 : SAM 399 s t) {y' : Int} (hyy : y' = y) (h3 : UPD 399 x y' t u) (h4 : SBS t u) : SEQ u := fun c c0 c1 => by
  subst hyy
  rw [sb_s h4]
  by_cases e : c = x
  · subst e
    rw [h3.1]
    rcases hy with q | q
    · exact ⟨fun z => absurd z (h1.2.1 q), fun z => by omega⟩
    · exact ⟨fun _ => q, fun _ => h1.1 q⟩
  · rw [h1.2.2 c c0 c1 e, h3.2 c.toNat (by omega), h2]
    exact h c c0 c1
theorem seq_ans {x o : Int} {s : PS} (h : SEQ s) (I : Bd s) (hx : 0 ≤ x ∧ x ≤ 127) (ho : (o = 1 ∧ SB x s) ∨ (o = 0 ∧ ¬ SB x s)) : o = iC s 399 x.toNat := by
  have b : (0 : Int) ≤ iC s 399 x.toNat ∧ iC s 399 x.toNat ≤ 1 := I.2 399 _ (show x.toNat < 128 by omega)
  have := h x hx.1 hx.2
  rcases ho with q | q
  · rw [q.1, this.mp q.2]
  · have : iC s 399 x.toNat ≠ 1 := fun z => q.2 (this.mpr z)
    omega
section ZJ
variable {k : kx_T} {mn pc : Nat} {dT : Nat → ClassId} {lv : List (Nat × Value)} {st : List Value} {ws : va_W} {ce sl a b : Nat} {z : Int}
theorem z_jushr (X : AX k mn dT) {x : Int64} {c : Int} (h : cdA mn pc = some (.lushr, 1, a, b, z)) (g : WS k (pc + 1) lv (.long (jushr x c) :: st) ws ce sl) : WS k pc lv (.int (Int32.ofInt c) :: .long x :: st) ws ce sl := w_lushr X.1 (ax_d X h) g
theorem z_jshl (X : AX k mn dT) {x : Int64} {c : Int} (h : cdA mn pc = some (.lshl, 1, a, b, z)) (g : WS k (pc + 1) lv (.long (jshl x c) :: st) ws ce sl) : WS k pc lv (.int (Int32.ofInt c) :: .long x :: st) ws ce sl := w_lshl X.1 (ax_d X h) g
theorem z_jcmp (X : AX k mn dT) {x y : Int64} (h : cdA mn pc = some (.lcmp, 1, a, b, z)) (g1 : x = y → WS k (pc + 1) lv (.int (Int32.ofInt 0) :: st) ws ce sl) (g2 : x ≠ y → ∀ c : Int, rng c → c ≠ 0 → WS k (pc + 1) lv (.int (Int32.ofInt c) :: st) ws ce sl) : WS k pc lv (.long y :: .long x :: st) ws ce sl := by
  refine w_lcmp X.1 (ax_d X h) ?_
  by_cases q : x = y
  · have e : lg_cmp x y = Int32.ofInt 0 := by rw [(lg_cmp_eq x y).mpr q]; rfl
    rw [e]; exact g1 q
  · have h9 := g2 q (lg_cmp x y).toInt (rng_to _) (fun w => q ((lg_cmp_eq x y).mp (Int32.toInt_inj.mp (show _ = (0 : Int32).toInt from w))))
    rwa [ofi_to] at h9
theorem z_and63 (X : AX k mn dT) {x : Int} (h : cdA mn pc = some (.iand, 1, a, b, z)) (hx : 0 ≤ x ∧ x ≤ 127) (g : WS k (pc + 1) lv (.int (Int32.ofInt (x % 64)) :: st) ws ce sl) : WS k pc lv (.int (Int32.ofInt 63) :: .int (Int32.ofInt x) :: st) ws ce sl := by
  refine w_iand X.1 (ax_d X h) ?_
  rw [and_ex (m := 63) (f := fun x => x % 64) (by decide) (by decide +kernel) hx]
  exact g
end ZJ
section M87b
variable {l : Launch} {s0 : State} {D : va_G} {tys : List (ClassId × FieldType)} {a0 : Array Value} {A : Nat → Nat} {dT : Nat → ClassId} {s : PS}
set_option maxRecDepth 4000 in
theorem k_in2 (G : GX l s0 D tys a0 dT) (I : Bd s) {x y z : Int} (p0 : rng x) (p1 : rng y) (p2 : rng z) : CT l s0 D A dT 188 (rmN 188) [.int (Int32.ofInt x), .int (Int32.ofInt y), .int (Int32.ofInt z)] s (fun o t => s = t ∧ ∃ e, o = .inl (some (.int (Int32.ofInt e))) ∧ rng e ∧ ((e = 1 ∧ y ≤ x ∧ x ≤ z) ∨ (e = 0 ∧ (x < y ∨ z < x)))) := by
  refine ct_of G (by decide) (Nat.le_of_ble_eq_true rfl) (fun k X E hRt hXt q => ?_)
  show WS k 0 [(0, .int (Int32.ofInt x)), (1, .int (Int32.ofInt y)), (2, .int (Int32.ofInt z))] [] _ 0 0
  have F : Fm [] [] s s := fm_rf _ _ s
  refine z_load_n X (x := x) rfl (List.Mem.head _) (z_load_n X (x := y) rfl (List.Mem.tail _ (List.Mem.head _)) ?_)
  have N1 : ∀ e2 : Int, (((x < y) ∧ e2 = 0) ∨ ((y ≤ x) ∧ (z < x) ∧ e2 = 0) ∨ ((y ≤ x) ∧ (x ≤ z) ∧ e2 = 1)) → WS k 15 [(0, .int (Int32.ofInt x)), (1, .int (Int32.ofInt y)), (2, .int (Int32.ofInt z))] [.int (Int32.ofInt e2)] (Wd A dT s) 0 0 := by
    intro e2 he2
    have re2 : 0 ≤ e2 ∧ e2 ≤ 1 := by first | exact And.intro (oq_b6311778 he2) (oq_fa974669 he2) | (clear he2; omega) | omega
    exact w_iret X.1 q hRt (nar_ret (by first | exact oq_31e518ae re2.2 re2.1 | omega)) (ax_d X (show cdA 188 15 = some (.ireturn, 1, 0, 0, 0) from rfl)) (Nat.zero_le _) (Nat.zero_le _) ⟨_, rfl, rfl, e2, rfl, ⟨by first | exact oq_fa4e5087 re2.1 | omega, by first | exact oq_22e1e6b0 re2.2 | omega⟩, by first | exact oq_eb048f71 re2.2 re2.1 he2 | omega⟩
  refine z_icmp_lt X (t := 14) rfl rfl ⟨by first | exact p0.1 | omega, by first | exact p0.2 | omega⟩ ⟨by first | exact p1.1 | omega, by first | exact p1.2 | omega⟩ (fun g3 => ?_) (fun g3 => ?_)
  ·
    exact z_const X rfl (N1 _ (Or.inl ⟨g3, rfl⟩))
  ·
    refine z_load_n X (x := x) rfl (List.Mem.head _) (z_load_n X (x := z) rfl (List.Mem.tail _ (List.Mem.tail _ (List.Mem.head _))) (z_icmp_gt X (t := 14) rfl rfl ⟨by first | exact p0.1 | omega, by first | exact p0.2 | omega⟩ ⟨by first | exact p2.1 | omega, by first | exact p2.2 | omega⟩ (fun g4 => ?_) (fun g4 => ?_)))
    ·
      exact z_const X rfl (N1 _ (Or.inr (Or.inl ⟨g3, g4, rfl⟩)))
    ·
      exact z_const X rfl (z_goto X (t := 15) rfl rfl (N1 _ (Or.inr (Or.inr (⟨g3, g4, rfl⟩)))))
set_option maxRecDepth 4000 in
theorem k_bad2 (G : GX l s0 D tys a0 dT) (I : Bd s) {x y : Int} (p0 : x = 0 ∨ x = 1) (p1 : 1 ≤ y ∧ y ≤ 3) : CT l s0 D A dT 187 (rmN 187) [.ref (A 179), .int (Int32.ofInt x), .int (Int32.ofInt y)] s (fun o t => Bd t ∧ Fm [73] [] s t ∧ ∃ e, o = .inl (some (.int (Int32.ofInt e))) ∧ rng e ∧ (((x = 1 ∧ iI s 73 = 0 ∧ iI t 73 = y ∧ e = 1) ∨ ((x = 0 ∨ iI s 73 ≠ 0) ∧ iI t 73 = iI s 73 ∧ ((e = 0 ∧ iI s 73 = 0) ∨ (e = 1 ∧ iI s 73 ≠ 0)))))) := by
  refine ct_of G (by decide) (Nat.le_of_ble_eq_true rfl) (fun k X E hRt hXt q => ?_)
  show WS k 0 [(0, .ref (A 179)), (1, .int (Int32.ofInt x)), (2, .int (Int32.ofInt y))] [] _ 0 0
  have F : Fm [73] [] s s := fm_rf _ _ s
  have b1 := bi_73 I
  refine z_load_n X (x := x) rfl (List.Mem.tail _ (List.Mem.head _)) (z_if_eq X (t := 16) rfl rfl ⟨by first | exact oq_bde653e9 p0 | omega, by first | exact oq_4ad2cb8b p0 | omega⟩ (fun g2 => ?_) (fun g2 => ?_))
  ·
    refine z_aload_n X (x := A 179) rfl (List.Mem.head _) (z_getI X 179 rfl (c518_ok rfl) rfl rfl ?_)
    have b3 := bi_73 I
    have N4 : ∀ e5 : Int, ((((iI s 73) = 0) ∧ e5 = 0) ∨ (((iI s 73) ≠ 0) ∧ e5 = 1)) → WS k 28 [(0, .ref (A 179)), (1, .int (Int32.ofInt x)), (2, .int (Int32.ofInt y))] [.int (Int32.ofInt e5)] (Wd A dT s) 0 0 := by
      intro e5 he5
      have re5 : 0 ≤ e5 ∧ e5 ≤ 1 := by first | exact And.intro (oq_77725ddd he5) (oq_baf83cd6 he5) | (clear he5 p0; omega) | (clear p0; omega) | omega
      exact w_iret X.1 q hRt (nar_ret (by first | exact oq_31e518ae re5.2 re5.1 | omega)) (ax_d X (show cdA 187 28 = some (.ireturn, 1, 0, 0, 0) from rfl)) (Nat.zero_le _) (Nat.zero_le _) ⟨_, rfl, I, F, e5, rfl, ⟨by first | exact oq_fa4e5087 re5.1 | omega, by first | exact oq_22e1e6b0 re5.2 | omega⟩, by first | exact oq_0fa7b120 re5.2 re5.1 he5 b3.1 g2 | omega⟩
    refine z_if_eq X (t := 27) rfl rfl (rng_to _) (fun g6 => ?_) (fun g6 => ?_)
    ·
      exact z_const X rfl (N4 _ (Or.inl ⟨g6, rfl⟩))
    ·
      exact z_const X rfl (z_goto X (t := 28) rfl rfl (N4 _ (Or.inr (⟨g6, rfl⟩))))
  ·
    refine z_aload_n X (x := A 179) rfl (List.Mem.head _) (z_getI X 179 rfl (c518_ok rfl) rfl rfl ?_)
    have b7 := bi_73 I
    refine z_if_ne X (t := 16) rfl rfl (rng_to _) (fun g8 => ?_) (fun g8 => ?_)
    ·
      refine z_aload_n X (x := A 179) rfl (List.Mem.head _) (z_getI X 179 rfl (c518_ok rfl) rfl rfl ?_)
      have b9 := bi_73 I
      have N10 : ∀ e11 : Int, ((((iI s 73) = 0) ∧ e11 = 0) ∨ (((iI s 73) ≠ 0) ∧ e11 = 1)) → WS k 28 [(0, .ref (A 179)), (1, .int (Int32.ofInt x)), (2, .int (Int32.ofInt y))] [.int (Int32.ofInt e11)] (Wd A dT s) 0 0 := by
        intro e11 he11
        have re11 : 0 ≤ e11 ∧ e11 ≤ 1 := by first | exact And.intro (oq_77725ddd he11) (oq_baf83cd6 he11) | (clear he11 g8 g2 p0; omega) | (clear g8 g2 p0; omega) | omega
        exact w_iret X.1 q hRt (nar_ret (by first | exact oq_438aa68f re11.2 he11 b9.1 g8 | omega)) (ax_d X (show cdA 187 28 = some (.ireturn, 1, 0, 0, 0) from rfl)) (Nat.zero_le _) (Nat.zero_le _) ⟨_, rfl, I, F, e11, rfl, ⟨by first | exact oq_fa4e5087 re11.1 | omega, by first | exact oq_22e1e6b0 re11.2 | omega⟩, by first | exact oq_7136ffd4 re11.2 he11 b9.1 g8 | omega⟩
      refine z_if_eq X (t := 27) rfl rfl (rng_to _) (fun g12 => ?_) (fun g12 => ?_)
      ·
        exact z_const X rfl (N10 _ (Or.inl ⟨g12, rfl⟩))
      ·
        exact z_const X rfl (z_goto X (t := 28) rfl rfl (N10 _ (Or.inr (⟨g12, rfl⟩))))
    ·
      refine z_aload_n X (x := A 179) rfl (List.Mem.head _) (z_load_n X (x := y) rfl (List.Mem.tail _ (List.Mem.tail _ (List.Mem.head _))) (s_putI X 179 rfl (c518_ok rfl) rfl rfl (by decide) rfl rfl rfl (wd_gen (fun s13 hs13 => ?_))))
      have Is13 : Bd s13 := eqB hs13 (bd_I I (show (0 : Int) ≤ y ∧ y ≤ 3 by first | exact ⟨oq_2a6e3b50 p1.1, p1.2⟩ | omega) ⟨by first | exact oq_9462313e p1.1 | omega, by first | exact oq_c5520c83 p1.2 | omega⟩)
      have Fs13 := eqF hs13 (fm_I F (inl_ok (a := 73) rfl))
      have vs13 : iI s13 73 = y := eqI hs13 (iI_u ⟨by first | exact oq_9462313e p1.1 | omega, by first | exact oq_c5520c83 p1.2 | omega⟩)
      have wos13 : iO s13 = iO s := by rw [hs13]; rfl
      refine z_aload_n X (x := A 179) rfl (List.Mem.head _) (z_getI X 179 rfl (c518_ok rfl) rfl rfl ?_)
      have b14 := bi_73 Is13
      have N15 : ∀ e16 : Int, ((((iI s13 73) = 0) ∧ e16 = 0) ∨ (((iI s13 73) ≠ 0) ∧ e16 = 1)) → WS k 28 [(0, .ref (A 179)), (1, .int (Int32.ofInt x)), (2, .int (Int32.ofInt y))] [.int (Int32.ofInt e16)] (Wd A dT s13) 0 0 := by
        intro e16 he16
        have re16 : 0 ≤ e16 ∧ e16 ≤ 1 := by first | exact And.intro (oq_77725ddd he16) (oq_baf83cd6 he16) | (clear he16 g2 p0; omega) | (clear g2 p0; omega) | omega
        exact w_iret X.1 q hRt (nar_ret (by first | exact oq_4f030bbc re16.2 he16 vs13 p1.1 | omega)) (ax_d X (show cdA 187 28 = some (.ireturn, 1, 0, 0, 0) from rfl)) (Nat.zero_le _) (Nat.zero_le _) ⟨_, rfl, Is13, Fs13, e16, rfl, ⟨by first | exact oq_fa4e5087 re16.1 | omega, by first | exact oq_22e1e6b0 re16.2 | omega⟩, by first | exact oq_add61c1a re16.2 he16 vs13 g8 g2 p1.1 p0 | omega⟩
      refine z_if_eq X (t := 27) rfl rfl (rng_to _) (fun g17 => ?_) (fun g17 => ?_)
      ·
        exact z_const X rfl (N15 _ (Or.inl ⟨g17, rfl⟩))
      ·
        exact z_const X rfl (z_goto X (t := 28) rfl rfl (N15 _ (Or.inr (⟨g17, rfl⟩))))
set_option maxRecDepth 4000 in
theorem k_configure2 (G : GX l s0 D tys a0 dT) (I : Bd s) {x : Int} (p0 : rng x) : CT l s0 D A dT 264 (rmN 264) [.ref (A 179), .int (Int32.ofInt x)] s (fun o t => Bd t ∧ Fm [73, 99] [237] s t ∧ ∃ e, o = .inl (some (.int (Int32.ofInt e))) ∧ rng e ∧ (((0 ≤ x ∧ x < 16777216 ∧ iI t 73 = 0 ∧ ((iI s 99 = 6 ∧ e = -1 ∧ iI t 99 = 6) ∨ (iI s 99 ≠ 6 ∧ e = iI s 99 ∧ iI t 99 = iI s 99 + 1))) ∨ ((x < 0 ∨ 16777216 ≤ x) ∧ iI t 73 = 1 ∧ iI t 99 = iI s 99)))) := by
  refine ct_of G (by decide) (Nat.le_of_ble_eq_true rfl) (fun k X E hRt hXt q => ?_)
  show WS k 0 [(0, .ref (A 179)), (1, .int (Int32.ofInt x))] [] _ 0 0
  have F : Fm [73, 99] [237] s s := fm_rf _ _ s
  have b1 := bi_73 I
  have b2 := bi_99 I
  refine z_aload_n X (x := A 179) rfl (List.Mem.head _) (z_const X rfl (s_putI X 179 rfl (c518_ok rfl) rfl rfl (by decide) rfl rfl rfl (wd_gen (fun s3 hs3 => ?_))))
  have Is3 : Bd s3 := eqB hs3 (bd_I I (show (0 : Int) ≤ 0 ∧ 0 ≤ 3 by first | exact ⟨by decide, by decide⟩ | omega) (by decide))
  have Fs3 := eqF hs3 (fm_I F (inl_ok (a := 73) rfl))
  have vs3 : iI s3 73 = 0 := eqI hs3 (iI_u (by decide))
  have ws3_99 : iI s3 99 = iI s 99 := eqI hs3 rfl
  refine z_aload_n X (x := A 179) rfl (List.Mem.head _) (z_load_n X (x := x) rfl (List.Mem.tail _ (List.Mem.head _)) (z_if_lt X (t := 17) rfl rfl ⟨by first | exact p0.1 | omega, by first | exact p0.2 | omega⟩ (fun g4 => ?_) (fun g4 => ?_)))
  ·
    refine z_const X rfl (z_goto X (t := 22) rfl rfl (z_const X rfl (zcV_i0 X E 179 (As := [.int (Int32.ofInt 1), .int (Int32.ofInt 1)]) (st := []) rfl rfl rfl rfl (k_bad2 G Is3 (by first | exact Or.inr (by decide) | omega) (by first | exact ⟨by decide, by decide⟩ | omega)) rfl (Nat.le_of_ble_eq_true rfl) (fun s5 e6 Is5 Fs5 hrs5 hps5 => ?_))))
    have Gs5 := fm_tq Fs3 Fs5 rfl rfl
    have b7 := bi_73 Is5
    have ws5_99 : iI s5 99 = iI s3 99 := fm_iq Fs5 rfl
    refine z_if_eq X (t := 31) rfl rfl hrs5 (fun g8 => ?_) (fun g8 => ?_)
    ·
      refine z_aload_n X (x := A 179) rfl (List.Mem.head _) (z_getI X 179 rfl (c518_ok rfl) rfl rfl ?_)
      have b9 := bi_99 Is5
      refine z_bipush X rfl (z_icmp_ne X (t := 42) rfl rfl (rng_to _) (by decide) (fun g10 => ?_) (fun g10 => ?_))
      ·
        refine z_aload_n X (x := A 179) rfl (List.Mem.head _) (s_getR X 179 rfl (c518_ok rfl) rfl rfl (z_aload_n X (x := A 179) rfl (List.Mem.head _) (z_getI X 179 rfl (c518_ok rfl) rfl rfl ?_)))
        have b11 := bi_99 Is5
        refine z_load_n X (x := x) rfl (List.Mem.tail _ (List.Mem.head _)) (z_ast X 265 rfl (c518_ok rfl) rfl (by first | exact b11.1 | omega) (show (iI s5 99) < 6 by first | exact oq_fac8de0c b11.2 g10 | omega) (cbig_ok rfl) (wd_gen (fun s12 hs12 => ?_)))
        have Is12 : Bd s12 := eqB hs12 (bd_C Is5 (show (0 : Int) ≤ x ∧ x ≤ 16777215 by first | exact ⟨oq_674898f9 g8 hps5 vs3, oq_c2c3ef0b g4⟩ | omega) ⟨by first | exact p0.1 | omega, by first | exact p0.2 | omega⟩)
        have Fs12 := eqF hs12 (fm_C Gs5 (inl_ok (a := 237) rfl))
        have ws12_73 : iI s12 73 = iI s5 73 := eqI hs12 rfl
        have ws12_99 : iI s12 99 = iI s5 99 := eqI hs12 rfl
        refine z_aload_n X (x := A 179) rfl (List.Mem.head _) (w_dup X.1 (ax_d X (show cdA 264 53 = some (.dup, 1, 0, 0, 0) from rfl)) rfl (z_getI X 179 rfl (c518_ok rfl) rfl rfl ?_))
        have b13 := bi_99 Is12
        refine z_const X rfl (z_add X rfl (s_putI X 179 rfl (c518_ok rfl) rfl rfl (by decide) rfl rfl rfl (wd_gen (fun s14 hs14 => ?_))))
        have Is14 : Bd s14 := eqB hs14 (bd_I Is12 (show (0 : Int) ≤ ((iI s12 99) + 1) ∧ ((iI s12 99) + 1) ≤ 6 by first | exact ⟨oq_54f49eb5 b13.1, oq_6c19c907 ws12_99 b11.2 g10⟩ | omega) ⟨by first | exact oq_74de1e16 b13.1 | omega, by first | exact oq_5fe14c36 b13.2 | omega⟩)
        have Fs14 := eqF hs14 (fm_I Fs12 (inl_ok (a := 99) rfl))
        have vs14 : iI s14 99 = ((iI s12 99) + 1) := eqI hs14 (iI_u ⟨by first | exact oq_74de1e16 b13.1 | omega, by first | exact oq_5fe14c36 b13.2 | omega⟩)
        have ws14_73 : iI s14 73 = iI s12 73 := eqI hs14 rfl
        refine z_aload_n X (x := A 179) rfl (List.Mem.head _) (z_getI X 179 rfl (c518_ok rfl) rfl rfl ?_)
        have b15 := bi_99 Is14
        refine z_const X rfl (z_sub X rfl ?_)
        exact w_iret X.1 q hRt rfl (ax_d X (show cdA 264 68 = some (.ireturn, 1, 0, 0, 0) from rfl)) (Nat.zero_le _) (Nat.zero_le _) ⟨_, rfl, Is14, Fs14, ((iI s14 99) - 1), rfl, ⟨by first | exact oq_c1e961c7 b15.1 | omega, by first | exact oq_b383b26c b15.2 | omega⟩, by first | exact oq_4be661e3 g8 hps5 vs3 | omega⟩
      ·
        refine z_const X rfl ?_
        exact w_iret X.1 q hRt rfl (ax_d X (show cdA 264 41 = some (.ireturn, 1, 0, 0, 0) from rfl)) (Nat.zero_le _) (Nat.zero_le _) ⟨_, rfl, Is5, Gs5, (-1), rfl, (by decide), by first | exact oq_a9b13c05 g8 hps5 vs3 | omega⟩
    ·
      refine z_const X rfl ?_
      exact w_iret X.1 q hRt rfl (ax_d X (show cdA 264 30 = some (.ireturn, 1, 0, 0, 0) from rfl)) (Nat.zero_le _) (Nat.zero_le _) ⟨_, rfl, Is5, Gs5, 0, rfl, (by decide), by first | exact oq_33cebf6a g8 ws5_99 hps5 g4 ws3_99 vs3 | omega⟩
  ·
    refine z_load_n X (x := x) rfl (List.Mem.tail _ (List.Mem.head _)) (z_ldcw X rfl ?_)
    have N16 : ∀ e17 : Int, (((x < 16777216) ∧ e17 = 0) ∨ ((16777216 ≤ x) ∧ e17 = 1)) → WS k 22 [(0, .ref (A 179)), (1, .int (Int32.ofInt x))] [.int (Int32.ofInt e17), .ref (A 179)] (Wd A dT s3) 0 0 := by
      intro e17 he17
      have re17 : 0 ≤ e17 ∧ e17 ≤ 1 := by first | (clear he17; omega) | omega
      refine z_const X rfl (zcV_i0 X E 179 (As := [.int (Int32.ofInt e17), .int (Int32.ofInt 1)]) (st := []) rfl rfl rfl rfl (k_bad2 G Is3 (by first | exact oq_31e518ae re17.2 re17.1 | omega) (by first | exact ⟨by decide, by decide⟩ | omega)) rfl (Nat.le_of_ble_eq_true rfl) (fun s18 e19 Is18 Fs18 hrs18 hps18 => ?_))
      have Gs18 := fm_tq Fs3 Fs18 rfl rfl
      have b20 := bi_73 Is18
      have ws18_99 : iI s18 99 = iI s3 99 := fm_iq Fs18 rfl
      refine z_if_eq X (t := 31) rfl rfl hrs18 (fun g21 => ?_) (fun g21 => ?_)
      ·
        refine z_aload_n X (x := A 179) rfl (List.Mem.head _) (z_getI X 179 rfl (c518_ok rfl) rfl rfl ?_)
        have b22 := bi_99 Is18
        refine z_bipush X rfl (z_icmp_ne X (t := 42) rfl rfl (rng_to _) (by decide) (fun g23 => ?_) (fun g23 => ?_))
        ·
          refine z_aload_n X (x := A 179) rfl (List.Mem.head _) (s_getR X 179 rfl (c518_ok rfl) rfl rfl (z_aload_n X (x := A 179) rfl (List.Mem.head _) (z_getI X 179 rfl (c518_ok rfl) rfl rfl ?_)))
          have b24 := bi_99 Is18
          refine z_load_n X (x := x) rfl (List.Mem.tail _ (List.Mem.head _)) (z_ast X 265 rfl (c518_ok rfl) rfl (by first | exact b24.1 | omega) (show (iI s18 99) < 6 by first | exact oq_fac8de0c b24.2 g23 | omega) (cbig_ok rfl) (wd_gen (fun s25 hs25 => ?_)))
          have Is25 : Bd s25 := eqB hs25 (bd_C Is18 (show (0 : Int) ≤ x ∧ x ≤ 16777215 by first | exact ⟨g4, oq_f39aaab5 g21 hps18 he17 vs3⟩ | omega) ⟨by first | exact p0.1 | omega, by first | exact p0.2 | omega⟩)
          have Fs25 := eqF hs25 (fm_C Gs18 (inl_ok (a := 237) rfl))
          have ws25_73 : iI s25 73 = iI s18 73 := eqI hs25 rfl
          have ws25_99 : iI s25 99 = iI s18 99 := eqI hs25 rfl
          refine z_aload_n X (x := A 179) rfl (List.Mem.head _) (w_dup X.1 (ax_d X (show cdA 264 53 = some (.dup, 1, 0, 0, 0) from rfl)) rfl (z_getI X 179 rfl (c518_ok rfl) rfl rfl ?_))
          have b26 := bi_99 Is25
          refine z_const X rfl (z_add X rfl (s_putI X 179 rfl (c518_ok rfl) rfl rfl (by decide) rfl rfl rfl (wd_gen (fun s27 hs27 => ?_))))
          have Is27 : Bd s27 := eqB hs27 (bd_I Is25 (show (0 : Int) ≤ ((iI s25 99) + 1) ∧ ((iI s25 99) + 1) ≤ 6 by first | exact ⟨oq_54f49eb5 b26.1, oq_6c19c907 ws25_99 b24.2 g23⟩ | omega) ⟨by first | exact oq_74de1e16 b26.1 | omega, by first | exact oq_5fe14c36 b26.2 | omega⟩)
          have Fs27 := eqF hs27 (fm_I Fs25 (inl_ok (a := 99) rfl))
          have vs27 : iI s27 99 = ((iI s25 99) + 1) := eqI hs27 (iI_u ⟨by first | exact oq_74de1e16 b26.1 | omega, by first | exact oq_5fe14c36 b26.2 | omega⟩)
          have ws27_73 : iI s27 73 = iI s25 73 := eqI hs27 rfl
          refine z_aload_n X (x := A 179) rfl (List.Mem.head _) (z_getI X 179 rfl (c518_ok rfl) rfl rfl ?_)
          have b28 := bi_99 Is27
          refine z_const X rfl (z_sub X rfl ?_)
          exact w_iret X.1 q hRt rfl (ax_d X (show cdA 264 68 = some (.ireturn, 1, 0, 0, 0) from rfl)) (Nat.zero_le _) (Nat.zero_le _) ⟨_, rfl, Is27, Fs27, ((iI s27 99) - 1), rfl, ⟨by first | exact oq_c1e961c7 b28.1 | omega, by first | exact oq_b383b26c b28.2 | omega⟩, by first | exact oq_32729de4 b28.2 ws27_73 vs27 ws25_99 ws25_73 g21 ws18_99 b20.1 hps18 he17 g4 ws3_99 vs3 | omega⟩
        ·
          refine z_const X rfl ?_
          exact w_iret X.1 q hRt rfl (ax_d X (show cdA 264 41 = some (.ireturn, 1, 0, 0, 0) from rfl)) (Nat.zero_le _) (Nat.zero_le _) ⟨_, rfl, Is18, Gs18, (-1), rfl, (by decide), by first | exact oq_f5100887 g23 g21 ws18_99 b20.1 hps18 he17 g4 ws3_99 vs3 b2.2 | omega⟩
      ·
        refine z_const X rfl ?_
        exact w_iret X.1 q hRt rfl (ax_d X (show cdA 264 30 = some (.ireturn, 1, 0, 0, 0) from rfl)) (Nat.zero_le _) (Nat.zero_le _) ⟨_, rfl, Is18, Gs18, 0, rfl, (by decide), by first | exact oq_4670b00c g21 ws18_99 hps18 he17 ws3_99 vs3 | omega⟩
    refine z_icmp_lt X (t := 21) rfl rfl ⟨by first | exact p0.1 | omega, by first | exact p0.2 | omega⟩ (by decide) (fun g29 => ?_) (fun g29 => ?_)
    ·
      exact z_const X rfl (N16 _ (Or.inl ⟨g29, rfl⟩))
    ·
      exact z_const X rfl (z_goto X (t := 22) rfl rfl (N16 _ (Or.inr (⟨g29, rfl⟩))))
set_option maxRecDepth 4000 in
theorem cs_needWithin2 (G : GX l s0 D tys a0 dT) (I : Bd s) {v lo hi : Int} (p0 : rng v) (p1 : rng lo) (p2 : rng hi) : CT l s0 D A dT 184 (rmN 184) [.ref (A 0), .int (Int32.ofInt v), .int (Int32.ofInt lo), .int (Int32.ofInt hi)] s (fun o t => Bd t ∧ Fm [] [] s t ∧ ((o = .inl none ∧ (lo ≤ v ∧ v ≤ hi)) ∨ ∃ x : Nat, o = .inr (exN x) ∧ (x = 0 ∧ (v < lo ∨ hi < v)))) := by
  refine ct_ofX G (by decide) (Nat.le_of_ble_eq_true rfl) (fun k X E ET hRt hXt q => ?_)
  show WS k 0 [(0, .ref (A 0)), (1, .int (Int32.ofInt v)), (2, .int (Int32.ofInt lo)), (3, .int (Int32.ofInt hi))] [] _ 0 0
  have F : Fm [] [] s s := fm_rf _ _ s
  refine z_load_n X (x := v) rfl (List.Mem.tail _ (List.Mem.head _)) (z_load_n X (x := lo) rfl (List.Mem.tail _ (List.Mem.tail _ (List.Mem.head _))) (z_icmp_lt X (t := 10) rfl rfl ⟨by first | exact p0.1 | omega, by first | exact p0.2 | omega⟩ ⟨by first | exact p1.1 | omega, by first | exact p1.2 | omega⟩ (fun g1 => ?_) (fun g1 => ?_)))
  ·
    exact z_throw G X E ET hXt q (st := []) rfl (by decide) (by decide) (Nat.le_of_ble_eq_true rfl) (show 0 + 1 ≤ 1 by decide) (show 0 + 6 ≤ 6 by decide) (show 0 + 1 ≤ 1 by decide) (show 0 + 6 ≤ 6 by decide) ⟨_, rfl, I, F, Or.inr ⟨0, rfl, by first | exact And.intro (rfl) (Or.inl (g1)) | omega⟩⟩
  ·
    refine z_load_n X (x := v) rfl (List.Mem.tail _ (List.Mem.head _)) (z_load_n X (x := hi) rfl (List.Mem.tail _ (List.Mem.tail _ (List.Mem.tail _ (List.Mem.head _)))) (z_icmp_le X (t := 21) rfl rfl ⟨by first | exact p0.1 | omega, by first | exact p0.2 | omega⟩ ⟨by first | exact p2.1 | omega, by first | exact p2.2 | omega⟩ (fun g2 => ?_) (fun g2 => ?_)))
    ·
      exact w_vret X.1 q hRt (ax_d X (show cdA 184 21 = some (.return_, 1, 0, 0, 0) from rfl)) (Nat.zero_le _) (Nat.zero_le _) ⟨_, rfl, I, F, Or.inl ⟨rfl, by first | exact ⟨g1, g2⟩ | omega⟩⟩
    ·
      exact z_throw G X E ET hXt q (st := []) rfl (by decide) (by decide) (Nat.le_of_ble_eq_true rfl) (show 0 + 1 ≤ 1 by decide) (show 0 + 6 ≤ 6 by decide) (show 0 + 1 ≤ 1 by decide) (show 0 + 6 ≤ 6 by decide) ⟨_, rfl, I, F, Or.inr ⟨0, rfl, by first | exact And.intro (rfl) (Or.inr (g2)) | omega⟩⟩
set_option maxRecDepth 4000 in
theorem cs_configure2 (G : GX l s0 D tys a0 dT) (I : Bd s) {v : Int} (p0 : rng v) : CT l s0 D A dT 160 (rmN 160) [.ref (A 0), .int (Int32.ofInt v)] s (fun o t => Bd t ∧ Fm [32] [46] s t ∧ ((∃ e, o = .inl (some (.int (Int32.ofInt e))) ∧ rng e ∧ (0 ≤ v ∧ v < 16777216 ∧ ((iI s 32 = 6 ∧ e = -1 ∧ iI t 32 = 6) ∨ (iI s 32 ≠ 6 ∧ e = iI s 32 ∧ iI t 32 = iI s 32 + 1)))) ∨ ∃ x : Nat, o = .inr (exN x) ∧ (x = 0 ∧ (v < 0 ∨ 16777216 ≤ v) ∧ iI t 32 = iI s 32))) := by
  refine ct_ofX G (by decide) (Nat.le_of_ble_eq_true rfl) (fun k X E ET hRt hXt q => ?_)
  show WS k 0 [(0, .ref (A 0)), (1, .int (Int32.ofInt v))] [] _ 0 0
  have F : Fm [32] [46] s s := fm_rf _ _ s
  have b1 := bi_32 I
  refine z_aload_n X (x := A 0) rfl (List.Mem.head _) (z_load_n X (x := v) rfl (List.Mem.tail _ (List.Mem.head _)) (z_const X rfl (z_ldcw X rfl (z_callV X 0 (rm := rmN 184) (As := [.int (Int32.ofInt v), .int (Int32.ofInt 0), .int (Int32.ofInt 16777215)]) (st := []) rfl rfl (by decide) rfl (by rw [E.1, E.2.1, E.2.2.1]; exact cs_needWithin2 G I (by first | exact ⟨p0.1, p0.2⟩ | omega) (by first | exact ⟨by decide, by decide⟩ | omega) (by first | exact ⟨by decide, by decide⟩ | omega)) ⟨by rw [E.2.2.2]; exact (show (rmN 184).frames + 1 ≤ (rmN 160).frames by decide), by rw [E.2.2.2]; exact (show 8 + (mNL (miB 184) + 11) + (rmN 184).locals ≤ (rmN 160).locals by decide), by rw [E.2.2.2]; exact (show 0 + 1 ≤ 1 by decide), by rw [E.2.2.2]; exact (show 0 + 6 ≤ 6 by decide)⟩ (Nat.le_of_ble_eq_true rfl) (fun vv s2 hq => ?_) (fun ee s2 hq => ?_)))))
  rotate_left
  · obtain ⟨Is2, Fs2, (⟨hv, hps2⟩ | ⟨xx, hv, hps2⟩)⟩ := hq
    · cases hv
    · cases hv
      have Gs2 := fm_tq F Fs2 rfl rfl
      have ws2_32 : iI s2 32 = iI s 32 := fm_iq Fs2 rfl
      exact x_out X.1 q (fun x hx => (hXt x hx).elim) (show 1 ≤ 1 by decide) (show 6 ≤ 6 by decide) ⟨_, rfl, Is2, Gs2, Or.inr ⟨xx, rfl, by omega⟩⟩
  obtain ⟨Is2, Fs2, (⟨hv, hps2⟩ | ⟨xx, hv, hps2⟩)⟩ := hq
  rotate_left
  · cases hv
  cases hv
  have Gs2 := fm_tq F Fs2 rfl rfl
  have ws2_32 : iI s2 32 = iI s 32 := fm_iq Fs2 rfl
  show WS k 9 [(0, .ref (A 0)), (1, .int (Int32.ofInt v))] [] (Wd A dT s2) 1 6
  refine z_aload_n X (x := A 0) rfl (List.Mem.head _) (s_getR X 0 rfl (c518_ok rfl) rfl rfl (z_load_n X (x := v) rfl (List.Mem.tail _ (List.Mem.head _)) (z_callV X 54 (rm := rmN 43) (As := [.int (Int32.ofInt v)]) (st := []) rfl rfl (by decide) rfl (by rw [E.1, E.2.1, E.2.2.1]; exact c4_add_54 G Is2 (by first | exact ⟨hps2.1, hps2.2⟩ | omega)) ⟨by rw [E.2.2.2]; exact (show (rmN 43).frames + 1 ≤ (rmN 160).frames by decide), by rw [E.2.2.2]; exact (show 8 + (mNL (miB 43) + 11) + (rmN 43).locals ≤ (rmN 160).locals by decide), by rw [E.2.2.2]; exact (show 1 + 0 ≤ 1 by decide), by rw [E.2.2.2]; exact (show 6 + 0 ≤ 6 by decide)⟩ (Nat.le_of_ble_eq_true rfl) (fun vv s4 hq => ?_) (fun ee s4 hq => ?_))))
  rotate_left
  · obtain ⟨Is4, Fs4, e5, hv, hrs4, hps4⟩ := hq; cases hv
  obtain ⟨Is4, Fs4, e5, hv, hrs4, hps4⟩ := hq
  cases hv
  have Gs4 := fm_tq Gs2 Fs4 rfl rfl
  have b6 := bi_32 Is4
  show WS k 17 [(0, .ref (A 0)), (1, .int (Int32.ofInt v))] [.int (Int32.ofInt e5)] (Wd A dT s4) 1 6
  exact w_iret X.1 q hRt rfl (ax_d X (show cdA 160 17 = some (.ireturn, 1, 0, 0, 0) from rfl)) (show 1 ≤ 1 by decide) (show 6 ≤ 6 by decide) ⟨_, rfl, Is4, Gs4, Or.inl ⟨e5, rfl, hrs4, by first | exact ⟨hps2.1, oq_87396caf hps2.2, oq_76903a84 b6.2 hps4 ws2_32 b1.2⟩ | omega⟩⟩
set_option maxRecDepth 4000 in
theorem lw_configure2 (G : GX l s0 D tys a0 dT) (I : Bd s) {v : Int} (p0 : rng v) : CTL l s0 D A dT 334 (rmN 334) [.ref (A 0), .int (Int32.ofInt v), .ref (A 517)] s (fun o t => Bd t ∧ Fm [32] [46, 1460] s t ∧ ∃ e, o = .inl (some (.int (Int32.ofInt e))) ∧ rng e ∧ ((e = 0 ∧ 0 ≤ v ∧ v < 16777216 ∧ ((iI s 32 = 6 ∧ iO t = -1 ∧ iI t 32 = 6) ∨ (iI s 32 ≠ 6 ∧ iO t = iI s 32 ∧ iI t 32 = iI s 32 + 1))) ∨ (e = 1 ∧ (v < 0 ∨ 16777216 ≤ v) ∧ iI t 32 = iI s 32))) := by
  refine ctL_of G (by decide) (Nat.le_of_ble_eq_true rfl) (by decide) rfl (fun k X E ET hRt hEx q => ?_)
  show WS k 0 [(0, .ref (A 0)), (1, .int (Int32.ofInt v)), (2, .ref (A 517))] [] _ 0 0
  have F : Fm [32] [46, 1460] s s := fm_rf _ _ s
  have hA := swA_rf A
  have b1 := bi_32 I
  refine z_aload_n X (x := A 517) rfl (List.Mem.tail _ (List.Mem.tail _ (List.Mem.head _))) (z_const X rfl (z_aload_n X (x := A 0) rfl (List.Mem.head _) (z_load_n X (x := v) rfl (List.Mem.tail _ (List.Mem.head _)) (z_callV X 0 (rm := rmN 160) (As := [.int (Int32.ofInt v)]) (st := [.int (Int32.ofInt 0), .ref (A 517)]) rfl rfl (by decide) rfl (by rw [E.1, E.2.1, E.2.2.1]; exact cs_configure2 G I (by omega)) ⟨by rw [E.2.2.2]; exact (show (rmN 160).frames + 1 ≤ (rmN 334).frames by decide), by rw [E.2.2.2]; exact (show 8 + (mNL (miB 160) + 11) + (rmN 160).locals ≤ (rmN 334).locals by decide), by rw [E.2.2.2]; exact (show 0 + (rmN 160).cells ≤ (rmN 334).cells by decide), by rw [E.2.2.2]; exact (show 0 + (rmN 160).slots ≤ (rmN 334).slots by decide)⟩ (Nat.le_of_ble_eq_true rfl) (fun vv s2 hq => ?_) (fun ee s2 hq => ?_)))))
  rotate_left
  · obtain ⟨Is2, Fs2, (⟨e3, hv, hrs2, hps2⟩ | ⟨xx, hv, hps2⟩)⟩ := hq
    · cases hv
    · cases hv
      rcases (show xx = 0 by omega) with gx
      ·
        subst gx
        have Gs2 := fm_tq F Fs2 rfl rfl
        have b4 := bi_32 Is2
        refine (hEx 4 0).2 12 rfl _ _ _ _ _ (fun q1 => ?_)
        show WS k 12 [(0, .ref (A 0)), (1, .int (Int32.ofInt v)), (2, .ref (A 517))] [.ref q1] (Wd A dT s2) 1 6
        refine z_astore_n X (lv' := [(3, .ref q1), (0, .ref (A 0)), (1, .int (Int32.ofInt v)), (2, .ref (A 517))]) rfl (by decide) (fun _ h => h) (z_const X rfl ?_)
        exact w_iret X.1 q hRt rfl (ax_d X (show cdA 334 14 = some (.ireturn, 1, 0, 0, 0) from rfl)) (show 1 ≤ 1 by decide) (show 6 ≤ 6 by decide) ⟨A, _, hA, rfl, Is2, Gs2, 1, rfl, (by decide), by omega⟩
  obtain ⟨Is2, Fs2, (⟨e3, hv, hrs2, hps2⟩ | ⟨xx, hv, hps2⟩)⟩ := hq
  rotate_left
  · cases hv
  cases hv
  have Gs2 := fm_tq F Fs2 rfl rfl
  have b5 := bi_32 Is2
  show WS k 7 [(0, .ref (A 0)), (1, .int (Int32.ofInt v)), (2, .ref (A 517))] [.int (Int32.ofInt e3), .int (Int32.ofInt 0), .ref (A 517)] (Wd A dT s2) 1 6
  refine w_i2l X.1 (ax_d X (show cdA 334 7 = some (.i2l, 1, 0, 0, 0) from rfl)) (z_last X 517 rfl (c518_ok rfl) rfl (by first | (clear hps2; omega) | omega) (show 0 < 1 by first | (clear hps2; omega) | omega) (cbig_ok rfl) (wd_gen (fun s6 hs6 => ?_)))
  have Is6 : Bd s6 := eqB hs6 (bd_D Is2)
  have Fs6 : Fm [32] [46, 1460] s s6 := by rw [hs6]; exact fm_D Gs2 (show 460 + 1000 ∈ _ by decide)
  have ws6_32 : iI s6 32 = iI s2 32 := eqI hs6 rfl
  have oos6 : iO s6 = e3 := by rw [hs6]; exact iO_u (by first | (clear hps2; omega) | omega)
  refine z_goto X (t := 15) rfl rfl (z_const X rfl ?_)
  exact w_iret X.1 q hRt rfl (ax_d X (show cdA 334 16 = some (.ireturn, 1, 0, 0, 0) from rfl)) (show 1 ≤ 1 by decide) (show 6 ≤ 6 by decide) ⟨A, _, hA, rfl, Is6, Fs6, 0, rfl, (by decide), by first | (clear hps2; omega) | omega⟩
set_option maxRecDepth 4000 in
theorem k_did2 (G : GX l s0 D tys a0 dT) (I : Bd s) (jRLx : RLx s) {x y z w : Int} (p0 : rng x) (p1 : rng y) (p2 : rng z) (p3 : w = 0 ∨ w = 1) : CT l s0 D A dT 287 (rmN 287) [.ref (A 179), .int (Int32.ofInt x), .int (Int32.ofInt y), .int (Int32.ofInt z), .int (Int32.ofInt w)] s (fun o t => Bd t ∧ Fm [73, 107, 77, 75, 78, 79, 80, 81] [202, 204, 205, 206, 207, 208, 209, 210, 211, 212, 213, 214, 215, 216, 217, 218, 219, 220, 221, 222, 223, 224, 225, 226, 227, 203, 161, 230, 417, 418, 419, 420, 421, 422, 423, 424, 425, 426, 427, 428, 429, 430, 431, 432, 433, 434, 435, 436, 437, 438, 439, 440, 441, 442, 443, 444, 445, 446, 447, 448, 449, 450, 451, 452, 453, 454, 455, 456, 457, 459] s t ∧ RLx t ∧ ∃ e, o = .inl (some (.int (Int32.ofInt e))) ∧ rng e ∧ (((0 ≤ x ∧ x ≤ 7 ∧ 0 ≤ y ∧ y ≤ 23 ∧ 0 ≤ z ∧ z ≤ 9999 ∧ iI t 73 = 0 ∧ ((iI s 107 = 40 ∧ e = -1 ∧ iI t 107 = 40) ∨ (iI s 107 ≠ 40 ∧ e = iI s 107 ∧ iI t 107 = iI s 107 + 1))) ∨ ((x < 0 ∨ 7 < x ∨ y < 0 ∨ 23 < y ∨ z < 0 ∨ 9999 < z) ∧ iI t 73 = 1 ∧ iI t 107 = iI s 107)))) := by
  refine ct_of G (by decide) (Nat.le_of_ble_eq_true rfl) (fun k X E hRt hXt q => ?_)
  show WS k 0 [(0, .ref (A 179)), (1, .int (Int32.ofInt x)), (2, .int (Int32.ofInt y)), (3, .int (Int32.ofInt z)), (4, .int (Int32.ofInt w))] [] _ 0 0
  have F : Fm [73, 107, 77, 75, 78, 79, 80, 81] [202, 204, 205, 206, 207, 208, 209, 210, 211, 212, 213, 214, 215, 216, 217, 218, 219, 220, 221, 222, 223, 224, 225, 226, 227, 203, 161, 230, 417, 418, 419, 420, 421, 422, 423, 424, 425, 426, 427, 428, 429, 430, 431, 432, 433, 434, 435, 436, 437, 438, 439, 440, 441, 442, 443, 444, 445, 446, 447, 448, 449, 450, 451, 452, 453, 454, 455, 456, 457, 459] s s := fm_rf _ _ s
  have b1 := bi_73 I
  have b2 := bi_107 I
  have L79 : ∀ (n : Nat) (t : PS) (xv yv zv wv c : Int), Bd t → Fm [73, 107, 77, 75, 78, 79, 80, 81] [202, 204, 205, 206, 207, 208, 209, 210, 211, 212, 213, 214, 215, 216, 217, 218, 219, 220, 221, 222, 223, 224, 225, 226, 227, 203, 161, 230, 417, 418, 419, 420, 421, 422, 423, 424, 425, 426, 427, 428, 429, 430, 431, 432, 433, 434, 435, 436, 437, 438, 439, 440, 441, 442, 443, 444, 445, 446, 447, 448, 449, 450, 451, 452, 453, 454, 455, 456, 457, 459] s t → RLx t → (rng zv ∧ (wv = 0 ∨ wv = 1) ∧ 0 ≤ c ∧ c ≤ 4 ∧ iI t 107 ≤ 39 ∧ iI t 107 = iI s 107 ∧ iI t 73 = 0) → (4 - c : Int).toNat < n → (∀ (t' : PS) (c' : Int), Bd t' → Fm [73, 107, 77, 75, 78, 79, 80, 81] [202, 204, 205, 206, 207, 208, 209, 210, 211, 212, 213, 214, 215, 216, 217, 218, 219, 220, 221, 222, 223, 224, 225, 226, 227, 203, 161, 230, 417, 418, 419, 420, 421, 422, 423, 424, 425, 426, 427, 428, 429, 430, 431, 432, 433, 434, 435, 436, 437, 438, 439, 440, 441, 442, 443, 444, 445, 446, 447, 448, 449, 450, 451, 452, 453, 454, 455, 456, 457, 459] s t' → RLx t' → (rng zv ∧ (wv = 0 ∨ wv = 1) ∧ 0 ≤ c' ∧ c' ≤ 4 ∧ iI t' 107 ≤ 39 ∧ iI t' 107 = iI s 107 ∧ iI t' 73 = 0) → WS k 110 [(0, .ref (A 179)), (1, .int (Int32.ofInt xv)), (2, .int (Int32.ofInt yv)), (3, .int (Int32.ofInt zv)), (4, .int (Int32.ofInt wv)), (5, .int (Int32.ofInt c'))] [] (Wd A dT t') 0 0) → WS k 79 [(0, .ref (A 179)), (1, .int (Int32.ofInt xv)), (2, .int (Int32.ofInt yv)), (3, .int (Int32.ofInt zv)), (4, .int (Int32.ofInt wv)), (5, .int (Int32.ofInt c))] [] (Wd A dT t) 0 0 := by
    intro n
    induction n with
    | zero =>
      intro t xv yv zv wv c I F jjRLx hi hm kx
      exact absurd hm (Nat.not_lt_zero _)
    | succ n ih =>
      intro t xv yv zv wv c I F jjRLx hi hm kx
      have b1001 := bi_73 I
      have b1002 := bi_107 I
      refine z_load X (x := c) rfl (List.Mem.tail _ (List.Mem.tail _ (List.Mem.tail _ (List.Mem.tail _ (List.Mem.tail _ (List.Mem.head _)))))) (z_const X rfl (z_icmp_ge X (t := 110) rfl rfl ⟨by first | exact oq_fa4e5087 hi.2.2.1 | omega, by first | exact oq_4a4414da hi.2.2.2.1 | omega⟩ (by decide) (fun g1003 => ?_) (fun g1003 => ?_)))
      ·
        refine WS_pq [0, 1, 2, 3, 4, 5] (lv' := [(0, .ref (A 179)), (1, .int (Int32.ofInt xv)), (2, .int (Int32.ofInt yv)), (3, .int (Int32.ofInt zv)), (4, .int (Int32.ofInt wv)), (5, .int (Int32.ofInt c))]) rfl ?_
        exact kx _ c I F jjRLx (by first | exact ⟨And.intro (hi.1.1) (hi.1.2), hi.2.1, hi.2.2.1, hi.2.2.2.1, hi.2.2.2.2.1, hi.2.2.2.2.2.1, hi.2.2.2.2.2.2⟩ | omega)
      ·
        refine z_aload_n X (x := A 179) rfl (List.Mem.head _) (s_getR X 179 rfl (c518_ok rfl) rfl rfl (z_aload_n X (x := A 179) rfl (List.Mem.head _) (z_getI X 179 rfl (c518_ok rfl) rfl rfl ?_)))
        have b1004 := bi_107 I
        refine z_aald X rw_473 rfl (by first | exact b1004.1 | omega) (show (iI t 107) < 40 by first | exact oq_2ca8b5c0 hi.2.2.2.2.1 | omega) (by decide) (z_load X (x := c) rfl (List.Mem.tail _ (List.Mem.tail _ (List.Mem.tail _ (List.Mem.tail _ (List.Mem.tail _ (List.Mem.head _)))))) (z_aload_n X (x := A 179) rfl (List.Mem.head _) (s_getR X 179 rfl (c518_ok rfl) rfl rfl (z_load X (x := c) rfl (List.Mem.tail _ (List.Mem.tail _ (List.Mem.tail _ (List.Mem.tail _ (List.Mem.tail _ (List.Mem.head _)))))) (z_ald X 184 rfl (c518_ok rfl) rfl (by first | exact hi.2.2.1 | omega) (show c < 7 by first | exact oq_453ddee4 g1003 | omega) (cbig_ok rfl) ?_)))))
        have b1005 := bc_161 I (show (c).toNat < 7 by first | exact oq_ca1d9e56 g1003 | omega)
        refine z_ast2 X rw_473 rfl (show ((iI t 107) : Int).toNat < 40 by first | exact oq_09251224 hi.2.2.2.2.1 | omega) (by first | exact hi.2.2.1 | omega) (show c < 4 by first | exact g1003 | omega) (by decide) (wd_gen (fun s1006 hs1006 => ?_))
        have Is1006 : Bd s1006 := eqB hs1006 (rw_st rw_473 I (show ((iI t 107) : Int).toNat < 40 by first | exact oq_09251224 hi.2.2.2.2.1 | omega) (show ((-2147483648) : Int) ≤ (iC t 161 (c).toNat) ∧ (iC t 161 (c).toNat) ≤ 2147483647 by first | exact ⟨b1005.1, b1005.2⟩ | omega) (rng_to _))
        have Fs1006 := eqF hs1006 (fm_C (i := (c : Int).toNat) (x := Int32.ofInt (iC t 161 (c).toNat)) F ((show ∀ j, j < 40 → 417 + j ∈ _ by decide) ((iI t 107) : Int).toNat (by first | exact oq_09251224 hi.2.2.2.2.1 | omega)))
        have ws1006_73 : iI s1006 73 = iI t 73 := eqI hs1006 rfl
        have ws1006_107 : iI s1006 107 = iI t 107 := eqI hs1006 rfl
        have fs1006 : Fm [] [417, 418, 419, 420, 421, 422, 423, 424, 425, 426, 427, 428, 429, 430, 431, 432, 433, 434, 435, 436, 437, 438, 439, 440, 441, 442, 443, 444, 445, 446, 447, 448, 449, 450, 451, 452, 453, 454, 455, 456] t s1006 := by rw [hs1006]; exact fm_C (fm_rf _ _ _) ((show ∀ j, j < 40 → 417 + j ∈ _ by decide) ((iI t 107) : Int).toNat (by first | exact oq_09251224 hi.2.2.2.2.1 | omega))
        have JRLx_s1006 : RLx s1006 := RLx_fm fs1006 (by decide) jjRLx
        refine z_inc X (x := c) (lv' := [(5, .int (Int32.ofInt (c + 1))), (0, .ref (A 179)), (1, .int (Int32.ofInt xv)), (2, .int (Int32.ofInt yv)), (3, .int (Int32.ofInt zv)), (4, .int (Int32.ofInt wv))]) rfl (by decide) (List.Mem.tail _ (List.Mem.tail _ (List.Mem.tail _ (List.Mem.tail _ (List.Mem.tail _ (List.Mem.head _)))))) (fun _ h => h) (z_goto X (t := 79) rfl rfl (WS_pq [1, 2, 3, 4, 5, 0] (lv' := [(0, .ref (A 179)), (1, .int (Int32.ofInt xv)), (2, .int (Int32.ofInt yv)), (3, .int (Int32.ofInt zv)), (4, .int (Int32.ofInt wv)), (5, .int (Int32.ofInt (c + 1)))]) rfl ?_))
        exact ih _ xv yv zv wv (c + 1) Is1006 Fs1006 JRLx_s1006 (by first | exact ⟨And.intro (hi.1.1) (hi.1.2), hi.2.1, oq_54f49eb5 hi.2.2.1, oq_5b7aaf9e g1003, oq_bcf6953c ws1006_107 hi.2.2.2.2.1, oq_1aa5be9e ws1006_107 hi.2.2.2.2.2.1, oq_333640b7 ws1006_73 hi.2.2.2.2.2.2 b1001.1⟩ | omega) (by first | exact qk_me hm (by decide) (oq_de1b25d0 g1003) | omega) kx
  refine z_aload_n X (x := A 179) rfl (List.Mem.head _) (z_const X rfl (s_putI X 179 rfl (c518_ok rfl) rfl rfl (by decide) rfl rfl rfl (wd_gen (fun s3 hs3 => ?_))))
  have Is3 : Bd s3 := eqB hs3 (bd_I I (show (0 : Int) ≤ 0 ∧ 0 ≤ 3 by first | exact ⟨by decide, by decide⟩ | omega) (by decide))
  have Fs3 := eqF hs3 (fm_I F (inl_ok (a := 73) rfl))
  have vs3 : iI s3 73 = 0 := eqI hs3 (iI_u (by decide))
  have ws3_107 : iI s3 107 = iI s 107 := eqI hs3 rfl
  have fs3 : Fm [73] [] s s3 := by rw [hs3]; exact fm_I (fm_rf _ _ _) (show 73 ∈ _ by decide)
  have JRLx_s3 : RLx s3 := RLx_fm fs3 (by decide) jRLx
  refine z_aload_n X (x := A 179) rfl (List.Mem.head _) (z_load_n X (x := x) rfl (List.Mem.tail _ (List.Mem.head _)) (z_const X rfl (z_bipush X rfl (z_callS X (rm := rmN 188) (As := [.int (Int32.ofInt x), .int (Int32.ofInt 0), .int (Int32.ofInt 7)]) (st := [.ref (A 179)]) rfl rfl (by rw [E.1, E.2.1, E.2.2.1]; exact k_in2 G Is3 (by first | exact ⟨p0.1, p0.2⟩ | omega) (by first | exact ⟨by decide, by decide⟩ | omega) (by first | exact ⟨by decide, by decide⟩ | omega)) ⟨by rw [E.2.2.2]; exact (show (rmN 188).frames + 1 ≤ (rmN 287).frames by decide), by rw [E.2.2.2]; exact (show 8 + (mNL (miB 188) + 11) + (rmN 188).locals ≤ (rmN 287).locals by decide), by rw [E.2.2.2]; exact (show 0 + (rmN 188).cells ≤ (rmN 287).cells by decide), by rw [E.2.2.2]; exact (show 0 + (rmN 188).slots ≤ (rmN 287).slots by decide)⟩ (Nat.le_of_ble_eq_true rfl) (fun vv s4 hq => ?_) (fun ee s4 hq => ?_)))))
  rotate_left
  · obtain ⟨rfl, e5, hv, hrs4, hps4⟩ := hq; cases hv
  obtain ⟨rfl, e5, hv, hrs4, hps4⟩ := hq
  cases hv
  show WS k 13 [(0, .ref (A 179)), (1, .int (Int32.ofInt x)), (2, .int (Int32.ofInt y)), (3, .int (Int32.ofInt z)), (4, .int (Int32.ofInt w))] [.int (Int32.ofInt e5), .ref (A 179)] (Wd A dT s3) 0 0
  refine z_if_eq X (t := 37) rfl rfl hrs4 (fun g6 => ?_) (fun g6 => ?_)
  ·
    refine z_const X rfl (z_goto X (t := 42) rfl rfl (z_const X rfl (zcV_i0 X E 179 (As := [.int (Int32.ofInt 1), .int (Int32.ofInt 1)]) (st := []) rfl rfl rfl rfl (k_bad2 G Is3 (by first | exact Or.inr (by decide) | omega) (by first | exact ⟨by decide, by decide⟩ | omega)) rfl (Nat.le_of_ble_eq_true rfl) (fun s7 e8 Is7 Fs7 hrs7 hps7 => ?_))))
    have Gs7 := fm_tq Fs3 Fs7 rfl rfl
    have JRLx_s7 : RLx s7 := RLx_fm Fs7 (by decide) JRLx_s3
    have b9 := bi_73 Is7
    have ws7_107 : iI s7 107 = iI s3 107 := fm_iq Fs7 rfl
    refine z_if_eq X (t := 51) rfl rfl hrs7 (fun g10 => ?_) (fun g10 => ?_)
    ·
      refine z_aload_n X (x := A 179) rfl (List.Mem.head _) (z_getI X 179 rfl (c518_ok rfl) rfl rfl ?_)
      have b11 := bi_107 Is7
      refine z_bipush X rfl (z_icmp_ne X (t := 62) rfl rfl (rng_to _) (by decide) (fun g12 => ?_) (fun g12 => ?_))
      ·
        refine z_aload_n X (x := A 179) rfl (List.Mem.head _) (z_load_n X (x := x) rfl (List.Mem.tail _ (List.Mem.head _)) (zcV_v0 X E 179 (As := [.int (Int32.ofInt x)]) (st := []) rfl rfl rfl rfl (k_setOf G Is7 (by first | exact ⟨p0.1, p0.2⟩ | omega)) rfl (Nat.le_of_ble_eq_true rfl) (fun s13 Is13 Fs13 hps13 => ?_)))
        have Gs13 := fm_tq Gs7 Fs13 rfl rfl
        have JRLx_s13 : RLx s13 := RLx_fm Fs13 (by decide) JRLx_s7
        have ws13_73 : iI s13 73 = iI s7 73 := fm_iq Fs13 rfl
        have ws13_107 : iI s13 107 = iI s7 107 := fm_iq Fs13 rfl
        refine z_aload_n X (x := A 179) rfl (List.Mem.head _) (z_load_n X (x := y) rfl (List.Mem.tail _ (List.Mem.tail _ (List.Mem.head _))) (zcV_v2 X E 179 (As := [.int (Int32.ofInt y)]) (st := []) rfl rfl rfl rfl (k_asTold G Is13 JRLx_s13 (by first | exact ⟨oq_674898f9 g10 hps7 vs3, oq_48516caf g10 hps7 vs3⟩ | omega)) rfl (Nat.le_of_ble_eq_true rfl) (fun s15 Is15 Fs15 JRLx_s15 JNQ_s15 hps15 => ?_)))
        have Gs15 := fm_tq Gs13 Fs15 rfl rfl
        have JRLx_s15 : RLx s15 := RLx_fm Fs15 (by decide) JRLx_s13
        have ws15_73 : iI s15 73 = iI s13 73 := fm_iq Fs15 rfl
        have ws15_107 : iI s15 107 = iI s13 107 := fm_iq Fs15 rfl
        refine z_aload_n X (x := A 179) rfl (List.Mem.head _) ?_
        have JNW_s15 : NW s15 := NW_of JNQ_s15 JRLx_s15
        refine zcV_v1 X E 179 (As := []) (st := []) rfl rfl rfl rfl (k_listen G Is15 JNW_s15 ) rfl (Nat.le_of_ble_eq_true rfl) (fun s17 Is17 Fs17 JNW_s17 hps17 => ?_)
        have Gs17 := fm_tq Gs15 Fs17 rfl rfl
        have JRLx_s17 : RLx s17 := RLx_fm Fs17 (by decide) JRLx_s15
        have JNW_s17 : NW s17 := NW_fm Fs17 (by decide) JNW_s15
        have ws17_73 : iI s17 73 = iI s15 73 := fm_iq Fs17 rfl
        have ws17_107 : iI s17 107 = iI s15 107 := fm_iq Fs17 rfl
        refine z_const X rfl (z_store X (lv' := [(5, .int (Int32.ofInt 0)), (0, .ref (A 179)), (1, .int (Int32.ofInt x)), (2, .int (Int32.ofInt y)), (3, .int (Int32.ofInt z)), (4, .int (Int32.ofInt w))]) rfl (by decide) (fun _ h => h) (WS_pq [1, 2, 3, 4, 5, 0] (lv' := [(0, .ref (A 179)), (1, .int (Int32.ofInt x)), (2, .int (Int32.ofInt y)), (3, .int (Int32.ofInt z)), (4, .int (Int32.ofInt w)), (5, .int (Int32.ofInt 0))]) rfl (L79 ((4 - 0 : Int).toNat + 1) s17 x y z w 0 Is17 Gs17 JRLx_s17 (by first | exact ⟨And.intro (p2.1) (p2.2), p3, by decide, by decide, oq_f5d717ba ws17_107 ws15_107 ws13_107 g12 b11.2, oq_d5af8cc9 ws17_107 ws3_107 ws15_107 ws7_107 ws13_107, oq_3904add8 ws17_73 ws15_73 ws13_73 g10 b9.1 hps7 vs3⟩ | omega) (Nat.lt_succ_self _) ?_)))
        intro s19 x20 Is19 Fs19 JRLx_s19 hs19
        have b21 := bi_73 Is19
        have b22 := bi_107 Is19
        refine z_aload_n X (x := A 179) rfl (List.Mem.head _) (s_getR X 179 rfl (c518_ok rfl) rfl rfl (z_aload_n X (x := A 179) rfl (List.Mem.head _) (z_getI X 179 rfl (c518_ok rfl) rfl rfl ?_)))
        have b23 := bi_107 Is19
        refine z_load_n X (x := z) rfl (List.Mem.tail _ (List.Mem.tail _ (List.Mem.tail _ (List.Mem.head _)))) (z_ast X 514 rfl (c518_ok rfl) rfl (by first | exact b23.1 | omega) (show (iI s19 107) < 40 by first | exact oq_2ca8b5c0 hs19.2.2.2.2.1 | omega) (cbig_ok rfl) (wd_gen (fun s24 hs24 => ?_)))
        have Is24 : Bd s24 := eqB hs24 (bd_C Is19 (show ((-2147483648) : Int) ≤ z ∧ z ≤ 2147483647 by first | exact ⟨hs19.1.1, hs19.1.2⟩ | omega) ⟨by first | exact hs19.1.1 | omega, by first | exact hs19.1.2 | omega⟩)
        have Fs24 := eqF hs24 (fm_C Fs19 (inl_ok (a := 457) rfl))
        have ws24_73 : iI s24 73 = iI s19 73 := eqI hs24 rfl
        have ws24_107 : iI s24 107 = iI s19 107 := eqI hs24 rfl
        have fs24 : Fm [] [457] s19 s24 := by rw [hs24]; exact fm_C (fm_rf _ _ _) (show 457 ∈ _ by decide)
        have JRLx_s24 : RLx s24 := RLx_fm fs24 (by decide) JRLx_s19
        refine z_aload_n X (x := A 179) rfl (List.Mem.head _) (s_getR X 179 rfl (c518_ok rfl) rfl rfl (z_aload_n X (x := A 179) rfl (List.Mem.head _) (z_getI X 179 rfl (c518_ok rfl) rfl rfl ?_)))
        have b25 := bi_107 Is24
        refine z_load X (x := w) rfl (List.Mem.tail _ (List.Mem.tail _ (List.Mem.tail _ (List.Mem.tail _ (List.Mem.head _))))) (z_zast X 516 rfl (c518_ok rfl) rfl (by first | exact b25.1 | omega) (show (iI s24 107) < 40 by first | exact oq_e7509aa9 ws24_107 hs19.2.2.2.2.1 | omega) (cbig_ok rfl) (by first | exact hs19.2.1 | omega) (wd_gen (fun s26 hs26 => ?_)))
        have Is26 : Bd s26 := eqB hs26 (bd_C Is24 (show (0 : Int) ≤ w ∧ w ≤ 1 by first | exact ⟨oq_e4aca38c hs19.2.1, oq_14617724 hs19.2.1⟩ | omega) ⟨by first | exact oq_bde653e9 hs19.2.1 | omega, by first | exact oq_4ad2cb8b hs19.2.1 | omega⟩)
        have Fs26 := eqF hs26 (fm_C Fs24 (inl_ok (a := 459) rfl))
        have ws26_73 : iI s26 73 = iI s24 73 := eqI hs26 rfl
        have ws26_107 : iI s26 107 = iI s24 107 := eqI hs26 rfl
        have fs26 : Fm [] [459] s24 s26 := by rw [hs26]; exact fm_C (fm_rf _ _ _) (show 459 ∈ _ by decide)
        have JRLx_s26 : RLx s26 := RLx_fm fs26 (by decide) JRLx_s24
        refine z_aload_n X (x := A 179) rfl (List.Mem.head _) (w_dup X.1 (ax_d X (show cdA 287 132 = some (.dup, 1, 0, 0, 0) from rfl)) rfl (z_getI X 179 rfl (c518_ok rfl) rfl rfl ?_))
        have b27 := bi_107 Is26
        refine z_const X rfl (z_add X rfl (s_putI X 179 rfl (c518_ok rfl) rfl rfl (by decide) rfl rfl rfl (wd_gen (fun s28 hs28 => ?_))))
        have Is28 : Bd s28 := eqB hs28 (bd_I Is26 (show (0 : Int) ≤ ((iI s26 107) + 1) ∧ ((iI s26 107) + 1) ≤ 40 by first | exact ⟨oq_54f49eb5 b27.1, oq_44ae331b ws26_107 ws24_107 hs19.2.2.2.2.1⟩ | omega) ⟨by first | exact oq_74de1e16 b27.1 | omega, by first | exact oq_c01d6c28 b27.2 | omega⟩)
        have Fs28 := eqF hs28 (fm_I Fs26 (inl_ok (a := 107) rfl))
        have vs28 : iI s28 107 = ((iI s26 107) + 1) := eqI hs28 (iI_u ⟨by first | exact oq_74de1e16 b27.1 | omega, by first | exact oq_c01d6c28 b27.2 | omega⟩)
        have ws28_73 : iI s28 73 = iI s26 73 := eqI hs28 rfl
        have fs28 : Fm [107] [] s26 s28 := by rw [hs28]; exact fm_I (fm_rf _ _ _) (show 107 ∈ _ by decide)
        have JRLx_s28 : RLx s28 := RLx_fm fs28 (by decide) JRLx_s26
        refine z_aload_n X (x := A 179) rfl (List.Mem.head _) (z_getI X 179 rfl (c518_ok rfl) rfl rfl ?_)
        have b29 := bi_107 Is28
        refine z_const X rfl (z_sub X rfl ?_)
        exact w_iret X.1 q hRt rfl (ax_d X (show cdA 287 147 = some (.ireturn, 1, 0, 0, 0) from rfl)) (Nat.zero_le _) (Nat.zero_le _) ⟨_, rfl, Is28, Fs28, JRLx_s28, ((iI s28 107) - 1), rfl, ⟨by first | exact oq_c1e961c7 b29.1 | omega, by first | exact oq_86f8893e b29.2 | omega⟩, by first | exact oq_c19f6a79 g10 hps7 vs3 | omega⟩
      ·
        refine z_const X rfl ?_
        exact w_iret X.1 q hRt rfl (ax_d X (show cdA 287 61 = some (.ireturn, 1, 0, 0, 0) from rfl)) (Nat.zero_le _) (Nat.zero_le _) ⟨_, rfl, Is7, Gs7, JRLx_s7, (-1), rfl, (by decide), by first | exact oq_79b67d7f g10 hps7 vs3 | omega⟩
    ·
      refine z_const X rfl ?_
      exact w_iret X.1 q hRt rfl (ax_d X (show cdA 287 50 = some (.ireturn, 1, 0, 0, 0) from rfl)) (Nat.zero_le _) (Nat.zero_le _) ⟨_, rfl, Is7, Gs7, JRLx_s7, 0, rfl, (by decide), by first | exact oq_c407e084 g10 ws7_107 hps7 g6 hps4 ws3_107 vs3 | omega⟩
  ·
    refine z_load_n X (x := y) rfl (List.Mem.tail _ (List.Mem.tail _ (List.Mem.head _))) (z_const X rfl (z_bipush X rfl (z_callS X (rm := rmN 188) (As := [.int (Int32.ofInt y), .int (Int32.ofInt 0), .int (Int32.ofInt 23)]) (st := [.ref (A 179)]) rfl rfl (by rw [E.1, E.2.1, E.2.2.1]; exact k_in2 G Is3 (by first | exact ⟨p1.1, p1.2⟩ | omega) (by first | exact ⟨by decide, by decide⟩ | omega) (by first | exact ⟨by decide, by decide⟩ | omega)) ⟨by rw [E.2.2.2]; exact (show (rmN 188).frames + 1 ≤ (rmN 287).frames by decide), by rw [E.2.2.2]; exact (show 8 + (mNL (miB 188) + 11) + (rmN 188).locals ≤ (rmN 287).locals by decide), by rw [E.2.2.2]; exact (show 0 + (rmN 188).cells ≤ (rmN 287).cells by decide), by rw [E.2.2.2]; exact (show 0 + (rmN 188).slots ≤ (rmN 287).slots by decide)⟩ (Nat.le_of_ble_eq_true rfl) (fun vv s30 hq => ?_) (fun ee s30 hq => ?_))))
    rotate_left
    · obtain ⟨rfl, e31, hv, hrs30, hps30⟩ := hq; cases hv
    obtain ⟨rfl, e31, hv, hrs30, hps30⟩ := hq
    cases hv
    show WS k 23 [(0, .ref (A 179)), (1, .int (Int32.ofInt x)), (2, .int (Int32.ofInt y)), (3, .int (Int32.ofInt z)), (4, .int (Int32.ofInt w))] [.int (Int32.ofInt e31), .ref (A 179)] (Wd A dT s3) 0 0
    refine z_if_eq X (t := 37) rfl rfl hrs30 (fun g32 => ?_) (fun g32 => ?_)
    ·
      refine z_const X rfl (z_goto X (t := 42) rfl rfl (z_const X rfl (zcV_i0 X E 179 (As := [.int (Int32.ofInt 1), .int (Int32.ofInt 1)]) (st := []) rfl rfl rfl rfl (k_bad2 G Is3 (by first | exact Or.inr (by decide) | omega) (by first | exact ⟨by decide, by decide⟩ | omega)) rfl (Nat.le_of_ble_eq_true rfl) (fun s33 e34 Is33 Fs33 hrs33 hps33 => ?_))))
      have Gs33 := fm_tq Fs3 Fs33 rfl rfl
      have JRLx_s33 : RLx s33 := RLx_fm Fs33 (by decide) JRLx_s3
      have b35 := bi_73 Is33
      have ws33_107 : iI s33 107 = iI s3 107 := fm_iq Fs33 rfl
      refine z_if_eq X (t := 51) rfl rfl hrs33 (fun g36 => ?_) (fun g36 => ?_)
      ·
        refine z_aload_n X (x := A 179) rfl (List.Mem.head _) (z_getI X 179 rfl (c518_ok rfl) rfl rfl ?_)
        have b37 := bi_107 Is33
        refine z_bipush X rfl (z_icmp_ne X (t := 62) rfl rfl (rng_to _) (by decide) (fun g38 => ?_) (fun g38 => ?_))
        ·
          refine z_aload_n X (x := A 179) rfl (List.Mem.head _) (z_load_n X (x := x) rfl (List.Mem.tail _ (List.Mem.head _)) (zcV_v0 X E 179 (As := [.int (Int32.ofInt x)]) (st := []) rfl rfl rfl rfl (k_setOf G Is33 (by first | exact ⟨p0.1, p0.2⟩ | omega)) rfl (Nat.le_of_ble_eq_true rfl) (fun s39 Is39 Fs39 hps39 => ?_)))
          have Gs39 := fm_tq Gs33 Fs39 rfl rfl
          have JRLx_s39 : RLx s39 := RLx_fm Fs39 (by decide) JRLx_s33
          have ws39_73 : iI s39 73 = iI s33 73 := fm_iq Fs39 rfl
          have ws39_107 : iI s39 107 = iI s33 107 := fm_iq Fs39 rfl
          refine z_aload_n X (x := A 179) rfl (List.Mem.head _) (z_load_n X (x := y) rfl (List.Mem.tail _ (List.Mem.tail _ (List.Mem.head _))) (zcV_v2 X E 179 (As := [.int (Int32.ofInt y)]) (st := []) rfl rfl rfl rfl (k_asTold G Is39 JRLx_s39 (by first | exact ⟨oq_674898f9 g36 hps33 vs3, oq_48516caf g36 hps33 vs3⟩ | omega)) rfl (Nat.le_of_ble_eq_true rfl) (fun s41 Is41 Fs41 JRLx_s41 JNQ_s41 hps41 => ?_)))
          have Gs41 := fm_tq Gs39 Fs41 rfl rfl
          have JRLx_s41 : RLx s41 := RLx_fm Fs41 (by decide) JRLx_s39
          have ws41_73 : iI s41 73 = iI s39 73 := fm_iq Fs41 rfl
          have ws41_107 : iI s41 107 = iI s39 107 := fm_iq Fs41 rfl
          refine z_aload_n X (x := A 179) rfl (List.Mem.head _) ?_
          have JNW_s41 : NW s41 := NW_of JNQ_s41 JRLx_s41
          refine zcV_v1 X E 179 (As := []) (st := []) rfl rfl rfl rfl (k_listen G Is41 JNW_s41 ) rfl (Nat.le_of_ble_eq_true rfl) (fun s43 Is43 Fs43 JNW_s43 hps43 => ?_)
          have Gs43 := fm_tq Gs41 Fs43 rfl rfl
          have JRLx_s43 : RLx s43 := RLx_fm Fs43 (by decide) JRLx_s41
          have JNW_s43 : NW s43 := NW_fm Fs43 (by decide) JNW_s41
          have ws43_73 : iI s43 73 = iI s41 73 := fm_iq Fs43 rfl
          have ws43_107 : iI s43 107 = iI s41 107 := fm_iq Fs43 rfl
          refine z_const X rfl (z_store X (lv' := [(5, .int (Int32.ofInt 0)), (0, .ref (A 179)), (1, .int (Int32.ofInt x)), (2, .int (Int32.ofInt y)), (3, .int (Int32.ofInt z)), (4, .int (Int32.ofInt w))]) rfl (by decide) (fun _ h => h) (WS_pq [1, 2, 3, 4, 5, 0] (lv' := [(0, .ref (A 179)), (1, .int (Int32.ofInt x)), (2, .int (Int32.ofInt y)), (3, .int (Int32.ofInt z)), (4, .int (Int32.ofInt w)), (5, .int (Int32.ofInt 0))]) rfl (L79 ((4 - 0 : Int).toNat + 1) s43 x y z w 0 Is43 Gs43 JRLx_s43 (by first | exact ⟨And.intro (p2.1) (p2.2), p3, by decide, by decide, oq_f5d717ba ws43_107 ws41_107 ws39_107 g38 b37.2, oq_d5af8cc9 ws43_107 ws3_107 ws41_107 ws33_107 ws39_107, oq_3904add8 ws43_73 ws41_73 ws39_73 g36 b35.1 hps33 vs3⟩ | omega) (Nat.lt_succ_self _) ?_)))
          intro s45 x46 Is45 Fs45 JRLx_s45 hs45
          have b47 := bi_73 Is45
          have b48 := bi_107 Is45
          refine z_aload_n X (x := A 179) rfl (List.Mem.head _) (s_getR X 179 rfl (c518_ok rfl) rfl rfl (z_aload_n X (x := A 179) rfl (List.Mem.head _) (z_getI X 179 rfl (c518_ok rfl) rfl rfl ?_)))
          have b49 := bi_107 Is45
          refine z_load_n X (x := z) rfl (List.Mem.tail _ (List.Mem.tail _ (List.Mem.tail _ (List.Mem.head _)))) (z_ast X 514 rfl (c518_ok rfl) rfl (by first | exact b49.1 | omega) (show (iI s45 107) < 40 by first | exact oq_2ca8b5c0 hs45.2.2.2.2.1 | omega) (cbig_ok rfl) (wd_gen (fun s50 hs50 => ?_)))
          have Is50 : Bd s50 := eqB hs50 (bd_C Is45 (show ((-2147483648) : Int) ≤ z ∧ z ≤ 2147483647 by first | exact ⟨hs45.1.1, hs45.1.2⟩ | omega) ⟨by first | exact hs45.1.1 | omega, by first | exact hs45.1.2 | omega⟩)
          have Fs50 := eqF hs50 (fm_C Fs45 (inl_ok (a := 457) rfl))
          have ws50_73 : iI s50 73 = iI s45 73 := eqI hs50 rfl
          have ws50_107 : iI s50 107 = iI s45 107 := eqI hs50 rfl
          have fs50 : Fm [] [457] s45 s50 := by rw [hs50]; exact fm_C (fm_rf _ _ _) (show 457 ∈ _ by decide)
          have JRLx_s50 : RLx s50 := RLx_fm fs50 (by decide) JRLx_s45
          refine z_aload_n X (x := A 179) rfl (List.Mem.head _) (s_getR X 179 rfl (c518_ok rfl) rfl rfl (z_aload_n X (x := A 179) rfl (List.Mem.head _) (z_getI X 179 rfl (c518_ok rfl) rfl rfl ?_)))
          have b51 := bi_107 Is50
          refine z_load X (x := w) rfl (List.Mem.tail _ (List.Mem.tail _ (List.Mem.tail _ (List.Mem.tail _ (List.Mem.head _))))) (z_zast X 516 rfl (c518_ok rfl) rfl (by first | exact b51.1 | omega) (show (iI s50 107) < 40 by first | exact oq_e7509aa9 ws50_107 hs45.2.2.2.2.1 | omega) (cbig_ok rfl) (by first | exact hs45.2.1 | omega) (wd_gen (fun s52 hs52 => ?_)))
          have Is52 : Bd s52 := eqB hs52 (bd_C Is50 (show (0 : Int) ≤ w ∧ w ≤ 1 by first | exact ⟨oq_e4aca38c hs45.2.1, oq_14617724 hs45.2.1⟩ | omega) ⟨by first | exact oq_bde653e9 hs45.2.1 | omega, by first | exact oq_4ad2cb8b hs45.2.1 | omega⟩)
          have Fs52 := eqF hs52 (fm_C Fs50 (inl_ok (a := 459) rfl))
          have ws52_73 : iI s52 73 = iI s50 73 := eqI hs52 rfl
          have ws52_107 : iI s52 107 = iI s50 107 := eqI hs52 rfl
          have fs52 : Fm [] [459] s50 s52 := by rw [hs52]; exact fm_C (fm_rf _ _ _) (show 459 ∈ _ by decide)
          have JRLx_s52 : RLx s52 := RLx_fm fs52 (by decide) JRLx_s50
          refine z_aload_n X (x := A 179) rfl (List.Mem.head _) (w_dup X.1 (ax_d X (show cdA 287 132 = some (.dup, 1, 0, 0, 0) from rfl)) rfl (z_getI X 179 rfl (c518_ok rfl) rfl rfl ?_))
          have b53 := bi_107 Is52
          refine z_const X rfl (z_add X rfl (s_putI X 179 rfl (c518_ok rfl) rfl rfl (by decide) rfl rfl rfl (wd_gen (fun s54 hs54 => ?_))))
          have Is54 : Bd s54 := eqB hs54 (bd_I Is52 (show (0 : Int) ≤ ((iI s52 107) + 1) ∧ ((iI s52 107) + 1) ≤ 40 by first | exact ⟨oq_54f49eb5 b53.1, oq_44ae331b ws52_107 ws50_107 hs45.2.2.2.2.1⟩ | omega) ⟨by first | exact oq_74de1e16 b53.1 | omega, by first | exact oq_c01d6c28 b53.2 | omega⟩)
          have Fs54 := eqF hs54 (fm_I Fs52 (inl_ok (a := 107) rfl))
          have vs54 : iI s54 107 = ((iI s52 107) + 1) := eqI hs54 (iI_u ⟨by first | exact oq_74de1e16 b53.1 | omega, by first | exact oq_c01d6c28 b53.2 | omega⟩)
          have ws54_73 : iI s54 73 = iI s52 73 := eqI hs54 rfl
          have fs54 : Fm [107] [] s52 s54 := by rw [hs54]; exact fm_I (fm_rf _ _ _) (show 107 ∈ _ by decide)
          have JRLx_s54 : RLx s54 := RLx_fm fs54 (by decide) JRLx_s52
          refine z_aload_n X (x := A 179) rfl (List.Mem.head _) (z_getI X 179 rfl (c518_ok rfl) rfl rfl ?_)
          have b55 := bi_107 Is54
          refine z_const X rfl (z_sub X rfl ?_)
          exact w_iret X.1 q hRt rfl (ax_d X (show cdA 287 147 = some (.ireturn, 1, 0, 0, 0) from rfl)) (Nat.zero_le _) (Nat.zero_le _) ⟨_, rfl, Is54, Fs54, JRLx_s54, ((iI s54 107) - 1), rfl, ⟨by first | exact oq_c1e961c7 b55.1 | omega, by first | exact oq_86f8893e b55.2 | omega⟩, by first | exact oq_c19f6a79 g36 hps33 vs3 | omega⟩
        ·
          refine z_const X rfl ?_
          exact w_iret X.1 q hRt rfl (ax_d X (show cdA 287 61 = some (.ireturn, 1, 0, 0, 0) from rfl)) (Nat.zero_le _) (Nat.zero_le _) ⟨_, rfl, Is33, Gs33, JRLx_s33, (-1), rfl, (by decide), by first | exact oq_79b67d7f g36 hps33 vs3 | omega⟩
      ·
        refine z_const X rfl ?_
        exact w_iret X.1 q hRt rfl (ax_d X (show cdA 287 50 = some (.ireturn, 1, 0, 0, 0) from rfl)) (Nat.zero_le _) (Nat.zero_le _) ⟨_, rfl, Is33, Gs33, JRLx_s33, 0, rfl, (by decide), by first | exact oq_a986e2a9 g36 ws33_107 hps33 g32 hps30 ws3_107 vs3 | omega⟩
    ·
      refine z_load_n X (x := z) rfl (List.Mem.tail _ (List.Mem.tail _ (List.Mem.tail _ (List.Mem.head _)))) (z_const X rfl (z_sipush X rfl (z_callS X (rm := rmN 188) (As := [.int (Int32.ofInt z), .int (Int32.ofInt 0), .int (Int32.ofInt 9999)]) (st := [.ref (A 179)]) rfl rfl (by rw [E.1, E.2.1, E.2.2.1]; exact k_in2 G Is3 (by first | exact ⟨p2.1, p2.2⟩ | omega) (by first | exact ⟨by decide, by decide⟩ | omega) (by first | exact ⟨by decide, by decide⟩ | omega)) ⟨by rw [E.2.2.2]; exact (show (rmN 188).frames + 1 ≤ (rmN 287).frames by decide), by rw [E.2.2.2]; exact (show 8 + (mNL (miB 188) + 11) + (rmN 188).locals ≤ (rmN 287).locals by decide), by rw [E.2.2.2]; exact (show 0 + (rmN 188).cells ≤ (rmN 287).cells by decide), by rw [E.2.2.2]; exact (show 0 + (rmN 188).slots ≤ (rmN 287).slots by decide)⟩ (Nat.le_of_ble_eq_true rfl) (fun vv s56 hq => ?_) (fun ee s56 hq => ?_))))
      rotate_left
      · obtain ⟨rfl, e57, hv, hrs56, hps56⟩ := hq; cases hv
      obtain ⟨rfl, e57, hv, hrs56, hps56⟩ := hq
      cases hv
      show WS k 34 [(0, .ref (A 179)), (1, .int (Int32.ofInt x)), (2, .int (Int32.ofInt y)), (3, .int (Int32.ofInt z)), (4, .int (Int32.ofInt w))] [.int (Int32.ofInt e57), .ref (A 179)] (Wd A dT s3) 0 0
      have N58 : ∀ e59 : Int, (((e57 ≠ 0) ∧ e59 = 0) ∨ ((e57 = 0) ∧ e59 = 1)) → WS k 42 [(0, .ref (A 179)), (1, .int (Int32.ofInt x)), (2, .int (Int32.ofInt y)), (3, .int (Int32.ofInt z)), (4, .int (Int32.ofInt w))] [.int (Int32.ofInt e59), .ref (A 179)] (Wd A dT s3) 0 0 := by
        intro e59 he59
        have re59 : 0 ≤ e59 ∧ e59 ≤ 1 := by first | (clear he59 hps56 g32 hps30 g6 hps4 p3; omega) | (clear hps56 g32 hps30 g6 hps4 p3; omega) | omega
        refine z_const X rfl (zcV_i0 X E 179 (As := [.int (Int32.ofInt e59), .int (Int32.ofInt 1)]) (st := []) rfl rfl rfl rfl (k_bad2 G Is3 (by first | exact oq_31e518ae re59.2 re59.1 | omega) (by first | exact ⟨by decide, by decide⟩ | omega)) rfl (Nat.le_of_ble_eq_true rfl) (fun s60 e61 Is60 Fs60 hrs60 hps60 => ?_))
        have Gs60 := fm_tq Fs3 Fs60 rfl rfl
        have JRLx_s60 : RLx s60 := RLx_fm Fs60 (by decide) JRLx_s3
        have b62 := bi_73 Is60
        have ws60_107 : iI s60 107 = iI s3 107 := fm_iq Fs60 rfl
        refine z_if_eq X (t := 51) rfl rfl hrs60 (fun g63 => ?_) (fun g63 => ?_)
        ·
          refine z_aload_n X (x := A 179) rfl (List.Mem.head _) (z_getI X 179 rfl (c518_ok rfl) rfl rfl ?_)
          have b64 := bi_107 Is60
          refine z_bipush X rfl (z_icmp_ne X (t := 62) rfl rfl (rng_to _) (by decide) (fun g65 => ?_) (fun g65 => ?_))
          ·
            refine z_aload_n X (x := A 179) rfl (List.Mem.head _) (z_load_n X (x := x) rfl (List.Mem.tail _ (List.Mem.head _)) (zcV_v0 X E 179 (As := [.int (Int32.ofInt x)]) (st := []) rfl rfl rfl rfl (k_setOf G Is60 (by first | exact ⟨p0.1, p0.2⟩ | omega)) rfl (Nat.le_of_ble_eq_true rfl) (fun s66 Is66 Fs66 hps66 => ?_)))
            have Gs66 := fm_tq Gs60 Fs66 rfl rfl
            have JRLx_s66 : RLx s66 := RLx_fm Fs66 (by decide) JRLx_s60
            have ws66_73 : iI s66 73 = iI s60 73 := fm_iq Fs66 rfl
            have ws66_107 : iI s66 107 = iI s60 107 := fm_iq Fs66 rfl
            refine z_aload_n X (x := A 179) rfl (List.Mem.head _) (z_load_n X (x := y) rfl (List.Mem.tail _ (List.Mem.tail _ (List.Mem.head _))) (zcV_v2 X E 179 (As := [.int (Int32.ofInt y)]) (st := []) rfl rfl rfl rfl (k_asTold G Is66 JRLx_s66 (by first | exact ⟨oq_0159bb48 g32 hps30, oq_8b498cf6 g32 hps30⟩ | omega)) rfl (Nat.le_of_ble_eq_true rfl) (fun s68 Is68 Fs68 JRLx_s68 JNQ_s68 hps68 => ?_)))
            have Gs68 := fm_tq Gs66 Fs68 rfl rfl
            have JRLx_s68 : RLx s68 := RLx_fm Fs68 (by decide) JRLx_s66
            have ws68_73 : iI s68 73 = iI s66 73 := fm_iq Fs68 rfl
            have ws68_107 : iI s68 107 = iI s66 107 := fm_iq Fs68 rfl
            refine z_aload_n X (x := A 179) rfl (List.Mem.head _) ?_
            have JNW_s68 : NW s68 := NW_of JNQ_s68 JRLx_s68
            refine zcV_v1 X E 179 (As := []) (st := []) rfl rfl rfl rfl (k_listen G Is68 JNW_s68 ) rfl (Nat.le_of_ble_eq_true rfl) (fun s70 Is70 Fs70 JNW_s70 hps70 => ?_)
            have Gs70 := fm_tq Gs68 Fs70 rfl rfl
            have JRLx_s70 : RLx s70 := RLx_fm Fs70 (by decide) JRLx_s68
            have JNW_s70 : NW s70 := NW_fm Fs70 (by decide) JNW_s68
            have ws70_73 : iI s70 73 = iI s68 73 := fm_iq Fs70 rfl
            have ws70_107 : iI s70 107 = iI s68 107 := fm_iq Fs70 rfl
            refine z_const X rfl (z_store X (lv' := [(5, .int (Int32.ofInt 0)), (0, .ref (A 179)), (1, .int (Int32.ofInt x)), (2, .int (Int32.ofInt y)), (3, .int (Int32.ofInt z)), (4, .int (Int32.ofInt w))]) rfl (by decide) (fun _ h => h) (WS_pq [1, 2, 3, 4, 5, 0] (lv' := [(0, .ref (A 179)), (1, .int (Int32.ofInt x)), (2, .int (Int32.ofInt y)), (3, .int (Int32.ofInt z)), (4, .int (Int32.ofInt w)), (5, .int (Int32.ofInt 0))]) rfl (L79 ((4 - 0 : Int).toNat + 1) s70 x y z w 0 Is70 Gs70 JRLx_s70 (by first | exact ⟨And.intro (p2.1) (p2.2), p3, by decide, by decide, oq_f5d717ba ws70_107 ws68_107 ws66_107 g65 b64.2, oq_d5af8cc9 ws70_107 ws3_107 ws68_107 ws60_107 ws66_107, oq_31982ae6 ws70_73 ws68_73 ws66_73 g63 b62.1 hps60 vs3⟩ | omega) (Nat.lt_succ_self _) ?_)))
            intro s72 x73 Is72 Fs72 JRLx_s72 hs72
            have b74 := bi_73 Is72
            have b75 := bi_107 Is72
            refine z_aload_n X (x := A 179) rfl (List.Mem.head _) (s_getR X 179 rfl (c518_ok rfl) rfl rfl (z_aload_n X (x := A 179) rfl (List.Mem.head _) (z_getI X 179 rfl (c518_ok rfl) rfl rfl ?_)))
            have b76 := bi_107 Is72
            refine z_load_n X (x := z) rfl (List.Mem.tail _ (List.Mem.tail _ (List.Mem.tail _ (List.Mem.head _)))) (z_ast X 514 rfl (c518_ok rfl) rfl (by first | exact b76.1 | omega) (show (iI s72 107) < 40 by first | exact oq_2ca8b5c0 hs72.2.2.2.2.1 | omega) (cbig_ok rfl) (wd_gen (fun s77 hs77 => ?_)))
            have Is77 : Bd s77 := eqB hs77 (bd_C Is72 (show ((-2147483648) : Int) ≤ z ∧ z ≤ 2147483647 by first | exact ⟨hs72.1.1, hs72.1.2⟩ | omega) ⟨by first | exact hs72.1.1 | omega, by first | exact hs72.1.2 | omega⟩)
            have Fs77 := eqF hs77 (fm_C Fs72 (inl_ok (a := 457) rfl))
            have ws77_73 : iI s77 73 = iI s72 73 := eqI hs77 rfl
            have ws77_107 : iI s77 107 = iI s72 107 := eqI hs77 rfl
            have fs77 : Fm [] [457] s72 s77 := by rw [hs77]; exact fm_C (fm_rf _ _ _) (show 457 ∈ _ by decide)
            have JRLx_s77 : RLx s77 := RLx_fm fs77 (by decide) JRLx_s72
            refine z_aload_n X (x := A 179) rfl (List.Mem.head _) (s_getR X 179 rfl (c518_ok rfl) rfl rfl (z_aload_n X (x := A 179) rfl (List.Mem.head _) (z_getI X 179 rfl (c518_ok rfl) rfl rfl ?_)))
            have b78 := bi_107 Is77
            refine z_load X (x := w) rfl (List.Mem.tail _ (List.Mem.tail _ (List.Mem.tail _ (List.Mem.tail _ (List.Mem.head _))))) (z_zast X 516 rfl (c518_ok rfl) rfl (by first | exact b78.1 | omega) (show (iI s77 107) < 40 by first | exact oq_e7509aa9 ws77_107 hs72.2.2.2.2.1 | omega) (cbig_ok rfl) (by first | exact hs72.2.1 | omega) (wd_gen (fun s79 hs79 => ?_)))
            have Is79 : Bd s79 := eqB hs79 (bd_C Is77 (show (0 : Int) ≤ w ∧ w ≤ 1 by first | exact ⟨oq_e4aca38c hs72.2.1, oq_14617724 hs72.2.1⟩ | omega) ⟨by first | exact oq_bde653e9 hs72.2.1 | omega, by first | exact oq_4ad2cb8b hs72.2.1 | omega⟩)
            have Fs79 := eqF hs79 (fm_C Fs77 (inl_ok (a := 459) rfl))
            have ws79_73 : iI s79 73 = iI s77 73 := eqI hs79 rfl
            have ws79_107 : iI s79 107 = iI s77 107 := eqI hs79 rfl
            have fs79 : Fm [] [459] s77 s79 := by rw [hs79]; exact fm_C (fm_rf _ _ _) (show 459 ∈ _ by decide)
            have JRLx_s79 : RLx s79 := RLx_fm fs79 (by decide) JRLx_s77
            refine z_aload_n X (x := A 179) rfl (List.Mem.head _) (w_dup X.1 (ax_d X (show cdA 287 132 = some (.dup, 1, 0, 0, 0) from rfl)) rfl (z_getI X 179 rfl (c518_ok rfl) rfl rfl ?_))
            have b80 := bi_107 Is79
            refine z_const X rfl (z_add X rfl (s_putI X 179 rfl (c518_ok rfl) rfl rfl (by decide) rfl rfl rfl (wd_gen (fun s81 hs81 => ?_))))
            have Is81 : Bd s81 := eqB hs81 (bd_I Is79 (show (0 : Int) ≤ ((iI s79 107) + 1) ∧ ((iI s79 107) + 1) ≤ 40 by first | exact ⟨oq_54f49eb5 b80.1, oq_44ae331b ws79_107 ws77_107 hs72.2.2.2.2.1⟩ | omega) ⟨by first | exact oq_74de1e16 b80.1 | omega, by first | exact oq_c01d6c28 b80.2 | omega⟩)
            have Fs81 := eqF hs81 (fm_I Fs79 (inl_ok (a := 107) rfl))
            have vs81 : iI s81 107 = ((iI s79 107) + 1) := eqI hs81 (iI_u ⟨by first | exact oq_74de1e16 b80.1 | omega, by first | exact oq_c01d6c28 b80.2 | omega⟩)
            have ws81_73 : iI s81 73 = iI s79 73 := eqI hs81 rfl
            have fs81 : Fm [107] [] s79 s81 := by rw [hs81]; exact fm_I (fm_rf _ _ _) (show 107 ∈ _ by decide)
            have JRLx_s81 : RLx s81 := RLx_fm fs81 (by decide) JRLx_s79
            refine z_aload_n X (x := A 179) rfl (List.Mem.head _) (z_getI X 179 rfl (c518_ok rfl) rfl rfl ?_)
            have b82 := bi_107 Is81
            refine z_const X rfl (z_sub X rfl ?_)
            exact w_iret X.1 q hRt rfl (ax_d X (show cdA 287 147 = some (.ireturn, 1, 0, 0, 0) from rfl)) (Nat.zero_le _) (Nat.zero_le _) ⟨_, rfl, Is81, Fs81, JRLx_s81, ((iI s81 107) - 1), rfl, ⟨by first | exact oq_c1e961c7 b82.1 | omega, by first | exact oq_86f8893e b82.2 | omega⟩, by first | exact oq_49373b71 ws81_73 vs81 ws79_107 ws79_73 ws77_107 ws77_73 b74.1 hs72.2.2.2.2.2.2 hs72.2.2.2.2.2.1 hs72.2.2.2.2.1 g63 hps60 he59 hps56 g32 hps30 g6 hps4 vs3 | omega⟩
          ·
            refine z_const X rfl ?_
            exact w_iret X.1 q hRt rfl (ax_d X (show cdA 287 61 = some (.ireturn, 1, 0, 0, 0) from rfl)) (Nat.zero_le _) (Nat.zero_le _) ⟨_, rfl, Is60, Gs60, JRLx_s60, (-1), rfl, (by decide), by first | exact oq_88e4fd05 g65 g63 ws60_107 b62.1 hps60 he59 hps56 g32 hps30 g6 hps4 ws3_107 vs3 b2.2 | omega⟩
        ·
          refine z_const X rfl ?_
          exact w_iret X.1 q hRt rfl (ax_d X (show cdA 287 50 = some (.ireturn, 1, 0, 0, 0) from rfl)) (Nat.zero_le _) (Nat.zero_le _) ⟨_, rfl, Is60, Gs60, JRLx_s60, 0, rfl, (by decide), by first | exact oq_1f0218b1 g63 ws60_107 hps60 he59 hps56 ws3_107 vs3 | omega⟩
      refine z_if_ne X (t := 41) rfl rfl hrs56 (fun g83 => ?_) (fun g83 => ?_)
      ·
        exact z_const X rfl (N58 _ (Or.inl ⟨g83, rfl⟩))
      ·
        exact z_const X rfl (z_goto X (t := 42) rfl rfl (N58 _ (Or.inr (⟨g83, rfl⟩))))
set_option maxRecDepth 4000 in
theorem c1_add2 (G : GX l s0 D tys a0 dT) (I : Bd s) {x y : Int} (p0 : rng x) (p1 : y = 0 ∨ y = 1) : CT l s0 D A dT 11 (rmN 11) [.ref (A 173), .ref (A 39), .int (Int32.ofInt x), .int (Int32.ofInt y)] s (fun o t => Bd t ∧ Fm [70] [152, 153, 154] s t ∧ ∃ e, o = .inl (some (.int (Int32.ofInt e))) ∧ rng e ∧ ((iI s 70 = 40 ∧ e = -1 ∧ iI t 70 = 40) ∨ (iI s 70 ≠ 40 ∧ e = iI s 70 ∧ iI t 70 = iI s 70 + 1))) := by
  refine ct_ofX G (by decide) (Nat.le_of_ble_eq_true rfl) (fun k X E ET hRt hXt q => ?_)
  show WS k 0 [(0, .ref (A 173)), (1, .ref (A 39)), (2, .int (Int32.ofInt x)), (3, .int (Int32.ofInt y))] [] _ 0 0
  have F : Fm [70] [152, 153, 154] s s := fm_rf _ _ s
  have b1 := bi_70 I
  refine z_aload_n X (x := A 173) rfl (List.Mem.head _) (z_getI X 173 rfl (c518_ok rfl) rfl rfl ?_)
  have b2 := bi_70 I
  refine z_bipush X rfl (z_icmp_lt X (t := 11) rfl rfl (rng_to _) (by decide) (fun g3 => ?_) (fun g3 => ?_))
  ·
    refine z_aload_n X (x := A 39) rfl (List.Mem.tail _ (List.Mem.head _)) (z_const X rfl (z_aload_n X (x := A 173) rfl (List.Mem.head _) (s_getR X 173 rfl (c518_ok rfl) rfl rfl (z_aload_n X (x := A 173) rfl (List.Mem.head _) (z_getI X 173 rfl (c518_ok rfl) rfl rfl ?_)))))
    have b4 := bi_70 I
    refine z_const X rfl (z_mul X rfl (z_const X rfl (z_copy X I 39 174 (st := []) rfl (by decide) (by decide) rfl rfl (by first | (clear p1; omega) | omega) (by first | (clear p1; omega) | omega) (by first | (clear p1; omega) | omega) (show 0 + 4 ≤ ((7 : Nat) : Int) by first | (clear p1; omega) | omega) (show ((iI s 70) * 4) + 4 ≤ ((160 : Nat) : Int) by first | (clear p1; omega) | omega) (by decide) (by rw [E.2.2.2]; decide) (by rw [E.2.2.2]; exact Nat.le_of_ble_eq_true rfl) (fun s5 Is5 Fs5 => ?_))))
    have Gs5 := fm_tq F Fs5 rfl rfl
    have ws5_70 : iI s5 70 = iI s 70 := fm_iq Fs5 rfl
    refine z_aload_n X (x := A 173) rfl (List.Mem.head _) (s_getR X 173 rfl (c518_ok rfl) rfl rfl (z_aload_n X (x := A 173) rfl (List.Mem.head _) (z_getI X 173 rfl (c518_ok rfl) rfl rfl ?_)))
    have b6 := bi_70 Is5
    refine z_load_n X (x := x) rfl (List.Mem.tail _ (List.Mem.tail _ (List.Mem.head _))) (z_ast X 175 rfl (c518_ok rfl) rfl (by first | exact b6.1 | omega) (show (iI s5 70) < 40 by first | exact oq_acf68b34 ws5_70 g3 | omega) (cbig_ok rfl) (wd_gen (fun s7 hs7 => ?_)))
    have Is7 : Bd s7 := eqB hs7 (bd_C Is5 (show ((-2147483648) : Int) ≤ x ∧ x ≤ 2147483647 by first | exact ⟨p0.1, p0.2⟩ | omega) ⟨by first | exact p0.1 | omega, by first | exact p0.2 | omega⟩)
    have Fs7 := eqF hs7 (fm_C Gs5 (inl_ok (a := 153) rfl))
    have ws7_70 : iI s7 70 = iI s5 70 := eqI hs7 rfl
    refine z_aload_n X (x := A 173) rfl (List.Mem.head _) (s_getR X 173 rfl (c518_ok rfl) rfl rfl (z_aload_n X (x := A 173) rfl (List.Mem.head _) (z_getI X 173 rfl (c518_ok rfl) rfl rfl ?_)))
    have b8 := bi_70 Is7
    refine z_load_n X (x := y) rfl (List.Mem.tail _ (List.Mem.tail _ (List.Mem.tail _ (List.Mem.head _)))) (z_zast X 176 rfl (c518_ok rfl) rfl (by first | exact b8.1 | omega) (show (iI s7 70) < 40 by first | exact oq_c57cae74 ws7_70 ws5_70 g3 | omega) (cbig_ok rfl) (by first | exact p1 | omega) (wd_gen (fun s9 hs9 => ?_)))
    have Is9 : Bd s9 := eqB hs9 (bd_C Is7 (show (0 : Int) ≤ y ∧ y ≤ 1 by first | exact ⟨oq_e4aca38c p1, oq_14617724 p1⟩ | omega) ⟨by first | exact oq_bde653e9 p1 | omega, by first | exact oq_4ad2cb8b p1 | omega⟩)
    have Fs9 := eqF hs9 (fm_C Fs7 (inl_ok (a := 154) rfl))
    have ws9_70 : iI s9 70 = iI s7 70 := eqI hs9 rfl
    refine z_aload_n X (x := A 173) rfl (List.Mem.head _) (w_dup X.1 (ax_d X (show cdA 11 48 = some (.dup, 1, 0, 0, 0) from rfl)) rfl (z_getI X 173 rfl (c518_ok rfl) rfl rfl ?_))
    have b10 := bi_70 Is9
    refine z_const X rfl (z_add X rfl (s_putI X 173 rfl (c518_ok rfl) rfl rfl (by decide) rfl rfl rfl (wd_gen (fun s11 hs11 => ?_))))
    have Is11 : Bd s11 := eqB hs11 (bd_I Is9 (show (0 : Int) ≤ ((iI s9 70) + 1) ∧ ((iI s9 70) + 1) ≤ 40 by first | exact ⟨oq_54f49eb5 b10.1, oq_beb58a95 ws9_70 ws7_70 ws5_70 g3⟩ | omega) ⟨by first | exact oq_74de1e16 b10.1 | omega, by first | exact oq_c01d6c28 b10.2 | omega⟩)
    have Fs11 := eqF hs11 (fm_I Fs9 (inl_ok (a := 70) rfl))
    have vs11 : iI s11 70 = ((iI s9 70) + 1) := eqI hs11 (iI_u ⟨by first | exact oq_74de1e16 b10.1 | omega, by first | exact oq_c01d6c28 b10.2 | omega⟩)
    refine z_aload_n X (x := A 173) rfl (List.Mem.head _) (z_getI X 173 rfl (c518_ok rfl) rfl rfl ?_)
    have b12 := bi_70 Is11
    refine z_const X rfl (z_sub X rfl ?_)
    exact w_iret X.1 q hRt rfl (ax_d X (show cdA 11 63 = some (.ireturn, 1, 0, 0, 0) from rfl)) (Nat.zero_le _) (Nat.zero_le _) ⟨_, rfl, Is11, Fs11, ((iI s11 70) - 1), rfl, ⟨by first | exact oq_c1e961c7 b12.1 | omega, by first | exact oq_86f8893e b12.2 | omega⟩, by first | exact Or.inr (And.intro (oq_9603bbcc g3) (And.intro (oq_1349e71a vs11 ws9_70 ws7_70 ws5_70) (oq_003dad9f vs11 ws9_70 ws7_70 ws5_70))) | omega⟩
  ·
    refine z_const X rfl ?_
    exact w_iret X.1 q hRt rfl (ax_d X (show cdA 11 10 = some (.ireturn, 1, 0, 0, 0) from rfl)) (Nat.zero_le _) (Nat.zero_le _) ⟨_, rfl, I, F, (-1), rfl, (by decide), by first | exact Or.inl (And.intro (oq_cb92d216 b2.2 g3) (And.intro (by decide) (oq_cb92d216 b2.2 g3))) | omega⟩
set_option maxRecDepth 4000 in
theorem cs_needPiece2 (G : GX l s0 D tys a0 dT) (I : Bd s) {v : Int} (p0 : rng v) : CT l s0 D A dT 182 (rmN 182) [.ref (A 0), .int (Int32.ofInt v)] s (fun o t => Bd t ∧ Fm [] [] s t ∧ ((o = .inl none ∧ (0 ≤ v ∧ v ≤ 7)) ∨ ∃ x : Nat, o = .inr (exN x) ∧ (x = 0 ∧ (v < 0 ∨ 7 < v)))) := by
  refine ct_ofX G (by decide) (Nat.le_of_ble_eq_true rfl) (fun k X E ET hRt hXt q => ?_)
  show WS k 0 [(0, .ref (A 0)), (1, .int (Int32.ofInt v))] [] _ 0 0
  have F : Fm [] [] s s := fm_rf _ _ s
  refine z_aload_n X (x := A 0) rfl (List.Mem.head _) (z_load_n X (x := v) rfl (List.Mem.tail _ (List.Mem.head _)) (z_const X rfl (z_bipush X rfl (z_callV X 0 (rm := rmN 184) (As := [.int (Int32.ofInt v), .int (Int32.ofInt 0), .int (Int32.ofInt 7)]) (st := []) rfl rfl (by decide) rfl (by rw [E.1, E.2.1, E.2.2.1]; exact cs_needWithin2 G I (by first | exact ⟨p0.1, p0.2⟩ | omega) (by first | exact ⟨by decide, by decide⟩ | omega) (by first | exact ⟨by decide, by decide⟩ | omega)) ⟨by rw [E.2.2.2]; exact (show (rmN 184).frames + 1 ≤ (rmN 182).frames by decide), by rw [E.2.2.2]; exact (show 8 + (mNL (miB 184) + 11) + (rmN 184).locals ≤ (rmN 182).locals by decide), by rw [E.2.2.2]; exact (show 0 + 1 ≤ 1 by decide), by rw [E.2.2.2]; exact (show 0 + 6 ≤ 6 by decide)⟩ (Nat.le_of_ble_eq_true rfl) (fun vv s1 hq => ?_) (fun ee s1 hq => ?_)))))
  rotate_left
  · obtain ⟨Is1, Fs1, (⟨hv, hps1⟩ | ⟨xx, hv, hps1⟩)⟩ := hq
    · cases hv
    · cases hv
      have Gs1 := fm_tq F Fs1 rfl rfl
      exact x_out X.1 q (fun x hx => (hXt x hx).elim) (show 1 ≤ 1 by decide) (show 6 ≤ 6 by decide) ⟨_, rfl, Is1, Gs1, Or.inr ⟨xx, rfl, by first | exact And.intro (hps1.1) (hps1.2) | omega⟩⟩
  obtain ⟨Is1, Fs1, (⟨hv, hps1⟩ | ⟨xx, hv, hps1⟩)⟩ := hq
  rotate_left
  · cases hv
  cases hv
  have Gs1 := fm_tq F Fs1 rfl rfl
  show WS k 8 [(0, .ref (A 0)), (1, .int (Int32.ofInt v))] [] (Wd A dT s1) 1 6
  exact w_vret X.1 q hRt (ax_d X (show cdA 182 8 = some (.return_, 1, 0, 0, 0) from rfl)) (show 1 ≤ 1 by decide) (show 6 ≤ 6 by decide) ⟨_, rfl, Is1, Gs1, Or.inl ⟨rfl, by first | exact ⟨hps1.1, hps1.2⟩ | omega⟩⟩
set_option maxRecDepth 4000 in
theorem cs_needQuarter2 (G : GX l s0 D tys a0 dT) (I : Bd s) {v : Int} (p0 : rng v) : CT l s0 D A dT 183 (rmN 183) [.ref (A 0), .int (Int32.ofInt v)] s (fun o t => Bd t ∧ Fm [] [] s t ∧ ((o = .inl none ∧ (0 ≤ v ∧ v ≤ 23)) ∨ ∃ x : Nat, o = .inr (exN x) ∧ (x = 0 ∧ (v < 0 ∨ 23 < v)))) := by
  refine ct_ofX G (by decide) (Nat.le_of_ble_eq_true rfl) (fun k X E ET hRt hXt q => ?_)
  show WS k 0 [(0, .ref (A 0)), (1, .int (Int32.ofInt v))] [] _ 0 0
  have F : Fm [] [] s s := fm_rf _ _ s
  refine z_aload_n X (x := A 0) rfl (List.Mem.head _) (z_load_n X (x := v) rfl (List.Mem.tail _ (List.Mem.head _)) (z_const X rfl (z_bipush X rfl (z_callV X 0 (rm := rmN 184) (As := [.int (Int32.ofInt v), .int (Int32.ofInt 0), .int (Int32.ofInt 23)]) (st := []) rfl rfl (by decide) rfl (by rw [E.1, E.2.1, E.2.2.1]; exact cs_needWithin2 G I (by first | exact ⟨p0.1, p0.2⟩ | omega) (by first | exact ⟨by decide, by decide⟩ | omega) (by first | exact ⟨by decide, by decide⟩ | omega)) ⟨by rw [E.2.2.2]; exact (show (rmN 184).frames + 1 ≤ (rmN 183).frames by decide), by rw [E.2.2.2]; exact (show 8 + (mNL (miB 184) + 11) + (rmN 184).locals ≤ (rmN 183).locals by decide), by rw [E.2.2.2]; exact (show 0 + 1 ≤ 1 by decide), by rw [E.2.2.2]; exact (show 0 + 6 ≤ 6 by decide)⟩ (Nat.le_of_ble_eq_true rfl) (fun vv s1 hq => ?_) (fun ee s1 hq => ?_)))))
  rotate_left
  · obtain ⟨Is1, Fs1, (⟨hv, hps1⟩ | ⟨xx, hv, hps1⟩)⟩ := hq
    · cases hv
    · cases hv
      have Gs1 := fm_tq F Fs1 rfl rfl
      exact x_out X.1 q (fun x hx => (hXt x hx).elim) (show 1 ≤ 1 by decide) (show 6 ≤ 6 by decide) ⟨_, rfl, Is1, Gs1, Or.inr ⟨xx, rfl, by first | exact And.intro (hps1.1) (hps1.2) | omega⟩⟩
  obtain ⟨Is1, Fs1, (⟨hv, hps1⟩ | ⟨xx, hv, hps1⟩)⟩ := hq
  rotate_left
  · cases hv
  cases hv
  have Gs1 := fm_tq F Fs1 rfl rfl
  show WS k 8 [(0, .ref (A 0)), (1, .int (Int32.ofInt v))] [] (Wd A dT s1) 1 6
  exact w_vret X.1 q hRt (ax_d X (show cdA 183 8 = some (.return_, 1, 0, 0, 0) from rfl)) (show 1 ≤ 1 by decide) (show 6 ≤ 6 by decide) ⟨_, rfl, Is1, Gs1, Or.inl ⟨rfl, by first | exact ⟨hps1.1, hps1.2⟩ | omega⟩⟩
set_option maxRecDepth 4000 in
theorem cs_did2 (G : GX l s0 D tys a0 dT) (I : Bd s) {u v p w : Int} (p0 : rng u) (p1 : rng v) (p2 : rng p) (p3 : w = 0 ∨ w = 1) : CT l s0 D A dT 171 (rmN 171) [.ref (A 0), .int (Int32.ofInt u), .int (Int32.ofInt v), .int (Int32.ofInt p), .int (Int32.ofInt w)] s (fun o t => Bd t ∧ Fm [22, 23, 70] [33, 26, 27, 28, 29, 30, 31, 32, 152, 153, 154] s t ∧ ((∃ e, o = .inl (some (.int (Int32.ofInt e))) ∧ rng e ∧ (0 ≤ u ∧ u ≤ 7 ∧ 0 ≤ v ∧ v ≤ 23 ∧ 0 ≤ p ∧ p ≤ 9999 ∧ ((iI s 70 = 40 ∧ e = -1 ∧ iI t 70 = 40) ∨ (iI s 70 ≠ 40 ∧ e = iI s 70 ∧ iI t 70 = iI s 70 + 1)))) ∨ ∃ x : Nat, o = .inr (exN x) ∧ (x = 0 ∧ (u < 0 ∨ 7 < u ∨ v < 0 ∨ 23 < v ∨ p < 0 ∨ 9999 < p) ∧ iI t 70 = iI s 70))) := by
  refine ct_ofX G (by decide) (Nat.le_of_ble_eq_true rfl) (fun k X E ET hRt hXt q => ?_)
  show WS k 0 [(0, .ref (A 0)), (1, .int (Int32.ofInt u)), (2, .int (Int32.ofInt v)), (3, .int (Int32.ofInt p)), (4, .int (Int32.ofInt w))] [] _ 0 0
  have F : Fm [22, 23, 70] [33, 26, 27, 28, 29, 30, 31, 32, 152, 153, 154] s s := fm_rf _ _ s
  have b1 := bi_70 I
  refine z_aload_n X (x := A 0) rfl (List.Mem.head _) (z_load_n X (x := u) rfl (List.Mem.tail _ (List.Mem.head _)) (z_callV X 0 (rm := rmN 182) (As := [.int (Int32.ofInt u)]) (st := []) rfl rfl (by decide) rfl (by rw [E.1, E.2.1, E.2.2.1]; exact cs_needPiece2 G I (by first | exact ⟨p0.1, p0.2⟩ | omega)) ⟨by rw [E.2.2.2]; exact (show (rmN 182).frames + 1 ≤ (rmN 171).frames by decide), by rw [E.2.2.2]; exact (show 8 + (mNL (miB 182) + 11) + (rmN 182).locals ≤ (rmN 171).locals by decide), by rw [E.2.2.2]; exact (show 0 + 1 ≤ 3 by decide), by rw [E.2.2.2]; exact (show 0 + 6 ≤ 18 by decide)⟩ (Nat.le_of_ble_eq_true rfl) (fun vv s2 hq => ?_) (fun ee s2 hq => ?_)))
  rotate_left
  · obtain ⟨Is2, Fs2, (⟨hv, hps2⟩ | ⟨xx, hv, hps2⟩)⟩ := hq
    · cases hv
    · cases hv
      have Gs2 := fm_tq F Fs2 rfl rfl
      have ws2_70 : iI s2 70 = iI s 70 := fm_iq Fs2 rfl
      exact x_out X.1 q (fun x hx => (hXt x hx).elim) (show 1 ≤ 3 by decide) (show 6 ≤ 18 by decide) ⟨_, rfl, Is2, Gs2, Or.inr ⟨xx, rfl, by first | (clear p3; omega) | omega⟩⟩
  obtain ⟨Is2, Fs2, (⟨hv, hps2⟩ | ⟨xx, hv, hps2⟩)⟩ := hq
  rotate_left
  · cases hv
  cases hv
  have Gs2 := fm_tq F Fs2 rfl rfl
  have ws2_70 : iI s2 70 = iI s 70 := fm_iq Fs2 rfl
  show WS k 5 [(0, .ref (A 0)), (1, .int (Int32.ofInt u)), (2, .int (Int32.ofInt v)), (3, .int (Int32.ofInt p)), (4, .int (Int32.ofInt w))] [] (Wd A dT s2) 1 6
  refine z_aload_n X (x := A 0) rfl (List.Mem.head _) (z_load_n X (x := v) rfl (List.Mem.tail _ (List.Mem.tail _ (List.Mem.head _))) (z_callV X 0 (rm := rmN 183) (As := [.int (Int32.ofInt v)]) (st := []) rfl rfl (by decide) rfl (by rw [E.1, E.2.1, E.2.2.1]; exact cs_needQuarter2 G Is2 (by first | exact ⟨p1.1, p1.2⟩ | omega)) ⟨by rw [E.2.2.2]; exact (show (rmN 183).frames + 1 ≤ (rmN 171).frames by decide), by rw [E.2.2.2]; exact (show 8 + (mNL (miB 183) + 11) + (rmN 183).locals ≤ (rmN 171).locals by decide), by rw [E.2.2.2]; exact (show 1 + 1 ≤ 3 by decide), by rw [E.2.2.2]; exact (show 6 + 6 ≤ 18 by decide)⟩ (Nat.le_of_ble_eq_true rfl) (fun vv s4 hq => ?_) (fun ee s4 hq => ?_)))
  rotate_left
  · obtain ⟨Is4, Fs4, (⟨hv, hps4⟩ | ⟨xx, hv, hps4⟩)⟩ := hq
    · cases hv
    · cases hv
      have Gs4 := fm_tq Gs2 Fs4 rfl rfl
      have ws4_70 : iI s4 70 = iI s2 70 := fm_iq Fs4 rfl
      exact x_out X.1 q (fun x hx => (hXt x hx).elim) (show (1 + 1) ≤ 3 by decide) (show (6 + 6) ≤ 18 by decide) ⟨_, rfl, Is4, Gs4, Or.inr ⟨xx, rfl, by first | (clear hps2 p3; omega) | (clear p3; omega) | omega⟩⟩
  obtain ⟨Is4, Fs4, (⟨hv, hps4⟩ | ⟨xx, hv, hps4⟩)⟩ := hq
  rotate_left
  · cases hv
  cases hv
  have Gs4 := fm_tq Gs2 Fs4 rfl rfl
  have ws4_70 : iI s4 70 = iI s2 70 := fm_iq Fs4 rfl
  show WS k 10 [(0, .ref (A 0)), (1, .int (Int32.ofInt u)), (2, .int (Int32.ofInt v)), (3, .int (Int32.ofInt p)), (4, .int (Int32.ofInt w))] [] (Wd A dT s4) (1 + 1) (6 + 6)
  refine z_aload_n X (x := A 0) rfl (List.Mem.head _) (z_load_n X (x := p) rfl (List.Mem.tail _ (List.Mem.tail _ (List.Mem.tail _ (List.Mem.head _)))) (z_const X rfl (z_sipush X rfl (z_callV X 0 (rm := rmN 184) (As := [.int (Int32.ofInt p), .int (Int32.ofInt 0), .int (Int32.ofInt 9999)]) (st := []) rfl rfl (by decide) rfl (by rw [E.1, E.2.1, E.2.2.1]; exact cs_needWithin2 G Is4 (by first | exact ⟨p2.1, p2.2⟩ | omega) (by first | exact ⟨by decide, by decide⟩ | omega) (by first | exact ⟨by decide, by decide⟩ | omega)) ⟨by rw [E.2.2.2]; exact (show (rmN 184).frames + 1 ≤ (rmN 171).frames by decide), by rw [E.2.2.2]; exact (show 8 + (mNL (miB 184) + 11) + (rmN 184).locals ≤ (rmN 171).locals by decide), by rw [E.2.2.2]; exact (show (1 + 1) + 1 ≤ 3 by decide), by rw [E.2.2.2]; exact (show (6 + 6) + 6 ≤ 18 by decide)⟩ (Nat.le_of_ble_eq_true rfl) (fun vv s6 hq => ?_) (fun ee s6 hq => ?_)))))
  rotate_left
  · obtain ⟨Is6, Fs6, (⟨hv, hps6⟩ | ⟨xx, hv, hps6⟩)⟩ := hq
    · cases hv
    · cases hv
      have Gs6 := fm_tq Gs4 Fs6 rfl rfl
      have ws6_70 : iI s6 70 = iI s4 70 := fm_iq Fs6 rfl
      exact x_out X.1 q (fun x hx => (hXt x hx).elim) (show ((1 + 1) + 1) ≤ 3 by decide) (show ((6 + 6) + 6) ≤ 18 by decide) ⟨_, rfl, Is6, Gs6, Or.inr ⟨xx, rfl, by first | (clear hps4 hps2 p3; omega) | (clear hps2 p3; omega) | omega⟩⟩
  obtain ⟨Is6, Fs6, (⟨hv, hps6⟩ | ⟨xx, hv, hps6⟩)⟩ := hq
  rotate_left
  · cases hv
  cases hv
  have Gs6 := fm_tq Gs4 Fs6 rfl rfl
  have ws6_70 : iI s6 70 = iI s4 70 := fm_iq Fs6 rfl
  show WS k 19 [(0, .ref (A 0)), (1, .int (Int32.ofInt u)), (2, .int (Int32.ofInt v)), (3, .int (Int32.ofInt p)), (4, .int (Int32.ofInt w))] [] (Wd A dT s6) ((1 + 1) + 1) ((6 + 6) + 6)
  refine z_aload_n X (x := A 0) rfl (List.Mem.head _) (z_load_n X (x := u) rfl (List.Mem.tail _ (List.Mem.head _)) (z_callV X 0 (rm := rmN 179) (As := [.int (Int32.ofInt u)]) (st := []) rfl rfl (by decide) rfl (by rw [E.1, E.2.1, E.2.2.1]; exact cs_listenTo G Is6 (by first | exact ⟨hps2.1, hps2.2⟩ | omega)) ⟨by rw [E.2.2.2]; exact (show (rmN 179).frames + 1 ≤ (rmN 171).frames by decide), by rw [E.2.2.2]; exact (show 8 + (mNL (miB 179) + 11) + (rmN 179).locals ≤ (rmN 171).locals by decide), by rw [E.2.2.2]; exact (show ((1 + 1) + 1) + 0 ≤ 3 by decide), by rw [E.2.2.2]; exact (show ((6 + 6) + 6) + 0 ≤ 18 by decide)⟩ (Nat.le_of_ble_eq_true rfl) (fun vv s8 hq => ?_) (fun ee s8 hq => ?_)))
  rotate_left
  · obtain ⟨Is8, Fs8, hv, hps8⟩ := hq; cases hv
  obtain ⟨Is8, Fs8, hv, hps8⟩ := hq
  cases hv
  have Gs8 := fm_tq Gs6 Fs8 rfl rfl
  have ws8_70 : iI s8 70 = iI s6 70 := fm_iq Fs8 rfl
  show WS k 24 [(0, .ref (A 0)), (1, .int (Int32.ofInt u)), (2, .int (Int32.ofInt v)), (3, .int (Int32.ofInt p)), (4, .int (Int32.ofInt w))] [] (Wd A dT s8) ((1 + 1) + 1) ((6 + 6) + 6)
  refine z_aload_n X (x := A 0) rfl (List.Mem.head _) (s_getR X 0 rfl (c518_ok rfl) rfl rfl (z_load_n X (x := v) rfl (List.Mem.tail _ (List.Mem.tail _ (List.Mem.head _))) (z_const X rfl (z_callV X 31 (rm := rmN 3) (As := [.int (Int32.ofInt v), .int (Int32.ofInt (-1))]) (st := []) rfl rfl (by decide) rfl (by rw [E.1, E.2.1, E.2.2.1]; exact c0_hear_31 G Is8 (by first | exact ⟨hps4.1, hps4.2⟩ | omega) (by first | exact ⟨by decide, by decide⟩ | omega)) ⟨by rw [E.2.2.2]; exact (show (rmN 3).frames + 1 ≤ (rmN 171).frames by decide), by rw [E.2.2.2]; exact (show 8 + (mNL (miB 3) + 11) + (rmN 3).locals ≤ (rmN 171).locals by decide), by rw [E.2.2.2]; exact (show ((1 + 1) + 1) + 0 ≤ 3 by decide), by rw [E.2.2.2]; exact (show ((6 + 6) + 6) + 0 ≤ 18 by decide)⟩ (Nat.le_of_ble_eq_true rfl) (fun vv s10 hq => ?_) (fun ee s10 hq => ?_)))))
  rotate_left
  · obtain ⟨Is10, Fs10, hv, hps10⟩ := hq; cases hv
  obtain ⟨Is10, Fs10, hv, hps10⟩ := hq
  cases hv
  have Gs10 := fm_tq Gs8 Fs10 rfl rfl
  have ws10_70 : iI s10 70 = iI s8 70 := fm_iq Fs10 rfl
  show WS k 33 [(0, .ref (A 0)), (1, .int (Int32.ofInt u)), (2, .int (Int32.ofInt v)), (3, .int (Int32.ofInt p)), (4, .int (Int32.ofInt w))] [] (Wd A dT s10) ((1 + 1) + 1) ((6 + 6) + 6)
  refine z_aload_n X (x := A 0) rfl (List.Mem.head _) (s_getR X 0 rfl (c518_ok rfl) rfl rfl (z_aload_n X (x := A 0) rfl (List.Mem.head _) (s_getR X 0 rfl (c518_ok rfl) rfl rfl (s_getR X 31 rfl (c518_ok rfl) rfl rfl (z_load_n X (x := p) rfl (List.Mem.tail _ (List.Mem.tail _ (List.Mem.tail _ (List.Mem.head _)))) (z_load X (x := w) rfl (List.Mem.tail _ (List.Mem.tail _ (List.Mem.tail _ (List.Mem.tail _ (List.Mem.head _))))) (z_callV X 173 (rm := rmN 11) (As := [.ref (A 39), .int (Int32.ofInt p), .int (Int32.ofInt w)]) (st := []) rfl rfl (by decide) rfl (by rw [E.1, E.2.1, E.2.2.1]; exact c1_add2 G Is10 (by first | exact ⟨p2.1, p2.2⟩ | omega) (by first | exact p3 | omega)) ⟨by rw [E.2.2.2]; exact (show (rmN 11).frames + 1 ≤ (rmN 171).frames by decide), by rw [E.2.2.2]; exact (show 8 + (mNL (miB 11) + 11) + (rmN 11).locals ≤ (rmN 171).locals by decide), by rw [E.2.2.2]; exact (show ((1 + 1) + 1) + 0 ≤ 3 by decide), by rw [E.2.2.2]; exact (show ((6 + 6) + 6) + 0 ≤ 18 by decide)⟩ (Nat.le_of_ble_eq_true rfl) (fun vv s12 hq => ?_) (fun ee s12 hq => ?_))))))))
  rotate_left
  · obtain ⟨Is12, Fs12, e13, hv, hrs12, hps12⟩ := hq; cases hv
  obtain ⟨Is12, Fs12, e13, hv, hrs12, hps12⟩ := hq
  cases hv
  have Gs12 := fm_tq Gs10 Fs12 rfl rfl
  have b14 := bi_70 Is12
  show WS k 50 [(0, .ref (A 0)), (1, .int (Int32.ofInt u)), (2, .int (Int32.ofInt v)), (3, .int (Int32.ofInt p)), (4, .int (Int32.ofInt w))] [.int (Int32.ofInt e13)] (Wd A dT s12) ((1 + 1) + 1) ((6 + 6) + 6)
  exact w_iret X.1 q hRt rfl (ax_d X (show cdA 171 50 = some (.ireturn, 1, 0, 0, 0) from rfl)) (show ((1 + 1) + 1) ≤ 3 by decide) (show ((6 + 6) + 6) ≤ 18 by decide) ⟨_, rfl, Is12, Gs12, Or.inl ⟨e13, rfl, hrs12, by first | exact ⟨hps2.1, hps2.2, hps4.1, hps4.2, hps6.1, hps6.2, oq_a05d2c1f b14.2 hps12 ws10_70 ws8_70 ws6_70 ws4_70 ws2_70 b1.2⟩ | omega⟩⟩
set_option maxRecDepth 4000 in
theorem lw_did2 (G : GX l s0 D tys a0 dT) (I : Bd s) {u v p w : Int} (p0 : rng u) (p1 : rng v) (p2 : rng p) (p3 : w = 0 ∨ w = 1) : CTL l s0 D A dT 345 (rmN 345) [.ref (A 0), .int (Int32.ofInt u), .int (Int32.ofInt v), .int (Int32.ofInt p), .int (Int32.ofInt w), .ref (A 517)] s (fun o t => Bd t ∧ Fm [22, 23, 70] [33, 26, 27, 28, 29, 30, 31, 32, 152, 153, 154, 1460] s t ∧ ∃ e, o = .inl (some (.int (Int32.ofInt e))) ∧ rng e ∧ ((e = 0 ∧ 0 ≤ u ∧ u ≤ 7 ∧ 0 ≤ v ∧ v ≤ 23 ∧ 0 ≤ p ∧ p ≤ 9999 ∧ ((iI s 70 = 40 ∧ iO t = -1 ∧ iI t 70 = 40) ∨ (iI s 70 ≠ 40 ∧ iO t = iI s 70 ∧ iI t 70 = iI s 70 + 1))) ∨ (e = 1 ∧ (u < 0 ∨ 7 < u ∨ v < 0 ∨ 23 < v ∨ p < 0 ∨ 9999 < p) ∧ iI t 70 = iI s 70))) := by
  refine ctL_of G (by decide) (Nat.le_of_ble_eq_true rfl) (by decide) rfl (fun k X E ET hRt hEx q => ?_)
  show WS k 0 [(0, .ref (A 0)), (1, .int (Int32.ofInt u)), (2, .int (Int32.ofInt v)), (3, .int (Int32.ofInt p)), (4, .int (Int32.ofInt w)), (5, .ref (A 517))] [] _ 0 0
  have F : Fm [22, 23, 70] [33, 26, 27, 28, 29, 30, 31, 32, 152, 153, 154, 1460] s s := fm_rf _ _ s
  have hA := swA_rf A
  have b1 := bi_70 I
  refine z_aload X (x := A 517) rfl (List.Mem.tail _ (List.Mem.tail _ (List.Mem.tail _ (List.Mem.tail _ (List.Mem.tail _ (List.Mem.head _)))))) (z_const X rfl (z_aload_n X (x := A 0) rfl (List.Mem.head _) (z_load_n X (x := u) rfl (List.Mem.tail _ (List.Mem.head _)) (z_load_n X (x := v) rfl (List.Mem.tail _ (List.Mem.tail _ (List.Mem.head _))) (z_load_n X (x := p) rfl (List.Mem.tail _ (List.Mem.tail _ (List.Mem.tail _ (List.Mem.head _)))) (z_load X (x := w) rfl (List.Mem.tail _ (List.Mem.tail _ (List.Mem.tail _ (List.Mem.tail _ (List.Mem.head _))))) (z_callV X 0 (rm := rmN 171) (As := [.int (Int32.ofInt u), .int (Int32.ofInt v), .int (Int32.ofInt p), .int (Int32.ofInt w)]) (st := [.int (Int32.ofInt 0), .ref (A 517)]) rfl rfl (by decide) rfl (by rw [E.1, E.2.1, E.2.2.1]; exact cs_did2 G I (by first | (clear p3; omega) | omega) (by first | (clear p3; omega) | omega) (by first | (clear p3; omega) | omega) (by first | (clear p3; omega) | omega)) ⟨by rw [E.2.2.2]; exact (show (rmN 171).frames + 1 ≤ (rmN 345).frames by decide), by rw [E.2.2.2]; exact (show 8 + (mNL (miB 171) + 11) + (rmN 171).locals ≤ (rmN 345).locals by decide), by rw [E.2.2.2]; exact (show 0 + (rmN 171).cells ≤ (rmN 345).cells by decide), by rw [E.2.2.2]; exact (show 0 + (rmN 171).slots ≤ (rmN 345).slots by decide)⟩ (Nat.le_of_ble_eq_true rfl) (fun vv s2 hq => ?_) (fun ee s2 hq => ?_))))))))
  rotate_left
  · obtain ⟨Is2, Fs2, (⟨e3, hv, hrs2, hps2⟩ | ⟨xx, hv, hps2⟩)⟩ := hq
    · cases hv
    · cases hv
      rcases (show xx = 0 by omega) with gx
      ·
        subst gx
        have Gs2 := fm_tq F Fs2 rfl rfl
        have b4 := bi_70 Is2
        refine (hEx 9 0).2 17 rfl _ _ _ _ _ (fun q1 => ?_)
        show WS k 17 [(0, .ref (A 0)), (1, .int (Int32.ofInt u)), (2, .int (Int32.ofInt v)), (3, .int (Int32.ofInt p)), (4, .int (Int32.ofInt w)), (5, .ref (A 517))] [.ref q1] (Wd A dT s2) 3 18
        refine z_astore X (lv' := [(6, .ref q1), (0, .ref (A 0)), (1, .int (Int32.ofInt u)), (2, .int (Int32.ofInt v)), (3, .int (Int32.ofInt p)), (4, .int (Int32.ofInt w)), (5, .ref (A 517))]) rfl (by decide) (fun _ h => h) (z_const X rfl ?_)
        exact w_iret X.1 q hRt rfl (ax_d X (show cdA 345 20 = some (.ireturn, 1, 0, 0, 0) from rfl)) (show 3 ≤ 3 by decide) (show 18 ≤ 18 by decide) ⟨A, _, hA, rfl, Is2, Gs2, 1, rfl, (by decide), by first | (clear p3; omega) | omega⟩
  obtain ⟨Is2, Fs2, (⟨e3, hv, hrs2, hps2⟩ | ⟨xx, hv, hps2⟩)⟩ := hq
  rotate_left
  · cases hv
  cases hv
  have Gs2 := fm_tq F Fs2 rfl rfl
  have b5 := bi_70 Is2
  show WS k 12 [(0, .ref (A 0)), (1, .int (Int32.ofInt u)), (2, .int (Int32.ofInt v)), (3, .int (Int32.ofInt p)), (4, .int (Int32.ofInt w)), (5, .ref (A 517))] [.int (Int32.ofInt e3), .int (Int32.ofInt 0), .ref (A 517)] (Wd A dT s2) 3 18
  refine w_i2l X.1 (ax_d X (show cdA 345 12 = some (.i2l, 1, 0, 0, 0) from rfl)) (z_last X 517 rfl (c518_ok rfl) rfl (by first | (clear hps2 p3; omega) | (clear p3; omega) | omega) (show 0 < 1 by first | (clear hps2 p3; omega) | (clear p3; omega) | omega) (cbig_ok rfl) (wd_gen (fun s6 hs6 => ?_)))
  have Is6 : Bd s6 := eqB hs6 (bd_D Is2)
  have Fs6 : Fm [22, 23, 70] [33, 26, 27, 28, 29, 30, 31, 32, 152, 153, 154, 1460] s s6 := by rw [hs6]; exact fm_D Gs2 (show 460 + 1000 ∈ _ by decide)
  have ws6_70 : iI s6 70 = iI s2 70 := eqI hs6 rfl
  have oos6 : iO s6 = e3 := by rw [hs6]; exact iO_u (by first | (clear hps2 p3; omega) | (clear p3; omega) | omega)
  refine z_goto X (t := 21) rfl rfl (z_const X rfl ?_)
  exact w_iret X.1 q hRt rfl (ax_d X (show cdA 345 22 = some (.ireturn, 1, 0, 0, 0) from rfl)) (show 3 ≤ 3 by decide) (show 18 ≤ 18 by decide) ⟨A, _, hA, rfl, Is6, Fs6, 0, rfl, (by decide), by first | (clear hps2 p3; omega) | (clear p3; omega) | omega⟩
set_option maxRecDepth 4000 in
theorem k_limit2 (G : GX l s0 D tys a0 dT) (I : Bd s) {x y : Int} (p0 : rng x) (p1 : rng y) : CT l s0 D A dT 236 (rmN 236) [.ref (A 179), .int (Int32.ofInt x), .int (Int32.ofInt y)] s (fun o t => Bd t ∧ Fm [73] [229] s t ∧ ∃ e, o = .inl (some (.int (Int32.ofInt e))) ∧ rng e ∧ ((0 ≤ x ∧ x ≤ 7 ∧ 0 ≤ y ∧ y ≤ 9999 ∧ iI t 73 = 0 ∧ e = iC s 229 x.toNat ∧ UPD 229 x y s t) ∨ ((x < 0 ∨ 7 < x ∨ y < 0 ∨ 9999 < y) ∧ iI t 73 = 1 ∧ SAM 229 s t))) := by
  refine ct_of G (by decide) (Nat.le_of_ble_eq_true rfl) (fun k X E hRt hXt q => ?_)
  show WS k 0 [(0, .ref (A 179)), (1, .int (Int32.ofInt x)), (2, .int (Int32.ofInt y))] [] _ 0 0
  have F : Fm [73] [229] s s := fm_rf _ _ s
  have aw0_229 : SAM 229 s s := sam_rf
  have b1 := bi_73 I
  refine z_aload_n X (x := A 179) rfl (List.Mem.head _) (z_const X rfl (s_putI X 179 rfl (c518_ok rfl) rfl rfl (by decide) rfl rfl rfl (wd_gen (fun s2 hs2 => ?_))))
  have Is2 : Bd s2 := eqB hs2 (bd_I I (show (0 : Int) ≤ 0 ∧ 0 ≤ 3 by first | exact ⟨by decide, by decide⟩ | omega) (by decide))
  have Fs2 := eqF hs2 (fm_I F (inl_ok (a := 73) rfl))
  have vs2 : iI s2 73 = 0 := eqI hs2 (iI_u (by decide))
  have aws2_229 : SAM 229 s s2 := by rw [hs2]; exact aw0_229
  refine z_aload_n X (x := A 179) rfl (List.Mem.head _) (z_load_n X (x := x) rfl (List.Mem.tail _ (List.Mem.head _)) (z_const X rfl (z_bipush X rfl (z_callS X (rm := rmN 188) (As := [.int (Int32.ofInt x), .int (Int32.ofInt 0), .int (Int32.ofInt 7)]) (st := [.ref (A 179)]) rfl rfl (by rw [E.1, E.2.1, E.2.2.1]; exact k_in2 G Is2 (by first | exact ⟨p0.1, p0.2⟩ | omega) (by first | exact ⟨by decide, by decide⟩ | omega) (by first | exact ⟨by decide, by decide⟩ | omega)) ⟨by rw [E.2.2.2]; exact (show (rmN 188).frames + 1 ≤ (rmN 236).frames by decide), by rw [E.2.2.2]; exact (show 8 + (mNL (miB 188) + 11) + (rmN 188).locals ≤ (rmN 236).locals by decide), by rw [E.2.2.2]; exact (show 0 + (rmN 188).cells ≤ (rmN 236).cells by decide), by rw [E.2.2.2]; exact (show 0 + (rmN 188).slots ≤ (rmN 236).slots by decide)⟩ (Nat.le_of_ble_eq_true rfl) (fun vv s3 hq => ?_) (fun ee s3 hq => ?_)))))
  rotate_left
  · obtain ⟨rfl, e4, hv, hrs3, hps3⟩ := hq; cases hv
  obtain ⟨rfl, e4, hv, hrs3, hps3⟩ := hq
  cases hv
  show WS k 13 [(0, .ref (A 179)), (1, .int (Int32.ofInt x)), (2, .int (Int32.ofInt y))] [.int (Int32.ofInt e4), .ref (A 179)] (Wd A dT s2) 0 0
  refine z_if_eq X (t := 27) rfl rfl hrs3 (fun g5 => ?_) (fun g5 => ?_)
  ·
    refine z_const X rfl (z_goto X (t := 32) rfl rfl (z_const X rfl (zcV_i0 X E 179 (As := [.int (Int32.ofInt 1), .int (Int32.ofInt 1)]) (st := []) rfl rfl rfl rfl (k_bad2 G Is2 (by first | exact Or.inr (by decide) | omega) (by first | exact ⟨by decide, by decide⟩ | omega)) rfl (Nat.le_of_ble_eq_true rfl) (fun s6 e7 Is6 Fs6 hrs6 hps6 => ?_))))
    have Gs6 := fm_tq Fs2 Fs6 rfl rfl
    have b8 := bi_73 Is6
    have aws6_229 : SAM 229 s s6 := sam_ts aws2_229 (sam_fm Fs6 (by decide))
    refine z_if_eq X (t := 41) rfl rfl hrs6 (fun g9 => ?_) (fun g9 => ?_)
    ·
      refine z_aload_n X (x := A 179) rfl (List.Mem.head _) (s_getR X 179 rfl (c518_ok rfl) rfl rfl (z_load_n X (x := x) rfl (List.Mem.tail _ (List.Mem.head _)) (z_ald X 257 rfl (c518_ok rfl) rfl (by first | exact oq_674898f9 g9 hps6 vs2 | exact oq_3fe98d9b g9 hps6 vs2 | omega) (show x < 8 by first | exact oq_46361496 g9 hps6 vs2 | exact oq_828a1831 g9 hps6 vs2 | omega) (cbig_ok rfl) ?_)))
      have b10 := bc_229 Is6 (show (x).toNat < 8 by first | exact oq_086235ae g9 hps6 vs2 | exact oq_9653948d g9 hps6 vs2 | omega)
      have ar11 : iC s6 229 (x).toNat = iC s 229 (x).toNat := aws6_229 _
      refine z_store_n X (lv' := [(3, .int (Int32.ofInt (iC s6 229 (x).toNat))), (0, .ref (A 179)), (1, .int (Int32.ofInt x)), (2, .int (Int32.ofInt y))]) rfl (by decide) (fun _ h => h) (z_aload_n X (x := A 179) rfl (List.Mem.tail _ (List.Mem.head _)) (s_getR X 179 rfl (c518_ok rfl) rfl rfl (z_load_n X (x := x) rfl (List.Mem.tail _ (List.Mem.tail _ (List.Mem.head _))) (z_load_n X (x := y) rfl (List.Mem.tail _ (List.Mem.tail _ (List.Mem.tail _ (List.Mem.head _)))) (z_ast X 257 rfl (c518_ok rfl) rfl (by first | exact oq_674898f9 g9 hps6 vs2 | exact oq_3fe98d9b g9 hps6 vs2 | omega) (show x < 8 by first | exact oq_46361496 g9 hps6 vs2 | exact oq_828a1831 g9 hps6 vs2 | omega) (cbig_ok rfl) (wd_gen (fun s12 hs12 => ?_)))))))
      have Is12 : Bd s12 := eqB hs12 (bd_C Is6 (show (0 : Int) ≤ y ∧ y ≤ 9999 by first | exact ⟨oq_674898f9 g9 hps6 vs2, oq_e48faaef g9 hps6 vs2⟩ | exact And.intro (oq_3fe98d9b g9 hps6 vs2) (oq_6a3c7244 g9 hps6 vs2) | omega) ⟨by first | exact p1.1 | omega, by first | exact p1.2 | omega⟩)
      have Fs12 := eqF hs12 (fm_C Gs6 (inl_ok (a := 229) rfl))
      have ws12_73 : iI s12 73 = iI s6 73 := eqI hs12 rfl
      have aws12_229 : UPD 229 (x) y s s12 := by rw [hs12]; exact upd_put aws6_229 ⟨by first | exact p1.1 | omega, by first | exact p1.2 | omega⟩
      refine z_load_n X (x := (iC s6 229 (x).toNat)) rfl (List.Mem.head _) ?_
      exact w_iret X.1 q hRt rfl (ax_d X (show cdA 236 56 = some (.ireturn, 1, 0, 0, 0) from rfl)) (Nat.zero_le _) (Nat.zero_le _) ⟨_, rfl, Is12, Fs12, (iC s6 229 (x).toNat), rfl, (rng_to _), Or.inl ⟨by first | exact oq_674898f9 g9 hps6 vs2 | exact oq_3fe98d9b g9 hps6 vs2 | omega, by first | exact oq_7d7a532a g9 hps6 vs2 | exact oq_d56cd6cd g9 hps6 vs2 | omega, by first | exact oq_674898f9 g9 hps6 vs2 | exact oq_3fe98d9b g9 hps6 vs2 | omega, by first | exact oq_e48faaef g9 hps6 vs2 | exact oq_6a3c7244 g9 hps6 vs2 | omega, by first | exact oq_8c407924 ws12_73 g9 b8.1 hps6 vs2 | exact oq_36519d78 ws12_73 g9 b8.1 hps6 vs2 | omega, by first | exact ar11 | omega, aws12_229⟩⟩
    ·
      refine z_const X rfl ?_
      exact w_iret X.1 q hRt rfl (ax_d X (show cdA 236 40 = some (.ireturn, 1, 0, 0, 0) from rfl)) (Nat.zero_le _) (Nat.zero_le _) ⟨_, rfl, Is6, Gs6, 0, rfl, (by decide), Or.inr (⟨by first | exact oq_791d66b1 g5 hps3 | omega, by first | exact oq_faabd673 g9 hps6 vs2 | exact oq_e8001c64 hps6 vs2 | omega, aws6_229⟩)⟩
  ·
    refine z_load_n X (x := y) rfl (List.Mem.tail _ (List.Mem.tail _ (List.Mem.head _))) (z_const X rfl (z_sipush X rfl (z_callS X (rm := rmN 188) (As := [.int (Int32.ofInt y), .int (Int32.ofInt 0), .int (Int32.ofInt 9999)]) (st := [.ref (A 179)]) rfl rfl (by rw [E.1, E.2.1, E.2.2.1]; exact k_in2 G Is2 (by first | exact ⟨p1.1, p1.2⟩ | omega) (by first | exact ⟨by decide, by decide⟩ | omega) (by first | exact ⟨by decide, by decide⟩ | omega)) ⟨by rw [E.2.2.2]; exact (show (rmN 188).frames + 1 ≤ (rmN 236).frames by decide), by rw [E.2.2.2]; exact (show 8 + (mNL (miB 188) + 11) + (rmN 188).locals ≤ (rmN 236).locals by decide), by rw [E.2.2.2]; exact (show 0 + (rmN 188).cells ≤ (rmN 236).cells by decide), by rw [E.2.2.2]; exact (show 0 + (rmN 188).slots ≤ (rmN 236).slots by decide)⟩ (Nat.le_of_ble_eq_true rfl) (fun vv s13 hq => ?_) (fun ee s13 hq => ?_))))
    rotate_left
    · obtain ⟨rfl, e14, hv, hrs13, hps13⟩ := hq; cases hv
    obtain ⟨rfl, e14, hv, hrs13, hps13⟩ := hq
    cases hv
    show WS k 24 [(0, .ref (A 179)), (1, .int (Int32.ofInt x)), (2, .int (Int32.ofInt y))] [.int (Int32.ofInt e14), .ref (A 179)] (Wd A dT s2) 0 0
    have N15 : ∀ e16 : Int, (((e14 ≠ 0) ∧ e16 = 0) ∨ ((e14 = 0) ∧ e16 = 1)) → WS k 32 [(0, .ref (A 179)), (1, .int (Int32.ofInt x)), (2, .int (Int32.ofInt y))] [.int (Int32.ofInt e16), .ref (A 179)] (Wd A dT s2) 0 0 := by
      intro e16 he16
      have re16 : 0 ≤ e16 ∧ e16 ≤ 1 := by first | exact And.intro (oq_6d672f13 he16) (oq_ccfe7a71 he16) | (clear he16 hps13 g5 hps3; omega) | (clear hps13 g5 hps3; omega) | omega
      refine z_const X rfl (zcV_i0 X E 179 (As := [.int (Int32.ofInt e16), .int (Int32.ofInt 1)]) (st := []) rfl rfl rfl rfl (k_bad2 G Is2 (by first | exact oq_31e518ae re16.2 re16.1 | omega) (by first | exact ⟨by decide, by decide⟩ | omega)) rfl (Nat.le_of_ble_eq_true rfl) (fun s17 e18 Is17 Fs17 hrs17 hps17 => ?_))
      have Gs17 := fm_tq Fs2 Fs17 rfl rfl
      have b19 := bi_73 Is17
      have aws17_229 : SAM 229 s s17 := sam_ts aws2_229 (sam_fm Fs17 (by decide))
      refine z_if_eq X (t := 41) rfl rfl hrs17 (fun g20 => ?_) (fun g20 => ?_)
      ·
        refine z_aload_n X (x := A 179) rfl (List.Mem.head _) (s_getR X 179 rfl (c518_ok rfl) rfl rfl (z_load_n X (x := x) rfl (List.Mem.tail _ (List.Mem.head _)) (z_ald X 257 rfl (c518_ok rfl) rfl (by first | exact oq_28d92795 g5 hps3 | omega) (show x < 8 by first | exact oq_246a8e49 g5 hps3 | omega) (cbig_ok rfl) ?_)))
        have b21 := bc_229 Is17 (show (x).toNat < 8 by first | exact oq_9a20133a g5 hps3 | omega)
        have ar22 : iC s17 229 (x).toNat = iC s 229 (x).toNat := aws17_229 _
        refine z_store_n X (lv' := [(3, .int (Int32.ofInt (iC s17 229 (x).toNat))), (0, .ref (A 179)), (1, .int (Int32.ofInt x)), (2, .int (Int32.ofInt y))]) rfl (by decide) (fun _ h => h) (z_aload_n X (x := A 179) rfl (List.Mem.tail _ (List.Mem.head _)) (s_getR X 179 rfl (c518_ok rfl) rfl rfl (z_load_n X (x := x) rfl (List.Mem.tail _ (List.Mem.tail _ (List.Mem.head _))) (z_load_n X (x := y) rfl (List.Mem.tail _ (List.Mem.tail _ (List.Mem.tail _ (List.Mem.head _)))) (z_ast X 257 rfl (c518_ok rfl) rfl (by first | exact oq_28d92795 g5 hps3 | omega) (show x < 8 by first | exact oq_246a8e49 g5 hps3 | omega) (cbig_ok rfl) (wd_gen (fun s23 hs23 => ?_)))))))
        have Is23 : Bd s23 := eqB hs23 (bd_C Is17 (show (0 : Int) ≤ y ∧ y ≤ 9999 by first | exact ⟨oq_7f8ce9be g20 hps17 he16 hps13 vs2, oq_7cd554bd g20 hps17 he16 hps13 vs2⟩ | omega) ⟨by first | exact p1.1 | omega, by first | exact p1.2 | omega⟩)
        have Fs23 := eqF hs23 (fm_C Gs17 (inl_ok (a := 229) rfl))
        have ws23_73 : iI s23 73 = iI s17 73 := eqI hs23 rfl
        have aws23_229 : UPD 229 (x) y s s23 := by rw [hs23]; exact upd_put aws17_229 ⟨by first | exact p1.1 | omega, by first | exact p1.2 | omega⟩
        refine z_load_n X (x := (iC s17 229 (x).toNat)) rfl (List.Mem.head _) ?_
        exact w_iret X.1 q hRt rfl (ax_d X (show cdA 236 56 = some (.ireturn, 1, 0, 0, 0) from rfl)) (Nat.zero_le _) (Nat.zero_le _) ⟨_, rfl, Is23, Fs23, (iC s17 229 (x).toNat), rfl, (rng_to _), Or.inl ⟨by first | exact oq_28d92795 g5 hps3 | omega, by first | exact oq_ca823699 g5 hps3 | omega, by first | exact oq_7f8ce9be g20 hps17 he16 hps13 vs2 | omega, by first | exact oq_7cd554bd g20 hps17 he16 hps13 vs2 | omega, by first | exact oq_36baa0f5 ws23_73 g20 b19.1 hps17 vs2 | omega, by first | exact ar22 | omega, aws23_229⟩⟩
      ·
        refine z_const X rfl ?_
        exact w_iret X.1 q hRt rfl (ax_d X (show cdA 236 40 = some (.ireturn, 1, 0, 0, 0) from rfl)) (Nat.zero_le _) (Nat.zero_le _) ⟨_, rfl, Is17, Gs17, 0, rfl, (by decide), Or.inr (⟨by first | exact oq_bc7378e0 g20 hps17 he16 hps13 vs2 | omega, by first | exact oq_58a3c280 g20 hps17 vs2 | omega, aws17_229⟩)⟩
    refine z_if_ne X (t := 31) rfl rfl hrs13 (fun g24 => ?_) (fun g24 => ?_)
    ·
      exact z_const X rfl (N15 _ (Or.inl ⟨g24, rfl⟩))
    ·
      exact z_const X rfl (z_goto X (t := 32) rfl rfl (N15 _ (Or.inr (⟨g24, rfl⟩))))
set_option maxRecDepth 4000 in
theorem cs_limit2 (G : GX l s0 D tys a0 dT) (I : Bd s) {u v : Int} (p0 : rng u) (p1 : rng v) : CT l s0 D A dT 145 (rmN 145) [.ref (A 0), .int (Int32.ofInt u), .int (Int32.ofInt v)] s (fun o t => Bd t ∧ Fm [] [24] s t ∧ ((∃ e, o = .inl (some (.int (Int32.ofInt e))) ∧ rng e ∧ (0 ≤ u ∧ u ≤ 7 ∧ 0 ≤ v ∧ v ≤ 9999 ∧ e = iC s 24 u.toNat ∧ UPD 24 u v s t)) ∨ ∃ x : Nat, o = .inr (exN x) ∧ (x = 0 ∧ (u < 0 ∨ 7 < u ∨ v < 0 ∨ 9999 < v) ∧ SAM 24 s t))) := by
  refine ct_ofX G (by decide) (Nat.le_of_ble_eq_true rfl) (fun k X E ET hRt hXt q => ?_)
  show WS k 0 [(0, .ref (A 0)), (1, .int (Int32.ofInt u)), (2, .int (Int32.ofInt v))] [] _ 0 0
  have F : Fm [] [24] s s := fm_rf _ _ s
  have aw0_24 : SAM 24 s s := sam_rf
  refine z_aload_n X (x := A 0) rfl (List.Mem.head _) (z_load_n X (x := u) rfl (List.Mem.tail _ (List.Mem.head _)) (z_callV X 0 (rm := rmN 182) (As := [.int (Int32.ofInt u)]) (st := []) rfl rfl (by decide) rfl (by rw [E.1, E.2.1, E.2.2.1]; exact cs_needPiece2 G I (by first | exact ⟨p0.1, p0.2⟩ | omega)) ⟨by rw [E.2.2.2]; exact (show (rmN 182).frames + 1 ≤ (rmN 145).frames by decide), by rw [E.2.2.2]; exact (show 8 + (mNL (miB 182) + 11) + (rmN 182).locals ≤ (rmN 145).locals by decide), by rw [E.2.2.2]; exact (show 0 + 1 ≤ 2 by decide), by rw [E.2.2.2]; exact (show 0 + 6 ≤ 12 by decide)⟩ (Nat.le_of_ble_eq_true rfl) (fun vv s1 hq => ?_) (fun ee s1 hq => ?_)))
  rotate_left
  · obtain ⟨Is1, Fs1, (⟨hv, hps1⟩ | ⟨xx, hv, hps1⟩)⟩ := hq
    · cases hv
    · cases hv
      have Gs1 := fm_tq F Fs1 rfl rfl
      have aws1_24 : SAM 24 s s1 := sam_ts aw0_24 (sam_fm Fs1 (by decide))
      exact x_out X.1 q (fun x hx => (hXt x hx).elim) (show 1 ≤ 2 by decide) (show 6 ≤ 12 by decide) ⟨_, rfl, Is1, Gs1, Or.inr ⟨xx, rfl, ⟨by first | exact hps1.1 | omega, by first | exact oq_c272ea18 hps1.2 | omega, aws1_24⟩⟩⟩
  obtain ⟨Is1, Fs1, (⟨hv, hps1⟩ | ⟨xx, hv, hps1⟩)⟩ := hq
  rotate_left
  · cases hv
  cases hv
  have Gs1 := fm_tq F Fs1 rfl rfl
  have aws1_24 : SAM 24 s s1 := sam_ts aw0_24 (sam_fm Fs1 (by decide))
  show WS k 5 [(0, .ref (A 0)), (1, .int (Int32.ofInt u)), (2, .int (Int32.ofInt v))] [] (Wd A dT s1) 1 6
  refine z_aload_n X (x := A 0) rfl (List.Mem.head _) (z_load_n X (x := v) rfl (List.Mem.tail _ (List.Mem.tail _ (List.Mem.head _))) (z_const X rfl (z_sipush X rfl (z_callV X 0 (rm := rmN 184) (As := [.int (Int32.ofInt v), .int (Int32.ofInt 0), .int (Int32.ofInt 9999)]) (st := []) rfl rfl (by decide) rfl (by rw [E.1, E.2.1, E.2.2.1]; exact cs_needWithin2 G Is1 (by first | exact ⟨p1.1, p1.2⟩ | omega) (by first | exact ⟨by decide, by decide⟩ | omega) (by first | exact ⟨by decide, by decide⟩ | omega)) ⟨by rw [E.2.2.2]; exact (show (rmN 184).frames + 1 ≤ (rmN 145).frames by decide), by rw [E.2.2.2]; exact (show 8 + (mNL (miB 184) + 11) + (rmN 184).locals ≤ (rmN 145).locals by decide), by rw [E.2.2.2]; exact (show 1 + 1 ≤ 2 by decide), by rw [E.2.2.2]; exact (show 6 + 6 ≤ 12 by decide)⟩ (Nat.le_of_ble_eq_true rfl) (fun vv s3 hq => ?_) (fun ee s3 hq => ?_)))))
  rotate_left
  · obtain ⟨Is3, Fs3, (⟨hv, hps3⟩ | ⟨xx, hv, hps3⟩)⟩ := hq
    · cases hv
    · cases hv
      have Gs3 := fm_tq Gs1 Fs3 rfl rfl
      have aws3_24 : SAM 24 s s3 := sam_ts aws1_24 (sam_fm Fs3 (by decide))
      exact x_out X.1 q (fun x hx => (hXt x hx).elim) (show (1 + 1) ≤ 2 by decide) (show (6 + 6) ≤ 12 by decide) ⟨_, rfl, Is3, Gs3, Or.inr ⟨xx, rfl, ⟨by first | exact hps3.1 | (clear hps1; omega) | omega, by first | exact Or.inr (Or.inr (hps3.2)) | (clear hps1; omega) | omega, aws3_24⟩⟩⟩
  obtain ⟨Is3, Fs3, (⟨hv, hps3⟩ | ⟨xx, hv, hps3⟩)⟩ := hq
  rotate_left
  · cases hv
  cases hv
  have Gs3 := fm_tq Gs1 Fs3 rfl rfl
  have aws3_24 : SAM 24 s s3 := sam_ts aws1_24 (sam_fm Fs3 (by decide))
  show WS k 14 [(0, .ref (A 0)), (1, .int (Int32.ofInt u)), (2, .int (Int32.ofInt v))] [] (Wd A dT s3) (1 + 1) (6 + 6)
  refine z_aload_n X (x := A 0) rfl (List.Mem.head _) (s_getR X 0 rfl (c518_ok rfl) rfl rfl (s_getR X 25 rfl (c518_ok rfl) rfl rfl (z_load_n X (x := u) rfl (List.Mem.tail _ (List.Mem.head _)) (z_ald X 29 rfl (c518_ok rfl) rfl (by first | exact hps1.1 | omega) (show u < 8 by first | exact oq_aaea290e hps1.2 | omega) (cbig_ok rfl) ?_))))
  have b5 := bc_24 Is3 (show (u).toNat < 8 by first | exact oq_c19a3aae hps1.2 | omega)
  have ar6 : iC s3 24 (u).toNat = iC s 24 (u).toNat := aws3_24 _
  refine z_store_n X (lv' := [(3, .int (Int32.ofInt (iC s3 24 (u).toNat))), (0, .ref (A 0)), (1, .int (Int32.ofInt u)), (2, .int (Int32.ofInt v))]) rfl (by decide) (fun _ h => h) (z_aload_n X (x := A 0) rfl (List.Mem.tail _ (List.Mem.head _)) (s_getR X 0 rfl (c518_ok rfl) rfl rfl (s_getR X 25 rfl (c518_ok rfl) rfl rfl (z_load_n X (x := u) rfl (List.Mem.tail _ (List.Mem.tail _ (List.Mem.head _))) (z_load_n X (x := v) rfl (List.Mem.tail _ (List.Mem.tail _ (List.Mem.tail _ (List.Mem.head _)))) (z_ast X 29 rfl (c518_ok rfl) rfl (by first | exact hps1.1 | omega) (show u < 8 by first | exact oq_aaea290e hps1.2 | omega) (cbig_ok rfl) (wd_gen (fun s7 hs7 => ?_))))))))
  have Is7 : Bd s7 := eqB hs7 (bd_C Is3 (show (0 : Int) ≤ v ∧ v ≤ 9999 by first | exact ⟨hps3.1, hps3.2⟩ | omega) ⟨by first | exact p1.1 | omega, by first | exact p1.2 | omega⟩)
  have Fs7 := eqF hs7 (fm_C Gs3 (inl_ok (a := 24) rfl))
  have aws7_24 : UPD 24 (u) v s s7 := by rw [hs7]; exact upd_put aws3_24 ⟨by first | exact p1.1 | omega, by first | exact p1.2 | omega⟩
  refine z_load_n X (x := (iC s3 24 (u).toNat)) rfl (List.Mem.head _) ?_
  exact w_iret X.1 q hRt rfl (ax_d X (show cdA 145 35 = some (.ireturn, 1, 0, 0, 0) from rfl)) (show (1 + 1) ≤ 2 by decide) (show (6 + 6) ≤ 12 by decide) ⟨_, rfl, Is7, Fs7, Or.inl ⟨(iC s3 24 (u).toNat), rfl, (rng_to _), ⟨by first | exact hps1.1 | omega, by first | exact hps1.2 | omega, by first | exact hps3.1 | omega, by first | exact hps3.2 | omega, by first | exact ar6 | omega, aws7_24⟩⟩⟩
set_option maxRecDepth 4000 in
theorem lw_limit2 (G : GX l s0 D tys a0 dT) (I : Bd s) {u v : Int} (p0 : rng u) (p1 : rng v) : CTL l s0 D A dT 322 (rmN 322) [.ref (A 0), .int (Int32.ofInt u), .int (Int32.ofInt v), .ref (A 517)] s (fun o t => Bd t ∧ Fm [] [24, 1460] s t ∧ ∃ e, o = .inl (some (.int (Int32.ofInt e))) ∧ rng e ∧ ((e = 0 ∧ 0 ≤ u ∧ u ≤ 7 ∧ 0 ≤ v ∧ v ≤ 9999 ∧ iO t = iC s 24 u.toNat ∧ UPD 24 u v s t) ∨ (e = 1 ∧ (u < 0 ∨ 7 < u ∨ v < 0 ∨ 9999 < v) ∧ SAM 24 s t))) := by
  refine ctL_of G (by decide) (Nat.le_of_ble_eq_true rfl) (by decide) rfl (fun k X E ET hRt hEx q => ?_)
  show WS k 0 [(0, .ref (A 0)), (1, .int (Int32.ofInt u)), (2, .int (Int32.ofInt v)), (3, .ref (A 517))] [] _ 0 0
  have F : Fm [] [24, 1460] s s := fm_rf _ _ s
  have aw0_24 : SAM 24 s s := sam_rf
  have hA := swA_rf A
  refine z_aload_n X (x := A 517) rfl (List.Mem.tail _ (List.Mem.tail _ (List.Mem.tail _ (List.Mem.head _)))) (z_const X rfl (z_aload_n X (x := A 0) rfl (List.Mem.head _) (z_load_n X (x := u) rfl (List.Mem.tail _ (List.Mem.head _)) (z_load_n X (x := v) rfl (List.Mem.tail _ (List.Mem.tail _ (List.Mem.head _))) (z_callV X 0 (rm := rmN 145) (As := [.int (Int32.ofInt u), .int (Int32.ofInt v)]) (st := [.int (Int32.ofInt 0), .ref (A 517)]) rfl rfl (by decide) rfl (by rw [E.1, E.2.1, E.2.2.1]; exact cs_limit2 G I (by first | exact And.intro (p0.1) (p0.2) | omega) (by first | exact And.intro (p1.1) (p1.2) | omega)) ⟨by rw [E.2.2.2]; exact (show (rmN 145).frames + 1 ≤ (rmN 322).frames by decide), by rw [E.2.2.2]; exact (show 8 + (mNL (miB 145) + 11) + (rmN 145).locals ≤ (rmN 322).locals by decide), by rw [E.2.2.2]; exact (show 0 + (rmN 145).cells ≤ (rmN 322).cells by decide), by rw [E.2.2.2]; exact (show 0 + (rmN 145).slots ≤ (rmN 322).slots by decide)⟩ (Nat.le_of_ble_eq_true rfl) (fun vv s1 hq => ?_) (fun ee s1 hq => ?_))))))
  rotate_left
  · obtain ⟨Is1, Fs1, (⟨e2, hv, hrs1, hps1⟩ | ⟨xx, hv, hps1⟩)⟩ := hq
    · cases hv
    · cases hv
      rcases (show xx = 0 by first | exact hps1.1 | omega) with gx
      ·
        subst gx
        have Gs1 := fm_tq F Fs1 rfl rfl
        refine (hEx 5 0).2 13 rfl _ _ _ _ _ (fun q1 => ?_)
        show WS k 13 [(0, .ref (A 0)), (1, .int (Int32.ofInt u)), (2, .int (Int32.ofInt v)), (3, .ref (A 517))] [.ref q1] (Wd A dT s1) 2 12
        refine z_astore X (lv' := [(4, .ref q1), (0, .ref (A 0)), (1, .int (Int32.ofInt u)), (2, .int (Int32.ofInt v)), (3, .ref (A 517))]) rfl (by decide) (fun _ h => h) (z_const X rfl ?_)
        exact w_iret X.1 q hRt rfl (ax_d X (show cdA 322 16 = some (.ireturn, 1, 0, 0, 0) from rfl)) (show 2 ≤ 2 by decide) (show 12 ≤ 12 by decide) ⟨A, _, hA, rfl, Is1, Gs1, 1, rfl, (by decide), Or.inr (⟨by decide, by first | exact hps1.2.1 | omega, hps1.2.2⟩)⟩
  obtain ⟨Is1, Fs1, (⟨e2, hv, hrs1, hps1⟩ | ⟨xx, hv, hps1⟩)⟩ := hq
  rotate_left
  · cases hv
  cases hv
  have Gs1 := fm_tq F Fs1 rfl rfl
  show WS k 8 [(0, .ref (A 0)), (1, .int (Int32.ofInt u)), (2, .int (Int32.ofInt v)), (3, .ref (A 517))] [.int (Int32.ofInt e2), .int (Int32.ofInt 0), .ref (A 517)] (Wd A dT s1) 2 12
  refine w_i2l X.1 (ax_d X (show cdA 322 8 = some (.i2l, 1, 0, 0, 0) from rfl)) (z_last X 517 rfl (c518_ok rfl) rfl (by first | exact oq_0fe6b7e2 | (clear hps1; omega) | omega) (show 0 < 1 by first | exact oq_e5adbe74 | (clear hps1; omega) | omega) (cbig_ok rfl) (wd_gen (fun s3 hs3 => ?_)))
  have Is3 : Bd s3 := eqB hs3 (bd_D Is1)
  have Fs3 : Fm [] [24, 1460] s s3 := by rw [hs3]; exact fm_D Gs1 (show 460 + 1000 ∈ _ by decide)
  have aws3_24 : UPD 24 u v s s3 := by rw [hs3]; exact hps1.2.2.2.2.2
  have oos3 : iO s3 = e2 := by rw [hs3]; exact iO_u (by first | exact And.intro (hrs1.1) (hrs1.2) | (clear hps1; omega) | omega)
  refine z_goto X (t := 17) rfl rfl (z_const X rfl ?_)
  exact w_iret X.1 q hRt rfl (ax_d X (show cdA 322 18 = some (.ireturn, 1, 0, 0, 0) from rfl)) (show 2 ≤ 2 by decide) (show 12 ≤ 12 by decide) ⟨A, _, hA, rfl, Is3, Fs3, 0, rfl, (by decide), Or.inl ⟨by decide, by first | exact hps1.1 | (clear hps1; omega) | omega, by first | exact hps1.2.1 | (clear hps1; omega) | omega, by first | exact hps1.2.2.1 | (clear hps1; omega) | omega, by first | exact hps1.2.2.2.1 | (clear hps1; omega) | omega, by first | exact oq_1aa5be9e oos3 hps1.2.2.2.2.1 | (clear hps1; omega) | omega, aws3_24⟩⟩
set_option maxRecDepth 4000 in
theorem c5_add2 (G : GX l s0 D tys a0 dT) (I : Bd s) {x : Int} (p0 : 0 ≤ x ∧ x ≤ 127) : CT l s0 D A dT 54 (rmN 54) [.ref (A 46), .int (Int32.ofInt x)] s (fun o t => Bd t ∧ Fm [28] [39] s t ∧ ∃ e, o = .inl (some (.int (Int32.ofInt e))) ∧ rng e ∧ ((iI s 28 = 8 ∧ e = -1 ∧ iI t 28 = 8 ∧ SAM 39 s t) ∨ (iI s 28 ≤ 7 ∧ e = -2 ∧ iI t 28 = iI s 28 ∧ HAS 39 (iI s 28) x s ∧ SAM 39 s t) ∨ (iI s 28 ≤ 7 ∧ e = iI s 28 + 1 ∧ iI t 28 = iI s 28 + 1 ∧ NHS 39 (iI s 28) x s ∧ UPD 39 (iI s 28) x s t))) := by
  refine ct_ofX G (by decide) (Nat.le_of_ble_eq_true rfl) (fun k X E ET hRt hXt q => ?_)
  show WS k 0 [(0, .ref (A 46)), (1, .int (Int32.ofInt x))] [] _ 0 0
  have F : Fm [28] [39] s s := fm_rf _ _ s
  have aw0_39 : SAM 39 s s := sam_rf
  have b1 := bi_28 I
  have L13 : ∀ (n : Nat) (t : PS) (xv c : Int), Bd t → Fm [28] [39] s t → (SAM 39 s t ∧ NHS 39 c xv s) → (xv = x ∧ (0 ≤ xv ∧ xv ≤ 127) ∧ 0 ≤ c ∧ c ≤ 8 ∧ iI t 28 ≤ 7 ∧ iI t 28 = iI s 28) → (8 - c : Int).toNat < n → (∀ (t' : PS) (c' : Int), Bd t' → Fm [28] [39] s t' → (SAM 39 s t' ∧ NHS 39 c' xv s) → (xv = x ∧ (0 ≤ xv ∧ xv ≤ 127) ∧ 0 ≤ c' ∧ c' ≤ 8 ∧ iI t' 28 ≤ 7 ∧ iI t' 28 = iI s 28 ∧ iI t' 28 ≤ c') → WS k 40 [(0, .ref (A 46)), (1, .int (Int32.ofInt xv)), (2, .int (Int32.ofInt c'))] [] (Wd A dT t') 0 0) → WS k 13 [(0, .ref (A 46)), (1, .int (Int32.ofInt xv)), (2, .int (Int32.ofInt c))] [] (Wd A dT t) 0 0 := by
    intro n
    induction n with
    | zero =>
      intro t xv c I F hq hi hm kx
      exact absurd hm (Nat.not_lt_zero _)
    | succ n ih =>
      intro t xv c I F hq hi hm kx
      have b1001 := bi_28 I
      refine z_load_n X (x := c) rfl (List.Mem.tail _ (List.Mem.tail _ (List.Mem.head _))) (z_aload_n X (x := A 46) rfl (List.Mem.head _) (z_getI X 46 rfl (c518_ok rfl) rfl rfl ?_))
      have b1002 := bi_28 I
      refine z_icmp_ge X (t := 40) rfl rfl ⟨by first | exact oq_fa4e5087 hi.2.2.1 | omega, by first | exact oq_d3f5d874 hi.2.2.2.1 | omega⟩ (rng_to _) (fun g1003 => ?_) (fun g1003 => ?_)
      ·
        refine WS_pq [0, 1, 2] (lv' := [(0, .ref (A 46)), (1, .int (Int32.ofInt xv)), (2, .int (Int32.ofInt c))]) rfl ?_
        exact kx _ c I F ⟨hq.1, hq.2⟩ (by first | exact ⟨hi.1, And.intro (hi.2.1.1) (hi.2.1.2), hi.2.2.1, hi.2.2.2.1, hi.2.2.2.2.1, hi.2.2.2.2.2, g1003⟩ | omega)
      ·
        refine z_aload_n X (x := A 46) rfl (List.Mem.head _) (s_getR X 46 rfl (c518_ok rfl) rfl rfl (z_load_n X (x := c) rfl (List.Mem.tail _ (List.Mem.tail _ (List.Mem.head _))) (z_ald X 47 rfl (c518_ok rfl) rfl (by first | exact hi.2.2.1 | omega) (show c < 8 by first | exact oq_7f5b2e79 g1003 b1002.2 | omega) (cbig_ok rfl) ?_)))
        have b1004 := bc_39 I (show (c).toNat < 8 by first | exact oq_67be0351 g1003 b1002.2 | omega)
        have ar1005 : iC t 39 (c).toNat = iC s 39 (c).toNat := hq.1 _
        refine z_load_n X (x := xv) rfl (List.Mem.tail _ (List.Mem.head _)) (z_icmp_ne X (t := 34) rfl rfl (rng_to _) ⟨by first | exact oq_fa4e5087 hi.2.1.1 | omega, by first | exact oq_07d346ce hi.2.1.2 | omega⟩ (fun g1006 => ?_) (fun g1006 => ?_))
        ·
          refine z_inc X (x := c) (lv' := [(2, .int (Int32.ofInt (c + 1))), (0, .ref (A 46)), (1, .int (Int32.ofInt xv))]) rfl (by decide) (List.Mem.tail _ (List.Mem.tail _ (List.Mem.head _))) (fun _ h => h) (z_goto X (t := 13) rfl rfl (WS_pq [1, 2, 0] (lv' := [(0, .ref (A 46)), (1, .int (Int32.ofInt xv)), (2, .int (Int32.ofInt (c + 1)))]) rfl ?_))
          exact ih _ xv (c + 1) I F ⟨hq.1, nhs_up hq.2 (by first | (clear g1006; omega) | omega) (by first | (clear g1006; omega) | omega)⟩ (by first | exact ⟨hi.1, And.intro (hi.2.1.1) (hi.2.1.2), oq_54f49eb5 hi.2.2.1, oq_f6204d84 g1003 b1002.2, hi.2.2.2.2.1, hi.2.2.2.2.2⟩ | omega) (by first | exact qk_me hm (by decide) (oq_ccc5e5e0 g1003 b1002.2) | omega) kx
        ·
          refine z_bipush X rfl ?_
          exact w_iret X.1 q hRt rfl (ax_d X (show cdA 54 33 = some (.ireturn, 1, 0, 0, 0) from rfl)) (Nat.zero_le _) (Nat.zero_le _) ⟨_, rfl, I, F, (-2), rfl, (by decide), Or.inr (Or.inl ⟨by first | exact oq_5f8273e9 hi.2.2.2.2.2 hi.2.2.2.2.1 | omega, by decide, by first | exact hi.2.2.2.2.2 | omega, hs_of c (by omega) (by omega) (by omega), hq.1⟩)⟩
  refine z_aload_n X (x := A 46) rfl (List.Mem.head _) (z_getI X 46 rfl (c518_ok rfl) rfl rfl ?_)
  have b2 := bi_28 I
  refine z_bipush X rfl (z_icmp_lt X (t := 11) rfl rfl (rng_to _) (by decide) (fun g3 => ?_) (fun g3 => ?_))
  ·
    refine z_const X rfl (z_store_n X (lv' := [(2, .int (Int32.ofInt 0)), (0, .ref (A 46)), (1, .int (Int32.ofInt x))]) rfl (by decide) (fun _ h => h) (WS_pq [1, 2, 0] (lv' := [(0, .ref (A 46)), (1, .int (Int32.ofInt x)), (2, .int (Int32.ofInt 0))]) rfl (L13 ((8 - 0 : Int).toNat + 1) s x 0 I F ⟨aw0_39, nhs_0⟩ (by first | exact ⟨by decide, And.intro (p0.1) (p0.2), by decide, by decide, oq_78c639ed g3, by decide⟩ | omega) (Nat.lt_succ_self _) ?_)))
    intro s4 x5 Is4 Fs4 Qs4 hs4
    have b6 := bi_28 Is4
    refine z_aload_n X (x := A 46) rfl (List.Mem.head _) (s_getR X 46 rfl (c518_ok rfl) rfl rfl (z_aload_n X (x := A 46) rfl (List.Mem.head _) (z_getI X 46 rfl (c518_ok rfl) rfl rfl ?_)))
    have b7 := bi_28 Is4
    refine z_load_n X (x := x) rfl (List.Mem.tail _ (List.Mem.head _)) (z_ast X 47 rfl (c518_ok rfl) rfl (by first | exact b7.1 | omega) (show (iI s4 28) < 8 by first | exact oq_aaea290e hs4.2.2.2.2.1 | omega) (cbig_ok rfl) (wd_gen (fun s8 hs8 => ?_)))
    have Is8 : Bd s8 := eqB hs8 (bd_C Is4 (show (0 : Int) ≤ x ∧ x ≤ 127 by first | exact ⟨hs4.2.1.1, hs4.2.1.2⟩ | omega) ⟨by first | exact oq_fa4e5087 hs4.2.1.1 | omega, by first | exact oq_07d346ce hs4.2.1.2 | omega⟩)
    have Fs8 := eqF hs8 (fm_C Fs4 (inl_ok (a := 39) rfl))
    have ws8_28 : iI s8 28 = iI s4 28 := eqI hs8 rfl
    have aws8_39 : UPD 39 ((iI s4 28)) x s s8 := by rw [hs8]; exact upd_put Qs4.1 ⟨by first | exact oq_fa4e5087 hs4.2.1.1 | omega, by first | exact oq_07d346ce hs4.2.1.2 | omega⟩
    refine z_aload_n X (x := A 46) rfl (List.Mem.head _) (w_dup X.1 (ax_d X (show cdA 54 51 = some (.dup, 1, 0, 0, 0) from rfl)) rfl (z_getI X 46 rfl (c518_ok rfl) rfl rfl ?_))
    have b9 := bi_28 Is8
    refine z_const X rfl (z_add X rfl (s_putI X 46 rfl (c518_ok rfl) rfl rfl (by decide) rfl rfl rfl (wd_gen (fun s10 hs10 => ?_))))
    have Is10 : Bd s10 := eqB hs10 (bd_I Is8 (show (0 : Int) ≤ ((iI s8 28) + 1) ∧ ((iI s8 28) + 1) ≤ 8 by first | exact ⟨oq_54f49eb5 b9.1, oq_216077ba ws8_28 hs4.2.2.2.2.1⟩ | omega) ⟨by first | exact oq_74de1e16 b9.1 | omega, by first | exact oq_3762dfb5 b9.2 | omega⟩)
    have Fs10 := eqF hs10 (fm_I Fs8 (inl_ok (a := 28) rfl))
    have vs10 : iI s10 28 = ((iI s8 28) + 1) := eqI hs10 (iI_u ⟨by first | exact oq_74de1e16 b9.1 | omega, by first | exact oq_3762dfb5 b9.2 | omega⟩)
    have aws10_39 : UPD 39 ((iI s4 28)) x s s10 := by rw [hs10]; exact aws8_39
    refine z_aload_n X (x := A 46) rfl (List.Mem.head _) (z_getI X 46 rfl (c518_ok rfl) rfl rfl ?_)
    have b11 := bi_28 Is10
    exact w_iret X.1 q hRt rfl (ax_d X (show cdA 54 64 = some (.ireturn, 1, 0, 0, 0) from rfl)) (Nat.zero_le _) (Nat.zero_le _) ⟨_, rfl, Is10, Fs10, (iI s10 28), rfl, (rng_to _), Or.inr (Or.inr (⟨by first | exact oq_78c639ed g3 | omega, by first | exact oq_869f4f0c vs10 hs4.2.2.2.2.2.1 ws8_28 | omega, by first | exact oq_869f4f0c vs10 hs4.2.2.2.2.2.1 ws8_28 | omega, nhs_le (Qs4.2) (by omega), upd_ix aws10_39 (by omega)⟩))⟩
  ·
    refine z_const X rfl ?_
    exact w_iret X.1 q hRt rfl (ax_d X (show cdA 54 10 = some (.ireturn, 1, 0, 0, 0) from rfl)) (Nat.zero_le _) (Nat.zero_le _) ⟨_, rfl, I, F, (-1), rfl, (by decide), Or.inl ⟨by first | exact oq_73d3719d b2.2 g3 | omega, by decide, by first | exact oq_73d3719d b2.2 g3 | omega, aw0_39⟩⟩
set_option maxRecDepth 4000 in
theorem cs_needCell2 (G : GX l s0 D tys a0 dT) (I : Bd s) {v : Int} (p0 : rng v) : CT l s0 D A dT 181 (rmN 181) [.ref (A 0), .int (Int32.ofInt v)] s (fun o t => Bd t ∧ Fm [] [] s t ∧ ((o = .inl none ∧ (0 ≤ v ∧ v ≤ 127 ∧ s = t)) ∨ ∃ x : Nat, o = .inr (exN x) ∧ (x = 2 ∧ (v < 0 ∨ 127 < v)))) := by
  refine ct_ofX G (by decide) (Nat.le_of_ble_eq_true rfl) (fun k X E ET hRt hXt q => ?_)
  show WS k 0 [(0, .ref (A 0)), (1, .int (Int32.ofInt v))] [] _ 0 0
  have F : Fm [] [] s s := fm_rf _ _ s
  refine z_load_n X (x := v) rfl (List.Mem.tail _ (List.Mem.head _)) (z_if_lt X (t := 11) rfl rfl ⟨by first | exact p0.1 | omega, by first | exact p0.2 | omega⟩ (fun g1 => ?_) (fun g1 => ?_))
  ·
    exact z_throw G X E ET hXt q (st := []) rfl (by decide) (by decide) (Nat.le_of_ble_eq_true rfl) (show 0 + 1 ≤ 1 by decide) (show 0 + 6 ≤ 6 by decide) (show 0 + 1 ≤ 1 by decide) (show 0 + 6 ≤ 6 by decide) ⟨_, rfl, I, F, Or.inr ⟨2, rfl, by omega⟩⟩
  ·
    refine z_load_n X (x := v) rfl (List.Mem.tail _ (List.Mem.head _)) (z_sipush X rfl (z_icmp_lt X (t := 22) rfl rfl ⟨by first | exact p0.1 | omega, by first | exact p0.2 | omega⟩ (by decide) (fun g2 => ?_) (fun g2 => ?_)))
    ·
      exact w_vret X.1 q hRt (ax_d X (show cdA 181 22 = some (.return_, 1, 0, 0, 0) from rfl)) (Nat.zero_le _) (Nat.zero_le _) ⟨_, rfl, I, F, Or.inl ⟨rfl, ⟨by first | exact g1 | omega, by first | exact oq_04367f15 g2 | omega, rfl⟩⟩⟩
    ·
      exact z_throw G X E ET hXt q (st := []) rfl (by decide) (by decide) (Nat.le_of_ble_eq_true rfl) (show 0 + 1 ≤ 1 by decide) (show 0 + 6 ≤ 6 by decide) (show 0 + 1 ≤ 1 by decide) (show 0 + 6 ≤ 6 by decide) ⟨_, rfl, I, F, Or.inr ⟨2, rfl, by omega⟩⟩
set_option maxRecDepth 4000 in
theorem cs_region2 (G : GX l s0 D tys a0 dT) (I : Bd s) {u : Int} (p0 : rng u) : CT l s0 D A dT 157 (rmN 157) [.ref (A 0), .int (Int32.ofInt u)] s (fun o t => Bd t ∧ Fm [28] [39] s t ∧ ((∃ e, o = .inl (some (.int (Int32.ofInt e))) ∧ rng e ∧ (0 ≤ u ∧ u ≤ 127 ∧ ((iI s 28 = 8 ∧ e = -1 ∧ iI t 28 = 8 ∧ SAM 39 s t) ∨ (iI s 28 ≤ 7 ∧ e = -2 ∧ iI t 28 = iI s 28 ∧ HAS 39 (iI s 28) u s ∧ SAM 39 s t) ∨ (iI s 28 ≤ 7 ∧ e = iI s 28 + 1 ∧ iI t 28 = iI s 28 + 1 ∧ NHS 39 (iI s 28) u s ∧ UPD 39 (iI s 28) u s t)))) ∨ ∃ x : Nat, o = .inr (exN x) ∧ (x = 2 ∧ (u < 0 ∨ 127 < u) ∧ iI t 28 = iI s 28 ∧ SAM 39 s t))) := by
  refine ct_ofX G (by decide) (Nat.le_of_ble_eq_true rfl) (fun k X E ET hRt hXt q => ?_)
  show WS k 0 [(0, .ref (A 0)), (1, .int (Int32.ofInt u))] [] _ 0 0
  have F : Fm [28] [39] s s := fm_rf _ _ s
  have aw0_39 : SAM 39 s s := sam_rf
  have b1 := bi_28 I
  refine z_aload_n X (x := A 0) rfl (List.Mem.head _) (z_load_n X (x := u) rfl (List.Mem.tail _ (List.Mem.head _)) (z_callV X 0 (rm := rmN 181) (As := [.int (Int32.ofInt u)]) (st := []) rfl rfl (by decide) rfl (by rw [E.1, E.2.1, E.2.2.1]; exact cs_needCell2 G I (by first | exact ⟨p0.1, p0.2⟩ | omega)) ⟨by rw [E.2.2.2]; exact (show (rmN 181).frames + 1 ≤ (rmN 157).frames by decide), by rw [E.2.2.2]; exact (show 8 + (mNL (miB 181) + 11) + (rmN 181).locals ≤ (rmN 157).locals by decide), by rw [E.2.2.2]; exact (show 0 + 1 ≤ 1 by decide), by rw [E.2.2.2]; exact (show 0 + 6 ≤ 6 by decide)⟩ (Nat.le_of_ble_eq_true rfl) (fun vv s2 hq => ?_) (fun ee s2 hq => ?_)))
  rotate_left
  · obtain ⟨Is2, Fs2, (⟨hv, hps2⟩ | ⟨xx, hv, hps2⟩)⟩ := hq
    · cases hv
    · cases hv
      have Gs2 := fm_tq F Fs2 rfl rfl
      have ws2_28 : iI s2 28 = iI s 28 := fm_iq Fs2 rfl
      have aws2_39 : SAM 39 s s2 := sam_ts aw0_39 (sam_fm Fs2 (by decide))
      exact x_out X.1 q (fun x hx => (hXt x hx).elim) (show 1 ≤ 1 by decide) (show 6 ≤ 6 by decide) ⟨_, rfl, Is2, Gs2, Or.inr ⟨xx, rfl, ⟨by omega, by omega, by omega, aws2_39⟩⟩⟩
  obtain ⟨Is2, Fs2, (⟨hv, hps2⟩ | ⟨xx, hv, hps2⟩)⟩ := hq
  rotate_left
  · cases hv
  cases hv
  have Gs2 := fm_tq F Fs2 rfl rfl
  have ws2_28 : iI s2 28 = iI s 28 := fm_iq Fs2 rfl
  have aws2_39 : SAM 39 s s2 := sam_ts aw0_39 (sam_fm Fs2 (by decide))
  have eTs2 := hps2.2.2
  subst eTs2
  show WS k 5 [(0, .ref (A 0)), (1, .int (Int32.ofInt u))] [] (Wd A dT s) 1 6
  refine z_aload_n X (x := A 0) rfl (List.Mem.head _) (s_getR X 0 rfl (c518_ok rfl) rfl rfl (z_load_n X (x := u) rfl (List.Mem.tail _ (List.Mem.head _)) (z_callV X 46 (rm := rmN 54) (As := [.int (Int32.ofInt u)]) (st := []) rfl rfl (by decide) rfl (by rw [E.1, E.2.1, E.2.2.1]; exact c5_add2 G Is2 (by first | exact ⟨hps2.1, hps2.2.1⟩ | omega)) ⟨by rw [E.2.2.2]; exact (show (rmN 54).frames + 1 ≤ (rmN 157).frames by decide), by rw [E.2.2.2]; exact (show 8 + (mNL (miB 54) + 11) + (rmN 54).locals ≤ (rmN 157).locals by decide), by rw [E.2.2.2]; exact (show 1 + 0 ≤ 1 by decide), by rw [E.2.2.2]; exact (show 6 + 0 ≤ 6 by decide)⟩ (Nat.le_of_ble_eq_true rfl) (fun vv s4 hq => ?_) (fun ee s4 hq => ?_))))
  rotate_left
  · obtain ⟨Is4, Fs4, e5, hv, hrs4, hps4⟩ := hq; cases hv
  obtain ⟨Is4, Fs4, e5, hv, hrs4, hps4⟩ := hq
  cases hv
  have Gs4 := fm_tq Gs2 Fs4 rfl rfl
  have b6 := bi_28 Is4
  show WS k 13 [(0, .ref (A 0)), (1, .int (Int32.ofInt u))] [.int (Int32.ofInt e5)] (Wd A dT s4) 1 6
  exact w_iret X.1 q hRt rfl (ax_d X (show cdA 157 13 = some (.ireturn, 1, 0, 0, 0) from rfl)) (show 1 ≤ 1 by decide) (show 6 ≤ 6 by decide) ⟨_, rfl, Is4, Gs4, Or.inl ⟨e5, rfl, hrs4, ⟨by first | exact hps2.1 | omega, by first | exact hps2.2.1 | omega, hps4⟩⟩⟩
set_option maxRecDepth 4000 in
theorem lw_region2 (G : GX l s0 D tys a0 dT) (I : Bd s) {u : Int} (p0 : rng u) : CTL l s0 D A dT 332 (rmN 332) [.ref (A 0), .int (Int32.ofInt u), .ref (A 517)] s (fun o t => Bd t ∧ Fm [28] [39, 1460] s t ∧ ∃ e, o = .inl (some (.int (Int32.ofInt e))) ∧ rng e ∧ ((e = 1 ∧ (u < 0 ∨ 127 < u) ∧ iI t 28 = iI s 28 ∧ SAM 39 s t) ∨ (e = 0 ∧ 0 ≤ u ∧ u ≤ 127 ∧ iI s 28 = 8 ∧ iO t = -1 ∧ iI t 28 = 8 ∧ SAM 39 s t) ∨ (e = 0 ∧ 0 ≤ u ∧ u ≤ 127 ∧ iI s 28 ≤ 7 ∧ iO t = -2 ∧ iI t 28 = iI s 28 ∧ HAS 39 (iI s 28) u s ∧ SAM 39 s t) ∨ (e = 0 ∧ 0 ≤ u ∧ u ≤ 127 ∧ iI s 28 ≤ 7 ∧ iO t = iI s 28 + 1 ∧ iI t 28 = iI s 28 + 1 ∧ NHS 39 (iI s 28) u s ∧ UPD 39 (iI s 28) u s t))) := by
  refine ctL_of G (by decide) (Nat.le_of_ble_eq_true rfl) (by decide) rfl (fun k X E ET hRt hEx q => ?_)
  show WS k 0 [(0, .ref (A 0)), (1, .int (Int32.ofInt u)), (2, .ref (A 517))] [] _ 0 0
  have F : Fm [28] [39, 1460] s s := fm_rf _ _ s
  have aw0_39 : SAM 39 s s := sam_rf
  have hA := swA_rf A
  have b1 := bi_28 I
  refine z_aload_n X (x := A 517) rfl (List.Mem.tail _ (List.Mem.tail _ (List.Mem.head _))) (z_const X rfl (z_aload_n X (x := A 0) rfl (List.Mem.head _) (z_load_n X (x := u) rfl (List.Mem.tail _ (List.Mem.head _)) (z_callV X 0 (rm := rmN 157) (As := [.int (Int32.ofInt u)]) (st := [.int (Int32.ofInt 0), .ref (A 517)]) rfl rfl (by decide) rfl (by rw [E.1, E.2.1, E.2.2.1]; exact cs_region2 G I (by omega)) ⟨by rw [E.2.2.2]; exact (show (rmN 157).frames + 1 ≤ (rmN 332).frames by decide), by rw [E.2.2.2]; exact (show 8 + (mNL (miB 157) + 11) + (rmN 157).locals ≤ (rmN 332).locals by decide), by rw [E.2.2.2]; exact (show 0 + (rmN 157).cells ≤ (rmN 332).cells by decide), by rw [E.2.2.2]; exact (show 0 + (rmN 157).slots ≤ (rmN 332).slots by decide)⟩ (Nat.le_of_ble_eq_true rfl) (fun vv s2 hq => ?_) (fun ee s2 hq => ?_)))))
  rotate_left
  · obtain ⟨Is2, Fs2, (⟨e3, hv, hrs2, hps2⟩ | ⟨xx, hv, hps2⟩)⟩ := hq
    · cases hv
    · cases hv
      rcases (show xx = 2 by omega) with gx
      ·
        subst gx
        have Gs2 := fm_tq F Fs2 rfl rfl
        have b4 := bi_28 Is2
        refine (hEx 4 2).2 12 rfl _ _ _ _ _ (fun q1 => ?_)
        show WS k 12 [(0, .ref (A 0)), (1, .int (Int32.ofInt u)), (2, .ref (A 517))] [.ref q1] (Wd A dT s2) 1 6
        refine z_astore_n X (lv' := [(3, .ref q1), (0, .ref (A 0)), (1, .int (Int32.ofInt u)), (2, .ref (A 517))]) rfl (by decide) (fun _ h => h) (z_const X rfl ?_)
        exact w_iret X.1 q hRt rfl (ax_d X (show cdA 332 14 = some (.ireturn, 1, 0, 0, 0) from rfl)) (show 1 ≤ 1 by decide) (show 6 ≤ 6 by decide) ⟨A, _, hA, rfl, Is2, Gs2, 1, rfl, (by decide), Or.inl ⟨by decide, by omega, by omega, hps2.2.2.2⟩⟩
  obtain ⟨Is2, Fs2, (⟨e3, hv, hrs2, hps2⟩ | ⟨xx, hv, hps2⟩)⟩ := hq
  rotate_left
  · cases hv
  cases hv
  have Gs2 := fm_tq F Fs2 rfl rfl
  have b5 := bi_28 Is2
  show WS k 7 [(0, .ref (A 0)), (1, .int (Int32.ofInt u)), (2, .ref (A 517))] [.int (Int32.ofInt e3), .int (Int32.ofInt 0), .ref (A 517)] (Wd A dT s2) 1 6
  rcases hps2 with ⟨has2, hbs2, (hc | hc | hc)⟩
  ·
    refine w_i2l X.1 (ax_d X (show cdA 332 7 = some (.i2l, 1, 0, 0, 0) from rfl)) (z_last X 517 rfl (c518_ok rfl) rfl (by first | (clear hps2; omega) | omega) (show 0 < 1 by first | (clear hps2; omega) | omega) (cbig_ok rfl) (wd_gen (fun s6 hs6 => ?_)))
    have Is6 : Bd s6 := eqB hs6 (bd_D Is2)
    have Fs6 : Fm [28] [39, 1460] s s6 := by rw [hs6]; exact fm_D Gs2 (show 460 + 1000 ∈ _ by decide)
    have ws6_28 : iI s6 28 = iI s2 28 := eqI hs6 rfl
    have aws6_39 : SAM 39 s s6 := by rw [hs6]; exact hc.2.2.2
    have oos6 : iO s6 = e3 := by rw [hs6]; exact iO_u (by first | (clear hps2; omega) | omega)
    refine z_goto X (t := 15) rfl rfl (z_const X rfl ?_)
    exact w_iret X.1 q hRt rfl (ax_d X (show cdA 332 16 = some (.ireturn, 1, 0, 0, 0) from rfl)) (show 1 ≤ 1 by decide) (show 6 ≤ 6 by decide) ⟨A, _, hA, rfl, Is6, Fs6, 0, rfl, (by decide), Or.inr (Or.inl ⟨by decide, by first | (clear hps2; omega) | omega, by first | (clear hps2; omega) | omega, by first | (clear hps2; omega) | omega, by first | (clear hps2; omega) | omega, by first | (clear hps2; omega) | omega, aws6_39⟩)⟩
  ·
    refine w_i2l X.1 (ax_d X (show cdA 332 7 = some (.i2l, 1, 0, 0, 0) from rfl)) (z_last X 517 rfl (c518_ok rfl) rfl (by first | (clear hps2; omega) | omega) (show 0 < 1 by first | (clear hps2; omega) | omega) (cbig_ok rfl) (wd_gen (fun s7 hs7 => ?_)))
    have Is7 : Bd s7 := eqB hs7 (bd_D Is2)
    have Fs7 : Fm [28] [39, 1460] s s7 := by rw [hs7]; exact fm_D Gs2 (show 460 + 1000 ∈ _ by decide)
    have ws7_28 : iI s7 28 = iI s2 28 := eqI hs7 rfl
    have aws7_39 : SAM 39 s s7 := by rw [hs7]; exact hc.2.2.2.2
    have oos7 : iO s7 = e3 := by rw [hs7]; exact iO_u (by first | (clear hps2; omega) | omega)
    refine z_goto X (t := 15) rfl rfl (z_const X rfl ?_)
    exact w_iret X.1 q hRt rfl (ax_d X (show cdA 332 16 = some (.ireturn, 1, 0, 0, 0) from rfl)) (show 1 ≤ 1 by decide) (show 6 ≤ 6 by decide) ⟨A, _, hA, rfl, Is7, Fs7, 0, rfl, (by decide), Or.inr (Or.inr (Or.inl ⟨by decide, by first | (clear hps2; omega) | omega, by first | (clear hps2; omega) | omega, by first | (clear hps2; omega) | omega, by first | (clear hps2; omega) | omega, by first | (clear hps2; omega) | omega, hc.2.2.2.1, aws7_39⟩))⟩
  ·
    refine w_i2l X.1 (ax_d X (show cdA 332 7 = some (.i2l, 1, 0, 0, 0) from rfl)) (z_last X 517 rfl (c518_ok rfl) rfl (by first | (clear hps2; omega) | omega) (show 0 < 1 by first | (clear hps2; omega) | omega) (cbig_ok rfl) (wd_gen (fun s8 hs8 => ?_)))
    have Is8 : Bd s8 := eqB hs8 (bd_D Is2)
    have Fs8 : Fm [28] [39, 1460] s s8 := by rw [hs8]; exact fm_D Gs2 (show 460 + 1000 ∈ _ by decide)
    have ws8_28 : iI s8 28 = iI s2 28 := eqI hs8 rfl
    have aws8_39 : UPD 39 (iI s 28) u s s8 := by rw [hs8]; exact hc.2.2.2.2
    have oos8 : iO s8 = e3 := by rw [hs8]; exact iO_u (by first | (clear hps2; omega) | omega)
    refine z_goto X (t := 15) rfl rfl (z_const X rfl ?_)
    exact w_iret X.1 q hRt rfl (ax_d X (show cdA 332 16 = some (.ireturn, 1, 0, 0, 0) from rfl)) (show 1 ≤ 1 by decide) (show 6 ≤ 6 by decide) ⟨A, _, hA, rfl, Is8, Fs8, 0, rfl, (by decide), Or.inr (Or.inr (Or.inr (⟨by decide, by first | (clear hps2; omega) | omega, by first | (clear hps2; omega) | omega, by first | (clear hps2; omega) | omega, by first | (clear hps2; omega) | omega, by first | (clear hps2; omega) | omega, hc.2.2.2.1, aws8_39⟩)))⟩
set_option maxRecDepth 4000 in
theorem k_region2 (G : GX l s0 D tys a0 dT) (I : Bd s) {x : Int} (p0 : rng x) : CT l s0 D A dT 258 (rmN 258) [.ref (A 179), .int (Int32.ofInt x)] s (fun o t => Bd t ∧ Fm [73, 97] [234] s t ∧ ∃ e, o = .inl (some (.int (Int32.ofInt e))) ∧ rng e ∧ (((x < 0 ∨ 127 < x) ∧ iI t 73 = 1 ∧ iI t 97 = iI s 97 ∧ SAM 234 s t) ∨ (0 ≤ x ∧ x ≤ 127 ∧ iI t 73 = 0 ∧ iI s 97 = 8 ∧ e = -1 ∧ iI t 97 = 8 ∧ SAM 234 s t) ∨ (0 ≤ x ∧ x ≤ 127 ∧ iI t 73 = 0 ∧ iI s 97 ≤ 7 ∧ e = -2 ∧ iI t 97 = iI s 97 ∧ HAS 234 (iI s 97) x s ∧ SAM 234 s t) ∨ (0 ≤ x ∧ x ≤ 127 ∧ iI t 73 = 0 ∧ iI s 97 ≤ 7 ∧ e = iI s 97 + 1 ∧ iI t 97 = iI s 97 + 1 ∧ NHS 234 (iI s 97) x s ∧ UPD 234 (iI s 97) x s t))) := by
  refine ct_of G (by decide) (Nat.le_of_ble_eq_true rfl) (fun k X E hRt hXt q => ?_)
  show WS k 0 [(0, .ref (A 179)), (1, .int (Int32.ofInt x))] [] _ 0 0
  have F : Fm [73, 97] [234] s s := fm_rf _ _ s
  have aw0_234 : SAM 234 s s := sam_rf
  have b1 := bi_73 I
  have b2 := bi_97 I
  have L43 : ∀ (n : Nat) (t : PS) (x1 c : Int), Bd t → Fm [73, 97] [234] s t → (SAM 234 s t ∧ NHS 234 c x1 s) → (x1 = x ∧ (0 ≤ x1 ∧ x1 ≤ 127) ∧ 0 ≤ c ∧ c ≤ 8 ∧ iI t 97 ≤ 7 ∧ iI t 97 = iI s 97 ∧ iI t 73 = 0) → (8 - c : Int).toNat < n → (∀ (t' : PS) (c' : Int), Bd t' → Fm [73, 97] [234] s t' → (SAM 234 s t' ∧ NHS 234 c' x1 s) → (x1 = x ∧ (0 ≤ x1 ∧ x1 ≤ 127) ∧ 0 ≤ c' ∧ c' ≤ 8 ∧ iI t' 97 ≤ 7 ∧ iI t' 97 = iI s 97 ∧ iI t' 73 = 0 ∧ iI t' 97 ≤ c') → WS k 70 [(0, .ref (A 179)), (1, .int (Int32.ofInt x1)), (2, .int (Int32.ofInt c'))] [] (Wd A dT t') 0 0) → WS k 43 [(0, .ref (A 179)), (1, .int (Int32.ofInt x1)), (2, .int (Int32.ofInt c))] [] (Wd A dT t) 0 0 := by
    intro n
    induction n with
    | zero =>
      intro t x1 c I F hq hi hm kx
      exact absurd hm (Nat.not_lt_zero _)
    | succ n ih =>
      intro t x1 c I F hq hi hm kx
      have b1001 := bi_73 I
      have b1002 := bi_97 I
      refine z_load_n X (x := c) rfl (List.Mem.tail _ (List.Mem.tail _ (List.Mem.head _))) (z_aload_n X (x := A 179) rfl (List.Mem.head _) (z_getI X 179 rfl (c518_ok rfl) rfl rfl ?_))
      have b1003 := bi_97 I
      refine z_icmp_ge X (t := 70) rfl rfl ⟨by first | exact oq_fa4e5087 hi.2.2.1 | omega, by first | exact oq_d3f5d874 hi.2.2.2.1 | omega⟩ (rng_to _) (fun g1004 => ?_) (fun g1004 => ?_)
      ·
        refine WS_pq [0, 1, 2] (lv' := [(0, .ref (A 179)), (1, .int (Int32.ofInt x1)), (2, .int (Int32.ofInt c))]) rfl ?_
        exact kx _ c I F ⟨hq.1, hq.2⟩ (by first | exact ⟨hi.1, And.intro (hi.2.1.1) (hi.2.1.2), hi.2.2.1, hi.2.2.2.1, hi.2.2.2.2.1, hi.2.2.2.2.2.1, hi.2.2.2.2.2.2, g1004⟩ | omega)
      ·
        refine z_aload_n X (x := A 179) rfl (List.Mem.head _) (s_getR X 179 rfl (c518_ok rfl) rfl rfl (z_load_n X (x := c) rfl (List.Mem.tail _ (List.Mem.tail _ (List.Mem.head _))) (z_ald X 262 rfl (c518_ok rfl) rfl (by first | exact hi.2.2.1 | omega) (show c < 8 by first | exact oq_7f5b2e79 g1004 b1003.2 | omega) (cbig_ok rfl) ?_)))
        have b1005 := bc_234 I (show (c).toNat < 8 by first | exact oq_67be0351 g1004 b1003.2 | omega)
        have ar1006 : iC t 234 (c).toNat = iC s 234 (c).toNat := hq.1 _
        refine z_load_n X (x := x1) rfl (List.Mem.tail _ (List.Mem.head _)) (z_icmp_ne X (t := 64) rfl rfl (rng_to _) ⟨by first | exact oq_fa4e5087 hi.2.1.1 | omega, by first | exact oq_07d346ce hi.2.1.2 | omega⟩ (fun g1007 => ?_) (fun g1007 => ?_))
        ·
          refine z_inc X (x := c) (lv' := [(2, .int (Int32.ofInt (c + 1))), (0, .ref (A 179)), (1, .int (Int32.ofInt x1))]) rfl (by decide) (List.Mem.tail _ (List.Mem.tail _ (List.Mem.head _))) (fun _ h => h) (z_goto X (t := 43) rfl rfl (WS_pq [1, 2, 0] (lv' := [(0, .ref (A 179)), (1, .int (Int32.ofInt x1)), (2, .int (Int32.ofInt (c + 1)))]) rfl ?_))
          exact ih _ x1 (c + 1) I F ⟨hq.1, nhs_up hq.2 (by first | (clear g1007; omega) | omega) (by first | (clear g1007; omega) | omega)⟩ (by first | exact ⟨hi.1, And.intro (hi.2.1.1) (hi.2.1.2), oq_54f49eb5 hi.2.2.1, oq_f6204d84 g1004 b1003.2, hi.2.2.2.2.1, hi.2.2.2.2.2.1, hi.2.2.2.2.2.2⟩ | omega) (by first | exact qk_me hm (by decide) (oq_ccc5e5e0 g1004 b1003.2) | omega) kx
        ·
          refine z_bipush X rfl ?_
          exact w_iret X.1 q hRt rfl (ax_d X (show cdA 258 63 = some (.ireturn, 1, 0, 0, 0) from rfl)) (Nat.zero_le _) (Nat.zero_le _) ⟨_, rfl, I, F, (-2), rfl, (by decide), Or.inr (Or.inr (Or.inl ⟨by first | exact oq_151a919a hi.1 hi.2.1.1 | omega, by first | exact oq_b97c161b hi.1 hi.2.1.2 | omega, by first | exact hi.2.2.2.2.2.2 | omega, by first | exact oq_5f8273e9 hi.2.2.2.2.2.1 hi.2.2.2.2.1 | omega, by decide, by first | exact hi.2.2.2.2.2.1 | omega, hs_of c (by omega) (by omega) (by omega), hq.1⟩))⟩
  refine z_aload_n X (x := A 179) rfl (List.Mem.head _) (z_const X rfl (s_putI X 179 rfl (c518_ok rfl) rfl rfl (by decide) rfl rfl rfl (wd_gen (fun s3 hs3 => ?_))))
  have Is3 : Bd s3 := eqB hs3 (bd_I I (show (0 : Int) ≤ 0 ∧ 0 ≤ 3 by first | exact ⟨by decide, by decide⟩ | omega) (by decide))
  have Fs3 := eqF hs3 (fm_I F (inl_ok (a := 73) rfl))
  have vs3 : iI s3 73 = 0 := eqI hs3 (iI_u (by decide))
  have ws3_97 : iI s3 97 = iI s 97 := eqI hs3 rfl
  have aws3_234 : SAM 234 s s3 := by rw [hs3]; exact aw0_234
  refine z_aload_n X (x := A 179) rfl (List.Mem.head _) (z_load_n X (x := x) rfl (List.Mem.tail _ (List.Mem.head _)) (z_const X rfl (z_bipush X rfl (z_callS X (rm := rmN 188) (As := [.int (Int32.ofInt x), .int (Int32.ofInt 0), .int (Int32.ofInt 127)]) (st := [.ref (A 179)]) rfl rfl (by rw [E.1, E.2.1, E.2.2.1]; exact k_in2 G Is3 (by first | exact ⟨p0.1, p0.2⟩ | omega) (by first | exact ⟨by decide, by decide⟩ | omega) (by first | exact ⟨by decide, by decide⟩ | omega)) ⟨by rw [E.2.2.2]; exact (show (rmN 188).frames + 1 ≤ (rmN 258).frames by decide), by rw [E.2.2.2]; exact (show 8 + (mNL (miB 188) + 11) + (rmN 188).locals ≤ (rmN 258).locals by decide), by rw [E.2.2.2]; exact (show 0 + (rmN 188).cells ≤ (rmN 258).cells by decide), by rw [E.2.2.2]; exact (show 0 + (rmN 188).slots ≤ (rmN 258).slots by decide)⟩ (Nat.le_of_ble_eq_true rfl) (fun vv s4 hq => ?_) (fun ee s4 hq => ?_)))))
  rotate_left
  · obtain ⟨rfl, e5, hv, hrs4, hps4⟩ := hq; cases hv
  obtain ⟨rfl, e5, hv, hrs4, hps4⟩ := hq
  cases hv
  show WS k 13 [(0, .ref (A 179)), (1, .int (Int32.ofInt x))] [.int (Int32.ofInt e5), .ref (A 179)] (Wd A dT s3) 0 0
  have N6 : ∀ e7 : Int, (((e5 ≠ 0) ∧ e7 = 0) ∨ ((e5 = 0) ∧ e7 = 1)) → WS k 21 [(0, .ref (A 179)), (1, .int (Int32.ofInt x))] [.int (Int32.ofInt e7), .ref (A 179)] (Wd A dT s3) 0 0 := by
    intro e7 he7
    have re7 : 0 ≤ e7 ∧ e7 ≤ 1 := by first | (clear he7 hps4; omega) | (clear hps4; omega) | omega
    refine z_const X rfl (zcV_i0 X E 179 (As := [.int (Int32.ofInt e7), .int (Int32.ofInt 1)]) (st := []) rfl rfl rfl rfl (k_bad2 G Is3 (by first | exact oq_31e518ae re7.2 re7.1 | omega) (by first | exact ⟨by decide, by decide⟩ | omega)) rfl (Nat.le_of_ble_eq_true rfl) (fun s8 e9 Is8 Fs8 hrs8 hps8 => ?_))
    have Gs8 := fm_tq Fs3 Fs8 rfl rfl
    have b10 := bi_73 Is8
    have ws8_97 : iI s8 97 = iI s3 97 := fm_iq Fs8 rfl
    have aws8_234 : SAM 234 s s8 := sam_ts aws3_234 (sam_fm Fs8 (by decide))
    refine z_if_eq X (t := 30) rfl rfl hrs8 (fun g11 => ?_) (fun g11 => ?_)
    ·
      refine z_aload_n X (x := A 179) rfl (List.Mem.head _) (z_getI X 179 rfl (c518_ok rfl) rfl rfl ?_)
      have b12 := bi_97 Is8
      refine z_bipush X rfl (z_icmp_ne X (t := 41) rfl rfl (rng_to _) (by decide) (fun g13 => ?_) (fun g13 => ?_))
      ·
        refine z_const X rfl (z_store_n X (lv' := [(2, .int (Int32.ofInt 0)), (0, .ref (A 179)), (1, .int (Int32.ofInt x))]) rfl (by decide) (fun _ h => h) (WS_pq [1, 2, 0] (lv' := [(0, .ref (A 179)), (1, .int (Int32.ofInt x)), (2, .int (Int32.ofInt 0))]) rfl (L43 ((8 - 0 : Int).toNat + 1) s8 x 0 Is8 Gs8 ⟨aws8_234, nhs_0⟩ (by first | exact ⟨by decide, oq_29af1651 g11 hps8 he7 hps4 vs3, by decide, by decide, oq_5dae24e3 g13 b12.2, oq_27118732 ws3_97 ws8_97, oq_9f99e80f g11 b10.1 hps8 vs3⟩ | omega) (Nat.lt_succ_self _) ?_)))
        intro s14 x15 Is14 Fs14 Qs14 hs14
        have b16 := bi_73 Is14
        have b17 := bi_97 Is14
        refine z_aload_n X (x := A 179) rfl (List.Mem.head _) (s_getR X 179 rfl (c518_ok rfl) rfl rfl (z_aload_n X (x := A 179) rfl (List.Mem.head _) (z_getI X 179 rfl (c518_ok rfl) rfl rfl ?_)))
        have b18 := bi_97 Is14
        refine z_load_n X (x := x) rfl (List.Mem.tail _ (List.Mem.head _)) (z_ast X 262 rfl (c518_ok rfl) rfl (by first | exact b18.1 | omega) (show (iI s14 97) < 8 by first | exact oq_aaea290e hs14.2.2.2.2.1 | omega) (cbig_ok rfl) (wd_gen (fun s19 hs19 => ?_)))
        have Is19 : Bd s19 := eqB hs19 (bd_C Is14 (show (0 : Int) ≤ x ∧ x ≤ 127 by first | exact ⟨hs14.2.1.1, hs14.2.1.2⟩ | omega) ⟨by first | exact p0.1 | omega, by first | exact p0.2 | omega⟩)
        have Fs19 := eqF hs19 (fm_C Fs14 (inl_ok (a := 234) rfl))
        have ws19_73 : iI s19 73 = iI s14 73 := eqI hs19 rfl
        have ws19_97 : iI s19 97 = iI s14 97 := eqI hs19 rfl
        have aws19_234 : UPD 234 ((iI s14 97)) x s s19 := by rw [hs19]; exact upd_put Qs14.1 ⟨by first | exact p0.1 | omega, by first | exact p0.2 | omega⟩
        refine z_aload_n X (x := A 179) rfl (List.Mem.head _) (w_dup X.1 (ax_d X (show cdA 258 81 = some (.dup, 1, 0, 0, 0) from rfl)) rfl (z_getI X 179 rfl (c518_ok rfl) rfl rfl ?_))
        have b20 := bi_97 Is19
        refine z_const X rfl (z_add X rfl (s_putI X 179 rfl (c518_ok rfl) rfl rfl (by decide) rfl rfl rfl (wd_gen (fun s21 hs21 => ?_))))
        have Is21 : Bd s21 := eqB hs21 (bd_I Is19 (show (0 : Int) ≤ ((iI s19 97) + 1) ∧ ((iI s19 97) + 1) ≤ 8 by first | exact ⟨oq_54f49eb5 b20.1, oq_216077ba ws19_97 hs14.2.2.2.2.1⟩ | omega) ⟨by first | exact oq_74de1e16 b20.1 | omega, by first | exact oq_3762dfb5 b20.2 | omega⟩)
        have Fs21 := eqF hs21 (fm_I Fs19 (inl_ok (a := 97) rfl))
        have vs21 : iI s21 97 = ((iI s19 97) + 1) := eqI hs21 (iI_u ⟨by first | exact oq_74de1e16 b20.1 | omega, by first | exact oq_3762dfb5 b20.2 | omega⟩)
        have ws21_73 : iI s21 73 = iI s19 73 := eqI hs21 rfl
        have aws21_234 : UPD 234 ((iI s14 97)) x s s21 := by rw [hs21]; exact aws19_234
        refine z_aload_n X (x := A 179) rfl (List.Mem.head _) (z_getI X 179 rfl (c518_ok rfl) rfl rfl ?_)
        have b22 := bi_97 Is21
        exact w_iret X.1 q hRt rfl (ax_d X (show cdA 258 94 = some (.ireturn, 1, 0, 0, 0) from rfl)) (Nat.zero_le _) (Nat.zero_le _) ⟨_, rfl, Is21, Fs21, (iI s21 97), rfl, (rng_to _), Or.inr (Or.inr (Or.inr (⟨by first | exact hs14.2.1.1 | omega, by first | exact hs14.2.1.2 | omega, by first | exact oq_7fe879e0 ws21_73 ws19_73 hs14.2.2.2.2.2.2.1 b16.1 | omega, by first | exact oq_5f8273e9 hs14.2.2.2.2.2.1 hs14.2.2.2.2.1 | omega, by first | exact oq_869f4f0c vs21 hs14.2.2.2.2.2.1 ws19_97 | omega, by first | exact oq_869f4f0c vs21 hs14.2.2.2.2.2.1 ws19_97 | omega, nhs_le (Qs14.2) (by first | (clear g13 hps8 he7 hps4; omega) | (clear hps8 he7 hps4; omega) | omega), upd_ix aws21_234 (by first | (clear g13 hps8 he7 hps4; omega) | (clear hps8 he7 hps4; omega) | omega)⟩)))⟩
      ·
        refine z_const X rfl ?_
        exact w_iret X.1 q hRt rfl (ax_d X (show cdA 258 40 = some (.ireturn, 1, 0, 0, 0) from rfl)) (Nat.zero_le _) (Nat.zero_le _) ⟨_, rfl, Is8, Gs8, (-1), rfl, (by decide), Or.inr (Or.inl ⟨by first | exact oq_c0af69ba g11 hps8 he7 hps4 vs3 | omega, by first | exact oq_6404d05d g11 hps8 he7 hps4 vs3 | omega, by first | exact oq_9f99e80f g11 b10.1 hps8 vs3 | omega, by first | exact oq_4c3c6c9d b2.2 ws3_97 ws8_97 g13 | omega, by decide, by first | exact g13 | omega, aws8_234⟩)⟩
    ·
      refine z_const X rfl ?_
      exact w_iret X.1 q hRt rfl (ax_d X (show cdA 258 29 = some (.ireturn, 1, 0, 0, 0) from rfl)) (Nat.zero_le _) (Nat.zero_le _) ⟨_, rfl, Is8, Gs8, 0, rfl, (by decide), Or.inl ⟨by first | exact oq_2d4c9f41 g11 hps8 he7 hps4 vs3 | omega, by first | exact oq_58a3c280 g11 hps8 vs3 | omega, by first | exact oq_1aa5be9e ws8_97 ws3_97 | omega, aws8_234⟩⟩
  refine z_if_ne X (t := 20) rfl rfl hrs4 (fun g23 => ?_) (fun g23 => ?_)
  ·
    exact z_const X rfl (N6 _ (Or.inl ⟨g23, rfl⟩))
  ·
    exact z_const X rfl (z_goto X (t := 21) rfl rfl (N6 _ (Or.inr (⟨g23, rfl⟩))))
set_option maxRecDepth 4000 in
theorem k_clear2 (G : GX l s0 D tys a0 dT) (I : Bd s)  : CT l s0 D A dT 259 (rmN 259) [.ref (A 179)] s (fun o t => Bd t ∧ Fm [73, 97] [] s t ∧ ∃ e, o = .inl (some (.int (Int32.ofInt e))) ∧ rng e ∧ (e = iI s 97 ∧ iI t 97 = 0)) := by
  refine ct_of G (by decide) (Nat.le_of_ble_eq_true rfl) (fun k X E hRt hXt q => ?_)
  show WS k 0 [(0, .ref (A 179))] [] _ 0 0
  have F : Fm [73, 97] [] s s := fm_rf _ _ s
  have b1 := bi_73 I
  have b2 := bi_97 I
  refine z_aload_n X (x := A 179) rfl (List.Mem.head _) (z_const X rfl (s_putI X 179 rfl (c518_ok rfl) rfl rfl (by decide) rfl rfl rfl (wd_gen (fun s3 hs3 => ?_))))
  have Is3 : Bd s3 := eqB hs3 (bd_I I (show (0 : Int) ≤ 0 ∧ 0 ≤ 3 by first | exact ⟨by decide, by decide⟩ | omega) (by decide))
  have Fs3 := eqF hs3 (fm_I F (inl_ok (a := 73) rfl))
  have vs3 : iI s3 73 = 0 := eqI hs3 (iI_u (by decide))
  have ws3_97 : iI s3 97 = iI s 97 := eqI hs3 rfl
  refine z_aload_n X (x := A 179) rfl (List.Mem.head _) (z_getI X 179 rfl (c518_ok rfl) rfl rfl ?_)
  have b4 := bi_97 Is3
  refine z_store_n X (lv' := [(1, .int (Int32.ofInt (iI s3 97))), (0, .ref (A 179))]) rfl (by decide) (fun _ h => h) (z_aload_n X (x := A 179) rfl (List.Mem.tail _ (List.Mem.head _)) (z_const X rfl (s_putI X 179 rfl (c518_ok rfl) rfl rfl (by decide) rfl rfl rfl (wd_gen (fun s5 hs5 => ?_)))))
  have Is5 : Bd s5 := eqB hs5 (bd_I Is3 (show (0 : Int) ≤ 0 ∧ 0 ≤ 8 by first | exact ⟨by decide, by decide⟩ | omega) (by decide))
  have Fs5 := eqF hs5 (fm_I Fs3 (inl_ok (a := 97) rfl))
  have vs5 : iI s5 97 = 0 := eqI hs5 (iI_u (by decide))
  have ws5_73 : iI s5 73 = iI s3 73 := eqI hs5 rfl
  refine z_load_n X (x := (iI s3 97)) rfl (List.Mem.head _) ?_
  exact w_iret X.1 q hRt rfl (ax_d X (show cdA 259 16 = some (.ireturn, 1, 0, 0, 0) from rfl)) (Nat.zero_le _) (Nat.zero_le _) ⟨_, rfl, Is5, Fs5, (iI s3 97), rfl, (rng_to _), by first | exact ⟨ws3_97, vs5⟩ | omega⟩
set_option maxRecDepth 4000 in
theorem cs_clear2 (G : GX l s0 D tys a0 dT) (I : Bd s)  : CT l s0 D A dT 159 (rmN 159) [.ref (A 0)] s (fun o t => Bd t ∧ Fm [28] [] s t ∧ ∃ e, o = .inl (some (.int (Int32.ofInt e))) ∧ rng e ∧ (e = iI s 28 ∧ iI t 28 = 0)) := by
  refine ct_ofX G (by decide) (Nat.le_of_ble_eq_true rfl) (fun k X E ET hRt hXt q => ?_)
  show WS k 0 [(0, .ref (A 0))] [] _ 0 0
  have F : Fm [28] [] s s := fm_rf _ _ s
  have b1 := bi_28 I
  refine z_aload_n X (x := A 0) rfl (List.Mem.head _) (s_getR X 0 rfl (c518_ok rfl) rfl rfl (z_getI X 46 rfl (c518_ok rfl) rfl rfl ?_))
  have b2 := bi_28 I
  refine z_store_n X (lv' := [(1, .int (Int32.ofInt (iI s 28))), (0, .ref (A 0))]) rfl (by decide) (fun _ h => h) (z_aload_n X (x := A 0) rfl (List.Mem.tail _ (List.Mem.head _)) (s_getR X 0 rfl (c518_ok rfl) rfl rfl (z_const X rfl (s_putI X 46 rfl (c518_ok rfl) rfl rfl (by decide) rfl rfl rfl (wd_gen (fun s3 hs3 => ?_))))))
  have Is3 : Bd s3 := eqB hs3 (bd_I I (show (0 : Int) ≤ 0 ∧ 0 ≤ 8 by first | exact ⟨by decide, by decide⟩ | omega) (by decide))
  have Fs3 := eqF hs3 (fm_I F (inl_ok (a := 28) rfl))
  have vs3 : iI s3 28 = 0 := eqI hs3 (iI_u (by decide))
  refine z_load_n X (x := (iI s 28)) rfl (List.Mem.head _) ?_
  exact w_iret X.1 q hRt rfl (ax_d X (show cdA 159 17 = some (.ireturn, 1, 0, 0, 0) from rfl)) (Nat.zero_le _) (Nat.zero_le _) ⟨_, rfl, Is3, Fs3, (iI s 28), rfl, (rng_to _), by first | exact ⟨by decide, vs3⟩ | omega⟩
set_option maxRecDepth 4000 in
theorem c8_isShut2 (G : GX l s0 D tys a0 dT) (I : Bd s) {x : Int} (p0 : 0 ≤ x ∧ x ≤ 127) : CT l s0 D A dT 88 (rmN 88) [.ref (A 67), .int (Int32.ofInt x)] s (fun o t => s = t ∧ ∃ e, o = .inl (some (.int (Int32.ofInt e))) ∧ rng e ∧ (((e = 1 ∧ SB x s) ∨ (e = 0 ∧ ¬ SB x s)))) := by
  refine ct_ofX G (by decide) (Nat.le_of_ble_eq_true rfl) (fun k X E ET hRt hXt q => ?_)
  show WS k 0 [(0, .ref (A 67)), (1, .int (Int32.ofInt x))] [] _ 0 0
  have F : Fm [] [] s s := fm_rf _ _ s
  refine z_load_n X (x := x) rfl (List.Mem.tail _ (List.Mem.head _)) (z_bipush X rfl (z_icmp_ge X (t := 13) rfl rfl ⟨by first | exact oq_fa4e5087 p0.1 | omega, by first | exact oq_07d346ce p0.2 | omega⟩ (by decide) (fun g1 => ?_) (fun g1 => ?_)))
  ·
    refine z_aload_n X (x := A 67) rfl (List.Mem.head _) (s_getJ X 67 rfl (c518_ok rfl) rfl rfl (z_load_n X (x := x) rfl (List.Mem.tail _ (List.Mem.head _)) (z_bipush X rfl (z_and63 X rfl (by omega) (z_jushr X rfl (w_lconst X.1 (ax_d X (show cdA 88 22 = some (.lconst 1, 1, 0, 0, 0) from rfl)) (z := (1 : Int64)) (by decide) (w_land X.1 (ax_d X (show cdA 88 23 = some (.land, 1, 0, 0, 0) from rfl)) (w_lconst X.1 (ax_d X (show cdA 88 24 = some (.lconst 0, 1, 0, 0, 0) from rfl)) (z := (0 : Int64)) (by decide) (z_jcmp X rfl (fun z2 => ?_) (fun z2 c3 hc3 ic3 => ?_))))))))))
    ·
      refine z_if_eq X (t := 33) rfl rfl (by decide) (fun g4 => ?_) (fun g4 => ?_)
      ·
        refine z_const X rfl ?_
        exact w_iret X.1 q hRt (nar_ret (by first | exact Or.inl (by decide) | omega)) (ax_d X (show cdA 88 34 = some (.ireturn, 1, 0, 0, 0) from rfl)) (Nat.zero_le _) (Nat.zero_le _) ⟨_, rfl, rfl, 0, rfl, (by decide), Or.inr ⟨rfl, (sb_of (by omega) (Or.inr ⟨by omega, rfl⟩)).mp z2⟩⟩
      ·
        exfalso
        omega
    ·
      refine z_if_eq X (t := 33) rfl rfl ⟨by omega, by omega⟩ (fun g5 => ?_) (fun g5 => ?_)
      ·
        refine z_const X rfl ?_
        exact w_iret X.1 q hRt (nar_ret (by first | exact Or.inl (by decide) | omega)) (ax_d X (show cdA 88 34 = some (.ireturn, 1, 0, 0, 0) from rfl)) (Nat.zero_le _) (Nat.zero_le _) ⟨_, rfl, rfl, 0, rfl, (by decide), by omega⟩
      ·
        refine z_const X rfl (z_goto X (t := 34) rfl rfl ?_)
        exact w_iret X.1 q hRt (nar_ret (by first | exact Or.inr (by decide) | omega)) (ax_d X (show cdA 88 34 = some (.ireturn, 1, 0, 0, 0) from rfl)) (Nat.zero_le _) (Nat.zero_le _) ⟨_, rfl, rfl, 1, rfl, (by decide), Or.inl ⟨rfl, Classical.byContradiction (fun q => z2 ((sb_of (by first | (clear g5; omega) | omega) (Or.inr ⟨by first | (clear g5; omega) | omega, rfl⟩)).mpr q))⟩⟩
  ·
    refine z_aload_n X (x := A 67) rfl (List.Mem.head _) (s_getJ X 67 rfl (c518_ok rfl) rfl rfl (z_goto X (t := 17) rfl rfl (z_load_n X (x := x) rfl (List.Mem.tail _ (List.Mem.head _)) (z_bipush X rfl (z_and63 X rfl (by omega) (z_jushr X rfl (w_lconst X.1 (ax_d X (show cdA 88 22 = some (.lconst 1, 1, 0, 0, 0) from rfl)) (z := (1 : Int64)) (by decide) (w_land X.1 (ax_d X (show cdA 88 23 = some (.land, 1, 0, 0, 0) from rfl)) (w_lconst X.1 (ax_d X (show cdA 88 24 = some (.lconst 0, 1, 0, 0, 0) from rfl)) (z := (0 : Int64)) (by decide) (z_jcmp X rfl (fun z6 => ?_) (fun z6 c7 hc7 ic7 => ?_)))))))))))
    ·
      refine z_if_eq X (t := 33) rfl rfl (by decide) (fun g8 => ?_) (fun g8 => ?_)
      ·
        refine z_const X rfl ?_
        exact w_iret X.1 q hRt (nar_ret (by first | exact Or.inl (by decide) | omega)) (ax_d X (show cdA 88 34 = some (.ireturn, 1, 0, 0, 0) from rfl)) (Nat.zero_le _) (Nat.zero_le _) ⟨_, rfl, rfl, 0, rfl, (by decide), Or.inr ⟨rfl, (sb_of (by omega) (Or.inl ⟨by omega, rfl⟩)).mp z6⟩⟩
      ·
        exfalso
        omega
    ·
      refine z_if_eq X (t := 33) rfl rfl ⟨by omega, by omega⟩ (fun g9 => ?_) (fun g9 => ?_)
      ·
        refine z_const X rfl ?_
        exact w_iret X.1 q hRt (nar_ret (by first | exact Or.inl (by decide) | omega)) (ax_d X (show cdA 88 34 = some (.ireturn, 1, 0, 0, 0) from rfl)) (Nat.zero_le _) (Nat.zero_le _) ⟨_, rfl, rfl, 0, rfl, (by decide), by omega⟩
      ·
        refine z_const X rfl (z_goto X (t := 34) rfl rfl ?_)
        exact w_iret X.1 q hRt (nar_ret (by first | exact Or.inr (by decide) | omega)) (ax_d X (show cdA 88 34 = some (.ireturn, 1, 0, 0, 0) from rfl)) (Nat.zero_le _) (Nat.zero_le _) ⟨_, rfl, rfl, 1, rfl, (by decide), Or.inl ⟨rfl, Classical.byContradiction (fun q => z6 ((sb_of (by first | (clear g9; omega) | omega) (Or.inl ⟨by first | (clear g9; omega) | omega, rfl⟩)).mpr q))⟩⟩
set_option maxRecDepth 4000 in
theorem c8_shut2 (G : GX l s0 D tys a0 dT) (I : Bd s) {x y : Int} (p0 : 0 ≤ x ∧ x ≤ 127) (p1 : y = 0 ∨ y = 1) : CT l s0 D A dT 87 (rmN 87) [.ref (A 67), .int (Int32.ofInt x), .int (Int32.ofInt y)] s (fun o t => Bd t ∧ Fm [1000, 1001] [] s t ∧ ∃ e, o = .inl (some (.int (Int32.ofInt e))) ∧ rng e ∧ (((e = 1 ∧ SB x s) ∨ (e = 0 ∧ ¬ SB x s)) ∧ SBU x y s t)) := by
  refine ct_ofX G (by decide) (Nat.le_of_ble_eq_true rfl) (fun k X E ET hRt hXt q => ?_)
  show WS k 0 [(0, .ref (A 67)), (1, .int (Int32.ofInt x)), (2, .int (Int32.ofInt y))] [] _ 0 0
  have F : Fm [1000, 1001] [] s s := fm_rf _ _ s
  refine z_aload_n X (x := A 67) rfl (List.Mem.head _) (z_load_n X (x := x) rfl (List.Mem.tail _ (List.Mem.head _)) (z_callV X 67 (rm := rmN 88) (As := [.int (Int32.ofInt x)]) (st := []) rfl rfl (by decide) rfl (by rw [E.1, E.2.1, E.2.2.1]; exact c8_isShut2 G I (by first | exact ⟨p0.1, p0.2⟩ | omega)) ⟨by rw [E.2.2.2]; exact (show (rmN 88).frames + 1 ≤ (rmN 87).frames by decide), by rw [E.2.2.2]; exact (show 8 + (mNL (miB 88) + 11) + (rmN 88).locals ≤ (rmN 87).locals by decide), by rw [E.2.2.2]; exact (show 0 + (rmN 88).cells ≤ (rmN 87).cells by decide), by rw [E.2.2.2]; exact (show 0 + (rmN 88).slots ≤ (rmN 87).slots by decide)⟩ (Nat.le_of_ble_eq_true rfl) (fun vv s1 hq => ?_) (fun ee s1 hq => ?_)))
  rotate_left
  · obtain ⟨rfl, e2, hv, hrs1, hps1⟩ := hq; cases hv
  obtain ⟨rfl, e2, hv, hrs1, hps1⟩ := hq
  cases hv
  show WS k 5 [(0, .ref (A 67)), (1, .int (Int32.ofInt x)), (2, .int (Int32.ofInt y))] [.int (Int32.ofInt e2)] (Wd A dT s) 0 0
  refine z_store_n X (lv' := [(3, .int (Int32.ofInt e2)), (0, .ref (A 67)), (1, .int (Int32.ofInt x)), (2, .int (Int32.ofInt y))]) rfl (by decide) (fun _ h => h) (z_load_n X (x := e2) rfl (List.Mem.head _) (z_load_n X (x := y) rfl (List.Mem.tail _ (List.Mem.tail _ (List.Mem.tail _ (List.Mem.head _)))) (z_icmp_ne X (t := 15) rfl rfl hrs1 ⟨by first | exact oq_bde653e9 p1 | omega, by first | exact oq_4ad2cb8b p1 | omega⟩ (fun g3 => ?_) (fun g3 => ?_))))
  ·
    refine w_lconst X.1 (ax_d X (show cdA 87 15 = some (.lconst 1, 1, 0, 0, 0) from rfl)) (z := (1 : Int64)) (by decide) (z_load_n X (x := x) rfl (List.Mem.tail _ (List.Mem.tail _ (List.Mem.head _))) (z_bipush X rfl (z_and63 X rfl (by first | (clear g3 hps1 p1; omega) | (clear hps1 p1; omega) | omega) (z_jshl X rfl (w_lstore X.1 (lv' := [(4, .long (jshl (1 : Int64) (x % 64))), (3, .int (Int32.ofInt e2)), (0, .ref (A 67)), (1, .int (Int32.ofInt x)), (2, .int (Int32.ofInt y))]) (ax_d X (show cdA 87 21 = some (.lstore 4, 2, 0, 0, 0) from rfl)) (by rw [X.2.1.2.2]; decide) (fun _ h => h) (z_load_n X (x := x) rfl (List.Mem.tail _ (List.Mem.tail _ (List.Mem.tail _ (List.Mem.head _)))) (z_bipush X rfl (z_icmp_ge X (t := 43) rfl rfl ⟨by first | exact oq_fa4e5087 p0.1 | omega, by first | exact oq_07d346ce p0.2 | omega⟩ (by decide) (fun g4 => ?_) (fun g4 => ?_)))))))))
    ·
      refine z_aload_n X (x := A 67) rfl (List.Mem.tail _ (List.Mem.tail _ (List.Mem.head _))) (w_dup X.1 (ax_d X (show cdA 87 44 = some (.dup, 1, 0, 0, 0) from rfl)) rfl (s_getJ X 67 rfl (c518_ok rfl) rfl rfl (w_lload X.1 (ax_d X (show cdA 87 48 = some (.lload 4, 2, 0, 0, 0) from rfl)) (x := (jshl (1 : Int64) (x % 64))) (List.Mem.head _) (w_lxor X.1 (ax_d X (show cdA 87 50 = some (.lxor, 1, 0, 0, 0) from rfl)) (s_putJ X 67 rfl (c518_ok rfl) rfl rfl (by decide) rfl rfl rfl (wd_gen (fun s5 hs5 => ?_)))))))
      have Is5 : Bd s5 := eqB hs5 (bd_J I)
      have Fs5 : Fm [1000, 1001] [] s s5 := by rw [hs5]; exact fm_J F (show 1 + 1000 ∈ _ by decide)
      refine z_load_n X (x := e2) rfl (List.Mem.tail _ (List.Mem.head _)) ?_
      exact w_iret X.1 q hRt (nar_ret (by first | (clear g3 hps1 p1; omega) | (clear hps1 p1; omega) | omega)) (ax_d X (show cdA 87 55 = some (.ireturn, 1, 0, 0, 0) from rfl)) (Nat.zero_le _) (Nat.zero_le _) ⟨_, rfl, Is5, Fs5, e2, rfl, hrs1, ⟨hps1, by rw [hs5]; exact sbu_h1 (by first | (clear g3 hps1 p1; omega) | (clear hps1 p1; omega) | omega) hps1 p1 (by first | (clear g3 hps1 p1; omega) | (clear hps1 p1; omega) | omega)⟩⟩
    ·
      refine z_aload_n X (x := A 67) rfl (List.Mem.tail _ (List.Mem.tail _ (List.Mem.head _))) (w_dup X.1 (ax_d X (show cdA 87 30 = some (.dup, 1, 0, 0, 0) from rfl)) rfl (s_getJ X 67 rfl (c518_ok rfl) rfl rfl (w_lload X.1 (ax_d X (show cdA 87 34 = some (.lload 4, 2, 0, 0, 0) from rfl)) (x := (jshl (1 : Int64) (x % 64))) (List.Mem.head _) (w_lxor X.1 (ax_d X (show cdA 87 36 = some (.lxor, 1, 0, 0, 0) from rfl)) (s_putJ X 67 rfl (c518_ok rfl) rfl rfl (by decide) rfl rfl rfl (wd_gen (fun s6 hs6 => ?_)))))))
      have Is6 : Bd s6 := eqB hs6 (bd_J I)
      have Fs6 : Fm [1000, 1001] [] s s6 := by rw [hs6]; exact fm_J F (show 0 + 1000 ∈ _ by decide)
      refine z_goto X (t := 54) rfl rfl (z_load_n X (x := e2) rfl (List.Mem.tail _ (List.Mem.head _)) ?_)
      exact w_iret X.1 q hRt (nar_ret (by first | (clear g3 hps1 p1; omega) | (clear hps1 p1; omega) | omega)) (ax_d X (show cdA 87 55 = some (.ireturn, 1, 0, 0, 0) from rfl)) (Nat.zero_le _) (Nat.zero_le _) ⟨_, rfl, Is6, Fs6, e2, rfl, hrs1, ⟨hps1, by rw [hs6]; exact sbu_l1 (by first | (clear g3 hps1 p1; omega) | (clear hps1 p1; omega) | omega) hps1 p1 (by first | (clear g3 hps1 p1; omega) | (clear hps1 p1; omega) | omega)⟩⟩
  ·
    refine w_lconst X.1 (ax_d X (show cdA 87 11 = some (.lconst 0, 1, 0, 0, 0) from rfl)) (z := (0 : Int64)) (by decide) (z_goto X (t := 21) rfl rfl (w_lstore X.1 (lv' := [(4, .long (0 : Int64)), (3, .int (Int32.ofInt e2)), (0, .ref (A 67)), (1, .int (Int32.ofInt x)), (2, .int (Int32.ofInt y))]) (ax_d X (show cdA 87 21 = some (.lstore 4, 2, 0, 0, 0) from rfl)) (by rw [X.2.1.2.2]; decide) (fun _ h => h) (z_load_n X (x := x) rfl (List.Mem.tail _ (List.Mem.tail _ (List.Mem.tail _ (List.Mem.head _)))) (z_bipush X rfl (z_icmp_ge X (t := 43) rfl rfl ⟨by first | exact oq_fa4e5087 p0.1 | omega, by first | exact oq_07d346ce p0.2 | omega⟩ (by decide) (fun g7 => ?_) (fun g7 => ?_))))))
    ·
      refine z_aload_n X (x := A 67) rfl (List.Mem.tail _ (List.Mem.tail _ (List.Mem.head _))) (w_dup X.1 (ax_d X (show cdA 87 44 = some (.dup, 1, 0, 0, 0) from rfl)) rfl (s_getJ X 67 rfl (c518_ok rfl) rfl rfl (w_lload X.1 (ax_d X (show cdA 87 48 = some (.lload 4, 2, 0, 0, 0) from rfl)) (x := (0 : Int64)) (List.Mem.head _) (w_lxor X.1 (ax_d X (show cdA 87 50 = some (.lxor, 1, 0, 0, 0) from rfl)) (s_putJ X 67 rfl (c518_ok rfl) rfl rfl (by decide) rfl rfl rfl (wd_gen (fun s8 hs8 => ?_)))))))
      have Is8 : Bd s8 := eqB hs8 (bd_J I)
      have Fs8 : Fm [1000, 1001] [] s s8 := by rw [hs8]; exact fm_J F (show 1 + 1000 ∈ _ by decide)
      refine z_load_n X (x := e2) rfl (List.Mem.tail _ (List.Mem.head _)) ?_
      exact w_iret X.1 q hRt (nar_ret (by first | exact oq_8ca45d8a g3 p1 | omega)) (ax_d X (show cdA 87 55 = some (.ireturn, 1, 0, 0, 0) from rfl)) (Nat.zero_le _) (Nat.zero_le _) ⟨_, rfl, Is8, Fs8, e2, rfl, hrs1, ⟨hps1, by rw [hs8]; exact sbu_h0 (by first | (clear hps1 p1; omega) | (clear p1; omega) | omega) hps1 (by first | (clear hps1 p1; omega) | (clear p1; omega) | omega)⟩⟩
    ·
      refine z_aload_n X (x := A 67) rfl (List.Mem.tail _ (List.Mem.tail _ (List.Mem.head _))) (w_dup X.1 (ax_d X (show cdA 87 30 = some (.dup, 1, 0, 0, 0) from rfl)) rfl (s_getJ X 67 rfl (c518_ok rfl) rfl rfl (w_lload X.1 (ax_d X (show cdA 87 34 = some (.lload 4, 2, 0, 0, 0) from rfl)) (x := (0 : Int64)) (List.Mem.head _) (w_lxor X.1 (ax_d X (show cdA 87 36 = some (.lxor, 1, 0, 0, 0) from rfl)) (s_putJ X 67 rfl (c518_ok rfl) rfl rfl (by decide) rfl rfl rfl (wd_gen (fun s9 hs9 => ?_)))))))
      have Is9 : Bd s9 := eqB hs9 (bd_J I)
      have Fs9 : Fm [1000, 1001] [] s s9 := by rw [hs9]; exact fm_J F (show 0 + 1000 ∈ _ by decide)
      refine z_goto X (t := 54) rfl rfl (z_load_n X (x := e2) rfl (List.Mem.tail _ (List.Mem.head _)) ?_)
      exact w_iret X.1 q hRt (nar_ret (by first | exact oq_8ca45d8a g3 p1 | omega)) (ax_d X (show cdA 87 55 = some (.ireturn, 1, 0, 0, 0) from rfl)) (Nat.zero_le _) (Nat.zero_le _) ⟨_, rfl, Is9, Fs9, e2, rfl, hrs1, ⟨hps1, by rw [hs9]; exact sbu_l0 (by first | (clear hps1 p1; omega) | (clear p1; omega) | omega) hps1 (by first | (clear hps1 p1; omega) | (clear p1; omega) | omega)⟩⟩
set_option maxRecDepth 4000 in
set_option maxRecDepth 4000 in
theorem cs_storm2 (G : GX l s0 D tys a0 dT) (I : Bd s) {u w : Int} (p0 : rng u) (p1 : w = 0 ∨ w = 1) : CT l s0 D A dT 169 (rmN 169) [.ref (A 0), .int (Int32.ofInt u), .int (Int32.ofInt w)] s (fun o t => Bd t ∧ Fm [1000, 1001] [] s t ∧ ((∃ e, o = .inl (some (.int (Int32.ofInt e))) ∧ rng e ∧ (0 ≤ u ∧ u ≤ 127 ∧ ((e = 1 ∧ SB u s) ∨ (e = 0 ∧ ¬ SB u s)) ∧ SBU u w s t)) ∨ ∃ x : Nat, o = .inr (exN x) ∧ (x = 2 ∧ (u < 0 ∨ 127 < u) ∧ SBS s t))) := by
  refine ct_ofX G (by decide) (Nat.le_of_ble_eq_true rfl) (fun k X E ET hRt hXt q => ?_)
  show WS k 0 [(0, .ref (A 0)), (1, .int (Int32.ofInt u)), (2, .int (Int32.ofInt w))] [] _ 0 0
  have F : Fm [1000, 1001] [] s s := fm_rf _ _ s
  refine z_aload_n X (x := A 0) rfl (List.Mem.head _) (z_load_n X (x := u) rfl (List.Mem.tail _ (List.Mem.head _)) (z_callV X 0 (rm := rmN 181) (As := [.int (Int32.ofInt u)]) (st := []) rfl rfl (by decide) rfl (by rw [E.1, E.2.1, E.2.2.1]; exact cs_needCell2 G I (by first | exact ⟨p0.1, p0.2⟩ | omega)) ⟨by rw [E.2.2.2]; exact (show (rmN 181).frames + 1 ≤ (rmN 169).frames by decide), by rw [E.2.2.2]; exact (show 8 + (mNL (miB 181) + 11) + (rmN 181).locals ≤ (rmN 169).locals by decide), by rw [E.2.2.2]; exact (show 0 + 1 ≤ 1 by decide), by rw [E.2.2.2]; exact (show 0 + 6 ≤ 6 by decide)⟩ (Nat.le_of_ble_eq_true rfl) (fun vv s1 hq => ?_) (fun ee s1 hq => ?_)))
  rotate_left
  · obtain ⟨Is1, Fs1, (⟨hv, hps1⟩ | ⟨xx, hv, hps1⟩)⟩ := hq
    · cases hv
    · cases hv
      have Gs1 := fm_tq F Fs1 rfl rfl
      exact x_out X.1 q (fun x hx => (hXt x hx).elim) (show 1 ≤ 1 by decide) (show 6 ≤ 6 by decide) ⟨_, rfl, Is1, Gs1, Or.inr ⟨xx, rfl, ⟨by first | (clear p1; omega) | omega, by first | (clear p1; omega) | omega, sbs_fm Fs1 (by decide)⟩⟩⟩
  obtain ⟨Is1, Fs1, (⟨hv, hps1⟩ | ⟨xx, hv, hps1⟩)⟩ := hq
  rotate_left
  · cases hv
  cases hv
  have Gs1 := fm_tq F Fs1 rfl rfl
  have eTs1 := hps1.2.2
  subst eTs1
  show WS k 5 [(0, .ref (A 0)), (1, .int (Int32.ofInt u)), (2, .int (Int32.ofInt w))] [] (Wd A dT s) 1 6
  refine z_aload_n X (x := A 0) rfl (List.Mem.head _) (s_getR X 0 rfl (c518_ok rfl) rfl rfl (z_load_n X (x := u) rfl (List.Mem.tail _ (List.Mem.head _)) (z_load_n X (x := w) rfl (List.Mem.tail _ (List.Mem.tail _ (List.Mem.head _))) (z_callV X 67 (rm := rmN 87) (As := [.int (Int32.ofInt u), .int (Int32.ofInt w)]) (st := []) rfl rfl (by decide) rfl (by rw [E.1, E.2.1, E.2.2.1]; exact c8_shut2 G Is1 (by first | exact ⟨hps1.1, hps1.2.1⟩ | omega) (by first | exact p1 | omega)) ⟨by rw [E.2.2.2]; exact (show (rmN 87).frames + 1 ≤ (rmN 169).frames by decide), by rw [E.2.2.2]; exact (show 8 + (mNL (miB 87) + 11) + (rmN 87).locals ≤ (rmN 169).locals by decide), by rw [E.2.2.2]; exact (show 1 + 0 ≤ 1 by decide), by rw [E.2.2.2]; exact (show 6 + 0 ≤ 6 by decide)⟩ (Nat.le_of_ble_eq_true rfl) (fun vv s3 hq => ?_) (fun ee s3 hq => ?_)))))
  rotate_left
  · obtain ⟨Is3, Fs3, e4, hv, hrs3, hps3⟩ := hq; cases hv
  obtain ⟨Is3, Fs3, e4, hv, hrs3, hps3⟩ := hq
  have hps3p := hps3.2
  cases hv
  have Gs3 := fm_tq Gs1 Fs3 rfl rfl
  show WS k 14 [(0, .ref (A 0)), (1, .int (Int32.ofInt u)), (2, .int (Int32.ofInt w))] [.int (Int32.ofInt e4)] (Wd A dT s3) 1 6
  exact w_iret X.1 q hRt (nar_ret (by first | (clear hps3 hps1 p1; omega) | (clear hps1 p1; omega) | omega)) (ax_d X (show cdA 169 14 = some (.ireturn, 1, 0, 0, 0) from rfl)) (show 1 ≤ 1 by decide) (show 6 ≤ 6 by decide) ⟨_, rfl, Is3, Gs3, Or.inl ⟨e4, rfl, hrs3, ⟨by first | exact hps1.1 | omega, by first | exact hps1.2.1 | omega, hps3⟩⟩⟩
set_option maxRecDepth 4000 in
theorem lw_storm2 (G : GX l s0 D tys a0 dT) (I : Bd s) {u w : Int} (p0 : rng u) (p1 : w = 0 ∨ w = 1) : CTL l s0 D A dT 343 (rmN 343) [.ref (A 0), .int (Int32.ofInt u), .int (Int32.ofInt w), .ref (A 517)] s (fun o t => Bd t ∧ Fm [1000, 1001] [1460] s t ∧ ∃ e, o = .inl (some (.int (Int32.ofInt e))) ∧ rng e ∧ ((e = 1 ∧ (u < 0 ∨ 127 < u) ∧ SBS s t) ∨ (e = 0 ∧ 0 ≤ u ∧ u ≤ 127 ∧ ((iO t = 1 ∧ SB u s) ∨ (iO t = 0 ∧ ¬ SB u s)) ∧ SBU u w s t))) := by
  refine ctL_of G (by decide) (Nat.le_of_ble_eq_true rfl) (by decide) rfl (fun k X E ET hRt hEx q => ?_)
  show WS k 0 [(0, .ref (A 0)), (1, .int (Int32.ofInt u)), (2, .int (Int32.ofInt w)), (3, .ref (A 517))] [] _ 0 0
  have F : Fm [1000, 1001] [1460] s s := fm_rf _ _ s
  have hA := swA_rf A
  refine z_aload_n X (x := A 517) rfl (List.Mem.tail _ (List.Mem.tail _ (List.Mem.tail _ (List.Mem.head _)))) (z_const X rfl (z_aload_n X (x := A 0) rfl (List.Mem.head _) (z_load_n X (x := u) rfl (List.Mem.tail _ (List.Mem.head _)) (z_load_n X (x := w) rfl (List.Mem.tail _ (List.Mem.tail _ (List.Mem.head _))) (z_callV X 0 (rm := rmN 169) (As := [.int (Int32.ofInt u), .int (Int32.ofInt w)]) (st := [.int (Int32.ofInt 0), .ref (A 517)]) rfl rfl (by decide) rfl (by rw [E.1, E.2.1, E.2.2.1]; exact cs_storm2 G I (by first | (clear p1; omega) | omega) (by first | (clear p1; omega) | omega)) ⟨by rw [E.2.2.2]; exact (show (rmN 169).frames + 1 ≤ (rmN 343).frames by decide), by rw [E.2.2.2]; exact (show 8 + (mNL (miB 169) + 11) + (rmN 169).locals ≤ (rmN 343).locals by decide), by rw [E.2.2.2]; exact (show 0 + (rmN 169).cells ≤ (rmN 343).cells by decide), by rw [E.2.2.2]; exact (show 0 + (rmN 169).slots ≤ (rmN 343).slots by decide)⟩ (Nat.le_of_ble_eq_true rfl) (fun vv s1 hq => ?_) (fun ee s1 hq => ?_))))))
  rotate_left
  · obtain ⟨Is1, Fs1, (⟨e2, hv, hrs1, hps1⟩ | ⟨xx, hv, hps1⟩)⟩ := hq
    · cases hv
    · cases hv
      rcases (show xx = 2 by omega) with gx
      ·
        subst gx
        have Gs1 := fm_tq F Fs1 rfl rfl
        refine (hEx 5 2).2 20 rfl _ _ _ _ _ (fun q1 => ?_)
        show WS k 20 [(0, .ref (A 0)), (1, .int (Int32.ofInt u)), (2, .int (Int32.ofInt w)), (3, .ref (A 517))] [.ref q1] (Wd A dT s1) 1 6
        refine z_astore X (lv' := [(4, .ref q1), (0, .ref (A 0)), (1, .int (Int32.ofInt u)), (2, .int (Int32.ofInt w)), (3, .ref (A 517))]) rfl (by decide) (fun _ h => h) (z_const X rfl ?_)
        exact w_iret X.1 q hRt rfl (ax_d X (show cdA 343 23 = some (.ireturn, 1, 0, 0, 0) from rfl)) (show 1 ≤ 1 by decide) (show 6 ≤ 6 by decide) ⟨A, _, hA, rfl, Is1, Gs1, 1, rfl, (by decide), Or.inl ⟨by decide, by first | (clear p1; omega) | omega, hps1.2.2⟩⟩
  obtain ⟨Is1, Fs1, (⟨e2, hv, hrs1, hps1⟩ | ⟨xx, hv, hps1⟩)⟩ := hq
  rotate_left
  · cases hv
  cases hv
  have Gs1 := fm_tq F Fs1 rfl rfl
  show WS k 8 [(0, .ref (A 0)), (1, .int (Int32.ofInt u)), (2, .int (Int32.ofInt w)), (3, .ref (A 517))] [.int (Int32.ofInt e2), .int (Int32.ofInt 0), .ref (A 517)] (Wd A dT s1) 1 6
  refine z_if_eq X (t := 15) rfl rfl ⟨by first | (clear hps1 p1; omega) | (clear p1; omega) | omega, by first | (clear hps1 p1; omega) | (clear p1; omega) | omega⟩ (fun g3 => ?_) (fun g3 => ?_)
  ·
    refine w_lconst X.1 (ax_d X (show cdA 343 15 = some (.lconst 0, 1, 0, 0, 0) from rfl)) (z := (Int32.ofInt 0).toInt64) (by decide) (z_last X 517 rfl (c518_ok rfl) rfl (by first | (clear hps1 p1; omega) | (clear p1; omega) | omega) (show 0 < 1 by first | (clear hps1 p1; omega) | (clear p1; omega) | omega) (cbig_ok rfl) (wd_gen (fun s4 hs4 => ?_)))
    have Is4 : Bd s4 := eqB hs4 (bd_D Is1)
    have Fs4 : Fm [1000, 1001] [1460] s s4 := by rw [hs4]; exact fm_D Gs1 (show 460 + 1000 ∈ _ by decide)
    have oos4 : iO s4 = 0 := by rw [hs4]; exact iO_u (by first | (clear hps1 p1; omega) | (clear p1; omega) | omega)
    refine z_goto X (t := 24) rfl rfl (z_const X rfl ?_)
    exact w_iret X.1 q hRt rfl (ax_d X (show cdA 343 25 = some (.ireturn, 1, 0, 0, 0) from rfl)) (show 1 ≤ 1 by decide) (show 6 ≤ 6 by decide) ⟨A, _, hA, rfl, Is4, Fs4, 0, rfl, (by decide), Or.inr ⟨by decide, by first | (clear hps1 p1; omega) | (clear p1; omega) | omega, by first | (clear hps1 p1; omega) | (clear p1; omega) | omega, (hps1.2.2.1).elim (fun q => Or.inl ⟨by first | (clear hps1 p1; omega) | (clear p1; omega) | omega, q.2⟩) (fun q => Or.inr ⟨by first | (clear hps1 p1; omega) | (clear p1; omega) | omega, q.2⟩), by rw [hs4]; exact hps1.2.2.2⟩⟩
  ·
    refine w_lconst X.1 (ax_d X (show cdA 343 11 = some (.lconst 1, 1, 0, 0, 0) from rfl)) (z := (Int32.ofInt 1).toInt64) (by decide) (z_goto X (t := 16) rfl rfl (z_last X 517 rfl (c518_ok rfl) rfl (by first | (clear g3 hps1 p1; omega) | (clear hps1 p1; omega) | omega) (show 0 < 1 by first | (clear g3 hps1 p1; omega) | (clear hps1 p1; omega) | omega) (cbig_ok rfl) (wd_gen (fun s5 hs5 => ?_))))
    have Is5 : Bd s5 := eqB hs5 (bd_D Is1)
    have Fs5 : Fm [1000, 1001] [1460] s s5 := by rw [hs5]; exact fm_D Gs1 (show 460 + 1000 ∈ _ by decide)
    have oos5 : iO s5 = 1 := by rw [hs5]; exact iO_u (by first | (clear g3 hps1 p1; omega) | (clear hps1 p1; omega) | omega)
    refine z_goto X (t := 24) rfl rfl (z_const X rfl ?_)
    exact w_iret X.1 q hRt rfl (ax_d X (show cdA 343 25 = some (.ireturn, 1, 0, 0, 0) from rfl)) (show 1 ≤ 1 by decide) (show 6 ≤ 6 by decide) ⟨A, _, hA, rfl, Is5, Fs5, 0, rfl, (by decide), Or.inr ⟨by decide, by first | (clear g3 hps1 p1; omega) | (clear hps1 p1; omega) | omega, by first | (clear g3 hps1 p1; omega) | (clear hps1 p1; omega) | omega, (hps1.2.2.1).elim (fun q => Or.inl ⟨by first | (clear g3 hps1 p1; omega) | (clear hps1 p1; omega) | omega, q.2⟩) (fun q => Or.inr ⟨by first | (clear g3 hps1 p1; omega) | (clear hps1 p1; omega) | omega, q.2⟩), by rw [hs5]; exact hps1.2.2.2⟩⟩
set_option maxRecDepth 4000 in
theorem k_storm2 (G : GX l s0 D tys a0 dT) (I : Bd s) {x y : Int} (p0 : rng x) (p1 : y = 0 ∨ y = 1) : CT l s0 D A dT 279 (rmN 279) [.ref (A 179), .int (Int32.ofInt x), .int (Int32.ofInt y)] s (fun o t => Bd t ∧ Fm [73] [399] s t ∧ ∃ e, o = .inl (some (.int (Int32.ofInt e))) ∧ rng e ∧ (((x < 0 ∨ 127 < x) ∧ iI t 73 = 1 ∧ SAM 399 s t) ∨ (0 ≤ x ∧ x ≤ 127 ∧ iI t 73 = 0 ∧ e = iC s 399 x.toNat ∧ UPD 399 x y s t))) := by
  refine ct_of G (by decide) (Nat.le_of_ble_eq_true rfl) (fun k X E hRt hXt q => ?_)
  show WS k 0 [(0, .ref (A 179)), (1, .int (Int32.ofInt x)), (2, .int (Int32.ofInt y))] [] _ 0 0
  have F : Fm [73] [399] s s := fm_rf _ _ s
  have aw0_399 : SAM 399 s s := sam_rf
  have b1 := bi_73 I
  refine z_aload_n X (x := A 179) rfl (List.Mem.head _) (z_const X rfl (s_putI X 179 rfl (c518_ok rfl) rfl rfl (by decide) rfl rfl rfl (wd_gen (fun s2 hs2 => ?_))))
  have Is2 : Bd s2 := eqB hs2 (bd_I I (show (0 : Int) ≤ 0 ∧ 0 ≤ 3 by first | exact ⟨by decide, by decide⟩ | omega) (by decide))
  have Fs2 := eqF hs2 (fm_I F (inl_ok (a := 73) rfl))
  have vs2 : iI s2 73 = 0 := eqI hs2 (iI_u (by decide))
  have aws2_399 : SAM 399 s s2 := by rw [hs2]; exact aw0_399
  refine z_aload_n X (x := A 179) rfl (List.Mem.head _) (z_load_n X (x := x) rfl (List.Mem.tail _ (List.Mem.head _)) (z_const X rfl (z_bipush X rfl (z_callS X (rm := rmN 188) (As := [.int (Int32.ofInt x), .int (Int32.ofInt 0), .int (Int32.ofInt 127)]) (st := [.ref (A 179)]) rfl rfl (by rw [E.1, E.2.1, E.2.2.1]; exact k_in2 G Is2 (by first | exact ⟨p0.1, p0.2⟩ | omega) (by first | exact ⟨by decide, by decide⟩ | omega) (by first | exact ⟨by decide, by decide⟩ | omega)) ⟨by rw [E.2.2.2]; exact (show (rmN 188).frames + 1 ≤ (rmN 279).frames by decide), by rw [E.2.2.2]; exact (show 8 + (mNL (miB 188) + 11) + (rmN 188).locals ≤ (rmN 279).locals by decide), by rw [E.2.2.2]; exact (show 0 + (rmN 188).cells ≤ (rmN 279).cells by decide), by rw [E.2.2.2]; exact (show 0 + (rmN 188).slots ≤ (rmN 279).slots by decide)⟩ (Nat.le_of_ble_eq_true rfl) (fun vv s3 hq => ?_) (fun ee s3 hq => ?_)))))
  rotate_left
  · obtain ⟨rfl, e4, hv, hrs3, hps3⟩ := hq; cases hv
  obtain ⟨rfl, e4, hv, hrs3, hps3⟩ := hq
  cases hv
  show WS k 13 [(0, .ref (A 179)), (1, .int (Int32.ofInt x)), (2, .int (Int32.ofInt y))] [.int (Int32.ofInt e4), .ref (A 179)] (Wd A dT s2) 0 0
  have N5 : ∀ e6 : Int, (((e4 ≠ 0) ∧ e6 = 0) ∨ ((e4 = 0) ∧ e6 = 1)) → WS k 21 [(0, .ref (A 179)), (1, .int (Int32.ofInt x)), (2, .int (Int32.ofInt y))] [.int (Int32.ofInt e6), .ref (A 179)] (Wd A dT s2) 0 0 := by
    intro e6 he6
    have re6 : 0 ≤ e6 ∧ e6 ≤ 1 := by first | (clear he6 hps3 p1; omega) | (clear hps3 p1; omega) | omega
    refine z_const X rfl (zcV_i0 X E 179 (As := [.int (Int32.ofInt e6), .int (Int32.ofInt 1)]) (st := []) rfl rfl rfl rfl (k_bad2 G Is2 (by first | exact oq_31e518ae re6.2 re6.1 | omega) (by first | exact ⟨by decide, by decide⟩ | omega)) rfl (Nat.le_of_ble_eq_true rfl) (fun s7 e8 Is7 Fs7 hrs7 hps7 => ?_))
    have Gs7 := fm_tq Fs2 Fs7 rfl rfl
    have b9 := bi_73 Is7
    have aws7_399 : SAM 399 s s7 := sam_ts aws2_399 (sam_fm Fs7 (by decide))
    refine z_if_eq X (t := 30) rfl rfl hrs7 (fun g10 => ?_) (fun g10 => ?_)
    ·
      refine z_aload_n X (x := A 179) rfl (List.Mem.head _) (s_getR X 179 rfl (c518_ok rfl) rfl rfl (z_load_n X (x := x) rfl (List.Mem.tail _ (List.Mem.head _)) (z_zald X 454 rfl (c518_ok rfl) rfl (by first | exact oq_c0af69ba g10 hps7 he6 hps3 vs2 | omega) (show x < 128 by first | exact oq_34756d52 g10 hps7 he6 hps3 vs2 | omega) (cbig_ok rfl) ?_)))
      have b11 := bc_399 Is7 (show (x).toNat < 128 by first | exact oq_a3e036ca g10 hps7 he6 hps3 vs2 | omega)
      have ar12 : iC s7 399 (x).toNat = iC s 399 (x).toNat := aws7_399 _
      refine z_store_n X (lv' := [(3, .int (Int32.ofInt (iC s7 399 (x).toNat))), (0, .ref (A 179)), (1, .int (Int32.ofInt x)), (2, .int (Int32.ofInt y))]) rfl (by decide) (fun _ h => h) (z_aload_n X (x := A 179) rfl (List.Mem.tail _ (List.Mem.head _)) (s_getR X 179 rfl (c518_ok rfl) rfl rfl (z_load_n X (x := x) rfl (List.Mem.tail _ (List.Mem.tail _ (List.Mem.head _))) (z_load_n X (x := y) rfl (List.Mem.tail _ (List.Mem.tail _ (List.Mem.tail _ (List.Mem.head _)))) (z_zast X 454 rfl (c518_ok rfl) rfl (by first | exact oq_c0af69ba g10 hps7 he6 hps3 vs2 | omega) (show x < 128 by first | exact oq_34756d52 g10 hps7 he6 hps3 vs2 | omega) (cbig_ok rfl) (by first | exact p1 | omega) (wd_gen (fun s13 hs13 => ?_)))))))
      have Is13 : Bd s13 := eqB hs13 (bd_C Is7 (show (0 : Int) ≤ y ∧ y ≤ 1 by first | exact ⟨oq_e4aca38c p1, oq_14617724 p1⟩ | omega) ⟨by first | exact oq_bde653e9 p1 | omega, by first | exact oq_4ad2cb8b p1 | omega⟩)
      have Fs13 := eqF hs13 (fm_C Gs7 (inl_ok (a := 399) rfl))
      have ws13_73 : iI s13 73 = iI s7 73 := eqI hs13 rfl
      have aws13_399 : UPD 399 (x) y s s13 := by rw [hs13]; exact upd_put aws7_399 ⟨by first | exact oq_bde653e9 p1 | omega, by first | exact oq_4ad2cb8b p1 | omega⟩
      refine z_load_n X (x := (iC s7 399 (x).toNat)) rfl (List.Mem.head _) ?_
      exact w_iret X.1 q hRt (nar_ret (by first | exact oq_31e518ae b11.2 b11.1 | omega)) (ax_d X (show cdA 279 45 = some (.ireturn, 1, 0, 0, 0) from rfl)) (Nat.zero_le _) (Nat.zero_le _) ⟨_, rfl, Is13, Fs13, (iC s7 399 (x).toNat), rfl, (rng_to _), Or.inr ⟨by first | exact oq_c0af69ba g10 hps7 he6 hps3 vs2 | omega, by first | exact oq_6404d05d g10 hps7 he6 hps3 vs2 | omega, by first | exact oq_36baa0f5 ws13_73 g10 b9.1 hps7 vs2 | omega, by first | exact ar12 | omega, aws13_399⟩⟩
    ·
      refine z_const X rfl ?_
      exact w_iret X.1 q hRt (nar_ret (by first | exact Or.inl (by decide) | omega)) (ax_d X (show cdA 279 29 = some (.ireturn, 1, 0, 0, 0) from rfl)) (Nat.zero_le _) (Nat.zero_le _) ⟨_, rfl, Is7, Gs7, 0, rfl, (by decide), Or.inl ⟨by first | exact oq_2d4c9f41 g10 hps7 he6 hps3 vs2 | omega, by first | exact oq_58a3c280 g10 hps7 vs2 | omega, aws7_399⟩⟩
  refine z_if_ne X (t := 20) rfl rfl hrs3 (fun g14 => ?_) (fun g14 => ?_)
  ·
    exact z_const X rfl (N5 _ (Or.inl ⟨g14, rfl⟩))
  ·
    exact z_const X rfl (z_goto X (t := 21) rfl rfl (N5 _ (Or.inr (⟨g14, rfl⟩))))
end M87b
end
