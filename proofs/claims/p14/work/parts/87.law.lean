/-! The law's own methods: a call of the class each, its exceptions caught -/
/-- a contract of a method with handlers, rows may change places -/
def CTL (l : Launch) (s0 : State) (D : va_G) (A : Nat → Nat) (dT : Nat → ClassId) (mn : Nat) (rm : Room) (vals : List Value) (s : PS) (Q : mb_O → PS → Prop) : Prop :=
  MB l s0 D (yA mn) (.codeWith (yA mn) (byA mn) (mNL (miB mn)) (rtA mn) (hhA mn)) rm vals (Wd A dT s) (fun o ws => ∃ (B : Nat → Nat) (s' : PS), swA A B ∧ ws = Wd B dT s' ∧ Q o s')
section CT4
variable {l : Launch} {s0 : State} {D : va_G} {tys : List (ClassId × FieldType)} {a0 : Array Value} {A : Nat → Nat} {dT : Nat → ClassId} {s : PS}
theorem ctL_of (G : GX l s0 D tys a0 dT) {mn : Nat} {rm : Room} {vals : List Value} {Q : mb_O → PS → Prop} (hy : plainName (yA mn).cls = true) (hn : (lg_sl vals).length ≤ mNL (miB mn)) (hne : hhA mn ≠ []) {r0 : ARow} (h0 : cdA mn 0 = some r0)
    (body : ∀ k, AX k mn dT → (kL k = l ∧ kS0 k = s0 ∧ kD k = D ∧ kR k = rm) → kTy k = tys → (kMe k).sig.returnType = rtA mn → (∀ pc, exX k cx0 mn pc) → kx_end k (fun o ws => ∃ (B : Nat → Nat) (s' : PS), swA A B ∧ ws = Wd B dT s' ∧ Q o s') rm.cells rm.slots → WS k 0 (lv_args 0 vals) [] (Wd A dT s) 0 0) : CTL l s0 D A dT mn rm vals s Q :=
  mb_ofH G.1 hy hn (fun k C e1 e2 e3 e4 e5 e6 e7 e8 e9 e10 e11 qe => body k ⟨C, ⟨e7, e6, e8⟩, fun t => by rw [e5]; exact G.2.1 t, by rw [e3]; exact G.2.2⟩ ⟨e1, e3, e4, e2⟩ e5 e9 ((rows_ok (a0 := a0) G.2.2 h0).2.2.2.2.2.2.2 hne k C (by rw [e1, e3, e4, e5]; exact G.1) e3 e6 e11) qe)
variable {k : kx_T} {mn pc : Nat} {lv : List (Nat × Value)} {st : List Value} {ce sl : Nat} {z : Int} {Q : mb_O → PS → Prop} {rm : Room}
/-- a call of one of them -/
theorem z_callL (X : AX k mn dT) {idx cn : Nat} {As : List Value} (h : cdA mn pc = some (.invokestatic idx, 3, cn, 6, z)) (hne : hhA cn ≠ []) (hn : mAr (miB cn) = As.length) (hM : CTL (kL k) (kS0 k) (kD k) A dT cn rm As s Q) (hr : rmK k cn rm ce sl) (hw : (st.map fun v => v.category).sum ≤ 8)
    (h1 : ∀ v B s', swA A B → Q (.inl v) s' → WS k (pc + 3) lv (v.toList ++ st) (Wd B dT s') (ce + rm.cells) (sl + rm.slots)) (h2 : ∀ E B s', swA A B → Q (.inr E) s' → WX k pc lv st (Wd B dT s') E (ce + rm.cells) (sl + rm.slots)) : WS k pc lv (As.reverse ++ st) (Wd A dT s) ce sl := by
  have hq := (ax_r X h).2.2
  rcases hq with ⟨q, -⟩ | ⟨q, -⟩ | ⟨q, -⟩ | ⟨-, -, q1, q2, q3⟩
  · cases q
  · cases q
  · cases q
  · replace q3 : mtX cx0 yA byA rtA hhA cn (mAr (miB cn)) := q3
    rw [hn] at q3
    obtain ⟨r1, r2, r3⟩ := hr
    exact w_callSX (K := fun o ws => ∃ (B : Nat → Nat) (s' : PS), swA A B ∧ ws = Wd B dT s' ∧ Q o s') (rm := rm) X.1 (by rw [X.2.1.2.1]; exact q1) (cd_with hne q3.1) q3.2.1 q3.2.2 r1 r2 q2 hM rfl hw r3 (ax_d X h) (fun v ws' hk => hk.elim (fun B hk => hk.elim (fun s' hq => by rw [hq.2.1]; exact h1 v B s' hq.1 hq.2.2))) (fun E ws' hk => hk.elim (fun B hk => hk.elim (fun s' hq => by rw [hq.2.1]; exact h2 E B s' hq.1 hq.2.2)))
end CT4
section M87
variable {l : Launch} {s0 : State} {D : va_G} {tys : List (ClassId × FieldType)} {a0 : Array Value} {A : Nat → Nat} {dT : Nat → ClassId} {s : PS}
set_option maxRecDepth 4000 in
theorem lw_neck (G : GX l s0 D tys a0 dT) (I : Bd s) {x y : Int} (p0 : rng x) (p1 : rng y) : CTL l s0 D A dT 326 (rmN 326) [.ref (A 0), .int (Int32.ofInt x), .int (Int32.ofInt y), .ref (A 517)] s (fun o t => Bd t ∧ Fm [] [1460] s t ∧ ∃ e, o = .inl (some (.int (Int32.ofInt e))) ∧ rng e ∧ (True)) := by
  refine ctL_of G (by decide) (Nat.le_of_ble_eq_true rfl) (by decide) rfl (fun k X E ET hRt hEx q => ?_)
  show WS k 0 [(0, .ref (A 0)), (1, .int (Int32.ofInt x)), (2, .int (Int32.ofInt y)), (3, .ref (A 517))] [] _ 0 0
  have F : Fm [] [1460] s s := fm_rf _ _ s
  have hA := swA_rf A
  refine z_aload_n X (x := A 517) rfl (List.Mem.tail _ (List.Mem.tail _ (List.Mem.tail _ (List.Mem.head _)))) (z_const X rfl (z_aload_n X (x := A 0) rfl (List.Mem.head _) (z_load_n X (x := x) rfl (List.Mem.tail _ (List.Mem.head _)) (z_load_n X (x := y) rfl (List.Mem.tail _ (List.Mem.tail _ (List.Mem.head _))) (z_callV X 0 (rm := rmN 149) (As := [.int (Int32.ofInt x), .int (Int32.ofInt y)]) (st := [.int (Int32.ofInt 0), .ref (A 517)]) rfl rfl (by decide) rfl (by rw [E.1, E.2.1, E.2.2.1]; exact cs_neck G I (by omega) (by omega)) ⟨by rw [E.2.2.2]; exact (show (rmN 149).frames + 1 ≤ (rmN 326).frames by decide), by rw [E.2.2.2]; exact (show 8 + (mNL (miB 149) + 11) + (rmN 149).locals ≤ (rmN 326).locals by decide), by rw [E.2.2.2]; exact (show 0 + (rmN 149).cells ≤ (rmN 326).cells by decide), by rw [E.2.2.2]; exact (show 0 + (rmN 149).slots ≤ (rmN 326).slots by decide)⟩ (Nat.le_of_ble_eq_true rfl) (fun vv s1 hq => ?_) (fun ee s1 hq => ?_))))))
  rotate_left
  · obtain ⟨Is1, Fs1, (⟨e2, hv, hrs1, hps1⟩ | ⟨xx, hv, hps1⟩)⟩ := hq
    · cases hv
    · cases hv
      rcases (show xx = 0 by omega) with gx
      ·
        subst gx
        have Gs1 := fm_tq F Fs1 rfl rfl
        refine (hEx 5 0).2 13 rfl _ _ _ _ _ (fun q1 => ?_)
        show WS k 13 [(0, .ref (A 0)), (1, .int (Int32.ofInt x)), (2, .int (Int32.ofInt y)), (3, .ref (A 517))] [.ref q1] (Wd A dT s1) 1 6
        refine z_astore X (lv' := [(4, .ref q1), (0, .ref (A 0)), (1, .int (Int32.ofInt x)), (2, .int (Int32.ofInt y)), (3, .ref (A 517))]) rfl (by decide) (fun _ h => h) (z_const X rfl ?_)
        exact w_iret X.1 q hRt rfl (ax_d X (show cdA 326 16 = some (.ireturn, 1, 0, 0, 0) from rfl)) (show 1 ≤ 1 by decide) (show 6 ≤ 6 by decide) ⟨A, _, hA, rfl, Is1, Gs1, 1, rfl, (by decide), trivial⟩
  obtain ⟨Is1, Fs1, (⟨e2, hv, hrs1, hps1⟩ | ⟨xx, hv, hps1⟩)⟩ := hq
  rotate_left
  · cases hv
  cases hv
  have Gs1 := fm_tq F Fs1 rfl rfl
  show WS k 8 [(0, .ref (A 0)), (1, .int (Int32.ofInt x)), (2, .int (Int32.ofInt y)), (3, .ref (A 517))] [.int (Int32.ofInt e2), .int (Int32.ofInt 0), .ref (A 517)] (Wd A dT s1) 1 6
  refine w_i2l X.1 (ax_d X (show cdA 326 8 = some (.i2l, 1, 0, 0, 0) from rfl)) (z_anyJ (fun j3 => ?_))
  refine z_last X 517 rfl (c518_ok rfl) rfl (by decide) (show 0 < 1 by decide) (cbig_ok rfl) (wd_gen (fun s4 hs4 => ?_))
  have Is4 : Bd s4 := eqB hs4 (bd_D Is1)
  have Fs4 : Fm [] [1460] s s4 := by rw [hs4]; exact fm_D Gs1 (show 460 + 1000 ∈ _ by decide)
  refine z_goto X (t := 17) rfl rfl (z_const X rfl ?_)
  exact w_iret X.1 q hRt rfl (ax_d X (show cdA 326 18 = some (.ireturn, 1, 0, 0, 0) from rfl)) (show 1 ≤ 1 by decide) (show 6 ≤ 6 by decide) ⟨A, _, hA, rfl, Is4, Fs4, 0, rfl, (by decide), trivial⟩
set_option maxRecDepth 4000 in
theorem lw_shorts (G : GX l s0 D tys a0 dT) (I : Bd s) {x : Int} (p0 : rng x) : CTL l s0 D A dT 327 (rmN 327) [.ref (A 0), .int (Int32.ofInt x), .ref (A 517)] s (fun o t => Bd t ∧ Fm [] [1460] s t ∧ ∃ e, o = .inl (some (.int (Int32.ofInt e))) ∧ rng e ∧ (True)) := by
  refine ctL_of G (by decide) (Nat.le_of_ble_eq_true rfl) (by decide) rfl (fun k X E ET hRt hEx q => ?_)
  show WS k 0 [(0, .ref (A 0)), (1, .int (Int32.ofInt x)), (2, .ref (A 517))] [] _ 0 0
  have F : Fm [] [1460] s s := fm_rf _ _ s
  have hA := swA_rf A
  refine z_aload_n X (x := A 517) rfl (List.Mem.tail _ (List.Mem.tail _ (List.Mem.head _))) (z_const X rfl (z_aload_n X (x := A 0) rfl (List.Mem.head _) (z_load_n X (x := x) rfl (List.Mem.tail _ (List.Mem.head _)) (z_callV X 0 (rm := rmN 150) (As := [.int (Int32.ofInt x)]) (st := [.int (Int32.ofInt 0), .ref (A 517)]) rfl rfl (by decide) rfl (by rw [E.1, E.2.1, E.2.2.1]; exact cs_shorts G I (by omega)) ⟨by rw [E.2.2.2]; exact (show (rmN 150).frames + 1 ≤ (rmN 327).frames by decide), by rw [E.2.2.2]; exact (show 8 + (mNL (miB 150) + 11) + (rmN 150).locals ≤ (rmN 327).locals by decide), by rw [E.2.2.2]; exact (show 0 + (rmN 150).cells ≤ (rmN 327).cells by decide), by rw [E.2.2.2]; exact (show 0 + (rmN 150).slots ≤ (rmN 327).slots by decide)⟩ (Nat.le_of_ble_eq_true rfl) (fun vv s1 hq => ?_) (fun ee s1 hq => ?_)))))
  rotate_left
  · obtain ⟨Is1, Fs1, (⟨e2, hv, hrs1, hps1⟩ | ⟨xx, hv, hps1⟩)⟩ := hq
    · cases hv
    · cases hv
      rcases (show xx = 0 by omega) with gx
      ·
        subst gx
        have Gs1 := fm_tq F Fs1 rfl rfl
        refine (hEx 4 0).2 12 rfl _ _ _ _ _ (fun q1 => ?_)
        show WS k 12 [(0, .ref (A 0)), (1, .int (Int32.ofInt x)), (2, .ref (A 517))] [.ref q1] (Wd A dT s1) 1 6
        refine z_astore_n X (lv' := [(3, .ref q1), (0, .ref (A 0)), (1, .int (Int32.ofInt x)), (2, .ref (A 517))]) rfl (by decide) (fun _ h => h) (z_const X rfl ?_)
        exact w_iret X.1 q hRt rfl (ax_d X (show cdA 327 14 = some (.ireturn, 1, 0, 0, 0) from rfl)) (show 1 ≤ 1 by decide) (show 6 ≤ 6 by decide) ⟨A, _, hA, rfl, Is1, Gs1, 1, rfl, (by decide), trivial⟩
  obtain ⟨Is1, Fs1, (⟨e2, hv, hrs1, hps1⟩ | ⟨xx, hv, hps1⟩)⟩ := hq
  rotate_left
  · cases hv
  cases hv
  have Gs1 := fm_tq F Fs1 rfl rfl
  show WS k 7 [(0, .ref (A 0)), (1, .int (Int32.ofInt x)), (2, .ref (A 517))] [.int (Int32.ofInt e2), .int (Int32.ofInt 0), .ref (A 517)] (Wd A dT s1) 1 6
  refine w_i2l X.1 (ax_d X (show cdA 327 7 = some (.i2l, 1, 0, 0, 0) from rfl)) (z_anyJ (fun j3 => ?_))
  refine z_last X 517 rfl (c518_ok rfl) rfl (by decide) (show 0 < 1 by decide) (cbig_ok rfl) (wd_gen (fun s4 hs4 => ?_))
  have Is4 : Bd s4 := eqB hs4 (bd_D Is1)
  have Fs4 : Fm [] [1460] s s4 := by rw [hs4]; exact fm_D Gs1 (show 460 + 1000 ∈ _ by decide)
  refine z_goto X (t := 15) rfl rfl (z_const X rfl ?_)
  exact w_iret X.1 q hRt rfl (ax_d X (show cdA 327 16 = some (.ireturn, 1, 0, 0, 0) from rfl)) (show 1 ≤ 1 by decide) (show 6 ≤ 6 by decide) ⟨A, _, hA, rfl, Is4, Fs4, 0, rfl, (by decide), trivial⟩
set_option maxRecDepth 4000 in
theorem lw_length (G : GX l s0 D tys a0 dT) (I : Bd s) {x : Int} (p0 : rng x) : CTL l s0 D A dT 328 (rmN 328) [.ref (A 0), .int (Int32.ofInt x), .ref (A 517)] s (fun o t => Bd t ∧ Fm [21] [1460] s t ∧ ∃ e, o = .inl (some (.int (Int32.ofInt e))) ∧ rng e ∧ (True)) := by
  refine ctL_of G (by decide) (Nat.le_of_ble_eq_true rfl) (by decide) rfl (fun k X E ET hRt hEx q => ?_)
  show WS k 0 [(0, .ref (A 0)), (1, .int (Int32.ofInt x)), (2, .ref (A 517))] [] _ 0 0
  have F : Fm [21] [1460] s s := fm_rf _ _ s
  have hA := swA_rf A
  refine z_aload_n X (x := A 517) rfl (List.Mem.tail _ (List.Mem.tail _ (List.Mem.head _))) (z_const X rfl (z_aload_n X (x := A 0) rfl (List.Mem.head _) (z_load_n X (x := x) rfl (List.Mem.tail _ (List.Mem.head _)) (z_callV X 0 (rm := rmN 151) (As := [.int (Int32.ofInt x)]) (st := [.int (Int32.ofInt 0), .ref (A 517)]) rfl rfl (by decide) rfl (by rw [E.1, E.2.1, E.2.2.1]; exact cs_length G I (by omega)) ⟨by rw [E.2.2.2]; exact (show (rmN 151).frames + 1 ≤ (rmN 328).frames by decide), by rw [E.2.2.2]; exact (show 8 + (mNL (miB 151) + 11) + (rmN 151).locals ≤ (rmN 328).locals by decide), by rw [E.2.2.2]; exact (show 0 + (rmN 151).cells ≤ (rmN 328).cells by decide), by rw [E.2.2.2]; exact (show 0 + (rmN 151).slots ≤ (rmN 328).slots by decide)⟩ (Nat.le_of_ble_eq_true rfl) (fun vv s1 hq => ?_) (fun ee s1 hq => ?_)))))
  rotate_left
  · obtain ⟨Is1, Fs1, (⟨e2, hv, hrs1, hps1⟩ | ⟨xx, hv, hps1⟩)⟩ := hq
    · cases hv
    · cases hv
      rcases (show xx = 0 by omega) with gx
      ·
        subst gx
        have Gs1 := fm_tq F Fs1 rfl rfl
        refine (hEx 4 0).2 12 rfl _ _ _ _ _ (fun q1 => ?_)
        show WS k 12 [(0, .ref (A 0)), (1, .int (Int32.ofInt x)), (2, .ref (A 517))] [.ref q1] (Wd A dT s1) 1 6
        refine z_astore_n X (lv' := [(3, .ref q1), (0, .ref (A 0)), (1, .int (Int32.ofInt x)), (2, .ref (A 517))]) rfl (by decide) (fun _ h => h) (z_const X rfl ?_)
        exact w_iret X.1 q hRt rfl (ax_d X (show cdA 328 14 = some (.ireturn, 1, 0, 0, 0) from rfl)) (show 1 ≤ 1 by decide) (show 6 ≤ 6 by decide) ⟨A, _, hA, rfl, Is1, Gs1, 1, rfl, (by decide), trivial⟩
  obtain ⟨Is1, Fs1, (⟨e2, hv, hrs1, hps1⟩ | ⟨xx, hv, hps1⟩)⟩ := hq
  rotate_left
  · cases hv
  cases hv
  have Gs1 := fm_tq F Fs1 rfl rfl
  show WS k 7 [(0, .ref (A 0)), (1, .int (Int32.ofInt x)), (2, .ref (A 517))] [.int (Int32.ofInt e2), .int (Int32.ofInt 0), .ref (A 517)] (Wd A dT s1) 1 6
  refine w_i2l X.1 (ax_d X (show cdA 328 7 = some (.i2l, 1, 0, 0, 0) from rfl)) (z_anyJ (fun j3 => ?_))
  refine z_last X 517 rfl (c518_ok rfl) rfl (by decide) (show 0 < 1 by decide) (cbig_ok rfl) (wd_gen (fun s4 hs4 => ?_))
  have Is4 : Bd s4 := eqB hs4 (bd_D Is1)
  have Fs4 : Fm [21] [1460] s s4 := by rw [hs4]; exact fm_D Gs1 (show 460 + 1000 ∈ _ by decide)
  refine z_goto X (t := 15) rfl rfl (z_const X rfl ?_)
  exact w_iret X.1 q hRt rfl (ax_d X (show cdA 328 16 = some (.ireturn, 1, 0, 0, 0) from rfl)) (show 1 ≤ 1 by decide) (show 6 ≤ 6 by decide) ⟨A, _, hA, rfl, Is4, Fs4, 0, rfl, (by decide), trivial⟩
set_option maxRecDepth 4000 in
theorem lw_edge (G : GX l s0 D tys a0 dT) (I : Bd s) {x : Int} (p0 : rng x) : CTL l s0 D A dT 329 (rmN 329) [.ref (A 0), .int (Int32.ofInt x), .ref (A 517)] s (fun o t => Bd t ∧ Fm [] [1460] s t ∧ ∃ e, o = .inl (some (.int (Int32.ofInt e))) ∧ rng e ∧ (True)) := by
  refine ctL_of G (by decide) (Nat.le_of_ble_eq_true rfl) (by decide) rfl (fun k X E ET hRt hEx q => ?_)
  show WS k 0 [(0, .ref (A 0)), (1, .int (Int32.ofInt x)), (2, .ref (A 517))] [] _ 0 0
  have F : Fm [] [1460] s s := fm_rf _ _ s
  have hA := swA_rf A
  refine z_aload_n X (x := A 517) rfl (List.Mem.tail _ (List.Mem.tail _ (List.Mem.head _))) (z_const X rfl (z_aload_n X (x := A 0) rfl (List.Mem.head _) (z_load_n X (x := x) rfl (List.Mem.tail _ (List.Mem.head _)) (z_callV X 0 (rm := rmN 152) (As := [.int (Int32.ofInt x)]) (st := [.int (Int32.ofInt 0), .ref (A 517)]) rfl rfl (by decide) rfl (by rw [E.1, E.2.1, E.2.2.1]; exact cs_edge G I (by omega)) ⟨by rw [E.2.2.2]; exact (show (rmN 152).frames + 1 ≤ (rmN 329).frames by decide), by rw [E.2.2.2]; exact (show 8 + (mNL (miB 152) + 11) + (rmN 152).locals ≤ (rmN 329).locals by decide), by rw [E.2.2.2]; exact (show 0 + (rmN 152).cells ≤ (rmN 329).cells by decide), by rw [E.2.2.2]; exact (show 0 + (rmN 152).slots ≤ (rmN 329).slots by decide)⟩ (Nat.le_of_ble_eq_true rfl) (fun vv s1 hq => ?_) (fun ee s1 hq => ?_)))))
  rotate_left
  · obtain ⟨Is1, Fs1, (⟨e2, hv, hrs1, hps1⟩ | ⟨xx, hv, hps1⟩)⟩ := hq
    · cases hv
    · cases hv
      rcases (show xx = 0 by omega) with gx
      ·
        subst gx
        have Gs1 := fm_tq F Fs1 rfl rfl
        refine (hEx 4 0).2 12 rfl _ _ _ _ _ (fun q1 => ?_)
        show WS k 12 [(0, .ref (A 0)), (1, .int (Int32.ofInt x)), (2, .ref (A 517))] [.ref q1] (Wd A dT s1) 1 6
        refine z_astore_n X (lv' := [(3, .ref q1), (0, .ref (A 0)), (1, .int (Int32.ofInt x)), (2, .ref (A 517))]) rfl (by decide) (fun _ h => h) (z_const X rfl ?_)
        exact w_iret X.1 q hRt rfl (ax_d X (show cdA 329 14 = some (.ireturn, 1, 0, 0, 0) from rfl)) (show 1 ≤ 1 by decide) (show 6 ≤ 6 by decide) ⟨A, _, hA, rfl, Is1, Gs1, 1, rfl, (by decide), trivial⟩
  obtain ⟨Is1, Fs1, (⟨e2, hv, hrs1, hps1⟩ | ⟨xx, hv, hps1⟩)⟩ := hq
  rotate_left
  · cases hv
  cases hv
  have Gs1 := fm_tq F Fs1 rfl rfl
  show WS k 7 [(0, .ref (A 0)), (1, .int (Int32.ofInt x)), (2, .ref (A 517))] [.int (Int32.ofInt e2), .int (Int32.ofInt 0), .ref (A 517)] (Wd A dT s1) 1 6
  refine w_i2l X.1 (ax_d X (show cdA 329 7 = some (.i2l, 1, 0, 0, 0) from rfl)) (z_anyJ (fun j3 => ?_))
  refine z_last X 517 rfl (c518_ok rfl) rfl (by decide) (show 0 < 1 by decide) (cbig_ok rfl) (wd_gen (fun s4 hs4 => ?_))
  have Is4 : Bd s4 := eqB hs4 (bd_D Is1)
  have Fs4 : Fm [] [1460] s s4 := by rw [hs4]; exact fm_D Gs1 (show 460 + 1000 ∈ _ by decide)
  refine z_goto X (t := 15) rfl rfl (z_const X rfl ?_)
  exact w_iret X.1 q hRt rfl (ax_d X (show cdA 329 16 = some (.ireturn, 1, 0, 0, 0) from rfl)) (show 1 ≤ 1 by decide) (show 6 ≤ 6 by decide) ⟨A, _, hA, rfl, Is4, Fs4, 0, rfl, (by decide), trivial⟩
set_option maxRecDepth 4000 in
theorem lw_region (G : GX l s0 D tys a0 dT) (I : Bd s) {x : Int} (p0 : rng x) : CTL l s0 D A dT 332 (rmN 332) [.ref (A 0), .int (Int32.ofInt x), .ref (A 517)] s (fun o t => Bd t ∧ Fm [28] [39, 1460] s t ∧ ∃ e, o = .inl (some (.int (Int32.ofInt e))) ∧ rng e ∧ (True)) := by
  refine ctL_of G (by decide) (Nat.le_of_ble_eq_true rfl) (by decide) rfl (fun k X E ET hRt hEx q => ?_)
  show WS k 0 [(0, .ref (A 0)), (1, .int (Int32.ofInt x)), (2, .ref (A 517))] [] _ 0 0
  have F : Fm [28] [39, 1460] s s := fm_rf _ _ s
  have hA := swA_rf A
  refine z_aload_n X (x := A 517) rfl (List.Mem.tail _ (List.Mem.tail _ (List.Mem.head _))) (z_const X rfl (z_aload_n X (x := A 0) rfl (List.Mem.head _) (z_load_n X (x := x) rfl (List.Mem.tail _ (List.Mem.head _)) (z_callV X 0 (rm := rmN 157) (As := [.int (Int32.ofInt x)]) (st := [.int (Int32.ofInt 0), .ref (A 517)]) rfl rfl (by decide) rfl (by rw [E.1, E.2.1, E.2.2.1]; exact cs_region G I (by omega)) ⟨by rw [E.2.2.2]; exact (show (rmN 157).frames + 1 ≤ (rmN 332).frames by decide), by rw [E.2.2.2]; exact (show 8 + (mNL (miB 157) + 11) + (rmN 157).locals ≤ (rmN 332).locals by decide), by rw [E.2.2.2]; exact (show 0 + (rmN 157).cells ≤ (rmN 332).cells by decide), by rw [E.2.2.2]; exact (show 0 + (rmN 157).slots ≤ (rmN 332).slots by decide)⟩ (Nat.le_of_ble_eq_true rfl) (fun vv s1 hq => ?_) (fun ee s1 hq => ?_)))))
  rotate_left
  · obtain ⟨Is1, Fs1, (⟨e2, hv, hrs1, hps1⟩ | ⟨xx, hv, hps1⟩)⟩ := hq
    · cases hv
    · cases hv
      rcases (show xx = 2 by omega) with gx
      ·
        subst gx
        have Gs1 := fm_tq F Fs1 rfl rfl
        refine (hEx 4 2).2 12 rfl _ _ _ _ _ (fun q1 => ?_)
        show WS k 12 [(0, .ref (A 0)), (1, .int (Int32.ofInt x)), (2, .ref (A 517))] [.ref q1] (Wd A dT s1) 1 6
        refine z_astore_n X (lv' := [(3, .ref q1), (0, .ref (A 0)), (1, .int (Int32.ofInt x)), (2, .ref (A 517))]) rfl (by decide) (fun _ h => h) (z_const X rfl ?_)
        exact w_iret X.1 q hRt rfl (ax_d X (show cdA 332 14 = some (.ireturn, 1, 0, 0, 0) from rfl)) (show 1 ≤ 1 by decide) (show 6 ≤ 6 by decide) ⟨A, _, hA, rfl, Is1, Gs1, 1, rfl, (by decide), trivial⟩
  obtain ⟨Is1, Fs1, (⟨e2, hv, hrs1, hps1⟩ | ⟨xx, hv, hps1⟩)⟩ := hq
  rotate_left
  · cases hv
  cases hv
  have Gs1 := fm_tq F Fs1 rfl rfl
  show WS k 7 [(0, .ref (A 0)), (1, .int (Int32.ofInt x)), (2, .ref (A 517))] [.int (Int32.ofInt e2), .int (Int32.ofInt 0), .ref (A 517)] (Wd A dT s1) 1 6
  refine w_i2l X.1 (ax_d X (show cdA 332 7 = some (.i2l, 1, 0, 0, 0) from rfl)) (z_anyJ (fun j3 => ?_))
  refine z_last X 517 rfl (c518_ok rfl) rfl (by decide) (show 0 < 1 by decide) (cbig_ok rfl) (wd_gen (fun s4 hs4 => ?_))
  have Is4 : Bd s4 := eqB hs4 (bd_D Is1)
  have Fs4 : Fm [28] [39, 1460] s s4 := by rw [hs4]; exact fm_D Gs1 (show 460 + 1000 ∈ _ by decide)
  refine z_goto X (t := 15) rfl rfl (z_const X rfl ?_)
  exact w_iret X.1 q hRt rfl (ax_d X (show cdA 332 16 = some (.ireturn, 1, 0, 0, 0) from rfl)) (show 1 ≤ 1 by decide) (show 6 ≤ 6 by decide) ⟨A, _, hA, rfl, Is4, Fs4, 0, rfl, (by decide), trivial⟩
set_option maxRecDepth 4000 in
theorem lw_parted (G : GX l s0 D tys a0 dT) (I : Bd s) {x y : Int} (p0 : rng x) (p1 : rng y) : CTL l s0 D A dT 333 (rmN 333) [.ref (A 0), .int (Int32.ofInt x), .int (Int32.ofInt y), .ref (A 517)] s (fun o t => Bd t ∧ Fm [22, 23, 24, 31, 29, 30] [33, 26, 27, 28, 29, 30, 31, 32, 20, 40, 41, 42, 45, 43, 44, 1460] s t ∧ ∃ e, o = .inl (some (.int (Int32.ofInt e))) ∧ rng e ∧ (True)) := by
  refine ctL_of G (by decide) (Nat.le_of_ble_eq_true rfl) (by decide) rfl (fun k X E ET hRt hEx q => ?_)
  show WS k 0 [(0, .ref (A 0)), (1, .int (Int32.ofInt x)), (2, .int (Int32.ofInt y)), (3, .ref (A 517))] [] _ 0 0
  have F : Fm [22, 23, 24, 31, 29, 30] [33, 26, 27, 28, 29, 30, 31, 32, 20, 40, 41, 42, 45, 43, 44, 1460] s s := fm_rf _ _ s
  have hA := swA_rf A
  refine z_aload_n X (x := A 517) rfl (List.Mem.tail _ (List.Mem.tail _ (List.Mem.tail _ (List.Mem.head _)))) (z_const X rfl (z_aload_n X (x := A 0) rfl (List.Mem.head _) (z_load_n X (x := x) rfl (List.Mem.tail _ (List.Mem.head _)) (z_load_n X (x := y) rfl (List.Mem.tail _ (List.Mem.tail _ (List.Mem.head _))) (z_callV X 0 (rm := rmN 158) (As := [.int (Int32.ofInt x), .int (Int32.ofInt y)]) (st := [.int (Int32.ofInt 0), .ref (A 517)]) rfl rfl (by decide) rfl (by rw [E.1, E.2.1, E.2.2.1]; exact cs_parted G I (by omega) (by omega)) ⟨by rw [E.2.2.2]; exact (show (rmN 158).frames + 1 ≤ (rmN 333).frames by decide), by rw [E.2.2.2]; exact (show 8 + (mNL (miB 158) + 11) + (rmN 158).locals ≤ (rmN 333).locals by decide), by rw [E.2.2.2]; exact (show 0 + (rmN 158).cells ≤ (rmN 333).cells by decide), by rw [E.2.2.2]; exact (show 0 + (rmN 158).slots ≤ (rmN 333).slots by decide)⟩ (Nat.le_of_ble_eq_true rfl) (fun vv s1 hq => ?_) (fun ee s1 hq => ?_))))))
  rotate_left
  · obtain ⟨Is1, Fs1, (⟨e2, hv, hrs1, hps1⟩ | ⟨xx, hv, hps1⟩)⟩ := hq
    · cases hv
    · cases hv
      rcases (show xx = 0 by omega) with gx
      ·
        subst gx
        have Gs1 := fm_tq F Fs1 rfl rfl
        refine (hEx 5 0).2 13 rfl _ _ _ _ _ (fun q1 => ?_)
        show WS k 13 [(0, .ref (A 0)), (1, .int (Int32.ofInt x)), (2, .int (Int32.ofInt y)), (3, .ref (A 517))] [.ref q1] (Wd A dT s1) 2 12
        refine z_astore X (lv' := [(4, .ref q1), (0, .ref (A 0)), (1, .int (Int32.ofInt x)), (2, .int (Int32.ofInt y)), (3, .ref (A 517))]) rfl (by decide) (fun _ h => h) (z_const X rfl ?_)
        exact w_iret X.1 q hRt rfl (ax_d X (show cdA 333 16 = some (.ireturn, 1, 0, 0, 0) from rfl)) (show 2 ≤ 2 by decide) (show 12 ≤ 12 by decide) ⟨A, _, hA, rfl, Is1, Gs1, 1, rfl, (by decide), trivial⟩
  obtain ⟨Is1, Fs1, (⟨e2, hv, hrs1, hps1⟩ | ⟨xx, hv, hps1⟩)⟩ := hq
  rotate_left
  · cases hv
  cases hv
  have Gs1 := fm_tq F Fs1 rfl rfl
  show WS k 8 [(0, .ref (A 0)), (1, .int (Int32.ofInt x)), (2, .int (Int32.ofInt y)), (3, .ref (A 517))] [.int (Int32.ofInt e2), .int (Int32.ofInt 0), .ref (A 517)] (Wd A dT s1) 2 12
  refine w_i2l X.1 (ax_d X (show cdA 333 8 = some (.i2l, 1, 0, 0, 0) from rfl)) (z_anyJ (fun j3 => ?_))
  refine z_last X 517 rfl (c518_ok rfl) rfl (by decide) (show 0 < 1 by decide) (cbig_ok rfl) (wd_gen (fun s4 hs4 => ?_))
  have Is4 : Bd s4 := eqB hs4 (bd_D Is1)
  have Fs4 : Fm [22, 23, 24, 31, 29, 30] [33, 26, 27, 28, 29, 30, 31, 32, 20, 40, 41, 42, 45, 43, 44, 1460] s s4 := by rw [hs4]; exact fm_D Gs1 (show 460 + 1000 ∈ _ by decide)
  refine z_goto X (t := 17) rfl rfl (z_const X rfl ?_)
  exact w_iret X.1 q hRt rfl (ax_d X (show cdA 333 18 = some (.ireturn, 1, 0, 0, 0) from rfl)) (show 2 ≤ 2 by decide) (show 12 ≤ 12 by decide) ⟨A, _, hA, rfl, Is4, Fs4, 0, rfl, (by decide), trivial⟩
set_option maxRecDepth 4000 in
theorem lw_configure (G : GX l s0 D tys a0 dT) (I : Bd s) {x : Int} (p0 : rng x) : CTL l s0 D A dT 334 (rmN 334) [.ref (A 0), .int (Int32.ofInt x), .ref (A 517)] s (fun o t => Bd t ∧ Fm [32] [46, 1460] s t ∧ ∃ e, o = .inl (some (.int (Int32.ofInt e))) ∧ rng e ∧ (True)) := by
  refine ctL_of G (by decide) (Nat.le_of_ble_eq_true rfl) (by decide) rfl (fun k X E ET hRt hEx q => ?_)
  show WS k 0 [(0, .ref (A 0)), (1, .int (Int32.ofInt x)), (2, .ref (A 517))] [] _ 0 0
  have F : Fm [32] [46, 1460] s s := fm_rf _ _ s
  have hA := swA_rf A
  refine z_aload_n X (x := A 517) rfl (List.Mem.tail _ (List.Mem.tail _ (List.Mem.head _))) (z_const X rfl (z_aload_n X (x := A 0) rfl (List.Mem.head _) (z_load_n X (x := x) rfl (List.Mem.tail _ (List.Mem.head _)) (z_callV X 0 (rm := rmN 160) (As := [.int (Int32.ofInt x)]) (st := [.int (Int32.ofInt 0), .ref (A 517)]) rfl rfl (by decide) rfl (by rw [E.1, E.2.1, E.2.2.1]; exact cs_configure G I (by omega)) ⟨by rw [E.2.2.2]; exact (show (rmN 160).frames + 1 ≤ (rmN 334).frames by decide), by rw [E.2.2.2]; exact (show 8 + (mNL (miB 160) + 11) + (rmN 160).locals ≤ (rmN 334).locals by decide), by rw [E.2.2.2]; exact (show 0 + (rmN 160).cells ≤ (rmN 334).cells by decide), by rw [E.2.2.2]; exact (show 0 + (rmN 160).slots ≤ (rmN 334).slots by decide)⟩ (Nat.le_of_ble_eq_true rfl) (fun vv s1 hq => ?_) (fun ee s1 hq => ?_)))))
  rotate_left
  · obtain ⟨Is1, Fs1, (⟨e2, hv, hrs1, hps1⟩ | ⟨xx, hv, hps1⟩)⟩ := hq
    · cases hv
    · cases hv
      rcases (show xx = 0 by omega) with gx
      ·
        subst gx
        have Gs1 := fm_tq F Fs1 rfl rfl
        refine (hEx 4 0).2 12 rfl _ _ _ _ _ (fun q1 => ?_)
        show WS k 12 [(0, .ref (A 0)), (1, .int (Int32.ofInt x)), (2, .ref (A 517))] [.ref q1] (Wd A dT s1) 1 6
        refine z_astore_n X (lv' := [(3, .ref q1), (0, .ref (A 0)), (1, .int (Int32.ofInt x)), (2, .ref (A 517))]) rfl (by decide) (fun _ h => h) (z_const X rfl ?_)
        exact w_iret X.1 q hRt rfl (ax_d X (show cdA 334 14 = some (.ireturn, 1, 0, 0, 0) from rfl)) (show 1 ≤ 1 by decide) (show 6 ≤ 6 by decide) ⟨A, _, hA, rfl, Is1, Gs1, 1, rfl, (by decide), trivial⟩
  obtain ⟨Is1, Fs1, (⟨e2, hv, hrs1, hps1⟩ | ⟨xx, hv, hps1⟩)⟩ := hq
  rotate_left
  · cases hv
  cases hv
  have Gs1 := fm_tq F Fs1 rfl rfl
  show WS k 7 [(0, .ref (A 0)), (1, .int (Int32.ofInt x)), (2, .ref (A 517))] [.int (Int32.ofInt e2), .int (Int32.ofInt 0), .ref (A 517)] (Wd A dT s1) 1 6
  refine w_i2l X.1 (ax_d X (show cdA 334 7 = some (.i2l, 1, 0, 0, 0) from rfl)) (z_anyJ (fun j3 => ?_))
  refine z_last X 517 rfl (c518_ok rfl) rfl (by decide) (show 0 < 1 by decide) (cbig_ok rfl) (wd_gen (fun s4 hs4 => ?_))
  have Is4 : Bd s4 := eqB hs4 (bd_D Is1)
  have Fs4 : Fm [32] [46, 1460] s s4 := by rw [hs4]; exact fm_D Gs1 (show 460 + 1000 ∈ _ by decide)
  refine z_goto X (t := 15) rfl rfl (z_const X rfl ?_)
  exact w_iret X.1 q hRt rfl (ax_d X (show cdA 334 16 = some (.ireturn, 1, 0, 0, 0) from rfl)) (show 1 ≤ 1 by decide) (show 6 ≤ 6 by decide) ⟨A, _, hA, rfl, Is4, Fs4, 0, rfl, (by decide), trivial⟩
set_option maxRecDepth 4000 in
theorem lw_pairs (G : GX l s0 D tys a0 dT) (I : Bd s) {x y : Int} (p0 : rng x) (p1 : rng y) (p2 : iI s 12 ≤ 8) : CTL l s0 D A dT 335 (rmN 335) [.ref (A 0), .int (Int32.ofInt x), .int (Int32.ofInt y), .ref (A 517)] s (fun o t => Bd t ∧ Fm [22, 23, 24] [33, 26, 27, 28, 29, 30, 31, 32, 20, 48, 47, 1460] s t ∧ ∃ e, o = .inl (some (.int (Int32.ofInt e))) ∧ rng e ∧ (True)) := by
  refine ctL_of G (by decide) (Nat.le_of_ble_eq_true rfl) (by decide) rfl (fun k X E ET hRt hEx q => ?_)
  show WS k 0 [(0, .ref (A 0)), (1, .int (Int32.ofInt x)), (2, .int (Int32.ofInt y)), (3, .ref (A 517))] [] _ 0 0
  have F : Fm [22, 23, 24] [33, 26, 27, 28, 29, 30, 31, 32, 20, 48, 47, 1460] s s := fm_rf _ _ s
  have hA := swA_rf A
  refine z_aload_n X (x := A 517) rfl (List.Mem.tail _ (List.Mem.tail _ (List.Mem.tail _ (List.Mem.head _)))) (z_const X rfl (z_aload_n X (x := A 0) rfl (List.Mem.head _) (z_load_n X (x := x) rfl (List.Mem.tail _ (List.Mem.head _)) (z_load_n X (x := y) rfl (List.Mem.tail _ (List.Mem.tail _ (List.Mem.head _))) (z_callV X 0 (rm := rmN 161) (As := [.int (Int32.ofInt x), .int (Int32.ofInt y)]) (st := [.int (Int32.ofInt 0), .ref (A 517)]) rfl rfl (by decide) rfl (by rw [E.1, E.2.1, E.2.2.1]; exact cs_pairs G I (by omega) (by omega) (by omega)) ⟨by rw [E.2.2.2]; exact (show (rmN 161).frames + 1 ≤ (rmN 335).frames by decide), by rw [E.2.2.2]; exact (show 8 + (mNL (miB 161) + 11) + (rmN 161).locals ≤ (rmN 335).locals by decide), by rw [E.2.2.2]; exact (show 0 + (rmN 161).cells ≤ (rmN 335).cells by decide), by rw [E.2.2.2]; exact (show 0 + (rmN 161).slots ≤ (rmN 335).slots by decide)⟩ (Nat.le_of_ble_eq_true rfl) (fun vv s1 hq => ?_) (fun ee s1 hq => ?_))))))
  rotate_left
  · obtain ⟨Is1, Fs1, (⟨e2, hv, hrs1, hps1⟩ | ⟨xx, hv, hps1⟩)⟩ := hq
    · cases hv
    · cases hv
      rcases (show xx = 0 ∨ xx = 1 by omega) with gx | gx
      ·
        subst gx
        have Gs1 := fm_tq F Fs1 rfl rfl
        refine (hEx 5 0).2 17 rfl _ _ _ _ _ (fun q1 => ?_)
        show WS k 17 [(0, .ref (A 0)), (1, .int (Int32.ofInt x)), (2, .int (Int32.ofInt y)), (3, .ref (A 517))] [.ref q1] (Wd A dT s1) 2 12
        refine z_astore X (lv' := [(4, .ref q1), (0, .ref (A 0)), (1, .int (Int32.ofInt x)), (2, .int (Int32.ofInt y)), (3, .ref (A 517))]) rfl (by decide) (fun _ h => h) (z_const X rfl ?_)
        exact w_iret X.1 q hRt rfl (ax_d X (show cdA 335 20 = some (.ireturn, 1, 0, 0, 0) from rfl)) (show 2 ≤ 2 by decide) (show 12 ≤ 12 by decide) ⟨A, _, hA, rfl, Is1, Gs1, 2, rfl, (by decide), trivial⟩
      ·
        subst gx
        have Gs1 := fm_tq F Fs1 rfl rfl
        refine (hEx 5 1).2 13 rfl _ _ _ _ _ (fun q1 => ?_)
        show WS k 13 [(0, .ref (A 0)), (1, .int (Int32.ofInt x)), (2, .int (Int32.ofInt y)), (3, .ref (A 517))] [.ref q1] (Wd A dT s1) 2 12
        refine z_astore X (lv' := [(4, .ref q1), (0, .ref (A 0)), (1, .int (Int32.ofInt x)), (2, .int (Int32.ofInt y)), (3, .ref (A 517))]) rfl (by decide) (fun _ h => h) (z_const X rfl ?_)
        exact w_iret X.1 q hRt rfl (ax_d X (show cdA 335 16 = some (.ireturn, 1, 0, 0, 0) from rfl)) (show 2 ≤ 2 by decide) (show 12 ≤ 12 by decide) ⟨A, _, hA, rfl, Is1, Gs1, 1, rfl, (by decide), trivial⟩
  obtain ⟨Is1, Fs1, (⟨e2, hv, hrs1, hps1⟩ | ⟨xx, hv, hps1⟩)⟩ := hq
  rotate_left
  · cases hv
  cases hv
  have Gs1 := fm_tq F Fs1 rfl rfl
  show WS k 8 [(0, .ref (A 0)), (1, .int (Int32.ofInt x)), (2, .int (Int32.ofInt y)), (3, .ref (A 517))] [.int (Int32.ofInt e2), .int (Int32.ofInt 0), .ref (A 517)] (Wd A dT s1) 2 12
  refine w_i2l X.1 (ax_d X (show cdA 335 8 = some (.i2l, 1, 0, 0, 0) from rfl)) (z_anyJ (fun j3 => ?_))
  refine z_last X 517 rfl (c518_ok rfl) rfl (by decide) (show 0 < 1 by decide) (cbig_ok rfl) (wd_gen (fun s4 hs4 => ?_))
  have Is4 : Bd s4 := eqB hs4 (bd_D Is1)
  have Fs4 : Fm [22, 23, 24] [33, 26, 27, 28, 29, 30, 31, 32, 20, 48, 47, 1460] s s4 := by rw [hs4]; exact fm_D Gs1 (show 460 + 1000 ∈ _ by decide)
  refine z_goto X (t := 21) rfl rfl (z_const X rfl ?_)
  exact w_iret X.1 q hRt rfl (ax_d X (show cdA 335 22 = some (.ireturn, 1, 0, 0, 0) from rfl)) (show 2 ≤ 2 by decide) (show 12 ≤ 12 by decide) ⟨A, _, hA, rfl, Is4, Fs4, 0, rfl, (by decide), trivial⟩
set_option maxRecDepth 4000 in
theorem lw_busy (G : GX l s0 D tys a0 dT) (I : Bd s) {x : Int} (p0 : rng x) : CTL l s0 D A dT 336 (rmN 336) [.ref (A 0), .int (Int32.ofInt x), .ref (A 517)] s (fun o t => Bd t ∧ Fm [33] [1460] s t ∧ ∃ e, o = .inl (some (.int (Int32.ofInt e))) ∧ rng e ∧ (True)) := by
  refine ctL_of G (by decide) (Nat.le_of_ble_eq_true rfl) (by decide) rfl (fun k X E ET hRt hEx q => ?_)
  show WS k 0 [(0, .ref (A 0)), (1, .int (Int32.ofInt x)), (2, .ref (A 517))] [] _ 0 0
  have F : Fm [33] [1460] s s := fm_rf _ _ s
  have hA := swA_rf A
  refine z_aload_n X (x := A 517) rfl (List.Mem.tail _ (List.Mem.tail _ (List.Mem.head _))) (z_const X rfl (z_aload_n X (x := A 0) rfl (List.Mem.head _) (z_load_n X (x := x) rfl (List.Mem.tail _ (List.Mem.head _)) (z_callV X 0 (rm := rmN 162) (As := [.int (Int32.ofInt x)]) (st := [.int (Int32.ofInt 0), .ref (A 517)]) rfl rfl (by decide) rfl (by rw [E.1, E.2.1, E.2.2.1]; exact cs_busy G I (by omega)) ⟨by rw [E.2.2.2]; exact (show (rmN 162).frames + 1 ≤ (rmN 336).frames by decide), by rw [E.2.2.2]; exact (show 8 + (mNL (miB 162) + 11) + (rmN 162).locals ≤ (rmN 336).locals by decide), by rw [E.2.2.2]; exact (show 0 + (rmN 162).cells ≤ (rmN 336).cells by decide), by rw [E.2.2.2]; exact (show 0 + (rmN 162).slots ≤ (rmN 336).slots by decide)⟩ (Nat.le_of_ble_eq_true rfl) (fun vv s1 hq => ?_) (fun ee s1 hq => ?_)))))
  rotate_left
  · obtain ⟨Is1, Fs1, (⟨e2, hv, hrs1, hps1⟩ | ⟨xx, hv, hps1⟩)⟩ := hq
    · cases hv
    · cases hv
      rcases (show xx = 0 by omega) with gx
      ·
        subst gx
        have Gs1 := fm_tq F Fs1 rfl rfl
        refine (hEx 4 0).2 12 rfl _ _ _ _ _ (fun q1 => ?_)
        show WS k 12 [(0, .ref (A 0)), (1, .int (Int32.ofInt x)), (2, .ref (A 517))] [.ref q1] (Wd A dT s1) 1 6
        refine z_astore_n X (lv' := [(3, .ref q1), (0, .ref (A 0)), (1, .int (Int32.ofInt x)), (2, .ref (A 517))]) rfl (by decide) (fun _ h => h) (z_const X rfl ?_)
        exact w_iret X.1 q hRt rfl (ax_d X (show cdA 336 14 = some (.ireturn, 1, 0, 0, 0) from rfl)) (show 1 ≤ 1 by decide) (show 6 ≤ 6 by decide) ⟨A, _, hA, rfl, Is1, Gs1, 1, rfl, (by decide), trivial⟩
  obtain ⟨Is1, Fs1, (⟨e2, hv, hrs1, hps1⟩ | ⟨xx, hv, hps1⟩)⟩ := hq
  rotate_left
  · cases hv
  cases hv
  have Gs1 := fm_tq F Fs1 rfl rfl
  show WS k 7 [(0, .ref (A 0)), (1, .int (Int32.ofInt x)), (2, .ref (A 517))] [.int (Int32.ofInt e2), .int (Int32.ofInt 0), .ref (A 517)] (Wd A dT s1) 1 6
  refine w_i2l X.1 (ax_d X (show cdA 336 7 = some (.i2l, 1, 0, 0, 0) from rfl)) (z_anyJ (fun j3 => ?_))
  refine z_last X 517 rfl (c518_ok rfl) rfl (by decide) (show 0 < 1 by decide) (cbig_ok rfl) (wd_gen (fun s4 hs4 => ?_))
  have Is4 : Bd s4 := eqB hs4 (bd_D Is1)
  have Fs4 : Fm [33] [1460] s s4 := by rw [hs4]; exact fm_D Gs1 (show 460 + 1000 ∈ _ by decide)
  refine z_goto X (t := 15) rfl rfl (z_const X rfl ?_)
  exact w_iret X.1 q hRt rfl (ax_d X (show cdA 336 16 = some (.ireturn, 1, 0, 0, 0) from rfl)) (show 1 ≤ 1 by decide) (show 6 ≤ 6 by decide) ⟨A, _, hA, rfl, Is4, Fs4, 0, rfl, (by decide), trivial⟩
set_option maxRecDepth 4000 in
theorem lw_plan (G : GX l s0 D tys a0 dT) (I : Bd s) {x y : Int} (p0 : rng x) (p1 : rng y) (p2 : iI s 12 ≤ 8) : CTL l s0 D A dT 337 (rmN 337) [.ref (A 0), .int (Int32.ofInt x), .int (Int32.ofInt y), .ref (A 517)] s (fun o t => Bd t ∧ Fm [22, 23, 24, 34, 35] [33, 26, 27, 28, 29, 30, 31, 32, 20, 48, 47, 49, 50, 51, 1460] s t ∧ ∃ e, o = .inl (some (.int (Int32.ofInt e))) ∧ rng e ∧ (True)) := by
  refine ctL_of G (by decide) (Nat.le_of_ble_eq_true rfl) (by decide) rfl (fun k X E ET hRt hEx q => ?_)
  show WS k 0 [(0, .ref (A 0)), (1, .int (Int32.ofInt x)), (2, .int (Int32.ofInt y)), (3, .ref (A 517))] [] _ 0 0
  have F : Fm [22, 23, 24, 34, 35] [33, 26, 27, 28, 29, 30, 31, 32, 20, 48, 47, 49, 50, 51, 1460] s s := fm_rf _ _ s
  have hA := swA_rf A
  refine z_aload_n X (x := A 517) rfl (List.Mem.tail _ (List.Mem.tail _ (List.Mem.tail _ (List.Mem.head _)))) (z_const X rfl (z_aload_n X (x := A 0) rfl (List.Mem.head _) (z_load_n X (x := x) rfl (List.Mem.tail _ (List.Mem.head _)) (z_load_n X (x := y) rfl (List.Mem.tail _ (List.Mem.tail _ (List.Mem.head _))) (z_callV X 0 (rm := rmN 163) (As := [.int (Int32.ofInt x), .int (Int32.ofInt y)]) (st := [.int (Int32.ofInt 0), .ref (A 517)]) rfl rfl (by decide) rfl (by rw [E.1, E.2.1, E.2.2.1]; exact cs_plan G I (by omega) (by omega) (by omega)) ⟨by rw [E.2.2.2]; exact (show (rmN 163).frames + 1 ≤ (rmN 337).frames by decide), by rw [E.2.2.2]; exact (show 8 + (mNL (miB 163) + 11) + (rmN 163).locals ≤ (rmN 337).locals by decide), by rw [E.2.2.2]; exact (show 0 + (rmN 163).cells ≤ (rmN 337).cells by decide), by rw [E.2.2.2]; exact (show 0 + (rmN 163).slots ≤ (rmN 337).slots by decide)⟩ (Nat.le_of_ble_eq_true rfl) (fun vv s1 hq => ?_) (fun ee s1 hq => ?_))))))
  rotate_left
  · obtain ⟨Is1, Fs1, (⟨e2, hv, hrs1, hps1⟩ | ⟨xx, hv, hps1⟩)⟩ := hq
    · cases hv
    · cases hv
      rcases (show xx = 0 by omega) with gx
      ·
        subst gx
        have Gs1 := fm_tq F Fs1 rfl rfl
        refine (hEx 5 0).2 13 rfl _ _ _ _ _ (fun q1 => ?_)
        show WS k 13 [(0, .ref (A 0)), (1, .int (Int32.ofInt x)), (2, .int (Int32.ofInt y)), (3, .ref (A 517))] [.ref q1] (Wd A dT s1) 2 12
        refine z_astore X (lv' := [(4, .ref q1), (0, .ref (A 0)), (1, .int (Int32.ofInt x)), (2, .int (Int32.ofInt y)), (3, .ref (A 517))]) rfl (by decide) (fun _ h => h) (z_const X rfl ?_)
        exact w_iret X.1 q hRt rfl (ax_d X (show cdA 337 16 = some (.ireturn, 1, 0, 0, 0) from rfl)) (show 2 ≤ 2 by decide) (show 12 ≤ 12 by decide) ⟨A, _, hA, rfl, Is1, Gs1, 1, rfl, (by decide), trivial⟩
  obtain ⟨Is1, Fs1, (⟨e2, hv, hrs1, hps1⟩ | ⟨xx, hv, hps1⟩)⟩ := hq
  rotate_left
  · cases hv
  cases hv
  have Gs1 := fm_tq F Fs1 rfl rfl
  show WS k 8 [(0, .ref (A 0)), (1, .int (Int32.ofInt x)), (2, .int (Int32.ofInt y)), (3, .ref (A 517))] [.int (Int32.ofInt e2), .int (Int32.ofInt 0), .ref (A 517)] (Wd A dT s1) 2 12
  refine w_i2l X.1 (ax_d X (show cdA 337 8 = some (.i2l, 1, 0, 0, 0) from rfl)) (z_anyJ (fun j3 => ?_))
  refine z_last X 517 rfl (c518_ok rfl) rfl (by decide) (show 0 < 1 by decide) (cbig_ok rfl) (wd_gen (fun s4 hs4 => ?_))
  have Is4 : Bd s4 := eqB hs4 (bd_D Is1)
  have Fs4 : Fm [22, 23, 24, 34, 35] [33, 26, 27, 28, 29, 30, 31, 32, 20, 48, 47, 49, 50, 51, 1460] s s4 := by rw [hs4]; exact fm_D Gs1 (show 460 + 1000 ∈ _ by decide)
  refine z_goto X (t := 17) rfl rfl (z_const X rfl ?_)
  exact w_iret X.1 q hRt rfl (ax_d X (show cdA 337 18 = some (.ireturn, 1, 0, 0, 0) from rfl)) (show 2 ≤ 2 by decide) (show 12 ≤ 12 by decide) ⟨A, _, hA, rfl, Is4, Fs4, 0, rfl, (by decide), trivial⟩
set_option maxRecDepth 4000 in
theorem lw_hours (G : GX l s0 D tys a0 dT) (I : Bd s) {x y : Int} (p0 : rng x) (p1 : rng y) : CTL l s0 D A dT 338 (rmN 338) [.ref (A 0), .int (Int32.ofInt x), .int (Int32.ofInt y), .ref (A 517)] s (fun o t => Bd t ∧ Fm [36, 37] [1460] s t ∧ ∃ e, o = .inl (some (.int (Int32.ofInt e))) ∧ rng e ∧ (True)) := by
  refine ctL_of G (by decide) (Nat.le_of_ble_eq_true rfl) (by decide) rfl (fun k X E ET hRt hEx q => ?_)
  show WS k 0 [(0, .ref (A 0)), (1, .int (Int32.ofInt x)), (2, .int (Int32.ofInt y)), (3, .ref (A 517))] [] _ 0 0
  have F : Fm [36, 37] [1460] s s := fm_rf _ _ s
  have hA := swA_rf A
  refine z_aload_n X (x := A 517) rfl (List.Mem.tail _ (List.Mem.tail _ (List.Mem.tail _ (List.Mem.head _)))) (z_const X rfl (z_aload_n X (x := A 0) rfl (List.Mem.head _) (z_load_n X (x := x) rfl (List.Mem.tail _ (List.Mem.head _)) (z_load_n X (x := y) rfl (List.Mem.tail _ (List.Mem.tail _ (List.Mem.head _))) (z_callV X 0 (rm := rmN 164) (As := [.int (Int32.ofInt x), .int (Int32.ofInt y)]) (st := [.int (Int32.ofInt 0), .ref (A 517)]) rfl rfl (by decide) rfl (by rw [E.1, E.2.1, E.2.2.1]; exact cs_hours G I (by omega) (by omega)) ⟨by rw [E.2.2.2]; exact (show (rmN 164).frames + 1 ≤ (rmN 338).frames by decide), by rw [E.2.2.2]; exact (show 8 + (mNL (miB 164) + 11) + (rmN 164).locals ≤ (rmN 338).locals by decide), by rw [E.2.2.2]; exact (show 0 + (rmN 164).cells ≤ (rmN 338).cells by decide), by rw [E.2.2.2]; exact (show 0 + (rmN 164).slots ≤ (rmN 338).slots by decide)⟩ (Nat.le_of_ble_eq_true rfl) (fun vv s1 hq => ?_) (fun ee s1 hq => ?_))))))
  rotate_left
  · obtain ⟨Is1, Fs1, (⟨e2, hv, hrs1, hps1⟩ | ⟨xx, hv, hps1⟩)⟩ := hq
    · cases hv
    · cases hv
      rcases (show xx = 0 by omega) with gx
      ·
        subst gx
        have Gs1 := fm_tq F Fs1 rfl rfl
        refine (hEx 5 0).2 13 rfl _ _ _ _ _ (fun q1 => ?_)
        show WS k 13 [(0, .ref (A 0)), (1, .int (Int32.ofInt x)), (2, .int (Int32.ofInt y)), (3, .ref (A 517))] [.ref q1] (Wd A dT s1) 2 12
        refine z_astore X (lv' := [(4, .ref q1), (0, .ref (A 0)), (1, .int (Int32.ofInt x)), (2, .int (Int32.ofInt y)), (3, .ref (A 517))]) rfl (by decide) (fun _ h => h) (z_const X rfl ?_)
        exact w_iret X.1 q hRt rfl (ax_d X (show cdA 338 16 = some (.ireturn, 1, 0, 0, 0) from rfl)) (show 2 ≤ 2 by decide) (show 12 ≤ 12 by decide) ⟨A, _, hA, rfl, Is1, Gs1, 1, rfl, (by decide), trivial⟩
  obtain ⟨Is1, Fs1, (⟨e2, hv, hrs1, hps1⟩ | ⟨xx, hv, hps1⟩)⟩ := hq
  rotate_left
  · cases hv
  cases hv
  have Gs1 := fm_tq F Fs1 rfl rfl
  show WS k 8 [(0, .ref (A 0)), (1, .int (Int32.ofInt x)), (2, .int (Int32.ofInt y)), (3, .ref (A 517))] [.int (Int32.ofInt e2), .int (Int32.ofInt 0), .ref (A 517)] (Wd A dT s1) 2 12
  refine w_i2l X.1 (ax_d X (show cdA 338 8 = some (.i2l, 1, 0, 0, 0) from rfl)) (z_anyJ (fun j3 => ?_))
  refine z_last X 517 rfl (c518_ok rfl) rfl (by decide) (show 0 < 1 by decide) (cbig_ok rfl) (wd_gen (fun s4 hs4 => ?_))
  have Is4 : Bd s4 := eqB hs4 (bd_D Is1)
  have Fs4 : Fm [36, 37] [1460] s s4 := by rw [hs4]; exact fm_D Gs1 (show 460 + 1000 ∈ _ by decide)
  refine z_goto X (t := 17) rfl rfl (z_const X rfl ?_)
  exact w_iret X.1 q hRt rfl (ax_d X (show cdA 338 18 = some (.ireturn, 1, 0, 0, 0) from rfl)) (show 2 ≤ 2 by decide) (show 12 ≤ 12 by decide) ⟨A, _, hA, rfl, Is4, Fs4, 0, rfl, (by decide), trivial⟩
set_option maxRecDepth 4000 in
theorem lw_ill (G : GX l s0 D tys a0 dT) (I : Bd s) {x y : Int} (p0 : rng x) (p1 : rng y) : CTL l s0 D A dT 339 (rmN 339) [.ref (A 0), .int (Int32.ofInt x), .int (Int32.ofInt y), .ref (A 517)] s (fun o t => Bd t ∧ Fm [] [52, 1460] s t ∧ ∃ e, o = .inl (some (.int (Int32.ofInt e))) ∧ rng e ∧ (True)) := by
  refine ctL_of G (by decide) (Nat.le_of_ble_eq_true rfl) (by decide) rfl (fun k X E ET hRt hEx q => ?_)
  show WS k 0 [(0, .ref (A 0)), (1, .int (Int32.ofInt x)), (2, .int (Int32.ofInt y)), (3, .ref (A 517))] [] _ 0 0
  have F : Fm [] [52, 1460] s s := fm_rf _ _ s
  have hA := swA_rf A
  refine z_aload_n X (x := A 517) rfl (List.Mem.tail _ (List.Mem.tail _ (List.Mem.tail _ (List.Mem.head _)))) (z_const X rfl (z_aload_n X (x := A 0) rfl (List.Mem.head _) (z_load_n X (x := x) rfl (List.Mem.tail _ (List.Mem.head _)) (z_load_n X (x := y) rfl (List.Mem.tail _ (List.Mem.tail _ (List.Mem.head _))) (z_callV X 0 (rm := rmN 165) (As := [.int (Int32.ofInt x), .int (Int32.ofInt y)]) (st := [.int (Int32.ofInt 0), .ref (A 517)]) rfl rfl (by decide) rfl (by rw [E.1, E.2.1, E.2.2.1]; exact cs_ill G I (by omega) (by omega)) ⟨by rw [E.2.2.2]; exact (show (rmN 165).frames + 1 ≤ (rmN 339).frames by decide), by rw [E.2.2.2]; exact (show 8 + (mNL (miB 165) + 11) + (rmN 165).locals ≤ (rmN 339).locals by decide), by rw [E.2.2.2]; exact (show 0 + (rmN 165).cells ≤ (rmN 339).cells by decide), by rw [E.2.2.2]; exact (show 0 + (rmN 165).slots ≤ (rmN 339).slots by decide)⟩ (Nat.le_of_ble_eq_true rfl) (fun vv s1 hq => ?_) (fun ee s1 hq => ?_))))))
  rotate_left
  · obtain ⟨Is1, Fs1, (⟨e2, hv, hrs1, hps1⟩ | ⟨xx, hv, hps1⟩)⟩ := hq
    · cases hv
    · cases hv
      rcases (show xx = 0 ∨ xx = 2 by omega) with gx | gx
      ·
        subst gx
        have Gs1 := fm_tq F Fs1 rfl rfl
        refine (hEx 5 0).2 17 rfl _ _ _ _ _ (fun q1 => ?_)
        show WS k 17 [(0, .ref (A 0)), (1, .int (Int32.ofInt x)), (2, .int (Int32.ofInt y)), (3, .ref (A 517))] [.ref q1] (Wd A dT s1) 2 12
        refine z_astore X (lv' := [(4, .ref q1), (0, .ref (A 0)), (1, .int (Int32.ofInt x)), (2, .int (Int32.ofInt y)), (3, .ref (A 517))]) rfl (by decide) (fun _ h => h) (z_const X rfl ?_)
        exact w_iret X.1 q hRt rfl (ax_d X (show cdA 339 20 = some (.ireturn, 1, 0, 0, 0) from rfl)) (show 2 ≤ 2 by decide) (show 12 ≤ 12 by decide) ⟨A, _, hA, rfl, Is1, Gs1, 2, rfl, (by decide), trivial⟩
      ·
        subst gx
        have Gs1 := fm_tq F Fs1 rfl rfl
        refine (hEx 5 2).2 13 rfl _ _ _ _ _ (fun q1 => ?_)
        show WS k 13 [(0, .ref (A 0)), (1, .int (Int32.ofInt x)), (2, .int (Int32.ofInt y)), (3, .ref (A 517))] [.ref q1] (Wd A dT s1) 2 12
        refine z_astore X (lv' := [(4, .ref q1), (0, .ref (A 0)), (1, .int (Int32.ofInt x)), (2, .int (Int32.ofInt y)), (3, .ref (A 517))]) rfl (by decide) (fun _ h => h) (z_const X rfl ?_)
        exact w_iret X.1 q hRt rfl (ax_d X (show cdA 339 16 = some (.ireturn, 1, 0, 0, 0) from rfl)) (show 2 ≤ 2 by decide) (show 12 ≤ 12 by decide) ⟨A, _, hA, rfl, Is1, Gs1, 1, rfl, (by decide), trivial⟩
  obtain ⟨Is1, Fs1, (⟨e2, hv, hrs1, hps1⟩ | ⟨xx, hv, hps1⟩)⟩ := hq
  rotate_left
  · cases hv
  cases hv
  have Gs1 := fm_tq F Fs1 rfl rfl
  show WS k 8 [(0, .ref (A 0)), (1, .int (Int32.ofInt x)), (2, .int (Int32.ofInt y)), (3, .ref (A 517))] [.int (Int32.ofInt e2), .int (Int32.ofInt 0), .ref (A 517)] (Wd A dT s1) 2 12
  refine w_i2l X.1 (ax_d X (show cdA 339 8 = some (.i2l, 1, 0, 0, 0) from rfl)) (z_anyJ (fun j3 => ?_))
  refine z_last X 517 rfl (c518_ok rfl) rfl (by decide) (show 0 < 1 by decide) (cbig_ok rfl) (wd_gen (fun s4 hs4 => ?_))
  have Is4 : Bd s4 := eqB hs4 (bd_D Is1)
  have Fs4 : Fm [] [52, 1460] s s4 := by rw [hs4]; exact fm_D Gs1 (show 460 + 1000 ∈ _ by decide)
  refine z_goto X (t := 21) rfl rfl (z_const X rfl ?_)
  exact w_iret X.1 q hRt rfl (ax_d X (show cdA 339 22 = some (.ireturn, 1, 0, 0, 0) from rfl)) (show 2 ≤ 2 by decide) (show 12 ≤ 12 by decide) ⟨A, _, hA, rfl, Is4, Fs4, 0, rfl, (by decide), trivial⟩
set_option maxRecDepth 4000 in
theorem lw_rota (G : GX l s0 D tys a0 dT) (I : Bd s) {x y z : Int} (p0 : rng x) (p1 : rng y) (p2 : rng z) (p3 : iI s 12 ≤ 8) : CTL l s0 D A dT 340 (rmN 340) [.ref (A 0), .int (Int32.ofInt x), .int (Int32.ofInt y), .int (Int32.ofInt z), .ref (A 517)] s (fun o t => Bd t ∧ Fm [22, 23, 24, 34, 35, 38] [33, 26, 27, 28, 29, 30, 31, 32, 20, 48, 47, 49, 50, 51, 53, 54, 55, 56, 1460] s t ∧ ∃ e, o = .inl (some (.int (Int32.ofInt e))) ∧ rng e ∧ (True)) := by
  refine ctL_of G (by decide) (Nat.le_of_ble_eq_true rfl) (by decide) rfl (fun k X E ET hRt hEx q => ?_)
  show WS k 0 [(0, .ref (A 0)), (1, .int (Int32.ofInt x)), (2, .int (Int32.ofInt y)), (3, .int (Int32.ofInt z)), (4, .ref (A 517))] [] _ 0 0
  have F : Fm [22, 23, 24, 34, 35, 38] [33, 26, 27, 28, 29, 30, 31, 32, 20, 48, 47, 49, 50, 51, 53, 54, 55, 56, 1460] s s := fm_rf _ _ s
  have hA := swA_rf A
  refine z_aload X (x := A 517) rfl (List.Mem.tail _ (List.Mem.tail _ (List.Mem.tail _ (List.Mem.tail _ (List.Mem.head _))))) (z_const X rfl (z_aload_n X (x := A 0) rfl (List.Mem.head _) (z_load_n X (x := x) rfl (List.Mem.tail _ (List.Mem.head _)) (z_load_n X (x := y) rfl (List.Mem.tail _ (List.Mem.tail _ (List.Mem.head _))) (z_load_n X (x := z) rfl (List.Mem.tail _ (List.Mem.tail _ (List.Mem.tail _ (List.Mem.head _)))) (z_callV X 0 (rm := rmN 166) (As := [.int (Int32.ofInt x), .int (Int32.ofInt y), .int (Int32.ofInt z)]) (st := [.int (Int32.ofInt 0), .ref (A 517)]) rfl rfl (by decide) rfl (by rw [E.1, E.2.1, E.2.2.1]; exact cs_rota G I (by omega) (by omega) (by omega) (by omega)) ⟨by rw [E.2.2.2]; exact (show (rmN 166).frames + 1 ≤ (rmN 340).frames by decide), by rw [E.2.2.2]; exact (show 8 + (mNL (miB 166) + 11) + (rmN 166).locals ≤ (rmN 340).locals by decide), by rw [E.2.2.2]; exact (show 0 + (rmN 166).cells ≤ (rmN 340).cells by decide), by rw [E.2.2.2]; exact (show 0 + (rmN 166).slots ≤ (rmN 340).slots by decide)⟩ (Nat.le_of_ble_eq_true rfl) (fun vv s1 hq => ?_) (fun ee s1 hq => ?_)))))))
  rotate_left
  · obtain ⟨Is1, Fs1, (⟨e2, hv, hrs1, hps1⟩ | ⟨xx, hv, hps1⟩)⟩ := hq
    · cases hv
    · cases hv
      rcases (show xx = 0 by omega) with gx
      ·
        subst gx
        have Gs1 := fm_tq F Fs1 rfl rfl
        refine (hEx 7 0).2 15 rfl _ _ _ _ _ (fun q1 => ?_)
        show WS k 15 [(0, .ref (A 0)), (1, .int (Int32.ofInt x)), (2, .int (Int32.ofInt y)), (3, .int (Int32.ofInt z)), (4, .ref (A 517))] [.ref q1] (Wd A dT s1) 3 18
        refine z_astore X (lv' := [(5, .ref q1), (0, .ref (A 0)), (1, .int (Int32.ofInt x)), (2, .int (Int32.ofInt y)), (3, .int (Int32.ofInt z)), (4, .ref (A 517))]) rfl (by decide) (fun _ h => h) (z_const X rfl ?_)
        exact w_iret X.1 q hRt rfl (ax_d X (show cdA 340 18 = some (.ireturn, 1, 0, 0, 0) from rfl)) (show 3 ≤ 3 by decide) (show 18 ≤ 18 by decide) ⟨A, _, hA, rfl, Is1, Gs1, 1, rfl, (by decide), trivial⟩
  obtain ⟨Is1, Fs1, (⟨e2, hv, hrs1, hps1⟩ | ⟨xx, hv, hps1⟩)⟩ := hq
  rotate_left
  · cases hv
  cases hv
  have Gs1 := fm_tq F Fs1 rfl rfl
  show WS k 10 [(0, .ref (A 0)), (1, .int (Int32.ofInt x)), (2, .int (Int32.ofInt y)), (3, .int (Int32.ofInt z)), (4, .ref (A 517))] [.int (Int32.ofInt e2), .int (Int32.ofInt 0), .ref (A 517)] (Wd A dT s1) 3 18
  refine w_i2l X.1 (ax_d X (show cdA 340 10 = some (.i2l, 1, 0, 0, 0) from rfl)) (z_anyJ (fun j3 => ?_))
  refine z_last X 517 rfl (c518_ok rfl) rfl (by decide) (show 0 < 1 by decide) (cbig_ok rfl) (wd_gen (fun s4 hs4 => ?_))
  have Is4 : Bd s4 := eqB hs4 (bd_D Is1)
  have Fs4 : Fm [22, 23, 24, 34, 35, 38] [33, 26, 27, 28, 29, 30, 31, 32, 20, 48, 47, 49, 50, 51, 53, 54, 55, 56, 1460] s s4 := by rw [hs4]; exact fm_D Gs1 (show 460 + 1000 ∈ _ by decide)
  refine z_goto X (t := 19) rfl rfl (z_const X rfl ?_)
  exact w_iret X.1 q hRt rfl (ax_d X (show cdA 340 20 = some (.ireturn, 1, 0, 0, 0) from rfl)) (show 3 ≤ 3 by decide) (show 18 ≤ 18 by decide) ⟨A, _, hA, rfl, Is4, Fs4, 0, rfl, (by decide), trivial⟩
set_option maxRecDepth 4000 in
theorem lw_lacks (G : GX l s0 D tys a0 dT) (I : Bd s) {x y : Int} (p0 : rng x) (p1 : rng y) (p2 : iI s 12 ≤ 8) : CTL l s0 D A dT 341 (rmN 341) [.ref (A 0), .int (Int32.ofInt x), .int (Int32.ofInt y), .ref (A 517)] s (fun o t => Bd t ∧ Fm [22, 23, 24, 34, 35, 38] [33, 26, 27, 28, 29, 30, 31, 32, 20, 48, 47, 49, 50, 51, 53, 54, 55, 56, 1460] s t ∧ ∃ e, o = .inl (some (.int (Int32.ofInt e))) ∧ rng e ∧ (True)) := by
  refine ctL_of G (by decide) (Nat.le_of_ble_eq_true rfl) (by decide) rfl (fun k X E ET hRt hEx q => ?_)
  show WS k 0 [(0, .ref (A 0)), (1, .int (Int32.ofInt x)), (2, .int (Int32.ofInt y)), (3, .ref (A 517))] [] _ 0 0
  have F : Fm [22, 23, 24, 34, 35, 38] [33, 26, 27, 28, 29, 30, 31, 32, 20, 48, 47, 49, 50, 51, 53, 54, 55, 56, 1460] s s := fm_rf _ _ s
  have hA := swA_rf A
  refine z_aload_n X (x := A 517) rfl (List.Mem.tail _ (List.Mem.tail _ (List.Mem.tail _ (List.Mem.head _)))) (z_const X rfl (z_aload_n X (x := A 0) rfl (List.Mem.head _) (z_load_n X (x := x) rfl (List.Mem.tail _ (List.Mem.head _)) (z_load_n X (x := y) rfl (List.Mem.tail _ (List.Mem.tail _ (List.Mem.head _))) (z_callV X 0 (rm := rmN 167) (As := [.int (Int32.ofInt x), .int (Int32.ofInt y)]) (st := [.int (Int32.ofInt 0), .ref (A 517)]) rfl rfl (by decide) rfl (by rw [E.1, E.2.1, E.2.2.1]; exact cs_lacks G I (by omega) (by omega) (by omega)) ⟨by rw [E.2.2.2]; exact (show (rmN 167).frames + 1 ≤ (rmN 341).frames by decide), by rw [E.2.2.2]; exact (show 8 + (mNL (miB 167) + 11) + (rmN 167).locals ≤ (rmN 341).locals by decide), by rw [E.2.2.2]; exact (show 0 + (rmN 167).cells ≤ (rmN 341).cells by decide), by rw [E.2.2.2]; exact (show 0 + (rmN 167).slots ≤ (rmN 341).slots by decide)⟩ (Nat.le_of_ble_eq_true rfl) (fun vv s1 hq => ?_) (fun ee s1 hq => ?_))))))
  rotate_left
  · obtain ⟨Is1, Fs1, (⟨e2, hv, hrs1, hps1⟩ | ⟨xx, hv, hps1⟩)⟩ := hq
    · cases hv
    · cases hv
      rcases (show xx = 0 by omega) with gx
      ·
        subst gx
        have Gs1 := fm_tq F Fs1 rfl rfl
        refine (hEx 5 0).2 13 rfl _ _ _ _ _ (fun q1 => ?_)
        show WS k 13 [(0, .ref (A 0)), (1, .int (Int32.ofInt x)), (2, .int (Int32.ofInt y)), (3, .ref (A 517))] [.ref q1] (Wd A dT s1) 2 12
        refine z_astore X (lv' := [(4, .ref q1), (0, .ref (A 0)), (1, .int (Int32.ofInt x)), (2, .int (Int32.ofInt y)), (3, .ref (A 517))]) rfl (by decide) (fun _ h => h) (z_const X rfl ?_)
        exact w_iret X.1 q hRt rfl (ax_d X (show cdA 341 16 = some (.ireturn, 1, 0, 0, 0) from rfl)) (show 2 ≤ 2 by decide) (show 12 ≤ 12 by decide) ⟨A, _, hA, rfl, Is1, Gs1, 1, rfl, (by decide), trivial⟩
  obtain ⟨Is1, Fs1, (⟨e2, hv, hrs1, hps1⟩ | ⟨xx, hv, hps1⟩)⟩ := hq
  rotate_left
  · cases hv
  cases hv
  have Gs1 := fm_tq F Fs1 rfl rfl
  show WS k 8 [(0, .ref (A 0)), (1, .int (Int32.ofInt x)), (2, .int (Int32.ofInt y)), (3, .ref (A 517))] [.int (Int32.ofInt e2), .int (Int32.ofInt 0), .ref (A 517)] (Wd A dT s1) 2 12
  refine w_i2l X.1 (ax_d X (show cdA 341 8 = some (.i2l, 1, 0, 0, 0) from rfl)) (z_anyJ (fun j3 => ?_))
  refine z_last X 517 rfl (c518_ok rfl) rfl (by decide) (show 0 < 1 by decide) (cbig_ok rfl) (wd_gen (fun s4 hs4 => ?_))
  have Is4 : Bd s4 := eqB hs4 (bd_D Is1)
  have Fs4 : Fm [22, 23, 24, 34, 35, 38] [33, 26, 27, 28, 29, 30, 31, 32, 20, 48, 47, 49, 50, 51, 53, 54, 55, 56, 1460] s s4 := by rw [hs4]; exact fm_D Gs1 (show 460 + 1000 ∈ _ by decide)
  refine z_goto X (t := 17) rfl rfl (z_const X rfl ?_)
  exact w_iret X.1 q hRt rfl (ax_d X (show cdA 341 18 = some (.ireturn, 1, 0, 0, 0) from rfl)) (show 2 ≤ 2 by decide) (show 12 ≤ 12 by decide) ⟨A, _, hA, rfl, Is4, Fs4, 0, rfl, (by decide), trivial⟩
set_option maxRecDepth 4000 in
theorem lw_enough (G : GX l s0 D tys a0 dT) (I : Bd s) {x : Int} (p0 : rng x) (p1 : iI s 12 ≤ 8) : CTL l s0 D A dT 342 (rmN 342) [.ref (A 0), .int (Int32.ofInt x), .ref (A 517)] s (fun o t => Bd t ∧ Fm [22, 23, 24, 34, 35, 38] [33, 26, 27, 28, 29, 30, 31, 32, 20, 48, 47, 49, 50, 51, 53, 54, 55, 56, 1460] s t ∧ ∃ e, o = .inl (some (.int (Int32.ofInt e))) ∧ rng e ∧ (True)) := by
  refine ctL_of G (by decide) (Nat.le_of_ble_eq_true rfl) (by decide) rfl (fun k X E ET hRt hEx q => ?_)
  show WS k 0 [(0, .ref (A 0)), (1, .int (Int32.ofInt x)), (2, .ref (A 517))] [] _ 0 0
  have F : Fm [22, 23, 24, 34, 35, 38] [33, 26, 27, 28, 29, 30, 31, 32, 20, 48, 47, 49, 50, 51, 53, 54, 55, 56, 1460] s s := fm_rf _ _ s
  have hA := swA_rf A
  refine z_aload_n X (x := A 517) rfl (List.Mem.tail _ (List.Mem.tail _ (List.Mem.head _))) (z_const X rfl (z_aload_n X (x := A 0) rfl (List.Mem.head _) (z_load_n X (x := x) rfl (List.Mem.tail _ (List.Mem.head _)) (z_callV X 0 (rm := rmN 168) (As := [.int (Int32.ofInt x)]) (st := [.int (Int32.ofInt 0), .ref (A 517)]) rfl rfl (by decide) rfl (by rw [E.1, E.2.1, E.2.2.1]; exact cs_enough G I (by omega) (by omega)) ⟨by rw [E.2.2.2]; exact (show (rmN 168).frames + 1 ≤ (rmN 342).frames by decide), by rw [E.2.2.2]; exact (show 8 + (mNL (miB 168) + 11) + (rmN 168).locals ≤ (rmN 342).locals by decide), by rw [E.2.2.2]; exact (show 0 + (rmN 168).cells ≤ (rmN 342).cells by decide), by rw [E.2.2.2]; exact (show 0 + (rmN 168).slots ≤ (rmN 342).slots by decide)⟩ (Nat.le_of_ble_eq_true rfl) (fun vv s1 hq => ?_) (fun ee s1 hq => ?_)))))
  rotate_left
  · obtain ⟨Is1, Fs1, (⟨e2, hv, hrs1, hps1⟩ | ⟨xx, hv, hps1⟩)⟩ := hq
    · cases hv
    · cases hv
      rcases (show xx = 0 by omega) with gx
      ·
        subst gx
        have Gs1 := fm_tq F Fs1 rfl rfl
        refine (hEx 4 0).2 12 rfl _ _ _ _ _ (fun q1 => ?_)
        show WS k 12 [(0, .ref (A 0)), (1, .int (Int32.ofInt x)), (2, .ref (A 517))] [.ref q1] (Wd A dT s1) 1 6
        refine z_astore_n X (lv' := [(3, .ref q1), (0, .ref (A 0)), (1, .int (Int32.ofInt x)), (2, .ref (A 517))]) rfl (by decide) (fun _ h => h) (z_const X rfl ?_)
        exact w_iret X.1 q hRt rfl (ax_d X (show cdA 342 14 = some (.ireturn, 1, 0, 0, 0) from rfl)) (show 1 ≤ 1 by decide) (show 6 ≤ 6 by decide) ⟨A, _, hA, rfl, Is1, Gs1, 1, rfl, (by decide), trivial⟩
  obtain ⟨Is1, Fs1, (⟨e2, hv, hrs1, hps1⟩ | ⟨xx, hv, hps1⟩)⟩ := hq
  rotate_left
  · cases hv
  cases hv
  have Gs1 := fm_tq F Fs1 rfl rfl
  show WS k 7 [(0, .ref (A 0)), (1, .int (Int32.ofInt x)), (2, .ref (A 517))] [.int (Int32.ofInt e2), .int (Int32.ofInt 0), .ref (A 517)] (Wd A dT s1) 1 6
  refine w_i2l X.1 (ax_d X (show cdA 342 7 = some (.i2l, 1, 0, 0, 0) from rfl)) (z_anyJ (fun j3 => ?_))
  refine z_last X 517 rfl (c518_ok rfl) rfl (by decide) (show 0 < 1 by decide) (cbig_ok rfl) (wd_gen (fun s4 hs4 => ?_))
  have Is4 : Bd s4 := eqB hs4 (bd_D Is1)
  have Fs4 : Fm [22, 23, 24, 34, 35, 38] [33, 26, 27, 28, 29, 30, 31, 32, 20, 48, 47, 49, 50, 51, 53, 54, 55, 56, 1460] s s4 := by rw [hs4]; exact fm_D Gs1 (show 460 + 1000 ∈ _ by decide)
  refine z_goto X (t := 15) rfl rfl (z_const X rfl ?_)
  exact w_iret X.1 q hRt rfl (ax_d X (show cdA 342 16 = some (.ireturn, 1, 0, 0, 0) from rfl)) (show 1 ≤ 1 by decide) (show 6 ≤ 6 by decide) ⟨A, _, hA, rfl, Is4, Fs4, 0, rfl, (by decide), trivial⟩
set_option maxRecDepth 4000 in
theorem lw_storm (G : GX l s0 D tys a0 dT) (I : Bd s) {x y : Int} (p0 : rng x) (p1 : y = 0 ∨ y = 1) : CTL l s0 D A dT 343 (rmN 343) [.ref (A 0), .int (Int32.ofInt x), .int (Int32.ofInt y), .ref (A 517)] s (fun o t => Bd t ∧ Fm [1000, 1001] [1460] s t ∧ ∃ e, o = .inl (some (.int (Int32.ofInt e))) ∧ rng e ∧ (True)) := by
  refine ctL_of G (by decide) (Nat.le_of_ble_eq_true rfl) (by decide) rfl (fun k X E ET hRt hEx q => ?_)
  show WS k 0 [(0, .ref (A 0)), (1, .int (Int32.ofInt x)), (2, .int (Int32.ofInt y)), (3, .ref (A 517))] [] _ 0 0
  have F : Fm [1000, 1001] [1460] s s := fm_rf _ _ s
  have hA := swA_rf A
  refine z_aload_n X (x := A 517) rfl (List.Mem.tail _ (List.Mem.tail _ (List.Mem.tail _ (List.Mem.head _)))) (z_const X rfl (z_aload_n X (x := A 0) rfl (List.Mem.head _) (z_load_n X (x := x) rfl (List.Mem.tail _ (List.Mem.head _)) (z_load_n X (x := y) rfl (List.Mem.tail _ (List.Mem.tail _ (List.Mem.head _))) (z_callV X 0 (rm := rmN 169) (As := [.int (Int32.ofInt x), .int (Int32.ofInt y)]) (st := [.int (Int32.ofInt 0), .ref (A 517)]) rfl rfl (by decide) rfl (by rw [E.1, E.2.1, E.2.2.1]; exact cs_storm G I (by first | (clear p1; omega) | omega) (by first | (clear p1; omega) | omega)) ⟨by rw [E.2.2.2]; exact (show (rmN 169).frames + 1 ≤ (rmN 343).frames by decide), by rw [E.2.2.2]; exact (show 8 + (mNL (miB 169) + 11) + (rmN 169).locals ≤ (rmN 343).locals by decide), by rw [E.2.2.2]; exact (show 0 + (rmN 169).cells ≤ (rmN 343).cells by decide), by rw [E.2.2.2]; exact (show 0 + (rmN 169).slots ≤ (rmN 343).slots by decide)⟩ (Nat.le_of_ble_eq_true rfl) (fun vv s1 hq => ?_) (fun ee s1 hq => ?_))))))
  rotate_left
  · obtain ⟨Is1, Fs1, (⟨e2, hv, hrs1, hps1⟩ | ⟨xx, hv, hps1⟩)⟩ := hq
    · cases hv
    · cases hv
      rcases (show xx = 2 by omega) with gx
      ·
        subst gx
        have Gs1 := fm_tq F Fs1 rfl rfl
        refine (hEx 5 2).2 20 rfl _ _ _ _ _ (fun q1 => ?_)
        show WS k 20 [(0, .ref (A 0)), (1, .int (Int32.ofInt x)), (2, .int (Int32.ofInt y)), (3, .ref (A 517))] [.ref q1] (Wd A dT s1) 1 6
        refine z_astore X (lv' := [(4, .ref q1), (0, .ref (A 0)), (1, .int (Int32.ofInt x)), (2, .int (Int32.ofInt y)), (3, .ref (A 517))]) rfl (by decide) (fun _ h => h) (z_const X rfl ?_)
        exact w_iret X.1 q hRt rfl (ax_d X (show cdA 343 23 = some (.ireturn, 1, 0, 0, 0) from rfl)) (show 1 ≤ 1 by decide) (show 6 ≤ 6 by decide) ⟨A, _, hA, rfl, Is1, Gs1, 1, rfl, (by decide), trivial⟩
  obtain ⟨Is1, Fs1, (⟨e2, hv, hrs1, hps1⟩ | ⟨xx, hv, hps1⟩)⟩ := hq
  rotate_left
  · cases hv
  cases hv
  have Gs1 := fm_tq F Fs1 rfl rfl
  show WS k 8 [(0, .ref (A 0)), (1, .int (Int32.ofInt x)), (2, .int (Int32.ofInt y)), (3, .ref (A 517))] [.int (Int32.ofInt e2), .int (Int32.ofInt 0), .ref (A 517)] (Wd A dT s1) 1 6
  have N3 : ∀ j4 : Int64, WS k 16 [(0, .ref (A 0)), (1, .int (Int32.ofInt x)), (2, .int (Int32.ofInt y)), (3, .ref (A 517))] [.long j4, .int (Int32.ofInt 0), .ref (A 517)] (Wd A dT s1) 1 6 := by
    intro j4
    refine z_last X 517 rfl (c518_ok rfl) rfl (by decide) (show 0 < 1 by decide) (cbig_ok rfl) (wd_gen (fun s5 hs5 => ?_))
    have Is5 : Bd s5 := eqB hs5 (bd_D Is1)
    have Fs5 : Fm [1000, 1001] [1460] s s5 := by rw [hs5]; exact fm_D Gs1 (show 460 + 1000 ∈ _ by decide)
    refine z_goto X (t := 24) rfl rfl (z_const X rfl ?_)
    exact w_iret X.1 q hRt rfl (ax_d X (show cdA 343 25 = some (.ireturn, 1, 0, 0, 0) from rfl)) (show 1 ≤ 1 by decide) (show 6 ≤ 6 by decide) ⟨A, _, hA, rfl, Is5, Fs5, 0, rfl, (by decide), trivial⟩
  refine z_if_eq X (t := 15) rfl rfl ⟨by first | (clear hps1 p1; omega) | (clear p1; omega) | omega, by first | (clear hps1 p1; omega) | (clear p1; omega) | omega⟩ (fun g6 => ?_) (fun g6 => ?_)
  ·
    refine w_lconst X.1 (ax_d X (show cdA 343 15 = some (.lconst 0, 1, 0, 0, 0) from rfl)) rfl (z_anyJ (fun j7 => ?_))
    exact N3 _
  ·
    refine w_lconst X.1 (ax_d X (show cdA 343 11 = some (.lconst 1, 1, 0, 0, 0) from rfl)) rfl (z_anyJ (fun j8 => ?_))
    exact z_goto X (t := 16) rfl rfl (N3 _)
set_option maxRecDepth 4000 in
theorem lw_mends (G : GX l s0 D tys a0 dT) (GR : RS0 s0) (I : Bd s) {x y z w : Int} (p0 : rng x) (p1 : rng y) (p2 : rng z) (p3 : rng w) : CTL l s0 D A dT 344 (rmN 344) [.ref (A 0), .int (Int32.ofInt x), .int (Int32.ofInt y), .int (Int32.ofInt z), .int (Int32.ofInt w), .ref (A 517)] s (fun o t => Bd t ∧ Fm [43, 44, 46, 47, 49, 50, 52, 53, 55, 56, 58, 59, 61, 62, 64, 65, 67, 68, 42, 39, 40, 41] [57, 58, 67, 62, 77, 78, 79, 73, 87, 80, 81, 82, 83, 84, 85, 86, 96, 89, 90, 91, 92, 93, 94, 95, 105, 98, 99, 100, 101, 102, 103, 104, 114, 107, 108, 109, 110, 111, 112, 113, 123, 116, 117, 118, 119, 120, 121, 122, 132, 125, 126, 127, 128, 129, 130, 131, 141, 134, 135, 136, 137, 138, 139, 140, 150, 143, 144, 145, 146, 147, 148, 149, 20, 76, 74, 75, 72, 1059, 1060, 1061, 1063, 1460] s t ∧ ∃ e, o = .inl (some (.int (Int32.ofInt e))) ∧ rng e ∧ (True)) := by
  refine ctL_of G (by decide) (Nat.le_of_ble_eq_true rfl) (by decide) rfl (fun k X E ET hRt hEx q => ?_)
  show WS k 0 [(0, .ref (A 0)), (1, .int (Int32.ofInt x)), (2, .int (Int32.ofInt y)), (3, .int (Int32.ofInt z)), (4, .int (Int32.ofInt w)), (5, .ref (A 517))] [] _ 0 0
  have F : Fm [43, 44, 46, 47, 49, 50, 52, 53, 55, 56, 58, 59, 61, 62, 64, 65, 67, 68, 42, 39, 40, 41] [57, 58, 67, 62, 77, 78, 79, 73, 87, 80, 81, 82, 83, 84, 85, 86, 96, 89, 90, 91, 92, 93, 94, 95, 105, 98, 99, 100, 101, 102, 103, 104, 114, 107, 108, 109, 110, 111, 112, 113, 123, 116, 117, 118, 119, 120, 121, 122, 132, 125, 126, 127, 128, 129, 130, 131, 141, 134, 135, 136, 137, 138, 139, 140, 150, 143, 144, 145, 146, 147, 148, 149, 20, 76, 74, 75, 72, 1059, 1060, 1061, 1063, 1460] s s := fm_rf _ _ s
  have hA := swA_rf A
  refine z_aload X (x := A 517) rfl (List.Mem.tail _ (List.Mem.tail _ (List.Mem.tail _ (List.Mem.tail _ (List.Mem.tail _ (List.Mem.head _)))))) (z_const X rfl (z_aload_n X (x := A 0) rfl (List.Mem.head _) (z_load_n X (x := x) rfl (List.Mem.tail _ (List.Mem.head _)) (z_load_n X (x := y) rfl (List.Mem.tail _ (List.Mem.tail _ (List.Mem.head _))) (z_load_n X (x := z) rfl (List.Mem.tail _ (List.Mem.tail _ (List.Mem.tail _ (List.Mem.head _)))) (z_load X (x := w) rfl (List.Mem.tail _ (List.Mem.tail _ (List.Mem.tail _ (List.Mem.tail _ (List.Mem.head _))))) (z_callV X 0 (rm := rmN 170) (As := [.int (Int32.ofInt x), .int (Int32.ofInt y), .int (Int32.ofInt z), .int (Int32.ofInt w)]) (st := [.int (Int32.ofInt 0), .ref (A 517)]) rfl rfl (by decide) rfl (by rw [E.1, E.2.1, E.2.2.1]; exact cs_mends G GR I (by omega) (by omega) (by omega) (by omega)) ⟨by rw [E.2.2.2]; exact (show (rmN 170).frames + 1 ≤ (rmN 344).frames by decide), by rw [E.2.2.2]; exact (show 8 + (mNL (miB 170) + 11) + (rmN 170).locals ≤ (rmN 344).locals by decide), by rw [E.2.2.2]; exact (show 0 + (rmN 170).cells ≤ (rmN 344).cells by decide), by rw [E.2.2.2]; exact (show 0 + (rmN 170).slots ≤ (rmN 344).slots by decide)⟩ (Nat.le_of_ble_eq_true rfl) (fun vv s1 hq => ?_) (fun ee s1 hq => ?_))))))))
  rotate_left
  · obtain ⟨Is1, Fs1, (⟨e2, hv, hrs1, hps1⟩ | ⟨xx, hv, hps1⟩)⟩ := hq
    · cases hv
    · cases hv
      rcases (show xx = 0 by omega) with gx
      ·
        subst gx
        have Gs1 := fm_ts F Fs1 (by decide) (by decide +kernel)
        refine (hEx 9 0).2 17 rfl _ _ _ _ _ (fun q1 => ?_)
        show WS k 17 [(0, .ref (A 0)), (1, .int (Int32.ofInt x)), (2, .int (Int32.ofInt y)), (3, .int (Int32.ofInt z)), (4, .int (Int32.ofInt w)), (5, .ref (A 517))] [.ref q1] (Wd A dT s1) 4 24
        refine z_astore X (lv' := [(6, .ref q1), (0, .ref (A 0)), (1, .int (Int32.ofInt x)), (2, .int (Int32.ofInt y)), (3, .int (Int32.ofInt z)), (4, .int (Int32.ofInt w)), (5, .ref (A 517))]) rfl (by decide) (fun _ h => h) (z_const X rfl ?_)
        exact w_iret X.1 q hRt rfl (ax_d X (show cdA 344 20 = some (.ireturn, 1, 0, 0, 0) from rfl)) (show 4 ≤ 4 by decide) (show 24 ≤ 24 by decide) ⟨A, _, hA, rfl, Is1, Gs1, 1, rfl, (by decide), trivial⟩
  obtain ⟨Is1, Fs1, (⟨e2, hv, hrs1, hps1⟩ | ⟨xx, hv, hps1⟩)⟩ := hq
  rotate_left
  · cases hv
  cases hv
  have Gs1 := fm_ts F Fs1 (by decide) (by decide +kernel)
  show WS k 12 [(0, .ref (A 0)), (1, .int (Int32.ofInt x)), (2, .int (Int32.ofInt y)), (3, .int (Int32.ofInt z)), (4, .int (Int32.ofInt w)), (5, .ref (A 517))] [.int (Int32.ofInt e2), .int (Int32.ofInt 0), .ref (A 517)] (Wd A dT s1) 4 24
  refine w_i2l X.1 (ax_d X (show cdA 344 12 = some (.i2l, 1, 0, 0, 0) from rfl)) (z_anyJ (fun j3 => ?_))
  refine z_last X 517 rfl (c518_ok rfl) rfl (by decide) (show 0 < 1 by decide) (cbig_ok rfl) (wd_gen (fun s4 hs4 => ?_))
  have Is4 : Bd s4 := eqB hs4 (bd_D Is1)
  have Fs4 : Fm [43, 44, 46, 47, 49, 50, 52, 53, 55, 56, 58, 59, 61, 62, 64, 65, 67, 68, 42, 39, 40, 41] [57, 58, 67, 62, 77, 78, 79, 73, 87, 80, 81, 82, 83, 84, 85, 86, 96, 89, 90, 91, 92, 93, 94, 95, 105, 98, 99, 100, 101, 102, 103, 104, 114, 107, 108, 109, 110, 111, 112, 113, 123, 116, 117, 118, 119, 120, 121, 122, 132, 125, 126, 127, 128, 129, 130, 131, 141, 134, 135, 136, 137, 138, 139, 140, 150, 143, 144, 145, 146, 147, 148, 149, 20, 76, 74, 75, 72, 1059, 1060, 1061, 1063, 1460] s s4 := by rw [hs4]; exact fm_D Gs1 (show 460 + 1000 ∈ _ by decide)
  refine z_goto X (t := 21) rfl rfl (z_const X rfl ?_)
  exact w_iret X.1 q hRt rfl (ax_d X (show cdA 344 22 = some (.ireturn, 1, 0, 0, 0) from rfl)) (show 4 ≤ 4 by decide) (show 24 ≤ 24 by decide) ⟨A, _, hA, rfl, Is4, Fs4, 0, rfl, (by decide), trivial⟩
set_option maxRecDepth 4000 in
theorem lw_did (G : GX l s0 D tys a0 dT) (I : Bd s) {x y z w : Int} (p0 : rng x) (p1 : rng y) (p2 : rng z) (p3 : w = 0 ∨ w = 1) : CTL l s0 D A dT 345 (rmN 345) [.ref (A 0), .int (Int32.ofInt x), .int (Int32.ofInt y), .int (Int32.ofInt z), .int (Int32.ofInt w), .ref (A 517)] s (fun o t => Bd t ∧ Fm [22, 23, 70] [33, 26, 27, 28, 29, 30, 31, 32, 152, 153, 154, 1460] s t ∧ ∃ e, o = .inl (some (.int (Int32.ofInt e))) ∧ rng e ∧ (True)) := by
  refine ctL_of G (by decide) (Nat.le_of_ble_eq_true rfl) (by decide) rfl (fun k X E ET hRt hEx q => ?_)
  show WS k 0 [(0, .ref (A 0)), (1, .int (Int32.ofInt x)), (2, .int (Int32.ofInt y)), (3, .int (Int32.ofInt z)), (4, .int (Int32.ofInt w)), (5, .ref (A 517))] [] _ 0 0
  have F : Fm [22, 23, 70] [33, 26, 27, 28, 29, 30, 31, 32, 152, 153, 154, 1460] s s := fm_rf _ _ s
  have hA := swA_rf A
  refine z_aload X (x := A 517) rfl (List.Mem.tail _ (List.Mem.tail _ (List.Mem.tail _ (List.Mem.tail _ (List.Mem.tail _ (List.Mem.head _)))))) (z_const X rfl (z_aload_n X (x := A 0) rfl (List.Mem.head _) (z_load_n X (x := x) rfl (List.Mem.tail _ (List.Mem.head _)) (z_load_n X (x := y) rfl (List.Mem.tail _ (List.Mem.tail _ (List.Mem.head _))) (z_load_n X (x := z) rfl (List.Mem.tail _ (List.Mem.tail _ (List.Mem.tail _ (List.Mem.head _)))) (z_load X (x := w) rfl (List.Mem.tail _ (List.Mem.tail _ (List.Mem.tail _ (List.Mem.tail _ (List.Mem.head _))))) (z_callV X 0 (rm := rmN 171) (As := [.int (Int32.ofInt x), .int (Int32.ofInt y), .int (Int32.ofInt z), .int (Int32.ofInt w)]) (st := [.int (Int32.ofInt 0), .ref (A 517)]) rfl rfl (by decide) rfl (by rw [E.1, E.2.1, E.2.2.1]; exact cs_did G I (by first | (clear p3; omega) | omega) (by first | (clear p3; omega) | omega) (by first | (clear p3; omega) | omega) (by first | (clear p3; omega) | omega)) ⟨by rw [E.2.2.2]; exact (show (rmN 171).frames + 1 ≤ (rmN 345).frames by decide), by rw [E.2.2.2]; exact (show 8 + (mNL (miB 171) + 11) + (rmN 171).locals ≤ (rmN 345).locals by decide), by rw [E.2.2.2]; exact (show 0 + (rmN 171).cells ≤ (rmN 345).cells by decide), by rw [E.2.2.2]; exact (show 0 + (rmN 171).slots ≤ (rmN 345).slots by decide)⟩ (Nat.le_of_ble_eq_true rfl) (fun vv s1 hq => ?_) (fun ee s1 hq => ?_))))))))
  rotate_left
  · obtain ⟨Is1, Fs1, (⟨e2, hv, hrs1, hps1⟩ | ⟨xx, hv, hps1⟩)⟩ := hq
    · cases hv
    · cases hv
      rcases (show xx = 0 by omega) with gx
      ·
        subst gx
        have Gs1 := fm_tq F Fs1 rfl rfl
        refine (hEx 9 0).2 17 rfl _ _ _ _ _ (fun q1 => ?_)
        show WS k 17 [(0, .ref (A 0)), (1, .int (Int32.ofInt x)), (2, .int (Int32.ofInt y)), (3, .int (Int32.ofInt z)), (4, .int (Int32.ofInt w)), (5, .ref (A 517))] [.ref q1] (Wd A dT s1) 3 18
        refine z_astore X (lv' := [(6, .ref q1), (0, .ref (A 0)), (1, .int (Int32.ofInt x)), (2, .int (Int32.ofInt y)), (3, .int (Int32.ofInt z)), (4, .int (Int32.ofInt w)), (5, .ref (A 517))]) rfl (by decide) (fun _ h => h) (z_const X rfl ?_)
        exact w_iret X.1 q hRt rfl (ax_d X (show cdA 345 20 = some (.ireturn, 1, 0, 0, 0) from rfl)) (show 3 ≤ 3 by decide) (show 18 ≤ 18 by decide) ⟨A, _, hA, rfl, Is1, Gs1, 1, rfl, (by decide), trivial⟩
  obtain ⟨Is1, Fs1, (⟨e2, hv, hrs1, hps1⟩ | ⟨xx, hv, hps1⟩)⟩ := hq
  rotate_left
  · cases hv
  cases hv
  have Gs1 := fm_tq F Fs1 rfl rfl
  show WS k 12 [(0, .ref (A 0)), (1, .int (Int32.ofInt x)), (2, .int (Int32.ofInt y)), (3, .int (Int32.ofInt z)), (4, .int (Int32.ofInt w)), (5, .ref (A 517))] [.int (Int32.ofInt e2), .int (Int32.ofInt 0), .ref (A 517)] (Wd A dT s1) 3 18
  refine w_i2l X.1 (ax_d X (show cdA 345 12 = some (.i2l, 1, 0, 0, 0) from rfl)) (z_anyJ (fun j3 => ?_))
  refine z_last X 517 rfl (c518_ok rfl) rfl (by decide) (show 0 < 1 by decide) (cbig_ok rfl) (wd_gen (fun s4 hs4 => ?_))
  have Is4 : Bd s4 := eqB hs4 (bd_D Is1)
  have Fs4 : Fm [22, 23, 70] [33, 26, 27, 28, 29, 30, 31, 32, 152, 153, 154, 1460] s s4 := by rw [hs4]; exact fm_D Gs1 (show 460 + 1000 ∈ _ by decide)
  refine z_goto X (t := 21) rfl rfl (z_const X rfl ?_)
  exact w_iret X.1 q hRt rfl (ax_d X (show cdA 345 22 = some (.ireturn, 1, 0, 0, 0) from rfl)) (show 3 ≤ 3 by decide) (show 18 ≤ 18 by decide) ⟨A, _, hA, rfl, Is4, Fs4, 0, rfl, (by decide), trivial⟩
set_option maxRecDepth 4000 in
theorem lw_fit (G : GX l s0 D tys a0 dT) (I : Bd s) {x : Int} (p0 : rng x) : CTL l s0 D A dT 346 (rmN 346) [.ref (A 0), .int (Int32.ofInt x), .ref (A 517)] s (fun o t => Bd t ∧ Fm [71, 72] [156, 155, 1460] s t ∧ ∃ e, o = .inl (some (.int (Int32.ofInt e))) ∧ rng e ∧ (True)) := by
  refine ctL_of G (by decide) (Nat.le_of_ble_eq_true rfl) (by decide) rfl (fun k X E ET hRt hEx q => ?_)
  show WS k 0 [(0, .ref (A 0)), (1, .int (Int32.ofInt x)), (2, .ref (A 517))] [] _ 0 0
  have F : Fm [71, 72] [156, 155, 1460] s s := fm_rf _ _ s
  have hA := swA_rf A
  refine z_aload_n X (x := A 517) rfl (List.Mem.tail _ (List.Mem.tail _ (List.Mem.head _))) (z_const X rfl (z_aload_n X (x := A 0) rfl (List.Mem.head _) (z_load_n X (x := x) rfl (List.Mem.tail _ (List.Mem.head _)) (z_callV X 0 (rm := rmN 172) (As := [.int (Int32.ofInt x)]) (st := [.int (Int32.ofInt 0), .ref (A 517)]) rfl rfl (by decide) rfl (by rw [E.1, E.2.1, E.2.2.1]; exact cs_fit G I (by omega)) ⟨by rw [E.2.2.2]; exact (show (rmN 172).frames + 1 ≤ (rmN 346).frames by decide), by rw [E.2.2.2]; exact (show 8 + (mNL (miB 172) + 11) + (rmN 172).locals ≤ (rmN 346).locals by decide), by rw [E.2.2.2]; exact (show 0 + (rmN 172).cells ≤ (rmN 346).cells by decide), by rw [E.2.2.2]; exact (show 0 + (rmN 172).slots ≤ (rmN 346).slots by decide)⟩ (Nat.le_of_ble_eq_true rfl) (fun vv s1 hq => ?_) (fun ee s1 hq => ?_)))))
  rotate_left
  · obtain ⟨Is1, Fs1, (⟨e2, hv, hrs1, hps1⟩ | ⟨xx, hv, hps1⟩)⟩ := hq
    · cases hv
    · cases hv
      rcases (show xx = 0 by omega) with gx
      ·
        subst gx
        have Gs1 := fm_tq F Fs1 rfl rfl
        refine (hEx 4 0).2 12 rfl _ _ _ _ _ (fun q1 => ?_)
        show WS k 12 [(0, .ref (A 0)), (1, .int (Int32.ofInt x)), (2, .ref (A 517))] [.ref q1] (Wd A dT s1) 1 6
        refine z_astore_n X (lv' := [(3, .ref q1), (0, .ref (A 0)), (1, .int (Int32.ofInt x)), (2, .ref (A 517))]) rfl (by decide) (fun _ h => h) (z_const X rfl ?_)
        exact w_iret X.1 q hRt rfl (ax_d X (show cdA 346 14 = some (.ireturn, 1, 0, 0, 0) from rfl)) (show 1 ≤ 1 by decide) (show 6 ≤ 6 by decide) ⟨A, _, hA, rfl, Is1, Gs1, 1, rfl, (by decide), trivial⟩
  obtain ⟨Is1, Fs1, (⟨e2, hv, hrs1, hps1⟩ | ⟨xx, hv, hps1⟩)⟩ := hq
  rotate_left
  · cases hv
  cases hv
  have Gs1 := fm_tq F Fs1 rfl rfl
  show WS k 7 [(0, .ref (A 0)), (1, .int (Int32.ofInt x)), (2, .ref (A 517))] [.int (Int32.ofInt e2), .int (Int32.ofInt 0), .ref (A 517)] (Wd A dT s1) 1 6
  refine w_i2l X.1 (ax_d X (show cdA 346 7 = some (.i2l, 1, 0, 0, 0) from rfl)) (z_anyJ (fun j3 => ?_))
  refine z_last X 517 rfl (c518_ok rfl) rfl (by decide) (show 0 < 1 by decide) (cbig_ok rfl) (wd_gen (fun s4 hs4 => ?_))
  have Is4 : Bd s4 := eqB hs4 (bd_D Is1)
  have Fs4 : Fm [71, 72] [156, 155, 1460] s s4 := by rw [hs4]; exact fm_D Gs1 (show 460 + 1000 ∈ _ by decide)
  refine z_goto X (t := 15) rfl rfl (z_const X rfl ?_)
  exact w_iret X.1 q hRt rfl (ax_d X (show cdA 346 16 = some (.ireturn, 1, 0, 0, 0) from rfl)) (show 1 ≤ 1 by decide) (show 6 ≤ 6 by decide) ⟨A, _, hA, rfl, Is4, Fs4, 0, rfl, (by decide), trivial⟩
set_option maxRecDepth 4000 in
theorem lw_lead (G : GX l s0 D tys a0 dT) (I : Bd s) {x y z w : Int} (p0 : rng x) (p1 : rng y) (p2 : rng z) (p3 : w = 0 ∨ w = 1) : CTL l s0 D A dT 347 (rmN 347) [.ref (A 0), .int (Int32.ofInt x), .int (Int32.ofInt y), .int (Int32.ofInt z), .int (Int32.ofInt w), .ref (A 517)] s (fun o t => Bd t ∧ Fm [22, 23] [33, 26, 27, 28, 29, 30, 31, 32, 20, 34, 1460] s t ∧ ∃ e, o = .inl (some (.int (Int32.ofInt e))) ∧ rng e ∧ (True)) := by
  refine ctL_of G (by decide) (Nat.le_of_ble_eq_true rfl) (by decide) rfl (fun k X E ET hRt hEx q => ?_)
  show WS k 0 [(0, .ref (A 0)), (1, .int (Int32.ofInt x)), (2, .int (Int32.ofInt y)), (3, .int (Int32.ofInt z)), (4, .int (Int32.ofInt w)), (5, .ref (A 517))] [] _ 0 0
  have F : Fm [22, 23] [33, 26, 27, 28, 29, 30, 31, 32, 20, 34, 1460] s s := fm_rf _ _ s
  have hA := swA_rf A
  refine z_aload X (x := A 517) rfl (List.Mem.tail _ (List.Mem.tail _ (List.Mem.tail _ (List.Mem.tail _ (List.Mem.tail _ (List.Mem.head _)))))) (z_const X rfl (z_aload_n X (x := A 0) rfl (List.Mem.head _) (z_load_n X (x := x) rfl (List.Mem.tail _ (List.Mem.head _)) (z_load_n X (x := y) rfl (List.Mem.tail _ (List.Mem.tail _ (List.Mem.head _))) (z_load_n X (x := z) rfl (List.Mem.tail _ (List.Mem.tail _ (List.Mem.tail _ (List.Mem.head _)))) (z_load X (x := w) rfl (List.Mem.tail _ (List.Mem.tail _ (List.Mem.tail _ (List.Mem.tail _ (List.Mem.head _))))) (z_callV X 0 (rm := rmN 173) (As := [.int (Int32.ofInt x), .int (Int32.ofInt y), .int (Int32.ofInt z), .int (Int32.ofInt w)]) (st := [.int (Int32.ofInt 0), .ref (A 517)]) rfl rfl (by decide) rfl (by rw [E.1, E.2.1, E.2.2.1]; exact cs_lead G I (by first | (clear p3; omega) | omega) (by first | (clear p3; omega) | omega) (by first | (clear p3; omega) | omega) (by first | (clear p3; omega) | omega)) ⟨by rw [E.2.2.2]; exact (show (rmN 173).frames + 1 ≤ (rmN 347).frames by decide), by rw [E.2.2.2]; exact (show 8 + (mNL (miB 173) + 11) + (rmN 173).locals ≤ (rmN 347).locals by decide), by rw [E.2.2.2]; exact (show 0 + (rmN 173).cells ≤ (rmN 347).cells by decide), by rw [E.2.2.2]; exact (show 0 + (rmN 173).slots ≤ (rmN 347).slots by decide)⟩ (Nat.le_of_ble_eq_true rfl) (fun vv s1 hq => ?_) (fun ee s1 hq => ?_))))))))
  rotate_left
  · obtain ⟨Is1, Fs1, (⟨e2, hv, hrs1, hps1⟩ | ⟨xx, hv, hps1⟩)⟩ := hq
    · cases hv
    · cases hv
      rcases (show xx = 0 by omega) with gx
      ·
        subst gx
        have Gs1 := fm_tq F Fs1 rfl rfl
        refine (hEx 9 0).2 17 rfl _ _ _ _ _ (fun q1 => ?_)
        show WS k 17 [(0, .ref (A 0)), (1, .int (Int32.ofInt x)), (2, .int (Int32.ofInt y)), (3, .int (Int32.ofInt z)), (4, .int (Int32.ofInt w)), (5, .ref (A 517))] [.ref q1] (Wd A dT s1) 2 12
        refine z_astore X (lv' := [(6, .ref q1), (0, .ref (A 0)), (1, .int (Int32.ofInt x)), (2, .int (Int32.ofInt y)), (3, .int (Int32.ofInt z)), (4, .int (Int32.ofInt w)), (5, .ref (A 517))]) rfl (by decide) (fun _ h => h) (z_const X rfl ?_)
        exact w_iret X.1 q hRt rfl (ax_d X (show cdA 347 20 = some (.ireturn, 1, 0, 0, 0) from rfl)) (show 2 ≤ 2 by decide) (show 12 ≤ 12 by decide) ⟨A, _, hA, rfl, Is1, Gs1, 1, rfl, (by decide), trivial⟩
  obtain ⟨Is1, Fs1, (⟨e2, hv, hrs1, hps1⟩ | ⟨xx, hv, hps1⟩)⟩ := hq
  rotate_left
  · cases hv
  cases hv
  have Gs1 := fm_tq F Fs1 rfl rfl
  show WS k 12 [(0, .ref (A 0)), (1, .int (Int32.ofInt x)), (2, .int (Int32.ofInt y)), (3, .int (Int32.ofInt z)), (4, .int (Int32.ofInt w)), (5, .ref (A 517))] [.int (Int32.ofInt e2), .int (Int32.ofInt 0), .ref (A 517)] (Wd A dT s1) 2 12
  refine w_i2l X.1 (ax_d X (show cdA 347 12 = some (.i2l, 1, 0, 0, 0) from rfl)) (z_anyJ (fun j3 => ?_))
  refine z_last X 517 rfl (c518_ok rfl) rfl (by decide) (show 0 < 1 by decide) (cbig_ok rfl) (wd_gen (fun s4 hs4 => ?_))
  have Is4 : Bd s4 := eqB hs4 (bd_D Is1)
  have Fs4 : Fm [22, 23] [33, 26, 27, 28, 29, 30, 31, 32, 20, 34, 1460] s s4 := by rw [hs4]; exact fm_D Gs1 (show 460 + 1000 ∈ _ by decide)
  refine z_goto X (t := 21) rfl rfl (z_const X rfl ?_)
  exact w_iret X.1 q hRt rfl (ax_d X (show cdA 347 22 = some (.ireturn, 1, 0, 0, 0) from rfl)) (show 2 ≤ 2 by decide) (show 12 ≤ 12 by decide) ⟨A, _, hA, rfl, Is4, Fs4, 0, rfl, (by decide), trivial⟩
set_option maxRecDepth 4000 in
theorem lw_quiet (G : GX l s0 D tys a0 dT) (I : Bd s) {x : Int} (p0 : rng x) : CTL l s0 D A dT 349 (rmN 349) [.ref (A 0), .int (Int32.ofInt x), .ref (A 517)] s (fun o t => Bd t ∧ Fm [] [1460] s t ∧ ∃ e, o = .inl (some (.int (Int32.ofInt e))) ∧ rng e ∧ (True)) := by
  refine ctL_of G (by decide) (Nat.le_of_ble_eq_true rfl) (by decide) rfl (fun k X E ET hRt hEx q => ?_)
  show WS k 0 [(0, .ref (A 0)), (1, .int (Int32.ofInt x)), (2, .ref (A 517))] [] _ 0 0
  have F : Fm [] [1460] s s := fm_rf _ _ s
  have hA := swA_rf A
  refine z_aload_n X (x := A 517) rfl (List.Mem.tail _ (List.Mem.tail _ (List.Mem.head _))) (z_const X rfl (z_aload_n X (x := A 0) rfl (List.Mem.head _) (z_load_n X (x := x) rfl (List.Mem.tail _ (List.Mem.head _)) (z_callV X 0 (rm := rmN 175) (As := [.int (Int32.ofInt x)]) (st := [.int (Int32.ofInt 0), .ref (A 517)]) rfl rfl (by decide) rfl (by rw [E.1, E.2.1, E.2.2.1]; exact cs_quiet G I (by omega)) ⟨by rw [E.2.2.2]; exact (show (rmN 175).frames + 1 ≤ (rmN 349).frames by decide), by rw [E.2.2.2]; exact (show 8 + (mNL (miB 175) + 11) + (rmN 175).locals ≤ (rmN 349).locals by decide), by rw [E.2.2.2]; exact (show 0 + (rmN 175).cells ≤ (rmN 349).cells by decide), by rw [E.2.2.2]; exact (show 0 + (rmN 175).slots ≤ (rmN 349).slots by decide)⟩ (Nat.le_of_ble_eq_true rfl) (fun vv s1 hq => ?_) (fun ee s1 hq => ?_)))))
  rotate_left
  · obtain ⟨Is1, Fs1, (⟨e2, hv, hrs1, hps1⟩ | ⟨xx, hv, hps1⟩)⟩ := hq
    · cases hv
    · cases hv
      rcases (show xx = 2 by omega) with gx
      ·
        subst gx
        have Gs1 := fm_tq F Fs1 rfl rfl
        refine (hEx 4 2).2 12 rfl _ _ _ _ _ (fun q1 => ?_)
        show WS k 12 [(0, .ref (A 0)), (1, .int (Int32.ofInt x)), (2, .ref (A 517))] [.ref q1] (Wd A dT s1) 1 6
        refine z_astore_n X (lv' := [(3, .ref q1), (0, .ref (A 0)), (1, .int (Int32.ofInt x)), (2, .ref (A 517))]) rfl (by decide) (fun _ h => h) (z_const X rfl ?_)
        exact w_iret X.1 q hRt rfl (ax_d X (show cdA 349 14 = some (.ireturn, 1, 0, 0, 0) from rfl)) (show 1 ≤ 1 by decide) (show 6 ≤ 6 by decide) ⟨A, _, hA, rfl, Is1, Gs1, 1, rfl, (by decide), trivial⟩
  obtain ⟨Is1, Fs1, (⟨e2, hv, hrs1, hps1⟩ | ⟨xx, hv, hps1⟩)⟩ := hq
  rotate_left
  · cases hv
  cases hv
  have Gs1 := fm_tq F Fs1 rfl rfl
  show WS k 7 [(0, .ref (A 0)), (1, .int (Int32.ofInt x)), (2, .ref (A 517))] [.int (Int32.ofInt e2), .int (Int32.ofInt 0), .ref (A 517)] (Wd A dT s1) 1 6
  refine w_i2l X.1 (ax_d X (show cdA 349 7 = some (.i2l, 1, 0, 0, 0) from rfl)) (z_anyJ (fun j3 => ?_))
  refine z_last X 517 rfl (c518_ok rfl) rfl (by decide) (show 0 < 1 by decide) (cbig_ok rfl) (wd_gen (fun s4 hs4 => ?_))
  have Is4 : Bd s4 := eqB hs4 (bd_D Is1)
  have Fs4 : Fm [] [1460] s s4 := by rw [hs4]; exact fm_D Gs1 (show 460 + 1000 ∈ _ by decide)
  refine z_goto X (t := 15) rfl rfl (z_const X rfl ?_)
  exact w_iret X.1 q hRt rfl (ax_d X (show cdA 349 16 = some (.ireturn, 1, 0, 0, 0) from rfl)) (show 1 ≤ 1 by decide) (show 6 ≤ 6 by decide) ⟨A, _, hA, rfl, Is4, Fs4, 0, rfl, (by decide), trivial⟩
end M87
