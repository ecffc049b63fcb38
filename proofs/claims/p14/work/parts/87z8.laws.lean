/-! The law calls the class -/
section M87k8
variable {l : Launch} {s0 : State} {D : va_G} {tys : List (ClassId × FieldType)} {a0 : Array Value} {A : Nat → Nat} {dT : Nat → ClassId} {s : PS}
set_option maxRecDepth 4000 in
theorem lw_assign6 (G : GX l s0 D tys a0 dT) (I : Bd s) (jPMJ : PMJ s) {u v : Int} (p0 : rng u) (p1 : rng v) : CTL l s0 D A dT 320 (rmN 320) [.ref (A 0), .int (Int32.ofInt u), .int (Int32.ofInt v), .ref (A 517)] s (fun o t => Bd t ∧ Fm [] [21, 1022, 1023, 1460] s t ∧ PMJ t ∧ ∃ e, o = .inl (some (.int (Int32.ofInt e))) ∧ rng e ∧ ((e = 0 ∧ 0 ≤ u ∧ u ≤ 127 ∧ -1 ≤ v ∧ v ≤ 7 ∧ iO t = iC s 21 u.toNat ∧ UPD 21 u v s t) ∨ ((e = 1 ∧ (u < 0 ∨ 127 < u) ∨ e = 2 ∧ 0 ≤ u ∧ u ≤ 127 ∧ (v < -1 ∨ 7 < v)) ∧ SAM 21 s t))) := by
  refine ctL_of G (by decide) (Nat.le_of_ble_eq_true rfl) (by decide) rfl (fun k X E ET hRt hEx q => ?_)
  show WS k 0 [(0, .ref (A 0)), (1, .int (Int32.ofInt u)), (2, .int (Int32.ofInt v)), (3, .ref (A 517))] [] _ 0 0
  have F : Fm [] [21, 1022, 1023, 1460] s s := fm_rf _ _ s
  have aw0_21 : SAM 21 s s := sam_rf
  have hA := swA_rf A
  refine z_aload_n X (x := A 517) rfl (List.Mem.tail _ (List.Mem.tail _ (List.Mem.tail _ (List.Mem.head _)))) (z_const X rfl (z_aload_n X (x := A 0) rfl (List.Mem.head _) (z_load_n X (x := u) rfl (List.Mem.tail _ (List.Mem.head _)) (z_load_n X (x := v) rfl (List.Mem.tail _ (List.Mem.tail _ (List.Mem.head _))) (z_callV X 0 (rm := rmN 143) (As := [.int (Int32.ofInt u), .int (Int32.ofInt v)]) (st := [.int (Int32.ofInt 0), .ref (A 517)]) rfl rfl (by decide) rfl (by rw [E.1, E.2.1, E.2.2.1]; exact cs_assign6 G I jPMJ (by omega) (by omega)) ⟨by rw [E.2.2.2]; exact (show (rmN 143).frames + 1 ≤ (rmN 320).frames by decide), by rw [E.2.2.2]; exact (show 8 + (mNL (miB 143) + 11) + (rmN 143).locals ≤ (rmN 320).locals by decide), by rw [E.2.2.2]; exact (show 0 + (rmN 143).cells ≤ (rmN 320).cells by decide), by rw [E.2.2.2]; exact (show 0 + (rmN 143).slots ≤ (rmN 320).slots by decide)⟩ (Nat.le_of_ble_eq_true rfl) (fun vv s1 hq => ?_) (fun ee s1 hq => ?_))))))
  rotate_left
  · obtain ⟨Is1, Fs1, JPMJ_s1, (⟨e2, hv, hrs1, hps1⟩ | ⟨xx, hv, hps1⟩)⟩ := hq
    · cases hv
    · cases hv
      rcases (show xx = 0 ∨ xx = 2 by omega) with gx | gx
      ·
        subst gx
        have Gs1 := fm_tq F Fs1 rfl rfl
        refine (hEx 5 0).2 17 rfl _ _ _ _ _ (fun q1 => ?_)
        show WS k 17 [(0, .ref (A 0)), (1, .int (Int32.ofInt u)), (2, .int (Int32.ofInt v)), (3, .ref (A 517))] [.ref q1] (Wd A dT s1) 2 12
        refine z_astore X (lv' := [(4, .ref q1), (0, .ref (A 0)), (1, .int (Int32.ofInt u)), (2, .int (Int32.ofInt v)), (3, .ref (A 517))]) rfl (by decide) (fun _ h => h) (z_const X rfl ?_)
        exact w_iret X.1 q hRt rfl (ax_d X (show cdA 320 20 = some (.ireturn, 1, 0, 0, 0) from rfl)) (show 2 ≤ 2 by decide) (show 12 ≤ 12 by decide) ⟨A, _, hA, rfl, Is1, Gs1, JPMJ_s1, 2, rfl, (by decide), Or.inr (⟨by omega, hps1.2⟩)⟩
      ·
        subst gx
        have Gs1 := fm_tq F Fs1 rfl rfl
        refine (hEx 5 2).2 13 rfl _ _ _ _ _ (fun q1 => ?_)
        show WS k 13 [(0, .ref (A 0)), (1, .int (Int32.ofInt u)), (2, .int (Int32.ofInt v)), (3, .ref (A 517))] [.ref q1] (Wd A dT s1) 2 12
        refine z_astore X (lv' := [(4, .ref q1), (0, .ref (A 0)), (1, .int (Int32.ofInt u)), (2, .int (Int32.ofInt v)), (3, .ref (A 517))]) rfl (by decide) (fun _ h => h) (z_const X rfl ?_)
        exact w_iret X.1 q hRt rfl (ax_d X (show cdA 320 16 = some (.ireturn, 1, 0, 0, 0) from rfl)) (show 2 ≤ 2 by decide) (show 12 ≤ 12 by decide) ⟨A, _, hA, rfl, Is1, Gs1, JPMJ_s1, 1, rfl, (by decide), Or.inr (⟨by omega, hps1.2⟩)⟩
  obtain ⟨Is1, Fs1, JPMJ_s1, (⟨e2, hv, hrs1, hps1⟩ | ⟨xx, hv, hps1⟩)⟩ := hq
  rotate_left
  · cases hv
  cases hv
  have Gs1 := fm_tq F Fs1 rfl rfl
  show WS k 8 [(0, .ref (A 0)), (1, .int (Int32.ofInt u)), (2, .int (Int32.ofInt v)), (3, .ref (A 517))] [.int (Int32.ofInt e2), .int (Int32.ofInt 0), .ref (A 517)] (Wd A dT s1) 2 12
  refine w_i2l X.1 (ax_d X (show cdA 320 8 = some (.i2l, 1, 0, 0, 0) from rfl)) (z_last X 517 rfl (c518_ok rfl) rfl (by first | (clear hps1; omega) | omega) (show 0 < 1 by first | (clear hps1; omega) | omega) (cbig_ok rfl) (wd_gen (fun s3 hs3 => ?_)))
  have Is3 : Bd s3 := eqB hs3 (bd_D Is1)
  have Fs3 : Fm [] [21, 1022, 1023, 1460] s s3 := by rw [hs3]; exact fm_D Gs1 (show 460 + 1000 ∈ _ by decide)
  have aws3_21 : UPD 21 u v s s3 := by rw [hs3]; exact hps1.2.2.2.2.2
  have JPMJ_s3 : PMJ s3 := PMJ_fm (L := []) (M := [1460]) (by rw [hs3]; exact fm_D (fm_rf _ _ _) (show 460 + 1000 ∈ _ by decide)) (by decide) JPMJ_s1
  have oos3 : iO s3 = e2 := by rw [hs3]; exact iO_u (by first | (clear hps1; omega) | omega)
  refine z_goto X (t := 21) rfl rfl (z_const X rfl ?_)
  exact w_iret X.1 q hRt rfl (ax_d X (show cdA 320 22 = some (.ireturn, 1, 0, 0, 0) from rfl)) (show 2 ≤ 2 by decide) (show 12 ≤ 12 by decide) ⟨A, _, hA, rfl, Is3, Fs3, JPMJ_s3, 0, rfl, (by decide), Or.inl ⟨by decide, by first | (clear hps1; omega) | omega, by first | (clear hps1; omega) | omega, by first | (clear hps1; omega) | omega, by first | (clear hps1; omega) | omega, by first | (clear hps1; omega) | omega, aws3_21⟩⟩
set_option maxRecDepth 4000 in
theorem lw_paint6 (G : GX l s0 D tys a0 dT) (I : Bd s) (jPMJ : PMJ s) {u v w : Int} (p0 : rng u) (p1 : rng v) (p2 : rng w) : CTL l s0 D A dT 321 (rmN 321) [.ref (A 0), .int (Int32.ofInt u), .int (Int32.ofInt v), .int (Int32.ofInt w), .ref (A 517)] s (fun o t => Bd t ∧ Fm [] [21, 1022, 1023, 1460] s t ∧ PMJ t ∧ ∃ e, o = .inl (some (.int (Int32.ofInt e))) ∧ rng e ∧ ((e = 0 ∧ (0 ≤ u ∧ u ≤ 127 ∧ 0 ≤ v ∧ v ≤ 127) ∧ (-1 ≤ w ∧ w ≤ 7) ∧ u / 64 = v / 64 ∧ u % 8 ≤ v % 8 ∧ u / 8 % 8 ≤ v / 8 % 8 ∧ PNQ (bxC u v) (pfC s) (pfC t) w 128 (iO t)) ∨ ((e = 1 ∧ (u < 0 ∨ 127 < u ∨ v < 0 ∨ 127 < v) ∨ e = 2 ∧ (0 ≤ u ∧ u ≤ 127 ∧ 0 ≤ v ∧ v ≤ 127) ∧ (w < -1 ∨ 7 < w ∨ u / 64 ≠ v / 64 ∨ v % 8 < u % 8 ∨ v / 8 % 8 < u / 8 % 8)) ∧ SAM 21 s t))) := by
  refine ctL_of G (by decide) (Nat.le_of_ble_eq_true rfl) (by decide) rfl (fun k X E ET hRt hEx q => ?_)
  show WS k 0 [(0, .ref (A 0)), (1, .int (Int32.ofInt u)), (2, .int (Int32.ofInt v)), (3, .int (Int32.ofInt w)), (4, .ref (A 517))] [] _ 0 0
  have F : Fm [] [21, 1022, 1023, 1460] s s := fm_rf _ _ s
  have hA := swA_rf A
  refine z_aload X (x := A 517) rfl (List.Mem.tail _ (List.Mem.tail _ (List.Mem.tail _ (List.Mem.tail _ (List.Mem.head _))))) (z_const X rfl (z_aload_n X (x := A 0) rfl (List.Mem.head _) (z_load_n X (x := u) rfl (List.Mem.tail _ (List.Mem.head _)) (z_load_n X (x := v) rfl (List.Mem.tail _ (List.Mem.tail _ (List.Mem.head _))) (z_load_n X (x := w) rfl (List.Mem.tail _ (List.Mem.tail _ (List.Mem.tail _ (List.Mem.head _)))) (z_callV X 0 (rm := rmN 144) (As := [.int (Int32.ofInt u), .int (Int32.ofInt v), .int (Int32.ofInt w)]) (st := [.int (Int32.ofInt 0), .ref (A 517)]) rfl rfl (by decide) rfl (by rw [E.1, E.2.1, E.2.2.1]; exact cs_paint6 G I jPMJ (by omega) (by omega) (by omega)) ⟨by rw [E.2.2.2]; exact (show (rmN 144).frames + 1 ≤ (rmN 321).frames by decide), by rw [E.2.2.2]; exact (show 8 + (mNL (miB 144) + 11) + (rmN 144).locals ≤ (rmN 321).locals by decide), by rw [E.2.2.2]; exact (show 0 + (rmN 144).cells ≤ (rmN 321).cells by decide), by rw [E.2.2.2]; exact (show 0 + (rmN 144).slots ≤ (rmN 321).slots by decide)⟩ (Nat.le_of_ble_eq_true rfl) (fun vv s1 hq => ?_) (fun ee s1 hq => ?_)))))))
  rotate_left
  · obtain ⟨Is1, Fs1, JPMJ_s1, (⟨e2, hv, hrs1, hps1⟩ | ⟨xx, hv, hps1⟩)⟩ := hq
    · cases hv
    · cases hv
      rcases (show xx = 0 ∨ xx = 2 by omega) with gx | gx
      ·
        subst gx
        have Gs1 := fm_tq F Fs1 rfl rfl
        refine (hEx 7 0).2 19 rfl _ _ _ _ _ (fun q1 => ?_)
        show WS k 19 [(0, .ref (A 0)), (1, .int (Int32.ofInt u)), (2, .int (Int32.ofInt v)), (3, .int (Int32.ofInt w)), (4, .ref (A 517))] [.ref q1] (Wd A dT s1) 4 24
        refine z_astore X (lv' := [(5, .ref q1), (0, .ref (A 0)), (1, .int (Int32.ofInt u)), (2, .int (Int32.ofInt v)), (3, .int (Int32.ofInt w)), (4, .ref (A 517))]) rfl (by decide) (fun _ h => h) (z_const X rfl ?_)
        exact w_iret X.1 q hRt rfl (ax_d X (show cdA 321 22 = some (.ireturn, 1, 0, 0, 0) from rfl)) (show 4 ≤ 4 by decide) (show 24 ≤ 24 by decide) ⟨A, _, hA, rfl, Is1, Gs1, JPMJ_s1, 2, rfl, (by decide), Or.inr ⟨by omega, hps1.2⟩⟩
      ·
        subst gx
        have Gs1 := fm_tq F Fs1 rfl rfl
        refine (hEx 7 2).2 15 rfl _ _ _ _ _ (fun q1 => ?_)
        show WS k 15 [(0, .ref (A 0)), (1, .int (Int32.ofInt u)), (2, .int (Int32.ofInt v)), (3, .int (Int32.ofInt w)), (4, .ref (A 517))] [.ref q1] (Wd A dT s1) 4 24
        refine z_astore X (lv' := [(5, .ref q1), (0, .ref (A 0)), (1, .int (Int32.ofInt u)), (2, .int (Int32.ofInt v)), (3, .int (Int32.ofInt w)), (4, .ref (A 517))]) rfl (by decide) (fun _ h => h) (z_const X rfl ?_)
        exact w_iret X.1 q hRt rfl (ax_d X (show cdA 321 18 = some (.ireturn, 1, 0, 0, 0) from rfl)) (show 4 ≤ 4 by decide) (show 24 ≤ 24 by decide) ⟨A, _, hA, rfl, Is1, Gs1, JPMJ_s1, 1, rfl, (by decide), Or.inr ⟨by omega, hps1.2⟩⟩
  obtain ⟨Is1, Fs1, JPMJ_s1, (⟨e2, hv, hrs1, hps1⟩ | ⟨xx, hv, hps1⟩)⟩ := hq
  rotate_left
  · cases hv
  cases hv
  have Gs1 := fm_tq F Fs1 rfl rfl
  show WS k 10 [(0, .ref (A 0)), (1, .int (Int32.ofInt u)), (2, .int (Int32.ofInt v)), (3, .int (Int32.ofInt w)), (4, .ref (A 517))] [.int (Int32.ofInt e2), .int (Int32.ofInt 0), .ref (A 517)] (Wd A dT s1) 4 24
  refine w_i2l X.1 (ax_d X (show cdA 321 10 = some (.i2l, 1, 0, 0, 0) from rfl)) (z_last X 517 rfl (c518_ok rfl) rfl (by first | (clear hps1; omega) | omega) (show 0 < 1 by first | (clear hps1; omega) | omega) (cbig_ok rfl) (wd_gen (fun s3 hs3 => ?_)))
  have Is3 : Bd s3 := eqB hs3 (bd_D Is1)
  have Fs3 : Fm [] [21, 1022, 1023, 1460] s s3 := by rw [hs3]; exact fm_D Gs1 (show 460 + 1000 ∈ _ by decide)
  have JPMJ_s3 : PMJ s3 := PMJ_fm (L := []) (M := [1460]) (by rw [hs3]; exact fm_D (fm_rf _ _ _) (show 460 + 1000 ∈ _ by decide)) (by decide) JPMJ_s1
  have oos3 : iO s3 = e2 := by rw [hs3]; exact iO_u (by first | (clear hps1; omega) | omega)
  refine z_goto X (t := 23) rfl rfl (z_const X rfl ?_)
  exact w_iret X.1 q hRt rfl (ax_d X (show cdA 321 24 = some (.ireturn, 1, 0, 0, 0) from rfl)) (show 4 ≤ 4 by decide) (show 24 ≤ 24 by decide) ⟨A, _, hA, rfl, Is3, Fs3, JPMJ_s3, 0, rfl, (by decide), Or.inl ⟨by decide, by first | (clear hps1; omega) | omega, by first | (clear hps1; omega) | omega, by first | (clear hps1; omega) | omega, by first | (clear hps1; omega) | omega, by first | (clear hps1; omega) | omega, by rw [show iO s3 = e2 by first | (clear hps1; omega) | omega]; exact pnq_s hps1.2.2.2.2.2 rfl (show pfC s1 = pfC s3 from by rw [hs3]; rfl)⟩⟩
set_option maxRecDepth 4000 in
theorem lw_grow6 (G : GX l s0 D tys a0 dT) {U : AirD} (I : Bd s) (jAIR : AIR s) (jCPL : CPL s) (jCDJ : CDJ U s) (jPMJ : PMJ s) (jCCJ : CCJ U s) {u : Int} (p0 : rng u) : CTL l s0 D A dT 331 (rmN 331) [.ref (A 0), .int (Int32.ofInt u), .ref (A 517)] s (fun o t => Bd t ∧ Fm [22, 23, 24, 25, 26, 27] [33, 26, 27, 28, 29, 30, 31, 32, 20, 36, 37, 21, 35, 38, 1022, 1023, 1460] s t ∧ PMJ t ∧ ∃ e, o = .inl (some (.int (Int32.ofInt e))) ∧ rng e ∧ ((e = 0 ∧ 0 ≤ u ∧ u ≤ 20 ∧ GRE U (fun j => iC s 24 j) (pfC s) u (iO t) (pfC t)) ∨ (e = 1 ∧ (u < 0 ∨ 20 < u) ∧ SAM 21 s t))) := by
  refine ctL_of G (by decide) (Nat.le_of_ble_eq_true rfl) (by decide) rfl (fun k X E ET hRt hEx q => ?_)
  show WS k 0 [(0, .ref (A 0)), (1, .int (Int32.ofInt u)), (2, .ref (A 517))] [] _ 0 0
  have F : Fm [22, 23, 24, 25, 26, 27] [33, 26, 27, 28, 29, 30, 31, 32, 20, 36, 37, 21, 35, 38, 1022, 1023, 1460] s s := fm_rf _ _ s
  have hA := swA_rf A
  refine z_aload_n X (x := A 517) rfl (List.Mem.tail _ (List.Mem.tail _ (List.Mem.head _))) (z_const X rfl (z_aload_n X (x := A 0) rfl (List.Mem.head _) (z_load_n X (x := u) rfl (List.Mem.tail _ (List.Mem.head _)) (z_callV X 0 (rm := rmN 156) (As := [.int (Int32.ofInt u)]) (st := [.int (Int32.ofInt 0), .ref (A 517)]) rfl rfl (by decide) rfl (by rw [E.1, E.2.1, E.2.2.1]; exact cs_grow3 G I jAIR jCPL jCDJ jPMJ jCCJ (by omega)) ⟨by rw [E.2.2.2]; exact (show (rmN 156).frames + 1 ≤ (rmN 331).frames by decide), by rw [E.2.2.2]; exact (show 8 + (mNL (miB 156) + 11) + (rmN 156).locals ≤ (rmN 331).locals by decide), by rw [E.2.2.2]; exact (show 0 + (rmN 156).cells ≤ (rmN 331).cells by decide), by rw [E.2.2.2]; exact (show 0 + (rmN 156).slots ≤ (rmN 331).slots by decide)⟩ (Nat.le_of_ble_eq_true rfl) (fun vv s1 hq => ?_) (fun ee s1 hq => ?_)))))
  rotate_left
  · obtain ⟨Is1, Fs1, JPMJ_s1, (⟨e2, hv, hrs1, hps1⟩ | ⟨xx, hv, hps1⟩)⟩ := hq
    · cases hv
    · cases hv
      rcases (show xx = 0 by omega) with gx
      ·
        subst gx
        have Gs1 := fm_tq F Fs1 rfl rfl
        refine (hEx 4 0).2 12 rfl _ _ _ _ _ (fun q1 => ?_)
        show WS k 12 [(0, .ref (A 0)), (1, .int (Int32.ofInt u)), (2, .ref (A 517))] [.ref q1] (Wd A dT s1) 1 6
        refine z_astore_n X (lv' := [(3, .ref q1), (0, .ref (A 0)), (1, .int (Int32.ofInt u)), (2, .ref (A 517))]) rfl (by decide) (fun _ h => h) (z_const X rfl ?_)
        exact w_iret X.1 q hRt rfl (ax_d X (show cdA 331 14 = some (.ireturn, 1, 0, 0, 0) from rfl)) (show 1 ≤ 1 by decide) (show 6 ≤ 6 by decide) ⟨A, _, hA, rfl, Is1, Gs1, JPMJ_s1, 1, rfl, (by decide), Or.inr ⟨by decide, by omega, hps1.2.2⟩⟩
  obtain ⟨Is1, Fs1, JPMJ_s1, (⟨e2, hv, hrs1, hps1⟩ | ⟨xx, hv, hps1⟩)⟩ := hq
  rotate_left
  · cases hv
  cases hv
  have Gs1 := fm_tq F Fs1 rfl rfl
  show WS k 7 [(0, .ref (A 0)), (1, .int (Int32.ofInt u)), (2, .ref (A 517))] [.int (Int32.ofInt e2), .int (Int32.ofInt 0), .ref (A 517)] (Wd A dT s1) 1 6
  refine w_i2l X.1 (ax_d X (show cdA 331 7 = some (.i2l, 1, 0, 0, 0) from rfl)) (z_last X 517 rfl (c518_ok rfl) rfl (by first | (clear hps1; omega) | omega) (show 0 < 1 by first | (clear hps1; omega) | omega) (cbig_ok rfl) (wd_gen (fun s3 hs3 => ?_)))
  have Is3 : Bd s3 := eqB hs3 (bd_D Is1)
  have Fs3 : Fm [22, 23, 24, 25, 26, 27] [33, 26, 27, 28, 29, 30, 31, 32, 20, 36, 37, 21, 35, 38, 1022, 1023, 1460] s s3 := by rw [hs3]; exact fm_D Gs1 (show 460 + 1000 ∈ _ by decide)
  have JPMJ_s3 : PMJ s3 := PMJ_fm (L := []) (M := [1460]) (by rw [hs3]; exact fm_D (fm_rf _ _ _) (show 460 + 1000 ∈ _ by decide)) (by decide) JPMJ_s1
  have oos3 : iO s3 = e2 := by rw [hs3]; exact iO_u (by first | (clear hps1; omega) | omega)
  refine z_goto X (t := 15) rfl rfl (z_const X rfl ?_)
  exact w_iret X.1 q hRt rfl (ax_d X (show cdA 331 16 = some (.ireturn, 1, 0, 0, 0) from rfl)) (show 1 ≤ 1 by decide) (show 6 ≤ 6 by decide) ⟨A, _, hA, rfl, Is3, Fs3, JPMJ_s3, 0, rfl, (by decide), Or.inl ⟨by decide, by first | (clear hps1; omega) | omega, by first | (clear hps1; omega) | omega, by rw [show iO s3 = e2 by first | (clear hps1; omega) | omega]; exact gre_s hps1.2 (show pfC s1 = pfC s3 from by rw [hs3]; rfl)⟩⟩
set_option maxRecDepth 4000 in
theorem lw_flow5 (G : GX l s0 D tys a0 dT) (I : Bd s) (jMOI : MOI s) (jTWJ : TWJ s) {u v p w : Int} (p0 : rng u) (p1 : rng v) (p2 : rng p) (p3 : rng w) : CTL l s0 D A dT 317 (rmN 317) [.ref (A 0), .int (Int32.ofInt u), .int (Int32.ofInt v), .int (Int32.ofInt p), .int (Int32.ofInt w)] s (fun o t => Bd t ∧ Fm [] [8, 11, 12, 13, 14] s t ∧ TWJ t ∧ ∃ e, o = .inl (some (.int (Int32.ofInt e))) ∧ rng e ∧ ((e = 0 ∧ 0 ≤ u ∧ u < iI s 9 ∧ 0 ≤ v ∧ v ≤ 23 ∧ 0 ≤ p ∧ p ≤ 23 ∧ v ≤ p ∧ 0 ≤ w ∧ w ≤ 50 ∧ MOI t ∧ FLU (CNR s) (CNR t) u v (p + 1) w ∧ SAM 10 s t ∧ SAM 9 s t) ∨ (e = 1 ∧ (u < 0 ∨ iI s 9 ≤ u) ∧ SA4 s t) ∨ (e = 2 ∧ 0 ≤ u ∧ u < iI s 9 ∧ (v < 0 ∨ 23 < v ∨ p < 0 ∨ 23 < p ∨ p < v ∨ w < 0 ∨ 50 < w) ∧ SA4 s t))) := by
  refine ctL_of G (by decide) (Nat.le_of_ble_eq_true rfl) (by decide) rfl (fun k X E ET hRt hEx q => ?_)
  show WS k 0 [(0, .ref (A 0)), (1, .int (Int32.ofInt u)), (2, .int (Int32.ofInt v)), (3, .int (Int32.ofInt p)), (4, .int (Int32.ofInt w))] [] _ 0 0
  have F : Fm [] [8, 11, 12, 13, 14] s s := fm_rf _ _ s
  have hA := swA_rf A
  have b1 := bi_9 I
  refine z_aload_n X (x := A 0) rfl (List.Mem.head _) (z_load_n X (x := u) rfl (List.Mem.tail _ (List.Mem.head _)) (z_load_n X (x := v) rfl (List.Mem.tail _ (List.Mem.tail _ (List.Mem.head _))) (z_load_n X (x := p) rfl (List.Mem.tail _ (List.Mem.tail _ (List.Mem.tail _ (List.Mem.head _)))) (z_load X (x := w) rfl (List.Mem.tail _ (List.Mem.tail _ (List.Mem.tail _ (List.Mem.tail _ (List.Mem.head _))))) (z_callV X 0 (rm := rmN 140) (As := [.int (Int32.ofInt u), .int (Int32.ofInt v), .int (Int32.ofInt p), .int (Int32.ofInt w)]) (st := []) rfl rfl (by decide) rfl (by rw [E.1, E.2.1, E.2.2.1]; exact cs_flow5 G I jMOI jTWJ (by omega) (by omega) (by omega) (by omega)) ⟨by rw [E.2.2.2]; exact (show (rmN 140).frames + 1 ≤ (rmN 317).frames by decide), by rw [E.2.2.2]; exact (show 8 + (mNL (miB 140) + 11) + (rmN 140).locals ≤ (rmN 317).locals by decide), by rw [E.2.2.2]; exact (show 0 + (rmN 140).cells ≤ (rmN 317).cells by decide), by rw [E.2.2.2]; exact (show 0 + (rmN 140).slots ≤ (rmN 317).slots by decide)⟩ (Nat.le_of_ble_eq_true rfl) (fun vv s2 hq => ?_) (fun ee s2 hq => ?_))))))
  rotate_left
  · obtain ⟨Is2, Fs2, JTWJ_s2, (⟨hv, hps2⟩ | ⟨xx, hv, hps2⟩)⟩ := hq
    · cases hv
    · cases hv
      rcases (show xx = 0 ∨ xx = 1 by omega) with gx | gx
      ·
        subst gx
        have Gs2 := fm_tq F Fs2 rfl rfl
        have ws2_9 : iI s2 9 = iI s 9 := fm_iq Fs2 rfl
        refine (hEx 6 0).2 16 rfl _ _ _ _ _ (fun q1 => ?_)
        show WS k 16 [(0, .ref (A 0)), (1, .int (Int32.ofInt u)), (2, .int (Int32.ofInt v)), (3, .int (Int32.ofInt p)), (4, .int (Int32.ofInt w))] [.ref q1] (Wd A dT s2) 5 30
        refine z_astore X (lv' := [(5, .ref q1), (0, .ref (A 0)), (1, .int (Int32.ofInt u)), (2, .int (Int32.ofInt v)), (3, .int (Int32.ofInt p)), (4, .int (Int32.ofInt w))]) rfl (by decide) (fun _ h => h) (z_const X rfl ?_)
        exact w_iret X.1 q hRt rfl (ax_d X (show cdA 317 19 = some (.ireturn, 1, 0, 0, 0) from rfl)) (show 5 ≤ 5 by decide) (show 30 ≤ 30 by decide) ⟨A, _, hA, rfl, Is2, Gs2, JTWJ_s2, 2, rfl, (by decide), Or.inr (Or.inr ⟨by decide, by omega, by omega, by omega, hps2.2⟩)⟩
      ·
        subst gx
        have Gs2 := fm_tq F Fs2 rfl rfl
        have ws2_9 : iI s2 9 = iI s 9 := fm_iq Fs2 rfl
        refine (hEx 6 1).2 12 rfl _ _ _ _ _ (fun q1 => ?_)
        show WS k 12 [(0, .ref (A 0)), (1, .int (Int32.ofInt u)), (2, .int (Int32.ofInt v)), (3, .int (Int32.ofInt p)), (4, .int (Int32.ofInt w))] [.ref q1] (Wd A dT s2) 5 30
        refine z_astore X (lv' := [(5, .ref q1), (0, .ref (A 0)), (1, .int (Int32.ofInt u)), (2, .int (Int32.ofInt v)), (3, .int (Int32.ofInt p)), (4, .int (Int32.ofInt w))]) rfl (by decide) (fun _ h => h) (z_const X rfl ?_)
        exact w_iret X.1 q hRt rfl (ax_d X (show cdA 317 15 = some (.ireturn, 1, 0, 0, 0) from rfl)) (show 5 ≤ 5 by decide) (show 30 ≤ 30 by decide) ⟨A, _, hA, rfl, Is2, Gs2, JTWJ_s2, 1, rfl, (by decide), Or.inr (Or.inl ⟨by decide, by omega, hps2.2⟩)⟩
  obtain ⟨Is2, Fs2, JTWJ_s2, (⟨hv, hps2⟩ | ⟨xx, hv, hps2⟩)⟩ := hq
  rotate_left
  · cases hv
  cases hv
  have Gs2 := fm_tq F Fs2 rfl rfl
  have ws2_9 : iI s2 9 = iI s 9 := fm_iq Fs2 rfl
  show WS k 9 [(0, .ref (A 0)), (1, .int (Int32.ofInt u)), (2, .int (Int32.ofInt v)), (3, .int (Int32.ofInt p)), (4, .int (Int32.ofInt w))] [] (Wd A dT s2) 5 30
  refine z_goto X (t := 20) rfl rfl (z_const X rfl ?_)
  exact w_iret X.1 q hRt rfl (ax_d X (show cdA 317 21 = some (.ireturn, 1, 0, 0, 0) from rfl)) (show 5 ≤ 5 by decide) (show 30 ≤ 30 by decide) ⟨A, _, hA, rfl, Is2, Gs2, JTWJ_s2, 0, rfl, (by decide), Or.inl ⟨by decide, hps2⟩⟩
set_option maxRecDepth 4000 in
theorem lw_span5 (G : GX l s0 D tys a0 dT) (I : Bd s) (jMOI : MOI s) (jTWJ : TWJ s) {u y z : Int} (p0 : rng u) (p1 : rng y) (p2 : rng z) : CTL l s0 D A dT 318 (rmN 318) [.ref (A 0), .int (Int32.ofInt u), .int (Int32.ofInt y), .int (Int32.ofInt z)] s (fun o t => Bd t ∧ Fm [] [9, 10, 11, 12, 13, 14] s t ∧ TWJ t ∧ ∃ e, o = .inl (some (.int (Int32.ofInt e))) ∧ rng e ∧ ((e = 0 ∧ 0 ≤ u ∧ u < iI s 9 ∧ 0 ≤ y ∧ y ≤ 2 ∧ 0 ≤ z ∧ z ≤ 2 ∧ MOI t ∧ UPD 9 u y s t ∧ UPD 10 u z s t ∧ SAM 8 s t) ∨ (e = 1 ∧ (u < 0 ∨ iI s 9 ≤ u) ∧ SA4 s t) ∨ (e = 2 ∧ 0 ≤ u ∧ u < iI s 9 ∧ (y < 0 ∨ 2 < y ∨ z < 0 ∨ 2 < z) ∧ SA4 s t))) := by
  refine ctL_of G (by decide) (Nat.le_of_ble_eq_true rfl) (by decide) rfl (fun k X E ET hRt hEx q => ?_)
  show WS k 0 [(0, .ref (A 0)), (1, .int (Int32.ofInt u)), (2, .int (Int32.ofInt y)), (3, .int (Int32.ofInt z))] [] _ 0 0
  have F : Fm [] [9, 10, 11, 12, 13, 14] s s := fm_rf _ _ s
  have hA := swA_rf A
  have b1 := bi_9 I
  refine z_aload_n X (x := A 0) rfl (List.Mem.head _) (z_load_n X (x := u) rfl (List.Mem.tail _ (List.Mem.head _)) (z_load_n X (x := y) rfl (List.Mem.tail _ (List.Mem.tail _ (List.Mem.head _))) (z_load_n X (x := z) rfl (List.Mem.tail _ (List.Mem.tail _ (List.Mem.tail _ (List.Mem.head _)))) (z_callV X 0 (rm := rmN 141) (As := [.int (Int32.ofInt u), .int (Int32.ofInt y), .int (Int32.ofInt z)]) (st := []) rfl rfl (by decide) rfl (by rw [E.1, E.2.1, E.2.2.1]; exact cs_span5 G I jMOI jTWJ (by omega) (by omega) (by omega)) ⟨by rw [E.2.2.2]; exact (show (rmN 141).frames + 1 ≤ (rmN 318).frames by decide), by rw [E.2.2.2]; exact (show 8 + (mNL (miB 141) + 11) + (rmN 141).locals ≤ (rmN 318).locals by decide), by rw [E.2.2.2]; exact (show 0 + (rmN 141).cells ≤ (rmN 318).cells by decide), by rw [E.2.2.2]; exact (show 0 + (rmN 141).slots ≤ (rmN 318).slots by decide)⟩ (Nat.le_of_ble_eq_true rfl) (fun vv s2 hq => ?_) (fun ee s2 hq => ?_)))))
  rotate_left
  · obtain ⟨Is2, Fs2, JTWJ_s2, (⟨hv, hps2⟩ | ⟨xx, hv, hps2⟩)⟩ := hq
    · cases hv
    · cases hv
      rcases (show xx = 0 ∨ xx = 1 by omega) with gx | gx
      ·
        subst gx
        have Gs2 := fm_tq F Fs2 rfl rfl
        have ws2_9 : iI s2 9 = iI s 9 := fm_iq Fs2 rfl
        refine (hEx 4 0).2 14 rfl _ _ _ _ _ (fun q1 => ?_)
        show WS k 14 [(0, .ref (A 0)), (1, .int (Int32.ofInt u)), (2, .int (Int32.ofInt y)), (3, .int (Int32.ofInt z))] [.ref q1] (Wd A dT s2) 3 18
        refine z_astore X (lv' := [(4, .ref q1), (0, .ref (A 0)), (1, .int (Int32.ofInt u)), (2, .int (Int32.ofInt y)), (3, .int (Int32.ofInt z))]) rfl (by decide) (fun _ h => h) (z_const X rfl ?_)
        exact w_iret X.1 q hRt rfl (ax_d X (show cdA 318 17 = some (.ireturn, 1, 0, 0, 0) from rfl)) (show 3 ≤ 3 by decide) (show 18 ≤ 18 by decide) ⟨A, _, hA, rfl, Is2, Gs2, JTWJ_s2, 2, rfl, (by decide), Or.inr (Or.inr ⟨by decide, by omega, by omega, by omega, hps2.2⟩)⟩
      ·
        subst gx
        have Gs2 := fm_tq F Fs2 rfl rfl
        have ws2_9 : iI s2 9 = iI s 9 := fm_iq Fs2 rfl
        refine (hEx 4 1).2 10 rfl _ _ _ _ _ (fun q1 => ?_)
        show WS k 10 [(0, .ref (A 0)), (1, .int (Int32.ofInt u)), (2, .int (Int32.ofInt y)), (3, .int (Int32.ofInt z))] [.ref q1] (Wd A dT s2) 3 18
        refine z_astore X (lv' := [(4, .ref q1), (0, .ref (A 0)), (1, .int (Int32.ofInt u)), (2, .int (Int32.ofInt y)), (3, .int (Int32.ofInt z))]) rfl (by decide) (fun _ h => h) (z_const X rfl ?_)
        exact w_iret X.1 q hRt rfl (ax_d X (show cdA 318 13 = some (.ireturn, 1, 0, 0, 0) from rfl)) (show 3 ≤ 3 by decide) (show 18 ≤ 18 by decide) ⟨A, _, hA, rfl, Is2, Gs2, JTWJ_s2, 1, rfl, (by decide), Or.inr (Or.inl ⟨by decide, by omega, hps2.2⟩)⟩
  obtain ⟨Is2, Fs2, JTWJ_s2, (⟨hv, hps2⟩ | ⟨xx, hv, hps2⟩)⟩ := hq
  rotate_left
  · cases hv
  cases hv
  have Gs2 := fm_tq F Fs2 rfl rfl
  have ws2_9 : iI s2 9 = iI s 9 := fm_iq Fs2 rfl
  show WS k 7 [(0, .ref (A 0)), (1, .int (Int32.ofInt u)), (2, .int (Int32.ofInt y)), (3, .int (Int32.ofInt z))] [] (Wd A dT s2) 3 18
  refine z_goto X (t := 18) rfl rfl (z_const X rfl ?_)
  exact w_iret X.1 q hRt rfl (ax_d X (show cdA 318 19 = some (.ireturn, 1, 0, 0, 0) from rfl)) (show 3 ≤ 3 by decide) (show 18 ≤ 18 by decide) ⟨A, _, hA, rfl, Is2, Gs2, JTWJ_s2, 0, rfl, (by decide), Or.inl ⟨by decide, hps2⟩⟩
set_option maxRecDepth 4000 in
theorem lw_rules4 (G : GX l s0 D tys a0 dT) {B : Nat → Int} (SF : SF0 s0) (GT : TXw0 s0) (I : Bd s) (jBYA : BYA B s) {w : Int} (p0 : rng w) (p1 : 0 ≤ iI s 12 ∧ iI s 12 ≤ 8) : CTL l s0 D A dT 315 (rmN 315) [.ref (A 0), .int (Int32.ofInt w), .ref (A 517)] s (fun o t => Bd t ∧ Fm [2, 4, 6, 5, 7, 8, 19, 16, 17, 18, 12, 13, 14, 15, 1, 3, 0] [16, 17, 18, 19, 1460] s t ∧ ∃ e, o = .inl (some (.int (Int32.ofInt e))) ∧ rng e ∧ (((e = 0 ∧ iI t 0 = 0 ∧ 0 ≤ w ∧ w ≤ iI s 0 ∧ ((0 ≤ iO t ∧ RLC B w (iO t) t) ∨ (iO t < 0 ∧ RUA B w (iO t) ∧ iI t 13 = iI s 13 ∧ iI t 15 = iI s 15 ∧ SAM 16 s t ∧ SAM 17 s t))) ∨ (e = 1 ∧ iI t 0 = iI s 0 ∧ (w < 0 ∨ iI s 0 < w) ∧ iI t 13 = iI s 13 ∧ iI t 15 = iI s 15 ∧ SAM 16 s t ∧ SAM 17 s t)) ∧ iI t 12 ≤ 8)) := by
  refine ctL_of G (by decide) (Nat.le_of_ble_eq_true rfl) (by decide) rfl (fun k X E ET hRt hEx q => ?_)
  show WS k 0 [(0, .ref (A 0)), (1, .int (Int32.ofInt w)), (2, .ref (A 517))] [] _ 0 0
  have F : Fm [2, 4, 6, 5, 7, 8, 19, 16, 17, 18, 12, 13, 14, 15, 1, 3, 0] [16, 17, 18, 19, 1460] s s := fm_rf _ _ s
  have hA := swA_rf A
  have b1 := bi_0 I
  have b2 := bi_12 I
  have b3 := bi_13 I
  have b4 := bi_15 I
  refine z_aload_n X (x := A 517) rfl (List.Mem.tail _ (List.Mem.tail _ (List.Mem.head _))) (z_const X rfl (z_aload_n X (x := A 0) rfl (List.Mem.head _) (z_load_n X (x := w) rfl (List.Mem.tail _ (List.Mem.head _)) (z_callVX X 0 (rm := rmN 137) (As := [.int (Int32.ofInt w)]) (st := [.int (Int32.ofInt 0), .ref (A 517)]) rfl rfl (by decide) rfl (by rw [E.1, E.2.1, E.2.2.1]; exact cs_rules4 G SF GT I jBYA (by omega) (by omega)) ⟨by rw [E.2.2.2]; exact (show (rmN 137).frames + 1 ≤ (rmN 315).frames by decide), by rw [E.2.2.2]; exact (show 8 + (mNL (miB 137) + 11) + (rmN 137).locals ≤ (rmN 315).locals by decide), by rw [E.2.2.2]; exact (show 0 + (rmN 137).cells ≤ (rmN 315).cells by decide), by rw [E.2.2.2]; exact (show 0 + (rmN 137).slots ≤ (rmN 315).slots by decide)⟩ (Nat.le_of_ble_eq_true rfl) (fun vv A s5 hA2 hq => ?_) (fun ee A s5 hA2 hq => ?_)))))
  rotate_left
  · obtain ⟨Is5, Fs5, (⟨e6, hv, hrs5, hps5⟩ | ⟨xx, hv, hps5⟩)⟩ := hq
    · cases hv
    · cases hv
      rcases (show xx = 0 by omega) with gx
      ·
        subst gx
        replace hA := swA_ts hA hA2
        rw [← hA2 0 (by decide)]
        rw [← hA2 517 (by decide)]
        have Gs5 := fm_tq F Fs5 rfl rfl
        have b7 := bi_0 Is5
        have b8 := bi_12 Is5
        have b9 := bi_13 Is5
        have b10 := bi_15 Is5
        refine (hEx 4 0).2 12 rfl _ _ _ _ _ (fun q1 => ?_)
        show WS k 12 [(0, .ref (A 0)), (1, .int (Int32.ofInt w)), (2, .ref (A 517))] [.ref q1] (Wd A dT s5) 1 6
        refine z_astore_n X (lv' := [(3, .ref q1), (0, .ref (A 0)), (1, .int (Int32.ofInt w)), (2, .ref (A 517))]) rfl (by decide) (fun _ h => h) (z_const X rfl ?_)
        exact w_iret X.1 q hRt rfl (ax_d X (show cdA 315 14 = some (.ireturn, 1, 0, 0, 0) from rfl)) (show 1 ≤ 1 by decide) (show 6 ≤ 6 by decide) ⟨A, _, hA, rfl, Is5, Gs5, 1, rfl, (by decide), ⟨Or.inr ⟨by decide, by omega, by omega, by omega, by omega, hps5.2.2.2.2.2.2.2.1, hps5.2.2.2.2.2.2.2.2⟩, by omega⟩⟩
  obtain ⟨Is5, Fs5, (⟨e6, hv, hrs5, hps5⟩ | ⟨xx, hv, hps5⟩)⟩ := hq
  rotate_left
  · cases hv
  cases hv
  replace hA := swA_ts hA hA2
  rw [← hA2 0 (by decide)]
  rw [← hA2 517 (by decide)]
  have Gs5 := fm_tq F Fs5 rfl rfl
  have b11 := bi_0 Is5
  have b12 := bi_12 Is5
  have b13 := bi_13 Is5
  have b14 := bi_15 Is5
  show WS k 7 [(0, .ref (A 0)), (1, .int (Int32.ofInt w)), (2, .ref (A 517))] [.int (Int32.ofInt e6), .int (Int32.ofInt 0), .ref (A 517)] (Wd A dT s5) 1 6
  refine w_i2l X.1 (ax_d X (show cdA 315 7 = some (.i2l, 1, 0, 0, 0) from rfl)) (z_last X 517 rfl (c518_ok rfl) rfl (by first | (clear hps5; omega) | omega) (show 0 < 1 by first | (clear hps5; omega) | omega) (cbig_ok rfl) (wd_gen (fun s15 hs15 => ?_)))
  have Is15 : Bd s15 := eqB hs15 (bd_D Is5)
  have Fs15 : Fm [2, 4, 6, 5, 7, 8, 19, 16, 17, 18, 12, 13, 14, 15, 1, 3, 0] [16, 17, 18, 19, 1460] s s15 := by rw [hs15]; exact fm_D Gs5 (show 460 + 1000 ∈ _ by decide)
  have ws15_0 : iI s15 0 = iI s5 0 := eqI hs15 rfl
  have ws15_12 : iI s15 12 = iI s5 12 := eqI hs15 rfl
  have ws15_13 : iI s15 13 = iI s5 13 := eqI hs15 rfl
  have ws15_15 : iI s15 15 = iI s5 15 := eqI hs15 rfl
  have oos15 : iO s15 = e6 := by rw [hs15]; exact iO_u (by first | (clear hps5; omega) | omega)
  refine z_goto X (t := 15) rfl rfl (z_const X rfl ?_)
  exact w_iret X.1 q hRt rfl (ax_d X (show cdA 315 16 = some (.ireturn, 1, 0, 0, 0) from rfl)) (show 1 ≤ 1 by decide) (show 6 ≤ 6 by decide) ⟨A, _, hA, rfl, Is15, Fs15, 0, rfl, (by decide), ⟨Or.inl ⟨by decide, by first | (clear hps5; omega) | omega, by first | (clear hps5; omega) | omega, by first | (clear hps5; omega) | omega, hps5.2.2.2.2.2.elim (fun q => Or.inl ⟨by first | (clear hps5; omega) | omega, by rw [show iO s15 = e6 by first | (clear hps5; omega) | omega, hs15]; exact q.2⟩) (fun q => Or.inr ⟨by first | (clear hps5; omega) | omega, by rw [show iO s15 = e6 by first | (clear hps5; omega) | omega]; exact q.2.1, by first | (clear hps5; omega) | omega, by first | (clear hps5; omega) | omega, sam_ts q.2.2.2.2.1 (fun j => by rw [hs15]; rfl), sam_ts q.2.2.2.2.2 (fun j => by rw [hs15]; rfl)⟩)⟩, by first | (clear hps5; omega) | omega⟩⟩
end M87k8
