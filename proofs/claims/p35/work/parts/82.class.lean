/-! The class: its own methods -/
section M82
variable {l : Launch} {s0 : State} {D : va_G} {tys : List (ClassId × FieldType)} {a0 : Array Value} {A : Nat → Nat} {dT : Nat → ClassId} {s : PS}
set_option maxRecDepth 4000 in
theorem cs_needWithin (G : GX l s0 D tys a0 dT) (I : Bd s) {x y z : Int} (p0 : rng x) (p1 : rng y) (p2 : rng z) : CT l s0 D A dT 184 (rmN 184) [.ref (A 0), .int (Int32.ofInt x), .int (Int32.ofInt y), .int (Int32.ofInt z)] s (fun o t => Bd t ∧ Fm [] [] s t ∧ ((o = .inl none ∧ (y ≤ x ∧ x ≤ z)) ∨ ∃ x : Nat, o = .inr (exN x) ∧ (x = 0))) := by
  refine ct_ofX G (by decide) (Nat.le_of_ble_eq_true rfl) (fun k X E ET hRt hXt q => ?_)
  show WS k 0 [(0, .ref (A 0)), (1, .int (Int32.ofInt x)), (2, .int (Int32.ofInt y)), (3, .int (Int32.ofInt z))] [] _ 0 0
  have F : Fm [] [] s s := fm_rf _ _ s
  refine z_load_n X (x := x) (show cdA 184 0 = some (.iload_n 1, 1, 0, 0, 0) from rfl) (List.Mem.tail _ (List.Mem.head _)) ?_
  refine z_load_n X (x := y) (show cdA 184 1 = some (.iload_n 2, 1, 0, 0, 0) from rfl) (List.Mem.tail _ (List.Mem.tail _ (List.Mem.head _))) ?_
  refine z_icmp_lt X (t := 10) (show cdA 184 2 = some (.if_icmp .lt 8, 3, 2, 0, 0) from rfl) (by decide) ⟨by first | exact p0.1 | omega, by first | exact p0.2 | omega⟩ ⟨by first | exact p1.1 | omega, by first | exact p1.2 | omega⟩ (fun g1 => ?_) (fun g1 => ?_)
  ·
    exact z_throw G X E ET hXt q (st := []) (show cdA 184 10 = some (.new 108, 3, 0, 2, 0) from rfl) (by decide) (by decide) (Nat.le_of_ble_eq_true rfl) (show 0 + 1 ≤ 1 by omega) (show 0 + 6 ≤ 6 by omega) (show 0 + 1 ≤ 1 by omega) (show 0 + 6 ≤ 6 by omega) ⟨_, rfl, I, F, Or.inr ⟨0, rfl, by omega⟩⟩
  ·
    refine z_load_n X (x := x) (show cdA 184 5 = some (.iload_n 1, 1, 0, 0, 0) from rfl) (List.Mem.tail _ (List.Mem.head _)) ?_
    refine z_load_n X (x := z) (show cdA 184 6 = some (.iload_n 3, 1, 0, 0, 0) from rfl) (List.Mem.tail _ (List.Mem.tail _ (List.Mem.tail _ (List.Mem.head _)))) ?_
    refine z_icmp_le X (t := 21) (show cdA 184 7 = some (.if_icmp .le 14, 3, 5, 0, 0) from rfl) (by decide) ⟨by first | exact p0.1 | omega, by first | exact p0.2 | omega⟩ ⟨by first | exact p2.1 | omega, by first | exact p2.2 | omega⟩ (fun g2 => ?_) (fun g2 => ?_)
    ·
      exact w_vret X.1 q hRt (ax_d X (show cdA 184 21 = some (.return_, 1, 0, 0, 0) from rfl)) (Nat.zero_le _) (Nat.zero_le _) ⟨_, rfl, I, F, Or.inl ⟨rfl, by first | exact ⟨g1, g2⟩ | omega⟩⟩
    ·
      exact z_throw G X E ET hXt q (st := []) (show cdA 184 10 = some (.new 108, 3, 0, 2, 0) from rfl) (by decide) (by decide) (Nat.le_of_ble_eq_true rfl) (show 0 + 1 ≤ 1 by omega) (show 0 + 6 ≤ 6 by omega) (show 0 + 1 ≤ 1 by omega) (show 0 + 6 ≤ 6 by omega) ⟨_, rfl, I, F, Or.inr ⟨0, rfl, by omega⟩⟩
set_option maxRecDepth 4000 in
theorem cs_needPiece (G : GX l s0 D tys a0 dT) (I : Bd s) {x : Int} (p0 : rng x) : CT l s0 D A dT 182 (rmN 182) [.ref (A 0), .int (Int32.ofInt x)] s (fun o t => Bd t ∧ Fm [] [] s t ∧ ((o = .inl none ∧ (0 ≤ x ∧ x ≤ 7)) ∨ ∃ x : Nat, o = .inr (exN x) ∧ (x = 0))) := by
  refine ct_ofX G (by decide) (Nat.le_of_ble_eq_true rfl) (fun k X E ET hRt hXt q => ?_)
  show WS k 0 [(0, .ref (A 0)), (1, .int (Int32.ofInt x))] [] _ 0 0
  have F : Fm [] [] s s := fm_rf _ _ s
  refine z_aload_n X (x := A 0) (show cdA 182 0 = some (.aload_n 0, 1, 0, 0, 0) from rfl) (List.Mem.head _) ?_
  refine z_load_n X (x := x) (show cdA 182 1 = some (.iload_n 1, 1, 0, 0, 0) from rfl) (List.Mem.tail _ (List.Mem.head _)) ?_
  refine z_const X (show cdA 182 2 = some (.iconst 0, 1, 0, 0, 0) from rfl) ?_
  refine z_bipush X (show cdA 182 3 = some (.bipush 7, 2, 0, 0, 7) from rfl) ?_
  refine z_callV X 0 (rm := rmN 184) (As := [.int (Int32.ofInt x), .int (Int32.ofInt 0), .int (Int32.ofInt 7)]) (st := []) (show cdA 182 5 = some (.invokevirtual 151, 3, 184, 0, 0) from rfl) rfl (by decide) rfl (by rw [E.1, E.2.1, E.2.2.1]; exact cs_needWithin G I (by first | exact ⟨p0.1, p0.2⟩ | omega) (by first | exact ⟨by decide, by decide⟩ | omega) (by first | exact ⟨by decide, by decide⟩ | omega)) ⟨by rw [E.2.2.2]; exact (show (rmN 184).frames + 1 ≤ (rmN 182).frames by decide), by rw [E.2.2.2]; exact (show 8 + (mNL (miB 184) + 11) + (rmN 184).locals ≤ (rmN 182).locals by decide), by rw [E.2.2.2]; exact (show 0 + 1 ≤ 1 by omega), by rw [E.2.2.2]; exact (show 0 + 6 ≤ 6 by omega)⟩ (Nat.le_of_ble_eq_true rfl) (fun vv s1 hq => ?_) (fun ee s1 hq => ?_)
  rotate_left
  · obtain ⟨Is1, Fs1, (⟨hv, hps1⟩ | ⟨xx, hv, hps1⟩)⟩ := hq
    · cases hv
    · cases hv
      have Gs1 := fm_ts F Fs1 (by decide) (by decide)
      exact x_out X.1 q (fun x hx => (hXt x hx).elim) (show 1 ≤ 1 by omega) (show 6 ≤ 6 by omega) ⟨_, rfl, Is1, Gs1, Or.inr ⟨xx, rfl, by omega⟩⟩
  obtain ⟨Is1, Fs1, (⟨hv, hps1⟩ | ⟨xx, hv, hps1⟩)⟩ := hq
  rotate_left
  · cases hv
  cases hv
  have Gs1 := fm_ts F Fs1 (by decide) (by decide)
  show WS k 8 [(0, .ref (A 0)), (1, .int (Int32.ofInt x))] [] (Wd A dT s1) 1 6
  exact w_vret X.1 q hRt (ax_d X (show cdA 182 8 = some (.return_, 1, 0, 0, 0) from rfl)) (show 1 ≤ 1 by omega) (show 6 ≤ 6 by omega) ⟨_, rfl, Is1, Gs1, Or.inl ⟨rfl, by first | exact ⟨hps1.1, hps1.2⟩ | omega⟩⟩
set_option maxRecDepth 4000 in
theorem cs_needQuarter (G : GX l s0 D tys a0 dT) (I : Bd s) {x : Int} (p0 : rng x) : CT l s0 D A dT 183 (rmN 183) [.ref (A 0), .int (Int32.ofInt x)] s (fun o t => Bd t ∧ Fm [] [] s t ∧ ((o = .inl none ∧ (0 ≤ x ∧ x ≤ 23)) ∨ ∃ x : Nat, o = .inr (exN x) ∧ (x = 0))) := by
  refine ct_ofX G (by decide) (Nat.le_of_ble_eq_true rfl) (fun k X E ET hRt hXt q => ?_)
  show WS k 0 [(0, .ref (A 0)), (1, .int (Int32.ofInt x))] [] _ 0 0
  have F : Fm [] [] s s := fm_rf _ _ s
  refine z_aload_n X (x := A 0) (show cdA 183 0 = some (.aload_n 0, 1, 0, 0, 0) from rfl) (List.Mem.head _) ?_
  refine z_load_n X (x := x) (show cdA 183 1 = some (.iload_n 1, 1, 0, 0, 0) from rfl) (List.Mem.tail _ (List.Mem.head _)) ?_
  refine z_const X (show cdA 183 2 = some (.iconst 0, 1, 0, 0, 0) from rfl) ?_
  refine z_bipush X (show cdA 183 3 = some (.bipush 23, 2, 0, 0, 23) from rfl) ?_
  refine z_callV X 0 (rm := rmN 184) (As := [.int (Int32.ofInt x), .int (Int32.ofInt 0), .int (Int32.ofInt 23)]) (st := []) (show cdA 183 5 = some (.invokevirtual 151, 3, 184, 0, 0) from rfl) rfl (by decide) rfl (by rw [E.1, E.2.1, E.2.2.1]; exact cs_needWithin G I (by first | exact ⟨p0.1, p0.2⟩ | omega) (by first | exact ⟨by decide, by decide⟩ | omega) (by first | exact ⟨by decide, by decide⟩ | omega)) ⟨by rw [E.2.2.2]; exact (show (rmN 184).frames + 1 ≤ (rmN 183).frames by decide), by rw [E.2.2.2]; exact (show 8 + (mNL (miB 184) + 11) + (rmN 184).locals ≤ (rmN 183).locals by decide), by rw [E.2.2.2]; exact (show 0 + 1 ≤ 1 by omega), by rw [E.2.2.2]; exact (show 0 + 6 ≤ 6 by omega)⟩ (Nat.le_of_ble_eq_true rfl) (fun vv s1 hq => ?_) (fun ee s1 hq => ?_)
  rotate_left
  · obtain ⟨Is1, Fs1, (⟨hv, hps1⟩ | ⟨xx, hv, hps1⟩)⟩ := hq
    · cases hv
    · cases hv
      have Gs1 := fm_ts F Fs1 (by decide) (by decide)
      exact x_out X.1 q (fun x hx => (hXt x hx).elim) (show 1 ≤ 1 by omega) (show 6 ≤ 6 by omega) ⟨_, rfl, Is1, Gs1, Or.inr ⟨xx, rfl, by omega⟩⟩
  obtain ⟨Is1, Fs1, (⟨hv, hps1⟩ | ⟨xx, hv, hps1⟩)⟩ := hq
  rotate_left
  · cases hv
  cases hv
  have Gs1 := fm_ts F Fs1 (by decide) (by decide)
  show WS k 8 [(0, .ref (A 0)), (1, .int (Int32.ofInt x))] [] (Wd A dT s1) 1 6
  exact w_vret X.1 q hRt (ax_d X (show cdA 183 8 = some (.return_, 1, 0, 0, 0) from rfl)) (show 1 ≤ 1 by omega) (show 6 ≤ 6 by omega) ⟨_, rfl, Is1, Gs1, Or.inl ⟨rfl, by first | exact ⟨hps1.1, hps1.2⟩ | omega⟩⟩
set_option maxRecDepth 4000 in
theorem cs_needCell (G : GX l s0 D tys a0 dT) (I : Bd s) {x : Int} (p0 : rng x) : CT l s0 D A dT 181 (rmN 181) [.ref (A 0), .int (Int32.ofInt x)] s (fun o t => Bd t ∧ Fm [] [] s t ∧ ((o = .inl none ∧ (0 ≤ x ∧ x ≤ 127)) ∨ ∃ x : Nat, o = .inr (exN x) ∧ (x = 2))) := by
  refine ct_ofX G (by decide) (Nat.le_of_ble_eq_true rfl) (fun k X E ET hRt hXt q => ?_)
  show WS k 0 [(0, .ref (A 0)), (1, .int (Int32.ofInt x))] [] _ 0 0
  have F : Fm [] [] s s := fm_rf _ _ s
  refine z_load_n X (x := x) (show cdA 181 0 = some (.iload_n 1, 1, 0, 0, 0) from rfl) (List.Mem.tail _ (List.Mem.head _)) ?_
  refine z_if_lt X (t := 11) (show cdA 181 1 = some (.ifCond .lt 10, 3, 2, 0, 0) from rfl) (by decide) ⟨by first | exact p0.1 | omega, by first | exact p0.2 | omega⟩ (fun g1 => ?_) (fun g1 => ?_)
  ·
    exact z_throw G X E ET hXt q (st := []) (show cdA 181 11 = some (.new 309, 3, 2, 2, 0) from rfl) (by decide) (by decide) (Nat.le_of_ble_eq_true rfl) (show 0 + 1 ≤ 1 by omega) (show 0 + 6 ≤ 6 by omega) (show 0 + 1 ≤ 1 by omega) (show 0 + 6 ≤ 6 by omega) ⟨_, rfl, I, F, Or.inr ⟨2, rfl, by omega⟩⟩
  ·
    refine z_load_n X (x := x) (show cdA 181 4 = some (.iload_n 1, 1, 0, 0, 0) from rfl) (List.Mem.tail _ (List.Mem.head _)) ?_
    refine z_sipush X (show cdA 181 5 = some (.sipush 128, 3, 0, 0, 128) from rfl) ?_
    refine z_icmp_lt X (t := 22) (show cdA 181 8 = some (.if_icmp .lt 14, 3, 2, 0, 0) from rfl) (by decide) ⟨by first | exact p0.1 | omega, by first | exact p0.2 | omega⟩ (by decide) (fun g2 => ?_) (fun g2 => ?_)
    ·
      exact w_vret X.1 q hRt (ax_d X (show cdA 181 22 = some (.return_, 1, 0, 0, 0) from rfl)) (Nat.zero_le _) (Nat.zero_le _) ⟨_, rfl, I, F, Or.inl ⟨rfl, by first | exact ⟨g1, oq_04367f15 g2⟩ | omega⟩⟩
    ·
      exact z_throw G X E ET hXt q (st := []) (show cdA 181 11 = some (.new 309, 3, 2, 2, 0) from rfl) (by decide) (by decide) (Nat.le_of_ble_eq_true rfl) (show 0 + 1 ≤ 1 by omega) (show 0 + 6 ≤ 6 by omega) (show 0 + 1 ≤ 1 by omega) (show 0 + 6 ≤ 6 by omega) ⟨_, rfl, I, F, Or.inr ⟨2, rfl, by omega⟩⟩
set_option maxRecDepth 4000 in
theorem cs_needStream (G : GX l s0 D tys a0 dT) (I : Bd s) {x : Int} (p0 : rng x) : CT l s0 D A dT 180 (rmN 180) [.ref (A 0), .int (Int32.ofInt x)] s (fun o t => Bd t ∧ Fm [] [] s t ∧ ((o = .inl none ∧ (0 ≤ x ∧ x ≤ 11)) ∨ ∃ x : Nat, o = .inr (exN x) ∧ (x = 1))) := by
  refine ct_ofX G (by decide) (Nat.le_of_ble_eq_true rfl) (fun k X E ET hRt hXt q => ?_)
  show WS k 0 [(0, .ref (A 0)), (1, .int (Int32.ofInt x))] [] _ 0 0
  have F : Fm [] [] s s := fm_rf _ _ s
  have b1 : (0 : Int) ≤ iI s 9 ∧ iI s 9 ≤ 12 := I.1 9
  refine z_load_n X (x := x) (show cdA 180 0 = some (.iload_n 1, 1, 0, 0, 0) from rfl) (List.Mem.tail _ (List.Mem.head _)) ?_
  refine z_if_lt X (t := 15) (show cdA 180 1 = some (.ifCond .lt 14, 3, 2, 0, 0) from rfl) (by decide) ⟨by first | exact p0.1 | omega, by first | exact p0.2 | omega⟩ (fun g2 => ?_) (fun g2 => ?_)
  ·
    exact z_throw G X E ET hXt q (st := []) (show cdA 180 15 = some (.new 274, 3, 1, 2, 0) from rfl) (by decide) (by decide) (Nat.le_of_ble_eq_true rfl) (show 0 + 1 ≤ 1 by omega) (show 0 + 6 ≤ 6 by omega) (show 0 + 1 ≤ 1 by omega) (show 0 + 6 ≤ 6 by omega) ⟨_, rfl, I, F, Or.inr ⟨1, rfl, by omega⟩⟩
  ·
    refine z_load_n X (x := x) (show cdA 180 4 = some (.iload_n 1, 1, 0, 0, 0) from rfl) (List.Mem.tail _ (List.Mem.head _)) ?_
    refine z_aload_n X (x := A 0) (show cdA 180 5 = some (.aload_n 0, 1, 0, 0, 0) from rfl) (List.Mem.head _) ?_
    refine s_getR X 0 (show cdA 180 6 = some (.getfield 19, 3, 11, 1, 0) from rfl) (by decide) rfl rfl ?_
    refine z_getI X 3 (show cdA 180 9 = some (.getfield 383, 3, 9, 0, 0) from rfl) (by decide) rfl rfl ?_
    have b3 : (0 : Int) ≤ iI s 9 ∧ iI s 9 ≤ 12 := I.1 9
    refine z_icmp_lt X (t := 26) (show cdA 180 12 = some (.if_icmp .lt 14, 3, 2, 0, 0) from rfl) (by decide) ⟨by first | exact p0.1 | omega, by first | exact p0.2 | omega⟩ (rng_to _) (fun g4 => ?_) (fun g4 => ?_)
    ·
      exact w_vret X.1 q hRt (ax_d X (show cdA 180 26 = some (.return_, 1, 0, 0, 0) from rfl)) (Nat.zero_le _) (Nat.zero_le _) ⟨_, rfl, I, F, Or.inl ⟨rfl, by first | exact ⟨g2, oq_e4d7f3c5 g4 b3.2⟩ | omega⟩⟩
    ·
      exact z_throw G X E ET hXt q (st := []) (show cdA 180 15 = some (.new 274, 3, 1, 2, 0) from rfl) (by decide) (by decide) (Nat.le_of_ble_eq_true rfl) (show 0 + 1 ≤ 1 by omega) (show 0 + 6 ≤ 6 by omega) (show 0 + 1 ≤ 1 by omega) (show 0 + 6 ≤ 6 by omega) ⟨_, rfl, I, F, Or.inr ⟨1, rfl, by omega⟩⟩
set_option maxRecDepth 4000 in
theorem cs_listenTo (G : GX l s0 D tys a0 dT) (I : Bd s) {x : Int} (p0 : 0 ≤ x ∧ x ≤ 7) : CT l s0 D A dT 179 (rmN 179) [.ref (A 0), .int (Int32.ofInt x)] s (fun o t => Bd t ∧ Fm [22, 23] [33, 26, 27, 28, 29, 30, 31, 32] s t ∧ o = .inl none ∧ (True)) := by
  refine ct_ofX G (by decide) (Nat.le_of_ble_eq_true rfl) (fun k X E ET hRt hXt q => ?_)
  show WS k 0 [(0, .ref (A 0)), (1, .int (Int32.ofInt x))] [] _ 0 0
  have F : Fm [22, 23] [33, 26, 27, 28, 29, 30, 31, 32] s s := fm_rf _ _ s
  refine z_aload_n X (x := A 0) (show cdA 179 0 = some (.aload_n 0, 1, 0, 0, 0) from rfl) (List.Mem.head _) ?_
  refine s_getR X 0 (show cdA 179 1 = some (.getfield 44, 3, 11, 4, 0) from rfl) (by decide) rfl rfl ?_
  refine z_aload_n X (x := A 0) (show cdA 179 4 = some (.aload_n 0, 1, 0, 0, 0) from rfl) (List.Mem.head _) ?_
  refine s_getR X 0 (show cdA 179 5 = some (.getfield 35, 3, 11, 3, 0) from rfl) (by decide) rfl rfl ?_
  refine s_getR X 25 (show cdA 179 8 = some (.getfield 201, 3, 3, 1, 0) from rfl) (by decide) rfl rfl ?_
  refine z_load_n X (x := x) (show cdA 179 11 = some (.iload_n 1, 1, 0, 0, 0) from rfl) (List.Mem.tail _ (List.Mem.head _)) ?_
  refine z_lald X 27 (show cdA 179 12 = some (.laload, 1, 0, 0, 0) from rfl) (by decide) rfl (by first | exact p0.1 | omega) (show x < 8 by first | exact oq_aaea290e p0.2 | omega) (by decide) (fun j1 => ?_)
  refine z_aload_n X (x := A 0) (show cdA 179 13 = some (.aload_n 0, 1, 0, 0, 0) from rfl) (List.Mem.head _) ?_
  refine s_getR X 0 (show cdA 179 14 = some (.getfield 35, 3, 11, 3, 0) from rfl) (by decide) rfl rfl ?_
  refine s_getR X 25 (show cdA 179 17 = some (.getfield 205, 3, 3, 2, 0) from rfl) (by decide) rfl rfl ?_
  refine z_load_n X (x := x) (show cdA 179 20 = some (.iload_n 1, 1, 0, 0, 0) from rfl) (List.Mem.tail _ (List.Mem.head _)) ?_
  refine z_lald X 28 (show cdA 179 21 = some (.laload, 1, 0, 0, 0) from rfl) (by decide) rfl (by first | exact p0.1 | omega) (show x < 8 by first | exact oq_aaea290e p0.2 | omega) (by decide) (fun j2 => ?_)
  refine z_const X (show cdA 179 22 = some (.iconst 1, 1, 0, 0, 0) from rfl) ?_
  refine z_callV X 31 (rm := rmN 1) (As := [.long j1, .long j2, .int (Int32.ofInt 1)]) (st := []) (show cdA 179 23 = some (.invokevirtual 407, 3, 1, 0, 0) from rfl) rfl (by decide) rfl (by rw [E.1, E.2.1, E.2.2.1]; exact c0_listen_31 G I (by first | exact ⟨by decide, by decide⟩ | omega)) ⟨by rw [E.2.2.2]; exact (show (rmN 1).frames + 1 ≤ (rmN 179).frames by decide), by rw [E.2.2.2]; exact (show 8 + (mNL (miB 1) + 11) + (rmN 1).locals ≤ (rmN 179).locals by decide), by rw [E.2.2.2]; exact (show 0 + (rmN 1).cells ≤ (rmN 179).cells by decide), by rw [E.2.2.2]; exact (show 0 + (rmN 1).slots ≤ (rmN 179).slots by decide)⟩ (Nat.le_of_ble_eq_true rfl) (fun vv s3 hq => ?_) (fun ee s3 hq => ?_)
  rotate_left
  · obtain ⟨Is3, Fs3, hv, hps3⟩ := hq; cases hv
  obtain ⟨Is3, Fs3, hv, hps3⟩ := hq
  cases hv
  have Gs3 := fm_ts F Fs3 (by decide) (by decide)
  show WS k 26 [(0, .ref (A 0)), (1, .int (Int32.ofInt x))] [] (Wd A dT s3) 0 0
  exact w_vret X.1 q hRt (ax_d X (show cdA 179 26 = some (.return_, 1, 0, 0, 0) from rfl)) (Nat.zero_le _) (Nat.zero_le _) ⟨_, rfl, Is3, Gs3, rfl, trivial⟩
set_option maxRecDepth 4000 in
theorem cs_feed (G : GX l s0 D tys a0 dT) (I : Bd s) {x1 x2 x3 x4 x5 : Int} (p0 : rng x1) (p1 : rng x2) (p2 : rng x3) (p3 : rng x4) (p4 : rng x5) : CT l s0 D A dT 135 (rmN 135) [.ref (A 0), .int (Int32.ofInt x1), .int (Int32.ofInt x2), .int (Int32.ofInt x3), .int (Int32.ofInt x4), .int (Int32.ofInt x5)] s (fun o t => Bd t ∧ Fm [0] [0] s t ∧ ∃ e, o = .inl (some (.int (Int32.ofInt e))) ∧ rng e ∧ ((iI s 0 ≤ 180 ∧ iI t 0 = iI s 0 + 20 ∧ e = iI t 0) ∨ (180 < iI s 0 ∧ iI t 0 = iI s 0 ∧ e = -1))) := by
  refine ct_ofX G (by decide) (Nat.le_of_ble_eq_true rfl) (fun k X E ET hRt hXt q => ?_)
  show WS k 0 [(0, .ref (A 0)), (1, .int (Int32.ofInt x1)), (2, .int (Int32.ofInt x2)), (3, .int (Int32.ofInt x3)), (4, .int (Int32.ofInt x4)), (5, .int (Int32.ofInt x5))] [] _ 0 0
  have F : Fm [0] [0] s s := fm_rf _ _ s
  have b1 : (0 : Int) ≤ iI s 0 ∧ iI s 0 ≤ 200 := I.1 0
  refine z_aload_n X (x := A 0) (show cdA 135 0 = some (.aload_n 0, 1, 0, 0, 0) from rfl) (List.Mem.head _) ?_
  refine s_getR X 0 (show cdA 135 1 = some (.getfield 10, 3, 11, 0, 0) from rfl) (by decide) rfl rfl ?_
  refine z_load_n X (x := x1) (show cdA 135 4 = some (.iload_n 1, 1, 0, 0, 0) from rfl) (List.Mem.tail _ (List.Mem.head _)) ?_
  refine z_load_n X (x := x2) (show cdA 135 5 = some (.iload_n 2, 1, 0, 0, 0) from rfl) (List.Mem.tail _ (List.Mem.tail _ (List.Mem.head _))) ?_
  refine z_load_n X (x := x3) (show cdA 135 6 = some (.iload_n 3, 1, 0, 0, 0) from rfl) (List.Mem.tail _ (List.Mem.tail _ (List.Mem.tail _ (List.Mem.head _)))) ?_
  refine z_load X (x := x4) (show cdA 135 7 = some (.iload 4, 2, 0, 0, 0) from rfl) (List.Mem.tail _ (List.Mem.tail _ (List.Mem.tail _ (List.Mem.tail _ (List.Mem.head _))))) ?_
  refine z_load X (x := x5) (show cdA 135 9 = some (.iload 5, 2, 0, 0, 0) from rfl) (List.Mem.tail _ (List.Mem.tail _ (List.Mem.tail _ (List.Mem.tail _ (List.Mem.tail _ (List.Mem.head _)))))) ?_
  refine z_callV X 1 (rm := rmN 126) (As := [.int (Int32.ofInt x1), .int (Int32.ofInt x2), .int (Int32.ofInt x3), .int (Int32.ofInt x4), .int (Int32.ofInt x5)]) (st := []) (show cdA 135 11 = some (.invokevirtual 100, 3, 126, 0, 0) from rfl) rfl (by decide) rfl (by rw [E.1, E.2.1, E.2.2.1]; exact c10_takeAll_1 G I (by first | exact ⟨p0.1, p0.2⟩ | omega) (by first | exact ⟨p1.1, p1.2⟩ | omega) (by first | exact ⟨p2.1, p2.2⟩ | omega) (by first | exact ⟨p3.1, p3.2⟩ | omega) (by first | exact ⟨p4.1, p4.2⟩ | omega)) ⟨by rw [E.2.2.2]; exact (show (rmN 126).frames + 1 ≤ (rmN 135).frames by decide), by rw [E.2.2.2]; exact (show 8 + (mNL (miB 126) + 11) + (rmN 126).locals ≤ (rmN 135).locals by decide), by rw [E.2.2.2]; exact (show 0 + (rmN 126).cells ≤ (rmN 135).cells by decide), by rw [E.2.2.2]; exact (show 0 + (rmN 126).slots ≤ (rmN 135).slots by decide)⟩ (Nat.le_of_ble_eq_true rfl) (fun vv s2 hq => ?_) (fun ee s2 hq => ?_)
  rotate_left
  · obtain ⟨Is2, Fs2, e3, hv, hrs2, hps2⟩ := hq; cases hv
  obtain ⟨Is2, Fs2, e3, hv, hrs2, hps2⟩ := hq
  cases hv
  have Gs2 := fm_ts F Fs2 (by decide) (by decide)
  have b4 : (0 : Int) ≤ iI s2 0 ∧ iI s2 0 ≤ 200 := Is2.1 0
  show WS k 14 [(0, .ref (A 0)), (1, .int (Int32.ofInt x1)), (2, .int (Int32.ofInt x2)), (3, .int (Int32.ofInt x3)), (4, .int (Int32.ofInt x4)), (5, .int (Int32.ofInt x5))] [.int (Int32.ofInt e3)] (Wd A dT s2) 0 0
  exact w_iret X.1 q hRt rfl (ax_d X (show cdA 135 14 = some (.ireturn, 1, 0, 0, 0) from rfl)) (Nat.zero_le _) (Nat.zero_le _) ⟨_, rfl, Is2, Gs2, e3, rfl, hrs2, by first | exact hps2 | omega⟩
set_option maxRecDepth 4000 in
theorem cs_fault (G : GX l s0 D tys a0 dT) (I : Bd s)  : CT l s0 D A dT 138 (rmN 138) [.ref (A 0)] s (fun o t => Bd t ∧ Fm [] [] s t ∧ ∃ e, o = .inl (some (.int (Int32.ofInt e))) ∧ rng e ∧ (True)) := by
  refine ct_ofX G (by decide) (Nat.le_of_ble_eq_true rfl) (fun k X E ET hRt hXt q => ?_)
  show WS k 0 [(0, .ref (A 0))] [] _ 0 0
  have F : Fm [] [] s s := fm_rf _ _ s
  refine z_aload_n X (x := A 0) (show cdA 138 0 = some (.aload_n 0, 1, 0, 0, 0) from rfl) (List.Mem.head _) ?_
  refine s_getR X 0 (show cdA 138 1 = some (.getfield 10, 3, 11, 0, 0) from rfl) (by decide) rfl rfl ?_
  refine z_getI X 1 (show cdA 138 4 = some (.getfield 137, 3, 10, 9, 0) from rfl) (by decide) rfl rfl ?_
  have b1 : ((-1) : Int) ≤ iI s 8 ∧ iI s 8 ≤ 200 := I.1 8
  exact w_iret X.1 q hRt rfl (ax_d X (show cdA 138 7 = some (.ireturn, 1, 0, 0, 0) from rfl)) (Nat.zero_le _) (Nat.zero_le _) ⟨_, rfl, I, F, (iI s 8), rfl, (rng_to _), trivial⟩
set_option maxRecDepth 4000 in
theorem cs_way (G : GX l s0 D tys a0 dT) (I : Bd s) {x y : Int} (p0 : rng x) (p1 : rng y) : CT l s0 D A dT 139 (rmN 139) [.ref (A 0), .int (Int32.ofInt x), .int (Int32.ofInt y)] s (fun o t => Bd t ∧ Fm [] [] s t ∧ ((∃ e, o = .inl (some (.int (Int32.ofInt e))) ∧ rng e ∧ (True)) ∨ ∃ x : Nat, o = .inr (exN x) ∧ (x = 1))) := by
  refine ct_ofX G (by decide) (Nat.le_of_ble_eq_true rfl) (fun k X E ET hRt hXt q => ?_)
  show WS k 0 [(0, .ref (A 0)), (1, .int (Int32.ofInt x)), (2, .int (Int32.ofInt y))] [] _ 0 0
  have F : Fm [] [] s s := fm_rf _ _ s
  refine z_aload_n X (x := A 0) (show cdA 139 0 = some (.aload_n 0, 1, 0, 0, 0) from rfl) (List.Mem.head _) ?_
  refine z_load_n X (x := x) (show cdA 139 1 = some (.iload_n 1, 1, 0, 0, 0) from rfl) (List.Mem.tail _ (List.Mem.head _)) ?_
  refine z_callV X 0 (rm := rmN 180) (As := [.int (Int32.ofInt x)]) (st := []) (show cdA 139 2 = some (.invokevirtual 140, 3, 180, 0, 0) from rfl) rfl (by decide) rfl (by rw [E.1, E.2.1, E.2.2.1]; exact cs_needStream G I (by first | exact ⟨p0.1, p0.2⟩ | omega)) ⟨by rw [E.2.2.2]; exact (show (rmN 180).frames + 1 ≤ (rmN 139).frames by decide), by rw [E.2.2.2]; exact (show 8 + (mNL (miB 180) + 11) + (rmN 180).locals ≤ (rmN 139).locals by decide), by rw [E.2.2.2]; exact (show 0 + 1 ≤ 1 by omega), by rw [E.2.2.2]; exact (show 0 + 6 ≤ 6 by omega)⟩ (Nat.le_of_ble_eq_true rfl) (fun vv s1 hq => ?_) (fun ee s1 hq => ?_)
  rotate_left
  · obtain ⟨Is1, Fs1, (⟨hv, hps1⟩ | ⟨xx, hv, hps1⟩)⟩ := hq
    · cases hv
    · cases hv
      have Gs1 := fm_ts F Fs1 (by decide) (by decide)
      exact x_out X.1 q (fun x hx => (hXt x hx).elim) (show 1 ≤ 1 by omega) (show 6 ≤ 6 by omega) ⟨_, rfl, Is1, Gs1, Or.inr ⟨xx, rfl, by omega⟩⟩
  obtain ⟨Is1, Fs1, (⟨hv, hps1⟩ | ⟨xx, hv, hps1⟩)⟩ := hq
  rotate_left
  · cases hv
  cases hv
  have Gs1 := fm_ts F Fs1 (by decide) (by decide)
  show WS k 5 [(0, .ref (A 0)), (1, .int (Int32.ofInt x)), (2, .int (Int32.ofInt y))] [] (Wd A dT s1) 1 6
  refine z_aload_n X (x := A 0) (show cdA 139 5 = some (.aload_n 0, 1, 0, 0, 0) from rfl) (List.Mem.head _) ?_
  refine s_getR X 0 (show cdA 139 6 = some (.getfield 19, 3, 11, 1, 0) from rfl) (by decide) rfl rfl ?_
  refine z_load_n X (x := x) (show cdA 139 9 = some (.iload_n 1, 1, 0, 0, 0) from rfl) (List.Mem.tail _ (List.Mem.head _)) ?_
  refine z_load_n X (x := y) (show cdA 139 10 = some (.iload_n 2, 1, 0, 0, 0) from rfl) (List.Mem.tail _ (List.Mem.tail _ (List.Mem.head _))) ?_
  refine z_callV X 3 (rm := rmN 113) (As := [.int (Int32.ofInt x), .int (Int32.ofInt y)]) (st := []) (show cdA 139 11 = some (.invokevirtual 144, 3, 113, 0, 0) from rfl) rfl (by decide) rfl (by rw [E.1, E.2.1, E.2.2.1]; exact c9_cellAt_3 G Is1 (by first | exact ⟨hps1.1, hps1.2⟩ | omega) (by first | exact ⟨p1.1, p1.2⟩ | omega)) ⟨by rw [E.2.2.2]; exact (show (rmN 113).frames + 1 ≤ (rmN 139).frames by decide), by rw [E.2.2.2]; exact (show 8 + (mNL (miB 113) + 11) + (rmN 113).locals ≤ (rmN 139).locals by decide), by rw [E.2.2.2]; exact (show 1 + 0 ≤ 1 by omega), by rw [E.2.2.2]; exact (show 6 + 0 ≤ 6 by omega)⟩ (Nat.le_of_ble_eq_true rfl) (fun vv s3 hq => ?_) (fun ee s3 hq => ?_)
  rotate_left
  · obtain ⟨Is3, Fs3, e4, hv, hrs3, hps3⟩ := hq; cases hv
  obtain ⟨Is3, Fs3, e4, hv, hrs3, hps3⟩ := hq
  cases hv
  have Gs3 := fm_ts Gs1 Fs3 (by decide) (by decide)
  show WS k 14 [(0, .ref (A 0)), (1, .int (Int32.ofInt x)), (2, .int (Int32.ofInt y))] [.int (Int32.ofInt e4)] (Wd A dT s3) 1 6
  exact w_iret X.1 q hRt rfl (ax_d X (show cdA 139 14 = some (.ireturn, 1, 0, 0, 0) from rfl)) (show 1 ≤ 1 by omega) (show 6 ≤ 6 by omega) ⟨_, rfl, Is3, Gs3, Or.inl ⟨e4, rfl, hrs3, trivial⟩⟩
set_option maxRecDepth 4000 in
theorem cs_flow (G : GX l s0 D tys a0 dT) (I : Bd s) {x y z w : Int} (p0 : rng x) (p1 : rng y) (p2 : rng z) (p3 : rng w) : CT l s0 D A dT 140 (rmN 140) [.ref (A 0), .int (Int32.ofInt x), .int (Int32.ofInt y), .int (Int32.ofInt z), .int (Int32.ofInt w)] s (fun o t => Bd t ∧ Fm [] [8, 11, 12, 13, 14] s t ∧ ((o = .inl none ∧ (True)) ∨ ∃ x : Nat, o = .inr (exN x) ∧ (x ≤ 1))) := by
  refine ct_ofX G (by decide) (Nat.le_of_ble_eq_true rfl) (fun k X E ET hRt hXt q => ?_)
  show WS k 0 [(0, .ref (A 0)), (1, .int (Int32.ofInt x)), (2, .int (Int32.ofInt y)), (3, .int (Int32.ofInt z)), (4, .int (Int32.ofInt w))] [] _ 0 0
  have F : Fm [] [8, 11, 12, 13, 14] s s := fm_rf _ _ s
  refine z_aload_n X (x := A 0) (show cdA 140 0 = some (.aload_n 0, 1, 0, 0, 0) from rfl) (List.Mem.head _) ?_
  refine z_load_n X (x := x) (show cdA 140 1 = some (.iload_n 1, 1, 0, 0, 0) from rfl) (List.Mem.tail _ (List.Mem.head _)) ?_
  refine z_callV X 0 (rm := rmN 180) (As := [.int (Int32.ofInt x)]) (st := []) (show cdA 140 2 = some (.invokevirtual 140, 3, 180, 0, 0) from rfl) rfl (by decide) rfl (by rw [E.1, E.2.1, E.2.2.1]; exact cs_needStream G I (by first | exact ⟨p0.1, p0.2⟩ | omega)) ⟨by rw [E.2.2.2]; exact (show (rmN 180).frames + 1 ≤ (rmN 140).frames by decide), by rw [E.2.2.2]; exact (show 8 + (mNL (miB 180) + 11) + (rmN 180).locals ≤ (rmN 140).locals by decide), by rw [E.2.2.2]; exact (show 0 + 1 ≤ 5 by omega), by rw [E.2.2.2]; exact (show 0 + 6 ≤ 30 by omega)⟩ (Nat.le_of_ble_eq_true rfl) (fun vv s1 hq => ?_) (fun ee s1 hq => ?_)
  rotate_left
  · obtain ⟨Is1, Fs1, (⟨hv, hps1⟩ | ⟨xx, hv, hps1⟩)⟩ := hq
    · cases hv
    · cases hv
      have Gs1 := fm_ts F Fs1 (by decide) (by decide)
      exact x_out X.1 q (fun x hx => (hXt x hx).elim) (show 1 ≤ 5 by omega) (show 6 ≤ 30 by omega) ⟨_, rfl, Is1, Gs1, Or.inr ⟨xx, rfl, by omega⟩⟩
  obtain ⟨Is1, Fs1, (⟨hv, hps1⟩ | ⟨xx, hv, hps1⟩)⟩ := hq
  rotate_left
  · cases hv
  cases hv
  have Gs1 := fm_ts F Fs1 (by decide) (by decide)
  show WS k 5 [(0, .ref (A 0)), (1, .int (Int32.ofInt x)), (2, .int (Int32.ofInt y)), (3, .int (Int32.ofInt z)), (4, .int (Int32.ofInt w))] [] (Wd A dT s1) 1 6
  refine z_aload_n X (x := A 0) (show cdA 140 5 = some (.aload_n 0, 1, 0, 0, 0) from rfl) (List.Mem.head _) ?_
  refine z_load_n X (x := y) (show cdA 140 6 = some (.iload_n 2, 1, 0, 0, 0) from rfl) (List.Mem.tail _ (List.Mem.tail _ (List.Mem.head _))) ?_
  refine z_callV X 0 (rm := rmN 183) (As := [.int (Int32.ofInt y)]) (st := []) (show cdA 140 7 = some (.invokevirtual 148, 3, 183, 0, 0) from rfl) rfl (by decide) rfl (by rw [E.1, E.2.1, E.2.2.1]; exact cs_needQuarter G Is1 (by first | exact ⟨p1.1, p1.2⟩ | omega)) ⟨by rw [E.2.2.2]; exact (show (rmN 183).frames + 1 ≤ (rmN 140).frames by decide), by rw [E.2.2.2]; exact (show 8 + (mNL (miB 183) + 11) + (rmN 183).locals ≤ (rmN 140).locals by decide), by rw [E.2.2.2]; exact (show 1 + 1 ≤ 5 by omega), by rw [E.2.2.2]; exact (show 6 + 6 ≤ 30 by omega)⟩ (Nat.le_of_ble_eq_true rfl) (fun vv s3 hq => ?_) (fun ee s3 hq => ?_)
  rotate_left
  · obtain ⟨Is3, Fs3, (⟨hv, hps3⟩ | ⟨xx, hv, hps3⟩)⟩ := hq
    · cases hv
    · cases hv
      have Gs3 := fm_ts Gs1 Fs3 (by decide) (by decide)
      exact x_out X.1 q (fun x hx => (hXt x hx).elim) (show (1 + 1) ≤ 5 by omega) (show (6 + 6) ≤ 30 by omega) ⟨_, rfl, Is3, Gs3, Or.inr ⟨xx, rfl, by omega⟩⟩
  obtain ⟨Is3, Fs3, (⟨hv, hps3⟩ | ⟨xx, hv, hps3⟩)⟩ := hq
  rotate_left
  · cases hv
  cases hv
  have Gs3 := fm_ts Gs1 Fs3 (by decide) (by decide)
  show WS k 10 [(0, .ref (A 0)), (1, .int (Int32.ofInt x)), (2, .int (Int32.ofInt y)), (3, .int (Int32.ofInt z)), (4, .int (Int32.ofInt w))] [] (Wd A dT s3) (1 + 1) (6 + 6)
  refine z_aload_n X (x := A 0) (show cdA 140 10 = some (.aload_n 0, 1, 0, 0, 0) from rfl) (List.Mem.head _) ?_
  refine z_load_n X (x := z) (show cdA 140 11 = some (.iload_n 3, 1, 0, 0, 0) from rfl) (List.Mem.tail _ (List.Mem.tail _ (List.Mem.tail _ (List.Mem.head _)))) ?_
  refine z_callV X 0 (rm := rmN 183) (As := [.int (Int32.ofInt z)]) (st := []) (show cdA 140 12 = some (.invokevirtual 148, 3, 183, 0, 0) from rfl) rfl (by decide) rfl (by rw [E.1, E.2.1, E.2.2.1]; exact cs_needQuarter G Is3 (by first | exact ⟨p2.1, p2.2⟩ | omega)) ⟨by rw [E.2.2.2]; exact (show (rmN 183).frames + 1 ≤ (rmN 140).frames by decide), by rw [E.2.2.2]; exact (show 8 + (mNL (miB 183) + 11) + (rmN 183).locals ≤ (rmN 140).locals by decide), by rw [E.2.2.2]; exact (show (1 + 1) + 1 ≤ 5 by omega), by rw [E.2.2.2]; exact (show (6 + 6) + 6 ≤ 30 by omega)⟩ (Nat.le_of_ble_eq_true rfl) (fun vv s5 hq => ?_) (fun ee s5 hq => ?_)
  rotate_left
  · obtain ⟨Is5, Fs5, (⟨hv, hps5⟩ | ⟨xx, hv, hps5⟩)⟩ := hq
    · cases hv
    · cases hv
      have Gs5 := fm_ts Gs3 Fs5 (by decide) (by decide)
      exact x_out X.1 q (fun x hx => (hXt x hx).elim) (show ((1 + 1) + 1) ≤ 5 by omega) (show ((6 + 6) + 6) ≤ 30 by omega) ⟨_, rfl, Is5, Gs5, Or.inr ⟨xx, rfl, by omega⟩⟩
  obtain ⟨Is5, Fs5, (⟨hv, hps5⟩ | ⟨xx, hv, hps5⟩)⟩ := hq
  rotate_left
  · cases hv
  cases hv
  have Gs5 := fm_ts Gs3 Fs5 (by decide) (by decide)
  show WS k 15 [(0, .ref (A 0)), (1, .int (Int32.ofInt x)), (2, .int (Int32.ofInt y)), (3, .int (Int32.ofInt z)), (4, .int (Int32.ofInt w))] [] (Wd A dT s5) ((1 + 1) + 1) ((6 + 6) + 6)
  refine z_aload_n X (x := A 0) (show cdA 140 15 = some (.aload_n 0, 1, 0, 0, 0) from rfl) (List.Mem.head _) ?_
  refine z_load X (x := w) (show cdA 140 16 = some (.iload 4, 2, 0, 0, 0) from rfl) (List.Mem.tail _ (List.Mem.tail _ (List.Mem.tail _ (List.Mem.tail _ (List.Mem.head _))))) ?_
  refine z_const X (show cdA 140 18 = some (.iconst 0, 1, 0, 0, 0) from rfl) ?_
  refine z_bipush X (show cdA 140 19 = some (.bipush 50, 2, 0, 0, 50) from rfl) ?_
  refine z_callV X 0 (rm := rmN 184) (As := [.int (Int32.ofInt w), .int (Int32.ofInt 0), .int (Int32.ofInt 50)]) (st := []) (show cdA 140 21 = some (.invokevirtual 151, 3, 184, 0, 0) from rfl) rfl (by decide) rfl (by rw [E.1, E.2.1, E.2.2.1]; exact cs_needWithin G Is5 (by first | exact ⟨p3.1, p3.2⟩ | omega) (by first | exact ⟨by decide, by decide⟩ | omega) (by first | exact ⟨by decide, by decide⟩ | omega)) ⟨by rw [E.2.2.2]; exact (show (rmN 184).frames + 1 ≤ (rmN 140).frames by decide), by rw [E.2.2.2]; exact (show 8 + (mNL (miB 184) + 11) + (rmN 184).locals ≤ (rmN 140).locals by decide), by rw [E.2.2.2]; exact (show ((1 + 1) + 1) + 1 ≤ 5 by omega), by rw [E.2.2.2]; exact (show ((6 + 6) + 6) + 6 ≤ 30 by omega)⟩ (Nat.le_of_ble_eq_true rfl) (fun vv s7 hq => ?_) (fun ee s7 hq => ?_)
  rotate_left
  · obtain ⟨Is7, Fs7, (⟨hv, hps7⟩ | ⟨xx, hv, hps7⟩)⟩ := hq
    · cases hv
    · cases hv
      have Gs7 := fm_ts Gs5 Fs7 (by decide) (by decide)
      exact x_out X.1 q (fun x hx => (hXt x hx).elim) (show (((1 + 1) + 1) + 1) ≤ 5 by omega) (show (((6 + 6) + 6) + 6) ≤ 30 by omega) ⟨_, rfl, Is7, Gs7, Or.inr ⟨xx, rfl, by omega⟩⟩
  obtain ⟨Is7, Fs7, (⟨hv, hps7⟩ | ⟨xx, hv, hps7⟩)⟩ := hq
  rotate_left
  · cases hv
  cases hv
  have Gs7 := fm_ts Gs5 Fs7 (by decide) (by decide)
  show WS k 24 [(0, .ref (A 0)), (1, .int (Int32.ofInt x)), (2, .int (Int32.ofInt y)), (3, .int (Int32.ofInt z)), (4, .int (Int32.ofInt w))] [] (Wd A dT s7) (((1 + 1) + 1) + 1) (((6 + 6) + 6) + 6)
  refine z_load_n X (x := y) (show cdA 140 24 = some (.iload_n 2, 1, 0, 0, 0) from rfl) (List.Mem.tail _ (List.Mem.tail _ (List.Mem.head _))) ?_
  refine z_load_n X (x := z) (show cdA 140 25 = some (.iload_n 3, 1, 0, 0, 0) from rfl) (List.Mem.tail _ (List.Mem.tail _ (List.Mem.tail _ (List.Mem.head _)))) ?_
  refine z_icmp_le X (t := 39) (show cdA 140 26 = some (.if_icmp .le 13, 3, 5, 0, 0) from rfl) (by decide) ⟨by first | exact p1.1 | omega, by first | exact p1.2 | omega⟩ ⟨by first | exact p2.1 | omega, by first | exact p2.2 | omega⟩ (fun g9 => ?_) (fun g9 => ?_)
  ·
    refine z_aload_n X (x := A 0) (show cdA 140 39 = some (.aload_n 0, 1, 0, 0, 0) from rfl) (List.Mem.head _) ?_
    refine s_getR X 0 (show cdA 140 40 = some (.getfield 19, 3, 11, 1, 0) from rfl) (by decide) rfl rfl ?_
    refine z_load_n X (x := x) (show cdA 140 43 = some (.iload_n 1, 1, 0, 0, 0) from rfl) (List.Mem.tail _ (List.Mem.head _)) ?_
    refine z_load_n X (x := y) (show cdA 140 44 = some (.iload_n 2, 1, 0, 0, 0) from rfl) (List.Mem.tail _ (List.Mem.tail _ (List.Mem.head _))) ?_
    refine z_load_n X (x := z) (show cdA 140 45 = some (.iload_n 3, 1, 0, 0, 0) from rfl) (List.Mem.tail _ (List.Mem.tail _ (List.Mem.tail _ (List.Mem.head _)))) ?_
    refine z_load X (x := w) (show cdA 140 46 = some (.iload 4, 2, 0, 0, 0) from rfl) (List.Mem.tail _ (List.Mem.tail _ (List.Mem.tail _ (List.Mem.tail _ (List.Mem.head _))))) ?_
    refine z_callV X 3 (rm := rmN 114) (As := [.int (Int32.ofInt x), .int (Int32.ofInt y), .int (Int32.ofInt z), .int (Int32.ofInt w)]) (st := []) (show cdA 140 48 = some (.invokevirtual 157, 3, 114, 0, 0) from rfl) rfl (by decide) rfl (by rw [E.1, E.2.1, E.2.2.1]; exact c9_setCounts_3 G Is7 (by first | exact ⟨hps1.1, hps1.2⟩ | omega) (by first | exact ⟨hps3.1, hps3.2⟩ | omega) (by first | exact ⟨hps5.1, hps5.2⟩ | omega) (by first | exact ⟨hps7.1, hps7.2⟩ | omega)) ⟨by rw [E.2.2.2]; exact (show (rmN 114).frames + 1 ≤ (rmN 140).frames by decide), by rw [E.2.2.2]; exact (show 8 + (mNL (miB 114) + 11) + (rmN 114).locals ≤ (rmN 140).locals by decide), by rw [E.2.2.2]; exact (show (((1 + 1) + 1) + 1) + 0 ≤ 5 by omega), by rw [E.2.2.2]; exact (show (((6 + 6) + 6) + 6) + 0 ≤ 30 by omega)⟩ (Nat.le_of_ble_eq_true rfl) (fun vv s10 hq => ?_) (fun ee s10 hq => ?_)
    rotate_left
    · obtain ⟨Is10, Fs10, hv, hps10⟩ := hq; cases hv
    obtain ⟨Is10, Fs10, hv, hps10⟩ := hq
    cases hv
    have Gs10 := fm_ts Gs7 Fs10 (by decide) (by decide)
    show WS k 51 [(0, .ref (A 0)), (1, .int (Int32.ofInt x)), (2, .int (Int32.ofInt y)), (3, .int (Int32.ofInt z)), (4, .int (Int32.ofInt w))] [] (Wd A dT s10) (((1 + 1) + 1) + 1) (((6 + 6) + 6) + 6)
    exact w_vret X.1 q hRt (ax_d X (show cdA 140 51 = some (.return_, 1, 0, 0, 0) from rfl)) (show (((1 + 1) + 1) + 1) ≤ 5 by omega) (show (((6 + 6) + 6) + 6) ≤ 30 by omega) ⟨_, rfl, Is10, Gs10, Or.inl ⟨rfl, trivial⟩⟩
  ·
    exact z_throw G X E ET hXt q (st := []) (show cdA 140 29 = some (.new 108, 3, 0, 1, 0) from rfl) (by decide) (by decide) (Nat.le_of_ble_eq_true rfl) (show (((1 + 1) + 1) + 1) + 1 ≤ 5 by omega) (show (((6 + 6) + 6) + 6) + 6 ≤ 30 by omega) (show (((1 + 1) + 1) + 1) + 1 ≤ 5 by omega) (show (((6 + 6) + 6) + 6) + 6 ≤ 30 by omega) ⟨_, rfl, Is7, Gs7, Or.inr ⟨0, rfl, by omega⟩⟩
set_option maxRecDepth 4000 in
theorem cs_span (G : GX l s0 D tys a0 dT) (I : Bd s) {x y z : Int} (p0 : rng x) (p1 : rng y) (p2 : rng z) : CT l s0 D A dT 141 (rmN 141) [.ref (A 0), .int (Int32.ofInt x), .int (Int32.ofInt y), .int (Int32.ofInt z)] s (fun o t => Bd t ∧ Fm [] [9, 10, 11, 12, 13, 14] s t ∧ ((o = .inl none ∧ (True)) ∨ ∃ x : Nat, o = .inr (exN x) ∧ (x ≤ 1))) := by
  refine ct_ofX G (by decide) (Nat.le_of_ble_eq_true rfl) (fun k X E ET hRt hXt q => ?_)
  show WS k 0 [(0, .ref (A 0)), (1, .int (Int32.ofInt x)), (2, .int (Int32.ofInt y)), (3, .int (Int32.ofInt z))] [] _ 0 0
  have F : Fm [] [9, 10, 11, 12, 13, 14] s s := fm_rf _ _ s
  refine z_aload_n X (x := A 0) (show cdA 141 0 = some (.aload_n 0, 1, 0, 0, 0) from rfl) (List.Mem.head _) ?_
  refine z_load_n X (x := x) (show cdA 141 1 = some (.iload_n 1, 1, 0, 0, 0) from rfl) (List.Mem.tail _ (List.Mem.head _)) ?_
  refine z_callV X 0 (rm := rmN 180) (As := [.int (Int32.ofInt x)]) (st := []) (show cdA 141 2 = some (.invokevirtual 140, 3, 180, 0, 0) from rfl) rfl (by decide) rfl (by rw [E.1, E.2.1, E.2.2.1]; exact cs_needStream G I (by first | exact ⟨p0.1, p0.2⟩ | omega)) ⟨by rw [E.2.2.2]; exact (show (rmN 180).frames + 1 ≤ (rmN 141).frames by decide), by rw [E.2.2.2]; exact (show 8 + (mNL (miB 180) + 11) + (rmN 180).locals ≤ (rmN 141).locals by decide), by rw [E.2.2.2]; exact (show 0 + 1 ≤ 3 by omega), by rw [E.2.2.2]; exact (show 0 + 6 ≤ 18 by omega)⟩ (Nat.le_of_ble_eq_true rfl) (fun vv s1 hq => ?_) (fun ee s1 hq => ?_)
  rotate_left
  · obtain ⟨Is1, Fs1, (⟨hv, hps1⟩ | ⟨xx, hv, hps1⟩)⟩ := hq
    · cases hv
    · cases hv
      have Gs1 := fm_ts F Fs1 (by decide) (by decide)
      exact x_out X.1 q (fun x hx => (hXt x hx).elim) (show 1 ≤ 3 by omega) (show 6 ≤ 18 by omega) ⟨_, rfl, Is1, Gs1, Or.inr ⟨xx, rfl, by omega⟩⟩
  obtain ⟨Is1, Fs1, (⟨hv, hps1⟩ | ⟨xx, hv, hps1⟩)⟩ := hq
  rotate_left
  · cases hv
  cases hv
  have Gs1 := fm_ts F Fs1 (by decide) (by decide)
  show WS k 5 [(0, .ref (A 0)), (1, .int (Int32.ofInt x)), (2, .int (Int32.ofInt y)), (3, .int (Int32.ofInt z))] [] (Wd A dT s1) 1 6
  refine z_aload_n X (x := A 0) (show cdA 141 5 = some (.aload_n 0, 1, 0, 0, 0) from rfl) (List.Mem.head _) ?_
  refine z_load_n X (x := y) (show cdA 141 6 = some (.iload_n 2, 1, 0, 0, 0) from rfl) (List.Mem.tail _ (List.Mem.tail _ (List.Mem.head _))) ?_
  refine z_const X (show cdA 141 7 = some (.iconst 0, 1, 0, 0, 0) from rfl) ?_
  refine z_const X (show cdA 141 8 = some (.iconst 2, 1, 0, 0, 0) from rfl) ?_
  refine z_callV X 0 (rm := rmN 184) (As := [.int (Int32.ofInt y), .int (Int32.ofInt 0), .int (Int32.ofInt 2)]) (st := []) (show cdA 141 9 = some (.invokevirtual 151, 3, 184, 0, 0) from rfl) rfl (by decide) rfl (by rw [E.1, E.2.1, E.2.2.1]; exact cs_needWithin G Is1 (by first | exact ⟨p1.1, p1.2⟩ | omega) (by first | exact ⟨by decide, by decide⟩ | omega) (by first | exact ⟨by decide, by decide⟩ | omega)) ⟨by rw [E.2.2.2]; exact (show (rmN 184).frames + 1 ≤ (rmN 141).frames by decide), by rw [E.2.2.2]; exact (show 8 + (mNL (miB 184) + 11) + (rmN 184).locals ≤ (rmN 141).locals by decide), by rw [E.2.2.2]; exact (show 1 + 1 ≤ 3 by omega), by rw [E.2.2.2]; exact (show 6 + 6 ≤ 18 by omega)⟩ (Nat.le_of_ble_eq_true rfl) (fun vv s3 hq => ?_) (fun ee s3 hq => ?_)
  rotate_left
  · obtain ⟨Is3, Fs3, (⟨hv, hps3⟩ | ⟨xx, hv, hps3⟩)⟩ := hq
    · cases hv
    · cases hv
      have Gs3 := fm_ts Gs1 Fs3 (by decide) (by decide)
      exact x_out X.1 q (fun x hx => (hXt x hx).elim) (show (1 + 1) ≤ 3 by omega) (show (6 + 6) ≤ 18 by omega) ⟨_, rfl, Is3, Gs3, Or.inr ⟨xx, rfl, by omega⟩⟩
  obtain ⟨Is3, Fs3, (⟨hv, hps3⟩ | ⟨xx, hv, hps3⟩)⟩ := hq
  rotate_left
  · cases hv
  cases hv
  have Gs3 := fm_ts Gs1 Fs3 (by decide) (by decide)
  show WS k 12 [(0, .ref (A 0)), (1, .int (Int32.ofInt x)), (2, .int (Int32.ofInt y)), (3, .int (Int32.ofInt z))] [] (Wd A dT s3) (1 + 1) (6 + 6)
  refine z_aload_n X (x := A 0) (show cdA 141 12 = some (.aload_n 0, 1, 0, 0, 0) from rfl) (List.Mem.head _) ?_
  refine z_load_n X (x := z) (show cdA 141 13 = some (.iload_n 3, 1, 0, 0, 0) from rfl) (List.Mem.tail _ (List.Mem.tail _ (List.Mem.tail _ (List.Mem.head _)))) ?_
  refine z_const X (show cdA 141 14 = some (.iconst 0, 1, 0, 0, 0) from rfl) ?_
  refine z_const X (show cdA 141 15 = some (.iconst 2, 1, 0, 0, 0) from rfl) ?_
  refine z_callV X 0 (rm := rmN 184) (As := [.int (Int32.ofInt z), .int (Int32.ofInt 0), .int (Int32.ofInt 2)]) (st := []) (show cdA 141 16 = some (.invokevirtual 151, 3, 184, 0, 0) from rfl) rfl (by decide) rfl (by rw [E.1, E.2.1, E.2.2.1]; exact cs_needWithin G Is3 (by first | exact ⟨p2.1, p2.2⟩ | omega) (by first | exact ⟨by decide, by decide⟩ | omega) (by first | exact ⟨by decide, by decide⟩ | omega)) ⟨by rw [E.2.2.2]; exact (show (rmN 184).frames + 1 ≤ (rmN 141).frames by decide), by rw [E.2.2.2]; exact (show 8 + (mNL (miB 184) + 11) + (rmN 184).locals ≤ (rmN 141).locals by decide), by rw [E.2.2.2]; exact (show (1 + 1) + 1 ≤ 3 by omega), by rw [E.2.2.2]; exact (show (6 + 6) + 6 ≤ 18 by omega)⟩ (Nat.le_of_ble_eq_true rfl) (fun vv s5 hq => ?_) (fun ee s5 hq => ?_)
  rotate_left
  · obtain ⟨Is5, Fs5, (⟨hv, hps5⟩ | ⟨xx, hv, hps5⟩)⟩ := hq
    · cases hv
    · cases hv
      have Gs5 := fm_ts Gs3 Fs5 (by decide) (by decide)
      exact x_out X.1 q (fun x hx => (hXt x hx).elim) (show ((1 + 1) + 1) ≤ 3 by omega) (show ((6 + 6) + 6) ≤ 18 by omega) ⟨_, rfl, Is5, Gs5, Or.inr ⟨xx, rfl, by omega⟩⟩
  obtain ⟨Is5, Fs5, (⟨hv, hps5⟩ | ⟨xx, hv, hps5⟩)⟩ := hq
  rotate_left
  · cases hv
  cases hv
  have Gs5 := fm_ts Gs3 Fs5 (by decide) (by decide)
  show WS k 19 [(0, .ref (A 0)), (1, .int (Int32.ofInt x)), (2, .int (Int32.ofInt y)), (3, .int (Int32.ofInt z))] [] (Wd A dT s5) ((1 + 1) + 1) ((6 + 6) + 6)
  refine z_aload_n X (x := A 0) (show cdA 141 19 = some (.aload_n 0, 1, 0, 0, 0) from rfl) (List.Mem.head _) ?_
  refine s_getR X 0 (show cdA 141 20 = some (.getfield 19, 3, 11, 1, 0) from rfl) (by decide) rfl rfl ?_
  refine z_load_n X (x := x) (show cdA 141 23 = some (.iload_n 1, 1, 0, 0, 0) from rfl) (List.Mem.tail _ (List.Mem.head _)) ?_
  refine z_load_n X (x := y) (show cdA 141 24 = some (.iload_n 2, 1, 0, 0, 0) from rfl) (List.Mem.tail _ (List.Mem.tail _ (List.Mem.head _))) ?_
  refine z_load_n X (x := z) (show cdA 141 25 = some (.iload_n 3, 1, 0, 0, 0) from rfl) (List.Mem.tail _ (List.Mem.tail _ (List.Mem.tail _ (List.Mem.head _)))) ?_
  refine z_callV X 3 (rm := rmN 115) (As := [.int (Int32.ofInt x), .int (Int32.ofInt y), .int (Int32.ofInt z)]) (st := []) (show cdA 141 26 = some (.invokevirtual 161, 3, 115, 0, 0) from rfl) rfl (by decide) rfl (by rw [E.1, E.2.1, E.2.2.1]; exact c9_setSpan_3 G Is5 (by first | exact ⟨hps1.1, hps1.2⟩ | omega) (by first | exact ⟨hps3.1, hps3.2⟩ | omega) (by first | exact ⟨hps5.1, hps5.2⟩ | omega)) ⟨by rw [E.2.2.2]; exact (show (rmN 115).frames + 1 ≤ (rmN 141).frames by decide), by rw [E.2.2.2]; exact (show 8 + (mNL (miB 115) + 11) + (rmN 115).locals ≤ (rmN 141).locals by decide), by rw [E.2.2.2]; exact (show ((1 + 1) + 1) + 0 ≤ 3 by omega), by rw [E.2.2.2]; exact (show ((6 + 6) + 6) + 0 ≤ 18 by omega)⟩ (Nat.le_of_ble_eq_true rfl) (fun vv s7 hq => ?_) (fun ee s7 hq => ?_)
  rotate_left
  · obtain ⟨Is7, Fs7, hv, hps7⟩ := hq; cases hv
  obtain ⟨Is7, Fs7, hv, hps7⟩ := hq
  cases hv
  have Gs7 := fm_ts Gs5 Fs7 (by decide) (by decide)
  show WS k 29 [(0, .ref (A 0)), (1, .int (Int32.ofInt x)), (2, .int (Int32.ofInt y)), (3, .int (Int32.ofInt z))] [] (Wd A dT s7) ((1 + 1) + 1) ((6 + 6) + 6)
  exact w_vret X.1 q hRt (ax_d X (show cdA 141 29 = some (.return_, 1, 0, 0, 0) from rfl)) (show ((1 + 1) + 1) ≤ 3 by omega) (show ((6 + 6) + 6) ≤ 18 by omega) ⟨_, rfl, Is7, Gs7, Or.inl ⟨rfl, trivial⟩⟩
set_option maxRecDepth 4000 in
theorem cs_most (G : GX l s0 D tys a0 dT) (I : Bd s) {x y : Int} (p0 : rng x) (p1 : rng y) : CT l s0 D A dT 142 (rmN 142) [.ref (A 0), .int (Int32.ofInt x), .int (Int32.ofInt y)] s (fun o t => Bd t ∧ Fm [] [] s t ∧ ((∃ e, o = .inl (some (.int (Int32.ofInt e))) ∧ rng e ∧ (True)) ∨ ∃ x : Nat, o = .inr (exN x) ∧ (x ≤ 1))) := by
  refine ct_ofX G (by decide) (Nat.le_of_ble_eq_true rfl) (fun k X E ET hRt hXt q => ?_)
  show WS k 0 [(0, .ref (A 0)), (1, .int (Int32.ofInt x)), (2, .int (Int32.ofInt y))] [] _ 0 0
  have F : Fm [] [] s s := fm_rf _ _ s
  refine z_aload_n X (x := A 0) (show cdA 142 0 = some (.aload_n 0, 1, 0, 0, 0) from rfl) (List.Mem.head _) ?_
  refine z_load_n X (x := x) (show cdA 142 1 = some (.iload_n 1, 1, 0, 0, 0) from rfl) (List.Mem.tail _ (List.Mem.head _)) ?_
  refine z_callV X 0 (rm := rmN 180) (As := [.int (Int32.ofInt x)]) (st := []) (show cdA 142 2 = some (.invokevirtual 140, 3, 180, 0, 0) from rfl) rfl (by decide) rfl (by rw [E.1, E.2.1, E.2.2.1]; exact cs_needStream G I (by first | exact ⟨p0.1, p0.2⟩ | omega)) ⟨by rw [E.2.2.2]; exact (show (rmN 180).frames + 1 ≤ (rmN 142).frames by decide), by rw [E.2.2.2]; exact (show 8 + (mNL (miB 180) + 11) + (rmN 180).locals ≤ (rmN 142).locals by decide), by rw [E.2.2.2]; exact (show 0 + 1 ≤ 2 by omega), by rw [E.2.2.2]; exact (show 0 + 6 ≤ 12 by omega)⟩ (Nat.le_of_ble_eq_true rfl) (fun vv s1 hq => ?_) (fun ee s1 hq => ?_)
  rotate_left
  · obtain ⟨Is1, Fs1, (⟨hv, hps1⟩ | ⟨xx, hv, hps1⟩)⟩ := hq
    · cases hv
    · cases hv
      have Gs1 := fm_ts F Fs1 (by decide) (by decide)
      exact x_out X.1 q (fun x hx => (hXt x hx).elim) (show 1 ≤ 2 by omega) (show 6 ≤ 12 by omega) ⟨_, rfl, Is1, Gs1, Or.inr ⟨xx, rfl, by omega⟩⟩
  obtain ⟨Is1, Fs1, (⟨hv, hps1⟩ | ⟨xx, hv, hps1⟩)⟩ := hq
  rotate_left
  · cases hv
  cases hv
  have Gs1 := fm_ts F Fs1 (by decide) (by decide)
  show WS k 5 [(0, .ref (A 0)), (1, .int (Int32.ofInt x)), (2, .int (Int32.ofInt y))] [] (Wd A dT s1) 1 6
  refine z_aload_n X (x := A 0) (show cdA 142 5 = some (.aload_n 0, 1, 0, 0, 0) from rfl) (List.Mem.head _) ?_
  refine z_load_n X (x := y) (show cdA 142 6 = some (.iload_n 2, 1, 0, 0, 0) from rfl) (List.Mem.tail _ (List.Mem.tail _ (List.Mem.head _))) ?_
  refine z_callV X 0 (rm := rmN 183) (As := [.int (Int32.ofInt y)]) (st := []) (show cdA 142 7 = some (.invokevirtual 148, 3, 183, 0, 0) from rfl) rfl (by decide) rfl (by rw [E.1, E.2.1, E.2.2.1]; exact cs_needQuarter G Is1 (by first | exact ⟨p1.1, p1.2⟩ | omega)) ⟨by rw [E.2.2.2]; exact (show (rmN 183).frames + 1 ≤ (rmN 142).frames by decide), by rw [E.2.2.2]; exact (show 8 + (mNL (miB 183) + 11) + (rmN 183).locals ≤ (rmN 142).locals by decide), by rw [E.2.2.2]; exact (show 1 + 1 ≤ 2 by omega), by rw [E.2.2.2]; exact (show 6 + 6 ≤ 12 by omega)⟩ (Nat.le_of_ble_eq_true rfl) (fun vv s3 hq => ?_) (fun ee s3 hq => ?_)
  rotate_left
  · obtain ⟨Is3, Fs3, (⟨hv, hps3⟩ | ⟨xx, hv, hps3⟩)⟩ := hq
    · cases hv
    · cases hv
      have Gs3 := fm_ts Gs1 Fs3 (by decide) (by decide)
      exact x_out X.1 q (fun x hx => (hXt x hx).elim) (show (1 + 1) ≤ 2 by omega) (show (6 + 6) ≤ 12 by omega) ⟨_, rfl, Is3, Gs3, Or.inr ⟨xx, rfl, by omega⟩⟩
  obtain ⟨Is3, Fs3, (⟨hv, hps3⟩ | ⟨xx, hv, hps3⟩)⟩ := hq
  rotate_left
  · cases hv
  cases hv
  have Gs3 := fm_ts Gs1 Fs3 (by decide) (by decide)
  show WS k 10 [(0, .ref (A 0)), (1, .int (Int32.ofInt x)), (2, .int (Int32.ofInt y))] [] (Wd A dT s3) (1 + 1) (6 + 6)
  refine z_aload_n X (x := A 0) (show cdA 142 10 = some (.aload_n 0, 1, 0, 0, 0) from rfl) (List.Mem.head _) ?_
  refine s_getR X 0 (show cdA 142 11 = some (.getfield 19, 3, 11, 1, 0) from rfl) (by decide) rfl rfl ?_
  refine s_getR X 3 (show cdA 142 14 = some (.getfield 164, 3, 9, 12, 0) from rfl) (by decide) rfl rfl ?_
  refine z_load_n X (x := y) (show cdA 142 17 = some (.iload_n 2, 1, 0, 0, 0) from rfl) (List.Mem.tail _ (List.Mem.tail _ (List.Mem.head _))) ?_
  refine z_bipush X (show cdA 142 18 = some (.bipush 12, 2, 0, 0, 12) from rfl) ?_
  refine z_mul X (show cdA 142 20 = some (.imul, 1, 0, 0, 0) from rfl) ?_
  refine z_load_n X (x := x) (show cdA 142 21 = some (.iload_n 1, 1, 0, 0, 0) from rfl) (List.Mem.tail _ (List.Mem.head _)) ?_
  refine z_add X (show cdA 142 22 = some (.iadd, 1, 0, 0, 0) from rfl) ?_
  refine z_ald X 14 (show cdA 142 23 = some (.iaload, 1, 0, 0, 0) from rfl) (by decide) rfl (by first | exact oq_0f03f1de hps3.1 hps1.1 | omega) (show ((y * 12) + x) < 288 by first | exact oq_74a4833a hps3.2 hps1.2 | omega) (by decide) ?_
  have b5 : (0 : Int) ≤ iC s3 11 (((y * 12) + x)).toNat ∧ iC s3 11 (((y * 12) + x)).toNat ≤ 50 := Is3.2 11 _ (show (((y * 12) + x)).toNat < 288 by first | exact oq_5aa97b8f hps3.2 hps1.2 | omega)
  exact w_iret X.1 q hRt rfl (ax_d X (show cdA 142 24 = some (.ireturn, 1, 0, 0, 0) from rfl)) (show (1 + 1) ≤ 2 by omega) (show (6 + 6) ≤ 12 by omega) ⟨_, rfl, Is3, Gs3, Or.inl ⟨(iC s3 11 (((y * 12) + x)).toNat), rfl, (rng_to _), trivial⟩⟩
set_option maxRecDepth 4000 in
theorem cs_assign (G : GX l s0 D tys a0 dT) (I : Bd s) {x y : Int} (p0 : rng x) (p1 : rng y) : CT l s0 D A dT 143 (rmN 143) [.ref (A 0), .int (Int32.ofInt x), .int (Int32.ofInt y)] s (fun o t => Bd t ∧ Fm [] [21, 1022, 1023] s t ∧ ((∃ e, o = .inl (some (.int (Int32.ofInt e))) ∧ rng e ∧ (True)) ∨ ∃ x : Nat, o = .inr (exN x) ∧ (x = 0 ∨ x = 2))) := by
  refine ct_ofX G (by decide) (Nat.le_of_ble_eq_true rfl) (fun k X E ET hRt hXt q => ?_)
  show WS k 0 [(0, .ref (A 0)), (1, .int (Int32.ofInt x)), (2, .int (Int32.ofInt y))] [] _ 0 0
  have F : Fm [] [21, 1022, 1023] s s := fm_rf _ _ s
  refine z_aload_n X (x := A 0) (show cdA 143 0 = some (.aload_n 0, 1, 0, 0, 0) from rfl) (List.Mem.head _) ?_
  refine z_load_n X (x := x) (show cdA 143 1 = some (.iload_n 1, 1, 0, 0, 0) from rfl) (List.Mem.tail _ (List.Mem.head _)) ?_
  refine z_callV X 0 (rm := rmN 181) (As := [.int (Int32.ofInt x)]) (st := []) (show cdA 143 2 = some (.invokevirtual 168, 3, 181, 0, 0) from rfl) rfl (by decide) rfl (by rw [E.1, E.2.1, E.2.2.1]; exact cs_needCell G I (by first | exact ⟨p0.1, p0.2⟩ | omega)) ⟨by rw [E.2.2.2]; exact (show (rmN 181).frames + 1 ≤ (rmN 143).frames by decide), by rw [E.2.2.2]; exact (show 8 + (mNL (miB 181) + 11) + (rmN 181).locals ≤ (rmN 143).locals by decide), by rw [E.2.2.2]; exact (show 0 + 1 ≤ 2 by omega), by rw [E.2.2.2]; exact (show 0 + 6 ≤ 12 by omega)⟩ (Nat.le_of_ble_eq_true rfl) (fun vv s1 hq => ?_) (fun ee s1 hq => ?_)
  rotate_left
  · obtain ⟨Is1, Fs1, (⟨hv, hps1⟩ | ⟨xx, hv, hps1⟩)⟩ := hq
    · cases hv
    · cases hv
      have Gs1 := fm_ts F Fs1 (by decide) (by decide)
      exact x_out X.1 q (fun x hx => (hXt x hx).elim) (show 1 ≤ 2 by omega) (show 6 ≤ 12 by omega) ⟨_, rfl, Is1, Gs1, Or.inr ⟨xx, rfl, by omega⟩⟩
  obtain ⟨Is1, Fs1, (⟨hv, hps1⟩ | ⟨xx, hv, hps1⟩)⟩ := hq
  rotate_left
  · cases hv
  cases hv
  have Gs1 := fm_ts F Fs1 (by decide) (by decide)
  show WS k 5 [(0, .ref (A 0)), (1, .int (Int32.ofInt x)), (2, .int (Int32.ofInt y))] [] (Wd A dT s1) 1 6
  refine z_aload_n X (x := A 0) (show cdA 143 5 = some (.aload_n 0, 1, 0, 0, 0) from rfl) (List.Mem.head _) ?_
  refine z_load_n X (x := y) (show cdA 143 6 = some (.iload_n 2, 1, 0, 0, 0) from rfl) (List.Mem.tail _ (List.Mem.tail _ (List.Mem.head _))) ?_
  refine z_const X (show cdA 143 7 = some (.iconst (-1), 1, 0, 0, 0) from rfl) ?_
  refine z_bipush X (show cdA 143 8 = some (.bipush 7, 2, 0, 0, 7) from rfl) ?_
  refine z_callV X 0 (rm := rmN 184) (As := [.int (Int32.ofInt y), .int (Int32.ofInt (-1)), .int (Int32.ofInt 7)]) (st := []) (show cdA 143 10 = some (.invokevirtual 151, 3, 184, 0, 0) from rfl) rfl (by decide) rfl (by rw [E.1, E.2.1, E.2.2.1]; exact cs_needWithin G Is1 (by first | exact ⟨p1.1, p1.2⟩ | omega) (by first | exact ⟨by decide, by decide⟩ | omega) (by first | exact ⟨by decide, by decide⟩ | omega)) ⟨by rw [E.2.2.2]; exact (show (rmN 184).frames + 1 ≤ (rmN 143).frames by decide), by rw [E.2.2.2]; exact (show 8 + (mNL (miB 184) + 11) + (rmN 184).locals ≤ (rmN 143).locals by decide), by rw [E.2.2.2]; exact (show 1 + 1 ≤ 2 by omega), by rw [E.2.2.2]; exact (show 6 + 6 ≤ 12 by omega)⟩ (Nat.le_of_ble_eq_true rfl) (fun vv s3 hq => ?_) (fun ee s3 hq => ?_)
  rotate_left
  · obtain ⟨Is3, Fs3, (⟨hv, hps3⟩ | ⟨xx, hv, hps3⟩)⟩ := hq
    · cases hv
    · cases hv
      have Gs3 := fm_ts Gs1 Fs3 (by decide) (by decide)
      exact x_out X.1 q (fun x hx => (hXt x hx).elim) (show (1 + 1) ≤ 2 by omega) (show (6 + 6) ≤ 12 by omega) ⟨_, rfl, Is3, Gs3, Or.inr ⟨xx, rfl, by omega⟩⟩
  obtain ⟨Is3, Fs3, (⟨hv, hps3⟩ | ⟨xx, hv, hps3⟩)⟩ := hq
  rotate_left
  · cases hv
  cases hv
  have Gs3 := fm_ts Gs1 Fs3 (by decide) (by decide)
  show WS k 13 [(0, .ref (A 0)), (1, .int (Int32.ofInt x)), (2, .int (Int32.ofInt y))] [] (Wd A dT s3) (1 + 1) (6 + 6)
  refine z_aload_n X (x := A 0) (show cdA 143 13 = some (.aload_n 0, 1, 0, 0, 0) from rfl) (List.Mem.head _) ?_
  refine s_getR X 0 (show cdA 143 14 = some (.getfield 35, 3, 11, 3, 0) from rfl) (by decide) rfl rfl ?_
  refine z_load_n X (x := x) (show cdA 143 17 = some (.iload_n 1, 1, 0, 0, 0) from rfl) (List.Mem.tail _ (List.Mem.head _)) ?_
  refine z_load_n X (x := y) (show cdA 143 18 = some (.iload_n 2, 1, 0, 0, 0) from rfl) (List.Mem.tail _ (List.Mem.tail _ (List.Mem.head _))) ?_
  refine z_callV X 25 (rm := rmN 28) (As := [.int (Int32.ofInt x), .int (Int32.ofInt y)]) (st := []) (show cdA 143 19 = some (.invokevirtual 171, 3, 28, 0, 0) from rfl) rfl (by decide) rfl (by rw [E.1, E.2.1, E.2.2.1]; exact c3_put_25 G Is3 (by first | exact ⟨hps1.1, hps1.2⟩ | omega) (by first | exact ⟨hps3.1, hps3.2⟩ | omega)) ⟨by rw [E.2.2.2]; exact (show (rmN 28).frames + 1 ≤ (rmN 143).frames by decide), by rw [E.2.2.2]; exact (show 8 + (mNL (miB 28) + 11) + (rmN 28).locals ≤ (rmN 143).locals by decide), by rw [E.2.2.2]; exact (show (1 + 1) + 0 ≤ 2 by omega), by rw [E.2.2.2]; exact (show (6 + 6) + 0 ≤ 12 by omega)⟩ (Nat.le_of_ble_eq_true rfl) (fun vv s5 hq => ?_) (fun ee s5 hq => ?_)
  rotate_left
  · obtain ⟨Is5, Fs5, e6, hv, hrs5, hps5⟩ := hq; cases hv
  obtain ⟨Is5, Fs5, e6, hv, hrs5, hps5⟩ := hq
  cases hv
  have Gs5 := fm_ts Gs3 Fs5 (by decide) (by decide)
  show WS k 22 [(0, .ref (A 0)), (1, .int (Int32.ofInt x)), (2, .int (Int32.ofInt y))] [.int (Int32.ofInt e6)] (Wd A dT s5) (1 + 1) (6 + 6)
  exact w_iret X.1 q hRt rfl (ax_d X (show cdA 143 22 = some (.ireturn, 1, 0, 0, 0) from rfl)) (show (1 + 1) ≤ 2 by omega) (show (6 + 6) ≤ 12 by omega) ⟨_, rfl, Is5, Gs5, Or.inl ⟨e6, rfl, hrs5, trivial⟩⟩
set_option maxRecDepth 4000 in
theorem cs_paint (G : GX l s0 D tys a0 dT) (I : Bd s) {x y z : Int} (p0 : rng x) (p1 : rng y) (p2 : rng z) : CT l s0 D A dT 144 (rmN 144) [.ref (A 0), .int (Int32.ofInt x), .int (Int32.ofInt y), .int (Int32.ofInt z)] s (fun o t => Bd t ∧ Fm [] [21, 1022, 1023] s t ∧ ((∃ e, o = .inl (some (.int (Int32.ofInt e))) ∧ rng e ∧ (True)) ∨ ∃ x : Nat, o = .inr (exN x) ∧ (x = 0 ∨ x = 2))) := by
  refine ct_ofX G (by decide) (Nat.le_of_ble_eq_true rfl) (fun k X E ET hRt hXt q => ?_)
  show WS k 0 [(0, .ref (A 0)), (1, .int (Int32.ofInt x)), (2, .int (Int32.ofInt y)), (3, .int (Int32.ofInt z))] [] _ 0 0
  have F : Fm [] [21, 1022, 1023] s s := fm_rf _ _ s
  refine z_aload_n X (x := A 0) (show cdA 144 0 = some (.aload_n 0, 1, 0, 0, 0) from rfl) (List.Mem.head _) ?_
  refine z_load_n X (x := x) (show cdA 144 1 = some (.iload_n 1, 1, 0, 0, 0) from rfl) (List.Mem.tail _ (List.Mem.head _)) ?_
  refine z_callV X 0 (rm := rmN 181) (As := [.int (Int32.ofInt x)]) (st := []) (show cdA 144 2 = some (.invokevirtual 168, 3, 181, 0, 0) from rfl) rfl (by decide) rfl (by rw [E.1, E.2.1, E.2.2.1]; exact cs_needCell G I (by first | exact ⟨p0.1, p0.2⟩ | omega)) ⟨by rw [E.2.2.2]; exact (show (rmN 181).frames + 1 ≤ (rmN 144).frames by decide), by rw [E.2.2.2]; exact (show 8 + (mNL (miB 181) + 11) + (rmN 181).locals ≤ (rmN 144).locals by decide), by rw [E.2.2.2]; exact (show 0 + 1 ≤ 4 by omega), by rw [E.2.2.2]; exact (show 0 + 6 ≤ 24 by omega)⟩ (Nat.le_of_ble_eq_true rfl) (fun vv s1 hq => ?_) (fun ee s1 hq => ?_)
  rotate_left
  · obtain ⟨Is1, Fs1, (⟨hv, hps1⟩ | ⟨xx, hv, hps1⟩)⟩ := hq
    · cases hv
    · cases hv
      have Gs1 := fm_ts F Fs1 (by decide) (by decide)
      exact x_out X.1 q (fun x hx => (hXt x hx).elim) (show 1 ≤ 4 by omega) (show 6 ≤ 24 by omega) ⟨_, rfl, Is1, Gs1, Or.inr ⟨xx, rfl, by omega⟩⟩
  obtain ⟨Is1, Fs1, (⟨hv, hps1⟩ | ⟨xx, hv, hps1⟩)⟩ := hq
  rotate_left
  · cases hv
  cases hv
  have Gs1 := fm_ts F Fs1 (by decide) (by decide)
  show WS k 5 [(0, .ref (A 0)), (1, .int (Int32.ofInt x)), (2, .int (Int32.ofInt y)), (3, .int (Int32.ofInt z))] [] (Wd A dT s1) 1 6
  refine z_aload_n X (x := A 0) (show cdA 144 5 = some (.aload_n 0, 1, 0, 0, 0) from rfl) (List.Mem.head _) ?_
  refine z_load_n X (x := y) (show cdA 144 6 = some (.iload_n 2, 1, 0, 0, 0) from rfl) (List.Mem.tail _ (List.Mem.tail _ (List.Mem.head _))) ?_
  refine z_callV X 0 (rm := rmN 181) (As := [.int (Int32.ofInt y)]) (st := []) (show cdA 144 7 = some (.invokevirtual 168, 3, 181, 0, 0) from rfl) rfl (by decide) rfl (by rw [E.1, E.2.1, E.2.2.1]; exact cs_needCell G Is1 (by first | exact ⟨p1.1, p1.2⟩ | omega)) ⟨by rw [E.2.2.2]; exact (show (rmN 181).frames + 1 ≤ (rmN 144).frames by decide), by rw [E.2.2.2]; exact (show 8 + (mNL (miB 181) + 11) + (rmN 181).locals ≤ (rmN 144).locals by decide), by rw [E.2.2.2]; exact (show 1 + 1 ≤ 4 by omega), by rw [E.2.2.2]; exact (show 6 + 6 ≤ 24 by omega)⟩ (Nat.le_of_ble_eq_true rfl) (fun vv s3 hq => ?_) (fun ee s3 hq => ?_)
  rotate_left
  · obtain ⟨Is3, Fs3, (⟨hv, hps3⟩ | ⟨xx, hv, hps3⟩)⟩ := hq
    · cases hv
    · cases hv
      have Gs3 := fm_ts Gs1 Fs3 (by decide) (by decide)
      exact x_out X.1 q (fun x hx => (hXt x hx).elim) (show (1 + 1) ≤ 4 by omega) (show (6 + 6) ≤ 24 by omega) ⟨_, rfl, Is3, Gs3, Or.inr ⟨xx, rfl, by omega⟩⟩
  obtain ⟨Is3, Fs3, (⟨hv, hps3⟩ | ⟨xx, hv, hps3⟩)⟩ := hq
  rotate_left
  · cases hv
  cases hv
  have Gs3 := fm_ts Gs1 Fs3 (by decide) (by decide)
  show WS k 10 [(0, .ref (A 0)), (1, .int (Int32.ofInt x)), (2, .int (Int32.ofInt y)), (3, .int (Int32.ofInt z))] [] (Wd A dT s3) (1 + 1) (6 + 6)
  refine z_aload_n X (x := A 0) (show cdA 144 10 = some (.aload_n 0, 1, 0, 0, 0) from rfl) (List.Mem.head _) ?_
  refine z_load_n X (x := z) (show cdA 144 11 = some (.iload_n 3, 1, 0, 0, 0) from rfl) (List.Mem.tail _ (List.Mem.tail _ (List.Mem.tail _ (List.Mem.head _)))) ?_
  refine z_const X (show cdA 144 12 = some (.iconst (-1), 1, 0, 0, 0) from rfl) ?_
  refine z_bipush X (show cdA 144 13 = some (.bipush 7, 2, 0, 0, 7) from rfl) ?_
  refine z_callV X 0 (rm := rmN 184) (As := [.int (Int32.ofInt z), .int (Int32.ofInt (-1)), .int (Int32.ofInt 7)]) (st := []) (show cdA 144 15 = some (.invokevirtual 151, 3, 184, 0, 0) from rfl) rfl (by decide) rfl (by rw [E.1, E.2.1, E.2.2.1]; exact cs_needWithin G Is3 (by first | exact ⟨p2.1, p2.2⟩ | omega) (by first | exact ⟨by decide, by decide⟩ | omega) (by first | exact ⟨by decide, by decide⟩ | omega)) ⟨by rw [E.2.2.2]; exact (show (rmN 184).frames + 1 ≤ (rmN 144).frames by decide), by rw [E.2.2.2]; exact (show 8 + (mNL (miB 184) + 11) + (rmN 184).locals ≤ (rmN 144).locals by decide), by rw [E.2.2.2]; exact (show (1 + 1) + 1 ≤ 4 by omega), by rw [E.2.2.2]; exact (show (6 + 6) + 6 ≤ 24 by omega)⟩ (Nat.le_of_ble_eq_true rfl) (fun vv s5 hq => ?_) (fun ee s5 hq => ?_)
  rotate_left
  · obtain ⟨Is5, Fs5, (⟨hv, hps5⟩ | ⟨xx, hv, hps5⟩)⟩ := hq
    · cases hv
    · cases hv
      have Gs5 := fm_ts Gs3 Fs5 (by decide) (by decide)
      exact x_out X.1 q (fun x hx => (hXt x hx).elim) (show ((1 + 1) + 1) ≤ 4 by omega) (show ((6 + 6) + 6) ≤ 24 by omega) ⟨_, rfl, Is5, Gs5, Or.inr ⟨xx, rfl, by omega⟩⟩
  obtain ⟨Is5, Fs5, (⟨hv, hps5⟩ | ⟨xx, hv, hps5⟩)⟩ := hq
  rotate_left
  · cases hv
  cases hv
  have Gs5 := fm_ts Gs3 Fs5 (by decide) (by decide)
  show WS k 18 [(0, .ref (A 0)), (1, .int (Int32.ofInt x)), (2, .int (Int32.ofInt y)), (3, .int (Int32.ofInt z))] [] (Wd A dT s5) ((1 + 1) + 1) ((6 + 6) + 6)
  refine z_load_n X (x := x) (show cdA 144 18 = some (.iload_n 1, 1, 0, 0, 0) from rfl) (List.Mem.tail _ (List.Mem.head _)) ?_
  refine z_bipush X (show cdA 144 19 = some (.bipush 64, 2, 0, 0, 64) from rfl) ?_
  refine z_quot X (show cdA 144 21 = some (.idiv, 1, 0, 0, 0) from rfl) (by first | exact hps1.1 | omega) ⟨by first | exact p0.1 | omega, by first | exact p0.2 | omega⟩ (by decide) (by decide) ?_
  refine z_load_n X (x := y) (show cdA 144 22 = some (.iload_n 2, 1, 0, 0, 0) from rfl) (List.Mem.tail _ (List.Mem.tail _ (List.Mem.head _))) ?_
  refine z_bipush X (show cdA 144 23 = some (.bipush 64, 2, 0, 0, 64) from rfl) ?_
  refine z_quot X (show cdA 144 25 = some (.idiv, 1, 0, 0, 0) from rfl) (by first | exact hps3.1 | omega) ⟨by first | exact p1.1 | omega, by first | exact p1.2 | omega⟩ (by decide) (by decide) ?_
  refine z_icmp_ne X (t := 55) (show cdA 144 26 = some (.if_icmp .ne 29, 3, 1, 0, 0) from rfl) (by decide) ⟨by first | exact oq_e5b8e207 hps1.1 | omega, by first | exact oq_874c0b28 hps1.2 | omega⟩ ⟨by first | exact oq_e5b8e207 hps3.1 | omega, by first | exact oq_874c0b28 hps3.2 | omega⟩ (fun g7 => ?_) (fun g7 => ?_)
  ·
    exact z_throw G X E ET hXt q (st := []) (show cdA 144 55 = some (.new 108, 3, 0, 1, 0) from rfl) (by decide) (by decide) (Nat.le_of_ble_eq_true rfl) (show ((1 + 1) + 1) + 1 ≤ 4 by omega) (show ((6 + 6) + 6) + 6 ≤ 24 by omega) (show ((1 + 1) + 1) + 1 ≤ 4 by omega) (show ((6 + 6) + 6) + 6 ≤ 24 by omega) ⟨_, rfl, Is5, Gs5, Or.inr ⟨0, rfl, by omega⟩⟩
  ·
    refine z_load_n X (x := x) (show cdA 144 29 = some (.iload_n 1, 1, 0, 0, 0) from rfl) (List.Mem.tail _ (List.Mem.head _)) ?_
    refine z_bipush X (show cdA 144 30 = some (.bipush 7, 2, 0, 0, 7) from rfl) ?_
    refine z_band X (show cdA 144 32 = some (.iand, 1, 0, 0, 0) from rfl) ?_
    refine z_any (fun y8 hy8 => ?_)
    refine z_load_n X (x := y) (show cdA 144 33 = some (.iload_n 2, 1, 0, 0, 0) from rfl) (List.Mem.tail _ (List.Mem.tail _ (List.Mem.head _))) ?_
    refine z_bipush X (show cdA 144 34 = some (.bipush 7, 2, 0, 0, 7) from rfl) ?_
    refine z_band X (show cdA 144 36 = some (.iand, 1, 0, 0, 0) from rfl) ?_
    refine z_any (fun y9 hy9 => ?_)
    refine z_icmp_gt X (t := 55) (show cdA 144 37 = some (.if_icmp .gt 18, 3, 4, 0, 0) from rfl) (by decide) hy8 hy9 (fun g10 => ?_) (fun g10 => ?_)
    ·
      exact z_throw G X E ET hXt q (st := []) (show cdA 144 55 = some (.new 108, 3, 0, 1, 0) from rfl) (by decide) (by decide) (Nat.le_of_ble_eq_true rfl) (show ((1 + 1) + 1) + 1 ≤ 4 by omega) (show ((6 + 6) + 6) + 6 ≤ 24 by omega) (show ((1 + 1) + 1) + 1 ≤ 4 by omega) (show ((6 + 6) + 6) + 6 ≤ 24 by omega) ⟨_, rfl, Is5, Gs5, Or.inr ⟨0, rfl, by omega⟩⟩
    ·
      refine z_load_n X (x := x) (show cdA 144 40 = some (.iload_n 1, 1, 0, 0, 0) from rfl) (List.Mem.tail _ (List.Mem.head _)) ?_
      refine z_const X (show cdA 144 41 = some (.iconst 3, 1, 0, 0, 0) from rfl) ?_
      refine z_bshr X (show cdA 144 42 = some (.ishr, 1, 0, 0, 0) from rfl) ?_
      refine z_any (fun y11 hy11 => ?_)
      refine z_bipush X (show cdA 144 43 = some (.bipush 7, 2, 0, 0, 7) from rfl) ?_
      refine z_band X (show cdA 144 45 = some (.iand, 1, 0, 0, 0) from rfl) ?_
      refine z_any (fun y12 hy12 => ?_)
      refine z_load_n X (x := y) (show cdA 144 46 = some (.iload_n 2, 1, 0, 0, 0) from rfl) (List.Mem.tail _ (List.Mem.tail _ (List.Mem.head _))) ?_
      refine z_const X (show cdA 144 47 = some (.iconst 3, 1, 0, 0, 0) from rfl) ?_
      refine z_bshr X (show cdA 144 48 = some (.ishr, 1, 0, 0, 0) from rfl) ?_
      refine z_any (fun y13 hy13 => ?_)
      refine z_bipush X (show cdA 144 49 = some (.bipush 7, 2, 0, 0, 7) from rfl) ?_
      refine z_band X (show cdA 144 51 = some (.iand, 1, 0, 0, 0) from rfl) ?_
      refine z_any (fun y14 hy14 => ?_)
      refine z_icmp_le X (t := 65) (show cdA 144 52 = some (.if_icmp .le 13, 3, 5, 0, 0) from rfl) (by decide) hy12 hy14 (fun g15 => ?_) (fun g15 => ?_)
      ·
        refine z_aload_n X (x := A 0) (show cdA 144 65 = some (.aload_n 0, 1, 0, 0, 0) from rfl) (List.Mem.head _) ?_
        refine s_getR X 0 (show cdA 144 66 = some (.getfield 35, 3, 11, 3, 0) from rfl) (by decide) rfl rfl ?_
        refine z_load_n X (x := x) (show cdA 144 69 = some (.iload_n 1, 1, 0, 0, 0) from rfl) (List.Mem.tail _ (List.Mem.head _)) ?_
        refine z_load_n X (x := y) (show cdA 144 70 = some (.iload_n 2, 1, 0, 0, 0) from rfl) (List.Mem.tail _ (List.Mem.tail _ (List.Mem.head _))) ?_
        refine z_load_n X (x := z) (show cdA 144 71 = some (.iload_n 3, 1, 0, 0, 0) from rfl) (List.Mem.tail _ (List.Mem.tail _ (List.Mem.tail _ (List.Mem.head _)))) ?_
        refine z_callV X 25 (rm := rmN 29) (As := [.int (Int32.ofInt x), .int (Int32.ofInt y), .int (Int32.ofInt z)]) (st := []) (show cdA 144 72 = some (.invokevirtual 176, 3, 29, 0, 0) from rfl) rfl (by decide) rfl (by rw [E.1, E.2.1, E.2.2.1]; exact c3_putAll_25 G Is5 (by first | exact ⟨hps1.1, hps1.2⟩ | omega) (by first | exact ⟨hps3.1, hps3.2⟩ | omega) (by first | exact ⟨hps5.1, hps5.2⟩ | omega)) ⟨by rw [E.2.2.2]; exact (show (rmN 29).frames + 1 ≤ (rmN 144).frames by decide), by rw [E.2.2.2]; exact (show 8 + (mNL (miB 29) + 11) + (rmN 29).locals ≤ (rmN 144).locals by decide), by rw [E.2.2.2]; exact (show ((1 + 1) + 1) + 0 ≤ 4 by omega), by rw [E.2.2.2]; exact (show ((6 + 6) + 6) + 0 ≤ 24 by omega)⟩ (Nat.le_of_ble_eq_true rfl) (fun vv s16 hq => ?_) (fun ee s16 hq => ?_)
        rotate_left
        · obtain ⟨Is16, Fs16, e17, hv, hrs16, hps16⟩ := hq; cases hv
        obtain ⟨Is16, Fs16, e17, hv, hrs16, hps16⟩ := hq
        cases hv
        have Gs16 := fm_ts Gs5 Fs16 (by decide) (by decide)
        show WS k 75 [(0, .ref (A 0)), (1, .int (Int32.ofInt x)), (2, .int (Int32.ofInt y)), (3, .int (Int32.ofInt z))] [.int (Int32.ofInt e17)] (Wd A dT s16) ((1 + 1) + 1) ((6 + 6) + 6)
        exact w_iret X.1 q hRt rfl (ax_d X (show cdA 144 75 = some (.ireturn, 1, 0, 0, 0) from rfl)) (show ((1 + 1) + 1) ≤ 4 by omega) (show ((6 + 6) + 6) ≤ 24 by omega) ⟨_, rfl, Is16, Gs16, Or.inl ⟨e17, rfl, hrs16, trivial⟩⟩
      ·
        exact z_throw G X E ET hXt q (st := []) (show cdA 144 55 = some (.new 108, 3, 0, 1, 0) from rfl) (by decide) (by decide) (Nat.le_of_ble_eq_true rfl) (show ((1 + 1) + 1) + 1 ≤ 4 by omega) (show ((6 + 6) + 6) + 6 ≤ 24 by omega) (show ((1 + 1) + 1) + 1 ≤ 4 by omega) (show ((6 + 6) + 6) + 6 ≤ 24 by omega) ⟨_, rfl, Is5, Gs5, Or.inr ⟨0, rfl, by omega⟩⟩
set_option maxRecDepth 4000 in
theorem cs_limit (G : GX l s0 D tys a0 dT) (I : Bd s) {x y : Int} (p0 : rng x) (p1 : rng y) : CT l s0 D A dT 145 (rmN 145) [.ref (A 0), .int (Int32.ofInt x), .int (Int32.ofInt y)] s (fun o t => Bd t ∧ Fm [] [24] s t ∧ ((∃ e, o = .inl (some (.int (Int32.ofInt e))) ∧ rng e ∧ (True)) ∨ ∃ x : Nat, o = .inr (exN x) ∧ (x = 0))) := by
  refine ct_ofX G (by decide) (Nat.le_of_ble_eq_true rfl) (fun k X E ET hRt hXt q => ?_)
  show WS k 0 [(0, .ref (A 0)), (1, .int (Int32.ofInt x)), (2, .int (Int32.ofInt y))] [] _ 0 0
  have F : Fm [] [24] s s := fm_rf _ _ s
  refine z_aload_n X (x := A 0) (show cdA 145 0 = some (.aload_n 0, 1, 0, 0, 0) from rfl) (List.Mem.head _) ?_
  refine z_load_n X (x := x) (show cdA 145 1 = some (.iload_n 1, 1, 0, 0, 0) from rfl) (List.Mem.tail _ (List.Mem.head _)) ?_
  refine z_callV X 0 (rm := rmN 182) (As := [.int (Int32.ofInt x)]) (st := []) (show cdA 145 2 = some (.invokevirtual 180, 3, 182, 0, 0) from rfl) rfl (by decide) rfl (by rw [E.1, E.2.1, E.2.2.1]; exact cs_needPiece G I (by first | exact ⟨p0.1, p0.2⟩ | omega)) ⟨by rw [E.2.2.2]; exact (show (rmN 182).frames + 1 ≤ (rmN 145).frames by decide), by rw [E.2.2.2]; exact (show 8 + (mNL (miB 182) + 11) + (rmN 182).locals ≤ (rmN 145).locals by decide), by rw [E.2.2.2]; exact (show 0 + 1 ≤ 2 by omega), by rw [E.2.2.2]; exact (show 0 + 6 ≤ 12 by omega)⟩ (Nat.le_of_ble_eq_true rfl) (fun vv s1 hq => ?_) (fun ee s1 hq => ?_)
  rotate_left
  · obtain ⟨Is1, Fs1, (⟨hv, hps1⟩ | ⟨xx, hv, hps1⟩)⟩ := hq
    · cases hv
    · cases hv
      have Gs1 := fm_ts F Fs1 (by decide) (by decide)
      exact x_out X.1 q (fun x hx => (hXt x hx).elim) (show 1 ≤ 2 by omega) (show 6 ≤ 12 by omega) ⟨_, rfl, Is1, Gs1, Or.inr ⟨xx, rfl, by omega⟩⟩
  obtain ⟨Is1, Fs1, (⟨hv, hps1⟩ | ⟨xx, hv, hps1⟩)⟩ := hq
  rotate_left
  · cases hv
  cases hv
  have Gs1 := fm_ts F Fs1 (by decide) (by decide)
  show WS k 5 [(0, .ref (A 0)), (1, .int (Int32.ofInt x)), (2, .int (Int32.ofInt y))] [] (Wd A dT s1) 1 6
  refine z_aload_n X (x := A 0) (show cdA 145 5 = some (.aload_n 0, 1, 0, 0, 0) from rfl) (List.Mem.head _) ?_
  refine z_load_n X (x := y) (show cdA 145 6 = some (.iload_n 2, 1, 0, 0, 0) from rfl) (List.Mem.tail _ (List.Mem.tail _ (List.Mem.head _))) ?_
  refine z_const X (show cdA 145 7 = some (.iconst 0, 1, 0, 0, 0) from rfl) ?_
  refine z_sipush X (show cdA 145 8 = some (.sipush 9999, 3, 0, 0, 9999) from rfl) ?_
  refine z_callV X 0 (rm := rmN 184) (As := [.int (Int32.ofInt y), .int (Int32.ofInt 0), .int (Int32.ofInt 9999)]) (st := []) (show cdA 145 11 = some (.invokevirtual 151, 3, 184, 0, 0) from rfl) rfl (by decide) rfl (by rw [E.1, E.2.1, E.2.2.1]; exact cs_needWithin G Is1 (by first | exact ⟨p1.1, p1.2⟩ | omega) (by first | exact ⟨by decide, by decide⟩ | omega) (by first | exact ⟨by decide, by decide⟩ | omega)) ⟨by rw [E.2.2.2]; exact (show (rmN 184).frames + 1 ≤ (rmN 145).frames by decide), by rw [E.2.2.2]; exact (show 8 + (mNL (miB 184) + 11) + (rmN 184).locals ≤ (rmN 145).locals by decide), by rw [E.2.2.2]; exact (show 1 + 1 ≤ 2 by omega), by rw [E.2.2.2]; exact (show 6 + 6 ≤ 12 by omega)⟩ (Nat.le_of_ble_eq_true rfl) (fun vv s3 hq => ?_) (fun ee s3 hq => ?_)
  rotate_left
  · obtain ⟨Is3, Fs3, (⟨hv, hps3⟩ | ⟨xx, hv, hps3⟩)⟩ := hq
    · cases hv
    · cases hv
      have Gs3 := fm_ts Gs1 Fs3 (by decide) (by decide)
      exact x_out X.1 q (fun x hx => (hXt x hx).elim) (show (1 + 1) ≤ 2 by omega) (show (6 + 6) ≤ 12 by omega) ⟨_, rfl, Is3, Gs3, Or.inr ⟨xx, rfl, by omega⟩⟩
  obtain ⟨Is3, Fs3, (⟨hv, hps3⟩ | ⟨xx, hv, hps3⟩)⟩ := hq
  rotate_left
  · cases hv
  cases hv
  have Gs3 := fm_ts Gs1 Fs3 (by decide) (by decide)
  show WS k 14 [(0, .ref (A 0)), (1, .int (Int32.ofInt x)), (2, .int (Int32.ofInt y))] [] (Wd A dT s3) (1 + 1) (6 + 6)
  refine z_aload_n X (x := A 0) (show cdA 145 14 = some (.aload_n 0, 1, 0, 0, 0) from rfl) (List.Mem.head _) ?_
  refine s_getR X 0 (show cdA 145 15 = some (.getfield 35, 3, 11, 3, 0) from rfl) (by decide) rfl rfl ?_
  refine s_getR X 25 (show cdA 145 18 = some (.getfield 183, 3, 3, 3, 0) from rfl) (by decide) rfl rfl ?_
  refine z_load_n X (x := x) (show cdA 145 21 = some (.iload_n 1, 1, 0, 0, 0) from rfl) (List.Mem.tail _ (List.Mem.head _)) ?_
  refine z_ald X 29 (show cdA 145 22 = some (.iaload, 1, 0, 0, 0) from rfl) (by decide) rfl (by first | exact hps1.1 | omega) (show x < 8 by first | exact oq_aaea290e hps1.2 | omega) (by decide) ?_
  have b5 : (0 : Int) ≤ iC s3 24 (x).toNat ∧ iC s3 24 (x).toNat ≤ 9999 := Is3.2 24 _ (show (x).toNat < 8 by first | exact oq_c19a3aae hps1.2 | omega)
  refine z_store_n X (lv' := [(3, .int (Int32.ofInt (iC s3 24 (x).toNat))), (0, .ref (A 0)), (1, .int (Int32.ofInt x)), (2, .int (Int32.ofInt y))]) (show cdA 145 23 = some (.istore_n 3, 1, 0, 0, 0) from rfl) (by decide) (fun _ h => h) ?_
  refine z_aload_n X (x := A 0) (show cdA 145 24 = some (.aload_n 0, 1, 0, 0, 0) from rfl) (List.Mem.tail _ (List.Mem.head _)) ?_
  refine s_getR X 0 (show cdA 145 25 = some (.getfield 35, 3, 11, 3, 0) from rfl) (by decide) rfl rfl ?_
  refine s_getR X 25 (show cdA 145 28 = some (.getfield 183, 3, 3, 3, 0) from rfl) (by decide) rfl rfl ?_
  refine z_load_n X (x := x) (show cdA 145 31 = some (.iload_n 1, 1, 0, 0, 0) from rfl) (List.Mem.tail _ (List.Mem.tail _ (List.Mem.head _))) ?_
  refine z_load_n X (x := y) (show cdA 145 32 = some (.iload_n 2, 1, 0, 0, 0) from rfl) (List.Mem.tail _ (List.Mem.tail _ (List.Mem.tail _ (List.Mem.head _)))) ?_
  refine z_ast X 29 (show cdA 145 33 = some (.iastore, 1, 0, 0, 0) from rfl) (by decide) rfl (by first | exact hps1.1 | omega) (show x < 8 by first | exact oq_aaea290e hps1.2 | omega) (by decide) ?_
  obtain ⟨s6, hs6⟩ : ∃ x0, x0 = uC s3 24 (x).toNat (Int32.ofInt y) := ⟨_, rfl⟩
  rw [← hs6]
  have Is6 : Bd s6 := by rw [hs6]; exact bd_C Is3 (show (0 : Int) ≤ y ∧ y ≤ 9999 by first | exact ⟨hps3.1, hps3.2⟩ | omega) ⟨by first | exact p1.1 | omega, by first | exact p1.2 | omega⟩
  have Fs6 := fm_C (i := (x).toNat) (x := Int32.ofInt y) Gs3 (show 24 ∈ _ by decide)
  rw [← hs6] at Fs6
  refine z_load_n X (x := (iC s3 24 (x).toNat)) (show cdA 145 34 = some (.iload_n 3, 1, 0, 0, 0) from rfl) (List.Mem.head _) ?_
  exact w_iret X.1 q hRt rfl (ax_d X (show cdA 145 35 = some (.ireturn, 1, 0, 0, 0) from rfl)) (show (1 + 1) ≤ 2 by omega) (show (6 + 6) ≤ 12 by omega) ⟨_, rfl, Is6, Fs6, Or.inl ⟨(iC s3 24 (x).toNat), rfl, (rng_to _), trivial⟩⟩
set_option maxRecDepth 4000 in
theorem cs_hears (G : GX l s0 D tys a0 dT) (I : Bd s) {x y z : Int} (p0 : rng x) (p1 : rng y) (p2 : rng z) : CT l s0 D A dT 146 (rmN 146) [.ref (A 0), .int (Int32.ofInt x), .int (Int32.ofInt y), .int (Int32.ofInt z)] s (fun o t => Bd t ∧ Fm [22, 23] [33, 26, 27, 28, 29, 30, 31, 32, 20] s t ∧ ((∃ e, o = .inl (some (.int (Int32.ofInt e))) ∧ rng e ∧ (True)) ∨ ∃ x : Nat, o = .inr (exN x) ∧ (x = 0))) := by
  refine ct_ofX G (by decide) (Nat.le_of_ble_eq_true rfl) (fun k X E ET hRt hXt q => ?_)
  show WS k 0 [(0, .ref (A 0)), (1, .int (Int32.ofInt x)), (2, .int (Int32.ofInt y)), (3, .int (Int32.ofInt z))] [] _ 0 0
  have F : Fm [22, 23] [33, 26, 27, 28, 29, 30, 31, 32, 20] s s := fm_rf _ _ s
  refine z_aload_n X (x := A 0) (show cdA 146 0 = some (.aload_n 0, 1, 0, 0, 0) from rfl) (List.Mem.head _) ?_
  refine z_load_n X (x := x) (show cdA 146 1 = some (.iload_n 1, 1, 0, 0, 0) from rfl) (List.Mem.tail _ (List.Mem.head _)) ?_
  refine z_callV X 0 (rm := rmN 182) (As := [.int (Int32.ofInt x)]) (st := []) (show cdA 146 2 = some (.invokevirtual 180, 3, 182, 0, 0) from rfl) rfl (by decide) rfl (by rw [E.1, E.2.1, E.2.2.1]; exact cs_needPiece G I (by first | exact ⟨p0.1, p0.2⟩ | omega)) ⟨by rw [E.2.2.2]; exact (show (rmN 182).frames + 1 ≤ (rmN 146).frames by decide), by rw [E.2.2.2]; exact (show 8 + (mNL (miB 182) + 11) + (rmN 182).locals ≤ (rmN 146).locals by decide), by rw [E.2.2.2]; exact (show 0 + 1 ≤ 3 by omega), by rw [E.2.2.2]; exact (show 0 + 6 ≤ 18 by omega)⟩ (Nat.le_of_ble_eq_true rfl) (fun vv s1 hq => ?_) (fun ee s1 hq => ?_)
  rotate_left
  · obtain ⟨Is1, Fs1, (⟨hv, hps1⟩ | ⟨xx, hv, hps1⟩)⟩ := hq
    · cases hv
    · cases hv
      have Gs1 := fm_ts F Fs1 (by decide) (by decide)
      exact x_out X.1 q (fun x hx => (hXt x hx).elim) (show 1 ≤ 3 by omega) (show 6 ≤ 18 by omega) ⟨_, rfl, Is1, Gs1, Or.inr ⟨xx, rfl, by omega⟩⟩
  obtain ⟨Is1, Fs1, (⟨hv, hps1⟩ | ⟨xx, hv, hps1⟩)⟩ := hq
  rotate_left
  · cases hv
  cases hv
  have Gs1 := fm_ts F Fs1 (by decide) (by decide)
  show WS k 5 [(0, .ref (A 0)), (1, .int (Int32.ofInt x)), (2, .int (Int32.ofInt y)), (3, .int (Int32.ofInt z))] [] (Wd A dT s1) 1 6
  refine z_aload_n X (x := A 0) (show cdA 146 5 = some (.aload_n 0, 1, 0, 0, 0) from rfl) (List.Mem.head _) ?_
  refine z_load_n X (x := y) (show cdA 146 6 = some (.iload_n 2, 1, 0, 0, 0) from rfl) (List.Mem.tail _ (List.Mem.tail _ (List.Mem.head _))) ?_
  refine z_callV X 0 (rm := rmN 183) (As := [.int (Int32.ofInt y)]) (st := []) (show cdA 146 7 = some (.invokevirtual 148, 3, 183, 0, 0) from rfl) rfl (by decide) rfl (by rw [E.1, E.2.1, E.2.2.1]; exact cs_needQuarter G Is1 (by first | exact ⟨p1.1, p1.2⟩ | omega)) ⟨by rw [E.2.2.2]; exact (show (rmN 183).frames + 1 ≤ (rmN 146).frames by decide), by rw [E.2.2.2]; exact (show 8 + (mNL (miB 183) + 11) + (rmN 183).locals ≤ (rmN 146).locals by decide), by rw [E.2.2.2]; exact (show 1 + 1 ≤ 3 by omega), by rw [E.2.2.2]; exact (show 6 + 6 ≤ 18 by omega)⟩ (Nat.le_of_ble_eq_true rfl) (fun vv s3 hq => ?_) (fun ee s3 hq => ?_)
  rotate_left
  · obtain ⟨Is3, Fs3, (⟨hv, hps3⟩ | ⟨xx, hv, hps3⟩)⟩ := hq
    · cases hv
    · cases hv
      have Gs3 := fm_ts Gs1 Fs3 (by decide) (by decide)
      exact x_out X.1 q (fun x hx => (hXt x hx).elim) (show (1 + 1) ≤ 3 by omega) (show (6 + 6) ≤ 18 by omega) ⟨_, rfl, Is3, Gs3, Or.inr ⟨xx, rfl, by omega⟩⟩
  obtain ⟨Is3, Fs3, (⟨hv, hps3⟩ | ⟨xx, hv, hps3⟩)⟩ := hq
  rotate_left
  · cases hv
  cases hv
  have Gs3 := fm_ts Gs1 Fs3 (by decide) (by decide)
  show WS k 10 [(0, .ref (A 0)), (1, .int (Int32.ofInt x)), (2, .int (Int32.ofInt y)), (3, .int (Int32.ofInt z))] [] (Wd A dT s3) (1 + 1) (6 + 6)
  refine z_aload_n X (x := A 0) (show cdA 146 10 = some (.aload_n 0, 1, 0, 0, 0) from rfl) (List.Mem.head _) ?_
  refine z_load_n X (x := z) (show cdA 146 11 = some (.iload_n 3, 1, 0, 0, 0) from rfl) (List.Mem.tail _ (List.Mem.tail _ (List.Mem.tail _ (List.Mem.head _)))) ?_
  refine z_const X (show cdA 146 12 = some (.iconst 0, 1, 0, 0, 0) from rfl) ?_
  refine z_const X (show cdA 146 13 = some (.iconst 4, 1, 0, 0, 0) from rfl) ?_
  refine z_callV X 0 (rm := rmN 184) (As := [.int (Int32.ofInt z), .int (Int32.ofInt 0), .int (Int32.ofInt 4)]) (st := []) (show cdA 146 14 = some (.invokevirtual 151, 3, 184, 0, 0) from rfl) rfl (by decide) rfl (by rw [E.1, E.2.1, E.2.2.1]; exact cs_needWithin G Is3 (by first | exact ⟨p2.1, p2.2⟩ | omega) (by first | exact ⟨by decide, by decide⟩ | omega) (by first | exact ⟨by decide, by decide⟩ | omega)) ⟨by rw [E.2.2.2]; exact (show (rmN 184).frames + 1 ≤ (rmN 146).frames by decide), by rw [E.2.2.2]; exact (show 8 + (mNL (miB 184) + 11) + (rmN 184).locals ≤ (rmN 146).locals by decide), by rw [E.2.2.2]; exact (show (1 + 1) + 1 ≤ 3 by omega), by rw [E.2.2.2]; exact (show (6 + 6) + 6 ≤ 18 by omega)⟩ (Nat.le_of_ble_eq_true rfl) (fun vv s5 hq => ?_) (fun ee s5 hq => ?_)
  rotate_left
  · obtain ⟨Is5, Fs5, (⟨hv, hps5⟩ | ⟨xx, hv, hps5⟩)⟩ := hq
    · cases hv
    · cases hv
      have Gs5 := fm_ts Gs3 Fs5 (by decide) (by decide)
      exact x_out X.1 q (fun x hx => (hXt x hx).elim) (show ((1 + 1) + 1) ≤ 3 by omega) (show ((6 + 6) + 6) ≤ 18 by omega) ⟨_, rfl, Is5, Gs5, Or.inr ⟨xx, rfl, by omega⟩⟩
  obtain ⟨Is5, Fs5, (⟨hv, hps5⟩ | ⟨xx, hv, hps5⟩)⟩ := hq
  rotate_left
  · cases hv
  cases hv
  have Gs5 := fm_ts Gs3 Fs5 (by decide) (by decide)
  show WS k 17 [(0, .ref (A 0)), (1, .int (Int32.ofInt x)), (2, .int (Int32.ofInt y)), (3, .int (Int32.ofInt z))] [] (Wd A dT s5) ((1 + 1) + 1) ((6 + 6) + 6)
  refine z_aload_n X (x := A 0) (show cdA 146 17 = some (.aload_n 0, 1, 0, 0, 0) from rfl) (List.Mem.head _) ?_
  refine z_load_n X (x := x) (show cdA 146 18 = some (.iload_n 1, 1, 0, 0, 0) from rfl) (List.Mem.tail _ (List.Mem.head _)) ?_
  refine z_callV X 0 (rm := rmN 179) (As := [.int (Int32.ofInt x)]) (st := []) (show cdA 146 19 = some (.invokevirtual 186, 3, 179, 0, 0) from rfl) rfl (by decide) rfl (by rw [E.1, E.2.1, E.2.2.1]; exact cs_listenTo G Is5 (by first | exact ⟨hps1.1, hps1.2⟩ | omega)) ⟨by rw [E.2.2.2]; exact (show (rmN 179).frames + 1 ≤ (rmN 146).frames by decide), by rw [E.2.2.2]; exact (show 8 + (mNL (miB 179) + 11) + (rmN 179).locals ≤ (rmN 146).locals by decide), by rw [E.2.2.2]; exact (show ((1 + 1) + 1) + 0 ≤ 3 by omega), by rw [E.2.2.2]; exact (show ((6 + 6) + 6) + 0 ≤ 18 by omega)⟩ (Nat.le_of_ble_eq_true rfl) (fun vv s7 hq => ?_) (fun ee s7 hq => ?_)
  rotate_left
  · obtain ⟨Is7, Fs7, hv, hps7⟩ := hq; cases hv
  obtain ⟨Is7, Fs7, hv, hps7⟩ := hq
  cases hv
  have Gs7 := fm_ts Gs5 Fs7 (by decide) (by decide)
  show WS k 22 [(0, .ref (A 0)), (1, .int (Int32.ofInt x)), (2, .int (Int32.ofInt y)), (3, .int (Int32.ofInt z))] [] (Wd A dT s7) ((1 + 1) + 1) ((6 + 6) + 6)
  refine z_aload_n X (x := A 0) (show cdA 146 22 = some (.aload_n 0, 1, 0, 0, 0) from rfl) (List.Mem.head _) ?_
  refine s_getR X 0 (show cdA 146 23 = some (.getfield 44, 3, 11, 4, 0) from rfl) (by decide) rfl rfl ?_
  refine z_load_n X (x := y) (show cdA 146 26 = some (.iload_n 2, 1, 0, 0, 0) from rfl) (List.Mem.tail _ (List.Mem.tail _ (List.Mem.head _))) ?_
  refine z_const X (show cdA 146 27 = some (.iconst (-1), 1, 0, 0, 0) from rfl) ?_
  refine z_callV X 31 (rm := rmN 4) (As := [.int (Int32.ofInt y), .int (Int32.ofInt (-1))]) (st := []) (show cdA 146 28 = some (.invokevirtual 189, 3, 4, 0, 0) from rfl) rfl (by decide) rfl (by rw [E.1, E.2.1, E.2.2.1]; exact c0_loadAt_31 G Is7 (by first | exact ⟨hps3.1, hps3.2⟩ | omega) (by first | exact ⟨by decide, by decide⟩ | omega)) ⟨by rw [E.2.2.2]; exact (show (rmN 4).frames + 1 ≤ (rmN 146).frames by decide), by rw [E.2.2.2]; exact (show 8 + (mNL (miB 4) + 11) + (rmN 4).locals ≤ (rmN 146).locals by decide), by rw [E.2.2.2]; exact (show ((1 + 1) + 1) + 0 ≤ 3 by omega), by rw [E.2.2.2]; exact (show ((6 + 6) + 6) + 0 ≤ 18 by omega)⟩ (Nat.le_of_ble_eq_true rfl) (fun vv s9 hq => ?_) (fun ee s9 hq => ?_)
  rotate_left
  · obtain ⟨Is9, Fs9, e10, hv, hrs9, hps9⟩ := hq; cases hv
  obtain ⟨Is9, Fs9, e10, hv, hrs9, hps9⟩ := hq
  cases hv
  have Gs9 := fm_ts Gs7 Fs9 (by decide) (by decide)
  show WS k 31 [(0, .ref (A 0)), (1, .int (Int32.ofInt x)), (2, .int (Int32.ofInt y)), (3, .int (Int32.ofInt z))] [.int (Int32.ofInt e10)] (Wd A dT s9) ((1 + 1) + 1) ((6 + 6) + 6)
  refine z_store X (lv' := [(4, .int (Int32.ofInt e10)), (0, .ref (A 0)), (1, .int (Int32.ofInt x)), (2, .int (Int32.ofInt y)), (3, .int (Int32.ofInt z))]) (show cdA 146 31 = some (.istore 4, 2, 0, 0, 0) from rfl) (by decide) (fun _ h => h) ?_
  refine z_load_n X (x := z) (show cdA 146 33 = some (.iload_n 3, 1, 0, 0, 0) from rfl) (List.Mem.tail _ (List.Mem.tail _ (List.Mem.tail _ (List.Mem.tail _ (List.Mem.head _))))) ?_
  refine z_const X (show cdA 146 34 = some (.iconst 4, 1, 0, 0, 0) from rfl) ?_
  have N11 : ∀ e12 : Int, (((z ≠ 4) ∧ (((-2147483648) : Int) ≤ iC s9 33 (z).toNat ∧ iC s9 33 (z).toNat ≤ 2147483647) ∧ e12 = (iC s9 33 (z).toNat)) ∨ ((z = 4) ∧ e12 = e10)) → WS k 52 [(4, .int (Int32.ofInt e10)), (0, .ref (A 0)), (1, .int (Int32.ofInt x)), (2, .int (Int32.ofInt y)), (3, .int (Int32.ofInt z))] [.int (Int32.ofInt e12)] (Wd A dT s9) ((1 + 1) + 1) ((6 + 6) + 6) := by
    intro e12 he12
    exact w_iret X.1 q hRt rfl (ax_d X (show cdA 146 52 = some (.ireturn, 1, 0, 0, 0) from rfl)) (show ((1 + 1) + 1) ≤ 3 by omega) (show ((6 + 6) + 6) ≤ 18 by omega) ⟨_, rfl, Is9, Gs9, Or.inl ⟨e12, rfl, ⟨by omega, by omega⟩, trivial⟩⟩
  refine z_icmp_ne X (t := 43) (show cdA 146 35 = some (.if_icmp .ne 8, 3, 1, 0, 0) from rfl) (by decide) ⟨by first | exact p2.1 | omega, by first | exact p2.2 | omega⟩ (by decide) (fun g13 => ?_) (fun g13 => ?_)
  ·
    refine z_aload_n X (x := A 0) (show cdA 146 43 = some (.aload_n 0, 1, 0, 0, 0) from rfl) (List.Mem.tail _ (List.Mem.head _)) ?_
    refine s_getR X 0 (show cdA 146 44 = some (.getfield 44, 3, 11, 4, 0) from rfl) (by decide) rfl rfl ?_
    refine s_getR X 31 (show cdA 146 47 = some (.getfield 192, 3, 0, 11, 0) from rfl) (by decide) rfl rfl ?_
    refine z_load_n X (x := z) (show cdA 146 50 = some (.iload_n 3, 1, 0, 0, 0) from rfl) (List.Mem.tail _ (List.Mem.tail _ (List.Mem.tail _ (List.Mem.tail _ (List.Mem.head _))))) ?_
    refine z_ald X 39 (show cdA 146 51 = some (.iaload, 1, 0, 0, 0) from rfl) (by decide) rfl (by first | exact hps5.1 | omega) (show z < 7 by first | exact oq_a3ef31b4 hps5.2 | omega) (by decide) ?_
    have b14 : ((-2147483648) : Int) ≤ iC s9 33 (z).toNat ∧ iC s9 33 (z).toNat ≤ 2147483647 := Is9.2 33 _ (show (z).toNat < 7 by first | exact oq_f1a80867 hps5.2 | omega)
    exact N11 _ (Or.inl ⟨g13, b14, rfl⟩)
  ·
    refine z_load X (x := e10) (show cdA 146 38 = some (.iload 4, 2, 0, 0, 0) from rfl) (List.Mem.head _) ?_
    refine z_goto X (t := 52) (show cdA 146 40 = some (.goto 12, 3, 0, 0, 0) from rfl) (by decide) ?_
    exact N11 _ (Or.inr (⟨g13, rfl⟩))
set_option maxRecDepth 4000 in
theorem cs_peak (G : GX l s0 D tys a0 dT) (I : Bd s) {x y : Int} (p0 : rng x) (p1 : rng y) : CT l s0 D A dT 147 (rmN 147) [.ref (A 0), .int (Int32.ofInt x), .int (Int32.ofInt y)] s (fun o t => Bd t ∧ Fm [22, 23, 24] [33, 26, 27, 28, 29, 30, 31, 32, 20] s t ∧ ((∃ e, o = .inl (some (.int (Int32.ofInt e))) ∧ rng e ∧ (True)) ∨ ∃ x : Nat, o = .inr (exN x) ∧ (x = 0))) := by
  refine ct_ofX G (by decide) (Nat.le_of_ble_eq_true rfl) (fun k X E ET hRt hXt q => ?_)
  show WS k 0 [(0, .ref (A 0)), (1, .int (Int32.ofInt x)), (2, .int (Int32.ofInt y))] [] _ 0 0
  have F : Fm [22, 23, 24] [33, 26, 27, 28, 29, 30, 31, 32, 20] s s := fm_rf _ _ s
  refine z_aload_n X (x := A 0) (show cdA 147 0 = some (.aload_n 0, 1, 0, 0, 0) from rfl) (List.Mem.head _) ?_
  refine z_load_n X (x := x) (show cdA 147 1 = some (.iload_n 1, 1, 0, 0, 0) from rfl) (List.Mem.tail _ (List.Mem.head _)) ?_
  refine z_callV X 0 (rm := rmN 182) (As := [.int (Int32.ofInt x)]) (st := []) (show cdA 147 2 = some (.invokevirtual 180, 3, 182, 0, 0) from rfl) rfl (by decide) rfl (by rw [E.1, E.2.1, E.2.2.1]; exact cs_needPiece G I (by first | exact ⟨p0.1, p0.2⟩ | omega)) ⟨by rw [E.2.2.2]; exact (show (rmN 182).frames + 1 ≤ (rmN 147).frames by decide), by rw [E.2.2.2]; exact (show 8 + (mNL (miB 182) + 11) + (rmN 182).locals ≤ (rmN 147).locals by decide), by rw [E.2.2.2]; exact (show 0 + 1 ≤ 2 by omega), by rw [E.2.2.2]; exact (show 0 + 6 ≤ 12 by omega)⟩ (Nat.le_of_ble_eq_true rfl) (fun vv s1 hq => ?_) (fun ee s1 hq => ?_)
  rotate_left
  · obtain ⟨Is1, Fs1, (⟨hv, hps1⟩ | ⟨xx, hv, hps1⟩)⟩ := hq
    · cases hv
    · cases hv
      have Gs1 := fm_ts F Fs1 (by decide) (by decide)
      exact x_out X.1 q (fun x hx => (hXt x hx).elim) (show 1 ≤ 2 by omega) (show 6 ≤ 12 by omega) ⟨_, rfl, Is1, Gs1, Or.inr ⟨xx, rfl, by omega⟩⟩
  obtain ⟨Is1, Fs1, (⟨hv, hps1⟩ | ⟨xx, hv, hps1⟩)⟩ := hq
  rotate_left
  · cases hv
  cases hv
  have Gs1 := fm_ts F Fs1 (by decide) (by decide)
  show WS k 5 [(0, .ref (A 0)), (1, .int (Int32.ofInt x)), (2, .int (Int32.ofInt y))] [] (Wd A dT s1) 1 6
  refine z_aload_n X (x := A 0) (show cdA 147 5 = some (.aload_n 0, 1, 0, 0, 0) from rfl) (List.Mem.head _) ?_
  refine z_load_n X (x := y) (show cdA 147 6 = some (.iload_n 2, 1, 0, 0, 0) from rfl) (List.Mem.tail _ (List.Mem.tail _ (List.Mem.head _))) ?_
  refine z_const X (show cdA 147 7 = some (.iconst 0, 1, 0, 0, 0) from rfl) ?_
  refine z_const X (show cdA 147 8 = some (.iconst 1, 1, 0, 0, 0) from rfl) ?_
  refine z_callV X 0 (rm := rmN 184) (As := [.int (Int32.ofInt y), .int (Int32.ofInt 0), .int (Int32.ofInt 1)]) (st := []) (show cdA 147 9 = some (.invokevirtual 151, 3, 184, 0, 0) from rfl) rfl (by decide) rfl (by rw [E.1, E.2.1, E.2.2.1]; exact cs_needWithin G Is1 (by first | exact ⟨p1.1, p1.2⟩ | omega) (by first | exact ⟨by decide, by decide⟩ | omega) (by first | exact ⟨by decide, by decide⟩ | omega)) ⟨by rw [E.2.2.2]; exact (show (rmN 184).frames + 1 ≤ (rmN 147).frames by decide), by rw [E.2.2.2]; exact (show 8 + (mNL (miB 184) + 11) + (rmN 184).locals ≤ (rmN 147).locals by decide), by rw [E.2.2.2]; exact (show 1 + 1 ≤ 2 by omega), by rw [E.2.2.2]; exact (show 6 + 6 ≤ 12 by omega)⟩ (Nat.le_of_ble_eq_true rfl) (fun vv s3 hq => ?_) (fun ee s3 hq => ?_)
  rotate_left
  · obtain ⟨Is3, Fs3, (⟨hv, hps3⟩ | ⟨xx, hv, hps3⟩)⟩ := hq
    · cases hv
    · cases hv
      have Gs3 := fm_ts Gs1 Fs3 (by decide) (by decide)
      exact x_out X.1 q (fun x hx => (hXt x hx).elim) (show (1 + 1) ≤ 2 by omega) (show (6 + 6) ≤ 12 by omega) ⟨_, rfl, Is3, Gs3, Or.inr ⟨xx, rfl, by omega⟩⟩
  obtain ⟨Is3, Fs3, (⟨hv, hps3⟩ | ⟨xx, hv, hps3⟩)⟩ := hq
  rotate_left
  · cases hv
  cases hv
  have Gs3 := fm_ts Gs1 Fs3 (by decide) (by decide)
  show WS k 12 [(0, .ref (A 0)), (1, .int (Int32.ofInt x)), (2, .int (Int32.ofInt y))] [] (Wd A dT s3) (1 + 1) (6 + 6)
  refine z_aload_n X (x := A 0) (show cdA 147 12 = some (.aload_n 0, 1, 0, 0, 0) from rfl) (List.Mem.head _) ?_
  refine z_load_n X (x := x) (show cdA 147 13 = some (.iload_n 1, 1, 0, 0, 0) from rfl) (List.Mem.tail _ (List.Mem.head _)) ?_
  refine z_callV X 0 (rm := rmN 179) (As := [.int (Int32.ofInt x)]) (st := []) (show cdA 147 14 = some (.invokevirtual 186, 3, 179, 0, 0) from rfl) rfl (by decide) rfl (by rw [E.1, E.2.1, E.2.2.1]; exact cs_listenTo G Is3 (by first | exact ⟨hps1.1, hps1.2⟩ | omega)) ⟨by rw [E.2.2.2]; exact (show (rmN 179).frames + 1 ≤ (rmN 147).frames by decide), by rw [E.2.2.2]; exact (show 8 + (mNL (miB 179) + 11) + (rmN 179).locals ≤ (rmN 147).locals by decide), by rw [E.2.2.2]; exact (show (1 + 1) + 0 ≤ 2 by omega), by rw [E.2.2.2]; exact (show (6 + 6) + 0 ≤ 12 by omega)⟩ (Nat.le_of_ble_eq_true rfl) (fun vv s5 hq => ?_) (fun ee s5 hq => ?_)
  rotate_left
  · obtain ⟨Is5, Fs5, hv, hps5⟩ := hq; cases hv
  obtain ⟨Is5, Fs5, hv, hps5⟩ := hq
  cases hv
  have Gs5 := fm_ts Gs3 Fs5 (by decide) (by decide)
  show WS k 17 [(0, .ref (A 0)), (1, .int (Int32.ofInt x)), (2, .int (Int32.ofInt y))] [] (Wd A dT s5) (1 + 1) (6 + 6)
  refine z_aload_n X (x := A 0) (show cdA 147 17 = some (.aload_n 0, 1, 0, 0, 0) from rfl) (List.Mem.head _) ?_
  refine s_getR X 0 (show cdA 147 18 = some (.getfield 44, 3, 11, 4, 0) from rfl) (by decide) rfl rfl ?_
  refine z_callV X 31 (rm := rmN 5) (As := []) (st := []) (show cdA 147 21 = some (.invokevirtual 195, 3, 5, 0, 0) from rfl) rfl (by decide) rfl (by rw [E.1, E.2.1, E.2.2.1]; exact c0_findPeak_31 G Is5 ) ⟨by rw [E.2.2.2]; exact (show (rmN 5).frames + 1 ≤ (rmN 147).frames by decide), by rw [E.2.2.2]; exact (show 8 + (mNL (miB 5) + 11) + (rmN 5).locals ≤ (rmN 147).locals by decide), by rw [E.2.2.2]; exact (show (1 + 1) + 0 ≤ 2 by omega), by rw [E.2.2.2]; exact (show (6 + 6) + 0 ≤ 12 by omega)⟩ (Nat.le_of_ble_eq_true rfl) (fun vv s7 hq => ?_) (fun ee s7 hq => ?_)
  rotate_left
  · obtain ⟨Is7, Fs7, e8, hv, hrs7, hps7⟩ := hq; cases hv
  obtain ⟨Is7, Fs7, e8, hv, hrs7, hps7⟩ := hq
  cases hv
  have Gs7 := fm_ts Gs5 Fs7 (by decide) (by decide)
  show WS k 24 [(0, .ref (A 0)), (1, .int (Int32.ofInt x)), (2, .int (Int32.ofInt y))] [.int (Int32.ofInt e8)] (Wd A dT s7) (1 + 1) (6 + 6)
  refine z_store_n X (lv' := [(3, .int (Int32.ofInt e8)), (0, .ref (A 0)), (1, .int (Int32.ofInt x)), (2, .int (Int32.ofInt y))]) (show cdA 147 24 = some (.istore_n 3, 1, 0, 0, 0) from rfl) (by decide) (fun _ h => h) ?_
  refine z_load_n X (x := y) (show cdA 147 25 = some (.iload_n 2, 1, 0, 0, 0) from rfl) (List.Mem.tail _ (List.Mem.tail _ (List.Mem.tail _ (List.Mem.head _)))) ?_
  have N9 : ∀ e10 : Int, (((y ≠ 0) ∧ ((0 : Int) ≤ iI s7 24 ∧ iI s7 24 ≤ 23) ∧ e10 = (iI s7 24)) ∨ ((y = 0) ∧ e10 = e8)) → WS k 40 [(3, .int (Int32.ofInt e8)), (0, .ref (A 0)), (1, .int (Int32.ofInt x)), (2, .int (Int32.ofInt y))] [.int (Int32.ofInt e10)] (Wd A dT s7) (1 + 1) (6 + 6) := by
    intro e10 he10
    exact w_iret X.1 q hRt rfl (ax_d X (show cdA 147 40 = some (.ireturn, 1, 0, 0, 0) from rfl)) (show (1 + 1) ≤ 2 by omega) (show (6 + 6) ≤ 12 by omega) ⟨_, rfl, Is7, Gs7, Or.inl ⟨e10, rfl, ⟨by omega, by omega⟩, trivial⟩⟩
  refine z_if_ne X (t := 33) (show cdA 147 26 = some (.ifCond .ne 7, 3, 1, 0, 0) from rfl) (by decide) ⟨by first | exact p1.1 | omega, by first | exact p1.2 | omega⟩ (fun g11 => ?_) (fun g11 => ?_)
  ·
    refine z_aload_n X (x := A 0) (show cdA 147 33 = some (.aload_n 0, 1, 0, 0, 0) from rfl) (List.Mem.tail _ (List.Mem.head _)) ?_
    refine s_getR X 0 (show cdA 147 34 = some (.getfield 44, 3, 11, 4, 0) from rfl) (by decide) rfl rfl ?_
    refine z_getI X 31 (show cdA 147 37 = some (.getfield 198, 3, 0, 12, 0) from rfl) (by decide) rfl rfl ?_
    have b12 : (0 : Int) ≤ iI s7 24 ∧ iI s7 24 ≤ 23 := Is7.1 24
    exact N9 _ (Or.inl ⟨g11, b12, rfl⟩)
  ·
    refine z_load_n X (x := e8) (show cdA 147 29 = some (.iload_n 3, 1, 0, 0, 0) from rfl) (List.Mem.head _) ?_
    refine z_goto X (t := 40) (show cdA 147 30 = some (.goto 10, 3, 0, 0, 0) from rfl) (by decide) ?_
    exact N9 _ (Or.inr (⟨g11, rfl⟩))
set_option maxRecDepth 4000 in
theorem cs_whole (G : GX l s0 D tys a0 dT) (I : Bd s) {x : Int} (p0 : rng x) : CT l s0 D A dT 148 (rmN 148) [.ref (A 0), .int (Int32.ofInt x)] s (fun o t => Bd t ∧ Fm [] [] s t ∧ ((∃ e, o = .inl (some (.int (Int32.ofInt e))) ∧ rng e ∧ (e = 0 ∨ e = 1)) ∨ ∃ x : Nat, o = .inr (exN x) ∧ (x = 0))) := by
  refine ct_ofX G (by decide) (Nat.le_of_ble_eq_true rfl) (fun k X E ET hRt hXt q => ?_)
  show WS k 0 [(0, .ref (A 0)), (1, .int (Int32.ofInt x))] [] _ 0 0
  have F : Fm [] [] s s := fm_rf _ _ s
  refine z_aload_n X (x := A 0) (show cdA 148 0 = some (.aload_n 0, 1, 0, 0, 0) from rfl) (List.Mem.head _) ?_
  refine z_load_n X (x := x) (show cdA 148 1 = some (.iload_n 1, 1, 0, 0, 0) from rfl) (List.Mem.tail _ (List.Mem.head _)) ?_
  refine z_callV X 0 (rm := rmN 182) (As := [.int (Int32.ofInt x)]) (st := []) (show cdA 148 2 = some (.invokevirtual 180, 3, 182, 0, 0) from rfl) rfl (by decide) rfl (by rw [E.1, E.2.1, E.2.2.1]; exact cs_needPiece G I (by first | exact ⟨p0.1, p0.2⟩ | omega)) ⟨by rw [E.2.2.2]; exact (show (rmN 182).frames + 1 ≤ (rmN 148).frames by decide), by rw [E.2.2.2]; exact (show 8 + (mNL (miB 182) + 11) + (rmN 182).locals ≤ (rmN 148).locals by decide), by rw [E.2.2.2]; exact (show 0 + 1 ≤ 1 by omega), by rw [E.2.2.2]; exact (show 0 + 6 ≤ 6 by omega)⟩ (Nat.le_of_ble_eq_true rfl) (fun vv s1 hq => ?_) (fun ee s1 hq => ?_)
  rotate_left
  · obtain ⟨Is1, Fs1, (⟨hv, hps1⟩ | ⟨xx, hv, hps1⟩)⟩ := hq
    · cases hv
    · cases hv
      have Gs1 := fm_ts F Fs1 (by decide) (by decide)
      exact x_out X.1 q (fun x hx => (hXt x hx).elim) (show 1 ≤ 1 by omega) (show 6 ≤ 6 by omega) ⟨_, rfl, Is1, Gs1, Or.inr ⟨xx, rfl, by omega⟩⟩
  obtain ⟨Is1, Fs1, (⟨hv, hps1⟩ | ⟨xx, hv, hps1⟩)⟩ := hq
  rotate_left
  · cases hv
  cases hv
  have Gs1 := fm_ts F Fs1 (by decide) (by decide)
  show WS k 5 [(0, .ref (A 0)), (1, .int (Int32.ofInt x))] [] (Wd A dT s1) 1 6
  refine z_aload_n X (x := A 0) (show cdA 148 5 = some (.aload_n 0, 1, 0, 0, 0) from rfl) (List.Mem.head _) ?_
  refine s_getR X 0 (show cdA 148 6 = some (.getfield 35, 3, 11, 3, 0) from rfl) (by decide) rfl rfl ?_
  refine s_getR X 25 (show cdA 148 9 = some (.getfield 201, 3, 3, 1, 0) from rfl) (by decide) rfl rfl ?_
  refine z_load_n X (x := x) (show cdA 148 12 = some (.iload_n 1, 1, 0, 0, 0) from rfl) (List.Mem.tail _ (List.Mem.head _)) ?_
  refine z_lald X 27 (show cdA 148 13 = some (.laload, 1, 0, 0, 0) from rfl) (by decide) rfl (by first | exact hps1.1 | omega) (show x < 8 by first | exact oq_aaea290e hps1.2 | omega) (by decide) (fun j3 => ?_)
  refine z_aload_n X (x := A 0) (show cdA 148 14 = some (.aload_n 0, 1, 0, 0, 0) from rfl) (List.Mem.head _) ?_
  refine s_getR X 0 (show cdA 148 15 = some (.getfield 35, 3, 11, 3, 0) from rfl) (by decide) rfl rfl ?_
  refine s_getR X 25 (show cdA 148 18 = some (.getfield 205, 3, 3, 2, 0) from rfl) (by decide) rfl rfl ?_
  refine z_load_n X (x := x) (show cdA 148 21 = some (.iload_n 1, 1, 0, 0, 0) from rfl) (List.Mem.tail _ (List.Mem.head _)) ?_
  refine z_lald X 28 (show cdA 148 22 = some (.laload, 1, 0, 0, 0) from rfl) (by decide) rfl (by first | exact hps1.1 | omega) (show x < 8 by first | exact oq_aaea290e hps1.2 | omega) (by decide) (fun j4 => ?_)
  refine z_callS X (rm := rmN 34) (As := [.long j3, .long j4]) (st := []) (show cdA 148 23 = some (.invokestatic 208, 3, 34, 1, 0) from rfl) rfl (by rw [E.1, E.2.1, E.2.2.1]; exact c3_hangs G Is1 ) ⟨by rw [E.2.2.2]; exact (show (rmN 34).frames + 1 ≤ (rmN 148).frames by decide), by rw [E.2.2.2]; exact (show 8 + (mNL (miB 34) + 11) + (rmN 34).locals ≤ (rmN 148).locals by decide), by rw [E.2.2.2]; exact (show 1 + 0 ≤ 1 by omega), by rw [E.2.2.2]; exact (show 6 + 0 ≤ 6 by omega)⟩ (Nat.le_of_ble_eq_true rfl) (fun vv s5 hq => ?_) (fun ee s5 hq => ?_)
  rotate_left
  · obtain ⟨Is5, Fs5, e6, hv, hrs5, hps5⟩ := hq; cases hv
  obtain ⟨Is5, Fs5, e6, hv, hrs5, hps5⟩ := hq
  cases hv
  have Gs5 := fm_ts Gs1 Fs5 (by decide) (by decide)
  show WS k 26 [(0, .ref (A 0)), (1, .int (Int32.ofInt x))] [.int (Int32.ofInt e6)] (Wd A dT s5) 1 6
  exact w_iret X.1 q hRt (nar_ret (by first | exact hps5 | omega)) (ax_d X (show cdA 148 26 = some (.ireturn, 1, 0, 0, 0) from rfl)) (show 1 ≤ 1 by omega) (show 6 ≤ 6 by omega) ⟨_, rfl, Is5, Gs5, Or.inl ⟨e6, rfl, hrs5, by first | exact hps5 | omega⟩⟩
set_option maxRecDepth 4000 in
theorem cs_neck (G : GX l s0 D tys a0 dT) (I : Bd s) {x y : Int} (p0 : rng x) (p1 : rng y) : CT l s0 D A dT 149 (rmN 149) [.ref (A 0), .int (Int32.ofInt x), .int (Int32.ofInt y)] s (fun o t => Bd t ∧ Fm [] [] s t ∧ ((∃ e, o = .inl (some (.int (Int32.ofInt e))) ∧ rng e ∧ (True)) ∨ ∃ x : Nat, o = .inr (exN x) ∧ (x = 0))) := by
  refine ct_ofX G (by decide) (Nat.le_of_ble_eq_true rfl) (fun k X E ET hRt hXt q => ?_)
  show WS k 0 [(0, .ref (A 0)), (1, .int (Int32.ofInt x)), (2, .int (Int32.ofInt y))] [] _ 0 0
  have F : Fm [] [] s s := fm_rf _ _ s
  refine z_aload_n X (x := A 0) (show cdA 149 0 = some (.aload_n 0, 1, 0, 0, 0) from rfl) (List.Mem.head _) ?_
  refine z_load_n X (x := x) (show cdA 149 1 = some (.iload_n 1, 1, 0, 0, 0) from rfl) (List.Mem.tail _ (List.Mem.head _)) ?_
  refine z_callV X 0 (rm := rmN 182) (As := [.int (Int32.ofInt x)]) (st := []) (show cdA 149 2 = some (.invokevirtual 180, 3, 182, 0, 0) from rfl) rfl (by decide) rfl (by rw [E.1, E.2.1, E.2.2.1]; exact cs_needPiece G I (by first | exact ⟨p0.1, p0.2⟩ | omega)) ⟨by rw [E.2.2.2]; exact (show (rmN 182).frames + 1 ≤ (rmN 149).frames by decide), by rw [E.2.2.2]; exact (show 8 + (mNL (miB 182) + 11) + (rmN 182).locals ≤ (rmN 149).locals by decide), by rw [E.2.2.2]; exact (show 0 + 1 ≤ 1 by omega), by rw [E.2.2.2]; exact (show 0 + 6 ≤ 6 by omega)⟩ (Nat.le_of_ble_eq_true rfl) (fun vv s1 hq => ?_) (fun ee s1 hq => ?_)
  rotate_left
  · obtain ⟨Is1, Fs1, (⟨hv, hps1⟩ | ⟨xx, hv, hps1⟩)⟩ := hq
    · cases hv
    · cases hv
      have Gs1 := fm_ts F Fs1 (by decide) (by decide)
      exact x_out X.1 q (fun x hx => (hXt x hx).elim) (show 1 ≤ 1 by omega) (show 6 ≤ 6 by omega) ⟨_, rfl, Is1, Gs1, Or.inr ⟨xx, rfl, by omega⟩⟩
  obtain ⟨Is1, Fs1, (⟨hv, hps1⟩ | ⟨xx, hv, hps1⟩)⟩ := hq
  rotate_left
  · cases hv
  cases hv
  have Gs1 := fm_ts F Fs1 (by decide) (by decide)
  show WS k 5 [(0, .ref (A 0)), (1, .int (Int32.ofInt x)), (2, .int (Int32.ofInt y))] [] (Wd A dT s1) 1 6
  refine z_aload_n X (x := A 0) (show cdA 149 5 = some (.aload_n 0, 1, 0, 0, 0) from rfl) (List.Mem.head _) ?_
  refine s_getR X 0 (show cdA 149 6 = some (.getfield 35, 3, 11, 3, 0) from rfl) (by decide) rfl rfl ?_
  refine z_load_n X (x := x) (show cdA 149 9 = some (.iload_n 1, 1, 0, 0, 0) from rfl) (List.Mem.tail _ (List.Mem.head _)) ?_
  refine z_load_n X (x := y) (show cdA 149 10 = some (.iload_n 2, 1, 0, 0, 0) from rfl) (List.Mem.tail _ (List.Mem.tail _ (List.Mem.head _))) ?_
  refine z_callV X 25 (rm := rmN 36) (As := [.int (Int32.ofInt x), .int (Int32.ofInt y)]) (st := []) (show cdA 149 11 = some (.invokevirtual 212, 3, 36, 0, 0) from rfl) rfl (by decide) rfl (by rw [E.1, E.2.1, E.2.2.1]; exact c3_neckAt_25 G Is1 (by first | exact ⟨hps1.1, hps1.2⟩ | omega) (by first | exact ⟨p1.1, p1.2⟩ | omega)) ⟨by rw [E.2.2.2]; exact (show (rmN 36).frames + 1 ≤ (rmN 149).frames by decide), by rw [E.2.2.2]; exact (show 8 + (mNL (miB 36) + 11) + (rmN 36).locals ≤ (rmN 149).locals by decide), by rw [E.2.2.2]; exact (show 1 + 0 ≤ 1 by omega), by rw [E.2.2.2]; exact (show 6 + 0 ≤ 6 by omega)⟩ (Nat.le_of_ble_eq_true rfl) (fun vv s3 hq => ?_) (fun ee s3 hq => ?_)
  rotate_left
  · obtain ⟨Is3, Fs3, e4, hv, hrs3, hps3⟩ := hq; cases hv
  obtain ⟨Is3, Fs3, e4, hv, hrs3, hps3⟩ := hq
  cases hv
  have Gs3 := fm_ts Gs1 Fs3 (by decide) (by decide)
  show WS k 14 [(0, .ref (A 0)), (1, .int (Int32.ofInt x)), (2, .int (Int32.ofInt y))] [.int (Int32.ofInt e4)] (Wd A dT s3) 1 6
  exact w_iret X.1 q hRt rfl (ax_d X (show cdA 149 14 = some (.ireturn, 1, 0, 0, 0) from rfl)) (show 1 ≤ 1 by omega) (show 6 ≤ 6 by omega) ⟨_, rfl, Is3, Gs3, Or.inl ⟨e4, rfl, hrs3, trivial⟩⟩
set_option maxRecDepth 4000 in
theorem cs_shorts (G : GX l s0 D tys a0 dT) (I : Bd s) {x : Int} (p0 : rng x) : CT l s0 D A dT 150 (rmN 150) [.ref (A 0), .int (Int32.ofInt x)] s (fun o t => Bd t ∧ Fm [] [] s t ∧ ((∃ e, o = .inl (some (.int (Int32.ofInt e))) ∧ rng e ∧ (True)) ∨ ∃ x : Nat, o = .inr (exN x) ∧ (x = 0))) := by
  refine ct_ofX G (by decide) (Nat.le_of_ble_eq_true rfl) (fun k X E ET hRt hXt q => ?_)
  show WS k 0 [(0, .ref (A 0)), (1, .int (Int32.ofInt x))] [] _ 0 0
  have F : Fm [] [] s s := fm_rf _ _ s
  refine z_aload_n X (x := A 0) (show cdA 150 0 = some (.aload_n 0, 1, 0, 0, 0) from rfl) (List.Mem.head _) ?_
  refine z_load_n X (x := x) (show cdA 150 1 = some (.iload_n 1, 1, 0, 0, 0) from rfl) (List.Mem.tail _ (List.Mem.head _)) ?_
  refine z_callV X 0 (rm := rmN 182) (As := [.int (Int32.ofInt x)]) (st := []) (show cdA 150 2 = some (.invokevirtual 180, 3, 182, 0, 0) from rfl) rfl (by decide) rfl (by rw [E.1, E.2.1, E.2.2.1]; exact cs_needPiece G I (by first | exact ⟨p0.1, p0.2⟩ | omega)) ⟨by rw [E.2.2.2]; exact (show (rmN 182).frames + 1 ≤ (rmN 150).frames by decide), by rw [E.2.2.2]; exact (show 8 + (mNL (miB 182) + 11) + (rmN 182).locals ≤ (rmN 150).locals by decide), by rw [E.2.2.2]; exact (show 0 + 1 ≤ 1 by omega), by rw [E.2.2.2]; exact (show 0 + 6 ≤ 6 by omega)⟩ (Nat.le_of_ble_eq_true rfl) (fun vv s1 hq => ?_) (fun ee s1 hq => ?_)
  rotate_left
  · obtain ⟨Is1, Fs1, (⟨hv, hps1⟩ | ⟨xx, hv, hps1⟩)⟩ := hq
    · cases hv
    · cases hv
      have Gs1 := fm_ts F Fs1 (by decide) (by decide)
      exact x_out X.1 q (fun x hx => (hXt x hx).elim) (show 1 ≤ 1 by omega) (show 6 ≤ 6 by omega) ⟨_, rfl, Is1, Gs1, Or.inr ⟨xx, rfl, by omega⟩⟩
  obtain ⟨Is1, Fs1, (⟨hv, hps1⟩ | ⟨xx, hv, hps1⟩)⟩ := hq
  rotate_left
  · cases hv
  cases hv
  have Gs1 := fm_ts F Fs1 (by decide) (by decide)
  show WS k 5 [(0, .ref (A 0)), (1, .int (Int32.ofInt x))] [] (Wd A dT s1) 1 6
  refine z_aload_n X (x := A 0) (show cdA 150 5 = some (.aload_n 0, 1, 0, 0, 0) from rfl) (List.Mem.head _) ?_
  refine s_getR X 0 (show cdA 150 6 = some (.getfield 19, 3, 11, 1, 0) from rfl) (by decide) rfl rfl ?_
  refine z_aload_n X (x := A 0) (show cdA 150 9 = some (.aload_n 0, 1, 0, 0, 0) from rfl) (List.Mem.head _) ?_
  refine s_getR X 0 (show cdA 150 10 = some (.getfield 35, 3, 11, 3, 0) from rfl) (by decide) rfl rfl ?_
  refine z_getI X 25 (show cdA 150 13 = some (.getfield 215, 3, 3, 6, 0) from rfl) (by decide) rfl rfl ?_
  have b3 : (0 : Int) ≤ iI s1 21 ∧ iI s1 21 ≤ 9 := Is1.1 21
  refine z_aload_n X (x := A 0) (show cdA 150 16 = some (.aload_n 0, 1, 0, 0, 0) from rfl) (List.Mem.head _) ?_
  refine s_getR X 0 (show cdA 150 17 = some (.getfield 35, 3, 11, 3, 0) from rfl) (by decide) rfl rfl ?_
  refine s_getR X 25 (show cdA 150 20 = some (.getfield 201, 3, 3, 1, 0) from rfl) (by decide) rfl rfl ?_
  refine z_load_n X (x := x) (show cdA 150 23 = some (.iload_n 1, 1, 0, 0, 0) from rfl) (List.Mem.tail _ (List.Mem.head _)) ?_
  refine z_lald X 27 (show cdA 150 24 = some (.laload, 1, 0, 0, 0) from rfl) (by decide) rfl (by first | exact hps1.1 | omega) (show x < 8 by first | exact oq_aaea290e hps1.2 | omega) (by decide) (fun j4 => ?_)
  refine z_aload_n X (x := A 0) (show cdA 150 25 = some (.aload_n 0, 1, 0, 0, 0) from rfl) (List.Mem.head _) ?_
  refine s_getR X 0 (show cdA 150 26 = some (.getfield 35, 3, 11, 3, 0) from rfl) (by decide) rfl rfl ?_
  refine s_getR X 25 (show cdA 150 29 = some (.getfield 205, 3, 3, 2, 0) from rfl) (by decide) rfl rfl ?_
  refine z_load_n X (x := x) (show cdA 150 32 = some (.iload_n 1, 1, 0, 0, 0) from rfl) (List.Mem.tail _ (List.Mem.head _)) ?_
  refine z_lald X 28 (show cdA 150 33 = some (.laload, 1, 0, 0, 0) from rfl) (by decide) rfl (by first | exact hps1.1 | omega) (show x < 8 by first | exact oq_aaea290e hps1.2 | omega) (by decide) (fun j5 => ?_)
  refine z_callV X 3 (rm := rmN 119) (As := [.int (Int32.ofInt (iI s1 21)), .long j4, .long j5]) (st := []) (show cdA 150 34 = some (.invokevirtual 218, 3, 119, 0, 0) from rfl) rfl (by decide) rfl (by rw [E.1, E.2.1, E.2.2.1]; exact c9_shorterThan_3 G Is1 (by first | exact ⟨b3.1, b3.2⟩ | omega)) ⟨by rw [E.2.2.2]; exact (show (rmN 119).frames + 1 ≤ (rmN 150).frames by decide), by rw [E.2.2.2]; exact (show 8 + (mNL (miB 119) + 11) + (rmN 119).locals ≤ (rmN 150).locals by decide), by rw [E.2.2.2]; exact (show 1 + 0 ≤ 1 by omega), by rw [E.2.2.2]; exact (show 6 + 0 ≤ 6 by omega)⟩ (Nat.le_of_ble_eq_true rfl) (fun vv s6 hq => ?_) (fun ee s6 hq => ?_)
  rotate_left
  · obtain ⟨Is6, Fs6, e7, hv, hrs6, hps6⟩ := hq; cases hv
  obtain ⟨Is6, Fs6, e7, hv, hrs6, hps6⟩ := hq
  cases hv
  have Gs6 := fm_ts Gs1 Fs6 (by decide) (by decide)
  show WS k 37 [(0, .ref (A 0)), (1, .int (Int32.ofInt x))] [.int (Int32.ofInt e7)] (Wd A dT s6) 1 6
  exact w_iret X.1 q hRt rfl (ax_d X (show cdA 150 37 = some (.ireturn, 1, 0, 0, 0) from rfl)) (show 1 ≤ 1 by omega) (show 6 ≤ 6 by omega) ⟨_, rfl, Is6, Gs6, Or.inl ⟨e7, rfl, hrs6, trivial⟩⟩
set_option maxRecDepth 4000 in
theorem cs_length (G : GX l s0 D tys a0 dT) (I : Bd s) {x : Int} (p0 : rng x) : CT l s0 D A dT 151 (rmN 151) [.ref (A 0), .int (Int32.ofInt x)] s (fun o t => Bd t ∧ Fm [21] [] s t ∧ ((∃ e, o = .inl (some (.int (Int32.ofInt e))) ∧ rng e ∧ (True)) ∨ ∃ x : Nat, o = .inr (exN x) ∧ (x = 0))) := by
  refine ct_ofX G (by decide) (Nat.le_of_ble_eq_true rfl) (fun k X E ET hRt hXt q => ?_)
  show WS k 0 [(0, .ref (A 0)), (1, .int (Int32.ofInt x))] [] _ 0 0
  have F : Fm [21] [] s s := fm_rf _ _ s
  refine z_aload_n X (x := A 0) (show cdA 151 0 = some (.aload_n 0, 1, 0, 0, 0) from rfl) (List.Mem.head _) ?_
  refine z_load_n X (x := x) (show cdA 151 1 = some (.iload_n 1, 1, 0, 0, 0) from rfl) (List.Mem.tail _ (List.Mem.head _)) ?_
  refine z_const X (show cdA 151 2 = some (.iconst 0, 1, 0, 0, 0) from rfl) ?_
  refine z_bipush X (show cdA 151 3 = some (.bipush 9, 2, 0, 0, 9) from rfl) ?_
  refine z_callV X 0 (rm := rmN 184) (As := [.int (Int32.ofInt x), .int (Int32.ofInt 0), .int (Int32.ofInt 9)]) (st := []) (show cdA 151 5 = some (.invokevirtual 151, 3, 184, 0, 0) from rfl) rfl (by decide) rfl (by rw [E.1, E.2.1, E.2.2.1]; exact cs_needWithin G I (by first | exact ⟨p0.1, p0.2⟩ | omega) (by first | exact ⟨by decide, by decide⟩ | omega) (by first | exact ⟨by decide, by decide⟩ | omega)) ⟨by rw [E.2.2.2]; exact (show (rmN 184).frames + 1 ≤ (rmN 151).frames by decide), by rw [E.2.2.2]; exact (show 8 + (mNL (miB 184) + 11) + (rmN 184).locals ≤ (rmN 151).locals by decide), by rw [E.2.2.2]; exact (show 0 + 1 ≤ 1 by omega), by rw [E.2.2.2]; exact (show 0 + 6 ≤ 6 by omega)⟩ (Nat.le_of_ble_eq_true rfl) (fun vv s1 hq => ?_) (fun ee s1 hq => ?_)
  rotate_left
  · obtain ⟨Is1, Fs1, (⟨hv, hps1⟩ | ⟨xx, hv, hps1⟩)⟩ := hq
    · cases hv
    · cases hv
      have Gs1 := fm_ts F Fs1 (by decide) (by decide)
      exact x_out X.1 q (fun x hx => (hXt x hx).elim) (show 1 ≤ 1 by omega) (show 6 ≤ 6 by omega) ⟨_, rfl, Is1, Gs1, Or.inr ⟨xx, rfl, by omega⟩⟩
  obtain ⟨Is1, Fs1, (⟨hv, hps1⟩ | ⟨xx, hv, hps1⟩)⟩ := hq
  rotate_left
  · cases hv
  cases hv
  have Gs1 := fm_ts F Fs1 (by decide) (by decide)
  show WS k 8 [(0, .ref (A 0)), (1, .int (Int32.ofInt x))] [] (Wd A dT s1) 1 6
  refine z_aload_n X (x := A 0) (show cdA 151 8 = some (.aload_n 0, 1, 0, 0, 0) from rfl) (List.Mem.head _) ?_
  refine s_getR X 0 (show cdA 151 9 = some (.getfield 35, 3, 11, 3, 0) from rfl) (by decide) rfl rfl ?_
  refine z_getI X 25 (show cdA 151 12 = some (.getfield 215, 3, 3, 6, 0) from rfl) (by decide) rfl rfl ?_
  have b3 : (0 : Int) ≤ iI s1 21 ∧ iI s1 21 ≤ 9 := Is1.1 21
  refine z_store_n X (lv' := [(2, .int (Int32.ofInt (iI s1 21))), (0, .ref (A 0)), (1, .int (Int32.ofInt x))]) (show cdA 151 15 = some (.istore_n 2, 1, 0, 0, 0) from rfl) (by decide) (fun _ h => h) ?_
  refine z_aload_n X (x := A 0) (show cdA 151 16 = some (.aload_n 0, 1, 0, 0, 0) from rfl) (List.Mem.tail _ (List.Mem.head _)) ?_
  refine s_getR X 0 (show cdA 151 17 = some (.getfield 35, 3, 11, 3, 0) from rfl) (by decide) rfl rfl ?_
  refine z_load_n X (x := x) (show cdA 151 20 = some (.iload_n 1, 1, 0, 0, 0) from rfl) (List.Mem.tail _ (List.Mem.tail _ (List.Mem.head _))) ?_
  refine s_putI X 25 (show cdA 151 21 = some (.putfield 215, 3, 3, 6, 0) from rfl) (by decide) rfl rfl (by decide) rfl rfl rfl ?_
  obtain ⟨s4, hs4⟩ : ∃ x0, x0 = uI s1 21 (Int32.ofInt x) := ⟨_, rfl⟩
  rw [← hs4]
  have Is4 : Bd s4 := by rw [hs4]; exact bd_I Is1 (show (0 : Int) ≤ x ∧ x ≤ 9 by first | exact ⟨hps1.1, hps1.2⟩ | omega) ⟨by first | exact p0.1 | omega, by first | exact p0.2 | omega⟩
  have Fs4 := fm_I (x := Int32.ofInt x) Gs1 (show 21 ∈ _ by decide)
  rw [← hs4] at Fs4
  have vs4 : iI s4 21 = x := by rw [hs4]; exact iI_u ⟨by first | exact p0.1 | omega, by first | exact p0.2 | omega⟩
  refine z_load_n X (x := (iI s1 21)) (show cdA 151 24 = some (.iload_n 2, 1, 0, 0, 0) from rfl) (List.Mem.head _) ?_
  exact w_iret X.1 q hRt rfl (ax_d X (show cdA 151 25 = some (.ireturn, 1, 0, 0, 0) from rfl)) (show 1 ≤ 1 by omega) (show 6 ≤ 6 by omega) ⟨_, rfl, Is4, Fs4, Or.inl ⟨(iI s1 21), rfl, (rng_to _), trivial⟩⟩
set_option maxRecDepth 4000 in
theorem cs_edge (G : GX l s0 D tys a0 dT) (I : Bd s) {x : Int} (p0 : rng x) : CT l s0 D A dT 152 (rmN 152) [.ref (A 0), .int (Int32.ofInt x)] s (fun o t => Bd t ∧ Fm [] [] s t ∧ ((∃ e, o = .inl (some (.int (Int32.ofInt e))) ∧ rng e ∧ (True)) ∨ ∃ x : Nat, o = .inr (exN x) ∧ (x = 0))) := by
  refine ct_ofX G (by decide) (Nat.le_of_ble_eq_true rfl) (fun k X E ET hRt hXt q => ?_)
  show WS k 0 [(0, .ref (A 0)), (1, .int (Int32.ofInt x))] [] _ 0 0
  have F : Fm [] [] s s := fm_rf _ _ s
  refine z_aload_n X (x := A 0) (show cdA 152 0 = some (.aload_n 0, 1, 0, 0, 0) from rfl) (List.Mem.head _) ?_
  refine z_load_n X (x := x) (show cdA 152 1 = some (.iload_n 1, 1, 0, 0, 0) from rfl) (List.Mem.tail _ (List.Mem.head _)) ?_
  refine z_callV X 0 (rm := rmN 182) (As := [.int (Int32.ofInt x)]) (st := []) (show cdA 152 2 = some (.invokevirtual 180, 3, 182, 0, 0) from rfl) rfl (by decide) rfl (by rw [E.1, E.2.1, E.2.2.1]; exact cs_needPiece G I (by first | exact ⟨p0.1, p0.2⟩ | omega)) ⟨by rw [E.2.2.2]; exact (show (rmN 182).frames + 1 ≤ (rmN 152).frames by decide), by rw [E.2.2.2]; exact (show 8 + (mNL (miB 182) + 11) + (rmN 182).locals ≤ (rmN 152).locals by decide), by rw [E.2.2.2]; exact (show 0 + 1 ≤ 1 by omega), by rw [E.2.2.2]; exact (show 0 + 6 ≤ 6 by omega)⟩ (Nat.le_of_ble_eq_true rfl) (fun vv s1 hq => ?_) (fun ee s1 hq => ?_)
  rotate_left
  · obtain ⟨Is1, Fs1, (⟨hv, hps1⟩ | ⟨xx, hv, hps1⟩)⟩ := hq
    · cases hv
    · cases hv
      have Gs1 := fm_ts F Fs1 (by decide) (by decide)
      exact x_out X.1 q (fun x hx => (hXt x hx).elim) (show 1 ≤ 1 by omega) (show 6 ≤ 6 by omega) ⟨_, rfl, Is1, Gs1, Or.inr ⟨xx, rfl, by omega⟩⟩
  obtain ⟨Is1, Fs1, (⟨hv, hps1⟩ | ⟨xx, hv, hps1⟩)⟩ := hq
  rotate_left
  · cases hv
  cases hv
  have Gs1 := fm_ts F Fs1 (by decide) (by decide)
  show WS k 5 [(0, .ref (A 0)), (1, .int (Int32.ofInt x))] [] (Wd A dT s1) 1 6
  refine z_aload_n X (x := A 0) (show cdA 152 5 = some (.aload_n 0, 1, 0, 0, 0) from rfl) (List.Mem.head _) ?_
  refine s_getR X 0 (show cdA 152 6 = some (.getfield 35, 3, 11, 3, 0) from rfl) (by decide) rfl rfl ?_
  refine z_load_n X (x := x) (show cdA 152 9 = some (.iload_n 1, 1, 0, 0, 0) from rfl) (List.Mem.tail _ (List.Mem.head _)) ?_
  refine z_aload_n X (x := A 0) (show cdA 152 10 = some (.aload_n 0, 1, 0, 0, 0) from rfl) (List.Mem.head _) ?_
  refine s_getR X 0 (show cdA 152 11 = some (.getfield 19, 3, 11, 1, 0) from rfl) (by decide) rfl rfl ?_
  refine z_const X (show cdA 152 14 = some (.iconst 0, 1, 0, 0, 0) from rfl) ?_
  refine z_callV X 3 (rm := rmN 112) (As := [.int (Int32.ofInt 0)]) (st := [.int (Int32.ofInt x), .ref (A 25)]) (show cdA 152 15 = some (.invokevirtual 222, 3, 112, 0, 0) from rfl) rfl (by decide) rfl (by rw [E.1, E.2.1, E.2.2.1]; exact c9_allMeets_3 G Is1 (by first | exact ⟨by decide, by decide⟩ | omega)) ⟨by rw [E.2.2.2]; exact (show (rmN 112).frames + 1 ≤ (rmN 152).frames by decide), by rw [E.2.2.2]; exact (show 8 + (mNL (miB 112) + 11) + (rmN 112).locals ≤ (rmN 152).locals by decide), by rw [E.2.2.2]; exact (show 1 + 0 ≤ 1 by omega), by rw [E.2.2.2]; exact (show 6 + 0 ≤ 6 by omega)⟩ (Nat.le_of_ble_eq_true rfl) (fun vv s3 hq => ?_) (fun ee s3 hq => ?_)
  rotate_left
  · obtain ⟨Is3, Fs3, e4, hv, hrs3, hps3⟩ := hq; cases hv
  obtain ⟨Is3, Fs3, e4, hv, hrs3, hps3⟩ := hq
  cases hv
  have Gs3 := fm_ts Gs1 Fs3 (by decide) (by decide)
  show WS k 18 [(0, .ref (A 0)), (1, .int (Int32.ofInt x))] [.long e4, .int (Int32.ofInt x), .ref (A 25)] (Wd A dT s3) 1 6
  refine z_aload_n X (x := A 0) (show cdA 152 18 = some (.aload_n 0, 1, 0, 0, 0) from rfl) (List.Mem.head _) ?_
  refine s_getR X 0 (show cdA 152 19 = some (.getfield 19, 3, 11, 1, 0) from rfl) (by decide) rfl rfl ?_
  refine z_const X (show cdA 152 22 = some (.iconst 1, 1, 0, 0, 0) from rfl) ?_
  refine z_callV X 3 (rm := rmN 112) (As := [.int (Int32.ofInt 1)]) (st := [.long e4, .int (Int32.ofInt x), .ref (A 25)]) (show cdA 152 23 = some (.invokevirtual 222, 3, 112, 0, 0) from rfl) rfl (by decide) rfl (by rw [E.1, E.2.1, E.2.2.1]; exact c9_allMeets_3 G Is3 (by first | exact ⟨by decide, by decide⟩ | omega)) ⟨by rw [E.2.2.2]; exact (show (rmN 112).frames + 1 ≤ (rmN 152).frames by decide), by rw [E.2.2.2]; exact (show 8 + (mNL (miB 112) + 11) + (rmN 112).locals ≤ (rmN 152).locals by decide), by rw [E.2.2.2]; exact (show 1 + 0 ≤ 1 by omega), by rw [E.2.2.2]; exact (show 6 + 0 ≤ 6 by omega)⟩ (Nat.le_of_ble_eq_true rfl) (fun vv s5 hq => ?_) (fun ee s5 hq => ?_)
  rotate_left
  · obtain ⟨Is5, Fs5, e6, hv, hrs5, hps5⟩ := hq; cases hv
  obtain ⟨Is5, Fs5, e6, hv, hrs5, hps5⟩ := hq
  cases hv
  have Gs5 := fm_ts Gs3 Fs5 (by decide) (by decide)
  show WS k 26 [(0, .ref (A 0)), (1, .int (Int32.ofInt x))] [.long e6, .long e4, .int (Int32.ofInt x), .ref (A 25)] (Wd A dT s5) 1 6
  refine z_callV X 25 (rm := rmN 38) (As := [.int (Int32.ofInt x), .long e4, .long e6]) (st := []) (show cdA 152 26 = some (.invokevirtual 226, 3, 38, 0, 0) from rfl) rfl (by decide) rfl (by rw [E.1, E.2.1, E.2.2.1]; exact c3_countAtEdge_25 G Is5 (by first | exact ⟨hps1.1, hps1.2⟩ | omega)) ⟨by rw [E.2.2.2]; exact (show (rmN 38).frames + 1 ≤ (rmN 152).frames by decide), by rw [E.2.2.2]; exact (show 8 + (mNL (miB 38) + 11) + (rmN 38).locals ≤ (rmN 152).locals by decide), by rw [E.2.2.2]; exact (show 1 + 0 ≤ 1 by omega), by rw [E.2.2.2]; exact (show 6 + 0 ≤ 6 by omega)⟩ (Nat.le_of_ble_eq_true rfl) (fun vv s7 hq => ?_) (fun ee s7 hq => ?_)
  rotate_left
  · obtain ⟨Is7, Fs7, e8, hv, hrs7, hps7⟩ := hq; cases hv
  obtain ⟨Is7, Fs7, e8, hv, hrs7, hps7⟩ := hq
  cases hv
  have Gs7 := fm_ts Gs5 Fs7 (by decide) (by decide)
  show WS k 29 [(0, .ref (A 0)), (1, .int (Int32.ofInt x))] [.int (Int32.ofInt e8)] (Wd A dT s7) 1 6
  exact w_iret X.1 q hRt rfl (ax_d X (show cdA 152 29 = some (.ireturn, 1, 0, 0, 0) from rfl)) (show 1 ≤ 1 by omega) (show 6 ≤ 6 by omega) ⟨_, rfl, Is7, Gs7, Or.inl ⟨e8, rfl, hrs7, trivial⟩⟩
set_option maxRecDepth 4000 in
theorem cs_holds (G : GX l s0 D tys a0 dT) (I : Bd s)  : CT l s0 D A dT 153 (rmN 153) [.ref (A 0)] s (fun o t => Bd t ∧ Fm [22, 23, 24] [33, 26, 27, 28, 29, 30, 31, 32, 20] s t ∧ ∃ e, o = .inl (some (.int (Int32.ofInt e))) ∧ rng e ∧ (e = 0 ∨ e = 1)) := by
  refine ct_ofX G (by decide) (Nat.le_of_ble_eq_true rfl) (fun k X E ET hRt hXt q => ?_)
  show WS k 0 [(0, .ref (A 0))] [] _ 0 0
  have F : Fm [22, 23, 24] [33, 26, 27, 28, 29, 30, 31, 32, 20] s s := fm_rf _ _ s
  have L2 : ∀ (n : Nat) (t : PS) (p : Int), Bd t → Fm [22, 23, 24] [33, 26, 27, 28, 29, 30, 31, 32, 20] s t → (0 ≤ p ∧ p ≤ 8) → (8 - p : Int).toNat < n → (∀ (t' : PS) (p' : Int), Bd t' → Fm [22, 23, 24] [33, 26, 27, 28, 29, 30, 31, 32, 20] s t' → (0 ≤ p' ∧ p' ≤ 8) → WS k 38 [(0, .ref (A 0)), (1, .int (Int32.ofInt p'))] [] (Wd A dT t') 0 0) → WS k 2 [(0, .ref (A 0)), (1, .int (Int32.ofInt p))] [] (Wd A dT t) 0 0 := by
    intro n
    induction n with
    | zero =>
      intro t p I F hi hm kx
      exact absurd hm (Nat.not_lt_zero _)
    | succ n ih =>
      intro t p I F hi hm kx
      refine z_load_n X (x := p) (show cdA 153 2 = some (.iload_n 1, 1, 0, 0, 0) from rfl) (List.Mem.tail _ (List.Mem.head _)) ?_
      refine z_bipush X (show cdA 153 3 = some (.bipush 8, 2, 0, 0, 8) from rfl) ?_
      refine z_icmp_ge X (t := 38) (show cdA 153 5 = some (.if_icmp .ge 33, 3, 3, 0, 0) from rfl) (by decide) ⟨by first | exact oq_fa4e5087 hi.1 | omega, by first | exact oq_d3f5d874 hi.2 | omega⟩ (by decide) (fun g1001 => ?_) (fun g1001 => ?_)
      ·
        refine WS_lv (lv := [(0, .ref (A 0)), (1, .int (Int32.ofInt p))]) (List.forall_mem_cons.mpr ⟨(List.Mem.head _), (List.forall_mem_cons.mpr ⟨(List.Mem.tail _ (List.Mem.head _)), (fun q h => absurd h List.not_mem_nil)⟩)⟩) ?_
        exact kx _ p I F (by first | exact ⟨hi.1, hi.2⟩ | omega)
      ·
        refine z_aload_n X (x := A 0) (show cdA 153 8 = some (.aload_n 0, 1, 0, 0, 0) from rfl) (List.Mem.head _) ?_
        refine s_getR X 0 (show cdA 153 9 = some (.getfield 35, 3, 11, 3, 0) from rfl) (by decide) rfl rfl ?_
        refine z_load_n X (x := p) (show cdA 153 12 = some (.iload_n 1, 1, 0, 0, 0) from rfl) (List.Mem.tail _ (List.Mem.head _)) ?_
        refine z_callV X 25 (rm := rmN 30) (As := [.int (Int32.ofInt p)]) (st := []) (show cdA 153 13 = some (.invokevirtual 229, 3, 30, 0, 0) from rfl) rfl (by decide) rfl (by rw [E.1, E.2.1, E.2.2.1]; exact c3_hasCells_25 G I (by first | exact ⟨hi.1, oq_78c639ed g1001⟩ | omega)) ⟨by rw [E.2.2.2]; exact (show (rmN 30).frames + 1 ≤ (rmN 153).frames by decide), by rw [E.2.2.2]; exact (show 8 + (mNL (miB 30) + 11) + (rmN 30).locals ≤ (rmN 153).locals by decide), by rw [E.2.2.2]; exact (show 0 + (rmN 30).cells ≤ (rmN 153).cells by decide), by rw [E.2.2.2]; exact (show 0 + (rmN 30).slots ≤ (rmN 153).slots by decide)⟩ (Nat.le_of_ble_eq_true rfl) (fun vv s1002 hq => ?_) (fun ee s1002 hq => ?_)
        rotate_left
        · obtain ⟨Is1002, Fs1002, e1003, hv, hrs1002, hps1002⟩ := hq; cases hv
        obtain ⟨Is1002, Fs1002, e1003, hv, hrs1002, hps1002⟩ := hq
        cases hv
        have Gs1002 := fm_ts F Fs1002 (by decide) (by decide)
        show WS k 16 [(0, .ref (A 0)), (1, .int (Int32.ofInt p))] [.int (Int32.ofInt e1003)] (Wd A dT s1002) 0 0
        refine z_if_eq X (t := 32) (show cdA 153 16 = some (.ifCond .eq 16, 3, 0, 0, 0) from rfl) (by decide) hrs1002 (fun g1004 => ?_) (fun g1004 => ?_)
        ·
          refine z_inc X (x := p) (lv' := [(1, .int (Int32.ofInt (p + 1))), (0, .ref (A 0))]) (show cdA 153 32 = some (.iinc 1 1, 3, 0, 0, 0) from rfl) (by decide) (List.Mem.tail _ (List.Mem.head _)) (fun _ h => h) ?_
          refine z_goto X (t := 2) (show cdA 153 35 = some (.goto (-33), 3, 0, 0, 0) from rfl) (by decide) ?_
          refine WS_lv (lv := [(0, .ref (A 0)), (1, .int (Int32.ofInt (p + 1)))]) (List.forall_mem_cons.mpr ⟨(List.Mem.tail _ (List.Mem.head _)), (List.forall_mem_cons.mpr ⟨(List.Mem.head _), (fun q h => absurd h List.not_mem_nil)⟩)⟩) ?_
          exact ih _ (p + 1) Is1002 Gs1002 (by first | exact ⟨oq_54f49eb5 hi.1, oq_0c7b19c3 g1001⟩ | omega) (by first | exact qk_me hm (by decide) (oq_9f368f35 g1001) | omega) kx
        ·
          refine z_aload_n X (x := A 0) (show cdA 153 19 = some (.aload_n 0, 1, 0, 0, 0) from rfl) (List.Mem.head _) ?_
          refine s_getR X 0 (show cdA 153 20 = some (.getfield 53, 3, 11, 5, 0) from rfl) (by decide) rfl rfl ?_
          refine z_load_n X (x := p) (show cdA 153 23 = some (.iload_n 1, 1, 0, 0, 0) from rfl) (List.Mem.tail _ (List.Mem.head _)) ?_
          refine z_callV X 41 (rm := rmN 18) (As := [.int (Int32.ofInt p)]) (st := []) (show cdA 153 24 = some (.invokevirtual 233, 3, 18, 0, 0) from rfl) rfl (by decide) rfl (by rw [E.1, E.2.1, E.2.2.1]; exact c2_stands_41 G Is1002 (by first | exact ⟨hi.1, oq_78c639ed g1001⟩ | omega)) ⟨by rw [E.2.2.2]; exact (show (rmN 18).frames + 1 ≤ (rmN 153).frames by decide), by rw [E.2.2.2]; exact (show 8 + (mNL (miB 18) + 11) + (rmN 18).locals ≤ (rmN 153).locals by decide), by rw [E.2.2.2]; exact (show 0 + (rmN 18).cells ≤ (rmN 153).cells by decide), by rw [E.2.2.2]; exact (show 0 + (rmN 18).slots ≤ (rmN 153).slots by decide)⟩ (Nat.le_of_ble_eq_true rfl) (fun vv s1005 hq => ?_) (fun ee s1005 hq => ?_)
          rotate_left
          · obtain ⟨Is1005, Fs1005, e1006, hv, hrs1005, hps1005⟩ := hq; cases hv
          obtain ⟨Is1005, Fs1005, e1006, hv, hrs1005, hps1005⟩ := hq
          cases hv
          have Gs1005 := fm_ts Gs1002 Fs1005 (by decide) (by decide)
          show WS k 27 [(0, .ref (A 0)), (1, .int (Int32.ofInt p))] [.int (Int32.ofInt e1006)] (Wd A dT s1005) 0 0
          refine z_if_ne X (t := 32) (show cdA 153 27 = some (.ifCond .ne 5, 3, 1, 0, 0) from rfl) (by decide) hrs1005 (fun g1007 => ?_) (fun g1007 => ?_)
          ·
            refine z_inc X (x := p) (lv' := [(1, .int (Int32.ofInt (p + 1))), (0, .ref (A 0))]) (show cdA 153 32 = some (.iinc 1 1, 3, 0, 0, 0) from rfl) (by decide) (List.Mem.tail _ (List.Mem.head _)) (fun _ h => h) ?_
            refine z_goto X (t := 2) (show cdA 153 35 = some (.goto (-33), 3, 0, 0, 0) from rfl) (by decide) ?_
            refine WS_lv (lv := [(0, .ref (A 0)), (1, .int (Int32.ofInt (p + 1)))]) (List.forall_mem_cons.mpr ⟨(List.Mem.tail _ (List.Mem.head _)), (List.forall_mem_cons.mpr ⟨(List.Mem.head _), (fun q h => absurd h List.not_mem_nil)⟩)⟩) ?_
            exact ih _ (p + 1) Is1005 Gs1005 (by first | exact ⟨oq_54f49eb5 hi.1, oq_0c7b19c3 g1001⟩ | omega) (by first | exact qk_me hm (by decide) (oq_9f368f35 g1001) | omega) kx
          ·
            refine z_const X (show cdA 153 30 = some (.iconst 0, 1, 0, 0, 0) from rfl) ?_
            exact w_iret X.1 q hRt (nar_ret (by first | exact Or.inl (by decide) | omega)) (ax_d X (show cdA 153 31 = some (.ireturn, 1, 0, 0, 0) from rfl)) (Nat.zero_le _) (Nat.zero_le _) ⟨_, rfl, Is1005, Gs1005, 0, rfl, (by decide), by first | exact Or.inl (by decide) | omega⟩
  refine z_const X (show cdA 153 0 = some (.iconst 0, 1, 0, 0, 0) from rfl) ?_
  refine z_store_n X (lv' := [(1, .int (Int32.ofInt 0)), (0, .ref (A 0))]) (show cdA 153 1 = some (.istore_n 1, 1, 0, 0, 0) from rfl) (by decide) (fun _ h => h) ?_
  refine WS_lv (lv := [(0, .ref (A 0)), (1, .int (Int32.ofInt 0))]) (List.forall_mem_cons.mpr ⟨(List.Mem.tail _ (List.Mem.head _)), (List.forall_mem_cons.mpr ⟨(List.Mem.head _), (fun q h => absurd h List.not_mem_nil)⟩)⟩) ?_
  refine L2 ((8 - 0 : Int).toNat + 1) s 0 I F (by first | exact ⟨by decide, by decide⟩ | omega) (Nat.lt_succ_self _) ?_
  intro s1 x2 Is1 Fs1 hs1
  refine z_const X (show cdA 153 38 = some (.iconst 1, 1, 0, 0, 0) from rfl) ?_
  exact w_iret X.1 q hRt (nar_ret (by first | exact Or.inr (by decide) | omega)) (ax_d X (show cdA 153 39 = some (.ireturn, 1, 0, 0, 0) from rfl)) (Nat.zero_le _) (Nat.zero_le _) ⟨_, rfl, Is1, Fs1, 1, rfl, (by decide), by first | exact Or.inr (by decide) | omega⟩
set_option maxRecDepth 4000 in
theorem cs_cost (G : GX l s0 D tys a0 dT) (I : Bd s)  : CT l s0 D A dT 154 (rmN 154) [.ref (A 0)] s (fun o t => Bd t ∧ Fm [22, 23, 24] [33, 26, 27, 28, 29, 30, 31, 32, 20, 36, 37, 35] s t ∧ ∃ e, o = .inl (some (.int (Int32.ofInt e))) ∧ rng e ∧ (True)) := by
  refine ct_ofX G (by decide) (Nat.le_of_ble_eq_true rfl) (fun k X E ET hRt hXt q => ?_)
  show WS k 0 [(0, .ref (A 0))] [] _ 0 0
  have F : Fm [22, 23, 24] [33, 26, 27, 28, 29, 30, 31, 32, 20, 36, 37, 35] s s := fm_rf _ _ s
  refine z_aload_n X (x := A 0) (show cdA 154 0 = some (.aload_n 0, 1, 0, 0, 0) from rfl) (List.Mem.head _) ?_
  refine s_getR X 0 (show cdA 154 1 = some (.getfield 53, 3, 11, 5, 0) from rfl) (by decide) rfl rfl ?_
  refine z_callV X 41 (rm := rmN 20) (As := []) (st := []) (show cdA 154 4 = some (.invokevirtual 236, 3, 20, 0, 0) from rfl) rfl (by decide) rfl (by rw [E.1, E.2.1, E.2.2.1]; exact c2_measure_41 G I ) ⟨by rw [E.2.2.2]; exact (show (rmN 20).frames + 1 ≤ (rmN 154).frames by decide), by rw [E.2.2.2]; exact (show 8 + (mNL (miB 20) + 11) + (rmN 20).locals ≤ (rmN 154).locals by decide), by rw [E.2.2.2]; exact (show 0 + (rmN 20).cells ≤ (rmN 154).cells by decide), by rw [E.2.2.2]; exact (show 0 + (rmN 20).slots ≤ (rmN 154).slots by decide)⟩ (Nat.le_of_ble_eq_true rfl) (fun vv s1 hq => ?_) (fun ee s1 hq => ?_)
  rotate_left
  · obtain ⟨Is1, Fs1, hv, hps1⟩ := hq; cases hv
  obtain ⟨Is1, Fs1, hv, hps1⟩ := hq
  cases hv
  have Gs1 := fm_ts F Fs1 (by decide) (by decide)
  show WS k 7 [(0, .ref (A 0))] [] (Wd A dT s1) 0 0
  refine z_aload_n X (x := A 0) (show cdA 154 7 = some (.aload_n 0, 1, 0, 0, 0) from rfl) (List.Mem.head _) ?_
  refine s_getR X 0 (show cdA 154 8 = some (.getfield 53, 3, 11, 5, 0) from rfl) (by decide) rfl rfl ?_
  refine z_callV X 41 (rm := rmN 22) (As := []) (st := []) (show cdA 154 11 = some (.invokevirtual 239, 3, 22, 0, 0) from rfl) rfl (by decide) rfl (by rw [E.1, E.2.1, E.2.2.1]; exact c2_priceNow_41 G Is1 ) ⟨by rw [E.2.2.2]; exact (show (rmN 22).frames + 1 ≤ (rmN 154).frames by decide), by rw [E.2.2.2]; exact (show 8 + (mNL (miB 22) + 11) + (rmN 22).locals ≤ (rmN 154).locals by decide), by rw [E.2.2.2]; exact (show 0 + (rmN 22).cells ≤ (rmN 154).cells by decide), by rw [E.2.2.2]; exact (show 0 + (rmN 22).slots ≤ (rmN 154).slots by decide)⟩ (Nat.le_of_ble_eq_true rfl) (fun vv s3 hq => ?_) (fun ee s3 hq => ?_)
  rotate_left
  · obtain ⟨Is3, Fs3, e4, hv, hrs3, hps3⟩ := hq; cases hv
  obtain ⟨Is3, Fs3, e4, hv, hrs3, hps3⟩ := hq
  cases hv
  have Gs3 := fm_ts Gs1 Fs3 (by decide) (by decide)
  show WS k 14 [(0, .ref (A 0))] [.int (Int32.ofInt e4)] (Wd A dT s3) 0 0
  exact w_iret X.1 q hRt rfl (ax_d X (show cdA 154 14 = some (.ireturn, 1, 0, 0, 0) from rfl)) (Nat.zero_le _) (Nat.zero_le _) ⟨_, rfl, Is3, Gs3, e4, rfl, hrs3, trivial⟩
set_option maxRecDepth 4000 in
theorem cs_better (G : GX l s0 D tys a0 dT) (I : Bd s) {x : Int} (p0 : rng x) : CT l s0 D A dT 155 (rmN 155) [.ref (A 0), .int (Int32.ofInt x)] s (fun o t => Bd t ∧ Fm [22, 23, 24, 25, 26, 27] [33, 26, 27, 28, 29, 30, 31, 32, 20, 36, 37, 21, 35, 38, 1022, 1023] s t ∧ ((∃ e, o = .inl (some (.int (Int32.ofInt e))) ∧ rng e ∧ (True)) ∨ ∃ x : Nat, o = .inr (exN x) ∧ (x = 0))) := by
  refine ct_ofX G (by decide) (Nat.le_of_ble_eq_true rfl) (fun k X E ET hRt hXt q => ?_)
  show WS k 0 [(0, .ref (A 0)), (1, .int (Int32.ofInt x))] [] _ 0 0
  have F : Fm [22, 23, 24, 25, 26, 27] [33, 26, 27, 28, 29, 30, 31, 32, 20, 36, 37, 21, 35, 38, 1022, 1023] s s := fm_rf _ _ s
  refine z_aload_n X (x := A 0) (show cdA 155 0 = some (.aload_n 0, 1, 0, 0, 0) from rfl) (List.Mem.head _) ?_
  refine z_load_n X (x := x) (show cdA 155 1 = some (.iload_n 1, 1, 0, 0, 0) from rfl) (List.Mem.tail _ (List.Mem.head _)) ?_
  refine z_const X (show cdA 155 2 = some (.iconst 0, 1, 0, 0, 0) from rfl) ?_
  refine z_const X (show cdA 155 3 = some (.iconst 2, 1, 0, 0, 0) from rfl) ?_
  refine z_callV X 0 (rm := rmN 184) (As := [.int (Int32.ofInt x), .int (Int32.ofInt 0), .int (Int32.ofInt 2)]) (st := []) (show cdA 155 4 = some (.invokevirtual 151, 3, 184, 0, 0) from rfl) rfl (by decide) rfl (by rw [E.1, E.2.1, E.2.2.1]; exact cs_needWithin G I (by first | exact ⟨p0.1, p0.2⟩ | omega) (by first | exact ⟨by decide, by decide⟩ | omega) (by first | exact ⟨by decide, by decide⟩ | omega)) ⟨by rw [E.2.2.2]; exact (show (rmN 184).frames + 1 ≤ (rmN 155).frames by decide), by rw [E.2.2.2]; exact (show 8 + (mNL (miB 184) + 11) + (rmN 184).locals ≤ (rmN 155).locals by decide), by rw [E.2.2.2]; exact (show 0 + 1 ≤ 1 by omega), by rw [E.2.2.2]; exact (show 0 + 6 ≤ 6 by omega)⟩ (Nat.le_of_ble_eq_true rfl) (fun vv s1 hq => ?_) (fun ee s1 hq => ?_)
  rotate_left
  · obtain ⟨Is1, Fs1, (⟨hv, hps1⟩ | ⟨xx, hv, hps1⟩)⟩ := hq
    · cases hv
    · cases hv
      have Gs1 := fm_ts F Fs1 (by decide) (by decide)
      exact x_out X.1 q (fun x hx => (hXt x hx).elim) (show 1 ≤ 1 by omega) (show 6 ≤ 6 by omega) ⟨_, rfl, Is1, Gs1, Or.inr ⟨xx, rfl, by omega⟩⟩
  obtain ⟨Is1, Fs1, (⟨hv, hps1⟩ | ⟨xx, hv, hps1⟩)⟩ := hq
  rotate_left
  · cases hv
  cases hv
  have Gs1 := fm_ts F Fs1 (by decide) (by decide)
  show WS k 7 [(0, .ref (A 0)), (1, .int (Int32.ofInt x))] [] (Wd A dT s1) 1 6
  refine z_aload_n X (x := A 0) (show cdA 155 7 = some (.aload_n 0, 1, 0, 0, 0) from rfl) (List.Mem.head _) ?_
  refine s_getR X 0 (show cdA 155 8 = some (.getfield 53, 3, 11, 5, 0) from rfl) (by decide) rfl rfl ?_
  refine z_callV X 41 (rm := rmN 23) (As := []) (st := []) (show cdA 155 11 = some (.invokevirtual 242, 3, 23, 0, 0) from rfl) rfl (by decide) rfl (by rw [E.1, E.2.1, E.2.2.1]; exact c2_seek_41 G Is1 ) ⟨by rw [E.2.2.2]; exact (show (rmN 23).frames + 1 ≤ (rmN 155).frames by decide), by rw [E.2.2.2]; exact (show 8 + (mNL (miB 23) + 11) + (rmN 23).locals ≤ (rmN 155).locals by decide), by rw [E.2.2.2]; exact (show 1 + 0 ≤ 1 by omega), by rw [E.2.2.2]; exact (show 6 + 0 ≤ 6 by omega)⟩ (Nat.le_of_ble_eq_true rfl) (fun vv s3 hq => ?_) (fun ee s3 hq => ?_)
  rotate_left
  · obtain ⟨Is3, Fs3, e4, hv, hrs3, hps3⟩ := hq; cases hv
  obtain ⟨Is3, Fs3, e4, hv, hrs3, hps3⟩ := hq
  cases hv
  have Gs3 := fm_ts Gs1 Fs3 (by decide) (by decide)
  show WS k 14 [(0, .ref (A 0)), (1, .int (Int32.ofInt x))] [.int (Int32.ofInt e4)] (Wd A dT s3) 1 6
  refine z_if_ne X (t := 19) (show cdA 155 14 = some (.ifCond .ne 5, 3, 1, 0, 0) from rfl) (by decide) hrs3 (fun g5 => ?_) (fun g5 => ?_)
  ·
    refine z_load_n X (x := x) (show cdA 155 19 = some (.iload_n 1, 1, 0, 0, 0) from rfl) (List.Mem.tail _ (List.Mem.head _)) ?_
    have N6 : ∀ e7 : Int, (((x ≠ 0) ∧ (x ≠ 1) ∧ (((-2147483648) : Int) ≤ iI s3 27 ∧ iI s3 27 ≤ 2147483647) ∧ e7 = (iI s3 27)) ∨ ((x ≠ 0) ∧ (x = 1) ∧ ((0 : Int) ≤ iI s3 26 ∧ iI s3 26 ≤ 7) ∧ e7 = (iI s3 26)) ∨ ((x = 0) ∧ (((-1) : Int) ≤ iI s3 25 ∧ iI s3 25 ≤ 127) ∧ e7 = (iI s3 25))) → WS k 55 [(0, .ref (A 0)), (1, .int (Int32.ofInt x))] [.int (Int32.ofInt e7)] (Wd A dT s3) 1 6 := by
      intro e7 he7
      exact w_iret X.1 q hRt rfl (ax_d X (show cdA 155 55 = some (.ireturn, 1, 0, 0, 0) from rfl)) (show 1 ≤ 1 by omega) (show 6 ≤ 6 by omega) ⟨_, rfl, Is3, Gs3, Or.inl ⟨e7, rfl, ⟨by first | exact oq_c477b528 he7 | omega, by first | exact oq_4a20608e he7 | omega⟩, trivial⟩⟩
    refine z_if_ne X (t := 33) (show cdA 155 20 = some (.ifCond .ne 13, 3, 1, 0, 0) from rfl) (by decide) ⟨by first | exact p0.1 | omega, by first | exact p0.2 | omega⟩ (fun g8 => ?_) (fun g8 => ?_)
    ·
      refine z_load_n X (x := x) (show cdA 155 33 = some (.iload_n 1, 1, 0, 0, 0) from rfl) (List.Mem.tail _ (List.Mem.head _)) ?_
      refine z_const X (show cdA 155 34 = some (.iconst 1, 1, 0, 0, 0) from rfl) ?_
      refine z_icmp_ne X (t := 48) (show cdA 155 35 = some (.if_icmp .ne 13, 3, 1, 0, 0) from rfl) (by decide) ⟨by first | exact p0.1 | omega, by first | exact p0.2 | omega⟩ (by decide) (fun g9 => ?_) (fun g9 => ?_)
      ·
        refine z_aload_n X (x := A 0) (show cdA 155 48 = some (.aload_n 0, 1, 0, 0, 0) from rfl) (List.Mem.head _) ?_
        refine s_getR X 0 (show cdA 155 49 = some (.getfield 53, 3, 11, 5, 0) from rfl) (by decide) rfl rfl ?_
        refine z_getI X 41 (show cdA 155 52 = some (.getfield 251, 3, 2, 9, 0) from rfl) (by decide) rfl rfl ?_
        have b10 : ((-2147483648) : Int) ≤ iI s3 27 ∧ iI s3 27 ≤ 2147483647 := Is3.1 27
        exact N6 _ (Or.inl ⟨g8, g9, b10, rfl⟩)
      ·
        refine z_aload_n X (x := A 0) (show cdA 155 38 = some (.aload_n 0, 1, 0, 0, 0) from rfl) (List.Mem.head _) ?_
        refine s_getR X 0 (show cdA 155 39 = some (.getfield 53, 3, 11, 5, 0) from rfl) (by decide) rfl rfl ?_
        refine z_getI X 41 (show cdA 155 42 = some (.getfield 248, 3, 2, 8, 0) from rfl) (by decide) rfl rfl ?_
        have b11 : (0 : Int) ≤ iI s3 26 ∧ iI s3 26 ≤ 7 := Is3.1 26
        refine z_goto X (t := 55) (show cdA 155 45 = some (.goto 10, 3, 0, 0, 0) from rfl) (by decide) ?_
        exact N6 _ (Or.inr (Or.inl ⟨g8, g9, b11, rfl⟩))
    ·
      refine z_aload_n X (x := A 0) (show cdA 155 23 = some (.aload_n 0, 1, 0, 0, 0) from rfl) (List.Mem.head _) ?_
      refine s_getR X 0 (show cdA 155 24 = some (.getfield 53, 3, 11, 5, 0) from rfl) (by decide) rfl rfl ?_
      refine z_getI X 41 (show cdA 155 27 = some (.getfield 245, 3, 2, 7, 0) from rfl) (by decide) rfl rfl ?_
      have b12 : ((-1) : Int) ≤ iI s3 25 ∧ iI s3 25 ≤ 127 := Is3.1 25
      refine z_goto X (t := 55) (show cdA 155 30 = some (.goto 25, 3, 0, 0, 0) from rfl) (by decide) ?_
      exact N6 _ (Or.inr (Or.inr (⟨g8, b12, rfl⟩)))
  ·
    refine z_const X (show cdA 155 17 = some (.iconst (-1), 1, 0, 0, 0) from rfl) ?_
    exact w_iret X.1 q hRt rfl (ax_d X (show cdA 155 18 = some (.ireturn, 1, 0, 0, 0) from rfl)) (show 1 ≤ 1 by omega) (show 6 ≤ 6 by omega) ⟨_, rfl, Is3, Gs3, Or.inl ⟨(-1), rfl, (by decide), trivial⟩⟩
set_option maxRecDepth 4000 in
theorem cs_grow (G : GX l s0 D tys a0 dT) (I : Bd s) {x : Int} (p0 : rng x) : CT l s0 D A dT 156 (rmN 156) [.ref (A 0), .int (Int32.ofInt x)] s (fun o t => Bd t ∧ Fm [22, 23, 24, 25, 26, 27] [33, 26, 27, 28, 29, 30, 31, 32, 20, 36, 37, 21, 35, 38, 1022, 1023] s t ∧ ((∃ e, o = .inl (some (.int (Int32.ofInt e))) ∧ rng e ∧ (True)) ∨ ∃ x : Nat, o = .inr (exN x) ∧ (x = 0))) := by
  refine ct_ofX G (by decide) (Nat.le_of_ble_eq_true rfl) (fun k X E ET hRt hXt q => ?_)
  show WS k 0 [(0, .ref (A 0)), (1, .int (Int32.ofInt x))] [] _ 0 0
  have F : Fm [22, 23, 24, 25, 26, 27] [33, 26, 27, 28, 29, 30, 31, 32, 20, 36, 37, 21, 35, 38, 1022, 1023] s s := fm_rf _ _ s
  have b1 : ((-1) : Int) ≤ iI s 25 ∧ iI s 25 ≤ 127 := I.1 25
  have b2 : (0 : Int) ≤ iI s 26 ∧ iI s 26 ≤ 7 := I.1 26
  have L10 : ∀ (n : Nat) (t : PS) (xv c : Int), Bd t → Fm [22, 23, 24, 25, 26, 27] [33, 26, 27, 28, 29, 30, 31, 32, 20, 36, 37, 21, 35, 38, 1022, 1023] s t → ((0 ≤ xv ∧ xv ≤ 20) ∧ 0 ≤ c ∧ c ≤ 20) → (20 - c : Int).toNat < n → (∀ (t' : PS) (c' : Int), Bd t' → Fm [22, 23, 24, 25, 26, 27] [33, 26, 27, 28, 29, 30, 31, 32, 20, 36, 37, 21, 35, 38, 1022, 1023] s t' → ((0 ≤ xv ∧ xv ≤ 20) ∧ 0 ≤ c' ∧ c' ≤ 20) → WS k 55 [(0, .ref (A 0)), (1, .int (Int32.ofInt xv)), (2, .int (Int32.ofInt c'))] [] (Wd A dT t') 1 6) → WS k 10 [(0, .ref (A 0)), (1, .int (Int32.ofInt xv)), (2, .int (Int32.ofInt c))] [] (Wd A dT t) 1 6 := by
    intro n
    induction n with
    | zero =>
      intro t xv c I F hi hm kx
      exact absurd hm (Nat.not_lt_zero _)
    | succ n ih =>
      intro t xv c I F hi hm kx
      have b1001 : ((-1) : Int) ≤ iI t 25 ∧ iI t 25 ≤ 127 := I.1 25
      have b1002 : (0 : Int) ≤ iI t 26 ∧ iI t 26 ≤ 7 := I.1 26
      refine z_load_n X (x := c) (show cdA 156 10 = some (.iload_n 2, 1, 0, 0, 0) from rfl) (List.Mem.tail _ (List.Mem.tail _ (List.Mem.head _))) ?_
      refine z_load_n X (x := xv) (show cdA 156 11 = some (.iload_n 1, 1, 0, 0, 0) from rfl) (List.Mem.tail _ (List.Mem.head _)) ?_
      refine z_icmp_ge X (t := 55) (show cdA 156 12 = some (.if_icmp .ge 43, 3, 3, 0, 0) from rfl) (by decide) ⟨by first | exact oq_fa4e5087 hi.2.1 | omega, by first | exact oq_d1028203 hi.2.2 | omega⟩ ⟨by first | exact oq_fa4e5087 hi.1.1 | omega, by first | exact oq_d1028203 hi.1.2 | omega⟩ (fun g1003 => ?_) (fun g1003 => ?_)
      ·
        refine WS_lv (lv := [(0, .ref (A 0)), (1, .int (Int32.ofInt xv)), (2, .int (Int32.ofInt c))]) (List.forall_mem_cons.mpr ⟨(List.Mem.head _), (List.forall_mem_cons.mpr ⟨(List.Mem.tail _ (List.Mem.head _)), (List.forall_mem_cons.mpr ⟨(List.Mem.tail _ (List.Mem.tail _ (List.Mem.head _))), (fun q h => absurd h List.not_mem_nil)⟩)⟩)⟩) ?_
        exact kx _ c I F (by first | exact ⟨And.intro (hi.1.1) (hi.1.2), hi.2.1, hi.2.2⟩ | omega)
      ·
        refine z_aload_n X (x := A 0) (show cdA 156 15 = some (.aload_n 0, 1, 0, 0, 0) from rfl) (List.Mem.head _) ?_
        refine s_getR X 0 (show cdA 156 16 = some (.getfield 53, 3, 11, 5, 0) from rfl) (by decide) rfl rfl ?_
        refine z_callV X 41 (rm := rmN 23) (As := []) (st := []) (show cdA 156 19 = some (.invokevirtual 242, 3, 23, 0, 0) from rfl) rfl (by decide) rfl (by rw [E.1, E.2.1, E.2.2.1]; exact c2_seek_41 G I ) ⟨by rw [E.2.2.2]; exact (show (rmN 23).frames + 1 ≤ (rmN 156).frames by decide), by rw [E.2.2.2]; exact (show 8 + (mNL (miB 23) + 11) + (rmN 23).locals ≤ (rmN 156).locals by decide), by rw [E.2.2.2]; exact (show 1 + 0 ≤ 1 by omega), by rw [E.2.2.2]; exact (show 6 + 0 ≤ 6 by omega)⟩ (Nat.le_of_ble_eq_true rfl) (fun vv s1004 hq => ?_) (fun ee s1004 hq => ?_)
        rotate_left
        · obtain ⟨Is1004, Fs1004, e1005, hv, hrs1004, hps1004⟩ := hq; cases hv
        obtain ⟨Is1004, Fs1004, e1005, hv, hrs1004, hps1004⟩ := hq
        cases hv
        have Gs1004 := fm_ts F Fs1004 (by decide) (by decide)
        have b1006 : ((-1) : Int) ≤ iI s1004 25 ∧ iI s1004 25 ≤ 127 := Is1004.1 25
        have b1007 : (0 : Int) ≤ iI s1004 26 ∧ iI s1004 26 ≤ 7 := Is1004.1 26
        show WS k 22 [(0, .ref (A 0)), (1, .int (Int32.ofInt xv)), (2, .int (Int32.ofInt c))] [.int (Int32.ofInt e1005)] (Wd A dT s1004) 1 6
        refine z_if_ne X (t := 27) (show cdA 156 22 = some (.ifCond .ne 5, 3, 1, 0, 0) from rfl) (by decide) hrs1004 (fun g1008 => ?_) (fun g1008 => ?_)
        ·
          refine z_aload_n X (x := A 0) (show cdA 156 27 = some (.aload_n 0, 1, 0, 0, 0) from rfl) (List.Mem.head _) ?_
          refine s_getR X 0 (show cdA 156 28 = some (.getfield 35, 3, 11, 3, 0) from rfl) (by decide) rfl rfl ?_
          refine z_aload_n X (x := A 0) (show cdA 156 31 = some (.aload_n 0, 1, 0, 0, 0) from rfl) (List.Mem.head _) ?_
          refine s_getR X 0 (show cdA 156 32 = some (.getfield 53, 3, 11, 5, 0) from rfl) (by decide) rfl rfl ?_
          refine z_getI X 41 (show cdA 156 35 = some (.getfield 245, 3, 2, 7, 0) from rfl) (by decide) rfl rfl ?_
          have b1009 : ((-1) : Int) ≤ iI s1004 25 ∧ iI s1004 25 ≤ 127 := Is1004.1 25
          refine z_aload_n X (x := A 0) (show cdA 156 38 = some (.aload_n 0, 1, 0, 0, 0) from rfl) (List.Mem.head _) ?_
          refine s_getR X 0 (show cdA 156 39 = some (.getfield 53, 3, 11, 5, 0) from rfl) (by decide) rfl rfl ?_
          refine z_getI X 41 (show cdA 156 42 = some (.getfield 248, 3, 2, 8, 0) from rfl) (by decide) rfl rfl ?_
          have b1010 : (0 : Int) ≤ iI s1004 26 ∧ iI s1004 26 ≤ 7 := Is1004.1 26
          refine z_callV X 25 (rm := rmN 28) (As := [.int (Int32.ofInt (iI s1004 25)), .int (Int32.ofInt (iI s1004 26))]) (st := []) (show cdA 156 45 = some (.invokevirtual 171, 3, 28, 0, 0) from rfl) rfl (by decide) rfl (by rw [E.1, E.2.1, E.2.2.1]; exact c3_put_25 G Is1004 (by first | exact ⟨oq_564f1d93 g1008 hps1004.2 hps1004.1, b1009.2⟩ | omega) (by first | exact ⟨oq_ca54ea22 b1010.1, b1010.2⟩ | omega)) ⟨by rw [E.2.2.2]; exact (show (rmN 28).frames + 1 ≤ (rmN 156).frames by decide), by rw [E.2.2.2]; exact (show 8 + (mNL (miB 28) + 11) + (rmN 28).locals ≤ (rmN 156).locals by decide), by rw [E.2.2.2]; exact (show 1 + 0 ≤ 1 by omega), by rw [E.2.2.2]; exact (show 6 + 0 ≤ 6 by omega)⟩ (Nat.le_of_ble_eq_true rfl) (fun vv s1011 hq => ?_) (fun ee s1011 hq => ?_)
          rotate_left
          · obtain ⟨Is1011, Fs1011, e1012, hv, hrs1011, hps1011⟩ := hq; cases hv
          obtain ⟨Is1011, Fs1011, e1012, hv, hrs1011, hps1011⟩ := hq
          cases hv
          have Gs1011 := fm_ts Gs1004 Fs1011 (by decide) (by decide)
          have ws1011_25 : iI s1011 25 = iI s1004 25 := fm_i Fs1011 (by decide)
          have ws1011_26 : iI s1011 26 = iI s1004 26 := fm_i Fs1011 (by decide)
          show WS k 48 [(0, .ref (A 0)), (1, .int (Int32.ofInt xv)), (2, .int (Int32.ofInt c))] [.int (Int32.ofInt e1012)] (Wd A dT s1011) 1 6
          refine w_pop X.1 (ax_d X (show cdA 156 48 = some (.pop, 1, 0, 0, 0) from rfl)) rfl ?_
          refine z_inc X (x := c) (lv' := [(2, .int (Int32.ofInt (c + 1))), (0, .ref (A 0)), (1, .int (Int32.ofInt xv))]) (show cdA 156 49 = some (.iinc 2 1, 3, 0, 0, 0) from rfl) (by decide) (List.Mem.tail _ (List.Mem.tail _ (List.Mem.head _))) (fun _ h => h) ?_
          refine z_goto X (t := 10) (show cdA 156 52 = some (.goto (-42), 3, 0, 0, 0) from rfl) (by decide) ?_
          refine WS_lv (lv := [(0, .ref (A 0)), (1, .int (Int32.ofInt xv)), (2, .int (Int32.ofInt (c + 1)))]) (List.forall_mem_cons.mpr ⟨(List.Mem.tail _ (List.Mem.head _)), (List.forall_mem_cons.mpr ⟨(List.Mem.tail _ (List.Mem.tail _ (List.Mem.head _))), (List.forall_mem_cons.mpr ⟨(List.Mem.head _), (fun q h => absurd h List.not_mem_nil)⟩)⟩)⟩) ?_
          exact ih _ xv (c + 1) Is1011 Gs1011 (by first | exact ⟨And.intro (hi.1.1) (hi.1.2), oq_54f49eb5 hi.2.1, oq_35fd3fdc g1003 hi.1.2⟩ | omega) (by first | exact qk_me hm (by decide) (oq_f6b465a6 g1003 hi.1.2) | omega) kx
        ·
          refine z_load_n X (x := c) (show cdA 156 25 = some (.iload_n 2, 1, 0, 0, 0) from rfl) (List.Mem.tail _ (List.Mem.tail _ (List.Mem.head _))) ?_
          exact w_iret X.1 q hRt rfl (ax_d X (show cdA 156 26 = some (.ireturn, 1, 0, 0, 0) from rfl)) (show 1 ≤ 1 by omega) (show 6 ≤ 6 by omega) ⟨_, rfl, Is1004, Gs1004, Or.inl ⟨c, rfl, ⟨by first | exact oq_fa4e5087 hi.2.1 | omega, by first | exact oq_d1028203 hi.2.2 | omega⟩, trivial⟩⟩
  refine z_aload_n X (x := A 0) (show cdA 156 0 = some (.aload_n 0, 1, 0, 0, 0) from rfl) (List.Mem.head _) ?_
  refine z_load_n X (x := x) (show cdA 156 1 = some (.iload_n 1, 1, 0, 0, 0) from rfl) (List.Mem.tail _ (List.Mem.head _)) ?_
  refine z_const X (show cdA 156 2 = some (.iconst 0, 1, 0, 0, 0) from rfl) ?_
  refine z_bipush X (show cdA 156 3 = some (.bipush 20, 2, 0, 0, 20) from rfl) ?_
  refine z_callV X 0 (rm := rmN 184) (As := [.int (Int32.ofInt x), .int (Int32.ofInt 0), .int (Int32.ofInt 20)]) (st := []) (show cdA 156 5 = some (.invokevirtual 151, 3, 184, 0, 0) from rfl) rfl (by decide) rfl (by rw [E.1, E.2.1, E.2.2.1]; exact cs_needWithin G I (by first | exact ⟨p0.1, p0.2⟩ | omega) (by first | exact ⟨by decide, by decide⟩ | omega) (by first | exact ⟨by decide, by decide⟩ | omega)) ⟨by rw [E.2.2.2]; exact (show (rmN 184).frames + 1 ≤ (rmN 156).frames by decide), by rw [E.2.2.2]; exact (show 8 + (mNL (miB 184) + 11) + (rmN 184).locals ≤ (rmN 156).locals by decide), by rw [E.2.2.2]; exact (show 0 + 1 ≤ 1 by omega), by rw [E.2.2.2]; exact (show 0 + 6 ≤ 6 by omega)⟩ (Nat.le_of_ble_eq_true rfl) (fun vv s3 hq => ?_) (fun ee s3 hq => ?_)
  rotate_left
  · obtain ⟨Is3, Fs3, (⟨hv, hps3⟩ | ⟨xx, hv, hps3⟩)⟩ := hq
    · cases hv
    · cases hv
      have Gs3 := fm_ts F Fs3 (by decide) (by decide)
      have ws3_25 : iI s3 25 = iI s 25 := fm_i Fs3 (by decide)
      have ws3_26 : iI s3 26 = iI s 26 := fm_i Fs3 (by decide)
      exact x_out X.1 q (fun x hx => (hXt x hx).elim) (show 1 ≤ 1 by omega) (show 6 ≤ 6 by omega) ⟨_, rfl, Is3, Gs3, Or.inr ⟨xx, rfl, by omega⟩⟩
  obtain ⟨Is3, Fs3, (⟨hv, hps3⟩ | ⟨xx, hv, hps3⟩)⟩ := hq
  rotate_left
  · cases hv
  cases hv
  have Gs3 := fm_ts F Fs3 (by decide) (by decide)
  have ws3_25 : iI s3 25 = iI s 25 := fm_i Fs3 (by decide)
  have ws3_26 : iI s3 26 = iI s 26 := fm_i Fs3 (by decide)
  show WS k 8 [(0, .ref (A 0)), (1, .int (Int32.ofInt x))] [] (Wd A dT s3) 1 6
  refine z_const X (show cdA 156 8 = some (.iconst 0, 1, 0, 0, 0) from rfl) ?_
  refine z_store_n X (lv' := [(2, .int (Int32.ofInt 0)), (0, .ref (A 0)), (1, .int (Int32.ofInt x))]) (show cdA 156 9 = some (.istore_n 2, 1, 0, 0, 0) from rfl) (by decide) (fun _ h => h) ?_
  refine WS_lv (lv := [(0, .ref (A 0)), (1, .int (Int32.ofInt x)), (2, .int (Int32.ofInt 0))]) (List.forall_mem_cons.mpr ⟨(List.Mem.tail _ (List.Mem.head _)), (List.forall_mem_cons.mpr ⟨(List.Mem.tail _ (List.Mem.tail _ (List.Mem.head _))), (List.forall_mem_cons.mpr ⟨(List.Mem.head _), (fun q h => absurd h List.not_mem_nil)⟩)⟩)⟩) ?_
  refine L10 ((20 - 0 : Int).toNat + 1) s3 x 0 Is3 Gs3 (by first | exact ⟨And.intro (hps3.1) (hps3.2), by decide, by decide⟩ | omega) (Nat.lt_succ_self _) ?_
  intro s5 x6 Is5 Fs5 hs5
  have b7 : ((-1) : Int) ≤ iI s5 25 ∧ iI s5 25 ≤ 127 := Is5.1 25
  have b8 : (0 : Int) ≤ iI s5 26 ∧ iI s5 26 ≤ 7 := Is5.1 26
  refine z_load_n X (x := x) (show cdA 156 55 = some (.iload_n 1, 1, 0, 0, 0) from rfl) (List.Mem.tail _ (List.Mem.head _)) ?_
  exact w_iret X.1 q hRt rfl (ax_d X (show cdA 156 56 = some (.ireturn, 1, 0, 0, 0) from rfl)) (show 1 ≤ 1 by omega) (show 6 ≤ 6 by omega) ⟨_, rfl, Is5, Fs5, Or.inl ⟨x, rfl, ⟨by first | exact p0.1 | omega, by first | exact p0.2 | omega⟩, trivial⟩⟩
set_option maxRecDepth 4000 in
theorem cs_region (G : GX l s0 D tys a0 dT) (I : Bd s) {x : Int} (p0 : rng x) : CT l s0 D A dT 157 (rmN 157) [.ref (A 0), .int (Int32.ofInt x)] s (fun o t => Bd t ∧ Fm [28] [39] s t ∧ ((∃ e, o = .inl (some (.int (Int32.ofInt e))) ∧ rng e ∧ (True)) ∨ ∃ x : Nat, o = .inr (exN x) ∧ (x = 2))) := by
  refine ct_ofX G (by decide) (Nat.le_of_ble_eq_true rfl) (fun k X E ET hRt hXt q => ?_)
  show WS k 0 [(0, .ref (A 0)), (1, .int (Int32.ofInt x))] [] _ 0 0
  have F : Fm [28] [39] s s := fm_rf _ _ s
  refine z_aload_n X (x := A 0) (show cdA 157 0 = some (.aload_n 0, 1, 0, 0, 0) from rfl) (List.Mem.head _) ?_
  refine z_load_n X (x := x) (show cdA 157 1 = some (.iload_n 1, 1, 0, 0, 0) from rfl) (List.Mem.tail _ (List.Mem.head _)) ?_
  refine z_callV X 0 (rm := rmN 181) (As := [.int (Int32.ofInt x)]) (st := []) (show cdA 157 2 = some (.invokevirtual 168, 3, 181, 0, 0) from rfl) rfl (by decide) rfl (by rw [E.1, E.2.1, E.2.2.1]; exact cs_needCell G I (by first | exact ⟨p0.1, p0.2⟩ | omega)) ⟨by rw [E.2.2.2]; exact (show (rmN 181).frames + 1 ≤ (rmN 157).frames by decide), by rw [E.2.2.2]; exact (show 8 + (mNL (miB 181) + 11) + (rmN 181).locals ≤ (rmN 157).locals by decide), by rw [E.2.2.2]; exact (show 0 + 1 ≤ 1 by omega), by rw [E.2.2.2]; exact (show 0 + 6 ≤ 6 by omega)⟩ (Nat.le_of_ble_eq_true rfl) (fun vv s1 hq => ?_) (fun ee s1 hq => ?_)
  rotate_left
  · obtain ⟨Is1, Fs1, (⟨hv, hps1⟩ | ⟨xx, hv, hps1⟩)⟩ := hq
    · cases hv
    · cases hv
      have Gs1 := fm_ts F Fs1 (by decide) (by decide)
      exact x_out X.1 q (fun x hx => (hXt x hx).elim) (show 1 ≤ 1 by omega) (show 6 ≤ 6 by omega) ⟨_, rfl, Is1, Gs1, Or.inr ⟨xx, rfl, by omega⟩⟩
  obtain ⟨Is1, Fs1, (⟨hv, hps1⟩ | ⟨xx, hv, hps1⟩)⟩ := hq
  rotate_left
  · cases hv
  cases hv
  have Gs1 := fm_ts F Fs1 (by decide) (by decide)
  show WS k 5 [(0, .ref (A 0)), (1, .int (Int32.ofInt x))] [] (Wd A dT s1) 1 6
  refine z_aload_n X (x := A 0) (show cdA 157 5 = some (.aload_n 0, 1, 0, 0, 0) from rfl) (List.Mem.head _) ?_
  refine s_getR X 0 (show cdA 157 6 = some (.getfield 62, 3, 11, 6, 0) from rfl) (by decide) rfl rfl ?_
  refine z_load_n X (x := x) (show cdA 157 9 = some (.iload_n 1, 1, 0, 0, 0) from rfl) (List.Mem.tail _ (List.Mem.head _)) ?_
  refine z_callV X 46 (rm := rmN 54) (As := [.int (Int32.ofInt x)]) (st := []) (show cdA 157 10 = some (.invokevirtual 254, 3, 54, 0, 0) from rfl) rfl (by decide) rfl (by rw [E.1, E.2.1, E.2.2.1]; exact c5_add_46 G Is1 (by first | exact ⟨hps1.1, hps1.2⟩ | omega)) ⟨by rw [E.2.2.2]; exact (show (rmN 54).frames + 1 ≤ (rmN 157).frames by decide), by rw [E.2.2.2]; exact (show 8 + (mNL (miB 54) + 11) + (rmN 54).locals ≤ (rmN 157).locals by decide), by rw [E.2.2.2]; exact (show 1 + 0 ≤ 1 by omega), by rw [E.2.2.2]; exact (show 6 + 0 ≤ 6 by omega)⟩ (Nat.le_of_ble_eq_true rfl) (fun vv s3 hq => ?_) (fun ee s3 hq => ?_)
  rotate_left
  · obtain ⟨Is3, Fs3, e4, hv, hrs3, hps3⟩ := hq; cases hv
  obtain ⟨Is3, Fs3, e4, hv, hrs3, hps3⟩ := hq
  cases hv
  have Gs3 := fm_ts Gs1 Fs3 (by decide) (by decide)
  show WS k 13 [(0, .ref (A 0)), (1, .int (Int32.ofInt x))] [.int (Int32.ofInt e4)] (Wd A dT s3) 1 6
  exact w_iret X.1 q hRt rfl (ax_d X (show cdA 157 13 = some (.ireturn, 1, 0, 0, 0) from rfl)) (show 1 ≤ 1 by omega) (show 6 ≤ 6 by omega) ⟨_, rfl, Is3, Gs3, Or.inl ⟨e4, rfl, hrs3, trivial⟩⟩
set_option maxRecDepth 4000 in
theorem cs_parted (G : GX l s0 D tys a0 dT) (I : Bd s) {x y : Int} (p0 : rng x) (p1 : rng y) : CT l s0 D A dT 158 (rmN 158) [.ref (A 0), .int (Int32.ofInt x), .int (Int32.ofInt y)] s (fun o t => Bd t ∧ Fm [22, 23, 24, 31, 29, 30] [33, 26, 27, 28, 29, 30, 31, 32, 20, 40, 41, 42, 45, 43, 44] s t ∧ ((∃ e, o = .inl (some (.int (Int32.ofInt e))) ∧ rng e ∧ (True)) ∨ ∃ x : Nat, o = .inr (exN x) ∧ (x = 0))) := by
  refine ct_ofX G (by decide) (Nat.le_of_ble_eq_true rfl) (fun k X E ET hRt hXt q => ?_)
  show WS k 0 [(0, .ref (A 0)), (1, .int (Int32.ofInt x)), (2, .int (Int32.ofInt y))] [] _ 0 0
  have F : Fm [22, 23, 24, 31, 29, 30] [33, 26, 27, 28, 29, 30, 31, 32, 20, 40, 41, 42, 45, 43, 44] s s := fm_rf _ _ s
  have b1 : (0 : Int) ≤ iI s 28 ∧ iI s 28 ≤ 8 := I.1 28
  refine z_aload_n X (x := A 0) (show cdA 158 0 = some (.aload_n 0, 1, 0, 0, 0) from rfl) (List.Mem.head _) ?_
  refine z_load_n X (x := x) (show cdA 158 1 = some (.iload_n 1, 1, 0, 0, 0) from rfl) (List.Mem.tail _ (List.Mem.head _)) ?_
  refine z_const X (show cdA 158 2 = some (.iconst 1, 1, 0, 0, 0) from rfl) ?_
  refine z_const X (show cdA 158 3 = some (.iconst 3, 1, 0, 0, 0) from rfl) ?_
  refine z_callV X 0 (rm := rmN 184) (As := [.int (Int32.ofInt x), .int (Int32.ofInt 1), .int (Int32.ofInt 3)]) (st := []) (show cdA 158 4 = some (.invokevirtual 151, 3, 184, 0, 0) from rfl) rfl (by decide) rfl (by rw [E.1, E.2.1, E.2.2.1]; exact cs_needWithin G I (by first | exact ⟨p0.1, p0.2⟩ | omega) (by first | exact ⟨by decide, by decide⟩ | omega) (by first | exact ⟨by decide, by decide⟩ | omega)) ⟨by rw [E.2.2.2]; exact (show (rmN 184).frames + 1 ≤ (rmN 158).frames by decide), by rw [E.2.2.2]; exact (show 8 + (mNL (miB 184) + 11) + (rmN 184).locals ≤ (rmN 158).locals by decide), by rw [E.2.2.2]; exact (show 0 + 1 ≤ 2 by omega), by rw [E.2.2.2]; exact (show 0 + 6 ≤ 12 by omega)⟩ (Nat.le_of_ble_eq_true rfl) (fun vv s2 hq => ?_) (fun ee s2 hq => ?_)
  rotate_left
  · obtain ⟨Is2, Fs2, (⟨hv, hps2⟩ | ⟨xx, hv, hps2⟩)⟩ := hq
    · cases hv
    · cases hv
      have Gs2 := fm_ts F Fs2 (by decide) (by decide)
      have ws2_28 : iI s2 28 = iI s 28 := fm_i Fs2 (by decide)
      exact x_out X.1 q (fun x hx => (hXt x hx).elim) (show 1 ≤ 2 by omega) (show 6 ≤ 12 by omega) ⟨_, rfl, Is2, Gs2, Or.inr ⟨xx, rfl, by omega⟩⟩
  obtain ⟨Is2, Fs2, (⟨hv, hps2⟩ | ⟨xx, hv, hps2⟩)⟩ := hq
  rotate_left
  · cases hv
  cases hv
  have Gs2 := fm_ts F Fs2 (by decide) (by decide)
  have ws2_28 : iI s2 28 = iI s 28 := fm_i Fs2 (by decide)
  show WS k 7 [(0, .ref (A 0)), (1, .int (Int32.ofInt x)), (2, .int (Int32.ofInt y))] [] (Wd A dT s2) 1 6
  refine z_aload_n X (x := A 0) (show cdA 158 7 = some (.aload_n 0, 1, 0, 0, 0) from rfl) (List.Mem.head _) ?_
  refine z_load_n X (x := y) (show cdA 158 8 = some (.iload_n 2, 1, 0, 0, 0) from rfl) (List.Mem.tail _ (List.Mem.tail _ (List.Mem.head _))) ?_
  refine z_bipush X (show cdA 158 9 = some (.bipush (-2), 2, 0, 0, (-2)) from rfl) ?_
  refine z_bipush X (show cdA 158 11 = some (.bipush 7, 2, 0, 0, 7) from rfl) ?_
  refine z_callV X 0 (rm := rmN 184) (As := [.int (Int32.ofInt y), .int (Int32.ofInt (-2)), .int (Int32.ofInt 7)]) (st := []) (show cdA 158 13 = some (.invokevirtual 151, 3, 184, 0, 0) from rfl) rfl (by decide) rfl (by rw [E.1, E.2.1, E.2.2.1]; exact cs_needWithin G Is2 (by first | exact ⟨p1.1, p1.2⟩ | omega) (by first | exact ⟨by decide, by decide⟩ | omega) (by first | exact ⟨by decide, by decide⟩ | omega)) ⟨by rw [E.2.2.2]; exact (show (rmN 184).frames + 1 ≤ (rmN 158).frames by decide), by rw [E.2.2.2]; exact (show 8 + (mNL (miB 184) + 11) + (rmN 184).locals ≤ (rmN 158).locals by decide), by rw [E.2.2.2]; exact (show 1 + 1 ≤ 2 by omega), by rw [E.2.2.2]; exact (show 6 + 6 ≤ 12 by omega)⟩ (Nat.le_of_ble_eq_true rfl) (fun vv s4 hq => ?_) (fun ee s4 hq => ?_)
  rotate_left
  · obtain ⟨Is4, Fs4, (⟨hv, hps4⟩ | ⟨xx, hv, hps4⟩)⟩ := hq
    · cases hv
    · cases hv
      have Gs4 := fm_ts Gs2 Fs4 (by decide) (by decide)
      have ws4_28 : iI s4 28 = iI s2 28 := fm_i Fs4 (by decide)
      exact x_out X.1 q (fun x hx => (hXt x hx).elim) (show (1 + 1) ≤ 2 by omega) (show (6 + 6) ≤ 12 by omega) ⟨_, rfl, Is4, Gs4, Or.inr ⟨xx, rfl, by omega⟩⟩
  obtain ⟨Is4, Fs4, (⟨hv, hps4⟩ | ⟨xx, hv, hps4⟩)⟩ := hq
  rotate_left
  · cases hv
  cases hv
  have Gs4 := fm_ts Gs2 Fs4 (by decide) (by decide)
  have ws4_28 : iI s4 28 = iI s2 28 := fm_i Fs4 (by decide)
  show WS k 16 [(0, .ref (A 0)), (1, .int (Int32.ofInt x)), (2, .int (Int32.ofInt y))] [] (Wd A dT s4) (1 + 1) (6 + 6)
  refine z_load_n X (x := y) (show cdA 158 16 = some (.iload_n 2, 1, 0, 0, 0) from rfl) (List.Mem.tail _ (List.Mem.tail _ (List.Mem.head _))) ?_
  refine z_aload_n X (x := A 0) (show cdA 158 17 = some (.aload_n 0, 1, 0, 0, 0) from rfl) (List.Mem.head _) ?_
  refine s_getR X 0 (show cdA 158 18 = some (.getfield 62, 3, 11, 6, 0) from rfl) (by decide) rfl rfl ?_
  refine z_getI X 46 (show cdA 158 21 = some (.getfield 258, 3, 5, 3, 0) from rfl) (by decide) rfl rfl ?_
  have b6 : (0 : Int) ≤ iI s4 28 ∧ iI s4 28 ≤ 8 := Is4.1 28
  refine z_icmp_ge X (t := 38) (show cdA 158 24 = some (.if_icmp .ge 14, 3, 3, 0, 0) from rfl) (by decide) ⟨by first | exact p1.1 | omega, by first | exact p1.2 | omega⟩ (rng_to _) (fun g7 => ?_) (fun g7 => ?_)
  ·
    refine z_const X (show cdA 158 38 = some (.iconst (-1), 1, 0, 0, 0) from rfl) ?_
    exact w_iret X.1 q hRt rfl (ax_d X (show cdA 158 39 = some (.ireturn, 1, 0, 0, 0) from rfl)) (show (1 + 1) ≤ 2 by omega) (show (6 + 6) ≤ 12 by omega) ⟨_, rfl, Is4, Gs4, Or.inl ⟨(-1), rfl, (by decide), trivial⟩⟩
  ·
    refine z_aload_n X (x := A 0) (show cdA 158 27 = some (.aload_n 0, 1, 0, 0, 0) from rfl) (List.Mem.head _) ?_
    refine s_getR X 0 (show cdA 158 28 = some (.getfield 62, 3, 11, 6, 0) from rfl) (by decide) rfl rfl ?_
    refine z_load_n X (x := x) (show cdA 158 31 = some (.iload_n 1, 1, 0, 0, 0) from rfl) (List.Mem.tail _ (List.Mem.head _)) ?_
    refine z_callV X 46 (rm := rmN 55) (As := [.int (Int32.ofInt x)]) (st := []) (show cdA 158 32 = some (.invokevirtual 259, 3, 55, 0, 0) from rfl) rfl (by decide) rfl (by rw [E.1, E.2.1, E.2.2.1]; exact c5_solve_46 G Is4 (by first | exact ⟨hps2.1, hps2.2⟩ | omega)) ⟨by rw [E.2.2.2]; exact (show (rmN 55).frames + 1 ≤ (rmN 158).frames by decide), by rw [E.2.2.2]; exact (show 8 + (mNL (miB 55) + 11) + (rmN 55).locals ≤ (rmN 158).locals by decide), by rw [E.2.2.2]; exact (show (1 + 1) + 0 ≤ 2 by omega), by rw [E.2.2.2]; exact (show (6 + 6) + 0 ≤ 12 by omega)⟩ (Nat.le_of_ble_eq_true rfl) (fun vv s8 hq => ?_) (fun ee s8 hq => ?_)
    rotate_left
    · obtain ⟨Is8, Fs8, e9, hv, hrs8, hps8⟩ := hq; cases hv
    obtain ⟨Is8, Fs8, e9, hv, hrs8, hps8⟩ := hq
    cases hv
    have Gs8 := fm_ts Gs4 Fs8 (by decide) (by decide)
    have ws8_28 : iI s8 28 = iI s4 28 := fm_i Fs8 (by decide)
    show WS k 35 [(0, .ref (A 0)), (1, .int (Int32.ofInt x)), (2, .int (Int32.ofInt y))] [.int (Int32.ofInt e9)] (Wd A dT s8) (1 + 1) (6 + 6)
    refine z_if_ne X (t := 40) (show cdA 158 35 = some (.ifCond .ne 5, 3, 1, 0, 0) from rfl) (by decide) hrs8 (fun g10 => ?_) (fun g10 => ?_)
    ·
      refine z_load_n X (x := y) (show cdA 158 40 = some (.iload_n 2, 1, 0, 0, 0) from rfl) (List.Mem.tail _ (List.Mem.tail _ (List.Mem.head _))) ?_
      refine z_const X (show cdA 158 41 = some (.iconst (-1), 1, 0, 0, 0) from rfl) ?_
      have N11 : ∀ e12 : Int, (((y ≠ (-1)) ∧ (y ≠ (-2)) ∧ (((-2147483648) : Int) ≤ iC s8 45 (y).toNat ∧ iC s8 45 (y).toNat ≤ 2147483647) ∧ e12 = (iC s8 45 (y).toNat)) ∨ ((y ≠ (-1)) ∧ (y = (-2)) ∧ (((-2147483648) : Int) ≤ iI s8 30 ∧ iI s8 30 ≤ 2147483647) ∧ e12 = (iI s8 30)) ∨ ((y = (-1)) ∧ (((-2147483648) : Int) ≤ iI s8 29 ∧ iI s8 29 ≤ 2147483647) ∧ e12 = (iI s8 29))) → WS k 80 [(0, .ref (A 0)), (1, .int (Int32.ofInt x)), (2, .int (Int32.ofInt y))] [.int (Int32.ofInt e12)] (Wd A dT s8) (1 + 1) (6 + 6) := by
        intro e12 he12
        exact w_iret X.1 q hRt rfl (ax_d X (show cdA 158 80 = some (.ireturn, 1, 0, 0, 0) from rfl)) (show (1 + 1) ≤ 2 by omega) (show (6 + 6) ≤ 12 by omega) ⟨_, rfl, Is8, Gs8, Or.inl ⟨e12, rfl, ⟨by first | exact oq_c876a415 he12 | omega, by first | exact oq_a59aa581 he12 | omega⟩, trivial⟩⟩
      refine z_icmp_ne X (t := 55) (show cdA 158 42 = some (.if_icmp .ne 13, 3, 1, 0, 0) from rfl) (by decide) ⟨by first | exact p1.1 | omega, by first | exact p1.2 | omega⟩ (by decide) (fun g13 => ?_) (fun g13 => ?_)
      ·
        refine z_load_n X (x := y) (show cdA 158 55 = some (.iload_n 2, 1, 0, 0, 0) from rfl) (List.Mem.tail _ (List.Mem.tail _ (List.Mem.head _))) ?_
        refine z_bipush X (show cdA 158 56 = some (.bipush (-2), 2, 0, 0, (-2)) from rfl) ?_
        refine z_icmp_ne X (t := 71) (show cdA 158 58 = some (.if_icmp .ne 13, 3, 1, 0, 0) from rfl) (by decide) ⟨by first | exact p1.1 | omega, by first | exact p1.2 | omega⟩ (by decide) (fun g14 => ?_) (fun g14 => ?_)
        ·
          refine z_aload_n X (x := A 0) (show cdA 158 71 = some (.aload_n 0, 1, 0, 0, 0) from rfl) (List.Mem.head _) ?_
          refine s_getR X 0 (show cdA 158 72 = some (.getfield 62, 3, 11, 6, 0) from rfl) (by decide) rfl rfl ?_
          refine s_getR X 46 (show cdA 158 75 = some (.getfield 268, 3, 5, 9, 0) from rfl) (by decide) rfl rfl ?_
          refine z_load_n X (x := y) (show cdA 158 78 = some (.iload_n 2, 1, 0, 0, 0) from rfl) (List.Mem.tail _ (List.Mem.tail _ (List.Mem.head _))) ?_
          refine z_ald X 53 (show cdA 158 79 = some (.iaload, 1, 0, 0, 0) from rfl) (by decide) rfl (by first | exact oq_52fc8c25 g14 g13 hps4.1 | omega) (show y < 8 by first | exact oq_aaea290e hps4.2 | omega) (by decide) ?_
          have b15 : ((-2147483648) : Int) ≤ iC s8 45 (y).toNat ∧ iC s8 45 (y).toNat ≤ 2147483647 := Is8.2 45 _ (show (y).toNat < 8 by first | exact oq_c19a3aae hps4.2 | omega)
          exact N11 _ (Or.inl ⟨g13, g14, b15, rfl⟩)
        ·
          refine z_aload_n X (x := A 0) (show cdA 158 61 = some (.aload_n 0, 1, 0, 0, 0) from rfl) (List.Mem.head _) ?_
          refine s_getR X 0 (show cdA 158 62 = some (.getfield 62, 3, 11, 6, 0) from rfl) (by decide) rfl rfl ?_
          refine z_getI X 46 (show cdA 158 65 = some (.getfield 265, 3, 5, 11, 0) from rfl) (by decide) rfl rfl ?_
          have b16 : ((-2147483648) : Int) ≤ iI s8 30 ∧ iI s8 30 ≤ 2147483647 := Is8.1 30
          refine z_goto X (t := 80) (show cdA 158 68 = some (.goto 12, 3, 0, 0, 0) from rfl) (by decide) ?_
          exact N11 _ (Or.inr (Or.inl ⟨g13, g14, b16, rfl⟩))
      ·
        refine z_aload_n X (x := A 0) (show cdA 158 45 = some (.aload_n 0, 1, 0, 0, 0) from rfl) (List.Mem.head _) ?_
        refine s_getR X 0 (show cdA 158 46 = some (.getfield 62, 3, 11, 6, 0) from rfl) (by decide) rfl rfl ?_
        refine z_getI X 46 (show cdA 158 49 = some (.getfield 262, 3, 5, 10, 0) from rfl) (by decide) rfl rfl ?_
        have b17 : ((-2147483648) : Int) ≤ iI s8 29 ∧ iI s8 29 ≤ 2147483647 := Is8.1 29
        refine z_goto X (t := 80) (show cdA 158 52 = some (.goto 28, 3, 0, 0, 0) from rfl) (by decide) ?_
        exact N11 _ (Or.inr (Or.inr (⟨g13, b17, rfl⟩)))
    ·
      refine z_const X (show cdA 158 38 = some (.iconst (-1), 1, 0, 0, 0) from rfl) ?_
      exact w_iret X.1 q hRt rfl (ax_d X (show cdA 158 39 = some (.ireturn, 1, 0, 0, 0) from rfl)) (show (1 + 1) ≤ 2 by omega) (show (6 + 6) ≤ 12 by omega) ⟨_, rfl, Is8, Gs8, Or.inl ⟨(-1), rfl, (by decide), trivial⟩⟩
set_option maxRecDepth 4000 in
theorem cs_clear (G : GX l s0 D tys a0 dT) (I : Bd s)  : CT l s0 D A dT 159 (rmN 159) [.ref (A 0)] s (fun o t => Bd t ∧ Fm [28] [] s t ∧ ∃ e, o = .inl (some (.int (Int32.ofInt e))) ∧ rng e ∧ (True)) := by
  refine ct_ofX G (by decide) (Nat.le_of_ble_eq_true rfl) (fun k X E ET hRt hXt q => ?_)
  show WS k 0 [(0, .ref (A 0))] [] _ 0 0
  have F : Fm [28] [] s s := fm_rf _ _ s
  refine z_aload_n X (x := A 0) (show cdA 159 0 = some (.aload_n 0, 1, 0, 0, 0) from rfl) (List.Mem.head _) ?_
  refine s_getR X 0 (show cdA 159 1 = some (.getfield 62, 3, 11, 6, 0) from rfl) (by decide) rfl rfl ?_
  refine z_getI X 46 (show cdA 159 4 = some (.getfield 258, 3, 5, 3, 0) from rfl) (by decide) rfl rfl ?_
  have b1 : (0 : Int) ≤ iI s 28 ∧ iI s 28 ≤ 8 := I.1 28
  refine z_store_n X (lv' := [(1, .int (Int32.ofInt (iI s 28))), (0, .ref (A 0))]) (show cdA 159 7 = some (.istore_n 1, 1, 0, 0, 0) from rfl) (by decide) (fun _ h => h) ?_
  refine z_aload_n X (x := A 0) (show cdA 159 8 = some (.aload_n 0, 1, 0, 0, 0) from rfl) (List.Mem.tail _ (List.Mem.head _)) ?_
  refine s_getR X 0 (show cdA 159 9 = some (.getfield 62, 3, 11, 6, 0) from rfl) (by decide) rfl rfl ?_
  refine z_const X (show cdA 159 12 = some (.iconst 0, 1, 0, 0, 0) from rfl) ?_
  refine s_putI X 46 (show cdA 159 13 = some (.putfield 258, 3, 5, 3, 0) from rfl) (by decide) rfl rfl (by decide) rfl rfl rfl ?_
  obtain ⟨s2, hs2⟩ : ∃ x0, x0 = uI s 28 (Int32.ofInt 0) := ⟨_, rfl⟩
  rw [← hs2]
  have Is2 : Bd s2 := by rw [hs2]; exact bd_I I (show (0 : Int) ≤ 0 ∧ 0 ≤ 8 by first | exact ⟨by decide, by decide⟩ | omega) (by decide)
  have Fs2 := fm_I (x := Int32.ofInt 0) F (show 28 ∈ _ by decide)
  rw [← hs2] at Fs2
  have vs2 : iI s2 28 = 0 := by rw [hs2]; exact iI_u (by decide)
  refine z_load_n X (x := (iI s 28)) (show cdA 159 16 = some (.iload_n 1, 1, 0, 0, 0) from rfl) (List.Mem.head _) ?_
  exact w_iret X.1 q hRt rfl (ax_d X (show cdA 159 17 = some (.ireturn, 1, 0, 0, 0) from rfl)) (Nat.zero_le _) (Nat.zero_le _) ⟨_, rfl, Is2, Fs2, (iI s 28), rfl, (rng_to _), trivial⟩
set_option maxRecDepth 4000 in
theorem cs_configure (G : GX l s0 D tys a0 dT) (I : Bd s) {x : Int} (p0 : rng x) : CT l s0 D A dT 160 (rmN 160) [.ref (A 0), .int (Int32.ofInt x)] s (fun o t => Bd t ∧ Fm [32] [46] s t ∧ ((∃ e, o = .inl (some (.int (Int32.ofInt e))) ∧ rng e ∧ (True)) ∨ ∃ x : Nat, o = .inr (exN x) ∧ (x = 0))) := by
  refine ct_ofX G (by decide) (Nat.le_of_ble_eq_true rfl) (fun k X E ET hRt hXt q => ?_)
  show WS k 0 [(0, .ref (A 0)), (1, .int (Int32.ofInt x))] [] _ 0 0
  have F : Fm [32] [46] s s := fm_rf _ _ s
  have b1 : (0 : Int) ≤ iI s 32 ∧ iI s 32 ≤ 6 := I.1 32
  refine z_aload_n X (x := A 0) (show cdA 160 0 = some (.aload_n 0, 1, 0, 0, 0) from rfl) (List.Mem.head _) ?_
  refine z_load_n X (x := x) (show cdA 160 1 = some (.iload_n 1, 1, 0, 0, 0) from rfl) (List.Mem.tail _ (List.Mem.head _)) ?_
  refine z_const X (show cdA 160 2 = some (.iconst 0, 1, 0, 0, 0) from rfl) ?_
  refine z_ldcw X (show cdA 160 3 = some (.ldc_w 271, 3, 0, 0, 16777215) from rfl) ?_
  refine z_callV X 0 (rm := rmN 184) (As := [.int (Int32.ofInt x), .int (Int32.ofInt 0), .int (Int32.ofInt 16777215)]) (st := []) (show cdA 160 6 = some (.invokevirtual 151, 3, 184, 0, 0) from rfl) rfl (by decide) rfl (by rw [E.1, E.2.1, E.2.2.1]; exact cs_needWithin G I (by first | exact ⟨p0.1, p0.2⟩ | omega) (by first | exact ⟨by decide, by decide⟩ | omega) (by first | exact ⟨by decide, by decide⟩ | omega)) ⟨by rw [E.2.2.2]; exact (show (rmN 184).frames + 1 ≤ (rmN 160).frames by decide), by rw [E.2.2.2]; exact (show 8 + (mNL (miB 184) + 11) + (rmN 184).locals ≤ (rmN 160).locals by decide), by rw [E.2.2.2]; exact (show 0 + 1 ≤ 1 by omega), by rw [E.2.2.2]; exact (show 0 + 6 ≤ 6 by omega)⟩ (Nat.le_of_ble_eq_true rfl) (fun vv s2 hq => ?_) (fun ee s2 hq => ?_)
  rotate_left
  · obtain ⟨Is2, Fs2, (⟨hv, hps2⟩ | ⟨xx, hv, hps2⟩)⟩ := hq
    · cases hv
    · cases hv
      have Gs2 := fm_ts F Fs2 (by decide) (by decide)
      have ws2_32 : iI s2 32 = iI s 32 := fm_i Fs2 (by decide)
      exact x_out X.1 q (fun x hx => (hXt x hx).elim) (show 1 ≤ 1 by omega) (show 6 ≤ 6 by omega) ⟨_, rfl, Is2, Gs2, Or.inr ⟨xx, rfl, by omega⟩⟩
  obtain ⟨Is2, Fs2, (⟨hv, hps2⟩ | ⟨xx, hv, hps2⟩)⟩ := hq
  rotate_left
  · cases hv
  cases hv
  have Gs2 := fm_ts F Fs2 (by decide) (by decide)
  have ws2_32 : iI s2 32 = iI s 32 := fm_i Fs2 (by decide)
  show WS k 9 [(0, .ref (A 0)), (1, .int (Int32.ofInt x))] [] (Wd A dT s2) 1 6
  refine z_aload_n X (x := A 0) (show cdA 160 9 = some (.aload_n 0, 1, 0, 0, 0) from rfl) (List.Mem.head _) ?_
  refine s_getR X 0 (show cdA 160 10 = some (.getfield 71, 3, 11, 7, 0) from rfl) (by decide) rfl rfl ?_
  refine z_load_n X (x := x) (show cdA 160 13 = some (.iload_n 1, 1, 0, 0, 0) from rfl) (List.Mem.tail _ (List.Mem.head _)) ?_
  refine z_callV X 54 (rm := rmN 43) (As := [.int (Int32.ofInt x)]) (st := []) (show cdA 160 14 = some (.invokevirtual 272, 3, 43, 0, 0) from rfl) rfl (by decide) rfl (by rw [E.1, E.2.1, E.2.2.1]; exact c4_add_54 G Is2 (by first | exact ⟨hps2.1, hps2.2⟩ | omega)) ⟨by rw [E.2.2.2]; exact (show (rmN 43).frames + 1 ≤ (rmN 160).frames by decide), by rw [E.2.2.2]; exact (show 8 + (mNL (miB 43) + 11) + (rmN 43).locals ≤ (rmN 160).locals by decide), by rw [E.2.2.2]; exact (show 1 + 0 ≤ 1 by omega), by rw [E.2.2.2]; exact (show 6 + 0 ≤ 6 by omega)⟩ (Nat.le_of_ble_eq_true rfl) (fun vv s4 hq => ?_) (fun ee s4 hq => ?_)
  rotate_left
  · obtain ⟨Is4, Fs4, e5, hv, hrs4, hps4⟩ := hq; cases hv
  obtain ⟨Is4, Fs4, e5, hv, hrs4, hps4⟩ := hq
  cases hv
  have Gs4 := fm_ts Gs2 Fs4 (by decide) (by decide)
  have b6 : (0 : Int) ≤ iI s4 32 ∧ iI s4 32 ≤ 6 := Is4.1 32
  show WS k 17 [(0, .ref (A 0)), (1, .int (Int32.ofInt x))] [.int (Int32.ofInt e5)] (Wd A dT s4) 1 6
  exact w_iret X.1 q hRt rfl (ax_d X (show cdA 160 17 = some (.ireturn, 1, 0, 0, 0) from rfl)) (show 1 ≤ 1 by omega) (show 6 ≤ 6 by omega) ⟨_, rfl, Is4, Gs4, Or.inl ⟨e5, rfl, hrs4, trivial⟩⟩
set_option maxRecDepth 4000 in
theorem cs_pairs (G : GX l s0 D tys a0 dT) (I : Bd s) {x y : Int} (p0 : rng x) (p1 : rng y) (p2 : iI s 12 ≤ 8) : CT l s0 D A dT 161 (rmN 161) [.ref (A 0), .int (Int32.ofInt x), .int (Int32.ofInt y)] s (fun o t => Bd t ∧ Fm [22, 23, 24] [33, 26, 27, 28, 29, 30, 31, 32, 20, 48, 47] s t ∧ ((∃ e, o = .inl (some (.int (Int32.ofInt e))) ∧ rng e ∧ (True)) ∨ ∃ x : Nat, o = .inr (exN x) ∧ (x ≤ 1))) := by
  refine ct_ofX G (by decide) (Nat.le_of_ble_eq_true rfl) (fun k X E ET hRt hXt q => ?_)
  show WS k 0 [(0, .ref (A 0)), (1, .int (Int32.ofInt x)), (2, .int (Int32.ofInt y))] [] _ 0 0
  have F : Fm [22, 23, 24] [33, 26, 27, 28, 29, 30, 31, 32, 20, 48, 47] s s := fm_rf _ _ s
  have b1 : (0 : Int) ≤ iI s 32 ∧ iI s 32 ≤ 6 := I.1 32
  have b2 : (0 : Int) ≤ iI s 12 ∧ iI s 12 ≤ 9 := I.1 12
  refine z_load_n X (x := x) (show cdA 161 0 = some (.iload_n 1, 1, 0, 0, 0) from rfl) (List.Mem.tail _ (List.Mem.head _)) ?_
  refine z_if_lt X (t := 15) (show cdA 161 1 = some (.ifCond .lt 14, 3, 2, 0, 0) from rfl) (by decide) ⟨by first | exact p0.1 | omega, by first | exact p0.2 | omega⟩ (fun g3 => ?_) (fun g3 => ?_)
  ·
    exact z_throw G X E ET hXt q (st := []) (show cdA 161 15 = some (.new 274, 3, 1, 2, 0) from rfl) (by decide) (by decide) (Nat.le_of_ble_eq_true rfl) (show 0 + 1 ≤ 2 by omega) (show 0 + 6 ≤ 12 by omega) (show 0 + 1 ≤ 2 by omega) (show 0 + 6 ≤ 12 by omega) ⟨_, rfl, I, F, Or.inr ⟨1, rfl, by omega⟩⟩
  ·
    refine z_load_n X (x := x) (show cdA 161 4 = some (.iload_n 1, 1, 0, 0, 0) from rfl) (List.Mem.tail _ (List.Mem.head _)) ?_
    refine z_aload_n X (x := A 0) (show cdA 161 5 = some (.aload_n 0, 1, 0, 0, 0) from rfl) (List.Mem.head _) ?_
    refine s_getR X 0 (show cdA 161 6 = some (.getfield 71, 3, 11, 7, 0) from rfl) (by decide) rfl rfl ?_
    refine z_getI X 54 (show cdA 161 9 = some (.getfield 273, 3, 4, 5, 0) from rfl) (by decide) rfl rfl ?_
    have b4 : (0 : Int) ≤ iI s 32 ∧ iI s 32 ≤ 6 := I.1 32
    refine z_icmp_lt X (t := 26) (show cdA 161 12 = some (.if_icmp .lt 14, 3, 2, 0, 0) from rfl) (by decide) ⟨by first | exact p0.1 | omega, by first | exact p0.2 | omega⟩ (rng_to _) (fun g5 => ?_) (fun g5 => ?_)
    ·
      refine z_aload_n X (x := A 0) (show cdA 161 26 = some (.aload_n 0, 1, 0, 0, 0) from rfl) (List.Mem.head _) ?_
      refine z_load_n X (x := y) (show cdA 161 27 = some (.iload_n 2, 1, 0, 0, 0) from rfl) (List.Mem.tail _ (List.Mem.tail _ (List.Mem.head _))) ?_
      refine z_callV X 0 (rm := rmN 183) (As := [.int (Int32.ofInt y)]) (st := []) (show cdA 161 28 = some (.invokevirtual 148, 3, 183, 0, 0) from rfl) rfl (by decide) rfl (by rw [E.1, E.2.1, E.2.2.1]; exact cs_needQuarter G I (by first | exact ⟨p1.1, p1.2⟩ | omega)) ⟨by rw [E.2.2.2]; exact (show (rmN 183).frames + 1 ≤ (rmN 161).frames by decide), by rw [E.2.2.2]; exact (show 8 + (mNL (miB 183) + 11) + (rmN 183).locals ≤ (rmN 161).locals by decide), by rw [E.2.2.2]; exact (show 0 + 1 ≤ 2 by omega), by rw [E.2.2.2]; exact (show 0 + 6 ≤ 12 by omega)⟩ (Nat.le_of_ble_eq_true rfl) (fun vv s6 hq => ?_) (fun ee s6 hq => ?_)
      rotate_left
      · obtain ⟨Is6, Fs6, (⟨hv, hps6⟩ | ⟨xx, hv, hps6⟩)⟩ := hq
        · cases hv
        · cases hv
          have Gs6 := fm_ts F Fs6 (by decide) (by decide)
          have ws6_32 : iI s6 32 = iI s 32 := fm_i Fs6 (by decide)
          have ws6_12 : iI s6 12 = iI s 12 := fm_i Fs6 (by decide)
          exact x_out X.1 q (fun x hx => (hXt x hx).elim) (show 1 ≤ 2 by omega) (show 6 ≤ 12 by omega) ⟨_, rfl, Is6, Gs6, Or.inr ⟨xx, rfl, by omega⟩⟩
      obtain ⟨Is6, Fs6, (⟨hv, hps6⟩ | ⟨xx, hv, hps6⟩)⟩ := hq
      rotate_left
      · cases hv
      cases hv
      have Gs6 := fm_ts F Fs6 (by decide) (by decide)
      have ws6_32 : iI s6 32 = iI s 32 := fm_i Fs6 (by decide)
      have ws6_12 : iI s6 12 = iI s 12 := fm_i Fs6 (by decide)
      show WS k 31 [(0, .ref (A 0)), (1, .int (Int32.ofInt x)), (2, .int (Int32.ofInt y))] [] (Wd A dT s6) 1 6
      refine z_aload_n X (x := A 0) (show cdA 161 31 = some (.aload_n 0, 1, 0, 0, 0) from rfl) (List.Mem.head _) ?_
      refine s_getR X 0 (show cdA 161 32 = some (.getfield 71, 3, 11, 7, 0) from rfl) (by decide) rfl rfl ?_
      refine z_load_n X (x := x) (show cdA 161 35 = some (.iload_n 1, 1, 0, 0, 0) from rfl) (List.Mem.tail _ (List.Mem.head _)) ?_
      refine z_callV X 54 (rm := rmN 45) (As := [.int (Int32.ofInt x)]) (st := []) (show cdA 161 36 = some (.invokevirtual 279, 3, 45, 0, 0) from rfl) rfl (by decide) rfl (by rw [E.1, E.2.1, E.2.2.1]; exact c4_judge_54 G Is6 (by first | exact ⟨g3, oq_4af6a0a9 g5 b4.2⟩ | omega) (by first | exact oq_86ef0b17 ws6_12 p2 | omega)) ⟨by rw [E.2.2.2]; exact (show (rmN 45).frames + 1 ≤ (rmN 161).frames by decide), by rw [E.2.2.2]; exact (show 8 + (mNL (miB 45) + 11) + (rmN 45).locals ≤ (rmN 161).locals by decide), by rw [E.2.2.2]; exact (show 1 + 0 ≤ 2 by omega), by rw [E.2.2.2]; exact (show 6 + 0 ≤ 12 by omega)⟩ (Nat.le_of_ble_eq_true rfl) (fun vv s8 hq => ?_) (fun ee s8 hq => ?_)
      rotate_left
      · obtain ⟨Is8, Fs8, hv, hps8⟩ := hq; cases hv
      obtain ⟨Is8, Fs8, hv, hps8⟩ := hq
      cases hv
      have Gs8 := fm_ts Gs6 Fs8 (by decide) (by decide)
      have ws8_32 : iI s8 32 = iI s6 32 := fm_i Fs8 (by decide)
      have ws8_12 : iI s8 12 = iI s6 12 := fm_i Fs8 (by decide)
      show WS k 39 [(0, .ref (A 0)), (1, .int (Int32.ofInt x)), (2, .int (Int32.ofInt y))] [] (Wd A dT s8) 1 6
      refine z_aload_n X (x := A 0) (show cdA 161 39 = some (.aload_n 0, 1, 0, 0, 0) from rfl) (List.Mem.head _) ?_
      refine s_getR X 0 (show cdA 161 40 = some (.getfield 71, 3, 11, 7, 0) from rfl) (by decide) rfl rfl ?_
      refine s_getR X 54 (show cdA 161 43 = some (.getfield 282, 3, 4, 8, 0) from rfl) (by decide) rfl rfl ?_
      refine z_load_n X (x := x) (show cdA 161 46 = some (.iload_n 1, 1, 0, 0, 0) from rfl) (List.Mem.tail _ (List.Mem.head _)) ?_
      refine z_bipush X (show cdA 161 47 = some (.bipush 24, 2, 0, 0, 24) from rfl) ?_
      refine z_mul X (show cdA 161 49 = some (.imul, 1, 0, 0, 0) from rfl) ?_
      refine z_load_n X (x := y) (show cdA 161 50 = some (.iload_n 2, 1, 0, 0, 0) from rfl) (List.Mem.tail _ (List.Mem.tail _ (List.Mem.head _))) ?_
      refine z_add X (show cdA 161 51 = some (.iadd, 1, 0, 0, 0) from rfl) ?_
      refine z_zald X 57 (show cdA 161 52 = some (.baload, 1, 0, 0, 0) from rfl) (by decide) rfl (by first | exact oq_4071a75f g3 hps6.1 | omega) (show ((x * 24) + y) < 144 by first | exact oq_b7e30c53 g5 hps6.2 b4.2 | omega) (by decide) ?_
      have b10 : (0 : Int) ≤ iC s8 48 (((x * 24) + y)).toNat ∧ iC s8 48 (((x * 24) + y)).toNat ≤ 1 := Is8.2 48 _ (show (((x * 24) + y)).toNat < 144 by first | exact oq_8c922985 g5 hps6.2 b4.2 | omega)
      have N11 : ∀ e12 : Int, ((((iC s8 48 (((x * 24) + y)).toNat) = 0) ∧ e12 = (-1)) ∨ (((iC s8 48 (((x * 24) + y)).toNat) ≠ 0) ∧ (((-2147483648) : Int) ≤ iC s8 47 (x).toNat ∧ iC s8 47 (x).toNat ≤ 2147483647) ∧ e12 = (iC s8 47 (x).toNat))) → WS k 69 [(0, .ref (A 0)), (1, .int (Int32.ofInt x)), (2, .int (Int32.ofInt y))] [.int (Int32.ofInt e12)] (Wd A dT s8) 1 6 := by
        intro e12 he12
        exact w_iret X.1 q hRt rfl (ax_d X (show cdA 161 69 = some (.ireturn, 1, 0, 0, 0) from rfl)) (show 1 ≤ 2 by omega) (show 6 ≤ 12 by omega) ⟨_, rfl, Is8, Gs8, Or.inl ⟨e12, rfl, ⟨by first | exact oq_551cb5a9 he12 | omega, by first | exact oq_f5d7515b he12 | omega⟩, trivial⟩⟩
      refine z_if_eq X (t := 68) (show cdA 161 53 = some (.ifCond .eq 15, 3, 0, 0, 0) from rfl) (by decide) (rng_to _) (fun g13 => ?_) (fun g13 => ?_)
      ·
        refine z_const X (show cdA 161 68 = some (.iconst (-1), 1, 0, 0, 0) from rfl) ?_
        exact N11 _ (Or.inl ⟨g13, rfl⟩)
      ·
        refine z_aload_n X (x := A 0) (show cdA 161 56 = some (.aload_n 0, 1, 0, 0, 0) from rfl) (List.Mem.head _) ?_
        refine s_getR X 0 (show cdA 161 57 = some (.getfield 71, 3, 11, 7, 0) from rfl) (by decide) rfl rfl ?_
        refine s_getR X 54 (show cdA 161 60 = some (.getfield 286, 3, 4, 7, 0) from rfl) (by decide) rfl rfl ?_
        refine z_load_n X (x := x) (show cdA 161 63 = some (.iload_n 1, 1, 0, 0, 0) from rfl) (List.Mem.tail _ (List.Mem.head _)) ?_
        refine z_ald X 56 (show cdA 161 64 = some (.iaload, 1, 0, 0, 0) from rfl) (by decide) rfl (by first | exact g3 | omega) (show x < 6 by first | exact oq_f35046fc g5 b4.2 | omega) (by decide) ?_
        have b14 : ((-2147483648) : Int) ≤ iC s8 47 (x).toNat ∧ iC s8 47 (x).toNat ≤ 2147483647 := Is8.2 47 _ (show (x).toNat < 6 by first | exact oq_77ac74ee g5 b4.2 | omega)
        refine z_goto X (t := 69) (show cdA 161 65 = some (.goto 4, 3, 0, 0, 0) from rfl) (by decide) ?_
        exact N11 _ (Or.inr (⟨g13, b14, rfl⟩))
    ·
      exact z_throw G X E ET hXt q (st := []) (show cdA 161 15 = some (.new 274, 3, 1, 2, 0) from rfl) (by decide) (by decide) (Nat.le_of_ble_eq_true rfl) (show 0 + 1 ≤ 2 by omega) (show 0 + 6 ≤ 12 by omega) (show 0 + 1 ≤ 2 by omega) (show 0 + 6 ≤ 12 by omega) ⟨_, rfl, I, F, Or.inr ⟨1, rfl, by omega⟩⟩
set_option maxRecDepth 4000 in
theorem cs_busy (G : GX l s0 D tys a0 dT) (I : Bd s) {x : Int} (p0 : rng x) : CT l s0 D A dT 162 (rmN 162) [.ref (A 0), .int (Int32.ofInt x)] s (fun o t => Bd t ∧ Fm [33] [] s t ∧ ((∃ e, o = .inl (some (.int (Int32.ofInt e))) ∧ rng e ∧ (True)) ∨ ∃ x : Nat, o = .inr (exN x) ∧ (x = 0))) := by
  refine ct_ofX G (by decide) (Nat.le_of_ble_eq_true rfl) (fun k X E ET hRt hXt q => ?_)
  show WS k 0 [(0, .ref (A 0)), (1, .int (Int32.ofInt x))] [] _ 0 0
  have F : Fm [33] [] s s := fm_rf _ _ s
  refine z_aload_n X (x := A 0) (show cdA 162 0 = some (.aload_n 0, 1, 0, 0, 0) from rfl) (List.Mem.head _) ?_
  refine z_load_n X (x := x) (show cdA 162 1 = some (.iload_n 1, 1, 0, 0, 0) from rfl) (List.Mem.tail _ (List.Mem.head _)) ?_
  refine z_const X (show cdA 162 2 = some (.iconst 0, 1, 0, 0, 0) from rfl) ?_
  refine z_ldcw X (show cdA 162 3 = some (.ldc_w 289, 3, 0, 0, 100000) from rfl) ?_
  refine z_callV X 0 (rm := rmN 184) (As := [.int (Int32.ofInt x), .int (Int32.ofInt 0), .int (Int32.ofInt 100000)]) (st := []) (show cdA 162 6 = some (.invokevirtual 151, 3, 184, 0, 0) from rfl) rfl (by decide) rfl (by rw [E.1, E.2.1, E.2.2.1]; exact cs_needWithin G I (by first | exact ⟨p0.1, p0.2⟩ | omega) (by first | exact ⟨by decide, by decide⟩ | omega) (by first | exact ⟨by decide, by decide⟩ | omega)) ⟨by rw [E.2.2.2]; exact (show (rmN 184).frames + 1 ≤ (rmN 162).frames by decide), by rw [E.2.2.2]; exact (show 8 + (mNL (miB 184) + 11) + (rmN 184).locals ≤ (rmN 162).locals by decide), by rw [E.2.2.2]; exact (show 0 + 1 ≤ 1 by omega), by rw [E.2.2.2]; exact (show 0 + 6 ≤ 6 by omega)⟩ (Nat.le_of_ble_eq_true rfl) (fun vv s1 hq => ?_) (fun ee s1 hq => ?_)
  rotate_left
  · obtain ⟨Is1, Fs1, (⟨hv, hps1⟩ | ⟨xx, hv, hps1⟩)⟩ := hq
    · cases hv
    · cases hv
      have Gs1 := fm_ts F Fs1 (by decide) (by decide)
      exact x_out X.1 q (fun x hx => (hXt x hx).elim) (show 1 ≤ 1 by omega) (show 6 ≤ 6 by omega) ⟨_, rfl, Is1, Gs1, Or.inr ⟨xx, rfl, by omega⟩⟩
  obtain ⟨Is1, Fs1, (⟨hv, hps1⟩ | ⟨xx, hv, hps1⟩)⟩ := hq
  rotate_left
  · cases hv
  cases hv
  have Gs1 := fm_ts F Fs1 (by decide) (by decide)
  show WS k 9 [(0, .ref (A 0)), (1, .int (Int32.ofInt x))] [] (Wd A dT s1) 1 6
  refine z_aload_n X (x := A 0) (show cdA 162 9 = some (.aload_n 0, 1, 0, 0, 0) from rfl) (List.Mem.head _) ?_
  refine s_getR X 0 (show cdA 162 10 = some (.getfield 71, 3, 11, 7, 0) from rfl) (by decide) rfl rfl ?_
  refine z_getI X 54 (show cdA 162 13 = some (.getfield 290, 3, 4, 6, 0) from rfl) (by decide) rfl rfl ?_
  have b3 : (0 : Int) ≤ iI s1 33 ∧ iI s1 33 ≤ 100000 := Is1.1 33
  refine z_store_n X (lv' := [(2, .int (Int32.ofInt (iI s1 33))), (0, .ref (A 0)), (1, .int (Int32.ofInt x))]) (show cdA 162 16 = some (.istore_n 2, 1, 0, 0, 0) from rfl) (by decide) (fun _ h => h) ?_
  refine z_aload_n X (x := A 0) (show cdA 162 17 = some (.aload_n 0, 1, 0, 0, 0) from rfl) (List.Mem.tail _ (List.Mem.head _)) ?_
  refine s_getR X 0 (show cdA 162 18 = some (.getfield 71, 3, 11, 7, 0) from rfl) (by decide) rfl rfl ?_
  refine z_load_n X (x := x) (show cdA 162 21 = some (.iload_n 1, 1, 0, 0, 0) from rfl) (List.Mem.tail _ (List.Mem.tail _ (List.Mem.head _))) ?_
  refine s_putI X 54 (show cdA 162 22 = some (.putfield 290, 3, 4, 6, 0) from rfl) (by decide) rfl rfl (by decide) rfl rfl rfl ?_
  obtain ⟨s4, hs4⟩ : ∃ x0, x0 = uI s1 33 (Int32.ofInt x) := ⟨_, rfl⟩
  rw [← hs4]
  have Is4 : Bd s4 := by rw [hs4]; exact bd_I Is1 (show (0 : Int) ≤ x ∧ x ≤ 100000 by first | exact ⟨hps1.1, hps1.2⟩ | omega) ⟨by first | exact p0.1 | omega, by first | exact p0.2 | omega⟩
  have Fs4 := fm_I (x := Int32.ofInt x) Gs1 (show 33 ∈ _ by decide)
  rw [← hs4] at Fs4
  have vs4 : iI s4 33 = x := by rw [hs4]; exact iI_u ⟨by first | exact p0.1 | omega, by first | exact p0.2 | omega⟩
  refine z_load_n X (x := (iI s1 33)) (show cdA 162 25 = some (.iload_n 2, 1, 0, 0, 0) from rfl) (List.Mem.head _) ?_
  exact w_iret X.1 q hRt rfl (ax_d X (show cdA 162 26 = some (.ireturn, 1, 0, 0, 0) from rfl)) (show 1 ≤ 1 by omega) (show 6 ≤ 6 by omega) ⟨_, rfl, Is4, Fs4, Or.inl ⟨(iI s1 33), rfl, (rng_to _), trivial⟩⟩
set_option maxRecDepth 4000 in
theorem cs_plan (G : GX l s0 D tys a0 dT) (I : Bd s) {x y : Int} (p0 : rng x) (p1 : rng y) (p2 : iI s 12 ≤ 8) : CT l s0 D A dT 163 (rmN 163) [.ref (A 0), .int (Int32.ofInt x), .int (Int32.ofInt y)] s (fun o t => Bd t ∧ Fm [22, 23, 24, 34, 35] [33, 26, 27, 28, 29, 30, 31, 32, 20, 48, 47, 49, 50, 51] s t ∧ ((∃ e, o = .inl (some (.int (Int32.ofInt e))) ∧ rng e ∧ (True)) ∨ ∃ x : Nat, o = .inr (exN x) ∧ (x = 0))) := by
  refine ct_ofX G (by decide) (Nat.le_of_ble_eq_true rfl) (fun k X E ET hRt hXt q => ?_)
  show WS k 0 [(0, .ref (A 0)), (1, .int (Int32.ofInt x)), (2, .int (Int32.ofInt y))] [] _ 0 0
  have F : Fm [22, 23, 24, 34, 35] [33, 26, 27, 28, 29, 30, 31, 32, 20, 48, 47, 49, 50, 51] s s := fm_rf _ _ s
  have b1 : (0 : Int) ≤ iI s 12 ∧ iI s 12 ≤ 9 := I.1 12
  refine z_aload_n X (x := A 0) (show cdA 163 0 = some (.aload_n 0, 1, 0, 0, 0) from rfl) (List.Mem.head _) ?_
  refine z_load_n X (x := x) (show cdA 163 1 = some (.iload_n 1, 1, 0, 0, 0) from rfl) (List.Mem.tail _ (List.Mem.head _)) ?_
  refine z_const X (show cdA 163 2 = some (.iconst 0, 1, 0, 0, 0) from rfl) ?_
  refine z_bipush X (show cdA 163 3 = some (.bipush 23, 2, 0, 0, 23) from rfl) ?_
  refine z_callV X 0 (rm := rmN 184) (As := [.int (Int32.ofInt x), .int (Int32.ofInt 0), .int (Int32.ofInt 23)]) (st := []) (show cdA 163 5 = some (.invokevirtual 151, 3, 184, 0, 0) from rfl) rfl (by decide) rfl (by rw [E.1, E.2.1, E.2.2.1]; exact cs_needWithin G I (by first | exact ⟨p0.1, p0.2⟩ | omega) (by first | exact ⟨by decide, by decide⟩ | omega) (by first | exact ⟨by decide, by decide⟩ | omega)) ⟨by rw [E.2.2.2]; exact (show (rmN 184).frames + 1 ≤ (rmN 163).frames by decide), by rw [E.2.2.2]; exact (show 8 + (mNL (miB 184) + 11) + (rmN 184).locals ≤ (rmN 163).locals by decide), by rw [E.2.2.2]; exact (show 0 + 1 ≤ 2 by omega), by rw [E.2.2.2]; exact (show 0 + 6 ≤ 12 by omega)⟩ (Nat.le_of_ble_eq_true rfl) (fun vv s2 hq => ?_) (fun ee s2 hq => ?_)
  rotate_left
  · obtain ⟨Is2, Fs2, (⟨hv, hps2⟩ | ⟨xx, hv, hps2⟩)⟩ := hq
    · cases hv
    · cases hv
      have Gs2 := fm_ts F Fs2 (by decide) (by decide)
      have ws2_12 : iI s2 12 = iI s 12 := fm_i Fs2 (by decide)
      exact x_out X.1 q (fun x hx => (hXt x hx).elim) (show 1 ≤ 2 by omega) (show 6 ≤ 12 by omega) ⟨_, rfl, Is2, Gs2, Or.inr ⟨xx, rfl, by omega⟩⟩
  obtain ⟨Is2, Fs2, (⟨hv, hps2⟩ | ⟨xx, hv, hps2⟩)⟩ := hq
  rotate_left
  · cases hv
  cases hv
  have Gs2 := fm_ts F Fs2 (by decide) (by decide)
  have ws2_12 : iI s2 12 = iI s 12 := fm_i Fs2 (by decide)
  show WS k 8 [(0, .ref (A 0)), (1, .int (Int32.ofInt x)), (2, .int (Int32.ofInt y))] [] (Wd A dT s2) 1 6
  refine z_aload_n X (x := A 0) (show cdA 163 8 = some (.aload_n 0, 1, 0, 0, 0) from rfl) (List.Mem.head _) ?_
  refine z_load_n X (x := y) (show cdA 163 9 = some (.iload_n 2, 1, 0, 0, 0) from rfl) (List.Mem.tail _ (List.Mem.tail _ (List.Mem.head _))) ?_
  refine z_bipush X (show cdA 163 10 = some (.bipush (-2), 2, 0, 0, (-2)) from rfl) ?_
  refine z_bipush X (show cdA 163 12 = some (.bipush 23, 2, 0, 0, 23) from rfl) ?_
  refine z_callV X 0 (rm := rmN 184) (As := [.int (Int32.ofInt y), .int (Int32.ofInt (-2)), .int (Int32.ofInt 23)]) (st := []) (show cdA 163 14 = some (.invokevirtual 151, 3, 184, 0, 0) from rfl) rfl (by decide) rfl (by rw [E.1, E.2.1, E.2.2.1]; exact cs_needWithin G Is2 (by first | exact ⟨p1.1, p1.2⟩ | omega) (by first | exact ⟨by decide, by decide⟩ | omega) (by first | exact ⟨by decide, by decide⟩ | omega)) ⟨by rw [E.2.2.2]; exact (show (rmN 184).frames + 1 ≤ (rmN 163).frames by decide), by rw [E.2.2.2]; exact (show 8 + (mNL (miB 184) + 11) + (rmN 184).locals ≤ (rmN 163).locals by decide), by rw [E.2.2.2]; exact (show 1 + 1 ≤ 2 by omega), by rw [E.2.2.2]; exact (show 6 + 6 ≤ 12 by omega)⟩ (Nat.le_of_ble_eq_true rfl) (fun vv s4 hq => ?_) (fun ee s4 hq => ?_)
  rotate_left
  · obtain ⟨Is4, Fs4, (⟨hv, hps4⟩ | ⟨xx, hv, hps4⟩)⟩ := hq
    · cases hv
    · cases hv
      have Gs4 := fm_ts Gs2 Fs4 (by decide) (by decide)
      have ws4_12 : iI s4 12 = iI s2 12 := fm_i Fs4 (by decide)
      exact x_out X.1 q (fun x hx => (hXt x hx).elim) (show (1 + 1) ≤ 2 by omega) (show (6 + 6) ≤ 12 by omega) ⟨_, rfl, Is4, Gs4, Or.inr ⟨xx, rfl, by omega⟩⟩
  obtain ⟨Is4, Fs4, (⟨hv, hps4⟩ | ⟨xx, hv, hps4⟩)⟩ := hq
  rotate_left
  · cases hv
  cases hv
  have Gs4 := fm_ts Gs2 Fs4 (by decide) (by decide)
  have ws4_12 : iI s4 12 = iI s2 12 := fm_i Fs4 (by decide)
  show WS k 17 [(0, .ref (A 0)), (1, .int (Int32.ofInt x)), (2, .int (Int32.ofInt y))] [] (Wd A dT s4) (1 + 1) (6 + 6)
  refine z_aload_n X (x := A 0) (show cdA 163 17 = some (.aload_n 0, 1, 0, 0, 0) from rfl) (List.Mem.head _) ?_
  refine s_getR X 0 (show cdA 163 18 = some (.getfield 71, 3, 11, 7, 0) from rfl) (by decide) rfl rfl ?_
  refine z_load_n X (x := x) (show cdA 163 21 = some (.iload_n 1, 1, 0, 0, 0) from rfl) (List.Mem.tail _ (List.Mem.head _)) ?_
  refine z_callV X 54 (rm := rmN 48) (As := [.int (Int32.ofInt x)]) (st := []) (show cdA 163 22 = some (.invokevirtual 293, 3, 48, 0, 0) from rfl) rfl (by decide) rfl (by rw [E.1, E.2.1, E.2.2.1]; exact c4_solve_54 G Is4 (by first | exact ⟨hps2.1, hps2.2⟩ | omega) (by first | exact oq_d7ce4408 ws4_12 ws2_12 p2 | omega)) ⟨by rw [E.2.2.2]; exact (show (rmN 48).frames + 1 ≤ (rmN 163).frames by decide), by rw [E.2.2.2]; exact (show 8 + (mNL (miB 48) + 11) + (rmN 48).locals ≤ (rmN 163).locals by decide), by rw [E.2.2.2]; exact (show (1 + 1) + 0 ≤ 2 by omega), by rw [E.2.2.2]; exact (show (6 + 6) + 0 ≤ 12 by omega)⟩ (Nat.le_of_ble_eq_true rfl) (fun vv s6 hq => ?_) (fun ee s6 hq => ?_)
  rotate_left
  · obtain ⟨Is6, Fs6, e7, hv, hrs6, hps6⟩ := hq; cases hv
  obtain ⟨Is6, Fs6, e7, hv, hrs6, hps6⟩ := hq
  cases hv
  have Gs6 := fm_ts Gs4 Fs6 (by decide) (by decide)
  have ws6_12 : iI s6 12 = iI s4 12 := fm_i Fs6 (by decide)
  show WS k 25 [(0, .ref (A 0)), (1, .int (Int32.ofInt x)), (2, .int (Int32.ofInt y))] [.int (Int32.ofInt e7)] (Wd A dT s6) (1 + 1) (6 + 6)
  refine z_if_ne X (t := 30) (show cdA 163 25 = some (.ifCond .ne 5, 3, 1, 0, 0) from rfl) (by decide) hrs6 (fun g8 => ?_) (fun g8 => ?_)
  ·
    refine z_load_n X (x := y) (show cdA 163 30 = some (.iload_n 2, 1, 0, 0, 0) from rfl) (List.Mem.tail _ (List.Mem.tail _ (List.Mem.head _))) ?_
    refine z_const X (show cdA 163 31 = some (.iconst (-1), 1, 0, 0, 0) from rfl) ?_
    have N9 : ∀ e10 : Int, (((y ≠ (-1)) ∧ (y ≠ (-2)) ∧ ((0 : Int) ≤ iC s6 51 (y).toNat ∧ iC s6 51 (y).toNat ≤ 5) ∧ e10 = (iC s6 51 (y).toNat)) ∨ ((y ≠ (-1)) ∧ (y = (-2)) ∧ ((0 : Int) ≤ iI s6 35 ∧ iI s6 35 ≤ 23) ∧ e10 = (iI s6 35)) ∨ ((y = (-1)) ∧ (((-2147483648) : Int) ≤ iI s6 34 ∧ iI s6 34 ≤ 2147483647) ∧ e10 = (iI s6 34))) → WS k 70 [(0, .ref (A 0)), (1, .int (Int32.ofInt x)), (2, .int (Int32.ofInt y))] [.int (Int32.ofInt e10)] (Wd A dT s6) (1 + 1) (6 + 6) := by
      intro e10 he10
      exact w_iret X.1 q hRt rfl (ax_d X (show cdA 163 70 = some (.ireturn, 1, 0, 0, 0) from rfl)) (show (1 + 1) ≤ 2 by omega) (show (6 + 6) ≤ 12 by omega) ⟨_, rfl, Is6, Gs6, Or.inl ⟨e10, rfl, ⟨by first | exact oq_6314942f he10 | omega, by first | exact oq_80eb1a87 he10 | omega⟩, trivial⟩⟩
    refine z_icmp_ne X (t := 45) (show cdA 163 32 = some (.if_icmp .ne 13, 3, 1, 0, 0) from rfl) (by decide) ⟨by first | exact p1.1 | omega, by first | exact p1.2 | omega⟩ (by decide) (fun g11 => ?_) (fun g11 => ?_)
    ·
      refine z_load_n X (x := y) (show cdA 163 45 = some (.iload_n 2, 1, 0, 0, 0) from rfl) (List.Mem.tail _ (List.Mem.tail _ (List.Mem.head _))) ?_
      refine z_bipush X (show cdA 163 46 = some (.bipush (-2), 2, 0, 0, (-2)) from rfl) ?_
      refine z_icmp_ne X (t := 61) (show cdA 163 48 = some (.if_icmp .ne 13, 3, 1, 0, 0) from rfl) (by decide) ⟨by first | exact p1.1 | omega, by first | exact p1.2 | omega⟩ (by decide) (fun g12 => ?_) (fun g12 => ?_)
      ·
        refine z_aload_n X (x := A 0) (show cdA 163 61 = some (.aload_n 0, 1, 0, 0, 0) from rfl) (List.Mem.head _) ?_
        refine s_getR X 0 (show cdA 163 62 = some (.getfield 71, 3, 11, 7, 0) from rfl) (by decide) rfl rfl ?_
        refine s_getR X 54 (show cdA 163 65 = some (.getfield 300, 3, 4, 11, 0) from rfl) (by decide) rfl rfl ?_
        refine z_load_n X (x := y) (show cdA 163 68 = some (.iload_n 2, 1, 0, 0, 0) from rfl) (List.Mem.tail _ (List.Mem.tail _ (List.Mem.head _))) ?_
        refine z_ald X 60 (show cdA 163 69 = some (.iaload, 1, 0, 0, 0) from rfl) (by decide) rfl (by first | exact oq_52fc8c25 g12 g11 hps4.1 | omega) (show y < 24 by first | exact oq_7fdb8aa6 hps4.2 | omega) (by decide) ?_
        have b13 : (0 : Int) ≤ iC s6 51 (y).toNat ∧ iC s6 51 (y).toNat ≤ 5 := Is6.2 51 _ (show (y).toNat < 24 by first | exact oq_138251d6 hps4.2 | omega)
        exact N9 _ (Or.inl ⟨g11, g12, b13, rfl⟩)
      ·
        refine z_aload_n X (x := A 0) (show cdA 163 51 = some (.aload_n 0, 1, 0, 0, 0) from rfl) (List.Mem.head _) ?_
        refine s_getR X 0 (show cdA 163 52 = some (.getfield 71, 3, 11, 7, 0) from rfl) (by decide) rfl rfl ?_
        refine z_getI X 54 (show cdA 163 55 = some (.getfield 297, 3, 4, 13, 0) from rfl) (by decide) rfl rfl ?_
        have b14 : (0 : Int) ≤ iI s6 35 ∧ iI s6 35 ≤ 23 := Is6.1 35
        refine z_goto X (t := 70) (show cdA 163 58 = some (.goto 12, 3, 0, 0, 0) from rfl) (by decide) ?_
        exact N9 _ (Or.inr (Or.inl ⟨g11, g12, b14, rfl⟩))
    ·
      refine z_aload_n X (x := A 0) (show cdA 163 35 = some (.aload_n 0, 1, 0, 0, 0) from rfl) (List.Mem.head _) ?_
      refine s_getR X 0 (show cdA 163 36 = some (.getfield 71, 3, 11, 7, 0) from rfl) (by decide) rfl rfl ?_
      refine z_getI X 54 (show cdA 163 39 = some (.getfield 294, 3, 4, 12, 0) from rfl) (by decide) rfl rfl ?_
      have b15 : ((-2147483648) : Int) ≤ iI s6 34 ∧ iI s6 34 ≤ 2147483647 := Is6.1 34
      refine z_goto X (t := 70) (show cdA 163 42 = some (.goto 28, 3, 0, 0, 0) from rfl) (by decide) ?_
      exact N9 _ (Or.inr (Or.inr (⟨g11, b15, rfl⟩)))
  ·
    refine z_const X (show cdA 163 28 = some (.iconst (-1), 1, 0, 0, 0) from rfl) ?_
    exact w_iret X.1 q hRt rfl (ax_d X (show cdA 163 29 = some (.ireturn, 1, 0, 0, 0) from rfl)) (show (1 + 1) ≤ 2 by omega) (show (6 + 6) ≤ 12 by omega) ⟨_, rfl, Is6, Gs6, Or.inl ⟨(-1), rfl, (by decide), trivial⟩⟩
set_option maxRecDepth 4000 in
theorem cs_hours (G : GX l s0 D tys a0 dT) (I : Bd s) {x y : Int} (p0 : rng x) (p1 : rng y) : CT l s0 D A dT 164 (rmN 164) [.ref (A 0), .int (Int32.ofInt x), .int (Int32.ofInt y)] s (fun o t => Bd t ∧ Fm [36, 37] [] s t ∧ ((∃ e, o = .inl (some (.int (Int32.ofInt e))) ∧ rng e ∧ (True)) ∨ ∃ x : Nat, o = .inr (exN x) ∧ (x = 0))) := by
  refine ct_ofX G (by decide) (Nat.le_of_ble_eq_true rfl) (fun k X E ET hRt hXt q => ?_)
  show WS k 0 [(0, .ref (A 0)), (1, .int (Int32.ofInt x)), (2, .int (Int32.ofInt y))] [] _ 0 0
  have F : Fm [36, 37] [] s s := fm_rf _ _ s
  refine z_aload_n X (x := A 0) (show cdA 164 0 = some (.aload_n 0, 1, 0, 0, 0) from rfl) (List.Mem.head _) ?_
  refine z_load_n X (x := x) (show cdA 164 1 = some (.iload_n 1, 1, 0, 0, 0) from rfl) (List.Mem.tail _ (List.Mem.head _)) ?_
  refine z_const X (show cdA 164 2 = some (.iconst 0, 1, 0, 0, 0) from rfl) ?_
  refine z_const X (show cdA 164 3 = some (.iconst 1, 1, 0, 0, 0) from rfl) ?_
  refine z_callV X 0 (rm := rmN 184) (As := [.int (Int32.ofInt x), .int (Int32.ofInt 0), .int (Int32.ofInt 1)]) (st := []) (show cdA 164 4 = some (.invokevirtual 151, 3, 184, 0, 0) from rfl) rfl (by decide) rfl (by rw [E.1, E.2.1, E.2.2.1]; exact cs_needWithin G I (by first | exact ⟨p0.1, p0.2⟩ | omega) (by first | exact ⟨by decide, by decide⟩ | omega) (by first | exact ⟨by decide, by decide⟩ | omega)) ⟨by rw [E.2.2.2]; exact (show (rmN 184).frames + 1 ≤ (rmN 164).frames by decide), by rw [E.2.2.2]; exact (show 8 + (mNL (miB 184) + 11) + (rmN 184).locals ≤ (rmN 164).locals by decide), by rw [E.2.2.2]; exact (show 0 + 1 ≤ 2 by omega), by rw [E.2.2.2]; exact (show 0 + 6 ≤ 12 by omega)⟩ (Nat.le_of_ble_eq_true rfl) (fun vv s1 hq => ?_) (fun ee s1 hq => ?_)
  rotate_left
  · obtain ⟨Is1, Fs1, (⟨hv, hps1⟩ | ⟨xx, hv, hps1⟩)⟩ := hq
    · cases hv
    · cases hv
      have Gs1 := fm_ts F Fs1 (by decide) (by decide)
      exact x_out X.1 q (fun x hx => (hXt x hx).elim) (show 1 ≤ 2 by omega) (show 6 ≤ 12 by omega) ⟨_, rfl, Is1, Gs1, Or.inr ⟨xx, rfl, by omega⟩⟩
  obtain ⟨Is1, Fs1, (⟨hv, hps1⟩ | ⟨xx, hv, hps1⟩)⟩ := hq
  rotate_left
  · cases hv
  cases hv
  have Gs1 := fm_ts F Fs1 (by decide) (by decide)
  show WS k 7 [(0, .ref (A 0)), (1, .int (Int32.ofInt x)), (2, .int (Int32.ofInt y))] [] (Wd A dT s1) 1 6
  refine z_aload_n X (x := A 0) (show cdA 164 7 = some (.aload_n 0, 1, 0, 0, 0) from rfl) (List.Mem.head _) ?_
  refine z_load_n X (x := y) (show cdA 164 8 = some (.iload_n 2, 1, 0, 0, 0) from rfl) (List.Mem.tail _ (List.Mem.tail _ (List.Mem.head _))) ?_
  refine z_const X (show cdA 164 9 = some (.iconst 1, 1, 0, 0, 0) from rfl) ?_
  refine z_load_n X (x := x) (show cdA 164 10 = some (.iload_n 1, 1, 0, 0, 0) from rfl) (List.Mem.tail _ (List.Mem.head _)) ?_
  have N3 : ∀ e4 : Int, (((x ≠ 0) ∧ e4 = 8) ∨ ((x = 0) ∧ e4 = 24)) → WS k 21 [(0, .ref (A 0)), (1, .int (Int32.ofInt x)), (2, .int (Int32.ofInt y))] [.int (Int32.ofInt e4), .int (Int32.ofInt 1), .int (Int32.ofInt y), .ref (A 0)] (Wd A dT s1) 1 6 := by
    intro e4 he4
    have re4 : 8 ≤ e4 ∧ e4 ≤ 24 := by omega
    refine z_callV X 0 (rm := rmN 184) (As := [.int (Int32.ofInt y), .int (Int32.ofInt 1), .int (Int32.ofInt e4)]) (st := []) (show cdA 164 21 = some (.invokevirtual 151, 3, 184, 0, 0) from rfl) rfl (by decide) rfl (by rw [E.1, E.2.1, E.2.2.1]; exact cs_needWithin G Is1 (by first | exact ⟨p1.1, p1.2⟩ | omega) (by first | exact ⟨by decide, by decide⟩ | omega) (by first | exact ⟨oq_ebc40354 re4.1, oq_5bcd337f re4.2⟩ | omega)) ⟨by rw [E.2.2.2]; exact (show (rmN 184).frames + 1 ≤ (rmN 164).frames by decide), by rw [E.2.2.2]; exact (show 8 + (mNL (miB 184) + 11) + (rmN 184).locals ≤ (rmN 164).locals by decide), by rw [E.2.2.2]; exact (show 1 + 1 ≤ 2 by omega), by rw [E.2.2.2]; exact (show 6 + 6 ≤ 12 by omega)⟩ (Nat.le_of_ble_eq_true rfl) (fun vv s5 hq => ?_) (fun ee s5 hq => ?_)
    rotate_left
    · obtain ⟨Is5, Fs5, (⟨hv, hps5⟩ | ⟨xx, hv, hps5⟩)⟩ := hq
      · cases hv
      · cases hv
        have Gs5 := fm_ts Gs1 Fs5 (by decide) (by decide)
        exact x_out X.1 q (fun x hx => (hXt x hx).elim) (show (1 + 1) ≤ 2 by omega) (show (6 + 6) ≤ 12 by omega) ⟨_, rfl, Is5, Gs5, Or.inr ⟨xx, rfl, by omega⟩⟩
    obtain ⟨Is5, Fs5, (⟨hv, hps5⟩ | ⟨xx, hv, hps5⟩)⟩ := hq
    rotate_left
    · cases hv
    cases hv
    have Gs5 := fm_ts Gs1 Fs5 (by decide) (by decide)
    show WS k 24 [(0, .ref (A 0)), (1, .int (Int32.ofInt x)), (2, .int (Int32.ofInt y))] [] (Wd A dT s5) (1 + 1) (6 + 6)
    refine z_load_n X (x := x) (show cdA 164 24 = some (.iload_n 1, 1, 0, 0, 0) from rfl) (List.Mem.tail _ (List.Mem.head _)) ?_
    refine z_if_ne X (t := 39) (show cdA 164 25 = some (.ifCond .ne 14, 3, 1, 0, 0) from rfl) (by decide) ⟨by first | exact p0.1 | omega, by first | exact p0.2 | omega⟩ (fun g7 => ?_) (fun g7 => ?_)
    ·
      refine z_aload_n X (x := A 0) (show cdA 164 39 = some (.aload_n 0, 1, 0, 0, 0) from rfl) (List.Mem.head _) ?_
      refine s_getR X 0 (show cdA 164 40 = some (.getfield 80, 3, 11, 8, 0) from rfl) (by decide) rfl rfl ?_
      refine z_load_n X (x := y) (show cdA 164 43 = some (.iload_n 2, 1, 0, 0, 0) from rfl) (List.Mem.tail _ (List.Mem.tail _ (List.Mem.head _))) ?_
      refine z_callV X 61 (rm := rmN 61) (As := [.int (Int32.ofInt y)]) (st := []) (show cdA 164 44 = some (.invokevirtual 306, 3, 61, 0, 0) from rfl) rfl (by decide) rfl (by rw [E.1, E.2.1, E.2.2.1]; exact c6_setRest_61 G Is5 (by first | exact ⟨hps5.1, oq_06ae99d7 g7 hps5.2 he4 hps1.1⟩ | omega)) ⟨by rw [E.2.2.2]; exact (show (rmN 61).frames + 1 ≤ (rmN 164).frames by decide), by rw [E.2.2.2]; exact (show 8 + (mNL (miB 61) + 11) + (rmN 61).locals ≤ (rmN 164).locals by decide), by rw [E.2.2.2]; exact (show (1 + 1) + 0 ≤ 2 by omega), by rw [E.2.2.2]; exact (show (6 + 6) + 0 ≤ 12 by omega)⟩ (Nat.le_of_ble_eq_true rfl) (fun vv s8 hq => ?_) (fun ee s8 hq => ?_)
      rotate_left
      · obtain ⟨Is8, Fs8, e9, hv, hrs8, hps8⟩ := hq; cases hv
      obtain ⟨Is8, Fs8, e9, hv, hrs8, hps8⟩ := hq
      cases hv
      have Gs8 := fm_ts Gs5 Fs8 (by decide) (by decide)
      show WS k 47 [(0, .ref (A 0)), (1, .int (Int32.ofInt x)), (2, .int (Int32.ofInt y))] [.int (Int32.ofInt e9)] (Wd A dT s8) (1 + 1) (6 + 6)
      exact w_iret X.1 q hRt rfl (ax_d X (show cdA 164 47 = some (.ireturn, 1, 0, 0, 0) from rfl)) (show (1 + 1) ≤ 2 by omega) (show (6 + 6) ≤ 12 by omega) ⟨_, rfl, Is8, Gs8, Or.inl ⟨e9, rfl, hrs8, trivial⟩⟩
    ·
      refine z_aload_n X (x := A 0) (show cdA 164 28 = some (.aload_n 0, 1, 0, 0, 0) from rfl) (List.Mem.head _) ?_
      refine s_getR X 0 (show cdA 164 29 = some (.getfield 80, 3, 11, 8, 0) from rfl) (by decide) rfl rfl ?_
      refine z_load_n X (x := y) (show cdA 164 32 = some (.iload_n 2, 1, 0, 0, 0) from rfl) (List.Mem.tail _ (List.Mem.tail _ (List.Mem.head _))) ?_
      refine z_callV X 61 (rm := rmN 60) (As := [.int (Int32.ofInt y)]) (st := []) (show cdA 164 33 = some (.invokevirtual 303, 3, 60, 0, 0) from rfl) rfl (by decide) rfl (by rw [E.1, E.2.1, E.2.2.1]; exact c6_setWork_61 G Is5 (by first | exact ⟨hps5.1, oq_9a71296a hps5.2 re4.2⟩ | omega)) ⟨by rw [E.2.2.2]; exact (show (rmN 60).frames + 1 ≤ (rmN 164).frames by decide), by rw [E.2.2.2]; exact (show 8 + (mNL (miB 60) + 11) + (rmN 60).locals ≤ (rmN 164).locals by decide), by rw [E.2.2.2]; exact (show (1 + 1) + 0 ≤ 2 by omega), by rw [E.2.2.2]; exact (show (6 + 6) + 0 ≤ 12 by omega)⟩ (Nat.le_of_ble_eq_true rfl) (fun vv s10 hq => ?_) (fun ee s10 hq => ?_)
      rotate_left
      · obtain ⟨Is10, Fs10, e11, hv, hrs10, hps10⟩ := hq; cases hv
      obtain ⟨Is10, Fs10, e11, hv, hrs10, hps10⟩ := hq
      cases hv
      have Gs10 := fm_ts Gs5 Fs10 (by decide) (by decide)
      show WS k 36 [(0, .ref (A 0)), (1, .int (Int32.ofInt x)), (2, .int (Int32.ofInt y))] [.int (Int32.ofInt e11)] (Wd A dT s10) (1 + 1) (6 + 6)
      refine z_goto X (t := 47) (show cdA 164 36 = some (.goto 11, 3, 0, 0, 0) from rfl) (by decide) ?_
      exact w_iret X.1 q hRt rfl (ax_d X (show cdA 164 47 = some (.ireturn, 1, 0, 0, 0) from rfl)) (show (1 + 1) ≤ 2 by omega) (show (6 + 6) ≤ 12 by omega) ⟨_, rfl, Is10, Gs10, Or.inl ⟨e11, rfl, hrs10, trivial⟩⟩
  refine z_if_ne X (t := 19) (show cdA 164 11 = some (.ifCond .ne 8, 3, 1, 0, 0) from rfl) (by decide) ⟨by first | exact p0.1 | omega, by first | exact p0.2 | omega⟩ (fun g12 => ?_) (fun g12 => ?_)
  ·
    refine z_bipush X (show cdA 164 19 = some (.bipush 8, 2, 0, 0, 8) from rfl) ?_
    exact N3 _ (Or.inl ⟨g12, rfl⟩)
  ·
    refine z_bipush X (show cdA 164 14 = some (.bipush 24, 2, 0, 0, 24) from rfl) ?_
    refine z_goto X (t := 21) (show cdA 164 16 = some (.goto 5, 3, 0, 0, 0) from rfl) (by decide) ?_
    exact N3 _ (Or.inr (⟨g12, rfl⟩))
set_option maxRecDepth 4000 in
theorem cs_ill (G : GX l s0 D tys a0 dT) (I : Bd s) {x y : Int} (p0 : rng x) (p1 : rng y) : CT l s0 D A dT 165 (rmN 165) [.ref (A 0), .int (Int32.ofInt x), .int (Int32.ofInt y)] s (fun o t => Bd t ∧ Fm [] [52] s t ∧ ((∃ e, o = .inl (some (.int (Int32.ofInt e))) ∧ rng e ∧ (True)) ∨ ∃ x : Nat, o = .inr (exN x) ∧ (x = 0 ∨ x = 2))) := by
  refine ct_ofX G (by decide) (Nat.le_of_ble_eq_true rfl) (fun k X E ET hRt hXt q => ?_)
  show WS k 0 [(0, .ref (A 0)), (1, .int (Int32.ofInt x)), (2, .int (Int32.ofInt y))] [] _ 0 0
  have F : Fm [] [52] s s := fm_rf _ _ s
  refine z_load_n X (x := x) (show cdA 165 0 = some (.iload_n 1, 1, 0, 0, 0) from rfl) (List.Mem.tail _ (List.Mem.head _)) ?_
  refine z_if_lt X (t := 10) (show cdA 165 1 = some (.ifCond .lt 9, 3, 2, 0, 0) from rfl) (by decide) ⟨by first | exact p0.1 | omega, by first | exact p0.2 | omega⟩ (fun g1 => ?_) (fun g1 => ?_)
  ·
    exact z_throw G X E ET hXt q (st := []) (show cdA 165 10 = some (.new 309, 3, 2, 2, 0) from rfl) (by decide) (by decide) (Nat.le_of_ble_eq_true rfl) (show 0 + 1 ≤ 2 by omega) (show 0 + 6 ≤ 12 by omega) (show 0 + 1 ≤ 2 by omega) (show 0 + 6 ≤ 12 by omega) ⟨_, rfl, I, F, Or.inr ⟨2, rfl, by omega⟩⟩
  ·
    refine z_load_n X (x := x) (show cdA 165 4 = some (.iload_n 1, 1, 0, 0, 0) from rfl) (List.Mem.tail _ (List.Mem.head _)) ?_
    refine z_bipush X (show cdA 165 5 = some (.bipush 8, 2, 0, 0, 8) from rfl) ?_
    refine z_icmp_lt X (t := 21) (show cdA 165 7 = some (.if_icmp .lt 14, 3, 2, 0, 0) from rfl) (by decide) ⟨by first | exact p0.1 | omega, by first | exact p0.2 | omega⟩ (by decide) (fun g2 => ?_) (fun g2 => ?_)
    ·
      refine z_aload_n X (x := A 0) (show cdA 165 21 = some (.aload_n 0, 1, 0, 0, 0) from rfl) (List.Mem.head _) ?_
      refine z_load_n X (x := y) (show cdA 165 22 = some (.iload_n 2, 1, 0, 0, 0) from rfl) (List.Mem.tail _ (List.Mem.tail _ (List.Mem.head _))) ?_
      refine z_const X (show cdA 165 23 = some (.iconst 0, 1, 0, 0, 0) from rfl) ?_
      refine z_bipush X (show cdA 165 24 = some (.bipush 24, 2, 0, 0, 24) from rfl) ?_
      refine z_callV X 0 (rm := rmN 184) (As := [.int (Int32.ofInt y), .int (Int32.ofInt 0), .int (Int32.ofInt 24)]) (st := []) (show cdA 165 26 = some (.invokevirtual 151, 3, 184, 0, 0) from rfl) rfl (by decide) rfl (by rw [E.1, E.2.1, E.2.2.1]; exact cs_needWithin G I (by first | exact ⟨p1.1, p1.2⟩ | omega) (by first | exact ⟨by decide, by decide⟩ | omega) (by first | exact ⟨by decide, by decide⟩ | omega)) ⟨by rw [E.2.2.2]; exact (show (rmN 184).frames + 1 ≤ (rmN 165).frames by decide), by rw [E.2.2.2]; exact (show 8 + (mNL (miB 184) + 11) + (rmN 184).locals ≤ (rmN 165).locals by decide), by rw [E.2.2.2]; exact (show 0 + 1 ≤ 2 by omega), by rw [E.2.2.2]; exact (show 0 + 6 ≤ 12 by omega)⟩ (Nat.le_of_ble_eq_true rfl) (fun vv s3 hq => ?_) (fun ee s3 hq => ?_)
      rotate_left
      · obtain ⟨Is3, Fs3, (⟨hv, hps3⟩ | ⟨xx, hv, hps3⟩)⟩ := hq
        · cases hv
        · cases hv
          have Gs3 := fm_ts F Fs3 (by decide) (by decide)
          exact x_out X.1 q (fun x hx => (hXt x hx).elim) (show 1 ≤ 2 by omega) (show 6 ≤ 12 by omega) ⟨_, rfl, Is3, Gs3, Or.inr ⟨xx, rfl, by omega⟩⟩
      obtain ⟨Is3, Fs3, (⟨hv, hps3⟩ | ⟨xx, hv, hps3⟩)⟩ := hq
      rotate_left
      · cases hv
      cases hv
      have Gs3 := fm_ts F Fs3 (by decide) (by decide)
      show WS k 29 [(0, .ref (A 0)), (1, .int (Int32.ofInt x)), (2, .int (Int32.ofInt y))] [] (Wd A dT s3) 1 6
      refine z_aload_n X (x := A 0) (show cdA 165 29 = some (.aload_n 0, 1, 0, 0, 0) from rfl) (List.Mem.head _) ?_
      refine s_getR X 0 (show cdA 165 30 = some (.getfield 80, 3, 11, 8, 0) from rfl) (by decide) rfl rfl ?_
      refine s_getR X 61 (show cdA 165 33 = some (.getfield 314, 3, 6, 3, 0) from rfl) (by decide) rfl rfl ?_
      refine z_load_n X (x := x) (show cdA 165 36 = some (.iload_n 1, 1, 0, 0, 0) from rfl) (List.Mem.tail _ (List.Mem.head _)) ?_
      refine z_ald X 62 (show cdA 165 37 = some (.iaload, 1, 0, 0, 0) from rfl) (by decide) rfl (by first | exact g1 | omega) (show x < 8 by first | exact g2 | omega) (by decide) ?_
      have b5 : (0 : Int) ≤ iC s3 52 (x).toNat ∧ iC s3 52 (x).toNat ≤ 24 := Is3.2 52 _ (show (x).toNat < 8 by first | exact oq_db4b3b8b g2 | omega)
      refine z_store_n X (lv' := [(3, .int (Int32.ofInt (iC s3 52 (x).toNat))), (0, .ref (A 0)), (1, .int (Int32.ofInt x)), (2, .int (Int32.ofInt y))]) (show cdA 165 38 = some (.istore_n 3, 1, 0, 0, 0) from rfl) (by decide) (fun _ h => h) ?_
      refine z_aload_n X (x := A 0) (show cdA 165 39 = some (.aload_n 0, 1, 0, 0, 0) from rfl) (List.Mem.tail _ (List.Mem.head _)) ?_
      refine s_getR X 0 (show cdA 165 40 = some (.getfield 80, 3, 11, 8, 0) from rfl) (by decide) rfl rfl ?_
      refine s_getR X 61 (show cdA 165 43 = some (.getfield 314, 3, 6, 3, 0) from rfl) (by decide) rfl rfl ?_
      refine z_load_n X (x := x) (show cdA 165 46 = some (.iload_n 1, 1, 0, 0, 0) from rfl) (List.Mem.tail _ (List.Mem.tail _ (List.Mem.head _))) ?_
      refine z_load_n X (x := y) (show cdA 165 47 = some (.iload_n 2, 1, 0, 0, 0) from rfl) (List.Mem.tail _ (List.Mem.tail _ (List.Mem.tail _ (List.Mem.head _)))) ?_
      refine z_ast X 62 (show cdA 165 48 = some (.iastore, 1, 0, 0, 0) from rfl) (by decide) rfl (by first | exact g1 | omega) (show x < 8 by first | exact g2 | omega) (by decide) ?_
      obtain ⟨s6, hs6⟩ : ∃ x0, x0 = uC s3 52 (x).toNat (Int32.ofInt y) := ⟨_, rfl⟩
      rw [← hs6]
      have Is6 : Bd s6 := by rw [hs6]; exact bd_C Is3 (show (0 : Int) ≤ y ∧ y ≤ 24 by first | exact ⟨hps3.1, hps3.2⟩ | omega) ⟨by first | exact p1.1 | omega, by first | exact p1.2 | omega⟩
      have Fs6 := fm_C (i := (x).toNat) (x := Int32.ofInt y) Gs3 (show 52 ∈ _ by decide)
      rw [← hs6] at Fs6
      refine z_load_n X (x := (iC s3 52 (x).toNat)) (show cdA 165 49 = some (.iload_n 3, 1, 0, 0, 0) from rfl) (List.Mem.head _) ?_
      exact w_iret X.1 q hRt rfl (ax_d X (show cdA 165 50 = some (.ireturn, 1, 0, 0, 0) from rfl)) (show 1 ≤ 2 by omega) (show 6 ≤ 12 by omega) ⟨_, rfl, Is6, Fs6, Or.inl ⟨(iC s3 52 (x).toNat), rfl, (rng_to _), trivial⟩⟩
    ·
      exact z_throw G X E ET hXt q (st := []) (show cdA 165 10 = some (.new 309, 3, 2, 2, 0) from rfl) (by decide) (by decide) (Nat.le_of_ble_eq_true rfl) (show 0 + 1 ≤ 2 by omega) (show 0 + 6 ≤ 12 by omega) (show 0 + 1 ≤ 2 by omega) (show 0 + 6 ≤ 12 by omega) ⟨_, rfl, I, F, Or.inr ⟨2, rfl, by omega⟩⟩
set_option maxRecDepth 4000 in
theorem cs_rota (G : GX l s0 D tys a0 dT) (I : Bd s) {x y z : Int} (p0 : rng x) (p1 : rng y) (p2 : rng z) (p3 : iI s 12 ≤ 8) : CT l s0 D A dT 166 (rmN 166) [.ref (A 0), .int (Int32.ofInt x), .int (Int32.ofInt y), .int (Int32.ofInt z)] s (fun o t => Bd t ∧ Fm [22, 23, 24, 34, 35, 38] [33, 26, 27, 28, 29, 30, 31, 32, 20, 48, 47, 49, 50, 51, 53, 54, 55, 56] s t ∧ ((∃ e, o = .inl (some (.int (Int32.ofInt e))) ∧ rng e ∧ (True)) ∨ ∃ x : Nat, o = .inr (exN x) ∧ (x = 0))) := by
  refine ct_ofX G (by decide) (Nat.le_of_ble_eq_true rfl) (fun k X E ET hRt hXt q => ?_)
  show WS k 0 [(0, .ref (A 0)), (1, .int (Int32.ofInt x)), (2, .int (Int32.ofInt y)), (3, .int (Int32.ofInt z))] [] _ 0 0
  have F : Fm [22, 23, 24, 34, 35, 38] [33, 26, 27, 28, 29, 30, 31, 32, 20, 48, 47, 49, 50, 51, 53, 54, 55, 56] s s := fm_rf _ _ s
  have b1 : (0 : Int) ≤ iI s 12 ∧ iI s 12 ≤ 9 := I.1 12
  refine z_aload_n X (x := A 0) (show cdA 166 0 = some (.aload_n 0, 1, 0, 0, 0) from rfl) (List.Mem.head _) ?_
  refine z_load_n X (x := x) (show cdA 166 1 = some (.iload_n 1, 1, 0, 0, 0) from rfl) (List.Mem.tail _ (List.Mem.head _)) ?_
  refine z_const X (show cdA 166 2 = some (.iconst 1, 1, 0, 0, 0) from rfl) ?_
  refine z_bipush X (show cdA 166 3 = some (.bipush 8, 2, 0, 0, 8) from rfl) ?_
  refine z_callV X 0 (rm := rmN 184) (As := [.int (Int32.ofInt x), .int (Int32.ofInt 1), .int (Int32.ofInt 8)]) (st := []) (show cdA 166 5 = some (.invokevirtual 151, 3, 184, 0, 0) from rfl) rfl (by decide) rfl (by rw [E.1, E.2.1, E.2.2.1]; exact cs_needWithin G I (by first | exact ⟨p0.1, p0.2⟩ | omega) (by first | exact ⟨by decide, by decide⟩ | omega) (by first | exact ⟨by decide, by decide⟩ | omega)) ⟨by rw [E.2.2.2]; exact (show (rmN 184).frames + 1 ≤ (rmN 166).frames by decide), by rw [E.2.2.2]; exact (show 8 + (mNL (miB 184) + 11) + (rmN 184).locals ≤ (rmN 166).locals by decide), by rw [E.2.2.2]; exact (show 0 + 1 ≤ 3 by omega), by rw [E.2.2.2]; exact (show 0 + 6 ≤ 18 by omega)⟩ (Nat.le_of_ble_eq_true rfl) (fun vv s2 hq => ?_) (fun ee s2 hq => ?_)
  rotate_left
  · obtain ⟨Is2, Fs2, (⟨hv, hps2⟩ | ⟨xx, hv, hps2⟩)⟩ := hq
    · cases hv
    · cases hv
      have Gs2 := fm_ts F Fs2 (by decide) (by decide)
      have ws2_12 : iI s2 12 = iI s 12 := fm_i Fs2 (by decide)
      exact x_out X.1 q (fun x hx => (hXt x hx).elim) (show 1 ≤ 3 by omega) (show 6 ≤ 18 by omega) ⟨_, rfl, Is2, Gs2, Or.inr ⟨xx, rfl, by omega⟩⟩
  obtain ⟨Is2, Fs2, (⟨hv, hps2⟩ | ⟨xx, hv, hps2⟩)⟩ := hq
  rotate_left
  · cases hv
  cases hv
  have Gs2 := fm_ts F Fs2 (by decide) (by decide)
  have ws2_12 : iI s2 12 = iI s 12 := fm_i Fs2 (by decide)
  show WS k 8 [(0, .ref (A 0)), (1, .int (Int32.ofInt x)), (2, .int (Int32.ofInt y)), (3, .int (Int32.ofInt z))] [] (Wd A dT s2) 1 6
  refine z_aload_n X (x := A 0) (show cdA 166 8 = some (.aload_n 0, 1, 0, 0, 0) from rfl) (List.Mem.head _) ?_
  refine z_load_n X (x := y) (show cdA 166 9 = some (.iload_n 2, 1, 0, 0, 0) from rfl) (List.Mem.tail _ (List.Mem.tail _ (List.Mem.head _))) ?_
  refine z_const X (show cdA 166 10 = some (.iconst 0, 1, 0, 0, 0) from rfl) ?_
  refine z_bipush X (show cdA 166 11 = some (.bipush 23, 2, 0, 0, 23) from rfl) ?_
  refine z_callV X 0 (rm := rmN 184) (As := [.int (Int32.ofInt y), .int (Int32.ofInt 0), .int (Int32.ofInt 23)]) (st := []) (show cdA 166 13 = some (.invokevirtual 151, 3, 184, 0, 0) from rfl) rfl (by decide) rfl (by rw [E.1, E.2.1, E.2.2.1]; exact cs_needWithin G Is2 (by first | exact ⟨p1.1, p1.2⟩ | omega) (by first | exact ⟨by decide, by decide⟩ | omega) (by first | exact ⟨by decide, by decide⟩ | omega)) ⟨by rw [E.2.2.2]; exact (show (rmN 184).frames + 1 ≤ (rmN 166).frames by decide), by rw [E.2.2.2]; exact (show 8 + (mNL (miB 184) + 11) + (rmN 184).locals ≤ (rmN 166).locals by decide), by rw [E.2.2.2]; exact (show 1 + 1 ≤ 3 by omega), by rw [E.2.2.2]; exact (show 6 + 6 ≤ 18 by omega)⟩ (Nat.le_of_ble_eq_true rfl) (fun vv s4 hq => ?_) (fun ee s4 hq => ?_)
  rotate_left
  · obtain ⟨Is4, Fs4, (⟨hv, hps4⟩ | ⟨xx, hv, hps4⟩)⟩ := hq
    · cases hv
    · cases hv
      have Gs4 := fm_ts Gs2 Fs4 (by decide) (by decide)
      have ws4_12 : iI s4 12 = iI s2 12 := fm_i Fs4 (by decide)
      exact x_out X.1 q (fun x hx => (hXt x hx).elim) (show (1 + 1) ≤ 3 by omega) (show (6 + 6) ≤ 18 by omega) ⟨_, rfl, Is4, Gs4, Or.inr ⟨xx, rfl, by omega⟩⟩
  obtain ⟨Is4, Fs4, (⟨hv, hps4⟩ | ⟨xx, hv, hps4⟩)⟩ := hq
  rotate_left
  · cases hv
  cases hv
  have Gs4 := fm_ts Gs2 Fs4 (by decide) (by decide)
  have ws4_12 : iI s4 12 = iI s2 12 := fm_i Fs4 (by decide)
  show WS k 16 [(0, .ref (A 0)), (1, .int (Int32.ofInt x)), (2, .int (Int32.ofInt y)), (3, .int (Int32.ofInt z))] [] (Wd A dT s4) (1 + 1) (6 + 6)
  refine z_aload_n X (x := A 0) (show cdA 166 16 = some (.aload_n 0, 1, 0, 0, 0) from rfl) (List.Mem.head _) ?_
  refine z_load_n X (x := z) (show cdA 166 17 = some (.iload_n 3, 1, 0, 0, 0) from rfl) (List.Mem.tail _ (List.Mem.tail _ (List.Mem.tail _ (List.Mem.head _)))) ?_
  refine z_callV X 0 (rm := rmN 183) (As := [.int (Int32.ofInt z)]) (st := []) (show cdA 166 18 = some (.invokevirtual 148, 3, 183, 0, 0) from rfl) rfl (by decide) rfl (by rw [E.1, E.2.1, E.2.2.1]; exact cs_needQuarter G Is4 (by first | exact ⟨p2.1, p2.2⟩ | omega)) ⟨by rw [E.2.2.2]; exact (show (rmN 183).frames + 1 ≤ (rmN 166).frames by decide), by rw [E.2.2.2]; exact (show 8 + (mNL (miB 183) + 11) + (rmN 183).locals ≤ (rmN 166).locals by decide), by rw [E.2.2.2]; exact (show (1 + 1) + 1 ≤ 3 by omega), by rw [E.2.2.2]; exact (show (6 + 6) + 6 ≤ 18 by omega)⟩ (Nat.le_of_ble_eq_true rfl) (fun vv s6 hq => ?_) (fun ee s6 hq => ?_)
  rotate_left
  · obtain ⟨Is6, Fs6, (⟨hv, hps6⟩ | ⟨xx, hv, hps6⟩)⟩ := hq
    · cases hv
    · cases hv
      have Gs6 := fm_ts Gs4 Fs6 (by decide) (by decide)
      have ws6_12 : iI s6 12 = iI s4 12 := fm_i Fs6 (by decide)
      exact x_out X.1 q (fun x hx => (hXt x hx).elim) (show ((1 + 1) + 1) ≤ 3 by omega) (show ((6 + 6) + 6) ≤ 18 by omega) ⟨_, rfl, Is6, Gs6, Or.inr ⟨xx, rfl, by omega⟩⟩
  obtain ⟨Is6, Fs6, (⟨hv, hps6⟩ | ⟨xx, hv, hps6⟩)⟩ := hq
  rotate_left
  · cases hv
  cases hv
  have Gs6 := fm_ts Gs4 Fs6 (by decide) (by decide)
  have ws6_12 : iI s6 12 = iI s4 12 := fm_i Fs6 (by decide)
  show WS k 21 [(0, .ref (A 0)), (1, .int (Int32.ofInt x)), (2, .int (Int32.ofInt y)), (3, .int (Int32.ofInt z))] [] (Wd A dT s6) ((1 + 1) + 1) ((6 + 6) + 6)
  refine z_aload_n X (x := A 0) (show cdA 166 21 = some (.aload_n 0, 1, 0, 0, 0) from rfl) (List.Mem.head _) ?_
  refine s_getR X 0 (show cdA 166 22 = some (.getfield 71, 3, 11, 7, 0) from rfl) (by decide) rfl rfl ?_
  refine z_load_n X (x := y) (show cdA 166 25 = some (.iload_n 2, 1, 0, 0, 0) from rfl) (List.Mem.tail _ (List.Mem.tail _ (List.Mem.head _))) ?_
  refine z_callV X 54 (rm := rmN 48) (As := [.int (Int32.ofInt y)]) (st := []) (show cdA 166 26 = some (.invokevirtual 293, 3, 48, 0, 0) from rfl) rfl (by decide) rfl (by rw [E.1, E.2.1, E.2.2.1]; exact c4_solve_54 G Is6 (by first | exact ⟨hps4.1, hps4.2⟩ | omega) (by first | exact oq_e14d47df ws6_12 ws4_12 ws2_12 p3 | omega)) ⟨by rw [E.2.2.2]; exact (show (rmN 48).frames + 1 ≤ (rmN 166).frames by decide), by rw [E.2.2.2]; exact (show 8 + (mNL (miB 48) + 11) + (rmN 48).locals ≤ (rmN 166).locals by decide), by rw [E.2.2.2]; exact (show ((1 + 1) + 1) + 0 ≤ 3 by omega), by rw [E.2.2.2]; exact (show ((6 + 6) + 6) + 0 ≤ 18 by omega)⟩ (Nat.le_of_ble_eq_true rfl) (fun vv s8 hq => ?_) (fun ee s8 hq => ?_)
  rotate_left
  · obtain ⟨Is8, Fs8, e9, hv, hrs8, hps8⟩ := hq; cases hv
  obtain ⟨Is8, Fs8, e9, hv, hrs8, hps8⟩ := hq
  cases hv
  have Gs8 := fm_ts Gs6 Fs8 (by decide) (by decide)
  have ws8_12 : iI s8 12 = iI s6 12 := fm_i Fs8 (by decide)
  show WS k 29 [(0, .ref (A 0)), (1, .int (Int32.ofInt x)), (2, .int (Int32.ofInt y)), (3, .int (Int32.ofInt z))] [.int (Int32.ofInt e9)] (Wd A dT s8) ((1 + 1) + 1) ((6 + 6) + 6)
  refine z_if_ne X (t := 34) (show cdA 166 29 = some (.ifCond .ne 5, 3, 1, 0, 0) from rfl) (by decide) hrs8 (fun g10 => ?_) (fun g10 => ?_)
  ·
    refine z_aload_n X (x := A 0) (show cdA 166 34 = some (.aload_n 0, 1, 0, 0, 0) from rfl) (List.Mem.head _) ?_
    refine s_getR X 0 (show cdA 166 35 = some (.getfield 80, 3, 11, 8, 0) from rfl) (by decide) rfl rfl ?_
    refine z_load_n X (x := x) (show cdA 166 38 = some (.iload_n 1, 1, 0, 0, 0) from rfl) (List.Mem.tail _ (List.Mem.head _)) ?_
    refine z_callV X 61 (rm := rmN 62) (As := [.int (Int32.ofInt x)]) (st := []) (show cdA 166 39 = some (.invokevirtual 317, 3, 62, 0, 0) from rfl) rfl (by decide) rfl (by rw [E.1, E.2.1, E.2.2.1]; exact c6_run_61 G Is8 (by first | exact ⟨hps2.1, hps2.2⟩ | omega)) ⟨by rw [E.2.2.2]; exact (show (rmN 62).frames + 1 ≤ (rmN 166).frames by decide), by rw [E.2.2.2]; exact (show 8 + (mNL (miB 62) + 11) + (rmN 62).locals ≤ (rmN 166).locals by decide), by rw [E.2.2.2]; exact (show ((1 + 1) + 1) + 0 ≤ 3 by omega), by rw [E.2.2.2]; exact (show ((6 + 6) + 6) + 0 ≤ 18 by omega)⟩ (Nat.le_of_ble_eq_true rfl) (fun vv s11 hq => ?_) (fun ee s11 hq => ?_)
    rotate_left
    · obtain ⟨Is11, Fs11, hv, hps11⟩ := hq; cases hv
    obtain ⟨Is11, Fs11, hv, hps11⟩ := hq
    cases hv
    have Gs11 := fm_ts Gs8 Fs11 (by decide) (by decide)
    have ws11_12 : iI s11 12 = iI s8 12 := fm_i Fs11 (by decide)
    show WS k 42 [(0, .ref (A 0)), (1, .int (Int32.ofInt x)), (2, .int (Int32.ofInt y)), (3, .int (Int32.ofInt z))] [] (Wd A dT s11) ((1 + 1) + 1) ((6 + 6) + 6)
    refine z_aload_n X (x := A 0) (show cdA 166 42 = some (.aload_n 0, 1, 0, 0, 0) from rfl) (List.Mem.head _) ?_
    refine s_getR X 0 (show cdA 166 43 = some (.getfield 80, 3, 11, 8, 0) from rfl) (by decide) rfl rfl ?_
    refine s_getR X 61 (show cdA 166 46 = some (.getfield 320, 3, 6, 7, 0) from rfl) (by decide) rfl rfl ?_
    refine z_load_n X (x := z) (show cdA 166 49 = some (.iload_n 3, 1, 0, 0, 0) from rfl) (List.Mem.tail _ (List.Mem.tail _ (List.Mem.tail _ (List.Mem.head _)))) ?_
    refine z_ald X 66 (show cdA 166 50 = some (.iaload, 1, 0, 0, 0) from rfl) (by decide) rfl (by first | exact hps6.1 | omega) (show z < 24 by first | exact oq_7fdb8aa6 hps6.2 | omega) (by decide) ?_
    have b13 : ((-2147483648) : Int) ≤ iC s11 56 (z).toNat ∧ iC s11 56 (z).toNat ≤ 2147483647 := Is11.2 56 _ (show (z).toNat < 24 by first | exact oq_138251d6 hps6.2 | omega)
    exact w_iret X.1 q hRt rfl (ax_d X (show cdA 166 51 = some (.ireturn, 1, 0, 0, 0) from rfl)) (show ((1 + 1) + 1) ≤ 3 by omega) (show ((6 + 6) + 6) ≤ 18 by omega) ⟨_, rfl, Is11, Gs11, Or.inl ⟨(iC s11 56 (z).toNat), rfl, (rng_to _), trivial⟩⟩
  ·
    refine z_const X (show cdA 166 32 = some (.iconst (-1), 1, 0, 0, 0) from rfl) ?_
    exact w_iret X.1 q hRt rfl (ax_d X (show cdA 166 33 = some (.ireturn, 1, 0, 0, 0) from rfl)) (show ((1 + 1) + 1) ≤ 3 by omega) (show ((6 + 6) + 6) ≤ 18 by omega) ⟨_, rfl, Is8, Gs8, Or.inl ⟨(-1), rfl, (by decide), trivial⟩⟩
set_option maxRecDepth 4000 in
theorem cs_lacks (G : GX l s0 D tys a0 dT) (I : Bd s) {x y : Int} (p0 : rng x) (p1 : rng y) (p2 : iI s 12 ≤ 8) : CT l s0 D A dT 167 (rmN 167) [.ref (A 0), .int (Int32.ofInt x), .int (Int32.ofInt y)] s (fun o t => Bd t ∧ Fm [22, 23, 24, 34, 35, 38] [33, 26, 27, 28, 29, 30, 31, 32, 20, 48, 47, 49, 50, 51, 53, 54, 55, 56] s t ∧ ((∃ e, o = .inl (some (.int (Int32.ofInt e))) ∧ rng e ∧ (True)) ∨ ∃ x : Nat, o = .inr (exN x) ∧ (x = 0))) := by
  refine ct_ofX G (by decide) (Nat.le_of_ble_eq_true rfl) (fun k X E ET hRt hXt q => ?_)
  show WS k 0 [(0, .ref (A 0)), (1, .int (Int32.ofInt x)), (2, .int (Int32.ofInt y))] [] _ 0 0
  have F : Fm [22, 23, 24, 34, 35, 38] [33, 26, 27, 28, 29, 30, 31, 32, 20, 48, 47, 49, 50, 51, 53, 54, 55, 56] s s := fm_rf _ _ s
  have b1 : (0 : Int) ≤ iI s 12 ∧ iI s 12 ≤ 9 := I.1 12
  refine z_aload_n X (x := A 0) (show cdA 167 0 = some (.aload_n 0, 1, 0, 0, 0) from rfl) (List.Mem.head _) ?_
  refine z_load_n X (x := x) (show cdA 167 1 = some (.iload_n 1, 1, 0, 0, 0) from rfl) (List.Mem.tail _ (List.Mem.head _)) ?_
  refine z_const X (show cdA 167 2 = some (.iconst 1, 1, 0, 0, 0) from rfl) ?_
  refine z_bipush X (show cdA 167 3 = some (.bipush 8, 2, 0, 0, 8) from rfl) ?_
  refine z_callV X 0 (rm := rmN 184) (As := [.int (Int32.ofInt x), .int (Int32.ofInt 1), .int (Int32.ofInt 8)]) (st := []) (show cdA 167 5 = some (.invokevirtual 151, 3, 184, 0, 0) from rfl) rfl (by decide) rfl (by rw [E.1, E.2.1, E.2.2.1]; exact cs_needWithin G I (by first | exact ⟨p0.1, p0.2⟩ | omega) (by first | exact ⟨by decide, by decide⟩ | omega) (by first | exact ⟨by decide, by decide⟩ | omega)) ⟨by rw [E.2.2.2]; exact (show (rmN 184).frames + 1 ≤ (rmN 167).frames by decide), by rw [E.2.2.2]; exact (show 8 + (mNL (miB 184) + 11) + (rmN 184).locals ≤ (rmN 167).locals by decide), by rw [E.2.2.2]; exact (show 0 + 1 ≤ 2 by omega), by rw [E.2.2.2]; exact (show 0 + 6 ≤ 12 by omega)⟩ (Nat.le_of_ble_eq_true rfl) (fun vv s2 hq => ?_) (fun ee s2 hq => ?_)
  rotate_left
  · obtain ⟨Is2, Fs2, (⟨hv, hps2⟩ | ⟨xx, hv, hps2⟩)⟩ := hq
    · cases hv
    · cases hv
      have Gs2 := fm_ts F Fs2 (by decide) (by decide)
      have ws2_12 : iI s2 12 = iI s 12 := fm_i Fs2 (by decide)
      exact x_out X.1 q (fun x hx => (hXt x hx).elim) (show 1 ≤ 2 by omega) (show 6 ≤ 12 by omega) ⟨_, rfl, Is2, Gs2, Or.inr ⟨xx, rfl, by omega⟩⟩
  obtain ⟨Is2, Fs2, (⟨hv, hps2⟩ | ⟨xx, hv, hps2⟩)⟩ := hq
  rotate_left
  · cases hv
  cases hv
  have Gs2 := fm_ts F Fs2 (by decide) (by decide)
  have ws2_12 : iI s2 12 = iI s 12 := fm_i Fs2 (by decide)
  show WS k 8 [(0, .ref (A 0)), (1, .int (Int32.ofInt x)), (2, .int (Int32.ofInt y))] [] (Wd A dT s2) 1 6
  refine z_aload_n X (x := A 0) (show cdA 167 8 = some (.aload_n 0, 1, 0, 0, 0) from rfl) (List.Mem.head _) ?_
  refine z_load_n X (x := y) (show cdA 167 9 = some (.iload_n 2, 1, 0, 0, 0) from rfl) (List.Mem.tail _ (List.Mem.tail _ (List.Mem.head _))) ?_
  refine z_const X (show cdA 167 10 = some (.iconst 0, 1, 0, 0, 0) from rfl) ?_
  refine z_bipush X (show cdA 167 11 = some (.bipush 23, 2, 0, 0, 23) from rfl) ?_
  refine z_callV X 0 (rm := rmN 184) (As := [.int (Int32.ofInt y), .int (Int32.ofInt 0), .int (Int32.ofInt 23)]) (st := []) (show cdA 167 13 = some (.invokevirtual 151, 3, 184, 0, 0) from rfl) rfl (by decide) rfl (by rw [E.1, E.2.1, E.2.2.1]; exact cs_needWithin G Is2 (by first | exact ⟨p1.1, p1.2⟩ | omega) (by first | exact ⟨by decide, by decide⟩ | omega) (by first | exact ⟨by decide, by decide⟩ | omega)) ⟨by rw [E.2.2.2]; exact (show (rmN 184).frames + 1 ≤ (rmN 167).frames by decide), by rw [E.2.2.2]; exact (show 8 + (mNL (miB 184) + 11) + (rmN 184).locals ≤ (rmN 167).locals by decide), by rw [E.2.2.2]; exact (show 1 + 1 ≤ 2 by omega), by rw [E.2.2.2]; exact (show 6 + 6 ≤ 12 by omega)⟩ (Nat.le_of_ble_eq_true rfl) (fun vv s4 hq => ?_) (fun ee s4 hq => ?_)
  rotate_left
  · obtain ⟨Is4, Fs4, (⟨hv, hps4⟩ | ⟨xx, hv, hps4⟩)⟩ := hq
    · cases hv
    · cases hv
      have Gs4 := fm_ts Gs2 Fs4 (by decide) (by decide)
      have ws4_12 : iI s4 12 = iI s2 12 := fm_i Fs4 (by decide)
      exact x_out X.1 q (fun x hx => (hXt x hx).elim) (show (1 + 1) ≤ 2 by omega) (show (6 + 6) ≤ 12 by omega) ⟨_, rfl, Is4, Gs4, Or.inr ⟨xx, rfl, by omega⟩⟩
  obtain ⟨Is4, Fs4, (⟨hv, hps4⟩ | ⟨xx, hv, hps4⟩)⟩ := hq
  rotate_left
  · cases hv
  cases hv
  have Gs4 := fm_ts Gs2 Fs4 (by decide) (by decide)
  have ws4_12 : iI s4 12 = iI s2 12 := fm_i Fs4 (by decide)
  show WS k 16 [(0, .ref (A 0)), (1, .int (Int32.ofInt x)), (2, .int (Int32.ofInt y))] [] (Wd A dT s4) (1 + 1) (6 + 6)
  refine z_aload_n X (x := A 0) (show cdA 167 16 = some (.aload_n 0, 1, 0, 0, 0) from rfl) (List.Mem.head _) ?_
  refine s_getR X 0 (show cdA 167 17 = some (.getfield 71, 3, 11, 7, 0) from rfl) (by decide) rfl rfl ?_
  refine z_load_n X (x := y) (show cdA 167 20 = some (.iload_n 2, 1, 0, 0, 0) from rfl) (List.Mem.tail _ (List.Mem.tail _ (List.Mem.head _))) ?_
  refine z_callV X 54 (rm := rmN 48) (As := [.int (Int32.ofInt y)]) (st := []) (show cdA 167 21 = some (.invokevirtual 293, 3, 48, 0, 0) from rfl) rfl (by decide) rfl (by rw [E.1, E.2.1, E.2.2.1]; exact c4_solve_54 G Is4 (by first | exact ⟨hps4.1, hps4.2⟩ | omega) (by first | exact oq_d7ce4408 ws4_12 ws2_12 p2 | omega)) ⟨by rw [E.2.2.2]; exact (show (rmN 48).frames + 1 ≤ (rmN 167).frames by decide), by rw [E.2.2.2]; exact (show 8 + (mNL (miB 48) + 11) + (rmN 48).locals ≤ (rmN 167).locals by decide), by rw [E.2.2.2]; exact (show (1 + 1) + 0 ≤ 2 by omega), by rw [E.2.2.2]; exact (show (6 + 6) + 0 ≤ 12 by omega)⟩ (Nat.le_of_ble_eq_true rfl) (fun vv s6 hq => ?_) (fun ee s6 hq => ?_)
  rotate_left
  · obtain ⟨Is6, Fs6, e7, hv, hrs6, hps6⟩ := hq; cases hv
  obtain ⟨Is6, Fs6, e7, hv, hrs6, hps6⟩ := hq
  cases hv
  have Gs6 := fm_ts Gs4 Fs6 (by decide) (by decide)
  have ws6_12 : iI s6 12 = iI s4 12 := fm_i Fs6 (by decide)
  show WS k 24 [(0, .ref (A 0)), (1, .int (Int32.ofInt x)), (2, .int (Int32.ofInt y))] [.int (Int32.ofInt e7)] (Wd A dT s6) (1 + 1) (6 + 6)
  refine z_if_ne X (t := 29) (show cdA 167 24 = some (.ifCond .ne 5, 3, 1, 0, 0) from rfl) (by decide) hrs6 (fun g8 => ?_) (fun g8 => ?_)
  ·
    refine z_aload_n X (x := A 0) (show cdA 167 29 = some (.aload_n 0, 1, 0, 0, 0) from rfl) (List.Mem.head _) ?_
    refine s_getR X 0 (show cdA 167 30 = some (.getfield 80, 3, 11, 8, 0) from rfl) (by decide) rfl rfl ?_
    refine z_load_n X (x := x) (show cdA 167 33 = some (.iload_n 1, 1, 0, 0, 0) from rfl) (List.Mem.tail _ (List.Mem.head _)) ?_
    refine z_callV X 61 (rm := rmN 62) (As := [.int (Int32.ofInt x)]) (st := []) (show cdA 167 34 = some (.invokevirtual 317, 3, 62, 0, 0) from rfl) rfl (by decide) rfl (by rw [E.1, E.2.1, E.2.2.1]; exact c6_run_61 G Is6 (by first | exact ⟨hps2.1, hps2.2⟩ | omega)) ⟨by rw [E.2.2.2]; exact (show (rmN 62).frames + 1 ≤ (rmN 167).frames by decide), by rw [E.2.2.2]; exact (show 8 + (mNL (miB 62) + 11) + (rmN 62).locals ≤ (rmN 167).locals by decide), by rw [E.2.2.2]; exact (show (1 + 1) + 0 ≤ 2 by omega), by rw [E.2.2.2]; exact (show (6 + 6) + 0 ≤ 12 by omega)⟩ (Nat.le_of_ble_eq_true rfl) (fun vv s9 hq => ?_) (fun ee s9 hq => ?_)
    rotate_left
    · obtain ⟨Is9, Fs9, hv, hps9⟩ := hq; cases hv
    obtain ⟨Is9, Fs9, hv, hps9⟩ := hq
    cases hv
    have Gs9 := fm_ts Gs6 Fs9 (by decide) (by decide)
    have ws9_12 : iI s9 12 = iI s6 12 := fm_i Fs9 (by decide)
    show WS k 37 [(0, .ref (A 0)), (1, .int (Int32.ofInt x)), (2, .int (Int32.ofInt y))] [] (Wd A dT s9) (1 + 1) (6 + 6)
    refine z_aload_n X (x := A 0) (show cdA 167 37 = some (.aload_n 0, 1, 0, 0, 0) from rfl) (List.Mem.head _) ?_
    refine s_getR X 0 (show cdA 167 38 = some (.getfield 80, 3, 11, 8, 0) from rfl) (by decide) rfl rfl ?_
    refine z_getI X 61 (show cdA 167 41 = some (.getfield 323, 3, 6, 8, 0) from rfl) (by decide) rfl rfl ?_
    have b11 : ((-2147483648) : Int) ≤ iI s9 38 ∧ iI s9 38 ≤ 2147483647 := Is9.1 38
    exact w_iret X.1 q hRt rfl (ax_d X (show cdA 167 44 = some (.ireturn, 1, 0, 0, 0) from rfl)) (show (1 + 1) ≤ 2 by omega) (show (6 + 6) ≤ 12 by omega) ⟨_, rfl, Is9, Gs9, Or.inl ⟨(iI s9 38), rfl, (rng_to _), trivial⟩⟩
  ·
    refine z_const X (show cdA 167 27 = some (.iconst (-1), 1, 0, 0, 0) from rfl) ?_
    exact w_iret X.1 q hRt rfl (ax_d X (show cdA 167 28 = some (.ireturn, 1, 0, 0, 0) from rfl)) (show (1 + 1) ≤ 2 by omega) (show (6 + 6) ≤ 12 by omega) ⟨_, rfl, Is6, Gs6, Or.inl ⟨(-1), rfl, (by decide), trivial⟩⟩
set_option maxRecDepth 4000 in
theorem cs_enough (G : GX l s0 D tys a0 dT) (I : Bd s) {x : Int} (p0 : rng x) (p1 : iI s 12 ≤ 8) : CT l s0 D A dT 168 (rmN 168) [.ref (A 0), .int (Int32.ofInt x)] s (fun o t => Bd t ∧ Fm [22, 23, 24, 34, 35, 38] [33, 26, 27, 28, 29, 30, 31, 32, 20, 48, 47, 49, 50, 51, 53, 54, 55, 56] s t ∧ ((∃ e, o = .inl (some (.int (Int32.ofInt e))) ∧ rng e ∧ (True)) ∨ ∃ x : Nat, o = .inr (exN x) ∧ (x = 0))) := by
  refine ct_ofX G (by decide) (Nat.le_of_ble_eq_true rfl) (fun k X E ET hRt hXt q => ?_)
  show WS k 0 [(0, .ref (A 0)), (1, .int (Int32.ofInt x))] [] _ 0 0
  have F : Fm [22, 23, 24, 34, 35, 38] [33, 26, 27, 28, 29, 30, 31, 32, 20, 48, 47, 49, 50, 51, 53, 54, 55, 56] s s := fm_rf _ _ s
  have b1 : (0 : Int) ≤ iI s 12 ∧ iI s 12 ≤ 9 := I.1 12
  have L23 : ∀ (n : Nat) (t : PS) (c : Int), Bd t → Fm [22, 23, 24, 34, 35, 38] [33, 26, 27, 28, 29, 30, 31, 32, 20, 48, 47, 49, 50, 51, 53, 54, 55, 56] s t → (1 ≤ c ∧ c ≤ 9) → (9 - c : Int).toNat < n → (∀ (t' : PS) (c' : Int), Bd t' → Fm [22, 23, 24, 34, 35, 38] [33, 26, 27, 28, 29, 30, 31, 32, 20, 48, 47, 49, 50, 51, 53, 54, 55, 56] s t' → (1 ≤ c' ∧ c' ≤ 9) → WS k 55 [(0, .ref (A 0)), (2, .int (Int32.ofInt c'))] [] (Wd A dT t') 1 6) → WS k 23 [(0, .ref (A 0)), (2, .int (Int32.ofInt c))] [] (Wd A dT t) 1 6 := by
    intro n
    induction n with
    | zero =>
      intro t c I F hi hm kx
      exact absurd hm (Nat.not_lt_zero _)
    | succ n ih =>
      intro t c I F hi hm kx
      have b1001 : (0 : Int) ≤ iI t 12 ∧ iI t 12 ≤ 9 := I.1 12
      refine z_load_n X (x := c) (show cdA 168 23 = some (.iload_n 2, 1, 0, 0, 0) from rfl) (List.Mem.tail _ (List.Mem.head _)) ?_
      refine z_bipush X (show cdA 168 24 = some (.bipush 8, 2, 0, 0, 8) from rfl) ?_
      refine z_icmp_gt X (t := 55) (show cdA 168 26 = some (.if_icmp .gt 29, 3, 4, 0, 0) from rfl) (by decide) ⟨by first | exact oq_9462313e hi.1 | omega, by first | exact oq_f7e7bb0e hi.2 | omega⟩ (by decide) (fun g1002 => ?_) (fun g1002 => ?_)
      ·
        refine WS_lv (lv := [(0, .ref (A 0)), (2, .int (Int32.ofInt c))]) (List.forall_mem_cons.mpr ⟨(List.Mem.head _), (List.forall_mem_cons.mpr ⟨(List.Mem.tail _ (List.Mem.head _)), (fun q h => absurd h List.not_mem_nil)⟩)⟩) ?_
        exact kx _ c I F (by first | exact ⟨hi.1, hi.2⟩ | omega)
      ·
        refine z_aload_n X (x := A 0) (show cdA 168 29 = some (.aload_n 0, 1, 0, 0, 0) from rfl) (List.Mem.head _) ?_
        refine s_getR X 0 (show cdA 168 30 = some (.getfield 80, 3, 11, 8, 0) from rfl) (by decide) rfl rfl ?_
        refine z_load_n X (x := c) (show cdA 168 33 = some (.iload_n 2, 1, 0, 0, 0) from rfl) (List.Mem.tail _ (List.Mem.head _)) ?_
        refine z_callV X 61 (rm := rmN 62) (As := [.int (Int32.ofInt c)]) (st := []) (show cdA 168 34 = some (.invokevirtual 317, 3, 62, 0, 0) from rfl) rfl (by decide) rfl (by rw [E.1, E.2.1, E.2.2.1]; exact c6_run_61 G I (by first | exact ⟨hi.1, g1002⟩ | omega)) ⟨by rw [E.2.2.2]; exact (show (rmN 62).frames + 1 ≤ (rmN 168).frames by decide), by rw [E.2.2.2]; exact (show 8 + (mNL (miB 62) + 11) + (rmN 62).locals ≤ (rmN 168).locals by decide), by rw [E.2.2.2]; exact (show 1 + 0 ≤ 1 by omega), by rw [E.2.2.2]; exact (show 6 + 0 ≤ 6 by omega)⟩ (Nat.le_of_ble_eq_true rfl) (fun vv s1003 hq => ?_) (fun ee s1003 hq => ?_)
        rotate_left
        · obtain ⟨Is1003, Fs1003, hv, hps1003⟩ := hq; cases hv
        obtain ⟨Is1003, Fs1003, hv, hps1003⟩ := hq
        cases hv
        have Gs1003 := fm_ts F Fs1003 (by decide) (by decide)
        have ws1003_12 : iI s1003 12 = iI t 12 := fm_i Fs1003 (by decide)
        show WS k 37 [(0, .ref (A 0)), (2, .int (Int32.ofInt c))] [] (Wd A dT s1003) 1 6
        refine z_aload_n X (x := A 0) (show cdA 168 37 = some (.aload_n 0, 1, 0, 0, 0) from rfl) (List.Mem.head _) ?_
        refine s_getR X 0 (show cdA 168 38 = some (.getfield 80, 3, 11, 8, 0) from rfl) (by decide) rfl rfl ?_
        refine z_getI X 61 (show cdA 168 41 = some (.getfield 323, 3, 6, 8, 0) from rfl) (by decide) rfl rfl ?_
        have b1005 : ((-2147483648) : Int) ≤ iI s1003 38 ∧ iI s1003 38 ≤ 2147483647 := Is1003.1 38
        refine z_if_ne X (t := 49) (show cdA 168 44 = some (.ifCond .ne 5, 3, 1, 0, 0) from rfl) (by decide) (rng_to _) (fun g1006 => ?_) (fun g1006 => ?_)
        ·
          refine z_inc X (x := c) (lv' := [(2, .int (Int32.ofInt (c + 1))), (0, .ref (A 0))]) (show cdA 168 49 = some (.iinc 2 1, 3, 0, 0, 0) from rfl) (by decide) (List.Mem.tail _ (List.Mem.head _)) (fun _ h => h) ?_
          refine z_goto X (t := 23) (show cdA 168 52 = some (.goto (-29), 3, 0, 0, 0) from rfl) (by decide) ?_
          refine WS_lv (lv := [(0, .ref (A 0)), (2, .int (Int32.ofInt (c + 1)))]) (List.forall_mem_cons.mpr ⟨(List.Mem.tail _ (List.Mem.head _)), (List.forall_mem_cons.mpr ⟨(List.Mem.head _), (fun q h => absurd h List.not_mem_nil)⟩)⟩) ?_
          exact ih _ (c + 1) Is1003 Gs1003 (by first | exact ⟨oq_1e1a2df6 hi.1, oq_c5edd56f g1002⟩ | omega) (by first | exact qk_me hm (by decide) (oq_fa1cb672 g1002) | omega) kx
        ·
          refine z_load_n X (x := c) (show cdA 168 47 = some (.iload_n 2, 1, 0, 0, 0) from rfl) (List.Mem.tail _ (List.Mem.head _)) ?_
          exact w_iret X.1 q hRt rfl (ax_d X (show cdA 168 48 = some (.ireturn, 1, 0, 0, 0) from rfl)) (show 1 ≤ 1 by omega) (show 6 ≤ 6 by omega) ⟨_, rfl, Is1003, Gs1003, Or.inl ⟨c, rfl, ⟨by first | exact oq_9462313e hi.1 | omega, by first | exact oq_d3f5d874 g1002 | omega⟩, trivial⟩⟩
  refine z_aload_n X (x := A 0) (show cdA 168 0 = some (.aload_n 0, 1, 0, 0, 0) from rfl) (List.Mem.head _) ?_
  refine z_load_n X (x := x) (show cdA 168 1 = some (.iload_n 1, 1, 0, 0, 0) from rfl) (List.Mem.tail _ (List.Mem.head _)) ?_
  refine z_const X (show cdA 168 2 = some (.iconst 0, 1, 0, 0, 0) from rfl) ?_
  refine z_bipush X (show cdA 168 3 = some (.bipush 23, 2, 0, 0, 23) from rfl) ?_
  refine z_callV X 0 (rm := rmN 184) (As := [.int (Int32.ofInt x), .int (Int32.ofInt 0), .int (Int32.ofInt 23)]) (st := []) (show cdA 168 5 = some (.invokevirtual 151, 3, 184, 0, 0) from rfl) rfl (by decide) rfl (by rw [E.1, E.2.1, E.2.2.1]; exact cs_needWithin G I (by first | exact ⟨p0.1, p0.2⟩ | omega) (by first | exact ⟨by decide, by decide⟩ | omega) (by first | exact ⟨by decide, by decide⟩ | omega)) ⟨by rw [E.2.2.2]; exact (show (rmN 184).frames + 1 ≤ (rmN 168).frames by decide), by rw [E.2.2.2]; exact (show 8 + (mNL (miB 184) + 11) + (rmN 184).locals ≤ (rmN 168).locals by decide), by rw [E.2.2.2]; exact (show 0 + 1 ≤ 1 by omega), by rw [E.2.2.2]; exact (show 0 + 6 ≤ 6 by omega)⟩ (Nat.le_of_ble_eq_true rfl) (fun vv s2 hq => ?_) (fun ee s2 hq => ?_)
  rotate_left
  · obtain ⟨Is2, Fs2, (⟨hv, hps2⟩ | ⟨xx, hv, hps2⟩)⟩ := hq
    · cases hv
    · cases hv
      have Gs2 := fm_ts F Fs2 (by decide) (by decide)
      have ws2_12 : iI s2 12 = iI s 12 := fm_i Fs2 (by decide)
      exact x_out X.1 q (fun x hx => (hXt x hx).elim) (show 1 ≤ 1 by omega) (show 6 ≤ 6 by omega) ⟨_, rfl, Is2, Gs2, Or.inr ⟨xx, rfl, by omega⟩⟩
  obtain ⟨Is2, Fs2, (⟨hv, hps2⟩ | ⟨xx, hv, hps2⟩)⟩ := hq
  rotate_left
  · cases hv
  cases hv
  have Gs2 := fm_ts F Fs2 (by decide) (by decide)
  have ws2_12 : iI s2 12 = iI s 12 := fm_i Fs2 (by decide)
  show WS k 8 [(0, .ref (A 0)), (1, .int (Int32.ofInt x))] [] (Wd A dT s2) 1 6
  refine z_aload_n X (x := A 0) (show cdA 168 8 = some (.aload_n 0, 1, 0, 0, 0) from rfl) (List.Mem.head _) ?_
  refine s_getR X 0 (show cdA 168 9 = some (.getfield 71, 3, 11, 7, 0) from rfl) (by decide) rfl rfl ?_
  refine z_load_n X (x := x) (show cdA 168 12 = some (.iload_n 1, 1, 0, 0, 0) from rfl) (List.Mem.tail _ (List.Mem.head _)) ?_
  refine z_callV X 54 (rm := rmN 48) (As := [.int (Int32.ofInt x)]) (st := []) (show cdA 168 13 = some (.invokevirtual 293, 3, 48, 0, 0) from rfl) rfl (by decide) rfl (by rw [E.1, E.2.1, E.2.2.1]; exact c4_solve_54 G Is2 (by first | exact ⟨hps2.1, hps2.2⟩ | omega) (by first | exact oq_86ef0b17 ws2_12 p1 | omega)) ⟨by rw [E.2.2.2]; exact (show (rmN 48).frames + 1 ≤ (rmN 168).frames by decide), by rw [E.2.2.2]; exact (show 8 + (mNL (miB 48) + 11) + (rmN 48).locals ≤ (rmN 168).locals by decide), by rw [E.2.2.2]; exact (show 1 + 0 ≤ 1 by omega), by rw [E.2.2.2]; exact (show 6 + 0 ≤ 6 by omega)⟩ (Nat.le_of_ble_eq_true rfl) (fun vv s4 hq => ?_) (fun ee s4 hq => ?_)
  rotate_left
  · obtain ⟨Is4, Fs4, e5, hv, hrs4, hps4⟩ := hq; cases hv
  obtain ⟨Is4, Fs4, e5, hv, hrs4, hps4⟩ := hq
  cases hv
  have Gs4 := fm_ts Gs2 Fs4 (by decide) (by decide)
  have ws4_12 : iI s4 12 = iI s2 12 := fm_i Fs4 (by decide)
  show WS k 16 [(0, .ref (A 0)), (1, .int (Int32.ofInt x))] [.int (Int32.ofInt e5)] (Wd A dT s4) 1 6
  refine z_if_ne X (t := 21) (show cdA 168 16 = some (.ifCond .ne 5, 3, 1, 0, 0) from rfl) (by decide) hrs4 (fun g6 => ?_) (fun g6 => ?_)
  ·
    refine z_const X (show cdA 168 21 = some (.iconst 1, 1, 0, 0, 0) from rfl) ?_
    refine z_store_n X (lv' := [(2, .int (Int32.ofInt 1)), (0, .ref (A 0)), (1, .int (Int32.ofInt x))]) (show cdA 168 22 = some (.istore_n 2, 1, 0, 0, 0) from rfl) (by decide) (fun _ h => h) ?_
    refine WS_lv (lv := [(0, .ref (A 0)), (2, .int (Int32.ofInt 1))]) (List.forall_mem_cons.mpr ⟨(List.Mem.tail _ (List.Mem.head _)), (List.forall_mem_cons.mpr ⟨(List.Mem.head _), (fun q h => absurd h List.not_mem_nil)⟩)⟩) ?_
    refine L23 ((9 - 1 : Int).toNat + 1) s4 1 Is4 Gs4 (by first | exact ⟨by decide, by decide⟩ | omega) (Nat.lt_succ_self _) ?_
    intro s7 x8 Is7 Fs7 hs7
    have b9 : (0 : Int) ≤ iI s7 12 ∧ iI s7 12 ≤ 9 := Is7.1 12
    refine z_const X (show cdA 168 55 = some (.iconst (-1), 1, 0, 0, 0) from rfl) ?_
    exact w_iret X.1 q hRt rfl (ax_d X (show cdA 168 56 = some (.ireturn, 1, 0, 0, 0) from rfl)) (show 1 ≤ 1 by omega) (show 6 ≤ 6 by omega) ⟨_, rfl, Is7, Fs7, Or.inl ⟨(-1), rfl, (by decide), trivial⟩⟩
  ·
    refine z_const X (show cdA 168 19 = some (.iconst (-1), 1, 0, 0, 0) from rfl) ?_
    exact w_iret X.1 q hRt rfl (ax_d X (show cdA 168 20 = some (.ireturn, 1, 0, 0, 0) from rfl)) (show 1 ≤ 1 by omega) (show 6 ≤ 6 by omega) ⟨_, rfl, Is4, Gs4, Or.inl ⟨(-1), rfl, (by decide), trivial⟩⟩
set_option maxRecDepth 4000 in
theorem cs_storm (G : GX l s0 D tys a0 dT) (I : Bd s) {x y : Int} (p0 : rng x) (p1 : y = 0 ∨ y = 1) : CT l s0 D A dT 169 (rmN 169) [.ref (A 0), .int (Int32.ofInt x), .int (Int32.ofInt y)] s (fun o t => Bd t ∧ Fm [1000, 1001] [] s t ∧ ((∃ e, o = .inl (some (.int (Int32.ofInt e))) ∧ rng e ∧ (e = 0 ∨ e = 1)) ∨ ∃ x : Nat, o = .inr (exN x) ∧ (x = 2))) := by
  refine ct_ofX G (by decide) (Nat.le_of_ble_eq_true rfl) (fun k X E ET hRt hXt q => ?_)
  show WS k 0 [(0, .ref (A 0)), (1, .int (Int32.ofInt x)), (2, .int (Int32.ofInt y))] [] _ 0 0
  have F : Fm [1000, 1001] [] s s := fm_rf _ _ s
  refine z_aload_n X (x := A 0) (show cdA 169 0 = some (.aload_n 0, 1, 0, 0, 0) from rfl) (List.Mem.head _) ?_
  refine z_load_n X (x := x) (show cdA 169 1 = some (.iload_n 1, 1, 0, 0, 0) from rfl) (List.Mem.tail _ (List.Mem.head _)) ?_
  refine z_callV X 0 (rm := rmN 181) (As := [.int (Int32.ofInt x)]) (st := []) (show cdA 169 2 = some (.invokevirtual 168, 3, 181, 0, 0) from rfl) rfl (by decide) rfl (by rw [E.1, E.2.1, E.2.2.1]; exact cs_needCell G I (by first | exact ⟨p0.1, p0.2⟩ | omega)) ⟨by rw [E.2.2.2]; exact (show (rmN 181).frames + 1 ≤ (rmN 169).frames by decide), by rw [E.2.2.2]; exact (show 8 + (mNL (miB 181) + 11) + (rmN 181).locals ≤ (rmN 169).locals by decide), by rw [E.2.2.2]; exact (show 0 + 1 ≤ 1 by omega), by rw [E.2.2.2]; exact (show 0 + 6 ≤ 6 by omega)⟩ (Nat.le_of_ble_eq_true rfl) (fun vv s1 hq => ?_) (fun ee s1 hq => ?_)
  rotate_left
  · obtain ⟨Is1, Fs1, (⟨hv, hps1⟩ | ⟨xx, hv, hps1⟩)⟩ := hq
    · cases hv
    · cases hv
      have Gs1 := fm_ts F Fs1 (by decide) (by decide)
      exact x_out X.1 q (fun x hx => (hXt x hx).elim) (show 1 ≤ 1 by omega) (show 6 ≤ 6 by omega) ⟨_, rfl, Is1, Gs1, Or.inr ⟨xx, rfl, by omega⟩⟩
  obtain ⟨Is1, Fs1, (⟨hv, hps1⟩ | ⟨xx, hv, hps1⟩)⟩ := hq
  rotate_left
  · cases hv
  cases hv
  have Gs1 := fm_ts F Fs1 (by decide) (by decide)
  show WS k 5 [(0, .ref (A 0)), (1, .int (Int32.ofInt x)), (2, .int (Int32.ofInt y))] [] (Wd A dT s1) 1 6
  refine z_aload_n X (x := A 0) (show cdA 169 5 = some (.aload_n 0, 1, 0, 0, 0) from rfl) (List.Mem.head _) ?_
  refine s_getR X 0 (show cdA 169 6 = some (.getfield 89, 3, 11, 9, 0) from rfl) (by decide) rfl rfl ?_
  refine z_load_n X (x := x) (show cdA 169 9 = some (.iload_n 1, 1, 0, 0, 0) from rfl) (List.Mem.tail _ (List.Mem.head _)) ?_
  refine z_load_n X (x := y) (show cdA 169 10 = some (.iload_n 2, 1, 0, 0, 0) from rfl) (List.Mem.tail _ (List.Mem.tail _ (List.Mem.head _))) ?_
  refine z_callV X 67 (rm := rmN 87) (As := [.int (Int32.ofInt x), .int (Int32.ofInt y)]) (st := []) (show cdA 169 11 = some (.invokevirtual 326, 3, 87, 0, 0) from rfl) rfl (by decide) rfl (by rw [E.1, E.2.1, E.2.2.1]; exact c8_shut_67 G Is1 (by first | exact ⟨hps1.1, hps1.2⟩ | omega) (by first | exact p1 | omega)) ⟨by rw [E.2.2.2]; exact (show (rmN 87).frames + 1 ≤ (rmN 169).frames by decide), by rw [E.2.2.2]; exact (show 8 + (mNL (miB 87) + 11) + (rmN 87).locals ≤ (rmN 169).locals by decide), by rw [E.2.2.2]; exact (show 1 + 0 ≤ 1 by omega), by rw [E.2.2.2]; exact (show 6 + 0 ≤ 6 by omega)⟩ (Nat.le_of_ble_eq_true rfl) (fun vv s3 hq => ?_) (fun ee s3 hq => ?_)
  rotate_left
  · obtain ⟨Is3, Fs3, e4, hv, hrs3, hps3⟩ := hq; cases hv
  obtain ⟨Is3, Fs3, e4, hv, hrs3, hps3⟩ := hq
  cases hv
  have Gs3 := fm_ts Gs1 Fs3 (by decide) (by decide)
  show WS k 14 [(0, .ref (A 0)), (1, .int (Int32.ofInt x)), (2, .int (Int32.ofInt y))] [.int (Int32.ofInt e4)] (Wd A dT s3) 1 6
  exact w_iret X.1 q hRt (nar_ret (by first | exact hps3 | omega)) (ax_d X (show cdA 169 14 = some (.ireturn, 1, 0, 0, 0) from rfl)) (show 1 ≤ 1 by omega) (show 6 ≤ 6 by omega) ⟨_, rfl, Is3, Gs3, Or.inl ⟨e4, rfl, hrs3, by first | exact hps3 | omega⟩⟩
set_option maxRecDepth 4000 in
theorem cs_did (G : GX l s0 D tys a0 dT) (I : Bd s) {x y z w : Int} (p0 : rng x) (p1 : rng y) (p2 : rng z) (p3 : w = 0 ∨ w = 1) : CT l s0 D A dT 171 (rmN 171) [.ref (A 0), .int (Int32.ofInt x), .int (Int32.ofInt y), .int (Int32.ofInt z), .int (Int32.ofInt w)] s (fun o t => Bd t ∧ Fm [22, 23, 70] [33, 26, 27, 28, 29, 30, 31, 32, 152, 153, 154] s t ∧ ((∃ e, o = .inl (some (.int (Int32.ofInt e))) ∧ rng e ∧ (True)) ∨ ∃ x : Nat, o = .inr (exN x) ∧ (x = 0))) := by
  refine ct_ofX G (by decide) (Nat.le_of_ble_eq_true rfl) (fun k X E ET hRt hXt q => ?_)
  show WS k 0 [(0, .ref (A 0)), (1, .int (Int32.ofInt x)), (2, .int (Int32.ofInt y)), (3, .int (Int32.ofInt z)), (4, .int (Int32.ofInt w))] [] _ 0 0
  have F : Fm [22, 23, 70] [33, 26, 27, 28, 29, 30, 31, 32, 152, 153, 154] s s := fm_rf _ _ s
  have b1 : (0 : Int) ≤ iI s 70 ∧ iI s 70 ≤ 40 := I.1 70
  refine z_aload_n X (x := A 0) (show cdA 171 0 = some (.aload_n 0, 1, 0, 0, 0) from rfl) (List.Mem.head _) ?_
  refine z_load_n X (x := x) (show cdA 171 1 = some (.iload_n 1, 1, 0, 0, 0) from rfl) (List.Mem.tail _ (List.Mem.head _)) ?_
  refine z_callV X 0 (rm := rmN 182) (As := [.int (Int32.ofInt x)]) (st := []) (show cdA 171 2 = some (.invokevirtual 180, 3, 182, 0, 0) from rfl) rfl (by decide) rfl (by rw [E.1, E.2.1, E.2.2.1]; exact cs_needPiece G I (by first | exact ⟨p0.1, p0.2⟩ | omega)) ⟨by rw [E.2.2.2]; exact (show (rmN 182).frames + 1 ≤ (rmN 171).frames by decide), by rw [E.2.2.2]; exact (show 8 + (mNL (miB 182) + 11) + (rmN 182).locals ≤ (rmN 171).locals by decide), by rw [E.2.2.2]; exact (show 0 + 1 ≤ 3 by omega), by rw [E.2.2.2]; exact (show 0 + 6 ≤ 18 by omega)⟩ (Nat.le_of_ble_eq_true rfl) (fun vv s2 hq => ?_) (fun ee s2 hq => ?_)
  rotate_left
  · obtain ⟨Is2, Fs2, (⟨hv, hps2⟩ | ⟨xx, hv, hps2⟩)⟩ := hq
    · cases hv
    · cases hv
      have Gs2 := fm_ts F Fs2 (by decide) (by decide)
      have ws2_70 : iI s2 70 = iI s 70 := fm_i Fs2 (by decide)
      exact x_out X.1 q (fun x hx => (hXt x hx).elim) (show 1 ≤ 3 by omega) (show 6 ≤ 18 by omega) ⟨_, rfl, Is2, Gs2, Or.inr ⟨xx, rfl, by omega⟩⟩
  obtain ⟨Is2, Fs2, (⟨hv, hps2⟩ | ⟨xx, hv, hps2⟩)⟩ := hq
  rotate_left
  · cases hv
  cases hv
  have Gs2 := fm_ts F Fs2 (by decide) (by decide)
  have ws2_70 : iI s2 70 = iI s 70 := fm_i Fs2 (by decide)
  show WS k 5 [(0, .ref (A 0)), (1, .int (Int32.ofInt x)), (2, .int (Int32.ofInt y)), (3, .int (Int32.ofInt z)), (4, .int (Int32.ofInt w))] [] (Wd A dT s2) 1 6
  refine z_aload_n X (x := A 0) (show cdA 171 5 = some (.aload_n 0, 1, 0, 0, 0) from rfl) (List.Mem.head _) ?_
  refine z_load_n X (x := y) (show cdA 171 6 = some (.iload_n 2, 1, 0, 0, 0) from rfl) (List.Mem.tail _ (List.Mem.tail _ (List.Mem.head _))) ?_
  refine z_callV X 0 (rm := rmN 183) (As := [.int (Int32.ofInt y)]) (st := []) (show cdA 171 7 = some (.invokevirtual 148, 3, 183, 0, 0) from rfl) rfl (by decide) rfl (by rw [E.1, E.2.1, E.2.2.1]; exact cs_needQuarter G Is2 (by first | exact ⟨p1.1, p1.2⟩ | omega)) ⟨by rw [E.2.2.2]; exact (show (rmN 183).frames + 1 ≤ (rmN 171).frames by decide), by rw [E.2.2.2]; exact (show 8 + (mNL (miB 183) + 11) + (rmN 183).locals ≤ (rmN 171).locals by decide), by rw [E.2.2.2]; exact (show 1 + 1 ≤ 3 by omega), by rw [E.2.2.2]; exact (show 6 + 6 ≤ 18 by omega)⟩ (Nat.le_of_ble_eq_true rfl) (fun vv s4 hq => ?_) (fun ee s4 hq => ?_)
  rotate_left
  · obtain ⟨Is4, Fs4, (⟨hv, hps4⟩ | ⟨xx, hv, hps4⟩)⟩ := hq
    · cases hv
    · cases hv
      have Gs4 := fm_ts Gs2 Fs4 (by decide) (by decide)
      have ws4_70 : iI s4 70 = iI s2 70 := fm_i Fs4 (by decide)
      exact x_out X.1 q (fun x hx => (hXt x hx).elim) (show (1 + 1) ≤ 3 by omega) (show (6 + 6) ≤ 18 by omega) ⟨_, rfl, Is4, Gs4, Or.inr ⟨xx, rfl, by omega⟩⟩
  obtain ⟨Is4, Fs4, (⟨hv, hps4⟩ | ⟨xx, hv, hps4⟩)⟩ := hq
  rotate_left
  · cases hv
  cases hv
  have Gs4 := fm_ts Gs2 Fs4 (by decide) (by decide)
  have ws4_70 : iI s4 70 = iI s2 70 := fm_i Fs4 (by decide)
  show WS k 10 [(0, .ref (A 0)), (1, .int (Int32.ofInt x)), (2, .int (Int32.ofInt y)), (3, .int (Int32.ofInt z)), (4, .int (Int32.ofInt w))] [] (Wd A dT s4) (1 + 1) (6 + 6)
  refine z_aload_n X (x := A 0) (show cdA 171 10 = some (.aload_n 0, 1, 0, 0, 0) from rfl) (List.Mem.head _) ?_
  refine z_load_n X (x := z) (show cdA 171 11 = some (.iload_n 3, 1, 0, 0, 0) from rfl) (List.Mem.tail _ (List.Mem.tail _ (List.Mem.tail _ (List.Mem.head _)))) ?_
  refine z_const X (show cdA 171 12 = some (.iconst 0, 1, 0, 0, 0) from rfl) ?_
  refine z_sipush X (show cdA 171 13 = some (.sipush 9999, 3, 0, 0, 9999) from rfl) ?_
  refine z_callV X 0 (rm := rmN 184) (As := [.int (Int32.ofInt z), .int (Int32.ofInt 0), .int (Int32.ofInt 9999)]) (st := []) (show cdA 171 16 = some (.invokevirtual 151, 3, 184, 0, 0) from rfl) rfl (by decide) rfl (by rw [E.1, E.2.1, E.2.2.1]; exact cs_needWithin G Is4 (by first | exact ⟨p2.1, p2.2⟩ | omega) (by first | exact ⟨by decide, by decide⟩ | omega) (by first | exact ⟨by decide, by decide⟩ | omega)) ⟨by rw [E.2.2.2]; exact (show (rmN 184).frames + 1 ≤ (rmN 171).frames by decide), by rw [E.2.2.2]; exact (show 8 + (mNL (miB 184) + 11) + (rmN 184).locals ≤ (rmN 171).locals by decide), by rw [E.2.2.2]; exact (show (1 + 1) + 1 ≤ 3 by omega), by rw [E.2.2.2]; exact (show (6 + 6) + 6 ≤ 18 by omega)⟩ (Nat.le_of_ble_eq_true rfl) (fun vv s6 hq => ?_) (fun ee s6 hq => ?_)
  rotate_left
  · obtain ⟨Is6, Fs6, (⟨hv, hps6⟩ | ⟨xx, hv, hps6⟩)⟩ := hq
    · cases hv
    · cases hv
      have Gs6 := fm_ts Gs4 Fs6 (by decide) (by decide)
      have ws6_70 : iI s6 70 = iI s4 70 := fm_i Fs6 (by decide)
      exact x_out X.1 q (fun x hx => (hXt x hx).elim) (show ((1 + 1) + 1) ≤ 3 by omega) (show ((6 + 6) + 6) ≤ 18 by omega) ⟨_, rfl, Is6, Gs6, Or.inr ⟨xx, rfl, by omega⟩⟩
  obtain ⟨Is6, Fs6, (⟨hv, hps6⟩ | ⟨xx, hv, hps6⟩)⟩ := hq
  rotate_left
  · cases hv
  cases hv
  have Gs6 := fm_ts Gs4 Fs6 (by decide) (by decide)
  have ws6_70 : iI s6 70 = iI s4 70 := fm_i Fs6 (by decide)
  show WS k 19 [(0, .ref (A 0)), (1, .int (Int32.ofInt x)), (2, .int (Int32.ofInt y)), (3, .int (Int32.ofInt z)), (4, .int (Int32.ofInt w))] [] (Wd A dT s6) ((1 + 1) + 1) ((6 + 6) + 6)
  refine z_aload_n X (x := A 0) (show cdA 171 19 = some (.aload_n 0, 1, 0, 0, 0) from rfl) (List.Mem.head _) ?_
  refine z_load_n X (x := x) (show cdA 171 20 = some (.iload_n 1, 1, 0, 0, 0) from rfl) (List.Mem.tail _ (List.Mem.head _)) ?_
  refine z_callV X 0 (rm := rmN 179) (As := [.int (Int32.ofInt x)]) (st := []) (show cdA 171 21 = some (.invokevirtual 186, 3, 179, 0, 0) from rfl) rfl (by decide) rfl (by rw [E.1, E.2.1, E.2.2.1]; exact cs_listenTo G Is6 (by first | exact ⟨hps2.1, hps2.2⟩ | omega)) ⟨by rw [E.2.2.2]; exact (show (rmN 179).frames + 1 ≤ (rmN 171).frames by decide), by rw [E.2.2.2]; exact (show 8 + (mNL (miB 179) + 11) + (rmN 179).locals ≤ (rmN 171).locals by decide), by rw [E.2.2.2]; exact (show ((1 + 1) + 1) + 0 ≤ 3 by omega), by rw [E.2.2.2]; exact (show ((6 + 6) + 6) + 0 ≤ 18 by omega)⟩ (Nat.le_of_ble_eq_true rfl) (fun vv s8 hq => ?_) (fun ee s8 hq => ?_)
  rotate_left
  · obtain ⟨Is8, Fs8, hv, hps8⟩ := hq; cases hv
  obtain ⟨Is8, Fs8, hv, hps8⟩ := hq
  cases hv
  have Gs8 := fm_ts Gs6 Fs8 (by decide) (by decide)
  have ws8_70 : iI s8 70 = iI s6 70 := fm_i Fs8 (by decide)
  show WS k 24 [(0, .ref (A 0)), (1, .int (Int32.ofInt x)), (2, .int (Int32.ofInt y)), (3, .int (Int32.ofInt z)), (4, .int (Int32.ofInt w))] [] (Wd A dT s8) ((1 + 1) + 1) ((6 + 6) + 6)
  refine z_aload_n X (x := A 0) (show cdA 171 24 = some (.aload_n 0, 1, 0, 0, 0) from rfl) (List.Mem.head _) ?_
  refine s_getR X 0 (show cdA 171 25 = some (.getfield 44, 3, 11, 4, 0) from rfl) (by decide) rfl rfl ?_
  refine z_load_n X (x := y) (show cdA 171 28 = some (.iload_n 2, 1, 0, 0, 0) from rfl) (List.Mem.tail _ (List.Mem.tail _ (List.Mem.head _))) ?_
  refine z_const X (show cdA 171 29 = some (.iconst (-1), 1, 0, 0, 0) from rfl) ?_
  refine z_callV X 31 (rm := rmN 3) (As := [.int (Int32.ofInt y), .int (Int32.ofInt (-1))]) (st := []) (show cdA 171 30 = some (.invokevirtual 345, 3, 3, 0, 0) from rfl) rfl (by decide) rfl (by rw [E.1, E.2.1, E.2.2.1]; exact c0_hear_31 G Is8 (by first | exact ⟨hps4.1, hps4.2⟩ | omega) (by first | exact ⟨by decide, by decide⟩ | omega)) ⟨by rw [E.2.2.2]; exact (show (rmN 3).frames + 1 ≤ (rmN 171).frames by decide), by rw [E.2.2.2]; exact (show 8 + (mNL (miB 3) + 11) + (rmN 3).locals ≤ (rmN 171).locals by decide), by rw [E.2.2.2]; exact (show ((1 + 1) + 1) + 0 ≤ 3 by omega), by rw [E.2.2.2]; exact (show ((6 + 6) + 6) + 0 ≤ 18 by omega)⟩ (Nat.le_of_ble_eq_true rfl) (fun vv s10 hq => ?_) (fun ee s10 hq => ?_)
  rotate_left
  · obtain ⟨Is10, Fs10, hv, hps10⟩ := hq; cases hv
  obtain ⟨Is10, Fs10, hv, hps10⟩ := hq
  cases hv
  have Gs10 := fm_ts Gs8 Fs10 (by decide) (by decide)
  have ws10_70 : iI s10 70 = iI s8 70 := fm_i Fs10 (by decide)
  show WS k 33 [(0, .ref (A 0)), (1, .int (Int32.ofInt x)), (2, .int (Int32.ofInt y)), (3, .int (Int32.ofInt z)), (4, .int (Int32.ofInt w))] [] (Wd A dT s10) ((1 + 1) + 1) ((6 + 6) + 6)
  refine z_aload_n X (x := A 0) (show cdA 171 33 = some (.aload_n 0, 1, 0, 0, 0) from rfl) (List.Mem.head _) ?_
  refine s_getR X 0 (show cdA 171 34 = some (.getfield 96, 3, 11, 10, 0) from rfl) (by decide) rfl rfl ?_
  refine z_aload_n X (x := A 0) (show cdA 171 37 = some (.aload_n 0, 1, 0, 0, 0) from rfl) (List.Mem.head _) ?_
  refine s_getR X 0 (show cdA 171 38 = some (.getfield 44, 3, 11, 4, 0) from rfl) (by decide) rfl rfl ?_
  refine s_getR X 31 (show cdA 171 41 = some (.getfield 192, 3, 0, 11, 0) from rfl) (by decide) rfl rfl ?_
  refine z_load_n X (x := z) (show cdA 171 44 = some (.iload_n 3, 1, 0, 0, 0) from rfl) (List.Mem.tail _ (List.Mem.tail _ (List.Mem.tail _ (List.Mem.head _)))) ?_
  refine z_load X (x := w) (show cdA 171 45 = some (.iload 4, 2, 0, 0, 0) from rfl) (List.Mem.tail _ (List.Mem.tail _ (List.Mem.tail _ (List.Mem.tail _ (List.Mem.head _))))) ?_
  refine z_callV X 173 (rm := rmN 11) (As := [.ref (A 39), .int (Int32.ofInt z), .int (Int32.ofInt w)]) (st := []) (show cdA 171 47 = some (.invokevirtual 349, 3, 11, 0, 0) from rfl) rfl (by decide) rfl (by rw [E.1, E.2.1, E.2.2.1]; exact c1_add_173 G Is10 (by first | exact ⟨p2.1, p2.2⟩ | omega) (by first | exact p3 | omega)) ⟨by rw [E.2.2.2]; exact (show (rmN 11).frames + 1 ≤ (rmN 171).frames by decide), by rw [E.2.2.2]; exact (show 8 + (mNL (miB 11) + 11) + (rmN 11).locals ≤ (rmN 171).locals by decide), by rw [E.2.2.2]; exact (show ((1 + 1) + 1) + 0 ≤ 3 by omega), by rw [E.2.2.2]; exact (show ((6 + 6) + 6) + 0 ≤ 18 by omega)⟩ (Nat.le_of_ble_eq_true rfl) (fun vv s12 hq => ?_) (fun ee s12 hq => ?_)
  rotate_left
  · obtain ⟨Is12, Fs12, e13, hv, hrs12, hps12⟩ := hq; cases hv
  obtain ⟨Is12, Fs12, e13, hv, hrs12, hps12⟩ := hq
  cases hv
  have Gs12 := fm_ts Gs10 Fs12 (by decide) (by decide)
  have b14 : (0 : Int) ≤ iI s12 70 ∧ iI s12 70 ≤ 40 := Is12.1 70
  show WS k 50 [(0, .ref (A 0)), (1, .int (Int32.ofInt x)), (2, .int (Int32.ofInt y)), (3, .int (Int32.ofInt z)), (4, .int (Int32.ofInt w))] [.int (Int32.ofInt e13)] (Wd A dT s12) ((1 + 1) + 1) ((6 + 6) + 6)
  exact w_iret X.1 q hRt rfl (ax_d X (show cdA 171 50 = some (.ireturn, 1, 0, 0, 0) from rfl)) (show ((1 + 1) + 1) ≤ 3 by omega) (show ((6 + 6) + 6) ≤ 18 by omega) ⟨_, rfl, Is12, Gs12, Or.inl ⟨e13, rfl, hrs12, trivial⟩⟩
set_option maxRecDepth 4000 in
theorem cs_fit (G : GX l s0 D tys a0 dT) (I : Bd s) {x : Int} (p0 : rng x) : CT l s0 D A dT 172 (rmN 172) [.ref (A 0), .int (Int32.ofInt x)] s (fun o t => Bd t ∧ Fm [71, 72] [156, 155] s t ∧ ((∃ e, o = .inl (some (.int (Int32.ofInt e))) ∧ rng e ∧ (True)) ∨ ∃ x : Nat, o = .inr (exN x) ∧ (x = 0))) := by
  refine ct_ofX G (by decide) (Nat.le_of_ble_eq_true rfl) (fun k X E ET hRt hXt q => ?_)
  show WS k 0 [(0, .ref (A 0)), (1, .int (Int32.ofInt x))] [] _ 0 0
  have F : Fm [71, 72] [156, 155] s s := fm_rf _ _ s
  refine z_aload_n X (x := A 0) (show cdA 172 0 = some (.aload_n 0, 1, 0, 0, 0) from rfl) (List.Mem.head _) ?_
  refine z_load_n X (x := x) (show cdA 172 1 = some (.iload_n 1, 1, 0, 0, 0) from rfl) (List.Mem.tail _ (List.Mem.head _)) ?_
  refine z_const X (show cdA 172 2 = some (.iconst 0, 1, 0, 0, 0) from rfl) ?_
  refine z_const X (show cdA 172 3 = some (.iconst 5, 1, 0, 0, 0) from rfl) ?_
  refine z_callV X 0 (rm := rmN 184) (As := [.int (Int32.ofInt x), .int (Int32.ofInt 0), .int (Int32.ofInt 5)]) (st := []) (show cdA 172 4 = some (.invokevirtual 151, 3, 184, 0, 0) from rfl) rfl (by decide) rfl (by rw [E.1, E.2.1, E.2.2.1]; exact cs_needWithin G I (by first | exact ⟨p0.1, p0.2⟩ | omega) (by first | exact ⟨by decide, by decide⟩ | omega) (by first | exact ⟨by decide, by decide⟩ | omega)) ⟨by rw [E.2.2.2]; exact (show (rmN 184).frames + 1 ≤ (rmN 172).frames by decide), by rw [E.2.2.2]; exact (show 8 + (mNL (miB 184) + 11) + (rmN 184).locals ≤ (rmN 172).locals by decide), by rw [E.2.2.2]; exact (show 0 + 1 ≤ 1 by omega), by rw [E.2.2.2]; exact (show 0 + 6 ≤ 6 by omega)⟩ (Nat.le_of_ble_eq_true rfl) (fun vv s1 hq => ?_) (fun ee s1 hq => ?_)
  rotate_left
  · obtain ⟨Is1, Fs1, (⟨hv, hps1⟩ | ⟨xx, hv, hps1⟩)⟩ := hq
    · cases hv
    · cases hv
      have Gs1 := fm_ts F Fs1 (by decide) (by decide)
      exact x_out X.1 q (fun x hx => (hXt x hx).elim) (show 1 ≤ 1 by omega) (show 6 ≤ 6 by omega) ⟨_, rfl, Is1, Gs1, Or.inr ⟨xx, rfl, by omega⟩⟩
  obtain ⟨Is1, Fs1, (⟨hv, hps1⟩ | ⟨xx, hv, hps1⟩)⟩ := hq
  rotate_left
  · cases hv
  cases hv
  have Gs1 := fm_ts F Fs1 (by decide) (by decide)
  show WS k 7 [(0, .ref (A 0)), (1, .int (Int32.ofInt x))] [] (Wd A dT s1) 1 6
  refine z_aload_n X (x := A 0) (show cdA 172 7 = some (.aload_n 0, 1, 0, 0, 0) from rfl) (List.Mem.head _) ?_
  refine s_getR X 0 (show cdA 172 8 = some (.getfield 96, 3, 11, 10, 0) from rfl) (by decide) rfl rfl ?_
  refine z_callV X 173 (rm := rmN 12) (As := []) (st := []) (show cdA 172 11 = some (.invokevirtual 352, 3, 12, 0, 0) from rfl) rfl (by decide) rfl (by rw [E.1, E.2.1, E.2.2.1]; exact c1_solve_173 G Is1 ) ⟨by rw [E.2.2.2]; exact (show (rmN 12).frames + 1 ≤ (rmN 172).frames by decide), by rw [E.2.2.2]; exact (show 8 + (mNL (miB 12) + 11) + (rmN 12).locals ≤ (rmN 172).locals by decide), by rw [E.2.2.2]; exact (show 1 + 0 ≤ 1 by omega), by rw [E.2.2.2]; exact (show 6 + 0 ≤ 6 by omega)⟩ (Nat.le_of_ble_eq_true rfl) (fun vv s3 hq => ?_) (fun ee s3 hq => ?_)
  rotate_left
  · obtain ⟨Is3, Fs3, e4, hv, hrs3, hps3⟩ := hq; cases hv
  obtain ⟨Is3, Fs3, e4, hv, hrs3, hps3⟩ := hq
  cases hv
  have Gs3 := fm_ts Gs1 Fs3 (by decide) (by decide)
  show WS k 14 [(0, .ref (A 0)), (1, .int (Int32.ofInt x))] [.int (Int32.ofInt e4)] (Wd A dT s3) 1 6
  refine z_if_ne X (t := 19) (show cdA 172 14 = some (.ifCond .ne 5, 3, 1, 0, 0) from rfl) (by decide) hrs3 (fun g5 => ?_) (fun g5 => ?_)
  ·
    refine z_load_n X (x := x) (show cdA 172 19 = some (.iload_n 1, 1, 0, 0, 0) from rfl) (List.Mem.tail _ (List.Mem.head _)) ?_
    refine z_const X (show cdA 172 20 = some (.iconst 4, 1, 0, 0, 0) from rfl) ?_
    refine z_icmp_ne X (t := 34) (show cdA 172 21 = some (.if_icmp .ne 13, 3, 1, 0, 0) from rfl) (by decide) ⟨by first | exact p0.1 | omega, by first | exact p0.2 | omega⟩ (by decide) (fun g6 => ?_) (fun g6 => ?_)
    ·
      refine z_load_n X (x := x) (show cdA 172 34 = some (.iload_n 1, 1, 0, 0, 0) from rfl) (List.Mem.tail _ (List.Mem.head _)) ?_
      refine z_const X (show cdA 172 35 = some (.iconst 5, 1, 0, 0, 0) from rfl) ?_
      refine z_icmp_ne X (t := 49) (show cdA 172 36 = some (.if_icmp .ne 13, 3, 1, 0, 0) from rfl) (by decide) ⟨by first | exact p0.1 | omega, by first | exact p0.2 | omega⟩ (by decide) (fun g7 => ?_) (fun g7 => ?_)
      ·
        refine z_aload_n X (x := A 0) (show cdA 172 49 = some (.aload_n 0, 1, 0, 0, 0) from rfl) (List.Mem.head _) ?_
        refine s_getR X 0 (show cdA 172 50 = some (.getfield 96, 3, 11, 10, 0) from rfl) (by decide) rfl rfl ?_
        refine s_getR X 173 (show cdA 172 53 = some (.getfield 360, 3, 1, 5, 0) from rfl) (by decide) rfl rfl ?_
        refine z_load_n X (x := x) (show cdA 172 56 = some (.iload_n 1, 1, 0, 0, 0) from rfl) (List.Mem.tail _ (List.Mem.head _)) ?_
        refine z_ald X 177 (show cdA 172 57 = some (.iaload, 1, 0, 0, 0) from rfl) (by decide) rfl (by first | exact hps1.1 | omega) (show x < 4 by first | exact oq_c7ff8bdb g7 g6 hps1.2 | omega) (by decide) ?_
        have b8 : ((-2147483648) : Int) ≤ iC s3 155 (x).toNat ∧ iC s3 155 (x).toNat ≤ 2147483647 := Is3.2 155 _ (show (x).toNat < 4 by first | exact oq_241c03de g7 g6 hps1.2 | omega)
        exact w_iret X.1 q hRt rfl (ax_d X (show cdA 172 58 = some (.ireturn, 1, 0, 0, 0) from rfl)) (show 1 ≤ 1 by omega) (show 6 ≤ 6 by omega) ⟨_, rfl, Is3, Gs3, Or.inl ⟨(iC s3 155 (x).toNat), rfl, (rng_to _), trivial⟩⟩
      ·
        refine z_aload_n X (x := A 0) (show cdA 172 39 = some (.aload_n 0, 1, 0, 0, 0) from rfl) (List.Mem.head _) ?_
        refine s_getR X 0 (show cdA 172 40 = some (.getfield 96, 3, 11, 10, 0) from rfl) (by decide) rfl rfl ?_
        refine z_callV X 173 (rm := rmN 13) (As := []) (st := []) (show cdA 172 43 = some (.invokevirtual 357, 3, 13, 0, 0) from rfl) rfl (by decide) rfl (by rw [E.1, E.2.1, E.2.2.1]; exact c1_offBack_173 G Is3 ) ⟨by rw [E.2.2.2]; exact (show (rmN 13).frames + 1 ≤ (rmN 172).frames by decide), by rw [E.2.2.2]; exact (show 8 + (mNL (miB 13) + 11) + (rmN 13).locals ≤ (rmN 172).locals by decide), by rw [E.2.2.2]; exact (show 1 + 0 ≤ 1 by omega), by rw [E.2.2.2]; exact (show 6 + 0 ≤ 6 by omega)⟩ (Nat.le_of_ble_eq_true rfl) (fun vv s9 hq => ?_) (fun ee s9 hq => ?_)
        rotate_left
        · obtain ⟨Is9, Fs9, e10, hv, hrs9, hps9⟩ := hq; cases hv
        obtain ⟨Is9, Fs9, e10, hv, hrs9, hps9⟩ := hq
        cases hv
        have Gs9 := fm_ts Gs3 Fs9 (by decide) (by decide)
        show WS k 46 [(0, .ref (A 0)), (1, .int (Int32.ofInt x))] [.int (Int32.ofInt e10)] (Wd A dT s9) 1 6
        refine z_goto X (t := 58) (show cdA 172 46 = some (.goto 12, 3, 0, 0, 0) from rfl) (by decide) ?_
        exact w_iret X.1 q hRt rfl (ax_d X (show cdA 172 58 = some (.ireturn, 1, 0, 0, 0) from rfl)) (show 1 ≤ 1 by omega) (show 6 ≤ 6 by omega) ⟨_, rfl, Is9, Gs9, Or.inl ⟨e10, rfl, hrs9, trivial⟩⟩
    ·
      refine z_aload_n X (x := A 0) (show cdA 172 24 = some (.aload_n 0, 1, 0, 0, 0) from rfl) (List.Mem.head _) ?_
      refine s_getR X 0 (show cdA 172 25 = some (.getfield 96, 3, 11, 10, 0) from rfl) (by decide) rfl rfl ?_
      refine z_getI X 173 (show cdA 172 28 = some (.getfield 354, 3, 1, 7, 0) from rfl) (by decide) rfl rfl ?_
      have b11 : ((-2147483648) : Int) ≤ iI s3 72 ∧ iI s3 72 ≤ 2147483647 := Is3.1 72
      refine z_goto X (t := 58) (show cdA 172 31 = some (.goto 27, 3, 0, 0, 0) from rfl) (by decide) ?_
      exact w_iret X.1 q hRt rfl (ax_d X (show cdA 172 58 = some (.ireturn, 1, 0, 0, 0) from rfl)) (show 1 ≤ 1 by omega) (show 6 ≤ 6 by omega) ⟨_, rfl, Is3, Gs3, Or.inl ⟨(iI s3 72), rfl, (rng_to _), trivial⟩⟩
  ·
    refine z_const X (show cdA 172 17 = some (.iconst (-1), 1, 0, 0, 0) from rfl) ?_
    exact w_iret X.1 q hRt rfl (ax_d X (show cdA 172 18 = some (.ireturn, 1, 0, 0, 0) from rfl)) (show 1 ≤ 1 by omega) (show 6 ≤ 6 by omega) ⟨_, rfl, Is3, Gs3, Or.inl ⟨(-1), rfl, (by decide), trivial⟩⟩
set_option maxRecDepth 4000 in
theorem cs_lead (G : GX l s0 D tys a0 dT) (I : Bd s) {x y z w : Int} (p0 : rng x) (p1 : rng y) (p2 : rng z) (p3 : w = 0 ∨ w = 1) : CT l s0 D A dT 173 (rmN 173) [.ref (A 0), .int (Int32.ofInt x), .int (Int32.ofInt y), .int (Int32.ofInt z), .int (Int32.ofInt w)] s (fun o t => Bd t ∧ Fm [22, 23] [33, 26, 27, 28, 29, 30, 31, 32, 20, 34] s t ∧ ((∃ e, o = .inl (some (.int (Int32.ofInt e))) ∧ rng e ∧ (True)) ∨ ∃ x : Nat, o = .inr (exN x) ∧ (x = 0))) := by
  refine ct_ofX G (by decide) (Nat.le_of_ble_eq_true rfl) (fun k X E ET hRt hXt q => ?_)
  show WS k 0 [(0, .ref (A 0)), (1, .int (Int32.ofInt x)), (2, .int (Int32.ofInt y)), (3, .int (Int32.ofInt z)), (4, .int (Int32.ofInt w))] [] _ 0 0
  have F : Fm [22, 23] [33, 26, 27, 28, 29, 30, 31, 32, 20, 34] s s := fm_rf _ _ s
  refine z_aload_n X (x := A 0) (show cdA 173 0 = some (.aload_n 0, 1, 0, 0, 0) from rfl) (List.Mem.head _) ?_
  refine z_load_n X (x := x) (show cdA 173 1 = some (.iload_n 1, 1, 0, 0, 0) from rfl) (List.Mem.tail _ (List.Mem.head _)) ?_
  refine z_callV X 0 (rm := rmN 182) (As := [.int (Int32.ofInt x)]) (st := []) (show cdA 173 2 = some (.invokevirtual 180, 3, 182, 0, 0) from rfl) rfl (by decide) rfl (by rw [E.1, E.2.1, E.2.2.1]; exact cs_needPiece G I (by first | exact ⟨p0.1, p0.2⟩ | omega)) ⟨by rw [E.2.2.2]; exact (show (rmN 182).frames + 1 ≤ (rmN 173).frames by decide), by rw [E.2.2.2]; exact (show 8 + (mNL (miB 182) + 11) + (rmN 182).locals ≤ (rmN 173).locals by decide), by rw [E.2.2.2]; exact (show 0 + 1 ≤ 2 by omega), by rw [E.2.2.2]; exact (show 0 + 6 ≤ 12 by omega)⟩ (Nat.le_of_ble_eq_true rfl) (fun vv s1 hq => ?_) (fun ee s1 hq => ?_)
  rotate_left
  · obtain ⟨Is1, Fs1, (⟨hv, hps1⟩ | ⟨xx, hv, hps1⟩)⟩ := hq
    · cases hv
    · cases hv
      have Gs1 := fm_ts F Fs1 (by decide) (by decide)
      exact x_out X.1 q (fun x hx => (hXt x hx).elim) (show 1 ≤ 2 by omega) (show 6 ≤ 12 by omega) ⟨_, rfl, Is1, Gs1, Or.inr ⟨xx, rfl, by omega⟩⟩
  obtain ⟨Is1, Fs1, (⟨hv, hps1⟩ | ⟨xx, hv, hps1⟩)⟩ := hq
  rotate_left
  · cases hv
  cases hv
  have Gs1 := fm_ts F Fs1 (by decide) (by decide)
  show WS k 5 [(0, .ref (A 0)), (1, .int (Int32.ofInt x)), (2, .int (Int32.ofInt y)), (3, .int (Int32.ofInt z)), (4, .int (Int32.ofInt w))] [] (Wd A dT s1) 1 6
  refine z_aload_n X (x := A 0) (show cdA 173 5 = some (.aload_n 0, 1, 0, 0, 0) from rfl) (List.Mem.head _) ?_
  refine z_load_n X (x := y) (show cdA 173 6 = some (.iload_n 2, 1, 0, 0, 0) from rfl) (List.Mem.tail _ (List.Mem.tail _ (List.Mem.head _))) ?_
  refine z_callV X 0 (rm := rmN 183) (As := [.int (Int32.ofInt y)]) (st := []) (show cdA 173 7 = some (.invokevirtual 148, 3, 183, 0, 0) from rfl) rfl (by decide) rfl (by rw [E.1, E.2.1, E.2.2.1]; exact cs_needQuarter G Is1 (by first | exact ⟨p1.1, p1.2⟩ | omega)) ⟨by rw [E.2.2.2]; exact (show (rmN 183).frames + 1 ≤ (rmN 173).frames by decide), by rw [E.2.2.2]; exact (show 8 + (mNL (miB 183) + 11) + (rmN 183).locals ≤ (rmN 173).locals by decide), by rw [E.2.2.2]; exact (show 1 + 1 ≤ 2 by omega), by rw [E.2.2.2]; exact (show 6 + 6 ≤ 12 by omega)⟩ (Nat.le_of_ble_eq_true rfl) (fun vv s3 hq => ?_) (fun ee s3 hq => ?_)
  rotate_left
  · obtain ⟨Is3, Fs3, (⟨hv, hps3⟩ | ⟨xx, hv, hps3⟩)⟩ := hq
    · cases hv
    · cases hv
      have Gs3 := fm_ts Gs1 Fs3 (by decide) (by decide)
      exact x_out X.1 q (fun x hx => (hXt x hx).elim) (show (1 + 1) ≤ 2 by omega) (show (6 + 6) ≤ 12 by omega) ⟨_, rfl, Is3, Gs3, Or.inr ⟨xx, rfl, by omega⟩⟩
  obtain ⟨Is3, Fs3, (⟨hv, hps3⟩ | ⟨xx, hv, hps3⟩)⟩ := hq
  rotate_left
  · cases hv
  cases hv
  have Gs3 := fm_ts Gs1 Fs3 (by decide) (by decide)
  show WS k 10 [(0, .ref (A 0)), (1, .int (Int32.ofInt x)), (2, .int (Int32.ofInt y)), (3, .int (Int32.ofInt z)), (4, .int (Int32.ofInt w))] [] (Wd A dT s3) (1 + 1) (6 + 6)
  refine z_aload_n X (x := A 0) (show cdA 173 10 = some (.aload_n 0, 1, 0, 0, 0) from rfl) (List.Mem.head _) ?_
  refine z_load_n X (x := x) (show cdA 173 11 = some (.iload_n 1, 1, 0, 0, 0) from rfl) (List.Mem.tail _ (List.Mem.head _)) ?_
  refine z_callV X 0 (rm := rmN 179) (As := [.int (Int32.ofInt x)]) (st := []) (show cdA 173 12 = some (.invokevirtual 186, 3, 179, 0, 0) from rfl) rfl (by decide) rfl (by rw [E.1, E.2.1, E.2.2.1]; exact cs_listenTo G Is3 (by first | exact ⟨hps1.1, hps1.2⟩ | omega)) ⟨by rw [E.2.2.2]; exact (show (rmN 179).frames + 1 ≤ (rmN 173).frames by decide), by rw [E.2.2.2]; exact (show 8 + (mNL (miB 179) + 11) + (rmN 179).locals ≤ (rmN 173).locals by decide), by rw [E.2.2.2]; exact (show (1 + 1) + 0 ≤ 2 by omega), by rw [E.2.2.2]; exact (show (6 + 6) + 0 ≤ 12 by omega)⟩ (Nat.le_of_ble_eq_true rfl) (fun vv s5 hq => ?_) (fun ee s5 hq => ?_)
  rotate_left
  · obtain ⟨Is5, Fs5, hv, hps5⟩ := hq; cases hv
  obtain ⟨Is5, Fs5, hv, hps5⟩ := hq
  cases hv
  have Gs5 := fm_ts Gs3 Fs5 (by decide) (by decide)
  show WS k 15 [(0, .ref (A 0)), (1, .int (Int32.ofInt x)), (2, .int (Int32.ofInt y)), (3, .int (Int32.ofInt z)), (4, .int (Int32.ofInt w))] [] (Wd A dT s5) (1 + 1) (6 + 6)
  refine z_aload_n X (x := A 0) (show cdA 173 15 = some (.aload_n 0, 1, 0, 0, 0) from rfl) (List.Mem.head _) ?_
  refine s_getR X 0 (show cdA 173 16 = some (.getfield 44, 3, 11, 4, 0) from rfl) (by decide) rfl rfl ?_
  refine z_load_n X (x := y) (show cdA 173 19 = some (.iload_n 2, 1, 0, 0, 0) from rfl) (List.Mem.tail _ (List.Mem.tail _ (List.Mem.head _))) ?_
  refine z_load_n X (x := z) (show cdA 173 20 = some (.iload_n 3, 1, 0, 0, 0) from rfl) (List.Mem.tail _ (List.Mem.tail _ (List.Mem.tail _ (List.Mem.head _)))) ?_
  refine z_callV X 31 (rm := rmN 8) (As := [.int (Int32.ofInt y), .int (Int32.ofInt z)]) (st := []) (show cdA 173 21 = some (.invokevirtual 363, 3, 8, 0, 0) from rfl) rfl (by decide) rfl (by rw [E.1, E.2.1, E.2.2.1]; exact c0_leadAt_31 G Is5 (by first | exact ⟨hps3.1, hps3.2⟩ | omega) (by first | exact ⟨p2.1, p2.2⟩ | omega)) ⟨by rw [E.2.2.2]; exact (show (rmN 8).frames + 1 ≤ (rmN 173).frames by decide), by rw [E.2.2.2]; exact (show 8 + (mNL (miB 8) + 11) + (rmN 8).locals ≤ (rmN 173).locals by decide), by rw [E.2.2.2]; exact (show (1 + 1) + 0 ≤ 2 by omega), by rw [E.2.2.2]; exact (show (6 + 6) + 0 ≤ 12 by omega)⟩ (Nat.le_of_ble_eq_true rfl) (fun vv s7 hq => ?_) (fun ee s7 hq => ?_)
  rotate_left
  · obtain ⟨Is7, Fs7, e8, hv, hrs7, hps7⟩ := hq; cases hv
  obtain ⟨Is7, Fs7, e8, hv, hrs7, hps7⟩ := hq
  cases hv
  have Gs7 := fm_ts Gs5 Fs7 (by decide) (by decide)
  show WS k 24 [(0, .ref (A 0)), (1, .int (Int32.ofInt x)), (2, .int (Int32.ofInt y)), (3, .int (Int32.ofInt z)), (4, .int (Int32.ofInt w))] [.int (Int32.ofInt e8)] (Wd A dT s7) (1 + 1) (6 + 6)
  refine z_store X (lv' := [(5, .int (Int32.ofInt e8)), (0, .ref (A 0)), (1, .int (Int32.ofInt x)), (2, .int (Int32.ofInt y)), (3, .int (Int32.ofInt z)), (4, .int (Int32.ofInt w))]) (show cdA 173 24 = some (.istore 5, 2, 0, 0, 0) from rfl) (by decide) (fun _ h => h) ?_
  refine z_load X (x := e8) (show cdA 173 26 = some (.iload 5, 2, 0, 0, 0) from rfl) (List.Mem.head _) ?_
  refine z_const X (show cdA 173 28 = some (.iconst (-1), 1, 0, 0, 0) from rfl) ?_
  have N9 : ∀ e10 : Int, (((e8 = (-1)) ∧ e10 = e8) ∨ ((e8 ≠ (-1)) ∧ (w ≠ 0) ∧ (((-2147483648) : Int) ≤ iC s7 34 (e8).toNat ∧ iC s7 34 (e8).toNat ≤ 2147483647) ∧ e10 = (iC s7 34 (e8).toNat)) ∨ ((e8 ≠ (-1)) ∧ (w = 0) ∧ e10 = e8)) → WS k 52 [(5, .int (Int32.ofInt e8)), (0, .ref (A 0)), (1, .int (Int32.ofInt x)), (2, .int (Int32.ofInt y)), (3, .int (Int32.ofInt z)), (4, .int (Int32.ofInt w))] [.int (Int32.ofInt e10)] (Wd A dT s7) (1 + 1) (6 + 6) := by
    intro e10 he10
    exact w_iret X.1 q hRt rfl (ax_d X (show cdA 173 52 = some (.ireturn, 1, 0, 0, 0) from rfl)) (show (1 + 1) ≤ 2 by omega) (show (6 + 6) ≤ 12 by omega) ⟨_, rfl, Is7, Gs7, Or.inl ⟨e10, rfl, ⟨by first | exact oq_21dab0cf he10 hps7.1 | omega, by first | exact oq_d0297410 he10 hps7.2 | omega⟩, trivial⟩⟩
  refine z_icmp_eq X (t := 37) (show cdA 173 29 = some (.if_icmp .eq 8, 3, 0, 0, 0) from rfl) (by decide) hrs7 (by decide) (fun g11 => ?_) (fun g11 => ?_)
  ·
    refine z_load X (x := e8) (show cdA 173 37 = some (.iload 5, 2, 0, 0, 0) from rfl) (List.Mem.head _) ?_
    refine z_goto X (t := 52) (show cdA 173 39 = some (.goto 13, 3, 0, 0, 0) from rfl) (by decide) ?_
    exact N9 _ (Or.inl ⟨g11, rfl⟩)
  ·
    refine z_load X (x := w) (show cdA 173 32 = some (.iload 4, 2, 0, 0, 0) from rfl) (List.Mem.tail _ (List.Mem.tail _ (List.Mem.tail _ (List.Mem.tail _ (List.Mem.tail _ (List.Mem.head _)))))) ?_
    refine z_if_ne X (t := 42) (show cdA 173 34 = some (.ifCond .ne 8, 3, 1, 0, 0) from rfl) (by decide) ⟨by first | exact oq_bde653e9 p3 | omega, by first | exact oq_4ad2cb8b p3 | omega⟩ (fun g12 => ?_) (fun g12 => ?_)
    ·
      refine z_aload_n X (x := A 0) (show cdA 173 42 = some (.aload_n 0, 1, 0, 0, 0) from rfl) (List.Mem.tail _ (List.Mem.head _)) ?_
      refine s_getR X 0 (show cdA 173 43 = some (.getfield 44, 3, 11, 4, 0) from rfl) (by decide) rfl rfl ?_
      refine s_getR X 31 (show cdA 173 46 = some (.getfield 366, 3, 0, 13, 0) from rfl) (by decide) rfl rfl ?_
      refine z_load X (x := e8) (show cdA 173 49 = some (.iload 5, 2, 0, 0, 0) from rfl) (List.Mem.head _) ?_
      refine z_ald X 40 (show cdA 173 51 = some (.iaload, 1, 0, 0, 0) from rfl) (by decide) rfl (by first | exact oq_7a1025bf g11 hps7.1 | omega) (show e8 < 12 by first | exact oq_0ddfcfee hps7.2 | omega) (by decide) ?_
      have b13 : ((-2147483648) : Int) ≤ iC s7 34 (e8).toNat ∧ iC s7 34 (e8).toNat ≤ 2147483647 := Is7.2 34 _ (show (e8).toNat < 12 by first | exact oq_9c5fa447 hps7.2 | omega)
      exact N9 _ (Or.inr (Or.inl ⟨g11, g12, b13, rfl⟩))
    ·
      refine z_load X (x := e8) (show cdA 173 37 = some (.iload 5, 2, 0, 0, 0) from rfl) (List.Mem.head _) ?_
      refine z_goto X (t := 52) (show cdA 173 39 = some (.goto 13, 3, 0, 0, 0) from rfl) (by decide) ?_
      exact N9 _ (Or.inr (Or.inr (⟨g11, g12, rfl⟩)))
set_option maxRecDepth 4000 in
theorem cs_worth (G : GX l s0 D tys a0 dT) (I : Bd s) {x y : Int} (p0 : rng x) (p1 : rng y) : CT l s0 D A dT 174 (rmN 174) [.ref (A 0), .int (Int32.ofInt x), .int (Int32.ofInt y)] s (fun o t => Bd t ∧ Fm [22, 23, 24] [33, 26, 27, 28, 29, 30, 31, 32, 20, 36, 37, 35, 21, 1022, 1023] s t ∧ ((∃ e, o = .inl (some (.int (Int32.ofInt e))) ∧ rng e ∧ (True)) ∨ ∃ x : Nat, o = .inr (exN x) ∧ (x = 0 ∨ x = 2))) := by
  refine ct_ofX G (by decide) (Nat.le_of_ble_eq_true rfl) (fun k X E ET hRt hXt q => ?_)
  show WS k 0 [(0, .ref (A 0)), (1, .int (Int32.ofInt x)), (2, .int (Int32.ofInt y))] [] _ 0 0
  have F : Fm [22, 23, 24] [33, 26, 27, 28, 29, 30, 31, 32, 20, 36, 37, 35, 21, 1022, 1023] s s := fm_rf _ _ s
  refine z_aload_n X (x := A 0) (show cdA 174 0 = some (.aload_n 0, 1, 0, 0, 0) from rfl) (List.Mem.head _) ?_
  refine z_load_n X (x := x) (show cdA 174 1 = some (.iload_n 1, 1, 0, 0, 0) from rfl) (List.Mem.tail _ (List.Mem.head _)) ?_
  refine z_callV X 0 (rm := rmN 181) (As := [.int (Int32.ofInt x)]) (st := []) (show cdA 174 2 = some (.invokevirtual 168, 3, 181, 0, 0) from rfl) rfl (by decide) rfl (by rw [E.1, E.2.1, E.2.2.1]; exact cs_needCell G I (by first | exact ⟨p0.1, p0.2⟩ | omega)) ⟨by rw [E.2.2.2]; exact (show (rmN 181).frames + 1 ≤ (rmN 174).frames by decide), by rw [E.2.2.2]; exact (show 8 + (mNL (miB 181) + 11) + (rmN 181).locals ≤ (rmN 174).locals by decide), by rw [E.2.2.2]; exact (show 0 + 1 ≤ 3 by omega), by rw [E.2.2.2]; exact (show 0 + 6 ≤ 18 by omega)⟩ (Nat.le_of_ble_eq_true rfl) (fun vv s1 hq => ?_) (fun ee s1 hq => ?_)
  rotate_left
  · obtain ⟨Is1, Fs1, (⟨hv, hps1⟩ | ⟨xx, hv, hps1⟩)⟩ := hq
    · cases hv
    · cases hv
      have Gs1 := fm_ts F Fs1 (by decide) (by decide)
      exact x_out X.1 q (fun x hx => (hXt x hx).elim) (show 1 ≤ 3 by omega) (show 6 ≤ 18 by omega) ⟨_, rfl, Is1, Gs1, Or.inr ⟨xx, rfl, by omega⟩⟩
  obtain ⟨Is1, Fs1, (⟨hv, hps1⟩ | ⟨xx, hv, hps1⟩)⟩ := hq
  rotate_left
  · cases hv
  cases hv
  have Gs1 := fm_ts F Fs1 (by decide) (by decide)
  show WS k 5 [(0, .ref (A 0)), (1, .int (Int32.ofInt x)), (2, .int (Int32.ofInt y))] [] (Wd A dT s1) 1 6
  refine z_aload_n X (x := A 0) (show cdA 174 5 = some (.aload_n 0, 1, 0, 0, 0) from rfl) (List.Mem.head _) ?_
  refine z_load_n X (x := y) (show cdA 174 6 = some (.iload_n 2, 1, 0, 0, 0) from rfl) (List.Mem.tail _ (List.Mem.tail _ (List.Mem.head _))) ?_
  refine z_callV X 0 (rm := rmN 182) (As := [.int (Int32.ofInt y)]) (st := []) (show cdA 174 7 = some (.invokevirtual 180, 3, 182, 0, 0) from rfl) rfl (by decide) rfl (by rw [E.1, E.2.1, E.2.2.1]; exact cs_needPiece G Is1 (by first | exact ⟨p1.1, p1.2⟩ | omega)) ⟨by rw [E.2.2.2]; exact (show (rmN 182).frames + 1 ≤ (rmN 174).frames by decide), by rw [E.2.2.2]; exact (show 8 + (mNL (miB 182) + 11) + (rmN 182).locals ≤ (rmN 174).locals by decide), by rw [E.2.2.2]; exact (show 1 + 1 ≤ 3 by omega), by rw [E.2.2.2]; exact (show 6 + 6 ≤ 18 by omega)⟩ (Nat.le_of_ble_eq_true rfl) (fun vv s3 hq => ?_) (fun ee s3 hq => ?_)
  rotate_left
  · obtain ⟨Is3, Fs3, (⟨hv, hps3⟩ | ⟨xx, hv, hps3⟩)⟩ := hq
    · cases hv
    · cases hv
      have Gs3 := fm_ts Gs1 Fs3 (by decide) (by decide)
      exact x_out X.1 q (fun x hx => (hXt x hx).elim) (show (1 + 1) ≤ 3 by omega) (show (6 + 6) ≤ 18 by omega) ⟨_, rfl, Is3, Gs3, Or.inr ⟨xx, rfl, by omega⟩⟩
  obtain ⟨Is3, Fs3, (⟨hv, hps3⟩ | ⟨xx, hv, hps3⟩)⟩ := hq
  rotate_left
  · cases hv
  cases hv
  have Gs3 := fm_ts Gs1 Fs3 (by decide) (by decide)
  show WS k 10 [(0, .ref (A 0)), (1, .int (Int32.ofInt x)), (2, .int (Int32.ofInt y))] [] (Wd A dT s3) (1 + 1) (6 + 6)
  refine z_aload_n X (x := A 0) (show cdA 174 10 = some (.aload_n 0, 1, 0, 0, 0) from rfl) (List.Mem.head _) ?_
  refine s_getR X 0 (show cdA 174 11 = some (.getfield 35, 3, 11, 3, 0) from rfl) (by decide) rfl rfl ?_
  refine s_getR X 25 (show cdA 174 14 = some (.getfield 369, 3, 3, 0, 0) from rfl) (by decide) rfl rfl ?_
  refine z_load_n X (x := x) (show cdA 174 17 = some (.iload_n 1, 1, 0, 0, 0) from rfl) (List.Mem.tail _ (List.Mem.head _)) ?_
  refine z_ald X 26 (show cdA 174 18 = some (.iaload, 1, 0, 0, 0) from rfl) (by decide) rfl (by first | exact hps1.1 | omega) (show x < 128 by first | exact oq_31b2bf10 hps1.2 | omega) (by decide) ?_
  have b5 : ((-1) : Int) ≤ iC s3 21 (x).toNat ∧ iC s3 21 (x).toNat ≤ 7 := Is3.2 21 _ (show (x).toNat < 128 by first | exact oq_c7f4e9c1 hps1.2 | omega)
  refine z_store_n X (lv' := [(3, .int (Int32.ofInt (iC s3 21 (x).toNat))), (0, .ref (A 0)), (1, .int (Int32.ofInt x)), (2, .int (Int32.ofInt y))]) (show cdA 174 19 = some (.istore_n 3, 1, 0, 0, 0) from rfl) (by decide) (fun _ h => h) ?_
  refine z_load_n X (x := (iC s3 21 (x).toNat)) (show cdA 174 20 = some (.iload_n 3, 1, 0, 0, 0) from rfl) (List.Mem.head _) ?_
  refine z_const X (show cdA 174 21 = some (.iconst (-1), 1, 0, 0, 0) from rfl) ?_
  refine z_icmp_eq X (t := 30) (show cdA 174 22 = some (.if_icmp .eq 8, 3, 0, 0, 0) from rfl) (by decide) (rng_to _) (by decide) (fun g6 => ?_) (fun g6 => ?_)
  ·
    exact z_throw G X E ET hXt q (st := []) (show cdA 174 30 = some (.new 108, 3, 0, 2, 0) from rfl) (by decide) (by decide) (Nat.le_of_ble_eq_true rfl) (show (1 + 1) + 1 ≤ 3 by omega) (show (6 + 6) + 6 ≤ 18 by omega) (show (1 + 1) + 1 ≤ 3 by omega) (show (6 + 6) + 6 ≤ 18 by omega) ⟨_, rfl, Is3, Gs3, Or.inr ⟨0, rfl, by omega⟩⟩
  ·
    refine z_load_n X (x := (iC s3 21 (x).toNat)) (show cdA 174 25 = some (.iload_n 3, 1, 0, 0, 0) from rfl) (List.Mem.head _) ?_
    refine z_load_n X (x := y) (show cdA 174 26 = some (.iload_n 2, 1, 0, 0, 0) from rfl) (List.Mem.tail _ (List.Mem.tail _ (List.Mem.tail _ (List.Mem.head _)))) ?_
    refine z_icmp_ne X (t := 41) (show cdA 174 27 = some (.if_icmp .ne 14, 3, 1, 0, 0) from rfl) (by decide) (rng_to _) ⟨by first | exact p1.1 | omega, by first | exact p1.2 | omega⟩ (fun g7 => ?_) (fun g7 => ?_)
    ·
      refine z_aload_n X (x := A 0) (show cdA 174 41 = some (.aload_n 0, 1, 0, 0, 0) from rfl) (List.Mem.tail _ (List.Mem.head _)) ?_
      refine s_getR X 0 (show cdA 174 42 = some (.getfield 53, 3, 11, 5, 0) from rfl) (by decide) rfl rfl ?_
      refine z_callV X 41 (rm := rmN 20) (As := []) (st := []) (show cdA 174 45 = some (.invokevirtual 236, 3, 20, 0, 0) from rfl) rfl (by decide) rfl (by rw [E.1, E.2.1, E.2.2.1]; exact c2_measure_41 G Is3 ) ⟨by rw [E.2.2.2]; exact (show (rmN 20).frames + 1 ≤ (rmN 174).frames by decide), by rw [E.2.2.2]; exact (show 8 + (mNL (miB 20) + 11) + (rmN 20).locals ≤ (rmN 174).locals by decide), by rw [E.2.2.2]; exact (show (1 + 1) + 0 ≤ 3 by omega), by rw [E.2.2.2]; exact (show (6 + 6) + 0 ≤ 18 by omega)⟩ (Nat.le_of_ble_eq_true rfl) (fun vv s8 hq => ?_) (fun ee s8 hq => ?_)
      rotate_left
      · obtain ⟨Is8, Fs8, hv, hps8⟩ := hq; cases hv
      obtain ⟨Is8, Fs8, hv, hps8⟩ := hq
      cases hv
      have Gs8 := fm_ts Gs3 Fs8 (by decide) (by decide)
      show WS k 48 [(3, .int (Int32.ofInt (iC s3 21 (x).toNat))), (0, .ref (A 0)), (1, .int (Int32.ofInt x)), (2, .int (Int32.ofInt y))] [] (Wd A dT s8) (1 + 1) (6 + 6)
      refine z_aload_n X (x := A 0) (show cdA 174 48 = some (.aload_n 0, 1, 0, 0, 0) from rfl) (List.Mem.tail _ (List.Mem.head _)) ?_
      refine s_getR X 0 (show cdA 174 49 = some (.getfield 53, 3, 11, 5, 0) from rfl) (by decide) rfl rfl ?_
      refine z_callV X 41 (rm := rmN 22) (As := []) (st := []) (show cdA 174 52 = some (.invokevirtual 239, 3, 22, 0, 0) from rfl) rfl (by decide) rfl (by rw [E.1, E.2.1, E.2.2.1]; exact c2_priceNow_41 G Is8 ) ⟨by rw [E.2.2.2]; exact (show (rmN 22).frames + 1 ≤ (rmN 174).frames by decide), by rw [E.2.2.2]; exact (show 8 + (mNL (miB 22) + 11) + (rmN 22).locals ≤ (rmN 174).locals by decide), by rw [E.2.2.2]; exact (show (1 + 1) + 0 ≤ 3 by omega), by rw [E.2.2.2]; exact (show (6 + 6) + 0 ≤ 18 by omega)⟩ (Nat.le_of_ble_eq_true rfl) (fun vv s10 hq => ?_) (fun ee s10 hq => ?_)
      rotate_left
      · obtain ⟨Is10, Fs10, e11, hv, hrs10, hps10⟩ := hq; cases hv
      obtain ⟨Is10, Fs10, e11, hv, hrs10, hps10⟩ := hq
      cases hv
      have Gs10 := fm_ts Gs8 Fs10 (by decide) (by decide)
      show WS k 55 [(3, .int (Int32.ofInt (iC s3 21 (x).toNat))), (0, .ref (A 0)), (1, .int (Int32.ofInt x)), (2, .int (Int32.ofInt y))] [.int (Int32.ofInt e11)] (Wd A dT s10) (1 + 1) (6 + 6)
      refine z_store X (lv' := [(4, .int (Int32.ofInt e11)), (3, .int (Int32.ofInt (iC s3 21 (x).toNat))), (0, .ref (A 0)), (1, .int (Int32.ofInt x)), (2, .int (Int32.ofInt y))]) (show cdA 174 55 = some (.istore 4, 2, 0, 0, 0) from rfl) (by decide) (fun _ h => h) ?_
      refine z_aload_n X (x := A 0) (show cdA 174 57 = some (.aload_n 0, 1, 0, 0, 0) from rfl) (List.Mem.tail _ (List.Mem.tail _ (List.Mem.head _))) ?_
      refine s_getR X 0 (show cdA 174 58 = some (.getfield 35, 3, 11, 3, 0) from rfl) (by decide) rfl rfl ?_
      refine z_load_n X (x := x) (show cdA 174 61 = some (.iload_n 1, 1, 0, 0, 0) from rfl) (List.Mem.tail _ (List.Mem.tail _ (List.Mem.tail _ (List.Mem.head _)))) ?_
      refine z_load_n X (x := y) (show cdA 174 62 = some (.iload_n 2, 1, 0, 0, 0) from rfl) (List.Mem.tail _ (List.Mem.tail _ (List.Mem.tail _ (List.Mem.tail _ (List.Mem.head _))))) ?_
      refine z_callV X 25 (rm := rmN 28) (As := [.int (Int32.ofInt x), .int (Int32.ofInt y)]) (st := []) (show cdA 174 63 = some (.invokevirtual 171, 3, 28, 0, 0) from rfl) rfl (by decide) rfl (by rw [E.1, E.2.1, E.2.2.1]; exact c3_put_25 G Is10 (by first | exact ⟨hps1.1, hps1.2⟩ | omega) (by first | exact ⟨oq_ca54ea22 hps3.1, hps3.2⟩ | omega)) ⟨by rw [E.2.2.2]; exact (show (rmN 28).frames + 1 ≤ (rmN 174).frames by decide), by rw [E.2.2.2]; exact (show 8 + (mNL (miB 28) + 11) + (rmN 28).locals ≤ (rmN 174).locals by decide), by rw [E.2.2.2]; exact (show (1 + 1) + 0 ≤ 3 by omega), by rw [E.2.2.2]; exact (show (6 + 6) + 0 ≤ 18 by omega)⟩ (Nat.le_of_ble_eq_true rfl) (fun vv s12 hq => ?_) (fun ee s12 hq => ?_)
      rotate_left
      · obtain ⟨Is12, Fs12, e13, hv, hrs12, hps12⟩ := hq; cases hv
      obtain ⟨Is12, Fs12, e13, hv, hrs12, hps12⟩ := hq
      cases hv
      have Gs12 := fm_ts Gs10 Fs12 (by decide) (by decide)
      show WS k 66 [(4, .int (Int32.ofInt e11)), (3, .int (Int32.ofInt (iC s3 21 (x).toNat))), (0, .ref (A 0)), (1, .int (Int32.ofInt x)), (2, .int (Int32.ofInt y))] [.int (Int32.ofInt e13)] (Wd A dT s12) (1 + 1) (6 + 6)
      refine w_pop X.1 (ax_d X (show cdA 174 66 = some (.pop, 1, 0, 0, 0) from rfl)) rfl ?_
      refine z_aload_n X (x := A 0) (show cdA 174 67 = some (.aload_n 0, 1, 0, 0, 0) from rfl) (List.Mem.tail _ (List.Mem.tail _ (List.Mem.head _))) ?_
      refine s_getR X 0 (show cdA 174 68 = some (.getfield 53, 3, 11, 5, 0) from rfl) (by decide) rfl rfl ?_
      refine z_callV X 41 (rm := rmN 20) (As := []) (st := []) (show cdA 174 71 = some (.invokevirtual 236, 3, 20, 0, 0) from rfl) rfl (by decide) rfl (by rw [E.1, E.2.1, E.2.2.1]; exact c2_measure_41 G Is12 ) ⟨by rw [E.2.2.2]; exact (show (rmN 20).frames + 1 ≤ (rmN 174).frames by decide), by rw [E.2.2.2]; exact (show 8 + (mNL (miB 20) + 11) + (rmN 20).locals ≤ (rmN 174).locals by decide), by rw [E.2.2.2]; exact (show (1 + 1) + 0 ≤ 3 by omega), by rw [E.2.2.2]; exact (show (6 + 6) + 0 ≤ 18 by omega)⟩ (Nat.le_of_ble_eq_true rfl) (fun vv s14 hq => ?_) (fun ee s14 hq => ?_)
      rotate_left
      · obtain ⟨Is14, Fs14, hv, hps14⟩ := hq; cases hv
      obtain ⟨Is14, Fs14, hv, hps14⟩ := hq
      cases hv
      have Gs14 := fm_ts Gs12 Fs14 (by decide) (by decide)
      show WS k 74 [(4, .int (Int32.ofInt e11)), (3, .int (Int32.ofInt (iC s3 21 (x).toNat))), (0, .ref (A 0)), (1, .int (Int32.ofInt x)), (2, .int (Int32.ofInt y))] [] (Wd A dT s14) (1 + 1) (6 + 6)
      refine z_aload_n X (x := A 0) (show cdA 174 74 = some (.aload_n 0, 1, 0, 0, 0) from rfl) (List.Mem.tail _ (List.Mem.tail _ (List.Mem.head _))) ?_
      refine s_getR X 0 (show cdA 174 75 = some (.getfield 53, 3, 11, 5, 0) from rfl) (by decide) rfl rfl ?_
      refine z_callV X 41 (rm := rmN 22) (As := []) (st := []) (show cdA 174 78 = some (.invokevirtual 239, 3, 22, 0, 0) from rfl) rfl (by decide) rfl (by rw [E.1, E.2.1, E.2.2.1]; exact c2_priceNow_41 G Is14 ) ⟨by rw [E.2.2.2]; exact (show (rmN 22).frames + 1 ≤ (rmN 174).frames by decide), by rw [E.2.2.2]; exact (show 8 + (mNL (miB 22) + 11) + (rmN 22).locals ≤ (rmN 174).locals by decide), by rw [E.2.2.2]; exact (show (1 + 1) + 0 ≤ 3 by omega), by rw [E.2.2.2]; exact (show (6 + 6) + 0 ≤ 18 by omega)⟩ (Nat.le_of_ble_eq_true rfl) (fun vv s16 hq => ?_) (fun ee s16 hq => ?_)
      rotate_left
      · obtain ⟨Is16, Fs16, e17, hv, hrs16, hps16⟩ := hq; cases hv
      obtain ⟨Is16, Fs16, e17, hv, hrs16, hps16⟩ := hq
      cases hv
      have Gs16 := fm_ts Gs14 Fs16 (by decide) (by decide)
      show WS k 81 [(4, .int (Int32.ofInt e11)), (3, .int (Int32.ofInt (iC s3 21 (x).toNat))), (0, .ref (A 0)), (1, .int (Int32.ofInt x)), (2, .int (Int32.ofInt y))] [.int (Int32.ofInt e17)] (Wd A dT s16) (1 + 1) (6 + 6)
      refine z_store X (lv' := [(5, .int (Int32.ofInt e17)), (4, .int (Int32.ofInt e11)), (3, .int (Int32.ofInt (iC s3 21 (x).toNat))), (0, .ref (A 0)), (1, .int (Int32.ofInt x)), (2, .int (Int32.ofInt y))]) (show cdA 174 81 = some (.istore 5, 2, 0, 0, 0) from rfl) (by decide) (fun _ h => h) ?_
      refine z_aload_n X (x := A 0) (show cdA 174 83 = some (.aload_n 0, 1, 0, 0, 0) from rfl) (List.Mem.tail _ (List.Mem.tail _ (List.Mem.tail _ (List.Mem.head _)))) ?_
      refine s_getR X 0 (show cdA 174 84 = some (.getfield 35, 3, 11, 3, 0) from rfl) (by decide) rfl rfl ?_
      refine z_load_n X (x := x) (show cdA 174 87 = some (.iload_n 1, 1, 0, 0, 0) from rfl) (List.Mem.tail _ (List.Mem.tail _ (List.Mem.tail _ (List.Mem.tail _ (List.Mem.head _))))) ?_
      refine z_load_n X (x := (iC s3 21 (x).toNat)) (show cdA 174 88 = some (.iload_n 3, 1, 0, 0, 0) from rfl) (List.Mem.tail _ (List.Mem.tail _ (List.Mem.head _))) ?_
      refine z_callV X 25 (rm := rmN 28) (As := [.int (Int32.ofInt x), .int (Int32.ofInt (iC s3 21 (x).toNat))]) (st := []) (show cdA 174 89 = some (.invokevirtual 171, 3, 28, 0, 0) from rfl) rfl (by decide) rfl (by rw [E.1, E.2.1, E.2.2.1]; exact c3_put_25 G Is16 (by first | exact ⟨hps1.1, hps1.2⟩ | omega) (by first | exact ⟨b5.1, b5.2⟩ | omega)) ⟨by rw [E.2.2.2]; exact (show (rmN 28).frames + 1 ≤ (rmN 174).frames by decide), by rw [E.2.2.2]; exact (show 8 + (mNL (miB 28) + 11) + (rmN 28).locals ≤ (rmN 174).locals by decide), by rw [E.2.2.2]; exact (show (1 + 1) + 0 ≤ 3 by omega), by rw [E.2.2.2]; exact (show (6 + 6) + 0 ≤ 18 by omega)⟩ (Nat.le_of_ble_eq_true rfl) (fun vv s18 hq => ?_) (fun ee s18 hq => ?_)
      rotate_left
      · obtain ⟨Is18, Fs18, e19, hv, hrs18, hps18⟩ := hq; cases hv
      obtain ⟨Is18, Fs18, e19, hv, hrs18, hps18⟩ := hq
      cases hv
      have Gs18 := fm_ts Gs16 Fs18 (by decide) (by decide)
      show WS k 92 [(5, .int (Int32.ofInt e17)), (4, .int (Int32.ofInt e11)), (3, .int (Int32.ofInt (iC s3 21 (x).toNat))), (0, .ref (A 0)), (1, .int (Int32.ofInt x)), (2, .int (Int32.ofInt y))] [.int (Int32.ofInt e19)] (Wd A dT s18) (1 + 1) (6 + 6)
      refine w_pop X.1 (ax_d X (show cdA 174 92 = some (.pop, 1, 0, 0, 0) from rfl)) rfl ?_
      refine z_load X (x := e11) (show cdA 174 93 = some (.iload 4, 2, 0, 0, 0) from rfl) (List.Mem.tail _ (List.Mem.head _)) ?_
      refine z_load X (x := e17) (show cdA 174 95 = some (.iload 5, 2, 0, 0, 0) from rfl) (List.Mem.head _) ?_
      refine z_sub X (show cdA 174 97 = some (.isub, 1, 0, 0, 0) from rfl) ?_
      refine z_any (fun y20 hy20 => ?_)
      exact w_iret X.1 q hRt rfl (ax_d X (show cdA 174 98 = some (.ireturn, 1, 0, 0, 0) from rfl)) (show (1 + 1) ≤ 3 by omega) (show (6 + 6) ≤ 18 by omega) ⟨_, rfl, Is18, Gs18, Or.inl ⟨y20, rfl, hy20, trivial⟩⟩
    ·
      exact z_throw G X E ET hXt q (st := []) (show cdA 174 30 = some (.new 108, 3, 0, 2, 0) from rfl) (by decide) (by decide) (Nat.le_of_ble_eq_true rfl) (show (1 + 1) + 1 ≤ 3 by omega) (show (6 + 6) + 6 ≤ 18 by omega) (show (1 + 1) + 1 ≤ 3 by omega) (show (6 + 6) + 6 ≤ 18 by omega) ⟨_, rfl, Is3, Gs3, Or.inr ⟨0, rfl, by omega⟩⟩
set_option maxRecDepth 4000 in
theorem cs_quiet (G : GX l s0 D tys a0 dT) (I : Bd s) {x : Int} (p0 : rng x) : CT l s0 D A dT 175 (rmN 175) [.ref (A 0), .int (Int32.ofInt x)] s (fun o t => Bd t ∧ Fm [] [] s t ∧ ((∃ e, o = .inl (some (.int (Int32.ofInt e))) ∧ rng e ∧ (True)) ∨ ∃ x : Nat, o = .inr (exN x) ∧ (x = 2))) := by
  refine ct_ofX G (by decide) (Nat.le_of_ble_eq_true rfl) (fun k X E ET hRt hXt q => ?_)
  show WS k 0 [(0, .ref (A 0)), (1, .int (Int32.ofInt x))] [] _ 0 0
  have F : Fm [] [] s s := fm_rf _ _ s
  refine z_aload_n X (x := A 0) (show cdA 175 0 = some (.aload_n 0, 1, 0, 0, 0) from rfl) (List.Mem.head _) ?_
  refine z_load_n X (x := x) (show cdA 175 1 = some (.iload_n 1, 1, 0, 0, 0) from rfl) (List.Mem.tail _ (List.Mem.head _)) ?_
  refine z_callV X 0 (rm := rmN 181) (As := [.int (Int32.ofInt x)]) (st := []) (show cdA 175 2 = some (.invokevirtual 168, 3, 181, 0, 0) from rfl) rfl (by decide) rfl (by rw [E.1, E.2.1, E.2.2.1]; exact cs_needCell G I (by first | exact ⟨p0.1, p0.2⟩ | omega)) ⟨by rw [E.2.2.2]; exact (show (rmN 181).frames + 1 ≤ (rmN 175).frames by decide), by rw [E.2.2.2]; exact (show 8 + (mNL (miB 181) + 11) + (rmN 181).locals ≤ (rmN 175).locals by decide), by rw [E.2.2.2]; exact (show 0 + 1 ≤ 1 by omega), by rw [E.2.2.2]; exact (show 0 + 6 ≤ 6 by omega)⟩ (Nat.le_of_ble_eq_true rfl) (fun vv s1 hq => ?_) (fun ee s1 hq => ?_)
  rotate_left
  · obtain ⟨Is1, Fs1, (⟨hv, hps1⟩ | ⟨xx, hv, hps1⟩)⟩ := hq
    · cases hv
    · cases hv
      have Gs1 := fm_ts F Fs1 (by decide) (by decide)
      exact x_out X.1 q (fun x hx => (hXt x hx).elim) (show 1 ≤ 1 by omega) (show 6 ≤ 6 by omega) ⟨_, rfl, Is1, Gs1, Or.inr ⟨xx, rfl, by omega⟩⟩
  obtain ⟨Is1, Fs1, (⟨hv, hps1⟩ | ⟨xx, hv, hps1⟩)⟩ := hq
  rotate_left
  · cases hv
  cases hv
  have Gs1 := fm_ts F Fs1 (by decide) (by decide)
  show WS k 5 [(0, .ref (A 0)), (1, .int (Int32.ofInt x))] [] (Wd A dT s1) 1 6
  refine z_aload_n X (x := A 0) (show cdA 175 5 = some (.aload_n 0, 1, 0, 0, 0) from rfl) (List.Mem.head _) ?_
  refine s_getR X 0 (show cdA 175 6 = some (.getfield 19, 3, 11, 1, 0) from rfl) (by decide) rfl rfl ?_
  refine z_load_n X (x := x) (show cdA 175 9 = some (.iload_n 1, 1, 0, 0, 0) from rfl) (List.Mem.tail _ (List.Mem.head _)) ?_
  refine z_callV X 3 (rm := rmN 121) (As := [.int (Int32.ofInt x)]) (st := []) (show cdA 175 10 = some (.invokevirtual 374, 3, 121, 0, 0) from rfl) rfl (by decide) rfl (by rw [E.1, E.2.1, E.2.2.1]; exact c9_countsAt_3 G Is1 (by first | exact ⟨hps1.1, hps1.2⟩ | omega)) ⟨by rw [E.2.2.2]; exact (show (rmN 121).frames + 1 ≤ (rmN 175).frames by decide), by rw [E.2.2.2]; exact (show 8 + (mNL (miB 121) + 11) + (rmN 121).locals ≤ (rmN 175).locals by decide), by rw [E.2.2.2]; exact (show 1 + 0 ≤ 1 by omega), by rw [E.2.2.2]; exact (show 6 + 0 ≤ 6 by omega)⟩ (Nat.le_of_ble_eq_true rfl) (fun vv s3 hq => ?_) (fun ee s3 hq => ?_)
  rotate_left
  · obtain ⟨Is3, Fs3, e4, hv, hrs3, hps3⟩ := hq; cases hv
  obtain ⟨Is3, Fs3, e4, hv, hrs3, hps3⟩ := hq
  cases hv
  have Gs3 := fm_ts Gs1 Fs3 (by decide) (by decide)
  show WS k 13 [(0, .ref (A 0)), (1, .int (Int32.ofInt x))] [.int (Int32.ofInt e4)] (Wd A dT s3) 1 6
  exact w_iret X.1 q hRt rfl (ax_d X (show cdA 175 13 = some (.ireturn, 1, 0, 0, 0) from rfl)) (show 1 ≤ 1 by omega) (show 6 ≤ 6 by omega) ⟨_, rfl, Is3, Gs3, Or.inl ⟨e4, rfl, hrs3, trivial⟩⟩
set_option maxRecDepth 4000 in
theorem cs_mark (G : GX l s0 D tys a0 dT) (I : Bd s)  : CT l s0 D A dT 176 (rmN 176) [.ref (A 0)] s (fun o t => Bd t ∧ Fm [20] [25] s t ∧ ∃ e, o = .inl (some (.int (Int32.ofInt e))) ∧ rng e ∧ (True)) := by
  refine ct_ofX G (by decide) (Nat.le_of_ble_eq_true rfl) (fun k X E ET hRt hXt q => ?_)
  show WS k 0 [(0, .ref (A 0))] [] _ 0 0
  have F : Fm [20] [25] s s := fm_rf _ _ s
  refine z_aload_n X (x := A 0) (show cdA 176 0 = some (.aload_n 0, 1, 0, 0, 0) from rfl) (List.Mem.head _) ?_
  refine s_getR X 0 (show cdA 176 1 = some (.getfield 35, 3, 11, 3, 0) from rfl) (by decide) rfl rfl ?_
  refine z_callV X 25 (rm := rmN 40) (As := []) (st := []) (show cdA 176 4 = some (.invokevirtual 377, 3, 40, 0, 0) from rfl) rfl (by decide) rfl (by rw [E.1, E.2.1, E.2.2.1]; exact c3_keepMark_25 G I ) ⟨by rw [E.2.2.2]; exact (show (rmN 40).frames + 1 ≤ (rmN 176).frames by decide), by rw [E.2.2.2]; exact (show 8 + (mNL (miB 40) + 11) + (rmN 40).locals ≤ (rmN 176).locals by decide), by rw [E.2.2.2]; exact (show 0 + (rmN 40).cells ≤ (rmN 176).cells by decide), by rw [E.2.2.2]; exact (show 0 + (rmN 40).slots ≤ (rmN 176).slots by decide)⟩ (Nat.le_of_ble_eq_true rfl) (fun vv s1 hq => ?_) (fun ee s1 hq => ?_)
  rotate_left
  · obtain ⟨Is1, Fs1, e2, hv, hrs1, hps1⟩ := hq; cases hv
  obtain ⟨Is1, Fs1, e2, hv, hrs1, hps1⟩ := hq
  cases hv
  have Gs1 := fm_ts F Fs1 (by decide) (by decide)
  show WS k 7 [(0, .ref (A 0))] [.int (Int32.ofInt e2)] (Wd A dT s1) 0 0
  exact w_iret X.1 q hRt rfl (ax_d X (show cdA 176 7 = some (.ireturn, 1, 0, 0, 0) from rfl)) (Nat.zero_le _) (Nat.zero_le _) ⟨_, rfl, Is1, Gs1, e2, rfl, hrs1, trivial⟩
set_option maxRecDepth 4000 in
theorem cs_back (G : GX l s0 D tys a0 dT) (I : Bd s)  : CT l s0 D A dT 177 (rmN 177) [.ref (A 0)] s (fun o t => Bd t ∧ Fm [20] [21, 1022, 1023] s t ∧ ∃ e, o = .inl (some (.int (Int32.ofInt e))) ∧ rng e ∧ (True)) := by
  refine ct_ofX G (by decide) (Nat.le_of_ble_eq_true rfl) (fun k X E ET hRt hXt q => ?_)
  show WS k 0 [(0, .ref (A 0))] [] _ 0 0
  have F : Fm [20] [21, 1022, 1023] s s := fm_rf _ _ s
  refine z_aload_n X (x := A 0) (show cdA 177 0 = some (.aload_n 0, 1, 0, 0, 0) from rfl) (List.Mem.head _) ?_
  refine s_getR X 0 (show cdA 177 1 = some (.getfield 35, 3, 11, 3, 0) from rfl) (by decide) rfl rfl ?_
  refine z_callV X 25 (rm := rmN 41) (As := []) (st := []) (show cdA 177 4 = some (.invokevirtual 380, 3, 41, 0, 0) from rfl) rfl (by decide) rfl (by rw [E.1, E.2.1, E.2.2.1]; exact c3_goBack_25 G I ) ⟨by rw [E.2.2.2]; exact (show (rmN 41).frames + 1 ≤ (rmN 177).frames by decide), by rw [E.2.2.2]; exact (show 8 + (mNL (miB 41) + 11) + (rmN 41).locals ≤ (rmN 177).locals by decide), by rw [E.2.2.2]; exact (show 0 + (rmN 41).cells ≤ (rmN 177).cells by decide), by rw [E.2.2.2]; exact (show 0 + (rmN 41).slots ≤ (rmN 177).slots by decide)⟩ (Nat.le_of_ble_eq_true rfl) (fun vv s1 hq => ?_) (fun ee s1 hq => ?_)
  rotate_left
  · obtain ⟨Is1, Fs1, e2, hv, hrs1, hps1⟩ := hq; cases hv
  obtain ⟨Is1, Fs1, e2, hv, hrs1, hps1⟩ := hq
  cases hv
  have Gs1 := fm_ts F Fs1 (by decide) (by decide)
  show WS k 7 [(0, .ref (A 0))] [.int (Int32.ofInt e2)] (Wd A dT s1) 0 0
  exact w_iret X.1 q hRt rfl (ax_d X (show cdA 177 7 = some (.ireturn, 1, 0, 0, 0) from rfl)) (Nat.zero_le _) (Nat.zero_le _) ⟨_, rfl, Is1, Gs1, e2, rfl, hrs1, trivial⟩
set_option maxRecDepth 4000 in
theorem cs_count (G : GX l s0 D tys a0 dT) (I : Bd s) {x : Int} (p0 : rng x) : CT l s0 D A dT 178 (rmN 178) [.ref (A 0), .int (Int32.ofInt x)] s (fun o t => Bd t ∧ Fm [] [] s t ∧ ∃ e, o = .inl (some (.int (Int32.ofInt e))) ∧ rng e ∧ (True)) := by
  refine ct_ofX G (by decide) (Nat.le_of_ble_eq_true rfl) (fun k X E ET hRt hXt q => ?_)
  show WS k 0 [(0, .ref (A 0)), (1, .int (Int32.ofInt x))] [] _ 0 0
  have F : Fm [] [] s s := fm_rf _ _ s
  refine z_load_n X (x := x) (show cdA 178 0 = some (.iload_n 1, 1, 0, 0, 0) from rfl) (List.Mem.tail _ (List.Mem.head _)) ?_
  rcases (show x = 0 ∨ x = 1 ∨ x = 2 ∨ x = 3 ∨ x = 4 ∨ x = 5 ∨ x = 6 ∨ x = 7 ∨ x = 8 ∨ x = 9 ∨ (x < 0 ∨ 9 < x) by omega) with gs | gs | gs | gs | gs | gs | gs | gs | gs | gs | gs
  ·
    rw [gs]
    refine w_tabIn X.1 (dflt := 149) (lo := 0) (hi := 9) (offs := #[55, 63, 71, 79, 87, 95, 103, 111, 133, 141]) (len := 55) (off := 55) (t := 56) (ax_d X (show cdA 178 1 = some (.tableswitch 149 0 9 #[55, 63, 71, 79, 87, 95, 103, 111, 133, 141], 55, 0, 0, 0) from rfl)) (by decide) (by decide) (by decide) (by decide) ?_
    refine z_aload_n X (x := A 0) (show cdA 178 56 = some (.aload_n 0, 1, 0, 0, 0) from rfl) (List.Mem.head _) ?_
    refine s_getR X 0 (show cdA 178 57 = some (.getfield 19, 3, 11, 1, 0) from rfl) (by decide) rfl rfl ?_
    refine z_getI X 3 (show cdA 178 60 = some (.getfield 383, 3, 9, 0, 0) from rfl) (by decide) rfl rfl ?_
    have b1 : (0 : Int) ≤ iI s 9 ∧ iI s 9 ≤ 12 := I.1 9
    exact w_iret X.1 q hRt rfl (ax_d X (show cdA 178 63 = some (.ireturn, 1, 0, 0, 0) from rfl)) (Nat.zero_le _) (Nat.zero_le _) ⟨_, rfl, I, F, (iI s 9), rfl, (rng_to _), trivial⟩
  ·
    rw [gs]
    refine w_tabIn X.1 (dflt := 149) (lo := 0) (hi := 9) (offs := #[55, 63, 71, 79, 87, 95, 103, 111, 133, 141]) (len := 55) (off := 63) (t := 64) (ax_d X (show cdA 178 1 = some (.tableswitch 149 0 9 #[55, 63, 71, 79, 87, 95, 103, 111, 133, 141], 55, 0, 0, 0) from rfl)) (by decide) (by decide) (by decide) (by decide) ?_
    refine z_aload_n X (x := A 0) (show cdA 178 64 = some (.aload_n 0, 1, 0, 0, 0) from rfl) (List.Mem.head _) ?_
    refine s_getR X 0 (show cdA 178 65 = some (.getfield 28, 3, 11, 2, 0) from rfl) (by decide) rfl rfl ?_
    refine z_getI X 19 (show cdA 178 68 = some (.getfield 134, 3, 7, 3, 0) from rfl) (by decide) rfl rfl ?_
    have b2 : (0 : Int) ≤ iI s 12 ∧ iI s 12 ≤ 9 := I.1 12
    exact w_iret X.1 q hRt rfl (ax_d X (show cdA 178 71 = some (.ireturn, 1, 0, 0, 0) from rfl)) (Nat.zero_le _) (Nat.zero_le _) ⟨_, rfl, I, F, (iI s 12), rfl, (rng_to _), trivial⟩
  ·
    rw [gs]
    refine w_tabIn X.1 (dflt := 149) (lo := 0) (hi := 9) (offs := #[55, 63, 71, 79, 87, 95, 103, 111, 133, 141]) (len := 55) (off := 71) (t := 72) (ax_d X (show cdA 178 1 = some (.tableswitch 149 0 9 #[55, 63, 71, 79, 87, 95, 103, 111, 133, 141], 55, 0, 0, 0) from rfl)) (by decide) (by decide) (by decide) (by decide) ?_
    refine z_aload_n X (x := A 0) (show cdA 178 72 = some (.aload_n 0, 1, 0, 0, 0) from rfl) (List.Mem.head _) ?_
    refine s_getR X 0 (show cdA 178 73 = some (.getfield 35, 3, 11, 3, 0) from rfl) (by decide) rfl rfl ?_
    refine z_callV X 25 (rm := rmN 31) (As := []) (st := []) (show cdA 178 76 = some (.invokevirtual 386, 3, 31, 0, 0) from rfl) rfl (by decide) rfl (by rw [E.1, E.2.1, E.2.2.1]; exact c3_countPieces_25 G I ) ⟨by rw [E.2.2.2]; exact (show (rmN 31).frames + 1 ≤ (rmN 178).frames by decide), by rw [E.2.2.2]; exact (show 8 + (mNL (miB 31) + 11) + (rmN 31).locals ≤ (rmN 178).locals by decide), by rw [E.2.2.2]; exact (show 0 + (rmN 31).cells ≤ (rmN 178).cells by decide), by rw [E.2.2.2]; exact (show 0 + (rmN 31).slots ≤ (rmN 178).slots by decide)⟩ (Nat.le_of_ble_eq_true rfl) (fun vv s3 hq => ?_) (fun ee s3 hq => ?_)
    rotate_left
    · obtain ⟨Is3, Fs3, e4, hv, hrs3, hps3⟩ := hq; cases hv
    obtain ⟨Is3, Fs3, e4, hv, hrs3, hps3⟩ := hq
    cases hv
    have Gs3 := fm_ts F Fs3 (by decide) (by decide)
    show WS k 79 [(0, .ref (A 0)), (1, .int (Int32.ofInt 2))] [.int (Int32.ofInt e4)] (Wd A dT s3) 0 0
    exact w_iret X.1 q hRt rfl (ax_d X (show cdA 178 79 = some (.ireturn, 1, 0, 0, 0) from rfl)) (Nat.zero_le _) (Nat.zero_le _) ⟨_, rfl, Is3, Gs3, e4, rfl, hrs3, trivial⟩
  ·
    rw [gs]
    refine w_tabIn X.1 (dflt := 149) (lo := 0) (hi := 9) (offs := #[55, 63, 71, 79, 87, 95, 103, 111, 133, 141]) (len := 55) (off := 79) (t := 80) (ax_d X (show cdA 178 1 = some (.tableswitch 149 0 9 #[55, 63, 71, 79, 87, 95, 103, 111, 133, 141], 55, 0, 0, 0) from rfl)) (by decide) (by decide) (by decide) (by decide) ?_
    refine z_aload_n X (x := A 0) (show cdA 178 80 = some (.aload_n 0, 1, 0, 0, 0) from rfl) (List.Mem.head _) ?_
    refine s_getR X 0 (show cdA 178 81 = some (.getfield 35, 3, 11, 3, 0) from rfl) (by decide) rfl rfl ?_
    refine z_callV X 25 (rm := rmN 32) (As := []) (st := []) (show cdA 178 84 = some (.invokevirtual 389, 3, 32, 0, 0) from rfl) rfl (by decide) rfl (by rw [E.1, E.2.1, E.2.2.1]; exact c3_countShut_25 G I ) ⟨by rw [E.2.2.2]; exact (show (rmN 32).frames + 1 ≤ (rmN 178).frames by decide), by rw [E.2.2.2]; exact (show 8 + (mNL (miB 32) + 11) + (rmN 32).locals ≤ (rmN 178).locals by decide), by rw [E.2.2.2]; exact (show 0 + (rmN 32).cells ≤ (rmN 178).cells by decide), by rw [E.2.2.2]; exact (show 0 + (rmN 32).slots ≤ (rmN 178).slots by decide)⟩ (Nat.le_of_ble_eq_true rfl) (fun vv s5 hq => ?_) (fun ee s5 hq => ?_)
    rotate_left
    · obtain ⟨Is5, Fs5, e6, hv, hrs5, hps5⟩ := hq; cases hv
    obtain ⟨Is5, Fs5, e6, hv, hrs5, hps5⟩ := hq
    cases hv
    have Gs5 := fm_ts F Fs5 (by decide) (by decide)
    show WS k 87 [(0, .ref (A 0)), (1, .int (Int32.ofInt 3))] [.int (Int32.ofInt e6)] (Wd A dT s5) 0 0
    exact w_iret X.1 q hRt rfl (ax_d X (show cdA 178 87 = some (.ireturn, 1, 0, 0, 0) from rfl)) (Nat.zero_le _) (Nat.zero_le _) ⟨_, rfl, Is5, Gs5, e6, rfl, hrs5, trivial⟩
  ·
    rw [gs]
    refine w_tabIn X.1 (dflt := 149) (lo := 0) (hi := 9) (offs := #[55, 63, 71, 79, 87, 95, 103, 111, 133, 141]) (len := 55) (off := 87) (t := 88) (ax_d X (show cdA 178 1 = some (.tableswitch 149 0 9 #[55, 63, 71, 79, 87, 95, 103, 111, 133, 141], 55, 0, 0, 0) from rfl)) (by decide) (by decide) (by decide) (by decide) ?_
    refine z_aload_n X (x := A 0) (show cdA 178 88 = some (.aload_n 0, 1, 0, 0, 0) from rfl) (List.Mem.head _) ?_
    refine s_getR X 0 (show cdA 178 89 = some (.getfield 62, 3, 11, 6, 0) from rfl) (by decide) rfl rfl ?_
    refine z_getI X 46 (show cdA 178 92 = some (.getfield 258, 3, 5, 3, 0) from rfl) (by decide) rfl rfl ?_
    have b7 : (0 : Int) ≤ iI s 28 ∧ iI s 28 ≤ 8 := I.1 28
    exact w_iret X.1 q hRt rfl (ax_d X (show cdA 178 95 = some (.ireturn, 1, 0, 0, 0) from rfl)) (Nat.zero_le _) (Nat.zero_le _) ⟨_, rfl, I, F, (iI s 28), rfl, (rng_to _), trivial⟩
  ·
    rw [gs]
    refine w_tabIn X.1 (dflt := 149) (lo := 0) (hi := 9) (offs := #[55, 63, 71, 79, 87, 95, 103, 111, 133, 141]) (len := 55) (off := 95) (t := 96) (ax_d X (show cdA 178 1 = some (.tableswitch 149 0 9 #[55, 63, 71, 79, 87, 95, 103, 111, 133, 141], 55, 0, 0, 0) from rfl)) (by decide) (by decide) (by decide) (by decide) ?_
    refine z_aload_n X (x := A 0) (show cdA 178 96 = some (.aload_n 0, 1, 0, 0, 0) from rfl) (List.Mem.head _) ?_
    refine s_getR X 0 (show cdA 178 97 = some (.getfield 71, 3, 11, 7, 0) from rfl) (by decide) rfl rfl ?_
    refine z_getI X 54 (show cdA 178 100 = some (.getfield 273, 3, 4, 5, 0) from rfl) (by decide) rfl rfl ?_
    have b8 : (0 : Int) ≤ iI s 32 ∧ iI s 32 ≤ 6 := I.1 32
    exact w_iret X.1 q hRt rfl (ax_d X (show cdA 178 103 = some (.ireturn, 1, 0, 0, 0) from rfl)) (Nat.zero_le _) (Nat.zero_le _) ⟨_, rfl, I, F, (iI s 32), rfl, (rng_to _), trivial⟩
  ·
    rw [gs]
    refine w_tabIn X.1 (dflt := 149) (lo := 0) (hi := 9) (offs := #[55, 63, 71, 79, 87, 95, 103, 111, 133, 141]) (len := 55) (off := 103) (t := 104) (ax_d X (show cdA 178 1 = some (.tableswitch 149 0 9 #[55, 63, 71, 79, 87, 95, 103, 111, 133, 141], 55, 0, 0, 0) from rfl)) (by decide) (by decide) (by decide) (by decide) ?_
    refine z_aload_n X (x := A 0) (show cdA 178 104 = some (.aload_n 0, 1, 0, 0, 0) from rfl) (List.Mem.head _) ?_
    refine s_getR X 0 (show cdA 178 105 = some (.getfield 96, 3, 11, 10, 0) from rfl) (by decide) rfl rfl ?_
    refine z_getI X 173 (show cdA 178 108 = some (.getfield 392, 3, 1, 3, 0) from rfl) (by decide) rfl rfl ?_
    have b9 : (0 : Int) ≤ iI s 70 ∧ iI s 70 ≤ 40 := I.1 70
    exact w_iret X.1 q hRt rfl (ax_d X (show cdA 178 111 = some (.ireturn, 1, 0, 0, 0) from rfl)) (Nat.zero_le _) (Nat.zero_le _) ⟨_, rfl, I, F, (iI s 70), rfl, (rng_to _), trivial⟩
  ·
    rw [gs]
    refine w_tabIn X.1 (dflt := 149) (lo := 0) (hi := 9) (offs := #[55, 63, 71, 79, 87, 95, 103, 111, 133, 141]) (len := 55) (off := 111) (t := 112) (ax_d X (show cdA 178 1 = some (.tableswitch 149 0 9 #[55, 63, 71, 79, 87, 95, 103, 111, 133, 141], 55, 0, 0, 0) from rfl)) (by decide) (by decide) (by decide) (by decide) ?_
    refine z_aload_n X (x := A 0) (show cdA 178 112 = some (.aload_n 0, 1, 0, 0, 0) from rfl) (List.Mem.head _) ?_
    refine s_getR X 0 (show cdA 178 113 = some (.getfield 89, 3, 11, 9, 0) from rfl) (by decide) rfl rfl ?_
    refine z_getJ X 67 (show cdA 178 116 = some (.getfield 393, 3, 8, 4, 0) from rfl) (by decide) rfl rfl (fun j10 => ?_)
    refine z_callS X (rm := rmN 298) (As := [.long j10]) (st := []) (show cdA 178 119 = some (.invokestatic 396, 3, 298, 1, 0) from rfl) rfl (by rw [E.1, E.2.1, E.2.2.1]; exact j_bitL G I ) ⟨by rw [E.2.2.2]; exact (show (rmN 298).frames + 1 ≤ (rmN 178).frames by decide), by rw [E.2.2.2]; exact (show 8 + (mNL (miB 298) + 11) + (rmN 298).locals ≤ (rmN 178).locals by decide), by rw [E.2.2.2]; exact (show 0 + (rmN 298).cells ≤ (rmN 178).cells by decide), by rw [E.2.2.2]; exact (show 0 + (rmN 298).slots ≤ (rmN 178).slots by decide)⟩ (Nat.le_of_ble_eq_true rfl) (fun vv s11 hq => ?_) (fun ee s11 hq => ?_)
    rotate_left
    · obtain ⟨Is11, Fs11, e12, hv, hrs11, hps11⟩ := hq; cases hv
    obtain ⟨Is11, Fs11, e12, hv, hrs11, hps11⟩ := hq
    cases hv
    have Gs11 := fm_ts F Fs11 (by decide) (by decide)
    show WS k 122 [(0, .ref (A 0)), (1, .int (Int32.ofInt 7))] [.int (Int32.ofInt e12)] (Wd A dT s11) 0 0
    refine z_aload_n X (x := A 0) (show cdA 178 122 = some (.aload_n 0, 1, 0, 0, 0) from rfl) (List.Mem.head _) ?_
    refine s_getR X 0 (show cdA 178 123 = some (.getfield 89, 3, 11, 9, 0) from rfl) (by decide) rfl rfl ?_
    refine z_getJ X 67 (show cdA 178 126 = some (.getfield 402, 3, 8, 5, 0) from rfl) (by decide) rfl rfl (fun j13 => ?_)
    refine z_callS X (rm := rmN 298) (As := [.long j13]) (st := [.int (Int32.ofInt e12)]) (show cdA 178 129 = some (.invokestatic 396, 3, 298, 1, 0) from rfl) rfl (by rw [E.1, E.2.1, E.2.2.1]; exact j_bitL G Is11 ) ⟨by rw [E.2.2.2]; exact (show (rmN 298).frames + 1 ≤ (rmN 178).frames by decide), by rw [E.2.2.2]; exact (show 8 + (mNL (miB 298) + 11) + (rmN 298).locals ≤ (rmN 178).locals by decide), by rw [E.2.2.2]; exact (show 0 + (rmN 298).cells ≤ (rmN 178).cells by decide), by rw [E.2.2.2]; exact (show 0 + (rmN 298).slots ≤ (rmN 178).slots by decide)⟩ (Nat.le_of_ble_eq_true rfl) (fun vv s14 hq => ?_) (fun ee s14 hq => ?_)
    rotate_left
    · obtain ⟨Is14, Fs14, e15, hv, hrs14, hps14⟩ := hq; cases hv
    obtain ⟨Is14, Fs14, e15, hv, hrs14, hps14⟩ := hq
    cases hv
    have Gs14 := fm_ts Gs11 Fs14 (by decide) (by decide)
    show WS k 132 [(0, .ref (A 0)), (1, .int (Int32.ofInt 7))] [.int (Int32.ofInt e15), .int (Int32.ofInt e12)] (Wd A dT s14) 0 0
    refine z_add X (show cdA 178 132 = some (.iadd, 1, 0, 0, 0) from rfl) ?_
    refine z_any (fun y16 hy16 => ?_)
    exact w_iret X.1 q hRt rfl (ax_d X (show cdA 178 133 = some (.ireturn, 1, 0, 0, 0) from rfl)) (Nat.zero_le _) (Nat.zero_le _) ⟨_, rfl, Is14, Gs14, y16, rfl, hy16, trivial⟩
  ·
    rw [gs]
    refine w_tabIn X.1 (dflt := 149) (lo := 0) (hi := 9) (offs := #[55, 63, 71, 79, 87, 95, 103, 111, 133, 141]) (len := 55) (off := 133) (t := 134) (ax_d X (show cdA 178 1 = some (.tableswitch 149 0 9 #[55, 63, 71, 79, 87, 95, 103, 111, 133, 141], 55, 0, 0, 0) from rfl)) (by decide) (by decide) (by decide) (by decide) ?_
    refine z_aload_n X (x := A 0) (show cdA 178 134 = some (.aload_n 0, 1, 0, 0, 0) from rfl) (List.Mem.head _) ?_
    refine s_getR X 0 (show cdA 178 135 = some (.getfield 35, 3, 11, 3, 0) from rfl) (by decide) rfl rfl ?_
    refine z_getI X 25 (show cdA 178 138 = some (.getfield 404, 3, 3, 5, 0) from rfl) (by decide) rfl rfl ?_
    have b17 : (0 : Int) ≤ iI s 20 ∧ iI s 20 ≤ 4 := I.1 20
    exact w_iret X.1 q hRt rfl (ax_d X (show cdA 178 141 = some (.ireturn, 1, 0, 0, 0) from rfl)) (Nat.zero_le _) (Nat.zero_le _) ⟨_, rfl, I, F, (iI s 20), rfl, (rng_to _), trivial⟩
  ·
    rw [gs]
    refine w_tabIn X.1 (dflt := 149) (lo := 0) (hi := 9) (offs := #[55, 63, 71, 79, 87, 95, 103, 111, 133, 141]) (len := 55) (off := 141) (t := 142) (ax_d X (show cdA 178 1 = some (.tableswitch 149 0 9 #[55, 63, 71, 79, 87, 95, 103, 111, 133, 141], 55, 0, 0, 0) from rfl)) (by decide) (by decide) (by decide) (by decide) ?_
    refine z_aload_n X (x := A 0) (show cdA 178 142 = some (.aload_n 0, 1, 0, 0, 0) from rfl) (List.Mem.head _) ?_
    refine s_getR X 0 (show cdA 178 143 = some (.getfield 10, 3, 11, 0, 0) from rfl) (by decide) rfl rfl ?_
    refine z_getI X 1 (show cdA 178 146 = some (.getfield 104, 3, 10, 1, 0) from rfl) (by decide) rfl rfl ?_
    have b18 : (0 : Int) ≤ iI s 0 ∧ iI s 0 ≤ 200 := I.1 0
    exact w_iret X.1 q hRt rfl (ax_d X (show cdA 178 149 = some (.ireturn, 1, 0, 0, 0) from rfl)) (Nat.zero_le _) (Nat.zero_le _) ⟨_, rfl, I, F, (iI s 0), rfl, (rng_to _), trivial⟩
  ·
    refine w_tabOut X.1 (dflt := 149) (lo := 0) (hi := 9) (offs := #[55, 63, 71, 79, 87, 95, 103, 111, 133, 141]) (len := 55) (t := 150) (ax_d X (show cdA 178 1 = some (.tableswitch 149 0 9 #[55, 63, 71, 79, 87, 95, 103, 111, 133, 141], 55, 0, 0, 0) from rfl)) (by rw [zi ⟨by omega, by omega⟩]; omega) (by decide) ?_
    refine z_const X (show cdA 178 150 = some (.iconst (-1), 1, 0, 0, 0) from rfl) ?_
    exact w_iret X.1 q hRt rfl (ax_d X (show cdA 178 151 = some (.ireturn, 1, 0, 0, 0) from rfl)) (Nat.zero_le _) (Nat.zero_le _) ⟨_, rfl, I, F, (-1), rfl, (by decide), trivial⟩
set_option maxRecDepth 4000 in
theorem cs_stream (G : GX l s0 D tys a0 dT) (I : Bd s) {w : Int} (p0 : rng w) : CT l s0 D A dT 136 (rmN 136) [.ref (A 0), .int (Int32.ofInt w)] s (fun o t => Bd t ∧ Fm [11, 9, 10, 2, 4, 6, 5, 1, 3, 0, 7, 8] [15, 1, 2, 6, 1003, 1004, 1005, 1007] s t ∧ ((∃ e, o = .inl (some (.int (Int32.ofInt e))) ∧ rng e ∧ (iI t 0 = 0 ∧ 0 ≤ w ∧ w ≤ iI s 0 ∧ w ≤ 100)) ∨ ∃ x : Nat, o = .inr (exN x) ∧ (x = 0 ∧ iI t 0 = iI s 0 ∧ (w < 0 ∨ iI s 0 < w ∨ 100 < w)))) := by
  refine ct_ofX G (by decide) (Nat.le_of_ble_eq_true rfl) (fun k X E ET hRt hXt q => ?_)
  show WS k 0 [(0, .ref (A 0)), (1, .int (Int32.ofInt w))] [] _ 0 0
  have F : Fm [11, 9, 10, 2, 4, 6, 5, 1, 3, 0, 7, 8] [15, 1, 2, 6, 1003, 1004, 1005, 1007] s s := fm_rf _ _ s
  have b1 : (0 : Int) ≤ iI s 0 ∧ iI s 0 ≤ 200 := I.1 0
  have b2 : (0 : Int) ≤ iI s 9 ∧ iI s 9 ≤ 12 := I.1 9
  have b3 : (0 : Int) ≤ iI s 11 ∧ iI s 11 ≤ 24 := I.1 11
  have b4 : (0 : Int) ≤ iI s 2 ∧ iI s 2 ≤ 200 := I.1 2
  have b5 : (0 : Int) ≤ iI s 1 ∧ iI s 1 ≤ 200 := I.1 1
  have b6 : (0 : Int) ≤ iI s 4 ∧ iI s 4 ≤ 200 := I.1 4
  refine z_load_n X (x := w) (show cdA 136 0 = some (.iload_n 1, 1, 0, 0, 0) from rfl) (List.Mem.tail _ (List.Mem.head _)) ?_
  refine z_if_lt X (t := 21) (show cdA 136 1 = some (.ifCond .lt 20, 3, 2, 0, 0) from rfl) (by decide) ⟨by first | exact p0.1 | omega, by first | exact p0.2 | omega⟩ (fun g7 => ?_) (fun g7 => ?_)
  ·
    exact z_throw G X E ET hXt q (st := []) (show cdA 136 21 = some (.new 108, 3, 0, 1, 0) from rfl) (by decide) (by decide) (Nat.le_of_ble_eq_true rfl) (show 0 + 1 ≤ 1 by omega) (show 0 + 6 ≤ 6 by omega) (show 0 + 1 ≤ 1 by omega) (show 0 + 6 ≤ 6 by omega) ⟨_, rfl, I, F, Or.inr ⟨0, rfl, by omega⟩⟩
  ·
    refine z_load_n X (x := w) (show cdA 136 4 = some (.iload_n 1, 1, 0, 0, 0) from rfl) (List.Mem.tail _ (List.Mem.head _)) ?_
    refine z_aload_n X (x := A 0) (show cdA 136 5 = some (.aload_n 0, 1, 0, 0, 0) from rfl) (List.Mem.head _) ?_
    refine s_getR X 0 (show cdA 136 6 = some (.getfield 10, 3, 11, 0, 0) from rfl) (by decide) rfl rfl ?_
    refine z_getI X 1 (show cdA 136 9 = some (.getfield 104, 3, 10, 1, 0) from rfl) (by decide) rfl rfl ?_
    have b8 : (0 : Int) ≤ iI s 0 ∧ iI s 0 ≤ 200 := I.1 0
    refine z_icmp_gt X (t := 21) (show cdA 136 12 = some (.if_icmp .gt 9, 3, 4, 0, 0) from rfl) (by decide) ⟨by first | exact p0.1 | omega, by first | exact p0.2 | omega⟩ (rng_to _) (fun g9 => ?_) (fun g9 => ?_)
    ·
      exact z_throw G X E ET hXt q (st := []) (show cdA 136 21 = some (.new 108, 3, 0, 1, 0) from rfl) (by decide) (by decide) (Nat.le_of_ble_eq_true rfl) (show 0 + 1 ≤ 1 by omega) (show 0 + 6 ≤ 6 by omega) (show 0 + 1 ≤ 1 by omega) (show 0 + 6 ≤ 6 by omega) ⟨_, rfl, I, F, Or.inr ⟨0, rfl, by omega⟩⟩
    ·
      refine z_load_n X (x := w) (show cdA 136 15 = some (.iload_n 1, 1, 0, 0, 0) from rfl) (List.Mem.tail _ (List.Mem.head _)) ?_
      refine z_bipush X (show cdA 136 16 = some (.bipush 100, 2, 0, 0, 100) from rfl) ?_
      refine z_icmp_le X (t := 31) (show cdA 136 18 = some (.if_icmp .le 13, 3, 5, 0, 0) from rfl) (by decide) ⟨by first | exact p0.1 | omega, by first | exact p0.2 | omega⟩ (by decide) (fun g10 => ?_) (fun g10 => ?_)
      ·
        refine z_aload_n X (x := A 0) (show cdA 136 31 = some (.aload_n 0, 1, 0, 0, 0) from rfl) (List.Mem.head _) ?_
        refine s_getR X 0 (show cdA 136 32 = some (.getfield 10, 3, 11, 0, 0) from rfl) (by decide) rfl rfl ?_
        refine z_load_n X (x := w) (show cdA 136 35 = some (.iload_n 1, 1, 0, 0, 0) from rfl) (List.Mem.tail _ (List.Mem.head _)) ?_
        refine z_const X (show cdA 136 36 = some (.iconst 0, 1, 0, 0, 0) from rfl) ?_
        refine z_callV X 1 (rm := rmN 128) (As := [.int (Int32.ofInt w), .int (Int32.ofInt 0)]) (st := []) (show cdA 136 37 = some (.invokevirtual 115, 3, 128, 0, 0) from rfl) rfl (by decide) rfl (by rw [E.1, E.2.1, E.2.2.1]; exact c10_open_1 G I (by first | exact ⟨g7, oq_6ab87361 g10⟩ | omega) (by first | exact Or.inl (by decide) | omega)) ⟨by rw [E.2.2.2]; exact (show (rmN 128).frames + 1 ≤ (rmN 136).frames by decide), by rw [E.2.2.2]; exact (show 8 + (mNL (miB 128) + 11) + (rmN 128).locals ≤ (rmN 136).locals by decide), by rw [E.2.2.2]; exact (show 0 + (rmN 128).cells ≤ (rmN 136).cells by decide), by rw [E.2.2.2]; exact (show 0 + (rmN 128).slots ≤ (rmN 136).slots by decide)⟩ (Nat.le_of_ble_eq_true rfl) (fun vv s11 hq => ?_) (fun ee s11 hq => ?_)
        rotate_left
        · obtain ⟨Is11, Fs11, hv, hps11⟩ := hq; cases hv
        obtain ⟨Is11, Fs11, hv, hps11⟩ := hq
        cases hv
        have Gs11 := fm_ts F Fs11 (by decide) (by decide)
        have b13 : (0 : Int) ≤ iI s11 0 ∧ iI s11 0 ≤ 200 := Is11.1 0
        have ws11_9 : iI s11 9 = iI s 9 := fm_i Fs11 (by decide)
        have ws11_11 : iI s11 11 = iI s 11 := fm_i Fs11 (by decide)
        have b14 : (0 : Int) ≤ iI s11 2 ∧ iI s11 2 ≤ 200 := Is11.1 2
        have b15 : (0 : Int) ≤ iI s11 1 ∧ iI s11 1 ≤ 200 := Is11.1 1
        have b16 : (0 : Int) ≤ iI s11 4 ∧ iI s11 4 ≤ 200 := Is11.1 4
        show WS k 40 [(0, .ref (A 0)), (1, .int (Int32.ofInt w))] [] (Wd A dT s11) 0 0
        refine z_aload_n X (x := A 0) (show cdA 136 40 = some (.aload_n 0, 1, 0, 0, 0) from rfl) (List.Mem.head _) ?_
        refine s_getR X 0 (show cdA 136 41 = some (.getfield 19, 3, 11, 1, 0) from rfl) (by decide) rfl rfl ?_
        refine z_aload_n X (x := A 0) (show cdA 136 44 = some (.aload_n 0, 1, 0, 0, 0) from rfl) (List.Mem.head _) ?_
        refine s_getR X 0 (show cdA 136 45 = some (.getfield 10, 3, 11, 0, 0) from rfl) (by decide) rfl rfl ?_
        refine z_callV X 3 (rm := rmN 103) (As := [.ref (A 1)]) (st := []) (show cdA 136 48 = some (.invokevirtual 119, 3, 103, 0, 0) from rfl) rfl (by decide) rfl (by rw [E.1, E.2.1, E.2.2.1]; exact c9_readWay_3 G Is11 (by first | exact hps11.2.1 | omega) (by first | exact hps11.2.2 | omega)) ⟨by rw [E.2.2.2]; exact (show (rmN 103).frames + 1 ≤ (rmN 136).frames by decide), by rw [E.2.2.2]; exact (show 8 + (mNL (miB 103) + 11) + (rmN 103).locals ≤ (rmN 136).locals by decide), by rw [E.2.2.2]; exact (show 0 + (rmN 103).cells ≤ (rmN 136).cells by decide), by rw [E.2.2.2]; exact (show 0 + (rmN 103).slots ≤ (rmN 136).slots by decide)⟩ (Nat.le_of_ble_eq_true rfl) (fun vv s17 hq => ?_) (fun ee s17 hq => ?_)
        rotate_left
        · obtain ⟨Is17, Fs17, e18, hv, hrs17, hps17⟩ := hq; cases hv
        obtain ⟨Is17, Fs17, e18, hv, hrs17, hps17⟩ := hq
        cases hv
        have Gs17 := fm_ts Gs11 Fs17 (by decide) (by decide)
        have ws17_0 : iI s17 0 = iI s11 0 := fm_i Fs17 (by decide)
        have ws17_9 : iI s17 9 = iI s11 9 := fm_i Fs17 (by decide)
        have b19 : (0 : Int) ≤ iI s17 11 ∧ iI s17 11 ≤ 24 := Is17.1 11
        have b20 : (0 : Int) ≤ iI s17 2 ∧ iI s17 2 ≤ 200 := Is17.1 2
        have ws17_1 : iI s17 1 = iI s11 1 := fm_i Fs17 (by decide)
        have b21 : (0 : Int) ≤ iI s17 4 ∧ iI s17 4 ≤ 200 := Is17.1 4
        show WS k 51 [(0, .ref (A 0)), (1, .int (Int32.ofInt w))] [.int (Int32.ofInt e18)] (Wd A dT s17) 0 0
        refine z_if_ne X (t := 65) (show cdA 136 51 = some (.ifCond .ne 14, 3, 1, 0, 0) from rfl) (by decide) hrs17 (fun g22 => ?_) (fun g22 => ?_)
        ·
          refine z_aload_n X (x := A 0) (show cdA 136 65 = some (.aload_n 0, 1, 0, 0, 0) from rfl) (List.Mem.head _) ?_
          refine s_getR X 0 (show cdA 136 66 = some (.getfield 19, 3, 11, 1, 0) from rfl) (by decide) rfl rfl ?_
          refine z_callV X 3 (rm := rmN 106) (As := []) (st := []) (show cdA 136 69 = some (.invokevirtual 126, 3, 106, 0, 0) from rfl) rfl (by decide) rfl (by rw [E.1, E.2.1, E.2.2.1]; exact c9_addTrial_3 G Is17 ) ⟨by rw [E.2.2.2]; exact (show (rmN 106).frames + 1 ≤ (rmN 136).frames by decide), by rw [E.2.2.2]; exact (show 8 + (mNL (miB 106) + 11) + (rmN 106).locals ≤ (rmN 136).locals by decide), by rw [E.2.2.2]; exact (show 0 + (rmN 106).cells ≤ (rmN 136).cells by decide), by rw [E.2.2.2]; exact (show 0 + (rmN 106).slots ≤ (rmN 136).slots by decide)⟩ (Nat.le_of_ble_eq_true rfl) (fun vv s23 hq => ?_) (fun ee s23 hq => ?_)
          rotate_left
          · obtain ⟨Is23, Fs23, e24, hv, hrs23, hps23⟩ := hq; cases hv
          obtain ⟨Is23, Fs23, e24, hv, hrs23, hps23⟩ := hq
          cases hv
          have Gs23 := fm_ts Gs17 Fs23 (by decide) (by decide)
          have ws23_0 : iI s23 0 = iI s17 0 := fm_i Fs23 (by decide)
          have b25 : (0 : Int) ≤ iI s23 9 ∧ iI s23 9 ≤ 12 := Is23.1 9
          have ws23_11 : iI s23 11 = iI s17 11 := fm_i Fs23 (by decide)
          have ws23_2 : iI s23 2 = iI s17 2 := fm_i Fs23 (by decide)
          have ws23_1 : iI s23 1 = iI s17 1 := fm_i Fs23 (by decide)
          have ws23_4 : iI s23 4 = iI s17 4 := fm_i Fs23 (by decide)
          show WS k 72 [(0, .ref (A 0)), (1, .int (Int32.ofInt w))] [.int (Int32.ofInt e24)] (Wd A dT s23) 0 0
          exact w_iret X.1 q hRt rfl (ax_d X (show cdA 136 72 = some (.ireturn, 1, 0, 0, 0) from rfl)) (Nat.zero_le _) (Nat.zero_le _) ⟨_, rfl, Is23, Gs23, Or.inl ⟨e24, rfl, hrs23, by first | exact ⟨oq_7fe879e0 ws23_0 ws17_0 hps11.1 b13.1, g7, g9, g10⟩ | omega⟩⟩
        ·
          refine z_aload_n X (x := A 0) (show cdA 136 54 = some (.aload_n 0, 1, 0, 0, 0) from rfl) (List.Mem.head _) ?_
          refine s_getR X 0 (show cdA 136 55 = some (.getfield 10, 3, 11, 0, 0) from rfl) (by decide) rfl rfl ?_
          refine z_getI X 1 (show cdA 136 58 = some (.getfield 123, 3, 10, 8, 0) from rfl) (by decide) rfl rfl ?_
          have b26 : (0 : Int) ≤ iI s17 7 ∧ iI s17 7 ≤ 9 := Is17.1 7
          refine z_bipush X (show cdA 136 61 = some (.bipush 10, 2, 0, 0, 10) from rfl) ?_
          refine z_sub X (show cdA 136 63 = some (.isub, 1, 0, 0, 0) from rfl) ?_
          exact w_iret X.1 q hRt rfl (ax_d X (show cdA 136 64 = some (.ireturn, 1, 0, 0, 0) from rfl)) (Nat.zero_le _) (Nat.zero_le _) ⟨_, rfl, Is17, Gs17, Or.inl ⟨((iI s17 7) - 10), rfl, ⟨by first | exact oq_d3c9ade5 b26.1 | omega, by first | exact oq_71609f9f b26.2 | omega⟩, by first | exact ⟨oq_333640b7 ws17_0 hps11.1 b13.1, g7, g9, g10⟩ | omega⟩⟩
      ·
        exact z_throw G X E ET hXt q (st := []) (show cdA 136 21 = some (.new 108, 3, 0, 1, 0) from rfl) (by decide) (by decide) (Nat.le_of_ble_eq_true rfl) (show 0 + 1 ≤ 1 by omega) (show 0 + 6 ≤ 6 by omega) (show 0 + 1 ≤ 1 by omega) (show 0 + 6 ≤ 6 by omega) ⟨_, rfl, I, F, Or.inr ⟨0, rfl, by omega⟩⟩
end M82
