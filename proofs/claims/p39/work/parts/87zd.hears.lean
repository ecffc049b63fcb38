theorem oq_48516caf {a0 a1 a2 a3 : Int} (h0 : a0 = 0) (h1 : ((1 = 1 ∧ (a1 = 0 ∧ (a2 = 1 ∧ a0 = 1))) ∨ ((1 = 0 ∨ a1 ≠ 0) ∧ (a2 = a1 ∧ ((a0 = 0 ∧ a1 = 0) ∨ (a0 = 1 ∧ a1 ≠ 0)))))) (h2 : a1 = 0) : a3 ≤ 23 := by omega
theorem oq_1c2f1f5a {a0 a1 a2 a3 : Int} (h0 : a0 = 0) (h1 : ((1 = 1 ∧ (a1 = 0 ∧ (a2 = 1 ∧ a0 = 1))) ∨ ((1 = 0 ∨ a1 ≠ 0) ∧ (a2 = a1 ∧ ((a0 = 0 ∧ a1 = 0) ∨ (a0 = 1 ∧ a1 ≠ 0)))))) (h2 : a1 = 0) : a3 < 7 := by omega
theorem oq_aad1a907 {a0 a1 a2 a3 : Int} (h0 : a0 = 0) (h1 : ((1 = 1 ∧ (a1 = 0 ∧ (a2 = 1 ∧ a0 = 1))) ∨ ((1 = 0 ∨ a1 ≠ 0) ∧ (a2 = a1 ∧ ((a0 = 0 ∧ a1 = 0) ∨ (a0 = 1 ∧ a1 ≠ 0)))))) (h2 : a1 = 0) : (a3 : Int).toNat < 7 := by omega
theorem oq_55558d00 {a0 a1 a2 a3 : Int} (h0 : a0 = 0) (h1 : ((1 = 1 ∧ (a1 = 0 ∧ (a2 = 1 ∧ a0 = 1))) ∨ ((1 = 0 ∨ a1 ≠ 0) ∧ (a2 = a1 ∧ ((a0 = 0 ∧ a1 = 0) ∨ (a0 = 1 ∧ a1 ≠ 0)))))) (h2 : a1 = 0) : a3 ≤ 4 := by omega
theorem oq_3904add8 {a0 a1 a2 a3 a4 a5 : Int} (h0 : a0 = a1) (h1 : a1 = a2) (h2 : a2 = a3) (h3 : a4 = 0) (h4 : 0 ≤ a3) (h5 : ((1 = 1 ∧ (a5 = 0 ∧ (a3 = 1 ∧ a4 = 1))) ∨ ((1 = 0 ∨ a5 ≠ 0) ∧ (a3 = a5 ∧ ((a4 = 0 ∧ a5 = 0) ∨ (a4 = 1 ∧ a5 ≠ 0)))))) (h6 : a5 = 0) : a0 = 0 := by omega
theorem oq_fe46c430 {a0 : Int} (h0 : a0 = 4) : 0 ≤ a0 := by omega
theorem oq_ea7bd008 {a0 a1 a2 a3 : Int} (h0 : a0 = 0) (h1 : ((a0 = 1 ∧ (0 ≤ a1 ∧ a1 ≤ 7)) ∨ (a0 = 0 ∧ (a1 < 0 ∨ 7 < a1)))) : (a1 < 0 ∨ (7 < a1 ∨ (a2 < 0 ∨ (23 < a2 ∨ (a3 < 0 ∨ 4 < a3))))) := by omega
theorem oq_4764d6a0 {a0 a1 a2 a3 : Int} (h0 : a0 = 0) (h1 : ((a0 = 1 ∧ (0 ≤ a1 ∧ a1 ≤ 23)) ∨ (a0 = 0 ∧ (a1 < 0 ∨ 23 < a1)))) : (a2 < 0 ∨ (7 < a2 ∨ (a1 < 0 ∨ (23 < a1 ∨ (a3 < 0 ∨ 4 < a3))))) := by omega
theorem oq_c95d1471 {a0 a1 : Int} (h0 : a0 ≠ 0) (h1 : ((a0 = 1 ∧ (0 ≤ a1 ∧ a1 ≤ 4)) ∨ (a0 = 0 ∧ (a1 < 0 ∨ 4 < a1)))) : 0 ≤ a1 := by omega
theorem oq_f36852f8 {a0 a1 : Int} (h0 : a0 ≠ 0) (h1 : ((a0 = 1 ∧ (0 ≤ a1 ∧ a1 ≤ 4)) ∨ (a0 = 0 ∧ (a1 < 0 ∨ 4 < a1)))) : a1 < 7 := by omega
theorem oq_4ae48de2 {a0 a1 : Int} (h0 : a0 ≠ 0) (h1 : ((a0 = 1 ∧ (0 ≤ a1 ∧ a1 ≤ 4)) ∨ (a0 = 0 ∧ (a1 < 0 ∨ 4 < a1)))) : (a1 : Int).toNat < 7 := by omega
theorem oq_8faa6696 {a0 a1 : Int} (h0 : a0 ≠ 0) (h1 : ((a0 = 1 ∧ (0 ≤ a1 ∧ a1 ≤ 4)) ∨ (a0 = 0 ∧ (a1 < 0 ∨ 4 < a1)))) : a1 ≤ 4 := by omega
theorem oq_851b6b8b {a0 a1 a2 a3 a4 a5 : Int} (h0 : a0 = a1) (h1 : a1 = a2) (h2 : a2 = a3) (h3 : 0 ≤ a3) (h4 : ((0 = 1 ∧ (a4 = 0 ∧ (a3 = 1 ∧ a5 = 1))) ∨ ((0 = 0 ∨ a4 ≠ 0) ∧ (a3 = a4 ∧ ((a5 = 0 ∧ a4 = 0) ∨ (a5 = 1 ∧ a4 ≠ 0)))))) (h5 : a4 = 0) : a0 = 0 := by omega
theorem oq_5acfafb1 {a0 a1 a2 a3 a4 a5 : Int} (h0 : a0 ≠ 0) (h1 : ((0 = 1 ∧ (a1 = 0 ∧ (a2 = 1 ∧ a0 = 1))) ∨ ((0 = 0 ∨ a1 ≠ 0) ∧ (a2 = a1 ∧ ((a0 = 0 ∧ a1 = 0) ∨ (a0 = 1 ∧ a1 ≠ 0)))))) (h2 : a1 = 0) : (a3 < 0 ∨ (7 < a3 ∨ (a4 < 0 ∨ (23 < a4 ∨ (a5 < 0 ∨ 4 < a5))))) := by omega
theorem oq_9aec46d5 {a0 a1 a2 a3 : Int} (h0 : a0 = 0) (h1 : ((a0 = 1 ∧ (0 ≤ a1 ∧ a1 ≤ 4)) ∨ (a0 = 0 ∧ (a1 < 0 ∨ 4 < a1)))) : (a2 < 0 ∨ (7 < a2 ∨ (a3 < 0 ∨ (23 < a3 ∨ (a1 < 0 ∨ 4 < a1))))) := by omega
theorem oq_927d1ede {a0 a1 : Int} (h0 : 24 ≤ a0) (h1 : a0 ≤ 24) : (a1 = 1 → a0 = 24) := by omega
theorem oq_3bf7c99f {a0 a1 : Int} (h0 : a0 = a1) (h1 : a1 ≤ 1) : a0 ≤ 2147483647 := by omega
theorem oq_ade2c074 {a0 a1 a2 : Int} (h0 : a0 ≠ 1) (h1 : a1 ≤ 1) (h2 : a0 = a1) : (a1 = 1 → a2 = 24) := by omega
theorem oq_c4dc4762 {a0 a1 a2 a3 a4 a5 : Int} (h0 : a0 = 0) (h1 : ((1 = 1 ∧ (a1 = 0 ∧ (a2 = 1 ∧ a0 = 1))) ∨ ((1 = 0 ∨ a1 ≠ 0) ∧ (a2 = a1 ∧ ((a0 = 0 ∧ a1 = 0) ∨ (a0 = 1 ∧ a1 ≠ 0)))))) (h2 : a1 = 0) : (a3 = a3 ∧ (a4 = a4 ∧ ((-2147483648) ≤ a5 ∧ a5 ≤ 2147483647))) := by omega
theorem oq_d2435177 {a0 a1 a2 a3 a4 : Int} (h0 : a0 = 0) (h1 : ((1 = 1 ∧ (a1 = 0 ∧ (a2 = 1 ∧ a0 = 1))) ∨ ((1 = 0 ∨ a1 ≠ 0) ∧ (a2 = a1 ∧ ((a0 = 0 ∧ a1 = 0) ∨ (a0 = 1 ∧ a1 ≠ 0)))))) (h2 : a1 = 0) : (0 ≤ a3 ∧ (a3 ≤ 7 ∧ (0 ≤ a4 ∧ a4 ≤ 1))) := by omega
theorem oq_0897eb71 {a0 a1 a2 : Int} (h0 : a0 = 0) (h1 : ((a0 = 1 ∧ (0 ≤ a1 ∧ a1 ≤ 7)) ∨ (a0 = 0 ∧ (a1 < 0 ∨ 7 < a1)))) : (a1 < 0 ∨ (7 < a1 ∨ (a2 < 0 ∨ 1 < a2))) := by omega
theorem oq_79d75020 {a0 a1 a2 a3 : Int} (h0 : a0 ≠ 0) (h1 : ((a0 = 1 ∧ (0 ≤ a1 ∧ a1 ≤ 1)) ∨ (a0 = 0 ∧ (a1 < 0 ∨ 1 < a1)))) (h2 : a2 ≠ 0) (h3 : ((a2 = 1 ∧ (0 ≤ a3 ∧ a3 ≤ 7)) ∨ (a2 = 0 ∧ (a3 < 0 ∨ 7 < a3)))) : (0 ≤ a3 ∧ (a3 ≤ 7 ∧ (0 ≤ a1 ∧ a1 ≤ 1))) := by omega
theorem oq_4cd35edf {a0 a1 a2 a3 a4 : Int} (h0 : a0 ≠ 0) (h1 : ((0 = 1 ∧ (a1 = 0 ∧ (a2 = 1 ∧ a0 = 1))) ∨ ((0 = 0 ∨ a1 ≠ 0) ∧ (a2 = a1 ∧ ((a0 = 0 ∧ a1 = 0) ∨ (a0 = 1 ∧ a1 ≠ 0)))))) (h2 : a1 = 0) : (a3 < 0 ∨ (7 < a3 ∨ (a4 < 0 ∨ 1 < a4))) := by omega
theorem oq_b8f25f0a {a0 a1 a2 : Int} (h0 : a0 = 0) (h1 : ((a0 = 1 ∧ (0 ≤ a1 ∧ a1 ≤ 1)) ∨ (a0 = 0 ∧ (a1 < 0 ∨ 1 < a1)))) : (a2 < 0 ∨ (7 < a2 ∨ (a1 < 0 ∨ 1 < a1))) := by omega
/-! What is heard, where the peak is: one answer -/
theorem mow_n {U : AirD} {q : Nat} : moW U q (-1) = uM U q := funext (fun x => if_neg (by omega))
def HRE (U : AirD) (f : Nat → Int) (p q w e : Int) : Prop := rng e ∧ ((w = 4 ∧ Int32.ofInt e = ldH U (pcS f p) 1 q.toNat (-1)) ∨ (w ≠ 4 ∧ Int32.ofInt e = nmH (pcS f p) (uW U) (moW U q.toNat (-1)) (uN U) 1 w.toNat))
theorem hre_eq {U : AirD} {f f' : Nat → Int} {p q w e e' : Int} (h : ∀ j, j < 128 → f j = f' j) (a : HRE U f p q w e) (b : HRE U f' p q w e') : e = e' := by
  obtain ⟨r, a⟩ := a
  obtain ⟨r', b⟩ := b
  rw [← pcs_c h p] at b
  have z : Int32.ofInt e = Int32.ofInt e' := by
    rcases a with ⟨a1, a2⟩ | ⟨a1, a2⟩
    · rcases b with ⟨b1, b2⟩ | ⟨b1, b2⟩
      · exact a2.trans b2.symm
      · exact absurd a1 b1
    · rcases b with ⟨b1, b2⟩ | ⟨b1, b2⟩
      · exact absurd b1 a1
      · exact a2.trans b2.symm
  have q9 := congrArg Int32.toInt z
  rw [zi r, zi r'] at q9
  exact q9
theorem pq_first {f : Nat → Int} : ∀ n : Nat, f (pqF f n) = pkF f n ∧ pqF f n ≤ n ∧ ∀ q, q < pqF f n → f q < pkF f n
  | 0 => ⟨rfl, Nat.le_refl _, fun q hq => absurd hq (Nat.not_lt_zero _)⟩
  | n + 1 => by
    obtain ⟨h1, h2, h3⟩ := pq_first (f := f) n
    by_cases c : pkF f n < f (n + 1)
    · have e1 : pkF f (n + 1) = f (n + 1) := if_pos c
      have e2 : pqF f (n + 1) = n + 1 := if_pos c
      rw [e1, e2]
      refine ⟨rfl, Nat.le_refl _, fun q hq => ?_⟩
      have g := pk_ge (f := f) (n := n) (k := q) (by omega)
      omega
    · have e1 : pkF f (n + 1) = pkF f n := if_neg c
      have e2 : pqF f (n + 1) = pqF f n := if_neg c
      rw [e1, e2]
      exact ⟨h1, by omega, h3⟩
/-- the peak, and its first quarter -/
def PKE (U : AirD) (f : Nat → Int) (p w e : Int) : Prop := (w = 0 ∧ e = pkH U (pcS f p)) ∨ (w ≠ 0 ∧ e = ((pqF (lqH U (pcS f p)) 23 : Nat) : Int))
theorem pke_eq {U : AirD} {f f' : Nat → Int} {p w e e' : Int} (h : ∀ j, j < 128 → f j = f' j) (a : PKE U f p w e) (b : PKE U f' p w e') : e = e' := by
  unfold PKE at a b
  rw [← pcs_c h p] at b
  omega
/-- no quarter below n has the peak -/
def NPQ (g : Nat → Int) (m n : Int) : Prop := ∀ q : Nat, (q : Int) < n → g q ≠ m
theorem npq_up {g : Nat → Int} {m n v : Int} (h : NPQ g m n) (n0 : 0 ≤ n) (hv : v = g n.toNat) (hn : v ≠ m) : NPQ g m (n + 1) := fun q hq => by
  by_cases z : q = n.toNat
  · rw [z, ← hv]; exact hn
  · exact h q (by omega)
theorem npq_e {g : Nat → Int} {m n v : Int} (h : NPQ g m n) (n0 : 0 ≤ n ∧ n ≤ 23) (hm : m = pkF g 23) (hv : v = g n.toNat) (hn : v = m) : n = ((pqF g 23 : Nat) : Int) := by
  obtain ⟨h1, h2, h3⟩ := pq_first (f := g) 23
  have a : ¬ n.toNat < pqF g 23 := fun q => by
    have := h3 _ q
    rw [← hv, hn, hm] at this
    omega
  have b : ¬ pqF g 23 < n.toNat := fun q => h (pqF g 23) (by omega) (by rw [h1, hm])
  omega
theorem npq_no {g : Nat → Int} {m : Int} (h : NPQ g m 24) (hm : m = pkF g 23) : False := by
  obtain ⟨h1, h2, h3⟩ := pq_first (f := g) 23
  exact h (pqF g 23) (by omega) (by rw [h1, hm])
section M87kd
variable {l : Launch} {s0 : State} {D : va_G} {tys : List (ClassId × FieldType)} {a0 : Array Value} {A : Nat → Nat} {dT : Nat → ClassId} {s : PS}
set_option maxRecDepth 4000 in
theorem cs_needQuarter6 (G : GX l s0 D tys a0 dT) (I : Bd s) {v : Int} (p0 : rng v) : CT l s0 D A dT 183 (rmN 183) [.ref (A 0), .int (Int32.ofInt v)] s (fun o t => Bd t ∧ Fm [] [] s t ∧ ((o = .inl none ∧ (0 ≤ v ∧ v ≤ 23)) ∨ ∃ x : Nat, o = .inr (exN x) ∧ (x = 0 ∧ (v < 0 ∨ 23 < v)))) := by
  refine ct_ofX G (by decide) (Nat.le_of_ble_eq_true rfl) (fun k X E ET hRt hXt q => ?_)
  show WS k 0 [(0, .ref (A 0)), (1, .int (Int32.ofInt v))] [] _ 0 0
  have F : Fm [] [] s s := fm_rf _ _ s
  refine z_aload_n X (x := A 0) rfl (List.Mem.head _) (z_load_n X (x := v) rfl (List.Mem.tail _ (List.Mem.head _)) (z_const X rfl (z_bipush X rfl (z_callV X 0 (rm := rmN 184) (As := [.int (Int32.ofInt v), .int (Int32.ofInt 0), .int (Int32.ofInt 23)]) (st := []) rfl rfl (by decide) rfl (by rw [E.1, E.2.1, E.2.2.1]; exact cs_needWithin2 G I (by first | exact ⟨p0.1, p0.2⟩ | omega) (by first | exact ⟨by decide, by decide⟩ | omega) (by first | exact ⟨by decide, by decide⟩ | omega)) ⟨by rw [E.2.2.2]; exact (show (rmN 184).frames + 1 ≤ (rmN 183).frames by decide), by rw [E.2.2.2]; exact (show 8 + (mNL (miB 184) + 11) + (rmN 184).locals ≤ (rmN 183).locals by decide), by rw [E.2.2.2]; exact (show 0 + 1 ≤ 1 by decide), by rw [E.2.2.2]; exact (show 0 + 6 ≤ 6 by decide)⟩ (Nat.le_of_ble_eq_true rfl) (fun vv s1 hq => ?_) (fun ee s1 hq => ?_)))))
  rotate_left
  · obtain ⟨Is1, Fs1, (⟨hv, hps1⟩ | ⟨xx, hv, hps1⟩)⟩ := hq
    · cases hv
    · cases hv
      have Gs1 := fm_tq F Fs1 rfl rfl
      exact x_out X.1 q (fun x hx => (hXt x hx).elim) (show 1 ≤ 1 by decide) (show 6 ≤ 6 by decide) ⟨_, rfl, Is1, Gs1, Or.inr ⟨xx, rfl, by omega⟩⟩
  obtain ⟨Is1, Fs1, (⟨hv, hps1⟩ | ⟨xx, hv, hps1⟩)⟩ := hq
  rotate_left
  · cases hv
  cases hv
  have Gs1 := fm_tq F Fs1 rfl rfl
  show WS k 8 [(0, .ref (A 0)), (1, .int (Int32.ofInt v))] [] (Wd A dT s1) 1 6
  exact w_vret X.1 q hRt (ax_d X (show cdA 183 8 = some (.return_, 1, 0, 0, 0) from rfl)) (show 1 ≤ 1 by decide) (show 6 ≤ 6 by decide) ⟨_, rfl, Is1, Gs1, Or.inl ⟨rfl, by first | exact ⟨hps1.1, hps1.2⟩ | omega⟩⟩
set_option maxRecDepth 4000 in
theorem cs_listenTo6 (G : GX l s0 D tys a0 dT) (I : Bd s) {x : Int} (p0 : 0 ≤ x ∧ x ≤ 7) : CT l s0 D A dT 179 (rmN 179) [.ref (A 0), .int (Int32.ofInt x)] s (fun o t => Bd t ∧ Fm [22, 23] [33, 26, 27, 28, 29, 30, 31, 32] s t ∧ o = .inl none ∧ (LSN (gD s 22 (x : Int).toNat) (gD s 23 (x : Int).toNat) t ∧ HEH (gD s 22 (x : Int).toNat) (gD s 23 (x : Int).toNat) 1 t)) := by
  refine ct_ofX G (by decide) (Nat.le_of_ble_eq_true rfl) (fun k X E ET hRt hXt q => ?_)
  show WS k 0 [(0, .ref (A 0)), (1, .int (Int32.ofInt x))] [] _ 0 0
  have F : Fm [22, 23] [33, 26, 27, 28, 29, 30, 31, 32] s s := fm_rf _ _ s
  refine z_aload_n X (x := A 0) rfl (List.Mem.head _) (s_getR X 0 rfl (c518_ok rfl) rfl rfl (z_aload_n X (x := A 0) rfl (List.Mem.head _) (s_getR X 0 rfl (c518_ok rfl) rfl rfl (s_getR X 25 rfl (c518_ok rfl) rfl rfl (z_load_n X (x := x) rfl (List.Mem.tail _ (List.Mem.head _)) (z_lalE X 27 rfl (by decide) rfl (by first | exact p0.1 | omega) (show x < 8 by first | exact oq_aaea290e p0.2 | omega) (by decide) (z_aload_n X (x := A 0) rfl (List.Mem.head _) (s_getR X 0 rfl (c518_ok rfl) rfl rfl (s_getR X 25 rfl (c518_ok rfl) rfl rfl (z_load_n X (x := x) rfl (List.Mem.tail _ (List.Mem.head _)) (z_lalE X 28 rfl (by decide) rfl (by first | exact p0.1 | omega) (show x < 8 by first | exact oq_aaea290e p0.2 | omega) (by decide) ?_)))))))))))
  refine z_const X rfl (zcV_v0 X E 31 (As := [.long (gD s 22 (x).toNat), .long (gD s 23 (x).toNat), .int (Int32.ofInt 1)]) (st := []) rfl rfl rfl rfl (c0_listen3 G I (by first | exact ⟨by decide, by decide⟩ | omega)) rfl (Nat.le_of_ble_eq_true rfl) (fun s1 Is1 Fs1 hps1 => ?_))
  have Gs1 := fm_tq F Fs1 rfl rfl
  exact w_vret X.1 q hRt (ax_d X (show cdA 179 26 = some (.return_, 1, 0, 0, 0) from rfl)) (Nat.zero_le _) (Nat.zero_le _) ⟨_, rfl, Is1, Gs1, rfl, hps1⟩
set_option maxRecDepth 4000 in
theorem c0_loadAt6 (G : GX l s0 D tys a0 dT) {U : AirD} {aj bj : Int64} {pc : Int} (I : Bd s) (jAIR : AIR s) (jCPL : CPL s) (jLSN : LSN aj bj s) (jCDJ : CDJ U s) (jHEH : HEH aj bj pc s) {x y : Int} (p0 : 0 ≤ x ∧ x ≤ 23) (p1 : rng y) : CT l s0 D A dT 4 (rmN 4) [.ref (A 31), .int (Int32.ofInt x), .int (Int32.ofInt y)] s (fun o t => Bd t ∧ Fm [] [33, 20] s t ∧ HEH aj bj pc t ∧ ∃ e, o = .inl (some (.int (Int32.ofInt e))) ∧ rng e ∧ (Int32.ofInt e = ldH U (inL aj bj) pc (x : Int).toNat y ∧ ∀ j, j < 7 → Int32.ofInt (iC t 33 j) = nmH (inL aj bj) (uW U) (moW U (x : Int).toNat y) (uN U) pc j)) := by
  refine ct_ofX G (by decide) (Nat.le_of_ble_eq_true rfl) (fun k X E ET hRt hXt q => ?_)
  show WS k 0 [(0, .ref (A 31)), (1, .int (Int32.ofInt x)), (2, .int (Int32.ofInt y))] [] _ 0 0
  have F : Fm [] [33, 20] s s := fm_rf _ _ s
  refine z_aload_n X (x := A 31) rfl (List.Mem.head _) (z_load_n X (x := x) rfl (List.Mem.tail _ (List.Mem.head _)) (z_load_n X (x := y) rfl (List.Mem.tail _ (List.Mem.tail _ (List.Mem.head _))) (zcV_v0 X E 31 (As := [.int (Int32.ofInt x), .int (Int32.ofInt y)]) (st := []) rfl rfl rfl rfl (c0_hear3 G I jLSN (by first | exact ⟨p0.1, p0.2⟩ | omega) (by first | exact ⟨p1.1, p1.2⟩ | omega)) rfl (Nat.le_of_ble_eq_true rfl) (fun s1 Is1 Fs1 hps1 => ?_))))
  have Gs1 := fm_tq F Fs1 rfl rfl
  have JH9 : HEH aj bj pc s1 := heh_h jHEH hps1
  refine z_aload_n X (x := A 31) rfl (List.Mem.head _) (s_getR X 31 rfl (c518_ok rfl) rfl rfl (z_aload_n X (x := A 31) rfl (List.Mem.head _) (s_getR X 31 rfl (c518_ok rfl) rfl rfl (z_getI X 19 rfl (c518_ok rfl) rfl rfl ?_))))
  have b3 := bi_13 Is1
  refine z_aload_n X (x := A 31) rfl (List.Mem.head _) (s_getR X 31 rfl (c518_ok rfl) rfl rfl (zcV_i0 X E 19 (As := [.int (Int32.ofInt (iI s1 13)), .ref (A 39)]) (st := []) rfl rfl rfl rfl (c7_work3 G Is1 (by first | exact ⟨b3.1, b3.2⟩ | omega)) rfl (Nat.le_of_ble_eq_true rfl) (fun s4 e5 Is4 Fs4 hrs4 hps4 => ?_)))
  have Gs4 := fm_tq Gs1 Fs4 rfl rfl
  have JHEH_s4 : HEH aj bj pc s4 := HEH_fm Fs4 (by decide) JH9
  exact w_iret X.1 q hRt rfl (ax_d X (show cdA 4 24 = some (.ireturn, 1, 0, 0, 0) from rfl)) (Nat.zero_le _) (Nat.zero_le _) ⟨_, rfl, Is4, Gs4, JHEH_s4, e5, rfl, hrs4, ⟨cl_load jAIR jCPL jLSN jHEH jCDJ hps1 (by first | (clear hps4; omega) | omega) (fm_i Fs1 (by decide)) (cdl_fm Fs1 (by decide) (by decide)) hps4, fun j hj => by rw [(fm_c Fs4 (by decide) : iC s4 33 j = iC s1 33 j)]; exact cl_names jAIR jCPL jLSN jHEH jCDJ hps1 (by first | (clear hps4; omega) | omega) j hj⟩⟩
set_option maxRecDepth 4000 in
theorem cs_hears6 (G : GX l s0 D tys a0 dT) {U : AirD} (I : Bd s) (jAIR : AIR s) (jCPL : CPL s) (jCDJ : CDJ U s) (jPMJ : PMJ s) {u v w : Int} (p0 : rng u) (p1 : rng v) (p2 : rng w) : CT l s0 D A dT 146 (rmN 146) [.ref (A 0), .int (Int32.ofInt u), .int (Int32.ofInt v), .int (Int32.ofInt w)] s (fun o t => Bd t ∧ Fm [22, 23] [33, 26, 27, 28, 29, 30, 31, 32, 20] s t ∧ ((∃ e, o = .inl (some (.int (Int32.ofInt e))) ∧ rng e ∧ ((0 ≤ u ∧ u ≤ 7) ∧ (0 ≤ v ∧ v ≤ 23) ∧ (0 ≤ w ∧ w ≤ 4) ∧ HRE U (pfC s) u v w e)) ∨ ∃ x : Nat, o = .inr (exN x) ∧ (x = 0 ∧ (u < 0 ∨ 7 < u ∨ v < 0 ∨ 23 < v ∨ w < 0 ∨ 4 < w)))) := by
  refine ct_ofX G (by decide) (Nat.le_of_ble_eq_true rfl) (fun k X E ET hRt hXt q => ?_)
  show WS k 0 [(0, .ref (A 0)), (1, .int (Int32.ofInt u)), (2, .int (Int32.ofInt v)), (3, .int (Int32.ofInt w))] [] _ 0 0
  have F : Fm [22, 23] [33, 26, 27, 28, 29, 30, 31, 32, 20] s s := fm_rf _ _ s
  refine z_aload_n X (x := A 0) rfl (List.Mem.head _) (z_load_n X (x := u) rfl (List.Mem.tail _ (List.Mem.head _)) (z_callV X 0 (rm := rmN 182) (As := [.int (Int32.ofInt u)]) (st := []) rfl rfl (by decide) rfl (by rw [E.1, E.2.1, E.2.2.1]; exact cs_needPiece6 G I (by first | exact ⟨p0.1, p0.2⟩ | omega)) ⟨by rw [E.2.2.2]; exact (show (rmN 182).frames + 1 ≤ (rmN 146).frames by decide), by rw [E.2.2.2]; exact (show 8 + (mNL (miB 182) + 11) + (rmN 182).locals ≤ (rmN 146).locals by decide), by rw [E.2.2.2]; exact (show 0 + 1 ≤ 3 by decide), by rw [E.2.2.2]; exact (show 0 + 6 ≤ 18 by decide)⟩ (Nat.le_of_ble_eq_true rfl) (fun vv s1 hq => ?_) (fun ee s1 hq => ?_)))
  rotate_left
  · obtain ⟨Is1, Fs1, (⟨hv, hps1⟩ | ⟨xx, hv, hps1⟩)⟩ := hq
    · cases hv
    · cases hv
      have Gs1 := fm_tq F Fs1 rfl rfl
      have JAIR_s1 : AIR s1 := AIR_fm Fs1 (by decide) jAIR
      have JCPL_s1 : CPL s1 := CPL_fm Fs1 (by decide) jCPL
      have JCDJ_s1 : CDJ U s1 := CDJ_fm Fs1 (by decide) jCDJ
      have JPMJ_s1 : PMJ s1 := PMJ_fm Fs1 (by decide) jPMJ
      exact x_out X.1 q (fun x hx => (hXt x hx).elim) (show 1 ≤ 3 by decide) (show 6 ≤ 18 by decide) ⟨_, rfl, Is1, Gs1, Or.inr ⟨xx, rfl, by omega⟩⟩
  obtain ⟨Is1, Fs1, (⟨hv, hps1⟩ | ⟨xx, hv, hps1⟩)⟩ := hq
  rotate_left
  · cases hv
  cases hv
  have Gs1 := fm_tq F Fs1 rfl rfl
  have JAIR_s1 : AIR s1 := AIR_fm Fs1 (by decide) jAIR
  have JCPL_s1 : CPL s1 := CPL_fm Fs1 (by decide) jCPL
  have JCDJ_s1 : CDJ U s1 := CDJ_fm Fs1 (by decide) jCDJ
  have JPMJ_s1 : PMJ s1 := PMJ_fm Fs1 (by decide) jPMJ
  show WS k 5 [(0, .ref (A 0)), (1, .int (Int32.ofInt u)), (2, .int (Int32.ofInt v)), (3, .int (Int32.ofInt w))] [] (Wd A dT s1) 1 6
  refine z_aload_n X (x := A 0) rfl (List.Mem.head _) (z_load_n X (x := v) rfl (List.Mem.tail _ (List.Mem.tail _ (List.Mem.head _))) (z_callV X 0 (rm := rmN 183) (As := [.int (Int32.ofInt v)]) (st := []) rfl rfl (by decide) rfl (by rw [E.1, E.2.1, E.2.2.1]; exact cs_needQuarter6 G Is1 (by first | exact ⟨p1.1, p1.2⟩ | omega)) ⟨by rw [E.2.2.2]; exact (show (rmN 183).frames + 1 ≤ (rmN 146).frames by decide), by rw [E.2.2.2]; exact (show 8 + (mNL (miB 183) + 11) + (rmN 183).locals ≤ (rmN 146).locals by decide), by rw [E.2.2.2]; exact (show 1 + 1 ≤ 3 by decide), by rw [E.2.2.2]; exact (show 6 + 6 ≤ 18 by decide)⟩ (Nat.le_of_ble_eq_true rfl) (fun vv s3 hq => ?_) (fun ee s3 hq => ?_)))
  rotate_left
  · obtain ⟨Is3, Fs3, (⟨hv, hps3⟩ | ⟨xx, hv, hps3⟩)⟩ := hq
    · cases hv
    · cases hv
      have Gs3 := fm_tq Gs1 Fs3 rfl rfl
      have JAIR_s3 : AIR s3 := AIR_fm Fs3 (by decide) JAIR_s1
      have JCPL_s3 : CPL s3 := CPL_fm Fs3 (by decide) JCPL_s1
      have JCDJ_s3 : CDJ U s3 := CDJ_fm Fs3 (by decide) JCDJ_s1
      have JPMJ_s3 : PMJ s3 := PMJ_fm Fs3 (by decide) JPMJ_s1
      exact x_out X.1 q (fun x hx => (hXt x hx).elim) (show (1 + 1) ≤ 3 by decide) (show (6 + 6) ≤ 18 by decide) ⟨_, rfl, Is3, Gs3, Or.inr ⟨xx, rfl, by first | (clear hps1; omega) | omega⟩⟩
  obtain ⟨Is3, Fs3, (⟨hv, hps3⟩ | ⟨xx, hv, hps3⟩)⟩ := hq
  rotate_left
  · cases hv
  cases hv
  have Gs3 := fm_tq Gs1 Fs3 rfl rfl
  have JAIR_s3 : AIR s3 := AIR_fm Fs3 (by decide) JAIR_s1
  have JCPL_s3 : CPL s3 := CPL_fm Fs3 (by decide) JCPL_s1
  have JCDJ_s3 : CDJ U s3 := CDJ_fm Fs3 (by decide) JCDJ_s1
  have JPMJ_s3 : PMJ s3 := PMJ_fm Fs3 (by decide) JPMJ_s1
  show WS k 10 [(0, .ref (A 0)), (1, .int (Int32.ofInt u)), (2, .int (Int32.ofInt v)), (3, .int (Int32.ofInt w))] [] (Wd A dT s3) (1 + 1) (6 + 6)
  refine z_aload_n X (x := A 0) rfl (List.Mem.head _) (z_load_n X (x := w) rfl (List.Mem.tail _ (List.Mem.tail _ (List.Mem.tail _ (List.Mem.head _)))) (z_const X rfl (z_const X rfl (z_callV X 0 (rm := rmN 184) (As := [.int (Int32.ofInt w), .int (Int32.ofInt 0), .int (Int32.ofInt 4)]) (st := []) rfl rfl (by decide) rfl (by rw [E.1, E.2.1, E.2.2.1]; exact cs_needWithin2 G Is3 (by first | exact ⟨p2.1, p2.2⟩ | omega) (by first | exact ⟨by decide, by decide⟩ | omega) (by first | exact ⟨by decide, by decide⟩ | omega)) ⟨by rw [E.2.2.2]; exact (show (rmN 184).frames + 1 ≤ (rmN 146).frames by decide), by rw [E.2.2.2]; exact (show 8 + (mNL (miB 184) + 11) + (rmN 184).locals ≤ (rmN 146).locals by decide), by rw [E.2.2.2]; exact (show (1 + 1) + 1 ≤ 3 by decide), by rw [E.2.2.2]; exact (show (6 + 6) + 6 ≤ 18 by decide)⟩ (Nat.le_of_ble_eq_true rfl) (fun vv s5 hq => ?_) (fun ee s5 hq => ?_)))))
  rotate_left
  · obtain ⟨Is5, Fs5, (⟨hv, hps5⟩ | ⟨xx, hv, hps5⟩)⟩ := hq
    · cases hv
    · cases hv
      have Gs5 := fm_tq Gs3 Fs5 rfl rfl
      have JAIR_s5 : AIR s5 := AIR_fm Fs5 (by decide) JAIR_s3
      have JCPL_s5 : CPL s5 := CPL_fm Fs5 (by decide) JCPL_s3
      have JCDJ_s5 : CDJ U s5 := CDJ_fm Fs5 (by decide) JCDJ_s3
      have JPMJ_s5 : PMJ s5 := PMJ_fm Fs5 (by decide) JPMJ_s3
      exact x_out X.1 q (fun x hx => (hXt x hx).elim) (show ((1 + 1) + 1) ≤ 3 by decide) (show ((6 + 6) + 6) ≤ 18 by decide) ⟨_, rfl, Is5, Gs5, Or.inr ⟨xx, rfl, by first | (clear hps3 hps1; omega) | (clear hps1; omega) | omega⟩⟩
  obtain ⟨Is5, Fs5, (⟨hv, hps5⟩ | ⟨xx, hv, hps5⟩)⟩ := hq
  rotate_left
  · cases hv
  cases hv
  have Gs5 := fm_tq Gs3 Fs5 rfl rfl
  have JAIR_s5 : AIR s5 := AIR_fm Fs5 (by decide) JAIR_s3
  have JCPL_s5 : CPL s5 := CPL_fm Fs5 (by decide) JCPL_s3
  have JCDJ_s5 : CDJ U s5 := CDJ_fm Fs5 (by decide) JCDJ_s3
  have JPMJ_s5 : PMJ s5 := PMJ_fm Fs5 (by decide) JPMJ_s3
  show WS k 17 [(0, .ref (A 0)), (1, .int (Int32.ofInt u)), (2, .int (Int32.ofInt v)), (3, .int (Int32.ofInt w))] [] (Wd A dT s5) ((1 + 1) + 1) ((6 + 6) + 6)
  refine z_aload_n X (x := A 0) rfl (List.Mem.head _) (z_load_n X (x := u) rfl (List.Mem.tail _ (List.Mem.head _)) (z_callV X 0 (rm := rmN 179) (As := [.int (Int32.ofInt u)]) (st := []) rfl rfl (by decide) rfl (by rw [E.1, E.2.1, E.2.2.1]; exact cs_listenTo6 G Is5 (by first | exact ⟨hps1.1, hps1.2⟩ | omega)) ⟨by rw [E.2.2.2]; exact (show (rmN 179).frames + 1 ≤ (rmN 146).frames by decide), by rw [E.2.2.2]; exact (show 8 + (mNL (miB 179) + 11) + (rmN 179).locals ≤ (rmN 146).locals by decide), by rw [E.2.2.2]; exact (show ((1 + 1) + 1) + 0 ≤ 3 by decide), by rw [E.2.2.2]; exact (show ((6 + 6) + 6) + 0 ≤ 18 by decide)⟩ (Nat.le_of_ble_eq_true rfl) (fun vv s7 hq => ?_) (fun ee s7 hq => ?_)))
  rotate_left
  · obtain ⟨Is7, Fs7, hv, hps7⟩ := hq; cases hv
  obtain ⟨Is7, Fs7, hv, hps7⟩ := hq
  cases hv
  have Gs7 := fm_tq Gs5 Fs7 rfl rfl
  have JAIR_s7 : AIR s7 := AIR_fm Fs7 (by decide) JAIR_s5
  have JCPL_s7 : CPL s7 := CPL_fm Fs7 (by decide) JCPL_s5
  have JCDJ_s7 : CDJ U s7 := CDJ_fm Fs7 (by decide) JCDJ_s5
  show WS k 22 [(0, .ref (A 0)), (1, .int (Int32.ofInt u)), (2, .int (Int32.ofInt v)), (3, .int (Int32.ofInt w))] [] (Wd A dT s7) ((1 + 1) + 1) ((6 + 6) + 6)
  have hIn : inL (gD s5 22 (u : Int).toNat) (gD s5 23 (u : Int).toNat) = pcS (pfC s) u := by rw [pm_eq (p := u) JPMJ_s5 (by first | (clear hps5 hps3 hps1; omega) | (clear hps3 hps1; omega) | omega), show pfC s5 = pfC s from funext (fun j => fm_c Gs5 (by decide))]
  refine z_aload_n X (x := A 0) rfl (List.Mem.head _) (s_getR X 0 rfl (c518_ok rfl) rfl rfl (z_load_n X (x := v) rfl (List.Mem.tail _ (List.Mem.tail _ (List.Mem.head _))) (z_const X rfl (z_callV X 31 (rm := rmN 4) (As := [.int (Int32.ofInt v), .int (Int32.ofInt (-1))]) (st := []) rfl rfl (by decide) rfl (by rw [E.1, E.2.1, E.2.2.1]; exact c0_loadAt6 G Is7 JAIR_s7 JCPL_s7 hps7.1 JCDJ_s7 hps7.2 (by first | exact ⟨hps3.1, hps3.2⟩ | omega) (by first | exact ⟨by decide, by decide⟩ | omega)) ⟨by rw [E.2.2.2]; exact (show (rmN 4).frames + 1 ≤ (rmN 146).frames by decide), by rw [E.2.2.2]; exact (show 8 + (mNL (miB 4) + 11) + (rmN 4).locals ≤ (rmN 146).locals by decide), by rw [E.2.2.2]; exact (show ((1 + 1) + 1) + 0 ≤ 3 by decide), by rw [E.2.2.2]; exact (show ((6 + 6) + 6) + 0 ≤ 18 by decide)⟩ (Nat.le_of_ble_eq_true rfl) (fun vv s9 hq => ?_) (fun ee s9 hq => ?_)))))
  rotate_left
  · obtain ⟨Is9, Fs9, JHEH_s9, e10, hv, hrs9, hps9⟩ := hq; cases hv
  obtain ⟨Is9, Fs9, JHEH_s9, e10, hv, hrs9, hps9⟩ := hq
  cases hv
  have Gs9 := fm_tq Gs7 Fs9 rfl rfl
  show WS k 31 [(0, .ref (A 0)), (1, .int (Int32.ofInt u)), (2, .int (Int32.ofInt v)), (3, .int (Int32.ofInt w))] [.int (Int32.ofInt e10)] (Wd A dT s9) ((1 + 1) + 1) ((6 + 6) + 6)
  have hl : Int32.ofInt e10 = ldH U (pcS (pfC s) u) 1 (v : Int).toNat (-1) := by rw [← hIn]; exact hps9.1
  have hn : ∀ j, j < 7 → Int32.ofInt (iC s9 33 j) = nmH (pcS (pfC s) u) (uW U) (moW U (v : Int).toNat (-1)) (uN U) 1 j := by rw [← hIn]; exact hps9.2
  refine z_store X (lv' := [(4, .int (Int32.ofInt e10)), (0, .ref (A 0)), (1, .int (Int32.ofInt u)), (2, .int (Int32.ofInt v)), (3, .int (Int32.ofInt w))]) rfl (by decide) (fun _ h => h) (z_load_n X (x := w) rfl (List.Mem.tail _ (List.Mem.tail _ (List.Mem.tail _ (List.Mem.tail _ (List.Mem.head _))))) (z_const X rfl (z_icmp_ne X (t := 43) rfl rfl ⟨by first | exact p2.1 | omega, by first | exact p2.2 | omega⟩ (by decide) (fun g11 => ?_) (fun g11 => ?_))))
  ·
    refine z_aload_n X (x := A 0) rfl (List.Mem.tail _ (List.Mem.head _)) (s_getR X 0 rfl (c518_ok rfl) rfl rfl (s_getR X 31 rfl (c518_ok rfl) rfl rfl (z_load_n X (x := w) rfl (List.Mem.tail _ (List.Mem.tail _ (List.Mem.tail _ (List.Mem.tail _ (List.Mem.head _))))) (z_ald X 39 rfl (c518_ok rfl) rfl (by first | exact hps5.1 | omega) (show w < 7 by first | exact oq_a3ef31b4 hps5.2 | omega) (cbig_ok rfl) ?_))))
    have b12 := bc_33 Is9 (show (w).toNat < 7 by first | exact oq_f1a80867 hps5.2 | omega)
    exact w_iret X.1 q hRt rfl (ax_d X (show cdA 146 52 = some (.ireturn, 1, 0, 0, 0) from rfl)) (show ((1 + 1) + 1) ≤ 3 by decide) (show ((6 + 6) + 6) ≤ 18 by decide) ⟨_, rfl, Is9, Gs9, Or.inl ⟨(iC s9 33 (w).toNat), rfl, (rng_to _), ⟨by first | exact ⟨hps1.1, hps1.2⟩ | omega, by first | exact ⟨hps3.1, hps3.2⟩ | omega, by first | exact ⟨hps5.1, hps5.2⟩ | omega, ⟨(rng_to _), Or.inr ⟨by first | (clear g11 hps9 hps5 hps3 hps1; omega) | (clear hps9 hps5 hps3 hps1; omega) | omega, hn _ (by first | (clear g11 hps9 hps5 hps3 hps1; omega) | (clear hps9 hps5 hps3 hps1; omega) | omega)⟩⟩⟩⟩⟩
  ·
    refine z_load X (x := e10) rfl (List.Mem.head _) (z_goto X (t := 52) rfl rfl ?_)
    exact w_iret X.1 q hRt rfl (ax_d X (show cdA 146 52 = some (.ireturn, 1, 0, 0, 0) from rfl)) (show ((1 + 1) + 1) ≤ 3 by decide) (show ((6 + 6) + 6) ≤ 18 by decide) ⟨_, rfl, Is9, Gs9, Or.inl ⟨e10, rfl, hrs9, ⟨by first | exact ⟨hps1.1, hps1.2⟩ | omega, by first | exact ⟨hps3.1, hps3.2⟩ | omega, by first | exact ⟨hps5.1, hps5.2⟩ | omega, ⟨hrs9, Or.inl ⟨by first | (clear hps9 hps5 hps3 hps1; omega) | (clear hps5 hps3 hps1; omega) | omega, hl⟩⟩⟩⟩⟩
set_option maxRecDepth 4000 in
theorem lw_hears6 (G : GX l s0 D tys a0 dT) {U : AirD} (I : Bd s) (jAIR : AIR s) (jCPL : CPL s) (jCDJ : CDJ U s) (jPMJ : PMJ s) {u v w : Int} (p0 : rng u) (p1 : rng v) (p2 : rng w) : CTL l s0 D A dT 323 (rmN 323) [.ref (A 0), .int (Int32.ofInt u), .int (Int32.ofInt v), .int (Int32.ofInt w), .ref (A 517)] s (fun o t => Bd t ∧ Fm [22, 23] [33, 26, 27, 28, 29, 30, 31, 32, 20, 1460] s t ∧ ∃ e, o = .inl (some (.int (Int32.ofInt e))) ∧ rng e ∧ ((e = 0 ∧ (0 ≤ u ∧ u ≤ 7) ∧ (0 ≤ v ∧ v ≤ 23) ∧ (0 ≤ w ∧ w ≤ 4) ∧ HRE U (pfC s) u v w (iO t)) ∨ (e = 1 ∧ (u < 0 ∨ 7 < u ∨ v < 0 ∨ 23 < v ∨ w < 0 ∨ 4 < w)))) := by
  refine ctL_of G (by decide) (Nat.le_of_ble_eq_true rfl) (by decide) rfl (fun k X E ET hRt hEx q => ?_)
  show WS k 0 [(0, .ref (A 0)), (1, .int (Int32.ofInt u)), (2, .int (Int32.ofInt v)), (3, .int (Int32.ofInt w)), (4, .ref (A 517))] [] _ 0 0
  have F : Fm [22, 23] [33, 26, 27, 28, 29, 30, 31, 32, 20, 1460] s s := fm_rf _ _ s
  have hA := swA_rf A
  refine z_aload X (x := A 517) rfl (List.Mem.tail _ (List.Mem.tail _ (List.Mem.tail _ (List.Mem.tail _ (List.Mem.head _))))) (z_const X rfl (z_aload_n X (x := A 0) rfl (List.Mem.head _) (z_load_n X (x := u) rfl (List.Mem.tail _ (List.Mem.head _)) (z_load_n X (x := v) rfl (List.Mem.tail _ (List.Mem.tail _ (List.Mem.head _))) (z_load_n X (x := w) rfl (List.Mem.tail _ (List.Mem.tail _ (List.Mem.tail _ (List.Mem.head _)))) (z_callV X 0 (rm := rmN 146) (As := [.int (Int32.ofInt u), .int (Int32.ofInt v), .int (Int32.ofInt w)]) (st := [.int (Int32.ofInt 0), .ref (A 517)]) rfl rfl (by decide) rfl (by rw [E.1, E.2.1, E.2.2.1]; exact cs_hears6 G I jAIR jCPL jCDJ jPMJ (by omega) (by omega) (by omega)) ⟨by rw [E.2.2.2]; exact (show (rmN 146).frames + 1 ≤ (rmN 323).frames by decide), by rw [E.2.2.2]; exact (show 8 + (mNL (miB 146) + 11) + (rmN 146).locals ≤ (rmN 323).locals by decide), by rw [E.2.2.2]; exact (show 0 + (rmN 146).cells ≤ (rmN 323).cells by decide), by rw [E.2.2.2]; exact (show 0 + (rmN 146).slots ≤ (rmN 323).slots by decide)⟩ (Nat.le_of_ble_eq_true rfl) (fun vv s1 hq => ?_) (fun ee s1 hq => ?_)))))))
  rotate_left
  · obtain ⟨Is1, Fs1, (⟨e2, hv, hrs1, hps1⟩ | ⟨xx, hv, hps1⟩)⟩ := hq
    · cases hv
    · cases hv
      rcases (show xx = 0 by omega) with gx
      ·
        subst gx
        have Gs1 := fm_tq F Fs1 rfl rfl
        refine (hEx 7 0).2 15 rfl _ _ _ _ _ (fun q1 => ?_)
        show WS k 15 [(0, .ref (A 0)), (1, .int (Int32.ofInt u)), (2, .int (Int32.ofInt v)), (3, .int (Int32.ofInt w)), (4, .ref (A 517))] [.ref q1] (Wd A dT s1) 3 18
        refine z_astore X (lv' := [(5, .ref q1), (0, .ref (A 0)), (1, .int (Int32.ofInt u)), (2, .int (Int32.ofInt v)), (3, .int (Int32.ofInt w)), (4, .ref (A 517))]) rfl (by decide) (fun _ h => h) (z_const X rfl ?_)
        exact w_iret X.1 q hRt rfl (ax_d X (show cdA 323 18 = some (.ireturn, 1, 0, 0, 0) from rfl)) (show 3 ≤ 3 by decide) (show 18 ≤ 18 by decide) ⟨A, _, hA, rfl, Is1, Gs1, 1, rfl, (by decide), Or.inr ⟨by decide, by omega⟩⟩
  obtain ⟨Is1, Fs1, (⟨e2, hv, hrs1, hps1⟩ | ⟨xx, hv, hps1⟩)⟩ := hq
  rotate_left
  · cases hv
  cases hv
  have Gs1 := fm_tq F Fs1 rfl rfl
  show WS k 10 [(0, .ref (A 0)), (1, .int (Int32.ofInt u)), (2, .int (Int32.ofInt v)), (3, .int (Int32.ofInt w)), (4, .ref (A 517))] [.int (Int32.ofInt e2), .int (Int32.ofInt 0), .ref (A 517)] (Wd A dT s1) 3 18
  refine w_i2l X.1 (ax_d X (show cdA 323 10 = some (.i2l, 1, 0, 0, 0) from rfl)) (z_last X 517 rfl (c518_ok rfl) rfl (by first | (clear hps1; omega) | omega) (show 0 < 1 by first | (clear hps1; omega) | omega) (cbig_ok rfl) (wd_gen (fun s3 hs3 => ?_)))
  have Is3 : Bd s3 := eqB hs3 (bd_D Is1)
  have Fs3 : Fm [22, 23] [33, 26, 27, 28, 29, 30, 31, 32, 20, 1460] s s3 := by rw [hs3]; exact fm_D Gs1 (show 460 + 1000 ∈ _ by decide)
  have oos3 : iO s3 = e2 := by rw [hs3]; exact iO_u (by first | (clear hps1; omega) | omega)
  refine z_goto X (t := 19) rfl rfl (z_const X rfl ?_)
  exact w_iret X.1 q hRt rfl (ax_d X (show cdA 323 20 = some (.ireturn, 1, 0, 0, 0) from rfl)) (show 3 ≤ 3 by decide) (show 18 ≤ 18 by decide) ⟨A, _, hA, rfl, Is3, Fs3, 0, rfl, (by decide), Or.inl ⟨by decide, by first | (clear hps1; omega) | omega, by first | (clear hps1; omega) | omega, by first | (clear hps1; omega) | omega, by rw [show iO s3 = e2 by first | (clear hps1; omega) | omega]; exact hps1.2.2.2⟩⟩
set_option maxRecDepth 4000 in
theorem cs_peak6 (G : GX l s0 D tys a0 dT) {U : AirD} (I : Bd s) (jAIR : AIR s) (jCPL : CPL s) (jCDJ : CDJ U s) (jPMJ : PMJ s) {u v : Int} (p0 : rng u) (p1 : rng v) : CT l s0 D A dT 147 (rmN 147) [.ref (A 0), .int (Int32.ofInt u), .int (Int32.ofInt v)] s (fun o t => Bd t ∧ Fm [22, 23, 24] [33, 26, 27, 28, 29, 30, 31, 32, 20] s t ∧ ((∃ e, o = .inl (some (.int (Int32.ofInt e))) ∧ rng e ∧ ((0 ≤ u ∧ u ≤ 7) ∧ (0 ≤ v ∧ v ≤ 1) ∧ PKE U (pfC s) u v e)) ∨ ∃ x : Nat, o = .inr (exN x) ∧ (x = 0 ∧ (u < 0 ∨ 7 < u ∨ v < 0 ∨ 1 < v)))) := by
  refine ct_ofX G (by decide) (Nat.le_of_ble_eq_true rfl) (fun k X E ET hRt hXt q => ?_)
  show WS k 0 [(0, .ref (A 0)), (1, .int (Int32.ofInt u)), (2, .int (Int32.ofInt v))] [] _ 0 0
  have F : Fm [22, 23, 24] [33, 26, 27, 28, 29, 30, 31, 32, 20] s s := fm_rf _ _ s
  have b1 := bi_24 I
  refine z_aload_n X (x := A 0) rfl (List.Mem.head _) (z_load_n X (x := u) rfl (List.Mem.tail _ (List.Mem.head _)) (z_callV X 0 (rm := rmN 182) (As := [.int (Int32.ofInt u)]) (st := []) rfl rfl (by decide) rfl (by rw [E.1, E.2.1, E.2.2.1]; exact cs_needPiece6 G I (by first | exact ⟨p0.1, p0.2⟩ | omega)) ⟨by rw [E.2.2.2]; exact (show (rmN 182).frames + 1 ≤ (rmN 147).frames by decide), by rw [E.2.2.2]; exact (show 8 + (mNL (miB 182) + 11) + (rmN 182).locals ≤ (rmN 147).locals by decide), by rw [E.2.2.2]; exact (show 0 + 1 ≤ 2 by decide), by rw [E.2.2.2]; exact (show 0 + 6 ≤ 12 by decide)⟩ (Nat.le_of_ble_eq_true rfl) (fun vv s2 hq => ?_) (fun ee s2 hq => ?_)))
  rotate_left
  · obtain ⟨Is2, Fs2, (⟨hv, hps2⟩ | ⟨xx, hv, hps2⟩)⟩ := hq
    · cases hv
    · cases hv
      have Gs2 := fm_tq F Fs2 rfl rfl
      have JAIR_s2 : AIR s2 := AIR_fm Fs2 (by decide) jAIR
      have JCPL_s2 : CPL s2 := CPL_fm Fs2 (by decide) jCPL
      have JCDJ_s2 : CDJ U s2 := CDJ_fm Fs2 (by decide) jCDJ
      have JPMJ_s2 : PMJ s2 := PMJ_fm Fs2 (by decide) jPMJ
      have ws2_24 : iI s2 24 = iI s 24 := fm_iq Fs2 rfl
      exact x_out X.1 q (fun x hx => (hXt x hx).elim) (show 1 ≤ 2 by decide) (show 6 ≤ 12 by decide) ⟨_, rfl, Is2, Gs2, Or.inr ⟨xx, rfl, by omega⟩⟩
  obtain ⟨Is2, Fs2, (⟨hv, hps2⟩ | ⟨xx, hv, hps2⟩)⟩ := hq
  rotate_left
  · cases hv
  cases hv
  have Gs2 := fm_tq F Fs2 rfl rfl
  have JAIR_s2 : AIR s2 := AIR_fm Fs2 (by decide) jAIR
  have JCPL_s2 : CPL s2 := CPL_fm Fs2 (by decide) jCPL
  have JCDJ_s2 : CDJ U s2 := CDJ_fm Fs2 (by decide) jCDJ
  have JPMJ_s2 : PMJ s2 := PMJ_fm Fs2 (by decide) jPMJ
  have ws2_24 : iI s2 24 = iI s 24 := fm_iq Fs2 rfl
  show WS k 5 [(0, .ref (A 0)), (1, .int (Int32.ofInt u)), (2, .int (Int32.ofInt v))] [] (Wd A dT s2) 1 6
  refine z_aload_n X (x := A 0) rfl (List.Mem.head _) (z_load_n X (x := v) rfl (List.Mem.tail _ (List.Mem.tail _ (List.Mem.head _))) (z_const X rfl (z_const X rfl (z_callV X 0 (rm := rmN 184) (As := [.int (Int32.ofInt v), .int (Int32.ofInt 0), .int (Int32.ofInt 1)]) (st := []) rfl rfl (by decide) rfl (by rw [E.1, E.2.1, E.2.2.1]; exact cs_needWithin2 G Is2 (by first | exact ⟨p1.1, p1.2⟩ | omega) (by first | exact ⟨by decide, by decide⟩ | omega) (by first | exact ⟨by decide, by decide⟩ | omega)) ⟨by rw [E.2.2.2]; exact (show (rmN 184).frames + 1 ≤ (rmN 147).frames by decide), by rw [E.2.2.2]; exact (show 8 + (mNL (miB 184) + 11) + (rmN 184).locals ≤ (rmN 147).locals by decide), by rw [E.2.2.2]; exact (show 1 + 1 ≤ 2 by decide), by rw [E.2.2.2]; exact (show 6 + 6 ≤ 12 by decide)⟩ (Nat.le_of_ble_eq_true rfl) (fun vv s4 hq => ?_) (fun ee s4 hq => ?_)))))
  rotate_left
  · obtain ⟨Is4, Fs4, (⟨hv, hps4⟩ | ⟨xx, hv, hps4⟩)⟩ := hq
    · cases hv
    · cases hv
      have Gs4 := fm_tq Gs2 Fs4 rfl rfl
      have JAIR_s4 : AIR s4 := AIR_fm Fs4 (by decide) JAIR_s2
      have JCPL_s4 : CPL s4 := CPL_fm Fs4 (by decide) JCPL_s2
      have JCDJ_s4 : CDJ U s4 := CDJ_fm Fs4 (by decide) JCDJ_s2
      have JPMJ_s4 : PMJ s4 := PMJ_fm Fs4 (by decide) JPMJ_s2
      have ws4_24 : iI s4 24 = iI s2 24 := fm_iq Fs4 rfl
      exact x_out X.1 q (fun x hx => (hXt x hx).elim) (show (1 + 1) ≤ 2 by decide) (show (6 + 6) ≤ 12 by decide) ⟨_, rfl, Is4, Gs4, Or.inr ⟨xx, rfl, by first | (clear hps2; omega) | omega⟩⟩
  obtain ⟨Is4, Fs4, (⟨hv, hps4⟩ | ⟨xx, hv, hps4⟩)⟩ := hq
  rotate_left
  · cases hv
  cases hv
  have Gs4 := fm_tq Gs2 Fs4 rfl rfl
  have JAIR_s4 : AIR s4 := AIR_fm Fs4 (by decide) JAIR_s2
  have JCPL_s4 : CPL s4 := CPL_fm Fs4 (by decide) JCPL_s2
  have JCDJ_s4 : CDJ U s4 := CDJ_fm Fs4 (by decide) JCDJ_s2
  have JPMJ_s4 : PMJ s4 := PMJ_fm Fs4 (by decide) JPMJ_s2
  have ws4_24 : iI s4 24 = iI s2 24 := fm_iq Fs4 rfl
  show WS k 12 [(0, .ref (A 0)), (1, .int (Int32.ofInt u)), (2, .int (Int32.ofInt v))] [] (Wd A dT s4) (1 + 1) (6 + 6)
  refine z_aload_n X (x := A 0) rfl (List.Mem.head _) (z_load_n X (x := u) rfl (List.Mem.tail _ (List.Mem.head _)) (z_callV X 0 (rm := rmN 179) (As := [.int (Int32.ofInt u)]) (st := []) rfl rfl (by decide) rfl (by rw [E.1, E.2.1, E.2.2.1]; exact cs_listenTo6 G Is4 (by first | exact ⟨hps2.1, hps2.2⟩ | omega)) ⟨by rw [E.2.2.2]; exact (show (rmN 179).frames + 1 ≤ (rmN 147).frames by decide), by rw [E.2.2.2]; exact (show 8 + (mNL (miB 179) + 11) + (rmN 179).locals ≤ (rmN 147).locals by decide), by rw [E.2.2.2]; exact (show (1 + 1) + 0 ≤ 2 by decide), by rw [E.2.2.2]; exact (show (6 + 6) + 0 ≤ 12 by decide)⟩ (Nat.le_of_ble_eq_true rfl) (fun vv s6 hq => ?_) (fun ee s6 hq => ?_)))
  rotate_left
  · obtain ⟨Is6, Fs6, hv, hps6⟩ := hq; cases hv
  obtain ⟨Is6, Fs6, hv, hps6⟩ := hq
  cases hv
  have Gs6 := fm_tq Gs4 Fs6 rfl rfl
  have JAIR_s6 : AIR s6 := AIR_fm Fs6 (by decide) JAIR_s4
  have JCPL_s6 : CPL s6 := CPL_fm Fs6 (by decide) JCPL_s4
  have JCDJ_s6 : CDJ U s6 := CDJ_fm Fs6 (by decide) JCDJ_s4
  have ws6_24 : iI s6 24 = iI s4 24 := fm_iq Fs6 rfl
  show WS k 17 [(0, .ref (A 0)), (1, .int (Int32.ofInt u)), (2, .int (Int32.ofInt v))] [] (Wd A dT s6) (1 + 1) (6 + 6)
  have hIn : inL (gD s4 22 (u : Int).toNat) (gD s4 23 (u : Int).toNat) = pcS (pfC s) u := by rw [pm_eq (p := u) JPMJ_s4 (by first | (clear hps4 hps2; omega) | (clear hps2; omega) | omega), show pfC s4 = pfC s from funext (fun j => fm_c Gs4 (by decide))]
  refine z_aload_n X (x := A 0) rfl (List.Mem.head _) (s_getR X 0 rfl (c518_ok rfl) rfl rfl (z_callV X 31 (rm := rmN 5) (As := []) (st := []) rfl rfl (by decide) rfl (by rw [E.1, E.2.1, E.2.2.1]; exact c0_findPeak3 G Is6 JAIR_s6 JCPL_s6 hps6.1 JCDJ_s6 hps6.2 ) ⟨by rw [E.2.2.2]; exact (show (rmN 5).frames + 1 ≤ (rmN 147).frames by decide), by rw [E.2.2.2]; exact (show 8 + (mNL (miB 5) + 11) + (rmN 5).locals ≤ (rmN 147).locals by decide), by rw [E.2.2.2]; exact (show (1 + 1) + 0 ≤ 2 by decide), by rw [E.2.2.2]; exact (show (6 + 6) + 0 ≤ 12 by decide)⟩ (Nat.le_of_ble_eq_true rfl) (fun vv s8 hq => ?_) (fun ee s8 hq => ?_)))
  rotate_left
  · obtain ⟨Is8, Fs8, JHEH_s8, e9, hv, hrs8, hps8⟩ := hq; cases hv
  obtain ⟨Is8, Fs8, JHEH_s8, e9, hv, hrs8, hps8⟩ := hq
  cases hv
  have Gs8 := fm_tq Gs6 Fs8 rfl rfl
  have b10 := bi_24 Is8
  show WS k 24 [(0, .ref (A 0)), (1, .int (Int32.ofInt u)), (2, .int (Int32.ofInt v))] [.int (Int32.ofInt e9)] (Wd A dT s8) (1 + 1) (6 + 6)
  have hpk : e9 = pkH U (pcS (pfC s) u) := by rw [← hIn]; exact hps8.1
  have hpq : iI s8 24 = ((pqF (lqH U (pcS (pfC s) u)) 23 : Nat) : Int) := by rw [← hIn]; exact hps8.2
  refine z_store_n X (lv' := [(3, .int (Int32.ofInt e9)), (0, .ref (A 0)), (1, .int (Int32.ofInt u)), (2, .int (Int32.ofInt v))]) rfl (by decide) (fun _ h => h) (z_load_n X (x := v) rfl (List.Mem.tail _ (List.Mem.tail _ (List.Mem.tail _ (List.Mem.head _)))) (z_if_ne X (t := 33) rfl rfl ⟨by first | exact p1.1 | omega, by first | exact p1.2 | omega⟩ (fun g11 => ?_) (fun g11 => ?_)))
  ·
    refine z_aload_n X (x := A 0) rfl (List.Mem.tail _ (List.Mem.head _)) (s_getR X 0 rfl (c518_ok rfl) rfl rfl (z_getI X 31 rfl (c518_ok rfl) rfl rfl ?_))
    have b12 := bi_24 Is8
    exact w_iret X.1 q hRt rfl (ax_d X (show cdA 147 40 = some (.ireturn, 1, 0, 0, 0) from rfl)) (show (1 + 1) ≤ 2 by decide) (show (6 + 6) ≤ 12 by decide) ⟨_, rfl, Is8, Gs8, Or.inl ⟨(iI s8 24), rfl, (rng_to _), ⟨by first | exact ⟨hps2.1, hps2.2⟩ | omega, by first | exact ⟨hps4.1, hps4.2⟩ | omega, Or.inr ⟨by first | (clear g11 hps4 hps2; omega) | (clear hps4 hps2; omega) | omega, hpq⟩⟩⟩⟩
  ·
    refine z_load_n X (x := e9) rfl (List.Mem.head _) (z_goto X (t := 40) rfl rfl ?_)
    exact w_iret X.1 q hRt rfl (ax_d X (show cdA 147 40 = some (.ireturn, 1, 0, 0, 0) from rfl)) (show (1 + 1) ≤ 2 by decide) (show (6 + 6) ≤ 12 by decide) ⟨_, rfl, Is8, Gs8, Or.inl ⟨e9, rfl, hrs8, ⟨by first | exact ⟨hps2.1, hps2.2⟩ | omega, by first | exact ⟨hps4.1, hps4.2⟩ | omega, Or.inl ⟨by first | (clear hps4 hps2; omega) | (clear hps2; omega) | omega, hpk⟩⟩⟩⟩
set_option maxRecDepth 4000 in
theorem lw_peak6 (G : GX l s0 D tys a0 dT) {U : AirD} (I : Bd s) (jAIR : AIR s) (jCPL : CPL s) (jCDJ : CDJ U s) (jPMJ : PMJ s) {u v : Int} (p0 : rng u) (p1 : rng v) : CTL l s0 D A dT 324 (rmN 324) [.ref (A 0), .int (Int32.ofInt u), .int (Int32.ofInt v), .ref (A 517)] s (fun o t => Bd t ∧ Fm [22, 23, 24] [33, 26, 27, 28, 29, 30, 31, 32, 20, 1460] s t ∧ ∃ e, o = .inl (some (.int (Int32.ofInt e))) ∧ rng e ∧ ((e = 0 ∧ (0 ≤ u ∧ u ≤ 7) ∧ (0 ≤ v ∧ v ≤ 1) ∧ PKE U (pfC s) u v (iO t)) ∨ (e = 1 ∧ (u < 0 ∨ 7 < u ∨ v < 0 ∨ 1 < v)))) := by
  refine ctL_of G (by decide) (Nat.le_of_ble_eq_true rfl) (by decide) rfl (fun k X E ET hRt hEx q => ?_)
  show WS k 0 [(0, .ref (A 0)), (1, .int (Int32.ofInt u)), (2, .int (Int32.ofInt v)), (3, .ref (A 517))] [] _ 0 0
  have F : Fm [22, 23, 24] [33, 26, 27, 28, 29, 30, 31, 32, 20, 1460] s s := fm_rf _ _ s
  have hA := swA_rf A
  refine z_aload_n X (x := A 517) rfl (List.Mem.tail _ (List.Mem.tail _ (List.Mem.tail _ (List.Mem.head _)))) (z_const X rfl (z_aload_n X (x := A 0) rfl (List.Mem.head _) (z_load_n X (x := u) rfl (List.Mem.tail _ (List.Mem.head _)) (z_load_n X (x := v) rfl (List.Mem.tail _ (List.Mem.tail _ (List.Mem.head _))) (z_callV X 0 (rm := rmN 147) (As := [.int (Int32.ofInt u), .int (Int32.ofInt v)]) (st := [.int (Int32.ofInt 0), .ref (A 517)]) rfl rfl (by decide) rfl (by rw [E.1, E.2.1, E.2.2.1]; exact cs_peak6 G I jAIR jCPL jCDJ jPMJ (by omega) (by omega)) ⟨by rw [E.2.2.2]; exact (show (rmN 147).frames + 1 ≤ (rmN 324).frames by decide), by rw [E.2.2.2]; exact (show 8 + (mNL (miB 147) + 11) + (rmN 147).locals ≤ (rmN 324).locals by decide), by rw [E.2.2.2]; exact (show 0 + (rmN 147).cells ≤ (rmN 324).cells by decide), by rw [E.2.2.2]; exact (show 0 + (rmN 147).slots ≤ (rmN 324).slots by decide)⟩ (Nat.le_of_ble_eq_true rfl) (fun vv s1 hq => ?_) (fun ee s1 hq => ?_))))))
  rotate_left
  · obtain ⟨Is1, Fs1, (⟨e2, hv, hrs1, hps1⟩ | ⟨xx, hv, hps1⟩)⟩ := hq
    · cases hv
    · cases hv
      rcases (show xx = 0 by omega) with gx
      ·
        subst gx
        have Gs1 := fm_tq F Fs1 rfl rfl
        refine (hEx 5 0).2 13 rfl _ _ _ _ _ (fun q1 => ?_)
        show WS k 13 [(0, .ref (A 0)), (1, .int (Int32.ofInt u)), (2, .int (Int32.ofInt v)), (3, .ref (A 517))] [.ref q1] (Wd A dT s1) 2 12
        refine z_astore X (lv' := [(4, .ref q1), (0, .ref (A 0)), (1, .int (Int32.ofInt u)), (2, .int (Int32.ofInt v)), (3, .ref (A 517))]) rfl (by decide) (fun _ h => h) (z_const X rfl ?_)
        exact w_iret X.1 q hRt rfl (ax_d X (show cdA 324 16 = some (.ireturn, 1, 0, 0, 0) from rfl)) (show 2 ≤ 2 by decide) (show 12 ≤ 12 by decide) ⟨A, _, hA, rfl, Is1, Gs1, 1, rfl, (by decide), Or.inr ⟨by decide, by omega⟩⟩
  obtain ⟨Is1, Fs1, (⟨e2, hv, hrs1, hps1⟩ | ⟨xx, hv, hps1⟩)⟩ := hq
  rotate_left
  · cases hv
  cases hv
  have Gs1 := fm_tq F Fs1 rfl rfl
  show WS k 8 [(0, .ref (A 0)), (1, .int (Int32.ofInt u)), (2, .int (Int32.ofInt v)), (3, .ref (A 517))] [.int (Int32.ofInt e2), .int (Int32.ofInt 0), .ref (A 517)] (Wd A dT s1) 2 12
  refine w_i2l X.1 (ax_d X (show cdA 324 8 = some (.i2l, 1, 0, 0, 0) from rfl)) (z_last X 517 rfl (c518_ok rfl) rfl (by first | (clear hps1; omega) | omega) (show 0 < 1 by first | (clear hps1; omega) | omega) (cbig_ok rfl) (wd_gen (fun s3 hs3 => ?_)))
  have Is3 : Bd s3 := eqB hs3 (bd_D Is1)
  have Fs3 : Fm [22, 23, 24] [33, 26, 27, 28, 29, 30, 31, 32, 20, 1460] s s3 := by rw [hs3]; exact fm_D Gs1 (show 460 + 1000 ∈ _ by decide)
  have oos3 : iO s3 = e2 := by rw [hs3]; exact iO_u (by first | (clear hps1; omega) | omega)
  refine z_goto X (t := 17) rfl rfl (z_const X rfl ?_)
  exact w_iret X.1 q hRt rfl (ax_d X (show cdA 324 18 = some (.ireturn, 1, 0, 0, 0) from rfl)) (show 2 ≤ 2 by decide) (show 12 ≤ 12 by decide) ⟨A, _, hA, rfl, Is3, Fs3, 0, rfl, (by decide), Or.inl ⟨by decide, by first | (clear hps1; omega) | omega, by first | (clear hps1; omega) | omega, by rw [show iO s3 = e2 by first | (clear hps1; omega) | omega]; exact hps1.2.2⟩⟩
set_option maxRecDepth 4000 in
theorem k_asTold6 (G : GX l s0 D tys a0 dT) {U : AirD} (I : Bd s) (jRLx : RLx s) (jMDJ : MDJ U s) {x : Int} (p0 : 0 ≤ x ∧ x ≤ 23) : CT l s0 D A dT 222 (rmN 222) [.ref (A 179), .int (Int32.ofInt x)] s (fun o t => Bd t ∧ Fm [] [202, 204, 205, 206, 207, 208, 209, 210, 211, 212, 213, 214, 215, 216, 217, 218, 219, 220, 221, 222, 223, 224, 225, 226, 227, 203] s t ∧ RLx t ∧ NQ t ∧ o = .inl none ∧ (NMQ (uM U (x : Int).toNat) (uN U : Int) t)) := by
  refine ct_of G (by decide) (Nat.le_of_ble_eq_true rfl) (fun k X E hRt hXt q => ?_)
  show WS k 0 [(0, .ref (A 179)), (1, .int (Int32.ofInt x))] [] _ 0 0
  have F : Fm [] [202, 204, 205, 206, 207, 208, 209, 210, 211, 212, 213, 214, 215, 216, 217, 218, 219, 220, 221, 222, 223, 224, 225, 226, 227, 203] s s := fm_rf _ _ s
  refine z_aload_n X (x := A 179) rfl (List.Mem.head _) (zcV_v2 X E 179 (As := []) (st := []) rfl rfl rfl rfl (k_waysAsTold G I jRLx ) rfl (Nat.le_of_ble_eq_true rfl) (fun s1 Is1 Fs1 JRLx_s1 JNQ_s1 hps1 => ?_))
  have Gs1 := fm_tq F Fs1 rfl rfl
  have JRLx_s1 : RLx s1 := RLx_fm Fs1 (by decide) jRLx
  have JMDJ_s1 : MDJ U s1 := MDJ_fm Fs1 (by decide) jMDJ
  refine z_aload_n X (x := A 179) rfl (List.Mem.head _) (z_load_n X (x := x) rfl (List.Mem.tail _ (List.Mem.head _)) (zcV_v0 X E 179 (As := [.int (Int32.ofInt x)]) (st := []) rfl rfl rfl rfl (k_numbers3 G Is1 JMDJ_s1 (by first | exact ⟨p0.1, p0.2⟩ | omega)) rfl (Nat.le_of_ble_eq_true rfl) (fun s3 Is3 Fs3 hps3 => ?_)))
  have Gs3 := fm_tq Gs1 Fs3 rfl rfl
  have JRLx_s3 : RLx s3 := RLx_fm Fs3 (by decide) JRLx_s1
  have JNQ_s3 : NQ s3 := NQ_fm Fs3 (by decide) JNQ_s1
  exact w_vret X.1 q hRt (ax_d X (show cdA 222 9 = some (.return_, 1, 0, 0, 0) from rfl)) (Nat.zero_le _) (Nat.zero_le _) ⟨_, rfl, Is3, Gs3, JRLx_s3, JNQ_s3, rfl, hps3⟩
set_option maxRecDepth 4000 in
theorem k_load6 (G : GX l s0 D tys a0 dT) {U : AirD} {mo : Nat → Int} (I : Bd s) (jNW : NW s) (jNWL : NWL s) (jMDJ : MDJ U s) (jNWE : NWE U s) (jNMQ : NMQ mo (uN U : Int) s)  : CT l s0 D A dT 228 (rmN 228) [.ref (A 179)] s (fun o t => Bd t ∧ Fm [77, 75, 78, 79, 80, 81] [161] s t ∧ ∃ e, o = .inl (some (.int (Int32.ofInt e))) ∧ rng e ∧ (Int32.ofInt e = uL U (nmH (inS s) (uW U) mo (uN U) (iI s 89)) ∧ ∀ j, j < 7 → NMr t j = nmH (inS s) (uW U) mo (uN U) (iI s 89) j)) := by
  refine ct_of G (by decide) (Nat.le_of_ble_eq_true rfl) (fun k X E hRt hXt q => ?_)
  show WS k 0 [(0, .ref (A 179))] [] _ 0 0
  have F : Fm [77, 75, 78, 79, 80, 81] [161] s s := fm_rf _ _ s
  have b1 := bi_85 I
  have b2 := bi_82 I
  have b3 := bi_89 I
  refine z_aload_n X (x := A 179) rfl (List.Mem.head _) (zcV_v2 X E 179 (As := []) (st := []) rfl rfl rfl rfl (k_listen3 G I jNW jNWL ) rfl (Nat.le_of_ble_eq_true rfl) (fun s4 Is4 Fs4 JNW_s4 JNWL_s4 hps4 => ?_))
  have Gs4 := fm_tq F Fs4 rfl rfl
  have JNW_s4 : NW s4 := NW_fm Fs4 (by decide) jNW
  have JNWL_s4 : NWL s4 := NWL_fm Fs4 (by decide) jNWL
  have ws4_85 : iI s4 85 = iI s 85 := fm_iq Fs4 rfl
  have ws4_82 : iI s4 82 = iI s 82 := fm_iq Fs4 rfl
  have ws4_89 : iI s4 89 = iI s 89 := fm_iq Fs4 rfl
  have hnm := ml_names hps4 jNWE jNMQ jMDJ.1.1 jMDJ.2.2.1
  refine z_aload_n X (x := A 179) rfl (List.Mem.head _) (z_getI X 179 rfl (c518_ok rfl) rfl rfl ?_)
  have b6 := bi_85 Is4
  refine z_const X rfl (z_icmp_ne X (t := 35) rfl rfl (rng_to _) (by decide) (fun g7 => ?_) (fun g7 => ?_))
  ·
    obtain ⟨B, hLB⟩ := ldm_b jMDJ.2.2.2.2.2.2 (by first | (clear g7; omega) | omega)
    have hla : 0 ≤ iI s 85 ∧ iI s 85 ≤ iI s 82 := hLB.1
    refine z_aload_n X (x := A 179) rfl (List.Mem.head _) (z_aload_n X (x := A 179) rfl (List.Mem.head _) (z_getI X 179 rfl (c518_ok rfl) rfl rfl ?_))
    have b8 := bi_85 Is4
    refine zcV_v0 X E 179 (As := [.int (Int32.ofInt (iI s4 85))]) (st := []) rfl rfl rfl rfl (k_readsAt3 G Is4 (by first | exact ⟨oq_e4757433 ws4_85 hla.1, oq_8dae6a5a b8.2⟩ | omega)) rfl (Nat.le_of_ble_eq_true rfl) (fun s9 Is9 Fs9 hps9 => ?_)
    have Gs9 := fm_tq Gs4 Fs9 rfl rfl
    have ws9_85 : iI s9 85 = iI s4 85 := fm_iq Fs9 rfl
    have ws9_82 : iI s9 82 = iI s4 82 := fm_iq Fs9 rfl
    have ws9_89 : iI s9 89 = iI s4 89 := fm_iq Fs9 rfl
    have JF9 : FDB B (iI s 82) s9 := fdb_r (by first | (clear g7; omega) | omega) (by first | (clear g7; omega) | omega) (fun i => fm_c Gs9 (by decide)) hLB.2.1
    refine z_aload_n X (x := A 179) rfl (List.Mem.head _) (z_callV X 179 (rm := (rkR (3 * (7) + 2))) (As := []) (st := []) rfl rfl (by decide) rfl (by rw [E.1, E.2.1, E.2.2.1]; exact (k_sumr5 G (B := B) (N := iI s 82) 7).2.2 Is9 JF9 (by first | exact oq_cc309cab hps9.1 b8.2 | omega) (by first | exact oq_dfaa262d hps9.2.1 | omega) (by first | exact oq_0cce41ba hps9.2.1 | omega)) ⟨by rw [E.2.2.2]; exact (show (12 + (3 * (7) + 2)) + 1 ≤ 36 from oq_74b74999), by rw [E.2.2.2]; exact (show 8 + (4 + 11) + (500 + 45 * (3 * (7) + 2)) ≤ 1558 from oq_f4197522), by rw [E.2.2.2]; exact Nat.le_refl 0, by rw [E.2.2.2]; exact Nat.le_refl 0⟩ (Nat.le_of_ble_eq_true rfl) (fun vv s11 hq => ?_) (fun ee s11 hq => ?_))
    rotate_left
    · obtain ⟨Is11, Fs11, JFDB_s11, e12, hv, hrs11, hps11⟩ := hq; cases hv
    obtain ⟨Is11, Fs11, JFDB_s11, e12, hv, hrs11, hps11⟩ := hq
    cases hv
    have Gs11 := fm_tq Gs9 Fs11 rfl rfl
    have JFDB_s11 : FDB B (iI s 82) s11 := FDB_fm Fs11 (by decide) JF9
    have ws11_85 : iI s11 85 = iI s9 85 := fm_iq Fs11 rfl
    have ws11_82 : iI s11 82 = iI s9 82 := fm_iq Fs11 rfl
    have ws11_89 : iI s11 89 = iI s9 89 := fm_iq Fs11 rfl
    show WS k 47 [(0, .ref (A 179))] [.int (Int32.ofInt e12)] (Wd A dT s11) 0 0
    exact w_iret X.1 q hRt rfl (ax_d X (show cdA 228 47 = some (.ireturn, 1, 0, 0, 0) from rfl)) (Nat.zero_le _) (Nat.zero_le _) ⟨_, rfl, Is11, Gs11, e12, rfl, hrs11, ⟨(ml_ld1 (t := s4) (u := s9) hnm hLB (nmr_fm Fs9 (by decide)) (by first | (clear hps11 g7; omega) | (clear g7; omega) | omega) (by first | (clear hps11 g7; omega) | (clear g7; omega) | omega) (by first | (clear hps11 g7; omega) | (clear g7; omega) | omega) hps11.2.2.2.2.2), fun j hj => by rw [show NMr s11 = NMr s4 from (nmr_fm Fs11 (by decide)).trans (nmr_fm Fs9 (by decide))]; exact hnm j hj⟩⟩
  ·
    refine z_aload_n X (x := A 179) rfl (List.Mem.head _) (s_getR X 179 rfl (c518_ok rfl) rfl rfl (z_const X rfl (z_ald X 184 rfl (c518_ok rfl) rfl (by decide) (show 0 < 7 by decide) (cbig_ok rfl) ?_)))
    have b13 := bc_161 Is4 (show (0 : Int).toNat < 7 by first | exact oq_e8ec3fa8 | omega)
    refine z_const X rfl (z_aload_n X (x := A 179) rfl (List.Mem.head _) (s_getR X 179 rfl (c518_ok rfl) rfl rfl (z_const X rfl (z_ald X 184 rfl (c518_ok rfl) rfl (by decide) (show 1 < 7 by decide) (cbig_ok rfl) ?_))))
    have b14 := bc_161 Is4 (show (1 : Int).toNat < 7 by first | exact oq_a32b659c | omega)
    refine z_mul X rfl (z_anyV (fun y15 hy15 ey15 => ?_))
    refine z_add X rfl (z_anyV (fun y16 hy16 ey16 => ?_))
    refine z_aload_n X (x := A 179) rfl (List.Mem.head _) (s_getR X 179 rfl (c518_ok rfl) rfl rfl (z_const X rfl (z_ald X 184 rfl (c518_ok rfl) rfl (by decide) (show 2 < 7 by decide) (cbig_ok rfl) ?_)))
    have b17 := bc_161 Is4 (show (2 : Int).toNat < 7 by first | exact oq_62527c24 | omega)
    refine z_add X rfl (z_anyV (fun y18 hy18 ey18 => ?_))
    exact w_iret X.1 q hRt rfl (ax_d X (show cdA 228 34 = some (.ireturn, 1, 0, 0, 0) from rfl)) (Nat.zero_le _) (Nat.zero_le _) ⟨_, rfl, Is4, Gs4, y18, rfl, hy18, ⟨(ml_ld0 hnm jMDJ.2.2.2.2.2.2 (by omega) ey15 ey16 ey18), hnm⟩⟩
set_option maxRecDepth 4000 in
theorem k_hears6 (G : GX l s0 D tys a0 dT) {U : AirD} (I : Bd s) (jRLx : RLx s) (jMDJ : MDJ U s) {x y z : Int} (p0 : rng x) (p1 : rng y) (p2 : rng z) (p3 : iI s 89 = 1) : CT l s0 D A dT 237 (rmN 237) [.ref (A 179), .int (Int32.ofInt x), .int (Int32.ofInt y), .int (Int32.ofInt z)] s (fun o t => Bd t ∧ Fm [73, 77, 75, 78, 79, 80, 81] [161, 202, 203, 204, 205, 206, 207, 208, 209, 210, 211, 212, 213, 214, 215, 216, 217, 218, 219, 220, 221, 222, 223, 224, 225, 226, 227, 230] s t ∧ RLx t ∧ ∃ e, o = .inl (some (.int (Int32.ofInt e))) ∧ rng e ∧ (((0 ≤ x ∧ x ≤ 7) ∧ (0 ≤ y ∧ y ≤ 23) ∧ (0 ≤ z ∧ z ≤ 4) ∧ iI t 73 = 0 ∧ HRE U (pfM s) x y z e) ∨ ((x < 0 ∨ 7 < x ∨ y < 0 ∨ 23 < y ∨ z < 0 ∨ 4 < z) ∧ iI t 73 = 1))) := by
  refine ct_of G (by decide) (Nat.le_of_ble_eq_true rfl) (fun k X E hRt hXt q => ?_)
  show WS k 0 [(0, .ref (A 179)), (1, .int (Int32.ofInt x)), (2, .int (Int32.ofInt y)), (3, .int (Int32.ofInt z))] [] _ 0 0
  have F : Fm [73, 77, 75, 78, 79, 80, 81] [161, 202, 203, 204, 205, 206, 207, 208, 209, 210, 211, 212, 213, 214, 215, 216, 217, 218, 219, 220, 221, 222, 223, 224, 225, 226, 227, 230] s s := fm_rf _ _ s
  have b1 := bi_73 I
  have b2 := bi_89 I
  refine z_aload_n X (x := A 179) rfl (List.Mem.head _) (z_const X rfl (s_putI X 179 rfl (c518_ok rfl) rfl rfl (by decide) rfl rfl rfl (wd_gen (fun s3 hs3 => ?_))))
  have Is3 : Bd s3 := eqB hs3 (bd_I I (show (0 : Int) ≤ 0 ∧ 0 ≤ 3 by first | exact ⟨by decide, by decide⟩ | omega) (by decide))
  have Fs3 := eqF hs3 (fm_I F (inl_ok (a := 73) rfl))
  have vs3 : iI s3 73 = 0 := eqI hs3 (iI_u (by decide))
  have ws3_89 : iI s3 89 = iI s 89 := eqI hs3 rfl
  have fs3 : Fm [73] [] s s3 := by rw [hs3]; exact fm_I (fm_rf _ _ _) (show 73 ∈ _ by decide)
  have JRLx_s3 : RLx s3 := RLx_fm fs3 (by decide) jRLx
  have JMDJ_s3 : MDJ U s3 := MDJ_fm fs3 (by decide) jMDJ
  refine z_aload_n X (x := A 179) rfl (List.Mem.head _) (z_load_n X (x := x) rfl (List.Mem.tail _ (List.Mem.head _)) (z_const X rfl (z_bipush X rfl (z_callS X (rm := rmN 188) (As := [.int (Int32.ofInt x), .int (Int32.ofInt 0), .int (Int32.ofInt 7)]) (st := [.ref (A 179)]) rfl rfl (by rw [E.1, E.2.1, E.2.2.1]; exact k_in2 G Is3 (by first | exact ⟨p0.1, p0.2⟩ | omega) (by first | exact ⟨by decide, by decide⟩ | omega) (by first | exact ⟨by decide, by decide⟩ | omega)) ⟨by rw [E.2.2.2]; exact (show (rmN 188).frames + 1 ≤ (rmN 237).frames by decide), by rw [E.2.2.2]; exact (show 8 + (mNL (miB 188) + 11) + (rmN 188).locals ≤ (rmN 237).locals by decide), by rw [E.2.2.2]; exact (show 0 + (rmN 188).cells ≤ (rmN 237).cells by decide), by rw [E.2.2.2]; exact (show 0 + (rmN 188).slots ≤ (rmN 237).slots by decide)⟩ (Nat.le_of_ble_eq_true rfl) (fun vv s4 hq => ?_) (fun ee s4 hq => ?_)))))
  rotate_left
  · obtain ⟨rfl, e5, hv, hrs4, hps4⟩ := hq; cases hv
  obtain ⟨rfl, e5, hv, hrs4, hps4⟩ := hq
  cases hv
  show WS k 13 [(0, .ref (A 179)), (1, .int (Int32.ofInt x)), (2, .int (Int32.ofInt y)), (3, .int (Int32.ofInt z))] [.int (Int32.ofInt e5), .ref (A 179)] (Wd A dT s3) 0 0
  refine z_if_eq X (t := 35) rfl rfl hrs4 (fun g6 => ?_) (fun g6 => ?_)
  ·
    refine z_const X rfl (z_goto X (t := 40) rfl rfl (z_const X rfl (zcV_i0 X E 179 (As := [.int (Int32.ofInt 1), .int (Int32.ofInt 1)]) (st := []) rfl rfl rfl rfl (k_bad2 G Is3 (by first | exact Or.inr (by decide) | omega) (by first | exact ⟨by decide, by decide⟩ | omega)) rfl (Nat.le_of_ble_eq_true rfl) (fun s7 e8 Is7 Fs7 hrs7 hps7 => ?_))))
    have Gs7 := fm_tq Fs3 Fs7 rfl rfl
    have JRLx_s7 : RLx s7 := RLx_fm Fs7 (by decide) JRLx_s3
    have JMDJ_s7 : MDJ U s7 := MDJ_fm Fs7 (by decide) JMDJ_s3
    have b9 := bi_73 Is7
    have ws7_89 : iI s7 89 = iI s3 89 := fm_iq Fs7 rfl
    refine z_if_eq X (t := 49) rfl rfl hrs7 (fun g10 => ?_) (fun g10 => ?_)
    ·
      refine z_aload_n X (x := A 179) rfl (List.Mem.head _) (z_load_n X (x := x) rfl (List.Mem.tail _ (List.Mem.head _)) (zcV_v0 X E 179 (As := [.int (Int32.ofInt x)]) (st := []) rfl rfl rfl rfl (k_setOf3 G Is7 (by first | exact ⟨p0.1, p0.2⟩ | omega)) rfl (Nat.le_of_ble_eq_true rfl) (fun s11 Is11 Fs11 hps11 => ?_)))
      have Gs11 := fm_tq Gs7 Fs11 rfl rfl
      have JRLx_s11 : RLx s11 := RLx_fm Fs11 (by decide) JRLx_s7
      have JMDJ_s11 : MDJ U s11 := MDJ_fm Fs11 (by decide) JMDJ_s7
      have ws11_73 : iI s11 73 = iI s7 73 := fm_iq Fs11 rfl
      have ws11_89 : iI s11 89 = iI s7 89 := fm_iq Fs11 rfl
      have hIn : inS s11 = pcS (pfM s) x := by rw [soq_in hps11, show pfM s7 = pfM s from funext (fun j => fm_c Gs7 (by decide))]
      refine z_aload_n X (x := A 179) rfl (List.Mem.head _) (z_load_n X (x := y) rfl (List.Mem.tail _ (List.Mem.tail _ (List.Mem.head _))) (zcV_v2 X E 179 (As := [.int (Int32.ofInt y)]) (st := []) rfl rfl rfl rfl (k_asTold6 G Is11 JRLx_s11 JMDJ_s11 (by first | exact ⟨oq_674898f9 g10 hps7 vs3, oq_48516caf g10 hps7 vs3⟩ | omega)) rfl (Nat.le_of_ble_eq_true rfl) (fun s13 Is13 Fs13 JRLx_s13 JNQ_s13 hps13 => ?_)))
      have Gs13 := fm_tq Gs11 Fs13 rfl rfl
      have JRLx_s13 : RLx s13 := RLx_fm Fs13 (by decide) JRLx_s11
      have JMDJ_s13 : MDJ U s13 := MDJ_fm Fs13 (by decide) JMDJ_s11
      have ws13_73 : iI s13 73 = iI s11 73 := fm_iq Fs13 rfl
      have ws13_89 : iI s13 89 = iI s11 89 := fm_iq Fs13 rfl
      have JNW_s13 : NW s13 := NW_of JNQ_s13 JRLx_s13
      have hNW9 := nq_w JMDJ_s13 JNQ_s13
      have hNE9 : NWE U s13 := ⟨JMDJ_s13.1.2, hNW9.1⟩
      have hIn2 : inS s13 = pcS (pfM s) x := by rw [ins_fm Fs13 (by decide)]; exact hIn
      refine z_aload_n X (x := A 179) rfl (List.Mem.head _) (zcV_i0 X E 179 (As := []) (st := []) rfl rfl rfl rfl (k_load6 G Is13 JNW_s13 hNW9.2 JMDJ_s13 hNE9 hps13 ) rfl (Nat.le_of_ble_eq_true rfl) (fun s15 e16 Is15 Fs15 hrs15 hps15 => ?_))
      have Gs15 := fm_tq Gs13 Fs15 rfl rfl
      have JRLx_s15 : RLx s15 := RLx_fm Fs15 (by decide) JRLx_s13
      have ws15_73 : iI s15 73 = iI s13 73 := fm_iq Fs15 rfl
      have ws15_89 : iI s15 89 = iI s13 89 := fm_iq Fs15 rfl
      have hM1 : iI s13 89 = 1 := by first | (clear hps15 hps7 hps4; omega) | (clear hps7 hps4; omega) | omega
      have hl : Int32.ofInt e16 = ldH U (pcS (pfM s) x) 1 (y : Int).toNat (-1) := by unfold ldH; rw [mow_n, ← hIn2, ← hM1]; exact hps15.1
      have hn : ∀ j, j < 7 → Int32.ofInt (iC s15 161 j) = nmH (pcS (pfM s) x) (uW U) (moW U (y : Int).toNat (-1)) (uN U) 1 j := by rw [mow_n, ← hIn2, ← hM1]; exact hps15.2
      refine z_store X (lv' := [(4, .int (Int32.ofInt e16)), (0, .ref (A 179)), (1, .int (Int32.ofInt x)), (2, .int (Int32.ofInt y)), (3, .int (Int32.ofInt z))]) rfl (by decide) (fun _ h => h) (z_load_n X (x := z) rfl (List.Mem.tail _ (List.Mem.tail _ (List.Mem.tail _ (List.Mem.tail _ (List.Mem.head _))))) (z_const X rfl (z_icmp_ne X (t := 75) rfl rfl ⟨by first | exact p2.1 | omega, by first | exact p2.2 | omega⟩ (by decide) (fun g17 => ?_) (fun g17 => ?_))))
      ·
        refine z_aload_n X (x := A 179) rfl (List.Mem.tail _ (List.Mem.head _)) (s_getR X 179 rfl (c518_ok rfl) rfl rfl (z_load_n X (x := z) rfl (List.Mem.tail _ (List.Mem.tail _ (List.Mem.tail _ (List.Mem.tail _ (List.Mem.head _))))) (z_ald X 184 rfl (c518_ok rfl) rfl (by first | exact oq_674898f9 g10 hps7 vs3 | omega) (show z < 7 by first | exact oq_1c2f1f5a g10 hps7 vs3 | omega) (cbig_ok rfl) ?_)))
        have b18 := bc_161 Is15 (show (z).toNat < 7 by first | exact oq_aad1a907 g10 hps7 vs3 | omega)
        exact w_iret X.1 q hRt rfl (ax_d X (show cdA 237 81 = some (.ireturn, 1, 0, 0, 0) from rfl)) (Nat.zero_le _) (Nat.zero_le _) ⟨_, rfl, Is15, Gs15, JRLx_s15, (iC s15 161 (z).toNat), rfl, (rng_to _), Or.inl ⟨by first | exact ⟨oq_674898f9 g10 hps7 vs3, oq_7d7a532a g10 hps7 vs3⟩ | omega, by first | exact ⟨oq_674898f9 g10 hps7 vs3, oq_48516caf g10 hps7 vs3⟩ | omega, by first | exact ⟨oq_674898f9 g10 hps7 vs3, oq_55558d00 g10 hps7 vs3⟩ | omega, by first | exact oq_3904add8 ws15_73 ws13_73 ws11_73 g10 b9.1 hps7 vs3 | omega, ⟨(rng_to _), Or.inr ⟨by first | (clear g17 hps15 hps7 hps4; omega) | (clear hps15 hps7 hps4; omega) | omega, hn _ (by first | (clear g17 hps15 hps7 hps4; omega) | (clear hps15 hps7 hps4; omega) | omega)⟩⟩⟩⟩
      ·
        refine z_load X (x := e16) rfl (List.Mem.head _) (z_goto X (t := 81) rfl rfl ?_)
        exact w_iret X.1 q hRt rfl (ax_d X (show cdA 237 81 = some (.ireturn, 1, 0, 0, 0) from rfl)) (Nat.zero_le _) (Nat.zero_le _) ⟨_, rfl, Is15, Gs15, JRLx_s15, e16, rfl, hrs15, Or.inl ⟨by first | exact ⟨oq_674898f9 g10 hps7 vs3, oq_7d7a532a g10 hps7 vs3⟩ | omega, by first | exact ⟨oq_674898f9 g10 hps7 vs3, oq_48516caf g10 hps7 vs3⟩ | omega, by first | exact ⟨oq_fe46c430 g17, oq_2a0590ce g17⟩ | omega, by first | exact oq_3904add8 ws15_73 ws13_73 ws11_73 g10 b9.1 hps7 vs3 | omega, ⟨hrs15, Or.inl ⟨by first | (clear hps15 hps7 hps4; omega) | (clear hps7 hps4; omega) | omega, hl⟩⟩⟩⟩
    ·
      refine z_const X rfl ?_
      exact w_iret X.1 q hRt rfl (ax_d X (show cdA 237 48 = some (.ireturn, 1, 0, 0, 0) from rfl)) (Nat.zero_le _) (Nat.zero_le _) ⟨_, rfl, Is7, Gs7, JRLx_s7, 0, rfl, (by decide), Or.inr ⟨by first | exact oq_ea7bd008 g6 hps4 | omega, by first | exact oq_faabd673 g10 hps7 vs3 | omega⟩⟩
  ·
    refine z_load_n X (x := y) rfl (List.Mem.tail _ (List.Mem.tail _ (List.Mem.head _))) (z_const X rfl (z_bipush X rfl (z_callS X (rm := rmN 188) (As := [.int (Int32.ofInt y), .int (Int32.ofInt 0), .int (Int32.ofInt 23)]) (st := [.ref (A 179)]) rfl rfl (by rw [E.1, E.2.1, E.2.2.1]; exact k_in2 G Is3 (by first | exact ⟨p1.1, p1.2⟩ | omega) (by first | exact ⟨by decide, by decide⟩ | omega) (by first | exact ⟨by decide, by decide⟩ | omega)) ⟨by rw [E.2.2.2]; exact (show (rmN 188).frames + 1 ≤ (rmN 237).frames by decide), by rw [E.2.2.2]; exact (show 8 + (mNL (miB 188) + 11) + (rmN 188).locals ≤ (rmN 237).locals by decide), by rw [E.2.2.2]; exact (show 0 + (rmN 188).cells ≤ (rmN 237).cells by decide), by rw [E.2.2.2]; exact (show 0 + (rmN 188).slots ≤ (rmN 237).slots by decide)⟩ (Nat.le_of_ble_eq_true rfl) (fun vv s19 hq => ?_) (fun ee s19 hq => ?_))))
    rotate_left
    · obtain ⟨rfl, e20, hv, hrs19, hps19⟩ := hq; cases hv
    obtain ⟨rfl, e20, hv, hrs19, hps19⟩ := hq
    cases hv
    show WS k 23 [(0, .ref (A 179)), (1, .int (Int32.ofInt x)), (2, .int (Int32.ofInt y)), (3, .int (Int32.ofInt z))] [.int (Int32.ofInt e20), .ref (A 179)] (Wd A dT s3) 0 0
    refine z_if_eq X (t := 35) rfl rfl hrs19 (fun g21 => ?_) (fun g21 => ?_)
    ·
      refine z_const X rfl (z_goto X (t := 40) rfl rfl (z_const X rfl (zcV_i0 X E 179 (As := [.int (Int32.ofInt 1), .int (Int32.ofInt 1)]) (st := []) rfl rfl rfl rfl (k_bad2 G Is3 (by first | exact Or.inr (by decide) | omega) (by first | exact ⟨by decide, by decide⟩ | omega)) rfl (Nat.le_of_ble_eq_true rfl) (fun s22 e23 Is22 Fs22 hrs22 hps22 => ?_))))
      have Gs22 := fm_tq Fs3 Fs22 rfl rfl
      have JRLx_s22 : RLx s22 := RLx_fm Fs22 (by decide) JRLx_s3
      have JMDJ_s22 : MDJ U s22 := MDJ_fm Fs22 (by decide) JMDJ_s3
      have b24 := bi_73 Is22
      have ws22_89 : iI s22 89 = iI s3 89 := fm_iq Fs22 rfl
      refine z_if_eq X (t := 49) rfl rfl hrs22 (fun g25 => ?_) (fun g25 => ?_)
      ·
        refine z_aload_n X (x := A 179) rfl (List.Mem.head _) (z_load_n X (x := x) rfl (List.Mem.tail _ (List.Mem.head _)) (zcV_v0 X E 179 (As := [.int (Int32.ofInt x)]) (st := []) rfl rfl rfl rfl (k_setOf3 G Is22 (by first | exact ⟨p0.1, p0.2⟩ | omega)) rfl (Nat.le_of_ble_eq_true rfl) (fun s26 Is26 Fs26 hps26 => ?_)))
        have Gs26 := fm_tq Gs22 Fs26 rfl rfl
        have JRLx_s26 : RLx s26 := RLx_fm Fs26 (by decide) JRLx_s22
        have JMDJ_s26 : MDJ U s26 := MDJ_fm Fs26 (by decide) JMDJ_s22
        have ws26_73 : iI s26 73 = iI s22 73 := fm_iq Fs26 rfl
        have ws26_89 : iI s26 89 = iI s22 89 := fm_iq Fs26 rfl
        have hIn : inS s26 = pcS (pfM s) x := by rw [soq_in hps26, show pfM s22 = pfM s from funext (fun j => fm_c Gs22 (by decide))]
        refine z_aload_n X (x := A 179) rfl (List.Mem.head _) (z_load_n X (x := y) rfl (List.Mem.tail _ (List.Mem.tail _ (List.Mem.head _))) (zcV_v2 X E 179 (As := [.int (Int32.ofInt y)]) (st := []) rfl rfl rfl rfl (k_asTold6 G Is26 JRLx_s26 JMDJ_s26 (by first | exact ⟨oq_674898f9 g25 hps22 vs3, oq_48516caf g25 hps22 vs3⟩ | omega)) rfl (Nat.le_of_ble_eq_true rfl) (fun s28 Is28 Fs28 JRLx_s28 JNQ_s28 hps28 => ?_)))
        have Gs28 := fm_tq Gs26 Fs28 rfl rfl
        have JRLx_s28 : RLx s28 := RLx_fm Fs28 (by decide) JRLx_s26
        have JMDJ_s28 : MDJ U s28 := MDJ_fm Fs28 (by decide) JMDJ_s26
        have ws28_73 : iI s28 73 = iI s26 73 := fm_iq Fs28 rfl
        have ws28_89 : iI s28 89 = iI s26 89 := fm_iq Fs28 rfl
        have JNW_s28 : NW s28 := NW_of JNQ_s28 JRLx_s28
        have hNW9 := nq_w JMDJ_s28 JNQ_s28
        have hNE9 : NWE U s28 := ⟨JMDJ_s28.1.2, hNW9.1⟩
        have hIn2 : inS s28 = pcS (pfM s) x := by rw [ins_fm Fs28 (by decide)]; exact hIn
        refine z_aload_n X (x := A 179) rfl (List.Mem.head _) (zcV_i0 X E 179 (As := []) (st := []) rfl rfl rfl rfl (k_load6 G Is28 JNW_s28 hNW9.2 JMDJ_s28 hNE9 hps28 ) rfl (Nat.le_of_ble_eq_true rfl) (fun s30 e31 Is30 Fs30 hrs30 hps30 => ?_))
        have Gs30 := fm_tq Gs28 Fs30 rfl rfl
        have JRLx_s30 : RLx s30 := RLx_fm Fs30 (by decide) JRLx_s28
        have ws30_73 : iI s30 73 = iI s28 73 := fm_iq Fs30 rfl
        have ws30_89 : iI s30 89 = iI s28 89 := fm_iq Fs30 rfl
        have hM1 : iI s28 89 = 1 := by first | (clear hps30 hps22 hps19 g6 hps4; omega) | (clear hps22 hps19 g6 hps4; omega) | omega
        have hl : Int32.ofInt e31 = ldH U (pcS (pfM s) x) 1 (y : Int).toNat (-1) := by unfold ldH; rw [mow_n, ← hIn2, ← hM1]; exact hps30.1
        have hn : ∀ j, j < 7 → Int32.ofInt (iC s30 161 j) = nmH (pcS (pfM s) x) (uW U) (moW U (y : Int).toNat (-1)) (uN U) 1 j := by rw [mow_n, ← hIn2, ← hM1]; exact hps30.2
        refine z_store X (lv' := [(4, .int (Int32.ofInt e31)), (0, .ref (A 179)), (1, .int (Int32.ofInt x)), (2, .int (Int32.ofInt y)), (3, .int (Int32.ofInt z))]) rfl (by decide) (fun _ h => h) (z_load_n X (x := z) rfl (List.Mem.tail _ (List.Mem.tail _ (List.Mem.tail _ (List.Mem.tail _ (List.Mem.head _))))) (z_const X rfl (z_icmp_ne X (t := 75) rfl rfl ⟨by first | exact p2.1 | omega, by first | exact p2.2 | omega⟩ (by decide) (fun g32 => ?_) (fun g32 => ?_))))
        ·
          refine z_aload_n X (x := A 179) rfl (List.Mem.tail _ (List.Mem.head _)) (s_getR X 179 rfl (c518_ok rfl) rfl rfl (z_load_n X (x := z) rfl (List.Mem.tail _ (List.Mem.tail _ (List.Mem.tail _ (List.Mem.tail _ (List.Mem.head _))))) (z_ald X 184 rfl (c518_ok rfl) rfl (by first | exact oq_674898f9 g25 hps22 vs3 | omega) (show z < 7 by first | exact oq_1c2f1f5a g25 hps22 vs3 | omega) (cbig_ok rfl) ?_)))
          have b33 := bc_161 Is30 (show (z).toNat < 7 by first | exact oq_aad1a907 g25 hps22 vs3 | omega)
          exact w_iret X.1 q hRt rfl (ax_d X (show cdA 237 81 = some (.ireturn, 1, 0, 0, 0) from rfl)) (Nat.zero_le _) (Nat.zero_le _) ⟨_, rfl, Is30, Gs30, JRLx_s30, (iC s30 161 (z).toNat), rfl, (rng_to _), Or.inl ⟨by first | exact ⟨oq_28d92795 g6 hps4, oq_ca823699 g6 hps4⟩ | omega, by first | exact ⟨oq_674898f9 g25 hps22 vs3, oq_48516caf g25 hps22 vs3⟩ | omega, by first | exact ⟨oq_674898f9 g25 hps22 vs3, oq_55558d00 g25 hps22 vs3⟩ | omega, by first | exact oq_3904add8 ws30_73 ws28_73 ws26_73 g25 b24.1 hps22 vs3 | omega, ⟨(rng_to _), Or.inr ⟨by first | (clear g32 hps30 hps22 hps19 g6 hps4; omega) | (clear hps30 hps22 hps19 g6 hps4; omega) | omega, hn _ (by first | (clear g32 hps30 hps22 hps19 g6 hps4; omega) | (clear hps30 hps22 hps19 g6 hps4; omega) | omega)⟩⟩⟩⟩
        ·
          refine z_load X (x := e31) rfl (List.Mem.head _) (z_goto X (t := 81) rfl rfl ?_)
          exact w_iret X.1 q hRt rfl (ax_d X (show cdA 237 81 = some (.ireturn, 1, 0, 0, 0) from rfl)) (Nat.zero_le _) (Nat.zero_le _) ⟨_, rfl, Is30, Gs30, JRLx_s30, e31, rfl, hrs30, Or.inl ⟨by first | exact ⟨oq_28d92795 g6 hps4, oq_ca823699 g6 hps4⟩ | omega, by first | exact ⟨oq_674898f9 g25 hps22 vs3, oq_48516caf g25 hps22 vs3⟩ | omega, by first | exact ⟨oq_fe46c430 g32, oq_2a0590ce g32⟩ | omega, by first | exact oq_3904add8 ws30_73 ws28_73 ws26_73 g25 b24.1 hps22 vs3 | omega, ⟨hrs30, Or.inl ⟨by first | (clear hps30 hps22 hps19 g6 hps4; omega) | (clear hps22 hps19 g6 hps4; omega) | omega, hl⟩⟩⟩⟩
      ·
        refine z_const X rfl ?_
        exact w_iret X.1 q hRt rfl (ax_d X (show cdA 237 48 = some (.ireturn, 1, 0, 0, 0) from rfl)) (Nat.zero_le _) (Nat.zero_le _) ⟨_, rfl, Is22, Gs22, JRLx_s22, 0, rfl, (by decide), Or.inr ⟨by first | exact oq_4764d6a0 g21 hps19 | omega, by first | exact oq_faabd673 g25 hps22 vs3 | omega⟩⟩
    ·
      refine z_load_n X (x := z) rfl (List.Mem.tail _ (List.Mem.tail _ (List.Mem.tail _ (List.Mem.head _)))) (z_const X rfl (z_const X rfl (z_callS X (rm := rmN 188) (As := [.int (Int32.ofInt z), .int (Int32.ofInt 0), .int (Int32.ofInt 4)]) (st := [.ref (A 179)]) rfl rfl (by rw [E.1, E.2.1, E.2.2.1]; exact k_in2 G Is3 (by first | exact ⟨p2.1, p2.2⟩ | omega) (by first | exact ⟨by decide, by decide⟩ | omega) (by first | exact ⟨by decide, by decide⟩ | omega)) ⟨by rw [E.2.2.2]; exact (show (rmN 188).frames + 1 ≤ (rmN 237).frames by decide), by rw [E.2.2.2]; exact (show 8 + (mNL (miB 188) + 11) + (rmN 188).locals ≤ (rmN 237).locals by decide), by rw [E.2.2.2]; exact (show 0 + (rmN 188).cells ≤ (rmN 237).cells by decide), by rw [E.2.2.2]; exact (show 0 + (rmN 188).slots ≤ (rmN 237).slots by decide)⟩ (Nat.le_of_ble_eq_true rfl) (fun vv s34 hq => ?_) (fun ee s34 hq => ?_))))
      rotate_left
      · obtain ⟨rfl, e35, hv, hrs34, hps34⟩ := hq; cases hv
      obtain ⟨rfl, e35, hv, hrs34, hps34⟩ := hq
      cases hv
      show WS k 32 [(0, .ref (A 179)), (1, .int (Int32.ofInt x)), (2, .int (Int32.ofInt y)), (3, .int (Int32.ofInt z))] [.int (Int32.ofInt e35), .ref (A 179)] (Wd A dT s3) 0 0
      refine z_if_ne X (t := 39) rfl rfl hrs34 (fun g36 => ?_) (fun g36 => ?_)
      ·
        refine z_const X rfl (z_const X rfl (zcV_i0 X E 179 (As := [.int (Int32.ofInt 0), .int (Int32.ofInt 1)]) (st := []) rfl rfl rfl rfl (k_bad2 G Is3 (by first | exact Or.inl (by decide) | omega) (by first | exact ⟨by decide, by decide⟩ | omega)) rfl (Nat.le_of_ble_eq_true rfl) (fun s37 e38 Is37 Fs37 hrs37 hps37 => ?_)))
        have Gs37 := fm_tq Fs3 Fs37 rfl rfl
        have JRLx_s37 : RLx s37 := RLx_fm Fs37 (by decide) JRLx_s3
        have JMDJ_s37 : MDJ U s37 := MDJ_fm Fs37 (by decide) JMDJ_s3
        have b39 := bi_73 Is37
        have ws37_89 : iI s37 89 = iI s3 89 := fm_iq Fs37 rfl
        refine z_if_eq X (t := 49) rfl rfl hrs37 (fun g40 => ?_) (fun g40 => ?_)
        ·
          refine z_aload_n X (x := A 179) rfl (List.Mem.head _) (z_load_n X (x := x) rfl (List.Mem.tail _ (List.Mem.head _)) (zcV_v0 X E 179 (As := [.int (Int32.ofInt x)]) (st := []) rfl rfl rfl rfl (k_setOf3 G Is37 (by first | exact ⟨p0.1, p0.2⟩ | omega)) rfl (Nat.le_of_ble_eq_true rfl) (fun s41 Is41 Fs41 hps41 => ?_)))
          have Gs41 := fm_tq Gs37 Fs41 rfl rfl
          have JRLx_s41 : RLx s41 := RLx_fm Fs41 (by decide) JRLx_s37
          have JMDJ_s41 : MDJ U s41 := MDJ_fm Fs41 (by decide) JMDJ_s37
          have ws41_73 : iI s41 73 = iI s37 73 := fm_iq Fs41 rfl
          have ws41_89 : iI s41 89 = iI s37 89 := fm_iq Fs41 rfl
          have hIn : inS s41 = pcS (pfM s) x := by rw [soq_in hps41, show pfM s37 = pfM s from funext (fun j => fm_c Gs37 (by decide))]
          refine z_aload_n X (x := A 179) rfl (List.Mem.head _) (z_load_n X (x := y) rfl (List.Mem.tail _ (List.Mem.tail _ (List.Mem.head _))) (zcV_v2 X E 179 (As := [.int (Int32.ofInt y)]) (st := []) rfl rfl rfl rfl (k_asTold6 G Is41 JRLx_s41 JMDJ_s41 (by first | exact ⟨oq_0159bb48 g21 hps19, oq_8b498cf6 g21 hps19⟩ | omega)) rfl (Nat.le_of_ble_eq_true rfl) (fun s43 Is43 Fs43 JRLx_s43 JNQ_s43 hps43 => ?_)))
          have Gs43 := fm_tq Gs41 Fs43 rfl rfl
          have JRLx_s43 : RLx s43 := RLx_fm Fs43 (by decide) JRLx_s41
          have JMDJ_s43 : MDJ U s43 := MDJ_fm Fs43 (by decide) JMDJ_s41
          have ws43_73 : iI s43 73 = iI s41 73 := fm_iq Fs43 rfl
          have ws43_89 : iI s43 89 = iI s41 89 := fm_iq Fs43 rfl
          have JNW_s43 : NW s43 := NW_of JNQ_s43 JRLx_s43
          have hNW9 := nq_w JMDJ_s43 JNQ_s43
          have hNE9 : NWE U s43 := ⟨JMDJ_s43.1.2, hNW9.1⟩
          have hIn2 : inS s43 = pcS (pfM s) x := by rw [ins_fm Fs43 (by decide)]; exact hIn
          refine z_aload_n X (x := A 179) rfl (List.Mem.head _) (zcV_i0 X E 179 (As := []) (st := []) rfl rfl rfl rfl (k_load6 G Is43 JNW_s43 hNW9.2 JMDJ_s43 hNE9 hps43 ) rfl (Nat.le_of_ble_eq_true rfl) (fun s45 e46 Is45 Fs45 hrs45 hps45 => ?_))
          have Gs45 := fm_tq Gs43 Fs45 rfl rfl
          have JRLx_s45 : RLx s45 := RLx_fm Fs45 (by decide) JRLx_s43
          have ws45_73 : iI s45 73 = iI s43 73 := fm_iq Fs45 rfl
          have ws45_89 : iI s45 89 = iI s43 89 := fm_iq Fs45 rfl
          have hM1 : iI s43 89 = 1 := by first | (clear hps45 hps37 g36 hps34 g21 hps19 g6 hps4; omega) | (clear hps37 g36 hps34 g21 hps19 g6 hps4; omega) | omega
          have hl : Int32.ofInt e46 = ldH U (pcS (pfM s) x) 1 (y : Int).toNat (-1) := by unfold ldH; rw [mow_n, ← hIn2, ← hM1]; exact hps45.1
          have hn : ∀ j, j < 7 → Int32.ofInt (iC s45 161 j) = nmH (pcS (pfM s) x) (uW U) (moW U (y : Int).toNat (-1)) (uN U) 1 j := by rw [mow_n, ← hIn2, ← hM1]; exact hps45.2
          refine z_store X (lv' := [(4, .int (Int32.ofInt e46)), (0, .ref (A 179)), (1, .int (Int32.ofInt x)), (2, .int (Int32.ofInt y)), (3, .int (Int32.ofInt z))]) rfl (by decide) (fun _ h => h) (z_load_n X (x := z) rfl (List.Mem.tail _ (List.Mem.tail _ (List.Mem.tail _ (List.Mem.tail _ (List.Mem.head _))))) (z_const X rfl (z_icmp_ne X (t := 75) rfl rfl ⟨by first | exact p2.1 | omega, by first | exact p2.2 | omega⟩ (by decide) (fun g47 => ?_) (fun g47 => ?_))))
          ·
            refine z_aload_n X (x := A 179) rfl (List.Mem.tail _ (List.Mem.head _)) (s_getR X 179 rfl (c518_ok rfl) rfl rfl (z_load_n X (x := z) rfl (List.Mem.tail _ (List.Mem.tail _ (List.Mem.tail _ (List.Mem.tail _ (List.Mem.head _))))) (z_ald X 184 rfl (c518_ok rfl) rfl (by first | exact oq_c95d1471 g36 hps34 | omega) (show z < 7 by first | exact oq_f36852f8 g36 hps34 | omega) (cbig_ok rfl) ?_)))
            have b48 := bc_161 Is45 (show (z).toNat < 7 by first | exact oq_4ae48de2 g36 hps34 | omega)
            exact w_iret X.1 q hRt rfl (ax_d X (show cdA 237 81 = some (.ireturn, 1, 0, 0, 0) from rfl)) (Nat.zero_le _) (Nat.zero_le _) ⟨_, rfl, Is45, Gs45, JRLx_s45, (iC s45 161 (z).toNat), rfl, (rng_to _), Or.inl ⟨by first | exact ⟨oq_28d92795 g6 hps4, oq_ca823699 g6 hps4⟩ | omega, by first | exact ⟨oq_0159bb48 g21 hps19, oq_8b498cf6 g21 hps19⟩ | omega, by first | exact ⟨oq_c95d1471 g36 hps34, oq_8faa6696 g36 hps34⟩ | omega, by first | exact oq_851b6b8b ws45_73 ws43_73 ws41_73 b39.1 hps37 vs3 | omega, ⟨(rng_to _), Or.inr ⟨by first | (clear g47 hps45 hps37 g36 hps34 g21 hps19 g6 hps4; omega) | (clear hps45 hps37 g36 hps34 g21 hps19 g6 hps4; omega) | omega, hn _ (by first | (clear g47 hps45 hps37 g36 hps34 g21 hps19 g6 hps4; omega) | (clear hps45 hps37 g36 hps34 g21 hps19 g6 hps4; omega) | omega)⟩⟩⟩⟩
          ·
            refine z_load X (x := e46) rfl (List.Mem.head _) (z_goto X (t := 81) rfl rfl ?_)
            exact w_iret X.1 q hRt rfl (ax_d X (show cdA 237 81 = some (.ireturn, 1, 0, 0, 0) from rfl)) (Nat.zero_le _) (Nat.zero_le _) ⟨_, rfl, Is45, Gs45, JRLx_s45, e46, rfl, hrs45, Or.inl ⟨by first | exact ⟨oq_28d92795 g6 hps4, oq_ca823699 g6 hps4⟩ | omega, by first | exact ⟨oq_0159bb48 g21 hps19, oq_8b498cf6 g21 hps19⟩ | omega, by first | exact ⟨oq_fe46c430 g47, oq_2a0590ce g47⟩ | omega, by first | exact oq_851b6b8b ws45_73 ws43_73 ws41_73 b39.1 hps37 vs3 | omega, ⟨hrs45, Or.inl ⟨by first | (clear hps45 hps37 g36 hps34 g21 hps19 g6 hps4; omega) | (clear hps37 g36 hps34 g21 hps19 g6 hps4; omega) | omega, hl⟩⟩⟩⟩
        ·
          refine z_const X rfl ?_
          exact w_iret X.1 q hRt rfl (ax_d X (show cdA 237 48 = some (.ireturn, 1, 0, 0, 0) from rfl)) (Nat.zero_le _) (Nat.zero_le _) ⟨_, rfl, Is37, Gs37, JRLx_s37, 0, rfl, (by decide), Or.inr ⟨by first | exact oq_5acfafb1 g40 hps37 vs3 | omega, by first | (clear g40 hps37 g36 hps34 g21 hps19 g6 hps4; omega) | (clear hps37 g36 hps34 g21 hps19 g6 hps4; omega) | omega⟩⟩
      ·
        refine z_const X rfl (z_goto X (t := 40) rfl rfl (z_const X rfl (zcV_i0 X E 179 (As := [.int (Int32.ofInt 1), .int (Int32.ofInt 1)]) (st := []) rfl rfl rfl rfl (k_bad2 G Is3 (by first | exact Or.inr (by decide) | omega) (by first | exact ⟨by decide, by decide⟩ | omega)) rfl (Nat.le_of_ble_eq_true rfl) (fun s49 e50 Is49 Fs49 hrs49 hps49 => ?_))))
        have Gs49 := fm_tq Fs3 Fs49 rfl rfl
        have JRLx_s49 : RLx s49 := RLx_fm Fs49 (by decide) JRLx_s3
        have JMDJ_s49 : MDJ U s49 := MDJ_fm Fs49 (by decide) JMDJ_s3
        have b51 := bi_73 Is49
        have ws49_89 : iI s49 89 = iI s3 89 := fm_iq Fs49 rfl
        refine z_if_eq X (t := 49) rfl rfl hrs49 (fun g52 => ?_) (fun g52 => ?_)
        ·
          refine z_aload_n X (x := A 179) rfl (List.Mem.head _) (z_load_n X (x := x) rfl (List.Mem.tail _ (List.Mem.head _)) (zcV_v0 X E 179 (As := [.int (Int32.ofInt x)]) (st := []) rfl rfl rfl rfl (k_setOf3 G Is49 (by first | exact ⟨p0.1, p0.2⟩ | omega)) rfl (Nat.le_of_ble_eq_true rfl) (fun s53 Is53 Fs53 hps53 => ?_)))
          have Gs53 := fm_tq Gs49 Fs53 rfl rfl
          have JRLx_s53 : RLx s53 := RLx_fm Fs53 (by decide) JRLx_s49
          have JMDJ_s53 : MDJ U s53 := MDJ_fm Fs53 (by decide) JMDJ_s49
          have ws53_73 : iI s53 73 = iI s49 73 := fm_iq Fs53 rfl
          have ws53_89 : iI s53 89 = iI s49 89 := fm_iq Fs53 rfl
          have hIn : inS s53 = pcS (pfM s) x := by rw [soq_in hps53, show pfM s49 = pfM s from funext (fun j => fm_c Gs49 (by decide))]
          refine z_aload_n X (x := A 179) rfl (List.Mem.head _) (z_load_n X (x := y) rfl (List.Mem.tail _ (List.Mem.tail _ (List.Mem.head _))) (zcV_v2 X E 179 (As := [.int (Int32.ofInt y)]) (st := []) rfl rfl rfl rfl (k_asTold6 G Is53 JRLx_s53 JMDJ_s53 (by first | exact ⟨oq_0159bb48 g21 hps19, oq_8b498cf6 g21 hps19⟩ | omega)) rfl (Nat.le_of_ble_eq_true rfl) (fun s55 Is55 Fs55 JRLx_s55 JNQ_s55 hps55 => ?_)))
          have Gs55 := fm_tq Gs53 Fs55 rfl rfl
          have JRLx_s55 : RLx s55 := RLx_fm Fs55 (by decide) JRLx_s53
          have JMDJ_s55 : MDJ U s55 := MDJ_fm Fs55 (by decide) JMDJ_s53
          have ws55_73 : iI s55 73 = iI s53 73 := fm_iq Fs55 rfl
          have ws55_89 : iI s55 89 = iI s53 89 := fm_iq Fs55 rfl
          have JNW_s55 : NW s55 := NW_of JNQ_s55 JRLx_s55
          have hNW9 := nq_w JMDJ_s55 JNQ_s55
          have hNE9 : NWE U s55 := ⟨JMDJ_s55.1.2, hNW9.1⟩
          have hIn2 : inS s55 = pcS (pfM s) x := by rw [ins_fm Fs55 (by decide)]; exact hIn
          refine z_aload_n X (x := A 179) rfl (List.Mem.head _) (zcV_i0 X E 179 (As := []) (st := []) rfl rfl rfl rfl (k_load6 G Is55 JNW_s55 hNW9.2 JMDJ_s55 hNE9 hps55 ) rfl (Nat.le_of_ble_eq_true rfl) (fun s57 e58 Is57 Fs57 hrs57 hps57 => ?_))
          have Gs57 := fm_tq Gs55 Fs57 rfl rfl
          have JRLx_s57 : RLx s57 := RLx_fm Fs57 (by decide) JRLx_s55
          have ws57_73 : iI s57 73 = iI s55 73 := fm_iq Fs57 rfl
          have ws57_89 : iI s57 89 = iI s55 89 := fm_iq Fs57 rfl
          have hM1 : iI s55 89 = 1 := by first | (clear hps57 hps49 hps34 g21 hps19 g6 hps4; omega) | (clear hps49 hps34 g21 hps19 g6 hps4; omega) | omega
          have hl : Int32.ofInt e58 = ldH U (pcS (pfM s) x) 1 (y : Int).toNat (-1) := by unfold ldH; rw [mow_n, ← hIn2, ← hM1]; exact hps57.1
          have hn : ∀ j, j < 7 → Int32.ofInt (iC s57 161 j) = nmH (pcS (pfM s) x) (uW U) (moW U (y : Int).toNat (-1)) (uN U) 1 j := by rw [mow_n, ← hIn2, ← hM1]; exact hps57.2
          refine z_store X (lv' := [(4, .int (Int32.ofInt e58)), (0, .ref (A 179)), (1, .int (Int32.ofInt x)), (2, .int (Int32.ofInt y)), (3, .int (Int32.ofInt z))]) rfl (by decide) (fun _ h => h) (z_load_n X (x := z) rfl (List.Mem.tail _ (List.Mem.tail _ (List.Mem.tail _ (List.Mem.tail _ (List.Mem.head _))))) (z_const X rfl (z_icmp_ne X (t := 75) rfl rfl ⟨by first | exact p2.1 | omega, by first | exact p2.2 | omega⟩ (by decide) (fun g59 => ?_) (fun g59 => ?_))))
          ·
            refine z_aload_n X (x := A 179) rfl (List.Mem.tail _ (List.Mem.head _)) (s_getR X 179 rfl (c518_ok rfl) rfl rfl (z_load_n X (x := z) rfl (List.Mem.tail _ (List.Mem.tail _ (List.Mem.tail _ (List.Mem.tail _ (List.Mem.head _))))) (z_ald X 184 rfl (c518_ok rfl) rfl (by first | exact oq_674898f9 g52 hps49 vs3 | omega) (show z < 7 by first | exact oq_1c2f1f5a g52 hps49 vs3 | omega) (cbig_ok rfl) ?_)))
            have b60 := bc_161 Is57 (show (z).toNat < 7 by first | exact oq_aad1a907 g52 hps49 vs3 | omega)
            exact w_iret X.1 q hRt rfl (ax_d X (show cdA 237 81 = some (.ireturn, 1, 0, 0, 0) from rfl)) (Nat.zero_le _) (Nat.zero_le _) ⟨_, rfl, Is57, Gs57, JRLx_s57, (iC s57 161 (z).toNat), rfl, (rng_to _), Or.inl ⟨by first | exact ⟨oq_28d92795 g6 hps4, oq_ca823699 g6 hps4⟩ | omega, by first | exact ⟨oq_0159bb48 g21 hps19, oq_8b498cf6 g21 hps19⟩ | omega, by first | exact ⟨oq_674898f9 g52 hps49 vs3, oq_55558d00 g52 hps49 vs3⟩ | omega, by first | exact oq_3904add8 ws57_73 ws55_73 ws53_73 g52 b51.1 hps49 vs3 | omega, ⟨(rng_to _), Or.inr ⟨by first | (clear g59 hps57 hps49 hps34 g21 hps19 g6 hps4; omega) | (clear hps57 hps49 hps34 g21 hps19 g6 hps4; omega) | omega, hn _ (by first | (clear g59 hps57 hps49 hps34 g21 hps19 g6 hps4; omega) | (clear hps57 hps49 hps34 g21 hps19 g6 hps4; omega) | omega)⟩⟩⟩⟩
          ·
            refine z_load X (x := e58) rfl (List.Mem.head _) (z_goto X (t := 81) rfl rfl ?_)
            exact w_iret X.1 q hRt rfl (ax_d X (show cdA 237 81 = some (.ireturn, 1, 0, 0, 0) from rfl)) (Nat.zero_le _) (Nat.zero_le _) ⟨_, rfl, Is57, Gs57, JRLx_s57, e58, rfl, hrs57, Or.inl ⟨by first | exact ⟨oq_28d92795 g6 hps4, oq_ca823699 g6 hps4⟩ | omega, by first | exact ⟨oq_0159bb48 g21 hps19, oq_8b498cf6 g21 hps19⟩ | omega, by first | exact ⟨oq_fe46c430 g59, oq_2a0590ce g59⟩ | omega, by first | exact oq_3904add8 ws57_73 ws55_73 ws53_73 g52 b51.1 hps49 vs3 | omega, ⟨hrs57, Or.inl ⟨by first | (clear hps57 hps49 hps34 g21 hps19 g6 hps4; omega) | (clear hps49 hps34 g21 hps19 g6 hps4; omega) | omega, hl⟩⟩⟩⟩
        ·
          refine z_const X rfl ?_
          exact w_iret X.1 q hRt rfl (ax_d X (show cdA 237 48 = some (.ireturn, 1, 0, 0, 0) from rfl)) (Nat.zero_le _) (Nat.zero_le _) ⟨_, rfl, Is49, Gs49, JRLx_s49, 0, rfl, (by decide), Or.inr ⟨by first | exact oq_9aec46d5 g36 hps34 | omega, by first | exact oq_faabd673 g52 hps49 vs3 | omega⟩⟩
set_option maxRecDepth 4000 in
theorem k_peakPiece6 (G : GX l s0 D tys a0 dT) {U : AirD} (I : Bd s) (jRLx : RLx s) (jMDJ : MDJ U s) {x : Int} (p0 : rng x) (p1 : iI s 89 = 1) : CT l s0 D A dT 232 (rmN 232) [.ref (A 179), .int (Int32.ofInt x)] s (fun o t => Bd t ∧ Fm [77, 75, 78, 79, 80, 81] [161, 202, 203, 204, 205, 206, 207, 208, 209, 210, 211, 212, 213, 214, 215, 216, 217, 218, 219, 220, 221, 222, 223, 224, 225, 226, 227, 230] s t ∧ RLx t ∧ ∃ e, o = .inl (some (.int (Int32.ofInt e))) ∧ rng e ∧ (e = pkH U (pcS (pfM s) x) ∧ inS t = pcS (pfM s) x)) := by
  refine ct_of G (by decide) (Nat.le_of_ble_eq_true rfl) (fun k X E hRt hXt q => ?_)
  show WS k 0 [(0, .ref (A 179)), (1, .int (Int32.ofInt x))] [] _ 0 0
  have F : Fm [77, 75, 78, 79, 80, 81] [161, 202, 203, 204, 205, 206, 207, 208, 209, 210, 211, 212, 213, 214, 215, 216, 217, 218, 219, 220, 221, 222, 223, 224, 225, 226, 227, 230] s s := fm_rf _ _ s
  have b1 := bi_89 I
  refine z_aload_n X (x := A 179) rfl (List.Mem.head _) (z_load_n X (x := x) rfl (List.Mem.tail _ (List.Mem.head _)) (zcV_v0 X E 179 (As := [.int (Int32.ofInt x)]) (st := []) rfl rfl rfl rfl (k_setOf3 G I (by first | exact ⟨p0.1, p0.2⟩ | omega)) rfl (Nat.le_of_ble_eq_true rfl) (fun s2 Is2 Fs2 hps2 => ?_)))
  have Gs2 := fm_tq F Fs2 rfl rfl
  have JRLx_s2 : RLx s2 := RLx_fm Fs2 (by decide) jRLx
  have JMDJ_s2 : MDJ U s2 := MDJ_fm Fs2 (by decide) jMDJ
  have ws2_89 : iI s2 89 = iI s 89 := fm_iq Fs2 rfl
  refine z_aload_n X (x := A 179) rfl (List.Mem.head _) (zcV_i1 X E 179 (As := []) (st := []) rfl rfl rfl rfl (k_peakSet3 G Is2 JRLx_s2 JMDJ_s2 (by first | exact oq_b44a1c7f ws2_89 p1 b1.1 | omega)) rfl (Nat.le_of_ble_eq_true rfl) (fun s4 e5 Is4 Fs4 JRLx_s4 hrs4 hps4 => ?_))
  have Gs4 := fm_tq Gs2 Fs4 rfl rfl
  have JRLx_s4 : RLx s4 := RLx_fm Fs4 (by decide) JRLx_s2
  have ws4_89 : iI s4 89 = iI s2 89 := fm_iq Fs4 rfl
  exact w_iret X.1 q hRt rfl (ax_d X (show cdA 232 9 = some (.ireturn, 1, 0, 0, 0) from rfl)) (Nat.zero_le _) (Nat.zero_le _) ⟨_, rfl, Is4, Gs4, JRLx_s4, e5, rfl, hrs4, ⟨by rw [← soq_in hps2]; exact hps4, by rw [ins_fm Fs4 (by decide)]; exact soq_in hps2⟩⟩
set_option maxRecDepth 4000 in
theorem k_peak6 (G : GX l s0 D tys a0 dT) {U : AirD} (I : Bd s) (jRLx : RLx s) (jMDJ : MDJ U s) {x y : Int} (p0 : rng x) (p1 : rng y) (p2 : iI s 89 = 1) : CT l s0 D A dT 238 (rmN 238) [.ref (A 179), .int (Int32.ofInt x), .int (Int32.ofInt y)] s (fun o t => Bd t ∧ Fm [73, 77, 75, 78, 79, 80, 81] [161, 202, 203, 204, 205, 206, 207, 208, 209, 210, 211, 212, 213, 214, 215, 216, 217, 218, 219, 220, 221, 222, 223, 224, 225, 226, 227, 230] s t ∧ RLx t ∧ ∃ e, o = .inl (some (.int (Int32.ofInt e))) ∧ rng e ∧ (((0 ≤ x ∧ x ≤ 7) ∧ (0 ≤ y ∧ y ≤ 1) ∧ iI t 73 = 0 ∧ PKE U (pfM s) x y e) ∨ ((x < 0 ∨ 7 < x ∨ y < 0 ∨ 1 < y) ∧ iI t 73 = 1))) := by
  refine ct_of G (by decide) (Nat.le_of_ble_eq_true rfl) (fun k X E hRt hXt q => ?_)
  show WS k 0 [(0, .ref (A 179)), (1, .int (Int32.ofInt x)), (2, .int (Int32.ofInt y))] [] _ 0 0
  have F : Fm [73, 77, 75, 78, 79, 80, 81] [161, 202, 203, 204, 205, 206, 207, 208, 209, 210, 211, 212, 213, 214, 215, 216, 217, 218, 219, 220, 221, 222, 223, 224, 225, 226, 227, 230] s s := fm_rf _ _ s
  have b1 := bi_73 I
  have b2 := bi_89 I
  have L48 : ∀ (n : Nat) (t : PS) (xv yv pv qq : Int), Bd t → Fm [73, 77, 75, 78, 79, 80, 81] [161, 202, 203, 204, 205, 206, 207, 208, 209, 210, 211, 212, 213, 214, 215, 216, 217, 218, 219, 220, 221, 222, 223, 224, 225, 226, 227, 230] s t → RLx t → MDJ U t → (NPQ (lqH U (pcS (pfM s) x)) pv qq ∧ inS t = pcS (pfM s) x ∧ pv = pkH U (pcS (pfM s) x)) → ((xv = x ∧ yv = y ∧ rng pv) ∧ (0 ≤ x ∧ x ≤ 7 ∧ 0 ≤ y ∧ y ≤ 1) ∧ (0 ≤ qq ∧ qq ≤ 24) ∧ iI t 73 = 0 ∧ iI t 89 = 1) → (24 - qq : Int).toNat < n → (∀ (t' : PS) (qq' : Int), Bd t' → Fm [73, 77, 75, 78, 79, 80, 81] [161, 202, 203, 204, 205, 206, 207, 208, 209, 210, 211, 212, 213, 214, 215, 216, 217, 218, 219, 220, 221, 222, 223, 224, 225, 226, 227, 230] s t' → RLx t' → MDJ U t' → (NPQ (lqH U (pcS (pfM s) x)) pv qq' ∧ inS t' = pcS (pfM s) x ∧ pv = pkH U (pcS (pfM s) x)) → ((xv = x ∧ yv = y ∧ rng pv) ∧ (0 ≤ x ∧ x ≤ 7 ∧ 0 ≤ y ∧ y ≤ 1) ∧ (y = 1 → qq' = 24) ∧ iI t' 73 = 0) → WS k 83 [(0, .ref (A 179)), (1, .int (Int32.ofInt xv)), (2, .int (Int32.ofInt yv)), (3, .int (Int32.ofInt pv)), (4, .int (Int32.ofInt qq'))] [] (Wd A dT t') 0 0) → WS k 48 [(0, .ref (A 179)), (1, .int (Int32.ofInt xv)), (2, .int (Int32.ofInt yv)), (3, .int (Int32.ofInt pv)), (4, .int (Int32.ofInt qq))] [] (Wd A dT t) 0 0 := by
    intro n
    induction n with
    | zero =>
      intro t xv yv pv qq I F jjRLx jjMDJ hq hi hm kx
      exact absurd hm (Nat.not_lt_zero _)
    | succ n ih =>
      intro t xv yv pv qq I F jjRLx jjMDJ hq hi hm kx
      have b1001 := bi_73 I
      have b1002 := bi_89 I
      refine z_load X (x := qq) rfl (List.Mem.tail _ (List.Mem.tail _ (List.Mem.tail _ (List.Mem.tail _ (List.Mem.head _))))) (z_bipush X rfl (z_icmp_ge X (t := 83) rfl rfl ⟨by first | exact oq_fa4e5087 hi.2.2.1.1 | omega, by first | exact oq_5bcd337f hi.2.2.1.2 | omega⟩ (by decide) (fun g1003 => ?_) (fun g1003 => ?_)))
      ·
        refine WS_pq [0, 1, 2, 3, 4] (lv' := [(0, .ref (A 179)), (1, .int (Int32.ofInt xv)), (2, .int (Int32.ofInt yv)), (3, .int (Int32.ofInt pv)), (4, .int (Int32.ofInt qq))]) rfl ?_
        exact kx _ qq I F jjRLx jjMDJ hq (by first | exact ⟨And.intro (hi.1.1) (And.intro (hi.1.2.1) (And.intro (hi.1.2.2.1) (hi.1.2.2.2))), And.intro (hi.2.1.1) (And.intro (hi.2.1.2.1) (And.intro (hi.2.1.2.2.1) (hi.2.1.2.2.2))), oq_927d1ede g1003 hi.2.2.1.2, hi.2.2.2.1⟩ | omega)
      ·
        refine z_load_n X (x := yv) rfl (List.Mem.tail _ (List.Mem.tail _ (List.Mem.head _))) (z_const X rfl (z_icmp_ne X (t := 83) rfl rfl ⟨by first | exact oq_b3df2c6f hi.1.2.1 hi.2.1.2.2.1 | omega, by first | exact oq_3bf7c99f hi.1.2.1 hi.2.1.2.2.2 | omega⟩ (by decide) (fun g1004 => ?_) (fun g1004 => ?_)))
        ·
          refine WS_pq [0, 1, 2, 3, 4] (lv' := [(0, .ref (A 179)), (1, .int (Int32.ofInt xv)), (2, .int (Int32.ofInt yv)), (3, .int (Int32.ofInt pv)), (4, .int (Int32.ofInt qq))]) rfl ?_
          exact kx _ qq I F jjRLx jjMDJ hq (by first | exact ⟨And.intro (hi.1.1) (And.intro (hi.1.2.1) (And.intro (hi.1.2.2.1) (hi.1.2.2.2))), And.intro (hi.2.1.1) (And.intro (hi.2.1.2.1) (And.intro (hi.2.1.2.2.1) (hi.2.1.2.2.2))), oq_ade2c074 g1004 hi.2.1.2.2.2 hi.1.2.1, hi.2.2.2.1⟩ | omega)
        ·
          refine z_aload_n X (x := A 179) rfl (List.Mem.head _) (z_load X (x := qq) rfl (List.Mem.tail _ (List.Mem.tail _ (List.Mem.tail _ (List.Mem.tail _ (List.Mem.head _))))) (zcV_v2 X E 179 (As := [.int (Int32.ofInt qq)]) (st := []) rfl rfl rfl rfl (k_asTold6 G I jjRLx jjMDJ (by first | exact ⟨hi.2.2.1.1, oq_c69fe266 g1003⟩ | omega)) rfl (Nat.le_of_ble_eq_true rfl) (fun s1005 Is1005 Fs1005 JRLx_s1005 JNQ_s1005 hps1005 => ?_)))
          have Gs1005 := fm_tq F Fs1005 rfl rfl
          have JRLx_s1005 : RLx s1005 := RLx_fm Fs1005 (by decide) jjRLx
          have JMDJ_s1005 : MDJ U s1005 := MDJ_fm Fs1005 (by decide) jjMDJ
          have ws1005_73 : iI s1005 73 = iI t 73 := fm_iq Fs1005 rfl
          have ws1005_89 : iI s1005 89 = iI t 89 := fm_iq Fs1005 rfl
          have JNW_s1005 : NW s1005 := NW_of JNQ_s1005 JRLx_s1005
          have hNW9 := nq_w JMDJ_s1005 JNQ_s1005
          have hNE9 : NWE U s1005 := ⟨JMDJ_s1005.1.2, hNW9.1⟩
          have hIn2 : inS s1005 = pcS (pfM s) x := by rw [ins_fm Fs1005 (by decide)]; exact hq.2.1
          refine z_aload_n X (x := A 179) rfl (List.Mem.head _) (zcV_i0 X E 179 (As := []) (st := []) rfl rfl rfl rfl (k_load6 G Is1005 JNW_s1005 hNW9.2 JMDJ_s1005 hNE9 hps1005 ) rfl (Nat.le_of_ble_eq_true rfl) (fun s1007 e1008 Is1007 Fs1007 hrs1007 hps1007 => ?_))
          have Gs1007 := fm_tq Gs1005 Fs1007 rfl rfl
          have JRLx_s1007 : RLx s1007 := RLx_fm Fs1007 (by decide) JRLx_s1005
          have JMDJ_s1007 : MDJ U s1007 := MDJ_fm Fs1007 (by decide) JMDJ_s1005
          have ws1007_73 : iI s1007 73 = iI s1005 73 := fm_iq Fs1007 rfl
          have ws1007_89 : iI s1007 89 = iI s1005 89 := fm_iq Fs1007 rfl
          have hld : e1008 = lqH U (pcS (pfM s) x) (qq : Int).toNat := by have z := lq_of (S := inS s1005) hrs1007 (by have z := hps1007.1; rw [show iI s1005 89 = 1 by first | (clear hps1007; omega) | omega] at z; exact z); rw [hIn2] at z; exact z
          have hIn3 : inS s1007 = pcS (pfM s) x := by rw [ins_fm Fs1007 (by decide)]; exact hIn2
          refine z_load_n X (x := pv) rfl (List.Mem.tail _ (List.Mem.tail _ (List.Mem.tail _ (List.Mem.head _)))) (z_icmp_ne X (t := 77) rfl rfl hrs1007 ⟨by first | exact hi.1.2.2.1 | omega, by first | exact hi.1.2.2.2 | omega⟩ (fun g1009 => ?_) (fun g1009 => ?_))
          ·
            refine z_inc X (x := qq) (lv' := [(4, .int (Int32.ofInt (qq + 1))), (0, .ref (A 179)), (1, .int (Int32.ofInt xv)), (2, .int (Int32.ofInt yv)), (3, .int (Int32.ofInt pv))]) rfl (by decide) (List.Mem.tail _ (List.Mem.tail _ (List.Mem.tail _ (List.Mem.tail _ (List.Mem.head _))))) (fun _ h => h) (z_goto X (t := 48) rfl rfl (WS_pq [1, 2, 3, 4, 0] (lv' := [(0, .ref (A 179)), (1, .int (Int32.ofInt xv)), (2, .int (Int32.ofInt yv)), (3, .int (Int32.ofInt pv)), (4, .int (Int32.ofInt (qq + 1)))]) rfl ?_))
            exact ih _ xv yv pv (qq + 1) Is1007 Gs1007 JRLx_s1007 JMDJ_s1007 ⟨npq_up hq.1 (by first | (clear g1009 hps1007; omega) | (clear hps1007; omega) | omega) hld (by first | (clear g1009 hps1007; omega) | (clear hps1007; omega) | omega), hIn3, hq.2.2⟩ (by first | exact ⟨And.intro (hi.1.1) (And.intro (hi.1.2.1) (And.intro (hi.1.2.2.1) (hi.1.2.2.2))), And.intro (hi.2.1.1) (And.intro (hi.2.1.2.1) (And.intro (hi.2.1.2.2.1) (hi.2.1.2.2.2))), And.intro (oq_54f49eb5 hi.2.2.1.1) (oq_cec7cb2e g1003), oq_7fe879e0 ws1007_73 ws1005_73 hi.2.2.2.1 b1001.1, oq_f34933ba ws1007_89 ws1005_89 hi.2.2.2.2 b1002.1⟩ | omega) (by first | exact qk_me hm (by decide) (oq_ffa8317e g1003) | omega) kx
          ·
            refine z_load X (x := qq) rfl (List.Mem.tail _ (List.Mem.tail _ (List.Mem.tail _ (List.Mem.tail _ (List.Mem.head _))))) ?_
            exact w_iret X.1 q hRt rfl (ax_d X (show cdA 238 76 = some (.ireturn, 1, 0, 0, 0) from rfl)) (Nat.zero_le _) (Nat.zero_le _) ⟨_, rfl, Is1007, Gs1007, JRLx_s1007, qq, rfl, ⟨by first | exact oq_fa4e5087 hi.2.2.1.1 | omega, by first | exact oq_1d70227b g1003 | omega⟩, Or.inl ⟨by first | exact ⟨hi.2.1.1, hi.2.1.2.1⟩ | omega, by first | exact ⟨hi.2.1.2.2.1, hi.2.1.2.2.2⟩ | omega, by first | exact oq_7fe879e0 ws1007_73 ws1005_73 hi.2.2.2.1 b1001.1 | omega, Or.inr ⟨by first | (clear hps1007; omega) | omega, npq_e hq.1 (by first | (clear hps1007; omega) | omega) hq.2.2 hld (by first | (clear hps1007; omega) | omega)⟩⟩⟩
  refine z_aload_n X (x := A 179) rfl (List.Mem.head _) (z_const X rfl (s_putI X 179 rfl (c518_ok rfl) rfl rfl (by decide) rfl rfl rfl (wd_gen (fun s3 hs3 => ?_))))
  have Is3 : Bd s3 := eqB hs3 (bd_I I (show (0 : Int) ≤ 0 ∧ 0 ≤ 3 by first | exact ⟨by decide, by decide⟩ | omega) (by decide))
  have Fs3 := eqF hs3 (fm_I F (inl_ok (a := 73) rfl))
  have vs3 : iI s3 73 = 0 := eqI hs3 (iI_u (by decide))
  have ws3_89 : iI s3 89 = iI s 89 := eqI hs3 rfl
  have fs3 : Fm [73] [] s s3 := by rw [hs3]; exact fm_I (fm_rf _ _ _) (show 73 ∈ _ by decide)
  have JRLx_s3 : RLx s3 := RLx_fm fs3 (by decide) jRLx
  have JMDJ_s3 : MDJ U s3 := MDJ_fm fs3 (by decide) jMDJ
  refine z_aload_n X (x := A 179) rfl (List.Mem.head _) (z_load_n X (x := x) rfl (List.Mem.tail _ (List.Mem.head _)) (z_const X rfl (z_bipush X rfl (z_callS X (rm := rmN 188) (As := [.int (Int32.ofInt x), .int (Int32.ofInt 0), .int (Int32.ofInt 7)]) (st := [.ref (A 179)]) rfl rfl (by rw [E.1, E.2.1, E.2.2.1]; exact k_in2 G Is3 (by first | exact ⟨p0.1, p0.2⟩ | omega) (by first | exact ⟨by decide, by decide⟩ | omega) (by first | exact ⟨by decide, by decide⟩ | omega)) ⟨by rw [E.2.2.2]; exact (show (rmN 188).frames + 1 ≤ (rmN 238).frames by decide), by rw [E.2.2.2]; exact (show 8 + (mNL (miB 188) + 11) + (rmN 188).locals ≤ (rmN 238).locals by decide), by rw [E.2.2.2]; exact (show 0 + (rmN 188).cells ≤ (rmN 238).cells by decide), by rw [E.2.2.2]; exact (show 0 + (rmN 188).slots ≤ (rmN 238).slots by decide)⟩ (Nat.le_of_ble_eq_true rfl) (fun vv s4 hq => ?_) (fun ee s4 hq => ?_)))))
  rotate_left
  · obtain ⟨rfl, e5, hv, hrs4, hps4⟩ := hq; cases hv
  obtain ⟨rfl, e5, hv, hrs4, hps4⟩ := hq
  cases hv
  show WS k 13 [(0, .ref (A 179)), (1, .int (Int32.ofInt x)), (2, .int (Int32.ofInt y))] [.int (Int32.ofInt e5), .ref (A 179)] (Wd A dT s3) 0 0
  refine z_if_eq X (t := 25) rfl rfl hrs4 (fun g6 => ?_) (fun g6 => ?_)
  ·
    refine z_const X rfl (z_goto X (t := 30) rfl rfl (z_const X rfl (zcV_i0 X E 179 (As := [.int (Int32.ofInt 1), .int (Int32.ofInt 1)]) (st := []) rfl rfl rfl rfl (k_bad2 G Is3 (by first | exact Or.inr (by decide) | omega) (by first | exact ⟨by decide, by decide⟩ | omega)) rfl (Nat.le_of_ble_eq_true rfl) (fun s7 e8 Is7 Fs7 hrs7 hps7 => ?_))))
    have Gs7 := fm_tq Fs3 Fs7 rfl rfl
    have JRLx_s7 : RLx s7 := RLx_fm Fs7 (by decide) JRLx_s3
    have JMDJ_s7 : MDJ U s7 := MDJ_fm Fs7 (by decide) JMDJ_s3
    have b9 := bi_73 Is7
    have ws7_89 : iI s7 89 = iI s3 89 := fm_iq Fs7 rfl
    refine z_if_eq X (t := 39) rfl rfl hrs7 (fun g10 => ?_) (fun g10 => ?_)
    ·
      refine z_aload_n X (x := A 179) rfl (List.Mem.head _) (z_load_n X (x := x) rfl (List.Mem.tail _ (List.Mem.head _)) (zcV_i1 X E 179 (As := [.int (Int32.ofInt x)]) (st := []) rfl rfl rfl rfl (k_peakPiece6 G Is7 JRLx_s7 JMDJ_s7 (by first | exact ⟨p0.1, p0.2⟩ | omega) (by first | exact oq_f34933ba ws7_89 ws3_89 p2 b2.1 | omega)) rfl (Nat.le_of_ble_eq_true rfl) (fun s11 e12 Is11 Fs11 JRLx_s11 hrs11 hps11 => ?_)))
      have Gs11 := fm_tq Gs7 Fs11 rfl rfl
      have JRLx_s11 : RLx s11 := RLx_fm Fs11 (by decide) JRLx_s7
      have JMDJ_s11 : MDJ U s11 := MDJ_fm Fs11 (by decide) JMDJ_s7
      have ws11_73 : iI s11 73 = iI s7 73 := fm_iq Fs11 rfl
      have ws11_89 : iI s11 89 = iI s7 89 := fm_iq Fs11 rfl
      have hP0 : pfM s7 = pfM s := funext (fun j => fm_c Gs7 (by decide))
      have hpk : e12 = pkH U (pcS (pfM s) x) := by rw [← hP0]; exact hps11.1
      have hI0 : inS s11 = pcS (pfM s) x := by rw [← hP0]; exact hps11.2
      refine z_store_n X (lv' := [(3, .int (Int32.ofInt e12)), (0, .ref (A 179)), (1, .int (Int32.ofInt x)), (2, .int (Int32.ofInt y))]) rfl (by decide) (fun _ h => h) (z_const X rfl (z_store X (lv' := [(4, .int (Int32.ofInt 0)), (3, .int (Int32.ofInt e12)), (0, .ref (A 179)), (1, .int (Int32.ofInt x)), (2, .int (Int32.ofInt y))]) rfl (by decide) (fun _ h => h) (WS_pq [2, 3, 4, 1, 0] (lv' := [(0, .ref (A 179)), (1, .int (Int32.ofInt x)), (2, .int (Int32.ofInt y)), (3, .int (Int32.ofInt e12)), (4, .int (Int32.ofInt 0))]) rfl (L48 ((24 - 0 : Int).toNat + 1) s11 x y e12 0 Is11 Gs11 JRLx_s11 JMDJ_s11 ⟨fun q hq => absurd hq (by first | (clear hps7 hps4; omega) | (clear hps4; omega) | omega), hI0, hpk⟩ (by first | exact ⟨oq_c4dc4762 g10 hps7 vs3, oq_d2435177 g10 hps7 vs3, And.intro (by decide) (by decide), oq_8c407924 ws11_73 g10 b9.1 hps7 vs3, oq_29301542 ws11_89 ws7_89 ws3_89 p2 b2.1⟩ | omega) (Nat.lt_succ_self _) ?_))))
      intro s13 x14 Is13 Fs13 JRLx_s13 JMDJ_s13 Qs13 hs13
      have b15 := bi_73 Is13
      have b16 := bi_89 Is13
      refine z_load_n X (x := e12) rfl (List.Mem.tail _ (List.Mem.tail _ (List.Mem.tail _ (List.Mem.head _)))) ?_
      exact w_iret X.1 q hRt rfl (ax_d X (show cdA 238 84 = some (.ireturn, 1, 0, 0, 0) from rfl)) (Nat.zero_le _) (Nat.zero_le _) ⟨_, rfl, Is13, Fs13, JRLx_s13, e12, rfl, hrs11, Or.inl ⟨by first | exact ⟨hs13.2.1.1, hs13.2.1.2.1⟩ | omega, by first | exact ⟨hs13.2.1.2.2.1, hs13.2.1.2.2.2⟩ | omega, by first | exact hs13.2.2.2 | omega, by rcases (show y = 0 ∨ y = 1 by first | (clear hps7 hps4; omega) | (clear hps4; omega) | omega) with z | z; (· exact Or.inl ⟨z, Qs13.2.2⟩); (· exact (npq_no (by have w := Qs13.1; rw [show x14 = 24 by first | (clear hps7 hps4; omega) | (clear hps4; omega) | omega] at w; exact w) Qs13.2.2).elim)⟩⟩
    ·
      refine z_const X rfl ?_
      exact w_iret X.1 q hRt rfl (ax_d X (show cdA 238 38 = some (.ireturn, 1, 0, 0, 0) from rfl)) (Nat.zero_le _) (Nat.zero_le _) ⟨_, rfl, Is7, Gs7, JRLx_s7, 0, rfl, (by decide), Or.inr ⟨by first | exact oq_0897eb71 g6 hps4 | omega, by first | exact oq_faabd673 g10 hps7 vs3 | omega⟩⟩
  ·
    refine z_load_n X (x := y) rfl (List.Mem.tail _ (List.Mem.tail _ (List.Mem.head _))) (z_const X rfl (z_const X rfl (z_callS X (rm := rmN 188) (As := [.int (Int32.ofInt y), .int (Int32.ofInt 0), .int (Int32.ofInt 1)]) (st := [.ref (A 179)]) rfl rfl (by rw [E.1, E.2.1, E.2.2.1]; exact k_in2 G Is3 (by first | exact ⟨p1.1, p1.2⟩ | omega) (by first | exact ⟨by decide, by decide⟩ | omega) (by first | exact ⟨by decide, by decide⟩ | omega)) ⟨by rw [E.2.2.2]; exact (show (rmN 188).frames + 1 ≤ (rmN 238).frames by decide), by rw [E.2.2.2]; exact (show 8 + (mNL (miB 188) + 11) + (rmN 188).locals ≤ (rmN 238).locals by decide), by rw [E.2.2.2]; exact (show 0 + (rmN 188).cells ≤ (rmN 238).cells by decide), by rw [E.2.2.2]; exact (show 0 + (rmN 188).slots ≤ (rmN 238).slots by decide)⟩ (Nat.le_of_ble_eq_true rfl) (fun vv s17 hq => ?_) (fun ee s17 hq => ?_))))
    rotate_left
    · obtain ⟨rfl, e18, hv, hrs17, hps17⟩ := hq; cases hv
    obtain ⟨rfl, e18, hv, hrs17, hps17⟩ := hq
    cases hv
    show WS k 22 [(0, .ref (A 179)), (1, .int (Int32.ofInt x)), (2, .int (Int32.ofInt y))] [.int (Int32.ofInt e18), .ref (A 179)] (Wd A dT s3) 0 0
    refine z_if_ne X (t := 29) rfl rfl hrs17 (fun g19 => ?_) (fun g19 => ?_)
    ·
      refine z_const X rfl (z_const X rfl (zcV_i0 X E 179 (As := [.int (Int32.ofInt 0), .int (Int32.ofInt 1)]) (st := []) rfl rfl rfl rfl (k_bad2 G Is3 (by first | exact Or.inl (by decide) | omega) (by first | exact ⟨by decide, by decide⟩ | omega)) rfl (Nat.le_of_ble_eq_true rfl) (fun s20 e21 Is20 Fs20 hrs20 hps20 => ?_)))
      have Gs20 := fm_tq Fs3 Fs20 rfl rfl
      have JRLx_s20 : RLx s20 := RLx_fm Fs20 (by decide) JRLx_s3
      have JMDJ_s20 : MDJ U s20 := MDJ_fm Fs20 (by decide) JMDJ_s3
      have b22 := bi_73 Is20
      have ws20_89 : iI s20 89 = iI s3 89 := fm_iq Fs20 rfl
      refine z_if_eq X (t := 39) rfl rfl hrs20 (fun g23 => ?_) (fun g23 => ?_)
      ·
        refine z_aload_n X (x := A 179) rfl (List.Mem.head _) (z_load_n X (x := x) rfl (List.Mem.tail _ (List.Mem.head _)) (zcV_i1 X E 179 (As := [.int (Int32.ofInt x)]) (st := []) rfl rfl rfl rfl (k_peakPiece6 G Is20 JRLx_s20 JMDJ_s20 (by first | exact ⟨p0.1, p0.2⟩ | omega) (by first | exact oq_f34933ba ws20_89 ws3_89 p2 b2.1 | omega)) rfl (Nat.le_of_ble_eq_true rfl) (fun s24 e25 Is24 Fs24 JRLx_s24 hrs24 hps24 => ?_)))
        have Gs24 := fm_tq Gs20 Fs24 rfl rfl
        have JRLx_s24 : RLx s24 := RLx_fm Fs24 (by decide) JRLx_s20
        have JMDJ_s24 : MDJ U s24 := MDJ_fm Fs24 (by decide) JMDJ_s20
        have ws24_73 : iI s24 73 = iI s20 73 := fm_iq Fs24 rfl
        have ws24_89 : iI s24 89 = iI s20 89 := fm_iq Fs24 rfl
        have hP0 : pfM s20 = pfM s := funext (fun j => fm_c Gs20 (by decide))
        have hpk : e25 = pkH U (pcS (pfM s) x) := by rw [← hP0]; exact hps24.1
        have hI0 : inS s24 = pcS (pfM s) x := by rw [← hP0]; exact hps24.2
        refine z_store_n X (lv' := [(3, .int (Int32.ofInt e25)), (0, .ref (A 179)), (1, .int (Int32.ofInt x)), (2, .int (Int32.ofInt y))]) rfl (by decide) (fun _ h => h) (z_const X rfl (z_store X (lv' := [(4, .int (Int32.ofInt 0)), (3, .int (Int32.ofInt e25)), (0, .ref (A 179)), (1, .int (Int32.ofInt x)), (2, .int (Int32.ofInt y))]) rfl (by decide) (fun _ h => h) (WS_pq [2, 3, 4, 1, 0] (lv' := [(0, .ref (A 179)), (1, .int (Int32.ofInt x)), (2, .int (Int32.ofInt y)), (3, .int (Int32.ofInt e25)), (4, .int (Int32.ofInt 0))]) rfl (L48 ((24 - 0 : Int).toNat + 1) s24 x y e25 0 Is24 Gs24 JRLx_s24 JMDJ_s24 ⟨fun q hq => absurd hq (by first | (clear hps20 g19 hps17 g6 hps4; omega) | (clear g19 hps17 g6 hps4; omega) | omega), hI0, hpk⟩ (by first | exact ⟨by first | (clear hps20 g19 hps17 g6 hps4; omega) | (clear g19 hps17 g6 hps4; omega) | omega, oq_79d75020 g19 hps17 g6 hps4, And.intro (by decide) (by decide), oq_48a52f1b ws24_73 b22.1 hps20 vs3, oq_29301542 ws24_89 ws20_89 ws3_89 p2 b2.1⟩ | omega) (Nat.lt_succ_self _) ?_))))
        intro s26 x27 Is26 Fs26 JRLx_s26 JMDJ_s26 Qs26 hs26
        have b28 := bi_73 Is26
        have b29 := bi_89 Is26
        refine z_load_n X (x := e25) rfl (List.Mem.tail _ (List.Mem.tail _ (List.Mem.tail _ (List.Mem.head _)))) ?_
        exact w_iret X.1 q hRt rfl (ax_d X (show cdA 238 84 = some (.ireturn, 1, 0, 0, 0) from rfl)) (Nat.zero_le _) (Nat.zero_le _) ⟨_, rfl, Is26, Fs26, JRLx_s26, e25, rfl, hrs24, Or.inl ⟨by first | exact ⟨hs26.2.1.1, hs26.2.1.2.1⟩ | omega, by first | exact ⟨hs26.2.1.2.2.1, hs26.2.1.2.2.2⟩ | omega, by first | exact hs26.2.2.2 | omega, by rcases (show y = 0 ∨ y = 1 by first | (clear hps20 g19 hps17 g6 hps4; omega) | (clear g19 hps17 g6 hps4; omega) | omega) with z | z; (· exact Or.inl ⟨z, Qs26.2.2⟩); (· exact (npq_no (by have w := Qs26.1; rw [show x27 = 24 by first | (clear hps20 g19 hps17 g6 hps4; omega) | (clear g19 hps17 g6 hps4; omega) | omega] at w; exact w) Qs26.2.2).elim)⟩⟩
      ·
        refine z_const X rfl ?_
        exact w_iret X.1 q hRt rfl (ax_d X (show cdA 238 38 = some (.ireturn, 1, 0, 0, 0) from rfl)) (Nat.zero_le _) (Nat.zero_le _) ⟨_, rfl, Is20, Gs20, JRLx_s20, 0, rfl, (by decide), Or.inr ⟨by first | exact oq_4cd35edf g23 hps20 vs3 | omega, by first | exact oq_df0d149a g23 hps20 vs3 | omega⟩⟩
    ·
      refine z_const X rfl (z_goto X (t := 30) rfl rfl (z_const X rfl (zcV_i0 X E 179 (As := [.int (Int32.ofInt 1), .int (Int32.ofInt 1)]) (st := []) rfl rfl rfl rfl (k_bad2 G Is3 (by first | exact Or.inr (by decide) | omega) (by first | exact ⟨by decide, by decide⟩ | omega)) rfl (Nat.le_of_ble_eq_true rfl) (fun s30 e31 Is30 Fs30 hrs30 hps30 => ?_))))
      have Gs30 := fm_tq Fs3 Fs30 rfl rfl
      have JRLx_s30 : RLx s30 := RLx_fm Fs30 (by decide) JRLx_s3
      have JMDJ_s30 : MDJ U s30 := MDJ_fm Fs30 (by decide) JMDJ_s3
      have b32 := bi_73 Is30
      have ws30_89 : iI s30 89 = iI s3 89 := fm_iq Fs30 rfl
      refine z_if_eq X (t := 39) rfl rfl hrs30 (fun g33 => ?_) (fun g33 => ?_)
      ·
        refine z_aload_n X (x := A 179) rfl (List.Mem.head _) (z_load_n X (x := x) rfl (List.Mem.tail _ (List.Mem.head _)) (zcV_i1 X E 179 (As := [.int (Int32.ofInt x)]) (st := []) rfl rfl rfl rfl (k_peakPiece6 G Is30 JRLx_s30 JMDJ_s30 (by first | exact ⟨p0.1, p0.2⟩ | omega) (by first | exact oq_f34933ba ws30_89 ws3_89 p2 b2.1 | omega)) rfl (Nat.le_of_ble_eq_true rfl) (fun s34 e35 Is34 Fs34 JRLx_s34 hrs34 hps34 => ?_)))
        have Gs34 := fm_tq Gs30 Fs34 rfl rfl
        have JRLx_s34 : RLx s34 := RLx_fm Fs34 (by decide) JRLx_s30
        have JMDJ_s34 : MDJ U s34 := MDJ_fm Fs34 (by decide) JMDJ_s30
        have ws34_73 : iI s34 73 = iI s30 73 := fm_iq Fs34 rfl
        have ws34_89 : iI s34 89 = iI s30 89 := fm_iq Fs34 rfl
        have hP0 : pfM s30 = pfM s := funext (fun j => fm_c Gs30 (by decide))
        have hpk : e35 = pkH U (pcS (pfM s) x) := by rw [← hP0]; exact hps34.1
        have hI0 : inS s34 = pcS (pfM s) x := by rw [← hP0]; exact hps34.2
        refine z_store_n X (lv' := [(3, .int (Int32.ofInt e35)), (0, .ref (A 179)), (1, .int (Int32.ofInt x)), (2, .int (Int32.ofInt y))]) rfl (by decide) (fun _ h => h) (z_const X rfl (z_store X (lv' := [(4, .int (Int32.ofInt 0)), (3, .int (Int32.ofInt e35)), (0, .ref (A 179)), (1, .int (Int32.ofInt x)), (2, .int (Int32.ofInt y))]) rfl (by decide) (fun _ h => h) (WS_pq [2, 3, 4, 1, 0] (lv' := [(0, .ref (A 179)), (1, .int (Int32.ofInt x)), (2, .int (Int32.ofInt y)), (3, .int (Int32.ofInt e35)), (4, .int (Int32.ofInt 0))]) rfl (L48 ((24 - 0 : Int).toNat + 1) s34 x y e35 0 Is34 Gs34 JRLx_s34 JMDJ_s34 ⟨fun q hq => absurd hq (by first | (clear hps30 hps17 g6 hps4; omega) | (clear hps17 g6 hps4; omega) | omega), hI0, hpk⟩ (by first | exact ⟨oq_c4dc4762 g33 hps30 vs3, oq_d2435177 g33 hps30 vs3, And.intro (by decide) (by decide), oq_8c407924 ws34_73 g33 b32.1 hps30 vs3, oq_29301542 ws34_89 ws30_89 ws3_89 p2 b2.1⟩ | omega) (Nat.lt_succ_self _) ?_))))
        intro s36 x37 Is36 Fs36 JRLx_s36 JMDJ_s36 Qs36 hs36
        have b38 := bi_73 Is36
        have b39 := bi_89 Is36
        refine z_load_n X (x := e35) rfl (List.Mem.tail _ (List.Mem.tail _ (List.Mem.tail _ (List.Mem.head _)))) ?_
        exact w_iret X.1 q hRt rfl (ax_d X (show cdA 238 84 = some (.ireturn, 1, 0, 0, 0) from rfl)) (Nat.zero_le _) (Nat.zero_le _) ⟨_, rfl, Is36, Fs36, JRLx_s36, e35, rfl, hrs34, Or.inl ⟨by first | exact ⟨hs36.2.1.1, hs36.2.1.2.1⟩ | omega, by first | exact ⟨hs36.2.1.2.2.1, hs36.2.1.2.2.2⟩ | omega, by first | exact hs36.2.2.2 | omega, by rcases (show y = 0 ∨ y = 1 by first | (clear hps30 hps17 g6 hps4; omega) | (clear hps17 g6 hps4; omega) | omega) with z | z; (· exact Or.inl ⟨z, Qs36.2.2⟩); (· exact (npq_no (by have w := Qs36.1; rw [show x37 = 24 by first | (clear hps30 hps17 g6 hps4; omega) | (clear hps17 g6 hps4; omega) | omega] at w; exact w) Qs36.2.2).elim)⟩⟩
      ·
        refine z_const X rfl ?_
        exact w_iret X.1 q hRt rfl (ax_d X (show cdA 238 38 = some (.ireturn, 1, 0, 0, 0) from rfl)) (Nat.zero_le _) (Nat.zero_le _) ⟨_, rfl, Is30, Gs30, JRLx_s30, 0, rfl, (by decide), Or.inr ⟨by first | exact oq_b8f25f0a g19 hps17 | omega, by first | exact oq_faabd673 g33 hps30 vs3 | omega⟩⟩
end M87kd
