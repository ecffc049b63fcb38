theorem oq_0fa7b120 {a0 a1 a2 a3 : Int} (h0 : a0 ≤ 1) (h1 : 0 ≤ a0) (h2 : ((a1 = 0 ∧ a0 = 0) ∨ (a1 ≠ 0 ∧ a0 = 1))) (h3 : 0 ≤ a1) (h4 : a2 = 0) : ((a2 = 1 ∧ (a1 = 0 ∧ (a1 = a3 ∧ a0 = 1))) ∨ ((a2 = 0 ∨ a1 ≠ 0) ∧ (a1 = a1 ∧ ((a0 = 0 ∧ a1 = 0) ∨ (a0 = 1 ∧ a1 ≠ 0))))) := by omega
theorem oq_7136ffd4 {a0 a1 a2 a3 : Int} (h0 : a0 ≤ 1) (h1 : ((a1 = 0 ∧ a0 = 0) ∨ (a1 ≠ 0 ∧ a0 = 1))) (h2 : 0 ≤ a1) (h3 : a1 ≠ 0) : ((a2 = 1 ∧ (a1 = 0 ∧ (a1 = a3 ∧ a0 = 1))) ∨ ((a2 = 0 ∨ a1 ≠ 0) ∧ (a1 = a1 ∧ ((a0 = 0 ∧ a1 = 0) ∨ (a0 = 1 ∧ a1 ≠ 0))))) := by omega
theorem oq_add61c1a {a0 a1 a2 a3 a4 : Int} (h0 : a0 ≤ 1) (h1 : ((a1 = 0 ∧ a0 = 0) ∨ (a1 ≠ 0 ∧ a0 = 1))) (h2 : a1 = a2) (h3 : a3 = 0) (h4 : a4 ≠ 0) (h5 : 1 ≤ a2) (h6 : (a4 = 0 ∨ a4 = 1)) : ((a4 = 1 ∧ (a3 = 0 ∧ (a1 = a2 ∧ a0 = 1))) ∨ ((a4 = 0 ∨ a3 ≠ 0) ∧ (a1 = a3 ∧ ((a0 = 0 ∧ a3 = 0) ∨ (a0 = 1 ∧ a3 ≠ 0))))) := by omega
/-! Contracts that say what is answered -/
/-- the law's long -/
def iO (t : PS) : Int := (gD t 460 0).toInt
theorem iO_u {s : PS} {e : Int} (h : rng e) : iO (uD s 460 (0 : Int).toNat (Int32.ofInt e).toInt64) = e := by
  show ((if 460 = 460 then vp_updL (s.2.2.2.1 460) (0 : Int).toNat (Int32.ofInt e).toInt64 else s.2.2.2.1 460) 0).toInt = e
  rw [if_pos rfl]
  show ((if 0 = (0 : Int).toNat then (Int32.ofInt e).toInt64 else s.2.2.2.1 460 0)).toInt = e
  rw [if_pos (by decide), Int32.toInt_toInt64, zi h]
theorem fm_o {L M : List Nat} {s t : PS} (F : Fm L M s t) (h : 460 + 1000 ∉ M) : iO t = iO s := congrArg Int64.toInt (fm_dd F h)
/-- an array's cells are as they were; but for one -/
def SAM (a : Nat) (s t : PS) : Prop := ∀ j, iC t a j = iC s a j
def UPD (a : Nat) (i x : Int) (s t : PS) : Prop := iC t a i.toNat = x ∧ ∀ j, j ≠ i.toNat → iC t a j = iC s a j
theorem sam_rf {a : Nat} {s : PS} : SAM a s s := fun _ => rfl
theorem sam_fm {L M : List Nat} {a : Nat} {s t : PS} (F : Fm L M s t) (h : a ∉ M) : SAM a s t := fun _ => fm_c F h
theorem sam_ts {a : Nat} {s t u : PS} (h : SAM a s t) (g : SAM a t u) : SAM a s u := fun j => (g j).trans (h j)
theorem upd_ts {a : Nat} {i x : Int} {s t u : PS} (h : UPD a i x s t) (g : SAM a t u) : UPD a i x s u := ⟨(g _).trans h.1, fun j hj => (g j).trans (h.2 j hj)⟩
theorem upd_put {a : Nat} {i x : Int} {s t : PS} (h : SAM a s t) (hx : rng x) : UPD a i x s (uC t a i.toNat (Int32.ofInt x)) := ⟨iC_u hx, fun j hj => (iC_n hj).trans (h j)⟩
/-- x is among the first n cells; it is not -/
def HAS (a : Nat) (n x : Int) (s : PS) : Prop := ∃ j : Nat, (j : Int) < n ∧ iC s a j = x
def NHS (a : Nat) (n x : Int) (s : PS) : Prop := ∀ j : Nat, (j : Int) < n → iC s a j ≠ x
theorem nhs_0 {a : Nat} {x : Int} {s : PS} : NHS a 0 x s := fun j hj => by omega
theorem nhs_up {a : Nat} {c x : Int} {s : PS} (h : NHS a c x s) (h0 : 0 ≤ c) (h1 : iC s a c.toNat ≠ x) : NHS a (c + 1) x s := fun j hj => by
  by_cases e : j = c.toNat
  · rw [e]; exact h1
  · exact h j (by omega)
theorem nhs_le {a : Nat} {c n x : Int} {s : PS} (h : NHS a c x s) (h0 : n ≤ c) : NHS a n x s := fun j hj => h j (by omega)
theorem hs_of {a : Nat} {n x : Int} {s : PS} (c : Int) (h0 : 0 ≤ c) (h1 : c < n) (h2 : iC s a c.toNat = x) : HAS a n x s := ⟨c.toNat, by omega, h2⟩
theorem upd_ix {a : Nat} {i j x : Int} {s t : PS} (h : UPD a i x s t) (e : i = j) : UPD a j x s t := e ▸ h
section M87b
variable {l : Launch} {s0 : State} {D : va_G} {tys : List (ClassId × FieldType)} {a0 : Array Value} {A : Nat → Nat} {dT : Nat → ClassId} {s : PS}
set_option maxRecDepth 4000 in
theorem k_in2 (G : GX l s0 D tys a0 dT) (I : Bd s) {x y z : Int} (p0 : rng x) (p1 : rng y) (p2 : rng z) : CT l s0 D A dT 188 (rmN 188) [.int (Int32.ofInt x), .int (Int32.ofInt y), .int (Int32.ofInt z)] s (fun o t => s = t ∧ ∃ e, o = .inl (some (.int (Int32.ofInt e))) ∧ rng e ∧ ((e = 1 ∧ y ≤ x ∧ x ≤ z) ∨ (e = 0 ∧ (x < y ∨ z < x)))) := by
  refine ct_of G (by decide) (Nat.le_of_ble_eq_true rfl) (fun k X E hRt hXt q => ?_)
  show WS k 0 [(0, .int (Int32.ofInt x)), (1, .int (Int32.ofInt y)), (2, .int (Int32.ofInt z))] [] _ 0 0
  have F : Fm [] [] s s := fm_rf _ _ s
  refine z_load_n X (x := x) rfl (List.Mem.head _) (z_load_n X (x := y) rfl (List.Mem.tail _ (List.Mem.head _)) ?_)
  have N1 : ∀ e2 : Int, (((x < y) ∧ e2 = 0) ∨ ((y ≤ x) ∧ (z < x) ∧ e2 = 0) ∨ ((y ≤ x) ∧ (x ≤ z) ∧ e2 = 1)) → WS k 15 [(0, .int (Int32.ofInt x)), (1, .int (Int32.ofInt y)), (2, .int (Int32.ofInt z))] [.int (Int32.ofInt e2)] (Wd A dT s) 0 0 := by
    intro e2 he2
    have re2 : 0 ≤ e2 ∧ e2 ≤ 1 := by first | (clear he2; omega) | omega
    exact w_iret X.1 q hRt (nar_ret (by first | exact oq_31e518ae re2.2 re2.1 | omega)) (ax_d X (show cdA 188 15 = some (.ireturn, 1, 0, 0, 0) from rfl)) (Nat.zero_le _) (Nat.zero_le _) ⟨_, rfl, rfl, e2, rfl, ⟨by first | exact oq_fa4e5087 re2.1 | omega, by first | exact oq_22e1e6b0 re2.2 | omega⟩, by first | exact oq_eb048f71 re2.2 re2.1 he2 | omega⟩
  refine z_icmp_lt X (t := 14) rfl rfl ⟨by first | exact p0.1 | omega, by first | exact p0.2 | omega⟩ ⟨by first | exact p1.1 | omega, by first | exact p1.2 | omega⟩ (fun g3 => ?_) (fun g3 => ?_)
  ·
    exact z_const X rfl (N1 _ (Or.inl ⟨g3, rfl⟩))
  ·
    refine z_load_n X (x := x) rfl (List.Mem.head _) (z_load_n X (x := z) rfl (List.Mem.tail _ (List.Mem.tail _ (List.Mem.head _))) (z_icmp_gt X (t := 14) rfl rfl ⟨by first | exact p0.1 | omega, by first | exact p0.2 | omega⟩ ⟨by first | exact p2.1 | omega, by first | exact p2.2 | omega⟩ (fun g4 => ?_) (fun g4 => ?_)))
    ·
      exact z_const X rfl (N1 _ (Or.inr (Or.inl ⟨g3, g4, rfl⟩)))
    ·
      exact z_const X rfl (z_goto X (t := 15) rfl rfl (N1 _ (Or.inr (Or.inr (⟨g3, g4, rfl⟩)))))
set_option maxRecDepth 4000 in
theorem k_bad2 (G : GX l s0 D tys a0 dT) (I : Bd s) {x y : Int} (p0 : x = 0 ∨ x = 1) (p1 : 1 ≤ y ∧ y ≤ 3) : CT l s0 D A dT 187 (rmN 187) [.ref (A 179), .int (Int32.ofInt x), .int (Int32.ofInt y)] s (fun o t => Bd t ∧ Fm [73] [] s t ∧ ∃ e, o = .inl (some (.int (Int32.ofInt e))) ∧ rng e ∧ (((x = 1 ∧ iI s 73 = 0 ∧ iI t 73 = y ∧ e = 1) ∨ ((x = 0 ∨ iI s 73 ≠ 0) ∧ iI t 73 = iI s 73 ∧ ((e = 0 ∧ iI s 73 = 0) ∨ (e = 1 ∧ iI s 73 ≠ 0)))))) := by
  refine ct_of G (by decide) (Nat.le_of_ble_eq_true rfl) (fun k X E hRt hXt q => ?_)
  show WS k 0 [(0, .ref (A 179)), (1, .int (Int32.ofInt x)), (2, .int (Int32.ofInt y))] [] _ 0 0
  have F : Fm [73] [] s s := fm_rf _ _ s
  have b1 := bi_73 I
  refine z_load_n X (x := x) rfl (List.Mem.tail _ (List.Mem.head _)) (z_if_eq X (t := 16) rfl rfl ⟨by first | exact oq_bde653e9 p0 | omega, by first | exact oq_4ad2cb8b p0 | omega⟩ (fun g2 => ?_) (fun g2 => ?_))
  ·
    refine z_aload_n X (x := A 179) rfl (List.Mem.head _) (z_getI X 179 rfl (c518_ok rfl) rfl rfl ?_)
    have b3 := bi_73 I
    have N4 : ∀ e5 : Int, ((((iI s 73) = 0) ∧ e5 = 0) ∨ (((iI s 73) ≠ 0) ∧ e5 = 1)) → WS k 28 [(0, .ref (A 179)), (1, .int (Int32.ofInt x)), (2, .int (Int32.ofInt y))] [.int (Int32.ofInt e5)] (Wd A dT s) 0 0 := by
      intro e5 he5
      have re5 : 0 ≤ e5 ∧ e5 ≤ 1 := by first | (clear he5 p0; omega) | (clear p0; omega) | omega
      exact w_iret X.1 q hRt (nar_ret (by first | exact oq_31e518ae re5.2 re5.1 | omega)) (ax_d X (show cdA 187 28 = some (.ireturn, 1, 0, 0, 0) from rfl)) (Nat.zero_le _) (Nat.zero_le _) ⟨_, rfl, I, F, e5, rfl, ⟨by first | exact oq_fa4e5087 re5.1 | omega, by first | exact oq_22e1e6b0 re5.2 | omega⟩, by first | exact oq_0fa7b120 re5.2 re5.1 he5 b3.1 g2 | omega⟩
    refine z_if_eq X (t := 27) rfl rfl (rng_to _) (fun g6 => ?_) (fun g6 => ?_)
    ·
      exact z_const X rfl (N4 _ (Or.inl ⟨g6, rfl⟩))
    ·
      exact z_const X rfl (z_goto X (t := 28) rfl rfl (N4 _ (Or.inr (⟨g6, rfl⟩))))
  ·
    refine z_aload_n X (x := A 179) rfl (List.Mem.head _) (z_getI X 179 rfl (c518_ok rfl) rfl rfl ?_)
    have b7 := bi_73 I
    refine z_if_ne X (t := 16) rfl rfl (rng_to _) (fun g8 => ?_) (fun g8 => ?_)
    ·
      refine z_aload_n X (x := A 179) rfl (List.Mem.head _) (z_getI X 179 rfl (c518_ok rfl) rfl rfl ?_)
      have b9 := bi_73 I
      have N10 : ∀ e11 : Int, ((((iI s 73) = 0) ∧ e11 = 0) ∨ (((iI s 73) ≠ 0) ∧ e11 = 1)) → WS k 28 [(0, .ref (A 179)), (1, .int (Int32.ofInt x)), (2, .int (Int32.ofInt y))] [.int (Int32.ofInt e11)] (Wd A dT s) 0 0 := by
        intro e11 he11
        have re11 : 0 ≤ e11 ∧ e11 ≤ 1 := by first | (clear he11 g8 g2 p0; omega) | (clear g8 g2 p0; omega) | omega
        exact w_iret X.1 q hRt (nar_ret (by first | exact oq_438aa68f re11.2 he11 b9.1 g8 | omega)) (ax_d X (show cdA 187 28 = some (.ireturn, 1, 0, 0, 0) from rfl)) (Nat.zero_le _) (Nat.zero_le _) ⟨_, rfl, I, F, e11, rfl, ⟨by first | exact oq_fa4e5087 re11.1 | omega, by first | exact oq_22e1e6b0 re11.2 | omega⟩, by first | exact oq_7136ffd4 re11.2 he11 b9.1 g8 | omega⟩
      refine z_if_eq X (t := 27) rfl rfl (rng_to _) (fun g12 => ?_) (fun g12 => ?_)
      ·
        exact z_const X rfl (N10 _ (Or.inl ⟨g12, rfl⟩))
      ·
        exact z_const X rfl (z_goto X (t := 28) rfl rfl (N10 _ (Or.inr (⟨g12, rfl⟩))))
    ·
      refine z_aload_n X (x := A 179) rfl (List.Mem.head _) (z_load_n X (x := y) rfl (List.Mem.tail _ (List.Mem.tail _ (List.Mem.head _))) (s_putI X 179 rfl (c518_ok rfl) rfl rfl (by decide) rfl rfl rfl (wd_gen (fun s13 hs13 => ?_))))
      have Is13 : Bd s13 := eqB hs13 (bd_I I (show (0 : Int) ≤ y ∧ y ≤ 3 by first | exact ⟨oq_2a6e3b50 p1.1, p1.2⟩ | omega) ⟨by first | exact oq_9462313e p1.1 | omega, by first | exact oq_c5520c83 p1.2 | omega⟩)
      have Fs13 := eqF hs13 (fm_I F (inl_ok (a := 73) rfl))
      have vs13 : iI s13 73 = y := eqI hs13 (iI_u ⟨by first | exact oq_9462313e p1.1 | omega, by first | exact oq_c5520c83 p1.2 | omega⟩)
      have wos13 : iO s13 = iO s := by rw [hs13]; rfl
      refine z_aload_n X (x := A 179) rfl (List.Mem.head _) (z_getI X 179 rfl (c518_ok rfl) rfl rfl ?_)
      have b14 := bi_73 Is13
      have N15 : ∀ e16 : Int, ((((iI s13 73) = 0) ∧ e16 = 0) ∨ (((iI s13 73) ≠ 0) ∧ e16 = 1)) → WS k 28 [(0, .ref (A 179)), (1, .int (Int32.ofInt x)), (2, .int (Int32.ofInt y))] [.int (Int32.ofInt e16)] (Wd A dT s13) 0 0 := by
        intro e16 he16
        have re16 : 0 ≤ e16 ∧ e16 ≤ 1 := by first | (clear he16 g2 p0; omega) | (clear g2 p0; omega) | omega
        exact w_iret X.1 q hRt (nar_ret (by first | exact oq_4f030bbc re16.2 he16 vs13 p1.1 | omega)) (ax_d X (show cdA 187 28 = some (.ireturn, 1, 0, 0, 0) from rfl)) (Nat.zero_le _) (Nat.zero_le _) ⟨_, rfl, Is13, Fs13, e16, rfl, ⟨by first | exact oq_fa4e5087 re16.1 | omega, by first | exact oq_22e1e6b0 re16.2 | omega⟩, by first | exact oq_add61c1a re16.2 he16 vs13 g8 g2 p1.1 p0 | omega⟩
      refine z_if_eq X (t := 27) rfl rfl (rng_to _) (fun g17 => ?_) (fun g17 => ?_)
      ·
        exact z_const X rfl (N15 _ (Or.inl ⟨g17, rfl⟩))
      ·
        exact z_const X rfl (z_goto X (t := 28) rfl rfl (N15 _ (Or.inr (⟨g17, rfl⟩))))
set_option maxRecDepth 4000 in
theorem cs_needWithin2 (G : GX l s0 D tys a0 dT) (I : Bd s) {v lo hi : Int} (p0 : rng v) (p1 : rng lo) (p2 : rng hi) : CT l s0 D A dT 184 (rmN 184) [.ref (A 0), .int (Int32.ofInt v), .int (Int32.ofInt lo), .int (Int32.ofInt hi)] s (fun o t => Bd t ∧ Fm [] [] s t ∧ ((o = .inl none ∧ (lo ≤ v ∧ v ≤ hi)) ∨ ∃ x : Nat, o = .inr (exN x) ∧ (x = 0 ∧ (v < lo ∨ hi < v)))) := by
  refine ct_ofX G (by decide) (Nat.le_of_ble_eq_true rfl) (fun k X E ET hRt hXt q => ?_)
  show WS k 0 [(0, .ref (A 0)), (1, .int (Int32.ofInt v)), (2, .int (Int32.ofInt lo)), (3, .int (Int32.ofInt hi))] [] _ 0 0
  have F : Fm [] [] s s := fm_rf _ _ s
  refine z_load_n X (x := v) rfl (List.Mem.tail _ (List.Mem.head _)) (z_load_n X (x := lo) rfl (List.Mem.tail _ (List.Mem.tail _ (List.Mem.head _))) (z_icmp_lt X (t := 10) rfl rfl ⟨by first | exact p0.1 | omega, by first | exact p0.2 | omega⟩ ⟨by first | exact p1.1 | omega, by first | exact p1.2 | omega⟩ (fun g1 => ?_) (fun g1 => ?_)))
  ·
    exact z_throw G X E ET hXt q (st := []) rfl (by decide) (by decide) (Nat.le_of_ble_eq_true rfl) (show 0 + 1 ≤ 1 by decide) (show 0 + 6 ≤ 6 by decide) (show 0 + 1 ≤ 1 by decide) (show 0 + 6 ≤ 6 by decide) ⟨_, rfl, I, F, Or.inr ⟨0, rfl, by omega⟩⟩
  ·
    refine z_load_n X (x := v) rfl (List.Mem.tail _ (List.Mem.head _)) (z_load_n X (x := hi) rfl (List.Mem.tail _ (List.Mem.tail _ (List.Mem.tail _ (List.Mem.head _)))) (z_icmp_le X (t := 21) rfl rfl ⟨by first | exact p0.1 | omega, by first | exact p0.2 | omega⟩ ⟨by first | exact p2.1 | omega, by first | exact p2.2 | omega⟩ (fun g2 => ?_) (fun g2 => ?_)))
    ·
      exact w_vret X.1 q hRt (ax_d X (show cdA 184 21 = some (.return_, 1, 0, 0, 0) from rfl)) (Nat.zero_le _) (Nat.zero_le _) ⟨_, rfl, I, F, Or.inl ⟨rfl, by first | exact ⟨g1, g2⟩ | omega⟩⟩
    ·
      exact z_throw G X E ET hXt q (st := []) rfl (by decide) (by decide) (Nat.le_of_ble_eq_true rfl) (show 0 + 1 ≤ 1 by decide) (show 0 + 6 ≤ 6 by decide) (show 0 + 1 ≤ 1 by decide) (show 0 + 6 ≤ 6 by decide) ⟨_, rfl, I, F, Or.inr ⟨0, rfl, by omega⟩⟩
set_option maxRecDepth 4000 in
theorem k_thrown2 (G : GX l s0 D tys a0 dT) (I : Bd s)  : CT l s0 D A dT 186 (rmN 186) [.ref (A 179)] s (fun o t => s = t ∧ ∃ e, o = .inl (some (.int (Int32.ofInt e))) ∧ rng e ∧ (e = iI s 73)) := by
  refine ct_of G (by decide) (Nat.le_of_ble_eq_true rfl) (fun k X E hRt hXt q => ?_)
  show WS k 0 [(0, .ref (A 179))] [] _ 0 0
  have F : Fm [] [] s s := fm_rf _ _ s
  refine z_aload_n X (x := A 179) rfl (List.Mem.head _) (z_getI X 179 rfl (c518_ok rfl) rfl rfl ?_)
  have b1 := bi_73 I
  exact w_iret X.1 q hRt rfl (ax_d X (show cdA 186 4 = some (.ireturn, 1, 0, 0, 0) from rfl)) (Nat.zero_le _) (Nat.zero_le _) ⟨_, rfl, rfl, (iI s 73), rfl, (rng_to _), by omega⟩
end M87b
