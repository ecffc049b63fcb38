/-! The model's values of rules: as the class's stack works them out -/
def NMr (s : PS) (j : Nat) : Int32 := Int32.ofInt (iC s 161 j)
theorem nmr_fm {L M : List Nat} {s t : PS} (F : Fm L M s t) (h : 161 ∉ M) : NMr t = NMr s := funext (fun j => congrArg Int32.ofInt (fm_c F h))
theorem pfv_c {n1 n2 : Nat → Int32} {v : Int32} {B : Nat → Int} {N : Int} {m : Nat} {s t : PS} (h : PFv (VLm n1 v) B N m s t) (e : n1 = n2) : PFv (VLm n2 v) B N m s t := by subst e; exact h
theorem opc_42 {B : Nat → Int} {q : Int} (h : B q.toNat = 42) : opC B q = -11 := by unfold opC; rw [h]; rfl
theorem opc_47 {B : Nat → Int} {q : Int} (h : B q.toNat = 47) : opC B q = -12 := by unfold opC; rw [h]; rfl
theorem opc_43 {B : Nat → Int} {q : Int} (h : B q.toNat = 43) : opC B q = -9 := by unfold opC; rw [h]; rfl
theorem opc_45 {B : Nat → Int} {q : Int} (h : B q.toNat = 45) : opC B q = -10 := by unfold opC; rw [h]; rfl
def jcC (c : Int) : Int := if c = 60 then -15 else if c = 62 then -16 else -17
theorem opc_r {B : Nat → Int} {q c : Int} (h : B q.toNat = c) (hc : c = 60 ∨ c = 62 ∨ c = 61) : opC B q = jcC c := by
  unfold opC
  rw [h]
  rcases hc with e | e | e <;> subst e <;> rfl
theorem jcc_lt {c : Int} : jcC c < -8 := by
  unfold jcC
  (repeat' split) <;> decide
theorem vl_up {nm : Nat → Int32} {v w : Int32} {y o p : Int} {a c : List Int} (ha : VLm nm v a) (hc : VLm nm w c) (ho : o = p) (h8 : p < -8) (hj : Int32.ofInt y = jnV p v w) : VLm nm (Int32.ofInt y) (a ++ c ++ [o]) := by
  rw [hj, ho]; exact vl_two ha hc h8
theorem vl_notE {nm : Nat → Int32} {e y : Int} {c : List Int} (h : VLm nm (Int32.ofInt e) c) (hy : y = 1 - e) : VLm nm (Int32.ofInt y) (c ++ [-8]) := by
  rw [jn_not (a := e) (by rw [hy])]; exact vl_not h
/-- a fault: the value is nothing -/
theorem ouv_any {V W : List Int → Prop} {B : Nat → Int} {N : Int} {m : Nat} {p o : Int} {t : PS} (h : OUv V B N m p o t) (f : iI t 79 ≠ 0) : OUv W B N m p o t := by
  obtain ⟨r, r1, r2⟩ := h
  rcases r2 with r2 | r2
  · exact absurd r2.1 f
  · exact ⟨r, r1, Or.inr r2⟩
/-- ahead of what compares -/
def CM2 (B : Nat → Int) (N p o : Int) (s : PS) (av cv : Int) (t : PS) : Prop := ∀ (c d : PS) (bv : Int), iI c 77 = iI t 77 + 1 → iI c 79 = iI t 79 → iI c 78 = iI t 78 → PFv (VLm (NMr s) (Int32.ofInt bv)) B N 3 c d → ∀ e : Int, Int32.ofInt e = jnV (jcC cv) (Int32.ofInt av) (Int32.ofInt bv) → OUv (VLm (NMr s) (Int32.ofInt e)) B N 5 p o d
def CM1 (B : Nat → Int) (N p o : Int) (s : PS) (av cv bv : Int) (t : PS) : Prop := ∀ e : Int, Int32.ofInt e = jnV (jcC cv) (Int32.ofInt av) (Int32.ofInt bv) → OUv (VLm (NMr s) (Int32.ofInt e)) B N 5 p o t
theorem jcc_v {a b c e : Int} (ra : rng a) (rb : rng b) (h : (c = 60 ∧ ((a < b ∧ e = 1) ∨ (b ≤ a ∧ e = 0))) ∨ (c ≠ 60 ∧ c = 62 ∧ ((b < a ∧ e = 1) ∨ (a ≤ b ∧ e = 0))) ∨ (c ≠ 60 ∧ c ≠ 62 ∧ ((a = b ∧ e = 1) ∨ (a ≠ b ∧ e = 0)))) : Int32.ofInt e = jnV (jcC c) (Int32.ofInt a) (Int32.ofInt b) := by
  unfold jcC
  rcases h with ⟨h1, h2⟩ | ⟨h1, h2, h3⟩ | ⟨h1, h2, h3⟩
  · rw [if_pos h1]; exact jn_blw ra rb h2
  · rw [if_neg h1, if_pos h2]; exact jn_abv ra rb h3
  · rw [if_neg h1, if_neg h2]; exact jn_sam ra rb h3
/-- a unit where ways meet -/
def UV1 (B : Nat → Int) (N p : Int) (t : PS) (il im : Int) : Prop := ¬ dgP B N p ∧ nmC B N p = 0 ∧ ((il = 0 ∧ im = 0 ∧ iI t 77 = p ∧ ¬ (whV B N p = 6476969 ∨ whV B N p = 267347)) ∨ (((il = 1 ∧ whV B N p = 6476969) ∨ (il = 0 ∧ im = 1 ∧ whV B N p = 267347)) ∧ iI t 77 = wdE B N p))
def UV2 (B : Nat → Int) (N p : Int) (t : PS) (il im : Int) : Prop := ¬ dgP B N p ∧ ((il = 0 ∧ im = 0 ∧ chT B N p 40 ∧ iI t 77 = p + 1) ∨ (((il = 1 ∧ whV B N p = 6476969) ∨ (il = 0 ∧ im = 1 ∧ whV B N p = 267347)) ∧ chT B N (sk B N (wdE B N p)) 40 ∧ iI t 77 = sk B N (wdE B N p) + 1))
def UV3 (B : Nat → Int) (N p o : Int) (s : PS) (v : Int) (t : PS) : Prop := ∀ u, SGN B N 41 t u → OUv (VLm (NMr s) (Int32.ofInt v)) B N 0 p o u
theorem two_v {B : Nat → Int} {N p il im a b v : Int} {s : PS} {c d : List Int} (h : (il = 1 ∧ whV B N p = 6476969) ∨ (il = 0 ∧ im = 1 ∧ whV B N p = 267347)) (ra : rng a) (rb : rng b) (hv : (il = 1 ∧ ((a < b ∧ v = a) ∨ (b ≤ a ∧ v = b))) ∨ (il = 0 ∧ ((b < a ∧ v = a) ∨ (a ≤ b ∧ v = b)))) (h1 : VLm (NMr s) (Int32.ofInt a) c) (h2 : VLm (NMr s) (Int32.ofInt b) d) : VLm (NMr s) (Int32.ofInt v) (c ++ d ++ [if whV B N p = 6476969 then -13 else -14]) := by
  rcases h with ⟨e1, e2⟩ | ⟨e1, e2, e3⟩
  · rw [if_pos e2]
    exact vl_up h1 h2 rfl (by decide) (jn_lst ra rb (by omega))
  · rw [if_neg (by omega)]
    exact vl_up h1 h2 rfl (by decide) (jn_mst ra rb (by omega))
section M87q
variable {l : Launch} {s0 : State} {D : va_G} {tys : List (ClassId × FieldType)} {a0 : Array Value} {A : Nat → Nat} {dT : Nat → ClassId} {s : PS}
set_option maxRecDepth 4000 in
theorem k_unit05 (G : GX l s0 D tys a0 dT) {B : Nat → Int} {N : Int} (I : Bd s) (jFDB : FDB B N s) (p0 : iI s 77 ≤ 203) (p1 : iI s 78 + ((0 : Nat) : Int) = 7) (p2 : iI s 78 = 7 → iI s 79 ≠ 0) : CT l s0 D A dT 207 (rkR (3 * (0))) [.ref (A 179)] s (fun o t => Bd t ∧ Fm [77, 79, 80, 78] [] s t ∧ FDB B N t ∧ ∃ e, o = .inl (some (.int (Int32.ofInt e))) ∧ rng e ∧ (iI t 78 = iI s 78 ∧ iI s 77 ≤ iI t 77 ∧ (iI t 77 = iI s 77 ∨ iI t 77 ≤ 202) ∧ (iI s 79 ≠ 0 → iI t 79 ≠ 0) ∧ (iI t 79 = 0 → iI t 77 ≤ iI s 75) ∧ PFv (VLm (NMr s) (Int32.ofInt e)) B N 0 s t)) := by
  refine ct_of G (by decide) (Nat.le_of_ble_eq_true rfl) (fun k X E hRt hXt q => ?_)
  show WS k 0 [(0, .ref (A 179))] [] _ 0 0
  have F : Fm [77, 79, 80, 78] [] s s := fm_rf _ _ s
  have hN := jFDB.2.1
  have hW := jFDB.2.2
  have b1 : (0 : Int) ≤ iI s 77 ∧ iI s 77 ≤ 400 := I.1 77
  have b2 : (0 : Int) ≤ iI s 75 ∧ iI s 75 ≤ 200 := I.1 75
  have b3 : (0 : Int) ≤ iI s 79 ∧ iI s 79 ≤ 9 := I.1 79
  have b4 : (0 : Int) ≤ iI s 78 ∧ iI s 78 ≤ 8 := I.1 78
  refine z_aload_n X (x := A 179) (show cdA 207 0 = some (.aload_n 0, 1, 0, 0, 0) from rfl) (List.Mem.head _) ?_
  refine z_getI X 179 (show cdA 207 1 = some (.getfield 191, 3, 12, 6, 0) from rfl) (by decide) rfl rfl ?_
  have b5 : (0 : Int) ≤ iI s 79 ∧ iI s 79 ≤ 9 := I.1 79
  refine z_if_eq X (t := 9) (show cdA 207 4 = some (.ifCond .eq 5, 3, 0, 0, 0) from rfl) (by decide) (rng_to _) (fun g6 => ?_) (fun g6 => ?_)
  ·
    exfalso
    omega
  ·
    refine z_const X (show cdA 207 7 = some (.iconst 0, 1, 0, 0, 0) from rfl) ?_
    exact w_iret X.1 q hRt rfl (ax_d X (show cdA 207 8 = some (.ireturn, 1, 0, 0, 0) from rfl)) (Nat.zero_le _) (Nat.zero_le _) ⟨_, rfl, I, F, jFDB, 0, rfl, (by decide), ⟨by omega, by omega, by first | exact Or.inl (by decide) | omega, by first | exact oq_4bed1c3e g6 b5.1 | omega, by first | exact oq_6a3c9b31 g6 b5.1 | omega, Or.inl ⟨by omega, by omega⟩⟩⟩
set_option maxRecDepth 4000 in
theorem k_unitS5 (G : GX l s0 D tys a0 dT) {B : Nat → Int} {N : Int} {r : Nat} (hS : ∀ {s : PS}, Bd s → FDB B N s → (iI s 77 ≤ 203) → (iI s 78 + ((r : Nat) : Int) = 7) → (iI s 78 = 7 → iI s 79 ≠ 0) → CT l s0 D A dT 209 (rkR (3 * (r) + 2)) [.ref (A 179)] s (fun o t => Bd t ∧ Fm [77, 79, 80, 78] [] s t ∧ FDB B N t ∧ ∃ e, o = .inl (some (.int (Int32.ofInt e))) ∧ rng e ∧ (iI t 78 = iI s 78 ∧ iI s 77 ≤ iI t 77 ∧ (iI t 77 = iI s 77 ∨ iI t 77 ≤ 202) ∧ (iI s 79 ≠ 0 → iI t 79 ≠ 0) ∧ (iI t 79 = 0 → iI t 77 ≤ iI s 75) ∧ PFv (VLm (NMr s) (Int32.ofInt e)) B N 3 s t))) (I : Bd s) (jFDB : FDB B N s) (p0 : iI s 77 ≤ 203) (p1 : iI s 78 + ((r + 1 : Nat) : Int) = 7) (p2 : iI s 78 = 7 → iI s 79 ≠ 0) : CT l s0 D A dT 207 (rkR (3 * (r + 1))) [.ref (A 179)] s (fun o t => Bd t ∧ Fm [77, 79, 80, 78] [] s t ∧ FDB B N t ∧ ∃ e, o = .inl (some (.int (Int32.ofInt e))) ∧ rng e ∧ (iI t 78 = iI s 78 ∧ iI s 77 ≤ iI t 77 ∧ (iI t 77 = iI s 77 ∨ iI t 77 ≤ 202) ∧ (iI s 79 ≠ 0 → iI t 79 ≠ 0) ∧ (iI t 79 = 0 → iI t 77 ≤ iI s 75) ∧ PFv (VLm (NMr s) (Int32.ofInt e)) B N 0 s t)) := by
  refine ct_of G (by decide) (Nat.le_of_ble_eq_true rfl) (fun k X E hRt hXt q => ?_)
  show WS k 0 [(0, .ref (A 179))] [] _ 0 0
  have F : Fm [77, 79, 80, 78] [] s s := fm_rf _ _ s
  have hN := jFDB.2.1
  have hW := jFDB.2.2
  have b1 : (0 : Int) ≤ iI s 77 ∧ iI s 77 ≤ 400 := I.1 77
  have b2 : (0 : Int) ≤ iI s 75 ∧ iI s 75 ≤ 200 := I.1 75
  have b3 : (0 : Int) ≤ iI s 79 ∧ iI s 79 ≤ 9 := I.1 79
  have b4 : (0 : Int) ≤ iI s 78 ∧ iI s 78 ≤ 8 := I.1 78
  have L206 : ∀ (t : PS) (v : Int), Bd t → Fm [77, 79, 80, 78] [] s t → FDB B N t → (UV3 B N (sk B N (iI s 77)) (iI s 78) s v t) → (iI s 79 = 0 ∧ iI t 78 = iI s 78 + 1 ∧ iI s 77 ≤ iI t 77 ∧ iI t 77 ≤ 202 ∧ (iI t 79 = 0 → iI t 77 ≤ iI s 75) ∧ rng v) → WS k 206 [(0, .ref (A 179)), (5, .int (Int32.ofInt v))] [] (Wd A dT t) 0 0 := by
    intro t v I F jjFDB hq hi
    have b1001 : (0 : Int) ≤ iI t 77 ∧ iI t 77 ≤ 400 := I.1 77
    have b1002 : (0 : Int) ≤ iI t 75 ∧ iI t 75 ≤ 200 := I.1 75
    have b1003 : (0 : Int) ≤ iI t 79 ∧ iI t 79 ≤ 9 := I.1 79
    have b1004 : (0 : Int) ≤ iI t 78 ∧ iI t 78 ≤ 8 := I.1 78
    have hN := jjFDB.2.1
    have hW := jjFDB.2.2
    refine z_aload_n X (x := A 179) (show cdA 207 206 = some (.aload_n 0, 1, 0, 0, 0) from rfl) (List.Mem.head _) ?_
    refine z_bipush X (show cdA 207 207 = some (.bipush 41, 2, 0, 0, 41) from rfl) ?_
    refine z_callV X 179 (rm := rmN 204) (As := [.int (Int32.ofInt 41)]) (st := []) (show cdA 207 209 = some (.invokevirtual 263, 3, 204, 0, 0) from rfl) rfl (by decide) rfl (by rw [E.1, E.2.1, E.2.2.1]; exact k_sign3 G I jjFDB (by first | exact ⟨by decide, by decide⟩ | omega) (by first | exact oq_99d3c924 hi.2.2.2.1 | omega)) ⟨by rw [E.2.2.2]; exact (show 8 + 1 ≤ (12 + (3 * (r + 1))) from oq_0f4637ff r), by rw [E.2.2.2]; exact (show 8 + (2 + 11) + 141 ≤ (500 + 45 * (3 * (r + 1))) from oq_673d70d0 r), by rw [E.2.2.2]; exact Nat.le_refl 0, by rw [E.2.2.2]; exact Nat.le_refl 0⟩ (Nat.le_of_ble_eq_true rfl) (fun vv s1005 hq => ?_) (fun ee s1005 hq => ?_)
    rotate_left
    · obtain ⟨Is1005, Fs1005, JFDB_s1005, hv, hps1005⟩ := hq; cases hv
    obtain ⟨Is1005, Fs1005, JFDB_s1005, hv, hps1005⟩ := hq
    cases hv
    have Gs1005 := fm_ts F Fs1005 (by decide) (by decide)
    have JFDB_s1005 : FDB B N s1005 := FDB_fm Fs1005 (by decide) jjFDB
    have b1007 : (0 : Int) ≤ iI s1005 77 ∧ iI s1005 77 ≤ 400 := Is1005.1 77
    have ws1005_75 : iI s1005 75 = iI t 75 := fm_i Fs1005 (by decide)
    have b1008 : (0 : Int) ≤ iI s1005 79 ∧ iI s1005 79 ≤ 9 := Is1005.1 79
    have ws1005_78 : iI s1005 78 = iI t 78 := fm_i Fs1005 (by decide)
    show WS k 212 [(0, .ref (A 179)), (5, .int (Int32.ofInt v))] [] (Wd A dT s1005) 0 0
    have hle : iI s1005 79 = 0 → iI s1005 77 ≤ N := fun h => sg_le hps1005.1 h
    refine z_aload_n X (x := A 179) (show cdA 207 212 = some (.aload_n 0, 1, 0, 0, 0) from rfl) (List.Mem.head _) ?_
    refine w_dup X.1 (ax_d X (show cdA 207 213 = some (.dup, 1, 0, 0, 0) from rfl)) rfl ?_
    refine z_getI X 179 (show cdA 207 214 = some (.getfield 213, 3, 12, 5, 0) from rfl) (by decide) rfl rfl ?_
    have b1009 : (0 : Int) ≤ iI s1005 78 ∧ iI s1005 78 ≤ 8 := Is1005.1 78
    refine z_const X (show cdA 207 217 = some (.iconst 1, 1, 0, 0, 0) from rfl) ?_
    refine z_sub X (show cdA 207 218 = some (.isub, 1, 0, 0, 0) from rfl) ?_
    refine s_putI X 179 (show cdA 207 219 = some (.putfield 213, 3, 12, 5, 0) from rfl) (by decide) rfl rfl (by decide) rfl rfl rfl ?_
    obtain ⟨s1010, hs1010⟩ : ∃ x0, x0 = uI s1005 78 (Int32.ofInt ((iI s1005 78) - 1)) := ⟨_, rfl⟩
    rw [← hs1010]
    have Is1010 : Bd s1010 := by rw [hs1010]; exact bd_I Is1005 (show (0 : Int) ≤ ((iI s1005 78) - 1) ∧ ((iI s1005 78) - 1) ≤ 8 by first | exact ⟨oq_9c6508e2 ws1005_78 hi.2.1 b4.1, oq_d7fe5c3c b1009.2⟩ | omega) ⟨by first | exact oq_c1e961c7 b1009.1 | omega, by first | exact oq_22bc6706 b1009.2 | omega⟩
    have Fs1010 := fm_I (x := Int32.ofInt ((iI s1005 78) - 1)) Gs1005 (show 78 ∈ _ by decide)
    rw [← hs1010] at Fs1010
    have vs1010 : iI s1010 78 = ((iI s1005 78) - 1) := by rw [hs1010]; exact iI_u ⟨by first | exact oq_c1e961c7 b1009.1 | omega, by first | exact oq_22bc6706 b1009.2 | omega⟩
    have ws1010_77 : iI s1010 77 = iI s1005 77 := by rw [hs1010]; rfl
    have ws1010_75 : iI s1010 75 = iI s1005 75 := by rw [hs1010]; rfl
    have ws1010_79 : iI s1010 79 = iI s1005 79 := by rw [hs1010]; rfl
    have fs1010 : Fm [78] [] s1005 s1010 := by rw [hs1010]; exact fm_I (fm_rf _ _ _) (show 78 ∈ _ by decide)
    have JFDB_s1010 : FDB B N s1010 := FDB_fm fs1010 (by decide) JFDB_s1005
    refine z_load X (x := v) (show cdA 207 222 = some (.iload 5, 2, 0, 0, 0) from rfl) (List.Mem.tail _ (List.Mem.head _)) ?_
    exact w_iret X.1 q hRt rfl (ax_d X (show cdA 207 224 = some (.ireturn, 1, 0, 0, 0) from rfl)) (Nat.zero_le _) (Nat.zero_le _) ⟨_, rfl, Is1010, Fs1010, JFDB_s1010, v, rfl, ⟨by first | exact hi.2.2.2.2.2.1 | omega, by first | exact hi.2.2.2.2.2.2 | omega⟩, ⟨by first | exact oq_880c99c9 vs1010 hi.2.1 ws1005_78 | omega, by first | exact oq_6f31d0da ws1010_77 hi.2.2.1 hps1005.2.1 | omega, by omega, by first | exact oq_e013ad0f hi.1 | omega, by omega, Or.inr ⟨by omega, ou_mvv (hq _ hps1005.1) (by rw [show iI s1010 77 = iI s1005 77 by omega]) (by omega)⟩⟩⟩
  have L154 : ∀ (t : PS) (il im : Int), Bd t → Fm [77, 79, 80, 78] [] s t → FDB B N t → (UV2 B N (sk B N (iI s 77)) t il im) → (iI s 79 = 0 ∧ ((iI s 78 = 6 ∧ iI t 79 = 3) ∨ (iI s 78 ≠ 6 ∧ iI t 79 = 0)) ∧ iI t 78 = iI s 78 + 1 ∧ iI s 77 ≤ iI t 77 ∧ iI t 77 ≤ 202 ∧ (il = 0 ∨ il = 1) ∧ (im = 0 ∨ im = 1)) → WS k 154 [(0, .ref (A 179)), (3, .int (Int32.ofInt il)), (4, .int (Int32.ofInt im))] [] (Wd A dT t) 0 0 := by
    intro t il im I F jjFDB hq hi
    have b2001 : (0 : Int) ≤ iI t 77 ∧ iI t 77 ≤ 400 := I.1 77
    have b2002 : (0 : Int) ≤ iI t 75 ∧ iI t 75 ≤ 200 := I.1 75
    have b2003 : (0 : Int) ≤ iI t 79 ∧ iI t 79 ≤ 9 := I.1 79
    have b2004 : (0 : Int) ≤ iI t 78 ∧ iI t 78 ≤ 8 := I.1 78
    have hN := jjFDB.2.1
    have hW := jjFDB.2.2
    obtain ⟨hnd, hq⟩ := hq
    rcases hq with hq | hq
    ·
      obtain ⟨ha, hb_, hch, hA⟩ := hq
      refine z_aload_n X (x := A 179) (show cdA 207 154 = some (.aload_n 0, 1, 0, 0, 0) from rfl) (List.Mem.head _) ?_
      refine z_callV X 179 (rm := (rkR (3 * (r) + 2))) (As := []) (st := []) (show cdA 207 155 = some (.invokevirtual 260, 3, 209, 0, 0) from rfl) rfl (by decide) rfl (by rw [E.1, E.2.1, E.2.2.1]; exact hS I jjFDB (by first | exact oq_c76e9237 hi.2.2.2.2.1 | omega) (by first | exact oq_3e96a778 p1 hi.2.2.1 | omega) (by first | exact oq_38d7ef60 hi.2.2.1 hi.2.1 | omega)) ⟨by rw [E.2.2.2]; exact (show (12 + (3 * (r) + 2)) + 1 ≤ (12 + (3 * (r + 1))) from oq_11500719 r), by rw [E.2.2.2]; exact (show 8 + (4 + 11) + (500 + 45 * (3 * (r) + 2)) ≤ (500 + 45 * (3 * (r + 1))) from oq_998273a9 r), by rw [E.2.2.2]; exact Nat.le_refl 0, by rw [E.2.2.2]; exact Nat.le_refl 0⟩ (Nat.le_of_ble_eq_true rfl) (fun vv s2005 hq => ?_) (fun ee s2005 hq => ?_)
      rotate_left
      · obtain ⟨Is2005, Fs2005, JFDB_s2005, e2006, hv, hrs2005, hps2005⟩ := hq; cases hv
      obtain ⟨Is2005, Fs2005, JFDB_s2005, e2006, hv, hrs2005, hps2005⟩ := hq
      cases hv
      have Gs2005 := fm_ts F Fs2005 (by decide) (by decide)
      have JFDB_s2005 : FDB B N s2005 := FDB_fm Fs2005 (by decide) jjFDB
      have b2007 : (0 : Int) ≤ iI s2005 77 ∧ iI s2005 77 ≤ 400 := Is2005.1 77
      have ws2005_75 : iI s2005 75 = iI t 75 := fm_i Fs2005 (by decide)
      have b2008 : (0 : Int) ≤ iI s2005 79 ∧ iI s2005 79 ≤ 9 := Is2005.1 79
      have b2009 : (0 : Int) ≤ iI s2005 78 ∧ iI s2005 78 ≤ 8 := Is2005.1 78
      show WS k 158 [(0, .ref (A 179)), (3, .int (Int32.ofInt il)), (4, .int (Int32.ofInt im))] [.int (Int32.ofInt e2006)] (Wd A dT s2005) 0 0
      refine z_store X (lv' := [(5, .int (Int32.ofInt e2006)), (0, .ref (A 179)), (3, .int (Int32.ofInt il)), (4, .int (Int32.ofInt im))]) (show cdA 207 158 = some (.istore 5, 2, 0, 0, 0) from rfl) (by decide) (fun _ h => h) ?_
      refine z_load_n X (x := il) (show cdA 207 160 = some (.iload_n 3, 1, 0, 0, 0) from rfl) (List.Mem.tail _ (List.Mem.tail _ (List.Mem.head _))) ?_
      refine z_if_ne X (t := 169) (show cdA 207 161 = some (.ifCond .ne 8, 3, 1, 0, 0) from rfl) (by decide) ⟨by first | exact oq_bde653e9 hi.2.2.2.2.2.1 | omega, by first | exact oq_4ad2cb8b hi.2.2.2.2.2.1 | omega⟩ (fun g2010 => ?_) (fun g2010 => ?_)
      ·
        exfalso
        omega
      ·
        refine z_load X (x := im) (show cdA 207 164 = some (.iload 4, 2, 0, 0, 0) from rfl) (List.Mem.tail _ (List.Mem.tail _ (List.Mem.tail _ (List.Mem.head _)))) ?_
        refine z_if_eq X (t := 206) (show cdA 207 166 = some (.ifCond .eq 40, 3, 0, 0, 0) from rfl) (by decide) ⟨by first | exact oq_bde653e9 hi.2.2.2.2.2.2 | omega, by first | exact oq_4ad2cb8b hi.2.2.2.2.2.2 | omega⟩ (fun g2011 => ?_) (fun g2011 => ?_)
        ·
          refine WS_lv (lv := [(0, .ref (A 179)), (5, .int (Int32.ofInt e2006))]) (List.forall_mem_cons.mpr ⟨(List.Mem.tail _ (List.Mem.head _)), (List.forall_mem_cons.mpr ⟨(List.Mem.head _), (fun q h => absurd h List.not_mem_nil)⟩)⟩) ?_
          exact L206 _ e2006 Is2005 Gs2005 JFDB_s2005 (fun u hu => ou_parFv hch (by omega) (by omega) hA (by omega) (pfv_c hps2005.2.2.2.2.2 (nmr_fm F (by decide))) hu) (by omega)
        ·
          exfalso
          omega
    ·
      obtain ⟨hil, hch, hA⟩ := hq
      have hd : whV B N (sk B N (iI s 77)) = 6476969 ∨ whV B N (sk B N (iI s 77)) = 267347 := by omega
      refine z_aload_n X (x := A 179) (show cdA 207 154 = some (.aload_n 0, 1, 0, 0, 0) from rfl) (List.Mem.head _) ?_
      refine z_callV X 179 (rm := (rkR (3 * (r) + 2))) (As := []) (st := []) (show cdA 207 155 = some (.invokevirtual 260, 3, 209, 0, 0) from rfl) rfl (by decide) rfl (by rw [E.1, E.2.1, E.2.2.1]; exact hS I jjFDB (by first | exact oq_c76e9237 hi.2.2.2.2.1 | omega) (by first | exact oq_3e96a778 p1 hi.2.2.1 | omega) (by first | exact oq_38d7ef60 hi.2.2.1 hi.2.1 | omega)) ⟨by rw [E.2.2.2]; exact (show (12 + (3 * (r) + 2)) + 1 ≤ (12 + (3 * (r + 1))) from oq_11500719 r), by rw [E.2.2.2]; exact (show 8 + (4 + 11) + (500 + 45 * (3 * (r) + 2)) ≤ (500 + 45 * (3 * (r + 1))) from oq_998273a9 r), by rw [E.2.2.2]; exact Nat.le_refl 0, by rw [E.2.2.2]; exact Nat.le_refl 0⟩ (Nat.le_of_ble_eq_true rfl) (fun vv s2012 hq => ?_) (fun ee s2012 hq => ?_)
      rotate_left
      · obtain ⟨Is2012, Fs2012, JFDB_s2012, e2013, hv, hrs2012, hps2012⟩ := hq; cases hv
      obtain ⟨Is2012, Fs2012, JFDB_s2012, e2013, hv, hrs2012, hps2012⟩ := hq
      cases hv
      have Gs2012 := fm_ts F Fs2012 (by decide) (by decide)
      have JFDB_s2012 : FDB B N s2012 := FDB_fm Fs2012 (by decide) jjFDB
      have b2014 : (0 : Int) ≤ iI s2012 77 ∧ iI s2012 77 ≤ 400 := Is2012.1 77
      have ws2012_75 : iI s2012 75 = iI t 75 := fm_i Fs2012 (by decide)
      have b2015 : (0 : Int) ≤ iI s2012 79 ∧ iI s2012 79 ≤ 9 := Is2012.1 79
      have b2016 : (0 : Int) ≤ iI s2012 78 ∧ iI s2012 78 ≤ 8 := Is2012.1 78
      show WS k 158 [(0, .ref (A 179)), (3, .int (Int32.ofInt il)), (4, .int (Int32.ofInt im))] [.int (Int32.ofInt e2013)] (Wd A dT s2012) 0 0
      refine z_store X (lv' := [(5, .int (Int32.ofInt e2013)), (0, .ref (A 179)), (3, .int (Int32.ofInt il)), (4, .int (Int32.ofInt im))]) (show cdA 207 158 = some (.istore 5, 2, 0, 0, 0) from rfl) (by decide) (fun _ h => h) ?_
      refine z_load_n X (x := il) (show cdA 207 160 = some (.iload_n 3, 1, 0, 0, 0) from rfl) (List.Mem.tail _ (List.Mem.tail _ (List.Mem.head _))) ?_
      refine z_if_ne X (t := 169) (show cdA 207 161 = some (.ifCond .ne 8, 3, 1, 0, 0) from rfl) (by decide) ⟨by first | exact oq_bde653e9 hi.2.2.2.2.2.1 | omega, by first | exact oq_4ad2cb8b hi.2.2.2.2.2.1 | omega⟩ (fun g2017 => ?_) (fun g2017 => ?_)
      ·
        refine z_aload_n X (x := A 179) (show cdA 207 169 = some (.aload_n 0, 1, 0, 0, 0) from rfl) (List.Mem.tail _ (List.Mem.head _)) ?_
        refine z_bipush X (show cdA 207 170 = some (.bipush 44, 2, 0, 0, 44) from rfl) ?_
        refine z_callV X 179 (rm := rmN 204) (As := [.int (Int32.ofInt 44)]) (st := []) (show cdA 207 172 = some (.invokevirtual 263, 3, 204, 0, 0) from rfl) rfl (by decide) rfl (by rw [E.1, E.2.1, E.2.2.1]; exact k_sign3 G Is2012 JFDB_s2012 (by first | exact ⟨by decide, by decide⟩ | omega) (by first | exact oq_93a1c4d4 hps2012.2.2.1 hi.2.2.2.2.1 | omega)) ⟨by rw [E.2.2.2]; exact (show 8 + 1 ≤ (12 + (3 * (r + 1))) from oq_0f4637ff r), by rw [E.2.2.2]; exact (show 8 + (2 + 11) + 141 ≤ (500 + 45 * (3 * (r + 1))) from oq_673d70d0 r), by rw [E.2.2.2]; exact Nat.le_refl 0, by rw [E.2.2.2]; exact Nat.le_refl 0⟩ (Nat.le_of_ble_eq_true rfl) (fun vv s2018 hq => ?_) (fun ee s2018 hq => ?_)
        rotate_left
        · obtain ⟨Is2018, Fs2018, JFDB_s2018, hv, hps2018⟩ := hq; cases hv
        obtain ⟨Is2018, Fs2018, JFDB_s2018, hv, hps2018⟩ := hq
        cases hv
        have Gs2018 := fm_ts Gs2012 Fs2018 (by decide) (by decide)
        have JFDB_s2018 : FDB B N s2018 := FDB_fm Fs2018 (by decide) JFDB_s2012
        have b2020 : (0 : Int) ≤ iI s2018 77 ∧ iI s2018 77 ≤ 400 := Is2018.1 77
        have ws2018_75 : iI s2018 75 = iI s2012 75 := fm_i Fs2018 (by decide)
        have b2021 : (0 : Int) ≤ iI s2018 79 ∧ iI s2018 79 ≤ 9 := Is2018.1 79
        have ws2018_78 : iI s2018 78 = iI s2012 78 := fm_i Fs2018 (by decide)
        show WS k 175 [(5, .int (Int32.ofInt e2013)), (0, .ref (A 179)), (3, .int (Int32.ofInt il)), (4, .int (Int32.ofInt im))] [] (Wd A dT s2018) 0 0
        have hsf := fun h => sg_fa hps2018.1 h
        refine z_aload_n X (x := A 179) (show cdA 207 175 = some (.aload_n 0, 1, 0, 0, 0) from rfl) (List.Mem.tail _ (List.Mem.head _)) ?_
        refine z_callV X 179 (rm := (rkR (3 * (r) + 2))) (As := []) (st := []) (show cdA 207 176 = some (.invokevirtual 260, 3, 209, 0, 0) from rfl) rfl (by decide) rfl (by rw [E.1, E.2.1, E.2.2.1]; exact hS Is2018 JFDB_s2018 (by omega) (by first | exact oq_6126d2ac ws2018_78 p1 hps2012.1 hi.2.2.1 | omega) (by omega)) ⟨by rw [E.2.2.2]; exact (show (12 + (3 * (r) + 2)) + 1 ≤ (12 + (3 * (r + 1))) from oq_11500719 r), by rw [E.2.2.2]; exact (show 8 + (4 + 11) + (500 + 45 * (3 * (r) + 2)) ≤ (500 + 45 * (3 * (r + 1))) from oq_998273a9 r), by rw [E.2.2.2]; exact Nat.le_refl 0, by rw [E.2.2.2]; exact Nat.le_refl 0⟩ (Nat.le_of_ble_eq_true rfl) (fun vv s2022 hq => ?_) (fun ee s2022 hq => ?_)
        rotate_left
        · obtain ⟨Is2022, Fs2022, JFDB_s2022, e2023, hv, hrs2022, hps2022⟩ := hq; cases hv
        obtain ⟨Is2022, Fs2022, JFDB_s2022, e2023, hv, hrs2022, hps2022⟩ := hq
        cases hv
        have Gs2022 := fm_ts Gs2018 Fs2022 (by decide) (by decide)
        have JFDB_s2022 : FDB B N s2022 := FDB_fm Fs2022 (by decide) JFDB_s2018
        have b2024 : (0 : Int) ≤ iI s2022 77 ∧ iI s2022 77 ≤ 400 := Is2022.1 77
        have ws2022_75 : iI s2022 75 = iI s2018 75 := fm_i Fs2022 (by decide)
        have b2025 : (0 : Int) ≤ iI s2022 79 ∧ iI s2022 79 ≤ 9 := Is2022.1 79
        have b2026 : (0 : Int) ≤ iI s2022 78 ∧ iI s2022 78 ≤ 8 := Is2022.1 78
        show WS k 179 [(5, .int (Int32.ofInt e2013)), (0, .ref (A 179)), (3, .int (Int32.ofInt il)), (4, .int (Int32.ofInt im))] [.int (Int32.ofInt e2023)] (Wd A dT s2022) 0 0
        refine z_store X (lv' := [(6, .int (Int32.ofInt e2023)), (5, .int (Int32.ofInt e2013)), (0, .ref (A 179)), (3, .int (Int32.ofInt il)), (4, .int (Int32.ofInt im))]) (show cdA 207 179 = some (.istore 6, 2, 0, 0, 0) from rfl) (by decide) (fun _ h => h) ?_
        refine z_load_n X (x := il) (show cdA 207 181 = some (.iload_n 3, 1, 0, 0, 0) from rfl) (List.Mem.tail _ (List.Mem.tail _ (List.Mem.tail _ (List.Mem.head _)))) ?_
        refine z_load X (x := e2023) (show cdA 207 182 = some (.iload 6, 2, 0, 0, 0) from rfl) (List.Mem.head _) ?_
        refine z_load X (x := e2013) (show cdA 207 184 = some (.iload 5, 2, 0, 0, 0) from rfl) (List.Mem.tail _ (List.Mem.head _)) ?_
        refine z_icmp_ge X (t := 193) (show cdA 207 186 = some (.if_icmp .ge 7, 3, 3, 0, 0) from rfl) (by decide) hrs2022 hrs2012 (fun g2027 => ?_) (fun g2027 => ?_)
        ·
          refine z_const X (show cdA 207 193 = some (.iconst 0, 1, 0, 0, 0) from rfl) ?_
          refine z_icmp_ne X (t := 202) (show cdA 207 194 = some (.if_icmp .ne 8, 3, 1, 0, 0) from rfl) (by decide) ⟨by first | exact oq_bde653e9 hi.2.2.2.2.2.1 | omega, by first | exact oq_4ad2cb8b hi.2.2.2.2.2.1 | omega⟩ (by decide) (fun g2028 => ?_) (fun g2028 => ?_)
          ·
            refine z_load X (x := e2013) (show cdA 207 202 = some (.iload 5, 2, 0, 0, 0) from rfl) (List.Mem.tail _ (List.Mem.head _)) ?_
            refine z_store X (lv' := [(5, .int (Int32.ofInt e2013)), (6, .int (Int32.ofInt e2023)), (0, .ref (A 179)), (3, .int (Int32.ofInt il)), (4, .int (Int32.ofInt im))]) (show cdA 207 204 = some (.istore 5, 2, 0, 0, 0) from rfl) (by decide) (fun _ h => h) ?_
            refine WS_lv (lv := [(0, .ref (A 179)), (5, .int (Int32.ofInt e2013))]) (List.forall_mem_cons.mpr ⟨(List.Mem.tail _ (List.Mem.tail _ (List.Mem.head _))), (List.forall_mem_cons.mpr ⟨(List.Mem.head _), (fun q h => absurd h List.not_mem_nil)⟩)⟩) ?_
            exact L206 _ e2013 Is2022 Gs2022 JFDB_s2022 (fun u hu => ou_twoFv hnd (wh_no hd) hd hch (by omega) (by omega) hA (by omega) (pfv_c hps2012.2.2.2.2.2 (nmr_fm F (by decide))) hps2018.1 (by omega) (pfv_c hps2022.2.2.2.2.2 (nmr_fm Gs2018 (by decide))) hu (fun c d h1 h2 => two_v hil hrs2012 hrs2022 (by omega) h1 h2)) (by omega)
          ·
            refine z_load X (x := e2023) (show cdA 207 197 = some (.iload 6, 2, 0, 0, 0) from rfl) (List.Mem.head _) ?_
            refine z_goto X (t := 204) (show cdA 207 199 = some (.goto 5, 3, 0, 0, 0) from rfl) (by decide) ?_
            refine z_store X (lv' := [(5, .int (Int32.ofInt e2023)), (6, .int (Int32.ofInt e2023)), (0, .ref (A 179)), (3, .int (Int32.ofInt il)), (4, .int (Int32.ofInt im))]) (show cdA 207 204 = some (.istore 5, 2, 0, 0, 0) from rfl) (by decide) (fun _ h => h) ?_
            refine WS_lv (lv := [(0, .ref (A 179)), (5, .int (Int32.ofInt e2023))]) (List.forall_mem_cons.mpr ⟨(List.Mem.tail _ (List.Mem.tail _ (List.Mem.head _))), (List.forall_mem_cons.mpr ⟨(List.Mem.head _), (fun q h => absurd h List.not_mem_nil)⟩)⟩) ?_
            exact L206 _ e2023 Is2022 Gs2022 JFDB_s2022 (fun u hu => ou_twoFv hnd (wh_no hd) hd hch (by omega) (by omega) hA (by omega) (pfv_c hps2012.2.2.2.2.2 (nmr_fm F (by decide))) hps2018.1 (by omega) (pfv_c hps2022.2.2.2.2.2 (nmr_fm Gs2018 (by decide))) hu (fun c d h1 h2 => two_v hil hrs2012 hrs2022 (by omega) h1 h2)) (by first | exact ⟨hi.1, oq_472b1964 hps2022.1 ws2018_78 hi.2.2.1 hps2012.1, oq_26e99c01 hps2022.2.1 hps2018.2.1 hps2012.2.1 hi.2.2.2.1, oq_4f177c12 g2028 g2017, oq_6bc3f377 g2028 g2017, oq_69bdeeac g2028 g2017, oq_4dd3cfdf g2028 g2017⟩ | omega)
        ·
          refine z_const X (show cdA 207 189 = some (.iconst 1, 1, 0, 0, 0) from rfl) ?_
          refine z_goto X (t := 194) (show cdA 207 190 = some (.goto 4, 3, 0, 0, 0) from rfl) (by decide) ?_
          refine z_icmp_ne X (t := 202) (show cdA 207 194 = some (.if_icmp .ne 8, 3, 1, 0, 0) from rfl) (by decide) ⟨by first | exact oq_bde653e9 hi.2.2.2.2.2.1 | omega, by first | exact oq_4ad2cb8b hi.2.2.2.2.2.1 | omega⟩ (by decide) (fun g2029 => ?_) (fun g2029 => ?_)
          ·
            refine z_load X (x := e2013) (show cdA 207 202 = some (.iload 5, 2, 0, 0, 0) from rfl) (List.Mem.tail _ (List.Mem.head _)) ?_
            refine z_store X (lv' := [(5, .int (Int32.ofInt e2013)), (6, .int (Int32.ofInt e2023)), (0, .ref (A 179)), (3, .int (Int32.ofInt il)), (4, .int (Int32.ofInt im))]) (show cdA 207 204 = some (.istore 5, 2, 0, 0, 0) from rfl) (by decide) (fun _ h => h) ?_
            refine WS_lv (lv := [(0, .ref (A 179)), (5, .int (Int32.ofInt e2013))]) (List.forall_mem_cons.mpr ⟨(List.Mem.tail _ (List.Mem.tail _ (List.Mem.head _))), (List.forall_mem_cons.mpr ⟨(List.Mem.head _), (fun q h => absurd h List.not_mem_nil)⟩)⟩) ?_
            exact L206 _ e2013 Is2022 Gs2022 JFDB_s2022 (fun u hu => ou_twoFv hnd (wh_no hd) hd hch (by omega) (by omega) hA (by omega) (pfv_c hps2012.2.2.2.2.2 (nmr_fm F (by decide))) hps2018.1 (by omega) (pfv_c hps2022.2.2.2.2.2 (nmr_fm Gs2018 (by decide))) hu (fun c d h1 h2 => two_v hil hrs2012 hrs2022 (by omega) h1 h2)) (by first | exact ⟨hi.1, oq_472b1964 hps2022.1 ws2018_78 hi.2.2.1 hps2012.1, oq_26e99c01 hps2022.2.1 hps2018.2.1 hps2012.2.1 hi.2.2.2.1, oq_05955c3b g2029 g2017 hi.2.2.2.2.2.1, oq_7627e113 g2029 g2017 hi.2.2.2.2.2.1, oq_66a22dbe g2029 g2017 hi.2.2.2.2.2.1, oq_11b632ac g2029 g2017 hi.2.2.2.2.2.1⟩ | omega)
          ·
            refine z_load X (x := e2023) (show cdA 207 197 = some (.iload 6, 2, 0, 0, 0) from rfl) (List.Mem.head _) ?_
            refine z_goto X (t := 204) (show cdA 207 199 = some (.goto 5, 3, 0, 0, 0) from rfl) (by decide) ?_
            refine z_store X (lv' := [(5, .int (Int32.ofInt e2023)), (6, .int (Int32.ofInt e2023)), (0, .ref (A 179)), (3, .int (Int32.ofInt il)), (4, .int (Int32.ofInt im))]) (show cdA 207 204 = some (.istore 5, 2, 0, 0, 0) from rfl) (by decide) (fun _ h => h) ?_
            refine WS_lv (lv := [(0, .ref (A 179)), (5, .int (Int32.ofInt e2023))]) (List.forall_mem_cons.mpr ⟨(List.Mem.tail _ (List.Mem.tail _ (List.Mem.head _))), (List.forall_mem_cons.mpr ⟨(List.Mem.head _), (fun q h => absurd h List.not_mem_nil)⟩)⟩) ?_
            exact L206 _ e2023 Is2022 Gs2022 JFDB_s2022 (fun u hu => ou_twoFv hnd (wh_no hd) hd hch (by omega) (by omega) hA (by omega) (pfv_c hps2012.2.2.2.2.2 (nmr_fm F (by decide))) hps2018.1 (by omega) (pfv_c hps2022.2.2.2.2.2 (nmr_fm Gs2018 (by decide))) hu (fun c d h1 h2 => two_v hil hrs2012 hrs2022 (by omega) h1 h2)) (by omega)
      ·
        refine z_load X (x := im) (show cdA 207 164 = some (.iload 4, 2, 0, 0, 0) from rfl) (List.Mem.tail _ (List.Mem.tail _ (List.Mem.tail _ (List.Mem.head _)))) ?_
        refine z_if_eq X (t := 206) (show cdA 207 166 = some (.ifCond .eq 40, 3, 0, 0, 0) from rfl) (by decide) ⟨by first | exact oq_bde653e9 hi.2.2.2.2.2.2 | omega, by first | exact oq_4ad2cb8b hi.2.2.2.2.2.2 | omega⟩ (fun g2030 => ?_) (fun g2030 => ?_)
        ·
          refine WS_lv (lv := [(0, .ref (A 179)), (5, .int (Int32.ofInt e2013))]) (List.forall_mem_cons.mpr ⟨(List.Mem.tail _ (List.Mem.head _)), (List.forall_mem_cons.mpr ⟨(List.Mem.head _), (fun q h => absurd h List.not_mem_nil)⟩)⟩) ?_
          exact L206 _ e2013 Is2012 Gs2012 JFDB_s2012 (by exfalso; omega) (by omega)
        ·
          refine z_aload_n X (x := A 179) (show cdA 207 169 = some (.aload_n 0, 1, 0, 0, 0) from rfl) (List.Mem.tail _ (List.Mem.head _)) ?_
          refine z_bipush X (show cdA 207 170 = some (.bipush 44, 2, 0, 0, 44) from rfl) ?_
          refine z_callV X 179 (rm := rmN 204) (As := [.int (Int32.ofInt 44)]) (st := []) (show cdA 207 172 = some (.invokevirtual 263, 3, 204, 0, 0) from rfl) rfl (by decide) rfl (by rw [E.1, E.2.1, E.2.2.1]; exact k_sign3 G Is2012 JFDB_s2012 (by first | exact ⟨by decide, by decide⟩ | omega) (by first | exact oq_93a1c4d4 hps2012.2.2.1 hi.2.2.2.2.1 | omega)) ⟨by rw [E.2.2.2]; exact (show 8 + 1 ≤ (12 + (3 * (r + 1))) from oq_0f4637ff r), by rw [E.2.2.2]; exact (show 8 + (2 + 11) + 141 ≤ (500 + 45 * (3 * (r + 1))) from oq_673d70d0 r), by rw [E.2.2.2]; exact Nat.le_refl 0, by rw [E.2.2.2]; exact Nat.le_refl 0⟩ (Nat.le_of_ble_eq_true rfl) (fun vv s2031 hq => ?_) (fun ee s2031 hq => ?_)
          rotate_left
          · obtain ⟨Is2031, Fs2031, JFDB_s2031, hv, hps2031⟩ := hq; cases hv
          obtain ⟨Is2031, Fs2031, JFDB_s2031, hv, hps2031⟩ := hq
          cases hv
          have Gs2031 := fm_ts Gs2012 Fs2031 (by decide) (by decide)
          have JFDB_s2031 : FDB B N s2031 := FDB_fm Fs2031 (by decide) JFDB_s2012
          have b2033 : (0 : Int) ≤ iI s2031 77 ∧ iI s2031 77 ≤ 400 := Is2031.1 77
          have ws2031_75 : iI s2031 75 = iI s2012 75 := fm_i Fs2031 (by decide)
          have b2034 : (0 : Int) ≤ iI s2031 79 ∧ iI s2031 79 ≤ 9 := Is2031.1 79
          have ws2031_78 : iI s2031 78 = iI s2012 78 := fm_i Fs2031 (by decide)
          show WS k 175 [(5, .int (Int32.ofInt e2013)), (0, .ref (A 179)), (3, .int (Int32.ofInt il)), (4, .int (Int32.ofInt im))] [] (Wd A dT s2031) 0 0
          have hsf := fun h => sg_fa hps2031.1 h
          refine z_aload_n X (x := A 179) (show cdA 207 175 = some (.aload_n 0, 1, 0, 0, 0) from rfl) (List.Mem.tail _ (List.Mem.head _)) ?_
          refine z_callV X 179 (rm := (rkR (3 * (r) + 2))) (As := []) (st := []) (show cdA 207 176 = some (.invokevirtual 260, 3, 209, 0, 0) from rfl) rfl (by decide) rfl (by rw [E.1, E.2.1, E.2.2.1]; exact hS Is2031 JFDB_s2031 (by omega) (by first | exact oq_6126d2ac ws2031_78 p1 hps2012.1 hi.2.2.1 | omega) (by omega)) ⟨by rw [E.2.2.2]; exact (show (12 + (3 * (r) + 2)) + 1 ≤ (12 + (3 * (r + 1))) from oq_11500719 r), by rw [E.2.2.2]; exact (show 8 + (4 + 11) + (500 + 45 * (3 * (r) + 2)) ≤ (500 + 45 * (3 * (r + 1))) from oq_998273a9 r), by rw [E.2.2.2]; exact Nat.le_refl 0, by rw [E.2.2.2]; exact Nat.le_refl 0⟩ (Nat.le_of_ble_eq_true rfl) (fun vv s2035 hq => ?_) (fun ee s2035 hq => ?_)
          rotate_left
          · obtain ⟨Is2035, Fs2035, JFDB_s2035, e2036, hv, hrs2035, hps2035⟩ := hq; cases hv
          obtain ⟨Is2035, Fs2035, JFDB_s2035, e2036, hv, hrs2035, hps2035⟩ := hq
          cases hv
          have Gs2035 := fm_ts Gs2031 Fs2035 (by decide) (by decide)
          have JFDB_s2035 : FDB B N s2035 := FDB_fm Fs2035 (by decide) JFDB_s2031
          have b2037 : (0 : Int) ≤ iI s2035 77 ∧ iI s2035 77 ≤ 400 := Is2035.1 77
          have ws2035_75 : iI s2035 75 = iI s2031 75 := fm_i Fs2035 (by decide)
          have b2038 : (0 : Int) ≤ iI s2035 79 ∧ iI s2035 79 ≤ 9 := Is2035.1 79
          have b2039 : (0 : Int) ≤ iI s2035 78 ∧ iI s2035 78 ≤ 8 := Is2035.1 78
          show WS k 179 [(5, .int (Int32.ofInt e2013)), (0, .ref (A 179)), (3, .int (Int32.ofInt il)), (4, .int (Int32.ofInt im))] [.int (Int32.ofInt e2036)] (Wd A dT s2035) 0 0
          refine z_store X (lv' := [(6, .int (Int32.ofInt e2036)), (5, .int (Int32.ofInt e2013)), (0, .ref (A 179)), (3, .int (Int32.ofInt il)), (4, .int (Int32.ofInt im))]) (show cdA 207 179 = some (.istore 6, 2, 0, 0, 0) from rfl) (by decide) (fun _ h => h) ?_
          refine z_load_n X (x := il) (show cdA 207 181 = some (.iload_n 3, 1, 0, 0, 0) from rfl) (List.Mem.tail _ (List.Mem.tail _ (List.Mem.tail _ (List.Mem.head _)))) ?_
          refine z_load X (x := e2036) (show cdA 207 182 = some (.iload 6, 2, 0, 0, 0) from rfl) (List.Mem.head _) ?_
          refine z_load X (x := e2013) (show cdA 207 184 = some (.iload 5, 2, 0, 0, 0) from rfl) (List.Mem.tail _ (List.Mem.head _)) ?_
          refine z_icmp_ge X (t := 193) (show cdA 207 186 = some (.if_icmp .ge 7, 3, 3, 0, 0) from rfl) (by decide) hrs2035 hrs2012 (fun g2040 => ?_) (fun g2040 => ?_)
          ·
            refine z_const X (show cdA 207 193 = some (.iconst 0, 1, 0, 0, 0) from rfl) ?_
            refine z_icmp_ne X (t := 202) (show cdA 207 194 = some (.if_icmp .ne 8, 3, 1, 0, 0) from rfl) (by decide) ⟨by first | exact oq_6ab4c69f g2017 | omega, by first | exact oq_3b8a080c g2017 | omega⟩ (by decide) (fun g2041 => ?_) (fun g2041 => ?_)
            ·
              refine z_load X (x := e2013) (show cdA 207 202 = some (.iload 5, 2, 0, 0, 0) from rfl) (List.Mem.tail _ (List.Mem.head _)) ?_
              refine z_store X (lv' := [(5, .int (Int32.ofInt e2013)), (6, .int (Int32.ofInt e2036)), (0, .ref (A 179)), (3, .int (Int32.ofInt il)), (4, .int (Int32.ofInt im))]) (show cdA 207 204 = some (.istore 5, 2, 0, 0, 0) from rfl) (by decide) (fun _ h => h) ?_
              refine WS_lv (lv := [(0, .ref (A 179)), (5, .int (Int32.ofInt e2013))]) (List.forall_mem_cons.mpr ⟨(List.Mem.tail _ (List.Mem.tail _ (List.Mem.head _))), (List.forall_mem_cons.mpr ⟨(List.Mem.head _), (fun q h => absurd h List.not_mem_nil)⟩)⟩) ?_
              exact L206 _ e2013 Is2035 Gs2035 JFDB_s2035 (fun u hu => ou_twoFv hnd (wh_no hd) hd hch (by omega) (by omega) hA (by omega) (pfv_c hps2012.2.2.2.2.2 (nmr_fm F (by decide))) hps2031.1 (by omega) (pfv_c hps2035.2.2.2.2.2 (nmr_fm Gs2031 (by decide))) hu (fun c d h1 h2 => two_v hil hrs2012 hrs2035 (by omega) h1 h2)) (by first | exact ⟨hi.1, oq_472b1964 hps2035.1 ws2031_78 hi.2.2.1 hps2012.1, oq_26e99c01 hps2035.2.1 hps2031.2.1 hps2012.2.1 hi.2.2.2.1, oq_9e8c11ac g2041 g2017, oq_0fdca8a3 g2041 g2017, oq_18c0abd8 g2041 g2017, oq_3f990474 g2041 g2017⟩ | omega)
            ·
              refine z_load X (x := e2036) (show cdA 207 197 = some (.iload 6, 2, 0, 0, 0) from rfl) (List.Mem.head _) ?_
              refine z_goto X (t := 204) (show cdA 207 199 = some (.goto 5, 3, 0, 0, 0) from rfl) (by decide) ?_
              refine z_store X (lv' := [(5, .int (Int32.ofInt e2036)), (6, .int (Int32.ofInt e2036)), (0, .ref (A 179)), (3, .int (Int32.ofInt il)), (4, .int (Int32.ofInt im))]) (show cdA 207 204 = some (.istore 5, 2, 0, 0, 0) from rfl) (by decide) (fun _ h => h) ?_
              refine WS_lv (lv := [(0, .ref (A 179)), (5, .int (Int32.ofInt e2036))]) (List.forall_mem_cons.mpr ⟨(List.Mem.tail _ (List.Mem.tail _ (List.Mem.head _))), (List.forall_mem_cons.mpr ⟨(List.Mem.head _), (fun q h => absurd h List.not_mem_nil)⟩)⟩) ?_
              exact L206 _ e2036 Is2035 Gs2035 JFDB_s2035 (fun u hu => ou_twoFv hnd (wh_no hd) hd hch (by omega) (by omega) hA (by omega) (pfv_c hps2012.2.2.2.2.2 (nmr_fm F (by decide))) hps2031.1 (by omega) (pfv_c hps2035.2.2.2.2.2 (nmr_fm Gs2031 (by decide))) hu (fun c d h1 h2 => two_v hil hrs2012 hrs2035 (by omega) h1 h2)) (by omega)
          ·
            refine z_const X (show cdA 207 189 = some (.iconst 1, 1, 0, 0, 0) from rfl) ?_
            refine z_goto X (t := 194) (show cdA 207 190 = some (.goto 4, 3, 0, 0, 0) from rfl) (by decide) ?_
            refine z_icmp_ne X (t := 202) (show cdA 207 194 = some (.if_icmp .ne 8, 3, 1, 0, 0) from rfl) (by decide) ⟨by first | exact oq_6ab4c69f g2017 | omega, by first | exact oq_3b8a080c g2017 | omega⟩ (by decide) (fun g2042 => ?_) (fun g2042 => ?_)
            ·
              refine z_load X (x := e2013) (show cdA 207 202 = some (.iload 5, 2, 0, 0, 0) from rfl) (List.Mem.tail _ (List.Mem.head _)) ?_
              refine z_store X (lv' := [(5, .int (Int32.ofInt e2013)), (6, .int (Int32.ofInt e2036)), (0, .ref (A 179)), (3, .int (Int32.ofInt il)), (4, .int (Int32.ofInt im))]) (show cdA 207 204 = some (.istore 5, 2, 0, 0, 0) from rfl) (by decide) (fun _ h => h) ?_
              refine WS_lv (lv := [(0, .ref (A 179)), (5, .int (Int32.ofInt e2013))]) (List.forall_mem_cons.mpr ⟨(List.Mem.tail _ (List.Mem.tail _ (List.Mem.head _))), (List.forall_mem_cons.mpr ⟨(List.Mem.head _), (fun q h => absurd h List.not_mem_nil)⟩)⟩) ?_
              exact L206 _ e2013 Is2035 Gs2035 JFDB_s2035 (fun u hu => ou_twoFv hnd (wh_no hd) hd hch (by omega) (by omega) hA (by omega) (pfv_c hps2012.2.2.2.2.2 (nmr_fm F (by decide))) hps2031.1 (by omega) (pfv_c hps2035.2.2.2.2.2 (nmr_fm Gs2031 (by decide))) hu (fun c d h1 h2 => two_v hil hrs2012 hrs2035 (by omega) h1 h2)) (by omega)
            ·
              refine z_load X (x := e2036) (show cdA 207 197 = some (.iload 6, 2, 0, 0, 0) from rfl) (List.Mem.head _) ?_
              refine z_goto X (t := 204) (show cdA 207 199 = some (.goto 5, 3, 0, 0, 0) from rfl) (by decide) ?_
              refine z_store X (lv' := [(5, .int (Int32.ofInt e2036)), (6, .int (Int32.ofInt e2036)), (0, .ref (A 179)), (3, .int (Int32.ofInt il)), (4, .int (Int32.ofInt im))]) (show cdA 207 204 = some (.istore 5, 2, 0, 0, 0) from rfl) (by decide) (fun _ h => h) ?_
              refine WS_lv (lv := [(0, .ref (A 179)), (5, .int (Int32.ofInt e2036))]) (List.forall_mem_cons.mpr ⟨(List.Mem.tail _ (List.Mem.tail _ (List.Mem.head _))), (List.forall_mem_cons.mpr ⟨(List.Mem.head _), (fun q h => absurd h List.not_mem_nil)⟩)⟩) ?_
              exact L206 _ e2036 Is2035 Gs2035 JFDB_s2035 (fun u hu => ou_twoFv hnd (wh_no hd) hd hch (by omega) (by omega) hA (by omega) (pfv_c hps2012.2.2.2.2.2 (nmr_fm F (by decide))) hps2031.1 (by omega) (pfv_c hps2035.2.2.2.2.2 (nmr_fm Gs2031 (by decide))) hu (fun c d h1 h2 => two_v hil hrs2012 hrs2035 (by omega) h1 h2)) (by first | exact ⟨hi.1, oq_472b1964 hps2035.1 ws2031_78 hi.2.2.1 hps2012.1, oq_26e99c01 hps2035.2.1 hps2031.2.1 hps2012.2.1 hi.2.2.2.1, oq_7d6db6b8 g2042 g2017, oq_ee4eff67 g2042 g2017, oq_8f6d5485 g2042 g2017, oq_d0249ed5 g2042 g2017⟩ | omega)
  have L121 : ∀ (t : PS) (il im : Int), Bd t → Fm [77, 79, 80, 78] [] s t → FDB B N t → (UV1 B N (sk B N (iI s 77)) t il im) → (iI s 79 = 0 ∧ iI t 79 = 0 ∧ iI t 78 = iI s 78 ∧ iI s 77 ≤ iI t 77 ∧ (iI t 77 = iI s 77 ∨ iI t 77 ≤ 202) ∧ (il = 0 ∨ il = 1) ∧ (im = 0 ∨ im = 1)) → WS k 121 [(0, .ref (A 179)), (3, .int (Int32.ofInt il)), (4, .int (Int32.ofInt im))] [] (Wd A dT t) 0 0 := by
    intro t il im I F jjFDB hq hi
    have b3001 : (0 : Int) ≤ iI t 77 ∧ iI t 77 ≤ 400 := I.1 77
    have b3002 : (0 : Int) ≤ iI t 75 ∧ iI t 75 ≤ 200 := I.1 75
    have b3003 : (0 : Int) ≤ iI t 79 ∧ iI t 79 ≤ 9 := I.1 79
    have b3004 : (0 : Int) ≤ iI t 78 ∧ iI t 78 ≤ 8 := I.1 78
    have hN := jjFDB.2.1
    have hW := jjFDB.2.2
    have hskp : sk B N (sk B N (iI s 77)) = (sk B N (iI s 77)) := sk_sk
    obtain ⟨hnd, hnm, hq⟩ := hq
    rcases hq with hq | hq
    ·
      obtain ⟨ha, hb_, hc, hd⟩ := hq
      refine z_aload_n X (x := A 179) (show cdA 207 121 = some (.aload_n 0, 1, 0, 0, 0) from rfl) (List.Mem.head _) ?_
      refine z_callV X 179 (rm := rmN 193) (As := []) (st := []) (show cdA 207 122 = some (.invokevirtual 197, 3, 193, 0, 0) from rfl) rfl (by decide) rfl (by rw [E.1, E.2.1, E.2.2.1]; exact k_blanks2 G I jjFDB (by first | exact oq_299765ef hi.2.2.2.2.1 p0 | omega)) ⟨by rw [E.2.2.2]; exact (show 7 + 1 ≤ (12 + (3 * (r + 1))) from oq_d528a8f9 r), by rw [E.2.2.2]; exact (show 8 + (1 + 11) + 121 ≤ (500 + 45 * (3 * (r + 1))) from oq_218e8e31 r), by rw [E.2.2.2]; exact Nat.le_refl 0, by rw [E.2.2.2]; exact Nat.le_refl 0⟩ (Nat.le_of_ble_eq_true rfl) (fun vv s3005 hq => ?_) (fun ee s3005 hq => ?_)
      rotate_left
      · obtain ⟨Is3005, Fs3005, JFDB_s3005, hv, hps3005⟩ := hq; cases hv
      obtain ⟨Is3005, Fs3005, JFDB_s3005, hv, hps3005⟩ := hq
      cases hv
      have Gs3005 := fm_ts F Fs3005 (by decide) (by decide)
      have JFDB_s3005 : FDB B N s3005 := FDB_fm Fs3005 (by decide) jjFDB
      have b3007 : (0 : Int) ≤ iI s3005 77 ∧ iI s3005 77 ≤ 400 := Is3005.1 77
      have ws3005_75 : iI s3005 75 = iI t 75 := fm_i Fs3005 (by decide)
      have ws3005_79 : iI s3005 79 = iI t 79 := fm_i Fs3005 (by decide)
      have ws3005_78 : iI s3005 78 = iI t 78 := fm_i Fs3005 (by decide)
      show WS k 125 [(0, .ref (A 179)), (3, .int (Int32.ofInt il)), (4, .int (Int32.ofInt im))] [] (Wd A dT s3005) 0 0
      have hq9 : iI s3005 77 = (sk B N (iI s 77)) := by rw [hps3005.1, hc]; exact hskp
      refine z_aload_n X (x := A 179) (show cdA 207 125 = some (.aload_n 0, 1, 0, 0, 0) from rfl) (List.Mem.head _) ?_
      refine z_aload_n X (x := A 179) (show cdA 207 126 = some (.aload_n 0, 1, 0, 0, 0) from rfl) (List.Mem.head _) ?_
      refine z_getI X 179 (show cdA 207 127 = some (.getfield 184, 3, 12, 4, 0) from rfl) (by decide) rfl rfl ?_
      have b3008 : (0 : Int) ≤ iI s3005 77 ∧ iI s3005 77 ≤ 400 := Is3005.1 77
      refine z_callV X 179 (rm := rmN 192) (As := [.int (Int32.ofInt (iI s3005 77))]) (st := []) (show cdA 207 130 = some (.invokevirtual 187, 3, 192, 0, 0) from rfl) rfl (by decide) rfl (by rw [E.1, E.2.1, E.2.2.1]; exact k_byteAt2 G Is3005 JFDB_s3005 (by first | exact ⟨b3008.1, oq_5a8480eb b3008.2⟩ | omega)) ⟨by rw [E.2.2.2]; exact (show 6 + 1 ≤ (12 + (3 * (r + 1))) from oq_0dc82175 r), by rw [E.2.2.2]; exact (show 8 + (2 + 11) + 100 ≤ (500 + 45 * (3 * (r + 1))) from oq_c9027365 r), by rw [E.2.2.2]; exact Nat.le_refl 0, by rw [E.2.2.2]; exact Nat.le_refl 0⟩ (Nat.le_of_ble_eq_true rfl) (fun vv s3009 hq => ?_) (fun ee s3009 hq => ?_)
      rotate_left
      · obtain ⟨rfl, e3010, hv, hrs3009, hps3009⟩ := hq; cases hv
      obtain ⟨rfl, e3010, hv, hrs3009, hps3009⟩ := hq
      cases hv
      show WS k 133 [(0, .ref (A 179)), (3, .int (Int32.ofInt il)), (4, .int (Int32.ofInt im))] [.int (Int32.ofInt e3010)] (Wd A dT s3005) 0 0
      have hby2 := hps3009
      rw [hq9] at hby2
      refine z_bipush X (show cdA 207 133 = some (.bipush 40, 2, 0, 0, 40) from rfl) ?_
      refine z_icmp_eq X (t := 149) (show cdA 207 135 = some (.if_icmp .eq 14, 3, 0, 0, 0) from rfl) (by decide) hrs3009 (by decide) (fun g3011 => ?_) (fun g3011 => ?_)
      ·
        have hch : chT B N (sk B N (iI s 77)) 40 := ⟨by omega, by omega⟩
        refine z_aload_n X (x := A 179) (show cdA 207 149 = some (.aload_n 0, 1, 0, 0, 0) from rfl) (List.Mem.head _) ?_
        refine z_const X (show cdA 207 150 = some (.iconst 1, 1, 0, 0, 0) from rfl) ?_
        refine z_callV X 179 (rm := rmN 205) (As := [.int (Int32.ofInt 1)]) (st := []) (show cdA 207 151 = some (.invokevirtual 257, 3, 205, 0, 0) from rfl) rfl (by decide) rfl (by rw [E.1, E.2.1, E.2.2.1]; exact k_opens3 G Is3005 (by first | exact ⟨by decide, by decide⟩ | omega) (by omega) (by omega)) ⟨by rw [E.2.2.2]; exact (show 7 + 1 ≤ (12 + (3 * (r + 1))) from oq_d528a8f9 r), by rw [E.2.2.2]; exact (show 8 + (2 + 11) + 122 ≤ (500 + 45 * (3 * (r + 1))) from oq_3e907fa5 r), by rw [E.2.2.2]; exact Nat.le_refl 0, by rw [E.2.2.2]; exact Nat.le_refl 0⟩ (Nat.le_of_ble_eq_true rfl) (fun vv s3012 hq => ?_) (fun ee s3012 hq => ?_)
        rotate_left
        · obtain ⟨Is3012, Fs3012, hv, hps3012⟩ := hq; cases hv
        obtain ⟨Is3012, Fs3012, hv, hps3012⟩ := hq
        cases hv
        have Gs3012 := fm_ts Gs3005 Fs3012 (by decide) (by decide)
        have JFDB_s3012 : FDB B N s3012 := FDB_fm Fs3012 (by decide) JFDB_s3005
        have b3014 : (0 : Int) ≤ iI s3012 77 ∧ iI s3012 77 ≤ 400 := Is3012.1 77
        have ws3012_75 : iI s3012 75 = iI s3005 75 := fm_i Fs3012 (by decide)
        have b3015 : (0 : Int) ≤ iI s3012 79 ∧ iI s3012 79 ≤ 9 := Is3012.1 79
        have b3016 : (0 : Int) ≤ iI s3012 78 ∧ iI s3012 78 ≤ 8 := Is3012.1 78
        show WS k 154 [(0, .ref (A 179)), (3, .int (Int32.ofInt il)), (4, .int (Int32.ofInt im))] [] (Wd A dT s3012) 0 0
        refine WS_lv (lv := [(0, .ref (A 179)), (3, .int (Int32.ofInt il)), (4, .int (Int32.ofInt im))]) (List.forall_mem_cons.mpr ⟨(List.Mem.head _), (List.forall_mem_cons.mpr ⟨(List.Mem.tail _ (List.Mem.head _)), (List.forall_mem_cons.mpr ⟨(List.Mem.tail _ (List.Mem.tail _ (List.Mem.head _))), (fun q h => absurd h List.not_mem_nil)⟩)⟩)⟩) ?_
        exact L154 _ il im Is3012 Gs3012 JFDB_s3012 ⟨hnd, Or.inl ⟨by omega, by omega, hch, by omega⟩⟩ (by first | exact ⟨hi.1, oq_b9a55545 b3015.1 hps3012.2.2 ws3005_78 ws3005_79 b3003.1 hi.2.2.1 hi.2.1, oq_cae9ec4a hps3012.2.1 ws3005_78 hi.2.2.1, oq_6867a2fe hps3012.1 hi.2.2.2.1 hps3005.2.1, by omega, hi.2.2.2.2.2.1, hi.2.2.2.2.2.2⟩ | omega)
      ·
        refine z_aload_n X (x := A 179) (show cdA 207 138 = some (.aload_n 0, 1, 0, 0, 0) from rfl) (List.Mem.head _) ?_
        refine z_const X (show cdA 207 139 = some (.iconst 1, 1, 0, 0, 0) from rfl) ?_
        refine z_aload_n X (x := A 179) (show cdA 207 140 = some (.aload_n 0, 1, 0, 0, 0) from rfl) (List.Mem.head _) ?_
        refine z_getI X 179 (show cdA 207 141 = some (.getfield 184, 3, 12, 4, 0) from rfl) (by decide) rfl rfl ?_
        have b3017 : (0 : Int) ≤ iI s3005 77 ∧ iI s3005 77 ≤ 400 := Is3005.1 77
        refine z_callV X 179 (rm := rmN 194) (As := [.int (Int32.ofInt 1), .int (Int32.ofInt (iI s3005 77))]) (st := []) (show cdA 207 144 = some (.invokevirtual 204, 3, 194, 0, 0) from rfl) rfl (by decide) rfl (by rw [E.1, E.2.1, E.2.2.1]; exact k_wrong3 G Is3005 (by first | exact ⟨by decide, by decide⟩ | omega) (by first | exact ⟨oq_ca54ea22 b3017.1, b3017.2⟩ | omega)) ⟨by rw [E.2.2.2]; exact (show 6 + 1 ≤ (12 + (3 * (r + 1))) from oq_0dc82175 r), by rw [E.2.2.2]; exact (show 8 + (3 + 11) + 100 ≤ (500 + 45 * (3 * (r + 1))) from oq_cdc25995 r), by rw [E.2.2.2]; exact Nat.le_refl 0, by rw [E.2.2.2]; exact Nat.le_refl 0⟩ (Nat.le_of_ble_eq_true rfl) (fun vv s3018 hq => ?_) (fun ee s3018 hq => ?_)
        rotate_left
        · obtain ⟨Is3018, Fs3018, hv, hps3018⟩ := hq; cases hv
        obtain ⟨Is3018, Fs3018, hv, hps3018⟩ := hq
        cases hv
        have Gs3018 := fm_ts Gs3005 Fs3018 (by decide) (by decide)
        have JFDB_s3018 : FDB B N s3018 := FDB_fm Fs3018 (by decide) JFDB_s3005
        have ws3018_77 : iI s3018 77 = iI s3005 77 := fm_i Fs3018 (by decide)
        have ws3018_75 : iI s3018 75 = iI s3005 75 := fm_i Fs3018 (by decide)
        have b3020 : (0 : Int) ≤ iI s3018 79 ∧ iI s3018 79 ≤ 9 := Is3018.1 79
        have ws3018_78 : iI s3018 78 = iI s3005 78 := fm_i Fs3018 (by decide)
        show WS k 147 [(0, .ref (A 179)), (3, .int (Int32.ofInt il)), (4, .int (Int32.ofInt im))] [] (Wd A dT s3018) 0 0
        refine z_const X (show cdA 207 147 = some (.iconst 0, 1, 0, 0, 0) from rfl) ?_
        exact w_iret X.1 q hRt rfl (ax_d X (show cdA 207 148 = some (.ireturn, 1, 0, 0, 0) from rfl)) (Nat.zero_le _) (Nat.zero_le _) ⟨_, rfl, Is3018, Gs3018, JFDB_s3018, 0, rfl, (by decide), ⟨by first | exact oq_878618b1 ws3018_78 ws3005_78 hi.2.2.1 | omega, by first | exact oq_6f31d0da ws3018_77 hi.2.2.2.1 hps3005.2.1 | omega, by omega, by first | exact oq_e013ad0f hi.1 | omega, by first | exact oq_67d4e76f b3020.1 hps3018 | omega, Or.inr ⟨by omega, ou_nopv hnd (by omega) hd (by omega) (by omega)⟩⟩⟩
    ·
      obtain ⟨hil, hc⟩ := hq
      have hd : whV B N (sk B N (iI s 77)) = 6476969 ∨ whV B N (sk B N (iI s 77)) = 267347 := by omega
      refine z_aload_n X (x := A 179) (show cdA 207 121 = some (.aload_n 0, 1, 0, 0, 0) from rfl) (List.Mem.head _) ?_
      refine z_callV X 179 (rm := rmN 193) (As := []) (st := []) (show cdA 207 122 = some (.invokevirtual 197, 3, 193, 0, 0) from rfl) rfl (by decide) rfl (by rw [E.1, E.2.1, E.2.2.1]; exact k_blanks2 G I jjFDB (by first | exact oq_299765ef hi.2.2.2.2.1 p0 | omega)) ⟨by rw [E.2.2.2]; exact (show 7 + 1 ≤ (12 + (3 * (r + 1))) from oq_d528a8f9 r), by rw [E.2.2.2]; exact (show 8 + (1 + 11) + 121 ≤ (500 + 45 * (3 * (r + 1))) from oq_218e8e31 r), by rw [E.2.2.2]; exact Nat.le_refl 0, by rw [E.2.2.2]; exact Nat.le_refl 0⟩ (Nat.le_of_ble_eq_true rfl) (fun vv s3021 hq => ?_) (fun ee s3021 hq => ?_)
      rotate_left
      · obtain ⟨Is3021, Fs3021, JFDB_s3021, hv, hps3021⟩ := hq; cases hv
      obtain ⟨Is3021, Fs3021, JFDB_s3021, hv, hps3021⟩ := hq
      cases hv
      have Gs3021 := fm_ts F Fs3021 (by decide) (by decide)
      have JFDB_s3021 : FDB B N s3021 := FDB_fm Fs3021 (by decide) jjFDB
      have b3023 : (0 : Int) ≤ iI s3021 77 ∧ iI s3021 77 ≤ 400 := Is3021.1 77
      have ws3021_75 : iI s3021 75 = iI t 75 := fm_i Fs3021 (by decide)
      have ws3021_79 : iI s3021 79 = iI t 79 := fm_i Fs3021 (by decide)
      have ws3021_78 : iI s3021 78 = iI t 78 := fm_i Fs3021 (by decide)
      show WS k 125 [(0, .ref (A 179)), (3, .int (Int32.ofInt il)), (4, .int (Int32.ofInt im))] [] (Wd A dT s3021) 0 0
      have hq9 : iI s3021 77 = sk B N (wdE B N (sk B N (iI s 77))) := by rw [hps3021.1, hc]
      refine z_aload_n X (x := A 179) (show cdA 207 125 = some (.aload_n 0, 1, 0, 0, 0) from rfl) (List.Mem.head _) ?_
      refine z_aload_n X (x := A 179) (show cdA 207 126 = some (.aload_n 0, 1, 0, 0, 0) from rfl) (List.Mem.head _) ?_
      refine z_getI X 179 (show cdA 207 127 = some (.getfield 184, 3, 12, 4, 0) from rfl) (by decide) rfl rfl ?_
      have b3024 : (0 : Int) ≤ iI s3021 77 ∧ iI s3021 77 ≤ 400 := Is3021.1 77
      refine z_callV X 179 (rm := rmN 192) (As := [.int (Int32.ofInt (iI s3021 77))]) (st := []) (show cdA 207 130 = some (.invokevirtual 187, 3, 192, 0, 0) from rfl) rfl (by decide) rfl (by rw [E.1, E.2.1, E.2.2.1]; exact k_byteAt2 G Is3021 JFDB_s3021 (by first | exact ⟨b3024.1, oq_5a8480eb b3024.2⟩ | omega)) ⟨by rw [E.2.2.2]; exact (show 6 + 1 ≤ (12 + (3 * (r + 1))) from oq_0dc82175 r), by rw [E.2.2.2]; exact (show 8 + (2 + 11) + 100 ≤ (500 + 45 * (3 * (r + 1))) from oq_c9027365 r), by rw [E.2.2.2]; exact Nat.le_refl 0, by rw [E.2.2.2]; exact Nat.le_refl 0⟩ (Nat.le_of_ble_eq_true rfl) (fun vv s3025 hq => ?_) (fun ee s3025 hq => ?_)
      rotate_left
      · obtain ⟨rfl, e3026, hv, hrs3025, hps3025⟩ := hq; cases hv
      obtain ⟨rfl, e3026, hv, hrs3025, hps3025⟩ := hq
      cases hv
      show WS k 133 [(0, .ref (A 179)), (3, .int (Int32.ofInt il)), (4, .int (Int32.ofInt im))] [.int (Int32.ofInt e3026)] (Wd A dT s3021) 0 0
      have hby2 := hps3025
      rw [hq9] at hby2
      refine z_bipush X (show cdA 207 133 = some (.bipush 40, 2, 0, 0, 40) from rfl) ?_
      refine z_icmp_eq X (t := 149) (show cdA 207 135 = some (.if_icmp .eq 14, 3, 0, 0, 0) from rfl) (by decide) hrs3025 (by decide) (fun g3027 => ?_) (fun g3027 => ?_)
      ·
        have hch : chT B N (sk B N (wdE B N (sk B N (iI s 77)))) 40 := ⟨by omega, by omega⟩
        refine z_aload_n X (x := A 179) (show cdA 207 149 = some (.aload_n 0, 1, 0, 0, 0) from rfl) (List.Mem.head _) ?_
        refine z_const X (show cdA 207 150 = some (.iconst 1, 1, 0, 0, 0) from rfl) ?_
        refine z_callV X 179 (rm := rmN 205) (As := [.int (Int32.ofInt 1)]) (st := []) (show cdA 207 151 = some (.invokevirtual 257, 3, 205, 0, 0) from rfl) rfl (by decide) rfl (by rw [E.1, E.2.1, E.2.2.1]; exact k_opens3 G Is3021 (by first | exact ⟨by decide, by decide⟩ | omega) (by omega) (by omega)) ⟨by rw [E.2.2.2]; exact (show 7 + 1 ≤ (12 + (3 * (r + 1))) from oq_d528a8f9 r), by rw [E.2.2.2]; exact (show 8 + (2 + 11) + 122 ≤ (500 + 45 * (3 * (r + 1))) from oq_3e907fa5 r), by rw [E.2.2.2]; exact Nat.le_refl 0, by rw [E.2.2.2]; exact Nat.le_refl 0⟩ (Nat.le_of_ble_eq_true rfl) (fun vv s3028 hq => ?_) (fun ee s3028 hq => ?_)
        rotate_left
        · obtain ⟨Is3028, Fs3028, hv, hps3028⟩ := hq; cases hv
        obtain ⟨Is3028, Fs3028, hv, hps3028⟩ := hq
        cases hv
        have Gs3028 := fm_ts Gs3021 Fs3028 (by decide) (by decide)
        have JFDB_s3028 : FDB B N s3028 := FDB_fm Fs3028 (by decide) JFDB_s3021
        have b3030 : (0 : Int) ≤ iI s3028 77 ∧ iI s3028 77 ≤ 400 := Is3028.1 77
        have ws3028_75 : iI s3028 75 = iI s3021 75 := fm_i Fs3028 (by decide)
        have b3031 : (0 : Int) ≤ iI s3028 79 ∧ iI s3028 79 ≤ 9 := Is3028.1 79
        have b3032 : (0 : Int) ≤ iI s3028 78 ∧ iI s3028 78 ≤ 8 := Is3028.1 78
        show WS k 154 [(0, .ref (A 179)), (3, .int (Int32.ofInt il)), (4, .int (Int32.ofInt im))] [] (Wd A dT s3028) 0 0
        refine WS_lv (lv := [(0, .ref (A 179)), (3, .int (Int32.ofInt il)), (4, .int (Int32.ofInt im))]) (List.forall_mem_cons.mpr ⟨(List.Mem.head _), (List.forall_mem_cons.mpr ⟨(List.Mem.tail _ (List.Mem.head _)), (List.forall_mem_cons.mpr ⟨(List.Mem.tail _ (List.Mem.tail _ (List.Mem.head _))), (fun q h => absurd h List.not_mem_nil)⟩)⟩)⟩) ?_
        exact L154 _ il im Is3028 Gs3028 JFDB_s3028 ⟨hnd, Or.inr ⟨hil, hch, by omega⟩⟩ (by first | exact ⟨hi.1, oq_b9a55545 b3031.1 hps3028.2.2 ws3021_78 ws3021_79 b3003.1 hi.2.2.1 hi.2.1, oq_cae9ec4a hps3028.2.1 ws3021_78 hi.2.2.1, oq_6867a2fe hps3028.1 hi.2.2.2.1 hps3021.2.1, by omega, hi.2.2.2.2.2.1, hi.2.2.2.2.2.2⟩ | omega)
      ·
        refine z_aload_n X (x := A 179) (show cdA 207 138 = some (.aload_n 0, 1, 0, 0, 0) from rfl) (List.Mem.head _) ?_
        refine z_const X (show cdA 207 139 = some (.iconst 1, 1, 0, 0, 0) from rfl) ?_
        refine z_aload_n X (x := A 179) (show cdA 207 140 = some (.aload_n 0, 1, 0, 0, 0) from rfl) (List.Mem.head _) ?_
        refine z_getI X 179 (show cdA 207 141 = some (.getfield 184, 3, 12, 4, 0) from rfl) (by decide) rfl rfl ?_
        have b3033 : (0 : Int) ≤ iI s3021 77 ∧ iI s3021 77 ≤ 400 := Is3021.1 77
        refine z_callV X 179 (rm := rmN 194) (As := [.int (Int32.ofInt 1), .int (Int32.ofInt (iI s3021 77))]) (st := []) (show cdA 207 144 = some (.invokevirtual 204, 3, 194, 0, 0) from rfl) rfl (by decide) rfl (by rw [E.1, E.2.1, E.2.2.1]; exact k_wrong3 G Is3021 (by first | exact ⟨by decide, by decide⟩ | omega) (by first | exact ⟨oq_ca54ea22 b3033.1, b3033.2⟩ | omega)) ⟨by rw [E.2.2.2]; exact (show 6 + 1 ≤ (12 + (3 * (r + 1))) from oq_0dc82175 r), by rw [E.2.2.2]; exact (show 8 + (3 + 11) + 100 ≤ (500 + 45 * (3 * (r + 1))) from oq_cdc25995 r), by rw [E.2.2.2]; exact Nat.le_refl 0, by rw [E.2.2.2]; exact Nat.le_refl 0⟩ (Nat.le_of_ble_eq_true rfl) (fun vv s3034 hq => ?_) (fun ee s3034 hq => ?_)
        rotate_left
        · obtain ⟨Is3034, Fs3034, hv, hps3034⟩ := hq; cases hv
        obtain ⟨Is3034, Fs3034, hv, hps3034⟩ := hq
        cases hv
        have Gs3034 := fm_ts Gs3021 Fs3034 (by decide) (by decide)
        have JFDB_s3034 : FDB B N s3034 := FDB_fm Fs3034 (by decide) JFDB_s3021
        have ws3034_77 : iI s3034 77 = iI s3021 77 := fm_i Fs3034 (by decide)
        have ws3034_75 : iI s3034 75 = iI s3021 75 := fm_i Fs3034 (by decide)
        have b3036 : (0 : Int) ≤ iI s3034 79 ∧ iI s3034 79 ≤ 9 := Is3034.1 79
        have ws3034_78 : iI s3034 78 = iI s3021 78 := fm_i Fs3034 (by decide)
        show WS k 147 [(0, .ref (A 179)), (3, .int (Int32.ofInt il)), (4, .int (Int32.ofInt im))] [] (Wd A dT s3034) 0 0
        refine z_const X (show cdA 207 147 = some (.iconst 0, 1, 0, 0, 0) from rfl) ?_
        exact w_iret X.1 q hRt rfl (ax_d X (show cdA 207 148 = some (.ireturn, 1, 0, 0, 0) from rfl)) (Nat.zero_le _) (Nat.zero_le _) ⟨_, rfl, Is3034, Gs3034, JFDB_s3034, 0, rfl, (by decide), ⟨by first | exact oq_878618b1 ws3034_78 ws3021_78 hi.2.2.1 | omega, by first | exact oq_6f31d0da ws3034_77 hi.2.2.2.1 hps3021.2.1 | omega, by omega, by first | exact oq_e013ad0f hi.1 | omega, by first | exact oq_67d4e76f b3036.1 hps3034 | omega, Or.inr ⟨by omega, ou_nop2v hd (by omega) (by omega)⟩⟩⟩
  refine z_aload_n X (x := A 179) (show cdA 207 0 = some (.aload_n 0, 1, 0, 0, 0) from rfl) (List.Mem.head _) ?_
  refine z_getI X 179 (show cdA 207 1 = some (.getfield 191, 3, 12, 6, 0) from rfl) (by decide) rfl rfl ?_
  have b5 : (0 : Int) ≤ iI s 79 ∧ iI s 79 ≤ 9 := I.1 79
  refine z_if_eq X (t := 9) (show cdA 207 4 = some (.ifCond .eq 5, 3, 0, 0, 0) from rfl) (by decide) (rng_to _) (fun g6 => ?_) (fun g6 => ?_)
  ·
    refine z_aload_n X (x := A 179) (show cdA 207 9 = some (.aload_n 0, 1, 0, 0, 0) from rfl) (List.Mem.head _) ?_
    refine z_callV X 179 (rm := rmN 193) (As := []) (st := []) (show cdA 207 10 = some (.invokevirtual 197, 3, 193, 0, 0) from rfl) rfl (by decide) rfl (by rw [E.1, E.2.1, E.2.2.1]; exact k_blanks2 G I jFDB (by first | exact oq_2ebc9f52 p0 | omega)) ⟨by rw [E.2.2.2]; exact (show 7 + 1 ≤ (12 + (3 * (r + 1))) from oq_d528a8f9 r), by rw [E.2.2.2]; exact (show 8 + (1 + 11) + 121 ≤ (500 + 45 * (3 * (r + 1))) from oq_218e8e31 r), by rw [E.2.2.2]; exact Nat.le_refl 0, by rw [E.2.2.2]; exact Nat.le_refl 0⟩ (Nat.le_of_ble_eq_true rfl) (fun vv s7 hq => ?_) (fun ee s7 hq => ?_)
    rotate_left
    · obtain ⟨Is7, Fs7, JFDB_s7, hv, hps7⟩ := hq; cases hv
    obtain ⟨Is7, Fs7, JFDB_s7, hv, hps7⟩ := hq
    cases hv
    have Gs7 := fm_ts F Fs7 (by decide) (by decide)
    have JFDB_s7 : FDB B N s7 := FDB_fm Fs7 (by decide) jFDB
    have b9 : (0 : Int) ≤ iI s7 77 ∧ iI s7 77 ≤ 400 := Is7.1 77
    have ws7_75 : iI s7 75 = iI s 75 := fm_i Fs7 (by decide)
    have ws7_79 : iI s7 79 = iI s 79 := fm_i Fs7 (by decide)
    have ws7_78 : iI s7 78 = iI s 78 := fm_i Fs7 (by decide)
    show WS k 13 [(0, .ref (A 179))] [] (Wd A dT s7) 0 0
    obtain ⟨pz, hpz⟩ : ∃ q, q = sk B N (iI s 77) := ⟨_, rfl⟩
    have hskp : sk B N pz = pz := by rw [hpz]; exact sk_sk
    have hb : iI s7 77 = pz := by rw [hpz]; exact hps7.1
    refine z_aload_n X (x := A 179) (show cdA 207 13 = some (.aload_n 0, 1, 0, 0, 0) from rfl) (List.Mem.head _) ?_
    refine z_aload_n X (x := A 179) (show cdA 207 14 = some (.aload_n 0, 1, 0, 0, 0) from rfl) (List.Mem.head _) ?_
    refine z_getI X 179 (show cdA 207 15 = some (.getfield 184, 3, 12, 4, 0) from rfl) (by decide) rfl rfl ?_
    have b10 : (0 : Int) ≤ iI s7 77 ∧ iI s7 77 ≤ 400 := Is7.1 77
    refine z_callV X 179 (rm := rmN 192) (As := [.int (Int32.ofInt (iI s7 77))]) (st := []) (show cdA 207 18 = some (.invokevirtual 187, 3, 192, 0, 0) from rfl) rfl (by decide) rfl (by rw [E.1, E.2.1, E.2.2.1]; exact k_byteAt2 G Is7 JFDB_s7 (by first | exact ⟨b10.1, oq_5a8480eb b10.2⟩ | omega)) ⟨by rw [E.2.2.2]; exact (show 6 + 1 ≤ (12 + (3 * (r + 1))) from oq_0dc82175 r), by rw [E.2.2.2]; exact (show 8 + (2 + 11) + 100 ≤ (500 + 45 * (3 * (r + 1))) from oq_c9027365 r), by rw [E.2.2.2]; exact Nat.le_refl 0, by rw [E.2.2.2]; exact Nat.le_refl 0⟩ (Nat.le_of_ble_eq_true rfl) (fun vv s11 hq => ?_) (fun ee s11 hq => ?_)
    rotate_left
    · obtain ⟨rfl, e12, hv, hrs11, hps11⟩ := hq; cases hv
    obtain ⟨rfl, e12, hv, hrs11, hps11⟩ := hq
    cases hv
    show WS k 21 [(0, .ref (A 179))] [.int (Int32.ofInt e12)] (Wd A dT s7) 0 0
    have hby := hps11
    rw [hb] at hby
    refine z_callS X (rm := rmN 195) (As := [.int (Int32.ofInt e12)]) (st := []) (show cdA 207 21 = some (.invokestatic 200, 3, 195, 1, 0) from rfl) rfl (by rw [E.1, E.2.1, E.2.2.1]; exact k_isDigit2 G Is7 (by first | exact ⟨oq_1b38bc36 hps11, oq_eabbb498 hps11⟩ | omega)) ⟨by rw [E.2.2.2]; exact (show 6 + 1 ≤ (12 + (3 * (r + 1))) from oq_0dc82175 r), by rw [E.2.2.2]; exact (show 8 + (1 + 11) + 100 ≤ (500 + 45 * (3 * (r + 1))) from oq_eb98a9a7 r), by rw [E.2.2.2]; exact Nat.le_refl 0, by rw [E.2.2.2]; exact Nat.le_refl 0⟩ (Nat.le_of_ble_eq_true rfl) (fun vv s13 hq => ?_) (fun ee s13 hq => ?_)
    rotate_left
    · obtain ⟨rfl, e14, hv, hrs13, hps13⟩ := hq; cases hv
    obtain ⟨rfl, e14, hv, hrs13, hps13⟩ := hq
    cases hv
    show WS k 24 [(0, .ref (A 179))] [.int (Int32.ofInt e14)] (Wd A dT s7) 0 0
    refine z_if_eq X (t := 36) (show cdA 207 24 = some (.ifCond .eq 12, 3, 0, 0, 0) from rfl) (by decide) hrs13 (fun g15 => ?_) (fun g15 => ?_)
    ·
      have hnd : ¬ dgP B N pz := by omega
      refine z_aload_n X (x := A 179) (show cdA 207 36 = some (.aload_n 0, 1, 0, 0, 0) from rfl) (List.Mem.head _) ?_
      refine z_callV X 179 (rm := rmN 206) (As := []) (st := []) (show cdA 207 37 = some (.invokevirtual 251, 3, 206, 0, 0) from rfl) rfl (by decide) rfl (by rw [E.1, E.2.1, E.2.2.1]; exact k_nameHere3 G Is7 JFDB_s7 (by omega)) ⟨by rw [E.2.2.2]; exact (show 9 + 1 ≤ (12 + (3 * (r + 1))) from oq_c359dceb r), by rw [E.2.2.2]; exact (show 8 + (2 + 11) + 163 ≤ (500 + 45 * (3 * (r + 1))) from oq_4e1b90b2 r), by rw [E.2.2.2]; exact Nat.le_refl 0, by rw [E.2.2.2]; exact Nat.le_refl 0⟩ (Nat.le_of_ble_eq_true rfl) (fun vv s16 hq => ?_) (fun ee s16 hq => ?_)
      rotate_left
      · obtain ⟨Is16, Fs16, JFDB_s16, e17, hv, hrs16, hps16⟩ := hq; cases hv
      obtain ⟨Is16, Fs16, JFDB_s16, e17, hv, hrs16, hps16⟩ := hq
      cases hv
      have Gs16 := fm_ts Gs7 Fs16 (by decide) (by decide)
      have JFDB_s16 : FDB B N s16 := FDB_fm Fs16 (by decide) JFDB_s7
      have b18 : (0 : Int) ≤ iI s16 77 ∧ iI s16 77 ≤ 400 := Is16.1 77
      have ws16_75 : iI s16 75 = iI s7 75 := fm_i Fs16 (by decide)
      have ws16_79 : iI s16 79 = iI s7 79 := fm_i Fs16 (by decide)
      have ws16_78 : iI s16 78 = iI s7 78 := fm_i Fs16 (by decide)
      show WS k 40 [(0, .ref (A 179))] [.int (Int32.ofInt e17)] (Wd A dT s16) 0 0
      have hn1 : iI s16 77 = pz := by rw [hps16.1, hb]; exact hskp
      have hnm := hps16.2.1
      rw [hn1] at hnm
      refine z_store_n X (lv' := [(1, .int (Int32.ofInt e17)), (0, .ref (A 179))]) (show cdA 207 40 = some (.istore_n 1, 1, 0, 0, 0) from rfl) (by decide) (fun _ h => h) ?_
      refine z_aload_n X (x := A 179) (show cdA 207 41 = some (.aload_n 0, 1, 0, 0, 0) from rfl) (List.Mem.tail _ (List.Mem.head _)) ?_
      refine z_callV X 179 (rm := rmN 201) (As := []) (st := []) (show cdA 207 42 = some (.invokevirtual 243, 3, 201, 0, 0) from rfl) rfl (by decide) rfl (by rw [E.1, E.2.1, E.2.2.1]; exact k_wordHere3 G Is16 JFDB_s16 (by omega)) ⟨by rw [E.2.2.2]; exact (show 8 + 1 ≤ (12 + (3 * (r + 1))) from oq_0f4637ff r), by rw [E.2.2.2]; exact (show 8 + (3 + 11) + 141 ≤ (500 + 45 * (3 * (r + 1))) from oq_78cdcaf8 r), by rw [E.2.2.2]; exact Nat.le_refl 0, by rw [E.2.2.2]; exact Nat.le_refl 0⟩ (Nat.le_of_ble_eq_true rfl) (fun vv s19 hq => ?_) (fun ee s19 hq => ?_)
      rotate_left
      · obtain ⟨Is19, Fs19, JFDB_s19, e20, hv, hrs19, hps19⟩ := hq; cases hv
      obtain ⟨Is19, Fs19, JFDB_s19, e20, hv, hrs19, hps19⟩ := hq
      cases hv
      have Gs19 := fm_ts Gs16 Fs19 (by decide) (by decide)
      have JFDB_s19 : FDB B N s19 := FDB_fm Fs19 (by decide) JFDB_s16
      have b21 : (0 : Int) ≤ iI s19 77 ∧ iI s19 77 ≤ 400 := Is19.1 77
      have ws19_75 : iI s19 75 = iI s16 75 := fm_i Fs19 (by decide)
      have ws19_79 : iI s19 79 = iI s16 79 := fm_i Fs19 (by decide)
      have ws19_78 : iI s19 78 = iI s16 78 := fm_i Fs19 (by decide)
      show WS k 45 [(1, .int (Int32.ofInt e17)), (0, .ref (A 179))] [.int (Int32.ofInt e20)] (Wd A dT s19) 0 0
      have hn2 : iI s19 77 = pz := by rw [hps19.1, hn1]; exact hskp
      have hwv : e20 = whV B N pz := by rw [hps19.2.1, hn2]
      refine z_store_n X (lv' := [(2, .int (Int32.ofInt e20)), (1, .int (Int32.ofInt e17)), (0, .ref (A 179))]) (show cdA 207 45 = some (.istore_n 2, 1, 0, 0, 0) from rfl) (by decide) (fun _ h => h) ?_
      refine z_load_n X (x := e17) (show cdA 207 46 = some (.iload_n 1, 1, 0, 0, 0) from rfl) (List.Mem.tail _ (List.Mem.head _)) ?_
      refine z_const X (show cdA 207 47 = some (.iconst (-1), 1, 0, 0, 0) from rfl) ?_
      refine z_icmp_eq X (t := 62) (show cdA 207 48 = some (.if_icmp .eq 14, 3, 0, 0, 0) from rfl) (by decide) hrs16 (by decide) (fun g22 => ?_) (fun g22 => ?_)
      ·
        refine z_load_n X (x := e20) (show cdA 207 62 = some (.iload_n 2, 1, 0, 0, 0) from rfl) (List.Mem.head _) ?_
        refine z_bipush X (show cdA 207 63 = some (.bipush 12, 2, 0, 0, 12) from rfl) ?_
        refine z_const X (show cdA 207 65 = some (.iconst 5, 1, 0, 0, 0) from rfl) ?_
        refine z_const X (show cdA 207 66 = some (.iconst 1, 1, 0, 0, 0) from rfl) ?_
        refine z_bipush X (show cdA 207 67 = some (.bipush 19, 2, 0, 0, 19) from rfl) ?_
        refine z_bipush X (show cdA 207 69 = some (.bipush 20, 2, 0, 0, 20) from rfl) ?_
        refine z_const X (show cdA 207 71 = some (.iconst 0, 1, 0, 0, 0) from rfl) ?_
        refine z_callS X (rm := rmN 202) (As := [.int (Int32.ofInt 12), .int (Int32.ofInt 5), .int (Int32.ofInt 1), .int (Int32.ofInt 19), .int (Int32.ofInt 20), .int (Int32.ofInt 0)]) (st := [.int (Int32.ofInt e20)]) (show cdA 207 72 = some (.invokestatic 247, 3, 202, 1, 0) from rfl) rfl (by rw [E.1, E.2.1, E.2.2.1]; exact k_word3 G Is19 (by first | exact ⟨by decide, by decide⟩ | omega) (by first | exact ⟨by decide, by decide⟩ | omega) (by first | exact ⟨by decide, by decide⟩ | omega) (by first | exact ⟨by decide, by decide⟩ | omega) (by first | exact ⟨by decide, by decide⟩ | omega) (by first | exact ⟨by decide, by decide⟩ | omega)) ⟨by rw [E.2.2.2]; exact (show 6 + 1 ≤ (12 + (3 * (r + 1))) from oq_0dc82175 r), by rw [E.2.2.2]; exact (show 8 + (7 + 11) + 100 ≤ (500 + 45 * (3 * (r + 1))) from oq_642991a6 r), by rw [E.2.2.2]; exact Nat.le_refl 0, by rw [E.2.2.2]; exact Nat.le_refl 0⟩ (Nat.le_of_ble_eq_true rfl) (fun vv s23 hq => ?_) (fun ee s23 hq => ?_)
        rotate_left
        · obtain ⟨rfl, e24, hv, hrs23, hps23⟩ := hq; cases hv
        obtain ⟨rfl, e24, hv, hrs23, hps23⟩ := hq
        cases hv
        show WS k 75 [(2, .int (Int32.ofInt e20)), (1, .int (Int32.ofInt e17)), (0, .ref (A 179))] [.int (Int32.ofInt e24), .int (Int32.ofInt e20)] (Wd A dT s19) 0 0
        have hk25 : e24 = 6476969 := by rw [hps23.2]; decide
        refine z_icmp_ne X (t := 82) (show cdA 207 75 = some (.if_icmp .ne 7, 3, 1, 0, 0) from rfl) (by decide) hrs19 hrs23 (fun g26 => ?_) (fun g26 => ?_)
        ·
          refine z_const X (show cdA 207 82 = some (.iconst 0, 1, 0, 0, 0) from rfl) ?_
          refine z_store_n X (lv' := [(3, .int (Int32.ofInt 0)), (2, .int (Int32.ofInt e20)), (1, .int (Int32.ofInt e17)), (0, .ref (A 179))]) (show cdA 207 83 = some (.istore_n 3, 1, 0, 0, 0) from rfl) (by decide) (fun _ h => h) ?_
          refine z_load_n X (x := e20) (show cdA 207 84 = some (.iload_n 2, 1, 0, 0, 0) from rfl) (List.Mem.tail _ (List.Mem.head _)) ?_
          refine z_bipush X (show cdA 207 85 = some (.bipush 13, 2, 0, 0, 13) from rfl) ?_
          refine z_bipush X (show cdA 207 87 = some (.bipush 15, 2, 0, 0, 15) from rfl) ?_
          refine z_bipush X (show cdA 207 89 = some (.bipush 19, 2, 0, 0, 19) from rfl) ?_
          refine z_bipush X (show cdA 207 91 = some (.bipush 20, 2, 0, 0, 20) from rfl) ?_
          refine z_const X (show cdA 207 93 = some (.iconst 0, 1, 0, 0, 0) from rfl) ?_
          refine z_const X (show cdA 207 94 = some (.iconst 0, 1, 0, 0, 0) from rfl) ?_
          refine z_callS X (rm := rmN 202) (As := [.int (Int32.ofInt 13), .int (Int32.ofInt 15), .int (Int32.ofInt 19), .int (Int32.ofInt 20), .int (Int32.ofInt 0), .int (Int32.ofInt 0)]) (st := [.int (Int32.ofInt e20)]) (show cdA 207 95 = some (.invokestatic 247, 3, 202, 1, 0) from rfl) rfl (by rw [E.1, E.2.1, E.2.2.1]; exact k_word3 G Is19 (by first | exact ⟨by decide, by decide⟩ | omega) (by first | exact ⟨by decide, by decide⟩ | omega) (by first | exact ⟨by decide, by decide⟩ | omega) (by first | exact ⟨by decide, by decide⟩ | omega) (by first | exact ⟨by decide, by decide⟩ | omega) (by first | exact ⟨by decide, by decide⟩ | omega)) ⟨by rw [E.2.2.2]; exact (show 6 + 1 ≤ (12 + (3 * (r + 1))) from oq_0dc82175 r), by rw [E.2.2.2]; exact (show 8 + (7 + 11) + 100 ≤ (500 + 45 * (3 * (r + 1))) from oq_642991a6 r), by rw [E.2.2.2]; exact Nat.le_refl 0, by rw [E.2.2.2]; exact Nat.le_refl 0⟩ (Nat.le_of_ble_eq_true rfl) (fun vv s27 hq => ?_) (fun ee s27 hq => ?_)
          rotate_left
          · obtain ⟨rfl, e28, hv, hrs27, hps27⟩ := hq; cases hv
          obtain ⟨rfl, e28, hv, hrs27, hps27⟩ := hq
          cases hv
          show WS k 98 [(3, .int (Int32.ofInt 0)), (2, .int (Int32.ofInt e20)), (1, .int (Int32.ofInt e17)), (0, .ref (A 179))] [.int (Int32.ofInt e28), .int (Int32.ofInt e20)] (Wd A dT s19) 0 0
          have hk29 : e28 = 267347 := by rw [hps27.2]; decide
          refine z_icmp_ne X (t := 105) (show cdA 207 98 = some (.if_icmp .ne 7, 3, 1, 0, 0) from rfl) (by decide) hrs19 hrs27 (fun g30 => ?_) (fun g30 => ?_)
          ·
            refine z_const X (show cdA 207 105 = some (.iconst 0, 1, 0, 0, 0) from rfl) ?_
            refine z_store X (lv' := [(4, .int (Int32.ofInt 0)), (3, .int (Int32.ofInt 0)), (2, .int (Int32.ofInt e20)), (1, .int (Int32.ofInt e17)), (0, .ref (A 179))]) (show cdA 207 106 = some (.istore 4, 2, 0, 0, 0) from rfl) (by decide) (fun _ h => h) ?_
            refine z_load_n X (x := 0) (show cdA 207 108 = some (.iload_n 3, 1, 0, 0, 0) from rfl) (List.Mem.tail _ (List.Mem.head _)) ?_
            refine z_if_ne X (t := 117) (show cdA 207 109 = some (.ifCond .ne 8, 3, 1, 0, 0) from rfl) (by decide) (by decide) (fun g31 => ?_) (fun g31 => ?_)
            ·
              exfalso
              omega
            ·
              refine z_load X (x := 0) (show cdA 207 112 = some (.iload 4, 2, 0, 0, 0) from rfl) (List.Mem.head _) ?_
              refine z_if_eq X (t := 121) (show cdA 207 114 = some (.ifCond .eq 7, 3, 0, 0, 0) from rfl) (by decide) (by decide) (fun g32 => ?_) (fun g32 => ?_)
              ·
                refine WS_lv (lv := [(0, .ref (A 179)), (3, .int (Int32.ofInt 0)), (4, .int (Int32.ofInt 0))]) (List.forall_mem_cons.mpr ⟨(List.Mem.tail _ (List.Mem.tail _ (List.Mem.tail _ (List.Mem.tail _ (List.Mem.head _))))), (List.forall_mem_cons.mpr ⟨(List.Mem.tail _ (List.Mem.head _)), (List.forall_mem_cons.mpr ⟨(List.Mem.head _), (fun q h => absurd h List.not_mem_nil)⟩)⟩)⟩) ?_
                exact L121 _ 0 0 Is19 Gs19 JFDB_s19 ⟨by rw [← hpz]; exact hnd, by rw [← hpz]; omega, Or.inl ⟨by omega, by omega, by rw [← hpz]; exact hn2, by rw [← hpz]; omega⟩⟩ (by first | exact ⟨g6, oq_264718cb ws19_79 ws16_79 ws7_79 g6, oq_878618b1 ws19_78 ws16_78 ws7_78, oq_522344b2 hps7.2.1 hn2 hb, by omega, Or.inl (by decide), Or.inl (by decide)⟩ | omega)
              ·
                exfalso
                omega
          ·
            refine z_const X (show cdA 207 101 = some (.iconst 1, 1, 0, 0, 0) from rfl) ?_
            refine z_goto X (t := 106) (show cdA 207 102 = some (.goto 4, 3, 0, 0, 0) from rfl) (by decide) ?_
            refine z_store X (lv' := [(4, .int (Int32.ofInt 1)), (3, .int (Int32.ofInt 0)), (2, .int (Int32.ofInt e20)), (1, .int (Int32.ofInt e17)), (0, .ref (A 179))]) (show cdA 207 106 = some (.istore 4, 2, 0, 0, 0) from rfl) (by decide) (fun _ h => h) ?_
            refine z_load_n X (x := 0) (show cdA 207 108 = some (.iload_n 3, 1, 0, 0, 0) from rfl) (List.Mem.tail _ (List.Mem.head _)) ?_
            refine z_if_ne X (t := 117) (show cdA 207 109 = some (.ifCond .ne 8, 3, 1, 0, 0) from rfl) (by decide) (by decide) (fun g33 => ?_) (fun g33 => ?_)
            ·
              exfalso
              omega
            ·
              refine z_load X (x := 1) (show cdA 207 112 = some (.iload 4, 2, 0, 0, 0) from rfl) (List.Mem.head _) ?_
              refine z_if_eq X (t := 121) (show cdA 207 114 = some (.ifCond .eq 7, 3, 0, 0, 0) from rfl) (by decide) (by decide) (fun g34 => ?_) (fun g34 => ?_)
              ·
                exfalso
                omega
              ·
                refine z_aload_n X (x := A 179) (show cdA 207 117 = some (.aload_n 0, 1, 0, 0, 0) from rfl) (List.Mem.tail _ (List.Mem.tail _ (List.Mem.tail _ (List.Mem.tail _ (List.Mem.head _))))) ?_
                refine z_callV X 179 (rm := rmN 203) (As := []) (st := []) (show cdA 207 118 = some (.invokevirtual 254, 3, 203, 0, 0) from rfl) rfl (by decide) rfl (by rw [E.1, E.2.1, E.2.2.1]; exact k_skipWord3 G Is19 JFDB_s19 (by omega)) ⟨by rw [E.2.2.2]; exact (show 7 + 1 ≤ (12 + (3 * (r + 1))) from oq_d528a8f9 r), by rw [E.2.2.2]; exact (show 8 + (1 + 11) + 121 ≤ (500 + 45 * (3 * (r + 1))) from oq_218e8e31 r), by rw [E.2.2.2]; exact Nat.le_refl 0, by rw [E.2.2.2]; exact Nat.le_refl 0⟩ (Nat.le_of_ble_eq_true rfl) (fun vv s35 hq => ?_) (fun ee s35 hq => ?_)
                rotate_left
                · obtain ⟨Is35, Fs35, JFDB_s35, hv, hps35⟩ := hq; cases hv
                obtain ⟨Is35, Fs35, JFDB_s35, hv, hps35⟩ := hq
                cases hv
                have Gs35 := fm_ts Gs19 Fs35 (by decide) (by decide)
                have JFDB_s35 : FDB B N s35 := FDB_fm Fs35 (by decide) JFDB_s19
                have b37 : (0 : Int) ≤ iI s35 77 ∧ iI s35 77 ≤ 400 := Is35.1 77
                have ws35_75 : iI s35 75 = iI s19 75 := fm_i Fs35 (by decide)
                have ws35_79 : iI s35 79 = iI s19 79 := fm_i Fs35 (by decide)
                have ws35_78 : iI s35 78 = iI s19 78 := fm_i Fs35 (by decide)
                show WS k 121 [(4, .int (Int32.ofInt 1)), (3, .int (Int32.ofInt 0)), (2, .int (Int32.ofInt e20)), (1, .int (Int32.ofInt e17)), (0, .ref (A 179))] [] (Wd A dT s35) 0 0
                refine WS_lv (lv := [(0, .ref (A 179)), (3, .int (Int32.ofInt 0)), (4, .int (Int32.ofInt 1))]) (List.forall_mem_cons.mpr ⟨(List.Mem.tail _ (List.Mem.tail _ (List.Mem.tail _ (List.Mem.tail _ (List.Mem.head _))))), (List.forall_mem_cons.mpr ⟨(List.Mem.tail _ (List.Mem.head _)), (List.forall_mem_cons.mpr ⟨(List.Mem.head _), (fun q h => absurd h List.not_mem_nil)⟩)⟩)⟩) ?_
                exact L121 _ 0 1 Is35 Gs35 JFDB_s35 ⟨by rw [← hpz]; exact hnd, by rw [← hpz]; omega, Or.inr ⟨by rw [← hpz]; omega, by rw [← hpz, hps35.1, hn2]⟩⟩ (by first | exact ⟨g6, oq_ff4f6170 ws35_79 ws19_79 ws16_79 ws7_79 g6, oq_ac0e91e1 ws35_78 ws19_78 ws16_78 ws7_78, oq_c70f5ad6 hps35.2.1 hps7.2.1 hn2 hb, by omega, Or.inl (by decide), Or.inr (by decide)⟩ | omega)
        ·
          refine z_const X (show cdA 207 78 = some (.iconst 1, 1, 0, 0, 0) from rfl) ?_
          refine z_goto X (t := 83) (show cdA 207 79 = some (.goto 4, 3, 0, 0, 0) from rfl) (by decide) ?_
          refine z_store_n X (lv' := [(3, .int (Int32.ofInt 1)), (2, .int (Int32.ofInt e20)), (1, .int (Int32.ofInt e17)), (0, .ref (A 179))]) (show cdA 207 83 = some (.istore_n 3, 1, 0, 0, 0) from rfl) (by decide) (fun _ h => h) ?_
          refine z_load_n X (x := e20) (show cdA 207 84 = some (.iload_n 2, 1, 0, 0, 0) from rfl) (List.Mem.tail _ (List.Mem.head _)) ?_
          refine z_bipush X (show cdA 207 85 = some (.bipush 13, 2, 0, 0, 13) from rfl) ?_
          refine z_bipush X (show cdA 207 87 = some (.bipush 15, 2, 0, 0, 15) from rfl) ?_
          refine z_bipush X (show cdA 207 89 = some (.bipush 19, 2, 0, 0, 19) from rfl) ?_
          refine z_bipush X (show cdA 207 91 = some (.bipush 20, 2, 0, 0, 20) from rfl) ?_
          refine z_const X (show cdA 207 93 = some (.iconst 0, 1, 0, 0, 0) from rfl) ?_
          refine z_const X (show cdA 207 94 = some (.iconst 0, 1, 0, 0, 0) from rfl) ?_
          refine z_callS X (rm := rmN 202) (As := [.int (Int32.ofInt 13), .int (Int32.ofInt 15), .int (Int32.ofInt 19), .int (Int32.ofInt 20), .int (Int32.ofInt 0), .int (Int32.ofInt 0)]) (st := [.int (Int32.ofInt e20)]) (show cdA 207 95 = some (.invokestatic 247, 3, 202, 1, 0) from rfl) rfl (by rw [E.1, E.2.1, E.2.2.1]; exact k_word3 G Is19 (by first | exact ⟨by decide, by decide⟩ | omega) (by first | exact ⟨by decide, by decide⟩ | omega) (by first | exact ⟨by decide, by decide⟩ | omega) (by first | exact ⟨by decide, by decide⟩ | omega) (by first | exact ⟨by decide, by decide⟩ | omega) (by first | exact ⟨by decide, by decide⟩ | omega)) ⟨by rw [E.2.2.2]; exact (show 6 + 1 ≤ (12 + (3 * (r + 1))) from oq_0dc82175 r), by rw [E.2.2.2]; exact (show 8 + (7 + 11) + 100 ≤ (500 + 45 * (3 * (r + 1))) from oq_642991a6 r), by rw [E.2.2.2]; exact Nat.le_refl 0, by rw [E.2.2.2]; exact Nat.le_refl 0⟩ (Nat.le_of_ble_eq_true rfl) (fun vv s38 hq => ?_) (fun ee s38 hq => ?_)
          rotate_left
          · obtain ⟨rfl, e39, hv, hrs38, hps38⟩ := hq; cases hv
          obtain ⟨rfl, e39, hv, hrs38, hps38⟩ := hq
          cases hv
          show WS k 98 [(3, .int (Int32.ofInt 1)), (2, .int (Int32.ofInt e20)), (1, .int (Int32.ofInt e17)), (0, .ref (A 179))] [.int (Int32.ofInt e39), .int (Int32.ofInt e20)] (Wd A dT s19) 0 0
          have hk40 : e39 = 267347 := by rw [hps38.2]; decide
          refine z_icmp_ne X (t := 105) (show cdA 207 98 = some (.if_icmp .ne 7, 3, 1, 0, 0) from rfl) (by decide) hrs19 hrs38 (fun g41 => ?_) (fun g41 => ?_)
          ·
            refine z_const X (show cdA 207 105 = some (.iconst 0, 1, 0, 0, 0) from rfl) ?_
            refine z_store X (lv' := [(4, .int (Int32.ofInt 0)), (3, .int (Int32.ofInt 1)), (2, .int (Int32.ofInt e20)), (1, .int (Int32.ofInt e17)), (0, .ref (A 179))]) (show cdA 207 106 = some (.istore 4, 2, 0, 0, 0) from rfl) (by decide) (fun _ h => h) ?_
            refine z_load_n X (x := 1) (show cdA 207 108 = some (.iload_n 3, 1, 0, 0, 0) from rfl) (List.Mem.tail _ (List.Mem.head _)) ?_
            refine z_if_ne X (t := 117) (show cdA 207 109 = some (.ifCond .ne 8, 3, 1, 0, 0) from rfl) (by decide) (by decide) (fun g42 => ?_) (fun g42 => ?_)
            ·
              refine z_aload_n X (x := A 179) (show cdA 207 117 = some (.aload_n 0, 1, 0, 0, 0) from rfl) (List.Mem.tail _ (List.Mem.tail _ (List.Mem.tail _ (List.Mem.tail _ (List.Mem.head _))))) ?_
              refine z_callV X 179 (rm := rmN 203) (As := []) (st := []) (show cdA 207 118 = some (.invokevirtual 254, 3, 203, 0, 0) from rfl) rfl (by decide) rfl (by rw [E.1, E.2.1, E.2.2.1]; exact k_skipWord3 G Is19 JFDB_s19 (by omega)) ⟨by rw [E.2.2.2]; exact (show 7 + 1 ≤ (12 + (3 * (r + 1))) from oq_d528a8f9 r), by rw [E.2.2.2]; exact (show 8 + (1 + 11) + 121 ≤ (500 + 45 * (3 * (r + 1))) from oq_218e8e31 r), by rw [E.2.2.2]; exact Nat.le_refl 0, by rw [E.2.2.2]; exact Nat.le_refl 0⟩ (Nat.le_of_ble_eq_true rfl) (fun vv s43 hq => ?_) (fun ee s43 hq => ?_)
              rotate_left
              · obtain ⟨Is43, Fs43, JFDB_s43, hv, hps43⟩ := hq; cases hv
              obtain ⟨Is43, Fs43, JFDB_s43, hv, hps43⟩ := hq
              cases hv
              have Gs43 := fm_ts Gs19 Fs43 (by decide) (by decide)
              have JFDB_s43 : FDB B N s43 := FDB_fm Fs43 (by decide) JFDB_s19
              have b45 : (0 : Int) ≤ iI s43 77 ∧ iI s43 77 ≤ 400 := Is43.1 77
              have ws43_75 : iI s43 75 = iI s19 75 := fm_i Fs43 (by decide)
              have ws43_79 : iI s43 79 = iI s19 79 := fm_i Fs43 (by decide)
              have ws43_78 : iI s43 78 = iI s19 78 := fm_i Fs43 (by decide)
              show WS k 121 [(4, .int (Int32.ofInt 0)), (3, .int (Int32.ofInt 1)), (2, .int (Int32.ofInt e20)), (1, .int (Int32.ofInt e17)), (0, .ref (A 179))] [] (Wd A dT s43) 0 0
              refine WS_lv (lv := [(0, .ref (A 179)), (3, .int (Int32.ofInt 1)), (4, .int (Int32.ofInt 0))]) (List.forall_mem_cons.mpr ⟨(List.Mem.tail _ (List.Mem.tail _ (List.Mem.tail _ (List.Mem.tail _ (List.Mem.head _))))), (List.forall_mem_cons.mpr ⟨(List.Mem.tail _ (List.Mem.head _)), (List.forall_mem_cons.mpr ⟨(List.Mem.head _), (fun q h => absurd h List.not_mem_nil)⟩)⟩)⟩) ?_
              exact L121 _ 1 0 Is43 Gs43 JFDB_s43 ⟨by rw [← hpz]; exact hnd, by rw [← hpz]; omega, Or.inr ⟨by rw [← hpz]; omega, by rw [← hpz, hps43.1, hn2]⟩⟩ (by first | exact ⟨g6, oq_ff4f6170 ws43_79 ws19_79 ws16_79 ws7_79 g6, oq_ac0e91e1 ws43_78 ws19_78 ws16_78 ws7_78, oq_c70f5ad6 hps43.2.1 hps7.2.1 hn2 hb, by omega, Or.inr (by decide), Or.inl (by decide)⟩ | omega)
            ·
              exfalso
              omega
          ·
            refine z_const X (show cdA 207 101 = some (.iconst 1, 1, 0, 0, 0) from rfl) ?_
            refine z_goto X (t := 106) (show cdA 207 102 = some (.goto 4, 3, 0, 0, 0) from rfl) (by decide) ?_
            refine z_store X (lv' := [(4, .int (Int32.ofInt 1)), (3, .int (Int32.ofInt 1)), (2, .int (Int32.ofInt e20)), (1, .int (Int32.ofInt e17)), (0, .ref (A 179))]) (show cdA 207 106 = some (.istore 4, 2, 0, 0, 0) from rfl) (by decide) (fun _ h => h) ?_
            refine z_load_n X (x := 1) (show cdA 207 108 = some (.iload_n 3, 1, 0, 0, 0) from rfl) (List.Mem.tail _ (List.Mem.head _)) ?_
            refine z_if_ne X (t := 117) (show cdA 207 109 = some (.ifCond .ne 8, 3, 1, 0, 0) from rfl) (by decide) (by decide) (fun g46 => ?_) (fun g46 => ?_)
            ·
              refine z_aload_n X (x := A 179) (show cdA 207 117 = some (.aload_n 0, 1, 0, 0, 0) from rfl) (List.Mem.tail _ (List.Mem.tail _ (List.Mem.tail _ (List.Mem.tail _ (List.Mem.head _))))) ?_
              refine z_callV X 179 (rm := rmN 203) (As := []) (st := []) (show cdA 207 118 = some (.invokevirtual 254, 3, 203, 0, 0) from rfl) rfl (by decide) rfl (by rw [E.1, E.2.1, E.2.2.1]; exact k_skipWord3 G Is19 JFDB_s19 (by first | exact oq_0131cced g41 hk40 g26 hk25 | omega)) ⟨by rw [E.2.2.2]; exact (show 7 + 1 ≤ (12 + (3 * (r + 1))) from oq_d528a8f9 r), by rw [E.2.2.2]; exact (show 8 + (1 + 11) + 121 ≤ (500 + 45 * (3 * (r + 1))) from oq_218e8e31 r), by rw [E.2.2.2]; exact Nat.le_refl 0, by rw [E.2.2.2]; exact Nat.le_refl 0⟩ (Nat.le_of_ble_eq_true rfl) (fun vv s47 hq => ?_) (fun ee s47 hq => ?_)
              rotate_left
              · obtain ⟨Is47, Fs47, JFDB_s47, hv, hps47⟩ := hq; cases hv
              obtain ⟨Is47, Fs47, JFDB_s47, hv, hps47⟩ := hq
              cases hv
              have Gs47 := fm_ts Gs19 Fs47 (by decide) (by decide)
              have JFDB_s47 : FDB B N s47 := FDB_fm Fs47 (by decide) JFDB_s19
              have b49 : (0 : Int) ≤ iI s47 77 ∧ iI s47 77 ≤ 400 := Is47.1 77
              have ws47_75 : iI s47 75 = iI s19 75 := fm_i Fs47 (by decide)
              have ws47_79 : iI s47 79 = iI s19 79 := fm_i Fs47 (by decide)
              have ws47_78 : iI s47 78 = iI s19 78 := fm_i Fs47 (by decide)
              show WS k 121 [(4, .int (Int32.ofInt 1)), (3, .int (Int32.ofInt 1)), (2, .int (Int32.ofInt e20)), (1, .int (Int32.ofInt e17)), (0, .ref (A 179))] [] (Wd A dT s47) 0 0
              refine WS_lv (lv := [(0, .ref (A 179)), (3, .int (Int32.ofInt 1)), (4, .int (Int32.ofInt 1))]) (List.forall_mem_cons.mpr ⟨(List.Mem.tail _ (List.Mem.tail _ (List.Mem.tail _ (List.Mem.tail _ (List.Mem.head _))))), (List.forall_mem_cons.mpr ⟨(List.Mem.tail _ (List.Mem.head _)), (List.forall_mem_cons.mpr ⟨(List.Mem.head _), (fun q h => absurd h List.not_mem_nil)⟩)⟩)⟩) ?_
              exact L121 _ 1 1 Is47 Gs47 JFDB_s47 ⟨by rw [← hpz]; exact hnd, by rw [← hpz]; omega, Or.inr ⟨by rw [← hpz]; omega, by rw [← hpz, hps47.1, hn2]⟩⟩ (by first | exact ⟨g6, oq_ff4f6170 ws47_79 ws19_79 ws16_79 ws7_79 g6, oq_ac0e91e1 ws47_78 ws19_78 ws16_78 ws7_78, oq_c70f5ad6 hps47.2.1 hps7.2.1 hn2 hb, oq_6ff96c75 g41 hk40 g26 hk25, Or.inr (by decide), Or.inr (by decide)⟩ | omega)
            ·
              exfalso
              omega
      ·
        refine z_aload_n X (x := A 179) (show cdA 207 51 = some (.aload_n 0, 1, 0, 0, 0) from rfl) (List.Mem.tail _ (List.Mem.tail _ (List.Mem.head _))) ?_
        refine z_callV X 179 (rm := rmN 203) (As := []) (st := []) (show cdA 207 52 = some (.invokevirtual 254, 3, 203, 0, 0) from rfl) rfl (by decide) rfl (by rw [E.1, E.2.1, E.2.2.1]; exact k_skipWord3 G Is19 JFDB_s19 (by omega)) ⟨by rw [E.2.2.2]; exact (show 7 + 1 ≤ (12 + (3 * (r + 1))) from oq_d528a8f9 r), by rw [E.2.2.2]; exact (show 8 + (1 + 11) + 121 ≤ (500 + 45 * (3 * (r + 1))) from oq_218e8e31 r), by rw [E.2.2.2]; exact Nat.le_refl 0, by rw [E.2.2.2]; exact Nat.le_refl 0⟩ (Nat.le_of_ble_eq_true rfl) (fun vv s50 hq => ?_) (fun ee s50 hq => ?_)
        rotate_left
        · obtain ⟨Is50, Fs50, JFDB_s50, hv, hps50⟩ := hq; cases hv
        obtain ⟨Is50, Fs50, JFDB_s50, hv, hps50⟩ := hq
        cases hv
        have Gs50 := fm_ts Gs19 Fs50 (by decide) (by decide)
        have JFDB_s50 : FDB B N s50 := FDB_fm Fs50 (by decide) JFDB_s19
        have b52 : (0 : Int) ≤ iI s50 77 ∧ iI s50 77 ≤ 400 := Is50.1 77
        have ws50_75 : iI s50 75 = iI s19 75 := fm_i Fs50 (by decide)
        have ws50_79 : iI s50 79 = iI s19 79 := fm_i Fs50 (by decide)
        have ws50_78 : iI s50 78 = iI s19 78 := fm_i Fs50 (by decide)
        show WS k 55 [(2, .int (Int32.ofInt e20)), (1, .int (Int32.ofInt e17)), (0, .ref (A 179))] [] (Wd A dT s50) 0 0
        have hsw : iI s50 77 = wdE B N pz := by rw [hps50.1, hn2]
        have hwl := (wh_let (nm_wh (show nmC B N pz ≠ 0 by omega)).1).1
        refine z_aload_n X (x := A 179) (show cdA 207 55 = some (.aload_n 0, 1, 0, 0, 0) from rfl) (List.Mem.tail _ (List.Mem.tail _ (List.Mem.head _))) ?_
        refine s_getR X 179 (show cdA 207 56 = some (.getfield 32, 3, 12, 21, 0) from rfl) (by decide) rfl rfl ?_
        refine z_load_n X (x := e17) (show cdA 207 59 = some (.iload_n 1, 1, 0, 0, 0) from rfl) (List.Mem.tail _ (List.Mem.head _)) ?_
        refine z_ald X 184 (show cdA 207 60 = some (.iaload, 1, 0, 0, 0) from rfl) (by decide) rfl (by first | exact oq_80c2fca8 g22 hps16.2.1 | omega) (show e17 < 7 by first | exact oq_85c01340 hps16.2.1 | omega) (by decide) ?_
        have b53 : ((-2147483648) : Int) ≤ iC s50 161 (e17).toNat ∧ iC s50 161 (e17).toNat ≤ 2147483647 := Is50.2 161 _ (show (e17).toNat < 7 by first | exact oq_ce47e515 hps16.2.1 | omega)
        exact w_iret X.1 q hRt rfl (ax_d X (show cdA 207 61 = some (.ireturn, 1, 0, 0, 0) from rfl)) (Nat.zero_le _) (Nat.zero_le _) ⟨_, rfl, Is50, Gs50, JFDB_s50, (iC s50 161 (e17).toNat), rfl, (rng_to _), ⟨by first | exact oq_ac0e91e1 ws50_78 ws19_78 ws16_78 ws7_78 | omega, by first | exact oq_68db3181 hps7.2.1 hps50.2.1 hn2 hb | omega, by omega, by first | exact oq_e013ad0f g6 | omega, by omega, Or.inr ⟨by omega, by rw [← hpz]; exact ou_namv (by omega) hsw (by omega) (by rw [show nmC B N pz = -1 - e17 by omega]; have z := vl_nam (nm := NMr s) (c := -1 - e17) (by omega) (by omega); rw [show (-1 - (-1 - e17)).toNat = (e17 : Int).toNat by omega] at z; rw [show Int32.ofInt (iC s50 161 (e17).toNat) = NMr s (e17 : Int).toNat from congrArg Int32.ofInt (fm_c Gs50 (by decide))]; exact z)⟩⟩⟩
    ·
      have hDg : dgP B N pz := ⟨by omega, by omega, by omega⟩
      refine z_aload_n X (x := A 179) (show cdA 207 27 = some (.aload_n 0, 1, 0, 0, 0) from rfl) (List.Mem.head _) ?_
      refine z_const X (show cdA 207 28 = some (.iconst 0, 1, 0, 0, 0) from rfl) ?_
      refine z_sipush X (show cdA 207 29 = some (.sipush 999, 3, 0, 0, 999) from rfl) ?_
      refine z_callV X 179 (rm := rmN 196) (As := [.int (Int32.ofInt 0), .int (Int32.ofInt 999)]) (st := []) (show cdA 207 32 = some (.invokevirtual 219, 3, 196, 0, 0) from rfl) rfl (by decide) rfl (by rw [E.1, E.2.1, E.2.2.1]; exact k_number3 G (by rw [hb, hskp]; exact hDg) Is7 JFDB_s7 (by first | exact ⟨by decide, by decide⟩ | omega) (by first | exact ⟨by decide, by decide⟩ | omega) (by omega) (by first | exact oq_e5e5d3d6 ws7_79 g6 | omega)) ⟨by rw [E.2.2.2]; exact (show 8 + 1 ≤ (12 + (3 * (r + 1))) from oq_0f4637ff r), by rw [E.2.2.2]; exact (show 8 + (5 + 11) + 141 ≤ (500 + 45 * (3 * (r + 1))) from oq_aa449917 r), by rw [E.2.2.2]; exact Nat.le_refl 0, by rw [E.2.2.2]; exact Nat.le_refl 0⟩ (Nat.le_of_ble_eq_true rfl) (fun vv s54 hq => ?_) (fun ee s54 hq => ?_)
      rotate_left
      · obtain ⟨Is54, Fs54, JFDB_s54, e55, hv, hrs54, hps54⟩ := hq; cases hv
      obtain ⟨Is54, Fs54, JFDB_s54, e55, hv, hrs54, hps54⟩ := hq
      cases hv
      have Gs54 := fm_ts Gs7 Fs54 (by decide) (by decide)
      have JFDB_s54 : FDB B N s54 := FDB_fm Fs54 (by decide) JFDB_s7
      have b56 : (0 : Int) ≤ iI s54 77 ∧ iI s54 77 ≤ 400 := Is54.1 77
      have ws54_75 : iI s54 75 = iI s7 75 := fm_i Fs54 (by decide)
      have b57 : (0 : Int) ≤ iI s54 79 ∧ iI s54 79 ≤ 9 := Is54.1 79
      have ws54_78 : iI s54 78 = iI s7 78 := fm_i Fs54 (by decide)
      show WS k 35 [(0, .ref (A 179))] [.int (Int32.ofInt e55)] (Wd A dT s54) 0 0
      have hz := hps54
      rw [hb, hskp] at hz
      exact w_iret X.1 q hRt rfl (ax_d X (show cdA 207 35 = some (.ireturn, 1, 0, 0, 0) from rfl)) (Nat.zero_le _) (Nat.zero_le _) ⟨_, rfl, Is54, Gs54, JFDB_s54, e55, rfl, hrs54, ⟨by first | exact oq_1aa5be9e ws54_78 ws7_78 | omega, by first | exact oq_f8a2cf0e hps54.2.2.2.1 hps7.2.1 | omega, by omega, by first | exact oq_e013ad0f g6 | omega, by omega, Or.inr ⟨by omega, by rw [← hpz]; exact ou_numv hDg hz.1 hz.2.1 hz.2.2.1 (fun h _ => vl_num h)⟩⟩⟩
  ·
    refine z_const X (show cdA 207 7 = some (.iconst 0, 1, 0, 0, 0) from rfl) ?_
    exact w_iret X.1 q hRt rfl (ax_d X (show cdA 207 8 = some (.ireturn, 1, 0, 0, 0) from rfl)) (Nat.zero_le _) (Nat.zero_le _) ⟨_, rfl, I, F, jFDB, 0, rfl, (by decide), ⟨by omega, by omega, by first | exact Or.inl (by decide) | omega, by first | exact oq_4bed1c3e g6 b5.1 | omega, by first | exact oq_6a3c9b31 g6 b5.1 | omega, Or.inl ⟨by omega, by omega⟩⟩⟩
set_option maxRecDepth 4000 in
theorem k_productS5 (G : GX l s0 D tys a0 dT) {B : Nat → Int} {N : Int} {r : Nat} (hU : ∀ {s : PS}, Bd s → FDB B N s → (iI s 77 ≤ 203) → (iI s 78 + ((r : Nat) : Int) = 7) → (iI s 78 = 7 → iI s 79 ≠ 0) → CT l s0 D A dT 207 (rkR (3 * (r))) [.ref (A 179)] s (fun o t => Bd t ∧ Fm [77, 79, 80, 78] [] s t ∧ FDB B N t ∧ ∃ e, o = .inl (some (.int (Int32.ofInt e))) ∧ rng e ∧ (iI t 78 = iI s 78 ∧ iI s 77 ≤ iI t 77 ∧ (iI t 77 = iI s 77 ∨ iI t 77 ≤ 202) ∧ (iI s 79 ≠ 0 → iI t 79 ≠ 0) ∧ (iI t 79 = 0 → iI t 77 ≤ iI s 75) ∧ PFv (VLm (NMr s) (Int32.ofInt e)) B N 0 s t))) (I : Bd s) (jFDB : FDB B N s) (p0 : iI s 77 ≤ 203) (p1 : iI s 78 + ((r : Nat) : Int) = 7) (p2 : iI s 78 = 7 → iI s 79 ≠ 0) : CT l s0 D A dT 208 (rkR (3 * (r) + 1)) [.ref (A 179)] s (fun o t => Bd t ∧ Fm [77, 79, 80, 78] [] s t ∧ FDB B N t ∧ ∃ e, o = .inl (some (.int (Int32.ofInt e))) ∧ rng e ∧ (iI t 78 = iI s 78 ∧ iI s 77 ≤ iI t 77 ∧ (iI t 77 = iI s 77 ∨ iI t 77 ≤ 202) ∧ (iI s 79 ≠ 0 → iI t 79 ≠ 0) ∧ (iI t 79 = 0 → iI t 77 ≤ iI s 75) ∧ PFv (VLm (NMr s) (Int32.ofInt e)) B N 1 s t)) := by
  refine ct_of G (by decide) (Nat.le_of_ble_eq_true rfl) (fun k X E hRt hXt q => ?_)
  show WS k 0 [(0, .ref (A 179))] [] _ 0 0
  have F : Fm [77, 79, 80, 78] [] s s := fm_rf _ _ s
  have hN := jFDB.2.1
  have hW := jFDB.2.2
  have b1 : (0 : Int) ≤ iI s 77 ∧ iI s 77 ≤ 400 := I.1 77
  have b2 : (0 : Int) ≤ iI s 75 ∧ iI s 75 ≤ 200 := I.1 75
  have b3 : (0 : Int) ≤ iI s 79 ∧ iI s 79 ≤ 9 := I.1 79
  have b4 : (0 : Int) ≤ iI s 78 ∧ iI s 78 ≤ 8 := I.1 78
  have L9 : ∀ (n : Nat) (t : PS) (v : Int), Bd t → Fm [77, 79, 80, 78] [] s t → FDB B N t → (sk B N (iI t 77) = iI t 77 ∧ PRv (VLm (NMr s) (Int32.ofInt v)) B N 2 1 s t) → (iI t 78 = iI s 78 ∧ iI s 77 ≤ iI t 77 ∧ (iI t 77 = iI s 77 ∨ iI t 77 ≤ 202) ∧ (iI s 79 ≠ 0 → iI t 79 ≠ 0) ∧ (iI t 79 = 0 → iI t 77 ≤ iI s 75) ∧ iI t 75 = iI s 75 ∧ rng v) → (iI t 75 - iI t 77 : Int).toNat < n → (∀ (t' : PS) (v' : Int), Bd t' → Fm [77, 79, 80, 78] [] s t' → FDB B N t' → (PFv (VLm (NMr s) (Int32.ofInt v')) B N 1 s t') → (iI t' 78 = iI s 78 ∧ iI s 77 ≤ iI t' 77 ∧ (iI t' 77 = iI s 77 ∨ iI t' 77 ≤ 202) ∧ (iI s 79 ≠ 0 → iI t' 79 ≠ 0) ∧ (iI t' 79 = 0 → iI t' 77 ≤ iI s 75) ∧ iI t' 75 = iI s 75 ∧ rng v') → WS k 97 [(0, .ref (A 179)), (1, .int (Int32.ofInt v'))] [] (Wd A dT t') 0 0) → WS k 9 [(0, .ref (A 179)), (1, .int (Int32.ofInt v))] [] (Wd A dT t) 0 0 := by
    intro n
    induction n with
    | zero =>
      intro t v I F jjFDB hq hi hm kx
      exact absurd hm (Nat.not_lt_zero _)
    | succ n ih =>
      intro t v I F jjFDB hq hi hm kx
      have b1001 : (0 : Int) ≤ iI t 77 ∧ iI t 77 ≤ 400 := I.1 77
      have b1002 : (0 : Int) ≤ iI t 75 ∧ iI t 75 ≤ 200 := I.1 75
      have b1003 : (0 : Int) ≤ iI t 79 ∧ iI t 79 ≤ 9 := I.1 79
      have b1004 : (0 : Int) ≤ iI t 78 ∧ iI t 78 ≤ 8 := I.1 78
      have hN := jjFDB.2.1
      have hW := jjFDB.2.2
      refine z_aload_n X (x := A 179) (show cdA 208 9 = some (.aload_n 0, 1, 0, 0, 0) from rfl) (List.Mem.head _) ?_
      refine z_getI X 179 (show cdA 208 10 = some (.getfield 191, 3, 12, 6, 0) from rfl) (by decide) rfl rfl ?_
      have b1005 : (0 : Int) ≤ iI t 79 ∧ iI t 79 ≤ 9 := I.1 79
      refine z_if_ne X (t := 97) (show cdA 208 13 = some (.ifCond .ne 84, 3, 1, 0, 0) from rfl) (by decide) (rng_to _) (fun g1006 => ?_) (fun g1006 => ?_)
      ·
        refine WS_lv (lv := [(0, .ref (A 179)), (1, .int (Int32.ofInt v))]) (List.forall_mem_cons.mpr ⟨(List.Mem.head _), (List.forall_mem_cons.mpr ⟨(List.Mem.tail _ (List.Mem.head _)), (fun q h => absurd h List.not_mem_nil)⟩)⟩) ?_
        exact kx _ v I F jjFDB (by first | exact prm_fav (prm_mvv hq.2 (by rw [show iI t 77 = iI t 77 by omega]) (by omega)) (by omega) | exact prmp_endv (prm_mvv hq.2 (by rw [show iI t 77 = iI t 77 by omega]) (by omega)) (by omega) (by rw [show iI t 77 = iI t 77 by omega, hq.1]; omega)) (by first | exact ⟨hi.1, hi.2.1, hi.2.2.1, hi.2.2.2.1, hi.2.2.2.2.1, hi.2.2.2.2.2.1, hi.2.2.2.2.2.2.1, hi.2.2.2.2.2.2.2⟩ | omega)
      ·
        refine z_aload_n X (x := A 179) (show cdA 208 16 = some (.aload_n 0, 1, 0, 0, 0) from rfl) (List.Mem.head _) ?_
        refine z_aload_n X (x := A 179) (show cdA 208 17 = some (.aload_n 0, 1, 0, 0, 0) from rfl) (List.Mem.head _) ?_
        refine z_getI X 179 (show cdA 208 18 = some (.getfield 184, 3, 12, 4, 0) from rfl) (by decide) rfl rfl ?_
        have b1007 : (0 : Int) ≤ iI t 77 ∧ iI t 77 ≤ 400 := I.1 77
        refine z_callV X 179 (rm := rmN 192) (As := [.int (Int32.ofInt (iI t 77))]) (st := []) (show cdA 208 21 = some (.invokevirtual 187, 3, 192, 0, 0) from rfl) rfl (by decide) rfl (by rw [E.1, E.2.1, E.2.2.1]; exact k_byteAt2 G I jjFDB (by first | exact ⟨b1007.1, oq_5a8480eb b1007.2⟩ | omega)) ⟨by rw [E.2.2.2]; exact (show 6 + 1 ≤ (12 + (3 * (r) + 1)) from oq_c5ba317c r), by rw [E.2.2.2]; exact (show 8 + (2 + 11) + 100 ≤ (500 + 45 * (3 * (r) + 1)) from oq_93533a98 r), by rw [E.2.2.2]; exact Nat.le_refl 0, by rw [E.2.2.2]; exact Nat.le_refl 0⟩ (Nat.le_of_ble_eq_true rfl) (fun vv s1008 hq => ?_) (fun ee s1008 hq => ?_)
        rotate_left
        · obtain ⟨rfl, e1009, hv, hrs1008, hps1008⟩ := hq; cases hv
        obtain ⟨rfl, e1009, hv, hrs1008, hps1008⟩ := hq
        cases hv
        show WS k 24 [(0, .ref (A 179)), (1, .int (Int32.ofInt v))] [.int (Int32.ofInt e1009)] (Wd A dT t) 0 0
        refine z_bipush X (show cdA 208 24 = some (.bipush 42, 2, 0, 0, 42) from rfl) ?_
        refine z_icmp_eq X (t := 42) (show cdA 208 26 = some (.if_icmp .eq 16, 3, 0, 0, 0) from rfl) (by decide) hrs1008 (by decide) (fun g1010 => ?_) (fun g1010 => ?_)
        ·
          have hcd : chT B N (sk B N (iI t 77)) 42 ∨ chT B N (sk B N (iI t 77)) 47 := by rw [hq.1]; first | exact Or.inl ⟨by omega, by omega⟩ | exact Or.inr ⟨by omega, by omega⟩
          refine z_aload_n X (x := A 179) (show cdA 208 42 = some (.aload_n 0, 1, 0, 0, 0) from rfl) (List.Mem.head _) ?_
          refine z_aload_n X (x := A 179) (show cdA 208 43 = some (.aload_n 0, 1, 0, 0, 0) from rfl) (List.Mem.head _) ?_
          refine z_getI X 179 (show cdA 208 44 = some (.getfield 184, 3, 12, 4, 0) from rfl) (by decide) rfl rfl ?_
          have b1011 : (0 : Int) ≤ iI t 77 ∧ iI t 77 ≤ 400 := I.1 77
          refine z_callV X 179 (rm := rmN 192) (As := [.int (Int32.ofInt (iI t 77))]) (st := []) (show cdA 208 47 = some (.invokevirtual 187, 3, 192, 0, 0) from rfl) rfl (by decide) rfl (by rw [E.1, E.2.1, E.2.2.1]; exact k_byteAt2 G I jjFDB (by first | exact ⟨b1011.1, oq_5a8480eb b1011.2⟩ | omega)) ⟨by rw [E.2.2.2]; exact (show 6 + 1 ≤ (12 + (3 * (r) + 1)) from oq_c5ba317c r), by rw [E.2.2.2]; exact (show 8 + (2 + 11) + 100 ≤ (500 + 45 * (3 * (r) + 1)) from oq_93533a98 r), by rw [E.2.2.2]; exact Nat.le_refl 0, by rw [E.2.2.2]; exact Nat.le_refl 0⟩ (Nat.le_of_ble_eq_true rfl) (fun vv s1012 hq => ?_) (fun ee s1012 hq => ?_)
          rotate_left
          · obtain ⟨rfl, e1013, hv, hrs1012, hps1012⟩ := hq; cases hv
          obtain ⟨rfl, e1013, hv, hrs1012, hps1012⟩ := hq
          cases hv
          show WS k 50 [(0, .ref (A 179)), (1, .int (Int32.ofInt v))] [.int (Int32.ofInt e1013)] (Wd A dT t) 0 0
          have hb2 := hps1012
          refine z_store_n X (lv' := [(2, .int (Int32.ofInt e1013)), (0, .ref (A 179)), (1, .int (Int32.ofInt v))]) (show cdA 208 50 = some (.istore_n 2, 1, 0, 0, 0) from rfl) (by decide) (fun _ h => h) ?_
          refine z_aload_n X (x := A 179) (show cdA 208 51 = some (.aload_n 0, 1, 0, 0, 0) from rfl) (List.Mem.tail _ (List.Mem.head _)) ?_
          refine w_dup X.1 (ax_d X (show cdA 208 52 = some (.dup, 1, 0, 0, 0) from rfl)) rfl ?_
          refine z_getI X 179 (show cdA 208 53 = some (.getfield 184, 3, 12, 4, 0) from rfl) (by decide) rfl rfl ?_
          have b1014 : (0 : Int) ≤ iI t 77 ∧ iI t 77 ≤ 400 := I.1 77
          refine z_const X (show cdA 208 56 = some (.iconst 1, 1, 0, 0, 0) from rfl) ?_
          refine z_add X (show cdA 208 57 = some (.iadd, 1, 0, 0, 0) from rfl) ?_
          refine s_putI X 179 (show cdA 208 58 = some (.putfield 184, 3, 12, 4, 0) from rfl) (by decide) rfl rfl (by decide) rfl rfl rfl ?_
          obtain ⟨s1015, hs1015⟩ : ∃ x0, x0 = uI t 77 (Int32.ofInt ((iI t 77) + 1)) := ⟨_, rfl⟩
          rw [← hs1015]
          have Is1015 : Bd s1015 := by rw [hs1015]; exact bd_I I (show (0 : Int) ≤ ((iI t 77) + 1) ∧ ((iI t 77) + 1) ≤ 400 by first | exact ⟨oq_54f49eb5 b1014.1, oq_886c3d04 hi.2.2.1 p0⟩ | omega) ⟨by first | exact oq_74de1e16 b1014.1 | omega, by first | exact oq_964ce197 b1014.2 | omega⟩
          have Fs1015 := fm_I (x := Int32.ofInt ((iI t 77) + 1)) F (show 77 ∈ _ by decide)
          rw [← hs1015] at Fs1015
          have vs1015 : iI s1015 77 = ((iI t 77) + 1) := by rw [hs1015]; exact iI_u ⟨by first | exact oq_74de1e16 b1014.1 | omega, by first | exact oq_964ce197 b1014.2 | omega⟩
          have ws1015_75 : iI s1015 75 = iI t 75 := by rw [hs1015]; rfl
          have ws1015_79 : iI s1015 79 = iI t 79 := by rw [hs1015]; rfl
          have ws1015_78 : iI s1015 78 = iI t 78 := by rw [hs1015]; rfl
          have fs1015 : Fm [77] [] t s1015 := by rw [hs1015]; exact fm_I (fm_rf _ _ _) (show 77 ∈ _ by decide)
          have JFDB_s1015 : FDB B N s1015 := FDB_fm fs1015 (by decide) jjFDB
          refine z_aload_n X (x := A 179) (show cdA 208 61 = some (.aload_n 0, 1, 0, 0, 0) from rfl) (List.Mem.tail _ (List.Mem.head _)) ?_
          refine z_callV X 179 (rm := (rkR (3 * (r)))) (As := []) (st := []) (show cdA 208 62 = some (.invokevirtual 266, 3, 207, 0, 0) from rfl) rfl (by decide) rfl (by rw [E.1, E.2.1, E.2.2.1]; exact hU Is1015 JFDB_s1015 (by first | exact oq_b74d6776 vs1015 g1006 hi.2.2.2.2.1 b2.2 | omega) (by first | exact oq_2b041bab ws1015_78 p1 hi.1 | omega) (by first | exact oq_097bc645 ws1015_78 g1006 hi.2.2.2.1 hi.1 b3.1 p2 | omega)) ⟨by rw [E.2.2.2]; exact (show (12 + (3 * (r))) + 1 ≤ (12 + (3 * (r) + 1)) from oq_5e3fa304 r), by rw [E.2.2.2]; exact (show 8 + (7 + 11) + (500 + 45 * (3 * (r))) ≤ (500 + 45 * (3 * (r) + 1)) from oq_ea5e6b1c r), by rw [E.2.2.2]; exact Nat.le_refl 0, by rw [E.2.2.2]; exact Nat.le_refl 0⟩ (Nat.le_of_ble_eq_true rfl) (fun vv s1016 hq => ?_) (fun ee s1016 hq => ?_)
          rotate_left
          · obtain ⟨Is1016, Fs1016, JFDB_s1016, e1017, hv, hrs1016, hps1016⟩ := hq; cases hv
          obtain ⟨Is1016, Fs1016, JFDB_s1016, e1017, hv, hrs1016, hps1016⟩ := hq
          cases hv
          have Gs1016 := fm_ts Fs1015 Fs1016 (by decide) (by decide)
          have JFDB_s1016 : FDB B N s1016 := FDB_fm Fs1016 (by decide) JFDB_s1015
          have b1018 : (0 : Int) ≤ iI s1016 77 ∧ iI s1016 77 ≤ 400 := Is1016.1 77
          have ws1016_75 : iI s1016 75 = iI s1015 75 := fm_i Fs1016 (by decide)
          have b1019 : (0 : Int) ≤ iI s1016 79 ∧ iI s1016 79 ≤ 9 := Is1016.1 79
          have b1020 : (0 : Int) ≤ iI s1016 78 ∧ iI s1016 78 ≤ 8 := Is1016.1 78
          show WS k 65 [(2, .int (Int32.ofInt e1013)), (0, .ref (A 179)), (1, .int (Int32.ofInt v))] [.int (Int32.ofInt e1017)] (Wd A dT s1016) 0 0
          refine z_store_n X (lv' := [(3, .int (Int32.ofInt e1017)), (2, .int (Int32.ofInt e1013)), (0, .ref (A 179)), (1, .int (Int32.ofInt v))]) (show cdA 208 65 = some (.istore_n 3, 1, 0, 0, 0) from rfl) (by decide) (fun _ h => h) ?_
          refine z_load_n X (x := e1013) (show cdA 208 66 = some (.iload_n 2, 1, 0, 0, 0) from rfl) (List.Mem.tail _ (List.Mem.head _)) ?_
          refine z_bipush X (show cdA 208 67 = some (.bipush 42, 2, 0, 0, 42) from rfl) ?_
          refine z_icmp_ne X (t := 78) (show cdA 208 69 = some (.if_icmp .ne 9, 3, 1, 0, 0) from rfl) (by decide) hrs1012 (by decide) (fun g1021 => ?_) (fun g1021 => ?_)
          ·
            refine z_load_n X (x := e1017) (show cdA 208 78 = some (.iload_n 3, 1, 0, 0, 0) from rfl) (List.Mem.head _) ?_
            refine z_if_ne X (t := 86) (show cdA 208 79 = some (.ifCond .ne 7, 3, 1, 0, 0) from rfl) (by decide) hrs1016 (fun g1022 => ?_) (fun g1022 => ?_)
            ·
              refine z_load_n X (x := v) (show cdA 208 86 = some (.iload_n 1, 1, 0, 0, 0) from rfl) (List.Mem.tail _ (List.Mem.tail _ (List.Mem.tail _ (List.Mem.head _)))) ?_
              refine z_load_n X (x := e1017) (show cdA 208 87 = some (.iload_n 3, 1, 0, 0, 0) from rfl) (List.Mem.head _) ?_
              refine z_divE X (show cdA 208 88 = some (.idiv, 1, 0, 0, 0) from rfl) (by omega) ⟨by omega, by omega⟩ (fun y1023 hy1023 ey1023 => ?_)
              refine z_store_n X (lv' := [(1, .int (Int32.ofInt y1023)), (3, .int (Int32.ofInt e1017)), (2, .int (Int32.ofInt e1013)), (0, .ref (A 179))]) (show cdA 208 89 = some (.istore_n 1, 1, 0, 0, 0) from rfl) (by decide) (fun _ h => h) ?_
              refine z_aload_n X (x := A 179) (show cdA 208 90 = some (.aload_n 0, 1, 0, 0, 0) from rfl) (List.Mem.tail _ (List.Mem.tail _ (List.Mem.tail _ (List.Mem.head _)))) ?_
              refine z_callV X 179 (rm := rmN 193) (As := []) (st := []) (show cdA 208 91 = some (.invokevirtual 197, 3, 193, 0, 0) from rfl) rfl (by decide) rfl (by rw [E.1, E.2.1, E.2.2.1]; exact k_blanks2 G Is1016 JFDB_s1016 (by first | exact oq_a8509ff0 g1021 hps1012 g1010 hps1008 | omega)) ⟨by rw [E.2.2.2]; exact (show 7 + 1 ≤ (12 + (3 * (r) + 1)) from oq_4609964d r), by rw [E.2.2.2]; exact (show 8 + (1 + 11) + 121 ≤ (500 + 45 * (3 * (r) + 1)) from oq_12dd44ff r), by rw [E.2.2.2]; exact Nat.le_refl 0, by rw [E.2.2.2]; exact Nat.le_refl 0⟩ (Nat.le_of_ble_eq_true rfl) (fun vv s1024 hq => ?_) (fun ee s1024 hq => ?_)
              rotate_left
              · obtain ⟨Is1024, Fs1024, JFDB_s1024, hv, hps1024⟩ := hq; cases hv
              obtain ⟨Is1024, Fs1024, JFDB_s1024, hv, hps1024⟩ := hq
              cases hv
              have Gs1024 := fm_ts Gs1016 Fs1024 (by decide) (by decide)
              have JFDB_s1024 : FDB B N s1024 := FDB_fm Fs1024 (by decide) JFDB_s1016
              have b1026 : (0 : Int) ≤ iI s1024 77 ∧ iI s1024 77 ≤ 400 := Is1024.1 77
              have ws1024_75 : iI s1024 75 = iI s1016 75 := fm_i Fs1024 (by decide)
              have ws1024_79 : iI s1024 79 = iI s1016 79 := fm_i Fs1024 (by decide)
              have ws1024_78 : iI s1024 78 = iI s1016 78 := fm_i Fs1024 (by decide)
              show WS k 94 [(1, .int (Int32.ofInt y1023)), (3, .int (Int32.ofInt e1017)), (2, .int (Int32.ofInt e1013)), (0, .ref (A 179))] [] (Wd A dT s1024) 0 0
              refine z_goto X (t := 9) (show cdA 208 94 = some (.goto (-85), 3, 0, 0, 0) from rfl) (by decide) ?_
              refine WS_lv (lv := [(0, .ref (A 179)), (1, .int (Int32.ofInt y1023))]) (List.forall_mem_cons.mpr ⟨(List.Mem.tail _ (List.Mem.tail _ (List.Mem.tail _ (List.Mem.head _)))), (List.forall_mem_cons.mpr ⟨(List.Mem.head _), (fun q h => absurd h List.not_mem_nil)⟩)⟩) ?_
              exact ih _ y1023 Is1024 Gs1024 JFDB_s1024 ⟨by rw [hps1024.1]; exact sk_sk, prm_mvv (prmp_upv hq.2 (by omega) hcd (by rw [show iI s1015 77 = iI t 77 + 1 by omega, hq.1]) (by omega) (by omega) (pfv_c hps1016.2.2.2.2.2 (nmr_fm Fs1015 (by decide))) (fun a c ha hc => vl_up ha hc (opc_47 (by rw [hq.1]; omega)) (by decide) (jn_div hrs1016 (Or.inr ⟨by omega, ey1023⟩)))) (by rw [hps1024.1]; exact sk_sk) (by omega)⟩ (by first | exact ⟨oq_45b593e3 ws1024_78 hi.1 hps1016.1 ws1015_78, oq_93076f9e hps1024.2.1 hps1016.2.1 vs1015 hi.2.1, oq_8aa9e37b g1021 hps1012 g1010 hps1008, oq_fa23e6f1 g1021 hps1012 g1010 hps1008, oq_681f6ab4 g1021 hps1012 g1010 hps1008, oq_45b593e3 ws1024_75 hi.2.2.2.2.2.1 ws1016_75 ws1015_75, hy1023.1, hy1023.2⟩ | omega) (by first | exact qk_me hm (oq_aae77179 ws1024_75 hps1024.2.1 ws1016_75 hps1016.2.1 ws1015_75 vs1015) (oq_eacc1e78 g1021 hps1012 g1010 hps1008) | omega) kx
            ·
              refine z_const X (show cdA 208 82 = some (.iconst 0, 1, 0, 0, 0) from rfl) ?_
              refine z_goto X (t := 89) (show cdA 208 83 = some (.goto 6, 3, 0, 0, 0) from rfl) (by decide) ?_
              refine z_store_n X (lv' := [(1, .int (Int32.ofInt 0)), (3, .int (Int32.ofInt e1017)), (2, .int (Int32.ofInt e1013)), (0, .ref (A 179))]) (show cdA 208 89 = some (.istore_n 1, 1, 0, 0, 0) from rfl) (by decide) (fun _ h => h) ?_
              refine z_aload_n X (x := A 179) (show cdA 208 90 = some (.aload_n 0, 1, 0, 0, 0) from rfl) (List.Mem.tail _ (List.Mem.tail _ (List.Mem.tail _ (List.Mem.head _)))) ?_
              refine z_callV X 179 (rm := rmN 193) (As := []) (st := []) (show cdA 208 91 = some (.invokevirtual 197, 3, 193, 0, 0) from rfl) rfl (by decide) rfl (by rw [E.1, E.2.1, E.2.2.1]; exact k_blanks2 G Is1016 JFDB_s1016 (by first | exact oq_a8509ff0 g1021 hps1012 g1010 hps1008 | omega)) ⟨by rw [E.2.2.2]; exact (show 7 + 1 ≤ (12 + (3 * (r) + 1)) from oq_4609964d r), by rw [E.2.2.2]; exact (show 8 + (1 + 11) + 121 ≤ (500 + 45 * (3 * (r) + 1)) from oq_12dd44ff r), by rw [E.2.2.2]; exact Nat.le_refl 0, by rw [E.2.2.2]; exact Nat.le_refl 0⟩ (Nat.le_of_ble_eq_true rfl) (fun vv s1027 hq => ?_) (fun ee s1027 hq => ?_)
              rotate_left
              · obtain ⟨Is1027, Fs1027, JFDB_s1027, hv, hps1027⟩ := hq; cases hv
              obtain ⟨Is1027, Fs1027, JFDB_s1027, hv, hps1027⟩ := hq
              cases hv
              have Gs1027 := fm_ts Gs1016 Fs1027 (by decide) (by decide)
              have JFDB_s1027 : FDB B N s1027 := FDB_fm Fs1027 (by decide) JFDB_s1016
              have b1029 : (0 : Int) ≤ iI s1027 77 ∧ iI s1027 77 ≤ 400 := Is1027.1 77
              have ws1027_75 : iI s1027 75 = iI s1016 75 := fm_i Fs1027 (by decide)
              have ws1027_79 : iI s1027 79 = iI s1016 79 := fm_i Fs1027 (by decide)
              have ws1027_78 : iI s1027 78 = iI s1016 78 := fm_i Fs1027 (by decide)
              show WS k 94 [(1, .int (Int32.ofInt 0)), (3, .int (Int32.ofInt e1017)), (2, .int (Int32.ofInt e1013)), (0, .ref (A 179))] [] (Wd A dT s1027) 0 0
              refine z_goto X (t := 9) (show cdA 208 94 = some (.goto (-85), 3, 0, 0, 0) from rfl) (by decide) ?_
              refine WS_lv (lv := [(0, .ref (A 179)), (1, .int (Int32.ofInt 0))]) (List.forall_mem_cons.mpr ⟨(List.Mem.tail _ (List.Mem.tail _ (List.Mem.tail _ (List.Mem.head _)))), (List.forall_mem_cons.mpr ⟨(List.Mem.head _), (fun q h => absurd h List.not_mem_nil)⟩)⟩) ?_
              exact ih _ 0 Is1027 Gs1027 JFDB_s1027 ⟨by rw [hps1027.1]; exact sk_sk, prm_mvv (prmp_upv hq.2 (by omega) hcd (by rw [show iI s1015 77 = iI t 77 + 1 by omega, hq.1]) (by omega) (by omega) (pfv_c hps1016.2.2.2.2.2 (nmr_fm Fs1015 (by decide))) (fun a c ha hc => vl_up ha hc (opc_47 (by rw [hq.1]; omega)) (by decide) (jn_div hrs1016 (Or.inl ⟨by omega, rfl⟩)))) (by rw [hps1027.1]; exact sk_sk) (by omega)⟩ (by first | exact ⟨oq_45b593e3 ws1027_78 hi.1 hps1016.1 ws1015_78, oq_93076f9e hps1027.2.1 hps1016.2.1 vs1015 hi.2.1, oq_8aa9e37b g1021 hps1012 g1010 hps1008, oq_fa23e6f1 g1021 hps1012 g1010 hps1008, oq_681f6ab4 g1021 hps1012 g1010 hps1008, oq_45b593e3 ws1027_75 hi.2.2.2.2.2.1 ws1016_75 ws1015_75, by decide, by decide⟩ | omega) (by first | exact qk_me hm (oq_aae77179 ws1027_75 hps1027.2.1 ws1016_75 hps1016.2.1 ws1015_75 vs1015) (oq_eacc1e78 g1021 hps1012 g1010 hps1008) | omega) kx
          ·
            refine z_load_n X (x := v) (show cdA 208 72 = some (.iload_n 1, 1, 0, 0, 0) from rfl) (List.Mem.tail _ (List.Mem.tail _ (List.Mem.tail _ (List.Mem.head _)))) ?_
            refine z_load_n X (x := e1017) (show cdA 208 73 = some (.iload_n 3, 1, 0, 0, 0) from rfl) (List.Mem.head _) ?_
            refine z_mul X (show cdA 208 74 = some (.imul, 1, 0, 0, 0) from rfl) ?_
            refine z_anyV (fun y1030 hy1030 ey1030 => ?_)
            refine z_goto X (t := 89) (show cdA 208 75 = some (.goto 14, 3, 0, 0, 0) from rfl) (by decide) ?_
            refine z_store_n X (lv' := [(1, .int (Int32.ofInt y1030)), (3, .int (Int32.ofInt e1017)), (2, .int (Int32.ofInt e1013)), (0, .ref (A 179))]) (show cdA 208 89 = some (.istore_n 1, 1, 0, 0, 0) from rfl) (by decide) (fun _ h => h) ?_
            refine z_aload_n X (x := A 179) (show cdA 208 90 = some (.aload_n 0, 1, 0, 0, 0) from rfl) (List.Mem.tail _ (List.Mem.tail _ (List.Mem.tail _ (List.Mem.head _)))) ?_
            refine z_callV X 179 (rm := rmN 193) (As := []) (st := []) (show cdA 208 91 = some (.invokevirtual 197, 3, 193, 0, 0) from rfl) rfl (by decide) rfl (by rw [E.1, E.2.1, E.2.2.1]; exact k_blanks2 G Is1016 JFDB_s1016 (by first | exact oq_d255e8ca hps1016.2.2.1 vs1015 hi.2.2.1 p0 | omega)) ⟨by rw [E.2.2.2]; exact (show 7 + 1 ≤ (12 + (3 * (r) + 1)) from oq_4609964d r), by rw [E.2.2.2]; exact (show 8 + (1 + 11) + 121 ≤ (500 + 45 * (3 * (r) + 1)) from oq_12dd44ff r), by rw [E.2.2.2]; exact Nat.le_refl 0, by rw [E.2.2.2]; exact Nat.le_refl 0⟩ (Nat.le_of_ble_eq_true rfl) (fun vv s1031 hq => ?_) (fun ee s1031 hq => ?_)
            rotate_left
            · obtain ⟨Is1031, Fs1031, JFDB_s1031, hv, hps1031⟩ := hq; cases hv
            obtain ⟨Is1031, Fs1031, JFDB_s1031, hv, hps1031⟩ := hq
            cases hv
            have Gs1031 := fm_ts Gs1016 Fs1031 (by decide) (by decide)
            have JFDB_s1031 : FDB B N s1031 := FDB_fm Fs1031 (by decide) JFDB_s1016
            have b1033 : (0 : Int) ≤ iI s1031 77 ∧ iI s1031 77 ≤ 400 := Is1031.1 77
            have ws1031_75 : iI s1031 75 = iI s1016 75 := fm_i Fs1031 (by decide)
            have ws1031_79 : iI s1031 79 = iI s1016 79 := fm_i Fs1031 (by decide)
            have ws1031_78 : iI s1031 78 = iI s1016 78 := fm_i Fs1031 (by decide)
            show WS k 94 [(1, .int (Int32.ofInt y1030)), (3, .int (Int32.ofInt e1017)), (2, .int (Int32.ofInt e1013)), (0, .ref (A 179))] [] (Wd A dT s1031) 0 0
            refine z_goto X (t := 9) (show cdA 208 94 = some (.goto (-85), 3, 0, 0, 0) from rfl) (by decide) ?_
            refine WS_lv (lv := [(0, .ref (A 179)), (1, .int (Int32.ofInt y1030))]) (List.forall_mem_cons.mpr ⟨(List.Mem.tail _ (List.Mem.tail _ (List.Mem.tail _ (List.Mem.head _)))), (List.forall_mem_cons.mpr ⟨(List.Mem.head _), (fun q h => absurd h List.not_mem_nil)⟩)⟩) ?_
            exact ih _ y1030 Is1031 Gs1031 JFDB_s1031 ⟨by rw [hps1031.1]; exact sk_sk, prm_mvv (prmp_upv hq.2 (by omega) hcd (by rw [show iI s1015 77 = iI t 77 + 1 by omega, hq.1]) (by omega) (by omega) (pfv_c hps1016.2.2.2.2.2 (nmr_fm Fs1015 (by decide))) (fun a c ha hc => vl_up ha hc (opc_42 (by rw [hq.1]; omega)) (by decide) (jn_mul ey1030))) (by rw [hps1031.1]; exact sk_sk) (by omega)⟩ (by first | exact ⟨oq_45b593e3 ws1031_78 hi.1 hps1016.1 ws1015_78, oq_93076f9e hps1031.2.1 hps1016.2.1 vs1015 hi.2.1, by omega, oq_67b737cd g1006 hi.2.2.2.1 b3.1, by omega, oq_45b593e3 ws1031_75 hi.2.2.2.2.2.1 ws1016_75 ws1015_75, hy1030.1, hy1030.2⟩ | omega) (by omega) kx
        ·
          refine z_aload_n X (x := A 179) (show cdA 208 29 = some (.aload_n 0, 1, 0, 0, 0) from rfl) (List.Mem.head _) ?_
          refine z_aload_n X (x := A 179) (show cdA 208 30 = some (.aload_n 0, 1, 0, 0, 0) from rfl) (List.Mem.head _) ?_
          refine z_getI X 179 (show cdA 208 31 = some (.getfield 184, 3, 12, 4, 0) from rfl) (by decide) rfl rfl ?_
          have b1034 : (0 : Int) ≤ iI t 77 ∧ iI t 77 ≤ 400 := I.1 77
          refine z_callV X 179 (rm := rmN 192) (As := [.int (Int32.ofInt (iI t 77))]) (st := []) (show cdA 208 34 = some (.invokevirtual 187, 3, 192, 0, 0) from rfl) rfl (by decide) rfl (by rw [E.1, E.2.1, E.2.2.1]; exact k_byteAt2 G I jjFDB (by first | exact ⟨b1034.1, oq_5a8480eb b1034.2⟩ | omega)) ⟨by rw [E.2.2.2]; exact (show 6 + 1 ≤ (12 + (3 * (r) + 1)) from oq_c5ba317c r), by rw [E.2.2.2]; exact (show 8 + (2 + 11) + 100 ≤ (500 + 45 * (3 * (r) + 1)) from oq_93533a98 r), by rw [E.2.2.2]; exact Nat.le_refl 0, by rw [E.2.2.2]; exact Nat.le_refl 0⟩ (Nat.le_of_ble_eq_true rfl) (fun vv s1035 hq => ?_) (fun ee s1035 hq => ?_)
          rotate_left
          · obtain ⟨rfl, e1036, hv, hrs1035, hps1035⟩ := hq; cases hv
          obtain ⟨rfl, e1036, hv, hrs1035, hps1035⟩ := hq
          cases hv
          show WS k 37 [(0, .ref (A 179)), (1, .int (Int32.ofInt v))] [.int (Int32.ofInt e1036)] (Wd A dT t) 0 0
          refine z_bipush X (show cdA 208 37 = some (.bipush 47, 2, 0, 0, 47) from rfl) ?_
          refine z_icmp_ne X (t := 97) (show cdA 208 39 = some (.if_icmp .ne 58, 3, 1, 0, 0) from rfl) (by decide) hrs1035 (by decide) (fun g1037 => ?_) (fun g1037 => ?_)
          ·
            refine WS_lv (lv := [(0, .ref (A 179)), (1, .int (Int32.ofInt v))]) (List.forall_mem_cons.mpr ⟨(List.Mem.head _), (List.forall_mem_cons.mpr ⟨(List.Mem.tail _ (List.Mem.head _)), (fun q h => absurd h List.not_mem_nil)⟩)⟩) ?_
            exact kx _ v I F jjFDB (by first | exact prm_fav (prm_mvv hq.2 (by rw [show iI t 77 = iI t 77 by omega]) (by omega)) (by omega) | exact prmp_endv (prm_mvv hq.2 (by rw [show iI t 77 = iI t 77 by omega]) (by omega)) (by omega) (by rw [show iI t 77 = iI t 77 by omega, hq.1]; omega)) (by first | exact ⟨hi.1, hi.2.1, hi.2.2.1, hi.2.2.2.1, hi.2.2.2.2.1, hi.2.2.2.2.2.1, hi.2.2.2.2.2.2.1, hi.2.2.2.2.2.2.2⟩ | omega)
          ·
            have hcd : chT B N (sk B N (iI t 77)) 42 ∨ chT B N (sk B N (iI t 77)) 47 := by rw [hq.1]; first | exact Or.inl ⟨by omega, by omega⟩ | exact Or.inr ⟨by omega, by omega⟩
            refine z_aload_n X (x := A 179) (show cdA 208 42 = some (.aload_n 0, 1, 0, 0, 0) from rfl) (List.Mem.head _) ?_
            refine z_aload_n X (x := A 179) (show cdA 208 43 = some (.aload_n 0, 1, 0, 0, 0) from rfl) (List.Mem.head _) ?_
            refine z_getI X 179 (show cdA 208 44 = some (.getfield 184, 3, 12, 4, 0) from rfl) (by decide) rfl rfl ?_
            have b1038 : (0 : Int) ≤ iI t 77 ∧ iI t 77 ≤ 400 := I.1 77
            refine z_callV X 179 (rm := rmN 192) (As := [.int (Int32.ofInt (iI t 77))]) (st := []) (show cdA 208 47 = some (.invokevirtual 187, 3, 192, 0, 0) from rfl) rfl (by decide) rfl (by rw [E.1, E.2.1, E.2.2.1]; exact k_byteAt2 G I jjFDB (by first | exact ⟨b1038.1, oq_5a8480eb b1038.2⟩ | omega)) ⟨by rw [E.2.2.2]; exact (show 6 + 1 ≤ (12 + (3 * (r) + 1)) from oq_c5ba317c r), by rw [E.2.2.2]; exact (show 8 + (2 + 11) + 100 ≤ (500 + 45 * (3 * (r) + 1)) from oq_93533a98 r), by rw [E.2.2.2]; exact Nat.le_refl 0, by rw [E.2.2.2]; exact Nat.le_refl 0⟩ (Nat.le_of_ble_eq_true rfl) (fun vv s1039 hq => ?_) (fun ee s1039 hq => ?_)
            rotate_left
            · obtain ⟨rfl, e1040, hv, hrs1039, hps1039⟩ := hq; cases hv
            obtain ⟨rfl, e1040, hv, hrs1039, hps1039⟩ := hq
            cases hv
            show WS k 50 [(0, .ref (A 179)), (1, .int (Int32.ofInt v))] [.int (Int32.ofInt e1040)] (Wd A dT t) 0 0
            have hb2 := hps1039
            refine z_store_n X (lv' := [(2, .int (Int32.ofInt e1040)), (0, .ref (A 179)), (1, .int (Int32.ofInt v))]) (show cdA 208 50 = some (.istore_n 2, 1, 0, 0, 0) from rfl) (by decide) (fun _ h => h) ?_
            refine z_aload_n X (x := A 179) (show cdA 208 51 = some (.aload_n 0, 1, 0, 0, 0) from rfl) (List.Mem.tail _ (List.Mem.head _)) ?_
            refine w_dup X.1 (ax_d X (show cdA 208 52 = some (.dup, 1, 0, 0, 0) from rfl)) rfl ?_
            refine z_getI X 179 (show cdA 208 53 = some (.getfield 184, 3, 12, 4, 0) from rfl) (by decide) rfl rfl ?_
            have b1041 : (0 : Int) ≤ iI t 77 ∧ iI t 77 ≤ 400 := I.1 77
            refine z_const X (show cdA 208 56 = some (.iconst 1, 1, 0, 0, 0) from rfl) ?_
            refine z_add X (show cdA 208 57 = some (.iadd, 1, 0, 0, 0) from rfl) ?_
            refine s_putI X 179 (show cdA 208 58 = some (.putfield 184, 3, 12, 4, 0) from rfl) (by decide) rfl rfl (by decide) rfl rfl rfl ?_
            obtain ⟨s1042, hs1042⟩ : ∃ x0, x0 = uI t 77 (Int32.ofInt ((iI t 77) + 1)) := ⟨_, rfl⟩
            rw [← hs1042]
            have Is1042 : Bd s1042 := by rw [hs1042]; exact bd_I I (show (0 : Int) ≤ ((iI t 77) + 1) ∧ ((iI t 77) + 1) ≤ 400 by first | exact ⟨oq_54f49eb5 b1041.1, oq_886c3d04 hi.2.2.1 p0⟩ | omega) ⟨by first | exact oq_74de1e16 b1041.1 | omega, by first | exact oq_964ce197 b1041.2 | omega⟩
            have Fs1042 := fm_I (x := Int32.ofInt ((iI t 77) + 1)) F (show 77 ∈ _ by decide)
            rw [← hs1042] at Fs1042
            have vs1042 : iI s1042 77 = ((iI t 77) + 1) := by rw [hs1042]; exact iI_u ⟨by first | exact oq_74de1e16 b1041.1 | omega, by first | exact oq_964ce197 b1041.2 | omega⟩
            have ws1042_75 : iI s1042 75 = iI t 75 := by rw [hs1042]; rfl
            have ws1042_79 : iI s1042 79 = iI t 79 := by rw [hs1042]; rfl
            have ws1042_78 : iI s1042 78 = iI t 78 := by rw [hs1042]; rfl
            have fs1042 : Fm [77] [] t s1042 := by rw [hs1042]; exact fm_I (fm_rf _ _ _) (show 77 ∈ _ by decide)
            have JFDB_s1042 : FDB B N s1042 := FDB_fm fs1042 (by decide) jjFDB
            refine z_aload_n X (x := A 179) (show cdA 208 61 = some (.aload_n 0, 1, 0, 0, 0) from rfl) (List.Mem.tail _ (List.Mem.head _)) ?_
            refine z_callV X 179 (rm := (rkR (3 * (r)))) (As := []) (st := []) (show cdA 208 62 = some (.invokevirtual 266, 3, 207, 0, 0) from rfl) rfl (by decide) rfl (by rw [E.1, E.2.1, E.2.2.1]; exact hU Is1042 JFDB_s1042 (by first | exact oq_b74d6776 vs1042 g1006 hi.2.2.2.2.1 b2.2 | omega) (by first | exact oq_2b041bab ws1042_78 p1 hi.1 | omega) (by first | exact oq_097bc645 ws1042_78 g1006 hi.2.2.2.1 hi.1 b3.1 p2 | omega)) ⟨by rw [E.2.2.2]; exact (show (12 + (3 * (r))) + 1 ≤ (12 + (3 * (r) + 1)) from oq_5e3fa304 r), by rw [E.2.2.2]; exact (show 8 + (7 + 11) + (500 + 45 * (3 * (r))) ≤ (500 + 45 * (3 * (r) + 1)) from oq_ea5e6b1c r), by rw [E.2.2.2]; exact Nat.le_refl 0, by rw [E.2.2.2]; exact Nat.le_refl 0⟩ (Nat.le_of_ble_eq_true rfl) (fun vv s1043 hq => ?_) (fun ee s1043 hq => ?_)
            rotate_left
            · obtain ⟨Is1043, Fs1043, JFDB_s1043, e1044, hv, hrs1043, hps1043⟩ := hq; cases hv
            obtain ⟨Is1043, Fs1043, JFDB_s1043, e1044, hv, hrs1043, hps1043⟩ := hq
            cases hv
            have Gs1043 := fm_ts Fs1042 Fs1043 (by decide) (by decide)
            have JFDB_s1043 : FDB B N s1043 := FDB_fm Fs1043 (by decide) JFDB_s1042
            have b1045 : (0 : Int) ≤ iI s1043 77 ∧ iI s1043 77 ≤ 400 := Is1043.1 77
            have ws1043_75 : iI s1043 75 = iI s1042 75 := fm_i Fs1043 (by decide)
            have b1046 : (0 : Int) ≤ iI s1043 79 ∧ iI s1043 79 ≤ 9 := Is1043.1 79
            have b1047 : (0 : Int) ≤ iI s1043 78 ∧ iI s1043 78 ≤ 8 := Is1043.1 78
            show WS k 65 [(2, .int (Int32.ofInt e1040)), (0, .ref (A 179)), (1, .int (Int32.ofInt v))] [.int (Int32.ofInt e1044)] (Wd A dT s1043) 0 0
            refine z_store_n X (lv' := [(3, .int (Int32.ofInt e1044)), (2, .int (Int32.ofInt e1040)), (0, .ref (A 179)), (1, .int (Int32.ofInt v))]) (show cdA 208 65 = some (.istore_n 3, 1, 0, 0, 0) from rfl) (by decide) (fun _ h => h) ?_
            refine z_load_n X (x := e1040) (show cdA 208 66 = some (.iload_n 2, 1, 0, 0, 0) from rfl) (List.Mem.tail _ (List.Mem.head _)) ?_
            refine z_bipush X (show cdA 208 67 = some (.bipush 42, 2, 0, 0, 42) from rfl) ?_
            refine z_icmp_ne X (t := 78) (show cdA 208 69 = some (.if_icmp .ne 9, 3, 1, 0, 0) from rfl) (by decide) hrs1039 (by decide) (fun g1048 => ?_) (fun g1048 => ?_)
            ·
              refine z_load_n X (x := e1044) (show cdA 208 78 = some (.iload_n 3, 1, 0, 0, 0) from rfl) (List.Mem.head _) ?_
              refine z_if_ne X (t := 86) (show cdA 208 79 = some (.ifCond .ne 7, 3, 1, 0, 0) from rfl) (by decide) hrs1043 (fun g1049 => ?_) (fun g1049 => ?_)
              ·
                refine z_load_n X (x := v) (show cdA 208 86 = some (.iload_n 1, 1, 0, 0, 0) from rfl) (List.Mem.tail _ (List.Mem.tail _ (List.Mem.tail _ (List.Mem.head _)))) ?_
                refine z_load_n X (x := e1044) (show cdA 208 87 = some (.iload_n 3, 1, 0, 0, 0) from rfl) (List.Mem.head _) ?_
                refine z_divE X (show cdA 208 88 = some (.idiv, 1, 0, 0, 0) from rfl) (by omega) ⟨by omega, by omega⟩ (fun y1050 hy1050 ey1050 => ?_)
                refine z_store_n X (lv' := [(1, .int (Int32.ofInt y1050)), (3, .int (Int32.ofInt e1044)), (2, .int (Int32.ofInt e1040)), (0, .ref (A 179))]) (show cdA 208 89 = some (.istore_n 1, 1, 0, 0, 0) from rfl) (by decide) (fun _ h => h) ?_
                refine z_aload_n X (x := A 179) (show cdA 208 90 = some (.aload_n 0, 1, 0, 0, 0) from rfl) (List.Mem.tail _ (List.Mem.tail _ (List.Mem.tail _ (List.Mem.head _)))) ?_
                refine z_callV X 179 (rm := rmN 193) (As := []) (st := []) (show cdA 208 91 = some (.invokevirtual 197, 3, 193, 0, 0) from rfl) rfl (by decide) rfl (by rw [E.1, E.2.1, E.2.2.1]; exact k_blanks2 G Is1043 JFDB_s1043 (by first | exact oq_d255e8ca hps1043.2.2.1 vs1042 hi.2.2.1 p0 | omega)) ⟨by rw [E.2.2.2]; exact (show 7 + 1 ≤ (12 + (3 * (r) + 1)) from oq_4609964d r), by rw [E.2.2.2]; exact (show 8 + (1 + 11) + 121 ≤ (500 + 45 * (3 * (r) + 1)) from oq_12dd44ff r), by rw [E.2.2.2]; exact Nat.le_refl 0, by rw [E.2.2.2]; exact Nat.le_refl 0⟩ (Nat.le_of_ble_eq_true rfl) (fun vv s1051 hq => ?_) (fun ee s1051 hq => ?_)
                rotate_left
                · obtain ⟨Is1051, Fs1051, JFDB_s1051, hv, hps1051⟩ := hq; cases hv
                obtain ⟨Is1051, Fs1051, JFDB_s1051, hv, hps1051⟩ := hq
                cases hv
                have Gs1051 := fm_ts Gs1043 Fs1051 (by decide) (by decide)
                have JFDB_s1051 : FDB B N s1051 := FDB_fm Fs1051 (by decide) JFDB_s1043
                have b1053 : (0 : Int) ≤ iI s1051 77 ∧ iI s1051 77 ≤ 400 := Is1051.1 77
                have ws1051_75 : iI s1051 75 = iI s1043 75 := fm_i Fs1051 (by decide)
                have ws1051_79 : iI s1051 79 = iI s1043 79 := fm_i Fs1051 (by decide)
                have ws1051_78 : iI s1051 78 = iI s1043 78 := fm_i Fs1051 (by decide)
                show WS k 94 [(1, .int (Int32.ofInt y1050)), (3, .int (Int32.ofInt e1044)), (2, .int (Int32.ofInt e1040)), (0, .ref (A 179))] [] (Wd A dT s1051) 0 0
                refine z_goto X (t := 9) (show cdA 208 94 = some (.goto (-85), 3, 0, 0, 0) from rfl) (by decide) ?_
                refine WS_lv (lv := [(0, .ref (A 179)), (1, .int (Int32.ofInt y1050))]) (List.forall_mem_cons.mpr ⟨(List.Mem.tail _ (List.Mem.tail _ (List.Mem.tail _ (List.Mem.head _)))), (List.forall_mem_cons.mpr ⟨(List.Mem.head _), (fun q h => absurd h List.not_mem_nil)⟩)⟩) ?_
                exact ih _ y1050 Is1051 Gs1051 JFDB_s1051 ⟨by rw [hps1051.1]; exact sk_sk, prm_mvv (prmp_upv hq.2 (by omega) hcd (by rw [show iI s1042 77 = iI t 77 + 1 by omega, hq.1]) (by omega) (by omega) (pfv_c hps1043.2.2.2.2.2 (nmr_fm Fs1042 (by decide))) (fun a c ha hc => vl_up ha hc (opc_47 (by rw [hq.1]; omega)) (by decide) (jn_div hrs1043 (Or.inr ⟨by omega, ey1050⟩)))) (by rw [hps1051.1]; exact sk_sk) (by omega)⟩ (by first | exact ⟨oq_45b593e3 ws1051_78 hi.1 hps1043.1 ws1042_78, oq_93076f9e hps1051.2.1 hps1043.2.1 vs1042 hi.2.1, by omega, oq_67b737cd g1006 hi.2.2.2.1 b3.1, by omega, oq_45b593e3 ws1051_75 hi.2.2.2.2.2.1 ws1043_75 ws1042_75, hy1050.1, hy1050.2⟩ | omega) (by omega) kx
              ·
                refine z_const X (show cdA 208 82 = some (.iconst 0, 1, 0, 0, 0) from rfl) ?_
                refine z_goto X (t := 89) (show cdA 208 83 = some (.goto 6, 3, 0, 0, 0) from rfl) (by decide) ?_
                refine z_store_n X (lv' := [(1, .int (Int32.ofInt 0)), (3, .int (Int32.ofInt e1044)), (2, .int (Int32.ofInt e1040)), (0, .ref (A 179))]) (show cdA 208 89 = some (.istore_n 1, 1, 0, 0, 0) from rfl) (by decide) (fun _ h => h) ?_
                refine z_aload_n X (x := A 179) (show cdA 208 90 = some (.aload_n 0, 1, 0, 0, 0) from rfl) (List.Mem.tail _ (List.Mem.tail _ (List.Mem.tail _ (List.Mem.head _)))) ?_
                refine z_callV X 179 (rm := rmN 193) (As := []) (st := []) (show cdA 208 91 = some (.invokevirtual 197, 3, 193, 0, 0) from rfl) rfl (by decide) rfl (by rw [E.1, E.2.1, E.2.2.1]; exact k_blanks2 G Is1043 JFDB_s1043 (by first | exact oq_d255e8ca hps1043.2.2.1 vs1042 hi.2.2.1 p0 | omega)) ⟨by rw [E.2.2.2]; exact (show 7 + 1 ≤ (12 + (3 * (r) + 1)) from oq_4609964d r), by rw [E.2.2.2]; exact (show 8 + (1 + 11) + 121 ≤ (500 + 45 * (3 * (r) + 1)) from oq_12dd44ff r), by rw [E.2.2.2]; exact Nat.le_refl 0, by rw [E.2.2.2]; exact Nat.le_refl 0⟩ (Nat.le_of_ble_eq_true rfl) (fun vv s1054 hq => ?_) (fun ee s1054 hq => ?_)
                rotate_left
                · obtain ⟨Is1054, Fs1054, JFDB_s1054, hv, hps1054⟩ := hq; cases hv
                obtain ⟨Is1054, Fs1054, JFDB_s1054, hv, hps1054⟩ := hq
                cases hv
                have Gs1054 := fm_ts Gs1043 Fs1054 (by decide) (by decide)
                have JFDB_s1054 : FDB B N s1054 := FDB_fm Fs1054 (by decide) JFDB_s1043
                have b1056 : (0 : Int) ≤ iI s1054 77 ∧ iI s1054 77 ≤ 400 := Is1054.1 77
                have ws1054_75 : iI s1054 75 = iI s1043 75 := fm_i Fs1054 (by decide)
                have ws1054_79 : iI s1054 79 = iI s1043 79 := fm_i Fs1054 (by decide)
                have ws1054_78 : iI s1054 78 = iI s1043 78 := fm_i Fs1054 (by decide)
                show WS k 94 [(1, .int (Int32.ofInt 0)), (3, .int (Int32.ofInt e1044)), (2, .int (Int32.ofInt e1040)), (0, .ref (A 179))] [] (Wd A dT s1054) 0 0
                refine z_goto X (t := 9) (show cdA 208 94 = some (.goto (-85), 3, 0, 0, 0) from rfl) (by decide) ?_
                refine WS_lv (lv := [(0, .ref (A 179)), (1, .int (Int32.ofInt 0))]) (List.forall_mem_cons.mpr ⟨(List.Mem.tail _ (List.Mem.tail _ (List.Mem.tail _ (List.Mem.head _)))), (List.forall_mem_cons.mpr ⟨(List.Mem.head _), (fun q h => absurd h List.not_mem_nil)⟩)⟩) ?_
                exact ih _ 0 Is1054 Gs1054 JFDB_s1054 ⟨by rw [hps1054.1]; exact sk_sk, prm_mvv (prmp_upv hq.2 (by omega) hcd (by rw [show iI s1042 77 = iI t 77 + 1 by omega, hq.1]) (by omega) (by omega) (pfv_c hps1043.2.2.2.2.2 (nmr_fm Fs1042 (by decide))) (fun a c ha hc => vl_up ha hc (opc_47 (by rw [hq.1]; omega)) (by decide) (jn_div hrs1043 (Or.inl ⟨by omega, rfl⟩)))) (by rw [hps1054.1]; exact sk_sk) (by omega)⟩ (by first | exact ⟨oq_45b593e3 ws1054_78 hi.1 hps1043.1 ws1042_78, oq_93076f9e hps1054.2.1 hps1043.2.1 vs1042 hi.2.1, by omega, oq_67b737cd g1006 hi.2.2.2.1 b3.1, by omega, oq_45b593e3 ws1054_75 hi.2.2.2.2.2.1 ws1043_75 ws1042_75, by decide, by decide⟩ | omega) (by omega) kx
            ·
              refine z_load_n X (x := v) (show cdA 208 72 = some (.iload_n 1, 1, 0, 0, 0) from rfl) (List.Mem.tail _ (List.Mem.tail _ (List.Mem.tail _ (List.Mem.head _)))) ?_
              refine z_load_n X (x := e1044) (show cdA 208 73 = some (.iload_n 3, 1, 0, 0, 0) from rfl) (List.Mem.head _) ?_
              refine z_mul X (show cdA 208 74 = some (.imul, 1, 0, 0, 0) from rfl) ?_
              refine z_anyV (fun y1057 hy1057 ey1057 => ?_)
              refine z_goto X (t := 89) (show cdA 208 75 = some (.goto 14, 3, 0, 0, 0) from rfl) (by decide) ?_
              refine z_store_n X (lv' := [(1, .int (Int32.ofInt y1057)), (3, .int (Int32.ofInt e1044)), (2, .int (Int32.ofInt e1040)), (0, .ref (A 179))]) (show cdA 208 89 = some (.istore_n 1, 1, 0, 0, 0) from rfl) (by decide) (fun _ h => h) ?_
              refine z_aload_n X (x := A 179) (show cdA 208 90 = some (.aload_n 0, 1, 0, 0, 0) from rfl) (List.Mem.tail _ (List.Mem.tail _ (List.Mem.tail _ (List.Mem.head _)))) ?_
              refine z_callV X 179 (rm := rmN 193) (As := []) (st := []) (show cdA 208 91 = some (.invokevirtual 197, 3, 193, 0, 0) from rfl) rfl (by decide) rfl (by rw [E.1, E.2.1, E.2.2.1]; exact k_blanks2 G Is1043 JFDB_s1043 (by first | exact oq_64020fb0 g1048 hps1039 g1037 hps1035 | omega)) ⟨by rw [E.2.2.2]; exact (show 7 + 1 ≤ (12 + (3 * (r) + 1)) from oq_4609964d r), by rw [E.2.2.2]; exact (show 8 + (1 + 11) + 121 ≤ (500 + 45 * (3 * (r) + 1)) from oq_12dd44ff r), by rw [E.2.2.2]; exact Nat.le_refl 0, by rw [E.2.2.2]; exact Nat.le_refl 0⟩ (Nat.le_of_ble_eq_true rfl) (fun vv s1058 hq => ?_) (fun ee s1058 hq => ?_)
              rotate_left
              · obtain ⟨Is1058, Fs1058, JFDB_s1058, hv, hps1058⟩ := hq; cases hv
              obtain ⟨Is1058, Fs1058, JFDB_s1058, hv, hps1058⟩ := hq
              cases hv
              have Gs1058 := fm_ts Gs1043 Fs1058 (by decide) (by decide)
              have JFDB_s1058 : FDB B N s1058 := FDB_fm Fs1058 (by decide) JFDB_s1043
              have b1060 : (0 : Int) ≤ iI s1058 77 ∧ iI s1058 77 ≤ 400 := Is1058.1 77
              have ws1058_75 : iI s1058 75 = iI s1043 75 := fm_i Fs1058 (by decide)
              have ws1058_79 : iI s1058 79 = iI s1043 79 := fm_i Fs1058 (by decide)
              have ws1058_78 : iI s1058 78 = iI s1043 78 := fm_i Fs1058 (by decide)
              show WS k 94 [(1, .int (Int32.ofInt y1057)), (3, .int (Int32.ofInt e1044)), (2, .int (Int32.ofInt e1040)), (0, .ref (A 179))] [] (Wd A dT s1058) 0 0
              refine z_goto X (t := 9) (show cdA 208 94 = some (.goto (-85), 3, 0, 0, 0) from rfl) (by decide) ?_
              refine WS_lv (lv := [(0, .ref (A 179)), (1, .int (Int32.ofInt y1057))]) (List.forall_mem_cons.mpr ⟨(List.Mem.tail _ (List.Mem.tail _ (List.Mem.tail _ (List.Mem.head _)))), (List.forall_mem_cons.mpr ⟨(List.Mem.head _), (fun q h => absurd h List.not_mem_nil)⟩)⟩) ?_
              exact ih _ y1057 Is1058 Gs1058 JFDB_s1058 ⟨by rw [hps1058.1]; exact sk_sk, prm_mvv (prmp_upv hq.2 (by omega) hcd (by rw [show iI s1042 77 = iI t 77 + 1 by omega, hq.1]) (by omega) (by omega) (pfv_c hps1043.2.2.2.2.2 (nmr_fm Fs1042 (by decide))) (fun a c ha hc => vl_up ha hc (opc_42 (by rw [hq.1]; omega)) (by decide) (jn_mul ey1057))) (by rw [hps1058.1]; exact sk_sk) (by omega)⟩ (by first | exact ⟨oq_45b593e3 ws1058_78 hi.1 hps1043.1 ws1042_78, oq_93076f9e hps1058.2.1 hps1043.2.1 vs1042 hi.2.1, oq_8dbd7f30 g1048 hps1039 g1037 hps1035, oq_cd9278e8 g1048 hps1039 g1037 hps1035, oq_1a68ba24 g1048 hps1039 g1037 hps1035, oq_45b593e3 ws1058_75 hi.2.2.2.2.2.1 ws1043_75 ws1042_75, hy1057.1, hy1057.2⟩ | omega) (by first | exact qk_me hm (oq_aae77179 ws1058_75 hps1058.2.1 ws1043_75 hps1043.2.1 ws1042_75 vs1042) (oq_8500a080 g1048 hps1039 g1037 hps1035) | omega) kx
  refine z_aload_n X (x := A 179) (show cdA 208 0 = some (.aload_n 0, 1, 0, 0, 0) from rfl) (List.Mem.head _) ?_
  refine z_callV X 179 (rm := (rkR (3 * (r)))) (As := []) (st := []) (show cdA 208 1 = some (.invokevirtual 266, 3, 207, 0, 0) from rfl) rfl (by decide) rfl (by rw [E.1, E.2.1, E.2.2.1]; exact hU I jFDB (by first | exact p0 | omega) (by first | exact p1 | omega) (by first | exact p2 | omega)) ⟨by rw [E.2.2.2]; exact (show (12 + (3 * (r))) + 1 ≤ (12 + (3 * (r) + 1)) from oq_5e3fa304 r), by rw [E.2.2.2]; exact (show 8 + (7 + 11) + (500 + 45 * (3 * (r))) ≤ (500 + 45 * (3 * (r) + 1)) from oq_ea5e6b1c r), by rw [E.2.2.2]; exact Nat.le_refl 0, by rw [E.2.2.2]; exact Nat.le_refl 0⟩ (Nat.le_of_ble_eq_true rfl) (fun vv s5 hq => ?_) (fun ee s5 hq => ?_)
  rotate_left
  · obtain ⟨Is5, Fs5, JFDB_s5, e6, hv, hrs5, hps5⟩ := hq; cases hv
  obtain ⟨Is5, Fs5, JFDB_s5, e6, hv, hrs5, hps5⟩ := hq
  cases hv
  have Gs5 := fm_ts F Fs5 (by decide) (by decide)
  have JFDB_s5 : FDB B N s5 := FDB_fm Fs5 (by decide) jFDB
  have b7 : (0 : Int) ≤ iI s5 77 ∧ iI s5 77 ≤ 400 := Is5.1 77
  have ws5_75 : iI s5 75 = iI s 75 := fm_i Fs5 (by decide)
  have b8 : (0 : Int) ≤ iI s5 79 ∧ iI s5 79 ≤ 9 := Is5.1 79
  have b9 : (0 : Int) ≤ iI s5 78 ∧ iI s5 78 ≤ 8 := Is5.1 78
  show WS k 4 [(0, .ref (A 179))] [.int (Int32.ofInt e6)] (Wd A dT s5) 0 0
  refine z_store_n X (lv' := [(1, .int (Int32.ofInt e6)), (0, .ref (A 179))]) (show cdA 208 4 = some (.istore_n 1, 1, 0, 0, 0) from rfl) (by decide) (fun _ h => h) ?_
  refine z_aload_n X (x := A 179) (show cdA 208 5 = some (.aload_n 0, 1, 0, 0, 0) from rfl) (List.Mem.tail _ (List.Mem.head _)) ?_
  refine z_callV X 179 (rm := rmN 193) (As := []) (st := []) (show cdA 208 6 = some (.invokevirtual 197, 3, 193, 0, 0) from rfl) rfl (by decide) rfl (by rw [E.1, E.2.1, E.2.2.1]; exact k_blanks2 G Is5 JFDB_s5 (by first | exact oq_299765ef hps5.2.2.1 p0 | omega)) ⟨by rw [E.2.2.2]; exact (show 7 + 1 ≤ (12 + (3 * (r) + 1)) from oq_4609964d r), by rw [E.2.2.2]; exact (show 8 + (1 + 11) + 121 ≤ (500 + 45 * (3 * (r) + 1)) from oq_12dd44ff r), by rw [E.2.2.2]; exact Nat.le_refl 0, by rw [E.2.2.2]; exact Nat.le_refl 0⟩ (Nat.le_of_ble_eq_true rfl) (fun vv s10 hq => ?_) (fun ee s10 hq => ?_)
  rotate_left
  · obtain ⟨Is10, Fs10, JFDB_s10, hv, hps10⟩ := hq; cases hv
  obtain ⟨Is10, Fs10, JFDB_s10, hv, hps10⟩ := hq
  cases hv
  have Gs10 := fm_ts Gs5 Fs10 (by decide) (by decide)
  have JFDB_s10 : FDB B N s10 := FDB_fm Fs10 (by decide) JFDB_s5
  have b12 : (0 : Int) ≤ iI s10 77 ∧ iI s10 77 ≤ 400 := Is10.1 77
  have ws10_75 : iI s10 75 = iI s5 75 := fm_i Fs10 (by decide)
  have ws10_79 : iI s10 79 = iI s5 79 := fm_i Fs10 (by decide)
  have ws10_78 : iI s10 78 = iI s5 78 := fm_i Fs10 (by decide)
  show WS k 9 [(1, .int (Int32.ofInt e6)), (0, .ref (A 179))] [] (Wd A dT s10) 0 0
  refine WS_lv (lv := [(0, .ref (A 179)), (1, .int (Int32.ofInt e6))]) (List.forall_mem_cons.mpr ⟨(List.Mem.tail _ (List.Mem.head _)), (List.forall_mem_cons.mpr ⟨(List.Mem.head _), (fun q h => absurd h List.not_mem_nil)⟩)⟩) ?_
  refine L9 ((iI s10 75 - iI s10 77 : Int).toNat + 1) s10 e6 Is10 Gs10 JFDB_s10 ⟨by rw [hps10.1]; exact sk_sk, prm_mvv (prmp_0v hps5.2.2.2.2.2) (by rw [hps10.1]; exact sk_sk) (by omega)⟩ (by omega) (Nat.lt_succ_self _) ?_
  intro s13 x14 Is13 Fs13 JFDB_s13 Qs13 hs13
  have b15 : (0 : Int) ≤ iI s13 77 ∧ iI s13 77 ≤ 400 := Is13.1 77
  have b16 : (0 : Int) ≤ iI s13 75 ∧ iI s13 75 ≤ 200 := Is13.1 75
  have b17 : (0 : Int) ≤ iI s13 79 ∧ iI s13 79 ≤ 9 := Is13.1 79
  have b18 : (0 : Int) ≤ iI s13 78 ∧ iI s13 78 ≤ 8 := Is13.1 78
  have hNs13 := JFDB_s13.2.1
  have hWs13 := JFDB_s13.2.2
  refine z_load_n X (x := x14) (show cdA 208 97 = some (.iload_n 1, 1, 0, 0, 0) from rfl) (List.Mem.tail _ (List.Mem.head _)) ?_
  exact w_iret X.1 q hRt rfl (ax_d X (show cdA 208 98 = some (.ireturn, 1, 0, 0, 0) from rfl)) (Nat.zero_le _) (Nat.zero_le _) ⟨_, rfl, Is13, Fs13, JFDB_s13, x14, rfl, ⟨by first | exact hs13.2.2.2.2.2.2.1 | omega, by first | exact hs13.2.2.2.2.2.2.2 | omega⟩, ⟨by first | exact hs13.1 | omega, by first | exact hs13.2.1 | omega, by first | exact hs13.2.2.1 | omega, by first | exact hs13.2.2.2.1 | omega, by first | exact hs13.2.2.2.2.1 | omega, Qs13⟩⟩
set_option maxRecDepth 4000 in
theorem k_sumS5 (G : GX l s0 D tys a0 dT) {B : Nat → Int} {N : Int} {r : Nat} (hU : ∀ {s : PS}, Bd s → FDB B N s → (iI s 77 ≤ 203) → (iI s 78 + ((r : Nat) : Int) = 7) → (iI s 78 = 7 → iI s 79 ≠ 0) → CT l s0 D A dT 208 (rkR (3 * (r) + 1)) [.ref (A 179)] s (fun o t => Bd t ∧ Fm [77, 79, 80, 78] [] s t ∧ FDB B N t ∧ ∃ e, o = .inl (some (.int (Int32.ofInt e))) ∧ rng e ∧ (iI t 78 = iI s 78 ∧ iI s 77 ≤ iI t 77 ∧ (iI t 77 = iI s 77 ∨ iI t 77 ≤ 202) ∧ (iI s 79 ≠ 0 → iI t 79 ≠ 0) ∧ (iI t 79 = 0 → iI t 77 ≤ iI s 75) ∧ PFv (VLm (NMr s) (Int32.ofInt e)) B N 1 s t))) (I : Bd s) (jFDB : FDB B N s) (p0 : iI s 77 ≤ 203) (p1 : iI s 78 + ((r : Nat) : Int) = 7) (p2 : iI s 78 = 7 → iI s 79 ≠ 0) : CT l s0 D A dT 209 (rkR (3 * (r) + 2)) [.ref (A 179)] s (fun o t => Bd t ∧ Fm [77, 79, 80, 78] [] s t ∧ FDB B N t ∧ ∃ e, o = .inl (some (.int (Int32.ofInt e))) ∧ rng e ∧ (iI t 78 = iI s 78 ∧ iI s 77 ≤ iI t 77 ∧ (iI t 77 = iI s 77 ∨ iI t 77 ≤ 202) ∧ (iI s 79 ≠ 0 → iI t 79 ≠ 0) ∧ (iI t 79 = 0 → iI t 77 ≤ iI s 75) ∧ PFv (VLm (NMr s) (Int32.ofInt e)) B N 3 s t)) := by
  refine ct_of G (by decide) (Nat.le_of_ble_eq_true rfl) (fun k X E hRt hXt q => ?_)
  show WS k 0 [(0, .ref (A 179))] [] _ 0 0
  have F : Fm [77, 79, 80, 78] [] s s := fm_rf _ _ s
  have hN := jFDB.2.1
  have hW := jFDB.2.2
  have b1 : (0 : Int) ≤ iI s 77 ∧ iI s 77 ≤ 400 := I.1 77
  have b2 : (0 : Int) ≤ iI s 75 ∧ iI s 75 ≤ 200 := I.1 75
  have b3 : (0 : Int) ≤ iI s 79 ∧ iI s 79 ≤ 9 := I.1 79
  have b4 : (0 : Int) ≤ iI s 78 ∧ iI s 78 ≤ 8 := I.1 78
  have L9 : ∀ (n : Nat) (t : PS) (v : Int), Bd t → Fm [77, 79, 80, 78] [] s t → FDB B N t → (sk B N (iI t 77) = iI t 77 ∧ PRv (VLm (NMr s) (Int32.ofInt v)) B N 4 3 s t) → (iI t 78 = iI s 78 ∧ iI s 77 ≤ iI t 77 ∧ (iI t 77 = iI s 77 ∨ iI t 77 ≤ 202) ∧ (iI s 79 ≠ 0 → iI t 79 ≠ 0) ∧ (iI t 79 = 0 → iI t 77 ≤ iI s 75) ∧ iI t 75 = iI s 75 ∧ rng v) → (iI t 75 - iI t 77 : Int).toNat < n → (∀ (t' : PS) (v' : Int), Bd t' → Fm [77, 79, 80, 78] [] s t' → FDB B N t' → (PFv (VLm (NMr s) (Int32.ofInt v')) B N 3 s t') → (iI t' 78 = iI s 78 ∧ iI s 77 ≤ iI t' 77 ∧ (iI t' 77 = iI s 77 ∨ iI t' 77 ≤ 202) ∧ (iI s 79 ≠ 0 → iI t' 79 ≠ 0) ∧ (iI t' 79 = 0 → iI t' 77 ≤ iI s 75) ∧ iI t' 75 = iI s 75 ∧ rng v') → WS k 89 [(0, .ref (A 179)), (1, .int (Int32.ofInt v'))] [] (Wd A dT t') 0 0) → WS k 9 [(0, .ref (A 179)), (1, .int (Int32.ofInt v))] [] (Wd A dT t) 0 0 := by
    intro n
    induction n with
    | zero =>
      intro t v I F jjFDB hq hi hm kx
      exact absurd hm (Nat.not_lt_zero _)
    | succ n ih =>
      intro t v I F jjFDB hq hi hm kx
      have b1001 : (0 : Int) ≤ iI t 77 ∧ iI t 77 ≤ 400 := I.1 77
      have b1002 : (0 : Int) ≤ iI t 75 ∧ iI t 75 ≤ 200 := I.1 75
      have b1003 : (0 : Int) ≤ iI t 79 ∧ iI t 79 ≤ 9 := I.1 79
      have b1004 : (0 : Int) ≤ iI t 78 ∧ iI t 78 ≤ 8 := I.1 78
      have hN := jjFDB.2.1
      have hW := jjFDB.2.2
      refine z_aload_n X (x := A 179) (show cdA 209 9 = some (.aload_n 0, 1, 0, 0, 0) from rfl) (List.Mem.head _) ?_
      refine z_getI X 179 (show cdA 209 10 = some (.getfield 191, 3, 12, 6, 0) from rfl) (by decide) rfl rfl ?_
      have b1005 : (0 : Int) ≤ iI t 79 ∧ iI t 79 ≤ 9 := I.1 79
      refine z_if_ne X (t := 89) (show cdA 209 13 = some (.ifCond .ne 76, 3, 1, 0, 0) from rfl) (by decide) (rng_to _) (fun g1006 => ?_) (fun g1006 => ?_)
      ·
        refine WS_lv (lv := [(0, .ref (A 179)), (1, .int (Int32.ofInt v))]) (List.forall_mem_cons.mpr ⟨(List.Mem.head _), (List.forall_mem_cons.mpr ⟨(List.Mem.tail _ (List.Mem.head _)), (fun q h => absurd h List.not_mem_nil)⟩)⟩) ?_
        exact kx _ v I F jjFDB (by first | exact prm_fav (prm_mvv hq.2 (by rw [show iI t 77 = iI t 77 by omega]) (by omega)) (by omega) | exact prms_endv (prm_mvv hq.2 (by rw [show iI t 77 = iI t 77 by omega]) (by omega)) (by omega) (by rw [show iI t 77 = iI t 77 by omega, hq.1]; omega)) (by first | exact ⟨hi.1, hi.2.1, hi.2.2.1, hi.2.2.2.1, hi.2.2.2.2.1, hi.2.2.2.2.2.1, hi.2.2.2.2.2.2.1, hi.2.2.2.2.2.2.2⟩ | omega)
      ·
        refine z_aload_n X (x := A 179) (show cdA 209 16 = some (.aload_n 0, 1, 0, 0, 0) from rfl) (List.Mem.head _) ?_
        refine z_aload_n X (x := A 179) (show cdA 209 17 = some (.aload_n 0, 1, 0, 0, 0) from rfl) (List.Mem.head _) ?_
        refine z_getI X 179 (show cdA 209 18 = some (.getfield 184, 3, 12, 4, 0) from rfl) (by decide) rfl rfl ?_
        have b1007 : (0 : Int) ≤ iI t 77 ∧ iI t 77 ≤ 400 := I.1 77
        refine z_callV X 179 (rm := rmN 192) (As := [.int (Int32.ofInt (iI t 77))]) (st := []) (show cdA 209 21 = some (.invokevirtual 187, 3, 192, 0, 0) from rfl) rfl (by decide) rfl (by rw [E.1, E.2.1, E.2.2.1]; exact k_byteAt2 G I jjFDB (by first | exact ⟨b1007.1, oq_5a8480eb b1007.2⟩ | omega)) ⟨by rw [E.2.2.2]; exact (show 6 + 1 ≤ (12 + (3 * (r) + 2)) from oq_44aaa93c r), by rw [E.2.2.2]; exact (show 8 + (2 + 11) + 100 ≤ (500 + 45 * (3 * (r) + 2)) from oq_3a43be2e r), by rw [E.2.2.2]; exact Nat.le_refl 0, by rw [E.2.2.2]; exact Nat.le_refl 0⟩ (Nat.le_of_ble_eq_true rfl) (fun vv s1008 hq => ?_) (fun ee s1008 hq => ?_)
        rotate_left
        · obtain ⟨rfl, e1009, hv, hrs1008, hps1008⟩ := hq; cases hv
        obtain ⟨rfl, e1009, hv, hrs1008, hps1008⟩ := hq
        cases hv
        show WS k 24 [(0, .ref (A 179)), (1, .int (Int32.ofInt v))] [.int (Int32.ofInt e1009)] (Wd A dT t) 0 0
        refine z_bipush X (show cdA 209 24 = some (.bipush 43, 2, 0, 0, 43) from rfl) ?_
        refine z_icmp_eq X (t := 42) (show cdA 209 26 = some (.if_icmp .eq 16, 3, 0, 0, 0) from rfl) (by decide) hrs1008 (by decide) (fun g1010 => ?_) (fun g1010 => ?_)
        ·
          have hcd : chT B N (sk B N (iI t 77)) 43 ∨ chT B N (sk B N (iI t 77)) 45 := by rw [hq.1]; first | exact Or.inl ⟨by omega, by omega⟩ | exact Or.inr ⟨by omega, by omega⟩
          refine z_aload_n X (x := A 179) (show cdA 209 42 = some (.aload_n 0, 1, 0, 0, 0) from rfl) (List.Mem.head _) ?_
          refine z_aload_n X (x := A 179) (show cdA 209 43 = some (.aload_n 0, 1, 0, 0, 0) from rfl) (List.Mem.head _) ?_
          refine z_getI X 179 (show cdA 209 44 = some (.getfield 184, 3, 12, 4, 0) from rfl) (by decide) rfl rfl ?_
          have b1011 : (0 : Int) ≤ iI t 77 ∧ iI t 77 ≤ 400 := I.1 77
          refine z_callV X 179 (rm := rmN 192) (As := [.int (Int32.ofInt (iI t 77))]) (st := []) (show cdA 209 47 = some (.invokevirtual 187, 3, 192, 0, 0) from rfl) rfl (by decide) rfl (by rw [E.1, E.2.1, E.2.2.1]; exact k_byteAt2 G I jjFDB (by first | exact ⟨b1011.1, oq_5a8480eb b1011.2⟩ | omega)) ⟨by rw [E.2.2.2]; exact (show 6 + 1 ≤ (12 + (3 * (r) + 2)) from oq_44aaa93c r), by rw [E.2.2.2]; exact (show 8 + (2 + 11) + 100 ≤ (500 + 45 * (3 * (r) + 2)) from oq_3a43be2e r), by rw [E.2.2.2]; exact Nat.le_refl 0, by rw [E.2.2.2]; exact Nat.le_refl 0⟩ (Nat.le_of_ble_eq_true rfl) (fun vv s1012 hq => ?_) (fun ee s1012 hq => ?_)
          rotate_left
          · obtain ⟨rfl, e1013, hv, hrs1012, hps1012⟩ := hq; cases hv
          obtain ⟨rfl, e1013, hv, hrs1012, hps1012⟩ := hq
          cases hv
          show WS k 50 [(0, .ref (A 179)), (1, .int (Int32.ofInt v))] [.int (Int32.ofInt e1013)] (Wd A dT t) 0 0
          have hb2 := hps1012
          refine z_store_n X (lv' := [(2, .int (Int32.ofInt e1013)), (0, .ref (A 179)), (1, .int (Int32.ofInt v))]) (show cdA 209 50 = some (.istore_n 2, 1, 0, 0, 0) from rfl) (by decide) (fun _ h => h) ?_
          refine z_aload_n X (x := A 179) (show cdA 209 51 = some (.aload_n 0, 1, 0, 0, 0) from rfl) (List.Mem.tail _ (List.Mem.head _)) ?_
          refine w_dup X.1 (ax_d X (show cdA 209 52 = some (.dup, 1, 0, 0, 0) from rfl)) rfl ?_
          refine z_getI X 179 (show cdA 209 53 = some (.getfield 184, 3, 12, 4, 0) from rfl) (by decide) rfl rfl ?_
          have b1014 : (0 : Int) ≤ iI t 77 ∧ iI t 77 ≤ 400 := I.1 77
          refine z_const X (show cdA 209 56 = some (.iconst 1, 1, 0, 0, 0) from rfl) ?_
          refine z_add X (show cdA 209 57 = some (.iadd, 1, 0, 0, 0) from rfl) ?_
          refine s_putI X 179 (show cdA 209 58 = some (.putfield 184, 3, 12, 4, 0) from rfl) (by decide) rfl rfl (by decide) rfl rfl rfl ?_
          obtain ⟨s1015, hs1015⟩ : ∃ x0, x0 = uI t 77 (Int32.ofInt ((iI t 77) + 1)) := ⟨_, rfl⟩
          rw [← hs1015]
          have Is1015 : Bd s1015 := by rw [hs1015]; exact bd_I I (show (0 : Int) ≤ ((iI t 77) + 1) ∧ ((iI t 77) + 1) ≤ 400 by first | exact ⟨oq_54f49eb5 b1014.1, oq_886c3d04 hi.2.2.1 p0⟩ | omega) ⟨by first | exact oq_74de1e16 b1014.1 | omega, by first | exact oq_964ce197 b1014.2 | omega⟩
          have Fs1015 := fm_I (x := Int32.ofInt ((iI t 77) + 1)) F (show 77 ∈ _ by decide)
          rw [← hs1015] at Fs1015
          have vs1015 : iI s1015 77 = ((iI t 77) + 1) := by rw [hs1015]; exact iI_u ⟨by first | exact oq_74de1e16 b1014.1 | omega, by first | exact oq_964ce197 b1014.2 | omega⟩
          have ws1015_75 : iI s1015 75 = iI t 75 := by rw [hs1015]; rfl
          have ws1015_79 : iI s1015 79 = iI t 79 := by rw [hs1015]; rfl
          have ws1015_78 : iI s1015 78 = iI t 78 := by rw [hs1015]; rfl
          have fs1015 : Fm [77] [] t s1015 := by rw [hs1015]; exact fm_I (fm_rf _ _ _) (show 77 ∈ _ by decide)
          have JFDB_s1015 : FDB B N s1015 := FDB_fm fs1015 (by decide) jjFDB
          refine z_aload_n X (x := A 179) (show cdA 209 61 = some (.aload_n 0, 1, 0, 0, 0) from rfl) (List.Mem.tail _ (List.Mem.head _)) ?_
          refine z_callV X 179 (rm := (rkR (3 * (r) + 1))) (As := []) (st := []) (show cdA 209 62 = some (.invokevirtual 269, 3, 208, 0, 0) from rfl) rfl (by decide) rfl (by rw [E.1, E.2.1, E.2.2.1]; exact hU Is1015 JFDB_s1015 (by first | exact oq_b74d6776 vs1015 g1006 hi.2.2.2.2.1 b2.2 | omega) (by first | exact oq_2b041bab ws1015_78 p1 hi.1 | omega) (by first | exact oq_097bc645 ws1015_78 g1006 hi.2.2.2.1 hi.1 b3.1 p2 | omega)) ⟨by rw [E.2.2.2]; exact (show (12 + (3 * (r) + 1)) + 1 ≤ (12 + (3 * (r) + 2)) from oq_2a2b55d9 r), by rw [E.2.2.2]; exact (show 8 + (4 + 11) + (500 + 45 * (3 * (r) + 1)) ≤ (500 + 45 * (3 * (r) + 2)) from oq_6b10c96c r), by rw [E.2.2.2]; exact Nat.le_refl 0, by rw [E.2.2.2]; exact Nat.le_refl 0⟩ (Nat.le_of_ble_eq_true rfl) (fun vv s1016 hq => ?_) (fun ee s1016 hq => ?_)
          rotate_left
          · obtain ⟨Is1016, Fs1016, JFDB_s1016, e1017, hv, hrs1016, hps1016⟩ := hq; cases hv
          obtain ⟨Is1016, Fs1016, JFDB_s1016, e1017, hv, hrs1016, hps1016⟩ := hq
          cases hv
          have Gs1016 := fm_ts Fs1015 Fs1016 (by decide) (by decide)
          have JFDB_s1016 : FDB B N s1016 := FDB_fm Fs1016 (by decide) JFDB_s1015
          have b1018 : (0 : Int) ≤ iI s1016 77 ∧ iI s1016 77 ≤ 400 := Is1016.1 77
          have ws1016_75 : iI s1016 75 = iI s1015 75 := fm_i Fs1016 (by decide)
          have b1019 : (0 : Int) ≤ iI s1016 79 ∧ iI s1016 79 ≤ 9 := Is1016.1 79
          have b1020 : (0 : Int) ≤ iI s1016 78 ∧ iI s1016 78 ≤ 8 := Is1016.1 78
          show WS k 65 [(2, .int (Int32.ofInt e1013)), (0, .ref (A 179)), (1, .int (Int32.ofInt v))] [.int (Int32.ofInt e1017)] (Wd A dT s1016) 0 0
          refine z_store_n X (lv' := [(3, .int (Int32.ofInt e1017)), (2, .int (Int32.ofInt e1013)), (0, .ref (A 179)), (1, .int (Int32.ofInt v))]) (show cdA 209 65 = some (.istore_n 3, 1, 0, 0, 0) from rfl) (by decide) (fun _ h => h) ?_
          refine z_load_n X (x := e1013) (show cdA 209 66 = some (.iload_n 2, 1, 0, 0, 0) from rfl) (List.Mem.tail _ (List.Mem.head _)) ?_
          refine z_bipush X (show cdA 209 67 = some (.bipush 43, 2, 0, 0, 43) from rfl) ?_
          refine z_icmp_ne X (t := 78) (show cdA 209 69 = some (.if_icmp .ne 9, 3, 1, 0, 0) from rfl) (by decide) hrs1012 (by decide) (fun g1021 => ?_) (fun g1021 => ?_)
          ·
            refine z_load_n X (x := v) (show cdA 209 78 = some (.iload_n 1, 1, 0, 0, 0) from rfl) (List.Mem.tail _ (List.Mem.tail _ (List.Mem.tail _ (List.Mem.head _)))) ?_
            refine z_load_n X (x := e1017) (show cdA 209 79 = some (.iload_n 3, 1, 0, 0, 0) from rfl) (List.Mem.head _) ?_
            refine z_sub X (show cdA 209 80 = some (.isub, 1, 0, 0, 0) from rfl) ?_
            refine z_anyV (fun y1022 hy1022 ey1022 => ?_)
            refine z_store_n X (lv' := [(1, .int (Int32.ofInt y1022)), (3, .int (Int32.ofInt e1017)), (2, .int (Int32.ofInt e1013)), (0, .ref (A 179))]) (show cdA 209 81 = some (.istore_n 1, 1, 0, 0, 0) from rfl) (by decide) (fun _ h => h) ?_
            refine z_aload_n X (x := A 179) (show cdA 209 82 = some (.aload_n 0, 1, 0, 0, 0) from rfl) (List.Mem.tail _ (List.Mem.tail _ (List.Mem.tail _ (List.Mem.head _)))) ?_
            refine z_callV X 179 (rm := rmN 193) (As := []) (st := []) (show cdA 209 83 = some (.invokevirtual 197, 3, 193, 0, 0) from rfl) rfl (by decide) rfl (by rw [E.1, E.2.1, E.2.2.1]; exact k_blanks2 G Is1016 JFDB_s1016 (by first | exact oq_6d5be915 g1021 hps1012 g1010 hps1008 | omega)) ⟨by rw [E.2.2.2]; exact (show 7 + 1 ≤ (12 + (3 * (r) + 2)) from oq_eb6f61dd r), by rw [E.2.2.2]; exact (show 8 + (1 + 11) + 121 ≤ (500 + 45 * (3 * (r) + 2)) from oq_fbd0a6ff r), by rw [E.2.2.2]; exact Nat.le_refl 0, by rw [E.2.2.2]; exact Nat.le_refl 0⟩ (Nat.le_of_ble_eq_true rfl) (fun vv s1023 hq => ?_) (fun ee s1023 hq => ?_)
            rotate_left
            · obtain ⟨Is1023, Fs1023, JFDB_s1023, hv, hps1023⟩ := hq; cases hv
            obtain ⟨Is1023, Fs1023, JFDB_s1023, hv, hps1023⟩ := hq
            cases hv
            have Gs1023 := fm_ts Gs1016 Fs1023 (by decide) (by decide)
            have JFDB_s1023 : FDB B N s1023 := FDB_fm Fs1023 (by decide) JFDB_s1016
            have b1025 : (0 : Int) ≤ iI s1023 77 ∧ iI s1023 77 ≤ 400 := Is1023.1 77
            have ws1023_75 : iI s1023 75 = iI s1016 75 := fm_i Fs1023 (by decide)
            have ws1023_79 : iI s1023 79 = iI s1016 79 := fm_i Fs1023 (by decide)
            have ws1023_78 : iI s1023 78 = iI s1016 78 := fm_i Fs1023 (by decide)
            show WS k 86 [(1, .int (Int32.ofInt y1022)), (3, .int (Int32.ofInt e1017)), (2, .int (Int32.ofInt e1013)), (0, .ref (A 179))] [] (Wd A dT s1023) 0 0
            refine z_goto X (t := 9) (show cdA 209 86 = some (.goto (-77), 3, 0, 0, 0) from rfl) (by decide) ?_
            refine WS_lv (lv := [(0, .ref (A 179)), (1, .int (Int32.ofInt y1022))]) (List.forall_mem_cons.mpr ⟨(List.Mem.tail _ (List.Mem.tail _ (List.Mem.tail _ (List.Mem.head _)))), (List.forall_mem_cons.mpr ⟨(List.Mem.head _), (fun q h => absurd h List.not_mem_nil)⟩)⟩) ?_
            exact ih _ y1022 Is1023 Gs1023 JFDB_s1023 ⟨by rw [hps1023.1]; exact sk_sk, prm_mvv (prms_upv hq.2 (by omega) hcd (by rw [show iI s1015 77 = iI t 77 + 1 by omega, hq.1]) (by omega) (by omega) (pfv_c hps1016.2.2.2.2.2 (nmr_fm Fs1015 (by decide))) (fun a c ha hc => vl_up ha hc (opc_45 (by rw [hq.1]; omega)) (by decide) (jn_sub ey1022))) (by rw [hps1023.1]; exact sk_sk) (by omega)⟩ (by first | exact ⟨oq_45b593e3 ws1023_78 hi.1 hps1016.1 ws1015_78, oq_93076f9e hps1023.2.1 hps1016.2.1 vs1015 hi.2.1, oq_5b7d1403 g1021 hps1012 g1010 hps1008, oq_160137c6 g1021 hps1012 g1010 hps1008, oq_4a4c0d46 g1021 hps1012 g1010 hps1008, oq_45b593e3 ws1023_75 hi.2.2.2.2.2.1 ws1016_75 ws1015_75, hy1022.1, hy1022.2⟩ | omega) (by first | exact qk_me hm (oq_aae77179 ws1023_75 hps1023.2.1 ws1016_75 hps1016.2.1 ws1015_75 vs1015) (oq_ddf92a5b g1021 hps1012 g1010 hps1008) | omega) kx
          ·
            refine z_load_n X (x := v) (show cdA 209 72 = some (.iload_n 1, 1, 0, 0, 0) from rfl) (List.Mem.tail _ (List.Mem.tail _ (List.Mem.tail _ (List.Mem.head _)))) ?_
            refine z_load_n X (x := e1017) (show cdA 209 73 = some (.iload_n 3, 1, 0, 0, 0) from rfl) (List.Mem.head _) ?_
            refine z_add X (show cdA 209 74 = some (.iadd, 1, 0, 0, 0) from rfl) ?_
            refine z_anyV (fun y1026 hy1026 ey1026 => ?_)
            refine z_goto X (t := 81) (show cdA 209 75 = some (.goto 6, 3, 0, 0, 0) from rfl) (by decide) ?_
            refine z_store_n X (lv' := [(1, .int (Int32.ofInt y1026)), (3, .int (Int32.ofInt e1017)), (2, .int (Int32.ofInt e1013)), (0, .ref (A 179))]) (show cdA 209 81 = some (.istore_n 1, 1, 0, 0, 0) from rfl) (by decide) (fun _ h => h) ?_
            refine z_aload_n X (x := A 179) (show cdA 209 82 = some (.aload_n 0, 1, 0, 0, 0) from rfl) (List.Mem.tail _ (List.Mem.tail _ (List.Mem.tail _ (List.Mem.head _)))) ?_
            refine z_callV X 179 (rm := rmN 193) (As := []) (st := []) (show cdA 209 83 = some (.invokevirtual 197, 3, 193, 0, 0) from rfl) rfl (by decide) rfl (by rw [E.1, E.2.1, E.2.2.1]; exact k_blanks2 G Is1016 JFDB_s1016 (by first | exact oq_d255e8ca hps1016.2.2.1 vs1015 hi.2.2.1 p0 | omega)) ⟨by rw [E.2.2.2]; exact (show 7 + 1 ≤ (12 + (3 * (r) + 2)) from oq_eb6f61dd r), by rw [E.2.2.2]; exact (show 8 + (1 + 11) + 121 ≤ (500 + 45 * (3 * (r) + 2)) from oq_fbd0a6ff r), by rw [E.2.2.2]; exact Nat.le_refl 0, by rw [E.2.2.2]; exact Nat.le_refl 0⟩ (Nat.le_of_ble_eq_true rfl) (fun vv s1027 hq => ?_) (fun ee s1027 hq => ?_)
            rotate_left
            · obtain ⟨Is1027, Fs1027, JFDB_s1027, hv, hps1027⟩ := hq; cases hv
            obtain ⟨Is1027, Fs1027, JFDB_s1027, hv, hps1027⟩ := hq
            cases hv
            have Gs1027 := fm_ts Gs1016 Fs1027 (by decide) (by decide)
            have JFDB_s1027 : FDB B N s1027 := FDB_fm Fs1027 (by decide) JFDB_s1016
            have b1029 : (0 : Int) ≤ iI s1027 77 ∧ iI s1027 77 ≤ 400 := Is1027.1 77
            have ws1027_75 : iI s1027 75 = iI s1016 75 := fm_i Fs1027 (by decide)
            have ws1027_79 : iI s1027 79 = iI s1016 79 := fm_i Fs1027 (by decide)
            have ws1027_78 : iI s1027 78 = iI s1016 78 := fm_i Fs1027 (by decide)
            show WS k 86 [(1, .int (Int32.ofInt y1026)), (3, .int (Int32.ofInt e1017)), (2, .int (Int32.ofInt e1013)), (0, .ref (A 179))] [] (Wd A dT s1027) 0 0
            refine z_goto X (t := 9) (show cdA 209 86 = some (.goto (-77), 3, 0, 0, 0) from rfl) (by decide) ?_
            refine WS_lv (lv := [(0, .ref (A 179)), (1, .int (Int32.ofInt y1026))]) (List.forall_mem_cons.mpr ⟨(List.Mem.tail _ (List.Mem.tail _ (List.Mem.tail _ (List.Mem.head _)))), (List.forall_mem_cons.mpr ⟨(List.Mem.head _), (fun q h => absurd h List.not_mem_nil)⟩)⟩) ?_
            exact ih _ y1026 Is1027 Gs1027 JFDB_s1027 ⟨by rw [hps1027.1]; exact sk_sk, prm_mvv (prms_upv hq.2 (by omega) hcd (by rw [show iI s1015 77 = iI t 77 + 1 by omega, hq.1]) (by omega) (by omega) (pfv_c hps1016.2.2.2.2.2 (nmr_fm Fs1015 (by decide))) (fun a c ha hc => vl_up ha hc (opc_43 (by rw [hq.1]; omega)) (by decide) (jn_add ey1026))) (by rw [hps1027.1]; exact sk_sk) (by omega)⟩ (by first | exact ⟨oq_45b593e3 ws1027_78 hi.1 hps1016.1 ws1015_78, oq_93076f9e hps1027.2.1 hps1016.2.1 vs1015 hi.2.1, by omega, oq_67b737cd g1006 hi.2.2.2.1 b3.1, by omega, oq_45b593e3 ws1027_75 hi.2.2.2.2.2.1 ws1016_75 ws1015_75, hy1026.1, hy1026.2⟩ | omega) (by omega) kx
        ·
          refine z_aload_n X (x := A 179) (show cdA 209 29 = some (.aload_n 0, 1, 0, 0, 0) from rfl) (List.Mem.head _) ?_
          refine z_aload_n X (x := A 179) (show cdA 209 30 = some (.aload_n 0, 1, 0, 0, 0) from rfl) (List.Mem.head _) ?_
          refine z_getI X 179 (show cdA 209 31 = some (.getfield 184, 3, 12, 4, 0) from rfl) (by decide) rfl rfl ?_
          have b1030 : (0 : Int) ≤ iI t 77 ∧ iI t 77 ≤ 400 := I.1 77
          refine z_callV X 179 (rm := rmN 192) (As := [.int (Int32.ofInt (iI t 77))]) (st := []) (show cdA 209 34 = some (.invokevirtual 187, 3, 192, 0, 0) from rfl) rfl (by decide) rfl (by rw [E.1, E.2.1, E.2.2.1]; exact k_byteAt2 G I jjFDB (by first | exact ⟨b1030.1, oq_5a8480eb b1030.2⟩ | omega)) ⟨by rw [E.2.2.2]; exact (show 6 + 1 ≤ (12 + (3 * (r) + 2)) from oq_44aaa93c r), by rw [E.2.2.2]; exact (show 8 + (2 + 11) + 100 ≤ (500 + 45 * (3 * (r) + 2)) from oq_3a43be2e r), by rw [E.2.2.2]; exact Nat.le_refl 0, by rw [E.2.2.2]; exact Nat.le_refl 0⟩ (Nat.le_of_ble_eq_true rfl) (fun vv s1031 hq => ?_) (fun ee s1031 hq => ?_)
          rotate_left
          · obtain ⟨rfl, e1032, hv, hrs1031, hps1031⟩ := hq; cases hv
          obtain ⟨rfl, e1032, hv, hrs1031, hps1031⟩ := hq
          cases hv
          show WS k 37 [(0, .ref (A 179)), (1, .int (Int32.ofInt v))] [.int (Int32.ofInt e1032)] (Wd A dT t) 0 0
          refine z_bipush X (show cdA 209 37 = some (.bipush 45, 2, 0, 0, 45) from rfl) ?_
          refine z_icmp_ne X (t := 89) (show cdA 209 39 = some (.if_icmp .ne 50, 3, 1, 0, 0) from rfl) (by decide) hrs1031 (by decide) (fun g1033 => ?_) (fun g1033 => ?_)
          ·
            refine WS_lv (lv := [(0, .ref (A 179)), (1, .int (Int32.ofInt v))]) (List.forall_mem_cons.mpr ⟨(List.Mem.head _), (List.forall_mem_cons.mpr ⟨(List.Mem.tail _ (List.Mem.head _)), (fun q h => absurd h List.not_mem_nil)⟩)⟩) ?_
            exact kx _ v I F jjFDB (by first | exact prm_fav (prm_mvv hq.2 (by rw [show iI t 77 = iI t 77 by omega]) (by omega)) (by omega) | exact prms_endv (prm_mvv hq.2 (by rw [show iI t 77 = iI t 77 by omega]) (by omega)) (by omega) (by rw [show iI t 77 = iI t 77 by omega, hq.1]; omega)) (by first | exact ⟨hi.1, hi.2.1, hi.2.2.1, hi.2.2.2.1, hi.2.2.2.2.1, hi.2.2.2.2.2.1, hi.2.2.2.2.2.2.1, hi.2.2.2.2.2.2.2⟩ | omega)
          ·
            have hcd : chT B N (sk B N (iI t 77)) 43 ∨ chT B N (sk B N (iI t 77)) 45 := by rw [hq.1]; first | exact Or.inl ⟨by omega, by omega⟩ | exact Or.inr ⟨by omega, by omega⟩
            refine z_aload_n X (x := A 179) (show cdA 209 42 = some (.aload_n 0, 1, 0, 0, 0) from rfl) (List.Mem.head _) ?_
            refine z_aload_n X (x := A 179) (show cdA 209 43 = some (.aload_n 0, 1, 0, 0, 0) from rfl) (List.Mem.head _) ?_
            refine z_getI X 179 (show cdA 209 44 = some (.getfield 184, 3, 12, 4, 0) from rfl) (by decide) rfl rfl ?_
            have b1034 : (0 : Int) ≤ iI t 77 ∧ iI t 77 ≤ 400 := I.1 77
            refine z_callV X 179 (rm := rmN 192) (As := [.int (Int32.ofInt (iI t 77))]) (st := []) (show cdA 209 47 = some (.invokevirtual 187, 3, 192, 0, 0) from rfl) rfl (by decide) rfl (by rw [E.1, E.2.1, E.2.2.1]; exact k_byteAt2 G I jjFDB (by first | exact ⟨b1034.1, oq_5a8480eb b1034.2⟩ | omega)) ⟨by rw [E.2.2.2]; exact (show 6 + 1 ≤ (12 + (3 * (r) + 2)) from oq_44aaa93c r), by rw [E.2.2.2]; exact (show 8 + (2 + 11) + 100 ≤ (500 + 45 * (3 * (r) + 2)) from oq_3a43be2e r), by rw [E.2.2.2]; exact Nat.le_refl 0, by rw [E.2.2.2]; exact Nat.le_refl 0⟩ (Nat.le_of_ble_eq_true rfl) (fun vv s1035 hq => ?_) (fun ee s1035 hq => ?_)
            rotate_left
            · obtain ⟨rfl, e1036, hv, hrs1035, hps1035⟩ := hq; cases hv
            obtain ⟨rfl, e1036, hv, hrs1035, hps1035⟩ := hq
            cases hv
            show WS k 50 [(0, .ref (A 179)), (1, .int (Int32.ofInt v))] [.int (Int32.ofInt e1036)] (Wd A dT t) 0 0
            have hb2 := hps1035
            refine z_store_n X (lv' := [(2, .int (Int32.ofInt e1036)), (0, .ref (A 179)), (1, .int (Int32.ofInt v))]) (show cdA 209 50 = some (.istore_n 2, 1, 0, 0, 0) from rfl) (by decide) (fun _ h => h) ?_
            refine z_aload_n X (x := A 179) (show cdA 209 51 = some (.aload_n 0, 1, 0, 0, 0) from rfl) (List.Mem.tail _ (List.Mem.head _)) ?_
            refine w_dup X.1 (ax_d X (show cdA 209 52 = some (.dup, 1, 0, 0, 0) from rfl)) rfl ?_
            refine z_getI X 179 (show cdA 209 53 = some (.getfield 184, 3, 12, 4, 0) from rfl) (by decide) rfl rfl ?_
            have b1037 : (0 : Int) ≤ iI t 77 ∧ iI t 77 ≤ 400 := I.1 77
            refine z_const X (show cdA 209 56 = some (.iconst 1, 1, 0, 0, 0) from rfl) ?_
            refine z_add X (show cdA 209 57 = some (.iadd, 1, 0, 0, 0) from rfl) ?_
            refine s_putI X 179 (show cdA 209 58 = some (.putfield 184, 3, 12, 4, 0) from rfl) (by decide) rfl rfl (by decide) rfl rfl rfl ?_
            obtain ⟨s1038, hs1038⟩ : ∃ x0, x0 = uI t 77 (Int32.ofInt ((iI t 77) + 1)) := ⟨_, rfl⟩
            rw [← hs1038]
            have Is1038 : Bd s1038 := by rw [hs1038]; exact bd_I I (show (0 : Int) ≤ ((iI t 77) + 1) ∧ ((iI t 77) + 1) ≤ 400 by first | exact ⟨oq_54f49eb5 b1037.1, oq_886c3d04 hi.2.2.1 p0⟩ | omega) ⟨by first | exact oq_74de1e16 b1037.1 | omega, by first | exact oq_964ce197 b1037.2 | omega⟩
            have Fs1038 := fm_I (x := Int32.ofInt ((iI t 77) + 1)) F (show 77 ∈ _ by decide)
            rw [← hs1038] at Fs1038
            have vs1038 : iI s1038 77 = ((iI t 77) + 1) := by rw [hs1038]; exact iI_u ⟨by first | exact oq_74de1e16 b1037.1 | omega, by first | exact oq_964ce197 b1037.2 | omega⟩
            have ws1038_75 : iI s1038 75 = iI t 75 := by rw [hs1038]; rfl
            have ws1038_79 : iI s1038 79 = iI t 79 := by rw [hs1038]; rfl
            have ws1038_78 : iI s1038 78 = iI t 78 := by rw [hs1038]; rfl
            have fs1038 : Fm [77] [] t s1038 := by rw [hs1038]; exact fm_I (fm_rf _ _ _) (show 77 ∈ _ by decide)
            have JFDB_s1038 : FDB B N s1038 := FDB_fm fs1038 (by decide) jjFDB
            refine z_aload_n X (x := A 179) (show cdA 209 61 = some (.aload_n 0, 1, 0, 0, 0) from rfl) (List.Mem.tail _ (List.Mem.head _)) ?_
            refine z_callV X 179 (rm := (rkR (3 * (r) + 1))) (As := []) (st := []) (show cdA 209 62 = some (.invokevirtual 269, 3, 208, 0, 0) from rfl) rfl (by decide) rfl (by rw [E.1, E.2.1, E.2.2.1]; exact hU Is1038 JFDB_s1038 (by first | exact oq_b74d6776 vs1038 g1006 hi.2.2.2.2.1 b2.2 | omega) (by first | exact oq_2b041bab ws1038_78 p1 hi.1 | omega) (by first | exact oq_097bc645 ws1038_78 g1006 hi.2.2.2.1 hi.1 b3.1 p2 | omega)) ⟨by rw [E.2.2.2]; exact (show (12 + (3 * (r) + 1)) + 1 ≤ (12 + (3 * (r) + 2)) from oq_2a2b55d9 r), by rw [E.2.2.2]; exact (show 8 + (4 + 11) + (500 + 45 * (3 * (r) + 1)) ≤ (500 + 45 * (3 * (r) + 2)) from oq_6b10c96c r), by rw [E.2.2.2]; exact Nat.le_refl 0, by rw [E.2.2.2]; exact Nat.le_refl 0⟩ (Nat.le_of_ble_eq_true rfl) (fun vv s1039 hq => ?_) (fun ee s1039 hq => ?_)
            rotate_left
            · obtain ⟨Is1039, Fs1039, JFDB_s1039, e1040, hv, hrs1039, hps1039⟩ := hq; cases hv
            obtain ⟨Is1039, Fs1039, JFDB_s1039, e1040, hv, hrs1039, hps1039⟩ := hq
            cases hv
            have Gs1039 := fm_ts Fs1038 Fs1039 (by decide) (by decide)
            have JFDB_s1039 : FDB B N s1039 := FDB_fm Fs1039 (by decide) JFDB_s1038
            have b1041 : (0 : Int) ≤ iI s1039 77 ∧ iI s1039 77 ≤ 400 := Is1039.1 77
            have ws1039_75 : iI s1039 75 = iI s1038 75 := fm_i Fs1039 (by decide)
            have b1042 : (0 : Int) ≤ iI s1039 79 ∧ iI s1039 79 ≤ 9 := Is1039.1 79
            have b1043 : (0 : Int) ≤ iI s1039 78 ∧ iI s1039 78 ≤ 8 := Is1039.1 78
            show WS k 65 [(2, .int (Int32.ofInt e1036)), (0, .ref (A 179)), (1, .int (Int32.ofInt v))] [.int (Int32.ofInt e1040)] (Wd A dT s1039) 0 0
            refine z_store_n X (lv' := [(3, .int (Int32.ofInt e1040)), (2, .int (Int32.ofInt e1036)), (0, .ref (A 179)), (1, .int (Int32.ofInt v))]) (show cdA 209 65 = some (.istore_n 3, 1, 0, 0, 0) from rfl) (by decide) (fun _ h => h) ?_
            refine z_load_n X (x := e1036) (show cdA 209 66 = some (.iload_n 2, 1, 0, 0, 0) from rfl) (List.Mem.tail _ (List.Mem.head _)) ?_
            refine z_bipush X (show cdA 209 67 = some (.bipush 43, 2, 0, 0, 43) from rfl) ?_
            refine z_icmp_ne X (t := 78) (show cdA 209 69 = some (.if_icmp .ne 9, 3, 1, 0, 0) from rfl) (by decide) hrs1035 (by decide) (fun g1044 => ?_) (fun g1044 => ?_)
            ·
              refine z_load_n X (x := v) (show cdA 209 78 = some (.iload_n 1, 1, 0, 0, 0) from rfl) (List.Mem.tail _ (List.Mem.tail _ (List.Mem.tail _ (List.Mem.head _)))) ?_
              refine z_load_n X (x := e1040) (show cdA 209 79 = some (.iload_n 3, 1, 0, 0, 0) from rfl) (List.Mem.head _) ?_
              refine z_sub X (show cdA 209 80 = some (.isub, 1, 0, 0, 0) from rfl) ?_
              refine z_anyV (fun y1045 hy1045 ey1045 => ?_)
              refine z_store_n X (lv' := [(1, .int (Int32.ofInt y1045)), (3, .int (Int32.ofInt e1040)), (2, .int (Int32.ofInt e1036)), (0, .ref (A 179))]) (show cdA 209 81 = some (.istore_n 1, 1, 0, 0, 0) from rfl) (by decide) (fun _ h => h) ?_
              refine z_aload_n X (x := A 179) (show cdA 209 82 = some (.aload_n 0, 1, 0, 0, 0) from rfl) (List.Mem.tail _ (List.Mem.tail _ (List.Mem.tail _ (List.Mem.head _)))) ?_
              refine z_callV X 179 (rm := rmN 193) (As := []) (st := []) (show cdA 209 83 = some (.invokevirtual 197, 3, 193, 0, 0) from rfl) rfl (by decide) rfl (by rw [E.1, E.2.1, E.2.2.1]; exact k_blanks2 G Is1039 JFDB_s1039 (by first | exact oq_d255e8ca hps1039.2.2.1 vs1038 hi.2.2.1 p0 | omega)) ⟨by rw [E.2.2.2]; exact (show 7 + 1 ≤ (12 + (3 * (r) + 2)) from oq_eb6f61dd r), by rw [E.2.2.2]; exact (show 8 + (1 + 11) + 121 ≤ (500 + 45 * (3 * (r) + 2)) from oq_fbd0a6ff r), by rw [E.2.2.2]; exact Nat.le_refl 0, by rw [E.2.2.2]; exact Nat.le_refl 0⟩ (Nat.le_of_ble_eq_true rfl) (fun vv s1046 hq => ?_) (fun ee s1046 hq => ?_)
              rotate_left
              · obtain ⟨Is1046, Fs1046, JFDB_s1046, hv, hps1046⟩ := hq; cases hv
              obtain ⟨Is1046, Fs1046, JFDB_s1046, hv, hps1046⟩ := hq
              cases hv
              have Gs1046 := fm_ts Gs1039 Fs1046 (by decide) (by decide)
              have JFDB_s1046 : FDB B N s1046 := FDB_fm Fs1046 (by decide) JFDB_s1039
              have b1048 : (0 : Int) ≤ iI s1046 77 ∧ iI s1046 77 ≤ 400 := Is1046.1 77
              have ws1046_75 : iI s1046 75 = iI s1039 75 := fm_i Fs1046 (by decide)
              have ws1046_79 : iI s1046 79 = iI s1039 79 := fm_i Fs1046 (by decide)
              have ws1046_78 : iI s1046 78 = iI s1039 78 := fm_i Fs1046 (by decide)
              show WS k 86 [(1, .int (Int32.ofInt y1045)), (3, .int (Int32.ofInt e1040)), (2, .int (Int32.ofInt e1036)), (0, .ref (A 179))] [] (Wd A dT s1046) 0 0
              refine z_goto X (t := 9) (show cdA 209 86 = some (.goto (-77), 3, 0, 0, 0) from rfl) (by decide) ?_
              refine WS_lv (lv := [(0, .ref (A 179)), (1, .int (Int32.ofInt y1045))]) (List.forall_mem_cons.mpr ⟨(List.Mem.tail _ (List.Mem.tail _ (List.Mem.tail _ (List.Mem.head _)))), (List.forall_mem_cons.mpr ⟨(List.Mem.head _), (fun q h => absurd h List.not_mem_nil)⟩)⟩) ?_
              exact ih _ y1045 Is1046 Gs1046 JFDB_s1046 ⟨by rw [hps1046.1]; exact sk_sk, prm_mvv (prms_upv hq.2 (by omega) hcd (by rw [show iI s1038 77 = iI t 77 + 1 by omega, hq.1]) (by omega) (by omega) (pfv_c hps1039.2.2.2.2.2 (nmr_fm Fs1038 (by decide))) (fun a c ha hc => vl_up ha hc (opc_45 (by rw [hq.1]; omega)) (by decide) (jn_sub ey1045))) (by rw [hps1046.1]; exact sk_sk) (by omega)⟩ (by first | exact ⟨oq_45b593e3 ws1046_78 hi.1 hps1039.1 ws1038_78, oq_93076f9e hps1046.2.1 hps1039.2.1 vs1038 hi.2.1, by omega, oq_67b737cd g1006 hi.2.2.2.1 b3.1, by omega, oq_45b593e3 ws1046_75 hi.2.2.2.2.2.1 ws1039_75 ws1038_75, hy1045.1, hy1045.2⟩ | omega) (by omega) kx
            ·
              refine z_load_n X (x := v) (show cdA 209 72 = some (.iload_n 1, 1, 0, 0, 0) from rfl) (List.Mem.tail _ (List.Mem.tail _ (List.Mem.tail _ (List.Mem.head _)))) ?_
              refine z_load_n X (x := e1040) (show cdA 209 73 = some (.iload_n 3, 1, 0, 0, 0) from rfl) (List.Mem.head _) ?_
              refine z_add X (show cdA 209 74 = some (.iadd, 1, 0, 0, 0) from rfl) ?_
              refine z_anyV (fun y1049 hy1049 ey1049 => ?_)
              refine z_goto X (t := 81) (show cdA 209 75 = some (.goto 6, 3, 0, 0, 0) from rfl) (by decide) ?_
              refine z_store_n X (lv' := [(1, .int (Int32.ofInt y1049)), (3, .int (Int32.ofInt e1040)), (2, .int (Int32.ofInt e1036)), (0, .ref (A 179))]) (show cdA 209 81 = some (.istore_n 1, 1, 0, 0, 0) from rfl) (by decide) (fun _ h => h) ?_
              refine z_aload_n X (x := A 179) (show cdA 209 82 = some (.aload_n 0, 1, 0, 0, 0) from rfl) (List.Mem.tail _ (List.Mem.tail _ (List.Mem.tail _ (List.Mem.head _)))) ?_
              refine z_callV X 179 (rm := rmN 193) (As := []) (st := []) (show cdA 209 83 = some (.invokevirtual 197, 3, 193, 0, 0) from rfl) rfl (by decide) rfl (by rw [E.1, E.2.1, E.2.2.1]; exact k_blanks2 G Is1039 JFDB_s1039 (by first | exact oq_5505896c g1044 hps1035 g1033 hps1031 | omega)) ⟨by rw [E.2.2.2]; exact (show 7 + 1 ≤ (12 + (3 * (r) + 2)) from oq_eb6f61dd r), by rw [E.2.2.2]; exact (show 8 + (1 + 11) + 121 ≤ (500 + 45 * (3 * (r) + 2)) from oq_fbd0a6ff r), by rw [E.2.2.2]; exact Nat.le_refl 0, by rw [E.2.2.2]; exact Nat.le_refl 0⟩ (Nat.le_of_ble_eq_true rfl) (fun vv s1050 hq => ?_) (fun ee s1050 hq => ?_)
              rotate_left
              · obtain ⟨Is1050, Fs1050, JFDB_s1050, hv, hps1050⟩ := hq; cases hv
              obtain ⟨Is1050, Fs1050, JFDB_s1050, hv, hps1050⟩ := hq
              cases hv
              have Gs1050 := fm_ts Gs1039 Fs1050 (by decide) (by decide)
              have JFDB_s1050 : FDB B N s1050 := FDB_fm Fs1050 (by decide) JFDB_s1039
              have b1052 : (0 : Int) ≤ iI s1050 77 ∧ iI s1050 77 ≤ 400 := Is1050.1 77
              have ws1050_75 : iI s1050 75 = iI s1039 75 := fm_i Fs1050 (by decide)
              have ws1050_79 : iI s1050 79 = iI s1039 79 := fm_i Fs1050 (by decide)
              have ws1050_78 : iI s1050 78 = iI s1039 78 := fm_i Fs1050 (by decide)
              show WS k 86 [(1, .int (Int32.ofInt y1049)), (3, .int (Int32.ofInt e1040)), (2, .int (Int32.ofInt e1036)), (0, .ref (A 179))] [] (Wd A dT s1050) 0 0
              refine z_goto X (t := 9) (show cdA 209 86 = some (.goto (-77), 3, 0, 0, 0) from rfl) (by decide) ?_
              refine WS_lv (lv := [(0, .ref (A 179)), (1, .int (Int32.ofInt y1049))]) (List.forall_mem_cons.mpr ⟨(List.Mem.tail _ (List.Mem.tail _ (List.Mem.tail _ (List.Mem.head _)))), (List.forall_mem_cons.mpr ⟨(List.Mem.head _), (fun q h => absurd h List.not_mem_nil)⟩)⟩) ?_
              exact ih _ y1049 Is1050 Gs1050 JFDB_s1050 ⟨by rw [hps1050.1]; exact sk_sk, prm_mvv (prms_upv hq.2 (by omega) hcd (by rw [show iI s1038 77 = iI t 77 + 1 by omega, hq.1]) (by omega) (by omega) (pfv_c hps1039.2.2.2.2.2 (nmr_fm Fs1038 (by decide))) (fun a c ha hc => vl_up ha hc (opc_43 (by rw [hq.1]; omega)) (by decide) (jn_add ey1049))) (by rw [hps1050.1]; exact sk_sk) (by omega)⟩ (by first | exact ⟨oq_45b593e3 ws1050_78 hi.1 hps1039.1 ws1038_78, oq_93076f9e hps1050.2.1 hps1039.2.1 vs1038 hi.2.1, oq_2b5aa823 g1044 hps1035 g1033 hps1031, oq_817ab47d g1044 hps1035 g1033 hps1031, oq_f9ebf227 g1044 hps1035 g1033 hps1031, oq_45b593e3 ws1050_75 hi.2.2.2.2.2.1 ws1039_75 ws1038_75, hy1049.1, hy1049.2⟩ | omega) (by first | exact qk_me hm (oq_aae77179 ws1050_75 hps1050.2.1 ws1039_75 hps1039.2.1 ws1038_75 vs1038) (oq_a5ea012a g1044 hps1035 g1033 hps1031) | omega) kx
  refine z_aload_n X (x := A 179) (show cdA 209 0 = some (.aload_n 0, 1, 0, 0, 0) from rfl) (List.Mem.head _) ?_
  refine z_callV X 179 (rm := (rkR (3 * (r) + 1))) (As := []) (st := []) (show cdA 209 1 = some (.invokevirtual 269, 3, 208, 0, 0) from rfl) rfl (by decide) rfl (by rw [E.1, E.2.1, E.2.2.1]; exact hU I jFDB (by first | exact p0 | omega) (by first | exact p1 | omega) (by first | exact p2 | omega)) ⟨by rw [E.2.2.2]; exact (show (12 + (3 * (r) + 1)) + 1 ≤ (12 + (3 * (r) + 2)) from oq_2a2b55d9 r), by rw [E.2.2.2]; exact (show 8 + (4 + 11) + (500 + 45 * (3 * (r) + 1)) ≤ (500 + 45 * (3 * (r) + 2)) from oq_6b10c96c r), by rw [E.2.2.2]; exact Nat.le_refl 0, by rw [E.2.2.2]; exact Nat.le_refl 0⟩ (Nat.le_of_ble_eq_true rfl) (fun vv s5 hq => ?_) (fun ee s5 hq => ?_)
  rotate_left
  · obtain ⟨Is5, Fs5, JFDB_s5, e6, hv, hrs5, hps5⟩ := hq; cases hv
  obtain ⟨Is5, Fs5, JFDB_s5, e6, hv, hrs5, hps5⟩ := hq
  cases hv
  have Gs5 := fm_ts F Fs5 (by decide) (by decide)
  have JFDB_s5 : FDB B N s5 := FDB_fm Fs5 (by decide) jFDB
  have b7 : (0 : Int) ≤ iI s5 77 ∧ iI s5 77 ≤ 400 := Is5.1 77
  have ws5_75 : iI s5 75 = iI s 75 := fm_i Fs5 (by decide)
  have b8 : (0 : Int) ≤ iI s5 79 ∧ iI s5 79 ≤ 9 := Is5.1 79
  have b9 : (0 : Int) ≤ iI s5 78 ∧ iI s5 78 ≤ 8 := Is5.1 78
  show WS k 4 [(0, .ref (A 179))] [.int (Int32.ofInt e6)] (Wd A dT s5) 0 0
  refine z_store_n X (lv' := [(1, .int (Int32.ofInt e6)), (0, .ref (A 179))]) (show cdA 209 4 = some (.istore_n 1, 1, 0, 0, 0) from rfl) (by decide) (fun _ h => h) ?_
  refine z_aload_n X (x := A 179) (show cdA 209 5 = some (.aload_n 0, 1, 0, 0, 0) from rfl) (List.Mem.tail _ (List.Mem.head _)) ?_
  refine z_callV X 179 (rm := rmN 193) (As := []) (st := []) (show cdA 209 6 = some (.invokevirtual 197, 3, 193, 0, 0) from rfl) rfl (by decide) rfl (by rw [E.1, E.2.1, E.2.2.1]; exact k_blanks2 G Is5 JFDB_s5 (by first | exact oq_299765ef hps5.2.2.1 p0 | omega)) ⟨by rw [E.2.2.2]; exact (show 7 + 1 ≤ (12 + (3 * (r) + 2)) from oq_eb6f61dd r), by rw [E.2.2.2]; exact (show 8 + (1 + 11) + 121 ≤ (500 + 45 * (3 * (r) + 2)) from oq_fbd0a6ff r), by rw [E.2.2.2]; exact Nat.le_refl 0, by rw [E.2.2.2]; exact Nat.le_refl 0⟩ (Nat.le_of_ble_eq_true rfl) (fun vv s10 hq => ?_) (fun ee s10 hq => ?_)
  rotate_left
  · obtain ⟨Is10, Fs10, JFDB_s10, hv, hps10⟩ := hq; cases hv
  obtain ⟨Is10, Fs10, JFDB_s10, hv, hps10⟩ := hq
  cases hv
  have Gs10 := fm_ts Gs5 Fs10 (by decide) (by decide)
  have JFDB_s10 : FDB B N s10 := FDB_fm Fs10 (by decide) JFDB_s5
  have b12 : (0 : Int) ≤ iI s10 77 ∧ iI s10 77 ≤ 400 := Is10.1 77
  have ws10_75 : iI s10 75 = iI s5 75 := fm_i Fs10 (by decide)
  have ws10_79 : iI s10 79 = iI s5 79 := fm_i Fs10 (by decide)
  have ws10_78 : iI s10 78 = iI s5 78 := fm_i Fs10 (by decide)
  show WS k 9 [(1, .int (Int32.ofInt e6)), (0, .ref (A 179))] [] (Wd A dT s10) 0 0
  refine WS_lv (lv := [(0, .ref (A 179)), (1, .int (Int32.ofInt e6))]) (List.forall_mem_cons.mpr ⟨(List.Mem.tail _ (List.Mem.head _)), (List.forall_mem_cons.mpr ⟨(List.Mem.head _), (fun q h => absurd h List.not_mem_nil)⟩)⟩) ?_
  refine L9 ((iI s10 75 - iI s10 77 : Int).toNat + 1) s10 e6 Is10 Gs10 JFDB_s10 ⟨by rw [hps10.1]; exact sk_sk, prm_mvv (prms_0v hps5.2.2.2.2.2) (by rw [hps10.1]; exact sk_sk) (by omega)⟩ (by omega) (Nat.lt_succ_self _) ?_
  intro s13 x14 Is13 Fs13 JFDB_s13 Qs13 hs13
  have b15 : (0 : Int) ≤ iI s13 77 ∧ iI s13 77 ≤ 400 := Is13.1 77
  have b16 : (0 : Int) ≤ iI s13 75 ∧ iI s13 75 ≤ 200 := Is13.1 75
  have b17 : (0 : Int) ≤ iI s13 79 ∧ iI s13 79 ≤ 9 := Is13.1 79
  have b18 : (0 : Int) ≤ iI s13 78 ∧ iI s13 78 ≤ 8 := Is13.1 78
  have hNs13 := JFDB_s13.2.1
  have hWs13 := JFDB_s13.2.2
  refine z_load_n X (x := x14) (show cdA 209 89 = some (.iload_n 1, 1, 0, 0, 0) from rfl) (List.Mem.tail _ (List.Mem.head _)) ?_
  exact w_iret X.1 q hRt rfl (ax_d X (show cdA 209 90 = some (.ireturn, 1, 0, 0, 0) from rfl)) (Nat.zero_le _) (Nat.zero_le _) ⟨_, rfl, Is13, Fs13, JFDB_s13, x14, rfl, ⟨by first | exact hs13.2.2.2.2.2.2.1 | omega, by first | exact hs13.2.2.2.2.2.2.2 | omega⟩, ⟨by first | exact hs13.1 | omega, by first | exact hs13.2.1 | omega, by first | exact hs13.2.2.1 | omega, by first | exact hs13.2.2.2.1 | omega, by first | exact hs13.2.2.2.2.1 | omega, Qs13⟩⟩
theorem k_sumr5 (G : GX l s0 D tys a0 dT) {B : Nat → Int} {N : Int} (r : Nat) : (∀ {s : PS}, Bd s → FDB B N s → (iI s 77 ≤ 203) → (iI s 78 + ((r : Nat) : Int) = 7) → (iI s 78 = 7 → iI s 79 ≠ 0) → CT l s0 D A dT 207 (rkR (3 * (r))) [.ref (A 179)] s (fun o t => Bd t ∧ Fm [77, 79, 80, 78] [] s t ∧ FDB B N t ∧ ∃ e, o = .inl (some (.int (Int32.ofInt e))) ∧ rng e ∧ (iI t 78 = iI s 78 ∧ iI s 77 ≤ iI t 77 ∧ (iI t 77 = iI s 77 ∨ iI t 77 ≤ 202) ∧ (iI s 79 ≠ 0 → iI t 79 ≠ 0) ∧ (iI t 79 = 0 → iI t 77 ≤ iI s 75) ∧ PFv (VLm (NMr s) (Int32.ofInt e)) B N 0 s t))) ∧ (∀ {s : PS}, Bd s → FDB B N s → (iI s 77 ≤ 203) → (iI s 78 + ((r : Nat) : Int) = 7) → (iI s 78 = 7 → iI s 79 ≠ 0) → CT l s0 D A dT 208 (rkR (3 * (r) + 1)) [.ref (A 179)] s (fun o t => Bd t ∧ Fm [77, 79, 80, 78] [] s t ∧ FDB B N t ∧ ∃ e, o = .inl (some (.int (Int32.ofInt e))) ∧ rng e ∧ (iI t 78 = iI s 78 ∧ iI s 77 ≤ iI t 77 ∧ (iI t 77 = iI s 77 ∨ iI t 77 ≤ 202) ∧ (iI s 79 ≠ 0 → iI t 79 ≠ 0) ∧ (iI t 79 = 0 → iI t 77 ≤ iI s 75) ∧ PFv (VLm (NMr s) (Int32.ofInt e)) B N 1 s t))) ∧ (∀ {s : PS}, Bd s → FDB B N s → (iI s 77 ≤ 203) → (iI s 78 + ((r : Nat) : Int) = 7) → (iI s 78 = 7 → iI s 79 ≠ 0) → CT l s0 D A dT 209 (rkR (3 * (r) + 2)) [.ref (A 179)] s (fun o t => Bd t ∧ Fm [77, 79, 80, 78] [] s t ∧ FDB B N t ∧ ∃ e, o = .inl (some (.int (Int32.ofInt e))) ∧ rng e ∧ (iI t 78 = iI s 78 ∧ iI s 77 ≤ iI t 77 ∧ (iI t 77 = iI s 77 ∨ iI t 77 ≤ 202) ∧ (iI s 79 ≠ 0 → iI t 79 ≠ 0) ∧ (iI t 79 = 0 → iI t 77 ≤ iI s 75) ∧ PFv (VLm (NMr s) (Int32.ofInt e)) B N 3 s t))) := by
  induction r with
  | zero =>
    have hU : ∀ {s : PS}, Bd s → FDB B N s → (iI s 77 ≤ 203) → (iI s 78 + ((0 : Nat) : Int) = 7) → (iI s 78 = 7 → iI s 79 ≠ 0) → CT l s0 D A dT 207 (rkR (3 * (0))) [.ref (A 179)] s (fun o t => Bd t ∧ Fm [77, 79, 80, 78] [] s t ∧ FDB B N t ∧ ∃ e, o = .inl (some (.int (Int32.ofInt e))) ∧ rng e ∧ (iI t 78 = iI s 78 ∧ iI s 77 ≤ iI t 77 ∧ (iI t 77 = iI s 77 ∨ iI t 77 ≤ 202) ∧ (iI s 79 ≠ 0 → iI t 79 ≠ 0) ∧ (iI t 79 = 0 → iI t 77 ≤ iI s 75) ∧ PFv (VLm (NMr s) (Int32.ofInt e)) B N 0 s t)) := fun {_} I j p0 p1 p2 => k_unit05 G I j p0 p1 p2
    have hP : ∀ {s : PS}, Bd s → FDB B N s → (iI s 77 ≤ 203) → (iI s 78 + ((0 : Nat) : Int) = 7) → (iI s 78 = 7 → iI s 79 ≠ 0) → CT l s0 D A dT 208 (rkR (3 * (0) + 1)) [.ref (A 179)] s (fun o t => Bd t ∧ Fm [77, 79, 80, 78] [] s t ∧ FDB B N t ∧ ∃ e, o = .inl (some (.int (Int32.ofInt e))) ∧ rng e ∧ (iI t 78 = iI s 78 ∧ iI s 77 ≤ iI t 77 ∧ (iI t 77 = iI s 77 ∨ iI t 77 ≤ 202) ∧ (iI s 79 ≠ 0 → iI t 79 ≠ 0) ∧ (iI t 79 = 0 → iI t 77 ≤ iI s 75) ∧ PFv (VLm (NMr s) (Int32.ofInt e)) B N 1 s t)) := fun {_} I j p0 p1 p2 => k_productS5 (r := 0) G hU I j p0 p1 p2
    exact ⟨hU, hP, fun {_} I j p0 p1 p2 => k_sumS5 (r := 0) G hP I j p0 p1 p2⟩
  | succ r ih =>
    have hU : ∀ {s : PS}, Bd s → FDB B N s → (iI s 77 ≤ 203) → (iI s 78 + ((r + 1 : Nat) : Int) = 7) → (iI s 78 = 7 → iI s 79 ≠ 0) → CT l s0 D A dT 207 (rkR (3 * (r + 1))) [.ref (A 179)] s (fun o t => Bd t ∧ Fm [77, 79, 80, 78] [] s t ∧ FDB B N t ∧ ∃ e, o = .inl (some (.int (Int32.ofInt e))) ∧ rng e ∧ (iI t 78 = iI s 78 ∧ iI s 77 ≤ iI t 77 ∧ (iI t 77 = iI s 77 ∨ iI t 77 ≤ 202) ∧ (iI s 79 ≠ 0 → iI t 79 ≠ 0) ∧ (iI t 79 = 0 → iI t 77 ≤ iI s 75) ∧ PFv (VLm (NMr s) (Int32.ofInt e)) B N 0 s t)) := fun {_} I j p0 p1 p2 => k_unitS5 G ih.2.2 I j p0 p1 p2
    have hP : ∀ {s : PS}, Bd s → FDB B N s → (iI s 77 ≤ 203) → (iI s 78 + ((r + 1 : Nat) : Int) = 7) → (iI s 78 = 7 → iI s 79 ≠ 0) → CT l s0 D A dT 208 (rkR (3 * (r + 1) + 1)) [.ref (A 179)] s (fun o t => Bd t ∧ Fm [77, 79, 80, 78] [] s t ∧ FDB B N t ∧ ∃ e, o = .inl (some (.int (Int32.ofInt e))) ∧ rng e ∧ (iI t 78 = iI s 78 ∧ iI s 77 ≤ iI t 77 ∧ (iI t 77 = iI s 77 ∨ iI t 77 ≤ 202) ∧ (iI s 79 ≠ 0 → iI t 79 ≠ 0) ∧ (iI t 79 = 0 → iI t 77 ≤ iI s 75) ∧ PFv (VLm (NMr s) (Int32.ofInt e)) B N 1 s t)) := fun {_} I j p0 p1 p2 => k_productS5 (r := r + 1) G hU I j p0 p1 p2
    exact ⟨hU, hP, fun {_} I j p0 p1 p2 => k_sumS5 (r := r + 1) G hP I j p0 p1 p2⟩
set_option maxRecDepth 4000 in
theorem k_test05 (G : GX l s0 D tys a0 dT) {B : Nat → Int} {N : Int} (I : Bd s) (jFDB : FDB B N s) (p0 : iI s 77 ≤ 203) (p1 : iI s 78 + ((0 : Nat) : Int) = 7) (p2 : iI s 78 = 7 → iI s 79 ≠ 0) (p3 : iI s 79 = 0 → iI s 77 ≤ 202) : CT l s0 D A dT 210 (rkR (24 + 3 * (0))) [.ref (A 179)] s (fun o t => Bd t ∧ Fm [77, 79, 80, 78] [] s t ∧ FDB B N t ∧ ∃ e, o = .inl (some (.int (Int32.ofInt e))) ∧ rng e ∧ (iI t 78 = iI s 78 ∧ iI s 77 ≤ iI t 77 ∧ (iI t 77 = iI s 77 ∨ iI t 77 ≤ 203) ∧ (iI s 79 ≠ 0 → iI t 79 ≠ 0) ∧ (iI t 79 = 0 → iI t 77 ≤ iI s 75) ∧ (iI s 79 = 0 → iI s 77 < iI t 77) ∧ (e = 0 ∨ e = 1) ∧ PFv (VLm (NMr s) (Int32.ofInt e)) B N 5 s t)) := by
  refine ct_of G (by decide) (Nat.le_of_ble_eq_true rfl) (fun k X E hRt hXt q => ?_)
  show WS k 0 [(0, .ref (A 179))] [] _ 0 0
  have F : Fm [77, 79, 80, 78] [] s s := fm_rf _ _ s
  have hN := jFDB.2.1
  have hW := jFDB.2.2
  have b1 : (0 : Int) ≤ iI s 77 ∧ iI s 77 ≤ 400 := I.1 77
  have b2 : (0 : Int) ≤ iI s 75 ∧ iI s 75 ≤ 200 := I.1 75
  have b3 : (0 : Int) ≤ iI s 79 ∧ iI s 79 ≤ 9 := I.1 79
  have b4 : (0 : Int) ≤ iI s 78 ∧ iI s 78 ≤ 8 := I.1 78
  refine z_aload_n X (x := A 179) (show cdA 210 0 = some (.aload_n 0, 1, 0, 0, 0) from rfl) (List.Mem.head _) ?_
  refine z_getI X 179 (show cdA 210 1 = some (.getfield 191, 3, 12, 6, 0) from rfl) (by decide) rfl rfl ?_
  have b5 : (0 : Int) ≤ iI s 79 ∧ iI s 79 ≤ 9 := I.1 79
  refine z_if_eq X (t := 9) (show cdA 210 4 = some (.ifCond .eq 5, 3, 0, 0, 0) from rfl) (by decide) (rng_to _) (fun g6 => ?_) (fun g6 => ?_)
  ·
    exfalso
    omega
  ·
    refine z_const X (show cdA 210 7 = some (.iconst 0, 1, 0, 0, 0) from rfl) ?_
    exact w_iret X.1 q hRt (nar_ret (by first | exact Or.inl (by decide) | omega)) (ax_d X (show cdA 210 8 = some (.ireturn, 1, 0, 0, 0) from rfl)) (Nat.zero_le _) (Nat.zero_le _) ⟨_, rfl, I, F, jFDB, 0, rfl, (by decide), ⟨by omega, by omega, by first | exact Or.inl (by decide) | omega, by first | exact oq_4bed1c3e g6 b5.1 | omega, by first | exact oq_6a3c9b31 g6 b5.1 | omega, by first | exact oq_a49e6adf g6 b5.1 | omega, by first | exact Or.inl (by decide) | omega, Or.inl ⟨by omega, by omega⟩⟩⟩
set_option maxRecDepth 4000 in
theorem k_testS5 (G : GX l s0 D tys a0 dT) {B : Nat → Int} {N : Int} {r : Nat} (hT : ∀ {s : PS}, Bd s → FDB B N s → (iI s 77 ≤ 203) → (iI s 78 + ((r : Nat) : Int) = 7) → (iI s 78 = 7 → iI s 79 ≠ 0) → (iI s 79 = 0 → iI s 77 ≤ 202) → CT l s0 D A dT 210 (rkR (24 + 3 * (r))) [.ref (A 179)] s (fun o t => Bd t ∧ Fm [77, 79, 80, 78] [] s t ∧ FDB B N t ∧ ∃ e, o = .inl (some (.int (Int32.ofInt e))) ∧ rng e ∧ (iI t 78 = iI s 78 ∧ iI s 77 ≤ iI t 77 ∧ (iI t 77 = iI s 77 ∨ iI t 77 ≤ 203) ∧ (iI s 79 ≠ 0 → iI t 79 ≠ 0) ∧ (iI t 79 = 0 → iI t 77 ≤ iI s 75) ∧ (iI s 79 = 0 → iI s 77 < iI t 77) ∧ (e = 0 ∨ e = 1) ∧ PFv (VLm (NMr s) (Int32.ofInt e)) B N 5 s t))) (hO : ∀ {s : PS}, Bd s → FDB B N s → (iI s 77 ≤ 203) → (iI s 78 + ((r : Nat) : Int) = 7) → (iI s 78 = 7 → iI s 79 ≠ 0) → (iI s 79 = 0 → iI s 77 ≤ 202) → CT l s0 D A dT 212 (rkR (24 + 3 * (r) + 2)) [.ref (A 179)] s (fun o t => Bd t ∧ Fm [77, 79, 80, 78] [] s t ∧ FDB B N t ∧ ∃ e, o = .inl (some (.int (Int32.ofInt e))) ∧ rng e ∧ (iI t 78 = iI s 78 ∧ iI s 77 ≤ iI t 77 ∧ (iI t 77 = iI s 77 ∨ iI t 77 ≤ 203) ∧ (iI s 79 ≠ 0 → iI t 79 ≠ 0) ∧ (iI t 79 = 0 → iI t 77 ≤ iI s 75) ∧ (iI s 79 = 0 → iI s 77 < iI t 77) ∧ (e = 0 ∨ e = 1) ∧ PFv (VLm (NMr s) (Int32.ofInt e)) B N 8 s t))) (I : Bd s) (jFDB : FDB B N s) (p0 : iI s 77 ≤ 203) (p1 : iI s 78 + ((r + 1 : Nat) : Int) = 7) (p2 : iI s 78 = 7 → iI s 79 ≠ 0) (p3 : iI s 79 = 0 → iI s 77 ≤ 202) : CT l s0 D A dT 210 (rkR (24 + 3 * (r + 1))) [.ref (A 179)] s (fun o t => Bd t ∧ Fm [77, 79, 80, 78] [] s t ∧ FDB B N t ∧ ∃ e, o = .inl (some (.int (Int32.ofInt e))) ∧ rng e ∧ (iI t 78 = iI s 78 ∧ iI s 77 ≤ iI t 77 ∧ (iI t 77 = iI s 77 ∨ iI t 77 ≤ 203) ∧ (iI s 79 ≠ 0 → iI t 79 ≠ 0) ∧ (iI t 79 = 0 → iI t 77 ≤ iI s 75) ∧ (iI s 79 = 0 → iI s 77 < iI t 77) ∧ (e = 0 ∨ e = 1) ∧ PFv (VLm (NMr s) (Int32.ofInt e)) B N 5 s t)) := by
  refine ct_of G (by decide) (Nat.le_of_ble_eq_true rfl) (fun k X E hRt hXt q => ?_)
  show WS k 0 [(0, .ref (A 179))] [] _ 0 0
  have F : Fm [77, 79, 80, 78] [] s s := fm_rf _ _ s
  have hN := jFDB.2.1
  have hW := jFDB.2.2
  have b1 : (0 : Int) ≤ iI s 77 ∧ iI s 77 ≤ 400 := I.1 77
  have b2 : (0 : Int) ≤ iI s 75 ∧ iI s 75 ≤ 200 := I.1 75
  have b3 : (0 : Int) ≤ iI s 79 ∧ iI s 79 ≤ 9 := I.1 79
  have b4 : (0 : Int) ≤ iI s 78 ∧ iI s 78 ≤ 8 := I.1 78
  have L159 : ∀ (t : PS) (av cv bv : Int), Bd t → Fm [77, 79, 80, 78] [] s t → FDB B N t → (CM1 B N (sk B N (iI s 77)) (iI s 78) s av cv bv t) → (iI t 78 = iI s 78 ∧ iI s 77 ≤ iI t 77 ∧ (iI t 77 = iI s 77 ∨ iI t 77 ≤ 203) ∧ (iI s 79 ≠ 0 → iI t 79 ≠ 0) ∧ (iI t 79 = 0 → iI t 77 ≤ iI s 75) ∧ (iI s 79 = 0 → iI s 77 < iI t 77) ∧ iI s 79 = 0 ∧ rng av ∧ rng cv ∧ rng bv) → WS k 159 [(0, .ref (A 179)), (1, .int (Int32.ofInt av)), (2, .int (Int32.ofInt cv)), (3, .int (Int32.ofInt bv))] [] (Wd A dT t) 0 0 := by
    intro t av cv bv I F jjFDB hq hi
    have b1001 : (0 : Int) ≤ iI t 77 ∧ iI t 77 ≤ 400 := I.1 77
    have b1002 : (0 : Int) ≤ iI t 75 ∧ iI t 75 ≤ 200 := I.1 75
    have b1003 : (0 : Int) ≤ iI t 79 ∧ iI t 79 ≤ 9 := I.1 79
    have b1004 : (0 : Int) ≤ iI t 78 ∧ iI t 78 ≤ 8 := I.1 78
    have hN := jjFDB.2.1
    have hW := jjFDB.2.2
    refine z_load_n X (x := cv) (show cdA 210 159 = some (.iload_n 2, 1, 0, 0, 0) from rfl) (List.Mem.tail _ (List.Mem.tail _ (List.Mem.head _))) ?_
    refine z_bipush X (show cdA 210 160 = some (.bipush 60, 2, 0, 0, 60) from rfl) ?_
    refine z_icmp_ne X (t := 178) (show cdA 210 162 = some (.if_icmp .ne 16, 3, 1, 0, 0) from rfl) (by decide) ⟨by first | exact hi.2.2.2.2.2.2.2.2.1.1 | omega, by first | exact hi.2.2.2.2.2.2.2.2.1.2 | omega⟩ (by decide) (fun g1005 => ?_) (fun g1005 => ?_)
    ·
      refine z_load_n X (x := cv) (show cdA 210 178 = some (.iload_n 2, 1, 0, 0, 0) from rfl) (List.Mem.tail _ (List.Mem.tail _ (List.Mem.head _))) ?_
      refine z_bipush X (show cdA 210 179 = some (.bipush 62, 2, 0, 0, 62) from rfl) ?_
      refine z_icmp_ne X (t := 197) (show cdA 210 181 = some (.if_icmp .ne 16, 3, 1, 0, 0) from rfl) (by decide) ⟨by first | exact hi.2.2.2.2.2.2.2.2.1.1 | omega, by first | exact hi.2.2.2.2.2.2.2.2.1.2 | omega⟩ (by decide) (fun g1006 => ?_) (fun g1006 => ?_)
      ·
        refine z_load_n X (x := av) (show cdA 210 197 = some (.iload_n 1, 1, 0, 0, 0) from rfl) (List.Mem.tail _ (List.Mem.head _)) ?_
        refine z_load_n X (x := bv) (show cdA 210 198 = some (.iload_n 3, 1, 0, 0, 0) from rfl) (List.Mem.tail _ (List.Mem.tail _ (List.Mem.tail _ (List.Mem.head _)))) ?_
        refine z_icmp_ne X (t := 206) (show cdA 210 199 = some (.if_icmp .ne 7, 3, 1, 0, 0) from rfl) (by decide) ⟨by first | exact hi.2.2.2.2.2.2.2.1.1 | omega, by first | exact hi.2.2.2.2.2.2.2.1.2 | omega⟩ ⟨by first | exact hi.2.2.2.2.2.2.2.2.2.1 | omega, by first | exact hi.2.2.2.2.2.2.2.2.2.2 | omega⟩ (fun g1007 => ?_) (fun g1007 => ?_)
        ·
          refine z_const X (show cdA 210 206 = some (.iconst 0, 1, 0, 0, 0) from rfl) ?_
          exact w_iret X.1 q hRt (nar_ret (by first | exact Or.inl (by decide) | omega)) (ax_d X (show cdA 210 207 = some (.ireturn, 1, 0, 0, 0) from rfl)) (Nat.zero_le _) (Nat.zero_le _) ⟨_, rfl, I, F, jjFDB, 0, rfl, (by decide), ⟨hi.1, hi.2.1, hi.2.2.1, hi.2.2.2.1, hi.2.2.2.2.1, hi.2.2.2.2.2.1, by first | exact Or.inl (by decide) | omega, Or.inr ⟨by omega, hq _ (jcc_v hi.2.2.2.2.2.2.2.1 hi.2.2.2.2.2.2.2.2.2 (by omega))⟩⟩⟩
        ·
          refine z_const X (show cdA 210 202 = some (.iconst 1, 1, 0, 0, 0) from rfl) ?_
          refine z_goto X (t := 207) (show cdA 210 203 = some (.goto 4, 3, 0, 0, 0) from rfl) (by decide) ?_
          exact w_iret X.1 q hRt (nar_ret (by first | exact Or.inr (by decide) | omega)) (ax_d X (show cdA 210 207 = some (.ireturn, 1, 0, 0, 0) from rfl)) (Nat.zero_le _) (Nat.zero_le _) ⟨_, rfl, I, F, jjFDB, 1, rfl, (by decide), ⟨hi.1, hi.2.1, hi.2.2.1, hi.2.2.2.1, hi.2.2.2.2.1, hi.2.2.2.2.2.1, by first | exact Or.inr (by decide) | omega, Or.inr ⟨by omega, hq _ (jcc_v hi.2.2.2.2.2.2.2.1 hi.2.2.2.2.2.2.2.2.2 (by omega))⟩⟩⟩
      ·
        refine z_load_n X (x := av) (show cdA 210 184 = some (.iload_n 1, 1, 0, 0, 0) from rfl) (List.Mem.tail _ (List.Mem.head _)) ?_
        refine z_load_n X (x := bv) (show cdA 210 185 = some (.iload_n 3, 1, 0, 0, 0) from rfl) (List.Mem.tail _ (List.Mem.tail _ (List.Mem.tail _ (List.Mem.head _)))) ?_
        refine z_icmp_le X (t := 193) (show cdA 210 186 = some (.if_icmp .le 7, 3, 5, 0, 0) from rfl) (by decide) ⟨by first | exact hi.2.2.2.2.2.2.2.1.1 | omega, by first | exact hi.2.2.2.2.2.2.2.1.2 | omega⟩ ⟨by first | exact hi.2.2.2.2.2.2.2.2.2.1 | omega, by first | exact hi.2.2.2.2.2.2.2.2.2.2 | omega⟩ (fun g1008 => ?_) (fun g1008 => ?_)
        ·
          refine z_const X (show cdA 210 193 = some (.iconst 0, 1, 0, 0, 0) from rfl) ?_
          refine z_goto X (t := 207) (show cdA 210 194 = some (.goto 13, 3, 0, 0, 0) from rfl) (by decide) ?_
          exact w_iret X.1 q hRt (nar_ret (by first | exact Or.inl (by decide) | omega)) (ax_d X (show cdA 210 207 = some (.ireturn, 1, 0, 0, 0) from rfl)) (Nat.zero_le _) (Nat.zero_le _) ⟨_, rfl, I, F, jjFDB, 0, rfl, (by decide), ⟨hi.1, hi.2.1, hi.2.2.1, hi.2.2.2.1, hi.2.2.2.2.1, hi.2.2.2.2.2.1, by first | exact Or.inl (by decide) | omega, Or.inr ⟨by omega, hq _ (jcc_v hi.2.2.2.2.2.2.2.1 hi.2.2.2.2.2.2.2.2.2 (by omega))⟩⟩⟩
        ·
          refine z_const X (show cdA 210 189 = some (.iconst 1, 1, 0, 0, 0) from rfl) ?_
          refine z_goto X (t := 207) (show cdA 210 190 = some (.goto 17, 3, 0, 0, 0) from rfl) (by decide) ?_
          exact w_iret X.1 q hRt (nar_ret (by first | exact Or.inr (by decide) | omega)) (ax_d X (show cdA 210 207 = some (.ireturn, 1, 0, 0, 0) from rfl)) (Nat.zero_le _) (Nat.zero_le _) ⟨_, rfl, I, F, jjFDB, 1, rfl, (by decide), ⟨hi.1, hi.2.1, hi.2.2.1, hi.2.2.2.1, hi.2.2.2.2.1, hi.2.2.2.2.2.1, by first | exact Or.inr (by decide) | omega, Or.inr ⟨by omega, hq _ (jcc_v hi.2.2.2.2.2.2.2.1 hi.2.2.2.2.2.2.2.2.2 (by omega))⟩⟩⟩
    ·
      refine z_load_n X (x := av) (show cdA 210 165 = some (.iload_n 1, 1, 0, 0, 0) from rfl) (List.Mem.tail _ (List.Mem.head _)) ?_
      refine z_load_n X (x := bv) (show cdA 210 166 = some (.iload_n 3, 1, 0, 0, 0) from rfl) (List.Mem.tail _ (List.Mem.tail _ (List.Mem.tail _ (List.Mem.head _)))) ?_
      refine z_icmp_ge X (t := 174) (show cdA 210 167 = some (.if_icmp .ge 7, 3, 3, 0, 0) from rfl) (by decide) ⟨by first | exact hi.2.2.2.2.2.2.2.1.1 | omega, by first | exact hi.2.2.2.2.2.2.2.1.2 | omega⟩ ⟨by first | exact hi.2.2.2.2.2.2.2.2.2.1 | omega, by first | exact hi.2.2.2.2.2.2.2.2.2.2 | omega⟩ (fun g1009 => ?_) (fun g1009 => ?_)
      ·
        refine z_const X (show cdA 210 174 = some (.iconst 0, 1, 0, 0, 0) from rfl) ?_
        refine z_goto X (t := 207) (show cdA 210 175 = some (.goto 32, 3, 0, 0, 0) from rfl) (by decide) ?_
        exact w_iret X.1 q hRt (nar_ret (by first | exact Or.inl (by decide) | omega)) (ax_d X (show cdA 210 207 = some (.ireturn, 1, 0, 0, 0) from rfl)) (Nat.zero_le _) (Nat.zero_le _) ⟨_, rfl, I, F, jjFDB, 0, rfl, (by decide), ⟨hi.1, hi.2.1, hi.2.2.1, hi.2.2.2.1, hi.2.2.2.2.1, hi.2.2.2.2.2.1, by first | exact Or.inl (by decide) | omega, Or.inr ⟨by omega, hq _ (jcc_v hi.2.2.2.2.2.2.2.1 hi.2.2.2.2.2.2.2.2.2 (by omega))⟩⟩⟩
      ·
        refine z_const X (show cdA 210 170 = some (.iconst 1, 1, 0, 0, 0) from rfl) ?_
        refine z_goto X (t := 207) (show cdA 210 171 = some (.goto 36, 3, 0, 0, 0) from rfl) (by decide) ?_
        exact w_iret X.1 q hRt (nar_ret (by first | exact Or.inr (by decide) | omega)) (ax_d X (show cdA 210 207 = some (.ireturn, 1, 0, 0, 0) from rfl)) (Nat.zero_le _) (Nat.zero_le _) ⟨_, rfl, I, F, jjFDB, 1, rfl, (by decide), ⟨hi.1, hi.2.1, hi.2.2.1, hi.2.2.2.1, hi.2.2.2.2.1, hi.2.2.2.2.2.1, by first | exact Or.inr (by decide) | omega, Or.inr ⟨by omega, hq _ (jcc_v hi.2.2.2.2.2.2.2.1 hi.2.2.2.2.2.2.2.2.2 (by omega))⟩⟩⟩
  have L144 : ∀ (t : PS) (av cv : Int), Bd t → Fm [77, 79, 80, 78] [] s t → FDB B N t → (CM2 B N (sk B N (iI s 77)) (iI s 78) s av cv t) → (iI s 79 = 0 ∧ iI t 78 = iI s 78 ∧ iI s 77 ≤ iI t 77 ∧ iI t 77 ≤ 202 ∧ rng av ∧ rng cv) → WS k 144 [(0, .ref (A 179)), (1, .int (Int32.ofInt av)), (2, .int (Int32.ofInt cv))] [] (Wd A dT t) 0 0 := by
    intro t av cv I F jjFDB hq hi
    have b2001 : (0 : Int) ≤ iI t 77 ∧ iI t 77 ≤ 400 := I.1 77
    have b2002 : (0 : Int) ≤ iI t 75 ∧ iI t 75 ≤ 200 := I.1 75
    have b2003 : (0 : Int) ≤ iI t 79 ∧ iI t 79 ≤ 9 := I.1 79
    have b2004 : (0 : Int) ≤ iI t 78 ∧ iI t 78 ≤ 8 := I.1 78
    have hN := jjFDB.2.1
    have hW := jjFDB.2.2
    refine z_aload_n X (x := A 179) (show cdA 210 144 = some (.aload_n 0, 1, 0, 0, 0) from rfl) (List.Mem.head _) ?_
    refine w_dup X.1 (ax_d X (show cdA 210 145 = some (.dup, 1, 0, 0, 0) from rfl)) rfl ?_
    refine z_getI X 179 (show cdA 210 146 = some (.getfield 184, 3, 12, 4, 0) from rfl) (by decide) rfl rfl ?_
    have b2005 : (0 : Int) ≤ iI t 77 ∧ iI t 77 ≤ 400 := I.1 77
    refine z_const X (show cdA 210 149 = some (.iconst 1, 1, 0, 0, 0) from rfl) ?_
    refine z_add X (show cdA 210 150 = some (.iadd, 1, 0, 0, 0) from rfl) ?_
    refine s_putI X 179 (show cdA 210 151 = some (.putfield 184, 3, 12, 4, 0) from rfl) (by decide) rfl rfl (by decide) rfl rfl rfl ?_
    obtain ⟨s2006, hs2006⟩ : ∃ x0, x0 = uI t 77 (Int32.ofInt ((iI t 77) + 1)) := ⟨_, rfl⟩
    rw [← hs2006]
    have Is2006 : Bd s2006 := by rw [hs2006]; exact bd_I I (show (0 : Int) ≤ ((iI t 77) + 1) ∧ ((iI t 77) + 1) ≤ 400 by first | exact ⟨oq_54f49eb5 b2005.1, oq_030aea91 hi.2.2.2.1⟩ | omega) ⟨by first | exact oq_74de1e16 b2005.1 | omega, by first | exact oq_964ce197 b2005.2 | omega⟩
    have Fs2006 := fm_I (x := Int32.ofInt ((iI t 77) + 1)) F (show 77 ∈ _ by decide)
    rw [← hs2006] at Fs2006
    have vs2006 : iI s2006 77 = ((iI t 77) + 1) := by rw [hs2006]; exact iI_u ⟨by first | exact oq_74de1e16 b2005.1 | omega, by first | exact oq_964ce197 b2005.2 | omega⟩
    have ws2006_75 : iI s2006 75 = iI t 75 := by rw [hs2006]; rfl
    have ws2006_79 : iI s2006 79 = iI t 79 := by rw [hs2006]; rfl
    have ws2006_78 : iI s2006 78 = iI t 78 := by rw [hs2006]; rfl
    have fs2006 : Fm [77] [] t s2006 := by rw [hs2006]; exact fm_I (fm_rf _ _ _) (show 77 ∈ _ by decide)
    have JFDB_s2006 : FDB B N s2006 := FDB_fm fs2006 (by decide) jjFDB
    refine z_aload_n X (x := A 179) (show cdA 210 154 = some (.aload_n 0, 1, 0, 0, 0) from rfl) (List.Mem.head _) ?_
    refine z_callV X 179 (rm := (rkR (3 * (r + 1) + 2))) (As := []) (st := []) (show cdA 210 155 = some (.invokevirtual 260, 3, 209, 0, 0) from rfl) rfl (by decide) rfl (by rw [E.1, E.2.1, E.2.2.1]; exact (k_sumr5 G (B := B) (N := N) (r + 1)).2.2 Is2006 JFDB_s2006 (by first | exact oq_eb11e9a5 vs2006 hi.2.2.2.1 | omega) (by first | exact oq_82f073b0 ws2006_78 p1 hi.2.1 | omega) (by first | exact oq_59527f56 ws2006_78 hi.2.1 hi.1 p2 | omega)) ⟨by rw [E.2.2.2]; exact (show (12 + (3 * (r + 1) + 2)) + 1 ≤ (12 + (24 + 3 * (r + 1))) from oq_78548c36 r), by rw [E.2.2.2]; exact (show 8 + (4 + 11) + (500 + 45 * (3 * (r + 1) + 2)) ≤ (500 + 45 * (24 + 3 * (r + 1))) from oq_7957a5e4 r), by rw [E.2.2.2]; exact Nat.le_refl 0, by rw [E.2.2.2]; exact Nat.le_refl 0⟩ (Nat.le_of_ble_eq_true rfl) (fun vv s2007 hq => ?_) (fun ee s2007 hq => ?_)
    rotate_left
    · obtain ⟨Is2007, Fs2007, JFDB_s2007, e2008, hv, hrs2007, hps2007⟩ := hq; cases hv
    obtain ⟨Is2007, Fs2007, JFDB_s2007, e2008, hv, hrs2007, hps2007⟩ := hq
    cases hv
    have Gs2007 := fm_ts Fs2006 Fs2007 (by decide) (by decide)
    have JFDB_s2007 : FDB B N s2007 := FDB_fm Fs2007 (by decide) JFDB_s2006
    have b2009 : (0 : Int) ≤ iI s2007 77 ∧ iI s2007 77 ≤ 400 := Is2007.1 77
    have ws2007_75 : iI s2007 75 = iI s2006 75 := fm_i Fs2007 (by decide)
    have b2010 : (0 : Int) ≤ iI s2007 79 ∧ iI s2007 79 ≤ 9 := Is2007.1 79
    have b2011 : (0 : Int) ≤ iI s2007 78 ∧ iI s2007 78 ≤ 8 := Is2007.1 78
    show WS k 158 [(0, .ref (A 179)), (1, .int (Int32.ofInt av)), (2, .int (Int32.ofInt cv))] [.int (Int32.ofInt e2008)] (Wd A dT s2007) 0 0
    refine z_store_n X (lv' := [(3, .int (Int32.ofInt e2008)), (0, .ref (A 179)), (1, .int (Int32.ofInt av)), (2, .int (Int32.ofInt cv))]) (show cdA 210 158 = some (.istore_n 3, 1, 0, 0, 0) from rfl) (by decide) (fun _ h => h) ?_
    refine WS_lv (lv := [(0, .ref (A 179)), (1, .int (Int32.ofInt av)), (2, .int (Int32.ofInt cv)), (3, .int (Int32.ofInt e2008))]) (List.forall_mem_cons.mpr ⟨(List.Mem.tail _ (List.Mem.head _)), (List.forall_mem_cons.mpr ⟨(List.Mem.tail _ (List.Mem.tail _ (List.Mem.head _))), (List.forall_mem_cons.mpr ⟨(List.Mem.tail _ (List.Mem.tail _ (List.Mem.tail _ (List.Mem.head _)))), (List.forall_mem_cons.mpr ⟨(List.Mem.head _), (fun q h => absurd h List.not_mem_nil)⟩)⟩)⟩)⟩) ?_
    exact L159 _ av cv e2008 Is2007 Gs2007 JFDB_s2007 (fun e he => hq _ _ _ (by omega) (by omega) (by omega) (pfv_c hps2007.2.2.2.2.2 (nmr_fm Fs2006 (by decide))) e he) (by omega)
  refine z_aload_n X (x := A 179) (show cdA 210 0 = some (.aload_n 0, 1, 0, 0, 0) from rfl) (List.Mem.head _) ?_
  refine z_getI X 179 (show cdA 210 1 = some (.getfield 191, 3, 12, 6, 0) from rfl) (by decide) rfl rfl ?_
  have b5 : (0 : Int) ≤ iI s 79 ∧ iI s 79 ≤ 9 := I.1 79
  refine z_if_eq X (t := 9) (show cdA 210 4 = some (.ifCond .eq 5, 3, 0, 0, 0) from rfl) (by decide) (rng_to _) (fun g6 => ?_) (fun g6 => ?_)
  ·
    refine z_aload_n X (x := A 179) (show cdA 210 9 = some (.aload_n 0, 1, 0, 0, 0) from rfl) (List.Mem.head _) ?_
    refine z_callV X 179 (rm := rmN 201) (As := []) (st := []) (show cdA 210 10 = some (.invokevirtual 243, 3, 201, 0, 0) from rfl) rfl (by decide) rfl (by rw [E.1, E.2.1, E.2.2.1]; exact k_wordHere3 G I jFDB (by first | exact oq_2ebc9f52 p0 | omega)) ⟨by rw [E.2.2.2]; exact (show 8 + 1 ≤ (12 + (24 + 3 * (r + 1))) from oq_91dbadf4 r), by rw [E.2.2.2]; exact (show 8 + (3 + 11) + 141 ≤ (500 + 45 * (24 + 3 * (r + 1))) from oq_2d8c6e6c r), by rw [E.2.2.2]; exact Nat.le_refl 0, by rw [E.2.2.2]; exact Nat.le_refl 0⟩ (Nat.le_of_ble_eq_true rfl) (fun vv s7 hq => ?_) (fun ee s7 hq => ?_)
    rotate_left
    · obtain ⟨Is7, Fs7, JFDB_s7, e8, hv, hrs7, hps7⟩ := hq; cases hv
    obtain ⟨Is7, Fs7, JFDB_s7, e8, hv, hrs7, hps7⟩ := hq
    cases hv
    have Gs7 := fm_ts F Fs7 (by decide) (by decide)
    have JFDB_s7 : FDB B N s7 := FDB_fm Fs7 (by decide) jFDB
    have b9 : (0 : Int) ≤ iI s7 77 ∧ iI s7 77 ≤ 400 := Is7.1 77
    have ws7_75 : iI s7 75 = iI s 75 := fm_i Fs7 (by decide)
    have ws7_79 : iI s7 79 = iI s 79 := fm_i Fs7 (by decide)
    have ws7_78 : iI s7 78 = iI s 78 := fm_i Fs7 (by decide)
    show WS k 13 [(0, .ref (A 179))] [.int (Int32.ofInt e8)] (Wd A dT s7) 0 0
    obtain ⟨pz, hpz⟩ : ∃ q, q = sk B N (iI s 77) := ⟨_, rfl⟩
    have hskp : sk B N pz = pz := by rw [hpz]; exact sk_sk
    have hb : iI s7 77 = pz := by rw [hpz]; exact hps7.1
    have hwv : e8 = whV B N pz := by rw [hps7.2.1, hb]
    refine z_bipush X (show cdA 210 13 = some (.bipush 14, 2, 0, 0, 14) from rfl) ?_
    refine z_bipush X (show cdA 210 15 = some (.bipush 15, 2, 0, 0, 15) from rfl) ?_
    refine z_bipush X (show cdA 210 17 = some (.bipush 20, 2, 0, 0, 20) from rfl) ?_
    refine z_const X (show cdA 210 19 = some (.iconst 0, 1, 0, 0, 0) from rfl) ?_
    refine z_const X (show cdA 210 20 = some (.iconst 0, 1, 0, 0, 0) from rfl) ?_
    refine z_const X (show cdA 210 21 = some (.iconst 0, 1, 0, 0, 0) from rfl) ?_
    refine z_callS X (rm := rmN 202) (As := [.int (Int32.ofInt 14), .int (Int32.ofInt 15), .int (Int32.ofInt 20), .int (Int32.ofInt 0), .int (Int32.ofInt 0), .int (Int32.ofInt 0)]) (st := [.int (Int32.ofInt e8)]) (show cdA 210 22 = some (.invokestatic 247, 3, 202, 1, 0) from rfl) rfl (by rw [E.1, E.2.1, E.2.2.1]; exact k_word3 G Is7 (by first | exact ⟨by decide, by decide⟩ | omega) (by first | exact ⟨by decide, by decide⟩ | omega) (by first | exact ⟨by decide, by decide⟩ | omega) (by first | exact ⟨by decide, by decide⟩ | omega) (by first | exact ⟨by decide, by decide⟩ | omega) (by first | exact ⟨by decide, by decide⟩ | omega)) ⟨by rw [E.2.2.2]; exact (show 6 + 1 ≤ (12 + (24 + 3 * (r + 1))) from oq_51b017a3 r), by rw [E.2.2.2]; exact (show 8 + (7 + 11) + 100 ≤ (500 + 45 * (24 + 3 * (r + 1))) from oq_22dfea8e r), by rw [E.2.2.2]; exact Nat.le_refl 0, by rw [E.2.2.2]; exact Nat.le_refl 0⟩ (Nat.le_of_ble_eq_true rfl) (fun vv s10 hq => ?_) (fun ee s10 hq => ?_)
    rotate_left
    · obtain ⟨rfl, e11, hv, hrs10, hps10⟩ := hq; cases hv
    obtain ⟨rfl, e11, hv, hrs10, hps10⟩ := hq
    cases hv
    show WS k 25 [(0, .ref (A 179))] [.int (Int32.ofInt e11), .int (Int32.ofInt e8)] (Wd A dT s7) 0 0
    have hk12 : e11 = 10631 := by rw [hps10.2]; decide
    refine z_icmp_ne X (t := 58) (show cdA 210 25 = some (.if_icmp .ne 33, 3, 1, 0, 0) from rfl) (by decide) hrs7 hrs10 (fun g13 => ?_) (fun g13 => ?_)
    ·
      refine z_aload_n X (x := A 179) (show cdA 210 58 = some (.aload_n 0, 1, 0, 0, 0) from rfl) (List.Mem.head _) ?_
      refine z_aload_n X (x := A 179) (show cdA 210 59 = some (.aload_n 0, 1, 0, 0, 0) from rfl) (List.Mem.head _) ?_
      refine z_getI X 179 (show cdA 210 60 = some (.getfield 184, 3, 12, 4, 0) from rfl) (by decide) rfl rfl ?_
      have b14 : (0 : Int) ≤ iI s7 77 ∧ iI s7 77 ≤ 400 := Is7.1 77
      refine z_callV X 179 (rm := rmN 192) (As := [.int (Int32.ofInt (iI s7 77))]) (st := []) (show cdA 210 63 = some (.invokevirtual 187, 3, 192, 0, 0) from rfl) rfl (by decide) rfl (by rw [E.1, E.2.1, E.2.2.1]; exact k_byteAt2 G Is7 JFDB_s7 (by first | exact ⟨b14.1, oq_5a8480eb b14.2⟩ | omega)) ⟨by rw [E.2.2.2]; exact (show 6 + 1 ≤ (12 + (24 + 3 * (r + 1))) from oq_51b017a3 r), by rw [E.2.2.2]; exact (show 8 + (2 + 11) + 100 ≤ (500 + 45 * (24 + 3 * (r + 1))) from oq_e45c9306 r), by rw [E.2.2.2]; exact Nat.le_refl 0, by rw [E.2.2.2]; exact Nat.le_refl 0⟩ (Nat.le_of_ble_eq_true rfl) (fun vv s15 hq => ?_) (fun ee s15 hq => ?_)
      rotate_left
      · obtain ⟨rfl, e16, hv, hrs15, hps15⟩ := hq; cases hv
      obtain ⟨rfl, e16, hv, hrs15, hps15⟩ := hq
      cases hv
      show WS k 66 [(0, .ref (A 179))] [.int (Int32.ofInt e16)] (Wd A dT s7) 0 0
      have hby := hps15
      rw [hb] at hby
      refine z_bipush X (show cdA 210 66 = some (.bipush 91, 2, 0, 0, 91) from rfl) ?_
      refine z_icmp_ne X (t := 99) (show cdA 210 68 = some (.if_icmp .ne 31, 3, 1, 0, 0) from rfl) (by decide) hrs15 (by decide) (fun g17 => ?_) (fun g17 => ?_)
      ·
        have hnc : ¬ chT B N pz 91 := by omega
        refine z_aload_n X (x := A 179) (show cdA 210 99 = some (.aload_n 0, 1, 0, 0, 0) from rfl) (List.Mem.head _) ?_
        refine z_callV X 179 (rm := (rkR (3 * (r + 1) + 2))) (As := []) (st := []) (show cdA 210 100 = some (.invokevirtual 260, 3, 209, 0, 0) from rfl) rfl (by decide) rfl (by rw [E.1, E.2.1, E.2.2.1]; exact (k_sumr5 G (B := B) (N := N) (r + 1)).2.2 Is7 JFDB_s7 (by omega) (by first | exact oq_eaa54609 ws7_78 p1 | omega) (by first | exact oq_c953247b ws7_78 g6 p2 | omega)) ⟨by rw [E.2.2.2]; exact (show (12 + (3 * (r + 1) + 2)) + 1 ≤ (12 + (24 + 3 * (r + 1))) from oq_78548c36 r), by rw [E.2.2.2]; exact (show 8 + (4 + 11) + (500 + 45 * (3 * (r + 1) + 2)) ≤ (500 + 45 * (24 + 3 * (r + 1))) from oq_7957a5e4 r), by rw [E.2.2.2]; exact Nat.le_refl 0, by rw [E.2.2.2]; exact Nat.le_refl 0⟩ (Nat.le_of_ble_eq_true rfl) (fun vv s18 hq => ?_) (fun ee s18 hq => ?_)
        rotate_left
        · obtain ⟨Is18, Fs18, JFDB_s18, e19, hv, hrs18, hps18⟩ := hq; cases hv
        obtain ⟨Is18, Fs18, JFDB_s18, e19, hv, hrs18, hps18⟩ := hq
        cases hv
        have Gs18 := fm_ts Gs7 Fs18 (by decide) (by decide)
        have JFDB_s18 : FDB B N s18 := FDB_fm Fs18 (by decide) JFDB_s7
        have b20 : (0 : Int) ≤ iI s18 77 ∧ iI s18 77 ≤ 400 := Is18.1 77
        have ws18_75 : iI s18 75 = iI s7 75 := fm_i Fs18 (by decide)
        have b21 : (0 : Int) ≤ iI s18 79 ∧ iI s18 79 ≤ 9 := Is18.1 79
        have b22 : (0 : Int) ≤ iI s18 78 ∧ iI s18 78 ≤ 8 := Is18.1 78
        show WS k 103 [(0, .ref (A 179))] [.int (Int32.ofInt e19)] (Wd A dT s18) 0 0
        refine z_store_n X (lv' := [(1, .int (Int32.ofInt e19)), (0, .ref (A 179))]) (show cdA 210 103 = some (.istore_n 1, 1, 0, 0, 0) from rfl) (by decide) (fun _ h => h) ?_
        refine z_aload_n X (x := A 179) (show cdA 210 104 = some (.aload_n 0, 1, 0, 0, 0) from rfl) (List.Mem.tail _ (List.Mem.head _)) ?_
        refine z_callV X 179 (rm := rmN 193) (As := []) (st := []) (show cdA 210 105 = some (.invokevirtual 197, 3, 193, 0, 0) from rfl) rfl (by decide) rfl (by rw [E.1, E.2.1, E.2.2.1]; exact k_blanks2 G Is18 JFDB_s18 (by omega)) ⟨by rw [E.2.2.2]; exact (show 7 + 1 ≤ (12 + (24 + 3 * (r + 1))) from oq_36eaf53c r), by rw [E.2.2.2]; exact (show 8 + (1 + 11) + 121 ≤ (500 + 45 * (24 + 3 * (r + 1))) from oq_a27e1a18 r), by rw [E.2.2.2]; exact Nat.le_refl 0, by rw [E.2.2.2]; exact Nat.le_refl 0⟩ (Nat.le_of_ble_eq_true rfl) (fun vv s23 hq => ?_) (fun ee s23 hq => ?_)
        rotate_left
        · obtain ⟨Is23, Fs23, JFDB_s23, hv, hps23⟩ := hq; cases hv
        obtain ⟨Is23, Fs23, JFDB_s23, hv, hps23⟩ := hq
        cases hv
        have Gs23 := fm_ts Gs18 Fs23 (by decide) (by decide)
        have JFDB_s23 : FDB B N s23 := FDB_fm Fs23 (by decide) JFDB_s18
        have b25 : (0 : Int) ≤ iI s23 77 ∧ iI s23 77 ≤ 400 := Is23.1 77
        have ws23_75 : iI s23 75 = iI s18 75 := fm_i Fs23 (by decide)
        have ws23_79 : iI s23 79 = iI s18 79 := fm_i Fs23 (by decide)
        have ws23_78 : iI s23 78 = iI s18 78 := fm_i Fs23 (by decide)
        show WS k 108 [(1, .int (Int32.ofInt e19)), (0, .ref (A 179))] [] (Wd A dT s23) 0 0
        refine z_aload_n X (x := A 179) (show cdA 210 108 = some (.aload_n 0, 1, 0, 0, 0) from rfl) (List.Mem.tail _ (List.Mem.head _)) ?_
        refine z_aload_n X (x := A 179) (show cdA 210 109 = some (.aload_n 0, 1, 0, 0, 0) from rfl) (List.Mem.tail _ (List.Mem.head _)) ?_
        refine z_getI X 179 (show cdA 210 110 = some (.getfield 184, 3, 12, 4, 0) from rfl) (by decide) rfl rfl ?_
        have b26 : (0 : Int) ≤ iI s23 77 ∧ iI s23 77 ≤ 400 := Is23.1 77
        refine z_callV X 179 (rm := rmN 192) (As := [.int (Int32.ofInt (iI s23 77))]) (st := []) (show cdA 210 113 = some (.invokevirtual 187, 3, 192, 0, 0) from rfl) rfl (by decide) rfl (by rw [E.1, E.2.1, E.2.2.1]; exact k_byteAt2 G Is23 JFDB_s23 (by first | exact ⟨b26.1, oq_5a8480eb b26.2⟩ | omega)) ⟨by rw [E.2.2.2]; exact (show 6 + 1 ≤ (12 + (24 + 3 * (r + 1))) from oq_51b017a3 r), by rw [E.2.2.2]; exact (show 8 + (2 + 11) + 100 ≤ (500 + 45 * (24 + 3 * (r + 1))) from oq_e45c9306 r), by rw [E.2.2.2]; exact Nat.le_refl 0, by rw [E.2.2.2]; exact Nat.le_refl 0⟩ (Nat.le_of_ble_eq_true rfl) (fun vv s27 hq => ?_) (fun ee s27 hq => ?_)
        rotate_left
        · obtain ⟨rfl, e28, hv, hrs27, hps27⟩ := hq; cases hv
        obtain ⟨rfl, e28, hv, hrs27, hps27⟩ := hq
        cases hv
        show WS k 116 [(1, .int (Int32.ofInt e19)), (0, .ref (A 179))] [.int (Int32.ofInt e28)] (Wd A dT s23) 0 0
        have hby3 := hps27
        refine z_store_n X (lv' := [(2, .int (Int32.ofInt e28)), (1, .int (Int32.ofInt e19)), (0, .ref (A 179))]) (show cdA 210 116 = some (.istore_n 2, 1, 0, 0, 0) from rfl) (by decide) (fun _ h => h) ?_
        refine z_load_n X (x := e28) (show cdA 210 117 = some (.iload_n 2, 1, 0, 0, 0) from rfl) (List.Mem.head _) ?_
        refine z_bipush X (show cdA 210 118 = some (.bipush 60, 2, 0, 0, 60) from rfl) ?_
        refine z_icmp_eq X (t := 144) (show cdA 210 120 = some (.if_icmp .eq 24, 3, 0, 0, 0) from rfl) (by decide) hrs27 (by decide) (fun g29 => ?_) (fun g29 => ?_)
        ·
          refine WS_lv (lv := [(0, .ref (A 179)), (1, .int (Int32.ofInt e19)), (2, .int (Int32.ofInt e28))]) (List.forall_mem_cons.mpr ⟨(List.Mem.tail _ (List.Mem.tail _ (List.Mem.head _))), (List.forall_mem_cons.mpr ⟨(List.Mem.tail _ (List.Mem.head _)), (List.forall_mem_cons.mpr ⟨(List.Mem.head _), (fun q h => absurd h List.not_mem_nil)⟩)⟩)⟩) ?_
          exact L144 _ e19 e28 Is23 Gs23 JFDB_s23 (fun c d bv h1 h2 h3 h4 e he => by rw [← hpz]; exact ou_cmpFv (s := s7) (a := s18) (b := s23) (c := c) (by omega) hnc (pfv_c hps18.2.2.2.2.2 (nmr_fm Gs7 (by decide))) (by omega) (by rw [show iI s7 77 = pz by omega]; exact hskp) (by omega) hps23.1 (by omega) (by omega) (by omega) (by omega) h4 (fun x y hx hy => vl_up hx hy (opc_r (c := e28) (by rw [← hps23.1]; omega) (by omega)) jcc_lt he)) (by first | exact ⟨g6, oq_d0d2714e ws23_78 ws7_78 hps18.1, oq_cde5fb8b hps7.2.2.1 hps23.2.1 hps18.2.1, by omega, by omega, oq_05338a64 g29, oq_84af290c g29⟩ | omega)
        ·
          refine z_load_n X (x := e28) (show cdA 210 123 = some (.iload_n 2, 1, 0, 0, 0) from rfl) (List.Mem.head _) ?_
          refine z_bipush X (show cdA 210 124 = some (.bipush 62, 2, 0, 0, 62) from rfl) ?_
          refine z_icmp_eq X (t := 144) (show cdA 210 126 = some (.if_icmp .eq 18, 3, 0, 0, 0) from rfl) (by decide) hrs27 (by decide) (fun g30 => ?_) (fun g30 => ?_)
          ·
            refine WS_lv (lv := [(0, .ref (A 179)), (1, .int (Int32.ofInt e19)), (2, .int (Int32.ofInt e28))]) (List.forall_mem_cons.mpr ⟨(List.Mem.tail _ (List.Mem.tail _ (List.Mem.head _))), (List.forall_mem_cons.mpr ⟨(List.Mem.tail _ (List.Mem.head _)), (List.forall_mem_cons.mpr ⟨(List.Mem.head _), (fun q h => absurd h List.not_mem_nil)⟩)⟩)⟩) ?_
            exact L144 _ e19 e28 Is23 Gs23 JFDB_s23 (fun c d bv h1 h2 h3 h4 e he => by rw [← hpz]; exact ou_cmpFv (s := s7) (a := s18) (b := s23) (c := c) (by omega) hnc (pfv_c hps18.2.2.2.2.2 (nmr_fm Gs7 (by decide))) (by omega) (by rw [show iI s7 77 = pz by omega]; exact hskp) (by omega) hps23.1 (by omega) (by omega) (by omega) (by omega) h4 (fun x y hx hy => vl_up hx hy (opc_r (c := e28) (by rw [← hps23.1]; omega) (by omega)) jcc_lt he)) (by first | exact ⟨g6, oq_d0d2714e ws23_78 ws7_78 hps18.1, oq_cde5fb8b hps7.2.2.1 hps23.2.1 hps18.2.1, by omega, by omega, oq_62e77286 g30, oq_45200378 g30⟩ | omega)
          ·
            refine z_load_n X (x := e28) (show cdA 210 129 = some (.iload_n 2, 1, 0, 0, 0) from rfl) (List.Mem.head _) ?_
            refine z_bipush X (show cdA 210 130 = some (.bipush 61, 2, 0, 0, 61) from rfl) ?_
            refine z_icmp_eq X (t := 144) (show cdA 210 132 = some (.if_icmp .eq 12, 3, 0, 0, 0) from rfl) (by decide) hrs27 (by decide) (fun g31 => ?_) (fun g31 => ?_)
            ·
              refine WS_lv (lv := [(0, .ref (A 179)), (1, .int (Int32.ofInt e19)), (2, .int (Int32.ofInt e28))]) (List.forall_mem_cons.mpr ⟨(List.Mem.tail _ (List.Mem.tail _ (List.Mem.head _))), (List.forall_mem_cons.mpr ⟨(List.Mem.tail _ (List.Mem.head _)), (List.forall_mem_cons.mpr ⟨(List.Mem.head _), (fun q h => absurd h List.not_mem_nil)⟩)⟩)⟩) ?_
              exact L144 _ e19 e28 Is23 Gs23 JFDB_s23 (fun c d bv h1 h2 h3 h4 e he => by rw [← hpz]; exact ou_cmpFv (s := s7) (a := s18) (b := s23) (c := c) (by omega) hnc (pfv_c hps18.2.2.2.2.2 (nmr_fm Gs7 (by decide))) (by omega) (by rw [show iI s7 77 = pz by omega]; exact hskp) (by omega) hps23.1 (by omega) (by omega) (by omega) (by omega) h4 (fun x y hx hy => vl_up hx hy (opc_r (c := e28) (by rw [← hps23.1]; omega) (by omega)) jcc_lt he)) (by first | exact ⟨g6, oq_d0d2714e ws23_78 ws7_78 hps18.1, oq_cde5fb8b hps7.2.2.1 hps23.2.1 hps18.2.1, by omega, by omega, oq_1786f639 g31, oq_9de8a7d6 g31⟩ | omega)
            ·
              refine z_aload_n X (x := A 179) (show cdA 210 135 = some (.aload_n 0, 1, 0, 0, 0) from rfl) (List.Mem.tail _ (List.Mem.tail _ (List.Mem.head _))) ?_
              refine z_const X (show cdA 210 136 = some (.iconst 1, 1, 0, 0, 0) from rfl) ?_
              refine z_aload_n X (x := A 179) (show cdA 210 137 = some (.aload_n 0, 1, 0, 0, 0) from rfl) (List.Mem.tail _ (List.Mem.tail _ (List.Mem.head _))) ?_
              refine z_getI X 179 (show cdA 210 138 = some (.getfield 184, 3, 12, 4, 0) from rfl) (by decide) rfl rfl ?_
              have b32 : (0 : Int) ≤ iI s23 77 ∧ iI s23 77 ≤ 400 := Is23.1 77
              refine z_callV X 179 (rm := rmN 194) (As := [.int (Int32.ofInt 1), .int (Int32.ofInt (iI s23 77))]) (st := []) (show cdA 210 141 = some (.invokevirtual 204, 3, 194, 0, 0) from rfl) rfl (by decide) rfl (by rw [E.1, E.2.1, E.2.2.1]; exact k_wrong3 G Is23 (by first | exact ⟨by decide, by decide⟩ | omega) (by first | exact ⟨oq_ca54ea22 b32.1, b32.2⟩ | omega)) ⟨by rw [E.2.2.2]; exact (show 6 + 1 ≤ (12 + (24 + 3 * (r + 1))) from oq_51b017a3 r), by rw [E.2.2.2]; exact (show 8 + (3 + 11) + 100 ≤ (500 + 45 * (24 + 3 * (r + 1))) from oq_53e0fa7a r), by rw [E.2.2.2]; exact Nat.le_refl 0, by rw [E.2.2.2]; exact Nat.le_refl 0⟩ (Nat.le_of_ble_eq_true rfl) (fun vv s33 hq => ?_) (fun ee s33 hq => ?_)
              rotate_left
              · obtain ⟨Is33, Fs33, hv, hps33⟩ := hq; cases hv
              obtain ⟨Is33, Fs33, hv, hps33⟩ := hq
              cases hv
              have Gs33 := fm_ts Gs23 Fs33 (by decide) (by decide)
              have JFDB_s33 : FDB B N s33 := FDB_fm Fs33 (by decide) JFDB_s23
              have ws33_77 : iI s33 77 = iI s23 77 := fm_i Fs33 (by decide)
              have ws33_75 : iI s33 75 = iI s23 75 := fm_i Fs33 (by decide)
              have b35 : (0 : Int) ≤ iI s33 79 ∧ iI s33 79 ≤ 9 := Is33.1 79
              have ws33_78 : iI s33 78 = iI s23 78 := fm_i Fs33 (by decide)
              show WS k 144 [(2, .int (Int32.ofInt e28)), (1, .int (Int32.ofInt e19)), (0, .ref (A 179))] [] (Wd A dT s33) 0 0
              refine WS_lv (lv := [(0, .ref (A 179)), (1, .int (Int32.ofInt e19)), (2, .int (Int32.ofInt e28))]) (List.forall_mem_cons.mpr ⟨(List.Mem.tail _ (List.Mem.tail _ (List.Mem.head _))), (List.forall_mem_cons.mpr ⟨(List.Mem.tail _ (List.Mem.head _)), (List.forall_mem_cons.mpr ⟨(List.Mem.head _), (fun q h => absurd h List.not_mem_nil)⟩)⟩)⟩) ?_
              exact L144 _ e19 e28 Is33 Gs33 JFDB_s33 (fun c d bv h1 h2 h3 h4 e he => by rw [← hpz]; exact ouv_any (ou_cmpFv (V := fun _ => True) (s := s7) (a := s18) (b := s23) (c := c) (by omega) hnc (pfv_c hps18.2.2.2.2.2 (nmr_fm Gs7 (by decide))) (by omega) (by rw [show iI s7 77 = pz by omega]; exact hskp) (by omega) hps23.1 (by omega) (by omega) (by omega) (by omega) h4 (fun _ _ _ _ => trivial)) (by rw [pf_fav h4 (by omega)]; omega)) (by first | exact ⟨g6, oq_2658fcab ws33_78 ws23_78 ws7_78 hps18.1, oq_841e4d52 ws33_77 hps7.2.2.1 hps18.2.1 hps23.2.1, by omega, by omega, oq_1b38bc36 hps27, oq_eabbb498 hps27⟩ | omega)
      ·
        have hch : chT B N pz 91 := ⟨by omega, by omega⟩
        refine z_aload_n X (x := A 179) (show cdA 210 71 = some (.aload_n 0, 1, 0, 0, 0) from rfl) (List.Mem.head _) ?_
        refine z_const X (show cdA 210 72 = some (.iconst 1, 1, 0, 0, 0) from rfl) ?_
        refine z_callV X 179 (rm := rmN 205) (As := [.int (Int32.ofInt 1)]) (st := []) (show cdA 210 73 = some (.invokevirtual 257, 3, 205, 0, 0) from rfl) rfl (by decide) rfl (by rw [E.1, E.2.1, E.2.2.1]; exact k_opens3 G Is7 (by first | exact ⟨by decide, by decide⟩ | omega) (by omega) (by omega)) ⟨by rw [E.2.2.2]; exact (show 7 + 1 ≤ (12 + (24 + 3 * (r + 1))) from oq_36eaf53c r), by rw [E.2.2.2]; exact (show 8 + (2 + 11) + 122 ≤ (500 + 45 * (24 + 3 * (r + 1))) from oq_2520a5c5 r), by rw [E.2.2.2]; exact Nat.le_refl 0, by rw [E.2.2.2]; exact Nat.le_refl 0⟩ (Nat.le_of_ble_eq_true rfl) (fun vv s36 hq => ?_) (fun ee s36 hq => ?_)
        rotate_left
        · obtain ⟨Is36, Fs36, hv, hps36⟩ := hq; cases hv
        obtain ⟨Is36, Fs36, hv, hps36⟩ := hq
        cases hv
        have Gs36 := fm_ts Gs7 Fs36 (by decide) (by decide)
        have JFDB_s36 : FDB B N s36 := FDB_fm Fs36 (by decide) JFDB_s7
        have b38 : (0 : Int) ≤ iI s36 77 ∧ iI s36 77 ≤ 400 := Is36.1 77
        have ws36_75 : iI s36 75 = iI s7 75 := fm_i Fs36 (by decide)
        have b39 : (0 : Int) ≤ iI s36 79 ∧ iI s36 79 ≤ 9 := Is36.1 79
        have b40 : (0 : Int) ≤ iI s36 78 ∧ iI s36 78 ≤ 8 := Is36.1 78
        show WS k 76 [(0, .ref (A 179))] [] (Wd A dT s36) 0 0
        refine z_aload_n X (x := A 179) (show cdA 210 76 = some (.aload_n 0, 1, 0, 0, 0) from rfl) (List.Mem.head _) ?_
        refine z_callV X 179 (rm := (rkR (24 + 3 * (r) + 2))) (As := []) (st := []) (show cdA 210 77 = some (.invokevirtual 276, 3, 212, 0, 0) from rfl) rfl (by decide) rfl (by rw [E.1, E.2.1, E.2.2.1]; exact hO Is36 JFDB_s36 (by omega) (by first | exact oq_4fdfb4aa p1 hps36.2.1 ws7_78 | omega) (by first | exact oq_3a71b695 hps36.2.2 hps36.2.1 ws7_79 g6 | omega) (by omega)) ⟨by rw [E.2.2.2]; exact (show (12 + (24 + 3 * (r) + 2)) + 1 ≤ (12 + (24 + 3 * (r + 1))) from oq_853f7f04 r), by rw [E.2.2.2]; exact (show 8 + (3 + 11) + (500 + 45 * (24 + 3 * (r) + 2)) ≤ (500 + 45 * (24 + 3 * (r + 1))) from oq_4ce40754 r), by rw [E.2.2.2]; exact Nat.le_refl 0, by rw [E.2.2.2]; exact Nat.le_refl 0⟩ (Nat.le_of_ble_eq_true rfl) (fun vv s41 hq => ?_) (fun ee s41 hq => ?_)
        rotate_left
        · obtain ⟨Is41, Fs41, JFDB_s41, e42, hv, hrs41, hps41⟩ := hq; cases hv
        obtain ⟨Is41, Fs41, JFDB_s41, e42, hv, hrs41, hps41⟩ := hq
        cases hv
        have Gs41 := fm_ts Gs36 Fs41 (by decide) (by decide)
        have JFDB_s41 : FDB B N s41 := FDB_fm Fs41 (by decide) JFDB_s36
        have b43 : (0 : Int) ≤ iI s41 77 ∧ iI s41 77 ≤ 400 := Is41.1 77
        have ws41_75 : iI s41 75 = iI s36 75 := fm_i Fs41 (by decide)
        have b44 : (0 : Int) ≤ iI s41 79 ∧ iI s41 79 ≤ 9 := Is41.1 79
        have b45 : (0 : Int) ≤ iI s41 78 ∧ iI s41 78 ≤ 8 := Is41.1 78
        show WS k 80 [(0, .ref (A 179))] [.int (Int32.ofInt e42)] (Wd A dT s41) 0 0
        refine z_store_n X (lv' := [(1, .int (Int32.ofInt e42)), (0, .ref (A 179))]) (show cdA 210 80 = some (.istore_n 1, 1, 0, 0, 0) from rfl) (by decide) (fun _ h => h) ?_
        refine z_aload_n X (x := A 179) (show cdA 210 81 = some (.aload_n 0, 1, 0, 0, 0) from rfl) (List.Mem.tail _ (List.Mem.head _)) ?_
        refine z_bipush X (show cdA 210 82 = some (.bipush 93, 2, 0, 0, 93) from rfl) ?_
        refine z_callV X 179 (rm := rmN 204) (As := [.int (Int32.ofInt 93)]) (st := []) (show cdA 210 84 = some (.invokevirtual 263, 3, 204, 0, 0) from rfl) rfl (by decide) rfl (by rw [E.1, E.2.1, E.2.2.1]; exact k_sign3 G Is41 JFDB_s41 (by first | exact ⟨by decide, by decide⟩ | omega) (by omega)) ⟨by rw [E.2.2.2]; exact (show 8 + 1 ≤ (12 + (24 + 3 * (r + 1))) from oq_91dbadf4 r), by rw [E.2.2.2]; exact (show 8 + (2 + 11) + 141 ≤ (500 + 45 * (24 + 3 * (r + 1))) from oq_da5feea9 r), by rw [E.2.2.2]; exact Nat.le_refl 0, by rw [E.2.2.2]; exact Nat.le_refl 0⟩ (Nat.le_of_ble_eq_true rfl) (fun vv s46 hq => ?_) (fun ee s46 hq => ?_)
        rotate_left
        · obtain ⟨Is46, Fs46, JFDB_s46, hv, hps46⟩ := hq; cases hv
        obtain ⟨Is46, Fs46, JFDB_s46, hv, hps46⟩ := hq
        cases hv
        have Gs46 := fm_ts Gs41 Fs46 (by decide) (by decide)
        have JFDB_s46 : FDB B N s46 := FDB_fm Fs46 (by decide) JFDB_s41
        have b48 : (0 : Int) ≤ iI s46 77 ∧ iI s46 77 ≤ 400 := Is46.1 77
        have ws46_75 : iI s46 75 = iI s41 75 := fm_i Fs46 (by decide)
        have b49 : (0 : Int) ≤ iI s46 79 ∧ iI s46 79 ≤ 9 := Is46.1 79
        have ws46_78 : iI s46 78 = iI s41 78 := fm_i Fs46 (by decide)
        show WS k 87 [(1, .int (Int32.ofInt e42)), (0, .ref (A 179))] [] (Wd A dT s46) 0 0
        have hle : iI s46 79 = 0 → iI s46 77 ≤ N := fun h => sg_le hps46.1 h
        refine z_aload_n X (x := A 179) (show cdA 210 87 = some (.aload_n 0, 1, 0, 0, 0) from rfl) (List.Mem.tail _ (List.Mem.head _)) ?_
        refine w_dup X.1 (ax_d X (show cdA 210 88 = some (.dup, 1, 0, 0, 0) from rfl)) rfl ?_
        refine z_getI X 179 (show cdA 210 89 = some (.getfield 213, 3, 12, 5, 0) from rfl) (by decide) rfl rfl ?_
        have b50 : (0 : Int) ≤ iI s46 78 ∧ iI s46 78 ≤ 8 := Is46.1 78
        refine z_const X (show cdA 210 92 = some (.iconst 1, 1, 0, 0, 0) from rfl) ?_
        refine z_sub X (show cdA 210 93 = some (.isub, 1, 0, 0, 0) from rfl) ?_
        refine s_putI X 179 (show cdA 210 94 = some (.putfield 213, 3, 12, 5, 0) from rfl) (by decide) rfl rfl (by decide) rfl rfl rfl ?_
        obtain ⟨s51, hs51⟩ : ∃ x0, x0 = uI s46 78 (Int32.ofInt ((iI s46 78) - 1)) := ⟨_, rfl⟩
        rw [← hs51]
        have Is51 : Bd s51 := by rw [hs51]; exact bd_I Is46 (show (0 : Int) ≤ ((iI s46 78) - 1) ∧ ((iI s46 78) - 1) ≤ 8 by first | exact ⟨oq_72416b87 ws46_78 hps41.1 hps36.2.1 ws7_78 b4.1, oq_d7fe5c3c b50.2⟩ | omega) ⟨by first | exact oq_c1e961c7 b50.1 | omega, by first | exact oq_22bc6706 b50.2 | omega⟩
        have Fs51 := fm_I (x := Int32.ofInt ((iI s46 78) - 1)) Gs46 (show 78 ∈ _ by decide)
        rw [← hs51] at Fs51
        have vs51 : iI s51 78 = ((iI s46 78) - 1) := by rw [hs51]; exact iI_u ⟨by first | exact oq_c1e961c7 b50.1 | omega, by first | exact oq_22bc6706 b50.2 | omega⟩
        have ws51_77 : iI s51 77 = iI s46 77 := by rw [hs51]; rfl
        have ws51_75 : iI s51 75 = iI s46 75 := by rw [hs51]; rfl
        have ws51_79 : iI s51 79 = iI s46 79 := by rw [hs51]; rfl
        have fs51 : Fm [78] [] s46 s51 := by rw [hs51]; exact fm_I (fm_rf _ _ _) (show 78 ∈ _ by decide)
        have JFDB_s51 : FDB B N s51 := FDB_fm fs51 (by decide) JFDB_s46
        refine z_load_n X (x := e42) (show cdA 210 97 = some (.iload_n 1, 1, 0, 0, 0) from rfl) (List.Mem.head _) ?_
        exact w_iret X.1 q hRt (nar_ret (by first | exact hps41.2.2.2.2.2.2.1 | omega)) (ax_d X (show cdA 210 98 = some (.ireturn, 1, 0, 0, 0) from rfl)) (Nat.zero_le _) (Nat.zero_le _) ⟨_, rfl, Is51, Fs51, JFDB_s51, e42, rfl, hrs41, ⟨by first | exact oq_a5539f03 vs51 ws7_78 hps36.2.1 ws46_78 hps41.1 | omega, by first | exact oq_a0f29d8a ws51_77 hps7.2.2.1 hps46.2.1 hps41.2.1 hps36.1 | omega, by omega, by first | exact oq_e013ad0f g6 | omega, by omega, by first | exact oq_e14a4589 ws51_77 hps46.2.1 hps41.2.1 hps36.1 hps7.2.2.1 | omega, by first | exact hps41.2.2.2.2.2.2.1 | omega, Or.inr ⟨by omega, by rw [← hpz]; exact ou_mvv (ou_brkFv (by omega) hch (by omega) (by omega) (by omega) (by omega) (pfv_c hps41.2.2.2.2.2.2.2 (nmr_fm Gs36 (by decide))) hps46.1) (by rw [show iI s51 77 = iI s46 77 by omega]) (by omega)⟩⟩⟩
    ·
      have hl3 := wh_not (B := B) (N := N) (p := pz) (by omega)
      have hl4 : wdE B N pz ≤ N := by have z := (wd_lo (B := B) (N := N) (p := pz) _ (Nat.le_refl _)).2; omega
      refine z_aload_n X (x := A 179) (show cdA 210 28 = some (.aload_n 0, 1, 0, 0, 0) from rfl) (List.Mem.head _) ?_
      refine z_const X (show cdA 210 29 = some (.iconst 3, 1, 0, 0, 0) from rfl) ?_
      refine z_callV X 179 (rm := rmN 205) (As := [.int (Int32.ofInt 3)]) (st := []) (show cdA 210 30 = some (.invokevirtual 257, 3, 205, 0, 0) from rfl) rfl (by decide) rfl (by rw [E.1, E.2.1, E.2.2.1]; exact k_opens3 G Is7 (by first | exact ⟨by decide, by decide⟩ | omega) (by omega) (by omega)) ⟨by rw [E.2.2.2]; exact (show 7 + 1 ≤ (12 + (24 + 3 * (r + 1))) from oq_36eaf53c r), by rw [E.2.2.2]; exact (show 8 + (2 + 11) + 122 ≤ (500 + 45 * (24 + 3 * (r + 1))) from oq_2520a5c5 r), by rw [E.2.2.2]; exact Nat.le_refl 0, by rw [E.2.2.2]; exact Nat.le_refl 0⟩ (Nat.le_of_ble_eq_true rfl) (fun vv s52 hq => ?_) (fun ee s52 hq => ?_)
      rotate_left
      · obtain ⟨Is52, Fs52, hv, hps52⟩ := hq; cases hv
      obtain ⟨Is52, Fs52, hv, hps52⟩ := hq
      cases hv
      have Gs52 := fm_ts Gs7 Fs52 (by decide) (by decide)
      have JFDB_s52 : FDB B N s52 := FDB_fm Fs52 (by decide) JFDB_s7
      have b54 : (0 : Int) ≤ iI s52 77 ∧ iI s52 77 ≤ 400 := Is52.1 77
      have ws52_75 : iI s52 75 = iI s7 75 := fm_i Fs52 (by decide)
      have b55 : (0 : Int) ≤ iI s52 79 ∧ iI s52 79 ≤ 9 := Is52.1 79
      have b56 : (0 : Int) ≤ iI s52 78 ∧ iI s52 78 ≤ 8 := Is52.1 78
      show WS k 33 [(0, .ref (A 179))] [] (Wd A dT s52) 0 0
      refine z_aload_n X (x := A 179) (show cdA 210 33 = some (.aload_n 0, 1, 0, 0, 0) from rfl) (List.Mem.head _) ?_
      refine z_callV X 179 (rm := (rkR (24 + 3 * (r)))) (As := []) (st := []) (show cdA 210 34 = some (.invokevirtual 272, 3, 210, 0, 0) from rfl) rfl (by decide) rfl (by rw [E.1, E.2.1, E.2.2.1]; exact hT Is52 JFDB_s52 (by omega) (by first | exact oq_4fdfb4aa p1 hps52.2.1 ws7_78 | omega) (by first | exact oq_3a71b695 hps52.2.2 hps52.2.1 ws7_79 g6 | omega) (by omega)) ⟨by rw [E.2.2.2]; exact (show (12 + (24 + 3 * (r))) + 1 ≤ (12 + (24 + 3 * (r + 1))) from oq_02269255 r), by rw [E.2.2.2]; exact (show 8 + (4 + 11) + (500 + 45 * (24 + 3 * (r))) ≤ (500 + 45 * (24 + 3 * (r + 1))) from oq_bcf847ad r), by rw [E.2.2.2]; exact Nat.le_refl 0, by rw [E.2.2.2]; exact Nat.le_refl 0⟩ (Nat.le_of_ble_eq_true rfl) (fun vv s57 hq => ?_) (fun ee s57 hq => ?_)
      rotate_left
      · obtain ⟨Is57, Fs57, JFDB_s57, e58, hv, hrs57, hps57⟩ := hq; cases hv
      obtain ⟨Is57, Fs57, JFDB_s57, e58, hv, hrs57, hps57⟩ := hq
      cases hv
      have Gs57 := fm_ts Gs52 Fs57 (by decide) (by decide)
      have JFDB_s57 : FDB B N s57 := FDB_fm Fs57 (by decide) JFDB_s52
      have b59 : (0 : Int) ≤ iI s57 77 ∧ iI s57 77 ≤ 400 := Is57.1 77
      have ws57_75 : iI s57 75 = iI s52 75 := fm_i Fs57 (by decide)
      have b60 : (0 : Int) ≤ iI s57 79 ∧ iI s57 79 ≤ 9 := Is57.1 79
      have b61 : (0 : Int) ≤ iI s57 78 ∧ iI s57 78 ≤ 8 := Is57.1 78
      show WS k 37 [(0, .ref (A 179))] [.int (Int32.ofInt e58)] (Wd A dT s57) 0 0
      refine z_if_ne X (t := 44) (show cdA 210 37 = some (.ifCond .ne 7, 3, 1, 0, 0) from rfl) (by decide) hrs57 (fun g62 => ?_) (fun g62 => ?_)
      ·
        refine z_const X (show cdA 210 44 = some (.iconst 0, 1, 0, 0, 0) from rfl) ?_
        refine z_store_n X (lv' := [(1, .int (Int32.ofInt 0)), (0, .ref (A 179))]) (show cdA 210 45 = some (.istore_n 1, 1, 0, 0, 0) from rfl) (by decide) (fun _ h => h) ?_
        refine z_aload_n X (x := A 179) (show cdA 210 46 = some (.aload_n 0, 1, 0, 0, 0) from rfl) (List.Mem.tail _ (List.Mem.head _)) ?_
        refine w_dup X.1 (ax_d X (show cdA 210 47 = some (.dup, 1, 0, 0, 0) from rfl)) rfl ?_
        refine z_getI X 179 (show cdA 210 48 = some (.getfield 213, 3, 12, 5, 0) from rfl) (by decide) rfl rfl ?_
        have b63 : (0 : Int) ≤ iI s57 78 ∧ iI s57 78 ≤ 8 := Is57.1 78
        refine z_const X (show cdA 210 51 = some (.iconst 1, 1, 0, 0, 0) from rfl) ?_
        refine z_sub X (show cdA 210 52 = some (.isub, 1, 0, 0, 0) from rfl) ?_
        refine s_putI X 179 (show cdA 210 53 = some (.putfield 213, 3, 12, 5, 0) from rfl) (by decide) rfl rfl (by decide) rfl rfl rfl ?_
        obtain ⟨s64, hs64⟩ : ∃ x0, x0 = uI s57 78 (Int32.ofInt ((iI s57 78) - 1)) := ⟨_, rfl⟩
        rw [← hs64]
        have Is64 : Bd s64 := by rw [hs64]; exact bd_I Is57 (show (0 : Int) ≤ ((iI s57 78) - 1) ∧ ((iI s57 78) - 1) ≤ 8 by first | exact ⟨oq_f92f5a7c hps57.1 hps52.2.1 ws7_78 b4.1, oq_d7fe5c3c b63.2⟩ | omega) ⟨by first | exact oq_c1e961c7 b63.1 | omega, by first | exact oq_22bc6706 b63.2 | omega⟩
        have Fs64 := fm_I (x := Int32.ofInt ((iI s57 78) - 1)) Gs57 (show 78 ∈ _ by decide)
        rw [← hs64] at Fs64
        have vs64 : iI s64 78 = ((iI s57 78) - 1) := by rw [hs64]; exact iI_u ⟨by first | exact oq_c1e961c7 b63.1 | omega, by first | exact oq_22bc6706 b63.2 | omega⟩
        have ws64_77 : iI s64 77 = iI s57 77 := by rw [hs64]; rfl
        have ws64_75 : iI s64 75 = iI s57 75 := by rw [hs64]; rfl
        have ws64_79 : iI s64 79 = iI s57 79 := by rw [hs64]; rfl
        have fs64 : Fm [78] [] s57 s64 := by rw [hs64]; exact fm_I (fm_rf _ _ _) (show 78 ∈ _ by decide)
        have JFDB_s64 : FDB B N s64 := FDB_fm fs64 (by decide) JFDB_s57
        refine z_load_n X (x := 0) (show cdA 210 56 = some (.iload_n 1, 1, 0, 0, 0) from rfl) (List.Mem.head _) ?_
        exact w_iret X.1 q hRt (nar_ret (by first | exact Or.inl (by decide) | omega)) (ax_d X (show cdA 210 57 = some (.ireturn, 1, 0, 0, 0) from rfl)) (Nat.zero_le _) (Nat.zero_le _) ⟨_, rfl, Is64, Fs64, JFDB_s64, 0, rfl, (by decide), ⟨by first | exact oq_82d75f38 vs64 ws7_78 hps52.2.1 hps57.1 | omega, by first | exact oq_af08c243 ws64_77 hps7.2.2.1 hps57.2.1 hps52.1 | omega, by omega, by first | exact oq_e013ad0f g6 | omega, by first | exact oq_dbc0ca79 ws64_79 ws64_77 b60.1 hps57.2.2.2.2.1 ws52_75 ws7_75 | omega, by first | exact oq_9d0a7132 ws64_77 hps57.2.1 hps52.1 hps7.2.2.1 | omega, by first | exact Or.inl (by decide) | omega, Or.inr ⟨by omega, by rw [← hpz]; exact ou_mvv (ou_notFv (by omega) (by omega) (by omega) (by omega) (by omega) (pfv_c hps57.2.2.2.2.2.2.2 (nmr_fm Gs52 (by decide))) (fun c hc => vl_notE hc (by omega))) (by rw [show iI s64 77 = iI s57 77 by omega]) (by omega)⟩⟩⟩
      ·
        refine z_const X (show cdA 210 40 = some (.iconst 1, 1, 0, 0, 0) from rfl) ?_
        refine z_goto X (t := 45) (show cdA 210 41 = some (.goto 4, 3, 0, 0, 0) from rfl) (by decide) ?_
        refine z_store_n X (lv' := [(1, .int (Int32.ofInt 1)), (0, .ref (A 179))]) (show cdA 210 45 = some (.istore_n 1, 1, 0, 0, 0) from rfl) (by decide) (fun _ h => h) ?_
        refine z_aload_n X (x := A 179) (show cdA 210 46 = some (.aload_n 0, 1, 0, 0, 0) from rfl) (List.Mem.tail _ (List.Mem.head _)) ?_
        refine w_dup X.1 (ax_d X (show cdA 210 47 = some (.dup, 1, 0, 0, 0) from rfl)) rfl ?_
        refine z_getI X 179 (show cdA 210 48 = some (.getfield 213, 3, 12, 5, 0) from rfl) (by decide) rfl rfl ?_
        have b65 : (0 : Int) ≤ iI s57 78 ∧ iI s57 78 ≤ 8 := Is57.1 78
        refine z_const X (show cdA 210 51 = some (.iconst 1, 1, 0, 0, 0) from rfl) ?_
        refine z_sub X (show cdA 210 52 = some (.isub, 1, 0, 0, 0) from rfl) ?_
        refine s_putI X 179 (show cdA 210 53 = some (.putfield 213, 3, 12, 5, 0) from rfl) (by decide) rfl rfl (by decide) rfl rfl rfl ?_
        obtain ⟨s66, hs66⟩ : ∃ x0, x0 = uI s57 78 (Int32.ofInt ((iI s57 78) - 1)) := ⟨_, rfl⟩
        rw [← hs66]
        have Is66 : Bd s66 := by rw [hs66]; exact bd_I Is57 (show (0 : Int) ≤ ((iI s57 78) - 1) ∧ ((iI s57 78) - 1) ≤ 8 by first | exact ⟨oq_f92f5a7c hps57.1 hps52.2.1 ws7_78 b4.1, oq_d7fe5c3c b65.2⟩ | omega) ⟨by first | exact oq_c1e961c7 b65.1 | omega, by first | exact oq_22bc6706 b65.2 | omega⟩
        have Fs66 := fm_I (x := Int32.ofInt ((iI s57 78) - 1)) Gs57 (show 78 ∈ _ by decide)
        rw [← hs66] at Fs66
        have vs66 : iI s66 78 = ((iI s57 78) - 1) := by rw [hs66]; exact iI_u ⟨by first | exact oq_c1e961c7 b65.1 | omega, by first | exact oq_22bc6706 b65.2 | omega⟩
        have ws66_77 : iI s66 77 = iI s57 77 := by rw [hs66]; rfl
        have ws66_75 : iI s66 75 = iI s57 75 := by rw [hs66]; rfl
        have ws66_79 : iI s66 79 = iI s57 79 := by rw [hs66]; rfl
        have fs66 : Fm [78] [] s57 s66 := by rw [hs66]; exact fm_I (fm_rf _ _ _) (show 78 ∈ _ by decide)
        have JFDB_s66 : FDB B N s66 := FDB_fm fs66 (by decide) JFDB_s57
        refine z_load_n X (x := 1) (show cdA 210 56 = some (.iload_n 1, 1, 0, 0, 0) from rfl) (List.Mem.head _) ?_
        exact w_iret X.1 q hRt (nar_ret (by first | exact Or.inr (by decide) | omega)) (ax_d X (show cdA 210 57 = some (.ireturn, 1, 0, 0, 0) from rfl)) (Nat.zero_le _) (Nat.zero_le _) ⟨_, rfl, Is66, Fs66, JFDB_s66, 1, rfl, (by decide), ⟨by first | exact oq_82d75f38 vs66 ws7_78 hps52.2.1 hps57.1 | omega, by first | exact oq_af08c243 ws66_77 hps7.2.2.1 hps57.2.1 hps52.1 | omega, by omega, by first | exact oq_e013ad0f g6 | omega, by first | exact oq_dbc0ca79 ws66_79 ws66_77 b60.1 hps57.2.2.2.2.1 ws52_75 ws7_75 | omega, by first | exact oq_9d0a7132 ws66_77 hps57.2.1 hps52.1 hps7.2.2.1 | omega, by first | exact Or.inr (by decide) | omega, Or.inr ⟨by omega, by rw [← hpz]; exact ou_mvv (ou_notFv (by omega) (by omega) (by omega) (by omega) (by omega) (pfv_c hps57.2.2.2.2.2.2.2 (nmr_fm Gs52 (by decide))) (fun c hc => vl_notE hc (by omega))) (by rw [show iI s66 77 = iI s57 77 by omega]) (by omega)⟩⟩⟩
  ·
    refine z_const X (show cdA 210 7 = some (.iconst 0, 1, 0, 0, 0) from rfl) ?_
    exact w_iret X.1 q hRt (nar_ret (by first | exact Or.inl (by decide) | omega)) (ax_d X (show cdA 210 8 = some (.ireturn, 1, 0, 0, 0) from rfl)) (Nat.zero_le _) (Nat.zero_le _) ⟨_, rfl, I, F, jFDB, 0, rfl, (by decide), ⟨by omega, by omega, by first | exact Or.inl (by decide) | omega, by first | exact oq_4bed1c3e g6 b5.1 | omega, by first | exact oq_6a3c9b31 g6 b5.1 | omega, by first | exact oq_a49e6adf g6 b5.1 | omega, by first | exact Or.inl (by decide) | omega, Or.inl ⟨by omega, by omega⟩⟩⟩
set_option maxRecDepth 4000 in
theorem k_andsS5 (G : GX l s0 D tys a0 dT) {B : Nat → Int} {N : Int} {r : Nat} (hT : ∀ {s : PS}, Bd s → FDB B N s → (iI s 77 ≤ 203) → (iI s 78 + ((r : Nat) : Int) = 7) → (iI s 78 = 7 → iI s 79 ≠ 0) → (iI s 79 = 0 → iI s 77 ≤ 202) → CT l s0 D A dT 210 (rkR (24 + 3 * (r))) [.ref (A 179)] s (fun o t => Bd t ∧ Fm [77, 79, 80, 78] [] s t ∧ FDB B N t ∧ ∃ e, o = .inl (some (.int (Int32.ofInt e))) ∧ rng e ∧ (iI t 78 = iI s 78 ∧ iI s 77 ≤ iI t 77 ∧ (iI t 77 = iI s 77 ∨ iI t 77 ≤ 203) ∧ (iI s 79 ≠ 0 → iI t 79 ≠ 0) ∧ (iI t 79 = 0 → iI t 77 ≤ iI s 75) ∧ (iI s 79 = 0 → iI s 77 < iI t 77) ∧ (e = 0 ∨ e = 1) ∧ PFv (VLm (NMr s) (Int32.ofInt e)) B N 5 s t))) (I : Bd s) (jFDB : FDB B N s) (p0 : iI s 77 ≤ 203) (p1 : iI s 78 + ((r : Nat) : Int) = 7) (p2 : iI s 78 = 7 → iI s 79 ≠ 0) (p3 : iI s 79 = 0 → iI s 77 ≤ 202) : CT l s0 D A dT 211 (rkR (24 + 3 * (r) + 1)) [.ref (A 179)] s (fun o t => Bd t ∧ Fm [77, 79, 80, 78] [] s t ∧ FDB B N t ∧ ∃ e, o = .inl (some (.int (Int32.ofInt e))) ∧ rng e ∧ (iI t 78 = iI s 78 ∧ iI s 77 ≤ iI t 77 ∧ (iI t 77 = iI s 77 ∨ iI t 77 ≤ 203) ∧ (iI s 79 ≠ 0 → iI t 79 ≠ 0) ∧ (iI t 79 = 0 → iI t 77 ≤ iI s 75) ∧ (iI s 79 = 0 → iI s 77 < iI t 77) ∧ (e = 0 ∨ e = 1) ∧ PFv (VLm (NMr s) (Int32.ofInt e)) B N 6 s t)) := by
  refine ct_of G (by decide) (Nat.le_of_ble_eq_true rfl) (fun k X E hRt hXt q => ?_)
  show WS k 0 [(0, .ref (A 179))] [] _ 0 0
  have F : Fm [77, 79, 80, 78] [] s s := fm_rf _ _ s
  have hN := jFDB.2.1
  have hW := jFDB.2.2
  have b1 : (0 : Int) ≤ iI s 77 ∧ iI s 77 ≤ 400 := I.1 77
  have b2 : (0 : Int) ≤ iI s 75 ∧ iI s 75 ≤ 200 := I.1 75
  have b3 : (0 : Int) ≤ iI s 79 ∧ iI s 79 ≤ 9 := I.1 79
  have b4 : (0 : Int) ≤ iI s 78 ∧ iI s 78 ≤ 8 := I.1 78
  have L5 : ∀ (n : Nat) (t : PS) (v : Int), Bd t → Fm [77, 79, 80, 78] [] s t → FDB B N t → (PRv (VLm (NMr s) (Int32.ofInt v)) B N 7 6 s t) → (iI t 78 = iI s 78 ∧ iI s 77 ≤ iI t 77 ∧ (iI t 77 = iI s 77 ∨ iI t 77 ≤ 203) ∧ (iI s 79 ≠ 0 → iI t 79 ≠ 0) ∧ (iI t 79 = 0 → iI t 77 ≤ iI s 75) ∧ (iI s 79 = 0 → iI s 77 < iI t 77) ∧ iI t 75 = iI s 75 ∧ (v = 0 ∨ v = 1)) → (204 - iI t 77 : Int).toNat < n → (∀ (t' : PS) (v' : Int), Bd t' → Fm [77, 79, 80, 78] [] s t' → FDB B N t' → (PFv (VLm (NMr s) (Int32.ofInt v')) B N 6 s t') → (iI t' 78 = iI s 78 ∧ iI s 77 ≤ iI t' 77 ∧ (iI t' 77 = iI s 77 ∨ iI t' 77 ≤ 203) ∧ (iI s 79 ≠ 0 → iI t' 79 ≠ 0) ∧ (iI t' 79 = 0 → iI t' 77 ≤ iI s 75) ∧ (iI s 79 = 0 → iI s 77 < iI t' 77) ∧ iI t' 75 = iI s 75 ∧ (v' = 0 ∨ v' = 1)) → WS k 55 [(0, .ref (A 179)), (1, .int (Int32.ofInt v'))] [] (Wd A dT t') 0 0) → WS k 5 [(0, .ref (A 179)), (1, .int (Int32.ofInt v))] [] (Wd A dT t) 0 0 := by
    intro n
    induction n with
    | zero =>
      intro t v I F jjFDB hq hi hm kx
      exact absurd hm (Nat.not_lt_zero _)
    | succ n ih =>
      intro t v I F jjFDB hq hi hm kx
      have b1001 : (0 : Int) ≤ iI t 77 ∧ iI t 77 ≤ 400 := I.1 77
      have b1002 : (0 : Int) ≤ iI t 75 ∧ iI t 75 ≤ 200 := I.1 75
      have b1003 : (0 : Int) ≤ iI t 79 ∧ iI t 79 ≤ 9 := I.1 79
      have b1004 : (0 : Int) ≤ iI t 78 ∧ iI t 78 ≤ 8 := I.1 78
      have hN := jjFDB.2.1
      have hW := jjFDB.2.2
      refine z_aload_n X (x := A 179) (show cdA 211 5 = some (.aload_n 0, 1, 0, 0, 0) from rfl) (List.Mem.head _) ?_
      refine z_getI X 179 (show cdA 211 6 = some (.getfield 191, 3, 12, 6, 0) from rfl) (by decide) rfl rfl ?_
      have b1005 : (0 : Int) ≤ iI t 79 ∧ iI t 79 ≤ 9 := I.1 79
      refine z_if_ne X (t := 55) (show cdA 211 9 = some (.ifCond .ne 46, 3, 1, 0, 0) from rfl) (by decide) (rng_to _) (fun g1006 => ?_) (fun g1006 => ?_)
      ·
        refine WS_lv (lv := [(0, .ref (A 179)), (1, .int (Int32.ofInt v))]) (List.forall_mem_cons.mpr ⟨(List.Mem.head _), (List.forall_mem_cons.mpr ⟨(List.Mem.tail _ (List.Mem.head _)), (fun q h => absurd h List.not_mem_nil)⟩)⟩) ?_
        exact kx _ v I F jjFDB (by first | exact prm_fav hq (by omega) | exact prmb_endv (prm_mvv hq (by rw [show iI t 77 = sk B N (iI t 77) from hpt.1]; exact sk_sk) (by omega)) (by omega) (by rw [show sk B N (iI t 77) = sk B N (iI t 77) by rw [hpt.1]; exact sk_sk]; omega)) (by first | exact ⟨hi.1, hi.2.1, hi.2.2.1, hi.2.2.2.1, hi.2.2.2.2.1, hi.2.2.2.2.2.1, hi.2.2.2.2.2.2.1, hi.2.2.2.2.2.2.2⟩ | omega)
      ·
        refine z_aload_n X (x := A 179) (show cdA 211 12 = some (.aload_n 0, 1, 0, 0, 0) from rfl) (List.Mem.head _) ?_
        refine z_callV X 179 (rm := rmN 201) (As := []) (st := []) (show cdA 211 13 = some (.invokevirtual 243, 3, 201, 0, 0) from rfl) rfl (by decide) rfl (by rw [E.1, E.2.1, E.2.2.1]; exact k_wordHere3 G I jjFDB (by first | exact oq_179d6548 hi.2.2.1 p0 | omega)) ⟨by rw [E.2.2.2]; exact (show 8 + 1 ≤ (12 + (24 + 3 * (r) + 1)) from oq_39e70b4f r), by rw [E.2.2.2]; exact (show 8 + (3 + 11) + 141 ≤ (500 + 45 * (24 + 3 * (r) + 1)) from oq_c22861ba r), by rw [E.2.2.2]; exact Nat.le_refl 0, by rw [E.2.2.2]; exact Nat.le_refl 0⟩ (Nat.le_of_ble_eq_true rfl) (fun vv s1007 hq => ?_) (fun ee s1007 hq => ?_)
        rotate_left
        · obtain ⟨Is1007, Fs1007, JFDB_s1007, e1008, hv, hrs1007, hps1007⟩ := hq; cases hv
        obtain ⟨Is1007, Fs1007, JFDB_s1007, e1008, hv, hrs1007, hps1007⟩ := hq
        cases hv
        have Gs1007 := fm_ts F Fs1007 (by decide) (by decide)
        have JFDB_s1007 : FDB B N s1007 := FDB_fm Fs1007 (by decide) jjFDB
        have b1009 : (0 : Int) ≤ iI s1007 77 ∧ iI s1007 77 ≤ 400 := Is1007.1 77
        have ws1007_75 : iI s1007 75 = iI t 75 := fm_i Fs1007 (by decide)
        have ws1007_79 : iI s1007 79 = iI t 79 := fm_i Fs1007 (by decide)
        have ws1007_78 : iI s1007 78 = iI t 78 := fm_i Fs1007 (by decide)
        show WS k 16 [(0, .ref (A 179)), (1, .int (Int32.ofInt v))] [.int (Int32.ofInt e1008)] (Wd A dT s1007) 0 0
        have hwv : e1008 = whV B N (sk B N (iI t 77)) := by rw [hps1007.2.1, hps1007.1]
        refine z_const X (show cdA 211 16 = some (.iconst 1, 1, 0, 0, 0) from rfl) ?_
        refine z_bipush X (show cdA 211 17 = some (.bipush 14, 2, 0, 0, 14) from rfl) ?_
        refine z_const X (show cdA 211 19 = some (.iconst 4, 1, 0, 0, 0) from rfl) ?_
        refine z_const X (show cdA 211 20 = some (.iconst 0, 1, 0, 0, 0) from rfl) ?_
        refine z_const X (show cdA 211 21 = some (.iconst 0, 1, 0, 0, 0) from rfl) ?_
        refine z_const X (show cdA 211 22 = some (.iconst 0, 1, 0, 0, 0) from rfl) ?_
        refine z_callS X (rm := rmN 202) (As := [.int (Int32.ofInt 1), .int (Int32.ofInt 14), .int (Int32.ofInt 4), .int (Int32.ofInt 0), .int (Int32.ofInt 0), .int (Int32.ofInt 0)]) (st := [.int (Int32.ofInt e1008)]) (show cdA 211 23 = some (.invokestatic 247, 3, 202, 1, 0) from rfl) rfl (by rw [E.1, E.2.1, E.2.2.1]; exact k_word3 G Is1007 (by first | exact ⟨by decide, by decide⟩ | omega) (by first | exact ⟨by decide, by decide⟩ | omega) (by first | exact ⟨by decide, by decide⟩ | omega) (by first | exact ⟨by decide, by decide⟩ | omega) (by first | exact ⟨by decide, by decide⟩ | omega) (by first | exact ⟨by decide, by decide⟩ | omega)) ⟨by rw [E.2.2.2]; exact (show 6 + 1 ≤ (12 + (24 + 3 * (r) + 1)) from oq_daac07eb r), by rw [E.2.2.2]; exact (show 8 + (7 + 11) + 100 ≤ (500 + 45 * (24 + 3 * (r) + 1)) from oq_40ed5dd2 r), by rw [E.2.2.2]; exact Nat.le_refl 0, by rw [E.2.2.2]; exact Nat.le_refl 0⟩ (Nat.le_of_ble_eq_true rfl) (fun vv s1010 hq => ?_) (fun ee s1010 hq => ?_)
        rotate_left
        · obtain ⟨rfl, e1011, hv, hrs1010, hps1010⟩ := hq; cases hv
        obtain ⟨rfl, e1011, hv, hrs1010, hps1010⟩ := hq
        cases hv
        show WS k 26 [(0, .ref (A 179)), (1, .int (Int32.ofInt v))] [.int (Int32.ofInt e1011), .int (Int32.ofInt e1008)] (Wd A dT s1007) 0 0
        have hk1012 : e1011 = 1111 := by rw [hps1010.2]; decide
        refine z_icmp_ne X (t := 55) (show cdA 211 26 = some (.if_icmp .ne 29, 3, 1, 0, 0) from rfl) (by decide) hrs1007 hrs1010 (fun g1013 => ?_) (fun g1013 => ?_)
        ·
          refine WS_lv (lv := [(0, .ref (A 179)), (1, .int (Int32.ofInt v))]) (List.forall_mem_cons.mpr ⟨(List.Mem.head _), (List.forall_mem_cons.mpr ⟨(List.Mem.tail _ (List.Mem.head _)), (fun q h => absurd h List.not_mem_nil)⟩)⟩) ?_
          exact kx _ v Is1007 Gs1007 JFDB_s1007 (by first | exact prm_fav hq (by omega) | exact prmb_endv (prm_mvv hq (by rw [show iI s1007 77 = sk B N (iI t 77) from hps1007.1]; exact sk_sk) (by omega)) (by omega) (by rw [show sk B N (iI s1007 77) = sk B N (iI t 77) by rw [hps1007.1]; exact sk_sk]; omega)) (by first | exact ⟨oq_1aa5be9e ws1007_78 hi.1, oq_f8a2cf0e hps1007.2.2.1 hi.2.1, by omega, oq_67b737cd g1006 hi.2.2.2.1 b3.1, by omega, oq_dbd39218 hps1007.2.2.1 hi.2.2.2.2.2.1 b3.1, oq_1aa5be9e ws1007_75 hi.2.2.2.2.2.2.1, hi.2.2.2.2.2.2.2⟩ | omega)
        ·
          refine z_aload_n X (x := A 179) (show cdA 211 29 = some (.aload_n 0, 1, 0, 0, 0) from rfl) (List.Mem.head _) ?_
          refine z_callV X 179 (rm := rmN 203) (As := []) (st := []) (show cdA 211 30 = some (.invokevirtual 254, 3, 203, 0, 0) from rfl) rfl (by decide) rfl (by rw [E.1, E.2.1, E.2.2.1]; exact k_skipWord3 G Is1007 JFDB_s1007 (by omega)) ⟨by rw [E.2.2.2]; exact (show 7 + 1 ≤ (12 + (24 + 3 * (r) + 1)) from oq_ede76fc4 r), by rw [E.2.2.2]; exact (show 8 + (1 + 11) + 121 ≤ (500 + 45 * (24 + 3 * (r) + 1)) from oq_71ab51d5 r), by rw [E.2.2.2]; exact Nat.le_refl 0, by rw [E.2.2.2]; exact Nat.le_refl 0⟩ (Nat.le_of_ble_eq_true rfl) (fun vv s1014 hq => ?_) (fun ee s1014 hq => ?_)
          rotate_left
          · obtain ⟨Is1014, Fs1014, JFDB_s1014, hv, hps1014⟩ := hq; cases hv
          obtain ⟨Is1014, Fs1014, JFDB_s1014, hv, hps1014⟩ := hq
          cases hv
          have Gs1014 := fm_ts Gs1007 Fs1014 (by decide) (by decide)
          have JFDB_s1014 : FDB B N s1014 := FDB_fm Fs1014 (by decide) JFDB_s1007
          have b1016 : (0 : Int) ≤ iI s1014 77 ∧ iI s1014 77 ≤ 400 := Is1014.1 77
          have ws1014_75 : iI s1014 75 = iI s1007 75 := fm_i Fs1014 (by decide)
          have ws1014_79 : iI s1014 79 = iI s1007 79 := fm_i Fs1014 (by decide)
          have ws1014_78 : iI s1014 78 = iI s1007 78 := fm_i Fs1014 (by decide)
          show WS k 33 [(0, .ref (A 179)), (1, .int (Int32.ofInt v))] [] (Wd A dT s1014) 0 0
          refine z_aload_n X (x := A 179) (show cdA 211 33 = some (.aload_n 0, 1, 0, 0, 0) from rfl) (List.Mem.head _) ?_
          refine z_callV X 179 (rm := (rkR (24 + 3 * (r)))) (As := []) (st := []) (show cdA 211 34 = some (.invokevirtual 272, 3, 210, 0, 0) from rfl) rfl (by decide) rfl (by rw [E.1, E.2.1, E.2.2.1]; exact hT Is1014 JFDB_s1014 (by omega) (by first | exact oq_55278851 ws1014_78 p1 ws1007_78 hi.1 | omega) (by first | exact oq_aee6e230 ws1014_78 ws1007_78 g1006 hi.2.2.2.1 hi.1 b3.1 p2 | omega) (by omega)) ⟨by rw [E.2.2.2]; exact (show (12 + (24 + 3 * (r))) + 1 ≤ (12 + (24 + 3 * (r) + 1)) from oq_03e50da9 r), by rw [E.2.2.2]; exact (show 8 + (4 + 11) + (500 + 45 * (24 + 3 * (r))) ≤ (500 + 45 * (24 + 3 * (r) + 1)) from oq_cc4dfda7 r), by rw [E.2.2.2]; exact Nat.le_refl 0, by rw [E.2.2.2]; exact Nat.le_refl 0⟩ (Nat.le_of_ble_eq_true rfl) (fun vv s1017 hq => ?_) (fun ee s1017 hq => ?_)
          rotate_left
          · obtain ⟨Is1017, Fs1017, JFDB_s1017, e1018, hv, hrs1017, hps1017⟩ := hq; cases hv
          obtain ⟨Is1017, Fs1017, JFDB_s1017, e1018, hv, hrs1017, hps1017⟩ := hq
          cases hv
          have Gs1017 := fm_ts Gs1014 Fs1017 (by decide) (by decide)
          have JFDB_s1017 : FDB B N s1017 := FDB_fm Fs1017 (by decide) JFDB_s1014
          have b1019 : (0 : Int) ≤ iI s1017 77 ∧ iI s1017 77 ≤ 400 := Is1017.1 77
          have ws1017_75 : iI s1017 75 = iI s1014 75 := fm_i Fs1017 (by decide)
          have b1020 : (0 : Int) ≤ iI s1017 79 ∧ iI s1017 79 ≤ 9 := Is1017.1 79
          have b1021 : (0 : Int) ≤ iI s1017 78 ∧ iI s1017 78 ≤ 8 := Is1017.1 78
          show WS k 37 [(0, .ref (A 179)), (1, .int (Int32.ofInt v))] [.int (Int32.ofInt e1018)] (Wd A dT s1017) 0 0
          refine z_store_n X (lv' := [(2, .int (Int32.ofInt e1018)), (0, .ref (A 179)), (1, .int (Int32.ofInt v))]) (show cdA 211 37 = some (.istore_n 2, 1, 0, 0, 0) from rfl) (by decide) (fun _ h => h) ?_
          refine z_load_n X (x := v) (show cdA 211 38 = some (.iload_n 1, 1, 0, 0, 0) from rfl) (List.Mem.tail _ (List.Mem.tail _ (List.Mem.head _))) ?_
          refine z_if_eq X (t := 50) (show cdA 211 39 = some (.ifCond .eq 11, 3, 0, 0, 0) from rfl) (by decide) ⟨by first | exact oq_bde653e9 hi.2.2.2.2.2.2.2 | omega, by first | exact oq_4ad2cb8b hi.2.2.2.2.2.2.2 | omega⟩ (fun g1022 => ?_) (fun g1022 => ?_)
          ·
            refine z_const X (show cdA 211 50 = some (.iconst 0, 1, 0, 0, 0) from rfl) ?_
            refine z_store_n X (lv' := [(1, .int (Int32.ofInt 0)), (2, .int (Int32.ofInt e1018)), (0, .ref (A 179))]) (show cdA 211 51 = some (.istore_n 1, 1, 0, 0, 0) from rfl) (by decide) (fun _ h => h) ?_
            refine z_goto X (t := 5) (show cdA 211 52 = some (.goto (-47), 3, 0, 0, 0) from rfl) (by decide) ?_
            refine WS_lv (lv := [(0, .ref (A 179)), (1, .int (Int32.ofInt 0))]) (List.forall_mem_cons.mpr ⟨(List.Mem.tail _ (List.Mem.tail _ (List.Mem.head _))), (List.forall_mem_cons.mpr ⟨(List.Mem.head _), (fun q h => absurd h List.not_mem_nil)⟩)⟩) ?_
            exact ih _ 0 Is1017 Gs1017 JFDB_s1017 (prmb_upv hq (by omega) (by omega) (by rw [show iI s1014 77 = wdE B N (sk B N (iI t 77)) by rw [hps1014.1, hps1007.1]]) (by omega) (by omega) (pfv_c hps1017.2.2.2.2.2.2.2 (nmr_fm Gs1014 (by decide))) (fun a c ha hc => vl_up ha hc rfl (by decide) (jn_and (by omega) (by omega) (by omega)))) (by first | exact ⟨oq_ac0e91e1 hps1017.1 ws1014_78 ws1007_78 hi.1, oq_161ca6a3 hps1017.2.1 hi.2.1 hps1007.2.2.1 hps1014.2.1, oq_fe22fbe9 hps1017.2.2.2.2.2.1 hps1017.2.2.1 ws1014_79 ws1007_79 g1006, oq_67b737cd g1006 hi.2.2.2.1 b3.1, oq_cfa0a9a6 b1020.1 hps1017.2.2.2.2.1 ws1014_75 ws1007_75 hi.2.2.2.2.2.2.1, oq_346a0835 hps1017.2.2.2.2.2.1 ws1014_79 hps1014.2.1 ws1007_79 hps1007.2.2.1 g1006 hi.2.1, oq_45b593e3 ws1017_75 hi.2.2.2.2.2.2.1 ws1014_75 ws1007_75, Or.inl (by decide)⟩ | omega) (by first | exact qk_me hm (oq_d64112c4 hps1017.2.2.2.2.2.1 ws1014_79 hps1014.2.1 ws1007_79 hps1007.2.2.1 g1006) (oq_a3e7b886 hi.2.2.1 p0) | omega) kx
          ·
            refine z_load_n X (x := e1018) (show cdA 211 42 = some (.iload_n 2, 1, 0, 0, 0) from rfl) (List.Mem.head _) ?_
            refine z_if_eq X (t := 50) (show cdA 211 43 = some (.ifCond .eq 7, 3, 0, 0, 0) from rfl) (by decide) hrs1017 (fun g1023 => ?_) (fun g1023 => ?_)
            ·
              refine z_const X (show cdA 211 50 = some (.iconst 0, 1, 0, 0, 0) from rfl) ?_
              refine z_store_n X (lv' := [(1, .int (Int32.ofInt 0)), (2, .int (Int32.ofInt e1018)), (0, .ref (A 179))]) (show cdA 211 51 = some (.istore_n 1, 1, 0, 0, 0) from rfl) (by decide) (fun _ h => h) ?_
              refine z_goto X (t := 5) (show cdA 211 52 = some (.goto (-47), 3, 0, 0, 0) from rfl) (by decide) ?_
              refine WS_lv (lv := [(0, .ref (A 179)), (1, .int (Int32.ofInt 0))]) (List.forall_mem_cons.mpr ⟨(List.Mem.tail _ (List.Mem.tail _ (List.Mem.head _))), (List.forall_mem_cons.mpr ⟨(List.Mem.head _), (fun q h => absurd h List.not_mem_nil)⟩)⟩) ?_
              exact ih _ 0 Is1017 Gs1017 JFDB_s1017 (prmb_upv hq (by omega) (by omega) (by rw [show iI s1014 77 = wdE B N (sk B N (iI t 77)) by rw [hps1014.1, hps1007.1]]) (by omega) (by omega) (pfv_c hps1017.2.2.2.2.2.2.2 (nmr_fm Gs1014 (by decide))) (fun a c ha hc => vl_up ha hc rfl (by decide) (jn_and (by omega) (by omega) (by omega)))) (by first | exact ⟨oq_ac0e91e1 hps1017.1 ws1014_78 ws1007_78 hi.1, oq_161ca6a3 hps1017.2.1 hi.2.1 hps1007.2.2.1 hps1014.2.1, oq_fe22fbe9 hps1017.2.2.2.2.2.1 hps1017.2.2.1 ws1014_79 ws1007_79 g1006, oq_67b737cd g1006 hi.2.2.2.1 b3.1, oq_cfa0a9a6 b1020.1 hps1017.2.2.2.2.1 ws1014_75 ws1007_75 hi.2.2.2.2.2.2.1, oq_346a0835 hps1017.2.2.2.2.2.1 ws1014_79 hps1014.2.1 ws1007_79 hps1007.2.2.1 g1006 hi.2.1, oq_45b593e3 ws1017_75 hi.2.2.2.2.2.2.1 ws1014_75 ws1007_75, Or.inl (by decide)⟩ | omega) (by first | exact qk_me hm (oq_d64112c4 hps1017.2.2.2.2.2.1 ws1014_79 hps1014.2.1 ws1007_79 hps1007.2.2.1 g1006) (oq_a3e7b886 hi.2.2.1 p0) | omega) kx
            ·
              refine z_const X (show cdA 211 46 = some (.iconst 1, 1, 0, 0, 0) from rfl) ?_
              refine z_goto X (t := 51) (show cdA 211 47 = some (.goto 4, 3, 0, 0, 0) from rfl) (by decide) ?_
              refine z_store_n X (lv' := [(1, .int (Int32.ofInt 1)), (2, .int (Int32.ofInt e1018)), (0, .ref (A 179))]) (show cdA 211 51 = some (.istore_n 1, 1, 0, 0, 0) from rfl) (by decide) (fun _ h => h) ?_
              refine z_goto X (t := 5) (show cdA 211 52 = some (.goto (-47), 3, 0, 0, 0) from rfl) (by decide) ?_
              refine WS_lv (lv := [(0, .ref (A 179)), (1, .int (Int32.ofInt 1))]) (List.forall_mem_cons.mpr ⟨(List.Mem.tail _ (List.Mem.tail _ (List.Mem.head _))), (List.forall_mem_cons.mpr ⟨(List.Mem.head _), (fun q h => absurd h List.not_mem_nil)⟩)⟩) ?_
              exact ih _ 1 Is1017 Gs1017 JFDB_s1017 (prmb_upv hq (by omega) (by omega) (by rw [show iI s1014 77 = wdE B N (sk B N (iI t 77)) by rw [hps1014.1, hps1007.1]]) (by omega) (by omega) (pfv_c hps1017.2.2.2.2.2.2.2 (nmr_fm Gs1014 (by decide))) (fun a c ha hc => vl_up ha hc rfl (by decide) (jn_and (by omega) (by omega) (by omega)))) (by first | exact ⟨oq_ac0e91e1 hps1017.1 ws1014_78 ws1007_78 hi.1, oq_161ca6a3 hps1017.2.1 hi.2.1 hps1007.2.2.1 hps1014.2.1, oq_fe22fbe9 hps1017.2.2.2.2.2.1 hps1017.2.2.1 ws1014_79 ws1007_79 g1006, oq_67b737cd g1006 hi.2.2.2.1 b3.1, oq_cfa0a9a6 b1020.1 hps1017.2.2.2.2.1 ws1014_75 ws1007_75 hi.2.2.2.2.2.2.1, oq_346a0835 hps1017.2.2.2.2.2.1 ws1014_79 hps1014.2.1 ws1007_79 hps1007.2.2.1 g1006 hi.2.1, oq_45b593e3 ws1017_75 hi.2.2.2.2.2.2.1 ws1014_75 ws1007_75, Or.inr (by decide)⟩ | omega) (by first | exact qk_me hm (oq_d64112c4 hps1017.2.2.2.2.2.1 ws1014_79 hps1014.2.1 ws1007_79 hps1007.2.2.1 g1006) (oq_a3e7b886 hi.2.2.1 p0) | omega) kx
  refine z_aload_n X (x := A 179) (show cdA 211 0 = some (.aload_n 0, 1, 0, 0, 0) from rfl) (List.Mem.head _) ?_
  refine z_callV X 179 (rm := (rkR (24 + 3 * (r)))) (As := []) (st := []) (show cdA 211 1 = some (.invokevirtual 272, 3, 210, 0, 0) from rfl) rfl (by decide) rfl (by rw [E.1, E.2.1, E.2.2.1]; exact hT I jFDB (by first | exact p0 | omega) (by first | exact p1 | omega) (by first | exact p2 | omega) (by first | exact p3 | omega)) ⟨by rw [E.2.2.2]; exact (show (12 + (24 + 3 * (r))) + 1 ≤ (12 + (24 + 3 * (r) + 1)) from oq_03e50da9 r), by rw [E.2.2.2]; exact (show 8 + (4 + 11) + (500 + 45 * (24 + 3 * (r))) ≤ (500 + 45 * (24 + 3 * (r) + 1)) from oq_cc4dfda7 r), by rw [E.2.2.2]; exact Nat.le_refl 0, by rw [E.2.2.2]; exact Nat.le_refl 0⟩ (Nat.le_of_ble_eq_true rfl) (fun vv s5 hq => ?_) (fun ee s5 hq => ?_)
  rotate_left
  · obtain ⟨Is5, Fs5, JFDB_s5, e6, hv, hrs5, hps5⟩ := hq; cases hv
  obtain ⟨Is5, Fs5, JFDB_s5, e6, hv, hrs5, hps5⟩ := hq
  cases hv
  have Gs5 := fm_ts F Fs5 (by decide) (by decide)
  have JFDB_s5 : FDB B N s5 := FDB_fm Fs5 (by decide) jFDB
  have b7 : (0 : Int) ≤ iI s5 77 ∧ iI s5 77 ≤ 400 := Is5.1 77
  have ws5_75 : iI s5 75 = iI s 75 := fm_i Fs5 (by decide)
  have b8 : (0 : Int) ≤ iI s5 79 ∧ iI s5 79 ≤ 9 := Is5.1 79
  have b9 : (0 : Int) ≤ iI s5 78 ∧ iI s5 78 ≤ 8 := Is5.1 78
  show WS k 4 [(0, .ref (A 179))] [.int (Int32.ofInt e6)] (Wd A dT s5) 0 0
  refine z_store_n X (lv' := [(1, .int (Int32.ofInt e6)), (0, .ref (A 179))]) (show cdA 211 4 = some (.istore_n 1, 1, 0, 0, 0) from rfl) (by decide) (fun _ h => h) ?_
  refine WS_lv (lv := [(0, .ref (A 179)), (1, .int (Int32.ofInt e6))]) (List.forall_mem_cons.mpr ⟨(List.Mem.tail _ (List.Mem.head _)), (List.forall_mem_cons.mpr ⟨(List.Mem.head _), (fun q h => absurd h List.not_mem_nil)⟩)⟩) ?_
  refine L5 ((204 - iI s5 77 : Int).toNat + 1) s5 e6 Is5 Gs5 JFDB_s5 (prmb_0v hps5.2.2.2.2.2.2.2) (by first | exact ⟨hps5.1, hps5.2.1, hps5.2.2.1, hps5.2.2.2.1, hps5.2.2.2.2.1, hps5.2.2.2.2.2.1, ws5_75, hps5.2.2.2.2.2.2.1⟩ | omega) (Nat.lt_succ_self _) ?_
  intro s10 x11 Is10 Fs10 JFDB_s10 Qs10 hs10
  have b12 : (0 : Int) ≤ iI s10 77 ∧ iI s10 77 ≤ 400 := Is10.1 77
  have b13 : (0 : Int) ≤ iI s10 75 ∧ iI s10 75 ≤ 200 := Is10.1 75
  have b14 : (0 : Int) ≤ iI s10 79 ∧ iI s10 79 ≤ 9 := Is10.1 79
  have b15 : (0 : Int) ≤ iI s10 78 ∧ iI s10 78 ≤ 8 := Is10.1 78
  have hNs10 := JFDB_s10.2.1
  have hWs10 := JFDB_s10.2.2
  refine z_load_n X (x := x11) (show cdA 211 55 = some (.iload_n 1, 1, 0, 0, 0) from rfl) (List.Mem.tail _ (List.Mem.head _)) ?_
  exact w_iret X.1 q hRt (nar_ret (by first | exact hs10.2.2.2.2.2.2.2 | omega)) (ax_d X (show cdA 211 56 = some (.ireturn, 1, 0, 0, 0) from rfl)) (Nat.zero_le _) (Nat.zero_le _) ⟨_, rfl, Is10, Fs10, JFDB_s10, x11, rfl, ⟨by first | exact oq_bde653e9 hs10.2.2.2.2.2.2.2 | omega, by first | exact oq_4ad2cb8b hs10.2.2.2.2.2.2.2 | omega⟩, ⟨by first | exact hs10.1 | omega, by first | exact hs10.2.1 | omega, by first | exact hs10.2.2.1 | omega, by first | exact hs10.2.2.2.1 | omega, by first | exact hs10.2.2.2.2.1 | omega, by first | exact hs10.2.2.2.2.2.1 | omega, by first | exact hs10.2.2.2.2.2.2.2 | omega, Qs10⟩⟩
set_option maxRecDepth 4000 in
theorem k_orsS5 (G : GX l s0 D tys a0 dT) {B : Nat → Int} {N : Int} {r : Nat} (hT : ∀ {s : PS}, Bd s → FDB B N s → (iI s 77 ≤ 203) → (iI s 78 + ((r : Nat) : Int) = 7) → (iI s 78 = 7 → iI s 79 ≠ 0) → (iI s 79 = 0 → iI s 77 ≤ 202) → CT l s0 D A dT 211 (rkR (24 + 3 * (r) + 1)) [.ref (A 179)] s (fun o t => Bd t ∧ Fm [77, 79, 80, 78] [] s t ∧ FDB B N t ∧ ∃ e, o = .inl (some (.int (Int32.ofInt e))) ∧ rng e ∧ (iI t 78 = iI s 78 ∧ iI s 77 ≤ iI t 77 ∧ (iI t 77 = iI s 77 ∨ iI t 77 ≤ 203) ∧ (iI s 79 ≠ 0 → iI t 79 ≠ 0) ∧ (iI t 79 = 0 → iI t 77 ≤ iI s 75) ∧ (iI s 79 = 0 → iI s 77 < iI t 77) ∧ (e = 0 ∨ e = 1) ∧ PFv (VLm (NMr s) (Int32.ofInt e)) B N 6 s t))) (I : Bd s) (jFDB : FDB B N s) (p0 : iI s 77 ≤ 203) (p1 : iI s 78 + ((r : Nat) : Int) = 7) (p2 : iI s 78 = 7 → iI s 79 ≠ 0) (p3 : iI s 79 = 0 → iI s 77 ≤ 202) : CT l s0 D A dT 212 (rkR (24 + 3 * (r) + 2)) [.ref (A 179)] s (fun o t => Bd t ∧ Fm [77, 79, 80, 78] [] s t ∧ FDB B N t ∧ ∃ e, o = .inl (some (.int (Int32.ofInt e))) ∧ rng e ∧ (iI t 78 = iI s 78 ∧ iI s 77 ≤ iI t 77 ∧ (iI t 77 = iI s 77 ∨ iI t 77 ≤ 203) ∧ (iI s 79 ≠ 0 → iI t 79 ≠ 0) ∧ (iI t 79 = 0 → iI t 77 ≤ iI s 75) ∧ (iI s 79 = 0 → iI s 77 < iI t 77) ∧ (e = 0 ∨ e = 1) ∧ PFv (VLm (NMr s) (Int32.ofInt e)) B N 8 s t)) := by
  refine ct_of G (by decide) (Nat.le_of_ble_eq_true rfl) (fun k X E hRt hXt q => ?_)
  show WS k 0 [(0, .ref (A 179))] [] _ 0 0
  have F : Fm [77, 79, 80, 78] [] s s := fm_rf _ _ s
  have hN := jFDB.2.1
  have hW := jFDB.2.2
  have b1 : (0 : Int) ≤ iI s 77 ∧ iI s 77 ≤ 400 := I.1 77
  have b2 : (0 : Int) ≤ iI s 75 ∧ iI s 75 ≤ 200 := I.1 75
  have b3 : (0 : Int) ≤ iI s 79 ∧ iI s 79 ≤ 9 := I.1 79
  have b4 : (0 : Int) ≤ iI s 78 ∧ iI s 78 ≤ 8 := I.1 78
  have L5 : ∀ (n : Nat) (t : PS) (v : Int), Bd t → Fm [77, 79, 80, 78] [] s t → FDB B N t → (PRv (VLm (NMr s) (Int32.ofInt v)) B N 9 8 s t) → (iI t 78 = iI s 78 ∧ iI s 77 ≤ iI t 77 ∧ (iI t 77 = iI s 77 ∨ iI t 77 ≤ 203) ∧ (iI s 79 ≠ 0 → iI t 79 ≠ 0) ∧ (iI t 79 = 0 → iI t 77 ≤ iI s 75) ∧ (iI s 79 = 0 → iI s 77 < iI t 77) ∧ iI t 75 = iI s 75 ∧ (v = 0 ∨ v = 1)) → (204 - iI t 77 : Int).toNat < n → (∀ (t' : PS) (v' : Int), Bd t' → Fm [77, 79, 80, 78] [] s t' → FDB B N t' → (PFv (VLm (NMr s) (Int32.ofInt v')) B N 8 s t') → (iI t' 78 = iI s 78 ∧ iI s 77 ≤ iI t' 77 ∧ (iI t' 77 = iI s 77 ∨ iI t' 77 ≤ 203) ∧ (iI s 79 ≠ 0 → iI t' 79 ≠ 0) ∧ (iI t' 79 = 0 → iI t' 77 ≤ iI s 75) ∧ (iI s 79 = 0 → iI s 77 < iI t' 77) ∧ iI t' 75 = iI s 75 ∧ (v' = 0 ∨ v' = 1)) → WS k 56 [(0, .ref (A 179)), (1, .int (Int32.ofInt v'))] [] (Wd A dT t') 0 0) → WS k 5 [(0, .ref (A 179)), (1, .int (Int32.ofInt v))] [] (Wd A dT t) 0 0 := by
    intro n
    induction n with
    | zero =>
      intro t v I F jjFDB hq hi hm kx
      exact absurd hm (Nat.not_lt_zero _)
    | succ n ih =>
      intro t v I F jjFDB hq hi hm kx
      have b1001 : (0 : Int) ≤ iI t 77 ∧ iI t 77 ≤ 400 := I.1 77
      have b1002 : (0 : Int) ≤ iI t 75 ∧ iI t 75 ≤ 200 := I.1 75
      have b1003 : (0 : Int) ≤ iI t 79 ∧ iI t 79 ≤ 9 := I.1 79
      have b1004 : (0 : Int) ≤ iI t 78 ∧ iI t 78 ≤ 8 := I.1 78
      have hN := jjFDB.2.1
      have hW := jjFDB.2.2
      refine z_aload_n X (x := A 179) (show cdA 212 5 = some (.aload_n 0, 1, 0, 0, 0) from rfl) (List.Mem.head _) ?_
      refine z_getI X 179 (show cdA 212 6 = some (.getfield 191, 3, 12, 6, 0) from rfl) (by decide) rfl rfl ?_
      have b1005 : (0 : Int) ≤ iI t 79 ∧ iI t 79 ≤ 9 := I.1 79
      refine z_if_ne X (t := 56) (show cdA 212 9 = some (.ifCond .ne 47, 3, 1, 0, 0) from rfl) (by decide) (rng_to _) (fun g1006 => ?_) (fun g1006 => ?_)
      ·
        refine WS_lv (lv := [(0, .ref (A 179)), (1, .int (Int32.ofInt v))]) (List.forall_mem_cons.mpr ⟨(List.Mem.head _), (List.forall_mem_cons.mpr ⟨(List.Mem.tail _ (List.Mem.head _)), (fun q h => absurd h List.not_mem_nil)⟩)⟩) ?_
        exact kx _ v I F jjFDB (by first | exact prm_fav hq (by omega) | exact prme_endv (prm_mvv hq (by rw [show iI t 77 = sk B N (iI t 77) from hpt.1]; exact sk_sk) (by omega)) (by omega) (by rw [show sk B N (iI t 77) = sk B N (iI t 77) by rw [hpt.1]; exact sk_sk]; omega)) (by first | exact ⟨hi.1, hi.2.1, hi.2.2.1, hi.2.2.2.1, hi.2.2.2.2.1, hi.2.2.2.2.2.1, hi.2.2.2.2.2.2.1, hi.2.2.2.2.2.2.2⟩ | omega)
      ·
        refine z_aload_n X (x := A 179) (show cdA 212 12 = some (.aload_n 0, 1, 0, 0, 0) from rfl) (List.Mem.head _) ?_
        refine z_callV X 179 (rm := rmN 201) (As := []) (st := []) (show cdA 212 13 = some (.invokevirtual 243, 3, 201, 0, 0) from rfl) rfl (by decide) rfl (by rw [E.1, E.2.1, E.2.2.1]; exact k_wordHere3 G I jjFDB (by first | exact oq_179d6548 hi.2.2.1 p0 | omega)) ⟨by rw [E.2.2.2]; exact (show 8 + 1 ≤ (12 + (24 + 3 * (r) + 2)) from oq_b9f2246e r), by rw [E.2.2.2]; exact (show 8 + (3 + 11) + 141 ≤ (500 + 45 * (24 + 3 * (r) + 2)) from oq_ae9e04d0 r), by rw [E.2.2.2]; exact Nat.le_refl 0, by rw [E.2.2.2]; exact Nat.le_refl 0⟩ (Nat.le_of_ble_eq_true rfl) (fun vv s1007 hq => ?_) (fun ee s1007 hq => ?_)
        rotate_left
        · obtain ⟨Is1007, Fs1007, JFDB_s1007, e1008, hv, hrs1007, hps1007⟩ := hq; cases hv
        obtain ⟨Is1007, Fs1007, JFDB_s1007, e1008, hv, hrs1007, hps1007⟩ := hq
        cases hv
        have Gs1007 := fm_ts F Fs1007 (by decide) (by decide)
        have JFDB_s1007 : FDB B N s1007 := FDB_fm Fs1007 (by decide) jjFDB
        have b1009 : (0 : Int) ≤ iI s1007 77 ∧ iI s1007 77 ≤ 400 := Is1007.1 77
        have ws1007_75 : iI s1007 75 = iI t 75 := fm_i Fs1007 (by decide)
        have ws1007_79 : iI s1007 79 = iI t 79 := fm_i Fs1007 (by decide)
        have ws1007_78 : iI s1007 78 = iI t 78 := fm_i Fs1007 (by decide)
        show WS k 16 [(0, .ref (A 179)), (1, .int (Int32.ofInt v))] [.int (Int32.ofInt e1008)] (Wd A dT s1007) 0 0
        have hwv : e1008 = whV B N (sk B N (iI t 77)) := by rw [hps1007.2.1, hps1007.1]
        refine z_bipush X (show cdA 212 16 = some (.bipush 15, 2, 0, 0, 15) from rfl) ?_
        refine z_bipush X (show cdA 212 18 = some (.bipush 18, 2, 0, 0, 18) from rfl) ?_
        refine z_const X (show cdA 212 20 = some (.iconst 0, 1, 0, 0, 0) from rfl) ?_
        refine z_const X (show cdA 212 21 = some (.iconst 0, 1, 0, 0, 0) from rfl) ?_
        refine z_const X (show cdA 212 22 = some (.iconst 0, 1, 0, 0, 0) from rfl) ?_
        refine z_const X (show cdA 212 23 = some (.iconst 0, 1, 0, 0, 0) from rfl) ?_
        refine z_callS X (rm := rmN 202) (As := [.int (Int32.ofInt 15), .int (Int32.ofInt 18), .int (Int32.ofInt 0), .int (Int32.ofInt 0), .int (Int32.ofInt 0), .int (Int32.ofInt 0)]) (st := [.int (Int32.ofInt e1008)]) (show cdA 212 24 = some (.invokestatic 247, 3, 202, 1, 0) from rfl) rfl (by rw [E.1, E.2.1, E.2.2.1]; exact k_word3 G Is1007 (by first | exact ⟨by decide, by decide⟩ | omega) (by first | exact ⟨by decide, by decide⟩ | omega) (by first | exact ⟨by decide, by decide⟩ | omega) (by first | exact ⟨by decide, by decide⟩ | omega) (by first | exact ⟨by decide, by decide⟩ | omega) (by first | exact ⟨by decide, by decide⟩ | omega)) ⟨by rw [E.2.2.2]; exact (show 6 + 1 ≤ (12 + (24 + 3 * (r) + 2)) from oq_4491863e r), by rw [E.2.2.2]; exact (show 8 + (7 + 11) + 100 ≤ (500 + 45 * (24 + 3 * (r) + 2)) from oq_c822b081 r), by rw [E.2.2.2]; exact Nat.le_refl 0, by rw [E.2.2.2]; exact Nat.le_refl 0⟩ (Nat.le_of_ble_eq_true rfl) (fun vv s1010 hq => ?_) (fun ee s1010 hq => ?_)
        rotate_left
        · obtain ⟨rfl, e1011, hv, hrs1010, hps1010⟩ := hq; cases hv
        obtain ⟨rfl, e1011, hv, hrs1010, hps1010⟩ := hq
        cases hv
        show WS k 27 [(0, .ref (A 179)), (1, .int (Int32.ofInt v))] [.int (Int32.ofInt e1011), .int (Int32.ofInt e1008)] (Wd A dT s1007) 0 0
        have hk1012 : e1011 = 423 := by rw [hps1010.2]; decide
        refine z_icmp_ne X (t := 56) (show cdA 212 27 = some (.if_icmp .ne 29, 3, 1, 0, 0) from rfl) (by decide) hrs1007 hrs1010 (fun g1013 => ?_) (fun g1013 => ?_)
        ·
          refine WS_lv (lv := [(0, .ref (A 179)), (1, .int (Int32.ofInt v))]) (List.forall_mem_cons.mpr ⟨(List.Mem.head _), (List.forall_mem_cons.mpr ⟨(List.Mem.tail _ (List.Mem.head _)), (fun q h => absurd h List.not_mem_nil)⟩)⟩) ?_
          exact kx _ v Is1007 Gs1007 JFDB_s1007 (by first | exact prm_fav hq (by omega) | exact prme_endv (prm_mvv hq (by rw [show iI s1007 77 = sk B N (iI t 77) from hps1007.1]; exact sk_sk) (by omega)) (by omega) (by rw [show sk B N (iI s1007 77) = sk B N (iI t 77) by rw [hps1007.1]; exact sk_sk]; omega)) (by first | exact ⟨oq_1aa5be9e ws1007_78 hi.1, oq_f8a2cf0e hps1007.2.2.1 hi.2.1, by omega, oq_67b737cd g1006 hi.2.2.2.1 b3.1, by omega, oq_dbd39218 hps1007.2.2.1 hi.2.2.2.2.2.1 b3.1, oq_1aa5be9e ws1007_75 hi.2.2.2.2.2.2.1, hi.2.2.2.2.2.2.2⟩ | omega)
        ·
          refine z_aload_n X (x := A 179) (show cdA 212 30 = some (.aload_n 0, 1, 0, 0, 0) from rfl) (List.Mem.head _) ?_
          refine z_callV X 179 (rm := rmN 203) (As := []) (st := []) (show cdA 212 31 = some (.invokevirtual 254, 3, 203, 0, 0) from rfl) rfl (by decide) rfl (by rw [E.1, E.2.1, E.2.2.1]; exact k_skipWord3 G Is1007 JFDB_s1007 (by omega)) ⟨by rw [E.2.2.2]; exact (show 7 + 1 ≤ (12 + (24 + 3 * (r) + 2)) from oq_9f278ef5 r), by rw [E.2.2.2]; exact (show 8 + (1 + 11) + 121 ≤ (500 + 45 * (24 + 3 * (r) + 2)) from oq_6c94e1da r), by rw [E.2.2.2]; exact Nat.le_refl 0, by rw [E.2.2.2]; exact Nat.le_refl 0⟩ (Nat.le_of_ble_eq_true rfl) (fun vv s1014 hq => ?_) (fun ee s1014 hq => ?_)
          rotate_left
          · obtain ⟨Is1014, Fs1014, JFDB_s1014, hv, hps1014⟩ := hq; cases hv
          obtain ⟨Is1014, Fs1014, JFDB_s1014, hv, hps1014⟩ := hq
          cases hv
          have Gs1014 := fm_ts Gs1007 Fs1014 (by decide) (by decide)
          have JFDB_s1014 : FDB B N s1014 := FDB_fm Fs1014 (by decide) JFDB_s1007
          have b1016 : (0 : Int) ≤ iI s1014 77 ∧ iI s1014 77 ≤ 400 := Is1014.1 77
          have ws1014_75 : iI s1014 75 = iI s1007 75 := fm_i Fs1014 (by decide)
          have ws1014_79 : iI s1014 79 = iI s1007 79 := fm_i Fs1014 (by decide)
          have ws1014_78 : iI s1014 78 = iI s1007 78 := fm_i Fs1014 (by decide)
          show WS k 34 [(0, .ref (A 179)), (1, .int (Int32.ofInt v))] [] (Wd A dT s1014) 0 0
          refine z_aload_n X (x := A 179) (show cdA 212 34 = some (.aload_n 0, 1, 0, 0, 0) from rfl) (List.Mem.head _) ?_
          refine z_callV X 179 (rm := (rkR (24 + 3 * (r) + 1))) (As := []) (st := []) (show cdA 212 35 = some (.invokevirtual 279, 3, 211, 0, 0) from rfl) rfl (by decide) rfl (by rw [E.1, E.2.1, E.2.2.1]; exact hT Is1014 JFDB_s1014 (by omega) (by first | exact oq_55278851 ws1014_78 p1 ws1007_78 hi.1 | omega) (by first | exact oq_aee6e230 ws1014_78 ws1007_78 g1006 hi.2.2.2.1 hi.1 b3.1 p2 | omega) (by omega)) ⟨by rw [E.2.2.2]; exact (show (12 + (24 + 3 * (r) + 1)) + 1 ≤ (12 + (24 + 3 * (r) + 2)) from oq_137d3732 r), by rw [E.2.2.2]; exact (show 8 + (3 + 11) + (500 + 45 * (24 + 3 * (r) + 1)) ≤ (500 + 45 * (24 + 3 * (r) + 2)) from oq_58b847aa r), by rw [E.2.2.2]; exact Nat.le_refl 0, by rw [E.2.2.2]; exact Nat.le_refl 0⟩ (Nat.le_of_ble_eq_true rfl) (fun vv s1017 hq => ?_) (fun ee s1017 hq => ?_)
          rotate_left
          · obtain ⟨Is1017, Fs1017, JFDB_s1017, e1018, hv, hrs1017, hps1017⟩ := hq; cases hv
          obtain ⟨Is1017, Fs1017, JFDB_s1017, e1018, hv, hrs1017, hps1017⟩ := hq
          cases hv
          have Gs1017 := fm_ts Gs1014 Fs1017 (by decide) (by decide)
          have JFDB_s1017 : FDB B N s1017 := FDB_fm Fs1017 (by decide) JFDB_s1014
          have b1019 : (0 : Int) ≤ iI s1017 77 ∧ iI s1017 77 ≤ 400 := Is1017.1 77
          have ws1017_75 : iI s1017 75 = iI s1014 75 := fm_i Fs1017 (by decide)
          have b1020 : (0 : Int) ≤ iI s1017 79 ∧ iI s1017 79 ≤ 9 := Is1017.1 79
          have b1021 : (0 : Int) ≤ iI s1017 78 ∧ iI s1017 78 ≤ 8 := Is1017.1 78
          show WS k 38 [(0, .ref (A 179)), (1, .int (Int32.ofInt v))] [.int (Int32.ofInt e1018)] (Wd A dT s1017) 0 0
          refine z_store_n X (lv' := [(2, .int (Int32.ofInt e1018)), (0, .ref (A 179)), (1, .int (Int32.ofInt v))]) (show cdA 212 38 = some (.istore_n 2, 1, 0, 0, 0) from rfl) (by decide) (fun _ h => h) ?_
          refine z_load_n X (x := v) (show cdA 212 39 = some (.iload_n 1, 1, 0, 0, 0) from rfl) (List.Mem.tail _ (List.Mem.tail _ (List.Mem.head _))) ?_
          refine z_if_ne X (t := 47) (show cdA 212 40 = some (.ifCond .ne 7, 3, 1, 0, 0) from rfl) (by decide) ⟨by first | exact oq_bde653e9 hi.2.2.2.2.2.2.2 | omega, by first | exact oq_4ad2cb8b hi.2.2.2.2.2.2.2 | omega⟩ (fun g1022 => ?_) (fun g1022 => ?_)
          ·
            refine z_const X (show cdA 212 47 = some (.iconst 1, 1, 0, 0, 0) from rfl) ?_
            refine z_goto X (t := 52) (show cdA 212 48 = some (.goto 4, 3, 0, 0, 0) from rfl) (by decide) ?_
            refine z_store_n X (lv' := [(1, .int (Int32.ofInt 1)), (2, .int (Int32.ofInt e1018)), (0, .ref (A 179))]) (show cdA 212 52 = some (.istore_n 1, 1, 0, 0, 0) from rfl) (by decide) (fun _ h => h) ?_
            refine z_goto X (t := 5) (show cdA 212 53 = some (.goto (-48), 3, 0, 0, 0) from rfl) (by decide) ?_
            refine WS_lv (lv := [(0, .ref (A 179)), (1, .int (Int32.ofInt 1))]) (List.forall_mem_cons.mpr ⟨(List.Mem.tail _ (List.Mem.tail _ (List.Mem.head _))), (List.forall_mem_cons.mpr ⟨(List.Mem.head _), (fun q h => absurd h List.not_mem_nil)⟩)⟩) ?_
            exact ih _ 1 Is1017 Gs1017 JFDB_s1017 (prme_upv hq (by omega) (by omega) (by rw [show iI s1014 77 = wdE B N (sk B N (iI t 77)) by rw [hps1014.1, hps1007.1]]) (by omega) (by omega) (pfv_c hps1017.2.2.2.2.2.2.2 (nmr_fm Gs1014 (by decide))) (fun a c ha hc => vl_up ha hc rfl (by decide) (jn_or (by omega) (by omega) (by omega)))) (by first | exact ⟨oq_ac0e91e1 hps1017.1 ws1014_78 ws1007_78 hi.1, oq_161ca6a3 hps1017.2.1 hi.2.1 hps1007.2.2.1 hps1014.2.1, oq_fe22fbe9 hps1017.2.2.2.2.2.1 hps1017.2.2.1 ws1014_79 ws1007_79 g1006, oq_67b737cd g1006 hi.2.2.2.1 b3.1, oq_cfa0a9a6 b1020.1 hps1017.2.2.2.2.1 ws1014_75 ws1007_75 hi.2.2.2.2.2.2.1, oq_346a0835 hps1017.2.2.2.2.2.1 ws1014_79 hps1014.2.1 ws1007_79 hps1007.2.2.1 g1006 hi.2.1, oq_45b593e3 ws1017_75 hi.2.2.2.2.2.2.1 ws1014_75 ws1007_75, Or.inr (by decide)⟩ | omega) (by first | exact qk_me hm (oq_d64112c4 hps1017.2.2.2.2.2.1 ws1014_79 hps1014.2.1 ws1007_79 hps1007.2.2.1 g1006) (oq_a3e7b886 hi.2.2.1 p0) | omega) kx
          ·
            refine z_load_n X (x := e1018) (show cdA 212 43 = some (.iload_n 2, 1, 0, 0, 0) from rfl) (List.Mem.head _) ?_
            refine z_if_eq X (t := 51) (show cdA 212 44 = some (.ifCond .eq 7, 3, 0, 0, 0) from rfl) (by decide) hrs1017 (fun g1023 => ?_) (fun g1023 => ?_)
            ·
              refine z_const X (show cdA 212 51 = some (.iconst 0, 1, 0, 0, 0) from rfl) ?_
              refine z_store_n X (lv' := [(1, .int (Int32.ofInt 0)), (2, .int (Int32.ofInt e1018)), (0, .ref (A 179))]) (show cdA 212 52 = some (.istore_n 1, 1, 0, 0, 0) from rfl) (by decide) (fun _ h => h) ?_
              refine z_goto X (t := 5) (show cdA 212 53 = some (.goto (-48), 3, 0, 0, 0) from rfl) (by decide) ?_
              refine WS_lv (lv := [(0, .ref (A 179)), (1, .int (Int32.ofInt 0))]) (List.forall_mem_cons.mpr ⟨(List.Mem.tail _ (List.Mem.tail _ (List.Mem.head _))), (List.forall_mem_cons.mpr ⟨(List.Mem.head _), (fun q h => absurd h List.not_mem_nil)⟩)⟩) ?_
              exact ih _ 0 Is1017 Gs1017 JFDB_s1017 (prme_upv hq (by omega) (by omega) (by rw [show iI s1014 77 = wdE B N (sk B N (iI t 77)) by rw [hps1014.1, hps1007.1]]) (by omega) (by omega) (pfv_c hps1017.2.2.2.2.2.2.2 (nmr_fm Gs1014 (by decide))) (fun a c ha hc => vl_up ha hc rfl (by decide) (jn_or (by omega) (by omega) (by omega)))) (by first | exact ⟨oq_ac0e91e1 hps1017.1 ws1014_78 ws1007_78 hi.1, oq_161ca6a3 hps1017.2.1 hi.2.1 hps1007.2.2.1 hps1014.2.1, oq_fe22fbe9 hps1017.2.2.2.2.2.1 hps1017.2.2.1 ws1014_79 ws1007_79 g1006, oq_67b737cd g1006 hi.2.2.2.1 b3.1, oq_cfa0a9a6 b1020.1 hps1017.2.2.2.2.1 ws1014_75 ws1007_75 hi.2.2.2.2.2.2.1, oq_346a0835 hps1017.2.2.2.2.2.1 ws1014_79 hps1014.2.1 ws1007_79 hps1007.2.2.1 g1006 hi.2.1, oq_45b593e3 ws1017_75 hi.2.2.2.2.2.2.1 ws1014_75 ws1007_75, Or.inl (by decide)⟩ | omega) (by first | exact qk_me hm (oq_d64112c4 hps1017.2.2.2.2.2.1 ws1014_79 hps1014.2.1 ws1007_79 hps1007.2.2.1 g1006) (oq_a3e7b886 hi.2.2.1 p0) | omega) kx
            ·
              refine z_const X (show cdA 212 47 = some (.iconst 1, 1, 0, 0, 0) from rfl) ?_
              refine z_goto X (t := 52) (show cdA 212 48 = some (.goto 4, 3, 0, 0, 0) from rfl) (by decide) ?_
              refine z_store_n X (lv' := [(1, .int (Int32.ofInt 1)), (2, .int (Int32.ofInt e1018)), (0, .ref (A 179))]) (show cdA 212 52 = some (.istore_n 1, 1, 0, 0, 0) from rfl) (by decide) (fun _ h => h) ?_
              refine z_goto X (t := 5) (show cdA 212 53 = some (.goto (-48), 3, 0, 0, 0) from rfl) (by decide) ?_
              refine WS_lv (lv := [(0, .ref (A 179)), (1, .int (Int32.ofInt 1))]) (List.forall_mem_cons.mpr ⟨(List.Mem.tail _ (List.Mem.tail _ (List.Mem.head _))), (List.forall_mem_cons.mpr ⟨(List.Mem.head _), (fun q h => absurd h List.not_mem_nil)⟩)⟩) ?_
              exact ih _ 1 Is1017 Gs1017 JFDB_s1017 (prme_upv hq (by omega) (by omega) (by rw [show iI s1014 77 = wdE B N (sk B N (iI t 77)) by rw [hps1014.1, hps1007.1]]) (by omega) (by omega) (pfv_c hps1017.2.2.2.2.2.2.2 (nmr_fm Gs1014 (by decide))) (fun a c ha hc => vl_up ha hc rfl (by decide) (jn_or (by omega) (by omega) (by omega)))) (by first | exact ⟨oq_ac0e91e1 hps1017.1 ws1014_78 ws1007_78 hi.1, oq_161ca6a3 hps1017.2.1 hi.2.1 hps1007.2.2.1 hps1014.2.1, oq_fe22fbe9 hps1017.2.2.2.2.2.1 hps1017.2.2.1 ws1014_79 ws1007_79 g1006, oq_67b737cd g1006 hi.2.2.2.1 b3.1, oq_cfa0a9a6 b1020.1 hps1017.2.2.2.2.1 ws1014_75 ws1007_75 hi.2.2.2.2.2.2.1, oq_346a0835 hps1017.2.2.2.2.2.1 ws1014_79 hps1014.2.1 ws1007_79 hps1007.2.2.1 g1006 hi.2.1, oq_45b593e3 ws1017_75 hi.2.2.2.2.2.2.1 ws1014_75 ws1007_75, Or.inr (by decide)⟩ | omega) (by first | exact qk_me hm (oq_d64112c4 hps1017.2.2.2.2.2.1 ws1014_79 hps1014.2.1 ws1007_79 hps1007.2.2.1 g1006) (oq_a3e7b886 hi.2.2.1 p0) | omega) kx
  refine z_aload_n X (x := A 179) (show cdA 212 0 = some (.aload_n 0, 1, 0, 0, 0) from rfl) (List.Mem.head _) ?_
  refine z_callV X 179 (rm := (rkR (24 + 3 * (r) + 1))) (As := []) (st := []) (show cdA 212 1 = some (.invokevirtual 279, 3, 211, 0, 0) from rfl) rfl (by decide) rfl (by rw [E.1, E.2.1, E.2.2.1]; exact hT I jFDB (by first | exact p0 | omega) (by first | exact p1 | omega) (by first | exact p2 | omega) (by first | exact p3 | omega)) ⟨by rw [E.2.2.2]; exact (show (12 + (24 + 3 * (r) + 1)) + 1 ≤ (12 + (24 + 3 * (r) + 2)) from oq_137d3732 r), by rw [E.2.2.2]; exact (show 8 + (3 + 11) + (500 + 45 * (24 + 3 * (r) + 1)) ≤ (500 + 45 * (24 + 3 * (r) + 2)) from oq_58b847aa r), by rw [E.2.2.2]; exact Nat.le_refl 0, by rw [E.2.2.2]; exact Nat.le_refl 0⟩ (Nat.le_of_ble_eq_true rfl) (fun vv s5 hq => ?_) (fun ee s5 hq => ?_)
  rotate_left
  · obtain ⟨Is5, Fs5, JFDB_s5, e6, hv, hrs5, hps5⟩ := hq; cases hv
  obtain ⟨Is5, Fs5, JFDB_s5, e6, hv, hrs5, hps5⟩ := hq
  cases hv
  have Gs5 := fm_ts F Fs5 (by decide) (by decide)
  have JFDB_s5 : FDB B N s5 := FDB_fm Fs5 (by decide) jFDB
  have b7 : (0 : Int) ≤ iI s5 77 ∧ iI s5 77 ≤ 400 := Is5.1 77
  have ws5_75 : iI s5 75 = iI s 75 := fm_i Fs5 (by decide)
  have b8 : (0 : Int) ≤ iI s5 79 ∧ iI s5 79 ≤ 9 := Is5.1 79
  have b9 : (0 : Int) ≤ iI s5 78 ∧ iI s5 78 ≤ 8 := Is5.1 78
  show WS k 4 [(0, .ref (A 179))] [.int (Int32.ofInt e6)] (Wd A dT s5) 0 0
  refine z_store_n X (lv' := [(1, .int (Int32.ofInt e6)), (0, .ref (A 179))]) (show cdA 212 4 = some (.istore_n 1, 1, 0, 0, 0) from rfl) (by decide) (fun _ h => h) ?_
  refine WS_lv (lv := [(0, .ref (A 179)), (1, .int (Int32.ofInt e6))]) (List.forall_mem_cons.mpr ⟨(List.Mem.tail _ (List.Mem.head _)), (List.forall_mem_cons.mpr ⟨(List.Mem.head _), (fun q h => absurd h List.not_mem_nil)⟩)⟩) ?_
  refine L5 ((204 - iI s5 77 : Int).toNat + 1) s5 e6 Is5 Gs5 JFDB_s5 (prme_0v hps5.2.2.2.2.2.2.2) (by first | exact ⟨hps5.1, hps5.2.1, hps5.2.2.1, hps5.2.2.2.1, hps5.2.2.2.2.1, hps5.2.2.2.2.2.1, ws5_75, hps5.2.2.2.2.2.2.1⟩ | omega) (Nat.lt_succ_self _) ?_
  intro s10 x11 Is10 Fs10 JFDB_s10 Qs10 hs10
  have b12 : (0 : Int) ≤ iI s10 77 ∧ iI s10 77 ≤ 400 := Is10.1 77
  have b13 : (0 : Int) ≤ iI s10 75 ∧ iI s10 75 ≤ 200 := Is10.1 75
  have b14 : (0 : Int) ≤ iI s10 79 ∧ iI s10 79 ≤ 9 := Is10.1 79
  have b15 : (0 : Int) ≤ iI s10 78 ∧ iI s10 78 ≤ 8 := Is10.1 78
  have hNs10 := JFDB_s10.2.1
  have hWs10 := JFDB_s10.2.2
  refine z_load_n X (x := x11) (show cdA 212 56 = some (.iload_n 1, 1, 0, 0, 0) from rfl) (List.Mem.tail _ (List.Mem.head _)) ?_
  exact w_iret X.1 q hRt (nar_ret (by first | exact hs10.2.2.2.2.2.2.2 | omega)) (ax_d X (show cdA 212 57 = some (.ireturn, 1, 0, 0, 0) from rfl)) (Nat.zero_le _) (Nat.zero_le _) ⟨_, rfl, Is10, Fs10, JFDB_s10, x11, rfl, ⟨by first | exact oq_bde653e9 hs10.2.2.2.2.2.2.2 | omega, by first | exact oq_4ad2cb8b hs10.2.2.2.2.2.2.2 | omega⟩, ⟨by first | exact hs10.1 | omega, by first | exact hs10.2.1 | omega, by first | exact hs10.2.2.1 | omega, by first | exact hs10.2.2.2.1 | omega, by first | exact hs10.2.2.2.2.1 | omega, by first | exact hs10.2.2.2.2.2.1 | omega, by first | exact hs10.2.2.2.2.2.2.2 | omega, Qs10⟩⟩
theorem k_orsr5 (G : GX l s0 D tys a0 dT) {B : Nat → Int} {N : Int} (r : Nat) : (∀ {s : PS}, Bd s → FDB B N s → (iI s 77 ≤ 203) → (iI s 78 + ((r : Nat) : Int) = 7) → (iI s 78 = 7 → iI s 79 ≠ 0) → (iI s 79 = 0 → iI s 77 ≤ 202) → CT l s0 D A dT 210 (rkR (24 + 3 * (r))) [.ref (A 179)] s (fun o t => Bd t ∧ Fm [77, 79, 80, 78] [] s t ∧ FDB B N t ∧ ∃ e, o = .inl (some (.int (Int32.ofInt e))) ∧ rng e ∧ (iI t 78 = iI s 78 ∧ iI s 77 ≤ iI t 77 ∧ (iI t 77 = iI s 77 ∨ iI t 77 ≤ 203) ∧ (iI s 79 ≠ 0 → iI t 79 ≠ 0) ∧ (iI t 79 = 0 → iI t 77 ≤ iI s 75) ∧ (iI s 79 = 0 → iI s 77 < iI t 77) ∧ (e = 0 ∨ e = 1) ∧ PFv (VLm (NMr s) (Int32.ofInt e)) B N 5 s t))) ∧ (∀ {s : PS}, Bd s → FDB B N s → (iI s 77 ≤ 203) → (iI s 78 + ((r : Nat) : Int) = 7) → (iI s 78 = 7 → iI s 79 ≠ 0) → (iI s 79 = 0 → iI s 77 ≤ 202) → CT l s0 D A dT 211 (rkR (24 + 3 * (r) + 1)) [.ref (A 179)] s (fun o t => Bd t ∧ Fm [77, 79, 80, 78] [] s t ∧ FDB B N t ∧ ∃ e, o = .inl (some (.int (Int32.ofInt e))) ∧ rng e ∧ (iI t 78 = iI s 78 ∧ iI s 77 ≤ iI t 77 ∧ (iI t 77 = iI s 77 ∨ iI t 77 ≤ 203) ∧ (iI s 79 ≠ 0 → iI t 79 ≠ 0) ∧ (iI t 79 = 0 → iI t 77 ≤ iI s 75) ∧ (iI s 79 = 0 → iI s 77 < iI t 77) ∧ (e = 0 ∨ e = 1) ∧ PFv (VLm (NMr s) (Int32.ofInt e)) B N 6 s t))) ∧ (∀ {s : PS}, Bd s → FDB B N s → (iI s 77 ≤ 203) → (iI s 78 + ((r : Nat) : Int) = 7) → (iI s 78 = 7 → iI s 79 ≠ 0) → (iI s 79 = 0 → iI s 77 ≤ 202) → CT l s0 D A dT 212 (rkR (24 + 3 * (r) + 2)) [.ref (A 179)] s (fun o t => Bd t ∧ Fm [77, 79, 80, 78] [] s t ∧ FDB B N t ∧ ∃ e, o = .inl (some (.int (Int32.ofInt e))) ∧ rng e ∧ (iI t 78 = iI s 78 ∧ iI s 77 ≤ iI t 77 ∧ (iI t 77 = iI s 77 ∨ iI t 77 ≤ 203) ∧ (iI s 79 ≠ 0 → iI t 79 ≠ 0) ∧ (iI t 79 = 0 → iI t 77 ≤ iI s 75) ∧ (iI s 79 = 0 → iI s 77 < iI t 77) ∧ (e = 0 ∨ e = 1) ∧ PFv (VLm (NMr s) (Int32.ofInt e)) B N 8 s t))) := by
  induction r with
  | zero =>
    have hT : ∀ {s : PS}, Bd s → FDB B N s → (iI s 77 ≤ 203) → (iI s 78 + ((0 : Nat) : Int) = 7) → (iI s 78 = 7 → iI s 79 ≠ 0) → (iI s 79 = 0 → iI s 77 ≤ 202) → CT l s0 D A dT 210 (rkR (24 + 3 * (0))) [.ref (A 179)] s (fun o t => Bd t ∧ Fm [77, 79, 80, 78] [] s t ∧ FDB B N t ∧ ∃ e, o = .inl (some (.int (Int32.ofInt e))) ∧ rng e ∧ (iI t 78 = iI s 78 ∧ iI s 77 ≤ iI t 77 ∧ (iI t 77 = iI s 77 ∨ iI t 77 ≤ 203) ∧ (iI s 79 ≠ 0 → iI t 79 ≠ 0) ∧ (iI t 79 = 0 → iI t 77 ≤ iI s 75) ∧ (iI s 79 = 0 → iI s 77 < iI t 77) ∧ (e = 0 ∨ e = 1) ∧ PFv (VLm (NMr s) (Int32.ofInt e)) B N 5 s t)) := fun {_} I j p0 p1 p2 p3 => k_test05 G I j p0 p1 p2 p3
    have hA : ∀ {s : PS}, Bd s → FDB B N s → (iI s 77 ≤ 203) → (iI s 78 + ((0 : Nat) : Int) = 7) → (iI s 78 = 7 → iI s 79 ≠ 0) → (iI s 79 = 0 → iI s 77 ≤ 202) → CT l s0 D A dT 211 (rkR (24 + 3 * (0) + 1)) [.ref (A 179)] s (fun o t => Bd t ∧ Fm [77, 79, 80, 78] [] s t ∧ FDB B N t ∧ ∃ e, o = .inl (some (.int (Int32.ofInt e))) ∧ rng e ∧ (iI t 78 = iI s 78 ∧ iI s 77 ≤ iI t 77 ∧ (iI t 77 = iI s 77 ∨ iI t 77 ≤ 203) ∧ (iI s 79 ≠ 0 → iI t 79 ≠ 0) ∧ (iI t 79 = 0 → iI t 77 ≤ iI s 75) ∧ (iI s 79 = 0 → iI s 77 < iI t 77) ∧ (e = 0 ∨ e = 1) ∧ PFv (VLm (NMr s) (Int32.ofInt e)) B N 6 s t)) := fun {_} I j p0 p1 p2 p3 => k_andsS5 (r := 0) G hT I j p0 p1 p2 p3
    exact ⟨hT, hA, fun {_} I j p0 p1 p2 p3 => k_orsS5 (r := 0) G hA I j p0 p1 p2 p3⟩
  | succ r ih =>
    have hT : ∀ {s : PS}, Bd s → FDB B N s → (iI s 77 ≤ 203) → (iI s 78 + ((r + 1 : Nat) : Int) = 7) → (iI s 78 = 7 → iI s 79 ≠ 0) → (iI s 79 = 0 → iI s 77 ≤ 202) → CT l s0 D A dT 210 (rkR (24 + 3 * (r + 1))) [.ref (A 179)] s (fun o t => Bd t ∧ Fm [77, 79, 80, 78] [] s t ∧ FDB B N t ∧ ∃ e, o = .inl (some (.int (Int32.ofInt e))) ∧ rng e ∧ (iI t 78 = iI s 78 ∧ iI s 77 ≤ iI t 77 ∧ (iI t 77 = iI s 77 ∨ iI t 77 ≤ 203) ∧ (iI s 79 ≠ 0 → iI t 79 ≠ 0) ∧ (iI t 79 = 0 → iI t 77 ≤ iI s 75) ∧ (iI s 79 = 0 → iI s 77 < iI t 77) ∧ (e = 0 ∨ e = 1) ∧ PFv (VLm (NMr s) (Int32.ofInt e)) B N 5 s t)) := fun {_} I j p0 p1 p2 p3 => k_testS5 G ih.1 ih.2.2 I j p0 p1 p2 p3
    have hA : ∀ {s : PS}, Bd s → FDB B N s → (iI s 77 ≤ 203) → (iI s 78 + ((r + 1 : Nat) : Int) = 7) → (iI s 78 = 7 → iI s 79 ≠ 0) → (iI s 79 = 0 → iI s 77 ≤ 202) → CT l s0 D A dT 211 (rkR (24 + 3 * (r + 1) + 1)) [.ref (A 179)] s (fun o t => Bd t ∧ Fm [77, 79, 80, 78] [] s t ∧ FDB B N t ∧ ∃ e, o = .inl (some (.int (Int32.ofInt e))) ∧ rng e ∧ (iI t 78 = iI s 78 ∧ iI s 77 ≤ iI t 77 ∧ (iI t 77 = iI s 77 ∨ iI t 77 ≤ 203) ∧ (iI s 79 ≠ 0 → iI t 79 ≠ 0) ∧ (iI t 79 = 0 → iI t 77 ≤ iI s 75) ∧ (iI s 79 = 0 → iI s 77 < iI t 77) ∧ (e = 0 ∨ e = 1) ∧ PFv (VLm (NMr s) (Int32.ofInt e)) B N 6 s t)) := fun {_} I j p0 p1 p2 p3 => k_andsS5 (r := r + 1) G hT I j p0 p1 p2 p3
    exact ⟨hT, hA, fun {_} I j p0 p1 p2 p3 => k_orsS5 (r := r + 1) G hA I j p0 p1 p2 p3⟩
end M87q
