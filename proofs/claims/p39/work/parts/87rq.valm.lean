
theorem oq_22941fbc {a0 a1 a2 a3 : Int} (h0 : a0 = 1) (h1 : ((a0 = 1 ∧ ((a1 < a2 ∧ a3 = a1) ∨ (a2 ≤ a1 ∧ a3 = a2))) ∨ (a0 = 0 ∧ ((a2 < a1 ∧ a3 = a1) ∨ (a1 ≤ a2 ∧ a3 = a2))))) : ((a1 < a2 ∧ a3 = a1) ∨ (a2 ≤ a1 ∧ a3 = a2)) := by omega
theorem oq_987febb4 {a0 a1 a2 a3 : Int} (h0 : a0 = 0) (h1 : ((a0 = 1 ∧ ((a1 < a2 ∧ a3 = a1) ∨ (a2 ≤ a1 ∧ a3 = a2))) ∨ (a0 = 0 ∧ ((a2 < a1 ∧ a3 = a1) ∨ (a1 ≤ a2 ∧ a3 = a2))))) : ((a2 < a1 ∧ a3 = a1) ∨ (a1 ≤ a2 ∧ a3 = a2)) := by omega
theorem oq_67b941c4 {a0 a1 a2 : Int} (h0 : ((a0 = 1 ∧ a1 = 6476969) ∨ (a0 = 0 ∧ (a2 = 1 ∧ a1 = 267347)))) : (a1 = 6476969 ∨ a1 = 267347) := by omega
theorem oq_581f6814 {a0 a1 a2 : Int} (h0 : a0 ≠ 0) (h1 : ((a0 = 1 ∧ a1 = 6476969) ∨ (a0 = 0 ∧ (a2 = 1 ∧ a1 = 267347)))) : a0 = 1 := by omega
theorem oq_63f54f3b {a0 a1 : Int} (h0 : a0 ≤ a1) : ((a0 < a1 ∧ a0 = a0) ∨ (a1 ≤ a0 ∧ a0 = a1)) := by omega
theorem oq_a3e92b18 {a0 : Int} (h0 : a0 = 0) (h1 : a0 ≠ 0) : a0 = 1 := by omega
theorem oq_7587575b {a0 a1 a2 : Int} (h0 : a0 = 0) (h1 : a0 ≠ 0) : a1 < a2 := by omega
theorem oq_1ecb916d {a0 a1 a2 a3 a4 : Int} (h0 : a0 ≠ 1) (h1 : a0 ≠ 0) (h2 : (a1 = 6476969 ∨ a1 = 267347)) (h3 : ((a0 = 1 ∧ a1 = 6476969) ∨ (a0 = 0 ∧ (a2 = 1 ∧ a1 = 267347)))) : a3 < a4 := by omega
theorem oq_91f149e8 {a0 a1 a2 a3 a4 a5 : Int} (h0 : a0 = 0) (h1 : a1 = 0) (h2 : (a2 = 6476969 ∨ a2 = 267347)) (h3 : ((a1 = 1 ∧ a2 = 6476969) ∨ (a1 = 0 ∧ (a0 = 1 ∧ a2 = 267347)))) : (a3 = 0 → a4 ≤ a5) := by omega
theorem oq_d846dabd {a0 : Int} (h0 : a0 ≠ 0) (h1 : a0 = 0) : a0 = 1 := by omega
theorem oq_dac9e9ad {a0 a1 a2 : Int} (h0 : a0 ≠ 0) (h1 : a0 = 0) : a1 < a2 := by omega
theorem oq_eafd517d {a0 a1 a2 : Int} (h0 : a0 = 1) (h1 : a0 = 0) : a1 < a2 := by omega
theorem oq_dbd43d91 {a0 a1 a2 : Int} (h0 : a0 = 1) (h1 : a0 = 0) : a1 = a2 := by omega
theorem oq_a51e9459 {a0 a1 : Int} (h0 : ((a0 = (-1) ∧ a1 = 0) ∨ (0 ≤ a0 ∧ (a0 ≤ 6 ∧ a1 = ((-1) - a0))))) : a1 = ((-1) - a0) := by omega
theorem oq_991cc79c {a0 a1 : Int} (h0 : ((a0 = (-1) ∧ a1 = 0) ∨ (0 ≤ a0 ∧ (a0 ≤ 6 ∧ a1 = ((-1) - a0))))) : (-8) < ((-1) - a0) := by omega
theorem oq_2aa9ca74 {a0 a1 : Int} (h0 : a0 ≠ (-1)) (h1 : ((a0 = (-1) ∧ a1 = 0) ∨ (0 ≤ a0 ∧ (a0 ≤ 6 ∧ a1 = ((-1) - a0))))) : ((-1) - a0) < 0 := by omega
theorem oq_806d00fd {a0 : Int}  : (((-1) - ((-1) - a0)) : Int).toNat = (a0 : Int).toNat := by omega
theorem oq_c5dd0f76 {a0 a1 a2 a3 a4 a5 a6 a7 : Int} (h0 : (a0 = a1 ∨ a0 ≤ a2)) (h1 : (a1 = a3 ∨ a1 ≤ 202)) (h2 : a3 = (a4 + 1)) (h3 : a5 = 42) (h4 : ((a2 ≤ a4 ∧ a5 = (-1)) ∨ (a4 < a2 ∧ (a5 = a6 ∧ (0 ≤ a5 ∧ a5 ≤ 255))))) (h5 : a7 = a2) (h6 : a7 ≤ 200) : a0 ≤ 202 := by omega
theorem oq_c85b1a68 {a0 a1 a2 a3 a4 a5 a6 a7 a8 a9 a10 : Int} {n11 : Nat} (h0 : a0 = a1) (h1 : a2 ≤ a3) (h2 : a1 = a4) (h3 : a5 ≤ a2) (h4 : a4 = a6) (h5 : a5 = (a7 + 1)) (h6 : a8 = 42) (h7 : ((a9 ≤ a7 ∧ a8 = (-1)) ∨ (a7 < a9 ∧ (a8 = a10 ∧ (0 ≤ a8 ∧ a8 ≤ 255))))) (h8 : a6 = a9) (h9 : ((a6 - a7) : Int).toNat < (n11 + 1)) : ((a0 - a3) : Int).toNat < n11 := by omega
theorem oq_5c1b0352 {a0 a1 a2 a3 a4 a5 a6 a7 : Int} (h0 : (a0 = a1 ∨ a0 ≤ a2)) (h1 : (a1 = a3 ∨ a1 ≤ 202)) (h2 : a3 = (a4 + 1)) (h3 : a5 = 47) (h4 : ((a2 ≤ a4 ∧ a5 = (-1)) ∨ (a4 < a2 ∧ (a5 = a6 ∧ (0 ≤ a5 ∧ a5 ≤ 255))))) (h5 : a7 = a2) (h6 : a7 ≤ 200) : a0 ≤ 202 := by omega
theorem oq_1b096cc7 {a0 a1 a2 a3 a4 a5 a6 a7 a8 a9 a10 : Int} {n11 : Nat} (h0 : a0 = a1) (h1 : a2 ≤ a3) (h2 : a1 = a4) (h3 : a5 ≤ a2) (h4 : a4 = a6) (h5 : a5 = (a7 + 1)) (h6 : a8 = 47) (h7 : ((a9 ≤ a7 ∧ a8 = (-1)) ∨ (a7 < a9 ∧ (a8 = a10 ∧ (0 ≤ a8 ∧ a8 ≤ 255))))) (h8 : a6 = a9) (h9 : ((a6 - a7) : Int).toNat < (n11 + 1)) : ((a0 - a3) : Int).toNat < n11 := by omega
theorem oq_bc6bf346 {a0 a1 a2 a3 a4 a5 a6 a7 : Int} (h0 : (a0 = a1 ∨ a0 ≤ a2)) (h1 : (a1 = a3 ∨ a1 ≤ 202)) (h2 : a3 = (a4 + 1)) (h3 : a5 = 43) (h4 : ((a2 ≤ a4 ∧ a5 = (-1)) ∨ (a4 < a2 ∧ (a5 = a6 ∧ (0 ≤ a5 ∧ a5 ≤ 255))))) (h5 : a7 = a2) (h6 : a7 ≤ 200) : a0 ≤ 202 := by omega
theorem oq_d0b060e7 {a0 a1 a2 a3 a4 a5 a6 a7 a8 a9 a10 : Int} {n11 : Nat} (h0 : a0 = a1) (h1 : a2 ≤ a3) (h2 : a1 = a4) (h3 : a5 ≤ a2) (h4 : a4 = a6) (h5 : a5 = (a7 + 1)) (h6 : a8 = 43) (h7 : ((a9 ≤ a7 ∧ a8 = (-1)) ∨ (a7 < a9 ∧ (a8 = a10 ∧ (0 ≤ a8 ∧ a8 ≤ 255))))) (h8 : a6 = a9) (h9 : ((a6 - a7) : Int).toNat < (n11 + 1)) : ((a0 - a3) : Int).toNat < n11 := by omega
theorem oq_60d0509f {a0 a1 a2 a3 a4 a5 a6 a7 : Int} (h0 : (a0 = a1 ∨ a0 ≤ a2)) (h1 : (a1 = a3 ∨ a1 ≤ 202)) (h2 : a3 = (a4 + 1)) (h3 : a5 = 45) (h4 : ((a2 ≤ a4 ∧ a5 = (-1)) ∨ (a4 < a2 ∧ (a5 = a6 ∧ (0 ≤ a5 ∧ a5 ≤ 255))))) (h5 : a7 = a2) (h6 : a7 ≤ 200) : a0 ≤ 202 := by omega
theorem oq_f8f39e4f {a0 a1 a2 a3 a4 a5 a6 a7 a8 a9 a10 : Int} {n11 : Nat} (h0 : a0 = a1) (h1 : a2 ≤ a3) (h2 : a1 = a4) (h3 : a5 ≤ a2) (h4 : a4 = a6) (h5 : a5 = (a7 + 1)) (h6 : a8 = 45) (h7 : ((a9 ≤ a7 ∧ a8 = (-1)) ∨ (a7 < a9 ∧ (a8 = a10 ∧ (0 ≤ a8 ∧ a8 ≤ 255))))) (h8 : a6 = a9) (h9 : ((a6 - a7) : Int).toNat < (n11 + 1)) : ((a0 - a3) : Int).toNat < n11 := by omega

theorem oq_472b1964 {a0 a1 a2 a3 a4 : Int} (h0 : a0 = a1) (h1 : a1 = a2) (h2 : a3 = (a4 + 1)) (h3 : a2 = a3) : a0 = (a4 + 1) := by omega
theorem oq_26e99c01 {a0 a1 a2 a3 a4 : Int} (h0 : a0 ≤ a1) (h1 : a2 ≤ a0) (h2 : a3 ≤ a2) (h3 : a4 ≤ a3) : a4 ≤ a1 := by omega
theorem oq_4f177c12 {a0 a1 : Int} (h0 : a0 = 0) (h1 : a0 ≠ 0) : a1 ≤ 202 := by omega
theorem oq_6bc3f377 {a0 a1 a2 a3 : Int} (h0 : a0 = 0) (h1 : a0 ≠ 0) : (a1 = 0 → a2 ≤ a3) := by omega
theorem oq_69bdeeac {a0 a1 : Int} (h0 : a0 = 0) (h1 : a0 ≠ 0) : (-2147483648) ≤ a1 := by omega
theorem oq_4dd3cfdf {a0 a1 : Int} (h0 : a0 = 0) (h1 : a0 ≠ 0) : a1 ≤ 2147483647 := by omega
theorem oq_05955c3b {a0 a1 : Int} (h0 : a0 ≠ 1) (h1 : a0 ≠ 0) (h2 : (a0 = 0 ∨ a0 = 1)) : a1 ≤ 202 := by omega
theorem oq_7627e113 {a0 a1 a2 a3 : Int} (h0 : a0 ≠ 1) (h1 : a0 ≠ 0) (h2 : (a0 = 0 ∨ a0 = 1)) : (a1 = 0 → a2 ≤ a3) := by omega
theorem oq_66a22dbe {a0 a1 : Int} (h0 : a0 ≠ 1) (h1 : a0 ≠ 0) (h2 : (a0 = 0 ∨ a0 = 1)) : (-2147483648) ≤ a1 := by omega
theorem oq_11b632ac {a0 a1 : Int} (h0 : a0 ≠ 1) (h1 : a0 ≠ 0) (h2 : (a0 = 0 ∨ a0 = 1)) : a1 ≤ 2147483647 := by omega
theorem oq_9e8c11ac {a0 a1 : Int} (h0 : a0 ≠ 0) (h1 : a0 = 0) : a1 ≤ 202 := by omega
theorem oq_0fdca8a3 {a0 a1 a2 a3 : Int} (h0 : a0 ≠ 0) (h1 : a0 = 0) : (a1 = 0 → a2 ≤ a3) := by omega
theorem oq_18c0abd8 {a0 a1 : Int} (h0 : a0 ≠ 0) (h1 : a0 = 0) : (-2147483648) ≤ a1 := by omega
theorem oq_3f990474 {a0 a1 : Int} (h0 : a0 ≠ 0) (h1 : a0 = 0) : a1 ≤ 2147483647 := by omega
theorem oq_7d6db6b8 {a0 a1 : Int} (h0 : a0 = 1) (h1 : a0 = 0) : a1 ≤ 202 := by omega
theorem oq_ee4eff67 {a0 a1 a2 a3 : Int} (h0 : a0 = 1) (h1 : a0 = 0) : (a1 = 0 → a2 ≤ a3) := by omega
theorem oq_8f6d5485 {a0 a1 : Int} (h0 : a0 = 1) (h1 : a0 = 0) : (-2147483648) ≤ a1 := by omega
theorem oq_d0249ed5 {a0 a1 : Int} (h0 : a0 = 1) (h1 : a0 = 0) : a1 ≤ 2147483647 := by omega
theorem oq_0131cced {a0 a1 a2 a3 : Int} (h0 : a0 = a1) (h1 : a1 = 267347) (h2 : a0 = a2) (h3 : a2 = 6476969) : a3 ≤ 390 := by omega
theorem oq_6ff96c75 {a0 a1 a2 a3 a4 : Int} (h0 : a0 = a1) (h1 : a1 = 267347) (h2 : a0 = a2) (h3 : a2 = 6476969) : (a3 = a4 ∨ a3 ≤ 202) := by omega
/-! The model's values of rules: as the class's stack works them out -/
def NMr (s : PS) (j : Nat) : Int32 := Int32.ofInt (iC s 161 j)
theorem nmr_fm {L M : List Nat} {s t : PS} (F : Fm L M s t) (h : 161 ∉ M) : NMr t = NMr s := funext (fun j => congrArg Int32.ofInt (fm_c F h))
theorem pfv_c {n1 n2 : Nat → Int32} {v : Int32} {B : Nat → Int} {N : Int} {m : Nat} {s t : PS} (h : PFv (VLm n1 v) B N m s t) (e : n1 = n2) : PFv (VLm n2 v) B N m s t := by subst e; exact h
theorem opc_42 {B : Nat → Int} {q : Int} (h : B q.toNat = 42) : opC B q = -11 := by unfold opC; rw [h]; rfl
theorem opc_47 {B : Nat → Int} {q : Int} (h : B q.toNat = 47) : opC B q = -12 := by unfold opC; rw [h]; rfl
theorem opc_43 {B : Nat → Int} {q : Int} (h : B q.toNat = 43) : opC B q = -9 := by unfold opC; rw [h]; rfl
theorem opc_45 {B : Nat → Int} {q : Int} (h : B q.toNat = 45) : opC B q = -10 := by unfold opC; rw [h]; rfl
theorem vl_up {nm : Nat → Int32} {v w : Int32} {y o p : Int} {a c : List Int} (ha : VLm nm v a) (hc : VLm nm w c) (ho : o = p) (h8 : p < -8) (hj : Int32.ofInt y = jnV p v w) : VLm nm (Int32.ofInt y) (a ++ c ++ [o]) := by
  rw [hj, ho]; exact vl_two ha hc h8
/-- a unit where ways meet -/
def UV1 (B : Nat → Int) (N p : Int) (t : PS) (il im : Int) : Prop := ¬ dgP B N p ∧ nmC B N p = 0 ∧ ((il = 0 ∧ im = 0 ∧ iI t 77 = p ∧ ¬ (whV B N p = 6476969 ∨ whV B N p = 267347)) ∨ (((il = 1 ∧ whV B N p = 6476969) ∨ (il = 0 ∧ im = 1 ∧ whV B N p = 267347)) ∧ iI t 77 = wdE B N p))
def UV2 (B : Nat → Int) (N p : Int) (t : PS) (il im : Int) : Prop := ¬ dgP B N p ∧ ((il = 0 ∧ im = 0 ∧ chT B N p 40 ∧ iI t 77 = p + 1) ∨ (((il = 1 ∧ whV B N p = 6476969) ∨ (il = 0 ∧ im = 1 ∧ whV B N p = 267347)) ∧ chT B N (sk B N (wdE B N p)) 40 ∧ iI t 77 = sk B N (wdE B N p) + 1))
def UV3 (B : Nat → Int) (N p o : Int) (s : PS) (v : Int) (t : PS) : Prop := ∀ u, SGN B N 41 t u → OUv (VLm (NMr s) (Int32.ofInt v)) B N 0 p o u
theorem two_v {B : Nat → Int} {N p il im a b v : Int} {s : PS} {c d : List Int} (h : (il = 1 ∧ whV B N p = 6476969) ∨ (il = 0 ∧ im = 1 ∧ whV B N p = 267347)) (ra : rng a) (rb : rng b) (hv : (il = 1 ∧ ((a < b ∧ v = a) ∨ (b ≤ a ∧ v = b))) ∨ (il = 0 ∧ ((b < a ∧ v = a) ∨ (a ≤ b ∧ v = b)))) (h1 : VLm (NMr s) (Int32.ofInt a) c) (h2 : VLm (NMr s) (Int32.ofInt b) d) : VLm (NMr s) (Int32.ofInt v) (c ++ d ++ [if whV B N p = 6476969 then -13 else -14]) := by
  rcases h with ⟨e1, e2⟩ | ⟨e1, e2, e3⟩
  · rw [if_pos e2]
    exact vl_up h1 h2 rfl (by decide) (jn_lst ra rb (by first | exact oq_22941fbc e1 hv | omega))
  · rw [if_neg (by first | exact oq_32334554 e3 | omega)]
    exact vl_up h1 h2 rfl (by decide) (jn_mst ra rb (by first | exact oq_987febb4 e1 hv | omega))
section M87q
variable {l : Launch} {s0 : State} {D : va_G} {tys : List (ClassId × FieldType)} {a0 : Array Value} {A : Nat → Nat} {dT : Nat → ClassId} {s : PS}
set_option maxRecDepth 4000 in
theorem k_unit05 (G : GX l s0 D tys a0 dT) {B : Nat → Int} {N : Int} (I : Bd s) (jFDB : FDB B N s) (p0 : iI s 77 ≤ 203) (p1 : iI s 78 + ((0 : Nat) : Int) = 7) (p2 : iI s 78 = 7 → iI s 79 ≠ 0) : CT l s0 D A dT 207 (rkR (3 * (0))) [.ref (A 179)] s (fun o t => Bd t ∧ Fm [77, 79, 80, 78] [] s t ∧ FDB B N t ∧ ∃ e, o = .inl (some (.int (Int32.ofInt e))) ∧ rng e ∧ (iI t 78 = iI s 78 ∧ iI s 77 ≤ iI t 77 ∧ (iI t 77 = iI s 77 ∨ iI t 77 ≤ 202) ∧ (iI s 79 ≠ 0 → iI t 79 ≠ 0) ∧ (iI t 79 = 0 → iI t 77 ≤ iI s 75) ∧ PFv (VLm (NMr s) (Int32.ofInt e)) B N 0 s t)) := by
  refine ct_of G (by decide) (Nat.le_of_ble_eq_true rfl) (fun k X E hRt hXt q => ?_)
  show WS k 0 [(0, .ref (A 179))] [] _ 0 0
  have F : Fm [77, 79, 80, 78] [] s s := fm_rf _ _ s
  have hN := jFDB.2.1
  have hW := jFDB.2.2
  have b1 := bi_77 I
  have b2 := bi_75 I
  have b3 := bi_79 I
  have b4 := bi_78 I
  refine z_aload_n X (x := A 179) rfl (List.Mem.head _) (z_getI X 179 rfl (c518_ok rfl) rfl rfl ?_)
  have b5 := bi_79 I
  refine z_if_eq X (t := 9) rfl rfl (rng_to _) (fun g6 => ?_) (fun g6 => ?_)
  ·
    exfalso
    omega
  ·
    refine z_const X rfl ?_
    exact w_iret X.1 q hRt rfl (ax_d X (show cdA 207 8 = some (.ireturn, 1, 0, 0, 0) from rfl)) (Nat.zero_le _) (Nat.zero_le _) ⟨_, rfl, I, F, jFDB, 0, rfl, (by decide), ⟨by first | exact rfl | (clear g6 p2; omega) | (clear p2; omega) | omega, by first | exact oq_15ec32ab | (clear g6 p2; omega) | (clear p2; omega) | omega, by first | exact Or.inl (by decide) | exact Or.inl (rfl) | omega, by first | exact oq_4bed1c3e g6 b5.1 | omega, by first | exact oq_6a3c9b31 g6 b5.1 | omega, Or.inl ⟨by first | exact g6 | (clear g6 p2; omega) | (clear p2; omega) | omega, by first | exact rfl | (clear g6 p2; omega) | (clear p2; omega) | omega⟩⟩⟩
set_option maxRecDepth 4000 in
theorem k_unitS5 (G : GX l s0 D tys a0 dT) {B : Nat → Int} {N : Int} {r : Nat} (hS : ∀ {s : PS}, Bd s → FDB B N s → (iI s 77 ≤ 203) → (iI s 78 + ((r : Nat) : Int) = 7) → (iI s 78 = 7 → iI s 79 ≠ 0) → CT l s0 D A dT 209 (rkR (3 * (r) + 2)) [.ref (A 179)] s (fun o t => Bd t ∧ Fm [77, 79, 80, 78] [] s t ∧ FDB B N t ∧ ∃ e, o = .inl (some (.int (Int32.ofInt e))) ∧ rng e ∧ (iI t 78 = iI s 78 ∧ iI s 77 ≤ iI t 77 ∧ (iI t 77 = iI s 77 ∨ iI t 77 ≤ 202) ∧ (iI s 79 ≠ 0 → iI t 79 ≠ 0) ∧ (iI t 79 = 0 → iI t 77 ≤ iI s 75) ∧ PFv (VLm (NMr s) (Int32.ofInt e)) B N 3 s t))) (I : Bd s) (jFDB : FDB B N s) (p0 : iI s 77 ≤ 203) (p1 : iI s 78 + ((r + 1 : Nat) : Int) = 7) (p2 : iI s 78 = 7 → iI s 79 ≠ 0) : CT l s0 D A dT 207 (rkR (3 * (r + 1))) [.ref (A 179)] s (fun o t => Bd t ∧ Fm [77, 79, 80, 78] [] s t ∧ FDB B N t ∧ ∃ e, o = .inl (some (.int (Int32.ofInt e))) ∧ rng e ∧ (iI t 78 = iI s 78 ∧ iI s 77 ≤ iI t 77 ∧ (iI t 77 = iI s 77 ∨ iI t 77 ≤ 202) ∧ (iI s 79 ≠ 0 → iI t 79 ≠ 0) ∧ (iI t 79 = 0 → iI t 77 ≤ iI s 75) ∧ PFv (VLm (NMr s) (Int32.ofInt e)) B N 0 s t)) := by
  refine ct_of G (by decide) (Nat.le_of_ble_eq_true rfl) (fun k X E hRt hXt q => ?_)
  show WS k 0 [(0, .ref (A 179))] [] _ 0 0
  have F : Fm [77, 79, 80, 78] [] s s := fm_rf _ _ s
  have hN := jFDB.2.1
  have hW := jFDB.2.2
  have b1 := bi_77 I
  have b2 := bi_75 I
  have b3 := bi_79 I
  have b4 := bi_78 I
  have L206 : ∀ (t : PS) (v : Int), Bd t → Fm [77, 79, 80, 78] [] s t → FDB B N t → (UV3 B N (sk B N (iI s 77)) (iI s 78) s v t) → (iI s 79 = 0 ∧ iI t 78 = iI s 78 + 1 ∧ iI s 77 ≤ iI t 77 ∧ iI t 77 ≤ 202 ∧ (iI t 79 = 0 → iI t 77 ≤ iI s 75) ∧ rng v) → WS k 206 [(0, .ref (A 179)), (5, .int (Int32.ofInt v))] [] (Wd A dT t) 0 0 := by
    intro t v I F jjFDB hq hi
    have b1001 := bi_77 I
    have b1002 := bi_75 I
    have b1003 := bi_79 I
    have b1004 := bi_78 I
    have hN := jjFDB.2.1
    have hW := jjFDB.2.2
    refine z_aload_n X (x := A 179) rfl (List.Mem.head _) (z_bipush X rfl (z_callV X 179 (rm := rmN 204) (As := [.int (Int32.ofInt 41)]) (st := []) rfl rfl (by decide) rfl (by rw [E.1, E.2.1, E.2.2.1]; exact k_sign3 G I jjFDB (by first | exact ⟨by decide, by decide⟩ | omega) (by first | exact oq_99d3c924 hi.2.2.2.1 | omega)) ⟨by rw [E.2.2.2]; exact (show 8 + 1 ≤ (12 + (3 * (r + 1))) from oq_0f4637ff r), by rw [E.2.2.2]; exact (show 8 + (2 + 11) + 141 ≤ (500 + 45 * (3 * (r + 1))) from oq_673d70d0 r), by rw [E.2.2.2]; exact Nat.le_refl 0, by rw [E.2.2.2]; exact Nat.le_refl 0⟩ (Nat.le_of_ble_eq_true rfl) (fun vv s1005 hq => ?_) (fun ee s1005 hq => ?_)))
    rotate_left
    · obtain ⟨Is1005, Fs1005, JFDB_s1005, hv, hps1005⟩ := hq; cases hv
    obtain ⟨Is1005, Fs1005, JFDB_s1005, hv, hps1005⟩ := hq
    have hps1005p := And.intro hps1005.1 (hps1005.2.1)
    cases hv
    have Gs1005 := fm_tq F Fs1005 rfl rfl
    have JFDB_s1005 : FDB B N s1005 := FDB_fm Fs1005 (by decide) jjFDB
    have b1007 := bi_77 Is1005
    have ws1005_75 : iI s1005 75 = iI t 75 := fm_iq Fs1005 rfl
    have b1008 := bi_79 Is1005
    have ws1005_78 : iI s1005 78 = iI t 78 := fm_iq Fs1005 rfl
    show WS k 212 [(0, .ref (A 179)), (5, .int (Int32.ofInt v))] [] (Wd A dT s1005) 0 0
    have hle : iI s1005 79 = 0 → iI s1005 77 ≤ N := fun h => sg_le hps1005.1 h
    refine z_aload_n X (x := A 179) rfl (List.Mem.head _) (w_dup X.1 (ax_d X (show cdA 207 213 = some (.dup, 1, 0, 0, 0) from rfl)) rfl (z_getI X 179 rfl (c518_ok rfl) rfl rfl ?_))
    have b1009 := bi_78 Is1005
    refine z_const X rfl (z_sub X rfl (s_putI X 179 rfl (c518_ok rfl) rfl rfl (by decide) rfl rfl rfl (wd_gen (fun s1010 hs1010 => ?_))))
    have Is1010 : Bd s1010 := eqB hs1010 (bd_I Is1005 (show (0 : Int) ≤ ((iI s1005 78) - 1) ∧ ((iI s1005 78) - 1) ≤ 8 by first | exact ⟨oq_9c6508e2 ws1005_78 hi.2.1 b4.1, oq_d7fe5c3c b1009.2⟩ | omega) ⟨by first | exact oq_c1e961c7 b1009.1 | omega, by first | exact oq_22bc6706 b1009.2 | omega⟩)
    have Fs1010 := eqF hs1010 (fm_I Gs1005 (inl_ok (a := 78) rfl))
    have vs1010 : iI s1010 78 = ((iI s1005 78) - 1) := eqI hs1010 (iI_u ⟨by first | exact oq_c1e961c7 b1009.1 | omega, by first | exact oq_22bc6706 b1009.2 | omega⟩)
    have ws1010_77 : iI s1010 77 = iI s1005 77 := eqI hs1010 rfl
    have ws1010_75 : iI s1010 75 = iI s1005 75 := eqI hs1010 rfl
    have ws1010_79 : iI s1010 79 = iI s1005 79 := eqI hs1010 rfl
    have fs1010 : Fm [78] [] s1005 s1010 := by rw [hs1010]; exact fm_I (fm_rf _ _ _) (show 78 ∈ _ by decide)
    have JFDB_s1010 : FDB B N s1010 := FDB_fm fs1010 (by decide) JFDB_s1005
    refine z_load X (x := v) rfl (List.Mem.tail _ (List.Mem.head _)) ?_
    exact w_iret X.1 q hRt rfl (ax_d X (show cdA 207 224 = some (.ireturn, 1, 0, 0, 0) from rfl)) (Nat.zero_le _) (Nat.zero_le _) ⟨_, rfl, Is1010, Fs1010, JFDB_s1010, v, rfl, ⟨by first | exact hi.2.2.2.2.2.1 | omega, by first | exact hi.2.2.2.2.2.2 | omega⟩, ⟨by first | exact oq_880c99c9 vs1010 hi.2.1 ws1005_78 | omega, by first | exact oq_6f31d0da ws1010_77 hi.2.2.1 hps1005.2.1 | omega, by first | exact Or.inr (oq_93a04f11 ws1010_77 hps1005.2.2 hN b1002.2 hi.2.2.2.1) | (clear hps1005 p2; omega) | (clear p2; omega) | omega, by first | exact oq_e013ad0f hi.1 | omega, by first | (clear hps1005 p2; omega) | (clear p2; omega) | omega, Or.inr ⟨by first | exact hi.1 | (clear hps1005 p2; omega) | (clear p2; omega) | omega, ou_mvv (hq _ hps1005.1) (by rw [show iI s1010 77 = iI s1005 77 by first | exact ws1010_77 | (clear hps1005 p2; omega) | (clear p2; omega) | omega]) (by first | exact ws1010_79 | (clear hps1005 p2; omega) | (clear p2; omega) | omega)⟩⟩⟩
  have L154 : ∀ (t : PS) (il im : Int), Bd t → Fm [77, 79, 80, 78] [] s t → FDB B N t → (UV2 B N (sk B N (iI s 77)) t il im) → (iI s 79 = 0 ∧ ((iI s 78 = 6 ∧ iI t 79 = 3) ∨ (iI s 78 ≠ 6 ∧ iI t 79 = 0)) ∧ iI t 78 = iI s 78 + 1 ∧ iI s 77 ≤ iI t 77 ∧ iI t 77 ≤ 202 ∧ (il = 0 ∨ il = 1) ∧ (im = 0 ∨ im = 1)) → WS k 154 [(0, .ref (A 179)), (3, .int (Int32.ofInt il)), (4, .int (Int32.ofInt im))] [] (Wd A dT t) 0 0 := by
    as_aux_lemma =>
     intro t il im I F jjFDB hq hi
     have b2001 := bi_77 I
     have b2002 := bi_75 I
     have b2003 := bi_79 I
     have b2004 := bi_78 I
     have hN := jjFDB.2.1
     have hW := jjFDB.2.2
     obtain ⟨hnd, hq⟩ := hq
     rcases hq with hq | hq
     ·
       obtain ⟨ha, hb_, hch, hA⟩ := hq
       refine z_aload_n X (x := A 179) rfl (List.Mem.head _) (z_callV X 179 (rm := (rkR (3 * (r) + 2))) (As := []) (st := []) rfl rfl (by decide) rfl (by rw [E.1, E.2.1, E.2.2.1]; exact hS I jjFDB (by first | exact oq_c76e9237 hi.2.2.2.2.1 | omega) (by first | exact oq_3e96a778 p1 hi.2.2.1 | omega) (by first | exact oq_38d7ef60 hi.2.2.1 hi.2.1 | omega)) ⟨by rw [E.2.2.2]; exact (show (12 + (3 * (r) + 2)) + 1 ≤ (12 + (3 * (r + 1))) from oq_11500719 r), by rw [E.2.2.2]; exact (show 8 + (4 + 11) + (500 + 45 * (3 * (r) + 2)) ≤ (500 + 45 * (3 * (r + 1))) from oq_998273a9 r), by rw [E.2.2.2]; exact Nat.le_refl 0, by rw [E.2.2.2]; exact Nat.le_refl 0⟩ (Nat.le_of_ble_eq_true rfl) (fun vv s2005 hq => ?_) (fun ee s2005 hq => ?_))
       rotate_left
       · obtain ⟨Is2005, Fs2005, JFDB_s2005, e2006, hv, hrs2005, hps2005⟩ := hq; cases hv
       obtain ⟨Is2005, Fs2005, JFDB_s2005, e2006, hv, hrs2005, hps2005⟩ := hq
       have hps2005p := And.intro hps2005.1 (And.intro hps2005.2.1 (hps2005.2.2.2.2.2))
       cases hv
       have Gs2005 := fm_tq F Fs2005 rfl rfl
       have JFDB_s2005 : FDB B N s2005 := FDB_fm Fs2005 (by decide) jjFDB
       have b2007 := bi_77 Is2005
       have ws2005_75 : iI s2005 75 = iI t 75 := fm_iq Fs2005 rfl
       have b2008 := bi_79 Is2005
       have b2009 := bi_78 Is2005
       show WS k 158 [(0, .ref (A 179)), (3, .int (Int32.ofInt il)), (4, .int (Int32.ofInt im))] [.int (Int32.ofInt e2006)] (Wd A dT s2005) 0 0
       refine z_store X (lv' := [(5, .int (Int32.ofInt e2006)), (0, .ref (A 179)), (3, .int (Int32.ofInt il)), (4, .int (Int32.ofInt im))]) rfl (by decide) (fun _ h => h) (z_load_n X (x := il) rfl (List.Mem.tail _ (List.Mem.tail _ (List.Mem.head _))) (z_if_ne X (t := 169) rfl rfl ⟨by first | exact oq_bde653e9 hi.2.2.2.2.2.1 | omega, by first | exact oq_4ad2cb8b hi.2.2.2.2.2.1 | omega⟩ (fun g2010 => ?_) (fun g2010 => ?_)))
       ·
         exfalso
         omega
       ·
         refine z_load X (x := im) rfl (List.Mem.tail _ (List.Mem.tail _ (List.Mem.tail _ (List.Mem.head _)))) (z_if_eq X (t := 206) rfl rfl ⟨by first | exact oq_bde653e9 hi.2.2.2.2.2.2 | omega, by first | exact oq_4ad2cb8b hi.2.2.2.2.2.2 | omega⟩ (fun g2011 => ?_) (fun g2011 => ?_))
         ·
           refine WS_pq [1, 0] (lv' := [(0, .ref (A 179)), (5, .int (Int32.ofInt e2006))]) rfl ?_
           exact L206 _ e2006 Is2005 Gs2005 JFDB_s2005 (fun u hu => ou_parFv hch (by first | exact oq_5ff460d6 p1 | (clear hps2005 p2; omega) | (clear p2; omega) | omega) (by first | exact hi.2.1 | (clear hps2005 p2; omega) | (clear p2; omega) | omega) hA (by first | exact hi.2.2.1 | (clear hps2005 p2; omega) | (clear p2; omega) | omega) (pfv_c hps2005.2.2.2.2.2 (nmr_fm F (by decide))) hu) (by first | (clear hps2005 p2; omega) | (clear p2; omega) | omega)
         ·
           exfalso
           omega
     ·
       as_aux_lemma =>
        obtain ⟨hil, hch, hA⟩ := hq
        have hd : whV B N (sk B N (iI s 77)) = 6476969 ∨ whV B N (sk B N (iI s 77)) = 267347 := by first | exact oq_67b941c4 hil | (clear p2; omega) | omega
        refine z_aload_n X (x := A 179) rfl (List.Mem.head _) (z_callV X 179 (rm := (rkR (3 * (r) + 2))) (As := []) (st := []) rfl rfl (by decide) rfl (by rw [E.1, E.2.1, E.2.2.1]; exact hS I jjFDB (by first | exact oq_c76e9237 hi.2.2.2.2.1 | omega) (by first | exact oq_3e96a778 p1 hi.2.2.1 | omega) (by first | exact oq_38d7ef60 hi.2.2.1 hi.2.1 | omega)) ⟨by rw [E.2.2.2]; exact (show (12 + (3 * (r) + 2)) + 1 ≤ (12 + (3 * (r + 1))) from oq_11500719 r), by rw [E.2.2.2]; exact (show 8 + (4 + 11) + (500 + 45 * (3 * (r) + 2)) ≤ (500 + 45 * (3 * (r + 1))) from oq_998273a9 r), by rw [E.2.2.2]; exact Nat.le_refl 0, by rw [E.2.2.2]; exact Nat.le_refl 0⟩ (Nat.le_of_ble_eq_true rfl) (fun vv s2012 hq => ?_) (fun ee s2012 hq => ?_))
        rotate_left
        · obtain ⟨Is2012, Fs2012, JFDB_s2012, e2013, hv, hrs2012, hps2012⟩ := hq; cases hv
        obtain ⟨Is2012, Fs2012, JFDB_s2012, e2013, hv, hrs2012, hps2012⟩ := hq
        have hps2012p := And.intro hps2012.1 (And.intro hps2012.2.1 (hps2012.2.2.2.2.2))
        cases hv
        have Gs2012 := fm_tq F Fs2012 rfl rfl
        have JFDB_s2012 : FDB B N s2012 := FDB_fm Fs2012 (by decide) jjFDB
        have b2014 := bi_77 Is2012
        have ws2012_75 : iI s2012 75 = iI t 75 := fm_iq Fs2012 rfl
        have b2015 := bi_79 Is2012
        have b2016 := bi_78 Is2012
        show WS k 158 [(0, .ref (A 179)), (3, .int (Int32.ofInt il)), (4, .int (Int32.ofInt im))] [.int (Int32.ofInt e2013)] (Wd A dT s2012) 0 0
        refine z_store X (lv' := [(5, .int (Int32.ofInt e2013)), (0, .ref (A 179)), (3, .int (Int32.ofInt il)), (4, .int (Int32.ofInt im))]) rfl (by decide) (fun _ h => h) (z_load_n X (x := il) rfl (List.Mem.tail _ (List.Mem.tail _ (List.Mem.head _))) (z_if_ne X (t := 169) rfl rfl ⟨by first | exact oq_bde653e9 hi.2.2.2.2.2.1 | omega, by first | exact oq_4ad2cb8b hi.2.2.2.2.2.1 | omega⟩ (fun g2017 => ?_) (fun g2017 => ?_)))
        ·
          refine z_aload_n X (x := A 179) rfl (List.Mem.tail _ (List.Mem.head _)) (z_bipush X rfl (z_callV X 179 (rm := rmN 204) (As := [.int (Int32.ofInt 44)]) (st := []) rfl rfl (by decide) rfl (by rw [E.1, E.2.1, E.2.2.1]; exact k_sign3 G Is2012 JFDB_s2012 (by first | exact ⟨by decide, by decide⟩ | omega) (by first | exact oq_93a1c4d4 hps2012.2.2.1 hi.2.2.2.2.1 | omega)) ⟨by rw [E.2.2.2]; exact (show 8 + 1 ≤ (12 + (3 * (r + 1))) from oq_0f4637ff r), by rw [E.2.2.2]; exact (show 8 + (2 + 11) + 141 ≤ (500 + 45 * (3 * (r + 1))) from oq_673d70d0 r), by rw [E.2.2.2]; exact Nat.le_refl 0, by rw [E.2.2.2]; exact Nat.le_refl 0⟩ (Nat.le_of_ble_eq_true rfl) (fun vv s2018 hq => ?_) (fun ee s2018 hq => ?_)))
          rotate_left
          · obtain ⟨Is2018, Fs2018, JFDB_s2018, hv, hps2018⟩ := hq; cases hv
          obtain ⟨Is2018, Fs2018, JFDB_s2018, hv, hps2018⟩ := hq
          have hps2018p := And.intro hps2018.1 (hps2018.2.1)
          cases hv
          have Gs2018 := fm_tq Gs2012 Fs2018 rfl rfl
          have JFDB_s2018 : FDB B N s2018 := FDB_fm Fs2018 (by decide) JFDB_s2012
          have b2020 := bi_77 Is2018
          have ws2018_75 : iI s2018 75 = iI s2012 75 := fm_iq Fs2018 rfl
          have b2021 := bi_79 Is2018
          have ws2018_78 : iI s2018 78 = iI s2012 78 := fm_iq Fs2018 rfl
          show WS k 175 [(5, .int (Int32.ofInt e2013)), (0, .ref (A 179)), (3, .int (Int32.ofInt il)), (4, .int (Int32.ofInt im))] [] (Wd A dT s2018) 0 0
          have hsf := fun h => sg_fa hps2018.1 h
          refine z_aload_n X (x := A 179) rfl (List.Mem.tail _ (List.Mem.head _)) (z_callV X 179 (rm := (rkR (3 * (r) + 2))) (As := []) (st := []) rfl rfl (by decide) rfl (by rw [E.1, E.2.1, E.2.2.1]; exact hS Is2018 JFDB_s2018 (by first | exact oq_089b1e2e hps2018.2.2 hps2012.2.2.1 hN b2002.2 hi.2.2.2.2.1 | (clear hps2018 g2017 hps2012 p2; omega) | (clear g2017 hps2012 p2; omega) | omega) (by first | exact oq_6126d2ac ws2018_78 p1 hps2012.1 hi.2.2.1 | omega) (by first | exact oq_4ed86b7a hsf ws2018_78 b2015.1 hps2012p.1 hps2012.2.2.2.1 hi.2.2.1 hi.2.1 | (clear hps2018 g2017 hps2012 p2; omega) | (clear g2017 hps2012 p2; omega) | omega)) ⟨by rw [E.2.2.2]; exact (show (12 + (3 * (r) + 2)) + 1 ≤ (12 + (3 * (r + 1))) from oq_11500719 r), by rw [E.2.2.2]; exact (show 8 + (4 + 11) + (500 + 45 * (3 * (r) + 2)) ≤ (500 + 45 * (3 * (r + 1))) from oq_998273a9 r), by rw [E.2.2.2]; exact Nat.le_refl 0, by rw [E.2.2.2]; exact Nat.le_refl 0⟩ (Nat.le_of_ble_eq_true rfl) (fun vv s2022 hq => ?_) (fun ee s2022 hq => ?_))
          rotate_left
          · obtain ⟨Is2022, Fs2022, JFDB_s2022, e2023, hv, hrs2022, hps2022⟩ := hq; cases hv
          obtain ⟨Is2022, Fs2022, JFDB_s2022, e2023, hv, hrs2022, hps2022⟩ := hq
          have hps2022p := And.intro hps2022.1 (And.intro hps2022.2.1 (hps2022.2.2.2.2.2))
          cases hv
          have Gs2022 := fm_tq Gs2018 Fs2022 rfl rfl
          have JFDB_s2022 : FDB B N s2022 := FDB_fm Fs2022 (by decide) JFDB_s2018
          have b2024 := bi_77 Is2022
          have ws2022_75 : iI s2022 75 = iI s2018 75 := fm_iq Fs2022 rfl
          have b2025 := bi_79 Is2022
          have b2026 := bi_78 Is2022
          show WS k 179 [(5, .int (Int32.ofInt e2013)), (0, .ref (A 179)), (3, .int (Int32.ofInt il)), (4, .int (Int32.ofInt im))] [.int (Int32.ofInt e2023)] (Wd A dT s2022) 0 0
          refine z_store X (lv' := [(6, .int (Int32.ofInt e2023)), (5, .int (Int32.ofInt e2013)), (0, .ref (A 179)), (3, .int (Int32.ofInt il)), (4, .int (Int32.ofInt im))]) rfl (by decide) (fun _ h => h) (z_load_n X (x := il) rfl (List.Mem.tail _ (List.Mem.tail _ (List.Mem.tail _ (List.Mem.head _)))) (z_load X (x := e2023) rfl (List.Mem.head _) (z_load X (x := e2013) rfl (List.Mem.tail _ (List.Mem.head _)) (z_icmp_ge X (t := 193) rfl rfl hrs2022 hrs2012 (fun g2027 => ?_) (fun g2027 => ?_)))))
          ·
            as_aux_lemma =>
             refine z_const X rfl (z_icmp_ne X (t := 202) rfl rfl ⟨by first | exact oq_bde653e9 hi.2.2.2.2.2.1 | omega, by first | exact oq_4ad2cb8b hi.2.2.2.2.2.1 | omega⟩ (by decide) (fun g2028 => ?_) (fun g2028 => ?_))
             ·
               refine z_load X (x := e2013) rfl (List.Mem.tail _ (List.Mem.head _)) (z_store X (lv' := [(5, .int (Int32.ofInt e2013)), (6, .int (Int32.ofInt e2023)), (0, .ref (A 179)), (3, .int (Int32.ofInt il)), (4, .int (Int32.ofInt im))]) rfl (by decide) (fun _ h => h) (WS_pq [2, 0] (lv' := [(0, .ref (A 179)), (5, .int (Int32.ofInt e2013))]) rfl ?_))
               exact L206 _ e2013 Is2022 Gs2022 JFDB_s2022 (fun u hu => ou_twoFv hnd (wh_no hd) hd hch (by first | exact oq_5ff460d6 p1 | (clear g2028 hps2022 hps2018 g2017 hps2012 p2; omega) | (clear hps2022 hps2018 g2017 hps2012 p2; omega) | omega) (by first | exact hi.2.1 | (clear g2028 hps2022 hps2018 g2017 hps2012 p2; omega) | (clear hps2022 hps2018 g2017 hps2012 p2; omega) | omega) hA (by first | exact hi.2.2.1 | (clear g2028 hps2022 hps2018 g2017 hps2012 p2; omega) | (clear hps2022 hps2018 g2017 hps2012 p2; omega) | omega) (pfv_c hps2012.2.2.2.2.2 (nmr_fm F (by decide))) hps2018.1 (by first | exact oq_52108d03 ws2018_78 hps2012p.1 hi.2.2.1 | (clear g2028 hps2022 hps2018 g2017 hps2012 p2; omega) | (clear hps2022 hps2018 g2017 hps2012 p2; omega) | omega) (pfv_c hps2022.2.2.2.2.2 (nmr_fm Gs2018 (by decide))) hu (fun c d h1 h2 => two_v hil hrs2012 hrs2022 (by first | exact Or.inl (And.intro (oq_581f6814 g2028 hil) (oq_63f54f3b g2027)) | (clear g2028 hps2022 hps2018 g2017 hps2012 p2; omega) | (clear hps2022 hps2018 g2017 hps2012 p2; omega) | omega) h1 h2)) (by first | (clear g2028 hps2022 hps2018 g2017 hps2012 p2; omega) | (clear hps2022 hps2018 g2017 hps2012 p2; omega) | omega)
             ·
               refine z_load X (x := e2023) rfl (List.Mem.head _) (z_goto X (t := 204) rfl rfl (z_store X (lv' := [(5, .int (Int32.ofInt e2023)), (6, .int (Int32.ofInt e2023)), (0, .ref (A 179)), (3, .int (Int32.ofInt il)), (4, .int (Int32.ofInt im))]) rfl (by decide) (fun _ h => h) (WS_pq [2, 0] (lv' := [(0, .ref (A 179)), (5, .int (Int32.ofInt e2023))]) rfl ?_)))
               exact L206 _ e2023 Is2022 Gs2022 JFDB_s2022 (fun u hu => ou_twoFv hnd (wh_no hd) hd hch (by first | exact oq_5ff460d6 p1 | (clear hps2022 hps2018 g2017 hps2012 p2; omega) | (clear hps2018 g2017 hps2012 p2; omega) | omega) (by first | exact hi.2.1 | (clear hps2022 hps2018 g2017 hps2012 p2; omega) | (clear hps2018 g2017 hps2012 p2; omega) | omega) hA (by first | exact hi.2.2.1 | (clear hps2022 hps2018 g2017 hps2012 p2; omega) | (clear hps2018 g2017 hps2012 p2; omega) | omega) (pfv_c hps2012.2.2.2.2.2 (nmr_fm F (by decide))) hps2018.1 (by first | exact oq_52108d03 ws2018_78 hps2012p.1 hi.2.2.1 | (clear hps2022 hps2018 g2017 hps2012 p2; omega) | (clear hps2018 g2017 hps2012 p2; omega) | omega) (pfv_c hps2022.2.2.2.2.2 (nmr_fm Gs2018 (by decide))) hu (fun c d h1 h2 => two_v hil hrs2012 hrs2022 (by first | exact Or.inl (And.intro (oq_a3e92b18 g2028 g2017) (Or.inl (And.intro (oq_7587575b g2028 g2017) (oq_b6b913de g2028 g2017)))) | (clear hps2022 hps2018 g2017 hps2012 p2; omega) | (clear hps2018 g2017 hps2012 p2; omega) | omega) h1 h2)) (by first | exact ⟨hi.1, oq_472b1964 hps2022.1 ws2018_78 hi.2.2.1 hps2012.1, oq_26e99c01 hps2022.2.1 hps2018.2.1 hps2012.2.1 hi.2.2.2.1, oq_4f177c12 g2028 g2017, oq_6bc3f377 g2028 g2017, oq_69bdeeac g2028 g2017, oq_4dd3cfdf g2028 g2017⟩ | omega)
          ·
            as_aux_lemma =>
             refine z_const X rfl (z_goto X (t := 194) rfl rfl (z_icmp_ne X (t := 202) rfl rfl ⟨by first | exact oq_bde653e9 hi.2.2.2.2.2.1 | omega, by first | exact oq_4ad2cb8b hi.2.2.2.2.2.1 | omega⟩ (by decide) (fun g2029 => ?_) (fun g2029 => ?_)))
             ·
               refine z_load X (x := e2013) rfl (List.Mem.tail _ (List.Mem.head _)) (z_store X (lv' := [(5, .int (Int32.ofInt e2013)), (6, .int (Int32.ofInt e2023)), (0, .ref (A 179)), (3, .int (Int32.ofInt il)), (4, .int (Int32.ofInt im))]) rfl (by decide) (fun _ h => h) (WS_pq [2, 0] (lv' := [(0, .ref (A 179)), (5, .int (Int32.ofInt e2013))]) rfl ?_))
               exact L206 _ e2013 Is2022 Gs2022 JFDB_s2022 (fun u hu => ou_twoFv hnd (wh_no hd) hd hch (by first | exact oq_5ff460d6 p1 | (clear g2029 hps2022 hps2018 g2017 hps2012 p2; omega) | (clear hps2022 hps2018 g2017 hps2012 p2; omega) | omega) (by first | exact hi.2.1 | (clear g2029 hps2022 hps2018 g2017 hps2012 p2; omega) | (clear hps2022 hps2018 g2017 hps2012 p2; omega) | omega) hA (by first | exact hi.2.2.1 | (clear g2029 hps2022 hps2018 g2017 hps2012 p2; omega) | (clear hps2022 hps2018 g2017 hps2012 p2; omega) | omega) (pfv_c hps2012.2.2.2.2.2 (nmr_fm F (by decide))) hps2018.1 (by first | exact oq_52108d03 ws2018_78 hps2012p.1 hi.2.2.1 | (clear g2029 hps2022 hps2018 g2017 hps2012 p2; omega) | (clear hps2022 hps2018 g2017 hps2012 p2; omega) | omega) (pfv_c hps2022.2.2.2.2.2 (nmr_fm Gs2018 (by decide))) hu (fun c d h1 h2 => two_v hil hrs2012 hrs2022 (by first | exact Or.inl (And.intro (oq_581f6814 g2017 hil) (Or.inl (And.intro (oq_1ecb916d g2029 g2017 hd hil) (rfl)))) | (clear g2029 hps2022 hps2018 g2017 hps2012 p2; omega) | (clear hps2022 hps2018 g2017 hps2012 p2; omega) | omega) h1 h2)) (by first | exact ⟨hi.1, oq_472b1964 hps2022.1 ws2018_78 hi.2.2.1 hps2012.1, oq_26e99c01 hps2022.2.1 hps2018.2.1 hps2012.2.1 hi.2.2.2.1, oq_05955c3b g2029 g2017 hi.2.2.2.2.2.1, oq_7627e113 g2029 g2017 hi.2.2.2.2.2.1, oq_66a22dbe g2029 g2017 hi.2.2.2.2.2.1, oq_11b632ac g2029 g2017 hi.2.2.2.2.2.1⟩ | omega)
             ·
               refine z_load X (x := e2023) rfl (List.Mem.head _) (z_goto X (t := 204) rfl rfl (z_store X (lv' := [(5, .int (Int32.ofInt e2023)), (6, .int (Int32.ofInt e2023)), (0, .ref (A 179)), (3, .int (Int32.ofInt il)), (4, .int (Int32.ofInt im))]) rfl (by decide) (fun _ h => h) (WS_pq [2, 0] (lv' := [(0, .ref (A 179)), (5, .int (Int32.ofInt e2023))]) rfl ?_)))
               exact L206 _ e2023 Is2022 Gs2022 JFDB_s2022 (fun u hu => ou_twoFv hnd (wh_no hd) hd hch (by first | exact oq_5ff460d6 p1 | (clear hps2022 hps2018 g2017 hps2012 p2; omega) | (clear hps2018 g2017 hps2012 p2; omega) | omega) (by first | exact hi.2.1 | (clear hps2022 hps2018 g2017 hps2012 p2; omega) | (clear hps2018 g2017 hps2012 p2; omega) | omega) hA (by first | exact hi.2.2.1 | (clear hps2022 hps2018 g2017 hps2012 p2; omega) | (clear hps2018 g2017 hps2012 p2; omega) | omega) (pfv_c hps2012.2.2.2.2.2 (nmr_fm F (by decide))) hps2018.1 (by first | exact oq_52108d03 ws2018_78 hps2012p.1 hi.2.2.1 | (clear hps2022 hps2018 g2017 hps2012 p2; omega) | (clear hps2018 g2017 hps2012 p2; omega) | omega) (pfv_c hps2022.2.2.2.2.2 (nmr_fm Gs2018 (by decide))) hu (fun c d h1 h2 => two_v hil hrs2012 hrs2022 (by first | exact Or.inl (And.intro (g2029) (Or.inr (And.intro (oq_161a6600 g2027) (rfl)))) | (clear hps2022 hps2018 g2017 hps2012 p2; omega) | (clear hps2018 g2017 hps2012 p2; omega) | omega) h1 h2)) (by first | (clear hps2022 hps2018 g2017 hps2012 p2; omega) | (clear hps2018 g2017 hps2012 p2; omega) | omega)
        ·
          as_aux_lemma =>
           refine z_load X (x := im) rfl (List.Mem.tail _ (List.Mem.tail _ (List.Mem.tail _ (List.Mem.head _)))) (z_if_eq X (t := 206) rfl rfl ⟨by first | exact oq_bde653e9 hi.2.2.2.2.2.2 | omega, by first | exact oq_4ad2cb8b hi.2.2.2.2.2.2 | omega⟩ (fun g2030 => ?_) (fun g2030 => ?_))
           ·
             refine WS_pq [1, 0] (lv' := [(0, .ref (A 179)), (5, .int (Int32.ofInt e2013))]) rfl ?_
             exact L206 _ e2013 Is2012 Gs2012 JFDB_s2012 (by exfalso; omega) (by first | exact And.intro (hi.1) (And.intro (oq_4b8d46b3 hps2012p.1 hi.2.2.1) (And.intro (oq_f8a2cf0e hps2012p.2.1 hi.2.2.2.1) (And.intro (oq_394b29e1 hps2012.2.2.1 hi.2.2.2.2.1) (And.intro (oq_91f149e8 g2030 g2017 hd hil) (And.intro (hrs2012.1) (hrs2012.2)))))) | (clear hps2012 p2; omega) | (clear p2; omega) | omega)
           ·
             refine z_aload_n X (x := A 179) rfl (List.Mem.tail _ (List.Mem.head _)) (z_bipush X rfl (z_callV X 179 (rm := rmN 204) (As := [.int (Int32.ofInt 44)]) (st := []) rfl rfl (by decide) rfl (by rw [E.1, E.2.1, E.2.2.1]; exact k_sign3 G Is2012 JFDB_s2012 (by first | exact ⟨by decide, by decide⟩ | omega) (by first | exact oq_93a1c4d4 hps2012.2.2.1 hi.2.2.2.2.1 | omega)) ⟨by rw [E.2.2.2]; exact (show 8 + 1 ≤ (12 + (3 * (r + 1))) from oq_0f4637ff r), by rw [E.2.2.2]; exact (show 8 + (2 + 11) + 141 ≤ (500 + 45 * (3 * (r + 1))) from oq_673d70d0 r), by rw [E.2.2.2]; exact Nat.le_refl 0, by rw [E.2.2.2]; exact Nat.le_refl 0⟩ (Nat.le_of_ble_eq_true rfl) (fun vv s2031 hq => ?_) (fun ee s2031 hq => ?_)))
             rotate_left
             · obtain ⟨Is2031, Fs2031, JFDB_s2031, hv, hps2031⟩ := hq; cases hv
             obtain ⟨Is2031, Fs2031, JFDB_s2031, hv, hps2031⟩ := hq
             have hps2031p := And.intro hps2031.1 (hps2031.2.1)
             cases hv
             have Gs2031 := fm_tq Gs2012 Fs2031 rfl rfl
             have JFDB_s2031 : FDB B N s2031 := FDB_fm Fs2031 (by decide) JFDB_s2012
             have b2033 := bi_77 Is2031
             have ws2031_75 : iI s2031 75 = iI s2012 75 := fm_iq Fs2031 rfl
             have b2034 := bi_79 Is2031
             have ws2031_78 : iI s2031 78 = iI s2012 78 := fm_iq Fs2031 rfl
             show WS k 175 [(5, .int (Int32.ofInt e2013)), (0, .ref (A 179)), (3, .int (Int32.ofInt il)), (4, .int (Int32.ofInt im))] [] (Wd A dT s2031) 0 0
             have hsf := fun h => sg_fa hps2031.1 h
             refine z_aload_n X (x := A 179) rfl (List.Mem.tail _ (List.Mem.head _)) (z_callV X 179 (rm := (rkR (3 * (r) + 2))) (As := []) (st := []) rfl rfl (by decide) rfl (by rw [E.1, E.2.1, E.2.2.1]; exact hS Is2031 JFDB_s2031 (by first | exact oq_089b1e2e hps2031.2.2 hps2012.2.2.1 hN b2002.2 hi.2.2.2.2.1 | (clear hps2031 g2030 hps2012 p2; omega) | (clear g2030 hps2012 p2; omega) | omega) (by first | exact oq_6126d2ac ws2031_78 p1 hps2012.1 hi.2.2.1 | omega) (by first | exact oq_4ed86b7a hsf ws2031_78 b2015.1 hps2012p.1 hps2012.2.2.2.1 hi.2.2.1 hi.2.1 | (clear hps2031 g2030 hps2012 p2; omega) | (clear g2030 hps2012 p2; omega) | omega)) ⟨by rw [E.2.2.2]; exact (show (12 + (3 * (r) + 2)) + 1 ≤ (12 + (3 * (r + 1))) from oq_11500719 r), by rw [E.2.2.2]; exact (show 8 + (4 + 11) + (500 + 45 * (3 * (r) + 2)) ≤ (500 + 45 * (3 * (r + 1))) from oq_998273a9 r), by rw [E.2.2.2]; exact Nat.le_refl 0, by rw [E.2.2.2]; exact Nat.le_refl 0⟩ (Nat.le_of_ble_eq_true rfl) (fun vv s2035 hq => ?_) (fun ee s2035 hq => ?_))
             rotate_left
             · obtain ⟨Is2035, Fs2035, JFDB_s2035, e2036, hv, hrs2035, hps2035⟩ := hq; cases hv
             obtain ⟨Is2035, Fs2035, JFDB_s2035, e2036, hv, hrs2035, hps2035⟩ := hq
             have hps2035p := And.intro hps2035.1 (And.intro hps2035.2.1 (hps2035.2.2.2.2.2))
             cases hv
             have Gs2035 := fm_tq Gs2031 Fs2035 rfl rfl
             have JFDB_s2035 : FDB B N s2035 := FDB_fm Fs2035 (by decide) JFDB_s2031
             have b2037 := bi_77 Is2035
             have ws2035_75 : iI s2035 75 = iI s2031 75 := fm_iq Fs2035 rfl
             have b2038 := bi_79 Is2035
             have b2039 := bi_78 Is2035
             show WS k 179 [(5, .int (Int32.ofInt e2013)), (0, .ref (A 179)), (3, .int (Int32.ofInt il)), (4, .int (Int32.ofInt im))] [.int (Int32.ofInt e2036)] (Wd A dT s2035) 0 0
             refine z_store X (lv' := [(6, .int (Int32.ofInt e2036)), (5, .int (Int32.ofInt e2013)), (0, .ref (A 179)), (3, .int (Int32.ofInt il)), (4, .int (Int32.ofInt im))]) rfl (by decide) (fun _ h => h) (z_load_n X (x := il) rfl (List.Mem.tail _ (List.Mem.tail _ (List.Mem.tail _ (List.Mem.head _)))) (z_load X (x := e2036) rfl (List.Mem.head _) (z_load X (x := e2013) rfl (List.Mem.tail _ (List.Mem.head _)) (z_icmp_ge X (t := 193) rfl rfl hrs2035 hrs2012 (fun g2040 => ?_) (fun g2040 => ?_)))))
             ·
               as_aux_lemma =>
                refine z_const X rfl (z_icmp_ne X (t := 202) rfl rfl ⟨by first | exact oq_6ab4c69f g2017 | omega, by first | exact oq_3b8a080c g2017 | omega⟩ (by decide) (fun g2041 => ?_) (fun g2041 => ?_))
                ·
                  refine z_load X (x := e2013) rfl (List.Mem.tail _ (List.Mem.head _)) (z_store X (lv' := [(5, .int (Int32.ofInt e2013)), (6, .int (Int32.ofInt e2036)), (0, .ref (A 179)), (3, .int (Int32.ofInt il)), (4, .int (Int32.ofInt im))]) rfl (by decide) (fun _ h => h) (WS_pq [2, 0] (lv' := [(0, .ref (A 179)), (5, .int (Int32.ofInt e2013))]) rfl ?_))
                  exact L206 _ e2013 Is2035 Gs2035 JFDB_s2035 (fun u hu => ou_twoFv hnd (wh_no hd) hd hch (by first | exact oq_5ff460d6 p1 | (clear g2041 hps2035 hps2031 g2030 hps2012 p2; omega) | (clear hps2035 hps2031 g2030 hps2012 p2; omega) | omega) (by first | exact hi.2.1 | (clear g2041 hps2035 hps2031 g2030 hps2012 p2; omega) | (clear hps2035 hps2031 g2030 hps2012 p2; omega) | omega) hA (by first | exact hi.2.2.1 | (clear g2041 hps2035 hps2031 g2030 hps2012 p2; omega) | (clear hps2035 hps2031 g2030 hps2012 p2; omega) | omega) (pfv_c hps2012.2.2.2.2.2 (nmr_fm F (by decide))) hps2031.1 (by first | exact oq_52108d03 ws2031_78 hps2012p.1 hi.2.2.1 | (clear g2041 hps2035 hps2031 g2030 hps2012 p2; omega) | (clear hps2035 hps2031 g2030 hps2012 p2; omega) | omega) (pfv_c hps2035.2.2.2.2.2 (nmr_fm Gs2031 (by decide))) hu (fun c d h1 h2 => two_v hil hrs2012 hrs2035 (by first | exact Or.inl (And.intro (oq_d846dabd g2041 g2017) (Or.inl (And.intro (oq_dac9e9ad g2041 g2017) (rfl)))) | (clear g2041 hps2035 hps2031 g2030 hps2012 p2; omega) | (clear hps2035 hps2031 g2030 hps2012 p2; omega) | omega) h1 h2)) (by first | exact ⟨hi.1, oq_472b1964 hps2035.1 ws2031_78 hi.2.2.1 hps2012.1, oq_26e99c01 hps2035.2.1 hps2031.2.1 hps2012.2.1 hi.2.2.2.1, oq_9e8c11ac g2041 g2017, oq_0fdca8a3 g2041 g2017, oq_18c0abd8 g2041 g2017, oq_3f990474 g2041 g2017⟩ | omega)
                ·
                  refine z_load X (x := e2036) rfl (List.Mem.head _) (z_goto X (t := 204) rfl rfl (z_store X (lv' := [(5, .int (Int32.ofInt e2036)), (6, .int (Int32.ofInt e2036)), (0, .ref (A 179)), (3, .int (Int32.ofInt il)), (4, .int (Int32.ofInt im))]) rfl (by decide) (fun _ h => h) (WS_pq [2, 0] (lv' := [(0, .ref (A 179)), (5, .int (Int32.ofInt e2036))]) rfl ?_)))
                  exact L206 _ e2036 Is2035 Gs2035 JFDB_s2035 (fun u hu => ou_twoFv hnd (wh_no hd) hd hch (by first | exact oq_5ff460d6 p1 | (clear hps2035 hps2031 g2030 hps2012 p2; omega) | (clear hps2031 g2030 hps2012 p2; omega) | omega) (by first | exact hi.2.1 | (clear hps2035 hps2031 g2030 hps2012 p2; omega) | (clear hps2031 g2030 hps2012 p2; omega) | omega) hA (by first | exact hi.2.2.1 | (clear hps2035 hps2031 g2030 hps2012 p2; omega) | (clear hps2031 g2030 hps2012 p2; omega) | omega) (pfv_c hps2012.2.2.2.2.2 (nmr_fm F (by decide))) hps2031.1 (by first | exact oq_52108d03 ws2031_78 hps2012p.1 hi.2.2.1 | (clear hps2035 hps2031 g2030 hps2012 p2; omega) | (clear hps2031 g2030 hps2012 p2; omega) | omega) (pfv_c hps2035.2.2.2.2.2 (nmr_fm Gs2031 (by decide))) hu (fun c d h1 h2 => two_v hil hrs2012 hrs2035 (by first | exact Or.inr (And.intro (g2041) (Or.inr (And.intro (g2040) (rfl)))) | (clear hps2035 hps2031 g2030 hps2012 p2; omega) | (clear hps2031 g2030 hps2012 p2; omega) | omega) h1 h2)) (by first | (clear hps2035 hps2031 g2030 hps2012 p2; omega) | (clear hps2031 g2030 hps2012 p2; omega) | omega)
             ·
               as_aux_lemma =>
                refine z_const X rfl (z_goto X (t := 194) rfl rfl (z_icmp_ne X (t := 202) rfl rfl ⟨by first | exact oq_6ab4c69f g2017 | omega, by first | exact oq_3b8a080c g2017 | omega⟩ (by decide) (fun g2042 => ?_) (fun g2042 => ?_)))
                ·
                  refine z_load X (x := e2013) rfl (List.Mem.tail _ (List.Mem.head _)) (z_store X (lv' := [(5, .int (Int32.ofInt e2013)), (6, .int (Int32.ofInt e2036)), (0, .ref (A 179)), (3, .int (Int32.ofInt il)), (4, .int (Int32.ofInt im))]) rfl (by decide) (fun _ h => h) (WS_pq [2, 0] (lv' := [(0, .ref (A 179)), (5, .int (Int32.ofInt e2013))]) rfl ?_))
                  exact L206 _ e2013 Is2035 Gs2035 JFDB_s2035 (fun u hu => ou_twoFv hnd (wh_no hd) hd hch (by first | exact oq_5ff460d6 p1 | (clear g2042 hps2035 hps2031 g2030 hps2012 p2; omega) | (clear hps2035 hps2031 g2030 hps2012 p2; omega) | omega) (by first | exact hi.2.1 | (clear g2042 hps2035 hps2031 g2030 hps2012 p2; omega) | (clear hps2035 hps2031 g2030 hps2012 p2; omega) | omega) hA (by first | exact hi.2.2.1 | (clear g2042 hps2035 hps2031 g2030 hps2012 p2; omega) | (clear hps2035 hps2031 g2030 hps2012 p2; omega) | omega) (pfv_c hps2012.2.2.2.2.2 (nmr_fm F (by decide))) hps2031.1 (by first | exact oq_52108d03 ws2031_78 hps2012p.1 hi.2.2.1 | (clear g2042 hps2035 hps2031 g2030 hps2012 p2; omega) | (clear hps2035 hps2031 g2030 hps2012 p2; omega) | omega) (pfv_c hps2035.2.2.2.2.2 (nmr_fm Gs2031 (by decide))) hu (fun c d h1 h2 => two_v hil hrs2012 hrs2035 (by first | exact Or.inr (And.intro (g2017) (Or.inl (And.intro (g2040) (rfl)))) | (clear g2042 hps2035 hps2031 g2030 hps2012 p2; omega) | (clear hps2035 hps2031 g2030 hps2012 p2; omega) | omega) h1 h2)) (by first | (clear g2042 hps2035 hps2031 g2030 hps2012 p2; omega) | (clear hps2035 hps2031 g2030 hps2012 p2; omega) | omega)
                ·
                  refine z_load X (x := e2036) rfl (List.Mem.head _) (z_goto X (t := 204) rfl rfl (z_store X (lv' := [(5, .int (Int32.ofInt e2036)), (6, .int (Int32.ofInt e2036)), (0, .ref (A 179)), (3, .int (Int32.ofInt il)), (4, .int (Int32.ofInt im))]) rfl (by decide) (fun _ h => h) (WS_pq [2, 0] (lv' := [(0, .ref (A 179)), (5, .int (Int32.ofInt e2036))]) rfl ?_)))
                  exact L206 _ e2036 Is2035 Gs2035 JFDB_s2035 (fun u hu => ou_twoFv hnd (wh_no hd) hd hch (by first | exact oq_5ff460d6 p1 | (clear hps2035 hps2031 g2030 hps2012 p2; omega) | (clear hps2031 g2030 hps2012 p2; omega) | omega) (by first | exact hi.2.1 | (clear hps2035 hps2031 g2030 hps2012 p2; omega) | (clear hps2031 g2030 hps2012 p2; omega) | omega) hA (by first | exact hi.2.2.1 | (clear hps2035 hps2031 g2030 hps2012 p2; omega) | (clear hps2031 g2030 hps2012 p2; omega) | omega) (pfv_c hps2012.2.2.2.2.2 (nmr_fm F (by decide))) hps2031.1 (by first | exact oq_52108d03 ws2031_78 hps2012p.1 hi.2.2.1 | (clear hps2035 hps2031 g2030 hps2012 p2; omega) | (clear hps2031 g2030 hps2012 p2; omega) | omega) (pfv_c hps2035.2.2.2.2.2 (nmr_fm Gs2031 (by decide))) hu (fun c d h1 h2 => two_v hil hrs2012 hrs2035 (by first | exact Or.inl (And.intro (g2042) (Or.inl (And.intro (oq_eafd517d g2042 g2017) (oq_dbd43d91 g2042 g2017)))) | (clear hps2035 hps2031 g2030 hps2012 p2; omega) | (clear hps2031 g2030 hps2012 p2; omega) | omega) h1 h2)) (by first | exact ⟨hi.1, oq_472b1964 hps2035.1 ws2031_78 hi.2.2.1 hps2012.1, oq_26e99c01 hps2035.2.1 hps2031.2.1 hps2012.2.1 hi.2.2.2.1, oq_7d6db6b8 g2042 g2017, oq_ee4eff67 g2042 g2017, oq_8f6d5485 g2042 g2017, oq_d0249ed5 g2042 g2017⟩ | omega)
  have L121 : ∀ (t : PS) (il im : Int), Bd t → Fm [77, 79, 80, 78] [] s t → FDB B N t → (UV1 B N (sk B N (iI s 77)) t il im) → (iI s 79 = 0 ∧ iI t 79 = 0 ∧ iI t 78 = iI s 78 ∧ iI s 77 ≤ iI t 77 ∧ (iI t 77 = iI s 77 ∨ iI t 77 ≤ 202) ∧ (il = 0 ∨ il = 1) ∧ (im = 0 ∨ im = 1)) → WS k 121 [(0, .ref (A 179)), (3, .int (Int32.ofInt il)), (4, .int (Int32.ofInt im))] [] (Wd A dT t) 0 0 := by
    as_aux_lemma =>
     intro t il im I F jjFDB hq hi
     have b3001 := bi_77 I
     have b3002 := bi_75 I
     have b3003 := bi_79 I
     have b3004 := bi_78 I
     have hN := jjFDB.2.1
     have hW := jjFDB.2.2
     have hskp : sk B N (sk B N (iI s 77)) = (sk B N (iI s 77)) := sk_sk
     obtain ⟨hnd, hnm, hq⟩ := hq
     rcases hq with hq | hq
     ·
       obtain ⟨ha, hb_, hc, hd⟩ := hq
       refine z_aload_n X (x := A 179) rfl (List.Mem.head _) (z_callV X 179 (rm := rmN 193) (As := []) (st := []) rfl rfl (by decide) rfl (by rw [E.1, E.2.1, E.2.2.1]; exact k_blanks2 G I jjFDB (by first | exact oq_299765ef hi.2.2.2.2.1 p0 | omega)) ⟨by rw [E.2.2.2]; exact (show 7 + 1 ≤ (12 + (3 * (r + 1))) from oq_d528a8f9 r), by rw [E.2.2.2]; exact (show 8 + (1 + 11) + 121 ≤ (500 + 45 * (3 * (r + 1))) from oq_218e8e31 r), by rw [E.2.2.2]; exact Nat.le_refl 0, by rw [E.2.2.2]; exact Nat.le_refl 0⟩ (Nat.le_of_ble_eq_true rfl) (fun vv s3005 hq => ?_) (fun ee s3005 hq => ?_))
       rotate_left
       · obtain ⟨Is3005, Fs3005, JFDB_s3005, hv, hps3005⟩ := hq; cases hv
       obtain ⟨Is3005, Fs3005, JFDB_s3005, hv, hps3005⟩ := hq
       have hps3005p := And.intro hps3005.1 (hps3005.2.1)
       cases hv
       have Gs3005 := fm_tq F Fs3005 rfl rfl
       have JFDB_s3005 : FDB B N s3005 := FDB_fm Fs3005 (by decide) jjFDB
       have b3007 := bi_77 Is3005
       have ws3005_75 : iI s3005 75 = iI t 75 := fm_iq Fs3005 rfl
       have ws3005_79 : iI s3005 79 = iI t 79 := fm_iq Fs3005 rfl
       have ws3005_78 : iI s3005 78 = iI t 78 := fm_iq Fs3005 rfl
       show WS k 125 [(0, .ref (A 179)), (3, .int (Int32.ofInt il)), (4, .int (Int32.ofInt im))] [] (Wd A dT s3005) 0 0
       have hq9 : iI s3005 77 = (sk B N (iI s 77)) := by rw [hps3005.1, hc]; exact hskp
       refine z_aload_n X (x := A 179) rfl (List.Mem.head _) (z_aload_n X (x := A 179) rfl (List.Mem.head _) (z_getI X 179 rfl (c518_ok rfl) rfl rfl ?_))
       have b3008 := bi_77 Is3005
       refine z_callV X 179 (rm := rmN 192) (As := [.int (Int32.ofInt (iI s3005 77))]) (st := []) rfl rfl (by decide) rfl (by rw [E.1, E.2.1, E.2.2.1]; exact k_byteAt2 G Is3005 JFDB_s3005 (by first | exact ⟨b3008.1, oq_5a8480eb b3008.2⟩ | omega)) ⟨by rw [E.2.2.2]; exact (show 6 + 1 ≤ (12 + (3 * (r + 1))) from oq_0dc82175 r), by rw [E.2.2.2]; exact (show 8 + (2 + 11) + 100 ≤ (500 + 45 * (3 * (r + 1))) from oq_c9027365 r), by rw [E.2.2.2]; exact Nat.le_refl 0, by rw [E.2.2.2]; exact Nat.le_refl 0⟩ (Nat.le_of_ble_eq_true rfl) (fun vv s3009 hq => ?_) (fun ee s3009 hq => ?_)
       rotate_left
       · obtain ⟨rfl, e3010, hv, hrs3009, hps3009⟩ := hq; cases hv
       obtain ⟨rfl, e3010, hv, hrs3009, hps3009⟩ := hq
       cases hv
       show WS k 133 [(0, .ref (A 179)), (3, .int (Int32.ofInt il)), (4, .int (Int32.ofInt im))] [.int (Int32.ofInt e3010)] (Wd A dT s3005) 0 0
       have hby2 := hps3009
       rw [hq9] at hby2
       refine z_bipush X rfl (z_icmp_eq X (t := 149) rfl rfl hrs3009 (by decide) (fun g3011 => ?_) (fun g3011 => ?_))
       ·
         have hch : chT B N (sk B N (iI s 77)) 40 := ⟨by first | exact oq_5bc28900 g3011 hby2 | (clear hps3009 hps3005 p2; omega) | (clear hps3005 p2; omega) | omega, by first | exact oq_215d9a8d g3011 hby2 | (clear hps3009 hps3005 p2; omega) | (clear hps3005 p2; omega) | omega⟩
         refine z_aload_n X (x := A 179) rfl (List.Mem.head _) (z_const X rfl (z_callV X 179 (rm := rmN 205) (As := [.int (Int32.ofInt 1)]) (st := []) rfl rfl (by decide) rfl (by rw [E.1, E.2.1, E.2.2.1]; exact k_opens3 G Is3005 (by first | exact ⟨by decide, by decide⟩ | omega) (by first | exact oq_1acbb97d g3011 hps3009 hN b3002.2 | (clear hps3009 hps3005 p2; omega) | (clear hps3005 p2; omega) | omega) (by first | exact oq_55179b65 ws3005_78 hi.2.2.1 p1 | (clear hps3009 hps3005 p2; omega) | (clear hps3005 p2; omega) | omega)) ⟨by rw [E.2.2.2]; exact (show 7 + 1 ≤ (12 + (3 * (r + 1))) from oq_d528a8f9 r), by rw [E.2.2.2]; exact (show 8 + (2 + 11) + 122 ≤ (500 + 45 * (3 * (r + 1))) from oq_3e907fa5 r), by rw [E.2.2.2]; exact Nat.le_refl 0, by rw [E.2.2.2]; exact Nat.le_refl 0⟩ (Nat.le_of_ble_eq_true rfl) (fun vv s3012 hq => ?_) (fun ee s3012 hq => ?_)))
         rotate_left
         · obtain ⟨Is3012, Fs3012, hv, hps3012⟩ := hq; cases hv
         obtain ⟨Is3012, Fs3012, hv, hps3012⟩ := hq
         have hps3012p := And.intro hps3012.1 (hps3012.2.1)
         cases hv
         have Gs3012 := fm_tq Gs3005 Fs3012 rfl rfl
         have JFDB_s3012 : FDB B N s3012 := FDB_fm Fs3012 (by decide) JFDB_s3005
         have b3014 := bi_77 Is3012
         have ws3012_75 : iI s3012 75 = iI s3005 75 := fm_iq Fs3012 rfl
         have b3015 := bi_79 Is3012
         have b3016 := bi_78 Is3012
         show WS k 154 [(0, .ref (A 179)), (3, .int (Int32.ofInt il)), (4, .int (Int32.ofInt im))] [] (Wd A dT s3012) 0 0
         refine WS_pq [0, 1, 2] (lv' := [(0, .ref (A 179)), (3, .int (Int32.ofInt il)), (4, .int (Int32.ofInt im))]) rfl ?_
         exact L154 _ il im Is3012 Gs3012 JFDB_s3012 ⟨hnd, Or.inl ⟨by first | exact ha | (clear hps3012 hps3009 hps3005 p2; omega) | (clear hps3009 hps3005 p2; omega) | omega, by first | exact hb_ | (clear hps3012 hps3009 hps3005 p2; omega) | (clear hps3009 hps3005 p2; omega) | omega, hch, by first | exact oq_665cd23d hps3012p.1 hq9 | (clear hps3012 hps3009 hps3005 p2; omega) | (clear hps3009 hps3005 p2; omega) | omega⟩⟩ (by first | exact ⟨hi.1, oq_b9a55545 b3015.1 hps3012.2.2 ws3005_78 ws3005_79 b3003.1 hi.2.2.1 hi.2.1, oq_cae9ec4a hps3012.2.1 ws3005_78 hi.2.2.1, oq_6867a2fe hps3012.1 hi.2.2.2.1 hps3005.2.1, by first | exact oq_c5023ad9 hps3012p.1 g3011 hps3009 hN b3002.2 | (clear hps3012 hps3009 hps3005 p2; omega) | (clear hps3009 hps3005 p2; omega) | omega, hi.2.2.2.2.2.1, hi.2.2.2.2.2.2⟩ | omega)
       ·
         refine z_aload_n X (x := A 179) rfl (List.Mem.head _) (z_const X rfl (z_aload_n X (x := A 179) rfl (List.Mem.head _) (z_getI X 179 rfl (c518_ok rfl) rfl rfl ?_)))
         have b3017 := bi_77 Is3005
         refine z_callV X 179 (rm := rmN 194) (As := [.int (Int32.ofInt 1), .int (Int32.ofInt (iI s3005 77))]) (st := []) rfl rfl (by decide) rfl (by rw [E.1, E.2.1, E.2.2.1]; exact k_wrong3 G Is3005 (by first | exact ⟨by decide, by decide⟩ | omega) (by first | exact ⟨oq_ca54ea22 b3017.1, b3017.2⟩ | omega)) ⟨by rw [E.2.2.2]; exact (show 6 + 1 ≤ (12 + (3 * (r + 1))) from oq_0dc82175 r), by rw [E.2.2.2]; exact (show 8 + (3 + 11) + 100 ≤ (500 + 45 * (3 * (r + 1))) from oq_cdc25995 r), by rw [E.2.2.2]; exact Nat.le_refl 0, by rw [E.2.2.2]; exact Nat.le_refl 0⟩ (Nat.le_of_ble_eq_true rfl) (fun vv s3018 hq => ?_) (fun ee s3018 hq => ?_)
         rotate_left
         · obtain ⟨Is3018, Fs3018, hv, hps3018⟩ := hq; cases hv
         obtain ⟨Is3018, Fs3018, hv, hps3018⟩ := hq
         cases hv
         have Gs3018 := fm_tq Gs3005 Fs3018 rfl rfl
         have JFDB_s3018 : FDB B N s3018 := FDB_fm Fs3018 (by decide) JFDB_s3005
         have ws3018_77 : iI s3018 77 = iI s3005 77 := fm_iq Fs3018 rfl
         have ws3018_75 : iI s3018 75 = iI s3005 75 := fm_iq Fs3018 rfl
         have b3020 := bi_79 Is3018
         have ws3018_78 : iI s3018 78 = iI s3005 78 := fm_iq Fs3018 rfl
         show WS k 147 [(0, .ref (A 179)), (3, .int (Int32.ofInt il)), (4, .int (Int32.ofInt im))] [] (Wd A dT s3018) 0 0
         refine z_const X rfl ?_
         exact w_iret X.1 q hRt rfl (ax_d X (show cdA 207 148 = some (.ireturn, 1, 0, 0, 0) from rfl)) (Nat.zero_le _) (Nat.zero_le _) ⟨_, rfl, Is3018, Gs3018, JFDB_s3018, 0, rfl, (by decide), ⟨by first | exact oq_878618b1 ws3018_78 ws3005_78 hi.2.2.1 | omega, by first | exact oq_6f31d0da ws3018_77 hi.2.2.2.1 hps3005.2.1 | omega, by first | exact oq_be8ad988 ws3018_77 hq9 hc hi.2.2.2.2.1 p0 | (clear hps3018 g3011 hps3009 hps3005 p2; omega) | (clear g3011 hps3009 hps3005 p2; omega) | omega, by first | exact oq_e013ad0f hi.1 | omega, by first | exact oq_67d4e76f b3020.1 hps3018 | omega, Or.inr ⟨by first | exact hi.1 | (clear hps3018 g3011 hps3009 hps3005 p2; omega) | (clear g3011 hps3009 hps3005 p2; omega) | omega, ou_nopv hnd (by first | (clear hps3018 g3011 hps3009 hps3005 p2; omega) | (clear g3011 hps3009 hps3005 p2; omega) | omega) hd (by first | exact hnm | (clear hps3018 g3011 hps3009 hps3005 p2; omega) | (clear g3011 hps3009 hps3005 p2; omega) | omega) (by first | exact oq_55aac509 hps3018 ws3005_79 b3003.1 hi.2.1 | (clear hps3018 g3011 hps3009 hps3005 p2; omega) | (clear g3011 hps3009 hps3005 p2; omega) | omega)⟩⟩⟩
     ·
       as_aux_lemma =>
        obtain ⟨hil, hc⟩ := hq
        have hd : whV B N (sk B N (iI s 77)) = 6476969 ∨ whV B N (sk B N (iI s 77)) = 267347 := by first | exact oq_67b941c4 hil | (clear p2; omega) | omega
        refine z_aload_n X (x := A 179) rfl (List.Mem.head _) (z_callV X 179 (rm := rmN 193) (As := []) (st := []) rfl rfl (by decide) rfl (by rw [E.1, E.2.1, E.2.2.1]; exact k_blanks2 G I jjFDB (by first | exact oq_299765ef hi.2.2.2.2.1 p0 | omega)) ⟨by rw [E.2.2.2]; exact (show 7 + 1 ≤ (12 + (3 * (r + 1))) from oq_d528a8f9 r), by rw [E.2.2.2]; exact (show 8 + (1 + 11) + 121 ≤ (500 + 45 * (3 * (r + 1))) from oq_218e8e31 r), by rw [E.2.2.2]; exact Nat.le_refl 0, by rw [E.2.2.2]; exact Nat.le_refl 0⟩ (Nat.le_of_ble_eq_true rfl) (fun vv s3021 hq => ?_) (fun ee s3021 hq => ?_))
        rotate_left
        · obtain ⟨Is3021, Fs3021, JFDB_s3021, hv, hps3021⟩ := hq; cases hv
        obtain ⟨Is3021, Fs3021, JFDB_s3021, hv, hps3021⟩ := hq
        have hps3021p := And.intro hps3021.1 (hps3021.2.1)
        cases hv
        have Gs3021 := fm_tq F Fs3021 rfl rfl
        have JFDB_s3021 : FDB B N s3021 := FDB_fm Fs3021 (by decide) jjFDB
        have b3023 := bi_77 Is3021
        have ws3021_75 : iI s3021 75 = iI t 75 := fm_iq Fs3021 rfl
        have ws3021_79 : iI s3021 79 = iI t 79 := fm_iq Fs3021 rfl
        have ws3021_78 : iI s3021 78 = iI t 78 := fm_iq Fs3021 rfl
        show WS k 125 [(0, .ref (A 179)), (3, .int (Int32.ofInt il)), (4, .int (Int32.ofInt im))] [] (Wd A dT s3021) 0 0
        have hq9 : iI s3021 77 = sk B N (wdE B N (sk B N (iI s 77))) := by rw [hps3021.1, hc]
        refine z_aload_n X (x := A 179) rfl (List.Mem.head _) (z_aload_n X (x := A 179) rfl (List.Mem.head _) (z_getI X 179 rfl (c518_ok rfl) rfl rfl ?_))
        have b3024 := bi_77 Is3021
        refine z_callV X 179 (rm := rmN 192) (As := [.int (Int32.ofInt (iI s3021 77))]) (st := []) rfl rfl (by decide) rfl (by rw [E.1, E.2.1, E.2.2.1]; exact k_byteAt2 G Is3021 JFDB_s3021 (by first | exact ⟨b3024.1, oq_5a8480eb b3024.2⟩ | omega)) ⟨by rw [E.2.2.2]; exact (show 6 + 1 ≤ (12 + (3 * (r + 1))) from oq_0dc82175 r), by rw [E.2.2.2]; exact (show 8 + (2 + 11) + 100 ≤ (500 + 45 * (3 * (r + 1))) from oq_c9027365 r), by rw [E.2.2.2]; exact Nat.le_refl 0, by rw [E.2.2.2]; exact Nat.le_refl 0⟩ (Nat.le_of_ble_eq_true rfl) (fun vv s3025 hq => ?_) (fun ee s3025 hq => ?_)
        rotate_left
        · obtain ⟨rfl, e3026, hv, hrs3025, hps3025⟩ := hq; cases hv
        obtain ⟨rfl, e3026, hv, hrs3025, hps3025⟩ := hq
        cases hv
        show WS k 133 [(0, .ref (A 179)), (3, .int (Int32.ofInt il)), (4, .int (Int32.ofInt im))] [.int (Int32.ofInt e3026)] (Wd A dT s3021) 0 0
        have hby2 := hps3025
        rw [hq9] at hby2
        refine z_bipush X rfl (z_icmp_eq X (t := 149) rfl rfl hrs3025 (by decide) (fun g3027 => ?_) (fun g3027 => ?_))
        ·
          have hch : chT B N (sk B N (wdE B N (sk B N (iI s 77)))) 40 := ⟨by first | exact oq_5bc28900 g3027 hby2 | (clear hps3025 hps3021 p2; omega) | (clear hps3021 p2; omega) | omega, by first | exact oq_215d9a8d g3027 hby2 | (clear hps3025 hps3021 p2; omega) | (clear hps3021 p2; omega) | omega⟩
          refine z_aload_n X (x := A 179) rfl (List.Mem.head _) (z_const X rfl (z_callV X 179 (rm := rmN 205) (As := [.int (Int32.ofInt 1)]) (st := []) rfl rfl (by decide) rfl (by rw [E.1, E.2.1, E.2.2.1]; exact k_opens3 G Is3021 (by first | exact ⟨by decide, by decide⟩ | omega) (by first | exact oq_1acbb97d g3027 hps3025 hN b3002.2 | (clear hps3025 hps3021 p2; omega) | (clear hps3021 p2; omega) | omega) (by first | exact oq_55179b65 ws3021_78 hi.2.2.1 p1 | (clear hps3025 hps3021 p2; omega) | (clear hps3021 p2; omega) | omega)) ⟨by rw [E.2.2.2]; exact (show 7 + 1 ≤ (12 + (3 * (r + 1))) from oq_d528a8f9 r), by rw [E.2.2.2]; exact (show 8 + (2 + 11) + 122 ≤ (500 + 45 * (3 * (r + 1))) from oq_3e907fa5 r), by rw [E.2.2.2]; exact Nat.le_refl 0, by rw [E.2.2.2]; exact Nat.le_refl 0⟩ (Nat.le_of_ble_eq_true rfl) (fun vv s3028 hq => ?_) (fun ee s3028 hq => ?_)))
          rotate_left
          · obtain ⟨Is3028, Fs3028, hv, hps3028⟩ := hq; cases hv
          obtain ⟨Is3028, Fs3028, hv, hps3028⟩ := hq
          have hps3028p := And.intro hps3028.1 (hps3028.2.1)
          cases hv
          have Gs3028 := fm_tq Gs3021 Fs3028 rfl rfl
          have JFDB_s3028 : FDB B N s3028 := FDB_fm Fs3028 (by decide) JFDB_s3021
          have b3030 := bi_77 Is3028
          have ws3028_75 : iI s3028 75 = iI s3021 75 := fm_iq Fs3028 rfl
          have b3031 := bi_79 Is3028
          have b3032 := bi_78 Is3028
          show WS k 154 [(0, .ref (A 179)), (3, .int (Int32.ofInt il)), (4, .int (Int32.ofInt im))] [] (Wd A dT s3028) 0 0
          refine WS_pq [0, 1, 2] (lv' := [(0, .ref (A 179)), (3, .int (Int32.ofInt il)), (4, .int (Int32.ofInt im))]) rfl ?_
          exact L154 _ il im Is3028 Gs3028 JFDB_s3028 ⟨hnd, Or.inr ⟨hil, hch, by first | exact oq_665cd23d hps3028p.1 hq9 | (clear hps3028 hps3025 hps3021 p2; omega) | (clear hps3025 hps3021 p2; omega) | omega⟩⟩ (by first | exact ⟨hi.1, oq_b9a55545 b3031.1 hps3028.2.2 ws3021_78 ws3021_79 b3003.1 hi.2.2.1 hi.2.1, oq_cae9ec4a hps3028.2.1 ws3021_78 hi.2.2.1, oq_6867a2fe hps3028.1 hi.2.2.2.1 hps3021.2.1, by first | exact oq_c5023ad9 hps3028p.1 g3027 hps3025 hN b3002.2 | (clear hps3028 hps3025 hps3021 p2; omega) | (clear hps3025 hps3021 p2; omega) | omega, hi.2.2.2.2.2.1, hi.2.2.2.2.2.2⟩ | omega)
        ·
          refine z_aload_n X (x := A 179) rfl (List.Mem.head _) (z_const X rfl (z_aload_n X (x := A 179) rfl (List.Mem.head _) (z_getI X 179 rfl (c518_ok rfl) rfl rfl ?_)))
          have b3033 := bi_77 Is3021
          refine z_callV X 179 (rm := rmN 194) (As := [.int (Int32.ofInt 1), .int (Int32.ofInt (iI s3021 77))]) (st := []) rfl rfl (by decide) rfl (by rw [E.1, E.2.1, E.2.2.1]; exact k_wrong3 G Is3021 (by first | exact ⟨by decide, by decide⟩ | omega) (by first | exact ⟨oq_ca54ea22 b3033.1, b3033.2⟩ | omega)) ⟨by rw [E.2.2.2]; exact (show 6 + 1 ≤ (12 + (3 * (r + 1))) from oq_0dc82175 r), by rw [E.2.2.2]; exact (show 8 + (3 + 11) + 100 ≤ (500 + 45 * (3 * (r + 1))) from oq_cdc25995 r), by rw [E.2.2.2]; exact Nat.le_refl 0, by rw [E.2.2.2]; exact Nat.le_refl 0⟩ (Nat.le_of_ble_eq_true rfl) (fun vv s3034 hq => ?_) (fun ee s3034 hq => ?_)
          rotate_left
          · obtain ⟨Is3034, Fs3034, hv, hps3034⟩ := hq; cases hv
          obtain ⟨Is3034, Fs3034, hv, hps3034⟩ := hq
          cases hv
          have Gs3034 := fm_tq Gs3021 Fs3034 rfl rfl
          have JFDB_s3034 : FDB B N s3034 := FDB_fm Fs3034 (by decide) JFDB_s3021
          have ws3034_77 : iI s3034 77 = iI s3021 77 := fm_iq Fs3034 rfl
          have ws3034_75 : iI s3034 75 = iI s3021 75 := fm_iq Fs3034 rfl
          have b3036 := bi_79 Is3034
          have ws3034_78 : iI s3034 78 = iI s3021 78 := fm_iq Fs3034 rfl
          show WS k 147 [(0, .ref (A 179)), (3, .int (Int32.ofInt il)), (4, .int (Int32.ofInt im))] [] (Wd A dT s3034) 0 0
          refine z_const X rfl ?_
          exact w_iret X.1 q hRt rfl (ax_d X (show cdA 207 148 = some (.ireturn, 1, 0, 0, 0) from rfl)) (Nat.zero_le _) (Nat.zero_le _) ⟨_, rfl, Is3034, Gs3034, JFDB_s3034, 0, rfl, (by decide), ⟨by first | exact oq_878618b1 ws3034_78 ws3021_78 hi.2.2.1 | omega, by first | exact oq_6f31d0da ws3034_77 hi.2.2.2.1 hps3021.2.1 | omega, by first | exact oq_4bb86d13 ws3034_77 hps3021.2.2 hN b3002.2 hi.2.2.2.2.1 p0 | (clear hps3034 g3027 hps3025 hps3021 p2; omega) | (clear g3027 hps3025 hps3021 p2; omega) | omega, by first | exact oq_e013ad0f hi.1 | omega, by first | exact oq_67d4e76f b3036.1 hps3034 | omega, Or.inr ⟨by first | exact hi.1 | (clear hps3034 g3027 hps3025 hps3021 p2; omega) | (clear g3027 hps3025 hps3021 p2; omega) | omega, ou_nop2v hd (by first | (clear hps3034 g3027 hps3025 hps3021 p2; omega) | (clear g3027 hps3025 hps3021 p2; omega) | omega) (by first | exact oq_55aac509 hps3034 ws3021_79 b3003.1 hi.2.1 | (clear hps3034 g3027 hps3025 hps3021 p2; omega) | (clear g3027 hps3025 hps3021 p2; omega) | omega)⟩⟩⟩
  refine z_aload_n X (x := A 179) rfl (List.Mem.head _) (z_getI X 179 rfl (c518_ok rfl) rfl rfl ?_)
  have b5 := bi_79 I
  refine z_if_eq X (t := 9) rfl rfl (rng_to _) (fun g6 => ?_) (fun g6 => ?_)
  ·
    as_aux_lemma =>
     refine z_aload_n X (x := A 179) rfl (List.Mem.head _) (z_callV X 179 (rm := rmN 193) (As := []) (st := []) rfl rfl (by decide) rfl (by rw [E.1, E.2.1, E.2.2.1]; exact k_blanks2 G I jFDB (by first | exact oq_2ebc9f52 p0 | omega)) ⟨by rw [E.2.2.2]; exact (show 7 + 1 ≤ (12 + (3 * (r + 1))) from oq_d528a8f9 r), by rw [E.2.2.2]; exact (show 8 + (1 + 11) + 121 ≤ (500 + 45 * (3 * (r + 1))) from oq_218e8e31 r), by rw [E.2.2.2]; exact Nat.le_refl 0, by rw [E.2.2.2]; exact Nat.le_refl 0⟩ (Nat.le_of_ble_eq_true rfl) (fun vv s7 hq => ?_) (fun ee s7 hq => ?_))
     rotate_left
     · obtain ⟨Is7, Fs7, JFDB_s7, hv, hps7⟩ := hq; cases hv
     obtain ⟨Is7, Fs7, JFDB_s7, hv, hps7⟩ := hq
     have hps7p := And.intro hps7.1 (hps7.2.1)
     cases hv
     have Gs7 := fm_tq F Fs7 rfl rfl
     have JFDB_s7 : FDB B N s7 := FDB_fm Fs7 (by decide) jFDB
     have b9 := bi_77 Is7
     have ws7_75 : iI s7 75 = iI s 75 := fm_iq Fs7 rfl
     have ws7_79 : iI s7 79 = iI s 79 := fm_iq Fs7 rfl
     have ws7_78 : iI s7 78 = iI s 78 := fm_iq Fs7 rfl
     show WS k 13 [(0, .ref (A 179))] [] (Wd A dT s7) 0 0
     obtain ⟨pz, hpz⟩ : ∃ q, q = sk B N (iI s 77) := ⟨_, rfl⟩
     have hskp : sk B N pz = pz := by rw [hpz]; exact sk_sk
     have hb : iI s7 77 = pz := by rw [hpz]; exact hps7.1
     refine z_aload_n X (x := A 179) rfl (List.Mem.head _) (z_aload_n X (x := A 179) rfl (List.Mem.head _) (z_getI X 179 rfl (c518_ok rfl) rfl rfl ?_))
     have b10 := bi_77 Is7
     refine z_callV X 179 (rm := rmN 192) (As := [.int (Int32.ofInt (iI s7 77))]) (st := []) rfl rfl (by decide) rfl (by rw [E.1, E.2.1, E.2.2.1]; exact k_byteAt2 G Is7 JFDB_s7 (by first | exact ⟨b10.1, oq_5a8480eb b10.2⟩ | omega)) ⟨by rw [E.2.2.2]; exact (show 6 + 1 ≤ (12 + (3 * (r + 1))) from oq_0dc82175 r), by rw [E.2.2.2]; exact (show 8 + (2 + 11) + 100 ≤ (500 + 45 * (3 * (r + 1))) from oq_c9027365 r), by rw [E.2.2.2]; exact Nat.le_refl 0, by rw [E.2.2.2]; exact Nat.le_refl 0⟩ (Nat.le_of_ble_eq_true rfl) (fun vv s11 hq => ?_) (fun ee s11 hq => ?_)
     rotate_left
     · obtain ⟨rfl, e12, hv, hrs11, hps11⟩ := hq; cases hv
     obtain ⟨rfl, e12, hv, hrs11, hps11⟩ := hq
     cases hv
     show WS k 21 [(0, .ref (A 179))] [.int (Int32.ofInt e12)] (Wd A dT s7) 0 0
     have hby := hps11
     rw [hb] at hby
     refine z_callS X (rm := rmN 195) (As := [.int (Int32.ofInt e12)]) (st := []) rfl rfl (by rw [E.1, E.2.1, E.2.2.1]; exact k_isDigit2 G Is7 (by first | exact ⟨oq_1b38bc36 hps11, oq_eabbb498 hps11⟩ | omega)) ⟨by rw [E.2.2.2]; exact (show 6 + 1 ≤ (12 + (3 * (r + 1))) from oq_0dc82175 r), by rw [E.2.2.2]; exact (show 8 + (1 + 11) + 100 ≤ (500 + 45 * (3 * (r + 1))) from oq_eb98a9a7 r), by rw [E.2.2.2]; exact Nat.le_refl 0, by rw [E.2.2.2]; exact Nat.le_refl 0⟩ (Nat.le_of_ble_eq_true rfl) (fun vv s13 hq => ?_) (fun ee s13 hq => ?_)
     rotate_left
     · obtain ⟨rfl, e14, hv, hrs13, hps13⟩ := hq; cases hv
     obtain ⟨rfl, e14, hv, hrs13, hps13⟩ := hq
     cases hv
     show WS k 24 [(0, .ref (A 179))] [.int (Int32.ofInt e14)] (Wd A dT s7) 0 0
     refine z_if_eq X (t := 36) rfl rfl hrs13 (fun g15 => ?_) (fun g15 => ?_)
     ·
       as_aux_lemma =>
        have hnd : ¬ dgP B N pz := by first | (clear hps13 hps11 hps7 p2; omega) | (clear hps11 hps7 p2; omega) | omega
        refine z_aload_n X (x := A 179) rfl (List.Mem.head _) (z_callV X 179 (rm := rmN 206) (As := []) (st := []) rfl rfl (by decide) rfl (by rw [E.1, E.2.1, E.2.2.1]; exact k_nameHere3 G Is7 JFDB_s7 (by first | exact oq_d4704861 hps7.2.2 b2.2 hN p0 | (clear hps13 hps11 hps7 p2; omega) | (clear hps11 hps7 p2; omega) | omega)) ⟨by rw [E.2.2.2]; exact (show 9 + 1 ≤ (12 + (3 * (r + 1))) from oq_c359dceb r), by rw [E.2.2.2]; exact (show 8 + (2 + 11) + 163 ≤ (500 + 45 * (3 * (r + 1))) from oq_4e1b90b2 r), by rw [E.2.2.2]; exact Nat.le_refl 0, by rw [E.2.2.2]; exact Nat.le_refl 0⟩ (Nat.le_of_ble_eq_true rfl) (fun vv s16 hq => ?_) (fun ee s16 hq => ?_))
        rotate_left
        · obtain ⟨Is16, Fs16, JFDB_s16, e17, hv, hrs16, hps16⟩ := hq; cases hv
        obtain ⟨Is16, Fs16, JFDB_s16, e17, hv, hrs16, hps16⟩ := hq
        have hps16p := And.intro hps16.1 (hps16.2.2.1)
        cases hv
        have Gs16 := fm_tq Gs7 Fs16 rfl rfl
        have JFDB_s16 : FDB B N s16 := FDB_fm Fs16 (by decide) JFDB_s7
        have b18 := bi_77 Is16
        have ws16_75 : iI s16 75 = iI s7 75 := fm_iq Fs16 rfl
        have ws16_79 : iI s16 79 = iI s7 79 := fm_iq Fs16 rfl
        have ws16_78 : iI s16 78 = iI s7 78 := fm_iq Fs16 rfl
        show WS k 40 [(0, .ref (A 179))] [.int (Int32.ofInt e17)] (Wd A dT s16) 0 0
        have hn1 : iI s16 77 = pz := by rw [hps16.1, hb]; exact hskp
        have hnm := hps16.2.1
        rw [hn1] at hnm
        refine z_store_n X (lv' := [(1, .int (Int32.ofInt e17)), (0, .ref (A 179))]) rfl (by decide) (fun _ h => h) (z_aload_n X (x := A 179) rfl (List.Mem.tail _ (List.Mem.head _)) (z_callV X 179 (rm := rmN 201) (As := []) (st := []) rfl rfl (by decide) rfl (by rw [E.1, E.2.1, E.2.2.1]; exact k_wordHere3 G Is16 JFDB_s16 (by first | exact oq_5e26f630 hn1 hb hps7.2.2 b2.2 hN p0 | (clear hps16 hps13 hps11 hps7 p2; omega) | (clear hps13 hps11 hps7 p2; omega) | omega)) ⟨by rw [E.2.2.2]; exact (show 8 + 1 ≤ (12 + (3 * (r + 1))) from oq_0f4637ff r), by rw [E.2.2.2]; exact (show 8 + (3 + 11) + 141 ≤ (500 + 45 * (3 * (r + 1))) from oq_78cdcaf8 r), by rw [E.2.2.2]; exact Nat.le_refl 0, by rw [E.2.2.2]; exact Nat.le_refl 0⟩ (Nat.le_of_ble_eq_true rfl) (fun vv s19 hq => ?_) (fun ee s19 hq => ?_)))
        rotate_left
        · obtain ⟨Is19, Fs19, JFDB_s19, e20, hv, hrs19, hps19⟩ := hq; cases hv
        obtain ⟨Is19, Fs19, JFDB_s19, e20, hv, hrs19, hps19⟩ := hq
        have hps19p := And.intro hps19.1 (And.intro hps19.2.1 (hps19.2.2.1))
        cases hv
        have Gs19 := fm_tq Gs16 Fs19 rfl rfl
        have JFDB_s19 : FDB B N s19 := FDB_fm Fs19 (by decide) JFDB_s16
        have b21 := bi_77 Is19
        have ws19_75 : iI s19 75 = iI s16 75 := fm_iq Fs19 rfl
        have ws19_79 : iI s19 79 = iI s16 79 := fm_iq Fs19 rfl
        have ws19_78 : iI s19 78 = iI s16 78 := fm_iq Fs19 rfl
        show WS k 45 [(1, .int (Int32.ofInt e17)), (0, .ref (A 179))] [.int (Int32.ofInt e20)] (Wd A dT s19) 0 0
        have hn2 : iI s19 77 = pz := by rw [hps19.1, hn1]; exact hskp
        have hwv : e20 = whV B N pz := by rw [hps19.2.1, hn2]
        refine z_store_n X (lv' := [(2, .int (Int32.ofInt e20)), (1, .int (Int32.ofInt e17)), (0, .ref (A 179))]) rfl (by decide) (fun _ h => h) (z_load_n X (x := e17) rfl (List.Mem.tail _ (List.Mem.head _)) (z_const X rfl (z_icmp_eq X (t := 62) rfl rfl hrs16 (by decide) (fun g22 => ?_) (fun g22 => ?_))))
        ·
          as_aux_lemma =>
           refine z_load_n X (x := e20) rfl (List.Mem.head _) (z_bipush X rfl (z_const X rfl (z_const X rfl (z_bipush X rfl (z_bipush X rfl (z_const X rfl (z_callS X (rm := rmN 202) (As := [.int (Int32.ofInt 12), .int (Int32.ofInt 5), .int (Int32.ofInt 1), .int (Int32.ofInt 19), .int (Int32.ofInt 20), .int (Int32.ofInt 0)]) (st := [.int (Int32.ofInt e20)]) rfl rfl (by rw [E.1, E.2.1, E.2.2.1]; exact k_word3 G Is19 (by first | exact ⟨by decide, by decide⟩ | omega) (by first | exact ⟨by decide, by decide⟩ | omega) (by first | exact ⟨by decide, by decide⟩ | omega) (by first | exact ⟨by decide, by decide⟩ | omega) (by first | exact ⟨by decide, by decide⟩ | omega) (by first | exact ⟨by decide, by decide⟩ | omega)) ⟨by rw [E.2.2.2]; exact (show 6 + 1 ≤ (12 + (3 * (r + 1))) from oq_0dc82175 r), by rw [E.2.2.2]; exact (show 8 + (7 + 11) + 100 ≤ (500 + 45 * (3 * (r + 1))) from oq_642991a6 r), by rw [E.2.2.2]; exact Nat.le_refl 0, by rw [E.2.2.2]; exact Nat.le_refl 0⟩ (Nat.le_of_ble_eq_true rfl) (fun vv s23 hq => ?_) (fun ee s23 hq => ?_))))))))
           rotate_left
           · obtain ⟨rfl, e24, hv, hrs23, hps23⟩ := hq; cases hv
           obtain ⟨rfl, e24, hv, hrs23, hps23⟩ := hq
           cases hv
           show WS k 75 [(2, .int (Int32.ofInt e20)), (1, .int (Int32.ofInt e17)), (0, .ref (A 179))] [.int (Int32.ofInt e24), .int (Int32.ofInt e20)] (Wd A dT s19) 0 0
           have hk25 : e24 = 6476969 := by rw [hps23.2]; decide
           refine z_icmp_ne X (t := 82) rfl rfl hrs19 hrs23 (fun g26 => ?_) (fun g26 => ?_)
           ·
             refine z_const X rfl (z_store_n X (lv' := [(3, .int (Int32.ofInt 0)), (2, .int (Int32.ofInt e20)), (1, .int (Int32.ofInt e17)), (0, .ref (A 179))]) rfl (by decide) (fun _ h => h) (z_load_n X (x := e20) rfl (List.Mem.tail _ (List.Mem.head _)) (z_bipush X rfl (z_bipush X rfl (z_bipush X rfl (z_bipush X rfl (z_const X rfl (z_const X rfl (z_callS X (rm := rmN 202) (As := [.int (Int32.ofInt 13), .int (Int32.ofInt 15), .int (Int32.ofInt 19), .int (Int32.ofInt 20), .int (Int32.ofInt 0), .int (Int32.ofInt 0)]) (st := [.int (Int32.ofInt e20)]) rfl rfl (by rw [E.1, E.2.1, E.2.2.1]; exact k_word3 G Is19 (by first | exact ⟨by decide, by decide⟩ | omega) (by first | exact ⟨by decide, by decide⟩ | omega) (by first | exact ⟨by decide, by decide⟩ | omega) (by first | exact ⟨by decide, by decide⟩ | omega) (by first | exact ⟨by decide, by decide⟩ | omega) (by first | exact ⟨by decide, by decide⟩ | omega)) ⟨by rw [E.2.2.2]; exact (show 6 + 1 ≤ (12 + (3 * (r + 1))) from oq_0dc82175 r), by rw [E.2.2.2]; exact (show 8 + (7 + 11) + 100 ≤ (500 + 45 * (3 * (r + 1))) from oq_642991a6 r), by rw [E.2.2.2]; exact Nat.le_refl 0, by rw [E.2.2.2]; exact Nat.le_refl 0⟩ (Nat.le_of_ble_eq_true rfl) (fun vv s27 hq => ?_) (fun ee s27 hq => ?_))))))))))
             rotate_left
             · obtain ⟨rfl, e28, hv, hrs27, hps27⟩ := hq; cases hv
             obtain ⟨rfl, e28, hv, hrs27, hps27⟩ := hq
             cases hv
             show WS k 98 [(3, .int (Int32.ofInt 0)), (2, .int (Int32.ofInt e20)), (1, .int (Int32.ofInt e17)), (0, .ref (A 179))] [.int (Int32.ofInt e28), .int (Int32.ofInt e20)] (Wd A dT s19) 0 0
             have hk29 : e28 = 267347 := by rw [hps27.2]; decide
             refine z_icmp_ne X (t := 105) rfl rfl hrs19 hrs27 (fun g30 => ?_) (fun g30 => ?_)
             ·
               refine z_const X rfl (z_store X (lv' := [(4, .int (Int32.ofInt 0)), (3, .int (Int32.ofInt 0)), (2, .int (Int32.ofInt e20)), (1, .int (Int32.ofInt e17)), (0, .ref (A 179))]) rfl (by decide) (fun _ h => h) (z_load_n X (x := 0) rfl (List.Mem.tail _ (List.Mem.head _)) (z_if_ne X (t := 117) rfl rfl (by decide) (fun g31 => ?_) (fun g31 => ?_))))
               ·
                 exfalso
                 omega
               ·
                 refine z_load X (x := 0) rfl (List.Mem.head _) (z_if_eq X (t := 121) rfl rfl (by decide) (fun g32 => ?_) (fun g32 => ?_))
                 ·
                   refine WS_pq [4, 1, 0] (lv' := [(0, .ref (A 179)), (3, .int (Int32.ofInt 0)), (4, .int (Int32.ofInt 0))]) rfl ?_
                   exact L121 _ 0 0 Is19 Gs19 JFDB_s19 ⟨by rw [← hpz]; exact hnd, by rw [← hpz]; omega, Or.inl ⟨by first | exact rfl | (clear g30 g26 hps19 hps16 hps13 hps11 hps7 p2; omega) | (clear g26 hps19 hps16 hps13 hps11 hps7 p2; omega) | omega, by first | exact rfl | (clear g30 g26 hps19 hps16 hps13 hps11 hps7 p2; omega) | (clear g26 hps19 hps16 hps13 hps11 hps7 p2; omega) | omega, by rw [← hpz]; exact hn2, by rw [← hpz]; omega⟩⟩ (by first | exact ⟨g6, oq_264718cb ws19_79 ws16_79 ws7_79 g6, oq_878618b1 ws19_78 ws16_78 ws7_78, oq_522344b2 hps7.2.1 hn2 hb, by first | exact oq_9c7ad4b3 hn2 hb hps7.2.2 b2.2 hN p0 | (clear g30 g26 hps19 hps16 hps13 hps11 hps7 p2; omega) | (clear g26 hps19 hps16 hps13 hps11 hps7 p2; omega) | omega, Or.inl (by decide), Or.inl (by decide)⟩ | omega)
                 ·
                   exfalso
                   omega
             ·
               refine z_const X rfl (z_goto X (t := 106) rfl rfl (z_store X (lv' := [(4, .int (Int32.ofInt 1)), (3, .int (Int32.ofInt 0)), (2, .int (Int32.ofInt e20)), (1, .int (Int32.ofInt e17)), (0, .ref (A 179))]) rfl (by decide) (fun _ h => h) (z_load_n X (x := 0) rfl (List.Mem.tail _ (List.Mem.head _)) (z_if_ne X (t := 117) rfl rfl (by decide) (fun g33 => ?_) (fun g33 => ?_)))))
               ·
                 exfalso
                 omega
               ·
                 refine z_load X (x := 1) rfl (List.Mem.head _) (z_if_eq X (t := 121) rfl rfl (by decide) (fun g34 => ?_) (fun g34 => ?_))
                 ·
                   exfalso
                   omega
                 ·
                   refine z_aload_n X (x := A 179) rfl (List.Mem.tail _ (List.Mem.tail _ (List.Mem.tail _ (List.Mem.tail _ (List.Mem.head _))))) (z_callV X 179 (rm := rmN 203) (As := []) (st := []) rfl rfl (by decide) rfl (by rw [E.1, E.2.1, E.2.2.1]; exact k_skipWord3 G Is19 JFDB_s19 (by first | exact oq_5e26f630 hn2 hb hps7.2.2 b2.2 hN p0 | (clear g34 g26 hps19 hps16 hps13 hps11 hps7 p2; omega) | (clear g26 hps19 hps16 hps13 hps11 hps7 p2; omega) | omega)) ⟨by rw [E.2.2.2]; exact (show 7 + 1 ≤ (12 + (3 * (r + 1))) from oq_d528a8f9 r), by rw [E.2.2.2]; exact (show 8 + (1 + 11) + 121 ≤ (500 + 45 * (3 * (r + 1))) from oq_218e8e31 r), by rw [E.2.2.2]; exact Nat.le_refl 0, by rw [E.2.2.2]; exact Nat.le_refl 0⟩ (Nat.le_of_ble_eq_true rfl) (fun vv s35 hq => ?_) (fun ee s35 hq => ?_))
                   rotate_left
                   · obtain ⟨Is35, Fs35, JFDB_s35, hv, hps35⟩ := hq; cases hv
                   obtain ⟨Is35, Fs35, JFDB_s35, hv, hps35⟩ := hq
                   have hps35p := And.intro hps35.1 (hps35.2.1)
                   cases hv
                   have Gs35 := fm_tq Gs19 Fs35 rfl rfl
                   have JFDB_s35 : FDB B N s35 := FDB_fm Fs35 (by decide) JFDB_s19
                   have b37 := bi_77 Is35
                   have ws35_75 : iI s35 75 = iI s19 75 := fm_iq Fs35 rfl
                   have ws35_79 : iI s35 79 = iI s19 79 := fm_iq Fs35 rfl
                   have ws35_78 : iI s35 78 = iI s19 78 := fm_iq Fs35 rfl
                   show WS k 121 [(4, .int (Int32.ofInt 1)), (3, .int (Int32.ofInt 0)), (2, .int (Int32.ofInt e20)), (1, .int (Int32.ofInt e17)), (0, .ref (A 179))] [] (Wd A dT s35) 0 0
                   refine WS_pq [4, 1, 0] (lv' := [(0, .ref (A 179)), (3, .int (Int32.ofInt 0)), (4, .int (Int32.ofInt 1))]) rfl ?_
                   exact L121 _ 0 1 Is35 Gs35 JFDB_s35 ⟨by rw [← hpz]; exact hnd, by rw [← hpz]; omega, Or.inr ⟨by rw [← hpz]; omega, by rw [← hpz, hps35.1, hn2]⟩⟩ (by first | exact ⟨g6, oq_ff4f6170 ws35_79 ws19_79 ws16_79 ws7_79 g6, oq_ac0e91e1 ws35_78 ws19_78 ws16_78 ws7_78, oq_c70f5ad6 hps35.2.1 hps7.2.1 hn2 hb, by first | exact oq_2559bc3a hps35.2.2 hn2 hb hps7.2.2 b2.2 hN p0 | (clear hps35 g34 g26 hps19 hps16 hps13 hps11 hps7 p2; omega) | (clear g34 g26 hps19 hps16 hps13 hps11 hps7 p2; omega) | omega, Or.inl (by decide), Or.inr (by decide)⟩ | omega)
           ·
             as_aux_lemma =>
              refine z_const X rfl (z_goto X (t := 83) rfl rfl (z_store_n X (lv' := [(3, .int (Int32.ofInt 1)), (2, .int (Int32.ofInt e20)), (1, .int (Int32.ofInt e17)), (0, .ref (A 179))]) rfl (by decide) (fun _ h => h) (z_load_n X (x := e20) rfl (List.Mem.tail _ (List.Mem.head _)) (z_bipush X rfl (z_bipush X rfl (z_bipush X rfl (z_bipush X rfl (z_const X rfl (z_const X rfl (z_callS X (rm := rmN 202) (As := [.int (Int32.ofInt 13), .int (Int32.ofInt 15), .int (Int32.ofInt 19), .int (Int32.ofInt 20), .int (Int32.ofInt 0), .int (Int32.ofInt 0)]) (st := [.int (Int32.ofInt e20)]) rfl rfl (by rw [E.1, E.2.1, E.2.2.1]; exact k_word3 G Is19 (by first | exact ⟨by decide, by decide⟩ | omega) (by first | exact ⟨by decide, by decide⟩ | omega) (by first | exact ⟨by decide, by decide⟩ | omega) (by first | exact ⟨by decide, by decide⟩ | omega) (by first | exact ⟨by decide, by decide⟩ | omega) (by first | exact ⟨by decide, by decide⟩ | omega)) ⟨by rw [E.2.2.2]; exact (show 6 + 1 ≤ (12 + (3 * (r + 1))) from oq_0dc82175 r), by rw [E.2.2.2]; exact (show 8 + (7 + 11) + 100 ≤ (500 + 45 * (3 * (r + 1))) from oq_642991a6 r), by rw [E.2.2.2]; exact Nat.le_refl 0, by rw [E.2.2.2]; exact Nat.le_refl 0⟩ (Nat.le_of_ble_eq_true rfl) (fun vv s38 hq => ?_) (fun ee s38 hq => ?_)))))))))))
              rotate_left
              · obtain ⟨rfl, e39, hv, hrs38, hps38⟩ := hq; cases hv
              obtain ⟨rfl, e39, hv, hrs38, hps38⟩ := hq
              cases hv
              show WS k 98 [(3, .int (Int32.ofInt 1)), (2, .int (Int32.ofInt e20)), (1, .int (Int32.ofInt e17)), (0, .ref (A 179))] [.int (Int32.ofInt e39), .int (Int32.ofInt e20)] (Wd A dT s19) 0 0
              have hk40 : e39 = 267347 := by rw [hps38.2]; decide
              refine z_icmp_ne X (t := 105) rfl rfl hrs19 hrs38 (fun g41 => ?_) (fun g41 => ?_)
              ·
                refine z_const X rfl (z_store X (lv' := [(4, .int (Int32.ofInt 0)), (3, .int (Int32.ofInt 1)), (2, .int (Int32.ofInt e20)), (1, .int (Int32.ofInt e17)), (0, .ref (A 179))]) rfl (by decide) (fun _ h => h) (z_load_n X (x := 1) rfl (List.Mem.tail _ (List.Mem.head _)) (z_if_ne X (t := 117) rfl rfl (by decide) (fun g42 => ?_) (fun g42 => ?_))))
                ·
                  refine z_aload_n X (x := A 179) rfl (List.Mem.tail _ (List.Mem.tail _ (List.Mem.tail _ (List.Mem.tail _ (List.Mem.head _))))) (z_callV X 179 (rm := rmN 203) (As := []) (st := []) rfl rfl (by decide) rfl (by rw [E.1, E.2.1, E.2.2.1]; exact k_skipWord3 G Is19 JFDB_s19 (by first | exact oq_5e26f630 hn2 hb hps7.2.2 b2.2 hN p0 | (clear g42 g41 hps19 hps16 hps13 hps11 hps7 p2; omega) | (clear g41 hps19 hps16 hps13 hps11 hps7 p2; omega) | omega)) ⟨by rw [E.2.2.2]; exact (show 7 + 1 ≤ (12 + (3 * (r + 1))) from oq_d528a8f9 r), by rw [E.2.2.2]; exact (show 8 + (1 + 11) + 121 ≤ (500 + 45 * (3 * (r + 1))) from oq_218e8e31 r), by rw [E.2.2.2]; exact Nat.le_refl 0, by rw [E.2.2.2]; exact Nat.le_refl 0⟩ (Nat.le_of_ble_eq_true rfl) (fun vv s43 hq => ?_) (fun ee s43 hq => ?_))
                  rotate_left
                  · obtain ⟨Is43, Fs43, JFDB_s43, hv, hps43⟩ := hq; cases hv
                  obtain ⟨Is43, Fs43, JFDB_s43, hv, hps43⟩ := hq
                  have hps43p := And.intro hps43.1 (hps43.2.1)
                  cases hv
                  have Gs43 := fm_tq Gs19 Fs43 rfl rfl
                  have JFDB_s43 : FDB B N s43 := FDB_fm Fs43 (by decide) JFDB_s19
                  have b45 := bi_77 Is43
                  have ws43_75 : iI s43 75 = iI s19 75 := fm_iq Fs43 rfl
                  have ws43_79 : iI s43 79 = iI s19 79 := fm_iq Fs43 rfl
                  have ws43_78 : iI s43 78 = iI s19 78 := fm_iq Fs43 rfl
                  show WS k 121 [(4, .int (Int32.ofInt 0)), (3, .int (Int32.ofInt 1)), (2, .int (Int32.ofInt e20)), (1, .int (Int32.ofInt e17)), (0, .ref (A 179))] [] (Wd A dT s43) 0 0
                  refine WS_pq [4, 1, 0] (lv' := [(0, .ref (A 179)), (3, .int (Int32.ofInt 1)), (4, .int (Int32.ofInt 0))]) rfl ?_
                  exact L121 _ 1 0 Is43 Gs43 JFDB_s43 ⟨by rw [← hpz]; exact hnd, by rw [← hpz]; omega, Or.inr ⟨by rw [← hpz]; omega, by rw [← hpz, hps43.1, hn2]⟩⟩ (by first | exact ⟨g6, oq_ff4f6170 ws43_79 ws19_79 ws16_79 ws7_79 g6, oq_ac0e91e1 ws43_78 ws19_78 ws16_78 ws7_78, oq_c70f5ad6 hps43.2.1 hps7.2.1 hn2 hb, by first | exact oq_2559bc3a hps43.2.2 hn2 hb hps7.2.2 b2.2 hN p0 | (clear hps43 g42 g41 hps19 hps16 hps13 hps11 hps7 p2; omega) | (clear g42 g41 hps19 hps16 hps13 hps11 hps7 p2; omega) | omega, Or.inr (by decide), Or.inl (by decide)⟩ | omega)
                ·
                  exfalso
                  omega
              ·
                refine z_const X rfl (z_goto X (t := 106) rfl rfl (z_store X (lv' := [(4, .int (Int32.ofInt 1)), (3, .int (Int32.ofInt 1)), (2, .int (Int32.ofInt e20)), (1, .int (Int32.ofInt e17)), (0, .ref (A 179))]) rfl (by decide) (fun _ h => h) (z_load_n X (x := 1) rfl (List.Mem.tail _ (List.Mem.head _)) (z_if_ne X (t := 117) rfl rfl (by decide) (fun g46 => ?_) (fun g46 => ?_)))))
                ·
                  refine z_aload_n X (x := A 179) rfl (List.Mem.tail _ (List.Mem.tail _ (List.Mem.tail _ (List.Mem.tail _ (List.Mem.head _))))) (z_callV X 179 (rm := rmN 203) (As := []) (st := []) rfl rfl (by decide) rfl (by rw [E.1, E.2.1, E.2.2.1]; exact k_skipWord3 G Is19 JFDB_s19 (by first | exact oq_0131cced g41 hk40 g26 hk25 | omega)) ⟨by rw [E.2.2.2]; exact (show 7 + 1 ≤ (12 + (3 * (r + 1))) from oq_d528a8f9 r), by rw [E.2.2.2]; exact (show 8 + (1 + 11) + 121 ≤ (500 + 45 * (3 * (r + 1))) from oq_218e8e31 r), by rw [E.2.2.2]; exact Nat.le_refl 0, by rw [E.2.2.2]; exact Nat.le_refl 0⟩ (Nat.le_of_ble_eq_true rfl) (fun vv s47 hq => ?_) (fun ee s47 hq => ?_))
                  rotate_left
                  · obtain ⟨Is47, Fs47, JFDB_s47, hv, hps47⟩ := hq; cases hv
                  obtain ⟨Is47, Fs47, JFDB_s47, hv, hps47⟩ := hq
                  have hps47p := And.intro hps47.1 (hps47.2.1)
                  cases hv
                  have Gs47 := fm_tq Gs19 Fs47 rfl rfl
                  have JFDB_s47 : FDB B N s47 := FDB_fm Fs47 (by decide) JFDB_s19
                  have b49 := bi_77 Is47
                  have ws47_75 : iI s47 75 = iI s19 75 := fm_iq Fs47 rfl
                  have ws47_79 : iI s47 79 = iI s19 79 := fm_iq Fs47 rfl
                  have ws47_78 : iI s47 78 = iI s19 78 := fm_iq Fs47 rfl
                  show WS k 121 [(4, .int (Int32.ofInt 1)), (3, .int (Int32.ofInt 1)), (2, .int (Int32.ofInt e20)), (1, .int (Int32.ofInt e17)), (0, .ref (A 179))] [] (Wd A dT s47) 0 0
                  refine WS_pq [4, 1, 0] (lv' := [(0, .ref (A 179)), (3, .int (Int32.ofInt 1)), (4, .int (Int32.ofInt 1))]) rfl ?_
                  exact L121 _ 1 1 Is47 Gs47 JFDB_s47 ⟨by rw [← hpz]; exact hnd, by rw [← hpz]; omega, Or.inr ⟨by rw [← hpz]; omega, by rw [← hpz, hps47.1, hn2]⟩⟩ (by first | exact ⟨g6, oq_ff4f6170 ws47_79 ws19_79 ws16_79 ws7_79 g6, oq_ac0e91e1 ws47_78 ws19_78 ws16_78 ws7_78, oq_c70f5ad6 hps47.2.1 hps7.2.1 hn2 hb, oq_6ff96c75 g41 hk40 g26 hk25, Or.inr (by decide), Or.inr (by decide)⟩ | omega)
                ·
                  exfalso
                  omega
        ·
          as_aux_lemma =>
           refine z_aload_n X (x := A 179) rfl (List.Mem.tail _ (List.Mem.tail _ (List.Mem.head _))) (z_callV X 179 (rm := rmN 203) (As := []) (st := []) rfl rfl (by decide) rfl (by rw [E.1, E.2.1, E.2.2.1]; exact k_skipWord3 G Is19 JFDB_s19 (by first | exact oq_5e26f630 hn2 hb hps7.2.2 b2.2 hN p0 | (clear g22 hps19 hps16 hps13 hps11 hps7 p2; omega) | (clear hps19 hps16 hps13 hps11 hps7 p2; omega) | omega)) ⟨by rw [E.2.2.2]; exact (show 7 + 1 ≤ (12 + (3 * (r + 1))) from oq_d528a8f9 r), by rw [E.2.2.2]; exact (show 8 + (1 + 11) + 121 ≤ (500 + 45 * (3 * (r + 1))) from oq_218e8e31 r), by rw [E.2.2.2]; exact Nat.le_refl 0, by rw [E.2.2.2]; exact Nat.le_refl 0⟩ (Nat.le_of_ble_eq_true rfl) (fun vv s50 hq => ?_) (fun ee s50 hq => ?_))
           rotate_left
           · obtain ⟨Is50, Fs50, JFDB_s50, hv, hps50⟩ := hq; cases hv
           obtain ⟨Is50, Fs50, JFDB_s50, hv, hps50⟩ := hq
           have hps50p := And.intro hps50.1 (hps50.2.1)
           cases hv
           have Gs50 := fm_tq Gs19 Fs50 rfl rfl
           have JFDB_s50 : FDB B N s50 := FDB_fm Fs50 (by decide) JFDB_s19
           have b52 := bi_77 Is50
           have ws50_75 : iI s50 75 = iI s19 75 := fm_iq Fs50 rfl
           have ws50_79 : iI s50 79 = iI s19 79 := fm_iq Fs50 rfl
           have ws50_78 : iI s50 78 = iI s19 78 := fm_iq Fs50 rfl
           show WS k 55 [(2, .int (Int32.ofInt e20)), (1, .int (Int32.ofInt e17)), (0, .ref (A 179))] [] (Wd A dT s50) 0 0
           have hsw : iI s50 77 = wdE B N pz := by rw [hps50.1, hn2]
           have hwl := (wh_let (nm_wh (show nmC B N pz ≠ 0 by first | exact oq_dcfa6a4e g22 hnm | (clear hps50 g22 hps19 hps16 hps13 hps11 hps7 p2; omega) | (clear g22 hps19 hps16 hps13 hps11 hps7 p2; omega) | omega)).1).1
           refine z_aload_n X (x := A 179) rfl (List.Mem.tail _ (List.Mem.tail _ (List.Mem.head _))) (s_getR X 179 rfl (c518_ok rfl) rfl rfl (z_load_n X (x := e17) rfl (List.Mem.tail _ (List.Mem.head _)) (z_ald X 184 rfl (c518_ok rfl) rfl (by first | exact oq_80c2fca8 g22 hps16.2.1 | omega) (show e17 < 7 by first | exact oq_85c01340 hps16.2.1 | omega) (cbig_ok rfl) ?_)))
           have b53 := bc_161 Is50 (show (e17).toNat < 7 by first | exact oq_ce47e515 hps16.2.1 | omega)
           exact w_iret X.1 q hRt rfl (ax_d X (show cdA 207 61 = some (.ireturn, 1, 0, 0, 0) from rfl)) (Nat.zero_le _) (Nat.zero_le _) ⟨_, rfl, Is50, Gs50, JFDB_s50, (iC s50 161 (e17).toNat), rfl, (rng_to _), ⟨by first | exact oq_ac0e91e1 ws50_78 ws19_78 ws16_78 ws7_78 | omega, by first | exact oq_68db3181 hps7.2.1 hps50.2.1 hn2 hb | omega, by first | exact Or.inr (oq_0a79a2a4 hwl hps50.2.2 hn2 b2.2 hN) | (clear hps50 g22 hps19 hps16 hps13 hps11 hps7 p2; omega) | (clear g22 hps19 hps16 hps13 hps11 hps7 p2; omega) | omega, by first | exact oq_e013ad0f g6 | omega, by first | exact oq_19458209 hwl hps50.2.2 hn2 hN | (clear hps50 g22 hps19 hps16 hps13 hps11 hps7 p2; omega) | (clear g22 hps19 hps16 hps13 hps11 hps7 p2; omega) | omega, Or.inr ⟨by first | exact g6 | (clear hps50 g22 hps19 hps16 hps13 hps11 hps7 p2; omega) | (clear g22 hps19 hps16 hps13 hps11 hps7 p2; omega) | omega, by rw [← hpz]; exact ou_namv (by first | exact oq_dcfa6a4e g22 hnm | (clear hps50 g22 hps19 hps16 hps13 hps11 hps7 p2; omega) | (clear g22 hps19 hps16 hps13 hps11 hps7 p2; omega) | omega) hsw (by first | exact oq_ff4f6170 ws50_79 ws19_79 ws16_79 ws7_79 g6 | (clear hps50 g22 hps19 hps16 hps13 hps11 hps7 p2; omega) | (clear g22 hps19 hps16 hps13 hps11 hps7 p2; omega) | omega) (by rw [show nmC B N pz = -1 - e17 by first | exact oq_a51e9459 hnm | (clear hps50 g22 hps19 hps16 hps13 hps11 hps7 p2; omega) | (clear g22 hps19 hps16 hps13 hps11 hps7 p2; omega) | omega]; have z := vl_nam (nm := NMr s) (c := -1 - e17) (by first | exact oq_991cc79c hnm | (clear hps50 g22 hps19 hps16 hps13 hps11 hps7 p2; omega) | (clear g22 hps19 hps16 hps13 hps11 hps7 p2; omega) | omega) (by first | exact oq_2aa9ca74 g22 hnm | (clear hps50 g22 hps19 hps16 hps13 hps11 hps7 p2; omega) | (clear g22 hps19 hps16 hps13 hps11 hps7 p2; omega) | omega); rw [show (-1 - (-1 - e17)).toNat = (e17 : Int).toNat by first | exact oq_806d00fd | (clear hps50 g22 hps19 hps16 hps13 hps11 hps7 p2; omega) | (clear g22 hps19 hps16 hps13 hps11 hps7 p2; omega) | omega] at z; rw [show Int32.ofInt (iC s50 161 (e17).toNat) = NMr s (e17 : Int).toNat from congrArg Int32.ofInt (fm_c Gs50 (by decide))]; exact z)⟩⟩⟩
     ·
       have hDg : dgP B N pz := ⟨by first | exact oq_a6991198 g15 hps13 hby | (clear g15 hps13 hps11 hps7 p2; omega) | (clear hps13 hps11 hps7 p2; omega) | omega, by first | exact oq_9855c2d5 g15 hps13 hby | (clear g15 hps13 hps11 hps7 p2; omega) | (clear hps13 hps11 hps7 p2; omega) | omega, by first | exact oq_2de8c4c0 g15 hps13 hby | (clear g15 hps13 hps11 hps7 p2; omega) | (clear hps13 hps11 hps7 p2; omega) | omega⟩
       refine z_aload_n X (x := A 179) rfl (List.Mem.head _) (z_const X rfl (z_sipush X rfl (z_callV X 179 (rm := rmN 196) (As := [.int (Int32.ofInt 0), .int (Int32.ofInt 999)]) (st := []) rfl rfl (by decide) rfl (by rw [E.1, E.2.1, E.2.2.1]; exact k_number3 G (by rw [hb, hskp]; exact hDg) Is7 JFDB_s7 (by first | exact ⟨by decide, by decide⟩ | omega) (by first | exact ⟨by decide, by decide⟩ | omega) (by first | exact oq_d4704861 hps7.2.2 b2.2 hN p0 | (clear g15 hps13 hps11 hps7 p2; omega) | (clear hps13 hps11 hps7 p2; omega) | omega) (by first | exact oq_e5e5d3d6 ws7_79 g6 | omega)) ⟨by rw [E.2.2.2]; exact (show 8 + 1 ≤ (12 + (3 * (r + 1))) from oq_0f4637ff r), by rw [E.2.2.2]; exact (show 8 + (5 + 11) + 141 ≤ (500 + 45 * (3 * (r + 1))) from oq_aa449917 r), by rw [E.2.2.2]; exact Nat.le_refl 0, by rw [E.2.2.2]; exact Nat.le_refl 0⟩ (Nat.le_of_ble_eq_true rfl) (fun vv s54 hq => ?_) (fun ee s54 hq => ?_))))
       rotate_left
       · obtain ⟨Is54, Fs54, JFDB_s54, e55, hv, hrs54, hps54⟩ := hq; cases hv
       obtain ⟨Is54, Fs54, JFDB_s54, e55, hv, hrs54, hps54⟩ := hq
       have hps54p := And.intro hps54.1 (And.intro hps54.2.1 (hps54.2.2.2.1))
       cases hv
       have Gs54 := fm_tq Gs7 Fs54 rfl rfl
       have JFDB_s54 : FDB B N s54 := FDB_fm Fs54 (by decide) JFDB_s7
       have b56 := bi_77 Is54
       have ws54_75 : iI s54 75 = iI s7 75 := fm_iq Fs54 rfl
       have b57 := bi_79 Is54
       have ws54_78 : iI s54 78 = iI s7 78 := fm_iq Fs54 rfl
       show WS k 35 [(0, .ref (A 179))] [.int (Int32.ofInt e55)] (Wd A dT s54) 0 0
       have hz := hps54
       rw [hb, hskp] at hz
       exact w_iret X.1 q hRt rfl (ax_d X (show cdA 207 35 = some (.ireturn, 1, 0, 0, 0) from rfl)) (Nat.zero_le _) (Nat.zero_le _) ⟨_, rfl, Is54, Gs54, JFDB_s54, e55, rfl, hrs54, ⟨by first | exact oq_1aa5be9e ws54_78 ws7_78 | omega, by first | exact oq_f8a2cf0e hps54.2.2.2.1 hps7.2.1 | omega, by first | exact Or.inr (oq_196ab154 hz.2.2.2.2 g15 hps13 hby b2.2 hN) | (clear hps54 g15 hps13 hps11 hps7 p2; omega) | (clear g15 hps13 hps11 hps7 p2; omega) | omega, by first | exact oq_e013ad0f g6 | omega, by first | exact oq_4182761d hz.2.2.2.2 g15 hps13 hby hN | (clear hps54 g15 hps13 hps11 hps7 p2; omega) | (clear g15 hps13 hps11 hps7 p2; omega) | omega, Or.inr ⟨by first | exact g6 | (clear hps54 g15 hps13 hps11 hps7 p2; omega) | (clear g15 hps13 hps11 hps7 p2; omega) | omega, by rw [← hpz]; exact ou_numv hDg hz.1 hz.2.1 hz.2.2.1 (fun h _ => vl_num h)⟩⟩⟩
  ·
    refine z_const X rfl ?_
    exact w_iret X.1 q hRt rfl (ax_d X (show cdA 207 8 = some (.ireturn, 1, 0, 0, 0) from rfl)) (Nat.zero_le _) (Nat.zero_le _) ⟨_, rfl, I, F, jFDB, 0, rfl, (by decide), ⟨by first | exact rfl | (clear g6 p2; omega) | (clear p2; omega) | omega, by first | exact oq_15ec32ab | (clear g6 p2; omega) | (clear p2; omega) | omega, by first | exact Or.inl (by decide) | exact Or.inl (rfl) | omega, by first | exact oq_4bed1c3e g6 b5.1 | omega, by first | exact oq_6a3c9b31 g6 b5.1 | omega, Or.inl ⟨by first | exact g6 | (clear g6 p2; omega) | (clear p2; omega) | omega, by first | exact rfl | (clear g6 p2; omega) | (clear p2; omega) | omega⟩⟩⟩
set_option maxRecDepth 4000 in
theorem k_productS5 (G : GX l s0 D tys a0 dT) {B : Nat → Int} {N : Int} {r : Nat} (hU : ∀ {s : PS}, Bd s → FDB B N s → (iI s 77 ≤ 203) → (iI s 78 + ((r : Nat) : Int) = 7) → (iI s 78 = 7 → iI s 79 ≠ 0) → CT l s0 D A dT 207 (rkR (3 * (r))) [.ref (A 179)] s (fun o t => Bd t ∧ Fm [77, 79, 80, 78] [] s t ∧ FDB B N t ∧ ∃ e, o = .inl (some (.int (Int32.ofInt e))) ∧ rng e ∧ (iI t 78 = iI s 78 ∧ iI s 77 ≤ iI t 77 ∧ (iI t 77 = iI s 77 ∨ iI t 77 ≤ 202) ∧ (iI s 79 ≠ 0 → iI t 79 ≠ 0) ∧ (iI t 79 = 0 → iI t 77 ≤ iI s 75) ∧ PFv (VLm (NMr s) (Int32.ofInt e)) B N 0 s t))) (I : Bd s) (jFDB : FDB B N s) (p0 : iI s 77 ≤ 203) (p1 : iI s 78 + ((r : Nat) : Int) = 7) (p2 : iI s 78 = 7 → iI s 79 ≠ 0) : CT l s0 D A dT 208 (rkR (3 * (r) + 1)) [.ref (A 179)] s (fun o t => Bd t ∧ Fm [77, 79, 80, 78] [] s t ∧ FDB B N t ∧ ∃ e, o = .inl (some (.int (Int32.ofInt e))) ∧ rng e ∧ (iI t 78 = iI s 78 ∧ iI s 77 ≤ iI t 77 ∧ (iI t 77 = iI s 77 ∨ iI t 77 ≤ 202) ∧ (iI s 79 ≠ 0 → iI t 79 ≠ 0) ∧ (iI t 79 = 0 → iI t 77 ≤ iI s 75) ∧ PFv (VLm (NMr s) (Int32.ofInt e)) B N 1 s t)) := by
  refine ct_of G (by decide) (Nat.le_of_ble_eq_true rfl) (fun k X E hRt hXt q => ?_)
  show WS k 0 [(0, .ref (A 179))] [] _ 0 0
  have F : Fm [77, 79, 80, 78] [] s s := fm_rf _ _ s
  have hN := jFDB.2.1
  have hW := jFDB.2.2
  have b1 := bi_77 I
  have b2 := bi_75 I
  have b3 := bi_79 I
  have b4 := bi_78 I
  have L9 : ∀ (n : Nat) (t : PS) (v : Int), Bd t → Fm [77, 79, 80, 78] [] s t → FDB B N t → (sk B N (iI t 77) = iI t 77 ∧ PRv (VLm (NMr s) (Int32.ofInt v)) B N 2 1 s t) → (iI t 78 = iI s 78 ∧ iI s 77 ≤ iI t 77 ∧ (iI t 77 = iI s 77 ∨ iI t 77 ≤ 202) ∧ (iI s 79 ≠ 0 → iI t 79 ≠ 0) ∧ (iI t 79 = 0 → iI t 77 ≤ iI s 75) ∧ iI t 75 = iI s 75 ∧ rng v) → (iI t 75 - iI t 77 : Int).toNat < n → (∀ (t' : PS) (v' : Int), Bd t' → Fm [77, 79, 80, 78] [] s t' → FDB B N t' → (PFv (VLm (NMr s) (Int32.ofInt v')) B N 1 s t') → (iI t' 78 = iI s 78 ∧ iI s 77 ≤ iI t' 77 ∧ (iI t' 77 = iI s 77 ∨ iI t' 77 ≤ 202) ∧ (iI s 79 ≠ 0 → iI t' 79 ≠ 0) ∧ (iI t' 79 = 0 → iI t' 77 ≤ iI s 75) ∧ iI t' 75 = iI s 75 ∧ rng v') → WS k 97 [(0, .ref (A 179)), (1, .int (Int32.ofInt v'))] [] (Wd A dT t') 0 0) → WS k 9 [(0, .ref (A 179)), (1, .int (Int32.ofInt v))] [] (Wd A dT t) 0 0 := by
    intro n
    induction n with
    | zero =>
      intro t v I F jjFDB hq hi hm kx
      exact absurd hm (Nat.not_lt_zero _)
    | succ n ih =>
      intro t v I F jjFDB hq hi hm kx
      have b1001 := bi_77 I
      have b1002 := bi_75 I
      have b1003 := bi_79 I
      have b1004 := bi_78 I
      have hN := jjFDB.2.1
      have hW := jjFDB.2.2
      refine z_aload_n X (x := A 179) rfl (List.Mem.head _) (z_getI X 179 rfl (c518_ok rfl) rfl rfl ?_)
      have b1005 := bi_79 I
      refine z_if_ne X (t := 97) rfl rfl (rng_to _) (fun g1006 => ?_) (fun g1006 => ?_)
      ·
        refine WS_pq [0, 1] (lv' := [(0, .ref (A 179)), (1, .int (Int32.ofInt v))]) rfl ?_
        exact kx _ v I F jjFDB (by first | exact prm_fav (prm_mvv hq.2 (by rw [show iI t 77 = iI t 77 by first | exact rfl | (clear g1006 p2; omega) | (clear p2; omega) | omega]) (by first | exact rfl | (clear g1006 p2; omega) | (clear p2; omega) | omega)) (by first | exact g1006 | (clear g1006 p2; omega) | (clear p2; omega) | omega) | exact prmp_endv (prm_mvv hq.2 (by rw [show iI t 77 = iI t 77 by first | (clear g1006 p2; omega) | (clear p2; omega) | omega]) (by first | (clear g1006 p2; omega) | (clear p2; omega) | omega)) (by first | (clear g1006 p2; omega) | (clear p2; omega) | omega) (by rw [show iI t 77 = iI t 77 by first | (clear g1006 p2; omega) | (clear p2; omega) | omega, hq.1]; omega)) (by first | exact ⟨hi.1, hi.2.1, hi.2.2.1, hi.2.2.2.1, hi.2.2.2.2.1, hi.2.2.2.2.2.1, hi.2.2.2.2.2.2.1, hi.2.2.2.2.2.2.2⟩ | omega)
      ·
        as_aux_lemma =>
         refine z_aload_n X (x := A 179) rfl (List.Mem.head _) (z_aload_n X (x := A 179) rfl (List.Mem.head _) (z_getI X 179 rfl (c518_ok rfl) rfl rfl ?_))
         have b1007 := bi_77 I
         refine z_callV X 179 (rm := rmN 192) (As := [.int (Int32.ofInt (iI t 77))]) (st := []) rfl rfl (by decide) rfl (by rw [E.1, E.2.1, E.2.2.1]; exact k_byteAt2 G I jjFDB (by first | exact ⟨b1007.1, oq_5a8480eb b1007.2⟩ | omega)) ⟨by rw [E.2.2.2]; exact (show 6 + 1 ≤ (12 + (3 * (r) + 1)) from oq_c5ba317c r), by rw [E.2.2.2]; exact (show 8 + (2 + 11) + 100 ≤ (500 + 45 * (3 * (r) + 1)) from oq_93533a98 r), by rw [E.2.2.2]; exact Nat.le_refl 0, by rw [E.2.2.2]; exact Nat.le_refl 0⟩ (Nat.le_of_ble_eq_true rfl) (fun vv s1008 hq => ?_) (fun ee s1008 hq => ?_)
         rotate_left
         · obtain ⟨rfl, e1009, hv, hrs1008, hps1008⟩ := hq; cases hv
         obtain ⟨rfl, e1009, hv, hrs1008, hps1008⟩ := hq
         cases hv
         show WS k 24 [(0, .ref (A 179)), (1, .int (Int32.ofInt v))] [.int (Int32.ofInt e1009)] (Wd A dT t) 0 0
         refine z_bipush X rfl (z_icmp_eq X (t := 42) rfl rfl hrs1008 (by decide) (fun g1010 => ?_) (fun g1010 => ?_))
         ·
           have hcd : chT B N (sk B N (iI t 77)) 42 ∨ chT B N (sk B N (iI t 77)) 47 := by rw [hq.1]; first | exact Or.inl ⟨by first | exact oq_edb91460 g1010 hps1008 | (clear hps1008 p2; omega) | (clear p2; omega) | omega, by first | exact oq_8d3d81fb g1010 hps1008 | (clear hps1008 p2; omega) | (clear p2; omega) | omega⟩ | exact Or.inr ⟨by first | (clear hps1008 p2; omega) | (clear p2; omega) | omega, by first | (clear hps1008 p2; omega) | (clear p2; omega) | omega⟩
           refine z_aload_n X (x := A 179) rfl (List.Mem.head _) (z_aload_n X (x := A 179) rfl (List.Mem.head _) (z_getI X 179 rfl (c518_ok rfl) rfl rfl ?_))
           have b1011 := bi_77 I
           refine z_callV X 179 (rm := rmN 192) (As := [.int (Int32.ofInt (iI t 77))]) (st := []) rfl rfl (by decide) rfl (by rw [E.1, E.2.1, E.2.2.1]; exact k_byteAt2 G I jjFDB (by first | exact ⟨b1011.1, oq_5a8480eb b1011.2⟩ | omega)) ⟨by rw [E.2.2.2]; exact (show 6 + 1 ≤ (12 + (3 * (r) + 1)) from oq_c5ba317c r), by rw [E.2.2.2]; exact (show 8 + (2 + 11) + 100 ≤ (500 + 45 * (3 * (r) + 1)) from oq_93533a98 r), by rw [E.2.2.2]; exact Nat.le_refl 0, by rw [E.2.2.2]; exact Nat.le_refl 0⟩ (Nat.le_of_ble_eq_true rfl) (fun vv s1012 hq => ?_) (fun ee s1012 hq => ?_)
           rotate_left
           · obtain ⟨rfl, e1013, hv, hrs1012, hps1012⟩ := hq; cases hv
           obtain ⟨rfl, e1013, hv, hrs1012, hps1012⟩ := hq
           cases hv
           show WS k 50 [(0, .ref (A 179)), (1, .int (Int32.ofInt v))] [.int (Int32.ofInt e1013)] (Wd A dT t) 0 0
           have hb2 := hps1012
           refine z_store_n X (lv' := [(2, .int (Int32.ofInt e1013)), (0, .ref (A 179)), (1, .int (Int32.ofInt v))]) rfl (by decide) (fun _ h => h) (z_aload_n X (x := A 179) rfl (List.Mem.tail _ (List.Mem.head _)) (w_dup X.1 (ax_d X (show cdA 208 52 = some (.dup, 1, 0, 0, 0) from rfl)) rfl (z_getI X 179 rfl (c518_ok rfl) rfl rfl ?_)))
           have b1014 := bi_77 I
           refine z_const X rfl (z_add X rfl (s_putI X 179 rfl (c518_ok rfl) rfl rfl (by decide) rfl rfl rfl (wd_gen (fun s1015 hs1015 => ?_))))
           have Is1015 : Bd s1015 := eqB hs1015 (bd_I I (show (0 : Int) ≤ ((iI t 77) + 1) ∧ ((iI t 77) + 1) ≤ 400 by first | exact ⟨oq_54f49eb5 b1014.1, oq_886c3d04 hi.2.2.1 p0⟩ | omega) ⟨by first | exact oq_74de1e16 b1014.1 | omega, by first | exact oq_964ce197 b1014.2 | omega⟩)
           have Fs1015 := eqF hs1015 (fm_I F (inl_ok (a := 77) rfl))
           have vs1015 : iI s1015 77 = ((iI t 77) + 1) := eqI hs1015 (iI_u ⟨by first | exact oq_74de1e16 b1014.1 | omega, by first | exact oq_964ce197 b1014.2 | omega⟩)
           have ws1015_75 : iI s1015 75 = iI t 75 := eqI hs1015 rfl
           have ws1015_79 : iI s1015 79 = iI t 79 := eqI hs1015 rfl
           have ws1015_78 : iI s1015 78 = iI t 78 := eqI hs1015 rfl
           have fs1015 : Fm [77] [] t s1015 := by rw [hs1015]; exact fm_I (fm_rf _ _ _) (show 77 ∈ _ by decide)
           have JFDB_s1015 : FDB B N s1015 := FDB_fm fs1015 (by decide) jjFDB
           refine z_aload_n X (x := A 179) rfl (List.Mem.tail _ (List.Mem.head _)) (z_callV X 179 (rm := (rkR (3 * (r)))) (As := []) (st := []) rfl rfl (by decide) rfl (by rw [E.1, E.2.1, E.2.2.1]; exact hU Is1015 JFDB_s1015 (by first | exact oq_b74d6776 vs1015 g1006 hi.2.2.2.2.1 b2.2 | omega) (by first | exact oq_2b041bab ws1015_78 p1 hi.1 | omega) (by first | exact oq_097bc645 ws1015_78 g1006 hi.2.2.2.1 hi.1 b3.1 p2 | omega)) ⟨by rw [E.2.2.2]; exact (show (12 + (3 * (r))) + 1 ≤ (12 + (3 * (r) + 1)) from oq_5e3fa304 r), by rw [E.2.2.2]; exact (show 8 + (7 + 11) + (500 + 45 * (3 * (r))) ≤ (500 + 45 * (3 * (r) + 1)) from oq_ea5e6b1c r), by rw [E.2.2.2]; exact Nat.le_refl 0, by rw [E.2.2.2]; exact Nat.le_refl 0⟩ (Nat.le_of_ble_eq_true rfl) (fun vv s1016 hq => ?_) (fun ee s1016 hq => ?_))
           rotate_left
           · obtain ⟨Is1016, Fs1016, JFDB_s1016, e1017, hv, hrs1016, hps1016⟩ := hq; cases hv
           obtain ⟨Is1016, Fs1016, JFDB_s1016, e1017, hv, hrs1016, hps1016⟩ := hq
           have hps1016p := And.intro hps1016.1 (And.intro hps1016.2.1 (hps1016.2.2.2.2.2))
           cases hv
           have Gs1016 := fm_tq Fs1015 Fs1016 rfl rfl
           have JFDB_s1016 : FDB B N s1016 := FDB_fm Fs1016 (by decide) JFDB_s1015
           have b1018 := bi_77 Is1016
           have ws1016_75 : iI s1016 75 = iI s1015 75 := fm_iq Fs1016 rfl
           have b1019 := bi_79 Is1016
           have b1020 := bi_78 Is1016
           show WS k 65 [(2, .int (Int32.ofInt e1013)), (0, .ref (A 179)), (1, .int (Int32.ofInt v))] [.int (Int32.ofInt e1017)] (Wd A dT s1016) 0 0
           refine z_store_n X (lv' := [(3, .int (Int32.ofInt e1017)), (2, .int (Int32.ofInt e1013)), (0, .ref (A 179)), (1, .int (Int32.ofInt v))]) rfl (by decide) (fun _ h => h) (z_load_n X (x := e1013) rfl (List.Mem.tail _ (List.Mem.head _)) (z_bipush X rfl (z_icmp_ne X (t := 78) rfl rfl hrs1012 (by decide) (fun g1021 => ?_) (fun g1021 => ?_))))
           ·
             as_aux_lemma =>
              refine z_load_n X (x := e1017) rfl (List.Mem.head _) (z_if_ne X (t := 86) rfl rfl hrs1016 (fun g1022 => ?_) (fun g1022 => ?_))
              ·
                refine z_load_n X (x := v) rfl (List.Mem.tail _ (List.Mem.tail _ (List.Mem.tail _ (List.Mem.head _)))) (z_load_n X (x := e1017) rfl (List.Mem.head _) (z_divE X rfl (by first | exact g1022 | (clear g1022 g1021 hps1016 hps1012 hps1008 p2; omega) | (clear g1021 hps1016 hps1012 hps1008 p2; omega) | omega) ⟨by first | exact hrs1016.1 | (clear g1022 g1021 hps1016 hps1012 hps1008 p2; omega) | (clear g1021 hps1016 hps1012 hps1008 p2; omega) | omega, by first | exact hrs1016.2 | (clear g1022 g1021 hps1016 hps1012 hps1008 p2; omega) | (clear g1021 hps1016 hps1012 hps1008 p2; omega) | omega⟩ (fun y1023 hy1023 ey1023 => ?_)))
                refine z_store_n X (lv' := [(1, .int (Int32.ofInt y1023)), (3, .int (Int32.ofInt e1017)), (2, .int (Int32.ofInt e1013)), (0, .ref (A 179))]) rfl (by decide) (fun _ h => h) (z_aload_n X (x := A 179) rfl (List.Mem.tail _ (List.Mem.tail _ (List.Mem.tail _ (List.Mem.head _)))) (z_callV X 179 (rm := rmN 193) (As := []) (st := []) rfl rfl (by decide) rfl (by rw [E.1, E.2.1, E.2.2.1]; exact k_blanks2 G Is1016 JFDB_s1016 (by first | exact oq_a8509ff0 g1021 hps1012 g1010 hps1008 | omega)) ⟨by rw [E.2.2.2]; exact (show 7 + 1 ≤ (12 + (3 * (r) + 1)) from oq_4609964d r), by rw [E.2.2.2]; exact (show 8 + (1 + 11) + 121 ≤ (500 + 45 * (3 * (r) + 1)) from oq_12dd44ff r), by rw [E.2.2.2]; exact Nat.le_refl 0, by rw [E.2.2.2]; exact Nat.le_refl 0⟩ (Nat.le_of_ble_eq_true rfl) (fun vv s1024 hq => ?_) (fun ee s1024 hq => ?_)))
                rotate_left
                · obtain ⟨Is1024, Fs1024, JFDB_s1024, hv, hps1024⟩ := hq; cases hv
                obtain ⟨Is1024, Fs1024, JFDB_s1024, hv, hps1024⟩ := hq
                have hps1024p := And.intro hps1024.1 (hps1024.2.1)
                cases hv
                have Gs1024 := fm_tq Gs1016 Fs1024 rfl rfl
                have JFDB_s1024 : FDB B N s1024 := FDB_fm Fs1024 (by decide) JFDB_s1016
                have b1026 := bi_77 Is1024
                have ws1024_75 : iI s1024 75 = iI s1016 75 := fm_iq Fs1024 rfl
                have ws1024_79 : iI s1024 79 = iI s1016 79 := fm_iq Fs1024 rfl
                have ws1024_78 : iI s1024 78 = iI s1016 78 := fm_iq Fs1024 rfl
                show WS k 94 [(1, .int (Int32.ofInt y1023)), (3, .int (Int32.ofInt e1017)), (2, .int (Int32.ofInt e1013)), (0, .ref (A 179))] [] (Wd A dT s1024) 0 0
                refine z_goto X (t := 9) rfl rfl (WS_pq [3, 0] (lv' := [(0, .ref (A 179)), (1, .int (Int32.ofInt y1023))]) rfl ?_)
                exact ih _ y1023 Is1024 Gs1024 JFDB_s1024 ⟨by rw [hps1024.1]; exact sk_sk, prm_mvv (prmp_upv hq.2 (by first | exact g1006 | (clear hps1024 g1022 g1021 hps1016 hps1012 hps1008 p2; omega) | (clear g1022 g1021 hps1016 hps1012 hps1008 p2; omega) | omega) hcd (by rw [show iI s1015 77 = iI t 77 + 1 by first | exact vs1015 | (clear hps1024 g1022 g1021 hps1016 hps1012 hps1008 p2; omega) | (clear g1022 g1021 hps1016 hps1012 hps1008 p2; omega) | omega, hq.1]) (by first | exact oq_e5e5d3d6 ws1015_79 g1006 | (clear hps1024 g1022 g1021 hps1016 hps1012 hps1008 p2; omega) | (clear g1022 g1021 hps1016 hps1012 hps1008 p2; omega) | omega) (by first | exact oq_1aa5be9e ws1015_78 hi.1 | (clear hps1024 g1022 g1021 hps1016 hps1012 hps1008 p2; omega) | (clear g1022 g1021 hps1016 hps1012 hps1008 p2; omega) | omega) (pfv_c hps1016.2.2.2.2.2 (nmr_fm Fs1015 (by decide))) (fun a c ha hc => vl_up ha hc (opc_47 (by rw [hq.1]; omega)) (by decide) (jn_div hrs1016 (Or.inr ⟨by first | exact g1022 | (clear hps1024 g1022 g1021 hps1016 hps1012 hps1008 p2; omega) | (clear g1022 g1021 hps1016 hps1012 hps1008 p2; omega) | omega, ey1023⟩)))) (by rw [hps1024.1]; exact sk_sk) (by first | exact ws1024_79 | (clear hps1024 g1022 g1021 hps1016 hps1012 hps1008 p2; omega) | (clear g1022 g1021 hps1016 hps1012 hps1008 p2; omega) | omega)⟩ (by first | exact ⟨oq_45b593e3 ws1024_78 hi.1 hps1016.1 ws1015_78, oq_93076f9e hps1024.2.1 hps1016.2.1 vs1015 hi.2.1, oq_8aa9e37b g1021 hps1012 g1010 hps1008, oq_fa23e6f1 g1021 hps1012 g1010 hps1008, oq_681f6ab4 g1021 hps1012 g1010 hps1008, oq_45b593e3 ws1024_75 hi.2.2.2.2.2.1 ws1016_75 ws1015_75, hy1023.1, hy1023.2⟩ | omega) (by first | exact qk_me hm (oq_aae77179 ws1024_75 hps1024.2.1 ws1016_75 hps1016.2.1 ws1015_75 vs1015) (oq_eacc1e78 g1021 hps1012 g1010 hps1008) | omega) kx
              ·
                as_aux_lemma =>
                 refine z_const X rfl (z_goto X (t := 89) rfl rfl (z_store_n X (lv' := [(1, .int (Int32.ofInt 0)), (3, .int (Int32.ofInt e1017)), (2, .int (Int32.ofInt e1013)), (0, .ref (A 179))]) rfl (by decide) (fun _ h => h) (z_aload_n X (x := A 179) rfl (List.Mem.tail _ (List.Mem.tail _ (List.Mem.tail _ (List.Mem.head _)))) (z_callV X 179 (rm := rmN 193) (As := []) (st := []) rfl rfl (by decide) rfl (by rw [E.1, E.2.1, E.2.2.1]; exact k_blanks2 G Is1016 JFDB_s1016 (by first | exact oq_a8509ff0 g1021 hps1012 g1010 hps1008 | omega)) ⟨by rw [E.2.2.2]; exact (show 7 + 1 ≤ (12 + (3 * (r) + 1)) from oq_4609964d r), by rw [E.2.2.2]; exact (show 8 + (1 + 11) + 121 ≤ (500 + 45 * (3 * (r) + 1)) from oq_12dd44ff r), by rw [E.2.2.2]; exact Nat.le_refl 0, by rw [E.2.2.2]; exact Nat.le_refl 0⟩ (Nat.le_of_ble_eq_true rfl) (fun vv s1027 hq => ?_) (fun ee s1027 hq => ?_)))))
                 rotate_left
                 · obtain ⟨Is1027, Fs1027, JFDB_s1027, hv, hps1027⟩ := hq; cases hv
                 obtain ⟨Is1027, Fs1027, JFDB_s1027, hv, hps1027⟩ := hq
                 have hps1027p := And.intro hps1027.1 (hps1027.2.1)
                 cases hv
                 have Gs1027 := fm_tq Gs1016 Fs1027 rfl rfl
                 have JFDB_s1027 : FDB B N s1027 := FDB_fm Fs1027 (by decide) JFDB_s1016
                 have b1029 := bi_77 Is1027
                 have ws1027_75 : iI s1027 75 = iI s1016 75 := fm_iq Fs1027 rfl
                 have ws1027_79 : iI s1027 79 = iI s1016 79 := fm_iq Fs1027 rfl
                 have ws1027_78 : iI s1027 78 = iI s1016 78 := fm_iq Fs1027 rfl
                 show WS k 94 [(1, .int (Int32.ofInt 0)), (3, .int (Int32.ofInt e1017)), (2, .int (Int32.ofInt e1013)), (0, .ref (A 179))] [] (Wd A dT s1027) 0 0
                 refine z_goto X (t := 9) rfl rfl (WS_pq [3, 0] (lv' := [(0, .ref (A 179)), (1, .int (Int32.ofInt 0))]) rfl ?_)
                 exact ih _ 0 Is1027 Gs1027 JFDB_s1027 ⟨by rw [hps1027.1]; exact sk_sk, prm_mvv (prmp_upv hq.2 (by first | exact g1006 | (clear hps1027 g1021 hps1016 hps1012 hps1008 p2; omega) | (clear g1021 hps1016 hps1012 hps1008 p2; omega) | omega) hcd (by rw [show iI s1015 77 = iI t 77 + 1 by first | exact vs1015 | (clear hps1027 g1021 hps1016 hps1012 hps1008 p2; omega) | (clear g1021 hps1016 hps1012 hps1008 p2; omega) | omega, hq.1]) (by first | exact oq_e5e5d3d6 ws1015_79 g1006 | (clear hps1027 g1021 hps1016 hps1012 hps1008 p2; omega) | (clear g1021 hps1016 hps1012 hps1008 p2; omega) | omega) (by first | exact oq_1aa5be9e ws1015_78 hi.1 | (clear hps1027 g1021 hps1016 hps1012 hps1008 p2; omega) | (clear g1021 hps1016 hps1012 hps1008 p2; omega) | omega) (pfv_c hps1016.2.2.2.2.2 (nmr_fm Fs1015 (by decide))) (fun a c ha hc => vl_up ha hc (opc_47 (by rw [hq.1]; omega)) (by decide) (jn_div hrs1016 (Or.inl ⟨by first | exact g1022 | (clear hps1027 g1021 hps1016 hps1012 hps1008 p2; omega) | (clear g1021 hps1016 hps1012 hps1008 p2; omega) | omega, rfl⟩)))) (by rw [hps1027.1]; exact sk_sk) (by first | exact ws1027_79 | (clear hps1027 g1021 hps1016 hps1012 hps1008 p2; omega) | (clear g1021 hps1016 hps1012 hps1008 p2; omega) | omega)⟩ (by first | exact ⟨oq_45b593e3 ws1027_78 hi.1 hps1016.1 ws1015_78, oq_93076f9e hps1027.2.1 hps1016.2.1 vs1015 hi.2.1, oq_8aa9e37b g1021 hps1012 g1010 hps1008, oq_fa23e6f1 g1021 hps1012 g1010 hps1008, oq_681f6ab4 g1021 hps1012 g1010 hps1008, oq_45b593e3 ws1027_75 hi.2.2.2.2.2.1 ws1016_75 ws1015_75, by decide, by decide⟩ | omega) (by first | exact qk_me hm (oq_aae77179 ws1027_75 hps1027.2.1 ws1016_75 hps1016.2.1 ws1015_75 vs1015) (oq_eacc1e78 g1021 hps1012 g1010 hps1008) | omega) kx
           ·
             as_aux_lemma =>
              refine z_load_n X (x := v) rfl (List.Mem.tail _ (List.Mem.tail _ (List.Mem.tail _ (List.Mem.head _)))) (z_load_n X (x := e1017) rfl (List.Mem.head _) (z_mul X rfl (z_anyV (fun y1030 hy1030 ey1030 => ?_))))
              refine z_goto X (t := 89) rfl rfl (z_store_n X (lv' := [(1, .int (Int32.ofInt y1030)), (3, .int (Int32.ofInt e1017)), (2, .int (Int32.ofInt e1013)), (0, .ref (A 179))]) rfl (by decide) (fun _ h => h) (z_aload_n X (x := A 179) rfl (List.Mem.tail _ (List.Mem.tail _ (List.Mem.tail _ (List.Mem.head _)))) (z_callV X 179 (rm := rmN 193) (As := []) (st := []) rfl rfl (by decide) rfl (by rw [E.1, E.2.1, E.2.2.1]; exact k_blanks2 G Is1016 JFDB_s1016 (by first | exact oq_d255e8ca hps1016.2.2.1 vs1015 hi.2.2.1 p0 | omega)) ⟨by rw [E.2.2.2]; exact (show 7 + 1 ≤ (12 + (3 * (r) + 1)) from oq_4609964d r), by rw [E.2.2.2]; exact (show 8 + (1 + 11) + 121 ≤ (500 + 45 * (3 * (r) + 1)) from oq_12dd44ff r), by rw [E.2.2.2]; exact Nat.le_refl 0, by rw [E.2.2.2]; exact Nat.le_refl 0⟩ (Nat.le_of_ble_eq_true rfl) (fun vv s1031 hq => ?_) (fun ee s1031 hq => ?_))))
              rotate_left
              · obtain ⟨Is1031, Fs1031, JFDB_s1031, hv, hps1031⟩ := hq; cases hv
              obtain ⟨Is1031, Fs1031, JFDB_s1031, hv, hps1031⟩ := hq
              have hps1031p := And.intro hps1031.1 (hps1031.2.1)
              cases hv
              have Gs1031 := fm_tq Gs1016 Fs1031 rfl rfl
              have JFDB_s1031 : FDB B N s1031 := FDB_fm Fs1031 (by decide) JFDB_s1016
              have b1033 := bi_77 Is1031
              have ws1031_75 : iI s1031 75 = iI s1016 75 := fm_iq Fs1031 rfl
              have ws1031_79 : iI s1031 79 = iI s1016 79 := fm_iq Fs1031 rfl
              have ws1031_78 : iI s1031 78 = iI s1016 78 := fm_iq Fs1031 rfl
              show WS k 94 [(1, .int (Int32.ofInt y1030)), (3, .int (Int32.ofInt e1017)), (2, .int (Int32.ofInt e1013)), (0, .ref (A 179))] [] (Wd A dT s1031) 0 0
              refine z_goto X (t := 9) rfl rfl (WS_pq [3, 0] (lv' := [(0, .ref (A 179)), (1, .int (Int32.ofInt y1030))]) rfl ?_)
              exact ih _ y1030 Is1031 Gs1031 JFDB_s1031 ⟨by rw [hps1031.1]; exact sk_sk, prm_mvv (prmp_upv hq.2 (by first | exact g1006 | (clear hps1031 hps1016 hps1012 hps1008 p2; omega) | (clear hps1016 hps1012 hps1008 p2; omega) | omega) hcd (by rw [show iI s1015 77 = iI t 77 + 1 by first | exact vs1015 | (clear hps1031 hps1016 hps1012 hps1008 p2; omega) | (clear hps1016 hps1012 hps1008 p2; omega) | omega, hq.1]) (by first | exact oq_e5e5d3d6 ws1015_79 g1006 | (clear hps1031 hps1016 hps1012 hps1008 p2; omega) | (clear hps1016 hps1012 hps1008 p2; omega) | omega) (by first | exact oq_1aa5be9e ws1015_78 hi.1 | (clear hps1031 hps1016 hps1012 hps1008 p2; omega) | (clear hps1016 hps1012 hps1008 p2; omega) | omega) (pfv_c hps1016.2.2.2.2.2 (nmr_fm Fs1015 (by decide))) (fun a c ha hc => vl_up ha hc (opc_42 (by rw [hq.1]; omega)) (by decide) (jn_mul ey1030))) (by rw [hps1031.1]; exact sk_sk) (by first | exact ws1031_79 | (clear hps1031 hps1016 hps1012 hps1008 p2; omega) | (clear hps1016 hps1012 hps1008 p2; omega) | omega)⟩ (by first | exact ⟨oq_45b593e3 ws1031_78 hi.1 hps1016.1 ws1015_78, oq_93076f9e hps1031.2.1 hps1016.2.1 vs1015 hi.2.1, by first | exact Or.inr (oq_c5dd0f76 hps1031.2.2 hps1016.2.2.1 vs1015 g1010 hps1008 hN b1002.2) | (clear hps1031 hps1016 hps1012 hps1008 p2; omega) | (clear hps1016 hps1012 hps1008 p2; omega) | omega, oq_67b737cd g1006 hi.2.2.2.1 b3.1, by first | exact oq_2b9bddb8 ws1031_79 hps1031.2.2 b1019.1 hps1016.2.2.2.2.1 ws1015_75 hN hi.2.2.2.2.2.1 | (clear hps1031 hps1016 hps1012 hps1008 p2; omega) | (clear hps1016 hps1012 hps1008 p2; omega) | omega, oq_45b593e3 ws1031_75 hi.2.2.2.2.2.1 ws1016_75 ws1015_75, hy1030.1, hy1030.2⟩ | omega) (by first | exact oq_c85b1a68 ws1031_75 hps1031p.2 ws1016_75 hps1016p.2.1 ws1015_75 vs1015 g1010 hps1008 hN hm | (clear hps1031 hps1016 hps1012 hps1008 p2; omega) | (clear hps1016 hps1012 hps1008 p2; omega) | omega) kx
         ·
           as_aux_lemma =>
            refine z_aload_n X (x := A 179) rfl (List.Mem.head _) (z_aload_n X (x := A 179) rfl (List.Mem.head _) (z_getI X 179 rfl (c518_ok rfl) rfl rfl ?_))
            have b1034 := bi_77 I
            refine z_callV X 179 (rm := rmN 192) (As := [.int (Int32.ofInt (iI t 77))]) (st := []) rfl rfl (by decide) rfl (by rw [E.1, E.2.1, E.2.2.1]; exact k_byteAt2 G I jjFDB (by first | exact ⟨b1034.1, oq_5a8480eb b1034.2⟩ | omega)) ⟨by rw [E.2.2.2]; exact (show 6 + 1 ≤ (12 + (3 * (r) + 1)) from oq_c5ba317c r), by rw [E.2.2.2]; exact (show 8 + (2 + 11) + 100 ≤ (500 + 45 * (3 * (r) + 1)) from oq_93533a98 r), by rw [E.2.2.2]; exact Nat.le_refl 0, by rw [E.2.2.2]; exact Nat.le_refl 0⟩ (Nat.le_of_ble_eq_true rfl) (fun vv s1035 hq => ?_) (fun ee s1035 hq => ?_)
            rotate_left
            · obtain ⟨rfl, e1036, hv, hrs1035, hps1035⟩ := hq; cases hv
            obtain ⟨rfl, e1036, hv, hrs1035, hps1035⟩ := hq
            cases hv
            show WS k 37 [(0, .ref (A 179)), (1, .int (Int32.ofInt v))] [.int (Int32.ofInt e1036)] (Wd A dT t) 0 0
            refine z_bipush X rfl (z_icmp_ne X (t := 97) rfl rfl hrs1035 (by decide) (fun g1037 => ?_) (fun g1037 => ?_))
            ·
              refine WS_pq [0, 1] (lv' := [(0, .ref (A 179)), (1, .int (Int32.ofInt v))]) rfl ?_
              exact kx _ v I F jjFDB (by first | exact prm_fav (prm_mvv hq.2 (by rw [show iI t 77 = iI t 77 by first | exact rfl | (clear g1037 hps1035 g1010 hps1008 p2; omega) | (clear hps1035 g1010 hps1008 p2; omega) | omega]) (by first | exact rfl | (clear g1037 hps1035 g1010 hps1008 p2; omega) | (clear hps1035 g1010 hps1008 p2; omega) | omega)) (by fail) | exact prmp_endv (prm_mvv hq.2 (by rw [show iI t 77 = iI t 77 by first | exact rfl | (clear g1037 hps1035 g1010 hps1008 p2; omega) | (clear hps1035 g1010 hps1008 p2; omega) | omega]) (by first | exact rfl | (clear g1037 hps1035 g1010 hps1008 p2; omega) | (clear hps1035 g1010 hps1008 p2; omega) | omega)) (by first | exact g1006 | (clear g1037 hps1035 g1010 hps1008 p2; omega) | (clear hps1035 g1010 hps1008 p2; omega) | omega) (by rw [show iI t 77 = iI t 77 by first | exact rfl | (clear g1037 hps1035 g1010 hps1008 p2; omega) | (clear hps1035 g1010 hps1008 p2; omega) | omega, hq.1]; omega)) (by first | exact ⟨hi.1, hi.2.1, hi.2.2.1, hi.2.2.2.1, hi.2.2.2.2.1, hi.2.2.2.2.2.1, hi.2.2.2.2.2.2.1, hi.2.2.2.2.2.2.2⟩ | omega)
            ·
              have hcd : chT B N (sk B N (iI t 77)) 42 ∨ chT B N (sk B N (iI t 77)) 47 := by rw [hq.1]; first | exact Or.inl ⟨by first | exact oq_2e2b9c0a g1037 hps1035 | (clear hps1035 g1010 hps1008 p2; omega) | (clear g1010 hps1008 p2; omega) | omega, by fail⟩ | exact Or.inr ⟨by first | exact oq_2e2b9c0a g1037 hps1035 | (clear hps1035 g1010 hps1008 p2; omega) | (clear g1010 hps1008 p2; omega) | omega, by first | exact oq_41b4bb4a g1037 hps1035 | (clear hps1035 g1010 hps1008 p2; omega) | (clear g1010 hps1008 p2; omega) | omega⟩
              refine z_aload_n X (x := A 179) rfl (List.Mem.head _) (z_aload_n X (x := A 179) rfl (List.Mem.head _) (z_getI X 179 rfl (c518_ok rfl) rfl rfl ?_))
              have b1038 := bi_77 I
              refine z_callV X 179 (rm := rmN 192) (As := [.int (Int32.ofInt (iI t 77))]) (st := []) rfl rfl (by decide) rfl (by rw [E.1, E.2.1, E.2.2.1]; exact k_byteAt2 G I jjFDB (by first | exact ⟨b1038.1, oq_5a8480eb b1038.2⟩ | omega)) ⟨by rw [E.2.2.2]; exact (show 6 + 1 ≤ (12 + (3 * (r) + 1)) from oq_c5ba317c r), by rw [E.2.2.2]; exact (show 8 + (2 + 11) + 100 ≤ (500 + 45 * (3 * (r) + 1)) from oq_93533a98 r), by rw [E.2.2.2]; exact Nat.le_refl 0, by rw [E.2.2.2]; exact Nat.le_refl 0⟩ (Nat.le_of_ble_eq_true rfl) (fun vv s1039 hq => ?_) (fun ee s1039 hq => ?_)
              rotate_left
              · obtain ⟨rfl, e1040, hv, hrs1039, hps1039⟩ := hq; cases hv
              obtain ⟨rfl, e1040, hv, hrs1039, hps1039⟩ := hq
              cases hv
              show WS k 50 [(0, .ref (A 179)), (1, .int (Int32.ofInt v))] [.int (Int32.ofInt e1040)] (Wd A dT t) 0 0
              have hb2 := hps1039
              refine z_store_n X (lv' := [(2, .int (Int32.ofInt e1040)), (0, .ref (A 179)), (1, .int (Int32.ofInt v))]) rfl (by decide) (fun _ h => h) (z_aload_n X (x := A 179) rfl (List.Mem.tail _ (List.Mem.head _)) (w_dup X.1 (ax_d X (show cdA 208 52 = some (.dup, 1, 0, 0, 0) from rfl)) rfl (z_getI X 179 rfl (c518_ok rfl) rfl rfl ?_)))
              have b1041 := bi_77 I
              refine z_const X rfl (z_add X rfl (s_putI X 179 rfl (c518_ok rfl) rfl rfl (by decide) rfl rfl rfl (wd_gen (fun s1042 hs1042 => ?_))))
              have Is1042 : Bd s1042 := eqB hs1042 (bd_I I (show (0 : Int) ≤ ((iI t 77) + 1) ∧ ((iI t 77) + 1) ≤ 400 by first | exact ⟨oq_54f49eb5 b1041.1, oq_886c3d04 hi.2.2.1 p0⟩ | omega) ⟨by first | exact oq_74de1e16 b1041.1 | omega, by first | exact oq_964ce197 b1041.2 | omega⟩)
              have Fs1042 := eqF hs1042 (fm_I F (inl_ok (a := 77) rfl))
              have vs1042 : iI s1042 77 = ((iI t 77) + 1) := eqI hs1042 (iI_u ⟨by first | exact oq_74de1e16 b1041.1 | omega, by first | exact oq_964ce197 b1041.2 | omega⟩)
              have ws1042_75 : iI s1042 75 = iI t 75 := eqI hs1042 rfl
              have ws1042_79 : iI s1042 79 = iI t 79 := eqI hs1042 rfl
              have ws1042_78 : iI s1042 78 = iI t 78 := eqI hs1042 rfl
              have fs1042 : Fm [77] [] t s1042 := by rw [hs1042]; exact fm_I (fm_rf _ _ _) (show 77 ∈ _ by decide)
              have JFDB_s1042 : FDB B N s1042 := FDB_fm fs1042 (by decide) jjFDB
              refine z_aload_n X (x := A 179) rfl (List.Mem.tail _ (List.Mem.head _)) (z_callV X 179 (rm := (rkR (3 * (r)))) (As := []) (st := []) rfl rfl (by decide) rfl (by rw [E.1, E.2.1, E.2.2.1]; exact hU Is1042 JFDB_s1042 (by first | exact oq_b74d6776 vs1042 g1006 hi.2.2.2.2.1 b2.2 | omega) (by first | exact oq_2b041bab ws1042_78 p1 hi.1 | omega) (by first | exact oq_097bc645 ws1042_78 g1006 hi.2.2.2.1 hi.1 b3.1 p2 | omega)) ⟨by rw [E.2.2.2]; exact (show (12 + (3 * (r))) + 1 ≤ (12 + (3 * (r) + 1)) from oq_5e3fa304 r), by rw [E.2.2.2]; exact (show 8 + (7 + 11) + (500 + 45 * (3 * (r))) ≤ (500 + 45 * (3 * (r) + 1)) from oq_ea5e6b1c r), by rw [E.2.2.2]; exact Nat.le_refl 0, by rw [E.2.2.2]; exact Nat.le_refl 0⟩ (Nat.le_of_ble_eq_true rfl) (fun vv s1043 hq => ?_) (fun ee s1043 hq => ?_))
              rotate_left
              · obtain ⟨Is1043, Fs1043, JFDB_s1043, e1044, hv, hrs1043, hps1043⟩ := hq; cases hv
              obtain ⟨Is1043, Fs1043, JFDB_s1043, e1044, hv, hrs1043, hps1043⟩ := hq
              have hps1043p := And.intro hps1043.1 (And.intro hps1043.2.1 (hps1043.2.2.2.2.2))
              cases hv
              have Gs1043 := fm_tq Fs1042 Fs1043 rfl rfl
              have JFDB_s1043 : FDB B N s1043 := FDB_fm Fs1043 (by decide) JFDB_s1042
              have b1045 := bi_77 Is1043
              have ws1043_75 : iI s1043 75 = iI s1042 75 := fm_iq Fs1043 rfl
              have b1046 := bi_79 Is1043
              have b1047 := bi_78 Is1043
              show WS k 65 [(2, .int (Int32.ofInt e1040)), (0, .ref (A 179)), (1, .int (Int32.ofInt v))] [.int (Int32.ofInt e1044)] (Wd A dT s1043) 0 0
              refine z_store_n X (lv' := [(3, .int (Int32.ofInt e1044)), (2, .int (Int32.ofInt e1040)), (0, .ref (A 179)), (1, .int (Int32.ofInt v))]) rfl (by decide) (fun _ h => h) (z_load_n X (x := e1040) rfl (List.Mem.tail _ (List.Mem.head _)) (z_bipush X rfl (z_icmp_ne X (t := 78) rfl rfl hrs1039 (by decide) (fun g1048 => ?_) (fun g1048 => ?_))))
              ·
                as_aux_lemma =>
                 refine z_load_n X (x := e1044) rfl (List.Mem.head _) (z_if_ne X (t := 86) rfl rfl hrs1043 (fun g1049 => ?_) (fun g1049 => ?_))
                 ·
                   refine z_load_n X (x := v) rfl (List.Mem.tail _ (List.Mem.tail _ (List.Mem.tail _ (List.Mem.head _)))) (z_load_n X (x := e1044) rfl (List.Mem.head _) (z_divE X rfl (by first | exact g1049 | (clear g1049 g1048 hps1043 hps1039 hps1035 g1010 hps1008 p2; omega) | (clear g1048 hps1043 hps1039 hps1035 g1010 hps1008 p2; omega) | omega) ⟨by first | exact hrs1043.1 | (clear g1049 g1048 hps1043 hps1039 hps1035 g1010 hps1008 p2; omega) | (clear g1048 hps1043 hps1039 hps1035 g1010 hps1008 p2; omega) | omega, by first | exact hrs1043.2 | (clear g1049 g1048 hps1043 hps1039 hps1035 g1010 hps1008 p2; omega) | (clear g1048 hps1043 hps1039 hps1035 g1010 hps1008 p2; omega) | omega⟩ (fun y1050 hy1050 ey1050 => ?_)))
                   refine z_store_n X (lv' := [(1, .int (Int32.ofInt y1050)), (3, .int (Int32.ofInt e1044)), (2, .int (Int32.ofInt e1040)), (0, .ref (A 179))]) rfl (by decide) (fun _ h => h) (z_aload_n X (x := A 179) rfl (List.Mem.tail _ (List.Mem.tail _ (List.Mem.tail _ (List.Mem.head _)))) (z_callV X 179 (rm := rmN 193) (As := []) (st := []) rfl rfl (by decide) rfl (by rw [E.1, E.2.1, E.2.2.1]; exact k_blanks2 G Is1043 JFDB_s1043 (by first | exact oq_d255e8ca hps1043.2.2.1 vs1042 hi.2.2.1 p0 | omega)) ⟨by rw [E.2.2.2]; exact (show 7 + 1 ≤ (12 + (3 * (r) + 1)) from oq_4609964d r), by rw [E.2.2.2]; exact (show 8 + (1 + 11) + 121 ≤ (500 + 45 * (3 * (r) + 1)) from oq_12dd44ff r), by rw [E.2.2.2]; exact Nat.le_refl 0, by rw [E.2.2.2]; exact Nat.le_refl 0⟩ (Nat.le_of_ble_eq_true rfl) (fun vv s1051 hq => ?_) (fun ee s1051 hq => ?_)))
                   rotate_left
                   · obtain ⟨Is1051, Fs1051, JFDB_s1051, hv, hps1051⟩ := hq; cases hv
                   obtain ⟨Is1051, Fs1051, JFDB_s1051, hv, hps1051⟩ := hq
                   have hps1051p := And.intro hps1051.1 (hps1051.2.1)
                   cases hv
                   have Gs1051 := fm_tq Gs1043 Fs1051 rfl rfl
                   have JFDB_s1051 : FDB B N s1051 := FDB_fm Fs1051 (by decide) JFDB_s1043
                   have b1053 := bi_77 Is1051
                   have ws1051_75 : iI s1051 75 = iI s1043 75 := fm_iq Fs1051 rfl
                   have ws1051_79 : iI s1051 79 = iI s1043 79 := fm_iq Fs1051 rfl
                   have ws1051_78 : iI s1051 78 = iI s1043 78 := fm_iq Fs1051 rfl
                   show WS k 94 [(1, .int (Int32.ofInt y1050)), (3, .int (Int32.ofInt e1044)), (2, .int (Int32.ofInt e1040)), (0, .ref (A 179))] [] (Wd A dT s1051) 0 0
                   refine z_goto X (t := 9) rfl rfl (WS_pq [3, 0] (lv' := [(0, .ref (A 179)), (1, .int (Int32.ofInt y1050))]) rfl ?_)
                   exact ih _ y1050 Is1051 Gs1051 JFDB_s1051 ⟨by rw [hps1051.1]; exact sk_sk, prm_mvv (prmp_upv hq.2 (by first | exact g1006 | (clear hps1051 g1049 g1048 hps1043 hps1039 hps1035 g1010 hps1008 p2; omega) | (clear g1049 g1048 hps1043 hps1039 hps1035 g1010 hps1008 p2; omega) | omega) hcd (by rw [show iI s1042 77 = iI t 77 + 1 by first | exact vs1042 | (clear hps1051 g1049 g1048 hps1043 hps1039 hps1035 g1010 hps1008 p2; omega) | (clear g1049 g1048 hps1043 hps1039 hps1035 g1010 hps1008 p2; omega) | omega, hq.1]) (by first | exact oq_e5e5d3d6 ws1042_79 g1006 | (clear hps1051 g1049 g1048 hps1043 hps1039 hps1035 g1010 hps1008 p2; omega) | (clear g1049 g1048 hps1043 hps1039 hps1035 g1010 hps1008 p2; omega) | omega) (by first | exact oq_1aa5be9e ws1042_78 hi.1 | (clear hps1051 g1049 g1048 hps1043 hps1039 hps1035 g1010 hps1008 p2; omega) | (clear g1049 g1048 hps1043 hps1039 hps1035 g1010 hps1008 p2; omega) | omega) (pfv_c hps1043.2.2.2.2.2 (nmr_fm Fs1042 (by decide))) (fun a c ha hc => vl_up ha hc (opc_47 (by rw [hq.1]; omega)) (by decide) (jn_div hrs1043 (Or.inr ⟨by first | exact g1049 | (clear hps1051 g1049 g1048 hps1043 hps1039 hps1035 g1010 hps1008 p2; omega) | (clear g1049 g1048 hps1043 hps1039 hps1035 g1010 hps1008 p2; omega) | omega, ey1050⟩)))) (by rw [hps1051.1]; exact sk_sk) (by first | exact ws1051_79 | (clear hps1051 g1049 g1048 hps1043 hps1039 hps1035 g1010 hps1008 p2; omega) | (clear g1049 g1048 hps1043 hps1039 hps1035 g1010 hps1008 p2; omega) | omega)⟩ (by first | exact ⟨oq_45b593e3 ws1051_78 hi.1 hps1043.1 ws1042_78, oq_93076f9e hps1051.2.1 hps1043.2.1 vs1042 hi.2.1, by first | exact Or.inr (oq_5c1b0352 hps1051.2.2 hps1043.2.2.1 vs1042 g1037 hps1035 hN b1002.2) | (clear hps1051 g1049 g1048 hps1043 hps1039 hps1035 g1010 hps1008 p2; omega) | (clear g1049 g1048 hps1043 hps1039 hps1035 g1010 hps1008 p2; omega) | omega, oq_67b737cd g1006 hi.2.2.2.1 b3.1, by first | exact oq_2b9bddb8 ws1051_79 hps1051.2.2 b1046.1 hps1043.2.2.2.2.1 ws1042_75 hN hi.2.2.2.2.2.1 | (clear hps1051 g1049 g1048 hps1043 hps1039 hps1035 g1010 hps1008 p2; omega) | (clear g1049 g1048 hps1043 hps1039 hps1035 g1010 hps1008 p2; omega) | omega, oq_45b593e3 ws1051_75 hi.2.2.2.2.2.1 ws1043_75 ws1042_75, hy1050.1, hy1050.2⟩ | omega) (by first | exact oq_1b096cc7 ws1051_75 hps1051p.2 ws1043_75 hps1043p.2.1 ws1042_75 vs1042 g1037 hps1035 hN hm | (clear hps1051 g1049 g1048 hps1043 hps1039 hps1035 g1010 hps1008 p2; omega) | (clear g1049 g1048 hps1043 hps1039 hps1035 g1010 hps1008 p2; omega) | omega) kx
                 ·
                   as_aux_lemma =>
                    refine z_const X rfl (z_goto X (t := 89) rfl rfl (z_store_n X (lv' := [(1, .int (Int32.ofInt 0)), (3, .int (Int32.ofInt e1044)), (2, .int (Int32.ofInt e1040)), (0, .ref (A 179))]) rfl (by decide) (fun _ h => h) (z_aload_n X (x := A 179) rfl (List.Mem.tail _ (List.Mem.tail _ (List.Mem.tail _ (List.Mem.head _)))) (z_callV X 179 (rm := rmN 193) (As := []) (st := []) rfl rfl (by decide) rfl (by rw [E.1, E.2.1, E.2.2.1]; exact k_blanks2 G Is1043 JFDB_s1043 (by first | exact oq_d255e8ca hps1043.2.2.1 vs1042 hi.2.2.1 p0 | omega)) ⟨by rw [E.2.2.2]; exact (show 7 + 1 ≤ (12 + (3 * (r) + 1)) from oq_4609964d r), by rw [E.2.2.2]; exact (show 8 + (1 + 11) + 121 ≤ (500 + 45 * (3 * (r) + 1)) from oq_12dd44ff r), by rw [E.2.2.2]; exact Nat.le_refl 0, by rw [E.2.2.2]; exact Nat.le_refl 0⟩ (Nat.le_of_ble_eq_true rfl) (fun vv s1054 hq => ?_) (fun ee s1054 hq => ?_)))))
                    rotate_left
                    · obtain ⟨Is1054, Fs1054, JFDB_s1054, hv, hps1054⟩ := hq; cases hv
                    obtain ⟨Is1054, Fs1054, JFDB_s1054, hv, hps1054⟩ := hq
                    have hps1054p := And.intro hps1054.1 (hps1054.2.1)
                    cases hv
                    have Gs1054 := fm_tq Gs1043 Fs1054 rfl rfl
                    have JFDB_s1054 : FDB B N s1054 := FDB_fm Fs1054 (by decide) JFDB_s1043
                    have b1056 := bi_77 Is1054
                    have ws1054_75 : iI s1054 75 = iI s1043 75 := fm_iq Fs1054 rfl
                    have ws1054_79 : iI s1054 79 = iI s1043 79 := fm_iq Fs1054 rfl
                    have ws1054_78 : iI s1054 78 = iI s1043 78 := fm_iq Fs1054 rfl
                    show WS k 94 [(1, .int (Int32.ofInt 0)), (3, .int (Int32.ofInt e1044)), (2, .int (Int32.ofInt e1040)), (0, .ref (A 179))] [] (Wd A dT s1054) 0 0
                    refine z_goto X (t := 9) rfl rfl (WS_pq [3, 0] (lv' := [(0, .ref (A 179)), (1, .int (Int32.ofInt 0))]) rfl ?_)
                    exact ih _ 0 Is1054 Gs1054 JFDB_s1054 ⟨by rw [hps1054.1]; exact sk_sk, prm_mvv (prmp_upv hq.2 (by first | exact g1006 | (clear hps1054 g1048 hps1043 hps1039 hps1035 g1010 hps1008 p2; omega) | (clear g1048 hps1043 hps1039 hps1035 g1010 hps1008 p2; omega) | omega) hcd (by rw [show iI s1042 77 = iI t 77 + 1 by first | exact vs1042 | (clear hps1054 g1048 hps1043 hps1039 hps1035 g1010 hps1008 p2; omega) | (clear g1048 hps1043 hps1039 hps1035 g1010 hps1008 p2; omega) | omega, hq.1]) (by first | exact oq_e5e5d3d6 ws1042_79 g1006 | (clear hps1054 g1048 hps1043 hps1039 hps1035 g1010 hps1008 p2; omega) | (clear g1048 hps1043 hps1039 hps1035 g1010 hps1008 p2; omega) | omega) (by first | exact oq_1aa5be9e ws1042_78 hi.1 | (clear hps1054 g1048 hps1043 hps1039 hps1035 g1010 hps1008 p2; omega) | (clear g1048 hps1043 hps1039 hps1035 g1010 hps1008 p2; omega) | omega) (pfv_c hps1043.2.2.2.2.2 (nmr_fm Fs1042 (by decide))) (fun a c ha hc => vl_up ha hc (opc_47 (by rw [hq.1]; omega)) (by decide) (jn_div hrs1043 (Or.inl ⟨by first | exact g1049 | (clear hps1054 g1048 hps1043 hps1039 hps1035 g1010 hps1008 p2; omega) | (clear g1048 hps1043 hps1039 hps1035 g1010 hps1008 p2; omega) | omega, rfl⟩)))) (by rw [hps1054.1]; exact sk_sk) (by first | exact ws1054_79 | (clear hps1054 g1048 hps1043 hps1039 hps1035 g1010 hps1008 p2; omega) | (clear g1048 hps1043 hps1039 hps1035 g1010 hps1008 p2; omega) | omega)⟩ (by first | exact ⟨oq_45b593e3 ws1054_78 hi.1 hps1043.1 ws1042_78, oq_93076f9e hps1054.2.1 hps1043.2.1 vs1042 hi.2.1, by first | exact Or.inr (oq_5c1b0352 hps1054.2.2 hps1043.2.2.1 vs1042 g1037 hps1035 hN b1002.2) | (clear hps1054 g1048 hps1043 hps1039 hps1035 g1010 hps1008 p2; omega) | (clear g1048 hps1043 hps1039 hps1035 g1010 hps1008 p2; omega) | omega, oq_67b737cd g1006 hi.2.2.2.1 b3.1, by first | exact oq_2b9bddb8 ws1054_79 hps1054.2.2 b1046.1 hps1043.2.2.2.2.1 ws1042_75 hN hi.2.2.2.2.2.1 | (clear hps1054 g1048 hps1043 hps1039 hps1035 g1010 hps1008 p2; omega) | (clear g1048 hps1043 hps1039 hps1035 g1010 hps1008 p2; omega) | omega, oq_45b593e3 ws1054_75 hi.2.2.2.2.2.1 ws1043_75 ws1042_75, by decide, by decide⟩ | omega) (by first | exact oq_1b096cc7 ws1054_75 hps1054p.2 ws1043_75 hps1043p.2.1 ws1042_75 vs1042 g1037 hps1035 hN hm | (clear hps1054 g1048 hps1043 hps1039 hps1035 g1010 hps1008 p2; omega) | (clear g1048 hps1043 hps1039 hps1035 g1010 hps1008 p2; omega) | omega) kx
              ·
                as_aux_lemma =>
                 refine z_load_n X (x := v) rfl (List.Mem.tail _ (List.Mem.tail _ (List.Mem.tail _ (List.Mem.head _)))) (z_load_n X (x := e1044) rfl (List.Mem.head _) (z_mul X rfl (z_anyV (fun y1057 hy1057 ey1057 => ?_))))
                 refine z_goto X (t := 89) rfl rfl (z_store_n X (lv' := [(1, .int (Int32.ofInt y1057)), (3, .int (Int32.ofInt e1044)), (2, .int (Int32.ofInt e1040)), (0, .ref (A 179))]) rfl (by decide) (fun _ h => h) (z_aload_n X (x := A 179) rfl (List.Mem.tail _ (List.Mem.tail _ (List.Mem.tail _ (List.Mem.head _)))) (z_callV X 179 (rm := rmN 193) (As := []) (st := []) rfl rfl (by decide) rfl (by rw [E.1, E.2.1, E.2.2.1]; exact k_blanks2 G Is1043 JFDB_s1043 (by first | exact oq_64020fb0 g1048 hps1039 g1037 hps1035 | omega)) ⟨by rw [E.2.2.2]; exact (show 7 + 1 ≤ (12 + (3 * (r) + 1)) from oq_4609964d r), by rw [E.2.2.2]; exact (show 8 + (1 + 11) + 121 ≤ (500 + 45 * (3 * (r) + 1)) from oq_12dd44ff r), by rw [E.2.2.2]; exact Nat.le_refl 0, by rw [E.2.2.2]; exact Nat.le_refl 0⟩ (Nat.le_of_ble_eq_true rfl) (fun vv s1058 hq => ?_) (fun ee s1058 hq => ?_))))
                 rotate_left
                 · obtain ⟨Is1058, Fs1058, JFDB_s1058, hv, hps1058⟩ := hq; cases hv
                 obtain ⟨Is1058, Fs1058, JFDB_s1058, hv, hps1058⟩ := hq
                 have hps1058p := And.intro hps1058.1 (hps1058.2.1)
                 cases hv
                 have Gs1058 := fm_tq Gs1043 Fs1058 rfl rfl
                 have JFDB_s1058 : FDB B N s1058 := FDB_fm Fs1058 (by decide) JFDB_s1043
                 have b1060 := bi_77 Is1058
                 have ws1058_75 : iI s1058 75 = iI s1043 75 := fm_iq Fs1058 rfl
                 have ws1058_79 : iI s1058 79 = iI s1043 79 := fm_iq Fs1058 rfl
                 have ws1058_78 : iI s1058 78 = iI s1043 78 := fm_iq Fs1058 rfl
                 show WS k 94 [(1, .int (Int32.ofInt y1057)), (3, .int (Int32.ofInt e1044)), (2, .int (Int32.ofInt e1040)), (0, .ref (A 179))] [] (Wd A dT s1058) 0 0
                 refine z_goto X (t := 9) rfl rfl (WS_pq [3, 0] (lv' := [(0, .ref (A 179)), (1, .int (Int32.ofInt y1057))]) rfl ?_)
                 exact ih _ y1057 Is1058 Gs1058 JFDB_s1058 ⟨by rw [hps1058.1]; exact sk_sk, prm_mvv (prmp_upv hq.2 (by first | exact g1006 | (clear hps1058 hps1043 hps1039 hps1035 g1010 hps1008 p2; omega) | (clear hps1043 hps1039 hps1035 g1010 hps1008 p2; omega) | omega) hcd (by rw [show iI s1042 77 = iI t 77 + 1 by first | exact vs1042 | (clear hps1058 hps1043 hps1039 hps1035 g1010 hps1008 p2; omega) | (clear hps1043 hps1039 hps1035 g1010 hps1008 p2; omega) | omega, hq.1]) (by first | exact oq_e5e5d3d6 ws1042_79 g1006 | (clear hps1058 hps1043 hps1039 hps1035 g1010 hps1008 p2; omega) | (clear hps1043 hps1039 hps1035 g1010 hps1008 p2; omega) | omega) (by first | exact oq_1aa5be9e ws1042_78 hi.1 | (clear hps1058 hps1043 hps1039 hps1035 g1010 hps1008 p2; omega) | (clear hps1043 hps1039 hps1035 g1010 hps1008 p2; omega) | omega) (pfv_c hps1043.2.2.2.2.2 (nmr_fm Fs1042 (by decide))) (fun a c ha hc => vl_up ha hc (opc_42 (by rw [hq.1]; omega)) (by decide) (jn_mul ey1057))) (by rw [hps1058.1]; exact sk_sk) (by first | exact ws1058_79 | (clear hps1058 hps1043 hps1039 hps1035 g1010 hps1008 p2; omega) | (clear hps1043 hps1039 hps1035 g1010 hps1008 p2; omega) | omega)⟩ (by first | exact ⟨oq_45b593e3 ws1058_78 hi.1 hps1043.1 ws1042_78, oq_93076f9e hps1058.2.1 hps1043.2.1 vs1042 hi.2.1, oq_8dbd7f30 g1048 hps1039 g1037 hps1035, oq_cd9278e8 g1048 hps1039 g1037 hps1035, oq_1a68ba24 g1048 hps1039 g1037 hps1035, oq_45b593e3 ws1058_75 hi.2.2.2.2.2.1 ws1043_75 ws1042_75, hy1057.1, hy1057.2⟩ | omega) (by first | exact qk_me hm (oq_aae77179 ws1058_75 hps1058.2.1 ws1043_75 hps1043.2.1 ws1042_75 vs1042) (oq_8500a080 g1048 hps1039 g1037 hps1035) | omega) kx
  refine z_aload_n X (x := A 179) rfl (List.Mem.head _) (z_callV X 179 (rm := (rkR (3 * (r)))) (As := []) (st := []) rfl rfl (by decide) rfl (by rw [E.1, E.2.1, E.2.2.1]; exact hU I jFDB (by first | exact p0 | omega) (by first | exact p1 | omega) (by first | exact p2 | omega)) ⟨by rw [E.2.2.2]; exact (show (12 + (3 * (r))) + 1 ≤ (12 + (3 * (r) + 1)) from oq_5e3fa304 r), by rw [E.2.2.2]; exact (show 8 + (7 + 11) + (500 + 45 * (3 * (r))) ≤ (500 + 45 * (3 * (r) + 1)) from oq_ea5e6b1c r), by rw [E.2.2.2]; exact Nat.le_refl 0, by rw [E.2.2.2]; exact Nat.le_refl 0⟩ (Nat.le_of_ble_eq_true rfl) (fun vv s5 hq => ?_) (fun ee s5 hq => ?_))
  rotate_left
  · obtain ⟨Is5, Fs5, JFDB_s5, e6, hv, hrs5, hps5⟩ := hq; cases hv
  obtain ⟨Is5, Fs5, JFDB_s5, e6, hv, hrs5, hps5⟩ := hq
  have hps5p := And.intro hps5.1 (And.intro hps5.2.1 (hps5.2.2.2.2.2))
  cases hv
  have Gs5 := fm_tq F Fs5 rfl rfl
  have JFDB_s5 : FDB B N s5 := FDB_fm Fs5 (by decide) jFDB
  have b7 := bi_77 Is5
  have ws5_75 : iI s5 75 = iI s 75 := fm_iq Fs5 rfl
  have b8 := bi_79 Is5
  have b9 := bi_78 Is5
  show WS k 4 [(0, .ref (A 179))] [.int (Int32.ofInt e6)] (Wd A dT s5) 0 0
  refine z_store_n X (lv' := [(1, .int (Int32.ofInt e6)), (0, .ref (A 179))]) rfl (by decide) (fun _ h => h) (z_aload_n X (x := A 179) rfl (List.Mem.tail _ (List.Mem.head _)) (z_callV X 179 (rm := rmN 193) (As := []) (st := []) rfl rfl (by decide) rfl (by rw [E.1, E.2.1, E.2.2.1]; exact k_blanks2 G Is5 JFDB_s5 (by first | exact oq_299765ef hps5.2.2.1 p0 | omega)) ⟨by rw [E.2.2.2]; exact (show 7 + 1 ≤ (12 + (3 * (r) + 1)) from oq_4609964d r), by rw [E.2.2.2]; exact (show 8 + (1 + 11) + 121 ≤ (500 + 45 * (3 * (r) + 1)) from oq_12dd44ff r), by rw [E.2.2.2]; exact Nat.le_refl 0, by rw [E.2.2.2]; exact Nat.le_refl 0⟩ (Nat.le_of_ble_eq_true rfl) (fun vv s10 hq => ?_) (fun ee s10 hq => ?_)))
  rotate_left
  · obtain ⟨Is10, Fs10, JFDB_s10, hv, hps10⟩ := hq; cases hv
  obtain ⟨Is10, Fs10, JFDB_s10, hv, hps10⟩ := hq
  have hps10p := And.intro hps10.1 (hps10.2.1)
  cases hv
  have Gs10 := fm_tq Gs5 Fs10 rfl rfl
  have JFDB_s10 : FDB B N s10 := FDB_fm Fs10 (by decide) JFDB_s5
  have b12 := bi_77 Is10
  have ws10_75 : iI s10 75 = iI s5 75 := fm_iq Fs10 rfl
  have ws10_79 : iI s10 79 = iI s5 79 := fm_iq Fs10 rfl
  have ws10_78 : iI s10 78 = iI s5 78 := fm_iq Fs10 rfl
  show WS k 9 [(1, .int (Int32.ofInt e6)), (0, .ref (A 179))] [] (Wd A dT s10) 0 0
  refine WS_pq [1, 0] (lv' := [(0, .ref (A 179)), (1, .int (Int32.ofInt e6))]) rfl (L9 ((iI s10 75 - iI s10 77 : Int).toNat + 1) s10 e6 Is10 Gs10 JFDB_s10 ⟨by rw [hps10.1]; exact sk_sk, prm_mvv (prmp_0v hps5.2.2.2.2.2) (by rw [hps10.1]; exact sk_sk) (by first | exact ws10_79 | (clear hps10 hps5 p2; omega) | (clear hps5 p2; omega) | omega)⟩ (by first | exact And.intro (oq_1aa5be9e ws10_78 hps5p.1) (And.intro (oq_f8a2cf0e hps10p.2 hps5p.2.1) (And.intro (oq_c3ae77b9 hps10.2.2 hps5.2.2.1 b2.2 hN p0) (And.intro (oq_288de3fc ws10_79 hps5.2.2.2.1 b3.1) (And.intro (oq_66bfb5eb ws10_79 hps10.2.2 hps5.2.2.2.2.1 hN) (And.intro (oq_1aa5be9e ws10_75 ws5_75) (And.intro (hrs5.1) (hrs5.2))))))) | (clear hps10 hps5 p2; omega) | (clear hps5 p2; omega) | omega) (Nat.lt_succ_self _) ?_)
  intro s13 x14 Is13 Fs13 JFDB_s13 Qs13 hs13
  have b15 := bi_77 Is13
  have b16 := bi_75 Is13
  have b17 := bi_79 Is13
  have b18 := bi_78 Is13
  have hNs13 := JFDB_s13.2.1
  have hWs13 := JFDB_s13.2.2
  refine z_load_n X (x := x14) rfl (List.Mem.tail _ (List.Mem.head _)) ?_
  exact w_iret X.1 q hRt rfl (ax_d X (show cdA 208 98 = some (.ireturn, 1, 0, 0, 0) from rfl)) (Nat.zero_le _) (Nat.zero_le _) ⟨_, rfl, Is13, Fs13, JFDB_s13, x14, rfl, ⟨by first | exact hs13.2.2.2.2.2.2.1 | omega, by first | exact hs13.2.2.2.2.2.2.2 | omega⟩, ⟨by first | exact hs13.1 | omega, by first | exact hs13.2.1 | omega, by first | exact hs13.2.2.1 | omega, by first | exact hs13.2.2.2.1 | omega, by first | exact hs13.2.2.2.2.1 | omega, Qs13⟩⟩
set_option maxRecDepth 4000 in
theorem k_sumS5 (G : GX l s0 D tys a0 dT) {B : Nat → Int} {N : Int} {r : Nat} (hU : ∀ {s : PS}, Bd s → FDB B N s → (iI s 77 ≤ 203) → (iI s 78 + ((r : Nat) : Int) = 7) → (iI s 78 = 7 → iI s 79 ≠ 0) → CT l s0 D A dT 208 (rkR (3 * (r) + 1)) [.ref (A 179)] s (fun o t => Bd t ∧ Fm [77, 79, 80, 78] [] s t ∧ FDB B N t ∧ ∃ e, o = .inl (some (.int (Int32.ofInt e))) ∧ rng e ∧ (iI t 78 = iI s 78 ∧ iI s 77 ≤ iI t 77 ∧ (iI t 77 = iI s 77 ∨ iI t 77 ≤ 202) ∧ (iI s 79 ≠ 0 → iI t 79 ≠ 0) ∧ (iI t 79 = 0 → iI t 77 ≤ iI s 75) ∧ PFv (VLm (NMr s) (Int32.ofInt e)) B N 1 s t))) (I : Bd s) (jFDB : FDB B N s) (p0 : iI s 77 ≤ 203) (p1 : iI s 78 + ((r : Nat) : Int) = 7) (p2 : iI s 78 = 7 → iI s 79 ≠ 0) : CT l s0 D A dT 209 (rkR (3 * (r) + 2)) [.ref (A 179)] s (fun o t => Bd t ∧ Fm [77, 79, 80, 78] [] s t ∧ FDB B N t ∧ ∃ e, o = .inl (some (.int (Int32.ofInt e))) ∧ rng e ∧ (iI t 78 = iI s 78 ∧ iI s 77 ≤ iI t 77 ∧ (iI t 77 = iI s 77 ∨ iI t 77 ≤ 202) ∧ (iI s 79 ≠ 0 → iI t 79 ≠ 0) ∧ (iI t 79 = 0 → iI t 77 ≤ iI s 75) ∧ PFv (VLm (NMr s) (Int32.ofInt e)) B N 3 s t)) := by
  refine ct_of G (by decide) (Nat.le_of_ble_eq_true rfl) (fun k X E hRt hXt q => ?_)
  show WS k 0 [(0, .ref (A 179))] [] _ 0 0
  have F : Fm [77, 79, 80, 78] [] s s := fm_rf _ _ s
  have hN := jFDB.2.1
  have hW := jFDB.2.2
  have b1 := bi_77 I
  have b2 := bi_75 I
  have b3 := bi_79 I
  have b4 := bi_78 I
  have L9 : ∀ (n : Nat) (t : PS) (v : Int), Bd t → Fm [77, 79, 80, 78] [] s t → FDB B N t → (sk B N (iI t 77) = iI t 77 ∧ PRv (VLm (NMr s) (Int32.ofInt v)) B N 4 3 s t) → (iI t 78 = iI s 78 ∧ iI s 77 ≤ iI t 77 ∧ (iI t 77 = iI s 77 ∨ iI t 77 ≤ 202) ∧ (iI s 79 ≠ 0 → iI t 79 ≠ 0) ∧ (iI t 79 = 0 → iI t 77 ≤ iI s 75) ∧ iI t 75 = iI s 75 ∧ rng v) → (iI t 75 - iI t 77 : Int).toNat < n → (∀ (t' : PS) (v' : Int), Bd t' → Fm [77, 79, 80, 78] [] s t' → FDB B N t' → (PFv (VLm (NMr s) (Int32.ofInt v')) B N 3 s t') → (iI t' 78 = iI s 78 ∧ iI s 77 ≤ iI t' 77 ∧ (iI t' 77 = iI s 77 ∨ iI t' 77 ≤ 202) ∧ (iI s 79 ≠ 0 → iI t' 79 ≠ 0) ∧ (iI t' 79 = 0 → iI t' 77 ≤ iI s 75) ∧ iI t' 75 = iI s 75 ∧ rng v') → WS k 89 [(0, .ref (A 179)), (1, .int (Int32.ofInt v'))] [] (Wd A dT t') 0 0) → WS k 9 [(0, .ref (A 179)), (1, .int (Int32.ofInt v))] [] (Wd A dT t) 0 0 := by
    intro n
    induction n with
    | zero =>
      intro t v I F jjFDB hq hi hm kx
      exact absurd hm (Nat.not_lt_zero _)
    | succ n ih =>
      intro t v I F jjFDB hq hi hm kx
      have b1001 := bi_77 I
      have b1002 := bi_75 I
      have b1003 := bi_79 I
      have b1004 := bi_78 I
      have hN := jjFDB.2.1
      have hW := jjFDB.2.2
      refine z_aload_n X (x := A 179) rfl (List.Mem.head _) (z_getI X 179 rfl (c518_ok rfl) rfl rfl ?_)
      have b1005 := bi_79 I
      refine z_if_ne X (t := 89) rfl rfl (rng_to _) (fun g1006 => ?_) (fun g1006 => ?_)
      ·
        refine WS_pq [0, 1] (lv' := [(0, .ref (A 179)), (1, .int (Int32.ofInt v))]) rfl ?_
        exact kx _ v I F jjFDB (by first | exact prm_fav (prm_mvv hq.2 (by rw [show iI t 77 = iI t 77 by first | exact rfl | (clear g1006 p2; omega) | (clear p2; omega) | omega]) (by first | exact rfl | (clear g1006 p2; omega) | (clear p2; omega) | omega)) (by first | exact g1006 | (clear g1006 p2; omega) | (clear p2; omega) | omega) | exact prms_endv (prm_mvv hq.2 (by rw [show iI t 77 = iI t 77 by first | (clear g1006 p2; omega) | (clear p2; omega) | omega]) (by first | (clear g1006 p2; omega) | (clear p2; omega) | omega)) (by first | (clear g1006 p2; omega) | (clear p2; omega) | omega) (by rw [show iI t 77 = iI t 77 by first | (clear g1006 p2; omega) | (clear p2; omega) | omega, hq.1]; omega)) (by first | exact ⟨hi.1, hi.2.1, hi.2.2.1, hi.2.2.2.1, hi.2.2.2.2.1, hi.2.2.2.2.2.1, hi.2.2.2.2.2.2.1, hi.2.2.2.2.2.2.2⟩ | omega)
      ·
        as_aux_lemma =>
         refine z_aload_n X (x := A 179) rfl (List.Mem.head _) (z_aload_n X (x := A 179) rfl (List.Mem.head _) (z_getI X 179 rfl (c518_ok rfl) rfl rfl ?_))
         have b1007 := bi_77 I
         refine z_callV X 179 (rm := rmN 192) (As := [.int (Int32.ofInt (iI t 77))]) (st := []) rfl rfl (by decide) rfl (by rw [E.1, E.2.1, E.2.2.1]; exact k_byteAt2 G I jjFDB (by first | exact ⟨b1007.1, oq_5a8480eb b1007.2⟩ | omega)) ⟨by rw [E.2.2.2]; exact (show 6 + 1 ≤ (12 + (3 * (r) + 2)) from oq_44aaa93c r), by rw [E.2.2.2]; exact (show 8 + (2 + 11) + 100 ≤ (500 + 45 * (3 * (r) + 2)) from oq_3a43be2e r), by rw [E.2.2.2]; exact Nat.le_refl 0, by rw [E.2.2.2]; exact Nat.le_refl 0⟩ (Nat.le_of_ble_eq_true rfl) (fun vv s1008 hq => ?_) (fun ee s1008 hq => ?_)
         rotate_left
         · obtain ⟨rfl, e1009, hv, hrs1008, hps1008⟩ := hq; cases hv
         obtain ⟨rfl, e1009, hv, hrs1008, hps1008⟩ := hq
         cases hv
         show WS k 24 [(0, .ref (A 179)), (1, .int (Int32.ofInt v))] [.int (Int32.ofInt e1009)] (Wd A dT t) 0 0
         refine z_bipush X rfl (z_icmp_eq X (t := 42) rfl rfl hrs1008 (by decide) (fun g1010 => ?_) (fun g1010 => ?_))
         ·
           have hcd : chT B N (sk B N (iI t 77)) 43 ∨ chT B N (sk B N (iI t 77)) 45 := by rw [hq.1]; first | exact Or.inl ⟨by first | exact oq_3778b6f4 g1010 hps1008 | (clear hps1008 p2; omega) | (clear p2; omega) | omega, by first | exact oq_fa8eb491 g1010 hps1008 | (clear hps1008 p2; omega) | (clear p2; omega) | omega⟩ | exact Or.inr ⟨by first | (clear hps1008 p2; omega) | (clear p2; omega) | omega, by first | (clear hps1008 p2; omega) | (clear p2; omega) | omega⟩
           refine z_aload_n X (x := A 179) rfl (List.Mem.head _) (z_aload_n X (x := A 179) rfl (List.Mem.head _) (z_getI X 179 rfl (c518_ok rfl) rfl rfl ?_))
           have b1011 := bi_77 I
           refine z_callV X 179 (rm := rmN 192) (As := [.int (Int32.ofInt (iI t 77))]) (st := []) rfl rfl (by decide) rfl (by rw [E.1, E.2.1, E.2.2.1]; exact k_byteAt2 G I jjFDB (by first | exact ⟨b1011.1, oq_5a8480eb b1011.2⟩ | omega)) ⟨by rw [E.2.2.2]; exact (show 6 + 1 ≤ (12 + (3 * (r) + 2)) from oq_44aaa93c r), by rw [E.2.2.2]; exact (show 8 + (2 + 11) + 100 ≤ (500 + 45 * (3 * (r) + 2)) from oq_3a43be2e r), by rw [E.2.2.2]; exact Nat.le_refl 0, by rw [E.2.2.2]; exact Nat.le_refl 0⟩ (Nat.le_of_ble_eq_true rfl) (fun vv s1012 hq => ?_) (fun ee s1012 hq => ?_)
           rotate_left
           · obtain ⟨rfl, e1013, hv, hrs1012, hps1012⟩ := hq; cases hv
           obtain ⟨rfl, e1013, hv, hrs1012, hps1012⟩ := hq
           cases hv
           show WS k 50 [(0, .ref (A 179)), (1, .int (Int32.ofInt v))] [.int (Int32.ofInt e1013)] (Wd A dT t) 0 0
           have hb2 := hps1012
           refine z_store_n X (lv' := [(2, .int (Int32.ofInt e1013)), (0, .ref (A 179)), (1, .int (Int32.ofInt v))]) rfl (by decide) (fun _ h => h) (z_aload_n X (x := A 179) rfl (List.Mem.tail _ (List.Mem.head _)) (w_dup X.1 (ax_d X (show cdA 209 52 = some (.dup, 1, 0, 0, 0) from rfl)) rfl (z_getI X 179 rfl (c518_ok rfl) rfl rfl ?_)))
           have b1014 := bi_77 I
           refine z_const X rfl (z_add X rfl (s_putI X 179 rfl (c518_ok rfl) rfl rfl (by decide) rfl rfl rfl (wd_gen (fun s1015 hs1015 => ?_))))
           have Is1015 : Bd s1015 := eqB hs1015 (bd_I I (show (0 : Int) ≤ ((iI t 77) + 1) ∧ ((iI t 77) + 1) ≤ 400 by first | exact ⟨oq_54f49eb5 b1014.1, oq_886c3d04 hi.2.2.1 p0⟩ | omega) ⟨by first | exact oq_74de1e16 b1014.1 | omega, by first | exact oq_964ce197 b1014.2 | omega⟩)
           have Fs1015 := eqF hs1015 (fm_I F (inl_ok (a := 77) rfl))
           have vs1015 : iI s1015 77 = ((iI t 77) + 1) := eqI hs1015 (iI_u ⟨by first | exact oq_74de1e16 b1014.1 | omega, by first | exact oq_964ce197 b1014.2 | omega⟩)
           have ws1015_75 : iI s1015 75 = iI t 75 := eqI hs1015 rfl
           have ws1015_79 : iI s1015 79 = iI t 79 := eqI hs1015 rfl
           have ws1015_78 : iI s1015 78 = iI t 78 := eqI hs1015 rfl
           have fs1015 : Fm [77] [] t s1015 := by rw [hs1015]; exact fm_I (fm_rf _ _ _) (show 77 ∈ _ by decide)
           have JFDB_s1015 : FDB B N s1015 := FDB_fm fs1015 (by decide) jjFDB
           refine z_aload_n X (x := A 179) rfl (List.Mem.tail _ (List.Mem.head _)) (z_callV X 179 (rm := (rkR (3 * (r) + 1))) (As := []) (st := []) rfl rfl (by decide) rfl (by rw [E.1, E.2.1, E.2.2.1]; exact hU Is1015 JFDB_s1015 (by first | exact oq_b74d6776 vs1015 g1006 hi.2.2.2.2.1 b2.2 | omega) (by first | exact oq_2b041bab ws1015_78 p1 hi.1 | omega) (by first | exact oq_097bc645 ws1015_78 g1006 hi.2.2.2.1 hi.1 b3.1 p2 | omega)) ⟨by rw [E.2.2.2]; exact (show (12 + (3 * (r) + 1)) + 1 ≤ (12 + (3 * (r) + 2)) from oq_2a2b55d9 r), by rw [E.2.2.2]; exact (show 8 + (4 + 11) + (500 + 45 * (3 * (r) + 1)) ≤ (500 + 45 * (3 * (r) + 2)) from oq_6b10c96c r), by rw [E.2.2.2]; exact Nat.le_refl 0, by rw [E.2.2.2]; exact Nat.le_refl 0⟩ (Nat.le_of_ble_eq_true rfl) (fun vv s1016 hq => ?_) (fun ee s1016 hq => ?_))
           rotate_left
           · obtain ⟨Is1016, Fs1016, JFDB_s1016, e1017, hv, hrs1016, hps1016⟩ := hq; cases hv
           obtain ⟨Is1016, Fs1016, JFDB_s1016, e1017, hv, hrs1016, hps1016⟩ := hq
           have hps1016p := And.intro hps1016.1 (And.intro hps1016.2.1 (hps1016.2.2.2.2.2))
           cases hv
           have Gs1016 := fm_tq Fs1015 Fs1016 rfl rfl
           have JFDB_s1016 : FDB B N s1016 := FDB_fm Fs1016 (by decide) JFDB_s1015
           have b1018 := bi_77 Is1016
           have ws1016_75 : iI s1016 75 = iI s1015 75 := fm_iq Fs1016 rfl
           have b1019 := bi_79 Is1016
           have b1020 := bi_78 Is1016
           show WS k 65 [(2, .int (Int32.ofInt e1013)), (0, .ref (A 179)), (1, .int (Int32.ofInt v))] [.int (Int32.ofInt e1017)] (Wd A dT s1016) 0 0
           refine z_store_n X (lv' := [(3, .int (Int32.ofInt e1017)), (2, .int (Int32.ofInt e1013)), (0, .ref (A 179)), (1, .int (Int32.ofInt v))]) rfl (by decide) (fun _ h => h) (z_load_n X (x := e1013) rfl (List.Mem.tail _ (List.Mem.head _)) (z_bipush X rfl (z_icmp_ne X (t := 78) rfl rfl hrs1012 (by decide) (fun g1021 => ?_) (fun g1021 => ?_))))
           ·
             as_aux_lemma =>
              refine z_load_n X (x := v) rfl (List.Mem.tail _ (List.Mem.tail _ (List.Mem.tail _ (List.Mem.head _)))) (z_load_n X (x := e1017) rfl (List.Mem.head _) (z_sub X rfl (z_anyV (fun y1022 hy1022 ey1022 => ?_))))
              refine z_store_n X (lv' := [(1, .int (Int32.ofInt y1022)), (3, .int (Int32.ofInt e1017)), (2, .int (Int32.ofInt e1013)), (0, .ref (A 179))]) rfl (by decide) (fun _ h => h) (z_aload_n X (x := A 179) rfl (List.Mem.tail _ (List.Mem.tail _ (List.Mem.tail _ (List.Mem.head _)))) (z_callV X 179 (rm := rmN 193) (As := []) (st := []) rfl rfl (by decide) rfl (by rw [E.1, E.2.1, E.2.2.1]; exact k_blanks2 G Is1016 JFDB_s1016 (by first | exact oq_6d5be915 g1021 hps1012 g1010 hps1008 | omega)) ⟨by rw [E.2.2.2]; exact (show 7 + 1 ≤ (12 + (3 * (r) + 2)) from oq_eb6f61dd r), by rw [E.2.2.2]; exact (show 8 + (1 + 11) + 121 ≤ (500 + 45 * (3 * (r) + 2)) from oq_fbd0a6ff r), by rw [E.2.2.2]; exact Nat.le_refl 0, by rw [E.2.2.2]; exact Nat.le_refl 0⟩ (Nat.le_of_ble_eq_true rfl) (fun vv s1023 hq => ?_) (fun ee s1023 hq => ?_)))
              rotate_left
              · obtain ⟨Is1023, Fs1023, JFDB_s1023, hv, hps1023⟩ := hq; cases hv
              obtain ⟨Is1023, Fs1023, JFDB_s1023, hv, hps1023⟩ := hq
              have hps1023p := And.intro hps1023.1 (hps1023.2.1)
              cases hv
              have Gs1023 := fm_tq Gs1016 Fs1023 rfl rfl
              have JFDB_s1023 : FDB B N s1023 := FDB_fm Fs1023 (by decide) JFDB_s1016
              have b1025 := bi_77 Is1023
              have ws1023_75 : iI s1023 75 = iI s1016 75 := fm_iq Fs1023 rfl
              have ws1023_79 : iI s1023 79 = iI s1016 79 := fm_iq Fs1023 rfl
              have ws1023_78 : iI s1023 78 = iI s1016 78 := fm_iq Fs1023 rfl
              show WS k 86 [(1, .int (Int32.ofInt y1022)), (3, .int (Int32.ofInt e1017)), (2, .int (Int32.ofInt e1013)), (0, .ref (A 179))] [] (Wd A dT s1023) 0 0
              refine z_goto X (t := 9) rfl rfl (WS_pq [3, 0] (lv' := [(0, .ref (A 179)), (1, .int (Int32.ofInt y1022))]) rfl ?_)
              exact ih _ y1022 Is1023 Gs1023 JFDB_s1023 ⟨by rw [hps1023.1]; exact sk_sk, prm_mvv (prms_upv hq.2 (by first | exact g1006 | (clear hps1023 g1021 hps1016 hps1012 hps1008 p2; omega) | (clear g1021 hps1016 hps1012 hps1008 p2; omega) | omega) hcd (by rw [show iI s1015 77 = iI t 77 + 1 by first | exact vs1015 | (clear hps1023 g1021 hps1016 hps1012 hps1008 p2; omega) | (clear g1021 hps1016 hps1012 hps1008 p2; omega) | omega, hq.1]) (by first | exact oq_e5e5d3d6 ws1015_79 g1006 | (clear hps1023 g1021 hps1016 hps1012 hps1008 p2; omega) | (clear g1021 hps1016 hps1012 hps1008 p2; omega) | omega) (by first | exact oq_1aa5be9e ws1015_78 hi.1 | (clear hps1023 g1021 hps1016 hps1012 hps1008 p2; omega) | (clear g1021 hps1016 hps1012 hps1008 p2; omega) | omega) (pfv_c hps1016.2.2.2.2.2 (nmr_fm Fs1015 (by decide))) (fun a c ha hc => vl_up ha hc (opc_45 (by rw [hq.1]; omega)) (by decide) (jn_sub ey1022))) (by rw [hps1023.1]; exact sk_sk) (by first | exact ws1023_79 | (clear hps1023 g1021 hps1016 hps1012 hps1008 p2; omega) | (clear g1021 hps1016 hps1012 hps1008 p2; omega) | omega)⟩ (by first | exact ⟨oq_45b593e3 ws1023_78 hi.1 hps1016.1 ws1015_78, oq_93076f9e hps1023.2.1 hps1016.2.1 vs1015 hi.2.1, oq_5b7d1403 g1021 hps1012 g1010 hps1008, oq_160137c6 g1021 hps1012 g1010 hps1008, oq_4a4c0d46 g1021 hps1012 g1010 hps1008, oq_45b593e3 ws1023_75 hi.2.2.2.2.2.1 ws1016_75 ws1015_75, hy1022.1, hy1022.2⟩ | omega) (by first | exact qk_me hm (oq_aae77179 ws1023_75 hps1023.2.1 ws1016_75 hps1016.2.1 ws1015_75 vs1015) (oq_ddf92a5b g1021 hps1012 g1010 hps1008) | omega) kx
           ·
             as_aux_lemma =>
              refine z_load_n X (x := v) rfl (List.Mem.tail _ (List.Mem.tail _ (List.Mem.tail _ (List.Mem.head _)))) (z_load_n X (x := e1017) rfl (List.Mem.head _) (z_add X rfl (z_anyV (fun y1026 hy1026 ey1026 => ?_))))
              refine z_goto X (t := 81) rfl rfl (z_store_n X (lv' := [(1, .int (Int32.ofInt y1026)), (3, .int (Int32.ofInt e1017)), (2, .int (Int32.ofInt e1013)), (0, .ref (A 179))]) rfl (by decide) (fun _ h => h) (z_aload_n X (x := A 179) rfl (List.Mem.tail _ (List.Mem.tail _ (List.Mem.tail _ (List.Mem.head _)))) (z_callV X 179 (rm := rmN 193) (As := []) (st := []) rfl rfl (by decide) rfl (by rw [E.1, E.2.1, E.2.2.1]; exact k_blanks2 G Is1016 JFDB_s1016 (by first | exact oq_d255e8ca hps1016.2.2.1 vs1015 hi.2.2.1 p0 | omega)) ⟨by rw [E.2.2.2]; exact (show 7 + 1 ≤ (12 + (3 * (r) + 2)) from oq_eb6f61dd r), by rw [E.2.2.2]; exact (show 8 + (1 + 11) + 121 ≤ (500 + 45 * (3 * (r) + 2)) from oq_fbd0a6ff r), by rw [E.2.2.2]; exact Nat.le_refl 0, by rw [E.2.2.2]; exact Nat.le_refl 0⟩ (Nat.le_of_ble_eq_true rfl) (fun vv s1027 hq => ?_) (fun ee s1027 hq => ?_))))
              rotate_left
              · obtain ⟨Is1027, Fs1027, JFDB_s1027, hv, hps1027⟩ := hq; cases hv
              obtain ⟨Is1027, Fs1027, JFDB_s1027, hv, hps1027⟩ := hq
              have hps1027p := And.intro hps1027.1 (hps1027.2.1)
              cases hv
              have Gs1027 := fm_tq Gs1016 Fs1027 rfl rfl
              have JFDB_s1027 : FDB B N s1027 := FDB_fm Fs1027 (by decide) JFDB_s1016
              have b1029 := bi_77 Is1027
              have ws1027_75 : iI s1027 75 = iI s1016 75 := fm_iq Fs1027 rfl
              have ws1027_79 : iI s1027 79 = iI s1016 79 := fm_iq Fs1027 rfl
              have ws1027_78 : iI s1027 78 = iI s1016 78 := fm_iq Fs1027 rfl
              show WS k 86 [(1, .int (Int32.ofInt y1026)), (3, .int (Int32.ofInt e1017)), (2, .int (Int32.ofInt e1013)), (0, .ref (A 179))] [] (Wd A dT s1027) 0 0
              refine z_goto X (t := 9) rfl rfl (WS_pq [3, 0] (lv' := [(0, .ref (A 179)), (1, .int (Int32.ofInt y1026))]) rfl ?_)
              exact ih _ y1026 Is1027 Gs1027 JFDB_s1027 ⟨by rw [hps1027.1]; exact sk_sk, prm_mvv (prms_upv hq.2 (by first | exact g1006 | (clear hps1027 hps1016 hps1012 hps1008 p2; omega) | (clear hps1016 hps1012 hps1008 p2; omega) | omega) hcd (by rw [show iI s1015 77 = iI t 77 + 1 by first | exact vs1015 | (clear hps1027 hps1016 hps1012 hps1008 p2; omega) | (clear hps1016 hps1012 hps1008 p2; omega) | omega, hq.1]) (by first | exact oq_e5e5d3d6 ws1015_79 g1006 | (clear hps1027 hps1016 hps1012 hps1008 p2; omega) | (clear hps1016 hps1012 hps1008 p2; omega) | omega) (by first | exact oq_1aa5be9e ws1015_78 hi.1 | (clear hps1027 hps1016 hps1012 hps1008 p2; omega) | (clear hps1016 hps1012 hps1008 p2; omega) | omega) (pfv_c hps1016.2.2.2.2.2 (nmr_fm Fs1015 (by decide))) (fun a c ha hc => vl_up ha hc (opc_43 (by rw [hq.1]; omega)) (by decide) (jn_add ey1026))) (by rw [hps1027.1]; exact sk_sk) (by first | exact ws1027_79 | (clear hps1027 hps1016 hps1012 hps1008 p2; omega) | (clear hps1016 hps1012 hps1008 p2; omega) | omega)⟩ (by first | exact ⟨oq_45b593e3 ws1027_78 hi.1 hps1016.1 ws1015_78, oq_93076f9e hps1027.2.1 hps1016.2.1 vs1015 hi.2.1, by first | exact Or.inr (oq_bc6bf346 hps1027.2.2 hps1016.2.2.1 vs1015 g1010 hps1008 hN b1002.2) | (clear hps1027 hps1016 hps1012 hps1008 p2; omega) | (clear hps1016 hps1012 hps1008 p2; omega) | omega, oq_67b737cd g1006 hi.2.2.2.1 b3.1, by first | exact oq_2b9bddb8 ws1027_79 hps1027.2.2 b1019.1 hps1016.2.2.2.2.1 ws1015_75 hN hi.2.2.2.2.2.1 | (clear hps1027 hps1016 hps1012 hps1008 p2; omega) | (clear hps1016 hps1012 hps1008 p2; omega) | omega, oq_45b593e3 ws1027_75 hi.2.2.2.2.2.1 ws1016_75 ws1015_75, hy1026.1, hy1026.2⟩ | omega) (by first | exact oq_d0b060e7 ws1027_75 hps1027p.2 ws1016_75 hps1016p.2.1 ws1015_75 vs1015 g1010 hps1008 hN hm | (clear hps1027 hps1016 hps1012 hps1008 p2; omega) | (clear hps1016 hps1012 hps1008 p2; omega) | omega) kx
         ·
           as_aux_lemma =>
            refine z_aload_n X (x := A 179) rfl (List.Mem.head _) (z_aload_n X (x := A 179) rfl (List.Mem.head _) (z_getI X 179 rfl (c518_ok rfl) rfl rfl ?_))
            have b1030 := bi_77 I
            refine z_callV X 179 (rm := rmN 192) (As := [.int (Int32.ofInt (iI t 77))]) (st := []) rfl rfl (by decide) rfl (by rw [E.1, E.2.1, E.2.2.1]; exact k_byteAt2 G I jjFDB (by first | exact ⟨b1030.1, oq_5a8480eb b1030.2⟩ | omega)) ⟨by rw [E.2.2.2]; exact (show 6 + 1 ≤ (12 + (3 * (r) + 2)) from oq_44aaa93c r), by rw [E.2.2.2]; exact (show 8 + (2 + 11) + 100 ≤ (500 + 45 * (3 * (r) + 2)) from oq_3a43be2e r), by rw [E.2.2.2]; exact Nat.le_refl 0, by rw [E.2.2.2]; exact Nat.le_refl 0⟩ (Nat.le_of_ble_eq_true rfl) (fun vv s1031 hq => ?_) (fun ee s1031 hq => ?_)
            rotate_left
            · obtain ⟨rfl, e1032, hv, hrs1031, hps1031⟩ := hq; cases hv
            obtain ⟨rfl, e1032, hv, hrs1031, hps1031⟩ := hq
            cases hv
            show WS k 37 [(0, .ref (A 179)), (1, .int (Int32.ofInt v))] [.int (Int32.ofInt e1032)] (Wd A dT t) 0 0
            refine z_bipush X rfl (z_icmp_ne X (t := 89) rfl rfl hrs1031 (by decide) (fun g1033 => ?_) (fun g1033 => ?_))
            ·
              refine WS_pq [0, 1] (lv' := [(0, .ref (A 179)), (1, .int (Int32.ofInt v))]) rfl ?_
              exact kx _ v I F jjFDB (by first | exact prm_fav (prm_mvv hq.2 (by rw [show iI t 77 = iI t 77 by first | exact rfl | (clear g1033 hps1031 g1010 hps1008 p2; omega) | (clear hps1031 g1010 hps1008 p2; omega) | omega]) (by first | exact rfl | (clear g1033 hps1031 g1010 hps1008 p2; omega) | (clear hps1031 g1010 hps1008 p2; omega) | omega)) (by fail) | exact prms_endv (prm_mvv hq.2 (by rw [show iI t 77 = iI t 77 by first | exact rfl | (clear g1033 hps1031 g1010 hps1008 p2; omega) | (clear hps1031 g1010 hps1008 p2; omega) | omega]) (by first | exact rfl | (clear g1033 hps1031 g1010 hps1008 p2; omega) | (clear hps1031 g1010 hps1008 p2; omega) | omega)) (by first | exact g1006 | (clear g1033 hps1031 g1010 hps1008 p2; omega) | (clear hps1031 g1010 hps1008 p2; omega) | omega) (by rw [show iI t 77 = iI t 77 by first | exact rfl | (clear g1033 hps1031 g1010 hps1008 p2; omega) | (clear hps1031 g1010 hps1008 p2; omega) | omega, hq.1]; omega)) (by first | exact ⟨hi.1, hi.2.1, hi.2.2.1, hi.2.2.2.1, hi.2.2.2.2.1, hi.2.2.2.2.2.1, hi.2.2.2.2.2.2.1, hi.2.2.2.2.2.2.2⟩ | omega)
            ·
              have hcd : chT B N (sk B N (iI t 77)) 43 ∨ chT B N (sk B N (iI t 77)) 45 := by rw [hq.1]; first | exact Or.inl ⟨by first | exact oq_aa094844 g1033 hps1031 | (clear hps1031 g1010 hps1008 p2; omega) | (clear g1010 hps1008 p2; omega) | omega, by fail⟩ | exact Or.inr ⟨by first | exact oq_aa094844 g1033 hps1031 | (clear hps1031 g1010 hps1008 p2; omega) | (clear g1010 hps1008 p2; omega) | omega, by first | exact oq_f7d94962 g1033 hps1031 | (clear hps1031 g1010 hps1008 p2; omega) | (clear g1010 hps1008 p2; omega) | omega⟩
              refine z_aload_n X (x := A 179) rfl (List.Mem.head _) (z_aload_n X (x := A 179) rfl (List.Mem.head _) (z_getI X 179 rfl (c518_ok rfl) rfl rfl ?_))
              have b1034 := bi_77 I
              refine z_callV X 179 (rm := rmN 192) (As := [.int (Int32.ofInt (iI t 77))]) (st := []) rfl rfl (by decide) rfl (by rw [E.1, E.2.1, E.2.2.1]; exact k_byteAt2 G I jjFDB (by first | exact ⟨b1034.1, oq_5a8480eb b1034.2⟩ | omega)) ⟨by rw [E.2.2.2]; exact (show 6 + 1 ≤ (12 + (3 * (r) + 2)) from oq_44aaa93c r), by rw [E.2.2.2]; exact (show 8 + (2 + 11) + 100 ≤ (500 + 45 * (3 * (r) + 2)) from oq_3a43be2e r), by rw [E.2.2.2]; exact Nat.le_refl 0, by rw [E.2.2.2]; exact Nat.le_refl 0⟩ (Nat.le_of_ble_eq_true rfl) (fun vv s1035 hq => ?_) (fun ee s1035 hq => ?_)
              rotate_left
              · obtain ⟨rfl, e1036, hv, hrs1035, hps1035⟩ := hq; cases hv
              obtain ⟨rfl, e1036, hv, hrs1035, hps1035⟩ := hq
              cases hv
              show WS k 50 [(0, .ref (A 179)), (1, .int (Int32.ofInt v))] [.int (Int32.ofInt e1036)] (Wd A dT t) 0 0
              have hb2 := hps1035
              refine z_store_n X (lv' := [(2, .int (Int32.ofInt e1036)), (0, .ref (A 179)), (1, .int (Int32.ofInt v))]) rfl (by decide) (fun _ h => h) (z_aload_n X (x := A 179) rfl (List.Mem.tail _ (List.Mem.head _)) (w_dup X.1 (ax_d X (show cdA 209 52 = some (.dup, 1, 0, 0, 0) from rfl)) rfl (z_getI X 179 rfl (c518_ok rfl) rfl rfl ?_)))
              have b1037 := bi_77 I
              refine z_const X rfl (z_add X rfl (s_putI X 179 rfl (c518_ok rfl) rfl rfl (by decide) rfl rfl rfl (wd_gen (fun s1038 hs1038 => ?_))))
              have Is1038 : Bd s1038 := eqB hs1038 (bd_I I (show (0 : Int) ≤ ((iI t 77) + 1) ∧ ((iI t 77) + 1) ≤ 400 by first | exact ⟨oq_54f49eb5 b1037.1, oq_886c3d04 hi.2.2.1 p0⟩ | omega) ⟨by first | exact oq_74de1e16 b1037.1 | omega, by first | exact oq_964ce197 b1037.2 | omega⟩)
              have Fs1038 := eqF hs1038 (fm_I F (inl_ok (a := 77) rfl))
              have vs1038 : iI s1038 77 = ((iI t 77) + 1) := eqI hs1038 (iI_u ⟨by first | exact oq_74de1e16 b1037.1 | omega, by first | exact oq_964ce197 b1037.2 | omega⟩)
              have ws1038_75 : iI s1038 75 = iI t 75 := eqI hs1038 rfl
              have ws1038_79 : iI s1038 79 = iI t 79 := eqI hs1038 rfl
              have ws1038_78 : iI s1038 78 = iI t 78 := eqI hs1038 rfl
              have fs1038 : Fm [77] [] t s1038 := by rw [hs1038]; exact fm_I (fm_rf _ _ _) (show 77 ∈ _ by decide)
              have JFDB_s1038 : FDB B N s1038 := FDB_fm fs1038 (by decide) jjFDB
              refine z_aload_n X (x := A 179) rfl (List.Mem.tail _ (List.Mem.head _)) (z_callV X 179 (rm := (rkR (3 * (r) + 1))) (As := []) (st := []) rfl rfl (by decide) rfl (by rw [E.1, E.2.1, E.2.2.1]; exact hU Is1038 JFDB_s1038 (by first | exact oq_b74d6776 vs1038 g1006 hi.2.2.2.2.1 b2.2 | omega) (by first | exact oq_2b041bab ws1038_78 p1 hi.1 | omega) (by first | exact oq_097bc645 ws1038_78 g1006 hi.2.2.2.1 hi.1 b3.1 p2 | omega)) ⟨by rw [E.2.2.2]; exact (show (12 + (3 * (r) + 1)) + 1 ≤ (12 + (3 * (r) + 2)) from oq_2a2b55d9 r), by rw [E.2.2.2]; exact (show 8 + (4 + 11) + (500 + 45 * (3 * (r) + 1)) ≤ (500 + 45 * (3 * (r) + 2)) from oq_6b10c96c r), by rw [E.2.2.2]; exact Nat.le_refl 0, by rw [E.2.2.2]; exact Nat.le_refl 0⟩ (Nat.le_of_ble_eq_true rfl) (fun vv s1039 hq => ?_) (fun ee s1039 hq => ?_))
              rotate_left
              · obtain ⟨Is1039, Fs1039, JFDB_s1039, e1040, hv, hrs1039, hps1039⟩ := hq; cases hv
              obtain ⟨Is1039, Fs1039, JFDB_s1039, e1040, hv, hrs1039, hps1039⟩ := hq
              have hps1039p := And.intro hps1039.1 (And.intro hps1039.2.1 (hps1039.2.2.2.2.2))
              cases hv
              have Gs1039 := fm_tq Fs1038 Fs1039 rfl rfl
              have JFDB_s1039 : FDB B N s1039 := FDB_fm Fs1039 (by decide) JFDB_s1038
              have b1041 := bi_77 Is1039
              have ws1039_75 : iI s1039 75 = iI s1038 75 := fm_iq Fs1039 rfl
              have b1042 := bi_79 Is1039
              have b1043 := bi_78 Is1039
              show WS k 65 [(2, .int (Int32.ofInt e1036)), (0, .ref (A 179)), (1, .int (Int32.ofInt v))] [.int (Int32.ofInt e1040)] (Wd A dT s1039) 0 0
              refine z_store_n X (lv' := [(3, .int (Int32.ofInt e1040)), (2, .int (Int32.ofInt e1036)), (0, .ref (A 179)), (1, .int (Int32.ofInt v))]) rfl (by decide) (fun _ h => h) (z_load_n X (x := e1036) rfl (List.Mem.tail _ (List.Mem.head _)) (z_bipush X rfl (z_icmp_ne X (t := 78) rfl rfl hrs1035 (by decide) (fun g1044 => ?_) (fun g1044 => ?_))))
              ·
                as_aux_lemma =>
                 refine z_load_n X (x := v) rfl (List.Mem.tail _ (List.Mem.tail _ (List.Mem.tail _ (List.Mem.head _)))) (z_load_n X (x := e1040) rfl (List.Mem.head _) (z_sub X rfl (z_anyV (fun y1045 hy1045 ey1045 => ?_))))
                 refine z_store_n X (lv' := [(1, .int (Int32.ofInt y1045)), (3, .int (Int32.ofInt e1040)), (2, .int (Int32.ofInt e1036)), (0, .ref (A 179))]) rfl (by decide) (fun _ h => h) (z_aload_n X (x := A 179) rfl (List.Mem.tail _ (List.Mem.tail _ (List.Mem.tail _ (List.Mem.head _)))) (z_callV X 179 (rm := rmN 193) (As := []) (st := []) rfl rfl (by decide) rfl (by rw [E.1, E.2.1, E.2.2.1]; exact k_blanks2 G Is1039 JFDB_s1039 (by first | exact oq_d255e8ca hps1039.2.2.1 vs1038 hi.2.2.1 p0 | omega)) ⟨by rw [E.2.2.2]; exact (show 7 + 1 ≤ (12 + (3 * (r) + 2)) from oq_eb6f61dd r), by rw [E.2.2.2]; exact (show 8 + (1 + 11) + 121 ≤ (500 + 45 * (3 * (r) + 2)) from oq_fbd0a6ff r), by rw [E.2.2.2]; exact Nat.le_refl 0, by rw [E.2.2.2]; exact Nat.le_refl 0⟩ (Nat.le_of_ble_eq_true rfl) (fun vv s1046 hq => ?_) (fun ee s1046 hq => ?_)))
                 rotate_left
                 · obtain ⟨Is1046, Fs1046, JFDB_s1046, hv, hps1046⟩ := hq; cases hv
                 obtain ⟨Is1046, Fs1046, JFDB_s1046, hv, hps1046⟩ := hq
                 have hps1046p := And.intro hps1046.1 (hps1046.2.1)
                 cases hv
                 have Gs1046 := fm_tq Gs1039 Fs1046 rfl rfl
                 have JFDB_s1046 : FDB B N s1046 := FDB_fm Fs1046 (by decide) JFDB_s1039
                 have b1048 := bi_77 Is1046
                 have ws1046_75 : iI s1046 75 = iI s1039 75 := fm_iq Fs1046 rfl
                 have ws1046_79 : iI s1046 79 = iI s1039 79 := fm_iq Fs1046 rfl
                 have ws1046_78 : iI s1046 78 = iI s1039 78 := fm_iq Fs1046 rfl
                 show WS k 86 [(1, .int (Int32.ofInt y1045)), (3, .int (Int32.ofInt e1040)), (2, .int (Int32.ofInt e1036)), (0, .ref (A 179))] [] (Wd A dT s1046) 0 0
                 refine z_goto X (t := 9) rfl rfl (WS_pq [3, 0] (lv' := [(0, .ref (A 179)), (1, .int (Int32.ofInt y1045))]) rfl ?_)
                 exact ih _ y1045 Is1046 Gs1046 JFDB_s1046 ⟨by rw [hps1046.1]; exact sk_sk, prm_mvv (prms_upv hq.2 (by first | exact g1006 | (clear hps1046 g1044 hps1039 hps1035 hps1031 g1010 hps1008 p2; omega) | (clear g1044 hps1039 hps1035 hps1031 g1010 hps1008 p2; omega) | omega) hcd (by rw [show iI s1038 77 = iI t 77 + 1 by first | exact vs1038 | (clear hps1046 g1044 hps1039 hps1035 hps1031 g1010 hps1008 p2; omega) | (clear g1044 hps1039 hps1035 hps1031 g1010 hps1008 p2; omega) | omega, hq.1]) (by first | exact oq_e5e5d3d6 ws1038_79 g1006 | (clear hps1046 g1044 hps1039 hps1035 hps1031 g1010 hps1008 p2; omega) | (clear g1044 hps1039 hps1035 hps1031 g1010 hps1008 p2; omega) | omega) (by first | exact oq_1aa5be9e ws1038_78 hi.1 | (clear hps1046 g1044 hps1039 hps1035 hps1031 g1010 hps1008 p2; omega) | (clear g1044 hps1039 hps1035 hps1031 g1010 hps1008 p2; omega) | omega) (pfv_c hps1039.2.2.2.2.2 (nmr_fm Fs1038 (by decide))) (fun a c ha hc => vl_up ha hc (opc_45 (by rw [hq.1]; omega)) (by decide) (jn_sub ey1045))) (by rw [hps1046.1]; exact sk_sk) (by first | exact ws1046_79 | (clear hps1046 g1044 hps1039 hps1035 hps1031 g1010 hps1008 p2; omega) | (clear g1044 hps1039 hps1035 hps1031 g1010 hps1008 p2; omega) | omega)⟩ (by first | exact ⟨oq_45b593e3 ws1046_78 hi.1 hps1039.1 ws1038_78, oq_93076f9e hps1046.2.1 hps1039.2.1 vs1038 hi.2.1, by first | exact Or.inr (oq_60d0509f hps1046.2.2 hps1039.2.2.1 vs1038 g1033 hps1031 hN b1002.2) | (clear hps1046 g1044 hps1039 hps1035 hps1031 g1010 hps1008 p2; omega) | (clear g1044 hps1039 hps1035 hps1031 g1010 hps1008 p2; omega) | omega, oq_67b737cd g1006 hi.2.2.2.1 b3.1, by first | exact oq_2b9bddb8 ws1046_79 hps1046.2.2 b1042.1 hps1039.2.2.2.2.1 ws1038_75 hN hi.2.2.2.2.2.1 | (clear hps1046 g1044 hps1039 hps1035 hps1031 g1010 hps1008 p2; omega) | (clear g1044 hps1039 hps1035 hps1031 g1010 hps1008 p2; omega) | omega, oq_45b593e3 ws1046_75 hi.2.2.2.2.2.1 ws1039_75 ws1038_75, hy1045.1, hy1045.2⟩ | omega) (by first | exact oq_f8f39e4f ws1046_75 hps1046p.2 ws1039_75 hps1039p.2.1 ws1038_75 vs1038 g1033 hps1031 hN hm | (clear hps1046 g1044 hps1039 hps1035 hps1031 g1010 hps1008 p2; omega) | (clear g1044 hps1039 hps1035 hps1031 g1010 hps1008 p2; omega) | omega) kx
              ·
                as_aux_lemma =>
                 refine z_load_n X (x := v) rfl (List.Mem.tail _ (List.Mem.tail _ (List.Mem.tail _ (List.Mem.head _)))) (z_load_n X (x := e1040) rfl (List.Mem.head _) (z_add X rfl (z_anyV (fun y1049 hy1049 ey1049 => ?_))))
                 refine z_goto X (t := 81) rfl rfl (z_store_n X (lv' := [(1, .int (Int32.ofInt y1049)), (3, .int (Int32.ofInt e1040)), (2, .int (Int32.ofInt e1036)), (0, .ref (A 179))]) rfl (by decide) (fun _ h => h) (z_aload_n X (x := A 179) rfl (List.Mem.tail _ (List.Mem.tail _ (List.Mem.tail _ (List.Mem.head _)))) (z_callV X 179 (rm := rmN 193) (As := []) (st := []) rfl rfl (by decide) rfl (by rw [E.1, E.2.1, E.2.2.1]; exact k_blanks2 G Is1039 JFDB_s1039 (by first | exact oq_5505896c g1044 hps1035 g1033 hps1031 | omega)) ⟨by rw [E.2.2.2]; exact (show 7 + 1 ≤ (12 + (3 * (r) + 2)) from oq_eb6f61dd r), by rw [E.2.2.2]; exact (show 8 + (1 + 11) + 121 ≤ (500 + 45 * (3 * (r) + 2)) from oq_fbd0a6ff r), by rw [E.2.2.2]; exact Nat.le_refl 0, by rw [E.2.2.2]; exact Nat.le_refl 0⟩ (Nat.le_of_ble_eq_true rfl) (fun vv s1050 hq => ?_) (fun ee s1050 hq => ?_))))
                 rotate_left
                 · obtain ⟨Is1050, Fs1050, JFDB_s1050, hv, hps1050⟩ := hq; cases hv
                 obtain ⟨Is1050, Fs1050, JFDB_s1050, hv, hps1050⟩ := hq
                 have hps1050p := And.intro hps1050.1 (hps1050.2.1)
                 cases hv
                 have Gs1050 := fm_tq Gs1039 Fs1050 rfl rfl
                 have JFDB_s1050 : FDB B N s1050 := FDB_fm Fs1050 (by decide) JFDB_s1039
                 have b1052 := bi_77 Is1050
                 have ws1050_75 : iI s1050 75 = iI s1039 75 := fm_iq Fs1050 rfl
                 have ws1050_79 : iI s1050 79 = iI s1039 79 := fm_iq Fs1050 rfl
                 have ws1050_78 : iI s1050 78 = iI s1039 78 := fm_iq Fs1050 rfl
                 show WS k 86 [(1, .int (Int32.ofInt y1049)), (3, .int (Int32.ofInt e1040)), (2, .int (Int32.ofInt e1036)), (0, .ref (A 179))] [] (Wd A dT s1050) 0 0
                 refine z_goto X (t := 9) rfl rfl (WS_pq [3, 0] (lv' := [(0, .ref (A 179)), (1, .int (Int32.ofInt y1049))]) rfl ?_)
                 exact ih _ y1049 Is1050 Gs1050 JFDB_s1050 ⟨by rw [hps1050.1]; exact sk_sk, prm_mvv (prms_upv hq.2 (by first | exact g1006 | (clear hps1050 hps1039 hps1035 hps1031 g1010 hps1008 p2; omega) | (clear hps1039 hps1035 hps1031 g1010 hps1008 p2; omega) | omega) hcd (by rw [show iI s1038 77 = iI t 77 + 1 by first | exact vs1038 | (clear hps1050 hps1039 hps1035 hps1031 g1010 hps1008 p2; omega) | (clear hps1039 hps1035 hps1031 g1010 hps1008 p2; omega) | omega, hq.1]) (by first | exact oq_e5e5d3d6 ws1038_79 g1006 | (clear hps1050 hps1039 hps1035 hps1031 g1010 hps1008 p2; omega) | (clear hps1039 hps1035 hps1031 g1010 hps1008 p2; omega) | omega) (by first | exact oq_1aa5be9e ws1038_78 hi.1 | (clear hps1050 hps1039 hps1035 hps1031 g1010 hps1008 p2; omega) | (clear hps1039 hps1035 hps1031 g1010 hps1008 p2; omega) | omega) (pfv_c hps1039.2.2.2.2.2 (nmr_fm Fs1038 (by decide))) (fun a c ha hc => vl_up ha hc (opc_43 (by rw [hq.1]; omega)) (by decide) (jn_add ey1049))) (by rw [hps1050.1]; exact sk_sk) (by first | exact ws1050_79 | (clear hps1050 hps1039 hps1035 hps1031 g1010 hps1008 p2; omega) | (clear hps1039 hps1035 hps1031 g1010 hps1008 p2; omega) | omega)⟩ (by first | exact ⟨oq_45b593e3 ws1050_78 hi.1 hps1039.1 ws1038_78, oq_93076f9e hps1050.2.1 hps1039.2.1 vs1038 hi.2.1, oq_2b5aa823 g1044 hps1035 g1033 hps1031, oq_817ab47d g1044 hps1035 g1033 hps1031, oq_f9ebf227 g1044 hps1035 g1033 hps1031, oq_45b593e3 ws1050_75 hi.2.2.2.2.2.1 ws1039_75 ws1038_75, hy1049.1, hy1049.2⟩ | omega) (by first | exact qk_me hm (oq_aae77179 ws1050_75 hps1050.2.1 ws1039_75 hps1039.2.1 ws1038_75 vs1038) (oq_a5ea012a g1044 hps1035 g1033 hps1031) | omega) kx
  refine z_aload_n X (x := A 179) rfl (List.Mem.head _) (z_callV X 179 (rm := (rkR (3 * (r) + 1))) (As := []) (st := []) rfl rfl (by decide) rfl (by rw [E.1, E.2.1, E.2.2.1]; exact hU I jFDB (by first | exact p0 | omega) (by first | exact p1 | omega) (by first | exact p2 | omega)) ⟨by rw [E.2.2.2]; exact (show (12 + (3 * (r) + 1)) + 1 ≤ (12 + (3 * (r) + 2)) from oq_2a2b55d9 r), by rw [E.2.2.2]; exact (show 8 + (4 + 11) + (500 + 45 * (3 * (r) + 1)) ≤ (500 + 45 * (3 * (r) + 2)) from oq_6b10c96c r), by rw [E.2.2.2]; exact Nat.le_refl 0, by rw [E.2.2.2]; exact Nat.le_refl 0⟩ (Nat.le_of_ble_eq_true rfl) (fun vv s5 hq => ?_) (fun ee s5 hq => ?_))
  rotate_left
  · obtain ⟨Is5, Fs5, JFDB_s5, e6, hv, hrs5, hps5⟩ := hq; cases hv
  obtain ⟨Is5, Fs5, JFDB_s5, e6, hv, hrs5, hps5⟩ := hq
  have hps5p := And.intro hps5.1 (And.intro hps5.2.1 (hps5.2.2.2.2.2))
  cases hv
  have Gs5 := fm_tq F Fs5 rfl rfl
  have JFDB_s5 : FDB B N s5 := FDB_fm Fs5 (by decide) jFDB
  have b7 := bi_77 Is5
  have ws5_75 : iI s5 75 = iI s 75 := fm_iq Fs5 rfl
  have b8 := bi_79 Is5
  have b9 := bi_78 Is5
  show WS k 4 [(0, .ref (A 179))] [.int (Int32.ofInt e6)] (Wd A dT s5) 0 0
  refine z_store_n X (lv' := [(1, .int (Int32.ofInt e6)), (0, .ref (A 179))]) rfl (by decide) (fun _ h => h) (z_aload_n X (x := A 179) rfl (List.Mem.tail _ (List.Mem.head _)) (z_callV X 179 (rm := rmN 193) (As := []) (st := []) rfl rfl (by decide) rfl (by rw [E.1, E.2.1, E.2.2.1]; exact k_blanks2 G Is5 JFDB_s5 (by first | exact oq_299765ef hps5.2.2.1 p0 | omega)) ⟨by rw [E.2.2.2]; exact (show 7 + 1 ≤ (12 + (3 * (r) + 2)) from oq_eb6f61dd r), by rw [E.2.2.2]; exact (show 8 + (1 + 11) + 121 ≤ (500 + 45 * (3 * (r) + 2)) from oq_fbd0a6ff r), by rw [E.2.2.2]; exact Nat.le_refl 0, by rw [E.2.2.2]; exact Nat.le_refl 0⟩ (Nat.le_of_ble_eq_true rfl) (fun vv s10 hq => ?_) (fun ee s10 hq => ?_)))
  rotate_left
  · obtain ⟨Is10, Fs10, JFDB_s10, hv, hps10⟩ := hq; cases hv
  obtain ⟨Is10, Fs10, JFDB_s10, hv, hps10⟩ := hq
  have hps10p := And.intro hps10.1 (hps10.2.1)
  cases hv
  have Gs10 := fm_tq Gs5 Fs10 rfl rfl
  have JFDB_s10 : FDB B N s10 := FDB_fm Fs10 (by decide) JFDB_s5
  have b12 := bi_77 Is10
  have ws10_75 : iI s10 75 = iI s5 75 := fm_iq Fs10 rfl
  have ws10_79 : iI s10 79 = iI s5 79 := fm_iq Fs10 rfl
  have ws10_78 : iI s10 78 = iI s5 78 := fm_iq Fs10 rfl
  show WS k 9 [(1, .int (Int32.ofInt e6)), (0, .ref (A 179))] [] (Wd A dT s10) 0 0
  refine WS_pq [1, 0] (lv' := [(0, .ref (A 179)), (1, .int (Int32.ofInt e6))]) rfl (L9 ((iI s10 75 - iI s10 77 : Int).toNat + 1) s10 e6 Is10 Gs10 JFDB_s10 ⟨by rw [hps10.1]; exact sk_sk, prm_mvv (prms_0v hps5.2.2.2.2.2) (by rw [hps10.1]; exact sk_sk) (by first | exact ws10_79 | (clear hps10 hps5 p2; omega) | (clear hps5 p2; omega) | omega)⟩ (by first | exact And.intro (oq_1aa5be9e ws10_78 hps5p.1) (And.intro (oq_f8a2cf0e hps10p.2 hps5p.2.1) (And.intro (oq_c3ae77b9 hps10.2.2 hps5.2.2.1 b2.2 hN p0) (And.intro (oq_288de3fc ws10_79 hps5.2.2.2.1 b3.1) (And.intro (oq_66bfb5eb ws10_79 hps10.2.2 hps5.2.2.2.2.1 hN) (And.intro (oq_1aa5be9e ws10_75 ws5_75) (And.intro (hrs5.1) (hrs5.2))))))) | (clear hps10 hps5 p2; omega) | (clear hps5 p2; omega) | omega) (Nat.lt_succ_self _) ?_)
  intro s13 x14 Is13 Fs13 JFDB_s13 Qs13 hs13
  have b15 := bi_77 Is13
  have b16 := bi_75 Is13
  have b17 := bi_79 Is13
  have b18 := bi_78 Is13
  have hNs13 := JFDB_s13.2.1
  have hWs13 := JFDB_s13.2.2
  refine z_load_n X (x := x14) rfl (List.Mem.tail _ (List.Mem.head _)) ?_
  exact w_iret X.1 q hRt rfl (ax_d X (show cdA 209 90 = some (.ireturn, 1, 0, 0, 0) from rfl)) (Nat.zero_le _) (Nat.zero_le _) ⟨_, rfl, Is13, Fs13, JFDB_s13, x14, rfl, ⟨by first | exact hs13.2.2.2.2.2.2.1 | omega, by first | exact hs13.2.2.2.2.2.2.2 | omega⟩, ⟨by first | exact hs13.1 | omega, by first | exact hs13.2.1 | omega, by first | exact hs13.2.2.1 | omega, by first | exact hs13.2.2.2.1 | omega, by first | exact hs13.2.2.2.2.1 | omega, Qs13⟩⟩
theorem k_sumr5 (G : GX l s0 D tys a0 dT) {B : Nat → Int} {N : Int} (r : Nat) : (∀ {s : PS}, Bd s → FDB B N s → (iI s 77 ≤ 203) → (iI s 78 + ((r : Nat) : Int) = 7) → (iI s 78 = 7 → iI s 79 ≠ 0) → CT l s0 D A dT 207 (rkR (3 * (r))) [.ref (A 179)] s (fun o t => Bd t ∧ Fm [77, 79, 80, 78] [] s t ∧ FDB B N t ∧ ∃ e, o = .inl (some (.int (Int32.ofInt e))) ∧ rng e ∧ (iI t 78 = iI s 78 ∧ iI s 77 ≤ iI t 77 ∧ (iI t 77 = iI s 77 ∨ iI t 77 ≤ 202) ∧ (iI s 79 ≠ 0 → iI t 79 ≠ 0) ∧ (iI t 79 = 0 → iI t 77 ≤ iI s 75) ∧ PFv (VLm (NMr s) (Int32.ofInt e)) B N 0 s t))) ∧ (∀ {s : PS}, Bd s → FDB B N s → (iI s 77 ≤ 203) → (iI s 78 + ((r : Nat) : Int) = 7) → (iI s 78 = 7 → iI s 79 ≠ 0) → CT l s0 D A dT 208 (rkR (3 * (r) + 1)) [.ref (A 179)] s (fun o t => Bd t ∧ Fm [77, 79, 80, 78] [] s t ∧ FDB B N t ∧ ∃ e, o = .inl (some (.int (Int32.ofInt e))) ∧ rng e ∧ (iI t 78 = iI s 78 ∧ iI s 77 ≤ iI t 77 ∧ (iI t 77 = iI s 77 ∨ iI t 77 ≤ 202) ∧ (iI s 79 ≠ 0 → iI t 79 ≠ 0) ∧ (iI t 79 = 0 → iI t 77 ≤ iI s 75) ∧ PFv (VLm (NMr s) (Int32.ofInt e)) B N 1 s t))) ∧ (∀ {s : PS}, Bd s → FDB B N s → (iI s 77 ≤ 203) → (iI s 78 + ((r : Nat) : Int) = 7) → (iI s 78 = 7 → iI s 79 ≠ 0) → CT l s0 D A dT 209 (rkR (3 * (r) + 2)) [.ref (A 179)] s (fun o t => Bd t ∧ Fm [77, 79, 80, 78] [] s t ∧ FDB B N t ∧ ∃ e, o = .inl (some (.int (Int32.ofInt e))) ∧ rng e ∧ (iI t 78 = iI s 78 ∧ iI s 77 ≤ iI t 77 ∧ (iI t 77 = iI s 77 ∨ iI t 77 ≤ 202) ∧ (iI s 79 ≠ 0 → iI t 79 ≠ 0) ∧ (iI t 79 = 0 → iI t 77 ≤ iI s 75) ∧ PFv (VLm (NMr s) (Int32.ofInt e)) B N 3 s t))) := by
  induction r with
  | zero =>
    have hU : ∀ {s : PS}, Bd s → FDB B N s → (iI s 77 ≤ 203) → (iI s 78 + ((0 : Nat) : Int) = 7) → (iI s 78 = 7 → iI s 79 ≠ 0) → CT l s0 D A dT 207 (rkR (3 * (0))) [.ref (A 179)] s (fun o t => Bd t ∧ Fm [77, 79, 80, 78] [] s t ∧ FDB B N t ∧ ∃ e, o = .inl (some (.int (Int32.ofInt e))) ∧ rng e ∧ (iI t 78 = iI s 78 ∧ iI s 77 ≤ iI t 77 ∧ (iI t 77 = iI s 77 ∨ iI t 77 ≤ 202) ∧ (iI s 79 ≠ 0 → iI t 79 ≠ 0) ∧ (iI t 79 = 0 → iI t 77 ≤ iI s 75) ∧ PFv (VLm (NMr s) (Int32.ofInt e)) B N 0 s t)) := fun {_} I j p0 p1 p2 => k_unit05 G I j p0 p1 p2
    have hP : ∀ {s : PS}, Bd s → FDB B N s → (iI s 77 ≤ 203) → (iI s 78 + ((0 : Nat) : Int) = 7) → (iI s 78 = 7 → iI s 79 ≠ 0) → CT l s0 D A dT 208 (rkR (3 * (0) + 1)) [.ref (A 179)] s (fun o t => Bd t ∧ Fm [77, 79, 80, 78] [] s t ∧ FDB B N t ∧ ∃ e, o = .inl (some (.int (Int32.ofInt e))) ∧ rng e ∧ (iI t 78 = iI s 78 ∧ iI s 77 ≤ iI t 77 ∧ (iI t 77 = iI s 77 ∨ iI t 77 ≤ 202) ∧ (iI s 79 ≠ 0 → iI t 79 ≠ 0) ∧ (iI t 79 = 0 → iI t 77 ≤ iI s 75) ∧ PFv (VLm (NMr s) (Int32.ofInt e)) B N 1 s t)) := fun {_} I j p0 p1 p2 => k_productS5 (r := 0) G hU I j p0 p1 p2
    exact ⟨hU, hP, fun {_} I j p0 p1 p2 => k_sumS5 (r := 0) G hP I j p0 p1 p2⟩
  | succ r ih =>
    have hU : ∀ {s : PS}, Bd s → FDB B N s → (iI s 77 ≤ 203) → (iI s 78 + ((r + 1 : Nat) : Int) = 7) → (iI s 78 = 7 → iI s 79 ≠ 0) → CT l s0 D A dT 207 (rkR (3 * (r + 1))) [.ref (A 179)] s (fun o t => Bd t ∧ Fm [77, 79, 80, 78] [] s t ∧ FDB B N t ∧ ∃ e, o = .inl (some (.int (Int32.ofInt e))) ∧ rng e ∧ (iI t 78 = iI s 78 ∧ iI s 77 ≤ iI t 77 ∧ (iI t 77 = iI s 77 ∨ iI t 77 ≤ 202) ∧ (iI s 79 ≠ 0 → iI t 79 ≠ 0) ∧ (iI t 79 = 0 → iI t 77 ≤ iI s 75) ∧ PFv (VLm (NMr s) (Int32.ofInt e)) B N 0 s t)) := fun {_} I j p0 p1 p2 => k_unitS5 G ih.2.2 I j p0 p1 p2
    have hP : ∀ {s : PS}, Bd s → FDB B N s → (iI s 77 ≤ 203) → (iI s 78 + ((r + 1 : Nat) : Int) = 7) → (iI s 78 = 7 → iI s 79 ≠ 0) → CT l s0 D A dT 208 (rkR (3 * (r + 1) + 1)) [.ref (A 179)] s (fun o t => Bd t ∧ Fm [77, 79, 80, 78] [] s t ∧ FDB B N t ∧ ∃ e, o = .inl (some (.int (Int32.ofInt e))) ∧ rng e ∧ (iI t 78 = iI s 78 ∧ iI s 77 ≤ iI t 77 ∧ (iI t 77 = iI s 77 ∨ iI t 77 ≤ 202) ∧ (iI s 79 ≠ 0 → iI t 79 ≠ 0) ∧ (iI t 79 = 0 → iI t 77 ≤ iI s 75) ∧ PFv (VLm (NMr s) (Int32.ofInt e)) B N 1 s t)) := fun {_} I j p0 p1 p2 => k_productS5 (r := r + 1) G hU I j p0 p1 p2
    exact ⟨hU, hP, fun {_} I j p0 p1 p2 => k_sumS5 (r := r + 1) G hP I j p0 p1 p2⟩
end M87q
