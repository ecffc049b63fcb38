theorem oq_31e518ae {a0 : Int} (h0 : a0 ≤ 1) (h1 : 0 ≤ a0) : (a0 = 0 ∨ a0 = 1) := by omega
theorem oq_fa4e5087 {a0 : Int} (h0 : 0 ≤ a0) : (-2147483648) ≤ a0 := by omega
theorem oq_22e1e6b0 {a0 : Int} (h0 : a0 ≤ 1) : a0 ≤ 2147483647 := by omega
theorem oq_eb048f71 {a0 a1 a2 a3 : Int} (h0 : a0 ≤ 1) (h1 : 0 ≤ a0) (h2 : ((a1 < a2 ∧ a0 = 0) ∨ ((a2 ≤ a1 ∧ (a3 < a1 ∧ a0 = 0)) ∨ (a2 ≤ a1 ∧ (a1 ≤ a3 ∧ a0 = 1))))) : ((a0 = 1 ∧ (a2 ≤ a1 ∧ a1 ≤ a3)) ∨ (a0 = 0 ∧ (a1 < a2 ∨ a3 < a1))) := by omega
theorem oq_08c8a296 {a0 a1 : Int} (h0 : a0 ≤ 1) (h1 : 0 ≤ a0) (h2 : ((a1 < 48 ∧ a0 = 0) ∨ ((48 ≤ a1 ∧ (57 < a1 ∧ a0 = 0)) ∨ (48 ≤ a1 ∧ (a1 ≤ 57 ∧ a0 = 1))))) : ((a0 = 1 ∧ (48 ≤ a1 ∧ a1 ≤ 57)) ∨ (a0 = 0 ∧ (a1 < 48 ∨ 57 < a1))) := by omega
theorem oq_bde653e9 {a0 : Int} (h0 : (a0 = 0 ∨ a0 = 1)) : (-2147483648) ≤ a0 := by omega
theorem oq_4ad2cb8b {a0 : Int} (h0 : (a0 = 0 ∨ a0 = 1)) : a0 ≤ 2147483647 := by omega
theorem oq_eedb2150 {a0 a1 : Int} (h0 : a0 ≤ 1) (h1 : 0 ≤ a0) (h2 : ((a1 = 0 ∧ a0 = 0) ∨ (a1 ≠ 0 ∧ a0 = 1))) (h3 : 0 ≤ a1) : ((a0 = 0 ∧ a1 = 0) ∨ (a0 = 1 ∧ a1 ≠ 0)) := by omega
theorem oq_3734ab87 {a0 a1 : Int} (h0 : a0 = 0) : (a0 = 1 → a1 = 1) := by omega
theorem oq_03aa4181 {a0 a1 : Int}  : (a0 = 0 → a1 = a1) := by omega
theorem oq_438aa68f {a0 a1 : Int} (h0 : a0 ≤ 1) (h1 : ((a1 = 0 ∧ a0 = 0) ∨ (a1 ≠ 0 ∧ a0 = 1))) (h2 : 0 ≤ a1) (h3 : a1 ≠ 0) : (a0 = 0 ∨ a0 = 1) := by omega
theorem oq_3ad403e6 {a0 a1 : Int} (h0 : a0 ≤ 1) (h1 : ((a1 = 0 ∧ a0 = 0) ∨ (a1 ≠ 0 ∧ a0 = 1))) (h2 : 0 ≤ a1) (h3 : a1 ≠ 0) : ((a0 = 0 ∧ a1 = 0) ∨ (a0 = 1 ∧ a1 ≠ 0)) := by omega
theorem oq_22e5e821 {a0 a1 a2 : Int} (h0 : a0 ≤ 1) (h1 : ((a1 = 0 ∧ a0 = 0) ∨ (a1 ≠ 0 ∧ a0 = 1))) (h2 : 0 ≤ a1) (h3 : a1 ≠ 0) : (a2 = 1 → a0 = 1) := by omega
theorem oq_0da2dd66 {a0 a1 : Int} (h0 : a0 ≠ 0) : (a0 = 0 → a1 = a1) := by omega
theorem oq_2a6e3b50 {a0 : Int} (h0 : 1 ≤ a0) : 0 ≤ a0 := by omega
theorem oq_9462313e {a0 : Int} (h0 : 1 ≤ a0) : (-2147483648) ≤ a0 := by omega
theorem oq_c5520c83 {a0 : Int} (h0 : a0 ≤ 3) : a0 ≤ 2147483647 := by omega
theorem oq_4f030bbc {a0 a1 a2 : Int} (h0 : a0 ≤ 1) (h1 : ((a1 = 0 ∧ a0 = 0) ∨ (a1 ≠ 0 ∧ a0 = 1))) (h2 : a1 = a2) (h3 : 1 ≤ a2) : (a0 = 0 ∨ a0 = 1) := by omega
theorem oq_e232e10b {a0 a1 a2 : Int} (h0 : a0 ≤ 1) (h1 : ((a1 = 0 ∧ a0 = 0) ∨ (a1 ≠ 0 ∧ a0 = 1))) (h2 : a1 = a2) (h3 : 1 ≤ a2) : ((a0 = 0 ∧ a1 = 0) ∨ (a0 = 1 ∧ a1 ≠ 0)) := by omega
theorem oq_b3466af9 {a0 a1 a2 a3 : Int} (h0 : a0 ≤ 1) (h1 : ((a1 = 0 ∧ a0 = 0) ∨ (a1 ≠ 0 ∧ a0 = 1))) (h2 : a1 = a2) (h3 : 1 ≤ a2) : (a3 = 1 → a0 = 1) := by omega
theorem oq_6f3bd9cf {a0 a1 a2 : Int} (h0 : a0 ≠ 0) : (a0 = 0 → a1 = a2) := by omega
theorem oq_f7e7bb0e {a0 : Int} (h0 : a0 ≤ 9) : a0 ≤ 2147483647 := by omega
theorem oq_97ee2c2a {a0 : Int} (h0 : (-1) ≤ a0) : (-2147483648) ≤ a0 := by omega
theorem oq_5a8480eb {a0 : Int} (h0 : a0 ≤ 400) : a0 ≤ 2147483647 := by omega
theorem oq_ed8779e6 {a0 a1 a2 : Int} (h0 : a0 = a1) (h1 : a1 = a2) (h2 : 1 ≤ a2) : a0 ≠ 0 := by omega
theorem oq_e9a2ed3a {a0 a1 a2 a3 a4 a5 : Int} (h0 : ((a0 < a1 ∧ ((0 ≤ a2 ∧ a2 ≤ 1) ∧ (a2 ≠ 0 ∧ ((0 ≤ a3 ∧ a3 ≤ 255) ∧ a4 = a3)))) ∨ ((a0 < a1 ∧ ((0 ≤ a2 ∧ a2 ≤ 1) ∧ (a2 = 0 ∧ ((0 ≤ a5 ∧ a5 ≤ 255) ∧ a4 = a5)))) ∨ (a1 ≤ a0 ∧ a4 = (-1))))) : (-2147483648) ≤ a4 := by omega
theorem oq_bae66a67 {a0 a1 a2 a3 a4 a5 : Int} (h0 : ((a0 < a1 ∧ ((0 ≤ a2 ∧ a2 ≤ 1) ∧ (a2 ≠ 0 ∧ ((0 ≤ a3 ∧ a3 ≤ 255) ∧ a4 = a3)))) ∨ ((a0 < a1 ∧ ((0 ≤ a2 ∧ a2 ≤ 1) ∧ (a2 = 0 ∧ ((0 ≤ a5 ∧ a5 ≤ 255) ∧ a4 = a5)))) ∨ (a1 ≤ a0 ∧ a4 = (-1))))) : a4 ≤ 2147483647 := by omega
theorem oq_736808e1 {a0 a1 a2 a3 a4 a5 : Int} (h0 : ((a0 < a1 ∧ ((0 ≤ a2 ∧ a2 ≤ 1) ∧ (a2 ≠ 0 ∧ ((0 ≤ a3 ∧ a3 ≤ 255) ∧ a4 = a3)))) ∨ ((a0 < a1 ∧ ((0 ≤ a2 ∧ a2 ≤ 1) ∧ (a2 = 0 ∧ ((0 ≤ a5 ∧ a5 ≤ 255) ∧ a4 = a5)))) ∨ (a1 ≤ a0 ∧ a4 = (-1))))) : ((a1 ≤ a0 ∧ a4 = (-1)) ∨ (a0 < a1 ∧ (0 ≤ a4 ∧ a4 ≤ 255))) := by omega
theorem oq_6fca3d72 {a0 a1 : Int} (h0 : a0 < a1) (h1 : a1 ≤ 200) : a0 < 200 := by omega
theorem oq_b70289d5 {a0 a1 : Int} (h0 : a0 < a1) (h1 : a1 ≤ 200) : (a0 : Int).toNat < 200 := by omega
theorem oq_52af2b96 {a0 : Int} (h0 : a0 ≤ 200) : a0 ≤ 2147483647 := by omega
theorem oq_d5af8cc9 {a0 a1 a2 a3 a4 a5 : Int} (h0 : a0 = a1) (h1 : a2 = a3) (h2 : a1 = a4) (h3 : a5 = a2) (h4 : a4 = a5) : a0 = a3 := by omega
theorem oq_264718cb {a0 a1 a2 a3 : Int} (h0 : a0 = a1) (h1 : a1 = a2) (h2 : a2 = a3) (h3 : a3 = 0) : a0 = 0 := by omega
theorem oq_cd9cbf39 {a0 a1 a2 : Int} (h0 : a0 = a1) (h1 : a1 = a2) (h2 : a2 = 0) : a0 = 0 := by omega
theorem oq_e5e5d3d6 {a0 a1 : Int} (h0 : a0 = a1) (h1 : a1 = 0) : a0 = 0 := by omega
theorem oq_63ad3ecb {a0 a1 a2 a3 : Int} (h0 : a0 = 0) (h1 : (a1 = 1 → a0 = 1)) (h2 : a1 ≤ 1) (h3 : ((a2 ≠ 0 ∧ a1 = 0) ∨ (a2 = 0 ∧ a1 = 1))) (h4 : ((a2 = 1 ∧ (0 ≤ a3 ∧ a3 ≤ 9)) ∨ (a2 = 0 ∧ (a3 < 0 ∨ 9 < a3)))) : 0 ≤ a3 := by omega
theorem oq_98d377b2 {a0 a1 a2 a3 : Int} (h0 : a0 = 0) (h1 : (a1 = 1 → a0 = 1)) (h2 : a1 ≤ 1) (h3 : ((a2 ≠ 0 ∧ a1 = 0) ∨ (a2 = 0 ∧ a1 = 1))) (h4 : ((a2 = 1 ∧ (0 ≤ a3 ∧ a3 ≤ 9)) ∨ (a2 = 0 ∧ (a3 < 0 ∨ 9 < a3)))) : a3 ≤ 9 := by omega
theorem oq_d2f74293 {a0 a1 a2 a3 : Int} (h0 : a0 = 0) (h1 : (a1 = 1 → a0 = 1)) (h2 : a1 ≤ 1) (h3 : ((a2 ≠ 0 ∧ a1 = 0) ∨ (a2 = 0 ∧ a1 = 1))) (h4 : ((a2 = 1 ∧ (0 ≤ a3 ∧ a3 ≤ 127)) ∨ (a2 = 0 ∧ (a3 < 0 ∨ 127 < a3)))) : 0 ≤ a3 := by omega
theorem oq_bb641c4c {a0 a1 a2 a3 : Int} (h0 : a0 = 0) (h1 : (a1 = 1 → a0 = 1)) (h2 : a1 ≤ 1) (h3 : ((a2 ≠ 0 ∧ a1 = 0) ∨ (a2 = 0 ∧ a1 = 1))) (h4 : ((a2 = 1 ∧ (0 ≤ a3 ∧ a3 ≤ 127)) ∨ (a2 = 0 ∧ (a3 < 0 ∨ 127 < a3)))) : a3 < 128 := by omega
theorem oq_48be0e30 {a0 a1 a2 a3 : Int} (h0 : a0 = 0) (h1 : (a1 = 1 → a0 = 1)) (h2 : a1 ≤ 1) (h3 : ((a2 ≠ 0 ∧ a1 = 0) ∨ (a2 = 0 ∧ a1 = 1))) (h4 : ((a2 = 1 ∧ (0 ≤ a3 ∧ a3 ≤ 127)) ∨ (a2 = 0 ∧ (a3 < 0 ∨ 127 < a3)))) : (a3 : Int).toNat < 128 := by omega
theorem oq_65cab3da {a0 a1 : Int} (h0 : a0 = 0) (h1 : (1 = 1 → a0 = 1)) : 0 ≤ a1 := by omega
theorem oq_28d92795 {a0 a1 : Int} (h0 : a0 ≠ 0) (h1 : ((a0 = 1 ∧ (0 ≤ a1 ∧ a1 ≤ 7)) ∨ (a0 = 0 ∧ (a1 < 0 ∨ 7 < a1)))) : 0 ≤ a1 := by omega
theorem oq_246a8e49 {a0 a1 : Int} (h0 : a0 ≠ 0) (h1 : ((a0 = 1 ∧ (0 ≤ a1 ∧ a1 ≤ 7)) ∨ (a0 = 0 ∧ (a1 < 0 ∨ 7 < a1)))) : a1 < 8 := by omega
theorem oq_9a20133a {a0 a1 : Int} (h0 : a0 ≠ 0) (h1 : ((a0 = 1 ∧ (0 ≤ a1 ∧ a1 ≤ 7)) ∨ (a0 = 0 ∧ (a1 < 0 ∨ 7 < a1)))) : (a1 : Int).toNat < 8 := by omega
theorem oq_c74211cc {a0 a1 : Int} (h0 : a0 = 0) (h1 : (1 = 1 → a0 = 1)) : 1 ≤ a1 := by omega
theorem oq_62abe554 {a0 a1 a2 a3 : Int} (h0 : ((a0 ≠ 0 ∧ ((1 ≤ a1 ∧ a1 ≤ 8) ∧ a2 = a1)) ∨ (a0 = 0 ∧ ((1 ≤ a3 ∧ a3 ≤ 24) ∧ a2 = a3)))) : (-2147483648) ≤ a2 := by omega
theorem oq_c46c61bd {a0 a1 a2 a3 : Int} (h0 : ((a0 ≠ 0 ∧ ((1 ≤ a1 ∧ a1 ≤ 8) ∧ a2 = a1)) ∨ (a0 = 0 ∧ ((1 ≤ a3 ∧ a3 ≤ 24) ∧ a2 = a3)))) : a2 ≤ 2147483647 := by omega
theorem oq_7a39abe9 {a0 a1 a2 : Int} (h0 : a0 = 0) (h1 : a1 = 0) (h2 : ((a1 = 1 ∧ (0 ≤ a0 ∧ a0 ≤ 1)) ∨ (a1 = 0 ∧ (a0 < 0 ∨ 1 < a0)))) : 1 ≤ a2 := by omega
theorem oq_fc8cbade {a0 a1 a2 : Int} (h0 : a0 = 0) (h1 : a1 = 0) (h2 : ((a1 = 1 ∧ (0 ≤ a0 ∧ a0 ≤ 1)) ∨ (a1 = 0 ∧ (a0 < 0 ∨ 1 < a0)))) : a2 ≤ 24 := by omega
theorem oq_ebc40354 {a0 : Int} (h0 : 8 ≤ a0) : (-2147483648) ≤ a0 := by omega
theorem oq_5bcd337f {a0 : Int} (h0 : a0 ≤ 24) : a0 ≤ 2147483647 := by omega
theorem oq_e4aca38c {a0 : Int} (h0 : (a0 = 0 ∨ a0 = 1)) : 0 ≤ a0 := by omega
theorem oq_14617724 {a0 : Int} (h0 : (a0 = 0 ∨ a0 = 1)) : a0 ≤ 1 := by omega
theorem oq_fac8de0c {a0 : Int} (h0 : a0 ≤ 6) (h1 : a0 ≠ 6) : a0 < 6 := by omega
theorem oq_c2c3ef0b {a0 : Int} (h0 : a0 < 0) : a0 ≤ 16777215 := by omega
theorem oq_54f49eb5 {a0 : Int} (h0 : 0 ≤ a0) : 0 ≤ (a0 + 1) := by omega
theorem oq_6c19c907 {a0 a1 : Int} (h0 : a0 = a1) (h1 : a1 ≤ 6) (h2 : a1 ≠ 6) : (a0 + 1) ≤ 6 := by omega
theorem oq_74de1e16 {a0 : Int} (h0 : 0 ≤ a0) : (-2147483648) ≤ (a0 + 1) := by omega
theorem oq_5fe14c36 {a0 : Int} (h0 : a0 ≤ 6) : (a0 + 1) ≤ 2147483647 := by omega
theorem oq_c1e961c7 {a0 : Int} (h0 : 0 ≤ a0) : (-2147483648) ≤ (a0 - 1) := by omega
theorem oq_b383b26c {a0 : Int} (h0 : a0 ≤ 6) : (a0 - 1) ≤ 2147483647 := by omega
/-! The model: methods without loops -/
theorem fm_ts {L M L' M' : List Nat} {s t u : PS} (h : Fm L M s t) (g : Fm L' M' t u) (h1 : ∀ k ∈ L', k ∈ L) (h2 : ∀ k ∈ M', k ∈ M) : Fm L M s u :=
  ⟨fun k hk => (g.1 k (fun q => hk (h1 k q))).trans (h.1 k hk), fun a ha => (g.2.1 a (fun q => ha (h2 a q))).trans (h.2.1 a ha), g.2.2.1.trans h.2.2.1, fl_ts h.2.2.2 g.2.2.2 h1 h2⟩
section M31
variable {l : Launch} {s0 : State} {D : va_G} {tys : List (ClassId × FieldType)} {a0 : Array Value} {A : Nat → Nat} {dT : Nat → ClassId} {s : PS}
theorem k_in (G : GX l s0 D tys a0 dT) (I : Bd s) {x y z : Int} (p0 : rng x) (p1 : rng y) (p2 : rng z) : CT l s0 D A dT 188 (rmN 188) [.int (Int32.ofInt x), .int (Int32.ofInt y), .int (Int32.ofInt z)] s (fun o t => Bd t ∧ Fm [] [] s t ∧ ∃ e, o = .inl (some (.int (Int32.ofInt e))) ∧ rng e ∧ ((e = 1 ∧ y ≤ x ∧ x ≤ z) ∨ (e = 0 ∧ (x < y ∨ z < x)))) := by
  refine ct_of G (by decide) (Nat.le_of_ble_eq_true rfl) (fun k X E hRt hXt q => ?_)
  show WS k 0 [(0, .int (Int32.ofInt x)), (1, .int (Int32.ofInt y)), (2, .int (Int32.ofInt z))] [] _ 0 0
  have F : Fm [] [] s s := fm_rf _ _ s
  refine z_load_n X (x := x) rfl (List.Mem.head _) (z_load_n X (x := y) rfl (List.Mem.tail _ (List.Mem.head _)) ?_)
  have N1 : ∀ e2 : Int, (((x < y) ∧ e2 = 0) ∨ ((y ≤ x) ∧ (z < x) ∧ e2 = 0) ∨ ((y ≤ x) ∧ (x ≤ z) ∧ e2 = 1)) → WS k 15 [(0, .int (Int32.ofInt x)), (1, .int (Int32.ofInt y)), (2, .int (Int32.ofInt z))] [.int (Int32.ofInt e2)] (Wd A dT s) 0 0 := by
    intro e2 he2
    have re2 : 0 ≤ e2 ∧ e2 ≤ 1 := by first | (clear he2; omega) | omega
    exact w_iret X.1 q hRt (nar_ret (by first | exact oq_31e518ae re2.2 re2.1 | omega)) (ax_d X (show cdA 188 15 = some (.ireturn, 1, 0, 0, 0) from rfl)) (Nat.zero_le _) (Nat.zero_le _) ⟨_, rfl, I, F, e2, rfl, ⟨by first | exact oq_fa4e5087 re2.1 | omega, by first | exact oq_22e1e6b0 re2.2 | omega⟩, by first | exact oq_eb048f71 re2.2 re2.1 he2 | omega⟩
  refine z_icmp_lt X (t := 14) rfl rfl ⟨by first | exact p0.1 | omega, by first | exact p0.2 | omega⟩ ⟨by first | exact p1.1 | omega, by first | exact p1.2 | omega⟩ (fun g3 => ?_) (fun g3 => ?_)
  ·
    exact z_const X rfl (N1 _ (Or.inl ⟨g3, rfl⟩))
  ·
    refine z_load_n X (x := x) rfl (List.Mem.head _) (z_load_n X (x := z) rfl (List.Mem.tail _ (List.Mem.tail _ (List.Mem.head _))) (z_icmp_gt X (t := 14) rfl rfl ⟨by first | exact p0.1 | omega, by first | exact p0.2 | omega⟩ ⟨by first | exact p2.1 | omega, by first | exact p2.2 | omega⟩ (fun g4 => ?_) (fun g4 => ?_)))
    ·
      exact z_const X rfl (N1 _ (Or.inr (Or.inl ⟨g3, g4, rfl⟩)))
    ·
      exact z_const X rfl (z_goto X (t := 15) rfl rfl (N1 _ (Or.inr (Or.inr (⟨g3, g4, rfl⟩)))))
theorem k_bad (G : GX l s0 D tys a0 dT) (I : Bd s) {x y : Int} (p0 : x = 0 ∨ x = 1) (p1 : 1 ≤ y ∧ y ≤ 3) : CT l s0 D A dT 187 (rmN 187) [.ref (A 179), .int (Int32.ofInt x), .int (Int32.ofInt y)] s (fun o t => Bd t ∧ Fm [73] [] s t ∧ ∃ e, o = .inl (some (.int (Int32.ofInt e))) ∧ rng e ∧ (((e = 0 ∧ iI t 73 = 0) ∨ (e = 1 ∧ iI t 73 ≠ 0)) ∧ (x = 1 → e = 1) ∧ (x = 0 → iI t 73 = iI s 73))) := by
  refine ct_of G (by decide) (Nat.le_of_ble_eq_true rfl) (fun k X E hRt hXt q => ?_)
  show WS k 0 [(0, .ref (A 179)), (1, .int (Int32.ofInt x)), (2, .int (Int32.ofInt y))] [] _ 0 0
  have F : Fm [73] [] s s := fm_rf _ _ s
  have b1 := bi_73 I
  refine z_load_n X (x := x) rfl (List.Mem.tail _ (List.Mem.head _)) (z_if_eq X (t := 16) rfl rfl ⟨by first | exact oq_bde653e9 p0 | omega, by first | exact oq_4ad2cb8b p0 | omega⟩ (fun g2 => ?_) (fun g2 => ?_))
  ·
    refine z_aload_n X (x := A 179) rfl (List.Mem.head _) (z_getI X 179 rfl (c518_ok rfl) rfl rfl ?_)
    have b3 := bi_73 I
    have N4 : ∀ e5 : Int, ((((iI s 73) = 0) ∧ e5 = 0) ∨ (((iI s 73) ≠ 0) ∧ e5 = 1)) → WS k 28 [(0, .ref (A 179)), (1, .int (Int32.ofInt x)), (2, .int (Int32.ofInt y))] [.int (Int32.ofInt e5)] (Wd A dT s) 0 0 := by
      intro e5 he5
      have re5 : 0 ≤ e5 ∧ e5 ≤ 1 := by first | (clear he5 p0; omega) | (clear p0; omega) | omega
      exact w_iret X.1 q hRt (nar_ret (by first | exact oq_31e518ae re5.2 re5.1 | omega)) (ax_d X (show cdA 187 28 = some (.ireturn, 1, 0, 0, 0) from rfl)) (Nat.zero_le _) (Nat.zero_le _) ⟨_, rfl, I, F, e5, rfl, ⟨by first | exact oq_fa4e5087 re5.1 | omega, by first | exact oq_22e1e6b0 re5.2 | omega⟩, by first | exact ⟨oq_eedb2150 re5.2 re5.1 he5 b3.1, oq_3734ab87 g2, oq_03aa4181⟩ | omega⟩
    refine z_if_eq X (t := 27) rfl rfl (rng_to _) (fun g6 => ?_) (fun g6 => ?_)
    ·
      exact z_const X rfl (N4 _ (Or.inl ⟨g6, rfl⟩))
    ·
      exact z_const X rfl (z_goto X (t := 28) rfl rfl (N4 _ (Or.inr (⟨g6, rfl⟩))))
  ·
    refine z_aload_n X (x := A 179) rfl (List.Mem.head _) (z_getI X 179 rfl (c518_ok rfl) rfl rfl ?_)
    have b7 := bi_73 I
    refine z_if_ne X (t := 16) rfl rfl (rng_to _) (fun g8 => ?_) (fun g8 => ?_)
    ·
      refine z_aload_n X (x := A 179) rfl (List.Mem.head _) (z_getI X 179 rfl (c518_ok rfl) rfl rfl ?_)
      have b9 := bi_73 I
      have N10 : ∀ e11 : Int, ((((iI s 73) = 0) ∧ e11 = 0) ∨ (((iI s 73) ≠ 0) ∧ e11 = 1)) → WS k 28 [(0, .ref (A 179)), (1, .int (Int32.ofInt x)), (2, .int (Int32.ofInt y))] [.int (Int32.ofInt e11)] (Wd A dT s) 0 0 := by
        intro e11 he11
        have re11 : 0 ≤ e11 ∧ e11 ≤ 1 := by first | (clear he11 g8 g2 p0; omega) | (clear g8 g2 p0; omega) | omega
        exact w_iret X.1 q hRt (nar_ret (by first | exact oq_438aa68f re11.2 he11 b9.1 g8 | omega)) (ax_d X (show cdA 187 28 = some (.ireturn, 1, 0, 0, 0) from rfl)) (Nat.zero_le _) (Nat.zero_le _) ⟨_, rfl, I, F, e11, rfl, ⟨by first | exact oq_fa4e5087 re11.1 | omega, by first | exact oq_22e1e6b0 re11.2 | omega⟩, by first | exact ⟨oq_3ad403e6 re11.2 he11 b9.1 g8, oq_22e5e821 re11.2 he11 b9.1 g8, oq_0da2dd66 g2⟩ | omega⟩
      refine z_if_eq X (t := 27) rfl rfl (rng_to _) (fun g12 => ?_) (fun g12 => ?_)
      ·
        exact z_const X rfl (N10 _ (Or.inl ⟨g12, rfl⟩))
      ·
        exact z_const X rfl (z_goto X (t := 28) rfl rfl (N10 _ (Or.inr (⟨g12, rfl⟩))))
    ·
      refine z_aload_n X (x := A 179) rfl (List.Mem.head _) (z_load_n X (x := y) rfl (List.Mem.tail _ (List.Mem.tail _ (List.Mem.head _))) (s_putI X 179 rfl (c518_ok rfl) rfl rfl (by decide) rfl rfl rfl (wd_gen (fun s13 hs13 => ?_))))
      have Is13 : Bd s13 := eqB hs13 (bd_I I (show (0 : Int) ≤ y ∧ y ≤ 3 by first | exact ⟨oq_2a6e3b50 p1.1, p1.2⟩ | omega) ⟨by first | exact oq_9462313e p1.1 | omega, by first | exact oq_c5520c83 p1.2 | omega⟩)
      have Fs13 := eqF hs13 (fm_I F (inl_ok (a := 73) rfl))
      have vs13 : iI s13 73 = y := eqI hs13 (iI_u ⟨by first | exact oq_9462313e p1.1 | omega, by first | exact oq_c5520c83 p1.2 | omega⟩)
      refine z_aload_n X (x := A 179) rfl (List.Mem.head _) (z_getI X 179 rfl (c518_ok rfl) rfl rfl ?_)
      have b14 := bi_73 Is13
      have N15 : ∀ e16 : Int, ((((iI s13 73) = 0) ∧ e16 = 0) ∨ (((iI s13 73) ≠ 0) ∧ e16 = 1)) → WS k 28 [(0, .ref (A 179)), (1, .int (Int32.ofInt x)), (2, .int (Int32.ofInt y))] [.int (Int32.ofInt e16)] (Wd A dT s13) 0 0 := by
        intro e16 he16
        have re16 : 0 ≤ e16 ∧ e16 ≤ 1 := by first | (clear he16 g2 p0; omega) | (clear g2 p0; omega) | omega
        exact w_iret X.1 q hRt (nar_ret (by first | exact oq_4f030bbc re16.2 he16 vs13 p1.1 | omega)) (ax_d X (show cdA 187 28 = some (.ireturn, 1, 0, 0, 0) from rfl)) (Nat.zero_le _) (Nat.zero_le _) ⟨_, rfl, Is13, Fs13, e16, rfl, ⟨by first | exact oq_fa4e5087 re16.1 | omega, by first | exact oq_22e1e6b0 re16.2 | omega⟩, by first | exact ⟨oq_e232e10b re16.2 he16 vs13 p1.1, oq_b3466af9 re16.2 he16 vs13 p1.1, oq_6f3bd9cf g2⟩ | omega⟩
      refine z_if_eq X (t := 27) rfl rfl (rng_to _) (fun g17 => ?_) (fun g17 => ?_)
      ·
        exact z_const X rfl (N15 _ (Or.inl ⟨g17, rfl⟩))
      ·
        exact z_const X rfl (z_goto X (t := 28) rfl rfl (N15 _ (Or.inr (⟨g17, rfl⟩))))
theorem k_fault (G : GX l s0 D tys a0 dT) (I : Bd s)  : CT l s0 D A dT 215 (rmN 215) [.ref (A 179)] s (fun o t => Bd t ∧ Fm [73] [] s t ∧ ∃ e, o = .inl (some (.int (Int32.ofInt e))) ∧ rng e ∧ (True)) := by
  refine ct_of G (by decide) (Nat.le_of_ble_eq_true rfl) (fun k X E hRt hXt q => ?_)
  show WS k 0 [(0, .ref (A 179))] [] _ 0 0
  have F : Fm [73] [] s s := fm_rf _ _ s
  refine z_aload_n X (x := A 179) rfl (List.Mem.head _) (z_const X rfl (s_putI X 179 rfl (c518_ok rfl) rfl rfl (by decide) rfl rfl rfl (wd_gen (fun s1 hs1 => ?_))))
  have Is1 : Bd s1 := eqB hs1 (bd_I I (show (0 : Int) ≤ 0 ∧ 0 ≤ 3 by first | exact ⟨by decide, by decide⟩ | omega) (by decide))
  have Fs1 := eqF hs1 (fm_I F (inl_ok (a := 73) rfl))
  have vs1 : iI s1 73 = 0 := eqI hs1 (iI_u (by decide))
  refine z_aload_n X (x := A 179) rfl (List.Mem.head _) (z_getI X 179 rfl (c518_ok rfl) rfl rfl ?_)
  have b2 := bi_76 Is1
  exact w_iret X.1 q hRt rfl (ax_d X (show cdA 215 9 = some (.ireturn, 1, 0, 0, 0) from rfl)) (Nat.zero_le _) (Nat.zero_le _) ⟨_, rfl, Is1, Fs1, (iI s1 76), rfl, (rng_to _), trivial⟩
theorem k_length (G : GX l s0 D tys a0 dT) (I : Bd s) {x : Int} (p0 : rng x) : CT l s0 D A dT 244 (rmN 244) [.ref (A 179), .int (Int32.ofInt x)] s (fun o t => Bd t ∧ Fm [73, 95] [] s t ∧ ∃ e, o = .inl (some (.int (Int32.ofInt e))) ∧ rng e ∧ (True)) := by
  refine ct_of G (by decide) (Nat.le_of_ble_eq_true rfl) (fun k X E hRt hXt q => ?_)
  show WS k 0 [(0, .ref (A 179)), (1, .int (Int32.ofInt x))] [] _ 0 0
  have F : Fm [73, 95] [] s s := fm_rf _ _ s
  have b1 := bi_73 I
  refine z_aload_n X (x := A 179) rfl (List.Mem.head _) (z_const X rfl (s_putI X 179 rfl (c518_ok rfl) rfl rfl (by decide) rfl rfl rfl (wd_gen (fun s2 hs2 => ?_))))
  have Is2 : Bd s2 := eqB hs2 (bd_I I (show (0 : Int) ≤ 0 ∧ 0 ≤ 3 by first | exact ⟨by decide, by decide⟩ | omega) (by decide))
  have Fs2 := eqF hs2 (fm_I F (inl_ok (a := 73) rfl))
  have vs2 : iI s2 73 = 0 := eqI hs2 (iI_u (by decide))
  refine z_aload_n X (x := A 179) rfl (List.Mem.head _) (z_load_n X (x := x) rfl (List.Mem.tail _ (List.Mem.head _)) (z_const X rfl (z_bipush X rfl (zcS_i0 X E (As := [.int (Int32.ofInt x), .int (Int32.ofInt 0), .int (Int32.ofInt 9)]) (st := [.ref (A 179)]) rfl rfl (k_in G Is2 (by first | exact ⟨p0.1, p0.2⟩ | omega) (by first | exact ⟨by decide, by decide⟩ | omega) (by first | exact ⟨by decide, by decide⟩ | omega)) rfl (Nat.le_of_ble_eq_true rfl) (fun s3 e4 Is3 Fs3 hrs3 hps3 => ?_)))))
  have Gs3 := fm_tq Fs2 Fs3 rfl rfl
  have ws3_73 : iI s3 73 = iI s2 73 := fm_iq Fs3 rfl
  have N5 : ∀ e6 : Int, (((e4 ≠ 0) ∧ e6 = 0) ∨ ((e4 = 0) ∧ e6 = 1)) → WS k 21 [(0, .ref (A 179)), (1, .int (Int32.ofInt x))] [.int (Int32.ofInt e6), .ref (A 179)] (Wd A dT s3) 0 0 := by
    intro e6 he6
    have re6 : 0 ≤ e6 ∧ e6 ≤ 1 := by first | (clear he6 hps3; omega) | (clear hps3; omega) | omega
    refine z_const X rfl (zcV_i0 X E 179 (As := [.int (Int32.ofInt e6), .int (Int32.ofInt 1)]) (st := []) rfl rfl rfl rfl (k_bad G Is3 (by first | exact oq_31e518ae re6.2 re6.1 | omega) (by first | exact ⟨by decide, by decide⟩ | omega)) rfl (Nat.le_of_ble_eq_true rfl) (fun s7 e8 Is7 Fs7 hrs7 hps7 => ?_))
    have Gs7 := fm_tq Gs3 Fs7 rfl rfl
    have b9 := bi_73 Is7
    refine z_if_eq X (t := 30) rfl rfl hrs7 (fun g10 => ?_) (fun g10 => ?_)
    ·
      refine z_aload_n X (x := A 179) rfl (List.Mem.head _) (z_getI X 179 rfl (c518_ok rfl) rfl rfl ?_)
      have b11 := bi_95 Is7
      refine z_store_n X (lv' := [(2, .int (Int32.ofInt (iI s7 95))), (0, .ref (A 179)), (1, .int (Int32.ofInt x))]) rfl (by decide) (fun _ h => h) (z_aload_n X (x := A 179) rfl (List.Mem.tail _ (List.Mem.head _)) (z_load_n X (x := x) rfl (List.Mem.tail _ (List.Mem.tail _ (List.Mem.head _))) (s_putI X 179 rfl (c518_ok rfl) rfl rfl (by decide) rfl rfl rfl (wd_gen (fun s12 hs12 => ?_)))))
      have Is12 : Bd s12 := eqB hs12 (bd_I Is7 (show (0 : Int) ≤ x ∧ x ≤ 9 by first | exact ⟨oq_63ad3ecb g10 hps7.2.1 re6.2 he6 hps3, oq_98d377b2 g10 hps7.2.1 re6.2 he6 hps3⟩ | omega) ⟨by first | exact p0.1 | omega, by first | exact p0.2 | omega⟩)
      have Fs12 := eqF hs12 (fm_I Gs7 (inl_ok (a := 95) rfl))
      have vs12 : iI s12 95 = x := eqI hs12 (iI_u ⟨by first | exact p0.1 | omega, by first | exact p0.2 | omega⟩)
      have ws12_73 : iI s12 73 = iI s7 73 := eqI hs12 rfl
      exact z_load_n X (x := (iI s7 95)) rfl (List.Mem.head _) (w_iret X.1 q hRt rfl (ax_d X (show cdA 244 41 = some (.ireturn, 1, 0, 0, 0) from rfl)) (Nat.zero_le _) (Nat.zero_le _) ⟨_, rfl, Is12, Fs12, (iI s7 95), rfl, (rng_to _), trivial⟩)
    ·
      refine z_const X rfl ?_
      exact w_iret X.1 q hRt rfl (ax_d X (show cdA 244 29 = some (.ireturn, 1, 0, 0, 0) from rfl)) (Nat.zero_le _) (Nat.zero_le _) ⟨_, rfl, Is7, Gs7, 0, rfl, (by decide), trivial⟩
  refine z_if_ne X (t := 20) rfl rfl hrs3 (fun g13 => ?_) (fun g13 => ?_)
  ·
    exact z_const X rfl (N5 _ (Or.inl ⟨g13, rfl⟩))
  ·
    exact z_const X rfl (z_goto X (t := 21) rfl rfl (N5 _ (Or.inr (⟨g13, rfl⟩))))
theorem k_clear (G : GX l s0 D tys a0 dT) (I : Bd s)  : CT l s0 D A dT 259 (rmN 259) [.ref (A 179)] s (fun o t => Bd t ∧ Fm [73, 97] [] s t ∧ ∃ e, o = .inl (some (.int (Int32.ofInt e))) ∧ rng e ∧ (True)) := by
  refine ct_of G (by decide) (Nat.le_of_ble_eq_true rfl) (fun k X E hRt hXt q => ?_)
  show WS k 0 [(0, .ref (A 179))] [] _ 0 0
  have F : Fm [73, 97] [] s s := fm_rf _ _ s
  have b1 := bi_73 I
  refine z_aload_n X (x := A 179) rfl (List.Mem.head _) (z_const X rfl (s_putI X 179 rfl (c518_ok rfl) rfl rfl (by decide) rfl rfl rfl (wd_gen (fun s2 hs2 => ?_))))
  have Is2 : Bd s2 := eqB hs2 (bd_I I (show (0 : Int) ≤ 0 ∧ 0 ≤ 3 by first | exact ⟨by decide, by decide⟩ | omega) (by decide))
  have Fs2 := eqF hs2 (fm_I F (inl_ok (a := 73) rfl))
  have vs2 : iI s2 73 = 0 := eqI hs2 (iI_u (by decide))
  refine z_aload_n X (x := A 179) rfl (List.Mem.head _) (z_getI X 179 rfl (c518_ok rfl) rfl rfl ?_)
  have b3 := bi_97 Is2
  refine z_store_n X (lv' := [(1, .int (Int32.ofInt (iI s2 97))), (0, .ref (A 179))]) rfl (by decide) (fun _ h => h) (z_aload_n X (x := A 179) rfl (List.Mem.tail _ (List.Mem.head _)) (z_const X rfl (s_putI X 179 rfl (c518_ok rfl) rfl rfl (by decide) rfl rfl rfl (wd_gen (fun s4 hs4 => ?_)))))
  have Is4 : Bd s4 := eqB hs4 (bd_I Is2 (show (0 : Int) ≤ 0 ∧ 0 ≤ 8 by first | exact ⟨by decide, by decide⟩ | omega) (by decide))
  have Fs4 := eqF hs4 (fm_I Fs2 (inl_ok (a := 97) rfl))
  have vs4 : iI s4 97 = 0 := eqI hs4 (iI_u (by decide))
  have ws4_73 : iI s4 73 = iI s2 73 := eqI hs4 rfl
  exact z_load_n X (x := (iI s2 97)) rfl (List.Mem.head _) (w_iret X.1 q hRt rfl (ax_d X (show cdA 259 16 = some (.ireturn, 1, 0, 0, 0) from rfl)) (Nat.zero_le _) (Nat.zero_le _) ⟨_, rfl, Is4, Fs4, (iI s2 97), rfl, (rng_to _), trivial⟩)
theorem k_storm (G : GX l s0 D tys a0 dT) (I : Bd s) {x y : Int} (p0 : rng x) (p1 : y = 0 ∨ y = 1) : CT l s0 D A dT 279 (rmN 279) [.ref (A 179), .int (Int32.ofInt x), .int (Int32.ofInt y)] s (fun o t => Bd t ∧ Fm [73] [399] s t ∧ ∃ e, o = .inl (some (.int (Int32.ofInt e))) ∧ rng e ∧ (True)) := by
  refine ct_of G (by decide) (Nat.le_of_ble_eq_true rfl) (fun k X E hRt hXt q => ?_)
  show WS k 0 [(0, .ref (A 179)), (1, .int (Int32.ofInt x)), (2, .int (Int32.ofInt y))] [] _ 0 0
  have F : Fm [73] [399] s s := fm_rf _ _ s
  have b1 := bi_73 I
  refine z_aload_n X (x := A 179) rfl (List.Mem.head _) (z_const X rfl (s_putI X 179 rfl (c518_ok rfl) rfl rfl (by decide) rfl rfl rfl (wd_gen (fun s2 hs2 => ?_))))
  have Is2 : Bd s2 := eqB hs2 (bd_I I (show (0 : Int) ≤ 0 ∧ 0 ≤ 3 by first | exact ⟨by decide, by decide⟩ | omega) (by decide))
  have Fs2 := eqF hs2 (fm_I F (inl_ok (a := 73) rfl))
  have vs2 : iI s2 73 = 0 := eqI hs2 (iI_u (by decide))
  refine z_aload_n X (x := A 179) rfl (List.Mem.head _) (z_load_n X (x := x) rfl (List.Mem.tail _ (List.Mem.head _)) (z_const X rfl (z_bipush X rfl (zcS_i0 X E (As := [.int (Int32.ofInt x), .int (Int32.ofInt 0), .int (Int32.ofInt 127)]) (st := [.ref (A 179)]) rfl rfl (k_in G Is2 (by first | exact ⟨p0.1, p0.2⟩ | omega) (by first | exact ⟨by decide, by decide⟩ | omega) (by first | exact ⟨by decide, by decide⟩ | omega)) rfl (Nat.le_of_ble_eq_true rfl) (fun s3 e4 Is3 Fs3 hrs3 hps3 => ?_)))))
  have Gs3 := fm_tq Fs2 Fs3 rfl rfl
  have ws3_73 : iI s3 73 = iI s2 73 := fm_iq Fs3 rfl
  have N5 : ∀ e6 : Int, (((e4 ≠ 0) ∧ e6 = 0) ∨ ((e4 = 0) ∧ e6 = 1)) → WS k 21 [(0, .ref (A 179)), (1, .int (Int32.ofInt x)), (2, .int (Int32.ofInt y))] [.int (Int32.ofInt e6), .ref (A 179)] (Wd A dT s3) 0 0 := by
    intro e6 he6
    have re6 : 0 ≤ e6 ∧ e6 ≤ 1 := by first | (clear he6 hps3 p1; omega) | (clear hps3 p1; omega) | omega
    refine z_const X rfl (zcV_i0 X E 179 (As := [.int (Int32.ofInt e6), .int (Int32.ofInt 1)]) (st := []) rfl rfl rfl rfl (k_bad G Is3 (by first | exact oq_31e518ae re6.2 re6.1 | omega) (by first | exact ⟨by decide, by decide⟩ | omega)) rfl (Nat.le_of_ble_eq_true rfl) (fun s7 e8 Is7 Fs7 hrs7 hps7 => ?_))
    have Gs7 := fm_tq Gs3 Fs7 rfl rfl
    have b9 := bi_73 Is7
    refine z_if_eq X (t := 30) rfl rfl hrs7 (fun g10 => ?_) (fun g10 => ?_)
    ·
      refine z_aload_n X (x := A 179) rfl (List.Mem.head _) (s_getR X 179 rfl (c518_ok rfl) rfl rfl (z_load_n X (x := x) rfl (List.Mem.tail _ (List.Mem.head _)) (z_zald X 454 rfl (c518_ok rfl) rfl (by first | exact oq_d2f74293 g10 hps7.2.1 re6.2 he6 hps3 | omega) (show x < 128 by first | exact oq_bb641c4c g10 hps7.2.1 re6.2 he6 hps3 | omega) (cbig_ok rfl) ?_)))
      have b11 := bc_399 Is7 (show (x).toNat < 128 by first | exact oq_48be0e30 g10 hps7.2.1 re6.2 he6 hps3 | omega)
      refine z_store_n X (lv' := [(3, .int (Int32.ofInt (iC s7 399 (x).toNat))), (0, .ref (A 179)), (1, .int (Int32.ofInt x)), (2, .int (Int32.ofInt y))]) rfl (by decide) (fun _ h => h) (z_aload_n X (x := A 179) rfl (List.Mem.tail _ (List.Mem.head _)) (s_getR X 179 rfl (c518_ok rfl) rfl rfl (z_load_n X (x := x) rfl (List.Mem.tail _ (List.Mem.tail _ (List.Mem.head _))) (z_load_n X (x := y) rfl (List.Mem.tail _ (List.Mem.tail _ (List.Mem.tail _ (List.Mem.head _)))) (z_zast X 454 rfl (c518_ok rfl) rfl (by first | exact oq_d2f74293 g10 hps7.2.1 re6.2 he6 hps3 | omega) (show x < 128 by first | exact oq_bb641c4c g10 hps7.2.1 re6.2 he6 hps3 | omega) (cbig_ok rfl) (by first | exact p1 | omega) (wd_gen (fun s12 hs12 => ?_)))))))
      have Is12 : Bd s12 := eqB hs12 (bd_C Is7 (show (0 : Int) ≤ y ∧ y ≤ 1 by first | exact ⟨oq_e4aca38c p1, oq_14617724 p1⟩ | omega) ⟨by first | exact oq_bde653e9 p1 | omega, by first | exact oq_4ad2cb8b p1 | omega⟩)
      have Fs12 := eqF hs12 (fm_C Gs7 (inl_ok (a := 399) rfl))
      have ws12_73 : iI s12 73 = iI s7 73 := eqI hs12 rfl
      refine z_load_n X (x := (iC s7 399 (x).toNat)) rfl (List.Mem.head _) ?_
      exact w_iret X.1 q hRt (nar_ret (by first | exact oq_31e518ae b11.2 b11.1 | omega)) (ax_d X (show cdA 279 45 = some (.ireturn, 1, 0, 0, 0) from rfl)) (Nat.zero_le _) (Nat.zero_le _) ⟨_, rfl, Is12, Fs12, (iC s7 399 (x).toNat), rfl, (rng_to _), trivial⟩
    ·
      refine z_const X rfl ?_
      exact w_iret X.1 q hRt (nar_ret (by first | exact Or.inl (by decide) | omega)) (ax_d X (show cdA 279 29 = some (.ireturn, 1, 0, 0, 0) from rfl)) (Nat.zero_le _) (Nat.zero_le _) ⟨_, rfl, Is7, Gs7, 0, rfl, (by decide), trivial⟩
  refine z_if_ne X (t := 20) rfl rfl hrs3 (fun g13 => ?_) (fun g13 => ?_)
  ·
    exact z_const X rfl (N5 _ (Or.inl ⟨g13, rfl⟩))
  ·
    exact z_const X rfl (z_goto X (t := 21) rfl rfl (N5 _ (Or.inr (⟨g13, rfl⟩))))
end M31
