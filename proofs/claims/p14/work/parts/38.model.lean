theorem oq_e001bc0d {a0 a1 : Int} (h0 : a0 ≤ a1) (h1 : 0 ≤ a0) : (-2147483648) ≤ a1 := by omega
theorem oq_99d04864 {a0 : Int} (h0 : a0 ≤ 25) : a0 ≤ 2147483647 := by omega
theorem oq_a8f1d18e {a0 a1 a2 : Int} (h0 : ((a0 = 0 ∧ a1 = 0) ∨ (a0 ≠ 0 ∧ a1 = (a2 + 1)))) (h1 : 0 ≤ a2) : 0 ≤ a1 := by omega
theorem oq_7ac42359 {a0 a1 a2 a3 : Int} (h0 : ((a0 = 0 ∧ a1 = 0) ∨ (a0 ≠ 0 ∧ a1 = (a2 + 1)))) (h1 : a2 ≤ a3) (h2 : 0 ≤ a2) : a1 ≤ (a3 + 1) := by omega
theorem oq_7f051044 {a0 a1 : Int} (h0 : a0 ≤ a1) (h1 : a1 ≤ 24) : (a0 + 1) ≤ 25 := by omega
theorem oq_9ae278d0 {a0 a1 : Int} (h0 : a0 ≤ a1) (h1 : a1 ≤ 24) : 0 < (25 - a0) := by omega
theorem oq_e678fa0f {a0 a1 : Int} (h0 : a0 ≤ a1) (h1 : a1 ≤ 25) : a0 ≤ 2147483647 := by omega
theorem oq_6ab4c69f {a0 : Int} (h0 : a0 = 0) : (-2147483648) ≤ a0 := by omega
theorem oq_3b8a080c {a0 : Int} (h0 : a0 = 0) : a0 ≤ 2147483647 := by omega
theorem oq_97e58444 {a0 : Int} (h0 : 0 < a0) : (-2147483648) ≤ a0 := by omega
theorem oq_ec6299c0 {a0 a1 a2 : Int} (h0 : ((a0 = 0 ∧ a1 = 0) ∨ (a0 ≠ 0 ∧ a1 = (a2 + 1)))) (h1 : 0 < a2) : 0 ≤ a1 := by omega
theorem oq_6b52d3f8 {a0 a1 a2 a3 : Int} (h0 : ((a0 = 0 ∧ a1 = 0) ∨ (a0 ≠ 0 ∧ a1 = (a2 + 1)))) (h1 : 0 < a2) (h2 : a2 ≤ a3) : a1 ≤ (a3 + 1) := by omega
theorem oq_12a1f9e1 {a0 a1 : Int} (h0 : a0 ≤ a1) (h1 : 0 ≤ a0) : 0 ≤ a1 := by omega
theorem oq_51d1204d {a0 : Int} (h0 : a0 ≤ 11) : (a0 + 1) ≤ 12 := by omega
theorem oq_8b937940 {a0 : Int} (h0 : a0 ≤ 11) : 0 < (12 - a0) := by omega
theorem oq_fb6f88a4 {a0 a1 a2 a3 : Int} (h0 : a0 = 0) (h1 : (a1 = 1 → a0 = 1)) (h2 : a1 ≤ 1) (h3 : ((a2 ≠ 0 ∧ a1 = 0) ∨ (a2 = 0 ∧ a1 = 1))) (h4 : ((a2 = 1 ∧ (0 ≤ a3 ∧ a3 ≤ 7)) ∨ (a2 = 0 ∧ (a3 < 0 ∨ 7 < a3)))) : (0 ≤ a3 ∧ a3 ≤ 7) := by omega
theorem oq_227d2cd7 {a0 : Int} (h0 : a0 ≤ 40) : a0 ≤ 2147483647 := by omega
theorem oq_497ff6eb {a0 a1 : Int} (h0 : a0 < a1) (h1 : a1 ≤ 40) : a0 < 40 := by omega
theorem oq_23813e7c {a0 a1 : Int} (h0 : a0 < a1) (h1 : a1 ≤ 40) : (a0 : Int).toNat < 40 := by omega
theorem oq_240b6eb6 {a0 : Int} (h0 : a0 ≤ 624) : a0 ≤ 2147483647 := by omega
theorem oq_c0c6d7d2  : (0 : Int).toNat < 4 := by omega
theorem oq_fe4d3050 {a0 : Int} (h0 : 0 ≤ a0) : 0 ≤ (a0 / 25) := by omega
theorem oq_e76ffcc2 {a0 : Int} (h0 : 0 ≤ a0) : (-2147483648) ≤ (a0 / 25) := by omega
theorem oq_41007592 {a0 : Int} (h0 : a0 ≤ 624) : (a0 / 25) ≤ 2147483647 := by omega
theorem oq_f6f99e0f  : (1 : Int).toNat < 4 := by omega
theorem oq_b34fa872 {a0 : Int} (h0 : 0 ≤ a0) : 0 ≤ (a0 / 5) := by omega
theorem oq_35859962 {a0 : Int} (h0 : 0 ≤ a0) : (-2147483648) ≤ (a0 / 5) := by omega
theorem oq_74197da2 {a0 : Int} (h0 : a0 ≤ 624) : (a0 / 5) ≤ 2147483647 := by omega
theorem oq_db5fa50e  : (2 : Int).toNat < 4 := by omega
theorem oq_8d498ec2  : (3 : Int).toNat < 4 := by omega
theorem oq_aa91b9d2 {a0 a1 : Int} (h0 : a0 < a1) (h1 : a1 ≤ 40) : (a0 + 1) ≤ 40 := by omega
theorem oq_e7680c39 {a0 a1 : Int} (h0 : a0 < a1) (h1 : a1 ≤ 40) : 0 < (40 - a0) := by omega
theorem oq_82406429 {a0 : Int} (h0 : a0 ≤ 625) : a0 ≤ 2147483647 := by omega
theorem oq_6eb35ffb {a0 : Int} (h0 : a0 < 625) : a0 ≤ 624 := by omega
theorem oq_1e1a2df6 {a0 : Int} (h0 : 1 ≤ a0) : 1 ≤ (a0 + 1) := by omega
theorem oq_d524a3cb {a0 : Int} (h0 : a0 < 625) : (a0 + 1) ≤ 625 := by omega
theorem oq_ad009edd {a0 : Int} (h0 : a0 < 625) : 0 < (625 - a0) := by omega
theorem oq_316058e1 {a0 a1 a2 a3 : Int} (h0 : a0 = 0) (h1 : (a1 = 1 → a0 = 1)) (h2 : a1 ≤ 1) (h3 : ((a2 ≠ 0 ∧ a1 = 0) ∨ (a2 = 0 ∧ a1 = 1))) (h4 : ((a2 = 1 ∧ (0 ≤ a3 ∧ a3 ≤ 5)) ∨ (a2 = 0 ∧ (a3 < 0 ∨ 5 < a3)))) : (0 ≤ a3 ∧ a3 ≤ 5) := by omega
theorem oq_b00d0c1c {a0 : Int}  : (-2147483648) ≤ (a0 % 5) := by omega
theorem oq_3a6ad61a {a0 : Int}  : (a0 % 5) ≤ 2147483647 := by omega
theorem oq_cd11bb7e {a0 : Int}  : (-2147483648) ≤ ((a0 / 5) % 5) := by omega
theorem oq_49813365 {a0 : Int}  : ((a0 / 5) % 5) ≤ 2147483647 := by omega
theorem oq_60d80e36 {a0 : Int}  : (-2147483648) ≤ ((a0 / 25) % 5) := by omega
theorem oq_9ee02b76 {a0 : Int}  : ((a0 / 25) % 5) ≤ 2147483647 := by omega
theorem oq_2f0adc8d {a0 : Int} (h0 : 0 ≤ a0) : (-2147483648) ≤ (a0 / 125) := by omega
theorem oq_b0fa4340 {a0 : Int} (h0 : a0 ≤ 624) : (a0 / 125) ≤ 2147483647 := by omega
theorem oq_7bea7075 {a0 : Int} (h0 : a0 < 8) : a0 ≤ 2147483647 := by omega
theorem oq_273e42a6 {a0 a1 a2 : Int} (h0 : a0 ≤ a1) (h1 : a2 ≤ 1) : (a0 + a2) ≤ (a1 + 1) := by omega
theorem oq_0c7b19c3 {a0 : Int} (h0 : a0 < 8) : (a0 + 1) ≤ 8 := by omega
theorem oq_9f368f35 {a0 : Int} (h0 : a0 < 8) : 0 < (8 - a0) := by omega
theorem oq_fe8b3247 {a0 a1 : Int} (h0 : a0 ≤ a1) (h1 : a1 ≤ 8) : a0 ≤ 8 := by omega
theorem oq_9eb6cd9c {a0 a1 : Int} (h0 : a0 ≤ a1) (h1 : a1 ≤ 128) : a0 ≤ 2147483647 := by omega
/-! The model: shorts, offs -/
section M38
variable {l : Launch} {s0 : State} {D : va_G} {tys : List (ClassId × FieldType)} {a0 : Array Value} {A : Nat → Nat} {dT : Nat → ClassId} {s : PS}
theorem k_shorts (G : GX l s0 D tys a0 dT) (I : Bd s) {x : Int} (p0 : rng x) : CT l s0 D A dT 243 (rmN 243) [.ref (A 179), .int (Int32.ofInt x)] s (fun o t => Bd t ∧ Fm [73] [] s t ∧ ∃ e, o = .inl (some (.int (Int32.ofInt e))) ∧ rng e ∧ (True)) := by
  refine ct_of G (by decide) (Nat.le_of_ble_eq_true rfl) (fun k X E hRt hXt q => ?_)
  show WS k 0 [(0, .ref (A 179)), (1, .int (Int32.ofInt x))] [] _ 0 0
  have F : Fm [73] [] s s := fm_rf _ _ s
  have b1 := bi_73 I
  have b2 := bi_90 I
  have b3 := bi_95 I
  have L48 : ∀ (n : Nat) (t : PS) (xv bv sv rv c : Int), Bd t → Fm [73] [] s t → ((0 ≤ xv ∧ xv ≤ 7) ∧ rng bv ∧ (0 ≤ sv ∧ sv ≤ 11) ∧ 0 ≤ rv ∧ rv ≤ c ∧ c ≤ 25) → (25 - c : Int).toNat < n → (∀ (t' : PS) (bv' rv' c' : Int), Bd t' → Fm [73] [] s t' → ((0 ≤ xv ∧ xv ≤ 7) ∧ rng bv' ∧ (0 ≤ sv ∧ sv ≤ 11) ∧ 0 ≤ rv' ∧ rv' ≤ c' ∧ c' ≤ 25) → WS k 141 [(0, .ref (A 179)), (1, .int (Int32.ofInt xv)), (2, .int (Int32.ofInt bv')), (3, .int (Int32.ofInt sv)), (4, .int (Int32.ofInt rv')), (5, .int (Int32.ofInt c'))] [] (Wd A dT t') 0 0) → WS k 48 [(0, .ref (A 179)), (1, .int (Int32.ofInt xv)), (2, .int (Int32.ofInt bv)), (3, .int (Int32.ofInt sv)), (4, .int (Int32.ofInt rv)), (5, .int (Int32.ofInt c))] [] (Wd A dT t) 0 0 := by
    intro n
    induction n with
    | zero =>
      intro t xv bv sv rv c I F hi hm kx
      exact absurd hm (Nat.not_lt_zero _)
    | succ n ih =>
      intro t xv bv sv rv c I F hi hm kx
      have b1001 := bi_73 I
      have b1002 := bi_90 I
      have b1003 := bi_95 I
      refine z_load X (x := c) rfl (List.Mem.tail _ (List.Mem.tail _ (List.Mem.tail _ (List.Mem.tail _ (List.Mem.tail _ (List.Mem.head _)))))) (z_aload_n X (x := A 179) rfl (List.Mem.head _) (s_getR X 179 rfl (c518_ok rfl) rfl rfl (z_load_n X (x := sv) rfl (List.Mem.tail _ (List.Mem.tail _ (List.Mem.tail _ (List.Mem.head _)))) (z_ald X 185 rfl (c518_ok rfl) rfl (by first | exact hi.2.2.1.1 | omega) (show sv < 12 by first | exact oq_0ddfcfee hi.2.2.1.2 | omega) (cbig_ok rfl) ?_))))
      have b1004 := bc_162 I (show (sv).toNat < 12 by first | exact oq_9c5fa447 hi.2.2.1.2 | omega)
      refine z_icmp_gt X (t := 141) rfl rfl ⟨by first | exact oq_e001bc0d hi.2.2.2.2.1 hi.2.2.2.1 | omega, by first | exact oq_99d04864 hi.2.2.2.2.2 | omega⟩ (rng_to _) (fun g1005 => ?_) (fun g1005 => ?_)
      ·
        refine WS_pq [0, 1, 2, 3, 4, 5] (lv' := [(0, .ref (A 179)), (1, .int (Int32.ofInt xv)), (2, .int (Int32.ofInt bv)), (3, .int (Int32.ofInt sv)), (4, .int (Int32.ofInt rv)), (5, .int (Int32.ofInt c))]) rfl ?_
        exact kx _ bv rv c I F (by first | exact ⟨And.intro (hi.1.1) (hi.1.2), And.intro (hi.2.1.1) (hi.2.1.2), And.intro (hi.2.2.1.1) (hi.2.2.1.2), hi.2.2.2.1, hi.2.2.2.2.1, hi.2.2.2.2.2⟩ | omega)
      ·
        refine z_load X (x := c) rfl (List.Mem.tail _ (List.Mem.tail _ (List.Mem.tail _ (List.Mem.tail _ (List.Mem.tail _ (List.Mem.head _)))))) (z_aload_n X (x := A 179) rfl (List.Mem.head _) (s_getR X 179 rfl (c518_ok rfl) rfl rfl (z_load_n X (x := sv) rfl (List.Mem.tail _ (List.Mem.tail _ (List.Mem.tail _ (List.Mem.head _)))) (z_ald X 185 rfl (c518_ok rfl) rfl (by first | exact hi.2.2.1.1 | omega) (show sv < 12 by first | exact oq_0ddfcfee hi.2.2.1.2 | omega) (cbig_ok rfl) ?_))))
        have b1006 := bc_162 I (show (sv).toNat < 12 by first | exact oq_9c5fa447 hi.2.2.1.2 | omega)
        have N1007 : ∀ e1008 : Int, ((((iC t 162 (sv).toNat) ≤ c) ∧ e1008 = 0) ∨ ((c < (iC t 162 (sv).toNat)) ∧ ((0 : Int) ≤ (iC t (166 + (sv : Int).toNat) (c : Int).toNat) ∧ (iC t (166 + (sv : Int).toNat) (c : Int).toNat) ≤ 127) ∧ (((-1) : Int) ≤ iC t 228 ((iC t (166 + (sv : Int).toNat) (c : Int).toNat)).toNat ∧ iC t 228 ((iC t (166 + (sv : Int).toNat) (c : Int).toNat)).toNat ≤ 7) ∧ ((iC t 228 ((iC t (166 + (sv : Int).toNat) (c : Int).toNat)).toNat) ≠ xv) ∧ e1008 = 0) ∨ ((c < (iC t 162 (sv).toNat)) ∧ ((0 : Int) ≤ (iC t (166 + (sv : Int).toNat) (c : Int).toNat) ∧ (iC t (166 + (sv : Int).toNat) (c : Int).toNat) ≤ 127) ∧ (((-1) : Int) ≤ iC t 228 ((iC t (166 + (sv : Int).toNat) (c : Int).toNat)).toNat ∧ iC t 228 ((iC t (166 + (sv : Int).toNat) (c : Int).toNat)).toNat ≤ 7) ∧ ((iC t 228 ((iC t (166 + (sv : Int).toNat) (c : Int).toNat)).toNat) = xv) ∧ e1008 = 1)) → WS k 93 [(0, .ref (A 179)), (1, .int (Int32.ofInt xv)), (2, .int (Int32.ofInt bv)), (3, .int (Int32.ofInt sv)), (4, .int (Int32.ofInt rv)), (5, .int (Int32.ofInt c))] [.int (Int32.ofInt e1008)] (Wd A dT t) 0 0 := by
          intro e1008 he1008
          have re1008 : 0 ≤ e1008 ∧ e1008 ≤ 1 := by first | (clear he1008; omega) | omega
          refine z_store X (lv' := [(6, .int (Int32.ofInt e1008)), (0, .ref (A 179)), (1, .int (Int32.ofInt xv)), (2, .int (Int32.ofInt bv)), (3, .int (Int32.ofInt sv)), (4, .int (Int32.ofInt rv)), (5, .int (Int32.ofInt c))]) rfl (by decide) (fun _ h => h) (z_load X (x := e1008) rfl (List.Mem.head _) (z_if_ne X (t := 120) rfl rfl ⟨by first | exact oq_fa4e5087 re1008.1 | omega, by first | exact oq_22e1e6b0 re1008.2 | omega⟩ (fun g1009 => ?_) (fun g1009 => ?_)))
          ·
            refine z_load X (x := e1008) rfl (List.Mem.head _) ?_
            have N1010 : ∀ e1011 : Int, (((e1008 = 0) ∧ e1011 = 0) ∨ ((e1008 ≠ 0) ∧ e1011 = (rv + 1))) → WS k 133 [(6, .int (Int32.ofInt e1008)), (0, .ref (A 179)), (1, .int (Int32.ofInt xv)), (2, .int (Int32.ofInt bv)), (3, .int (Int32.ofInt sv)), (4, .int (Int32.ofInt rv)), (5, .int (Int32.ofInt c))] [.int (Int32.ofInt e1011)] (Wd A dT t) 0 0 := by
              intro e1011 he1011
              refine z_store X (lv' := [(4, .int (Int32.ofInt e1011)), (6, .int (Int32.ofInt e1008)), (0, .ref (A 179)), (1, .int (Int32.ofInt xv)), (2, .int (Int32.ofInt bv)), (3, .int (Int32.ofInt sv)), (5, .int (Int32.ofInt c))]) rfl (by decide) (fun _ h => h) (z_inc X (x := c) (lv' := [(5, .int (Int32.ofInt (c + 1))), (4, .int (Int32.ofInt e1011)), (6, .int (Int32.ofInt e1008)), (0, .ref (A 179)), (1, .int (Int32.ofInt xv)), (2, .int (Int32.ofInt bv)), (3, .int (Int32.ofInt sv))]) rfl (by decide) (List.Mem.tail _ (List.Mem.tail _ (List.Mem.tail _ (List.Mem.tail _ (List.Mem.tail _ (List.Mem.tail _ (List.Mem.head _))))))) (fun _ h => h) (z_goto X (t := 48) rfl rfl (WS_pq [3, 4, 5, 6, 1, 0] (lv' := [(0, .ref (A 179)), (1, .int (Int32.ofInt xv)), (2, .int (Int32.ofInt bv)), (3, .int (Int32.ofInt sv)), (4, .int (Int32.ofInt e1011)), (5, .int (Int32.ofInt (c + 1)))]) rfl ?_)))
              exact ih _ xv bv sv e1011 (c + 1) I F (by first | exact ⟨And.intro (hi.1.1) (hi.1.2), And.intro (hi.2.1.1) (hi.2.1.2), And.intro (hi.2.2.1.1) (hi.2.2.1.2), oq_a8f1d18e he1011 hi.2.2.2.1, oq_7ac42359 he1011 hi.2.2.2.2.1 hi.2.2.2.1, oq_7f051044 g1005 b1006.2⟩ | omega) (by first | exact qk_me hm (by decide) (oq_9ae278d0 g1005 b1006.2) | omega) kx
            refine z_if_eq X (t := 132) rfl rfl ⟨by first | exact oq_fa4e5087 re1008.1 | omega, by first | exact oq_22e1e6b0 re1008.2 | omega⟩ (fun g1012 => ?_) (fun g1012 => ?_)
            ·
              exact z_const X rfl (N1010 _ (Or.inl ⟨g1012, rfl⟩))
            ·
              exact z_load X (x := rv) rfl (List.Mem.tail _ (List.Mem.tail _ (List.Mem.tail _ (List.Mem.tail _ (List.Mem.tail _ (List.Mem.head _)))))) (z_const X rfl (z_add X rfl (z_goto X (t := 133) rfl rfl (N1010 _ (Or.inr (⟨g1012, rfl⟩))))))
          ·
            refine z_load X (x := rv) rfl (List.Mem.tail _ (List.Mem.tail _ (List.Mem.tail _ (List.Mem.tail _ (List.Mem.tail _ (List.Mem.head _)))))) (z_if_le X (t := 120) rfl rfl ⟨by first | exact oq_fa4e5087 hi.2.2.2.1 | omega, by first | exact oq_e678fa0f hi.2.2.2.2.1 hi.2.2.2.2.2 | omega⟩ (fun g1013 => ?_) (fun g1013 => ?_))
            ·
              refine z_load X (x := e1008) rfl (List.Mem.head _) ?_
              have N1014 : ∀ e1015 : Int, (((e1008 = 0) ∧ e1015 = 0) ∨ ((e1008 ≠ 0) ∧ e1015 = (rv + 1))) → WS k 133 [(6, .int (Int32.ofInt e1008)), (0, .ref (A 179)), (1, .int (Int32.ofInt xv)), (2, .int (Int32.ofInt bv)), (3, .int (Int32.ofInt sv)), (4, .int (Int32.ofInt rv)), (5, .int (Int32.ofInt c))] [.int (Int32.ofInt e1015)] (Wd A dT t) 0 0 := by
                intro e1015 he1015
                refine z_store X (lv' := [(4, .int (Int32.ofInt e1015)), (6, .int (Int32.ofInt e1008)), (0, .ref (A 179)), (1, .int (Int32.ofInt xv)), (2, .int (Int32.ofInt bv)), (3, .int (Int32.ofInt sv)), (5, .int (Int32.ofInt c))]) rfl (by decide) (fun _ h => h) (z_inc X (x := c) (lv' := [(5, .int (Int32.ofInt (c + 1))), (4, .int (Int32.ofInt e1015)), (6, .int (Int32.ofInt e1008)), (0, .ref (A 179)), (1, .int (Int32.ofInt xv)), (2, .int (Int32.ofInt bv)), (3, .int (Int32.ofInt sv))]) rfl (by decide) (List.Mem.tail _ (List.Mem.tail _ (List.Mem.tail _ (List.Mem.tail _ (List.Mem.tail _ (List.Mem.tail _ (List.Mem.head _))))))) (fun _ h => h) (z_goto X (t := 48) rfl rfl (WS_pq [3, 4, 5, 6, 1, 0] (lv' := [(0, .ref (A 179)), (1, .int (Int32.ofInt xv)), (2, .int (Int32.ofInt bv)), (3, .int (Int32.ofInt sv)), (4, .int (Int32.ofInt e1015)), (5, .int (Int32.ofInt (c + 1)))]) rfl ?_)))
                exact ih _ xv bv sv e1015 (c + 1) I F (by first | exact ⟨And.intro (hi.1.1) (hi.1.2), And.intro (hi.2.1.1) (hi.2.1.2), And.intro (hi.2.2.1.1) (hi.2.2.1.2), oq_a8f1d18e he1015 hi.2.2.2.1, oq_7ac42359 he1015 hi.2.2.2.2.1 hi.2.2.2.1, oq_7f051044 g1005 b1006.2⟩ | omega) (by first | exact qk_me hm (by decide) (oq_9ae278d0 g1005 b1006.2) | omega) kx
              refine z_if_eq X (t := 132) rfl rfl ⟨by first | exact oq_6ab4c69f g1009 | omega, by first | exact oq_3b8a080c g1009 | omega⟩ (fun g1016 => ?_) (fun g1016 => ?_)
              ·
                exact z_const X rfl (N1014 _ (Or.inl ⟨g1016, rfl⟩))
              ·
                exact z_load X (x := rv) rfl (List.Mem.tail _ (List.Mem.tail _ (List.Mem.tail _ (List.Mem.tail _ (List.Mem.tail _ (List.Mem.head _)))))) (z_const X rfl (z_add X rfl (z_goto X (t := 133) rfl rfl (N1014 _ (Or.inr (⟨g1016, rfl⟩))))))
            ·
              refine z_load X (x := rv) rfl (List.Mem.tail _ (List.Mem.tail _ (List.Mem.tail _ (List.Mem.tail _ (List.Mem.tail _ (List.Mem.head _)))))) (z_aload_n X (x := A 179) rfl (List.Mem.tail _ (List.Mem.head _)) (z_getI X 179 rfl (c518_ok rfl) rfl rfl ?_))
              have b1017 := bi_95 I
              refine z_icmp_ge X (t := 120) rfl rfl ⟨by first | exact oq_97e58444 g1013 | omega, by first | exact oq_e678fa0f hi.2.2.2.2.1 hi.2.2.2.2.2 | omega⟩ (rng_to _) (fun g1018 => ?_) (fun g1018 => ?_)
              ·
                refine z_load X (x := e1008) rfl (List.Mem.head _) ?_
                have N1019 : ∀ e1020 : Int, (((e1008 = 0) ∧ e1020 = 0) ∨ ((e1008 ≠ 0) ∧ e1020 = (rv + 1))) → WS k 133 [(6, .int (Int32.ofInt e1008)), (0, .ref (A 179)), (1, .int (Int32.ofInt xv)), (2, .int (Int32.ofInt bv)), (3, .int (Int32.ofInt sv)), (4, .int (Int32.ofInt rv)), (5, .int (Int32.ofInt c))] [.int (Int32.ofInt e1020)] (Wd A dT t) 0 0 := by
                  intro e1020 he1020
                  refine z_store X (lv' := [(4, .int (Int32.ofInt e1020)), (6, .int (Int32.ofInt e1008)), (0, .ref (A 179)), (1, .int (Int32.ofInt xv)), (2, .int (Int32.ofInt bv)), (3, .int (Int32.ofInt sv)), (5, .int (Int32.ofInt c))]) rfl (by decide) (fun _ h => h) (z_inc X (x := c) (lv' := [(5, .int (Int32.ofInt (c + 1))), (4, .int (Int32.ofInt e1020)), (6, .int (Int32.ofInt e1008)), (0, .ref (A 179)), (1, .int (Int32.ofInt xv)), (2, .int (Int32.ofInt bv)), (3, .int (Int32.ofInt sv))]) rfl (by decide) (List.Mem.tail _ (List.Mem.tail _ (List.Mem.tail _ (List.Mem.tail _ (List.Mem.tail _ (List.Mem.tail _ (List.Mem.head _))))))) (fun _ h => h) (z_goto X (t := 48) rfl rfl (WS_pq [3, 4, 5, 6, 1, 0] (lv' := [(0, .ref (A 179)), (1, .int (Int32.ofInt xv)), (2, .int (Int32.ofInt bv)), (3, .int (Int32.ofInt sv)), (4, .int (Int32.ofInt e1020)), (5, .int (Int32.ofInt (c + 1)))]) rfl ?_)))
                  exact ih _ xv bv sv e1020 (c + 1) I F (by first | exact ⟨And.intro (hi.1.1) (hi.1.2), And.intro (hi.2.1.1) (hi.2.1.2), And.intro (hi.2.2.1.1) (hi.2.2.1.2), oq_ec6299c0 he1020 g1013, oq_6b52d3f8 he1020 g1013 hi.2.2.2.2.1, oq_7f051044 g1005 b1006.2⟩ | omega) (by first | exact qk_me hm (by decide) (oq_9ae278d0 g1005 b1006.2) | omega) kx
                refine z_if_eq X (t := 132) rfl rfl ⟨by first | exact oq_6ab4c69f g1009 | omega, by first | exact oq_3b8a080c g1009 | omega⟩ (fun g1021 => ?_) (fun g1021 => ?_)
                ·
                  exact z_const X rfl (N1019 _ (Or.inl ⟨g1021, rfl⟩))
                ·
                  exact z_load X (x := rv) rfl (List.Mem.tail _ (List.Mem.tail _ (List.Mem.tail _ (List.Mem.tail _ (List.Mem.tail _ (List.Mem.head _)))))) (z_const X rfl (z_add X rfl (z_goto X (t := 133) rfl rfl (N1019 _ (Or.inr (⟨g1021, rfl⟩))))))
              ·
                refine z_load_n X (x := bv) rfl (List.Mem.tail _ (List.Mem.tail _ (List.Mem.tail _ (List.Mem.head _)))) (z_const X rfl (z_load_n X (x := sv) rfl (List.Mem.tail _ (List.Mem.tail _ (List.Mem.tail _ (List.Mem.tail _ (List.Mem.head _))))) (z_bshl X rfl (z_any (fun y1022 hy1022 => ?_)))))
                refine z_bor X rfl (z_any (fun y1023 hy1023 => ?_))
                refine z_store_n X (lv' := [(2, .int (Int32.ofInt y1023)), (6, .int (Int32.ofInt e1008)), (0, .ref (A 179)), (1, .int (Int32.ofInt xv)), (3, .int (Int32.ofInt sv)), (4, .int (Int32.ofInt rv)), (5, .int (Int32.ofInt c))]) rfl (by decide) (fun _ h => h) (z_load X (x := e1008) rfl (List.Mem.tail _ (List.Mem.head _)) ?_)
                have N1024 : ∀ e1025 : Int, (((e1008 = 0) ∧ e1025 = 0) ∨ ((e1008 ≠ 0) ∧ e1025 = (rv + 1))) → WS k 133 [(2, .int (Int32.ofInt y1023)), (6, .int (Int32.ofInt e1008)), (0, .ref (A 179)), (1, .int (Int32.ofInt xv)), (3, .int (Int32.ofInt sv)), (4, .int (Int32.ofInt rv)), (5, .int (Int32.ofInt c))] [.int (Int32.ofInt e1025)] (Wd A dT t) 0 0 := by
                  intro e1025 he1025
                  refine z_store X (lv' := [(4, .int (Int32.ofInt e1025)), (2, .int (Int32.ofInt y1023)), (6, .int (Int32.ofInt e1008)), (0, .ref (A 179)), (1, .int (Int32.ofInt xv)), (3, .int (Int32.ofInt sv)), (5, .int (Int32.ofInt c))]) rfl (by decide) (fun _ h => h) (z_inc X (x := c) (lv' := [(5, .int (Int32.ofInt (c + 1))), (4, .int (Int32.ofInt e1025)), (2, .int (Int32.ofInt y1023)), (6, .int (Int32.ofInt e1008)), (0, .ref (A 179)), (1, .int (Int32.ofInt xv)), (3, .int (Int32.ofInt sv))]) rfl (by decide) (List.Mem.tail _ (List.Mem.tail _ (List.Mem.tail _ (List.Mem.tail _ (List.Mem.tail _ (List.Mem.tail _ (List.Mem.head _))))))) (fun _ h => h) (z_goto X (t := 48) rfl rfl (WS_pq [4, 5, 2, 6, 1, 0] (lv' := [(0, .ref (A 179)), (1, .int (Int32.ofInt xv)), (2, .int (Int32.ofInt y1023)), (3, .int (Int32.ofInt sv)), (4, .int (Int32.ofInt e1025)), (5, .int (Int32.ofInt (c + 1)))]) rfl ?_)))
                  exact ih _ xv y1023 sv e1025 (c + 1) I F (by first | exact ⟨And.intro (hi.1.1) (hi.1.2), And.intro (hy1023.1) (hy1023.2), And.intro (hi.2.2.1.1) (hi.2.2.1.2), oq_ec6299c0 he1025 g1013, oq_6b52d3f8 he1025 g1013 hi.2.2.2.2.1, oq_7f051044 g1005 b1006.2⟩ | omega) (by first | exact qk_me hm (by decide) (oq_9ae278d0 g1005 b1006.2) | omega) kx
                refine z_if_eq X (t := 132) rfl rfl ⟨by first | exact oq_6ab4c69f g1009 | omega, by first | exact oq_3b8a080c g1009 | omega⟩ (fun g1026 => ?_) (fun g1026 => ?_)
                ·
                  exact z_const X rfl (N1024 _ (Or.inl ⟨g1026, rfl⟩))
                ·
                  exact z_load X (x := rv) rfl (List.Mem.tail _ (List.Mem.tail _ (List.Mem.tail _ (List.Mem.tail _ (List.Mem.tail _ (List.Mem.head _)))))) (z_const X rfl (z_add X rfl (z_goto X (t := 133) rfl rfl (N1024 _ (Or.inr (⟨g1026, rfl⟩))))))
        refine z_icmp_ge X (t := 92) rfl rfl ⟨by first | exact oq_e001bc0d hi.2.2.2.2.1 hi.2.2.2.1 | omega, by first | exact oq_99d04864 hi.2.2.2.2.2 | omega⟩ (rng_to _) (fun g1027 => ?_) (fun g1027 => ?_)
        ·
          exact z_const X rfl (N1007 _ (Or.inl ⟨g1027, rfl⟩))
        ·
          refine z_aload_n X (x := A 179) rfl (List.Mem.head _) (s_getR X 179 rfl (c518_ok rfl) rfl rfl (z_aload_n X (x := A 179) rfl (List.Mem.head _) (s_getR X 179 rfl (c518_ok rfl) rfl rfl (z_load_n X (x := sv) rfl (List.Mem.tail _ (List.Mem.tail _ (List.Mem.tail _ (List.Mem.head _)))) (z_aald X rw_189 rfl (by first | exact hi.2.2.1.1 | omega) (show sv < 12 by first | exact oq_0ddfcfee hi.2.2.1.2 | omega) (by decide) (z_load X (x := c) rfl (List.Mem.tail _ (List.Mem.tail _ (List.Mem.tail _ (List.Mem.tail _ (List.Mem.tail _ (List.Mem.head _)))))) (z_ald2 X rw_189 rfl (show (sv : Int).toNat < 12 by first | exact oq_9c5fa447 hi.2.2.1.2 | omega) (by first | exact oq_12a1f9e1 hi.2.2.2.2.1 hi.2.2.2.1 | omega) (show c < 24 by first | exact oq_8ff7beb9 g1027 b1006.2 | omega) (by decide) ?_)))))))
          have b1028 : (0 : Int) ≤ (iC t (166 + (sv : Int).toNat) (c : Int).toNat) ∧ (iC t (166 + (sv : Int).toNat) (c : Int).toNat) ≤ 127 := rw_bd rw_189 I (show (sv : Int).toNat < 12 by first | exact oq_9c5fa447 hi.2.2.1.2 | omega) (show (c : Int).toNat < 24 by first | exact oq_9e668fc9 g1027 b1006.2 | omega)
          refine z_ald X 256 rfl (c518_ok rfl) rfl (by first | exact b1028.1 | omega) (show (iC t (166 + (sv : Int).toNat) (c : Int).toNat) < 128 by first | exact oq_31b2bf10 b1028.2 | omega) (cbig_ok rfl) ?_
          have b1029 := bc_228 I (show ((iC t (166 + (sv : Int).toNat) (c : Int).toNat)).toNat < 128 by first | exact oq_c7f4e9c1 b1028.2 | omega)
          refine z_load_n X (x := xv) rfl (List.Mem.tail _ (List.Mem.head _)) (z_icmp_ne X (t := 92) rfl rfl (rng_to _) ⟨by first | exact oq_fa4e5087 hi.1.1 | omega, by first | exact oq_0e78ca7d hi.1.2 | omega⟩ (fun g1030 => ?_) (fun g1030 => ?_))
          ·
            exact z_const X rfl (N1007 _ (Or.inr (Or.inl ⟨g1027, b1028, b1029, g1030, rfl⟩)))
          ·
            exact z_const X rfl (z_goto X (t := 93) rfl rfl (N1007 _ (Or.inr (Or.inr (⟨g1027, b1028, b1029, g1030, rfl⟩)))))
  have L34 : ∀ (n : Nat) (t : PS) (xv bv sv : Int), Bd t → Fm [73] [] s t → ((0 ≤ xv ∧ xv ≤ 7) ∧ rng bv ∧ 0 ≤ sv ∧ sv ≤ 12) → (12 - sv : Int).toNat < n → (∀ (t' : PS) (xv' bv' sv' : Int), Bd t' → Fm [73] [] s t' → ((0 ≤ xv' ∧ xv' ≤ 7) ∧ rng bv' ∧ 0 ≤ sv' ∧ sv' ≤ 12) → WS k 147 [(0, .ref (A 179)), (1, .int (Int32.ofInt xv')), (2, .int (Int32.ofInt bv')), (3, .int (Int32.ofInt sv'))] [] (Wd A dT t') 0 0) → WS k 34 [(0, .ref (A 179)), (1, .int (Int32.ofInt xv)), (2, .int (Int32.ofInt bv)), (3, .int (Int32.ofInt sv))] [] (Wd A dT t) 0 0 := by
    intro n
    induction n with
    | zero =>
      intro t xv bv sv I F hi hm kx
      exact absurd hm (Nat.not_lt_zero _)
    | succ n ih =>
      intro t xv bv sv I F hi hm kx
      have b2001 := bi_73 I
      have b2002 := bi_90 I
      have b2003 := bi_95 I
      refine z_load_n X (x := sv) rfl (List.Mem.tail _ (List.Mem.tail _ (List.Mem.tail _ (List.Mem.head _)))) (z_aload_n X (x := A 179) rfl (List.Mem.head _) (z_getI X 179 rfl (c518_ok rfl) rfl rfl ?_))
      have b2004 := bi_90 I
      refine z_icmp_ge X (t := 147) rfl rfl ⟨by first | exact oq_fa4e5087 hi.2.2.1 | omega, by first | exact oq_78843a64 hi.2.2.2 | omega⟩ (rng_to _) (fun g2005 => ?_) (fun g2005 => ?_)
      ·
        refine WS_pq [0, 1, 2, 3] (lv' := [(0, .ref (A 179)), (1, .int (Int32.ofInt xv)), (2, .int (Int32.ofInt bv)), (3, .int (Int32.ofInt sv))]) rfl ?_
        exact kx _ xv bv sv I F (by first | exact ⟨And.intro (hi.1.1) (hi.1.2), And.intro (hi.2.1.1) (hi.2.1.2), hi.2.2.1, hi.2.2.2⟩ | omega)
      ·
        refine z_const X rfl (z_store X (lv' := [(4, .int (Int32.ofInt 0)), (0, .ref (A 179)), (1, .int (Int32.ofInt xv)), (2, .int (Int32.ofInt bv)), (3, .int (Int32.ofInt sv))]) rfl (by decide) (fun _ h => h) (z_const X rfl (z_store X (lv' := [(5, .int (Int32.ofInt 0)), (4, .int (Int32.ofInt 0)), (0, .ref (A 179)), (1, .int (Int32.ofInt xv)), (2, .int (Int32.ofInt bv)), (3, .int (Int32.ofInt sv))]) rfl (by decide) (fun _ h => h) (WS_pq [2, 3, 4, 5, 1, 0] (lv' := [(0, .ref (A 179)), (1, .int (Int32.ofInt xv)), (2, .int (Int32.ofInt bv)), (3, .int (Int32.ofInt sv)), (4, .int (Int32.ofInt 0)), (5, .int (Int32.ofInt 0))]) rfl (L48 ((25 - 0 : Int).toNat + 1) t xv bv sv 0 0 I F (by first | exact ⟨And.intro (hi.1.1) (hi.1.2), And.intro (hi.2.1.1) (hi.2.1.2), And.intro (hi.2.2.1) (oq_e4d7f3c5 g2005 b2004.2), by decide, by decide, by decide⟩ | omega) (Nat.lt_succ_self _) ?_)))))
        intro s2006 x2007 x2008 x2009 Is2006 Fs2006 hs2006
        have b2010 := bi_73 Is2006
        have b2011 := bi_90 Is2006
        have b2012 := bi_95 Is2006
        refine z_inc X (x := sv) (lv' := [(3, .int (Int32.ofInt (sv + 1))), (0, .ref (A 179)), (1, .int (Int32.ofInt xv)), (2, .int (Int32.ofInt x2007)), (4, .int (Int32.ofInt x2008)), (5, .int (Int32.ofInt x2009))]) rfl (by decide) (List.Mem.tail _ (List.Mem.tail _ (List.Mem.tail _ (List.Mem.head _)))) (fun _ h => h) (z_goto X (t := 34) rfl rfl (WS_pq [1, 2, 3, 0] (lv' := [(0, .ref (A 179)), (1, .int (Int32.ofInt xv)), (2, .int (Int32.ofInt x2007)), (3, .int (Int32.ofInt (sv + 1)))]) rfl ?_))
        exact ih _ xv x2007 (sv + 1) Is2006 Fs2006 (by first | exact ⟨And.intro (hs2006.1.1) (hs2006.1.2), And.intro (hs2006.2.1.1) (hs2006.2.1.2), oq_54f49eb5 hs2006.2.2.1.1, oq_51d1204d hs2006.2.2.1.2⟩ | omega) (by first | exact qk_me hm (by decide) (oq_8b937940 hs2006.2.2.1.2) | omega) kx
  refine z_aload_n X (x := A 179) rfl (List.Mem.head _) (z_const X rfl (s_putI X 179 rfl (c518_ok rfl) rfl rfl (by decide) rfl rfl rfl (wd_gen (fun s4 hs4 => ?_))))
  have Is4 : Bd s4 := eqB hs4 (bd_I I (show (0 : Int) ≤ 0 ∧ 0 ≤ 3 by first | exact ⟨by decide, by decide⟩ | omega) (by decide))
  have Fs4 := eqF hs4 (fm_I F (inl_ok (a := 73) rfl))
  have vs4 : iI s4 73 = 0 := eqI hs4 (iI_u (by decide))
  have ws4_90 : iI s4 90 = iI s 90 := eqI hs4 rfl
  have ws4_95 : iI s4 95 = iI s 95 := eqI hs4 rfl
  refine z_aload_n X (x := A 179) rfl (List.Mem.head _) (z_load_n X (x := x) rfl (List.Mem.tail _ (List.Mem.head _)) (z_const X rfl (z_bipush X rfl (zcS_i0 X E (As := [.int (Int32.ofInt x), .int (Int32.ofInt 0), .int (Int32.ofInt 7)]) (st := [.ref (A 179)]) rfl rfl (k_in G Is4 (by first | exact ⟨p0.1, p0.2⟩ | omega) (by first | exact ⟨by decide, by decide⟩ | omega) (by first | exact ⟨by decide, by decide⟩ | omega)) rfl (Nat.le_of_ble_eq_true rfl) (fun s5 e6 Is5 Fs5 hrs5 hps5 => ?_)))))
  have Gs5 := fm_tq Fs4 Fs5 rfl rfl
  have ws5_73 : iI s5 73 = iI s4 73 := fm_iq Fs5 rfl
  have ws5_90 : iI s5 90 = iI s4 90 := fm_iq Fs5 rfl
  have ws5_95 : iI s5 95 = iI s4 95 := fm_iq Fs5 rfl
  have N7 : ∀ e8 : Int, (((e6 ≠ 0) ∧ e8 = 0) ∨ ((e6 = 0) ∧ e8 = 1)) → WS k 21 [(0, .ref (A 179)), (1, .int (Int32.ofInt x))] [.int (Int32.ofInt e8), .ref (A 179)] (Wd A dT s5) 0 0 := by
    intro e8 he8
    have re8 : 0 ≤ e8 ∧ e8 ≤ 1 := by first | (clear he8 hps5; omega) | (clear hps5; omega) | omega
    refine z_const X rfl (zcV_i0 X E 179 (As := [.int (Int32.ofInt e8), .int (Int32.ofInt 1)]) (st := []) rfl rfl rfl rfl (k_bad G Is5 (by first | exact oq_31e518ae re8.2 re8.1 | omega) (by first | exact ⟨by decide, by decide⟩ | omega)) rfl (Nat.le_of_ble_eq_true rfl) (fun s9 e10 Is9 Fs9 hrs9 hps9 => ?_))
    have Gs9 := fm_tq Gs5 Fs9 rfl rfl
    have b11 := bi_73 Is9
    have ws9_90 : iI s9 90 = iI s5 90 := fm_iq Fs9 rfl
    have ws9_95 : iI s9 95 = iI s5 95 := fm_iq Fs9 rfl
    refine z_if_eq X (t := 30) rfl rfl hrs9 (fun g12 => ?_) (fun g12 => ?_)
    ·
      refine z_const X rfl (z_store_n X (lv' := [(2, .int (Int32.ofInt 0)), (0, .ref (A 179)), (1, .int (Int32.ofInt x))]) rfl (by decide) (fun _ h => h) (z_const X rfl (z_store_n X (lv' := [(3, .int (Int32.ofInt 0)), (2, .int (Int32.ofInt 0)), (0, .ref (A 179)), (1, .int (Int32.ofInt x))]) rfl (by decide) (fun _ h => h) (WS_pq [2, 3, 1, 0] (lv' := [(0, .ref (A 179)), (1, .int (Int32.ofInt x)), (2, .int (Int32.ofInt 0)), (3, .int (Int32.ofInt 0))]) rfl (L34 ((12 - 0 : Int).toNat + 1) s9 x 0 0 Is9 Gs9 (by first | exact ⟨oq_fb6f88a4 g12 hps9.2.1 re8.2 he8 hps5, And.intro (by decide) (by decide), by decide, by decide⟩ | omega) (Nat.lt_succ_self _) ?_)))))
      intro s13 x14 x15 x16 Is13 Fs13 hs13
      have b17 := bi_73 Is13
      have b18 := bi_90 Is13
      have b19 := bi_95 Is13
      refine z_load_n X (x := x15) rfl (List.Mem.tail _ (List.Mem.tail _ (List.Mem.head _))) ?_
      exact w_iret X.1 q hRt rfl (ax_d X (show cdA 243 148 = some (.ireturn, 1, 0, 0, 0) from rfl)) (Nat.zero_le _) (Nat.zero_le _) ⟨_, rfl, Is13, Fs13, x15, rfl, ⟨by first | exact hs13.2.1.1 | omega, by first | exact hs13.2.1.2 | omega⟩, trivial⟩
    ·
      refine z_const X rfl ?_
      exact w_iret X.1 q hRt rfl (ax_d X (show cdA 243 29 = some (.ireturn, 1, 0, 0, 0) from rfl)) (Nat.zero_le _) (Nat.zero_le _) ⟨_, rfl, Is9, Gs9, 0, rfl, (by decide), trivial⟩
  refine z_if_ne X (t := 20) rfl rfl hrs5 (fun g20 => ?_) (fun g20 => ?_)
  ·
    exact z_const X rfl (N7 _ (Or.inl ⟨g20, rfl⟩))
  ·
    exact z_const X rfl (z_goto X (t := 21) rfl rfl (N7 _ (Or.inr (⟨g20, rfl⟩))))
theorem k_offOf (G : GX l s0 D tys a0 dT) (I : Bd s) {x y : Int} (p0 : 0 ≤ x ∧ x ≤ 624) (p1 : y = 0 ∨ y = 1) : CT l s0 D A dT 288 (rmN 288) [.ref (A 179), .int (Int32.ofInt x), .int (Int32.ofInt y)] s (fun o t => Bd t ∧ Fm [] [] s t ∧ ∃ e, o = .inl (some (.int (Int32.ofInt e))) ∧ rng e ∧ (True)) := by
  refine ct_of G (by decide) (Nat.le_of_ble_eq_true rfl) (fun k X E hRt hXt q => ?_)
  show WS k 0 [(0, .ref (A 179)), (1, .int (Int32.ofInt x)), (2, .int (Int32.ofInt y))] [] _ 0 0
  have F : Fm [] [] s s := fm_rf _ _ s
  have b1 := bi_107 I
  have L5 : ∀ (n : Nat) (t : PS) (xv yv nv c : Int), Bd t → Fm [] [] s t → ((0 ≤ xv ∧ xv ≤ 624) ∧ (yv = 0 ∨ yv = 1) ∧ rng nv ∧ 0 ≤ c ∧ c ≤ 40) → (40 - c : Int).toNat < n → (∀ (t' : PS) (xv' yv' nv' c' : Int), Bd t' → Fm [] [] s t' → ((0 ≤ xv' ∧ xv' ≤ 624) ∧ (yv' = 0 ∨ yv' = 1) ∧ rng nv' ∧ 0 ≤ c' ∧ c' ≤ 40) → WS k 114 [(0, .ref (A 179)), (1, .int (Int32.ofInt xv')), (2, .int (Int32.ofInt yv')), (3, .int (Int32.ofInt nv')), (4, .int (Int32.ofInt c'))] [] (Wd A dT t') 0 0) → WS k 5 [(0, .ref (A 179)), (1, .int (Int32.ofInt xv)), (2, .int (Int32.ofInt yv)), (3, .int (Int32.ofInt nv)), (4, .int (Int32.ofInt c))] [] (Wd A dT t) 0 0 := by
    intro n
    induction n with
    | zero =>
      intro t xv yv nv c I F hi hm kx
      exact absurd hm (Nat.not_lt_zero _)
    | succ n ih =>
      intro t xv yv nv c I F hi hm kx
      have b1001 := bi_107 I
      refine z_load X (x := c) rfl (List.Mem.tail _ (List.Mem.tail _ (List.Mem.tail _ (List.Mem.tail _ (List.Mem.head _))))) (z_aload_n X (x := A 179) rfl (List.Mem.head _) (z_getI X 179 rfl (c518_ok rfl) rfl rfl ?_))
      have b1002 := bi_107 I
      refine z_icmp_ge X (t := 114) rfl rfl ⟨by first | exact oq_fa4e5087 hi.2.2.2.1 | omega, by first | exact oq_227d2cd7 hi.2.2.2.2 | omega⟩ (rng_to _) (fun g1003 => ?_) (fun g1003 => ?_)
      ·
        refine WS_pq [0, 1, 2, 3, 4] (lv' := [(0, .ref (A 179)), (1, .int (Int32.ofInt xv)), (2, .int (Int32.ofInt yv)), (3, .int (Int32.ofInt nv)), (4, .int (Int32.ofInt c))]) rfl ?_
        exact kx _ xv yv nv c I F (by first | exact ⟨And.intro (hi.1.1) (hi.1.2), hi.2.1, And.intro (hi.2.2.1.1) (hi.2.2.1.2), hi.2.2.2.1, hi.2.2.2.2⟩ | omega)
      ·
        refine z_aload_n X (x := A 179) rfl (List.Mem.head _) (s_getR X 179 rfl (c518_ok rfl) rfl rfl (z_load X (x := c) rfl (List.Mem.tail _ (List.Mem.tail _ (List.Mem.tail _ (List.Mem.tail _ (List.Mem.head _))))) (z_ald X 514 rfl (c518_ok rfl) rfl (by first | exact hi.2.2.2.1 | omega) (show c < 40 by first | exact oq_497ff6eb g1003 b1002.2 | omega) (cbig_ok rfl) ?_)))
        have b1004 := bc_457 I (show (c).toNat < 40 by first | exact oq_23813e7c g1003 b1002.2 | omega)
        refine z_load_n X (x := xv) rfl (List.Mem.tail _ (List.Mem.head _)) (z_bipush X rfl (z_quot X rfl (by first | exact hi.1.1 | omega) ⟨by first | exact oq_fa4e5087 hi.1.1 | omega, by first | exact oq_240b6eb6 hi.1.2 | omega⟩ (by decide) (by decide) (z_aload_n X (x := A 179) rfl (List.Mem.head _) (s_getR X 179 rfl (c518_ok rfl) rfl rfl (z_load X (x := c) rfl (List.Mem.tail _ (List.Mem.tail _ (List.Mem.tail _ (List.Mem.tail _ (List.Mem.head _))))) (z_aald X rw_473 rfl (by first | exact hi.2.2.2.1 | omega) (show c < 40 by first | exact oq_497ff6eb g1003 b1002.2 | omega) (by decide) (z_const X rfl (z_ald2 X rw_473 rfl (show (c : Int).toNat < 40 by first | exact oq_23813e7c g1003 b1002.2 | omega) (by decide) (show 0 < 4 by decide) (by decide) ?_))))))))
        have b1005 : ((-2147483648) : Int) ≤ (iC t (417 + (c : Int).toNat) (0 : Int).toNat) ∧ (iC t (417 + (c : Int).toNat) (0 : Int).toNat) ≤ 2147483647 := rw_bd rw_473 I (show (c : Int).toNat < 40 by first | exact oq_23813e7c g1003 b1002.2 | omega) (show (0 : Int).toNat < 4 by first | exact oq_c0c6d7d2 | omega)
        refine z_mul X rfl (z_any (fun y1006 hy1006 => ?_))
        refine z_sub X rfl (z_any (fun y1007 hy1007 => ?_))
        refine z_load_n X (x := xv) rfl (List.Mem.tail _ (List.Mem.head _)) (z_bipush X rfl (z_quot X rfl (by first | exact hi.1.1 | omega) ⟨by first | exact oq_fa4e5087 hi.1.1 | omega, by first | exact oq_240b6eb6 hi.1.2 | omega⟩ (by decide) (by decide) (z_const X rfl (z_mod X rfl (by first | exact oq_fe4d3050 hi.1.1 | omega) ⟨by first | exact oq_e76ffcc2 hi.1.1 | omega, by first | exact oq_41007592 hi.1.2 | omega⟩ (by decide) (by decide) (z_aload_n X (x := A 179) rfl (List.Mem.head _) (s_getR X 179 rfl (c518_ok rfl) rfl rfl (z_load X (x := c) rfl (List.Mem.tail _ (List.Mem.tail _ (List.Mem.tail _ (List.Mem.tail _ (List.Mem.head _))))) (z_aald X rw_473 rfl (by first | exact hi.2.2.2.1 | omega) (show c < 40 by first | exact oq_497ff6eb g1003 b1002.2 | omega) (by decide) (z_const X rfl (z_ald2 X rw_473 rfl (show (c : Int).toNat < 40 by first | exact oq_23813e7c g1003 b1002.2 | omega) (by decide) (show 1 < 4 by decide) (by decide) ?_))))))))))
        have b1008 : ((-2147483648) : Int) ≤ (iC t (417 + (c : Int).toNat) (1 : Int).toNat) ∧ (iC t (417 + (c : Int).toNat) (1 : Int).toNat) ≤ 2147483647 := rw_bd rw_473 I (show (c : Int).toNat < 40 by first | exact oq_23813e7c g1003 b1002.2 | omega) (show (1 : Int).toNat < 4 by first | exact oq_f6f99e0f | omega)
        refine z_mul X rfl (z_any (fun y1009 hy1009 => ?_))
        refine z_sub X rfl (z_any (fun y1010 hy1010 => ?_))
        refine z_load_n X (x := xv) rfl (List.Mem.tail _ (List.Mem.head _)) (z_const X rfl (z_quot X rfl (by first | exact hi.1.1 | omega) ⟨by first | exact oq_fa4e5087 hi.1.1 | omega, by first | exact oq_240b6eb6 hi.1.2 | omega⟩ (by decide) (by decide) (z_const X rfl (z_mod X rfl (by first | exact oq_b34fa872 hi.1.1 | omega) ⟨by first | exact oq_35859962 hi.1.1 | omega, by first | exact oq_74197da2 hi.1.2 | omega⟩ (by decide) (by decide) (z_aload_n X (x := A 179) rfl (List.Mem.head _) (s_getR X 179 rfl (c518_ok rfl) rfl rfl (z_load X (x := c) rfl (List.Mem.tail _ (List.Mem.tail _ (List.Mem.tail _ (List.Mem.tail _ (List.Mem.head _))))) (z_aald X rw_473 rfl (by first | exact hi.2.2.2.1 | omega) (show c < 40 by first | exact oq_497ff6eb g1003 b1002.2 | omega) (by decide) (z_const X rfl (z_ald2 X rw_473 rfl (show (c : Int).toNat < 40 by first | exact oq_23813e7c g1003 b1002.2 | omega) (by decide) (show 2 < 4 by decide) (by decide) ?_))))))))))
        have b1011 : ((-2147483648) : Int) ≤ (iC t (417 + (c : Int).toNat) (2 : Int).toNat) ∧ (iC t (417 + (c : Int).toNat) (2 : Int).toNat) ≤ 2147483647 := rw_bd rw_473 I (show (c : Int).toNat < 40 by first | exact oq_23813e7c g1003 b1002.2 | omega) (show (2 : Int).toNat < 4 by first | exact oq_db5fa50e | omega)
        refine z_mul X rfl (z_any (fun y1012 hy1012 => ?_))
        refine z_sub X rfl (z_any (fun y1013 hy1013 => ?_))
        refine z_load_n X (x := xv) rfl (List.Mem.tail _ (List.Mem.head _)) (z_const X rfl (z_mod X rfl (by first | exact hi.1.1 | omega) ⟨by first | exact oq_fa4e5087 hi.1.1 | omega, by first | exact oq_240b6eb6 hi.1.2 | omega⟩ (by decide) (by decide) (z_aload_n X (x := A 179) rfl (List.Mem.head _) (s_getR X 179 rfl (c518_ok rfl) rfl rfl (z_load X (x := c) rfl (List.Mem.tail _ (List.Mem.tail _ (List.Mem.tail _ (List.Mem.tail _ (List.Mem.head _))))) (z_aald X rw_473 rfl (by first | exact hi.2.2.2.1 | omega) (show c < 40 by first | exact oq_497ff6eb g1003 b1002.2 | omega) (by decide) (z_const X rfl (z_ald2 X rw_473 rfl (show (c : Int).toNat < 40 by first | exact oq_23813e7c g1003 b1002.2 | omega) (by decide) (show 3 < 4 by decide) (by decide) ?_))))))))
        have b1014 : ((-2147483648) : Int) ≤ (iC t (417 + (c : Int).toNat) (3 : Int).toNat) ∧ (iC t (417 + (c : Int).toNat) (3 : Int).toNat) ≤ 2147483647 := rw_bd rw_473 I (show (c : Int).toNat < 40 by first | exact oq_23813e7c g1003 b1002.2 | omega) (show (3 : Int).toNat < 4 by first | exact oq_8d498ec2 | omega)
        refine z_mul X rfl (z_any (fun y1015 hy1015 => ?_))
        refine z_sub X rfl (z_any (fun y1016 hy1016 => ?_))
        refine z_store X (lv' := [(5, .int (Int32.ofInt y1016)), (0, .ref (A 179)), (1, .int (Int32.ofInt xv)), (2, .int (Int32.ofInt yv)), (3, .int (Int32.ofInt nv)), (4, .int (Int32.ofInt c))]) rfl (by decide) (fun _ h => h) (z_load_n X (x := nv) rfl (List.Mem.tail _ (List.Mem.tail _ (List.Mem.tail _ (List.Mem.tail _ (List.Mem.head _))))) (z_aload_n X (x := A 179) rfl (List.Mem.tail _ (List.Mem.head _)) (s_getR X 179 rfl (c518_ok rfl) rfl rfl (z_load X (x := c) rfl (List.Mem.tail _ (List.Mem.tail _ (List.Mem.tail _ (List.Mem.tail _ (List.Mem.tail _ (List.Mem.head _)))))) (z_zald X 516 rfl (c518_ok rfl) rfl (by first | exact hi.2.2.2.1 | omega) (show c < 40 by first | exact oq_497ff6eb g1003 b1002.2 | omega) (cbig_ok rfl) ?_)))))
        have b1017 := bc_459 I (show (c).toNat < 40 by first | exact oq_23813e7c g1003 b1002.2 | omega)
        refine z_load_n X (x := yv) rfl (List.Mem.tail _ (List.Mem.tail _ (List.Mem.tail _ (List.Mem.head _)))) (z_icmp_ne X (t := 105) rfl rfl (rng_to _) ⟨by first | exact oq_bde653e9 hi.2.1 | omega, by first | exact oq_4ad2cb8b hi.2.1 | omega⟩ (fun g1018 => ?_) (fun g1018 => ?_))
        ·
          refine z_const X rfl (z_add X rfl (z_any (fun y1019 hy1019 => ?_)))
          refine z_store_n X (lv' := [(3, .int (Int32.ofInt y1019)), (5, .int (Int32.ofInt y1016)), (0, .ref (A 179)), (1, .int (Int32.ofInt xv)), (2, .int (Int32.ofInt yv)), (4, .int (Int32.ofInt c))]) rfl (by decide) (fun _ h => h) (z_inc X (x := c) (lv' := [(4, .int (Int32.ofInt (c + 1))), (3, .int (Int32.ofInt y1019)), (5, .int (Int32.ofInt y1016)), (0, .ref (A 179)), (1, .int (Int32.ofInt xv)), (2, .int (Int32.ofInt yv))]) rfl (by decide) (List.Mem.tail _ (List.Mem.tail _ (List.Mem.tail _ (List.Mem.tail _ (List.Mem.tail _ (List.Mem.head _)))))) (fun _ h => h) (z_goto X (t := 5) rfl rfl (WS_pq [3, 4, 5, 1, 0] (lv' := [(0, .ref (A 179)), (1, .int (Int32.ofInt xv)), (2, .int (Int32.ofInt yv)), (3, .int (Int32.ofInt y1019)), (4, .int (Int32.ofInt (c + 1)))]) rfl ?_)))
          exact ih _ xv yv y1019 (c + 1) I F (by first | exact ⟨And.intro (hi.1.1) (hi.1.2), hi.2.1, And.intro (hy1019.1) (hy1019.2), oq_54f49eb5 hi.2.2.2.1, oq_aa91b9d2 g1003 b1002.2⟩ | omega) (by first | exact qk_me hm (by decide) (oq_e7680c39 g1003 b1002.2) | omega) kx
        ·
          refine z_load X (x := y1016) rfl (List.Mem.head _) (zcS_i0 X E (As := [.int (Int32.ofInt y1016)]) (st := [.int (Int32.ofInt nv)]) rfl rfl (k_amount G I (by first | exact ⟨hy1016.1, hy1016.2⟩ | omega)) rfl (Nat.le_of_ble_eq_true rfl) (fun s1020 e1021 Is1020 Fs1020 hrs1020 hps1020 => ?_))
          have Gs1020 := fm_tq F Fs1020 rfl rfl
          have ws1020_107 : iI s1020 107 = iI t 107 := fm_iq Fs1020 rfl
          refine z_goto X (t := 106) rfl rfl (z_add X rfl (z_any (fun y1022 hy1022 => ?_)))
          refine z_store_n X (lv' := [(3, .int (Int32.ofInt y1022)), (5, .int (Int32.ofInt y1016)), (0, .ref (A 179)), (1, .int (Int32.ofInt xv)), (2, .int (Int32.ofInt yv)), (4, .int (Int32.ofInt c))]) rfl (by decide) (fun _ h => h) (z_inc X (x := c) (lv' := [(4, .int (Int32.ofInt (c + 1))), (3, .int (Int32.ofInt y1022)), (5, .int (Int32.ofInt y1016)), (0, .ref (A 179)), (1, .int (Int32.ofInt xv)), (2, .int (Int32.ofInt yv))]) rfl (by decide) (List.Mem.tail _ (List.Mem.tail _ (List.Mem.tail _ (List.Mem.tail _ (List.Mem.tail _ (List.Mem.head _)))))) (fun _ h => h) (z_goto X (t := 5) rfl rfl (WS_pq [3, 4, 5, 1, 0] (lv' := [(0, .ref (A 179)), (1, .int (Int32.ofInt xv)), (2, .int (Int32.ofInt yv)), (3, .int (Int32.ofInt y1022)), (4, .int (Int32.ofInt (c + 1)))]) rfl ?_)))
          exact ih _ xv yv y1022 (c + 1) Is1020 Gs1020 (by first | exact ⟨And.intro (hi.1.1) (hi.1.2), hi.2.1, And.intro (hy1022.1) (hy1022.2), oq_54f49eb5 hi.2.2.2.1, oq_aa91b9d2 g1003 b1002.2⟩ | omega) (by first | exact qk_me hm (by decide) (oq_e7680c39 g1003 b1002.2) | omega) kx
  refine z_const X rfl (z_store_n X (lv' := [(3, .int (Int32.ofInt 0)), (0, .ref (A 179)), (1, .int (Int32.ofInt x)), (2, .int (Int32.ofInt y))]) rfl (by decide) (fun _ h => h) (z_const X rfl (z_store X (lv' := [(4, .int (Int32.ofInt 0)), (3, .int (Int32.ofInt 0)), (0, .ref (A 179)), (1, .int (Int32.ofInt x)), (2, .int (Int32.ofInt y))]) rfl (by decide) (fun _ h => h) (WS_pq [2, 3, 4, 1, 0] (lv' := [(0, .ref (A 179)), (1, .int (Int32.ofInt x)), (2, .int (Int32.ofInt y)), (3, .int (Int32.ofInt 0)), (4, .int (Int32.ofInt 0))]) rfl (L5 ((40 - 0 : Int).toNat + 1) s x y 0 0 I F (by first | exact ⟨And.intro (p0.1) (p0.2), p1, And.intro (by decide) (by decide), by decide, by decide⟩ | omega) (Nat.lt_succ_self _) ?_)))))
  intro s2 x3 x4 x5 x6 Is2 Fs2 hs2
  have b7 := bi_107 Is2
  refine z_load_n X (x := x5) rfl (List.Mem.tail _ (List.Mem.tail _ (List.Mem.tail _ (List.Mem.head _)))) ?_
  exact w_iret X.1 q hRt rfl (ax_d X (show cdA 288 115 = some (.ireturn, 1, 0, 0, 0) from rfl)) (Nat.zero_le _) (Nat.zero_le _) ⟨_, rfl, Is2, Fs2, x5, rfl, ⟨by first | exact hs2.2.2.1.1 | omega, by first | exact hs2.2.2.1.2 | omega⟩, trivial⟩
theorem k_fit (G : GX l s0 D tys a0 dT) (I : Bd s) {x : Int} (p0 : rng x) : CT l s0 D A dT 289 (rmN 289) [.ref (A 179), .int (Int32.ofInt x)] s (fun o t => Bd t ∧ Fm [73] [] s t ∧ ∃ e, o = .inl (some (.int (Int32.ofInt e))) ∧ rng e ∧ (True)) := by
  refine ct_of G (by decide) (Nat.le_of_ble_eq_true rfl) (fun k X E hRt hXt q => ?_)
  show WS k 0 [(0, .ref (A 179)), (1, .int (Int32.ofInt x))] [] _ 0 0
  have F : Fm [73] [] s s := fm_rf _ _ s
  have b1 := bi_73 I
  have b2 := bi_107 I
  have L33 : ∀ (n : Nat) (t : PS) (xv av c : Int), Bd t → Fm [73] [] s t → ((0 ≤ xv ∧ xv ≤ 5) ∧ (av = 0 ∨ av = 1) ∧ 0 ≤ c ∧ c ≤ 40) → (40 - c : Int).toNat < n → (∀ (t' : PS) (av' c' : Int), Bd t' → Fm [73] [] s t' → ((0 ≤ xv ∧ xv ≤ 5) ∧ (av' = 0 ∨ av' = 1) ∧ 0 ≤ c' ∧ c' ≤ 40) → WS k 66 [(0, .ref (A 179)), (1, .int (Int32.ofInt xv)), (2, .int (Int32.ofInt av')), (3, .int (Int32.ofInt c'))] [] (Wd A dT t') 0 0) → WS k 33 [(0, .ref (A 179)), (1, .int (Int32.ofInt xv)), (2, .int (Int32.ofInt av)), (3, .int (Int32.ofInt c))] [] (Wd A dT t) 0 0 := by
    intro n
    induction n with
    | zero =>
      intro t xv av c I F hi hm kx
      exact absurd hm (Nat.not_lt_zero _)
    | succ n ih =>
      intro t xv av c I F hi hm kx
      have b1001 := bi_73 I
      have b1002 := bi_107 I
      refine z_load_n X (x := c) rfl (List.Mem.tail _ (List.Mem.tail _ (List.Mem.tail _ (List.Mem.head _)))) (z_aload_n X (x := A 179) rfl (List.Mem.head _) (z_getI X 179 rfl (c518_ok rfl) rfl rfl ?_))
      have b1003 := bi_107 I
      refine z_icmp_ge X (t := 66) rfl rfl ⟨by first | exact oq_fa4e5087 hi.2.2.1 | omega, by first | exact oq_227d2cd7 hi.2.2.2 | omega⟩ (rng_to _) (fun g1004 => ?_) (fun g1004 => ?_)
      ·
        refine WS_pq [0, 1, 2, 3] (lv' := [(0, .ref (A 179)), (1, .int (Int32.ofInt xv)), (2, .int (Int32.ofInt av)), (3, .int (Int32.ofInt c))]) rfl ?_
        exact kx _ av c I F (by first | exact ⟨And.intro (hi.1.1) (hi.1.2), hi.2.1, hi.2.2.1, hi.2.2.2⟩ | omega)
      ·
        refine z_load_n X (x := av) rfl (List.Mem.tail _ (List.Mem.tail _ (List.Mem.head _))) ?_
        have N1005 : ∀ e1006 : Int, (((av ≠ 0) ∧ e1006 = 1) ∨ ((av = 0) ∧ ((0 : Int) ≤ iC t 459 (c).toNat ∧ iC t 459 (c).toNat ≤ 1) ∧ ((iC t 459 (c).toNat) ≠ 0) ∧ e1006 = 0) ∨ ((av = 0) ∧ ((0 : Int) ≤ iC t 459 (c).toNat ∧ iC t 459 (c).toNat ≤ 1) ∧ ((iC t 459 (c).toNat) = 0) ∧ e1006 = 1)) → WS k 59 [(0, .ref (A 179)), (1, .int (Int32.ofInt xv)), (2, .int (Int32.ofInt av)), (3, .int (Int32.ofInt c))] [.int (Int32.ofInt e1006)] (Wd A dT t) 0 0 := by
          intro e1006 he1006
          have re1006 : 0 ≤ e1006 ∧ e1006 ≤ 1 := by first | (clear he1006; omega) | omega
          refine z_store_n X (lv' := [(2, .int (Int32.ofInt e1006)), (0, .ref (A 179)), (1, .int (Int32.ofInt xv)), (3, .int (Int32.ofInt c))]) rfl (by decide) (fun _ h => h) (z_inc X (x := c) (lv' := [(3, .int (Int32.ofInt (c + 1))), (2, .int (Int32.ofInt e1006)), (0, .ref (A 179)), (1, .int (Int32.ofInt xv))]) rfl (by decide) (List.Mem.tail _ (List.Mem.tail _ (List.Mem.tail _ (List.Mem.head _)))) (fun _ h => h) (z_goto X (t := 33) rfl rfl (WS_pq [2, 3, 1, 0] (lv' := [(0, .ref (A 179)), (1, .int (Int32.ofInt xv)), (2, .int (Int32.ofInt e1006)), (3, .int (Int32.ofInt (c + 1)))]) rfl ?_)))
          exact ih _ xv e1006 (c + 1) I F (by first | exact ⟨And.intro (hi.1.1) (hi.1.2), oq_31e518ae re1006.2 re1006.1, oq_54f49eb5 hi.2.2.1, oq_aa91b9d2 g1004 b1003.2⟩ | omega) (by first | exact qk_me hm (by decide) (oq_e7680c39 g1004 b1003.2) | omega) kx
        refine z_if_ne X (t := 54) rfl rfl ⟨by first | exact oq_bde653e9 hi.2.1 | omega, by first | exact oq_4ad2cb8b hi.2.1 | omega⟩ (fun g1007 => ?_) (fun g1007 => ?_)
        ·
          exact z_const X rfl (z_goto X (t := 59) rfl rfl (N1005 _ (Or.inl ⟨g1007, rfl⟩)))
        ·
          refine z_aload_n X (x := A 179) rfl (List.Mem.head _) (s_getR X 179 rfl (c518_ok rfl) rfl rfl (z_load_n X (x := c) rfl (List.Mem.tail _ (List.Mem.tail _ (List.Mem.tail _ (List.Mem.head _)))) (z_zald X 516 rfl (c518_ok rfl) rfl (by first | exact hi.2.2.1 | omega) (show c < 40 by first | exact oq_497ff6eb g1004 b1003.2 | omega) (cbig_ok rfl) ?_)))
          have b1008 := bc_459 I (show (c).toNat < 40 by first | exact oq_23813e7c g1004 b1003.2 | omega)
          refine z_if_ne X (t := 58) rfl rfl (rng_to _) (fun g1009 => ?_) (fun g1009 => ?_)
          ·
            exact z_const X rfl (N1005 _ (Or.inr (Or.inl ⟨g1007, b1008, g1009, rfl⟩)))
          ·
            exact z_const X rfl (z_goto X (t := 59) rfl rfl (N1005 _ (Or.inr (Or.inr (⟨g1007, b1008, g1009, rfl⟩)))))
  have L85 : ∀ (n : Nat) (t : PS) (xv bv lv c : Int), Bd t → Fm [73] [] s t → ((0 ≤ xv ∧ xv ≤ 5) ∧ (0 ≤ bv ∧ bv ≤ 624) ∧ rng lv ∧ 1 ≤ c ∧ c ≤ 625) → (625 - c : Int).toNat < n → (∀ (t' : PS) (bv' lv' c' : Int), Bd t' → Fm [73] [] s t' → ((0 ≤ xv ∧ xv ≤ 5) ∧ (0 ≤ bv' ∧ bv' ≤ 624) ∧ rng lv' ∧ 1 ≤ c' ∧ c' ≤ 625) → WS k 125 [(0, .ref (A 179)), (1, .int (Int32.ofInt xv)), (3, .int (Int32.ofInt bv')), (4, .int (Int32.ofInt lv')), (5, .int (Int32.ofInt c'))] [] (Wd A dT t') 0 0) → WS k 85 [(0, .ref (A 179)), (1, .int (Int32.ofInt xv)), (3, .int (Int32.ofInt bv)), (4, .int (Int32.ofInt lv)), (5, .int (Int32.ofInt c))] [] (Wd A dT t) 0 0 := by
    intro n
    induction n with
    | zero =>
      intro t xv bv lv c I F hi hm kx
      exact absurd hm (Nat.not_lt_zero _)
    | succ n ih =>
      intro t xv bv lv c I F hi hm kx
      have b2001 := bi_73 I
      have b2002 := bi_107 I
      refine z_load X (x := c) rfl (List.Mem.tail _ (List.Mem.tail _ (List.Mem.tail _ (List.Mem.tail _ (List.Mem.head _))))) (z_sipush X rfl (z_icmp_ge X (t := 125) rfl rfl ⟨by first | exact oq_9462313e hi.2.2.2.1 | omega, by first | exact oq_82406429 hi.2.2.2.2 | omega⟩ (by decide) (fun g2003 => ?_) (fun g2003 => ?_)))
      ·
        refine WS_pq [0, 1, 2, 3, 4] (lv' := [(0, .ref (A 179)), (1, .int (Int32.ofInt xv)), (3, .int (Int32.ofInt bv)), (4, .int (Int32.ofInt lv)), (5, .int (Int32.ofInt c))]) rfl ?_
        exact kx _ bv lv c I F (by first | exact ⟨And.intro (hi.1.1) (hi.1.2), And.intro (hi.2.1.1) (hi.2.1.2), And.intro (hi.2.2.1.1) (hi.2.2.1.2), hi.2.2.2.1, hi.2.2.2.2⟩ | omega)
      ·
        refine z_aload_n X (x := A 179) rfl (List.Mem.head _) (z_load X (x := c) rfl (List.Mem.tail _ (List.Mem.tail _ (List.Mem.tail _ (List.Mem.tail _ (List.Mem.head _))))) (z_const X rfl (zcV_i0 X E 179 (As := [.int (Int32.ofInt c), .int (Int32.ofInt 0)]) (st := []) rfl rfl rfl rfl (k_offOf G I (by first | exact ⟨oq_2a6e3b50 hi.2.2.2.1, oq_6eb35ffb g2003⟩ | omega) (by first | exact Or.inl (by decide) | omega)) rfl (Nat.le_of_ble_eq_true rfl) (fun s2004 e2005 Is2004 Fs2004 hrs2004 hps2004 => ?_))))
        have Gs2004 := fm_tq F Fs2004 rfl rfl
        have ws2004_73 : iI s2004 73 = iI t 73 := fm_iq Fs2004 rfl
        have ws2004_107 : iI s2004 107 = iI t 107 := fm_iq Fs2004 rfl
        refine z_store X (lv' := [(6, .int (Int32.ofInt e2005)), (0, .ref (A 179)), (1, .int (Int32.ofInt xv)), (3, .int (Int32.ofInt bv)), (4, .int (Int32.ofInt lv)), (5, .int (Int32.ofInt c))]) rfl (by decide) (fun _ h => h) (z_load X (x := e2005) rfl (List.Mem.head _) (z_load X (x := lv) rfl (List.Mem.tail _ (List.Mem.tail _ (List.Mem.tail _ (List.Mem.tail _ (List.Mem.head _))))) (z_icmp_lt X (t := 112) rfl rfl hrs2004 ⟨by first | exact hi.2.2.1.1 | omega, by first | exact hi.2.2.1.2 | omega⟩ (fun g2006 => ?_) (fun g2006 => ?_))))
        ·
          refine z_load X (x := c) rfl (List.Mem.tail _ (List.Mem.tail _ (List.Mem.tail _ (List.Mem.tail _ (List.Mem.tail _ (List.Mem.head _)))))) (z_store_n X (lv' := [(3, .int (Int32.ofInt c)), (6, .int (Int32.ofInt e2005)), (0, .ref (A 179)), (1, .int (Int32.ofInt xv)), (4, .int (Int32.ofInt lv)), (5, .int (Int32.ofInt c))]) rfl (by decide) (fun _ h => h) (z_load X (x := e2005) rfl (List.Mem.tail _ (List.Mem.head _)) (z_store X (lv' := [(4, .int (Int32.ofInt e2005)), (3, .int (Int32.ofInt c)), (6, .int (Int32.ofInt e2005)), (0, .ref (A 179)), (1, .int (Int32.ofInt xv)), (5, .int (Int32.ofInt c))]) rfl (by decide) (fun _ h => h) (z_inc X (x := c) (lv' := [(5, .int (Int32.ofInt (c + 1))), (4, .int (Int32.ofInt e2005)), (3, .int (Int32.ofInt c)), (6, .int (Int32.ofInt e2005)), (0, .ref (A 179)), (1, .int (Int32.ofInt xv))]) rfl (by decide) (List.Mem.tail _ (List.Mem.tail _ (List.Mem.tail _ (List.Mem.tail _ (List.Mem.tail _ (List.Mem.head _)))))) (fun _ h => h) (z_goto X (t := 85) rfl rfl (WS_pq [4, 5, 2, 1, 0] (lv' := [(0, .ref (A 179)), (1, .int (Int32.ofInt xv)), (3, .int (Int32.ofInt c)), (4, .int (Int32.ofInt e2005)), (5, .int (Int32.ofInt (c + 1)))]) rfl ?_))))))
          exact ih _ xv c e2005 (c + 1) Is2004 Gs2004 (by first | exact ⟨And.intro (hi.1.1) (hi.1.2), And.intro (oq_2a6e3b50 hi.2.2.2.1) (oq_6eb35ffb g2003), by omega, oq_1e1a2df6 hi.2.2.2.1, oq_d524a3cb g2003⟩ | omega) (by first | exact qk_me hm (by decide) (oq_ad009edd g2003) | omega) kx
        ·
          refine z_goto X (t := 119) rfl rfl (z_inc X (x := c) (lv' := [(5, .int (Int32.ofInt (c + 1))), (6, .int (Int32.ofInt e2005)), (0, .ref (A 179)), (1, .int (Int32.ofInt xv)), (3, .int (Int32.ofInt bv)), (4, .int (Int32.ofInt lv))]) rfl (by decide) (List.Mem.tail _ (List.Mem.tail _ (List.Mem.tail _ (List.Mem.tail _ (List.Mem.tail _ (List.Mem.head _)))))) (fun _ h => h) (z_goto X (t := 85) rfl rfl (WS_pq [2, 3, 4, 5, 0] (lv' := [(0, .ref (A 179)), (1, .int (Int32.ofInt xv)), (3, .int (Int32.ofInt bv)), (4, .int (Int32.ofInt lv)), (5, .int (Int32.ofInt (c + 1)))]) rfl ?_)))
          exact ih _ xv bv lv (c + 1) Is2004 Gs2004 (by first | exact ⟨And.intro (hi.1.1) (hi.1.2), And.intro (hi.2.1.1) (hi.2.1.2), And.intro (hi.2.2.1.1) (hi.2.2.1.2), oq_1e1a2df6 hi.2.2.2.1, oq_d524a3cb g2003⟩ | omega) (by first | exact qk_me hm (by decide) (oq_ad009edd g2003) | omega) kx
  refine z_aload_n X (x := A 179) rfl (List.Mem.head _) (z_const X rfl (s_putI X 179 rfl (c518_ok rfl) rfl rfl (by decide) rfl rfl rfl (wd_gen (fun s3 hs3 => ?_))))
  have Is3 : Bd s3 := eqB hs3 (bd_I I (show (0 : Int) ≤ 0 ∧ 0 ≤ 3 by first | exact ⟨by decide, by decide⟩ | omega) (by decide))
  have Fs3 := eqF hs3 (fm_I F (inl_ok (a := 73) rfl))
  have vs3 : iI s3 73 = 0 := eqI hs3 (iI_u (by decide))
  have ws3_107 : iI s3 107 = iI s 107 := eqI hs3 rfl
  refine z_aload_n X (x := A 179) rfl (List.Mem.head _) (z_load_n X (x := x) rfl (List.Mem.tail _ (List.Mem.head _)) (z_const X rfl (z_const X rfl (zcS_i0 X E (As := [.int (Int32.ofInt x), .int (Int32.ofInt 0), .int (Int32.ofInt 5)]) (st := [.ref (A 179)]) rfl rfl (k_in G Is3 (by first | exact ⟨p0.1, p0.2⟩ | omega) (by first | exact ⟨by decide, by decide⟩ | omega) (by first | exact ⟨by decide, by decide⟩ | omega)) rfl (Nat.le_of_ble_eq_true rfl) (fun s4 e5 Is4 Fs4 hrs4 hps4 => ?_)))))
  have Gs4 := fm_tq Fs3 Fs4 rfl rfl
  have ws4_73 : iI s4 73 = iI s3 73 := fm_iq Fs4 rfl
  have ws4_107 : iI s4 107 = iI s3 107 := fm_iq Fs4 rfl
  have N6 : ∀ e7 : Int, (((e5 ≠ 0) ∧ e7 = 0) ∨ ((e5 = 0) ∧ e7 = 1)) → WS k 20 [(0, .ref (A 179)), (1, .int (Int32.ofInt x))] [.int (Int32.ofInt e7), .ref (A 179)] (Wd A dT s4) 0 0 := by
    intro e7 he7
    have re7 : 0 ≤ e7 ∧ e7 ≤ 1 := by first | (clear he7 hps4; omega) | (clear hps4; omega) | omega
    refine z_const X rfl (zcV_i0 X E 179 (As := [.int (Int32.ofInt e7), .int (Int32.ofInt 1)]) (st := []) rfl rfl rfl rfl (k_bad G Is4 (by first | exact oq_31e518ae re7.2 re7.1 | omega) (by first | exact ⟨by decide, by decide⟩ | omega)) rfl (Nat.le_of_ble_eq_true rfl) (fun s8 e9 Is8 Fs8 hrs8 hps8 => ?_))
    have Gs8 := fm_tq Gs4 Fs8 rfl rfl
    have b10 := bi_73 Is8
    have ws8_107 : iI s8 107 = iI s4 107 := fm_iq Fs8 rfl
    refine z_if_eq X (t := 29) rfl rfl hrs8 (fun g11 => ?_) (fun g11 => ?_)
    ·
      refine z_const X rfl (z_store_n X (lv' := [(2, .int (Int32.ofInt 0)), (0, .ref (A 179)), (1, .int (Int32.ofInt x))]) rfl (by decide) (fun _ h => h) (z_const X rfl (z_store_n X (lv' := [(3, .int (Int32.ofInt 0)), (2, .int (Int32.ofInt 0)), (0, .ref (A 179)), (1, .int (Int32.ofInt x))]) rfl (by decide) (fun _ h => h) (WS_pq [2, 3, 1, 0] (lv' := [(0, .ref (A 179)), (1, .int (Int32.ofInt x)), (2, .int (Int32.ofInt 0)), (3, .int (Int32.ofInt 0))]) rfl (L33 ((40 - 0 : Int).toNat + 1) s8 x 0 0 Is8 Gs8 (by first | exact ⟨oq_316058e1 g11 hps8.2.1 re7.2 he7 hps4, Or.inl (by decide), by decide, by decide⟩ | omega) (Nat.lt_succ_self _) ?_)))))
      intro s12 x13 x14 Is12 Fs12 hs12
      have b15 := bi_73 Is12
      have b16 := bi_107 Is12
      refine z_load_n X (x := x13) rfl (List.Mem.tail _ (List.Mem.tail _ (List.Mem.head _))) (z_if_ne X (t := 72) rfl rfl ⟨by first | exact oq_bde653e9 hs12.2.1 | omega, by first | exact oq_4ad2cb8b hs12.2.1 | omega⟩ (fun g17 => ?_) (fun g17 => ?_))
      ·
        refine z_const X rfl (z_store_n X (lv' := [(3, .int (Int32.ofInt 0)), (0, .ref (A 179)), (1, .int (Int32.ofInt x)), (2, .int (Int32.ofInt x13))]) rfl (by decide) (fun _ h => h) (z_aload_n X (x := A 179) rfl (List.Mem.tail _ (List.Mem.head _)) (z_const X rfl (z_const X rfl (zcV_i0 X E 179 (As := [.int (Int32.ofInt 0), .int (Int32.ofInt 0)]) (st := []) rfl rfl rfl rfl (k_offOf G Is12 (by first | exact ⟨by decide, by decide⟩ | omega) (by first | exact Or.inl (by decide) | omega)) rfl (Nat.le_of_ble_eq_true rfl) (fun s18 e19 Is18 Fs18 hrs18 hps18 => ?_))))))
        have Gs18 := fm_tq Fs12 Fs18 rfl rfl
        have ws18_73 : iI s18 73 = iI s12 73 := fm_iq Fs18 rfl
        have ws18_107 : iI s18 107 = iI s12 107 := fm_iq Fs18 rfl
        refine z_store X (lv' := [(4, .int (Int32.ofInt e19)), (3, .int (Int32.ofInt 0)), (0, .ref (A 179)), (1, .int (Int32.ofInt x)), (2, .int (Int32.ofInt x13))]) rfl (by decide) (fun _ h => h) (z_const X rfl (z_store X (lv' := [(5, .int (Int32.ofInt 1)), (4, .int (Int32.ofInt e19)), (3, .int (Int32.ofInt 0)), (0, .ref (A 179)), (1, .int (Int32.ofInt x)), (2, .int (Int32.ofInt x13))]) rfl (by decide) (fun _ h => h) (WS_pq [3, 4, 2, 1, 0] (lv' := [(0, .ref (A 179)), (1, .int (Int32.ofInt x)), (3, .int (Int32.ofInt 0)), (4, .int (Int32.ofInt e19)), (5, .int (Int32.ofInt 1))]) rfl (L85 ((625 - 1 : Int).toNat + 1) s18 x 0 e19 1 Is18 Gs18 (by first | exact ⟨And.intro (hs12.1.1) (hs12.1.2), And.intro (by decide) (by decide), by first | (clear g17 hps8 he7 hps4; omega) | (clear hps8 he7 hps4; omega) | omega, by decide, by decide⟩ | omega) (Nat.lt_succ_self _) ?_))))
        intro s20 x21 x22 x23 Is20 Fs20 hs20
        have b24 := bi_73 Is20
        have b25 := bi_107 Is20
        refine z_load_n X (x := x) rfl (List.Mem.tail _ (List.Mem.head _)) (z_const X rfl (z_icmp_le X (t := 147) rfl rfl ⟨by first | exact p0.1 | omega, by first | exact p0.2 | omega⟩ (by decide) (fun g26 => ?_) (fun g26 => ?_)))
        ·
          refine z_load_n X (x := x) rfl (List.Mem.tail _ (List.Mem.head _)) (z_if_ne X (t := 158) rfl rfl ⟨by first | exact p0.1 | omega, by first | exact p0.2 | omega⟩ (fun g27 => ?_) (fun g27 => ?_))
          ·
            refine z_load_n X (x := x) rfl (List.Mem.tail _ (List.Mem.head _)) (z_const X rfl (z_icmp_ne X (t := 172) rfl rfl ⟨by first | exact p0.1 | omega, by first | exact p0.2 | omega⟩ (by decide) (fun g28 => ?_) (fun g28 => ?_)))
            ·
              refine z_load_n X (x := x) rfl (List.Mem.tail _ (List.Mem.head _)) (z_const X rfl (z_icmp_ne X (t := 185) rfl rfl ⟨by first | exact p0.1 | omega, by first | exact p0.2 | omega⟩ (by decide) (fun g29 => ?_) (fun g29 => ?_)))
              ·
                refine z_load_n X (x := x21) rfl (List.Mem.tail _ (List.Mem.tail _ (List.Mem.head _))) (z_const X rfl (z_mod X rfl (by first | exact hs20.2.1.1 | omega) ⟨by first | exact oq_fa4e5087 hs20.2.1.1 | omega, by first | exact oq_240b6eb6 hs20.2.1.2 | omega⟩ (by decide) (by decide) ?_))
                exact w_iret X.1 q hRt rfl (ax_d X (show cdA 289 188 = some (.ireturn, 1, 0, 0, 0) from rfl)) (Nat.zero_le _) (Nat.zero_le _) ⟨_, rfl, Is20, Fs20, (x21 % 5), rfl, ⟨by first | exact oq_b00d0c1c | omega, by first | exact oq_3a6ad61a | omega⟩, trivial⟩
              ·
                refine z_load_n X (x := x21) rfl (List.Mem.tail _ (List.Mem.tail _ (List.Mem.head _))) (z_const X rfl (z_quot X rfl (by first | exact hs20.2.1.1 | omega) ⟨by first | exact oq_fa4e5087 hs20.2.1.1 | omega, by first | exact oq_240b6eb6 hs20.2.1.2 | omega⟩ (by decide) (by decide) (z_const X rfl (z_mod X rfl (by first | exact oq_b34fa872 hs20.2.1.1 | omega) ⟨by first | exact oq_35859962 hs20.2.1.1 | omega, by first | exact oq_74197da2 hs20.2.1.2 | omega⟩ (by decide) (by decide) (z_goto X (t := 188) rfl rfl ?_)))))
                exact w_iret X.1 q hRt rfl (ax_d X (show cdA 289 188 = some (.ireturn, 1, 0, 0, 0) from rfl)) (Nat.zero_le _) (Nat.zero_le _) ⟨_, rfl, Is20, Fs20, ((x21 / 5) % 5), rfl, ⟨by first | exact oq_cd11bb7e | omega, by first | exact oq_49813365 | omega⟩, trivial⟩
            ·
              refine z_load_n X (x := x21) rfl (List.Mem.tail _ (List.Mem.tail _ (List.Mem.head _))) (z_bipush X rfl (z_quot X rfl (by first | exact hs20.2.1.1 | omega) ⟨by first | exact oq_fa4e5087 hs20.2.1.1 | omega, by first | exact oq_240b6eb6 hs20.2.1.2 | omega⟩ (by decide) (by decide) (z_const X rfl (z_mod X rfl (by first | exact oq_fe4d3050 hs20.2.1.1 | omega) ⟨by first | exact oq_e76ffcc2 hs20.2.1.1 | omega, by first | exact oq_41007592 hs20.2.1.2 | omega⟩ (by decide) (by decide) (z_goto X (t := 188) rfl rfl ?_)))))
              exact w_iret X.1 q hRt rfl (ax_d X (show cdA 289 188 = some (.ireturn, 1, 0, 0, 0) from rfl)) (Nat.zero_le _) (Nat.zero_le _) ⟨_, rfl, Is20, Fs20, ((x21 / 25) % 5), rfl, ⟨by first | exact oq_60d80e36 | omega, by first | exact oq_9ee02b76 | omega⟩, trivial⟩
          ·
            refine z_load_n X (x := x21) rfl (List.Mem.tail _ (List.Mem.tail _ (List.Mem.head _))) (z_bipush X rfl (z_quot X rfl (by first | exact hs20.2.1.1 | omega) ⟨by first | exact oq_fa4e5087 hs20.2.1.1 | omega, by first | exact oq_240b6eb6 hs20.2.1.2 | omega⟩ (by decide) (by decide) (z_goto X (t := 188) rfl rfl ?_)))
            exact w_iret X.1 q hRt rfl (ax_d X (show cdA 289 188 = some (.ireturn, 1, 0, 0, 0) from rfl)) (Nat.zero_le _) (Nat.zero_le _) ⟨_, rfl, Is20, Fs20, (x21 / 125), rfl, ⟨by first | exact oq_2f0adc8d hs20.2.1.1 | omega, by first | exact oq_b0fa4340 hs20.2.1.2 | omega⟩, trivial⟩
        ·
          refine z_load_n X (x := x) rfl (List.Mem.tail _ (List.Mem.head _)) (z_const X rfl (z_icmp_ne X (t := 140) rfl rfl ⟨by first | exact p0.1 | omega, by first | exact p0.2 | omega⟩ (by decide) (fun g30 => ?_) (fun g30 => ?_)))
          ·
            refine z_aload_n X (x := A 179) rfl (List.Mem.head _) (z_load_n X (x := x21) rfl (List.Mem.tail _ (List.Mem.tail _ (List.Mem.head _))) (z_const X rfl (zcV_i0 X E 179 (As := [.int (Int32.ofInt x21), .int (Int32.ofInt 1)]) (st := []) rfl rfl rfl rfl (k_offOf G Is20 (by first | exact ⟨hs20.2.1.1, hs20.2.1.2⟩ | omega) (by first | exact Or.inr (by decide) | omega)) rfl (Nat.le_of_ble_eq_true rfl) (fun s31 e32 Is31 Fs31 hrs31 hps31 => ?_))))
            have Gs31 := fm_tq Fs20 Fs31 rfl rfl
            have ws31_73 : iI s31 73 = iI s20 73 := fm_iq Fs31 rfl
            have ws31_107 : iI s31 107 = iI s20 107 := fm_iq Fs31 rfl
            exact w_iret X.1 q hRt rfl (ax_d X (show cdA 289 146 = some (.ireturn, 1, 0, 0, 0) from rfl)) (Nat.zero_le _) (Nat.zero_le _) ⟨_, rfl, Is31, Gs31, e32, rfl, hrs31, trivial⟩
          ·
            refine z_load X (x := x22) rfl (List.Mem.tail _ (List.Mem.tail _ (List.Mem.tail _ (List.Mem.head _)))) (z_goto X (t := 146) rfl rfl ?_)
            exact w_iret X.1 q hRt rfl (ax_d X (show cdA 289 146 = some (.ireturn, 1, 0, 0, 0) from rfl)) (Nat.zero_le _) (Nat.zero_le _) ⟨_, rfl, Is20, Fs20, x22, rfl, ⟨by first | exact hs20.2.2.1.1 | omega, by first | exact hs20.2.2.1.2 | omega⟩, trivial⟩
      ·
        refine z_const X rfl ?_
        exact w_iret X.1 q hRt rfl (ax_d X (show cdA 289 71 = some (.ireturn, 1, 0, 0, 0) from rfl)) (Nat.zero_le _) (Nat.zero_le _) ⟨_, rfl, Is12, Fs12, (-1), rfl, (by decide), trivial⟩
    ·
      refine z_const X rfl ?_
      exact w_iret X.1 q hRt rfl (ax_d X (show cdA 289 28 = some (.ireturn, 1, 0, 0, 0) from rfl)) (Nat.zero_le _) (Nat.zero_le _) ⟨_, rfl, Is8, Gs8, 0, rfl, (by decide), trivial⟩
  refine z_if_ne X (t := 19) rfl rfl hrs4 (fun g33 => ?_) (fun g33 => ?_)
  ·
    exact z_const X rfl (N6 _ (Or.inl ⟨g33, rfl⟩))
  ·
    exact z_const X rfl (z_goto X (t := 20) rfl rfl (N6 _ (Or.inr (⟨g33, rfl⟩))))
theorem k_count (G : GX l s0 D tys a0 dT) (I : Bd s) {x : Int} (p0 : rng x) : CT l s0 D A dT 295 (rmN 295) [.ref (A 179), .int (Int32.ofInt x)] s (fun o t => Bd t ∧ Fm [73] [] s t ∧ ∃ e, o = .inl (some (.int (Int32.ofInt e))) ∧ rng e ∧ (True)) := by
  refine ct_of G (by decide) (Nat.le_of_ble_eq_true rfl) (fun k X E hRt hXt q => ?_)
  show WS k 0 [(0, .ref (A 179)), (1, .int (Int32.ofInt x))] [] _ 0 0
  have F : Fm [73] [] s s := fm_rf _ _ s
  have b1 := bi_73 I
  have L15 : ∀ (n : Nat) (t : PS) (xv pv hv rv c : Int), Bd t → Fm [73] [] s t → (rng xv ∧ 0 ≤ pv ∧ pv ≤ c ∧ c ≤ 8 ∧ 0 ≤ hv ∧ hv ≤ 0 ∧ 0 ≤ rv ∧ rv ≤ 0) → (8 - c : Int).toNat < n → (∀ (t' : PS) (pv' c' : Int), Bd t' → Fm [73] [] s t' → (rng xv ∧ 0 ≤ pv' ∧ pv' ≤ c' ∧ c' ≤ 8 ∧ 0 ≤ hv ∧ hv ≤ 0 ∧ 0 ≤ rv ∧ rv ≤ 0) → WS k 45 [(0, .ref (A 179)), (1, .int (Int32.ofInt xv)), (2, .int (Int32.ofInt pv')), (3, .int (Int32.ofInt hv)), (4, .int (Int32.ofInt rv)), (5, .int (Int32.ofInt c'))] [] (Wd A dT t') 0 0) → WS k 15 [(0, .ref (A 179)), (1, .int (Int32.ofInt xv)), (2, .int (Int32.ofInt pv)), (3, .int (Int32.ofInt hv)), (4, .int (Int32.ofInt rv)), (5, .int (Int32.ofInt c))] [] (Wd A dT t) 0 0 := by
    intro n
    induction n with
    | zero =>
      intro t xv pv hv rv c I F hi hm kx
      exact absurd hm (Nat.not_lt_zero _)
    | succ n ih =>
      intro t xv pv hv rv c I F hi hm kx
      have b1001 := bi_73 I
      refine z_load X (x := c) rfl (List.Mem.tail _ (List.Mem.tail _ (List.Mem.tail _ (List.Mem.tail _ (List.Mem.tail _ (List.Mem.head _)))))) (z_bipush X rfl (z_icmp_ge X (t := 45) rfl rfl ⟨by first | exact oq_e001bc0d hi.2.2.1 hi.2.1 | omega, by first | exact oq_d3f5d874 hi.2.2.2.1 | omega⟩ (by decide) (fun g1002 => ?_) (fun g1002 => ?_)))
      ·
        refine WS_pq [0, 1, 2, 3, 4, 5] (lv' := [(0, .ref (A 179)), (1, .int (Int32.ofInt xv)), (2, .int (Int32.ofInt pv)), (3, .int (Int32.ofInt hv)), (4, .int (Int32.ofInt rv)), (5, .int (Int32.ofInt c))]) rfl ?_
        exact kx _ pv c I F (by first | exact ⟨And.intro (hi.1.1) (hi.1.2), hi.2.1, hi.2.2.1, hi.2.2.2.1, hi.2.2.2.2.1, hi.2.2.2.2.2.1, hi.2.2.2.2.2.2.1, hi.2.2.2.2.2.2.2⟩ | omega)
      ·
        refine z_load_n X (x := pv) rfl (List.Mem.tail _ (List.Mem.tail _ (List.Mem.head _))) (z_aload_n X (x := A 179) rfl (List.Mem.head _) (z_load X (x := c) rfl (List.Mem.tail _ (List.Mem.tail _ (List.Mem.tail _ (List.Mem.tail _ (List.Mem.tail _ (List.Mem.head _)))))) (zcV_i0 X E 179 (As := [.int (Int32.ofInt c)]) (st := [.int (Int32.ofInt pv)]) rfl rfl rfl rfl (k_hasCells G I (by first | exact ⟨oq_e001bc0d hi.2.2.1 hi.2.1, oq_7bea7075 g1002⟩ | omega)) rfl (Nat.le_of_ble_eq_true rfl) (fun s1003 e1004 Is1003 Fs1003 hrs1003 hps1003 => ?_))))
        have Gs1003 := fm_tq F Fs1003 rfl rfl
        have ws1003_73 : iI s1003 73 = iI t 73 := fm_iq Fs1003 rfl
        have N1005 : ∀ e1006 : Int, (((e1004 = 0) ∧ e1006 = 0) ∨ ((e1004 ≠ 0) ∧ e1006 = 1)) → WS k 37 [(0, .ref (A 179)), (1, .int (Int32.ofInt xv)), (2, .int (Int32.ofInt pv)), (3, .int (Int32.ofInt hv)), (4, .int (Int32.ofInt rv)), (5, .int (Int32.ofInt c))] [.int (Int32.ofInt e1006), .int (Int32.ofInt pv)] (Wd A dT s1003) 0 0 := by
          intro e1006 he1006
          have re1006 : 0 ≤ e1006 ∧ e1006 ≤ 1 := by first | (clear he1006 hps1003; omega) | (clear hps1003; omega) | omega
          refine z_add X rfl (z_store_n X (lv' := [(2, .int (Int32.ofInt (pv + e1006))), (0, .ref (A 179)), (1, .int (Int32.ofInt xv)), (3, .int (Int32.ofInt hv)), (4, .int (Int32.ofInt rv)), (5, .int (Int32.ofInt c))]) rfl (by decide) (fun _ h => h) (z_inc X (x := c) (lv' := [(5, .int (Int32.ofInt (c + 1))), (2, .int (Int32.ofInt (pv + e1006))), (0, .ref (A 179)), (1, .int (Int32.ofInt xv)), (3, .int (Int32.ofInt hv)), (4, .int (Int32.ofInt rv))]) rfl (by decide) (List.Mem.tail _ (List.Mem.tail _ (List.Mem.tail _ (List.Mem.tail _ (List.Mem.tail _ (List.Mem.head _)))))) (fun _ h => h) (z_goto X (t := 15) rfl rfl (WS_pq [2, 3, 1, 4, 5, 0] (lv' := [(0, .ref (A 179)), (1, .int (Int32.ofInt xv)), (2, .int (Int32.ofInt (pv + e1006))), (3, .int (Int32.ofInt hv)), (4, .int (Int32.ofInt rv)), (5, .int (Int32.ofInt (c + 1)))]) rfl ?_))))
          exact ih _ xv (pv + e1006) hv rv (c + 1) Is1003 Gs1003 (by first | exact ⟨And.intro (hi.1.1) (hi.1.2), oq_dd29f52d hi.2.1 re1006.1, oq_273e42a6 hi.2.2.1 re1006.2, oq_0c7b19c3 g1002, hi.2.2.2.2.1, hi.2.2.2.2.2.1, hi.2.2.2.2.2.2.1, hi.2.2.2.2.2.2.2⟩ | omega) (by first | exact qk_me hm (by decide) (oq_9f368f35 g1002) | omega) kx
        refine z_if_eq X (t := 36) rfl rfl hrs1003 (fun g1007 => ?_) (fun g1007 => ?_)
        ·
          exact z_const X rfl (N1005 _ (Or.inl ⟨g1007, rfl⟩))
        ·
          exact z_const X rfl (z_goto X (t := 37) rfl rfl (N1005 _ (Or.inr (⟨g1007, rfl⟩))))
  have L48 : ∀ (n : Nat) (t : PS) (xv pv hv rv c : Int), Bd t → Fm [73] [] s t → (rng xv ∧ 0 ≤ pv ∧ pv ≤ 8 ∧ 0 ≤ hv ∧ hv ≤ c ∧ 0 ≤ rv ∧ rv ≤ c ∧ c ≤ 128) → (128 - c : Int).toNat < n → (∀ (t' : PS) (hv' rv' c' : Int), Bd t' → Fm [73] [] s t' → (rng xv ∧ 0 ≤ pv ∧ pv ≤ 8 ∧ 0 ≤ hv' ∧ hv' ≤ c' ∧ 0 ≤ rv' ∧ rv' ≤ c' ∧ c' ≤ 128) → WS k 101 [(0, .ref (A 179)), (1, .int (Int32.ofInt xv)), (2, .int (Int32.ofInt pv)), (3, .int (Int32.ofInt hv')), (4, .int (Int32.ofInt rv')), (5, .int (Int32.ofInt c'))] [] (Wd A dT t') 0 0) → WS k 48 [(0, .ref (A 179)), (1, .int (Int32.ofInt xv)), (2, .int (Int32.ofInt pv)), (3, .int (Int32.ofInt hv)), (4, .int (Int32.ofInt rv)), (5, .int (Int32.ofInt c))] [] (Wd A dT t) 0 0 := by
    intro n
    induction n with
    | zero =>
      intro t xv pv hv rv c I F hi hm kx
      exact absurd hm (Nat.not_lt_zero _)
    | succ n ih =>
      intro t xv pv hv rv c I F hi hm kx
      have b2001 := bi_73 I
      refine z_load X (x := c) rfl (List.Mem.tail _ (List.Mem.tail _ (List.Mem.tail _ (List.Mem.tail _ (List.Mem.tail _ (List.Mem.head _)))))) (z_sipush X rfl (z_icmp_ge X (t := 101) rfl rfl ⟨by first | exact oq_e001bc0d hi.2.2.2.2.2.2.1 hi.2.2.2.2.2.1 | omega, by first | exact oq_4ee82282 hi.2.2.2.2.2.2.2 | omega⟩ (by decide) (fun g2002 => ?_) (fun g2002 => ?_)))
      ·
        refine WS_pq [0, 1, 2, 3, 4, 5] (lv' := [(0, .ref (A 179)), (1, .int (Int32.ofInt xv)), (2, .int (Int32.ofInt pv)), (3, .int (Int32.ofInt hv)), (4, .int (Int32.ofInt rv)), (5, .int (Int32.ofInt c))]) rfl ?_
        exact kx _ hv rv c I F (by first | exact ⟨And.intro (hi.1.1) (hi.1.2), hi.2.1, hi.2.2.1, hi.2.2.2.1, hi.2.2.2.2.1, hi.2.2.2.2.2.1, hi.2.2.2.2.2.2.1, hi.2.2.2.2.2.2.2⟩ | omega)
      ·
        refine z_load_n X (x := hv) rfl (List.Mem.tail _ (List.Mem.tail _ (List.Mem.tail _ (List.Mem.head _)))) (z_aload_n X (x := A 179) rfl (List.Mem.head _) (s_getR X 179 rfl (c518_ok rfl) rfl rfl (z_load X (x := c) rfl (List.Mem.tail _ (List.Mem.tail _ (List.Mem.tail _ (List.Mem.tail _ (List.Mem.tail _ (List.Mem.head _)))))) (z_ald X 256 rfl (c518_ok rfl) rfl (by first | exact oq_12a1f9e1 hi.2.2.2.2.2.2.1 hi.2.2.2.2.2.1 | omega) (show c < 128 by first | exact g2002 | omega) (cbig_ok rfl) ?_))))
        have b2003 := bc_228 I (show (c).toNat < 128 by first | exact oq_afb89947 g2002 | omega)
        refine z_const X rfl ?_
        have N2004 : ∀ e2005 : Int, ((((iC t 228 (c).toNat) ≠ (-1)) ∧ e2005 = 0) ∨ (((iC t 228 (c).toNat) = (-1)) ∧ e2005 = 1)) → WS k 73 [(0, .ref (A 179)), (1, .int (Int32.ofInt xv)), (2, .int (Int32.ofInt pv)), (3, .int (Int32.ofInt hv)), (4, .int (Int32.ofInt rv)), (5, .int (Int32.ofInt c))] [.int (Int32.ofInt e2005), .int (Int32.ofInt hv)] (Wd A dT t) 0 0 := by
          intro e2005 he2005
          have re2005 : 0 ≤ e2005 ∧ e2005 ≤ 1 := by first | (clear he2005; omega) | omega
          refine z_add X rfl (z_store_n X (lv' := [(3, .int (Int32.ofInt (hv + e2005))), (0, .ref (A 179)), (1, .int (Int32.ofInt xv)), (2, .int (Int32.ofInt pv)), (4, .int (Int32.ofInt rv)), (5, .int (Int32.ofInt c))]) rfl (by decide) (fun _ h => h) (z_load X (x := rv) rfl (List.Mem.tail _ (List.Mem.tail _ (List.Mem.tail _ (List.Mem.tail _ (List.Mem.head _))))) (z_aload_n X (x := A 179) rfl (List.Mem.tail _ (List.Mem.head _)) (s_getR X 179 rfl (c518_ok rfl) rfl rfl (z_load X (x := c) rfl (List.Mem.tail _ (List.Mem.tail _ (List.Mem.tail _ (List.Mem.tail _ (List.Mem.tail _ (List.Mem.head _)))))) (z_zald X 454 rfl (c518_ok rfl) rfl (by first | exact oq_12a1f9e1 hi.2.2.2.2.2.2.1 hi.2.2.2.2.2.1 | omega) (show c < 128 by first | exact g2002 | omega) (cbig_ok rfl) ?_))))))
          have b2006 := bc_399 I (show (c).toNat < 128 by first | exact oq_afb89947 g2002 | omega)
          have N2007 : ∀ e2008 : Int, ((((iC t 399 (c).toNat) = 0) ∧ e2008 = 0) ∨ (((iC t 399 (c).toNat) ≠ 0) ∧ e2008 = 1)) → WS k 92 [(3, .int (Int32.ofInt (hv + e2005))), (0, .ref (A 179)), (1, .int (Int32.ofInt xv)), (2, .int (Int32.ofInt pv)), (4, .int (Int32.ofInt rv)), (5, .int (Int32.ofInt c))] [.int (Int32.ofInt e2008), .int (Int32.ofInt rv)] (Wd A dT t) 0 0 := by
            intro e2008 he2008
            have re2008 : 0 ≤ e2008 ∧ e2008 ≤ 1 := by first | (clear he2008 he2005; omega) | (clear he2005; omega) | omega
            refine z_add X rfl (z_store X (lv' := [(4, .int (Int32.ofInt (rv + e2008))), (3, .int (Int32.ofInt (hv + e2005))), (0, .ref (A 179)), (1, .int (Int32.ofInt xv)), (2, .int (Int32.ofInt pv)), (5, .int (Int32.ofInt c))]) rfl (by decide) (fun _ h => h) (z_inc X (x := c) (lv' := [(5, .int (Int32.ofInt (c + 1))), (4, .int (Int32.ofInt (rv + e2008))), (3, .int (Int32.ofInt (hv + e2005))), (0, .ref (A 179)), (1, .int (Int32.ofInt xv)), (2, .int (Int32.ofInt pv))]) rfl (by decide) (List.Mem.tail _ (List.Mem.tail _ (List.Mem.tail _ (List.Mem.tail _ (List.Mem.tail _ (List.Mem.head _)))))) (fun _ h => h) (z_goto X (t := 48) rfl rfl (WS_pq [3, 4, 5, 2, 1, 0] (lv' := [(0, .ref (A 179)), (1, .int (Int32.ofInt xv)), (2, .int (Int32.ofInt pv)), (3, .int (Int32.ofInt (hv + e2005))), (4, .int (Int32.ofInt (rv + e2008))), (5, .int (Int32.ofInt (c + 1)))]) rfl ?_))))
            exact ih _ xv pv (hv + e2005) (rv + e2008) (c + 1) I F (by first | exact ⟨And.intro (hi.1.1) (hi.1.2), hi.2.1, hi.2.2.1, oq_dd29f52d hi.2.2.2.1 re2005.1, oq_273e42a6 hi.2.2.2.2.1 re2005.2, oq_dd29f52d hi.2.2.2.2.2.1 re2008.1, oq_273e42a6 hi.2.2.2.2.2.2.1 re2008.2, oq_d2afb425 g2002⟩ | omega) (by first | exact qk_me hm (by decide) (oq_c268b7bd g2002) | omega) kx
          refine z_if_eq X (t := 91) rfl rfl (rng_to _) (fun g2009 => ?_) (fun g2009 => ?_)
          ·
            exact z_const X rfl (N2007 _ (Or.inl ⟨g2009, rfl⟩))
          ·
            exact z_const X rfl (z_goto X (t := 92) rfl rfl (N2007 _ (Or.inr (⟨g2009, rfl⟩))))
        refine z_icmp_ne X (t := 72) rfl rfl (rng_to _) (by decide) (fun g2010 => ?_) (fun g2010 => ?_)
        ·
          exact z_const X rfl (N2004 _ (Or.inl ⟨g2010, rfl⟩))
        ·
          exact z_const X rfl (z_goto X (t := 73) rfl rfl (N2004 _ (Or.inr (⟨g2010, rfl⟩))))
  refine z_aload_n X (x := A 179) rfl (List.Mem.head _) (z_const X rfl (s_putI X 179 rfl (c518_ok rfl) rfl rfl (by decide) rfl rfl rfl (wd_gen (fun s2 hs2 => ?_))))
  have Is2 : Bd s2 := eqB hs2 (bd_I I (show (0 : Int) ≤ 0 ∧ 0 ≤ 3 by first | exact ⟨by decide, by decide⟩ | omega) (by decide))
  have Fs2 := eqF hs2 (fm_I F (inl_ok (a := 73) rfl))
  have vs2 : iI s2 73 = 0 := eqI hs2 (iI_u (by decide))
  refine z_const X rfl (z_store_n X (lv' := [(2, .int (Int32.ofInt 0)), (0, .ref (A 179)), (1, .int (Int32.ofInt x))]) rfl (by decide) (fun _ h => h) (z_const X rfl (z_store_n X (lv' := [(3, .int (Int32.ofInt 0)), (2, .int (Int32.ofInt 0)), (0, .ref (A 179)), (1, .int (Int32.ofInt x))]) rfl (by decide) (fun _ h => h) (z_const X rfl (z_store X (lv' := [(4, .int (Int32.ofInt 0)), (3, .int (Int32.ofInt 0)), (2, .int (Int32.ofInt 0)), (0, .ref (A 179)), (1, .int (Int32.ofInt x))]) rfl (by decide) (fun _ h => h) (z_const X rfl (z_store X (lv' := [(5, .int (Int32.ofInt 0)), (4, .int (Int32.ofInt 0)), (3, .int (Int32.ofInt 0)), (2, .int (Int32.ofInt 0)), (0, .ref (A 179)), (1, .int (Int32.ofInt x))]) rfl (by decide) (fun _ h => h) (WS_pq [4, 5, 3, 2, 1, 0] (lv' := [(0, .ref (A 179)), (1, .int (Int32.ofInt x)), (2, .int (Int32.ofInt 0)), (3, .int (Int32.ofInt 0)), (4, .int (Int32.ofInt 0)), (5, .int (Int32.ofInt 0))]) rfl (L15 ((8 - 0 : Int).toNat + 1) s2 x 0 0 0 0 Is2 Fs2 (by first | exact ⟨And.intro (p0.1) (p0.2), by decide, by decide, by decide, by decide, by decide, by decide, by decide⟩ | omega) (Nat.lt_succ_self _) ?_)))))))))
  intro s3 x4 x5 Is3 Fs3 hs3
  have b6 := bi_73 Is3
  refine z_const X rfl (z_store X (lv' := [(5, .int (Int32.ofInt 0)), (0, .ref (A 179)), (1, .int (Int32.ofInt x)), (2, .int (Int32.ofInt x4)), (3, .int (Int32.ofInt 0)), (4, .int (Int32.ofInt 0))]) rfl (by decide) (fun _ h => h) (WS_pq [1, 2, 3, 4, 5, 0] (lv' := [(0, .ref (A 179)), (1, .int (Int32.ofInt x)), (2, .int (Int32.ofInt x4)), (3, .int (Int32.ofInt 0)), (4, .int (Int32.ofInt 0)), (5, .int (Int32.ofInt 0))]) rfl (L48 ((128 - 0 : Int).toNat + 1) s3 x x4 0 0 0 Is3 Fs3 (by first | exact ⟨And.intro (hs3.1.1) (hs3.1.2), hs3.2.1, oq_fe8b3247 hs3.2.2.1 hs3.2.2.2.1, by decide, by decide, by decide, by decide, by decide⟩ | omega) (Nat.lt_succ_self _) ?_)))
  intro s7 x8 x9 x10 Is7 Fs7 hs7
  have b11 := bi_73 Is7
  refine z_load_n X (x := x) rfl (List.Mem.tail _ (List.Mem.head _)) ?_
  rcases (show x = 0 ∨ x = 1 ∨ x = 2 ∨ x = 3 ∨ x = 4 ∨ x = 5 ∨ x = 6 ∨ x = 7 ∨ x = 8 ∨ x = 9 ∨ (x < 0 ∨ 9 < x) by omega) with gs | gs | gs | gs | gs | gs | gs | gs | gs | gs | gs
  ·
    rw [gs]
    refine w_tabIn X.1 (dflt := 96) (lo := 0) (hi := 9) (offs := #[54, 59, 64, 66, 68, 73, 78, 83, 86, 91]) (len := 54) (off := 54) (t := 156) (ax_d X (show cdA 295 102 = some (.tableswitch 96 0 9 #[54, 59, 64, 66, 68, 73, 78, 83, 86, 91], 54, 0, 0, 0) from rfl)) (by decide) (by decide) (by decide) (by decide) (z_aload_n X (x := A 179) rfl (List.Mem.head _) (z_getI X 179 rfl (c518_ok rfl) rfl rfl ?_))
    have b12 := bi_90 Is7
    exact w_iret X.1 q hRt rfl (ax_d X (show cdA 295 160 = some (.ireturn, 1, 0, 0, 0) from rfl)) (Nat.zero_le _) (Nat.zero_le _) ⟨_, rfl, Is7, Fs7, (iI s7 90), rfl, (rng_to _), trivial⟩
  ·
    rw [gs]
    refine w_tabIn X.1 (dflt := 96) (lo := 0) (hi := 9) (offs := #[54, 59, 64, 66, 68, 73, 78, 83, 86, 91]) (len := 54) (off := 59) (t := 161) (ax_d X (show cdA 295 102 = some (.tableswitch 96 0 9 #[54, 59, 64, 66, 68, 73, 78, 83, 86, 91], 54, 0, 0, 0) from rfl)) (by decide) (by decide) (by decide) (by decide) (z_aload_n X (x := A 179) rfl (List.Mem.head _) (z_getI X 179 rfl (c518_ok rfl) rfl rfl ?_))
    have b13 := bi_83 Is7
    exact w_iret X.1 q hRt rfl (ax_d X (show cdA 295 165 = some (.ireturn, 1, 0, 0, 0) from rfl)) (Nat.zero_le _) (Nat.zero_le _) ⟨_, rfl, Is7, Fs7, (iI s7 83), rfl, (rng_to _), trivial⟩
  ·
    rw [gs]
    refine w_tabIn X.1 (dflt := 96) (lo := 0) (hi := 9) (offs := #[54, 59, 64, 66, 68, 73, 78, 83, 86, 91]) (len := 54) (off := 64) (t := 166) (ax_d X (show cdA 295 102 = some (.tableswitch 96 0 9 #[54, 59, 64, 66, 68, 73, 78, 83, 86, 91], 54, 0, 0, 0) from rfl)) (by decide) (by decide) (by decide) (by decide) (z_load_n X (x := x4) rfl (List.Mem.tail _ (List.Mem.tail _ (List.Mem.head _))) ?_)
    exact w_iret X.1 q hRt rfl (ax_d X (show cdA 295 167 = some (.ireturn, 1, 0, 0, 0) from rfl)) (Nat.zero_le _) (Nat.zero_le _) ⟨_, rfl, Is7, Fs7, x4, rfl, ⟨by first | exact oq_fa4e5087 hs7.2.1 | omega, by first | exact oq_d3f5d874 hs7.2.2.1 | omega⟩, trivial⟩
  ·
    rw [gs]
    refine w_tabIn X.1 (dflt := 96) (lo := 0) (hi := 9) (offs := #[54, 59, 64, 66, 68, 73, 78, 83, 86, 91]) (len := 54) (off := 66) (t := 168) (ax_d X (show cdA 295 102 = some (.tableswitch 96 0 9 #[54, 59, 64, 66, 68, 73, 78, 83, 86, 91], 54, 0, 0, 0) from rfl)) (by decide) (by decide) (by decide) (by decide) (z_load_n X (x := x8) rfl (List.Mem.tail _ (List.Mem.tail _ (List.Mem.tail _ (List.Mem.head _)))) ?_)
    exact w_iret X.1 q hRt rfl (ax_d X (show cdA 295 169 = some (.ireturn, 1, 0, 0, 0) from rfl)) (Nat.zero_le _) (Nat.zero_le _) ⟨_, rfl, Is7, Fs7, x8, rfl, ⟨by first | exact oq_fa4e5087 hs7.2.2.2.1 | omega, by first | exact oq_9eb6cd9c hs7.2.2.2.2.1 hs7.2.2.2.2.2.2.2 | omega⟩, trivial⟩
  ·
    rw [gs]
    refine w_tabIn X.1 (dflt := 96) (lo := 0) (hi := 9) (offs := #[54, 59, 64, 66, 68, 73, 78, 83, 86, 91]) (len := 54) (off := 68) (t := 170) (ax_d X (show cdA 295 102 = some (.tableswitch 96 0 9 #[54, 59, 64, 66, 68, 73, 78, 83, 86, 91], 54, 0, 0, 0) from rfl)) (by decide) (by decide) (by decide) (by decide) (z_aload_n X (x := A 179) rfl (List.Mem.head _) (z_getI X 179 rfl (c518_ok rfl) rfl rfl ?_))
    have b14 := bi_97 Is7
    exact w_iret X.1 q hRt rfl (ax_d X (show cdA 295 174 = some (.ireturn, 1, 0, 0, 0) from rfl)) (Nat.zero_le _) (Nat.zero_le _) ⟨_, rfl, Is7, Fs7, (iI s7 97), rfl, (rng_to _), trivial⟩
  ·
    rw [gs]
    refine w_tabIn X.1 (dflt := 96) (lo := 0) (hi := 9) (offs := #[54, 59, 64, 66, 68, 73, 78, 83, 86, 91]) (len := 54) (off := 73) (t := 175) (ax_d X (show cdA 295 102 = some (.tableswitch 96 0 9 #[54, 59, 64, 66, 68, 73, 78, 83, 86, 91], 54, 0, 0, 0) from rfl)) (by decide) (by decide) (by decide) (by decide) (z_aload_n X (x := A 179) rfl (List.Mem.head _) (z_getI X 179 rfl (c518_ok rfl) rfl rfl ?_))
    have b15 := bi_99 Is7
    exact w_iret X.1 q hRt rfl (ax_d X (show cdA 295 179 = some (.ireturn, 1, 0, 0, 0) from rfl)) (Nat.zero_le _) (Nat.zero_le _) ⟨_, rfl, Is7, Fs7, (iI s7 99), rfl, (rng_to _), trivial⟩
  ·
    rw [gs]
    refine w_tabIn X.1 (dflt := 96) (lo := 0) (hi := 9) (offs := #[54, 59, 64, 66, 68, 73, 78, 83, 86, 91]) (len := 54) (off := 78) (t := 180) (ax_d X (show cdA 295 102 = some (.tableswitch 96 0 9 #[54, 59, 64, 66, 68, 73, 78, 83, 86, 91], 54, 0, 0, 0) from rfl)) (by decide) (by decide) (by decide) (by decide) (z_aload_n X (x := A 179) rfl (List.Mem.head _) (z_getI X 179 rfl (c518_ok rfl) rfl rfl ?_))
    have b16 := bi_107 Is7
    exact w_iret X.1 q hRt rfl (ax_d X (show cdA 295 184 = some (.ireturn, 1, 0, 0, 0) from rfl)) (Nat.zero_le _) (Nat.zero_le _) ⟨_, rfl, Is7, Fs7, (iI s7 107), rfl, (rng_to _), trivial⟩
  ·
    rw [gs]
    refine w_tabIn X.1 (dflt := 96) (lo := 0) (hi := 9) (offs := #[54, 59, 64, 66, 68, 73, 78, 83, 86, 91]) (len := 54) (off := 83) (t := 185) (ax_d X (show cdA 295 102 = some (.tableswitch 96 0 9 #[54, 59, 64, 66, 68, 73, 78, 83, 86, 91], 54, 0, 0, 0) from rfl)) (by decide) (by decide) (by decide) (by decide) (z_load X (x := x9) rfl (List.Mem.tail _ (List.Mem.tail _ (List.Mem.tail _ (List.Mem.tail _ (List.Mem.head _))))) ?_)
    exact w_iret X.1 q hRt rfl (ax_d X (show cdA 295 187 = some (.ireturn, 1, 0, 0, 0) from rfl)) (Nat.zero_le _) (Nat.zero_le _) ⟨_, rfl, Is7, Fs7, x9, rfl, ⟨by first | exact oq_fa4e5087 hs7.2.2.2.2.2.1 | omega, by first | exact oq_9eb6cd9c hs7.2.2.2.2.2.2.1 hs7.2.2.2.2.2.2.2 | omega⟩, trivial⟩
  ·
    rw [gs]
    refine w_tabIn X.1 (dflt := 96) (lo := 0) (hi := 9) (offs := #[54, 59, 64, 66, 68, 73, 78, 83, 86, 91]) (len := 54) (off := 86) (t := 188) (ax_d X (show cdA 295 102 = some (.tableswitch 96 0 9 #[54, 59, 64, 66, 68, 73, 78, 83, 86, 91], 54, 0, 0, 0) from rfl)) (by decide) (by decide) (by decide) (by decide) (z_aload_n X (x := A 179) rfl (List.Mem.head _) (z_getI X 179 rfl (c518_ok rfl) rfl rfl ?_))
    have b17 := bi_98 Is7
    exact w_iret X.1 q hRt rfl (ax_d X (show cdA 295 192 = some (.ireturn, 1, 0, 0, 0) from rfl)) (Nat.zero_le _) (Nat.zero_le _) ⟨_, rfl, Is7, Fs7, (iI s7 98), rfl, (rng_to _), trivial⟩
  ·
    rw [gs]
    refine w_tabIn X.1 (dflt := 96) (lo := 0) (hi := 9) (offs := #[54, 59, 64, 66, 68, 73, 78, 83, 86, 91]) (len := 54) (off := 91) (t := 193) (ax_d X (show cdA 295 102 = some (.tableswitch 96 0 9 #[54, 59, 64, 66, 68, 73, 78, 83, 86, 91], 54, 0, 0, 0) from rfl)) (by decide) (by decide) (by decide) (by decide) (z_aload_n X (x := A 179) rfl (List.Mem.head _) (z_getI X 179 rfl (c518_ok rfl) rfl rfl ?_))
    have b18 := bi_74 Is7
    exact w_iret X.1 q hRt rfl (ax_d X (show cdA 295 197 = some (.ireturn, 1, 0, 0, 0) from rfl)) (Nat.zero_le _) (Nat.zero_le _) ⟨_, rfl, Is7, Fs7, (iI s7 74), rfl, (rng_to _), trivial⟩
  ·
    refine w_tabOut X.1 (dflt := 96) (lo := 0) (hi := 9) (offs := #[54, 59, 64, 66, 68, 73, 78, 83, 86, 91]) (len := 54) (t := 198) (ax_d X (show cdA 295 102 = some (.tableswitch 96 0 9 #[54, 59, 64, 66, 68, 73, 78, 83, 86, 91], 54, 0, 0, 0) from rfl)) (by rw [zi ⟨by omega, by omega⟩]; omega) (by decide) (z_const X rfl ?_)
    exact w_iret X.1 q hRt rfl (ax_d X (show cdA 295 199 = some (.ireturn, 1, 0, 0, 0) from rfl)) (Nat.zero_le _) (Nat.zero_le _) ⟨_, rfl, Is7, Fs7, (-1), rfl, (by decide), trivial⟩
end M38
