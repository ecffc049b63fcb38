theorem oq_58735585 {a0 a1 : Int} (h0 : a0 ≤ ((64 * (a1 / 64)) + 64)) (h1 : a1 ≤ 127) : a0 ≤ 2147483647 := by omega
theorem oq_b5059247 {a0 a1 a2 : Int} (h0 : a0 ≤ ((64 * (a1 / 64)) + 64)) (h1 : a2 ≤ a0) (h2 : 0 ≤ a2) : (-2147483648) ≤ ((64 * (a1 / 64)) + 64) := by omega
theorem oq_9cbdfb3c {a0 : Int} (h0 : a0 ≤ 127) : ((64 * (a0 / 64)) + 64) ≤ 2147483647 := by omega
theorem oq_722d72a6 {a0 a1 : Int} (h0 : a0 < ((64 * (a1 / 64)) + 64)) (h1 : a1 ≤ 127) : a0 ≤ 2147483647 := by omega
theorem oq_03182e9e {a0 a1 : Int} (h0 : a0 ≤ a1) : a0 ≤ (a1 + 1) := by omega
theorem oq_0501f4f7 {a0 a1 : Int} (h0 : (64 * (a0 / 64)) ≤ a1) : (64 * (a0 / 64)) ≤ (a1 + 1) := by omega
theorem oq_1d10317a {a0 a1 : Int} (h0 : a0 < ((64 * (a1 / 64)) + 64)) : (a0 + 1) ≤ ((64 * (a1 / 64)) + 64) := by omega
theorem oq_c0915417 {a0 a1 : Int} (h0 : a0 < ((64 * (a1 / 64)) + 64)) : 0 < (((64 * (a1 / 64)) + 64) - a0) := by omega
theorem oq_36b78649 {a0 a1 : Int} (h0 : a0 ≤ a1) (h1 : 0 ≤ a0) : 0 ≤ (a1 / 8) := by omega
theorem oq_fb4875cb {a0 a1 : Int} (h0 : a0 ≤ a1) (h1 : 0 ≤ a0) : (-2147483648) ≤ (a1 / 8) := by omega
theorem oq_c356bf53 {a0 a1 : Int} (h0 : a0 < ((64 * (a1 / 64)) + 64)) (h1 : a1 ≤ 127) : (a0 / 8) ≤ 2147483647 := by omega
theorem oq_9604615f {a0 a1 : Int} (h0 : a0 = 0) (h1 : (1 = 1 → a0 = 1)) : (0 ≤ a1 ∧ a1 ≤ 127) := by omega
theorem oq_dc25914b {a0 a1 : Int} (h0 : a0 = 0) (h1 : (1 = 1 → a0 = 1)) : ((-1) ≤ a1 ∧ a1 ≤ 7) := by omega
theorem oq_96ccba6c {a0 a1 : Int} (h0 : a0 = 0) (h1 : (1 = 1 → a0 = 1)) : 0 ≤ (64 * (a1 / 64)) := by omega
theorem oq_850460f6 {a0 a1 a2 : Int} (h0 : a0 ≤ ((64 * (a1 / 64)) + 64)) (h1 : a2 ≤ a0) (h2 : a1 ≤ 127) : a2 ≤ 2147483647 := by omega
theorem oq_f457fe4f {a0 : Int} (h0 : (-2147483648) ≤ a0) : (-2147483648) ≤ (a0 / 64) := by omega
theorem oq_e42dd4bd {a0 : Int} (h0 : a0 ≤ 2147483647) : (a0 / 64) ≤ 2147483647 := by omega
theorem oq_8d05831f {a0 a1 : Int} (h0 : a0 ≠ 0) (h1 : ((a0 = 1 ∧ ((-1) ≤ a1 ∧ a1 ≤ 7)) ∨ (a0 = 0 ∧ (a1 < (-1) ∨ 7 < a1)))) : ((-1) ≤ a1 ∧ a1 ≤ 7) := by omega
theorem oq_385d4e05 {a0 a1 : Int} (h0 : a0 = 0) (h1 : (1 = 1 → a0 = 1)) : 0 ≤ (a1 / 8) := by omega
theorem oq_186a3934 {a0 : Int} (h0 : (-2147483648) ≤ a0) : (-2147483648) ≤ (a0 / 8) := by omega
theorem oq_2590a617 {a0 : Int} (h0 : a0 ≤ 2147483647) : (a0 / 8) ≤ 2147483647 := by omega
theorem oq_6a416fd5 {a0 a1 a2 : Int} (h0 : a0 ≤ 1) (h1 : 0 ≤ a0) (h2 : ((((a1 / 8) % 8) ≤ ((a2 / 8) % 8) ∧ a0 = 0) ∨ (((a2 / 8) % 8) < ((a1 / 8) % 8) ∧ a0 = 1))) : (a0 = 0 ∨ a0 = 1) := by omega
theorem oq_77708b6d {a0 a1 : Int} (h0 : a0 ≠ 0) (h1 : ((a0 = 1 ∧ (0 ≤ a1 ∧ a1 ≤ 127)) ∨ (a0 = 0 ∧ (a1 < 0 ∨ 127 < a1)))) : 0 ≤ a1 := by omega
theorem oq_e339be55 {a0 a1 : Int} (h0 : a0 ≠ 0) (h1 : ((a0 = 1 ∧ (0 ≤ a1 ∧ a1 ≤ 127)) ∨ (a0 = 0 ∧ (a1 < 0 ∨ 127 < a1)))) : (0 ≤ a1 ∧ a1 ≤ 127) := by omega
theorem oq_88610498 {a0 a1 : Int} (h0 : a0 ≠ 0) (h1 : ((a0 = 1 ∧ (0 ≤ a1 ∧ a1 ≤ 127)) ∨ (a0 = 0 ∧ (a1 < 0 ∨ 127 < a1)))) : 0 ≤ (a1 / 8) := by omega
theorem oq_589b9ea4 {a0 a1 a2 a3 : Int} (h0 : a0 = 0) (h1 : (a1 = 1 → a0 = 1)) (h2 : a1 ≤ 1) (h3 : ((a2 ≠ 0 ∧ a1 = 0) ∨ (a2 = 0 ∧ a1 = 1))) (h4 : ((a2 = 1 ∧ (0 ≤ a3 ∧ a3 ≤ 127)) ∨ (a2 = 0 ∧ (a3 < 0 ∨ 127 < a3)))) : 0 ≤ (a3 / 8) := by omega
/-! The model: paint -/
section M39
variable {l : Launch} {s0 : State} {D : va_G} {tys : List (ClassId × FieldType)} {a0 : Array Value} {A : Nat → Nat} {dT : Nat → ClassId} {s : PS}
theorem k_paint (G : GX l s0 D tys a0 dT) (I : Bd s) {x y z : Int} (p0 : rng x) (p1 : rng y) (p2 : rng z) : CT l s0 D A dT 235 (rmN 235) [.ref (A 179), .int (Int32.ofInt x), .int (Int32.ofInt y), .int (Int32.ofInt z)] s (fun o t => Bd t ∧ Fm [73] [228] s t ∧ ∃ e, o = .inl (some (.int (Int32.ofInt e))) ∧ rng e ∧ (True)) := by
  refine ct_of G (by decide) (Nat.le_of_ble_eq_true rfl) (fun k X E hRt hXt q => ?_)
  show WS k 0 [(0, .ref (A 179)), (1, .int (Int32.ofInt x)), (2, .int (Int32.ofInt y)), (3, .int (Int32.ofInt z))] [] _ 0 0
  have F : Fm [73] [228] s s := fm_rf _ _ s
  have b1 := bi_73 I
  have L114 : ∀ (n : Nat) (t : PS) (xv yv zv nv c : Int), Bd t → Fm [73] [228] s t → ((0 ≤ xv ∧ xv ≤ 127) ∧ (0 ≤ yv ∧ yv ≤ 127) ∧ (-1 ≤ zv ∧ zv ≤ 7) ∧ 0 ≤ nv ∧ nv ≤ c ∧ 64 * (xv / 64) ≤ c ∧ c ≤ 64 * (xv / 64) + 64) → (64 * (xv / 64) + 64 - c : Int).toNat < n → (∀ (t' : PS) (nv' c' : Int), Bd t' → Fm [73] [228] s t' → ((0 ≤ xv ∧ xv ≤ 127) ∧ (0 ≤ yv ∧ yv ≤ 127) ∧ (-1 ≤ zv ∧ zv ≤ 7) ∧ 0 ≤ nv' ∧ nv' ≤ c' ∧ 64 * (xv / 64) ≤ c' ∧ c' ≤ 64 * (xv / 64) + 64) → WS k 214 [(0, .ref (A 179)), (1, .int (Int32.ofInt xv)), (2, .int (Int32.ofInt yv)), (3, .int (Int32.ofInt zv)), (4, .int (Int32.ofInt nv')), (5, .int (Int32.ofInt c'))] [] (Wd A dT t') 0 0) → WS k 114 [(0, .ref (A 179)), (1, .int (Int32.ofInt xv)), (2, .int (Int32.ofInt yv)), (3, .int (Int32.ofInt zv)), (4, .int (Int32.ofInt nv)), (5, .int (Int32.ofInt c))] [] (Wd A dT t) 0 0 := by
    intro n
    induction n with
    | zero =>
      intro t xv yv zv nv c I F hi hm kx
      exact absurd hm (Nat.not_lt_zero _)
    | succ n ih =>
      intro t xv yv zv nv c I F hi hm kx
      have b1001 := bi_73 I
      refine z_load X (x := c) rfl (List.Mem.tail _ (List.Mem.tail _ (List.Mem.tail _ (List.Mem.tail _ (List.Mem.tail _ (List.Mem.head _)))))) (z_bipush X rfl (z_load_n X (x := xv) rfl (List.Mem.tail _ (List.Mem.head _)) (z_bipush X rfl (z_quot X rfl (by first | exact hi.1.1 | omega) ⟨by first | exact oq_fa4e5087 hi.1.1 | omega, by first | exact oq_07d346ce hi.1.2 | omega⟩ (by decide) (by decide) (z_mul X rfl (z_bipush X rfl (z_add X rfl (z_icmp_ge X (t := 214) rfl rfl ⟨by first | exact oq_e001bc0d hi.2.2.2.2.1 hi.2.2.2.1 | omega, by first | exact oq_58735585 hi.2.2.2.2.2.2 hi.1.2 | omega⟩ ⟨by first | exact oq_b5059247 hi.2.2.2.2.2.2 hi.2.2.2.2.1 hi.2.2.2.1 | omega, by first | exact oq_9cbdfb3c hi.1.2 | omega⟩ (fun g1002 => ?_) (fun g1002 => ?_)))))))))
      ·
        refine WS_pq [0, 1, 2, 3, 4, 5] (lv' := [(0, .ref (A 179)), (1, .int (Int32.ofInt xv)), (2, .int (Int32.ofInt yv)), (3, .int (Int32.ofInt zv)), (4, .int (Int32.ofInt nv)), (5, .int (Int32.ofInt c))]) rfl ?_
        exact kx _ nv c I F (by first | exact ⟨And.intro (hi.1.1) (hi.1.2), And.intro (hi.2.1.1) (hi.2.1.2), And.intro (hi.2.2.1.1) (hi.2.2.1.2), hi.2.2.2.1, hi.2.2.2.2.1, hi.2.2.2.2.2.1, hi.2.2.2.2.2.2⟩ | omega)
      ·
        refine z_load X (x := c) rfl (List.Mem.tail _ (List.Mem.tail _ (List.Mem.tail _ (List.Mem.tail _ (List.Mem.tail _ (List.Mem.head _)))))) (z_bipush X rfl (z_mod X rfl (by first | exact oq_12a1f9e1 hi.2.2.2.2.1 hi.2.2.2.1 | omega) ⟨by first | exact oq_e001bc0d hi.2.2.2.2.1 hi.2.2.2.1 | omega, by first | exact oq_722d72a6 g1002 hi.1.2 | omega⟩ (by decide) (by decide) (z_load_n X (x := xv) rfl (List.Mem.tail _ (List.Mem.head _)) (z_bipush X rfl (z_mod X rfl (by first | exact hi.1.1 | omega) ⟨by first | exact oq_fa4e5087 hi.1.1 | omega, by first | exact oq_07d346ce hi.1.2 | omega⟩ (by decide) (by decide) (z_load_n X (x := yv) rfl (List.Mem.tail _ (List.Mem.tail _ (List.Mem.head _))) (z_bipush X rfl (z_mod X rfl (by first | exact hi.2.1.1 | omega) ⟨by first | exact oq_fa4e5087 hi.2.1.1 | omega, by first | exact oq_07d346ce hi.2.1.2 | omega⟩ (by decide) (by decide) (zcS_i0 X E (As := [.int (Int32.ofInt (c % 8)), .int (Int32.ofInt (xv % 8)), .int (Int32.ofInt (yv % 8))]) (st := []) rfl rfl (k_in G I (by first | exact ⟨oq_e86162eb, oq_70086759⟩ | omega) (by first | exact ⟨oq_e86162eb, oq_70086759⟩ | omega) (by first | exact ⟨oq_e86162eb, oq_70086759⟩ | omega)) rfl (Nat.le_of_ble_eq_true rfl) (fun s1003 e1004 Is1003 Fs1003 hrs1003 hps1003 => ?_))))))))))
        have Gs1003 := fm_tq F Fs1003 rfl rfl
        have ws1003_73 : iI s1003 73 = iI t 73 := fm_iq Fs1003 rfl
        refine z_if_eq X (t := 208) rfl rfl hrs1003 (fun g1005 => ?_) (fun g1005 => ?_)
        ·
          refine z_inc X (x := c) (lv' := [(5, .int (Int32.ofInt (c + 1))), (0, .ref (A 179)), (1, .int (Int32.ofInt xv)), (2, .int (Int32.ofInt yv)), (3, .int (Int32.ofInt zv)), (4, .int (Int32.ofInt nv))]) rfl (by decide) (List.Mem.tail _ (List.Mem.tail _ (List.Mem.tail _ (List.Mem.tail _ (List.Mem.tail _ (List.Mem.head _)))))) (fun _ h => h) (z_goto X (t := 114) rfl rfl (WS_pq [1, 2, 3, 4, 5, 0] (lv' := [(0, .ref (A 179)), (1, .int (Int32.ofInt xv)), (2, .int (Int32.ofInt yv)), (3, .int (Int32.ofInt zv)), (4, .int (Int32.ofInt nv)), (5, .int (Int32.ofInt (c + 1)))]) rfl ?_))
          exact ih _ xv yv zv nv (c + 1) Is1003 Gs1003 (by first | exact ⟨And.intro (hi.1.1) (hi.1.2), And.intro (hi.2.1.1) (hi.2.1.2), And.intro (hi.2.2.1.1) (hi.2.2.1.2), hi.2.2.2.1, oq_03182e9e hi.2.2.2.2.1, oq_0501f4f7 hi.2.2.2.2.2.1, oq_1d10317a g1002⟩ | omega) (by first | exact qk_me hm (by decide) (oq_c0915417 g1002) | omega) kx
        ·
          refine z_load X (x := c) rfl (List.Mem.tail _ (List.Mem.tail _ (List.Mem.tail _ (List.Mem.tail _ (List.Mem.tail _ (List.Mem.head _)))))) (z_bipush X rfl (z_quot X rfl (by first | exact oq_12a1f9e1 hi.2.2.2.2.1 hi.2.2.2.1 | omega) ⟨by first | exact oq_e001bc0d hi.2.2.2.2.1 hi.2.2.2.1 | omega, by first | exact oq_722d72a6 g1002 hi.1.2 | omega⟩ (by decide) (by decide) (z_bipush X rfl (z_mod X rfl (by first | exact oq_36b78649 hi.2.2.2.2.1 hi.2.2.2.1 | omega) ⟨by first | exact oq_fb4875cb hi.2.2.2.2.1 hi.2.2.2.1 | omega, by first | exact oq_c356bf53 g1002 hi.1.2 | omega⟩ (by decide) (by decide) (z_load_n X (x := xv) rfl (List.Mem.tail _ (List.Mem.head _)) (z_bipush X rfl (z_quot X rfl (by first | exact hi.1.1 | omega) ⟨by first | exact oq_fa4e5087 hi.1.1 | omega, by first | exact oq_07d346ce hi.1.2 | omega⟩ (by decide) (by decide) (z_bipush X rfl (z_mod X rfl (by first | exact oq_064ec12a hi.1.1 | omega) ⟨by first | exact oq_e9761868 hi.1.1 | omega, by first | exact oq_9e7a8b87 hi.1.2 | omega⟩ (by decide) (by decide) (z_load_n X (x := yv) rfl (List.Mem.tail _ (List.Mem.tail _ (List.Mem.head _))) (z_bipush X rfl ?_)))))))))))
          refine z_quot X rfl (by first | exact hi.2.1.1 | omega) ⟨by first | exact oq_fa4e5087 hi.2.1.1 | omega, by first | exact oq_07d346ce hi.2.1.2 | omega⟩ (by decide) (by decide) (z_bipush X rfl (z_mod X rfl (by first | exact oq_064ec12a hi.2.1.1 | omega) ⟨by first | exact oq_e9761868 hi.2.1.1 | omega, by first | exact oq_9e7a8b87 hi.2.1.2 | omega⟩ (by decide) (by decide) (zcS_i0 X E (As := [.int (Int32.ofInt ((c / 8) % 8)), .int (Int32.ofInt ((xv / 8) % 8)), .int (Int32.ofInt ((yv / 8) % 8))]) (st := []) rfl rfl (k_in G Is1003 (by first | exact ⟨oq_452e8fda, oq_267eaf70⟩ | omega) (by first | exact ⟨oq_452e8fda, oq_267eaf70⟩ | omega) (by first | exact ⟨oq_452e8fda, oq_267eaf70⟩ | omega)) rfl (Nat.le_of_ble_eq_true rfl) (fun s1006 e1007 Is1006 Fs1006 hrs1006 hps1006 => ?_))))
          have Gs1006 := fm_tq Gs1003 Fs1006 rfl rfl
          have ws1006_73 : iI s1006 73 = iI s1003 73 := fm_iq Fs1006 rfl
          refine z_if_ne X (t := 179) rfl rfl hrs1006 (fun g1008 => ?_) (fun g1008 => ?_)
          ·
            refine z_load X (x := nv) rfl (List.Mem.tail _ (List.Mem.tail _ (List.Mem.tail _ (List.Mem.tail _ (List.Mem.head _))))) (z_aload_n X (x := A 179) rfl (List.Mem.head _) (s_getR X 179 rfl (c518_ok rfl) rfl rfl (z_load X (x := c) rfl (List.Mem.tail _ (List.Mem.tail _ (List.Mem.tail _ (List.Mem.tail _ (List.Mem.tail _ (List.Mem.head _)))))) (z_ald X 256 rfl (c518_ok rfl) rfl (by first | exact oq_12a1f9e1 hi.2.2.2.2.1 hi.2.2.2.1 | omega) (show c < 128 by first | (clear g1008 hps1006 g1005 hps1003; omega) | (clear hps1006 g1005 hps1003; omega) | omega) (cbig_ok rfl) ?_))))
            have b1009 := bc_228 Is1006 (show (c).toNat < 128 by first | (clear g1008 hps1006 g1005 hps1003; omega) | (clear hps1006 g1005 hps1003; omega) | omega)
            refine z_load_n X (x := zv) rfl (List.Mem.tail _ (List.Mem.tail _ (List.Mem.tail _ (List.Mem.head _)))) ?_
            have N1010 : ∀ e1011 : Int, ((((iC s1006 228 (c).toNat) ≠ zv) ∧ e1011 = 1) ∨ (((iC s1006 228 (c).toNat) = zv) ∧ e1011 = 0)) → WS k 197 [(0, .ref (A 179)), (1, .int (Int32.ofInt xv)), (2, .int (Int32.ofInt yv)), (3, .int (Int32.ofInt zv)), (4, .int (Int32.ofInt nv)), (5, .int (Int32.ofInt c))] [.int (Int32.ofInt e1011), .int (Int32.ofInt nv)] (Wd A dT s1006) 0 0 := by
              intro e1011 he1011
              have re1011 : 0 ≤ e1011 ∧ e1011 ≤ 1 := by first | (clear he1011 g1008 hps1006 g1005 hps1003; omega) | (clear g1008 hps1006 g1005 hps1003; omega) | omega
              refine z_add X rfl (z_store X (lv' := [(4, .int (Int32.ofInt (nv + e1011))), (0, .ref (A 179)), (1, .int (Int32.ofInt xv)), (2, .int (Int32.ofInt yv)), (3, .int (Int32.ofInt zv)), (5, .int (Int32.ofInt c))]) rfl (by decide) (fun _ h => h) (z_aload_n X (x := A 179) rfl (List.Mem.tail _ (List.Mem.head _)) (s_getR X 179 rfl (c518_ok rfl) rfl rfl (z_load X (x := c) rfl (List.Mem.tail _ (List.Mem.tail _ (List.Mem.tail _ (List.Mem.tail _ (List.Mem.tail _ (List.Mem.head _)))))) (z_load_n X (x := zv) rfl (List.Mem.tail _ (List.Mem.tail _ (List.Mem.tail _ (List.Mem.tail _ (List.Mem.head _))))) (z_ast X 256 rfl (c518_ok rfl) rfl (by first | exact oq_12a1f9e1 hi.2.2.2.2.1 hi.2.2.2.1 | omega) (show c < 128 by first | (clear he1011 g1008 hps1006 g1005 hps1003; omega) | (clear g1008 hps1006 g1005 hps1003; omega) | omega) (cbig_ok rfl) (wd_gen (fun s1012 hs1012 => ?_))))))))
              have Is1012 : Bd s1012 := eqB hs1012 (bd_C Is1006 (show ((-1) : Int) ≤ zv ∧ zv ≤ 7 by first | exact ⟨hi.2.2.1.1, hi.2.2.1.2⟩ | omega) ⟨by first | exact oq_97ee2c2a hi.2.2.1.1 | omega, by first | exact oq_0e78ca7d hi.2.2.1.2 | omega⟩)
              have Fs1012 := eqF hs1012 (fm_C Gs1006 (inl_ok (a := 228) rfl))
              have ws1012_73 : iI s1012 73 = iI s1006 73 := eqI hs1012 rfl
              refine z_inc X (x := c) (lv' := [(5, .int (Int32.ofInt (c + 1))), (4, .int (Int32.ofInt (nv + e1011))), (0, .ref (A 179)), (1, .int (Int32.ofInt xv)), (2, .int (Int32.ofInt yv)), (3, .int (Int32.ofInt zv))]) rfl (by decide) (List.Mem.tail _ (List.Mem.tail _ (List.Mem.tail _ (List.Mem.tail _ (List.Mem.tail _ (List.Mem.head _)))))) (fun _ h => h) (z_goto X (t := 114) rfl rfl (WS_pq [2, 3, 4, 5, 1, 0] (lv' := [(0, .ref (A 179)), (1, .int (Int32.ofInt xv)), (2, .int (Int32.ofInt yv)), (3, .int (Int32.ofInt zv)), (4, .int (Int32.ofInt (nv + e1011))), (5, .int (Int32.ofInt (c + 1)))]) rfl ?_))
              exact ih _ xv yv zv (nv + e1011) (c + 1) Is1012 Fs1012 (by first | exact ⟨And.intro (hi.1.1) (hi.1.2), And.intro (hi.2.1.1) (hi.2.1.2), And.intro (hi.2.2.1.1) (hi.2.2.1.2), oq_dd29f52d hi.2.2.2.1 re1011.1, oq_273e42a6 hi.2.2.2.2.1 re1011.2, oq_0501f4f7 hi.2.2.2.2.2.1, oq_1d10317a g1002⟩ | omega) (by first | exact qk_me hm (by decide) (oq_c0915417 g1002) | omega) kx
            refine z_icmp_ne X (t := 196) rfl rfl (rng_to _) ⟨by first | exact oq_97ee2c2a hi.2.2.1.1 | omega, by first | exact oq_0e78ca7d hi.2.2.1.2 | omega⟩ (fun g1013 => ?_) (fun g1013 => ?_)
            ·
              exact z_const X rfl (N1010 _ (Or.inl ⟨g1013, rfl⟩))
            ·
              exact z_const X rfl (z_goto X (t := 197) rfl rfl (N1010 _ (Or.inr (⟨g1013, rfl⟩))))
          ·
            refine z_goto X (t := 208) rfl rfl (z_inc X (x := c) (lv' := [(5, .int (Int32.ofInt (c + 1))), (0, .ref (A 179)), (1, .int (Int32.ofInt xv)), (2, .int (Int32.ofInt yv)), (3, .int (Int32.ofInt zv)), (4, .int (Int32.ofInt nv))]) rfl (by decide) (List.Mem.tail _ (List.Mem.tail _ (List.Mem.tail _ (List.Mem.tail _ (List.Mem.tail _ (List.Mem.head _)))))) (fun _ h => h) (z_goto X (t := 114) rfl rfl (WS_pq [1, 2, 3, 4, 5, 0] (lv' := [(0, .ref (A 179)), (1, .int (Int32.ofInt xv)), (2, .int (Int32.ofInt yv)), (3, .int (Int32.ofInt zv)), (4, .int (Int32.ofInt nv)), (5, .int (Int32.ofInt (c + 1)))]) rfl ?_)))
            exact ih _ xv yv zv nv (c + 1) Is1006 Gs1006 (by first | exact ⟨And.intro (hi.1.1) (hi.1.2), And.intro (hi.2.1.1) (hi.2.1.2), And.intro (hi.2.2.1.1) (hi.2.2.1.2), hi.2.2.2.1, oq_03182e9e hi.2.2.2.2.1, oq_0501f4f7 hi.2.2.2.2.2.1, oq_1d10317a g1002⟩ | omega) (by first | exact qk_me hm (by decide) (oq_c0915417 g1002) | omega) kx
  refine z_aload_n X (x := A 179) rfl (List.Mem.head _) (z_const X rfl (s_putI X 179 rfl (c518_ok rfl) rfl rfl (by decide) rfl rfl rfl (wd_gen (fun s2 hs2 => ?_))))
  have Is2 : Bd s2 := eqB hs2 (bd_I I (show (0 : Int) ≤ 0 ∧ 0 ≤ 3 by first | exact ⟨by decide, by decide⟩ | omega) (by decide))
  have Fs2 := eqF hs2 (fm_I F (inl_ok (a := 73) rfl))
  have vs2 : iI s2 73 = 0 := eqI hs2 (iI_u (by decide))
  refine z_aload_n X (x := A 179) rfl (List.Mem.head _) (z_load_n X (x := x) rfl (List.Mem.tail _ (List.Mem.head _)) (z_const X rfl (z_bipush X rfl (zcS_i0 X E (As := [.int (Int32.ofInt x), .int (Int32.ofInt 0), .int (Int32.ofInt 127)]) (st := [.ref (A 179)]) rfl rfl (k_in G Is2 (by first | exact ⟨p0.1, p0.2⟩ | omega) (by first | exact ⟨by decide, by decide⟩ | omega) (by first | exact ⟨by decide, by decide⟩ | omega)) rfl (Nat.le_of_ble_eq_true rfl) (fun s3 e4 Is3 Fs3 hrs3 hps3 => ?_)))))
  have Gs3 := fm_tq Fs2 Fs3 rfl rfl
  have ws3_73 : iI s3 73 = iI s2 73 := fm_iq Fs3 rfl
  refine z_if_eq X (t := 26) rfl rfl hrs3 (fun g5 => ?_) (fun g5 => ?_)
  ·
    refine z_const X rfl (z_goto X (t := 31) rfl rfl (z_const X rfl (zcV_i0 X E 179 (As := [.int (Int32.ofInt 1), .int (Int32.ofInt 1)]) (st := []) rfl rfl rfl rfl (k_bad G Is3 (by first | exact Or.inr (by decide) | omega) (by first | exact ⟨by decide, by decide⟩ | omega)) rfl (Nat.le_of_ble_eq_true rfl) (fun s6 e7 Is6 Fs6 hrs6 hps6 => ?_))))
    have Gs6 := fm_tq Gs3 Fs6 rfl rfl
    have b8 := bi_73 Is6
    refine z_if_ne X (t := 100) rfl rfl hrs6 (fun g9 => ?_) (fun g9 => ?_)
    ·
      refine z_const X rfl ?_
      exact w_iret X.1 q hRt rfl (ax_d X (show cdA 235 101 = some (.ireturn, 1, 0, 0, 0) from rfl)) (Nat.zero_le _) (Nat.zero_le _) ⟨_, rfl, Is6, Gs6, 0, rfl, (by decide), trivial⟩
    ·
      refine z_aload_n X (x := A 179) rfl (List.Mem.head _) (z_load_n X (x := z) rfl (List.Mem.tail _ (List.Mem.tail _ (List.Mem.tail _ (List.Mem.head _)))) (z_const X rfl (z_bipush X rfl (zcS_i0 X E (As := [.int (Int32.ofInt z), .int (Int32.ofInt (-1)), .int (Int32.ofInt 7)]) (st := [.ref (A 179)]) rfl rfl (k_in G Is6 (by first | exact ⟨p2.1, p2.2⟩ | omega) (by first | exact ⟨by decide, by decide⟩ | omega) (by first | exact ⟨by decide, by decide⟩ | omega)) rfl (Nat.le_of_ble_eq_true rfl) (fun s10 e11 Is10 Fs10 hrs10 hps10 => ?_)))))
      have Gs10 := fm_tq Gs6 Fs10 rfl rfl
      have ws10_73 : iI s10 73 = iI s6 73 := fm_iq Fs10 rfl
      refine z_if_eq X (t := 88) rfl rfl hrs10 (fun g12 => ?_) (fun g12 => ?_)
      ·
        refine z_const X rfl (z_goto X (t := 93) rfl rfl (z_const X rfl (zcV_i0 X E 179 (As := [.int (Int32.ofInt 1), .int (Int32.ofInt 2)]) (st := []) rfl rfl rfl rfl (k_bad G Is10 (by first | exact Or.inr (by decide) | omega) (by first | exact ⟨by decide, by decide⟩ | omega)) rfl (Nat.le_of_ble_eq_true rfl) (fun s13 e14 Is13 Fs13 hrs13 hps13 => ?_))))
        have Gs13 := fm_tq Gs10 Fs13 rfl rfl
        have b15 := bi_73 Is13
        refine z_if_eq X (t := 102) rfl rfl hrs13 (fun g16 => ?_) (fun g16 => ?_)
        ·
          refine z_const X rfl (z_store X (lv' := [(4, .int (Int32.ofInt 0)), (0, .ref (A 179)), (1, .int (Int32.ofInt x)), (2, .int (Int32.ofInt y)), (3, .int (Int32.ofInt z))]) rfl (by decide) (fun _ h => h) (z_bipush X rfl (z_load_n X (x := x) rfl (List.Mem.tail _ (List.Mem.tail _ (List.Mem.head _))) (z_bipush X rfl (z_quot X rfl (by first | exact oq_65cab3da g16 hps13.2.1 | omega) ⟨by first | exact p0.1 | omega, by first | exact p0.2 | omega⟩ (by decide) (by decide) (z_mul X rfl (z_store X (lv' := [(5, .int (Int32.ofInt (64 * (x / 64)))), (4, .int (Int32.ofInt 0)), (0, .ref (A 179)), (1, .int (Int32.ofInt x)), (2, .int (Int32.ofInt y)), (3, .int (Int32.ofInt z))]) rfl (by decide) (fun _ h => h) (WS_pq [2, 3, 4, 5, 1, 0] (lv' := [(0, .ref (A 179)), (1, .int (Int32.ofInt x)), (2, .int (Int32.ofInt y)), (3, .int (Int32.ofInt z)), (4, .int (Int32.ofInt 0)), (5, .int (Int32.ofInt (64 * (x / 64))))]) rfl (L114 ((64 * (x / 64) + 64 - (64 * (x / 64)) : Int).toNat + 1) s13 x y z 0 (64 * (x / 64)) Is13 Gs13 (by first | exact ⟨oq_9604615f g16 hps13.2.1, oq_9604615f g16 hps13.2.1, oq_dc25914b g16 hps13.2.1, by decide, oq_96ccba6c g16 hps13.2.1, by decide, by decide⟩ | omega) (Nat.lt_succ_self _) ?_)))))))))
          intro s17 x18 x19 Is17 Fs17 hs17
          have b20 := bi_73 Is17
          refine z_load X (x := x18) rfl (List.Mem.tail _ (List.Mem.tail _ (List.Mem.tail _ (List.Mem.tail _ (List.Mem.head _))))) ?_
          exact w_iret X.1 q hRt rfl (ax_d X (show cdA 235 216 = some (.ireturn, 1, 0, 0, 0) from rfl)) (Nat.zero_le _) (Nat.zero_le _) ⟨_, rfl, Is17, Fs17, x18, rfl, ⟨by first | exact oq_fa4e5087 hs17.2.2.2.1 | omega, by first | exact oq_850460f6 hs17.2.2.2.2.2.2 hs17.2.2.2.2.1 hs17.1.2 | omega⟩, trivial⟩
        ·
          refine z_const X rfl ?_
          exact w_iret X.1 q hRt rfl (ax_d X (show cdA 235 101 = some (.ireturn, 1, 0, 0, 0) from rfl)) (Nat.zero_le _) (Nat.zero_le _) ⟨_, rfl, Is13, Gs13, 0, rfl, (by decide), trivial⟩
      ·
        refine z_load_n X (x := x) rfl (List.Mem.tail _ (List.Mem.head _)) (z_bipush X rfl (z_quot X rfl (by first | exact oq_65cab3da g9 hps6.2.1 | omega) ⟨by first | exact p0.1 | omega, by first | exact p0.2 | omega⟩ (by decide) (by decide) (z_load_n X (x := y) rfl (List.Mem.tail _ (List.Mem.tail _ (List.Mem.head _))) (z_bipush X rfl (z_quot X rfl (by first | exact oq_65cab3da g9 hps6.2.1 | omega) ⟨by first | exact p1.1 | omega, by first | exact p1.2 | omega⟩ (by decide) (by decide) (z_icmp_ne X (t := 88) rfl rfl ⟨by first | exact oq_f457fe4f p0.1 | omega, by first | exact oq_e42dd4bd p0.2 | omega⟩ ⟨by first | exact oq_f457fe4f p1.1 | omega, by first | exact oq_e42dd4bd p1.2 | omega⟩ (fun g21 => ?_) (fun g21 => ?_)))))))
        ·
          refine z_const X rfl (z_goto X (t := 93) rfl rfl (z_const X rfl (zcV_i0 X E 179 (As := [.int (Int32.ofInt 1), .int (Int32.ofInt 2)]) (st := []) rfl rfl rfl rfl (k_bad G Is10 (by first | exact Or.inr (by decide) | omega) (by first | exact ⟨by decide, by decide⟩ | omega)) rfl (Nat.le_of_ble_eq_true rfl) (fun s22 e23 Is22 Fs22 hrs22 hps22 => ?_))))
          have Gs22 := fm_tq Gs10 Fs22 rfl rfl
          have b24 := bi_73 Is22
          refine z_if_eq X (t := 102) rfl rfl hrs22 (fun g25 => ?_) (fun g25 => ?_)
          ·
            refine z_const X rfl (z_store X (lv' := [(4, .int (Int32.ofInt 0)), (0, .ref (A 179)), (1, .int (Int32.ofInt x)), (2, .int (Int32.ofInt y)), (3, .int (Int32.ofInt z))]) rfl (by decide) (fun _ h => h) (z_bipush X rfl (z_load_n X (x := x) rfl (List.Mem.tail _ (List.Mem.tail _ (List.Mem.head _))) (z_bipush X rfl (z_quot X rfl (by first | exact oq_65cab3da g25 hps22.2.1 | omega) ⟨by first | exact p0.1 | omega, by first | exact p0.2 | omega⟩ (by decide) (by decide) (z_mul X rfl (z_store X (lv' := [(5, .int (Int32.ofInt (64 * (x / 64)))), (4, .int (Int32.ofInt 0)), (0, .ref (A 179)), (1, .int (Int32.ofInt x)), (2, .int (Int32.ofInt y)), (3, .int (Int32.ofInt z))]) rfl (by decide) (fun _ h => h) (WS_pq [2, 3, 4, 5, 1, 0] (lv' := [(0, .ref (A 179)), (1, .int (Int32.ofInt x)), (2, .int (Int32.ofInt y)), (3, .int (Int32.ofInt z)), (4, .int (Int32.ofInt 0)), (5, .int (Int32.ofInt (64 * (x / 64))))]) rfl (L114 ((64 * (x / 64) + 64 - (64 * (x / 64)) : Int).toNat + 1) s22 x y z 0 (64 * (x / 64)) Is22 Gs22 (by first | exact ⟨oq_9604615f g25 hps22.2.1, oq_9604615f g25 hps22.2.1, oq_8d05831f g12 hps10, by decide, oq_96ccba6c g25 hps22.2.1, by decide, by decide⟩ | omega) (Nat.lt_succ_self _) ?_)))))))))
            intro s26 x27 x28 Is26 Fs26 hs26
            have b29 := bi_73 Is26
            refine z_load X (x := x27) rfl (List.Mem.tail _ (List.Mem.tail _ (List.Mem.tail _ (List.Mem.tail _ (List.Mem.head _))))) ?_
            exact w_iret X.1 q hRt rfl (ax_d X (show cdA 235 216 = some (.ireturn, 1, 0, 0, 0) from rfl)) (Nat.zero_le _) (Nat.zero_le _) ⟨_, rfl, Is26, Fs26, x27, rfl, ⟨by first | exact oq_fa4e5087 hs26.2.2.2.1 | omega, by first | exact oq_850460f6 hs26.2.2.2.2.2.2 hs26.2.2.2.2.1 hs26.1.2 | omega⟩, trivial⟩
          ·
            refine z_const X rfl ?_
            exact w_iret X.1 q hRt rfl (ax_d X (show cdA 235 101 = some (.ireturn, 1, 0, 0, 0) from rfl)) (Nat.zero_le _) (Nat.zero_le _) ⟨_, rfl, Is22, Gs22, 0, rfl, (by decide), trivial⟩
        ·
          refine z_load_n X (x := x) rfl (List.Mem.tail _ (List.Mem.head _)) (z_bipush X rfl (z_mod X rfl (by first | exact oq_65cab3da g9 hps6.2.1 | omega) ⟨by first | exact p0.1 | omega, by first | exact p0.2 | omega⟩ (by decide) (by decide) (z_load_n X (x := y) rfl (List.Mem.tail _ (List.Mem.tail _ (List.Mem.head _))) (z_bipush X rfl (z_mod X rfl (by first | exact oq_65cab3da g9 hps6.2.1 | omega) ⟨by first | exact p1.1 | omega, by first | exact p1.2 | omega⟩ (by decide) (by decide) (z_icmp_gt X (t := 88) rfl rfl ⟨by first | exact oq_e86162eb | omega, by first | exact oq_70086759 | omega⟩ ⟨by first | exact oq_e86162eb | omega, by first | exact oq_70086759 | omega⟩ (fun g30 => ?_) (fun g30 => ?_)))))))
          ·
            refine z_const X rfl (z_goto X (t := 93) rfl rfl (z_const X rfl (zcV_i0 X E 179 (As := [.int (Int32.ofInt 1), .int (Int32.ofInt 2)]) (st := []) rfl rfl rfl rfl (k_bad G Is10 (by first | exact Or.inr (by decide) | omega) (by first | exact ⟨by decide, by decide⟩ | omega)) rfl (Nat.le_of_ble_eq_true rfl) (fun s31 e32 Is31 Fs31 hrs31 hps31 => ?_))))
            have Gs31 := fm_tq Gs10 Fs31 rfl rfl
            have b33 := bi_73 Is31
            refine z_if_eq X (t := 102) rfl rfl hrs31 (fun g34 => ?_) (fun g34 => ?_)
            ·
              refine z_const X rfl (z_store X (lv' := [(4, .int (Int32.ofInt 0)), (0, .ref (A 179)), (1, .int (Int32.ofInt x)), (2, .int (Int32.ofInt y)), (3, .int (Int32.ofInt z))]) rfl (by decide) (fun _ h => h) (z_bipush X rfl (z_load_n X (x := x) rfl (List.Mem.tail _ (List.Mem.tail _ (List.Mem.head _))) (z_bipush X rfl (z_quot X rfl (by first | exact oq_65cab3da g34 hps31.2.1 | omega) ⟨by first | exact p0.1 | omega, by first | exact p0.2 | omega⟩ (by decide) (by decide) (z_mul X rfl (z_store X (lv' := [(5, .int (Int32.ofInt (64 * (x / 64)))), (4, .int (Int32.ofInt 0)), (0, .ref (A 179)), (1, .int (Int32.ofInt x)), (2, .int (Int32.ofInt y)), (3, .int (Int32.ofInt z))]) rfl (by decide) (fun _ h => h) (WS_pq [2, 3, 4, 5, 1, 0] (lv' := [(0, .ref (A 179)), (1, .int (Int32.ofInt x)), (2, .int (Int32.ofInt y)), (3, .int (Int32.ofInt z)), (4, .int (Int32.ofInt 0)), (5, .int (Int32.ofInt (64 * (x / 64))))]) rfl (L114 ((64 * (x / 64) + 64 - (64 * (x / 64)) : Int).toNat + 1) s31 x y z 0 (64 * (x / 64)) Is31 Gs31 (by first | exact ⟨oq_9604615f g34 hps31.2.1, oq_9604615f g34 hps31.2.1, oq_8d05831f g12 hps10, by decide, oq_96ccba6c g34 hps31.2.1, by decide, by decide⟩ | omega) (Nat.lt_succ_self _) ?_)))))))))
              intro s35 x36 x37 Is35 Fs35 hs35
              have b38 := bi_73 Is35
              refine z_load X (x := x36) rfl (List.Mem.tail _ (List.Mem.tail _ (List.Mem.tail _ (List.Mem.tail _ (List.Mem.head _))))) ?_
              exact w_iret X.1 q hRt rfl (ax_d X (show cdA 235 216 = some (.ireturn, 1, 0, 0, 0) from rfl)) (Nat.zero_le _) (Nat.zero_le _) ⟨_, rfl, Is35, Fs35, x36, rfl, ⟨by first | exact oq_fa4e5087 hs35.2.2.2.1 | omega, by first | exact oq_850460f6 hs35.2.2.2.2.2.2 hs35.2.2.2.2.1 hs35.1.2 | omega⟩, trivial⟩
            ·
              refine z_const X rfl ?_
              exact w_iret X.1 q hRt rfl (ax_d X (show cdA 235 101 = some (.ireturn, 1, 0, 0, 0) from rfl)) (Nat.zero_le _) (Nat.zero_le _) ⟨_, rfl, Is31, Gs31, 0, rfl, (by decide), trivial⟩
          ·
            refine z_load_n X (x := x) rfl (List.Mem.tail _ (List.Mem.head _)) (z_bipush X rfl (z_quot X rfl (by first | exact oq_65cab3da g9 hps6.2.1 | omega) ⟨by first | exact p0.1 | omega, by first | exact p0.2 | omega⟩ (by decide) (by decide) (z_bipush X rfl (z_mod X rfl (by first | exact oq_385d4e05 g9 hps6.2.1 | omega) ⟨by first | exact oq_186a3934 p0.1 | omega, by first | exact oq_2590a617 p0.2 | omega⟩ (by decide) (by decide) (z_load_n X (x := y) rfl (List.Mem.tail _ (List.Mem.tail _ (List.Mem.head _))) (z_bipush X rfl (z_quot X rfl (by first | exact oq_65cab3da g9 hps6.2.1 | omega) ⟨by first | exact p1.1 | omega, by first | exact p1.2 | omega⟩ (by decide) (by decide) (z_bipush X rfl (z_mod X rfl (by first | exact oq_385d4e05 g9 hps6.2.1 | omega) ⟨by first | exact oq_186a3934 p1.1 | omega, by first | exact oq_2590a617 p1.2 | omega⟩ (by decide) (by decide) ?_)))))))))
            have N39 : ∀ e40 : Int, (((((x / 8) % 8) ≤ ((y / 8) % 8)) ∧ e40 = 0) ∨ ((((y / 8) % 8) < ((x / 8) % 8)) ∧ e40 = 1)) → WS k 93 [(0, .ref (A 179)), (1, .int (Int32.ofInt x)), (2, .int (Int32.ofInt y)), (3, .int (Int32.ofInt z))] [.int (Int32.ofInt e40), .ref (A 179)] (Wd A dT s10) 0 0 := by
              intro e40 he40
              have re40 : 0 ≤ e40 ∧ e40 ≤ 1 := by first | (clear he40 g12 hps10 hps6 hps3; omega) | (clear g12 hps10 hps6 hps3; omega) | omega
              refine z_const X rfl (zcV_i0 X E 179 (As := [.int (Int32.ofInt e40), .int (Int32.ofInt 2)]) (st := []) rfl rfl rfl rfl (k_bad G Is10 (by first | exact oq_6a416fd5 re40.2 re40.1 he40 | omega) (by first | exact ⟨by decide, by decide⟩ | omega)) rfl (Nat.le_of_ble_eq_true rfl) (fun s41 e42 Is41 Fs41 hrs41 hps41 => ?_))
              have Gs41 := fm_tq Gs10 Fs41 rfl rfl
              have b43 := bi_73 Is41
              refine z_if_eq X (t := 102) rfl rfl hrs41 (fun g44 => ?_) (fun g44 => ?_)
              ·
                refine z_const X rfl (z_store X (lv' := [(4, .int (Int32.ofInt 0)), (0, .ref (A 179)), (1, .int (Int32.ofInt x)), (2, .int (Int32.ofInt y)), (3, .int (Int32.ofInt z))]) rfl (by decide) (fun _ h => h) (z_bipush X rfl (z_load_n X (x := x) rfl (List.Mem.tail _ (List.Mem.tail _ (List.Mem.head _))) (z_bipush X rfl (z_quot X rfl (by first | exact oq_65cab3da g9 hps6.2.1 | omega) ⟨by first | exact p0.1 | omega, by first | exact p0.2 | omega⟩ (by decide) (by decide) (z_mul X rfl (z_store X (lv' := [(5, .int (Int32.ofInt (64 * (x / 64)))), (4, .int (Int32.ofInt 0)), (0, .ref (A 179)), (1, .int (Int32.ofInt x)), (2, .int (Int32.ofInt y)), (3, .int (Int32.ofInt z))]) rfl (by decide) (fun _ h => h) (WS_pq [2, 3, 4, 5, 1, 0] (lv' := [(0, .ref (A 179)), (1, .int (Int32.ofInt x)), (2, .int (Int32.ofInt y)), (3, .int (Int32.ofInt z)), (4, .int (Int32.ofInt 0)), (5, .int (Int32.ofInt (64 * (x / 64))))]) rfl (L114 ((64 * (x / 64) + 64 - (64 * (x / 64)) : Int).toNat + 1) s41 x y z 0 (64 * (x / 64)) Is41 Gs41 (by first | exact ⟨oq_9604615f g9 hps6.2.1, oq_9604615f g9 hps6.2.1, oq_8d05831f g12 hps10, by decide, oq_96ccba6c g9 hps6.2.1, by decide, by decide⟩ | omega) (Nat.lt_succ_self _) ?_)))))))))
                intro s45 x46 x47 Is45 Fs45 hs45
                have b48 := bi_73 Is45
                refine z_load X (x := x46) rfl (List.Mem.tail _ (List.Mem.tail _ (List.Mem.tail _ (List.Mem.tail _ (List.Mem.head _))))) ?_
                exact w_iret X.1 q hRt rfl (ax_d X (show cdA 235 216 = some (.ireturn, 1, 0, 0, 0) from rfl)) (Nat.zero_le _) (Nat.zero_le _) ⟨_, rfl, Is45, Fs45, x46, rfl, ⟨by first | exact oq_fa4e5087 hs45.2.2.2.1 | omega, by first | exact oq_850460f6 hs45.2.2.2.2.2.2 hs45.2.2.2.2.1 hs45.1.2 | omega⟩, trivial⟩
              ·
                refine z_const X rfl ?_
                exact w_iret X.1 q hRt rfl (ax_d X (show cdA 235 101 = some (.ireturn, 1, 0, 0, 0) from rfl)) (Nat.zero_le _) (Nat.zero_le _) ⟨_, rfl, Is41, Gs41, 0, rfl, (by decide), trivial⟩
            refine z_icmp_le X (t := 92) rfl rfl ⟨by first | exact oq_452e8fda | omega, by first | exact oq_267eaf70 | omega⟩ ⟨by first | exact oq_452e8fda | omega, by first | exact oq_267eaf70 | omega⟩ (fun g49 => ?_) (fun g49 => ?_)
            ·
              exact z_const X rfl (N39 _ (Or.inl ⟨g49, rfl⟩))
            ·
              exact z_const X rfl (z_goto X (t := 93) rfl rfl (N39 _ (Or.inr (⟨g49, rfl⟩))))
  ·
    refine z_load_n X (x := y) rfl (List.Mem.tail _ (List.Mem.tail _ (List.Mem.head _))) (z_const X rfl (z_bipush X rfl (zcS_i0 X E (As := [.int (Int32.ofInt y), .int (Int32.ofInt 0), .int (Int32.ofInt 127)]) (st := [.ref (A 179)]) rfl rfl (k_in G Is3 (by first | exact ⟨p1.1, p1.2⟩ | omega) (by first | exact ⟨by decide, by decide⟩ | omega) (by first | exact ⟨by decide, by decide⟩ | omega)) rfl (Nat.le_of_ble_eq_true rfl) (fun s50 e51 Is50 Fs50 hrs50 hps50 => ?_))))
    have Gs50 := fm_tq Gs3 Fs50 rfl rfl
    have ws50_73 : iI s50 73 = iI s3 73 := fm_iq Fs50 rfl
    have N52 : ∀ e53 : Int, (((e51 ≠ 0) ∧ e53 = 0) ∨ ((e51 = 0) ∧ e53 = 1)) → WS k 31 [(0, .ref (A 179)), (1, .int (Int32.ofInt x)), (2, .int (Int32.ofInt y)), (3, .int (Int32.ofInt z))] [.int (Int32.ofInt e53), .ref (A 179)] (Wd A dT s50) 0 0 := by
      intro e53 he53
      have re53 : 0 ≤ e53 ∧ e53 ≤ 1 := by first | (clear he53 hps50 g5 hps3; omega) | (clear hps50 g5 hps3; omega) | omega
      refine z_const X rfl (zcV_i0 X E 179 (As := [.int (Int32.ofInt e53), .int (Int32.ofInt 1)]) (st := []) rfl rfl rfl rfl (k_bad G Is50 (by first | exact oq_31e518ae re53.2 re53.1 | omega) (by first | exact ⟨by decide, by decide⟩ | omega)) rfl (Nat.le_of_ble_eq_true rfl) (fun s54 e55 Is54 Fs54 hrs54 hps54 => ?_))
      have Gs54 := fm_tq Gs50 Fs54 rfl rfl
      have b56 := bi_73 Is54
      refine z_if_ne X (t := 100) rfl rfl hrs54 (fun g57 => ?_) (fun g57 => ?_)
      ·
        refine z_const X rfl ?_
        exact w_iret X.1 q hRt rfl (ax_d X (show cdA 235 101 = some (.ireturn, 1, 0, 0, 0) from rfl)) (Nat.zero_le _) (Nat.zero_le _) ⟨_, rfl, Is54, Gs54, 0, rfl, (by decide), trivial⟩
      ·
        refine z_aload_n X (x := A 179) rfl (List.Mem.head _) (z_load_n X (x := z) rfl (List.Mem.tail _ (List.Mem.tail _ (List.Mem.tail _ (List.Mem.head _)))) (z_const X rfl (z_bipush X rfl (zcS_i0 X E (As := [.int (Int32.ofInt z), .int (Int32.ofInt (-1)), .int (Int32.ofInt 7)]) (st := [.ref (A 179)]) rfl rfl (k_in G Is54 (by first | exact ⟨p2.1, p2.2⟩ | omega) (by first | exact ⟨by decide, by decide⟩ | omega) (by first | exact ⟨by decide, by decide⟩ | omega)) rfl (Nat.le_of_ble_eq_true rfl) (fun s58 e59 Is58 Fs58 hrs58 hps58 => ?_)))))
        have Gs58 := fm_tq Gs54 Fs58 rfl rfl
        have ws58_73 : iI s58 73 = iI s54 73 := fm_iq Fs58 rfl
        refine z_if_eq X (t := 88) rfl rfl hrs58 (fun g60 => ?_) (fun g60 => ?_)
        ·
          refine z_const X rfl (z_goto X (t := 93) rfl rfl (z_const X rfl (zcV_i0 X E 179 (As := [.int (Int32.ofInt 1), .int (Int32.ofInt 2)]) (st := []) rfl rfl rfl rfl (k_bad G Is58 (by first | exact Or.inr (by decide) | omega) (by first | exact ⟨by decide, by decide⟩ | omega)) rfl (Nat.le_of_ble_eq_true rfl) (fun s61 e62 Is61 Fs61 hrs61 hps61 => ?_))))
          have Gs61 := fm_tq Gs58 Fs61 rfl rfl
          have b63 := bi_73 Is61
          refine z_if_eq X (t := 102) rfl rfl hrs61 (fun g64 => ?_) (fun g64 => ?_)
          ·
            refine z_const X rfl (z_store X (lv' := [(4, .int (Int32.ofInt 0)), (0, .ref (A 179)), (1, .int (Int32.ofInt x)), (2, .int (Int32.ofInt y)), (3, .int (Int32.ofInt z))]) rfl (by decide) (fun _ h => h) (z_bipush X rfl (z_load_n X (x := x) rfl (List.Mem.tail _ (List.Mem.tail _ (List.Mem.head _))) (z_bipush X rfl (z_quot X rfl (by first | exact oq_77708b6d g5 hps3 | omega) ⟨by first | exact p0.1 | omega, by first | exact p0.2 | omega⟩ (by decide) (by decide) (z_mul X rfl (z_store X (lv' := [(5, .int (Int32.ofInt (64 * (x / 64)))), (4, .int (Int32.ofInt 0)), (0, .ref (A 179)), (1, .int (Int32.ofInt x)), (2, .int (Int32.ofInt y)), (3, .int (Int32.ofInt z))]) rfl (by decide) (fun _ h => h) (WS_pq [2, 3, 4, 5, 1, 0] (lv' := [(0, .ref (A 179)), (1, .int (Int32.ofInt x)), (2, .int (Int32.ofInt y)), (3, .int (Int32.ofInt z)), (4, .int (Int32.ofInt 0)), (5, .int (Int32.ofInt (64 * (x / 64))))]) rfl (L114 ((64 * (x / 64) + 64 - (64 * (x / 64)) : Int).toNat + 1) s61 x y z 0 (64 * (x / 64)) Is61 Gs61 (by first | exact ⟨oq_e339be55 g5 hps3, oq_9604615f g64 hps61.2.1, oq_dc25914b g64 hps61.2.1, by decide, oq_96ccba6c g64 hps61.2.1, by decide, by decide⟩ | omega) (Nat.lt_succ_self _) ?_)))))))))
            intro s65 x66 x67 Is65 Fs65 hs65
            have b68 := bi_73 Is65
            refine z_load X (x := x66) rfl (List.Mem.tail _ (List.Mem.tail _ (List.Mem.tail _ (List.Mem.tail _ (List.Mem.head _))))) ?_
            exact w_iret X.1 q hRt rfl (ax_d X (show cdA 235 216 = some (.ireturn, 1, 0, 0, 0) from rfl)) (Nat.zero_le _) (Nat.zero_le _) ⟨_, rfl, Is65, Fs65, x66, rfl, ⟨by first | exact oq_fa4e5087 hs65.2.2.2.1 | omega, by first | exact oq_850460f6 hs65.2.2.2.2.2.2 hs65.2.2.2.2.1 hs65.1.2 | omega⟩, trivial⟩
          ·
            refine z_const X rfl ?_
            exact w_iret X.1 q hRt rfl (ax_d X (show cdA 235 101 = some (.ireturn, 1, 0, 0, 0) from rfl)) (Nat.zero_le _) (Nat.zero_le _) ⟨_, rfl, Is61, Gs61, 0, rfl, (by decide), trivial⟩
        ·
          refine z_load_n X (x := x) rfl (List.Mem.tail _ (List.Mem.head _)) (z_bipush X rfl (z_quot X rfl (by first | exact oq_77708b6d g5 hps3 | omega) ⟨by first | exact p0.1 | omega, by first | exact p0.2 | omega⟩ (by decide) (by decide) (z_load_n X (x := y) rfl (List.Mem.tail _ (List.Mem.tail _ (List.Mem.head _))) (z_bipush X rfl (z_quot X rfl (by first | exact oq_d2f74293 g57 hps54.2.1 re53.2 he53 hps50 | omega) ⟨by first | exact p1.1 | omega, by first | exact p1.2 | omega⟩ (by decide) (by decide) (z_icmp_ne X (t := 88) rfl rfl ⟨by first | exact oq_f457fe4f p0.1 | omega, by first | exact oq_e42dd4bd p0.2 | omega⟩ ⟨by first | exact oq_f457fe4f p1.1 | omega, by first | exact oq_e42dd4bd p1.2 | omega⟩ (fun g69 => ?_) (fun g69 => ?_)))))))
          ·
            refine z_const X rfl (z_goto X (t := 93) rfl rfl (z_const X rfl (zcV_i0 X E 179 (As := [.int (Int32.ofInt 1), .int (Int32.ofInt 2)]) (st := []) rfl rfl rfl rfl (k_bad G Is58 (by first | exact Or.inr (by decide) | omega) (by first | exact ⟨by decide, by decide⟩ | omega)) rfl (Nat.le_of_ble_eq_true rfl) (fun s70 e71 Is70 Fs70 hrs70 hps70 => ?_))))
            have Gs70 := fm_tq Gs58 Fs70 rfl rfl
            have b72 := bi_73 Is70
            refine z_if_eq X (t := 102) rfl rfl hrs70 (fun g73 => ?_) (fun g73 => ?_)
            ·
              refine z_const X rfl (z_store X (lv' := [(4, .int (Int32.ofInt 0)), (0, .ref (A 179)), (1, .int (Int32.ofInt x)), (2, .int (Int32.ofInt y)), (3, .int (Int32.ofInt z))]) rfl (by decide) (fun _ h => h) (z_bipush X rfl (z_load_n X (x := x) rfl (List.Mem.tail _ (List.Mem.tail _ (List.Mem.head _))) (z_bipush X rfl (z_quot X rfl (by first | exact oq_77708b6d g5 hps3 | omega) ⟨by first | exact p0.1 | omega, by first | exact p0.2 | omega⟩ (by decide) (by decide) (z_mul X rfl (z_store X (lv' := [(5, .int (Int32.ofInt (64 * (x / 64)))), (4, .int (Int32.ofInt 0)), (0, .ref (A 179)), (1, .int (Int32.ofInt x)), (2, .int (Int32.ofInt y)), (3, .int (Int32.ofInt z))]) rfl (by decide) (fun _ h => h) (WS_pq [2, 3, 4, 5, 1, 0] (lv' := [(0, .ref (A 179)), (1, .int (Int32.ofInt x)), (2, .int (Int32.ofInt y)), (3, .int (Int32.ofInt z)), (4, .int (Int32.ofInt 0)), (5, .int (Int32.ofInt (64 * (x / 64))))]) rfl (L114 ((64 * (x / 64) + 64 - (64 * (x / 64)) : Int).toNat + 1) s70 x y z 0 (64 * (x / 64)) Is70 Gs70 (by first | exact ⟨oq_e339be55 g5 hps3, oq_9604615f g73 hps70.2.1, oq_8d05831f g60 hps58, by decide, oq_96ccba6c g73 hps70.2.1, by decide, by decide⟩ | omega) (Nat.lt_succ_self _) ?_)))))))))
              intro s74 x75 x76 Is74 Fs74 hs74
              have b77 := bi_73 Is74
              refine z_load X (x := x75) rfl (List.Mem.tail _ (List.Mem.tail _ (List.Mem.tail _ (List.Mem.tail _ (List.Mem.head _))))) ?_
              exact w_iret X.1 q hRt rfl (ax_d X (show cdA 235 216 = some (.ireturn, 1, 0, 0, 0) from rfl)) (Nat.zero_le _) (Nat.zero_le _) ⟨_, rfl, Is74, Fs74, x75, rfl, ⟨by first | exact oq_fa4e5087 hs74.2.2.2.1 | omega, by first | exact oq_850460f6 hs74.2.2.2.2.2.2 hs74.2.2.2.2.1 hs74.1.2 | omega⟩, trivial⟩
            ·
              refine z_const X rfl ?_
              exact w_iret X.1 q hRt rfl (ax_d X (show cdA 235 101 = some (.ireturn, 1, 0, 0, 0) from rfl)) (Nat.zero_le _) (Nat.zero_le _) ⟨_, rfl, Is70, Gs70, 0, rfl, (by decide), trivial⟩
          ·
            refine z_load_n X (x := x) rfl (List.Mem.tail _ (List.Mem.head _)) (z_bipush X rfl (z_mod X rfl (by first | exact oq_77708b6d g5 hps3 | omega) ⟨by first | exact p0.1 | omega, by first | exact p0.2 | omega⟩ (by decide) (by decide) (z_load_n X (x := y) rfl (List.Mem.tail _ (List.Mem.tail _ (List.Mem.head _))) (z_bipush X rfl (z_mod X rfl (by first | exact oq_d2f74293 g57 hps54.2.1 re53.2 he53 hps50 | omega) ⟨by first | exact p1.1 | omega, by first | exact p1.2 | omega⟩ (by decide) (by decide) (z_icmp_gt X (t := 88) rfl rfl ⟨by first | exact oq_e86162eb | omega, by first | exact oq_70086759 | omega⟩ ⟨by first | exact oq_e86162eb | omega, by first | exact oq_70086759 | omega⟩ (fun g78 => ?_) (fun g78 => ?_)))))))
            ·
              refine z_const X rfl (z_goto X (t := 93) rfl rfl (z_const X rfl (zcV_i0 X E 179 (As := [.int (Int32.ofInt 1), .int (Int32.ofInt 2)]) (st := []) rfl rfl rfl rfl (k_bad G Is58 (by first | exact Or.inr (by decide) | omega) (by first | exact ⟨by decide, by decide⟩ | omega)) rfl (Nat.le_of_ble_eq_true rfl) (fun s79 e80 Is79 Fs79 hrs79 hps79 => ?_))))
              have Gs79 := fm_tq Gs58 Fs79 rfl rfl
              have b81 := bi_73 Is79
              refine z_if_eq X (t := 102) rfl rfl hrs79 (fun g82 => ?_) (fun g82 => ?_)
              ·
                refine z_const X rfl (z_store X (lv' := [(4, .int (Int32.ofInt 0)), (0, .ref (A 179)), (1, .int (Int32.ofInt x)), (2, .int (Int32.ofInt y)), (3, .int (Int32.ofInt z))]) rfl (by decide) (fun _ h => h) (z_bipush X rfl (z_load_n X (x := x) rfl (List.Mem.tail _ (List.Mem.tail _ (List.Mem.head _))) (z_bipush X rfl (z_quot X rfl (by first | exact oq_77708b6d g5 hps3 | omega) ⟨by first | exact p0.1 | omega, by first | exact p0.2 | omega⟩ (by decide) (by decide) (z_mul X rfl (z_store X (lv' := [(5, .int (Int32.ofInt (64 * (x / 64)))), (4, .int (Int32.ofInt 0)), (0, .ref (A 179)), (1, .int (Int32.ofInt x)), (2, .int (Int32.ofInt y)), (3, .int (Int32.ofInt z))]) rfl (by decide) (fun _ h => h) (WS_pq [2, 3, 4, 5, 1, 0] (lv' := [(0, .ref (A 179)), (1, .int (Int32.ofInt x)), (2, .int (Int32.ofInt y)), (3, .int (Int32.ofInt z)), (4, .int (Int32.ofInt 0)), (5, .int (Int32.ofInt (64 * (x / 64))))]) rfl (L114 ((64 * (x / 64) + 64 - (64 * (x / 64)) : Int).toNat + 1) s79 x y z 0 (64 * (x / 64)) Is79 Gs79 (by first | exact ⟨oq_e339be55 g5 hps3, oq_9604615f g82 hps79.2.1, oq_8d05831f g60 hps58, by decide, oq_96ccba6c g82 hps79.2.1, by decide, by decide⟩ | omega) (Nat.lt_succ_self _) ?_)))))))))
                intro s83 x84 x85 Is83 Fs83 hs83
                have b86 := bi_73 Is83
                refine z_load X (x := x84) rfl (List.Mem.tail _ (List.Mem.tail _ (List.Mem.tail _ (List.Mem.tail _ (List.Mem.head _))))) ?_
                exact w_iret X.1 q hRt rfl (ax_d X (show cdA 235 216 = some (.ireturn, 1, 0, 0, 0) from rfl)) (Nat.zero_le _) (Nat.zero_le _) ⟨_, rfl, Is83, Fs83, x84, rfl, ⟨by first | exact oq_fa4e5087 hs83.2.2.2.1 | omega, by first | exact oq_850460f6 hs83.2.2.2.2.2.2 hs83.2.2.2.2.1 hs83.1.2 | omega⟩, trivial⟩
              ·
                refine z_const X rfl ?_
                exact w_iret X.1 q hRt rfl (ax_d X (show cdA 235 101 = some (.ireturn, 1, 0, 0, 0) from rfl)) (Nat.zero_le _) (Nat.zero_le _) ⟨_, rfl, Is79, Gs79, 0, rfl, (by decide), trivial⟩
            ·
              refine z_load_n X (x := x) rfl (List.Mem.tail _ (List.Mem.head _)) (z_bipush X rfl (z_quot X rfl (by first | exact oq_77708b6d g5 hps3 | omega) ⟨by first | exact p0.1 | omega, by first | exact p0.2 | omega⟩ (by decide) (by decide) (z_bipush X rfl (z_mod X rfl (by first | exact oq_88610498 g5 hps3 | omega) ⟨by first | exact oq_186a3934 p0.1 | omega, by first | exact oq_2590a617 p0.2 | omega⟩ (by decide) (by decide) (z_load_n X (x := y) rfl (List.Mem.tail _ (List.Mem.tail _ (List.Mem.head _))) (z_bipush X rfl (z_quot X rfl (by first | exact oq_d2f74293 g57 hps54.2.1 re53.2 he53 hps50 | omega) ⟨by first | exact p1.1 | omega, by first | exact p1.2 | omega⟩ (by decide) (by decide) (z_bipush X rfl (z_mod X rfl (by first | exact oq_589b9ea4 g57 hps54.2.1 re53.2 he53 hps50 | omega) ⟨by first | exact oq_186a3934 p1.1 | omega, by first | exact oq_2590a617 p1.2 | omega⟩ (by decide) (by decide) ?_)))))))))
              have N87 : ∀ e88 : Int, (((((x / 8) % 8) ≤ ((y / 8) % 8)) ∧ e88 = 0) ∨ ((((y / 8) % 8) < ((x / 8) % 8)) ∧ e88 = 1)) → WS k 93 [(0, .ref (A 179)), (1, .int (Int32.ofInt x)), (2, .int (Int32.ofInt y)), (3, .int (Int32.ofInt z))] [.int (Int32.ofInt e88), .ref (A 179)] (Wd A dT s58) 0 0 := by
                intro e88 he88
                have re88 : 0 ≤ e88 ∧ e88 ≤ 1 := by first | (clear he88 g60 hps58 hps54 he53 hps50 g5 hps3; omega) | (clear g60 hps58 hps54 he53 hps50 g5 hps3; omega) | omega
                refine z_const X rfl (zcV_i0 X E 179 (As := [.int (Int32.ofInt e88), .int (Int32.ofInt 2)]) (st := []) rfl rfl rfl rfl (k_bad G Is58 (by first | exact oq_6a416fd5 re88.2 re88.1 he88 | omega) (by first | exact ⟨by decide, by decide⟩ | omega)) rfl (Nat.le_of_ble_eq_true rfl) (fun s89 e90 Is89 Fs89 hrs89 hps89 => ?_))
                have Gs89 := fm_tq Gs58 Fs89 rfl rfl
                have b91 := bi_73 Is89
                refine z_if_eq X (t := 102) rfl rfl hrs89 (fun g92 => ?_) (fun g92 => ?_)
                ·
                  refine z_const X rfl (z_store X (lv' := [(4, .int (Int32.ofInt 0)), (0, .ref (A 179)), (1, .int (Int32.ofInt x)), (2, .int (Int32.ofInt y)), (3, .int (Int32.ofInt z))]) rfl (by decide) (fun _ h => h) (z_bipush X rfl (z_load_n X (x := x) rfl (List.Mem.tail _ (List.Mem.tail _ (List.Mem.head _))) (z_bipush X rfl (z_quot X rfl (by first | exact oq_77708b6d g5 hps3 | omega) ⟨by first | exact p0.1 | omega, by first | exact p0.2 | omega⟩ (by decide) (by decide) (z_mul X rfl (z_store X (lv' := [(5, .int (Int32.ofInt (64 * (x / 64)))), (4, .int (Int32.ofInt 0)), (0, .ref (A 179)), (1, .int (Int32.ofInt x)), (2, .int (Int32.ofInt y)), (3, .int (Int32.ofInt z))]) rfl (by decide) (fun _ h => h) (WS_pq [2, 3, 4, 5, 1, 0] (lv' := [(0, .ref (A 179)), (1, .int (Int32.ofInt x)), (2, .int (Int32.ofInt y)), (3, .int (Int32.ofInt z)), (4, .int (Int32.ofInt 0)), (5, .int (Int32.ofInt (64 * (x / 64))))]) rfl (L114 ((64 * (x / 64) + 64 - (64 * (x / 64)) : Int).toNat + 1) s89 x y z 0 (64 * (x / 64)) Is89 Gs89 (by first | (clear hps89 he88 g60 hps58 hps54 he53 hps50 g5 hps3; omega) | (clear he88 g60 hps58 hps54 he53 hps50 g5 hps3; omega) | omega) (Nat.lt_succ_self _) ?_)))))))))
                  intro s93 x94 x95 Is93 Fs93 hs93
                  have b96 := bi_73 Is93
                  refine z_load X (x := x94) rfl (List.Mem.tail _ (List.Mem.tail _ (List.Mem.tail _ (List.Mem.tail _ (List.Mem.head _))))) ?_
                  exact w_iret X.1 q hRt rfl (ax_d X (show cdA 235 216 = some (.ireturn, 1, 0, 0, 0) from rfl)) (Nat.zero_le _) (Nat.zero_le _) ⟨_, rfl, Is93, Fs93, x94, rfl, ⟨by first | exact oq_fa4e5087 hs93.2.2.2.1 | omega, by first | exact oq_850460f6 hs93.2.2.2.2.2.2 hs93.2.2.2.2.1 hs93.1.2 | omega⟩, trivial⟩
                ·
                  refine z_const X rfl ?_
                  exact w_iret X.1 q hRt rfl (ax_d X (show cdA 235 101 = some (.ireturn, 1, 0, 0, 0) from rfl)) (Nat.zero_le _) (Nat.zero_le _) ⟨_, rfl, Is89, Gs89, 0, rfl, (by decide), trivial⟩
              refine z_icmp_le X (t := 92) rfl rfl ⟨by first | exact oq_452e8fda | omega, by first | exact oq_267eaf70 | omega⟩ ⟨by first | exact oq_452e8fda | omega, by first | exact oq_267eaf70 | omega⟩ (fun g97 => ?_) (fun g97 => ?_)
              ·
                exact z_const X rfl (N87 _ (Or.inl ⟨g97, rfl⟩))
              ·
                exact z_const X rfl (z_goto X (t := 93) rfl rfl (N87 _ (Or.inr (⟨g97, rfl⟩))))
    refine z_if_ne X (t := 30) rfl rfl hrs50 (fun g98 => ?_) (fun g98 => ?_)
    ·
      exact z_const X rfl (N52 _ (Or.inl ⟨g98, rfl⟩))
    ·
      exact z_const X rfl (z_goto X (t := 31) rfl rfl (N52 _ (Or.inr (⟨g98, rfl⟩))))
end M39
