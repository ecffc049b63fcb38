theorem oq_8ac469bd {a0 a1 a2 a3 : Int} (h0 : a0 = a1) (h1 : a1 ≤ a2) (h2 : a2 < a3) (h3 : a3 ≤ 12) : a0 < 12 := by omega
theorem oq_b50d5e62 {a0 a1 : Int} (h0 : a0 = (a1 + 1)) (h1 : 0 ≤ a1) : 0 ≤ a0 := by omega
theorem oq_0b35aa92 {a0 : Int} (h0 : a0 = 0) : 0 ≤ a0 := by omega
theorem oq_0544552b {a0 a1 : Int} (h0 : a0 = 0) (h1 : a1 = 0) : a1 ≤ a0 := by omega
/-! The class: what the storm hits -/
/-- how many of the lowest n bits of b stand -/
def bcn (b : Int) : Nat → Int
  | 0 => 0
  | n + 1 => bcn b n + b / 2 ^ n % 2
def bcN (m : Nat) : Nat := 0 + m / 1 % 2 + m / 2 % 2 + m / 4 % 2 + m / 8 % 2 + m / 16 % 2 + m / 32 % 2 + m / 64 % 2 + m / 128 % 2 + m / 256 % 2 + m / 512 % 2 + m / 1024 % 2 + m / 2048 % 2
def bcM (m : Nat) : Nat → Nat
  | 0 => 0
  | n + 1 => bcM m n + m / 2 ^ n % 2
theorem cast_bit (m n : Nat) : ((m / 2 ^ n % 2 : Nat) : Int) = (m : Int) / 2 ^ n % 2 := by
  first | norm_cast | simp | (push_cast; rfl)
theorem bcn_M {m : Nat} : ∀ n : Nat, bcn (m : Int) n = (bcM m n : Int)
  | 0 => rfl
  | n + 1 => by
    show bcn (m : Int) n + (m : Int) / 2 ^ n % 2 = ((bcM m n + m / 2 ^ n % 2 : Nat) : Int)
    rw [bcn_M n, ← cast_bit]
    exact (Int.natCast_add _ _).symm
theorem bcn_12 {m : Nat} : bcn (m : Int) 12 = (bcN m : Int) := bcn_M 12
theorem add4_ {A B C D x z w : Nat} (h : A ≤ B + x) (g : C ≤ D + z) (k : x + z ≤ w) : A + C ≤ B + D + w := by omega
theorem bit_or_ (m y i : Nat) : Nat.lor m (2 ^ y) / 2 ^ i % 2 ≤ m / 2 ^ i % 2 + (if y = i then 1 else 0) := by
  have e : Nat.lor m (2 ^ y) = m ||| 2 ^ y := rfl
  rw [e, ← Nat.toNat_testBit, ← Nat.toNat_testBit m i, Nat.testBit_or, Nat.testBit_two_pow]
  by_cases c : y = i
  · rw [if_pos c, decide_eq_true c]
    cases m.testBit i <;> decide
  · rw [if_neg c, decide_eq_false c, Bool.or_false]
    exact Nat.le_refl _
theorem bcM_or_ (m y : Nat) : ∀ n : Nat, bcM (Nat.lor m (2 ^ y)) n ≤ bcM m n + (if y < n then 1 else 0)
  | 0 => Nat.zero_le _
  | n + 1 => add4_ (bcM_or_ m y n) (bit_or_ m y n) (by
    by_cases c : y = n
    · rw [if_pos c, if_neg (by omega), if_pos (by omega)]
      decide
    · rw [if_neg c]
      by_cases d : y < n
      · rw [if_pos d, if_pos (by omega)]
        decide
      · rw [if_neg d, if_neg (by omega)]
        decide)
theorem bcN_or {m y : Nat} (hm : m < 4096) (hy : y < 12) : bcN (Nat.lor m (2 ^ y)) ≤ bcN m + 1 ∧ Nat.lor m (2 ^ y) < 4096 := by
  have h := bcM_or_ m y 12
  rw [if_pos hy] at h
  have hm' : m < 2 ^ 12 := hm
  have r : m ||| 2 ^ y < 2 ^ 12 := Nat.or_lt_two_pow hm' (Nat.pow_lt_pow_right (by decide) hy)
  exact ⟨h, r⟩
theorem bcn_mono {b : Int} {n m : Nat} (h : n ≤ m) : bcn b n ≤ bcn b m := by
  induction m with
  | zero => rw [Nat.le_zero.mp h]; exact Int.le_refl _
  | succ m ih =>
    by_cases e : n = m + 1
    · rw [e]; exact Int.le_refl _
    · have := ih (by omega)
      have h2 : 0 ≤ b / 2 ^ m % 2 := Int.emod_nonneg _ (by decide)
      show bcn b n ≤ bcn b m + b / 2 ^ m % 2
      omega
theorem shl_v {y : Int} (h : 0 ≤ y ∧ y ≤ 11) : Int32.ofInt 1 <<< (Int32.ofInt y &&& 31) = Int32.ofInt ((2 ^ y.toNat : Nat) : Int) := by
  have : y = 0 ∨ y = 1 ∨ y = 2 ∨ y = 3 ∨ y = 4 ∨ y = 5 ∨ y = 6 ∨ y = 7 ∨ y = 8 ∨ y = 9 ∨ y = 10 ∨ y = 11 := by omega
  rcases this with e | e | e | e | e | e | e | e | e | e | e | e <;> subst e <;> decide +kernel
section ZI
variable {k : kx_T} {mn pc : Nat} {dT : Nat → ClassId} {lv : List (Nat × Value)} {st : List Value} {ws : va_W} {ce sl a b a' b' : Nat} {z z' : Int}
theorem z_shor (X : AX k mn dT) {x y : Int} (h : cdA mn pc = some (.ishl, 1, a, b, z)) (h' : cdA mn (pc + 1) = some (.ior, 1, a', b', z')) (hx : 0 ≤ x ∧ x ≤ 4095) (hy : 0 ≤ y ∧ y ≤ 11) (g : ∀ e : Int, 0 ≤ e → e ≤ 4095 → bcn e 12 ≤ bcn x 12 + 1 → WS k (pc + 1 + 1) lv (.int (Int32.ofInt e) :: st) ws ce sl) : WS k pc lv (.int (Int32.ofInt y) :: .int (Int32.ofInt 1) :: .int (Int32.ofInt x) :: st) ws ce sl := by
  refine z_bshl X h ?_
  rw [shl_v hy]
  refine z_bor X h' ?_
  have ex : x = ((x.toNat : Nat) : Int) := by omega
  obtain ⟨q1, q2⟩ := bcN_or (m := x.toNat) (y := y.toNat) (by omega) (by omega)
  have e0 : Int32.ofInt x ||| Int32.ofInt ((2 ^ y.toNat : Nat) : Int) = Int32.ofInt ((Nat.lor x.toNat (2 ^ y.toNat) : Nat) : Int) := by
    have hp : 2 ^ y.toNat ≤ 2 ^ 11 := Nat.pow_le_pow_right (by decide) (by omega)
    have h11 : 2 ^ 11 = 2048 := by decide
    rw [h11] at hp
    generalize 2 ^ y.toNat = p at hp q2
    rw [← z_or]
    have e1 : zN x = x.toNat := by unfold zN; omega
    have e2 : zN (p : Int) = p := by unfold zN; omega
    rw [e1, e2]
    unfold zOf
    rw [if_pos (Nat.ble_eq.mpr (by omega))]
  rw [e0]
  refine g _ (by omega) (by omega) ?_
  have e5 : bcn x 12 = (bcN x.toNat : Int) := (congrArg (fun q => bcn q 12) ex).trans bcn_12
  rw [bcn_12, e5]
  omega
end ZI
section M81
variable {l : Launch} {s0 : State} {D : va_G} {tys : List (ClassId × FieldType)} {a0 : Array Value} {A : Nat → Nat} {dT : Nat → ClassId} {s : PS}
set_option maxRecDepth 4000 in
theorem c8_findHits_67 (G : GX l s0 D tys a0 dT) (I : Bd s) {x : Int} (p0 : 0 ≤ x ∧ x ≤ 23) : CT l s0 D A dT 89 (rmN 89) [.ref (A 67), .int (Int32.ofInt x)] s (fun o t => Bd t ∧ Fm [39, 40, 41] [72] s t ∧ o = .inl none ∧ (bcn (iI t 40) 12 ≤ iI t 41)) := by
  refine ct_ofX G (by decide) (Nat.le_of_ble_eq_true rfl) (fun k X E ET hRt hXt q => ?_)
  show WS k 0 [(0, .ref (A 67)), (1, .int (Int32.ofInt x))] [] _ 0 0
  have F : Fm [39, 40, 41] [72] s s := fm_rf _ _ s
  have b1 := bi_9 I
  have b2 := bi_39 I
  have b3 := bi_40 I
  have b4 := bi_41 I
  have L17 : ∀ (n : Nat) (t : PS) (c : Int), Bd t → Fm [39, 40, 41] [72] s t → (0 ≤ c ∧ c ≤ 12 ∧ 0 ≤ iI t 41 ∧ iI t 41 ≤ c ∧ bcn (iI t 40) 12 ≤ iI t 41) → (12 - c : Int).toNat < n → (∀ (t' : PS) (c' : Int), Bd t' → Fm [39, 40, 41] [72] s t' → (0 ≤ c' ∧ c' ≤ 12 ∧ 0 ≤ iI t' 41 ∧ iI t' 41 ≤ c' ∧ bcn (iI t' 40) 12 ≤ iI t' 41) → WS k 136 [(0, .ref (A 67)), (2, .int (Int32.ofInt c'))] [] (Wd A dT t') 0 0) → WS k 17 [(0, .ref (A 67)), (2, .int (Int32.ofInt c))] [] (Wd A dT t) 0 0 := by
    intro n
    induction n with
    | zero =>
      intro t c I F hi hm kx
      exact absurd hm (Nat.not_lt_zero _)
    | succ n ih =>
      intro t c I F hi hm kx
      have b1001 := bi_9 I
      have b1002 := bi_39 I
      have b1003 := bi_40 I
      have b1004 := bi_41 I
      refine z_load_n X (x := c) rfl (List.Mem.tail _ (List.Mem.head _)) (z_aload_n X (x := A 67) rfl (List.Mem.head _) (s_getR X 67 rfl (c518_ok rfl) rfl rfl (z_getI X 3 rfl (c518_ok rfl) rfl rfl ?_)))
      have b1005 := bi_9 I
      refine z_icmp_ge X (t := 136) rfl rfl ⟨by first | exact oq_fa4e5087 hi.1 | omega, by first | exact oq_78843a64 hi.2.1 | omega⟩ (rng_to _) (fun g1006 => ?_) (fun g1006 => ?_)
      ·
        refine WS_pq [0, 1] (lv' := [(0, .ref (A 67)), (2, .int (Int32.ofInt c))]) rfl ?_
        exact kx _ c I F (by first | exact ⟨hi.1, hi.2.1, b1004.1, hi.2.2.2.1, hi.2.2.2.2⟩ | omega)
      ·
        refine z_aload_n X (x := A 67) rfl (List.Mem.head _) (s_getR X 67 rfl (c518_ok rfl) rfl rfl (s_getR X 3 rfl (c518_ok rfl) rfl rfl (z_load_n X (x := c) rfl (List.Mem.tail _ (List.Mem.head _)) (z_const X rfl (z_mul X rfl (z_lald X 6 rfl (c518_ok rfl) rfl (by first | exact oq_cfc6ac54 hi.1 | omega) (show (c * 2) < 24 by first | exact oq_e062d2c8 g1006 b1005.2 | omega) (cbig_ok rfl) (fun j1007 => ?_)))))))
        refine z_aload_n X (x := A 67) rfl (List.Mem.head _) (z_getJ X 67 rfl (by decide) rfl rfl (fun j1008 => ?_))
        refine w_land X.1 (ax_d X (show cdA 89 43 = some (.land, 1, 0, 0, 0) from rfl)) (z_anyJ (fun j1009 => ?_))
        refine z_aload_n X (x := A 67) rfl (List.Mem.head _) (s_getR X 67 rfl (c518_ok rfl) rfl rfl (s_getR X 3 rfl (c518_ok rfl) rfl rfl (z_load_n X (x := c) rfl (List.Mem.tail _ (List.Mem.head _)) (z_const X rfl (z_mul X rfl (z_const X rfl (z_add X rfl (z_lald X 6 rfl (c518_ok rfl) rfl (by first | exact oq_8a3e0277 hi.1 | omega) (show ((c * 2) + 1) < 24 by first | exact oq_0edc0603 g1006 b1005.2 | omega) (cbig_ok rfl) (fun j1010 => ?_)))))))))
        refine z_aload_n X (x := A 67) rfl (List.Mem.head _) (z_getJ X 67 rfl (by decide) rfl rfl (fun j1011 => ?_))
        refine w_land X.1 (ax_d X (show cdA 89 61 = some (.land, 1, 0, 0, 0) from rfl)) (z_anyJ (fun j1012 => ?_))
        refine w_lor X.1 (ax_d X (show cdA 89 62 = some (.lor, 1, 0, 0, 0) from rfl)) (z_anyJ (fun j1013 => ?_))
        refine w_lconst X.1 (ax_d X (show cdA 89 63 = some (.lconst 0, 1, 0, 0, 0) from rfl)) rfl (z_anyJ (fun j1014 => ?_))
        refine w_lcmp X.1 (ax_d X (show cdA 89 64 = some (.lcmp, 1, 0, 0, 0) from rfl)) (z_any (fun y1015 hy1015 => ?_))
        have N1016 : ∀ e1017 : Int, (((y1015 = 0) ∧ e1017 = 0) ∨ ((y1015 ≠ 0) ∧ e1017 = 1)) → WS k 73 [(0, .ref (A 67)), (2, .int (Int32.ofInt c))] [.int (Int32.ofInt e1017)] (Wd A dT t) 0 0 := by
          intro e1017 he1017
          have re1017 : 0 ≤ e1017 ∧ e1017 ≤ 1 := by first | (clear he1017; omega) | omega
          refine z_store_n X (lv' := [(3, .int (Int32.ofInt e1017)), (0, .ref (A 67)), (2, .int (Int32.ofInt c))]) rfl (by decide) (fun _ h => h) (z_load_n X (x := e1017) rfl (List.Mem.head _) (z_if_eq X (t := 130) rfl rfl ⟨by first | exact oq_fa4e5087 re1017.1 | omega, by first | exact oq_22e1e6b0 re1017.2 | omega⟩ (fun g1018 => ?_) (fun g1018 => ?_)))
          ·
            refine z_inc X (x := c) (lv' := [(2, .int (Int32.ofInt (c + 1))), (3, .int (Int32.ofInt e1017)), (0, .ref (A 67))]) rfl (by decide) (List.Mem.tail _ (List.Mem.tail _ (List.Mem.head _))) (fun _ h => h) (z_goto X (t := 17) rfl rfl (WS_pq [2, 0] (lv' := [(0, .ref (A 67)), (2, .int (Int32.ofInt (c + 1)))]) rfl ?_))
            exact ih _ (c + 1) I F (by first | exact ⟨oq_54f49eb5 hi.1, oq_4dae995e g1006 b1005.2, b1004.1, oq_03182e9e hi.2.2.2.1, hi.2.2.2.2⟩ | omega) (by first | exact qk_me hm (by decide) (oq_b575e8c1 g1006 b1005.2) | omega) kx
          ·
            refine z_aload_n X (x := A 67) rfl (List.Mem.tail _ (List.Mem.head _)) (s_getR X 67 rfl (c518_ok rfl) rfl rfl (s_getR X 3 rfl (c518_ok rfl) rfl rfl (z_aload_n X (x := A 67) rfl (List.Mem.tail _ (List.Mem.head _)) (z_getI X 67 rfl (c518_ok rfl) rfl rfl ?_))))
            have b1019 := bi_39 I
            refine z_bipush X rfl (z_mul X rfl (z_load_n X (x := c) rfl (List.Mem.tail _ (List.Mem.tail _ (List.Mem.head _))) (z_add X rfl (z_ald X 14 rfl (c518_ok rfl) rfl (by first | exact oq_0f03f1de b1019.1 hi.1 | omega) (show (((iI t 39) * 12) + c) < 288 by first | exact oq_45988efc b1019.2 g1006 b1005.2 | omega) (cbig_ok rfl) ?_))))
            have b1020 := bc_11 I (show ((((iI t 39) * 12) + c)).toNat < 288 by first | exact oq_8395bb7c b1019.2 g1006 b1005.2 | omega)
            refine z_if_le X (t := 130) rfl rfl (rng_to _) (fun g1021 => ?_) (fun g1021 => ?_)
            ·
              refine z_inc X (x := c) (lv' := [(2, .int (Int32.ofInt (c + 1))), (3, .int (Int32.ofInt e1017)), (0, .ref (A 67))]) rfl (by decide) (List.Mem.tail _ (List.Mem.tail _ (List.Mem.head _))) (fun _ h => h) (z_goto X (t := 17) rfl rfl (WS_pq [2, 0] (lv' := [(0, .ref (A 67)), (2, .int (Int32.ofInt (c + 1)))]) rfl ?_))
              exact ih _ (c + 1) I F (by first | exact ⟨oq_54f49eb5 hi.1, oq_4dae995e g1006 b1005.2, b1004.1, oq_03182e9e hi.2.2.2.1, hi.2.2.2.2⟩ | omega) (by first | exact qk_me hm (by decide) (oq_b575e8c1 g1006 b1005.2) | omega) kx
            ·
              refine z_aload_n X (x := A 67) rfl (List.Mem.tail _ (List.Mem.head _)) (w_dup X.1 (ax_d X (show cdA 89 99 = some (.dup, 1, 0, 0, 0) from rfl)) rfl (z_getI X 67 rfl (c518_ok rfl) rfl rfl ?_))
              have b1022 := bi_40 I
              refine z_const X rfl (z_load_n X (x := c) rfl (List.Mem.tail _ (List.Mem.tail _ (List.Mem.head _))) (z_shor X rfl rfl (show 0 ≤ (iI t 40) ∧ (iI t 40) ≤ 4095 by first | (clear g1018 he1017; omega) | (clear he1017; omega) | omega) (show 0 ≤ c ∧ c ≤ 11 by first | (clear g1018 he1017; omega) | (clear he1017; omega) | omega) (fun e1023 he1023 ie1023 je1023 => ?_)))
              show WS k 107 [(3, .int (Int32.ofInt e1017)), (0, .ref (A 67)), (2, .int (Int32.ofInt c))] [.int (Int32.ofInt e1023), .ref (A 67)] (Wd A dT t) 0 0
              refine s_putI X 67 rfl (c518_ok rfl) rfl rfl (by decide) rfl rfl rfl (wd_gen (fun s1024 hs1024 => ?_))
              have Is1024 : Bd s1024 := eqB hs1024 (bd_I I (show (0 : Int) ≤ e1023 ∧ e1023 ≤ 4095 by first | (clear g1018 he1017; omega) | (clear he1017; omega) | omega) ⟨by first | (clear g1018 he1017; omega) | (clear he1017; omega) | omega, by first | (clear g1018 he1017; omega) | (clear he1017; omega) | omega⟩)
              have Fs1024 := eqF hs1024 (fm_I F (inl_ok (a := 40) rfl))
              have vs1024 : iI s1024 40 = e1023 := eqI hs1024 (iI_u ⟨by first | (clear g1018 he1017; omega) | (clear he1017; omega) | omega, by first | (clear g1018 he1017; omega) | (clear he1017; omega) | omega⟩)
              have ws1024_9 : iI s1024 9 = iI t 9 := eqI hs1024 rfl
              have ws1024_39 : iI s1024 39 = iI t 39 := eqI hs1024 rfl
              have ws1024_41 : iI s1024 41 = iI t 41 := eqI hs1024 rfl
              refine z_aload_n X (x := A 67) rfl (List.Mem.tail _ (List.Mem.head _)) (s_getR X 67 rfl (c518_ok rfl) rfl rfl (z_aload_n X (x := A 67) rfl (List.Mem.tail _ (List.Mem.head _)) (z_getI X 67 rfl (c518_ok rfl) rfl rfl ?_)))
              have b1025 := bi_41 Is1024
              refine z_load_n X (x := c) rfl (List.Mem.tail _ (List.Mem.tail _ (List.Mem.head _))) (z_ast X 85 rfl (c518_ok rfl) rfl (by first | exact b1025.1 | omega) (show (iI s1024 41) < 12 by first | exact oq_8ac469bd ws1024_41 hi.2.2.2.1 g1006 b1005.2 | omega) (cbig_ok rfl) (wd_gen (fun s1026 hs1026 => ?_)))
              have Is1026 : Bd s1026 := eqB hs1026 (bd_C Is1024 (show (0 : Int) ≤ c ∧ c ≤ 11 by first | exact ⟨hi.1, oq_e4d7f3c5 g1006 b1005.2⟩ | omega) ⟨by first | exact oq_fa4e5087 hi.1 | omega, by first | exact oq_78843a64 hi.2.1 | omega⟩)
              have Fs1026 := eqF hs1026 (fm_C Fs1024 (inl_ok (a := 72) rfl))
              have ws1026_9 : iI s1026 9 = iI s1024 9 := eqI hs1026 rfl
              have ws1026_39 : iI s1026 39 = iI s1024 39 := eqI hs1026 rfl
              have ws1026_40 : iI s1026 40 = iI s1024 40 := eqI hs1026 rfl
              have ws1026_41 : iI s1026 41 = iI s1024 41 := eqI hs1026 rfl
              refine z_aload_n X (x := A 67) rfl (List.Mem.tail _ (List.Mem.head _)) (w_dup X.1 (ax_d X (show cdA 89 121 = some (.dup, 1, 0, 0, 0) from rfl)) rfl (z_getI X 67 rfl (c518_ok rfl) rfl rfl ?_))
              have b1027 := bi_41 Is1026
              refine z_const X rfl (z_add X rfl (s_putI X 67 rfl (c518_ok rfl) rfl rfl (by decide) rfl rfl rfl (wd_gen (fun s1028 hs1028 => ?_))))
              have Is1028 : Bd s1028 := eqB hs1028 (bd_I Is1026 (show (0 : Int) ≤ ((iI s1026 41) + 1) ∧ ((iI s1026 41) + 1) ≤ 12 by first | exact ⟨oq_54f49eb5 b1027.1, oq_1fea0193 ws1026_41 ws1024_41 hi.2.2.2.1 g1006 b1005.2⟩ | omega) ⟨by first | exact oq_74de1e16 b1027.1 | omega, by first | exact oq_76a8a5b7 b1027.2 | omega⟩)
              have Fs1028 := eqF hs1028 (fm_I Fs1026 (inl_ok (a := 41) rfl))
              have vs1028 : iI s1028 41 = ((iI s1026 41) + 1) := eqI hs1028 (iI_u ⟨by first | exact oq_74de1e16 b1027.1 | omega, by first | exact oq_76a8a5b7 b1027.2 | omega⟩)
              have ws1028_9 : iI s1028 9 = iI s1026 9 := eqI hs1028 rfl
              have ws1028_39 : iI s1028 39 = iI s1026 39 := eqI hs1028 rfl
              have ws1028_40 : iI s1028 40 = iI s1026 40 := eqI hs1028 rfl
              have bz1029 : bcn (iI s1028 40) 12 = bcn (e1023) 12 := by rw [show iI s1028 40 = e1023 by first | (clear g1018 he1017; omega) | (clear he1017; omega) | omega]
              refine z_inc X (x := c) (lv' := [(2, .int (Int32.ofInt (c + 1))), (3, .int (Int32.ofInt e1017)), (0, .ref (A 67))]) rfl (by decide) (List.Mem.tail _ (List.Mem.tail _ (List.Mem.head _))) (fun _ h => h) (z_goto X (t := 17) rfl rfl (WS_pq [2, 0] (lv' := [(0, .ref (A 67)), (2, .int (Int32.ofInt (c + 1)))]) rfl ?_))
              exact ih _ (c + 1) Is1028 Fs1028 (by first | exact ⟨oq_54f49eb5 hi.1, oq_4dae995e g1006 b1005.2, oq_b50d5e62 vs1028 b1027.1, oq_ecb13324 vs1028 hi.2.2.2.1 ws1026_41 ws1024_41, by first | (clear g1018 he1017; omega) | (clear he1017; omega) | omega⟩ | omega) (by first | exact qk_me hm (by decide) (oq_b575e8c1 g1006 b1005.2) | omega) kx
        refine z_if_eq X (t := 72) rfl rfl hy1015 (fun g1030 => ?_) (fun g1030 => ?_)
        ·
          exact z_const X rfl (N1016 _ (Or.inl ⟨g1030, rfl⟩))
        ·
          exact z_const X rfl (z_goto X (t := 73) rfl rfl (N1016 _ (Or.inr (⟨g1030, rfl⟩))))
  refine z_aload_n X (x := A 67) rfl (List.Mem.head _) (z_load_n X (x := x) rfl (List.Mem.tail _ (List.Mem.head _)) (s_putI X 67 rfl (c518_ok rfl) rfl rfl (by decide) rfl rfl rfl (wd_gen (fun s5 hs5 => ?_))))
  have Is5 : Bd s5 := eqB hs5 (bd_I I (show (0 : Int) ≤ x ∧ x ≤ 23 by first | exact ⟨p0.1, p0.2⟩ | omega) ⟨by first | exact oq_fa4e5087 p0.1 | omega, by first | exact oq_1a42ef34 p0.2 | omega⟩)
  have Fs5 := eqF hs5 (fm_I F (inl_ok (a := 39) rfl))
  have vs5 : iI s5 39 = x := eqI hs5 (iI_u ⟨by first | exact oq_fa4e5087 p0.1 | omega, by first | exact oq_1a42ef34 p0.2 | omega⟩)
  have ws5_9 : iI s5 9 = iI s 9 := eqI hs5 rfl
  have ws5_40 : iI s5 40 = iI s 40 := eqI hs5 rfl
  have ws5_41 : iI s5 41 = iI s 41 := eqI hs5 rfl
  refine z_aload_n X (x := A 67) rfl (List.Mem.head _) (z_const X rfl (s_putI X 67 rfl (c518_ok rfl) rfl rfl (by decide) rfl rfl rfl (wd_gen (fun s6 hs6 => ?_))))
  have Is6 : Bd s6 := eqB hs6 (bd_I Is5 (show (0 : Int) ≤ 0 ∧ 0 ≤ 4095 by first | exact ⟨by decide, by decide⟩ | omega) (by decide))
  have Fs6 := eqF hs6 (fm_I Fs5 (inl_ok (a := 40) rfl))
  have vs6 : iI s6 40 = 0 := eqI hs6 (iI_u (by decide))
  have ws6_9 : iI s6 9 = iI s5 9 := eqI hs6 rfl
  have ws6_39 : iI s6 39 = iI s5 39 := eqI hs6 rfl
  have ws6_41 : iI s6 41 = iI s5 41 := eqI hs6 rfl
  refine z_aload_n X (x := A 67) rfl (List.Mem.head _) (z_const X rfl (s_putI X 67 rfl (c518_ok rfl) rfl rfl (by decide) rfl rfl rfl (wd_gen (fun s7 hs7 => ?_))))
  have Is7 : Bd s7 := eqB hs7 (bd_I Is6 (show (0 : Int) ≤ 0 ∧ 0 ≤ 12 by first | exact ⟨by decide, by decide⟩ | omega) (by decide))
  have Fs7 := eqF hs7 (fm_I Fs6 (inl_ok (a := 41) rfl))
  have vs7 : iI s7 41 = 0 := eqI hs7 (iI_u (by decide))
  have ws7_9 : iI s7 9 = iI s6 9 := eqI hs7 rfl
  have ws7_39 : iI s7 39 = iI s6 39 := eqI hs7 rfl
  have ws7_40 : iI s7 40 = iI s6 40 := eqI hs7 rfl
  have bz8 : bcn (iI s7 40) 12 = 0 := by rw [show iI s7 40 = 0 by omega]; decide
  refine z_const X rfl (z_store_n X (lv' := [(2, .int (Int32.ofInt 0)), (0, .ref (A 67)), (1, .int (Int32.ofInt x))]) rfl (by decide) (fun _ h => h) (WS_pq [1, 0] (lv' := [(0, .ref (A 67)), (2, .int (Int32.ofInt 0))]) rfl (L17 ((12 - 0 : Int).toNat + 1) s7 0 Is7 Fs7 (by first | exact ⟨by decide, by decide, oq_0b35aa92 vs7, oq_1af0b4f8 vs7, oq_0544552b vs7 bz8⟩ | omega) (Nat.lt_succ_self _) ?_)))
  intro s9 x10 Is9 Fs9 hs9
  have b11 := bi_9 Is9
  have b12 := bi_39 Is9
  have b13 := bi_40 Is9
  have b14 := bi_41 Is9
  exact w_vret X.1 q hRt (ax_d X (show cdA 89 136 = some (.return_, 1, 0, 0, 0) from rfl)) (Nat.zero_le _) (Nat.zero_le _) ⟨_, rfl, Is9, Fs9, rfl, by first | exact hs9.2.2.2.2 | omega⟩
end M81
