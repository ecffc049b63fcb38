/-! The class: what the storm hits -/
/-- how many of the lowest n bits of b stand -/
def bcn (b : Int) : Nat → Int
  | 0 => 0
  | n + 1 => bcn b n + b / 2 ^ n % 2
def bcN (m : Nat) : Nat := 0 + m / 1 % 2 + m / 2 % 2 + m / 4 % 2 + m / 8 % 2 + m / 16 % 2 + m / 32 % 2 + m / 64 % 2 + m / 128 % 2 + m / 256 % 2 + m / 512 % 2 + m / 1024 % 2 + m / 2048 % 2
def bcM (m : Nat) : Nat → Nat
  | 0 => 0
  | n + 1 => bcM m n + m / 2 ^ n % 2
theorem cast_bit (m n : Nat) : ((m / 2 ^ n % 2 : Nat) : Int) = (m : Int) / 2 ^ n % 2 := by
  first | norm_cast | simp | (push_cast; rfl)
theorem bcn_M {m : Nat} : ∀ n : Nat, bcn (m : Int) n = (bcM m n : Int)
  | 0 => rfl
  | n + 1 => by
    show bcn (m : Int) n + (m : Int) / 2 ^ n % 2 = ((bcM m n + m / 2 ^ n % 2 : Nat) : Int)
    rw [bcn_M n, ← cast_bit]
    exact (Int.natCast_add _ _).symm
theorem bcn_12 {m : Nat} : bcn (m : Int) 12 = (bcN m : Int) := bcn_M 12
theorem add4_ {A B C D x z w : Nat} (h : A ≤ B + x) (g : C ≤ D + z) (k : x + z ≤ w) : A + C ≤ B + D + w := by omega
theorem bit_or_ (m y i : Nat) : Nat.lor m (2 ^ y) / 2 ^ i % 2 ≤ m / 2 ^ i % 2 + (if y = i then 1 else 0) := by
  have e : Nat.lor m (2 ^ y) = m ||| 2 ^ y := rfl
  rw [e, ← Nat.toNat_testBit, ← Nat.toNat_testBit m i, Nat.testBit_or, Nat.testBit_two_pow]
  by_cases c : y = i
  · rw [if_pos c, decide_eq_true c]
    cases m.testBit i <;> decide
  · rw [if_neg c, decide_eq_false c, Bool.or_false]
    exact Nat.le_refl _
theorem bcM_or_ (m y : Nat) : ∀ n : Nat, bcM (Nat.lor m (2 ^ y)) n ≤ bcM m n + (if y < n then 1 else 0)
  | 0 => Nat.zero_le _
  | n + 1 => add4_ (bcM_or_ m y n) (bit_or_ m y n) (by
    by_cases c : y = n
    · rw [if_pos c, if_neg (by omega), if_pos (by omega)]
      decide
    · rw [if_neg c]
      by_cases d : y < n
      · rw [if_pos d, if_pos (by omega)]
        decide
      · rw [if_neg d, if_neg (by omega)]
        decide)
theorem bcN_or {m y : Nat} (hm : m < 4096) (hy : y < 12) : bcN (Nat.lor m (2 ^ y)) ≤ bcN m + 1 ∧ Nat.lor m (2 ^ y) < 4096 := by
  have h := bcM_or_ m y 12
  rw [if_pos hy] at h
  have hm' : m < 2 ^ 12 := hm
  have r : m ||| 2 ^ y < 2 ^ 12 := Nat.or_lt_two_pow hm' (Nat.pow_lt_pow_right (by decide) hy)
  exact ⟨h, r⟩
theorem bcn_mono {b : Int} {n m : Nat} (h : n ≤ m) : bcn b n ≤ bcn b m := by
  induction m with
  | zero => rw [Nat.le_zero.mp h]; exact Int.le_refl _
  | succ m ih =>
    by_cases e : n = m + 1
    · rw [e]; exact Int.le_refl _
    · have := ih (by omega)
      have h2 : 0 ≤ b / 2 ^ m % 2 := Int.emod_nonneg _ (by decide)
      show bcn b n ≤ bcn b m + b / 2 ^ m % 2
      omega
theorem shl_v {y : Int} (h : 0 ≤ y ∧ y ≤ 11) : Int32.ofInt 1 <<< (Int32.ofInt y &&& 31) = Int32.ofInt ((2 ^ y.toNat : Nat) : Int) := by
  have : y = 0 ∨ y = 1 ∨ y = 2 ∨ y = 3 ∨ y = 4 ∨ y = 5 ∨ y = 6 ∨ y = 7 ∨ y = 8 ∨ y = 9 ∨ y = 10 ∨ y = 11 := by omega
  rcases this with e | e | e | e | e | e | e | e | e | e | e | e <;> subst e <;> decide +kernel
section ZI
variable {k : kx_T} {mn pc : Nat} {dT : Nat → ClassId} {lv : List (Nat × Value)} {st : List Value} {ws : va_W} {ce sl a b a' b' : Nat} {z z' : Int}
theorem z_shor (X : AX k mn dT) {x y : Int} (h : cdA mn pc = some (.ishl, 1, a, b, z)) (h' : cdA mn (pc + 1) = some (.ior, 1, a', b', z')) (hx : 0 ≤ x ∧ x ≤ 4095) (hy : 0 ≤ y ∧ y ≤ 11) (g : ∀ e : Int, 0 ≤ e → e ≤ 4095 → bcn e 12 ≤ bcn x 12 + 1 → WS k (pc + 1 + 1) lv (.int (Int32.ofInt e) :: st) ws ce sl) : WS k pc lv (.int (Int32.ofInt y) :: .int (Int32.ofInt 1) :: .int (Int32.ofInt x) :: st) ws ce sl := by
  refine z_bshl X h ?_
  rw [shl_v hy]
  refine z_bor X h' ?_
  have ex : x = ((x.toNat : Nat) : Int) := by omega
  obtain ⟨q1, q2⟩ := bcN_or (m := x.toNat) (y := y.toNat) (by omega) (by omega)
  have e0 : Int32.ofInt x ||| Int32.ofInt ((2 ^ y.toNat : Nat) : Int) = Int32.ofInt ((Nat.lor x.toNat (2 ^ y.toNat) : Nat) : Int) := by
    have hp : 2 ^ y.toNat ≤ 2 ^ 11 := Nat.pow_le_pow_right (by decide) (by omega)
    have h11 : 2 ^ 11 = 2048 := by decide
    rw [h11] at hp
    generalize 2 ^ y.toNat = p at hp q2
    rw [← z_or]
    have e1 : zN x = x.toNat := by unfold zN; omega
    have e2 : zN (p : Int) = p := by unfold zN; omega
    rw [e1, e2]
    unfold zOf
    rw [if_pos (Nat.ble_eq.mpr (by omega))]
  rw [e0]
  refine g _ (by omega) (by omega) ?_
  have e5 : bcn x 12 = (bcN x.toNat : Int) := (congrArg (fun q => bcn q 12) ex).trans bcn_12
  rw [bcn_12, e5]
  omega
end ZI
section M81
variable {l : Launch} {s0 : State} {D : va_G} {tys : List (ClassId × FieldType)} {a0 : Array Value} {A : Nat → Nat} {dT : Nat → ClassId} {s : PS}
set_option maxRecDepth 4000 in
theorem c8_findHits_67 (G : GX l s0 D tys a0 dT) (I : Bd s) {x : Int} (p0 : 0 ≤ x ∧ x ≤ 23) : CT l s0 D A dT 89 (rmN 89) [.ref (A 67), .int (Int32.ofInt x)] s (fun o t => Bd t ∧ Fm [39, 40, 41] [72] s t ∧ o = .inl none ∧ (bcn (iI t 40) 12 ≤ iI t 41)) := by
  refine ct_ofX G (by decide) (Nat.le_of_ble_eq_true rfl) (fun k X E ET hRt hXt q => ?_)
  show WS k 0 [(0, .ref (A 67)), (1, .int (Int32.ofInt x))] [] _ 0 0
  have F : Fm [39, 40, 41] [72] s s := fm_rf _ _ s
  have b1 : (0 : Int) ≤ iI s 9 ∧ iI s 9 ≤ 12 := I.1 9
  have b2 : (0 : Int) ≤ iI s 39 ∧ iI s 39 ≤ 23 := I.1 39
  have b3 : (0 : Int) ≤ iI s 40 ∧ iI s 40 ≤ 4095 := I.1 40
  have b4 : (0 : Int) ≤ iI s 41 ∧ iI s 41 ≤ 12 := I.1 41
  have L17 : ∀ (n : Nat) (t : PS) (c : Int), Bd t → Fm [39, 40, 41] [72] s t → (0 ≤ c ∧ c ≤ 12 ∧ 0 ≤ iI t 41 ∧ iI t 41 ≤ c ∧ bcn (iI t 40) 12 ≤ iI t 41) → (12 - c : Int).toNat < n → (∀ (t' : PS) (c' : Int), Bd t' → Fm [39, 40, 41] [72] s t' → (0 ≤ c' ∧ c' ≤ 12 ∧ 0 ≤ iI t' 41 ∧ iI t' 41 ≤ c' ∧ bcn (iI t' 40) 12 ≤ iI t' 41) → WS k 136 [(0, .ref (A 67)), (2, .int (Int32.ofInt c'))] [] (Wd A dT t') 0 0) → WS k 17 [(0, .ref (A 67)), (2, .int (Int32.ofInt c))] [] (Wd A dT t) 0 0 := by
    intro n
    induction n with
    | zero =>
      intro t c I F hi hm kx
      exact absurd hm (Nat.not_lt_zero _)
    | succ n ih =>
      intro t c I F hi hm kx
      have b1001 : (0 : Int) ≤ iI t 9 ∧ iI t 9 ≤ 12 := I.1 9
      have b1002 : (0 : Int) ≤ iI t 39 ∧ iI t 39 ≤ 23 := I.1 39
      have b1003 : (0 : Int) ≤ iI t 40 ∧ iI t 40 ≤ 4095 := I.1 40
      have b1004 : (0 : Int) ≤ iI t 41 ∧ iI t 41 ≤ 12 := I.1 41
      refine z_load_n X (x := c) (show cdA 89 17 = some (.iload_n 2, 1, 0, 0, 0) from rfl) (List.Mem.tail _ (List.Mem.head _)) ?_
      refine z_aload_n X (x := A 67) (show cdA 89 18 = some (.aload_n 0, 1, 0, 0, 0) from rfl) (List.Mem.head _) ?_
      refine s_getR X 67 (show cdA 89 19 = some (.getfield 49, 3, 8, 0, 0) from rfl) (by decide) rfl rfl ?_
      refine z_getI X 3 (show cdA 89 22 = some (.getfield 80, 3, 9, 0, 0) from rfl) (by decide) rfl rfl ?_
      have b1005 : (0 : Int) ≤ iI t 9 ∧ iI t 9 ≤ 12 := I.1 9
      refine z_icmp_ge X (t := 136) (show cdA 89 25 = some (.if_icmp .ge 111, 3, 3, 0, 0) from rfl) (by decide) ⟨by first | exact oq_fa4e5087 hi.1 | omega, by first | exact oq_78843a64 hi.2.1 | omega⟩ (rng_to _) (fun g1006 => ?_) (fun g1006 => ?_)
      ·
        refine WS_lv (lv := [(0, .ref (A 67)), (2, .int (Int32.ofInt c))]) (List.forall_mem_cons.mpr ⟨(List.Mem.head _), (List.forall_mem_cons.mpr ⟨(List.Mem.tail _ (List.Mem.head _)), (fun q h => absurd h List.not_mem_nil)⟩)⟩) ?_
        exact kx _ c I F (by first | exact ⟨hi.1, hi.2.1, b1004.1, hi.2.2.2.1, hi.2.2.2.2⟩ | omega)
      ·
        refine z_aload_n X (x := A 67) (show cdA 89 28 = some (.aload_n 0, 1, 0, 0, 0) from rfl) (List.Mem.head _) ?_
        refine s_getR X 67 (show cdA 89 29 = some (.getfield 49, 3, 8, 0, 0) from rfl) (by decide) rfl rfl ?_
        refine s_getR X 3 (show cdA 89 32 = some (.getfield 83, 3, 9, 3, 0) from rfl) (by decide) rfl rfl ?_
        refine z_load_n X (x := c) (show cdA 89 35 = some (.iload_n 2, 1, 0, 0, 0) from rfl) (List.Mem.tail _ (List.Mem.head _)) ?_
        refine z_const X (show cdA 89 36 = some (.iconst 2, 1, 0, 0, 0) from rfl) ?_
        refine z_mul X (show cdA 89 37 = some (.imul, 1, 0, 0, 0) from rfl) ?_
        refine z_lald X 6 (show cdA 89 38 = some (.laload, 1, 0, 0, 0) from rfl) (by decide) rfl (by first | exact oq_cfc6ac54 hi.1 | omega) (show (c * 2) < 24 by first | exact oq_e062d2c8 g1006 b1005.2 | omega) (by decide) (fun j1007 => ?_)
        refine z_aload_n X (x := A 67) (show cdA 89 39 = some (.aload_n 0, 1, 0, 0, 0) from rfl) (List.Mem.head _) ?_
        refine z_getJ X 67 (show cdA 89 40 = some (.getfield 63, 3, 8, 4, 0) from rfl) (by decide) rfl rfl (fun j1008 => ?_)
        refine w_land X.1 (ax_d X (show cdA 89 43 = some (.land, 1, 0, 0, 0) from rfl)) ?_
        refine z_anyJ (fun j1009 => ?_)
        refine z_aload_n X (x := A 67) (show cdA 89 44 = some (.aload_n 0, 1, 0, 0, 0) from rfl) (List.Mem.head _) ?_
        refine s_getR X 67 (show cdA 89 45 = some (.getfield 49, 3, 8, 0, 0) from rfl) (by decide) rfl rfl ?_
        refine s_getR X 3 (show cdA 89 48 = some (.getfield 83, 3, 9, 3, 0) from rfl) (by decide) rfl rfl ?_
        refine z_load_n X (x := c) (show cdA 89 51 = some (.iload_n 2, 1, 0, 0, 0) from rfl) (List.Mem.tail _ (List.Mem.head _)) ?_
        refine z_const X (show cdA 89 52 = some (.iconst 2, 1, 0, 0, 0) from rfl) ?_
        refine z_mul X (show cdA 89 53 = some (.imul, 1, 0, 0, 0) from rfl) ?_
        refine z_const X (show cdA 89 54 = some (.iconst 1, 1, 0, 0, 0) from rfl) ?_
        refine z_add X (show cdA 89 55 = some (.iadd, 1, 0, 0, 0) from rfl) ?_
        refine z_lald X 6 (show cdA 89 56 = some (.laload, 1, 0, 0, 0) from rfl) (by decide) rfl (by first | exact oq_8a3e0277 hi.1 | omega) (show ((c * 2) + 1) < 24 by first | exact oq_0edc0603 g1006 b1005.2 | omega) (by decide) (fun j1010 => ?_)
        refine z_aload_n X (x := A 67) (show cdA 89 57 = some (.aload_n 0, 1, 0, 0, 0) from rfl) (List.Mem.head _) ?_
        refine z_getJ X 67 (show cdA 89 58 = some (.getfield 67, 3, 8, 5, 0) from rfl) (by decide) rfl rfl (fun j1011 => ?_)
        refine w_land X.1 (ax_d X (show cdA 89 61 = some (.land, 1, 0, 0, 0) from rfl)) ?_
        refine z_anyJ (fun j1012 => ?_)
        refine w_lor X.1 (ax_d X (show cdA 89 62 = some (.lor, 1, 0, 0, 0) from rfl)) ?_
        refine z_anyJ (fun j1013 => ?_)
        refine w_lconst X.1 (ax_d X (show cdA 89 63 = some (.lconst 0, 1, 0, 0, 0) from rfl)) rfl ?_
        refine z_anyJ (fun j1014 => ?_)
        refine w_lcmp X.1 (ax_d X (show cdA 89 64 = some (.lcmp, 1, 0, 0, 0) from rfl)) ?_
        refine z_any (fun y1015 hy1015 => ?_)
        have N1016 : ∀ e1017 : Int, (((y1015 = 0) ∧ e1017 = 0) ∨ ((y1015 ≠ 0) ∧ e1017 = 1)) → WS k 73 [(0, .ref (A 67)), (2, .int (Int32.ofInt c))] [.int (Int32.ofInt e1017)] (Wd A dT t) 0 0 := by
          intro e1017 he1017
          have re1017 : 0 ≤ e1017 ∧ e1017 ≤ 1 := by omega
          refine z_store_n X (lv' := [(3, .int (Int32.ofInt e1017)), (0, .ref (A 67)), (2, .int (Int32.ofInt c))]) (show cdA 89 73 = some (.istore_n 3, 1, 0, 0, 0) from rfl) (by decide) (fun _ h => h) ?_
          refine z_load_n X (x := e1017) (show cdA 89 74 = some (.iload_n 3, 1, 0, 0, 0) from rfl) (List.Mem.head _) ?_
          refine z_if_eq X (t := 130) (show cdA 89 75 = some (.ifCond .eq 55, 3, 0, 0, 0) from rfl) (by decide) ⟨by first | exact oq_fa4e5087 re1017.1 | omega, by first | exact oq_22e1e6b0 re1017.2 | omega⟩ (fun g1018 => ?_) (fun g1018 => ?_)
          ·
            refine z_inc X (x := c) (lv' := [(2, .int (Int32.ofInt (c + 1))), (3, .int (Int32.ofInt e1017)), (0, .ref (A 67))]) (show cdA 89 130 = some (.iinc 2 1, 3, 0, 0, 0) from rfl) (by decide) (List.Mem.tail _ (List.Mem.tail _ (List.Mem.head _))) (fun _ h => h) ?_
            refine z_goto X (t := 17) (show cdA 89 133 = some (.goto (-116), 3, 0, 0, 0) from rfl) (by decide) ?_
            refine WS_lv (lv := [(0, .ref (A 67)), (2, .int (Int32.ofInt (c + 1)))]) (List.forall_mem_cons.mpr ⟨(List.Mem.tail _ (List.Mem.tail _ (List.Mem.head _))), (List.forall_mem_cons.mpr ⟨(List.Mem.head _), (fun q h => absurd h List.not_mem_nil)⟩)⟩) ?_
            exact ih _ (c + 1) I F (by first | exact ⟨oq_54f49eb5 hi.1, oq_4dae995e g1006 b1005.2, b1004.1, oq_03182e9e hi.2.2.2.1, hi.2.2.2.2⟩ | omega) (by first | exact qk_me hm (by decide) (oq_b575e8c1 g1006 b1005.2) | omega) kx
          ·
            refine z_aload_n X (x := A 67) (show cdA 89 78 = some (.aload_n 0, 1, 0, 0, 0) from rfl) (List.Mem.tail _ (List.Mem.head _)) ?_
            refine s_getR X 67 (show cdA 89 79 = some (.getfield 49, 3, 8, 0, 0) from rfl) (by decide) rfl rfl ?_
            refine s_getR X 3 (show cdA 89 82 = some (.getfield 87, 3, 9, 12, 0) from rfl) (by decide) rfl rfl ?_
            refine z_aload_n X (x := A 67) (show cdA 89 85 = some (.aload_n 0, 1, 0, 0, 0) from rfl) (List.Mem.tail _ (List.Mem.head _)) ?_
            refine z_getI X 67 (show cdA 89 86 = some (.getfield 70, 3, 8, 6, 0) from rfl) (by decide) rfl rfl ?_
            have b1019 : (0 : Int) ≤ iI t 39 ∧ iI t 39 ≤ 23 := I.1 39
            refine z_bipush X (show cdA 89 89 = some (.bipush 12, 2, 0, 0, 12) from rfl) ?_
            refine z_mul X (show cdA 89 91 = some (.imul, 1, 0, 0, 0) from rfl) ?_
            refine z_load_n X (x := c) (show cdA 89 92 = some (.iload_n 2, 1, 0, 0, 0) from rfl) (List.Mem.tail _ (List.Mem.tail _ (List.Mem.head _))) ?_
            refine z_add X (show cdA 89 93 = some (.iadd, 1, 0, 0, 0) from rfl) ?_
            refine z_ald X 14 (show cdA 89 94 = some (.iaload, 1, 0, 0, 0) from rfl) (by decide) rfl (by first | exact oq_0f03f1de b1019.1 hi.1 | omega) (show (((iI t 39) * 12) + c) < 288 by first | exact oq_45988efc b1019.2 g1006 b1005.2 | omega) (by decide) ?_
            have b1020 : (0 : Int) ≤ iC t 11 ((((iI t 39) * 12) + c)).toNat ∧ iC t 11 ((((iI t 39) * 12) + c)).toNat ≤ 50 := I.2 11 _ (show ((((iI t 39) * 12) + c)).toNat < 288 by first | exact oq_8395bb7c b1019.2 g1006 b1005.2 | omega)
            refine z_if_le X (t := 130) (show cdA 89 95 = some (.ifCond .le 35, 3, 5, 0, 0) from rfl) (by decide) (rng_to _) (fun g1021 => ?_) (fun g1021 => ?_)
            ·
              refine z_inc X (x := c) (lv' := [(2, .int (Int32.ofInt (c + 1))), (3, .int (Int32.ofInt e1017)), (0, .ref (A 67))]) (show cdA 89 130 = some (.iinc 2 1, 3, 0, 0, 0) from rfl) (by decide) (List.Mem.tail _ (List.Mem.tail _ (List.Mem.head _))) (fun _ h => h) ?_
              refine z_goto X (t := 17) (show cdA 89 133 = some (.goto (-116), 3, 0, 0, 0) from rfl) (by decide) ?_
              refine WS_lv (lv := [(0, .ref (A 67)), (2, .int (Int32.ofInt (c + 1)))]) (List.forall_mem_cons.mpr ⟨(List.Mem.tail _ (List.Mem.tail _ (List.Mem.head _))), (List.forall_mem_cons.mpr ⟨(List.Mem.head _), (fun q h => absurd h List.not_mem_nil)⟩)⟩) ?_
              exact ih _ (c + 1) I F (by first | exact ⟨oq_54f49eb5 hi.1, oq_4dae995e g1006 b1005.2, b1004.1, oq_03182e9e hi.2.2.2.1, hi.2.2.2.2⟩ | omega) (by first | exact qk_me hm (by decide) (oq_b575e8c1 g1006 b1005.2) | omega) kx
            ·
              refine z_aload_n X (x := A 67) (show cdA 89 98 = some (.aload_n 0, 1, 0, 0, 0) from rfl) (List.Mem.tail _ (List.Mem.head _)) ?_
              refine w_dup X.1 (ax_d X (show cdA 89 99 = some (.dup, 1, 0, 0, 0) from rfl)) rfl ?_
              refine z_getI X 67 (show cdA 89 100 = some (.getfield 74, 3, 8, 7, 0) from rfl) (by decide) rfl rfl ?_
              have b1022 : (0 : Int) ≤ iI t 40 ∧ iI t 40 ≤ 4095 := I.1 40
              refine z_const X (show cdA 89 103 = some (.iconst 1, 1, 0, 0, 0) from rfl) ?_
              refine z_load_n X (x := c) (show cdA 89 104 = some (.iload_n 2, 1, 0, 0, 0) from rfl) (List.Mem.tail _ (List.Mem.tail _ (List.Mem.head _))) ?_
              refine z_shor X (show cdA 89 105 = some (.ishl, 1, 0, 0, 0) from rfl) (show cdA 89 106 = some (.ior, 1, 0, 0, 0) from rfl) (show 0 ≤ (iI t 40) ∧ (iI t 40) ≤ 4095 by omega) (show 0 ≤ c ∧ c ≤ 11 by omega) (fun e1023 he1023 ie1023 je1023 => ?_)
              show WS k 107 [(3, .int (Int32.ofInt e1017)), (0, .ref (A 67)), (2, .int (Int32.ofInt c))] [.int (Int32.ofInt e1023), .ref (A 67)] (Wd A dT t) 0 0
              refine s_putI X 67 (show cdA 89 107 = some (.putfield 74, 3, 8, 7, 0) from rfl) (by decide) rfl rfl (by decide) rfl rfl rfl ?_
              obtain ⟨s1024, hs1024⟩ : ∃ x0, x0 = uI t 40 (Int32.ofInt e1023) := ⟨_, rfl⟩
              rw [← hs1024]
              have Is1024 : Bd s1024 := by rw [hs1024]; exact bd_I I (show (0 : Int) ≤ e1023 ∧ e1023 ≤ 4095 by omega) ⟨by omega, by omega⟩
              have Fs1024 := fm_I (x := Int32.ofInt e1023) F (show 40 ∈ _ by decide)
              rw [← hs1024] at Fs1024
              have vs1024 : iI s1024 40 = e1023 := by rw [hs1024]; exact iI_u ⟨by omega, by omega⟩
              have ws1024_9 : iI s1024 9 = iI t 9 := by rw [hs1024]; rfl
              have ws1024_39 : iI s1024 39 = iI t 39 := by rw [hs1024]; rfl
              have ws1024_41 : iI s1024 41 = iI t 41 := by rw [hs1024]; rfl
              refine z_aload_n X (x := A 67) (show cdA 89 110 = some (.aload_n 0, 1, 0, 0, 0) from rfl) (List.Mem.tail _ (List.Mem.head _)) ?_
              refine s_getR X 67 (show cdA 89 111 = some (.getfield 24, 3, 8, 8, 0) from rfl) (by decide) rfl rfl ?_
              refine z_aload_n X (x := A 67) (show cdA 89 114 = some (.aload_n 0, 1, 0, 0, 0) from rfl) (List.Mem.tail _ (List.Mem.head _)) ?_
              refine z_getI X 67 (show cdA 89 115 = some (.getfield 77, 3, 8, 9, 0) from rfl) (by decide) rfl rfl ?_
              have b1025 : (0 : Int) ≤ iI s1024 41 ∧ iI s1024 41 ≤ 12 := Is1024.1 41
              refine z_load_n X (x := c) (show cdA 89 118 = some (.iload_n 2, 1, 0, 0, 0) from rfl) (List.Mem.tail _ (List.Mem.tail _ (List.Mem.head _))) ?_
              refine z_ast X 85 (show cdA 89 119 = some (.iastore, 1, 0, 0, 0) from rfl) (by decide) rfl (by first | exact b1025.1 | omega) (show (iI s1024 41) < 12 by first | exact oq_8ac469bd ws1024_41 hi.2.2.2.1 g1006 b1005.2 | omega) (by decide) ?_
              obtain ⟨s1026, hs1026⟩ : ∃ x0, x0 = uC s1024 72 ((iI s1024 41)).toNat (Int32.ofInt c) := ⟨_, rfl⟩
              rw [← hs1026]
              have Is1026 : Bd s1026 := by rw [hs1026]; exact bd_C Is1024 (show (0 : Int) ≤ c ∧ c ≤ 11 by first | exact ⟨hi.1, oq_e4d7f3c5 g1006 b1005.2⟩ | omega) ⟨by first | exact oq_fa4e5087 hi.1 | omega, by first | exact oq_78843a64 hi.2.1 | omega⟩
              have Fs1026 := fm_C (i := ((iI s1024 41)).toNat) (x := Int32.ofInt c) Fs1024 (show 72 ∈ _ by decide)
              rw [← hs1026] at Fs1026
              have ws1026_9 : iI s1026 9 = iI s1024 9 := by rw [hs1026]; rfl
              have ws1026_39 : iI s1026 39 = iI s1024 39 := by rw [hs1026]; rfl
              have ws1026_40 : iI s1026 40 = iI s1024 40 := by rw [hs1026]; rfl
              have ws1026_41 : iI s1026 41 = iI s1024 41 := by rw [hs1026]; rfl
              refine z_aload_n X (x := A 67) (show cdA 89 120 = some (.aload_n 0, 1, 0, 0, 0) from rfl) (List.Mem.tail _ (List.Mem.head _)) ?_
              refine w_dup X.1 (ax_d X (show cdA 89 121 = some (.dup, 1, 0, 0, 0) from rfl)) rfl ?_
              refine z_getI X 67 (show cdA 89 122 = some (.getfield 77, 3, 8, 9, 0) from rfl) (by decide) rfl rfl ?_
              have b1027 : (0 : Int) ≤ iI s1026 41 ∧ iI s1026 41 ≤ 12 := Is1026.1 41
              refine z_const X (show cdA 89 125 = some (.iconst 1, 1, 0, 0, 0) from rfl) ?_
              refine z_add X (show cdA 89 126 = some (.iadd, 1, 0, 0, 0) from rfl) ?_
              refine s_putI X 67 (show cdA 89 127 = some (.putfield 77, 3, 8, 9, 0) from rfl) (by decide) rfl rfl (by decide) rfl rfl rfl ?_
              obtain ⟨s1028, hs1028⟩ : ∃ x0, x0 = uI s1026 41 (Int32.ofInt ((iI s1026 41) + 1)) := ⟨_, rfl⟩
              rw [← hs1028]
              have Is1028 : Bd s1028 := by rw [hs1028]; exact bd_I Is1026 (show (0 : Int) ≤ ((iI s1026 41) + 1) ∧ ((iI s1026 41) + 1) ≤ 12 by first | exact ⟨oq_54f49eb5 b1027.1, oq_1fea0193 ws1026_41 ws1024_41 hi.2.2.2.1 g1006 b1005.2⟩ | omega) ⟨by first | exact oq_74de1e16 b1027.1 | omega, by first | exact oq_76a8a5b7 b1027.2 | omega⟩
              have Fs1028 := fm_I (x := Int32.ofInt ((iI s1026 41) + 1)) Fs1026 (show 41 ∈ _ by decide)
              rw [← hs1028] at Fs1028
              have vs1028 : iI s1028 41 = ((iI s1026 41) + 1) := by rw [hs1028]; exact iI_u ⟨by first | exact oq_74de1e16 b1027.1 | omega, by first | exact oq_76a8a5b7 b1027.2 | omega⟩
              have ws1028_9 : iI s1028 9 = iI s1026 9 := by rw [hs1028]; rfl
              have ws1028_39 : iI s1028 39 = iI s1026 39 := by rw [hs1028]; rfl
              have ws1028_40 : iI s1028 40 = iI s1026 40 := by rw [hs1028]; rfl
              have bz1029 : bcn (iI s1028 40) 12 = bcn (e1023) 12 := by rw [show iI s1028 40 = e1023 by omega]
              refine z_inc X (x := c) (lv' := [(2, .int (Int32.ofInt (c + 1))), (3, .int (Int32.ofInt e1017)), (0, .ref (A 67))]) (show cdA 89 130 = some (.iinc 2 1, 3, 0, 0, 0) from rfl) (by decide) (List.Mem.tail _ (List.Mem.tail _ (List.Mem.head _))) (fun _ h => h) ?_
              refine z_goto X (t := 17) (show cdA 89 133 = some (.goto (-116), 3, 0, 0, 0) from rfl) (by decide) ?_
              refine WS_lv (lv := [(0, .ref (A 67)), (2, .int (Int32.ofInt (c + 1)))]) (List.forall_mem_cons.mpr ⟨(List.Mem.tail _ (List.Mem.tail _ (List.Mem.head _))), (List.forall_mem_cons.mpr ⟨(List.Mem.head _), (fun q h => absurd h List.not_mem_nil)⟩)⟩) ?_
              exact ih _ (c + 1) Is1028 Fs1028 (by first | exact ⟨oq_54f49eb5 hi.1, oq_4dae995e g1006 b1005.2, oq_b50d5e62 vs1028 b1027.1, oq_ecb13324 vs1028 hi.2.2.2.1 ws1026_41 ws1024_41, by omega⟩ | omega) (by first | exact qk_me hm (by decide) (oq_b575e8c1 g1006 b1005.2) | omega) kx
        refine z_if_eq X (t := 72) (show cdA 89 65 = some (.ifCond .eq 7, 3, 0, 0, 0) from rfl) (by decide) hy1015 (fun g1030 => ?_) (fun g1030 => ?_)
        ·
          refine z_const X (show cdA 89 72 = some (.iconst 0, 1, 0, 0, 0) from rfl) ?_
          exact N1016 _ (Or.inl ⟨g1030, rfl⟩)
        ·
          refine z_const X (show cdA 89 68 = some (.iconst 1, 1, 0, 0, 0) from rfl) ?_
          refine z_goto X (t := 73) (show cdA 89 69 = some (.goto 4, 3, 0, 0, 0) from rfl) (by decide) ?_
          exact N1016 _ (Or.inr (⟨g1030, rfl⟩))
  refine z_aload_n X (x := A 67) (show cdA 89 0 = some (.aload_n 0, 1, 0, 0, 0) from rfl) (List.Mem.head _) ?_
  refine z_load_n X (x := x) (show cdA 89 1 = some (.iload_n 1, 1, 0, 0, 0) from rfl) (List.Mem.tail _ (List.Mem.head _)) ?_
  refine s_putI X 67 (show cdA 89 2 = some (.putfield 70, 3, 8, 6, 0) from rfl) (by decide) rfl rfl (by decide) rfl rfl rfl ?_
  obtain ⟨s5, hs5⟩ : ∃ x0, x0 = uI s 39 (Int32.ofInt x) := ⟨_, rfl⟩
  rw [← hs5]
  have Is5 : Bd s5 := by rw [hs5]; exact bd_I I (show (0 : Int) ≤ x ∧ x ≤ 23 by first | exact ⟨p0.1, p0.2⟩ | omega) ⟨by first | exact oq_fa4e5087 p0.1 | omega, by first | exact oq_1a42ef34 p0.2 | omega⟩
  have Fs5 := fm_I (x := Int32.ofInt x) F (show 39 ∈ _ by decide)
  rw [← hs5] at Fs5
  have vs5 : iI s5 39 = x := by rw [hs5]; exact iI_u ⟨by first | exact oq_fa4e5087 p0.1 | omega, by first | exact oq_1a42ef34 p0.2 | omega⟩
  have ws5_9 : iI s5 9 = iI s 9 := by rw [hs5]; rfl
  have ws5_40 : iI s5 40 = iI s 40 := by rw [hs5]; rfl
  have ws5_41 : iI s5 41 = iI s 41 := by rw [hs5]; rfl
  refine z_aload_n X (x := A 67) (show cdA 89 5 = some (.aload_n 0, 1, 0, 0, 0) from rfl) (List.Mem.head _) ?_
  refine z_const X (show cdA 89 6 = some (.iconst 0, 1, 0, 0, 0) from rfl) ?_
  refine s_putI X 67 (show cdA 89 7 = some (.putfield 74, 3, 8, 7, 0) from rfl) (by decide) rfl rfl (by decide) rfl rfl rfl ?_
  obtain ⟨s6, hs6⟩ : ∃ x0, x0 = uI s5 40 (Int32.ofInt 0) := ⟨_, rfl⟩
  rw [← hs6]
  have Is6 : Bd s6 := by rw [hs6]; exact bd_I Is5 (show (0 : Int) ≤ 0 ∧ 0 ≤ 4095 by first | exact ⟨by decide, by decide⟩ | omega) (by decide)
  have Fs6 := fm_I (x := Int32.ofInt 0) Fs5 (show 40 ∈ _ by decide)
  rw [← hs6] at Fs6
  have vs6 : iI s6 40 = 0 := by rw [hs6]; exact iI_u (by decide)
  have ws6_9 : iI s6 9 = iI s5 9 := by rw [hs6]; rfl
  have ws6_39 : iI s6 39 = iI s5 39 := by rw [hs6]; rfl
  have ws6_41 : iI s6 41 = iI s5 41 := by rw [hs6]; rfl
  refine z_aload_n X (x := A 67) (show cdA 89 10 = some (.aload_n 0, 1, 0, 0, 0) from rfl) (List.Mem.head _) ?_
  refine z_const X (show cdA 89 11 = some (.iconst 0, 1, 0, 0, 0) from rfl) ?_
  refine s_putI X 67 (show cdA 89 12 = some (.putfield 77, 3, 8, 9, 0) from rfl) (by decide) rfl rfl (by decide) rfl rfl rfl ?_
  obtain ⟨s7, hs7⟩ : ∃ x0, x0 = uI s6 41 (Int32.ofInt 0) := ⟨_, rfl⟩
  rw [← hs7]
  have Is7 : Bd s7 := by rw [hs7]; exact bd_I Is6 (show (0 : Int) ≤ 0 ∧ 0 ≤ 12 by first | exact ⟨by decide, by decide⟩ | omega) (by decide)
  have Fs7 := fm_I (x := Int32.ofInt 0) Fs6 (show 41 ∈ _ by decide)
  rw [← hs7] at Fs7
  have vs7 : iI s7 41 = 0 := by rw [hs7]; exact iI_u (by decide)
  have ws7_9 : iI s7 9 = iI s6 9 := by rw [hs7]; rfl
  have ws7_39 : iI s7 39 = iI s6 39 := by rw [hs7]; rfl
  have ws7_40 : iI s7 40 = iI s6 40 := by rw [hs7]; rfl
  have bz8 : bcn (iI s7 40) 12 = 0 := by rw [show iI s7 40 = 0 by omega]; decide
  refine z_const X (show cdA 89 15 = some (.iconst 0, 1, 0, 0, 0) from rfl) ?_
  refine z_store_n X (lv' := [(2, .int (Int32.ofInt 0)), (0, .ref (A 67)), (1, .int (Int32.ofInt x))]) (show cdA 89 16 = some (.istore_n 2, 1, 0, 0, 0) from rfl) (by decide) (fun _ h => h) ?_
  refine WS_lv (lv := [(0, .ref (A 67)), (2, .int (Int32.ofInt 0))]) (List.forall_mem_cons.mpr ⟨(List.Mem.tail _ (List.Mem.head _)), (List.forall_mem_cons.mpr ⟨(List.Mem.head _), (fun q h => absurd h List.not_mem_nil)⟩)⟩) ?_
  refine L17 ((12 - 0 : Int).toNat + 1) s7 0 Is7 Fs7 (by first | exact ⟨by decide, by decide, oq_0b35aa92 vs7, oq_1af0b4f8 vs7, oq_0544552b vs7 bz8⟩ | omega) (Nat.lt_succ_self _) ?_
  intro s9 x10 Is9 Fs9 hs9
  have b11 : (0 : Int) ≤ iI s9 9 ∧ iI s9 9 ≤ 12 := Is9.1 9
  have b12 : (0 : Int) ≤ iI s9 39 ∧ iI s9 39 ≤ 23 := Is9.1 39
  have b13 : (0 : Int) ≤ iI s9 40 ∧ iI s9 40 ≤ 4095 := Is9.1 40
  have b14 : (0 : Int) ≤ iI s9 41 ∧ iI s9 41 ≤ 12 := Is9.1 41
  exact w_vret X.1 q hRt (ax_d X (show cdA 89 136 = some (.return_, 1, 0, 0, 0) from rfl)) (Nat.zero_le _) (Nat.zero_le _) ⟨_, rfl, Is9, Fs9, rfl, by first | exact hs9.2.2.2.2 | omega⟩
end M81
