/-! The model: regions -/
theorem shl1 {y : Int} (h : 0 ≤ y ∧ y ≤ 11) : 1 ≤ (Int32.ofInt 1 <<< (Int32.ofInt y &&& 31)).toInt ∧ (Int32.ofInt 1 <<< (Int32.ofInt y &&& 31)).toInt ≤ 2048 ∧ (y ≤ 8 → (Int32.ofInt 1 <<< (Int32.ofInt y &&& 31)).toInt ≤ 256) ∧ (y ≤ 7 → (Int32.ofInt 1 <<< (Int32.ofInt y &&& 31)).toInt ≤ 128) := by
  have : y = 0 ∨ y = 1 ∨ y = 2 ∨ y = 3 ∨ y = 4 ∨ y = 5 ∨ y = 6 ∨ y = 7 ∨ y = 8 ∨ y = 9 ∨ y = 10 ∨ y = 11 := by omega
  rcases this with e | e | e | e | e | e | e | e | e | e | e | e <;> subst e <;> decide +kernel
theorem or_bd (n : Nat) (hn : n ≤ 30) {x y : Int} (hx : 0 ≤ x ∧ x < 2 ^ n) (hy : 0 ≤ y ∧ y < 2 ^ n) : 0 ≤ (Int32.ofInt x ||| Int32.ofInt y).toInt ∧ (Int32.ofInt x ||| Int32.ofInt y).toInt < 2 ^ n := by
  have hp : (2 : Int) ^ n ≤ 2 ^ 30 := by
    have := Nat.pow_le_pow_right (n := 2) (by decide) hn
    have e : ((2 ^ n : Nat) : Int) = 2 ^ n := by simp
    have e2 : ((2 ^ 30 : Nat) : Int) = 2 ^ 30 := by decide
    omega
  have h30 : (2 : Int) ^ 30 = 1073741824 := by decide
  have hb : x < 1073741824 ∧ y < 1073741824 := by omega
  rw [← z_or]
  have ex : zN x = x.toNat := by unfold zN; omega
  have ey : zN y = y.toNat := by unfold zN; omega
  have e : ((2 ^ n : Nat) : Int) = 2 ^ n := by simp
  have hl : Nat.lor (zN x) (zN y) < 2 ^ n := by
    rw [ex, ey]
    exact Nat.or_lt_two_pow (by omega) (by omega)
  have hl2 : ((Nat.lor (zN x) (zN y) : Nat) : Int) < 2 ^ n := by omega
  have e3 : zOf (Nat.lor (zN x) (zN y)) = (Nat.lor (zN x) (zN y) : Int) := by
    unfold zOf
    rw [if_pos (Nat.ble_eq.mpr (by omega))]
  rw [e3, zi ⟨by omega, by omega⟩]
  omega
section ZX
variable {k : kx_T} {mn pc : Nat} {dT : Nat → ClassId} {lv : List (Nat × Value)} {st : List Value} {ws : va_W} {ce sl a b : Nat} {z : Int}
theorem z_shl1 (X : AX k mn dT) {y : Int} (h : cdA mn pc = some (.ishl, 1, a, b, z)) (hy : 0 ≤ y ∧ y ≤ 11) (g : ∀ e : Int, 1 ≤ e → e ≤ 2048 → (y ≤ 8 → e ≤ 256) → (y ≤ 7 → e ≤ 128) → WS k (pc + 1) lv (.int (Int32.ofInt e) :: st) ws ce sl) : WS k pc lv (.int (Int32.ofInt y) :: .int (Int32.ofInt 1) :: st) ws ce sl := by
  obtain ⟨h1, h2, h3, h4⟩ := shl1 hy
  have := g _ h1 h2 h3 h4
  rw [ofi_to] at this
  exact z_bshl X h this
theorem z_orb (X : AX k mn dT) {x y : Int} (h : cdA mn pc = some (.ior, 1, a, b, z)) (n : Nat) (hn : n ≤ 30) (hx : 0 ≤ x ∧ x < 2 ^ n) (hy : 0 ≤ y ∧ y < 2 ^ n) (g : ∀ e : Int, 0 ≤ e → e < 2 ^ n → WS k (pc + 1) lv (.int (Int32.ofInt e) :: st) ws ce sl) : WS k pc lv (.int (Int32.ofInt y) :: .int (Int32.ofInt x) :: st) ws ce sl := by
  obtain ⟨h1, h2⟩ := or_bd n hn hx hy
  have := g _ h1 h2
  rw [ofi_to] at this
  exact z_bor X h this
end ZX
section M59
variable {l : Launch} {s0 : State} {D : va_G} {tys : List (ClassId × FieldType)} {a0 : Array Value} {A : Nat → Nat} {dT : Nat → ClassId} {s : PS}
set_option maxRecDepth 4000 in
theorem k_findSets (G : GX l s0 D tys a0 dT) (I : Bd s) (jRLx : RLx s)  : CT l s0 D A dT 260 (rmN 260) [.ref (A 179)] s (fun o t => Bd t ∧ Fm [77, 75, 78, 79, 80, 81] [202, 204, 205, 206, 207, 208, 209, 210, 211, 212, 213, 214, 215, 216, 217, 218, 219, 220, 221, 222, 223, 224, 225, 226, 227, 203, 161, 230, 231, 232, 240, 238, 239] s t ∧ RLx t ∧ o = .inl none ∧ (True)) := by
  refine ct_of G (by decide) (Nat.le_of_ble_eq_true rfl) (fun k X E hRt hXt q => ?_)
  show WS k 0 [(0, .ref (A 179))] [] _ 0 0
  have F : Fm [77, 75, 78, 79, 80, 81] [202, 204, 205, 206, 207, 208, 209, 210, 211, 212, 213, 214, 215, 216, 217, 218, 219, 220, 221, 222, 223, 224, 225, 226, 227, 203, 161, 230, 231, 232, 240, 238, 239] s s := fm_rf _ _ s
  have b1 : (0 : Int) ≤ iI s 97 ∧ iI s 97 ≤ 8 := I.1 97
  have L14 : ∀ (n : Nat) (t : PS) (bi c : Int), Bd t → Fm [77, 75, 78, 79, 80, 81] [202, 204, 205, 206, 207, 208, 209, 210, 211, 212, 213, 214, 215, 216, 217, 218, 219, 220, 221, 222, 223, 224, 225, 226, 227, 203, 161, 230, 231, 232, 240, 238, 239] s t → RLx t → ((1 ≤ bi ∧ bi ≤ 255) ∧ 0 ≤ c ∧ c ≤ 128) → (128 - c : Int).toNat < n → (∀ (t' : PS) (c' : Int), Bd t' → Fm [77, 75, 78, 79, 80, 81] [202, 204, 205, 206, 207, 208, 209, 210, 211, 212, 213, 214, 215, 216, 217, 218, 219, 220, 221, 222, 223, 224, 225, 226, 227, 203, 161, 230, 231, 232, 240, 238, 239] s t' → RLx t' → ((1 ≤ bi ∧ bi ≤ 255) ∧ 0 ≤ c' ∧ c' ≤ 128) → WS k 34 [(0, .ref (A 179)), (1, .int (Int32.ofInt bi)), (2, .int (Int32.ofInt c'))] [] (Wd A dT t') 0 0) → WS k 14 [(0, .ref (A 179)), (1, .int (Int32.ofInt bi)), (2, .int (Int32.ofInt c))] [] (Wd A dT t) 0 0 := by
    intro n
    induction n with
    | zero =>
      intro t bi c I F jjRLx hi hm kx
      exact absurd hm (Nat.not_lt_zero _)
    | succ n ih =>
      intro t bi c I F jjRLx hi hm kx
      have b1001 : (0 : Int) ≤ iI t 97 ∧ iI t 97 ≤ 8 := I.1 97
      refine z_load_n X (x := c) (show cdA 260 14 = some (.iload_n 2, 1, 0, 0, 0) from rfl) (List.Mem.tail _ (List.Mem.tail _ (List.Mem.head _))) ?_
      refine z_sipush X (show cdA 260 15 = some (.sipush 128, 3, 0, 0, 128) from rfl) ?_
      refine z_icmp_ge X (t := 34) (show cdA 260 18 = some (.if_icmp .ge 16, 3, 3, 0, 0) from rfl) (by decide) ⟨by first | exact oq_fa4e5087 hi.2.1 | omega, by first | exact oq_4ee82282 hi.2.2 | omega⟩ (by decide) (fun g1002 => ?_) (fun g1002 => ?_)
      ·
        refine WS_lv (lv := [(0, .ref (A 179)), (1, .int (Int32.ofInt bi)), (2, .int (Int32.ofInt c))]) (List.forall_mem_cons.mpr ⟨(List.Mem.head _), (List.forall_mem_cons.mpr ⟨(List.Mem.tail _ (List.Mem.head _)), (List.forall_mem_cons.mpr ⟨(List.Mem.tail _ (List.Mem.tail _ (List.Mem.head _))), (fun q h => absurd h List.not_mem_nil)⟩)⟩)⟩) ?_
        exact kx _ c I F jjRLx (by first | exact ⟨And.intro (hi.1.1) (hi.1.2), hi.2.1, hi.2.2⟩ | omega)
      ·
        refine z_aload_n X (x := A 179) (show cdA 260 21 = some (.aload_n 0, 1, 0, 0, 0) from rfl) (List.Mem.head _) ?_
        refine s_getR X 179 (show cdA 260 22 = some (.getfield 76, 3, 12, 37, 0) from rfl) (by decide) rfl rfl ?_
        refine z_load_n X (x := c) (show cdA 260 25 = some (.iload_n 2, 1, 0, 0, 0) from rfl) (List.Mem.tail _ (List.Mem.tail _ (List.Mem.head _))) ?_
        refine z_const X (show cdA 260 26 = some (.iconst 0, 1, 0, 0, 0) from rfl) ?_
        refine z_zast X 258 (show cdA 260 27 = some (.bastore, 1, 0, 0, 0) from rfl) (by decide) rfl (by first | exact hi.2.1 | omega) (show c < 128 by first | exact g1002 | omega) (by decide) (by first | exact Or.inl (by decide) | omega) ?_
        obtain ⟨s1003, hs1003⟩ : ∃ x0, x0 = uC t 230 (c).toNat (Int32.ofInt 0) := ⟨_, rfl⟩
        rw [← hs1003]
        have Is1003 : Bd s1003 := by rw [hs1003]; exact bd_C I (show (0 : Int) ≤ 0 ∧ 0 ≤ 1 by first | exact ⟨by decide, by decide⟩ | omega) (by decide)
        have Fs1003 := fm_C (i := (c).toNat) (x := Int32.ofInt 0) F (show 230 ∈ _ by decide)
        rw [← hs1003] at Fs1003
        have ws1003_97 : iI s1003 97 = iI t 97 := by rw [hs1003]; rfl
        have fs1003 : Fm [] [230] t s1003 := by rw [hs1003]; exact fm_C (fm_rf _ _ _) (show 230 ∈ _ by decide)
        have JRLx_s1003 : RLx s1003 := RLx_fm fs1003 (by decide) jjRLx
        refine z_inc X (x := c) (lv' := [(2, .int (Int32.ofInt (c + 1))), (0, .ref (A 179)), (1, .int (Int32.ofInt bi))]) (show cdA 260 28 = some (.iinc 2 1, 3, 0, 0, 0) from rfl) (by decide) (List.Mem.tail _ (List.Mem.tail _ (List.Mem.head _))) (fun _ h => h) ?_
        refine z_goto X (t := 14) (show cdA 260 31 = some (.goto (-17), 3, 0, 0, 0) from rfl) (by decide) ?_
        refine WS_lv (lv := [(0, .ref (A 179)), (1, .int (Int32.ofInt bi)), (2, .int (Int32.ofInt (c + 1)))]) (List.forall_mem_cons.mpr ⟨(List.Mem.tail _ (List.Mem.head _)), (List.forall_mem_cons.mpr ⟨(List.Mem.tail _ (List.Mem.tail _ (List.Mem.head _))), (List.forall_mem_cons.mpr ⟨(List.Mem.head _), (fun q h => absurd h List.not_mem_nil)⟩)⟩)⟩) ?_
        exact ih _ bi (c + 1) Is1003 Fs1003 JRLx_s1003 (by first | exact ⟨And.intro (hi.1.1) (hi.1.2), oq_54f49eb5 hi.2.1, oq_d2afb425 g1002⟩ | omega) (by first | exact qk_me hm (by decide) (oq_c268b7bd g1002) | omega) kx
  have L36 : ∀ (n : Nat) (t : PS) (bi c : Int), Bd t → Fm [77, 75, 78, 79, 80, 81] [202, 204, 205, 206, 207, 208, 209, 210, 211, 212, 213, 214, 215, 216, 217, 218, 219, 220, 221, 222, 223, 224, 225, 226, 227, 203, 161, 230, 231, 232, 240, 238, 239] s t → RLx t → ((1 ≤ bi ∧ bi ≤ 255) ∧ 0 ≤ c ∧ c ≤ 8) → (8 - c : Int).toNat < n → (∀ (t' : PS) (c' : Int), Bd t' → Fm [77, 75, 78, 79, 80, 81] [202, 204, 205, 206, 207, 208, 209, 210, 211, 212, 213, 214, 215, 216, 217, 218, 219, 220, 221, 222, 223, 224, 225, 226, 227, 203, 161, 230, 231, 232, 240, 238, 239] s t' → RLx t' → ((1 ≤ bi ∧ bi ≤ 255) ∧ 0 ≤ c' ∧ c' ≤ 8) → WS k 71 [(0, .ref (A 179)), (1, .int (Int32.ofInt bi)), (2, .int (Int32.ofInt c'))] [] (Wd A dT t') 0 0) → WS k 36 [(0, .ref (A 179)), (1, .int (Int32.ofInt bi)), (2, .int (Int32.ofInt c))] [] (Wd A dT t) 0 0 := by
    intro n
    induction n with
    | zero =>
      intro t bi c I F jjRLx hi hm kx
      exact absurd hm (Nat.not_lt_zero _)
    | succ n ih =>
      intro t bi c I F jjRLx hi hm kx
      have b2001 : (0 : Int) ≤ iI t 97 ∧ iI t 97 ≤ 8 := I.1 97
      refine z_load_n X (x := c) (show cdA 260 36 = some (.iload_n 2, 1, 0, 0, 0) from rfl) (List.Mem.tail _ (List.Mem.tail _ (List.Mem.head _))) ?_
      refine z_aload_n X (x := A 179) (show cdA 260 37 = some (.aload_n 0, 1, 0, 0, 0) from rfl) (List.Mem.head _) ?_
      refine z_getI X 179 (show cdA 260 38 = some (.getfield 384, 3, 12, 46, 0) from rfl) (by decide) rfl rfl ?_
      have b2002 : (0 : Int) ≤ iI t 97 ∧ iI t 97 ≤ 8 := I.1 97
      refine z_icmp_ge X (t := 71) (show cdA 260 41 = some (.if_icmp .ge 30, 3, 3, 0, 0) from rfl) (by decide) ⟨by first | exact oq_fa4e5087 hi.2.1 | omega, by first | exact oq_d3f5d874 hi.2.2 | omega⟩ (rng_to _) (fun g2003 => ?_) (fun g2003 => ?_)
      ·
        refine WS_lv (lv := [(0, .ref (A 179)), (1, .int (Int32.ofInt bi)), (2, .int (Int32.ofInt c))]) (List.forall_mem_cons.mpr ⟨(List.Mem.head _), (List.forall_mem_cons.mpr ⟨(List.Mem.tail _ (List.Mem.head _)), (List.forall_mem_cons.mpr ⟨(List.Mem.tail _ (List.Mem.tail _ (List.Mem.head _))), (fun q h => absurd h List.not_mem_nil)⟩)⟩)⟩) ?_
        exact kx _ c I F jjRLx (by first | exact ⟨And.intro (hi.1.1) (hi.1.2), hi.2.1, hi.2.2⟩ | omega)
      ·
        refine z_load_n X (x := bi) (show cdA 260 44 = some (.iload_n 1, 1, 0, 0, 0) from rfl) (List.Mem.tail _ (List.Mem.head _)) ?_
        refine z_load_n X (x := c) (show cdA 260 45 = some (.iload_n 2, 1, 0, 0, 0) from rfl) (List.Mem.tail _ (List.Mem.tail _ (List.Mem.head _))) ?_
        refine z_bshr X (show cdA 260 46 = some (.ishr, 1, 0, 0, 0) from rfl) ?_
        refine z_any (fun y2004 hy2004 => ?_)
        refine z_const X (show cdA 260 47 = some (.iconst 1, 1, 0, 0, 0) from rfl) ?_
        refine z_andm X (show cdA 260 48 = some (.iand, 1, 0, 0, 0) from rfl) (by decide) (by decide) (fun y2005 hy2005 gy2005 => ?_)
        refine z_const X (show cdA 260 49 = some (.iconst 1, 1, 0, 0, 0) from rfl) ?_
        refine z_icmp_ne X (t := 65) (show cdA 260 50 = some (.if_icmp .ne 15, 3, 1, 0, 0) from rfl) (by decide) ⟨by first | exact oq_fa4e5087 hy2005 | omega, by first | exact oq_22e1e6b0 gy2005 | omega⟩ (by decide) (fun g2006 => ?_) (fun g2006 => ?_)
        ·
          refine z_inc X (x := c) (lv' := [(2, .int (Int32.ofInt (c + 1))), (0, .ref (A 179)), (1, .int (Int32.ofInt bi))]) (show cdA 260 65 = some (.iinc 2 1, 3, 0, 0, 0) from rfl) (by decide) (List.Mem.tail _ (List.Mem.tail _ (List.Mem.head _))) (fun _ h => h) ?_
          refine z_goto X (t := 36) (show cdA 260 68 = some (.goto (-32), 3, 0, 0, 0) from rfl) (by decide) ?_
          refine WS_lv (lv := [(0, .ref (A 179)), (1, .int (Int32.ofInt bi)), (2, .int (Int32.ofInt (c + 1)))]) (List.forall_mem_cons.mpr ⟨(List.Mem.tail _ (List.Mem.head _)), (List.forall_mem_cons.mpr ⟨(List.Mem.tail _ (List.Mem.tail _ (List.Mem.head _))), (List.forall_mem_cons.mpr ⟨(List.Mem.head _), (fun q h => absurd h List.not_mem_nil)⟩)⟩)⟩) ?_
          exact ih _ bi (c + 1) I F jjRLx (by first | exact ⟨And.intro (hi.1.1) (hi.1.2), oq_54f49eb5 hi.2.1, oq_f6204d84 g2003 b2002.2⟩ | omega) (by first | exact qk_me hm (by decide) (oq_ccc5e5e0 g2003 b2002.2) | omega) kx
        ·
          refine z_aload_n X (x := A 179) (show cdA 260 53 = some (.aload_n 0, 1, 0, 0, 0) from rfl) (List.Mem.head _) ?_
          refine s_getR X 179 (show cdA 260 54 = some (.getfield 76, 3, 12, 37, 0) from rfl) (by decide) rfl rfl ?_
          refine z_aload_n X (x := A 179) (show cdA 260 57 = some (.aload_n 0, 1, 0, 0, 0) from rfl) (List.Mem.head _) ?_
          refine s_getR X 179 (show cdA 260 58 = some (.getfield 92, 3, 12, 49, 0) from rfl) (by decide) rfl rfl ?_
          refine z_load_n X (x := c) (show cdA 260 61 = some (.iload_n 2, 1, 0, 0, 0) from rfl) (List.Mem.tail _ (List.Mem.tail _ (List.Mem.head _))) ?_
          refine z_ald X 262 (show cdA 260 62 = some (.iaload, 1, 0, 0, 0) from rfl) (by decide) rfl (by first | exact hi.2.1 | omega) (show c < 8 by first | exact oq_7f5b2e79 g2003 b2002.2 | omega) (by decide) ?_
          have b2007 : (0 : Int) ≤ iC t 234 (c).toNat ∧ iC t 234 (c).toNat ≤ 127 := I.2 234 _ (show (c).toNat < 8 by first | exact oq_67be0351 g2003 b2002.2 | omega)
          refine z_const X (show cdA 260 63 = some (.iconst 1, 1, 0, 0, 0) from rfl) ?_
          refine z_zast X 258 (show cdA 260 64 = some (.bastore, 1, 0, 0, 0) from rfl) (by decide) rfl (by first | exact b2007.1 | omega) (show (iC t 234 (c).toNat) < 128 by first | exact oq_31b2bf10 b2007.2 | omega) (by decide) (by first | exact Or.inr (by decide) | omega) ?_
          obtain ⟨s2008, hs2008⟩ : ∃ x0, x0 = uC t 230 ((iC t 234 (c).toNat)).toNat (Int32.ofInt 1) := ⟨_, rfl⟩
          rw [← hs2008]
          have Is2008 : Bd s2008 := by rw [hs2008]; exact bd_C I (show (0 : Int) ≤ 1 ∧ 1 ≤ 1 by first | exact ⟨by decide, by decide⟩ | omega) (by decide)
          have Fs2008 := fm_C (i := ((iC t 234 (c).toNat)).toNat) (x := Int32.ofInt 1) F (show 230 ∈ _ by decide)
          rw [← hs2008] at Fs2008
          have ws2008_97 : iI s2008 97 = iI t 97 := by rw [hs2008]; rfl
          have fs2008 : Fm [] [230] t s2008 := by rw [hs2008]; exact fm_C (fm_rf _ _ _) (show 230 ∈ _ by decide)
          have JRLx_s2008 : RLx s2008 := RLx_fm fs2008 (by decide) jjRLx
          refine z_inc X (x := c) (lv' := [(2, .int (Int32.ofInt (c + 1))), (0, .ref (A 179)), (1, .int (Int32.ofInt bi))]) (show cdA 260 65 = some (.iinc 2 1, 3, 0, 0, 0) from rfl) (by decide) (List.Mem.tail _ (List.Mem.tail _ (List.Mem.head _))) (fun _ h => h) ?_
          refine z_goto X (t := 36) (show cdA 260 68 = some (.goto (-32), 3, 0, 0, 0) from rfl) (by decide) ?_
          refine WS_lv (lv := [(0, .ref (A 179)), (1, .int (Int32.ofInt bi)), (2, .int (Int32.ofInt (c + 1)))]) (List.forall_mem_cons.mpr ⟨(List.Mem.tail _ (List.Mem.head _)), (List.forall_mem_cons.mpr ⟨(List.Mem.tail _ (List.Mem.tail _ (List.Mem.head _))), (List.forall_mem_cons.mpr ⟨(List.Mem.head _), (fun q h => absurd h List.not_mem_nil)⟩)⟩)⟩) ?_
          exact ih _ bi (c + 1) Is2008 Fs2008 JRLx_s2008 (by first | exact ⟨And.intro (hi.1.1) (hi.1.2), oq_54f49eb5 hi.2.1, oq_f6204d84 g2003 b2002.2⟩ | omega) (by first | exact qk_me hm (by decide) (oq_ccc5e5e0 g2003 b2002.2) | omega) kx
  have L101 : ∀ (n : Nat) (t : PS) (bi qq : Int), Bd t → Fm [77, 75, 78, 79, 80, 81] [202, 204, 205, 206, 207, 208, 209, 210, 211, 212, 213, 214, 215, 216, 217, 218, 219, 220, 221, 222, 223, 224, 225, 226, 227, 203, 161, 230, 231, 232, 240, 238, 239] s t → RLx t → (NQ t) → ((1 ≤ bi ∧ bi ≤ 255) ∧ 0 ≤ qq ∧ qq ≤ 24) → (24 - qq : Int).toNat < n → (∀ (t' : PS) (qq' : Int), Bd t' → Fm [77, 75, 78, 79, 80, 81] [202, 204, 205, 206, 207, 208, 209, 210, 211, 212, 213, 214, 215, 216, 217, 218, 219, 220, 221, 222, 223, 224, 225, 226, 227, 203, 161, 230, 231, 232, 240, 238, 239] s t' → RLx t' → (NQ t') → ((1 ≤ bi ∧ bi ≤ 255) ∧ 0 ≤ qq' ∧ qq' ≤ 24) → WS k 177 [(0, .ref (A 179)), (1, .int (Int32.ofInt bi)), (2, .int (Int32.ofInt qq'))] [] (Wd A dT t') 0 0) → WS k 101 [(0, .ref (A 179)), (1, .int (Int32.ofInt bi)), (2, .int (Int32.ofInt qq))] [] (Wd A dT t) 0 0 := by
    intro n
    induction n with
    | zero =>
      intro t bi qq I F jjRLx hq hi hm kx
      exact absurd hm (Nat.not_lt_zero _)
    | succ n ih =>
      intro t bi qq I F jjRLx hq hi hm kx
      have b3001 : (0 : Int) ≤ iI t 97 ∧ iI t 97 ≤ 8 := I.1 97
      refine z_load_n X (x := qq) (show cdA 260 101 = some (.iload_n 2, 1, 0, 0, 0) from rfl) (List.Mem.tail _ (List.Mem.tail _ (List.Mem.head _))) ?_
      refine z_bipush X (show cdA 260 102 = some (.bipush 24, 2, 0, 0, 24) from rfl) ?_
      refine z_icmp_ge X (t := 177) (show cdA 260 104 = some (.if_icmp .ge 73, 3, 3, 0, 0) from rfl) (by decide) ⟨by first | exact oq_fa4e5087 hi.2.1 | omega, by first | exact oq_5bcd337f hi.2.2 | omega⟩ (by decide) (fun g3002 => ?_) (fun g3002 => ?_)
      ·
        refine WS_lv (lv := [(0, .ref (A 179)), (1, .int (Int32.ofInt bi)), (2, .int (Int32.ofInt qq))]) (List.forall_mem_cons.mpr ⟨(List.Mem.head _), (List.forall_mem_cons.mpr ⟨(List.Mem.tail _ (List.Mem.head _)), (List.forall_mem_cons.mpr ⟨(List.Mem.tail _ (List.Mem.tail _ (List.Mem.head _))), (fun q h => absurd h List.not_mem_nil)⟩)⟩)⟩) ?_
        exact kx _ qq I F jjRLx hq (by first | exact ⟨And.intro (hi.1.1) (hi.1.2), hi.2.1, hi.2.2⟩ | omega)
      ·
        refine z_aload_n X (x := A 179) (show cdA 260 107 = some (.aload_n 0, 1, 0, 0, 0) from rfl) (List.Mem.head _) ?_
        refine s_getR X 179 (show cdA 260 108 = some (.getfield 110, 3, 12, 55, 0) from rfl) (by decide) rfl rfl ?_
        refine z_load_n X (x := bi) (show cdA 260 111 = some (.iload_n 1, 1, 0, 0, 0) from rfl) (List.Mem.tail _ (List.Mem.head _)) ?_
        refine z_zald X 268 (show cdA 260 112 = some (.baload, 1, 0, 0, 0) from rfl) (by decide) rfl (by first | exact oq_2a6e3b50 hi.1.1 | omega) (show bi < 256 by first | exact oq_29e5dbe2 hi.1.2 | omega) (by decide) ?_
        have b3003 : (0 : Int) ≤ iC t 240 (bi).toNat ∧ iC t 240 (bi).toNat ≤ 1 := I.2 240 _ (show (bi).toNat < 256 by first | exact oq_c39a26fc hi.1.2 | omega)
        refine z_if_eq X (t := 177) (show cdA 260 113 = some (.ifCond .eq 64, 3, 0, 0, 0) from rfl) (by decide) (rng_to _) (fun g3004 => ?_) (fun g3004 => ?_)
        ·
          refine WS_lv (lv := [(0, .ref (A 179)), (1, .int (Int32.ofInt bi)), (2, .int (Int32.ofInt qq))]) (List.forall_mem_cons.mpr ⟨(List.Mem.head _), (List.forall_mem_cons.mpr ⟨(List.Mem.tail _ (List.Mem.head _)), (List.forall_mem_cons.mpr ⟨(List.Mem.tail _ (List.Mem.tail _ (List.Mem.head _))), (fun q h => absurd h List.not_mem_nil)⟩)⟩)⟩) ?_
          exact kx _ qq I F jjRLx hq (by first | exact ⟨And.intro (hi.1.1) (hi.1.2), hi.2.1, hi.2.2⟩ | omega)
        ·
          refine z_aload_n X (x := A 179) (show cdA 260 116 = some (.aload_n 0, 1, 0, 0, 0) from rfl) (List.Mem.head _) ?_
          refine z_load_n X (x := qq) (show cdA 260 117 = some (.iload_n 2, 1, 0, 0, 0) from rfl) (List.Mem.tail _ (List.Mem.tail _ (List.Mem.head _))) ?_
          refine z_callV X 179 (rm := rmN 224) (As := [.int (Int32.ofInt qq)]) (st := []) (show cdA 260 118 = some (.invokevirtual 309, 3, 224, 0, 0) from rfl) rfl (by decide) rfl (by rw [E.1, E.2.1, E.2.2.1]; exact k_numbersIn G I (by first | exact ⟨hi.2.1, oq_c69fe266 g3002⟩ | omega)) ⟨by rw [E.2.2.2]; exact (show (rmN 224).frames + 1 ≤ (rmN 260).frames by decide), by rw [E.2.2.2]; exact (show 8 + (mNL (miB 224) + 11) + (rmN 224).locals ≤ (rmN 260).locals by decide), by rw [E.2.2.2]; exact (show 0 + (rmN 224).cells ≤ (rmN 260).cells by decide), by rw [E.2.2.2]; exact (show 0 + (rmN 224).slots ≤ (rmN 260).slots by decide)⟩ (Nat.le_of_ble_eq_true rfl) (fun vv s3005 hq => ?_) (fun ee s3005 hq => ?_)
          rotate_left
          · obtain ⟨Is3005, Fs3005, hv, hps3005⟩ := hq; cases hv
          obtain ⟨Is3005, Fs3005, hv, hps3005⟩ := hq
          cases hv
          have Gs3005 := fm_ts F Fs3005 (by decide) (by decide)
          have JRLx_s3005 : RLx s3005 := RLx_fm Fs3005 (by decide) jjRLx
          have JNQ_s3005 : NQ s3005 := NQ_fm Fs3005 (by decide) hq
          have ws3005_97 : iI s3005 97 = iI t 97 := fm_i Fs3005 (by decide)
          show WS k 121 [(0, .ref (A 179)), (1, .int (Int32.ofInt bi)), (2, .int (Int32.ofInt qq))] [] (Wd A dT s3005) 0 0
          refine z_aload_n X (x := A 179) (show cdA 260 121 = some (.aload_n 0, 1, 0, 0, 0) from rfl) (List.Mem.head _) ?_
          have JNW_s3005 : NW s3005 := NW_of JNQ_s3005 JRLx_s3005
          refine z_callV X 179 (rm := rmN 228) (As := []) (st := []) (show cdA 260 122 = some (.invokevirtual 324, 3, 228, 0, 0) from rfl) rfl (by decide) rfl (by rw [E.1, E.2.1, E.2.2.1]; exact k_load G Is3005 JNW_s3005 ) ⟨by rw [E.2.2.2]; exact (show (rmN 228).frames + 1 ≤ (rmN 260).frames by decide), by rw [E.2.2.2]; exact (show 8 + (mNL (miB 228) + 11) + (rmN 228).locals ≤ (rmN 260).locals by decide), by rw [E.2.2.2]; exact (show 0 + (rmN 228).cells ≤ (rmN 260).cells by decide), by rw [E.2.2.2]; exact (show 0 + (rmN 228).slots ≤ (rmN 260).slots by decide)⟩ (Nat.le_of_ble_eq_true rfl) (fun vv s3007 hq => ?_) (fun ee s3007 hq => ?_)
          rotate_left
          · obtain ⟨Is3007, Fs3007, JNW_s3007, e3008, hv, hrs3007, hps3007⟩ := hq; cases hv
          obtain ⟨Is3007, Fs3007, JNW_s3007, e3008, hv, hrs3007, hps3007⟩ := hq
          cases hv
          have Gs3007 := fm_ts Gs3005 Fs3007 (by decide) (by decide)
          have JRLx_s3007 : RLx s3007 := RLx_fm Fs3007 (by decide) JRLx_s3005
          have JNQ_s3007 : NQ s3007 := NQ_fm Fs3007 (by decide) JNQ_s3005
          have JNW_s3007 : NW s3007 := NW_fm Fs3007 (by decide) JNW_s3005
          have ws3007_97 : iI s3007 97 = iI s3005 97 := fm_i Fs3007 (by decide)
          show WS k 125 [(0, .ref (A 179)), (1, .int (Int32.ofInt bi)), (2, .int (Int32.ofInt qq))] [.int (Int32.ofInt e3008)] (Wd A dT s3007) 0 0
          refine z_store_n X (lv' := [(3, .int (Int32.ofInt e3008)), (0, .ref (A 179)), (1, .int (Int32.ofInt bi)), (2, .int (Int32.ofInt qq))]) (show cdA 260 125 = some (.istore_n 3, 1, 0, 0, 0) from rfl) (by decide) (fun _ h => h) ?_
          refine z_aload_n X (x := A 179) (show cdA 260 126 = some (.aload_n 0, 1, 0, 0, 0) from rfl) (List.Mem.tail _ (List.Mem.head _)) ?_
          refine s_getR X 179 (show cdA 260 127 = some (.getfield 104, 3, 12, 53, 0) from rfl) (by decide) rfl rfl ?_
          refine z_load_n X (x := bi) (show cdA 260 130 = some (.iload_n 1, 1, 0, 0, 0) from rfl) (List.Mem.tail _ (List.Mem.tail _ (List.Mem.head _))) ?_
          refine z_load_n X (x := qq) (show cdA 260 131 = some (.iload_n 2, 1, 0, 0, 0) from rfl) (List.Mem.tail _ (List.Mem.tail _ (List.Mem.tail _ (List.Mem.head _)))) ?_
          have N3009 : ∀ e3010 : Int, (((qq = 0) ∧ e3010 = e3008) ∨ ((qq ≠ 0) ∧ (((-2147483648) : Int) ≤ iC s3007 238 (bi).toNat ∧ iC s3007 238 (bi).toNat ≤ 2147483647) ∧ (e3008 ≤ (iC s3007 238 (bi).toNat)) ∧ (((-2147483648) : Int) ≤ iC s3007 238 (bi).toNat ∧ iC s3007 238 (bi).toNat ≤ 2147483647) ∧ e3010 = (iC s3007 238 (bi).toNat)) ∨ ((qq ≠ 0) ∧ (((-2147483648) : Int) ≤ iC s3007 238 (bi).toNat ∧ iC s3007 238 (bi).toNat ≤ 2147483647) ∧ ((iC s3007 238 (bi).toNat) < e3008) ∧ e3010 = e3008)) → WS k 155 [(3, .int (Int32.ofInt e3008)), (0, .ref (A 179)), (1, .int (Int32.ofInt bi)), (2, .int (Int32.ofInt qq))] [.int (Int32.ofInt e3010), .int (Int32.ofInt bi), .ref (A 266)] (Wd A dT s3007) 0 0 := by
            intro e3010 he3010
            refine z_ast X 266 (show cdA 260 155 = some (.iastore, 1, 0, 0, 0) from rfl) (by decide) rfl (by first | exact oq_2a6e3b50 hi.1.1 | omega) (show bi < 256 by first | exact oq_29e5dbe2 hi.1.2 | omega) (by decide) ?_
            obtain ⟨s3011, hs3011⟩ : ∃ x0, x0 = uC s3007 238 (bi).toNat (Int32.ofInt e3010) := ⟨_, rfl⟩
            rw [← hs3011]
            have Is3011 : Bd s3011 := by rw [hs3011]; exact bd_C Is3007 (show ((-2147483648) : Int) ≤ e3010 ∧ e3010 ≤ 2147483647 by omega) ⟨by omega, by omega⟩
            have Fs3011 := fm_C (i := (bi).toNat) (x := Int32.ofInt e3010) Gs3007 (show 238 ∈ _ by decide)
            rw [← hs3011] at Fs3011
            have ws3011_97 : iI s3011 97 = iI s3007 97 := by rw [hs3011]; rfl
            have fs3011 : Fm [] [238] s3007 s3011 := by rw [hs3011]; exact fm_C (fm_rf _ _ _) (show 238 ∈ _ by decide)
            have JRLx_s3011 : RLx s3011 := RLx_fm fs3011 (by decide) JRLx_s3007
            have JNQ_s3011 : NQ s3011 := NQ_fm fs3011 (by decide) JNQ_s3007
            have JNW_s3011 : NW s3011 := NW_fm fs3011 (by decide) JNW_s3007
            refine z_aload_n X (x := A 179) (show cdA 260 156 = some (.aload_n 0, 1, 0, 0, 0) from rfl) (List.Mem.tail _ (List.Mem.head _)) ?_
            refine s_getR X 179 (show cdA 260 157 = some (.getfield 107, 3, 12, 54, 0) from rfl) (by decide) rfl rfl ?_
            refine z_load_n X (x := bi) (show cdA 260 160 = some (.iload_n 1, 1, 0, 0, 0) from rfl) (List.Mem.tail _ (List.Mem.tail _ (List.Mem.head _))) ?_
            refine w_dup2_11 X.1 (ax_d X (show cdA 260 161 = some (.dup2, 1, 0, 0, 0) from rfl)) rfl rfl ?_
            refine z_ald X 267 (show cdA 260 162 = some (.iaload, 1, 0, 0, 0) from rfl) (by decide) rfl (by first | exact oq_2a6e3b50 hi.1.1 | omega) (show bi < 256 by first | exact oq_29e5dbe2 hi.1.2 | omega) (by decide) ?_
            have b3012 : ((-2147483648) : Int) ≤ iC s3011 239 (bi).toNat ∧ iC s3011 239 (bi).toNat ≤ 2147483647 := Is3011.2 239 _ (show (bi).toNat < 256 by first | exact oq_c39a26fc hi.1.2 | omega)
            refine z_aload_n X (x := A 179) (show cdA 260 163 = some (.aload_n 0, 1, 0, 0, 0) from rfl) (List.Mem.tail _ (List.Mem.head _)) ?_
            refine s_getR X 179 (show cdA 260 164 = some (.getfield 32, 3, 12, 21, 0) from rfl) (by decide) rfl rfl ?_
            refine z_const X (show cdA 260 167 = some (.iconst 2, 1, 0, 0, 0) from rfl) ?_
            refine z_ald X 184 (show cdA 260 168 = some (.iaload, 1, 0, 0, 0) from rfl) (by decide) rfl (by decide) (show 2 < 7 by decide) (by decide) ?_
            have b3013 : ((-2147483648) : Int) ≤ iC s3011 161 (2 : Int).toNat ∧ iC s3011 161 (2 : Int).toNat ≤ 2147483647 := Is3011.2 161 _ (show (2 : Int).toNat < 7 by first | exact oq_62527c24 | omega)
            refine z_add X (show cdA 260 169 = some (.iadd, 1, 0, 0, 0) from rfl) ?_
            refine z_any (fun y3014 hy3014 => ?_)
            refine z_ast X 267 (show cdA 260 170 = some (.iastore, 1, 0, 0, 0) from rfl) (by decide) rfl (by first | exact oq_2a6e3b50 hi.1.1 | omega) (show bi < 256 by first | exact oq_29e5dbe2 hi.1.2 | omega) (by decide) ?_
            obtain ⟨s3015, hs3015⟩ : ∃ x0, x0 = uC s3011 239 (bi).toNat (Int32.ofInt y3014) := ⟨_, rfl⟩
            rw [← hs3015]
            have Is3015 : Bd s3015 := by rw [hs3015]; exact bd_C Is3011 (show ((-2147483648) : Int) ≤ y3014 ∧ y3014 ≤ 2147483647 by first | exact ⟨hy3014.1, hy3014.2⟩ | omega) hy3014
            have Fs3015 := fm_C (i := (bi).toNat) (x := Int32.ofInt y3014) Fs3011 (show 239 ∈ _ by decide)
            rw [← hs3015] at Fs3015
            have ws3015_97 : iI s3015 97 = iI s3011 97 := by rw [hs3015]; rfl
            have fs3015 : Fm [] [239] s3011 s3015 := by rw [hs3015]; exact fm_C (fm_rf _ _ _) (show 239 ∈ _ by decide)
            have JRLx_s3015 : RLx s3015 := RLx_fm fs3015 (by decide) JRLx_s3011
            have JNQ_s3015 : NQ s3015 := NQ_fm fs3015 (by decide) JNQ_s3011
            have JNW_s3015 : NW s3015 := NW_fm fs3015 (by decide) JNW_s3011
            refine z_inc X (x := qq) (lv' := [(2, .int (Int32.ofInt (qq + 1))), (3, .int (Int32.ofInt e3008)), (0, .ref (A 179)), (1, .int (Int32.ofInt bi))]) (show cdA 260 171 = some (.iinc 2 1, 3, 0, 0, 0) from rfl) (by decide) (List.Mem.tail _ (List.Mem.tail _ (List.Mem.tail _ (List.Mem.head _)))) (fun _ h => h) ?_
            refine z_goto X (t := 101) (show cdA 260 174 = some (.goto (-73), 3, 0, 0, 0) from rfl) (by decide) ?_
            refine WS_lv (lv := [(0, .ref (A 179)), (1, .int (Int32.ofInt bi)), (2, .int (Int32.ofInt (qq + 1)))]) (List.forall_mem_cons.mpr ⟨(List.Mem.tail _ (List.Mem.tail _ (List.Mem.head _))), (List.forall_mem_cons.mpr ⟨(List.Mem.tail _ (List.Mem.tail _ (List.Mem.tail _ (List.Mem.head _)))), (List.forall_mem_cons.mpr ⟨(List.Mem.head _), (fun q h => absurd h List.not_mem_nil)⟩)⟩)⟩) ?_
            exact ih _ bi (qq + 1) Is3015 Fs3015 JRLx_s3015 JNQ_s3015 (by first | exact ⟨And.intro (hi.1.1) (hi.1.2), oq_54f49eb5 hi.2.1, oq_cec7cb2e g3002⟩ | omega) (by first | exact qk_me hm (by decide) (oq_ffa8317e g3002) | omega) kx
          refine z_if_eq X (t := 145) (show cdA 260 132 = some (.ifCond .eq 13, 3, 0, 0, 0) from rfl) (by decide) ⟨by first | exact oq_fa4e5087 hi.2.1 | omega, by first | exact oq_1d70227b g3002 | omega⟩ (fun g3016 => ?_) (fun g3016 => ?_)
          ·
            refine z_load_n X (x := e3008) (show cdA 260 145 = some (.iload_n 3, 1, 0, 0, 0) from rfl) (List.Mem.head _) ?_
            refine z_goto X (t := 155) (show cdA 260 146 = some (.goto 9, 3, 0, 0, 0) from rfl) (by decide) ?_
            exact N3009 _ (Or.inl ⟨g3016, rfl⟩)
          ·
            refine z_load_n X (x := e3008) (show cdA 260 135 = some (.iload_n 3, 1, 0, 0, 0) from rfl) (List.Mem.head _) ?_
            refine z_aload_n X (x := A 179) (show cdA 260 136 = some (.aload_n 0, 1, 0, 0, 0) from rfl) (List.Mem.tail _ (List.Mem.head _)) ?_
            refine s_getR X 179 (show cdA 260 137 = some (.getfield 104, 3, 12, 53, 0) from rfl) (by decide) rfl rfl ?_
            refine z_load_n X (x := bi) (show cdA 260 140 = some (.iload_n 1, 1, 0, 0, 0) from rfl) (List.Mem.tail _ (List.Mem.tail _ (List.Mem.head _))) ?_
            refine z_ald X 266 (show cdA 260 141 = some (.iaload, 1, 0, 0, 0) from rfl) (by decide) rfl (by first | exact oq_2a6e3b50 hi.1.1 | omega) (show bi < 256 by first | exact oq_29e5dbe2 hi.1.2 | omega) (by decide) ?_
            have b3017 : ((-2147483648) : Int) ≤ iC s3007 238 (bi).toNat ∧ iC s3007 238 (bi).toNat ≤ 2147483647 := Is3007.2 238 _ (show (bi).toNat < 256 by first | exact oq_c39a26fc hi.1.2 | omega)
            refine z_icmp_le X (t := 149) (show cdA 260 142 = some (.if_icmp .le 7, 3, 5, 0, 0) from rfl) (by decide) hrs3007 (rng_to _) (fun g3018 => ?_) (fun g3018 => ?_)
            ·
              refine z_aload_n X (x := A 179) (show cdA 260 149 = some (.aload_n 0, 1, 0, 0, 0) from rfl) (List.Mem.tail _ (List.Mem.head _)) ?_
              refine s_getR X 179 (show cdA 260 150 = some (.getfield 104, 3, 12, 53, 0) from rfl) (by decide) rfl rfl ?_
              refine z_load_n X (x := bi) (show cdA 260 153 = some (.iload_n 1, 1, 0, 0, 0) from rfl) (List.Mem.tail _ (List.Mem.tail _ (List.Mem.head _))) ?_
              refine z_ald X 266 (show cdA 260 154 = some (.iaload, 1, 0, 0, 0) from rfl) (by decide) rfl (by first | exact oq_2a6e3b50 hi.1.1 | omega) (show bi < 256 by first | exact oq_29e5dbe2 hi.1.2 | omega) (by decide) ?_
              have b3019 : ((-2147483648) : Int) ≤ iC s3007 238 (bi).toNat ∧ iC s3007 238 (bi).toNat ≤ 2147483647 := Is3007.2 238 _ (show (bi).toNat < 256 by first | exact oq_c39a26fc hi.1.2 | omega)
              exact N3009 _ (Or.inr (Or.inl ⟨g3016, b3017, g3018, b3019, rfl⟩))
            ·
              refine z_load_n X (x := e3008) (show cdA 260 145 = some (.iload_n 3, 1, 0, 0, 0) from rfl) (List.Mem.head _) ?_
              refine z_goto X (t := 155) (show cdA 260 146 = some (.goto 9, 3, 0, 0, 0) from rfl) (by decide) ?_
              exact N3009 _ (Or.inr (Or.inr (⟨g3016, b3017, g3018, rfl⟩)))
  have L2 : ∀ (n : Nat) (t : PS) (bi : Int), Bd t → Fm [77, 75, 78, 79, 80, 81] [202, 204, 205, 206, 207, 208, 209, 210, 211, 212, 213, 214, 215, 216, 217, 218, 219, 220, 221, 222, 223, 224, 225, 226, 227, 203, 161, 230, 231, 232, 240, 238, 239] s t → RLx t → (1 ≤ bi ∧ bi ≤ 256) → (256 - bi : Int).toNat < n → (∀ (t' : PS) (bi' : Int), Bd t' → Fm [77, 75, 78, 79, 80, 81] [202, 204, 205, 206, 207, 208, 209, 210, 211, 212, 213, 214, 215, 216, 217, 218, 219, 220, 221, 222, 223, 224, 225, 226, 227, 203, 161, 230, 231, 232, 240, 238, 239] s t' → RLx t' → (1 ≤ bi' ∧ bi' ≤ 256) → WS k 183 [(0, .ref (A 179)), (1, .int (Int32.ofInt bi'))] [] (Wd A dT t') 0 0) → WS k 2 [(0, .ref (A 179)), (1, .int (Int32.ofInt bi))] [] (Wd A dT t) 0 0 := by
    intro n
    induction n with
    | zero =>
      intro t bi I F jjRLx hi hm kx
      exact absurd hm (Nat.not_lt_zero _)
    | succ n ih =>
      intro t bi I F jjRLx hi hm kx
      have b4001 : (0 : Int) ≤ iI t 97 ∧ iI t 97 ≤ 8 := I.1 97
      refine z_load_n X (x := bi) (show cdA 260 2 = some (.iload_n 1, 1, 0, 0, 0) from rfl) (List.Mem.tail _ (List.Mem.head _)) ?_
      refine z_const X (show cdA 260 3 = some (.iconst 1, 1, 0, 0, 0) from rfl) ?_
      refine z_aload_n X (x := A 179) (show cdA 260 4 = some (.aload_n 0, 1, 0, 0, 0) from rfl) (List.Mem.head _) ?_
      refine z_getI X 179 (show cdA 260 5 = some (.getfield 384, 3, 12, 46, 0) from rfl) (by decide) rfl rfl ?_
      have b4002 : (0 : Int) ≤ iI t 97 ∧ iI t 97 ≤ 8 := I.1 97
      refine z_shl1 X (show cdA 260 8 = some (.ishl, 1, 0, 0, 0) from rfl) (by first | exact ⟨b4002.1, oq_58cbab50 b4002.2⟩ | omega) (fun y4003 hy4003 iy4003 jy4003 ky4003 => ?_)
      refine z_icmp_ge X (t := 183) (show cdA 260 9 = some (.if_icmp .ge 174, 3, 3, 0, 0) from rfl) (by decide) ⟨by first | exact oq_9462313e hi.1 | omega, by first | exact oq_09cd9fc1 hi.2 | omega⟩ ⟨by first | exact oq_9462313e hy4003 | omega, by first | exact oq_e0f19d36 iy4003 | omega⟩ (fun g4004 => ?_) (fun g4004 => ?_)
      ·
        refine WS_lv (lv := [(0, .ref (A 179)), (1, .int (Int32.ofInt bi))]) (List.forall_mem_cons.mpr ⟨(List.Mem.head _), (List.forall_mem_cons.mpr ⟨(List.Mem.tail _ (List.Mem.head _)), (fun q h => absurd h List.not_mem_nil)⟩)⟩) ?_
        exact kx _ bi I F jjRLx (by first | exact ⟨hi.1, hi.2⟩ | omega)
      ·
        refine z_const X (show cdA 260 12 = some (.iconst 0, 1, 0, 0, 0) from rfl) ?_
        refine z_store_n X (lv' := [(2, .int (Int32.ofInt 0)), (0, .ref (A 179)), (1, .int (Int32.ofInt bi))]) (show cdA 260 13 = some (.istore_n 2, 1, 0, 0, 0) from rfl) (by decide) (fun _ h => h) ?_
        refine WS_lv (lv := [(0, .ref (A 179)), (1, .int (Int32.ofInt bi)), (2, .int (Int32.ofInt 0))]) (List.forall_mem_cons.mpr ⟨(List.Mem.tail _ (List.Mem.head _)), (List.forall_mem_cons.mpr ⟨(List.Mem.tail _ (List.Mem.tail _ (List.Mem.head _))), (List.forall_mem_cons.mpr ⟨(List.Mem.head _), (fun q h => absurd h List.not_mem_nil)⟩)⟩)⟩) ?_
        refine L14 ((128 - 0 : Int).toNat + 1) t bi 0 I F jjRLx (by first | exact ⟨by omega, by decide, by decide⟩ | omega) (Nat.lt_succ_self _) ?_
        intro s4005 x4006 Is4005 Fs4005 JRLx_s4005 hs4005
        have b4007 : (0 : Int) ≤ iI s4005 97 ∧ iI s4005 97 ≤ 8 := Is4005.1 97
        refine z_const X (show cdA 260 34 = some (.iconst 0, 1, 0, 0, 0) from rfl) ?_
        refine z_store_n X (lv' := [(2, .int (Int32.ofInt 0)), (0, .ref (A 179)), (1, .int (Int32.ofInt bi))]) (show cdA 260 35 = some (.istore_n 2, 1, 0, 0, 0) from rfl) (by decide) (fun _ h => h) ?_
        refine WS_lv (lv := [(0, .ref (A 179)), (1, .int (Int32.ofInt bi)), (2, .int (Int32.ofInt 0))]) (List.forall_mem_cons.mpr ⟨(List.Mem.tail _ (List.Mem.head _)), (List.forall_mem_cons.mpr ⟨(List.Mem.tail _ (List.Mem.tail _ (List.Mem.head _))), (List.forall_mem_cons.mpr ⟨(List.Mem.head _), (fun q h => absurd h List.not_mem_nil)⟩)⟩)⟩) ?_
        refine L36 ((8 - 0 : Int).toNat + 1) s4005 bi 0 Is4005 Fs4005 JRLx_s4005 (by first | exact ⟨And.intro (hs4005.1.1) (hs4005.1.2), by decide, by decide⟩ | omega) (Nat.lt_succ_self _) ?_
        intro s4008 x4009 Is4008 Fs4008 JRLx_s4008 hs4008
        have b4010 : (0 : Int) ≤ iI s4008 97 ∧ iI s4008 97 ≤ 8 := Is4008.1 97
        refine z_aload_n X (x := A 179) (show cdA 260 71 = some (.aload_n 0, 1, 0, 0, 0) from rfl) (List.Mem.head _) ?_
        refine s_getR X 179 (show cdA 260 72 = some (.getfield 110, 3, 12, 55, 0) from rfl) (by decide) rfl rfl ?_
        refine z_load_n X (x := bi) (show cdA 260 75 = some (.iload_n 1, 1, 0, 0, 0) from rfl) (List.Mem.tail _ (List.Mem.head _)) ?_
        refine z_aload_n X (x := A 179) (show cdA 260 76 = some (.aload_n 0, 1, 0, 0, 0) from rfl) (List.Mem.head _) ?_
        refine z_callV X 179 (rm := rmN 239) (As := []) (st := [.int (Int32.ofInt bi), .ref (A 268)]) (show cdA 260 77 = some (.invokevirtual 339, 3, 239, 0, 0) from rfl) rfl (by decide) rfl (by rw [E.1, E.2.1, E.2.2.1]; exact k_hangs G Is4008 ) ⟨by rw [E.2.2.2]; exact (show (rmN 239).frames + 1 ≤ (rmN 260).frames by decide), by rw [E.2.2.2]; exact (show 8 + (mNL (miB 239) + 11) + (rmN 239).locals ≤ (rmN 260).locals by decide), by rw [E.2.2.2]; exact (show 0 + (rmN 239).cells ≤ (rmN 260).cells by decide), by rw [E.2.2.2]; exact (show 0 + (rmN 239).slots ≤ (rmN 260).slots by decide)⟩ (Nat.le_of_ble_eq_true rfl) (fun vv s4011 hq => ?_) (fun ee s4011 hq => ?_)
        rotate_left
        · obtain ⟨Is4011, Fs4011, e4012, hv, hrs4011, hps4011⟩ := hq; cases hv
        obtain ⟨Is4011, Fs4011, e4012, hv, hrs4011, hps4011⟩ := hq
        cases hv
        have Gs4011 := fm_ts Fs4008 Fs4011 (by decide) (by decide)
        have JRLx_s4011 : RLx s4011 := RLx_fm Fs4011 (by decide) JRLx_s4008
        have ws4011_97 : iI s4011 97 = iI s4008 97 := fm_i Fs4011 (by decide)
        show WS k 80 [(0, .ref (A 179)), (1, .int (Int32.ofInt bi)), (2, .int (Int32.ofInt x4009))] [.int (Int32.ofInt e4012), .int (Int32.ofInt bi), .ref (A 268)] (Wd A dT s4011) 0 0
        refine z_zast X 268 (show cdA 260 80 = some (.bastore, 1, 0, 0, 0) from rfl) (by decide) rfl (by first | exact oq_2a6e3b50 hs4008.1.1 | omega) (show bi < 256 by first | exact oq_29e5dbe2 hs4008.1.2 | omega) (by decide) (by first | exact hps4011 | omega) ?_
        obtain ⟨s4013, hs4013⟩ : ∃ x0, x0 = uC s4011 240 (bi).toNat (Int32.ofInt e4012) := ⟨_, rfl⟩
        rw [← hs4013]
        have Is4013 : Bd s4013 := by rw [hs4013]; exact bd_C Is4011 (show (0 : Int) ≤ e4012 ∧ e4012 ≤ 1 by first | exact ⟨oq_e4aca38c hps4011, oq_14617724 hps4011⟩ | omega) hrs4011
        have Fs4013 := fm_C (i := (bi).toNat) (x := Int32.ofInt e4012) Gs4011 (show 240 ∈ _ by decide)
        rw [← hs4013] at Fs4013
        have ws4013_97 : iI s4013 97 = iI s4011 97 := by rw [hs4013]; rfl
        have fs4013 : Fm [] [240] s4011 s4013 := by rw [hs4013]; exact fm_C (fm_rf _ _ _) (show 240 ∈ _ by decide)
        have JRLx_s4013 : RLx s4013 := RLx_fm fs4013 (by decide) JRLx_s4011
        refine z_aload_n X (x := A 179) (show cdA 260 81 = some (.aload_n 0, 1, 0, 0, 0) from rfl) (List.Mem.head _) ?_
        refine s_getR X 179 (show cdA 260 82 = some (.getfield 104, 3, 12, 53, 0) from rfl) (by decide) rfl rfl ?_
        refine z_load_n X (x := bi) (show cdA 260 85 = some (.iload_n 1, 1, 0, 0, 0) from rfl) (List.Mem.tail _ (List.Mem.head _)) ?_
        refine z_const X (show cdA 260 86 = some (.iconst 0, 1, 0, 0, 0) from rfl) ?_
        refine z_ast X 266 (show cdA 260 87 = some (.iastore, 1, 0, 0, 0) from rfl) (by decide) rfl (by first | exact oq_2a6e3b50 hs4008.1.1 | omega) (show bi < 256 by first | exact oq_29e5dbe2 hs4008.1.2 | omega) (by decide) ?_
        obtain ⟨s4014, hs4014⟩ : ∃ x0, x0 = uC s4013 238 (bi).toNat (Int32.ofInt 0) := ⟨_, rfl⟩
        rw [← hs4014]
        have Is4014 : Bd s4014 := by rw [hs4014]; exact bd_C Is4013 (show ((-2147483648) : Int) ≤ 0 ∧ 0 ≤ 2147483647 by first | exact ⟨by decide, by decide⟩ | omega) (by decide)
        have Fs4014 := fm_C (i := (bi).toNat) (x := Int32.ofInt 0) Fs4013 (show 238 ∈ _ by decide)
        rw [← hs4014] at Fs4014
        have ws4014_97 : iI s4014 97 = iI s4013 97 := by rw [hs4014]; rfl
        have fs4014 : Fm [] [238] s4013 s4014 := by rw [hs4014]; exact fm_C (fm_rf _ _ _) (show 238 ∈ _ by decide)
        have JRLx_s4014 : RLx s4014 := RLx_fm fs4014 (by decide) JRLx_s4013
        refine z_aload_n X (x := A 179) (show cdA 260 88 = some (.aload_n 0, 1, 0, 0, 0) from rfl) (List.Mem.head _) ?_
        refine s_getR X 179 (show cdA 260 89 = some (.getfield 107, 3, 12, 54, 0) from rfl) (by decide) rfl rfl ?_
        refine z_load_n X (x := bi) (show cdA 260 92 = some (.iload_n 1, 1, 0, 0, 0) from rfl) (List.Mem.tail _ (List.Mem.head _)) ?_
        refine z_const X (show cdA 260 93 = some (.iconst 0, 1, 0, 0, 0) from rfl) ?_
        refine z_ast X 267 (show cdA 260 94 = some (.iastore, 1, 0, 0, 0) from rfl) (by decide) rfl (by first | exact oq_2a6e3b50 hs4008.1.1 | omega) (show bi < 256 by first | exact oq_29e5dbe2 hs4008.1.2 | omega) (by decide) ?_
        obtain ⟨s4015, hs4015⟩ : ∃ x0, x0 = uC s4014 239 (bi).toNat (Int32.ofInt 0) := ⟨_, rfl⟩
        rw [← hs4015]
        have Is4015 : Bd s4015 := by rw [hs4015]; exact bd_C Is4014 (show ((-2147483648) : Int) ≤ 0 ∧ 0 ≤ 2147483647 by first | exact ⟨by decide, by decide⟩ | omega) (by decide)
        have Fs4015 := fm_C (i := (bi).toNat) (x := Int32.ofInt 0) Fs4014 (show 239 ∈ _ by decide)
        rw [← hs4015] at Fs4015
        have ws4015_97 : iI s4015 97 = iI s4014 97 := by rw [hs4015]; rfl
        have fs4015 : Fm [] [239] s4014 s4015 := by rw [hs4015]; exact fm_C (fm_rf _ _ _) (show 239 ∈ _ by decide)
        have JRLx_s4015 : RLx s4015 := RLx_fm fs4015 (by decide) JRLx_s4014
        refine z_aload_n X (x := A 179) (show cdA 260 95 = some (.aload_n 0, 1, 0, 0, 0) from rfl) (List.Mem.head _) ?_
        refine z_callV X 179 (rm := rmN 223) (As := []) (st := []) (show cdA 260 96 = some (.invokevirtual 306, 3, 223, 0, 0) from rfl) rfl (by decide) rfl (by rw [E.1, E.2.1, E.2.2.1]; exact k_waysAsTold G Is4015 JRLx_s4015 ) ⟨by rw [E.2.2.2]; exact (show (rmN 223).frames + 1 ≤ (rmN 260).frames by decide), by rw [E.2.2.2]; exact (show 8 + (mNL (miB 223) + 11) + (rmN 223).locals ≤ (rmN 260).locals by decide), by rw [E.2.2.2]; exact (show 0 + (rmN 223).cells ≤ (rmN 260).cells by decide), by rw [E.2.2.2]; exact (show 0 + (rmN 223).slots ≤ (rmN 260).slots by decide)⟩ (Nat.le_of_ble_eq_true rfl) (fun vv s4016 hq => ?_) (fun ee s4016 hq => ?_)
        rotate_left
        · obtain ⟨Is4016, Fs4016, JRLx_s4016, JNQ_s4016, hv, hps4016⟩ := hq; cases hv
        obtain ⟨Is4016, Fs4016, JRLx_s4016, JNQ_s4016, hv, hps4016⟩ := hq
        cases hv
        have Gs4016 := fm_ts Fs4015 Fs4016 (by decide) (by decide)
        have JRLx_s4016 : RLx s4016 := RLx_fm Fs4016 (by decide) JRLx_s4015
        have ws4016_97 : iI s4016 97 = iI s4015 97 := fm_i Fs4016 (by decide)
        show WS k 99 [(0, .ref (A 179)), (1, .int (Int32.ofInt bi)), (2, .int (Int32.ofInt x4009))] [] (Wd A dT s4016) 0 0
        refine z_const X (show cdA 260 99 = some (.iconst 0, 1, 0, 0, 0) from rfl) ?_
        refine z_store_n X (lv' := [(2, .int (Int32.ofInt 0)), (0, .ref (A 179)), (1, .int (Int32.ofInt bi))]) (show cdA 260 100 = some (.istore_n 2, 1, 0, 0, 0) from rfl) (by decide) (fun _ h => h) ?_
        refine WS_lv (lv := [(0, .ref (A 179)), (1, .int (Int32.ofInt bi)), (2, .int (Int32.ofInt 0))]) (List.forall_mem_cons.mpr ⟨(List.Mem.tail _ (List.Mem.head _)), (List.forall_mem_cons.mpr ⟨(List.Mem.tail _ (List.Mem.tail _ (List.Mem.head _))), (List.forall_mem_cons.mpr ⟨(List.Mem.head _), (fun q h => absurd h List.not_mem_nil)⟩)⟩)⟩) ?_
        refine L101 ((24 - 0 : Int).toNat + 1) s4016 bi 0 Is4016 Gs4016 JRLx_s4016 JNQ_s4016 (by first | exact ⟨And.intro (hs4008.1.1) (hs4008.1.2), by decide, by decide⟩ | omega) (Nat.lt_succ_self _) ?_
        intro s4018 x4019 Is4018 Fs4018 JRLx_s4018 Qs4018 hs4018
        have b4020 : (0 : Int) ≤ iI s4018 97 ∧ iI s4018 97 ≤ 8 := Is4018.1 97
        refine z_inc X (x := bi) (lv' := [(1, .int (Int32.ofInt (bi + 1))), (0, .ref (A 179)), (2, .int (Int32.ofInt x4019))]) (show cdA 260 177 = some (.iinc 1 1, 3, 0, 0, 0) from rfl) (by decide) (List.Mem.tail _ (List.Mem.head _)) (fun _ h => h) ?_
        refine z_goto X (t := 2) (show cdA 260 180 = some (.goto (-178), 3, 0, 0, 0) from rfl) (by decide) ?_
        refine WS_lv (lv := [(0, .ref (A 179)), (1, .int (Int32.ofInt (bi + 1)))]) (List.forall_mem_cons.mpr ⟨(List.Mem.tail _ (List.Mem.head _)), (List.forall_mem_cons.mpr ⟨(List.Mem.head _), (fun q h => absurd h List.not_mem_nil)⟩)⟩) ?_
        exact ih _ (bi + 1) Is4018 Fs4018 JRLx_s4018 (by first | exact ⟨oq_1e1a2df6 hs4018.1.1, oq_3fc2ba08 hs4018.1.2⟩ | omega) (by first | exact qk_me hm (by decide) (oq_0e4c52fb hs4018.1.2) | omega) kx
  refine z_const X (show cdA 260 0 = some (.iconst 1, 1, 0, 0, 0) from rfl) ?_
  refine z_store_n X (lv' := [(1, .int (Int32.ofInt 1)), (0, .ref (A 179))]) (show cdA 260 1 = some (.istore_n 1, 1, 0, 0, 0) from rfl) (by decide) (fun _ h => h) ?_
  refine WS_lv (lv := [(0, .ref (A 179)), (1, .int (Int32.ofInt 1))]) (List.forall_mem_cons.mpr ⟨(List.Mem.tail _ (List.Mem.head _)), (List.forall_mem_cons.mpr ⟨(List.Mem.head _), (fun q h => absurd h List.not_mem_nil)⟩)⟩) ?_
  refine L2 ((256 - 1 : Int).toNat + 1) s 1 I F jRLx (by first | exact ⟨by decide, by decide⟩ | omega) (Nat.lt_succ_self _) ?_
  intro s2 x3 Is2 Fs2 JRLx_s2 hs2
  have b4 : (0 : Int) ≤ iI s2 97 ∧ iI s2 97 ≤ 8 := Is2.1 97
  exact w_vret X.1 q hRt (ax_d X (show cdA 260 183 = some (.return_, 1, 0, 0, 0) from rfl)) (Nat.zero_le _) (Nat.zero_le _) ⟨_, rfl, Is2, Fs2, JRLx_s2, rfl, trivial⟩
set_option maxRecDepth 4000 in
theorem k_judges (G : GX l s0 D tys a0 dT) (I : Bd s) {x : Int} (p0 : 0 ≤ x ∧ x ≤ 3) : CT l s0 D A dT 262 (rmN 262) [.ref (A 179), .int (Int32.ofInt x)] s (fun o t => Bd t ∧ Fm [100, 101] [236] s t ∧ o = .inl none ∧ (True)) := by
  refine ct_of G (by decide) (Nat.le_of_ble_eq_true rfl) (fun k X E hRt hXt q => ?_)
  show WS k 0 [(0, .ref (A 179)), (1, .int (Int32.ofInt x))] [] _ 0 0
  have F : Fm [100, 101] [236] s s := fm_rf _ _ s
  have b1 : (0 : Int) ≤ iI s 97 ∧ iI s 97 ≤ 8 := I.1 97
  have L19 : ∀ (n : Nat) (t : PS) (xv pk ov hh bi ka : Int), Bd t → Fm [100, 101] [236] s t → ((0 ≤ xv ∧ xv ≤ 3) ∧ rng pk ∧ rng ov ∧ (0 ≤ hh ∧ hh ≤ 2) ∧ (0 ≤ bi ∧ bi ≤ 255) ∧ 0 ≤ ka ∧ ka ≤ 8) → (8 - ka : Int).toNat < n → (∀ (t' : PS) (bi' ka' : Int), Bd t' → Fm [100, 101] [236] s t' → ((0 ≤ xv ∧ xv ≤ 3) ∧ rng pk ∧ rng ov ∧ (0 ≤ hh ∧ hh ≤ 2) ∧ (0 ≤ bi' ∧ bi' ≤ 255) ∧ 0 ≤ ka' ∧ ka' ≤ 8) → WS k 59 [(0, .ref (A 179)), (1, .int (Int32.ofInt xv)), (2, .int (Int32.ofInt pk)), (3, .int (Int32.ofInt ov)), (4, .int (Int32.ofInt hh)), (5, .int (Int32.ofInt bi')), (6, .int (Int32.ofInt ka'))] [] (Wd A dT t') 0 0) → WS k 19 [(0, .ref (A 179)), (1, .int (Int32.ofInt xv)), (2, .int (Int32.ofInt pk)), (3, .int (Int32.ofInt ov)), (4, .int (Int32.ofInt hh)), (5, .int (Int32.ofInt bi)), (6, .int (Int32.ofInt ka))] [] (Wd A dT t) 0 0 := by
    intro n
    induction n with
    | zero =>
      intro t xv pk ov hh bi ka I F hi hm kx
      exact absurd hm (Nat.not_lt_zero _)
    | succ n ih =>
      intro t xv pk ov hh bi ka I F hi hm kx
      have b1001 : (0 : Int) ≤ iI t 97 ∧ iI t 97 ≤ 8 := I.1 97
      refine z_load X (x := ka) (show cdA 262 19 = some (.iload 6, 2, 0, 0, 0) from rfl) (List.Mem.tail _ (List.Mem.tail _ (List.Mem.tail _ (List.Mem.tail _ (List.Mem.tail _ (List.Mem.tail _ (List.Mem.head _))))))) ?_
      refine z_aload_n X (x := A 179) (show cdA 262 21 = some (.aload_n 0, 1, 0, 0, 0) from rfl) (List.Mem.head _) ?_
      refine z_getI X 179 (show cdA 262 22 = some (.getfield 384, 3, 12, 46, 0) from rfl) (by decide) rfl rfl ?_
      have b1002 : (0 : Int) ≤ iI t 97 ∧ iI t 97 ≤ 8 := I.1 97
      refine z_icmp_ge X (t := 59) (show cdA 262 25 = some (.if_icmp .ge 34, 3, 3, 0, 0) from rfl) (by decide) ⟨by first | exact oq_fa4e5087 hi.2.2.2.2.2.1 | omega, by first | exact oq_d3f5d874 hi.2.2.2.2.2.2 | omega⟩ (rng_to _) (fun g1003 => ?_) (fun g1003 => ?_)
      ·
        refine WS_lv (lv := [(0, .ref (A 179)), (1, .int (Int32.ofInt xv)), (2, .int (Int32.ofInt pk)), (3, .int (Int32.ofInt ov)), (4, .int (Int32.ofInt hh)), (5, .int (Int32.ofInt bi)), (6, .int (Int32.ofInt ka))]) (List.forall_mem_cons.mpr ⟨(List.Mem.head _), (List.forall_mem_cons.mpr ⟨(List.Mem.tail _ (List.Mem.head _)), (List.forall_mem_cons.mpr ⟨(List.Mem.tail _ (List.Mem.tail _ (List.Mem.head _))), (List.forall_mem_cons.mpr ⟨(List.Mem.tail _ (List.Mem.tail _ (List.Mem.tail _ (List.Mem.head _)))), (List.forall_mem_cons.mpr ⟨(List.Mem.tail _ (List.Mem.tail _ (List.Mem.tail _ (List.Mem.tail _ (List.Mem.head _))))), (List.forall_mem_cons.mpr ⟨(List.Mem.tail _ (List.Mem.tail _ (List.Mem.tail _ (List.Mem.tail _ (List.Mem.tail _ (List.Mem.head _)))))), (List.forall_mem_cons.mpr ⟨(List.Mem.tail _ (List.Mem.tail _ (List.Mem.tail _ (List.Mem.tail _ (List.Mem.tail _ (List.Mem.tail _ (List.Mem.head _))))))), (fun q h => absurd h List.not_mem_nil)⟩)⟩)⟩)⟩)⟩)⟩)⟩) ?_
        exact kx _ bi ka I F (by first | exact ⟨And.intro (hi.1.1) (hi.1.2), And.intro (hi.2.1.1) (hi.2.1.2), And.intro (hi.2.2.1.1) (hi.2.2.1.2), And.intro (hi.2.2.2.1.1) (hi.2.2.2.1.2), And.intro (hi.2.2.2.2.1.1) (hi.2.2.2.2.1.2), hi.2.2.2.2.2.1, hi.2.2.2.2.2.2⟩ | omega)
      ·
        refine z_load X (x := bi) (show cdA 262 28 = some (.iload 5, 2, 0, 0, 0) from rfl) (List.Mem.tail _ (List.Mem.tail _ (List.Mem.tail _ (List.Mem.tail _ (List.Mem.tail _ (List.Mem.head _)))))) ?_
        refine z_aload_n X (x := A 179) (show cdA 262 30 = some (.aload_n 0, 1, 0, 0, 0) from rfl) (List.Mem.head _) ?_
        refine s_getR X 179 (show cdA 262 31 = some (.getfield 95, 3, 12, 50, 0) from rfl) (by decide) rfl rfl ?_
        refine z_load X (x := ka) (show cdA 262 34 = some (.iload 6, 2, 0, 0, 0) from rfl) (List.Mem.tail _ (List.Mem.tail _ (List.Mem.tail _ (List.Mem.tail _ (List.Mem.tail _ (List.Mem.tail _ (List.Mem.head _))))))) ?_
        refine z_ald X 263 (show cdA 262 36 = some (.iaload, 1, 0, 0, 0) from rfl) (by decide) rfl (by first | exact hi.2.2.2.2.2.1 | omega) (show ka < 8 by first | exact oq_7f5b2e79 g1003 b1002.2 | omega) (by decide) ?_
        have b1004 : (0 : Int) ≤ iC t 235 (ka).toNat ∧ iC t 235 (ka).toNat ≤ 7 := I.2 235 _ (show (ka).toNat < 8 by first | exact oq_67be0351 g1003 b1002.2 | omega)
        refine z_load X (x := hh) (show cdA 262 37 = some (.iload 4, 2, 0, 0, 0) from rfl) (List.Mem.tail _ (List.Mem.tail _ (List.Mem.tail _ (List.Mem.tail _ (List.Mem.head _))))) ?_
        refine z_icmp_ne X (t := 49) (show cdA 262 39 = some (.if_icmp .ne 10, 3, 1, 0, 0) from rfl) (by decide) (rng_to _) ⟨by first | exact oq_fa4e5087 hi.2.2.2.1.1 | omega, by first | exact oq_861e1648 hi.2.2.2.1.2 | omega⟩ (fun g1005 => ?_) (fun g1005 => ?_)
        ·
          refine z_const X (show cdA 262 49 = some (.iconst 0, 1, 0, 0, 0) from rfl) ?_
          refine z_orb X (show cdA 262 50 = some (.ior, 1, 0, 0, 0) from rfl) 8 (by decide) (show 0 ≤ bi ∧ bi < 2 ^ 8 by omega) (show 0 ≤ 0 ∧ 0 < 2 ^ 8 by omega) (fun y1006 hy1006 iy1006 => ?_)
          have ib1007 : y1006 < 256 := iy1006
          refine z_store X (lv' := [(5, .int (Int32.ofInt y1006)), (0, .ref (A 179)), (1, .int (Int32.ofInt xv)), (2, .int (Int32.ofInt pk)), (3, .int (Int32.ofInt ov)), (4, .int (Int32.ofInt hh)), (6, .int (Int32.ofInt ka))]) (show cdA 262 51 = some (.istore 5, 2, 0, 0, 0) from rfl) (by decide) (fun _ h => h) ?_
          refine z_inc X (x := ka) (lv' := [(6, .int (Int32.ofInt (ka + 1))), (5, .int (Int32.ofInt y1006)), (0, .ref (A 179)), (1, .int (Int32.ofInt xv)), (2, .int (Int32.ofInt pk)), (3, .int (Int32.ofInt ov)), (4, .int (Int32.ofInt hh))]) (show cdA 262 53 = some (.iinc 6 1, 3, 0, 0, 0) from rfl) (by decide) (List.Mem.tail _ (List.Mem.tail _ (List.Mem.tail _ (List.Mem.tail _ (List.Mem.tail _ (List.Mem.tail _ (List.Mem.head _))))))) (fun _ h => h) ?_
          refine z_goto X (t := 19) (show cdA 262 56 = some (.goto (-37), 3, 0, 0, 0) from rfl) (by decide) ?_
          refine WS_lv (lv := [(0, .ref (A 179)), (1, .int (Int32.ofInt xv)), (2, .int (Int32.ofInt pk)), (3, .int (Int32.ofInt ov)), (4, .int (Int32.ofInt hh)), (5, .int (Int32.ofInt y1006)), (6, .int (Int32.ofInt (ka + 1)))]) (List.forall_mem_cons.mpr ⟨(List.Mem.tail _ (List.Mem.tail _ (List.Mem.head _))), (List.forall_mem_cons.mpr ⟨(List.Mem.tail _ (List.Mem.tail _ (List.Mem.tail _ (List.Mem.head _)))), (List.forall_mem_cons.mpr ⟨(List.Mem.tail _ (List.Mem.tail _ (List.Mem.tail _ (List.Mem.tail _ (List.Mem.head _))))), (List.forall_mem_cons.mpr ⟨(List.Mem.tail _ (List.Mem.tail _ (List.Mem.tail _ (List.Mem.tail _ (List.Mem.tail _ (List.Mem.head _)))))), (List.forall_mem_cons.mpr ⟨(List.Mem.tail _ (List.Mem.tail _ (List.Mem.tail _ (List.Mem.tail _ (List.Mem.tail _ (List.Mem.tail _ (List.Mem.head _))))))), (List.forall_mem_cons.mpr ⟨(List.Mem.tail _ (List.Mem.head _)), (List.forall_mem_cons.mpr ⟨(List.Mem.head _), (fun q h => absurd h List.not_mem_nil)⟩)⟩)⟩)⟩)⟩)⟩)⟩) ?_
          exact ih _ xv pk ov hh y1006 (ka + 1) I F (by first | exact ⟨And.intro (hi.1.1) (hi.1.2), And.intro (hi.2.1.1) (hi.2.1.2), And.intro (hi.2.2.1.1) (hi.2.2.1.2), And.intro (hi.2.2.2.1.1) (hi.2.2.2.1.2), And.intro (hy1006) (oq_b4026d49 ib1007), oq_54f49eb5 hi.2.2.2.2.2.1, oq_f6204d84 g1003 b1002.2⟩ | omega) (by first | exact qk_me hm (by decide) (oq_ccc5e5e0 g1003 b1002.2) | omega) kx
        ·
          refine z_const X (show cdA 262 42 = some (.iconst 1, 1, 0, 0, 0) from rfl) ?_
          refine z_load X (x := ka) (show cdA 262 43 = some (.iload 6, 2, 0, 0, 0) from rfl) (List.Mem.tail _ (List.Mem.tail _ (List.Mem.tail _ (List.Mem.tail _ (List.Mem.tail _ (List.Mem.tail _ (List.Mem.head _))))))) ?_
          refine z_shl1 X (show cdA 262 45 = some (.ishl, 1, 0, 0, 0) from rfl) (by first | exact ⟨hi.2.2.2.2.2.1, oq_58cbab50 hi.2.2.2.2.2.2⟩ | omega) (fun y1008 hy1008 iy1008 jy1008 ky1008 => ?_)
          refine z_goto X (t := 50) (show cdA 262 46 = some (.goto 4, 3, 0, 0, 0) from rfl) (by decide) ?_
          refine z_orb X (show cdA 262 50 = some (.ior, 1, 0, 0, 0) from rfl) 8 (by decide) (show 0 ≤ bi ∧ bi < 2 ^ 8 by omega) (show 0 ≤ y1008 ∧ y1008 < 2 ^ 8 by omega) (fun y1009 hy1009 iy1009 => ?_)
          have ib1010 : y1009 < 256 := iy1009
          refine z_store X (lv' := [(5, .int (Int32.ofInt y1009)), (0, .ref (A 179)), (1, .int (Int32.ofInt xv)), (2, .int (Int32.ofInt pk)), (3, .int (Int32.ofInt ov)), (4, .int (Int32.ofInt hh)), (6, .int (Int32.ofInt ka))]) (show cdA 262 51 = some (.istore 5, 2, 0, 0, 0) from rfl) (by decide) (fun _ h => h) ?_
          refine z_inc X (x := ka) (lv' := [(6, .int (Int32.ofInt (ka + 1))), (5, .int (Int32.ofInt y1009)), (0, .ref (A 179)), (1, .int (Int32.ofInt xv)), (2, .int (Int32.ofInt pk)), (3, .int (Int32.ofInt ov)), (4, .int (Int32.ofInt hh))]) (show cdA 262 53 = some (.iinc 6 1, 3, 0, 0, 0) from rfl) (by decide) (List.Mem.tail _ (List.Mem.tail _ (List.Mem.tail _ (List.Mem.tail _ (List.Mem.tail _ (List.Mem.tail _ (List.Mem.head _))))))) (fun _ h => h) ?_
          refine z_goto X (t := 19) (show cdA 262 56 = some (.goto (-37), 3, 0, 0, 0) from rfl) (by decide) ?_
          refine WS_lv (lv := [(0, .ref (A 179)), (1, .int (Int32.ofInt xv)), (2, .int (Int32.ofInt pk)), (3, .int (Int32.ofInt ov)), (4, .int (Int32.ofInt hh)), (5, .int (Int32.ofInt y1009)), (6, .int (Int32.ofInt (ka + 1)))]) (List.forall_mem_cons.mpr ⟨(List.Mem.tail _ (List.Mem.tail _ (List.Mem.head _))), (List.forall_mem_cons.mpr ⟨(List.Mem.tail _ (List.Mem.tail _ (List.Mem.tail _ (List.Mem.head _)))), (List.forall_mem_cons.mpr ⟨(List.Mem.tail _ (List.Mem.tail _ (List.Mem.tail _ (List.Mem.tail _ (List.Mem.head _))))), (List.forall_mem_cons.mpr ⟨(List.Mem.tail _ (List.Mem.tail _ (List.Mem.tail _ (List.Mem.tail _ (List.Mem.tail _ (List.Mem.head _)))))), (List.forall_mem_cons.mpr ⟨(List.Mem.tail _ (List.Mem.tail _ (List.Mem.tail _ (List.Mem.tail _ (List.Mem.tail _ (List.Mem.tail _ (List.Mem.head _))))))), (List.forall_mem_cons.mpr ⟨(List.Mem.tail _ (List.Mem.head _)), (List.forall_mem_cons.mpr ⟨(List.Mem.head _), (fun q h => absurd h List.not_mem_nil)⟩)⟩)⟩)⟩)⟩)⟩)⟩) ?_
          exact ih _ xv pk ov hh y1009 (ka + 1) I F (by first | exact ⟨And.intro (hi.1.1) (hi.1.2), And.intro (hi.2.1.1) (hi.2.1.2), And.intro (hi.2.2.1.1) (hi.2.2.1.2), And.intro (hi.2.2.2.1.1) (hi.2.2.2.1.2), And.intro (hy1009) (oq_b4026d49 ib1010), oq_54f49eb5 hi.2.2.2.2.2.1, oq_f6204d84 g1003 b1002.2⟩ | omega) (by first | exact qk_me hm (by decide) (oq_ccc5e5e0 g1003 b1002.2) | omega) kx
  have L7 : ∀ (n : Nat) (t : PS) (xv pk ov hh : Int), Bd t → Fm [100, 101] [236] s t → ((0 ≤ xv ∧ xv ≤ 3) ∧ rng pk ∧ rng ov ∧ 0 ≤ hh ∧ hh ≤ 3) → (3 - hh : Int).toNat < n → (∀ (t' : PS) (pk' ov' hh' : Int), Bd t' → Fm [100, 101] [236] s t' → ((0 ≤ xv ∧ xv ≤ 3) ∧ rng pk' ∧ rng ov' ∧ 0 ≤ hh' ∧ hh' ≤ 3) → WS k 114 [(0, .ref (A 179)), (1, .int (Int32.ofInt xv)), (2, .int (Int32.ofInt pk')), (3, .int (Int32.ofInt ov')), (4, .int (Int32.ofInt hh'))] [] (Wd A dT t') 0 0) → WS k 7 [(0, .ref (A 179)), (1, .int (Int32.ofInt xv)), (2, .int (Int32.ofInt pk)), (3, .int (Int32.ofInt ov)), (4, .int (Int32.ofInt hh))] [] (Wd A dT t) 0 0 := by
    intro n
    induction n with
    | zero =>
      intro t xv pk ov hh I F hi hm kx
      exact absurd hm (Nat.not_lt_zero _)
    | succ n ih =>
      intro t xv pk ov hh I F hi hm kx
      have b2001 : (0 : Int) ≤ iI t 97 ∧ iI t 97 ≤ 8 := I.1 97
      refine z_load X (x := hh) (show cdA 262 7 = some (.iload 4, 2, 0, 0, 0) from rfl) (List.Mem.tail _ (List.Mem.tail _ (List.Mem.tail _ (List.Mem.tail _ (List.Mem.head _))))) ?_
      refine z_load_n X (x := xv) (show cdA 262 9 = some (.iload_n 1, 1, 0, 0, 0) from rfl) (List.Mem.tail _ (List.Mem.head _)) ?_
      refine z_icmp_ge X (t := 114) (show cdA 262 10 = some (.if_icmp .ge 104, 3, 3, 0, 0) from rfl) (by decide) ⟨by first | exact oq_fa4e5087 hi.2.2.2.1 | omega, by first | exact oq_c5520c83 hi.2.2.2.2 | omega⟩ ⟨by first | exact oq_fa4e5087 hi.1.1 | omega, by first | exact oq_c5520c83 hi.1.2 | omega⟩ (fun g2002 => ?_) (fun g2002 => ?_)
      ·
        refine WS_lv (lv := [(0, .ref (A 179)), (1, .int (Int32.ofInt xv)), (2, .int (Int32.ofInt pk)), (3, .int (Int32.ofInt ov)), (4, .int (Int32.ofInt hh))]) (List.forall_mem_cons.mpr ⟨(List.Mem.head _), (List.forall_mem_cons.mpr ⟨(List.Mem.tail _ (List.Mem.head _)), (List.forall_mem_cons.mpr ⟨(List.Mem.tail _ (List.Mem.tail _ (List.Mem.head _))), (List.forall_mem_cons.mpr ⟨(List.Mem.tail _ (List.Mem.tail _ (List.Mem.tail _ (List.Mem.head _)))), (List.forall_mem_cons.mpr ⟨(List.Mem.tail _ (List.Mem.tail _ (List.Mem.tail _ (List.Mem.tail _ (List.Mem.head _))))), (fun q h => absurd h List.not_mem_nil)⟩)⟩)⟩)⟩)⟩) ?_
        exact kx _ pk ov hh I F (by first | exact ⟨And.intro (hi.1.1) (hi.1.2), And.intro (hi.2.1.1) (hi.2.1.2), And.intro (hi.2.2.1.1) (hi.2.2.1.2), hi.2.2.2.1, hi.2.2.2.2⟩ | omega)
      ·
        refine z_const X (show cdA 262 13 = some (.iconst 0, 1, 0, 0, 0) from rfl) ?_
        refine z_store X (lv' := [(5, .int (Int32.ofInt 0)), (0, .ref (A 179)), (1, .int (Int32.ofInt xv)), (2, .int (Int32.ofInt pk)), (3, .int (Int32.ofInt ov)), (4, .int (Int32.ofInt hh))]) (show cdA 262 14 = some (.istore 5, 2, 0, 0, 0) from rfl) (by decide) (fun _ h => h) ?_
        refine z_const X (show cdA 262 16 = some (.iconst 0, 1, 0, 0, 0) from rfl) ?_
        refine z_store X (lv' := [(6, .int (Int32.ofInt 0)), (5, .int (Int32.ofInt 0)), (0, .ref (A 179)), (1, .int (Int32.ofInt xv)), (2, .int (Int32.ofInt pk)), (3, .int (Int32.ofInt ov)), (4, .int (Int32.ofInt hh))]) (show cdA 262 17 = some (.istore 6, 2, 0, 0, 0) from rfl) (by decide) (fun _ h => h) ?_
        refine WS_lv (lv := [(0, .ref (A 179)), (1, .int (Int32.ofInt xv)), (2, .int (Int32.ofInt pk)), (3, .int (Int32.ofInt ov)), (4, .int (Int32.ofInt hh)), (5, .int (Int32.ofInt 0)), (6, .int (Int32.ofInt 0))]) (List.forall_mem_cons.mpr ⟨(List.Mem.tail _ (List.Mem.tail _ (List.Mem.head _))), (List.forall_mem_cons.mpr ⟨(List.Mem.tail _ (List.Mem.tail _ (List.Mem.tail _ (List.Mem.head _)))), (List.forall_mem_cons.mpr ⟨(List.Mem.tail _ (List.Mem.tail _ (List.Mem.tail _ (List.Mem.tail _ (List.Mem.head _))))), (List.forall_mem_cons.mpr ⟨(List.Mem.tail _ (List.Mem.tail _ (List.Mem.tail _ (List.Mem.tail _ (List.Mem.tail _ (List.Mem.head _)))))), (List.forall_mem_cons.mpr ⟨(List.Mem.tail _ (List.Mem.tail _ (List.Mem.tail _ (List.Mem.tail _ (List.Mem.tail _ (List.Mem.tail _ (List.Mem.head _))))))), (List.forall_mem_cons.mpr ⟨(List.Mem.tail _ (List.Mem.head _)), (List.forall_mem_cons.mpr ⟨(List.Mem.head _), (fun q h => absurd h List.not_mem_nil)⟩)⟩)⟩)⟩)⟩)⟩)⟩) ?_
        refine L19 ((8 - 0 : Int).toNat + 1) t xv pk ov hh 0 0 I F (by first | exact ⟨And.intro (hi.1.1) (hi.1.2), And.intro (hi.2.1.1) (hi.2.1.2), And.intro (hi.2.2.1.1) (hi.2.2.1.2), And.intro (hi.2.2.2.1) (oq_2a2abc22 g2002 hi.1.2), And.intro (by decide) (by decide), by decide, by decide⟩ | omega) (Nat.lt_succ_self _) ?_
        intro s2003 x2004 x2005 Is2003 Fs2003 hs2003
        have b2006 : (0 : Int) ≤ iI s2003 97 ∧ iI s2003 97 ≤ 8 := Is2003.1 97
        refine z_aload_n X (x := A 179) (show cdA 262 59 = some (.aload_n 0, 1, 0, 0, 0) from rfl) (List.Mem.head _) ?_
        refine s_getR X 179 (show cdA 262 60 = some (.getfield 110, 3, 12, 55, 0) from rfl) (by decide) rfl rfl ?_
        refine z_load X (x := x2004) (show cdA 262 63 = some (.iload 5, 2, 0, 0, 0) from rfl) (List.Mem.tail _ (List.Mem.tail _ (List.Mem.tail _ (List.Mem.tail _ (List.Mem.tail _ (List.Mem.head _)))))) ?_
        refine z_zald X 268 (show cdA 262 65 = some (.baload, 1, 0, 0, 0) from rfl) (by decide) rfl (by first | exact hs2003.2.2.2.2.1.1 | omega) (show x2004 < 256 by first | exact oq_29e5dbe2 hs2003.2.2.2.2.1.2 | omega) (by decide) ?_
        have b2007 : (0 : Int) ≤ iC s2003 240 (x2004).toNat ∧ iC s2003 240 (x2004).toNat ≤ 1 := Is2003.2 240 _ (show (x2004).toNat < 256 by first | exact oq_c39a26fc hs2003.2.2.2.2.1.2 | omega)
        refine z_if_ne X (t := 70) (show cdA 262 66 = some (.ifCond .ne 4, 3, 1, 0, 0) from rfl) (by decide) (rng_to _) (fun g2008 => ?_) (fun g2008 => ?_)
        ·
          refine z_load X (x := hh) (show cdA 262 70 = some (.iload 4, 2, 0, 0, 0) from rfl) (List.Mem.tail _ (List.Mem.tail _ (List.Mem.tail _ (List.Mem.tail _ (List.Mem.head _))))) ?_
          have N2009 : ∀ e2010 : Int, (((hh = 0) ∧ (((-2147483648) : Int) ≤ iC s2003 238 (x2004).toNat ∧ iC s2003 238 (x2004).toNat ≤ 2147483647) ∧ e2010 = (iC s2003 238 (x2004).toNat)) ∨ ((hh ≠ 0) ∧ (((-2147483648) : Int) ≤ iC s2003 238 (x2004).toNat ∧ iC s2003 238 (x2004).toNat ≤ 2147483647) ∧ ((iC s2003 238 (x2004).toNat) ≤ pk) ∧ e2010 = pk) ∨ ((hh ≠ 0) ∧ (((-2147483648) : Int) ≤ iC s2003 238 (x2004).toNat ∧ iC s2003 238 (x2004).toNat ≤ 2147483647) ∧ (pk < (iC s2003 238 (x2004).toNat)) ∧ (((-2147483648) : Int) ≤ iC s2003 238 (x2004).toNat ∧ iC s2003 238 (x2004).toNat ≤ 2147483647) ∧ e2010 = (iC s2003 238 (x2004).toNat))) → WS k 97 [(0, .ref (A 179)), (1, .int (Int32.ofInt xv)), (2, .int (Int32.ofInt pk)), (3, .int (Int32.ofInt ov)), (4, .int (Int32.ofInt hh)), (5, .int (Int32.ofInt x2004)), (6, .int (Int32.ofInt x2005))] [.int (Int32.ofInt e2010)] (Wd A dT s2003) 0 0 := by
            intro e2010 he2010
            refine z_store_n X (lv' := [(2, .int (Int32.ofInt e2010)), (0, .ref (A 179)), (1, .int (Int32.ofInt xv)), (3, .int (Int32.ofInt ov)), (4, .int (Int32.ofInt hh)), (5, .int (Int32.ofInt x2004)), (6, .int (Int32.ofInt x2005))]) (show cdA 262 97 = some (.istore_n 2, 1, 0, 0, 0) from rfl) (by decide) (fun _ h => h) ?_
            refine z_load_n X (x := ov) (show cdA 262 98 = some (.iload_n 3, 1, 0, 0, 0) from rfl) (List.Mem.tail _ (List.Mem.tail _ (List.Mem.tail _ (List.Mem.head _)))) ?_
            refine z_aload_n X (x := A 179) (show cdA 262 99 = some (.aload_n 0, 1, 0, 0, 0) from rfl) (List.Mem.tail _ (List.Mem.head _)) ?_
            refine s_getR X 179 (show cdA 262 100 = some (.getfield 107, 3, 12, 54, 0) from rfl) (by decide) rfl rfl ?_
            refine z_load X (x := x2004) (show cdA 262 103 = some (.iload 5, 2, 0, 0, 0) from rfl) (List.Mem.tail _ (List.Mem.tail _ (List.Mem.tail _ (List.Mem.tail _ (List.Mem.tail _ (List.Mem.head _)))))) ?_
            refine z_ald X 267 (show cdA 262 105 = some (.iaload, 1, 0, 0, 0) from rfl) (by decide) rfl (by first | exact hs2003.2.2.2.2.1.1 | omega) (show x2004 < 256 by first | exact oq_29e5dbe2 hs2003.2.2.2.2.1.2 | omega) (by decide) ?_
            have b2011 : ((-2147483648) : Int) ≤ iC s2003 239 (x2004).toNat ∧ iC s2003 239 (x2004).toNat ≤ 2147483647 := Is2003.2 239 _ (show (x2004).toNat < 256 by first | exact oq_c39a26fc hs2003.2.2.2.2.1.2 | omega)
            refine z_add X (show cdA 262 106 = some (.iadd, 1, 0, 0, 0) from rfl) ?_
            refine z_any (fun y2012 hy2012 => ?_)
            refine z_store_n X (lv' := [(3, .int (Int32.ofInt y2012)), (2, .int (Int32.ofInt e2010)), (0, .ref (A 179)), (1, .int (Int32.ofInt xv)), (4, .int (Int32.ofInt hh)), (5, .int (Int32.ofInt x2004)), (6, .int (Int32.ofInt x2005))]) (show cdA 262 107 = some (.istore_n 3, 1, 0, 0, 0) from rfl) (by decide) (fun _ h => h) ?_
            refine z_inc X (x := hh) (lv' := [(4, .int (Int32.ofInt (hh + 1))), (3, .int (Int32.ofInt y2012)), (2, .int (Int32.ofInt e2010)), (0, .ref (A 179)), (1, .int (Int32.ofInt xv)), (5, .int (Int32.ofInt x2004)), (6, .int (Int32.ofInt x2005))]) (show cdA 262 108 = some (.iinc 4 1, 3, 0, 0, 0) from rfl) (by decide) (List.Mem.tail _ (List.Mem.tail _ (List.Mem.tail _ (List.Mem.tail _ (List.Mem.head _))))) (fun _ h => h) ?_
            refine z_goto X (t := 7) (show cdA 262 111 = some (.goto (-104), 3, 0, 0, 0) from rfl) (by decide) ?_
            refine WS_lv (lv := [(0, .ref (A 179)), (1, .int (Int32.ofInt xv)), (2, .int (Int32.ofInt e2010)), (3, .int (Int32.ofInt y2012)), (4, .int (Int32.ofInt (hh + 1)))]) (List.forall_mem_cons.mpr ⟨(List.Mem.tail _ (List.Mem.tail _ (List.Mem.tail _ (List.Mem.head _)))), (List.forall_mem_cons.mpr ⟨(List.Mem.tail _ (List.Mem.tail _ (List.Mem.tail _ (List.Mem.tail _ (List.Mem.head _))))), (List.forall_mem_cons.mpr ⟨(List.Mem.tail _ (List.Mem.tail _ (List.Mem.head _))), (List.forall_mem_cons.mpr ⟨(List.Mem.tail _ (List.Mem.head _)), (List.forall_mem_cons.mpr ⟨(List.Mem.head _), (fun q h => absurd h List.not_mem_nil)⟩)⟩)⟩)⟩)⟩) ?_
            exact ih _ xv e2010 y2012 (hh + 1) Is2003 Fs2003 (by first | exact ⟨And.intro (hs2003.1.1) (hs2003.1.2), oq_df5c764a he2010 hs2003.2.1.2 hs2003.2.1.1, And.intro (hy2012.1) (hy2012.2), oq_54f49eb5 hs2003.2.2.2.1.1, oq_0fae2c5f hs2003.2.2.2.1.2⟩ | omega) (by first | exact qk_me hm (by decide) (oq_ff4111af hs2003.2.2.2.1.2) | omega) kx
          refine z_if_eq X (t := 86) (show cdA 262 72 = some (.ifCond .eq 14, 3, 0, 0, 0) from rfl) (by decide) ⟨by first | exact oq_fa4e5087 hs2003.2.2.2.1.1 | omega, by first | exact oq_861e1648 hs2003.2.2.2.1.2 | omega⟩ (fun g2013 => ?_) (fun g2013 => ?_)
          ·
            refine z_aload_n X (x := A 179) (show cdA 262 86 = some (.aload_n 0, 1, 0, 0, 0) from rfl) (List.Mem.head _) ?_
            refine s_getR X 179 (show cdA 262 87 = some (.getfield 104, 3, 12, 53, 0) from rfl) (by decide) rfl rfl ?_
            refine z_load X (x := x2004) (show cdA 262 90 = some (.iload 5, 2, 0, 0, 0) from rfl) (List.Mem.tail _ (List.Mem.tail _ (List.Mem.tail _ (List.Mem.tail _ (List.Mem.tail _ (List.Mem.head _)))))) ?_
            refine z_ald X 266 (show cdA 262 92 = some (.iaload, 1, 0, 0, 0) from rfl) (by decide) rfl (by first | exact hs2003.2.2.2.2.1.1 | omega) (show x2004 < 256 by first | exact oq_29e5dbe2 hs2003.2.2.2.2.1.2 | omega) (by decide) ?_
            have b2014 : ((-2147483648) : Int) ≤ iC s2003 238 (x2004).toNat ∧ iC s2003 238 (x2004).toNat ≤ 2147483647 := Is2003.2 238 _ (show (x2004).toNat < 256 by first | exact oq_c39a26fc hs2003.2.2.2.2.1.2 | omega)
            refine z_goto X (t := 97) (show cdA 262 93 = some (.goto 4, 3, 0, 0, 0) from rfl) (by decide) ?_
            exact N2009 _ (Or.inl ⟨g2013, b2014, rfl⟩)
          ·
            refine z_aload_n X (x := A 179) (show cdA 262 75 = some (.aload_n 0, 1, 0, 0, 0) from rfl) (List.Mem.head _) ?_
            refine s_getR X 179 (show cdA 262 76 = some (.getfield 104, 3, 12, 53, 0) from rfl) (by decide) rfl rfl ?_
            refine z_load X (x := x2004) (show cdA 262 79 = some (.iload 5, 2, 0, 0, 0) from rfl) (List.Mem.tail _ (List.Mem.tail _ (List.Mem.tail _ (List.Mem.tail _ (List.Mem.tail _ (List.Mem.head _)))))) ?_
            refine z_ald X 266 (show cdA 262 81 = some (.iaload, 1, 0, 0, 0) from rfl) (by decide) rfl (by first | exact hs2003.2.2.2.2.1.1 | omega) (show x2004 < 256 by first | exact oq_29e5dbe2 hs2003.2.2.2.2.1.2 | omega) (by decide) ?_
            have b2015 : ((-2147483648) : Int) ≤ iC s2003 238 (x2004).toNat ∧ iC s2003 238 (x2004).toNat ≤ 2147483647 := Is2003.2 238 _ (show (x2004).toNat < 256 by first | exact oq_c39a26fc hs2003.2.2.2.2.1.2 | omega)
            refine z_load_n X (x := pk) (show cdA 262 82 = some (.iload_n 2, 1, 0, 0, 0) from rfl) (List.Mem.tail _ (List.Mem.tail _ (List.Mem.head _))) ?_
            refine z_icmp_le X (t := 96) (show cdA 262 83 = some (.if_icmp .le 13, 3, 5, 0, 0) from rfl) (by decide) (rng_to _) ⟨by first | exact hs2003.2.1.1 | omega, by first | exact hs2003.2.1.2 | omega⟩ (fun g2016 => ?_) (fun g2016 => ?_)
            ·
              refine z_load_n X (x := pk) (show cdA 262 96 = some (.iload_n 2, 1, 0, 0, 0) from rfl) (List.Mem.tail _ (List.Mem.tail _ (List.Mem.head _))) ?_
              exact N2009 _ (Or.inr (Or.inl ⟨g2013, b2015, g2016, rfl⟩))
            ·
              refine z_aload_n X (x := A 179) (show cdA 262 86 = some (.aload_n 0, 1, 0, 0, 0) from rfl) (List.Mem.head _) ?_
              refine s_getR X 179 (show cdA 262 87 = some (.getfield 104, 3, 12, 53, 0) from rfl) (by decide) rfl rfl ?_
              refine z_load X (x := x2004) (show cdA 262 90 = some (.iload 5, 2, 0, 0, 0) from rfl) (List.Mem.tail _ (List.Mem.tail _ (List.Mem.tail _ (List.Mem.tail _ (List.Mem.tail _ (List.Mem.head _)))))) ?_
              refine z_ald X 266 (show cdA 262 92 = some (.iaload, 1, 0, 0, 0) from rfl) (by decide) rfl (by first | exact hs2003.2.2.2.2.1.1 | omega) (show x2004 < 256 by first | exact oq_29e5dbe2 hs2003.2.2.2.2.1.2 | omega) (by decide) ?_
              have b2017 : ((-2147483648) : Int) ≤ iC s2003 238 (x2004).toNat ∧ iC s2003 238 (x2004).toNat ≤ 2147483647 := Is2003.2 238 _ (show (x2004).toNat < 256 by first | exact oq_c39a26fc hs2003.2.2.2.2.1.2 | omega)
              refine z_goto X (t := 97) (show cdA 262 93 = some (.goto 4, 3, 0, 0, 0) from rfl) (by decide) ?_
              exact N2009 _ (Or.inr (Or.inr (⟨g2013, b2015, g2016, b2017, rfl⟩)))
        ·
          exact w_vret X.1 q hRt (ax_d X (show cdA 262 69 = some (.return_, 1, 0, 0, 0) from rfl)) (Nat.zero_le _) (Nat.zero_le _) ⟨_, rfl, Is2003, Fs2003, rfl, trivial⟩
  have L162 : ∀ (n : Nat) (t : PS) (ka : Int), Bd t → Fm [100, 101] [236] s t → (0 ≤ ka ∧ ka ≤ 8) → (8 - ka : Int).toNat < n → (∀ (t' : PS) (ka' : Int), Bd t' → Fm [100, 101] [236] s t' → (0 ≤ ka' ∧ ka' ≤ 8) → WS k 191 [(0, .ref (A 179)), (4, .int (Int32.ofInt ka'))] [] (Wd A dT t') 0 0) → WS k 162 [(0, .ref (A 179)), (4, .int (Int32.ofInt ka))] [] (Wd A dT t) 0 0 := by
    intro n
    induction n with
    | zero =>
      intro t ka I F hi hm kx
      exact absurd hm (Nat.not_lt_zero _)
    | succ n ih =>
      intro t ka I F hi hm kx
      have b3001 : (0 : Int) ≤ iI t 97 ∧ iI t 97 ≤ 8 := I.1 97
      refine z_load X (x := ka) (show cdA 262 162 = some (.iload 4, 2, 0, 0, 0) from rfl) (List.Mem.tail _ (List.Mem.head _)) ?_
      refine z_aload_n X (x := A 179) (show cdA 262 164 = some (.aload_n 0, 1, 0, 0, 0) from rfl) (List.Mem.head _) ?_
      refine z_getI X 179 (show cdA 262 165 = some (.getfield 384, 3, 12, 46, 0) from rfl) (by decide) rfl rfl ?_
      have b3002 : (0 : Int) ≤ iI t 97 ∧ iI t 97 ≤ 8 := I.1 97
      refine z_icmp_ge X (t := 191) (show cdA 262 168 = some (.if_icmp .ge 23, 3, 3, 0, 0) from rfl) (by decide) ⟨by first | exact oq_fa4e5087 hi.1 | omega, by first | exact oq_d3f5d874 hi.2 | omega⟩ (rng_to _) (fun g3003 => ?_) (fun g3003 => ?_)
      ·
        refine WS_lv (lv := [(0, .ref (A 179)), (4, .int (Int32.ofInt ka))]) (List.forall_mem_cons.mpr ⟨(List.Mem.head _), (List.forall_mem_cons.mpr ⟨(List.Mem.tail _ (List.Mem.head _)), (fun q h => absurd h List.not_mem_nil)⟩)⟩) ?_
        exact kx _ ka I F (by first | exact ⟨hi.1, hi.2⟩ | omega)
      ·
        refine z_aload_n X (x := A 179) (show cdA 262 171 = some (.aload_n 0, 1, 0, 0, 0) from rfl) (List.Mem.head _) ?_
        refine s_getR X 179 (show cdA 262 172 = some (.getfield 98, 3, 12, 51, 0) from rfl) (by decide) rfl rfl ?_
        refine z_load X (x := ka) (show cdA 262 175 = some (.iload 4, 2, 0, 0, 0) from rfl) (List.Mem.tail _ (List.Mem.head _)) ?_
        refine z_aload_n X (x := A 179) (show cdA 262 177 = some (.aload_n 0, 1, 0, 0, 0) from rfl) (List.Mem.head _) ?_
        refine s_getR X 179 (show cdA 262 178 = some (.getfield 95, 3, 12, 50, 0) from rfl) (by decide) rfl rfl ?_
        refine z_load X (x := ka) (show cdA 262 181 = some (.iload 4, 2, 0, 0, 0) from rfl) (List.Mem.tail _ (List.Mem.head _)) ?_
        refine z_ald X 263 (show cdA 262 183 = some (.iaload, 1, 0, 0, 0) from rfl) (by decide) rfl (by first | exact hi.1 | omega) (show ka < 8 by first | exact oq_7f5b2e79 g3003 b3002.2 | omega) (by decide) ?_
        have b3004 : (0 : Int) ≤ iC t 235 (ka).toNat ∧ iC t 235 (ka).toNat ≤ 7 := I.2 235 _ (show (ka).toNat < 8 by first | exact oq_67be0351 g3003 b3002.2 | omega)
        refine z_ast X 264 (show cdA 262 184 = some (.iastore, 1, 0, 0, 0) from rfl) (by decide) rfl (by first | exact hi.1 | omega) (show ka < 8 by first | exact oq_7f5b2e79 g3003 b3002.2 | omega) (by decide) ?_
        obtain ⟨s3005, hs3005⟩ : ∃ x0, x0 = uC t 236 (ka).toNat (Int32.ofInt (iC t 235 (ka).toNat)) := ⟨_, rfl⟩
        rw [← hs3005]
        have Is3005 : Bd s3005 := by rw [hs3005]; exact bd_C I (show ((-1) : Int) ≤ (iC t 235 (ka).toNat) ∧ (iC t 235 (ka).toNat) ≤ 7 by first | exact ⟨oq_ca54ea22 b3004.1, b3004.2⟩ | omega) (rng_to _)
        have Fs3005 := fm_C (i := (ka).toNat) (x := Int32.ofInt (iC t 235 (ka).toNat)) F (show 236 ∈ _ by decide)
        rw [← hs3005] at Fs3005
        have ws3005_97 : iI s3005 97 = iI t 97 := by rw [hs3005]; rfl
        refine z_inc X (x := ka) (lv' := [(4, .int (Int32.ofInt (ka + 1))), (0, .ref (A 179))]) (show cdA 262 185 = some (.iinc 4 1, 3, 0, 0, 0) from rfl) (by decide) (List.Mem.tail _ (List.Mem.head _)) (fun _ h => h) ?_
        refine z_goto X (t := 162) (show cdA 262 188 = some (.goto (-26), 3, 0, 0, 0) from rfl) (by decide) ?_
        refine WS_lv (lv := [(0, .ref (A 179)), (4, .int (Int32.ofInt (ka + 1)))]) (List.forall_mem_cons.mpr ⟨(List.Mem.tail _ (List.Mem.head _)), (List.forall_mem_cons.mpr ⟨(List.Mem.head _), (fun q h => absurd h List.not_mem_nil)⟩)⟩) ?_
        exact ih _ (ka + 1) Is3005 Fs3005 (by first | exact ⟨oq_54f49eb5 hi.1, oq_f6204d84 g3003 b3002.2⟩ | omega) (by first | exact qk_me hm (by decide) (oq_ccc5e5e0 g3003 b3002.2) | omega) kx
  refine z_const X (show cdA 262 0 = some (.iconst 0, 1, 0, 0, 0) from rfl) ?_
  refine z_store_n X (lv' := [(2, .int (Int32.ofInt 0)), (0, .ref (A 179)), (1, .int (Int32.ofInt x))]) (show cdA 262 1 = some (.istore_n 2, 1, 0, 0, 0) from rfl) (by decide) (fun _ h => h) ?_
  refine z_const X (show cdA 262 2 = some (.iconst 0, 1, 0, 0, 0) from rfl) ?_
  refine z_store_n X (lv' := [(3, .int (Int32.ofInt 0)), (2, .int (Int32.ofInt 0)), (0, .ref (A 179)), (1, .int (Int32.ofInt x))]) (show cdA 262 3 = some (.istore_n 3, 1, 0, 0, 0) from rfl) (by decide) (fun _ h => h) ?_
  refine z_const X (show cdA 262 4 = some (.iconst 0, 1, 0, 0, 0) from rfl) ?_
  refine z_store X (lv' := [(4, .int (Int32.ofInt 0)), (3, .int (Int32.ofInt 0)), (2, .int (Int32.ofInt 0)), (0, .ref (A 179)), (1, .int (Int32.ofInt x))]) (show cdA 262 5 = some (.istore 4, 2, 0, 0, 0) from rfl) (by decide) (fun _ h => h) ?_
  refine WS_lv (lv := [(0, .ref (A 179)), (1, .int (Int32.ofInt x)), (2, .int (Int32.ofInt 0)), (3, .int (Int32.ofInt 0)), (4, .int (Int32.ofInt 0))]) (List.forall_mem_cons.mpr ⟨(List.Mem.tail _ (List.Mem.tail _ (List.Mem.tail _ (List.Mem.head _)))), (List.forall_mem_cons.mpr ⟨(List.Mem.tail _ (List.Mem.tail _ (List.Mem.tail _ (List.Mem.tail _ (List.Mem.head _))))), (List.forall_mem_cons.mpr ⟨(List.Mem.tail _ (List.Mem.tail _ (List.Mem.head _))), (List.forall_mem_cons.mpr ⟨(List.Mem.tail _ (List.Mem.head _)), (List.forall_mem_cons.mpr ⟨(List.Mem.head _), (fun q h => absurd h List.not_mem_nil)⟩)⟩)⟩)⟩)⟩) ?_
  refine L7 ((3 - 0 : Int).toNat + 1) s x 0 0 0 I F (by first | exact ⟨And.intro (p0.1) (p0.2), And.intro (by decide) (by decide), And.intro (by decide) (by decide), by decide, by decide⟩ | omega) (Nat.lt_succ_self _) ?_
  intro s2 x3 x4 x5 Is2 Fs2 hs2
  have b6 : (0 : Int) ≤ iI s2 97 ∧ iI s2 97 ≤ 8 := Is2.1 97
  refine z_aload_n X (x := A 179) (show cdA 262 114 = some (.aload_n 0, 1, 0, 0, 0) from rfl) (List.Mem.head _) ?_
  refine s_getR X 179 (show cdA 262 115 = some (.getfield 98, 3, 12, 51, 0) from rfl) (by decide) rfl rfl ?_
  refine z_const X (show cdA 262 118 = some (.iconst 0, 1, 0, 0, 0) from rfl) ?_
  refine z_ald X 264 (show cdA 262 119 = some (.iaload, 1, 0, 0, 0) from rfl) (by decide) rfl (by decide) (show 0 < 8 by decide) (by decide) ?_
  have b7 : ((-1) : Int) ≤ iC s2 236 (0 : Int).toNat ∧ iC s2 236 (0 : Int).toNat ≤ 7 := Is2.2 236 _ (show (0 : Int).toNat < 8 by first | exact oq_7f42415e | omega)
  refine z_const X (show cdA 262 120 = some (.iconst (-1), 1, 0, 0, 0) from rfl) ?_
  refine z_icmp_eq X (t := 149) (show cdA 262 121 = some (.if_icmp .eq 28, 3, 0, 0, 0) from rfl) (by decide) (rng_to _) (by decide) (fun g8 => ?_) (fun g8 => ?_)
  ·
    refine z_aload_n X (x := A 179) (show cdA 262 149 = some (.aload_n 0, 1, 0, 0, 0) from rfl) (List.Mem.head _) ?_
    refine z_load_n X (x := x3) (show cdA 262 150 = some (.iload_n 2, 1, 0, 0, 0) from rfl) (List.Mem.tail _ (List.Mem.tail _ (List.Mem.head _))) ?_
    refine s_putI X 179 (show cdA 262 151 = some (.putfield 394, 3, 12, 56, 0) from rfl) (by decide) rfl rfl (by decide) rfl rfl rfl ?_
    obtain ⟨s9, hs9⟩ : ∃ x0, x0 = uI s2 100 (Int32.ofInt x3) := ⟨_, rfl⟩
    rw [← hs9]
    have Is9 : Bd s9 := by rw [hs9]; exact bd_I Is2 (show ((-2147483648) : Int) ≤ x3 ∧ x3 ≤ 2147483647 by first | exact ⟨hs2.2.1.1, hs2.2.1.2⟩ | omega) ⟨by first | exact hs2.2.1.1 | omega, by first | exact hs2.2.1.2 | omega⟩
    have Fs9 := fm_I (x := Int32.ofInt x3) Fs2 (show 100 ∈ _ by decide)
    rw [← hs9] at Fs9
    have vs9 : iI s9 100 = x3 := by rw [hs9]; exact iI_u ⟨by first | exact hs2.2.1.1 | omega, by first | exact hs2.2.1.2 | omega⟩
    have ws9_97 : iI s9 97 = iI s2 97 := by rw [hs9]; rfl
    refine z_aload_n X (x := A 179) (show cdA 262 154 = some (.aload_n 0, 1, 0, 0, 0) from rfl) (List.Mem.head _) ?_
    refine z_load_n X (x := x4) (show cdA 262 155 = some (.iload_n 3, 1, 0, 0, 0) from rfl) (List.Mem.tail _ (List.Mem.tail _ (List.Mem.tail _ (List.Mem.head _)))) ?_
    refine s_putI X 179 (show cdA 262 156 = some (.putfield 397, 3, 12, 57, 0) from rfl) (by decide) rfl rfl (by decide) rfl rfl rfl ?_
    obtain ⟨s10, hs10⟩ : ∃ x0, x0 = uI s9 101 (Int32.ofInt x4) := ⟨_, rfl⟩
    rw [← hs10]
    have Is10 : Bd s10 := by rw [hs10]; exact bd_I Is9 (show ((-2147483648) : Int) ≤ x4 ∧ x4 ≤ 2147483647 by first | exact ⟨hs2.2.2.1.1, hs2.2.2.1.2⟩ | omega) ⟨by first | exact hs2.2.2.1.1 | omega, by first | exact hs2.2.2.1.2 | omega⟩
    have Fs10 := fm_I (x := Int32.ofInt x4) Fs9 (show 101 ∈ _ by decide)
    rw [← hs10] at Fs10
    have vs10 : iI s10 101 = x4 := by rw [hs10]; exact iI_u ⟨by first | exact hs2.2.2.1.1 | omega, by first | exact hs2.2.2.1.2 | omega⟩
    have ws10_97 : iI s10 97 = iI s9 97 := by rw [hs10]; rfl
    refine z_const X (show cdA 262 159 = some (.iconst 0, 1, 0, 0, 0) from rfl) ?_
    refine z_store X (lv' := [(4, .int (Int32.ofInt 0)), (0, .ref (A 179)), (1, .int (Int32.ofInt x)), (2, .int (Int32.ofInt x3)), (3, .int (Int32.ofInt x4))]) (show cdA 262 160 = some (.istore 4, 2, 0, 0, 0) from rfl) (by decide) (fun _ h => h) ?_
    refine WS_lv (lv := [(0, .ref (A 179)), (4, .int (Int32.ofInt 0))]) (List.forall_mem_cons.mpr ⟨(List.Mem.tail _ (List.Mem.head _)), (List.forall_mem_cons.mpr ⟨(List.Mem.head _), (fun q h => absurd h List.not_mem_nil)⟩)⟩) ?_
    refine L162 ((8 - 0 : Int).toNat + 1) s10 0 Is10 Fs10 (by first | exact ⟨by decide, by decide⟩ | omega) (Nat.lt_succ_self _) ?_
    intro s11 x12 Is11 Fs11 hs11
    have b13 : (0 : Int) ≤ iI s11 97 ∧ iI s11 97 ≤ 8 := Is11.1 97
    exact w_vret X.1 q hRt (ax_d X (show cdA 262 191 = some (.return_, 1, 0, 0, 0) from rfl)) (Nat.zero_le _) (Nat.zero_le _) ⟨_, rfl, Is11, Fs11, rfl, trivial⟩
  ·
    refine z_load_n X (x := x3) (show cdA 262 124 = some (.iload_n 2, 1, 0, 0, 0) from rfl) (List.Mem.tail _ (List.Mem.tail _ (List.Mem.head _))) ?_
    refine z_aload_n X (x := A 179) (show cdA 262 125 = some (.aload_n 0, 1, 0, 0, 0) from rfl) (List.Mem.head _) ?_
    refine z_getI X 179 (show cdA 262 126 = some (.getfield 394, 3, 12, 56, 0) from rfl) (by decide) rfl rfl ?_
    have b14 : ((-2147483648) : Int) ≤ iI s2 100 ∧ iI s2 100 ≤ 2147483647 := Is2.1 100
    refine z_icmp_gt X (t := 148) (show cdA 262 129 = some (.if_icmp .gt 19, 3, 4, 0, 0) from rfl) (by decide) ⟨by first | exact hs2.2.1.1 | omega, by first | exact hs2.2.1.2 | omega⟩ (rng_to _) (fun g15 => ?_) (fun g15 => ?_)
    ·
      exact w_vret X.1 q hRt (ax_d X (show cdA 262 148 = some (.return_, 1, 0, 0, 0) from rfl)) (Nat.zero_le _) (Nat.zero_le _) ⟨_, rfl, Is2, Fs2, rfl, trivial⟩
    ·
      refine z_load_n X (x := x3) (show cdA 262 132 = some (.iload_n 2, 1, 0, 0, 0) from rfl) (List.Mem.tail _ (List.Mem.tail _ (List.Mem.head _))) ?_
      refine z_aload_n X (x := A 179) (show cdA 262 133 = some (.aload_n 0, 1, 0, 0, 0) from rfl) (List.Mem.head _) ?_
      refine z_getI X 179 (show cdA 262 134 = some (.getfield 394, 3, 12, 56, 0) from rfl) (by decide) rfl rfl ?_
      have b16 : ((-2147483648) : Int) ≤ iI s2 100 ∧ iI s2 100 ≤ 2147483647 := Is2.1 100
      refine z_icmp_ne X (t := 149) (show cdA 262 137 = some (.if_icmp .ne 12, 3, 1, 0, 0) from rfl) (by decide) ⟨by first | exact hs2.2.1.1 | omega, by first | exact hs2.2.1.2 | omega⟩ (rng_to _) (fun g17 => ?_) (fun g17 => ?_)
      ·
        refine z_aload_n X (x := A 179) (show cdA 262 149 = some (.aload_n 0, 1, 0, 0, 0) from rfl) (List.Mem.head _) ?_
        refine z_load_n X (x := x3) (show cdA 262 150 = some (.iload_n 2, 1, 0, 0, 0) from rfl) (List.Mem.tail _ (List.Mem.tail _ (List.Mem.head _))) ?_
        refine s_putI X 179 (show cdA 262 151 = some (.putfield 394, 3, 12, 56, 0) from rfl) (by decide) rfl rfl (by decide) rfl rfl rfl ?_
        obtain ⟨s18, hs18⟩ : ∃ x0, x0 = uI s2 100 (Int32.ofInt x3) := ⟨_, rfl⟩
        rw [← hs18]
        have Is18 : Bd s18 := by rw [hs18]; exact bd_I Is2 (show ((-2147483648) : Int) ≤ x3 ∧ x3 ≤ 2147483647 by first | exact ⟨hs2.2.1.1, hs2.2.1.2⟩ | omega) ⟨by first | exact hs2.2.1.1 | omega, by first | exact hs2.2.1.2 | omega⟩
        have Fs18 := fm_I (x := Int32.ofInt x3) Fs2 (show 100 ∈ _ by decide)
        rw [← hs18] at Fs18
        have vs18 : iI s18 100 = x3 := by rw [hs18]; exact iI_u ⟨by first | exact hs2.2.1.1 | omega, by first | exact hs2.2.1.2 | omega⟩
        have ws18_97 : iI s18 97 = iI s2 97 := by rw [hs18]; rfl
        refine z_aload_n X (x := A 179) (show cdA 262 154 = some (.aload_n 0, 1, 0, 0, 0) from rfl) (List.Mem.head _) ?_
        refine z_load_n X (x := x4) (show cdA 262 155 = some (.iload_n 3, 1, 0, 0, 0) from rfl) (List.Mem.tail _ (List.Mem.tail _ (List.Mem.tail _ (List.Mem.head _)))) ?_
        refine s_putI X 179 (show cdA 262 156 = some (.putfield 397, 3, 12, 57, 0) from rfl) (by decide) rfl rfl (by decide) rfl rfl rfl ?_
        obtain ⟨s19, hs19⟩ : ∃ x0, x0 = uI s18 101 (Int32.ofInt x4) := ⟨_, rfl⟩
        rw [← hs19]
        have Is19 : Bd s19 := by rw [hs19]; exact bd_I Is18 (show ((-2147483648) : Int) ≤ x4 ∧ x4 ≤ 2147483647 by first | exact ⟨hs2.2.2.1.1, hs2.2.2.1.2⟩ | omega) ⟨by first | exact hs2.2.2.1.1 | omega, by first | exact hs2.2.2.1.2 | omega⟩
        have Fs19 := fm_I (x := Int32.ofInt x4) Fs18 (show 101 ∈ _ by decide)
        rw [← hs19] at Fs19
        have vs19 : iI s19 101 = x4 := by rw [hs19]; exact iI_u ⟨by first | exact hs2.2.2.1.1 | omega, by first | exact hs2.2.2.1.2 | omega⟩
        have ws19_97 : iI s19 97 = iI s18 97 := by rw [hs19]; rfl
        refine z_const X (show cdA 262 159 = some (.iconst 0, 1, 0, 0, 0) from rfl) ?_
        refine z_store X (lv' := [(4, .int (Int32.ofInt 0)), (0, .ref (A 179)), (1, .int (Int32.ofInt x)), (2, .int (Int32.ofInt x3)), (3, .int (Int32.ofInt x4))]) (show cdA 262 160 = some (.istore 4, 2, 0, 0, 0) from rfl) (by decide) (fun _ h => h) ?_
        refine WS_lv (lv := [(0, .ref (A 179)), (4, .int (Int32.ofInt 0))]) (List.forall_mem_cons.mpr ⟨(List.Mem.tail _ (List.Mem.head _)), (List.forall_mem_cons.mpr ⟨(List.Mem.head _), (fun q h => absurd h List.not_mem_nil)⟩)⟩) ?_
        refine L162 ((8 - 0 : Int).toNat + 1) s19 0 Is19 Fs19 (by first | exact ⟨by decide, by decide⟩ | omega) (Nat.lt_succ_self _) ?_
        intro s20 x21 Is20 Fs20 hs20
        have b22 : (0 : Int) ≤ iI s20 97 ∧ iI s20 97 ≤ 8 := Is20.1 97
        exact w_vret X.1 q hRt (ax_d X (show cdA 262 191 = some (.return_, 1, 0, 0, 0) from rfl)) (Nat.zero_le _) (Nat.zero_le _) ⟨_, rfl, Is20, Fs20, rfl, trivial⟩
      ·
        refine z_load_n X (x := x4) (show cdA 262 140 = some (.iload_n 3, 1, 0, 0, 0) from rfl) (List.Mem.tail _ (List.Mem.tail _ (List.Mem.tail _ (List.Mem.head _)))) ?_
        refine z_aload_n X (x := A 179) (show cdA 262 141 = some (.aload_n 0, 1, 0, 0, 0) from rfl) (List.Mem.head _) ?_
        refine z_getI X 179 (show cdA 262 142 = some (.getfield 397, 3, 12, 57, 0) from rfl) (by decide) rfl rfl ?_
        have b23 : ((-2147483648) : Int) ≤ iI s2 101 ∧ iI s2 101 ≤ 2147483647 := Is2.1 101
        refine z_icmp_lt X (t := 149) (show cdA 262 145 = some (.if_icmp .lt 4, 3, 2, 0, 0) from rfl) (by decide) ⟨by first | exact hs2.2.2.1.1 | omega, by first | exact hs2.2.2.1.2 | omega⟩ (rng_to _) (fun g24 => ?_) (fun g24 => ?_)
        ·
          refine z_aload_n X (x := A 179) (show cdA 262 149 = some (.aload_n 0, 1, 0, 0, 0) from rfl) (List.Mem.head _) ?_
          refine z_load_n X (x := x3) (show cdA 262 150 = some (.iload_n 2, 1, 0, 0, 0) from rfl) (List.Mem.tail _ (List.Mem.tail _ (List.Mem.head _))) ?_
          refine s_putI X 179 (show cdA 262 151 = some (.putfield 394, 3, 12, 56, 0) from rfl) (by decide) rfl rfl (by decide) rfl rfl rfl ?_
          obtain ⟨s25, hs25⟩ : ∃ x0, x0 = uI s2 100 (Int32.ofInt x3) := ⟨_, rfl⟩
          rw [← hs25]
          have Is25 : Bd s25 := by rw [hs25]; exact bd_I Is2 (show ((-2147483648) : Int) ≤ x3 ∧ x3 ≤ 2147483647 by first | exact ⟨hs2.2.1.1, hs2.2.1.2⟩ | omega) ⟨by first | exact hs2.2.1.1 | omega, by first | exact hs2.2.1.2 | omega⟩
          have Fs25 := fm_I (x := Int32.ofInt x3) Fs2 (show 100 ∈ _ by decide)
          rw [← hs25] at Fs25
          have vs25 : iI s25 100 = x3 := by rw [hs25]; exact iI_u ⟨by first | exact hs2.2.1.1 | omega, by first | exact hs2.2.1.2 | omega⟩
          have ws25_97 : iI s25 97 = iI s2 97 := by rw [hs25]; rfl
          refine z_aload_n X (x := A 179) (show cdA 262 154 = some (.aload_n 0, 1, 0, 0, 0) from rfl) (List.Mem.head _) ?_
          refine z_load_n X (x := x4) (show cdA 262 155 = some (.iload_n 3, 1, 0, 0, 0) from rfl) (List.Mem.tail _ (List.Mem.tail _ (List.Mem.tail _ (List.Mem.head _)))) ?_
          refine s_putI X 179 (show cdA 262 156 = some (.putfield 397, 3, 12, 57, 0) from rfl) (by decide) rfl rfl (by decide) rfl rfl rfl ?_
          obtain ⟨s26, hs26⟩ : ∃ x0, x0 = uI s25 101 (Int32.ofInt x4) := ⟨_, rfl⟩
          rw [← hs26]
          have Is26 : Bd s26 := by rw [hs26]; exact bd_I Is25 (show ((-2147483648) : Int) ≤ x4 ∧ x4 ≤ 2147483647 by first | exact ⟨hs2.2.2.1.1, hs2.2.2.1.2⟩ | omega) ⟨by first | exact hs2.2.2.1.1 | omega, by first | exact hs2.2.2.1.2 | omega⟩
          have Fs26 := fm_I (x := Int32.ofInt x4) Fs25 (show 101 ∈ _ by decide)
          rw [← hs26] at Fs26
          have vs26 : iI s26 101 = x4 := by rw [hs26]; exact iI_u ⟨by first | exact hs2.2.2.1.1 | omega, by first | exact hs2.2.2.1.2 | omega⟩
          have ws26_97 : iI s26 97 = iI s25 97 := by rw [hs26]; rfl
          refine z_const X (show cdA 262 159 = some (.iconst 0, 1, 0, 0, 0) from rfl) ?_
          refine z_store X (lv' := [(4, .int (Int32.ofInt 0)), (0, .ref (A 179)), (1, .int (Int32.ofInt x)), (2, .int (Int32.ofInt x3)), (3, .int (Int32.ofInt x4))]) (show cdA 262 160 = some (.istore 4, 2, 0, 0, 0) from rfl) (by decide) (fun _ h => h) ?_
          refine WS_lv (lv := [(0, .ref (A 179)), (4, .int (Int32.ofInt 0))]) (List.forall_mem_cons.mpr ⟨(List.Mem.tail _ (List.Mem.head _)), (List.forall_mem_cons.mpr ⟨(List.Mem.head _), (fun q h => absurd h List.not_mem_nil)⟩)⟩) ?_
          refine L162 ((8 - 0 : Int).toNat + 1) s26 0 Is26 Fs26 (by first | exact ⟨by decide, by decide⟩ | omega) (Nat.lt_succ_self _) ?_
          intro s27 x28 Is27 Fs27 hs27
          have b29 : (0 : Int) ≤ iI s27 97 ∧ iI s27 97 ≤ 8 := Is27.1 97
          exact w_vret X.1 q hRt (ax_d X (show cdA 262 191 = some (.return_, 1, 0, 0, 0) from rfl)) (Nat.zero_le _) (Nat.zero_le _) ⟨_, rfl, Is27, Fs27, rfl, trivial⟩
        ·
          exact w_vret X.1 q hRt (ax_d X (show cdA 262 148 = some (.return_, 1, 0, 0, 0) from rfl)) (Nat.zero_le _) (Nat.zero_le _) ⟨_, rfl, Is2, Fs2, rfl, trivial⟩
set_option maxRecDepth 4000 in
theorem k_parts0 (G : GX l s0 D tys a0 dT) (I : Bd s) {x y z : Int} (p0 : 0 ≤ x ∧ x ≤ iI s 97) (p1 : iI s 97 - x ≤ ((0 : Nat) : Int)) (p2 : 0 ≤ y ∧ y ≤ 3) (p3 : 1 ≤ z ∧ z ≤ 3) : CT l s0 D A dT 261 (rkR (12 + (0))) [.ref (A 179), .int (Int32.ofInt x), .int (Int32.ofInt y), .int (Int32.ofInt z)] s (fun o t => Bd t ∧ Fm [100, 101] [236, 235] s t ∧ o = .inl none ∧ (True)) := by
  refine ct_of G (by decide) (Nat.le_of_ble_eq_true rfl) (fun k X E hRt hXt q => ?_)
  show WS k 0 [(0, .ref (A 179)), (1, .int (Int32.ofInt x)), (2, .int (Int32.ofInt y)), (3, .int (Int32.ofInt z))] [] _ 0 0
  have F : Fm [100, 101] [236, 235] s s := fm_rf _ _ s
  have b1 : (0 : Int) ≤ iI s 97 ∧ iI s 97 ≤ 8 := I.1 97
  refine z_load_n X (x := x) (show cdA 261 0 = some (.iload_n 1, 1, 0, 0, 0) from rfl) (List.Mem.tail _ (List.Mem.head _)) ?_
  refine z_aload_n X (x := A 179) (show cdA 261 1 = some (.aload_n 0, 1, 0, 0, 0) from rfl) (List.Mem.head _) ?_
  refine z_getI X 179 (show cdA 261 2 = some (.getfield 384, 3, 12, 46, 0) from rfl) (by decide) rfl rfl ?_
  have b2 : (0 : Int) ≤ iI s 97 ∧ iI s 97 ≤ 8 := I.1 97
  refine z_icmp_ne X (t := 14) (show cdA 261 5 = some (.if_icmp .ne 9, 3, 1, 0, 0) from rfl) (by decide) ⟨by first | exact oq_fa4e5087 p0.1 | omega, by first | exact oq_b5dbaaed p0.2 b2.2 | omega⟩ (rng_to _) (fun g3 => ?_) (fun g3 => ?_)
  ·
    exfalso
    omega
  ·
    refine z_aload_n X (x := A 179) (show cdA 261 8 = some (.aload_n 0, 1, 0, 0, 0) from rfl) (List.Mem.head _) ?_
    refine z_load_n X (x := y) (show cdA 261 9 = some (.iload_n 2, 1, 0, 0, 0) from rfl) (List.Mem.tail _ (List.Mem.tail _ (List.Mem.head _))) ?_
    refine z_callV X 179 (rm := rmN 262) (As := [.int (Int32.ofInt y)]) (st := []) (show cdA 261 10 = some (.invokevirtual 387, 3, 262, 0, 0) from rfl) rfl (by decide) rfl (by rw [E.1, E.2.1, E.2.2.1]; exact k_judges G I (by first | exact ⟨p2.1, p2.2⟩ | omega)) ⟨by rw [E.2.2.2]; exact (show 6 + 1 ≤ (12 + (12 + (0))) from oq_57e4ae5d), by rw [E.2.2.2]; exact (show 8 + (7 + 11) + 100 ≤ (500 + 45 * (12 + (0))) from oq_67d961ff), by rw [E.2.2.2]; exact Nat.le_refl 0, by rw [E.2.2.2]; exact Nat.le_refl 0⟩ (Nat.le_of_ble_eq_true rfl) (fun vv s4 hq => ?_) (fun ee s4 hq => ?_)
    rotate_left
    · obtain ⟨Is4, Fs4, hv, hps4⟩ := hq; cases hv
    obtain ⟨Is4, Fs4, hv, hps4⟩ := hq
    cases hv
    have Gs4 := fm_ts F Fs4 (by decide) (by decide)
    have ws4_97 : iI s4 97 = iI s 97 := fm_i Fs4 (by decide)
    show WS k 13 [(0, .ref (A 179)), (1, .int (Int32.ofInt x)), (2, .int (Int32.ofInt y)), (3, .int (Int32.ofInt z))] [] (Wd A dT s4) 0 0
    exact w_vret X.1 q hRt (ax_d X (show cdA 261 13 = some (.return_, 1, 0, 0, 0) from rfl)) (Nat.zero_le _) (Nat.zero_le _) ⟨_, rfl, Is4, Gs4, rfl, trivial⟩
set_option maxRecDepth 4000 in
theorem k_partsS (G : GX l s0 D tys a0 dT) {r : Nat} (hR : ∀ {s : PS} {x y z : Int}, Bd s → (0 ≤ x ∧ x ≤ iI s 97) → (iI s 97 - x ≤ ((r : Nat) : Int)) → (0 ≤ y ∧ y ≤ 3) → (1 ≤ z ∧ z ≤ 3) → CT l s0 D A dT 261 (rkR (12 + (r))) [.ref (A 179), .int (Int32.ofInt x), .int (Int32.ofInt y), .int (Int32.ofInt z)] s (fun o t => Bd t ∧ Fm [100, 101] [236, 235] s t ∧ o = .inl none ∧ (True))) (I : Bd s) {x y z : Int} (p0 : 0 ≤ x ∧ x ≤ iI s 97) (p1 : iI s 97 - x ≤ ((r + 1 : Nat) : Int)) (p2 : 0 ≤ y ∧ y ≤ 3) (p3 : 1 ≤ z ∧ z ≤ 3) : CT l s0 D A dT 261 (rkR (12 + (r + 1))) [.ref (A 179), .int (Int32.ofInt x), .int (Int32.ofInt y), .int (Int32.ofInt z)] s (fun o t => Bd t ∧ Fm [100, 101] [236, 235] s t ∧ o = .inl none ∧ (True)) := by
  refine ct_of G (by decide) (Nat.le_of_ble_eq_true rfl) (fun k X E hRt hXt q => ?_)
  show WS k 0 [(0, .ref (A 179)), (1, .int (Int32.ofInt x)), (2, .int (Int32.ofInt y)), (3, .int (Int32.ofInt z))] [] _ 0 0
  have F : Fm [100, 101] [236, 235] s s := fm_rf _ _ s
  have b1 : (0 : Int) ≤ iI s 97 ∧ iI s 97 ≤ 8 := I.1 97
  have L17 : ∀ (n : Nat) (t : PS) (xv yv zv hh : Int), Bd t → Fm [100, 101] [236, 235] s t → (xv = x ∧ (0 ≤ xv ∧ xv < iI t 97) ∧ (0 ≤ yv ∧ yv ≤ 3) ∧ (1 ≤ zv ∧ zv ≤ 3) ∧ 0 ≤ hh ∧ hh ≤ 3 ∧ iI t 97 = iI s 97) → (3 - hh : Int).toNat < n → (∀ (t' : PS) (hh' : Int), Bd t' → Fm [100, 101] [236, 235] s t' → (xv = x ∧ (0 ≤ xv ∧ xv < iI t' 97) ∧ (0 ≤ yv ∧ yv ≤ 3) ∧ (1 ≤ zv ∧ zv ≤ 3) ∧ 0 ≤ hh' ∧ hh' ≤ 3 ∧ iI t' 97 = iI s 97) → WS k 64 [(0, .ref (A 179)), (1, .int (Int32.ofInt xv)), (2, .int (Int32.ofInt yv)), (3, .int (Int32.ofInt zv)), (4, .int (Int32.ofInt hh'))] [] (Wd A dT t') 0 0) → WS k 17 [(0, .ref (A 179)), (1, .int (Int32.ofInt xv)), (2, .int (Int32.ofInt yv)), (3, .int (Int32.ofInt zv)), (4, .int (Int32.ofInt hh))] [] (Wd A dT t) 0 0 := by
    intro n
    induction n with
    | zero =>
      intro t xv yv zv hh I F hi hm kx
      exact absurd hm (Nat.not_lt_zero _)
    | succ n ih =>
      intro t xv yv zv hh I F hi hm kx
      have b1001 : (0 : Int) ≤ iI t 97 ∧ iI t 97 ≤ 8 := I.1 97
      refine z_load X (x := hh) (show cdA 261 17 = some (.iload 4, 2, 0, 0, 0) from rfl) (List.Mem.tail _ (List.Mem.tail _ (List.Mem.tail _ (List.Mem.tail _ (List.Mem.head _))))) ?_
      refine z_load_n X (x := yv) (show cdA 261 19 = some (.iload_n 2, 1, 0, 0, 0) from rfl) (List.Mem.tail _ (List.Mem.tail _ (List.Mem.head _))) ?_
      refine z_icmp_gt X (t := 64) (show cdA 261 20 = some (.if_icmp .gt 44, 3, 4, 0, 0) from rfl) (by decide) ⟨by first | exact oq_fa4e5087 hi.2.2.2.2.1 | omega, by first | exact oq_c5520c83 hi.2.2.2.2.2.1 | omega⟩ ⟨by first | exact oq_fa4e5087 hi.2.2.1.1 | omega, by first | exact oq_c5520c83 hi.2.2.1.2 | omega⟩ (fun g1002 => ?_) (fun g1002 => ?_)
      ·
        refine WS_lv (lv := [(0, .ref (A 179)), (1, .int (Int32.ofInt xv)), (2, .int (Int32.ofInt yv)), (3, .int (Int32.ofInt zv)), (4, .int (Int32.ofInt hh))]) (List.forall_mem_cons.mpr ⟨(List.Mem.head _), (List.forall_mem_cons.mpr ⟨(List.Mem.tail _ (List.Mem.head _)), (List.forall_mem_cons.mpr ⟨(List.Mem.tail _ (List.Mem.tail _ (List.Mem.head _))), (List.forall_mem_cons.mpr ⟨(List.Mem.tail _ (List.Mem.tail _ (List.Mem.tail _ (List.Mem.head _)))), (List.forall_mem_cons.mpr ⟨(List.Mem.tail _ (List.Mem.tail _ (List.Mem.tail _ (List.Mem.tail _ (List.Mem.head _))))), (fun q h => absurd h List.not_mem_nil)⟩)⟩)⟩)⟩)⟩) ?_
        exact kx _ hh I F (by first | exact ⟨hi.1, And.intro (hi.2.1.1) (hi.2.1.2), And.intro (hi.2.2.1.1) (hi.2.2.1.2), And.intro (hi.2.2.2.1.1) (hi.2.2.2.1.2), hi.2.2.2.2.1, hi.2.2.2.2.2.1, hi.2.2.2.2.2.2⟩ | omega)
      ·
        refine z_load X (x := hh) (show cdA 261 23 = some (.iload 4, 2, 0, 0, 0) from rfl) (List.Mem.tail _ (List.Mem.tail _ (List.Mem.tail _ (List.Mem.tail _ (List.Mem.head _))))) ?_
        refine z_load_n X (x := zv) (show cdA 261 25 = some (.iload_n 3, 1, 0, 0, 0) from rfl) (List.Mem.tail _ (List.Mem.tail _ (List.Mem.tail _ (List.Mem.head _)))) ?_
        refine z_icmp_ge X (t := 64) (show cdA 261 26 = some (.if_icmp .ge 38, 3, 3, 0, 0) from rfl) (by decide) ⟨by first | exact oq_fa4e5087 hi.2.2.2.2.1 | omega, by first | exact oq_c5520c83 hi.2.2.2.2.2.1 | omega⟩ ⟨by first | exact oq_9462313e hi.2.2.2.1.1 | omega, by first | exact oq_c5520c83 hi.2.2.2.1.2 | omega⟩ (fun g1003 => ?_) (fun g1003 => ?_)
        ·
          refine WS_lv (lv := [(0, .ref (A 179)), (1, .int (Int32.ofInt xv)), (2, .int (Int32.ofInt yv)), (3, .int (Int32.ofInt zv)), (4, .int (Int32.ofInt hh))]) (List.forall_mem_cons.mpr ⟨(List.Mem.head _), (List.forall_mem_cons.mpr ⟨(List.Mem.tail _ (List.Mem.head _)), (List.forall_mem_cons.mpr ⟨(List.Mem.tail _ (List.Mem.tail _ (List.Mem.head _))), (List.forall_mem_cons.mpr ⟨(List.Mem.tail _ (List.Mem.tail _ (List.Mem.tail _ (List.Mem.head _)))), (List.forall_mem_cons.mpr ⟨(List.Mem.tail _ (List.Mem.tail _ (List.Mem.tail _ (List.Mem.tail _ (List.Mem.head _))))), (fun q h => absurd h List.not_mem_nil)⟩)⟩)⟩)⟩)⟩) ?_
          exact kx _ hh I F (by first | exact ⟨hi.1, And.intro (hi.2.1.1) (hi.2.1.2), And.intro (hi.2.2.1.1) (hi.2.2.1.2), And.intro (hi.2.2.2.1.1) (hi.2.2.2.1.2), hi.2.2.2.2.1, hi.2.2.2.2.2.1, hi.2.2.2.2.2.2⟩ | omega)
        ·
          refine z_aload_n X (x := A 179) (show cdA 261 29 = some (.aload_n 0, 1, 0, 0, 0) from rfl) (List.Mem.head _) ?_
          refine s_getR X 179 (show cdA 261 30 = some (.getfield 95, 3, 12, 50, 0) from rfl) (by decide) rfl rfl ?_
          refine z_load_n X (x := xv) (show cdA 261 33 = some (.iload_n 1, 1, 0, 0, 0) from rfl) (List.Mem.tail _ (List.Mem.head _)) ?_
          refine z_load X (x := hh) (show cdA 261 34 = some (.iload 4, 2, 0, 0, 0) from rfl) (List.Mem.tail _ (List.Mem.tail _ (List.Mem.tail _ (List.Mem.tail _ (List.Mem.head _))))) ?_
          refine z_ast X 263 (show cdA 261 36 = some (.iastore, 1, 0, 0, 0) from rfl) (by decide) rfl (by first | exact hi.2.1.1 | omega) (show xv < 8 by first | exact oq_7f5b2e79 hi.2.1.2 b1001.2 | omega) (by decide) ?_
          obtain ⟨s1004, hs1004⟩ : ∃ x0, x0 = uC t 235 (xv).toNat (Int32.ofInt hh) := ⟨_, rfl⟩
          rw [← hs1004]
          have Is1004 : Bd s1004 := by rw [hs1004]; exact bd_C I (show (0 : Int) ≤ hh ∧ hh ≤ 7 by first | exact ⟨hi.2.2.2.2.1, oq_79ac70b5 hi.2.2.2.2.2.1⟩ | omega) ⟨by first | exact oq_fa4e5087 hi.2.2.2.2.1 | omega, by first | exact oq_c5520c83 hi.2.2.2.2.2.1 | omega⟩
          have Fs1004 := fm_C (i := (xv).toNat) (x := Int32.ofInt hh) F (show 235 ∈ _ by decide)
          rw [← hs1004] at Fs1004
          have ws1004_97 : iI s1004 97 = iI t 97 := by rw [hs1004]; rfl
          refine z_aload_n X (x := A 179) (show cdA 261 37 = some (.aload_n 0, 1, 0, 0, 0) from rfl) (List.Mem.head _) ?_
          refine z_load_n X (x := xv) (show cdA 261 38 = some (.iload_n 1, 1, 0, 0, 0) from rfl) (List.Mem.tail _ (List.Mem.head _)) ?_
          refine z_const X (show cdA 261 39 = some (.iconst 1, 1, 0, 0, 0) from rfl) ?_
          refine z_add X (show cdA 261 40 = some (.iadd, 1, 0, 0, 0) from rfl) ?_
          refine z_load X (x := hh) (show cdA 261 41 = some (.iload 4, 2, 0, 0, 0) from rfl) (List.Mem.tail _ (List.Mem.tail _ (List.Mem.tail _ (List.Mem.tail _ (List.Mem.head _))))) ?_
          refine z_load_n X (x := yv) (show cdA 261 43 = some (.iload_n 2, 1, 0, 0, 0) from rfl) (List.Mem.tail _ (List.Mem.tail _ (List.Mem.head _))) ?_
          have N1005 : ∀ e1006 : Int, (((hh ≠ yv) ∧ e1006 = yv) ∨ ((hh = yv) ∧ e1006 = (yv + 1))) → WS k 54 [(0, .ref (A 179)), (1, .int (Int32.ofInt xv)), (2, .int (Int32.ofInt yv)), (3, .int (Int32.ofInt zv)), (4, .int (Int32.ofInt hh))] [.int (Int32.ofInt e1006), .int (Int32.ofInt (xv + 1)), .ref (A 179)] (Wd A dT s1004) 0 0 := by
            intro e1006 he1006
            refine z_load_n X (x := zv) (show cdA 261 54 = some (.iload_n 3, 1, 0, 0, 0) from rfl) (List.Mem.tail _ (List.Mem.tail _ (List.Mem.tail _ (List.Mem.head _)))) ?_
            refine z_callV X 179 (rm := (rkR (12 + (r)))) (As := [.int (Int32.ofInt (xv + 1)), .int (Int32.ofInt e1006), .int (Int32.ofInt zv)]) (st := []) (show cdA 261 55 = some (.invokevirtual 390, 3, 261, 0, 0) from rfl) rfl (by decide) rfl (by rw [E.1, E.2.1, E.2.2.1]; exact hR Is1004 (by first | exact ⟨p0.1, oq_d3a33ee2 ws1004_97 hi.1 hi.2.1.2⟩ | omega) (by omega) (by first | exact ⟨p2.1, p2.2⟩ | omega) (by first | exact ⟨p3.1, p3.2⟩ | omega)) ⟨by rw [E.2.2.2]; exact (show (12 + (12 + (r))) + 1 ≤ (12 + (12 + (r + 1))) from oq_23161452 r), by rw [E.2.2.2]; exact (show 8 + (5 + 11) + (500 + 45 * (12 + (r))) ≤ (500 + 45 * (12 + (r + 1))) from oq_5db9f55c r), by rw [E.2.2.2]; exact Nat.le_refl 0, by rw [E.2.2.2]; exact Nat.le_refl 0⟩ (Nat.le_of_ble_eq_true rfl) (fun vv s1007 hq => ?_) (fun ee s1007 hq => ?_)
            rotate_left
            · obtain ⟨Is1007, Fs1007, hv, hps1007⟩ := hq; cases hv
            obtain ⟨Is1007, Fs1007, hv, hps1007⟩ := hq
            cases hv
            have Gs1007 := fm_ts Fs1004 Fs1007 (by decide) (by decide)
            have ws1007_97 : iI s1007 97 = iI s1004 97 := fm_i Fs1007 (by decide)
            show WS k 58 [(0, .ref (A 179)), (1, .int (Int32.ofInt xv)), (2, .int (Int32.ofInt yv)), (3, .int (Int32.ofInt zv)), (4, .int (Int32.ofInt hh))] [] (Wd A dT s1007) 0 0
            refine z_inc X (x := hh) (lv' := [(4, .int (Int32.ofInt (hh + 1))), (0, .ref (A 179)), (1, .int (Int32.ofInt xv)), (2, .int (Int32.ofInt yv)), (3, .int (Int32.ofInt zv))]) (show cdA 261 58 = some (.iinc 4 1, 3, 0, 0, 0) from rfl) (by decide) (List.Mem.tail _ (List.Mem.tail _ (List.Mem.tail _ (List.Mem.tail _ (List.Mem.head _))))) (fun _ h => h) ?_
            refine z_goto X (t := 17) (show cdA 261 61 = some (.goto (-44), 3, 0, 0, 0) from rfl) (by decide) ?_
            refine WS_lv (lv := [(0, .ref (A 179)), (1, .int (Int32.ofInt xv)), (2, .int (Int32.ofInt yv)), (3, .int (Int32.ofInt zv)), (4, .int (Int32.ofInt (hh + 1)))]) (List.forall_mem_cons.mpr ⟨(List.Mem.tail _ (List.Mem.head _)), (List.forall_mem_cons.mpr ⟨(List.Mem.tail _ (List.Mem.tail _ (List.Mem.head _))), (List.forall_mem_cons.mpr ⟨(List.Mem.tail _ (List.Mem.tail _ (List.Mem.tail _ (List.Mem.head _)))), (List.forall_mem_cons.mpr ⟨(List.Mem.tail _ (List.Mem.tail _ (List.Mem.tail _ (List.Mem.tail _ (List.Mem.head _))))), (List.forall_mem_cons.mpr ⟨(List.Mem.head _), (fun q h => absurd h List.not_mem_nil)⟩)⟩)⟩)⟩)⟩) ?_
            exact ih _ xv yv zv (hh + 1) Is1007 Gs1007 (by first | exact ⟨hi.1, And.intro (hi.2.1.1) (oq_a618c864 ws1007_97 hi.2.1.2 ws1004_97), And.intro (hi.2.2.1.1) (hi.2.2.1.2), And.intro (hi.2.2.2.1.1) (hi.2.2.2.1.2), oq_54f49eb5 hi.2.2.2.2.1, oq_917370dc g1003 hi.2.2.2.1.2, oq_878618b1 ws1007_97 ws1004_97 hi.2.2.2.2.2.2⟩ | omega) (by first | exact qk_me hm (by decide) (oq_83a89698 g1003 hi.2.2.2.1.2) | omega) kx
          refine z_icmp_ne X (t := 53) (show cdA 261 44 = some (.if_icmp .ne 9, 3, 1, 0, 0) from rfl) (by decide) ⟨by first | exact oq_fa4e5087 hi.2.2.2.2.1 | omega, by first | exact oq_c5520c83 hi.2.2.2.2.2.1 | omega⟩ ⟨by first | exact oq_fa4e5087 hi.2.2.1.1 | omega, by first | exact oq_c5520c83 hi.2.2.1.2 | omega⟩ (fun g1009 => ?_) (fun g1009 => ?_)
          ·
            refine z_load_n X (x := yv) (show cdA 261 53 = some (.iload_n 2, 1, 0, 0, 0) from rfl) (List.Mem.tail _ (List.Mem.tail _ (List.Mem.head _))) ?_
            exact N1005 _ (Or.inl ⟨g1009, rfl⟩)
          ·
            refine z_load_n X (x := yv) (show cdA 261 47 = some (.iload_n 2, 1, 0, 0, 0) from rfl) (List.Mem.tail _ (List.Mem.tail _ (List.Mem.head _))) ?_
            refine z_const X (show cdA 261 48 = some (.iconst 1, 1, 0, 0, 0) from rfl) ?_
            refine z_add X (show cdA 261 49 = some (.iadd, 1, 0, 0, 0) from rfl) ?_
            refine z_goto X (t := 54) (show cdA 261 50 = some (.goto 4, 3, 0, 0, 0) from rfl) (by decide) ?_
            exact N1005 _ (Or.inr (⟨g1009, rfl⟩))
  refine z_load_n X (x := x) (show cdA 261 0 = some (.iload_n 1, 1, 0, 0, 0) from rfl) (List.Mem.tail _ (List.Mem.head _)) ?_
  refine z_aload_n X (x := A 179) (show cdA 261 1 = some (.aload_n 0, 1, 0, 0, 0) from rfl) (List.Mem.head _) ?_
  refine z_getI X 179 (show cdA 261 2 = some (.getfield 384, 3, 12, 46, 0) from rfl) (by decide) rfl rfl ?_
  have b2 : (0 : Int) ≤ iI s 97 ∧ iI s 97 ≤ 8 := I.1 97
  refine z_icmp_ne X (t := 14) (show cdA 261 5 = some (.if_icmp .ne 9, 3, 1, 0, 0) from rfl) (by decide) ⟨by first | exact oq_fa4e5087 p0.1 | omega, by first | exact oq_b5dbaaed p0.2 b2.2 | omega⟩ (rng_to _) (fun g3 => ?_) (fun g3 => ?_)
  ·
    refine z_const X (show cdA 261 14 = some (.iconst 0, 1, 0, 0, 0) from rfl) ?_
    refine z_store X (lv' := [(4, .int (Int32.ofInt 0)), (0, .ref (A 179)), (1, .int (Int32.ofInt x)), (2, .int (Int32.ofInt y)), (3, .int (Int32.ofInt z))]) (show cdA 261 15 = some (.istore 4, 2, 0, 0, 0) from rfl) (by decide) (fun _ h => h) ?_
    refine WS_lv (lv := [(0, .ref (A 179)), (1, .int (Int32.ofInt x)), (2, .int (Int32.ofInt y)), (3, .int (Int32.ofInt z)), (4, .int (Int32.ofInt 0))]) (List.forall_mem_cons.mpr ⟨(List.Mem.tail _ (List.Mem.head _)), (List.forall_mem_cons.mpr ⟨(List.Mem.tail _ (List.Mem.tail _ (List.Mem.head _))), (List.forall_mem_cons.mpr ⟨(List.Mem.tail _ (List.Mem.tail _ (List.Mem.tail _ (List.Mem.head _)))), (List.forall_mem_cons.mpr ⟨(List.Mem.tail _ (List.Mem.tail _ (List.Mem.tail _ (List.Mem.tail _ (List.Mem.head _))))), (List.forall_mem_cons.mpr ⟨(List.Mem.head _), (fun q h => absurd h List.not_mem_nil)⟩)⟩)⟩)⟩)⟩) ?_
    refine L17 ((3 - 0 : Int).toNat + 1) s x y z 0 I F (by first | exact ⟨by decide, oq_06adfc3a g3 p0.2 p0.1, And.intro (p2.1) (p2.2), And.intro (p3.1) (p3.2), by decide, by decide, by decide⟩ | omega) (Nat.lt_succ_self _) ?_
    intro s4 x5 Is4 Fs4 hs4
    have b6 : (0 : Int) ≤ iI s4 97 ∧ iI s4 97 ≤ 8 := Is4.1 97
    exact w_vret X.1 q hRt (ax_d X (show cdA 261 64 = some (.return_, 1, 0, 0, 0) from rfl)) (Nat.zero_le _) (Nat.zero_le _) ⟨_, rfl, Is4, Fs4, rfl, trivial⟩
  ·
    refine z_aload_n X (x := A 179) (show cdA 261 8 = some (.aload_n 0, 1, 0, 0, 0) from rfl) (List.Mem.head _) ?_
    refine z_load_n X (x := y) (show cdA 261 9 = some (.iload_n 2, 1, 0, 0, 0) from rfl) (List.Mem.tail _ (List.Mem.tail _ (List.Mem.head _))) ?_
    refine z_callV X 179 (rm := rmN 262) (As := [.int (Int32.ofInt y)]) (st := []) (show cdA 261 10 = some (.invokevirtual 387, 3, 262, 0, 0) from rfl) rfl (by decide) rfl (by rw [E.1, E.2.1, E.2.2.1]; exact k_judges G I (by first | exact ⟨p2.1, p2.2⟩ | omega)) ⟨by rw [E.2.2.2]; exact (show 6 + 1 ≤ (12 + (12 + (r + 1))) from oq_895d89e2 r), by rw [E.2.2.2]; exact (show 8 + (7 + 11) + 100 ≤ (500 + 45 * (12 + (r + 1))) from oq_41a8610d r), by rw [E.2.2.2]; exact Nat.le_refl 0, by rw [E.2.2.2]; exact Nat.le_refl 0⟩ (Nat.le_of_ble_eq_true rfl) (fun vv s7 hq => ?_) (fun ee s7 hq => ?_)
    rotate_left
    · obtain ⟨Is7, Fs7, hv, hps7⟩ := hq; cases hv
    obtain ⟨Is7, Fs7, hv, hps7⟩ := hq
    cases hv
    have Gs7 := fm_ts F Fs7 (by decide) (by decide)
    have ws7_97 : iI s7 97 = iI s 97 := fm_i Fs7 (by decide)
    show WS k 13 [(0, .ref (A 179)), (1, .int (Int32.ofInt x)), (2, .int (Int32.ofInt y)), (3, .int (Int32.ofInt z))] [] (Wd A dT s7) 0 0
    exact w_vret X.1 q hRt (ax_d X (show cdA 261 13 = some (.return_, 1, 0, 0, 0) from rfl)) (Nat.zero_le _) (Nat.zero_le _) ⟨_, rfl, Is7, Gs7, rfl, trivial⟩
theorem k_partsr (G : GX l s0 D tys a0 dT) (r : Nat) : ∀ {s : PS} {x y z : Int}, Bd s → (0 ≤ x ∧ x ≤ iI s 97) → (iI s 97 - x ≤ ((r : Nat) : Int)) → (0 ≤ y ∧ y ≤ 3) → (1 ≤ z ∧ z ≤ 3) → CT l s0 D A dT 261 (rkR (12 + (r))) [.ref (A 179), .int (Int32.ofInt x), .int (Int32.ofInt y), .int (Int32.ofInt z)] s (fun o t => Bd t ∧ Fm [100, 101] [236, 235] s t ∧ o = .inl none ∧ (True)) := by
  induction r with
  | zero => exact fun {_ _ _ _} I p0 p1 p2 p3 => k_parts0 G I p0 p1 p2 p3
  | succ r ih => exact fun {_ _ _ _} I p0 p1 p2 p3 => k_partsS G ih I p0 p1 p2 p3
set_option maxRecDepth 4000 in
theorem k_parted (G : GX l s0 D tys a0 dT) (I : Bd s) (jRLx : RLx s) {x y : Int} (p0 : rng x) (p1 : rng y) : CT l s0 D A dT 263 (rmN 263) [.ref (A 179), .int (Int32.ofInt x), .int (Int32.ofInt y)] s (fun o t => Bd t ∧ Fm [73, 77, 75, 78, 79, 80, 81, 100, 101] [202, 204, 205, 206, 207, 208, 209, 210, 211, 212, 213, 214, 215, 216, 217, 218, 219, 220, 221, 222, 223, 224, 225, 226, 227, 203, 161, 230, 231, 232, 240, 238, 239, 236, 235] s t ∧ RLx t ∧ ∃ e, o = .inl (some (.int (Int32.ofInt e))) ∧ rng e ∧ (True)) := by
  refine ct_of G (by decide) (Nat.le_of_ble_eq_true rfl) (fun k X E hRt hXt q => ?_)
  show WS k 0 [(0, .ref (A 179)), (1, .int (Int32.ofInt x)), (2, .int (Int32.ofInt y))] [] _ 0 0
  have F : Fm [73, 77, 75, 78, 79, 80, 81, 100, 101] [202, 204, 205, 206, 207, 208, 209, 210, 211, 212, 213, 214, 215, 216, 217, 218, 219, 220, 221, 222, 223, 224, 225, 226, 227, 203, 161, 230, 231, 232, 240, 238, 239, 236, 235] s s := fm_rf _ _ s
  have b1 : (0 : Int) ≤ iI s 73 ∧ iI s 73 ≤ 3 := I.1 73
  have b2 : (0 : Int) ≤ iI s 97 ∧ iI s 97 ≤ 8 := I.1 97
  refine z_aload_n X (x := A 179) (show cdA 263 0 = some (.aload_n 0, 1, 0, 0, 0) from rfl) (List.Mem.head _) ?_
  refine z_const X (show cdA 263 1 = some (.iconst 0, 1, 0, 0, 0) from rfl) ?_
  refine s_putI X 179 (show cdA 263 2 = some (.putfield 172, 3, 12, 0, 0) from rfl) (by decide) rfl rfl (by decide) rfl rfl rfl ?_
  obtain ⟨s3, hs3⟩ : ∃ x0, x0 = uI s 73 (Int32.ofInt 0) := ⟨_, rfl⟩
  rw [← hs3]
  have Is3 : Bd s3 := by rw [hs3]; exact bd_I I (show (0 : Int) ≤ 0 ∧ 0 ≤ 3 by first | exact ⟨by decide, by decide⟩ | omega) (by decide)
  have Fs3 := fm_I (x := Int32.ofInt 0) F (show 73 ∈ _ by decide)
  rw [← hs3] at Fs3
  have vs3 : iI s3 73 = 0 := by rw [hs3]; exact iI_u (by decide)
  have ws3_97 : iI s3 97 = iI s 97 := by rw [hs3]; rfl
  have fs3 : Fm [73] [] s s3 := by rw [hs3]; exact fm_I (fm_rf _ _ _) (show 73 ∈ _ by decide)
  have JRLx_s3 : RLx s3 := RLx_fm fs3 (by decide) jRLx
  refine z_aload_n X (x := A 179) (show cdA 263 5 = some (.aload_n 0, 1, 0, 0, 0) from rfl) (List.Mem.head _) ?_
  refine z_load_n X (x := x) (show cdA 263 6 = some (.iload_n 1, 1, 0, 0, 0) from rfl) (List.Mem.tail _ (List.Mem.head _)) ?_
  refine z_const X (show cdA 263 7 = some (.iconst 1, 1, 0, 0, 0) from rfl) ?_
  refine z_const X (show cdA 263 8 = some (.iconst 3, 1, 0, 0, 0) from rfl) ?_
  refine z_callS X (rm := rmN 188) (As := [.int (Int32.ofInt x), .int (Int32.ofInt 1), .int (Int32.ofInt 3)]) (st := [.ref (A 179)]) (show cdA 263 9 = some (.invokestatic 209, 3, 188, 1, 0) from rfl) rfl (by rw [E.1, E.2.1, E.2.2.1]; exact k_in G Is3 (by first | exact ⟨p0.1, p0.2⟩ | omega) (by first | exact ⟨by decide, by decide⟩ | omega) (by first | exact ⟨by decide, by decide⟩ | omega)) ⟨by rw [E.2.2.2]; exact (show (rmN 188).frames + 1 ≤ (rmN 263).frames by decide), by rw [E.2.2.2]; exact (show 8 + (mNL (miB 188) + 11) + (rmN 188).locals ≤ (rmN 263).locals by decide), by rw [E.2.2.2]; exact (show 0 + (rmN 188).cells ≤ (rmN 263).cells by decide), by rw [E.2.2.2]; exact (show 0 + (rmN 188).slots ≤ (rmN 263).slots by decide)⟩ (Nat.le_of_ble_eq_true rfl) (fun vv s4 hq => ?_) (fun ee s4 hq => ?_)
  rotate_left
  · obtain ⟨Is4, Fs4, e5, hv, hrs4, hps4⟩ := hq; cases hv
  obtain ⟨Is4, Fs4, e5, hv, hrs4, hps4⟩ := hq
  cases hv
  have Gs4 := fm_ts Fs3 Fs4 (by decide) (by decide)
  have JRLx_s4 : RLx s4 := RLx_fm Fs4 (by decide) JRLx_s3
  have ws4_73 : iI s4 73 = iI s3 73 := fm_i Fs4 (by decide)
  have ws4_97 : iI s4 97 = iI s3 97 := fm_i Fs4 (by decide)
  show WS k 12 [(0, .ref (A 179)), (1, .int (Int32.ofInt x)), (2, .int (Int32.ofInt y))] [.int (Int32.ofInt e5), .ref (A 179)] (Wd A dT s4) 0 0
  refine z_if_eq X (t := 26) (show cdA 263 12 = some (.ifCond .eq 14, 3, 0, 0, 0) from rfl) (by decide) hrs4 (fun g6 => ?_) (fun g6 => ?_)
  ·
    refine z_const X (show cdA 263 26 = some (.iconst 1, 1, 0, 0, 0) from rfl) ?_
    refine z_goto X (t := 31) (show cdA 263 27 = some (.goto 4, 3, 0, 0, 0) from rfl) (by decide) ?_
    refine z_const X (show cdA 263 31 = some (.iconst 1, 1, 0, 0, 0) from rfl) ?_
    refine z_callV X 179 (rm := rmN 187) (As := [.int (Int32.ofInt 1), .int (Int32.ofInt 1)]) (st := []) (show cdA 263 32 = some (.invokevirtual 229, 3, 187, 0, 0) from rfl) rfl (by decide) rfl (by rw [E.1, E.2.1, E.2.2.1]; exact k_bad G Is4 (by first | exact Or.inr (by decide) | omega) (by first | exact ⟨by decide, by decide⟩ | omega)) ⟨by rw [E.2.2.2]; exact (show (rmN 187).frames + 1 ≤ (rmN 263).frames by decide), by rw [E.2.2.2]; exact (show 8 + (mNL (miB 187) + 11) + (rmN 187).locals ≤ (rmN 263).locals by decide), by rw [E.2.2.2]; exact (show 0 + (rmN 187).cells ≤ (rmN 263).cells by decide), by rw [E.2.2.2]; exact (show 0 + (rmN 187).slots ≤ (rmN 263).slots by decide)⟩ (Nat.le_of_ble_eq_true rfl) (fun vv s7 hq => ?_) (fun ee s7 hq => ?_)
    rotate_left
    · obtain ⟨Is7, Fs7, e8, hv, hrs7, hps7⟩ := hq; cases hv
    obtain ⟨Is7, Fs7, e8, hv, hrs7, hps7⟩ := hq
    cases hv
    have Gs7 := fm_ts Gs4 Fs7 (by decide) (by decide)
    have JRLx_s7 : RLx s7 := RLx_fm Fs7 (by decide) JRLx_s4
    have b9 : (0 : Int) ≤ iI s7 73 ∧ iI s7 73 ≤ 3 := Is7.1 73
    have ws7_97 : iI s7 97 = iI s4 97 := fm_i Fs7 (by decide)
    show WS k 35 [(0, .ref (A 179)), (1, .int (Int32.ofInt x)), (2, .int (Int32.ofInt y))] [.int (Int32.ofInt e8)] (Wd A dT s7) 0 0
    refine z_if_eq X (t := 40) (show cdA 263 35 = some (.ifCond .eq 5, 3, 0, 0, 0) from rfl) (by decide) hrs7 (fun g10 => ?_) (fun g10 => ?_)
    ·
      refine z_aload_n X (x := A 179) (show cdA 263 40 = some (.aload_n 0, 1, 0, 0, 0) from rfl) (List.Mem.head _) ?_
      refine z_getI X 179 (show cdA 263 41 = some (.getfield 384, 3, 12, 46, 0) from rfl) (by decide) rfl rfl ?_
      have b11 : (0 : Int) ≤ iI s7 97 ∧ iI s7 97 ≤ 8 := Is7.1 97
      refine z_if_ne X (t := 49) (show cdA 263 44 = some (.ifCond .ne 5, 3, 1, 0, 0) from rfl) (by decide) (rng_to _) (fun g12 => ?_) (fun g12 => ?_)
      ·
        refine z_aload_n X (x := A 179) (show cdA 263 49 = some (.aload_n 0, 1, 0, 0, 0) from rfl) (List.Mem.head _) ?_
        refine z_callV X 179 (rm := rmN 260) (As := []) (st := []) (show cdA 263 50 = some (.invokevirtual 400, 3, 260, 0, 0) from rfl) rfl (by decide) rfl (by rw [E.1, E.2.1, E.2.2.1]; exact k_findSets G Is7 JRLx_s7 ) ⟨by rw [E.2.2.2]; exact (show (rmN 260).frames + 1 ≤ (rmN 263).frames by decide), by rw [E.2.2.2]; exact (show 8 + (mNL (miB 260) + 11) + (rmN 260).locals ≤ (rmN 263).locals by decide), by rw [E.2.2.2]; exact (show 0 + (rmN 260).cells ≤ (rmN 263).cells by decide), by rw [E.2.2.2]; exact (show 0 + (rmN 260).slots ≤ (rmN 263).slots by decide)⟩ (Nat.le_of_ble_eq_true rfl) (fun vv s13 hq => ?_) (fun ee s13 hq => ?_)
        rotate_left
        · obtain ⟨Is13, Fs13, JRLx_s13, hv, hps13⟩ := hq; cases hv
        obtain ⟨Is13, Fs13, JRLx_s13, hv, hps13⟩ := hq
        cases hv
        have Gs13 := fm_ts Gs7 Fs13 (by decide) (by decide)
        have JRLx_s13 : RLx s13 := RLx_fm Fs13 (by decide) JRLx_s7
        have ws13_73 : iI s13 73 = iI s7 73 := fm_i Fs13 (by decide)
        have ws13_97 : iI s13 97 = iI s7 97 := fm_i Fs13 (by decide)
        show WS k 53 [(0, .ref (A 179)), (1, .int (Int32.ofInt x)), (2, .int (Int32.ofInt y))] [] (Wd A dT s13) 0 0
        refine z_aload_n X (x := A 179) (show cdA 263 53 = some (.aload_n 0, 1, 0, 0, 0) from rfl) (List.Mem.head _) ?_
        refine s_getR X 179 (show cdA 263 54 = some (.getfield 98, 3, 12, 51, 0) from rfl) (by decide) rfl rfl ?_
        refine z_const X (show cdA 263 57 = some (.iconst 0, 1, 0, 0, 0) from rfl) ?_
        refine z_const X (show cdA 263 58 = some (.iconst (-1), 1, 0, 0, 0) from rfl) ?_
        refine z_ast X 264 (show cdA 263 59 = some (.iastore, 1, 0, 0, 0) from rfl) (by decide) rfl (by decide) (show 0 < 8 by decide) (by decide) ?_
        obtain ⟨s15, hs15⟩ : ∃ x0, x0 = uC s13 236 (0 : Int).toNat (Int32.ofInt (-1)) := ⟨_, rfl⟩
        rw [← hs15]
        have Is15 : Bd s15 := by rw [hs15]; exact bd_C Is13 (show ((-1) : Int) ≤ (-1) ∧ (-1) ≤ 7 by first | exact ⟨by decide, by decide⟩ | omega) (by decide)
        have Fs15 := fm_C (i := (0 : Int).toNat) (x := Int32.ofInt (-1)) Gs13 (show 236 ∈ _ by decide)
        rw [← hs15] at Fs15
        have ws15_73 : iI s15 73 = iI s13 73 := by rw [hs15]; rfl
        have ws15_97 : iI s15 97 = iI s13 97 := by rw [hs15]; rfl
        have fs15 : Fm [] [236] s13 s15 := by rw [hs15]; exact fm_C (fm_rf _ _ _) (show 236 ∈ _ by decide)
        have JRLx_s15 : RLx s15 := RLx_fm fs15 (by decide) JRLx_s13
        refine z_aload_n X (x := A 179) (show cdA 263 60 = some (.aload_n 0, 1, 0, 0, 0) from rfl) (List.Mem.head _) ?_
        refine z_const X (show cdA 263 61 = some (.iconst 0, 1, 0, 0, 0) from rfl) ?_
        refine z_const X (show cdA 263 62 = some (.iconst 0, 1, 0, 0, 0) from rfl) ?_
        refine z_load_n X (x := x) (show cdA 263 63 = some (.iload_n 1, 1, 0, 0, 0) from rfl) (List.Mem.tail _ (List.Mem.head _)) ?_
        refine z_callV X 179 (rm := (rkR (12 + 8))) (As := [.int (Int32.ofInt 0), .int (Int32.ofInt 0), .int (Int32.ofInt x)]) (st := []) (show cdA 263 64 = some (.invokevirtual 390, 3, 261, 0, 0) from rfl) rfl (by decide) rfl (by rw [E.1, E.2.1, E.2.2.1]; exact k_partsr G 8 Is15 (by first | exact ⟨by decide, oq_0f93fca7 ws15_97 ws13_97 b11.1⟩ | omega) (by first | exact oq_869f4868 ws15_97 ws13_97 b11.2 | omega) (by first | exact ⟨by decide, by decide⟩ | omega) (by first | exact ⟨oq_c74211cc g10 hps7.2.1, oq_f7cc7c47 g10 hps7.2.1⟩ | omega)) ⟨by rw [E.2.2.2]; exact (show 32 + 1 ≤ 38 from oq_7efb0865), by rw [E.2.2.2]; exact (show 8 + (5 + 11) + 1400 ≤ 1601 from oq_2d6821c8), by rw [E.2.2.2]; exact Nat.le_refl 0, by rw [E.2.2.2]; exact Nat.le_refl 0⟩ (Nat.le_of_ble_eq_true rfl) (fun vv s16 hq => ?_) (fun ee s16 hq => ?_)
        rotate_left
        · obtain ⟨Is16, Fs16, hv, hps16⟩ := hq; cases hv
        obtain ⟨Is16, Fs16, hv, hps16⟩ := hq
        cases hv
        have Gs16 := fm_ts Fs15 Fs16 (by decide) (by decide)
        have JRLx_s16 : RLx s16 := RLx_fm Fs16 (by decide) JRLx_s15
        have ws16_73 : iI s16 73 = iI s15 73 := fm_i Fs16 (by decide)
        have ws16_97 : iI s16 97 = iI s15 97 := fm_i Fs16 (by decide)
        show WS k 67 [(0, .ref (A 179)), (1, .int (Int32.ofInt x)), (2, .int (Int32.ofInt y))] [] (Wd A dT s16) 0 0
        refine z_aload_n X (x := A 179) (show cdA 263 67 = some (.aload_n 0, 1, 0, 0, 0) from rfl) (List.Mem.head _) ?_
        refine s_getR X 179 (show cdA 263 68 = some (.getfield 98, 3, 12, 51, 0) from rfl) (by decide) rfl rfl ?_
        refine z_const X (show cdA 263 71 = some (.iconst 0, 1, 0, 0, 0) from rfl) ?_
        refine z_ald X 264 (show cdA 263 72 = some (.iaload, 1, 0, 0, 0) from rfl) (by decide) rfl (by decide) (show 0 < 8 by decide) (by decide) ?_
        have b18 : ((-1) : Int) ≤ iC s16 236 (0 : Int).toNat ∧ iC s16 236 (0 : Int).toNat ≤ 7 := Is16.2 236 _ (show (0 : Int).toNat < 8 by first | exact oq_7f42415e | omega)
        refine z_const X (show cdA 263 73 = some (.iconst (-1), 1, 0, 0, 0) from rfl) ?_
        refine z_icmp_ne X (t := 79) (show cdA 263 74 = some (.if_icmp .ne 5, 3, 1, 0, 0) from rfl) (by decide) (rng_to _) (by decide) (fun g19 => ?_) (fun g19 => ?_)
        ·
          refine z_load_n X (x := y) (show cdA 263 79 = some (.iload_n 2, 1, 0, 0, 0) from rfl) (List.Mem.tail _ (List.Mem.tail _ (List.Mem.head _))) ?_
          refine z_const X (show cdA 263 80 = some (.iconst (-1), 1, 0, 0, 0) from rfl) ?_
          have N20 : ∀ e21 : Int, (((y ≠ (-1)) ∧ (y ≠ (-2)) ∧ ((0 : Int) ≤ iI s16 97 ∧ iI s16 97 ≤ 8) ∧ ((iI s16 97) ≤ y) ∧ e21 = (-1)) ∨ ((y ≠ (-1)) ∧ (y ≠ (-2)) ∧ ((0 : Int) ≤ iI s16 97 ∧ iI s16 97 ≤ 8) ∧ (y < (iI s16 97)) ∧ (((-1) : Int) ≤ iC s16 236 (y).toNat ∧ iC s16 236 (y).toNat ≤ 7) ∧ e21 = (iC s16 236 (y).toNat)) ∨ ((y ≠ (-1)) ∧ (y = (-2)) ∧ (((-2147483648) : Int) ≤ iI s16 101 ∧ iI s16 101 ≤ 2147483647) ∧ e21 = (iI s16 101)) ∨ ((y = (-1)) ∧ (((-2147483648) : Int) ≤ iI s16 100 ∧ iI s16 100 ≤ 2147483647) ∧ e21 = (iI s16 100))) → WS k 122 [(0, .ref (A 179)), (1, .int (Int32.ofInt x)), (2, .int (Int32.ofInt y))] [.int (Int32.ofInt e21)] (Wd A dT s16) 0 0 := by
            intro e21 he21
            exact w_iret X.1 q hRt rfl (ax_d X (show cdA 263 122 = some (.ireturn, 1, 0, 0, 0) from rfl)) (Nat.zero_le _) (Nat.zero_le _) ⟨_, rfl, Is16, Gs16, JRLx_s16, e21, rfl, ⟨by first | exact oq_4386d538 g10 hps7.2.1 | omega, by first | exact oq_403037f8 g10 hps7.2.1 | omega⟩, trivial⟩
          refine z_icmp_ne X (t := 91) (show cdA 263 81 = some (.if_icmp .ne 10, 3, 1, 0, 0) from rfl) (by decide) ⟨by first | exact p1.1 | omega, by first | exact p1.2 | omega⟩ (by decide) (fun g22 => ?_) (fun g22 => ?_)
          ·
            refine z_load_n X (x := y) (show cdA 263 91 = some (.iload_n 2, 1, 0, 0, 0) from rfl) (List.Mem.tail _ (List.Mem.tail _ (List.Mem.head _))) ?_
            refine z_bipush X (show cdA 263 92 = some (.bipush (-2), 2, 0, 0, (-2)) from rfl) ?_
            refine z_icmp_ne X (t := 104) (show cdA 263 94 = some (.if_icmp .ne 10, 3, 1, 0, 0) from rfl) (by decide) ⟨by first | exact p1.1 | omega, by first | exact p1.2 | omega⟩ (by decide) (fun g23 => ?_) (fun g23 => ?_)
            ·
              refine z_load_n X (x := y) (show cdA 263 104 = some (.iload_n 2, 1, 0, 0, 0) from rfl) (List.Mem.tail _ (List.Mem.tail _ (List.Mem.head _))) ?_
              refine z_aload_n X (x := A 179) (show cdA 263 105 = some (.aload_n 0, 1, 0, 0, 0) from rfl) (List.Mem.head _) ?_
              refine z_getI X 179 (show cdA 263 106 = some (.getfield 384, 3, 12, 46, 0) from rfl) (by decide) rfl rfl ?_
              have b24 : (0 : Int) ≤ iI s16 97 ∧ iI s16 97 ≤ 8 := Is16.1 97
              refine z_icmp_ge X (t := 121) (show cdA 263 109 = some (.if_icmp .ge 12, 3, 3, 0, 0) from rfl) (by decide) ⟨by first | exact p1.1 | omega, by first | exact p1.2 | omega⟩ (rng_to _) (fun g25 => ?_) (fun g25 => ?_)
              ·
                refine z_const X (show cdA 263 121 = some (.iconst (-1), 1, 0, 0, 0) from rfl) ?_
                exact N20 _ (Or.inl ⟨g22, g23, b24, g25, rfl⟩)
              ·
                refine z_aload_n X (x := A 179) (show cdA 263 112 = some (.aload_n 0, 1, 0, 0, 0) from rfl) (List.Mem.head _) ?_
                refine s_getR X 179 (show cdA 263 113 = some (.getfield 98, 3, 12, 51, 0) from rfl) (by decide) rfl rfl ?_
                refine z_load_n X (x := y) (show cdA 263 116 = some (.iload_n 2, 1, 0, 0, 0) from rfl) (List.Mem.tail _ (List.Mem.tail _ (List.Mem.head _))) ?_
                refine z_ald X 264 (show cdA 263 117 = some (.iaload, 1, 0, 0, 0) from rfl) (by decide) rfl (by first | exact oq_65cab3da g10 hps7.2.1 | omega) (show y < 8 by first | exact oq_7f5b2e79 g25 b24.2 | omega) (by decide) ?_
                have b26 : ((-1) : Int) ≤ iC s16 236 (y).toNat ∧ iC s16 236 (y).toNat ≤ 7 := Is16.2 236 _ (show (y).toNat < 8 by first | exact oq_67be0351 g25 b24.2 | omega)
                refine z_goto X (t := 122) (show cdA 263 118 = some (.goto 4, 3, 0, 0, 0) from rfl) (by decide) ?_
                exact N20 _ (Or.inr (Or.inl ⟨g22, g23, b24, g25, b26, rfl⟩))
            ·
              refine z_aload_n X (x := A 179) (show cdA 263 97 = some (.aload_n 0, 1, 0, 0, 0) from rfl) (List.Mem.head _) ?_
              refine z_getI X 179 (show cdA 263 98 = some (.getfield 397, 3, 12, 57, 0) from rfl) (by decide) rfl rfl ?_
              have b27 : ((-2147483648) : Int) ≤ iI s16 101 ∧ iI s16 101 ≤ 2147483647 := Is16.1 101
              refine z_goto X (t := 122) (show cdA 263 101 = some (.goto 21, 3, 0, 0, 0) from rfl) (by decide) ?_
              exact N20 _ (Or.inr (Or.inr (Or.inl ⟨g22, g23, b27, rfl⟩)))
          ·
            refine z_aload_n X (x := A 179) (show cdA 263 84 = some (.aload_n 0, 1, 0, 0, 0) from rfl) (List.Mem.head _) ?_
            refine z_getI X 179 (show cdA 263 85 = some (.getfield 394, 3, 12, 56, 0) from rfl) (by decide) rfl rfl ?_
            have b28 : ((-2147483648) : Int) ≤ iI s16 100 ∧ iI s16 100 ≤ 2147483647 := Is16.1 100
            refine z_goto X (t := 122) (show cdA 263 88 = some (.goto 34, 3, 0, 0, 0) from rfl) (by decide) ?_
            exact N20 _ (Or.inr (Or.inr (Or.inr (⟨g22, b28, rfl⟩))))
        ·
          refine z_const X (show cdA 263 77 = some (.iconst (-1), 1, 0, 0, 0) from rfl) ?_
          exact w_iret X.1 q hRt rfl (ax_d X (show cdA 263 78 = some (.ireturn, 1, 0, 0, 0) from rfl)) (Nat.zero_le _) (Nat.zero_le _) ⟨_, rfl, Is16, Gs16, JRLx_s16, (-1), rfl, (by decide), trivial⟩
      ·
        refine z_const X (show cdA 263 47 = some (.iconst (-1), 1, 0, 0, 0) from rfl) ?_
        exact w_iret X.1 q hRt rfl (ax_d X (show cdA 263 48 = some (.ireturn, 1, 0, 0, 0) from rfl)) (Nat.zero_le _) (Nat.zero_le _) ⟨_, rfl, Is7, Gs7, JRLx_s7, (-1), rfl, (by decide), trivial⟩
    ·
      refine z_const X (show cdA 263 38 = some (.iconst 0, 1, 0, 0, 0) from rfl) ?_
      exact w_iret X.1 q hRt rfl (ax_d X (show cdA 263 39 = some (.ireturn, 1, 0, 0, 0) from rfl)) (Nat.zero_le _) (Nat.zero_le _) ⟨_, rfl, Is7, Gs7, JRLx_s7, 0, rfl, (by decide), trivial⟩
  ·
    refine z_load_n X (x := y) (show cdA 263 15 = some (.iload_n 2, 1, 0, 0, 0) from rfl) (List.Mem.tail _ (List.Mem.tail _ (List.Mem.head _))) ?_
    refine z_bipush X (show cdA 263 16 = some (.bipush (-2), 2, 0, 0, (-2)) from rfl) ?_
    refine z_bipush X (show cdA 263 18 = some (.bipush 7, 2, 0, 0, 7) from rfl) ?_
    refine z_callS X (rm := rmN 188) (As := [.int (Int32.ofInt y), .int (Int32.ofInt (-2)), .int (Int32.ofInt 7)]) (st := [.ref (A 179)]) (show cdA 263 20 = some (.invokestatic 209, 3, 188, 1, 0) from rfl) rfl (by rw [E.1, E.2.1, E.2.2.1]; exact k_in G Is4 (by first | exact ⟨p1.1, p1.2⟩ | omega) (by first | exact ⟨by decide, by decide⟩ | omega) (by first | exact ⟨by decide, by decide⟩ | omega)) ⟨by rw [E.2.2.2]; exact (show (rmN 188).frames + 1 ≤ (rmN 263).frames by decide), by rw [E.2.2.2]; exact (show 8 + (mNL (miB 188) + 11) + (rmN 188).locals ≤ (rmN 263).locals by decide), by rw [E.2.2.2]; exact (show 0 + (rmN 188).cells ≤ (rmN 263).cells by decide), by rw [E.2.2.2]; exact (show 0 + (rmN 188).slots ≤ (rmN 263).slots by decide)⟩ (Nat.le_of_ble_eq_true rfl) (fun vv s29 hq => ?_) (fun ee s29 hq => ?_)
    rotate_left
    · obtain ⟨Is29, Fs29, e30, hv, hrs29, hps29⟩ := hq; cases hv
    obtain ⟨Is29, Fs29, e30, hv, hrs29, hps29⟩ := hq
    cases hv
    have Gs29 := fm_ts Gs4 Fs29 (by decide) (by decide)
    have JRLx_s29 : RLx s29 := RLx_fm Fs29 (by decide) JRLx_s4
    have ws29_73 : iI s29 73 = iI s4 73 := fm_i Fs29 (by decide)
    have ws29_97 : iI s29 97 = iI s4 97 := fm_i Fs29 (by decide)
    show WS k 23 [(0, .ref (A 179)), (1, .int (Int32.ofInt x)), (2, .int (Int32.ofInt y))] [.int (Int32.ofInt e30), .ref (A 179)] (Wd A dT s29) 0 0
    have N31 : ∀ e32 : Int, (((e30 ≠ 0) ∧ e32 = 0) ∨ ((e30 = 0) ∧ e32 = 1)) → WS k 31 [(0, .ref (A 179)), (1, .int (Int32.ofInt x)), (2, .int (Int32.ofInt y))] [.int (Int32.ofInt e32), .ref (A 179)] (Wd A dT s29) 0 0 := by
      intro e32 he32
      have re32 : 0 ≤ e32 ∧ e32 ≤ 1 := by omega
      refine z_const X (show cdA 263 31 = some (.iconst 1, 1, 0, 0, 0) from rfl) ?_
      refine z_callV X 179 (rm := rmN 187) (As := [.int (Int32.ofInt e32), .int (Int32.ofInt 1)]) (st := []) (show cdA 263 32 = some (.invokevirtual 229, 3, 187, 0, 0) from rfl) rfl (by decide) rfl (by rw [E.1, E.2.1, E.2.2.1]; exact k_bad G Is29 (by first | exact oq_31e518ae re32.2 re32.1 | omega) (by first | exact ⟨by decide, by decide⟩ | omega)) ⟨by rw [E.2.2.2]; exact (show (rmN 187).frames + 1 ≤ (rmN 263).frames by decide), by rw [E.2.2.2]; exact (show 8 + (mNL (miB 187) + 11) + (rmN 187).locals ≤ (rmN 263).locals by decide), by rw [E.2.2.2]; exact (show 0 + (rmN 187).cells ≤ (rmN 263).cells by decide), by rw [E.2.2.2]; exact (show 0 + (rmN 187).slots ≤ (rmN 263).slots by decide)⟩ (Nat.le_of_ble_eq_true rfl) (fun vv s33 hq => ?_) (fun ee s33 hq => ?_)
      rotate_left
      · obtain ⟨Is33, Fs33, e34, hv, hrs33, hps33⟩ := hq; cases hv
      obtain ⟨Is33, Fs33, e34, hv, hrs33, hps33⟩ := hq
      cases hv
      have Gs33 := fm_ts Gs29 Fs33 (by decide) (by decide)
      have JRLx_s33 : RLx s33 := RLx_fm Fs33 (by decide) JRLx_s29
      have b35 : (0 : Int) ≤ iI s33 73 ∧ iI s33 73 ≤ 3 := Is33.1 73
      have ws33_97 : iI s33 97 = iI s29 97 := fm_i Fs33 (by decide)
      show WS k 35 [(0, .ref (A 179)), (1, .int (Int32.ofInt x)), (2, .int (Int32.ofInt y))] [.int (Int32.ofInt e34)] (Wd A dT s33) 0 0
      refine z_if_eq X (t := 40) (show cdA 263 35 = some (.ifCond .eq 5, 3, 0, 0, 0) from rfl) (by decide) hrs33 (fun g36 => ?_) (fun g36 => ?_)
      ·
        refine z_aload_n X (x := A 179) (show cdA 263 40 = some (.aload_n 0, 1, 0, 0, 0) from rfl) (List.Mem.head _) ?_
        refine z_getI X 179 (show cdA 263 41 = some (.getfield 384, 3, 12, 46, 0) from rfl) (by decide) rfl rfl ?_
        have b37 : (0 : Int) ≤ iI s33 97 ∧ iI s33 97 ≤ 8 := Is33.1 97
        refine z_if_ne X (t := 49) (show cdA 263 44 = some (.ifCond .ne 5, 3, 1, 0, 0) from rfl) (by decide) (rng_to _) (fun g38 => ?_) (fun g38 => ?_)
        ·
          refine z_aload_n X (x := A 179) (show cdA 263 49 = some (.aload_n 0, 1, 0, 0, 0) from rfl) (List.Mem.head _) ?_
          refine z_callV X 179 (rm := rmN 260) (As := []) (st := []) (show cdA 263 50 = some (.invokevirtual 400, 3, 260, 0, 0) from rfl) rfl (by decide) rfl (by rw [E.1, E.2.1, E.2.2.1]; exact k_findSets G Is33 JRLx_s33 ) ⟨by rw [E.2.2.2]; exact (show (rmN 260).frames + 1 ≤ (rmN 263).frames by decide), by rw [E.2.2.2]; exact (show 8 + (mNL (miB 260) + 11) + (rmN 260).locals ≤ (rmN 263).locals by decide), by rw [E.2.2.2]; exact (show 0 + (rmN 260).cells ≤ (rmN 263).cells by decide), by rw [E.2.2.2]; exact (show 0 + (rmN 260).slots ≤ (rmN 263).slots by decide)⟩ (Nat.le_of_ble_eq_true rfl) (fun vv s39 hq => ?_) (fun ee s39 hq => ?_)
          rotate_left
          · obtain ⟨Is39, Fs39, JRLx_s39, hv, hps39⟩ := hq; cases hv
          obtain ⟨Is39, Fs39, JRLx_s39, hv, hps39⟩ := hq
          cases hv
          have Gs39 := fm_ts Gs33 Fs39 (by decide) (by decide)
          have JRLx_s39 : RLx s39 := RLx_fm Fs39 (by decide) JRLx_s33
          have ws39_73 : iI s39 73 = iI s33 73 := fm_i Fs39 (by decide)
          have ws39_97 : iI s39 97 = iI s33 97 := fm_i Fs39 (by decide)
          show WS k 53 [(0, .ref (A 179)), (1, .int (Int32.ofInt x)), (2, .int (Int32.ofInt y))] [] (Wd A dT s39) 0 0
          refine z_aload_n X (x := A 179) (show cdA 263 53 = some (.aload_n 0, 1, 0, 0, 0) from rfl) (List.Mem.head _) ?_
          refine s_getR X 179 (show cdA 263 54 = some (.getfield 98, 3, 12, 51, 0) from rfl) (by decide) rfl rfl ?_
          refine z_const X (show cdA 263 57 = some (.iconst 0, 1, 0, 0, 0) from rfl) ?_
          refine z_const X (show cdA 263 58 = some (.iconst (-1), 1, 0, 0, 0) from rfl) ?_
          refine z_ast X 264 (show cdA 263 59 = some (.iastore, 1, 0, 0, 0) from rfl) (by decide) rfl (by decide) (show 0 < 8 by decide) (by decide) ?_
          obtain ⟨s41, hs41⟩ : ∃ x0, x0 = uC s39 236 (0 : Int).toNat (Int32.ofInt (-1)) := ⟨_, rfl⟩
          rw [← hs41]
          have Is41 : Bd s41 := by rw [hs41]; exact bd_C Is39 (show ((-1) : Int) ≤ (-1) ∧ (-1) ≤ 7 by first | exact ⟨by decide, by decide⟩ | omega) (by decide)
          have Fs41 := fm_C (i := (0 : Int).toNat) (x := Int32.ofInt (-1)) Gs39 (show 236 ∈ _ by decide)
          rw [← hs41] at Fs41
          have ws41_73 : iI s41 73 = iI s39 73 := by rw [hs41]; rfl
          have ws41_97 : iI s41 97 = iI s39 97 := by rw [hs41]; rfl
          have fs41 : Fm [] [236] s39 s41 := by rw [hs41]; exact fm_C (fm_rf _ _ _) (show 236 ∈ _ by decide)
          have JRLx_s41 : RLx s41 := RLx_fm fs41 (by decide) JRLx_s39
          refine z_aload_n X (x := A 179) (show cdA 263 60 = some (.aload_n 0, 1, 0, 0, 0) from rfl) (List.Mem.head _) ?_
          refine z_const X (show cdA 263 61 = some (.iconst 0, 1, 0, 0, 0) from rfl) ?_
          refine z_const X (show cdA 263 62 = some (.iconst 0, 1, 0, 0, 0) from rfl) ?_
          refine z_load_n X (x := x) (show cdA 263 63 = some (.iload_n 1, 1, 0, 0, 0) from rfl) (List.Mem.tail _ (List.Mem.head _)) ?_
          refine z_callV X 179 (rm := (rkR (12 + 8))) (As := [.int (Int32.ofInt 0), .int (Int32.ofInt 0), .int (Int32.ofInt x)]) (st := []) (show cdA 263 64 = some (.invokevirtual 390, 3, 261, 0, 0) from rfl) rfl (by decide) rfl (by rw [E.1, E.2.1, E.2.2.1]; exact k_partsr G 8 Is41 (by first | exact ⟨by decide, oq_0f93fca7 ws41_97 ws39_97 b37.1⟩ | omega) (by first | exact oq_869f4868 ws41_97 ws39_97 b37.2 | omega) (by first | exact ⟨by decide, by decide⟩ | omega) (by first | exact ⟨oq_ce6c459a g6 hps4, oq_3bba0cb6 g6 hps4⟩ | omega)) ⟨by rw [E.2.2.2]; exact (show 32 + 1 ≤ 38 from oq_7efb0865), by rw [E.2.2.2]; exact (show 8 + (5 + 11) + 1400 ≤ 1601 from oq_2d6821c8), by rw [E.2.2.2]; exact Nat.le_refl 0, by rw [E.2.2.2]; exact Nat.le_refl 0⟩ (Nat.le_of_ble_eq_true rfl) (fun vv s42 hq => ?_) (fun ee s42 hq => ?_)
          rotate_left
          · obtain ⟨Is42, Fs42, hv, hps42⟩ := hq; cases hv
          obtain ⟨Is42, Fs42, hv, hps42⟩ := hq
          cases hv
          have Gs42 := fm_ts Fs41 Fs42 (by decide) (by decide)
          have JRLx_s42 : RLx s42 := RLx_fm Fs42 (by decide) JRLx_s41
          have ws42_73 : iI s42 73 = iI s41 73 := fm_i Fs42 (by decide)
          have ws42_97 : iI s42 97 = iI s41 97 := fm_i Fs42 (by decide)
          show WS k 67 [(0, .ref (A 179)), (1, .int (Int32.ofInt x)), (2, .int (Int32.ofInt y))] [] (Wd A dT s42) 0 0
          refine z_aload_n X (x := A 179) (show cdA 263 67 = some (.aload_n 0, 1, 0, 0, 0) from rfl) (List.Mem.head _) ?_
          refine s_getR X 179 (show cdA 263 68 = some (.getfield 98, 3, 12, 51, 0) from rfl) (by decide) rfl rfl ?_
          refine z_const X (show cdA 263 71 = some (.iconst 0, 1, 0, 0, 0) from rfl) ?_
          refine z_ald X 264 (show cdA 263 72 = some (.iaload, 1, 0, 0, 0) from rfl) (by decide) rfl (by decide) (show 0 < 8 by decide) (by decide) ?_
          have b44 : ((-1) : Int) ≤ iC s42 236 (0 : Int).toNat ∧ iC s42 236 (0 : Int).toNat ≤ 7 := Is42.2 236 _ (show (0 : Int).toNat < 8 by first | exact oq_7f42415e | omega)
          refine z_const X (show cdA 263 73 = some (.iconst (-1), 1, 0, 0, 0) from rfl) ?_
          refine z_icmp_ne X (t := 79) (show cdA 263 74 = some (.if_icmp .ne 5, 3, 1, 0, 0) from rfl) (by decide) (rng_to _) (by decide) (fun g45 => ?_) (fun g45 => ?_)
          ·
            refine z_load_n X (x := y) (show cdA 263 79 = some (.iload_n 2, 1, 0, 0, 0) from rfl) (List.Mem.tail _ (List.Mem.tail _ (List.Mem.head _))) ?_
            refine z_const X (show cdA 263 80 = some (.iconst (-1), 1, 0, 0, 0) from rfl) ?_
            have N46 : ∀ e47 : Int, (((y ≠ (-1)) ∧ (y ≠ (-2)) ∧ ((0 : Int) ≤ iI s42 97 ∧ iI s42 97 ≤ 8) ∧ ((iI s42 97) ≤ y) ∧ e47 = (-1)) ∨ ((y ≠ (-1)) ∧ (y ≠ (-2)) ∧ ((0 : Int) ≤ iI s42 97 ∧ iI s42 97 ≤ 8) ∧ (y < (iI s42 97)) ∧ (((-1) : Int) ≤ iC s42 236 (y).toNat ∧ iC s42 236 (y).toNat ≤ 7) ∧ e47 = (iC s42 236 (y).toNat)) ∨ ((y ≠ (-1)) ∧ (y = (-2)) ∧ (((-2147483648) : Int) ≤ iI s42 101 ∧ iI s42 101 ≤ 2147483647) ∧ e47 = (iI s42 101)) ∨ ((y = (-1)) ∧ (((-2147483648) : Int) ≤ iI s42 100 ∧ iI s42 100 ≤ 2147483647) ∧ e47 = (iI s42 100))) → WS k 122 [(0, .ref (A 179)), (1, .int (Int32.ofInt x)), (2, .int (Int32.ofInt y))] [.int (Int32.ofInt e47)] (Wd A dT s42) 0 0 := by
              intro e47 he47
              exact w_iret X.1 q hRt rfl (ax_d X (show cdA 263 122 = some (.ireturn, 1, 0, 0, 0) from rfl)) (Nat.zero_le _) (Nat.zero_le _) ⟨_, rfl, Is42, Gs42, JRLx_s42, e47, rfl, ⟨by first | exact oq_2e6f89e7 he47 | omega, by first | exact oq_30d08da3 he47 | omega⟩, trivial⟩
            refine z_icmp_ne X (t := 91) (show cdA 263 81 = some (.if_icmp .ne 10, 3, 1, 0, 0) from rfl) (by decide) ⟨by first | exact p1.1 | omega, by first | exact p1.2 | omega⟩ (by decide) (fun g48 => ?_) (fun g48 => ?_)
            ·
              refine z_load_n X (x := y) (show cdA 263 91 = some (.iload_n 2, 1, 0, 0, 0) from rfl) (List.Mem.tail _ (List.Mem.tail _ (List.Mem.head _))) ?_
              refine z_bipush X (show cdA 263 92 = some (.bipush (-2), 2, 0, 0, (-2)) from rfl) ?_
              refine z_icmp_ne X (t := 104) (show cdA 263 94 = some (.if_icmp .ne 10, 3, 1, 0, 0) from rfl) (by decide) ⟨by first | exact p1.1 | omega, by first | exact p1.2 | omega⟩ (by decide) (fun g49 => ?_) (fun g49 => ?_)
              ·
                refine z_load_n X (x := y) (show cdA 263 104 = some (.iload_n 2, 1, 0, 0, 0) from rfl) (List.Mem.tail _ (List.Mem.tail _ (List.Mem.head _))) ?_
                refine z_aload_n X (x := A 179) (show cdA 263 105 = some (.aload_n 0, 1, 0, 0, 0) from rfl) (List.Mem.head _) ?_
                refine z_getI X 179 (show cdA 263 106 = some (.getfield 384, 3, 12, 46, 0) from rfl) (by decide) rfl rfl ?_
                have b50 : (0 : Int) ≤ iI s42 97 ∧ iI s42 97 ≤ 8 := Is42.1 97
                refine z_icmp_ge X (t := 121) (show cdA 263 109 = some (.if_icmp .ge 12, 3, 3, 0, 0) from rfl) (by decide) ⟨by first | exact p1.1 | omega, by first | exact p1.2 | omega⟩ (rng_to _) (fun g51 => ?_) (fun g51 => ?_)
                ·
                  refine z_const X (show cdA 263 121 = some (.iconst (-1), 1, 0, 0, 0) from rfl) ?_
                  exact N46 _ (Or.inl ⟨g48, g49, b50, g51, rfl⟩)
                ·
                  refine z_aload_n X (x := A 179) (show cdA 263 112 = some (.aload_n 0, 1, 0, 0, 0) from rfl) (List.Mem.head _) ?_
                  refine s_getR X 179 (show cdA 263 113 = some (.getfield 98, 3, 12, 51, 0) from rfl) (by decide) rfl rfl ?_
                  refine z_load_n X (x := y) (show cdA 263 116 = some (.iload_n 2, 1, 0, 0, 0) from rfl) (List.Mem.tail _ (List.Mem.tail _ (List.Mem.head _))) ?_
                  refine z_ald X 264 (show cdA 263 117 = some (.iaload, 1, 0, 0, 0) from rfl) (by decide) rfl (by first | exact oq_872438c8 g49 g48 g36 hps33.2.1 re32.2 he32 hps29 | omega) (show y < 8 by first | exact oq_7f5b2e79 g51 b50.2 | omega) (by decide) ?_
                  have b52 : ((-1) : Int) ≤ iC s42 236 (y).toNat ∧ iC s42 236 (y).toNat ≤ 7 := Is42.2 236 _ (show (y).toNat < 8 by first | exact oq_67be0351 g51 b50.2 | omega)
                  refine z_goto X (t := 122) (show cdA 263 118 = some (.goto 4, 3, 0, 0, 0) from rfl) (by decide) ?_
                  exact N46 _ (Or.inr (Or.inl ⟨g48, g49, b50, g51, b52, rfl⟩))
              ·
                refine z_aload_n X (x := A 179) (show cdA 263 97 = some (.aload_n 0, 1, 0, 0, 0) from rfl) (List.Mem.head _) ?_
                refine z_getI X 179 (show cdA 263 98 = some (.getfield 397, 3, 12, 57, 0) from rfl) (by decide) rfl rfl ?_
                have b53 : ((-2147483648) : Int) ≤ iI s42 101 ∧ iI s42 101 ≤ 2147483647 := Is42.1 101
                refine z_goto X (t := 122) (show cdA 263 101 = some (.goto 21, 3, 0, 0, 0) from rfl) (by decide) ?_
                exact N46 _ (Or.inr (Or.inr (Or.inl ⟨g48, g49, b53, rfl⟩)))
            ·
              refine z_aload_n X (x := A 179) (show cdA 263 84 = some (.aload_n 0, 1, 0, 0, 0) from rfl) (List.Mem.head _) ?_
              refine z_getI X 179 (show cdA 263 85 = some (.getfield 394, 3, 12, 56, 0) from rfl) (by decide) rfl rfl ?_
              have b54 : ((-2147483648) : Int) ≤ iI s42 100 ∧ iI s42 100 ≤ 2147483647 := Is42.1 100
              refine z_goto X (t := 122) (show cdA 263 88 = some (.goto 34, 3, 0, 0, 0) from rfl) (by decide) ?_
              exact N46 _ (Or.inr (Or.inr (Or.inr (⟨g48, b54, rfl⟩))))
          ·
            refine z_const X (show cdA 263 77 = some (.iconst (-1), 1, 0, 0, 0) from rfl) ?_
            exact w_iret X.1 q hRt rfl (ax_d X (show cdA 263 78 = some (.ireturn, 1, 0, 0, 0) from rfl)) (Nat.zero_le _) (Nat.zero_le _) ⟨_, rfl, Is42, Gs42, JRLx_s42, (-1), rfl, (by decide), trivial⟩
        ·
          refine z_const X (show cdA 263 47 = some (.iconst (-1), 1, 0, 0, 0) from rfl) ?_
          exact w_iret X.1 q hRt rfl (ax_d X (show cdA 263 48 = some (.ireturn, 1, 0, 0, 0) from rfl)) (Nat.zero_le _) (Nat.zero_le _) ⟨_, rfl, Is33, Gs33, JRLx_s33, (-1), rfl, (by decide), trivial⟩
      ·
        refine z_const X (show cdA 263 38 = some (.iconst 0, 1, 0, 0, 0) from rfl) ?_
        exact w_iret X.1 q hRt rfl (ax_d X (show cdA 263 39 = some (.ireturn, 1, 0, 0, 0) from rfl)) (Nat.zero_le _) (Nat.zero_le _) ⟨_, rfl, Is33, Gs33, JRLx_s33, 0, rfl, (by decide), trivial⟩
    refine z_if_ne X (t := 30) (show cdA 263 23 = some (.ifCond .ne 7, 3, 1, 0, 0) from rfl) (by decide) hrs29 (fun g55 => ?_) (fun g55 => ?_)
    ·
      refine z_const X (show cdA 263 30 = some (.iconst 0, 1, 0, 0, 0) from rfl) ?_
      exact N31 _ (Or.inl ⟨g55, rfl⟩)
    ·
      refine z_const X (show cdA 263 26 = some (.iconst 1, 1, 0, 0, 0) from rfl) ?_
      refine z_goto X (t := 31) (show cdA 263 27 = some (.goto 4, 3, 0, 0, 0) from rfl) (by decide) ?_
      exact N31 _ (Or.inr (⟨g55, rfl⟩))
end M59
