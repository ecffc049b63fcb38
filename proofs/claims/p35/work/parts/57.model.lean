/-! The model: what hangs together -/
def sm (f : Nat → Int) : Nat → Int
  | 0 => 0
  | n + 1 => sm f n + f n
theorem sm_eq {f g : Nat → Int} : ∀ {n : Nat}, (∀ j, j < n → g j = f j) → sm g n = sm f n
  | 0, _ => rfl
  | n + 1, h => by
    show sm g n + g n = sm f n + f n
    rw [sm_eq (fun j hj => h j (by omega)), h n (by omega)]
theorem sm_0 {f : Nat → Int} : ∀ {n : Nat}, (∀ j, j < n → f j = 0) → sm f n = 0
  | 0, _ => rfl
  | n + 1, h => by
    show sm f n + f n = 0
    rw [sm_0 (fun j hj => h j (by omega)), h n (by omega)]
    rfl
theorem sm_up {f g : Nat → Int} {i : Nat} (h : ∀ j, j ≠ i → g j = f j) : ∀ {n : Nat}, i < n → sm g n = sm f n - f i + g i
  | 0, hi => absurd hi (Nat.not_lt_zero _)
  | n + 1, hi => by
    show sm g n + g n = sm f n + f n - f i + g i
    by_cases e : i = n
    · subst e
      rw [sm_eq (fun j hj => h j (by omega))]
      omega
    · rw [sm_up h (n := n) (by omega), h n (Ne.symm e)]
      omega
theorem sm_le {f : Nat → Int} : ∀ {n : Nat}, (∀ j, j < n → f j ≤ 1) → sm f n ≤ n
  | 0, _ => Int.le_refl _
  | n + 1, h => by
    show sm f n + f n ≤ ((n + 1 : Nat) : Int)
    have a := sm_le (n := n) (fun j hj => h j (by omega))
    have b := h n (by omega)
    omega
theorem sm_lt {f : Nat → Int} {i : Nat} (h0 : f i ≤ 0) : ∀ {n : Nat}, i < n → (∀ j, j < n → f j ≤ 1) → sm f n ≤ (n : Int) - 1
  | 0, hi, _ => absurd hi (Nat.not_lt_zero _)
  | n + 1, hi, h => by
    show sm f n + f n ≤ ((n + 1 : Nat) : Int) - 1
    by_cases e : i = n
    · subst e
      have a := sm_le (n := i) (fun j hj => h j (by omega))
      omega
    · have a := sm_lt h0 (n := n) (by omega) (fun j hj => h j (by omega))
      have b := h n (by omega)
      omega
/-- how many cells are met -/
def smM (t : PS) : Int := sm (fun j => iC t 231 j) 128
theorem SM_o {t : PS} {a i : Nat} {x : Int32} (h : 231 ≠ a) : smM (uC t a i x) = smM t := sm_eq (fun j _ => iC_a h)
theorem SM_st {t : PS} {i : Nat} (hi : i < 128) (h0 : iC t 231 i = 0) : smM (uC t 231 i (Int32.ofInt 1)) = smM t + 1 := by
  unfold smM
  rw [sm_up (f := fun j => iC t 231 j) (i := i) (fun j hj => iC_n hj) hi]
  show _ - iC t 231 i + iC (uC t 231 i (Int32.ofInt 1)) 231 i = _
  rw [h0, iC_u ⟨by omega, by omega⟩]
  omega
theorem SM_fm {L M : List Nat} {s t : PS} (F : Fm L M s t) (h : 231 ∉ M) : smM t = smM s := sm_eq (fun j _ => fm_c F h)
theorem SM_le {t : PS} (I : Bd t) {i : Nat} (hi : i < 128) (h0 : iC t 231 i = 0) : smM t ≤ 127 := sm_lt (i := i) (Int.le_of_eq h0) hi (fun j hj => (I.2 231 j hj).2)
theorem SM_0 {t : PS} (h : ∀ j, j < 128 → iC t 231 j = 0) : smM t = 0 := sm_0 h
section M57
variable {l : Launch} {s0 : State} {D : va_G} {tys : List (ClassId × FieldType)} {a0 : Array Value} {A : Nat → Nat} {dT : Nat → ClassId} {s : PS}
set_option maxRecDepth 4000 in
theorem k_hangs (G : GX l s0 D tys a0 dT) (I : Bd s)  : CT l s0 D A dT 239 (rmN 239) [.ref (A 179)] s (fun o t => Bd t ∧ Fm [] [231, 232] s t ∧ ∃ e, o = .inl (some (.int (Int32.ofInt e))) ∧ rng e ∧ (e = 0 ∨ e = 1)) := by
  refine ct_of G (by decide) (Nat.le_of_ble_eq_true rfl) (fun k X E hRt hXt q => ?_)
  show WS k 0 [(0, .ref (A 179))] [] _ 0 0
  have F : Fm [] [231, 232] s s := fm_rf _ _ s
  have L10 : ∀ (n : Nat) (t : PS) (m0 al fi c : Int), Bd t → Fm [] [231, 232] s t → (∀ j : Nat, j < 128 → c < (j : Int) → iC t 231 j = 0) → (0 ≤ al ∧ al ≤ 127 - c ∧ -1 ≤ fi ∧ fi ≤ 127 ∧ -1 ≤ c ∧ c ≤ 127) → (c + 1 : Int).toNat < n → (∀ (t' : PS) (al' fi' c' : Int), Bd t' → Fm [] [231, 232] s t' → (∀ j : Nat, j < 128 → c' < (j : Int) → iC t' 231 j = 0) → (0 ≤ al' ∧ al' ≤ 128 ∧ -1 ≤ fi' ∧ fi' ≤ 127 ∧ c' < 0) → WS k 64 [(0, .ref (A 179)), (1, .int (Int32.ofInt m0)), (2, .int (Int32.ofInt al')), (3, .int (Int32.ofInt fi')), (4, .int (Int32.ofInt c'))] [] (Wd A dT t') 0 0) → WS k 10 [(0, .ref (A 179)), (1, .int (Int32.ofInt m0)), (2, .int (Int32.ofInt al)), (3, .int (Int32.ofInt fi)), (4, .int (Int32.ofInt c))] [] (Wd A dT t) 0 0 := by
    intro n
    induction n with
    | zero =>
      intro t m0 al fi c I F hq hi hm kx
      exact absurd hm (Nat.not_lt_zero _)
    | succ n ih =>
      intro t m0 al fi c I F hq hi hm kx
      refine z_load X (x := c) (show cdA 239 10 = some (.iload 4, 2, 0, 0, 0) from rfl) (List.Mem.tail _ (List.Mem.tail _ (List.Mem.tail _ (List.Mem.tail _ (List.Mem.head _))))) ?_
      refine z_if_lt X (t := 64) (show cdA 239 12 = some (.ifCond .lt 52, 3, 2, 0, 0) from rfl) (by decide) ⟨by first | exact oq_97ee2c2a hi.2.2.2.2.1 | omega, by first | exact oq_07d346ce hi.2.2.2.2.2 | omega⟩ (fun g1001 => ?_) (fun g1001 => ?_)
      ·
        refine WS_lv (lv := [(0, .ref (A 179)), (1, .int (Int32.ofInt m0)), (2, .int (Int32.ofInt al)), (3, .int (Int32.ofInt fi)), (4, .int (Int32.ofInt c))]) (List.forall_mem_cons.mpr ⟨(List.Mem.head _), (List.forall_mem_cons.mpr ⟨(List.Mem.tail _ (List.Mem.head _)), (List.forall_mem_cons.mpr ⟨(List.Mem.tail _ (List.Mem.tail _ (List.Mem.head _))), (List.forall_mem_cons.mpr ⟨(List.Mem.tail _ (List.Mem.tail _ (List.Mem.tail _ (List.Mem.head _)))), (List.forall_mem_cons.mpr ⟨(List.Mem.tail _ (List.Mem.tail _ (List.Mem.tail _ (List.Mem.tail _ (List.Mem.head _))))), (fun q h => absurd h List.not_mem_nil)⟩)⟩)⟩)⟩)⟩) ?_
        exact kx _ al fi c I F hq (by first | exact ⟨hi.1, oq_19dc38cc hi.2.1 hi.2.2.2.2.1, hi.2.2.1, hi.2.2.2.1, g1001⟩ | omega)
      ·
        refine z_aload_n X (x := A 179) (show cdA 239 15 = some (.aload_n 0, 1, 0, 0, 0) from rfl) (List.Mem.head _) ?_
        refine s_getR X 179 (show cdA 239 16 = some (.getfield 80, 3, 12, 38, 0) from rfl) (by decide) rfl rfl ?_
        refine z_load X (x := c) (show cdA 239 19 = some (.iload 4, 2, 0, 0, 0) from rfl) (List.Mem.tail _ (List.Mem.tail _ (List.Mem.tail _ (List.Mem.tail _ (List.Mem.head _))))) ?_
        refine z_const X (show cdA 239 21 = some (.iconst 0, 1, 0, 0, 0) from rfl) ?_
        refine z_zast X 259 (show cdA 239 22 = some (.bastore, 1, 0, 0, 0) from rfl) (by decide) rfl (by first | exact g1001 | omega) (show c < 128 by first | exact oq_31b2bf10 hi.2.2.2.2.2 | omega) (by decide) (by first | exact Or.inl (by decide) | omega) ?_
        obtain ⟨s1002, hs1002⟩ : ∃ x0, x0 = uC t 231 (c).toNat (Int32.ofInt 0) := ⟨_, rfl⟩
        rw [← hs1002]
        have Is1002 : Bd s1002 := by rw [hs1002]; exact bd_C I (show (0 : Int) ≤ 0 ∧ 0 ≤ 1 by first | exact ⟨by decide, by decide⟩ | omega) (by decide)
        have Fs1002 := fm_C (i := (c).toNat) (x := Int32.ofInt 0) F (show 231 ∈ _ by decide)
        rw [← hs1002] at Fs1002
        refine z_load_n X (x := al) (show cdA 239 23 = some (.iload_n 2, 1, 0, 0, 0) from rfl) (List.Mem.tail _ (List.Mem.tail _ (List.Mem.head _))) ?_
        refine z_aload_n X (x := A 179) (show cdA 239 24 = some (.aload_n 0, 1, 0, 0, 0) from rfl) (List.Mem.head _) ?_
        refine s_getR X 179 (show cdA 239 25 = some (.getfield 76, 3, 12, 37, 0) from rfl) (by decide) rfl rfl ?_
        refine z_load X (x := c) (show cdA 239 28 = some (.iload 4, 2, 0, 0, 0) from rfl) (List.Mem.tail _ (List.Mem.tail _ (List.Mem.tail _ (List.Mem.tail _ (List.Mem.head _))))) ?_
        refine z_zald X 258 (show cdA 239 30 = some (.baload, 1, 0, 0, 0) from rfl) (by decide) rfl (by first | exact g1001 | omega) (show c < 128 by first | exact oq_31b2bf10 hi.2.2.2.2.2 | omega) (by decide) ?_
        have b1003 : (0 : Int) ≤ iC s1002 230 (c).toNat ∧ iC s1002 230 (c).toNat ≤ 1 := Is1002.2 230 _ (show (c).toNat < 128 by first | exact oq_c7f4e9c1 hi.2.2.2.2.2 | omega)
        have N1004 : ∀ e1005 : Int, ((((iC s1002 230 (c).toNat) = 0) ∧ e1005 = 0) ∨ (((iC s1002 230 (c).toNat) ≠ 0) ∧ e1005 = 1)) → WS k 39 [(0, .ref (A 179)), (1, .int (Int32.ofInt m0)), (2, .int (Int32.ofInt al)), (3, .int (Int32.ofInt fi)), (4, .int (Int32.ofInt c))] [.int (Int32.ofInt e1005), .int (Int32.ofInt al)] (Wd A dT s1002) 0 0 := by
          intro e1005 he1005
          have re1005 : 0 ≤ e1005 ∧ e1005 ≤ 1 := by omega
          refine z_add X (show cdA 239 39 = some (.iadd, 1, 0, 0, 0) from rfl) ?_
          refine z_store_n X (lv' := [(2, .int (Int32.ofInt (al + e1005))), (0, .ref (A 179)), (1, .int (Int32.ofInt m0)), (3, .int (Int32.ofInt fi)), (4, .int (Int32.ofInt c))]) (show cdA 239 40 = some (.istore_n 2, 1, 0, 0, 0) from rfl) (by decide) (fun _ h => h) ?_
          refine z_aload_n X (x := A 179) (show cdA 239 41 = some (.aload_n 0, 1, 0, 0, 0) from rfl) (List.Mem.tail _ (List.Mem.head _)) ?_
          refine s_getR X 179 (show cdA 239 42 = some (.getfield 76, 3, 12, 37, 0) from rfl) (by decide) rfl rfl ?_
          refine z_load X (x := c) (show cdA 239 45 = some (.iload 4, 2, 0, 0, 0) from rfl) (List.Mem.tail _ (List.Mem.tail _ (List.Mem.tail _ (List.Mem.tail _ (List.Mem.head _))))) ?_
          refine z_zald X 258 (show cdA 239 47 = some (.baload, 1, 0, 0, 0) from rfl) (by decide) rfl (by first | exact g1001 | omega) (show c < 128 by first | exact oq_31b2bf10 hi.2.2.2.2.2 | omega) (by decide) ?_
          have b1006 : (0 : Int) ≤ iC s1002 230 (c).toNat ∧ iC s1002 230 (c).toNat ≤ 1 := Is1002.2 230 _ (show (c).toNat < 128 by first | exact oq_c7f4e9c1 hi.2.2.2.2.2 | omega)
          have N1007 : ∀ e1008 : Int, ((((iC s1002 230 (c).toNat) = 0) ∧ e1008 = fi) ∨ (((iC s1002 230 (c).toNat) ≠ 0) ∧ e1008 = c)) → WS k 57 [(2, .int (Int32.ofInt (al + e1005))), (0, .ref (A 179)), (1, .int (Int32.ofInt m0)), (3, .int (Int32.ofInt fi)), (4, .int (Int32.ofInt c))] [.int (Int32.ofInt e1008)] (Wd A dT s1002) 0 0 := by
            intro e1008 he1008
            refine z_store_n X (lv' := [(3, .int (Int32.ofInt e1008)), (2, .int (Int32.ofInt (al + e1005))), (0, .ref (A 179)), (1, .int (Int32.ofInt m0)), (4, .int (Int32.ofInt c))]) (show cdA 239 57 = some (.istore_n 3, 1, 0, 0, 0) from rfl) (by decide) (fun _ h => h) ?_
            refine z_inc X (x := c) (lv' := [(4, .int (Int32.ofInt (c + (-1)))), (3, .int (Int32.ofInt e1008)), (2, .int (Int32.ofInt (al + e1005))), (0, .ref (A 179)), (1, .int (Int32.ofInt m0))]) (show cdA 239 58 = some (.iinc 4 (-1), 3, 0, 0, 0) from rfl) (by decide) (List.Mem.tail _ (List.Mem.tail _ (List.Mem.tail _ (List.Mem.tail _ (List.Mem.head _))))) (fun _ h => h) ?_
            refine z_goto X (t := 10) (show cdA 239 61 = some (.goto (-51), 3, 0, 0, 0) from rfl) (by decide) ?_
            refine WS_lv (lv := [(0, .ref (A 179)), (1, .int (Int32.ofInt m0)), (2, .int (Int32.ofInt (al + e1005))), (3, .int (Int32.ofInt e1008)), (4, .int (Int32.ofInt (c + (-1))))]) (List.forall_mem_cons.mpr ⟨(List.Mem.tail _ (List.Mem.tail _ (List.Mem.tail _ (List.Mem.head _)))), (List.forall_mem_cons.mpr ⟨(List.Mem.tail _ (List.Mem.tail _ (List.Mem.tail _ (List.Mem.tail _ (List.Mem.head _))))), (List.forall_mem_cons.mpr ⟨(List.Mem.tail _ (List.Mem.tail _ (List.Mem.head _))), (List.forall_mem_cons.mpr ⟨(List.Mem.tail _ (List.Mem.head _)), (List.forall_mem_cons.mpr ⟨(List.Mem.head _), (fun q h => absurd h List.not_mem_nil)⟩)⟩)⟩)⟩)⟩) ?_
            have hZ1009 : ∀ j : Nat, j < 128 → (c + (-1)) < (j : Int) → iC s1002 231 j = 0 := fun j hj h => by
              by_cases e : j = (c : Int).toNat
              · rw [e, hs1002, iC_u ⟨by omega, by omega⟩]
              · rw [hs1002, iC_n e]; exact hq j hj (by omega)
            exact ih _ m0 (al + e1005) e1008 (c + (-1)) Is1002 Fs1002 hZ1009 (by first | exact ⟨oq_dd29f52d hi.1 re1005.1, oq_ea98cc13 hi.2.1 re1005.2, oq_9d44c698 he1008 g1001 hi.2.2.1, oq_9427d874 he1008 hi.2.2.2.2.2 hi.2.2.2.1, oq_285ed02d g1001, oq_3500ac20 hi.2.2.2.2.2⟩ | omega) (by first | exact qk_me hm (by decide) (oq_7a276f11 g1001) | omega) kx
          refine z_if_eq X (t := 56) (show cdA 239 48 = some (.ifCond .eq 8, 3, 0, 0, 0) from rfl) (by decide) (rng_to _) (fun g1010 => ?_) (fun g1010 => ?_)
          ·
            refine z_load_n X (x := fi) (show cdA 239 56 = some (.iload_n 3, 1, 0, 0, 0) from rfl) (List.Mem.tail _ (List.Mem.tail _ (List.Mem.tail _ (List.Mem.head _)))) ?_
            exact N1007 _ (Or.inl ⟨g1010, rfl⟩)
          ·
            refine z_load X (x := c) (show cdA 239 51 = some (.iload 4, 2, 0, 0, 0) from rfl) (List.Mem.tail _ (List.Mem.tail _ (List.Mem.tail _ (List.Mem.tail _ (List.Mem.head _))))) ?_
            refine z_goto X (t := 57) (show cdA 239 53 = some (.goto 4, 3, 0, 0, 0) from rfl) (by decide) ?_
            exact N1007 _ (Or.inr (⟨g1010, rfl⟩))
        refine z_if_eq X (t := 38) (show cdA 239 31 = some (.ifCond .eq 7, 3, 0, 0, 0) from rfl) (by decide) (rng_to _) (fun g1011 => ?_) (fun g1011 => ?_)
        ·
          refine z_const X (show cdA 239 38 = some (.iconst 0, 1, 0, 0, 0) from rfl) ?_
          exact N1004 _ (Or.inl ⟨g1011, rfl⟩)
        ·
          refine z_const X (show cdA 239 34 = some (.iconst 1, 1, 0, 0, 0) from rfl) ?_
          refine z_goto X (t := 39) (show cdA 239 35 = some (.goto 4, 3, 0, 0, 0) from rfl) (by decide) ?_
          exact N1004 _ (Or.inr (⟨g1011, rfl⟩))
  have L99 : ∀ (n : Nat) (t : PS) (m0 al fi ka st0 : Int), Bd t → Fm [] [231, 232] s t → ((0 ≤ al ∧ al ≤ 128) ∧ 1 ≤ m0 ∧ m0 ≤ 128 ∧ 0 ≤ ka ∧ ka < m0 ∧ 0 ≤ st0 ∧ st0 ≤ 6 ∧ smM t = m0) → (6 - st0 : Int).toNat < n → (∀ (t' : PS) (m0' st0' : Int), Bd t' → Fm [] [231, 232] s t' → ((0 ≤ al ∧ al ≤ 128) ∧ 1 ≤ m0' ∧ m0' ≤ 128 ∧ 0 ≤ ka ∧ ka < m0' ∧ 0 ≤ st0' ∧ st0' ≤ 6 ∧ smM t' = m0') → WS k 174 [(0, .ref (A 179)), (1, .int (Int32.ofInt m0')), (2, .int (Int32.ofInt al)), (3, .int (Int32.ofInt fi)), (4, .int (Int32.ofInt ka)), (5, .int (Int32.ofInt st0'))] [] (Wd A dT t') 0 0) → WS k 99 [(0, .ref (A 179)), (1, .int (Int32.ofInt m0)), (2, .int (Int32.ofInt al)), (3, .int (Int32.ofInt fi)), (4, .int (Int32.ofInt ka)), (5, .int (Int32.ofInt st0))] [] (Wd A dT t) 0 0 := by
    intro n
    induction n with
    | zero =>
      intro t m0 al fi ka st0 I F hi hm kx
      exact absurd hm (Nat.not_lt_zero _)
    | succ n ih =>
      intro t m0 al fi ka st0 I F hi hm kx
      refine z_load X (x := st0) (show cdA 239 99 = some (.iload 5, 2, 0, 0, 0) from rfl) (List.Mem.tail _ (List.Mem.tail _ (List.Mem.tail _ (List.Mem.tail _ (List.Mem.tail _ (List.Mem.head _)))))) ?_
      refine z_bipush X (show cdA 239 101 = some (.bipush 6, 2, 0, 0, 6) from rfl) ?_
      refine z_icmp_ge X (t := 174) (show cdA 239 103 = some (.if_icmp .ge 71, 3, 3, 0, 0) from rfl) (by decide) ⟨by first | exact oq_fa4e5087 hi.2.2.2.2.2.1 | omega, by first | exact oq_b301c3bf hi.2.2.2.2.2.2.1 | omega⟩ (by decide) (fun g2001 => ?_) (fun g2001 => ?_)
      ·
        refine WS_lv (lv := [(0, .ref (A 179)), (1, .int (Int32.ofInt m0)), (2, .int (Int32.ofInt al)), (3, .int (Int32.ofInt fi)), (4, .int (Int32.ofInt ka)), (5, .int (Int32.ofInt st0))]) (List.forall_mem_cons.mpr ⟨(List.Mem.head _), (List.forall_mem_cons.mpr ⟨(List.Mem.tail _ (List.Mem.head _)), (List.forall_mem_cons.mpr ⟨(List.Mem.tail _ (List.Mem.tail _ (List.Mem.head _))), (List.forall_mem_cons.mpr ⟨(List.Mem.tail _ (List.Mem.tail _ (List.Mem.tail _ (List.Mem.head _)))), (List.forall_mem_cons.mpr ⟨(List.Mem.tail _ (List.Mem.tail _ (List.Mem.tail _ (List.Mem.tail _ (List.Mem.head _))))), (List.forall_mem_cons.mpr ⟨(List.Mem.tail _ (List.Mem.tail _ (List.Mem.tail _ (List.Mem.tail _ (List.Mem.tail _ (List.Mem.head _)))))), (fun q h => absurd h List.not_mem_nil)⟩)⟩)⟩)⟩)⟩)⟩) ?_
        exact kx _ m0 st0 I F (by first | exact ⟨And.intro (hi.1.1) (hi.1.2), hi.2.1, hi.2.2.1, hi.2.2.2.1, hi.2.2.2.2.1, hi.2.2.2.2.2.1, hi.2.2.2.2.2.2.1, hi.2.2.2.2.2.2.2⟩ | omega)
      ·
        refine z_aload_n X (x := A 179) (show cdA 239 106 = some (.aload_n 0, 1, 0, 0, 0) from rfl) (List.Mem.head _) ?_
        refine s_getR X 179 (show cdA 239 107 = some (.getfield 83, 3, 12, 39, 0) from rfl) (by decide) rfl rfl ?_
        refine z_load X (x := ka) (show cdA 239 110 = some (.iload 4, 2, 0, 0, 0) from rfl) (List.Mem.tail _ (List.Mem.tail _ (List.Mem.tail _ (List.Mem.tail _ (List.Mem.head _))))) ?_
        refine z_ald X 260 (show cdA 239 112 = some (.iaload, 1, 0, 0, 0) from rfl) (by decide) rfl (by first | exact hi.2.2.2.1 | omega) (show ka < 128 by first | exact oq_13b70d5e hi.2.2.2.2.1 hi.2.2.1 | omega) (by decide) ?_
        have b2002 : (0 : Int) ≤ iC t 232 (ka).toNat ∧ iC t 232 (ka).toNat ≤ 127 := I.2 232 _ (show (ka).toNat < 128 by first | exact oq_293b3716 hi.2.2.2.2.1 hi.2.2.1 | omega)
        refine z_load X (x := st0) (show cdA 239 113 = some (.iload 5, 2, 0, 0, 0) from rfl) (List.Mem.tail _ (List.Mem.tail _ (List.Mem.tail _ (List.Mem.tail _ (List.Mem.tail _ (List.Mem.head _)))))) ?_
        refine z_callS X (rm := rmN 190) (As := [.int (Int32.ofInt (iC t 232 (ka).toNat)), .int (Int32.ofInt st0)]) (st := []) (show cdA 239 115 = some (.invokestatic 223, 3, 190, 1, 0) from rfl) rfl (by rw [E.1, E.2.1, E.2.2.1]; exact k_beside G I (by first | exact ⟨b2002.1, b2002.2⟩ | omega) (by first | exact ⟨hi.2.2.2.2.2.1, oq_a4cef127 g2001⟩ | omega)) ⟨by rw [E.2.2.2]; exact (show (rmN 190).frames + 1 ≤ (rmN 239).frames by decide), by rw [E.2.2.2]; exact (show 8 + (mNL (miB 190) + 11) + (rmN 190).locals ≤ (rmN 239).locals by decide), by rw [E.2.2.2]; exact (show 0 + (rmN 190).cells ≤ (rmN 239).cells by decide), by rw [E.2.2.2]; exact (show 0 + (rmN 190).slots ≤ (rmN 239).slots by decide)⟩ (Nat.le_of_ble_eq_true rfl) (fun vv s2003 hq => ?_) (fun ee s2003 hq => ?_)
        rotate_left
        · obtain ⟨Is2003, Fs2003, e2004, hv, hrs2003, hps2003⟩ := hq; cases hv
        obtain ⟨Is2003, Fs2003, e2004, hv, hrs2003, hps2003⟩ := hq
        cases hv
        have Gs2003 := fm_ts F Fs2003 (by decide) (by decide)
        show WS k 118 [(0, .ref (A 179)), (1, .int (Int32.ofInt m0)), (2, .int (Int32.ofInt al)), (3, .int (Int32.ofInt fi)), (4, .int (Int32.ofInt ka)), (5, .int (Int32.ofInt st0))] [.int (Int32.ofInt e2004)] (Wd A dT s2003) 0 0
        have sf2005 : smM s2003 = smM t := SM_fm Fs2003 (by decide)
        refine z_store X (lv' := [(6, .int (Int32.ofInt e2004)), (0, .ref (A 179)), (1, .int (Int32.ofInt m0)), (2, .int (Int32.ofInt al)), (3, .int (Int32.ofInt fi)), (4, .int (Int32.ofInt ka)), (5, .int (Int32.ofInt st0))]) (show cdA 239 118 = some (.istore 6, 2, 0, 0, 0) from rfl) (by decide) (fun _ h => h) ?_
        refine z_load X (x := e2004) (show cdA 239 120 = some (.iload 6, 2, 0, 0, 0) from rfl) (List.Mem.head _) ?_
        refine z_const X (show cdA 239 122 = some (.iconst (-1), 1, 0, 0, 0) from rfl) ?_
        refine z_icmp_eq X (t := 168) (show cdA 239 123 = some (.if_icmp .eq 45, 3, 0, 0, 0) from rfl) (by decide) hrs2003 (by decide) (fun g2006 => ?_) (fun g2006 => ?_)
        ·
          refine z_inc X (x := st0) (lv' := [(5, .int (Int32.ofInt (st0 + 1))), (6, .int (Int32.ofInt e2004)), (0, .ref (A 179)), (1, .int (Int32.ofInt m0)), (2, .int (Int32.ofInt al)), (3, .int (Int32.ofInt fi)), (4, .int (Int32.ofInt ka))]) (show cdA 239 168 = some (.iinc 5 1, 3, 0, 0, 0) from rfl) (by decide) (List.Mem.tail _ (List.Mem.tail _ (List.Mem.tail _ (List.Mem.tail _ (List.Mem.tail _ (List.Mem.tail _ (List.Mem.head _))))))) (fun _ h => h) ?_
          refine z_goto X (t := 99) (show cdA 239 171 = some (.goto (-72), 3, 0, 0, 0) from rfl) (by decide) ?_
          refine WS_lv (lv := [(0, .ref (A 179)), (1, .int (Int32.ofInt m0)), (2, .int (Int32.ofInt al)), (3, .int (Int32.ofInt fi)), (4, .int (Int32.ofInt ka)), (5, .int (Int32.ofInt (st0 + 1)))]) (List.forall_mem_cons.mpr ⟨(List.Mem.tail _ (List.Mem.tail _ (List.Mem.head _))), (List.forall_mem_cons.mpr ⟨(List.Mem.tail _ (List.Mem.tail _ (List.Mem.tail _ (List.Mem.head _)))), (List.forall_mem_cons.mpr ⟨(List.Mem.tail _ (List.Mem.tail _ (List.Mem.tail _ (List.Mem.tail _ (List.Mem.head _))))), (List.forall_mem_cons.mpr ⟨(List.Mem.tail _ (List.Mem.tail _ (List.Mem.tail _ (List.Mem.tail _ (List.Mem.tail _ (List.Mem.head _)))))), (List.forall_mem_cons.mpr ⟨(List.Mem.tail _ (List.Mem.tail _ (List.Mem.tail _ (List.Mem.tail _ (List.Mem.tail _ (List.Mem.tail _ (List.Mem.head _))))))), (List.forall_mem_cons.mpr ⟨(List.Mem.head _), (fun q h => absurd h List.not_mem_nil)⟩)⟩)⟩)⟩)⟩)⟩) ?_
          exact ih _ m0 al fi ka (st0 + 1) Is2003 Gs2003 (by first | exact ⟨And.intro (hi.1.1) (hi.1.2), hi.2.1, hi.2.2.1, hi.2.2.2.1, hi.2.2.2.2.1, oq_54f49eb5 hi.2.2.2.2.2.1, oq_5bf54478 g2001, oq_1aa5be9e sf2005 hi.2.2.2.2.2.2.2⟩ | omega) (by first | exact qk_me hm (by decide) (oq_2265a080 g2001) | omega) kx
        ·
          refine z_aload_n X (x := A 179) (show cdA 239 126 = some (.aload_n 0, 1, 0, 0, 0) from rfl) (List.Mem.tail _ (List.Mem.head _)) ?_
          refine s_getR X 179 (show cdA 239 127 = some (.getfield 76, 3, 12, 37, 0) from rfl) (by decide) rfl rfl ?_
          refine z_load X (x := e2004) (show cdA 239 130 = some (.iload 6, 2, 0, 0, 0) from rfl) (List.Mem.head _) ?_
          refine z_zald X 258 (show cdA 239 132 = some (.baload, 1, 0, 0, 0) from rfl) (by decide) rfl (by first | exact oq_7a1025bf g2006 hps2003.2.1 | omega) (show e2004 < 128 by first | exact oq_31b2bf10 hps2003.2.2 | omega) (by decide) ?_
          have b2007 : (0 : Int) ≤ iC s2003 230 (e2004).toNat ∧ iC s2003 230 (e2004).toNat ≤ 1 := Is2003.2 230 _ (show (e2004).toNat < 128 by first | exact oq_c7f4e9c1 hps2003.2.2 | omega)
          refine z_if_eq X (t := 168) (show cdA 239 133 = some (.ifCond .eq 35, 3, 0, 0, 0) from rfl) (by decide) (rng_to _) (fun g2008 => ?_) (fun g2008 => ?_)
          ·
            refine z_inc X (x := st0) (lv' := [(5, .int (Int32.ofInt (st0 + 1))), (6, .int (Int32.ofInt e2004)), (0, .ref (A 179)), (1, .int (Int32.ofInt m0)), (2, .int (Int32.ofInt al)), (3, .int (Int32.ofInt fi)), (4, .int (Int32.ofInt ka))]) (show cdA 239 168 = some (.iinc 5 1, 3, 0, 0, 0) from rfl) (by decide) (List.Mem.tail _ (List.Mem.tail _ (List.Mem.tail _ (List.Mem.tail _ (List.Mem.tail _ (List.Mem.tail _ (List.Mem.head _))))))) (fun _ h => h) ?_
            refine z_goto X (t := 99) (show cdA 239 171 = some (.goto (-72), 3, 0, 0, 0) from rfl) (by decide) ?_
            refine WS_lv (lv := [(0, .ref (A 179)), (1, .int (Int32.ofInt m0)), (2, .int (Int32.ofInt al)), (3, .int (Int32.ofInt fi)), (4, .int (Int32.ofInt ka)), (5, .int (Int32.ofInt (st0 + 1)))]) (List.forall_mem_cons.mpr ⟨(List.Mem.tail _ (List.Mem.tail _ (List.Mem.head _))), (List.forall_mem_cons.mpr ⟨(List.Mem.tail _ (List.Mem.tail _ (List.Mem.tail _ (List.Mem.head _)))), (List.forall_mem_cons.mpr ⟨(List.Mem.tail _ (List.Mem.tail _ (List.Mem.tail _ (List.Mem.tail _ (List.Mem.head _))))), (List.forall_mem_cons.mpr ⟨(List.Mem.tail _ (List.Mem.tail _ (List.Mem.tail _ (List.Mem.tail _ (List.Mem.tail _ (List.Mem.head _)))))), (List.forall_mem_cons.mpr ⟨(List.Mem.tail _ (List.Mem.tail _ (List.Mem.tail _ (List.Mem.tail _ (List.Mem.tail _ (List.Mem.tail _ (List.Mem.head _))))))), (List.forall_mem_cons.mpr ⟨(List.Mem.head _), (fun q h => absurd h List.not_mem_nil)⟩)⟩)⟩)⟩)⟩)⟩) ?_
            exact ih _ m0 al fi ka (st0 + 1) Is2003 Gs2003 (by first | exact ⟨And.intro (hi.1.1) (hi.1.2), hi.2.1, hi.2.2.1, hi.2.2.2.1, hi.2.2.2.2.1, oq_54f49eb5 hi.2.2.2.2.2.1, oq_5bf54478 g2001, oq_1aa5be9e sf2005 hi.2.2.2.2.2.2.2⟩ | omega) (by first | exact qk_me hm (by decide) (oq_2265a080 g2001) | omega) kx
          ·
            refine z_aload_n X (x := A 179) (show cdA 239 136 = some (.aload_n 0, 1, 0, 0, 0) from rfl) (List.Mem.tail _ (List.Mem.head _)) ?_
            refine s_getR X 179 (show cdA 239 137 = some (.getfield 80, 3, 12, 38, 0) from rfl) (by decide) rfl rfl ?_
            refine z_load X (x := e2004) (show cdA 239 140 = some (.iload 6, 2, 0, 0, 0) from rfl) (List.Mem.head _) ?_
            refine z_zald X 259 (show cdA 239 142 = some (.baload, 1, 0, 0, 0) from rfl) (by decide) rfl (by first | exact oq_7a1025bf g2006 hps2003.2.1 | omega) (show e2004 < 128 by first | exact oq_31b2bf10 hps2003.2.2 | omega) (by decide) ?_
            have b2009 : (0 : Int) ≤ iC s2003 231 (e2004).toNat ∧ iC s2003 231 (e2004).toNat ≤ 1 := Is2003.2 231 _ (show (e2004).toNat < 128 by first | exact oq_c7f4e9c1 hps2003.2.2 | omega)
            refine z_if_eq X (t := 149) (show cdA 239 143 = some (.ifCond .eq 6, 3, 0, 0, 0) from rfl) (by decide) (rng_to _) (fun g2010 => ?_) (fun g2010 => ?_)
            ·
              have sl2011 := SM_le Is2003 (i := (e2004 : Int).toNat) (by omega) (by omega)
              refine z_aload_n X (x := A 179) (show cdA 239 149 = some (.aload_n 0, 1, 0, 0, 0) from rfl) (List.Mem.tail _ (List.Mem.head _)) ?_
              refine s_getR X 179 (show cdA 239 150 = some (.getfield 80, 3, 12, 38, 0) from rfl) (by decide) rfl rfl ?_
              refine z_load X (x := e2004) (show cdA 239 153 = some (.iload 6, 2, 0, 0, 0) from rfl) (List.Mem.head _) ?_
              refine z_const X (show cdA 239 155 = some (.iconst 1, 1, 0, 0, 0) from rfl) ?_
              refine z_zast X 259 (show cdA 239 156 = some (.bastore, 1, 0, 0, 0) from rfl) (by decide) rfl (by first | exact oq_7a1025bf g2006 hps2003.2.1 | omega) (show e2004 < 128 by first | exact oq_31b2bf10 hps2003.2.2 | omega) (by decide) (by first | exact Or.inr (by decide) | omega) ?_
              obtain ⟨s2012, hs2012⟩ : ∃ x0, x0 = uC s2003 231 (e2004).toNat (Int32.ofInt 1) := ⟨_, rfl⟩
              rw [← hs2012]
              have Is2012 : Bd s2012 := by rw [hs2012]; exact bd_C Is2003 (show (0 : Int) ≤ 1 ∧ 1 ≤ 1 by first | exact ⟨by decide, by decide⟩ | omega) (by decide)
              have Fs2012 := fm_C (i := (e2004).toNat) (x := Int32.ofInt 1) Gs2003 (show 231 ∈ _ by decide)
              rw [← hs2012] at Fs2012
              have sa2013 : smM s2012 = smM s2003 + 1 := by rw [hs2012]; exact SM_st (by omega) (by omega)
              refine z_aload_n X (x := A 179) (show cdA 239 157 = some (.aload_n 0, 1, 0, 0, 0) from rfl) (List.Mem.tail _ (List.Mem.head _)) ?_
              refine s_getR X 179 (show cdA 239 158 = some (.getfield 83, 3, 12, 39, 0) from rfl) (by decide) rfl rfl ?_
              refine z_load_n X (x := m0) (show cdA 239 161 = some (.iload_n 1, 1, 0, 0, 0) from rfl) (List.Mem.tail _ (List.Mem.tail _ (List.Mem.head _))) ?_
              refine z_load X (x := e2004) (show cdA 239 162 = some (.iload 6, 2, 0, 0, 0) from rfl) (List.Mem.head _) ?_
              refine z_ast X 260 (show cdA 239 164 = some (.iastore, 1, 0, 0, 0) from rfl) (by decide) rfl (by first | exact oq_2a6e3b50 hi.2.1 | omega) (show m0 < 128 by omega) (by decide) ?_
              obtain ⟨s2014, hs2014⟩ : ∃ x0, x0 = uC s2012 232 (m0).toNat (Int32.ofInt e2004) := ⟨_, rfl⟩
              rw [← hs2014]
              have Is2014 : Bd s2014 := by rw [hs2014]; exact bd_C Is2012 (show (0 : Int) ≤ e2004 ∧ e2004 ≤ 127 by first | exact ⟨oq_7a1025bf g2006 hps2003.2.1, hps2003.2.2⟩ | omega) hrs2003
              have Fs2014 := fm_C (i := (m0).toNat) (x := Int32.ofInt e2004) Fs2012 (show 232 ∈ _ by decide)
              rw [← hs2014] at Fs2014
              have sa2015 : smM s2014 = smM s2012 := by rw [hs2014]; exact SM_o (by decide)
              refine z_inc X (x := m0) (lv' := [(1, .int (Int32.ofInt (m0 + 1))), (6, .int (Int32.ofInt e2004)), (0, .ref (A 179)), (2, .int (Int32.ofInt al)), (3, .int (Int32.ofInt fi)), (4, .int (Int32.ofInt ka)), (5, .int (Int32.ofInt st0))]) (show cdA 239 165 = some (.iinc 1 1, 3, 0, 0, 0) from rfl) (by decide) (List.Mem.tail _ (List.Mem.tail _ (List.Mem.head _))) (fun _ h => h) ?_
              refine z_inc X (x := st0) (lv' := [(5, .int (Int32.ofInt (st0 + 1))), (1, .int (Int32.ofInt (m0 + 1))), (6, .int (Int32.ofInt e2004)), (0, .ref (A 179)), (2, .int (Int32.ofInt al)), (3, .int (Int32.ofInt fi)), (4, .int (Int32.ofInt ka))]) (show cdA 239 168 = some (.iinc 5 1, 3, 0, 0, 0) from rfl) (by decide) (List.Mem.tail _ (List.Mem.tail _ (List.Mem.tail _ (List.Mem.tail _ (List.Mem.tail _ (List.Mem.tail _ (List.Mem.head _))))))) (fun _ h => h) ?_
              refine z_goto X (t := 99) (show cdA 239 171 = some (.goto (-72), 3, 0, 0, 0) from rfl) (by decide) ?_
              refine WS_lv (lv := [(0, .ref (A 179)), (1, .int (Int32.ofInt (m0 + 1))), (2, .int (Int32.ofInt al)), (3, .int (Int32.ofInt fi)), (4, .int (Int32.ofInt ka)), (5, .int (Int32.ofInt (st0 + 1)))]) (List.forall_mem_cons.mpr ⟨(List.Mem.tail _ (List.Mem.tail _ (List.Mem.tail _ (List.Mem.head _)))), (List.forall_mem_cons.mpr ⟨(List.Mem.tail _ (List.Mem.head _)), (List.forall_mem_cons.mpr ⟨(List.Mem.tail _ (List.Mem.tail _ (List.Mem.tail _ (List.Mem.tail _ (List.Mem.head _))))), (List.forall_mem_cons.mpr ⟨(List.Mem.tail _ (List.Mem.tail _ (List.Mem.tail _ (List.Mem.tail _ (List.Mem.tail _ (List.Mem.head _)))))), (List.forall_mem_cons.mpr ⟨(List.Mem.tail _ (List.Mem.tail _ (List.Mem.tail _ (List.Mem.tail _ (List.Mem.tail _ (List.Mem.tail _ (List.Mem.head _))))))), (List.forall_mem_cons.mpr ⟨(List.Mem.head _), (fun q h => absurd h List.not_mem_nil)⟩)⟩)⟩)⟩)⟩)⟩) ?_
              exact ih _ (m0 + 1) al fi ka (st0 + 1) Is2014 Fs2014 (by first | exact ⟨And.intro (hi.1.1) (hi.1.2), oq_1e1a2df6 hi.2.1, by omega, hi.2.2.2.1, oq_d130ae0d hi.2.2.2.2.1, oq_54f49eb5 hi.2.2.2.2.2.1, oq_5bf54478 g2001, oq_6c95e3fe sa2015 sa2013 sf2005 hi.2.2.2.2.2.2.2⟩ | omega) (by first | exact qk_me hm (by decide) (oq_2265a080 g2001) | omega) kx
            ·
              refine z_goto X (t := 168) (show cdA 239 146 = some (.goto 22, 3, 0, 0, 0) from rfl) (by decide) ?_
              refine z_inc X (x := st0) (lv' := [(5, .int (Int32.ofInt (st0 + 1))), (6, .int (Int32.ofInt e2004)), (0, .ref (A 179)), (1, .int (Int32.ofInt m0)), (2, .int (Int32.ofInt al)), (3, .int (Int32.ofInt fi)), (4, .int (Int32.ofInt ka))]) (show cdA 239 168 = some (.iinc 5 1, 3, 0, 0, 0) from rfl) (by decide) (List.Mem.tail _ (List.Mem.tail _ (List.Mem.tail _ (List.Mem.tail _ (List.Mem.tail _ (List.Mem.tail _ (List.Mem.head _))))))) (fun _ h => h) ?_
              refine z_goto X (t := 99) (show cdA 239 171 = some (.goto (-72), 3, 0, 0, 0) from rfl) (by decide) ?_
              refine WS_lv (lv := [(0, .ref (A 179)), (1, .int (Int32.ofInt m0)), (2, .int (Int32.ofInt al)), (3, .int (Int32.ofInt fi)), (4, .int (Int32.ofInt ka)), (5, .int (Int32.ofInt (st0 + 1)))]) (List.forall_mem_cons.mpr ⟨(List.Mem.tail _ (List.Mem.tail _ (List.Mem.head _))), (List.forall_mem_cons.mpr ⟨(List.Mem.tail _ (List.Mem.tail _ (List.Mem.tail _ (List.Mem.head _)))), (List.forall_mem_cons.mpr ⟨(List.Mem.tail _ (List.Mem.tail _ (List.Mem.tail _ (List.Mem.tail _ (List.Mem.head _))))), (List.forall_mem_cons.mpr ⟨(List.Mem.tail _ (List.Mem.tail _ (List.Mem.tail _ (List.Mem.tail _ (List.Mem.tail _ (List.Mem.head _)))))), (List.forall_mem_cons.mpr ⟨(List.Mem.tail _ (List.Mem.tail _ (List.Mem.tail _ (List.Mem.tail _ (List.Mem.tail _ (List.Mem.tail _ (List.Mem.head _))))))), (List.forall_mem_cons.mpr ⟨(List.Mem.head _), (fun q h => absurd h List.not_mem_nil)⟩)⟩)⟩)⟩)⟩)⟩) ?_
              exact ih _ m0 al fi ka (st0 + 1) Is2003 Gs2003 (by first | exact ⟨And.intro (hi.1.1) (hi.1.2), hi.2.1, hi.2.2.1, hi.2.2.2.1, hi.2.2.2.2.1, oq_54f49eb5 hi.2.2.2.2.2.1, oq_5bf54478 g2001, oq_1aa5be9e sf2005 hi.2.2.2.2.2.2.2⟩ | omega) (by first | exact qk_me hm (by decide) (oq_2265a080 g2001) | omega) kx
  have L90 : ∀ (n : Nat) (t : PS) (m0 al fi ka : Int), Bd t → Fm [] [231, 232] s t → ((0 ≤ al ∧ al ≤ 128) ∧ 1 ≤ m0 ∧ m0 ≤ 128 ∧ 0 ≤ ka ∧ ka ≤ m0 ∧ smM t = m0) → (128 - ka : Int).toNat < n → (∀ (t' : PS) (m0' ka' : Int), Bd t' → Fm [] [231, 232] s t' → ((0 ≤ al ∧ al ≤ 128) ∧ 1 ≤ m0' ∧ m0' ≤ 128 ∧ 0 ≤ ka' ∧ ka' ≤ m0' ∧ smM t' = m0') → WS k 180 [(0, .ref (A 179)), (1, .int (Int32.ofInt m0')), (2, .int (Int32.ofInt al)), (3, .int (Int32.ofInt fi)), (4, .int (Int32.ofInt ka'))] [] (Wd A dT t') 0 0) → WS k 90 [(0, .ref (A 179)), (1, .int (Int32.ofInt m0)), (2, .int (Int32.ofInt al)), (3, .int (Int32.ofInt fi)), (4, .int (Int32.ofInt ka))] [] (Wd A dT t) 0 0 := by
    intro n
    induction n with
    | zero =>
      intro t m0 al fi ka I F hi hm kx
      exact absurd hm (Nat.not_lt_zero _)
    | succ n ih =>
      intro t m0 al fi ka I F hi hm kx
      refine z_load X (x := ka) (show cdA 239 90 = some (.iload 4, 2, 0, 0, 0) from rfl) (List.Mem.tail _ (List.Mem.tail _ (List.Mem.tail _ (List.Mem.tail _ (List.Mem.head _))))) ?_
      refine z_load_n X (x := m0) (show cdA 239 92 = some (.iload_n 1, 1, 0, 0, 0) from rfl) (List.Mem.tail _ (List.Mem.head _)) ?_
      refine z_icmp_ge X (t := 180) (show cdA 239 93 = some (.if_icmp .ge 87, 3, 3, 0, 0) from rfl) (by decide) ⟨by first | exact oq_fa4e5087 hi.2.2.2.1 | omega, by first | exact oq_9eb6cd9c hi.2.2.2.2.1 hi.2.2.1 | omega⟩ ⟨by first | exact oq_9462313e hi.2.1 | omega, by first | exact oq_4ee82282 hi.2.2.1 | omega⟩ (fun g3001 => ?_) (fun g3001 => ?_)
      ·
        refine WS_lv (lv := [(0, .ref (A 179)), (1, .int (Int32.ofInt m0)), (2, .int (Int32.ofInt al)), (3, .int (Int32.ofInt fi)), (4, .int (Int32.ofInt ka))]) (List.forall_mem_cons.mpr ⟨(List.Mem.head _), (List.forall_mem_cons.mpr ⟨(List.Mem.tail _ (List.Mem.head _)), (List.forall_mem_cons.mpr ⟨(List.Mem.tail _ (List.Mem.tail _ (List.Mem.head _))), (List.forall_mem_cons.mpr ⟨(List.Mem.tail _ (List.Mem.tail _ (List.Mem.tail _ (List.Mem.head _)))), (List.forall_mem_cons.mpr ⟨(List.Mem.tail _ (List.Mem.tail _ (List.Mem.tail _ (List.Mem.tail _ (List.Mem.head _))))), (fun q h => absurd h List.not_mem_nil)⟩)⟩)⟩)⟩)⟩) ?_
        exact kx _ m0 ka I F (by first | exact ⟨And.intro (hi.1.1) (hi.1.2), hi.2.1, hi.2.2.1, hi.2.2.2.1, hi.2.2.2.2.1, hi.2.2.2.2.2⟩ | omega)
      ·
        refine z_const X (show cdA 239 96 = some (.iconst 0, 1, 0, 0, 0) from rfl) ?_
        refine z_store X (lv' := [(5, .int (Int32.ofInt 0)), (0, .ref (A 179)), (1, .int (Int32.ofInt m0)), (2, .int (Int32.ofInt al)), (3, .int (Int32.ofInt fi)), (4, .int (Int32.ofInt ka))]) (show cdA 239 97 = some (.istore 5, 2, 0, 0, 0) from rfl) (by decide) (fun _ h => h) ?_
        refine WS_lv (lv := [(0, .ref (A 179)), (1, .int (Int32.ofInt m0)), (2, .int (Int32.ofInt al)), (3, .int (Int32.ofInt fi)), (4, .int (Int32.ofInt ka)), (5, .int (Int32.ofInt 0))]) (List.forall_mem_cons.mpr ⟨(List.Mem.tail _ (List.Mem.head _)), (List.forall_mem_cons.mpr ⟨(List.Mem.tail _ (List.Mem.tail _ (List.Mem.head _))), (List.forall_mem_cons.mpr ⟨(List.Mem.tail _ (List.Mem.tail _ (List.Mem.tail _ (List.Mem.head _)))), (List.forall_mem_cons.mpr ⟨(List.Mem.tail _ (List.Mem.tail _ (List.Mem.tail _ (List.Mem.tail _ (List.Mem.head _))))), (List.forall_mem_cons.mpr ⟨(List.Mem.tail _ (List.Mem.tail _ (List.Mem.tail _ (List.Mem.tail _ (List.Mem.tail _ (List.Mem.head _)))))), (List.forall_mem_cons.mpr ⟨(List.Mem.head _), (fun q h => absurd h List.not_mem_nil)⟩)⟩)⟩)⟩)⟩)⟩) ?_
        refine L99 ((6 - 0 : Int).toNat + 1) t m0 al fi ka 0 I F (by first | exact ⟨And.intro (hi.1.1) (hi.1.2), hi.2.1, hi.2.2.1, hi.2.2.2.1, g3001, by decide, by decide, hi.2.2.2.2.2⟩ | omega) (Nat.lt_succ_self _) ?_
        intro s3002 x3003 x3004 Is3002 Fs3002 hs3002
        refine z_inc X (x := ka) (lv' := [(4, .int (Int32.ofInt (ka + 1))), (0, .ref (A 179)), (1, .int (Int32.ofInt x3003)), (2, .int (Int32.ofInt al)), (3, .int (Int32.ofInt fi)), (5, .int (Int32.ofInt x3004))]) (show cdA 239 174 = some (.iinc 4 1, 3, 0, 0, 0) from rfl) (by decide) (List.Mem.tail _ (List.Mem.tail _ (List.Mem.tail _ (List.Mem.tail _ (List.Mem.head _))))) (fun _ h => h) ?_
        refine z_goto X (t := 90) (show cdA 239 177 = some (.goto (-87), 3, 0, 0, 0) from rfl) (by decide) ?_
        refine WS_lv (lv := [(0, .ref (A 179)), (1, .int (Int32.ofInt x3003)), (2, .int (Int32.ofInt al)), (3, .int (Int32.ofInt fi)), (4, .int (Int32.ofInt (ka + 1)))]) (List.forall_mem_cons.mpr ⟨(List.Mem.tail _ (List.Mem.head _)), (List.forall_mem_cons.mpr ⟨(List.Mem.tail _ (List.Mem.tail _ (List.Mem.head _))), (List.forall_mem_cons.mpr ⟨(List.Mem.tail _ (List.Mem.tail _ (List.Mem.tail _ (List.Mem.head _)))), (List.forall_mem_cons.mpr ⟨(List.Mem.tail _ (List.Mem.tail _ (List.Mem.tail _ (List.Mem.tail _ (List.Mem.head _))))), (List.forall_mem_cons.mpr ⟨(List.Mem.head _), (fun q h => absurd h List.not_mem_nil)⟩)⟩)⟩)⟩)⟩) ?_
        exact ih _ x3003 al fi (ka + 1) Is3002 Fs3002 (by first | exact ⟨And.intro (hs3002.1.1) (hs3002.1.2), hs3002.2.1, hs3002.2.2.1, oq_54f49eb5 hs3002.2.2.2.1, oq_afc84a8d hs3002.2.2.2.2.1, hs3002.2.2.2.2.2.2.2⟩ | omega) (by first | exact qk_me hm (by decide) (oq_3bafc0a8 hs3002.2.2.2.2.1 hs3002.2.2.1) | omega) kx
  refine z_const X (show cdA 239 0 = some (.iconst 0, 1, 0, 0, 0) from rfl) ?_
  refine z_store_n X (lv' := [(1, .int (Int32.ofInt 0)), (0, .ref (A 179))]) (show cdA 239 1 = some (.istore_n 1, 1, 0, 0, 0) from rfl) (by decide) (fun _ h => h) ?_
  refine z_const X (show cdA 239 2 = some (.iconst 0, 1, 0, 0, 0) from rfl) ?_
  refine z_store_n X (lv' := [(2, .int (Int32.ofInt 0)), (1, .int (Int32.ofInt 0)), (0, .ref (A 179))]) (show cdA 239 3 = some (.istore_n 2, 1, 0, 0, 0) from rfl) (by decide) (fun _ h => h) ?_
  refine z_const X (show cdA 239 4 = some (.iconst (-1), 1, 0, 0, 0) from rfl) ?_
  refine z_store_n X (lv' := [(3, .int (Int32.ofInt (-1))), (2, .int (Int32.ofInt 0)), (1, .int (Int32.ofInt 0)), (0, .ref (A 179))]) (show cdA 239 5 = some (.istore_n 3, 1, 0, 0, 0) from rfl) (by decide) (fun _ h => h) ?_
  refine z_bipush X (show cdA 239 6 = some (.bipush 127, 2, 0, 0, 127) from rfl) ?_
  refine z_store X (lv' := [(4, .int (Int32.ofInt 127)), (3, .int (Int32.ofInt (-1))), (2, .int (Int32.ofInt 0)), (1, .int (Int32.ofInt 0)), (0, .ref (A 179))]) (show cdA 239 8 = some (.istore 4, 2, 0, 0, 0) from rfl) (by decide) (fun _ h => h) ?_
  refine WS_lv (lv := [(0, .ref (A 179)), (1, .int (Int32.ofInt 0)), (2, .int (Int32.ofInt 0)), (3, .int (Int32.ofInt (-1))), (4, .int (Int32.ofInt 127))]) (List.forall_mem_cons.mpr ⟨(List.Mem.tail _ (List.Mem.tail _ (List.Mem.tail _ (List.Mem.tail _ (List.Mem.head _))))), (List.forall_mem_cons.mpr ⟨(List.Mem.tail _ (List.Mem.tail _ (List.Mem.tail _ (List.Mem.head _)))), (List.forall_mem_cons.mpr ⟨(List.Mem.tail _ (List.Mem.tail _ (List.Mem.head _))), (List.forall_mem_cons.mpr ⟨(List.Mem.tail _ (List.Mem.head _)), (List.forall_mem_cons.mpr ⟨(List.Mem.head _), (fun q h => absurd h List.not_mem_nil)⟩)⟩)⟩)⟩)⟩) ?_
  refine L10 ((127 + 1 : Int).toNat + 1) s 0 0 (-1) 127 I F (fun j hj h => absurd h (by omega)) (by first | exact ⟨by decide, by decide, by decide, by decide, by decide, by decide⟩ | omega) (Nat.lt_succ_self _) ?_
  intro s1 x2 x3 x4 Is1 Fs1 Qs1 hs1
  refine z_load_n X (x := x3) (show cdA 239 64 = some (.iload_n 3, 1, 0, 0, 0) from rfl) (List.Mem.tail _ (List.Mem.tail _ (List.Mem.tail _ (List.Mem.head _)))) ?_
  refine z_const X (show cdA 239 65 = some (.iconst (-1), 1, 0, 0, 0) from rfl) ?_
  refine z_icmp_ne X (t := 71) (show cdA 239 66 = some (.if_icmp .ne 5, 3, 1, 0, 0) from rfl) (by decide) ⟨by first | exact oq_97ee2c2a hs1.2.2.1 | omega, by first | exact oq_07d346ce hs1.2.2.2.1 | omega⟩ (by decide) (fun g5 => ?_) (fun g5 => ?_)
  ·
    refine z_aload_n X (x := A 179) (show cdA 239 71 = some (.aload_n 0, 1, 0, 0, 0) from rfl) (List.Mem.head _) ?_
    refine s_getR X 179 (show cdA 239 72 = some (.getfield 83, 3, 12, 39, 0) from rfl) (by decide) rfl rfl ?_
    refine z_const X (show cdA 239 75 = some (.iconst 0, 1, 0, 0, 0) from rfl) ?_
    refine z_load_n X (x := x3) (show cdA 239 76 = some (.iload_n 3, 1, 0, 0, 0) from rfl) (List.Mem.tail _ (List.Mem.tail _ (List.Mem.tail _ (List.Mem.head _)))) ?_
    refine z_ast X 260 (show cdA 239 77 = some (.iastore, 1, 0, 0, 0) from rfl) (by decide) rfl (by decide) (show 0 < 128 by decide) (by decide) ?_
    obtain ⟨s6, hs6⟩ : ∃ x0, x0 = uC s1 232 (0 : Int).toNat (Int32.ofInt x3) := ⟨_, rfl⟩
    rw [← hs6]
    have Is6 : Bd s6 := by rw [hs6]; exact bd_C Is1 (show (0 : Int) ≤ x3 ∧ x3 ≤ 127 by first | exact ⟨oq_7a1025bf g5 hs1.2.2.1, hs1.2.2.2.1⟩ | omega) ⟨by first | exact oq_97ee2c2a hs1.2.2.1 | omega, by first | exact oq_07d346ce hs1.2.2.2.1 | omega⟩
    have Fs6 := fm_C (i := (0 : Int).toNat) (x := Int32.ofInt x3) Fs1 (show 232 ∈ _ by decide)
    rw [← hs6] at Fs6
    have hz0 : ∀ j, j < 128 → iC s6 231 j = 0 := fun j hj => by rw [hs6, iC_a (by decide)]; exact Qs1 j hj (by omega)
    have sm0 : smM s6 = 0 := SM_0 hz0
    refine z_aload_n X (x := A 179) (show cdA 239 78 = some (.aload_n 0, 1, 0, 0, 0) from rfl) (List.Mem.head _) ?_
    refine s_getR X 179 (show cdA 239 79 = some (.getfield 80, 3, 12, 38, 0) from rfl) (by decide) rfl rfl ?_
    refine z_load_n X (x := x3) (show cdA 239 82 = some (.iload_n 3, 1, 0, 0, 0) from rfl) (List.Mem.tail _ (List.Mem.tail _ (List.Mem.tail _ (List.Mem.head _)))) ?_
    refine z_const X (show cdA 239 83 = some (.iconst 1, 1, 0, 0, 0) from rfl) ?_
    refine z_zast X 259 (show cdA 239 84 = some (.bastore, 1, 0, 0, 0) from rfl) (by decide) rfl (by first | exact oq_7a1025bf g5 hs1.2.2.1 | omega) (show x3 < 128 by first | exact oq_31b2bf10 hs1.2.2.2.1 | omega) (by decide) (by first | exact Or.inr (by decide) | omega) ?_
    obtain ⟨s7, hs7⟩ : ∃ x0, x0 = uC s6 231 (x3).toNat (Int32.ofInt 1) := ⟨_, rfl⟩
    rw [← hs7]
    have Is7 : Bd s7 := by rw [hs7]; exact bd_C Is6 (show (0 : Int) ≤ 1 ∧ 1 ≤ 1 by first | exact ⟨by decide, by decide⟩ | omega) (by decide)
    have Fs7 := fm_C (i := (x3).toNat) (x := Int32.ofInt 1) Fs6 (show 231 ∈ _ by decide)
    rw [← hs7] at Fs7
    have sm1 : smM s7 = smM s6 + 1 := by rw [hs7]; exact SM_st (by omega) (hz0 _ (by omega))
    refine z_const X (show cdA 239 85 = some (.iconst 1, 1, 0, 0, 0) from rfl) ?_
    refine z_store_n X (lv' := [(1, .int (Int32.ofInt 1)), (0, .ref (A 179)), (2, .int (Int32.ofInt x2)), (3, .int (Int32.ofInt x3)), (4, .int (Int32.ofInt x4))]) (show cdA 239 86 = some (.istore_n 1, 1, 0, 0, 0) from rfl) (by decide) (fun _ h => h) ?_
    refine z_const X (show cdA 239 87 = some (.iconst 0, 1, 0, 0, 0) from rfl) ?_
    refine z_store X (lv' := [(4, .int (Int32.ofInt 0)), (1, .int (Int32.ofInt 1)), (0, .ref (A 179)), (2, .int (Int32.ofInt x2)), (3, .int (Int32.ofInt x3))]) (show cdA 239 88 = some (.istore 4, 2, 0, 0, 0) from rfl) (by decide) (fun _ h => h) ?_
    refine WS_lv (lv := [(0, .ref (A 179)), (1, .int (Int32.ofInt 1)), (2, .int (Int32.ofInt x2)), (3, .int (Int32.ofInt x3)), (4, .int (Int32.ofInt 0))]) (List.forall_mem_cons.mpr ⟨(List.Mem.tail _ (List.Mem.tail _ (List.Mem.head _))), (List.forall_mem_cons.mpr ⟨(List.Mem.tail _ (List.Mem.head _)), (List.forall_mem_cons.mpr ⟨(List.Mem.tail _ (List.Mem.tail _ (List.Mem.tail _ (List.Mem.head _)))), (List.forall_mem_cons.mpr ⟨(List.Mem.tail _ (List.Mem.tail _ (List.Mem.tail _ (List.Mem.tail _ (List.Mem.head _))))), (List.forall_mem_cons.mpr ⟨(List.Mem.head _), (fun q h => absurd h List.not_mem_nil)⟩)⟩)⟩)⟩)⟩) ?_
    refine L90 ((128 - 0 : Int).toNat + 1) s7 1 x2 x3 0 Is7 Fs7 (by first | exact ⟨And.intro (hs1.1) (hs1.2.1), by decide, by decide, by decide, by decide, oq_303f220b sm1 sm0⟩ | omega) (Nat.lt_succ_self _) ?_
    intro s8 x9 x10 Is8 Fs8 hs8
    refine z_load_n X (x := x9) (show cdA 239 180 = some (.iload_n 1, 1, 0, 0, 0) from rfl) (List.Mem.tail _ (List.Mem.head _)) ?_
    refine z_load_n X (x := x2) (show cdA 239 181 = some (.iload_n 2, 1, 0, 0, 0) from rfl) (List.Mem.tail _ (List.Mem.tail _ (List.Mem.head _))) ?_
    have N11 : ∀ e12 : Int, (((x9 ≠ x2) ∧ e12 = 0) ∨ ((x9 = x2) ∧ e12 = 1)) → WS k 190 [(0, .ref (A 179)), (1, .int (Int32.ofInt x9)), (2, .int (Int32.ofInt x2)), (3, .int (Int32.ofInt x3)), (4, .int (Int32.ofInt x10))] [.int (Int32.ofInt e12)] (Wd A dT s8) 0 0 := by
      intro e12 he12
      have re12 : 0 ≤ e12 ∧ e12 ≤ 1 := by omega
      exact w_iret X.1 q hRt (nar_ret (by first | exact oq_4cdb41ba re12.2 re12.1 he12 | omega)) (ax_d X (show cdA 239 190 = some (.ireturn, 1, 0, 0, 0) from rfl)) (Nat.zero_le _) (Nat.zero_le _) ⟨_, rfl, Is8, Fs8, e12, rfl, ⟨by first | exact oq_fa4e5087 re12.1 | omega, by first | exact oq_22e1e6b0 re12.2 | omega⟩, by first | exact oq_4cdb41ba re12.2 re12.1 he12 | omega⟩
    refine z_icmp_ne X (t := 189) (show cdA 239 182 = some (.if_icmp .ne 7, 3, 1, 0, 0) from rfl) (by decide) ⟨by first | exact oq_9462313e hs8.2.1 | omega, by first | exact oq_4ee82282 hs8.2.2.1 | omega⟩ ⟨by first | exact oq_fa4e5087 hs8.1.1 | omega, by first | exact oq_4ee82282 hs8.1.2 | omega⟩ (fun g13 => ?_) (fun g13 => ?_)
    ·
      refine z_const X (show cdA 239 189 = some (.iconst 0, 1, 0, 0, 0) from rfl) ?_
      exact N11 _ (Or.inl ⟨g13, rfl⟩)
    ·
      refine z_const X (show cdA 239 185 = some (.iconst 1, 1, 0, 0, 0) from rfl) ?_
      refine z_goto X (t := 190) (show cdA 239 186 = some (.goto 4, 3, 0, 0, 0) from rfl) (by decide) ?_
      exact N11 _ (Or.inr (⟨g13, rfl⟩))
  ·
    refine z_const X (show cdA 239 69 = some (.iconst 1, 1, 0, 0, 0) from rfl) ?_
    exact w_iret X.1 q hRt (nar_ret (by first | exact Or.inr (by decide) | omega)) (ax_d X (show cdA 239 70 = some (.ireturn, 1, 0, 0, 0) from rfl)) (Nat.zero_le _) (Nat.zero_le _) ⟨_, rfl, Is1, Fs1, 1, rfl, (by decide), by first | exact Or.inr (by decide) | omega⟩
set_option maxRecDepth 4000 in
theorem k_isWhole (G : GX l s0 D tys a0 dT) (I : Bd s) {x : Int} (p0 : rng x) : CT l s0 D A dT 240 (rmN 240) [.ref (A 179), .int (Int32.ofInt x)] s (fun o t => Bd t ∧ Fm [] [231, 232, 230] s t ∧ ∃ e, o = .inl (some (.int (Int32.ofInt e))) ∧ rng e ∧ (e = 0 ∨ e = 1)) := by
  refine ct_of G (by decide) (Nat.le_of_ble_eq_true rfl) (fun k X E hRt hXt q => ?_)
  show WS k 0 [(0, .ref (A 179)), (1, .int (Int32.ofInt x))] [] _ 0 0
  have F : Fm [] [231, 232, 230] s s := fm_rf _ _ s
  refine z_aload_n X (x := A 179) (show cdA 240 0 = some (.aload_n 0, 1, 0, 0, 0) from rfl) (List.Mem.head _) ?_
  refine z_load_n X (x := x) (show cdA 240 1 = some (.iload_n 1, 1, 0, 0, 0) from rfl) (List.Mem.tail _ (List.Mem.head _)) ?_
  refine z_callV X 179 (rm := rmN 230) (As := [.int (Int32.ofInt x)]) (st := []) (show cdA 240 2 = some (.invokevirtual 327, 3, 230, 0, 0) from rfl) rfl (by decide) rfl (by rw [E.1, E.2.1, E.2.2.1]; exact k_setOf G I (by first | exact ⟨p0.1, p0.2⟩ | omega)) ⟨by rw [E.2.2.2]; exact (show (rmN 230).frames + 1 ≤ (rmN 240).frames by decide), by rw [E.2.2.2]; exact (show 8 + (mNL (miB 230) + 11) + (rmN 230).locals ≤ (rmN 240).locals by decide), by rw [E.2.2.2]; exact (show 0 + (rmN 230).cells ≤ (rmN 240).cells by decide), by rw [E.2.2.2]; exact (show 0 + (rmN 230).slots ≤ (rmN 240).slots by decide)⟩ (Nat.le_of_ble_eq_true rfl) (fun vv s1 hq => ?_) (fun ee s1 hq => ?_)
  rotate_left
  · obtain ⟨Is1, Fs1, hv, hps1⟩ := hq; cases hv
  obtain ⟨Is1, Fs1, hv, hps1⟩ := hq
  cases hv
  have Gs1 := fm_ts F Fs1 (by decide) (by decide)
  show WS k 5 [(0, .ref (A 179)), (1, .int (Int32.ofInt x))] [] (Wd A dT s1) 0 0
  refine z_aload_n X (x := A 179) (show cdA 240 5 = some (.aload_n 0, 1, 0, 0, 0) from rfl) (List.Mem.head _) ?_
  refine z_callV X 179 (rm := rmN 239) (As := []) (st := []) (show cdA 240 6 = some (.invokevirtual 339, 3, 239, 0, 0) from rfl) rfl (by decide) rfl (by rw [E.1, E.2.1, E.2.2.1]; exact k_hangs G Is1 ) ⟨by rw [E.2.2.2]; exact (show (rmN 239).frames + 1 ≤ (rmN 240).frames by decide), by rw [E.2.2.2]; exact (show 8 + (mNL (miB 239) + 11) + (rmN 239).locals ≤ (rmN 240).locals by decide), by rw [E.2.2.2]; exact (show 0 + (rmN 239).cells ≤ (rmN 240).cells by decide), by rw [E.2.2.2]; exact (show 0 + (rmN 239).slots ≤ (rmN 240).slots by decide)⟩ (Nat.le_of_ble_eq_true rfl) (fun vv s3 hq => ?_) (fun ee s3 hq => ?_)
  rotate_left
  · obtain ⟨Is3, Fs3, e4, hv, hrs3, hps3⟩ := hq; cases hv
  obtain ⟨Is3, Fs3, e4, hv, hrs3, hps3⟩ := hq
  cases hv
  have Gs3 := fm_ts Gs1 Fs3 (by decide) (by decide)
  show WS k 9 [(0, .ref (A 179)), (1, .int (Int32.ofInt x))] [.int (Int32.ofInt e4)] (Wd A dT s3) 0 0
  exact w_iret X.1 q hRt (nar_ret (by first | exact hps3 | omega)) (ax_d X (show cdA 240 9 = some (.ireturn, 1, 0, 0, 0) from rfl)) (Nat.zero_le _) (Nat.zero_le _) ⟨_, rfl, Is3, Gs3, e4, rfl, hrs3, by first | exact hps3 | omega⟩
set_option maxRecDepth 4000 in
theorem k_whole (G : GX l s0 D tys a0 dT) (I : Bd s) {x : Int} (p0 : rng x) : CT l s0 D A dT 241 (rmN 241) [.ref (A 179), .int (Int32.ofInt x)] s (fun o t => Bd t ∧ Fm [73] [231, 232, 230] s t ∧ ∃ e, o = .inl (some (.int (Int32.ofInt e))) ∧ rng e ∧ (True)) := by
  refine ct_of G (by decide) (Nat.le_of_ble_eq_true rfl) (fun k X E hRt hXt q => ?_)
  show WS k 0 [(0, .ref (A 179)), (1, .int (Int32.ofInt x))] [] _ 0 0
  have F : Fm [73] [231, 232, 230] s s := fm_rf _ _ s
  have b1 : (0 : Int) ≤ iI s 73 ∧ iI s 73 ≤ 3 := I.1 73
  refine z_aload_n X (x := A 179) (show cdA 241 0 = some (.aload_n 0, 1, 0, 0, 0) from rfl) (List.Mem.head _) ?_
  refine z_const X (show cdA 241 1 = some (.iconst 0, 1, 0, 0, 0) from rfl) ?_
  refine s_putI X 179 (show cdA 241 2 = some (.putfield 172, 3, 12, 0, 0) from rfl) (by decide) rfl rfl (by decide) rfl rfl rfl ?_
  obtain ⟨s2, hs2⟩ : ∃ x0, x0 = uI s 73 (Int32.ofInt 0) := ⟨_, rfl⟩
  rw [← hs2]
  have Is2 : Bd s2 := by rw [hs2]; exact bd_I I (show (0 : Int) ≤ 0 ∧ 0 ≤ 3 by first | exact ⟨by decide, by decide⟩ | omega) (by decide)
  have Fs2 := fm_I (x := Int32.ofInt 0) F (show 73 ∈ _ by decide)
  rw [← hs2] at Fs2
  have vs2 : iI s2 73 = 0 := by rw [hs2]; exact iI_u (by decide)
  refine z_aload_n X (x := A 179) (show cdA 241 5 = some (.aload_n 0, 1, 0, 0, 0) from rfl) (List.Mem.head _) ?_
  refine z_load_n X (x := x) (show cdA 241 6 = some (.iload_n 1, 1, 0, 0, 0) from rfl) (List.Mem.tail _ (List.Mem.head _)) ?_
  refine z_const X (show cdA 241 7 = some (.iconst 0, 1, 0, 0, 0) from rfl) ?_
  refine z_bipush X (show cdA 241 8 = some (.bipush 7, 2, 0, 0, 7) from rfl) ?_
  refine z_callS X (rm := rmN 188) (As := [.int (Int32.ofInt x), .int (Int32.ofInt 0), .int (Int32.ofInt 7)]) (st := [.ref (A 179)]) (show cdA 241 10 = some (.invokestatic 209, 3, 188, 1, 0) from rfl) rfl (by rw [E.1, E.2.1, E.2.2.1]; exact k_in G Is2 (by first | exact ⟨p0.1, p0.2⟩ | omega) (by first | exact ⟨by decide, by decide⟩ | omega) (by first | exact ⟨by decide, by decide⟩ | omega)) ⟨by rw [E.2.2.2]; exact (show (rmN 188).frames + 1 ≤ (rmN 241).frames by decide), by rw [E.2.2.2]; exact (show 8 + (mNL (miB 188) + 11) + (rmN 188).locals ≤ (rmN 241).locals by decide), by rw [E.2.2.2]; exact (show 0 + (rmN 188).cells ≤ (rmN 241).cells by decide), by rw [E.2.2.2]; exact (show 0 + (rmN 188).slots ≤ (rmN 241).slots by decide)⟩ (Nat.le_of_ble_eq_true rfl) (fun vv s3 hq => ?_) (fun ee s3 hq => ?_)
  rotate_left
  · obtain ⟨Is3, Fs3, e4, hv, hrs3, hps3⟩ := hq; cases hv
  obtain ⟨Is3, Fs3, e4, hv, hrs3, hps3⟩ := hq
  cases hv
  have Gs3 := fm_ts Fs2 Fs3 (by decide) (by decide)
  have ws3_73 : iI s3 73 = iI s2 73 := fm_i Fs3 (by decide)
  show WS k 13 [(0, .ref (A 179)), (1, .int (Int32.ofInt x))] [.int (Int32.ofInt e4), .ref (A 179)] (Wd A dT s3) 0 0
  have N5 : ∀ e6 : Int, (((e4 ≠ 0) ∧ e6 = 0) ∨ ((e4 = 0) ∧ e6 = 1)) → WS k 21 [(0, .ref (A 179)), (1, .int (Int32.ofInt x))] [.int (Int32.ofInt e6), .ref (A 179)] (Wd A dT s3) 0 0 := by
    intro e6 he6
    have re6 : 0 ≤ e6 ∧ e6 ≤ 1 := by omega
    refine z_const X (show cdA 241 21 = some (.iconst 1, 1, 0, 0, 0) from rfl) ?_
    refine z_callV X 179 (rm := rmN 187) (As := [.int (Int32.ofInt e6), .int (Int32.ofInt 1)]) (st := []) (show cdA 241 22 = some (.invokevirtual 229, 3, 187, 0, 0) from rfl) rfl (by decide) rfl (by rw [E.1, E.2.1, E.2.2.1]; exact k_bad G Is3 (by first | exact oq_31e518ae re6.2 re6.1 | omega) (by first | exact ⟨by decide, by decide⟩ | omega)) ⟨by rw [E.2.2.2]; exact (show (rmN 187).frames + 1 ≤ (rmN 241).frames by decide), by rw [E.2.2.2]; exact (show 8 + (mNL (miB 187) + 11) + (rmN 187).locals ≤ (rmN 241).locals by decide), by rw [E.2.2.2]; exact (show 0 + (rmN 187).cells ≤ (rmN 241).cells by decide), by rw [E.2.2.2]; exact (show 0 + (rmN 187).slots ≤ (rmN 241).slots by decide)⟩ (Nat.le_of_ble_eq_true rfl) (fun vv s7 hq => ?_) (fun ee s7 hq => ?_)
    rotate_left
    · obtain ⟨Is7, Fs7, e8, hv, hrs7, hps7⟩ := hq; cases hv
    obtain ⟨Is7, Fs7, e8, hv, hrs7, hps7⟩ := hq
    cases hv
    have Gs7 := fm_ts Gs3 Fs7 (by decide) (by decide)
    have b9 : (0 : Int) ≤ iI s7 73 ∧ iI s7 73 ≤ 3 := Is7.1 73
    show WS k 25 [(0, .ref (A 179)), (1, .int (Int32.ofInt x))] [.int (Int32.ofInt e8)] (Wd A dT s7) 0 0
    refine z_if_eq X (t := 30) (show cdA 241 25 = some (.ifCond .eq 5, 3, 0, 0, 0) from rfl) (by decide) hrs7 (fun g10 => ?_) (fun g10 => ?_)
    ·
      refine z_aload_n X (x := A 179) (show cdA 241 30 = some (.aload_n 0, 1, 0, 0, 0) from rfl) (List.Mem.head _) ?_
      refine z_load_n X (x := x) (show cdA 241 31 = some (.iload_n 1, 1, 0, 0, 0) from rfl) (List.Mem.tail _ (List.Mem.head _)) ?_
      refine z_callV X 179 (rm := rmN 240) (As := [.int (Int32.ofInt x)]) (st := []) (show cdA 241 32 = some (.invokevirtual 342, 3, 240, 0, 0) from rfl) rfl (by decide) rfl (by rw [E.1, E.2.1, E.2.2.1]; exact k_isWhole G Is7 (by first | exact ⟨p0.1, p0.2⟩ | omega)) ⟨by rw [E.2.2.2]; exact (show (rmN 240).frames + 1 ≤ (rmN 241).frames by decide), by rw [E.2.2.2]; exact (show 8 + (mNL (miB 240) + 11) + (rmN 240).locals ≤ (rmN 241).locals by decide), by rw [E.2.2.2]; exact (show 0 + (rmN 240).cells ≤ (rmN 241).cells by decide), by rw [E.2.2.2]; exact (show 0 + (rmN 240).slots ≤ (rmN 241).slots by decide)⟩ (Nat.le_of_ble_eq_true rfl) (fun vv s11 hq => ?_) (fun ee s11 hq => ?_)
      rotate_left
      · obtain ⟨Is11, Fs11, e12, hv, hrs11, hps11⟩ := hq; cases hv
      obtain ⟨Is11, Fs11, e12, hv, hrs11, hps11⟩ := hq
      cases hv
      have Gs11 := fm_ts Gs7 Fs11 (by decide) (by decide)
      have ws11_73 : iI s11 73 = iI s7 73 := fm_i Fs11 (by decide)
      show WS k 35 [(0, .ref (A 179)), (1, .int (Int32.ofInt x))] [.int (Int32.ofInt e12)] (Wd A dT s11) 0 0
      exact w_iret X.1 q hRt (nar_ret (by first | exact hps11 | omega)) (ax_d X (show cdA 241 35 = some (.ireturn, 1, 0, 0, 0) from rfl)) (Nat.zero_le _) (Nat.zero_le _) ⟨_, rfl, Is11, Gs11, e12, rfl, hrs11, trivial⟩
    ·
      refine z_const X (show cdA 241 28 = some (.iconst 0, 1, 0, 0, 0) from rfl) ?_
      exact w_iret X.1 q hRt (nar_ret (by first | exact Or.inl (by decide) | omega)) (ax_d X (show cdA 241 29 = some (.ireturn, 1, 0, 0, 0) from rfl)) (Nat.zero_le _) (Nat.zero_le _) ⟨_, rfl, Is7, Gs7, 0, rfl, (by decide), trivial⟩
  refine z_if_ne X (t := 20) (show cdA 241 13 = some (.ifCond .ne 7, 3, 1, 0, 0) from rfl) (by decide) hrs3 (fun g13 => ?_) (fun g13 => ?_)
  ·
    refine z_const X (show cdA 241 20 = some (.iconst 0, 1, 0, 0, 0) from rfl) ?_
    exact N5 _ (Or.inl ⟨g13, rfl⟩)
  ·
    refine z_const X (show cdA 241 16 = some (.iconst 1, 1, 0, 0, 0) from rfl) ?_
    refine z_goto X (t := 21) (show cdA 241 17 = some (.goto 4, 3, 0, 0, 0) from rfl) (by decide) ?_
    exact N5 _ (Or.inr (⟨g13, rfl⟩))
set_option maxRecDepth 4000 in
theorem k_neck (G : GX l s0 D tys a0 dT) (I : Bd s) {x y : Int} (p0 : rng x) (p1 : rng y) : CT l s0 D A dT 242 (rmN 242) [.ref (A 179), .int (Int32.ofInt x), .int (Int32.ofInt y)] s (fun o t => Bd t ∧ Fm [73] [231, 232, 230] s t ∧ ∃ e, o = .inl (some (.int (Int32.ofInt e))) ∧ rng e ∧ (True)) := by
  refine ct_of G (by decide) (Nat.le_of_ble_eq_true rfl) (fun k X E hRt hXt q => ?_)
  show WS k 0 [(0, .ref (A 179)), (1, .int (Int32.ofInt x)), (2, .int (Int32.ofInt y))] [] _ 0 0
  have F : Fm [73] [231, 232, 230] s s := fm_rf _ _ s
  have b1 : (0 : Int) ≤ iI s 73 ∧ iI s 73 ≤ 3 := I.1 73
  have L45 : ∀ (n : Nat) (t : PS) (xv yv nn c : Int), Bd t → Fm [73] [231, 232, 230] s t → (rng yv ∧ 0 ≤ nn ∧ nn ≤ c ∧ c ≤ 128) → (128 - c : Int).toNat < n → (∀ (t' : PS) (nn' c' : Int), Bd t' → Fm [73] [231, 232, 230] s t' → (rng yv ∧ 0 ≤ nn' ∧ nn' ≤ c' ∧ c' ≤ 128) → WS k 121 [(0, .ref (A 179)), (1, .int (Int32.ofInt xv)), (2, .int (Int32.ofInt yv)), (3, .int (Int32.ofInt nn')), (4, .int (Int32.ofInt c'))] [] (Wd A dT t') 0 0) → WS k 45 [(0, .ref (A 179)), (1, .int (Int32.ofInt xv)), (2, .int (Int32.ofInt yv)), (3, .int (Int32.ofInt nn)), (4, .int (Int32.ofInt c))] [] (Wd A dT t) 0 0 := by
    intro n
    induction n with
    | zero =>
      intro t xv yv nn c I F hi hm kx
      exact absurd hm (Nat.not_lt_zero _)
    | succ n ih =>
      intro t xv yv nn c I F hi hm kx
      have b1001 : (0 : Int) ≤ iI t 73 ∧ iI t 73 ≤ 3 := I.1 73
      refine z_load X (x := c) (show cdA 242 45 = some (.iload 4, 2, 0, 0, 0) from rfl) (List.Mem.tail _ (List.Mem.tail _ (List.Mem.tail _ (List.Mem.tail _ (List.Mem.head _))))) ?_
      refine z_sipush X (show cdA 242 47 = some (.sipush 128, 3, 0, 0, 128) from rfl) ?_
      refine z_icmp_ge X (t := 121) (show cdA 242 50 = some (.if_icmp .ge 71, 3, 3, 0, 0) from rfl) (by decide) ⟨by first | exact oq_e001bc0d hi.2.2.1 hi.2.1 | omega, by first | exact oq_4ee82282 hi.2.2.2 | omega⟩ (by decide) (fun g1002 => ?_) (fun g1002 => ?_)
      ·
        refine WS_lv (lv := [(0, .ref (A 179)), (1, .int (Int32.ofInt xv)), (2, .int (Int32.ofInt yv)), (3, .int (Int32.ofInt nn)), (4, .int (Int32.ofInt c))]) (List.forall_mem_cons.mpr ⟨(List.Mem.head _), (List.forall_mem_cons.mpr ⟨(List.Mem.tail _ (List.Mem.head _)), (List.forall_mem_cons.mpr ⟨(List.Mem.tail _ (List.Mem.tail _ (List.Mem.head _))), (List.forall_mem_cons.mpr ⟨(List.Mem.tail _ (List.Mem.tail _ (List.Mem.tail _ (List.Mem.head _)))), (List.forall_mem_cons.mpr ⟨(List.Mem.tail _ (List.Mem.tail _ (List.Mem.tail _ (List.Mem.tail _ (List.Mem.head _))))), (fun q h => absurd h List.not_mem_nil)⟩)⟩)⟩)⟩)⟩) ?_
        exact kx _ nn c I F (by first | exact ⟨And.intro (hi.1.1) (hi.1.2), hi.2.1, hi.2.2.1, hi.2.2.2⟩ | omega)
      ·
        refine z_aload_n X (x := A 179) (show cdA 242 53 = some (.aload_n 0, 1, 0, 0, 0) from rfl) (List.Mem.head _) ?_
        refine s_getR X 179 (show cdA 242 54 = some (.getfield 76, 3, 12, 37, 0) from rfl) (by decide) rfl rfl ?_
        refine z_load X (x := c) (show cdA 242 57 = some (.iload 4, 2, 0, 0, 0) from rfl) (List.Mem.tail _ (List.Mem.tail _ (List.Mem.tail _ (List.Mem.tail _ (List.Mem.head _))))) ?_
        refine z_zald X 258 (show cdA 242 59 = some (.baload, 1, 0, 0, 0) from rfl) (by decide) rfl (by first | exact oq_12a1f9e1 hi.2.2.1 hi.2.1 | omega) (show c < 128 by first | exact g1002 | omega) (by decide) ?_
        have b1003 : (0 : Int) ≤ iC t 230 (c).toNat ∧ iC t 230 (c).toNat ≤ 1 := I.2 230 _ (show (c).toNat < 128 by first | exact oq_afb89947 g1002 | omega)
        refine z_if_ne X (t := 66) (show cdA 242 60 = some (.ifCond .ne 6, 3, 1, 0, 0) from rfl) (by decide) (rng_to _) (fun g1004 => ?_) (fun g1004 => ?_)
        ·
          refine z_aload_n X (x := A 179) (show cdA 242 66 = some (.aload_n 0, 1, 0, 0, 0) from rfl) (List.Mem.head _) ?_
          refine s_getR X 179 (show cdA 242 67 = some (.getfield 76, 3, 12, 37, 0) from rfl) (by decide) rfl rfl ?_
          refine z_load X (x := c) (show cdA 242 70 = some (.iload 4, 2, 0, 0, 0) from rfl) (List.Mem.tail _ (List.Mem.tail _ (List.Mem.tail _ (List.Mem.tail _ (List.Mem.head _))))) ?_
          refine z_const X (show cdA 242 72 = some (.iconst 0, 1, 0, 0, 0) from rfl) ?_
          refine z_zast X 258 (show cdA 242 73 = some (.bastore, 1, 0, 0, 0) from rfl) (by decide) rfl (by first | exact oq_12a1f9e1 hi.2.2.1 hi.2.1 | omega) (show c < 128 by first | exact g1002 | omega) (by decide) (by first | exact Or.inl (by decide) | omega) ?_
          obtain ⟨s1005, hs1005⟩ : ∃ x0, x0 = uC t 230 (c).toNat (Int32.ofInt 0) := ⟨_, rfl⟩
          rw [← hs1005]
          have Is1005 : Bd s1005 := by rw [hs1005]; exact bd_C I (show (0 : Int) ≤ 0 ∧ 0 ≤ 1 by first | exact ⟨by decide, by decide⟩ | omega) (by decide)
          have Fs1005 := fm_C (i := (c).toNat) (x := Int32.ofInt 0) F (show 230 ∈ _ by decide)
          rw [← hs1005] at Fs1005
          have ws1005_73 : iI s1005 73 = iI t 73 := by rw [hs1005]; rfl
          refine z_aload_n X (x := A 179) (show cdA 242 74 = some (.aload_n 0, 1, 0, 0, 0) from rfl) (List.Mem.head _) ?_
          refine z_callV X 179 (rm := rmN 239) (As := []) (st := []) (show cdA 242 75 = some (.invokevirtual 339, 3, 239, 0, 0) from rfl) rfl (by decide) rfl (by rw [E.1, E.2.1, E.2.2.1]; exact k_hangs G Is1005 ) ⟨by rw [E.2.2.2]; exact (show (rmN 239).frames + 1 ≤ (rmN 242).frames by decide), by rw [E.2.2.2]; exact (show 8 + (mNL (miB 239) + 11) + (rmN 239).locals ≤ (rmN 242).locals by decide), by rw [E.2.2.2]; exact (show 0 + (rmN 239).cells ≤ (rmN 242).cells by decide), by rw [E.2.2.2]; exact (show 0 + (rmN 239).slots ≤ (rmN 242).slots by decide)⟩ (Nat.le_of_ble_eq_true rfl) (fun vv s1006 hq => ?_) (fun ee s1006 hq => ?_)
          rotate_left
          · obtain ⟨Is1006, Fs1006, e1007, hv, hrs1006, hps1006⟩ := hq; cases hv
          obtain ⟨Is1006, Fs1006, e1007, hv, hrs1006, hps1006⟩ := hq
          cases hv
          have Gs1006 := fm_ts Fs1005 Fs1006 (by decide) (by decide)
          have ws1006_73 : iI s1006 73 = iI s1005 73 := fm_i Fs1006 (by decide)
          show WS k 78 [(0, .ref (A 179)), (1, .int (Int32.ofInt xv)), (2, .int (Int32.ofInt yv)), (3, .int (Int32.ofInt nn)), (4, .int (Int32.ofInt c))] [.int (Int32.ofInt e1007)] (Wd A dT s1006) 0 0
          have N1008 : ∀ e1009 : Int, (((e1007 ≠ 0) ∧ e1009 = 0) ∨ ((e1007 = 0) ∧ e1009 = 1)) → WS k 86 [(0, .ref (A 179)), (1, .int (Int32.ofInt xv)), (2, .int (Int32.ofInt yv)), (3, .int (Int32.ofInt nn)), (4, .int (Int32.ofInt c))] [.int (Int32.ofInt e1009)] (Wd A dT s1006) 0 0 := by
            intro e1009 he1009
            have re1009 : 0 ≤ e1009 ∧ e1009 ≤ 1 := by omega
            refine z_store X (lv' := [(5, .int (Int32.ofInt e1009)), (0, .ref (A 179)), (1, .int (Int32.ofInt xv)), (2, .int (Int32.ofInt yv)), (3, .int (Int32.ofInt nn)), (4, .int (Int32.ofInt c))]) (show cdA 242 86 = some (.istore 5, 2, 0, 0, 0) from rfl) (by decide) (fun _ h => h) ?_
            refine z_aload_n X (x := A 179) (show cdA 242 88 = some (.aload_n 0, 1, 0, 0, 0) from rfl) (List.Mem.tail _ (List.Mem.head _)) ?_
            refine s_getR X 179 (show cdA 242 89 = some (.getfield 76, 3, 12, 37, 0) from rfl) (by decide) rfl rfl ?_
            refine z_load X (x := c) (show cdA 242 92 = some (.iload 4, 2, 0, 0, 0) from rfl) (List.Mem.tail _ (List.Mem.tail _ (List.Mem.tail _ (List.Mem.tail _ (List.Mem.tail _ (List.Mem.head _)))))) ?_
            refine z_const X (show cdA 242 94 = some (.iconst 1, 1, 0, 0, 0) from rfl) ?_
            refine z_zast X 258 (show cdA 242 95 = some (.bastore, 1, 0, 0, 0) from rfl) (by decide) rfl (by first | exact oq_12a1f9e1 hi.2.2.1 hi.2.1 | omega) (show c < 128 by first | exact g1002 | omega) (by decide) (by first | exact Or.inr (by decide) | omega) ?_
            obtain ⟨s1010, hs1010⟩ : ∃ x0, x0 = uC s1006 230 (c).toNat (Int32.ofInt 1) := ⟨_, rfl⟩
            rw [← hs1010]
            have Is1010 : Bd s1010 := by rw [hs1010]; exact bd_C Is1006 (show (0 : Int) ≤ 1 ∧ 1 ≤ 1 by first | exact ⟨by decide, by decide⟩ | omega) (by decide)
            have Fs1010 := fm_C (i := (c).toNat) (x := Int32.ofInt 1) Gs1006 (show 230 ∈ _ by decide)
            rw [← hs1010] at Fs1010
            have ws1010_73 : iI s1010 73 = iI s1006 73 := by rw [hs1010]; rfl
            refine z_load X (x := e1009) (show cdA 242 96 = some (.iload 5, 2, 0, 0, 0) from rfl) (List.Mem.head _) ?_
            refine z_if_ne X (t := 104) (show cdA 242 98 = some (.ifCond .ne 6, 3, 1, 0, 0) from rfl) (by decide) ⟨by first | exact oq_fa4e5087 re1009.1 | omega, by first | exact oq_22e1e6b0 re1009.2 | omega⟩ (fun g1011 => ?_) (fun g1011 => ?_)
            ·
              refine z_load_n X (x := nn) (show cdA 242 104 = some (.iload_n 3, 1, 0, 0, 0) from rfl) (List.Mem.tail _ (List.Mem.tail _ (List.Mem.tail _ (List.Mem.tail _ (List.Mem.head _))))) ?_
              refine z_load_n X (x := yv) (show cdA 242 105 = some (.iload_n 2, 1, 0, 0, 0) from rfl) (List.Mem.tail _ (List.Mem.tail _ (List.Mem.tail _ (List.Mem.head _)))) ?_
              refine z_icmp_ne X (t := 112) (show cdA 242 106 = some (.if_icmp .ne 6, 3, 1, 0, 0) from rfl) (by decide) ⟨by first | exact oq_fa4e5087 hi.2.1 | omega, by first | exact oq_0961352d hi.2.2.1 g1002 | omega⟩ ⟨by first | exact hi.1.1 | omega, by first | exact hi.1.2 | omega⟩ (fun g1012 => ?_) (fun g1012 => ?_)
              ·
                refine z_inc X (x := nn) (lv' := [(3, .int (Int32.ofInt (nn + 1))), (5, .int (Int32.ofInt e1009)), (0, .ref (A 179)), (1, .int (Int32.ofInt xv)), (2, .int (Int32.ofInt yv)), (4, .int (Int32.ofInt c))]) (show cdA 242 112 = some (.iinc 3 1, 3, 0, 0, 0) from rfl) (by decide) (List.Mem.tail _ (List.Mem.tail _ (List.Mem.tail _ (List.Mem.tail _ (List.Mem.head _))))) (fun _ h => h) ?_
                refine z_inc X (x := c) (lv' := [(4, .int (Int32.ofInt (c + 1))), (3, .int (Int32.ofInt (nn + 1))), (5, .int (Int32.ofInt e1009)), (0, .ref (A 179)), (1, .int (Int32.ofInt xv)), (2, .int (Int32.ofInt yv))]) (show cdA 242 115 = some (.iinc 4 1, 3, 0, 0, 0) from rfl) (by decide) (List.Mem.tail _ (List.Mem.tail _ (List.Mem.tail _ (List.Mem.tail _ (List.Mem.tail _ (List.Mem.head _)))))) (fun _ h => h) ?_
                refine z_goto X (t := 45) (show cdA 242 118 = some (.goto (-73), 3, 0, 0, 0) from rfl) (by decide) ?_
                refine WS_lv (lv := [(0, .ref (A 179)), (1, .int (Int32.ofInt xv)), (2, .int (Int32.ofInt yv)), (3, .int (Int32.ofInt (nn + 1))), (4, .int (Int32.ofInt (c + 1)))]) (List.forall_mem_cons.mpr ⟨(List.Mem.tail _ (List.Mem.tail _ (List.Mem.tail _ (List.Mem.head _)))), (List.forall_mem_cons.mpr ⟨(List.Mem.tail _ (List.Mem.tail _ (List.Mem.tail _ (List.Mem.tail _ (List.Mem.head _))))), (List.forall_mem_cons.mpr ⟨(List.Mem.tail _ (List.Mem.tail _ (List.Mem.tail _ (List.Mem.tail _ (List.Mem.tail _ (List.Mem.head _)))))), (List.forall_mem_cons.mpr ⟨(List.Mem.tail _ (List.Mem.head _)), (List.forall_mem_cons.mpr ⟨(List.Mem.head _), (fun q h => absurd h List.not_mem_nil)⟩)⟩)⟩)⟩)⟩) ?_
                exact ih _ xv yv (nn + 1) (c + 1) Is1010 Fs1010 (by first | exact ⟨And.intro (hi.1.1) (hi.1.2), oq_54f49eb5 hi.2.1, oq_8d48a029 hi.2.2.1, oq_d2afb425 g1002⟩ | omega) (by first | exact qk_me hm (by decide) (oq_c268b7bd g1002) | omega) kx
              ·
                refine z_load X (x := c) (show cdA 242 109 = some (.iload 4, 2, 0, 0, 0) from rfl) (List.Mem.tail _ (List.Mem.tail _ (List.Mem.tail _ (List.Mem.tail _ (List.Mem.tail _ (List.Mem.head _)))))) ?_
                exact w_iret X.1 q hRt rfl (ax_d X (show cdA 242 111 = some (.ireturn, 1, 0, 0, 0) from rfl)) (Nat.zero_le _) (Nat.zero_le _) ⟨_, rfl, Is1010, Fs1010, c, rfl, ⟨by first | exact oq_e001bc0d hi.2.2.1 hi.2.1 | omega, by first | exact oq_fe95e6e4 g1002 | omega⟩, trivial⟩
            ·
              refine z_goto X (t := 115) (show cdA 242 101 = some (.goto 14, 3, 0, 0, 0) from rfl) (by decide) ?_
              refine z_inc X (x := c) (lv' := [(4, .int (Int32.ofInt (c + 1))), (5, .int (Int32.ofInt e1009)), (0, .ref (A 179)), (1, .int (Int32.ofInt xv)), (2, .int (Int32.ofInt yv)), (3, .int (Int32.ofInt nn))]) (show cdA 242 115 = some (.iinc 4 1, 3, 0, 0, 0) from rfl) (by decide) (List.Mem.tail _ (List.Mem.tail _ (List.Mem.tail _ (List.Mem.tail _ (List.Mem.tail _ (List.Mem.head _)))))) (fun _ h => h) ?_
              refine z_goto X (t := 45) (show cdA 242 118 = some (.goto (-73), 3, 0, 0, 0) from rfl) (by decide) ?_
              refine WS_lv (lv := [(0, .ref (A 179)), (1, .int (Int32.ofInt xv)), (2, .int (Int32.ofInt yv)), (3, .int (Int32.ofInt nn)), (4, .int (Int32.ofInt (c + 1)))]) (List.forall_mem_cons.mpr ⟨(List.Mem.tail _ (List.Mem.tail _ (List.Mem.head _))), (List.forall_mem_cons.mpr ⟨(List.Mem.tail _ (List.Mem.tail _ (List.Mem.tail _ (List.Mem.head _)))), (List.forall_mem_cons.mpr ⟨(List.Mem.tail _ (List.Mem.tail _ (List.Mem.tail _ (List.Mem.tail _ (List.Mem.head _))))), (List.forall_mem_cons.mpr ⟨(List.Mem.tail _ (List.Mem.tail _ (List.Mem.tail _ (List.Mem.tail _ (List.Mem.tail _ (List.Mem.head _)))))), (List.forall_mem_cons.mpr ⟨(List.Mem.head _), (fun q h => absurd h List.not_mem_nil)⟩)⟩)⟩)⟩)⟩) ?_
              exact ih _ xv yv nn (c + 1) Is1010 Fs1010 (by first | exact ⟨And.intro (hi.1.1) (hi.1.2), hi.2.1, oq_03182e9e hi.2.2.1, oq_d2afb425 g1002⟩ | omega) (by first | exact qk_me hm (by decide) (oq_c268b7bd g1002) | omega) kx
          refine z_if_ne X (t := 85) (show cdA 242 78 = some (.ifCond .ne 7, 3, 1, 0, 0) from rfl) (by decide) hrs1006 (fun g1013 => ?_) (fun g1013 => ?_)
          ·
            refine z_const X (show cdA 242 85 = some (.iconst 0, 1, 0, 0, 0) from rfl) ?_
            exact N1008 _ (Or.inl ⟨g1013, rfl⟩)
          ·
            refine z_const X (show cdA 242 81 = some (.iconst 1, 1, 0, 0, 0) from rfl) ?_
            refine z_goto X (t := 86) (show cdA 242 82 = some (.goto 4, 3, 0, 0, 0) from rfl) (by decide) ?_
            exact N1008 _ (Or.inr (⟨g1013, rfl⟩))
        ·
          refine z_goto X (t := 115) (show cdA 242 63 = some (.goto 52, 3, 0, 0, 0) from rfl) (by decide) ?_
          refine z_inc X (x := c) (lv' := [(4, .int (Int32.ofInt (c + 1))), (0, .ref (A 179)), (1, .int (Int32.ofInt xv)), (2, .int (Int32.ofInt yv)), (3, .int (Int32.ofInt nn))]) (show cdA 242 115 = some (.iinc 4 1, 3, 0, 0, 0) from rfl) (by decide) (List.Mem.tail _ (List.Mem.tail _ (List.Mem.tail _ (List.Mem.tail _ (List.Mem.head _))))) (fun _ h => h) ?_
          refine z_goto X (t := 45) (show cdA 242 118 = some (.goto (-73), 3, 0, 0, 0) from rfl) (by decide) ?_
          refine WS_lv (lv := [(0, .ref (A 179)), (1, .int (Int32.ofInt xv)), (2, .int (Int32.ofInt yv)), (3, .int (Int32.ofInt nn)), (4, .int (Int32.ofInt (c + 1)))]) (List.forall_mem_cons.mpr ⟨(List.Mem.tail _ (List.Mem.head _)), (List.forall_mem_cons.mpr ⟨(List.Mem.tail _ (List.Mem.tail _ (List.Mem.head _))), (List.forall_mem_cons.mpr ⟨(List.Mem.tail _ (List.Mem.tail _ (List.Mem.tail _ (List.Mem.head _)))), (List.forall_mem_cons.mpr ⟨(List.Mem.tail _ (List.Mem.tail _ (List.Mem.tail _ (List.Mem.tail _ (List.Mem.head _))))), (List.forall_mem_cons.mpr ⟨(List.Mem.head _), (fun q h => absurd h List.not_mem_nil)⟩)⟩)⟩)⟩)⟩) ?_
          exact ih _ xv yv nn (c + 1) I F (by first | exact ⟨And.intro (hi.1.1) (hi.1.2), hi.2.1, oq_03182e9e hi.2.2.1, oq_d2afb425 g1002⟩ | omega) (by first | exact qk_me hm (by decide) (oq_c268b7bd g1002) | omega) kx
  refine z_aload_n X (x := A 179) (show cdA 242 0 = some (.aload_n 0, 1, 0, 0, 0) from rfl) (List.Mem.head _) ?_
  refine z_const X (show cdA 242 1 = some (.iconst 0, 1, 0, 0, 0) from rfl) ?_
  refine s_putI X 179 (show cdA 242 2 = some (.putfield 172, 3, 12, 0, 0) from rfl) (by decide) rfl rfl (by decide) rfl rfl rfl ?_
  obtain ⟨s2, hs2⟩ : ∃ x0, x0 = uI s 73 (Int32.ofInt 0) := ⟨_, rfl⟩
  rw [← hs2]
  have Is2 : Bd s2 := by rw [hs2]; exact bd_I I (show (0 : Int) ≤ 0 ∧ 0 ≤ 3 by first | exact ⟨by decide, by decide⟩ | omega) (by decide)
  have Fs2 := fm_I (x := Int32.ofInt 0) F (show 73 ∈ _ by decide)
  rw [← hs2] at Fs2
  have vs2 : iI s2 73 = 0 := by rw [hs2]; exact iI_u (by decide)
  refine z_aload_n X (x := A 179) (show cdA 242 5 = some (.aload_n 0, 1, 0, 0, 0) from rfl) (List.Mem.head _) ?_
  refine z_load_n X (x := x) (show cdA 242 6 = some (.iload_n 1, 1, 0, 0, 0) from rfl) (List.Mem.tail _ (List.Mem.head _)) ?_
  refine z_const X (show cdA 242 7 = some (.iconst 0, 1, 0, 0, 0) from rfl) ?_
  refine z_bipush X (show cdA 242 8 = some (.bipush 7, 2, 0, 0, 7) from rfl) ?_
  refine z_callS X (rm := rmN 188) (As := [.int (Int32.ofInt x), .int (Int32.ofInt 0), .int (Int32.ofInt 7)]) (st := [.ref (A 179)]) (show cdA 242 10 = some (.invokestatic 209, 3, 188, 1, 0) from rfl) rfl (by rw [E.1, E.2.1, E.2.2.1]; exact k_in G Is2 (by first | exact ⟨p0.1, p0.2⟩ | omega) (by first | exact ⟨by decide, by decide⟩ | omega) (by first | exact ⟨by decide, by decide⟩ | omega)) ⟨by rw [E.2.2.2]; exact (show (rmN 188).frames + 1 ≤ (rmN 242).frames by decide), by rw [E.2.2.2]; exact (show 8 + (mNL (miB 188) + 11) + (rmN 188).locals ≤ (rmN 242).locals by decide), by rw [E.2.2.2]; exact (show 0 + (rmN 188).cells ≤ (rmN 242).cells by decide), by rw [E.2.2.2]; exact (show 0 + (rmN 188).slots ≤ (rmN 242).slots by decide)⟩ (Nat.le_of_ble_eq_true rfl) (fun vv s3 hq => ?_) (fun ee s3 hq => ?_)
  rotate_left
  · obtain ⟨Is3, Fs3, e4, hv, hrs3, hps3⟩ := hq; cases hv
  obtain ⟨Is3, Fs3, e4, hv, hrs3, hps3⟩ := hq
  cases hv
  have Gs3 := fm_ts Fs2 Fs3 (by decide) (by decide)
  have ws3_73 : iI s3 73 = iI s2 73 := fm_i Fs3 (by decide)
  show WS k 13 [(0, .ref (A 179)), (1, .int (Int32.ofInt x)), (2, .int (Int32.ofInt y))] [.int (Int32.ofInt e4), .ref (A 179)] (Wd A dT s3) 0 0
  have N5 : ∀ e6 : Int, (((e4 ≠ 0) ∧ e6 = 0) ∨ ((e4 = 0) ∧ e6 = 1)) → WS k 21 [(0, .ref (A 179)), (1, .int (Int32.ofInt x)), (2, .int (Int32.ofInt y))] [.int (Int32.ofInt e6), .ref (A 179)] (Wd A dT s3) 0 0 := by
    intro e6 he6
    have re6 : 0 ≤ e6 ∧ e6 ≤ 1 := by omega
    refine z_const X (show cdA 242 21 = some (.iconst 1, 1, 0, 0, 0) from rfl) ?_
    refine z_callV X 179 (rm := rmN 187) (As := [.int (Int32.ofInt e6), .int (Int32.ofInt 1)]) (st := []) (show cdA 242 22 = some (.invokevirtual 229, 3, 187, 0, 0) from rfl) rfl (by decide) rfl (by rw [E.1, E.2.1, E.2.2.1]; exact k_bad G Is3 (by first | exact oq_31e518ae re6.2 re6.1 | omega) (by first | exact ⟨by decide, by decide⟩ | omega)) ⟨by rw [E.2.2.2]; exact (show (rmN 187).frames + 1 ≤ (rmN 242).frames by decide), by rw [E.2.2.2]; exact (show 8 + (mNL (miB 187) + 11) + (rmN 187).locals ≤ (rmN 242).locals by decide), by rw [E.2.2.2]; exact (show 0 + (rmN 187).cells ≤ (rmN 242).cells by decide), by rw [E.2.2.2]; exact (show 0 + (rmN 187).slots ≤ (rmN 242).slots by decide)⟩ (Nat.le_of_ble_eq_true rfl) (fun vv s7 hq => ?_) (fun ee s7 hq => ?_)
    rotate_left
    · obtain ⟨Is7, Fs7, e8, hv, hrs7, hps7⟩ := hq; cases hv
    obtain ⟨Is7, Fs7, e8, hv, hrs7, hps7⟩ := hq
    cases hv
    have Gs7 := fm_ts Gs3 Fs7 (by decide) (by decide)
    have b9 : (0 : Int) ≤ iI s7 73 ∧ iI s7 73 ≤ 3 := Is7.1 73
    show WS k 25 [(0, .ref (A 179)), (1, .int (Int32.ofInt x)), (2, .int (Int32.ofInt y))] [.int (Int32.ofInt e8)] (Wd A dT s7) 0 0
    refine z_if_eq X (t := 30) (show cdA 242 25 = some (.ifCond .eq 5, 3, 0, 0, 0) from rfl) (by decide) hrs7 (fun g10 => ?_) (fun g10 => ?_)
    ·
      refine z_aload_n X (x := A 179) (show cdA 242 30 = some (.aload_n 0, 1, 0, 0, 0) from rfl) (List.Mem.head _) ?_
      refine z_load_n X (x := x) (show cdA 242 31 = some (.iload_n 1, 1, 0, 0, 0) from rfl) (List.Mem.tail _ (List.Mem.head _)) ?_
      refine z_callV X 179 (rm := rmN 240) (As := [.int (Int32.ofInt x)]) (st := []) (show cdA 242 32 = some (.invokevirtual 342, 3, 240, 0, 0) from rfl) rfl (by decide) rfl (by rw [E.1, E.2.1, E.2.2.1]; exact k_isWhole G Is7 (by first | exact ⟨p0.1, p0.2⟩ | omega)) ⟨by rw [E.2.2.2]; exact (show (rmN 240).frames + 1 ≤ (rmN 242).frames by decide), by rw [E.2.2.2]; exact (show 8 + (mNL (miB 240) + 11) + (rmN 240).locals ≤ (rmN 242).locals by decide), by rw [E.2.2.2]; exact (show 0 + (rmN 240).cells ≤ (rmN 242).cells by decide), by rw [E.2.2.2]; exact (show 0 + (rmN 240).slots ≤ (rmN 242).slots by decide)⟩ (Nat.le_of_ble_eq_true rfl) (fun vv s11 hq => ?_) (fun ee s11 hq => ?_)
      rotate_left
      · obtain ⟨Is11, Fs11, e12, hv, hrs11, hps11⟩ := hq; cases hv
      obtain ⟨Is11, Fs11, e12, hv, hrs11, hps11⟩ := hq
      cases hv
      have Gs11 := fm_ts Gs7 Fs11 (by decide) (by decide)
      have ws11_73 : iI s11 73 = iI s7 73 := fm_i Fs11 (by decide)
      show WS k 35 [(0, .ref (A 179)), (1, .int (Int32.ofInt x)), (2, .int (Int32.ofInt y))] [.int (Int32.ofInt e12)] (Wd A dT s11) 0 0
      refine z_if_ne X (t := 40) (show cdA 242 35 = some (.ifCond .ne 5, 3, 1, 0, 0) from rfl) (by decide) hrs11 (fun g13 => ?_) (fun g13 => ?_)
      ·
        refine z_const X (show cdA 242 40 = some (.iconst 0, 1, 0, 0, 0) from rfl) ?_
        refine z_store_n X (lv' := [(3, .int (Int32.ofInt 0)), (0, .ref (A 179)), (1, .int (Int32.ofInt x)), (2, .int (Int32.ofInt y))]) (show cdA 242 41 = some (.istore_n 3, 1, 0, 0, 0) from rfl) (by decide) (fun _ h => h) ?_
        refine z_const X (show cdA 242 42 = some (.iconst 0, 1, 0, 0, 0) from rfl) ?_
        refine z_store X (lv' := [(4, .int (Int32.ofInt 0)), (3, .int (Int32.ofInt 0)), (0, .ref (A 179)), (1, .int (Int32.ofInt x)), (2, .int (Int32.ofInt y))]) (show cdA 242 43 = some (.istore 4, 2, 0, 0, 0) from rfl) (by decide) (fun _ h => h) ?_
        refine WS_lv (lv := [(0, .ref (A 179)), (1, .int (Int32.ofInt x)), (2, .int (Int32.ofInt y)), (3, .int (Int32.ofInt 0)), (4, .int (Int32.ofInt 0))]) (List.forall_mem_cons.mpr ⟨(List.Mem.tail _ (List.Mem.tail _ (List.Mem.head _))), (List.forall_mem_cons.mpr ⟨(List.Mem.tail _ (List.Mem.tail _ (List.Mem.tail _ (List.Mem.head _)))), (List.forall_mem_cons.mpr ⟨(List.Mem.tail _ (List.Mem.tail _ (List.Mem.tail _ (List.Mem.tail _ (List.Mem.head _))))), (List.forall_mem_cons.mpr ⟨(List.Mem.tail _ (List.Mem.head _)), (List.forall_mem_cons.mpr ⟨(List.Mem.head _), (fun q h => absurd h List.not_mem_nil)⟩)⟩)⟩)⟩)⟩) ?_
        refine L45 ((128 - 0 : Int).toNat + 1) s11 x y 0 0 Is11 Gs11 (by first | exact ⟨And.intro (p1.1) (p1.2), by decide, by decide, by decide⟩ | omega) (Nat.lt_succ_self _) ?_
        intro s14 x15 x16 Is14 Fs14 hs14
        have b17 : (0 : Int) ≤ iI s14 73 ∧ iI s14 73 ≤ 3 := Is14.1 73
        refine z_const X (show cdA 242 121 = some (.iconst (-1), 1, 0, 0, 0) from rfl) ?_
        exact w_iret X.1 q hRt rfl (ax_d X (show cdA 242 122 = some (.ireturn, 1, 0, 0, 0) from rfl)) (Nat.zero_le _) (Nat.zero_le _) ⟨_, rfl, Is14, Fs14, (-1), rfl, (by decide), trivial⟩
      ·
        refine z_const X (show cdA 242 38 = some (.iconst (-1), 1, 0, 0, 0) from rfl) ?_
        exact w_iret X.1 q hRt rfl (ax_d X (show cdA 242 39 = some (.ireturn, 1, 0, 0, 0) from rfl)) (Nat.zero_le _) (Nat.zero_le _) ⟨_, rfl, Is11, Gs11, (-1), rfl, (by decide), trivial⟩
    ·
      refine z_const X (show cdA 242 28 = some (.iconst 0, 1, 0, 0, 0) from rfl) ?_
      exact w_iret X.1 q hRt rfl (ax_d X (show cdA 242 29 = some (.ireturn, 1, 0, 0, 0) from rfl)) (Nat.zero_le _) (Nat.zero_le _) ⟨_, rfl, Is7, Gs7, 0, rfl, (by decide), trivial⟩
  refine z_if_ne X (t := 20) (show cdA 242 13 = some (.ifCond .ne 7, 3, 1, 0, 0) from rfl) (by decide) hrs3 (fun g18 => ?_) (fun g18 => ?_)
  ·
    refine z_const X (show cdA 242 20 = some (.iconst 0, 1, 0, 0, 0) from rfl) ?_
    exact N5 _ (Or.inl ⟨g18, rfl⟩)
  ·
    refine z_const X (show cdA 242 16 = some (.iconst 1, 1, 0, 0, 0) from rfl) ?_
    refine z_goto X (t := 21) (show cdA 242 17 = some (.goto 4, 3, 0, 0, 0) from rfl) (by decide) ?_
    exact N5 _ (Or.inr (⟨g18, rfl⟩))
end M57
