theorem oq_19dc38cc {a0 a1 : Int} (h0 : a0 ≤ (127 - a1)) (h1 : (-1) ≤ a1) : a0 ≤ 128 := by omega
theorem oq_ea98cc13 {a0 a1 a2 : Int} (h0 : a0 ≤ (127 - a1)) (h1 : a2 ≤ 1) : (a0 + a2) ≤ (127 - (a1 + (-1))) := by omega
theorem oq_9d44c698 {a0 a1 a2 a3 : Int} (h0 : ((a0 = 0 ∧ a1 = a2) ∨ (a0 ≠ 0 ∧ a1 = a3))) (h1 : 0 ≤ a3) (h2 : (-1) ≤ a2) : (-1) ≤ a1 := by omega
theorem oq_9427d874 {a0 a1 a2 a3 : Int} (h0 : ((a0 = 0 ∧ a1 = a2) ∨ (a0 ≠ 0 ∧ a1 = a3))) (h1 : a3 ≤ 127) (h2 : a2 ≤ 127) : a1 ≤ 127 := by omega
theorem oq_3500ac20 {a0 : Int} (h0 : a0 ≤ 127) : (a0 + (-1)) ≤ 127 := by omega
theorem oq_13b70d5e {a0 a1 : Int} (h0 : a0 < a1) (h1 : a1 ≤ 128) : a0 < 128 := by omega
theorem oq_293b3716 {a0 a1 : Int} (h0 : a0 < a1) (h1 : a1 ≤ 128) : (a0 : Int).toNat < 128 := by omega
theorem oq_a4cef127 {a0 : Int} (h0 : a0 < 6) : a0 ≤ 5 := by omega
theorem oq_5bf54478 {a0 : Int} (h0 : a0 < 6) : (a0 + 1) ≤ 6 := by omega
theorem oq_2265a080 {a0 : Int} (h0 : a0 < 6) : 0 < (6 - a0) := by omega
theorem oq_d130ae0d {a0 a1 : Int} (h0 : a0 < a1) : a0 < (a1 + 1) := by omega
theorem oq_6c95e3fe {a0 a1 a2 a3 a4 : Int} (h0 : a0 = a1) (h1 : a1 = (a2 + 1)) (h2 : a2 = a3) (h3 : a3 = a4) : a0 = (a4 + 1) := by omega
theorem oq_afc84a8d {a0 a1 : Int} (h0 : a0 < a1) : (a0 + 1) ≤ a1 := by omega
theorem oq_3bafc0a8 {a0 a1 : Int} (h0 : a0 < a1) (h1 : a1 ≤ 128) : 0 < (128 - a0) := by omega
theorem oq_303f220b {a0 a1 : Int} (h0 : a0 = (a1 + 1)) (h1 : a1 = 0) : a0 = 1 := by omega
theorem oq_0961352d {a0 a1 : Int} (h0 : a0 ≤ a1) (h1 : a1 < 128) : a0 ≤ 2147483647 := by omega
/-! The model: what hangs together -/
def sm (f : Nat → Int) : Nat → Int
  | 0 => 0
  | n + 1 => sm f n + f n
theorem sm_eq {f g : Nat → Int} : ∀ {n : Nat}, (∀ j, j < n → g j = f j) → sm g n = sm f n
  | 0, _ => rfl
  | n + 1, h => by
    show sm g n + g n = sm f n + f n
    rw [sm_eq (fun j hj => h j (by omega)), h n (by omega)]
theorem sm_0 {f : Nat → Int} : ∀ {n : Nat}, (∀ j, j < n → f j = 0) → sm f n = 0
  | 0, _ => rfl
  | n + 1, h => by
    show sm f n + f n = 0
    rw [sm_0 (fun j hj => h j (by omega)), h n (by omega)]
    rfl
theorem sm_up {f g : Nat → Int} {i : Nat} (h : ∀ j, j ≠ i → g j = f j) : ∀ {n : Nat}, i < n → sm g n = sm f n - f i + g i
  | 0, hi => absurd hi (Nat.not_lt_zero _)
  | n + 1, hi => by
    show sm g n + g n = sm f n + f n - f i + g i
    by_cases e : i = n
    · subst e
      rw [sm_eq (fun j hj => h j (by omega))]
      omega
    · rw [sm_up h (n := n) (by omega), h n (Ne.symm e)]
      omega
theorem sm_le {f : Nat → Int} : ∀ {n : Nat}, (∀ j, j < n → f j ≤ 1) → sm f n ≤ n
  | 0, _ => Int.le_refl _
  | n + 1, h => by
    show sm f n + f n ≤ ((n + 1 : Nat) : Int)
    have a := sm_le (n := n) (fun j hj => h j (by omega))
    have b := h n (by omega)
    omega
theorem sm_lt {f : Nat → Int} {i : Nat} (h0 : f i ≤ 0) : ∀ {n : Nat}, i < n → (∀ j, j < n → f j ≤ 1) → sm f n ≤ (n : Int) - 1
  | 0, hi, _ => absurd hi (Nat.not_lt_zero _)
  | n + 1, hi, h => by
    show sm f n + f n ≤ ((n + 1 : Nat) : Int) - 1
    by_cases e : i = n
    · subst e
      have a := sm_le (n := i) (fun j hj => h j (by omega))
      omega
    · have a := sm_lt h0 (n := n) (by omega) (fun j hj => h j (by omega))
      have b := h n (by omega)
      omega
/-- how many cells are met -/
def smM (t : PS) : Int := sm (fun j => iC t 231 j) 128
theorem SM_o {t : PS} {a i : Nat} {x : Int32} (h : 231 ≠ a) : smM (uC t a i x) = smM t := sm_eq (fun j _ => iC_a h)
theorem SM_st {t : PS} {i : Nat} (hi : i < 128) (h0 : iC t 231 i = 0) : smM (uC t 231 i (Int32.ofInt 1)) = smM t + 1 := by
  unfold smM
  rw [sm_up (f := fun j => iC t 231 j) (i := i) (fun j hj => iC_n hj) hi]
  show _ - iC t 231 i + iC (uC t 231 i (Int32.ofInt 1)) 231 i = _
  rw [h0, iC_u ⟨by omega, by omega⟩]
  omega
theorem SM_fm {L M : List Nat} {s t : PS} (F : Fm L M s t) (h : 231 ∉ M) : smM t = smM s := sm_eq (fun j _ => fm_c F h)
theorem SM_le {t : PS} (I : Bd t) {i : Nat} (hi : i < 128) (h0 : iC t 231 i = 0) : smM t ≤ 127 := sm_lt (i := i) (Int.le_of_eq h0) hi (fun j hj => (I.2 231 j hj).2)
theorem SM_0 {t : PS} (h : ∀ j, j < 128 → iC t 231 j = 0) : smM t = 0 := sm_0 h
section M57
variable {l : Launch} {s0 : State} {D : va_G} {tys : List (ClassId × FieldType)} {a0 : Array Value} {A : Nat → Nat} {dT : Nat → ClassId} {s : PS}
set_option maxRecDepth 4000 in
theorem k_hangs (G : GX l s0 D tys a0 dT) (I : Bd s)  : CT l s0 D A dT 239 (rmN 239) [.ref (A 179)] s (fun o t => Bd t ∧ Fm [] [231, 232] s t ∧ ∃ e, o = .inl (some (.int (Int32.ofInt e))) ∧ rng e ∧ (e = 0 ∨ e = 1)) := by
  refine ct_of G (by decide) (Nat.le_of_ble_eq_true rfl) (fun k X E hRt hXt q => ?_)
  show WS k 0 [(0, .ref (A 179))] [] _ 0 0
  have F : Fm [] [231, 232] s s := fm_rf _ _ s
  have L10 : ∀ (n : Nat) (t : PS) (m0 al fi c : Int), Bd t → Fm [] [231, 232] s t → (∀ j : Nat, j < 128 → c < (j : Int) → iC t 231 j = 0) → (0 ≤ al ∧ al ≤ 127 - c ∧ -1 ≤ fi ∧ fi ≤ 127 ∧ -1 ≤ c ∧ c ≤ 127) → (c + 1 : Int).toNat < n → (∀ (t' : PS) (al' fi' c' : Int), Bd t' → Fm [] [231, 232] s t' → (∀ j : Nat, j < 128 → c' < (j : Int) → iC t' 231 j = 0) → (0 ≤ al' ∧ al' ≤ 128 ∧ -1 ≤ fi' ∧ fi' ≤ 127 ∧ c' < 0) → WS k 64 [(0, .ref (A 179)), (1, .int (Int32.ofInt m0)), (2, .int (Int32.ofInt al')), (3, .int (Int32.ofInt fi')), (4, .int (Int32.ofInt c'))] [] (Wd A dT t') 0 0) → WS k 10 [(0, .ref (A 179)), (1, .int (Int32.ofInt m0)), (2, .int (Int32.ofInt al)), (3, .int (Int32.ofInt fi)), (4, .int (Int32.ofInt c))] [] (Wd A dT t) 0 0 := by
    intro n
    induction n with
    | zero =>
      intro t m0 al fi c I F hq hi hm kx
      exact absurd hm (Nat.not_lt_zero _)
    | succ n ih =>
      intro t m0 al fi c I F hq hi hm kx
      refine z_load X (x := c) rfl (List.Mem.tail _ (List.Mem.tail _ (List.Mem.tail _ (List.Mem.tail _ (List.Mem.head _))))) (z_if_lt X (t := 64) rfl rfl ⟨by first | exact oq_97ee2c2a hi.2.2.2.2.1 | omega, by first | exact oq_07d346ce hi.2.2.2.2.2 | omega⟩ (fun g1001 => ?_) (fun g1001 => ?_))
      ·
        refine WS_pq [0, 1, 2, 3, 4] (lv' := [(0, .ref (A 179)), (1, .int (Int32.ofInt m0)), (2, .int (Int32.ofInt al)), (3, .int (Int32.ofInt fi)), (4, .int (Int32.ofInt c))]) rfl ?_
        exact kx _ al fi c I F hq (by first | exact ⟨hi.1, oq_19dc38cc hi.2.1 hi.2.2.2.2.1, hi.2.2.1, hi.2.2.2.1, g1001⟩ | omega)
      ·
        refine z_aload_n X (x := A 179) rfl (List.Mem.head _) (s_getR X 179 rfl (c518_ok rfl) rfl rfl (z_load X (x := c) rfl (List.Mem.tail _ (List.Mem.tail _ (List.Mem.tail _ (List.Mem.tail _ (List.Mem.head _))))) (z_const X rfl (z_zast X 259 rfl (c518_ok rfl) rfl (by first | exact g1001 | omega) (show c < 128 by first | exact oq_31b2bf10 hi.2.2.2.2.2 | omega) (by decide) (by first | exact Or.inl (cbig_ok rfl) | omega) (wd_gen (fun s1002 hs1002 => ?_))))))
        have Is1002 : Bd s1002 := eqB hs1002 (bd_C I (show (0 : Int) ≤ 0 ∧ 0 ≤ 1 by first | exact ⟨by decide, by decide⟩ | omega) (by decide))
        have Fs1002 := eqF hs1002 (fm_C F (inl_ok (a := 231) rfl))
        refine z_load_n X (x := al) rfl (List.Mem.tail _ (List.Mem.tail _ (List.Mem.head _))) (z_aload_n X (x := A 179) rfl (List.Mem.head _) (s_getR X 179 rfl (c518_ok rfl) rfl rfl (z_load X (x := c) rfl (List.Mem.tail _ (List.Mem.tail _ (List.Mem.tail _ (List.Mem.tail _ (List.Mem.head _))))) (z_zald X 258 rfl (c518_ok rfl) rfl (by first | exact g1001 | omega) (show c < 128 by first | exact oq_31b2bf10 hi.2.2.2.2.2 | omega) (cbig_ok rfl) ?_))))
        have b1003 := bc_230 Is1002 (show (c).toNat < 128 by first | exact oq_c7f4e9c1 hi.2.2.2.2.2 | omega)
        have N1004 : ∀ e1005 : Int, ((((iC s1002 230 (c).toNat) = 0) ∧ e1005 = 0) ∨ (((iC s1002 230 (c).toNat) ≠ 0) ∧ e1005 = 1)) → WS k 39 [(0, .ref (A 179)), (1, .int (Int32.ofInt m0)), (2, .int (Int32.ofInt al)), (3, .int (Int32.ofInt fi)), (4, .int (Int32.ofInt c))] [.int (Int32.ofInt e1005), .int (Int32.ofInt al)] (Wd A dT s1002) 0 0 := by
          intro e1005 he1005
          have re1005 : 0 ≤ e1005 ∧ e1005 ≤ 1 := by first | (clear he1005; omega) | omega
          refine z_add X rfl (z_store_n X (lv' := [(2, .int (Int32.ofInt (al + e1005))), (0, .ref (A 179)), (1, .int (Int32.ofInt m0)), (3, .int (Int32.ofInt fi)), (4, .int (Int32.ofInt c))]) rfl (by decide) (fun _ h => h) (z_aload_n X (x := A 179) rfl (List.Mem.tail _ (List.Mem.head _)) (s_getR X 179 rfl (c518_ok rfl) rfl rfl (z_load X (x := c) rfl (List.Mem.tail _ (List.Mem.tail _ (List.Mem.tail _ (List.Mem.tail _ (List.Mem.head _))))) (z_zald X 258 rfl (c518_ok rfl) rfl (by first | exact g1001 | omega) (show c < 128 by first | exact oq_31b2bf10 hi.2.2.2.2.2 | omega) (cbig_ok rfl) ?_)))))
          have b1006 := bc_230 Is1002 (show (c).toNat < 128 by first | exact oq_c7f4e9c1 hi.2.2.2.2.2 | omega)
          have N1007 : ∀ e1008 : Int, ((((iC s1002 230 (c).toNat) = 0) ∧ e1008 = fi) ∨ (((iC s1002 230 (c).toNat) ≠ 0) ∧ e1008 = c)) → WS k 57 [(2, .int (Int32.ofInt (al + e1005))), (0, .ref (A 179)), (1, .int (Int32.ofInt m0)), (3, .int (Int32.ofInt fi)), (4, .int (Int32.ofInt c))] [.int (Int32.ofInt e1008)] (Wd A dT s1002) 0 0 := by
            intro e1008 he1008
            refine z_store_n X (lv' := [(3, .int (Int32.ofInt e1008)), (2, .int (Int32.ofInt (al + e1005))), (0, .ref (A 179)), (1, .int (Int32.ofInt m0)), (4, .int (Int32.ofInt c))]) rfl (by decide) (fun _ h => h) (z_inc X (x := c) (lv' := [(4, .int (Int32.ofInt (c + (-1)))), (3, .int (Int32.ofInt e1008)), (2, .int (Int32.ofInt (al + e1005))), (0, .ref (A 179)), (1, .int (Int32.ofInt m0))]) rfl (by decide) (List.Mem.tail _ (List.Mem.tail _ (List.Mem.tail _ (List.Mem.tail _ (List.Mem.head _))))) (fun _ h => h) (z_goto X (t := 10) rfl rfl (WS_pq [3, 4, 2, 1, 0] (lv' := [(0, .ref (A 179)), (1, .int (Int32.ofInt m0)), (2, .int (Int32.ofInt (al + e1005))), (3, .int (Int32.ofInt e1008)), (4, .int (Int32.ofInt (c + (-1))))]) rfl ?_)))
            have hZ1009 : ∀ j : Nat, j < 128 → (c + (-1)) < (j : Int) → iC s1002 231 j = 0 := fun j hj h => by
              by_cases e : j = (c : Int).toNat
              · rw [e, hs1002, iC_u ⟨by first | (clear he1008 he1005; omega) | (clear he1005; omega) | omega, by first | (clear he1008 he1005; omega) | (clear he1005; omega) | omega⟩]
              · rw [hs1002, iC_n e]; exact hq j hj (by first | (clear he1008 he1005; omega) | (clear he1005; omega) | omega)
            exact ih _ m0 (al + e1005) e1008 (c + (-1)) Is1002 Fs1002 hZ1009 (by first | exact ⟨oq_dd29f52d hi.1 re1005.1, oq_ea98cc13 hi.2.1 re1005.2, oq_9d44c698 he1008 g1001 hi.2.2.1, oq_9427d874 he1008 hi.2.2.2.2.2 hi.2.2.2.1, oq_285ed02d g1001, oq_3500ac20 hi.2.2.2.2.2⟩ | omega) (by first | exact qk_me hm (by decide) (oq_7a276f11 g1001) | omega) kx
          refine z_if_eq X (t := 56) rfl rfl (rng_to _) (fun g1010 => ?_) (fun g1010 => ?_)
          ·
            exact z_load_n X (x := fi) rfl (List.Mem.tail _ (List.Mem.tail _ (List.Mem.tail _ (List.Mem.head _)))) (N1007 _ (Or.inl ⟨g1010, rfl⟩))
          ·
            exact z_load X (x := c) rfl (List.Mem.tail _ (List.Mem.tail _ (List.Mem.tail _ (List.Mem.tail _ (List.Mem.head _))))) (z_goto X (t := 57) rfl rfl (N1007 _ (Or.inr (⟨g1010, rfl⟩))))
        refine z_if_eq X (t := 38) rfl rfl (rng_to _) (fun g1011 => ?_) (fun g1011 => ?_)
        ·
          exact z_const X rfl (N1004 _ (Or.inl ⟨g1011, rfl⟩))
        ·
          exact z_const X rfl (z_goto X (t := 39) rfl rfl (N1004 _ (Or.inr (⟨g1011, rfl⟩))))
  have L99 : ∀ (n : Nat) (t : PS) (m0 al fi ka st0 : Int), Bd t → Fm [] [231, 232] s t → ((0 ≤ al ∧ al ≤ 128) ∧ 1 ≤ m0 ∧ m0 ≤ 128 ∧ 0 ≤ ka ∧ ka < m0 ∧ 0 ≤ st0 ∧ st0 ≤ 6 ∧ smM t = m0) → (6 - st0 : Int).toNat < n → (∀ (t' : PS) (m0' st0' : Int), Bd t' → Fm [] [231, 232] s t' → ((0 ≤ al ∧ al ≤ 128) ∧ 1 ≤ m0' ∧ m0' ≤ 128 ∧ 0 ≤ ka ∧ ka < m0' ∧ 0 ≤ st0' ∧ st0' ≤ 6 ∧ smM t' = m0') → WS k 174 [(0, .ref (A 179)), (1, .int (Int32.ofInt m0')), (2, .int (Int32.ofInt al)), (3, .int (Int32.ofInt fi)), (4, .int (Int32.ofInt ka)), (5, .int (Int32.ofInt st0'))] [] (Wd A dT t') 0 0) → WS k 99 [(0, .ref (A 179)), (1, .int (Int32.ofInt m0)), (2, .int (Int32.ofInt al)), (3, .int (Int32.ofInt fi)), (4, .int (Int32.ofInt ka)), (5, .int (Int32.ofInt st0))] [] (Wd A dT t) 0 0 := by
    intro n
    induction n with
    | zero =>
      intro t m0 al fi ka st0 I F hi hm kx
      exact absurd hm (Nat.not_lt_zero _)
    | succ n ih =>
      intro t m0 al fi ka st0 I F hi hm kx
      refine z_load X (x := st0) rfl (List.Mem.tail _ (List.Mem.tail _ (List.Mem.tail _ (List.Mem.tail _ (List.Mem.tail _ (List.Mem.head _)))))) (z_bipush X rfl (z_icmp_ge X (t := 174) rfl rfl ⟨by first | exact oq_fa4e5087 hi.2.2.2.2.2.1 | omega, by first | exact oq_b301c3bf hi.2.2.2.2.2.2.1 | omega⟩ (by decide) (fun g2001 => ?_) (fun g2001 => ?_)))
      ·
        refine WS_pq [0, 1, 2, 3, 4, 5] (lv' := [(0, .ref (A 179)), (1, .int (Int32.ofInt m0)), (2, .int (Int32.ofInt al)), (3, .int (Int32.ofInt fi)), (4, .int (Int32.ofInt ka)), (5, .int (Int32.ofInt st0))]) rfl ?_
        exact kx _ m0 st0 I F (by first | exact ⟨And.intro (hi.1.1) (hi.1.2), hi.2.1, hi.2.2.1, hi.2.2.2.1, hi.2.2.2.2.1, hi.2.2.2.2.2.1, hi.2.2.2.2.2.2.1, hi.2.2.2.2.2.2.2⟩ | omega)
      ·
        refine z_aload_n X (x := A 179) rfl (List.Mem.head _) (s_getR X 179 rfl (c518_ok rfl) rfl rfl (z_load X (x := ka) rfl (List.Mem.tail _ (List.Mem.tail _ (List.Mem.tail _ (List.Mem.tail _ (List.Mem.head _))))) (z_ald X 260 rfl (c518_ok rfl) rfl (by first | exact hi.2.2.2.1 | omega) (show ka < 128 by first | exact oq_13b70d5e hi.2.2.2.2.1 hi.2.2.1 | omega) (cbig_ok rfl) ?_)))
        have b2002 := bc_232 I (show (ka).toNat < 128 by first | exact oq_293b3716 hi.2.2.2.2.1 hi.2.2.1 | omega)
        refine z_load X (x := st0) rfl (List.Mem.tail _ (List.Mem.tail _ (List.Mem.tail _ (List.Mem.tail _ (List.Mem.tail _ (List.Mem.head _)))))) (zcS_i0 X E (As := [.int (Int32.ofInt (iC t 232 (ka).toNat)), .int (Int32.ofInt st0)]) (st := []) rfl rfl (k_beside G I (by first | exact ⟨b2002.1, b2002.2⟩ | omega) (by first | exact ⟨hi.2.2.2.2.2.1, oq_a4cef127 g2001⟩ | omega)) rfl (Nat.le_of_ble_eq_true rfl) (fun s2003 e2004 Is2003 Fs2003 hrs2003 hps2003 => ?_))
        have hps2003p := And.intro hps2003.2.1 (hps2003.2.2)
        have Gs2003 := fm_tq F Fs2003 rfl rfl
        have sf2005 : smM s2003 = smM t := SM_fm Fs2003 (by decide)
        refine z_store X (lv' := [(6, .int (Int32.ofInt e2004)), (0, .ref (A 179)), (1, .int (Int32.ofInt m0)), (2, .int (Int32.ofInt al)), (3, .int (Int32.ofInt fi)), (4, .int (Int32.ofInt ka)), (5, .int (Int32.ofInt st0))]) rfl (by decide) (fun _ h => h) (z_load X (x := e2004) rfl (List.Mem.head _) (z_const X rfl (z_icmp_eq X (t := 168) rfl rfl hrs2003 (by decide) (fun g2006 => ?_) (fun g2006 => ?_))))
        ·
          refine z_inc X (x := st0) (lv' := [(5, .int (Int32.ofInt (st0 + 1))), (6, .int (Int32.ofInt e2004)), (0, .ref (A 179)), (1, .int (Int32.ofInt m0)), (2, .int (Int32.ofInt al)), (3, .int (Int32.ofInt fi)), (4, .int (Int32.ofInt ka))]) rfl (by decide) (List.Mem.tail _ (List.Mem.tail _ (List.Mem.tail _ (List.Mem.tail _ (List.Mem.tail _ (List.Mem.tail _ (List.Mem.head _))))))) (fun _ h => h) (z_goto X (t := 99) rfl rfl (WS_pq [2, 3, 4, 5, 6, 0] (lv' := [(0, .ref (A 179)), (1, .int (Int32.ofInt m0)), (2, .int (Int32.ofInt al)), (3, .int (Int32.ofInt fi)), (4, .int (Int32.ofInt ka)), (5, .int (Int32.ofInt (st0 + 1)))]) rfl ?_))
          exact ih _ m0 al fi ka (st0 + 1) Is2003 Gs2003 (by first | exact ⟨And.intro (hi.1.1) (hi.1.2), hi.2.1, hi.2.2.1, hi.2.2.2.1, hi.2.2.2.2.1, oq_54f49eb5 hi.2.2.2.2.2.1, oq_5bf54478 g2001, oq_1aa5be9e sf2005 hi.2.2.2.2.2.2.2⟩ | omega) (by first | exact qk_me hm (by decide) (oq_2265a080 g2001) | omega) kx
        ·
          refine z_aload_n X (x := A 179) rfl (List.Mem.tail _ (List.Mem.head _)) (s_getR X 179 rfl (c518_ok rfl) rfl rfl (z_load X (x := e2004) rfl (List.Mem.head _) (z_zald X 258 rfl (c518_ok rfl) rfl (by first | exact oq_7a1025bf g2006 hps2003.2.1 | omega) (show e2004 < 128 by first | exact oq_31b2bf10 hps2003.2.2 | omega) (cbig_ok rfl) ?_)))
          have b2007 := bc_230 Is2003 (show (e2004).toNat < 128 by first | exact oq_c7f4e9c1 hps2003.2.2 | omega)
          refine z_if_eq X (t := 168) rfl rfl (rng_to _) (fun g2008 => ?_) (fun g2008 => ?_)
          ·
            refine z_inc X (x := st0) (lv' := [(5, .int (Int32.ofInt (st0 + 1))), (6, .int (Int32.ofInt e2004)), (0, .ref (A 179)), (1, .int (Int32.ofInt m0)), (2, .int (Int32.ofInt al)), (3, .int (Int32.ofInt fi)), (4, .int (Int32.ofInt ka))]) rfl (by decide) (List.Mem.tail _ (List.Mem.tail _ (List.Mem.tail _ (List.Mem.tail _ (List.Mem.tail _ (List.Mem.tail _ (List.Mem.head _))))))) (fun _ h => h) (z_goto X (t := 99) rfl rfl (WS_pq [2, 3, 4, 5, 6, 0] (lv' := [(0, .ref (A 179)), (1, .int (Int32.ofInt m0)), (2, .int (Int32.ofInt al)), (3, .int (Int32.ofInt fi)), (4, .int (Int32.ofInt ka)), (5, .int (Int32.ofInt (st0 + 1)))]) rfl ?_))
            exact ih _ m0 al fi ka (st0 + 1) Is2003 Gs2003 (by first | exact ⟨And.intro (hi.1.1) (hi.1.2), hi.2.1, hi.2.2.1, hi.2.2.2.1, hi.2.2.2.2.1, oq_54f49eb5 hi.2.2.2.2.2.1, oq_5bf54478 g2001, oq_1aa5be9e sf2005 hi.2.2.2.2.2.2.2⟩ | omega) (by first | exact qk_me hm (by decide) (oq_2265a080 g2001) | omega) kx
          ·
            refine z_aload_n X (x := A 179) rfl (List.Mem.tail _ (List.Mem.head _)) (s_getR X 179 rfl (c518_ok rfl) rfl rfl (z_load X (x := e2004) rfl (List.Mem.head _) (z_zald X 259 rfl (c518_ok rfl) rfl (by first | exact oq_7a1025bf g2006 hps2003.2.1 | omega) (show e2004 < 128 by first | exact oq_31b2bf10 hps2003.2.2 | omega) (cbig_ok rfl) ?_)))
            have b2009 := bc_231 Is2003 (show (e2004).toNat < 128 by first | exact oq_c7f4e9c1 hps2003.2.2 | omega)
            refine z_if_eq X (t := 149) rfl rfl (rng_to _) (fun g2010 => ?_) (fun g2010 => ?_)
            ·
              have sl2011 := SM_le Is2003 (i := (e2004 : Int).toNat) (by first | (clear g2008 g2006 hps2003; omega) | (clear g2006 hps2003; omega) | omega) (by first | (clear g2008 g2006 hps2003; omega) | (clear g2006 hps2003; omega) | omega)
              refine z_aload_n X (x := A 179) rfl (List.Mem.tail _ (List.Mem.head _)) (s_getR X 179 rfl (c518_ok rfl) rfl rfl (z_load X (x := e2004) rfl (List.Mem.head _) (z_const X rfl (z_zast X 259 rfl (c518_ok rfl) rfl (by first | exact oq_7a1025bf g2006 hps2003.2.1 | omega) (show e2004 < 128 by first | exact oq_31b2bf10 hps2003.2.2 | omega) (by decide) (by first | exact Or.inr (cbig_ok rfl) | omega) (wd_gen (fun s2012 hs2012 => ?_))))))
              have Is2012 : Bd s2012 := eqB hs2012 (bd_C Is2003 (show (0 : Int) ≤ 1 ∧ 1 ≤ 1 by first | exact ⟨by decide, by decide⟩ | omega) (by decide))
              have Fs2012 := eqF hs2012 (fm_C Gs2003 (inl_ok (a := 231) rfl))
              have sa2013 : smM s2012 = smM s2003 + 1 := by rw [hs2012]; exact SM_st (by first | (clear g2008 g2006 hps2003; omega) | (clear g2006 hps2003; omega) | omega) (by first | (clear g2008 g2006 hps2003; omega) | (clear g2006 hps2003; omega) | omega)
              refine z_aload_n X (x := A 179) rfl (List.Mem.tail _ (List.Mem.head _)) (s_getR X 179 rfl (c518_ok rfl) rfl rfl (z_load_n X (x := m0) rfl (List.Mem.tail _ (List.Mem.tail _ (List.Mem.head _))) (z_load X (x := e2004) rfl (List.Mem.head _) (z_ast X 260 rfl (c518_ok rfl) rfl (by first | exact oq_2a6e3b50 hi.2.1 | omega) (show m0 < 128 by first | (clear g2008 g2006 hps2003; omega) | (clear g2006 hps2003; omega) | omega) (cbig_ok rfl) (wd_gen (fun s2014 hs2014 => ?_))))))
              have Is2014 : Bd s2014 := eqB hs2014 (bd_C Is2012 (show (0 : Int) ≤ e2004 ∧ e2004 ≤ 127 by first | exact ⟨oq_7a1025bf g2006 hps2003.2.1, hps2003.2.2⟩ | omega) hrs2003)
              have Fs2014 := eqF hs2014 (fm_C Fs2012 (inl_ok (a := 232) rfl))
              have sa2015 : smM s2014 = smM s2012 := by rw [hs2014]; exact SM_o (by decide)
              refine z_inc X (x := m0) (lv' := [(1, .int (Int32.ofInt (m0 + 1))), (6, .int (Int32.ofInt e2004)), (0, .ref (A 179)), (2, .int (Int32.ofInt al)), (3, .int (Int32.ofInt fi)), (4, .int (Int32.ofInt ka)), (5, .int (Int32.ofInt st0))]) rfl (by decide) (List.Mem.tail _ (List.Mem.tail _ (List.Mem.head _))) (fun _ h => h) (z_inc X (x := st0) (lv' := [(5, .int (Int32.ofInt (st0 + 1))), (1, .int (Int32.ofInt (m0 + 1))), (6, .int (Int32.ofInt e2004)), (0, .ref (A 179)), (2, .int (Int32.ofInt al)), (3, .int (Int32.ofInt fi)), (4, .int (Int32.ofInt ka))]) rfl (by decide) (List.Mem.tail _ (List.Mem.tail _ (List.Mem.tail _ (List.Mem.tail _ (List.Mem.tail _ (List.Mem.tail _ (List.Mem.head _))))))) (fun _ h => h) (z_goto X (t := 99) rfl rfl (WS_pq [3, 1, 4, 5, 6, 0] (lv' := [(0, .ref (A 179)), (1, .int (Int32.ofInt (m0 + 1))), (2, .int (Int32.ofInt al)), (3, .int (Int32.ofInt fi)), (4, .int (Int32.ofInt ka)), (5, .int (Int32.ofInt (st0 + 1)))]) rfl ?_)))
              exact ih _ (m0 + 1) al fi ka (st0 + 1) Is2014 Fs2014 (by first | exact ⟨And.intro (hi.1.1) (hi.1.2), oq_1e1a2df6 hi.2.1, by first | (clear g2008 g2006 hps2003; omega) | (clear g2006 hps2003; omega) | omega, hi.2.2.2.1, oq_d130ae0d hi.2.2.2.2.1, oq_54f49eb5 hi.2.2.2.2.2.1, oq_5bf54478 g2001, oq_6c95e3fe sa2015 sa2013 sf2005 hi.2.2.2.2.2.2.2⟩ | omega) (by first | exact qk_me hm (by decide) (oq_2265a080 g2001) | omega) kx
            ·
              refine z_goto X (t := 168) rfl rfl (z_inc X (x := st0) (lv' := [(5, .int (Int32.ofInt (st0 + 1))), (6, .int (Int32.ofInt e2004)), (0, .ref (A 179)), (1, .int (Int32.ofInt m0)), (2, .int (Int32.ofInt al)), (3, .int (Int32.ofInt fi)), (4, .int (Int32.ofInt ka))]) rfl (by decide) (List.Mem.tail _ (List.Mem.tail _ (List.Mem.tail _ (List.Mem.tail _ (List.Mem.tail _ (List.Mem.tail _ (List.Mem.head _))))))) (fun _ h => h) (z_goto X (t := 99) rfl rfl (WS_pq [2, 3, 4, 5, 6, 0] (lv' := [(0, .ref (A 179)), (1, .int (Int32.ofInt m0)), (2, .int (Int32.ofInt al)), (3, .int (Int32.ofInt fi)), (4, .int (Int32.ofInt ka)), (5, .int (Int32.ofInt (st0 + 1)))]) rfl ?_)))
              exact ih _ m0 al fi ka (st0 + 1) Is2003 Gs2003 (by first | exact ⟨And.intro (hi.1.1) (hi.1.2), hi.2.1, hi.2.2.1, hi.2.2.2.1, hi.2.2.2.2.1, oq_54f49eb5 hi.2.2.2.2.2.1, oq_5bf54478 g2001, oq_1aa5be9e sf2005 hi.2.2.2.2.2.2.2⟩ | omega) (by first | exact qk_me hm (by decide) (oq_2265a080 g2001) | omega) kx
  have L90 : ∀ (n : Nat) (t : PS) (m0 al fi ka : Int), Bd t → Fm [] [231, 232] s t → ((0 ≤ al ∧ al ≤ 128) ∧ 1 ≤ m0 ∧ m0 ≤ 128 ∧ 0 ≤ ka ∧ ka ≤ m0 ∧ smM t = m0) → (128 - ka : Int).toNat < n → (∀ (t' : PS) (m0' ka' : Int), Bd t' → Fm [] [231, 232] s t' → ((0 ≤ al ∧ al ≤ 128) ∧ 1 ≤ m0' ∧ m0' ≤ 128 ∧ 0 ≤ ka' ∧ ka' ≤ m0' ∧ smM t' = m0') → WS k 180 [(0, .ref (A 179)), (1, .int (Int32.ofInt m0')), (2, .int (Int32.ofInt al)), (3, .int (Int32.ofInt fi)), (4, .int (Int32.ofInt ka'))] [] (Wd A dT t') 0 0) → WS k 90 [(0, .ref (A 179)), (1, .int (Int32.ofInt m0)), (2, .int (Int32.ofInt al)), (3, .int (Int32.ofInt fi)), (4, .int (Int32.ofInt ka))] [] (Wd A dT t) 0 0 := by
    intro n
    induction n with
    | zero =>
      intro t m0 al fi ka I F hi hm kx
      exact absurd hm (Nat.not_lt_zero _)
    | succ n ih =>
      intro t m0 al fi ka I F hi hm kx
      refine z_load X (x := ka) rfl (List.Mem.tail _ (List.Mem.tail _ (List.Mem.tail _ (List.Mem.tail _ (List.Mem.head _))))) (z_load_n X (x := m0) rfl (List.Mem.tail _ (List.Mem.head _)) (z_icmp_ge X (t := 180) rfl rfl ⟨by first | exact oq_fa4e5087 hi.2.2.2.1 | omega, by first | exact oq_9eb6cd9c hi.2.2.2.2.1 hi.2.2.1 | omega⟩ ⟨by first | exact oq_9462313e hi.2.1 | omega, by first | exact oq_4ee82282 hi.2.2.1 | omega⟩ (fun g3001 => ?_) (fun g3001 => ?_)))
      ·
        refine WS_pq [0, 1, 2, 3, 4] (lv' := [(0, .ref (A 179)), (1, .int (Int32.ofInt m0)), (2, .int (Int32.ofInt al)), (3, .int (Int32.ofInt fi)), (4, .int (Int32.ofInt ka))]) rfl ?_
        exact kx _ m0 ka I F (by first | exact ⟨And.intro (hi.1.1) (hi.1.2), hi.2.1, hi.2.2.1, hi.2.2.2.1, hi.2.2.2.2.1, hi.2.2.2.2.2⟩ | omega)
      ·
        refine z_const X rfl (z_store X (lv' := [(5, .int (Int32.ofInt 0)), (0, .ref (A 179)), (1, .int (Int32.ofInt m0)), (2, .int (Int32.ofInt al)), (3, .int (Int32.ofInt fi)), (4, .int (Int32.ofInt ka))]) rfl (by decide) (fun _ h => h) (WS_pq [1, 2, 3, 4, 5, 0] (lv' := [(0, .ref (A 179)), (1, .int (Int32.ofInt m0)), (2, .int (Int32.ofInt al)), (3, .int (Int32.ofInt fi)), (4, .int (Int32.ofInt ka)), (5, .int (Int32.ofInt 0))]) rfl (L99 ((6 - 0 : Int).toNat + 1) t m0 al fi ka 0 I F (by first | exact ⟨And.intro (hi.1.1) (hi.1.2), hi.2.1, hi.2.2.1, hi.2.2.2.1, g3001, by decide, by decide, hi.2.2.2.2.2⟩ | omega) (Nat.lt_succ_self _) ?_)))
        intro s3002 x3003 x3004 Is3002 Fs3002 hs3002
        refine z_inc X (x := ka) (lv' := [(4, .int (Int32.ofInt (ka + 1))), (0, .ref (A 179)), (1, .int (Int32.ofInt x3003)), (2, .int (Int32.ofInt al)), (3, .int (Int32.ofInt fi)), (5, .int (Int32.ofInt x3004))]) rfl (by decide) (List.Mem.tail _ (List.Mem.tail _ (List.Mem.tail _ (List.Mem.tail _ (List.Mem.head _))))) (fun _ h => h) (z_goto X (t := 90) rfl rfl (WS_pq [1, 2, 3, 4, 0] (lv' := [(0, .ref (A 179)), (1, .int (Int32.ofInt x3003)), (2, .int (Int32.ofInt al)), (3, .int (Int32.ofInt fi)), (4, .int (Int32.ofInt (ka + 1)))]) rfl ?_))
        exact ih _ x3003 al fi (ka + 1) Is3002 Fs3002 (by first | exact ⟨And.intro (hs3002.1.1) (hs3002.1.2), hs3002.2.1, hs3002.2.2.1, oq_54f49eb5 hs3002.2.2.2.1, oq_afc84a8d hs3002.2.2.2.2.1, hs3002.2.2.2.2.2.2.2⟩ | omega) (by first | exact qk_me hm (by decide) (oq_3bafc0a8 hs3002.2.2.2.2.1 hs3002.2.2.1) | omega) kx
  refine z_const X rfl (z_store_n X (lv' := [(1, .int (Int32.ofInt 0)), (0, .ref (A 179))]) rfl (by decide) (fun _ h => h) (z_const X rfl (z_store_n X (lv' := [(2, .int (Int32.ofInt 0)), (1, .int (Int32.ofInt 0)), (0, .ref (A 179))]) rfl (by decide) (fun _ h => h) (z_const X rfl (z_store_n X (lv' := [(3, .int (Int32.ofInt (-1))), (2, .int (Int32.ofInt 0)), (1, .int (Int32.ofInt 0)), (0, .ref (A 179))]) rfl (by decide) (fun _ h => h) (z_bipush X rfl (z_store X (lv' := [(4, .int (Int32.ofInt 127)), (3, .int (Int32.ofInt (-1))), (2, .int (Int32.ofInt 0)), (1, .int (Int32.ofInt 0)), (0, .ref (A 179))]) rfl (by decide) (fun _ h => h) (WS_pq [4, 3, 2, 1, 0] (lv' := [(0, .ref (A 179)), (1, .int (Int32.ofInt 0)), (2, .int (Int32.ofInt 0)), (3, .int (Int32.ofInt (-1))), (4, .int (Int32.ofInt 127))]) rfl (L10 ((127 + 1 : Int).toNat + 1) s 0 0 (-1) 127 I F (fun j hj h => absurd h (by omega)) (by first | exact ⟨by decide, by decide, by decide, by decide, by decide, by decide⟩ | omega) (Nat.lt_succ_self _) ?_)))))))))
  intro s1 x2 x3 x4 Is1 Fs1 Qs1 hs1
  refine z_load_n X (x := x3) rfl (List.Mem.tail _ (List.Mem.tail _ (List.Mem.tail _ (List.Mem.head _)))) (z_const X rfl (z_icmp_ne X (t := 71) rfl rfl ⟨by first | exact oq_97ee2c2a hs1.2.2.1 | omega, by first | exact oq_07d346ce hs1.2.2.2.1 | omega⟩ (by decide) (fun g5 => ?_) (fun g5 => ?_)))
  ·
    refine z_aload_n X (x := A 179) rfl (List.Mem.head _) (s_getR X 179 rfl (c518_ok rfl) rfl rfl (z_const X rfl (z_load_n X (x := x3) rfl (List.Mem.tail _ (List.Mem.tail _ (List.Mem.tail _ (List.Mem.head _)))) (z_ast X 260 rfl (c518_ok rfl) rfl (by decide) (show 0 < 128 by decide) (cbig_ok rfl) (wd_gen (fun s6 hs6 => ?_))))))
    have Is6 : Bd s6 := eqB hs6 (bd_C Is1 (show (0 : Int) ≤ x3 ∧ x3 ≤ 127 by first | exact ⟨oq_7a1025bf g5 hs1.2.2.1, hs1.2.2.2.1⟩ | omega) ⟨by first | exact oq_97ee2c2a hs1.2.2.1 | omega, by first | exact oq_07d346ce hs1.2.2.2.1 | omega⟩)
    have Fs6 := eqF hs6 (fm_C Fs1 (inl_ok (a := 232) rfl))
    have hz0 : ∀ j, j < 128 → iC s6 231 j = 0 := fun j hj => by rw [hs6, iC_a (by decide)]; exact Qs1 j hj (by first | (clear g5; omega) | omega)
    have sm0 : smM s6 = 0 := SM_0 hz0
    refine z_aload_n X (x := A 179) rfl (List.Mem.head _) (s_getR X 179 rfl (c518_ok rfl) rfl rfl (z_load_n X (x := x3) rfl (List.Mem.tail _ (List.Mem.tail _ (List.Mem.tail _ (List.Mem.head _)))) (z_const X rfl (z_zast X 259 rfl (c518_ok rfl) rfl (by first | exact oq_7a1025bf g5 hs1.2.2.1 | omega) (show x3 < 128 by first | exact oq_31b2bf10 hs1.2.2.2.1 | omega) (by decide) (by first | exact Or.inr (cbig_ok rfl) | omega) (wd_gen (fun s7 hs7 => ?_))))))
    have Is7 : Bd s7 := eqB hs7 (bd_C Is6 (show (0 : Int) ≤ 1 ∧ 1 ≤ 1 by first | exact ⟨by decide, by decide⟩ | omega) (by decide))
    have Fs7 := eqF hs7 (fm_C Fs6 (inl_ok (a := 231) rfl))
    have sm1 : smM s7 = smM s6 + 1 := by rw [hs7]; exact SM_st (by first | (clear g5; omega) | omega) (hz0 _ (by first | (clear g5; omega) | omega))
    refine z_const X rfl (z_store_n X (lv' := [(1, .int (Int32.ofInt 1)), (0, .ref (A 179)), (2, .int (Int32.ofInt x2)), (3, .int (Int32.ofInt x3)), (4, .int (Int32.ofInt x4))]) rfl (by decide) (fun _ h => h) (z_const X rfl (z_store X (lv' := [(4, .int (Int32.ofInt 0)), (1, .int (Int32.ofInt 1)), (0, .ref (A 179)), (2, .int (Int32.ofInt x2)), (3, .int (Int32.ofInt x3))]) rfl (by decide) (fun _ h => h) (WS_pq [2, 1, 3, 4, 0] (lv' := [(0, .ref (A 179)), (1, .int (Int32.ofInt 1)), (2, .int (Int32.ofInt x2)), (3, .int (Int32.ofInt x3)), (4, .int (Int32.ofInt 0))]) rfl (L90 ((128 - 0 : Int).toNat + 1) s7 1 x2 x3 0 Is7 Fs7 (by first | exact ⟨And.intro (hs1.1) (hs1.2.1), by decide, by decide, by decide, by decide, oq_303f220b sm1 sm0⟩ | omega) (Nat.lt_succ_self _) ?_)))))
    intro s8 x9 x10 Is8 Fs8 hs8
    refine z_load_n X (x := x9) rfl (List.Mem.tail _ (List.Mem.head _)) (z_load_n X (x := x2) rfl (List.Mem.tail _ (List.Mem.tail _ (List.Mem.head _))) ?_)
    have N11 : ∀ e12 : Int, (((x9 ≠ x2) ∧ e12 = 0) ∨ ((x9 = x2) ∧ e12 = 1)) → WS k 190 [(0, .ref (A 179)), (1, .int (Int32.ofInt x9)), (2, .int (Int32.ofInt x2)), (3, .int (Int32.ofInt x3)), (4, .int (Int32.ofInt x10))] [.int (Int32.ofInt e12)] (Wd A dT s8) 0 0 := by
      intro e12 he12
      have re12 : 0 ≤ e12 ∧ e12 ≤ 1 := by first | (clear he12 g5; omega) | (clear g5; omega) | omega
      exact w_iret X.1 q hRt (nar_ret (by first | exact oq_4cdb41ba re12.2 re12.1 he12 | omega)) (ax_d X (show cdA 239 190 = some (.ireturn, 1, 0, 0, 0) from rfl)) (Nat.zero_le _) (Nat.zero_le _) ⟨_, rfl, Is8, Fs8, e12, rfl, ⟨by first | exact oq_fa4e5087 re12.1 | omega, by first | exact oq_22e1e6b0 re12.2 | omega⟩, by first | exact oq_4cdb41ba re12.2 re12.1 he12 | omega⟩
    refine z_icmp_ne X (t := 189) rfl rfl ⟨by first | exact oq_9462313e hs8.2.1 | omega, by first | exact oq_4ee82282 hs8.2.2.1 | omega⟩ ⟨by first | exact oq_fa4e5087 hs8.1.1 | omega, by first | exact oq_4ee82282 hs8.1.2 | omega⟩ (fun g13 => ?_) (fun g13 => ?_)
    ·
      exact z_const X rfl (N11 _ (Or.inl ⟨g13, rfl⟩))
    ·
      exact z_const X rfl (z_goto X (t := 190) rfl rfl (N11 _ (Or.inr (⟨g13, rfl⟩))))
  ·
    refine z_const X rfl ?_
    exact w_iret X.1 q hRt (nar_ret (by first | exact Or.inr (by decide) | omega)) (ax_d X (show cdA 239 70 = some (.ireturn, 1, 0, 0, 0) from rfl)) (Nat.zero_le _) (Nat.zero_le _) ⟨_, rfl, Is1, Fs1, 1, rfl, (by decide), by first | exact Or.inr (by decide) | omega⟩
set_option maxRecDepth 4000 in
theorem k_isWhole (G : GX l s0 D tys a0 dT) (I : Bd s) {x : Int} (p0 : rng x) : CT l s0 D A dT 240 (rmN 240) [.ref (A 179), .int (Int32.ofInt x)] s (fun o t => Bd t ∧ Fm [] [231, 232, 230] s t ∧ ∃ e, o = .inl (some (.int (Int32.ofInt e))) ∧ rng e ∧ (e = 0 ∨ e = 1)) := by
  refine ct_of G (by decide) (Nat.le_of_ble_eq_true rfl) (fun k X E hRt hXt q => ?_)
  show WS k 0 [(0, .ref (A 179)), (1, .int (Int32.ofInt x))] [] _ 0 0
  have F : Fm [] [231, 232, 230] s s := fm_rf _ _ s
  refine z_aload_n X (x := A 179) rfl (List.Mem.head _) (z_load_n X (x := x) rfl (List.Mem.tail _ (List.Mem.head _)) (zcV_v0 X E 179 (As := [.int (Int32.ofInt x)]) (st := []) rfl rfl rfl rfl (k_setOf G I (by first | exact ⟨p0.1, p0.2⟩ | omega)) rfl (Nat.le_of_ble_eq_true rfl) (fun s1 Is1 Fs1 hps1 => ?_)))
  have Gs1 := fm_tq F Fs1 rfl rfl
  refine z_aload_n X (x := A 179) rfl (List.Mem.head _) (zcV_i0 X E 179 (As := []) (st := []) rfl rfl rfl rfl (k_hangs G Is1 ) rfl (Nat.le_of_ble_eq_true rfl) (fun s3 e4 Is3 Fs3 hrs3 hps3 => ?_))
  have Gs3 := fm_tq Gs1 Fs3 rfl rfl
  exact w_iret X.1 q hRt (nar_ret (by first | exact hps3 | omega)) (ax_d X (show cdA 240 9 = some (.ireturn, 1, 0, 0, 0) from rfl)) (Nat.zero_le _) (Nat.zero_le _) ⟨_, rfl, Is3, Gs3, e4, rfl, hrs3, by first | exact hps3 | omega⟩
set_option maxRecDepth 4000 in
theorem k_neck (G : GX l s0 D tys a0 dT) (I : Bd s) {x y : Int} (p0 : rng x) (p1 : rng y) : CT l s0 D A dT 242 (rmN 242) [.ref (A 179), .int (Int32.ofInt x), .int (Int32.ofInt y)] s (fun o t => Bd t ∧ Fm [73] [231, 232, 230] s t ∧ ∃ e, o = .inl (some (.int (Int32.ofInt e))) ∧ rng e ∧ (True)) := by
  refine ct_of G (by decide) (Nat.le_of_ble_eq_true rfl) (fun k X E hRt hXt q => ?_)
  show WS k 0 [(0, .ref (A 179)), (1, .int (Int32.ofInt x)), (2, .int (Int32.ofInt y))] [] _ 0 0
  have F : Fm [73] [231, 232, 230] s s := fm_rf _ _ s
  have b1 := bi_73 I
  have L45 : ∀ (n : Nat) (t : PS) (xv yv nn c : Int), Bd t → Fm [73] [231, 232, 230] s t → (rng yv ∧ 0 ≤ nn ∧ nn ≤ c ∧ c ≤ 128) → (128 - c : Int).toNat < n → (∀ (t' : PS) (nn' c' : Int), Bd t' → Fm [73] [231, 232, 230] s t' → (rng yv ∧ 0 ≤ nn' ∧ nn' ≤ c' ∧ c' ≤ 128) → WS k 121 [(0, .ref (A 179)), (1, .int (Int32.ofInt xv)), (2, .int (Int32.ofInt yv)), (3, .int (Int32.ofInt nn')), (4, .int (Int32.ofInt c'))] [] (Wd A dT t') 0 0) → WS k 45 [(0, .ref (A 179)), (1, .int (Int32.ofInt xv)), (2, .int (Int32.ofInt yv)), (3, .int (Int32.ofInt nn)), (4, .int (Int32.ofInt c))] [] (Wd A dT t) 0 0 := by
    intro n
    induction n with
    | zero =>
      intro t xv yv nn c I F hi hm kx
      exact absurd hm (Nat.not_lt_zero _)
    | succ n ih =>
      intro t xv yv nn c I F hi hm kx
      have b1001 := bi_73 I
      refine z_load X (x := c) rfl (List.Mem.tail _ (List.Mem.tail _ (List.Mem.tail _ (List.Mem.tail _ (List.Mem.head _))))) (z_sipush X rfl (z_icmp_ge X (t := 121) rfl rfl ⟨by first | exact oq_e001bc0d hi.2.2.1 hi.2.1 | omega, by first | exact oq_4ee82282 hi.2.2.2 | omega⟩ (by decide) (fun g1002 => ?_) (fun g1002 => ?_)))
      ·
        refine WS_pq [0, 1, 2, 3, 4] (lv' := [(0, .ref (A 179)), (1, .int (Int32.ofInt xv)), (2, .int (Int32.ofInt yv)), (3, .int (Int32.ofInt nn)), (4, .int (Int32.ofInt c))]) rfl ?_
        exact kx _ nn c I F (by first | exact ⟨And.intro (hi.1.1) (hi.1.2), hi.2.1, hi.2.2.1, hi.2.2.2⟩ | omega)
      ·
        refine z_aload_n X (x := A 179) rfl (List.Mem.head _) (s_getR X 179 rfl (c518_ok rfl) rfl rfl (z_load X (x := c) rfl (List.Mem.tail _ (List.Mem.tail _ (List.Mem.tail _ (List.Mem.tail _ (List.Mem.head _))))) (z_zald X 258 rfl (c518_ok rfl) rfl (by first | exact oq_12a1f9e1 hi.2.2.1 hi.2.1 | omega) (show c < 128 by first | exact g1002 | omega) (cbig_ok rfl) ?_)))
        have b1003 := bc_230 I (show (c).toNat < 128 by first | exact oq_afb89947 g1002 | omega)
        refine z_if_ne X (t := 66) rfl rfl (rng_to _) (fun g1004 => ?_) (fun g1004 => ?_)
        ·
          refine z_aload_n X (x := A 179) rfl (List.Mem.head _) (s_getR X 179 rfl (c518_ok rfl) rfl rfl (z_load X (x := c) rfl (List.Mem.tail _ (List.Mem.tail _ (List.Mem.tail _ (List.Mem.tail _ (List.Mem.head _))))) (z_const X rfl (z_zast X 258 rfl (c518_ok rfl) rfl (by first | exact oq_12a1f9e1 hi.2.2.1 hi.2.1 | omega) (show c < 128 by first | exact g1002 | omega) (by decide) (by first | exact Or.inl (cbig_ok rfl) | omega) (wd_gen (fun s1005 hs1005 => ?_))))))
          have Is1005 : Bd s1005 := eqB hs1005 (bd_C I (show (0 : Int) ≤ 0 ∧ 0 ≤ 1 by first | exact ⟨by decide, by decide⟩ | omega) (by decide))
          have Fs1005 := eqF hs1005 (fm_C F (inl_ok (a := 230) rfl))
          have ws1005_73 : iI s1005 73 = iI t 73 := eqI hs1005 rfl
          refine z_aload_n X (x := A 179) rfl (List.Mem.head _) (zcV_i0 X E 179 (As := []) (st := []) rfl rfl rfl rfl (k_hangs G Is1005 ) rfl (Nat.le_of_ble_eq_true rfl) (fun s1006 e1007 Is1006 Fs1006 hrs1006 hps1006 => ?_))
          have Gs1006 := fm_tq Fs1005 Fs1006 rfl rfl
          have ws1006_73 : iI s1006 73 = iI s1005 73 := fm_iq Fs1006 rfl
          have N1008 : ∀ e1009 : Int, (((e1007 ≠ 0) ∧ e1009 = 0) ∨ ((e1007 = 0) ∧ e1009 = 1)) → WS k 86 [(0, .ref (A 179)), (1, .int (Int32.ofInt xv)), (2, .int (Int32.ofInt yv)), (3, .int (Int32.ofInt nn)), (4, .int (Int32.ofInt c))] [.int (Int32.ofInt e1009)] (Wd A dT s1006) 0 0 := by
            intro e1009 he1009
            have re1009 : 0 ≤ e1009 ∧ e1009 ≤ 1 := by first | (clear he1009 hps1006 g1004; omega) | (clear hps1006 g1004; omega) | omega
            refine z_store X (lv' := [(5, .int (Int32.ofInt e1009)), (0, .ref (A 179)), (1, .int (Int32.ofInt xv)), (2, .int (Int32.ofInt yv)), (3, .int (Int32.ofInt nn)), (4, .int (Int32.ofInt c))]) rfl (by decide) (fun _ h => h) (z_aload_n X (x := A 179) rfl (List.Mem.tail _ (List.Mem.head _)) (s_getR X 179 rfl (c518_ok rfl) rfl rfl (z_load X (x := c) rfl (List.Mem.tail _ (List.Mem.tail _ (List.Mem.tail _ (List.Mem.tail _ (List.Mem.tail _ (List.Mem.head _)))))) (z_const X rfl (z_zast X 258 rfl (c518_ok rfl) rfl (by first | exact oq_12a1f9e1 hi.2.2.1 hi.2.1 | omega) (show c < 128 by first | exact g1002 | omega) (by decide) (by first | exact Or.inr (cbig_ok rfl) | omega) (wd_gen (fun s1010 hs1010 => ?_)))))))
            have Is1010 : Bd s1010 := eqB hs1010 (bd_C Is1006 (show (0 : Int) ≤ 1 ∧ 1 ≤ 1 by first | exact ⟨by decide, by decide⟩ | omega) (by decide))
            have Fs1010 := eqF hs1010 (fm_C Gs1006 (inl_ok (a := 230) rfl))
            have ws1010_73 : iI s1010 73 = iI s1006 73 := eqI hs1010 rfl
            refine z_load X (x := e1009) rfl (List.Mem.head _) (z_if_ne X (t := 104) rfl rfl ⟨by first | exact oq_fa4e5087 re1009.1 | omega, by first | exact oq_22e1e6b0 re1009.2 | omega⟩ (fun g1011 => ?_) (fun g1011 => ?_))
            ·
              refine z_load_n X (x := nn) rfl (List.Mem.tail _ (List.Mem.tail _ (List.Mem.tail _ (List.Mem.tail _ (List.Mem.head _))))) (z_load_n X (x := yv) rfl (List.Mem.tail _ (List.Mem.tail _ (List.Mem.tail _ (List.Mem.head _)))) (z_icmp_ne X (t := 112) rfl rfl ⟨by first | exact oq_fa4e5087 hi.2.1 | omega, by first | exact oq_0961352d hi.2.2.1 g1002 | omega⟩ ⟨by first | exact hi.1.1 | omega, by first | exact hi.1.2 | omega⟩ (fun g1012 => ?_) (fun g1012 => ?_)))
              ·
                refine z_inc X (x := nn) (lv' := [(3, .int (Int32.ofInt (nn + 1))), (5, .int (Int32.ofInt e1009)), (0, .ref (A 179)), (1, .int (Int32.ofInt xv)), (2, .int (Int32.ofInt yv)), (4, .int (Int32.ofInt c))]) rfl (by decide) (List.Mem.tail _ (List.Mem.tail _ (List.Mem.tail _ (List.Mem.tail _ (List.Mem.head _))))) (fun _ h => h) (z_inc X (x := c) (lv' := [(4, .int (Int32.ofInt (c + 1))), (3, .int (Int32.ofInt (nn + 1))), (5, .int (Int32.ofInt e1009)), (0, .ref (A 179)), (1, .int (Int32.ofInt xv)), (2, .int (Int32.ofInt yv))]) rfl (by decide) (List.Mem.tail _ (List.Mem.tail _ (List.Mem.tail _ (List.Mem.tail _ (List.Mem.tail _ (List.Mem.head _)))))) (fun _ h => h) (z_goto X (t := 45) rfl rfl (WS_pq [3, 4, 5, 1, 0] (lv' := [(0, .ref (A 179)), (1, .int (Int32.ofInt xv)), (2, .int (Int32.ofInt yv)), (3, .int (Int32.ofInt (nn + 1))), (4, .int (Int32.ofInt (c + 1)))]) rfl ?_)))
                exact ih _ xv yv (nn + 1) (c + 1) Is1010 Fs1010 (by first | exact ⟨And.intro (hi.1.1) (hi.1.2), oq_54f49eb5 hi.2.1, oq_8d48a029 hi.2.2.1, oq_d2afb425 g1002⟩ | omega) (by first | exact qk_me hm (by decide) (oq_c268b7bd g1002) | omega) kx
              ·
                refine z_load X (x := c) rfl (List.Mem.tail _ (List.Mem.tail _ (List.Mem.tail _ (List.Mem.tail _ (List.Mem.tail _ (List.Mem.head _)))))) ?_
                exact w_iret X.1 q hRt rfl (ax_d X (show cdA 242 111 = some (.ireturn, 1, 0, 0, 0) from rfl)) (Nat.zero_le _) (Nat.zero_le _) ⟨_, rfl, Is1010, Fs1010, c, rfl, ⟨by first | exact oq_e001bc0d hi.2.2.1 hi.2.1 | omega, by first | exact oq_fe95e6e4 g1002 | omega⟩, trivial⟩
            ·
              refine z_goto X (t := 115) rfl rfl (z_inc X (x := c) (lv' := [(4, .int (Int32.ofInt (c + 1))), (5, .int (Int32.ofInt e1009)), (0, .ref (A 179)), (1, .int (Int32.ofInt xv)), (2, .int (Int32.ofInt yv)), (3, .int (Int32.ofInt nn))]) rfl (by decide) (List.Mem.tail _ (List.Mem.tail _ (List.Mem.tail _ (List.Mem.tail _ (List.Mem.tail _ (List.Mem.head _)))))) (fun _ h => h) (z_goto X (t := 45) rfl rfl (WS_pq [2, 3, 4, 5, 0] (lv' := [(0, .ref (A 179)), (1, .int (Int32.ofInt xv)), (2, .int (Int32.ofInt yv)), (3, .int (Int32.ofInt nn)), (4, .int (Int32.ofInt (c + 1)))]) rfl ?_)))
              exact ih _ xv yv nn (c + 1) Is1010 Fs1010 (by first | exact ⟨And.intro (hi.1.1) (hi.1.2), hi.2.1, oq_03182e9e hi.2.2.1, oq_d2afb425 g1002⟩ | omega) (by first | exact qk_me hm (by decide) (oq_c268b7bd g1002) | omega) kx
          refine z_if_ne X (t := 85) rfl rfl hrs1006 (fun g1013 => ?_) (fun g1013 => ?_)
          ·
            exact z_const X rfl (N1008 _ (Or.inl ⟨g1013, rfl⟩))
          ·
            exact z_const X rfl (z_goto X (t := 86) rfl rfl (N1008 _ (Or.inr (⟨g1013, rfl⟩))))
        ·
          refine z_goto X (t := 115) rfl rfl (z_inc X (x := c) (lv' := [(4, .int (Int32.ofInt (c + 1))), (0, .ref (A 179)), (1, .int (Int32.ofInt xv)), (2, .int (Int32.ofInt yv)), (3, .int (Int32.ofInt nn))]) rfl (by decide) (List.Mem.tail _ (List.Mem.tail _ (List.Mem.tail _ (List.Mem.tail _ (List.Mem.head _))))) (fun _ h => h) (z_goto X (t := 45) rfl rfl (WS_pq [1, 2, 3, 4, 0] (lv' := [(0, .ref (A 179)), (1, .int (Int32.ofInt xv)), (2, .int (Int32.ofInt yv)), (3, .int (Int32.ofInt nn)), (4, .int (Int32.ofInt (c + 1)))]) rfl ?_)))
          exact ih _ xv yv nn (c + 1) I F (by first | exact ⟨And.intro (hi.1.1) (hi.1.2), hi.2.1, oq_03182e9e hi.2.2.1, oq_d2afb425 g1002⟩ | omega) (by first | exact qk_me hm (by decide) (oq_c268b7bd g1002) | omega) kx
  refine z_aload_n X (x := A 179) rfl (List.Mem.head _) (z_const X rfl (s_putI X 179 rfl (c518_ok rfl) rfl rfl (by decide) rfl rfl rfl (wd_gen (fun s2 hs2 => ?_))))
  have Is2 : Bd s2 := eqB hs2 (bd_I I (show (0 : Int) ≤ 0 ∧ 0 ≤ 3 by first | exact ⟨by decide, by decide⟩ | omega) (by decide))
  have Fs2 := eqF hs2 (fm_I F (inl_ok (a := 73) rfl))
  have vs2 : iI s2 73 = 0 := eqI hs2 (iI_u (by decide))
  refine z_aload_n X (x := A 179) rfl (List.Mem.head _) (z_load_n X (x := x) rfl (List.Mem.tail _ (List.Mem.head _)) (z_const X rfl (z_bipush X rfl (zcS_i0 X E (As := [.int (Int32.ofInt x), .int (Int32.ofInt 0), .int (Int32.ofInt 7)]) (st := [.ref (A 179)]) rfl rfl (k_in G Is2 (by first | exact ⟨p0.1, p0.2⟩ | omega) (by first | exact ⟨by decide, by decide⟩ | omega) (by first | exact ⟨by decide, by decide⟩ | omega)) rfl (Nat.le_of_ble_eq_true rfl) (fun s3 e4 Is3 Fs3 hrs3 hps3 => ?_)))))
  have Gs3 := fm_tq Fs2 Fs3 rfl rfl
  have ws3_73 : iI s3 73 = iI s2 73 := fm_iq Fs3 rfl
  have N5 : ∀ e6 : Int, (((e4 ≠ 0) ∧ e6 = 0) ∨ ((e4 = 0) ∧ e6 = 1)) → WS k 21 [(0, .ref (A 179)), (1, .int (Int32.ofInt x)), (2, .int (Int32.ofInt y))] [.int (Int32.ofInt e6), .ref (A 179)] (Wd A dT s3) 0 0 := by
    intro e6 he6
    have re6 : 0 ≤ e6 ∧ e6 ≤ 1 := by first | (clear he6 hps3; omega) | (clear hps3; omega) | omega
    refine z_const X rfl (zcV_i0 X E 179 (As := [.int (Int32.ofInt e6), .int (Int32.ofInt 1)]) (st := []) rfl rfl rfl rfl (k_bad G Is3 (by first | exact oq_31e518ae re6.2 re6.1 | omega) (by first | exact ⟨by decide, by decide⟩ | omega)) rfl (Nat.le_of_ble_eq_true rfl) (fun s7 e8 Is7 Fs7 hrs7 hps7 => ?_))
    have Gs7 := fm_tq Gs3 Fs7 rfl rfl
    have b9 := bi_73 Is7
    refine z_if_eq X (t := 30) rfl rfl hrs7 (fun g10 => ?_) (fun g10 => ?_)
    ·
      refine z_aload_n X (x := A 179) rfl (List.Mem.head _) (z_load_n X (x := x) rfl (List.Mem.tail _ (List.Mem.head _)) (zcV_i0 X E 179 (As := [.int (Int32.ofInt x)]) (st := []) rfl rfl rfl rfl (k_isWhole G Is7 (by first | exact ⟨p0.1, p0.2⟩ | omega)) rfl (Nat.le_of_ble_eq_true rfl) (fun s11 e12 Is11 Fs11 hrs11 hps11 => ?_)))
      have Gs11 := fm_tq Gs7 Fs11 rfl rfl
      have ws11_73 : iI s11 73 = iI s7 73 := fm_iq Fs11 rfl
      refine z_if_ne X (t := 40) rfl rfl hrs11 (fun g13 => ?_) (fun g13 => ?_)
      ·
        refine z_const X rfl (z_store_n X (lv' := [(3, .int (Int32.ofInt 0)), (0, .ref (A 179)), (1, .int (Int32.ofInt x)), (2, .int (Int32.ofInt y))]) rfl (by decide) (fun _ h => h) (z_const X rfl (z_store X (lv' := [(4, .int (Int32.ofInt 0)), (3, .int (Int32.ofInt 0)), (0, .ref (A 179)), (1, .int (Int32.ofInt x)), (2, .int (Int32.ofInt y))]) rfl (by decide) (fun _ h => h) (WS_pq [2, 3, 4, 1, 0] (lv' := [(0, .ref (A 179)), (1, .int (Int32.ofInt x)), (2, .int (Int32.ofInt y)), (3, .int (Int32.ofInt 0)), (4, .int (Int32.ofInt 0))]) rfl (L45 ((128 - 0 : Int).toNat + 1) s11 x y 0 0 Is11 Gs11 (by first | exact ⟨And.intro (p1.1) (p1.2), by decide, by decide, by decide⟩ | omega) (Nat.lt_succ_self _) ?_)))))
        intro s14 x15 x16 Is14 Fs14 hs14
        have b17 := bi_73 Is14
        refine z_const X rfl ?_
        exact w_iret X.1 q hRt rfl (ax_d X (show cdA 242 122 = some (.ireturn, 1, 0, 0, 0) from rfl)) (Nat.zero_le _) (Nat.zero_le _) ⟨_, rfl, Is14, Fs14, (-1), rfl, (by decide), trivial⟩
      ·
        refine z_const X rfl ?_
        exact w_iret X.1 q hRt rfl (ax_d X (show cdA 242 39 = some (.ireturn, 1, 0, 0, 0) from rfl)) (Nat.zero_le _) (Nat.zero_le _) ⟨_, rfl, Is11, Gs11, (-1), rfl, (by decide), trivial⟩
    ·
      refine z_const X rfl ?_
      exact w_iret X.1 q hRt rfl (ax_d X (show cdA 242 29 = some (.ireturn, 1, 0, 0, 0) from rfl)) (Nat.zero_le _) (Nat.zero_le _) ⟨_, rfl, Is7, Gs7, 0, rfl, (by decide), trivial⟩
  refine z_if_ne X (t := 20) rfl rfl hrs3 (fun g18 => ?_) (fun g18 => ?_)
  ·
    exact z_const X rfl (N5 _ (Or.inl ⟨g18, rfl⟩))
  ·
    exact z_const X rfl (z_goto X (t := 21) rfl rfl (N5 _ (Or.inr (⟨g18, rfl⟩))))
end M57
