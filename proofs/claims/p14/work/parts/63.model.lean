theorem oq_86ef0b17 {a0 a1 : Int} (h0 : a0 = a1) (h1 : a1 ≤ 8) : a0 ≤ 8 := by omega
theorem oq_d7ce4408 {a0 a1 a2 : Int} (h0 : a0 = a1) (h1 : a1 = a2) (h2 : a2 ≤ 8) : a0 ≤ 8 := by omega
/-! The model: storms mended -/
def HMk (k : Int) (s : PS) : Prop := ∀ i : Nat, i < 8 → (i : Int) < k → 1 ≤ iC s 401 (iC s 400 i).toNat ∧ (iC s 401 (iC s 400 i).toNat = 1 → 1 ≤ iC s 403 (iC s 400 i).toNat)
def HXa (a : Int) (s : PS) : Prop := ∀ i : Nat, i < 8 → (i : Int) < iI s 105 → iC s 400 i < a ∧ ∀ j, j < i → iC s 400 j < iC s 400 i
def HX (s : PS) : Prop := HXa (iI s 90) s
def HM (s : PS) : Prop := HX s ∧ HMk (iI s 105) s
theorem HMk_fm {L M : List Nat} {s t : PS} {k : Int} (F : Fm L M s t) (h : 401 ∉ M ∧ 400 ∉ M ∧ 403 ∉ M) (r : HMk k s) : HMk k t := fun i hi hk => by
  rw [fm_c F h.1, fm_c F h.2.1, fm_c F h.2.2]; exact r i hi hk
theorem HXa_fm {L M : List Nat} {s t : PS} {a : Int} (F : Fm L M s t) (h : 105 ∉ L ∧ 400 ∉ M) (r : HXa a s) : HXa a t := fun i hi hk => by
  rw [fm_i F h.1] at hk
  refine ⟨by rw [fm_c F h.2]; exact (r i hi hk).1, fun j hj => by rw [fm_c F h.2, fm_c F h.2]; exact (r i hi hk).2 j hj⟩
theorem HX_fm {L M : List Nat} {s t : PS} (F : Fm L M s t) (h : 90 ∉ L ∧ 105 ∉ L ∧ 400 ∉ M) (r : HX s) : HX t := by
  unfold HX at r ⊢
  rw [fm_i F h.1]; exact HXa_fm F h.2 r
theorem HM_fm {L M : List Nat} {s t : PS} (F : Fm L M s t) (h : 90 ∉ L ∧ 105 ∉ L ∧ 400 ∉ M ∧ 401 ∉ M ∧ 403 ∉ M) (r : HM s) : HM t :=
  ⟨HX_fm F ⟨h.1, h.2.1, h.2.2.1⟩ r.1, by rw [fm_i F h.2.1]; exact HMk_fm F ⟨h.2.2.2.1, h.2.2.1, h.2.2.2.2⟩ r.2⟩
theorem HXa_le {s : PS} {a b : Int} (h : a ≤ b) (r : HXa a s) : HXa b s := fun i hi hk => ⟨by have := (r i hi hk).1; omega, (r i hi hk).2⟩
theorem HMk_le {s : PS} {a b : Int} (h : a ≤ b) (r : HMk b s) : HMk a s := fun i hi hk => r i hi (by omega)
theorem HXa_0 {s : PS} {a : Int} (h : iI s 105 = 0) : HXa a s := fun i _ hk => by omega
/-- one more is hit -/
theorem HXa_up {t t1 t2 : PS} {a n : Int} (I : Bd t) (r : HXa a t) (hn : iI t 105 = n) (h0 : 0 ≤ n ∧ n ≤ 7) (ha : 0 ≤ a ∧ a ≤ 11) (e1 : t1 = uC t 400 (n : Int).toNat (Int32.ofInt a)) (e2 : t2 = uI t1 105 (Int32.ofInt (n + 1))) : HXa (a + 1) t2 := fun i hi hk => by
  have ek : iI t2 105 = n + 1 := by rw [e2]; exact iI_u ⟨by omega, by omega⟩
  have ec : ∀ j, iC t2 400 j = iC t1 400 j := fun j => by rw [e2]; rfl
  rw [ek] at hk
  have old : ∀ j : Nat, j ≠ (n : Int).toNat → iC t1 400 j = iC t 400 j := fun j hj => by rw [e1]; exact iC_n hj
  have new : iC t1 400 (n : Int).toNat = a := by rw [e1]; exact iC_u ⟨by omega, by omega⟩
  by_cases e : i = (n : Int).toNat
  · subst e
    refine ⟨by rw [ec, new]; omega, fun j hj => ?_⟩
    rw [ec, ec, new, old j (by omega)]
    exact (r j (by omega) (by omega)).1
  · obtain ⟨r1, r2⟩ := r i hi (by omega)
    refine ⟨by rw [ec, old i e]; omega, fun j hj => ?_⟩
    rw [ec, ec, old i e, old j (by omega)]
    exact r2 j hj
theorem HXa_more {t t2 : PS} {a n : Int} (r : HXa a t) (hn : iI t 105 = n) (h0 : 8 ≤ n ∧ n ≤ 11) (e2 : t2 = uI t 105 (Int32.ofInt (n + 1))) : HXa (a + 1) t2 := fun i hi hk => by
  have ec : ∀ j, iC t2 400 j = iC t 400 j := fun j => by rw [e2]; rfl
  obtain ⟨r1, r2⟩ := r i hi (by omega)
  exact ⟨by rw [ec]; omega, fun j hj => by rw [ec, ec]; exact r2 j hj⟩
/-- a mend is chosen -/
theorem HMk_up {t t1 : PS} {k m : Int} (I : Bd t) (hx : HX t) (r : HMk k t) (hk : 0 ≤ k ∧ k ≤ 7) (hk2 : k < iI t 105) (hm : 1 ≤ m ∧ m ≤ 3) (h1 : m = 1 → 1 ≤ iC t 403 (iC t 400 (k : Int).toNat).toNat) (e1 : t1 = uC t 401 (iC t 400 (k : Int).toNat).toNat (Int32.ofInt m)) : HMk (k + 1) t1 := fun i hi hik => by
  have a1 : ∀ j, iC t1 400 j = iC t 400 j := fun j => by rw [e1]; exact iC_a (by decide)
  have a2 : ∀ j, iC t1 403 j = iC t 403 j := fun j => by rw [e1]; exact iC_a (by decide)
  have new : iC t1 401 (iC t 400 (k : Int).toNat).toNat = m := by rw [e1]; exact iC_u ⟨by omega, by omega⟩
  by_cases e : i = (k : Int).toNat
  · subst e
    rw [a1, a2, new]
    exact ⟨hm.1, h1⟩
  · have hlt := (hx (k : Int).toNat (by omega) (by omega)).2 i (by omega)
    have b1 : 0 ≤ iC t 400 i ∧ iC t 400 i ≤ 11 := I.2 400 i hi
    rw [a1, a2, show iC t1 401 (iC t 400 i).toNat = iC t 401 (iC t 400 i).toNat by rw [e1]; exact iC_n (by omega)]
    exact r i hi (by omega)
theorem HMk_off {t t1 : PS} {k : Int} (I : Bd t) (hx : HX t) (r : HMk k t) (hk : 0 ≤ k ∧ k ≤ 7) (hk2 : k < iI t 105) (e1 : t1 = uC t 401 (iC t 400 (k : Int).toNat).toNat (Int32.ofInt 0)) : HMk k t1 := fun i hi hik => by
  have a1 : ∀ j, iC t1 400 j = iC t 400 j := fun j => by rw [e1]; exact iC_a (by decide)
  have a2 : ∀ j, iC t1 403 j = iC t 403 j := fun j => by rw [e1]; exact iC_a (by decide)
  have hlt := (hx (k : Int).toNat (by omega) (by omega)).2 i (by omega)
  have b1 : 0 ≤ iC t 400 i ∧ iC t 400 i ≤ 11 := I.2 400 i hi
  rw [a1, a2, show iC t1 401 (iC t 400 i).toNat = iC t 401 (iC t 400 i).toNat by rw [e1]; exact iC_n (by omega)]
  exact r i hi hik
theorem NW1_st {s : PS} {a i j : Nat} {x : Int32} (ha : (202 ≠ a ∨ j ≠ i) ∧ 216 + j ≠ a) (r : NW1 s j) : NW1 (uC s a i x) j := by
  have e : iC (uC s a i x) 202 j = iC s 202 j := by
    by_cases q : 202 = a
    · subst q; exact iC_n (ha.1.resolve_left (fun z => z rfl))
    · exact iC_a q
  exact ⟨by rw [e]; exact r.1, fun c hc => by rw [e, iC_a ha.2]; exact r.2 c hc⟩
/-- all streams but one are heard as they are -/
def NWo (b : Int) (t : PS) : Prop := ∀ j : Nat, j < 12 → (j : Int) < iI t 90 → j ≠ (b : Int).toNat → NW1 t j
section M63
variable {l : Launch} {s0 : State} {D : va_G} {tys : List (ClassId × FieldType)} {a0 : Array Value} {A : Nat → Nat} {dT : Nat → ClassId} {s : PS}
set_option maxRecDepth 4000 in
theorem k_asMended (G : GX l s0 D tys a0 dT) (I : Bd s) (jRLx : RLx s) (jHM : HM s) {x : Int} (p0 : 0 ≤ x ∧ x ≤ 23) (p1 : iI s 105 ≤ 8) : CT l s0 D A dT 284 (rmN 284) [.ref (A 179), .int (Int32.ofInt x)] s (fun o t => Bd t ∧ Fm [] [202, 204, 205, 206, 207, 208, 209, 210, 211, 212, 213, 214, 215, 216, 217, 218, 219, 220, 221, 222, 223, 224, 225, 226, 227, 203] s t ∧ RLx t ∧ NW t ∧ o = .inl none ∧ (True)) := by
  refine ct_of G (by decide) (Nat.le_of_ble_eq_true rfl) (fun k X E hRt hXt q => ?_)
  show WS k 0 [(0, .ref (A 179)), (1, .int (Int32.ofInt x))] [] _ 0 0
  have F : Fm [] [202, 204, 205, 206, 207, 208, 209, 210, 211, 212, 213, 214, 215, 216, 217, 218, 219, 220, 221, 222, 223, 224, 225, 226, 227, 203] s s := fm_rf _ _ s
  have b1 := bi_105 I
  have b2 := bi_90 I
  have L57 : ∀ (n : Nat) (t : PS) (xv iv bv c : Int), Bd t → Fm [] [202, 204, 205, 206, 207, 208, 209, 210, 211, 212, 213, 214, 215, 216, 217, 218, 219, 220, 221, 222, 223, 224, 225, 226, 227, 203] s t → RLx t → HM t → (NWo bv t ∧ ∀ i : Nat, i < 128 → (i : Int) < c → iC t (216 + (bv : Int).toNat) i < iC t 202 (bv : Int).toNat) → ((0 ≤ iv ∧ iv < iI t 105) ∧ iI t 105 ≤ 8 ∧ (0 ≤ bv ∧ bv < iI t 90) ∧ bv ≤ 11 ∧ iC t 202 (bv : Int).toNat = iC t 403 (bv : Int).toNat ∧ 1 ≤ iC t 403 (bv : Int).toNat ∧ 0 ≤ c ∧ c ≤ 128) → (128 - c : Int).toNat < n → (∀ (t' : PS) (c' : Int), Bd t' → Fm [] [202, 204, 205, 206, 207, 208, 209, 210, 211, 212, 213, 214, 215, 216, 217, 218, 219, 220, 221, 222, 223, 224, 225, 226, 227, 203] s t' → RLx t' → HM t' → (NWo bv t' ∧ ∀ i : Nat, i < 128 → (i : Int) < c' → iC t' (216 + (bv : Int).toNat) i < iC t' 202 (bv : Int).toNat) → ((0 ≤ iv ∧ iv < iI t' 105) ∧ iI t' 105 ≤ 8 ∧ (0 ≤ bv ∧ bv < iI t' 90) ∧ bv ≤ 11 ∧ iC t' 202 (bv : Int).toNat = iC t' 403 (bv : Int).toNat ∧ 1 ≤ iC t' 403 (bv : Int).toNat ∧ 128 ≤ c') → WS k 81 [(0, .ref (A 179)), (1, .int (Int32.ofInt xv)), (2, .int (Int32.ofInt iv)), (3, .int (Int32.ofInt bv)), (4, .int (Int32.ofInt c'))] [] (Wd A dT t') 0 0) → WS k 57 [(0, .ref (A 179)), (1, .int (Int32.ofInt xv)), (2, .int (Int32.ofInt iv)), (3, .int (Int32.ofInt bv)), (4, .int (Int32.ofInt c))] [] (Wd A dT t) 0 0 := by
    intro n
    induction n with
    | zero =>
      intro t xv iv bv c I F jjRLx jjHM hq hi hm kx
      exact absurd hm (Nat.not_lt_zero _)
    | succ n ih =>
      intro t xv iv bv c I F jjRLx jjHM hq hi hm kx
      have b1001 := bi_105 I
      have b1002 := bi_90 I
      refine z_load X (x := c) rfl (List.Mem.tail _ (List.Mem.tail _ (List.Mem.tail _ (List.Mem.tail _ (List.Mem.head _))))) (z_sipush X rfl (z_icmp_ge X (t := 81) rfl rfl ⟨by first | exact oq_fa4e5087 hi.2.2.2.2.2.2.1 | omega, by first | exact oq_4ee82282 hi.2.2.2.2.2.2.2 | omega⟩ (by decide) (fun g1003 => ?_) (fun g1003 => ?_)))
      ·
        refine WS_pq [0, 1, 2, 3, 4] (lv' := [(0, .ref (A 179)), (1, .int (Int32.ofInt xv)), (2, .int (Int32.ofInt iv)), (3, .int (Int32.ofInt bv)), (4, .int (Int32.ofInt c))]) rfl ?_
        exact kx _ c I F jjRLx jjHM hq (by first | exact ⟨And.intro (hi.1.1) (hi.1.2), hi.2.1, And.intro (hi.2.2.1.1) (hi.2.2.1.2), hi.2.2.2.1, hi.2.2.2.2.1, hi.2.2.2.2.2.1, g1003⟩ | omega)
      ·
        refine z_aload_n X (x := A 179) rfl (List.Mem.head _) (s_getR X 179 rfl (c518_ok rfl) rfl rfl (z_load_n X (x := bv) rfl (List.Mem.tail _ (List.Mem.tail _ (List.Mem.tail _ (List.Mem.head _)))) (z_aald X rw_243 rfl (by first | exact hi.2.2.1.1 | omega) (show bv < 12 by first | exact oq_0ddfcfee hi.2.2.2.1 | omega) (by decide) (z_load X (x := c) rfl (List.Mem.tail _ (List.Mem.tail _ (List.Mem.tail _ (List.Mem.tail _ (List.Mem.head _))))) (z_const X rfl (z_ast2 X rw_243 rfl (show (bv : Int).toNat < 12 by first | exact oq_9c5fa447 hi.2.2.2.1 | omega) (by first | exact hi.2.2.2.2.2.2.1 | omega) (show c < 128 by first | exact g1003 | omega) (by decide) (wd_gen (fun s1004 hs1004 => ?_))))))))
        have Is1004 : Bd s1004 := eqB hs1004 (rw_st rw_243 I (show (bv : Int).toNat < 12 by first | exact oq_9c5fa447 hi.2.2.2.1 | omega) (show ((-1) : Int) ≤ (-1) ∧ (-1) ≤ 23 by first | exact ⟨by decide, by decide⟩ | omega) (by decide))
        have Fs1004 := eqF hs1004 (fm_C (i := (c : Int).toNat) (x := Int32.ofInt (-1)) F ((show ∀ j, j < 12 → 216 + j ∈ _ by decide) (bv : Int).toNat (by first | exact oq_9c5fa447 hi.2.2.2.1 | omega)))
        have ws1004_105 : iI s1004 105 = iI t 105 := eqI hs1004 rfl
        have ws1004_90 : iI s1004 90 = iI t 90 := eqI hs1004 rfl
        have fs1004 : Fm [] [216, 217, 218, 219, 220, 221, 222, 223, 224, 225, 226, 227] t s1004 := by rw [hs1004]; exact fm_C (fm_rf _ _ _) ((show ∀ j, j < 12 → 216 + j ∈ _ by decide) (bv : Int).toNat (by first | exact oq_9c5fa447 hi.2.2.2.1 | omega))
        have JRLx_s1004 : RLx s1004 := RLx_fm fs1004 (by decide) jjRLx
        have JHM_s1004 : HM s1004 := HM_fm fs1004 (by decide) jjHM
        refine z_inc X (x := c) (lv' := [(4, .int (Int32.ofInt (c + 1))), (0, .ref (A 179)), (1, .int (Int32.ofInt xv)), (2, .int (Int32.ofInt iv)), (3, .int (Int32.ofInt bv))]) rfl (by decide) (List.Mem.tail _ (List.Mem.tail _ (List.Mem.tail _ (List.Mem.tail _ (List.Mem.head _))))) (fun _ h => h) (z_goto X (t := 57) rfl rfl (WS_pq [1, 2, 3, 4, 0] (lv' := [(0, .ref (A 179)), (1, .int (Int32.ofInt xv)), (2, .int (Int32.ofInt iv)), (3, .int (Int32.ofInt bv)), (4, .int (Int32.ofInt (c + 1)))]) rfl ?_))
        have rm_s1004 : iC s1004 403 (bv : Int).toNat = iC t 403 (bv : Int).toNat := eqC hs1004 (iC_a (by omega))
        have nm_s1004 : iC s1004 202 (bv : Int).toNat = iC t 202 (bv : Int).toNat := eqC hs1004 (iC_a (by omega))
        have hN1005 : NWo bv s1004 ∧ ∀ i : Nat, i < 128 → (i : Int) < (c + 1) → iC s1004 (216 + (bv : Int).toNat) i < iC s1004 202 (bv : Int).toNat := by
          refine ⟨fun j hj hs hne => by rw [hs1004] at hs ⊢; exact NW1_st (by omega) (hq.1 j hj hs hne), fun i hi h => ?_⟩
          rw [nm_s1004]
          by_cases e : i = (c : Int).toNat
          · rw [e, hs1004, iC_u ⟨by omega, by omega⟩]; omega
          · rw [hs1004, iC_n e]; exact hq.2 i hi (by omega)
        exact ih _ xv iv bv (c + 1) Is1004 Fs1004 JRLx_s1004 JHM_s1004 hN1005 (by first | exact ⟨And.intro (hi.1.1) (oq_71f4b7b9 ws1004_105 hi.1.2), oq_86ef0b17 ws1004_105 hi.2.1, And.intro (hi.2.2.1.1) (oq_71f4b7b9 ws1004_90 hi.2.2.1.2), hi.2.2.2.1, oq_f5ee3737 rm_s1004 nm_s1004 hi.2.2.2.2.1, oq_fed65c02 rm_s1004 hi.2.2.2.2.2.1, oq_54f49eb5 hi.2.2.2.2.2.2.1, oq_d2afb425 g1003⟩ | omega) (by first | exact qk_me hm (by decide) (oq_c268b7bd g1003) | omega) kx
  have L84 : ∀ (n : Nat) (t : PS) (xv iv bv c : Int), Bd t → Fm [] [202, 204, 205, 206, 207, 208, 209, 210, 211, 212, 213, 214, 215, 216, 217, 218, 219, 220, 221, 222, 223, 224, 225, 226, 227, 203] s t → RLx t → HM t → (NWo bv t ∧ ∀ i : Nat, i < 128 → (i : Int) < 128 → iC t (216 + (bv : Int).toNat) i < iC t 202 (bv : Int).toNat) → ((0 ≤ iv ∧ iv < iI t 105) ∧ iI t 105 ≤ 8 ∧ (0 ≤ bv ∧ bv < iI t 90) ∧ bv ≤ 11 ∧ iC t 202 (bv : Int).toNat = iC t 403 (bv : Int).toNat ∧ 1 ≤ iC t 403 (bv : Int).toNat ∧ 0 ≤ c ∧ c ≤ 24) → (24 - c : Int).toNat < n → (∀ (t' : PS) (c' : Int), Bd t' → Fm [] [202, 204, 205, 206, 207, 208, 209, 210, 211, 212, 213, 214, 215, 216, 217, 218, 219, 220, 221, 222, 223, 224, 225, 226, 227, 203] s t' → RLx t' → HM t' → (NWo bv t' ∧ ∀ i : Nat, i < 128 → (i : Int) < 128 → iC t' (216 + (bv : Int).toNat) i < iC t' 202 (bv : Int).toNat) → ((0 ≤ iv ∧ iv < iI t' 105) ∧ iI t' 105 ≤ 8 ∧ (0 ≤ bv ∧ bv < iI t' 90) ∧ bv ≤ 11 ∧ iC t' 202 (bv : Int).toNat = iC t' 403 (bv : Int).toNat ∧ 1 ≤ iC t' 403 (bv : Int).toNat ∧ 0 ≤ c' ∧ c' ≤ 24) → WS k 137 [(0, .ref (A 179)), (1, .int (Int32.ofInt xv)), (2, .int (Int32.ofInt iv)), (3, .int (Int32.ofInt bv)), (4, .int (Int32.ofInt c'))] [] (Wd A dT t') 0 0) → WS k 84 [(0, .ref (A 179)), (1, .int (Int32.ofInt xv)), (2, .int (Int32.ofInt iv)), (3, .int (Int32.ofInt bv)), (4, .int (Int32.ofInt c))] [] (Wd A dT t) 0 0 := by
    intro n
    induction n with
    | zero =>
      intro t xv iv bv c I F jjRLx jjHM hq hi hm kx
      exact absurd hm (Nat.not_lt_zero _)
    | succ n ih =>
      intro t xv iv bv c I F jjRLx jjHM hq hi hm kx
      have b2001 := bi_105 I
      have b2002 := bi_90 I
      refine z_load X (x := c) rfl (List.Mem.tail _ (List.Mem.tail _ (List.Mem.tail _ (List.Mem.tail _ (List.Mem.head _))))) (z_aload_n X (x := A 179) rfl (List.Mem.head _) (s_getR X 179 rfl (c518_ok rfl) rfl rfl (z_load_n X (x := bv) rfl (List.Mem.tail _ (List.Mem.tail _ (List.Mem.tail _ (List.Mem.head _)))) (z_ald X 458 rfl (c518_ok rfl) rfl (by first | exact hi.2.2.1.1 | omega) (show bv < 12 by first | exact oq_0ddfcfee hi.2.2.2.1 | omega) (cbig_ok rfl) ?_))))
      have b2003 := bc_403 I (show (bv).toNat < 12 by first | exact oq_9c5fa447 hi.2.2.2.1 | omega)
      refine z_icmp_ge X (t := 137) rfl rfl ⟨by first | exact oq_fa4e5087 hi.2.2.2.2.2.2.1 | omega, by first | exact oq_5bcd337f hi.2.2.2.2.2.2.2 | omega⟩ (rng_to _) (fun g2004 => ?_) (fun g2004 => ?_)
      ·
        refine WS_pq [0, 1, 2, 3, 4] (lv' := [(0, .ref (A 179)), (1, .int (Int32.ofInt xv)), (2, .int (Int32.ofInt iv)), (3, .int (Int32.ofInt bv)), (4, .int (Int32.ofInt c))]) rfl ?_
        exact kx _ c I F jjRLx jjHM hq (by first | exact ⟨And.intro (hi.1.1) (hi.1.2), hi.2.1, And.intro (hi.2.2.1.1) (hi.2.2.1.2), hi.2.2.2.1, hi.2.2.2.2.1, hi.2.2.2.2.2.1, hi.2.2.2.2.2.2.1, hi.2.2.2.2.2.2.2⟩ | omega)
      ·
        refine z_aload_n X (x := A 179) rfl (List.Mem.head _) (s_getR X 179 rfl (c518_ok rfl) rfl rfl (z_load_n X (x := bv) rfl (List.Mem.tail _ (List.Mem.tail _ (List.Mem.tail _ (List.Mem.head _)))) (z_aald X rw_230 rfl (by first | exact hi.2.2.1.1 | omega) (show bv < 12 by first | exact oq_0ddfcfee hi.2.2.2.1 | omega) (by decide) (z_load X (x := c) rfl (List.Mem.tail _ (List.Mem.tail _ (List.Mem.tail _ (List.Mem.tail _ (List.Mem.head _))))) (z_aload_n X (x := A 179) rfl (List.Mem.head _) (s_getR X 179 rfl (c518_ok rfl) rfl rfl (z_load_n X (x := bv) rfl (List.Mem.tail _ (List.Mem.tail _ (List.Mem.tail _ (List.Mem.head _)))) (z_aald X rw_460 rfl (by first | exact hi.2.2.1.1 | omega) (show bv < 12 by first | exact oq_0ddfcfee hi.2.2.2.1 | omega) (by decide) (z_load X (x := c) rfl (List.Mem.tail _ (List.Mem.tail _ (List.Mem.tail _ (List.Mem.tail _ (List.Mem.head _))))) (z_ald2 X rw_460 rfl (show (bv : Int).toNat < 12 by first | exact oq_9c5fa447 hi.2.2.2.1 | omega) (by first | exact hi.2.2.2.2.2.2.1 | omega) (show c < 24 by first | exact oq_8ff7beb9 g2004 b2003.2 | omega) (by decide) ?_))))))))))
        have b2005 : (0 : Int) ≤ (iC t (405 + (bv : Int).toNat) (c : Int).toNat) ∧ (iC t (405 + (bv : Int).toNat) (c : Int).toNat) ≤ 127 := rw_bd rw_460 I (show (bv : Int).toNat < 12 by first | exact oq_9c5fa447 hi.2.2.2.1 | omega) (show (c : Int).toNat < 24 by first | exact oq_9e668fc9 g2004 b2003.2 | omega)
        refine z_ast2 X rw_230 rfl (show (bv : Int).toNat < 12 by first | exact oq_9c5fa447 hi.2.2.2.1 | omega) (by first | exact hi.2.2.2.2.2.2.1 | omega) (show c < 24 by first | exact oq_8ff7beb9 g2004 b2003.2 | omega) (by decide) (wd_gen (fun s2006 hs2006 => ?_))
        have Is2006 : Bd s2006 := eqB hs2006 (rw_st rw_230 I (show (bv : Int).toNat < 12 by first | exact oq_9c5fa447 hi.2.2.2.1 | omega) (show (0 : Int) ≤ (iC t (405 + (bv : Int).toNat) (c : Int).toNat) ∧ (iC t (405 + (bv : Int).toNat) (c : Int).toNat) ≤ 127 by first | exact ⟨b2005.1, b2005.2⟩ | omega) (rng_to _))
        have Fs2006 := eqF hs2006 (fm_C (i := (c : Int).toNat) (x := Int32.ofInt (iC t (405 + (bv : Int).toNat) (c : Int).toNat)) F ((show ∀ j, j < 12 → 204 + j ∈ _ by decide) (bv : Int).toNat (by first | exact oq_9c5fa447 hi.2.2.2.1 | omega)))
        have ws2006_105 : iI s2006 105 = iI t 105 := eqI hs2006 rfl
        have ws2006_90 : iI s2006 90 = iI t 90 := eqI hs2006 rfl
        have fs2006 : Fm [] [204, 205, 206, 207, 208, 209, 210, 211, 212, 213, 214, 215] t s2006 := by rw [hs2006]; exact fm_C (fm_rf _ _ _) ((show ∀ j, j < 12 → 204 + j ∈ _ by decide) (bv : Int).toNat (by first | exact oq_9c5fa447 hi.2.2.2.1 | omega))
        have JRLx_s2006 : RLx s2006 := RLx_fm fs2006 (by decide) jjRLx
        have JHM_s2006 : HM s2006 := HM_fm fs2006 (by decide) jjHM
        refine z_aload_n X (x := A 179) rfl (List.Mem.head _) (s_getR X 179 rfl (c518_ok rfl) rfl rfl (z_load_n X (x := bv) rfl (List.Mem.tail _ (List.Mem.tail _ (List.Mem.tail _ (List.Mem.head _)))) (z_aald X rw_243 rfl (by first | exact hi.2.2.1.1 | omega) (show bv < 12 by first | exact oq_0ddfcfee hi.2.2.2.1 | omega) (by decide) (z_aload_n X (x := A 179) rfl (List.Mem.head _) (s_getR X 179 rfl (c518_ok rfl) rfl rfl (z_load_n X (x := bv) rfl (List.Mem.tail _ (List.Mem.tail _ (List.Mem.tail _ (List.Mem.head _)))) (z_aald X rw_460 rfl (by first | exact hi.2.2.1.1 | omega) (show bv < 12 by first | exact oq_0ddfcfee hi.2.2.2.1 | omega) (by decide) (z_load X (x := c) rfl (List.Mem.tail _ (List.Mem.tail _ (List.Mem.tail _ (List.Mem.tail _ (List.Mem.head _))))) (z_ald2 X rw_460 rfl (show (bv : Int).toNat < 12 by first | exact oq_9c5fa447 hi.2.2.2.1 | omega) (by first | exact hi.2.2.2.2.2.2.1 | omega) (show c < 24 by first | exact oq_8ff7beb9 g2004 b2003.2 | omega) (by decide) ?_)))))))))
        have b2007 : (0 : Int) ≤ (iC s2006 (405 + (bv : Int).toNat) (c : Int).toNat) ∧ (iC s2006 (405 + (bv : Int).toNat) (c : Int).toNat) ≤ 127 := rw_bd rw_460 Is2006 (show (bv : Int).toNat < 12 by first | exact oq_9c5fa447 hi.2.2.2.1 | omega) (show (c : Int).toNat < 24 by first | exact oq_9e668fc9 g2004 b2003.2 | omega)
        refine z_load X (x := c) rfl (List.Mem.tail _ (List.Mem.tail _ (List.Mem.tail _ (List.Mem.tail _ (List.Mem.head _))))) (z_ast2 X rw_243 rfl (show (bv : Int).toNat < 12 by first | exact oq_9c5fa447 hi.2.2.2.1 | omega) (by first | exact b2007.1 | omega) (show (iC s2006 (405 + (bv : Int).toNat) (c : Int).toNat) < 128 by first | exact oq_31b2bf10 b2007.2 | omega) (by decide) (wd_gen (fun s2008 hs2008 => ?_)))
        have Is2008 : Bd s2008 := eqB hs2008 (rw_st rw_243 Is2006 (show (bv : Int).toNat < 12 by first | exact oq_9c5fa447 hi.2.2.2.1 | omega) (show ((-1) : Int) ≤ c ∧ c ≤ 23 by first | exact ⟨oq_ca54ea22 hi.2.2.2.2.2.2.1, oq_10212474 g2004 b2003.2⟩ | omega) ⟨by first | exact oq_fa4e5087 hi.2.2.2.2.2.2.1 | omega, by first | exact oq_5bcd337f hi.2.2.2.2.2.2.2 | omega⟩)
        have Fs2008 := eqF hs2008 (fm_C (i := ((iC s2006 (405 + (bv : Int).toNat) (c : Int).toNat) : Int).toNat) (x := Int32.ofInt c) Fs2006 ((show ∀ j, j < 12 → 216 + j ∈ _ by decide) (bv : Int).toNat (by first | exact oq_9c5fa447 hi.2.2.2.1 | omega)))
        have ws2008_105 : iI s2008 105 = iI s2006 105 := eqI hs2008 rfl
        have ws2008_90 : iI s2008 90 = iI s2006 90 := eqI hs2008 rfl
        have fs2008 : Fm [] [216, 217, 218, 219, 220, 221, 222, 223, 224, 225, 226, 227] s2006 s2008 := by rw [hs2008]; exact fm_C (fm_rf _ _ _) ((show ∀ j, j < 12 → 216 + j ∈ _ by decide) (bv : Int).toNat (by first | exact oq_9c5fa447 hi.2.2.2.1 | omega))
        have JRLx_s2008 : RLx s2008 := RLx_fm fs2008 (by decide) JRLx_s2006
        have JHM_s2008 : HM s2008 := HM_fm fs2008 (by decide) JHM_s2006
        refine z_inc X (x := c) (lv' := [(4, .int (Int32.ofInt (c + 1))), (0, .ref (A 179)), (1, .int (Int32.ofInt xv)), (2, .int (Int32.ofInt iv)), (3, .int (Int32.ofInt bv))]) rfl (by decide) (List.Mem.tail _ (List.Mem.tail _ (List.Mem.tail _ (List.Mem.tail _ (List.Mem.head _))))) (fun _ h => h) (z_goto X (t := 84) rfl rfl (WS_pq [1, 2, 3, 4, 0] (lv' := [(0, .ref (A 179)), (1, .int (Int32.ofInt xv)), (2, .int (Int32.ofInt iv)), (3, .int (Int32.ofInt bv)), (4, .int (Int32.ofInt (c + 1)))]) rfl ?_))
        have rm_s2008 : iC s2008 403 (bv : Int).toNat = iC t 403 (bv : Int).toNat := by rw [hs2008, iC_a (by omega), hs2006]; exact iC_a (by omega)
        have nm_s2008 : iC s2008 202 (bv : Int).toNat = iC t 202 (bv : Int).toNat := by rw [hs2008, iC_a (by omega), hs2006]; exact iC_a (by omega)
        have hN2009 : NWo bv s2008 ∧ ∀ i : Nat, i < 128 → (i : Int) < 128 → iC s2008 (216 + (bv : Int).toNat) i < iC s2008 202 (bv : Int).toNat := by
          refine ⟨fun j hj hs hne => by rw [hs2008, hs2006] at hs ⊢; exact NW1_st (by omega) (NW1_st (by omega) (hq.1 j hj hs hne)), fun i hi h => ?_⟩
          rw [nm_s2008]
          by_cases e : i = ((iC s2006 (405 + (bv : Int).toNat) (c : Int).toNat) : Int).toNat
          · rw [e, hs2008, iC_u ⟨by omega, by omega⟩]; omega
          · rw [hs2008, iC_n e, hs2006, iC_a (by omega)]; exact hq.2 i hi (by omega)
        exact ih _ xv iv bv (c + 1) Is2008 Fs2008 JRLx_s2008 JHM_s2008 hN2009 (by first | exact ⟨And.intro (hi.1.1) (oq_a618c864 ws2008_105 hi.1.2 ws2006_105), oq_d7ce4408 ws2008_105 ws2006_105 hi.2.1, And.intro (hi.2.2.1.1) (oq_a618c864 ws2008_90 hi.2.2.1.2 ws2006_90), hi.2.2.2.1, oq_f5ee3737 rm_s2008 nm_s2008 hi.2.2.2.2.1, oq_fed65c02 rm_s2008 hi.2.2.2.2.2.1, oq_54f49eb5 hi.2.2.2.2.2.2.1, oq_41473be0 g2004 b2003.2⟩ | omega) (by first | exact qk_me hm (by decide) (oq_9dea93e6 g2004 b2003.2) | omega) kx
  have L7 : ∀ (n : Nat) (t : PS) (xv iv : Int), Bd t → Fm [] [202, 204, 205, 206, 207, 208, 209, 210, 211, 212, 213, 214, 215, 216, 217, 218, 219, 220, 221, 222, 223, 224, 225, 226, 227, 203] s t → RLx t → HM t → (NW t) → (0 ≤ iv ∧ iv ≤ 8 ∧ iI t 105 ≤ 8) → (8 - iv : Int).toNat < n → (∀ (t' : PS) (iv' : Int), Bd t' → Fm [] [202, 204, 205, 206, 207, 208, 209, 210, 211, 212, 213, 214, 215, 216, 217, 218, 219, 220, 221, 222, 223, 224, 225, 226, 227, 203] s t' → RLx t' → HM t' → (NW t') → (0 ≤ iv' ∧ iv' ≤ 8 ∧ iI t' 105 ≤ 8) → WS k 143 [(0, .ref (A 179)), (1, .int (Int32.ofInt xv)), (2, .int (Int32.ofInt iv'))] [] (Wd A dT t') 0 0) → WS k 7 [(0, .ref (A 179)), (1, .int (Int32.ofInt xv)), (2, .int (Int32.ofInt iv))] [] (Wd A dT t) 0 0 := by
    intro n
    induction n with
    | zero =>
      intro t xv iv I F jjRLx jjHM hq hi hm kx
      exact absurd hm (Nat.not_lt_zero _)
    | succ n ih =>
      intro t xv iv I F jjRLx jjHM hq hi hm kx
      have b3001 := bi_105 I
      have b3002 := bi_90 I
      refine z_load_n X (x := iv) rfl (List.Mem.tail _ (List.Mem.tail _ (List.Mem.head _))) (z_aload_n X (x := A 179) rfl (List.Mem.head _) (z_getI X 179 rfl (c518_ok rfl) rfl rfl ?_))
      have b3003 := bi_105 I
      refine z_icmp_ge X (t := 143) rfl rfl ⟨by first | exact oq_fa4e5087 hi.1 | omega, by first | exact oq_d3f5d874 hi.2.1 | omega⟩ (rng_to _) (fun g3004 => ?_) (fun g3004 => ?_)
      ·
        refine WS_pq [0, 1, 2] (lv' := [(0, .ref (A 179)), (1, .int (Int32.ofInt xv)), (2, .int (Int32.ofInt iv))]) rfl ?_
        exact kx _ iv I F jjRLx jjHM hq (by first | exact ⟨hi.1, hi.2.1, hi.2.2⟩ | omega)
      ·
        refine z_aload_n X (x := A 179) rfl (List.Mem.head _) (s_getR X 179 rfl (c518_ok rfl) rfl rfl (z_load_n X (x := iv) rfl (List.Mem.tail _ (List.Mem.tail _ (List.Mem.head _))) (z_ald X 455 rfl (c518_ok rfl) rfl (by first | exact hi.1 | omega) (show iv < 8 by first | exact oq_7f5b2e79 g3004 hi.2.2 | omega) (cbig_ok rfl) ?_)))
        have b3005 := bc_400 I (show (iv).toNat < 8 by first | exact oq_67be0351 g3004 hi.2.2 | omega)
        refine z_store_n X (lv' := [(3, .int (Int32.ofInt (iC t 400 (iv).toNat))), (0, .ref (A 179)), (1, .int (Int32.ofInt xv)), (2, .int (Int32.ofInt iv))]) rfl (by decide) (fun _ h => h) ?_
        have hm1 := (jjHM).2 (iv : Int).toNat (by omega) (by omega)
        have hm2 := ((jjHM).1 (iv : Int).toNat (by omega) (by omega)).1
        refine z_aload_n X (x := A 179) rfl (List.Mem.tail _ (List.Mem.head _)) (s_getR X 179 rfl (c518_ok rfl) rfl rfl (z_load_n X (x := (iC t 400 (iv).toNat)) rfl (List.Mem.head _) (z_ald X 456 rfl (c518_ok rfl) rfl (by first | exact b3005.1 | omega) (show (iC t 400 (iv).toNat) < 12 by first | exact oq_0ddfcfee b3005.2 | omega) (cbig_ok rfl) ?_)))
        have b3006 := bc_401 I (show ((iC t 400 (iv).toNat)).toNat < 12 by first | exact oq_9c5fa447 b3005.2 | omega)
        refine z_const X rfl (z_icmp_le X (t := 42) rfl rfl (rng_to _) (by decide) (fun g3007 => ?_) (fun g3007 => ?_))
        ·
          refine z_aload_n X (x := A 179) rfl (List.Mem.tail _ (List.Mem.head _)) (s_getR X 179 rfl (c518_ok rfl) rfl rfl (z_load_n X (x := (iC t 400 (iv).toNat)) rfl (List.Mem.head _) (z_aload_n X (x := A 179) rfl (List.Mem.tail _ (List.Mem.head _)) (s_getR X 179 rfl (c518_ok rfl) rfl rfl (z_load_n X (x := (iC t 400 (iv).toNat)) rfl (List.Mem.head _) (z_ald X 458 rfl (c518_ok rfl) rfl (by first | exact b3005.1 | omega) (show (iC t 400 (iv).toNat) < 12 by first | exact oq_0ddfcfee b3005.2 | omega) (cbig_ok rfl) ?_))))))
          have b3008 := bc_403 I (show ((iC t 400 (iv).toNat)).toNat < 12 by first | exact oq_9c5fa447 b3005.2 | omega)
          refine z_ast X 228 rfl (c518_ok rfl) rfl (by first | exact b3005.1 | omega) (show (iC t 400 (iv).toNat) < 12 by first | exact oq_0ddfcfee b3005.2 | omega) (cbig_ok rfl) (wd_gen (fun s3009 hs3009 => ?_))
          have Is3009 : Bd s3009 := eqB hs3009 (bd_C I (show (0 : Int) ≤ (iC t 403 ((iC t 400 (iv).toNat)).toNat) ∧ (iC t 403 ((iC t 400 (iv).toNat)).toNat) ≤ 24 by first | exact ⟨b3008.1, b3008.2⟩ | omega) (rng_to _))
          have Fs3009 := eqF hs3009 (fm_C F (inl_ok (a := 202) rfl))
          have ws3009_105 : iI s3009 105 = iI t 105 := eqI hs3009 rfl
          have ws3009_90 : iI s3009 90 = iI t 90 := eqI hs3009 rfl
          have fs3009 : Fm [] [202] t s3009 := by rw [hs3009]; exact fm_C (fm_rf _ _ _) (show 202 ∈ _ by decide)
          have JRLx_s3009 : RLx s3009 := RLx_fm fs3009 (by decide) jjRLx
          have JHM_s3009 : HM s3009 := HM_fm fs3009 (by decide) jjHM
          refine z_const X rfl (z_store X (lv' := [(4, .int (Int32.ofInt 0)), (3, .int (Int32.ofInt (iC t 400 (iv).toNat))), (0, .ref (A 179)), (1, .int (Int32.ofInt xv)), (2, .int (Int32.ofInt iv))]) rfl (by decide) (fun _ h => h) (WS_pq [2, 3, 4, 1, 0] (lv' := [(0, .ref (A 179)), (1, .int (Int32.ofInt xv)), (2, .int (Int32.ofInt iv)), (3, .int (Int32.ofInt (iC t 400 (iv).toNat))), (4, .int (Int32.ofInt 0))]) rfl ?_))
          have rm_s3009 : iC s3009 403 ((iC t 400 (iv).toNat) : Int).toNat = iC t 403 ((iC t 400 (iv).toNat) : Int).toNat := eqC hs3009 (iC_a (by decide))
          have nm_s3009 : iC s3009 202 ((iC t 400 (iv).toNat) : Int).toNat = iC t 403 ((iC t 400 (iv).toNat) : Int).toNat := eqC hs3009 (iC_u ⟨by omega, by omega⟩)
          have hN3012 : NWo (iC t 400 (iv).toNat) s3009 ∧ ∀ i : Nat, i < 128 → (i : Int) < 0 → iC s3009 (216 + ((iC t 400 (iv).toNat) : Int).toNat) i < iC s3009 202 ((iC t 400 (iv).toNat) : Int).toNat := ⟨fun j hj hs hne => by
            rw [hs3009] at hs ⊢
            exact NW1_st (by omega) (hq j hj hs), fun i _ h => absurd h (by omega)⟩
          refine L57 ((128 - 0 : Int).toNat + 1) s3009 xv iv (iC t 400 (iv).toNat) 0 Is3009 Fs3009 JRLx_s3009 JHM_s3009 hN3012 (by first | exact ⟨And.intro (hi.1) (oq_71f4b7b9 ws3009_105 g3004), oq_86ef0b17 ws3009_105 hi.2.2, by omega, b3005.2, oq_f6b042d5 rm_s3009 nm_s3009, by omega, by decide, by decide⟩ | omega) (Nat.lt_succ_self _) ?_
          intro s3010 x3011 Is3010 Fs3010 JRLx_s3010 JHM_s3010 Qs3010 hs3010
          have b3013 := bi_105 Is3010
          have b3014 := bi_90 Is3010
          refine z_const X rfl (z_store X (lv' := [(4, .int (Int32.ofInt 0)), (0, .ref (A 179)), (1, .int (Int32.ofInt xv)), (2, .int (Int32.ofInt iv)), (3, .int (Int32.ofInt (iC t 400 (iv).toNat)))]) rfl (by decide) (fun _ h => h) (WS_pq [1, 2, 3, 4, 0] (lv' := [(0, .ref (A 179)), (1, .int (Int32.ofInt xv)), (2, .int (Int32.ofInt iv)), (3, .int (Int32.ofInt (iC t 400 (iv).toNat))), (4, .int (Int32.ofInt 0))]) rfl (L84 ((24 - 0 : Int).toNat + 1) s3010 xv iv (iC t 400 (iv).toNat) 0 Is3010 Fs3010 JRLx_s3010 JHM_s3010 ⟨Qs3010.1, fun i hi _ => Qs3010.2 i hi (by omega)⟩ (by first | exact ⟨And.intro (hs3010.1.1) (hs3010.1.2), hs3010.2.1, And.intro (hs3010.2.2.1.1) (hs3010.2.2.1.2), hs3010.2.2.2.1, hs3010.2.2.2.2.1, hs3010.2.2.2.2.2.1, by decide, by decide⟩ | omega) (Nat.lt_succ_self _) ?_)))
          intro s3015 x3016 Is3015 Fs3015 JRLx_s3015 JHM_s3015 Qs3015 hs3015
          have b3017 := bi_105 Is3015
          have b3018 := bi_90 Is3015
          have JNW_s3015 : NW s3015 := fun j hj hs => by
            by_cases e : j = ((iC t 400 (iv).toNat) : Int).toNat
            · subst e; exact ⟨by omega, fun c hc => Qs3015.2 c hc (by omega)⟩
            · exact Qs3015.1 j hj hs e
          refine z_inc X (x := iv) (lv' := [(2, .int (Int32.ofInt (iv + 1))), (0, .ref (A 179)), (1, .int (Int32.ofInt xv)), (3, .int (Int32.ofInt (iC t 400 (iv).toNat))), (4, .int (Int32.ofInt x3016))]) rfl (by decide) (List.Mem.tail _ (List.Mem.tail _ (List.Mem.head _))) (fun _ h => h) (z_goto X (t := 7) rfl rfl (WS_pq [1, 2, 0] (lv' := [(0, .ref (A 179)), (1, .int (Int32.ofInt xv)), (2, .int (Int32.ofInt (iv + 1)))]) rfl ?_))
          exact ih _ xv (iv + 1) Is3015 Fs3015 JRLx_s3015 JHM_s3015 JNW_s3015 (by first | exact ⟨oq_54f49eb5 hs3015.1.1, oq_f6204d84 hs3015.1.2 hs3015.2.1, hs3015.2.1⟩ | omega) (by first | exact qk_me hm (by decide) (oq_ccc5e5e0 hs3015.1.2 hs3015.2.1) | omega) kx
        ·
          refine z_aload_n X (x := A 179) rfl (List.Mem.tail _ (List.Mem.head _)) (s_getR X 179 rfl (c518_ok rfl) rfl rfl (z_load_n X (x := (iC t 400 (iv).toNat)) rfl (List.Mem.head _) (z_const X rfl (z_ast X 229 rfl (c518_ok rfl) rfl (by first | exact b3005.1 | omega) (show (iC t 400 (iv).toNat) < 12 by first | exact oq_0ddfcfee b3005.2 | omega) (cbig_ok rfl) (wd_gen (fun s3019 hs3019 => ?_))))))
          have Is3019 : Bd s3019 := eqB hs3019 (bd_C I (show (0 : Int) ≤ 0 ∧ 0 ≤ 50 by first | exact ⟨by decide, by decide⟩ | omega) (by decide))
          have Fs3019 := eqF hs3019 (fm_C F (inl_ok (a := 203) rfl))
          have ws3019_105 : iI s3019 105 = iI t 105 := eqI hs3019 rfl
          have ws3019_90 : iI s3019 90 = iI t 90 := eqI hs3019 rfl
          have fs3019 : Fm [] [203] t s3019 := by rw [hs3019]; exact fm_C (fm_rf _ _ _) (show 203 ∈ _ by decide)
          have JRLx_s3019 : RLx s3019 := RLx_fm fs3019 (by decide) jjRLx
          have JHM_s3019 : HM s3019 := HM_fm fs3019 (by decide) jjHM
          have JNW_s3019 : NW s3019 := NW_fm fs3019 (by decide) hq
          refine z_goto X (t := 137) rfl rfl (z_inc X (x := iv) (lv' := [(2, .int (Int32.ofInt (iv + 1))), (3, .int (Int32.ofInt (iC t 400 (iv).toNat))), (0, .ref (A 179)), (1, .int (Int32.ofInt xv))]) rfl (by decide) (List.Mem.tail _ (List.Mem.tail _ (List.Mem.tail _ (List.Mem.head _)))) (fun _ h => h) (z_goto X (t := 7) rfl rfl (WS_pq [2, 3, 0] (lv' := [(0, .ref (A 179)), (1, .int (Int32.ofInt xv)), (2, .int (Int32.ofInt (iv + 1)))]) rfl ?_)))
          exact ih _ xv (iv + 1) Is3019 Fs3019 JRLx_s3019 JHM_s3019 JNW_s3019 (by first | exact ⟨oq_54f49eb5 hi.1, oq_f6204d84 g3004 hi.2.2, oq_86ef0b17 ws3019_105 hi.2.2⟩ | omega) (by first | exact qk_me hm (by decide) (oq_ccc5e5e0 g3004 hi.2.2) | omega) kx
  refine z_aload_n X (x := A 179) rfl (List.Mem.head _) (z_load_n X (x := x) rfl (List.Mem.tail _ (List.Mem.head _)) (zcV_v2 X E 179 (As := [.int (Int32.ofInt x)]) (st := []) rfl rfl rfl rfl (k_asTold G I jRLx (by first | exact ⟨p0.1, p0.2⟩ | omega)) rfl (Nat.le_of_ble_eq_true rfl) (fun s3 Is3 Fs3 JRLx_s3 JNQ_s3 hps3 => ?_)))
  have Gs3 := fm_tq F Fs3 rfl rfl
  have JRLx_s3 : RLx s3 := RLx_fm Fs3 (by decide) jRLx
  have JHM_s3 : HM s3 := HM_fm Fs3 (by decide) jHM
  have ws3_105 : iI s3 105 = iI s 105 := fm_iq Fs3 rfl
  have ws3_90 : iI s3 90 = iI s 90 := fm_iq Fs3 rfl
  have JNW_s3 : NW s3 := NW_of JNQ_s3 JRLx_s3
  refine z_const X rfl (z_store_n X (lv' := [(2, .int (Int32.ofInt 0)), (0, .ref (A 179)), (1, .int (Int32.ofInt x))]) rfl (by decide) (fun _ h => h) (WS_pq [1, 2, 0] (lv' := [(0, .ref (A 179)), (1, .int (Int32.ofInt x)), (2, .int (Int32.ofInt 0))]) rfl (L7 ((8 - 0 : Int).toNat + 1) s3 x 0 Is3 Gs3 JRLx_s3 JHM_s3 JNW_s3 (by first | exact ⟨by decide, by decide, oq_86ef0b17 ws3_105 p1⟩ | omega) (Nat.lt_succ_self _) ?_)))
  intro s5 x6 Is5 Fs5 JRLx_s5 JHM_s5 Qs5 hs5
  have b7 := bi_105 Is5
  have b8 := bi_90 Is5
  exact w_vret X.1 q hRt (ax_d X (show cdA 284 143 = some (.return_, 1, 0, 0, 0) from rfl)) (Nat.zero_le _) (Nat.zero_le _) ⟨_, rfl, Is5, Fs5, JRLx_s5, Qs5, rfl, trivial⟩
end M63
