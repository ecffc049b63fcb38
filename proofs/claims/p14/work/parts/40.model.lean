theorem oq_71f4b7b9 {a0 a1 a2 : Int} (h0 : a0 = a1) (h1 : a2 < a1) : a2 < a0 := by omega
theorem oq_42fe298a {a0 : Int} (h0 : a0 ≤ 128) (h1 : 128 ≤ a0) : a0 = 128 := by omega
theorem oq_cd47680f {a0 a1 : Int} (h0 : a0 < a1) (h1 : a1 ≤ 24) : a0 ≤ 2147483647 := by omega
theorem oq_0152e793 {a0 a1 : Int} (h0 : a0 ≠ (a1 - 1)) (h1 : a1 ≤ 24) (h2 : a0 < a1) : (a0 + 1) < 24 := by omega
theorem oq_fa8c9353 {a0 a1 : Int} (h0 : a0 ≠ (a1 - 1)) (h1 : a1 ≤ 24) (h2 : a0 < a1) : ((a0 + 1) : Int).toNat < 24 := by omega
theorem oq_b982df86 {a0 : Int} (h0 : a0 ≤ 5) : a0 ≤ 6 := by omega
theorem oq_35f9a344 {a0 a1 : Int} (h0 : a0 = (a1 - 1)) (h1 : a1 ≠ 1) (h2 : 0 ≤ a0) : 0 ≤ (a0 - 1) := by omega
theorem oq_514020d0 {a0 a1 : Int} (h0 : a0 = (a1 - 1)) (h1 : a1 ≤ 24) : (a0 - 1) < 24 := by omega
theorem oq_4b444e5a {a0 a1 : Int} (h0 : a0 = (a1 - 1)) (h1 : a1 ≤ 24) : ((a0 - 1) : Int).toNat < 24 := by omega
theorem oq_9cfd8ba8 {a0 a1 : Int} (h0 : a0 = (a1 - 1)) (h1 : a1 ≤ 24) : a0 < 24 := by omega
theorem oq_bfe9ed15 {a0 a1 : Int} (h0 : a0 = (a1 - 1)) (h1 : a1 ≤ 24) : (a0 : Int).toNat < 24 := by omega
/-! The model: the ways as they are told -/
theorem fm_c {L M : List Nat} {s t : PS} {a : Nat} (F : Fm L M s t) (h : a ∉ M) {j : Nat} : iC t a j = iC s a j := congrArg Int32.toInt (congrFun (F.2.1 a h) j)
theorem iC_a {s : PS} {a b i j : Nat} {x : Int32} (h : b ≠ a) : iC (uC s a i x) b j = iC s b j := congrArg Int32.toInt (congrFun (show (if b = a then upd (s.2.2.1 a) i x else s.2.2.1 b) = s.2.2.1 b from if_neg h) j)
/-- a stream's way is no shorter than the places on it -/
def RW1 (s : PS) (j : Nat) : Prop := 1 ≤ iC s 162 j ∧ ∀ c, c < 128 → iC s (178 + j) c < iC s 162 j
def RLx (s : PS) : Prop := ∀ j : Nat, j < 12 → (j : Int) < iI s 90 → RW1 s j
def NW1 (s : PS) (j : Nat) : Prop := 1 ≤ iC s 202 j ∧ ∀ c, c < 128 → iC s (216 + j) c < iC s 202 j
def NW (s : PS) : Prop := ∀ j : Nat, j < 12 → (j : Int) < iI s 90 → NW1 s j
def NQ1 (s : PS) (j : Nat) : Prop := iC s 202 j = iC s 162 j ∧ (∀ k : Nat, k < 24 → (k : Int) < iC s 162 j → iC s (204 + j) k = iC s (166 + j) k) ∧ ∀ c, c < 128 → iC s (216 + j) c = iC s (178 + j) c
def NQ (s : PS) : Prop := ∀ j : Nat, j < 12 → (j : Int) < iI s 90 → NQ1 s j
theorem RLx_fm {L M : List Nat} {s t : PS} (F : Fm L M s t) (h : 90 ∉ L ∧ 162 ∉ M ∧ ∀ i, i < 12 → 178 + i ∉ M) (r : RLx s) : RLx t := fun j hj hs => by
  rw [fm_i F h.1] at hs
  obtain ⟨r1, r2⟩ := r j hj hs
  exact ⟨by rw [fm_c F h.2.1]; exact r1, fun c hc => by rw [fm_c F h.2.1, fm_c F (h.2.2 j hj)]; exact r2 c hc⟩
theorem NW_fm {L M : List Nat} {s t : PS} (F : Fm L M s t) (h : 90 ∉ L ∧ 202 ∉ M ∧ ∀ i, i < 12 → 216 + i ∉ M) (r : NW s) : NW t := fun j hj hs => by
  rw [fm_i F h.1] at hs
  obtain ⟨r1, r2⟩ := r j hj hs
  exact ⟨by rw [fm_c F h.2.1]; exact r1, fun c hc => by rw [fm_c F h.2.1, fm_c F (h.2.2 j hj)]; exact r2 c hc⟩
theorem NQ1_fm {L M : List Nat} {s t : PS} {j : Nat} (F : Fm L M s t) (h : 162 ∉ M ∧ 202 ∉ M ∧ ∀ i, i < 12 → 178 + i ∉ M ∧ 216 + i ∉ M ∧ 166 + i ∉ M ∧ 204 + i ∉ M) (hj : j < 12) (r : NQ1 s j) : NQ1 t j := by
  obtain ⟨h1, h2, h3⟩ := h
  obtain ⟨a, b, c, d⟩ := h3 j hj
  exact ⟨by rw [fm_c F h1, fm_c F h2]; exact r.1, fun k hk h => by rw [fm_c F h1] at h; rw [fm_c F d, fm_c F c]; exact r.2.1 k hk h, fun i hi => by rw [fm_c F a, fm_c F b]; exact r.2.2 i hi⟩
theorem NQ_fm {L M : List Nat} {s t : PS} (F : Fm L M s t) (h : 90 ∉ L ∧ 162 ∉ M ∧ 202 ∉ M ∧ ∀ i, i < 12 → 178 + i ∉ M ∧ 216 + i ∉ M ∧ 166 + i ∉ M ∧ 204 + i ∉ M) (r : NQ s) : NQ t := fun j hj hs => by
  rw [fm_i F h.1] at hs
  exact NQ1_fm F h.2 hj (r j hj hs)
theorem NQ1_st {s : PS} {a i j : Nat} {x : Int32} (ha : 162 ≠ a ∧ 166 + j ≠ a ∧ 178 + j ≠ a ∧ (202 ≠ a ∨ j ≠ i) ∧ 204 + j ≠ a ∧ 216 + j ≠ a) (r : NQ1 s j) : NQ1 (uC s a i x) j := by
  obtain ⟨h1, h2, h3, h4, h5, h6⟩ := ha
  refine ⟨?_, fun k hk h => ?_, fun c hc => ?_⟩
  · rw [iC_a h1]
    rcases Nat.decEq 202 a with q | q
    · rw [iC_a q]; exact r.1
    · subst q; rw [iC_n (h4.resolve_left (fun z => z rfl))]; exact r.1
  · rw [iC_a h1] at h
    rw [iC_a h2, iC_a h5]; exact r.2.1 k hk h
  · rw [iC_a h3, iC_a h6]; exact r.2.2 c hc
theorem NW_of {s : PS} (h : NQ s) (r : RLx s) : NW s := fun j hj hs => by
  obtain ⟨r1, r2⟩ := r j hj hs
  obtain ⟨t1, -, t3⟩ := h j hj hs
  exact ⟨by rw [t1]; exact r1, fun c hc => by rw [t1, t3 c hc]; exact r2 c hc⟩
section M40
variable {l : Launch} {s0 : State} {D : va_G} {tys : List (ClassId × FieldType)} {a0 : Array Value} {A : Nat → Nat} {dT : Nat → ClassId} {s : PS}
theorem k_waysAsTold (G : GX l s0 D tys a0 dT) (I : Bd s) (jRLx : RLx s)  : CT l s0 D A dT 223 (rmN 223) [.ref (A 179)] s (fun o t => Bd t ∧ Fm [] [202, 204, 205, 206, 207, 208, 209, 210, 211, 212, 213, 214, 215, 216, 217, 218, 219, 220, 221, 222, 223, 224, 225, 226, 227] s t ∧ RLx t ∧ NQ t ∧ o = .inl none ∧ (True)) := by
  refine ct_of G (by decide) (Nat.le_of_ble_eq_true rfl) (fun k X E hRt hXt q => ?_)
  show WS k 0 [(0, .ref (A 179))] [] _ 0 0
  have F : Fm [] [202, 204, 205, 206, 207, 208, 209, 210, 211, 212, 213, 214, 215, 216, 217, 218, 219, 220, 221, 222, 223, 224, 225, 226, 227] s s := fm_rf _ _ s
  have b1 := bi_90 I
  have L24 : ∀ (n : Nat) (t : PS) (c0 kk : Int), Bd t → Fm [] [202, 204, 205, 206, 207, 208, 209, 210, 211, 212, 213, 214, 215, 216, 217, 218, 219, 220, 221, 222, 223, 224, 225, 226, 227] s t → RLx t → ((∀ j : Nat, j < 12 → (j : Int) < c0 → NQ1 t j) ∧ (iC t 202 (c0 : Int).toNat = iC t 162 (c0 : Int).toNat) ∧ ∀ i : Nat, i < 24 → (i : Int) < kk → iC t (204 + (c0 : Int).toNat) i = iC t (166 + (c0 : Int).toNat) i) → (0 ≤ c0 ∧ c0 < iI t 90 ∧ 0 ≤ kk ∧ kk ≤ 24) → (24 - kk : Int).toNat < n → (∀ (t' : PS) (kk' : Int), Bd t' → Fm [] [202, 204, 205, 206, 207, 208, 209, 210, 211, 212, 213, 214, 215, 216, 217, 218, 219, 220, 221, 222, 223, 224, 225, 226, 227] s t' → RLx t' → ((∀ j : Nat, j < 12 → (j : Int) < c0 → NQ1 t' j) ∧ (iC t' 202 (c0 : Int).toNat = iC t' 162 (c0 : Int).toNat) ∧ ∀ i : Nat, i < 24 → (i : Int) < kk' → iC t' (204 + (c0 : Int).toNat) i = iC t' (166 + (c0 : Int).toNat) i) → (0 ≤ c0 ∧ c0 < iI t' 90 ∧ 0 ≤ kk' ∧ iC t' 162 (c0 : Int).toNat ≤ kk') → WS k 56 [(0, .ref (A 179)), (1, .int (Int32.ofInt c0)), (2, .int (Int32.ofInt kk'))] [] (Wd A dT t') 0 0) → WS k 24 [(0, .ref (A 179)), (1, .int (Int32.ofInt c0)), (2, .int (Int32.ofInt kk))] [] (Wd A dT t) 0 0 := by
    intro n
    induction n with
    | zero =>
      intro t c0 kk I F jjRLx hq hi hm kx
      exact absurd hm (Nat.not_lt_zero _)
    | succ n ih =>
      intro t c0 kk I F jjRLx hq hi hm kx
      have b1001 := bi_90 I
      refine z_load_n X (x := kk) rfl (List.Mem.tail _ (List.Mem.tail _ (List.Mem.head _))) (z_aload_n X (x := A 179) rfl (List.Mem.head _) (s_getR X 179 rfl (c518_ok rfl) rfl rfl (z_load_n X (x := c0) rfl (List.Mem.tail _ (List.Mem.head _)) (z_ald X 185 rfl (c518_ok rfl) rfl (by first | exact hi.1 | omega) (show c0 < 12 by first | exact oq_f36e82a8 hi.2.1 b1001.2 | omega) (cbig_ok rfl) ?_))))
      have b1002 := bc_162 I (show (c0).toNat < 12 by first | exact oq_2dac6850 hi.2.1 b1001.2 | omega)
      refine z_icmp_ge X (t := 56) rfl rfl ⟨by first | exact oq_fa4e5087 hi.2.2.1 | omega, by first | exact oq_5bcd337f hi.2.2.2 | omega⟩ (rng_to _) (fun g1003 => ?_) (fun g1003 => ?_)
      ·
        refine WS_pq [0, 1, 2] (lv' := [(0, .ref (A 179)), (1, .int (Int32.ofInt c0)), (2, .int (Int32.ofInt kk))]) rfl ?_
        exact kx _ kk I F jjRLx hq (by first | exact ⟨hi.1, hi.2.1, hi.2.2.1, g1003⟩ | omega)
      ·
        refine z_aload_n X (x := A 179) rfl (List.Mem.head _) (s_getR X 179 rfl (c518_ok rfl) rfl rfl (z_load_n X (x := c0) rfl (List.Mem.tail _ (List.Mem.head _)) (z_aald X rw_230 rfl (by first | exact hi.1 | omega) (show c0 < 12 by first | exact oq_f36e82a8 hi.2.1 b1001.2 | omega) (by decide) (z_load_n X (x := kk) rfl (List.Mem.tail _ (List.Mem.tail _ (List.Mem.head _))) (z_aload_n X (x := A 179) rfl (List.Mem.head _) (s_getR X 179 rfl (c518_ok rfl) rfl rfl (z_load_n X (x := c0) rfl (List.Mem.tail _ (List.Mem.head _)) (z_aald X rw_189 rfl (by first | exact hi.1 | omega) (show c0 < 12 by first | exact oq_f36e82a8 hi.2.1 b1001.2 | omega) (by decide) (z_load_n X (x := kk) rfl (List.Mem.tail _ (List.Mem.tail _ (List.Mem.head _))) (z_ald2 X rw_189 rfl (show (c0 : Int).toNat < 12 by first | exact oq_2dac6850 hi.2.1 b1001.2 | omega) (by first | exact hi.2.2.1 | omega) (show kk < 24 by first | exact oq_8ff7beb9 g1003 b1002.2 | omega) (by decide) ?_))))))))))
        have b1004 : (0 : Int) ≤ (iC t (166 + (c0 : Int).toNat) (kk : Int).toNat) ∧ (iC t (166 + (c0 : Int).toNat) (kk : Int).toNat) ≤ 127 := rw_bd rw_189 I (show (c0 : Int).toNat < 12 by first | exact oq_2dac6850 hi.2.1 b1001.2 | omega) (show (kk : Int).toNat < 24 by first | exact oq_9e668fc9 g1003 b1002.2 | omega)
        refine z_ast2 X rw_230 rfl (show (c0 : Int).toNat < 12 by first | exact oq_2dac6850 hi.2.1 b1001.2 | omega) (by first | exact hi.2.2.1 | omega) (show kk < 24 by first | exact oq_8ff7beb9 g1003 b1002.2 | omega) (by decide) (wd_gen (fun s1005 hs1005 => ?_))
        have Is1005 : Bd s1005 := eqB hs1005 (rw_st rw_230 I (show (c0 : Int).toNat < 12 by first | exact oq_2dac6850 hi.2.1 b1001.2 | omega) (show (0 : Int) ≤ (iC t (166 + (c0 : Int).toNat) (kk : Int).toNat) ∧ (iC t (166 + (c0 : Int).toNat) (kk : Int).toNat) ≤ 127 by first | exact ⟨b1004.1, b1004.2⟩ | omega) (rng_to _))
        have Fs1005 := eqF hs1005 (fm_C (i := (kk : Int).toNat) (x := Int32.ofInt (iC t (166 + (c0 : Int).toNat) (kk : Int).toNat)) F ((show ∀ j, j < 12 → 204 + j ∈ _ by decide) (c0 : Int).toNat (by first | exact oq_2dac6850 hi.2.1 b1001.2 | omega)))
        have ws1005_90 : iI s1005 90 = iI t 90 := eqI hs1005 rfl
        have fs1005 : Fm [] [204, 205, 206, 207, 208, 209, 210, 211, 212, 213, 214, 215] t s1005 := by rw [hs1005]; exact fm_C (fm_rf _ _ _) ((show ∀ j, j < 12 → 204 + j ∈ _ by decide) (c0 : Int).toNat (by first | exact oq_2dac6850 hi.2.1 b1001.2 | omega))
        have JRLx_s1005 : RLx s1005 := RLx_fm fs1005 (by decide) jjRLx
        refine z_inc X (x := kk) (lv' := [(2, .int (Int32.ofInt (kk + 1))), (0, .ref (A 179)), (1, .int (Int32.ofInt c0))]) rfl (by decide) (List.Mem.tail _ (List.Mem.tail _ (List.Mem.head _))) (fun _ h => h) (z_goto X (t := 24) rfl rfl (WS_pq [1, 2, 0] (lv' := [(0, .ref (A 179)), (1, .int (Int32.ofInt c0)), (2, .int (Int32.ofInt (kk + 1)))]) rfl ?_))
        have QKs1005 : (∀ j : Nat, j < 12 → (j : Int) < c0 → NQ1 s1005 j) ∧ (iC s1005 202 (c0 : Int).toNat = iC s1005 162 (c0 : Int).toNat) ∧ ∀ i : Nat, i < 24 → (i : Int) < (kk + 1) → iC s1005 (204 + (c0 : Int).toNat) i = iC s1005 (166 + (c0 : Int).toNat) i := by
          refine ⟨fun j hj h => by rw [hs1005]; exact NQ1_st (by omega) (hq.1 j hj h), by rw [hs1005, iC_a (by omega), iC_a (by omega)]; exact hq.2.1, fun i hi h => ?_⟩
          by_cases e : i = (kk : Int).toNat
          · rw [e, hs1005, iC_u ⟨by omega, by omega⟩, iC_a (by omega)]
          · rw [hs1005, iC_n e, iC_a (by omega)]; exact hq.2.2 i hi (by omega)
        exact ih _ c0 (kk + 1) Is1005 Fs1005 JRLx_s1005 QKs1005 (by first | exact ⟨hi.1, oq_71f4b7b9 ws1005_90 hi.2.1, oq_54f49eb5 hi.2.2.1, oq_41473be0 g1003 b1002.2⟩ | omega) (by first | exact qk_me hm (by decide) (oq_9dea93e6 g1003 b1002.2) | omega) kx
  have L58 : ∀ (n : Nat) (t : PS) (c0 c : Int), Bd t → Fm [] [202, 204, 205, 206, 207, 208, 209, 210, 211, 212, 213, 214, 215, 216, 217, 218, 219, 220, 221, 222, 223, 224, 225, 226, 227] s t → RLx t → ((∀ j : Nat, j < 12 → (j : Int) < c0 → NQ1 t j) ∧ (iC t 202 (c0 : Int).toNat = iC t 162 (c0 : Int).toNat) ∧ (∀ i : Nat, i < 24 → (i : Int) < iC t 162 (c0 : Int).toNat → iC t (204 + (c0 : Int).toNat) i = iC t (166 + (c0 : Int).toNat) i) ∧ ∀ i : Nat, i < 128 → (i : Int) < c → iC t (216 + (c0 : Int).toNat) i = iC t (178 + (c0 : Int).toNat) i) → (0 ≤ c0 ∧ c0 < iI t 90 ∧ 0 ≤ c ∧ c ≤ 128) → (128 - c : Int).toNat < n → (∀ (t' : PS) (c' : Int), Bd t' → Fm [] [202, 204, 205, 206, 207, 208, 209, 210, 211, 212, 213, 214, 215, 216, 217, 218, 219, 220, 221, 222, 223, 224, 225, 226, 227] s t' → RLx t' → ((∀ j : Nat, j < 12 → (j : Int) < c0 → NQ1 t' j) ∧ (iC t' 202 (c0 : Int).toNat = iC t' 162 (c0 : Int).toNat) ∧ (∀ i : Nat, i < 24 → (i : Int) < iC t' 162 (c0 : Int).toNat → iC t' (204 + (c0 : Int).toNat) i = iC t' (166 + (c0 : Int).toNat) i) ∧ ∀ i : Nat, i < 128 → (i : Int) < c' → iC t' (216 + (c0 : Int).toNat) i = iC t' (178 + (c0 : Int).toNat) i) → (0 ≤ c0 ∧ c0 < iI t' 90 ∧ c' = 128) → WS k 87 [(0, .ref (A 179)), (1, .int (Int32.ofInt c0)), (2, .int (Int32.ofInt c'))] [] (Wd A dT t') 0 0) → WS k 58 [(0, .ref (A 179)), (1, .int (Int32.ofInt c0)), (2, .int (Int32.ofInt c))] [] (Wd A dT t) 0 0 := by
    intro n
    induction n with
    | zero =>
      intro t c0 c I F jjRLx hq hi hm kx
      exact absurd hm (Nat.not_lt_zero _)
    | succ n ih =>
      intro t c0 c I F jjRLx hq hi hm kx
      have b2001 := bi_90 I
      refine z_load_n X (x := c) rfl (List.Mem.tail _ (List.Mem.tail _ (List.Mem.head _))) (z_sipush X rfl (z_icmp_ge X (t := 87) rfl rfl ⟨by first | exact oq_fa4e5087 hi.2.2.1 | omega, by first | exact oq_4ee82282 hi.2.2.2 | omega⟩ (by decide) (fun g2002 => ?_) (fun g2002 => ?_)))
      ·
        refine WS_pq [0, 1, 2] (lv' := [(0, .ref (A 179)), (1, .int (Int32.ofInt c0)), (2, .int (Int32.ofInt c))]) rfl ?_
        exact kx _ c I F jjRLx hq (by first | exact ⟨hi.1, hi.2.1, oq_42fe298a hi.2.2.2 g2002⟩ | omega)
      ·
        refine z_aload_n X (x := A 179) rfl (List.Mem.head _) (s_getR X 179 rfl (c518_ok rfl) rfl rfl (z_load_n X (x := c0) rfl (List.Mem.tail _ (List.Mem.head _)) (z_aald X rw_243 rfl (by first | exact hi.1 | omega) (show c0 < 12 by first | exact oq_f36e82a8 hi.2.1 b2001.2 | omega) (by decide) (z_load_n X (x := c) rfl (List.Mem.tail _ (List.Mem.tail _ (List.Mem.head _))) (z_aload_n X (x := A 179) rfl (List.Mem.head _) (s_getR X 179 rfl (c518_ok rfl) rfl rfl (z_load_n X (x := c0) rfl (List.Mem.tail _ (List.Mem.head _)) (z_aald X rw_202 rfl (by first | exact hi.1 | omega) (show c0 < 12 by first | exact oq_f36e82a8 hi.2.1 b2001.2 | omega) (by decide) (z_load_n X (x := c) rfl (List.Mem.tail _ (List.Mem.tail _ (List.Mem.head _))) (z_ald2 X rw_202 rfl (show (c0 : Int).toNat < 12 by first | exact oq_2dac6850 hi.2.1 b2001.2 | omega) (by first | exact hi.2.2.1 | omega) (show c < 128 by first | exact g2002 | omega) (by decide) ?_))))))))))
        have b2003 : ((-1) : Int) ≤ (iC t (178 + (c0 : Int).toNat) (c : Int).toNat) ∧ (iC t (178 + (c0 : Int).toNat) (c : Int).toNat) ≤ 23 := rw_bd rw_202 I (show (c0 : Int).toNat < 12 by first | exact oq_2dac6850 hi.2.1 b2001.2 | omega) (show (c : Int).toNat < 128 by first | exact oq_afb89947 g2002 | omega)
        refine z_ast2 X rw_243 rfl (show (c0 : Int).toNat < 12 by first | exact oq_2dac6850 hi.2.1 b2001.2 | omega) (by first | exact hi.2.2.1 | omega) (show c < 128 by first | exact g2002 | omega) (by decide) (wd_gen (fun s2004 hs2004 => ?_))
        have Is2004 : Bd s2004 := eqB hs2004 (rw_st rw_243 I (show (c0 : Int).toNat < 12 by first | exact oq_2dac6850 hi.2.1 b2001.2 | omega) (show ((-1) : Int) ≤ (iC t (178 + (c0 : Int).toNat) (c : Int).toNat) ∧ (iC t (178 + (c0 : Int).toNat) (c : Int).toNat) ≤ 23 by first | exact ⟨b2003.1, b2003.2⟩ | omega) (rng_to _))
        have Fs2004 := eqF hs2004 (fm_C (i := (c : Int).toNat) (x := Int32.ofInt (iC t (178 + (c0 : Int).toNat) (c : Int).toNat)) F ((show ∀ j, j < 12 → 216 + j ∈ _ by decide) (c0 : Int).toNat (by first | exact oq_2dac6850 hi.2.1 b2001.2 | omega)))
        have ws2004_90 : iI s2004 90 = iI t 90 := eqI hs2004 rfl
        have fs2004 : Fm [] [216, 217, 218, 219, 220, 221, 222, 223, 224, 225, 226, 227] t s2004 := by rw [hs2004]; exact fm_C (fm_rf _ _ _) ((show ∀ j, j < 12 → 216 + j ∈ _ by decide) (c0 : Int).toNat (by first | exact oq_2dac6850 hi.2.1 b2001.2 | omega))
        have JRLx_s2004 : RLx s2004 := RLx_fm fs2004 (by decide) jjRLx
        refine z_inc X (x := c) (lv' := [(2, .int (Int32.ofInt (c + 1))), (0, .ref (A 179)), (1, .int (Int32.ofInt c0))]) rfl (by decide) (List.Mem.tail _ (List.Mem.tail _ (List.Mem.head _))) (fun _ h => h) (z_goto X (t := 58) rfl rfl (WS_pq [1, 2, 0] (lv' := [(0, .ref (A 179)), (1, .int (Int32.ofInt c0)), (2, .int (Int32.ofInt (c + 1)))]) rfl ?_))
        have QCs2004 : (∀ j : Nat, j < 12 → (j : Int) < c0 → NQ1 s2004 j) ∧ (iC s2004 202 (c0 : Int).toNat = iC s2004 162 (c0 : Int).toNat) ∧ (∀ i : Nat, i < 24 → (i : Int) < iC s2004 162 (c0 : Int).toNat → iC s2004 (204 + (c0 : Int).toNat) i = iC s2004 (166 + (c0 : Int).toNat) i) ∧ ∀ i : Nat, i < 128 → (i : Int) < (c + 1) → iC s2004 (216 + (c0 : Int).toNat) i = iC s2004 (178 + (c0 : Int).toNat) i := by
          refine ⟨fun j hj h => by rw [hs2004]; exact NQ1_st (by omega) (hq.1 j hj h), by rw [hs2004, iC_a (by omega), iC_a (by omega)]; exact hq.2.1, fun i hi h => ?_, fun i hi h => ?_⟩
          · rw [hs2004, iC_a (by omega)] at h; rw [hs2004, iC_a (by omega), iC_a (by omega)]; exact hq.2.2.1 i hi h
          by_cases e : i = (c : Int).toNat
          · rw [e, hs2004, iC_u ⟨by omega, by omega⟩, iC_a (by omega)]
          · rw [hs2004, iC_n e, iC_a (by omega)]; exact hq.2.2.2 i hi (by omega)
        exact ih _ c0 (c + 1) Is2004 Fs2004 JRLx_s2004 QCs2004 (by first | exact ⟨hi.1, oq_71f4b7b9 ws2004_90 hi.2.1, oq_54f49eb5 hi.2.2.1, oq_d2afb425 g2002⟩ | omega) (by first | exact qk_me hm (by decide) (oq_c268b7bd g2002) | omega) kx
  have L2 : ∀ (n : Nat) (t : PS) (c0 : Int), Bd t → Fm [] [202, 204, 205, 206, 207, 208, 209, 210, 211, 212, 213, 214, 215, 216, 217, 218, 219, 220, 221, 222, 223, 224, 225, 226, 227] s t → RLx t → (∀ j : Nat, j < 12 → (j : Int) < c0 → NQ1 t j) → (0 ≤ c0 ∧ c0 ≤ 12) → (12 - c0 : Int).toNat < n → (∀ (t' : PS) (c0' : Int), Bd t' → Fm [] [202, 204, 205, 206, 207, 208, 209, 210, 211, 212, 213, 214, 215, 216, 217, 218, 219, 220, 221, 222, 223, 224, 225, 226, 227] s t' → RLx t' → (∀ j : Nat, j < 12 → (j : Int) < c0' → NQ1 t' j) → (iI t' 90 ≤ c0') → WS k 93 [(0, .ref (A 179)), (1, .int (Int32.ofInt c0'))] [] (Wd A dT t') 0 0) → WS k 2 [(0, .ref (A 179)), (1, .int (Int32.ofInt c0))] [] (Wd A dT t) 0 0 := by
    intro n
    induction n with
    | zero =>
      intro t c0 I F jjRLx hq hi hm kx
      exact absurd hm (Nat.not_lt_zero _)
    | succ n ih =>
      intro t c0 I F jjRLx hq hi hm kx
      have b3001 := bi_90 I
      refine z_load_n X (x := c0) rfl (List.Mem.tail _ (List.Mem.head _)) (z_aload_n X (x := A 179) rfl (List.Mem.head _) (z_getI X 179 rfl (c518_ok rfl) rfl rfl ?_))
      have b3002 := bi_90 I
      refine z_icmp_ge X (t := 93) rfl rfl ⟨by first | exact oq_fa4e5087 hi.1 | omega, by first | exact oq_78843a64 hi.2 | omega⟩ (rng_to _) (fun g3003 => ?_) (fun g3003 => ?_)
      ·
        refine WS_pq [0, 1] (lv' := [(0, .ref (A 179)), (1, .int (Int32.ofInt c0))]) rfl ?_
        exact kx _ c0 I F jjRLx hq (by first | exact g3003 | omega)
      ·
        refine z_aload_n X (x := A 179) rfl (List.Mem.head _) (s_getR X 179 rfl (c518_ok rfl) rfl rfl (z_load_n X (x := c0) rfl (List.Mem.tail _ (List.Mem.head _)) (z_aload_n X (x := A 179) rfl (List.Mem.head _) (s_getR X 179 rfl (c518_ok rfl) rfl rfl (z_load_n X (x := c0) rfl (List.Mem.tail _ (List.Mem.head _)) (z_ald X 185 rfl (c518_ok rfl) rfl (by first | exact hi.1 | omega) (show c0 < 12 by first | exact oq_f36e82a8 g3003 b3002.2 | omega) (cbig_ok rfl) ?_))))))
        have b3004 := bc_162 I (show (c0).toNat < 12 by first | exact oq_2dac6850 g3003 b3002.2 | omega)
        refine z_ast X 228 rfl (c518_ok rfl) rfl (by first | exact hi.1 | omega) (show c0 < 12 by first | exact oq_f36e82a8 g3003 b3002.2 | omega) (cbig_ok rfl) (wd_gen (fun s3005 hs3005 => ?_))
        have Is3005 : Bd s3005 := eqB hs3005 (bd_C I (show (0 : Int) ≤ (iC t 162 (c0).toNat) ∧ (iC t 162 (c0).toNat) ≤ 24 by first | exact ⟨b3004.1, b3004.2⟩ | omega) (rng_to _))
        have Fs3005 := eqF hs3005 (fm_C F (inl_ok (a := 202) rfl))
        have ws3005_90 : iI s3005 90 = iI t 90 := eqI hs3005 rfl
        have fs3005 : Fm [] [202] t s3005 := by rw [hs3005]; exact fm_C (fm_rf _ _ _) (show 202 ∈ _ by decide)
        have JRLx_s3005 : RLx s3005 := RLx_fm fs3005 (by decide) jjRLx
        refine z_const X rfl (z_store_n X (lv' := [(2, .int (Int32.ofInt 0)), (0, .ref (A 179)), (1, .int (Int32.ofInt c0))]) rfl (by decide) (fun _ h => h) (WS_pq [1, 2, 0] (lv' := [(0, .ref (A 179)), (1, .int (Int32.ofInt c0)), (2, .int (Int32.ofInt 0))]) rfl ?_))
        have QKs3005 : (∀ j : Nat, j < 12 → (j : Int) < c0 → NQ1 s3005 j) ∧ (iC s3005 202 (c0 : Int).toNat = iC s3005 162 (c0 : Int).toNat) ∧ ∀ i : Nat, i < 24 → (i : Int) < 0 → iC s3005 (204 + (c0 : Int).toNat) i = iC s3005 (166 + (c0 : Int).toNat) i := ⟨fun j hj h => by rw [hs3005]; exact NQ1_st (by omega) (hq j hj h), by rw [hs3005, iC_u ⟨by omega, by omega⟩, iC_a (by decide)], fun i _ h => absurd h (by omega)⟩
        refine L24 ((24 - 0 : Int).toNat + 1) s3005 c0 0 Is3005 Fs3005 JRLx_s3005 QKs3005 (by first | exact ⟨hi.1, oq_71f4b7b9 ws3005_90 g3003, by decide, by decide⟩ | omega) (Nat.lt_succ_self _) ?_
        intro s3006 x3007 Is3006 Fs3006 JRLx_s3006 Qs3006 hs3006
        have b3008 := bi_90 Is3006
        refine z_const X rfl (z_store_n X (lv' := [(2, .int (Int32.ofInt 0)), (0, .ref (A 179)), (1, .int (Int32.ofInt c0))]) rfl (by decide) (fun _ h => h) (WS_pq [1, 2, 0] (lv' := [(0, .ref (A 179)), (1, .int (Int32.ofInt c0)), (2, .int (Int32.ofInt 0))]) rfl (L58 ((128 - 0 : Int).toNat + 1) s3006 c0 0 Is3006 Fs3006 JRLx_s3006 ⟨Qs3006.1, Qs3006.2.1, fun i hi h => Qs3006.2.2 i hi (by omega), fun i _ h => absurd h (by omega)⟩ (by first | exact ⟨hs3006.1, hs3006.2.1, by decide, by decide⟩ | omega) (Nat.lt_succ_self _) ?_)))
        intro s3009 x3010 Is3009 Fs3009 JRLx_s3009 Qs3009 hs3009
        have b3011 := bi_90 Is3009
        refine z_inc X (x := c0) (lv' := [(1, .int (Int32.ofInt (c0 + 1))), (0, .ref (A 179)), (2, .int (Int32.ofInt x3010))]) rfl (by decide) (List.Mem.tail _ (List.Mem.head _)) (fun _ h => h) (z_goto X (t := 2) rfl rfl (WS_pq [1, 0] (lv' := [(0, .ref (A 179)), (1, .int (Int32.ofInt (c0 + 1)))]) rfl ?_))
        have QO3012 : ∀ j : Nat, j < 12 → (j : Int) < (c0 + 1) → NQ1 s3009 j := fun j hj h => by
          by_cases e : (j : Int) < c0
          · exact Qs3009.1 j hj e
          · have ej : j = (c0 : Int).toNat := by omega
            rw [ej]
            exact ⟨Qs3009.2.1, Qs3009.2.2.1, fun i hi => Qs3009.2.2.2 i hi (by omega)⟩
        exact ih _ (c0 + 1) Is3009 Fs3009 JRLx_s3009 QO3012 (by first | exact ⟨oq_54f49eb5 hs3009.1, oq_4dae995e hs3009.2.1 b3011.2⟩ | omega) (by first | exact qk_me hm (by decide) (oq_b575e8c1 hs3009.2.1 b3011.2) | omega) kx
  refine z_const X rfl (z_store_n X (lv' := [(1, .int (Int32.ofInt 0)), (0, .ref (A 179))]) rfl (by decide) (fun _ h => h) (WS_pq [1, 0] (lv' := [(0, .ref (A 179)), (1, .int (Int32.ofInt 0))]) rfl (L2 ((12 - 0 : Int).toNat + 1) s 0 I F jRLx (fun j _ h => absurd h (by omega)) (by first | exact ⟨by decide, by decide⟩ | omega) (Nat.lt_succ_self _) ?_)))
  intro s2 x3 Is2 Fs2 JRLx_s2 Qs2 hs2
  have b4 := bi_90 Is2
  have JNQ_s2 : NQ s2 := fun j hj h => Qs2 j hj (by omega)
  exact w_vret X.1 q hRt (ax_d X (show cdA 223 93 = some (.return_, 1, 0, 0, 0) from rfl)) (Nat.zero_le _) (Nat.zero_le _) ⟨_, rfl, Is2, Fs2, JRLx_s2, JNQ_s2, rfl, trivial⟩
theorem k_asTold (G : GX l s0 D tys a0 dT) (I : Bd s) (jRLx : RLx s) {x : Int} (p0 : 0 ≤ x ∧ x ≤ 23) : CT l s0 D A dT 222 (rmN 222) [.ref (A 179), .int (Int32.ofInt x)] s (fun o t => Bd t ∧ Fm [] [202, 204, 205, 206, 207, 208, 209, 210, 211, 212, 213, 214, 215, 216, 217, 218, 219, 220, 221, 222, 223, 224, 225, 226, 227, 203] s t ∧ RLx t ∧ NQ t ∧ o = .inl none ∧ (True)) := by
  refine ct_of G (by decide) (Nat.le_of_ble_eq_true rfl) (fun k X E hRt hXt q => ?_)
  show WS k 0 [(0, .ref (A 179)), (1, .int (Int32.ofInt x))] [] _ 0 0
  have F : Fm [] [202, 204, 205, 206, 207, 208, 209, 210, 211, 212, 213, 214, 215, 216, 217, 218, 219, 220, 221, 222, 223, 224, 225, 226, 227, 203] s s := fm_rf _ _ s
  refine z_aload_n X (x := A 179) rfl (List.Mem.head _) (zcV_v2 X E 179 (As := []) (st := []) rfl rfl rfl rfl (k_waysAsTold G I jRLx ) rfl (Nat.le_of_ble_eq_true rfl) (fun s1 Is1 Fs1 JRLx_s1 JNQ_s1 hps1 => ?_))
  have Gs1 := fm_tq F Fs1 rfl rfl
  have JRLx_s1 : RLx s1 := RLx_fm Fs1 (by decide) jRLx
  refine z_aload_n X (x := A 179) rfl (List.Mem.head _) (z_load_n X (x := x) rfl (List.Mem.tail _ (List.Mem.head _)) (zcV_v0 X E 179 (As := [.int (Int32.ofInt x)]) (st := []) rfl rfl rfl rfl (k_numbersIn G Is1 (by first | exact ⟨p0.1, p0.2⟩ | omega)) rfl (Nat.le_of_ble_eq_true rfl) (fun s3 Is3 Fs3 hps3 => ?_)))
  have Gs3 := fm_tq Gs1 Fs3 rfl rfl
  have JRLx_s3 : RLx s3 := RLx_fm Fs3 (by decide) JRLx_s1
  have JNQ_s3 : NQ s3 := NQ_fm Fs3 (by decide) JNQ_s1
  exact w_vret X.1 q hRt (ax_d X (show cdA 222 9 = some (.return_, 1, 0, 0, 0) from rfl)) (Nat.zero_le _) (Nat.zero_le _) ⟨_, rfl, Is3, Gs3, JRLx_s3, JNQ_s3, rfl, trivial⟩
theorem k_goes (G : GX l s0 D tys a0 dT) (I : Bd s) {x y : Int} (p0 : 0 ≤ x ∧ x ≤ 11) (p1 : 0 ≤ y ∧ y < iC s 202 (x : Int).toNat) : CT l s0 D A dT 226 (rmN 226) [.ref (A 179), .int (Int32.ofInt x), .int (Int32.ofInt y)] s (fun o t => Bd t ∧ Fm [] [] s t ∧ ∃ e, o = .inl (some (.int (Int32.ofInt e))) ∧ rng e ∧ (0 ≤ e ∧ e ≤ 6)) := by
  refine ct_of G (by decide) (Nat.le_of_ble_eq_true rfl) (fun k X E hRt hXt q => ?_)
  show WS k 0 [(0, .ref (A 179)), (1, .int (Int32.ofInt x)), (2, .int (Int32.ofInt y))] [] _ 0 0
  have F : Fm [] [] s s := fm_rf _ _ s
  refine z_aload_n X (x := A 179) rfl (List.Mem.head _) (s_getR X 179 rfl (c518_ok rfl) rfl rfl (z_load_n X (x := x) rfl (List.Mem.tail _ (List.Mem.head _)) (z_ald X 228 rfl (c518_ok rfl) rfl (by first | exact p0.1 | omega) (show x < 12 by first | exact oq_0ddfcfee p0.2 | omega) (cbig_ok rfl) ?_)))
  have b1 := bc_202 I (show (x).toNat < 12 by first | exact oq_9c5fa447 p0.2 | omega)
  refine z_const X rfl (z_icmp_ne X (t := 15) rfl rfl (rng_to _) (by decide) (fun g2 => ?_) (fun g2 => ?_))
  ·
    refine z_load_n X (x := y) rfl (List.Mem.tail _ (List.Mem.tail _ (List.Mem.head _))) (z_aload_n X (x := A 179) rfl (List.Mem.head _) (s_getR X 179 rfl (c518_ok rfl) rfl rfl (z_load_n X (x := x) rfl (List.Mem.tail _ (List.Mem.head _)) (z_ald X 228 rfl (c518_ok rfl) rfl (by first | exact p0.1 | omega) (show x < 12 by first | exact oq_0ddfcfee p0.2 | omega) (cbig_ok rfl) ?_))))
    have b3 := bc_202 I (show (x).toNat < 12 by first | exact oq_9c5fa447 p0.2 | omega)
    refine z_const X rfl (z_sub X rfl (z_icmp_ne X (t := 51) rfl rfl ⟨by first | exact oq_fa4e5087 p1.1 | omega, by first | exact oq_cd47680f p1.2 b3.2 | omega⟩ ⟨by first | exact oq_c1e961c7 b3.1 | omega, by first | exact oq_0332e1ab b3.2 | omega⟩ (fun g4 => ?_) (fun g4 => ?_)))
    ·
      refine z_aload_n X (x := A 179) rfl (List.Mem.head _) (s_getR X 179 rfl (c518_ok rfl) rfl rfl (z_load_n X (x := x) rfl (List.Mem.tail _ (List.Mem.head _)) (z_aald X rw_230 rfl (by first | exact p0.1 | omega) (show x < 12 by first | exact oq_0ddfcfee p0.2 | omega) (by decide) (z_load_n X (x := y) rfl (List.Mem.tail _ (List.Mem.tail _ (List.Mem.head _))) (z_ald2 X rw_230 rfl (show (x : Int).toNat < 12 by first | exact oq_9c5fa447 p0.2 | omega) (by first | exact p1.1 | omega) (show y < 24 by first | exact oq_8ff7beb9 p1.2 b3.2 | omega) (by decide) ?_)))))
      have b5 : (0 : Int) ≤ (iC s (204 + (x : Int).toNat) (y : Int).toNat) ∧ (iC s (204 + (x : Int).toNat) (y : Int).toNat) ≤ 127 := rw_bd rw_230 I (show (x : Int).toNat < 12 by first | exact oq_9c5fa447 p0.2 | omega) (show (y : Int).toNat < 24 by first | exact oq_9e668fc9 p1.2 b3.2 | omega)
      refine z_aload_n X (x := A 179) rfl (List.Mem.head _) (s_getR X 179 rfl (c518_ok rfl) rfl rfl (z_load_n X (x := x) rfl (List.Mem.tail _ (List.Mem.head _)) (z_aald X rw_230 rfl (by first | exact p0.1 | omega) (show x < 12 by first | exact oq_0ddfcfee p0.2 | omega) (by decide) (z_load_n X (x := y) rfl (List.Mem.tail _ (List.Mem.tail _ (List.Mem.head _))) (z_const X rfl (z_add X rfl (z_ald2 X rw_230 rfl (show (x : Int).toNat < 12 by first | exact oq_9c5fa447 p0.2 | omega) (by first | exact oq_54f49eb5 p1.1 | omega) (show (y + 1) < 24 by first | exact oq_0152e793 g4 b3.2 p1.2 | omega) (by decide) ?_)))))))
      have b6 : (0 : Int) ≤ (iC s (204 + (x : Int).toNat) ((y + 1) : Int).toNat) ∧ (iC s (204 + (x : Int).toNat) ((y + 1) : Int).toNat) ≤ 127 := rw_bd rw_230 I (show (x : Int).toNat < 12 by first | exact oq_9c5fa447 p0.2 | omega) (show ((y + 1) : Int).toNat < 24 by first | exact oq_fa8c9353 g4 b3.2 p1.2 | omega)
      refine zcS_i0 X E (As := [.int (Int32.ofInt (iC s (204 + (x : Int).toNat) (y : Int).toNat)), .int (Int32.ofInt (iC s (204 + (x : Int).toNat) ((y + 1) : Int).toNat))]) (st := []) rfl rfl (k_stepOf G I (by first | exact ⟨b5.1, b5.2⟩ | omega) (by first | exact ⟨b6.1, b6.2⟩ | omega)) rfl (Nat.le_of_ble_eq_true rfl) (fun s7 e8 Is7 Fs7 hrs7 hps7 => ?_)
      have Gs7 := fm_tq F Fs7 rfl rfl
      exact w_iret X.1 q hRt rfl (ax_d X (show cdA 226 72 = some (.ireturn, 1, 0, 0, 0) from rfl)) (Nat.zero_le _) (Nat.zero_le _) ⟨_, rfl, Is7, Gs7, e8, rfl, hrs7, by first | exact ⟨hps7.1, oq_b982df86 hps7.2⟩ | omega⟩
    ·
      refine z_aload_n X (x := A 179) rfl (List.Mem.head _) (s_getR X 179 rfl (c518_ok rfl) rfl rfl (z_load_n X (x := x) rfl (List.Mem.tail _ (List.Mem.head _)) (z_aald X rw_230 rfl (by first | exact p0.1 | omega) (show x < 12 by first | exact oq_0ddfcfee p0.2 | omega) (by decide) (z_load_n X (x := y) rfl (List.Mem.tail _ (List.Mem.tail _ (List.Mem.head _))) (z_const X rfl (z_sub X rfl (z_ald2 X rw_230 rfl (show (x : Int).toNat < 12 by first | exact oq_9c5fa447 p0.2 | omega) (by first | exact oq_35f9a344 g4 g2 p1.1 | omega) (show (y - 1) < 24 by first | exact oq_514020d0 g4 b3.2 | omega) (by decide) ?_)))))))
      have b9 : (0 : Int) ≤ (iC s (204 + (x : Int).toNat) ((y - 1) : Int).toNat) ∧ (iC s (204 + (x : Int).toNat) ((y - 1) : Int).toNat) ≤ 127 := rw_bd rw_230 I (show (x : Int).toNat < 12 by first | exact oq_9c5fa447 p0.2 | omega) (show ((y - 1) : Int).toNat < 24 by first | exact oq_4b444e5a g4 b3.2 | omega)
      refine z_aload_n X (x := A 179) rfl (List.Mem.head _) (s_getR X 179 rfl (c518_ok rfl) rfl rfl (z_load_n X (x := x) rfl (List.Mem.tail _ (List.Mem.head _)) (z_aald X rw_230 rfl (by first | exact p0.1 | omega) (show x < 12 by first | exact oq_0ddfcfee p0.2 | omega) (by decide) (z_load_n X (x := y) rfl (List.Mem.tail _ (List.Mem.tail _ (List.Mem.head _))) (z_ald2 X rw_230 rfl (show (x : Int).toNat < 12 by first | exact oq_9c5fa447 p0.2 | omega) (by first | exact p1.1 | omega) (show y < 24 by first | exact oq_9cfd8ba8 g4 b3.2 | omega) (by decide) ?_)))))
      have b10 : (0 : Int) ≤ (iC s (204 + (x : Int).toNat) (y : Int).toNat) ∧ (iC s (204 + (x : Int).toNat) (y : Int).toNat) ≤ 127 := rw_bd rw_230 I (show (x : Int).toNat < 12 by first | exact oq_9c5fa447 p0.2 | omega) (show (y : Int).toNat < 24 by first | exact oq_bfe9ed15 g4 b3.2 | omega)
      refine zcS_i0 X E (As := [.int (Int32.ofInt (iC s (204 + (x : Int).toNat) ((y - 1) : Int).toNat)), .int (Int32.ofInt (iC s (204 + (x : Int).toNat) (y : Int).toNat))]) (st := []) rfl rfl (k_stepOf G I (by first | exact ⟨b9.1, b9.2⟩ | omega) (by first | exact ⟨b10.1, b10.2⟩ | omega)) rfl (Nat.le_of_ble_eq_true rfl) (fun s11 e12 Is11 Fs11 hrs11 hps11 => ?_)
      have Gs11 := fm_tq F Fs11 rfl rfl
      refine z_goto X (t := 72) rfl rfl ?_
      exact w_iret X.1 q hRt rfl (ax_d X (show cdA 226 72 = some (.ireturn, 1, 0, 0, 0) from rfl)) (Nat.zero_le _) (Nat.zero_le _) ⟨_, rfl, Is11, Gs11, e12, rfl, hrs11, by first | exact ⟨hps11.1, oq_b982df86 hps11.2⟩ | omega⟩
  ·
    refine z_bipush X rfl (z_goto X (t := 72) rfl rfl ?_)
    exact w_iret X.1 q hRt rfl (ax_d X (show cdA 226 72 = some (.ireturn, 1, 0, 0, 0) from rfl)) (Nat.zero_le _) (Nat.zero_le _) ⟨_, rfl, I, F, 6, rfl, (by decide), by first | exact ⟨by decide, by decide⟩ | omega⟩
end M40
