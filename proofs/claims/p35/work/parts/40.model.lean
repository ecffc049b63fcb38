/-! The model: the ways as they are told -/
theorem fm_c {L M : List Nat} {s t : PS} {a : Nat} (F : Fm L M s t) (h : a ∉ M) {j : Nat} : iC t a j = iC s a j := congrArg Int32.toInt (congrFun (F.2.1 a h) j)
theorem iC_a {s : PS} {a b i j : Nat} {x : Int32} (h : b ≠ a) : iC (uC s a i x) b j = iC s b j := congrArg Int32.toInt (congrFun (show (if b = a then upd (s.2.2.1 a) i x else s.2.2.1 b) = s.2.2.1 b from if_neg h) j)
/-- a stream's way is no shorter than the places on it -/
def RW1 (s : PS) (j : Nat) : Prop := 1 ≤ iC s 162 j ∧ ∀ c, c < 128 → iC s (178 + j) c < iC s 162 j
def RLx (s : PS) : Prop := ∀ j : Nat, j < 12 → (j : Int) < iI s 90 → RW1 s j
def NW1 (s : PS) (j : Nat) : Prop := 1 ≤ iC s 202 j ∧ ∀ c, c < 128 → iC s (216 + j) c < iC s 202 j
def NW (s : PS) : Prop := ∀ j : Nat, j < 12 → (j : Int) < iI s 90 → NW1 s j
def NQ1 (s : PS) (j : Nat) : Prop := iC s 202 j = iC s 162 j ∧ (∀ k : Nat, k < 24 → (k : Int) < iC s 162 j → iC s (204 + j) k = iC s (166 + j) k) ∧ ∀ c, c < 128 → iC s (216 + j) c = iC s (178 + j) c
def NQ (s : PS) : Prop := ∀ j : Nat, j < 12 → (j : Int) < iI s 90 → NQ1 s j
theorem RLx_fm {L M : List Nat} {s t : PS} (F : Fm L M s t) (h : 90 ∉ L ∧ 162 ∉ M ∧ ∀ i, i < 12 → 178 + i ∉ M) (r : RLx s) : RLx t := fun j hj hs => by
  rw [fm_i F h.1] at hs
  obtain ⟨r1, r2⟩ := r j hj hs
  exact ⟨by rw [fm_c F h.2.1]; exact r1, fun c hc => by rw [fm_c F h.2.1, fm_c F (h.2.2 j hj)]; exact r2 c hc⟩
theorem NW_fm {L M : List Nat} {s t : PS} (F : Fm L M s t) (h : 90 ∉ L ∧ 202 ∉ M ∧ ∀ i, i < 12 → 216 + i ∉ M) (r : NW s) : NW t := fun j hj hs => by
  rw [fm_i F h.1] at hs
  obtain ⟨r1, r2⟩ := r j hj hs
  exact ⟨by rw [fm_c F h.2.1]; exact r1, fun c hc => by rw [fm_c F h.2.1, fm_c F (h.2.2 j hj)]; exact r2 c hc⟩
theorem NQ1_fm {L M : List Nat} {s t : PS} {j : Nat} (F : Fm L M s t) (h : 162 ∉ M ∧ 202 ∉ M ∧ ∀ i, i < 12 → 178 + i ∉ M ∧ 216 + i ∉ M ∧ 166 + i ∉ M ∧ 204 + i ∉ M) (hj : j < 12) (r : NQ1 s j) : NQ1 t j := by
  obtain ⟨h1, h2, h3⟩ := h
  obtain ⟨a, b, c, d⟩ := h3 j hj
  exact ⟨by rw [fm_c F h1, fm_c F h2]; exact r.1, fun k hk h => by rw [fm_c F h1] at h; rw [fm_c F d, fm_c F c]; exact r.2.1 k hk h, fun i hi => by rw [fm_c F a, fm_c F b]; exact r.2.2 i hi⟩
theorem NQ_fm {L M : List Nat} {s t : PS} (F : Fm L M s t) (h : 90 ∉ L ∧ 162 ∉ M ∧ 202 ∉ M ∧ ∀ i, i < 12 → 178 + i ∉ M ∧ 216 + i ∉ M ∧ 166 + i ∉ M ∧ 204 + i ∉ M) (r : NQ s) : NQ t := fun j hj hs => by
  rw [fm_i F h.1] at hs
  exact NQ1_fm F h.2 hj (r j hj hs)
theorem NQ1_st {s : PS} {a i j : Nat} {x : Int32} (ha : 162 ≠ a ∧ 166 + j ≠ a ∧ 178 + j ≠ a ∧ (202 ≠ a ∨ j ≠ i) ∧ 204 + j ≠ a ∧ 216 + j ≠ a) (r : NQ1 s j) : NQ1 (uC s a i x) j := by
  obtain ⟨h1, h2, h3, h4, h5, h6⟩ := ha
  refine ⟨?_, fun k hk h => ?_, fun c hc => ?_⟩
  · rw [iC_a h1]
    rcases Nat.decEq 202 a with q | q
    · rw [iC_a q]; exact r.1
    · subst q; rw [iC_n (h4.resolve_left (fun z => z rfl))]; exact r.1
  · rw [iC_a h1] at h
    rw [iC_a h2, iC_a h5]; exact r.2.1 k hk h
  · rw [iC_a h3, iC_a h6]; exact r.2.2 c hc
theorem NW_of {s : PS} (h : NQ s) (r : RLx s) : NW s := fun j hj hs => by
  obtain ⟨r1, r2⟩ := r j hj hs
  obtain ⟨t1, -, t3⟩ := h j hj hs
  exact ⟨by rw [t1]; exact r1, fun c hc => by rw [t1, t3 c hc]; exact r2 c hc⟩
section M40
variable {l : Launch} {s0 : State} {D : va_G} {tys : List (ClassId × FieldType)} {a0 : Array Value} {A : Nat → Nat} {dT : Nat → ClassId} {s : PS}
theorem k_waysAsTold (G : GX l s0 D tys a0 dT) (I : Bd s) (jRLx : RLx s)  : CT l s0 D A dT 223 (rmN 223) [.ref (A 179)] s (fun o t => Bd t ∧ Fm [] [202, 204, 205, 206, 207, 208, 209, 210, 211, 212, 213, 214, 215, 216, 217, 218, 219, 220, 221, 222, 223, 224, 225, 226, 227] s t ∧ RLx t ∧ NQ t ∧ o = .inl none ∧ (True)) := by
  refine ct_of G (by decide) (Nat.le_of_ble_eq_true rfl) (fun k X E hRt hXt q => ?_)
  show WS k 0 [(0, .ref (A 179))] [] _ 0 0
  have F : Fm [] [202, 204, 205, 206, 207, 208, 209, 210, 211, 212, 213, 214, 215, 216, 217, 218, 219, 220, 221, 222, 223, 224, 225, 226, 227] s s := fm_rf _ _ s
  have b1 : (0 : Int) ≤ iI s 90 ∧ iI s 90 ≤ 12 := I.1 90
  have L24 : ∀ (n : Nat) (t : PS) (c0 kk : Int), Bd t → Fm [] [202, 204, 205, 206, 207, 208, 209, 210, 211, 212, 213, 214, 215, 216, 217, 218, 219, 220, 221, 222, 223, 224, 225, 226, 227] s t → RLx t → ((∀ j : Nat, j < 12 → (j : Int) < c0 → NQ1 t j) ∧ (iC t 202 (c0 : Int).toNat = iC t 162 (c0 : Int).toNat) ∧ ∀ i : Nat, i < 24 → (i : Int) < kk → iC t (204 + (c0 : Int).toNat) i = iC t (166 + (c0 : Int).toNat) i) → (0 ≤ c0 ∧ c0 < iI t 90 ∧ 0 ≤ kk ∧ kk ≤ 24) → (24 - kk : Int).toNat < n → (∀ (t' : PS) (kk' : Int), Bd t' → Fm [] [202, 204, 205, 206, 207, 208, 209, 210, 211, 212, 213, 214, 215, 216, 217, 218, 219, 220, 221, 222, 223, 224, 225, 226, 227] s t' → RLx t' → ((∀ j : Nat, j < 12 → (j : Int) < c0 → NQ1 t' j) ∧ (iC t' 202 (c0 : Int).toNat = iC t' 162 (c0 : Int).toNat) ∧ ∀ i : Nat, i < 24 → (i : Int) < kk' → iC t' (204 + (c0 : Int).toNat) i = iC t' (166 + (c0 : Int).toNat) i) → (0 ≤ c0 ∧ c0 < iI t' 90 ∧ 0 ≤ kk' ∧ iC t' 162 (c0 : Int).toNat ≤ kk') → WS k 56 [(0, .ref (A 179)), (1, .int (Int32.ofInt c0)), (2, .int (Int32.ofInt kk'))] [] (Wd A dT t') 0 0) → WS k 24 [(0, .ref (A 179)), (1, .int (Int32.ofInt c0)), (2, .int (Int32.ofInt kk))] [] (Wd A dT t) 0 0 := by
    intro n
    induction n with
    | zero =>
      intro t c0 kk I F jjRLx hq hi hm kx
      exact absurd hm (Nat.not_lt_zero _)
    | succ n ih =>
      intro t c0 kk I F jjRLx hq hi hm kx
      have b1001 : (0 : Int) ≤ iI t 90 ∧ iI t 90 ≤ 12 := I.1 90
      refine z_load_n X (x := kk) (show cdA 223 24 = some (.iload_n 2, 1, 0, 0, 0) from rfl) (List.Mem.tail _ (List.Mem.tail _ (List.Mem.head _))) ?_
      refine z_aload_n X (x := A 179) (show cdA 223 25 = some (.aload_n 0, 1, 0, 0, 0) from rfl) (List.Mem.head _) ?_
      refine s_getR X 179 (show cdA 223 26 = some (.getfield 35, 3, 12, 23, 0) from rfl) (by decide) rfl rfl ?_
      refine z_load_n X (x := c0) (show cdA 223 29 = some (.iload_n 1, 1, 0, 0, 0) from rfl) (List.Mem.tail _ (List.Mem.head _)) ?_
      refine z_ald X 185 (show cdA 223 30 = some (.iaload, 1, 0, 0, 0) from rfl) (by decide) rfl (by first | exact hi.1 | omega) (show c0 < 12 by first | exact oq_f36e82a8 hi.2.1 b1001.2 | omega) (by decide) ?_
      have b1002 : (0 : Int) ≤ iC t 162 (c0).toNat ∧ iC t 162 (c0).toNat ≤ 24 := I.2 162 _ (show (c0).toNat < 12 by first | exact oq_2dac6850 hi.2.1 b1001.2 | omega)
      refine z_icmp_ge X (t := 56) (show cdA 223 31 = some (.if_icmp .ge 25, 3, 3, 0, 0) from rfl) (by decide) ⟨by first | exact oq_fa4e5087 hi.2.2.1 | omega, by first | exact oq_5bcd337f hi.2.2.2 | omega⟩ (rng_to _) (fun g1003 => ?_) (fun g1003 => ?_)
      ·
        refine WS_lv (lv := [(0, .ref (A 179)), (1, .int (Int32.ofInt c0)), (2, .int (Int32.ofInt kk))]) (List.forall_mem_cons.mpr ⟨(List.Mem.head _), (List.forall_mem_cons.mpr ⟨(List.Mem.tail _ (List.Mem.head _)), (List.forall_mem_cons.mpr ⟨(List.Mem.tail _ (List.Mem.tail _ (List.Mem.head _))), (fun q h => absurd h List.not_mem_nil)⟩)⟩)⟩) ?_
        exact kx _ kk I F jjRLx hq (by first | exact ⟨hi.1, hi.2.1, hi.2.2.1, g1003⟩ | omega)
      ·
        refine z_aload_n X (x := A 179) (show cdA 223 34 = some (.aload_n 0, 1, 0, 0, 0) from rfl) (List.Mem.head _) ?_
        refine s_getR X 179 (show cdA 223 35 = some (.getfield 64, 3, 12, 33, 0) from rfl) (by decide) rfl rfl ?_
        refine z_load_n X (x := c0) (show cdA 223 38 = some (.iload_n 1, 1, 0, 0, 0) from rfl) (List.Mem.tail _ (List.Mem.head _)) ?_
        refine z_aald X rw_230 (show cdA 223 39 = some (.aaload, 1, 0, 0, 0) from rfl) (by first | exact hi.1 | omega) (show c0 < 12 by first | exact oq_f36e82a8 hi.2.1 b1001.2 | omega) (by decide) ?_
        refine z_load_n X (x := kk) (show cdA 223 40 = some (.iload_n 2, 1, 0, 0, 0) from rfl) (List.Mem.tail _ (List.Mem.tail _ (List.Mem.head _))) ?_
        refine z_aload_n X (x := A 179) (show cdA 223 41 = some (.aload_n 0, 1, 0, 0, 0) from rfl) (List.Mem.head _) ?_
        refine s_getR X 179 (show cdA 223 42 = some (.getfield 49, 3, 12, 28, 0) from rfl) (by decide) rfl rfl ?_
        refine z_load_n X (x := c0) (show cdA 223 45 = some (.iload_n 1, 1, 0, 0, 0) from rfl) (List.Mem.tail _ (List.Mem.head _)) ?_
        refine z_aald X rw_189 (show cdA 223 46 = some (.aaload, 1, 0, 0, 0) from rfl) (by first | exact hi.1 | omega) (show c0 < 12 by first | exact oq_f36e82a8 hi.2.1 b1001.2 | omega) (by decide) ?_
        refine z_load_n X (x := kk) (show cdA 223 47 = some (.iload_n 2, 1, 0, 0, 0) from rfl) (List.Mem.tail _ (List.Mem.tail _ (List.Mem.head _))) ?_
        refine z_ald2 X rw_189 (show cdA 223 48 = some (.iaload, 1, 0, 0, 0) from rfl) (show (c0 : Int).toNat < 12 by first | exact oq_2dac6850 hi.2.1 b1001.2 | omega) (by first | exact hi.2.2.1 | omega) (show kk < 24 by first | exact oq_8ff7beb9 g1003 b1002.2 | omega) (by decide) ?_
        have b1004 : (0 : Int) ≤ (iC t (166 + (c0 : Int).toNat) (kk : Int).toNat) ∧ (iC t (166 + (c0 : Int).toNat) (kk : Int).toNat) ≤ 127 := rw_bd rw_189 I (show (c0 : Int).toNat < 12 by first | exact oq_2dac6850 hi.2.1 b1001.2 | omega) (show (kk : Int).toNat < 24 by first | exact oq_9e668fc9 g1003 b1002.2 | omega)
        refine z_ast2 X rw_230 (show cdA 223 49 = some (.iastore, 1, 0, 0, 0) from rfl) (show (c0 : Int).toNat < 12 by first | exact oq_2dac6850 hi.2.1 b1001.2 | omega) (by first | exact hi.2.2.1 | omega) (show kk < 24 by first | exact oq_8ff7beb9 g1003 b1002.2 | omega) (by decide) ?_
        obtain ⟨s1005, hs1005⟩ : ∃ x0, x0 = uC t (204 + (c0 : Int).toNat) (kk : Int).toNat (Int32.ofInt (iC t (166 + (c0 : Int).toNat) (kk : Int).toNat)) := ⟨_, rfl⟩
        rw [← hs1005]
        have Is1005 : Bd s1005 := by rw [hs1005]; exact rw_st rw_230 I (show (c0 : Int).toNat < 12 by first | exact oq_2dac6850 hi.2.1 b1001.2 | omega) (show (0 : Int) ≤ (iC t (166 + (c0 : Int).toNat) (kk : Int).toNat) ∧ (iC t (166 + (c0 : Int).toNat) (kk : Int).toNat) ≤ 127 by first | exact ⟨b1004.1, b1004.2⟩ | omega) (rng_to _)
        have Fs1005 := fm_C (i := (kk : Int).toNat) (x := Int32.ofInt (iC t (166 + (c0 : Int).toNat) (kk : Int).toNat)) F ((show ∀ j, j < 12 → 204 + j ∈ _ by decide) (c0 : Int).toNat (by first | exact oq_2dac6850 hi.2.1 b1001.2 | omega))
        rw [← hs1005] at Fs1005
        have ws1005_90 : iI s1005 90 = iI t 90 := by rw [hs1005]; rfl
        have fs1005 : Fm [] [204, 205, 206, 207, 208, 209, 210, 211, 212, 213, 214, 215] t s1005 := by rw [hs1005]; exact fm_C (fm_rf _ _ _) ((show ∀ j, j < 12 → 204 + j ∈ _ by decide) (c0 : Int).toNat (by first | exact oq_2dac6850 hi.2.1 b1001.2 | omega))
        have JRLx_s1005 : RLx s1005 := RLx_fm fs1005 (by decide) jjRLx
        refine z_inc X (x := kk) (lv' := [(2, .int (Int32.ofInt (kk + 1))), (0, .ref (A 179)), (1, .int (Int32.ofInt c0))]) (show cdA 223 50 = some (.iinc 2 1, 3, 0, 0, 0) from rfl) (by decide) (List.Mem.tail _ (List.Mem.tail _ (List.Mem.head _))) (fun _ h => h) ?_
        refine z_goto X (t := 24) (show cdA 223 53 = some (.goto (-29), 3, 0, 0, 0) from rfl) (by decide) ?_
        refine WS_lv (lv := [(0, .ref (A 179)), (1, .int (Int32.ofInt c0)), (2, .int (Int32.ofInt (kk + 1)))]) (List.forall_mem_cons.mpr ⟨(List.Mem.tail _ (List.Mem.head _)), (List.forall_mem_cons.mpr ⟨(List.Mem.tail _ (List.Mem.tail _ (List.Mem.head _))), (List.forall_mem_cons.mpr ⟨(List.Mem.head _), (fun q h => absurd h List.not_mem_nil)⟩)⟩)⟩) ?_
        have QKs1005 : (∀ j : Nat, j < 12 → (j : Int) < c0 → NQ1 s1005 j) ∧ (iC s1005 202 (c0 : Int).toNat = iC s1005 162 (c0 : Int).toNat) ∧ ∀ i : Nat, i < 24 → (i : Int) < (kk + 1) → iC s1005 (204 + (c0 : Int).toNat) i = iC s1005 (166 + (c0 : Int).toNat) i := by
          refine ⟨fun j hj h => by rw [hs1005]; exact NQ1_st (by omega) (hq.1 j hj h), by rw [hs1005, iC_a (by omega), iC_a (by omega)]; exact hq.2.1, fun i hi h => ?_⟩
          by_cases e : i = (kk : Int).toNat
          · rw [e, hs1005, iC_u ⟨by omega, by omega⟩, iC_a (by omega)]
          · rw [hs1005, iC_n e, iC_a (by omega)]; exact hq.2.2 i hi (by omega)
        exact ih _ c0 (kk + 1) Is1005 Fs1005 JRLx_s1005 QKs1005 (by first | exact ⟨hi.1, oq_71f4b7b9 ws1005_90 hi.2.1, oq_54f49eb5 hi.2.2.1, oq_41473be0 g1003 b1002.2⟩ | omega) (by first | exact qk_me hm (by decide) (oq_9dea93e6 g1003 b1002.2) | omega) kx
  have L58 : ∀ (n : Nat) (t : PS) (c0 c : Int), Bd t → Fm [] [202, 204, 205, 206, 207, 208, 209, 210, 211, 212, 213, 214, 215, 216, 217, 218, 219, 220, 221, 222, 223, 224, 225, 226, 227] s t → RLx t → ((∀ j : Nat, j < 12 → (j : Int) < c0 → NQ1 t j) ∧ (iC t 202 (c0 : Int).toNat = iC t 162 (c0 : Int).toNat) ∧ (∀ i : Nat, i < 24 → (i : Int) < iC t 162 (c0 : Int).toNat → iC t (204 + (c0 : Int).toNat) i = iC t (166 + (c0 : Int).toNat) i) ∧ ∀ i : Nat, i < 128 → (i : Int) < c → iC t (216 + (c0 : Int).toNat) i = iC t (178 + (c0 : Int).toNat) i) → (0 ≤ c0 ∧ c0 < iI t 90 ∧ 0 ≤ c ∧ c ≤ 128) → (128 - c : Int).toNat < n → (∀ (t' : PS) (c' : Int), Bd t' → Fm [] [202, 204, 205, 206, 207, 208, 209, 210, 211, 212, 213, 214, 215, 216, 217, 218, 219, 220, 221, 222, 223, 224, 225, 226, 227] s t' → RLx t' → ((∀ j : Nat, j < 12 → (j : Int) < c0 → NQ1 t' j) ∧ (iC t' 202 (c0 : Int).toNat = iC t' 162 (c0 : Int).toNat) ∧ (∀ i : Nat, i < 24 → (i : Int) < iC t' 162 (c0 : Int).toNat → iC t' (204 + (c0 : Int).toNat) i = iC t' (166 + (c0 : Int).toNat) i) ∧ ∀ i : Nat, i < 128 → (i : Int) < c' → iC t' (216 + (c0 : Int).toNat) i = iC t' (178 + (c0 : Int).toNat) i) → (0 ≤ c0 ∧ c0 < iI t' 90 ∧ c' = 128) → WS k 87 [(0, .ref (A 179)), (1, .int (Int32.ofInt c0)), (2, .int (Int32.ofInt c'))] [] (Wd A dT t') 0 0) → WS k 58 [(0, .ref (A 179)), (1, .int (Int32.ofInt c0)), (2, .int (Int32.ofInt c))] [] (Wd A dT t) 0 0 := by
    intro n
    induction n with
    | zero =>
      intro t c0 c I F jjRLx hq hi hm kx
      exact absurd hm (Nat.not_lt_zero _)
    | succ n ih =>
      intro t c0 c I F jjRLx hq hi hm kx
      have b2001 : (0 : Int) ≤ iI t 90 ∧ iI t 90 ≤ 12 := I.1 90
      refine z_load_n X (x := c) (show cdA 223 58 = some (.iload_n 2, 1, 0, 0, 0) from rfl) (List.Mem.tail _ (List.Mem.tail _ (List.Mem.head _))) ?_
      refine z_sipush X (show cdA 223 59 = some (.sipush 128, 3, 0, 0, 128) from rfl) ?_
      refine z_icmp_ge X (t := 87) (show cdA 223 62 = some (.if_icmp .ge 25, 3, 3, 0, 0) from rfl) (by decide) ⟨by first | exact oq_fa4e5087 hi.2.2.1 | omega, by first | exact oq_4ee82282 hi.2.2.2 | omega⟩ (by decide) (fun g2002 => ?_) (fun g2002 => ?_)
      ·
        refine WS_lv (lv := [(0, .ref (A 179)), (1, .int (Int32.ofInt c0)), (2, .int (Int32.ofInt c))]) (List.forall_mem_cons.mpr ⟨(List.Mem.head _), (List.forall_mem_cons.mpr ⟨(List.Mem.tail _ (List.Mem.head _)), (List.forall_mem_cons.mpr ⟨(List.Mem.tail _ (List.Mem.tail _ (List.Mem.head _))), (fun q h => absurd h List.not_mem_nil)⟩)⟩)⟩) ?_
        exact kx _ c I F jjRLx hq (by first | exact ⟨hi.1, hi.2.1, oq_42fe298a hi.2.2.2 g2002⟩ | omega)
      ·
        refine z_aload_n X (x := A 179) (show cdA 223 65 = some (.aload_n 0, 1, 0, 0, 0) from rfl) (List.Mem.head _) ?_
        refine s_getR X 179 (show cdA 223 66 = some (.getfield 67, 3, 12, 34, 0) from rfl) (by decide) rfl rfl ?_
        refine z_load_n X (x := c0) (show cdA 223 69 = some (.iload_n 1, 1, 0, 0, 0) from rfl) (List.Mem.tail _ (List.Mem.head _)) ?_
        refine z_aald X rw_243 (show cdA 223 70 = some (.aaload, 1, 0, 0, 0) from rfl) (by first | exact hi.1 | omega) (show c0 < 12 by first | exact oq_f36e82a8 hi.2.1 b2001.2 | omega) (by decide) ?_
        refine z_load_n X (x := c) (show cdA 223 71 = some (.iload_n 2, 1, 0, 0, 0) from rfl) (List.Mem.tail _ (List.Mem.tail _ (List.Mem.head _))) ?_
        refine z_aload_n X (x := A 179) (show cdA 223 72 = some (.aload_n 0, 1, 0, 0, 0) from rfl) (List.Mem.head _) ?_
        refine s_getR X 179 (show cdA 223 73 = some (.getfield 52, 3, 12, 29, 0) from rfl) (by decide) rfl rfl ?_
        refine z_load_n X (x := c0) (show cdA 223 76 = some (.iload_n 1, 1, 0, 0, 0) from rfl) (List.Mem.tail _ (List.Mem.head _)) ?_
        refine z_aald X rw_202 (show cdA 223 77 = some (.aaload, 1, 0, 0, 0) from rfl) (by first | exact hi.1 | omega) (show c0 < 12 by first | exact oq_f36e82a8 hi.2.1 b2001.2 | omega) (by decide) ?_
        refine z_load_n X (x := c) (show cdA 223 78 = some (.iload_n 2, 1, 0, 0, 0) from rfl) (List.Mem.tail _ (List.Mem.tail _ (List.Mem.head _))) ?_
        refine z_ald2 X rw_202 (show cdA 223 79 = some (.iaload, 1, 0, 0, 0) from rfl) (show (c0 : Int).toNat < 12 by first | exact oq_2dac6850 hi.2.1 b2001.2 | omega) (by first | exact hi.2.2.1 | omega) (show c < 128 by first | exact g2002 | omega) (by decide) ?_
        have b2003 : ((-1) : Int) ≤ (iC t (178 + (c0 : Int).toNat) (c : Int).toNat) ∧ (iC t (178 + (c0 : Int).toNat) (c : Int).toNat) ≤ 23 := rw_bd rw_202 I (show (c0 : Int).toNat < 12 by first | exact oq_2dac6850 hi.2.1 b2001.2 | omega) (show (c : Int).toNat < 128 by first | exact oq_afb89947 g2002 | omega)
        refine z_ast2 X rw_243 (show cdA 223 80 = some (.iastore, 1, 0, 0, 0) from rfl) (show (c0 : Int).toNat < 12 by first | exact oq_2dac6850 hi.2.1 b2001.2 | omega) (by first | exact hi.2.2.1 | omega) (show c < 128 by first | exact g2002 | omega) (by decide) ?_
        obtain ⟨s2004, hs2004⟩ : ∃ x0, x0 = uC t (216 + (c0 : Int).toNat) (c : Int).toNat (Int32.ofInt (iC t (178 + (c0 : Int).toNat) (c : Int).toNat)) := ⟨_, rfl⟩
        rw [← hs2004]
        have Is2004 : Bd s2004 := by rw [hs2004]; exact rw_st rw_243 I (show (c0 : Int).toNat < 12 by first | exact oq_2dac6850 hi.2.1 b2001.2 | omega) (show ((-1) : Int) ≤ (iC t (178 + (c0 : Int).toNat) (c : Int).toNat) ∧ (iC t (178 + (c0 : Int).toNat) (c : Int).toNat) ≤ 23 by first | exact ⟨b2003.1, b2003.2⟩ | omega) (rng_to _)
        have Fs2004 := fm_C (i := (c : Int).toNat) (x := Int32.ofInt (iC t (178 + (c0 : Int).toNat) (c : Int).toNat)) F ((show ∀ j, j < 12 → 216 + j ∈ _ by decide) (c0 : Int).toNat (by first | exact oq_2dac6850 hi.2.1 b2001.2 | omega))
        rw [← hs2004] at Fs2004
        have ws2004_90 : iI s2004 90 = iI t 90 := by rw [hs2004]; rfl
        have fs2004 : Fm [] [216, 217, 218, 219, 220, 221, 222, 223, 224, 225, 226, 227] t s2004 := by rw [hs2004]; exact fm_C (fm_rf _ _ _) ((show ∀ j, j < 12 → 216 + j ∈ _ by decide) (c0 : Int).toNat (by first | exact oq_2dac6850 hi.2.1 b2001.2 | omega))
        have JRLx_s2004 : RLx s2004 := RLx_fm fs2004 (by decide) jjRLx
        refine z_inc X (x := c) (lv' := [(2, .int (Int32.ofInt (c + 1))), (0, .ref (A 179)), (1, .int (Int32.ofInt c0))]) (show cdA 223 81 = some (.iinc 2 1, 3, 0, 0, 0) from rfl) (by decide) (List.Mem.tail _ (List.Mem.tail _ (List.Mem.head _))) (fun _ h => h) ?_
        refine z_goto X (t := 58) (show cdA 223 84 = some (.goto (-26), 3, 0, 0, 0) from rfl) (by decide) ?_
        refine WS_lv (lv := [(0, .ref (A 179)), (1, .int (Int32.ofInt c0)), (2, .int (Int32.ofInt (c + 1)))]) (List.forall_mem_cons.mpr ⟨(List.Mem.tail _ (List.Mem.head _)), (List.forall_mem_cons.mpr ⟨(List.Mem.tail _ (List.Mem.tail _ (List.Mem.head _))), (List.forall_mem_cons.mpr ⟨(List.Mem.head _), (fun q h => absurd h List.not_mem_nil)⟩)⟩)⟩) ?_
        have QCs2004 : (∀ j : Nat, j < 12 → (j : Int) < c0 → NQ1 s2004 j) ∧ (iC s2004 202 (c0 : Int).toNat = iC s2004 162 (c0 : Int).toNat) ∧ (∀ i : Nat, i < 24 → (i : Int) < iC s2004 162 (c0 : Int).toNat → iC s2004 (204 + (c0 : Int).toNat) i = iC s2004 (166 + (c0 : Int).toNat) i) ∧ ∀ i : Nat, i < 128 → (i : Int) < (c + 1) → iC s2004 (216 + (c0 : Int).toNat) i = iC s2004 (178 + (c0 : Int).toNat) i := by
          refine ⟨fun j hj h => by rw [hs2004]; exact NQ1_st (by omega) (hq.1 j hj h), by rw [hs2004, iC_a (by omega), iC_a (by omega)]; exact hq.2.1, fun i hi h => ?_, fun i hi h => ?_⟩
          · rw [hs2004, iC_a (by omega)] at h; rw [hs2004, iC_a (by omega), iC_a (by omega)]; exact hq.2.2.1 i hi h
          by_cases e : i = (c : Int).toNat
          · rw [e, hs2004, iC_u ⟨by omega, by omega⟩, iC_a (by omega)]
          · rw [hs2004, iC_n e, iC_a (by omega)]; exact hq.2.2.2 i hi (by omega)
        exact ih _ c0 (c + 1) Is2004 Fs2004 JRLx_s2004 QCs2004 (by first | exact ⟨hi.1, oq_71f4b7b9 ws2004_90 hi.2.1, oq_54f49eb5 hi.2.2.1, oq_d2afb425 g2002⟩ | omega) (by first | exact qk_me hm (by decide) (oq_c268b7bd g2002) | omega) kx
  have L2 : ∀ (n : Nat) (t : PS) (c0 : Int), Bd t → Fm [] [202, 204, 205, 206, 207, 208, 209, 210, 211, 212, 213, 214, 215, 216, 217, 218, 219, 220, 221, 222, 223, 224, 225, 226, 227] s t → RLx t → (∀ j : Nat, j < 12 → (j : Int) < c0 → NQ1 t j) → (0 ≤ c0 ∧ c0 ≤ 12) → (12 - c0 : Int).toNat < n → (∀ (t' : PS) (c0' : Int), Bd t' → Fm [] [202, 204, 205, 206, 207, 208, 209, 210, 211, 212, 213, 214, 215, 216, 217, 218, 219, 220, 221, 222, 223, 224, 225, 226, 227] s t' → RLx t' → (∀ j : Nat, j < 12 → (j : Int) < c0' → NQ1 t' j) → (iI t' 90 ≤ c0') → WS k 93 [(0, .ref (A 179)), (1, .int (Int32.ofInt c0'))] [] (Wd A dT t') 0 0) → WS k 2 [(0, .ref (A 179)), (1, .int (Int32.ofInt c0))] [] (Wd A dT t) 0 0 := by
    intro n
    induction n with
    | zero =>
      intro t c0 I F jjRLx hq hi hm kx
      exact absurd hm (Nat.not_lt_zero _)
    | succ n ih =>
      intro t c0 I F jjRLx hq hi hm kx
      have b3001 : (0 : Int) ≤ iI t 90 ∧ iI t 90 ≤ 12 := I.1 90
      refine z_load_n X (x := c0) (show cdA 223 2 = some (.iload_n 1, 1, 0, 0, 0) from rfl) (List.Mem.tail _ (List.Mem.head _)) ?_
      refine z_aload_n X (x := A 179) (show cdA 223 3 = some (.aload_n 0, 1, 0, 0, 0) from rfl) (List.Mem.head _) ?_
      refine z_getI X 179 (show cdA 223 4 = some (.getfield 233, 3, 12, 22, 0) from rfl) (by decide) rfl rfl ?_
      have b3002 : (0 : Int) ≤ iI t 90 ∧ iI t 90 ≤ 12 := I.1 90
      refine z_icmp_ge X (t := 93) (show cdA 223 7 = some (.if_icmp .ge 86, 3, 3, 0, 0) from rfl) (by decide) ⟨by first | exact oq_fa4e5087 hi.1 | omega, by first | exact oq_78843a64 hi.2 | omega⟩ (rng_to _) (fun g3003 => ?_) (fun g3003 => ?_)
      ·
        refine WS_lv (lv := [(0, .ref (A 179)), (1, .int (Int32.ofInt c0))]) (List.forall_mem_cons.mpr ⟨(List.Mem.head _), (List.forall_mem_cons.mpr ⟨(List.Mem.tail _ (List.Mem.head _)), (fun q h => absurd h List.not_mem_nil)⟩)⟩) ?_
        exact kx _ c0 I F jjRLx hq (by first | exact g3003 | omega)
      ·
        refine z_aload_n X (x := A 179) (show cdA 223 10 = some (.aload_n 0, 1, 0, 0, 0) from rfl) (List.Mem.head _) ?_
        refine s_getR X 179 (show cdA 223 11 = some (.getfield 58, 3, 12, 31, 0) from rfl) (by decide) rfl rfl ?_
        refine z_load_n X (x := c0) (show cdA 223 14 = some (.iload_n 1, 1, 0, 0, 0) from rfl) (List.Mem.tail _ (List.Mem.head _)) ?_
        refine z_aload_n X (x := A 179) (show cdA 223 15 = some (.aload_n 0, 1, 0, 0, 0) from rfl) (List.Mem.head _) ?_
        refine s_getR X 179 (show cdA 223 16 = some (.getfield 35, 3, 12, 23, 0) from rfl) (by decide) rfl rfl ?_
        refine z_load_n X (x := c0) (show cdA 223 19 = some (.iload_n 1, 1, 0, 0, 0) from rfl) (List.Mem.tail _ (List.Mem.head _)) ?_
        refine z_ald X 185 (show cdA 223 20 = some (.iaload, 1, 0, 0, 0) from rfl) (by decide) rfl (by first | exact hi.1 | omega) (show c0 < 12 by first | exact oq_f36e82a8 g3003 b3002.2 | omega) (by decide) ?_
        have b3004 : (0 : Int) ≤ iC t 162 (c0).toNat ∧ iC t 162 (c0).toNat ≤ 24 := I.2 162 _ (show (c0).toNat < 12 by first | exact oq_2dac6850 g3003 b3002.2 | omega)
        refine z_ast X 228 (show cdA 223 21 = some (.iastore, 1, 0, 0, 0) from rfl) (by decide) rfl (by first | exact hi.1 | omega) (show c0 < 12 by first | exact oq_f36e82a8 g3003 b3002.2 | omega) (by decide) ?_
        obtain ⟨s3005, hs3005⟩ : ∃ x0, x0 = uC t 202 (c0).toNat (Int32.ofInt (iC t 162 (c0).toNat)) := ⟨_, rfl⟩
        rw [← hs3005]
        have Is3005 : Bd s3005 := by rw [hs3005]; exact bd_C I (show (0 : Int) ≤ (iC t 162 (c0).toNat) ∧ (iC t 162 (c0).toNat) ≤ 24 by first | exact ⟨b3004.1, b3004.2⟩ | omega) (rng_to _)
        have Fs3005 := fm_C (i := (c0).toNat) (x := Int32.ofInt (iC t 162 (c0).toNat)) F (show 202 ∈ _ by decide)
        rw [← hs3005] at Fs3005
        have ws3005_90 : iI s3005 90 = iI t 90 := by rw [hs3005]; rfl
        have fs3005 : Fm [] [202] t s3005 := by rw [hs3005]; exact fm_C (fm_rf _ _ _) (show 202 ∈ _ by decide)
        have JRLx_s3005 : RLx s3005 := RLx_fm fs3005 (by decide) jjRLx
        refine z_const X (show cdA 223 22 = some (.iconst 0, 1, 0, 0, 0) from rfl) ?_
        refine z_store_n X (lv' := [(2, .int (Int32.ofInt 0)), (0, .ref (A 179)), (1, .int (Int32.ofInt c0))]) (show cdA 223 23 = some (.istore_n 2, 1, 0, 0, 0) from rfl) (by decide) (fun _ h => h) ?_
        refine WS_lv (lv := [(0, .ref (A 179)), (1, .int (Int32.ofInt c0)), (2, .int (Int32.ofInt 0))]) (List.forall_mem_cons.mpr ⟨(List.Mem.tail _ (List.Mem.head _)), (List.forall_mem_cons.mpr ⟨(List.Mem.tail _ (List.Mem.tail _ (List.Mem.head _))), (List.forall_mem_cons.mpr ⟨(List.Mem.head _), (fun q h => absurd h List.not_mem_nil)⟩)⟩)⟩) ?_
        have QKs3005 : (∀ j : Nat, j < 12 → (j : Int) < c0 → NQ1 s3005 j) ∧ (iC s3005 202 (c0 : Int).toNat = iC s3005 162 (c0 : Int).toNat) ∧ ∀ i : Nat, i < 24 → (i : Int) < 0 → iC s3005 (204 + (c0 : Int).toNat) i = iC s3005 (166 + (c0 : Int).toNat) i := ⟨fun j hj h => by rw [hs3005]; exact NQ1_st (by omega) (hq j hj h), by rw [hs3005, iC_u ⟨by omega, by omega⟩, iC_a (by decide)], fun i _ h => absurd h (by omega)⟩
        refine L24 ((24 - 0 : Int).toNat + 1) s3005 c0 0 Is3005 Fs3005 JRLx_s3005 QKs3005 (by first | exact ⟨hi.1, oq_71f4b7b9 ws3005_90 g3003, by decide, by decide⟩ | omega) (Nat.lt_succ_self _) ?_
        intro s3006 x3007 Is3006 Fs3006 JRLx_s3006 Qs3006 hs3006
        have b3008 : (0 : Int) ≤ iI s3006 90 ∧ iI s3006 90 ≤ 12 := Is3006.1 90
        refine z_const X (show cdA 223 56 = some (.iconst 0, 1, 0, 0, 0) from rfl) ?_
        refine z_store_n X (lv' := [(2, .int (Int32.ofInt 0)), (0, .ref (A 179)), (1, .int (Int32.ofInt c0))]) (show cdA 223 57 = some (.istore_n 2, 1, 0, 0, 0) from rfl) (by decide) (fun _ h => h) ?_
        refine WS_lv (lv := [(0, .ref (A 179)), (1, .int (Int32.ofInt c0)), (2, .int (Int32.ofInt 0))]) (List.forall_mem_cons.mpr ⟨(List.Mem.tail _ (List.Mem.head _)), (List.forall_mem_cons.mpr ⟨(List.Mem.tail _ (List.Mem.tail _ (List.Mem.head _))), (List.forall_mem_cons.mpr ⟨(List.Mem.head _), (fun q h => absurd h List.not_mem_nil)⟩)⟩)⟩) ?_
        refine L58 ((128 - 0 : Int).toNat + 1) s3006 c0 0 Is3006 Fs3006 JRLx_s3006 ⟨Qs3006.1, Qs3006.2.1, fun i hi h => Qs3006.2.2 i hi (by omega), fun i _ h => absurd h (by omega)⟩ (by first | exact ⟨hs3006.1, hs3006.2.1, by decide, by decide⟩ | omega) (Nat.lt_succ_self _) ?_
        intro s3009 x3010 Is3009 Fs3009 JRLx_s3009 Qs3009 hs3009
        have b3011 : (0 : Int) ≤ iI s3009 90 ∧ iI s3009 90 ≤ 12 := Is3009.1 90
        refine z_inc X (x := c0) (lv' := [(1, .int (Int32.ofInt (c0 + 1))), (0, .ref (A 179)), (2, .int (Int32.ofInt x3010))]) (show cdA 223 87 = some (.iinc 1 1, 3, 0, 0, 0) from rfl) (by decide) (List.Mem.tail _ (List.Mem.head _)) (fun _ h => h) ?_
        refine z_goto X (t := 2) (show cdA 223 90 = some (.goto (-88), 3, 0, 0, 0) from rfl) (by decide) ?_
        refine WS_lv (lv := [(0, .ref (A 179)), (1, .int (Int32.ofInt (c0 + 1)))]) (List.forall_mem_cons.mpr ⟨(List.Mem.tail _ (List.Mem.head _)), (List.forall_mem_cons.mpr ⟨(List.Mem.head _), (fun q h => absurd h List.not_mem_nil)⟩)⟩) ?_
        have QO3012 : ∀ j : Nat, j < 12 → (j : Int) < (c0 + 1) → NQ1 s3009 j := fun j hj h => by
          by_cases e : (j : Int) < c0
          · exact Qs3009.1 j hj e
          · have ej : j = (c0 : Int).toNat := by omega
            rw [ej]
            exact ⟨Qs3009.2.1, Qs3009.2.2.1, fun i hi => Qs3009.2.2.2 i hi (by omega)⟩
        exact ih _ (c0 + 1) Is3009 Fs3009 JRLx_s3009 QO3012 (by first | exact ⟨oq_54f49eb5 hs3009.1, oq_4dae995e hs3009.2.1 b3011.2⟩ | omega) (by first | exact qk_me hm (by decide) (oq_b575e8c1 hs3009.2.1 b3011.2) | omega) kx
  refine z_const X (show cdA 223 0 = some (.iconst 0, 1, 0, 0, 0) from rfl) ?_
  refine z_store_n X (lv' := [(1, .int (Int32.ofInt 0)), (0, .ref (A 179))]) (show cdA 223 1 = some (.istore_n 1, 1, 0, 0, 0) from rfl) (by decide) (fun _ h => h) ?_
  refine WS_lv (lv := [(0, .ref (A 179)), (1, .int (Int32.ofInt 0))]) (List.forall_mem_cons.mpr ⟨(List.Mem.tail _ (List.Mem.head _)), (List.forall_mem_cons.mpr ⟨(List.Mem.head _), (fun q h => absurd h List.not_mem_nil)⟩)⟩) ?_
  refine L2 ((12 - 0 : Int).toNat + 1) s 0 I F jRLx (fun j _ h => absurd h (by omega)) (by first | exact ⟨by decide, by decide⟩ | omega) (Nat.lt_succ_self _) ?_
  intro s2 x3 Is2 Fs2 JRLx_s2 Qs2 hs2
  have b4 : (0 : Int) ≤ iI s2 90 ∧ iI s2 90 ≤ 12 := Is2.1 90
  have JNQ_s2 : NQ s2 := fun j hj h => Qs2 j hj (by omega)
  exact w_vret X.1 q hRt (ax_d X (show cdA 223 93 = some (.return_, 1, 0, 0, 0) from rfl)) (Nat.zero_le _) (Nat.zero_le _) ⟨_, rfl, Is2, Fs2, JRLx_s2, JNQ_s2, rfl, trivial⟩
theorem k_asTold (G : GX l s0 D tys a0 dT) (I : Bd s) (jRLx : RLx s) {x : Int} (p0 : 0 ≤ x ∧ x ≤ 23) : CT l s0 D A dT 222 (rmN 222) [.ref (A 179), .int (Int32.ofInt x)] s (fun o t => Bd t ∧ Fm [] [202, 204, 205, 206, 207, 208, 209, 210, 211, 212, 213, 214, 215, 216, 217, 218, 219, 220, 221, 222, 223, 224, 225, 226, 227, 203] s t ∧ RLx t ∧ NQ t ∧ o = .inl none ∧ (True)) := by
  refine ct_of G (by decide) (Nat.le_of_ble_eq_true rfl) (fun k X E hRt hXt q => ?_)
  show WS k 0 [(0, .ref (A 179)), (1, .int (Int32.ofInt x))] [] _ 0 0
  have F : Fm [] [202, 204, 205, 206, 207, 208, 209, 210, 211, 212, 213, 214, 215, 216, 217, 218, 219, 220, 221, 222, 223, 224, 225, 226, 227, 203] s s := fm_rf _ _ s
  refine z_aload_n X (x := A 179) (show cdA 222 0 = some (.aload_n 0, 1, 0, 0, 0) from rfl) (List.Mem.head _) ?_
  refine z_callV X 179 (rm := rmN 223) (As := []) (st := []) (show cdA 222 1 = some (.invokevirtual 306, 3, 223, 0, 0) from rfl) rfl (by decide) rfl (by rw [E.1, E.2.1, E.2.2.1]; exact k_waysAsTold G I jRLx ) ⟨by rw [E.2.2.2]; exact (show (rmN 223).frames + 1 ≤ (rmN 222).frames by decide), by rw [E.2.2.2]; exact (show 8 + (mNL (miB 223) + 11) + (rmN 223).locals ≤ (rmN 222).locals by decide), by rw [E.2.2.2]; exact (show 0 + (rmN 223).cells ≤ (rmN 222).cells by decide), by rw [E.2.2.2]; exact (show 0 + (rmN 223).slots ≤ (rmN 222).slots by decide)⟩ (Nat.le_of_ble_eq_true rfl) (fun vv s1 hq => ?_) (fun ee s1 hq => ?_)
  rotate_left
  · obtain ⟨Is1, Fs1, JRLx_s1, JNQ_s1, hv, hps1⟩ := hq; cases hv
  obtain ⟨Is1, Fs1, JRLx_s1, JNQ_s1, hv, hps1⟩ := hq
  cases hv
  have Gs1 := fm_ts F Fs1 (by decide) (by decide)
  have JRLx_s1 : RLx s1 := RLx_fm Fs1 (by decide) jRLx
  show WS k 4 [(0, .ref (A 179)), (1, .int (Int32.ofInt x))] [] (Wd A dT s1) 0 0
  refine z_aload_n X (x := A 179) (show cdA 222 4 = some (.aload_n 0, 1, 0, 0, 0) from rfl) (List.Mem.head _) ?_
  refine z_load_n X (x := x) (show cdA 222 5 = some (.iload_n 1, 1, 0, 0, 0) from rfl) (List.Mem.tail _ (List.Mem.head _)) ?_
  refine z_callV X 179 (rm := rmN 224) (As := [.int (Int32.ofInt x)]) (st := []) (show cdA 222 6 = some (.invokevirtual 309, 3, 224, 0, 0) from rfl) rfl (by decide) rfl (by rw [E.1, E.2.1, E.2.2.1]; exact k_numbersIn G Is1 (by first | exact ⟨p0.1, p0.2⟩ | omega)) ⟨by rw [E.2.2.2]; exact (show (rmN 224).frames + 1 ≤ (rmN 222).frames by decide), by rw [E.2.2.2]; exact (show 8 + (mNL (miB 224) + 11) + (rmN 224).locals ≤ (rmN 222).locals by decide), by rw [E.2.2.2]; exact (show 0 + (rmN 224).cells ≤ (rmN 222).cells by decide), by rw [E.2.2.2]; exact (show 0 + (rmN 224).slots ≤ (rmN 222).slots by decide)⟩ (Nat.le_of_ble_eq_true rfl) (fun vv s3 hq => ?_) (fun ee s3 hq => ?_)
  rotate_left
  · obtain ⟨Is3, Fs3, hv, hps3⟩ := hq; cases hv
  obtain ⟨Is3, Fs3, hv, hps3⟩ := hq
  cases hv
  have Gs3 := fm_ts Gs1 Fs3 (by decide) (by decide)
  have JRLx_s3 : RLx s3 := RLx_fm Fs3 (by decide) JRLx_s1
  have JNQ_s3 : NQ s3 := NQ_fm Fs3 (by decide) JNQ_s1
  show WS k 9 [(0, .ref (A 179)), (1, .int (Int32.ofInt x))] [] (Wd A dT s3) 0 0
  exact w_vret X.1 q hRt (ax_d X (show cdA 222 9 = some (.return_, 1, 0, 0, 0) from rfl)) (Nat.zero_le _) (Nat.zero_le _) ⟨_, rfl, Is3, Gs3, JRLx_s3, JNQ_s3, rfl, trivial⟩
theorem k_goes (G : GX l s0 D tys a0 dT) (I : Bd s) {x y : Int} (p0 : 0 ≤ x ∧ x ≤ 11) (p1 : 0 ≤ y ∧ y < iC s 202 (x : Int).toNat) : CT l s0 D A dT 226 (rmN 226) [.ref (A 179), .int (Int32.ofInt x), .int (Int32.ofInt y)] s (fun o t => Bd t ∧ Fm [] [] s t ∧ ∃ e, o = .inl (some (.int (Int32.ofInt e))) ∧ rng e ∧ (0 ≤ e ∧ e ≤ 6)) := by
  refine ct_of G (by decide) (Nat.le_of_ble_eq_true rfl) (fun k X E hRt hXt q => ?_)
  show WS k 0 [(0, .ref (A 179)), (1, .int (Int32.ofInt x)), (2, .int (Int32.ofInt y))] [] _ 0 0
  have F : Fm [] [] s s := fm_rf _ _ s
  refine z_aload_n X (x := A 179) (show cdA 226 0 = some (.aload_n 0, 1, 0, 0, 0) from rfl) (List.Mem.head _) ?_
  refine s_getR X 179 (show cdA 226 1 = some (.getfield 58, 3, 12, 31, 0) from rfl) (by decide) rfl rfl ?_
  refine z_load_n X (x := x) (show cdA 226 4 = some (.iload_n 1, 1, 0, 0, 0) from rfl) (List.Mem.tail _ (List.Mem.head _)) ?_
  refine z_ald X 228 (show cdA 226 5 = some (.iaload, 1, 0, 0, 0) from rfl) (by decide) rfl (by first | exact p0.1 | omega) (show x < 12 by first | exact oq_0ddfcfee p0.2 | omega) (by decide) ?_
  have b1 : (0 : Int) ≤ iC s 202 (x).toNat ∧ iC s 202 (x).toNat ≤ 24 := I.2 202 _ (show (x).toNat < 12 by first | exact oq_9c5fa447 p0.2 | omega)
  refine z_const X (show cdA 226 6 = some (.iconst 1, 1, 0, 0, 0) from rfl) ?_
  refine z_icmp_ne X (t := 15) (show cdA 226 7 = some (.if_icmp .ne 8, 3, 1, 0, 0) from rfl) (by decide) (rng_to _) (by decide) (fun g2 => ?_) (fun g2 => ?_)
  ·
    refine z_load_n X (x := y) (show cdA 226 15 = some (.iload_n 2, 1, 0, 0, 0) from rfl) (List.Mem.tail _ (List.Mem.tail _ (List.Mem.head _))) ?_
    refine z_aload_n X (x := A 179) (show cdA 226 16 = some (.aload_n 0, 1, 0, 0, 0) from rfl) (List.Mem.head _) ?_
    refine s_getR X 179 (show cdA 226 17 = some (.getfield 58, 3, 12, 31, 0) from rfl) (by decide) rfl rfl ?_
    refine z_load_n X (x := x) (show cdA 226 20 = some (.iload_n 1, 1, 0, 0, 0) from rfl) (List.Mem.tail _ (List.Mem.head _)) ?_
    refine z_ald X 228 (show cdA 226 21 = some (.iaload, 1, 0, 0, 0) from rfl) (by decide) rfl (by first | exact p0.1 | omega) (show x < 12 by first | exact oq_0ddfcfee p0.2 | omega) (by decide) ?_
    have b3 : (0 : Int) ≤ iC s 202 (x).toNat ∧ iC s 202 (x).toNat ≤ 24 := I.2 202 _ (show (x).toNat < 12 by first | exact oq_9c5fa447 p0.2 | omega)
    refine z_const X (show cdA 226 22 = some (.iconst 1, 1, 0, 0, 0) from rfl) ?_
    refine z_sub X (show cdA 226 23 = some (.isub, 1, 0, 0, 0) from rfl) ?_
    refine z_icmp_ne X (t := 51) (show cdA 226 24 = some (.if_icmp .ne 27, 3, 1, 0, 0) from rfl) (by decide) ⟨by first | exact oq_fa4e5087 p1.1 | omega, by first | exact oq_cd47680f p1.2 b3.2 | omega⟩ ⟨by first | exact oq_c1e961c7 b3.1 | omega, by first | exact oq_0332e1ab b3.2 | omega⟩ (fun g4 => ?_) (fun g4 => ?_)
    ·
      refine z_aload_n X (x := A 179) (show cdA 226 51 = some (.aload_n 0, 1, 0, 0, 0) from rfl) (List.Mem.head _) ?_
      refine s_getR X 179 (show cdA 226 52 = some (.getfield 64, 3, 12, 33, 0) from rfl) (by decide) rfl rfl ?_
      refine z_load_n X (x := x) (show cdA 226 55 = some (.iload_n 1, 1, 0, 0, 0) from rfl) (List.Mem.tail _ (List.Mem.head _)) ?_
      refine z_aald X rw_230 (show cdA 226 56 = some (.aaload, 1, 0, 0, 0) from rfl) (by first | exact p0.1 | omega) (show x < 12 by first | exact oq_0ddfcfee p0.2 | omega) (by decide) ?_
      refine z_load_n X (x := y) (show cdA 226 57 = some (.iload_n 2, 1, 0, 0, 0) from rfl) (List.Mem.tail _ (List.Mem.tail _ (List.Mem.head _))) ?_
      refine z_ald2 X rw_230 (show cdA 226 58 = some (.iaload, 1, 0, 0, 0) from rfl) (show (x : Int).toNat < 12 by first | exact oq_9c5fa447 p0.2 | omega) (by first | exact p1.1 | omega) (show y < 24 by first | exact oq_8ff7beb9 p1.2 b3.2 | omega) (by decide) ?_
      have b5 : (0 : Int) ≤ (iC s (204 + (x : Int).toNat) (y : Int).toNat) ∧ (iC s (204 + (x : Int).toNat) (y : Int).toNat) ≤ 127 := rw_bd rw_230 I (show (x : Int).toNat < 12 by first | exact oq_9c5fa447 p0.2 | omega) (show (y : Int).toNat < 24 by first | exact oq_9e668fc9 p1.2 b3.2 | omega)
      refine z_aload_n X (x := A 179) (show cdA 226 59 = some (.aload_n 0, 1, 0, 0, 0) from rfl) (List.Mem.head _) ?_
      refine s_getR X 179 (show cdA 226 60 = some (.getfield 64, 3, 12, 33, 0) from rfl) (by decide) rfl rfl ?_
      refine z_load_n X (x := x) (show cdA 226 63 = some (.iload_n 1, 1, 0, 0, 0) from rfl) (List.Mem.tail _ (List.Mem.head _)) ?_
      refine z_aald X rw_230 (show cdA 226 64 = some (.aaload, 1, 0, 0, 0) from rfl) (by first | exact p0.1 | omega) (show x < 12 by first | exact oq_0ddfcfee p0.2 | omega) (by decide) ?_
      refine z_load_n X (x := y) (show cdA 226 65 = some (.iload_n 2, 1, 0, 0, 0) from rfl) (List.Mem.tail _ (List.Mem.tail _ (List.Mem.head _))) ?_
      refine z_const X (show cdA 226 66 = some (.iconst 1, 1, 0, 0, 0) from rfl) ?_
      refine z_add X (show cdA 226 67 = some (.iadd, 1, 0, 0, 0) from rfl) ?_
      refine z_ald2 X rw_230 (show cdA 226 68 = some (.iaload, 1, 0, 0, 0) from rfl) (show (x : Int).toNat < 12 by first | exact oq_9c5fa447 p0.2 | omega) (by first | exact oq_54f49eb5 p1.1 | omega) (show (y + 1) < 24 by first | exact oq_0152e793 g4 b3.2 p1.2 | omega) (by decide) ?_
      have b6 : (0 : Int) ≤ (iC s (204 + (x : Int).toNat) ((y + 1) : Int).toNat) ∧ (iC s (204 + (x : Int).toNat) ((y + 1) : Int).toNat) ≤ 127 := rw_bd rw_230 I (show (x : Int).toNat < 12 by first | exact oq_9c5fa447 p0.2 | omega) (show ((y + 1) : Int).toNat < 24 by first | exact oq_fa8c9353 g4 b3.2 p1.2 | omega)
      refine z_callS X (rm := rmN 225) (As := [.int (Int32.ofInt (iC s (204 + (x : Int).toNat) (y : Int).toNat)), .int (Int32.ofInt (iC s (204 + (x : Int).toNat) ((y + 1) : Int).toNat))]) (st := []) (show cdA 226 69 = some (.invokestatic 312, 3, 225, 1, 0) from rfl) rfl (by rw [E.1, E.2.1, E.2.2.1]; exact k_stepOf G I (by first | exact ⟨b5.1, b5.2⟩ | omega) (by first | exact ⟨b6.1, b6.2⟩ | omega)) ⟨by rw [E.2.2.2]; exact (show (rmN 225).frames + 1 ≤ (rmN 226).frames by decide), by rw [E.2.2.2]; exact (show 8 + (mNL (miB 225) + 11) + (rmN 225).locals ≤ (rmN 226).locals by decide), by rw [E.2.2.2]; exact (show 0 + (rmN 225).cells ≤ (rmN 226).cells by decide), by rw [E.2.2.2]; exact (show 0 + (rmN 225).slots ≤ (rmN 226).slots by decide)⟩ (Nat.le_of_ble_eq_true rfl) (fun vv s7 hq => ?_) (fun ee s7 hq => ?_)
      rotate_left
      · obtain ⟨Is7, Fs7, e8, hv, hrs7, hps7⟩ := hq; cases hv
      obtain ⟨Is7, Fs7, e8, hv, hrs7, hps7⟩ := hq
      cases hv
      have Gs7 := fm_ts F Fs7 (by decide) (by decide)
      show WS k 72 [(0, .ref (A 179)), (1, .int (Int32.ofInt x)), (2, .int (Int32.ofInt y))] [.int (Int32.ofInt e8)] (Wd A dT s7) 0 0
      exact w_iret X.1 q hRt rfl (ax_d X (show cdA 226 72 = some (.ireturn, 1, 0, 0, 0) from rfl)) (Nat.zero_le _) (Nat.zero_le _) ⟨_, rfl, Is7, Gs7, e8, rfl, hrs7, by first | exact ⟨hps7.1, oq_b982df86 hps7.2⟩ | omega⟩
    ·
      refine z_aload_n X (x := A 179) (show cdA 226 27 = some (.aload_n 0, 1, 0, 0, 0) from rfl) (List.Mem.head _) ?_
      refine s_getR X 179 (show cdA 226 28 = some (.getfield 64, 3, 12, 33, 0) from rfl) (by decide) rfl rfl ?_
      refine z_load_n X (x := x) (show cdA 226 31 = some (.iload_n 1, 1, 0, 0, 0) from rfl) (List.Mem.tail _ (List.Mem.head _)) ?_
      refine z_aald X rw_230 (show cdA 226 32 = some (.aaload, 1, 0, 0, 0) from rfl) (by first | exact p0.1 | omega) (show x < 12 by first | exact oq_0ddfcfee p0.2 | omega) (by decide) ?_
      refine z_load_n X (x := y) (show cdA 226 33 = some (.iload_n 2, 1, 0, 0, 0) from rfl) (List.Mem.tail _ (List.Mem.tail _ (List.Mem.head _))) ?_
      refine z_const X (show cdA 226 34 = some (.iconst 1, 1, 0, 0, 0) from rfl) ?_
      refine z_sub X (show cdA 226 35 = some (.isub, 1, 0, 0, 0) from rfl) ?_
      refine z_ald2 X rw_230 (show cdA 226 36 = some (.iaload, 1, 0, 0, 0) from rfl) (show (x : Int).toNat < 12 by first | exact oq_9c5fa447 p0.2 | omega) (by first | exact oq_35f9a344 g4 g2 p1.1 | omega) (show (y - 1) < 24 by first | exact oq_514020d0 g4 b3.2 | omega) (by decide) ?_
      have b9 : (0 : Int) ≤ (iC s (204 + (x : Int).toNat) ((y - 1) : Int).toNat) ∧ (iC s (204 + (x : Int).toNat) ((y - 1) : Int).toNat) ≤ 127 := rw_bd rw_230 I (show (x : Int).toNat < 12 by first | exact oq_9c5fa447 p0.2 | omega) (show ((y - 1) : Int).toNat < 24 by first | exact oq_4b444e5a g4 b3.2 | omega)
      refine z_aload_n X (x := A 179) (show cdA 226 37 = some (.aload_n 0, 1, 0, 0, 0) from rfl) (List.Mem.head _) ?_
      refine s_getR X 179 (show cdA 226 38 = some (.getfield 64, 3, 12, 33, 0) from rfl) (by decide) rfl rfl ?_
      refine z_load_n X (x := x) (show cdA 226 41 = some (.iload_n 1, 1, 0, 0, 0) from rfl) (List.Mem.tail _ (List.Mem.head _)) ?_
      refine z_aald X rw_230 (show cdA 226 42 = some (.aaload, 1, 0, 0, 0) from rfl) (by first | exact p0.1 | omega) (show x < 12 by first | exact oq_0ddfcfee p0.2 | omega) (by decide) ?_
      refine z_load_n X (x := y) (show cdA 226 43 = some (.iload_n 2, 1, 0, 0, 0) from rfl) (List.Mem.tail _ (List.Mem.tail _ (List.Mem.head _))) ?_
      refine z_ald2 X rw_230 (show cdA 226 44 = some (.iaload, 1, 0, 0, 0) from rfl) (show (x : Int).toNat < 12 by first | exact oq_9c5fa447 p0.2 | omega) (by first | exact p1.1 | omega) (show y < 24 by first | exact oq_9cfd8ba8 g4 b3.2 | omega) (by decide) ?_
      have b10 : (0 : Int) ≤ (iC s (204 + (x : Int).toNat) (y : Int).toNat) ∧ (iC s (204 + (x : Int).toNat) (y : Int).toNat) ≤ 127 := rw_bd rw_230 I (show (x : Int).toNat < 12 by first | exact oq_9c5fa447 p0.2 | omega) (show (y : Int).toNat < 24 by first | exact oq_bfe9ed15 g4 b3.2 | omega)
      refine z_callS X (rm := rmN 225) (As := [.int (Int32.ofInt (iC s (204 + (x : Int).toNat) ((y - 1) : Int).toNat)), .int (Int32.ofInt (iC s (204 + (x : Int).toNat) (y : Int).toNat))]) (st := []) (show cdA 226 45 = some (.invokestatic 312, 3, 225, 1, 0) from rfl) rfl (by rw [E.1, E.2.1, E.2.2.1]; exact k_stepOf G I (by first | exact ⟨b9.1, b9.2⟩ | omega) (by first | exact ⟨b10.1, b10.2⟩ | omega)) ⟨by rw [E.2.2.2]; exact (show (rmN 225).frames + 1 ≤ (rmN 226).frames by decide), by rw [E.2.2.2]; exact (show 8 + (mNL (miB 225) + 11) + (rmN 225).locals ≤ (rmN 226).locals by decide), by rw [E.2.2.2]; exact (show 0 + (rmN 225).cells ≤ (rmN 226).cells by decide), by rw [E.2.2.2]; exact (show 0 + (rmN 225).slots ≤ (rmN 226).slots by decide)⟩ (Nat.le_of_ble_eq_true rfl) (fun vv s11 hq => ?_) (fun ee s11 hq => ?_)
      rotate_left
      · obtain ⟨Is11, Fs11, e12, hv, hrs11, hps11⟩ := hq; cases hv
      obtain ⟨Is11, Fs11, e12, hv, hrs11, hps11⟩ := hq
      cases hv
      have Gs11 := fm_ts F Fs11 (by decide) (by decide)
      show WS k 48 [(0, .ref (A 179)), (1, .int (Int32.ofInt x)), (2, .int (Int32.ofInt y))] [.int (Int32.ofInt e12)] (Wd A dT s11) 0 0
      refine z_goto X (t := 72) (show cdA 226 48 = some (.goto 24, 3, 0, 0, 0) from rfl) (by decide) ?_
      exact w_iret X.1 q hRt rfl (ax_d X (show cdA 226 72 = some (.ireturn, 1, 0, 0, 0) from rfl)) (Nat.zero_le _) (Nat.zero_le _) ⟨_, rfl, Is11, Gs11, e12, rfl, hrs11, by first | exact ⟨hps11.1, oq_b982df86 hps11.2⟩ | omega⟩
  ·
    refine z_bipush X (show cdA 226 10 = some (.bipush 6, 2, 0, 0, 6) from rfl) ?_
    refine z_goto X (t := 72) (show cdA 226 12 = some (.goto 60, 3, 0, 0, 0) from rfl) (by decide) ?_
    exact w_iret X.1 q hRt rfl (ax_d X (show cdA 226 72 = some (.ireturn, 1, 0, 0, 0) from rfl)) (Nat.zero_le _) (Nat.zero_le _) ⟨_, rfl, I, F, 6, rfl, (by decide), by first | exact ⟨by decide, by decide⟩ | omega⟩
end M40
