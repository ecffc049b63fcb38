/-! The model: stream -/
def TDF (t : PS) : Prop := iI t 79 = 0 → TD t
theorem RLx_m {s : PS} {i : Nat} {x : Int32} (r : RLx s) (hi : iI s 90 ≤ (i : Int)) : RLx (uC s 162 i x) := fun j hj hs => by
  obtain ⟨r1, r2⟩ := r j hj hs
  have hs' : (j : Int) < iI s 90 := hs
  exact ⟨by rw [iC_n (by omega)]; exact r1, fun c hc => by rw [iC_n (by omega), iC_a (by omega)]; exact r2 c hc⟩
theorem RLx_l {s : PS} {k i : Nat} {x : Int32} (r : RLx s) (hi : iI s 90 ≤ (k : Int)) : RLx (uC s (178 + k) i x) := fun j hj hs => by
  obtain ⟨r1, r2⟩ := r j hj hs
  have hs' : (j : Int) < iI s 90 := hs
  by_cases e : 162 = 178 + k
  · omega
  · exact ⟨by rw [iC_a e]; exact r1, fun c hc => by rw [iC_a e, iC_a (by omega)]; exact r2 c hc⟩
theorem RLx_up {s : PS} {n : Int} (r : RLx s) (hn : iI s 90 = n) (h0 : 0 ≤ n ∧ n ≤ 11) (h1 : 1 ≤ iC s 162 (n : Int).toNat) (h2 : ∀ i : Nat, i < 128 → iC s (178 + (n : Int).toNat) i < iC s 162 (n : Int).toNat) : RLx (uI s 90 (Int32.ofInt (n + 1))) := fun j hj hs => by
  rw [iI_u ⟨by omega, by omega⟩] at hs
  show RW1 s j
  by_cases e : (j : Int) < n
  · exact r j hj (by omega)
  · have ej : j = (n : Int).toNat := by omega
    rw [ej]
    exact ⟨h1, h2⟩
theorem RLx_w {s : PS} {a i : Nat} {x : Int32} (r : RLx s) (h : a ≠ 162 ∧ ∀ j, j < 12 → 178 + j ≠ a) : RLx (uC s a i x) := fun j hj hs => by
  obtain ⟨r1, r2⟩ := r j hj hs
  exact ⟨by rw [iC_a (Ne.symm h.1)]; exact r1, fun c hc => by rw [iC_a (Ne.symm h.1), iC_a (h.2 j hj)]; exact r2 c hc⟩
section M55
variable {l : Launch} {s0 : State} {D : va_G} {tys : List (ClassId × FieldType)} {a0 : Array Value} {A : Nat → Nat} {dT : Nat → ClassId} {s : PS}
theorem k_stream (G : GX l s0 D tys a0 dT) (I : Bd s) (jRLx : RLx s) {x : Int} (p0 : rng x) : CT l s0 D A dT 200 (rmN 200) [.ref (A 179), .int (Int32.ofInt x)] s (fun o t => Bd t ∧ Fm [73, 74, 76, 90, 91, 77, 75, 78, 79, 80, 81] [165, 162, 166, 167, 168, 169, 170, 171, 172, 173, 174, 175, 176, 177, 178, 179, 180, 181, 182, 183, 184, 185, 186, 187, 188, 189] s t ∧ RLx t ∧ ∃ e, o = .inl (some (.int (Int32.ofInt e))) ∧ rng e ∧ ((0 ≤ x ∧ x ≤ iI s 74 ∧ x ≤ 100 ∧ iI t 74 = 0) ∨ ((x < 0 ∨ iI s 74 < x ∨ 100 < x) ∧ iI t 74 = iI s 74))) := by
  refine ct_of G (by decide) (Nat.le_of_ble_eq_true rfl) (fun k X E hRt hXt q => ?_)
  show WS k 0 [(0, .ref (A 179)), (1, .int (Int32.ofInt x))] [] _ 0 0
  have F : Fm [73, 74, 76, 90, 91, 77, 75, 78, 79, 80, 81] [165, 162, 166, 167, 168, 169, 170, 171, 172, 173, 174, 175, 176, 177, 178, 179, 180, 181, 182, 183, 184, 185, 186, 187, 188, 189] s s := fm_rf _ _ s
  have b1 : (0 : Int) ≤ iI s 73 ∧ iI s 73 ≤ 3 := I.1 73
  have b2 : (0 : Int) ≤ iI s 74 ∧ iI s 74 ≤ 200 := I.1 74
  have b3 : (0 : Int) ≤ iI s 77 ∧ iI s 77 ≤ 400 := I.1 77
  have b4 : (0 : Int) ≤ iI s 75 ∧ iI s 75 ≤ 200 := I.1 75
  have b5 : (0 : Int) ≤ iI s 79 ∧ iI s 79 ≤ 9 := I.1 79
  have b6 : (0 : Int) ≤ iI s 78 ∧ iI s 78 ≤ 8 := I.1 78
  have b7 : (0 : Int) ≤ iI s 90 ∧ iI s 90 ≤ 12 := I.1 90
  have b8 : (0 : Int) ≤ iI s 91 ∧ iI s 91 ≤ 24 := I.1 91
  have L94 : ∀ (n : Nat) (t : PS) (xv : Int), Bd t → Fm [73, 74, 76, 90, 91, 77, 75, 78, 79, 80, 81] [165, 162, 166, 167, 168, 169, 170, 171, 172, 173, 174, 175, 176, 177, 178, 179, 180, 181, 182, 183, 184, 185, 186, 187, 188, 189] s t → RLx t → (TDF t) → ((0 ≤ x ∧ x ≤ iI s 74 ∧ x ≤ 100) ∧ iI t 74 = 0 ∧ iI t 75 = x ∧ iI t 77 ≤ 203 ∧ (iI t 79 = 0 → iI t 77 ≤ iI t 75 + 1) ∧ 1 ≤ iI t 91 ∧ iI t 90 = iI s 90 ∧ iI s 90 ≤ 11) → (400 - iI t 77 + (9 - iI t 79) : Int).toNat < n → (∀ (t' : PS), Bd t' → Fm [73, 74, 76, 90, 91, 77, 75, 78, 79, 80, 81] [165, 162, 166, 167, 168, 169, 170, 171, 172, 173, 174, 175, 176, 177, 178, 179, 180, 181, 182, 183, 184, 185, 186, 187, 188, 189] s t' → RLx t' → (TDF t') → ((0 ≤ x ∧ x ≤ iI s 74 ∧ x ≤ 100) ∧ iI t' 74 = 0 ∧ iI t' 75 = x ∧ iI t' 77 ≤ 203 ∧ (iI t' 79 = 0 → iI t' 77 ≤ iI t' 75 + 1) ∧ 1 ≤ iI t' 91 ∧ iI t' 90 = iI s 90 ∧ iI s 90 ≤ 11) → WS k 123 [(0, .ref (A 179)), (1, .int (Int32.ofInt xv))] [] (Wd A dT t') 0 0) → WS k 94 [(0, .ref (A 179)), (1, .int (Int32.ofInt xv))] [] (Wd A dT t) 0 0 := by
    intro n
    induction n with
    | zero =>
      intro t xv I F jjRLx hq hi hm kx
      exact absurd hm (Nat.not_lt_zero _)
    | succ n ih =>
      intro t xv I F jjRLx hq hi hm kx
      have b1001 : (0 : Int) ≤ iI t 73 ∧ iI t 73 ≤ 3 := I.1 73
      have b1002 : (0 : Int) ≤ iI t 74 ∧ iI t 74 ≤ 200 := I.1 74
      have b1003 : (0 : Int) ≤ iI t 77 ∧ iI t 77 ≤ 400 := I.1 77
      have b1004 : (0 : Int) ≤ iI t 75 ∧ iI t 75 ≤ 200 := I.1 75
      have b1005 : (0 : Int) ≤ iI t 79 ∧ iI t 79 ≤ 9 := I.1 79
      have b1006 : (0 : Int) ≤ iI t 78 ∧ iI t 78 ≤ 8 := I.1 78
      have b1007 : (0 : Int) ≤ iI t 90 ∧ iI t 90 ≤ 12 := I.1 90
      have b1008 : (0 : Int) ≤ iI t 91 ∧ iI t 91 ≤ 24 := I.1 91
      refine z_aload_n X (x := A 179) (show cdA 200 94 = some (.aload_n 0, 1, 0, 0, 0) from rfl) (List.Mem.head _) ?_
      refine z_getI X 179 (show cdA 200 95 = some (.getfield 191, 3, 12, 6, 0) from rfl) (by decide) rfl rfl ?_
      have b1009 : (0 : Int) ≤ iI t 79 ∧ iI t 79 ≤ 9 := I.1 79
      refine z_if_ne X (t := 123) (show cdA 200 98 = some (.ifCond .ne 25, 3, 1, 0, 0) from rfl) (by decide) (rng_to _) (fun g1010 => ?_) (fun g1010 => ?_)
      ·
        refine WS_lv (lv := [(0, .ref (A 179)), (1, .int (Int32.ofInt xv))]) (List.forall_mem_cons.mpr ⟨(List.Mem.head _), (List.forall_mem_cons.mpr ⟨(List.Mem.tail _ (List.Mem.head _)), (fun q h => absurd h List.not_mem_nil)⟩)⟩) ?_
        exact kx _  I F jjRLx hq (by first | exact ⟨And.intro (hi.1.1) (And.intro (hi.1.2.1) (hi.1.2.2)), hi.2.1, hi.2.2.1, hi.2.2.2.1, hi.2.2.2.2.1, hi.2.2.2.2.2.1, hi.2.2.2.2.2.2.1, hi.2.2.2.2.2.2.2⟩ | omega)
      ·
        refine z_aload_n X (x := A 179) (show cdA 200 101 = some (.aload_n 0, 1, 0, 0, 0) from rfl) (List.Mem.head _) ?_
        refine z_getI X 179 (show cdA 200 102 = some (.getfield 184, 3, 12, 4, 0) from rfl) (by decide) rfl rfl ?_
        have b1011 : (0 : Int) ≤ iI t 77 ∧ iI t 77 ≤ 400 := I.1 77
        refine z_aload_n X (x := A 179) (show cdA 200 105 = some (.aload_n 0, 1, 0, 0, 0) from rfl) (List.Mem.head _) ?_
        refine z_getI X 179 (show cdA 200 106 = some (.getfield 178, 3, 12, 2, 0) from rfl) (by decide) rfl rfl ?_
        have b1012 : (0 : Int) ≤ iI t 75 ∧ iI t 75 ≤ 200 := I.1 75
        refine z_icmp_ge X (t := 123) (show cdA 200 109 = some (.if_icmp .ge 14, 3, 3, 0, 0) from rfl) (by decide) (rng_to _) (rng_to _) (fun g1013 => ?_) (fun g1013 => ?_)
        ·
          refine WS_lv (lv := [(0, .ref (A 179)), (1, .int (Int32.ofInt xv))]) (List.forall_mem_cons.mpr ⟨(List.Mem.head _), (List.forall_mem_cons.mpr ⟨(List.Mem.tail _ (List.Mem.head _)), (fun q h => absurd h List.not_mem_nil)⟩)⟩) ?_
          exact kx _  I F jjRLx hq (by first | exact ⟨And.intro (hi.1.1) (And.intro (hi.1.2.1) (hi.1.2.2)), hi.2.1, hi.2.2.1, hi.2.2.2.1, hi.2.2.2.2.1, hi.2.2.2.2.2.1, hi.2.2.2.2.2.2.1, hi.2.2.2.2.2.2.2⟩ | omega)
        ·
          have JTD_t : TD t := hq (by omega)
          refine z_aload_n X (x := A 179) (show cdA 200 112 = some (.aload_n 0, 1, 0, 0, 0) from rfl) (List.Mem.head _) ?_
          refine z_callV X 179 (rm := rmN 199) (As := []) (st := []) (show cdA 200 113 = some (.invokevirtual 240, 3, 199, 0, 0) from rfl) rfl (by decide) rfl (by rw [E.1, E.2.1, E.2.2.1]; exact k_move G I JTD_t (by first | exact oq_c9c52c8f hi.2.2.2.1 | omega) (by first | exact hi.2.2.2.2.2.1 | omega)) ⟨by rw [E.2.2.2]; exact (show (rmN 199).frames + 1 ≤ (rmN 200).frames by decide), by rw [E.2.2.2]; exact (show 8 + (mNL (miB 199) + 11) + (rmN 199).locals ≤ (rmN 200).locals by decide), by rw [E.2.2.2]; exact (show 0 + (rmN 199).cells ≤ (rmN 200).cells by decide), by rw [E.2.2.2]; exact (show 0 + (rmN 199).slots ≤ (rmN 200).slots by decide)⟩ (Nat.le_of_ble_eq_true rfl) (fun vv s1014 hq => ?_) (fun ee s1014 hq => ?_)
          rotate_left
          · obtain ⟨Is1014, Fs1014, JTD_s1014, hv, hps1014⟩ := hq; cases hv
          obtain ⟨Is1014, Fs1014, JTD_s1014, hv, hps1014⟩ := hq
          cases hv
          have Gs1014 := fm_ts F Fs1014 (by decide) (by decide)
          have JRLx_s1014 : RLx s1014 := RLx_fm Fs1014 (by decide) jjRLx
          have ws1014_73 : iI s1014 73 = iI t 73 := fm_i Fs1014 (by decide)
          have ws1014_74 : iI s1014 74 = iI t 74 := fm_i Fs1014 (by decide)
          have b1016 : (0 : Int) ≤ iI s1014 77 ∧ iI s1014 77 ≤ 400 := Is1014.1 77
          have ws1014_75 : iI s1014 75 = iI t 75 := fm_i Fs1014 (by decide)
          have b1017 : (0 : Int) ≤ iI s1014 79 ∧ iI s1014 79 ≤ 9 := Is1014.1 79
          have ws1014_78 : iI s1014 78 = iI t 78 := fm_i Fs1014 (by decide)
          have ws1014_90 : iI s1014 90 = iI t 90 := fm_i Fs1014 (by decide)
          have b1018 : (0 : Int) ≤ iI s1014 91 ∧ iI s1014 91 ≤ 24 := Is1014.1 91
          show WS k 116 [(0, .ref (A 179)), (1, .int (Int32.ofInt xv))] [] (Wd A dT s1014) 0 0
          refine z_aload_n X (x := A 179) (show cdA 200 116 = some (.aload_n 0, 1, 0, 0, 0) from rfl) (List.Mem.head _) ?_
          refine z_callV X 179 (rm := rmN 193) (As := []) (st := []) (show cdA 200 117 = some (.invokevirtual 197, 3, 193, 0, 0) from rfl) rfl (by decide) rfl (by rw [E.1, E.2.1, E.2.2.1]; exact k_blanks G Is1014 (by first | exact oq_340fc885 hps1014.2.1 hi.2.2.2.1 hi.2.2.1 hi.1.2.2 | omega)) ⟨by rw [E.2.2.2]; exact (show (rmN 193).frames + 1 ≤ (rmN 200).frames by decide), by rw [E.2.2.2]; exact (show 8 + (mNL (miB 193) + 11) + (rmN 193).locals ≤ (rmN 200).locals by decide), by rw [E.2.2.2]; exact (show 0 + (rmN 193).cells ≤ (rmN 200).cells by decide), by rw [E.2.2.2]; exact (show 0 + (rmN 193).slots ≤ (rmN 200).slots by decide)⟩ (Nat.le_of_ble_eq_true rfl) (fun vv s1019 hq => ?_) (fun ee s1019 hq => ?_)
          rotate_left
          · obtain ⟨Is1019, Fs1019, hv, hps1019⟩ := hq; cases hv
          obtain ⟨Is1019, Fs1019, hv, hps1019⟩ := hq
          cases hv
          have Gs1019 := fm_ts Gs1014 Fs1019 (by decide) (by decide)
          have JRLx_s1019 : RLx s1019 := RLx_fm Fs1019 (by decide) JRLx_s1014
          have JTD_s1019 : TD s1019 := TD_fm Fs1019 (by decide) JTD_s1014
          have ws1019_73 : iI s1019 73 = iI s1014 73 := fm_i Fs1019 (by decide)
          have ws1019_74 : iI s1019 74 = iI s1014 74 := fm_i Fs1019 (by decide)
          have b1021 : (0 : Int) ≤ iI s1019 77 ∧ iI s1019 77 ≤ 400 := Is1019.1 77
          have ws1019_75 : iI s1019 75 = iI s1014 75 := fm_i Fs1019 (by decide)
          have ws1019_79 : iI s1019 79 = iI s1014 79 := fm_i Fs1019 (by decide)
          have ws1019_78 : iI s1019 78 = iI s1014 78 := fm_i Fs1019 (by decide)
          have ws1019_90 : iI s1019 90 = iI s1014 90 := fm_i Fs1019 (by decide)
          have ws1019_91 : iI s1019 91 = iI s1014 91 := fm_i Fs1019 (by decide)
          show WS k 120 [(0, .ref (A 179)), (1, .int (Int32.ofInt xv))] [] (Wd A dT s1019) 0 0
          refine z_goto X (t := 94) (show cdA 200 120 = some (.goto (-26), 3, 0, 0, 0) from rfl) (by decide) ?_
          refine WS_lv (lv := [(0, .ref (A 179)), (1, .int (Int32.ofInt xv))]) (List.forall_mem_cons.mpr ⟨(List.Mem.head _), (List.forall_mem_cons.mpr ⟨(List.Mem.tail _ (List.Mem.head _)), (fun q h => absurd h List.not_mem_nil)⟩)⟩) ?_
          exact ih _ xv Is1019 Gs1019 JRLx_s1019 (fun _ => JTD_s1019) (by first | exact ⟨And.intro (hi.1.1) (And.intro (hi.1.2.1) (hi.1.2.2)), oq_7fe879e0 ws1019_74 ws1014_74 hi.2.1 b1002.1, oq_878618b1 ws1019_75 ws1014_75 hi.2.2.1, oq_0cb89ef4 hps1019.2 ws1014_75 hps1014.2.1 g1013 hi.2.2.1 hi.1.2.2, oq_8b437e93 ws1019_75 hps1019.2 ws1014_75 hps1014.2.1 g1013, oq_fed65c02 ws1019_91 hps1014.2.2.1, oq_d0d2714e ws1019_90 hi.2.2.2.2.2.2.1 ws1014_90, hi.2.2.2.2.2.2.2⟩ | omega) (by first | exact qk_me hm (oq_0f1f3919 ws1019_79 hps1019.1 b1017.1 hps1014.2.2.2.2 hps1014.1 g1010) (oq_faaf1092 g1010 b1011.2) | omega) kx
  have L161 : ∀ (n : Nat) (t : PS) (xv c : Int), Bd t → Fm [73, 74, 76, 90, 91, 77, 75, 78, 79, 80, 81] [165, 162, 166, 167, 168, 169, 170, 171, 172, 173, 174, 175, 176, 177, 178, 179, 180, 181, 182, 183, 184, 185, 186, 187, 188, 189] s t → RLx t → (TD t ∧ RLx t ∧ ∀ i : Nat, i < 128 → (i : Int) < c → iC t (178 + (iI s 90 : Int).toNat) i < iC t 162 (iI s 90 : Int).toNat) → ((0 ≤ x ∧ x ≤ iI s 74 ∧ x ≤ 100) ∧ iI t 74 = 0 ∧ 1 ≤ iI t 91 ∧ iI t 90 = iI s 90 ∧ iI s 90 ≤ 11 ∧ 0 ≤ c ∧ c ≤ 128 ∧ iC t 162 (iI s 90 : Int).toNat = iI t 91) → (128 - c : Int).toNat < n → (∀ (t' : PS) (c' : Int), Bd t' → Fm [73, 74, 76, 90, 91, 77, 75, 78, 79, 80, 81] [165, 162, 166, 167, 168, 169, 170, 171, 172, 173, 174, 175, 176, 177, 178, 179, 180, 181, 182, 183, 184, 185, 186, 187, 188, 189] s t' → RLx t' → (TD t' ∧ RLx t' ∧ ∀ i : Nat, i < 128 → (i : Int) < c' → iC t' (178 + (iI s 90 : Int).toNat) i < iC t' 162 (iI s 90 : Int).toNat) → ((0 ≤ x ∧ x ≤ iI s 74 ∧ x ≤ 100) ∧ iI t' 74 = 0 ∧ 1 ≤ iI t' 91 ∧ iI t' 90 = iI s 90 ∧ iI s 90 ≤ 11 ∧ c' = 128 ∧ iC t' 162 (iI s 90 : Int).toNat = iI t' 91) → WS k 186 [(0, .ref (A 179)), (1, .int (Int32.ofInt xv)), (2, .int (Int32.ofInt c'))] [] (Wd A dT t') 0 0) → WS k 161 [(0, .ref (A 179)), (1, .int (Int32.ofInt xv)), (2, .int (Int32.ofInt c))] [] (Wd A dT t) 0 0 := by
    intro n
    induction n with
    | zero =>
      intro t xv c I F jjRLx hq hi hm kx
      exact absurd hm (Nat.not_lt_zero _)
    | succ n ih =>
      intro t xv c I F jjRLx hq hi hm kx
      have b2001 : (0 : Int) ≤ iI t 73 ∧ iI t 73 ≤ 3 := I.1 73
      have b2002 : (0 : Int) ≤ iI t 74 ∧ iI t 74 ≤ 200 := I.1 74
      have b2003 : (0 : Int) ≤ iI t 77 ∧ iI t 77 ≤ 400 := I.1 77
      have b2004 : (0 : Int) ≤ iI t 75 ∧ iI t 75 ≤ 200 := I.1 75
      have b2005 : (0 : Int) ≤ iI t 79 ∧ iI t 79 ≤ 9 := I.1 79
      have b2006 : (0 : Int) ≤ iI t 78 ∧ iI t 78 ≤ 8 := I.1 78
      have b2007 : (0 : Int) ≤ iI t 90 ∧ iI t 90 ≤ 12 := I.1 90
      have b2008 : (0 : Int) ≤ iI t 91 ∧ iI t 91 ≤ 24 := I.1 91
      refine z_load_n X (x := c) (show cdA 200 161 = some (.iload_n 2, 1, 0, 0, 0) from rfl) (List.Mem.tail _ (List.Mem.tail _ (List.Mem.head _))) ?_
      refine z_sipush X (show cdA 200 162 = some (.sipush 128, 3, 0, 0, 128) from rfl) ?_
      refine z_icmp_ge X (t := 186) (show cdA 200 165 = some (.if_icmp .ge 21, 3, 3, 0, 0) from rfl) (by decide) ⟨by first | exact oq_fa4e5087 hi.2.2.2.2.2.1 | omega, by first | exact oq_4ee82282 hi.2.2.2.2.2.2.1 | omega⟩ (by decide) (fun g2009 => ?_) (fun g2009 => ?_)
      ·
        refine WS_lv (lv := [(0, .ref (A 179)), (1, .int (Int32.ofInt xv)), (2, .int (Int32.ofInt c))]) (List.forall_mem_cons.mpr ⟨(List.Mem.head _), (List.forall_mem_cons.mpr ⟨(List.Mem.tail _ (List.Mem.head _)), (List.forall_mem_cons.mpr ⟨(List.Mem.tail _ (List.Mem.tail _ (List.Mem.head _))), (fun q h => absurd h List.not_mem_nil)⟩)⟩)⟩) ?_
        exact kx _ c I F jjRLx hq (by first | exact ⟨And.intro (hi.1.1) (And.intro (hi.1.2.1) (hi.1.2.2)), hi.2.1, hi.2.2.1, hi.2.2.2.1, hi.2.2.2.2.1, oq_42fe298a hi.2.2.2.2.2.2.1 g2009, hi.2.2.2.2.2.2.2⟩ | omega)
      ·
        refine z_aload_n X (x := A 179) (show cdA 200 168 = some (.aload_n 0, 1, 0, 0, 0) from rfl) (List.Mem.head _) ?_
        refine s_getR X 179 (show cdA 200 169 = some (.getfield 52, 3, 12, 29, 0) from rfl) (by decide) rfl rfl ?_
        refine z_aload_n X (x := A 179) (show cdA 200 172 = some (.aload_n 0, 1, 0, 0, 0) from rfl) (List.Mem.head _) ?_
        refine z_getI X 179 (show cdA 200 173 = some (.getfield 233, 3, 12, 22, 0) from rfl) (by decide) rfl rfl ?_
        have b2010 : (0 : Int) ≤ iI t 90 ∧ iI t 90 ≤ 12 := I.1 90
        refine z_aald X rw_202 (show cdA 200 176 = some (.aaload, 1, 0, 0, 0) from rfl) (by first | exact b2010.1 | omega) (show (iI t 90) < 12 by first | exact oq_210fcd76 hi.2.2.2.1 hi.2.2.2.2.1 | omega) (by decide) ?_
        refine z_load_n X (x := c) (show cdA 200 177 = some (.iload_n 2, 1, 0, 0, 0) from rfl) (List.Mem.tail _ (List.Mem.tail _ (List.Mem.head _))) ?_
        refine z_const X (show cdA 200 178 = some (.iconst (-1), 1, 0, 0, 0) from rfl) ?_
        refine z_ast2 X rw_202 (show cdA 200 179 = some (.iastore, 1, 0, 0, 0) from rfl) (show ((iI t 90) : Int).toNat < 12 by first | exact oq_cba5df33 hi.2.2.2.1 hi.2.2.2.2.1 | omega) (by first | exact hi.2.2.2.2.2.1 | omega) (show c < 128 by first | exact g2009 | omega) (by decide) ?_
        obtain ⟨s2011, hs2011⟩ : ∃ x0, x0 = uC t (178 + ((iI t 90) : Int).toNat) (c : Int).toNat (Int32.ofInt (-1)) := ⟨_, rfl⟩
        rw [← hs2011]
        have Is2011 : Bd s2011 := by rw [hs2011]; exact rw_st rw_202 I (show ((iI t 90) : Int).toNat < 12 by first | exact oq_cba5df33 hi.2.2.2.1 hi.2.2.2.2.1 | omega) (show ((-1) : Int) ≤ (-1) ∧ (-1) ≤ 23 by first | exact ⟨by decide, by decide⟩ | omega) (by decide)
        have Fs2011 := fm_C (i := (c : Int).toNat) (x := Int32.ofInt (-1)) F ((show ∀ j, j < 12 → 178 + j ∈ _ by decide) ((iI t 90) : Int).toNat (by first | exact oq_cba5df33 hi.2.2.2.1 hi.2.2.2.2.1 | omega))
        rw [← hs2011] at Fs2011
        have ws2011_73 : iI s2011 73 = iI t 73 := by rw [hs2011]; rfl
        have ws2011_74 : iI s2011 74 = iI t 74 := by rw [hs2011]; rfl
        have ws2011_77 : iI s2011 77 = iI t 77 := by rw [hs2011]; rfl
        have ws2011_75 : iI s2011 75 = iI t 75 := by rw [hs2011]; rfl
        have ws2011_79 : iI s2011 79 = iI t 79 := by rw [hs2011]; rfl
        have ws2011_78 : iI s2011 78 = iI t 78 := by rw [hs2011]; rfl
        have ws2011_90 : iI s2011 90 = iI t 90 := by rw [hs2011]; rfl
        have ws2011_91 : iI s2011 91 = iI t 91 := by rw [hs2011]; rfl
        have fs2011 : Fm [] [178, 179, 180, 181, 182, 183, 184, 185, 186, 187, 188, 189] t s2011 := by rw [hs2011]; exact fm_C (fm_rf _ _ _) ((show ∀ j, j < 12 → 178 + j ∈ _ by decide) ((iI t 90) : Int).toNat (by first | exact oq_cba5df33 hi.2.2.2.1 hi.2.2.2.2.1 | omega))
        have JTD_s2011 : TD s2011 := TD_fm fs2011 (by decide) hq.1
        refine z_inc X (x := c) (lv' := [(2, .int (Int32.ofInt (c + 1))), (0, .ref (A 179)), (1, .int (Int32.ofInt xv))]) (show cdA 200 180 = some (.iinc 2 1, 3, 0, 0, 0) from rfl) (by decide) (List.Mem.tail _ (List.Mem.tail _ (List.Mem.head _))) (fun _ h => h) ?_
        refine z_goto X (t := 161) (show cdA 200 183 = some (.goto (-22), 3, 0, 0, 0) from rfl) (by decide) ?_
        refine WS_lv (lv := [(0, .ref (A 179)), (1, .int (Int32.ofInt xv)), (2, .int (Int32.ofInt (c + 1)))]) (List.forall_mem_cons.mpr ⟨(List.Mem.tail _ (List.Mem.head _)), (List.forall_mem_cons.mpr ⟨(List.Mem.tail _ (List.Mem.tail _ (List.Mem.head _))), (List.forall_mem_cons.mpr ⟨(List.Mem.head _), (fun q h => absurd h List.not_mem_nil)⟩)⟩)⟩) ?_
        have es_s2011 : iI t 90 = iI s 90 := by omega
        have vm_s2011 : iC s2011 162 (iI s 90 : Int).toNat = iC t 162 (iI s 90 : Int).toNat := by rw [hs2011, iC_a (by omega)]
        have hL2012 : TD s2011 ∧ RLx s2011 ∧ ∀ i : Nat, i < 128 → (i : Int) < (c + 1) → iC s2011 (178 + (iI s 90 : Int).toNat) i < iC s2011 162 (iI s 90 : Int).toNat := by
          refine ⟨JTD_s2011, by rw [hs2011, es_s2011]; exact RLx_l hq.2.1 (by omega), fun i hi h => ?_⟩
          rw [vm_s2011]
          by_cases e : i = (c : Int).toNat
          · rw [e, hs2011, es_s2011, iC_u ⟨by omega, by omega⟩]; omega
          · rw [hs2011, es_s2011, iC_n e]; exact hq.2.2 i hi (by omega)
        exact ih _ xv (c + 1) Is2011 Fs2011 hL2012.2.1 hL2012 (by first | exact ⟨And.intro (hi.1.1) (And.intro (hi.1.2.1) (hi.1.2.2)), oq_333640b7 ws2011_74 hi.2.1 b2002.1, oq_fed65c02 ws2011_91 hi.2.2.1, oq_1aa5be9e ws2011_90 es_s2011, hi.2.2.2.2.1, oq_54f49eb5 hi.2.2.2.2.2.1, oq_d2afb425 g2009, oq_f5ee3737 ws2011_91 vm_s2011 hi.2.2.2.2.2.2.2⟩ | omega) (by first | exact qk_me hm (by decide) (oq_c268b7bd g2009) | omega) kx
  have L188 : ∀ (n : Nat) (t : PS) (xv c : Int), Bd t → Fm [73, 74, 76, 90, 91, 77, 75, 78, 79, 80, 81] [165, 162, 166, 167, 168, 169, 170, 171, 172, 173, 174, 175, 176, 177, 178, 179, 180, 181, 182, 183, 184, 185, 186, 187, 188, 189] s t → RLx t → (TD t ∧ RLx t ∧ ∀ i : Nat, i < 128 → (i : Int) < 128 → iC t (178 + (iI s 90 : Int).toNat) i < iC t 162 (iI s 90 : Int).toNat) → ((0 ≤ x ∧ x ≤ iI s 74 ∧ x ≤ 100) ∧ iI t 74 = 0 ∧ 1 ≤ iI t 91 ∧ iI t 90 = iI s 90 ∧ iI s 90 ≤ 11 ∧ 0 ≤ c ∧ c ≤ 24 ∧ iC t 162 (iI s 90 : Int).toNat = iI t 91) → (24 - c : Int).toNat < n → (∀ (t' : PS) (c' : Int), Bd t' → Fm [73, 74, 76, 90, 91, 77, 75, 78, 79, 80, 81] [165, 162, 166, 167, 168, 169, 170, 171, 172, 173, 174, 175, 176, 177, 178, 179, 180, 181, 182, 183, 184, 185, 186, 187, 188, 189] s t' → RLx t' → (TD t' ∧ RLx t' ∧ ∀ i : Nat, i < 128 → (i : Int) < 128 → iC t' (178 + (iI s 90 : Int).toNat) i < iC t' 162 (iI s 90 : Int).toNat) → ((0 ≤ x ∧ x ≤ iI s 74 ∧ x ≤ 100) ∧ iI t' 74 = 0 ∧ 1 ≤ iI t' 91 ∧ iI t' 90 = iI s 90 ∧ iI s 90 ≤ 11 ∧ 0 ≤ c' ∧ c' ≤ 24 ∧ iC t' 162 (iI s 90 : Int).toNat = iI t' 91) → WS k 236 [(0, .ref (A 179)), (1, .int (Int32.ofInt xv)), (2, .int (Int32.ofInt c'))] [] (Wd A dT t') 0 0) → WS k 188 [(0, .ref (A 179)), (1, .int (Int32.ofInt xv)), (2, .int (Int32.ofInt c))] [] (Wd A dT t) 0 0 := by
    intro n
    induction n with
    | zero =>
      intro t xv c I F jjRLx hq hi hm kx
      exact absurd hm (Nat.not_lt_zero _)
    | succ n ih =>
      intro t xv c I F jjRLx hq hi hm kx
      have b3001 : (0 : Int) ≤ iI t 73 ∧ iI t 73 ≤ 3 := I.1 73
      have b3002 : (0 : Int) ≤ iI t 74 ∧ iI t 74 ≤ 200 := I.1 74
      have b3003 : (0 : Int) ≤ iI t 77 ∧ iI t 77 ≤ 400 := I.1 77
      have b3004 : (0 : Int) ≤ iI t 75 ∧ iI t 75 ≤ 200 := I.1 75
      have b3005 : (0 : Int) ≤ iI t 79 ∧ iI t 79 ≤ 9 := I.1 79
      have b3006 : (0 : Int) ≤ iI t 78 ∧ iI t 78 ≤ 8 := I.1 78
      have b3007 : (0 : Int) ≤ iI t 90 ∧ iI t 90 ≤ 12 := I.1 90
      have b3008 : (0 : Int) ≤ iI t 91 ∧ iI t 91 ≤ 24 := I.1 91
      refine z_load_n X (x := c) (show cdA 200 188 = some (.iload_n 2, 1, 0, 0, 0) from rfl) (List.Mem.tail _ (List.Mem.tail _ (List.Mem.head _))) ?_
      refine z_aload_n X (x := A 179) (show cdA 200 189 = some (.aload_n 0, 1, 0, 0, 0) from rfl) (List.Mem.head _) ?_
      refine z_getI X 179 (show cdA 200 190 = some (.getfield 216, 3, 12, 27, 0) from rfl) (by decide) rfl rfl ?_
      have b3009 : (0 : Int) ≤ iI t 91 ∧ iI t 91 ≤ 24 := I.1 91
      refine z_icmp_ge X (t := 236) (show cdA 200 193 = some (.if_icmp .ge 43, 3, 3, 0, 0) from rfl) (by decide) ⟨by first | exact oq_fa4e5087 hi.2.2.2.2.2.1 | omega, by first | exact oq_5bcd337f hi.2.2.2.2.2.2.1 | omega⟩ (rng_to _) (fun g3010 => ?_) (fun g3010 => ?_)
      ·
        refine WS_lv (lv := [(0, .ref (A 179)), (1, .int (Int32.ofInt xv)), (2, .int (Int32.ofInt c))]) (List.forall_mem_cons.mpr ⟨(List.Mem.head _), (List.forall_mem_cons.mpr ⟨(List.Mem.tail _ (List.Mem.head _)), (List.forall_mem_cons.mpr ⟨(List.Mem.tail _ (List.Mem.tail _ (List.Mem.head _))), (fun q h => absurd h List.not_mem_nil)⟩)⟩)⟩) ?_
        exact kx _ c I F jjRLx hq (by first | exact ⟨And.intro (hi.1.1) (And.intro (hi.1.2.1) (hi.1.2.2)), hi.2.1, hi.2.2.1, hi.2.2.2.1, hi.2.2.2.2.1, hi.2.2.2.2.2.1, hi.2.2.2.2.2.2.1, hi.2.2.2.2.2.2.2⟩ | omega)
      ·
        refine z_aload_n X (x := A 179) (show cdA 200 196 = some (.aload_n 0, 1, 0, 0, 0) from rfl) (List.Mem.head _) ?_
        refine s_getR X 179 (show cdA 200 197 = some (.getfield 49, 3, 12, 28, 0) from rfl) (by decide) rfl rfl ?_
        refine z_aload_n X (x := A 179) (show cdA 200 200 = some (.aload_n 0, 1, 0, 0, 0) from rfl) (List.Mem.head _) ?_
        refine z_getI X 179 (show cdA 200 201 = some (.getfield 233, 3, 12, 22, 0) from rfl) (by decide) rfl rfl ?_
        have b3011 : (0 : Int) ≤ iI t 90 ∧ iI t 90 ≤ 12 := I.1 90
        refine z_aald X rw_189 (show cdA 200 204 = some (.aaload, 1, 0, 0, 0) from rfl) (by first | exact b3011.1 | omega) (show (iI t 90) < 12 by first | exact oq_210fcd76 hi.2.2.2.1 hi.2.2.2.2.1 | omega) (by decide) ?_
        refine z_load_n X (x := c) (show cdA 200 205 = some (.iload_n 2, 1, 0, 0, 0) from rfl) (List.Mem.tail _ (List.Mem.tail _ (List.Mem.head _))) ?_
        refine z_aload_n X (x := A 179) (show cdA 200 206 = some (.aload_n 0, 1, 0, 0, 0) from rfl) (List.Mem.head _) ?_
        refine s_getR X 179 (show cdA 200 207 = some (.getfield 44, 3, 12, 26, 0) from rfl) (by decide) rfl rfl ?_
        refine z_load_n X (x := c) (show cdA 200 210 = some (.iload_n 2, 1, 0, 0, 0) from rfl) (List.Mem.tail _ (List.Mem.tail _ (List.Mem.head _))) ?_
        have hT3012 := hq.1 (c : Int).toNat (by omega)
        refine z_ald X 188 (show cdA 200 211 = some (.iaload, 1, 0, 0, 0) from rfl) (by decide) rfl (by first | exact hi.2.2.2.2.2.1 | omega) (show c < 24 by first | exact oq_8ff7beb9 g3010 b3009.2 | omega) (by decide) ?_
        have b3013 : ((-2147483648) : Int) ≤ iC t 165 (c).toNat ∧ iC t 165 (c).toNat ≤ 2147483647 := I.2 165 _ (show (c).toNat < 24 by first | exact oq_9e668fc9 g3010 b3009.2 | omega)
        refine z_ast2 X rw_189 (show cdA 200 212 = some (.iastore, 1, 0, 0, 0) from rfl) (show ((iI t 90) : Int).toNat < 12 by first | exact oq_cba5df33 hi.2.2.2.1 hi.2.2.2.2.1 | omega) (by first | exact hi.2.2.2.2.2.1 | omega) (show c < 24 by first | exact oq_8ff7beb9 g3010 b3009.2 | omega) (by decide) ?_
        obtain ⟨s3014, hs3014⟩ : ∃ x0, x0 = uC t (166 + ((iI t 90) : Int).toNat) (c : Int).toNat (Int32.ofInt (iC t 165 (c).toNat)) := ⟨_, rfl⟩
        rw [← hs3014]
        have Is3014 : Bd s3014 := by rw [hs3014]; exact rw_st rw_189 I (show ((iI t 90) : Int).toNat < 12 by first | exact oq_cba5df33 hi.2.2.2.1 hi.2.2.2.2.1 | omega) (show (0 : Int) ≤ (iC t 165 (c).toNat) ∧ (iC t 165 (c).toNat) ≤ 127 by omega) (rng_to _)
        have Fs3014 := fm_C (i := (c : Int).toNat) (x := Int32.ofInt (iC t 165 (c).toNat)) F ((show ∀ j, j < 12 → 166 + j ∈ _ by decide) ((iI t 90) : Int).toNat (by first | exact oq_cba5df33 hi.2.2.2.1 hi.2.2.2.2.1 | omega))
        rw [← hs3014] at Fs3014
        have ws3014_73 : iI s3014 73 = iI t 73 := by rw [hs3014]; rfl
        have ws3014_74 : iI s3014 74 = iI t 74 := by rw [hs3014]; rfl
        have ws3014_77 : iI s3014 77 = iI t 77 := by rw [hs3014]; rfl
        have ws3014_75 : iI s3014 75 = iI t 75 := by rw [hs3014]; rfl
        have ws3014_79 : iI s3014 79 = iI t 79 := by rw [hs3014]; rfl
        have ws3014_78 : iI s3014 78 = iI t 78 := by rw [hs3014]; rfl
        have ws3014_90 : iI s3014 90 = iI t 90 := by rw [hs3014]; rfl
        have ws3014_91 : iI s3014 91 = iI t 91 := by rw [hs3014]; rfl
        have fs3014 : Fm [] [166, 167, 168, 169, 170, 171, 172, 173, 174, 175, 176, 177] t s3014 := by rw [hs3014]; exact fm_C (fm_rf _ _ _) ((show ∀ j, j < 12 → 166 + j ∈ _ by decide) ((iI t 90) : Int).toNat (by first | exact oq_cba5df33 hi.2.2.2.1 hi.2.2.2.2.1 | omega))
        have JRLx_s3014 : RLx s3014 := RLx_fm fs3014 (by decide) jjRLx
        have JTD_s3014 : TD s3014 := TD_fm fs3014 (by decide) hq.1
        refine z_aload_n X (x := A 179) (show cdA 200 213 = some (.aload_n 0, 1, 0, 0, 0) from rfl) (List.Mem.head _) ?_
        refine s_getR X 179 (show cdA 200 214 = some (.getfield 52, 3, 12, 29, 0) from rfl) (by decide) rfl rfl ?_
        refine z_aload_n X (x := A 179) (show cdA 200 217 = some (.aload_n 0, 1, 0, 0, 0) from rfl) (List.Mem.head _) ?_
        refine z_getI X 179 (show cdA 200 218 = some (.getfield 233, 3, 12, 22, 0) from rfl) (by decide) rfl rfl ?_
        have b3015 : (0 : Int) ≤ iI s3014 90 ∧ iI s3014 90 ≤ 12 := Is3014.1 90
        refine z_aald X rw_202 (show cdA 200 221 = some (.aaload, 1, 0, 0, 0) from rfl) (by first | exact b3015.1 | omega) (show (iI s3014 90) < 12 by first | exact oq_e2284db0 ws3014_90 hi.2.2.2.1 hi.2.2.2.2.1 | omega) (by decide) ?_
        refine z_aload_n X (x := A 179) (show cdA 200 222 = some (.aload_n 0, 1, 0, 0, 0) from rfl) (List.Mem.head _) ?_
        refine s_getR X 179 (show cdA 200 223 = some (.getfield 44, 3, 12, 26, 0) from rfl) (by decide) rfl rfl ?_
        refine z_load_n X (x := c) (show cdA 200 226 = some (.iload_n 2, 1, 0, 0, 0) from rfl) (List.Mem.tail _ (List.Mem.tail _ (List.Mem.head _))) ?_
        have hT3016 := JTD_s3014 (c : Int).toNat (by omega)
        refine z_ald X 188 (show cdA 200 227 = some (.iaload, 1, 0, 0, 0) from rfl) (by decide) rfl (by first | exact hi.2.2.2.2.2.1 | omega) (show c < 24 by first | exact oq_8ff7beb9 g3010 b3009.2 | omega) (by decide) ?_
        have b3017 : ((-2147483648) : Int) ≤ iC s3014 165 (c).toNat ∧ iC s3014 165 (c).toNat ≤ 2147483647 := Is3014.2 165 _ (show (c).toNat < 24 by first | exact oq_9e668fc9 g3010 b3009.2 | omega)
        refine z_load_n X (x := c) (show cdA 200 228 = some (.iload_n 2, 1, 0, 0, 0) from rfl) (List.Mem.tail _ (List.Mem.tail _ (List.Mem.head _))) ?_
        refine z_ast2 X rw_202 (show cdA 200 229 = some (.iastore, 1, 0, 0, 0) from rfl) (show ((iI s3014 90) : Int).toNat < 12 by first | exact oq_29bc6d1f ws3014_90 hi.2.2.2.1 hi.2.2.2.2.1 | omega) (by omega) (show (iC s3014 165 (c).toNat) < 128 by omega) (by decide) ?_
        obtain ⟨s3018, hs3018⟩ : ∃ x0, x0 = uC s3014 (178 + ((iI s3014 90) : Int).toNat) ((iC s3014 165 (c).toNat) : Int).toNat (Int32.ofInt c) := ⟨_, rfl⟩
        rw [← hs3018]
        have Is3018 : Bd s3018 := by rw [hs3018]; exact rw_st rw_202 Is3014 (show ((iI s3014 90) : Int).toNat < 12 by first | exact oq_29bc6d1f ws3014_90 hi.2.2.2.1 hi.2.2.2.2.1 | omega) (show ((-1) : Int) ≤ c ∧ c ≤ 23 by first | exact ⟨oq_ca54ea22 hi.2.2.2.2.2.1, oq_10212474 g3010 b3009.2⟩ | omega) ⟨by first | exact oq_fa4e5087 hi.2.2.2.2.2.1 | omega, by first | exact oq_5bcd337f hi.2.2.2.2.2.2.1 | omega⟩
        have Fs3018 := fm_C (i := ((iC s3014 165 (c).toNat) : Int).toNat) (x := Int32.ofInt c) Fs3014 ((show ∀ j, j < 12 → 178 + j ∈ _ by decide) ((iI s3014 90) : Int).toNat (by first | exact oq_29bc6d1f ws3014_90 hi.2.2.2.1 hi.2.2.2.2.1 | omega))
        rw [← hs3018] at Fs3018
        have ws3018_73 : iI s3018 73 = iI s3014 73 := by rw [hs3018]; rfl
        have ws3018_74 : iI s3018 74 = iI s3014 74 := by rw [hs3018]; rfl
        have ws3018_77 : iI s3018 77 = iI s3014 77 := by rw [hs3018]; rfl
        have ws3018_75 : iI s3018 75 = iI s3014 75 := by rw [hs3018]; rfl
        have ws3018_79 : iI s3018 79 = iI s3014 79 := by rw [hs3018]; rfl
        have ws3018_78 : iI s3018 78 = iI s3014 78 := by rw [hs3018]; rfl
        have ws3018_90 : iI s3018 90 = iI s3014 90 := by rw [hs3018]; rfl
        have ws3018_91 : iI s3018 91 = iI s3014 91 := by rw [hs3018]; rfl
        have fs3018 : Fm [] [178, 179, 180, 181, 182, 183, 184, 185, 186, 187, 188, 189] s3014 s3018 := by rw [hs3018]; exact fm_C (fm_rf _ _ _) ((show ∀ j, j < 12 → 178 + j ∈ _ by decide) ((iI s3014 90) : Int).toNat (by first | exact oq_29bc6d1f ws3014_90 hi.2.2.2.1 hi.2.2.2.2.1 | omega))
        have JTD_s3018 : TD s3018 := TD_fm fs3018 (by decide) JTD_s3014
        refine z_inc X (x := c) (lv' := [(2, .int (Int32.ofInt (c + 1))), (0, .ref (A 179)), (1, .int (Int32.ofInt xv))]) (show cdA 200 230 = some (.iinc 2 1, 3, 0, 0, 0) from rfl) (by decide) (List.Mem.tail _ (List.Mem.tail _ (List.Mem.head _))) (fun _ h => h) ?_
        refine z_goto X (t := 188) (show cdA 200 233 = some (.goto (-45), 3, 0, 0, 0) from rfl) (by decide) ?_
        refine WS_lv (lv := [(0, .ref (A 179)), (1, .int (Int32.ofInt xv)), (2, .int (Int32.ofInt (c + 1)))]) (List.forall_mem_cons.mpr ⟨(List.Mem.tail _ (List.Mem.head _)), (List.forall_mem_cons.mpr ⟨(List.Mem.tail _ (List.Mem.tail _ (List.Mem.head _))), (List.forall_mem_cons.mpr ⟨(List.Mem.head _), (fun q h => absurd h List.not_mem_nil)⟩)⟩)⟩) ?_
        have es_s3018 : iI s3014 90 = iI s 90 := by omega
        have eo_s3018 : iI t 90 = iI s 90 := by omega
        have vm_s3018 : iC s3018 162 (iI s 90 : Int).toNat = iC t 162 (iI s 90 : Int).toNat := by rw [hs3018, iC_a (by omega), hs3014, iC_a (by omega)]
        have rl_s3018 : RLx s3014 := by rw [hs3014]; exact RLx_w hq.2.1 ⟨by omega, fun j hj => by omega⟩
        have hL3019 : TD s3018 ∧ RLx s3018 ∧ ∀ i : Nat, i < 128 → (i : Int) < 128 → iC s3018 (178 + (iI s 90 : Int).toNat) i < iC s3018 162 (iI s 90 : Int).toNat := by
          refine ⟨JTD_s3018, by rw [hs3018, es_s3018]; exact RLx_l rl_s3018 (by omega), fun i hi h => ?_⟩
          rw [vm_s3018]
          by_cases e : i = ((iC s3014 165 (c).toNat) : Int).toNat
          · rw [e, hs3018, es_s3018, iC_u ⟨by omega, by omega⟩]; omega
          · rw [hs3018, es_s3018, iC_n e, hs3014, iC_a (by omega)]; exact hq.2.2 i hi (by omega)
        exact ih _ xv (c + 1) Is3018 Fs3018 hL3019.2.1 hL3019 (by first | exact ⟨And.intro (hi.1.1) (And.intro (hi.1.2.1) (hi.1.2.2)), oq_7fe879e0 ws3018_74 ws3014_74 hi.2.1 b3002.1, oq_48a46d4a ws3018_91 ws3014_91 hi.2.2.1, oq_1aa5be9e ws3018_90 es_s3018, hi.2.2.2.2.1, oq_54f49eb5 hi.2.2.2.2.2.1, oq_41473be0 g3010 b3009.2, oq_123e5d3a ws3018_91 vm_s3018 ws3014_91 hi.2.2.2.2.2.2.2⟩ | omega) (by first | exact qk_me hm (by decide) (oq_9dea93e6 g3010 b3009.2) | omega) kx
  refine z_aload_n X (x := A 179) (show cdA 200 0 = some (.aload_n 0, 1, 0, 0, 0) from rfl) (List.Mem.head _) ?_
  refine z_const X (show cdA 200 1 = some (.iconst 0, 1, 0, 0, 0) from rfl) ?_
  refine s_putI X 179 (show cdA 200 2 = some (.putfield 172, 3, 12, 0, 0) from rfl) (by decide) rfl rfl (by decide) rfl rfl rfl ?_
  obtain ⟨s9, hs9⟩ : ∃ x0, x0 = uI s 73 (Int32.ofInt 0) := ⟨_, rfl⟩
  rw [← hs9]
  have Is9 : Bd s9 := by rw [hs9]; exact bd_I I (show (0 : Int) ≤ 0 ∧ 0 ≤ 3 by first | exact ⟨by decide, by decide⟩ | omega) (by decide)
  have Fs9 := fm_I (x := Int32.ofInt 0) F (show 73 ∈ _ by decide)
  rw [← hs9] at Fs9
  have vs9 : iI s9 73 = 0 := by rw [hs9]; exact iI_u (by decide)
  have ws9_74 : iI s9 74 = iI s 74 := by rw [hs9]; rfl
  have ws9_77 : iI s9 77 = iI s 77 := by rw [hs9]; rfl
  have ws9_75 : iI s9 75 = iI s 75 := by rw [hs9]; rfl
  have ws9_79 : iI s9 79 = iI s 79 := by rw [hs9]; rfl
  have ws9_78 : iI s9 78 = iI s 78 := by rw [hs9]; rfl
  have ws9_90 : iI s9 90 = iI s 90 := by rw [hs9]; rfl
  have ws9_91 : iI s9 91 = iI s 91 := by rw [hs9]; rfl
  have fs9 : Fm [73] [] s s9 := by rw [hs9]; exact fm_I (fm_rf _ _ _) (show 73 ∈ _ by decide)
  have JRLx_s9 : RLx s9 := RLx_fm fs9 (by decide) jRLx
  refine z_aload_n X (x := A 179) (show cdA 200 5 = some (.aload_n 0, 1, 0, 0, 0) from rfl) (List.Mem.head _) ?_
  refine z_load_n X (x := x) (show cdA 200 6 = some (.iload_n 1, 1, 0, 0, 0) from rfl) (List.Mem.tail _ (List.Mem.head _)) ?_
  refine z_const X (show cdA 200 7 = some (.iconst 0, 1, 0, 0, 0) from rfl) ?_
  refine z_aload_n X (x := A 179) (show cdA 200 8 = some (.aload_n 0, 1, 0, 0, 0) from rfl) (List.Mem.head _) ?_
  refine z_getI X 179 (show cdA 200 9 = some (.getfield 175, 3, 12, 1, 0) from rfl) (by decide) rfl rfl ?_
  have b10 : (0 : Int) ≤ iI s9 74 ∧ iI s9 74 ≤ 200 := Is9.1 74
  refine z_bipush X (show cdA 200 12 = some (.bipush 100, 2, 0, 0, 100) from rfl) ?_
  have N11 : ∀ e12 : Int, (((100 ≤ (iI s9 74)) ∧ e12 = 100) ∨ (((iI s9 74) < 100) ∧ ((0 : Int) ≤ iI s9 74 ∧ iI s9 74 ≤ 200) ∧ e12 = (iI s9 74))) → WS k 26 [(0, .ref (A 179)), (1, .int (Int32.ofInt x))] [.int (Int32.ofInt e12), .int (Int32.ofInt 0), .int (Int32.ofInt x), .ref (A 179)] (Wd A dT s9) 0 0 := by
    intro e12 he12
    refine z_callS X (rm := rmN 188) (As := [.int (Int32.ofInt x), .int (Int32.ofInt 0), .int (Int32.ofInt e12)]) (st := [.ref (A 179)]) (show cdA 200 26 = some (.invokestatic 209, 3, 188, 1, 0) from rfl) rfl (by rw [E.1, E.2.1, E.2.2.1]; exact k_in G Is9 (by first | exact ⟨p0.1, p0.2⟩ | omega) (by first | exact ⟨by decide, by decide⟩ | omega) (by first | exact ⟨oq_24bf7586 he12 b10.1, oq_1539ade6 he12⟩ | omega)) ⟨by rw [E.2.2.2]; exact (show (rmN 188).frames + 1 ≤ (rmN 200).frames by decide), by rw [E.2.2.2]; exact (show 8 + (mNL (miB 188) + 11) + (rmN 188).locals ≤ (rmN 200).locals by decide), by rw [E.2.2.2]; exact (show 0 + (rmN 188).cells ≤ (rmN 200).cells by decide), by rw [E.2.2.2]; exact (show 0 + (rmN 188).slots ≤ (rmN 200).slots by decide)⟩ (Nat.le_of_ble_eq_true rfl) (fun vv s13 hq => ?_) (fun ee s13 hq => ?_)
    rotate_left
    · obtain ⟨Is13, Fs13, e14, hv, hrs13, hps13⟩ := hq; cases hv
    obtain ⟨Is13, Fs13, e14, hv, hrs13, hps13⟩ := hq
    cases hv
    have Gs13 := fm_ts Fs9 Fs13 (by decide) (by decide)
    have JRLx_s13 : RLx s13 := RLx_fm Fs13 (by decide) JRLx_s9
    have ws13_73 : iI s13 73 = iI s9 73 := fm_i Fs13 (by decide)
    have ws13_74 : iI s13 74 = iI s9 74 := fm_i Fs13 (by decide)
    have ws13_77 : iI s13 77 = iI s9 77 := fm_i Fs13 (by decide)
    have ws13_75 : iI s13 75 = iI s9 75 := fm_i Fs13 (by decide)
    have ws13_79 : iI s13 79 = iI s9 79 := fm_i Fs13 (by decide)
    have ws13_78 : iI s13 78 = iI s9 78 := fm_i Fs13 (by decide)
    have ws13_90 : iI s13 90 = iI s9 90 := fm_i Fs13 (by decide)
    have ws13_91 : iI s13 91 = iI s9 91 := fm_i Fs13 (by decide)
    show WS k 29 [(0, .ref (A 179)), (1, .int (Int32.ofInt x))] [.int (Int32.ofInt e14), .ref (A 179)] (Wd A dT s13) 0 0
    have N15 : ∀ e16 : Int, (((e14 ≠ 0) ∧ e16 = 0) ∨ ((e14 = 0) ∧ e16 = 1)) → WS k 37 [(0, .ref (A 179)), (1, .int (Int32.ofInt x))] [.int (Int32.ofInt e16), .ref (A 179)] (Wd A dT s13) 0 0 := by
      intro e16 he16
      have re16 : 0 ≤ e16 ∧ e16 ≤ 1 := by omega
      refine z_const X (show cdA 200 37 = some (.iconst 1, 1, 0, 0, 0) from rfl) ?_
      refine z_callV X 179 (rm := rmN 187) (As := [.int (Int32.ofInt e16), .int (Int32.ofInt 1)]) (st := []) (show cdA 200 38 = some (.invokevirtual 229, 3, 187, 0, 0) from rfl) rfl (by decide) rfl (by rw [E.1, E.2.1, E.2.2.1]; exact k_bad G Is13 (by first | exact oq_31e518ae re16.2 re16.1 | omega) (by first | exact ⟨by decide, by decide⟩ | omega)) ⟨by rw [E.2.2.2]; exact (show (rmN 187).frames + 1 ≤ (rmN 200).frames by decide), by rw [E.2.2.2]; exact (show 8 + (mNL (miB 187) + 11) + (rmN 187).locals ≤ (rmN 200).locals by decide), by rw [E.2.2.2]; exact (show 0 + (rmN 187).cells ≤ (rmN 200).cells by decide), by rw [E.2.2.2]; exact (show 0 + (rmN 187).slots ≤ (rmN 200).slots by decide)⟩ (Nat.le_of_ble_eq_true rfl) (fun vv s17 hq => ?_) (fun ee s17 hq => ?_)
      rotate_left
      · obtain ⟨Is17, Fs17, e18, hv, hrs17, hps17⟩ := hq; cases hv
      obtain ⟨Is17, Fs17, e18, hv, hrs17, hps17⟩ := hq
      cases hv
      have Gs17 := fm_ts Gs13 Fs17 (by decide) (by decide)
      have JRLx_s17 : RLx s17 := RLx_fm Fs17 (by decide) JRLx_s13
      have b19 : (0 : Int) ≤ iI s17 73 ∧ iI s17 73 ≤ 3 := Is17.1 73
      have ws17_74 : iI s17 74 = iI s13 74 := fm_i Fs17 (by decide)
      have ws17_77 : iI s17 77 = iI s13 77 := fm_i Fs17 (by decide)
      have ws17_75 : iI s17 75 = iI s13 75 := fm_i Fs17 (by decide)
      have ws17_79 : iI s17 79 = iI s13 79 := fm_i Fs17 (by decide)
      have ws17_78 : iI s17 78 = iI s13 78 := fm_i Fs17 (by decide)
      have ws17_90 : iI s17 90 = iI s13 90 := fm_i Fs17 (by decide)
      have ws17_91 : iI s17 91 = iI s13 91 := fm_i Fs17 (by decide)
      show WS k 41 [(0, .ref (A 179)), (1, .int (Int32.ofInt x))] [.int (Int32.ofInt e18)] (Wd A dT s17) 0 0
      refine z_if_eq X (t := 46) (show cdA 200 41 = some (.ifCond .eq 5, 3, 0, 0, 0) from rfl) (by decide) hrs17 (fun g20 => ?_) (fun g20 => ?_)
      ·
        refine z_aload_n X (x := A 179) (show cdA 200 46 = some (.aload_n 0, 1, 0, 0, 0) from rfl) (List.Mem.head _) ?_
        refine z_const X (show cdA 200 47 = some (.iconst 0, 1, 0, 0, 0) from rfl) ?_
        refine s_putI X 179 (show cdA 200 48 = some (.putfield 175, 3, 12, 1, 0) from rfl) (by decide) rfl rfl (by decide) rfl rfl rfl ?_
        obtain ⟨s21, hs21⟩ : ∃ x0, x0 = uI s17 74 (Int32.ofInt 0) := ⟨_, rfl⟩
        rw [← hs21]
        have Is21 : Bd s21 := by rw [hs21]; exact bd_I Is17 (show (0 : Int) ≤ 0 ∧ 0 ≤ 200 by first | exact ⟨by decide, by decide⟩ | omega) (by decide)
        have Fs21 := fm_I (x := Int32.ofInt 0) Gs17 (show 74 ∈ _ by decide)
        rw [← hs21] at Fs21
        have vs21 : iI s21 74 = 0 := by rw [hs21]; exact iI_u (by decide)
        have ws21_73 : iI s21 73 = iI s17 73 := by rw [hs21]; rfl
        have ws21_77 : iI s21 77 = iI s17 77 := by rw [hs21]; rfl
        have ws21_75 : iI s21 75 = iI s17 75 := by rw [hs21]; rfl
        have ws21_79 : iI s21 79 = iI s17 79 := by rw [hs21]; rfl
        have ws21_78 : iI s21 78 = iI s17 78 := by rw [hs21]; rfl
        have ws21_90 : iI s21 90 = iI s17 90 := by rw [hs21]; rfl
        have ws21_91 : iI s21 91 = iI s17 91 := by rw [hs21]; rfl
        have fs21 : Fm [74] [] s17 s21 := by rw [hs21]; exact fm_I (fm_rf _ _ _) (show 74 ∈ _ by decide)
        have JRLx_s21 : RLx s21 := RLx_fm fs21 (by decide) JRLx_s17
        refine z_aload_n X (x := A 179) (show cdA 200 51 = some (.aload_n 0, 1, 0, 0, 0) from rfl) (List.Mem.head _) ?_
        refine z_const X (show cdA 200 52 = some (.iconst (-1), 1, 0, 0, 0) from rfl) ?_
        refine s_putI X 179 (show cdA 200 53 = some (.putfield 9, 3, 12, 3, 0) from rfl) (by decide) rfl rfl (by decide) rfl rfl rfl ?_
        obtain ⟨s22, hs22⟩ : ∃ x0, x0 = uI s21 76 (Int32.ofInt (-1)) := ⟨_, rfl⟩
        rw [← hs22]
        have Is22 : Bd s22 := by rw [hs22]; exact bd_I Is21 (show ((-1) : Int) ≤ (-1) ∧ (-1) ≤ 400 by first | exact ⟨by decide, by decide⟩ | omega) (by decide)
        have Fs22 := fm_I (x := Int32.ofInt (-1)) Fs21 (show 76 ∈ _ by decide)
        rw [← hs22] at Fs22
        have vs22 : iI s22 76 = (-1) := by rw [hs22]; exact iI_u (by decide)
        have ws22_73 : iI s22 73 = iI s21 73 := by rw [hs22]; rfl
        have ws22_74 : iI s22 74 = iI s21 74 := by rw [hs22]; rfl
        have ws22_77 : iI s22 77 = iI s21 77 := by rw [hs22]; rfl
        have ws22_75 : iI s22 75 = iI s21 75 := by rw [hs22]; rfl
        have ws22_79 : iI s22 79 = iI s21 79 := by rw [hs22]; rfl
        have ws22_78 : iI s22 78 = iI s21 78 := by rw [hs22]; rfl
        have ws22_90 : iI s22 90 = iI s21 90 := by rw [hs22]; rfl
        have ws22_91 : iI s22 91 = iI s21 91 := by rw [hs22]; rfl
        have fs22 : Fm [76] [] s21 s22 := by rw [hs22]; exact fm_I (fm_rf _ _ _) (show 76 ∈ _ by decide)
        have JRLx_s22 : RLx s22 := RLx_fm fs22 (by decide) JRLx_s21
        refine z_aload_n X (x := A 179) (show cdA 200 56 = some (.aload_n 0, 1, 0, 0, 0) from rfl) (List.Mem.head _) ?_
        refine z_getI X 179 (show cdA 200 57 = some (.getfield 233, 3, 12, 22, 0) from rfl) (by decide) rfl rfl ?_
        have b23 : (0 : Int) ≤ iI s22 90 ∧ iI s22 90 ≤ 12 := Is22.1 90
        refine z_bipush X (show cdA 200 60 = some (.bipush 12, 2, 0, 0, 12) from rfl) ?_
        refine z_icmp_ne X (t := 67) (show cdA 200 62 = some (.if_icmp .ne 5, 3, 1, 0, 0) from rfl) (by decide) (rng_to _) (by decide) (fun g24 => ?_) (fun g24 => ?_)
        ·
          refine z_aload_n X (x := A 179) (show cdA 200 67 = some (.aload_n 0, 1, 0, 0, 0) from rfl) (List.Mem.head _) ?_
          refine z_load_n X (x := x) (show cdA 200 68 = some (.iload_n 1, 1, 0, 0, 0) from rfl) (List.Mem.tail _ (List.Mem.head _)) ?_
          refine z_callV X 179 (rm := rmN 197) (As := [.int (Int32.ofInt x)]) (st := []) (show cdA 200 69 = some (.invokevirtual 236, 3, 197, 0, 0) from rfl) rfl (by decide) rfl (by rw [E.1, E.2.1, E.2.2.1]; exact k_beginText G Is22 (by first | exact ⟨oq_802cfd8b g20 hps17.2.1 re16.2 he16 hps13, oq_d963a19e g20 hps17.2.1 re16.2 he16 hps13 he12⟩ | omega)) ⟨by rw [E.2.2.2]; exact (show (rmN 197).frames + 1 ≤ (rmN 200).frames by decide), by rw [E.2.2.2]; exact (show 8 + (mNL (miB 197) + 11) + (rmN 197).locals ≤ (rmN 200).locals by decide), by rw [E.2.2.2]; exact (show 0 + (rmN 197).cells ≤ (rmN 200).cells by decide), by rw [E.2.2.2]; exact (show 0 + (rmN 197).slots ≤ (rmN 200).slots by decide)⟩ (Nat.le_of_ble_eq_true rfl) (fun vv s25 hq => ?_) (fun ee s25 hq => ?_)
          rotate_left
          · obtain ⟨Is25, Fs25, hv, hps25⟩ := hq; cases hv
          obtain ⟨Is25, Fs25, hv, hps25⟩ := hq
          cases hv
          have Gs25 := fm_ts Fs22 Fs25 (by decide) (by decide)
          have JRLx_s25 : RLx s25 := RLx_fm Fs25 (by decide) JRLx_s22
          have ws25_73 : iI s25 73 = iI s22 73 := fm_i Fs25 (by decide)
          have ws25_74 : iI s25 74 = iI s22 74 := fm_i Fs25 (by decide)
          have b27 : (0 : Int) ≤ iI s25 77 ∧ iI s25 77 ≤ 400 := Is25.1 77
          have b28 : (0 : Int) ≤ iI s25 75 ∧ iI s25 75 ≤ 200 := Is25.1 75
          have b29 : (0 : Int) ≤ iI s25 79 ∧ iI s25 79 ≤ 9 := Is25.1 79
          have b30 : (0 : Int) ≤ iI s25 78 ∧ iI s25 78 ≤ 8 := Is25.1 78
          have ws25_90 : iI s25 90 = iI s22 90 := fm_i Fs25 (by decide)
          have ws25_91 : iI s25 91 = iI s22 91 := fm_i Fs25 (by decide)
          show WS k 72 [(0, .ref (A 179)), (1, .int (Int32.ofInt x))] [] (Wd A dT s25) 0 0
          refine z_aload_n X (x := A 179) (show cdA 200 72 = some (.aload_n 0, 1, 0, 0, 0) from rfl) (List.Mem.head _) ?_
          refine z_const X (show cdA 200 73 = some (.iconst 1, 1, 0, 0, 0) from rfl) ?_
          refine s_putI X 179 (show cdA 200 74 = some (.putfield 216, 3, 12, 27, 0) from rfl) (by decide) rfl rfl (by decide) rfl rfl rfl ?_
          obtain ⟨s31, hs31⟩ : ∃ x0, x0 = uI s25 91 (Int32.ofInt 1) := ⟨_, rfl⟩
          rw [← hs31]
          have Is31 : Bd s31 := by rw [hs31]; exact bd_I Is25 (show (0 : Int) ≤ 1 ∧ 1 ≤ 24 by first | exact ⟨by decide, by decide⟩ | omega) (by decide)
          have Fs31 := fm_I (x := Int32.ofInt 1) Gs25 (show 91 ∈ _ by decide)
          rw [← hs31] at Fs31
          have vs31 : iI s31 91 = 1 := by rw [hs31]; exact iI_u (by decide)
          have ws31_73 : iI s31 73 = iI s25 73 := by rw [hs31]; rfl
          have ws31_74 : iI s31 74 = iI s25 74 := by rw [hs31]; rfl
          have ws31_77 : iI s31 77 = iI s25 77 := by rw [hs31]; rfl
          have ws31_75 : iI s31 75 = iI s25 75 := by rw [hs31]; rfl
          have ws31_79 : iI s31 79 = iI s25 79 := by rw [hs31]; rfl
          have ws31_78 : iI s31 78 = iI s25 78 := by rw [hs31]; rfl
          have ws31_90 : iI s31 90 = iI s25 90 := by rw [hs31]; rfl
          have fs31 : Fm [91] [] s25 s31 := by rw [hs31]; exact fm_I (fm_rf _ _ _) (show 91 ∈ _ by decide)
          have JRLx_s31 : RLx s31 := RLx_fm fs31 (by decide) JRLx_s25
          refine z_aload_n X (x := A 179) (show cdA 200 77 = some (.aload_n 0, 1, 0, 0, 0) from rfl) (List.Mem.head _) ?_
          refine s_getR X 179 (show cdA 200 78 = some (.getfield 44, 3, 12, 26, 0) from rfl) (by decide) rfl rfl ?_
          refine z_const X (show cdA 200 81 = some (.iconst 0, 1, 0, 0, 0) from rfl) ?_
          refine z_aload_n X (x := A 179) (show cdA 200 82 = some (.aload_n 0, 1, 0, 0, 0) from rfl) (List.Mem.head _) ?_
          refine z_const X (show cdA 200 83 = some (.iconst 0, 1, 0, 0, 0) from rfl) ?_
          refine z_bipush X (show cdA 200 84 = some (.bipush 127, 2, 0, 0, 127) from rfl) ?_
          refine z_callV X 179 (rm := rmN 196) (As := [.int (Int32.ofInt 0), .int (Int32.ofInt 127)]) (st := [.int (Int32.ofInt 0), .ref (A 188)]) (show cdA 200 86 = some (.invokevirtual 219, 3, 196, 0, 0) from rfl) rfl (by decide) rfl (by rw [E.1, E.2.1, E.2.2.1]; exact k_number G Is31 (by first | exact ⟨by decide, by decide⟩ | omega) (by first | exact ⟨by decide, by decide⟩ | omega) (by first | exact oq_c2d9d76f ws31_77 hps25.2.1 | omega)) ⟨by rw [E.2.2.2]; exact (show (rmN 196).frames + 1 ≤ (rmN 200).frames by decide), by rw [E.2.2.2]; exact (show 8 + (mNL (miB 196) + 11) + (rmN 196).locals ≤ (rmN 200).locals by decide), by rw [E.2.2.2]; exact (show 0 + (rmN 196).cells ≤ (rmN 200).cells by decide), by rw [E.2.2.2]; exact (show 0 + (rmN 196).slots ≤ (rmN 200).slots by decide)⟩ (Nat.le_of_ble_eq_true rfl) (fun vv s32 hq => ?_) (fun ee s32 hq => ?_)
          rotate_left
          · obtain ⟨Is32, Fs32, e33, hv, hrs32, hps32⟩ := hq; cases hv
          obtain ⟨Is32, Fs32, e33, hv, hrs32, hps32⟩ := hq
          cases hv
          have Gs32 := fm_ts Fs31 Fs32 (by decide) (by decide)
          have JRLx_s32 : RLx s32 := RLx_fm Fs32 (by decide) JRLx_s31
          have ws32_73 : iI s32 73 = iI s31 73 := fm_i Fs32 (by decide)
          have ws32_74 : iI s32 74 = iI s31 74 := fm_i Fs32 (by decide)
          have b34 : (0 : Int) ≤ iI s32 77 ∧ iI s32 77 ≤ 400 := Is32.1 77
          have ws32_75 : iI s32 75 = iI s31 75 := fm_i Fs32 (by decide)
          have b35 : (0 : Int) ≤ iI s32 79 ∧ iI s32 79 ≤ 9 := Is32.1 79
          have ws32_78 : iI s32 78 = iI s31 78 := fm_i Fs32 (by decide)
          have ws32_90 : iI s32 90 = iI s31 90 := fm_i Fs32 (by decide)
          have ws32_91 : iI s32 91 = iI s31 91 := fm_i Fs32 (by decide)
          show WS k 89 [(0, .ref (A 179)), (1, .int (Int32.ofInt x))] [.int (Int32.ofInt e33), .int (Int32.ofInt 0), .ref (A 188)] (Wd A dT s32) 0 0
          refine z_ast X 188 (show cdA 200 89 = some (.iastore, 1, 0, 0, 0) from rfl) (by decide) rfl (by decide) (show 0 < 24 by decide) (by decide) ?_
          obtain ⟨s36, hs36⟩ : ∃ x0, x0 = uC s32 165 (0 : Int).toNat (Int32.ofInt e33) := ⟨_, rfl⟩
          rw [← hs36]
          have Is36 : Bd s36 := by rw [hs36]; exact bd_C Is32 (show ((-2147483648) : Int) ≤ e33 ∧ e33 ≤ 2147483647 by first | exact ⟨by omega, oq_25953902 hps32.2.2.2.2⟩ | omega) hrs32
          have Fs36 := fm_C (i := (0 : Int).toNat) (x := Int32.ofInt e33) Gs32 (show 165 ∈ _ by decide)
          rw [← hs36] at Fs36
          have ws36_73 : iI s36 73 = iI s32 73 := by rw [hs36]; rfl
          have ws36_74 : iI s36 74 = iI s32 74 := by rw [hs36]; rfl
          have ws36_77 : iI s36 77 = iI s32 77 := by rw [hs36]; rfl
          have ws36_75 : iI s36 75 = iI s32 75 := by rw [hs36]; rfl
          have ws36_79 : iI s36 79 = iI s32 79 := by rw [hs36]; rfl
          have ws36_78 : iI s36 78 = iI s32 78 := by rw [hs36]; rfl
          have ws36_90 : iI s36 90 = iI s32 90 := by rw [hs36]; rfl
          have ws36_91 : iI s36 91 = iI s32 91 := by rw [hs36]; rfl
          have fs36 : Fm [] [165] s32 s36 := by rw [hs36]; exact fm_C (fm_rf _ _ _) (show 165 ∈ _ by decide)
          have JRLx_s36 : RLx s36 := RLx_fm fs36 (by decide) JRLx_s32
          refine z_aload_n X (x := A 179) (show cdA 200 90 = some (.aload_n 0, 1, 0, 0, 0) from rfl) (List.Mem.head _) ?_
          refine z_callV X 179 (rm := rmN 193) (As := []) (st := []) (show cdA 200 91 = some (.invokevirtual 197, 3, 193, 0, 0) from rfl) rfl (by decide) rfl (by rw [E.1, E.2.1, E.2.2.1]; exact k_blanks G Is36 (by first | exact oq_b8e2f167 ws36_77 hps32.2.1 ws31_75 ws31_77 b28.2 hps25.2.1 | omega)) ⟨by rw [E.2.2.2]; exact (show (rmN 193).frames + 1 ≤ (rmN 200).frames by decide), by rw [E.2.2.2]; exact (show 8 + (mNL (miB 193) + 11) + (rmN 193).locals ≤ (rmN 200).locals by decide), by rw [E.2.2.2]; exact (show 0 + (rmN 193).cells ≤ (rmN 200).cells by decide), by rw [E.2.2.2]; exact (show 0 + (rmN 193).slots ≤ (rmN 200).slots by decide)⟩ (Nat.le_of_ble_eq_true rfl) (fun vv s37 hq => ?_) (fun ee s37 hq => ?_)
          rotate_left
          · obtain ⟨Is37, Fs37, hv, hps37⟩ := hq; cases hv
          obtain ⟨Is37, Fs37, hv, hps37⟩ := hq
          cases hv
          have Gs37 := fm_ts Fs36 Fs37 (by decide) (by decide)
          have JRLx_s37 : RLx s37 := RLx_fm Fs37 (by decide) JRLx_s36
          have ws37_73 : iI s37 73 = iI s36 73 := fm_i Fs37 (by decide)
          have ws37_74 : iI s37 74 = iI s36 74 := fm_i Fs37 (by decide)
          have b39 : (0 : Int) ≤ iI s37 77 ∧ iI s37 77 ≤ 400 := Is37.1 77
          have ws37_75 : iI s37 75 = iI s36 75 := fm_i Fs37 (by decide)
          have ws37_79 : iI s37 79 = iI s36 79 := fm_i Fs37 (by decide)
          have ws37_78 : iI s37 78 = iI s36 78 := fm_i Fs37 (by decide)
          have ws37_90 : iI s37 90 = iI s36 90 := fm_i Fs37 (by decide)
          have ws37_91 : iI s37 91 = iI s36 91 := fm_i Fs37 (by decide)
          show WS k 94 [(0, .ref (A 179)), (1, .int (Int32.ofInt x))] [] (Wd A dT s37) 0 0
          refine WS_lv (lv := [(0, .ref (A 179)), (1, .int (Int32.ofInt x))]) (List.forall_mem_cons.mpr ⟨(List.Mem.head _), (List.forall_mem_cons.mpr ⟨(List.Mem.tail _ (List.Mem.head _)), (fun q h => absurd h List.not_mem_nil)⟩)⟩) ?_
          have hD41 : TDF s37 := fun hz i hi => by
            have e0 : iI s37 91 = 1 := by omega
            have e1 : i = 0 := by omega
            subst e1
            rw [fm_c Fs37 (by decide), hs36]
            show 0 ≤ iC (uC s32 165 (0 : Int).toNat (Int32.ofInt e33)) 165 (0 : Int).toNat ∧ iC (uC s32 165 (0 : Int).toNat (Int32.ofInt e33)) 165 (0 : Int).toNat ≤ 127
            rw [iC_u ⟨by omega, by omega⟩]
            omega
          refine L94 ((400 - iI s37 77 + (9 - iI s37 79) : Int).toNat + 1) s37 x Is37 Gs37 JRLx_s37 hD41 (by first | exact ⟨oq_9a766fb5 g20 hps17.2.1 re16.2 he16 hps13 he12 ws9_74, oq_fe2501c1 ws37_74 ws36_74 ws32_74 ws31_74 ws25_74 ws22_74 vs21, oq_b4d295d9 ws37_75 hps25.1 ws36_75 ws32_75 ws31_75, oq_268e5a20 hps37.2 ws36_75 ws36_77 ws32_75 hps32.2.1 ws31_75 ws31_77 b28.2 hps25.2.1, oq_4f3d8471 ws37_75 hps37.2 ws36_75 ws36_77 ws32_75 hps32.2.1 ws31_75 ws31_77 b28.1 hps25.2.1, oq_3a510cc0 ws37_91 ws36_91 ws32_91 vs31, oq_86039f3f ws37_90 ws36_90 ws32_90 ws31_90 ws25_90 ws22_90 ws21_90 ws17_90 ws13_90 ws9_90, oq_70073d0e g24 b23.2 ws22_90 ws21_90 ws17_90 ws13_90 ws9_90⟩ | omega) (Nat.lt_succ_self _) ?_
          intro s40  Is40 Fs40 JRLx_s40 Qs40 hs40
          have b42 : (0 : Int) ≤ iI s40 73 ∧ iI s40 73 ≤ 3 := Is40.1 73
          have b43 : (0 : Int) ≤ iI s40 74 ∧ iI s40 74 ≤ 200 := Is40.1 74
          have b44 : (0 : Int) ≤ iI s40 77 ∧ iI s40 77 ≤ 400 := Is40.1 77
          have b45 : (0 : Int) ≤ iI s40 75 ∧ iI s40 75 ≤ 200 := Is40.1 75
          have b46 : (0 : Int) ≤ iI s40 79 ∧ iI s40 79 ≤ 9 := Is40.1 79
          have b47 : (0 : Int) ≤ iI s40 78 ∧ iI s40 78 ≤ 8 := Is40.1 78
          have b48 : (0 : Int) ≤ iI s40 90 ∧ iI s40 90 ≤ 12 := Is40.1 90
          have b49 : (0 : Int) ≤ iI s40 91 ∧ iI s40 91 ≤ 24 := Is40.1 91
          have hTDF : TDF s40 := Qs40
          refine z_aload_n X (x := A 179) (show cdA 200 123 = some (.aload_n 0, 1, 0, 0, 0) from rfl) (List.Mem.head _) ?_
          refine z_aload_n X (x := A 179) (show cdA 200 124 = some (.aload_n 0, 1, 0, 0, 0) from rfl) (List.Mem.head _) ?_
          refine z_getI X 179 (show cdA 200 125 = some (.getfield 194, 3, 12, 7, 0) from rfl) (by decide) rfl rfl ?_
          have b50 : ((-1) : Int) ≤ iI s40 80 ∧ iI s40 80 ≤ 400 := Is40.1 80
          refine s_putI X 179 (show cdA 200 128 = some (.putfield 9, 3, 12, 3, 0) from rfl) (by decide) rfl rfl (by decide) rfl rfl rfl ?_
          obtain ⟨s51, hs51⟩ : ∃ x0, x0 = uI s40 76 (Int32.ofInt (iI s40 80)) := ⟨_, rfl⟩
          rw [← hs51]
          have Is51 : Bd s51 := by rw [hs51]; exact bd_I Is40 (show ((-1) : Int) ≤ (iI s40 80) ∧ (iI s40 80) ≤ 400 by first | exact ⟨b50.1, b50.2⟩ | omega) (rng_to _)
          have Fs51 := fm_I (x := Int32.ofInt (iI s40 80)) Fs40 (show 76 ∈ _ by decide)
          rw [← hs51] at Fs51
          have vs51 : iI s51 76 = (iI s40 80) := by rw [hs51]; exact iI_u (rng_to _)
          have ws51_73 : iI s51 73 = iI s40 73 := by rw [hs51]; rfl
          have ws51_74 : iI s51 74 = iI s40 74 := by rw [hs51]; rfl
          have ws51_77 : iI s51 77 = iI s40 77 := by rw [hs51]; rfl
          have ws51_75 : iI s51 75 = iI s40 75 := by rw [hs51]; rfl
          have ws51_79 : iI s51 79 = iI s40 79 := by rw [hs51]; rfl
          have ws51_78 : iI s51 78 = iI s40 78 := by rw [hs51]; rfl
          have ws51_90 : iI s51 90 = iI s40 90 := by rw [hs51]; rfl
          have ws51_91 : iI s51 91 = iI s40 91 := by rw [hs51]; rfl
          have fs51 : Fm [76] [] s40 s51 := by rw [hs51]; exact fm_I (fm_rf _ _ _) (show 76 ∈ _ by decide)
          have JRLx_s51 : RLx s51 := RLx_fm fs51 (by decide) JRLx_s40
          have hTDF2 : TDF s51 := fun z => TD_fm fs51 (by decide) (hTDF (by omega))
          refine z_aload_n X (x := A 179) (show cdA 200 131 = some (.aload_n 0, 1, 0, 0, 0) from rfl) (List.Mem.head _) ?_
          refine z_getI X 179 (show cdA 200 132 = some (.getfield 191, 3, 12, 6, 0) from rfl) (by decide) rfl rfl ?_
          have b52 : (0 : Int) ≤ iI s51 79 ∧ iI s51 79 ≤ 9 := Is51.1 79
          refine z_if_eq X (t := 146) (show cdA 200 135 = some (.ifCond .eq 11, 3, 0, 0, 0) from rfl) (by decide) (rng_to _) (fun g53 => ?_) (fun g53 => ?_)
          ·
            have JTD_s51 : TD s51 := hTDF2 (by omega)
            refine z_aload_n X (x := A 179) (show cdA 200 146 = some (.aload_n 0, 1, 0, 0, 0) from rfl) (List.Mem.head _) ?_
            refine s_getR X 179 (show cdA 200 147 = some (.getfield 35, 3, 12, 23, 0) from rfl) (by decide) rfl rfl ?_
            refine z_aload_n X (x := A 179) (show cdA 200 150 = some (.aload_n 0, 1, 0, 0, 0) from rfl) (List.Mem.head _) ?_
            refine z_getI X 179 (show cdA 200 151 = some (.getfield 233, 3, 12, 22, 0) from rfl) (by decide) rfl rfl ?_
            have b54 : (0 : Int) ≤ iI s51 90 ∧ iI s51 90 ≤ 12 := Is51.1 90
            refine z_aload_n X (x := A 179) (show cdA 200 154 = some (.aload_n 0, 1, 0, 0, 0) from rfl) (List.Mem.head _) ?_
            refine z_getI X 179 (show cdA 200 155 = some (.getfield 216, 3, 12, 27, 0) from rfl) (by decide) rfl rfl ?_
            have b55 : (0 : Int) ≤ iI s51 91 ∧ iI s51 91 ≤ 24 := Is51.1 91
            refine z_ast X 185 (show cdA 200 158 = some (.iastore, 1, 0, 0, 0) from rfl) (by decide) rfl (by first | exact b54.1 | omega) (show (iI s51 90) < 12 by first | exact oq_e2284db0 ws51_90 hs40.2.2.2.2.2.2.1 hs40.2.2.2.2.2.2.2 | omega) (by decide) ?_
            obtain ⟨s56, hs56⟩ : ∃ x0, x0 = uC s51 162 ((iI s51 90)).toNat (Int32.ofInt (iI s51 91)) := ⟨_, rfl⟩
            rw [← hs56]
            have Is56 : Bd s56 := by rw [hs56]; exact bd_C Is51 (show (0 : Int) ≤ (iI s51 91) ∧ (iI s51 91) ≤ 24 by first | exact ⟨b55.1, b55.2⟩ | omega) (rng_to _)
            have Fs56 := fm_C (i := ((iI s51 90)).toNat) (x := Int32.ofInt (iI s51 91)) Fs51 (show 162 ∈ _ by decide)
            rw [← hs56] at Fs56
            have ws56_73 : iI s56 73 = iI s51 73 := by rw [hs56]; rfl
            have ws56_74 : iI s56 74 = iI s51 74 := by rw [hs56]; rfl
            have ws56_77 : iI s56 77 = iI s51 77 := by rw [hs56]; rfl
            have ws56_75 : iI s56 75 = iI s51 75 := by rw [hs56]; rfl
            have ws56_79 : iI s56 79 = iI s51 79 := by rw [hs56]; rfl
            have ws56_78 : iI s56 78 = iI s51 78 := by rw [hs56]; rfl
            have ws56_90 : iI s56 90 = iI s51 90 := by rw [hs56]; rfl
            have ws56_91 : iI s56 91 = iI s51 91 := by rw [hs56]; rfl
            have fs56 : Fm [] [162] s51 s56 := by rw [hs56]; exact fm_C (fm_rf _ _ _) (show 162 ∈ _ by decide)
            have JTD_s56 : TD s56 := TD_fm fs56 (by decide) JTD_s51
            have es_s56 : iI s51 90 = iI s 90 := by omega
            have JRLx_s56 : RLx s56 := by rw [hs56]; exact RLx_m JRLx_s51 (by omega)
            have vm_s56 : iC s56 162 (iI s 90 : Int).toNat = iI s51 91 := by rw [hs56, es_s56, iC_u ⟨by omega, by omega⟩]
            refine z_const X (show cdA 200 159 = some (.iconst 0, 1, 0, 0, 0) from rfl) ?_
            refine z_store_n X (lv' := [(2, .int (Int32.ofInt 0)), (0, .ref (A 179)), (1, .int (Int32.ofInt x))]) (show cdA 200 160 = some (.istore_n 2, 1, 0, 0, 0) from rfl) (by decide) (fun _ h => h) ?_
            refine WS_lv (lv := [(0, .ref (A 179)), (1, .int (Int32.ofInt x)), (2, .int (Int32.ofInt 0))]) (List.forall_mem_cons.mpr ⟨(List.Mem.tail _ (List.Mem.head _)), (List.forall_mem_cons.mpr ⟨(List.Mem.tail _ (List.Mem.tail _ (List.Mem.head _))), (List.forall_mem_cons.mpr ⟨(List.Mem.head _), (fun q h => absurd h List.not_mem_nil)⟩)⟩)⟩) ?_
            refine L161 ((128 - 0 : Int).toNat + 1) s56 x 0 Is56 Fs56 JRLx_s56 ⟨JTD_s56, JRLx_s56, fun i _ h => absurd h (by omega)⟩ (by first | exact ⟨And.intro (hs40.1.1) (And.intro (hs40.1.2.1) (hs40.1.2.2)), oq_7fe879e0 ws56_74 ws51_74 hs40.2.1 b43.1, oq_48a46d4a ws56_91 ws51_91 hs40.2.2.2.2.2.1, oq_1aa5be9e ws56_90 es_s56, hs40.2.2.2.2.2.2.2, by decide, by decide, oq_f6b042d5 ws56_91 vm_s56⟩ | omega) (Nat.lt_succ_self _) ?_
            intro s57 x58 Is57 Fs57 JRLx_s57 Qs57 hs57
            have b59 : (0 : Int) ≤ iI s57 73 ∧ iI s57 73 ≤ 3 := Is57.1 73
            have b60 : (0 : Int) ≤ iI s57 74 ∧ iI s57 74 ≤ 200 := Is57.1 74
            have b61 : (0 : Int) ≤ iI s57 77 ∧ iI s57 77 ≤ 400 := Is57.1 77
            have b62 : (0 : Int) ≤ iI s57 75 ∧ iI s57 75 ≤ 200 := Is57.1 75
            have b63 : (0 : Int) ≤ iI s57 79 ∧ iI s57 79 ≤ 9 := Is57.1 79
            have b64 : (0 : Int) ≤ iI s57 78 ∧ iI s57 78 ≤ 8 := Is57.1 78
            have b65 : (0 : Int) ≤ iI s57 90 ∧ iI s57 90 ≤ 12 := Is57.1 90
            have b66 : (0 : Int) ≤ iI s57 91 ∧ iI s57 91 ≤ 24 := Is57.1 91
            refine z_const X (show cdA 200 186 = some (.iconst 0, 1, 0, 0, 0) from rfl) ?_
            refine z_store_n X (lv' := [(2, .int (Int32.ofInt 0)), (0, .ref (A 179)), (1, .int (Int32.ofInt x))]) (show cdA 200 187 = some (.istore_n 2, 1, 0, 0, 0) from rfl) (by decide) (fun _ h => h) ?_
            refine WS_lv (lv := [(0, .ref (A 179)), (1, .int (Int32.ofInt x)), (2, .int (Int32.ofInt 0))]) (List.forall_mem_cons.mpr ⟨(List.Mem.tail _ (List.Mem.head _)), (List.forall_mem_cons.mpr ⟨(List.Mem.tail _ (List.Mem.tail _ (List.Mem.head _))), (List.forall_mem_cons.mpr ⟨(List.Mem.head _), (fun q h => absurd h List.not_mem_nil)⟩)⟩)⟩) ?_
            refine L188 ((24 - 0 : Int).toNat + 1) s57 x 0 Is57 Fs57 JRLx_s57 ⟨Qs57.1, Qs57.2.1, fun i hi _ => Qs57.2.2 i hi (by omega)⟩ (by first | exact ⟨And.intro (hs57.1.1) (And.intro (hs57.1.2.1) (hs57.1.2.2)), hs57.2.1, hs57.2.2.1, hs57.2.2.2.1, hs57.2.2.2.2.1, by decide, by decide, hs57.2.2.2.2.2.2⟩ | omega) (Nat.lt_succ_self _) ?_
            intro s67 x68 Is67 Fs67 JRLx_s67 Qs67 hs67
            have b69 : (0 : Int) ≤ iI s67 73 ∧ iI s67 73 ≤ 3 := Is67.1 73
            have b70 : (0 : Int) ≤ iI s67 74 ∧ iI s67 74 ≤ 200 := Is67.1 74
            have b71 : (0 : Int) ≤ iI s67 77 ∧ iI s67 77 ≤ 400 := Is67.1 77
            have b72 : (0 : Int) ≤ iI s67 75 ∧ iI s67 75 ≤ 200 := Is67.1 75
            have b73 : (0 : Int) ≤ iI s67 79 ∧ iI s67 79 ≤ 9 := Is67.1 79
            have b74 : (0 : Int) ≤ iI s67 78 ∧ iI s67 78 ≤ 8 := Is67.1 78
            have b75 : (0 : Int) ≤ iI s67 90 ∧ iI s67 90 ≤ 12 := Is67.1 90
            have b76 : (0 : Int) ≤ iI s67 91 ∧ iI s67 91 ≤ 24 := Is67.1 91
            refine z_aload_n X (x := A 179) (show cdA 200 236 = some (.aload_n 0, 1, 0, 0, 0) from rfl) (List.Mem.head _) ?_
            refine w_dup X.1 (ax_d X (show cdA 200 237 = some (.dup, 1, 0, 0, 0) from rfl)) rfl ?_
            refine z_getI X 179 (show cdA 200 238 = some (.getfield 233, 3, 12, 22, 0) from rfl) (by decide) rfl rfl ?_
            have b77 : (0 : Int) ≤ iI s67 90 ∧ iI s67 90 ≤ 12 := Is67.1 90
            refine z_const X (show cdA 200 241 = some (.iconst 1, 1, 0, 0, 0) from rfl) ?_
            refine z_add X (show cdA 200 242 = some (.iadd, 1, 0, 0, 0) from rfl) ?_
            refine s_putI X 179 (show cdA 200 243 = some (.putfield 233, 3, 12, 22, 0) from rfl) (by decide) rfl rfl (by decide) rfl rfl rfl ?_
            obtain ⟨s78, hs78⟩ : ∃ x0, x0 = uI s67 90 (Int32.ofInt ((iI s67 90) + 1)) := ⟨_, rfl⟩
            rw [← hs78]
            have Is78 : Bd s78 := by rw [hs78]; exact bd_I Is67 (show (0 : Int) ≤ ((iI s67 90) + 1) ∧ ((iI s67 90) + 1) ≤ 12 by first | exact ⟨oq_54f49eb5 b77.1, oq_6a44be7e hs67.2.2.2.1 hs67.2.2.2.2.1⟩ | omega) ⟨by first | exact oq_74de1e16 b77.1 | omega, by first | exact oq_76a8a5b7 b77.2 | omega⟩
            have Fs78 := fm_I (x := Int32.ofInt ((iI s67 90) + 1)) Fs67 (show 90 ∈ _ by decide)
            rw [← hs78] at Fs78
            have vs78 : iI s78 90 = ((iI s67 90) + 1) := by rw [hs78]; exact iI_u ⟨by first | exact oq_74de1e16 b77.1 | omega, by first | exact oq_76a8a5b7 b77.2 | omega⟩
            have ws78_73 : iI s78 73 = iI s67 73 := by rw [hs78]; rfl
            have ws78_74 : iI s78 74 = iI s67 74 := by rw [hs78]; rfl
            have ws78_77 : iI s78 77 = iI s67 77 := by rw [hs78]; rfl
            have ws78_75 : iI s78 75 = iI s67 75 := by rw [hs78]; rfl
            have ws78_79 : iI s78 79 = iI s67 79 := by rw [hs78]; rfl
            have ws78_78 : iI s78 78 = iI s67 78 := by rw [hs78]; rfl
            have ws78_91 : iI s78 91 = iI s67 91 := by rw [hs78]; rfl
            have fs78 : Fm [90] [] s67 s78 := by rw [hs78]; exact fm_I (fm_rf _ _ _) (show 90 ∈ _ by decide)
            have JTD_s78 : TD s78 := TD_fm fs78 (by decide) Qs67.1
            have JRLx_s78 : RLx s78 := by
              rw [hs78]
              exact RLx_up Qs67.2.1 rfl (by omega) (by rw [show iI s67 90 = iI s 90 by omega]; omega) (fun i hi => by rw [show iI s67 90 = iI s 90 by omega]; exact Qs67.2.2 i hi (by omega))
            refine z_aload_n X (x := A 179) (show cdA 200 246 = some (.aload_n 0, 1, 0, 0, 0) from rfl) (List.Mem.head _) ?_
            refine z_getI X 179 (show cdA 200 247 = some (.getfield 233, 3, 12, 22, 0) from rfl) (by decide) rfl rfl ?_
            have b79 : (0 : Int) ≤ iI s78 90 ∧ iI s78 90 ≤ 12 := Is78.1 90
            refine z_const X (show cdA 200 250 = some (.iconst 1, 1, 0, 0, 0) from rfl) ?_
            refine z_sub X (show cdA 200 251 = some (.isub, 1, 0, 0, 0) from rfl) ?_
            exact w_iret X.1 q hRt rfl (ax_d X (show cdA 200 252 = some (.ireturn, 1, 0, 0, 0) from rfl)) (Nat.zero_le _) (Nat.zero_le _) ⟨_, rfl, Is78, Fs78, JRLx_s78, ((iI s78 90) - 1), rfl, ⟨by first | exact oq_c1e961c7 b79.1 | omega, by first | exact oq_d526ebd3 b79.2 | omega⟩, by first | exact Or.inl (And.intro (hs67.1.1) (And.intro (hs67.1.2.1) (And.intro (hs67.1.2.2) (oq_333640b7 ws78_74 hs67.2.1 b70.1)))) | omega⟩
          ·
            refine z_aload_n X (x := A 179) (show cdA 200 138 = some (.aload_n 0, 1, 0, 0, 0) from rfl) (List.Mem.head _) ?_
            refine z_getI X 179 (show cdA 200 139 = some (.getfield 191, 3, 12, 6, 0) from rfl) (by decide) rfl rfl ?_
            have b80 : (0 : Int) ≤ iI s51 79 ∧ iI s51 79 ≤ 9 := Is51.1 79
            refine z_bipush X (show cdA 200 142 = some (.bipush 10, 2, 0, 0, 10) from rfl) ?_
            refine z_sub X (show cdA 200 144 = some (.isub, 1, 0, 0, 0) from rfl) ?_
            exact w_iret X.1 q hRt rfl (ax_d X (show cdA 200 145 = some (.ireturn, 1, 0, 0, 0) from rfl)) (Nat.zero_le _) (Nat.zero_le _) ⟨_, rfl, Is51, Fs51, JRLx_s51, ((iI s51 79) - 10), rfl, ⟨by first | exact oq_d3c9ade5 b80.1 | omega, by first | exact oq_71609f9f b80.2 | omega⟩, by first | exact Or.inl (And.intro (hs40.1.1) (And.intro (hs40.1.2.1) (And.intro (hs40.1.2.2) (oq_333640b7 ws51_74 hs40.2.1 b43.1)))) | omega⟩
        ·
          refine z_const X (show cdA 200 65 = some (.iconst (-1), 1, 0, 0, 0) from rfl) ?_
          exact w_iret X.1 q hRt rfl (ax_d X (show cdA 200 66 = some (.ireturn, 1, 0, 0, 0) from rfl)) (Nat.zero_le _) (Nat.zero_le _) ⟨_, rfl, Is22, Fs22, JRLx_s22, (-1), rfl, (by decide), by first | exact oq_6bfd7395 ws22_74 vs21 g20 hps17.2.1 re16.2 he16 hps13 he12 ws9_74 | omega⟩
      ·
        refine z_const X (show cdA 200 44 = some (.iconst 0, 1, 0, 0, 0) from rfl) ?_
        exact w_iret X.1 q hRt rfl (ax_d X (show cdA 200 45 = some (.ireturn, 1, 0, 0, 0) from rfl)) (Nat.zero_le _) (Nat.zero_le _) ⟨_, rfl, Is17, Gs17, JRLx_s17, 0, rfl, (by decide), by first | exact oq_122ebdda g20 ws17_74 b19.1 hps17.2.2 hps17.1 re16.1 he16 ws13_74 ws13_73 hps13 he12 ws9_74 vs9 | omega⟩
    refine z_if_ne X (t := 36) (show cdA 200 29 = some (.ifCond .ne 7, 3, 1, 0, 0) from rfl) (by decide) hrs13 (fun g81 => ?_) (fun g81 => ?_)
    ·
      refine z_const X (show cdA 200 36 = some (.iconst 0, 1, 0, 0, 0) from rfl) ?_
      exact N15 _ (Or.inl ⟨g81, rfl⟩)
    ·
      refine z_const X (show cdA 200 32 = some (.iconst 1, 1, 0, 0, 0) from rfl) ?_
      refine z_goto X (t := 37) (show cdA 200 33 = some (.goto 4, 3, 0, 0, 0) from rfl) (by decide) ?_
      exact N15 _ (Or.inr (⟨g81, rfl⟩))
  refine z_icmp_ge X (t := 24) (show cdA 200 14 = some (.if_icmp .ge 10, 3, 3, 0, 0) from rfl) (by decide) (rng_to _) (by decide) (fun g82 => ?_) (fun g82 => ?_)
  ·
    refine z_bipush X (show cdA 200 24 = some (.bipush 100, 2, 0, 0, 100) from rfl) ?_
    exact N11 _ (Or.inl ⟨g82, rfl⟩)
  ·
    refine z_aload_n X (x := A 179) (show cdA 200 17 = some (.aload_n 0, 1, 0, 0, 0) from rfl) (List.Mem.head _) ?_
    refine z_getI X 179 (show cdA 200 18 = some (.getfield 175, 3, 12, 1, 0) from rfl) (by decide) rfl rfl ?_
    have b83 : (0 : Int) ≤ iI s9 74 ∧ iI s9 74 ≤ 200 := Is9.1 74
    refine z_goto X (t := 26) (show cdA 200 21 = some (.goto 5, 3, 0, 0, 0) from rfl) (by decide) ?_
    exact N11 _ (Or.inr (⟨g82, b83, rfl⟩))
end M55
