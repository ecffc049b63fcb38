/-! The model: stream -/
def TDF (t : PS) : Prop := iI t 79 = 0 → TD t
theorem RLx_m {s : PS} {i : Nat} {x : Int32} (r : RLx s) (hi : iI s 90 ≤ (i : Int)) : RLx (uC s 162 i x) := fun j hj hs => by
  obtain ⟨r1, r2⟩ := r j hj hs
  have hs' : (j : Int) < iI s 90 := hs
  exact ⟨by rw [iC_n (by omega)]; exact r1, fun c hc => by rw [iC_n (by omega), iC_a (by omega)]; exact r2 c hc⟩
theorem RLx_l {s : PS} {k i : Nat} {x : Int32} (r : RLx s) (hi : iI s 90 ≤ (k : Int)) : RLx (uC s (178 + k) i x) := fun j hj hs => by
  obtain ⟨r1, r2⟩ := r j hj hs
  have hs' : (j : Int) < iI s 90 := hs
  by_cases e : 162 = 178 + k
  · omega
  · exact ⟨by rw [iC_a e]; exact r1, fun c hc => by rw [iC_a e, iC_a (by omega)]; exact r2 c hc⟩
theorem RLx_up {s : PS} {n : Int} (r : RLx s) (hn : iI s 90 = n) (h0 : 0 ≤ n ∧ n ≤ 11) (h1 : 1 ≤ iC s 162 (n : Int).toNat) (h2 : ∀ i : Nat, i < 128 → iC s (178 + (n : Int).toNat) i < iC s 162 (n : Int).toNat) : RLx (uI s 90 (Int32.ofInt (n + 1))) := fun j hj hs => by
  rw [iI_u ⟨by omega, by omega⟩] at hs
  show RW1 s j
  by_cases e : (j : Int) < n
  · exact r j hj (by omega)
  · have ej : j = (n : Int).toNat := by omega
    rw [ej]
    exact ⟨h1, h2⟩
theorem RLx_w {s : PS} {a i : Nat} {x : Int32} (r : RLx s) (h : a ≠ 162 ∧ ∀ j, j < 12 → 178 + j ≠ a) : RLx (uC s a i x) := fun j hj hs => by
  obtain ⟨r1, r2⟩ := r j hj hs
  exact ⟨by rw [iC_a (Ne.symm h.1)]; exact r1, fun c hc => by rw [iC_a (Ne.symm h.1), iC_a (h.2 j hj)]; exact r2 c hc⟩
section M55
variable {l : Launch} {s0 : State} {D : va_G} {tys : List (ClassId × FieldType)} {a0 : Array Value} {A : Nat → Nat} {dT : Nat → ClassId} {s : PS}
theorem k_stream (G : GX l s0 D tys a0 dT) (I : Bd s) (jRLx : RLx s) {x : Int} (p0 : rng x) : CT l s0 D A dT 200 (rmN 200) [.ref (A 179), .int (Int32.ofInt x)] s (fun o t => Bd t ∧ Fm [73, 74, 76, 90, 91, 77, 75, 78, 79, 80, 81] [165, 162, 166, 167, 168, 169, 170, 171, 172, 173, 174, 175, 176, 177, 178, 179, 180, 181, 182, 183, 184, 185, 186, 187, 188, 189] s t ∧ RLx t ∧ ∃ e, o = .inl (some (.int (Int32.ofInt e))) ∧ rng e ∧ ((0 ≤ x ∧ x ≤ iI s 74 ∧ x ≤ 100 ∧ iI t 74 = 0) ∨ ((x < 0 ∨ iI s 74 < x ∨ 100 < x) ∧ iI t 74 = iI s 74))) := by
  refine ct_of G (by decide) (Nat.le_of_ble_eq_true rfl) (fun k X E hRt hXt q => ?_)
  show WS k 0 [(0, .ref (A 179)), (1, .int (Int32.ofInt x))] [] _ 0 0
  have F : Fm [73, 74, 76, 90, 91, 77, 75, 78, 79, 80, 81] [165, 162, 166, 167, 168, 169, 170, 171, 172, 173, 174, 175, 176, 177, 178, 179, 180, 181, 182, 183, 184, 185, 186, 187, 188, 189] s s := fm_rf _ _ s
  have b1 : (0 : Int) ≤ iI s 73 ∧ iI s 73 ≤ 3 := I.1 73
  have b2 : (0 : Int) ≤ iI s 74 ∧ iI s 74 ≤ 200 := I.1 74
  have b3 : (0 : Int) ≤ iI s 77 ∧ iI s 77 ≤ 400 := I.1 77
  have b4 : (0 : Int) ≤ iI s 75 ∧ iI s 75 ≤ 200 := I.1 75
  have b5 : (0 : Int) ≤ iI s 79 ∧ iI s 79 ≤ 9 := I.1 79
  have b6 : (0 : Int) ≤ iI s 78 ∧ iI s 78 ≤ 8 := I.1 78
  have b7 : (0 : Int) ≤ iI s 90 ∧ iI s 90 ≤ 12 := I.1 90
  have b8 : (0 : Int) ≤ iI s 91 ∧ iI s 91 ≤ 24 := I.1 91
  have L94 : ∀ (n : Nat) (t : PS) (xv : Int), Bd t → Fm [73, 74, 76, 90, 91, 77, 75, 78, 79, 80, 81] [165, 162, 166, 167, 168, 169, 170, 171, 172, 173, 174, 175, 176, 177, 178, 179, 180, 181, 182, 183, 184, 185, 186, 187, 188, 189] s t → RLx t → (TDF t) → ((0 ≤ x ∧ x ≤ iI s 74 ∧ x ≤ 100) ∧ iI t 74 = 0 ∧ iI t 75 = x ∧ iI t 77 ≤ 203 ∧ (iI t 79 = 0 → iI t 77 ≤ iI t 75 + 1) ∧ 1 ≤ iI t 91 ∧ iI t 90 = iI s 90 ∧ iI s 90 ≤ 11) → 400 - iI t 77 + (9 - iI t 79) ≤ n → (∀ (t' : PS), Bd t' → Fm [73, 74, 76, 90, 91, 77, 75, 78, 79, 80, 81] [165, 162, 166, 167, 168, 169, 170, 171, 172, 173, 174, 175, 176, 177, 178, 179, 180, 181, 182, 183, 184, 185, 186, 187, 188, 189] s t' → RLx t' → (TDF t') → ((0 ≤ x ∧ x ≤ iI s 74 ∧ x ≤ 100) ∧ iI t' 74 = 0 ∧ iI t' 75 = x ∧ iI t' 77 ≤ 203 ∧ (iI t' 79 = 0 → iI t' 77 ≤ iI t' 75 + 1) ∧ 1 ≤ iI t' 91 ∧ iI t' 90 = iI s 90 ∧ iI s 90 ≤ 11) → WS k 123 [(0, .ref (A 179)), (1, .int (Int32.ofInt xv))] [] (Wd A dT t') 0 0) → WS k 94 [(0, .ref (A 179)), (1, .int (Int32.ofInt xv))] [] (Wd A dT t) 0 0 := by
    intro n
    induction n with
    | zero =>
      intro t xv I F jjRLx hq hi hm kx
      have b1001 : (0 : Int) ≤ iI t 73 ∧ iI t 73 ≤ 3 := I.1 73
      have b1002 : (0 : Int) ≤ iI t 74 ∧ iI t 74 ≤ 200 := I.1 74
      have b1003 : (0 : Int) ≤ iI t 77 ∧ iI t 77 ≤ 400 := I.1 77
      have b1004 : (0 : Int) ≤ iI t 75 ∧ iI t 75 ≤ 200 := I.1 75
      have b1005 : (0 : Int) ≤ iI t 79 ∧ iI t 79 ≤ 9 := I.1 79
      have b1006 : (0 : Int) ≤ iI t 78 ∧ iI t 78 ≤ 8 := I.1 78
      have b1007 : (0 : Int) ≤ iI t 90 ∧ iI t 90 ≤ 12 := I.1 90
      have b1008 : (0 : Int) ≤ iI t 91 ∧ iI t 91 ≤ 24 := I.1 91
      refine z_aload_n X (x := A 179) (show cdA 200 94 = some (.aload_n 0, 1, 0, 0, 0) from rfl) (List.Mem.head _) ?_
      refine z_getI X 179 (show cdA 200 95 = some (.getfield 191, 3, 12, 6, 0) from rfl) (by decide) rfl rfl ?_
      have b1009 : (0 : Int) ≤ iI t 79 ∧ iI t 79 ≤ 9 := I.1 79
      refine z_if_ne X (t := 123) (show cdA 200 98 = some (.ifCond .ne 25, 3, 1, 0, 0) from rfl) (by decide) ⟨by omega, by omega⟩ (fun g1010 => ?_) (fun g1010 => ?_)
      ·
        refine WS_lv (lv := [(0, .ref (A 179)), (1, .int (Int32.ofInt xv))]) (List.forall_mem_cons.mpr ⟨(List.Mem.head _), (List.forall_mem_cons.mpr ⟨(List.Mem.tail _ (List.Mem.head _)), (fun q h => absurd h List.not_mem_nil)⟩)⟩) ?_
        exact kx _  I F jjRLx hq (by omega)
      ·
        refine z_aload_n X (x := A 179) (show cdA 200 101 = some (.aload_n 0, 1, 0, 0, 0) from rfl) (List.Mem.head _) ?_
        refine z_getI X 179 (show cdA 200 102 = some (.getfield 184, 3, 12, 4, 0) from rfl) (by decide) rfl rfl ?_
        have b1011 : (0 : Int) ≤ iI t 77 ∧ iI t 77 ≤ 400 := I.1 77
        refine z_aload_n X (x := A 179) (show cdA 200 105 = some (.aload_n 0, 1, 0, 0, 0) from rfl) (List.Mem.head _) ?_
        refine z_getI X 179 (show cdA 200 106 = some (.getfield 178, 3, 12, 2, 0) from rfl) (by decide) rfl rfl ?_
        have b1012 : (0 : Int) ≤ iI t 75 ∧ iI t 75 ≤ 200 := I.1 75
        refine z_icmp_ge X (t := 123) (show cdA 200 109 = some (.if_icmp .ge 14, 3, 3, 0, 0) from rfl) (by decide) ⟨by omega, by omega⟩ ⟨by omega, by omega⟩ (fun g1013 => ?_) (fun g1013 => ?_)
        ·
          refine WS_lv (lv := [(0, .ref (A 179)), (1, .int (Int32.ofInt xv))]) (List.forall_mem_cons.mpr ⟨(List.Mem.head _), (List.forall_mem_cons.mpr ⟨(List.Mem.tail _ (List.Mem.head _)), (fun q h => absurd h List.not_mem_nil)⟩)⟩) ?_
          exact kx _  I F jjRLx hq (by omega)
        ·
          have JTD_t : TD t := hq (by omega)
          refine z_aload_n X (x := A 179) (show cdA 200 112 = some (.aload_n 0, 1, 0, 0, 0) from rfl) (List.Mem.head _) ?_
          refine z_callV X 179 (rm := rmN 199) (As := []) (st := []) (show cdA 200 113 = some (.invokevirtual 240, 3, 199, 0, 0) from rfl) rfl (by decide) rfl (by rw [E.1, E.2.1, E.2.2.1]; exact k_move G I JTD_t (by omega) (by omega)) ⟨by rw [E.2.2.2]; exact (show (rmN 199).frames + 1 ≤ (rmN 200).frames by decide), by rw [E.2.2.2]; exact (show 8 + (mNL (miB 199) + 11) + (rmN 199).locals ≤ (rmN 200).locals by decide), by rw [E.2.2.2]; exact (show 0 + (rmN 199).cells ≤ (rmN 200).cells by decide), by rw [E.2.2.2]; exact (show 0 + (rmN 199).slots ≤ (rmN 200).slots by decide)⟩ (Nat.le_of_ble_eq_true rfl) (fun vv s1014 hq => ?_) (fun ee s1014 hq => ?_)
          rotate_left
          · obtain ⟨Is1014, Fs1014, JTD_s1014, hv, hps1014⟩ := hq; cases hv
          obtain ⟨Is1014, Fs1014, JTD_s1014, hv, hps1014⟩ := hq
          cases hv
          have Gs1014 := fm_ts F Fs1014 (by decide) (by decide)
          have JRLx_s1014 : RLx s1014 := RLx_fm Fs1014 (by decide) jjRLx
          have ws1014_73 : iI s1014 73 = iI t 73 := fm_i Fs1014 (by decide)
          have ws1014_74 : iI s1014 74 = iI t 74 := fm_i Fs1014 (by decide)
          have b1016 : (0 : Int) ≤ iI s1014 77 ∧ iI s1014 77 ≤ 400 := Is1014.1 77
          have ws1014_75 : iI s1014 75 = iI t 75 := fm_i Fs1014 (by decide)
          have b1017 : (0 : Int) ≤ iI s1014 79 ∧ iI s1014 79 ≤ 9 := Is1014.1 79
          have ws1014_78 : iI s1014 78 = iI t 78 := fm_i Fs1014 (by decide)
          have ws1014_90 : iI s1014 90 = iI t 90 := fm_i Fs1014 (by decide)
          have b1018 : (0 : Int) ≤ iI s1014 91 ∧ iI s1014 91 ≤ 24 := Is1014.1 91
          show WS k 116 [(0, .ref (A 179)), (1, .int (Int32.ofInt xv))] [] (Wd A dT s1014) 0 0
          refine z_aload_n X (x := A 179) (show cdA 200 116 = some (.aload_n 0, 1, 0, 0, 0) from rfl) (List.Mem.head _) ?_
          refine z_callV X 179 (rm := rmN 193) (As := []) (st := []) (show cdA 200 117 = some (.invokevirtual 197, 3, 193, 0, 0) from rfl) rfl (by decide) rfl (by rw [E.1, E.2.1, E.2.2.1]; exact k_blanks G Is1014 (by omega)) ⟨by rw [E.2.2.2]; exact (show (rmN 193).frames + 1 ≤ (rmN 200).frames by decide), by rw [E.2.2.2]; exact (show 8 + (mNL (miB 193) + 11) + (rmN 193).locals ≤ (rmN 200).locals by decide), by rw [E.2.2.2]; exact (show 0 + (rmN 193).cells ≤ (rmN 200).cells by decide), by rw [E.2.2.2]; exact (show 0 + (rmN 193).slots ≤ (rmN 200).slots by decide)⟩ (Nat.le_of_ble_eq_true rfl) (fun vv s1019 hq => ?_) (fun ee s1019 hq => ?_)
          rotate_left
          · obtain ⟨Is1019, Fs1019, hv, hps1019⟩ := hq; cases hv
          obtain ⟨Is1019, Fs1019, hv, hps1019⟩ := hq
          cases hv
          have Gs1019 := fm_ts Gs1014 Fs1019 (by decide) (by decide)
          have JRLx_s1019 : RLx s1019 := RLx_fm Fs1019 (by decide) JRLx_s1014
          have JTD_s1019 : TD s1019 := TD_fm Fs1019 (by decide) JTD_s1014
          have ws1019_73 : iI s1019 73 = iI s1014 73 := fm_i Fs1019 (by decide)
          have ws1019_74 : iI s1019 74 = iI s1014 74 := fm_i Fs1019 (by decide)
          have b1021 : (0 : Int) ≤ iI s1019 77 ∧ iI s1019 77 ≤ 400 := Is1019.1 77
          have ws1019_75 : iI s1019 75 = iI s1014 75 := fm_i Fs1019 (by decide)
          have ws1019_79 : iI s1019 79 = iI s1014 79 := fm_i Fs1019 (by decide)
          have ws1019_78 : iI s1019 78 = iI s1014 78 := fm_i Fs1019 (by decide)
          have ws1019_90 : iI s1019 90 = iI s1014 90 := fm_i Fs1019 (by decide)
          have ws1019_91 : iI s1019 91 = iI s1014 91 := fm_i Fs1019 (by decide)
          show WS k 120 [(0, .ref (A 179)), (1, .int (Int32.ofInt xv))] [] (Wd A dT s1019) 0 0
          refine z_goto X (t := 94) (show cdA 200 120 = some (.goto (-26), 3, 0, 0, 0) from rfl) (by decide) ?_
          exfalso
          omega
    | succ n ih =>
      intro t xv I F jjRLx hq hi hm kx
      have b1001 : (0 : Int) ≤ iI t 73 ∧ iI t 73 ≤ 3 := I.1 73
      have b1002 : (0 : Int) ≤ iI t 74 ∧ iI t 74 ≤ 200 := I.1 74
      have b1003 : (0 : Int) ≤ iI t 77 ∧ iI t 77 ≤ 400 := I.1 77
      have b1004 : (0 : Int) ≤ iI t 75 ∧ iI t 75 ≤ 200 := I.1 75
      have b1005 : (0 : Int) ≤ iI t 79 ∧ iI t 79 ≤ 9 := I.1 79
      have b1006 : (0 : Int) ≤ iI t 78 ∧ iI t 78 ≤ 8 := I.1 78
      have b1007 : (0 : Int) ≤ iI t 90 ∧ iI t 90 ≤ 12 := I.1 90
      have b1008 : (0 : Int) ≤ iI t 91 ∧ iI t 91 ≤ 24 := I.1 91
      refine z_aload_n X (x := A 179) (show cdA 200 94 = some (.aload_n 0, 1, 0, 0, 0) from rfl) (List.Mem.head _) ?_
      refine z_getI X 179 (show cdA 200 95 = some (.getfield 191, 3, 12, 6, 0) from rfl) (by decide) rfl rfl ?_
      have b1009 : (0 : Int) ≤ iI t 79 ∧ iI t 79 ≤ 9 := I.1 79
      refine z_if_ne X (t := 123) (show cdA 200 98 = some (.ifCond .ne 25, 3, 1, 0, 0) from rfl) (by decide) ⟨by omega, by omega⟩ (fun g1010 => ?_) (fun g1010 => ?_)
      ·
        refine WS_lv (lv := [(0, .ref (A 179)), (1, .int (Int32.ofInt xv))]) (List.forall_mem_cons.mpr ⟨(List.Mem.head _), (List.forall_mem_cons.mpr ⟨(List.Mem.tail _ (List.Mem.head _)), (fun q h => absurd h List.not_mem_nil)⟩)⟩) ?_
        exact kx _  I F jjRLx hq (by omega)
      ·
        refine z_aload_n X (x := A 179) (show cdA 200 101 = some (.aload_n 0, 1, 0, 0, 0) from rfl) (List.Mem.head _) ?_
        refine z_getI X 179 (show cdA 200 102 = some (.getfield 184, 3, 12, 4, 0) from rfl) (by decide) rfl rfl ?_
        have b1011 : (0 : Int) ≤ iI t 77 ∧ iI t 77 ≤ 400 := I.1 77
        refine z_aload_n X (x := A 179) (show cdA 200 105 = some (.aload_n 0, 1, 0, 0, 0) from rfl) (List.Mem.head _) ?_
        refine z_getI X 179 (show cdA 200 106 = some (.getfield 178, 3, 12, 2, 0) from rfl) (by decide) rfl rfl ?_
        have b1012 : (0 : Int) ≤ iI t 75 ∧ iI t 75 ≤ 200 := I.1 75
        refine z_icmp_ge X (t := 123) (show cdA 200 109 = some (.if_icmp .ge 14, 3, 3, 0, 0) from rfl) (by decide) ⟨by omega, by omega⟩ ⟨by omega, by omega⟩ (fun g1013 => ?_) (fun g1013 => ?_)
        ·
          refine WS_lv (lv := [(0, .ref (A 179)), (1, .int (Int32.ofInt xv))]) (List.forall_mem_cons.mpr ⟨(List.Mem.head _), (List.forall_mem_cons.mpr ⟨(List.Mem.tail _ (List.Mem.head _)), (fun q h => absurd h List.not_mem_nil)⟩)⟩) ?_
          exact kx _  I F jjRLx hq (by omega)
        ·
          have JTD_t : TD t := hq (by omega)
          refine z_aload_n X (x := A 179) (show cdA 200 112 = some (.aload_n 0, 1, 0, 0, 0) from rfl) (List.Mem.head _) ?_
          refine z_callV X 179 (rm := rmN 199) (As := []) (st := []) (show cdA 200 113 = some (.invokevirtual 240, 3, 199, 0, 0) from rfl) rfl (by decide) rfl (by rw [E.1, E.2.1, E.2.2.1]; exact k_move G I JTD_t (by omega) (by omega)) ⟨by rw [E.2.2.2]; exact (show (rmN 199).frames + 1 ≤ (rmN 200).frames by decide), by rw [E.2.2.2]; exact (show 8 + (mNL (miB 199) + 11) + (rmN 199).locals ≤ (rmN 200).locals by decide), by rw [E.2.2.2]; exact (show 0 + (rmN 199).cells ≤ (rmN 200).cells by decide), by rw [E.2.2.2]; exact (show 0 + (rmN 199).slots ≤ (rmN 200).slots by decide)⟩ (Nat.le_of_ble_eq_true rfl) (fun vv s1014 hq => ?_) (fun ee s1014 hq => ?_)
          rotate_left
          · obtain ⟨Is1014, Fs1014, JTD_s1014, hv, hps1014⟩ := hq; cases hv
          obtain ⟨Is1014, Fs1014, JTD_s1014, hv, hps1014⟩ := hq
          cases hv
          have Gs1014 := fm_ts F Fs1014 (by decide) (by decide)
          have JRLx_s1014 : RLx s1014 := RLx_fm Fs1014 (by decide) jjRLx
          have ws1014_73 : iI s1014 73 = iI t 73 := fm_i Fs1014 (by decide)
          have ws1014_74 : iI s1014 74 = iI t 74 := fm_i Fs1014 (by decide)
          have b1016 : (0 : Int) ≤ iI s1014 77 ∧ iI s1014 77 ≤ 400 := Is1014.1 77
          have ws1014_75 : iI s1014 75 = iI t 75 := fm_i Fs1014 (by decide)
          have b1017 : (0 : Int) ≤ iI s1014 79 ∧ iI s1014 79 ≤ 9 := Is1014.1 79
          have ws1014_78 : iI s1014 78 = iI t 78 := fm_i Fs1014 (by decide)
          have ws1014_90 : iI s1014 90 = iI t 90 := fm_i Fs1014 (by decide)
          have b1018 : (0 : Int) ≤ iI s1014 91 ∧ iI s1014 91 ≤ 24 := Is1014.1 91
          show WS k 116 [(0, .ref (A 179)), (1, .int (Int32.ofInt xv))] [] (Wd A dT s1014) 0 0
          refine z_aload_n X (x := A 179) (show cdA 200 116 = some (.aload_n 0, 1, 0, 0, 0) from rfl) (List.Mem.head _) ?_
          refine z_callV X 179 (rm := rmN 193) (As := []) (st := []) (show cdA 200 117 = some (.invokevirtual 197, 3, 193, 0, 0) from rfl) rfl (by decide) rfl (by rw [E.1, E.2.1, E.2.2.1]; exact k_blanks G Is1014 (by omega)) ⟨by rw [E.2.2.2]; exact (show (rmN 193).frames + 1 ≤ (rmN 200).frames by decide), by rw [E.2.2.2]; exact (show 8 + (mNL (miB 193) + 11) + (rmN 193).locals ≤ (rmN 200).locals by decide), by rw [E.2.2.2]; exact (show 0 + (rmN 193).cells ≤ (rmN 200).cells by decide), by rw [E.2.2.2]; exact (show 0 + (rmN 193).slots ≤ (rmN 200).slots by decide)⟩ (Nat.le_of_ble_eq_true rfl) (fun vv s1019 hq => ?_) (fun ee s1019 hq => ?_)
          rotate_left
          · obtain ⟨Is1019, Fs1019, hv, hps1019⟩ := hq; cases hv
          obtain ⟨Is1019, Fs1019, hv, hps1019⟩ := hq
          cases hv
          have Gs1019 := fm_ts Gs1014 Fs1019 (by decide) (by decide)
          have JRLx_s1019 : RLx s1019 := RLx_fm Fs1019 (by decide) JRLx_s1014
          have JTD_s1019 : TD s1019 := TD_fm Fs1019 (by decide) JTD_s1014
          have ws1019_73 : iI s1019 73 = iI s1014 73 := fm_i Fs1019 (by decide)
          have ws1019_74 : iI s1019 74 = iI s1014 74 := fm_i Fs1019 (by decide)
          have b1021 : (0 : Int) ≤ iI s1019 77 ∧ iI s1019 77 ≤ 400 := Is1019.1 77
          have ws1019_75 : iI s1019 75 = iI s1014 75 := fm_i Fs1019 (by decide)
          have ws1019_79 : iI s1019 79 = iI s1014 79 := fm_i Fs1019 (by decide)
          have ws1019_78 : iI s1019 78 = iI s1014 78 := fm_i Fs1019 (by decide)
          have ws1019_90 : iI s1019 90 = iI s1014 90 := fm_i Fs1019 (by decide)
          have ws1019_91 : iI s1019 91 = iI s1014 91 := fm_i Fs1019 (by decide)
          show WS k 120 [(0, .ref (A 179)), (1, .int (Int32.ofInt xv))] [] (Wd A dT s1019) 0 0
          refine z_goto X (t := 94) (show cdA 200 120 = some (.goto (-26), 3, 0, 0, 0) from rfl) (by decide) ?_
          refine WS_lv (lv := [(0, .ref (A 179)), (1, .int (Int32.ofInt xv))]) (List.forall_mem_cons.mpr ⟨(List.Mem.head _), (List.forall_mem_cons.mpr ⟨(List.Mem.tail _ (List.Mem.head _)), (fun q h => absurd h List.not_mem_nil)⟩)⟩) ?_
          exact ih _ xv Is1019 Gs1019 JRLx_s1019 (fun _ => JTD_s1019) (by omega) (by omega) kx
  have L161 : ∀ (n : Nat) (t : PS) (xv c : Int), Bd t → Fm [73, 74, 76, 90, 91, 77, 75, 78, 79, 80, 81] [165, 162, 166, 167, 168, 169, 170, 171, 172, 173, 174, 175, 176, 177, 178, 179, 180, 181, 182, 183, 184, 185, 186, 187, 188, 189] s t → RLx t → (TD t ∧ RLx t ∧ ∀ i : Nat, i < 128 → (i : Int) < c → iC t (178 + (iI s 90 : Int).toNat) i < iC t 162 (iI s 90 : Int).toNat) → ((0 ≤ x ∧ x ≤ iI s 74 ∧ x ≤ 100) ∧ iI t 74 = 0 ∧ 1 ≤ iI t 91 ∧ iI t 90 = iI s 90 ∧ iI s 90 ≤ 11 ∧ 0 ≤ c ∧ c ≤ 128 ∧ iC t 162 (iI s 90 : Int).toNat = iI t 91) → 128 - c ≤ n → (∀ (t' : PS) (c' : Int), Bd t' → Fm [73, 74, 76, 90, 91, 77, 75, 78, 79, 80, 81] [165, 162, 166, 167, 168, 169, 170, 171, 172, 173, 174, 175, 176, 177, 178, 179, 180, 181, 182, 183, 184, 185, 186, 187, 188, 189] s t' → RLx t' → (TD t' ∧ RLx t' ∧ ∀ i : Nat, i < 128 → (i : Int) < c' → iC t' (178 + (iI s 90 : Int).toNat) i < iC t' 162 (iI s 90 : Int).toNat) → ((0 ≤ x ∧ x ≤ iI s 74 ∧ x ≤ 100) ∧ iI t' 74 = 0 ∧ 1 ≤ iI t' 91 ∧ iI t' 90 = iI s 90 ∧ iI s 90 ≤ 11 ∧ c' = 128 ∧ iC t' 162 (iI s 90 : Int).toNat = iI t' 91) → WS k 186 [(0, .ref (A 179)), (1, .int (Int32.ofInt xv)), (2, .int (Int32.ofInt c'))] [] (Wd A dT t') 0 0) → WS k 161 [(0, .ref (A 179)), (1, .int (Int32.ofInt xv)), (2, .int (Int32.ofInt c))] [] (Wd A dT t) 0 0 := by
    intro n
    induction n with
    | zero =>
      intro t xv c I F jjRLx hq hi hm kx
      have b2001 : (0 : Int) ≤ iI t 73 ∧ iI t 73 ≤ 3 := I.1 73
      have b2002 : (0 : Int) ≤ iI t 74 ∧ iI t 74 ≤ 200 := I.1 74
      have b2003 : (0 : Int) ≤ iI t 77 ∧ iI t 77 ≤ 400 := I.1 77
      have b2004 : (0 : Int) ≤ iI t 75 ∧ iI t 75 ≤ 200 := I.1 75
      have b2005 : (0 : Int) ≤ iI t 79 ∧ iI t 79 ≤ 9 := I.1 79
      have b2006 : (0 : Int) ≤ iI t 78 ∧ iI t 78 ≤ 8 := I.1 78
      have b2007 : (0 : Int) ≤ iI t 90 ∧ iI t 90 ≤ 12 := I.1 90
      have b2008 : (0 : Int) ≤ iI t 91 ∧ iI t 91 ≤ 24 := I.1 91
      refine z_load_n X (x := c) (show cdA 200 161 = some (.iload_n 2, 1, 0, 0, 0) from rfl) (List.Mem.tail _ (List.Mem.tail _ (List.Mem.head _))) ?_
      refine z_sipush X (show cdA 200 162 = some (.sipush 128, 3, 0, 0, 128) from rfl) ?_
      refine z_icmp_ge X (t := 186) (show cdA 200 165 = some (.if_icmp .ge 21, 3, 3, 0, 0) from rfl) (by decide) ⟨by omega, by omega⟩ ⟨by omega, by omega⟩ (fun g2009 => ?_) (fun g2009 => ?_)
      ·
        refine WS_lv (lv := [(0, .ref (A 179)), (1, .int (Int32.ofInt xv)), (2, .int (Int32.ofInt c))]) (List.forall_mem_cons.mpr ⟨(List.Mem.head _), (List.forall_mem_cons.mpr ⟨(List.Mem.tail _ (List.Mem.head _)), (List.forall_mem_cons.mpr ⟨(List.Mem.tail _ (List.Mem.tail _ (List.Mem.head _))), (fun q h => absurd h List.not_mem_nil)⟩)⟩)⟩) ?_
        exact kx _ c I F jjRLx hq (by omega)
      ·
        refine z_aload_n X (x := A 179) (show cdA 200 168 = some (.aload_n 0, 1, 0, 0, 0) from rfl) (List.Mem.head _) ?_
        refine s_getR X 179 (show cdA 200 169 = some (.getfield 52, 3, 12, 29, 0) from rfl) (by decide) rfl rfl ?_
        refine z_aload_n X (x := A 179) (show cdA 200 172 = some (.aload_n 0, 1, 0, 0, 0) from rfl) (List.Mem.head _) ?_
        refine z_getI X 179 (show cdA 200 173 = some (.getfield 233, 3, 12, 22, 0) from rfl) (by decide) rfl rfl ?_
        have b2010 : (0 : Int) ≤ iI t 90 ∧ iI t 90 ≤ 12 := I.1 90
        refine z_aald X rw_202 (show cdA 200 176 = some (.aaload, 1, 0, 0, 0) from rfl) (by omega) (show (iI t 90) < 12 by omega) (by decide) ?_
        refine z_load_n X (x := c) (show cdA 200 177 = some (.iload_n 2, 1, 0, 0, 0) from rfl) (List.Mem.tail _ (List.Mem.tail _ (List.Mem.head _))) ?_
        refine z_const X (show cdA 200 178 = some (.iconst (-1), 1, 0, 0, 0) from rfl) ?_
        refine z_ast2 X rw_202 (show cdA 200 179 = some (.iastore, 1, 0, 0, 0) from rfl) (show ((iI t 90) : Int).toNat < 12 by omega) (by omega) (show c < 128 by omega) (by decide) ?_
        obtain ⟨s2011, hs2011⟩ : ∃ x0, x0 = uC t (178 + ((iI t 90) : Int).toNat) (c : Int).toNat (Int32.ofInt (-1)) := ⟨_, rfl⟩
        rw [← hs2011]
        have Is2011 : Bd s2011 := by rw [hs2011]; exact rw_st rw_202 I (show ((iI t 90) : Int).toNat < 12 by omega) (show ((-1) : Int) ≤ (-1) ∧ (-1) ≤ 23 by omega) ⟨by omega, by omega⟩
        have Fs2011 := fm_C (i := (c : Int).toNat) (x := Int32.ofInt (-1)) F ((show ∀ j, j < 12 → 178 + j ∈ _ by decide) ((iI t 90) : Int).toNat (by omega))
        rw [← hs2011] at Fs2011
        have ws2011_73 : iI s2011 73 = iI t 73 := by rw [hs2011]; rfl
        have ws2011_74 : iI s2011 74 = iI t 74 := by rw [hs2011]; rfl
        have ws2011_77 : iI s2011 77 = iI t 77 := by rw [hs2011]; rfl
        have ws2011_75 : iI s2011 75 = iI t 75 := by rw [hs2011]; rfl
        have ws2011_79 : iI s2011 79 = iI t 79 := by rw [hs2011]; rfl
        have ws2011_78 : iI s2011 78 = iI t 78 := by rw [hs2011]; rfl
        have ws2011_90 : iI s2011 90 = iI t 90 := by rw [hs2011]; rfl
        have ws2011_91 : iI s2011 91 = iI t 91 := by rw [hs2011]; rfl
        have fs2011 : Fm [] [178, 179, 180, 181, 182, 183, 184, 185, 186, 187, 188, 189] t s2011 := by rw [hs2011]; exact fm_C (fm_rf _ _ _) ((show ∀ j, j < 12 → 178 + j ∈ _ by decide) ((iI t 90) : Int).toNat (by omega))
        have JTD_s2011 : TD s2011 := TD_fm fs2011 (by decide) hq.1
        refine z_inc X (x := c) (lv' := [(2, .int (Int32.ofInt (c + 1))), (0, .ref (A 179)), (1, .int (Int32.ofInt xv))]) (show cdA 200 180 = some (.iinc 2 1, 3, 0, 0, 0) from rfl) (by decide) (List.Mem.tail _ (List.Mem.tail _ (List.Mem.head _))) (fun _ h => h) ?_
        refine z_goto X (t := 161) (show cdA 200 183 = some (.goto (-22), 3, 0, 0, 0) from rfl) (by decide) ?_
        exfalso
        omega
    | succ n ih =>
      intro t xv c I F jjRLx hq hi hm kx
      have b2001 : (0 : Int) ≤ iI t 73 ∧ iI t 73 ≤ 3 := I.1 73
      have b2002 : (0 : Int) ≤ iI t 74 ∧ iI t 74 ≤ 200 := I.1 74
      have b2003 : (0 : Int) ≤ iI t 77 ∧ iI t 77 ≤ 400 := I.1 77
      have b2004 : (0 : Int) ≤ iI t 75 ∧ iI t 75 ≤ 200 := I.1 75
      have b2005 : (0 : Int) ≤ iI t 79 ∧ iI t 79 ≤ 9 := I.1 79
      have b2006 : (0 : Int) ≤ iI t 78 ∧ iI t 78 ≤ 8 := I.1 78
      have b2007 : (0 : Int) ≤ iI t 90 ∧ iI t 90 ≤ 12 := I.1 90
      have b2008 : (0 : Int) ≤ iI t 91 ∧ iI t 91 ≤ 24 := I.1 91
      refine z_load_n X (x := c) (show cdA 200 161 = some (.iload_n 2, 1, 0, 0, 0) from rfl) (List.Mem.tail _ (List.Mem.tail _ (List.Mem.head _))) ?_
      refine z_sipush X (show cdA 200 162 = some (.sipush 128, 3, 0, 0, 128) from rfl) ?_
      refine z_icmp_ge X (t := 186) (show cdA 200 165 = some (.if_icmp .ge 21, 3, 3, 0, 0) from rfl) (by decide) ⟨by omega, by omega⟩ ⟨by omega, by omega⟩ (fun g2009 => ?_) (fun g2009 => ?_)
      ·
        refine WS_lv (lv := [(0, .ref (A 179)), (1, .int (Int32.ofInt xv)), (2, .int (Int32.ofInt c))]) (List.forall_mem_cons.mpr ⟨(List.Mem.head _), (List.forall_mem_cons.mpr ⟨(List.Mem.tail _ (List.Mem.head _)), (List.forall_mem_cons.mpr ⟨(List.Mem.tail _ (List.Mem.tail _ (List.Mem.head _))), (fun q h => absurd h List.not_mem_nil)⟩)⟩)⟩) ?_
        exact kx _ c I F jjRLx hq (by omega)
      ·
        refine z_aload_n X (x := A 179) (show cdA 200 168 = some (.aload_n 0, 1, 0, 0, 0) from rfl) (List.Mem.head _) ?_
        refine s_getR X 179 (show cdA 200 169 = some (.getfield 52, 3, 12, 29, 0) from rfl) (by decide) rfl rfl ?_
        refine z_aload_n X (x := A 179) (show cdA 200 172 = some (.aload_n 0, 1, 0, 0, 0) from rfl) (List.Mem.head _) ?_
        refine z_getI X 179 (show cdA 200 173 = some (.getfield 233, 3, 12, 22, 0) from rfl) (by decide) rfl rfl ?_
        have b2010 : (0 : Int) ≤ iI t 90 ∧ iI t 90 ≤ 12 := I.1 90
        refine z_aald X rw_202 (show cdA 200 176 = some (.aaload, 1, 0, 0, 0) from rfl) (by omega) (show (iI t 90) < 12 by omega) (by decide) ?_
        refine z_load_n X (x := c) (show cdA 200 177 = some (.iload_n 2, 1, 0, 0, 0) from rfl) (List.Mem.tail _ (List.Mem.tail _ (List.Mem.head _))) ?_
        refine z_const X (show cdA 200 178 = some (.iconst (-1), 1, 0, 0, 0) from rfl) ?_
        refine z_ast2 X rw_202 (show cdA 200 179 = some (.iastore, 1, 0, 0, 0) from rfl) (show ((iI t 90) : Int).toNat < 12 by omega) (by omega) (show c < 128 by omega) (by decide) ?_
        obtain ⟨s2011, hs2011⟩ : ∃ x0, x0 = uC t (178 + ((iI t 90) : Int).toNat) (c : Int).toNat (Int32.ofInt (-1)) := ⟨_, rfl⟩
        rw [← hs2011]
        have Is2011 : Bd s2011 := by rw [hs2011]; exact rw_st rw_202 I (show ((iI t 90) : Int).toNat < 12 by omega) (show ((-1) : Int) ≤ (-1) ∧ (-1) ≤ 23 by omega) ⟨by omega, by omega⟩
        have Fs2011 := fm_C (i := (c : Int).toNat) (x := Int32.ofInt (-1)) F ((show ∀ j, j < 12 → 178 + j ∈ _ by decide) ((iI t 90) : Int).toNat (by omega))
        rw [← hs2011] at Fs2011
        have ws2011_73 : iI s2011 73 = iI t 73 := by rw [hs2011]; rfl
        have ws2011_74 : iI s2011 74 = iI t 74 := by rw [hs2011]; rfl
        have ws2011_77 : iI s2011 77 = iI t 77 := by rw [hs2011]; rfl
        have ws2011_75 : iI s2011 75 = iI t 75 := by rw [hs2011]; rfl
        have ws2011_79 : iI s2011 79 = iI t 79 := by rw [hs2011]; rfl
        have ws2011_78 : iI s2011 78 = iI t 78 := by rw [hs2011]; rfl
        have ws2011_90 : iI s2011 90 = iI t 90 := by rw [hs2011]; rfl
        have ws2011_91 : iI s2011 91 = iI t 91 := by rw [hs2011]; rfl
        have fs2011 : Fm [] [178, 179, 180, 181, 182, 183, 184, 185, 186, 187, 188, 189] t s2011 := by rw [hs2011]; exact fm_C (fm_rf _ _ _) ((show ∀ j, j < 12 → 178 + j ∈ _ by decide) ((iI t 90) : Int).toNat (by omega))
        have JTD_s2011 : TD s2011 := TD_fm fs2011 (by decide) hq.1
        refine z_inc X (x := c) (lv' := [(2, .int (Int32.ofInt (c + 1))), (0, .ref (A 179)), (1, .int (Int32.ofInt xv))]) (show cdA 200 180 = some (.iinc 2 1, 3, 0, 0, 0) from rfl) (by decide) (List.Mem.tail _ (List.Mem.tail _ (List.Mem.head _))) (fun _ h => h) ?_
        refine z_goto X (t := 161) (show cdA 200 183 = some (.goto (-22), 3, 0, 0, 0) from rfl) (by decide) ?_
        refine WS_lv (lv := [(0, .ref (A 179)), (1, .int (Int32.ofInt xv)), (2, .int (Int32.ofInt (c + 1)))]) (List.forall_mem_cons.mpr ⟨(List.Mem.tail _ (List.Mem.head _)), (List.forall_mem_cons.mpr ⟨(List.Mem.tail _ (List.Mem.tail _ (List.Mem.head _))), (List.forall_mem_cons.mpr ⟨(List.Mem.head _), (fun q h => absurd h List.not_mem_nil)⟩)⟩)⟩) ?_
        have es_s2011 : iI t 90 = iI s 90 := by omega
        have vm_s2011 : iC s2011 162 (iI s 90 : Int).toNat = iC t 162 (iI s 90 : Int).toNat := by rw [hs2011, iC_a (by omega)]
        have hL2012 : TD s2011 ∧ RLx s2011 ∧ ∀ i : Nat, i < 128 → (i : Int) < (c + 1) → iC s2011 (178 + (iI s 90 : Int).toNat) i < iC s2011 162 (iI s 90 : Int).toNat := by
          refine ⟨JTD_s2011, by rw [hs2011, es_s2011]; exact RLx_l hq.2.1 (by omega), fun i hi h => ?_⟩
          rw [vm_s2011]
          by_cases e : i = (c : Int).toNat
          · rw [e, hs2011, es_s2011, iC_u ⟨by omega, by omega⟩]; omega
          · rw [hs2011, es_s2011, iC_n e]; exact hq.2.2 i hi (by omega)
        exact ih _ xv (c + 1) Is2011 Fs2011 hL2012.2.1 hL2012 (by omega) (by omega) kx
  have L188 : ∀ (n : Nat) (t : PS) (xv c : Int), Bd t → Fm [73, 74, 76, 90, 91, 77, 75, 78, 79, 80, 81] [165, 162, 166, 167, 168, 169, 170, 171, 172, 173, 174, 175, 176, 177, 178, 179, 180, 181, 182, 183, 184, 185, 186, 187, 188, 189] s t → RLx t → (TD t ∧ RLx t ∧ ∀ i : Nat, i < 128 → (i : Int) < 128 → iC t (178 + (iI s 90 : Int).toNat) i < iC t 162 (iI s 90 : Int).toNat) → ((0 ≤ x ∧ x ≤ iI s 74 ∧ x ≤ 100) ∧ iI t 74 = 0 ∧ 1 ≤ iI t 91 ∧ iI t 90 = iI s 90 ∧ iI s 90 ≤ 11 ∧ 0 ≤ c ∧ c ≤ 24 ∧ iC t 162 (iI s 90 : Int).toNat = iI t 91) → 24 - c ≤ n → (∀ (t' : PS) (c' : Int), Bd t' → Fm [73, 74, 76, 90, 91, 77, 75, 78, 79, 80, 81] [165, 162, 166, 167, 168, 169, 170, 171, 172, 173, 174, 175, 176, 177, 178, 179, 180, 181, 182, 183, 184, 185, 186, 187, 188, 189] s t' → RLx t' → (TD t' ∧ RLx t' ∧ ∀ i : Nat, i < 128 → (i : Int) < 128 → iC t' (178 + (iI s 90 : Int).toNat) i < iC t' 162 (iI s 90 : Int).toNat) → ((0 ≤ x ∧ x ≤ iI s 74 ∧ x ≤ 100) ∧ iI t' 74 = 0 ∧ 1 ≤ iI t' 91 ∧ iI t' 90 = iI s 90 ∧ iI s 90 ≤ 11 ∧ 0 ≤ c' ∧ c' ≤ 24 ∧ iC t' 162 (iI s 90 : Int).toNat = iI t' 91) → WS k 236 [(0, .ref (A 179)), (1, .int (Int32.ofInt xv)), (2, .int (Int32.ofInt c'))] [] (Wd A dT t') 0 0) → WS k 188 [(0, .ref (A 179)), (1, .int (Int32.ofInt xv)), (2, .int (Int32.ofInt c))] [] (Wd A dT t) 0 0 := by
    intro n
    induction n with
    | zero =>
      intro t xv c I F jjRLx hq hi hm kx
      have b3001 : (0 : Int) ≤ iI t 73 ∧ iI t 73 ≤ 3 := I.1 73
      have b3002 : (0 : Int) ≤ iI t 74 ∧ iI t 74 ≤ 200 := I.1 74
      have b3003 : (0 : Int) ≤ iI t 77 ∧ iI t 77 ≤ 400 := I.1 77
      have b3004 : (0 : Int) ≤ iI t 75 ∧ iI t 75 ≤ 200 := I.1 75
      have b3005 : (0 : Int) ≤ iI t 79 ∧ iI t 79 ≤ 9 := I.1 79
      have b3006 : (0 : Int) ≤ iI t 78 ∧ iI t 78 ≤ 8 := I.1 78
      have b3007 : (0 : Int) ≤ iI t 90 ∧ iI t 90 ≤ 12 := I.1 90
      have b3008 : (0 : Int) ≤ iI t 91 ∧ iI t 91 ≤ 24 := I.1 91
      refine z_load_n X (x := c) (show cdA 200 188 = some (.iload_n 2, 1, 0, 0, 0) from rfl) (List.Mem.tail _ (List.Mem.tail _ (List.Mem.head _))) ?_
      refine z_aload_n X (x := A 179) (show cdA 200 189 = some (.aload_n 0, 1, 0, 0, 0) from rfl) (List.Mem.head _) ?_
      refine z_getI X 179 (show cdA 200 190 = some (.getfield 216, 3, 12, 27, 0) from rfl) (by decide) rfl rfl ?_
      have b3009 : (0 : Int) ≤ iI t 91 ∧ iI t 91 ≤ 24 := I.1 91
      refine z_icmp_ge X (t := 236) (show cdA 200 193 = some (.if_icmp .ge 43, 3, 3, 0, 0) from rfl) (by decide) ⟨by omega, by omega⟩ ⟨by omega, by omega⟩ (fun g3010 => ?_) (fun g3010 => ?_)
      ·
        refine WS_lv (lv := [(0, .ref (A 179)), (1, .int (Int32.ofInt xv)), (2, .int (Int32.ofInt c))]) (List.forall_mem_cons.mpr ⟨(List.Mem.head _), (List.forall_mem_cons.mpr ⟨(List.Mem.tail _ (List.Mem.head _)), (List.forall_mem_cons.mpr ⟨(List.Mem.tail _ (List.Mem.tail _ (List.Mem.head _))), (fun q h => absurd h List.not_mem_nil)⟩)⟩)⟩) ?_
        exact kx _ c I F jjRLx hq (by omega)
      ·
        refine z_aload_n X (x := A 179) (show cdA 200 196 = some (.aload_n 0, 1, 0, 0, 0) from rfl) (List.Mem.head _) ?_
        refine s_getR X 179 (show cdA 200 197 = some (.getfield 49, 3, 12, 28, 0) from rfl) (by decide) rfl rfl ?_
        refine z_aload_n X (x := A 179) (show cdA 200 200 = some (.aload_n 0, 1, 0, 0, 0) from rfl) (List.Mem.head _) ?_
        refine z_getI X 179 (show cdA 200 201 = some (.getfield 233, 3, 12, 22, 0) from rfl) (by decide) rfl rfl ?_
        have b3011 : (0 : Int) ≤ iI t 90 ∧ iI t 90 ≤ 12 := I.1 90
        refine z_aald X rw_189 (show cdA 200 204 = some (.aaload, 1, 0, 0, 0) from rfl) (by omega) (show (iI t 90) < 12 by omega) (by decide) ?_
        refine z_load_n X (x := c) (show cdA 200 205 = some (.iload_n 2, 1, 0, 0, 0) from rfl) (List.Mem.tail _ (List.Mem.tail _ (List.Mem.head _))) ?_
        refine z_aload_n X (x := A 179) (show cdA 200 206 = some (.aload_n 0, 1, 0, 0, 0) from rfl) (List.Mem.head _) ?_
        refine s_getR X 179 (show cdA 200 207 = some (.getfield 44, 3, 12, 26, 0) from rfl) (by decide) rfl rfl ?_
        refine z_load_n X (x := c) (show cdA 200 210 = some (.iload_n 2, 1, 0, 0, 0) from rfl) (List.Mem.tail _ (List.Mem.tail _ (List.Mem.head _))) ?_
        have hT3012 := hq.1 (c : Int).toNat (by omega)
        refine z_ald X 188 (show cdA 200 211 = some (.iaload, 1, 0, 0, 0) from rfl) (by decide) rfl (by omega) (show c < 24 by omega) (by decide) ?_
        have b3013 : ((-2147483648) : Int) ≤ iC t 165 (c).toNat ∧ iC t 165 (c).toNat ≤ 2147483647 := I.2 165 _ (show (c).toNat < 24 by omega)
        refine z_ast2 X rw_189 (show cdA 200 212 = some (.iastore, 1, 0, 0, 0) from rfl) (show ((iI t 90) : Int).toNat < 12 by omega) (by omega) (show c < 24 by omega) (by decide) ?_
        obtain ⟨s3014, hs3014⟩ : ∃ x0, x0 = uC t (166 + ((iI t 90) : Int).toNat) (c : Int).toNat (Int32.ofInt (iC t 165 (c).toNat)) := ⟨_, rfl⟩
        rw [← hs3014]
        have Is3014 : Bd s3014 := by rw [hs3014]; exact rw_st rw_189 I (show ((iI t 90) : Int).toNat < 12 by omega) (show (0 : Int) ≤ (iC t 165 (c).toNat) ∧ (iC t 165 (c).toNat) ≤ 127 by omega) ⟨by omega, by omega⟩
        have Fs3014 := fm_C (i := (c : Int).toNat) (x := Int32.ofInt (iC t 165 (c).toNat)) F ((show ∀ j, j < 12 → 166 + j ∈ _ by decide) ((iI t 90) : Int).toNat (by omega))
        rw [← hs3014] at Fs3014
        have ws3014_73 : iI s3014 73 = iI t 73 := by rw [hs3014]; rfl
        have ws3014_74 : iI s3014 74 = iI t 74 := by rw [hs3014]; rfl
        have ws3014_77 : iI s3014 77 = iI t 77 := by rw [hs3014]; rfl
        have ws3014_75 : iI s3014 75 = iI t 75 := by rw [hs3014]; rfl
        have ws3014_79 : iI s3014 79 = iI t 79 := by rw [hs3014]; rfl
        have ws3014_78 : iI s3014 78 = iI t 78 := by rw [hs3014]; rfl
        have ws3014_90 : iI s3014 90 = iI t 90 := by rw [hs3014]; rfl
        have ws3014_91 : iI s3014 91 = iI t 91 := by rw [hs3014]; rfl
        have fs3014 : Fm [] [166, 167, 168, 169, 170, 171, 172, 173, 174, 175, 176, 177] t s3014 := by rw [hs3014]; exact fm_C (fm_rf _ _ _) ((show ∀ j, j < 12 → 166 + j ∈ _ by decide) ((iI t 90) : Int).toNat (by omega))
        have JRLx_s3014 : RLx s3014 := RLx_fm fs3014 (by decide) jjRLx
        have JTD_s3014 : TD s3014 := TD_fm fs3014 (by decide) hq.1
        refine z_aload_n X (x := A 179) (show cdA 200 213 = some (.aload_n 0, 1, 0, 0, 0) from rfl) (List.Mem.head _) ?_
        refine s_getR X 179 (show cdA 200 214 = some (.getfield 52, 3, 12, 29, 0) from rfl) (by decide) rfl rfl ?_
        refine z_aload_n X (x := A 179) (show cdA 200 217 = some (.aload_n 0, 1, 0, 0, 0) from rfl) (List.Mem.head _) ?_
        refine z_getI X 179 (show cdA 200 218 = some (.getfield 233, 3, 12, 22, 0) from rfl) (by decide) rfl rfl ?_
        have b3015 : (0 : Int) ≤ iI s3014 90 ∧ iI s3014 90 ≤ 12 := Is3014.1 90
        refine z_aald X rw_202 (show cdA 200 221 = some (.aaload, 1, 0, 0, 0) from rfl) (by omega) (show (iI s3014 90) < 12 by omega) (by decide) ?_
        refine z_aload_n X (x := A 179) (show cdA 200 222 = some (.aload_n 0, 1, 0, 0, 0) from rfl) (List.Mem.head _) ?_
        refine s_getR X 179 (show cdA 200 223 = some (.getfield 44, 3, 12, 26, 0) from rfl) (by decide) rfl rfl ?_
        refine z_load_n X (x := c) (show cdA 200 226 = some (.iload_n 2, 1, 0, 0, 0) from rfl) (List.Mem.tail _ (List.Mem.tail _ (List.Mem.head _))) ?_
        have hT3016 := JTD_s3014 (c : Int).toNat (by omega)
        refine z_ald X 188 (show cdA 200 227 = some (.iaload, 1, 0, 0, 0) from rfl) (by decide) rfl (by omega) (show c < 24 by omega) (by decide) ?_
        have b3017 : ((-2147483648) : Int) ≤ iC s3014 165 (c).toNat ∧ iC s3014 165 (c).toNat ≤ 2147483647 := Is3014.2 165 _ (show (c).toNat < 24 by omega)
        refine z_load_n X (x := c) (show cdA 200 228 = some (.iload_n 2, 1, 0, 0, 0) from rfl) (List.Mem.tail _ (List.Mem.tail _ (List.Mem.head _))) ?_
        refine z_ast2 X rw_202 (show cdA 200 229 = some (.iastore, 1, 0, 0, 0) from rfl) (show ((iI s3014 90) : Int).toNat < 12 by omega) (by omega) (show (iC s3014 165 (c).toNat) < 128 by omega) (by decide) ?_
        obtain ⟨s3018, hs3018⟩ : ∃ x0, x0 = uC s3014 (178 + ((iI s3014 90) : Int).toNat) ((iC s3014 165 (c).toNat) : Int).toNat (Int32.ofInt c) := ⟨_, rfl⟩
        rw [← hs3018]
        have Is3018 : Bd s3018 := by rw [hs3018]; exact rw_st rw_202 Is3014 (show ((iI s3014 90) : Int).toNat < 12 by omega) (show ((-1) : Int) ≤ c ∧ c ≤ 23 by omega) ⟨by omega, by omega⟩
        have Fs3018 := fm_C (i := ((iC s3014 165 (c).toNat) : Int).toNat) (x := Int32.ofInt c) Fs3014 ((show ∀ j, j < 12 → 178 + j ∈ _ by decide) ((iI s3014 90) : Int).toNat (by omega))
        rw [← hs3018] at Fs3018
        have ws3018_73 : iI s3018 73 = iI s3014 73 := by rw [hs3018]; rfl
        have ws3018_74 : iI s3018 74 = iI s3014 74 := by rw [hs3018]; rfl
        have ws3018_77 : iI s3018 77 = iI s3014 77 := by rw [hs3018]; rfl
        have ws3018_75 : iI s3018 75 = iI s3014 75 := by rw [hs3018]; rfl
        have ws3018_79 : iI s3018 79 = iI s3014 79 := by rw [hs3018]; rfl
        have ws3018_78 : iI s3018 78 = iI s3014 78 := by rw [hs3018]; rfl
        have ws3018_90 : iI s3018 90 = iI s3014 90 := by rw [hs3018]; rfl
        have ws3018_91 : iI s3018 91 = iI s3014 91 := by rw [hs3018]; rfl
        have fs3018 : Fm [] [178, 179, 180, 181, 182, 183, 184, 185, 186, 187, 188, 189] s3014 s3018 := by rw [hs3018]; exact fm_C (fm_rf _ _ _) ((show ∀ j, j < 12 → 178 + j ∈ _ by decide) ((iI s3014 90) : Int).toNat (by omega))
        have JTD_s3018 : TD s3018 := TD_fm fs3018 (by decide) JTD_s3014
        refine z_inc X (x := c) (lv' := [(2, .int (Int32.ofInt (c + 1))), (0, .ref (A 179)), (1, .int (Int32.ofInt xv))]) (show cdA 200 230 = some (.iinc 2 1, 3, 0, 0, 0) from rfl) (by decide) (List.Mem.tail _ (List.Mem.tail _ (List.Mem.head _))) (fun _ h => h) ?_
        refine z_goto X (t := 188) (show cdA 200 233 = some (.goto (-45), 3, 0, 0, 0) from rfl) (by decide) ?_
        exfalso
        omega
    | succ n ih =>
      intro t xv c I F jjRLx hq hi hm kx
      have b3001 : (0 : Int) ≤ iI t 73 ∧ iI t 73 ≤ 3 := I.1 73
      have b3002 : (0 : Int) ≤ iI t 74 ∧ iI t 74 ≤ 200 := I.1 74
      have b3003 : (0 : Int) ≤ iI t 77 ∧ iI t 77 ≤ 400 := I.1 77
      have b3004 : (0 : Int) ≤ iI t 75 ∧ iI t 75 ≤ 200 := I.1 75
      have b3005 : (0 : Int) ≤ iI t 79 ∧ iI t 79 ≤ 9 := I.1 79
      have b3006 : (0 : Int) ≤ iI t 78 ∧ iI t 78 ≤ 8 := I.1 78
      have b3007 : (0 : Int) ≤ iI t 90 ∧ iI t 90 ≤ 12 := I.1 90
      have b3008 : (0 : Int) ≤ iI t 91 ∧ iI t 91 ≤ 24 := I.1 91
      refine z_load_n X (x := c) (show cdA 200 188 = some (.iload_n 2, 1, 0, 0, 0) from rfl) (List.Mem.tail _ (List.Mem.tail _ (List.Mem.head _))) ?_
      refine z_aload_n X (x := A 179) (show cdA 200 189 = some (.aload_n 0, 1, 0, 0, 0) from rfl) (List.Mem.head _) ?_
      refine z_getI X 179 (show cdA 200 190 = some (.getfield 216, 3, 12, 27, 0) from rfl) (by decide) rfl rfl ?_
      have b3009 : (0 : Int) ≤ iI t 91 ∧ iI t 91 ≤ 24 := I.1 91
      refine z_icmp_ge X (t := 236) (show cdA 200 193 = some (.if_icmp .ge 43, 3, 3, 0, 0) from rfl) (by decide) ⟨by omega, by omega⟩ ⟨by omega, by omega⟩ (fun g3010 => ?_) (fun g3010 => ?_)
      ·
        refine WS_lv (lv := [(0, .ref (A 179)), (1, .int (Int32.ofInt xv)), (2, .int (Int32.ofInt c))]) (List.forall_mem_cons.mpr ⟨(List.Mem.head _), (List.forall_mem_cons.mpr ⟨(List.Mem.tail _ (List.Mem.head _)), (List.forall_mem_cons.mpr ⟨(List.Mem.tail _ (List.Mem.tail _ (List.Mem.head _))), (fun q h => absurd h List.not_mem_nil)⟩)⟩)⟩) ?_
        exact kx _ c I F jjRLx hq (by omega)
      ·
        refine z_aload_n X (x := A 179) (show cdA 200 196 = some (.aload_n 0, 1, 0, 0, 0) from rfl) (List.Mem.head _) ?_
        refine s_getR X 179 (show cdA 200 197 = some (.getfield 49, 3, 12, 28, 0) from rfl) (by decide) rfl rfl ?_
        refine z_aload_n X (x := A 179) (show cdA 200 200 = some (.aload_n 0, 1, 0, 0, 0) from rfl) (List.Mem.head _) ?_
        refine z_getI X 179 (show cdA 200 201 = some (.getfield 233, 3, 12, 22, 0) from rfl) (by decide) rfl rfl ?_
        have b3011 : (0 : Int) ≤ iI t 90 ∧ iI t 90 ≤ 12 := I.1 90
        refine z_aald X rw_189 (show cdA 200 204 = some (.aaload, 1, 0, 0, 0) from rfl) (by omega) (show (iI t 90) < 12 by omega) (by decide) ?_
        refine z_load_n X (x := c) (show cdA 200 205 = some (.iload_n 2, 1, 0, 0, 0) from rfl) (List.Mem.tail _ (List.Mem.tail _ (List.Mem.head _))) ?_
        refine z_aload_n X (x := A 179) (show cdA 200 206 = some (.aload_n 0, 1, 0, 0, 0) from rfl) (List.Mem.head _) ?_
        refine s_getR X 179 (show cdA 200 207 = some (.getfield 44, 3, 12, 26, 0) from rfl) (by decide) rfl rfl ?_
        refine z_load_n X (x := c) (show cdA 200 210 = some (.iload_n 2, 1, 0, 0, 0) from rfl) (List.Mem.tail _ (List.Mem.tail _ (List.Mem.head _))) ?_
        have hT3012 := hq.1 (c : Int).toNat (by omega)
        refine z_ald X 188 (show cdA 200 211 = some (.iaload, 1, 0, 0, 0) from rfl) (by decide) rfl (by omega) (show c < 24 by omega) (by decide) ?_
        have b3013 : ((-2147483648) : Int) ≤ iC t 165 (c).toNat ∧ iC t 165 (c).toNat ≤ 2147483647 := I.2 165 _ (show (c).toNat < 24 by omega)
        refine z_ast2 X rw_189 (show cdA 200 212 = some (.iastore, 1, 0, 0, 0) from rfl) (show ((iI t 90) : Int).toNat < 12 by omega) (by omega) (show c < 24 by omega) (by decide) ?_
        obtain ⟨s3014, hs3014⟩ : ∃ x0, x0 = uC t (166 + ((iI t 90) : Int).toNat) (c : Int).toNat (Int32.ofInt (iC t 165 (c).toNat)) := ⟨_, rfl⟩
        rw [← hs3014]
        have Is3014 : Bd s3014 := by rw [hs3014]; exact rw_st rw_189 I (show ((iI t 90) : Int).toNat < 12 by omega) (show (0 : Int) ≤ (iC t 165 (c).toNat) ∧ (iC t 165 (c).toNat) ≤ 127 by omega) ⟨by omega, by omega⟩
        have Fs3014 := fm_C (i := (c : Int).toNat) (x := Int32.ofInt (iC t 165 (c).toNat)) F ((show ∀ j, j < 12 → 166 + j ∈ _ by decide) ((iI t 90) : Int).toNat (by omega))
        rw [← hs3014] at Fs3014
        have ws3014_73 : iI s3014 73 = iI t 73 := by rw [hs3014]; rfl
        have ws3014_74 : iI s3014 74 = iI t 74 := by rw [hs3014]; rfl
        have ws3014_77 : iI s3014 77 = iI t 77 := by rw [hs3014]; rfl
        have ws3014_75 : iI s3014 75 = iI t 75 := by rw [hs3014]; rfl
        have ws3014_79 : iI s3014 79 = iI t 79 := by rw [hs3014]; rfl
        have ws3014_78 : iI s3014 78 = iI t 78 := by rw [hs3014]; rfl
        have ws3014_90 : iI s3014 90 = iI t 90 := by rw [hs3014]; rfl
        have ws3014_91 : iI s3014 91 = iI t 91 := by rw [hs3014]; rfl
        have fs3014 : Fm [] [166, 167, 168, 169, 170, 171, 172, 173, 174, 175, 176, 177] t s3014 := by rw [hs3014]; exact fm_C (fm_rf _ _ _) ((show ∀ j, j < 12 → 166 + j ∈ _ by decide) ((iI t 90) : Int).toNat (by omega))
        have JRLx_s3014 : RLx s3014 := RLx_fm fs3014 (by decide) jjRLx
        have JTD_s3014 : TD s3014 := TD_fm fs3014 (by decide) hq.1
        refine z_aload_n X (x := A 179) (show cdA 200 213 = some (.aload_n 0, 1, 0, 0, 0) from rfl) (List.Mem.head _) ?_
        refine s_getR X 179 (show cdA 200 214 = some (.getfield 52, 3, 12, 29, 0) from rfl) (by decide) rfl rfl ?_
        refine z_aload_n X (x := A 179) (show cdA 200 217 = some (.aload_n 0, 1, 0, 0, 0) from rfl) (List.Mem.head _) ?_
        refine z_getI X 179 (show cdA 200 218 = some (.getfield 233, 3, 12, 22, 0) from rfl) (by decide) rfl rfl ?_
        have b3015 : (0 : Int) ≤ iI s3014 90 ∧ iI s3014 90 ≤ 12 := Is3014.1 90
        refine z_aald X rw_202 (show cdA 200 221 = some (.aaload, 1, 0, 0, 0) from rfl) (by omega) (show (iI s3014 90) < 12 by omega) (by decide) ?_
        refine z_aload_n X (x := A 179) (show cdA 200 222 = some (.aload_n 0, 1, 0, 0, 0) from rfl) (List.Mem.head _) ?_
        refine s_getR X 179 (show cdA 200 223 = some (.getfield 44, 3, 12, 26, 0) from rfl) (by decide) rfl rfl ?_
        refine z_load_n X (x := c) (show cdA 200 226 = some (.iload_n 2, 1, 0, 0, 0) from rfl) (List.Mem.tail _ (List.Mem.tail _ (List.Mem.head _))) ?_
        have hT3016 := JTD_s3014 (c : Int).toNat (by omega)
        refine z_ald X 188 (show cdA 200 227 = some (.iaload, 1, 0, 0, 0) from rfl) (by decide) rfl (by omega) (show c < 24 by omega) (by decide) ?_
        have b3017 : ((-2147483648) : Int) ≤ iC s3014 165 (c).toNat ∧ iC s3014 165 (c).toNat ≤ 2147483647 := Is3014.2 165 _ (show (c).toNat < 24 by omega)
        refine z_load_n X (x := c) (show cdA 200 228 = some (.iload_n 2, 1, 0, 0, 0) from rfl) (List.Mem.tail _ (List.Mem.tail _ (List.Mem.head _))) ?_
        refine z_ast2 X rw_202 (show cdA 200 229 = some (.iastore, 1, 0, 0, 0) from rfl) (show ((iI s3014 90) : Int).toNat < 12 by omega) (by omega) (show (iC s3014 165 (c).toNat) < 128 by omega) (by decide) ?_
        obtain ⟨s3018, hs3018⟩ : ∃ x0, x0 = uC s3014 (178 + ((iI s3014 90) : Int).toNat) ((iC s3014 165 (c).toNat) : Int).toNat (Int32.ofInt c) := ⟨_, rfl⟩
        rw [← hs3018]
        have Is3018 : Bd s3018 := by rw [hs3018]; exact rw_st rw_202 Is3014 (show ((iI s3014 90) : Int).toNat < 12 by omega) (show ((-1) : Int) ≤ c ∧ c ≤ 23 by omega) ⟨by omega, by omega⟩
        have Fs3018 := fm_C (i := ((iC s3014 165 (c).toNat) : Int).toNat) (x := Int32.ofInt c) Fs3014 ((show ∀ j, j < 12 → 178 + j ∈ _ by decide) ((iI s3014 90) : Int).toNat (by omega))
        rw [← hs3018] at Fs3018
        have ws3018_73 : iI s3018 73 = iI s3014 73 := by rw [hs3018]; rfl
        have ws3018_74 : iI s3018 74 = iI s3014 74 := by rw [hs3018]; rfl
        have ws3018_77 : iI s3018 77 = iI s3014 77 := by rw [hs3018]; rfl
        have ws3018_75 : iI s3018 75 = iI s3014 75 := by rw [hs3018]; rfl
        have ws3018_79 : iI s3018 79 = iI s3014 79 := by rw [hs3018]; rfl
        have ws3018_78 : iI s3018 78 = iI s3014 78 := by rw [hs3018]; rfl
        have ws3018_90 : iI s3018 90 = iI s3014 90 := by rw [hs3018]; rfl
        have ws3018_91 : iI s3018 91 = iI s3014 91 := by rw [hs3018]; rfl
        have fs3018 : Fm [] [178, 179, 180, 181, 182, 183, 184, 185, 186, 187, 188, 189] s3014 s3018 := by rw [hs3018]; exact fm_C (fm_rf _ _ _) ((show ∀ j, j < 12 → 178 + j ∈ _ by decide) ((iI s3014 90) : Int).toNat (by omega))
        have JTD_s3018 : TD s3018 := TD_fm fs3018 (by decide) JTD_s3014
        refine z_inc X (x := c) (lv' := [(2, .int (Int32.ofInt (c + 1))), (0, .ref (A 179)), (1, .int (Int32.ofInt xv))]) (show cdA 200 230 = some (.iinc 2 1, 3, 0, 0, 0) from rfl) (by decide) (List.Mem.tail _ (List.Mem.tail _ (List.Mem.head _))) (fun _ h => h) ?_
        refine z_goto X (t := 188) (show cdA 200 233 = some (.goto (-45), 3, 0, 0, 0) from rfl) (by decide) ?_
        refine WS_lv (lv := [(0, .ref (A 179)), (1, .int (Int32.ofInt xv)), (2, .int (Int32.ofInt (c + 1)))]) (List.forall_mem_cons.mpr ⟨(List.Mem.tail _ (List.Mem.head _)), (List.forall_mem_cons.mpr ⟨(List.Mem.tail _ (List.Mem.tail _ (List.Mem.head _))), (List.forall_mem_cons.mpr ⟨(List.Mem.head _), (fun q h => absurd h List.not_mem_nil)⟩)⟩)⟩) ?_
        have es_s3018 : iI s3014 90 = iI s 90 := by omega
        have eo_s3018 : iI t 90 = iI s 90 := by omega
        have vm_s3018 : iC s3018 162 (iI s 90 : Int).toNat = iC t 162 (iI s 90 : Int).toNat := by rw [hs3018, iC_a (by omega), hs3014, iC_a (by omega)]
        have rl_s3018 : RLx s3014 := by rw [hs3014]; exact RLx_w hq.2.1 ⟨by omega, fun j hj => by omega⟩
        have hL3019 : TD s3018 ∧ RLx s3018 ∧ ∀ i : Nat, i < 128 → (i : Int) < 128 → iC s3018 (178 + (iI s 90 : Int).toNat) i < iC s3018 162 (iI s 90 : Int).toNat := by
          refine ⟨JTD_s3018, by rw [hs3018, es_s3018]; exact RLx_l rl_s3018 (by omega), fun i hi h => ?_⟩
          rw [vm_s3018]
          by_cases e : i = ((iC s3014 165 (c).toNat) : Int).toNat
          · rw [e, hs3018, es_s3018, iC_u ⟨by omega, by omega⟩]; omega
          · rw [hs3018, es_s3018, iC_n e, hs3014, iC_a (by omega)]; exact hq.2.2 i hi (by omega)
        exact ih _ xv (c + 1) Is3018 Fs3018 hL3019.2.1 hL3019 (by omega) (by omega) kx
  refine z_aload_n X (x := A 179) (show cdA 200 0 = some (.aload_n 0, 1, 0, 0, 0) from rfl) (List.Mem.head _) ?_
  refine z_const X (show cdA 200 1 = some (.iconst 0, 1, 0, 0, 0) from rfl) ?_
  refine s_putI X 179 (show cdA 200 2 = some (.putfield 172, 3, 12, 0, 0) from rfl) (by decide) rfl rfl (by decide) rfl rfl rfl ?_
  obtain ⟨s9, hs9⟩ : ∃ x0, x0 = uI s 73 (Int32.ofInt 0) := ⟨_, rfl⟩
  rw [← hs9]
  have Is9 : Bd s9 := by rw [hs9]; exact bd_I I (show (0 : Int) ≤ 0 ∧ 0 ≤ 3 by omega) ⟨by omega, by omega⟩
  have Fs9 := fm_I (x := Int32.ofInt 0) F (show 73 ∈ _ by decide)
  rw [← hs9] at Fs9
  have vs9 : iI s9 73 = 0 := by rw [hs9]; exact iI_u ⟨by omega, by omega⟩
  have ws9_74 : iI s9 74 = iI s 74 := by rw [hs9]; rfl
  have ws9_77 : iI s9 77 = iI s 77 := by rw [hs9]; rfl
  have ws9_75 : iI s9 75 = iI s 75 := by rw [hs9]; rfl
  have ws9_79 : iI s9 79 = iI s 79 := by rw [hs9]; rfl
  have ws9_78 : iI s9 78 = iI s 78 := by rw [hs9]; rfl
  have ws9_90 : iI s9 90 = iI s 90 := by rw [hs9]; rfl
  have ws9_91 : iI s9 91 = iI s 91 := by rw [hs9]; rfl
  have fs9 : Fm [73] [] s s9 := by rw [hs9]; exact fm_I (fm_rf _ _ _) (show 73 ∈ _ by decide)
  have JRLx_s9 : RLx s9 := RLx_fm fs9 (by decide) jRLx
  refine z_aload_n X (x := A 179) (show cdA 200 5 = some (.aload_n 0, 1, 0, 0, 0) from rfl) (List.Mem.head _) ?_
  refine z_load_n X (x := x) (show cdA 200 6 = some (.iload_n 1, 1, 0, 0, 0) from rfl) (List.Mem.tail _ (List.Mem.head _)) ?_
  refine z_const X (show cdA 200 7 = some (.iconst 0, 1, 0, 0, 0) from rfl) ?_
  refine z_aload_n X (x := A 179) (show cdA 200 8 = some (.aload_n 0, 1, 0, 0, 0) from rfl) (List.Mem.head _) ?_
  refine z_getI X 179 (show cdA 200 9 = some (.getfield 175, 3, 12, 1, 0) from rfl) (by decide) rfl rfl ?_
  have b10 : (0 : Int) ≤ iI s9 74 ∧ iI s9 74 ≤ 200 := Is9.1 74
  refine z_bipush X (show cdA 200 12 = some (.bipush 100, 2, 0, 0, 100) from rfl) ?_
  refine z_icmp_ge X (t := 24) (show cdA 200 14 = some (.if_icmp .ge 10, 3, 3, 0, 0) from rfl) (by decide) ⟨by omega, by omega⟩ ⟨by omega, by omega⟩ (fun g11 => ?_) (fun g11 => ?_)
  ·
    refine z_bipush X (show cdA 200 24 = some (.bipush 100, 2, 0, 0, 100) from rfl) ?_
    refine z_callS X (rm := rmN 188) (As := [.int (Int32.ofInt x), .int (Int32.ofInt 0), .int (Int32.ofInt 100)]) (st := [.ref (A 179)]) (show cdA 200 26 = some (.invokestatic 209, 3, 188, 1, 0) from rfl) rfl (by rw [E.1, E.2.1, E.2.2.1]; exact k_in G Is9 (by omega) (by omega) (by omega)) ⟨by rw [E.2.2.2]; exact (show (rmN 188).frames + 1 ≤ (rmN 200).frames by decide), by rw [E.2.2.2]; exact (show 8 + (mNL (miB 188) + 11) + (rmN 188).locals ≤ (rmN 200).locals by decide), by rw [E.2.2.2]; exact (show 0 + (rmN 188).cells ≤ (rmN 200).cells by decide), by rw [E.2.2.2]; exact (show 0 + (rmN 188).slots ≤ (rmN 200).slots by decide)⟩ (Nat.le_of_ble_eq_true rfl) (fun vv s12 hq => ?_) (fun ee s12 hq => ?_)
    rotate_left
    · obtain ⟨Is12, Fs12, e13, hv, hrs12, hps12⟩ := hq; cases hv
    obtain ⟨Is12, Fs12, e13, hv, hrs12, hps12⟩ := hq
    cases hv
    have Gs12 := fm_ts Fs9 Fs12 (by decide) (by decide)
    have JRLx_s12 : RLx s12 := RLx_fm Fs12 (by decide) JRLx_s9
    have ws12_73 : iI s12 73 = iI s9 73 := fm_i Fs12 (by decide)
    have ws12_74 : iI s12 74 = iI s9 74 := fm_i Fs12 (by decide)
    have ws12_77 : iI s12 77 = iI s9 77 := fm_i Fs12 (by decide)
    have ws12_75 : iI s12 75 = iI s9 75 := fm_i Fs12 (by decide)
    have ws12_79 : iI s12 79 = iI s9 79 := fm_i Fs12 (by decide)
    have ws12_78 : iI s12 78 = iI s9 78 := fm_i Fs12 (by decide)
    have ws12_90 : iI s12 90 = iI s9 90 := fm_i Fs12 (by decide)
    have ws12_91 : iI s12 91 = iI s9 91 := fm_i Fs12 (by decide)
    show WS k 29 [(0, .ref (A 179)), (1, .int (Int32.ofInt x))] [.int (Int32.ofInt e13), .ref (A 179)] (Wd A dT s12) 0 0
    refine z_if_ne X (t := 36) (show cdA 200 29 = some (.ifCond .ne 7, 3, 1, 0, 0) from rfl) (by decide) ⟨by omega, by omega⟩ (fun g14 => ?_) (fun g14 => ?_)
    ·
      refine z_const X (show cdA 200 36 = some (.iconst 0, 1, 0, 0, 0) from rfl) ?_
      refine z_const X (show cdA 200 37 = some (.iconst 1, 1, 0, 0, 0) from rfl) ?_
      refine z_callV X 179 (rm := rmN 187) (As := [.int (Int32.ofInt 0), .int (Int32.ofInt 1)]) (st := []) (show cdA 200 38 = some (.invokevirtual 229, 3, 187, 0, 0) from rfl) rfl (by decide) rfl (by rw [E.1, E.2.1, E.2.2.1]; exact k_bad G Is12 (by omega) (by omega)) ⟨by rw [E.2.2.2]; exact (show (rmN 187).frames + 1 ≤ (rmN 200).frames by decide), by rw [E.2.2.2]; exact (show 8 + (mNL (miB 187) + 11) + (rmN 187).locals ≤ (rmN 200).locals by decide), by rw [E.2.2.2]; exact (show 0 + (rmN 187).cells ≤ (rmN 200).cells by decide), by rw [E.2.2.2]; exact (show 0 + (rmN 187).slots ≤ (rmN 200).slots by decide)⟩ (Nat.le_of_ble_eq_true rfl) (fun vv s15 hq => ?_) (fun ee s15 hq => ?_)
      rotate_left
      · obtain ⟨Is15, Fs15, e16, hv, hrs15, hps15⟩ := hq; cases hv
      obtain ⟨Is15, Fs15, e16, hv, hrs15, hps15⟩ := hq
      cases hv
      have Gs15 := fm_ts Gs12 Fs15 (by decide) (by decide)
      have JRLx_s15 : RLx s15 := RLx_fm Fs15 (by decide) JRLx_s12
      have b17 : (0 : Int) ≤ iI s15 73 ∧ iI s15 73 ≤ 3 := Is15.1 73
      have ws15_74 : iI s15 74 = iI s12 74 := fm_i Fs15 (by decide)
      have ws15_77 : iI s15 77 = iI s12 77 := fm_i Fs15 (by decide)
      have ws15_75 : iI s15 75 = iI s12 75 := fm_i Fs15 (by decide)
      have ws15_79 : iI s15 79 = iI s12 79 := fm_i Fs15 (by decide)
      have ws15_78 : iI s15 78 = iI s12 78 := fm_i Fs15 (by decide)
      have ws15_90 : iI s15 90 = iI s12 90 := fm_i Fs15 (by decide)
      have ws15_91 : iI s15 91 = iI s12 91 := fm_i Fs15 (by decide)
      show WS k 41 [(0, .ref (A 179)), (1, .int (Int32.ofInt x))] [.int (Int32.ofInt e16)] (Wd A dT s15) 0 0
      refine z_if_eq X (t := 46) (show cdA 200 41 = some (.ifCond .eq 5, 3, 0, 0, 0) from rfl) (by decide) ⟨by omega, by omega⟩ (fun g18 => ?_) (fun g18 => ?_)
      ·
        refine z_aload_n X (x := A 179) (show cdA 200 46 = some (.aload_n 0, 1, 0, 0, 0) from rfl) (List.Mem.head _) ?_
        refine z_const X (show cdA 200 47 = some (.iconst 0, 1, 0, 0, 0) from rfl) ?_
        refine s_putI X 179 (show cdA 200 48 = some (.putfield 175, 3, 12, 1, 0) from rfl) (by decide) rfl rfl (by decide) rfl rfl rfl ?_
        obtain ⟨s19, hs19⟩ : ∃ x0, x0 = uI s15 74 (Int32.ofInt 0) := ⟨_, rfl⟩
        rw [← hs19]
        have Is19 : Bd s19 := by rw [hs19]; exact bd_I Is15 (show (0 : Int) ≤ 0 ∧ 0 ≤ 200 by omega) ⟨by omega, by omega⟩
        have Fs19 := fm_I (x := Int32.ofInt 0) Gs15 (show 74 ∈ _ by decide)
        rw [← hs19] at Fs19
        have vs19 : iI s19 74 = 0 := by rw [hs19]; exact iI_u ⟨by omega, by omega⟩
        have ws19_73 : iI s19 73 = iI s15 73 := by rw [hs19]; rfl
        have ws19_77 : iI s19 77 = iI s15 77 := by rw [hs19]; rfl
        have ws19_75 : iI s19 75 = iI s15 75 := by rw [hs19]; rfl
        have ws19_79 : iI s19 79 = iI s15 79 := by rw [hs19]; rfl
        have ws19_78 : iI s19 78 = iI s15 78 := by rw [hs19]; rfl
        have ws19_90 : iI s19 90 = iI s15 90 := by rw [hs19]; rfl
        have ws19_91 : iI s19 91 = iI s15 91 := by rw [hs19]; rfl
        have fs19 : Fm [74] [] s15 s19 := by rw [hs19]; exact fm_I (fm_rf _ _ _) (show 74 ∈ _ by decide)
        have JRLx_s19 : RLx s19 := RLx_fm fs19 (by decide) JRLx_s15
        refine z_aload_n X (x := A 179) (show cdA 200 51 = some (.aload_n 0, 1, 0, 0, 0) from rfl) (List.Mem.head _) ?_
        refine z_const X (show cdA 200 52 = some (.iconst (-1), 1, 0, 0, 0) from rfl) ?_
        refine s_putI X 179 (show cdA 200 53 = some (.putfield 9, 3, 12, 3, 0) from rfl) (by decide) rfl rfl (by decide) rfl rfl rfl ?_
        obtain ⟨s20, hs20⟩ : ∃ x0, x0 = uI s19 76 (Int32.ofInt (-1)) := ⟨_, rfl⟩
        rw [← hs20]
        have Is20 : Bd s20 := by rw [hs20]; exact bd_I Is19 (show ((-1) : Int) ≤ (-1) ∧ (-1) ≤ 400 by omega) ⟨by omega, by omega⟩
        have Fs20 := fm_I (x := Int32.ofInt (-1)) Fs19 (show 76 ∈ _ by decide)
        rw [← hs20] at Fs20
        have vs20 : iI s20 76 = (-1) := by rw [hs20]; exact iI_u ⟨by omega, by omega⟩
        have ws20_73 : iI s20 73 = iI s19 73 := by rw [hs20]; rfl
        have ws20_74 : iI s20 74 = iI s19 74 := by rw [hs20]; rfl
        have ws20_77 : iI s20 77 = iI s19 77 := by rw [hs20]; rfl
        have ws20_75 : iI s20 75 = iI s19 75 := by rw [hs20]; rfl
        have ws20_79 : iI s20 79 = iI s19 79 := by rw [hs20]; rfl
        have ws20_78 : iI s20 78 = iI s19 78 := by rw [hs20]; rfl
        have ws20_90 : iI s20 90 = iI s19 90 := by rw [hs20]; rfl
        have ws20_91 : iI s20 91 = iI s19 91 := by rw [hs20]; rfl
        have fs20 : Fm [76] [] s19 s20 := by rw [hs20]; exact fm_I (fm_rf _ _ _) (show 76 ∈ _ by decide)
        have JRLx_s20 : RLx s20 := RLx_fm fs20 (by decide) JRLx_s19
        refine z_aload_n X (x := A 179) (show cdA 200 56 = some (.aload_n 0, 1, 0, 0, 0) from rfl) (List.Mem.head _) ?_
        refine z_getI X 179 (show cdA 200 57 = some (.getfield 233, 3, 12, 22, 0) from rfl) (by decide) rfl rfl ?_
        have b21 : (0 : Int) ≤ iI s20 90 ∧ iI s20 90 ≤ 12 := Is20.1 90
        refine z_bipush X (show cdA 200 60 = some (.bipush 12, 2, 0, 0, 12) from rfl) ?_
        refine z_icmp_ne X (t := 67) (show cdA 200 62 = some (.if_icmp .ne 5, 3, 1, 0, 0) from rfl) (by decide) ⟨by omega, by omega⟩ ⟨by omega, by omega⟩ (fun g22 => ?_) (fun g22 => ?_)
        ·
          refine z_aload_n X (x := A 179) (show cdA 200 67 = some (.aload_n 0, 1, 0, 0, 0) from rfl) (List.Mem.head _) ?_
          refine z_load_n X (x := x) (show cdA 200 68 = some (.iload_n 1, 1, 0, 0, 0) from rfl) (List.Mem.tail _ (List.Mem.head _)) ?_
          refine z_callV X 179 (rm := rmN 197) (As := [.int (Int32.ofInt x)]) (st := []) (show cdA 200 69 = some (.invokevirtual 236, 3, 197, 0, 0) from rfl) rfl (by decide) rfl (by rw [E.1, E.2.1, E.2.2.1]; exact k_beginText G Is20 (by omega)) ⟨by rw [E.2.2.2]; exact (show (rmN 197).frames + 1 ≤ (rmN 200).frames by decide), by rw [E.2.2.2]; exact (show 8 + (mNL (miB 197) + 11) + (rmN 197).locals ≤ (rmN 200).locals by decide), by rw [E.2.2.2]; exact (show 0 + (rmN 197).cells ≤ (rmN 200).cells by decide), by rw [E.2.2.2]; exact (show 0 + (rmN 197).slots ≤ (rmN 200).slots by decide)⟩ (Nat.le_of_ble_eq_true rfl) (fun vv s23 hq => ?_) (fun ee s23 hq => ?_)
          rotate_left
          · obtain ⟨Is23, Fs23, hv, hps23⟩ := hq; cases hv
          obtain ⟨Is23, Fs23, hv, hps23⟩ := hq
          cases hv
          have Gs23 := fm_ts Fs20 Fs23 (by decide) (by decide)
          have JRLx_s23 : RLx s23 := RLx_fm Fs23 (by decide) JRLx_s20
          have ws23_73 : iI s23 73 = iI s20 73 := fm_i Fs23 (by decide)
          have ws23_74 : iI s23 74 = iI s20 74 := fm_i Fs23 (by decide)
          have b25 : (0 : Int) ≤ iI s23 77 ∧ iI s23 77 ≤ 400 := Is23.1 77
          have b26 : (0 : Int) ≤ iI s23 75 ∧ iI s23 75 ≤ 200 := Is23.1 75
          have b27 : (0 : Int) ≤ iI s23 79 ∧ iI s23 79 ≤ 9 := Is23.1 79
          have b28 : (0 : Int) ≤ iI s23 78 ∧ iI s23 78 ≤ 8 := Is23.1 78
          have ws23_90 : iI s23 90 = iI s20 90 := fm_i Fs23 (by decide)
          have ws23_91 : iI s23 91 = iI s20 91 := fm_i Fs23 (by decide)
          show WS k 72 [(0, .ref (A 179)), (1, .int (Int32.ofInt x))] [] (Wd A dT s23) 0 0
          refine z_aload_n X (x := A 179) (show cdA 200 72 = some (.aload_n 0, 1, 0, 0, 0) from rfl) (List.Mem.head _) ?_
          refine z_const X (show cdA 200 73 = some (.iconst 1, 1, 0, 0, 0) from rfl) ?_
          refine s_putI X 179 (show cdA 200 74 = some (.putfield 216, 3, 12, 27, 0) from rfl) (by decide) rfl rfl (by decide) rfl rfl rfl ?_
          obtain ⟨s29, hs29⟩ : ∃ x0, x0 = uI s23 91 (Int32.ofInt 1) := ⟨_, rfl⟩
          rw [← hs29]
          have Is29 : Bd s29 := by rw [hs29]; exact bd_I Is23 (show (0 : Int) ≤ 1 ∧ 1 ≤ 24 by omega) ⟨by omega, by omega⟩
          have Fs29 := fm_I (x := Int32.ofInt 1) Gs23 (show 91 ∈ _ by decide)
          rw [← hs29] at Fs29
          have vs29 : iI s29 91 = 1 := by rw [hs29]; exact iI_u ⟨by omega, by omega⟩
          have ws29_73 : iI s29 73 = iI s23 73 := by rw [hs29]; rfl
          have ws29_74 : iI s29 74 = iI s23 74 := by rw [hs29]; rfl
          have ws29_77 : iI s29 77 = iI s23 77 := by rw [hs29]; rfl
          have ws29_75 : iI s29 75 = iI s23 75 := by rw [hs29]; rfl
          have ws29_79 : iI s29 79 = iI s23 79 := by rw [hs29]; rfl
          have ws29_78 : iI s29 78 = iI s23 78 := by rw [hs29]; rfl
          have ws29_90 : iI s29 90 = iI s23 90 := by rw [hs29]; rfl
          have fs29 : Fm [91] [] s23 s29 := by rw [hs29]; exact fm_I (fm_rf _ _ _) (show 91 ∈ _ by decide)
          have JRLx_s29 : RLx s29 := RLx_fm fs29 (by decide) JRLx_s23
          refine z_aload_n X (x := A 179) (show cdA 200 77 = some (.aload_n 0, 1, 0, 0, 0) from rfl) (List.Mem.head _) ?_
          refine s_getR X 179 (show cdA 200 78 = some (.getfield 44, 3, 12, 26, 0) from rfl) (by decide) rfl rfl ?_
          refine z_const X (show cdA 200 81 = some (.iconst 0, 1, 0, 0, 0) from rfl) ?_
          refine z_aload_n X (x := A 179) (show cdA 200 82 = some (.aload_n 0, 1, 0, 0, 0) from rfl) (List.Mem.head _) ?_
          refine z_const X (show cdA 200 83 = some (.iconst 0, 1, 0, 0, 0) from rfl) ?_
          refine z_bipush X (show cdA 200 84 = some (.bipush 127, 2, 0, 0, 127) from rfl) ?_
          refine z_callV X 179 (rm := rmN 196) (As := [.int (Int32.ofInt 0), .int (Int32.ofInt 127)]) (st := [.int (Int32.ofInt 0), .ref (A 188)]) (show cdA 200 86 = some (.invokevirtual 219, 3, 196, 0, 0) from rfl) rfl (by decide) rfl (by rw [E.1, E.2.1, E.2.2.1]; exact k_number G Is29 (by omega) (by omega) (by omega)) ⟨by rw [E.2.2.2]; exact (show (rmN 196).frames + 1 ≤ (rmN 200).frames by decide), by rw [E.2.2.2]; exact (show 8 + (mNL (miB 196) + 11) + (rmN 196).locals ≤ (rmN 200).locals by decide), by rw [E.2.2.2]; exact (show 0 + (rmN 196).cells ≤ (rmN 200).cells by decide), by rw [E.2.2.2]; exact (show 0 + (rmN 196).slots ≤ (rmN 200).slots by decide)⟩ (Nat.le_of_ble_eq_true rfl) (fun vv s30 hq => ?_) (fun ee s30 hq => ?_)
          rotate_left
          · obtain ⟨Is30, Fs30, e31, hv, hrs30, hps30⟩ := hq; cases hv
          obtain ⟨Is30, Fs30, e31, hv, hrs30, hps30⟩ := hq
          cases hv
          have Gs30 := fm_ts Fs29 Fs30 (by decide) (by decide)
          have JRLx_s30 : RLx s30 := RLx_fm Fs30 (by decide) JRLx_s29
          have ws30_73 : iI s30 73 = iI s29 73 := fm_i Fs30 (by decide)
          have ws30_74 : iI s30 74 = iI s29 74 := fm_i Fs30 (by decide)
          have b32 : (0 : Int) ≤ iI s30 77 ∧ iI s30 77 ≤ 400 := Is30.1 77
          have ws30_75 : iI s30 75 = iI s29 75 := fm_i Fs30 (by decide)
          have b33 : (0 : Int) ≤ iI s30 79 ∧ iI s30 79 ≤ 9 := Is30.1 79
          have ws30_78 : iI s30 78 = iI s29 78 := fm_i Fs30 (by decide)
          have ws30_90 : iI s30 90 = iI s29 90 := fm_i Fs30 (by decide)
          have ws30_91 : iI s30 91 = iI s29 91 := fm_i Fs30 (by decide)
          show WS k 89 [(0, .ref (A 179)), (1, .int (Int32.ofInt x))] [.int (Int32.ofInt e31), .int (Int32.ofInt 0), .ref (A 188)] (Wd A dT s30) 0 0
          refine z_ast X 188 (show cdA 200 89 = some (.iastore, 1, 0, 0, 0) from rfl) (by decide) rfl (by omega) (show 0 < 24 by omega) (by decide) ?_
          obtain ⟨s34, hs34⟩ : ∃ x0, x0 = uC s30 165 (0 : Int).toNat (Int32.ofInt e31) := ⟨_, rfl⟩
          rw [← hs34]
          have Is34 : Bd s34 := by rw [hs34]; exact bd_C Is30 (show ((-2147483648) : Int) ≤ e31 ∧ e31 ≤ 2147483647 by omega) ⟨by omega, by omega⟩
          have Fs34 := fm_C (i := (0 : Int).toNat) (x := Int32.ofInt e31) Gs30 (show 165 ∈ _ by decide)
          rw [← hs34] at Fs34
          have ws34_73 : iI s34 73 = iI s30 73 := by rw [hs34]; rfl
          have ws34_74 : iI s34 74 = iI s30 74 := by rw [hs34]; rfl
          have ws34_77 : iI s34 77 = iI s30 77 := by rw [hs34]; rfl
          have ws34_75 : iI s34 75 = iI s30 75 := by rw [hs34]; rfl
          have ws34_79 : iI s34 79 = iI s30 79 := by rw [hs34]; rfl
          have ws34_78 : iI s34 78 = iI s30 78 := by rw [hs34]; rfl
          have ws34_90 : iI s34 90 = iI s30 90 := by rw [hs34]; rfl
          have ws34_91 : iI s34 91 = iI s30 91 := by rw [hs34]; rfl
          have fs34 : Fm [] [165] s30 s34 := by rw [hs34]; exact fm_C (fm_rf _ _ _) (show 165 ∈ _ by decide)
          have JRLx_s34 : RLx s34 := RLx_fm fs34 (by decide) JRLx_s30
          refine z_aload_n X (x := A 179) (show cdA 200 90 = some (.aload_n 0, 1, 0, 0, 0) from rfl) (List.Mem.head _) ?_
          refine z_callV X 179 (rm := rmN 193) (As := []) (st := []) (show cdA 200 91 = some (.invokevirtual 197, 3, 193, 0, 0) from rfl) rfl (by decide) rfl (by rw [E.1, E.2.1, E.2.2.1]; exact k_blanks G Is34 (by omega)) ⟨by rw [E.2.2.2]; exact (show (rmN 193).frames + 1 ≤ (rmN 200).frames by decide), by rw [E.2.2.2]; exact (show 8 + (mNL (miB 193) + 11) + (rmN 193).locals ≤ (rmN 200).locals by decide), by rw [E.2.2.2]; exact (show 0 + (rmN 193).cells ≤ (rmN 200).cells by decide), by rw [E.2.2.2]; exact (show 0 + (rmN 193).slots ≤ (rmN 200).slots by decide)⟩ (Nat.le_of_ble_eq_true rfl) (fun vv s35 hq => ?_) (fun ee s35 hq => ?_)
          rotate_left
          · obtain ⟨Is35, Fs35, hv, hps35⟩ := hq; cases hv
          obtain ⟨Is35, Fs35, hv, hps35⟩ := hq
          cases hv
          have Gs35 := fm_ts Fs34 Fs35 (by decide) (by decide)
          have JRLx_s35 : RLx s35 := RLx_fm Fs35 (by decide) JRLx_s34
          have ws35_73 : iI s35 73 = iI s34 73 := fm_i Fs35 (by decide)
          have ws35_74 : iI s35 74 = iI s34 74 := fm_i Fs35 (by decide)
          have b37 : (0 : Int) ≤ iI s35 77 ∧ iI s35 77 ≤ 400 := Is35.1 77
          have ws35_75 : iI s35 75 = iI s34 75 := fm_i Fs35 (by decide)
          have ws35_79 : iI s35 79 = iI s34 79 := fm_i Fs35 (by decide)
          have ws35_78 : iI s35 78 = iI s34 78 := fm_i Fs35 (by decide)
          have ws35_90 : iI s35 90 = iI s34 90 := fm_i Fs35 (by decide)
          have ws35_91 : iI s35 91 = iI s34 91 := fm_i Fs35 (by decide)
          show WS k 94 [(0, .ref (A 179)), (1, .int (Int32.ofInt x))] [] (Wd A dT s35) 0 0
          refine WS_lv (lv := [(0, .ref (A 179)), (1, .int (Int32.ofInt x))]) (List.forall_mem_cons.mpr ⟨(List.Mem.head _), (List.forall_mem_cons.mpr ⟨(List.Mem.tail _ (List.Mem.head _)), (fun q h => absurd h List.not_mem_nil)⟩)⟩) ?_
          have hD39 : TDF s35 := fun hz i hi => by
            have e0 : iI s35 91 = 1 := by omega
            have e1 : i = 0 := by omega
            subst e1
            rw [fm_c Fs35 (by decide), hs34]
            show 0 ≤ iC (uC s30 165 (0 : Int).toNat (Int32.ofInt e31)) 165 (0 : Int).toNat ∧ iC (uC s30 165 (0 : Int).toNat (Int32.ofInt e31)) 165 (0 : Int).toNat ≤ 127
            rw [iC_u ⟨by omega, by omega⟩]
            omega
          refine L94 ((400 - iI s35 77 + (9 - iI s35 79) : Int)).toNat s35 x Is35 Gs35 JRLx_s35 hD39 (by omega) (by omega) ?_
          intro s38  Is38 Fs38 JRLx_s38 Qs38 hs38
          have b40 : (0 : Int) ≤ iI s38 73 ∧ iI s38 73 ≤ 3 := Is38.1 73
          have b41 : (0 : Int) ≤ iI s38 74 ∧ iI s38 74 ≤ 200 := Is38.1 74
          have b42 : (0 : Int) ≤ iI s38 77 ∧ iI s38 77 ≤ 400 := Is38.1 77
          have b43 : (0 : Int) ≤ iI s38 75 ∧ iI s38 75 ≤ 200 := Is38.1 75
          have b44 : (0 : Int) ≤ iI s38 79 ∧ iI s38 79 ≤ 9 := Is38.1 79
          have b45 : (0 : Int) ≤ iI s38 78 ∧ iI s38 78 ≤ 8 := Is38.1 78
          have b46 : (0 : Int) ≤ iI s38 90 ∧ iI s38 90 ≤ 12 := Is38.1 90
          have b47 : (0 : Int) ≤ iI s38 91 ∧ iI s38 91 ≤ 24 := Is38.1 91
          have hTDF : TDF s38 := Qs38
          refine z_aload_n X (x := A 179) (show cdA 200 123 = some (.aload_n 0, 1, 0, 0, 0) from rfl) (List.Mem.head _) ?_
          refine z_aload_n X (x := A 179) (show cdA 200 124 = some (.aload_n 0, 1, 0, 0, 0) from rfl) (List.Mem.head _) ?_
          refine z_getI X 179 (show cdA 200 125 = some (.getfield 194, 3, 12, 7, 0) from rfl) (by decide) rfl rfl ?_
          have b48 : ((-1) : Int) ≤ iI s38 80 ∧ iI s38 80 ≤ 400 := Is38.1 80
          refine s_putI X 179 (show cdA 200 128 = some (.putfield 9, 3, 12, 3, 0) from rfl) (by decide) rfl rfl (by decide) rfl rfl rfl ?_
          obtain ⟨s49, hs49⟩ : ∃ x0, x0 = uI s38 76 (Int32.ofInt (iI s38 80)) := ⟨_, rfl⟩
          rw [← hs49]
          have Is49 : Bd s49 := by rw [hs49]; exact bd_I Is38 (show ((-1) : Int) ≤ (iI s38 80) ∧ (iI s38 80) ≤ 400 by omega) ⟨by omega, by omega⟩
          have Fs49 := fm_I (x := Int32.ofInt (iI s38 80)) Fs38 (show 76 ∈ _ by decide)
          rw [← hs49] at Fs49
          have vs49 : iI s49 76 = (iI s38 80) := by rw [hs49]; exact iI_u ⟨by omega, by omega⟩
          have ws49_73 : iI s49 73 = iI s38 73 := by rw [hs49]; rfl
          have ws49_74 : iI s49 74 = iI s38 74 := by rw [hs49]; rfl
          have ws49_77 : iI s49 77 = iI s38 77 := by rw [hs49]; rfl
          have ws49_75 : iI s49 75 = iI s38 75 := by rw [hs49]; rfl
          have ws49_79 : iI s49 79 = iI s38 79 := by rw [hs49]; rfl
          have ws49_78 : iI s49 78 = iI s38 78 := by rw [hs49]; rfl
          have ws49_90 : iI s49 90 = iI s38 90 := by rw [hs49]; rfl
          have ws49_91 : iI s49 91 = iI s38 91 := by rw [hs49]; rfl
          have fs49 : Fm [76] [] s38 s49 := by rw [hs49]; exact fm_I (fm_rf _ _ _) (show 76 ∈ _ by decide)
          have JRLx_s49 : RLx s49 := RLx_fm fs49 (by decide) JRLx_s38
          have hTDF2 : TDF s49 := fun z => TD_fm fs49 (by decide) (hTDF (by omega))
          refine z_aload_n X (x := A 179) (show cdA 200 131 = some (.aload_n 0, 1, 0, 0, 0) from rfl) (List.Mem.head _) ?_
          refine z_getI X 179 (show cdA 200 132 = some (.getfield 191, 3, 12, 6, 0) from rfl) (by decide) rfl rfl ?_
          have b50 : (0 : Int) ≤ iI s49 79 ∧ iI s49 79 ≤ 9 := Is49.1 79
          refine z_if_eq X (t := 146) (show cdA 200 135 = some (.ifCond .eq 11, 3, 0, 0, 0) from rfl) (by decide) ⟨by omega, by omega⟩ (fun g51 => ?_) (fun g51 => ?_)
          ·
            have JTD_s49 : TD s49 := hTDF2 (by omega)
            refine z_aload_n X (x := A 179) (show cdA 200 146 = some (.aload_n 0, 1, 0, 0, 0) from rfl) (List.Mem.head _) ?_
            refine s_getR X 179 (show cdA 200 147 = some (.getfield 35, 3, 12, 23, 0) from rfl) (by decide) rfl rfl ?_
            refine z_aload_n X (x := A 179) (show cdA 200 150 = some (.aload_n 0, 1, 0, 0, 0) from rfl) (List.Mem.head _) ?_
            refine z_getI X 179 (show cdA 200 151 = some (.getfield 233, 3, 12, 22, 0) from rfl) (by decide) rfl rfl ?_
            have b52 : (0 : Int) ≤ iI s49 90 ∧ iI s49 90 ≤ 12 := Is49.1 90
            refine z_aload_n X (x := A 179) (show cdA 200 154 = some (.aload_n 0, 1, 0, 0, 0) from rfl) (List.Mem.head _) ?_
            refine z_getI X 179 (show cdA 200 155 = some (.getfield 216, 3, 12, 27, 0) from rfl) (by decide) rfl rfl ?_
            have b53 : (0 : Int) ≤ iI s49 91 ∧ iI s49 91 ≤ 24 := Is49.1 91
            refine z_ast X 185 (show cdA 200 158 = some (.iastore, 1, 0, 0, 0) from rfl) (by decide) rfl (by omega) (show (iI s49 90) < 12 by omega) (by decide) ?_
            obtain ⟨s54, hs54⟩ : ∃ x0, x0 = uC s49 162 ((iI s49 90)).toNat (Int32.ofInt (iI s49 91)) := ⟨_, rfl⟩
            rw [← hs54]
            have Is54 : Bd s54 := by rw [hs54]; exact bd_C Is49 (show (0 : Int) ≤ (iI s49 91) ∧ (iI s49 91) ≤ 24 by omega) ⟨by omega, by omega⟩
            have Fs54 := fm_C (i := ((iI s49 90)).toNat) (x := Int32.ofInt (iI s49 91)) Fs49 (show 162 ∈ _ by decide)
            rw [← hs54] at Fs54
            have ws54_73 : iI s54 73 = iI s49 73 := by rw [hs54]; rfl
            have ws54_74 : iI s54 74 = iI s49 74 := by rw [hs54]; rfl
            have ws54_77 : iI s54 77 = iI s49 77 := by rw [hs54]; rfl
            have ws54_75 : iI s54 75 = iI s49 75 := by rw [hs54]; rfl
            have ws54_79 : iI s54 79 = iI s49 79 := by rw [hs54]; rfl
            have ws54_78 : iI s54 78 = iI s49 78 := by rw [hs54]; rfl
            have ws54_90 : iI s54 90 = iI s49 90 := by rw [hs54]; rfl
            have ws54_91 : iI s54 91 = iI s49 91 := by rw [hs54]; rfl
            have fs54 : Fm [] [162] s49 s54 := by rw [hs54]; exact fm_C (fm_rf _ _ _) (show 162 ∈ _ by decide)
            have JTD_s54 : TD s54 := TD_fm fs54 (by decide) JTD_s49
            have es_s54 : iI s49 90 = iI s 90 := by omega
            have JRLx_s54 : RLx s54 := by rw [hs54]; exact RLx_m JRLx_s49 (by omega)
            have vm_s54 : iC s54 162 (iI s 90 : Int).toNat = iI s49 91 := by rw [hs54, es_s54, iC_u ⟨by omega, by omega⟩]
            refine z_const X (show cdA 200 159 = some (.iconst 0, 1, 0, 0, 0) from rfl) ?_
            refine z_store_n X (lv' := [(2, .int (Int32.ofInt 0)), (0, .ref (A 179)), (1, .int (Int32.ofInt x))]) (show cdA 200 160 = some (.istore_n 2, 1, 0, 0, 0) from rfl) (by decide) (fun _ h => h) ?_
            refine WS_lv (lv := [(0, .ref (A 179)), (1, .int (Int32.ofInt x)), (2, .int (Int32.ofInt 0))]) (List.forall_mem_cons.mpr ⟨(List.Mem.tail _ (List.Mem.head _)), (List.forall_mem_cons.mpr ⟨(List.Mem.tail _ (List.Mem.tail _ (List.Mem.head _))), (List.forall_mem_cons.mpr ⟨(List.Mem.head _), (fun q h => absurd h List.not_mem_nil)⟩)⟩)⟩) ?_
            refine L161 ((128 - 0 : Int)).toNat s54 x 0 Is54 Fs54 JRLx_s54 ⟨JTD_s54, JRLx_s54, fun i _ h => absurd h (by omega)⟩ (by omega) (by omega) ?_
            intro s55 x56 Is55 Fs55 JRLx_s55 Qs55 hs55
            have b57 : (0 : Int) ≤ iI s55 73 ∧ iI s55 73 ≤ 3 := Is55.1 73
            have b58 : (0 : Int) ≤ iI s55 74 ∧ iI s55 74 ≤ 200 := Is55.1 74
            have b59 : (0 : Int) ≤ iI s55 77 ∧ iI s55 77 ≤ 400 := Is55.1 77
            have b60 : (0 : Int) ≤ iI s55 75 ∧ iI s55 75 ≤ 200 := Is55.1 75
            have b61 : (0 : Int) ≤ iI s55 79 ∧ iI s55 79 ≤ 9 := Is55.1 79
            have b62 : (0 : Int) ≤ iI s55 78 ∧ iI s55 78 ≤ 8 := Is55.1 78
            have b63 : (0 : Int) ≤ iI s55 90 ∧ iI s55 90 ≤ 12 := Is55.1 90
            have b64 : (0 : Int) ≤ iI s55 91 ∧ iI s55 91 ≤ 24 := Is55.1 91
            refine z_const X (show cdA 200 186 = some (.iconst 0, 1, 0, 0, 0) from rfl) ?_
            refine z_store_n X (lv' := [(2, .int (Int32.ofInt 0)), (0, .ref (A 179)), (1, .int (Int32.ofInt x))]) (show cdA 200 187 = some (.istore_n 2, 1, 0, 0, 0) from rfl) (by decide) (fun _ h => h) ?_
            refine WS_lv (lv := [(0, .ref (A 179)), (1, .int (Int32.ofInt x)), (2, .int (Int32.ofInt 0))]) (List.forall_mem_cons.mpr ⟨(List.Mem.tail _ (List.Mem.head _)), (List.forall_mem_cons.mpr ⟨(List.Mem.tail _ (List.Mem.tail _ (List.Mem.head _))), (List.forall_mem_cons.mpr ⟨(List.Mem.head _), (fun q h => absurd h List.not_mem_nil)⟩)⟩)⟩) ?_
            refine L188 ((24 - 0 : Int)).toNat s55 x 0 Is55 Fs55 JRLx_s55 ⟨Qs55.1, Qs55.2.1, fun i hi _ => Qs55.2.2 i hi (by omega)⟩ (by omega) (by omega) ?_
            intro s65 x66 Is65 Fs65 JRLx_s65 Qs65 hs65
            have b67 : (0 : Int) ≤ iI s65 73 ∧ iI s65 73 ≤ 3 := Is65.1 73
            have b68 : (0 : Int) ≤ iI s65 74 ∧ iI s65 74 ≤ 200 := Is65.1 74
            have b69 : (0 : Int) ≤ iI s65 77 ∧ iI s65 77 ≤ 400 := Is65.1 77
            have b70 : (0 : Int) ≤ iI s65 75 ∧ iI s65 75 ≤ 200 := Is65.1 75
            have b71 : (0 : Int) ≤ iI s65 79 ∧ iI s65 79 ≤ 9 := Is65.1 79
            have b72 : (0 : Int) ≤ iI s65 78 ∧ iI s65 78 ≤ 8 := Is65.1 78
            have b73 : (0 : Int) ≤ iI s65 90 ∧ iI s65 90 ≤ 12 := Is65.1 90
            have b74 : (0 : Int) ≤ iI s65 91 ∧ iI s65 91 ≤ 24 := Is65.1 91
            refine z_aload_n X (x := A 179) (show cdA 200 236 = some (.aload_n 0, 1, 0, 0, 0) from rfl) (List.Mem.head _) ?_
            refine w_dup X.1 (ax_d X (show cdA 200 237 = some (.dup, 1, 0, 0, 0) from rfl)) rfl ?_
            refine z_getI X 179 (show cdA 200 238 = some (.getfield 233, 3, 12, 22, 0) from rfl) (by decide) rfl rfl ?_
            have b75 : (0 : Int) ≤ iI s65 90 ∧ iI s65 90 ≤ 12 := Is65.1 90
            refine z_const X (show cdA 200 241 = some (.iconst 1, 1, 0, 0, 0) from rfl) ?_
            refine z_add X (show cdA 200 242 = some (.iadd, 1, 0, 0, 0) from rfl) ?_
            refine s_putI X 179 (show cdA 200 243 = some (.putfield 233, 3, 12, 22, 0) from rfl) (by decide) rfl rfl (by decide) rfl rfl rfl ?_
            obtain ⟨s76, hs76⟩ : ∃ x0, x0 = uI s65 90 (Int32.ofInt ((iI s65 90) + 1)) := ⟨_, rfl⟩
            rw [← hs76]
            have Is76 : Bd s76 := by rw [hs76]; exact bd_I Is65 (show (0 : Int) ≤ ((iI s65 90) + 1) ∧ ((iI s65 90) + 1) ≤ 12 by omega) ⟨by omega, by omega⟩
            have Fs76 := fm_I (x := Int32.ofInt ((iI s65 90) + 1)) Fs65 (show 90 ∈ _ by decide)
            rw [← hs76] at Fs76
            have vs76 : iI s76 90 = ((iI s65 90) + 1) := by rw [hs76]; exact iI_u ⟨by omega, by omega⟩
            have ws76_73 : iI s76 73 = iI s65 73 := by rw [hs76]; rfl
            have ws76_74 : iI s76 74 = iI s65 74 := by rw [hs76]; rfl
            have ws76_77 : iI s76 77 = iI s65 77 := by rw [hs76]; rfl
            have ws76_75 : iI s76 75 = iI s65 75 := by rw [hs76]; rfl
            have ws76_79 : iI s76 79 = iI s65 79 := by rw [hs76]; rfl
            have ws76_78 : iI s76 78 = iI s65 78 := by rw [hs76]; rfl
            have ws76_91 : iI s76 91 = iI s65 91 := by rw [hs76]; rfl
            have fs76 : Fm [90] [] s65 s76 := by rw [hs76]; exact fm_I (fm_rf _ _ _) (show 90 ∈ _ by decide)
            have JTD_s76 : TD s76 := TD_fm fs76 (by decide) Qs65.1
            have JRLx_s76 : RLx s76 := by
              rw [hs76]
              exact RLx_up Qs65.2.1 rfl (by omega) (by rw [show iI s65 90 = iI s 90 by omega]; omega) (fun i hi => by rw [show iI s65 90 = iI s 90 by omega]; exact Qs65.2.2 i hi (by omega))
            refine z_aload_n X (x := A 179) (show cdA 200 246 = some (.aload_n 0, 1, 0, 0, 0) from rfl) (List.Mem.head _) ?_
            refine z_getI X 179 (show cdA 200 247 = some (.getfield 233, 3, 12, 22, 0) from rfl) (by decide) rfl rfl ?_
            have b77 : (0 : Int) ≤ iI s76 90 ∧ iI s76 90 ≤ 12 := Is76.1 90
            refine z_const X (show cdA 200 250 = some (.iconst 1, 1, 0, 0, 0) from rfl) ?_
            refine z_sub X (show cdA 200 251 = some (.isub, 1, 0, 0, 0) from rfl) ?_
            exact w_iret X.1 q hRt rfl (ax_d X (show cdA 200 252 = some (.ireturn, 1, 0, 0, 0) from rfl)) (Nat.zero_le _) (Nat.zero_le _) ⟨_, rfl, Is76, Fs76, JRLx_s76, ((iI s76 90) - 1), rfl, ⟨by omega, by omega⟩, by omega⟩
          ·
            refine z_aload_n X (x := A 179) (show cdA 200 138 = some (.aload_n 0, 1, 0, 0, 0) from rfl) (List.Mem.head _) ?_
            refine z_getI X 179 (show cdA 200 139 = some (.getfield 191, 3, 12, 6, 0) from rfl) (by decide) rfl rfl ?_
            have b78 : (0 : Int) ≤ iI s49 79 ∧ iI s49 79 ≤ 9 := Is49.1 79
            refine z_bipush X (show cdA 200 142 = some (.bipush 10, 2, 0, 0, 10) from rfl) ?_
            refine z_sub X (show cdA 200 144 = some (.isub, 1, 0, 0, 0) from rfl) ?_
            exact w_iret X.1 q hRt rfl (ax_d X (show cdA 200 145 = some (.ireturn, 1, 0, 0, 0) from rfl)) (Nat.zero_le _) (Nat.zero_le _) ⟨_, rfl, Is49, Fs49, JRLx_s49, ((iI s49 79) - 10), rfl, ⟨by omega, by omega⟩, by omega⟩
        ·
          refine z_const X (show cdA 200 65 = some (.iconst (-1), 1, 0, 0, 0) from rfl) ?_
          exact w_iret X.1 q hRt rfl (ax_d X (show cdA 200 66 = some (.ireturn, 1, 0, 0, 0) from rfl)) (Nat.zero_le _) (Nat.zero_le _) ⟨_, rfl, Is20, Fs20, JRLx_s20, (-1), rfl, ⟨by omega, by omega⟩, by omega⟩
      ·
        refine z_const X (show cdA 200 44 = some (.iconst 0, 1, 0, 0, 0) from rfl) ?_
        exact w_iret X.1 q hRt rfl (ax_d X (show cdA 200 45 = some (.ireturn, 1, 0, 0, 0) from rfl)) (Nat.zero_le _) (Nat.zero_le _) ⟨_, rfl, Is15, Gs15, JRLx_s15, 0, rfl, ⟨by omega, by omega⟩, by omega⟩
    ·
      refine z_const X (show cdA 200 32 = some (.iconst 1, 1, 0, 0, 0) from rfl) ?_
      refine z_goto X (t := 37) (show cdA 200 33 = some (.goto 4, 3, 0, 0, 0) from rfl) (by decide) ?_
      refine z_const X (show cdA 200 37 = some (.iconst 1, 1, 0, 0, 0) from rfl) ?_
      refine z_callV X 179 (rm := rmN 187) (As := [.int (Int32.ofInt 1), .int (Int32.ofInt 1)]) (st := []) (show cdA 200 38 = some (.invokevirtual 229, 3, 187, 0, 0) from rfl) rfl (by decide) rfl (by rw [E.1, E.2.1, E.2.2.1]; exact k_bad G Is12 (by omega) (by omega)) ⟨by rw [E.2.2.2]; exact (show (rmN 187).frames + 1 ≤ (rmN 200).frames by decide), by rw [E.2.2.2]; exact (show 8 + (mNL (miB 187) + 11) + (rmN 187).locals ≤ (rmN 200).locals by decide), by rw [E.2.2.2]; exact (show 0 + (rmN 187).cells ≤ (rmN 200).cells by decide), by rw [E.2.2.2]; exact (show 0 + (rmN 187).slots ≤ (rmN 200).slots by decide)⟩ (Nat.le_of_ble_eq_true rfl) (fun vv s79 hq => ?_) (fun ee s79 hq => ?_)
      rotate_left
      · obtain ⟨Is79, Fs79, e80, hv, hrs79, hps79⟩ := hq; cases hv
      obtain ⟨Is79, Fs79, e80, hv, hrs79, hps79⟩ := hq
      cases hv
      have Gs79 := fm_ts Gs12 Fs79 (by decide) (by decide)
      have JRLx_s79 : RLx s79 := RLx_fm Fs79 (by decide) JRLx_s12
      have b81 : (0 : Int) ≤ iI s79 73 ∧ iI s79 73 ≤ 3 := Is79.1 73
      have ws79_74 : iI s79 74 = iI s12 74 := fm_i Fs79 (by decide)
      have ws79_77 : iI s79 77 = iI s12 77 := fm_i Fs79 (by decide)
      have ws79_75 : iI s79 75 = iI s12 75 := fm_i Fs79 (by decide)
      have ws79_79 : iI s79 79 = iI s12 79 := fm_i Fs79 (by decide)
      have ws79_78 : iI s79 78 = iI s12 78 := fm_i Fs79 (by decide)
      have ws79_90 : iI s79 90 = iI s12 90 := fm_i Fs79 (by decide)
      have ws79_91 : iI s79 91 = iI s12 91 := fm_i Fs79 (by decide)
      show WS k 41 [(0, .ref (A 179)), (1, .int (Int32.ofInt x))] [.int (Int32.ofInt e80)] (Wd A dT s79) 0 0
      refine z_if_eq X (t := 46) (show cdA 200 41 = some (.ifCond .eq 5, 3, 0, 0, 0) from rfl) (by decide) ⟨by omega, by omega⟩ (fun g82 => ?_) (fun g82 => ?_)
      ·
        refine z_aload_n X (x := A 179) (show cdA 200 46 = some (.aload_n 0, 1, 0, 0, 0) from rfl) (List.Mem.head _) ?_
        refine z_const X (show cdA 200 47 = some (.iconst 0, 1, 0, 0, 0) from rfl) ?_
        refine s_putI X 179 (show cdA 200 48 = some (.putfield 175, 3, 12, 1, 0) from rfl) (by decide) rfl rfl (by decide) rfl rfl rfl ?_
        obtain ⟨s83, hs83⟩ : ∃ x0, x0 = uI s79 74 (Int32.ofInt 0) := ⟨_, rfl⟩
        rw [← hs83]
        have Is83 : Bd s83 := by rw [hs83]; exact bd_I Is79 (show (0 : Int) ≤ 0 ∧ 0 ≤ 200 by omega) ⟨by omega, by omega⟩
        have Fs83 := fm_I (x := Int32.ofInt 0) Gs79 (show 74 ∈ _ by decide)
        rw [← hs83] at Fs83
        have vs83 : iI s83 74 = 0 := by rw [hs83]; exact iI_u ⟨by omega, by omega⟩
        have ws83_73 : iI s83 73 = iI s79 73 := by rw [hs83]; rfl
        have ws83_77 : iI s83 77 = iI s79 77 := by rw [hs83]; rfl
        have ws83_75 : iI s83 75 = iI s79 75 := by rw [hs83]; rfl
        have ws83_79 : iI s83 79 = iI s79 79 := by rw [hs83]; rfl
        have ws83_78 : iI s83 78 = iI s79 78 := by rw [hs83]; rfl
        have ws83_90 : iI s83 90 = iI s79 90 := by rw [hs83]; rfl
        have ws83_91 : iI s83 91 = iI s79 91 := by rw [hs83]; rfl
        have fs83 : Fm [74] [] s79 s83 := by rw [hs83]; exact fm_I (fm_rf _ _ _) (show 74 ∈ _ by decide)
        have JRLx_s83 : RLx s83 := RLx_fm fs83 (by decide) JRLx_s79
        refine z_aload_n X (x := A 179) (show cdA 200 51 = some (.aload_n 0, 1, 0, 0, 0) from rfl) (List.Mem.head _) ?_
        refine z_const X (show cdA 200 52 = some (.iconst (-1), 1, 0, 0, 0) from rfl) ?_
        refine s_putI X 179 (show cdA 200 53 = some (.putfield 9, 3, 12, 3, 0) from rfl) (by decide) rfl rfl (by decide) rfl rfl rfl ?_
        obtain ⟨s84, hs84⟩ : ∃ x0, x0 = uI s83 76 (Int32.ofInt (-1)) := ⟨_, rfl⟩
        rw [← hs84]
        have Is84 : Bd s84 := by rw [hs84]; exact bd_I Is83 (show ((-1) : Int) ≤ (-1) ∧ (-1) ≤ 400 by omega) ⟨by omega, by omega⟩
        have Fs84 := fm_I (x := Int32.ofInt (-1)) Fs83 (show 76 ∈ _ by decide)
        rw [← hs84] at Fs84
        have vs84 : iI s84 76 = (-1) := by rw [hs84]; exact iI_u ⟨by omega, by omega⟩
        have ws84_73 : iI s84 73 = iI s83 73 := by rw [hs84]; rfl
        have ws84_74 : iI s84 74 = iI s83 74 := by rw [hs84]; rfl
        have ws84_77 : iI s84 77 = iI s83 77 := by rw [hs84]; rfl
        have ws84_75 : iI s84 75 = iI s83 75 := by rw [hs84]; rfl
        have ws84_79 : iI s84 79 = iI s83 79 := by rw [hs84]; rfl
        have ws84_78 : iI s84 78 = iI s83 78 := by rw [hs84]; rfl
        have ws84_90 : iI s84 90 = iI s83 90 := by rw [hs84]; rfl
        have ws84_91 : iI s84 91 = iI s83 91 := by rw [hs84]; rfl
        have fs84 : Fm [76] [] s83 s84 := by rw [hs84]; exact fm_I (fm_rf _ _ _) (show 76 ∈ _ by decide)
        have JRLx_s84 : RLx s84 := RLx_fm fs84 (by decide) JRLx_s83
        refine z_aload_n X (x := A 179) (show cdA 200 56 = some (.aload_n 0, 1, 0, 0, 0) from rfl) (List.Mem.head _) ?_
        refine z_getI X 179 (show cdA 200 57 = some (.getfield 233, 3, 12, 22, 0) from rfl) (by decide) rfl rfl ?_
        have b85 : (0 : Int) ≤ iI s84 90 ∧ iI s84 90 ≤ 12 := Is84.1 90
        refine z_bipush X (show cdA 200 60 = some (.bipush 12, 2, 0, 0, 12) from rfl) ?_
        refine z_icmp_ne X (t := 67) (show cdA 200 62 = some (.if_icmp .ne 5, 3, 1, 0, 0) from rfl) (by decide) ⟨by omega, by omega⟩ ⟨by omega, by omega⟩ (fun g86 => ?_) (fun g86 => ?_)
        ·
          refine z_aload_n X (x := A 179) (show cdA 200 67 = some (.aload_n 0, 1, 0, 0, 0) from rfl) (List.Mem.head _) ?_
          refine z_load_n X (x := x) (show cdA 200 68 = some (.iload_n 1, 1, 0, 0, 0) from rfl) (List.Mem.tail _ (List.Mem.head _)) ?_
          refine z_callV X 179 (rm := rmN 197) (As := [.int (Int32.ofInt x)]) (st := []) (show cdA 200 69 = some (.invokevirtual 236, 3, 197, 0, 0) from rfl) rfl (by decide) rfl (by rw [E.1, E.2.1, E.2.2.1]; exact k_beginText G Is84 (by omega)) ⟨by rw [E.2.2.2]; exact (show (rmN 197).frames + 1 ≤ (rmN 200).frames by decide), by rw [E.2.2.2]; exact (show 8 + (mNL (miB 197) + 11) + (rmN 197).locals ≤ (rmN 200).locals by decide), by rw [E.2.2.2]; exact (show 0 + (rmN 197).cells ≤ (rmN 200).cells by decide), by rw [E.2.2.2]; exact (show 0 + (rmN 197).slots ≤ (rmN 200).slots by decide)⟩ (Nat.le_of_ble_eq_true rfl) (fun vv s87 hq => ?_) (fun ee s87 hq => ?_)
          rotate_left
          · obtain ⟨Is87, Fs87, hv, hps87⟩ := hq; cases hv
          obtain ⟨Is87, Fs87, hv, hps87⟩ := hq
          cases hv
          have Gs87 := fm_ts Fs84 Fs87 (by decide) (by decide)
          have JRLx_s87 : RLx s87 := RLx_fm Fs87 (by decide) JRLx_s84
          have ws87_73 : iI s87 73 = iI s84 73 := fm_i Fs87 (by decide)
          have ws87_74 : iI s87 74 = iI s84 74 := fm_i Fs87 (by decide)
          have b89 : (0 : Int) ≤ iI s87 77 ∧ iI s87 77 ≤ 400 := Is87.1 77
          have b90 : (0 : Int) ≤ iI s87 75 ∧ iI s87 75 ≤ 200 := Is87.1 75
          have b91 : (0 : Int) ≤ iI s87 79 ∧ iI s87 79 ≤ 9 := Is87.1 79
          have b92 : (0 : Int) ≤ iI s87 78 ∧ iI s87 78 ≤ 8 := Is87.1 78
          have ws87_90 : iI s87 90 = iI s84 90 := fm_i Fs87 (by decide)
          have ws87_91 : iI s87 91 = iI s84 91 := fm_i Fs87 (by decide)
          show WS k 72 [(0, .ref (A 179)), (1, .int (Int32.ofInt x))] [] (Wd A dT s87) 0 0
          refine z_aload_n X (x := A 179) (show cdA 200 72 = some (.aload_n 0, 1, 0, 0, 0) from rfl) (List.Mem.head _) ?_
          refine z_const X (show cdA 200 73 = some (.iconst 1, 1, 0, 0, 0) from rfl) ?_
          refine s_putI X 179 (show cdA 200 74 = some (.putfield 216, 3, 12, 27, 0) from rfl) (by decide) rfl rfl (by decide) rfl rfl rfl ?_
          obtain ⟨s93, hs93⟩ : ∃ x0, x0 = uI s87 91 (Int32.ofInt 1) := ⟨_, rfl⟩
          rw [← hs93]
          have Is93 : Bd s93 := by rw [hs93]; exact bd_I Is87 (show (0 : Int) ≤ 1 ∧ 1 ≤ 24 by omega) ⟨by omega, by omega⟩
          have Fs93 := fm_I (x := Int32.ofInt 1) Gs87 (show 91 ∈ _ by decide)
          rw [← hs93] at Fs93
          have vs93 : iI s93 91 = 1 := by rw [hs93]; exact iI_u ⟨by omega, by omega⟩
          have ws93_73 : iI s93 73 = iI s87 73 := by rw [hs93]; rfl
          have ws93_74 : iI s93 74 = iI s87 74 := by rw [hs93]; rfl
          have ws93_77 : iI s93 77 = iI s87 77 := by rw [hs93]; rfl
          have ws93_75 : iI s93 75 = iI s87 75 := by rw [hs93]; rfl
          have ws93_79 : iI s93 79 = iI s87 79 := by rw [hs93]; rfl
          have ws93_78 : iI s93 78 = iI s87 78 := by rw [hs93]; rfl
          have ws93_90 : iI s93 90 = iI s87 90 := by rw [hs93]; rfl
          have fs93 : Fm [91] [] s87 s93 := by rw [hs93]; exact fm_I (fm_rf _ _ _) (show 91 ∈ _ by decide)
          have JRLx_s93 : RLx s93 := RLx_fm fs93 (by decide) JRLx_s87
          refine z_aload_n X (x := A 179) (show cdA 200 77 = some (.aload_n 0, 1, 0, 0, 0) from rfl) (List.Mem.head _) ?_
          refine s_getR X 179 (show cdA 200 78 = some (.getfield 44, 3, 12, 26, 0) from rfl) (by decide) rfl rfl ?_
          refine z_const X (show cdA 200 81 = some (.iconst 0, 1, 0, 0, 0) from rfl) ?_
          refine z_aload_n X (x := A 179) (show cdA 200 82 = some (.aload_n 0, 1, 0, 0, 0) from rfl) (List.Mem.head _) ?_
          refine z_const X (show cdA 200 83 = some (.iconst 0, 1, 0, 0, 0) from rfl) ?_
          refine z_bipush X (show cdA 200 84 = some (.bipush 127, 2, 0, 0, 127) from rfl) ?_
          refine z_callV X 179 (rm := rmN 196) (As := [.int (Int32.ofInt 0), .int (Int32.ofInt 127)]) (st := [.int (Int32.ofInt 0), .ref (A 188)]) (show cdA 200 86 = some (.invokevirtual 219, 3, 196, 0, 0) from rfl) rfl (by decide) rfl (by rw [E.1, E.2.1, E.2.2.1]; exact k_number G Is93 (by omega) (by omega) (by omega)) ⟨by rw [E.2.2.2]; exact (show (rmN 196).frames + 1 ≤ (rmN 200).frames by decide), by rw [E.2.2.2]; exact (show 8 + (mNL (miB 196) + 11) + (rmN 196).locals ≤ (rmN 200).locals by decide), by rw [E.2.2.2]; exact (show 0 + (rmN 196).cells ≤ (rmN 200).cells by decide), by rw [E.2.2.2]; exact (show 0 + (rmN 196).slots ≤ (rmN 200).slots by decide)⟩ (Nat.le_of_ble_eq_true rfl) (fun vv s94 hq => ?_) (fun ee s94 hq => ?_)
          rotate_left
          · obtain ⟨Is94, Fs94, e95, hv, hrs94, hps94⟩ := hq; cases hv
          obtain ⟨Is94, Fs94, e95, hv, hrs94, hps94⟩ := hq
          cases hv
          have Gs94 := fm_ts Fs93 Fs94 (by decide) (by decide)
          have JRLx_s94 : RLx s94 := RLx_fm Fs94 (by decide) JRLx_s93
          have ws94_73 : iI s94 73 = iI s93 73 := fm_i Fs94 (by decide)
          have ws94_74 : iI s94 74 = iI s93 74 := fm_i Fs94 (by decide)
          have b96 : (0 : Int) ≤ iI s94 77 ∧ iI s94 77 ≤ 400 := Is94.1 77
          have ws94_75 : iI s94 75 = iI s93 75 := fm_i Fs94 (by decide)
          have b97 : (0 : Int) ≤ iI s94 79 ∧ iI s94 79 ≤ 9 := Is94.1 79
          have ws94_78 : iI s94 78 = iI s93 78 := fm_i Fs94 (by decide)
          have ws94_90 : iI s94 90 = iI s93 90 := fm_i Fs94 (by decide)
          have ws94_91 : iI s94 91 = iI s93 91 := fm_i Fs94 (by decide)
          show WS k 89 [(0, .ref (A 179)), (1, .int (Int32.ofInt x))] [.int (Int32.ofInt e95), .int (Int32.ofInt 0), .ref (A 188)] (Wd A dT s94) 0 0
          refine z_ast X 188 (show cdA 200 89 = some (.iastore, 1, 0, 0, 0) from rfl) (by decide) rfl (by omega) (show 0 < 24 by omega) (by decide) ?_
          obtain ⟨s98, hs98⟩ : ∃ x0, x0 = uC s94 165 (0 : Int).toNat (Int32.ofInt e95) := ⟨_, rfl⟩
          rw [← hs98]
          have Is98 : Bd s98 := by rw [hs98]; exact bd_C Is94 (show ((-2147483648) : Int) ≤ e95 ∧ e95 ≤ 2147483647 by omega) ⟨by omega, by omega⟩
          have Fs98 := fm_C (i := (0 : Int).toNat) (x := Int32.ofInt e95) Gs94 (show 165 ∈ _ by decide)
          rw [← hs98] at Fs98
          have ws98_73 : iI s98 73 = iI s94 73 := by rw [hs98]; rfl
          have ws98_74 : iI s98 74 = iI s94 74 := by rw [hs98]; rfl
          have ws98_77 : iI s98 77 = iI s94 77 := by rw [hs98]; rfl
          have ws98_75 : iI s98 75 = iI s94 75 := by rw [hs98]; rfl
          have ws98_79 : iI s98 79 = iI s94 79 := by rw [hs98]; rfl
          have ws98_78 : iI s98 78 = iI s94 78 := by rw [hs98]; rfl
          have ws98_90 : iI s98 90 = iI s94 90 := by rw [hs98]; rfl
          have ws98_91 : iI s98 91 = iI s94 91 := by rw [hs98]; rfl
          have fs98 : Fm [] [165] s94 s98 := by rw [hs98]; exact fm_C (fm_rf _ _ _) (show 165 ∈ _ by decide)
          have JRLx_s98 : RLx s98 := RLx_fm fs98 (by decide) JRLx_s94
          refine z_aload_n X (x := A 179) (show cdA 200 90 = some (.aload_n 0, 1, 0, 0, 0) from rfl) (List.Mem.head _) ?_
          refine z_callV X 179 (rm := rmN 193) (As := []) (st := []) (show cdA 200 91 = some (.invokevirtual 197, 3, 193, 0, 0) from rfl) rfl (by decide) rfl (by rw [E.1, E.2.1, E.2.2.1]; exact k_blanks G Is98 (by omega)) ⟨by rw [E.2.2.2]; exact (show (rmN 193).frames + 1 ≤ (rmN 200).frames by decide), by rw [E.2.2.2]; exact (show 8 + (mNL (miB 193) + 11) + (rmN 193).locals ≤ (rmN 200).locals by decide), by rw [E.2.2.2]; exact (show 0 + (rmN 193).cells ≤ (rmN 200).cells by decide), by rw [E.2.2.2]; exact (show 0 + (rmN 193).slots ≤ (rmN 200).slots by decide)⟩ (Nat.le_of_ble_eq_true rfl) (fun vv s99 hq => ?_) (fun ee s99 hq => ?_)
          rotate_left
          · obtain ⟨Is99, Fs99, hv, hps99⟩ := hq; cases hv
          obtain ⟨Is99, Fs99, hv, hps99⟩ := hq
          cases hv
          have Gs99 := fm_ts Fs98 Fs99 (by decide) (by decide)
          have JRLx_s99 : RLx s99 := RLx_fm Fs99 (by decide) JRLx_s98
          have ws99_73 : iI s99 73 = iI s98 73 := fm_i Fs99 (by decide)
          have ws99_74 : iI s99 74 = iI s98 74 := fm_i Fs99 (by decide)
          have b101 : (0 : Int) ≤ iI s99 77 ∧ iI s99 77 ≤ 400 := Is99.1 77
          have ws99_75 : iI s99 75 = iI s98 75 := fm_i Fs99 (by decide)
          have ws99_79 : iI s99 79 = iI s98 79 := fm_i Fs99 (by decide)
          have ws99_78 : iI s99 78 = iI s98 78 := fm_i Fs99 (by decide)
          have ws99_90 : iI s99 90 = iI s98 90 := fm_i Fs99 (by decide)
          have ws99_91 : iI s99 91 = iI s98 91 := fm_i Fs99 (by decide)
          show WS k 94 [(0, .ref (A 179)), (1, .int (Int32.ofInt x))] [] (Wd A dT s99) 0 0
          refine WS_lv (lv := [(0, .ref (A 179)), (1, .int (Int32.ofInt x))]) (List.forall_mem_cons.mpr ⟨(List.Mem.head _), (List.forall_mem_cons.mpr ⟨(List.Mem.tail _ (List.Mem.head _)), (fun q h => absurd h List.not_mem_nil)⟩)⟩) ?_
          have hD103 : TDF s99 := fun hz i hi => by
            have e0 : iI s99 91 = 1 := by omega
            have e1 : i = 0 := by omega
            subst e1
            rw [fm_c Fs99 (by decide), hs98]
            show 0 ≤ iC (uC s94 165 (0 : Int).toNat (Int32.ofInt e95)) 165 (0 : Int).toNat ∧ iC (uC s94 165 (0 : Int).toNat (Int32.ofInt e95)) 165 (0 : Int).toNat ≤ 127
            rw [iC_u ⟨by omega, by omega⟩]
            omega
          refine L94 ((400 - iI s99 77 + (9 - iI s99 79) : Int)).toNat s99 x Is99 Gs99 JRLx_s99 hD103 (by omega) (by omega) ?_
          intro s102  Is102 Fs102 JRLx_s102 Qs102 hs102
          have b104 : (0 : Int) ≤ iI s102 73 ∧ iI s102 73 ≤ 3 := Is102.1 73
          have b105 : (0 : Int) ≤ iI s102 74 ∧ iI s102 74 ≤ 200 := Is102.1 74
          have b106 : (0 : Int) ≤ iI s102 77 ∧ iI s102 77 ≤ 400 := Is102.1 77
          have b107 : (0 : Int) ≤ iI s102 75 ∧ iI s102 75 ≤ 200 := Is102.1 75
          have b108 : (0 : Int) ≤ iI s102 79 ∧ iI s102 79 ≤ 9 := Is102.1 79
          have b109 : (0 : Int) ≤ iI s102 78 ∧ iI s102 78 ≤ 8 := Is102.1 78
          have b110 : (0 : Int) ≤ iI s102 90 ∧ iI s102 90 ≤ 12 := Is102.1 90
          have b111 : (0 : Int) ≤ iI s102 91 ∧ iI s102 91 ≤ 24 := Is102.1 91
          have hTDF : TDF s102 := Qs102
          refine z_aload_n X (x := A 179) (show cdA 200 123 = some (.aload_n 0, 1, 0, 0, 0) from rfl) (List.Mem.head _) ?_
          refine z_aload_n X (x := A 179) (show cdA 200 124 = some (.aload_n 0, 1, 0, 0, 0) from rfl) (List.Mem.head _) ?_
          refine z_getI X 179 (show cdA 200 125 = some (.getfield 194, 3, 12, 7, 0) from rfl) (by decide) rfl rfl ?_
          have b112 : ((-1) : Int) ≤ iI s102 80 ∧ iI s102 80 ≤ 400 := Is102.1 80
          refine s_putI X 179 (show cdA 200 128 = some (.putfield 9, 3, 12, 3, 0) from rfl) (by decide) rfl rfl (by decide) rfl rfl rfl ?_
          obtain ⟨s113, hs113⟩ : ∃ x0, x0 = uI s102 76 (Int32.ofInt (iI s102 80)) := ⟨_, rfl⟩
          rw [← hs113]
          have Is113 : Bd s113 := by rw [hs113]; exact bd_I Is102 (show ((-1) : Int) ≤ (iI s102 80) ∧ (iI s102 80) ≤ 400 by omega) ⟨by omega, by omega⟩
          have Fs113 := fm_I (x := Int32.ofInt (iI s102 80)) Fs102 (show 76 ∈ _ by decide)
          rw [← hs113] at Fs113
          have vs113 : iI s113 76 = (iI s102 80) := by rw [hs113]; exact iI_u ⟨by omega, by omega⟩
          have ws113_73 : iI s113 73 = iI s102 73 := by rw [hs113]; rfl
          have ws113_74 : iI s113 74 = iI s102 74 := by rw [hs113]; rfl
          have ws113_77 : iI s113 77 = iI s102 77 := by rw [hs113]; rfl
          have ws113_75 : iI s113 75 = iI s102 75 := by rw [hs113]; rfl
          have ws113_79 : iI s113 79 = iI s102 79 := by rw [hs113]; rfl
          have ws113_78 : iI s113 78 = iI s102 78 := by rw [hs113]; rfl
          have ws113_90 : iI s113 90 = iI s102 90 := by rw [hs113]; rfl
          have ws113_91 : iI s113 91 = iI s102 91 := by rw [hs113]; rfl
          have fs113 : Fm [76] [] s102 s113 := by rw [hs113]; exact fm_I (fm_rf _ _ _) (show 76 ∈ _ by decide)
          have JRLx_s113 : RLx s113 := RLx_fm fs113 (by decide) JRLx_s102
          have hTDF2 : TDF s113 := fun z => TD_fm fs113 (by decide) (hTDF (by omega))
          refine z_aload_n X (x := A 179) (show cdA 200 131 = some (.aload_n 0, 1, 0, 0, 0) from rfl) (List.Mem.head _) ?_
          refine z_getI X 179 (show cdA 200 132 = some (.getfield 191, 3, 12, 6, 0) from rfl) (by decide) rfl rfl ?_
          have b114 : (0 : Int) ≤ iI s113 79 ∧ iI s113 79 ≤ 9 := Is113.1 79
          refine z_if_eq X (t := 146) (show cdA 200 135 = some (.ifCond .eq 11, 3, 0, 0, 0) from rfl) (by decide) ⟨by omega, by omega⟩ (fun g115 => ?_) (fun g115 => ?_)
          ·
            have JTD_s113 : TD s113 := hTDF2 (by omega)
            refine z_aload_n X (x := A 179) (show cdA 200 146 = some (.aload_n 0, 1, 0, 0, 0) from rfl) (List.Mem.head _) ?_
            refine s_getR X 179 (show cdA 200 147 = some (.getfield 35, 3, 12, 23, 0) from rfl) (by decide) rfl rfl ?_
            refine z_aload_n X (x := A 179) (show cdA 200 150 = some (.aload_n 0, 1, 0, 0, 0) from rfl) (List.Mem.head _) ?_
            refine z_getI X 179 (show cdA 200 151 = some (.getfield 233, 3, 12, 22, 0) from rfl) (by decide) rfl rfl ?_
            have b116 : (0 : Int) ≤ iI s113 90 ∧ iI s113 90 ≤ 12 := Is113.1 90
            refine z_aload_n X (x := A 179) (show cdA 200 154 = some (.aload_n 0, 1, 0, 0, 0) from rfl) (List.Mem.head _) ?_
            refine z_getI X 179 (show cdA 200 155 = some (.getfield 216, 3, 12, 27, 0) from rfl) (by decide) rfl rfl ?_
            have b117 : (0 : Int) ≤ iI s113 91 ∧ iI s113 91 ≤ 24 := Is113.1 91
            refine z_ast X 185 (show cdA 200 158 = some (.iastore, 1, 0, 0, 0) from rfl) (by decide) rfl (by omega) (show (iI s113 90) < 12 by omega) (by decide) ?_
            obtain ⟨s118, hs118⟩ : ∃ x0, x0 = uC s113 162 ((iI s113 90)).toNat (Int32.ofInt (iI s113 91)) := ⟨_, rfl⟩
            rw [← hs118]
            have Is118 : Bd s118 := by rw [hs118]; exact bd_C Is113 (show (0 : Int) ≤ (iI s113 91) ∧ (iI s113 91) ≤ 24 by omega) ⟨by omega, by omega⟩
            have Fs118 := fm_C (i := ((iI s113 90)).toNat) (x := Int32.ofInt (iI s113 91)) Fs113 (show 162 ∈ _ by decide)
            rw [← hs118] at Fs118
            have ws118_73 : iI s118 73 = iI s113 73 := by rw [hs118]; rfl
            have ws118_74 : iI s118 74 = iI s113 74 := by rw [hs118]; rfl
            have ws118_77 : iI s118 77 = iI s113 77 := by rw [hs118]; rfl
            have ws118_75 : iI s118 75 = iI s113 75 := by rw [hs118]; rfl
            have ws118_79 : iI s118 79 = iI s113 79 := by rw [hs118]; rfl
            have ws118_78 : iI s118 78 = iI s113 78 := by rw [hs118]; rfl
            have ws118_90 : iI s118 90 = iI s113 90 := by rw [hs118]; rfl
            have ws118_91 : iI s118 91 = iI s113 91 := by rw [hs118]; rfl
            have fs118 : Fm [] [162] s113 s118 := by rw [hs118]; exact fm_C (fm_rf _ _ _) (show 162 ∈ _ by decide)
            have JTD_s118 : TD s118 := TD_fm fs118 (by decide) JTD_s113
            have es_s118 : iI s113 90 = iI s 90 := by omega
            have JRLx_s118 : RLx s118 := by rw [hs118]; exact RLx_m JRLx_s113 (by omega)
            have vm_s118 : iC s118 162 (iI s 90 : Int).toNat = iI s113 91 := by rw [hs118, es_s118, iC_u ⟨by omega, by omega⟩]
            refine z_const X (show cdA 200 159 = some (.iconst 0, 1, 0, 0, 0) from rfl) ?_
            refine z_store_n X (lv' := [(2, .int (Int32.ofInt 0)), (0, .ref (A 179)), (1, .int (Int32.ofInt x))]) (show cdA 200 160 = some (.istore_n 2, 1, 0, 0, 0) from rfl) (by decide) (fun _ h => h) ?_
            refine WS_lv (lv := [(0, .ref (A 179)), (1, .int (Int32.ofInt x)), (2, .int (Int32.ofInt 0))]) (List.forall_mem_cons.mpr ⟨(List.Mem.tail _ (List.Mem.head _)), (List.forall_mem_cons.mpr ⟨(List.Mem.tail _ (List.Mem.tail _ (List.Mem.head _))), (List.forall_mem_cons.mpr ⟨(List.Mem.head _), (fun q h => absurd h List.not_mem_nil)⟩)⟩)⟩) ?_
            refine L161 ((128 - 0 : Int)).toNat s118 x 0 Is118 Fs118 JRLx_s118 ⟨JTD_s118, JRLx_s118, fun i _ h => absurd h (by omega)⟩ (by omega) (by omega) ?_
            intro s119 x120 Is119 Fs119 JRLx_s119 Qs119 hs119
            have b121 : (0 : Int) ≤ iI s119 73 ∧ iI s119 73 ≤ 3 := Is119.1 73
            have b122 : (0 : Int) ≤ iI s119 74 ∧ iI s119 74 ≤ 200 := Is119.1 74
            have b123 : (0 : Int) ≤ iI s119 77 ∧ iI s119 77 ≤ 400 := Is119.1 77
            have b124 : (0 : Int) ≤ iI s119 75 ∧ iI s119 75 ≤ 200 := Is119.1 75
            have b125 : (0 : Int) ≤ iI s119 79 ∧ iI s119 79 ≤ 9 := Is119.1 79
            have b126 : (0 : Int) ≤ iI s119 78 ∧ iI s119 78 ≤ 8 := Is119.1 78
            have b127 : (0 : Int) ≤ iI s119 90 ∧ iI s119 90 ≤ 12 := Is119.1 90
            have b128 : (0 : Int) ≤ iI s119 91 ∧ iI s119 91 ≤ 24 := Is119.1 91
            refine z_const X (show cdA 200 186 = some (.iconst 0, 1, 0, 0, 0) from rfl) ?_
            refine z_store_n X (lv' := [(2, .int (Int32.ofInt 0)), (0, .ref (A 179)), (1, .int (Int32.ofInt x))]) (show cdA 200 187 = some (.istore_n 2, 1, 0, 0, 0) from rfl) (by decide) (fun _ h => h) ?_
            refine WS_lv (lv := [(0, .ref (A 179)), (1, .int (Int32.ofInt x)), (2, .int (Int32.ofInt 0))]) (List.forall_mem_cons.mpr ⟨(List.Mem.tail _ (List.Mem.head _)), (List.forall_mem_cons.mpr ⟨(List.Mem.tail _ (List.Mem.tail _ (List.Mem.head _))), (List.forall_mem_cons.mpr ⟨(List.Mem.head _), (fun q h => absurd h List.not_mem_nil)⟩)⟩)⟩) ?_
            refine L188 ((24 - 0 : Int)).toNat s119 x 0 Is119 Fs119 JRLx_s119 ⟨Qs119.1, Qs119.2.1, fun i hi _ => Qs119.2.2 i hi (by omega)⟩ (by omega) (by omega) ?_
            intro s129 x130 Is129 Fs129 JRLx_s129 Qs129 hs129
            have b131 : (0 : Int) ≤ iI s129 73 ∧ iI s129 73 ≤ 3 := Is129.1 73
            have b132 : (0 : Int) ≤ iI s129 74 ∧ iI s129 74 ≤ 200 := Is129.1 74
            have b133 : (0 : Int) ≤ iI s129 77 ∧ iI s129 77 ≤ 400 := Is129.1 77
            have b134 : (0 : Int) ≤ iI s129 75 ∧ iI s129 75 ≤ 200 := Is129.1 75
            have b135 : (0 : Int) ≤ iI s129 79 ∧ iI s129 79 ≤ 9 := Is129.1 79
            have b136 : (0 : Int) ≤ iI s129 78 ∧ iI s129 78 ≤ 8 := Is129.1 78
            have b137 : (0 : Int) ≤ iI s129 90 ∧ iI s129 90 ≤ 12 := Is129.1 90
            have b138 : (0 : Int) ≤ iI s129 91 ∧ iI s129 91 ≤ 24 := Is129.1 91
            refine z_aload_n X (x := A 179) (show cdA 200 236 = some (.aload_n 0, 1, 0, 0, 0) from rfl) (List.Mem.head _) ?_
            refine w_dup X.1 (ax_d X (show cdA 200 237 = some (.dup, 1, 0, 0, 0) from rfl)) rfl ?_
            refine z_getI X 179 (show cdA 200 238 = some (.getfield 233, 3, 12, 22, 0) from rfl) (by decide) rfl rfl ?_
            have b139 : (0 : Int) ≤ iI s129 90 ∧ iI s129 90 ≤ 12 := Is129.1 90
            refine z_const X (show cdA 200 241 = some (.iconst 1, 1, 0, 0, 0) from rfl) ?_
            refine z_add X (show cdA 200 242 = some (.iadd, 1, 0, 0, 0) from rfl) ?_
            refine s_putI X 179 (show cdA 200 243 = some (.putfield 233, 3, 12, 22, 0) from rfl) (by decide) rfl rfl (by decide) rfl rfl rfl ?_
            obtain ⟨s140, hs140⟩ : ∃ x0, x0 = uI s129 90 (Int32.ofInt ((iI s129 90) + 1)) := ⟨_, rfl⟩
            rw [← hs140]
            have Is140 : Bd s140 := by rw [hs140]; exact bd_I Is129 (show (0 : Int) ≤ ((iI s129 90) + 1) ∧ ((iI s129 90) + 1) ≤ 12 by omega) ⟨by omega, by omega⟩
            have Fs140 := fm_I (x := Int32.ofInt ((iI s129 90) + 1)) Fs129 (show 90 ∈ _ by decide)
            rw [← hs140] at Fs140
            have vs140 : iI s140 90 = ((iI s129 90) + 1) := by rw [hs140]; exact iI_u ⟨by omega, by omega⟩
            have ws140_73 : iI s140 73 = iI s129 73 := by rw [hs140]; rfl
            have ws140_74 : iI s140 74 = iI s129 74 := by rw [hs140]; rfl
            have ws140_77 : iI s140 77 = iI s129 77 := by rw [hs140]; rfl
            have ws140_75 : iI s140 75 = iI s129 75 := by rw [hs140]; rfl
            have ws140_79 : iI s140 79 = iI s129 79 := by rw [hs140]; rfl
            have ws140_78 : iI s140 78 = iI s129 78 := by rw [hs140]; rfl
            have ws140_91 : iI s140 91 = iI s129 91 := by rw [hs140]; rfl
            have fs140 : Fm [90] [] s129 s140 := by rw [hs140]; exact fm_I (fm_rf _ _ _) (show 90 ∈ _ by decide)
            have JTD_s140 : TD s140 := TD_fm fs140 (by decide) Qs129.1
            have JRLx_s140 : RLx s140 := by
              rw [hs140]
              exact RLx_up Qs129.2.1 rfl (by omega) (by rw [show iI s129 90 = iI s 90 by omega]; omega) (fun i hi => by rw [show iI s129 90 = iI s 90 by omega]; exact Qs129.2.2 i hi (by omega))
            refine z_aload_n X (x := A 179) (show cdA 200 246 = some (.aload_n 0, 1, 0, 0, 0) from rfl) (List.Mem.head _) ?_
            refine z_getI X 179 (show cdA 200 247 = some (.getfield 233, 3, 12, 22, 0) from rfl) (by decide) rfl rfl ?_
            have b141 : (0 : Int) ≤ iI s140 90 ∧ iI s140 90 ≤ 12 := Is140.1 90
            refine z_const X (show cdA 200 250 = some (.iconst 1, 1, 0, 0, 0) from rfl) ?_
            refine z_sub X (show cdA 200 251 = some (.isub, 1, 0, 0, 0) from rfl) ?_
            exact w_iret X.1 q hRt rfl (ax_d X (show cdA 200 252 = some (.ireturn, 1, 0, 0, 0) from rfl)) (Nat.zero_le _) (Nat.zero_le _) ⟨_, rfl, Is140, Fs140, JRLx_s140, ((iI s140 90) - 1), rfl, ⟨by omega, by omega⟩, by omega⟩
          ·
            refine z_aload_n X (x := A 179) (show cdA 200 138 = some (.aload_n 0, 1, 0, 0, 0) from rfl) (List.Mem.head _) ?_
            refine z_getI X 179 (show cdA 200 139 = some (.getfield 191, 3, 12, 6, 0) from rfl) (by decide) rfl rfl ?_
            have b142 : (0 : Int) ≤ iI s113 79 ∧ iI s113 79 ≤ 9 := Is113.1 79
            refine z_bipush X (show cdA 200 142 = some (.bipush 10, 2, 0, 0, 10) from rfl) ?_
            refine z_sub X (show cdA 200 144 = some (.isub, 1, 0, 0, 0) from rfl) ?_
            exact w_iret X.1 q hRt rfl (ax_d X (show cdA 200 145 = some (.ireturn, 1, 0, 0, 0) from rfl)) (Nat.zero_le _) (Nat.zero_le _) ⟨_, rfl, Is113, Fs113, JRLx_s113, ((iI s113 79) - 10), rfl, ⟨by omega, by omega⟩, by omega⟩
        ·
          refine z_const X (show cdA 200 65 = some (.iconst (-1), 1, 0, 0, 0) from rfl) ?_
          exact w_iret X.1 q hRt rfl (ax_d X (show cdA 200 66 = some (.ireturn, 1, 0, 0, 0) from rfl)) (Nat.zero_le _) (Nat.zero_le _) ⟨_, rfl, Is84, Fs84, JRLx_s84, (-1), rfl, ⟨by omega, by omega⟩, by omega⟩
      ·
        refine z_const X (show cdA 200 44 = some (.iconst 0, 1, 0, 0, 0) from rfl) ?_
        exact w_iret X.1 q hRt rfl (ax_d X (show cdA 200 45 = some (.ireturn, 1, 0, 0, 0) from rfl)) (Nat.zero_le _) (Nat.zero_le _) ⟨_, rfl, Is79, Gs79, JRLx_s79, 0, rfl, ⟨by omega, by omega⟩, by omega⟩
  ·
    refine z_aload_n X (x := A 179) (show cdA 200 17 = some (.aload_n 0, 1, 0, 0, 0) from rfl) (List.Mem.head _) ?_
    refine z_getI X 179 (show cdA 200 18 = some (.getfield 175, 3, 12, 1, 0) from rfl) (by decide) rfl rfl ?_
    have b143 : (0 : Int) ≤ iI s9 74 ∧ iI s9 74 ≤ 200 := Is9.1 74
    refine z_goto X (t := 26) (show cdA 200 21 = some (.goto 5, 3, 0, 0, 0) from rfl) (by decide) ?_
    refine z_callS X (rm := rmN 188) (As := [.int (Int32.ofInt x), .int (Int32.ofInt 0), .int (Int32.ofInt (iI s9 74))]) (st := [.ref (A 179)]) (show cdA 200 26 = some (.invokestatic 209, 3, 188, 1, 0) from rfl) rfl (by rw [E.1, E.2.1, E.2.2.1]; exact k_in G Is9 (by omega) (by omega) (by omega)) ⟨by rw [E.2.2.2]; exact (show (rmN 188).frames + 1 ≤ (rmN 200).frames by decide), by rw [E.2.2.2]; exact (show 8 + (mNL (miB 188) + 11) + (rmN 188).locals ≤ (rmN 200).locals by decide), by rw [E.2.2.2]; exact (show 0 + (rmN 188).cells ≤ (rmN 200).cells by decide), by rw [E.2.2.2]; exact (show 0 + (rmN 188).slots ≤ (rmN 200).slots by decide)⟩ (Nat.le_of_ble_eq_true rfl) (fun vv s144 hq => ?_) (fun ee s144 hq => ?_)
    rotate_left
    · obtain ⟨Is144, Fs144, e145, hv, hrs144, hps144⟩ := hq; cases hv
    obtain ⟨Is144, Fs144, e145, hv, hrs144, hps144⟩ := hq
    cases hv
    have Gs144 := fm_ts Fs9 Fs144 (by decide) (by decide)
    have JRLx_s144 : RLx s144 := RLx_fm Fs144 (by decide) JRLx_s9
    have ws144_73 : iI s144 73 = iI s9 73 := fm_i Fs144 (by decide)
    have ws144_74 : iI s144 74 = iI s9 74 := fm_i Fs144 (by decide)
    have ws144_77 : iI s144 77 = iI s9 77 := fm_i Fs144 (by decide)
    have ws144_75 : iI s144 75 = iI s9 75 := fm_i Fs144 (by decide)
    have ws144_79 : iI s144 79 = iI s9 79 := fm_i Fs144 (by decide)
    have ws144_78 : iI s144 78 = iI s9 78 := fm_i Fs144 (by decide)
    have ws144_90 : iI s144 90 = iI s9 90 := fm_i Fs144 (by decide)
    have ws144_91 : iI s144 91 = iI s9 91 := fm_i Fs144 (by decide)
    show WS k 29 [(0, .ref (A 179)), (1, .int (Int32.ofInt x))] [.int (Int32.ofInt e145), .ref (A 179)] (Wd A dT s144) 0 0
    refine z_if_ne X (t := 36) (show cdA 200 29 = some (.ifCond .ne 7, 3, 1, 0, 0) from rfl) (by decide) ⟨by omega, by omega⟩ (fun g146 => ?_) (fun g146 => ?_)
    ·
      refine z_const X (show cdA 200 36 = some (.iconst 0, 1, 0, 0, 0) from rfl) ?_
      refine z_const X (show cdA 200 37 = some (.iconst 1, 1, 0, 0, 0) from rfl) ?_
      refine z_callV X 179 (rm := rmN 187) (As := [.int (Int32.ofInt 0), .int (Int32.ofInt 1)]) (st := []) (show cdA 200 38 = some (.invokevirtual 229, 3, 187, 0, 0) from rfl) rfl (by decide) rfl (by rw [E.1, E.2.1, E.2.2.1]; exact k_bad G Is144 (by omega) (by omega)) ⟨by rw [E.2.2.2]; exact (show (rmN 187).frames + 1 ≤ (rmN 200).frames by decide), by rw [E.2.2.2]; exact (show 8 + (mNL (miB 187) + 11) + (rmN 187).locals ≤ (rmN 200).locals by decide), by rw [E.2.2.2]; exact (show 0 + (rmN 187).cells ≤ (rmN 200).cells by decide), by rw [E.2.2.2]; exact (show 0 + (rmN 187).slots ≤ (rmN 200).slots by decide)⟩ (Nat.le_of_ble_eq_true rfl) (fun vv s147 hq => ?_) (fun ee s147 hq => ?_)
      rotate_left
      · obtain ⟨Is147, Fs147, e148, hv, hrs147, hps147⟩ := hq; cases hv
      obtain ⟨Is147, Fs147, e148, hv, hrs147, hps147⟩ := hq
      cases hv
      have Gs147 := fm_ts Gs144 Fs147 (by decide) (by decide)
      have JRLx_s147 : RLx s147 := RLx_fm Fs147 (by decide) JRLx_s144
      have b149 : (0 : Int) ≤ iI s147 73 ∧ iI s147 73 ≤ 3 := Is147.1 73
      have ws147_74 : iI s147 74 = iI s144 74 := fm_i Fs147 (by decide)
      have ws147_77 : iI s147 77 = iI s144 77 := fm_i Fs147 (by decide)
      have ws147_75 : iI s147 75 = iI s144 75 := fm_i Fs147 (by decide)
      have ws147_79 : iI s147 79 = iI s144 79 := fm_i Fs147 (by decide)
      have ws147_78 : iI s147 78 = iI s144 78 := fm_i Fs147 (by decide)
      have ws147_90 : iI s147 90 = iI s144 90 := fm_i Fs147 (by decide)
      have ws147_91 : iI s147 91 = iI s144 91 := fm_i Fs147 (by decide)
      show WS k 41 [(0, .ref (A 179)), (1, .int (Int32.ofInt x))] [.int (Int32.ofInt e148)] (Wd A dT s147) 0 0
      refine z_if_eq X (t := 46) (show cdA 200 41 = some (.ifCond .eq 5, 3, 0, 0, 0) from rfl) (by decide) ⟨by omega, by omega⟩ (fun g150 => ?_) (fun g150 => ?_)
      ·
        refine z_aload_n X (x := A 179) (show cdA 200 46 = some (.aload_n 0, 1, 0, 0, 0) from rfl) (List.Mem.head _) ?_
        refine z_const X (show cdA 200 47 = some (.iconst 0, 1, 0, 0, 0) from rfl) ?_
        refine s_putI X 179 (show cdA 200 48 = some (.putfield 175, 3, 12, 1, 0) from rfl) (by decide) rfl rfl (by decide) rfl rfl rfl ?_
        obtain ⟨s151, hs151⟩ : ∃ x0, x0 = uI s147 74 (Int32.ofInt 0) := ⟨_, rfl⟩
        rw [← hs151]
        have Is151 : Bd s151 := by rw [hs151]; exact bd_I Is147 (show (0 : Int) ≤ 0 ∧ 0 ≤ 200 by omega) ⟨by omega, by omega⟩
        have Fs151 := fm_I (x := Int32.ofInt 0) Gs147 (show 74 ∈ _ by decide)
        rw [← hs151] at Fs151
        have vs151 : iI s151 74 = 0 := by rw [hs151]; exact iI_u ⟨by omega, by omega⟩
        have ws151_73 : iI s151 73 = iI s147 73 := by rw [hs151]; rfl
        have ws151_77 : iI s151 77 = iI s147 77 := by rw [hs151]; rfl
        have ws151_75 : iI s151 75 = iI s147 75 := by rw [hs151]; rfl
        have ws151_79 : iI s151 79 = iI s147 79 := by rw [hs151]; rfl
        have ws151_78 : iI s151 78 = iI s147 78 := by rw [hs151]; rfl
        have ws151_90 : iI s151 90 = iI s147 90 := by rw [hs151]; rfl
        have ws151_91 : iI s151 91 = iI s147 91 := by rw [hs151]; rfl
        have fs151 : Fm [74] [] s147 s151 := by rw [hs151]; exact fm_I (fm_rf _ _ _) (show 74 ∈ _ by decide)
        have JRLx_s151 : RLx s151 := RLx_fm fs151 (by decide) JRLx_s147
        refine z_aload_n X (x := A 179) (show cdA 200 51 = some (.aload_n 0, 1, 0, 0, 0) from rfl) (List.Mem.head _) ?_
        refine z_const X (show cdA 200 52 = some (.iconst (-1), 1, 0, 0, 0) from rfl) ?_
        refine s_putI X 179 (show cdA 200 53 = some (.putfield 9, 3, 12, 3, 0) from rfl) (by decide) rfl rfl (by decide) rfl rfl rfl ?_
        obtain ⟨s152, hs152⟩ : ∃ x0, x0 = uI s151 76 (Int32.ofInt (-1)) := ⟨_, rfl⟩
        rw [← hs152]
        have Is152 : Bd s152 := by rw [hs152]; exact bd_I Is151 (show ((-1) : Int) ≤ (-1) ∧ (-1) ≤ 400 by omega) ⟨by omega, by omega⟩
        have Fs152 := fm_I (x := Int32.ofInt (-1)) Fs151 (show 76 ∈ _ by decide)
        rw [← hs152] at Fs152
        have vs152 : iI s152 76 = (-1) := by rw [hs152]; exact iI_u ⟨by omega, by omega⟩
        have ws152_73 : iI s152 73 = iI s151 73 := by rw [hs152]; rfl
        have ws152_74 : iI s152 74 = iI s151 74 := by rw [hs152]; rfl
        have ws152_77 : iI s152 77 = iI s151 77 := by rw [hs152]; rfl
        have ws152_75 : iI s152 75 = iI s151 75 := by rw [hs152]; rfl
        have ws152_79 : iI s152 79 = iI s151 79 := by rw [hs152]; rfl
        have ws152_78 : iI s152 78 = iI s151 78 := by rw [hs152]; rfl
        have ws152_90 : iI s152 90 = iI s151 90 := by rw [hs152]; rfl
        have ws152_91 : iI s152 91 = iI s151 91 := by rw [hs152]; rfl
        have fs152 : Fm [76] [] s151 s152 := by rw [hs152]; exact fm_I (fm_rf _ _ _) (show 76 ∈ _ by decide)
        have JRLx_s152 : RLx s152 := RLx_fm fs152 (by decide) JRLx_s151
        refine z_aload_n X (x := A 179) (show cdA 200 56 = some (.aload_n 0, 1, 0, 0, 0) from rfl) (List.Mem.head _) ?_
        refine z_getI X 179 (show cdA 200 57 = some (.getfield 233, 3, 12, 22, 0) from rfl) (by decide) rfl rfl ?_
        have b153 : (0 : Int) ≤ iI s152 90 ∧ iI s152 90 ≤ 12 := Is152.1 90
        refine z_bipush X (show cdA 200 60 = some (.bipush 12, 2, 0, 0, 12) from rfl) ?_
        refine z_icmp_ne X (t := 67) (show cdA 200 62 = some (.if_icmp .ne 5, 3, 1, 0, 0) from rfl) (by decide) ⟨by omega, by omega⟩ ⟨by omega, by omega⟩ (fun g154 => ?_) (fun g154 => ?_)
        ·
          refine z_aload_n X (x := A 179) (show cdA 200 67 = some (.aload_n 0, 1, 0, 0, 0) from rfl) (List.Mem.head _) ?_
          refine z_load_n X (x := x) (show cdA 200 68 = some (.iload_n 1, 1, 0, 0, 0) from rfl) (List.Mem.tail _ (List.Mem.head _)) ?_
          refine z_callV X 179 (rm := rmN 197) (As := [.int (Int32.ofInt x)]) (st := []) (show cdA 200 69 = some (.invokevirtual 236, 3, 197, 0, 0) from rfl) rfl (by decide) rfl (by rw [E.1, E.2.1, E.2.2.1]; exact k_beginText G Is152 (by omega)) ⟨by rw [E.2.2.2]; exact (show (rmN 197).frames + 1 ≤ (rmN 200).frames by decide), by rw [E.2.2.2]; exact (show 8 + (mNL (miB 197) + 11) + (rmN 197).locals ≤ (rmN 200).locals by decide), by rw [E.2.2.2]; exact (show 0 + (rmN 197).cells ≤ (rmN 200).cells by decide), by rw [E.2.2.2]; exact (show 0 + (rmN 197).slots ≤ (rmN 200).slots by decide)⟩ (Nat.le_of_ble_eq_true rfl) (fun vv s155 hq => ?_) (fun ee s155 hq => ?_)
          rotate_left
          · obtain ⟨Is155, Fs155, hv, hps155⟩ := hq; cases hv
          obtain ⟨Is155, Fs155, hv, hps155⟩ := hq
          cases hv
          have Gs155 := fm_ts Fs152 Fs155 (by decide) (by decide)
          have JRLx_s155 : RLx s155 := RLx_fm Fs155 (by decide) JRLx_s152
          have ws155_73 : iI s155 73 = iI s152 73 := fm_i Fs155 (by decide)
          have ws155_74 : iI s155 74 = iI s152 74 := fm_i Fs155 (by decide)
          have b157 : (0 : Int) ≤ iI s155 77 ∧ iI s155 77 ≤ 400 := Is155.1 77
          have b158 : (0 : Int) ≤ iI s155 75 ∧ iI s155 75 ≤ 200 := Is155.1 75
          have b159 : (0 : Int) ≤ iI s155 79 ∧ iI s155 79 ≤ 9 := Is155.1 79
          have b160 : (0 : Int) ≤ iI s155 78 ∧ iI s155 78 ≤ 8 := Is155.1 78
          have ws155_90 : iI s155 90 = iI s152 90 := fm_i Fs155 (by decide)
          have ws155_91 : iI s155 91 = iI s152 91 := fm_i Fs155 (by decide)
          show WS k 72 [(0, .ref (A 179)), (1, .int (Int32.ofInt x))] [] (Wd A dT s155) 0 0
          refine z_aload_n X (x := A 179) (show cdA 200 72 = some (.aload_n 0, 1, 0, 0, 0) from rfl) (List.Mem.head _) ?_
          refine z_const X (show cdA 200 73 = some (.iconst 1, 1, 0, 0, 0) from rfl) ?_
          refine s_putI X 179 (show cdA 200 74 = some (.putfield 216, 3, 12, 27, 0) from rfl) (by decide) rfl rfl (by decide) rfl rfl rfl ?_
          obtain ⟨s161, hs161⟩ : ∃ x0, x0 = uI s155 91 (Int32.ofInt 1) := ⟨_, rfl⟩
          rw [← hs161]
          have Is161 : Bd s161 := by rw [hs161]; exact bd_I Is155 (show (0 : Int) ≤ 1 ∧ 1 ≤ 24 by omega) ⟨by omega, by omega⟩
          have Fs161 := fm_I (x := Int32.ofInt 1) Gs155 (show 91 ∈ _ by decide)
          rw [← hs161] at Fs161
          have vs161 : iI s161 91 = 1 := by rw [hs161]; exact iI_u ⟨by omega, by omega⟩
          have ws161_73 : iI s161 73 = iI s155 73 := by rw [hs161]; rfl
          have ws161_74 : iI s161 74 = iI s155 74 := by rw [hs161]; rfl
          have ws161_77 : iI s161 77 = iI s155 77 := by rw [hs161]; rfl
          have ws161_75 : iI s161 75 = iI s155 75 := by rw [hs161]; rfl
          have ws161_79 : iI s161 79 = iI s155 79 := by rw [hs161]; rfl
          have ws161_78 : iI s161 78 = iI s155 78 := by rw [hs161]; rfl
          have ws161_90 : iI s161 90 = iI s155 90 := by rw [hs161]; rfl
          have fs161 : Fm [91] [] s155 s161 := by rw [hs161]; exact fm_I (fm_rf _ _ _) (show 91 ∈ _ by decide)
          have JRLx_s161 : RLx s161 := RLx_fm fs161 (by decide) JRLx_s155
          refine z_aload_n X (x := A 179) (show cdA 200 77 = some (.aload_n 0, 1, 0, 0, 0) from rfl) (List.Mem.head _) ?_
          refine s_getR X 179 (show cdA 200 78 = some (.getfield 44, 3, 12, 26, 0) from rfl) (by decide) rfl rfl ?_
          refine z_const X (show cdA 200 81 = some (.iconst 0, 1, 0, 0, 0) from rfl) ?_
          refine z_aload_n X (x := A 179) (show cdA 200 82 = some (.aload_n 0, 1, 0, 0, 0) from rfl) (List.Mem.head _) ?_
          refine z_const X (show cdA 200 83 = some (.iconst 0, 1, 0, 0, 0) from rfl) ?_
          refine z_bipush X (show cdA 200 84 = some (.bipush 127, 2, 0, 0, 127) from rfl) ?_
          refine z_callV X 179 (rm := rmN 196) (As := [.int (Int32.ofInt 0), .int (Int32.ofInt 127)]) (st := [.int (Int32.ofInt 0), .ref (A 188)]) (show cdA 200 86 = some (.invokevirtual 219, 3, 196, 0, 0) from rfl) rfl (by decide) rfl (by rw [E.1, E.2.1, E.2.2.1]; exact k_number G Is161 (by omega) (by omega) (by omega)) ⟨by rw [E.2.2.2]; exact (show (rmN 196).frames + 1 ≤ (rmN 200).frames by decide), by rw [E.2.2.2]; exact (show 8 + (mNL (miB 196) + 11) + (rmN 196).locals ≤ (rmN 200).locals by decide), by rw [E.2.2.2]; exact (show 0 + (rmN 196).cells ≤ (rmN 200).cells by decide), by rw [E.2.2.2]; exact (show 0 + (rmN 196).slots ≤ (rmN 200).slots by decide)⟩ (Nat.le_of_ble_eq_true rfl) (fun vv s162 hq => ?_) (fun ee s162 hq => ?_)
          rotate_left
          · obtain ⟨Is162, Fs162, e163, hv, hrs162, hps162⟩ := hq; cases hv
          obtain ⟨Is162, Fs162, e163, hv, hrs162, hps162⟩ := hq
          cases hv
          have Gs162 := fm_ts Fs161 Fs162 (by decide) (by decide)
          have JRLx_s162 : RLx s162 := RLx_fm Fs162 (by decide) JRLx_s161
          have ws162_73 : iI s162 73 = iI s161 73 := fm_i Fs162 (by decide)
          have ws162_74 : iI s162 74 = iI s161 74 := fm_i Fs162 (by decide)
          have b164 : (0 : Int) ≤ iI s162 77 ∧ iI s162 77 ≤ 400 := Is162.1 77
          have ws162_75 : iI s162 75 = iI s161 75 := fm_i Fs162 (by decide)
          have b165 : (0 : Int) ≤ iI s162 79 ∧ iI s162 79 ≤ 9 := Is162.1 79
          have ws162_78 : iI s162 78 = iI s161 78 := fm_i Fs162 (by decide)
          have ws162_90 : iI s162 90 = iI s161 90 := fm_i Fs162 (by decide)
          have ws162_91 : iI s162 91 = iI s161 91 := fm_i Fs162 (by decide)
          show WS k 89 [(0, .ref (A 179)), (1, .int (Int32.ofInt x))] [.int (Int32.ofInt e163), .int (Int32.ofInt 0), .ref (A 188)] (Wd A dT s162) 0 0
          refine z_ast X 188 (show cdA 200 89 = some (.iastore, 1, 0, 0, 0) from rfl) (by decide) rfl (by omega) (show 0 < 24 by omega) (by decide) ?_
          obtain ⟨s166, hs166⟩ : ∃ x0, x0 = uC s162 165 (0 : Int).toNat (Int32.ofInt e163) := ⟨_, rfl⟩
          rw [← hs166]
          have Is166 : Bd s166 := by rw [hs166]; exact bd_C Is162 (show ((-2147483648) : Int) ≤ e163 ∧ e163 ≤ 2147483647 by omega) ⟨by omega, by omega⟩
          have Fs166 := fm_C (i := (0 : Int).toNat) (x := Int32.ofInt e163) Gs162 (show 165 ∈ _ by decide)
          rw [← hs166] at Fs166
          have ws166_73 : iI s166 73 = iI s162 73 := by rw [hs166]; rfl
          have ws166_74 : iI s166 74 = iI s162 74 := by rw [hs166]; rfl
          have ws166_77 : iI s166 77 = iI s162 77 := by rw [hs166]; rfl
          have ws166_75 : iI s166 75 = iI s162 75 := by rw [hs166]; rfl
          have ws166_79 : iI s166 79 = iI s162 79 := by rw [hs166]; rfl
          have ws166_78 : iI s166 78 = iI s162 78 := by rw [hs166]; rfl
          have ws166_90 : iI s166 90 = iI s162 90 := by rw [hs166]; rfl
          have ws166_91 : iI s166 91 = iI s162 91 := by rw [hs166]; rfl
          have fs166 : Fm [] [165] s162 s166 := by rw [hs166]; exact fm_C (fm_rf _ _ _) (show 165 ∈ _ by decide)
          have JRLx_s166 : RLx s166 := RLx_fm fs166 (by decide) JRLx_s162
          refine z_aload_n X (x := A 179) (show cdA 200 90 = some (.aload_n 0, 1, 0, 0, 0) from rfl) (List.Mem.head _) ?_
          refine z_callV X 179 (rm := rmN 193) (As := []) (st := []) (show cdA 200 91 = some (.invokevirtual 197, 3, 193, 0, 0) from rfl) rfl (by decide) rfl (by rw [E.1, E.2.1, E.2.2.1]; exact k_blanks G Is166 (by omega)) ⟨by rw [E.2.2.2]; exact (show (rmN 193).frames + 1 ≤ (rmN 200).frames by decide), by rw [E.2.2.2]; exact (show 8 + (mNL (miB 193) + 11) + (rmN 193).locals ≤ (rmN 200).locals by decide), by rw [E.2.2.2]; exact (show 0 + (rmN 193).cells ≤ (rmN 200).cells by decide), by rw [E.2.2.2]; exact (show 0 + (rmN 193).slots ≤ (rmN 200).slots by decide)⟩ (Nat.le_of_ble_eq_true rfl) (fun vv s167 hq => ?_) (fun ee s167 hq => ?_)
          rotate_left
          · obtain ⟨Is167, Fs167, hv, hps167⟩ := hq; cases hv
          obtain ⟨Is167, Fs167, hv, hps167⟩ := hq
          cases hv
          have Gs167 := fm_ts Fs166 Fs167 (by decide) (by decide)
          have JRLx_s167 : RLx s167 := RLx_fm Fs167 (by decide) JRLx_s166
          have ws167_73 : iI s167 73 = iI s166 73 := fm_i Fs167 (by decide)
          have ws167_74 : iI s167 74 = iI s166 74 := fm_i Fs167 (by decide)
          have b169 : (0 : Int) ≤ iI s167 77 ∧ iI s167 77 ≤ 400 := Is167.1 77
          have ws167_75 : iI s167 75 = iI s166 75 := fm_i Fs167 (by decide)
          have ws167_79 : iI s167 79 = iI s166 79 := fm_i Fs167 (by decide)
          have ws167_78 : iI s167 78 = iI s166 78 := fm_i Fs167 (by decide)
          have ws167_90 : iI s167 90 = iI s166 90 := fm_i Fs167 (by decide)
          have ws167_91 : iI s167 91 = iI s166 91 := fm_i Fs167 (by decide)
          show WS k 94 [(0, .ref (A 179)), (1, .int (Int32.ofInt x))] [] (Wd A dT s167) 0 0
          refine WS_lv (lv := [(0, .ref (A 179)), (1, .int (Int32.ofInt x))]) (List.forall_mem_cons.mpr ⟨(List.Mem.head _), (List.forall_mem_cons.mpr ⟨(List.Mem.tail _ (List.Mem.head _)), (fun q h => absurd h List.not_mem_nil)⟩)⟩) ?_
          have hD171 : TDF s167 := fun hz i hi => by
            have e0 : iI s167 91 = 1 := by omega
            have e1 : i = 0 := by omega
            subst e1
            rw [fm_c Fs167 (by decide), hs166]
            show 0 ≤ iC (uC s162 165 (0 : Int).toNat (Int32.ofInt e163)) 165 (0 : Int).toNat ∧ iC (uC s162 165 (0 : Int).toNat (Int32.ofInt e163)) 165 (0 : Int).toNat ≤ 127
            rw [iC_u ⟨by omega, by omega⟩]
            omega
          refine L94 ((400 - iI s167 77 + (9 - iI s167 79) : Int)).toNat s167 x Is167 Gs167 JRLx_s167 hD171 (by omega) (by omega) ?_
          intro s170  Is170 Fs170 JRLx_s170 Qs170 hs170
          have b172 : (0 : Int) ≤ iI s170 73 ∧ iI s170 73 ≤ 3 := Is170.1 73
          have b173 : (0 : Int) ≤ iI s170 74 ∧ iI s170 74 ≤ 200 := Is170.1 74
          have b174 : (0 : Int) ≤ iI s170 77 ∧ iI s170 77 ≤ 400 := Is170.1 77
          have b175 : (0 : Int) ≤ iI s170 75 ∧ iI s170 75 ≤ 200 := Is170.1 75
          have b176 : (0 : Int) ≤ iI s170 79 ∧ iI s170 79 ≤ 9 := Is170.1 79
          have b177 : (0 : Int) ≤ iI s170 78 ∧ iI s170 78 ≤ 8 := Is170.1 78
          have b178 : (0 : Int) ≤ iI s170 90 ∧ iI s170 90 ≤ 12 := Is170.1 90
          have b179 : (0 : Int) ≤ iI s170 91 ∧ iI s170 91 ≤ 24 := Is170.1 91
          have hTDF : TDF s170 := Qs170
          refine z_aload_n X (x := A 179) (show cdA 200 123 = some (.aload_n 0, 1, 0, 0, 0) from rfl) (List.Mem.head _) ?_
          refine z_aload_n X (x := A 179) (show cdA 200 124 = some (.aload_n 0, 1, 0, 0, 0) from rfl) (List.Mem.head _) ?_
          refine z_getI X 179 (show cdA 200 125 = some (.getfield 194, 3, 12, 7, 0) from rfl) (by decide) rfl rfl ?_
          have b180 : ((-1) : Int) ≤ iI s170 80 ∧ iI s170 80 ≤ 400 := Is170.1 80
          refine s_putI X 179 (show cdA 200 128 = some (.putfield 9, 3, 12, 3, 0) from rfl) (by decide) rfl rfl (by decide) rfl rfl rfl ?_
          obtain ⟨s181, hs181⟩ : ∃ x0, x0 = uI s170 76 (Int32.ofInt (iI s170 80)) := ⟨_, rfl⟩
          rw [← hs181]
          have Is181 : Bd s181 := by rw [hs181]; exact bd_I Is170 (show ((-1) : Int) ≤ (iI s170 80) ∧ (iI s170 80) ≤ 400 by omega) ⟨by omega, by omega⟩
          have Fs181 := fm_I (x := Int32.ofInt (iI s170 80)) Fs170 (show 76 ∈ _ by decide)
          rw [← hs181] at Fs181
          have vs181 : iI s181 76 = (iI s170 80) := by rw [hs181]; exact iI_u ⟨by omega, by omega⟩
          have ws181_73 : iI s181 73 = iI s170 73 := by rw [hs181]; rfl
          have ws181_74 : iI s181 74 = iI s170 74 := by rw [hs181]; rfl
          have ws181_77 : iI s181 77 = iI s170 77 := by rw [hs181]; rfl
          have ws181_75 : iI s181 75 = iI s170 75 := by rw [hs181]; rfl
          have ws181_79 : iI s181 79 = iI s170 79 := by rw [hs181]; rfl
          have ws181_78 : iI s181 78 = iI s170 78 := by rw [hs181]; rfl
          have ws181_90 : iI s181 90 = iI s170 90 := by rw [hs181]; rfl
          have ws181_91 : iI s181 91 = iI s170 91 := by rw [hs181]; rfl
          have fs181 : Fm [76] [] s170 s181 := by rw [hs181]; exact fm_I (fm_rf _ _ _) (show 76 ∈ _ by decide)
          have JRLx_s181 : RLx s181 := RLx_fm fs181 (by decide) JRLx_s170
          have hTDF2 : TDF s181 := fun z => TD_fm fs181 (by decide) (hTDF (by omega))
          refine z_aload_n X (x := A 179) (show cdA 200 131 = some (.aload_n 0, 1, 0, 0, 0) from rfl) (List.Mem.head _) ?_
          refine z_getI X 179 (show cdA 200 132 = some (.getfield 191, 3, 12, 6, 0) from rfl) (by decide) rfl rfl ?_
          have b182 : (0 : Int) ≤ iI s181 79 ∧ iI s181 79 ≤ 9 := Is181.1 79
          refine z_if_eq X (t := 146) (show cdA 200 135 = some (.ifCond .eq 11, 3, 0, 0, 0) from rfl) (by decide) ⟨by omega, by omega⟩ (fun g183 => ?_) (fun g183 => ?_)
          ·
            have JTD_s181 : TD s181 := hTDF2 (by omega)
            refine z_aload_n X (x := A 179) (show cdA 200 146 = some (.aload_n 0, 1, 0, 0, 0) from rfl) (List.Mem.head _) ?_
            refine s_getR X 179 (show cdA 200 147 = some (.getfield 35, 3, 12, 23, 0) from rfl) (by decide) rfl rfl ?_
            refine z_aload_n X (x := A 179) (show cdA 200 150 = some (.aload_n 0, 1, 0, 0, 0) from rfl) (List.Mem.head _) ?_
            refine z_getI X 179 (show cdA 200 151 = some (.getfield 233, 3, 12, 22, 0) from rfl) (by decide) rfl rfl ?_
            have b184 : (0 : Int) ≤ iI s181 90 ∧ iI s181 90 ≤ 12 := Is181.1 90
            refine z_aload_n X (x := A 179) (show cdA 200 154 = some (.aload_n 0, 1, 0, 0, 0) from rfl) (List.Mem.head _) ?_
            refine z_getI X 179 (show cdA 200 155 = some (.getfield 216, 3, 12, 27, 0) from rfl) (by decide) rfl rfl ?_
            have b185 : (0 : Int) ≤ iI s181 91 ∧ iI s181 91 ≤ 24 := Is181.1 91
            refine z_ast X 185 (show cdA 200 158 = some (.iastore, 1, 0, 0, 0) from rfl) (by decide) rfl (by omega) (show (iI s181 90) < 12 by omega) (by decide) ?_
            obtain ⟨s186, hs186⟩ : ∃ x0, x0 = uC s181 162 ((iI s181 90)).toNat (Int32.ofInt (iI s181 91)) := ⟨_, rfl⟩
            rw [← hs186]
            have Is186 : Bd s186 := by rw [hs186]; exact bd_C Is181 (show (0 : Int) ≤ (iI s181 91) ∧ (iI s181 91) ≤ 24 by omega) ⟨by omega, by omega⟩
            have Fs186 := fm_C (i := ((iI s181 90)).toNat) (x := Int32.ofInt (iI s181 91)) Fs181 (show 162 ∈ _ by decide)
            rw [← hs186] at Fs186
            have ws186_73 : iI s186 73 = iI s181 73 := by rw [hs186]; rfl
            have ws186_74 : iI s186 74 = iI s181 74 := by rw [hs186]; rfl
            have ws186_77 : iI s186 77 = iI s181 77 := by rw [hs186]; rfl
            have ws186_75 : iI s186 75 = iI s181 75 := by rw [hs186]; rfl
            have ws186_79 : iI s186 79 = iI s181 79 := by rw [hs186]; rfl
            have ws186_78 : iI s186 78 = iI s181 78 := by rw [hs186]; rfl
            have ws186_90 : iI s186 90 = iI s181 90 := by rw [hs186]; rfl
            have ws186_91 : iI s186 91 = iI s181 91 := by rw [hs186]; rfl
            have fs186 : Fm [] [162] s181 s186 := by rw [hs186]; exact fm_C (fm_rf _ _ _) (show 162 ∈ _ by decide)
            have JTD_s186 : TD s186 := TD_fm fs186 (by decide) JTD_s181
            have es_s186 : iI s181 90 = iI s 90 := by omega
            have JRLx_s186 : RLx s186 := by rw [hs186]; exact RLx_m JRLx_s181 (by omega)
            have vm_s186 : iC s186 162 (iI s 90 : Int).toNat = iI s181 91 := by rw [hs186, es_s186, iC_u ⟨by omega, by omega⟩]
            refine z_const X (show cdA 200 159 = some (.iconst 0, 1, 0, 0, 0) from rfl) ?_
            refine z_store_n X (lv' := [(2, .int (Int32.ofInt 0)), (0, .ref (A 179)), (1, .int (Int32.ofInt x))]) (show cdA 200 160 = some (.istore_n 2, 1, 0, 0, 0) from rfl) (by decide) (fun _ h => h) ?_
            refine WS_lv (lv := [(0, .ref (A 179)), (1, .int (Int32.ofInt x)), (2, .int (Int32.ofInt 0))]) (List.forall_mem_cons.mpr ⟨(List.Mem.tail _ (List.Mem.head _)), (List.forall_mem_cons.mpr ⟨(List.Mem.tail _ (List.Mem.tail _ (List.Mem.head _))), (List.forall_mem_cons.mpr ⟨(List.Mem.head _), (fun q h => absurd h List.not_mem_nil)⟩)⟩)⟩) ?_
            refine L161 ((128 - 0 : Int)).toNat s186 x 0 Is186 Fs186 JRLx_s186 ⟨JTD_s186, JRLx_s186, fun i _ h => absurd h (by omega)⟩ (by omega) (by omega) ?_
            intro s187 x188 Is187 Fs187 JRLx_s187 Qs187 hs187
            have b189 : (0 : Int) ≤ iI s187 73 ∧ iI s187 73 ≤ 3 := Is187.1 73
            have b190 : (0 : Int) ≤ iI s187 74 ∧ iI s187 74 ≤ 200 := Is187.1 74
            have b191 : (0 : Int) ≤ iI s187 77 ∧ iI s187 77 ≤ 400 := Is187.1 77
            have b192 : (0 : Int) ≤ iI s187 75 ∧ iI s187 75 ≤ 200 := Is187.1 75
            have b193 : (0 : Int) ≤ iI s187 79 ∧ iI s187 79 ≤ 9 := Is187.1 79
            have b194 : (0 : Int) ≤ iI s187 78 ∧ iI s187 78 ≤ 8 := Is187.1 78
            have b195 : (0 : Int) ≤ iI s187 90 ∧ iI s187 90 ≤ 12 := Is187.1 90
            have b196 : (0 : Int) ≤ iI s187 91 ∧ iI s187 91 ≤ 24 := Is187.1 91
            refine z_const X (show cdA 200 186 = some (.iconst 0, 1, 0, 0, 0) from rfl) ?_
            refine z_store_n X (lv' := [(2, .int (Int32.ofInt 0)), (0, .ref (A 179)), (1, .int (Int32.ofInt x))]) (show cdA 200 187 = some (.istore_n 2, 1, 0, 0, 0) from rfl) (by decide) (fun _ h => h) ?_
            refine WS_lv (lv := [(0, .ref (A 179)), (1, .int (Int32.ofInt x)), (2, .int (Int32.ofInt 0))]) (List.forall_mem_cons.mpr ⟨(List.Mem.tail _ (List.Mem.head _)), (List.forall_mem_cons.mpr ⟨(List.Mem.tail _ (List.Mem.tail _ (List.Mem.head _))), (List.forall_mem_cons.mpr ⟨(List.Mem.head _), (fun q h => absurd h List.not_mem_nil)⟩)⟩)⟩) ?_
            refine L188 ((24 - 0 : Int)).toNat s187 x 0 Is187 Fs187 JRLx_s187 ⟨Qs187.1, Qs187.2.1, fun i hi _ => Qs187.2.2 i hi (by omega)⟩ (by omega) (by omega) ?_
            intro s197 x198 Is197 Fs197 JRLx_s197 Qs197 hs197
            have b199 : (0 : Int) ≤ iI s197 73 ∧ iI s197 73 ≤ 3 := Is197.1 73
            have b200 : (0 : Int) ≤ iI s197 74 ∧ iI s197 74 ≤ 200 := Is197.1 74
            have b201 : (0 : Int) ≤ iI s197 77 ∧ iI s197 77 ≤ 400 := Is197.1 77
            have b202 : (0 : Int) ≤ iI s197 75 ∧ iI s197 75 ≤ 200 := Is197.1 75
            have b203 : (0 : Int) ≤ iI s197 79 ∧ iI s197 79 ≤ 9 := Is197.1 79
            have b204 : (0 : Int) ≤ iI s197 78 ∧ iI s197 78 ≤ 8 := Is197.1 78
            have b205 : (0 : Int) ≤ iI s197 90 ∧ iI s197 90 ≤ 12 := Is197.1 90
            have b206 : (0 : Int) ≤ iI s197 91 ∧ iI s197 91 ≤ 24 := Is197.1 91
            refine z_aload_n X (x := A 179) (show cdA 200 236 = some (.aload_n 0, 1, 0, 0, 0) from rfl) (List.Mem.head _) ?_
            refine w_dup X.1 (ax_d X (show cdA 200 237 = some (.dup, 1, 0, 0, 0) from rfl)) rfl ?_
            refine z_getI X 179 (show cdA 200 238 = some (.getfield 233, 3, 12, 22, 0) from rfl) (by decide) rfl rfl ?_
            have b207 : (0 : Int) ≤ iI s197 90 ∧ iI s197 90 ≤ 12 := Is197.1 90
            refine z_const X (show cdA 200 241 = some (.iconst 1, 1, 0, 0, 0) from rfl) ?_
            refine z_add X (show cdA 200 242 = some (.iadd, 1, 0, 0, 0) from rfl) ?_
            refine s_putI X 179 (show cdA 200 243 = some (.putfield 233, 3, 12, 22, 0) from rfl) (by decide) rfl rfl (by decide) rfl rfl rfl ?_
            obtain ⟨s208, hs208⟩ : ∃ x0, x0 = uI s197 90 (Int32.ofInt ((iI s197 90) + 1)) := ⟨_, rfl⟩
            rw [← hs208]
            have Is208 : Bd s208 := by rw [hs208]; exact bd_I Is197 (show (0 : Int) ≤ ((iI s197 90) + 1) ∧ ((iI s197 90) + 1) ≤ 12 by omega) ⟨by omega, by omega⟩
            have Fs208 := fm_I (x := Int32.ofInt ((iI s197 90) + 1)) Fs197 (show 90 ∈ _ by decide)
            rw [← hs208] at Fs208
            have vs208 : iI s208 90 = ((iI s197 90) + 1) := by rw [hs208]; exact iI_u ⟨by omega, by omega⟩
            have ws208_73 : iI s208 73 = iI s197 73 := by rw [hs208]; rfl
            have ws208_74 : iI s208 74 = iI s197 74 := by rw [hs208]; rfl
            have ws208_77 : iI s208 77 = iI s197 77 := by rw [hs208]; rfl
            have ws208_75 : iI s208 75 = iI s197 75 := by rw [hs208]; rfl
            have ws208_79 : iI s208 79 = iI s197 79 := by rw [hs208]; rfl
            have ws208_78 : iI s208 78 = iI s197 78 := by rw [hs208]; rfl
            have ws208_91 : iI s208 91 = iI s197 91 := by rw [hs208]; rfl
            have fs208 : Fm [90] [] s197 s208 := by rw [hs208]; exact fm_I (fm_rf _ _ _) (show 90 ∈ _ by decide)
            have JTD_s208 : TD s208 := TD_fm fs208 (by decide) Qs197.1
            have JRLx_s208 : RLx s208 := by
              rw [hs208]
              exact RLx_up Qs197.2.1 rfl (by omega) (by rw [show iI s197 90 = iI s 90 by omega]; omega) (fun i hi => by rw [show iI s197 90 = iI s 90 by omega]; exact Qs197.2.2 i hi (by omega))
            refine z_aload_n X (x := A 179) (show cdA 200 246 = some (.aload_n 0, 1, 0, 0, 0) from rfl) (List.Mem.head _) ?_
            refine z_getI X 179 (show cdA 200 247 = some (.getfield 233, 3, 12, 22, 0) from rfl) (by decide) rfl rfl ?_
            have b209 : (0 : Int) ≤ iI s208 90 ∧ iI s208 90 ≤ 12 := Is208.1 90
            refine z_const X (show cdA 200 250 = some (.iconst 1, 1, 0, 0, 0) from rfl) ?_
            refine z_sub X (show cdA 200 251 = some (.isub, 1, 0, 0, 0) from rfl) ?_
            exact w_iret X.1 q hRt rfl (ax_d X (show cdA 200 252 = some (.ireturn, 1, 0, 0, 0) from rfl)) (Nat.zero_le _) (Nat.zero_le _) ⟨_, rfl, Is208, Fs208, JRLx_s208, ((iI s208 90) - 1), rfl, ⟨by omega, by omega⟩, by omega⟩
          ·
            refine z_aload_n X (x := A 179) (show cdA 200 138 = some (.aload_n 0, 1, 0, 0, 0) from rfl) (List.Mem.head _) ?_
            refine z_getI X 179 (show cdA 200 139 = some (.getfield 191, 3, 12, 6, 0) from rfl) (by decide) rfl rfl ?_
            have b210 : (0 : Int) ≤ iI s181 79 ∧ iI s181 79 ≤ 9 := Is181.1 79
            refine z_bipush X (show cdA 200 142 = some (.bipush 10, 2, 0, 0, 10) from rfl) ?_
            refine z_sub X (show cdA 200 144 = some (.isub, 1, 0, 0, 0) from rfl) ?_
            exact w_iret X.1 q hRt rfl (ax_d X (show cdA 200 145 = some (.ireturn, 1, 0, 0, 0) from rfl)) (Nat.zero_le _) (Nat.zero_le _) ⟨_, rfl, Is181, Fs181, JRLx_s181, ((iI s181 79) - 10), rfl, ⟨by omega, by omega⟩, by omega⟩
        ·
          refine z_const X (show cdA 200 65 = some (.iconst (-1), 1, 0, 0, 0) from rfl) ?_
          exact w_iret X.1 q hRt rfl (ax_d X (show cdA 200 66 = some (.ireturn, 1, 0, 0, 0) from rfl)) (Nat.zero_le _) (Nat.zero_le _) ⟨_, rfl, Is152, Fs152, JRLx_s152, (-1), rfl, ⟨by omega, by omega⟩, by omega⟩
      ·
        refine z_const X (show cdA 200 44 = some (.iconst 0, 1, 0, 0, 0) from rfl) ?_
        exact w_iret X.1 q hRt rfl (ax_d X (show cdA 200 45 = some (.ireturn, 1, 0, 0, 0) from rfl)) (Nat.zero_le _) (Nat.zero_le _) ⟨_, rfl, Is147, Gs147, JRLx_s147, 0, rfl, ⟨by omega, by omega⟩, by omega⟩
    ·
      refine z_const X (show cdA 200 32 = some (.iconst 1, 1, 0, 0, 0) from rfl) ?_
      refine z_goto X (t := 37) (show cdA 200 33 = some (.goto 4, 3, 0, 0, 0) from rfl) (by decide) ?_
      refine z_const X (show cdA 200 37 = some (.iconst 1, 1, 0, 0, 0) from rfl) ?_
      refine z_callV X 179 (rm := rmN 187) (As := [.int (Int32.ofInt 1), .int (Int32.ofInt 1)]) (st := []) (show cdA 200 38 = some (.invokevirtual 229, 3, 187, 0, 0) from rfl) rfl (by decide) rfl (by rw [E.1, E.2.1, E.2.2.1]; exact k_bad G Is144 (by omega) (by omega)) ⟨by rw [E.2.2.2]; exact (show (rmN 187).frames + 1 ≤ (rmN 200).frames by decide), by rw [E.2.2.2]; exact (show 8 + (mNL (miB 187) + 11) + (rmN 187).locals ≤ (rmN 200).locals by decide), by rw [E.2.2.2]; exact (show 0 + (rmN 187).cells ≤ (rmN 200).cells by decide), by rw [E.2.2.2]; exact (show 0 + (rmN 187).slots ≤ (rmN 200).slots by decide)⟩ (Nat.le_of_ble_eq_true rfl) (fun vv s211 hq => ?_) (fun ee s211 hq => ?_)
      rotate_left
      · obtain ⟨Is211, Fs211, e212, hv, hrs211, hps211⟩ := hq; cases hv
      obtain ⟨Is211, Fs211, e212, hv, hrs211, hps211⟩ := hq
      cases hv
      have Gs211 := fm_ts Gs144 Fs211 (by decide) (by decide)
      have JRLx_s211 : RLx s211 := RLx_fm Fs211 (by decide) JRLx_s144
      have b213 : (0 : Int) ≤ iI s211 73 ∧ iI s211 73 ≤ 3 := Is211.1 73
      have ws211_74 : iI s211 74 = iI s144 74 := fm_i Fs211 (by decide)
      have ws211_77 : iI s211 77 = iI s144 77 := fm_i Fs211 (by decide)
      have ws211_75 : iI s211 75 = iI s144 75 := fm_i Fs211 (by decide)
      have ws211_79 : iI s211 79 = iI s144 79 := fm_i Fs211 (by decide)
      have ws211_78 : iI s211 78 = iI s144 78 := fm_i Fs211 (by decide)
      have ws211_90 : iI s211 90 = iI s144 90 := fm_i Fs211 (by decide)
      have ws211_91 : iI s211 91 = iI s144 91 := fm_i Fs211 (by decide)
      show WS k 41 [(0, .ref (A 179)), (1, .int (Int32.ofInt x))] [.int (Int32.ofInt e212)] (Wd A dT s211) 0 0
      refine z_if_eq X (t := 46) (show cdA 200 41 = some (.ifCond .eq 5, 3, 0, 0, 0) from rfl) (by decide) ⟨by omega, by omega⟩ (fun g214 => ?_) (fun g214 => ?_)
      ·
        refine z_aload_n X (x := A 179) (show cdA 200 46 = some (.aload_n 0, 1, 0, 0, 0) from rfl) (List.Mem.head _) ?_
        refine z_const X (show cdA 200 47 = some (.iconst 0, 1, 0, 0, 0) from rfl) ?_
        refine s_putI X 179 (show cdA 200 48 = some (.putfield 175, 3, 12, 1, 0) from rfl) (by decide) rfl rfl (by decide) rfl rfl rfl ?_
        obtain ⟨s215, hs215⟩ : ∃ x0, x0 = uI s211 74 (Int32.ofInt 0) := ⟨_, rfl⟩
        rw [← hs215]
        have Is215 : Bd s215 := by rw [hs215]; exact bd_I Is211 (show (0 : Int) ≤ 0 ∧ 0 ≤ 200 by omega) ⟨by omega, by omega⟩
        have Fs215 := fm_I (x := Int32.ofInt 0) Gs211 (show 74 ∈ _ by decide)
        rw [← hs215] at Fs215
        have vs215 : iI s215 74 = 0 := by rw [hs215]; exact iI_u ⟨by omega, by omega⟩
        have ws215_73 : iI s215 73 = iI s211 73 := by rw [hs215]; rfl
        have ws215_77 : iI s215 77 = iI s211 77 := by rw [hs215]; rfl
        have ws215_75 : iI s215 75 = iI s211 75 := by rw [hs215]; rfl
        have ws215_79 : iI s215 79 = iI s211 79 := by rw [hs215]; rfl
        have ws215_78 : iI s215 78 = iI s211 78 := by rw [hs215]; rfl
        have ws215_90 : iI s215 90 = iI s211 90 := by rw [hs215]; rfl
        have ws215_91 : iI s215 91 = iI s211 91 := by rw [hs215]; rfl
        have fs215 : Fm [74] [] s211 s215 := by rw [hs215]; exact fm_I (fm_rf _ _ _) (show 74 ∈ _ by decide)
        have JRLx_s215 : RLx s215 := RLx_fm fs215 (by decide) JRLx_s211
        refine z_aload_n X (x := A 179) (show cdA 200 51 = some (.aload_n 0, 1, 0, 0, 0) from rfl) (List.Mem.head _) ?_
        refine z_const X (show cdA 200 52 = some (.iconst (-1), 1, 0, 0, 0) from rfl) ?_
        refine s_putI X 179 (show cdA 200 53 = some (.putfield 9, 3, 12, 3, 0) from rfl) (by decide) rfl rfl (by decide) rfl rfl rfl ?_
        obtain ⟨s216, hs216⟩ : ∃ x0, x0 = uI s215 76 (Int32.ofInt (-1)) := ⟨_, rfl⟩
        rw [← hs216]
        have Is216 : Bd s216 := by rw [hs216]; exact bd_I Is215 (show ((-1) : Int) ≤ (-1) ∧ (-1) ≤ 400 by omega) ⟨by omega, by omega⟩
        have Fs216 := fm_I (x := Int32.ofInt (-1)) Fs215 (show 76 ∈ _ by decide)
        rw [← hs216] at Fs216
        have vs216 : iI s216 76 = (-1) := by rw [hs216]; exact iI_u ⟨by omega, by omega⟩
        have ws216_73 : iI s216 73 = iI s215 73 := by rw [hs216]; rfl
        have ws216_74 : iI s216 74 = iI s215 74 := by rw [hs216]; rfl
        have ws216_77 : iI s216 77 = iI s215 77 := by rw [hs216]; rfl
        have ws216_75 : iI s216 75 = iI s215 75 := by rw [hs216]; rfl
        have ws216_79 : iI s216 79 = iI s215 79 := by rw [hs216]; rfl
        have ws216_78 : iI s216 78 = iI s215 78 := by rw [hs216]; rfl
        have ws216_90 : iI s216 90 = iI s215 90 := by rw [hs216]; rfl
        have ws216_91 : iI s216 91 = iI s215 91 := by rw [hs216]; rfl
        have fs216 : Fm [76] [] s215 s216 := by rw [hs216]; exact fm_I (fm_rf _ _ _) (show 76 ∈ _ by decide)
        have JRLx_s216 : RLx s216 := RLx_fm fs216 (by decide) JRLx_s215
        refine z_aload_n X (x := A 179) (show cdA 200 56 = some (.aload_n 0, 1, 0, 0, 0) from rfl) (List.Mem.head _) ?_
        refine z_getI X 179 (show cdA 200 57 = some (.getfield 233, 3, 12, 22, 0) from rfl) (by decide) rfl rfl ?_
        have b217 : (0 : Int) ≤ iI s216 90 ∧ iI s216 90 ≤ 12 := Is216.1 90
        refine z_bipush X (show cdA 200 60 = some (.bipush 12, 2, 0, 0, 12) from rfl) ?_
        refine z_icmp_ne X (t := 67) (show cdA 200 62 = some (.if_icmp .ne 5, 3, 1, 0, 0) from rfl) (by decide) ⟨by omega, by omega⟩ ⟨by omega, by omega⟩ (fun g218 => ?_) (fun g218 => ?_)
        ·
          refine z_aload_n X (x := A 179) (show cdA 200 67 = some (.aload_n 0, 1, 0, 0, 0) from rfl) (List.Mem.head _) ?_
          refine z_load_n X (x := x) (show cdA 200 68 = some (.iload_n 1, 1, 0, 0, 0) from rfl) (List.Mem.tail _ (List.Mem.head _)) ?_
          refine z_callV X 179 (rm := rmN 197) (As := [.int (Int32.ofInt x)]) (st := []) (show cdA 200 69 = some (.invokevirtual 236, 3, 197, 0, 0) from rfl) rfl (by decide) rfl (by rw [E.1, E.2.1, E.2.2.1]; exact k_beginText G Is216 (by omega)) ⟨by rw [E.2.2.2]; exact (show (rmN 197).frames + 1 ≤ (rmN 200).frames by decide), by rw [E.2.2.2]; exact (show 8 + (mNL (miB 197) + 11) + (rmN 197).locals ≤ (rmN 200).locals by decide), by rw [E.2.2.2]; exact (show 0 + (rmN 197).cells ≤ (rmN 200).cells by decide), by rw [E.2.2.2]; exact (show 0 + (rmN 197).slots ≤ (rmN 200).slots by decide)⟩ (Nat.le_of_ble_eq_true rfl) (fun vv s219 hq => ?_) (fun ee s219 hq => ?_)
          rotate_left
          · obtain ⟨Is219, Fs219, hv, hps219⟩ := hq; cases hv
          obtain ⟨Is219, Fs219, hv, hps219⟩ := hq
          cases hv
          have Gs219 := fm_ts Fs216 Fs219 (by decide) (by decide)
          have JRLx_s219 : RLx s219 := RLx_fm Fs219 (by decide) JRLx_s216
          have ws219_73 : iI s219 73 = iI s216 73 := fm_i Fs219 (by decide)
          have ws219_74 : iI s219 74 = iI s216 74 := fm_i Fs219 (by decide)
          have b221 : (0 : Int) ≤ iI s219 77 ∧ iI s219 77 ≤ 400 := Is219.1 77
          have b222 : (0 : Int) ≤ iI s219 75 ∧ iI s219 75 ≤ 200 := Is219.1 75
          have b223 : (0 : Int) ≤ iI s219 79 ∧ iI s219 79 ≤ 9 := Is219.1 79
          have b224 : (0 : Int) ≤ iI s219 78 ∧ iI s219 78 ≤ 8 := Is219.1 78
          have ws219_90 : iI s219 90 = iI s216 90 := fm_i Fs219 (by decide)
          have ws219_91 : iI s219 91 = iI s216 91 := fm_i Fs219 (by decide)
          show WS k 72 [(0, .ref (A 179)), (1, .int (Int32.ofInt x))] [] (Wd A dT s219) 0 0
          refine z_aload_n X (x := A 179) (show cdA 200 72 = some (.aload_n 0, 1, 0, 0, 0) from rfl) (List.Mem.head _) ?_
          refine z_const X (show cdA 200 73 = some (.iconst 1, 1, 0, 0, 0) from rfl) ?_
          refine s_putI X 179 (show cdA 200 74 = some (.putfield 216, 3, 12, 27, 0) from rfl) (by decide) rfl rfl (by decide) rfl rfl rfl ?_
          obtain ⟨s225, hs225⟩ : ∃ x0, x0 = uI s219 91 (Int32.ofInt 1) := ⟨_, rfl⟩
          rw [← hs225]
          have Is225 : Bd s225 := by rw [hs225]; exact bd_I Is219 (show (0 : Int) ≤ 1 ∧ 1 ≤ 24 by omega) ⟨by omega, by omega⟩
          have Fs225 := fm_I (x := Int32.ofInt 1) Gs219 (show 91 ∈ _ by decide)
          rw [← hs225] at Fs225
          have vs225 : iI s225 91 = 1 := by rw [hs225]; exact iI_u ⟨by omega, by omega⟩
          have ws225_73 : iI s225 73 = iI s219 73 := by rw [hs225]; rfl
          have ws225_74 : iI s225 74 = iI s219 74 := by rw [hs225]; rfl
          have ws225_77 : iI s225 77 = iI s219 77 := by rw [hs225]; rfl
          have ws225_75 : iI s225 75 = iI s219 75 := by rw [hs225]; rfl
          have ws225_79 : iI s225 79 = iI s219 79 := by rw [hs225]; rfl
          have ws225_78 : iI s225 78 = iI s219 78 := by rw [hs225]; rfl
          have ws225_90 : iI s225 90 = iI s219 90 := by rw [hs225]; rfl
          have fs225 : Fm [91] [] s219 s225 := by rw [hs225]; exact fm_I (fm_rf _ _ _) (show 91 ∈ _ by decide)
          have JRLx_s225 : RLx s225 := RLx_fm fs225 (by decide) JRLx_s219
          refine z_aload_n X (x := A 179) (show cdA 200 77 = some (.aload_n 0, 1, 0, 0, 0) from rfl) (List.Mem.head _) ?_
          refine s_getR X 179 (show cdA 200 78 = some (.getfield 44, 3, 12, 26, 0) from rfl) (by decide) rfl rfl ?_
          refine z_const X (show cdA 200 81 = some (.iconst 0, 1, 0, 0, 0) from rfl) ?_
          refine z_aload_n X (x := A 179) (show cdA 200 82 = some (.aload_n 0, 1, 0, 0, 0) from rfl) (List.Mem.head _) ?_
          refine z_const X (show cdA 200 83 = some (.iconst 0, 1, 0, 0, 0) from rfl) ?_
          refine z_bipush X (show cdA 200 84 = some (.bipush 127, 2, 0, 0, 127) from rfl) ?_
          refine z_callV X 179 (rm := rmN 196) (As := [.int (Int32.ofInt 0), .int (Int32.ofInt 127)]) (st := [.int (Int32.ofInt 0), .ref (A 188)]) (show cdA 200 86 = some (.invokevirtual 219, 3, 196, 0, 0) from rfl) rfl (by decide) rfl (by rw [E.1, E.2.1, E.2.2.1]; exact k_number G Is225 (by omega) (by omega) (by omega)) ⟨by rw [E.2.2.2]; exact (show (rmN 196).frames + 1 ≤ (rmN 200).frames by decide), by rw [E.2.2.2]; exact (show 8 + (mNL (miB 196) + 11) + (rmN 196).locals ≤ (rmN 200).locals by decide), by rw [E.2.2.2]; exact (show 0 + (rmN 196).cells ≤ (rmN 200).cells by decide), by rw [E.2.2.2]; exact (show 0 + (rmN 196).slots ≤ (rmN 200).slots by decide)⟩ (Nat.le_of_ble_eq_true rfl) (fun vv s226 hq => ?_) (fun ee s226 hq => ?_)
          rotate_left
          · obtain ⟨Is226, Fs226, e227, hv, hrs226, hps226⟩ := hq; cases hv
          obtain ⟨Is226, Fs226, e227, hv, hrs226, hps226⟩ := hq
          cases hv
          have Gs226 := fm_ts Fs225 Fs226 (by decide) (by decide)
          have JRLx_s226 : RLx s226 := RLx_fm Fs226 (by decide) JRLx_s225
          have ws226_73 : iI s226 73 = iI s225 73 := fm_i Fs226 (by decide)
          have ws226_74 : iI s226 74 = iI s225 74 := fm_i Fs226 (by decide)
          have b228 : (0 : Int) ≤ iI s226 77 ∧ iI s226 77 ≤ 400 := Is226.1 77
          have ws226_75 : iI s226 75 = iI s225 75 := fm_i Fs226 (by decide)
          have b229 : (0 : Int) ≤ iI s226 79 ∧ iI s226 79 ≤ 9 := Is226.1 79
          have ws226_78 : iI s226 78 = iI s225 78 := fm_i Fs226 (by decide)
          have ws226_90 : iI s226 90 = iI s225 90 := fm_i Fs226 (by decide)
          have ws226_91 : iI s226 91 = iI s225 91 := fm_i Fs226 (by decide)
          show WS k 89 [(0, .ref (A 179)), (1, .int (Int32.ofInt x))] [.int (Int32.ofInt e227), .int (Int32.ofInt 0), .ref (A 188)] (Wd A dT s226) 0 0
          refine z_ast X 188 (show cdA 200 89 = some (.iastore, 1, 0, 0, 0) from rfl) (by decide) rfl (by omega) (show 0 < 24 by omega) (by decide) ?_
          obtain ⟨s230, hs230⟩ : ∃ x0, x0 = uC s226 165 (0 : Int).toNat (Int32.ofInt e227) := ⟨_, rfl⟩
          rw [← hs230]
          have Is230 : Bd s230 := by rw [hs230]; exact bd_C Is226 (show ((-2147483648) : Int) ≤ e227 ∧ e227 ≤ 2147483647 by omega) ⟨by omega, by omega⟩
          have Fs230 := fm_C (i := (0 : Int).toNat) (x := Int32.ofInt e227) Gs226 (show 165 ∈ _ by decide)
          rw [← hs230] at Fs230
          have ws230_73 : iI s230 73 = iI s226 73 := by rw [hs230]; rfl
          have ws230_74 : iI s230 74 = iI s226 74 := by rw [hs230]; rfl
          have ws230_77 : iI s230 77 = iI s226 77 := by rw [hs230]; rfl
          have ws230_75 : iI s230 75 = iI s226 75 := by rw [hs230]; rfl
          have ws230_79 : iI s230 79 = iI s226 79 := by rw [hs230]; rfl
          have ws230_78 : iI s230 78 = iI s226 78 := by rw [hs230]; rfl
          have ws230_90 : iI s230 90 = iI s226 90 := by rw [hs230]; rfl
          have ws230_91 : iI s230 91 = iI s226 91 := by rw [hs230]; rfl
          have fs230 : Fm [] [165] s226 s230 := by rw [hs230]; exact fm_C (fm_rf _ _ _) (show 165 ∈ _ by decide)
          have JRLx_s230 : RLx s230 := RLx_fm fs230 (by decide) JRLx_s226
          refine z_aload_n X (x := A 179) (show cdA 200 90 = some (.aload_n 0, 1, 0, 0, 0) from rfl) (List.Mem.head _) ?_
          refine z_callV X 179 (rm := rmN 193) (As := []) (st := []) (show cdA 200 91 = some (.invokevirtual 197, 3, 193, 0, 0) from rfl) rfl (by decide) rfl (by rw [E.1, E.2.1, E.2.2.1]; exact k_blanks G Is230 (by omega)) ⟨by rw [E.2.2.2]; exact (show (rmN 193).frames + 1 ≤ (rmN 200).frames by decide), by rw [E.2.2.2]; exact (show 8 + (mNL (miB 193) + 11) + (rmN 193).locals ≤ (rmN 200).locals by decide), by rw [E.2.2.2]; exact (show 0 + (rmN 193).cells ≤ (rmN 200).cells by decide), by rw [E.2.2.2]; exact (show 0 + (rmN 193).slots ≤ (rmN 200).slots by decide)⟩ (Nat.le_of_ble_eq_true rfl) (fun vv s231 hq => ?_) (fun ee s231 hq => ?_)
          rotate_left
          · obtain ⟨Is231, Fs231, hv, hps231⟩ := hq; cases hv
          obtain ⟨Is231, Fs231, hv, hps231⟩ := hq
          cases hv
          have Gs231 := fm_ts Fs230 Fs231 (by decide) (by decide)
          have JRLx_s231 : RLx s231 := RLx_fm Fs231 (by decide) JRLx_s230
          have ws231_73 : iI s231 73 = iI s230 73 := fm_i Fs231 (by decide)
          have ws231_74 : iI s231 74 = iI s230 74 := fm_i Fs231 (by decide)
          have b233 : (0 : Int) ≤ iI s231 77 ∧ iI s231 77 ≤ 400 := Is231.1 77
          have ws231_75 : iI s231 75 = iI s230 75 := fm_i Fs231 (by decide)
          have ws231_79 : iI s231 79 = iI s230 79 := fm_i Fs231 (by decide)
          have ws231_78 : iI s231 78 = iI s230 78 := fm_i Fs231 (by decide)
          have ws231_90 : iI s231 90 = iI s230 90 := fm_i Fs231 (by decide)
          have ws231_91 : iI s231 91 = iI s230 91 := fm_i Fs231 (by decide)
          show WS k 94 [(0, .ref (A 179)), (1, .int (Int32.ofInt x))] [] (Wd A dT s231) 0 0
          refine WS_lv (lv := [(0, .ref (A 179)), (1, .int (Int32.ofInt x))]) (List.forall_mem_cons.mpr ⟨(List.Mem.head _), (List.forall_mem_cons.mpr ⟨(List.Mem.tail _ (List.Mem.head _)), (fun q h => absurd h List.not_mem_nil)⟩)⟩) ?_
          have hD235 : TDF s231 := fun hz i hi => by
            have e0 : iI s231 91 = 1 := by omega
            have e1 : i = 0 := by omega
            subst e1
            rw [fm_c Fs231 (by decide), hs230]
            show 0 ≤ iC (uC s226 165 (0 : Int).toNat (Int32.ofInt e227)) 165 (0 : Int).toNat ∧ iC (uC s226 165 (0 : Int).toNat (Int32.ofInt e227)) 165 (0 : Int).toNat ≤ 127
            rw [iC_u ⟨by omega, by omega⟩]
            omega
          refine L94 ((400 - iI s231 77 + (9 - iI s231 79) : Int)).toNat s231 x Is231 Gs231 JRLx_s231 hD235 (by omega) (by omega) ?_
          intro s234  Is234 Fs234 JRLx_s234 Qs234 hs234
          have b236 : (0 : Int) ≤ iI s234 73 ∧ iI s234 73 ≤ 3 := Is234.1 73
          have b237 : (0 : Int) ≤ iI s234 74 ∧ iI s234 74 ≤ 200 := Is234.1 74
          have b238 : (0 : Int) ≤ iI s234 77 ∧ iI s234 77 ≤ 400 := Is234.1 77
          have b239 : (0 : Int) ≤ iI s234 75 ∧ iI s234 75 ≤ 200 := Is234.1 75
          have b240 : (0 : Int) ≤ iI s234 79 ∧ iI s234 79 ≤ 9 := Is234.1 79
          have b241 : (0 : Int) ≤ iI s234 78 ∧ iI s234 78 ≤ 8 := Is234.1 78
          have b242 : (0 : Int) ≤ iI s234 90 ∧ iI s234 90 ≤ 12 := Is234.1 90
          have b243 : (0 : Int) ≤ iI s234 91 ∧ iI s234 91 ≤ 24 := Is234.1 91
          have hTDF : TDF s234 := Qs234
          refine z_aload_n X (x := A 179) (show cdA 200 123 = some (.aload_n 0, 1, 0, 0, 0) from rfl) (List.Mem.head _) ?_
          refine z_aload_n X (x := A 179) (show cdA 200 124 = some (.aload_n 0, 1, 0, 0, 0) from rfl) (List.Mem.head _) ?_
          refine z_getI X 179 (show cdA 200 125 = some (.getfield 194, 3, 12, 7, 0) from rfl) (by decide) rfl rfl ?_
          have b244 : ((-1) : Int) ≤ iI s234 80 ∧ iI s234 80 ≤ 400 := Is234.1 80
          refine s_putI X 179 (show cdA 200 128 = some (.putfield 9, 3, 12, 3, 0) from rfl) (by decide) rfl rfl (by decide) rfl rfl rfl ?_
          obtain ⟨s245, hs245⟩ : ∃ x0, x0 = uI s234 76 (Int32.ofInt (iI s234 80)) := ⟨_, rfl⟩
          rw [← hs245]
          have Is245 : Bd s245 := by rw [hs245]; exact bd_I Is234 (show ((-1) : Int) ≤ (iI s234 80) ∧ (iI s234 80) ≤ 400 by omega) ⟨by omega, by omega⟩
          have Fs245 := fm_I (x := Int32.ofInt (iI s234 80)) Fs234 (show 76 ∈ _ by decide)
          rw [← hs245] at Fs245
          have vs245 : iI s245 76 = (iI s234 80) := by rw [hs245]; exact iI_u ⟨by omega, by omega⟩
          have ws245_73 : iI s245 73 = iI s234 73 := by rw [hs245]; rfl
          have ws245_74 : iI s245 74 = iI s234 74 := by rw [hs245]; rfl
          have ws245_77 : iI s245 77 = iI s234 77 := by rw [hs245]; rfl
          have ws245_75 : iI s245 75 = iI s234 75 := by rw [hs245]; rfl
          have ws245_79 : iI s245 79 = iI s234 79 := by rw [hs245]; rfl
          have ws245_78 : iI s245 78 = iI s234 78 := by rw [hs245]; rfl
          have ws245_90 : iI s245 90 = iI s234 90 := by rw [hs245]; rfl
          have ws245_91 : iI s245 91 = iI s234 91 := by rw [hs245]; rfl
          have fs245 : Fm [76] [] s234 s245 := by rw [hs245]; exact fm_I (fm_rf _ _ _) (show 76 ∈ _ by decide)
          have JRLx_s245 : RLx s245 := RLx_fm fs245 (by decide) JRLx_s234
          have hTDF2 : TDF s245 := fun z => TD_fm fs245 (by decide) (hTDF (by omega))
          refine z_aload_n X (x := A 179) (show cdA 200 131 = some (.aload_n 0, 1, 0, 0, 0) from rfl) (List.Mem.head _) ?_
          refine z_getI X 179 (show cdA 200 132 = some (.getfield 191, 3, 12, 6, 0) from rfl) (by decide) rfl rfl ?_
          have b246 : (0 : Int) ≤ iI s245 79 ∧ iI s245 79 ≤ 9 := Is245.1 79
          refine z_if_eq X (t := 146) (show cdA 200 135 = some (.ifCond .eq 11, 3, 0, 0, 0) from rfl) (by decide) ⟨by omega, by omega⟩ (fun g247 => ?_) (fun g247 => ?_)
          ·
            have JTD_s245 : TD s245 := hTDF2 (by omega)
            refine z_aload_n X (x := A 179) (show cdA 200 146 = some (.aload_n 0, 1, 0, 0, 0) from rfl) (List.Mem.head _) ?_
            refine s_getR X 179 (show cdA 200 147 = some (.getfield 35, 3, 12, 23, 0) from rfl) (by decide) rfl rfl ?_
            refine z_aload_n X (x := A 179) (show cdA 200 150 = some (.aload_n 0, 1, 0, 0, 0) from rfl) (List.Mem.head _) ?_
            refine z_getI X 179 (show cdA 200 151 = some (.getfield 233, 3, 12, 22, 0) from rfl) (by decide) rfl rfl ?_
            have b248 : (0 : Int) ≤ iI s245 90 ∧ iI s245 90 ≤ 12 := Is245.1 90
            refine z_aload_n X (x := A 179) (show cdA 200 154 = some (.aload_n 0, 1, 0, 0, 0) from rfl) (List.Mem.head _) ?_
            refine z_getI X 179 (show cdA 200 155 = some (.getfield 216, 3, 12, 27, 0) from rfl) (by decide) rfl rfl ?_
            have b249 : (0 : Int) ≤ iI s245 91 ∧ iI s245 91 ≤ 24 := Is245.1 91
            refine z_ast X 185 (show cdA 200 158 = some (.iastore, 1, 0, 0, 0) from rfl) (by decide) rfl (by omega) (show (iI s245 90) < 12 by omega) (by decide) ?_
            obtain ⟨s250, hs250⟩ : ∃ x0, x0 = uC s245 162 ((iI s245 90)).toNat (Int32.ofInt (iI s245 91)) := ⟨_, rfl⟩
            rw [← hs250]
            have Is250 : Bd s250 := by rw [hs250]; exact bd_C Is245 (show (0 : Int) ≤ (iI s245 91) ∧ (iI s245 91) ≤ 24 by omega) ⟨by omega, by omega⟩
            have Fs250 := fm_C (i := ((iI s245 90)).toNat) (x := Int32.ofInt (iI s245 91)) Fs245 (show 162 ∈ _ by decide)
            rw [← hs250] at Fs250
            have ws250_73 : iI s250 73 = iI s245 73 := by rw [hs250]; rfl
            have ws250_74 : iI s250 74 = iI s245 74 := by rw [hs250]; rfl
            have ws250_77 : iI s250 77 = iI s245 77 := by rw [hs250]; rfl
            have ws250_75 : iI s250 75 = iI s245 75 := by rw [hs250]; rfl
            have ws250_79 : iI s250 79 = iI s245 79 := by rw [hs250]; rfl
            have ws250_78 : iI s250 78 = iI s245 78 := by rw [hs250]; rfl
            have ws250_90 : iI s250 90 = iI s245 90 := by rw [hs250]; rfl
            have ws250_91 : iI s250 91 = iI s245 91 := by rw [hs250]; rfl
            have fs250 : Fm [] [162] s245 s250 := by rw [hs250]; exact fm_C (fm_rf _ _ _) (show 162 ∈ _ by decide)
            have JTD_s250 : TD s250 := TD_fm fs250 (by decide) JTD_s245
            have es_s250 : iI s245 90 = iI s 90 := by omega
            have JRLx_s250 : RLx s250 := by rw [hs250]; exact RLx_m JRLx_s245 (by omega)
            have vm_s250 : iC s250 162 (iI s 90 : Int).toNat = iI s245 91 := by rw [hs250, es_s250, iC_u ⟨by omega, by omega⟩]
            refine z_const X (show cdA 200 159 = some (.iconst 0, 1, 0, 0, 0) from rfl) ?_
            refine z_store_n X (lv' := [(2, .int (Int32.ofInt 0)), (0, .ref (A 179)), (1, .int (Int32.ofInt x))]) (show cdA 200 160 = some (.istore_n 2, 1, 0, 0, 0) from rfl) (by decide) (fun _ h => h) ?_
            refine WS_lv (lv := [(0, .ref (A 179)), (1, .int (Int32.ofInt x)), (2, .int (Int32.ofInt 0))]) (List.forall_mem_cons.mpr ⟨(List.Mem.tail _ (List.Mem.head _)), (List.forall_mem_cons.mpr ⟨(List.Mem.tail _ (List.Mem.tail _ (List.Mem.head _))), (List.forall_mem_cons.mpr ⟨(List.Mem.head _), (fun q h => absurd h List.not_mem_nil)⟩)⟩)⟩) ?_
            refine L161 ((128 - 0 : Int)).toNat s250 x 0 Is250 Fs250 JRLx_s250 ⟨JTD_s250, JRLx_s250, fun i _ h => absurd h (by omega)⟩ (by omega) (by omega) ?_
            intro s251 x252 Is251 Fs251 JRLx_s251 Qs251 hs251
            have b253 : (0 : Int) ≤ iI s251 73 ∧ iI s251 73 ≤ 3 := Is251.1 73
            have b254 : (0 : Int) ≤ iI s251 74 ∧ iI s251 74 ≤ 200 := Is251.1 74
            have b255 : (0 : Int) ≤ iI s251 77 ∧ iI s251 77 ≤ 400 := Is251.1 77
            have b256 : (0 : Int) ≤ iI s251 75 ∧ iI s251 75 ≤ 200 := Is251.1 75
            have b257 : (0 : Int) ≤ iI s251 79 ∧ iI s251 79 ≤ 9 := Is251.1 79
            have b258 : (0 : Int) ≤ iI s251 78 ∧ iI s251 78 ≤ 8 := Is251.1 78
            have b259 : (0 : Int) ≤ iI s251 90 ∧ iI s251 90 ≤ 12 := Is251.1 90
            have b260 : (0 : Int) ≤ iI s251 91 ∧ iI s251 91 ≤ 24 := Is251.1 91
            refine z_const X (show cdA 200 186 = some (.iconst 0, 1, 0, 0, 0) from rfl) ?_
            refine z_store_n X (lv' := [(2, .int (Int32.ofInt 0)), (0, .ref (A 179)), (1, .int (Int32.ofInt x))]) (show cdA 200 187 = some (.istore_n 2, 1, 0, 0, 0) from rfl) (by decide) (fun _ h => h) ?_
            refine WS_lv (lv := [(0, .ref (A 179)), (1, .int (Int32.ofInt x)), (2, .int (Int32.ofInt 0))]) (List.forall_mem_cons.mpr ⟨(List.Mem.tail _ (List.Mem.head _)), (List.forall_mem_cons.mpr ⟨(List.Mem.tail _ (List.Mem.tail _ (List.Mem.head _))), (List.forall_mem_cons.mpr ⟨(List.Mem.head _), (fun q h => absurd h List.not_mem_nil)⟩)⟩)⟩) ?_
            refine L188 ((24 - 0 : Int)).toNat s251 x 0 Is251 Fs251 JRLx_s251 ⟨Qs251.1, Qs251.2.1, fun i hi _ => Qs251.2.2 i hi (by omega)⟩ (by omega) (by omega) ?_
            intro s261 x262 Is261 Fs261 JRLx_s261 Qs261 hs261
            have b263 : (0 : Int) ≤ iI s261 73 ∧ iI s261 73 ≤ 3 := Is261.1 73
            have b264 : (0 : Int) ≤ iI s261 74 ∧ iI s261 74 ≤ 200 := Is261.1 74
            have b265 : (0 : Int) ≤ iI s261 77 ∧ iI s261 77 ≤ 400 := Is261.1 77
            have b266 : (0 : Int) ≤ iI s261 75 ∧ iI s261 75 ≤ 200 := Is261.1 75
            have b267 : (0 : Int) ≤ iI s261 79 ∧ iI s261 79 ≤ 9 := Is261.1 79
            have b268 : (0 : Int) ≤ iI s261 78 ∧ iI s261 78 ≤ 8 := Is261.1 78
            have b269 : (0 : Int) ≤ iI s261 90 ∧ iI s261 90 ≤ 12 := Is261.1 90
            have b270 : (0 : Int) ≤ iI s261 91 ∧ iI s261 91 ≤ 24 := Is261.1 91
            refine z_aload_n X (x := A 179) (show cdA 200 236 = some (.aload_n 0, 1, 0, 0, 0) from rfl) (List.Mem.head _) ?_
            refine w_dup X.1 (ax_d X (show cdA 200 237 = some (.dup, 1, 0, 0, 0) from rfl)) rfl ?_
            refine z_getI X 179 (show cdA 200 238 = some (.getfield 233, 3, 12, 22, 0) from rfl) (by decide) rfl rfl ?_
            have b271 : (0 : Int) ≤ iI s261 90 ∧ iI s261 90 ≤ 12 := Is261.1 90
            refine z_const X (show cdA 200 241 = some (.iconst 1, 1, 0, 0, 0) from rfl) ?_
            refine z_add X (show cdA 200 242 = some (.iadd, 1, 0, 0, 0) from rfl) ?_
            refine s_putI X 179 (show cdA 200 243 = some (.putfield 233, 3, 12, 22, 0) from rfl) (by decide) rfl rfl (by decide) rfl rfl rfl ?_
            obtain ⟨s272, hs272⟩ : ∃ x0, x0 = uI s261 90 (Int32.ofInt ((iI s261 90) + 1)) := ⟨_, rfl⟩
            rw [← hs272]
            have Is272 : Bd s272 := by rw [hs272]; exact bd_I Is261 (show (0 : Int) ≤ ((iI s261 90) + 1) ∧ ((iI s261 90) + 1) ≤ 12 by omega) ⟨by omega, by omega⟩
            have Fs272 := fm_I (x := Int32.ofInt ((iI s261 90) + 1)) Fs261 (show 90 ∈ _ by decide)
            rw [← hs272] at Fs272
            have vs272 : iI s272 90 = ((iI s261 90) + 1) := by rw [hs272]; exact iI_u ⟨by omega, by omega⟩
            have ws272_73 : iI s272 73 = iI s261 73 := by rw [hs272]; rfl
            have ws272_74 : iI s272 74 = iI s261 74 := by rw [hs272]; rfl
            have ws272_77 : iI s272 77 = iI s261 77 := by rw [hs272]; rfl
            have ws272_75 : iI s272 75 = iI s261 75 := by rw [hs272]; rfl
            have ws272_79 : iI s272 79 = iI s261 79 := by rw [hs272]; rfl
            have ws272_78 : iI s272 78 = iI s261 78 := by rw [hs272]; rfl
            have ws272_91 : iI s272 91 = iI s261 91 := by rw [hs272]; rfl
            have fs272 : Fm [90] [] s261 s272 := by rw [hs272]; exact fm_I (fm_rf _ _ _) (show 90 ∈ _ by decide)
            have JTD_s272 : TD s272 := TD_fm fs272 (by decide) Qs261.1
            have JRLx_s272 : RLx s272 := by
              rw [hs272]
              exact RLx_up Qs261.2.1 rfl (by omega) (by rw [show iI s261 90 = iI s 90 by omega]; omega) (fun i hi => by rw [show iI s261 90 = iI s 90 by omega]; exact Qs261.2.2 i hi (by omega))
            refine z_aload_n X (x := A 179) (show cdA 200 246 = some (.aload_n 0, 1, 0, 0, 0) from rfl) (List.Mem.head _) ?_
            refine z_getI X 179 (show cdA 200 247 = some (.getfield 233, 3, 12, 22, 0) from rfl) (by decide) rfl rfl ?_
            have b273 : (0 : Int) ≤ iI s272 90 ∧ iI s272 90 ≤ 12 := Is272.1 90
            refine z_const X (show cdA 200 250 = some (.iconst 1, 1, 0, 0, 0) from rfl) ?_
            refine z_sub X (show cdA 200 251 = some (.isub, 1, 0, 0, 0) from rfl) ?_
            exact w_iret X.1 q hRt rfl (ax_d X (show cdA 200 252 = some (.ireturn, 1, 0, 0, 0) from rfl)) (Nat.zero_le _) (Nat.zero_le _) ⟨_, rfl, Is272, Fs272, JRLx_s272, ((iI s272 90) - 1), rfl, ⟨by omega, by omega⟩, by omega⟩
          ·
            refine z_aload_n X (x := A 179) (show cdA 200 138 = some (.aload_n 0, 1, 0, 0, 0) from rfl) (List.Mem.head _) ?_
            refine z_getI X 179 (show cdA 200 139 = some (.getfield 191, 3, 12, 6, 0) from rfl) (by decide) rfl rfl ?_
            have b274 : (0 : Int) ≤ iI s245 79 ∧ iI s245 79 ≤ 9 := Is245.1 79
            refine z_bipush X (show cdA 200 142 = some (.bipush 10, 2, 0, 0, 10) from rfl) ?_
            refine z_sub X (show cdA 200 144 = some (.isub, 1, 0, 0, 0) from rfl) ?_
            exact w_iret X.1 q hRt rfl (ax_d X (show cdA 200 145 = some (.ireturn, 1, 0, 0, 0) from rfl)) (Nat.zero_le _) (Nat.zero_le _) ⟨_, rfl, Is245, Fs245, JRLx_s245, ((iI s245 79) - 10), rfl, ⟨by omega, by omega⟩, by omega⟩
        ·
          refine z_const X (show cdA 200 65 = some (.iconst (-1), 1, 0, 0, 0) from rfl) ?_
          exact w_iret X.1 q hRt rfl (ax_d X (show cdA 200 66 = some (.ireturn, 1, 0, 0, 0) from rfl)) (Nat.zero_le _) (Nat.zero_le _) ⟨_, rfl, Is216, Fs216, JRLx_s216, (-1), rfl, ⟨by omega, by omega⟩, by omega⟩
      ·
        refine z_const X (show cdA 200 44 = some (.iconst 0, 1, 0, 0, 0) from rfl) ?_
        exact w_iret X.1 q hRt rfl (ax_d X (show cdA 200 45 = some (.ireturn, 1, 0, 0, 0) from rfl)) (Nat.zero_le _) (Nat.zero_le _) ⟨_, rfl, Is211, Gs211, JRLx_s211, 0, rfl, ⟨by omega, by omega⟩, by omega⟩
end M55
