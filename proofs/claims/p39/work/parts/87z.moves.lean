theorem oq_816ed005 {a0 a1 : Int} (h0 : a0 = 0) : ((a0 + 1) = 0 → (a1 = 0 ∧ a1 = 0)) := by omega
theorem oq_e0358e06 {a0 a1 a2 : Int} (h0 : a0 = 0) : ((a0 + 1) = 0 → (a1 = 0 ∧ a2 = 0)) := by omega
theorem oq_eca44bbb {a0 a1 a2 : Int} (h0 : 0 ≤ a0) : ((a0 + 1) = 0 → (a1 = 0 ∧ a2 = 0)) := by omega
theorem oq_060ce41d {a0 a1 : Int} (h0 : 0 ≤ a0) : ((a0 + 1) = 0 → (a1 = 0 ∧ a1 = 0)) := by omega
theorem oq_eb0eb426  : (0 = 0 → (0 = 0 ∧ 0 = 0)) := by omega
theorem oq_b797517e {a0 a1 : Int} (h0 : a0 = a1) (h1 : a1 ≤ 127) : a0 < 128 := by omega
theorem oq_fd076cf3 {a0 a1 : Int} (h0 : a0 ≤ 7) (h1 : (-1) ≤ a0) (h2 : a1 ≠ a0) (h3 : a0 ≠ (-1)) (h4 : a1 ≤ 7) (h5 : 0 ≤ a1) : (0 ≤ a0 ∧ a0 ≤ 7) := by omega
theorem oq_32dbbfbd {a0 : Int} (h0 : a0 ≤ 7) (h1 : (-1) ≤ a0) (h2 : a0 ≠ (-1)) : (0 ≤ a0 ∧ a0 ≤ 7) := by omega
theorem oq_78c81c75 {a0 a1 a2 a3 a4 a5 a6 : Int} (h0 : a0 = a1) (h1 : a1 = a2) (h2 : a2 = a3) (h3 : a3 = a4) (h4 : a4 = a5) (h5 : a5 = a6) (h6 : 1 ≤ a6) (h7 : a6 = 1) : a0 = 1 := by omega
/-! The model: cost, the best move -/
section M87z
variable {l : Launch} {s0 : State} {D : va_G} {tys : List (ClassId × FieldType)} {a0 : Array Value} {A : Nat → Nat} {dT : Nat → ClassId} {s : PS}
set_option maxRecDepth 4000 in
theorem k_findPeaks3 (G : GX l s0 D tys a0 dT) {U : AirD} (I : Bd s) (jRLx : RLx s) (jMDJ : MDJ U s) (p0 : iI s 89 = 1) : CT l s0 D A dT 250 (rmN 250) [.ref (A 179)] s (fun o t => Bd t ∧ Fm [77, 75, 78, 79, 80, 81] [202, 204, 205, 206, 207, 208, 209, 210, 211, 212, 213, 214, 215, 216, 217, 218, 219, 220, 221, 222, 223, 224, 225, 226, 227, 203, 161, 230, 233] s t ∧ RLx t ∧ o = .inl none ∧ (FPQ U (pfM s) 8 t)) := by
  refine ct_of G (by decide) (Nat.le_of_ble_eq_true rfl) (fun k X E hRt hXt q => ?_)
  show WS k 0 [(0, .ref (A 179))] [] _ 0 0
  have F : Fm [77, 75, 78, 79, 80, 81] [202, 204, 205, 206, 207, 208, 209, 210, 211, 212, 213, 214, 215, 216, 217, 218, 219, 220, 221, 222, 223, 224, 225, 226, 227, 203, 161, 230, 233] s s := fm_rf _ _ s
  have b1 := bi_89 I
  have L2 : ∀ (n : Nat) (t : PS) (p : Int), Bd t → Fm [77, 75, 78, 79, 80, 81] [202, 204, 205, 206, 207, 208, 209, 210, 211, 212, 213, 214, 215, 216, 217, 218, 219, 220, 221, 222, 223, 224, 225, 226, 227, 203, 161, 230, 233] s t → RLx t → MDJ U t → (FPQ U (pfM s) p t) → (0 ≤ p ∧ p ≤ 8 ∧ iI t 89 = 1) → (8 - p : Int).toNat < n → (∀ (t' : PS) (p' : Int), Bd t' → Fm [77, 75, 78, 79, 80, 81] [202, 204, 205, 206, 207, 208, 209, 210, 211, 212, 213, 214, 215, 216, 217, 218, 219, 220, 221, 222, 223, 224, 225, 226, 227, 203, 161, 230, 233] s t' → RLx t' → MDJ U t' → (FPQ U (pfM s) p' t') → (p' = 8) → WS k 25 [(0, .ref (A 179)), (1, .int (Int32.ofInt p'))] [] (Wd A dT t') 0 0) → WS k 2 [(0, .ref (A 179)), (1, .int (Int32.ofInt p))] [] (Wd A dT t) 0 0 := by
    intro n
    induction n with
    | zero =>
      intro t p I F jjRLx jjMDJ hq hi hm kx
      exact absurd hm (Nat.not_lt_zero _)
    | succ n ih =>
      intro t p I F jjRLx jjMDJ hq hi hm kx
      have b1001 := bi_89 I
      refine z_load_n X (x := p) rfl (List.Mem.tail _ (List.Mem.head _)) (z_bipush X rfl (z_icmp_ge X (t := 25) rfl rfl ⟨by first | exact oq_fa4e5087 hi.1 | omega, by first | exact oq_d3f5d874 hi.2.1 | omega⟩ (by decide) (fun g1002 => ?_) (fun g1002 => ?_)))
      ·
        refine WS_pq [0, 1] (lv' := [(0, .ref (A 179)), (1, .int (Int32.ofInt p))]) rfl ?_
        exact kx _ p I F jjRLx jjMDJ hq (by first | exact oq_73d3719d hi.2.1 g1002 | omega)
      ·
        refine z_aload_n X (x := A 179) rfl (List.Mem.head _) (s_getR X 179 rfl (c518_ok rfl) rfl rfl (z_load_n X (x := p) rfl (List.Mem.tail _ (List.Mem.head _)) (z_aload_n X (x := A 179) rfl (List.Mem.head _) (z_load_n X (x := p) rfl (List.Mem.tail _ (List.Mem.head _)) (zcV_i1 X E 179 (As := [.int (Int32.ofInt p)]) (st := [.int (Int32.ofInt p), .ref (A 261)]) rfl rfl rfl rfl (k_peakPiece3 G I jjRLx jjMDJ (by first | exact ⟨oq_fa4e5087 hi.1, oq_7bea7075 g1002⟩ | omega) (by first | exact hi.2.2 | omega)) rfl (Nat.le_of_ble_eq_true rfl) (fun s1003 e1004 Is1003 Fs1003 JRLx_s1003 hrs1003 hps1003 => ?_))))))
        have Gs1003 := fm_tq F Fs1003 rfl rfl
        have JRLx_s1003 : RLx s1003 := RLx_fm Fs1003 (by decide) jjRLx
        have JMDJ_s1003 : MDJ U s1003 := MDJ_fm Fs1003 (by decide) jjMDJ
        have ws1003_89 : iI s1003 89 = iI t 89 := fm_iq Fs1003 rfl
        have aws1003_233 : SAM 233 t s1003 := sam_ts (sam_rf (a := 233) (s := t)) (sam_fm Fs1003 (by decide))
        refine z_ast X 261 rfl (c518_ok rfl) rfl (by first | exact hi.1 | omega) (show p < 8 by first | exact g1002 | omega) (cbig_ok rfl) (wd_gen (fun s1005 hs1005 => ?_))
        have Is1005 : Bd s1005 := eqB hs1005 (bd_C Is1003 (show ((-2147483648) : Int) ≤ e1004 ∧ e1004 ≤ 2147483647 by omega) hrs1003)
        have Fs1005 := eqF hs1005 (fm_C Gs1003 (inl_ok (a := 233) rfl))
        have ws1005_89 : iI s1005 89 = iI s1003 89 := eqI hs1005 rfl
        have aws1005_233 : UPD 233 (p) e1004 t s1005 := by rw [hs1005]; exact upd_put aws1003_233 hrs1003
        have fs1005 : Fm [] [233] s1003 s1005 := by rw [hs1005]; exact fm_C (fm_rf _ _ _) (show 233 ∈ _ by decide)
        have JRLx_s1005 : RLx s1005 := RLx_fm fs1005 (by decide) JRLx_s1003
        have JMDJ_s1005 : MDJ U s1005 := MDJ_fm fs1005 (by decide) JMDJ_s1003
        refine z_inc X (x := p) (lv' := [(1, .int (Int32.ofInt (p + 1))), (0, .ref (A 179))]) rfl (by decide) (List.Mem.tail _ (List.Mem.head _)) (fun _ h => h) (z_goto X (t := 2) rfl rfl (WS_pq [1, 0] (lv' := [(0, .ref (A 179)), (1, .int (Int32.ofInt (p + 1)))]) rfl ?_))
        exact ih _ (p + 1) Is1005 Fs1005 JRLx_s1005 JMDJ_s1005 (fpq_up hq (by omega) (by rw [← (show pfM t = pfM s from funext (fun j => fm_c F (by decide)))]; exact hps1003) sam_rf aws1005_233) (by first | exact ⟨oq_54f49eb5 hi.1, oq_0c7b19c3 g1002, oq_f34933ba ws1005_89 ws1003_89 hi.2.2 b1001.1⟩ | omega) (by first | exact qk_me hm (by decide) (oq_9f368f35 g1002) | omega) kx
  refine z_const X rfl (z_store_n X (lv' := [(1, .int (Int32.ofInt 0)), (0, .ref (A 179))]) rfl (by decide) (fun _ h => h) (WS_pq [1, 0] (lv' := [(0, .ref (A 179)), (1, .int (Int32.ofInt 0))]) rfl (L2 ((8 - 0 : Int).toNat + 1) s 0 I F jRLx jMDJ (fun p hp => absurd hp (by omega)) (by first | exact ⟨by decide, by decide, p0⟩ | omega) (Nat.lt_succ_self _) ?_)))
  intro s2 x3 Is2 Fs2 JRLx_s2 JMDJ_s2 Qs2 hs2
  have b4 := bi_89 Is2
  exact w_vret X.1 q hRt (ax_d X (show cdA 250 25 = some (.return_, 1, 0, 0, 0) from rfl)) (Nat.zero_le _) (Nat.zero_le _) ⟨_, rfl, Is2, Fs2, JRLx_s2, rfl, (by have z := Qs2; rw [show x3 = 8 by omega] at z; exact z)⟩
set_option maxRecDepth 4000 in
theorem k_costBy3 (G : GX l s0 D tys a0 dT) {U : AirD} (I : Bd s) (jMDJ : MDJ U s)  : CT l s0 D A dT 251 (rmN 251) [.ref (A 179)] s (fun o t => Bd t ∧ Fm [] [] s t ∧ ∃ e, o = .inl (some (.int (Int32.ofInt e))) ∧ rng e ∧ (CSP (stpC U (pfM s)) (presF (pfM s)) (fun p => iC s 233 p) e)) := by
  refine ct_of G (by decide) (Nat.le_of_ble_eq_true rfl) (fun k X E hRt hXt q => ?_)
  show WS k 0 [(0, .ref (A 179))] [] _ 0 0
  have F : Fm [] [] s s := fm_rf _ _ s
  have L9 : ∀ (n : Nat) (t : PS) (lo hi0 an p : Int), Bd t → Fm [] [] s t → MDJ U t → (MML (presF (pfM s)) (fun p => iC s 233 p) p an hi0 lo) → (rng lo ∧ rng hi0 ∧ (0 ≤ an ∧ an ≤ p) ∧ p ≤ 8 ∧ (an = 0 → lo = 0 ∧ hi0 = 0)) → (8 - p : Int).toNat < n → (∀ (t' : PS) (lo' hi0' an' p' : Int), Bd t' → Fm [] [] s t' → MDJ U t' → (MML (presF (pfM s)) (fun p => iC s 233 p) p' an' hi0' lo') → (rng lo' ∧ rng hi0' ∧ p' = 8 ∧ (an' = 0 → lo' = 0 ∧ hi0' = 0)) → WS k 91 [(0, .ref (A 179)), (1, .int (Int32.ofInt lo')), (2, .int (Int32.ofInt hi0')), (3, .int (Int32.ofInt an')), (4, .int (Int32.ofInt p'))] [] (Wd A dT t') 0 0) → WS k 9 [(0, .ref (A 179)), (1, .int (Int32.ofInt lo)), (2, .int (Int32.ofInt hi0)), (3, .int (Int32.ofInt an)), (4, .int (Int32.ofInt p))] [] (Wd A dT t) 0 0 := by
    intro n
    induction n with
    | zero =>
      intro t lo hi0 an p I F jjMDJ hq hi hm kx
      exact absurd hm (Nat.not_lt_zero _)
    | succ n ih =>
      intro t lo hi0 an p I F jjMDJ hq hi hm kx
      refine z_load X (x := p) rfl (List.Mem.tail _ (List.Mem.tail _ (List.Mem.tail _ (List.Mem.tail _ (List.Mem.head _))))) (z_bipush X rfl (z_icmp_ge X (t := 91) rfl rfl ⟨by first | exact oq_e001bc0d hi.2.2.1.2 hi.2.2.1.1 | omega, by first | exact oq_d3f5d874 hi.2.2.2.1 | omega⟩ (by decide) (fun g1001 => ?_) (fun g1001 => ?_)))
      ·
        refine WS_pq [0, 1, 2, 3, 4] (lv' := [(0, .ref (A 179)), (1, .int (Int32.ofInt lo)), (2, .int (Int32.ofInt hi0)), (3, .int (Int32.ofInt an)), (4, .int (Int32.ofInt p))]) rfl ?_
        exact kx _ lo hi0 an p I F jjMDJ hq (by first | exact ⟨And.intro (hi.1.1) (hi.1.2), And.intro (hi.2.1.1) (hi.2.1.2), oq_73d3719d hi.2.2.2.1 g1001, hi.2.2.2.2⟩ | omega)
      ·
        refine z_aload_n X (x := A 179) rfl (List.Mem.head _) (z_load X (x := p) rfl (List.Mem.tail _ (List.Mem.tail _ (List.Mem.tail _ (List.Mem.tail _ (List.Mem.head _))))) (zcV_i0 X E 179 (As := [.int (Int32.ofInt p)]) (st := []) rfl rfl rfl rfl (k_has3 G I (by first | exact ⟨oq_e001bc0d hi.2.2.1.2 hi.2.2.1.1, oq_7bea7075 g1001⟩ | omega)) rfl (Nat.le_of_ble_eq_true rfl) (fun s1002 e1003 Is1002 Fs1002 hrs1002 hps1002 => ?_)))
        have hps1002p := hps1002.2
        have Gs1002 := fm_tq F Fs1002 rfl rfl
        have JMDJ_s1002 : MDJ U s1002 := MDJ_fm Fs1002 (by decide) jjMDJ
        refine z_if_ne X (t := 28) rfl rfl hrs1002 (fun g1004 => ?_) (fun g1004 => ?_)
        ·
          refine z_load_n X (x := an) rfl (List.Mem.tail _ (List.Mem.tail _ (List.Mem.tail _ (List.Mem.head _)))) (z_if_eq X (t := 43) rfl rfl ⟨by first | exact oq_fa4e5087 hi.2.2.1.1 | omega, by first | exact oq_70a17013 hi.2.2.1.2 g1001 | omega⟩ (fun g1005 => ?_) (fun g1005 => ?_))
          ·
            refine z_aload_n X (x := A 179) rfl (List.Mem.head _) (s_getR X 179 rfl (c518_ok rfl) rfl rfl (z_load X (x := p) rfl (List.Mem.tail _ (List.Mem.tail _ (List.Mem.tail _ (List.Mem.tail _ (List.Mem.head _))))) (z_ald X 261 rfl (c518_ok rfl) rfl (by first | exact oq_e9ac77f5 hi.2.2.1.2 g1005 | omega) (show p < 8 by first | exact g1001 | omega) (cbig_ok rfl) ?_)))
            have b1006 := bc_233 Is1002 (show (p).toNat < 8 by first | exact oq_db4b3b8b g1001 | omega)
            refine z_goto X (t := 54) rfl rfl (z_store_n X (lv' := [(1, .int (Int32.ofInt (iC s1002 233 (p).toNat))), (0, .ref (A 179)), (2, .int (Int32.ofInt hi0)), (3, .int (Int32.ofInt an)), (4, .int (Int32.ofInt p))]) rfl (by decide) (fun _ h => h) (z_load_n X (x := an) rfl (List.Mem.tail _ (List.Mem.tail _ (List.Mem.tail _ (List.Mem.head _)))) (z_if_eq X (t := 70) rfl rfl ⟨by first | exact oq_6ab4c69f g1005 | omega, by first | exact oq_3b8a080c g1005 | omega⟩ (fun g1007 => ?_) (fun g1007 => ?_))))
            ·
              refine z_aload_n X (x := A 179) rfl (List.Mem.tail _ (List.Mem.head _)) (s_getR X 179 rfl (c518_ok rfl) rfl rfl (z_load X (x := p) rfl (List.Mem.tail _ (List.Mem.tail _ (List.Mem.tail _ (List.Mem.tail _ (List.Mem.head _))))) (z_ald X 261 rfl (c518_ok rfl) rfl (by first | exact oq_e9ac77f5 hi.2.2.1.2 g1007 | omega) (show p < 8 by first | exact g1001 | omega) (cbig_ok rfl) ?_)))
              have b1008 := bc_233 Is1002 (show (p).toNat < 8 by first | exact oq_db4b3b8b g1001 | omega)
              refine z_goto X (t := 81) rfl rfl (z_store_n X (lv' := [(2, .int (Int32.ofInt (iC s1002 233 (p).toNat))), (1, .int (Int32.ofInt (iC s1002 233 (p).toNat))), (0, .ref (A 179)), (3, .int (Int32.ofInt an)), (4, .int (Int32.ofInt p))]) rfl (by decide) (fun _ h => h) (z_inc X (x := an) (lv' := [(3, .int (Int32.ofInt (an + 1))), (2, .int (Int32.ofInt (iC s1002 233 (p).toNat))), (1, .int (Int32.ofInt (iC s1002 233 (p).toNat))), (0, .ref (A 179)), (4, .int (Int32.ofInt p))]) rfl (by decide) (List.Mem.tail _ (List.Mem.tail _ (List.Mem.tail _ (List.Mem.head _)))) (fun _ h => h) (z_inc X (x := p) (lv' := [(4, .int (Int32.ofInt (p + 1))), (3, .int (Int32.ofInt (an + 1))), (2, .int (Int32.ofInt (iC s1002 233 (p).toNat))), (1, .int (Int32.ofInt (iC s1002 233 (p).toNat))), (0, .ref (A 179))]) rfl (by decide) (List.Mem.tail _ (List.Mem.tail _ (List.Mem.tail _ (List.Mem.tail _ (List.Mem.head _))))) (fun _ h => h) (z_goto X (t := 9) rfl rfl (WS_pq [4, 3, 2, 1, 0] (lv' := [(0, .ref (A 179)), (1, .int (Int32.ofInt (iC s1002 233 (p).toNat))), (2, .int (Int32.ofInt (iC s1002 233 (p).toNat))), (3, .int (Int32.ofInt (an + 1))), (4, .int (Int32.ofInt (p + 1)))]) rfl ?_)))))
              exact ih _ (iC s1002 233 (p).toNat) (iC s1002 233 (p).toNat) (an + 1) (p + 1) Is1002 Gs1002 JMDJ_s1002 (mml_y (v := iC s1002 233 (p : Int).toNat) hq (by first | (clear g1004 hps1002; omega) | (clear hps1002; omega) | omega) (hce_p (by have z := hps1002.2; rw [(show pfM t = pfM s from funext (fun j => fm_c F (by decide)))] at z; exact z) (by first | (clear g1004 hps1002; omega) | (clear hps1002; omega) | omega) (by first | (clear g1004 hps1002; omega) | (clear hps1002; omega) | omega)) (show iC s1002 233 (p : Int).toNat = iC s 233 (p : Int).toNat from fm_c Gs1002 List.not_mem_nil) (by first | (clear g1004 hps1002; omega) | (clear hps1002; omega) | omega) (by first | (clear g1004 hps1002; omega) | (clear hps1002; omega) | omega)) (by first | exact ⟨And.intro (b1008.1) (b1008.2), And.intro (b1008.1) (b1008.2), And.intro (oq_535341f0 g1007) (oq_8d48a029 hi.2.2.1.2), oq_0c7b19c3 g1001, oq_816ed005 g1007⟩ | omega) (by first | exact qk_me hm (by decide) (oq_9f368f35 g1001) | omega) kx
            ·
              refine z_aload_n X (x := A 179) rfl (List.Mem.tail _ (List.Mem.head _)) (s_getR X 179 rfl (c518_ok rfl) rfl rfl (z_load X (x := p) rfl (List.Mem.tail _ (List.Mem.tail _ (List.Mem.tail _ (List.Mem.tail _ (List.Mem.head _))))) (z_ald X 261 rfl (c518_ok rfl) rfl (by first | exact oq_e9ac77f5 hi.2.2.1.2 g1005 | omega) (show p < 8 by first | exact g1001 | omega) (cbig_ok rfl) ?_)))
              have b1009 := bc_233 Is1002 (show (p).toNat < 8 by first | exact oq_db4b3b8b g1001 | omega)
              refine z_load_n X (x := hi0) rfl (List.Mem.tail _ (List.Mem.tail _ (List.Mem.head _))) (z_icmp_le X (t := 80) rfl rfl (rng_to _) ⟨by first | exact hi.2.1.1 | omega, by first | exact hi.2.1.2 | omega⟩ (fun g1010 => ?_) (fun g1010 => ?_))
              ·
                refine z_load_n X (x := hi0) rfl (List.Mem.tail _ (List.Mem.tail _ (List.Mem.head _))) (z_store_n X (lv' := [(2, .int (Int32.ofInt hi0)), (1, .int (Int32.ofInt (iC s1002 233 (p).toNat))), (0, .ref (A 179)), (3, .int (Int32.ofInt an)), (4, .int (Int32.ofInt p))]) rfl (by decide) (fun _ h => h) (z_inc X (x := an) (lv' := [(3, .int (Int32.ofInt (an + 1))), (2, .int (Int32.ofInt hi0)), (1, .int (Int32.ofInt (iC s1002 233 (p).toNat))), (0, .ref (A 179)), (4, .int (Int32.ofInt p))]) rfl (by decide) (List.Mem.tail _ (List.Mem.tail _ (List.Mem.tail _ (List.Mem.head _)))) (fun _ h => h) (z_inc X (x := p) (lv' := [(4, .int (Int32.ofInt (p + 1))), (3, .int (Int32.ofInt (an + 1))), (2, .int (Int32.ofInt hi0)), (1, .int (Int32.ofInt (iC s1002 233 (p).toNat))), (0, .ref (A 179))]) rfl (by decide) (List.Mem.tail _ (List.Mem.tail _ (List.Mem.tail _ (List.Mem.tail _ (List.Mem.head _))))) (fun _ h => h) (z_goto X (t := 9) rfl rfl (WS_pq [4, 3, 2, 1, 0] (lv' := [(0, .ref (A 179)), (1, .int (Int32.ofInt (iC s1002 233 (p).toNat))), (2, .int (Int32.ofInt hi0)), (3, .int (Int32.ofInt (an + 1))), (4, .int (Int32.ofInt (p + 1)))]) rfl ?_)))))
                exact ih _ (iC s1002 233 (p).toNat) hi0 (an + 1) (p + 1) Is1002 Gs1002 JMDJ_s1002 (mml_y (v := iC s1002 233 (p : Int).toNat) hq (by first | (clear g1007 g1004 hps1002; omega) | (clear g1004 hps1002; omega) | omega) (hce_p (by have z := hps1002.2; rw [(show pfM t = pfM s from funext (fun j => fm_c F (by decide)))] at z; exact z) (by first | (clear g1007 g1004 hps1002; omega) | (clear g1004 hps1002; omega) | omega) (by first | (clear g1007 g1004 hps1002; omega) | (clear g1004 hps1002; omega) | omega)) (show iC s1002 233 (p : Int).toNat = iC s 233 (p : Int).toNat from fm_c Gs1002 List.not_mem_nil) (by first | (clear g1007 g1004 hps1002; omega) | (clear g1004 hps1002; omega) | omega) (by first | (clear g1007 g1004 hps1002; omega) | (clear g1004 hps1002; omega) | omega)) (by first | exact ⟨And.intro (b1009.1) (b1009.2), And.intro (hi.2.1.1) (hi.2.1.2), And.intro (oq_535341f0 g1005) (oq_8d48a029 hi.2.2.1.2), oq_0c7b19c3 g1001, oq_e0358e06 g1005⟩ | omega) (by first | exact qk_me hm (by decide) (oq_9f368f35 g1001) | omega) kx
              ·
                refine z_aload_n X (x := A 179) rfl (List.Mem.tail _ (List.Mem.head _)) (s_getR X 179 rfl (c518_ok rfl) rfl rfl (z_load X (x := p) rfl (List.Mem.tail _ (List.Mem.tail _ (List.Mem.tail _ (List.Mem.tail _ (List.Mem.head _))))) (z_ald X 261 rfl (c518_ok rfl) rfl (by first | exact oq_e9ac77f5 hi.2.2.1.2 g1005 | omega) (show p < 8 by first | exact g1001 | omega) (cbig_ok rfl) ?_)))
                have b1011 := bc_233 Is1002 (show (p).toNat < 8 by first | exact oq_db4b3b8b g1001 | omega)
                refine z_goto X (t := 81) rfl rfl (z_store_n X (lv' := [(2, .int (Int32.ofInt (iC s1002 233 (p).toNat))), (1, .int (Int32.ofInt (iC s1002 233 (p).toNat))), (0, .ref (A 179)), (3, .int (Int32.ofInt an)), (4, .int (Int32.ofInt p))]) rfl (by decide) (fun _ h => h) (z_inc X (x := an) (lv' := [(3, .int (Int32.ofInt (an + 1))), (2, .int (Int32.ofInt (iC s1002 233 (p).toNat))), (1, .int (Int32.ofInt (iC s1002 233 (p).toNat))), (0, .ref (A 179)), (4, .int (Int32.ofInt p))]) rfl (by decide) (List.Mem.tail _ (List.Mem.tail _ (List.Mem.tail _ (List.Mem.head _)))) (fun _ h => h) (z_inc X (x := p) (lv' := [(4, .int (Int32.ofInt (p + 1))), (3, .int (Int32.ofInt (an + 1))), (2, .int (Int32.ofInt (iC s1002 233 (p).toNat))), (1, .int (Int32.ofInt (iC s1002 233 (p).toNat))), (0, .ref (A 179))]) rfl (by decide) (List.Mem.tail _ (List.Mem.tail _ (List.Mem.tail _ (List.Mem.tail _ (List.Mem.head _))))) (fun _ h => h) (z_goto X (t := 9) rfl rfl (WS_pq [4, 3, 2, 1, 0] (lv' := [(0, .ref (A 179)), (1, .int (Int32.ofInt (iC s1002 233 (p).toNat))), (2, .int (Int32.ofInt (iC s1002 233 (p).toNat))), (3, .int (Int32.ofInt (an + 1))), (4, .int (Int32.ofInt (p + 1)))]) rfl ?_)))))
                exact ih _ (iC s1002 233 (p).toNat) (iC s1002 233 (p).toNat) (an + 1) (p + 1) Is1002 Gs1002 JMDJ_s1002 (mml_y (v := iC s1002 233 (p : Int).toNat) hq (by first | (clear g1007 g1004 hps1002; omega) | (clear g1004 hps1002; omega) | omega) (hce_p (by have z := hps1002.2; rw [(show pfM t = pfM s from funext (fun j => fm_c F (by decide)))] at z; exact z) (by first | (clear g1007 g1004 hps1002; omega) | (clear g1004 hps1002; omega) | omega) (by first | (clear g1007 g1004 hps1002; omega) | (clear g1004 hps1002; omega) | omega)) (show iC s1002 233 (p : Int).toNat = iC s 233 (p : Int).toNat from fm_c Gs1002 List.not_mem_nil) (by first | (clear g1007 g1004 hps1002; omega) | (clear g1004 hps1002; omega) | omega) (by first | (clear g1007 g1004 hps1002; omega) | (clear g1004 hps1002; omega) | omega)) (by first | exact ⟨And.intro (b1011.1) (b1011.2), And.intro (b1011.1) (b1011.2), And.intro (oq_535341f0 g1005) (oq_8d48a029 hi.2.2.1.2), oq_0c7b19c3 g1001, oq_816ed005 g1005⟩ | omega) (by first | exact qk_me hm (by decide) (oq_9f368f35 g1001) | omega) kx
          ·
            refine z_aload_n X (x := A 179) rfl (List.Mem.head _) (s_getR X 179 rfl (c518_ok rfl) rfl rfl (z_load X (x := p) rfl (List.Mem.tail _ (List.Mem.tail _ (List.Mem.tail _ (List.Mem.tail _ (List.Mem.head _))))) (z_ald X 261 rfl (c518_ok rfl) rfl (by first | exact oq_12a1f9e1 hi.2.2.1.2 hi.2.2.1.1 | omega) (show p < 8 by first | exact g1001 | omega) (cbig_ok rfl) ?_)))
            have b1012 := bc_233 Is1002 (show (p).toNat < 8 by first | exact oq_db4b3b8b g1001 | omega)
            refine z_load_n X (x := lo) rfl (List.Mem.tail _ (List.Mem.head _)) (z_icmp_ge X (t := 53) rfl rfl (rng_to _) ⟨by first | exact hi.1.1 | omega, by first | exact hi.1.2 | omega⟩ (fun g1013 => ?_) (fun g1013 => ?_))
            ·
              refine z_load_n X (x := lo) rfl (List.Mem.tail _ (List.Mem.head _)) (z_store_n X (lv' := [(1, .int (Int32.ofInt lo)), (0, .ref (A 179)), (2, .int (Int32.ofInt hi0)), (3, .int (Int32.ofInt an)), (4, .int (Int32.ofInt p))]) rfl (by decide) (fun _ h => h) (z_load_n X (x := an) rfl (List.Mem.tail _ (List.Mem.tail _ (List.Mem.tail _ (List.Mem.head _)))) (z_if_eq X (t := 70) rfl rfl ⟨by first | exact oq_fa4e5087 hi.2.2.1.1 | omega, by first | exact oq_70a17013 hi.2.2.1.2 g1001 | omega⟩ (fun g1014 => ?_) (fun g1014 => ?_))))
              ·
                refine z_aload_n X (x := A 179) rfl (List.Mem.tail _ (List.Mem.head _)) (s_getR X 179 rfl (c518_ok rfl) rfl rfl (z_load X (x := p) rfl (List.Mem.tail _ (List.Mem.tail _ (List.Mem.tail _ (List.Mem.tail _ (List.Mem.head _))))) (z_ald X 261 rfl (c518_ok rfl) rfl (by first | exact oq_e9ac77f5 hi.2.2.1.2 g1014 | omega) (show p < 8 by first | exact g1001 | omega) (cbig_ok rfl) ?_)))
                have b1015 := bc_233 Is1002 (show (p).toNat < 8 by first | exact oq_db4b3b8b g1001 | omega)
                refine z_goto X (t := 81) rfl rfl (z_store_n X (lv' := [(2, .int (Int32.ofInt (iC s1002 233 (p).toNat))), (1, .int (Int32.ofInt lo)), (0, .ref (A 179)), (3, .int (Int32.ofInt an)), (4, .int (Int32.ofInt p))]) rfl (by decide) (fun _ h => h) (z_inc X (x := an) (lv' := [(3, .int (Int32.ofInt (an + 1))), (2, .int (Int32.ofInt (iC s1002 233 (p).toNat))), (1, .int (Int32.ofInt lo)), (0, .ref (A 179)), (4, .int (Int32.ofInt p))]) rfl (by decide) (List.Mem.tail _ (List.Mem.tail _ (List.Mem.tail _ (List.Mem.head _)))) (fun _ h => h) (z_inc X (x := p) (lv' := [(4, .int (Int32.ofInt (p + 1))), (3, .int (Int32.ofInt (an + 1))), (2, .int (Int32.ofInt (iC s1002 233 (p).toNat))), (1, .int (Int32.ofInt lo)), (0, .ref (A 179))]) rfl (by decide) (List.Mem.tail _ (List.Mem.tail _ (List.Mem.tail _ (List.Mem.tail _ (List.Mem.head _))))) (fun _ h => h) (z_goto X (t := 9) rfl rfl (WS_pq [4, 3, 2, 1, 0] (lv' := [(0, .ref (A 179)), (1, .int (Int32.ofInt lo)), (2, .int (Int32.ofInt (iC s1002 233 (p).toNat))), (3, .int (Int32.ofInt (an + 1))), (4, .int (Int32.ofInt (p + 1)))]) rfl ?_)))))
                exact ih _ lo (iC s1002 233 (p).toNat) (an + 1) (p + 1) Is1002 Gs1002 JMDJ_s1002 (mml_y (v := iC s1002 233 (p : Int).toNat) hq (by first | (clear g1005 g1004 hps1002; omega) | (clear g1004 hps1002; omega) | omega) (hce_p (by have z := hps1002.2; rw [(show pfM t = pfM s from funext (fun j => fm_c F (by decide)))] at z; exact z) (by first | (clear g1005 g1004 hps1002; omega) | (clear g1004 hps1002; omega) | omega) (by first | (clear g1005 g1004 hps1002; omega) | (clear g1004 hps1002; omega) | omega)) (show iC s1002 233 (p : Int).toNat = iC s 233 (p : Int).toNat from fm_c Gs1002 List.not_mem_nil) (by first | (clear g1005 g1004 hps1002; omega) | (clear g1004 hps1002; omega) | omega) (by first | (clear g1005 g1004 hps1002; omega) | (clear g1004 hps1002; omega) | omega)) (by first | exact ⟨And.intro (hi.1.1) (hi.1.2), And.intro (b1015.1) (b1015.2), And.intro (oq_535341f0 g1014) (oq_8d48a029 hi.2.2.1.2), oq_0c7b19c3 g1001, oq_e0358e06 g1014⟩ | omega) (by first | exact qk_me hm (by decide) (oq_9f368f35 g1001) | omega) kx
              ·
                refine z_aload_n X (x := A 179) rfl (List.Mem.tail _ (List.Mem.head _)) (s_getR X 179 rfl (c518_ok rfl) rfl rfl (z_load X (x := p) rfl (List.Mem.tail _ (List.Mem.tail _ (List.Mem.tail _ (List.Mem.tail _ (List.Mem.head _))))) (z_ald X 261 rfl (c518_ok rfl) rfl (by first | exact oq_12a1f9e1 hi.2.2.1.2 hi.2.2.1.1 | omega) (show p < 8 by first | exact g1001 | omega) (cbig_ok rfl) ?_)))
                have b1016 := bc_233 Is1002 (show (p).toNat < 8 by first | exact oq_db4b3b8b g1001 | omega)
                refine z_load_n X (x := hi0) rfl (List.Mem.tail _ (List.Mem.tail _ (List.Mem.head _))) (z_icmp_le X (t := 80) rfl rfl (rng_to _) ⟨by first | exact hi.2.1.1 | omega, by first | exact hi.2.1.2 | omega⟩ (fun g1017 => ?_) (fun g1017 => ?_))
                ·
                  refine z_load_n X (x := hi0) rfl (List.Mem.tail _ (List.Mem.tail _ (List.Mem.head _))) (z_store_n X (lv' := [(2, .int (Int32.ofInt hi0)), (1, .int (Int32.ofInt lo)), (0, .ref (A 179)), (3, .int (Int32.ofInt an)), (4, .int (Int32.ofInt p))]) rfl (by decide) (fun _ h => h) (z_inc X (x := an) (lv' := [(3, .int (Int32.ofInt (an + 1))), (2, .int (Int32.ofInt hi0)), (1, .int (Int32.ofInt lo)), (0, .ref (A 179)), (4, .int (Int32.ofInt p))]) rfl (by decide) (List.Mem.tail _ (List.Mem.tail _ (List.Mem.tail _ (List.Mem.head _)))) (fun _ h => h) (z_inc X (x := p) (lv' := [(4, .int (Int32.ofInt (p + 1))), (3, .int (Int32.ofInt (an + 1))), (2, .int (Int32.ofInt hi0)), (1, .int (Int32.ofInt lo)), (0, .ref (A 179))]) rfl (by decide) (List.Mem.tail _ (List.Mem.tail _ (List.Mem.tail _ (List.Mem.tail _ (List.Mem.head _))))) (fun _ h => h) (z_goto X (t := 9) rfl rfl (WS_pq [4, 3, 2, 1, 0] (lv' := [(0, .ref (A 179)), (1, .int (Int32.ofInt lo)), (2, .int (Int32.ofInt hi0)), (3, .int (Int32.ofInt (an + 1))), (4, .int (Int32.ofInt (p + 1)))]) rfl ?_)))))
                  exact ih _ lo hi0 (an + 1) (p + 1) Is1002 Gs1002 JMDJ_s1002 (mml_y (v := iC s1002 233 (p : Int).toNat) hq (by first | (clear g1014 g1005 g1004 hps1002; omega) | (clear g1005 g1004 hps1002; omega) | omega) (hce_p (by have z := hps1002.2; rw [(show pfM t = pfM s from funext (fun j => fm_c F (by decide)))] at z; exact z) (by first | (clear g1014 g1005 g1004 hps1002; omega) | (clear g1005 g1004 hps1002; omega) | omega) (by first | (clear g1014 g1005 g1004 hps1002; omega) | (clear g1005 g1004 hps1002; omega) | omega)) (show iC s1002 233 (p : Int).toNat = iC s 233 (p : Int).toNat from fm_c Gs1002 List.not_mem_nil) (by first | (clear g1014 g1005 g1004 hps1002; omega) | (clear g1005 g1004 hps1002; omega) | omega) (by first | (clear g1014 g1005 g1004 hps1002; omega) | (clear g1005 g1004 hps1002; omega) | omega)) (by first | exact ⟨And.intro (hi.1.1) (hi.1.2), And.intro (hi.2.1.1) (hi.2.1.2), And.intro (oq_54f49eb5 hi.2.2.1.1) (oq_8d48a029 hi.2.2.1.2), oq_0c7b19c3 g1001, oq_eca44bbb hi.2.2.1.1⟩ | omega) (by first | exact qk_me hm (by decide) (oq_9f368f35 g1001) | omega) kx
                ·
                  refine z_aload_n X (x := A 179) rfl (List.Mem.tail _ (List.Mem.head _)) (s_getR X 179 rfl (c518_ok rfl) rfl rfl (z_load X (x := p) rfl (List.Mem.tail _ (List.Mem.tail _ (List.Mem.tail _ (List.Mem.tail _ (List.Mem.head _))))) (z_ald X 261 rfl (c518_ok rfl) rfl (by first | exact oq_12a1f9e1 hi.2.2.1.2 hi.2.2.1.1 | omega) (show p < 8 by first | exact g1001 | omega) (cbig_ok rfl) ?_)))
                  have b1018 := bc_233 Is1002 (show (p).toNat < 8 by first | exact oq_db4b3b8b g1001 | omega)
                  refine z_goto X (t := 81) rfl rfl (z_store_n X (lv' := [(2, .int (Int32.ofInt (iC s1002 233 (p).toNat))), (1, .int (Int32.ofInt lo)), (0, .ref (A 179)), (3, .int (Int32.ofInt an)), (4, .int (Int32.ofInt p))]) rfl (by decide) (fun _ h => h) (z_inc X (x := an) (lv' := [(3, .int (Int32.ofInt (an + 1))), (2, .int (Int32.ofInt (iC s1002 233 (p).toNat))), (1, .int (Int32.ofInt lo)), (0, .ref (A 179)), (4, .int (Int32.ofInt p))]) rfl (by decide) (List.Mem.tail _ (List.Mem.tail _ (List.Mem.tail _ (List.Mem.head _)))) (fun _ h => h) (z_inc X (x := p) (lv' := [(4, .int (Int32.ofInt (p + 1))), (3, .int (Int32.ofInt (an + 1))), (2, .int (Int32.ofInt (iC s1002 233 (p).toNat))), (1, .int (Int32.ofInt lo)), (0, .ref (A 179))]) rfl (by decide) (List.Mem.tail _ (List.Mem.tail _ (List.Mem.tail _ (List.Mem.tail _ (List.Mem.head _))))) (fun _ h => h) (z_goto X (t := 9) rfl rfl (WS_pq [4, 3, 2, 1, 0] (lv' := [(0, .ref (A 179)), (1, .int (Int32.ofInt lo)), (2, .int (Int32.ofInt (iC s1002 233 (p).toNat))), (3, .int (Int32.ofInt (an + 1))), (4, .int (Int32.ofInt (p + 1)))]) rfl ?_)))))
                  exact ih _ lo (iC s1002 233 (p).toNat) (an + 1) (p + 1) Is1002 Gs1002 JMDJ_s1002 (mml_y (v := iC s1002 233 (p : Int).toNat) hq (by first | (clear g1014 g1005 g1004 hps1002; omega) | (clear g1005 g1004 hps1002; omega) | omega) (hce_p (by have z := hps1002.2; rw [(show pfM t = pfM s from funext (fun j => fm_c F (by decide)))] at z; exact z) (by first | (clear g1014 g1005 g1004 hps1002; omega) | (clear g1005 g1004 hps1002; omega) | omega) (by first | (clear g1014 g1005 g1004 hps1002; omega) | (clear g1005 g1004 hps1002; omega) | omega)) (show iC s1002 233 (p : Int).toNat = iC s 233 (p : Int).toNat from fm_c Gs1002 List.not_mem_nil) (by first | (clear g1014 g1005 g1004 hps1002; omega) | (clear g1005 g1004 hps1002; omega) | omega) (by first | (clear g1014 g1005 g1004 hps1002; omega) | (clear g1005 g1004 hps1002; omega) | omega)) (by first | exact ⟨And.intro (hi.1.1) (hi.1.2), And.intro (b1018.1) (b1018.2), And.intro (oq_54f49eb5 hi.2.2.1.1) (oq_8d48a029 hi.2.2.1.2), oq_0c7b19c3 g1001, oq_eca44bbb hi.2.2.1.1⟩ | omega) (by first | exact qk_me hm (by decide) (oq_9f368f35 g1001) | omega) kx
            ·
              refine z_aload_n X (x := A 179) rfl (List.Mem.head _) (s_getR X 179 rfl (c518_ok rfl) rfl rfl (z_load X (x := p) rfl (List.Mem.tail _ (List.Mem.tail _ (List.Mem.tail _ (List.Mem.tail _ (List.Mem.head _))))) (z_ald X 261 rfl (c518_ok rfl) rfl (by first | exact oq_12a1f9e1 hi.2.2.1.2 hi.2.2.1.1 | omega) (show p < 8 by first | exact g1001 | omega) (cbig_ok rfl) ?_)))
              have b1019 := bc_233 Is1002 (show (p).toNat < 8 by first | exact oq_db4b3b8b g1001 | omega)
              refine z_goto X (t := 54) rfl rfl (z_store_n X (lv' := [(1, .int (Int32.ofInt (iC s1002 233 (p).toNat))), (0, .ref (A 179)), (2, .int (Int32.ofInt hi0)), (3, .int (Int32.ofInt an)), (4, .int (Int32.ofInt p))]) rfl (by decide) (fun _ h => h) (z_load_n X (x := an) rfl (List.Mem.tail _ (List.Mem.tail _ (List.Mem.tail _ (List.Mem.head _)))) (z_if_eq X (t := 70) rfl rfl ⟨by first | exact oq_fa4e5087 hi.2.2.1.1 | omega, by first | exact oq_70a17013 hi.2.2.1.2 g1001 | omega⟩ (fun g1020 => ?_) (fun g1020 => ?_))))
              ·
                refine z_aload_n X (x := A 179) rfl (List.Mem.tail _ (List.Mem.head _)) (s_getR X 179 rfl (c518_ok rfl) rfl rfl (z_load X (x := p) rfl (List.Mem.tail _ (List.Mem.tail _ (List.Mem.tail _ (List.Mem.tail _ (List.Mem.head _))))) (z_ald X 261 rfl (c518_ok rfl) rfl (by first | exact oq_e9ac77f5 hi.2.2.1.2 g1020 | omega) (show p < 8 by first | exact g1001 | omega) (cbig_ok rfl) ?_)))
                have b1021 := bc_233 Is1002 (show (p).toNat < 8 by first | exact oq_db4b3b8b g1001 | omega)
                refine z_goto X (t := 81) rfl rfl (z_store_n X (lv' := [(2, .int (Int32.ofInt (iC s1002 233 (p).toNat))), (1, .int (Int32.ofInt (iC s1002 233 (p).toNat))), (0, .ref (A 179)), (3, .int (Int32.ofInt an)), (4, .int (Int32.ofInt p))]) rfl (by decide) (fun _ h => h) (z_inc X (x := an) (lv' := [(3, .int (Int32.ofInt (an + 1))), (2, .int (Int32.ofInt (iC s1002 233 (p).toNat))), (1, .int (Int32.ofInt (iC s1002 233 (p).toNat))), (0, .ref (A 179)), (4, .int (Int32.ofInt p))]) rfl (by decide) (List.Mem.tail _ (List.Mem.tail _ (List.Mem.tail _ (List.Mem.head _)))) (fun _ h => h) (z_inc X (x := p) (lv' := [(4, .int (Int32.ofInt (p + 1))), (3, .int (Int32.ofInt (an + 1))), (2, .int (Int32.ofInt (iC s1002 233 (p).toNat))), (1, .int (Int32.ofInt (iC s1002 233 (p).toNat))), (0, .ref (A 179))]) rfl (by decide) (List.Mem.tail _ (List.Mem.tail _ (List.Mem.tail _ (List.Mem.tail _ (List.Mem.head _))))) (fun _ h => h) (z_goto X (t := 9) rfl rfl (WS_pq [4, 3, 2, 1, 0] (lv' := [(0, .ref (A 179)), (1, .int (Int32.ofInt (iC s1002 233 (p).toNat))), (2, .int (Int32.ofInt (iC s1002 233 (p).toNat))), (3, .int (Int32.ofInt (an + 1))), (4, .int (Int32.ofInt (p + 1)))]) rfl ?_)))))
                exact ih _ (iC s1002 233 (p).toNat) (iC s1002 233 (p).toNat) (an + 1) (p + 1) Is1002 Gs1002 JMDJ_s1002 (mml_y (v := iC s1002 233 (p : Int).toNat) hq (by first | (clear g1005 g1004 hps1002; omega) | (clear g1004 hps1002; omega) | omega) (hce_p (by have z := hps1002.2; rw [(show pfM t = pfM s from funext (fun j => fm_c F (by decide)))] at z; exact z) (by first | (clear g1005 g1004 hps1002; omega) | (clear g1004 hps1002; omega) | omega) (by first | (clear g1005 g1004 hps1002; omega) | (clear g1004 hps1002; omega) | omega)) (show iC s1002 233 (p : Int).toNat = iC s 233 (p : Int).toNat from fm_c Gs1002 List.not_mem_nil) (by first | (clear g1005 g1004 hps1002; omega) | (clear g1004 hps1002; omega) | omega) (by first | (clear g1005 g1004 hps1002; omega) | (clear g1004 hps1002; omega) | omega)) (by first | exact ⟨And.intro (b1021.1) (b1021.2), And.intro (b1021.1) (b1021.2), And.intro (oq_535341f0 g1020) (oq_8d48a029 hi.2.2.1.2), oq_0c7b19c3 g1001, oq_816ed005 g1020⟩ | omega) (by first | exact qk_me hm (by decide) (oq_9f368f35 g1001) | omega) kx
              ·
                refine z_aload_n X (x := A 179) rfl (List.Mem.tail _ (List.Mem.head _)) (s_getR X 179 rfl (c518_ok rfl) rfl rfl (z_load X (x := p) rfl (List.Mem.tail _ (List.Mem.tail _ (List.Mem.tail _ (List.Mem.tail _ (List.Mem.head _))))) (z_ald X 261 rfl (c518_ok rfl) rfl (by first | exact oq_12a1f9e1 hi.2.2.1.2 hi.2.2.1.1 | omega) (show p < 8 by first | exact g1001 | omega) (cbig_ok rfl) ?_)))
                have b1022 := bc_233 Is1002 (show (p).toNat < 8 by first | exact oq_db4b3b8b g1001 | omega)
                refine z_load_n X (x := hi0) rfl (List.Mem.tail _ (List.Mem.tail _ (List.Mem.head _))) (z_icmp_le X (t := 80) rfl rfl (rng_to _) ⟨by first | exact hi.2.1.1 | omega, by first | exact hi.2.1.2 | omega⟩ (fun g1023 => ?_) (fun g1023 => ?_))
                ·
                  refine z_load_n X (x := hi0) rfl (List.Mem.tail _ (List.Mem.tail _ (List.Mem.head _))) (z_store_n X (lv' := [(2, .int (Int32.ofInt hi0)), (1, .int (Int32.ofInt (iC s1002 233 (p).toNat))), (0, .ref (A 179)), (3, .int (Int32.ofInt an)), (4, .int (Int32.ofInt p))]) rfl (by decide) (fun _ h => h) (z_inc X (x := an) (lv' := [(3, .int (Int32.ofInt (an + 1))), (2, .int (Int32.ofInt hi0)), (1, .int (Int32.ofInt (iC s1002 233 (p).toNat))), (0, .ref (A 179)), (4, .int (Int32.ofInt p))]) rfl (by decide) (List.Mem.tail _ (List.Mem.tail _ (List.Mem.tail _ (List.Mem.head _)))) (fun _ h => h) (z_inc X (x := p) (lv' := [(4, .int (Int32.ofInt (p + 1))), (3, .int (Int32.ofInt (an + 1))), (2, .int (Int32.ofInt hi0)), (1, .int (Int32.ofInt (iC s1002 233 (p).toNat))), (0, .ref (A 179))]) rfl (by decide) (List.Mem.tail _ (List.Mem.tail _ (List.Mem.tail _ (List.Mem.tail _ (List.Mem.head _))))) (fun _ h => h) (z_goto X (t := 9) rfl rfl (WS_pq [4, 3, 2, 1, 0] (lv' := [(0, .ref (A 179)), (1, .int (Int32.ofInt (iC s1002 233 (p).toNat))), (2, .int (Int32.ofInt hi0)), (3, .int (Int32.ofInt (an + 1))), (4, .int (Int32.ofInt (p + 1)))]) rfl ?_)))))
                  exact ih _ (iC s1002 233 (p).toNat) hi0 (an + 1) (p + 1) Is1002 Gs1002 JMDJ_s1002 (mml_y (v := iC s1002 233 (p : Int).toNat) hq (by first | (clear g1020 g1005 g1004 hps1002; omega) | (clear g1005 g1004 hps1002; omega) | omega) (hce_p (by have z := hps1002.2; rw [(show pfM t = pfM s from funext (fun j => fm_c F (by decide)))] at z; exact z) (by first | (clear g1020 g1005 g1004 hps1002; omega) | (clear g1005 g1004 hps1002; omega) | omega) (by first | (clear g1020 g1005 g1004 hps1002; omega) | (clear g1005 g1004 hps1002; omega) | omega)) (show iC s1002 233 (p : Int).toNat = iC s 233 (p : Int).toNat from fm_c Gs1002 List.not_mem_nil) (by first | (clear g1020 g1005 g1004 hps1002; omega) | (clear g1005 g1004 hps1002; omega) | omega) (by first | (clear g1020 g1005 g1004 hps1002; omega) | (clear g1005 g1004 hps1002; omega) | omega)) (by first | exact ⟨And.intro (b1022.1) (b1022.2), And.intro (hi.2.1.1) (hi.2.1.2), And.intro (oq_54f49eb5 hi.2.2.1.1) (oq_8d48a029 hi.2.2.1.2), oq_0c7b19c3 g1001, oq_eca44bbb hi.2.2.1.1⟩ | omega) (by first | exact qk_me hm (by decide) (oq_9f368f35 g1001) | omega) kx
                ·
                  refine z_aload_n X (x := A 179) rfl (List.Mem.tail _ (List.Mem.head _)) (s_getR X 179 rfl (c518_ok rfl) rfl rfl (z_load X (x := p) rfl (List.Mem.tail _ (List.Mem.tail _ (List.Mem.tail _ (List.Mem.tail _ (List.Mem.head _))))) (z_ald X 261 rfl (c518_ok rfl) rfl (by first | exact oq_12a1f9e1 hi.2.2.1.2 hi.2.2.1.1 | omega) (show p < 8 by first | exact g1001 | omega) (cbig_ok rfl) ?_)))
                  have b1024 := bc_233 Is1002 (show (p).toNat < 8 by first | exact oq_db4b3b8b g1001 | omega)
                  refine z_goto X (t := 81) rfl rfl (z_store_n X (lv' := [(2, .int (Int32.ofInt (iC s1002 233 (p).toNat))), (1, .int (Int32.ofInt (iC s1002 233 (p).toNat))), (0, .ref (A 179)), (3, .int (Int32.ofInt an)), (4, .int (Int32.ofInt p))]) rfl (by decide) (fun _ h => h) (z_inc X (x := an) (lv' := [(3, .int (Int32.ofInt (an + 1))), (2, .int (Int32.ofInt (iC s1002 233 (p).toNat))), (1, .int (Int32.ofInt (iC s1002 233 (p).toNat))), (0, .ref (A 179)), (4, .int (Int32.ofInt p))]) rfl (by decide) (List.Mem.tail _ (List.Mem.tail _ (List.Mem.tail _ (List.Mem.head _)))) (fun _ h => h) (z_inc X (x := p) (lv' := [(4, .int (Int32.ofInt (p + 1))), (3, .int (Int32.ofInt (an + 1))), (2, .int (Int32.ofInt (iC s1002 233 (p).toNat))), (1, .int (Int32.ofInt (iC s1002 233 (p).toNat))), (0, .ref (A 179))]) rfl (by decide) (List.Mem.tail _ (List.Mem.tail _ (List.Mem.tail _ (List.Mem.tail _ (List.Mem.head _))))) (fun _ h => h) (z_goto X (t := 9) rfl rfl (WS_pq [4, 3, 2, 1, 0] (lv' := [(0, .ref (A 179)), (1, .int (Int32.ofInt (iC s1002 233 (p).toNat))), (2, .int (Int32.ofInt (iC s1002 233 (p).toNat))), (3, .int (Int32.ofInt (an + 1))), (4, .int (Int32.ofInt (p + 1)))]) rfl ?_)))))
                  exact ih _ (iC s1002 233 (p).toNat) (iC s1002 233 (p).toNat) (an + 1) (p + 1) Is1002 Gs1002 JMDJ_s1002 (mml_y (v := iC s1002 233 (p : Int).toNat) hq (by first | (clear g1020 g1005 g1004 hps1002; omega) | (clear g1005 g1004 hps1002; omega) | omega) (hce_p (by have z := hps1002.2; rw [(show pfM t = pfM s from funext (fun j => fm_c F (by decide)))] at z; exact z) (by first | (clear g1020 g1005 g1004 hps1002; omega) | (clear g1005 g1004 hps1002; omega) | omega) (by first | (clear g1020 g1005 g1004 hps1002; omega) | (clear g1005 g1004 hps1002; omega) | omega)) (show iC s1002 233 (p : Int).toNat = iC s 233 (p : Int).toNat from fm_c Gs1002 List.not_mem_nil) (by first | (clear g1020 g1005 g1004 hps1002; omega) | (clear g1005 g1004 hps1002; omega) | omega) (by first | (clear g1020 g1005 g1004 hps1002; omega) | (clear g1005 g1004 hps1002; omega) | omega)) (by first | exact ⟨And.intro (b1024.1) (b1024.2), And.intro (b1024.1) (b1024.2), And.intro (oq_54f49eb5 hi.2.2.1.1) (oq_8d48a029 hi.2.2.1.2), oq_0c7b19c3 g1001, oq_060ce41d hi.2.2.1.1⟩ | omega) (by first | exact qk_me hm (by decide) (oq_9f368f35 g1001) | omega) kx
        ·
          refine z_goto X (t := 85) rfl rfl (z_inc X (x := p) (lv' := [(4, .int (Int32.ofInt (p + 1))), (0, .ref (A 179)), (1, .int (Int32.ofInt lo)), (2, .int (Int32.ofInt hi0)), (3, .int (Int32.ofInt an))]) rfl (by decide) (List.Mem.tail _ (List.Mem.tail _ (List.Mem.tail _ (List.Mem.tail _ (List.Mem.head _))))) (fun _ h => h) (z_goto X (t := 9) rfl rfl (WS_pq [1, 2, 3, 4, 0] (lv' := [(0, .ref (A 179)), (1, .int (Int32.ofInt lo)), (2, .int (Int32.ofInt hi0)), (3, .int (Int32.ofInt an)), (4, .int (Int32.ofInt (p + 1)))]) rfl ?_)))
          exact ih _ lo hi0 an (p + 1) Is1002 Gs1002 JMDJ_s1002 (mml_n hq (by first | (clear hps1002; omega) | omega) (hce_n (by have z := hps1002.2; rw [(show pfM t = pfM s from funext (fun j => fm_c F (by decide)))] at z; exact z) (by first | (clear hps1002; omega) | omega) (by first | (clear hps1002; omega) | omega))) (by first | exact ⟨And.intro (hi.1.1) (hi.1.2), And.intro (hi.2.1.1) (hi.2.1.2), And.intro (hi.2.2.1.1) (oq_03182e9e hi.2.2.1.2), oq_0c7b19c3 g1001, hi.2.2.2.2⟩ | omega) (by first | exact qk_me hm (by decide) (oq_9f368f35 g1001) | omega) kx
  refine z_const X rfl (z_store_n X (lv' := [(1, .int (Int32.ofInt 0)), (0, .ref (A 179))]) rfl (by decide) (fun _ h => h) (z_const X rfl (z_store_n X (lv' := [(2, .int (Int32.ofInt 0)), (1, .int (Int32.ofInt 0)), (0, .ref (A 179))]) rfl (by decide) (fun _ h => h) (z_const X rfl (z_store_n X (lv' := [(3, .int (Int32.ofInt 0)), (2, .int (Int32.ofInt 0)), (1, .int (Int32.ofInt 0)), (0, .ref (A 179))]) rfl (by decide) (fun _ h => h) (z_const X rfl (z_store X (lv' := [(4, .int (Int32.ofInt 0)), (3, .int (Int32.ofInt 0)), (2, .int (Int32.ofInt 0)), (1, .int (Int32.ofInt 0)), (0, .ref (A 179))]) rfl (by decide) (fun _ h => h) (WS_pq [4, 3, 2, 1, 0] (lv' := [(0, .ref (A 179)), (1, .int (Int32.ofInt 0)), (2, .int (Int32.ofInt 0)), (3, .int (Int32.ofInt 0)), (4, .int (Int32.ofInt 0))]) rfl (L9 ((8 - 0 : Int).toNat + 1) s 0 0 0 0 I F jMDJ mml_0 (by first | exact ⟨And.intro (by decide) (by decide), And.intro (by decide) (by decide), And.intro (by decide) (by decide), by decide, oq_eb0eb426⟩ | omega) (Nat.lt_succ_self _) ?_)))))))))
  intro s1 x2 x3 x4 x5 Is1 Fs1 JMDJ_s1 Qs1 hs1
  refine z_aload_n X (x := A 179) rfl (List.Mem.head _) (zcV_i0 X E 179 (As := []) (st := []) rfl rfl rfl rfl (k_steps3 G Is1 JMDJ_s1 ) rfl (Nat.le_of_ble_eq_true rfl) (fun s6 e7 Is6 Fs6 hrs6 hps6 => ?_))
  have Gs6 := fm_tq Fs1 Fs6 rfl rfl
  refine z_bipush X rfl (z_load_n X (x := x3) rfl (List.Mem.tail _ (List.Mem.tail _ (List.Mem.head _))) (z_load_n X (x := x2) rfl (List.Mem.tail _ (List.Mem.head _)) (z_sub X rfl (z_anyV (fun y8 hy8 ey8 => ?_)))))
  refine z_mul X rfl (z_anyV (fun y9 hy9 ey9 => ?_))
  refine z_add X rfl (z_anyV (fun y10 hy10 ey10 => ?_))
  have hTN : Int32.ofInt y10 = Int32.ofInt (stpC U (pfM s) + 10 * (x3 - x2)) := ten_of (by have z := hps6; rw [(show pfM s1 = pfM s from funext (fun j => fm_c Fs1 (by decide)))] at z; rw [z]) ey8 ey9 ey10
  exact w_iret X.1 q hRt rfl (ax_d X (show cdA 251 102 = some (.ireturn, 1, 0, 0, 0) from rfl)) (Nat.zero_le _) (Nat.zero_le _) ⟨_, rfl, Is6, Gs6, y10, rfl, hy10, (csp_of (by have z := Qs1; rw [show x5 = 8 by omega] at z; exact z) hy10 ⟨fun h => by rw [hTN]; congr 1; omega, fun _ => hTN⟩)⟩
set_option maxRecDepth 4000 in
theorem k_costOf3 (G : GX l s0 D tys a0 dT) {U : AirD} (I : Bd s) (jRLx : RLx s) (jMDJ : MDJ U s) (p0 : iI s 89 = 1) : CT l s0 D A dT 252 (rmN 252) [.ref (A 179)] s (fun o t => Bd t ∧ Fm [77, 75, 78, 79, 80, 81] [202, 204, 205, 206, 207, 208, 209, 210, 211, 212, 213, 214, 215, 216, 217, 218, 219, 220, 221, 222, 223, 224, 225, 226, 227, 203, 161, 230, 233] s t ∧ RLx t ∧ ∃ e, o = .inl (some (.int (Int32.ofInt e))) ∧ rng e ∧ (CST U (pfM s) e ∧ FPQ U (pfM s) 8 t)) := by
  refine ct_of G (by decide) (Nat.le_of_ble_eq_true rfl) (fun k X E hRt hXt q => ?_)
  show WS k 0 [(0, .ref (A 179))] [] _ 0 0
  have F : Fm [77, 75, 78, 79, 80, 81] [202, 204, 205, 206, 207, 208, 209, 210, 211, 212, 213, 214, 215, 216, 217, 218, 219, 220, 221, 222, 223, 224, 225, 226, 227, 203, 161, 230, 233] s s := fm_rf _ _ s
  have b1 := bi_89 I
  refine z_aload_n X (x := A 179) rfl (List.Mem.head _) (zcV_v1 X E 179 (As := []) (st := []) rfl rfl rfl rfl (k_findPeaks3 G I jRLx jMDJ (by first | exact p0 | omega)) rfl (Nat.le_of_ble_eq_true rfl) (fun s2 Is2 Fs2 JRLx_s2 hps2 => ?_))
  have Gs2 := fm_tq F Fs2 rfl rfl
  have JRLx_s2 : RLx s2 := RLx_fm Fs2 (by decide) jRLx
  have JMDJ_s2 : MDJ U s2 := MDJ_fm Fs2 (by decide) jMDJ
  have ws2_89 : iI s2 89 = iI s 89 := fm_iq Fs2 rfl
  refine z_aload_n X (x := A 179) rfl (List.Mem.head _) (zcV_i0 X E 179 (As := []) (st := []) rfl rfl rfl rfl (k_costBy3 G Is2 JMDJ_s2 ) rfl (Nat.le_of_ble_eq_true rfl) (fun s4 e5 Is4 Fs4 hrs4 hps4 => ?_))
  have Gs4 := fm_tq Gs2 Fs4 rfl rfl
  have JRLx_s4 : RLx s4 := RLx_fm Fs4 (by decide) JRLx_s2
  have ws4_89 : iI s4 89 = iI s2 89 := fm_iq Fs4 rfl
  exact w_iret X.1 q hRt rfl (ax_d X (show cdA 252 8 = some (.ireturn, 1, 0, 0, 0) from rfl)) (Nat.zero_le _) (Nat.zero_le _) ⟨_, rfl, Is4, Gs4, JRLx_s4, e5, rfl, hrs4, ⟨cst_of hps2 (by have z := hps4; rw [(show pfM s2 = pfM s from funext (fun j => fm_c Fs2 (by decide)))] at z; exact z), fpq_s hps2 rfl (sam_fm Fs4 (by decide))⟩⟩
set_option maxRecDepth 4000 in
theorem k_tries3 (G : GX l s0 D tys a0 dT) {U : AirD} (I : Bd s) (jRLx : RLx s) (jMDJ : MDJ U s) {x y : Int} (p0 : 0 ≤ x ∧ x ≤ 127) (p1 : 0 ≤ y ∧ y ≤ 7) (p2 : iC s 228 (x : Int).toNat ≠ -1) (p3 : cndF (pfM s) (x : Int).toNat y) (p4 : FPQ U (pfM s) 8 s) (p5 : BSM U (pfM s) (fun j => iC s 229 j) (8 * (x : Int).toNat + (y : Int).toNat) s) (p6 : iI s 89 = 1) : CT l s0 D A dT 255 (rmN 255) [.ref (A 179), .int (Int32.ofInt x), .int (Int32.ofInt y)] s (fun o t => Bd t ∧ Fm [77, 75, 78, 79, 80, 81, 92, 93, 94] [202, 204, 205, 206, 207, 208, 209, 210, 211, 212, 213, 214, 215, 216, 217, 218, 219, 220, 221, 222, 223, 224, 225, 226, 227, 203, 161, 230, 233, 231, 232, 228] s t ∧ RLx t ∧ o = .inl none ∧ (SAM 228 s t ∧ SAM 233 s t ∧ BSM U (pfM s) (fun j => iC s 229 j) (8 * (x : Int).toNat + (y : Int).toNat + 1) t)) := by
  refine ct_of G (by decide) (Nat.le_of_ble_eq_true rfl) (fun k X E hRt hXt q => ?_)
  show WS k 0 [(0, .ref (A 179)), (1, .int (Int32.ofInt x)), (2, .int (Int32.ofInt y))] [] _ 0 0
  have F : Fm [77, 75, 78, 79, 80, 81, 92, 93, 94] [202, 204, 205, 206, 207, 208, 209, 210, 211, 212, 213, 214, 215, 216, 217, 218, 219, 220, 221, 222, 223, 224, 225, 226, 227, 203, 161, 230, 233, 231, 232, 228] s s := fm_rf _ _ s
  have aw0_228 : SAM 228 s s := sam_rf
  have aw0_233 : SAM 233 s s := sam_rf
  have hnp : y ≠ (iC s 228 (x : Int).toNat) := p3.2.1
  have hpO : pfM s (x : Int).toNat = iC s 228 (x : Int).toNat := rfl
  have b1 := bi_92 I
  have b2 := bi_93 I
  have b3 := bi_94 I
  have b4 := bi_89 I
  have L137 : ∀ (t : PS) (xv yv hd hpk tpk : Int), Bd t → Fm [77, 75, 78, 79, 80, 81, 92, 93, 94] [202, 204, 205, 206, 207, 208, 209, 210, 211, 212, 213, 214, 215, 216, 217, 218, 219, 220, 221, 222, 223, 224, 225, 226, 227, 203, 161, 230, 233, 231, 232, 228] s t → RLx t → MDJ U t → (TRJ U x y s t) → ((xv = x ∧ yv = y ∧ hd = (iC s 228 (x : Int).toNat)) ∧ (0 ≤ hd ∧ hd ≤ 7) ∧ (hpk = iC s 233 (iC s 228 (x : Int).toNat).toNat ∧ tpk = iC s 233 (y : Int).toNat) ∧ rng hpk ∧ rng tpk) → WS k 137 [(0, .ref (A 179)), (1, .int (Int32.ofInt xv)), (2, .int (Int32.ofInt yv)), (3, .int (Int32.ofInt hd)), (4, .int (Int32.ofInt hpk)), (5, .int (Int32.ofInt tpk))] [] (Wd A dT t) 0 0 := by
    intro t xv yv hd hpk tpk I F jjRLx jjMDJ hq hi
    have b1001 := bi_92 I
    have b1002 := bi_93 I
    have b1003 := bi_94 I
    have b1004 := bi_89 I
    refine z_aload_n X (x := A 179) rfl (List.Mem.head _) (s_getR X 179 rfl (c518_ok rfl) rfl rfl (z_load_n X (x := xv) rfl (List.Mem.tail _ (List.Mem.head _)) (z_load_n X (x := hd) rfl (List.Mem.tail _ (List.Mem.tail _ (List.Mem.tail _ (List.Mem.head _)))) (z_ast X 256 rfl (c518_ok rfl) rfl (by first | exact oq_e4757433 hi.1.1 p0.1 | omega) (show xv < 128 by first | exact oq_b797517e hi.1.1 p0.2 | omega) (cbig_ok rfl) (wd_gen (fun s1005 hs1005 => ?_))))))
    have Is1005 : Bd s1005 := eqB hs1005 (bd_C I (show ((-1) : Int) ≤ hd ∧ hd ≤ 7 by first | exact ⟨oq_ca54ea22 hi.2.1.1, hi.2.1.2⟩ | omega) ⟨by first | exact oq_fa4e5087 hi.2.1.1 | omega, by first | exact oq_0e78ca7d hi.2.1.2 | omega⟩)
    have Fs1005 := eqF hs1005 (fm_C F (inl_ok (a := 228) rfl))
    have ws1005_92 : iI s1005 92 = iI t 92 := eqI hs1005 rfl
    have ws1005_93 : iI s1005 93 = iI t 93 := eqI hs1005 rfl
    have ws1005_94 : iI s1005 94 = iI t 94 := eqI hs1005 rfl
    have ws1005_89 : iI s1005 89 = iI t 89 := eqI hs1005 rfl
    have aws1005_228 : UPD 228 (xv) hd t s1005 := by rw [hs1005]; exact upd_put (sam_rf (a := 228) (s := t)) ⟨by first | exact oq_fa4e5087 hi.2.1.1 | omega, by first | exact oq_0e78ca7d hi.2.1.2 | omega⟩
    have aws1005_233 : SAM 233 t s1005 := by rw [hs1005]; exact sam_C (by decide) (sam_rf (a := 233) (s := t))
    have fs1005 : Fm [] [228] t s1005 := by rw [hs1005]; exact fm_C (fm_rf _ _ _) (show 228 ∈ _ by decide)
    have JRLx_s1005 : RLx s1005 := RLx_fm fs1005 (by decide) jjRLx
    refine z_aload_n X (x := A 179) rfl (List.Mem.head _) (s_getR X 179 rfl (c518_ok rfl) rfl rfl (z_load_n X (x := hd) rfl (List.Mem.tail _ (List.Mem.tail _ (List.Mem.tail _ (List.Mem.head _)))) (z_load X (x := hpk) rfl (List.Mem.tail _ (List.Mem.tail _ (List.Mem.tail _ (List.Mem.tail _ (List.Mem.head _))))) (z_ast X 261 rfl (c518_ok rfl) rfl (by first | exact hi.2.1.1 | omega) (show hd < 8 by first | exact oq_aaea290e hi.2.1.2 | omega) (cbig_ok rfl) (wd_gen (fun s1006 hs1006 => ?_))))))
    have Is1006 : Bd s1006 := eqB hs1006 (bd_C Is1005 (show ((-2147483648) : Int) ≤ hpk ∧ hpk ≤ 2147483647 by first | exact ⟨hi.2.2.2.1.1, hi.2.2.2.1.2⟩ | omega) ⟨by first | exact hi.2.2.2.1.1 | omega, by first | exact hi.2.2.2.1.2 | omega⟩)
    have Fs1006 := eqF hs1006 (fm_C Fs1005 (inl_ok (a := 233) rfl))
    have ws1006_92 : iI s1006 92 = iI s1005 92 := eqI hs1006 rfl
    have ws1006_93 : iI s1006 93 = iI s1005 93 := eqI hs1006 rfl
    have ws1006_94 : iI s1006 94 = iI s1005 94 := eqI hs1006 rfl
    have ws1006_89 : iI s1006 89 = iI s1005 89 := eqI hs1006 rfl
    have aws1006_228 : UPD 228 (xv) hd t s1006 := by rw [hs1006]; exact upd_C (by decide) aws1005_228
    have aws1006_233 : UPD 233 (hd) hpk t s1006 := by rw [hs1006]; exact upd_put aws1005_233 ⟨by first | exact hi.2.2.2.1.1 | omega, by first | exact hi.2.2.2.1.2 | omega⟩
    have fs1006 : Fm [] [233] s1005 s1006 := by rw [hs1006]; exact fm_C (fm_rf _ _ _) (show 233 ∈ _ by decide)
    have JRLx_s1006 : RLx s1006 := RLx_fm fs1006 (by decide) JRLx_s1005
    refine z_aload_n X (x := A 179) rfl (List.Mem.head _) (s_getR X 179 rfl (c518_ok rfl) rfl rfl (z_load_n X (x := yv) rfl (List.Mem.tail _ (List.Mem.tail _ (List.Mem.head _))) (z_load X (x := tpk) rfl (List.Mem.tail _ (List.Mem.tail _ (List.Mem.tail _ (List.Mem.tail _ (List.Mem.tail _ (List.Mem.head _)))))) (z_ast X 261 rfl (c518_ok rfl) rfl (by first | exact oq_e4757433 hi.1.2.1 p1.1 | omega) (show yv < 8 by first | exact oq_50c017b4 hi.1.2.1 p1.2 | omega) (cbig_ok rfl) (wd_gen (fun s1007 hs1007 => ?_))))))
    have Is1007 : Bd s1007 := eqB hs1007 (bd_C Is1006 (show ((-2147483648) : Int) ≤ tpk ∧ tpk ≤ 2147483647 by first | exact ⟨hi.2.2.2.2.1, hi.2.2.2.2.2⟩ | omega) ⟨by first | exact hi.2.2.2.2.1 | omega, by first | exact hi.2.2.2.2.2 | omega⟩)
    have Fs1007 := eqF hs1007 (fm_C Fs1006 (inl_ok (a := 233) rfl))
    have ws1007_92 : iI s1007 92 = iI s1006 92 := eqI hs1007 rfl
    have ws1007_93 : iI s1007 93 = iI s1006 93 := eqI hs1007 rfl
    have ws1007_94 : iI s1007 94 = iI s1006 94 := eqI hs1007 rfl
    have ws1007_89 : iI s1007 89 = iI s1006 89 := eqI hs1007 rfl
    have fs1007 : Fm [] [233] s1006 s1007 := by rw [hs1007]; exact fm_C (fm_rf _ _ _) (show 233 ∈ _ by decide)
    have JRLx_s1007 : RLx s1007 := RLx_fm fs1007 (by decide) JRLx_s1006
    have hE1 : SAM 228 s s1007 := sam_ts (trj_e hq (by have z := aws1005_228; rw [show xv = x by first | (clear p2; omega) | omega, show hd = (iC s 228 (x : Int).toNat) by first | (clear p2; omega) | omega] at z; exact z)) (fun j => by rw [hs1007, hs1006]; exact (iC_a (by decide)).trans (iC_a (by decide)))
    have hE3 : UPD 233 y tpk s1006 s1007 := by rw [hs1007, show y = yv by first | (clear p2; omega) | omega]; exact upd_put sam_rf ⟨by first | exact hi.2.2.2.2.1 | omega, by first | exact hi.2.2.2.2.2 | omega⟩
    have hE2 : SAM 233 s s1007 := trj_p (u := s1006) hq (by first | (clear p2; omega) | omega) (by first | (clear p2; omega) | omega) (by have z := aws1006_233; rw [show hd = (iC s 228 (x : Int).toNat) by first | (clear p2; omega) | omega] at z; exact z) hE3 (by first | (clear p2; omega) | omega) (by first | (clear p2; omega) | omega)
    exact w_vret X.1 q hRt (ax_d X (show cdA 255 160 = some (.return_, 1, 0, 0, 0) from rfl)) (Nat.zero_le _) (Nat.zero_le _) ⟨_, rfl, Is1007, Fs1007, JRLx_s1007, rfl, ⟨hE1, hE2, bsm_s hq.2.2 (by first | (clear p2; omega) | omega) (by first | (clear p2; omega) | omega) (by first | (clear p2; omega) | omega)⟩⟩
  refine z_aload_n X (x := A 179) rfl (List.Mem.head _) (s_getR X 179 rfl (c518_ok rfl) rfl rfl (z_load_n X (x := x) rfl (List.Mem.tail _ (List.Mem.head _)) (z_ald X 256 rfl (c518_ok rfl) rfl (by first | exact p0.1 | omega) (show x < 128 by first | exact oq_31b2bf10 p0.2 | omega) (cbig_ok rfl) ?_)))
  have b5 := bc_228 I (show (x).toNat < 128 by first | exact oq_c7f4e9c1 p0.2 | omega)
  have ar6 : iC s 228 (x).toNat = iC s 228 (x).toNat := aw0_228 _
  refine z_store_n X (lv' := [(3, .int (Int32.ofInt (iC s 228 (x).toNat))), (0, .ref (A 179)), (1, .int (Int32.ofInt x)), (2, .int (Int32.ofInt y))]) rfl (by decide) (fun _ h => h) (z_aload_n X (x := A 179) rfl (List.Mem.tail _ (List.Mem.head _)) (s_getR X 179 rfl (c518_ok rfl) rfl rfl (z_load_n X (x := (iC s 228 (x).toNat)) rfl (List.Mem.head _) (z_ald X 261 rfl (c518_ok rfl) rfl (by first | exact oq_5234833b b5.1 p2 | omega) (show (iC s 228 (x).toNat) < 8 by first | exact oq_aaea290e b5.2 | omega) (cbig_ok rfl) ?_))))
  have b7 := bc_233 I (show ((iC s 228 (x).toNat)).toNat < 8 by first | exact oq_c19a3aae b5.2 | omega)
  have ar8 : iC s 233 ((iC s 228 (x).toNat)).toNat = iC s 233 ((iC s 228 (x).toNat)).toNat := aw0_233 _
  refine z_store X (lv' := [(4, .int (Int32.ofInt (iC s 233 ((iC s 228 (x).toNat)).toNat))), (3, .int (Int32.ofInt (iC s 228 (x).toNat))), (0, .ref (A 179)), (1, .int (Int32.ofInt x)), (2, .int (Int32.ofInt y))]) rfl (by decide) (fun _ h => h) (z_aload_n X (x := A 179) rfl (List.Mem.tail _ (List.Mem.tail _ (List.Mem.head _))) (s_getR X 179 rfl (c518_ok rfl) rfl rfl (z_load_n X (x := y) rfl (List.Mem.tail _ (List.Mem.tail _ (List.Mem.tail _ (List.Mem.tail _ (List.Mem.head _))))) (z_ald X 261 rfl (c518_ok rfl) rfl (by first | exact p1.1 | omega) (show y < 8 by first | exact oq_aaea290e p1.2 | omega) (cbig_ok rfl) ?_))))
  have b9 := bc_233 I (show (y).toNat < 8 by first | exact oq_c19a3aae p1.2 | omega)
  have ar10 : iC s 233 (y).toNat = iC s 233 (y).toNat := aw0_233 _
  refine z_store X (lv' := [(5, .int (Int32.ofInt (iC s 233 (y).toNat))), (4, .int (Int32.ofInt (iC s 233 ((iC s 228 (x).toNat)).toNat))), (3, .int (Int32.ofInt (iC s 228 (x).toNat))), (0, .ref (A 179)), (1, .int (Int32.ofInt x)), (2, .int (Int32.ofInt y))]) rfl (by decide) (fun _ h => h) (z_aload_n X (x := A 179) rfl (List.Mem.tail _ (List.Mem.tail _ (List.Mem.tail _ (List.Mem.head _)))) (s_getR X 179 rfl (c518_ok rfl) rfl rfl (z_load_n X (x := x) rfl (List.Mem.tail _ (List.Mem.tail _ (List.Mem.tail _ (List.Mem.tail _ (List.Mem.head _))))) (z_load_n X (x := y) rfl (List.Mem.tail _ (List.Mem.tail _ (List.Mem.tail _ (List.Mem.tail _ (List.Mem.tail _ (List.Mem.head _)))))) (z_ast X 256 rfl (c518_ok rfl) rfl (by first | exact p0.1 | omega) (show x < 128 by first | exact oq_31b2bf10 p0.2 | omega) (cbig_ok rfl) (wd_gen (fun s11 hs11 => ?_)))))))
  have Is11 : Bd s11 := eqB hs11 (bd_C I (show ((-1) : Int) ≤ y ∧ y ≤ 7 by first | exact ⟨oq_ca54ea22 p1.1, p1.2⟩ | omega) ⟨by first | exact oq_fa4e5087 p1.1 | omega, by first | exact oq_0e78ca7d p1.2 | omega⟩)
  have Fs11 := eqF hs11 (fm_C F (inl_ok (a := 228) rfl))
  have ws11_92 : iI s11 92 = iI s 92 := eqI hs11 rfl
  have ws11_93 : iI s11 93 = iI s 93 := eqI hs11 rfl
  have ws11_94 : iI s11 94 = iI s 94 := eqI hs11 rfl
  have ws11_89 : iI s11 89 = iI s 89 := eqI hs11 rfl
  have aws11_228 : UPD 228 (x) y s s11 := by rw [hs11]; exact upd_put aw0_228 ⟨by first | exact oq_fa4e5087 p1.1 | omega, by first | exact oq_0e78ca7d p1.2 | omega⟩
  have aws11_233 : SAM 233 s s11 := by rw [hs11]; exact sam_C (by decide) aw0_233
  have fs11 : Fm [] [228] s s11 := by rw [hs11]; exact fm_C (fm_rf _ _ _) (show 228 ∈ _ by decide)
  have JRLx_s11 : RLx s11 := RLx_fm fs11 (by decide) jRLx
  have JMDJ_s11 : MDJ U s11 := MDJ_fm fs11 (by decide) jMDJ
  have hP0 : pfM s11 = (upF (pfM s) (x : Int).toNat y) := upm_upd aws11_228
  refine z_aload_n X (x := A 179) rfl (List.Mem.tail _ (List.Mem.tail _ (List.Mem.tail _ (List.Mem.head _)))) (z_load_n X (x := (iC s 228 (x).toNat)) rfl (List.Mem.tail _ (List.Mem.tail _ (List.Mem.head _))) (zcV_i0 X E 179 (As := [.int (Int32.ofInt (iC s 228 (x).toNat))]) (st := []) rfl rfl rfl rfl (k_has3 G Is11 (by first | exact ⟨oq_97ee2c2a b5.1, oq_0e78ca7d b5.2⟩ | omega)) rfl (Nat.le_of_ble_eq_true rfl) (fun s12 e13 Is12 Fs12 hrs12 hps12 => ?_)))
  have hps12p := hps12.2
  have Gs12 := fm_tq Fs11 Fs12 rfl rfl
  have JRLx_s12 : RLx s12 := RLx_fm Fs12 (by decide) JRLx_s11
  have JMDJ_s12 : MDJ U s12 := MDJ_fm Fs12 (by decide) JMDJ_s11
  have ws12_92 : iI s12 92 = iI s11 92 := fm_iq Fs12 rfl
  have ws12_93 : iI s12 93 = iI s11 93 := fm_iq Fs12 rfl
  have ws12_94 : iI s12 94 = iI s11 94 := fm_iq Fs12 rfl
  have ws12_89 : iI s12 89 = iI s11 89 := fm_iq Fs12 rfl
  have aws12_228 : UPD 228 (x) y s s12 := upd_ts aws11_228 (sam_fm Fs12 (by decide))
  have aws12_233 : SAM 233 s s12 := sam_ts aws11_233 (sam_fm Fs12 (by decide))
  have hPs12 : pfM s12 = (upF (pfM s) (x : Int).toNat y) := (show pfM s12 = pfM s11 from funext (fun j => fm_c Fs12 (by decide))).trans hP0
  have hA1 : (e13 = 0 ∨ e13 = 1) ∧ HCE (pcS (upF (pfM s) (x : Int).toNat y) (iC s 228 (x : Int).toNat)) e13 := by have z := hps12; rw [hP0] at z; exact z
  refine z_if_eq X (t := 137) rfl rfl hrs12 (fun g14 => ?_) (fun g14 => ?_)
  ·
    refine WS_pq [3, 4, 5, 2, 1, 0] (lv' := [(0, .ref (A 179)), (1, .int (Int32.ofInt x)), (2, .int (Int32.ofInt y)), (3, .int (Int32.ofInt (iC s 228 (x).toNat))), (4, .int (Int32.ofInt (iC s 233 ((iC s 228 (x).toNat)).toNat))), (5, .int (Int32.ofInt (iC s 233 (y).toNat)))]) rfl ?_
    exact L137 _ x y (iC s 228 (x).toNat) (iC s 233 ((iC s 228 (x).toNat)).toNat) (iC s 233 (y).toNat) Is12 Gs12 JRLx_s12 JMDJ_s12 (trj_n p5 p1 hPs12 (fun j _ _ => aws12_233 j) (by first | (clear hps12 p2; omega) | (clear p2; omega) | omega) (by first | (clear hps12 p2; omega) | (clear p2; omega) | omega) (by first | (clear hps12 p2; omega) | (clear p2; omega) | omega) (fun q => hce_n hA1.2 (by first | (clear hps12 p2; omega) | (clear p2; omega) | omega) (by first | (clear hps12 p2; omega) | (clear p2; omega) | omega) q.1)) (by first | exact ⟨And.intro (by decide) (And.intro (by decide) (by decide)), oq_fd076cf3 b5.2 b5.1 hnp p2 p1.2 p1.1, And.intro (by decide) (by decide), And.intro (b7.1) (b7.2), b9.1, b9.2⟩ | omega)
  ·
    refine z_aload_n X (x := A 179) rfl (List.Mem.tail _ (List.Mem.tail _ (List.Mem.tail _ (List.Mem.head _)))) (z_load_n X (x := (iC s 228 (x).toNat)) rfl (List.Mem.tail _ (List.Mem.tail _ (List.Mem.head _))) (zcV_i0 X E 179 (As := [.int (Int32.ofInt (iC s 228 (x).toNat))]) (st := []) rfl rfl rfl rfl (k_whole3 G Is12 (by first | exact ⟨oq_97ee2c2a b5.1, oq_0e78ca7d b5.2⟩ | omega)) rfl (Nat.le_of_ble_eq_true rfl) (fun s15 e16 Is15 Fs15 hrs15 hps15 => ?_)))
    have hps15p := hps15.2
    have Gs15 := fm_tq Gs12 Fs15 rfl rfl
    have JRLx_s15 : RLx s15 := RLx_fm Fs15 (by decide) JRLx_s12
    have JMDJ_s15 : MDJ U s15 := MDJ_fm Fs15 (by decide) JMDJ_s12
    have ws15_92 : iI s15 92 = iI s12 92 := fm_iq Fs15 rfl
    have ws15_93 : iI s15 93 = iI s12 93 := fm_iq Fs15 rfl
    have ws15_94 : iI s15 94 = iI s12 94 := fm_iq Fs15 rfl
    have ws15_89 : iI s15 89 = iI s12 89 := fm_iq Fs15 rfl
    have aws15_228 : UPD 228 (x) y s s15 := upd_ts aws12_228 (sam_fm Fs15 (by decide))
    have aws15_233 : SAM 233 s s15 := sam_ts aws12_233 (sam_fm Fs15 (by decide))
    have hPs15 : pfM s15 = (upF (pfM s) (x : Int).toNat y) := (show pfM s15 = pfM s12 from funext (fun j => fm_c Fs15 (by decide))).trans hPs12
    have hA2 : (e16 = 0 ∨ e16 = 1) ∧ HGE (pcS (upF (pfM s) (x : Int).toNat y) (iC s 228 (x : Int).toNat)) e16 := by have z := hps15; rw [hPs12] at z; exact z
    refine z_if_eq X (t := 137) rfl rfl hrs15 (fun g17 => ?_) (fun g17 => ?_)
    ·
      refine WS_pq [3, 4, 5, 2, 1, 0] (lv' := [(0, .ref (A 179)), (1, .int (Int32.ofInt x)), (2, .int (Int32.ofInt y)), (3, .int (Int32.ofInt (iC s 228 (x).toNat))), (4, .int (Int32.ofInt (iC s 233 ((iC s 228 (x).toNat)).toNat))), (5, .int (Int32.ofInt (iC s 233 (y).toNat)))]) rfl ?_
      exact L137 _ x y (iC s 228 (x).toNat) (iC s 233 ((iC s 228 (x).toNat)).toNat) (iC s 233 (y).toNat) Is15 Gs15 JRLx_s15 JMDJ_s15 (trj_n p5 p1 hPs15 (fun j _ _ => aws15_233 j) (by first | (clear hps15 g14 hps12 p2; omega) | (clear g14 hps12 p2; omega) | omega) (by first | (clear hps15 g14 hps12 p2; omega) | (clear g14 hps12 p2; omega) | omega) (by first | (clear hps15 g14 hps12 p2; omega) | (clear g14 hps12 p2; omega) | omega) (fun q => hge_n hA2.2 (by first | (clear hps15 g14 hps12 p2; omega) | (clear g14 hps12 p2; omega) | omega) q.2.1)) (by first | exact ⟨And.intro (by decide) (And.intro (by decide) (by decide)), oq_32dbbfbd b5.2 b5.1 p2, And.intro (by decide) (by decide), And.intro (b7.1) (b7.2), b9.1, b9.2⟩ | omega)
    ·
      refine z_aload_n X (x := A 179) rfl (List.Mem.tail _ (List.Mem.tail _ (List.Mem.tail _ (List.Mem.head _)))) (z_load_n X (x := y) rfl (List.Mem.tail _ (List.Mem.tail _ (List.Mem.tail _ (List.Mem.tail _ (List.Mem.tail _ (List.Mem.head _)))))) (zcV_i0 X E 179 (As := [.int (Int32.ofInt y)]) (st := []) rfl rfl rfl rfl (k_whole3 G Is15 (by first | exact ⟨oq_fa4e5087 p1.1, oq_0e78ca7d p1.2⟩ | omega)) rfl (Nat.le_of_ble_eq_true rfl) (fun s18 e19 Is18 Fs18 hrs18 hps18 => ?_)))
      have hps18p := hps18.2
      have Gs18 := fm_tq Gs15 Fs18 rfl rfl
      have JRLx_s18 : RLx s18 := RLx_fm Fs18 (by decide) JRLx_s15
      have JMDJ_s18 : MDJ U s18 := MDJ_fm Fs18 (by decide) JMDJ_s15
      have ws18_92 : iI s18 92 = iI s15 92 := fm_iq Fs18 rfl
      have ws18_93 : iI s18 93 = iI s15 93 := fm_iq Fs18 rfl
      have ws18_94 : iI s18 94 = iI s15 94 := fm_iq Fs18 rfl
      have ws18_89 : iI s18 89 = iI s15 89 := fm_iq Fs18 rfl
      have aws18_228 : UPD 228 (x) y s s18 := upd_ts aws15_228 (sam_fm Fs18 (by decide))
      have aws18_233 : SAM 233 s s18 := sam_ts aws15_233 (sam_fm Fs18 (by decide))
      have hPs18 : pfM s18 = (upF (pfM s) (x : Int).toNat y) := (show pfM s18 = pfM s15 from funext (fun j => fm_c Fs18 (by decide))).trans hPs15
      have hA3 : (e19 = 0 ∨ e19 = 1) ∧ HGE (pcS (upF (pfM s) (x : Int).toNat y) y) e19 := by have z := hps18; rw [hPs15] at z; exact z
      refine z_if_eq X (t := 137) rfl rfl hrs18 (fun g20 => ?_) (fun g20 => ?_)
      ·
        refine WS_pq [3, 4, 5, 2, 1, 0] (lv' := [(0, .ref (A 179)), (1, .int (Int32.ofInt x)), (2, .int (Int32.ofInt y)), (3, .int (Int32.ofInt (iC s 228 (x).toNat))), (4, .int (Int32.ofInt (iC s 233 ((iC s 228 (x).toNat)).toNat))), (5, .int (Int32.ofInt (iC s 233 (y).toNat)))]) rfl ?_
        exact L137 _ x y (iC s 228 (x).toNat) (iC s 233 ((iC s 228 (x).toNat)).toNat) (iC s 233 (y).toNat) Is18 Gs18 JRLx_s18 JMDJ_s18 (trj_n p5 p1 hPs18 (fun j _ _ => aws18_233 j) (by first | (clear hps18 g17 hps15 g14 hps12 p2; omega) | (clear g17 hps15 g14 hps12 p2; omega) | omega) (by first | (clear hps18 g17 hps15 g14 hps12 p2; omega) | (clear g17 hps15 g14 hps12 p2; omega) | omega) (by first | (clear hps18 g17 hps15 g14 hps12 p2; omega) | (clear g17 hps15 g14 hps12 p2; omega) | omega) (fun q => hge_n hA3.2 (by first | (clear hps18 g17 hps15 g14 hps12 p2; omega) | (clear g17 hps15 g14 hps12 p2; omega) | omega) q.2.2.1)) (by first | exact ⟨And.intro (by decide) (And.intro (by decide) (by decide)), oq_32dbbfbd b5.2 b5.1 p2, And.intro (by decide) (by decide), And.intro (b7.1) (b7.2), b9.1, b9.2⟩ | omega)
      ·
        refine z_aload_n X (x := A 179) rfl (List.Mem.tail _ (List.Mem.tail _ (List.Mem.tail _ (List.Mem.head _)))) (s_getR X 179 rfl (c518_ok rfl) rfl rfl (z_load_n X (x := (iC s 228 (x).toNat)) rfl (List.Mem.tail _ (List.Mem.tail _ (List.Mem.head _))) (z_aload_n X (x := A 179) rfl (List.Mem.tail _ (List.Mem.tail _ (List.Mem.tail _ (List.Mem.head _)))) (z_load_n X (x := (iC s 228 (x).toNat)) rfl (List.Mem.tail _ (List.Mem.tail _ (List.Mem.head _))) (zcV_i1 X E 179 (As := [.int (Int32.ofInt (iC s 228 (x).toNat))]) (st := [.int (Int32.ofInt (iC s 228 (x).toNat)), .ref (A 261)]) rfl rfl rfl rfl (k_peakPiece3 G Is18 JRLx_s18 JMDJ_s18 (by first | exact ⟨oq_97ee2c2a b5.1, oq_0e78ca7d b5.2⟩ | omega) (by first | exact oq_094d069b ws18_89 ws15_89 ws12_89 ws11_89 p6 b4.1 | omega)) rfl (Nat.le_of_ble_eq_true rfl) (fun s21 e22 Is21 Fs21 JRLx_s21 hrs21 hps21 => ?_))))))
        have Gs21 := fm_tq Gs18 Fs21 rfl rfl
        have JRLx_s21 : RLx s21 := RLx_fm Fs21 (by decide) JRLx_s18
        have JMDJ_s21 : MDJ U s21 := MDJ_fm Fs21 (by decide) JMDJ_s18
        have ws21_92 : iI s21 92 = iI s18 92 := fm_iq Fs21 rfl
        have ws21_93 : iI s21 93 = iI s18 93 := fm_iq Fs21 rfl
        have ws21_94 : iI s21 94 = iI s18 94 := fm_iq Fs21 rfl
        have ws21_89 : iI s21 89 = iI s18 89 := fm_iq Fs21 rfl
        have aws21_228 : UPD 228 (x) y s s21 := upd_ts aws18_228 (sam_fm Fs21 (by decide))
        have aws21_233 : SAM 233 s s21 := sam_ts aws18_233 (sam_fm Fs21 (by decide))
        have hPs21 : pfM s21 = (upF (pfM s) (x : Int).toNat y) := (show pfM s21 = pfM s18 from funext (fun j => fm_c Fs21 (by decide))).trans hPs18
        have hK1 : e22 = pkH U (pcS (upF (pfM s) (x : Int).toNat y) (iC s 228 (x : Int).toNat)) := by have z := hps21; rw [hPs18] at z; exact z
        refine z_ast X 261 rfl (c518_ok rfl) rfl (by first | exact oq_5234833b b5.1 p2 | omega) (show (iC s 228 (x).toNat) < 8 by first | exact oq_aaea290e b5.2 | omega) (cbig_ok rfl) (wd_gen (fun s23 hs23 => ?_))
        have Is23 : Bd s23 := eqB hs23 (bd_C Is21 (show ((-2147483648) : Int) ≤ e22 ∧ e22 ≤ 2147483647 by first | (clear g20 hps18 g17 hps15 g14 hps12 p2; omega) | (clear hps18 g17 hps15 g14 hps12 p2; omega) | omega) hrs21)
        have Fs23 := eqF hs23 (fm_C Gs21 (inl_ok (a := 233) rfl))
        have ws23_92 : iI s23 92 = iI s21 92 := eqI hs23 rfl
        have ws23_93 : iI s23 93 = iI s21 93 := eqI hs23 rfl
        have ws23_94 : iI s23 94 = iI s21 94 := eqI hs23 rfl
        have ws23_89 : iI s23 89 = iI s21 89 := eqI hs23 rfl
        have aws23_228 : UPD 228 (x) y s s23 := by rw [hs23]; exact upd_C (by decide) aws21_228
        have aws23_233 : UPD 233 ((iC s 228 (x).toNat)) e22 s s23 := by rw [hs23]; exact upd_put aws21_233 hrs21
        have fs23 : Fm [] [233] s21 s23 := by rw [hs23]; exact fm_C (fm_rf _ _ _) (show 233 ∈ _ by decide)
        have JRLx_s23 : RLx s23 := RLx_fm fs23 (by decide) JRLx_s21
        have JMDJ_s23 : MDJ U s23 := MDJ_fm fs23 (by decide) JMDJ_s21
        have hPa : pfM s23 = (upF (pfM s) (x : Int).toNat y) := (show pfM s23 = pfM s21 from funext (fun j => by rw [hs23]; exact iC_a (by decide))).trans hPs21
        refine z_aload_n X (x := A 179) rfl (List.Mem.tail _ (List.Mem.tail _ (List.Mem.tail _ (List.Mem.head _)))) (s_getR X 179 rfl (c518_ok rfl) rfl rfl (z_load_n X (x := y) rfl (List.Mem.tail _ (List.Mem.tail _ (List.Mem.tail _ (List.Mem.tail _ (List.Mem.tail _ (List.Mem.head _)))))) (z_aload_n X (x := A 179) rfl (List.Mem.tail _ (List.Mem.tail _ (List.Mem.tail _ (List.Mem.head _)))) (z_load_n X (x := y) rfl (List.Mem.tail _ (List.Mem.tail _ (List.Mem.tail _ (List.Mem.tail _ (List.Mem.tail _ (List.Mem.head _)))))) (zcV_i1 X E 179 (As := [.int (Int32.ofInt y)]) (st := [.int (Int32.ofInt y), .ref (A 261)]) rfl rfl rfl rfl (k_peakPiece3 G Is23 JRLx_s23 JMDJ_s23 (by first | exact ⟨oq_fa4e5087 p1.1, oq_0e78ca7d p1.2⟩ | omega) (by first | exact oq_78c81c75 ws23_89 ws21_89 ws18_89 ws15_89 ws12_89 ws11_89 b4.1 p6 | omega)) rfl (Nat.le_of_ble_eq_true rfl) (fun s24 e25 Is24 Fs24 JRLx_s24 hrs24 hps24 => ?_))))))
        have Gs24 := fm_tq Fs23 Fs24 rfl rfl
        have JRLx_s24 : RLx s24 := RLx_fm Fs24 (by decide) JRLx_s23
        have JMDJ_s24 : MDJ U s24 := MDJ_fm Fs24 (by decide) JMDJ_s23
        have ws24_92 : iI s24 92 = iI s23 92 := fm_iq Fs24 rfl
        have ws24_93 : iI s24 93 = iI s23 93 := fm_iq Fs24 rfl
        have ws24_94 : iI s24 94 = iI s23 94 := fm_iq Fs24 rfl
        have ws24_89 : iI s24 89 = iI s23 89 := fm_iq Fs24 rfl
        have aws24_228 : UPD 228 (x) y s s24 := upd_ts aws23_228 (sam_fm Fs24 (by decide))
        have aws24_233 : UPD 233 ((iC s 228 (x).toNat)) e22 s s24 := upd_ts aws23_233 (sam_fm Fs24 (by decide))
        have hPs24 : pfM s24 = (upF (pfM s) (x : Int).toNat y) := (show pfM s24 = pfM s23 from funext (fun j => fm_c Fs24 (by decide))).trans hPa
        have hK2 : e25 = pkH U (pcS (upF (pfM s) (x : Int).toNat y) y) := by have z := hps24; rw [hPa] at z; exact z
        refine z_ast X 261 rfl (c518_ok rfl) rfl (by first | exact p1.1 | omega) (show y < 8 by first | exact oq_aaea290e p1.2 | omega) (cbig_ok rfl) (wd_gen (fun s26 hs26 => ?_))
        have Is26 : Bd s26 := eqB hs26 (bd_C Is24 (show ((-2147483648) : Int) ≤ e25 ∧ e25 ≤ 2147483647 by first | (clear g20 hps18 g17 hps15 g14 hps12 p2; omega) | (clear hps18 g17 hps15 g14 hps12 p2; omega) | omega) hrs24)
        have Fs26 := eqF hs26 (fm_C Gs24 (inl_ok (a := 233) rfl))
        have ws26_92 : iI s26 92 = iI s24 92 := eqI hs26 rfl
        have ws26_93 : iI s26 93 = iI s24 93 := eqI hs26 rfl
        have ws26_94 : iI s26 94 = iI s24 94 := eqI hs26 rfl
        have ws26_89 : iI s26 89 = iI s24 89 := eqI hs26 rfl
        have aws26_228 : UPD 228 (x) y s s26 := by rw [hs26]; exact upd_C (by decide) aws24_228
        have fs26 : Fm [] [233] s24 s26 := by rw [hs26]; exact fm_C (fm_rf _ _ _) (show 233 ∈ _ by decide)
        have JRLx_s26 : RLx s26 := RLx_fm fs26 (by decide) JRLx_s24
        have JMDJ_s26 : MDJ U s26 := MDJ_fm fs26 (by decide) JMDJ_s24
        have hPb : pfM s26 = (upF (pfM s) (x : Int).toNat y) := (show pfM s26 = pfM s24 from funext (fun j => by rw [hs26]; exact iC_a (by decide))).trans hPs24
        have hQ1 : UPD 233 (iC s 228 (x : Int).toNat) e22 s s23 := aws23_233
        have hQ2 : SAM 233 s23 s24 := fun j => (fm_c Fs24 (by decide))
        have hQ3 : UPD 233 y e25 s23 s26 := by rw [hs26]; exact upd_put hQ2 hrs24
        have hQ4 : ∀ j : Nat, (j : Int) ≠ (iC s 228 (x : Int).toNat) → (j : Int) ≠ y → iC s26 233 j = iC s 233 j := fun j j1 j2 => (hQ3.2 j (by first | (clear g20 hps18 g17 hps15 g14 hps12 p2; omega) | (clear hps18 g17 hps15 g14 hps12 p2; omega) | omega)).trans (hQ1.2 j (by first | (clear g20 hps18 g17 hps15 g14 hps12 p2; omega) | (clear hps18 g17 hps15 g14 hps12 p2; omega) | omega))
        have hQ5 : iC s26 233 (iC s 228 (x : Int).toNat).toNat = e22 := (hQ3.2 _ (by first | (clear g20 hps18 g17 hps15 g14 hps12 p2; omega) | (clear hps18 g17 hps15 g14 hps12 p2; omega) | omega)).trans hQ1.1
        have hQ6 : iC s26 233 (y : Int).toNat = e25 := hQ3.1
        have hFP : FPQ U (upF (pfM s) (x : Int).toNat y) 8 s26 := fpq_mv p4 p0 rfl (by first | (clear g20 hps18 g17 hps15 g14 hps12 p2; omega) | (clear hps18 g17 hps15 g14 hps12 p2; omega) | omega) (by first | (clear g20 hps18 g17 hps15 g14 hps12 p2; omega) | (clear hps18 g17 hps15 g14 hps12 p2; omega) | omega) hQ4 (hQ5.trans hK1) (hQ6.trans hK2)
        refine z_aload_n X (x := A 179) rfl (List.Mem.tail _ (List.Mem.tail _ (List.Mem.tail _ (List.Mem.head _)))) (zcV_i0 X E 179 (As := []) (st := []) rfl rfl rfl rfl (k_costBy3 G Is26 JMDJ_s26 ) rfl (Nat.le_of_ble_eq_true rfl) (fun s27 e28 Is27 Fs27 hrs27 hps27 => ?_))
        have Gs27 := fm_tq Fs26 Fs27 rfl rfl
        have JRLx_s27 : RLx s27 := RLx_fm Fs27 (by decide) JRLx_s26
        have JMDJ_s27 : MDJ U s27 := MDJ_fm Fs27 (by decide) JMDJ_s26
        have ws27_92 : iI s27 92 = iI s26 92 := fm_iq Fs27 rfl
        have ws27_93 : iI s27 93 = iI s26 93 := fm_iq Fs27 rfl
        have ws27_94 : iI s27 94 = iI s26 94 := fm_iq Fs27 rfl
        have ws27_89 : iI s27 89 = iI s26 89 := fm_iq Fs27 rfl
        have aws27_228 : UPD 228 (x) y s s27 := upd_ts aws26_228 (sam_fm Fs27 (by decide))
        have hPs27 : pfM s27 = (upF (pfM s) (x : Int).toNat y) := (show pfM s27 = pfM s26 from funext (fun j => fm_c Fs27 (by decide))).trans hPb
        have hCS : CST U (upF (pfM s) (x : Int).toNat y) e28 := cst_of hFP (by have z := hps27; rw [hPb] at z; exact z)
        have hR1 : iC s27 233 (iC s 228 (x : Int).toNat).toNat = iC s26 233 (iC s 228 (x : Int).toNat).toNat := fm_c Fs27 (by decide)
        have hR2 : iC s27 233 (y : Int).toNat = iC s26 233 (y : Int).toNat := fm_c Fs27 (by decide)
        have hR3 : iC s27 229 (iC s 228 (x : Int).toNat).toNat = iC s 229 (iC s 228 (x : Int).toNat).toNat := fm_c Gs27 (by decide)
        have hR4 : iC s27 229 (y : Int).toNat = iC s 229 (y : Int).toNat := fm_c Gs27 (by decide)
        refine z_store X (lv' := [(6, .int (Int32.ofInt e28)), (5, .int (Int32.ofInt (iC s 233 (y).toNat))), (4, .int (Int32.ofInt (iC s 233 ((iC s 228 (x).toNat)).toNat))), (3, .int (Int32.ofInt (iC s 228 (x).toNat))), (0, .ref (A 179)), (1, .int (Int32.ofInt x)), (2, .int (Int32.ofInt y))]) rfl (by decide) (fun _ h => h) (z_aload_n X (x := A 179) rfl (List.Mem.tail _ (List.Mem.tail _ (List.Mem.tail _ (List.Mem.tail _ (List.Mem.head _))))) (s_getR X 179 rfl (c518_ok rfl) rfl rfl (z_load_n X (x := (iC s 228 (x).toNat)) rfl (List.Mem.tail _ (List.Mem.tail _ (List.Mem.tail _ (List.Mem.head _)))) (z_ald X 261 rfl (c518_ok rfl) rfl (by first | exact oq_5234833b b5.1 p2 | omega) (show (iC s 228 (x).toNat) < 8 by first | exact oq_aaea290e b5.2 | omega) (cbig_ok rfl) ?_))))
        have b29 := bc_233 Is27 (show ((iC s 228 (x).toNat)).toNat < 8 by first | exact oq_c19a3aae b5.2 | omega)
        refine z_aload_n X (x := A 179) rfl (List.Mem.tail _ (List.Mem.tail _ (List.Mem.tail _ (List.Mem.tail _ (List.Mem.head _))))) (s_getR X 179 rfl (c518_ok rfl) rfl rfl (z_load_n X (x := (iC s 228 (x).toNat)) rfl (List.Mem.tail _ (List.Mem.tail _ (List.Mem.tail _ (List.Mem.head _)))) (z_ald X 257 rfl (c518_ok rfl) rfl (by first | exact oq_5234833b b5.1 p2 | omega) (show (iC s 228 (x).toNat) < 8 by first | exact oq_aaea290e b5.2 | omega) (cbig_ok rfl) ?_)))
        have b30 := bc_229 Is27 (show ((iC s 228 (x).toNat)).toNat < 8 by first | exact oq_c19a3aae b5.2 | omega)
        refine z_icmp_gt X (t := 137) rfl rfl (rng_to _) (rng_to _) (fun g31 => ?_) (fun g31 => ?_)
        ·
          refine WS_pq [4, 5, 6, 3, 2, 1] (lv' := [(0, .ref (A 179)), (1, .int (Int32.ofInt x)), (2, .int (Int32.ofInt y)), (3, .int (Int32.ofInt (iC s 228 (x).toNat))), (4, .int (Int32.ofInt (iC s 233 ((iC s 228 (x).toNat)).toNat))), (5, .int (Int32.ofInt (iC s 233 (y).toNat)))]) rfl ?_
          exact L137 _ x y (iC s 228 (x).toNat) (iC s 233 ((iC s 228 (x).toNat)).toNat) (iC s 233 (y).toNat) Is27 Gs27 JRLx_s27 JMDJ_s27 (trj_n p5 p1 hPs27 (fun j j1 j2 => (show iC s27 233 j = iC s26 233 j from fm_c Fs27 (by decide)).trans (hQ4 j j1 j2)) (by first | (clear g20 hps18 g17 hps15 g14 hps12 p2; omega) | (clear hps18 g17 hps15 g14 hps12 p2; omega) | omega) (by first | (clear g20 hps18 g17 hps15 g14 hps12 p2; omega) | (clear hps18 g17 hps15 g14 hps12 p2; omega) | omega) (by first | (clear g20 hps18 g17 hps15 g14 hps12 p2; omega) | (clear hps18 g17 hps15 g14 hps12 p2; omega) | omega) (fun q => by have z := q.2.2.2.1; replace z : pkH U (pcS (upF (pfM s) (x : Int).toNat y) (iC s 228 (x : Int).toNat)) ≤ iC s 229 (iC s 228 (x : Int).toNat).toNat := z; omega)) (by first | exact ⟨And.intro (by decide) (And.intro (by decide) (by decide)), oq_32dbbfbd b5.2 b5.1 p2, And.intro (by decide) (by decide), And.intro (b7.1) (b7.2), b9.1, b9.2⟩ | omega)
        ·
          refine z_aload_n X (x := A 179) rfl (List.Mem.tail _ (List.Mem.tail _ (List.Mem.tail _ (List.Mem.tail _ (List.Mem.head _))))) (s_getR X 179 rfl (c518_ok rfl) rfl rfl (z_load_n X (x := y) rfl (List.Mem.tail _ (List.Mem.tail _ (List.Mem.tail _ (List.Mem.tail _ (List.Mem.tail _ (List.Mem.tail _ (List.Mem.head _))))))) (z_ald X 261 rfl (c518_ok rfl) rfl (by first | exact p1.1 | omega) (show y < 8 by first | exact oq_aaea290e p1.2 | omega) (cbig_ok rfl) ?_)))
          have b32 := bc_233 Is27 (show (y).toNat < 8 by first | exact oq_c19a3aae p1.2 | omega)
          refine z_aload_n X (x := A 179) rfl (List.Mem.tail _ (List.Mem.tail _ (List.Mem.tail _ (List.Mem.tail _ (List.Mem.head _))))) (s_getR X 179 rfl (c518_ok rfl) rfl rfl (z_load_n X (x := y) rfl (List.Mem.tail _ (List.Mem.tail _ (List.Mem.tail _ (List.Mem.tail _ (List.Mem.tail _ (List.Mem.tail _ (List.Mem.head _))))))) (z_ald X 257 rfl (c518_ok rfl) rfl (by first | exact p1.1 | omega) (show y < 8 by first | exact oq_aaea290e p1.2 | omega) (cbig_ok rfl) ?_)))
          have b33 := bc_229 Is27 (show (y).toNat < 8 by first | exact oq_c19a3aae p1.2 | omega)
          refine z_icmp_gt X (t := 137) rfl rfl (rng_to _) (rng_to _) (fun g34 => ?_) (fun g34 => ?_)
          ·
            refine WS_pq [4, 5, 6, 3, 2, 1] (lv' := [(0, .ref (A 179)), (1, .int (Int32.ofInt x)), (2, .int (Int32.ofInt y)), (3, .int (Int32.ofInt (iC s 228 (x).toNat))), (4, .int (Int32.ofInt (iC s 233 ((iC s 228 (x).toNat)).toNat))), (5, .int (Int32.ofInt (iC s 233 (y).toNat)))]) rfl ?_
            exact L137 _ x y (iC s 228 (x).toNat) (iC s 233 ((iC s 228 (x).toNat)).toNat) (iC s 233 (y).toNat) Is27 Gs27 JRLx_s27 JMDJ_s27 (trj_n p5 p1 hPs27 (fun j j1 j2 => (show iC s27 233 j = iC s26 233 j from fm_c Fs27 (by decide)).trans (hQ4 j j1 j2)) (by first | (clear g20 hps18 g17 hps15 g14 hps12 p2; omega) | (clear hps18 g17 hps15 g14 hps12 p2; omega) | omega) (by first | (clear g20 hps18 g17 hps15 g14 hps12 p2; omega) | (clear hps18 g17 hps15 g14 hps12 p2; omega) | omega) (by first | (clear g20 hps18 g17 hps15 g14 hps12 p2; omega) | (clear hps18 g17 hps15 g14 hps12 p2; omega) | omega) (fun q => by have z := q.2.2.2.2; replace z : pkH U (pcS (upF (pfM s) (x : Int).toNat y) y) ≤ iC s 229 (y : Int).toNat := z; omega)) (by first | exact ⟨And.intro (by decide) (And.intro (by decide) (by decide)), oq_32dbbfbd b5.2 b5.1 p2, And.intro (by decide) (by decide), And.intro (b7.1) (b7.2), b9.1, b9.2⟩ | omega)
          ·
            refine z_load X (x := e28) rfl (List.Mem.head _) (z_aload_n X (x := A 179) rfl (List.Mem.tail _ (List.Mem.tail _ (List.Mem.tail _ (List.Mem.tail _ (List.Mem.head _))))) (z_getI X 179 rfl (c518_ok rfl) rfl rfl ?_))
            have b35 := bi_94 Is27
            refine z_icmp_ge X (t := 137) rfl rfl hrs27 (rng_to _) (fun g36 => ?_) (fun g36 => ?_)
            ·
              refine WS_pq [4, 5, 6, 3, 2, 1] (lv' := [(0, .ref (A 179)), (1, .int (Int32.ofInt x)), (2, .int (Int32.ofInt y)), (3, .int (Int32.ofInt (iC s 228 (x).toNat))), (4, .int (Int32.ofInt (iC s 233 ((iC s 228 (x).toNat)).toNat))), (5, .int (Int32.ofInt (iC s 233 (y).toNat)))]) rfl ?_
              exact L137 _ x y (iC s 228 (x).toNat) (iC s 233 ((iC s 228 (x).toNat)).toNat) (iC s 233 (y).toNat) Is27 Gs27 JRLx_s27 JMDJ_s27 (trj_y p5 (by first | (clear g20 hps18 g17 hps15 g14 hps12 p2; omega) | (clear hps18 g17 hps15 g14 hps12 p2; omega) | omega) p1 hPs27 (fun j j1 j2 => (show iC s27 233 j = iC s26 233 j from fm_c Fs27 (by decide)).trans (hQ4 j j1 j2)) p3 ⟨hce_p hA1.2 (by first | (clear g20 hps18 g17 hps15 g14 hps12 p2; omega) | (clear hps18 g17 hps15 g14 hps12 p2; omega) | omega) (by first | (clear g20 hps18 g17 hps15 g14 hps12 p2; omega) | (clear hps18 g17 hps15 g14 hps12 p2; omega) | omega), hge_y hA2.2 (by first | (clear g20 hps18 g17 hps15 g14 hps12 p2; omega) | (clear hps18 g17 hps15 g14 hps12 p2; omega) | omega), hge_y hA3.2 (by first | (clear g20 hps18 g17 hps15 g14 hps12 p2; omega) | (clear hps18 g17 hps15 g14 hps12 p2; omega) | omega), (show pkH U (pcS (upF (pfM s) (x : Int).toNat y) (iC s 228 (x : Int).toNat)) ≤ iC s 229 (iC s 228 (x : Int).toNat).toNat by first | (clear g20 hps18 g17 hps15 g14 hps12 p2; omega) | (clear hps18 g17 hps15 g14 hps12 p2; omega) | omega), (show pkH U (pcS (upF (pfM s) (x : Int).toNat y) y) ≤ iC s 229 (y : Int).toNat by first | (clear g20 hps18 g17 hps15 g14 hps12 p2; omega) | (clear hps18 g17 hps15 g14 hps12 p2; omega) | omega)⟩ hCS (by first | (clear g20 hps18 g17 hps15 g14 hps12 p2; omega) | (clear hps18 g17 hps15 g14 hps12 p2; omega) | omega)) (by first | exact ⟨And.intro (by decide) (And.intro (by decide) (by decide)), oq_fd076cf3 b5.2 b5.1 hnp p2 p1.2 p1.1, And.intro (by decide) (by decide), And.intro (b7.1) (b7.2), b9.1, b9.2⟩ | omega)
            ·
              refine z_aload_n X (x := A 179) rfl (List.Mem.tail _ (List.Mem.tail _ (List.Mem.tail _ (List.Mem.tail _ (List.Mem.head _))))) (z_load_n X (x := x) rfl (List.Mem.tail _ (List.Mem.tail _ (List.Mem.tail _ (List.Mem.tail _ (List.Mem.tail _ (List.Mem.head _)))))) (s_putI X 179 rfl (c518_ok rfl) rfl rfl (by decide) rfl rfl rfl (wd_gen (fun s37 hs37 => ?_))))
              have Is37 : Bd s37 := eqB hs37 (bd_I Is27 (show ((-1) : Int) ≤ x ∧ x ≤ 127 by first | exact ⟨oq_ca54ea22 p0.1, p0.2⟩ | omega) ⟨by first | exact oq_fa4e5087 p0.1 | omega, by first | exact oq_07d346ce p0.2 | omega⟩)
              have Fs37 := eqF hs37 (fm_I Gs27 (inl_ok (a := 92) rfl))
              have vs37 : iI s37 92 = x := eqI hs37 (iI_u ⟨by first | exact oq_fa4e5087 p0.1 | omega, by first | exact oq_07d346ce p0.2 | omega⟩)
              have ws37_93 : iI s37 93 = iI s27 93 := eqI hs37 rfl
              have ws37_94 : iI s37 94 = iI s27 94 := eqI hs37 rfl
              have ws37_89 : iI s37 89 = iI s27 89 := eqI hs37 rfl
              have aws37_228 : UPD 228 (x) y s s37 := by rw [hs37]; exact aws27_228
              have fs37 : Fm [92] [] s27 s37 := by rw [hs37]; exact fm_I (fm_rf _ _ _) (show 92 ∈ _ by decide)
              have JRLx_s37 : RLx s37 := RLx_fm fs37 (by decide) JRLx_s27
              have JMDJ_s37 : MDJ U s37 := MDJ_fm fs37 (by decide) JMDJ_s27
              refine z_aload_n X (x := A 179) rfl (List.Mem.tail _ (List.Mem.tail _ (List.Mem.tail _ (List.Mem.tail _ (List.Mem.head _))))) (z_load_n X (x := y) rfl (List.Mem.tail _ (List.Mem.tail _ (List.Mem.tail _ (List.Mem.tail _ (List.Mem.tail _ (List.Mem.tail _ (List.Mem.head _))))))) (s_putI X 179 rfl (c518_ok rfl) rfl rfl (by decide) rfl rfl rfl (wd_gen (fun s38 hs38 => ?_))))
              have Is38 : Bd s38 := eqB hs38 (bd_I Is37 (show (0 : Int) ≤ y ∧ y ≤ 7 by first | exact ⟨p1.1, p1.2⟩ | omega) ⟨by first | exact oq_fa4e5087 p1.1 | omega, by first | exact oq_0e78ca7d p1.2 | omega⟩)
              have Fs38 := eqF hs38 (fm_I Fs37 (inl_ok (a := 93) rfl))
              have vs38 : iI s38 93 = y := eqI hs38 (iI_u ⟨by first | exact oq_fa4e5087 p1.1 | omega, by first | exact oq_0e78ca7d p1.2 | omega⟩)
              have ws38_92 : iI s38 92 = iI s37 92 := eqI hs38 rfl
              have ws38_94 : iI s38 94 = iI s37 94 := eqI hs38 rfl
              have ws38_89 : iI s38 89 = iI s37 89 := eqI hs38 rfl
              have aws38_228 : UPD 228 (x) y s s38 := by rw [hs38]; exact aws37_228
              have fs38 : Fm [93] [] s37 s38 := by rw [hs38]; exact fm_I (fm_rf _ _ _) (show 93 ∈ _ by decide)
              have JRLx_s38 : RLx s38 := RLx_fm fs38 (by decide) JRLx_s37
              have JMDJ_s38 : MDJ U s38 := MDJ_fm fs38 (by decide) JMDJ_s37
              refine z_aload_n X (x := A 179) rfl (List.Mem.tail _ (List.Mem.tail _ (List.Mem.tail _ (List.Mem.tail _ (List.Mem.head _))))) (z_load X (x := e28) rfl (List.Mem.head _) (s_putI X 179 rfl (c518_ok rfl) rfl rfl (by decide) rfl rfl rfl (wd_gen (fun s39 hs39 => ?_))))
              have Is39 : Bd s39 := eqB hs39 (bd_I Is38 (show ((-2147483648) : Int) ≤ e28 ∧ e28 ≤ 2147483647 by first | exact ⟨by first | (clear g20 hps18 g17 hps15 g14 hps12 p2; omega) | (clear hps18 g17 hps15 g14 hps12 p2; omega) | omega, oq_ef392b12 g36 b35.2⟩ | omega) hrs27)
              have Fs39 := eqF hs39 (fm_I Fs38 (inl_ok (a := 94) rfl))
              have vs39 : iI s39 94 = e28 := eqI hs39 (iI_u hrs27)
              have ws39_92 : iI s39 92 = iI s38 92 := eqI hs39 rfl
              have ws39_93 : iI s39 93 = iI s38 93 := eqI hs39 rfl
              have ws39_89 : iI s39 89 = iI s38 89 := eqI hs39 rfl
              have aws39_228 : UPD 228 (x) y s s39 := by rw [hs39]; exact aws38_228
              have fs39 : Fm [94] [] s38 s39 := by rw [hs39]; exact fm_I (fm_rf _ _ _) (show 94 ∈ _ by decide)
              have JRLx_s39 : RLx s39 := RLx_fm fs39 (by decide) JRLx_s38
              have JMDJ_s39 : MDJ U s39 := MDJ_fm fs39 (by decide) JMDJ_s38
              refine WS_pq [4, 5, 6, 3, 2, 1] (lv' := [(0, .ref (A 179)), (1, .int (Int32.ofInt x)), (2, .int (Int32.ofInt y)), (3, .int (Int32.ofInt (iC s 228 (x).toNat))), (4, .int (Int32.ofInt (iC s 233 ((iC s 228 (x).toNat)).toNat))), (5, .int (Int32.ofInt (iC s 233 (y).toNat)))]) rfl ?_
              exact L137 _ x y (iC s 228 (x).toNat) (iC s 233 ((iC s 228 (x).toNat)).toNat) (iC s 233 (y).toNat) Is39 Fs39 JRLx_s39 JMDJ_s39 (trj_y p5 (by first | (clear g20 hps18 g17 hps15 g14 hps12 p2; omega) | (clear hps18 g17 hps15 g14 hps12 p2; omega) | omega) p1 ((show pfM s39 = pfM s27 from funext (fun j => by rw [hs39, hs38, hs37]; rfl)).trans hPs27) (fun j j1 j2 => (show iC s39 233 j = iC s26 233 j from (show iC s39 233 j = iC s27 233 j from by rw [hs39, hs38, hs37]; rfl).trans (fm_c Fs27 (by decide))).trans (hQ4 j j1 j2)) p3 ⟨hce_p hA1.2 (by first | (clear g20 hps18 g17 hps15 g14 hps12 p2; omega) | (clear hps18 g17 hps15 g14 hps12 p2; omega) | omega) (by first | (clear g20 hps18 g17 hps15 g14 hps12 p2; omega) | (clear hps18 g17 hps15 g14 hps12 p2; omega) | omega), hge_y hA2.2 (by first | (clear g20 hps18 g17 hps15 g14 hps12 p2; omega) | (clear hps18 g17 hps15 g14 hps12 p2; omega) | omega), hge_y hA3.2 (by first | (clear g20 hps18 g17 hps15 g14 hps12 p2; omega) | (clear hps18 g17 hps15 g14 hps12 p2; omega) | omega), (show pkH U (pcS (upF (pfM s) (x : Int).toNat y) (iC s 228 (x : Int).toNat)) ≤ iC s 229 (iC s 228 (x : Int).toNat).toNat by first | (clear g20 hps18 g17 hps15 g14 hps12 p2; omega) | (clear hps18 g17 hps15 g14 hps12 p2; omega) | omega), (show pkH U (pcS (upF (pfM s) (x : Int).toNat y) y) ≤ iC s 229 (y : Int).toNat by first | (clear g20 hps18 g17 hps15 g14 hps12 p2; omega) | (clear hps18 g17 hps15 g14 hps12 p2; omega) | omega)⟩ hCS (by first | (clear g20 hps18 g17 hps15 g14 hps12 p2; omega) | (clear hps18 g17 hps15 g14 hps12 p2; omega) | omega)) (by first | exact ⟨And.intro (by decide) (And.intro (by decide) (by decide)), oq_fd076cf3 b5.2 b5.1 hnp p2 p1.2 p1.1, And.intro (by decide) (by decide), And.intro (b7.1) (b7.2), b9.1, b9.2⟩ | omega)
set_option maxRecDepth 4000 in
theorem k_findMove3 (G : GX l s0 D tys a0 dT) {U : AirD} (I : Bd s) (jRLx : RLx s) (jMDJ : MDJ U s) (p0 : iI s 89 = 1) : CT l s0 D A dT 254 (rmN 254) [.ref (A 179)] s (fun o t => Bd t ∧ Fm [77, 75, 78, 79, 80, 81, 92, 93, 94] [202, 204, 205, 206, 207, 208, 209, 210, 211, 212, 213, 214, 215, 216, 217, 218, 219, 220, 221, 222, 223, 224, 225, 226, 227, 203, 161, 230, 233, 231, 232, 228] s t ∧ RLx t ∧ o = .inl none ∧ (BSM U (pfM s) (fun j => iC s 229 j) 1024 t ∧ SAM 228 s t ∧ iI t 89 = 1)) := by
  refine ct_of G (by decide) (Nat.le_of_ble_eq_true rfl) (fun k X E hRt hXt q => ?_)
  show WS k 0 [(0, .ref (A 179))] [] _ 0 0
  have F : Fm [77, 75, 78, 79, 80, 81, 92, 93, 94] [202, 204, 205, 206, 207, 208, 209, 210, 211, 212, 213, 214, 215, 216, 217, 218, 219, 220, 221, 222, 223, 224, 225, 226, 227, 203, 161, 230, 233, 231, 232, 228] s s := fm_rf _ _ s
  have b1 := bi_92 I
  have b2 := bi_93 I
  have b3 := bi_94 I
  have b4 := bi_89 I
  have L45 : ∀ (n : Nat) (t : PS) (c p iz st0 : Int), Bd t → Fm [77, 75, 78, 79, 80, 81, 92, 93, 94] [202, 204, 205, 206, 207, 208, 209, 210, 211, 212, 213, 214, 215, 216, 217, 218, 219, 220, 221, 222, 223, 224, 225, 226, 227, 203, 161, 230, 233, 231, 232, 228] s t → RLx t → MDJ U t → (CDQ (pfM s) c p st0 iz ∧ iC s 228 (c : Int).toNat ≠ -1 ∧ (BSM U (pfM s) (fun j => iC s 229 j) (8 * (c : Int).toNat + (p : Int).toNat) t ∧ SAM 228 s t ∧ FPQ U (pfM s) 8 t)) → ((0 ≤ c ∧ c ≤ 127) ∧ (0 ≤ p ∧ p ≤ 7) ∧ (iz = 0 ∨ iz = 1) ∧ 0 ≤ st0 ∧ st0 ≤ 6 ∧ iI t 89 = 1) → (6 - st0 : Int).toNat < n → (∀ (t' : PS) (iz' st0' : Int), Bd t' → Fm [77, 75, 78, 79, 80, 81, 92, 93, 94] [202, 204, 205, 206, 207, 208, 209, 210, 211, 212, 213, 214, 215, 216, 217, 218, 219, 220, 221, 222, 223, 224, 225, 226, 227, 203, 161, 230, 233, 231, 232, 228] s t' → RLx t' → MDJ U t' → (CDQ (pfM s) c p st0' iz' ∧ iC s 228 (c : Int).toNat ≠ -1 ∧ (BSM U (pfM s) (fun j => iC s 229 j) (8 * (c : Int).toNat + (p : Int).toNat) t' ∧ SAM 228 s t' ∧ FPQ U (pfM s) 8 t')) → ((0 ≤ c ∧ c ≤ 127) ∧ (0 ≤ p ∧ p ≤ 7) ∧ (iz' = 0 ∨ iz' = 1) ∧ st0' = 6 ∧ iI t' 89 = 1) → WS k 93 [(0, .ref (A 179)), (1, .int (Int32.ofInt c)), (2, .int (Int32.ofInt p)), (3, .int (Int32.ofInt iz')), (4, .int (Int32.ofInt st0'))] [] (Wd A dT t') 0 0) → WS k 45 [(0, .ref (A 179)), (1, .int (Int32.ofInt c)), (2, .int (Int32.ofInt p)), (3, .int (Int32.ofInt iz)), (4, .int (Int32.ofInt st0))] [] (Wd A dT t) 0 0 := by
    intro n
    induction n with
    | zero =>
      intro t c p iz st0 I F jjRLx jjMDJ hq hi hm kx
      exact absurd hm (Nat.not_lt_zero _)
    | succ n ih =>
      intro t c p iz st0 I F jjRLx jjMDJ hq hi hm kx
      have b1001 := bi_92 I
      have b1002 := bi_93 I
      have b1003 := bi_94 I
      have b1004 := bi_89 I
      refine z_load X (x := st0) rfl (List.Mem.tail _ (List.Mem.tail _ (List.Mem.tail _ (List.Mem.tail _ (List.Mem.head _))))) (z_bipush X rfl (z_icmp_ge X (t := 93) rfl rfl ⟨by first | exact oq_fa4e5087 hi.2.2.2.1 | omega, by first | exact oq_b301c3bf hi.2.2.2.2.1 | omega⟩ (by decide) (fun g1005 => ?_) (fun g1005 => ?_)))
      ·
        refine WS_pq [0, 1, 2, 3, 4] (lv' := [(0, .ref (A 179)), (1, .int (Int32.ofInt c)), (2, .int (Int32.ofInt p)), (3, .int (Int32.ofInt iz)), (4, .int (Int32.ofInt st0))]) rfl ?_
        exact kx _ iz st0 I F jjRLx jjMDJ hq (by first | exact ⟨And.intro (hi.1.1) (hi.1.2), And.intro (hi.2.1.1) (hi.2.1.2), hi.2.2.1, oq_0dbc568f hi.2.2.2.2.1 g1005, hi.2.2.2.2.2⟩ | omega)
      ·
        refine z_load_n X (x := iz) rfl (List.Mem.tail _ (List.Mem.tail _ (List.Mem.tail _ (List.Mem.head _)))) (z_if_ne X (t := 81) rfl rfl ⟨by first | exact oq_bde653e9 hi.2.2.1 | omega, by first | exact oq_4ad2cb8b hi.2.2.1 | omega⟩ (fun g1006 => ?_) (fun g1006 => ?_))
        ·
          refine z_const X rfl (z_goto X (t := 86) rfl rfl (z_store_n X (lv' := [(3, .int (Int32.ofInt 1)), (0, .ref (A 179)), (1, .int (Int32.ofInt c)), (2, .int (Int32.ofInt p)), (4, .int (Int32.ofInt st0))]) rfl (by decide) (fun _ h => h) (z_inc X (x := st0) (lv' := [(4, .int (Int32.ofInt (st0 + 1))), (3, .int (Int32.ofInt 1)), (0, .ref (A 179)), (1, .int (Int32.ofInt c)), (2, .int (Int32.ofInt p))]) rfl (by decide) (List.Mem.tail _ (List.Mem.tail _ (List.Mem.tail _ (List.Mem.tail _ (List.Mem.head _))))) (fun _ h => h) (z_goto X (t := 45) rfl rfl (WS_pq [2, 3, 4, 1, 0] (lv' := [(0, .ref (A 179)), (1, .int (Int32.ofInt c)), (2, .int (Int32.ofInt p)), (3, .int (Int32.ofInt 1)), (4, .int (Int32.ofInt (st0 + 1)))]) rfl ?_)))))
          exact ih _ c p 1 (st0 + 1) I F jjRLx jjMDJ ⟨cdq_up (b := 0) hq.1 (by first | (clear g1006; omega) | omega) (fun h => absurd h (by first | (clear g1006; omega) | omega)) (Or.inl ⟨by first | (clear g1006; omega) | omega, by first | (clear g1006; omega) | omega⟩), hq.2⟩ (by first | exact ⟨And.intro (hi.1.1) (hi.1.2), And.intro (hi.2.1.1) (hi.2.1.2), Or.inr (by decide), oq_54f49eb5 hi.2.2.2.1, oq_5bf54478 g1005, hi.2.2.2.2.2⟩ | omega) (by first | exact qk_me hm (by decide) (oq_2265a080 g1005) | omega) kx
        ·
          refine z_load_n X (x := c) rfl (List.Mem.tail _ (List.Mem.head _)) (z_load X (x := st0) rfl (List.Mem.tail _ (List.Mem.tail _ (List.Mem.tail _ (List.Mem.tail _ (List.Mem.head _))))) (z_callS X (rm := rmN 190) (As := [.int (Int32.ofInt c), .int (Int32.ofInt st0)]) (st := []) rfl rfl (by rw [E.1, E.2.1, E.2.2.1]; exact k_beside2 G I (by first | exact ⟨hi.1.1, hi.1.2⟩ | omega) (by first | exact ⟨hi.2.2.2.1, oq_a4cef127 g1005⟩ | omega)) ⟨by rw [E.2.2.2]; exact (show (rmN 190).frames + 1 ≤ (rmN 254).frames by decide), by rw [E.2.2.2]; exact (show 8 + (mNL (miB 190) + 11) + (rmN 190).locals ≤ (rmN 254).locals by decide), by rw [E.2.2.2]; exact (show 0 + (rmN 190).cells ≤ (rmN 254).cells by decide), by rw [E.2.2.2]; exact (show 0 + (rmN 190).slots ≤ (rmN 254).slots by decide)⟩ (Nat.le_of_ble_eq_true rfl) (fun vv s1007 hq => ?_) (fun ee s1007 hq => ?_)))
          rotate_left
          · obtain ⟨rfl, e1008, hv, hrs1007, hps1007⟩ := hq; cases hv
          obtain ⟨rfl, e1008, hv, hrs1007, hps1007⟩ := hq
          cases hv
          show WS k 62 [(0, .ref (A 179)), (1, .int (Int32.ofInt c)), (2, .int (Int32.ofInt p)), (3, .int (Int32.ofInt iz)), (4, .int (Int32.ofInt st0))] [.int (Int32.ofInt e1008)] (Wd A dT t) 0 0
          refine z_const X rfl (z_icmp_eq X (t := 85) rfl rfl hrs1007 (by decide) (fun g1009 => ?_) (fun g1009 => ?_))
          ·
            refine z_const X rfl (z_store_n X (lv' := [(3, .int (Int32.ofInt 0)), (0, .ref (A 179)), (1, .int (Int32.ofInt c)), (2, .int (Int32.ofInt p)), (4, .int (Int32.ofInt st0))]) rfl (by decide) (fun _ h => h) (z_inc X (x := st0) (lv' := [(4, .int (Int32.ofInt (st0 + 1))), (3, .int (Int32.ofInt 0)), (0, .ref (A 179)), (1, .int (Int32.ofInt c)), (2, .int (Int32.ofInt p))]) rfl (by decide) (List.Mem.tail _ (List.Mem.tail _ (List.Mem.tail _ (List.Mem.tail _ (List.Mem.head _))))) (fun _ h => h) (z_goto X (t := 45) rfl rfl (WS_pq [2, 3, 4, 1, 0] (lv' := [(0, .ref (A 179)), (1, .int (Int32.ofInt c)), (2, .int (Int32.ofInt p)), (3, .int (Int32.ofInt 0)), (4, .int (Int32.ofInt (st0 + 1)))]) rfl ?_))))
            exact ih _ c p 0 (st0 + 1) I F jjRLx jjMDJ ⟨cdq_up (b := e1008) hq.1 (by omega) (fun _ => hps1007.1) (by have z := (hq.2.2.2.1 (e1008 : Int).toNat : iC t 228 (e1008 : Int).toNat = iC s 228 (e1008 : Int).toNat); show _ ∨ (_ ∧ _ ∧ iC s 228 (e1008 : Int).toNat = p ∧ _) ∨ (_ ∧ (_ ∨ iC s 228 (e1008 : Int).toNat ≠ p) ∧ _); omega), hq.2⟩ (by first | exact ⟨And.intro (hi.1.1) (hi.1.2), And.intro (hi.2.1.1) (hi.2.1.2), Or.inl (by decide), oq_54f49eb5 hi.2.2.2.1, oq_5bf54478 g1005, hi.2.2.2.2.2⟩ | omega) (by first | exact qk_me hm (by decide) (oq_2265a080 g1005) | omega) kx
          ·
            refine z_aload_n X (x := A 179) rfl (List.Mem.head _) (s_getR X 179 rfl (c518_ok rfl) rfl rfl (z_load_n X (x := c) rfl (List.Mem.tail _ (List.Mem.head _)) (z_load X (x := st0) rfl (List.Mem.tail _ (List.Mem.tail _ (List.Mem.tail _ (List.Mem.tail _ (List.Mem.head _))))) (z_callS X (rm := rmN 190) (As := [.int (Int32.ofInt c), .int (Int32.ofInt st0)]) (st := [.ref (A 256)]) rfl rfl (by rw [E.1, E.2.1, E.2.2.1]; exact k_beside2 G I (by first | exact ⟨hi.1.1, hi.1.2⟩ | omega) (by first | exact ⟨hi.2.2.2.1, oq_a4cef127 g1005⟩ | omega)) ⟨by rw [E.2.2.2]; exact (show (rmN 190).frames + 1 ≤ (rmN 254).frames by decide), by rw [E.2.2.2]; exact (show 8 + (mNL (miB 190) + 11) + (rmN 190).locals ≤ (rmN 254).locals by decide), by rw [E.2.2.2]; exact (show 0 + (rmN 190).cells ≤ (rmN 254).cells by decide), by rw [E.2.2.2]; exact (show 0 + (rmN 190).slots ≤ (rmN 254).slots by decide)⟩ (Nat.le_of_ble_eq_true rfl) (fun vv s1010 hq => ?_) (fun ee s1010 hq => ?_)))))
            rotate_left
            · obtain ⟨rfl, e1011, hv, hrs1010, hps1010⟩ := hq; cases hv
            obtain ⟨rfl, e1011, hv, hrs1010, hps1010⟩ := hq
            cases hv
            show WS k 76 [(0, .ref (A 179)), (1, .int (Int32.ofInt c)), (2, .int (Int32.ofInt p)), (3, .int (Int32.ofInt iz)), (4, .int (Int32.ofInt st0))] [.int (Int32.ofInt e1011), .ref (A 256)] (Wd A dT t) 0 0
            have hbb : e1011 = e1008 := hps1010.1.trans hps1007.1.symm
            refine z_ald X 256 rfl (c518_ok rfl) rfl (by first | exact oq_212cfe9d hbb g1009 hps1007.2.1 | omega) (show e1011 < 128 by first | exact oq_31b2bf10 hps1010.2.2 | omega) (cbig_ok rfl) ?_
            have b1012 := bc_228 I (show (e1011).toNat < 128 by first | exact oq_c7f4e9c1 hps1010.2.2 | omega)
            refine z_load_n X (x := p) rfl (List.Mem.tail _ (List.Mem.tail _ (List.Mem.head _))) (z_icmp_ne X (t := 85) rfl rfl (rng_to _) ⟨by first | exact oq_fa4e5087 hi.2.1.1 | omega, by first | exact oq_0e78ca7d hi.2.1.2 | omega⟩ (fun g1013 => ?_) (fun g1013 => ?_))
            ·
              refine z_const X rfl (z_store_n X (lv' := [(3, .int (Int32.ofInt 0)), (0, .ref (A 179)), (1, .int (Int32.ofInt c)), (2, .int (Int32.ofInt p)), (4, .int (Int32.ofInt st0))]) rfl (by decide) (fun _ h => h) (z_inc X (x := st0) (lv' := [(4, .int (Int32.ofInt (st0 + 1))), (3, .int (Int32.ofInt 0)), (0, .ref (A 179)), (1, .int (Int32.ofInt c)), (2, .int (Int32.ofInt p))]) rfl (by decide) (List.Mem.tail _ (List.Mem.tail _ (List.Mem.tail _ (List.Mem.tail _ (List.Mem.head _))))) (fun _ h => h) (z_goto X (t := 45) rfl rfl (WS_pq [2, 3, 4, 1, 0] (lv' := [(0, .ref (A 179)), (1, .int (Int32.ofInt c)), (2, .int (Int32.ofInt p)), (3, .int (Int32.ofInt 0)), (4, .int (Int32.ofInt (st0 + 1)))]) rfl ?_))))
              exact ih _ c p 0 (st0 + 1) I F jjRLx jjMDJ ⟨cdq_up (b := e1008) hq.1 (by first | (clear g1013 g1009; omega) | (clear g1009; omega) | omega) (fun _ => hps1007.1) (by have z := (by rw [hbb]; exact hq.2.2.2.1 _ : iC t 228 (e1011 : Int).toNat = iC s 228 (e1008 : Int).toNat); show _ ∨ (_ ∧ _ ∧ iC s 228 (e1008 : Int).toNat = p ∧ _) ∨ (_ ∧ (_ ∨ iC s 228 (e1008 : Int).toNat ≠ p) ∧ _); omega), hq.2⟩ (by first | exact ⟨And.intro (hi.1.1) (hi.1.2), And.intro (hi.2.1.1) (hi.2.1.2), Or.inl (by decide), oq_54f49eb5 hi.2.2.2.1, oq_5bf54478 g1005, hi.2.2.2.2.2⟩ | omega) (by first | exact qk_me hm (by decide) (oq_2265a080 g1005) | omega) kx
            ·
              refine z_const X rfl (z_goto X (t := 86) rfl rfl (z_store_n X (lv' := [(3, .int (Int32.ofInt 1)), (0, .ref (A 179)), (1, .int (Int32.ofInt c)), (2, .int (Int32.ofInt p)), (4, .int (Int32.ofInt st0))]) rfl (by decide) (fun _ h => h) (z_inc X (x := st0) (lv' := [(4, .int (Int32.ofInt (st0 + 1))), (3, .int (Int32.ofInt 1)), (0, .ref (A 179)), (1, .int (Int32.ofInt c)), (2, .int (Int32.ofInt p))]) rfl (by decide) (List.Mem.tail _ (List.Mem.tail _ (List.Mem.tail _ (List.Mem.tail _ (List.Mem.head _))))) (fun _ h => h) (z_goto X (t := 45) rfl rfl (WS_pq [2, 3, 4, 1, 0] (lv' := [(0, .ref (A 179)), (1, .int (Int32.ofInt c)), (2, .int (Int32.ofInt p)), (3, .int (Int32.ofInt 1)), (4, .int (Int32.ofInt (st0 + 1)))]) rfl ?_)))))
              exact ih _ c p 1 (st0 + 1) I F jjRLx jjMDJ ⟨cdq_up (b := e1008) hq.1 (by first | (clear g1009; omega) | omega) (fun _ => hps1007.1) (by have z := (by rw [hbb]; exact hq.2.2.2.1 _ : iC t 228 (e1011 : Int).toNat = iC s 228 (e1008 : Int).toNat); show _ ∨ (_ ∧ _ ∧ iC s 228 (e1008 : Int).toNat = p ∧ _) ∨ (_ ∧ (_ ∨ iC s 228 (e1008 : Int).toNat ≠ p) ∧ _); omega), hq.2⟩ (by first | exact ⟨And.intro (hi.1.1) (hi.1.2), And.intro (hi.2.1.1) (hi.2.1.2), Or.inr (by decide), oq_54f49eb5 hi.2.2.2.1, oq_5bf54478 g1005, hi.2.2.2.2.2⟩ | omega) (by first | exact qk_me hm (by decide) (oq_2265a080 g1005) | omega) kx
  have L24 : ∀ (n : Nat) (t : PS) (c p : Int), Bd t → Fm [77, 75, 78, 79, 80, 81, 92, 93, 94] [202, 204, 205, 206, 207, 208, 209, 210, 211, 212, 213, 214, 215, 216, 217, 218, 219, 220, 221, 222, 223, 224, 225, 226, 227, 203, 161, 230, 233, 231, 232, 228] s t → RLx t → MDJ U t → (BSM U (pfM s) (fun j => iC s 229 j) (8 * (c : Int).toNat + (p : Int).toNat) t ∧ SAM 228 s t ∧ FPQ U (pfM s) 8 t) → ((0 ≤ c ∧ c ≤ 127) ∧ 0 ≤ p ∧ p ≤ 8 ∧ iI t 89 = 1) → (8 - p : Int).toNat < n → (∀ (t' : PS) (p' : Int), Bd t' → Fm [77, 75, 78, 79, 80, 81, 92, 93, 94] [202, 204, 205, 206, 207, 208, 209, 210, 211, 212, 213, 214, 215, 216, 217, 218, 219, 220, 221, 222, 223, 224, 225, 226, 227, 203, 161, 230, 233, 231, 232, 228] s t' → RLx t' → MDJ U t' → (BSM U (pfM s) (fun j => iC s 229 j) (8 * (c : Int).toNat + 8) t' ∧ SAM 228 s t' ∧ FPQ U (pfM s) 8 t') → ((0 ≤ c ∧ c ≤ 127) ∧ iI t' 89 = 1) → WS k 119 [(0, .ref (A 179)), (1, .int (Int32.ofInt c)), (2, .int (Int32.ofInt p'))] [] (Wd A dT t') 0 0) → WS k 24 [(0, .ref (A 179)), (1, .int (Int32.ofInt c)), (2, .int (Int32.ofInt p))] [] (Wd A dT t) 0 0 := by
    intro n
    induction n with
    | zero =>
      intro t c p I F jjRLx jjMDJ hq hi hm kx
      exact absurd hm (Nat.not_lt_zero _)
    | succ n ih =>
      intro t c p I F jjRLx jjMDJ hq hi hm kx
      have b2001 := bi_92 I
      have b2002 := bi_93 I
      have b2003 := bi_94 I
      have b2004 := bi_89 I
      refine z_load_n X (x := p) rfl (List.Mem.tail _ (List.Mem.tail _ (List.Mem.head _))) (z_bipush X rfl (z_icmp_ge X (t := 119) rfl rfl ⟨by first | exact oq_fa4e5087 hi.2.1 | omega, by first | exact oq_d3f5d874 hi.2.2.1 | omega⟩ (by decide) (fun g2005 => ?_) (fun g2005 => ?_)))
      ·
        refine WS_pq [0, 1, 2] (lv' := [(0, .ref (A 179)), (1, .int (Int32.ofInt c)), (2, .int (Int32.ofInt p))]) rfl ?_
        exact kx _ p I F jjRLx jjMDJ ⟨bsm_c hq.1 rfl rfl (by omega), hq.2⟩ (by first | exact ⟨And.intro (hi.1.1) (hi.1.2), hi.2.2.2⟩ | omega)
      ·
        refine z_aload_n X (x := A 179) rfl (List.Mem.head _) (s_getR X 179 rfl (c518_ok rfl) rfl rfl (z_load_n X (x := c) rfl (List.Mem.tail _ (List.Mem.head _)) (z_ald X 256 rfl (c518_ok rfl) rfl (by first | exact hi.1.1 | omega) (show c < 128 by first | exact oq_31b2bf10 hi.1.2 | omega) (cbig_ok rfl) ?_)))
        have b2006 := bc_228 I (show (c).toNat < 128 by first | exact oq_c7f4e9c1 hi.1.2 | omega)
        refine z_const X rfl (z_icmp_eq X (t := 119) rfl rfl (rng_to _) (by decide) (fun g2007 => ?_) (fun g2007 => ?_))
        ·
          refine WS_pq [0, 1, 2] (lv' := [(0, .ref (A 179)), (1, .int (Int32.ofInt c)), (2, .int (Int32.ofInt p))]) rfl ?_
          exact kx _ p I F jjRLx jjMDJ ⟨bsm_c (bsm_sh hq.1 (by have z := (hq.2.1 (c : Int).toNat : iC t 228 (c : Int).toNat = iC s 228 (c : Int).toNat); show iC s 228 (c : Int).toNat = -1; omega) (8 - (p : Int).toNat) (by omega)) rfl rfl (by omega), hq.2⟩ (by first | exact ⟨And.intro (hi.1.1) (hi.1.2), hi.2.2.2⟩ | omega)
        ·
          refine z_const X rfl (z_store_n X (lv' := [(3, .int (Int32.ofInt 0)), (0, .ref (A 179)), (1, .int (Int32.ofInt c)), (2, .int (Int32.ofInt p))]) rfl (by decide) (fun _ h => h) (z_const X rfl (z_store X (lv' := [(4, .int (Int32.ofInt 0)), (3, .int (Int32.ofInt 0)), (0, .ref (A 179)), (1, .int (Int32.ofInt c)), (2, .int (Int32.ofInt p))]) rfl (by decide) (fun _ h => h) (WS_pq [2, 3, 4, 1, 0] (lv' := [(0, .ref (A 179)), (1, .int (Int32.ofInt c)), (2, .int (Int32.ofInt p)), (3, .int (Int32.ofInt 0)), (4, .int (Int32.ofInt 0))]) rfl (L45 ((6 - 0 : Int).toNat + 1) t c p 0 0 I F jjRLx jjMDJ ⟨cdq_0, by have z := (hq.2.1 (c : Int).toNat : iC t 228 (c : Int).toNat = iC s 228 (c : Int).toNat); omega, hq⟩ (by first | exact ⟨And.intro (hi.1.1) (hi.1.2), And.intro (hi.2.1) (oq_78c639ed g2005), Or.inl (by decide), by decide, by decide, hi.2.2.2⟩ | omega) (Nat.lt_succ_self _) ?_)))))
          intro s2008 x2009 x2010 Is2008 Fs2008 JRLx_s2008 JMDJ_s2008 Qs2008 hs2008
          have b2011 := bi_92 Is2008
          have b2012 := bi_93 Is2008
          have b2013 := bi_94 Is2008
          have b2014 := bi_89 Is2008
          have hCD := cdq_c (by have z := Qs2008.1; rw [show x2010 = 6 by first | (clear g2007; omega) | omega] at z; exact z) (by first | (clear g2007; omega) | omega) Qs2008.2.1
          have hpc : iC s2008 228 (c : Int).toNat = iC s 228 (c : Int).toNat := Qs2008.2.2.2.1 _
          refine z_load_n X (x := x2009) rfl (List.Mem.tail _ (List.Mem.tail _ (List.Mem.tail _ (List.Mem.head _)))) (z_if_eq X (t := 113) rfl rfl ⟨by first | exact oq_bde653e9 hs2008.2.2.1 | omega, by first | exact oq_4ad2cb8b hs2008.2.2.1 | omega⟩ (fun g2015 => ?_) (fun g2015 => ?_))
          ·
            refine z_inc X (x := p) (lv' := [(2, .int (Int32.ofInt (p + 1))), (0, .ref (A 179)), (1, .int (Int32.ofInt c)), (3, .int (Int32.ofInt x2009)), (4, .int (Int32.ofInt x2010))]) rfl (by decide) (List.Mem.tail _ (List.Mem.tail _ (List.Mem.head _))) (fun _ h => h) (z_goto X (t := 24) rfl rfl (WS_pq [1, 2, 0] (lv' := [(0, .ref (A 179)), (1, .int (Int32.ofInt c)), (2, .int (Int32.ofInt (p + 1)))]) rfl ?_))
            exact ih _ c (p + 1) Is2008 Fs2008 JRLx_s2008 JMDJ_s2008 ⟨by rw [show 8 * (c : Int).toNat + (p + 1 : Int).toNat = 8 * (c : Int).toNat + (p : Int).toNat + 1 by first | (clear g2007; omega) | omega]; exact bsm_no Qs2008.2.2.1 (by first | (clear g2007; omega) | omega) (by rw [show (((p : Int).toNat : Nat) : Int) = p by first | (clear g2007; omega) | omega]; exact fun h => by have z := hCD.mp h.1; have z2 := z.2; replace z2 : p ≠ iC s 228 (c : Int).toNat := z2; omega), Qs2008.2.2.2⟩ (by first | exact ⟨And.intro (hs2008.1.1) (hs2008.1.2), oq_54f49eb5 hs2008.2.1.1, oq_18969492 hs2008.2.1.2, hs2008.2.2.2.2⟩ | omega) (by first | exact qk_me hm (by decide) (oq_6bd25173 hs2008.2.1.2) | omega) kx
          ·
            refine z_load_n X (x := p) rfl (List.Mem.tail _ (List.Mem.tail _ (List.Mem.head _))) (z_aload_n X (x := A 179) rfl (List.Mem.head _) (s_getR X 179 rfl (c518_ok rfl) rfl rfl (z_load_n X (x := c) rfl (List.Mem.tail _ (List.Mem.head _)) (z_ald X 256 rfl (c518_ok rfl) rfl (by first | exact hs2008.1.1 | omega) (show c < 128 by first | exact oq_31b2bf10 hs2008.1.2 | omega) (cbig_ok rfl) ?_))))
            have b2016 := bc_228 Is2008 (show (c).toNat < 128 by first | exact oq_c7f4e9c1 hs2008.1.2 | omega)
            refine z_icmp_eq X (t := 113) rfl rfl ⟨by first | exact oq_fa4e5087 hs2008.2.1.1 | omega, by first | exact oq_0e78ca7d hs2008.2.1.2 | omega⟩ (rng_to _) (fun g2017 => ?_) (fun g2017 => ?_)
            ·
              refine z_inc X (x := p) (lv' := [(2, .int (Int32.ofInt (p + 1))), (0, .ref (A 179)), (1, .int (Int32.ofInt c)), (3, .int (Int32.ofInt x2009)), (4, .int (Int32.ofInt x2010))]) rfl (by decide) (List.Mem.tail _ (List.Mem.tail _ (List.Mem.head _))) (fun _ h => h) (z_goto X (t := 24) rfl rfl (WS_pq [1, 2, 0] (lv' := [(0, .ref (A 179)), (1, .int (Int32.ofInt c)), (2, .int (Int32.ofInt (p + 1)))]) rfl ?_))
              exact ih _ c (p + 1) Is2008 Fs2008 JRLx_s2008 JMDJ_s2008 ⟨by rw [show 8 * (c : Int).toNat + (p + 1 : Int).toNat = 8 * (c : Int).toNat + (p : Int).toNat + 1 by first | (clear g2015 g2007; omega) | (clear g2007; omega) | omega]; exact bsm_no Qs2008.2.2.1 (by first | (clear g2015 g2007; omega) | (clear g2007; omega) | omega) (by rw [show (((p : Int).toNat : Nat) : Int) = p by first | (clear g2015 g2007; omega) | (clear g2007; omega) | omega]; exact fun h => by have z := hCD.mp h.1; have z2 := z.2; replace z2 : p ≠ iC s 228 (c : Int).toNat := z2; omega), Qs2008.2.2.2⟩ (by first | exact ⟨And.intro (hs2008.1.1) (hs2008.1.2), oq_54f49eb5 hs2008.2.1.1, oq_18969492 hs2008.2.1.2, hs2008.2.2.2.2⟩ | omega) (by first | exact qk_me hm (by decide) (oq_6bd25173 hs2008.2.1.2) | omega) kx
            ·
              refine z_aload_n X (x := A 179) rfl (List.Mem.head _) (z_load_n X (x := c) rfl (List.Mem.tail _ (List.Mem.head _)) (z_load_n X (x := p) rfl (List.Mem.tail _ (List.Mem.tail _ (List.Mem.head _))) (zcV_v1 X E 179 (As := [.int (Int32.ofInt c), .int (Int32.ofInt p)]) (st := []) rfl rfl rfl rfl (k_tries3 G Is2008 JRLx_s2008 JMDJ_s2008 (by first | exact ⟨hs2008.1.1, hs2008.1.2⟩ | omega) (by first | exact ⟨hs2008.2.1.1, hs2008.2.1.2⟩ | omega) (by first | (clear g2017 g2015 g2007; omega) | (clear g2015 g2007; omega) | omega) (by rw [← (show pfM s = pfM s2008 from (funext Qs2008.2.2.2.1).symm)]; exact hCD.mpr ⟨by first | (clear g2017 g2015 g2007; omega) | (clear g2015 g2007; omega) | omega, by show p ≠ iC s 228 (c : Int).toNat; omega⟩) (fpq_s Qs2008.2.2.2.2 (show pfM s = pfM s2008 from (funext Qs2008.2.2.2.1).symm) sam_rf) (bsm_c Qs2008.2.2.1 (show pfM s = pfM s2008 from (funext Qs2008.2.2.2.1).symm) (show (fun j => iC s 229 j) = (fun j => iC s2008 229 j) from (funext (fun j => fm_c Fs2008 (by decide))).symm) rfl) (by first | exact hs2008.2.2.2.2 | omega)) rfl (Nat.le_of_ble_eq_true rfl) (fun s2018 Is2018 Fs2018 JRLx_s2018 hps2018 => ?_))))
              have Gs2018 := fm_tq Fs2008 Fs2018 rfl rfl
              have JRLx_s2018 : RLx s2018 := RLx_fm Fs2018 (by decide) JRLx_s2008
              have JMDJ_s2018 : MDJ U s2018 := MDJ_fm Fs2018 (by decide) JMDJ_s2008
              have b2020 := bi_92 Is2018
              have b2021 := bi_93 Is2018
              have b2022 := bi_94 Is2018
              have ws2018_89 : iI s2018 89 = iI s2008 89 := fm_iq Fs2018 rfl
              refine z_inc X (x := p) (lv' := [(2, .int (Int32.ofInt (p + 1))), (0, .ref (A 179)), (1, .int (Int32.ofInt c)), (3, .int (Int32.ofInt x2009)), (4, .int (Int32.ofInt x2010))]) rfl (by decide) (List.Mem.tail _ (List.Mem.tail _ (List.Mem.head _))) (fun _ h => h) (z_goto X (t := 24) rfl rfl (WS_pq [1, 2, 0] (lv' := [(0, .ref (A 179)), (1, .int (Int32.ofInt c)), (2, .int (Int32.ofInt (p + 1)))]) rfl ?_))
              exact ih _ c (p + 1) Is2018 Gs2018 JRLx_s2018 JMDJ_s2018 ⟨by rw [show 8 * (c : Int).toNat + (p + 1 : Int).toNat = 8 * (c : Int).toNat + (p : Int).toNat + 1 by first | (clear g2017 g2015 g2007; omega) | (clear g2015 g2007; omega) | omega]; exact bsm_c hps2018.2.2 (show pfM s2008 = pfM s from funext Qs2008.2.2.2.1) (show (fun j => iC s2008 229 j) = (fun j => iC s 229 j) from funext (fun j => fm_c Fs2008 (by decide))) rfl, sam_ts Qs2008.2.2.2.1 hps2018.1, fpq_s Qs2008.2.2.2.2 rfl hps2018.2.1⟩ (by first | exact ⟨And.intro (hs2008.1.1) (hs2008.1.2), oq_54f49eb5 hs2008.2.1.1, oq_18969492 hs2008.2.1.2, oq_b44a1c7f ws2018_89 hs2008.2.2.2.2 b2014.1⟩ | omega) (by first | exact qk_me hm (by decide) (oq_6bd25173 hs2008.2.1.2) | omega) kx
  have L15 : ∀ (n : Nat) (t : PS) (c : Int), Bd t → Fm [77, 75, 78, 79, 80, 81, 92, 93, 94] [202, 204, 205, 206, 207, 208, 209, 210, 211, 212, 213, 214, 215, 216, 217, 218, 219, 220, 221, 222, 223, 224, 225, 226, 227, 203, 161, 230, 233, 231, 232, 228] s t → RLx t → MDJ U t → (BSM U (pfM s) (fun j => iC s 229 j) (8 * (c : Int).toNat) t ∧ SAM 228 s t ∧ FPQ U (pfM s) 8 t) → (0 ≤ c ∧ c ≤ 128 ∧ iI t 89 = 1) → (128 - c : Int).toNat < n → (∀ (t' : PS) (c' : Int), Bd t' → Fm [77, 75, 78, 79, 80, 81, 92, 93, 94] [202, 204, 205, 206, 207, 208, 209, 210, 211, 212, 213, 214, 215, 216, 217, 218, 219, 220, 221, 222, 223, 224, 225, 226, 227, 203, 161, 230, 233, 231, 232, 228] s t' → RLx t' → MDJ U t' → (BSM U (pfM s) (fun j => iC s 229 j) (8 * (c' : Int).toNat) t' ∧ SAM 228 s t' ∧ FPQ U (pfM s) 8 t') → (c' = 128 ∧ iI t' 89 = 1) → WS k 125 [(0, .ref (A 179)), (1, .int (Int32.ofInt c'))] [] (Wd A dT t') 0 0) → WS k 15 [(0, .ref (A 179)), (1, .int (Int32.ofInt c))] [] (Wd A dT t) 0 0 := by
    intro n
    induction n with
    | zero =>
      intro t c I F jjRLx jjMDJ hq hi hm kx
      exact absurd hm (Nat.not_lt_zero _)
    | succ n ih =>
      intro t c I F jjRLx jjMDJ hq hi hm kx
      have b3001 := bi_92 I
      have b3002 := bi_93 I
      have b3003 := bi_94 I
      have b3004 := bi_89 I
      refine z_load_n X (x := c) rfl (List.Mem.tail _ (List.Mem.head _)) (z_sipush X rfl (z_icmp_ge X (t := 125) rfl rfl ⟨by first | exact oq_fa4e5087 hi.1 | omega, by first | exact oq_4ee82282 hi.2.1 | omega⟩ (by decide) (fun g3005 => ?_) (fun g3005 => ?_)))
      ·
        refine WS_pq [0, 1] (lv' := [(0, .ref (A 179)), (1, .int (Int32.ofInt c))]) rfl ?_
        exact kx _ c I F jjRLx jjMDJ hq (by first | exact ⟨oq_42fe298a hi.2.1 g3005, hi.2.2⟩ | omega)
      ·
        refine z_const X rfl (z_store_n X (lv' := [(2, .int (Int32.ofInt 0)), (0, .ref (A 179)), (1, .int (Int32.ofInt c))]) rfl (by decide) (fun _ h => h) (WS_pq [1, 2, 0] (lv' := [(0, .ref (A 179)), (1, .int (Int32.ofInt c)), (2, .int (Int32.ofInt 0))]) rfl (L24 ((8 - 0 : Int).toNat + 1) t c 0 I F jjRLx jjMDJ ⟨bsm_c hq.1 rfl rfl (by omega), hq.2⟩ (by first | exact ⟨And.intro (hi.1) (oq_04367f15 g3005), by decide, by decide, hi.2.2⟩ | omega) (Nat.lt_succ_self _) ?_)))
        intro s3006 x3007 Is3006 Fs3006 JRLx_s3006 JMDJ_s3006 Qs3006 hs3006
        have b3008 := bi_92 Is3006
        have b3009 := bi_93 Is3006
        have b3010 := bi_94 Is3006
        have b3011 := bi_89 Is3006
        refine z_inc X (x := c) (lv' := [(1, .int (Int32.ofInt (c + 1))), (0, .ref (A 179)), (2, .int (Int32.ofInt x3007))]) rfl (by decide) (List.Mem.tail _ (List.Mem.head _)) (fun _ h => h) (z_goto X (t := 15) rfl rfl (WS_pq [1, 0] (lv' := [(0, .ref (A 179)), (1, .int (Int32.ofInt (c + 1)))]) rfl ?_))
        exact ih _ (c + 1) Is3006 Fs3006 JRLx_s3006 JMDJ_s3006 ⟨bsm_c Qs3006.1 rfl rfl (by omega), Qs3006.2⟩ (by first | exact ⟨oq_54f49eb5 hs3006.1.1, oq_e4399267 hs3006.1.2, hs3006.2⟩ | omega) (by first | exact qk_me hm (by decide) (oq_7e05e720 hs3006.1.2) | omega) kx
  refine z_aload_n X (x := A 179) rfl (List.Mem.head _) (z_const X rfl (s_putI X 179 rfl (c518_ok rfl) rfl rfl (by decide) rfl rfl rfl (wd_gen (fun s5 hs5 => ?_))))
  have Is5 : Bd s5 := eqB hs5 (bd_I I (show ((-1) : Int) ≤ (-1) ∧ (-1) ≤ 127 by first | exact ⟨by decide, by decide⟩ | omega) (by decide))
  have Fs5 := eqF hs5 (fm_I F (inl_ok (a := 92) rfl))
  have vs5 : iI s5 92 = (-1) := eqI hs5 (iI_u (by decide))
  have ws5_93 : iI s5 93 = iI s 93 := eqI hs5 rfl
  have ws5_94 : iI s5 94 = iI s 94 := eqI hs5 rfl
  have ws5_89 : iI s5 89 = iI s 89 := eqI hs5 rfl
  have fs5 : Fm [92] [] s s5 := by rw [hs5]; exact fm_I (fm_rf _ _ _) (show 92 ∈ _ by decide)
  have JRLx_s5 : RLx s5 := RLx_fm fs5 (by decide) jRLx
  have JMDJ_s5 : MDJ U s5 := MDJ_fm fs5 (by decide) jMDJ
  refine z_aload_n X (x := A 179) rfl (List.Mem.head _) (z_aload_n X (x := A 179) rfl (List.Mem.head _) (zcV_i1 X E 179 (As := []) (st := [.ref (A 179)]) rfl rfl rfl rfl (k_costOf3 G Is5 JRLx_s5 JMDJ_s5 (by first | exact oq_b44a1c7f ws5_89 p0 b4.1 | omega)) rfl (Nat.le_of_ble_eq_true rfl) (fun s6 e7 Is6 Fs6 JRLx_s6 hrs6 hps6 => ?_)))
  have Gs6 := fm_tq Fs5 Fs6 rfl rfl
  have JRLx_s6 : RLx s6 := RLx_fm Fs6 (by decide) JRLx_s5
  have JMDJ_s6 : MDJ U s6 := MDJ_fm Fs6 (by decide) JMDJ_s5
  have ws6_92 : iI s6 92 = iI s5 92 := fm_iq Fs6 rfl
  have ws6_93 : iI s6 93 = iI s5 93 := fm_iq Fs6 rfl
  have ws6_94 : iI s6 94 = iI s5 94 := fm_iq Fs6 rfl
  have ws6_89 : iI s6 89 = iI s5 89 := fm_iq Fs6 rfl
  have hP5 : pfM s5 = pfM s := by rw [hs5]; rfl
  have hC0 : CST U (pfM s) e7 := by have z := hps6.1; rw [hP5] at z; exact z
  have hF0 : FPQ U (pfM s) 8 s6 := by have z := hps6.2; rw [hP5] at z; exact z
  have hS0 : SAM 228 s s6 := sam_ts (fun j => by rw [hs5]; rfl) (sam_fm Fs6 (by decide))
  refine s_putI X 179 rfl (c518_ok rfl) rfl rfl (by decide) rfl rfl rfl (wd_gen (fun s8 hs8 => ?_))
  have Is8 : Bd s8 := eqB hs8 (bd_I Is6 (show ((-2147483648) : Int) ≤ e7 ∧ e7 ≤ 2147483647 by omega) hrs6)
  have Fs8 := eqF hs8 (fm_I Gs6 (inl_ok (a := 94) rfl))
  have vs8 : iI s8 94 = e7 := eqI hs8 (iI_u hrs6)
  have ws8_92 : iI s8 92 = iI s6 92 := eqI hs8 rfl
  have ws8_93 : iI s8 93 = iI s6 93 := eqI hs8 rfl
  have ws8_89 : iI s8 89 = iI s6 89 := eqI hs8 rfl
  have fs8 : Fm [94] [] s6 s8 := by rw [hs8]; exact fm_I (fm_rf _ _ _) (show 94 ∈ _ by decide)
  have JRLx_s8 : RLx s8 := RLx_fm fs8 (by decide) JRLx_s6
  have JMDJ_s8 : MDJ U s8 := MDJ_fm fs8 (by decide) JMDJ_s6
  refine z_const X rfl (z_store_n X (lv' := [(1, .int (Int32.ofInt 0)), (0, .ref (A 179))]) rfl (by decide) (fun _ h => h) (WS_pq [1, 0] (lv' := [(0, .ref (A 179)), (1, .int (Int32.ofInt 0))]) rfl (L15 ((128 - 0 : Int).toNat + 1) s8 0 Is8 Fs8 JRLx_s8 JMDJ_s8 ⟨bsm_c (bsm_0 (f := pfM s) (lim := (fun j => iC s 229 j)) (by rw [show iI s8 94 = e7 by omega]; exact hC0) (by omega)) rfl rfl (by decide), sam_ts hS0 (fun j => by rw [hs8]; rfl), fpq_s hF0 rfl (by have z := hs8; rw [z]; exact fun _ => rfl)⟩ (by first | exact ⟨by decide, by decide, oq_29301542 ws8_89 ws6_89 ws5_89 p0 b4.1⟩ | omega) (Nat.lt_succ_self _) ?_)))
  intro s9 x10 Is9 Fs9 JRLx_s9 JMDJ_s9 Qs9 hs9
  have b11 := bi_92 Is9
  have b12 := bi_93 Is9
  have b13 := bi_94 Is9
  have b14 := bi_89 Is9
  exact w_vret X.1 q hRt (ax_d X (show cdA 254 125 = some (.return_, 1, 0, 0, 0) from rfl)) (Nat.zero_le _) (Nat.zero_le _) ⟨_, rfl, Is9, Fs9, JRLx_s9, rfl, ⟨bsm_c Qs9.1 rfl rfl (by omega), Qs9.2.1, by first | exact hs9.2 | omega⟩⟩
end M87z
