/-! The model: cost, the best move -/
section M87z
variable {l : Launch} {s0 : State} {D : va_G} {tys : List (ClassId × FieldType)} {a0 : Array Value} {A : Nat → Nat} {dT : Nat → ClassId} {s : PS}
set_option maxRecDepth 4000 in
theorem k_findPeaks3 (G : GX l s0 D tys a0 dT) {U : AirD} (I : Bd s) (jRLx : RLx s) (jMDJ : MDJ U s) (p0 : iI s 89 = 1) : CT l s0 D A dT 250 (rmN 250) [.ref (A 179)] s (fun o t => Bd t ∧ Fm [77, 75, 78, 79, 80, 81] [202, 204, 205, 206, 207, 208, 209, 210, 211, 212, 213, 214, 215, 216, 217, 218, 219, 220, 221, 222, 223, 224, 225, 226, 227, 203, 161, 230, 233] s t ∧ RLx t ∧ o = .inl none ∧ (FPQ U (pfM s) 8 t)) := by
  refine ct_of G (by decide) (Nat.le_of_ble_eq_true rfl) (fun k X E hRt hXt q => ?_)
  show WS k 0 [(0, .ref (A 179))] [] _ 0 0
  have F : Fm [77, 75, 78, 79, 80, 81] [202, 204, 205, 206, 207, 208, 209, 210, 211, 212, 213, 214, 215, 216, 217, 218, 219, 220, 221, 222, 223, 224, 225, 226, 227, 203, 161, 230, 233] s s := fm_rf _ _ s
  have b1 : (1 : Int) ≤ iI s 89 ∧ iI s 89 ≤ 8 := I.1 89
  have L2 : ∀ (n : Nat) (t : PS) (p : Int), Bd t → Fm [77, 75, 78, 79, 80, 81] [202, 204, 205, 206, 207, 208, 209, 210, 211, 212, 213, 214, 215, 216, 217, 218, 219, 220, 221, 222, 223, 224, 225, 226, 227, 203, 161, 230, 233] s t → RLx t → MDJ U t → (FPQ U (pfM s) p t) → (0 ≤ p ∧ p ≤ 8 ∧ iI t 89 = 1) → (8 - p : Int).toNat < n → (∀ (t' : PS) (p' : Int), Bd t' → Fm [77, 75, 78, 79, 80, 81] [202, 204, 205, 206, 207, 208, 209, 210, 211, 212, 213, 214, 215, 216, 217, 218, 219, 220, 221, 222, 223, 224, 225, 226, 227, 203, 161, 230, 233] s t' → RLx t' → MDJ U t' → (FPQ U (pfM s) p' t') → (p' = 8) → WS k 25 [(0, .ref (A 179)), (1, .int (Int32.ofInt p'))] [] (Wd A dT t') 0 0) → WS k 2 [(0, .ref (A 179)), (1, .int (Int32.ofInt p))] [] (Wd A dT t) 0 0 := by
    intro n
    induction n with
    | zero =>
      intro t p I F jjRLx jjMDJ hq hi hm kx
      exact absurd hm (Nat.not_lt_zero _)
    | succ n ih =>
      intro t p I F jjRLx jjMDJ hq hi hm kx
      have b1001 : (1 : Int) ≤ iI t 89 ∧ iI t 89 ≤ 8 := I.1 89
      refine z_load_n X (x := p) (show cdA 250 2 = some (.iload_n 1, 1, 0, 0, 0) from rfl) (List.Mem.tail _ (List.Mem.head _)) ?_
      refine z_bipush X (show cdA 250 3 = some (.bipush 8, 2, 0, 0, 8) from rfl) ?_
      refine z_icmp_ge X (t := 25) (show cdA 250 5 = some (.if_icmp .ge 20, 3, 3, 0, 0) from rfl) (by decide) ⟨by first | exact oq_fa4e5087 hi.1 | omega, by first | exact oq_d3f5d874 hi.2.1 | omega⟩ (by decide) (fun g1002 => ?_) (fun g1002 => ?_)
      ·
        refine WS_lv (lv := [(0, .ref (A 179)), (1, .int (Int32.ofInt p))]) (List.forall_mem_cons.mpr ⟨(List.Mem.head _), (List.forall_mem_cons.mpr ⟨(List.Mem.tail _ (List.Mem.head _)), (fun q h => absurd h List.not_mem_nil)⟩)⟩) ?_
        exact kx _ p I F jjRLx jjMDJ hq (by first | exact oq_73d3719d hi.2.1 g1002 | omega)
      ·
        refine z_aload_n X (x := A 179) (show cdA 250 8 = some (.aload_n 0, 1, 0, 0, 0) from rfl) (List.Mem.head _) ?_
        refine s_getR X 179 (show cdA 250 9 = some (.getfield 86, 3, 12, 40, 0) from rfl) (by decide) rfl rfl ?_
        refine z_load_n X (x := p) (show cdA 250 12 = some (.iload_n 1, 1, 0, 0, 0) from rfl) (List.Mem.tail _ (List.Mem.head _)) ?_
        refine z_aload_n X (x := A 179) (show cdA 250 13 = some (.aload_n 0, 1, 0, 0, 0) from rfl) (List.Mem.head _) ?_
        refine z_load_n X (x := p) (show cdA 250 14 = some (.iload_n 1, 1, 0, 0, 0) from rfl) (List.Mem.tail _ (List.Mem.head _)) ?_
        refine z_callV X 179 (rm := rmN 232) (As := [.int (Int32.ofInt p)]) (st := [.int (Int32.ofInt p), .ref (A 261)]) (show cdA 250 15 = some (.invokevirtual 336, 3, 232, 0, 0) from rfl) rfl (by decide) rfl (by rw [E.1, E.2.1, E.2.2.1]; exact k_peakPiece3 G I jjRLx jjMDJ (by first | exact ⟨oq_fa4e5087 hi.1, oq_7bea7075 g1002⟩ | omega) (by first | exact hi.2.2 | omega)) ⟨by rw [E.2.2.2]; exact (show (rmN 232).frames + 1 ≤ (rmN 250).frames by decide), by rw [E.2.2.2]; exact (show 8 + (mNL (miB 232) + 11) + (rmN 232).locals ≤ (rmN 250).locals by decide), by rw [E.2.2.2]; exact (show 0 + (rmN 232).cells ≤ (rmN 250).cells by decide), by rw [E.2.2.2]; exact (show 0 + (rmN 232).slots ≤ (rmN 250).slots by decide)⟩ (Nat.le_of_ble_eq_true rfl) (fun vv s1003 hq => ?_) (fun ee s1003 hq => ?_)
        rotate_left
        · obtain ⟨Is1003, Fs1003, JRLx_s1003, e1004, hv, hrs1003, hps1003⟩ := hq; cases hv
        obtain ⟨Is1003, Fs1003, JRLx_s1003, e1004, hv, hrs1003, hps1003⟩ := hq
        cases hv
        have Gs1003 := fm_ts F Fs1003 (by decide) (by decide)
        have JRLx_s1003 : RLx s1003 := RLx_fm Fs1003 (by decide) jjRLx
        have JMDJ_s1003 : MDJ U s1003 := MDJ_fm Fs1003 (by decide) jjMDJ
        have ws1003_89 : iI s1003 89 = iI t 89 := fm_i Fs1003 (by decide)
        have aws1003_233 : SAM 233 t s1003 := sam_ts (sam_rf (a := 233) (s := t)) (sam_fm Fs1003 (by decide))
        show WS k 18 [(0, .ref (A 179)), (1, .int (Int32.ofInt p))] [.int (Int32.ofInt e1004), .int (Int32.ofInt p), .ref (A 261)] (Wd A dT s1003) 0 0
        refine z_ast X 261 (show cdA 250 18 = some (.iastore, 1, 0, 0, 0) from rfl) (by decide) rfl (by first | exact hi.1 | omega) (show p < 8 by first | exact g1002 | omega) (by decide) ?_
        obtain ⟨s1005, hs1005⟩ : ∃ x0, x0 = uC s1003 233 (p).toNat (Int32.ofInt e1004) := ⟨_, rfl⟩
        rw [← hs1005]
        have Is1005 : Bd s1005 := by rw [hs1005]; exact bd_C Is1003 (show ((-2147483648) : Int) ≤ e1004 ∧ e1004 ≤ 2147483647 by omega) hrs1003
        have Fs1005 := fm_C (i := (p).toNat) (x := Int32.ofInt e1004) Gs1003 (show 233 ∈ _ by decide)
        rw [← hs1005] at Fs1005
        have ws1005_89 : iI s1005 89 = iI s1003 89 := by rw [hs1005]; rfl
        have aws1005_233 : UPD 233 (p) e1004 t s1005 := by rw [hs1005]; exact upd_put aws1003_233 hrs1003
        have fs1005 : Fm [] [233] s1003 s1005 := by rw [hs1005]; exact fm_C (fm_rf _ _ _) (show 233 ∈ _ by decide)
        have JRLx_s1005 : RLx s1005 := RLx_fm fs1005 (by decide) JRLx_s1003
        have JMDJ_s1005 : MDJ U s1005 := MDJ_fm fs1005 (by decide) JMDJ_s1003
        refine z_inc X (x := p) (lv' := [(1, .int (Int32.ofInt (p + 1))), (0, .ref (A 179))]) (show cdA 250 19 = some (.iinc 1 1, 3, 0, 0, 0) from rfl) (by decide) (List.Mem.tail _ (List.Mem.head _)) (fun _ h => h) ?_
        refine z_goto X (t := 2) (show cdA 250 22 = some (.goto (-20), 3, 0, 0, 0) from rfl) (by decide) ?_
        refine WS_lv (lv := [(0, .ref (A 179)), (1, .int (Int32.ofInt (p + 1)))]) (List.forall_mem_cons.mpr ⟨(List.Mem.tail _ (List.Mem.head _)), (List.forall_mem_cons.mpr ⟨(List.Mem.head _), (fun q h => absurd h List.not_mem_nil)⟩)⟩) ?_
        exact ih _ (p + 1) Is1005 Fs1005 JRLx_s1005 JMDJ_s1005 (fpq_up hq (by omega) (by rw [← (show pfM t = pfM s from funext (fun j => fm_c F (by decide)))]; exact hps1003) sam_rf aws1005_233) (by first | exact ⟨oq_54f49eb5 hi.1, oq_0c7b19c3 g1002, oq_f34933ba ws1005_89 ws1003_89 hi.2.2 b1001.1⟩ | omega) (by first | exact qk_me hm (by decide) (oq_9f368f35 g1002) | omega) kx
  refine z_const X (show cdA 250 0 = some (.iconst 0, 1, 0, 0, 0) from rfl) ?_
  refine z_store_n X (lv' := [(1, .int (Int32.ofInt 0)), (0, .ref (A 179))]) (show cdA 250 1 = some (.istore_n 1, 1, 0, 0, 0) from rfl) (by decide) (fun _ h => h) ?_
  refine WS_lv (lv := [(0, .ref (A 179)), (1, .int (Int32.ofInt 0))]) (List.forall_mem_cons.mpr ⟨(List.Mem.tail _ (List.Mem.head _)), (List.forall_mem_cons.mpr ⟨(List.Mem.head _), (fun q h => absurd h List.not_mem_nil)⟩)⟩) ?_
  refine L2 ((8 - 0 : Int).toNat + 1) s 0 I F jRLx jMDJ (fun p hp => absurd hp (by omega)) (by first | exact ⟨by decide, by decide, p0⟩ | omega) (Nat.lt_succ_self _) ?_
  intro s2 x3 Is2 Fs2 JRLx_s2 JMDJ_s2 Qs2 hs2
  have b4 : (1 : Int) ≤ iI s2 89 ∧ iI s2 89 ≤ 8 := Is2.1 89
  exact w_vret X.1 q hRt (ax_d X (show cdA 250 25 = some (.return_, 1, 0, 0, 0) from rfl)) (Nat.zero_le _) (Nat.zero_le _) ⟨_, rfl, Is2, Fs2, JRLx_s2, rfl, (by have z := Qs2; rw [show x3 = 8 by omega] at z; exact z)⟩
set_option maxRecDepth 4000 in
theorem k_costBy3 (G : GX l s0 D tys a0 dT) {U : AirD} (I : Bd s) (jMDJ : MDJ U s)  : CT l s0 D A dT 251 (rmN 251) [.ref (A 179)] s (fun o t => Bd t ∧ Fm [] [] s t ∧ ∃ e, o = .inl (some (.int (Int32.ofInt e))) ∧ rng e ∧ (CSP (stpC U (pfM s)) (presF (pfM s)) (fun p => iC s 233 p) e)) := by
  refine ct_of G (by decide) (Nat.le_of_ble_eq_true rfl) (fun k X E hRt hXt q => ?_)
  show WS k 0 [(0, .ref (A 179))] [] _ 0 0
  have F : Fm [] [] s s := fm_rf _ _ s
  have L9 : ∀ (n : Nat) (t : PS) (lo hi0 an p : Int), Bd t → Fm [] [] s t → MDJ U t → (MML (presF (pfM s)) (fun p => iC s 233 p) p an hi0 lo) → (rng lo ∧ rng hi0 ∧ (0 ≤ an ∧ an ≤ p) ∧ p ≤ 8 ∧ (an = 0 → lo = 0 ∧ hi0 = 0)) → (8 - p : Int).toNat < n → (∀ (t' : PS) (lo' hi0' an' p' : Int), Bd t' → Fm [] [] s t' → MDJ U t' → (MML (presF (pfM s)) (fun p => iC s 233 p) p' an' hi0' lo') → (rng lo' ∧ rng hi0' ∧ p' = 8 ∧ (an' = 0 → lo' = 0 ∧ hi0' = 0)) → WS k 91 [(0, .ref (A 179)), (1, .int (Int32.ofInt lo')), (2, .int (Int32.ofInt hi0')), (3, .int (Int32.ofInt an')), (4, .int (Int32.ofInt p'))] [] (Wd A dT t') 0 0) → WS k 9 [(0, .ref (A 179)), (1, .int (Int32.ofInt lo)), (2, .int (Int32.ofInt hi0)), (3, .int (Int32.ofInt an)), (4, .int (Int32.ofInt p))] [] (Wd A dT t) 0 0 := by
    intro n
    induction n with
    | zero =>
      intro t lo hi0 an p I F jjMDJ hq hi hm kx
      exact absurd hm (Nat.not_lt_zero _)
    | succ n ih =>
      intro t lo hi0 an p I F jjMDJ hq hi hm kx
      refine z_load X (x := p) (show cdA 251 9 = some (.iload 4, 2, 0, 0, 0) from rfl) (List.Mem.tail _ (List.Mem.tail _ (List.Mem.tail _ (List.Mem.tail _ (List.Mem.head _))))) ?_
      refine z_bipush X (show cdA 251 11 = some (.bipush 8, 2, 0, 0, 8) from rfl) ?_
      refine z_icmp_ge X (t := 91) (show cdA 251 13 = some (.if_icmp .ge 78, 3, 3, 0, 0) from rfl) (by decide) ⟨by first | exact oq_e001bc0d hi.2.2.1.2 hi.2.2.1.1 | omega, by first | exact oq_d3f5d874 hi.2.2.2.1 | omega⟩ (by decide) (fun g1001 => ?_) (fun g1001 => ?_)
      ·
        refine WS_lv (lv := [(0, .ref (A 179)), (1, .int (Int32.ofInt lo)), (2, .int (Int32.ofInt hi0)), (3, .int (Int32.ofInt an)), (4, .int (Int32.ofInt p))]) (List.forall_mem_cons.mpr ⟨(List.Mem.head _), (List.forall_mem_cons.mpr ⟨(List.Mem.tail _ (List.Mem.head _)), (List.forall_mem_cons.mpr ⟨(List.Mem.tail _ (List.Mem.tail _ (List.Mem.head _))), (List.forall_mem_cons.mpr ⟨(List.Mem.tail _ (List.Mem.tail _ (List.Mem.tail _ (List.Mem.head _)))), (List.forall_mem_cons.mpr ⟨(List.Mem.tail _ (List.Mem.tail _ (List.Mem.tail _ (List.Mem.tail _ (List.Mem.head _))))), (fun q h => absurd h List.not_mem_nil)⟩)⟩)⟩)⟩)⟩) ?_
        exact kx _ lo hi0 an p I F jjMDJ hq (by first | exact ⟨And.intro (hi.1.1) (hi.1.2), And.intro (hi.2.1.1) (hi.2.1.2), oq_73d3719d hi.2.2.2.1 g1001, hi.2.2.2.2⟩ | omega)
      ·
        refine z_aload_n X (x := A 179) (show cdA 251 16 = some (.aload_n 0, 1, 0, 0, 0) from rfl) (List.Mem.head _) ?_
        refine z_load X (x := p) (show cdA 251 17 = some (.iload 4, 2, 0, 0, 0) from rfl) (List.Mem.tail _ (List.Mem.tail _ (List.Mem.tail _ (List.Mem.tail _ (List.Mem.head _))))) ?_
        refine z_callV X 179 (rm := rmN 233) (As := [.int (Int32.ofInt p)]) (st := []) (show cdA 251 19 = some (.invokevirtual 351, 3, 233, 0, 0) from rfl) rfl (by decide) rfl (by rw [E.1, E.2.1, E.2.2.1]; exact k_has3 G I (by first | exact ⟨oq_e001bc0d hi.2.2.1.2 hi.2.2.1.1, oq_7bea7075 g1001⟩ | omega)) ⟨by rw [E.2.2.2]; exact (show (rmN 233).frames + 1 ≤ (rmN 251).frames by decide), by rw [E.2.2.2]; exact (show 8 + (mNL (miB 233) + 11) + (rmN 233).locals ≤ (rmN 251).locals by decide), by rw [E.2.2.2]; exact (show 0 + (rmN 233).cells ≤ (rmN 251).cells by decide), by rw [E.2.2.2]; exact (show 0 + (rmN 233).slots ≤ (rmN 251).slots by decide)⟩ (Nat.le_of_ble_eq_true rfl) (fun vv s1002 hq => ?_) (fun ee s1002 hq => ?_)
        rotate_left
        · obtain ⟨Is1002, Fs1002, e1003, hv, hrs1002, hps1002⟩ := hq; cases hv
        obtain ⟨Is1002, Fs1002, e1003, hv, hrs1002, hps1002⟩ := hq
        cases hv
        have Gs1002 := fm_ts F Fs1002 (by decide) (by decide)
        have JMDJ_s1002 : MDJ U s1002 := MDJ_fm Fs1002 (by decide) jjMDJ
        show WS k 22 [(0, .ref (A 179)), (1, .int (Int32.ofInt lo)), (2, .int (Int32.ofInt hi0)), (3, .int (Int32.ofInt an)), (4, .int (Int32.ofInt p))] [.int (Int32.ofInt e1003)] (Wd A dT s1002) 0 0
        refine z_if_ne X (t := 28) (show cdA 251 22 = some (.ifCond .ne 6, 3, 1, 0, 0) from rfl) (by decide) hrs1002 (fun g1004 => ?_) (fun g1004 => ?_)
        ·
          refine z_load_n X (x := an) (show cdA 251 28 = some (.iload_n 3, 1, 0, 0, 0) from rfl) (List.Mem.tail _ (List.Mem.tail _ (List.Mem.tail _ (List.Mem.head _)))) ?_
          refine z_if_eq X (t := 43) (show cdA 251 29 = some (.ifCond .eq 14, 3, 0, 0, 0) from rfl) (by decide) ⟨by first | exact oq_fa4e5087 hi.2.2.1.1 | omega, by first | exact oq_70a17013 hi.2.2.1.2 g1001 | omega⟩ (fun g1005 => ?_) (fun g1005 => ?_)
          ·
            refine z_aload_n X (x := A 179) (show cdA 251 43 = some (.aload_n 0, 1, 0, 0, 0) from rfl) (List.Mem.head _) ?_
            refine s_getR X 179 (show cdA 251 44 = some (.getfield 86, 3, 12, 40, 0) from rfl) (by decide) rfl rfl ?_
            refine z_load X (x := p) (show cdA 251 47 = some (.iload 4, 2, 0, 0, 0) from rfl) (List.Mem.tail _ (List.Mem.tail _ (List.Mem.tail _ (List.Mem.tail _ (List.Mem.head _))))) ?_
            refine z_ald X 261 (show cdA 251 49 = some (.iaload, 1, 0, 0, 0) from rfl) (by decide) rfl (by first | exact oq_e9ac77f5 hi.2.2.1.2 g1005 | omega) (show p < 8 by first | exact g1001 | omega) (by decide) ?_
            have b1006 : ((-2147483648) : Int) ≤ iC s1002 233 (p).toNat ∧ iC s1002 233 (p).toNat ≤ 2147483647 := Is1002.2 233 _ (show (p).toNat < 8 by first | exact oq_db4b3b8b g1001 | omega)
            refine z_goto X (t := 54) (show cdA 251 50 = some (.goto 4, 3, 0, 0, 0) from rfl) (by decide) ?_
            refine z_store_n X (lv' := [(1, .int (Int32.ofInt (iC s1002 233 (p).toNat))), (0, .ref (A 179)), (2, .int (Int32.ofInt hi0)), (3, .int (Int32.ofInt an)), (4, .int (Int32.ofInt p))]) (show cdA 251 54 = some (.istore_n 1, 1, 0, 0, 0) from rfl) (by decide) (fun _ h => h) ?_
            refine z_load_n X (x := an) (show cdA 251 55 = some (.iload_n 3, 1, 0, 0, 0) from rfl) (List.Mem.tail _ (List.Mem.tail _ (List.Mem.tail _ (List.Mem.head _)))) ?_
            refine z_if_eq X (t := 70) (show cdA 251 56 = some (.ifCond .eq 14, 3, 0, 0, 0) from rfl) (by decide) ⟨by first | exact oq_6ab4c69f g1005 | omega, by first | exact oq_3b8a080c g1005 | omega⟩ (fun g1007 => ?_) (fun g1007 => ?_)
            ·
              refine z_aload_n X (x := A 179) (show cdA 251 70 = some (.aload_n 0, 1, 0, 0, 0) from rfl) (List.Mem.tail _ (List.Mem.head _)) ?_
              refine s_getR X 179 (show cdA 251 71 = some (.getfield 86, 3, 12, 40, 0) from rfl) (by decide) rfl rfl ?_
              refine z_load X (x := p) (show cdA 251 74 = some (.iload 4, 2, 0, 0, 0) from rfl) (List.Mem.tail _ (List.Mem.tail _ (List.Mem.tail _ (List.Mem.tail _ (List.Mem.head _))))) ?_
              refine z_ald X 261 (show cdA 251 76 = some (.iaload, 1, 0, 0, 0) from rfl) (by decide) rfl (by first | exact oq_e9ac77f5 hi.2.2.1.2 g1007 | omega) (show p < 8 by first | exact g1001 | omega) (by decide) ?_
              have b1008 : ((-2147483648) : Int) ≤ iC s1002 233 (p).toNat ∧ iC s1002 233 (p).toNat ≤ 2147483647 := Is1002.2 233 _ (show (p).toNat < 8 by first | exact oq_db4b3b8b g1001 | omega)
              refine z_goto X (t := 81) (show cdA 251 77 = some (.goto 4, 3, 0, 0, 0) from rfl) (by decide) ?_
              refine z_store_n X (lv' := [(2, .int (Int32.ofInt (iC s1002 233 (p).toNat))), (1, .int (Int32.ofInt (iC s1002 233 (p).toNat))), (0, .ref (A 179)), (3, .int (Int32.ofInt an)), (4, .int (Int32.ofInt p))]) (show cdA 251 81 = some (.istore_n 2, 1, 0, 0, 0) from rfl) (by decide) (fun _ h => h) ?_
              refine z_inc X (x := an) (lv' := [(3, .int (Int32.ofInt (an + 1))), (2, .int (Int32.ofInt (iC s1002 233 (p).toNat))), (1, .int (Int32.ofInt (iC s1002 233 (p).toNat))), (0, .ref (A 179)), (4, .int (Int32.ofInt p))]) (show cdA 251 82 = some (.iinc 3 1, 3, 0, 0, 0) from rfl) (by decide) (List.Mem.tail _ (List.Mem.tail _ (List.Mem.tail _ (List.Mem.head _)))) (fun _ h => h) ?_
              refine z_inc X (x := p) (lv' := [(4, .int (Int32.ofInt (p + 1))), (3, .int (Int32.ofInt (an + 1))), (2, .int (Int32.ofInt (iC s1002 233 (p).toNat))), (1, .int (Int32.ofInt (iC s1002 233 (p).toNat))), (0, .ref (A 179))]) (show cdA 251 85 = some (.iinc 4 1, 3, 0, 0, 0) from rfl) (by decide) (List.Mem.tail _ (List.Mem.tail _ (List.Mem.tail _ (List.Mem.tail _ (List.Mem.head _))))) (fun _ h => h) ?_
              refine z_goto X (t := 9) (show cdA 251 88 = some (.goto (-79), 3, 0, 0, 0) from rfl) (by decide) ?_
              refine WS_lv (lv := [(0, .ref (A 179)), (1, .int (Int32.ofInt (iC s1002 233 (p).toNat))), (2, .int (Int32.ofInt (iC s1002 233 (p).toNat))), (3, .int (Int32.ofInt (an + 1))), (4, .int (Int32.ofInt (p + 1)))]) (List.forall_mem_cons.mpr ⟨(List.Mem.tail _ (List.Mem.tail _ (List.Mem.tail _ (List.Mem.tail _ (List.Mem.head _))))), (List.forall_mem_cons.mpr ⟨(List.Mem.tail _ (List.Mem.tail _ (List.Mem.tail _ (List.Mem.head _)))), (List.forall_mem_cons.mpr ⟨(List.Mem.tail _ (List.Mem.tail _ (List.Mem.head _))), (List.forall_mem_cons.mpr ⟨(List.Mem.tail _ (List.Mem.head _)), (List.forall_mem_cons.mpr ⟨(List.Mem.head _), (fun q h => absurd h List.not_mem_nil)⟩)⟩)⟩)⟩)⟩) ?_
              exact ih _ (iC s1002 233 (p).toNat) (iC s1002 233 (p).toNat) (an + 1) (p + 1) Is1002 Gs1002 JMDJ_s1002 (mml_y (v := iC s1002 233 (p : Int).toNat) hq (by omega) (hce_p (by have z := hps1002.2; rw [(show pfM t = pfM s from funext (fun j => fm_c F (by decide)))] at z; exact z) (by omega) (by omega)) (show iC s1002 233 (p : Int).toNat = iC s 233 (p : Int).toNat from fm_c Gs1002 List.not_mem_nil) (by omega) (by omega)) (by first | exact ⟨And.intro (b1008.1) (b1008.2), And.intro (b1008.1) (b1008.2), And.intro (oq_535341f0 g1007) (oq_8d48a029 hi.2.2.1.2), oq_0c7b19c3 g1001, oq_816ed005 g1007⟩ | omega) (by first | exact qk_me hm (by decide) (oq_9f368f35 g1001) | omega) kx
            ·
              refine z_aload_n X (x := A 179) (show cdA 251 59 = some (.aload_n 0, 1, 0, 0, 0) from rfl) (List.Mem.tail _ (List.Mem.head _)) ?_
              refine s_getR X 179 (show cdA 251 60 = some (.getfield 86, 3, 12, 40, 0) from rfl) (by decide) rfl rfl ?_
              refine z_load X (x := p) (show cdA 251 63 = some (.iload 4, 2, 0, 0, 0) from rfl) (List.Mem.tail _ (List.Mem.tail _ (List.Mem.tail _ (List.Mem.tail _ (List.Mem.head _))))) ?_
              refine z_ald X 261 (show cdA 251 65 = some (.iaload, 1, 0, 0, 0) from rfl) (by decide) rfl (by first | exact oq_e9ac77f5 hi.2.2.1.2 g1005 | omega) (show p < 8 by first | exact g1001 | omega) (by decide) ?_
              have b1009 : ((-2147483648) : Int) ≤ iC s1002 233 (p).toNat ∧ iC s1002 233 (p).toNat ≤ 2147483647 := Is1002.2 233 _ (show (p).toNat < 8 by first | exact oq_db4b3b8b g1001 | omega)
              refine z_load_n X (x := hi0) (show cdA 251 66 = some (.iload_n 2, 1, 0, 0, 0) from rfl) (List.Mem.tail _ (List.Mem.tail _ (List.Mem.head _))) ?_
              refine z_icmp_le X (t := 80) (show cdA 251 67 = some (.if_icmp .le 13, 3, 5, 0, 0) from rfl) (by decide) (rng_to _) ⟨by first | exact hi.2.1.1 | omega, by first | exact hi.2.1.2 | omega⟩ (fun g1010 => ?_) (fun g1010 => ?_)
              ·
                refine z_load_n X (x := hi0) (show cdA 251 80 = some (.iload_n 2, 1, 0, 0, 0) from rfl) (List.Mem.tail _ (List.Mem.tail _ (List.Mem.head _))) ?_
                refine z_store_n X (lv' := [(2, .int (Int32.ofInt hi0)), (1, .int (Int32.ofInt (iC s1002 233 (p).toNat))), (0, .ref (A 179)), (3, .int (Int32.ofInt an)), (4, .int (Int32.ofInt p))]) (show cdA 251 81 = some (.istore_n 2, 1, 0, 0, 0) from rfl) (by decide) (fun _ h => h) ?_
                refine z_inc X (x := an) (lv' := [(3, .int (Int32.ofInt (an + 1))), (2, .int (Int32.ofInt hi0)), (1, .int (Int32.ofInt (iC s1002 233 (p).toNat))), (0, .ref (A 179)), (4, .int (Int32.ofInt p))]) (show cdA 251 82 = some (.iinc 3 1, 3, 0, 0, 0) from rfl) (by decide) (List.Mem.tail _ (List.Mem.tail _ (List.Mem.tail _ (List.Mem.head _)))) (fun _ h => h) ?_
                refine z_inc X (x := p) (lv' := [(4, .int (Int32.ofInt (p + 1))), (3, .int (Int32.ofInt (an + 1))), (2, .int (Int32.ofInt hi0)), (1, .int (Int32.ofInt (iC s1002 233 (p).toNat))), (0, .ref (A 179))]) (show cdA 251 85 = some (.iinc 4 1, 3, 0, 0, 0) from rfl) (by decide) (List.Mem.tail _ (List.Mem.tail _ (List.Mem.tail _ (List.Mem.tail _ (List.Mem.head _))))) (fun _ h => h) ?_
                refine z_goto X (t := 9) (show cdA 251 88 = some (.goto (-79), 3, 0, 0, 0) from rfl) (by decide) ?_
                refine WS_lv (lv := [(0, .ref (A 179)), (1, .int (Int32.ofInt (iC s1002 233 (p).toNat))), (2, .int (Int32.ofInt hi0)), (3, .int (Int32.ofInt (an + 1))), (4, .int (Int32.ofInt (p + 1)))]) (List.forall_mem_cons.mpr ⟨(List.Mem.tail _ (List.Mem.tail _ (List.Mem.tail _ (List.Mem.tail _ (List.Mem.head _))))), (List.forall_mem_cons.mpr ⟨(List.Mem.tail _ (List.Mem.tail _ (List.Mem.tail _ (List.Mem.head _)))), (List.forall_mem_cons.mpr ⟨(List.Mem.tail _ (List.Mem.tail _ (List.Mem.head _))), (List.forall_mem_cons.mpr ⟨(List.Mem.tail _ (List.Mem.head _)), (List.forall_mem_cons.mpr ⟨(List.Mem.head _), (fun q h => absurd h List.not_mem_nil)⟩)⟩)⟩)⟩)⟩) ?_
                exact ih _ (iC s1002 233 (p).toNat) hi0 (an + 1) (p + 1) Is1002 Gs1002 JMDJ_s1002 (mml_y (v := iC s1002 233 (p : Int).toNat) hq (by omega) (hce_p (by have z := hps1002.2; rw [(show pfM t = pfM s from funext (fun j => fm_c F (by decide)))] at z; exact z) (by omega) (by omega)) (show iC s1002 233 (p : Int).toNat = iC s 233 (p : Int).toNat from fm_c Gs1002 List.not_mem_nil) (by omega) (by omega)) (by first | exact ⟨And.intro (b1009.1) (b1009.2), And.intro (hi.2.1.1) (hi.2.1.2), And.intro (oq_535341f0 g1005) (oq_8d48a029 hi.2.2.1.2), oq_0c7b19c3 g1001, oq_e0358e06 g1005⟩ | omega) (by first | exact qk_me hm (by decide) (oq_9f368f35 g1001) | omega) kx
              ·
                refine z_aload_n X (x := A 179) (show cdA 251 70 = some (.aload_n 0, 1, 0, 0, 0) from rfl) (List.Mem.tail _ (List.Mem.head _)) ?_
                refine s_getR X 179 (show cdA 251 71 = some (.getfield 86, 3, 12, 40, 0) from rfl) (by decide) rfl rfl ?_
                refine z_load X (x := p) (show cdA 251 74 = some (.iload 4, 2, 0, 0, 0) from rfl) (List.Mem.tail _ (List.Mem.tail _ (List.Mem.tail _ (List.Mem.tail _ (List.Mem.head _))))) ?_
                refine z_ald X 261 (show cdA 251 76 = some (.iaload, 1, 0, 0, 0) from rfl) (by decide) rfl (by first | exact oq_e9ac77f5 hi.2.2.1.2 g1005 | omega) (show p < 8 by first | exact g1001 | omega) (by decide) ?_
                have b1011 : ((-2147483648) : Int) ≤ iC s1002 233 (p).toNat ∧ iC s1002 233 (p).toNat ≤ 2147483647 := Is1002.2 233 _ (show (p).toNat < 8 by first | exact oq_db4b3b8b g1001 | omega)
                refine z_goto X (t := 81) (show cdA 251 77 = some (.goto 4, 3, 0, 0, 0) from rfl) (by decide) ?_
                refine z_store_n X (lv' := [(2, .int (Int32.ofInt (iC s1002 233 (p).toNat))), (1, .int (Int32.ofInt (iC s1002 233 (p).toNat))), (0, .ref (A 179)), (3, .int (Int32.ofInt an)), (4, .int (Int32.ofInt p))]) (show cdA 251 81 = some (.istore_n 2, 1, 0, 0, 0) from rfl) (by decide) (fun _ h => h) ?_
                refine z_inc X (x := an) (lv' := [(3, .int (Int32.ofInt (an + 1))), (2, .int (Int32.ofInt (iC s1002 233 (p).toNat))), (1, .int (Int32.ofInt (iC s1002 233 (p).toNat))), (0, .ref (A 179)), (4, .int (Int32.ofInt p))]) (show cdA 251 82 = some (.iinc 3 1, 3, 0, 0, 0) from rfl) (by decide) (List.Mem.tail _ (List.Mem.tail _ (List.Mem.tail _ (List.Mem.head _)))) (fun _ h => h) ?_
                refine z_inc X (x := p) (lv' := [(4, .int (Int32.ofInt (p + 1))), (3, .int (Int32.ofInt (an + 1))), (2, .int (Int32.ofInt (iC s1002 233 (p).toNat))), (1, .int (Int32.ofInt (iC s1002 233 (p).toNat))), (0, .ref (A 179))]) (show cdA 251 85 = some (.iinc 4 1, 3, 0, 0, 0) from rfl) (by decide) (List.Mem.tail _ (List.Mem.tail _ (List.Mem.tail _ (List.Mem.tail _ (List.Mem.head _))))) (fun _ h => h) ?_
                refine z_goto X (t := 9) (show cdA 251 88 = some (.goto (-79), 3, 0, 0, 0) from rfl) (by decide) ?_
                refine WS_lv (lv := [(0, .ref (A 179)), (1, .int (Int32.ofInt (iC s1002 233 (p).toNat))), (2, .int (Int32.ofInt (iC s1002 233 (p).toNat))), (3, .int (Int32.ofInt (an + 1))), (4, .int (Int32.ofInt (p + 1)))]) (List.forall_mem_cons.mpr ⟨(List.Mem.tail _ (List.Mem.tail _ (List.Mem.tail _ (List.Mem.tail _ (List.Mem.head _))))), (List.forall_mem_cons.mpr ⟨(List.Mem.tail _ (List.Mem.tail _ (List.Mem.tail _ (List.Mem.head _)))), (List.forall_mem_cons.mpr ⟨(List.Mem.tail _ (List.Mem.tail _ (List.Mem.head _))), (List.forall_mem_cons.mpr ⟨(List.Mem.tail _ (List.Mem.head _)), (List.forall_mem_cons.mpr ⟨(List.Mem.head _), (fun q h => absurd h List.not_mem_nil)⟩)⟩)⟩)⟩)⟩) ?_
                exact ih _ (iC s1002 233 (p).toNat) (iC s1002 233 (p).toNat) (an + 1) (p + 1) Is1002 Gs1002 JMDJ_s1002 (mml_y (v := iC s1002 233 (p : Int).toNat) hq (by omega) (hce_p (by have z := hps1002.2; rw [(show pfM t = pfM s from funext (fun j => fm_c F (by decide)))] at z; exact z) (by omega) (by omega)) (show iC s1002 233 (p : Int).toNat = iC s 233 (p : Int).toNat from fm_c Gs1002 List.not_mem_nil) (by omega) (by omega)) (by first | exact ⟨And.intro (b1011.1) (b1011.2), And.intro (b1011.1) (b1011.2), And.intro (oq_535341f0 g1005) (oq_8d48a029 hi.2.2.1.2), oq_0c7b19c3 g1001, oq_816ed005 g1005⟩ | omega) (by first | exact qk_me hm (by decide) (oq_9f368f35 g1001) | omega) kx
          ·
            refine z_aload_n X (x := A 179) (show cdA 251 32 = some (.aload_n 0, 1, 0, 0, 0) from rfl) (List.Mem.head _) ?_
            refine s_getR X 179 (show cdA 251 33 = some (.getfield 86, 3, 12, 40, 0) from rfl) (by decide) rfl rfl ?_
            refine z_load X (x := p) (show cdA 251 36 = some (.iload 4, 2, 0, 0, 0) from rfl) (List.Mem.tail _ (List.Mem.tail _ (List.Mem.tail _ (List.Mem.tail _ (List.Mem.head _))))) ?_
            refine z_ald X 261 (show cdA 251 38 = some (.iaload, 1, 0, 0, 0) from rfl) (by decide) rfl (by first | exact oq_12a1f9e1 hi.2.2.1.2 hi.2.2.1.1 | omega) (show p < 8 by first | exact g1001 | omega) (by decide) ?_
            have b1012 : ((-2147483648) : Int) ≤ iC s1002 233 (p).toNat ∧ iC s1002 233 (p).toNat ≤ 2147483647 := Is1002.2 233 _ (show (p).toNat < 8 by first | exact oq_db4b3b8b g1001 | omega)
            refine z_load_n X (x := lo) (show cdA 251 39 = some (.iload_n 1, 1, 0, 0, 0) from rfl) (List.Mem.tail _ (List.Mem.head _)) ?_
            refine z_icmp_ge X (t := 53) (show cdA 251 40 = some (.if_icmp .ge 13, 3, 3, 0, 0) from rfl) (by decide) (rng_to _) ⟨by first | exact hi.1.1 | omega, by first | exact hi.1.2 | omega⟩ (fun g1013 => ?_) (fun g1013 => ?_)
            ·
              refine z_load_n X (x := lo) (show cdA 251 53 = some (.iload_n 1, 1, 0, 0, 0) from rfl) (List.Mem.tail _ (List.Mem.head _)) ?_
              refine z_store_n X (lv' := [(1, .int (Int32.ofInt lo)), (0, .ref (A 179)), (2, .int (Int32.ofInt hi0)), (3, .int (Int32.ofInt an)), (4, .int (Int32.ofInt p))]) (show cdA 251 54 = some (.istore_n 1, 1, 0, 0, 0) from rfl) (by decide) (fun _ h => h) ?_
              refine z_load_n X (x := an) (show cdA 251 55 = some (.iload_n 3, 1, 0, 0, 0) from rfl) (List.Mem.tail _ (List.Mem.tail _ (List.Mem.tail _ (List.Mem.head _)))) ?_
              refine z_if_eq X (t := 70) (show cdA 251 56 = some (.ifCond .eq 14, 3, 0, 0, 0) from rfl) (by decide) ⟨by first | exact oq_fa4e5087 hi.2.2.1.1 | omega, by first | exact oq_70a17013 hi.2.2.1.2 g1001 | omega⟩ (fun g1014 => ?_) (fun g1014 => ?_)
              ·
                refine z_aload_n X (x := A 179) (show cdA 251 70 = some (.aload_n 0, 1, 0, 0, 0) from rfl) (List.Mem.tail _ (List.Mem.head _)) ?_
                refine s_getR X 179 (show cdA 251 71 = some (.getfield 86, 3, 12, 40, 0) from rfl) (by decide) rfl rfl ?_
                refine z_load X (x := p) (show cdA 251 74 = some (.iload 4, 2, 0, 0, 0) from rfl) (List.Mem.tail _ (List.Mem.tail _ (List.Mem.tail _ (List.Mem.tail _ (List.Mem.head _))))) ?_
                refine z_ald X 261 (show cdA 251 76 = some (.iaload, 1, 0, 0, 0) from rfl) (by decide) rfl (by first | exact oq_e9ac77f5 hi.2.2.1.2 g1014 | omega) (show p < 8 by first | exact g1001 | omega) (by decide) ?_
                have b1015 : ((-2147483648) : Int) ≤ iC s1002 233 (p).toNat ∧ iC s1002 233 (p).toNat ≤ 2147483647 := Is1002.2 233 _ (show (p).toNat < 8 by first | exact oq_db4b3b8b g1001 | omega)
                refine z_goto X (t := 81) (show cdA 251 77 = some (.goto 4, 3, 0, 0, 0) from rfl) (by decide) ?_
                refine z_store_n X (lv' := [(2, .int (Int32.ofInt (iC s1002 233 (p).toNat))), (1, .int (Int32.ofInt lo)), (0, .ref (A 179)), (3, .int (Int32.ofInt an)), (4, .int (Int32.ofInt p))]) (show cdA 251 81 = some (.istore_n 2, 1, 0, 0, 0) from rfl) (by decide) (fun _ h => h) ?_
                refine z_inc X (x := an) (lv' := [(3, .int (Int32.ofInt (an + 1))), (2, .int (Int32.ofInt (iC s1002 233 (p).toNat))), (1, .int (Int32.ofInt lo)), (0, .ref (A 179)), (4, .int (Int32.ofInt p))]) (show cdA 251 82 = some (.iinc 3 1, 3, 0, 0, 0) from rfl) (by decide) (List.Mem.tail _ (List.Mem.tail _ (List.Mem.tail _ (List.Mem.head _)))) (fun _ h => h) ?_
                refine z_inc X (x := p) (lv' := [(4, .int (Int32.ofInt (p + 1))), (3, .int (Int32.ofInt (an + 1))), (2, .int (Int32.ofInt (iC s1002 233 (p).toNat))), (1, .int (Int32.ofInt lo)), (0, .ref (A 179))]) (show cdA 251 85 = some (.iinc 4 1, 3, 0, 0, 0) from rfl) (by decide) (List.Mem.tail _ (List.Mem.tail _ (List.Mem.tail _ (List.Mem.tail _ (List.Mem.head _))))) (fun _ h => h) ?_
                refine z_goto X (t := 9) (show cdA 251 88 = some (.goto (-79), 3, 0, 0, 0) from rfl) (by decide) ?_
                refine WS_lv (lv := [(0, .ref (A 179)), (1, .int (Int32.ofInt lo)), (2, .int (Int32.ofInt (iC s1002 233 (p).toNat))), (3, .int (Int32.ofInt (an + 1))), (4, .int (Int32.ofInt (p + 1)))]) (List.forall_mem_cons.mpr ⟨(List.Mem.tail _ (List.Mem.tail _ (List.Mem.tail _ (List.Mem.tail _ (List.Mem.head _))))), (List.forall_mem_cons.mpr ⟨(List.Mem.tail _ (List.Mem.tail _ (List.Mem.tail _ (List.Mem.head _)))), (List.forall_mem_cons.mpr ⟨(List.Mem.tail _ (List.Mem.tail _ (List.Mem.head _))), (List.forall_mem_cons.mpr ⟨(List.Mem.tail _ (List.Mem.head _)), (List.forall_mem_cons.mpr ⟨(List.Mem.head _), (fun q h => absurd h List.not_mem_nil)⟩)⟩)⟩)⟩)⟩) ?_
                exact ih _ lo (iC s1002 233 (p).toNat) (an + 1) (p + 1) Is1002 Gs1002 JMDJ_s1002 (mml_y (v := iC s1002 233 (p : Int).toNat) hq (by omega) (hce_p (by have z := hps1002.2; rw [(show pfM t = pfM s from funext (fun j => fm_c F (by decide)))] at z; exact z) (by omega) (by omega)) (show iC s1002 233 (p : Int).toNat = iC s 233 (p : Int).toNat from fm_c Gs1002 List.not_mem_nil) (by omega) (by omega)) (by first | exact ⟨And.intro (hi.1.1) (hi.1.2), And.intro (b1015.1) (b1015.2), And.intro (oq_535341f0 g1014) (oq_8d48a029 hi.2.2.1.2), oq_0c7b19c3 g1001, oq_e0358e06 g1014⟩ | omega) (by first | exact qk_me hm (by decide) (oq_9f368f35 g1001) | omega) kx
              ·
                refine z_aload_n X (x := A 179) (show cdA 251 59 = some (.aload_n 0, 1, 0, 0, 0) from rfl) (List.Mem.tail _ (List.Mem.head _)) ?_
                refine s_getR X 179 (show cdA 251 60 = some (.getfield 86, 3, 12, 40, 0) from rfl) (by decide) rfl rfl ?_
                refine z_load X (x := p) (show cdA 251 63 = some (.iload 4, 2, 0, 0, 0) from rfl) (List.Mem.tail _ (List.Mem.tail _ (List.Mem.tail _ (List.Mem.tail _ (List.Mem.head _))))) ?_
                refine z_ald X 261 (show cdA 251 65 = some (.iaload, 1, 0, 0, 0) from rfl) (by decide) rfl (by first | exact oq_12a1f9e1 hi.2.2.1.2 hi.2.2.1.1 | omega) (show p < 8 by first | exact g1001 | omega) (by decide) ?_
                have b1016 : ((-2147483648) : Int) ≤ iC s1002 233 (p).toNat ∧ iC s1002 233 (p).toNat ≤ 2147483647 := Is1002.2 233 _ (show (p).toNat < 8 by first | exact oq_db4b3b8b g1001 | omega)
                refine z_load_n X (x := hi0) (show cdA 251 66 = some (.iload_n 2, 1, 0, 0, 0) from rfl) (List.Mem.tail _ (List.Mem.tail _ (List.Mem.head _))) ?_
                refine z_icmp_le X (t := 80) (show cdA 251 67 = some (.if_icmp .le 13, 3, 5, 0, 0) from rfl) (by decide) (rng_to _) ⟨by first | exact hi.2.1.1 | omega, by first | exact hi.2.1.2 | omega⟩ (fun g1017 => ?_) (fun g1017 => ?_)
                ·
                  refine z_load_n X (x := hi0) (show cdA 251 80 = some (.iload_n 2, 1, 0, 0, 0) from rfl) (List.Mem.tail _ (List.Mem.tail _ (List.Mem.head _))) ?_
                  refine z_store_n X (lv' := [(2, .int (Int32.ofInt hi0)), (1, .int (Int32.ofInt lo)), (0, .ref (A 179)), (3, .int (Int32.ofInt an)), (4, .int (Int32.ofInt p))]) (show cdA 251 81 = some (.istore_n 2, 1, 0, 0, 0) from rfl) (by decide) (fun _ h => h) ?_
                  refine z_inc X (x := an) (lv' := [(3, .int (Int32.ofInt (an + 1))), (2, .int (Int32.ofInt hi0)), (1, .int (Int32.ofInt lo)), (0, .ref (A 179)), (4, .int (Int32.ofInt p))]) (show cdA 251 82 = some (.iinc 3 1, 3, 0, 0, 0) from rfl) (by decide) (List.Mem.tail _ (List.Mem.tail _ (List.Mem.tail _ (List.Mem.head _)))) (fun _ h => h) ?_
                  refine z_inc X (x := p) (lv' := [(4, .int (Int32.ofInt (p + 1))), (3, .int (Int32.ofInt (an + 1))), (2, .int (Int32.ofInt hi0)), (1, .int (Int32.ofInt lo)), (0, .ref (A 179))]) (show cdA 251 85 = some (.iinc 4 1, 3, 0, 0, 0) from rfl) (by decide) (List.Mem.tail _ (List.Mem.tail _ (List.Mem.tail _ (List.Mem.tail _ (List.Mem.head _))))) (fun _ h => h) ?_
                  refine z_goto X (t := 9) (show cdA 251 88 = some (.goto (-79), 3, 0, 0, 0) from rfl) (by decide) ?_
                  refine WS_lv (lv := [(0, .ref (A 179)), (1, .int (Int32.ofInt lo)), (2, .int (Int32.ofInt hi0)), (3, .int (Int32.ofInt (an + 1))), (4, .int (Int32.ofInt (p + 1)))]) (List.forall_mem_cons.mpr ⟨(List.Mem.tail _ (List.Mem.tail _ (List.Mem.tail _ (List.Mem.tail _ (List.Mem.head _))))), (List.forall_mem_cons.mpr ⟨(List.Mem.tail _ (List.Mem.tail _ (List.Mem.tail _ (List.Mem.head _)))), (List.forall_mem_cons.mpr ⟨(List.Mem.tail _ (List.Mem.tail _ (List.Mem.head _))), (List.forall_mem_cons.mpr ⟨(List.Mem.tail _ (List.Mem.head _)), (List.forall_mem_cons.mpr ⟨(List.Mem.head _), (fun q h => absurd h List.not_mem_nil)⟩)⟩)⟩)⟩)⟩) ?_
                  exact ih _ lo hi0 (an + 1) (p + 1) Is1002 Gs1002 JMDJ_s1002 (mml_y (v := iC s1002 233 (p : Int).toNat) hq (by omega) (hce_p (by have z := hps1002.2; rw [(show pfM t = pfM s from funext (fun j => fm_c F (by decide)))] at z; exact z) (by omega) (by omega)) (show iC s1002 233 (p : Int).toNat = iC s 233 (p : Int).toNat from fm_c Gs1002 List.not_mem_nil) (by omega) (by omega)) (by first | exact ⟨And.intro (hi.1.1) (hi.1.2), And.intro (hi.2.1.1) (hi.2.1.2), And.intro (oq_54f49eb5 hi.2.2.1.1) (oq_8d48a029 hi.2.2.1.2), oq_0c7b19c3 g1001, oq_eca44bbb hi.2.2.1.1⟩ | omega) (by first | exact qk_me hm (by decide) (oq_9f368f35 g1001) | omega) kx
                ·
                  refine z_aload_n X (x := A 179) (show cdA 251 70 = some (.aload_n 0, 1, 0, 0, 0) from rfl) (List.Mem.tail _ (List.Mem.head _)) ?_
                  refine s_getR X 179 (show cdA 251 71 = some (.getfield 86, 3, 12, 40, 0) from rfl) (by decide) rfl rfl ?_
                  refine z_load X (x := p) (show cdA 251 74 = some (.iload 4, 2, 0, 0, 0) from rfl) (List.Mem.tail _ (List.Mem.tail _ (List.Mem.tail _ (List.Mem.tail _ (List.Mem.head _))))) ?_
                  refine z_ald X 261 (show cdA 251 76 = some (.iaload, 1, 0, 0, 0) from rfl) (by decide) rfl (by first | exact oq_12a1f9e1 hi.2.2.1.2 hi.2.2.1.1 | omega) (show p < 8 by first | exact g1001 | omega) (by decide) ?_
                  have b1018 : ((-2147483648) : Int) ≤ iC s1002 233 (p).toNat ∧ iC s1002 233 (p).toNat ≤ 2147483647 := Is1002.2 233 _ (show (p).toNat < 8 by first | exact oq_db4b3b8b g1001 | omega)
                  refine z_goto X (t := 81) (show cdA 251 77 = some (.goto 4, 3, 0, 0, 0) from rfl) (by decide) ?_
                  refine z_store_n X (lv' := [(2, .int (Int32.ofInt (iC s1002 233 (p).toNat))), (1, .int (Int32.ofInt lo)), (0, .ref (A 179)), (3, .int (Int32.ofInt an)), (4, .int (Int32.ofInt p))]) (show cdA 251 81 = some (.istore_n 2, 1, 0, 0, 0) from rfl) (by decide) (fun _ h => h) ?_
                  refine z_inc X (x := an) (lv' := [(3, .int (Int32.ofInt (an + 1))), (2, .int (Int32.ofInt (iC s1002 233 (p).toNat))), (1, .int (Int32.ofInt lo)), (0, .ref (A 179)), (4, .int (Int32.ofInt p))]) (show cdA 251 82 = some (.iinc 3 1, 3, 0, 0, 0) from rfl) (by decide) (List.Mem.tail _ (List.Mem.tail _ (List.Mem.tail _ (List.Mem.head _)))) (fun _ h => h) ?_
                  refine z_inc X (x := p) (lv' := [(4, .int (Int32.ofInt (p + 1))), (3, .int (Int32.ofInt (an + 1))), (2, .int (Int32.ofInt (iC s1002 233 (p).toNat))), (1, .int (Int32.ofInt lo)), (0, .ref (A 179))]) (show cdA 251 85 = some (.iinc 4 1, 3, 0, 0, 0) from rfl) (by decide) (List.Mem.tail _ (List.Mem.tail _ (List.Mem.tail _ (List.Mem.tail _ (List.Mem.head _))))) (fun _ h => h) ?_
                  refine z_goto X (t := 9) (show cdA 251 88 = some (.goto (-79), 3, 0, 0, 0) from rfl) (by decide) ?_
                  refine WS_lv (lv := [(0, .ref (A 179)), (1, .int (Int32.ofInt lo)), (2, .int (Int32.ofInt (iC s1002 233 (p).toNat))), (3, .int (Int32.ofInt (an + 1))), (4, .int (Int32.ofInt (p + 1)))]) (List.forall_mem_cons.mpr ⟨(List.Mem.tail _ (List.Mem.tail _ (List.Mem.tail _ (List.Mem.tail _ (List.Mem.head _))))), (List.forall_mem_cons.mpr ⟨(List.Mem.tail _ (List.Mem.tail _ (List.Mem.tail _ (List.Mem.head _)))), (List.forall_mem_cons.mpr ⟨(List.Mem.tail _ (List.Mem.tail _ (List.Mem.head _))), (List.forall_mem_cons.mpr ⟨(List.Mem.tail _ (List.Mem.head _)), (List.forall_mem_cons.mpr ⟨(List.Mem.head _), (fun q h => absurd h List.not_mem_nil)⟩)⟩)⟩)⟩)⟩) ?_
                  exact ih _ lo (iC s1002 233 (p).toNat) (an + 1) (p + 1) Is1002 Gs1002 JMDJ_s1002 (mml_y (v := iC s1002 233 (p : Int).toNat) hq (by omega) (hce_p (by have z := hps1002.2; rw [(show pfM t = pfM s from funext (fun j => fm_c F (by decide)))] at z; exact z) (by omega) (by omega)) (show iC s1002 233 (p : Int).toNat = iC s 233 (p : Int).toNat from fm_c Gs1002 List.not_mem_nil) (by omega) (by omega)) (by first | exact ⟨And.intro (hi.1.1) (hi.1.2), And.intro (b1018.1) (b1018.2), And.intro (oq_54f49eb5 hi.2.2.1.1) (oq_8d48a029 hi.2.2.1.2), oq_0c7b19c3 g1001, oq_eca44bbb hi.2.2.1.1⟩ | omega) (by first | exact qk_me hm (by decide) (oq_9f368f35 g1001) | omega) kx
            ·
              refine z_aload_n X (x := A 179) (show cdA 251 43 = some (.aload_n 0, 1, 0, 0, 0) from rfl) (List.Mem.head _) ?_
              refine s_getR X 179 (show cdA 251 44 = some (.getfield 86, 3, 12, 40, 0) from rfl) (by decide) rfl rfl ?_
              refine z_load X (x := p) (show cdA 251 47 = some (.iload 4, 2, 0, 0, 0) from rfl) (List.Mem.tail _ (List.Mem.tail _ (List.Mem.tail _ (List.Mem.tail _ (List.Mem.head _))))) ?_
              refine z_ald X 261 (show cdA 251 49 = some (.iaload, 1, 0, 0, 0) from rfl) (by decide) rfl (by first | exact oq_12a1f9e1 hi.2.2.1.2 hi.2.2.1.1 | omega) (show p < 8 by first | exact g1001 | omega) (by decide) ?_
              have b1019 : ((-2147483648) : Int) ≤ iC s1002 233 (p).toNat ∧ iC s1002 233 (p).toNat ≤ 2147483647 := Is1002.2 233 _ (show (p).toNat < 8 by first | exact oq_db4b3b8b g1001 | omega)
              refine z_goto X (t := 54) (show cdA 251 50 = some (.goto 4, 3, 0, 0, 0) from rfl) (by decide) ?_
              refine z_store_n X (lv' := [(1, .int (Int32.ofInt (iC s1002 233 (p).toNat))), (0, .ref (A 179)), (2, .int (Int32.ofInt hi0)), (3, .int (Int32.ofInt an)), (4, .int (Int32.ofInt p))]) (show cdA 251 54 = some (.istore_n 1, 1, 0, 0, 0) from rfl) (by decide) (fun _ h => h) ?_
              refine z_load_n X (x := an) (show cdA 251 55 = some (.iload_n 3, 1, 0, 0, 0) from rfl) (List.Mem.tail _ (List.Mem.tail _ (List.Mem.tail _ (List.Mem.head _)))) ?_
              refine z_if_eq X (t := 70) (show cdA 251 56 = some (.ifCond .eq 14, 3, 0, 0, 0) from rfl) (by decide) ⟨by first | exact oq_fa4e5087 hi.2.2.1.1 | omega, by first | exact oq_70a17013 hi.2.2.1.2 g1001 | omega⟩ (fun g1020 => ?_) (fun g1020 => ?_)
              ·
                refine z_aload_n X (x := A 179) (show cdA 251 70 = some (.aload_n 0, 1, 0, 0, 0) from rfl) (List.Mem.tail _ (List.Mem.head _)) ?_
                refine s_getR X 179 (show cdA 251 71 = some (.getfield 86, 3, 12, 40, 0) from rfl) (by decide) rfl rfl ?_
                refine z_load X (x := p) (show cdA 251 74 = some (.iload 4, 2, 0, 0, 0) from rfl) (List.Mem.tail _ (List.Mem.tail _ (List.Mem.tail _ (List.Mem.tail _ (List.Mem.head _))))) ?_
                refine z_ald X 261 (show cdA 251 76 = some (.iaload, 1, 0, 0, 0) from rfl) (by decide) rfl (by first | exact oq_e9ac77f5 hi.2.2.1.2 g1020 | omega) (show p < 8 by first | exact g1001 | omega) (by decide) ?_
                have b1021 : ((-2147483648) : Int) ≤ iC s1002 233 (p).toNat ∧ iC s1002 233 (p).toNat ≤ 2147483647 := Is1002.2 233 _ (show (p).toNat < 8 by first | exact oq_db4b3b8b g1001 | omega)
                refine z_goto X (t := 81) (show cdA 251 77 = some (.goto 4, 3, 0, 0, 0) from rfl) (by decide) ?_
                refine z_store_n X (lv' := [(2, .int (Int32.ofInt (iC s1002 233 (p).toNat))), (1, .int (Int32.ofInt (iC s1002 233 (p).toNat))), (0, .ref (A 179)), (3, .int (Int32.ofInt an)), (4, .int (Int32.ofInt p))]) (show cdA 251 81 = some (.istore_n 2, 1, 0, 0, 0) from rfl) (by decide) (fun _ h => h) ?_
                refine z_inc X (x := an) (lv' := [(3, .int (Int32.ofInt (an + 1))), (2, .int (Int32.ofInt (iC s1002 233 (p).toNat))), (1, .int (Int32.ofInt (iC s1002 233 (p).toNat))), (0, .ref (A 179)), (4, .int (Int32.ofInt p))]) (show cdA 251 82 = some (.iinc 3 1, 3, 0, 0, 0) from rfl) (by decide) (List.Mem.tail _ (List.Mem.tail _ (List.Mem.tail _ (List.Mem.head _)))) (fun _ h => h) ?_
                refine z_inc X (x := p) (lv' := [(4, .int (Int32.ofInt (p + 1))), (3, .int (Int32.ofInt (an + 1))), (2, .int (Int32.ofInt (iC s1002 233 (p).toNat))), (1, .int (Int32.ofInt (iC s1002 233 (p).toNat))), (0, .ref (A 179))]) (show cdA 251 85 = some (.iinc 4 1, 3, 0, 0, 0) from rfl) (by decide) (List.Mem.tail _ (List.Mem.tail _ (List.Mem.tail _ (List.Mem.tail _ (List.Mem.head _))))) (fun _ h => h) ?_
                refine z_goto X (t := 9) (show cdA 251 88 = some (.goto (-79), 3, 0, 0, 0) from rfl) (by decide) ?_
                refine WS_lv (lv := [(0, .ref (A 179)), (1, .int (Int32.ofInt (iC s1002 233 (p).toNat))), (2, .int (Int32.ofInt (iC s1002 233 (p).toNat))), (3, .int (Int32.ofInt (an + 1))), (4, .int (Int32.ofInt (p + 1)))]) (List.forall_mem_cons.mpr ⟨(List.Mem.tail _ (List.Mem.tail _ (List.Mem.tail _ (List.Mem.tail _ (List.Mem.head _))))), (List.forall_mem_cons.mpr ⟨(List.Mem.tail _ (List.Mem.tail _ (List.Mem.tail _ (List.Mem.head _)))), (List.forall_mem_cons.mpr ⟨(List.Mem.tail _ (List.Mem.tail _ (List.Mem.head _))), (List.forall_mem_cons.mpr ⟨(List.Mem.tail _ (List.Mem.head _)), (List.forall_mem_cons.mpr ⟨(List.Mem.head _), (fun q h => absurd h List.not_mem_nil)⟩)⟩)⟩)⟩)⟩) ?_
                exact ih _ (iC s1002 233 (p).toNat) (iC s1002 233 (p).toNat) (an + 1) (p + 1) Is1002 Gs1002 JMDJ_s1002 (mml_y (v := iC s1002 233 (p : Int).toNat) hq (by omega) (hce_p (by have z := hps1002.2; rw [(show pfM t = pfM s from funext (fun j => fm_c F (by decide)))] at z; exact z) (by omega) (by omega)) (show iC s1002 233 (p : Int).toNat = iC s 233 (p : Int).toNat from fm_c Gs1002 List.not_mem_nil) (by omega) (by omega)) (by first | exact ⟨And.intro (b1021.1) (b1021.2), And.intro (b1021.1) (b1021.2), And.intro (oq_535341f0 g1020) (oq_8d48a029 hi.2.2.1.2), oq_0c7b19c3 g1001, oq_816ed005 g1020⟩ | omega) (by first | exact qk_me hm (by decide) (oq_9f368f35 g1001) | omega) kx
              ·
                refine z_aload_n X (x := A 179) (show cdA 251 59 = some (.aload_n 0, 1, 0, 0, 0) from rfl) (List.Mem.tail _ (List.Mem.head _)) ?_
                refine s_getR X 179 (show cdA 251 60 = some (.getfield 86, 3, 12, 40, 0) from rfl) (by decide) rfl rfl ?_
                refine z_load X (x := p) (show cdA 251 63 = some (.iload 4, 2, 0, 0, 0) from rfl) (List.Mem.tail _ (List.Mem.tail _ (List.Mem.tail _ (List.Mem.tail _ (List.Mem.head _))))) ?_
                refine z_ald X 261 (show cdA 251 65 = some (.iaload, 1, 0, 0, 0) from rfl) (by decide) rfl (by first | exact oq_12a1f9e1 hi.2.2.1.2 hi.2.2.1.1 | omega) (show p < 8 by first | exact g1001 | omega) (by decide) ?_
                have b1022 : ((-2147483648) : Int) ≤ iC s1002 233 (p).toNat ∧ iC s1002 233 (p).toNat ≤ 2147483647 := Is1002.2 233 _ (show (p).toNat < 8 by first | exact oq_db4b3b8b g1001 | omega)
                refine z_load_n X (x := hi0) (show cdA 251 66 = some (.iload_n 2, 1, 0, 0, 0) from rfl) (List.Mem.tail _ (List.Mem.tail _ (List.Mem.head _))) ?_
                refine z_icmp_le X (t := 80) (show cdA 251 67 = some (.if_icmp .le 13, 3, 5, 0, 0) from rfl) (by decide) (rng_to _) ⟨by first | exact hi.2.1.1 | omega, by first | exact hi.2.1.2 | omega⟩ (fun g1023 => ?_) (fun g1023 => ?_)
                ·
                  refine z_load_n X (x := hi0) (show cdA 251 80 = some (.iload_n 2, 1, 0, 0, 0) from rfl) (List.Mem.tail _ (List.Mem.tail _ (List.Mem.head _))) ?_
                  refine z_store_n X (lv' := [(2, .int (Int32.ofInt hi0)), (1, .int (Int32.ofInt (iC s1002 233 (p).toNat))), (0, .ref (A 179)), (3, .int (Int32.ofInt an)), (4, .int (Int32.ofInt p))]) (show cdA 251 81 = some (.istore_n 2, 1, 0, 0, 0) from rfl) (by decide) (fun _ h => h) ?_
                  refine z_inc X (x := an) (lv' := [(3, .int (Int32.ofInt (an + 1))), (2, .int (Int32.ofInt hi0)), (1, .int (Int32.ofInt (iC s1002 233 (p).toNat))), (0, .ref (A 179)), (4, .int (Int32.ofInt p))]) (show cdA 251 82 = some (.iinc 3 1, 3, 0, 0, 0) from rfl) (by decide) (List.Mem.tail _ (List.Mem.tail _ (List.Mem.tail _ (List.Mem.head _)))) (fun _ h => h) ?_
                  refine z_inc X (x := p) (lv' := [(4, .int (Int32.ofInt (p + 1))), (3, .int (Int32.ofInt (an + 1))), (2, .int (Int32.ofInt hi0)), (1, .int (Int32.ofInt (iC s1002 233 (p).toNat))), (0, .ref (A 179))]) (show cdA 251 85 = some (.iinc 4 1, 3, 0, 0, 0) from rfl) (by decide) (List.Mem.tail _ (List.Mem.tail _ (List.Mem.tail _ (List.Mem.tail _ (List.Mem.head _))))) (fun _ h => h) ?_
                  refine z_goto X (t := 9) (show cdA 251 88 = some (.goto (-79), 3, 0, 0, 0) from rfl) (by decide) ?_
                  refine WS_lv (lv := [(0, .ref (A 179)), (1, .int (Int32.ofInt (iC s1002 233 (p).toNat))), (2, .int (Int32.ofInt hi0)), (3, .int (Int32.ofInt (an + 1))), (4, .int (Int32.ofInt (p + 1)))]) (List.forall_mem_cons.mpr ⟨(List.Mem.tail _ (List.Mem.tail _ (List.Mem.tail _ (List.Mem.tail _ (List.Mem.head _))))), (List.forall_mem_cons.mpr ⟨(List.Mem.tail _ (List.Mem.tail _ (List.Mem.tail _ (List.Mem.head _)))), (List.forall_mem_cons.mpr ⟨(List.Mem.tail _ (List.Mem.tail _ (List.Mem.head _))), (List.forall_mem_cons.mpr ⟨(List.Mem.tail _ (List.Mem.head _)), (List.forall_mem_cons.mpr ⟨(List.Mem.head _), (fun q h => absurd h List.not_mem_nil)⟩)⟩)⟩)⟩)⟩) ?_
                  exact ih _ (iC s1002 233 (p).toNat) hi0 (an + 1) (p + 1) Is1002 Gs1002 JMDJ_s1002 (mml_y (v := iC s1002 233 (p : Int).toNat) hq (by omega) (hce_p (by have z := hps1002.2; rw [(show pfM t = pfM s from funext (fun j => fm_c F (by decide)))] at z; exact z) (by omega) (by omega)) (show iC s1002 233 (p : Int).toNat = iC s 233 (p : Int).toNat from fm_c Gs1002 List.not_mem_nil) (by omega) (by omega)) (by first | exact ⟨And.intro (b1022.1) (b1022.2), And.intro (hi.2.1.1) (hi.2.1.2), And.intro (oq_54f49eb5 hi.2.2.1.1) (oq_8d48a029 hi.2.2.1.2), oq_0c7b19c3 g1001, oq_eca44bbb hi.2.2.1.1⟩ | omega) (by first | exact qk_me hm (by decide) (oq_9f368f35 g1001) | omega) kx
                ·
                  refine z_aload_n X (x := A 179) (show cdA 251 70 = some (.aload_n 0, 1, 0, 0, 0) from rfl) (List.Mem.tail _ (List.Mem.head _)) ?_
                  refine s_getR X 179 (show cdA 251 71 = some (.getfield 86, 3, 12, 40, 0) from rfl) (by decide) rfl rfl ?_
                  refine z_load X (x := p) (show cdA 251 74 = some (.iload 4, 2, 0, 0, 0) from rfl) (List.Mem.tail _ (List.Mem.tail _ (List.Mem.tail _ (List.Mem.tail _ (List.Mem.head _))))) ?_
                  refine z_ald X 261 (show cdA 251 76 = some (.iaload, 1, 0, 0, 0) from rfl) (by decide) rfl (by first | exact oq_12a1f9e1 hi.2.2.1.2 hi.2.2.1.1 | omega) (show p < 8 by first | exact g1001 | omega) (by decide) ?_
                  have b1024 : ((-2147483648) : Int) ≤ iC s1002 233 (p).toNat ∧ iC s1002 233 (p).toNat ≤ 2147483647 := Is1002.2 233 _ (show (p).toNat < 8 by first | exact oq_db4b3b8b g1001 | omega)
                  refine z_goto X (t := 81) (show cdA 251 77 = some (.goto 4, 3, 0, 0, 0) from rfl) (by decide) ?_
                  refine z_store_n X (lv' := [(2, .int (Int32.ofInt (iC s1002 233 (p).toNat))), (1, .int (Int32.ofInt (iC s1002 233 (p).toNat))), (0, .ref (A 179)), (3, .int (Int32.ofInt an)), (4, .int (Int32.ofInt p))]) (show cdA 251 81 = some (.istore_n 2, 1, 0, 0, 0) from rfl) (by decide) (fun _ h => h) ?_
                  refine z_inc X (x := an) (lv' := [(3, .int (Int32.ofInt (an + 1))), (2, .int (Int32.ofInt (iC s1002 233 (p).toNat))), (1, .int (Int32.ofInt (iC s1002 233 (p).toNat))), (0, .ref (A 179)), (4, .int (Int32.ofInt p))]) (show cdA 251 82 = some (.iinc 3 1, 3, 0, 0, 0) from rfl) (by decide) (List.Mem.tail _ (List.Mem.tail _ (List.Mem.tail _ (List.Mem.head _)))) (fun _ h => h) ?_
                  refine z_inc X (x := p) (lv' := [(4, .int (Int32.ofInt (p + 1))), (3, .int (Int32.ofInt (an + 1))), (2, .int (Int32.ofInt (iC s1002 233 (p).toNat))), (1, .int (Int32.ofInt (iC s1002 233 (p).toNat))), (0, .ref (A 179))]) (show cdA 251 85 = some (.iinc 4 1, 3, 0, 0, 0) from rfl) (by decide) (List.Mem.tail _ (List.Mem.tail _ (List.Mem.tail _ (List.Mem.tail _ (List.Mem.head _))))) (fun _ h => h) ?_
                  refine z_goto X (t := 9) (show cdA 251 88 = some (.goto (-79), 3, 0, 0, 0) from rfl) (by decide) ?_
                  refine WS_lv (lv := [(0, .ref (A 179)), (1, .int (Int32.ofInt (iC s1002 233 (p).toNat))), (2, .int (Int32.ofInt (iC s1002 233 (p).toNat))), (3, .int (Int32.ofInt (an + 1))), (4, .int (Int32.ofInt (p + 1)))]) (List.forall_mem_cons.mpr ⟨(List.Mem.tail _ (List.Mem.tail _ (List.Mem.tail _ (List.Mem.tail _ (List.Mem.head _))))), (List.forall_mem_cons.mpr ⟨(List.Mem.tail _ (List.Mem.tail _ (List.Mem.tail _ (List.Mem.head _)))), (List.forall_mem_cons.mpr ⟨(List.Mem.tail _ (List.Mem.tail _ (List.Mem.head _))), (List.forall_mem_cons.mpr ⟨(List.Mem.tail _ (List.Mem.head _)), (List.forall_mem_cons.mpr ⟨(List.Mem.head _), (fun q h => absurd h List.not_mem_nil)⟩)⟩)⟩)⟩)⟩) ?_
                  exact ih _ (iC s1002 233 (p).toNat) (iC s1002 233 (p).toNat) (an + 1) (p + 1) Is1002 Gs1002 JMDJ_s1002 (mml_y (v := iC s1002 233 (p : Int).toNat) hq (by omega) (hce_p (by have z := hps1002.2; rw [(show pfM t = pfM s from funext (fun j => fm_c F (by decide)))] at z; exact z) (by omega) (by omega)) (show iC s1002 233 (p : Int).toNat = iC s 233 (p : Int).toNat from fm_c Gs1002 List.not_mem_nil) (by omega) (by omega)) (by first | exact ⟨And.intro (b1024.1) (b1024.2), And.intro (b1024.1) (b1024.2), And.intro (oq_54f49eb5 hi.2.2.1.1) (oq_8d48a029 hi.2.2.1.2), oq_0c7b19c3 g1001, oq_060ce41d hi.2.2.1.1⟩ | omega) (by first | exact qk_me hm (by decide) (oq_9f368f35 g1001) | omega) kx
        ·
          refine z_goto X (t := 85) (show cdA 251 25 = some (.goto 60, 3, 0, 0, 0) from rfl) (by decide) ?_
          refine z_inc X (x := p) (lv' := [(4, .int (Int32.ofInt (p + 1))), (0, .ref (A 179)), (1, .int (Int32.ofInt lo)), (2, .int (Int32.ofInt hi0)), (3, .int (Int32.ofInt an))]) (show cdA 251 85 = some (.iinc 4 1, 3, 0, 0, 0) from rfl) (by decide) (List.Mem.tail _ (List.Mem.tail _ (List.Mem.tail _ (List.Mem.tail _ (List.Mem.head _))))) (fun _ h => h) ?_
          refine z_goto X (t := 9) (show cdA 251 88 = some (.goto (-79), 3, 0, 0, 0) from rfl) (by decide) ?_
          refine WS_lv (lv := [(0, .ref (A 179)), (1, .int (Int32.ofInt lo)), (2, .int (Int32.ofInt hi0)), (3, .int (Int32.ofInt an)), (4, .int (Int32.ofInt (p + 1)))]) (List.forall_mem_cons.mpr ⟨(List.Mem.tail _ (List.Mem.head _)), (List.forall_mem_cons.mpr ⟨(List.Mem.tail _ (List.Mem.tail _ (List.Mem.head _))), (List.forall_mem_cons.mpr ⟨(List.Mem.tail _ (List.Mem.tail _ (List.Mem.tail _ (List.Mem.head _)))), (List.forall_mem_cons.mpr ⟨(List.Mem.tail _ (List.Mem.tail _ (List.Mem.tail _ (List.Mem.tail _ (List.Mem.head _))))), (List.forall_mem_cons.mpr ⟨(List.Mem.head _), (fun q h => absurd h List.not_mem_nil)⟩)⟩)⟩)⟩)⟩) ?_
          exact ih _ lo hi0 an (p + 1) Is1002 Gs1002 JMDJ_s1002 (mml_n hq (by omega) (hce_n (by have z := hps1002.2; rw [(show pfM t = pfM s from funext (fun j => fm_c F (by decide)))] at z; exact z) (by omega) (by omega))) (by first | exact ⟨And.intro (hi.1.1) (hi.1.2), And.intro (hi.2.1.1) (hi.2.1.2), And.intro (hi.2.2.1.1) (oq_03182e9e hi.2.2.1.2), oq_0c7b19c3 g1001, hi.2.2.2.2⟩ | omega) (by first | exact qk_me hm (by decide) (oq_9f368f35 g1001) | omega) kx
  refine z_const X (show cdA 251 0 = some (.iconst 0, 1, 0, 0, 0) from rfl) ?_
  refine z_store_n X (lv' := [(1, .int (Int32.ofInt 0)), (0, .ref (A 179))]) (show cdA 251 1 = some (.istore_n 1, 1, 0, 0, 0) from rfl) (by decide) (fun _ h => h) ?_
  refine z_const X (show cdA 251 2 = some (.iconst 0, 1, 0, 0, 0) from rfl) ?_
  refine z_store_n X (lv' := [(2, .int (Int32.ofInt 0)), (1, .int (Int32.ofInt 0)), (0, .ref (A 179))]) (show cdA 251 3 = some (.istore_n 2, 1, 0, 0, 0) from rfl) (by decide) (fun _ h => h) ?_
  refine z_const X (show cdA 251 4 = some (.iconst 0, 1, 0, 0, 0) from rfl) ?_
  refine z_store_n X (lv' := [(3, .int (Int32.ofInt 0)), (2, .int (Int32.ofInt 0)), (1, .int (Int32.ofInt 0)), (0, .ref (A 179))]) (show cdA 251 5 = some (.istore_n 3, 1, 0, 0, 0) from rfl) (by decide) (fun _ h => h) ?_
  refine z_const X (show cdA 251 6 = some (.iconst 0, 1, 0, 0, 0) from rfl) ?_
  refine z_store X (lv' := [(4, .int (Int32.ofInt 0)), (3, .int (Int32.ofInt 0)), (2, .int (Int32.ofInt 0)), (1, .int (Int32.ofInt 0)), (0, .ref (A 179))]) (show cdA 251 7 = some (.istore 4, 2, 0, 0, 0) from rfl) (by decide) (fun _ h => h) ?_
  refine WS_lv (lv := [(0, .ref (A 179)), (1, .int (Int32.ofInt 0)), (2, .int (Int32.ofInt 0)), (3, .int (Int32.ofInt 0)), (4, .int (Int32.ofInt 0))]) (List.forall_mem_cons.mpr ⟨(List.Mem.tail _ (List.Mem.tail _ (List.Mem.tail _ (List.Mem.tail _ (List.Mem.head _))))), (List.forall_mem_cons.mpr ⟨(List.Mem.tail _ (List.Mem.tail _ (List.Mem.tail _ (List.Mem.head _)))), (List.forall_mem_cons.mpr ⟨(List.Mem.tail _ (List.Mem.tail _ (List.Mem.head _))), (List.forall_mem_cons.mpr ⟨(List.Mem.tail _ (List.Mem.head _)), (List.forall_mem_cons.mpr ⟨(List.Mem.head _), (fun q h => absurd h List.not_mem_nil)⟩)⟩)⟩)⟩)⟩) ?_
  refine L9 ((8 - 0 : Int).toNat + 1) s 0 0 0 0 I F jMDJ mml_0 (by first | exact ⟨And.intro (by decide) (by decide), And.intro (by decide) (by decide), And.intro (by decide) (by decide), by decide, oq_eb0eb426⟩ | omega) (Nat.lt_succ_self _) ?_
  intro s1 x2 x3 x4 x5 Is1 Fs1 JMDJ_s1 Qs1 hs1
  refine z_aload_n X (x := A 179) (show cdA 251 91 = some (.aload_n 0, 1, 0, 0, 0) from rfl) (List.Mem.head _) ?_
  refine z_callV X 179 (rm := rmN 249) (As := []) (st := []) (show cdA 251 92 = some (.invokevirtual 357, 3, 249, 0, 0) from rfl) rfl (by decide) rfl (by rw [E.1, E.2.1, E.2.2.1]; exact k_steps3 G Is1 JMDJ_s1 ) ⟨by rw [E.2.2.2]; exact (show (rmN 249).frames + 1 ≤ (rmN 251).frames by decide), by rw [E.2.2.2]; exact (show 8 + (mNL (miB 249) + 11) + (rmN 249).locals ≤ (rmN 251).locals by decide), by rw [E.2.2.2]; exact (show 0 + (rmN 249).cells ≤ (rmN 251).cells by decide), by rw [E.2.2.2]; exact (show 0 + (rmN 249).slots ≤ (rmN 251).slots by decide)⟩ (Nat.le_of_ble_eq_true rfl) (fun vv s6 hq => ?_) (fun ee s6 hq => ?_)
  rotate_left
  · obtain ⟨Is6, Fs6, e7, hv, hrs6, hps6⟩ := hq; cases hv
  obtain ⟨Is6, Fs6, e7, hv, hrs6, hps6⟩ := hq
  cases hv
  have Gs6 := fm_ts Fs1 Fs6 (by decide) (by decide)
  have JMDJ_s6 : MDJ U s6 := MDJ_fm Fs6 (by decide) JMDJ_s1
  show WS k 95 [(0, .ref (A 179)), (1, .int (Int32.ofInt x2)), (2, .int (Int32.ofInt x3)), (3, .int (Int32.ofInt x4)), (4, .int (Int32.ofInt x5))] [.int (Int32.ofInt e7)] (Wd A dT s6) 0 0
  refine z_bipush X (show cdA 251 95 = some (.bipush 10, 2, 0, 0, 10) from rfl) ?_
  refine z_load_n X (x := x3) (show cdA 251 97 = some (.iload_n 2, 1, 0, 0, 0) from rfl) (List.Mem.tail _ (List.Mem.tail _ (List.Mem.head _))) ?_
  refine z_load_n X (x := x2) (show cdA 251 98 = some (.iload_n 1, 1, 0, 0, 0) from rfl) (List.Mem.tail _ (List.Mem.head _)) ?_
  refine z_sub X (show cdA 251 99 = some (.isub, 1, 0, 0, 0) from rfl) ?_
  refine z_anyV (fun y8 hy8 ey8 => ?_)
  refine z_mul X (show cdA 251 100 = some (.imul, 1, 0, 0, 0) from rfl) ?_
  refine z_anyV (fun y9 hy9 ey9 => ?_)
  refine z_add X (show cdA 251 101 = some (.iadd, 1, 0, 0, 0) from rfl) ?_
  refine z_anyV (fun y10 hy10 ey10 => ?_)
  have hTN : Int32.ofInt y10 = Int32.ofInt (stpC U (pfM s) + 10 * (x3 - x2)) := ten_of (by have z := hps6; rw [(show pfM s1 = pfM s from funext (fun j => fm_c Fs1 (by decide)))] at z; rw [z]) ey8 ey9 ey10
  exact w_iret X.1 q hRt rfl (ax_d X (show cdA 251 102 = some (.ireturn, 1, 0, 0, 0) from rfl)) (Nat.zero_le _) (Nat.zero_le _) ⟨_, rfl, Is6, Gs6, y10, rfl, hy10, (csp_of (by have z := Qs1; rw [show x5 = 8 by omega] at z; exact z) hy10 ⟨fun h => by rw [hTN]; congr 1; omega, fun _ => hTN⟩)⟩
set_option maxRecDepth 4000 in
theorem k_costOf3 (G : GX l s0 D tys a0 dT) {U : AirD} (I : Bd s) (jRLx : RLx s) (jMDJ : MDJ U s) (p0 : iI s 89 = 1) : CT l s0 D A dT 252 (rmN 252) [.ref (A 179)] s (fun o t => Bd t ∧ Fm [77, 75, 78, 79, 80, 81] [202, 204, 205, 206, 207, 208, 209, 210, 211, 212, 213, 214, 215, 216, 217, 218, 219, 220, 221, 222, 223, 224, 225, 226, 227, 203, 161, 230, 233] s t ∧ RLx t ∧ ∃ e, o = .inl (some (.int (Int32.ofInt e))) ∧ rng e ∧ (CST U (pfM s) e ∧ FPQ U (pfM s) 8 t)) := by
  refine ct_of G (by decide) (Nat.le_of_ble_eq_true rfl) (fun k X E hRt hXt q => ?_)
  show WS k 0 [(0, .ref (A 179))] [] _ 0 0
  have F : Fm [77, 75, 78, 79, 80, 81] [202, 204, 205, 206, 207, 208, 209, 210, 211, 212, 213, 214, 215, 216, 217, 218, 219, 220, 221, 222, 223, 224, 225, 226, 227, 203, 161, 230, 233] s s := fm_rf _ _ s
  have b1 : (1 : Int) ≤ iI s 89 ∧ iI s 89 ≤ 8 := I.1 89
  refine z_aload_n X (x := A 179) (show cdA 252 0 = some (.aload_n 0, 1, 0, 0, 0) from rfl) (List.Mem.head _) ?_
  refine z_callV X 179 (rm := rmN 250) (As := []) (st := []) (show cdA 252 1 = some (.invokevirtual 360, 3, 250, 0, 0) from rfl) rfl (by decide) rfl (by rw [E.1, E.2.1, E.2.2.1]; exact k_findPeaks3 G I jRLx jMDJ (by first | exact p0 | omega)) ⟨by rw [E.2.2.2]; exact (show (rmN 250).frames + 1 ≤ (rmN 252).frames by decide), by rw [E.2.2.2]; exact (show 8 + (mNL (miB 250) + 11) + (rmN 250).locals ≤ (rmN 252).locals by decide), by rw [E.2.2.2]; exact (show 0 + (rmN 250).cells ≤ (rmN 252).cells by decide), by rw [E.2.2.2]; exact (show 0 + (rmN 250).slots ≤ (rmN 252).slots by decide)⟩ (Nat.le_of_ble_eq_true rfl) (fun vv s2 hq => ?_) (fun ee s2 hq => ?_)
  rotate_left
  · obtain ⟨Is2, Fs2, JRLx_s2, hv, hps2⟩ := hq; cases hv
  obtain ⟨Is2, Fs2, JRLx_s2, hv, hps2⟩ := hq
  cases hv
  have Gs2 := fm_ts F Fs2 (by decide) (by decide)
  have JRLx_s2 : RLx s2 := RLx_fm Fs2 (by decide) jRLx
  have JMDJ_s2 : MDJ U s2 := MDJ_fm Fs2 (by decide) jMDJ
  have ws2_89 : iI s2 89 = iI s 89 := fm_i Fs2 (by decide)
  show WS k 4 [(0, .ref (A 179))] [] (Wd A dT s2) 0 0
  refine z_aload_n X (x := A 179) (show cdA 252 4 = some (.aload_n 0, 1, 0, 0, 0) from rfl) (List.Mem.head _) ?_
  refine z_callV X 179 (rm := rmN 251) (As := []) (st := []) (show cdA 252 5 = some (.invokevirtual 363, 3, 251, 0, 0) from rfl) rfl (by decide) rfl (by rw [E.1, E.2.1, E.2.2.1]; exact k_costBy3 G Is2 JMDJ_s2 ) ⟨by rw [E.2.2.2]; exact (show (rmN 251).frames + 1 ≤ (rmN 252).frames by decide), by rw [E.2.2.2]; exact (show 8 + (mNL (miB 251) + 11) + (rmN 251).locals ≤ (rmN 252).locals by decide), by rw [E.2.2.2]; exact (show 0 + (rmN 251).cells ≤ (rmN 252).cells by decide), by rw [E.2.2.2]; exact (show 0 + (rmN 251).slots ≤ (rmN 252).slots by decide)⟩ (Nat.le_of_ble_eq_true rfl) (fun vv s4 hq => ?_) (fun ee s4 hq => ?_)
  rotate_left
  · obtain ⟨Is4, Fs4, e5, hv, hrs4, hps4⟩ := hq; cases hv
  obtain ⟨Is4, Fs4, e5, hv, hrs4, hps4⟩ := hq
  cases hv
  have Gs4 := fm_ts Gs2 Fs4 (by decide) (by decide)
  have JRLx_s4 : RLx s4 := RLx_fm Fs4 (by decide) JRLx_s2
  have JMDJ_s4 : MDJ U s4 := MDJ_fm Fs4 (by decide) JMDJ_s2
  have ws4_89 : iI s4 89 = iI s2 89 := fm_i Fs4 (by decide)
  show WS k 8 [(0, .ref (A 179))] [.int (Int32.ofInt e5)] (Wd A dT s4) 0 0
  exact w_iret X.1 q hRt rfl (ax_d X (show cdA 252 8 = some (.ireturn, 1, 0, 0, 0) from rfl)) (Nat.zero_le _) (Nat.zero_le _) ⟨_, rfl, Is4, Gs4, JRLx_s4, e5, rfl, hrs4, ⟨cst_of hps2 (by have z := hps4; rw [(show pfM s2 = pfM s from funext (fun j => fm_c Fs2 (by decide)))] at z; exact z), fpq_s hps2 rfl (sam_fm Fs4 (by decide))⟩⟩
set_option maxRecDepth 4000 in
theorem k_tries3 (G : GX l s0 D tys a0 dT) {U : AirD} (I : Bd s) (jRLx : RLx s) (jMDJ : MDJ U s) {x y : Int} (p0 : 0 ≤ x ∧ x ≤ 127) (p1 : 0 ≤ y ∧ y ≤ 7) (p2 : iC s 228 (x : Int).toNat ≠ -1) (p3 : cndF (pfM s) (x : Int).toNat y) (p4 : FPQ U (pfM s) 8 s) (p5 : BSM U (pfM s) (fun j => iC s 229 j) (8 * (x : Int).toNat + (y : Int).toNat) s) (p6 : iI s 89 = 1) : CT l s0 D A dT 255 (rmN 255) [.ref (A 179), .int (Int32.ofInt x), .int (Int32.ofInt y)] s (fun o t => Bd t ∧ Fm [77, 75, 78, 79, 80, 81, 92, 93, 94] [202, 204, 205, 206, 207, 208, 209, 210, 211, 212, 213, 214, 215, 216, 217, 218, 219, 220, 221, 222, 223, 224, 225, 226, 227, 203, 161, 230, 233, 231, 232, 228] s t ∧ RLx t ∧ o = .inl none ∧ (SAM 228 s t ∧ SAM 233 s t ∧ BSM U (pfM s) (fun j => iC s 229 j) (8 * (x : Int).toNat + (y : Int).toNat + 1) t)) := by
  refine ct_of G (by decide) (Nat.le_of_ble_eq_true rfl) (fun k X E hRt hXt q => ?_)
  show WS k 0 [(0, .ref (A 179)), (1, .int (Int32.ofInt x)), (2, .int (Int32.ofInt y))] [] _ 0 0
  have F : Fm [77, 75, 78, 79, 80, 81, 92, 93, 94] [202, 204, 205, 206, 207, 208, 209, 210, 211, 212, 213, 214, 215, 216, 217, 218, 219, 220, 221, 222, 223, 224, 225, 226, 227, 203, 161, 230, 233, 231, 232, 228] s s := fm_rf _ _ s
  have aw0_228 : SAM 228 s s := sam_rf
  have aw0_233 : SAM 233 s s := sam_rf
  have hnp : y ≠ (iC s 228 (x : Int).toNat) := p3.2.1
  have hpO : pfM s (x : Int).toNat = iC s 228 (x : Int).toNat := rfl
  have b1 : ((-1) : Int) ≤ iI s 92 ∧ iI s 92 ≤ 127 := I.1 92
  have b2 : (0 : Int) ≤ iI s 93 ∧ iI s 93 ≤ 7 := I.1 93
  have b3 : ((-2147483648) : Int) ≤ iI s 94 ∧ iI s 94 ≤ 2147483647 := I.1 94
  have b4 : (1 : Int) ≤ iI s 89 ∧ iI s 89 ≤ 8 := I.1 89
  have L137 : ∀ (t : PS) (xv yv hd hpk tpk : Int), Bd t → Fm [77, 75, 78, 79, 80, 81, 92, 93, 94] [202, 204, 205, 206, 207, 208, 209, 210, 211, 212, 213, 214, 215, 216, 217, 218, 219, 220, 221, 222, 223, 224, 225, 226, 227, 203, 161, 230, 233, 231, 232, 228] s t → RLx t → MDJ U t → (TRJ U x y s t) → ((xv = x ∧ yv = y ∧ hd = (iC s 228 (x : Int).toNat)) ∧ (0 ≤ hd ∧ hd ≤ 7) ∧ (hpk = iC s 233 (iC s 228 (x : Int).toNat).toNat ∧ tpk = iC s 233 (y : Int).toNat) ∧ rng hpk ∧ rng tpk) → WS k 137 [(0, .ref (A 179)), (1, .int (Int32.ofInt xv)), (2, .int (Int32.ofInt yv)), (3, .int (Int32.ofInt hd)), (4, .int (Int32.ofInt hpk)), (5, .int (Int32.ofInt tpk))] [] (Wd A dT t) 0 0 := by
    intro t xv yv hd hpk tpk I F jjRLx jjMDJ hq hi
    have b1001 : ((-1) : Int) ≤ iI t 92 ∧ iI t 92 ≤ 127 := I.1 92
    have b1002 : (0 : Int) ≤ iI t 93 ∧ iI t 93 ≤ 7 := I.1 93
    have b1003 : ((-2147483648) : Int) ≤ iI t 94 ∧ iI t 94 ≤ 2147483647 := I.1 94
    have b1004 : (1 : Int) ≤ iI t 89 ∧ iI t 89 ≤ 8 := I.1 89
    refine z_aload_n X (x := A 179) (show cdA 255 137 = some (.aload_n 0, 1, 0, 0, 0) from rfl) (List.Mem.head _) ?_
    refine s_getR X 179 (show cdA 255 138 = some (.getfield 70, 3, 12, 35, 0) from rfl) (by decide) rfl rfl ?_
    refine z_load_n X (x := xv) (show cdA 255 141 = some (.iload_n 1, 1, 0, 0, 0) from rfl) (List.Mem.tail _ (List.Mem.head _)) ?_
    refine z_load_n X (x := hd) (show cdA 255 142 = some (.iload_n 3, 1, 0, 0, 0) from rfl) (List.Mem.tail _ (List.Mem.tail _ (List.Mem.tail _ (List.Mem.head _)))) ?_
    refine z_ast X 256 (show cdA 255 143 = some (.iastore, 1, 0, 0, 0) from rfl) (by decide) rfl (by first | exact oq_e4757433 hi.1.1 p0.1 | omega) (show xv < 128 by first | exact oq_b797517e hi.1.1 p0.2 | omega) (by decide) ?_
    obtain ⟨s1005, hs1005⟩ : ∃ x0, x0 = uC t 228 (xv).toNat (Int32.ofInt hd) := ⟨_, rfl⟩
    rw [← hs1005]
    have Is1005 : Bd s1005 := by rw [hs1005]; exact bd_C I (show ((-1) : Int) ≤ hd ∧ hd ≤ 7 by first | exact ⟨oq_ca54ea22 hi.2.1.1, hi.2.1.2⟩ | omega) ⟨by first | exact oq_fa4e5087 hi.2.1.1 | omega, by first | exact oq_0e78ca7d hi.2.1.2 | omega⟩
    have Fs1005 := fm_C (i := (xv).toNat) (x := Int32.ofInt hd) F (show 228 ∈ _ by decide)
    rw [← hs1005] at Fs1005
    have ws1005_92 : iI s1005 92 = iI t 92 := by rw [hs1005]; rfl
    have ws1005_93 : iI s1005 93 = iI t 93 := by rw [hs1005]; rfl
    have ws1005_94 : iI s1005 94 = iI t 94 := by rw [hs1005]; rfl
    have ws1005_89 : iI s1005 89 = iI t 89 := by rw [hs1005]; rfl
    have aws1005_228 : UPD 228 (xv) hd t s1005 := by rw [hs1005]; exact upd_put (sam_rf (a := 228) (s := t)) ⟨by first | exact oq_fa4e5087 hi.2.1.1 | omega, by first | exact oq_0e78ca7d hi.2.1.2 | omega⟩
    have aws1005_233 : SAM 233 t s1005 := by rw [hs1005]; exact sam_C (by decide) (sam_rf (a := 233) (s := t))
    have fs1005 : Fm [] [228] t s1005 := by rw [hs1005]; exact fm_C (fm_rf _ _ _) (show 228 ∈ _ by decide)
    have JRLx_s1005 : RLx s1005 := RLx_fm fs1005 (by decide) jjRLx
    have JMDJ_s1005 : MDJ U s1005 := MDJ_fm fs1005 (by decide) jjMDJ
    refine z_aload_n X (x := A 179) (show cdA 255 144 = some (.aload_n 0, 1, 0, 0, 0) from rfl) (List.Mem.head _) ?_
    refine s_getR X 179 (show cdA 255 145 = some (.getfield 86, 3, 12, 40, 0) from rfl) (by decide) rfl rfl ?_
    refine z_load_n X (x := hd) (show cdA 255 148 = some (.iload_n 3, 1, 0, 0, 0) from rfl) (List.Mem.tail _ (List.Mem.tail _ (List.Mem.tail _ (List.Mem.head _)))) ?_
    refine z_load X (x := hpk) (show cdA 255 149 = some (.iload 4, 2, 0, 0, 0) from rfl) (List.Mem.tail _ (List.Mem.tail _ (List.Mem.tail _ (List.Mem.tail _ (List.Mem.head _))))) ?_
    refine z_ast X 261 (show cdA 255 151 = some (.iastore, 1, 0, 0, 0) from rfl) (by decide) rfl (by first | exact hi.2.1.1 | omega) (show hd < 8 by first | exact oq_aaea290e hi.2.1.2 | omega) (by decide) ?_
    obtain ⟨s1006, hs1006⟩ : ∃ x0, x0 = uC s1005 233 (hd).toNat (Int32.ofInt hpk) := ⟨_, rfl⟩
    rw [← hs1006]
    have Is1006 : Bd s1006 := by rw [hs1006]; exact bd_C Is1005 (show ((-2147483648) : Int) ≤ hpk ∧ hpk ≤ 2147483647 by first | exact ⟨hi.2.2.2.1.1, hi.2.2.2.1.2⟩ | omega) ⟨by first | exact hi.2.2.2.1.1 | omega, by first | exact hi.2.2.2.1.2 | omega⟩
    have Fs1006 := fm_C (i := (hd).toNat) (x := Int32.ofInt hpk) Fs1005 (show 233 ∈ _ by decide)
    rw [← hs1006] at Fs1006
    have ws1006_92 : iI s1006 92 = iI s1005 92 := by rw [hs1006]; rfl
    have ws1006_93 : iI s1006 93 = iI s1005 93 := by rw [hs1006]; rfl
    have ws1006_94 : iI s1006 94 = iI s1005 94 := by rw [hs1006]; rfl
    have ws1006_89 : iI s1006 89 = iI s1005 89 := by rw [hs1006]; rfl
    have aws1006_228 : UPD 228 (xv) hd t s1006 := by rw [hs1006]; exact upd_C (by decide) aws1005_228
    have aws1006_233 : UPD 233 (hd) hpk t s1006 := by rw [hs1006]; exact upd_put aws1005_233 ⟨by first | exact hi.2.2.2.1.1 | omega, by first | exact hi.2.2.2.1.2 | omega⟩
    have fs1006 : Fm [] [233] s1005 s1006 := by rw [hs1006]; exact fm_C (fm_rf _ _ _) (show 233 ∈ _ by decide)
    have JRLx_s1006 : RLx s1006 := RLx_fm fs1006 (by decide) JRLx_s1005
    have JMDJ_s1006 : MDJ U s1006 := MDJ_fm fs1006 (by decide) JMDJ_s1005
    refine z_aload_n X (x := A 179) (show cdA 255 152 = some (.aload_n 0, 1, 0, 0, 0) from rfl) (List.Mem.head _) ?_
    refine s_getR X 179 (show cdA 255 153 = some (.getfield 86, 3, 12, 40, 0) from rfl) (by decide) rfl rfl ?_
    refine z_load_n X (x := yv) (show cdA 255 156 = some (.iload_n 2, 1, 0, 0, 0) from rfl) (List.Mem.tail _ (List.Mem.tail _ (List.Mem.head _))) ?_
    refine z_load X (x := tpk) (show cdA 255 157 = some (.iload 5, 2, 0, 0, 0) from rfl) (List.Mem.tail _ (List.Mem.tail _ (List.Mem.tail _ (List.Mem.tail _ (List.Mem.tail _ (List.Mem.head _)))))) ?_
    refine z_ast X 261 (show cdA 255 159 = some (.iastore, 1, 0, 0, 0) from rfl) (by decide) rfl (by first | exact oq_e4757433 hi.1.2.1 p1.1 | omega) (show yv < 8 by first | exact oq_50c017b4 hi.1.2.1 p1.2 | omega) (by decide) ?_
    obtain ⟨s1007, hs1007⟩ : ∃ x0, x0 = uC s1006 233 (yv).toNat (Int32.ofInt tpk) := ⟨_, rfl⟩
    rw [← hs1007]
    have Is1007 : Bd s1007 := by rw [hs1007]; exact bd_C Is1006 (show ((-2147483648) : Int) ≤ tpk ∧ tpk ≤ 2147483647 by first | exact ⟨hi.2.2.2.2.1, hi.2.2.2.2.2⟩ | omega) ⟨by first | exact hi.2.2.2.2.1 | omega, by first | exact hi.2.2.2.2.2 | omega⟩
    have Fs1007 := fm_C (i := (yv).toNat) (x := Int32.ofInt tpk) Fs1006 (show 233 ∈ _ by decide)
    rw [← hs1007] at Fs1007
    have ws1007_92 : iI s1007 92 = iI s1006 92 := by rw [hs1007]; rfl
    have ws1007_93 : iI s1007 93 = iI s1006 93 := by rw [hs1007]; rfl
    have ws1007_94 : iI s1007 94 = iI s1006 94 := by rw [hs1007]; rfl
    have ws1007_89 : iI s1007 89 = iI s1006 89 := by rw [hs1007]; rfl
    have fs1007 : Fm [] [233] s1006 s1007 := by rw [hs1007]; exact fm_C (fm_rf _ _ _) (show 233 ∈ _ by decide)
    have JRLx_s1007 : RLx s1007 := RLx_fm fs1007 (by decide) JRLx_s1006
    have JMDJ_s1007 : MDJ U s1007 := MDJ_fm fs1007 (by decide) JMDJ_s1006
    have hE1 : SAM 228 s s1007 := sam_ts (trj_e hq (by have z := aws1005_228; rw [show xv = x by omega, show hd = (iC s 228 (x : Int).toNat) by omega] at z; exact z)) (fun j => by rw [hs1007, hs1006]; exact (iC_a (by decide)).trans (iC_a (by decide)))
    have hE3 : UPD 233 y tpk s1006 s1007 := by rw [hs1007, show y = yv by omega]; exact upd_put sam_rf ⟨by first | exact hi.2.2.2.2.1 | omega, by first | exact hi.2.2.2.2.2 | omega⟩
    have hE2 : SAM 233 s s1007 := trj_p (u := s1006) hq (by omega) (by omega) (by have z := aws1006_233; rw [show hd = (iC s 228 (x : Int).toNat) by omega] at z; exact z) hE3 (by omega) (by omega)
    exact w_vret X.1 q hRt (ax_d X (show cdA 255 160 = some (.return_, 1, 0, 0, 0) from rfl)) (Nat.zero_le _) (Nat.zero_le _) ⟨_, rfl, Is1007, Fs1007, JRLx_s1007, rfl, ⟨hE1, hE2, bsm_s hq.2.2 (by omega) (by omega) (by omega)⟩⟩
  refine z_aload_n X (x := A 179) (show cdA 255 0 = some (.aload_n 0, 1, 0, 0, 0) from rfl) (List.Mem.head _) ?_
  refine s_getR X 179 (show cdA 255 1 = some (.getfield 70, 3, 12, 35, 0) from rfl) (by decide) rfl rfl ?_
  refine z_load_n X (x := x) (show cdA 255 4 = some (.iload_n 1, 1, 0, 0, 0) from rfl) (List.Mem.tail _ (List.Mem.head _)) ?_
  refine z_ald X 256 (show cdA 255 5 = some (.iaload, 1, 0, 0, 0) from rfl) (by decide) rfl (by first | exact p0.1 | omega) (show x < 128 by first | exact oq_31b2bf10 p0.2 | omega) (by decide) ?_
  have b5 : ((-1) : Int) ≤ iC s 228 (x).toNat ∧ iC s 228 (x).toNat ≤ 7 := I.2 228 _ (show (x).toNat < 128 by first | exact oq_c7f4e9c1 p0.2 | omega)
  have ar6 : iC s 228 (x).toNat = iC s 228 (x).toNat := aw0_228 _
  refine z_store_n X (lv' := [(3, .int (Int32.ofInt (iC s 228 (x).toNat))), (0, .ref (A 179)), (1, .int (Int32.ofInt x)), (2, .int (Int32.ofInt y))]) (show cdA 255 6 = some (.istore_n 3, 1, 0, 0, 0) from rfl) (by decide) (fun _ h => h) ?_
  refine z_aload_n X (x := A 179) (show cdA 255 7 = some (.aload_n 0, 1, 0, 0, 0) from rfl) (List.Mem.tail _ (List.Mem.head _)) ?_
  refine s_getR X 179 (show cdA 255 8 = some (.getfield 86, 3, 12, 40, 0) from rfl) (by decide) rfl rfl ?_
  refine z_load_n X (x := (iC s 228 (x).toNat)) (show cdA 255 11 = some (.iload_n 3, 1, 0, 0, 0) from rfl) (List.Mem.head _) ?_
  refine z_ald X 261 (show cdA 255 12 = some (.iaload, 1, 0, 0, 0) from rfl) (by decide) rfl (by first | exact oq_5234833b b5.1 p2 | omega) (show (iC s 228 (x).toNat) < 8 by first | exact oq_aaea290e b5.2 | omega) (by decide) ?_
  have b7 : ((-2147483648) : Int) ≤ iC s 233 ((iC s 228 (x).toNat)).toNat ∧ iC s 233 ((iC s 228 (x).toNat)).toNat ≤ 2147483647 := I.2 233 _ (show ((iC s 228 (x).toNat)).toNat < 8 by first | exact oq_c19a3aae b5.2 | omega)
  have ar8 : iC s 233 ((iC s 228 (x).toNat)).toNat = iC s 233 ((iC s 228 (x).toNat)).toNat := aw0_233 _
  refine z_store X (lv' := [(4, .int (Int32.ofInt (iC s 233 ((iC s 228 (x).toNat)).toNat))), (3, .int (Int32.ofInt (iC s 228 (x).toNat))), (0, .ref (A 179)), (1, .int (Int32.ofInt x)), (2, .int (Int32.ofInt y))]) (show cdA 255 13 = some (.istore 4, 2, 0, 0, 0) from rfl) (by decide) (fun _ h => h) ?_
  refine z_aload_n X (x := A 179) (show cdA 255 15 = some (.aload_n 0, 1, 0, 0, 0) from rfl) (List.Mem.tail _ (List.Mem.tail _ (List.Mem.head _))) ?_
  refine s_getR X 179 (show cdA 255 16 = some (.getfield 86, 3, 12, 40, 0) from rfl) (by decide) rfl rfl ?_
  refine z_load_n X (x := y) (show cdA 255 19 = some (.iload_n 2, 1, 0, 0, 0) from rfl) (List.Mem.tail _ (List.Mem.tail _ (List.Mem.tail _ (List.Mem.tail _ (List.Mem.head _))))) ?_
  refine z_ald X 261 (show cdA 255 20 = some (.iaload, 1, 0, 0, 0) from rfl) (by decide) rfl (by first | exact p1.1 | omega) (show y < 8 by first | exact oq_aaea290e p1.2 | omega) (by decide) ?_
  have b9 : ((-2147483648) : Int) ≤ iC s 233 (y).toNat ∧ iC s 233 (y).toNat ≤ 2147483647 := I.2 233 _ (show (y).toNat < 8 by first | exact oq_c19a3aae p1.2 | omega)
  have ar10 : iC s 233 (y).toNat = iC s 233 (y).toNat := aw0_233 _
  refine z_store X (lv' := [(5, .int (Int32.ofInt (iC s 233 (y).toNat))), (4, .int (Int32.ofInt (iC s 233 ((iC s 228 (x).toNat)).toNat))), (3, .int (Int32.ofInt (iC s 228 (x).toNat))), (0, .ref (A 179)), (1, .int (Int32.ofInt x)), (2, .int (Int32.ofInt y))]) (show cdA 255 21 = some (.istore 5, 2, 0, 0, 0) from rfl) (by decide) (fun _ h => h) ?_
  refine z_aload_n X (x := A 179) (show cdA 255 23 = some (.aload_n 0, 1, 0, 0, 0) from rfl) (List.Mem.tail _ (List.Mem.tail _ (List.Mem.tail _ (List.Mem.head _)))) ?_
  refine s_getR X 179 (show cdA 255 24 = some (.getfield 70, 3, 12, 35, 0) from rfl) (by decide) rfl rfl ?_
  refine z_load_n X (x := x) (show cdA 255 27 = some (.iload_n 1, 1, 0, 0, 0) from rfl) (List.Mem.tail _ (List.Mem.tail _ (List.Mem.tail _ (List.Mem.tail _ (List.Mem.head _))))) ?_
  refine z_load_n X (x := y) (show cdA 255 28 = some (.iload_n 2, 1, 0, 0, 0) from rfl) (List.Mem.tail _ (List.Mem.tail _ (List.Mem.tail _ (List.Mem.tail _ (List.Mem.tail _ (List.Mem.head _)))))) ?_
  refine z_ast X 256 (show cdA 255 29 = some (.iastore, 1, 0, 0, 0) from rfl) (by decide) rfl (by first | exact p0.1 | omega) (show x < 128 by first | exact oq_31b2bf10 p0.2 | omega) (by decide) ?_
  obtain ⟨s11, hs11⟩ : ∃ x0, x0 = uC s 228 (x).toNat (Int32.ofInt y) := ⟨_, rfl⟩
  rw [← hs11]
  have Is11 : Bd s11 := by rw [hs11]; exact bd_C I (show ((-1) : Int) ≤ y ∧ y ≤ 7 by first | exact ⟨oq_ca54ea22 p1.1, p1.2⟩ | omega) ⟨by first | exact oq_fa4e5087 p1.1 | omega, by first | exact oq_0e78ca7d p1.2 | omega⟩
  have Fs11 := fm_C (i := (x).toNat) (x := Int32.ofInt y) F (show 228 ∈ _ by decide)
  rw [← hs11] at Fs11
  have ws11_92 : iI s11 92 = iI s 92 := by rw [hs11]; rfl
  have ws11_93 : iI s11 93 = iI s 93 := by rw [hs11]; rfl
  have ws11_94 : iI s11 94 = iI s 94 := by rw [hs11]; rfl
  have ws11_89 : iI s11 89 = iI s 89 := by rw [hs11]; rfl
  have aws11_228 : UPD 228 (x) y s s11 := by rw [hs11]; exact upd_put aw0_228 ⟨by first | exact oq_fa4e5087 p1.1 | omega, by first | exact oq_0e78ca7d p1.2 | omega⟩
  have aws11_233 : SAM 233 s s11 := by rw [hs11]; exact sam_C (by decide) aw0_233
  have fs11 : Fm [] [228] s s11 := by rw [hs11]; exact fm_C (fm_rf _ _ _) (show 228 ∈ _ by decide)
  have JRLx_s11 : RLx s11 := RLx_fm fs11 (by decide) jRLx
  have JMDJ_s11 : MDJ U s11 := MDJ_fm fs11 (by decide) jMDJ
  have hP0 : pfM s11 = (upF (pfM s) (x : Int).toNat y) := upm_upd aws11_228
  refine z_aload_n X (x := A 179) (show cdA 255 30 = some (.aload_n 0, 1, 0, 0, 0) from rfl) (List.Mem.tail _ (List.Mem.tail _ (List.Mem.tail _ (List.Mem.head _)))) ?_
  refine z_load_n X (x := (iC s 228 (x).toNat)) (show cdA 255 31 = some (.iload_n 3, 1, 0, 0, 0) from rfl) (List.Mem.tail _ (List.Mem.tail _ (List.Mem.head _))) ?_
  refine z_callV X 179 (rm := rmN 233) (As := [.int (Int32.ofInt (iC s 228 (x).toNat))]) (st := []) (show cdA 255 32 = some (.invokevirtual 351, 3, 233, 0, 0) from rfl) rfl (by decide) rfl (by rw [E.1, E.2.1, E.2.2.1]; exact k_has3 G Is11 (by first | exact ⟨oq_97ee2c2a b5.1, oq_0e78ca7d b5.2⟩ | omega)) ⟨by rw [E.2.2.2]; exact (show (rmN 233).frames + 1 ≤ (rmN 255).frames by decide), by rw [E.2.2.2]; exact (show 8 + (mNL (miB 233) + 11) + (rmN 233).locals ≤ (rmN 255).locals by decide), by rw [E.2.2.2]; exact (show 0 + (rmN 233).cells ≤ (rmN 255).cells by decide), by rw [E.2.2.2]; exact (show 0 + (rmN 233).slots ≤ (rmN 255).slots by decide)⟩ (Nat.le_of_ble_eq_true rfl) (fun vv s12 hq => ?_) (fun ee s12 hq => ?_)
  rotate_left
  · obtain ⟨Is12, Fs12, e13, hv, hrs12, hps12⟩ := hq; cases hv
  obtain ⟨Is12, Fs12, e13, hv, hrs12, hps12⟩ := hq
  cases hv
  have Gs12 := fm_ts Fs11 Fs12 (by decide) (by decide)
  have JRLx_s12 : RLx s12 := RLx_fm Fs12 (by decide) JRLx_s11
  have JMDJ_s12 : MDJ U s12 := MDJ_fm Fs12 (by decide) JMDJ_s11
  have ws12_92 : iI s12 92 = iI s11 92 := fm_i Fs12 (by decide)
  have ws12_93 : iI s12 93 = iI s11 93 := fm_i Fs12 (by decide)
  have ws12_94 : iI s12 94 = iI s11 94 := fm_i Fs12 (by decide)
  have ws12_89 : iI s12 89 = iI s11 89 := fm_i Fs12 (by decide)
  have aws12_228 : UPD 228 (x) y s s12 := upd_ts aws11_228 (sam_fm Fs12 (by decide))
  have aws12_233 : SAM 233 s s12 := sam_ts aws11_233 (sam_fm Fs12 (by decide))
  show WS k 35 [(5, .int (Int32.ofInt (iC s 233 (y).toNat))), (4, .int (Int32.ofInt (iC s 233 ((iC s 228 (x).toNat)).toNat))), (3, .int (Int32.ofInt (iC s 228 (x).toNat))), (0, .ref (A 179)), (1, .int (Int32.ofInt x)), (2, .int (Int32.ofInt y))] [.int (Int32.ofInt e13)] (Wd A dT s12) 0 0
  have hPs12 : pfM s12 = (upF (pfM s) (x : Int).toNat y) := (show pfM s12 = pfM s11 from funext (fun j => fm_c Fs12 (by decide))).trans hP0
  have hA1 : (e13 = 0 ∨ e13 = 1) ∧ HCE (pcS (upF (pfM s) (x : Int).toNat y) (iC s 228 (x : Int).toNat)) e13 := by have z := hps12; rw [hP0] at z; exact z
  refine z_if_eq X (t := 137) (show cdA 255 35 = some (.ifCond .eq 102, 3, 0, 0, 0) from rfl) (by decide) hrs12 (fun g14 => ?_) (fun g14 => ?_)
  ·
    refine WS_lv (lv := [(0, .ref (A 179)), (1, .int (Int32.ofInt x)), (2, .int (Int32.ofInt y)), (3, .int (Int32.ofInt (iC s 228 (x).toNat))), (4, .int (Int32.ofInt (iC s 233 ((iC s 228 (x).toNat)).toNat))), (5, .int (Int32.ofInt (iC s 233 (y).toNat)))]) (List.forall_mem_cons.mpr ⟨(List.Mem.tail _ (List.Mem.tail _ (List.Mem.tail _ (List.Mem.head _)))), (List.forall_mem_cons.mpr ⟨(List.Mem.tail _ (List.Mem.tail _ (List.Mem.tail _ (List.Mem.tail _ (List.Mem.head _))))), (List.forall_mem_cons.mpr ⟨(List.Mem.tail _ (List.Mem.tail _ (List.Mem.tail _ (List.Mem.tail _ (List.Mem.tail _ (List.Mem.head _)))))), (List.forall_mem_cons.mpr ⟨(List.Mem.tail _ (List.Mem.tail _ (List.Mem.head _))), (List.forall_mem_cons.mpr ⟨(List.Mem.tail _ (List.Mem.head _)), (List.forall_mem_cons.mpr ⟨(List.Mem.head _), (fun q h => absurd h List.not_mem_nil)⟩)⟩)⟩)⟩)⟩)⟩) ?_
    exact L137 _ x y (iC s 228 (x).toNat) (iC s 233 ((iC s 228 (x).toNat)).toNat) (iC s 233 (y).toNat) Is12 Gs12 JRLx_s12 JMDJ_s12 (trj_n p5 p1 hPs12 (fun j _ _ => aws12_233 j) (by omega) (by omega) (by omega) (fun q => hce_n hA1.2 (by omega) (by omega) q.1)) (by first | exact ⟨And.intro (by decide) (And.intro (by decide) (by decide)), oq_fd076cf3 b5.2 b5.1 hnp p2 p1.2 p1.1, And.intro (by decide) (by decide), And.intro (b7.1) (b7.2), b9.1, b9.2⟩ | omega)
  ·
    refine z_aload_n X (x := A 179) (show cdA 255 38 = some (.aload_n 0, 1, 0, 0, 0) from rfl) (List.Mem.tail _ (List.Mem.tail _ (List.Mem.tail _ (List.Mem.head _)))) ?_
    refine z_load_n X (x := (iC s 228 (x).toNat)) (show cdA 255 39 = some (.iload_n 3, 1, 0, 0, 0) from rfl) (List.Mem.tail _ (List.Mem.tail _ (List.Mem.head _))) ?_
    refine z_callV X 179 (rm := rmN 240) (As := [.int (Int32.ofInt (iC s 228 (x).toNat))]) (st := []) (show cdA 255 40 = some (.invokevirtual 342, 3, 240, 0, 0) from rfl) rfl (by decide) rfl (by rw [E.1, E.2.1, E.2.2.1]; exact k_whole3 G Is12 (by first | exact ⟨oq_97ee2c2a b5.1, oq_0e78ca7d b5.2⟩ | omega)) ⟨by rw [E.2.2.2]; exact (show (rmN 240).frames + 1 ≤ (rmN 255).frames by decide), by rw [E.2.2.2]; exact (show 8 + (mNL (miB 240) + 11) + (rmN 240).locals ≤ (rmN 255).locals by decide), by rw [E.2.2.2]; exact (show 0 + (rmN 240).cells ≤ (rmN 255).cells by decide), by rw [E.2.2.2]; exact (show 0 + (rmN 240).slots ≤ (rmN 255).slots by decide)⟩ (Nat.le_of_ble_eq_true rfl) (fun vv s15 hq => ?_) (fun ee s15 hq => ?_)
    rotate_left
    · obtain ⟨Is15, Fs15, e16, hv, hrs15, hps15⟩ := hq; cases hv
    obtain ⟨Is15, Fs15, e16, hv, hrs15, hps15⟩ := hq
    cases hv
    have Gs15 := fm_ts Gs12 Fs15 (by decide) (by decide)
    have JRLx_s15 : RLx s15 := RLx_fm Fs15 (by decide) JRLx_s12
    have JMDJ_s15 : MDJ U s15 := MDJ_fm Fs15 (by decide) JMDJ_s12
    have ws15_92 : iI s15 92 = iI s12 92 := fm_i Fs15 (by decide)
    have ws15_93 : iI s15 93 = iI s12 93 := fm_i Fs15 (by decide)
    have ws15_94 : iI s15 94 = iI s12 94 := fm_i Fs15 (by decide)
    have ws15_89 : iI s15 89 = iI s12 89 := fm_i Fs15 (by decide)
    have aws15_228 : UPD 228 (x) y s s15 := upd_ts aws12_228 (sam_fm Fs15 (by decide))
    have aws15_233 : SAM 233 s s15 := sam_ts aws12_233 (sam_fm Fs15 (by decide))
    show WS k 43 [(5, .int (Int32.ofInt (iC s 233 (y).toNat))), (4, .int (Int32.ofInt (iC s 233 ((iC s 228 (x).toNat)).toNat))), (3, .int (Int32.ofInt (iC s 228 (x).toNat))), (0, .ref (A 179)), (1, .int (Int32.ofInt x)), (2, .int (Int32.ofInt y))] [.int (Int32.ofInt e16)] (Wd A dT s15) 0 0
    have hPs15 : pfM s15 = (upF (pfM s) (x : Int).toNat y) := (show pfM s15 = pfM s12 from funext (fun j => fm_c Fs15 (by decide))).trans hPs12
    have hA2 : (e16 = 0 ∨ e16 = 1) ∧ HGE (pcS (upF (pfM s) (x : Int).toNat y) (iC s 228 (x : Int).toNat)) e16 := by have z := hps15; rw [hPs12] at z; exact z
    refine z_if_eq X (t := 137) (show cdA 255 43 = some (.ifCond .eq 94, 3, 0, 0, 0) from rfl) (by decide) hrs15 (fun g17 => ?_) (fun g17 => ?_)
    ·
      refine WS_lv (lv := [(0, .ref (A 179)), (1, .int (Int32.ofInt x)), (2, .int (Int32.ofInt y)), (3, .int (Int32.ofInt (iC s 228 (x).toNat))), (4, .int (Int32.ofInt (iC s 233 ((iC s 228 (x).toNat)).toNat))), (5, .int (Int32.ofInt (iC s 233 (y).toNat)))]) (List.forall_mem_cons.mpr ⟨(List.Mem.tail _ (List.Mem.tail _ (List.Mem.tail _ (List.Mem.head _)))), (List.forall_mem_cons.mpr ⟨(List.Mem.tail _ (List.Mem.tail _ (List.Mem.tail _ (List.Mem.tail _ (List.Mem.head _))))), (List.forall_mem_cons.mpr ⟨(List.Mem.tail _ (List.Mem.tail _ (List.Mem.tail _ (List.Mem.tail _ (List.Mem.tail _ (List.Mem.head _)))))), (List.forall_mem_cons.mpr ⟨(List.Mem.tail _ (List.Mem.tail _ (List.Mem.head _))), (List.forall_mem_cons.mpr ⟨(List.Mem.tail _ (List.Mem.head _)), (List.forall_mem_cons.mpr ⟨(List.Mem.head _), (fun q h => absurd h List.not_mem_nil)⟩)⟩)⟩)⟩)⟩)⟩) ?_
      exact L137 _ x y (iC s 228 (x).toNat) (iC s 233 ((iC s 228 (x).toNat)).toNat) (iC s 233 (y).toNat) Is15 Gs15 JRLx_s15 JMDJ_s15 (trj_n p5 p1 hPs15 (fun j _ _ => aws15_233 j) (by omega) (by omega) (by omega) (fun q => hge_n hA2.2 (by omega) q.2.1)) (by first | exact ⟨And.intro (by decide) (And.intro (by decide) (by decide)), oq_32dbbfbd b5.2 b5.1 p2, And.intro (by decide) (by decide), And.intro (b7.1) (b7.2), b9.1, b9.2⟩ | omega)
    ·
      refine z_aload_n X (x := A 179) (show cdA 255 46 = some (.aload_n 0, 1, 0, 0, 0) from rfl) (List.Mem.tail _ (List.Mem.tail _ (List.Mem.tail _ (List.Mem.head _)))) ?_
      refine z_load_n X (x := y) (show cdA 255 47 = some (.iload_n 2, 1, 0, 0, 0) from rfl) (List.Mem.tail _ (List.Mem.tail _ (List.Mem.tail _ (List.Mem.tail _ (List.Mem.tail _ (List.Mem.head _)))))) ?_
      refine z_callV X 179 (rm := rmN 240) (As := [.int (Int32.ofInt y)]) (st := []) (show cdA 255 48 = some (.invokevirtual 342, 3, 240, 0, 0) from rfl) rfl (by decide) rfl (by rw [E.1, E.2.1, E.2.2.1]; exact k_whole3 G Is15 (by first | exact ⟨oq_fa4e5087 p1.1, oq_0e78ca7d p1.2⟩ | omega)) ⟨by rw [E.2.2.2]; exact (show (rmN 240).frames + 1 ≤ (rmN 255).frames by decide), by rw [E.2.2.2]; exact (show 8 + (mNL (miB 240) + 11) + (rmN 240).locals ≤ (rmN 255).locals by decide), by rw [E.2.2.2]; exact (show 0 + (rmN 240).cells ≤ (rmN 255).cells by decide), by rw [E.2.2.2]; exact (show 0 + (rmN 240).slots ≤ (rmN 255).slots by decide)⟩ (Nat.le_of_ble_eq_true rfl) (fun vv s18 hq => ?_) (fun ee s18 hq => ?_)
      rotate_left
      · obtain ⟨Is18, Fs18, e19, hv, hrs18, hps18⟩ := hq; cases hv
      obtain ⟨Is18, Fs18, e19, hv, hrs18, hps18⟩ := hq
      cases hv
      have Gs18 := fm_ts Gs15 Fs18 (by decide) (by decide)
      have JRLx_s18 : RLx s18 := RLx_fm Fs18 (by decide) JRLx_s15
      have JMDJ_s18 : MDJ U s18 := MDJ_fm Fs18 (by decide) JMDJ_s15
      have ws18_92 : iI s18 92 = iI s15 92 := fm_i Fs18 (by decide)
      have ws18_93 : iI s18 93 = iI s15 93 := fm_i Fs18 (by decide)
      have ws18_94 : iI s18 94 = iI s15 94 := fm_i Fs18 (by decide)
      have ws18_89 : iI s18 89 = iI s15 89 := fm_i Fs18 (by decide)
      have aws18_228 : UPD 228 (x) y s s18 := upd_ts aws15_228 (sam_fm Fs18 (by decide))
      have aws18_233 : SAM 233 s s18 := sam_ts aws15_233 (sam_fm Fs18 (by decide))
      show WS k 51 [(5, .int (Int32.ofInt (iC s 233 (y).toNat))), (4, .int (Int32.ofInt (iC s 233 ((iC s 228 (x).toNat)).toNat))), (3, .int (Int32.ofInt (iC s 228 (x).toNat))), (0, .ref (A 179)), (1, .int (Int32.ofInt x)), (2, .int (Int32.ofInt y))] [.int (Int32.ofInt e19)] (Wd A dT s18) 0 0
      have hPs18 : pfM s18 = (upF (pfM s) (x : Int).toNat y) := (show pfM s18 = pfM s15 from funext (fun j => fm_c Fs18 (by decide))).trans hPs15
      have hA3 : (e19 = 0 ∨ e19 = 1) ∧ HGE (pcS (upF (pfM s) (x : Int).toNat y) y) e19 := by have z := hps18; rw [hPs15] at z; exact z
      refine z_if_eq X (t := 137) (show cdA 255 51 = some (.ifCond .eq 86, 3, 0, 0, 0) from rfl) (by decide) hrs18 (fun g20 => ?_) (fun g20 => ?_)
      ·
        refine WS_lv (lv := [(0, .ref (A 179)), (1, .int (Int32.ofInt x)), (2, .int (Int32.ofInt y)), (3, .int (Int32.ofInt (iC s 228 (x).toNat))), (4, .int (Int32.ofInt (iC s 233 ((iC s 228 (x).toNat)).toNat))), (5, .int (Int32.ofInt (iC s 233 (y).toNat)))]) (List.forall_mem_cons.mpr ⟨(List.Mem.tail _ (List.Mem.tail _ (List.Mem.tail _ (List.Mem.head _)))), (List.forall_mem_cons.mpr ⟨(List.Mem.tail _ (List.Mem.tail _ (List.Mem.tail _ (List.Mem.tail _ (List.Mem.head _))))), (List.forall_mem_cons.mpr ⟨(List.Mem.tail _ (List.Mem.tail _ (List.Mem.tail _ (List.Mem.tail _ (List.Mem.tail _ (List.Mem.head _)))))), (List.forall_mem_cons.mpr ⟨(List.Mem.tail _ (List.Mem.tail _ (List.Mem.head _))), (List.forall_mem_cons.mpr ⟨(List.Mem.tail _ (List.Mem.head _)), (List.forall_mem_cons.mpr ⟨(List.Mem.head _), (fun q h => absurd h List.not_mem_nil)⟩)⟩)⟩)⟩)⟩)⟩) ?_
        exact L137 _ x y (iC s 228 (x).toNat) (iC s 233 ((iC s 228 (x).toNat)).toNat) (iC s 233 (y).toNat) Is18 Gs18 JRLx_s18 JMDJ_s18 (trj_n p5 p1 hPs18 (fun j _ _ => aws18_233 j) (by omega) (by omega) (by omega) (fun q => hge_n hA3.2 (by omega) q.2.2.1)) (by first | exact ⟨And.intro (by decide) (And.intro (by decide) (by decide)), oq_32dbbfbd b5.2 b5.1 p2, And.intro (by decide) (by decide), And.intro (b7.1) (b7.2), b9.1, b9.2⟩ | omega)
      ·
        refine z_aload_n X (x := A 179) (show cdA 255 54 = some (.aload_n 0, 1, 0, 0, 0) from rfl) (List.Mem.tail _ (List.Mem.tail _ (List.Mem.tail _ (List.Mem.head _)))) ?_
        refine s_getR X 179 (show cdA 255 55 = some (.getfield 86, 3, 12, 40, 0) from rfl) (by decide) rfl rfl ?_
        refine z_load_n X (x := (iC s 228 (x).toNat)) (show cdA 255 58 = some (.iload_n 3, 1, 0, 0, 0) from rfl) (List.Mem.tail _ (List.Mem.tail _ (List.Mem.head _))) ?_
        refine z_aload_n X (x := A 179) (show cdA 255 59 = some (.aload_n 0, 1, 0, 0, 0) from rfl) (List.Mem.tail _ (List.Mem.tail _ (List.Mem.tail _ (List.Mem.head _)))) ?_
        refine z_load_n X (x := (iC s 228 (x).toNat)) (show cdA 255 60 = some (.iload_n 3, 1, 0, 0, 0) from rfl) (List.Mem.tail _ (List.Mem.tail _ (List.Mem.head _))) ?_
        refine z_callV X 179 (rm := rmN 232) (As := [.int (Int32.ofInt (iC s 228 (x).toNat))]) (st := [.int (Int32.ofInt (iC s 228 (x).toNat)), .ref (A 261)]) (show cdA 255 61 = some (.invokevirtual 336, 3, 232, 0, 0) from rfl) rfl (by decide) rfl (by rw [E.1, E.2.1, E.2.2.1]; exact k_peakPiece3 G Is18 JRLx_s18 JMDJ_s18 (by first | exact ⟨oq_97ee2c2a b5.1, oq_0e78ca7d b5.2⟩ | omega) (by first | exact oq_094d069b ws18_89 ws15_89 ws12_89 ws11_89 p6 b4.1 | omega)) ⟨by rw [E.2.2.2]; exact (show (rmN 232).frames + 1 ≤ (rmN 255).frames by decide), by rw [E.2.2.2]; exact (show 8 + (mNL (miB 232) + 11) + (rmN 232).locals ≤ (rmN 255).locals by decide), by rw [E.2.2.2]; exact (show 0 + (rmN 232).cells ≤ (rmN 255).cells by decide), by rw [E.2.2.2]; exact (show 0 + (rmN 232).slots ≤ (rmN 255).slots by decide)⟩ (Nat.le_of_ble_eq_true rfl) (fun vv s21 hq => ?_) (fun ee s21 hq => ?_)
        rotate_left
        · obtain ⟨Is21, Fs21, JRLx_s21, e22, hv, hrs21, hps21⟩ := hq; cases hv
        obtain ⟨Is21, Fs21, JRLx_s21, e22, hv, hrs21, hps21⟩ := hq
        cases hv
        have Gs21 := fm_ts Gs18 Fs21 (by decide) (by decide)
        have JRLx_s21 : RLx s21 := RLx_fm Fs21 (by decide) JRLx_s18
        have JMDJ_s21 : MDJ U s21 := MDJ_fm Fs21 (by decide) JMDJ_s18
        have ws21_92 : iI s21 92 = iI s18 92 := fm_i Fs21 (by decide)
        have ws21_93 : iI s21 93 = iI s18 93 := fm_i Fs21 (by decide)
        have ws21_94 : iI s21 94 = iI s18 94 := fm_i Fs21 (by decide)
        have ws21_89 : iI s21 89 = iI s18 89 := fm_i Fs21 (by decide)
        have aws21_228 : UPD 228 (x) y s s21 := upd_ts aws18_228 (sam_fm Fs21 (by decide))
        have aws21_233 : SAM 233 s s21 := sam_ts aws18_233 (sam_fm Fs21 (by decide))
        show WS k 64 [(5, .int (Int32.ofInt (iC s 233 (y).toNat))), (4, .int (Int32.ofInt (iC s 233 ((iC s 228 (x).toNat)).toNat))), (3, .int (Int32.ofInt (iC s 228 (x).toNat))), (0, .ref (A 179)), (1, .int (Int32.ofInt x)), (2, .int (Int32.ofInt y))] [.int (Int32.ofInt e22), .int (Int32.ofInt (iC s 228 (x).toNat)), .ref (A 261)] (Wd A dT s21) 0 0
        have hPs21 : pfM s21 = (upF (pfM s) (x : Int).toNat y) := (show pfM s21 = pfM s18 from funext (fun j => fm_c Fs21 (by decide))).trans hPs18
        have hK1 : e22 = pkH U (pcS (upF (pfM s) (x : Int).toNat y) (iC s 228 (x : Int).toNat)) := by have z := hps21; rw [hPs18] at z; exact z
        refine z_ast X 261 (show cdA 255 64 = some (.iastore, 1, 0, 0, 0) from rfl) (by decide) rfl (by first | exact oq_5234833b b5.1 p2 | omega) (show (iC s 228 (x).toNat) < 8 by first | exact oq_aaea290e b5.2 | omega) (by decide) ?_
        obtain ⟨s23, hs23⟩ : ∃ x0, x0 = uC s21 233 ((iC s 228 (x).toNat)).toNat (Int32.ofInt e22) := ⟨_, rfl⟩
        rw [← hs23]
        have Is23 : Bd s23 := by rw [hs23]; exact bd_C Is21 (show ((-2147483648) : Int) ≤ e22 ∧ e22 ≤ 2147483647 by omega) hrs21
        have Fs23 := fm_C (i := ((iC s 228 (x).toNat)).toNat) (x := Int32.ofInt e22) Gs21 (show 233 ∈ _ by decide)
        rw [← hs23] at Fs23
        have ws23_92 : iI s23 92 = iI s21 92 := by rw [hs23]; rfl
        have ws23_93 : iI s23 93 = iI s21 93 := by rw [hs23]; rfl
        have ws23_94 : iI s23 94 = iI s21 94 := by rw [hs23]; rfl
        have ws23_89 : iI s23 89 = iI s21 89 := by rw [hs23]; rfl
        have aws23_228 : UPD 228 (x) y s s23 := by rw [hs23]; exact upd_C (by decide) aws21_228
        have aws23_233 : UPD 233 ((iC s 228 (x).toNat)) e22 s s23 := by rw [hs23]; exact upd_put aws21_233 hrs21
        have fs23 : Fm [] [233] s21 s23 := by rw [hs23]; exact fm_C (fm_rf _ _ _) (show 233 ∈ _ by decide)
        have JRLx_s23 : RLx s23 := RLx_fm fs23 (by decide) JRLx_s21
        have JMDJ_s23 : MDJ U s23 := MDJ_fm fs23 (by decide) JMDJ_s21
        have hPa : pfM s23 = (upF (pfM s) (x : Int).toNat y) := (show pfM s23 = pfM s21 from funext (fun j => by rw [hs23]; exact iC_a (by decide))).trans hPs21
        refine z_aload_n X (x := A 179) (show cdA 255 65 = some (.aload_n 0, 1, 0, 0, 0) from rfl) (List.Mem.tail _ (List.Mem.tail _ (List.Mem.tail _ (List.Mem.head _)))) ?_
        refine s_getR X 179 (show cdA 255 66 = some (.getfield 86, 3, 12, 40, 0) from rfl) (by decide) rfl rfl ?_
        refine z_load_n X (x := y) (show cdA 255 69 = some (.iload_n 2, 1, 0, 0, 0) from rfl) (List.Mem.tail _ (List.Mem.tail _ (List.Mem.tail _ (List.Mem.tail _ (List.Mem.tail _ (List.Mem.head _)))))) ?_
        refine z_aload_n X (x := A 179) (show cdA 255 70 = some (.aload_n 0, 1, 0, 0, 0) from rfl) (List.Mem.tail _ (List.Mem.tail _ (List.Mem.tail _ (List.Mem.head _)))) ?_
        refine z_load_n X (x := y) (show cdA 255 71 = some (.iload_n 2, 1, 0, 0, 0) from rfl) (List.Mem.tail _ (List.Mem.tail _ (List.Mem.tail _ (List.Mem.tail _ (List.Mem.tail _ (List.Mem.head _)))))) ?_
        refine z_callV X 179 (rm := rmN 232) (As := [.int (Int32.ofInt y)]) (st := [.int (Int32.ofInt y), .ref (A 261)]) (show cdA 255 72 = some (.invokevirtual 336, 3, 232, 0, 0) from rfl) rfl (by decide) rfl (by rw [E.1, E.2.1, E.2.2.1]; exact k_peakPiece3 G Is23 JRLx_s23 JMDJ_s23 (by first | exact ⟨oq_fa4e5087 p1.1, oq_0e78ca7d p1.2⟩ | omega) (by first | exact oq_78c81c75 ws23_89 ws21_89 ws18_89 ws15_89 ws12_89 ws11_89 b4.1 p6 | omega)) ⟨by rw [E.2.2.2]; exact (show (rmN 232).frames + 1 ≤ (rmN 255).frames by decide), by rw [E.2.2.2]; exact (show 8 + (mNL (miB 232) + 11) + (rmN 232).locals ≤ (rmN 255).locals by decide), by rw [E.2.2.2]; exact (show 0 + (rmN 232).cells ≤ (rmN 255).cells by decide), by rw [E.2.2.2]; exact (show 0 + (rmN 232).slots ≤ (rmN 255).slots by decide)⟩ (Nat.le_of_ble_eq_true rfl) (fun vv s24 hq => ?_) (fun ee s24 hq => ?_)
        rotate_left
        · obtain ⟨Is24, Fs24, JRLx_s24, e25, hv, hrs24, hps24⟩ := hq; cases hv
        obtain ⟨Is24, Fs24, JRLx_s24, e25, hv, hrs24, hps24⟩ := hq
        cases hv
        have Gs24 := fm_ts Fs23 Fs24 (by decide) (by decide)
        have JRLx_s24 : RLx s24 := RLx_fm Fs24 (by decide) JRLx_s23
        have JMDJ_s24 : MDJ U s24 := MDJ_fm Fs24 (by decide) JMDJ_s23
        have ws24_92 : iI s24 92 = iI s23 92 := fm_i Fs24 (by decide)
        have ws24_93 : iI s24 93 = iI s23 93 := fm_i Fs24 (by decide)
        have ws24_94 : iI s24 94 = iI s23 94 := fm_i Fs24 (by decide)
        have ws24_89 : iI s24 89 = iI s23 89 := fm_i Fs24 (by decide)
        have aws24_228 : UPD 228 (x) y s s24 := upd_ts aws23_228 (sam_fm Fs24 (by decide))
        have aws24_233 : UPD 233 ((iC s 228 (x).toNat)) e22 s s24 := upd_ts aws23_233 (sam_fm Fs24 (by decide))
        show WS k 75 [(5, .int (Int32.ofInt (iC s 233 (y).toNat))), (4, .int (Int32.ofInt (iC s 233 ((iC s 228 (x).toNat)).toNat))), (3, .int (Int32.ofInt (iC s 228 (x).toNat))), (0, .ref (A 179)), (1, .int (Int32.ofInt x)), (2, .int (Int32.ofInt y))] [.int (Int32.ofInt e25), .int (Int32.ofInt y), .ref (A 261)] (Wd A dT s24) 0 0
        have hPs24 : pfM s24 = (upF (pfM s) (x : Int).toNat y) := (show pfM s24 = pfM s23 from funext (fun j => fm_c Fs24 (by decide))).trans hPa
        have hK2 : e25 = pkH U (pcS (upF (pfM s) (x : Int).toNat y) y) := by have z := hps24; rw [hPa] at z; exact z
        refine z_ast X 261 (show cdA 255 75 = some (.iastore, 1, 0, 0, 0) from rfl) (by decide) rfl (by first | exact p1.1 | omega) (show y < 8 by first | exact oq_aaea290e p1.2 | omega) (by decide) ?_
        obtain ⟨s26, hs26⟩ : ∃ x0, x0 = uC s24 233 (y).toNat (Int32.ofInt e25) := ⟨_, rfl⟩
        rw [← hs26]
        have Is26 : Bd s26 := by rw [hs26]; exact bd_C Is24 (show ((-2147483648) : Int) ≤ e25 ∧ e25 ≤ 2147483647 by omega) hrs24
        have Fs26 := fm_C (i := (y).toNat) (x := Int32.ofInt e25) Gs24 (show 233 ∈ _ by decide)
        rw [← hs26] at Fs26
        have ws26_92 : iI s26 92 = iI s24 92 := by rw [hs26]; rfl
        have ws26_93 : iI s26 93 = iI s24 93 := by rw [hs26]; rfl
        have ws26_94 : iI s26 94 = iI s24 94 := by rw [hs26]; rfl
        have ws26_89 : iI s26 89 = iI s24 89 := by rw [hs26]; rfl
        have aws26_228 : UPD 228 (x) y s s26 := by rw [hs26]; exact upd_C (by decide) aws24_228
        have fs26 : Fm [] [233] s24 s26 := by rw [hs26]; exact fm_C (fm_rf _ _ _) (show 233 ∈ _ by decide)
        have JRLx_s26 : RLx s26 := RLx_fm fs26 (by decide) JRLx_s24
        have JMDJ_s26 : MDJ U s26 := MDJ_fm fs26 (by decide) JMDJ_s24
        have hPb : pfM s26 = (upF (pfM s) (x : Int).toNat y) := (show pfM s26 = pfM s24 from funext (fun j => by rw [hs26]; exact iC_a (by decide))).trans hPs24
        have hQ1 : UPD 233 (iC s 228 (x : Int).toNat) e22 s s23 := aws23_233
        have hQ2 : SAM 233 s23 s24 := fun j => (fm_c Fs24 (by decide))
        have hQ3 : UPD 233 y e25 s23 s26 := by rw [hs26]; exact upd_put hQ2 hrs24
        have hQ4 : ∀ j : Nat, (j : Int) ≠ (iC s 228 (x : Int).toNat) → (j : Int) ≠ y → iC s26 233 j = iC s 233 j := fun j j1 j2 => (hQ3.2 j (by omega)).trans (hQ1.2 j (by omega))
        have hQ5 : iC s26 233 (iC s 228 (x : Int).toNat).toNat = e22 := (hQ3.2 _ (by omega)).trans hQ1.1
        have hQ6 : iC s26 233 (y : Int).toNat = e25 := hQ3.1
        have hFP : FPQ U (upF (pfM s) (x : Int).toNat y) 8 s26 := fpq_mv p4 p0 rfl (by omega) (by omega) hQ4 (hQ5.trans hK1) (hQ6.trans hK2)
        refine z_aload_n X (x := A 179) (show cdA 255 76 = some (.aload_n 0, 1, 0, 0, 0) from rfl) (List.Mem.tail _ (List.Mem.tail _ (List.Mem.tail _ (List.Mem.head _)))) ?_
        refine z_callV X 179 (rm := rmN 251) (As := []) (st := []) (show cdA 255 77 = some (.invokevirtual 363, 3, 251, 0, 0) from rfl) rfl (by decide) rfl (by rw [E.1, E.2.1, E.2.2.1]; exact k_costBy3 G Is26 JMDJ_s26 ) ⟨by rw [E.2.2.2]; exact (show (rmN 251).frames + 1 ≤ (rmN 255).frames by decide), by rw [E.2.2.2]; exact (show 8 + (mNL (miB 251) + 11) + (rmN 251).locals ≤ (rmN 255).locals by decide), by rw [E.2.2.2]; exact (show 0 + (rmN 251).cells ≤ (rmN 255).cells by decide), by rw [E.2.2.2]; exact (show 0 + (rmN 251).slots ≤ (rmN 255).slots by decide)⟩ (Nat.le_of_ble_eq_true rfl) (fun vv s27 hq => ?_) (fun ee s27 hq => ?_)
        rotate_left
        · obtain ⟨Is27, Fs27, e28, hv, hrs27, hps27⟩ := hq; cases hv
        obtain ⟨Is27, Fs27, e28, hv, hrs27, hps27⟩ := hq
        cases hv
        have Gs27 := fm_ts Fs26 Fs27 (by decide) (by decide)
        have JRLx_s27 : RLx s27 := RLx_fm Fs27 (by decide) JRLx_s26
        have JMDJ_s27 : MDJ U s27 := MDJ_fm Fs27 (by decide) JMDJ_s26
        have ws27_92 : iI s27 92 = iI s26 92 := fm_i Fs27 (by decide)
        have ws27_93 : iI s27 93 = iI s26 93 := fm_i Fs27 (by decide)
        have ws27_94 : iI s27 94 = iI s26 94 := fm_i Fs27 (by decide)
        have ws27_89 : iI s27 89 = iI s26 89 := fm_i Fs27 (by decide)
        have aws27_228 : UPD 228 (x) y s s27 := upd_ts aws26_228 (sam_fm Fs27 (by decide))
        show WS k 80 [(5, .int (Int32.ofInt (iC s 233 (y).toNat))), (4, .int (Int32.ofInt (iC s 233 ((iC s 228 (x).toNat)).toNat))), (3, .int (Int32.ofInt (iC s 228 (x).toNat))), (0, .ref (A 179)), (1, .int (Int32.ofInt x)), (2, .int (Int32.ofInt y))] [.int (Int32.ofInt e28)] (Wd A dT s27) 0 0
        have hPs27 : pfM s27 = (upF (pfM s) (x : Int).toNat y) := (show pfM s27 = pfM s26 from funext (fun j => fm_c Fs27 (by decide))).trans hPb
        have hCS : CST U (upF (pfM s) (x : Int).toNat y) e28 := cst_of hFP (by have z := hps27; rw [hPb] at z; exact z)
        have hR1 : iC s27 233 (iC s 228 (x : Int).toNat).toNat = iC s26 233 (iC s 228 (x : Int).toNat).toNat := fm_c Fs27 (by decide)
        have hR2 : iC s27 233 (y : Int).toNat = iC s26 233 (y : Int).toNat := fm_c Fs27 (by decide)
        have hR3 : iC s27 229 (iC s 228 (x : Int).toNat).toNat = iC s 229 (iC s 228 (x : Int).toNat).toNat := fm_c Gs27 (by decide)
        have hR4 : iC s27 229 (y : Int).toNat = iC s 229 (y : Int).toNat := fm_c Gs27 (by decide)
        refine z_store X (lv' := [(6, .int (Int32.ofInt e28)), (5, .int (Int32.ofInt (iC s 233 (y).toNat))), (4, .int (Int32.ofInt (iC s 233 ((iC s 228 (x).toNat)).toNat))), (3, .int (Int32.ofInt (iC s 228 (x).toNat))), (0, .ref (A 179)), (1, .int (Int32.ofInt x)), (2, .int (Int32.ofInt y))]) (show cdA 255 80 = some (.istore 6, 2, 0, 0, 0) from rfl) (by decide) (fun _ h => h) ?_
        refine z_aload_n X (x := A 179) (show cdA 255 82 = some (.aload_n 0, 1, 0, 0, 0) from rfl) (List.Mem.tail _ (List.Mem.tail _ (List.Mem.tail _ (List.Mem.tail _ (List.Mem.head _))))) ?_
        refine s_getR X 179 (show cdA 255 83 = some (.getfield 86, 3, 12, 40, 0) from rfl) (by decide) rfl rfl ?_
        refine z_load_n X (x := (iC s 228 (x).toNat)) (show cdA 255 86 = some (.iload_n 3, 1, 0, 0, 0) from rfl) (List.Mem.tail _ (List.Mem.tail _ (List.Mem.tail _ (List.Mem.head _)))) ?_
        refine z_ald X 261 (show cdA 255 87 = some (.iaload, 1, 0, 0, 0) from rfl) (by decide) rfl (by first | exact oq_5234833b b5.1 p2 | omega) (show (iC s 228 (x).toNat) < 8 by first | exact oq_aaea290e b5.2 | omega) (by decide) ?_
        have b29 : ((-2147483648) : Int) ≤ iC s27 233 ((iC s 228 (x).toNat)).toNat ∧ iC s27 233 ((iC s 228 (x).toNat)).toNat ≤ 2147483647 := Is27.2 233 _ (show ((iC s 228 (x).toNat)).toNat < 8 by first | exact oq_c19a3aae b5.2 | omega)
        refine z_aload_n X (x := A 179) (show cdA 255 88 = some (.aload_n 0, 1, 0, 0, 0) from rfl) (List.Mem.tail _ (List.Mem.tail _ (List.Mem.tail _ (List.Mem.tail _ (List.Mem.head _))))) ?_
        refine s_getR X 179 (show cdA 255 89 = some (.getfield 73, 3, 12, 36, 0) from rfl) (by decide) rfl rfl ?_
        refine z_load_n X (x := (iC s 228 (x).toNat)) (show cdA 255 92 = some (.iload_n 3, 1, 0, 0, 0) from rfl) (List.Mem.tail _ (List.Mem.tail _ (List.Mem.tail _ (List.Mem.head _)))) ?_
        refine z_ald X 257 (show cdA 255 93 = some (.iaload, 1, 0, 0, 0) from rfl) (by decide) rfl (by first | exact oq_5234833b b5.1 p2 | omega) (show (iC s 228 (x).toNat) < 8 by first | exact oq_aaea290e b5.2 | omega) (by decide) ?_
        have b30 : (0 : Int) ≤ iC s27 229 ((iC s 228 (x).toNat)).toNat ∧ iC s27 229 ((iC s 228 (x).toNat)).toNat ≤ 9999 := Is27.2 229 _ (show ((iC s 228 (x).toNat)).toNat < 8 by first | exact oq_c19a3aae b5.2 | omega)
        refine z_icmp_gt X (t := 137) (show cdA 255 94 = some (.if_icmp .gt 43, 3, 4, 0, 0) from rfl) (by decide) (rng_to _) (rng_to _) (fun g31 => ?_) (fun g31 => ?_)
        ·
          refine WS_lv (lv := [(0, .ref (A 179)), (1, .int (Int32.ofInt x)), (2, .int (Int32.ofInt y)), (3, .int (Int32.ofInt (iC s 228 (x).toNat))), (4, .int (Int32.ofInt (iC s 233 ((iC s 228 (x).toNat)).toNat))), (5, .int (Int32.ofInt (iC s 233 (y).toNat)))]) (List.forall_mem_cons.mpr ⟨(List.Mem.tail _ (List.Mem.tail _ (List.Mem.tail _ (List.Mem.tail _ (List.Mem.head _))))), (List.forall_mem_cons.mpr ⟨(List.Mem.tail _ (List.Mem.tail _ (List.Mem.tail _ (List.Mem.tail _ (List.Mem.tail _ (List.Mem.head _)))))), (List.forall_mem_cons.mpr ⟨(List.Mem.tail _ (List.Mem.tail _ (List.Mem.tail _ (List.Mem.tail _ (List.Mem.tail _ (List.Mem.tail _ (List.Mem.head _))))))), (List.forall_mem_cons.mpr ⟨(List.Mem.tail _ (List.Mem.tail _ (List.Mem.tail _ (List.Mem.head _)))), (List.forall_mem_cons.mpr ⟨(List.Mem.tail _ (List.Mem.tail _ (List.Mem.head _))), (List.forall_mem_cons.mpr ⟨(List.Mem.tail _ (List.Mem.head _)), (fun q h => absurd h List.not_mem_nil)⟩)⟩)⟩)⟩)⟩)⟩) ?_
          exact L137 _ x y (iC s 228 (x).toNat) (iC s 233 ((iC s 228 (x).toNat)).toNat) (iC s 233 (y).toNat) Is27 Gs27 JRLx_s27 JMDJ_s27 (trj_n p5 p1 hPs27 (fun j j1 j2 => (show iC s27 233 j = iC s26 233 j from fm_c Fs27 (by decide)).trans (hQ4 j j1 j2)) (by omega) (by omega) (by omega) (fun q => by have z := q.2.2.2.1; replace z : pkH U (pcS (upF (pfM s) (x : Int).toNat y) (iC s 228 (x : Int).toNat)) ≤ iC s 229 (iC s 228 (x : Int).toNat).toNat := z; omega)) (by first | exact ⟨And.intro (by decide) (And.intro (by decide) (by decide)), oq_32dbbfbd b5.2 b5.1 p2, And.intro (by decide) (by decide), And.intro (b7.1) (b7.2), b9.1, b9.2⟩ | omega)
        ·
          refine z_aload_n X (x := A 179) (show cdA 255 97 = some (.aload_n 0, 1, 0, 0, 0) from rfl) (List.Mem.tail _ (List.Mem.tail _ (List.Mem.tail _ (List.Mem.tail _ (List.Mem.head _))))) ?_
          refine s_getR X 179 (show cdA 255 98 = some (.getfield 86, 3, 12, 40, 0) from rfl) (by decide) rfl rfl ?_
          refine z_load_n X (x := y) (show cdA 255 101 = some (.iload_n 2, 1, 0, 0, 0) from rfl) (List.Mem.tail _ (List.Mem.tail _ (List.Mem.tail _ (List.Mem.tail _ (List.Mem.tail _ (List.Mem.tail _ (List.Mem.head _))))))) ?_
          refine z_ald X 261 (show cdA 255 102 = some (.iaload, 1, 0, 0, 0) from rfl) (by decide) rfl (by first | exact p1.1 | omega) (show y < 8 by first | exact oq_aaea290e p1.2 | omega) (by decide) ?_
          have b32 : ((-2147483648) : Int) ≤ iC s27 233 (y).toNat ∧ iC s27 233 (y).toNat ≤ 2147483647 := Is27.2 233 _ (show (y).toNat < 8 by first | exact oq_c19a3aae p1.2 | omega)
          refine z_aload_n X (x := A 179) (show cdA 255 103 = some (.aload_n 0, 1, 0, 0, 0) from rfl) (List.Mem.tail _ (List.Mem.tail _ (List.Mem.tail _ (List.Mem.tail _ (List.Mem.head _))))) ?_
          refine s_getR X 179 (show cdA 255 104 = some (.getfield 73, 3, 12, 36, 0) from rfl) (by decide) rfl rfl ?_
          refine z_load_n X (x := y) (show cdA 255 107 = some (.iload_n 2, 1, 0, 0, 0) from rfl) (List.Mem.tail _ (List.Mem.tail _ (List.Mem.tail _ (List.Mem.tail _ (List.Mem.tail _ (List.Mem.tail _ (List.Mem.head _))))))) ?_
          refine z_ald X 257 (show cdA 255 108 = some (.iaload, 1, 0, 0, 0) from rfl) (by decide) rfl (by first | exact p1.1 | omega) (show y < 8 by first | exact oq_aaea290e p1.2 | omega) (by decide) ?_
          have b33 : (0 : Int) ≤ iC s27 229 (y).toNat ∧ iC s27 229 (y).toNat ≤ 9999 := Is27.2 229 _ (show (y).toNat < 8 by first | exact oq_c19a3aae p1.2 | omega)
          refine z_icmp_gt X (t := 137) (show cdA 255 109 = some (.if_icmp .gt 28, 3, 4, 0, 0) from rfl) (by decide) (rng_to _) (rng_to _) (fun g34 => ?_) (fun g34 => ?_)
          ·
            refine WS_lv (lv := [(0, .ref (A 179)), (1, .int (Int32.ofInt x)), (2, .int (Int32.ofInt y)), (3, .int (Int32.ofInt (iC s 228 (x).toNat))), (4, .int (Int32.ofInt (iC s 233 ((iC s 228 (x).toNat)).toNat))), (5, .int (Int32.ofInt (iC s 233 (y).toNat)))]) (List.forall_mem_cons.mpr ⟨(List.Mem.tail _ (List.Mem.tail _ (List.Mem.tail _ (List.Mem.tail _ (List.Mem.head _))))), (List.forall_mem_cons.mpr ⟨(List.Mem.tail _ (List.Mem.tail _ (List.Mem.tail _ (List.Mem.tail _ (List.Mem.tail _ (List.Mem.head _)))))), (List.forall_mem_cons.mpr ⟨(List.Mem.tail _ (List.Mem.tail _ (List.Mem.tail _ (List.Mem.tail _ (List.Mem.tail _ (List.Mem.tail _ (List.Mem.head _))))))), (List.forall_mem_cons.mpr ⟨(List.Mem.tail _ (List.Mem.tail _ (List.Mem.tail _ (List.Mem.head _)))), (List.forall_mem_cons.mpr ⟨(List.Mem.tail _ (List.Mem.tail _ (List.Mem.head _))), (List.forall_mem_cons.mpr ⟨(List.Mem.tail _ (List.Mem.head _)), (fun q h => absurd h List.not_mem_nil)⟩)⟩)⟩)⟩)⟩)⟩) ?_
            exact L137 _ x y (iC s 228 (x).toNat) (iC s 233 ((iC s 228 (x).toNat)).toNat) (iC s 233 (y).toNat) Is27 Gs27 JRLx_s27 JMDJ_s27 (trj_n p5 p1 hPs27 (fun j j1 j2 => (show iC s27 233 j = iC s26 233 j from fm_c Fs27 (by decide)).trans (hQ4 j j1 j2)) (by omega) (by omega) (by omega) (fun q => by have z := q.2.2.2.2; replace z : pkH U (pcS (upF (pfM s) (x : Int).toNat y) y) ≤ iC s 229 (y : Int).toNat := z; omega)) (by first | exact ⟨And.intro (by decide) (And.intro (by decide) (by decide)), oq_32dbbfbd b5.2 b5.1 p2, And.intro (by decide) (by decide), And.intro (b7.1) (b7.2), b9.1, b9.2⟩ | omega)
          ·
            refine z_load X (x := e28) (show cdA 255 112 = some (.iload 6, 2, 0, 0, 0) from rfl) (List.Mem.head _) ?_
            refine z_aload_n X (x := A 179) (show cdA 255 114 = some (.aload_n 0, 1, 0, 0, 0) from rfl) (List.Mem.tail _ (List.Mem.tail _ (List.Mem.tail _ (List.Mem.tail _ (List.Mem.head _))))) ?_
            refine z_getI X 179 (show cdA 255 115 = some (.getfield 372, 3, 12, 43, 0) from rfl) (by decide) rfl rfl ?_
            have b35 : ((-2147483648) : Int) ≤ iI s27 94 ∧ iI s27 94 ≤ 2147483647 := Is27.1 94
            refine z_icmp_ge X (t := 137) (show cdA 255 118 = some (.if_icmp .ge 19, 3, 3, 0, 0) from rfl) (by decide) hrs27 (rng_to _) (fun g36 => ?_) (fun g36 => ?_)
            ·
              refine WS_lv (lv := [(0, .ref (A 179)), (1, .int (Int32.ofInt x)), (2, .int (Int32.ofInt y)), (3, .int (Int32.ofInt (iC s 228 (x).toNat))), (4, .int (Int32.ofInt (iC s 233 ((iC s 228 (x).toNat)).toNat))), (5, .int (Int32.ofInt (iC s 233 (y).toNat)))]) (List.forall_mem_cons.mpr ⟨(List.Mem.tail _ (List.Mem.tail _ (List.Mem.tail _ (List.Mem.tail _ (List.Mem.head _))))), (List.forall_mem_cons.mpr ⟨(List.Mem.tail _ (List.Mem.tail _ (List.Mem.tail _ (List.Mem.tail _ (List.Mem.tail _ (List.Mem.head _)))))), (List.forall_mem_cons.mpr ⟨(List.Mem.tail _ (List.Mem.tail _ (List.Mem.tail _ (List.Mem.tail _ (List.Mem.tail _ (List.Mem.tail _ (List.Mem.head _))))))), (List.forall_mem_cons.mpr ⟨(List.Mem.tail _ (List.Mem.tail _ (List.Mem.tail _ (List.Mem.head _)))), (List.forall_mem_cons.mpr ⟨(List.Mem.tail _ (List.Mem.tail _ (List.Mem.head _))), (List.forall_mem_cons.mpr ⟨(List.Mem.tail _ (List.Mem.head _)), (fun q h => absurd h List.not_mem_nil)⟩)⟩)⟩)⟩)⟩)⟩) ?_
              exact L137 _ x y (iC s 228 (x).toNat) (iC s 233 ((iC s 228 (x).toNat)).toNat) (iC s 233 (y).toNat) Is27 Gs27 JRLx_s27 JMDJ_s27 (trj_y p5 (by omega) p1 hPs27 (fun j j1 j2 => (show iC s27 233 j = iC s26 233 j from fm_c Fs27 (by decide)).trans (hQ4 j j1 j2)) p3 ⟨hce_p hA1.2 (by omega) (by omega), hge_y hA2.2 (by omega), hge_y hA3.2 (by omega), (show pkH U (pcS (upF (pfM s) (x : Int).toNat y) (iC s 228 (x : Int).toNat)) ≤ iC s 229 (iC s 228 (x : Int).toNat).toNat by omega), (show pkH U (pcS (upF (pfM s) (x : Int).toNat y) y) ≤ iC s 229 (y : Int).toNat by omega)⟩ hCS (by omega)) (by first | exact ⟨And.intro (by decide) (And.intro (by decide) (by decide)), oq_fd076cf3 b5.2 b5.1 hnp p2 p1.2 p1.1, And.intro (by decide) (by decide), And.intro (b7.1) (b7.2), b9.1, b9.2⟩ | omega)
            ·
              refine z_aload_n X (x := A 179) (show cdA 255 121 = some (.aload_n 0, 1, 0, 0, 0) from rfl) (List.Mem.tail _ (List.Mem.tail _ (List.Mem.tail _ (List.Mem.tail _ (List.Mem.head _))))) ?_
              refine z_load_n X (x := x) (show cdA 255 122 = some (.iload_n 1, 1, 0, 0, 0) from rfl) (List.Mem.tail _ (List.Mem.tail _ (List.Mem.tail _ (List.Mem.tail _ (List.Mem.tail _ (List.Mem.head _)))))) ?_
              refine s_putI X 179 (show cdA 255 123 = some (.putfield 369, 3, 12, 41, 0) from rfl) (by decide) rfl rfl (by decide) rfl rfl rfl ?_
              obtain ⟨s37, hs37⟩ : ∃ x0, x0 = uI s27 92 (Int32.ofInt x) := ⟨_, rfl⟩
              rw [← hs37]
              have Is37 : Bd s37 := by rw [hs37]; exact bd_I Is27 (show ((-1) : Int) ≤ x ∧ x ≤ 127 by first | exact ⟨oq_ca54ea22 p0.1, p0.2⟩ | omega) ⟨by first | exact oq_fa4e5087 p0.1 | omega, by first | exact oq_07d346ce p0.2 | omega⟩
              have Fs37 := fm_I (x := Int32.ofInt x) Gs27 (show 92 ∈ _ by decide)
              rw [← hs37] at Fs37
              have vs37 : iI s37 92 = x := by rw [hs37]; exact iI_u ⟨by first | exact oq_fa4e5087 p0.1 | omega, by first | exact oq_07d346ce p0.2 | omega⟩
              have ws37_93 : iI s37 93 = iI s27 93 := by rw [hs37]; rfl
              have ws37_94 : iI s37 94 = iI s27 94 := by rw [hs37]; rfl
              have ws37_89 : iI s37 89 = iI s27 89 := by rw [hs37]; rfl
              have aws37_228 : UPD 228 (x) y s s37 := by rw [hs37]; exact aws27_228
              have fs37 : Fm [92] [] s27 s37 := by rw [hs37]; exact fm_I (fm_rf _ _ _) (show 92 ∈ _ by decide)
              have JRLx_s37 : RLx s37 := RLx_fm fs37 (by decide) JRLx_s27
              have JMDJ_s37 : MDJ U s37 := MDJ_fm fs37 (by decide) JMDJ_s27
              refine z_aload_n X (x := A 179) (show cdA 255 126 = some (.aload_n 0, 1, 0, 0, 0) from rfl) (List.Mem.tail _ (List.Mem.tail _ (List.Mem.tail _ (List.Mem.tail _ (List.Mem.head _))))) ?_
              refine z_load_n X (x := y) (show cdA 255 127 = some (.iload_n 2, 1, 0, 0, 0) from rfl) (List.Mem.tail _ (List.Mem.tail _ (List.Mem.tail _ (List.Mem.tail _ (List.Mem.tail _ (List.Mem.tail _ (List.Mem.head _))))))) ?_
              refine s_putI X 179 (show cdA 255 128 = some (.putfield 378, 3, 12, 42, 0) from rfl) (by decide) rfl rfl (by decide) rfl rfl rfl ?_
              obtain ⟨s38, hs38⟩ : ∃ x0, x0 = uI s37 93 (Int32.ofInt y) := ⟨_, rfl⟩
              rw [← hs38]
              have Is38 : Bd s38 := by rw [hs38]; exact bd_I Is37 (show (0 : Int) ≤ y ∧ y ≤ 7 by first | exact ⟨p1.1, p1.2⟩ | omega) ⟨by first | exact oq_fa4e5087 p1.1 | omega, by first | exact oq_0e78ca7d p1.2 | omega⟩
              have Fs38 := fm_I (x := Int32.ofInt y) Fs37 (show 93 ∈ _ by decide)
              rw [← hs38] at Fs38
              have vs38 : iI s38 93 = y := by rw [hs38]; exact iI_u ⟨by first | exact oq_fa4e5087 p1.1 | omega, by first | exact oq_0e78ca7d p1.2 | omega⟩
              have ws38_92 : iI s38 92 = iI s37 92 := by rw [hs38]; rfl
              have ws38_94 : iI s38 94 = iI s37 94 := by rw [hs38]; rfl
              have ws38_89 : iI s38 89 = iI s37 89 := by rw [hs38]; rfl
              have aws38_228 : UPD 228 (x) y s s38 := by rw [hs38]; exact aws37_228
              have fs38 : Fm [93] [] s37 s38 := by rw [hs38]; exact fm_I (fm_rf _ _ _) (show 93 ∈ _ by decide)
              have JRLx_s38 : RLx s38 := RLx_fm fs38 (by decide) JRLx_s37
              have JMDJ_s38 : MDJ U s38 := MDJ_fm fs38 (by decide) JMDJ_s37
              refine z_aload_n X (x := A 179) (show cdA 255 131 = some (.aload_n 0, 1, 0, 0, 0) from rfl) (List.Mem.tail _ (List.Mem.tail _ (List.Mem.tail _ (List.Mem.tail _ (List.Mem.head _))))) ?_
              refine z_load X (x := e28) (show cdA 255 132 = some (.iload 6, 2, 0, 0, 0) from rfl) (List.Mem.head _) ?_
              refine s_putI X 179 (show cdA 255 134 = some (.putfield 372, 3, 12, 43, 0) from rfl) (by decide) rfl rfl (by decide) rfl rfl rfl ?_
              obtain ⟨s39, hs39⟩ : ∃ x0, x0 = uI s38 94 (Int32.ofInt e28) := ⟨_, rfl⟩
              rw [← hs39]
              have Is39 : Bd s39 := by rw [hs39]; exact bd_I Is38 (show ((-2147483648) : Int) ≤ e28 ∧ e28 ≤ 2147483647 by first | exact ⟨by omega, oq_ef392b12 g36 b35.2⟩ | omega) hrs27
              have Fs39 := fm_I (x := Int32.ofInt e28) Fs38 (show 94 ∈ _ by decide)
              rw [← hs39] at Fs39
              have vs39 : iI s39 94 = e28 := by rw [hs39]; exact iI_u hrs27
              have ws39_92 : iI s39 92 = iI s38 92 := by rw [hs39]; rfl
              have ws39_93 : iI s39 93 = iI s38 93 := by rw [hs39]; rfl
              have ws39_89 : iI s39 89 = iI s38 89 := by rw [hs39]; rfl
              have aws39_228 : UPD 228 (x) y s s39 := by rw [hs39]; exact aws38_228
              have fs39 : Fm [94] [] s38 s39 := by rw [hs39]; exact fm_I (fm_rf _ _ _) (show 94 ∈ _ by decide)
              have JRLx_s39 : RLx s39 := RLx_fm fs39 (by decide) JRLx_s38
              have JMDJ_s39 : MDJ U s39 := MDJ_fm fs39 (by decide) JMDJ_s38
              refine WS_lv (lv := [(0, .ref (A 179)), (1, .int (Int32.ofInt x)), (2, .int (Int32.ofInt y)), (3, .int (Int32.ofInt (iC s 228 (x).toNat))), (4, .int (Int32.ofInt (iC s 233 ((iC s 228 (x).toNat)).toNat))), (5, .int (Int32.ofInt (iC s 233 (y).toNat)))]) (List.forall_mem_cons.mpr ⟨(List.Mem.tail _ (List.Mem.tail _ (List.Mem.tail _ (List.Mem.tail _ (List.Mem.head _))))), (List.forall_mem_cons.mpr ⟨(List.Mem.tail _ (List.Mem.tail _ (List.Mem.tail _ (List.Mem.tail _ (List.Mem.tail _ (List.Mem.head _)))))), (List.forall_mem_cons.mpr ⟨(List.Mem.tail _ (List.Mem.tail _ (List.Mem.tail _ (List.Mem.tail _ (List.Mem.tail _ (List.Mem.tail _ (List.Mem.head _))))))), (List.forall_mem_cons.mpr ⟨(List.Mem.tail _ (List.Mem.tail _ (List.Mem.tail _ (List.Mem.head _)))), (List.forall_mem_cons.mpr ⟨(List.Mem.tail _ (List.Mem.tail _ (List.Mem.head _))), (List.forall_mem_cons.mpr ⟨(List.Mem.tail _ (List.Mem.head _)), (fun q h => absurd h List.not_mem_nil)⟩)⟩)⟩)⟩)⟩)⟩) ?_
              exact L137 _ x y (iC s 228 (x).toNat) (iC s 233 ((iC s 228 (x).toNat)).toNat) (iC s 233 (y).toNat) Is39 Fs39 JRLx_s39 JMDJ_s39 (trj_y p5 (by omega) p1 ((show pfM s39 = pfM s27 from funext (fun j => by rw [hs39, hs38, hs37]; rfl)).trans hPs27) (fun j j1 j2 => (show iC s39 233 j = iC s26 233 j from (show iC s39 233 j = iC s27 233 j from by rw [hs39, hs38, hs37]; rfl).trans (fm_c Fs27 (by decide))).trans (hQ4 j j1 j2)) p3 ⟨hce_p hA1.2 (by omega) (by omega), hge_y hA2.2 (by omega), hge_y hA3.2 (by omega), (show pkH U (pcS (upF (pfM s) (x : Int).toNat y) (iC s 228 (x : Int).toNat)) ≤ iC s 229 (iC s 228 (x : Int).toNat).toNat by omega), (show pkH U (pcS (upF (pfM s) (x : Int).toNat y) y) ≤ iC s 229 (y : Int).toNat by omega)⟩ hCS (by omega)) (by first | exact ⟨And.intro (by decide) (And.intro (by decide) (by decide)), oq_fd076cf3 b5.2 b5.1 hnp p2 p1.2 p1.1, And.intro (by decide) (by decide), And.intro (b7.1) (b7.2), b9.1, b9.2⟩ | omega)
set_option maxRecDepth 4000 in
theorem k_findMove3 (G : GX l s0 D tys a0 dT) {U : AirD} (I : Bd s) (jRLx : RLx s) (jMDJ : MDJ U s) (p0 : iI s 89 = 1) : CT l s0 D A dT 254 (rmN 254) [.ref (A 179)] s (fun o t => Bd t ∧ Fm [77, 75, 78, 79, 80, 81, 92, 93, 94] [202, 204, 205, 206, 207, 208, 209, 210, 211, 212, 213, 214, 215, 216, 217, 218, 219, 220, 221, 222, 223, 224, 225, 226, 227, 203, 161, 230, 233, 231, 232, 228] s t ∧ RLx t ∧ o = .inl none ∧ (BSM U (pfM s) (fun j => iC s 229 j) 1024 t ∧ SAM 228 s t ∧ iI t 89 = 1)) := by
  refine ct_of G (by decide) (Nat.le_of_ble_eq_true rfl) (fun k X E hRt hXt q => ?_)
  show WS k 0 [(0, .ref (A 179))] [] _ 0 0
  have F : Fm [77, 75, 78, 79, 80, 81, 92, 93, 94] [202, 204, 205, 206, 207, 208, 209, 210, 211, 212, 213, 214, 215, 216, 217, 218, 219, 220, 221, 222, 223, 224, 225, 226, 227, 203, 161, 230, 233, 231, 232, 228] s s := fm_rf _ _ s
  have b1 : ((-1) : Int) ≤ iI s 92 ∧ iI s 92 ≤ 127 := I.1 92
  have b2 : (0 : Int) ≤ iI s 93 ∧ iI s 93 ≤ 7 := I.1 93
  have b3 : ((-2147483648) : Int) ≤ iI s 94 ∧ iI s 94 ≤ 2147483647 := I.1 94
  have b4 : (1 : Int) ≤ iI s 89 ∧ iI s 89 ≤ 8 := I.1 89
  have L45 : ∀ (n : Nat) (t : PS) (c p iz st0 : Int), Bd t → Fm [77, 75, 78, 79, 80, 81, 92, 93, 94] [202, 204, 205, 206, 207, 208, 209, 210, 211, 212, 213, 214, 215, 216, 217, 218, 219, 220, 221, 222, 223, 224, 225, 226, 227, 203, 161, 230, 233, 231, 232, 228] s t → RLx t → MDJ U t → (CDQ (pfM s) c p st0 iz ∧ iC s 228 (c : Int).toNat ≠ -1 ∧ (BSM U (pfM s) (fun j => iC s 229 j) (8 * (c : Int).toNat + (p : Int).toNat) t ∧ SAM 228 s t ∧ FPQ U (pfM s) 8 t)) → ((0 ≤ c ∧ c ≤ 127) ∧ (0 ≤ p ∧ p ≤ 7) ∧ (iz = 0 ∨ iz = 1) ∧ 0 ≤ st0 ∧ st0 ≤ 6 ∧ iI t 89 = 1) → (6 - st0 : Int).toNat < n → (∀ (t' : PS) (iz' st0' : Int), Bd t' → Fm [77, 75, 78, 79, 80, 81, 92, 93, 94] [202, 204, 205, 206, 207, 208, 209, 210, 211, 212, 213, 214, 215, 216, 217, 218, 219, 220, 221, 222, 223, 224, 225, 226, 227, 203, 161, 230, 233, 231, 232, 228] s t' → RLx t' → MDJ U t' → (CDQ (pfM s) c p st0' iz' ∧ iC s 228 (c : Int).toNat ≠ -1 ∧ (BSM U (pfM s) (fun j => iC s 229 j) (8 * (c : Int).toNat + (p : Int).toNat) t' ∧ SAM 228 s t' ∧ FPQ U (pfM s) 8 t')) → ((0 ≤ c ∧ c ≤ 127) ∧ (0 ≤ p ∧ p ≤ 7) ∧ (iz' = 0 ∨ iz' = 1) ∧ st0' = 6 ∧ iI t' 89 = 1) → WS k 93 [(0, .ref (A 179)), (1, .int (Int32.ofInt c)), (2, .int (Int32.ofInt p)), (3, .int (Int32.ofInt iz')), (4, .int (Int32.ofInt st0'))] [] (Wd A dT t') 0 0) → WS k 45 [(0, .ref (A 179)), (1, .int (Int32.ofInt c)), (2, .int (Int32.ofInt p)), (3, .int (Int32.ofInt iz)), (4, .int (Int32.ofInt st0))] [] (Wd A dT t) 0 0 := by
    intro n
    induction n with
    | zero =>
      intro t c p iz st0 I F jjRLx jjMDJ hq hi hm kx
      exact absurd hm (Nat.not_lt_zero _)
    | succ n ih =>
      intro t c p iz st0 I F jjRLx jjMDJ hq hi hm kx
      have b1001 : ((-1) : Int) ≤ iI t 92 ∧ iI t 92 ≤ 127 := I.1 92
      have b1002 : (0 : Int) ≤ iI t 93 ∧ iI t 93 ≤ 7 := I.1 93
      have b1003 : ((-2147483648) : Int) ≤ iI t 94 ∧ iI t 94 ≤ 2147483647 := I.1 94
      have b1004 : (1 : Int) ≤ iI t 89 ∧ iI t 89 ≤ 8 := I.1 89
      refine z_load X (x := st0) (show cdA 254 45 = some (.iload 4, 2, 0, 0, 0) from rfl) (List.Mem.tail _ (List.Mem.tail _ (List.Mem.tail _ (List.Mem.tail _ (List.Mem.head _))))) ?_
      refine z_bipush X (show cdA 254 47 = some (.bipush 6, 2, 0, 0, 6) from rfl) ?_
      refine z_icmp_ge X (t := 93) (show cdA 254 49 = some (.if_icmp .ge 44, 3, 3, 0, 0) from rfl) (by decide) ⟨by first | exact oq_fa4e5087 hi.2.2.2.1 | omega, by first | exact oq_b301c3bf hi.2.2.2.2.1 | omega⟩ (by decide) (fun g1005 => ?_) (fun g1005 => ?_)
      ·
        refine WS_lv (lv := [(0, .ref (A 179)), (1, .int (Int32.ofInt c)), (2, .int (Int32.ofInt p)), (3, .int (Int32.ofInt iz)), (4, .int (Int32.ofInt st0))]) (List.forall_mem_cons.mpr ⟨(List.Mem.head _), (List.forall_mem_cons.mpr ⟨(List.Mem.tail _ (List.Mem.head _)), (List.forall_mem_cons.mpr ⟨(List.Mem.tail _ (List.Mem.tail _ (List.Mem.head _))), (List.forall_mem_cons.mpr ⟨(List.Mem.tail _ (List.Mem.tail _ (List.Mem.tail _ (List.Mem.head _)))), (List.forall_mem_cons.mpr ⟨(List.Mem.tail _ (List.Mem.tail _ (List.Mem.tail _ (List.Mem.tail _ (List.Mem.head _))))), (fun q h => absurd h List.not_mem_nil)⟩)⟩)⟩)⟩)⟩) ?_
        exact kx _ iz st0 I F jjRLx jjMDJ hq (by first | exact ⟨And.intro (hi.1.1) (hi.1.2), And.intro (hi.2.1.1) (hi.2.1.2), hi.2.2.1, oq_0dbc568f hi.2.2.2.2.1 g1005, hi.2.2.2.2.2⟩ | omega)
      ·
        refine z_load_n X (x := iz) (show cdA 254 52 = some (.iload_n 3, 1, 0, 0, 0) from rfl) (List.Mem.tail _ (List.Mem.tail _ (List.Mem.tail _ (List.Mem.head _)))) ?_
        refine z_if_ne X (t := 81) (show cdA 254 53 = some (.ifCond .ne 28, 3, 1, 0, 0) from rfl) (by decide) ⟨by first | exact oq_bde653e9 hi.2.2.1 | omega, by first | exact oq_4ad2cb8b hi.2.2.1 | omega⟩ (fun g1006 => ?_) (fun g1006 => ?_)
        ·
          refine z_const X (show cdA 254 81 = some (.iconst 1, 1, 0, 0, 0) from rfl) ?_
          refine z_goto X (t := 86) (show cdA 254 82 = some (.goto 4, 3, 0, 0, 0) from rfl) (by decide) ?_
          refine z_store_n X (lv' := [(3, .int (Int32.ofInt 1)), (0, .ref (A 179)), (1, .int (Int32.ofInt c)), (2, .int (Int32.ofInt p)), (4, .int (Int32.ofInt st0))]) (show cdA 254 86 = some (.istore_n 3, 1, 0, 0, 0) from rfl) (by decide) (fun _ h => h) ?_
          refine z_inc X (x := st0) (lv' := [(4, .int (Int32.ofInt (st0 + 1))), (3, .int (Int32.ofInt 1)), (0, .ref (A 179)), (1, .int (Int32.ofInt c)), (2, .int (Int32.ofInt p))]) (show cdA 254 87 = some (.iinc 4 1, 3, 0, 0, 0) from rfl) (by decide) (List.Mem.tail _ (List.Mem.tail _ (List.Mem.tail _ (List.Mem.tail _ (List.Mem.head _))))) (fun _ h => h) ?_
          refine z_goto X (t := 45) (show cdA 254 90 = some (.goto (-45), 3, 0, 0, 0) from rfl) (by decide) ?_
          refine WS_lv (lv := [(0, .ref (A 179)), (1, .int (Int32.ofInt c)), (2, .int (Int32.ofInt p)), (3, .int (Int32.ofInt 1)), (4, .int (Int32.ofInt (st0 + 1)))]) (List.forall_mem_cons.mpr ⟨(List.Mem.tail _ (List.Mem.tail _ (List.Mem.head _))), (List.forall_mem_cons.mpr ⟨(List.Mem.tail _ (List.Mem.tail _ (List.Mem.tail _ (List.Mem.head _)))), (List.forall_mem_cons.mpr ⟨(List.Mem.tail _ (List.Mem.tail _ (List.Mem.tail _ (List.Mem.tail _ (List.Mem.head _))))), (List.forall_mem_cons.mpr ⟨(List.Mem.tail _ (List.Mem.head _)), (List.forall_mem_cons.mpr ⟨(List.Mem.head _), (fun q h => absurd h List.not_mem_nil)⟩)⟩)⟩)⟩)⟩) ?_
          exact ih _ c p 1 (st0 + 1) I F jjRLx jjMDJ ⟨cdq_up (b := 0) hq.1 (by omega) (fun h => absurd h (by omega)) (Or.inl ⟨by omega, by omega⟩), hq.2⟩ (by first | exact ⟨And.intro (hi.1.1) (hi.1.2), And.intro (hi.2.1.1) (hi.2.1.2), Or.inr (by decide), oq_54f49eb5 hi.2.2.2.1, oq_5bf54478 g1005, hi.2.2.2.2.2⟩ | omega) (by first | exact qk_me hm (by decide) (oq_2265a080 g1005) | omega) kx
        ·
          refine z_load_n X (x := c) (show cdA 254 56 = some (.iload_n 1, 1, 0, 0, 0) from rfl) (List.Mem.tail _ (List.Mem.head _)) ?_
          refine z_load X (x := st0) (show cdA 254 57 = some (.iload 4, 2, 0, 0, 0) from rfl) (List.Mem.tail _ (List.Mem.tail _ (List.Mem.tail _ (List.Mem.tail _ (List.Mem.head _))))) ?_
          refine z_callS X (rm := rmN 190) (As := [.int (Int32.ofInt c), .int (Int32.ofInt st0)]) (st := []) (show cdA 254 59 = some (.invokestatic 223, 3, 190, 1, 0) from rfl) rfl (by rw [E.1, E.2.1, E.2.2.1]; exact k_beside2 G I (by first | exact ⟨hi.1.1, hi.1.2⟩ | omega) (by first | exact ⟨hi.2.2.2.1, oq_a4cef127 g1005⟩ | omega)) ⟨by rw [E.2.2.2]; exact (show (rmN 190).frames + 1 ≤ (rmN 254).frames by decide), by rw [E.2.2.2]; exact (show 8 + (mNL (miB 190) + 11) + (rmN 190).locals ≤ (rmN 254).locals by decide), by rw [E.2.2.2]; exact (show 0 + (rmN 190).cells ≤ (rmN 254).cells by decide), by rw [E.2.2.2]; exact (show 0 + (rmN 190).slots ≤ (rmN 254).slots by decide)⟩ (Nat.le_of_ble_eq_true rfl) (fun vv s1007 hq => ?_) (fun ee s1007 hq => ?_)
          rotate_left
          · obtain ⟨rfl, e1008, hv, hrs1007, hps1007⟩ := hq; cases hv
          obtain ⟨rfl, e1008, hv, hrs1007, hps1007⟩ := hq
          cases hv
          show WS k 62 [(0, .ref (A 179)), (1, .int (Int32.ofInt c)), (2, .int (Int32.ofInt p)), (3, .int (Int32.ofInt iz)), (4, .int (Int32.ofInt st0))] [.int (Int32.ofInt e1008)] (Wd A dT t) 0 0
          refine z_const X (show cdA 254 62 = some (.iconst (-1), 1, 0, 0, 0) from rfl) ?_
          refine z_icmp_eq X (t := 85) (show cdA 254 63 = some (.if_icmp .eq 22, 3, 0, 0, 0) from rfl) (by decide) hrs1007 (by decide) (fun g1009 => ?_) (fun g1009 => ?_)
          ·
            refine z_const X (show cdA 254 85 = some (.iconst 0, 1, 0, 0, 0) from rfl) ?_
            refine z_store_n X (lv' := [(3, .int (Int32.ofInt 0)), (0, .ref (A 179)), (1, .int (Int32.ofInt c)), (2, .int (Int32.ofInt p)), (4, .int (Int32.ofInt st0))]) (show cdA 254 86 = some (.istore_n 3, 1, 0, 0, 0) from rfl) (by decide) (fun _ h => h) ?_
            refine z_inc X (x := st0) (lv' := [(4, .int (Int32.ofInt (st0 + 1))), (3, .int (Int32.ofInt 0)), (0, .ref (A 179)), (1, .int (Int32.ofInt c)), (2, .int (Int32.ofInt p))]) (show cdA 254 87 = some (.iinc 4 1, 3, 0, 0, 0) from rfl) (by decide) (List.Mem.tail _ (List.Mem.tail _ (List.Mem.tail _ (List.Mem.tail _ (List.Mem.head _))))) (fun _ h => h) ?_
            refine z_goto X (t := 45) (show cdA 254 90 = some (.goto (-45), 3, 0, 0, 0) from rfl) (by decide) ?_
            refine WS_lv (lv := [(0, .ref (A 179)), (1, .int (Int32.ofInt c)), (2, .int (Int32.ofInt p)), (3, .int (Int32.ofInt 0)), (4, .int (Int32.ofInt (st0 + 1)))]) (List.forall_mem_cons.mpr ⟨(List.Mem.tail _ (List.Mem.tail _ (List.Mem.head _))), (List.forall_mem_cons.mpr ⟨(List.Mem.tail _ (List.Mem.tail _ (List.Mem.tail _ (List.Mem.head _)))), (List.forall_mem_cons.mpr ⟨(List.Mem.tail _ (List.Mem.tail _ (List.Mem.tail _ (List.Mem.tail _ (List.Mem.head _))))), (List.forall_mem_cons.mpr ⟨(List.Mem.tail _ (List.Mem.head _)), (List.forall_mem_cons.mpr ⟨(List.Mem.head _), (fun q h => absurd h List.not_mem_nil)⟩)⟩)⟩)⟩)⟩) ?_
            exact ih _ c p 0 (st0 + 1) I F jjRLx jjMDJ ⟨cdq_up (b := e1008) hq.1 (by omega) (fun _ => hps1007.1) (by have z := (hq.2.2.2.1 (e1008 : Int).toNat : iC t 228 (e1008 : Int).toNat = iC s 228 (e1008 : Int).toNat); show _ ∨ (_ ∧ _ ∧ iC s 228 (e1008 : Int).toNat = p ∧ _) ∨ (_ ∧ (_ ∨ iC s 228 (e1008 : Int).toNat ≠ p) ∧ _); omega), hq.2⟩ (by first | exact ⟨And.intro (hi.1.1) (hi.1.2), And.intro (hi.2.1.1) (hi.2.1.2), Or.inl (by decide), oq_54f49eb5 hi.2.2.2.1, oq_5bf54478 g1005, hi.2.2.2.2.2⟩ | omega) (by first | exact qk_me hm (by decide) (oq_2265a080 g1005) | omega) kx
          ·
            refine z_aload_n X (x := A 179) (show cdA 254 66 = some (.aload_n 0, 1, 0, 0, 0) from rfl) (List.Mem.head _) ?_
            refine s_getR X 179 (show cdA 254 67 = some (.getfield 70, 3, 12, 35, 0) from rfl) (by decide) rfl rfl ?_
            refine z_load_n X (x := c) (show cdA 254 70 = some (.iload_n 1, 1, 0, 0, 0) from rfl) (List.Mem.tail _ (List.Mem.head _)) ?_
            refine z_load X (x := st0) (show cdA 254 71 = some (.iload 4, 2, 0, 0, 0) from rfl) (List.Mem.tail _ (List.Mem.tail _ (List.Mem.tail _ (List.Mem.tail _ (List.Mem.head _))))) ?_
            refine z_callS X (rm := rmN 190) (As := [.int (Int32.ofInt c), .int (Int32.ofInt st0)]) (st := [.ref (A 256)]) (show cdA 254 73 = some (.invokestatic 223, 3, 190, 1, 0) from rfl) rfl (by rw [E.1, E.2.1, E.2.2.1]; exact k_beside2 G I (by first | exact ⟨hi.1.1, hi.1.2⟩ | omega) (by first | exact ⟨hi.2.2.2.1, oq_a4cef127 g1005⟩ | omega)) ⟨by rw [E.2.2.2]; exact (show (rmN 190).frames + 1 ≤ (rmN 254).frames by decide), by rw [E.2.2.2]; exact (show 8 + (mNL (miB 190) + 11) + (rmN 190).locals ≤ (rmN 254).locals by decide), by rw [E.2.2.2]; exact (show 0 + (rmN 190).cells ≤ (rmN 254).cells by decide), by rw [E.2.2.2]; exact (show 0 + (rmN 190).slots ≤ (rmN 254).slots by decide)⟩ (Nat.le_of_ble_eq_true rfl) (fun vv s1010 hq => ?_) (fun ee s1010 hq => ?_)
            rotate_left
            · obtain ⟨rfl, e1011, hv, hrs1010, hps1010⟩ := hq; cases hv
            obtain ⟨rfl, e1011, hv, hrs1010, hps1010⟩ := hq
            cases hv
            show WS k 76 [(0, .ref (A 179)), (1, .int (Int32.ofInt c)), (2, .int (Int32.ofInt p)), (3, .int (Int32.ofInt iz)), (4, .int (Int32.ofInt st0))] [.int (Int32.ofInt e1011), .ref (A 256)] (Wd A dT t) 0 0
            have hbb : e1011 = e1008 := hps1010.1.trans hps1007.1.symm
            refine z_ald X 256 (show cdA 254 76 = some (.iaload, 1, 0, 0, 0) from rfl) (by decide) rfl (by first | exact oq_212cfe9d hbb g1009 hps1007.2.1 | omega) (show e1011 < 128 by first | exact oq_31b2bf10 hps1010.2.2 | omega) (by decide) ?_
            have b1012 : ((-1) : Int) ≤ iC t 228 (e1011).toNat ∧ iC t 228 (e1011).toNat ≤ 7 := I.2 228 _ (show (e1011).toNat < 128 by first | exact oq_c7f4e9c1 hps1010.2.2 | omega)
            refine z_load_n X (x := p) (show cdA 254 77 = some (.iload_n 2, 1, 0, 0, 0) from rfl) (List.Mem.tail _ (List.Mem.tail _ (List.Mem.head _))) ?_
            refine z_icmp_ne X (t := 85) (show cdA 254 78 = some (.if_icmp .ne 7, 3, 1, 0, 0) from rfl) (by decide) (rng_to _) ⟨by first | exact oq_fa4e5087 hi.2.1.1 | omega, by first | exact oq_0e78ca7d hi.2.1.2 | omega⟩ (fun g1013 => ?_) (fun g1013 => ?_)
            ·
              refine z_const X (show cdA 254 85 = some (.iconst 0, 1, 0, 0, 0) from rfl) ?_
              refine z_store_n X (lv' := [(3, .int (Int32.ofInt 0)), (0, .ref (A 179)), (1, .int (Int32.ofInt c)), (2, .int (Int32.ofInt p)), (4, .int (Int32.ofInt st0))]) (show cdA 254 86 = some (.istore_n 3, 1, 0, 0, 0) from rfl) (by decide) (fun _ h => h) ?_
              refine z_inc X (x := st0) (lv' := [(4, .int (Int32.ofInt (st0 + 1))), (3, .int (Int32.ofInt 0)), (0, .ref (A 179)), (1, .int (Int32.ofInt c)), (2, .int (Int32.ofInt p))]) (show cdA 254 87 = some (.iinc 4 1, 3, 0, 0, 0) from rfl) (by decide) (List.Mem.tail _ (List.Mem.tail _ (List.Mem.tail _ (List.Mem.tail _ (List.Mem.head _))))) (fun _ h => h) ?_
              refine z_goto X (t := 45) (show cdA 254 90 = some (.goto (-45), 3, 0, 0, 0) from rfl) (by decide) ?_
              refine WS_lv (lv := [(0, .ref (A 179)), (1, .int (Int32.ofInt c)), (2, .int (Int32.ofInt p)), (3, .int (Int32.ofInt 0)), (4, .int (Int32.ofInt (st0 + 1)))]) (List.forall_mem_cons.mpr ⟨(List.Mem.tail _ (List.Mem.tail _ (List.Mem.head _))), (List.forall_mem_cons.mpr ⟨(List.Mem.tail _ (List.Mem.tail _ (List.Mem.tail _ (List.Mem.head _)))), (List.forall_mem_cons.mpr ⟨(List.Mem.tail _ (List.Mem.tail _ (List.Mem.tail _ (List.Mem.tail _ (List.Mem.head _))))), (List.forall_mem_cons.mpr ⟨(List.Mem.tail _ (List.Mem.head _)), (List.forall_mem_cons.mpr ⟨(List.Mem.head _), (fun q h => absurd h List.not_mem_nil)⟩)⟩)⟩)⟩)⟩) ?_
              exact ih _ c p 0 (st0 + 1) I F jjRLx jjMDJ ⟨cdq_up (b := e1008) hq.1 (by omega) (fun _ => hps1007.1) (by have z := (by rw [hbb]; exact hq.2.2.2.1 _ : iC t 228 (e1011 : Int).toNat = iC s 228 (e1008 : Int).toNat); show _ ∨ (_ ∧ _ ∧ iC s 228 (e1008 : Int).toNat = p ∧ _) ∨ (_ ∧ (_ ∨ iC s 228 (e1008 : Int).toNat ≠ p) ∧ _); omega), hq.2⟩ (by first | exact ⟨And.intro (hi.1.1) (hi.1.2), And.intro (hi.2.1.1) (hi.2.1.2), Or.inl (by decide), oq_54f49eb5 hi.2.2.2.1, oq_5bf54478 g1005, hi.2.2.2.2.2⟩ | omega) (by first | exact qk_me hm (by decide) (oq_2265a080 g1005) | omega) kx
            ·
              refine z_const X (show cdA 254 81 = some (.iconst 1, 1, 0, 0, 0) from rfl) ?_
              refine z_goto X (t := 86) (show cdA 254 82 = some (.goto 4, 3, 0, 0, 0) from rfl) (by decide) ?_
              refine z_store_n X (lv' := [(3, .int (Int32.ofInt 1)), (0, .ref (A 179)), (1, .int (Int32.ofInt c)), (2, .int (Int32.ofInt p)), (4, .int (Int32.ofInt st0))]) (show cdA 254 86 = some (.istore_n 3, 1, 0, 0, 0) from rfl) (by decide) (fun _ h => h) ?_
              refine z_inc X (x := st0) (lv' := [(4, .int (Int32.ofInt (st0 + 1))), (3, .int (Int32.ofInt 1)), (0, .ref (A 179)), (1, .int (Int32.ofInt c)), (2, .int (Int32.ofInt p))]) (show cdA 254 87 = some (.iinc 4 1, 3, 0, 0, 0) from rfl) (by decide) (List.Mem.tail _ (List.Mem.tail _ (List.Mem.tail _ (List.Mem.tail _ (List.Mem.head _))))) (fun _ h => h) ?_
              refine z_goto X (t := 45) (show cdA 254 90 = some (.goto (-45), 3, 0, 0, 0) from rfl) (by decide) ?_
              refine WS_lv (lv := [(0, .ref (A 179)), (1, .int (Int32.ofInt c)), (2, .int (Int32.ofInt p)), (3, .int (Int32.ofInt 1)), (4, .int (Int32.ofInt (st0 + 1)))]) (List.forall_mem_cons.mpr ⟨(List.Mem.tail _ (List.Mem.tail _ (List.Mem.head _))), (List.forall_mem_cons.mpr ⟨(List.Mem.tail _ (List.Mem.tail _ (List.Mem.tail _ (List.Mem.head _)))), (List.forall_mem_cons.mpr ⟨(List.Mem.tail _ (List.Mem.tail _ (List.Mem.tail _ (List.Mem.tail _ (List.Mem.head _))))), (List.forall_mem_cons.mpr ⟨(List.Mem.tail _ (List.Mem.head _)), (List.forall_mem_cons.mpr ⟨(List.Mem.head _), (fun q h => absurd h List.not_mem_nil)⟩)⟩)⟩)⟩)⟩) ?_
              exact ih _ c p 1 (st0 + 1) I F jjRLx jjMDJ ⟨cdq_up (b := e1008) hq.1 (by omega) (fun _ => hps1007.1) (by have z := (by rw [hbb]; exact hq.2.2.2.1 _ : iC t 228 (e1011 : Int).toNat = iC s 228 (e1008 : Int).toNat); show _ ∨ (_ ∧ _ ∧ iC s 228 (e1008 : Int).toNat = p ∧ _) ∨ (_ ∧ (_ ∨ iC s 228 (e1008 : Int).toNat ≠ p) ∧ _); omega), hq.2⟩ (by first | exact ⟨And.intro (hi.1.1) (hi.1.2), And.intro (hi.2.1.1) (hi.2.1.2), Or.inr (by decide), oq_54f49eb5 hi.2.2.2.1, oq_5bf54478 g1005, hi.2.2.2.2.2⟩ | omega) (by first | exact qk_me hm (by decide) (oq_2265a080 g1005) | omega) kx
  have L24 : ∀ (n : Nat) (t : PS) (c p : Int), Bd t → Fm [77, 75, 78, 79, 80, 81, 92, 93, 94] [202, 204, 205, 206, 207, 208, 209, 210, 211, 212, 213, 214, 215, 216, 217, 218, 219, 220, 221, 222, 223, 224, 225, 226, 227, 203, 161, 230, 233, 231, 232, 228] s t → RLx t → MDJ U t → (BSM U (pfM s) (fun j => iC s 229 j) (8 * (c : Int).toNat + (p : Int).toNat) t ∧ SAM 228 s t ∧ FPQ U (pfM s) 8 t) → ((0 ≤ c ∧ c ≤ 127) ∧ 0 ≤ p ∧ p ≤ 8 ∧ iI t 89 = 1) → (8 - p : Int).toNat < n → (∀ (t' : PS) (p' : Int), Bd t' → Fm [77, 75, 78, 79, 80, 81, 92, 93, 94] [202, 204, 205, 206, 207, 208, 209, 210, 211, 212, 213, 214, 215, 216, 217, 218, 219, 220, 221, 222, 223, 224, 225, 226, 227, 203, 161, 230, 233, 231, 232, 228] s t' → RLx t' → MDJ U t' → (BSM U (pfM s) (fun j => iC s 229 j) (8 * (c : Int).toNat + 8) t' ∧ SAM 228 s t' ∧ FPQ U (pfM s) 8 t') → ((0 ≤ c ∧ c ≤ 127) ∧ iI t' 89 = 1) → WS k 119 [(0, .ref (A 179)), (1, .int (Int32.ofInt c)), (2, .int (Int32.ofInt p'))] [] (Wd A dT t') 0 0) → WS k 24 [(0, .ref (A 179)), (1, .int (Int32.ofInt c)), (2, .int (Int32.ofInt p))] [] (Wd A dT t) 0 0 := by
    intro n
    induction n with
    | zero =>
      intro t c p I F jjRLx jjMDJ hq hi hm kx
      exact absurd hm (Nat.not_lt_zero _)
    | succ n ih =>
      intro t c p I F jjRLx jjMDJ hq hi hm kx
      have b2001 : ((-1) : Int) ≤ iI t 92 ∧ iI t 92 ≤ 127 := I.1 92
      have b2002 : (0 : Int) ≤ iI t 93 ∧ iI t 93 ≤ 7 := I.1 93
      have b2003 : ((-2147483648) : Int) ≤ iI t 94 ∧ iI t 94 ≤ 2147483647 := I.1 94
      have b2004 : (1 : Int) ≤ iI t 89 ∧ iI t 89 ≤ 8 := I.1 89
      refine z_load_n X (x := p) (show cdA 254 24 = some (.iload_n 2, 1, 0, 0, 0) from rfl) (List.Mem.tail _ (List.Mem.tail _ (List.Mem.head _))) ?_
      refine z_bipush X (show cdA 254 25 = some (.bipush 8, 2, 0, 0, 8) from rfl) ?_
      refine z_icmp_ge X (t := 119) (show cdA 254 27 = some (.if_icmp .ge 92, 3, 3, 0, 0) from rfl) (by decide) ⟨by first | exact oq_fa4e5087 hi.2.1 | omega, by first | exact oq_d3f5d874 hi.2.2.1 | omega⟩ (by decide) (fun g2005 => ?_) (fun g2005 => ?_)
      ·
        refine WS_lv (lv := [(0, .ref (A 179)), (1, .int (Int32.ofInt c)), (2, .int (Int32.ofInt p))]) (List.forall_mem_cons.mpr ⟨(List.Mem.head _), (List.forall_mem_cons.mpr ⟨(List.Mem.tail _ (List.Mem.head _)), (List.forall_mem_cons.mpr ⟨(List.Mem.tail _ (List.Mem.tail _ (List.Mem.head _))), (fun q h => absurd h List.not_mem_nil)⟩)⟩)⟩) ?_
        exact kx _ p I F jjRLx jjMDJ ⟨bsm_c hq.1 rfl rfl (by omega), hq.2⟩ (by first | exact ⟨And.intro (hi.1.1) (hi.1.2), hi.2.2.2⟩ | omega)
      ·
        refine z_aload_n X (x := A 179) (show cdA 254 30 = some (.aload_n 0, 1, 0, 0, 0) from rfl) (List.Mem.head _) ?_
        refine s_getR X 179 (show cdA 254 31 = some (.getfield 70, 3, 12, 35, 0) from rfl) (by decide) rfl rfl ?_
        refine z_load_n X (x := c) (show cdA 254 34 = some (.iload_n 1, 1, 0, 0, 0) from rfl) (List.Mem.tail _ (List.Mem.head _)) ?_
        refine z_ald X 256 (show cdA 254 35 = some (.iaload, 1, 0, 0, 0) from rfl) (by decide) rfl (by first | exact hi.1.1 | omega) (show c < 128 by first | exact oq_31b2bf10 hi.1.2 | omega) (by decide) ?_
        have b2006 : ((-1) : Int) ≤ iC t 228 (c).toNat ∧ iC t 228 (c).toNat ≤ 7 := I.2 228 _ (show (c).toNat < 128 by first | exact oq_c7f4e9c1 hi.1.2 | omega)
        refine z_const X (show cdA 254 36 = some (.iconst (-1), 1, 0, 0, 0) from rfl) ?_
        refine z_icmp_eq X (t := 119) (show cdA 254 37 = some (.if_icmp .eq 82, 3, 0, 0, 0) from rfl) (by decide) (rng_to _) (by decide) (fun g2007 => ?_) (fun g2007 => ?_)
        ·
          refine WS_lv (lv := [(0, .ref (A 179)), (1, .int (Int32.ofInt c)), (2, .int (Int32.ofInt p))]) (List.forall_mem_cons.mpr ⟨(List.Mem.head _), (List.forall_mem_cons.mpr ⟨(List.Mem.tail _ (List.Mem.head _)), (List.forall_mem_cons.mpr ⟨(List.Mem.tail _ (List.Mem.tail _ (List.Mem.head _))), (fun q h => absurd h List.not_mem_nil)⟩)⟩)⟩) ?_
          exact kx _ p I F jjRLx jjMDJ ⟨bsm_c (bsm_sh hq.1 (by have z := (hq.2.1 (c : Int).toNat : iC t 228 (c : Int).toNat = iC s 228 (c : Int).toNat); show iC s 228 (c : Int).toNat = -1; omega) (8 - (p : Int).toNat) (by omega)) rfl rfl (by omega), hq.2⟩ (by first | exact ⟨And.intro (hi.1.1) (hi.1.2), hi.2.2.2⟩ | omega)
        ·
          refine z_const X (show cdA 254 40 = some (.iconst 0, 1, 0, 0, 0) from rfl) ?_
          refine z_store_n X (lv' := [(3, .int (Int32.ofInt 0)), (0, .ref (A 179)), (1, .int (Int32.ofInt c)), (2, .int (Int32.ofInt p))]) (show cdA 254 41 = some (.istore_n 3, 1, 0, 0, 0) from rfl) (by decide) (fun _ h => h) ?_
          refine z_const X (show cdA 254 42 = some (.iconst 0, 1, 0, 0, 0) from rfl) ?_
          refine z_store X (lv' := [(4, .int (Int32.ofInt 0)), (3, .int (Int32.ofInt 0)), (0, .ref (A 179)), (1, .int (Int32.ofInt c)), (2, .int (Int32.ofInt p))]) (show cdA 254 43 = some (.istore 4, 2, 0, 0, 0) from rfl) (by decide) (fun _ h => h) ?_
          refine WS_lv (lv := [(0, .ref (A 179)), (1, .int (Int32.ofInt c)), (2, .int (Int32.ofInt p)), (3, .int (Int32.ofInt 0)), (4, .int (Int32.ofInt 0))]) (List.forall_mem_cons.mpr ⟨(List.Mem.tail _ (List.Mem.tail _ (List.Mem.head _))), (List.forall_mem_cons.mpr ⟨(List.Mem.tail _ (List.Mem.tail _ (List.Mem.tail _ (List.Mem.head _)))), (List.forall_mem_cons.mpr ⟨(List.Mem.tail _ (List.Mem.tail _ (List.Mem.tail _ (List.Mem.tail _ (List.Mem.head _))))), (List.forall_mem_cons.mpr ⟨(List.Mem.tail _ (List.Mem.head _)), (List.forall_mem_cons.mpr ⟨(List.Mem.head _), (fun q h => absurd h List.not_mem_nil)⟩)⟩)⟩)⟩)⟩) ?_
          refine L45 ((6 - 0 : Int).toNat + 1) t c p 0 0 I F jjRLx jjMDJ ⟨cdq_0, by have z := (hq.2.1 (c : Int).toNat : iC t 228 (c : Int).toNat = iC s 228 (c : Int).toNat); omega, hq⟩ (by first | exact ⟨And.intro (hi.1.1) (hi.1.2), And.intro (hi.2.1) (oq_78c639ed g2005), Or.inl (by decide), by decide, by decide, hi.2.2.2⟩ | omega) (Nat.lt_succ_self _) ?_
          intro s2008 x2009 x2010 Is2008 Fs2008 JRLx_s2008 JMDJ_s2008 Qs2008 hs2008
          have b2011 : ((-1) : Int) ≤ iI s2008 92 ∧ iI s2008 92 ≤ 127 := Is2008.1 92
          have b2012 : (0 : Int) ≤ iI s2008 93 ∧ iI s2008 93 ≤ 7 := Is2008.1 93
          have b2013 : ((-2147483648) : Int) ≤ iI s2008 94 ∧ iI s2008 94 ≤ 2147483647 := Is2008.1 94
          have b2014 : (1 : Int) ≤ iI s2008 89 ∧ iI s2008 89 ≤ 8 := Is2008.1 89
          have hCD := cdq_c (by have z := Qs2008.1; rw [show x2010 = 6 by omega] at z; exact z) (by omega) Qs2008.2.1
          have hpc : iC s2008 228 (c : Int).toNat = iC s 228 (c : Int).toNat := Qs2008.2.2.2.1 _
          refine z_load_n X (x := x2009) (show cdA 254 93 = some (.iload_n 3, 1, 0, 0, 0) from rfl) (List.Mem.tail _ (List.Mem.tail _ (List.Mem.tail _ (List.Mem.head _)))) ?_
          refine z_if_eq X (t := 113) (show cdA 254 94 = some (.ifCond .eq 19, 3, 0, 0, 0) from rfl) (by decide) ⟨by first | exact oq_bde653e9 hs2008.2.2.1 | omega, by first | exact oq_4ad2cb8b hs2008.2.2.1 | omega⟩ (fun g2015 => ?_) (fun g2015 => ?_)
          ·
            refine z_inc X (x := p) (lv' := [(2, .int (Int32.ofInt (p + 1))), (0, .ref (A 179)), (1, .int (Int32.ofInt c)), (3, .int (Int32.ofInt x2009)), (4, .int (Int32.ofInt x2010))]) (show cdA 254 113 = some (.iinc 2 1, 3, 0, 0, 0) from rfl) (by decide) (List.Mem.tail _ (List.Mem.tail _ (List.Mem.head _))) (fun _ h => h) ?_
            refine z_goto X (t := 24) (show cdA 254 116 = some (.goto (-92), 3, 0, 0, 0) from rfl) (by decide) ?_
            refine WS_lv (lv := [(0, .ref (A 179)), (1, .int (Int32.ofInt c)), (2, .int (Int32.ofInt (p + 1)))]) (List.forall_mem_cons.mpr ⟨(List.Mem.tail _ (List.Mem.head _)), (List.forall_mem_cons.mpr ⟨(List.Mem.tail _ (List.Mem.tail _ (List.Mem.head _))), (List.forall_mem_cons.mpr ⟨(List.Mem.head _), (fun q h => absurd h List.not_mem_nil)⟩)⟩)⟩) ?_
            exact ih _ c (p + 1) Is2008 Fs2008 JRLx_s2008 JMDJ_s2008 ⟨by rw [show 8 * (c : Int).toNat + (p + 1 : Int).toNat = 8 * (c : Int).toNat + (p : Int).toNat + 1 by omega]; exact bsm_no Qs2008.2.2.1 (by omega) (by rw [show (((p : Int).toNat : Nat) : Int) = p by omega]; exact fun h => by have z := hCD.mp h.1; have z2 := z.2; replace z2 : p ≠ iC s 228 (c : Int).toNat := z2; omega), Qs2008.2.2.2⟩ (by first | exact ⟨And.intro (hs2008.1.1) (hs2008.1.2), oq_54f49eb5 hs2008.2.1.1, oq_18969492 hs2008.2.1.2, hs2008.2.2.2.2⟩ | omega) (by first | exact qk_me hm (by decide) (oq_6bd25173 hs2008.2.1.2) | omega) kx
          ·
            refine z_load_n X (x := p) (show cdA 254 97 = some (.iload_n 2, 1, 0, 0, 0) from rfl) (List.Mem.tail _ (List.Mem.tail _ (List.Mem.head _))) ?_
            refine z_aload_n X (x := A 179) (show cdA 254 98 = some (.aload_n 0, 1, 0, 0, 0) from rfl) (List.Mem.head _) ?_
            refine s_getR X 179 (show cdA 254 99 = some (.getfield 70, 3, 12, 35, 0) from rfl) (by decide) rfl rfl ?_
            refine z_load_n X (x := c) (show cdA 254 102 = some (.iload_n 1, 1, 0, 0, 0) from rfl) (List.Mem.tail _ (List.Mem.head _)) ?_
            refine z_ald X 256 (show cdA 254 103 = some (.iaload, 1, 0, 0, 0) from rfl) (by decide) rfl (by first | exact hs2008.1.1 | omega) (show c < 128 by first | exact oq_31b2bf10 hs2008.1.2 | omega) (by decide) ?_
            have b2016 : ((-1) : Int) ≤ iC s2008 228 (c).toNat ∧ iC s2008 228 (c).toNat ≤ 7 := Is2008.2 228 _ (show (c).toNat < 128 by first | exact oq_c7f4e9c1 hs2008.1.2 | omega)
            refine z_icmp_eq X (t := 113) (show cdA 254 104 = some (.if_icmp .eq 9, 3, 0, 0, 0) from rfl) (by decide) ⟨by first | exact oq_fa4e5087 hs2008.2.1.1 | omega, by first | exact oq_0e78ca7d hs2008.2.1.2 | omega⟩ (rng_to _) (fun g2017 => ?_) (fun g2017 => ?_)
            ·
              refine z_inc X (x := p) (lv' := [(2, .int (Int32.ofInt (p + 1))), (0, .ref (A 179)), (1, .int (Int32.ofInt c)), (3, .int (Int32.ofInt x2009)), (4, .int (Int32.ofInt x2010))]) (show cdA 254 113 = some (.iinc 2 1, 3, 0, 0, 0) from rfl) (by decide) (List.Mem.tail _ (List.Mem.tail _ (List.Mem.head _))) (fun _ h => h) ?_
              refine z_goto X (t := 24) (show cdA 254 116 = some (.goto (-92), 3, 0, 0, 0) from rfl) (by decide) ?_
              refine WS_lv (lv := [(0, .ref (A 179)), (1, .int (Int32.ofInt c)), (2, .int (Int32.ofInt (p + 1)))]) (List.forall_mem_cons.mpr ⟨(List.Mem.tail _ (List.Mem.head _)), (List.forall_mem_cons.mpr ⟨(List.Mem.tail _ (List.Mem.tail _ (List.Mem.head _))), (List.forall_mem_cons.mpr ⟨(List.Mem.head _), (fun q h => absurd h List.not_mem_nil)⟩)⟩)⟩) ?_
              exact ih _ c (p + 1) Is2008 Fs2008 JRLx_s2008 JMDJ_s2008 ⟨by rw [show 8 * (c : Int).toNat + (p + 1 : Int).toNat = 8 * (c : Int).toNat + (p : Int).toNat + 1 by omega]; exact bsm_no Qs2008.2.2.1 (by omega) (by rw [show (((p : Int).toNat : Nat) : Int) = p by omega]; exact fun h => by have z := hCD.mp h.1; have z2 := z.2; replace z2 : p ≠ iC s 228 (c : Int).toNat := z2; omega), Qs2008.2.2.2⟩ (by first | exact ⟨And.intro (hs2008.1.1) (hs2008.1.2), oq_54f49eb5 hs2008.2.1.1, oq_18969492 hs2008.2.1.2, hs2008.2.2.2.2⟩ | omega) (by first | exact qk_me hm (by decide) (oq_6bd25173 hs2008.2.1.2) | omega) kx
            ·
              refine z_aload_n X (x := A 179) (show cdA 254 107 = some (.aload_n 0, 1, 0, 0, 0) from rfl) (List.Mem.head _) ?_
              refine z_load_n X (x := c) (show cdA 254 108 = some (.iload_n 1, 1, 0, 0, 0) from rfl) (List.Mem.tail _ (List.Mem.head _)) ?_
              refine z_load_n X (x := p) (show cdA 254 109 = some (.iload_n 2, 1, 0, 0, 0) from rfl) (List.Mem.tail _ (List.Mem.tail _ (List.Mem.head _))) ?_
              refine z_callV X 179 (rm := rmN 255) (As := [.int (Int32.ofInt c), .int (Int32.ofInt p)]) (st := []) (show cdA 254 110 = some (.invokevirtual 375, 3, 255, 0, 0) from rfl) rfl (by decide) rfl (by rw [E.1, E.2.1, E.2.2.1]; exact k_tries3 G Is2008 JRLx_s2008 JMDJ_s2008 (by first | exact ⟨hs2008.1.1, hs2008.1.2⟩ | omega) (by first | exact ⟨hs2008.2.1.1, hs2008.2.1.2⟩ | omega) (by omega) (by rw [← (show pfM s = pfM s2008 from (funext Qs2008.2.2.2.1).symm)]; exact hCD.mpr ⟨by omega, by show p ≠ iC s 228 (c : Int).toNat; omega⟩) (fpq_s Qs2008.2.2.2.2 (show pfM s = pfM s2008 from (funext Qs2008.2.2.2.1).symm) sam_rf) (bsm_c Qs2008.2.2.1 (show pfM s = pfM s2008 from (funext Qs2008.2.2.2.1).symm) (show (fun j => iC s 229 j) = (fun j => iC s2008 229 j) from (funext (fun j => fm_c Fs2008 (by decide))).symm) rfl) (by first | exact hs2008.2.2.2.2 | omega)) ⟨by rw [E.2.2.2]; exact (show (rmN 255).frames + 1 ≤ (rmN 254).frames by decide), by rw [E.2.2.2]; exact (show 8 + (mNL (miB 255) + 11) + (rmN 255).locals ≤ (rmN 254).locals by decide), by rw [E.2.2.2]; exact (show 0 + (rmN 255).cells ≤ (rmN 254).cells by decide), by rw [E.2.2.2]; exact (show 0 + (rmN 255).slots ≤ (rmN 254).slots by decide)⟩ (Nat.le_of_ble_eq_true rfl) (fun vv s2018 hq => ?_) (fun ee s2018 hq => ?_)
              rotate_left
              · obtain ⟨Is2018, Fs2018, JRLx_s2018, hv, hps2018⟩ := hq; cases hv
              obtain ⟨Is2018, Fs2018, JRLx_s2018, hv, hps2018⟩ := hq
              cases hv
              have Gs2018 := fm_ts Fs2008 Fs2018 (by decide) (by decide)
              have JRLx_s2018 : RLx s2018 := RLx_fm Fs2018 (by decide) JRLx_s2008
              have JMDJ_s2018 : MDJ U s2018 := MDJ_fm Fs2018 (by decide) JMDJ_s2008
              have b2020 : ((-1) : Int) ≤ iI s2018 92 ∧ iI s2018 92 ≤ 127 := Is2018.1 92
              have b2021 : (0 : Int) ≤ iI s2018 93 ∧ iI s2018 93 ≤ 7 := Is2018.1 93
              have b2022 : ((-2147483648) : Int) ≤ iI s2018 94 ∧ iI s2018 94 ≤ 2147483647 := Is2018.1 94
              have ws2018_89 : iI s2018 89 = iI s2008 89 := fm_i Fs2018 (by decide)
              show WS k 113 [(0, .ref (A 179)), (1, .int (Int32.ofInt c)), (2, .int (Int32.ofInt p)), (3, .int (Int32.ofInt x2009)), (4, .int (Int32.ofInt x2010))] [] (Wd A dT s2018) 0 0
              refine z_inc X (x := p) (lv' := [(2, .int (Int32.ofInt (p + 1))), (0, .ref (A 179)), (1, .int (Int32.ofInt c)), (3, .int (Int32.ofInt x2009)), (4, .int (Int32.ofInt x2010))]) (show cdA 254 113 = some (.iinc 2 1, 3, 0, 0, 0) from rfl) (by decide) (List.Mem.tail _ (List.Mem.tail _ (List.Mem.head _))) (fun _ h => h) ?_
              refine z_goto X (t := 24) (show cdA 254 116 = some (.goto (-92), 3, 0, 0, 0) from rfl) (by decide) ?_
              refine WS_lv (lv := [(0, .ref (A 179)), (1, .int (Int32.ofInt c)), (2, .int (Int32.ofInt (p + 1)))]) (List.forall_mem_cons.mpr ⟨(List.Mem.tail _ (List.Mem.head _)), (List.forall_mem_cons.mpr ⟨(List.Mem.tail _ (List.Mem.tail _ (List.Mem.head _))), (List.forall_mem_cons.mpr ⟨(List.Mem.head _), (fun q h => absurd h List.not_mem_nil)⟩)⟩)⟩) ?_
              exact ih _ c (p + 1) Is2018 Gs2018 JRLx_s2018 JMDJ_s2018 ⟨by rw [show 8 * (c : Int).toNat + (p + 1 : Int).toNat = 8 * (c : Int).toNat + (p : Int).toNat + 1 by omega]; exact bsm_c hps2018.2.2 (show pfM s2008 = pfM s from funext Qs2008.2.2.2.1) (show (fun j => iC s2008 229 j) = (fun j => iC s 229 j) from funext (fun j => fm_c Fs2008 (by decide))) rfl, sam_ts Qs2008.2.2.2.1 hps2018.1, fpq_s Qs2008.2.2.2.2 rfl hps2018.2.1⟩ (by first | exact ⟨And.intro (hs2008.1.1) (hs2008.1.2), oq_54f49eb5 hs2008.2.1.1, oq_18969492 hs2008.2.1.2, oq_b44a1c7f ws2018_89 hs2008.2.2.2.2 b2014.1⟩ | omega) (by first | exact qk_me hm (by decide) (oq_6bd25173 hs2008.2.1.2) | omega) kx
  have L15 : ∀ (n : Nat) (t : PS) (c : Int), Bd t → Fm [77, 75, 78, 79, 80, 81, 92, 93, 94] [202, 204, 205, 206, 207, 208, 209, 210, 211, 212, 213, 214, 215, 216, 217, 218, 219, 220, 221, 222, 223, 224, 225, 226, 227, 203, 161, 230, 233, 231, 232, 228] s t → RLx t → MDJ U t → (BSM U (pfM s) (fun j => iC s 229 j) (8 * (c : Int).toNat) t ∧ SAM 228 s t ∧ FPQ U (pfM s) 8 t) → (0 ≤ c ∧ c ≤ 128 ∧ iI t 89 = 1) → (128 - c : Int).toNat < n → (∀ (t' : PS) (c' : Int), Bd t' → Fm [77, 75, 78, 79, 80, 81, 92, 93, 94] [202, 204, 205, 206, 207, 208, 209, 210, 211, 212, 213, 214, 215, 216, 217, 218, 219, 220, 221, 222, 223, 224, 225, 226, 227, 203, 161, 230, 233, 231, 232, 228] s t' → RLx t' → MDJ U t' → (BSM U (pfM s) (fun j => iC s 229 j) (8 * (c' : Int).toNat) t' ∧ SAM 228 s t' ∧ FPQ U (pfM s) 8 t') → (c' = 128 ∧ iI t' 89 = 1) → WS k 125 [(0, .ref (A 179)), (1, .int (Int32.ofInt c'))] [] (Wd A dT t') 0 0) → WS k 15 [(0, .ref (A 179)), (1, .int (Int32.ofInt c))] [] (Wd A dT t) 0 0 := by
    intro n
    induction n with
    | zero =>
      intro t c I F jjRLx jjMDJ hq hi hm kx
      exact absurd hm (Nat.not_lt_zero _)
    | succ n ih =>
      intro t c I F jjRLx jjMDJ hq hi hm kx
      have b3001 : ((-1) : Int) ≤ iI t 92 ∧ iI t 92 ≤ 127 := I.1 92
      have b3002 : (0 : Int) ≤ iI t 93 ∧ iI t 93 ≤ 7 := I.1 93
      have b3003 : ((-2147483648) : Int) ≤ iI t 94 ∧ iI t 94 ≤ 2147483647 := I.1 94
      have b3004 : (1 : Int) ≤ iI t 89 ∧ iI t 89 ≤ 8 := I.1 89
      refine z_load_n X (x := c) (show cdA 254 15 = some (.iload_n 1, 1, 0, 0, 0) from rfl) (List.Mem.tail _ (List.Mem.head _)) ?_
      refine z_sipush X (show cdA 254 16 = some (.sipush 128, 3, 0, 0, 128) from rfl) ?_
      refine z_icmp_ge X (t := 125) (show cdA 254 19 = some (.if_icmp .ge 106, 3, 3, 0, 0) from rfl) (by decide) ⟨by first | exact oq_fa4e5087 hi.1 | omega, by first | exact oq_4ee82282 hi.2.1 | omega⟩ (by decide) (fun g3005 => ?_) (fun g3005 => ?_)
      ·
        refine WS_lv (lv := [(0, .ref (A 179)), (1, .int (Int32.ofInt c))]) (List.forall_mem_cons.mpr ⟨(List.Mem.head _), (List.forall_mem_cons.mpr ⟨(List.Mem.tail _ (List.Mem.head _)), (fun q h => absurd h List.not_mem_nil)⟩)⟩) ?_
        exact kx _ c I F jjRLx jjMDJ hq (by first | exact ⟨oq_42fe298a hi.2.1 g3005, hi.2.2⟩ | omega)
      ·
        refine z_const X (show cdA 254 22 = some (.iconst 0, 1, 0, 0, 0) from rfl) ?_
        refine z_store_n X (lv' := [(2, .int (Int32.ofInt 0)), (0, .ref (A 179)), (1, .int (Int32.ofInt c))]) (show cdA 254 23 = some (.istore_n 2, 1, 0, 0, 0) from rfl) (by decide) (fun _ h => h) ?_
        refine WS_lv (lv := [(0, .ref (A 179)), (1, .int (Int32.ofInt c)), (2, .int (Int32.ofInt 0))]) (List.forall_mem_cons.mpr ⟨(List.Mem.tail _ (List.Mem.head _)), (List.forall_mem_cons.mpr ⟨(List.Mem.tail _ (List.Mem.tail _ (List.Mem.head _))), (List.forall_mem_cons.mpr ⟨(List.Mem.head _), (fun q h => absurd h List.not_mem_nil)⟩)⟩)⟩) ?_
        refine L24 ((8 - 0 : Int).toNat + 1) t c 0 I F jjRLx jjMDJ ⟨bsm_c hq.1 rfl rfl (by omega), hq.2⟩ (by first | exact ⟨And.intro (hi.1) (oq_04367f15 g3005), by decide, by decide, hi.2.2⟩ | omega) (Nat.lt_succ_self _) ?_
        intro s3006 x3007 Is3006 Fs3006 JRLx_s3006 JMDJ_s3006 Qs3006 hs3006
        have b3008 : ((-1) : Int) ≤ iI s3006 92 ∧ iI s3006 92 ≤ 127 := Is3006.1 92
        have b3009 : (0 : Int) ≤ iI s3006 93 ∧ iI s3006 93 ≤ 7 := Is3006.1 93
        have b3010 : ((-2147483648) : Int) ≤ iI s3006 94 ∧ iI s3006 94 ≤ 2147483647 := Is3006.1 94
        have b3011 : (1 : Int) ≤ iI s3006 89 ∧ iI s3006 89 ≤ 8 := Is3006.1 89
        refine z_inc X (x := c) (lv' := [(1, .int (Int32.ofInt (c + 1))), (0, .ref (A 179)), (2, .int (Int32.ofInt x3007))]) (show cdA 254 119 = some (.iinc 1 1, 3, 0, 0, 0) from rfl) (by decide) (List.Mem.tail _ (List.Mem.head _)) (fun _ h => h) ?_
        refine z_goto X (t := 15) (show cdA 254 122 = some (.goto (-107), 3, 0, 0, 0) from rfl) (by decide) ?_
        refine WS_lv (lv := [(0, .ref (A 179)), (1, .int (Int32.ofInt (c + 1)))]) (List.forall_mem_cons.mpr ⟨(List.Mem.tail _ (List.Mem.head _)), (List.forall_mem_cons.mpr ⟨(List.Mem.head _), (fun q h => absurd h List.not_mem_nil)⟩)⟩) ?_
        exact ih _ (c + 1) Is3006 Fs3006 JRLx_s3006 JMDJ_s3006 ⟨bsm_c Qs3006.1 rfl rfl (by omega), Qs3006.2⟩ (by first | exact ⟨oq_54f49eb5 hs3006.1.1, oq_e4399267 hs3006.1.2, hs3006.2⟩ | omega) (by first | exact qk_me hm (by decide) (oq_7e05e720 hs3006.1.2) | omega) kx
  refine z_aload_n X (x := A 179) (show cdA 254 0 = some (.aload_n 0, 1, 0, 0, 0) from rfl) (List.Mem.head _) ?_
  refine z_const X (show cdA 254 1 = some (.iconst (-1), 1, 0, 0, 0) from rfl) ?_
  refine s_putI X 179 (show cdA 254 2 = some (.putfield 369, 3, 12, 41, 0) from rfl) (by decide) rfl rfl (by decide) rfl rfl rfl ?_
  obtain ⟨s5, hs5⟩ : ∃ x0, x0 = uI s 92 (Int32.ofInt (-1)) := ⟨_, rfl⟩
  rw [← hs5]
  have Is5 : Bd s5 := by rw [hs5]; exact bd_I I (show ((-1) : Int) ≤ (-1) ∧ (-1) ≤ 127 by first | exact ⟨by decide, by decide⟩ | omega) (by decide)
  have Fs5 := fm_I (x := Int32.ofInt (-1)) F (show 92 ∈ _ by decide)
  rw [← hs5] at Fs5
  have vs5 : iI s5 92 = (-1) := by rw [hs5]; exact iI_u (by decide)
  have ws5_93 : iI s5 93 = iI s 93 := by rw [hs5]; rfl
  have ws5_94 : iI s5 94 = iI s 94 := by rw [hs5]; rfl
  have ws5_89 : iI s5 89 = iI s 89 := by rw [hs5]; rfl
  have fs5 : Fm [92] [] s s5 := by rw [hs5]; exact fm_I (fm_rf _ _ _) (show 92 ∈ _ by decide)
  have JRLx_s5 : RLx s5 := RLx_fm fs5 (by decide) jRLx
  have JMDJ_s5 : MDJ U s5 := MDJ_fm fs5 (by decide) jMDJ
  refine z_aload_n X (x := A 179) (show cdA 254 5 = some (.aload_n 0, 1, 0, 0, 0) from rfl) (List.Mem.head _) ?_
  refine z_aload_n X (x := A 179) (show cdA 254 6 = some (.aload_n 0, 1, 0, 0, 0) from rfl) (List.Mem.head _) ?_
  refine z_callV X 179 (rm := rmN 252) (As := []) (st := [.ref (A 179)]) (show cdA 254 7 = some (.invokevirtual 366, 3, 252, 0, 0) from rfl) rfl (by decide) rfl (by rw [E.1, E.2.1, E.2.2.1]; exact k_costOf3 G Is5 JRLx_s5 JMDJ_s5 (by first | exact oq_b44a1c7f ws5_89 p0 b4.1 | omega)) ⟨by rw [E.2.2.2]; exact (show (rmN 252).frames + 1 ≤ (rmN 254).frames by decide), by rw [E.2.2.2]; exact (show 8 + (mNL (miB 252) + 11) + (rmN 252).locals ≤ (rmN 254).locals by decide), by rw [E.2.2.2]; exact (show 0 + (rmN 252).cells ≤ (rmN 254).cells by decide), by rw [E.2.2.2]; exact (show 0 + (rmN 252).slots ≤ (rmN 254).slots by decide)⟩ (Nat.le_of_ble_eq_true rfl) (fun vv s6 hq => ?_) (fun ee s6 hq => ?_)
  rotate_left
  · obtain ⟨Is6, Fs6, JRLx_s6, e7, hv, hrs6, hps6⟩ := hq; cases hv
  obtain ⟨Is6, Fs6, JRLx_s6, e7, hv, hrs6, hps6⟩ := hq
  cases hv
  have Gs6 := fm_ts Fs5 Fs6 (by decide) (by decide)
  have JRLx_s6 : RLx s6 := RLx_fm Fs6 (by decide) JRLx_s5
  have JMDJ_s6 : MDJ U s6 := MDJ_fm Fs6 (by decide) JMDJ_s5
  have ws6_92 : iI s6 92 = iI s5 92 := fm_i Fs6 (by decide)
  have ws6_93 : iI s6 93 = iI s5 93 := fm_i Fs6 (by decide)
  have ws6_94 : iI s6 94 = iI s5 94 := fm_i Fs6 (by decide)
  have ws6_89 : iI s6 89 = iI s5 89 := fm_i Fs6 (by decide)
  show WS k 10 [(0, .ref (A 179))] [.int (Int32.ofInt e7), .ref (A 179)] (Wd A dT s6) 0 0
  have hP5 : pfM s5 = pfM s := by rw [hs5]; rfl
  have hC0 : CST U (pfM s) e7 := by have z := hps6.1; rw [hP5] at z; exact z
  have hF0 : FPQ U (pfM s) 8 s6 := by have z := hps6.2; rw [hP5] at z; exact z
  have hS0 : SAM 228 s s6 := sam_ts (fun j => by rw [hs5]; rfl) (sam_fm Fs6 (by decide))
  refine s_putI X 179 (show cdA 254 10 = some (.putfield 372, 3, 12, 43, 0) from rfl) (by decide) rfl rfl (by decide) rfl rfl rfl ?_
  obtain ⟨s8, hs8⟩ : ∃ x0, x0 = uI s6 94 (Int32.ofInt e7) := ⟨_, rfl⟩
  rw [← hs8]
  have Is8 : Bd s8 := by rw [hs8]; exact bd_I Is6 (show ((-2147483648) : Int) ≤ e7 ∧ e7 ≤ 2147483647 by omega) hrs6
  have Fs8 := fm_I (x := Int32.ofInt e7) Gs6 (show 94 ∈ _ by decide)
  rw [← hs8] at Fs8
  have vs8 : iI s8 94 = e7 := by rw [hs8]; exact iI_u hrs6
  have ws8_92 : iI s8 92 = iI s6 92 := by rw [hs8]; rfl
  have ws8_93 : iI s8 93 = iI s6 93 := by rw [hs8]; rfl
  have ws8_89 : iI s8 89 = iI s6 89 := by rw [hs8]; rfl
  have fs8 : Fm [94] [] s6 s8 := by rw [hs8]; exact fm_I (fm_rf _ _ _) (show 94 ∈ _ by decide)
  have JRLx_s8 : RLx s8 := RLx_fm fs8 (by decide) JRLx_s6
  have JMDJ_s8 : MDJ U s8 := MDJ_fm fs8 (by decide) JMDJ_s6
  refine z_const X (show cdA 254 13 = some (.iconst 0, 1, 0, 0, 0) from rfl) ?_
  refine z_store_n X (lv' := [(1, .int (Int32.ofInt 0)), (0, .ref (A 179))]) (show cdA 254 14 = some (.istore_n 1, 1, 0, 0, 0) from rfl) (by decide) (fun _ h => h) ?_
  refine WS_lv (lv := [(0, .ref (A 179)), (1, .int (Int32.ofInt 0))]) (List.forall_mem_cons.mpr ⟨(List.Mem.tail _ (List.Mem.head _)), (List.forall_mem_cons.mpr ⟨(List.Mem.head _), (fun q h => absurd h List.not_mem_nil)⟩)⟩) ?_
  refine L15 ((128 - 0 : Int).toNat + 1) s8 0 Is8 Fs8 JRLx_s8 JMDJ_s8 ⟨bsm_c (bsm_0 (f := pfM s) (lim := (fun j => iC s 229 j)) (by rw [show iI s8 94 = e7 by omega]; exact hC0) (by omega)) rfl rfl (by decide), sam_ts hS0 (fun j => by rw [hs8]; rfl), fpq_s hF0 rfl (by have z := hs8; rw [z]; exact fun _ => rfl)⟩ (by first | exact ⟨by decide, by decide, oq_29301542 ws8_89 ws6_89 ws5_89 p0 b4.1⟩ | omega) (Nat.lt_succ_self _) ?_
  intro s9 x10 Is9 Fs9 JRLx_s9 JMDJ_s9 Qs9 hs9
  have b11 : ((-1) : Int) ≤ iI s9 92 ∧ iI s9 92 ≤ 127 := Is9.1 92
  have b12 : (0 : Int) ≤ iI s9 93 ∧ iI s9 93 ≤ 7 := Is9.1 93
  have b13 : ((-2147483648) : Int) ≤ iI s9 94 ∧ iI s9 94 ≤ 2147483647 := Is9.1 94
  have b14 : (1 : Int) ≤ iI s9 89 ∧ iI s9 89 ≤ 8 := Is9.1 89
  exact w_vret X.1 q hRt (ax_d X (show cdA 254 125 = some (.return_, 1, 0, 0, 0) from rfl)) (Nat.zero_le _) (Nat.zero_le _) ⟨_, rfl, Is9, Fs9, JRLx_s9, rfl, ⟨bsm_c Qs9.1 rfl rfl (by omega), Qs9.2.1, by first | exact hs9.2 | omega⟩⟩
end M87z
