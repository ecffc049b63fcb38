/-! The class seeks -/
section M87y
variable {l : Launch} {s0 : State} {D : va_G} {tys : List (ClassId × FieldType)} {a0 : Array Value} {A : Nat → Nat} {dT : Nat → ClassId} {s : PS}
set_option maxRecDepth 4000 in
theorem c2_seek3 (G : GX l s0 D tys a0 dT) {U : AirD} (I : Bd s) (jAIR : AIR s) (jCPL : CPL s) (jCDJ : CDJ U s) (jPMJ : PMJ s) (jCCJ : CCJ U s)  : CT l s0 D A dT 23 (rmN 23) [.ref (A 41)] s (fun o t => Bd t ∧ Fm [22, 23, 24, 25, 26, 27] [33, 26, 27, 28, 29, 30, 31, 32, 20, 36, 37, 21, 35, 38, 1022, 1023] s t ∧ PMJ t ∧ ∃ e, o = .inl (some (.int (Int32.ofInt e))) ∧ rng e ∧ ((e = 0 ∨ e = 1) ∧ SAM 21 s t ∧ BST U (pfC s) (fun j => iC s 24 j) 1024 t ∧ ((e = 1 ∧ 0 ≤ iI t 25) ∨ (e = 0 ∧ iI t 25 = -1)))) := by
  refine ct_ofX G (by decide) (Nat.le_of_ble_eq_true rfl) (fun k X E ET hRt hXt q => ?_)
  show WS k 0 [(0, .ref (A 41))] [] _ 0 0
  have F : Fm [22, 23, 24, 25, 26, 27] [33, 26, 27, 28, 29, 30, 31, 32, 20, 36, 37, 21, 35, 38, 1022, 1023] s s := fm_rf _ _ s
  have aw0_21 : SAM 21 s s := sam_rf
  have I0 := I
  have b1 : ((-1) : Int) ≤ iI s 25 ∧ iI s 25 ≤ 127 := I.1 25
  have b2 : (0 : Int) ≤ iI s 26 ∧ iI s 26 ≤ 7 := I.1 26
  have b3 : ((-2147483648) : Int) ≤ iI s 27 ∧ iI s 27 ≤ 2147483647 := I.1 27
  have L6 : ∀ (n : Nat) (t : PS) (p : Int), Bd t → Fm [22, 23, 24, 25, 26, 27] [33, 26, 27, 28, 29, 30, 31, 32, 20, 36, 37, 21, 35, 38, 1022, 1023] s t → AIR t → CPL t → CDJ U t → PMJ t → CCJ U t → MEJ U t → (WHX (pfC s) p t ∧ SAM 21 s t) → (0 ≤ p ∧ p ≤ 8) → (8 - p : Int).toNat < n → (∀ (t' : PS) (p' : Int), Bd t' → Fm [22, 23, 24, 25, 26, 27] [33, 26, 27, 28, 29, 30, 31, 32, 20, 36, 37, 21, 35, 38, 1022, 1023] s t' → AIR t' → CPL t' → CDJ U t' → PMJ t' → CCJ U t' → MEJ U t' → (WHX (pfC s) p' t' ∧ SAM 21 s t') → (p' = 8) → WS k 29 [(0, .ref (A 41)), (1, .int (Int32.ofInt p'))] [] (Wd A dT t') 0 0) → WS k 6 [(0, .ref (A 41)), (1, .int (Int32.ofInt p))] [] (Wd A dT t) 0 0 := by
    intro n
    induction n with
    | zero =>
      intro t p I F jjAIR jjCPL jjCDJ jjPMJ jjCCJ jjMEJ hq hi hm kx
      exact absurd hm (Nat.not_lt_zero _)
    | succ n ih =>
      intro t p I F jjAIR jjCPL jjCDJ jjPMJ jjCCJ jjMEJ hq hi hm kx
      have b1001 : ((-1) : Int) ≤ iI t 25 ∧ iI t 25 ≤ 127 := I.1 25
      have b1002 : (0 : Int) ≤ iI t 26 ∧ iI t 26 ≤ 7 := I.1 26
      have b1003 : ((-2147483648) : Int) ≤ iI t 27 ∧ iI t 27 ≤ 2147483647 := I.1 27
      refine z_load_n X (x := p) (show cdA 23 6 = some (.iload_n 1, 1, 0, 0, 0) from rfl) (List.Mem.tail _ (List.Mem.head _)) ?_
      refine z_bipush X (show cdA 23 7 = some (.bipush 8, 2, 0, 0, 8) from rfl) ?_
      refine z_icmp_ge X (t := 29) (show cdA 23 9 = some (.if_icmp .ge 20, 3, 3, 0, 0) from rfl) (by decide) ⟨by first | exact oq_fa4e5087 hi.1 | omega, by first | exact oq_d3f5d874 hi.2 | omega⟩ (by decide) (fun g1004 => ?_) (fun g1004 => ?_)
      ·
        refine WS_lv (lv := [(0, .ref (A 41)), (1, .int (Int32.ofInt p))]) (List.forall_mem_cons.mpr ⟨(List.Mem.head _), (List.forall_mem_cons.mpr ⟨(List.Mem.tail _ (List.Mem.head _)), (fun q h => absurd h List.not_mem_nil)⟩)⟩) ?_
        exact kx _ p I F jjAIR jjCPL jjCDJ jjPMJ jjCCJ jjMEJ hq (by first | exact oq_73d3719d hi.2 g1004 | omega)
      ·
        refine z_aload_n X (x := A 41) (show cdA 23 12 = some (.aload_n 0, 1, 0, 0, 0) from rfl) (List.Mem.head _) ?_
        refine s_getR X 41 (show cdA 23 13 = some (.getfield 22, 3, 2, 6, 0) from rfl) (by decide) rfl rfl ?_
        refine z_load_n X (x := p) (show cdA 23 16 = some (.iload_n 1, 1, 0, 0, 0) from rfl) (List.Mem.tail _ (List.Mem.head _)) ?_
        refine z_aload_n X (x := A 41) (show cdA 23 17 = some (.aload_n 0, 1, 0, 0, 0) from rfl) (List.Mem.head _) ?_
        refine z_load_n X (x := p) (show cdA 23 18 = some (.iload_n 1, 1, 0, 0, 0) from rfl) (List.Mem.tail _ (List.Mem.head _)) ?_
        refine z_callV X 41 (rm := rmN 19) (As := [.int (Int32.ofInt p)]) (st := [.int (Int32.ofInt p), .ref (A 45)]) (show cdA 23 19 = some (.invokevirtual 37, 3, 19, 0, 0) from rfl) rfl (by decide) rfl (by rw [E.1, E.2.1, E.2.2.1]; exact c2_whole3 G I jjPMJ (by first | exact ⟨hi.1, oq_78c639ed g1004⟩ | omega)) ⟨by rw [E.2.2.2]; exact (show (rmN 19).frames + 1 ≤ (rmN 23).frames by decide), by rw [E.2.2.2]; exact (show 8 + (mNL (miB 19) + 11) + (rmN 19).locals ≤ (rmN 23).locals by decide), by rw [E.2.2.2]; exact (show 0 + (rmN 19).cells ≤ (rmN 23).cells by decide), by rw [E.2.2.2]; exact (show 0 + (rmN 19).slots ≤ (rmN 23).slots by decide)⟩ (Nat.le_of_ble_eq_true rfl) (fun vv s1005 hq => ?_) (fun ee s1005 hq => ?_)
        rotate_left
        · obtain ⟨Is1005, Fs1005, e1006, hv, hrs1005, hps1005⟩ := hq; cases hv
        obtain ⟨Is1005, Fs1005, e1006, hv, hrs1005, hps1005⟩ := hq
        cases hv
        have Gs1005 := fm_ts F Fs1005 (by decide) (by decide)
        have JAIR_s1005 : AIR s1005 := AIR_fm Fs1005 (by decide) jjAIR
        have JCPL_s1005 : CPL s1005 := CPL_fm Fs1005 (by decide) jjCPL
        have JCDJ_s1005 : CDJ U s1005 := CDJ_fm Fs1005 (by decide) jjCDJ
        have JPMJ_s1005 : PMJ s1005 := PMJ_fm Fs1005 (by decide) jjPMJ
        have JCCJ_s1005 : CCJ U s1005 := CCJ_fm Fs1005 (by decide) jjCCJ
        have JMEJ_s1005 : MEJ U s1005 := MEJ_fm Fs1005 (by decide) jjMEJ
        have ws1005_25 : iI s1005 25 = iI t 25 := fm_i Fs1005 (by decide)
        have ws1005_26 : iI s1005 26 = iI t 26 := fm_i Fs1005 (by decide)
        have ws1005_27 : iI s1005 27 = iI t 27 := fm_i Fs1005 (by decide)
        have aws1005_38 : SAM 38 t s1005 := sam_ts (sam_rf (a := 38) (s := t)) (sam_fm Fs1005 (by decide))
        have aws1005_21 : SAM 21 t s1005 := sam_ts (sam_rf (a := 21) (s := t)) (sam_fm Fs1005 (by decide))
        show WS k 22 [(0, .ref (A 41)), (1, .int (Int32.ofInt p))] [.int (Int32.ofInt e1006), .int (Int32.ofInt p), .ref (A 45)] (Wd A dT s1005) 0 0
        refine z_zast X 45 (show cdA 23 22 = some (.bastore, 1, 0, 0, 0) from rfl) (by decide) rfl (by first | exact hi.1 | omega) (show p < 8 by first | exact g1004 | omega) (by decide) (by first | exact hps1005.1 | omega) ?_
        obtain ⟨s1007, hs1007⟩ : ∃ x0, x0 = uC s1005 38 (p).toNat (Int32.ofInt e1006) := ⟨_, rfl⟩
        rw [← hs1007]
        have Is1007 : Bd s1007 := by rw [hs1007]; exact bd_C Is1005 (show (0 : Int) ≤ e1006 ∧ e1006 ≤ 1 by first | exact ⟨oq_e4aca38c hps1005.1, oq_14617724 hps1005.1⟩ | omega) hrs1005
        have Fs1007 := fm_C (i := (p).toNat) (x := Int32.ofInt e1006) Gs1005 (show 38 ∈ _ by decide)
        rw [← hs1007] at Fs1007
        have ws1007_25 : iI s1007 25 = iI s1005 25 := by rw [hs1007]; rfl
        have ws1007_26 : iI s1007 26 = iI s1005 26 := by rw [hs1007]; rfl
        have ws1007_27 : iI s1007 27 = iI s1005 27 := by rw [hs1007]; rfl
        have aws1007_38 : UPD 38 (p) e1006 t s1007 := by rw [hs1007]; exact upd_put aws1005_38 hrs1005
        have aws1007_21 : SAM 21 t s1007 := by rw [hs1007]; exact sam_C (by decide) aws1005_21
        have fs1007 : Fm [] [38] s1005 s1007 := by rw [hs1007]; exact fm_C (fm_rf _ _ _) (show 38 ∈ _ by decide)
        have JAIR_s1007 : AIR s1007 := AIR_fm fs1007 (by decide) JAIR_s1005
        have JCPL_s1007 : CPL s1007 := CPL_fm fs1007 (by decide) JCPL_s1005
        have JCDJ_s1007 : CDJ U s1007 := CDJ_fm fs1007 (by decide) JCDJ_s1005
        have JPMJ_s1007 : PMJ s1007 := PMJ_fm fs1007 (by decide) JPMJ_s1005
        have JCCJ_s1007 : CCJ U s1007 := CCJ_fm fs1007 (by decide) JCCJ_s1005
        have JMEJ_s1007 : MEJ U s1007 := MEJ_fm fs1007 (by decide) JMEJ_s1005
        refine z_inc X (x := p) (lv' := [(1, .int (Int32.ofInt (p + 1))), (0, .ref (A 41))]) (show cdA 23 23 = some (.iinc 1 1, 3, 0, 0, 0) from rfl) (by decide) (List.Mem.tail _ (List.Mem.head _)) (fun _ h => h) ?_
        refine z_goto X (t := 6) (show cdA 23 26 = some (.goto (-20), 3, 0, 0, 0) from rfl) (by decide) ?_
        refine WS_lv (lv := [(0, .ref (A 41)), (1, .int (Int32.ofInt (p + 1)))]) (List.forall_mem_cons.mpr ⟨(List.Mem.tail _ (List.Mem.head _)), (List.forall_mem_cons.mpr ⟨(List.Mem.head _), (fun q h => absurd h List.not_mem_nil)⟩)⟩) ?_
        exact ih _ (p + 1) Is1007 Fs1007 JAIR_s1007 JCPL_s1007 JCDJ_s1007 JPMJ_s1007 JCCJ_s1007 JMEJ_s1007 ⟨whx_up hq.1 (by omega) (by have z := hps1005.2; rw [show pfC t = pfC s from funext hq.2] at z; exact z) aws1007_38, sam_ts hq.2 aws1007_21⟩ (by first | exact ⟨oq_54f49eb5 hi.1, oq_0c7b19c3 g1004⟩ | omega) (by first | exact qk_me hm (by decide) (oq_9f368f35 g1004) | omega) kx
  have L44 : ∀ (n : Nat) (t : PS) (c : Int), Bd t → Fm [22, 23, 24, 25, 26, 27] [33, 26, 27, 28, 29, 30, 31, 32, 20, 36, 37, 21, 35, 38, 1022, 1023] s t → AIR t → CPL t → CDJ U t → PMJ t → CCJ U t → MEJ U t → WHJ t → (BST U (pfC s) (fun j => iC s 24 j) (8 * (c : Int).toNat) t ∧ SAM 21 s t) → (0 ≤ c ∧ c ≤ 128) → (128 - c : Int).toNat < n → (∀ (t' : PS) (c' : Int), Bd t' → Fm [22, 23, 24, 25, 26, 27] [33, 26, 27, 28, 29, 30, 31, 32, 20, 36, 37, 21, 35, 38, 1022, 1023] s t' → AIR t' → CPL t' → CDJ U t' → PMJ t' → CCJ U t' → MEJ U t' → WHJ t' → (BST U (pfC s) (fun j => iC s 24 j) (8 * (c' : Int).toNat) t' ∧ SAM 21 s t') → (c' = 128) → WS k 106 [(0, .ref (A 41)), (1, .int (Int32.ofInt c'))] [] (Wd A dT t') 0 0) → WS k 44 [(0, .ref (A 41)), (1, .int (Int32.ofInt c))] [] (Wd A dT t) 0 0 := by
    intro n
    induction n with
    | zero =>
      intro t c I F jjAIR jjCPL jjCDJ jjPMJ jjCCJ jjMEJ jjWHJ hq hi hm kx
      exact absurd hm (Nat.not_lt_zero _)
    | succ n ih =>
      intro t c I F jjAIR jjCPL jjCDJ jjPMJ jjCCJ jjMEJ jjWHJ hq hi hm kx
      have b2001 : ((-1) : Int) ≤ iI t 25 ∧ iI t 25 ≤ 127 := I.1 25
      have b2002 : (0 : Int) ≤ iI t 26 ∧ iI t 26 ≤ 7 := I.1 26
      have b2003 : ((-2147483648) : Int) ≤ iI t 27 ∧ iI t 27 ≤ 2147483647 := I.1 27
      have hPf : pfC t = pfC s := funext hq.2
      have hLf : (fun j => iC t 24 j) = (fun j => iC s 24 j) := funext (fun j => fm_c F (by decide))
      have hfc : pfC s (c : Int).toNat = iC t 21 (c : Int).toNat := (hq.2 _).symm
      refine z_load_n X (x := c) (show cdA 23 44 = some (.iload_n 1, 1, 0, 0, 0) from rfl) (List.Mem.tail _ (List.Mem.head _)) ?_
      refine z_sipush X (show cdA 23 45 = some (.sipush 128, 3, 0, 0, 128) from rfl) ?_
      refine z_icmp_ge X (t := 106) (show cdA 23 48 = some (.if_icmp .ge 58, 3, 3, 0, 0) from rfl) (by decide) ⟨by first | exact oq_fa4e5087 hi.1 | omega, by first | exact oq_4ee82282 hi.2 | omega⟩ (by decide) (fun g2004 => ?_) (fun g2004 => ?_)
      ·
        refine WS_lv (lv := [(0, .ref (A 41)), (1, .int (Int32.ofInt c))]) (List.forall_mem_cons.mpr ⟨(List.Mem.head _), (List.forall_mem_cons.mpr ⟨(List.Mem.tail _ (List.Mem.head _)), (fun q h => absurd h List.not_mem_nil)⟩)⟩) ?_
        exact kx _ c I F jjAIR jjCPL jjCDJ jjPMJ jjCCJ jjMEJ jjWHJ hq (by first | exact oq_42fe298a hi.2 g2004 | omega)
      ·
        refine z_aload_n X (x := A 41) (show cdA 23 51 = some (.aload_n 0, 1, 0, 0, 0) from rfl) (List.Mem.head _) ?_
        refine s_getR X 41 (show cdA 23 52 = some (.getfield 29, 3, 2, 1, 0) from rfl) (by decide) rfl rfl ?_
        refine s_getR X 25 (show cdA 23 55 = some (.getfield 107, 3, 3, 0, 0) from rfl) (by decide) rfl rfl ?_
        refine z_load_n X (x := c) (show cdA 23 58 = some (.iload_n 1, 1, 0, 0, 0) from rfl) (List.Mem.tail _ (List.Mem.head _)) ?_
        refine z_ald X 26 (show cdA 23 59 = some (.iaload, 1, 0, 0, 0) from rfl) (by decide) rfl (by first | exact hi.1 | omega) (show c < 128 by first | exact g2004 | omega) (by decide) ?_
        have b2005 : ((-1) : Int) ≤ iC t 21 (c).toNat ∧ iC t 21 (c).toNat ≤ 7 := I.2 21 _ (show (c).toNat < 128 by first | exact oq_afb89947 g2004 | omega)
        have ar2006 : iC t 21 (c).toNat = iC t 21 (c).toNat := (sam_rf (a := 21) (s := t)) _
        refine z_store_n X (lv' := [(2, .int (Int32.ofInt (iC t 21 (c).toNat))), (0, .ref (A 41)), (1, .int (Int32.ofInt c))]) (show cdA 23 60 = some (.istore_n 2, 1, 0, 0, 0) from rfl) (by decide) (fun _ h => h) ?_
        refine z_load_n X (x := (iC t 21 (c).toNat)) (show cdA 23 61 = some (.iload_n 2, 1, 0, 0, 0) from rfl) (List.Mem.head _) ?_
        refine z_const X (show cdA 23 62 = some (.iconst (-1), 1, 0, 0, 0) from rfl) ?_
        refine z_icmp_eq X (t := 100) (show cdA 23 63 = some (.if_icmp .eq 37, 3, 0, 0, 0) from rfl) (by decide) (rng_to _) (by decide) (fun g2007 => ?_) (fun g2007 => ?_)
        ·
          refine z_inc X (x := c) (lv' := [(1, .int (Int32.ofInt (c + 1))), (2, .int (Int32.ofInt (iC t 21 (c).toNat))), (0, .ref (A 41))]) (show cdA 23 100 = some (.iinc 1 1, 3, 0, 0, 0) from rfl) (by decide) (List.Mem.tail _ (List.Mem.tail _ (List.Mem.head _))) (fun _ h => h) ?_
          refine z_goto X (t := 44) (show cdA 23 103 = some (.goto (-59), 3, 0, 0, 0) from rfl) (by decide) ?_
          refine WS_lv (lv := [(0, .ref (A 41)), (1, .int (Int32.ofInt (c + 1)))]) (List.forall_mem_cons.mpr ⟨(List.Mem.tail _ (List.Mem.tail _ (List.Mem.head _))), (List.forall_mem_cons.mpr ⟨(List.Mem.head _), (fun q h => absurd h List.not_mem_nil)⟩)⟩) ?_
          exact ih _ (c + 1) I F jjAIR jjCPL jjCDJ jjPMJ jjCCJ jjMEJ jjWHJ ⟨(by rw [show 8 * (c + 1 : Int).toNat = 8 * (c : Int).toNat + 8 by omega]; exact bst_shut (bst_s hq.1 (by omega) (by omega) (by omega)) (by rw [hfc]; omega)), sam_ts hq.2 (sam_rf (a := 21) (s := t))⟩ (by first | exact ⟨oq_54f49eb5 hi.1, oq_d2afb425 g2004⟩ | omega) (by first | exact qk_me hm (by decide) (oq_c268b7bd g2004) | omega) kx
        ·
          refine z_aload_n X (x := A 41) (show cdA 23 66 = some (.aload_n 0, 1, 0, 0, 0) from rfl) (List.Mem.tail _ (List.Mem.head _)) ?_
          refine z_load_n X (x := c) (show cdA 23 67 = some (.iload_n 1, 1, 0, 0, 0) from rfl) (List.Mem.tail _ (List.Mem.tail _ (List.Mem.head _))) ?_
          refine z_callV X 41 (rm := rmN 24) (As := [.int (Int32.ofInt c)]) (st := []) (show cdA 23 68 = some (.invokevirtual 110, 3, 24, 0, 0) from rfl) rfl (by decide) rfl (by rw [E.1, E.2.1, E.2.2.1]; exact c2_matter3 G I jjAIR jjCDJ (by first | exact ⟨hi.1, oq_04367f15 g2004⟩ | omega)) ⟨by rw [E.2.2.2]; exact (show (rmN 24).frames + 1 ≤ (rmN 23).frames by decide), by rw [E.2.2.2]; exact (show 8 + (mNL (miB 24) + 11) + (rmN 24).locals ≤ (rmN 23).locals by decide), by rw [E.2.2.2]; exact (show 0 + (rmN 24).cells ≤ (rmN 23).cells by decide), by rw [E.2.2.2]; exact (show 0 + (rmN 24).slots ≤ (rmN 23).slots by decide)⟩ (Nat.le_of_ble_eq_true rfl) (fun vv s2008 hq => ?_) (fun ee s2008 hq => ?_)
          rotate_left
          · obtain ⟨Is2008, Fs2008, e2009, hv, hrs2008, hps2008⟩ := hq; cases hv
          obtain ⟨Is2008, Fs2008, e2009, hv, hrs2008, hps2008⟩ := hq
          cases hv
          have Gs2008 := fm_ts F Fs2008 (by decide) (by decide)
          have JAIR_s2008 : AIR s2008 := AIR_fm Fs2008 (by decide) jjAIR
          have JCPL_s2008 : CPL s2008 := CPL_fm Fs2008 (by decide) jjCPL
          have JCDJ_s2008 : CDJ U s2008 := CDJ_fm Fs2008 (by decide) jjCDJ
          have JPMJ_s2008 : PMJ s2008 := PMJ_fm Fs2008 (by decide) jjPMJ
          have JCCJ_s2008 : CCJ U s2008 := CCJ_fm Fs2008 (by decide) jjCCJ
          have JMEJ_s2008 : MEJ U s2008 := MEJ_fm Fs2008 (by decide) jjMEJ
          have JWHJ_s2008 : WHJ s2008 := WHJ_fm Fs2008 (by decide) jjWHJ
          have ws2008_25 : iI s2008 25 = iI t 25 := fm_i Fs2008 (by decide)
          have ws2008_26 : iI s2008 26 = iI t 26 := fm_i Fs2008 (by decide)
          have ws2008_27 : iI s2008 27 = iI t 27 := fm_i Fs2008 (by decide)
          have aws2008_21 : SAM 21 t s2008 := sam_ts (sam_rf (a := 21) (s := t)) (sam_fm Fs2008 (by decide))
          show WS k 71 [(2, .int (Int32.ofInt (iC t 21 (c).toNat))), (0, .ref (A 41)), (1, .int (Int32.ofInt c))] [.int (Int32.ofInt e2009)] (Wd A dT s2008) 0 0
          refine z_if_eq X (t := 100) (show cdA 23 71 = some (.ifCond .eq 29, 3, 0, 0, 0) from rfl) (by decide) hrs2008 (fun g2010 => ?_) (fun g2010 => ?_)
          ·
            refine z_inc X (x := c) (lv' := [(1, .int (Int32.ofInt (c + 1))), (2, .int (Int32.ofInt (iC t 21 (c).toNat))), (0, .ref (A 41))]) (show cdA 23 100 = some (.iinc 1 1, 3, 0, 0, 0) from rfl) (by decide) (List.Mem.tail _ (List.Mem.tail _ (List.Mem.head _))) (fun _ h => h) ?_
            refine z_goto X (t := 44) (show cdA 23 103 = some (.goto (-59), 3, 0, 0, 0) from rfl) (by decide) ?_
            refine WS_lv (lv := [(0, .ref (A 41)), (1, .int (Int32.ofInt (c + 1)))]) (List.forall_mem_cons.mpr ⟨(List.Mem.tail _ (List.Mem.tail _ (List.Mem.head _))), (List.forall_mem_cons.mpr ⟨(List.Mem.head _), (fun q h => absurd h List.not_mem_nil)⟩)⟩) ?_
            exact ih _ (c + 1) Is2008 Gs2008 JAIR_s2008 JCPL_s2008 JCDJ_s2008 JPMJ_s2008 JCCJ_s2008 JMEJ_s2008 JWHJ_s2008 ⟨(by rw [show 8 * (c + 1 : Int).toNat = 8 * (c : Int).toNat + 8 by omega]; exact bst_mat (bst_s hq.1 (by omega) (by omega) (by omega)) (by omega) (fun j hj => I0.2 21 j hj) (by have z := (hps2008.2 (by omega)).1; rw [show (((c : Int).toNat : Nat) : Int) = c by omega]; exact z) (jjCCJ (by have z := (hps2008.2 (by omega)).2; omega)) (u_wok jjAIR jjCDJ)), sam_ts hq.2 aws2008_21⟩ (by first | exact ⟨oq_54f49eb5 hi.1, oq_d2afb425 g2004⟩ | omega) (by first | exact qk_me hm (by decide) (oq_c268b7bd g2004) | omega) kx
          ·
            refine z_aload_n X (x := A 41) (show cdA 23 74 = some (.aload_n 0, 1, 0, 0, 0) from rfl) (List.Mem.tail _ (List.Mem.head _)) ?_
            refine s_getR X 41 (show cdA 23 75 = some (.getfield 29, 3, 2, 1, 0) from rfl) (by decide) rfl rfl ?_
            refine z_load_n X (x := c) (show cdA 23 78 = some (.iload_n 1, 1, 0, 0, 0) from rfl) (List.Mem.tail _ (List.Mem.tail _ (List.Mem.head _))) ?_
            refine z_callV X 25 (rm := rmN 39) (As := [.int (Int32.ofInt c)]) (st := []) (show cdA 23 79 = some (.invokevirtual 113, 3, 39, 0, 0) from rfl) rfl (by decide) rfl (by rw [E.1, E.2.1, E.2.2.1]; exact c3_beside_p3 G Is2008 (by first | exact ⟨hi.1, oq_04367f15 g2004⟩ | omega)) ⟨by rw [E.2.2.2]; exact (show (rmN 39).frames + 1 ≤ (rmN 23).frames by decide), by rw [E.2.2.2]; exact (show 8 + (mNL (miB 39) + 11) + (rmN 39).locals ≤ (rmN 23).locals by decide), by rw [E.2.2.2]; exact (show 0 + (rmN 39).cells ≤ (rmN 23).cells by decide), by rw [E.2.2.2]; exact (show 0 + (rmN 39).slots ≤ (rmN 23).slots by decide)⟩ (Nat.le_of_ble_eq_true rfl) (fun vv s2011 hq => ?_) (fun ee s2011 hq => ?_)
            rotate_left
            · obtain ⟨Is2011, Fs2011, e2012, hv, hrs2011, hps2011⟩ := hq; cases hv
            obtain ⟨Is2011, Fs2011, e2012, hv, hrs2011, hps2011⟩ := hq
            cases hv
            have Gs2011 := fm_ts Gs2008 Fs2011 (by decide) (by decide)
            have JAIR_s2011 : AIR s2011 := AIR_fm Fs2011 (by decide) JAIR_s2008
            have JCPL_s2011 : CPL s2011 := CPL_fm Fs2011 (by decide) JCPL_s2008
            have JCDJ_s2011 : CDJ U s2011 := CDJ_fm Fs2011 (by decide) JCDJ_s2008
            have JPMJ_s2011 : PMJ s2011 := PMJ_fm Fs2011 (by decide) JPMJ_s2008
            have JCCJ_s2011 : CCJ U s2011 := CCJ_fm Fs2011 (by decide) JCCJ_s2008
            have JMEJ_s2011 : MEJ U s2011 := MEJ_fm Fs2011 (by decide) JMEJ_s2008
            have JWHJ_s2011 : WHJ s2011 := WHJ_fm Fs2011 (by decide) JWHJ_s2008
            have ws2011_25 : iI s2011 25 = iI s2008 25 := fm_i Fs2011 (by decide)
            have ws2011_26 : iI s2011 26 = iI s2008 26 := fm_i Fs2011 (by decide)
            have ws2011_27 : iI s2011 27 = iI s2008 27 := fm_i Fs2011 (by decide)
            have aws2011_21 : SAM 21 t s2011 := sam_ts aws2008_21 (sam_fm Fs2011 (by decide))
            show WS k 82 [(2, .int (Int32.ofInt (iC t 21 (c).toNat))), (0, .ref (A 41)), (1, .int (Int32.ofInt c))] [.int (Int32.ofInt e2012)] (Wd A dT s2011) 0 0
            refine z_const X (show cdA 23 82 = some (.iconst 1, 1, 0, 0, 0) from rfl) ?_
            refine z_load_n X (x := (iC t 21 (c).toNat)) (show cdA 23 83 = some (.iload_n 2, 1, 0, 0, 0) from rfl) (List.Mem.head _) ?_
            refine z_bshl X (show cdA 23 84 = some (.ishl, 1, 0, 0, 0) from rfl) ?_
            refine z_anyV (fun y2013 hy2013 ey2013 => ?_)
            refine z_const X (show cdA 23 85 = some (.iconst (-1), 1, 0, 0, 0) from rfl) ?_
            refine z_bxor X (show cdA 23 86 = some (.ixor, 1, 0, 0, 0) from rfl) ?_
            refine z_anyV (fun y2014 hy2014 ey2014 => ?_)
            refine w_iand X.1 (ax_d X (show cdA 23 87 = some (.iand, 1, 0, 0, 0) from rfl)) ?_
            refine z_anyV (fun y2015 hy2015 ey2015 => ?_)
            have hOT : OTH (pfC s) (c : Int).toNat y2015 := oth_of (by omega) (hfc.trans rfl) (by omega) (by have z := hps2011; rw [show pfC s2008 = pfC s from funext (sam_ts hq.2 (fun j => fm_c Fs2008 (by decide)))] at z; exact z) ey2013 ey2014 ey2015
            refine z_store_n X (lv' := [(3, .int (Int32.ofInt y2015)), (2, .int (Int32.ofInt (iC t 21 (c).toNat))), (0, .ref (A 41)), (1, .int (Int32.ofInt c))]) (show cdA 23 88 = some (.istore_n 3, 1, 0, 0, 0) from rfl) (by decide) (fun _ h => h) ?_
            refine z_load_n X (x := y2015) (show cdA 23 89 = some (.iload_n 3, 1, 0, 0, 0) from rfl) (List.Mem.head _) ?_
            refine z_if_eq X (t := 100) (show cdA 23 90 = some (.ifCond .eq 10, 3, 0, 0, 0) from rfl) (by decide) hy2015 (fun g2016 => ?_) (fun g2016 => ?_)
            ·
              refine z_inc X (x := c) (lv' := [(1, .int (Int32.ofInt (c + 1))), (3, .int (Int32.ofInt y2015)), (2, .int (Int32.ofInt (iC t 21 (c).toNat))), (0, .ref (A 41))]) (show cdA 23 100 = some (.iinc 1 1, 3, 0, 0, 0) from rfl) (by decide) (List.Mem.tail _ (List.Mem.tail _ (List.Mem.tail _ (List.Mem.head _)))) (fun _ h => h) ?_
              refine z_goto X (t := 44) (show cdA 23 103 = some (.goto (-59), 3, 0, 0, 0) from rfl) (by decide) ?_
              refine WS_lv (lv := [(0, .ref (A 41)), (1, .int (Int32.ofInt (c + 1)))]) (List.forall_mem_cons.mpr ⟨(List.Mem.tail _ (List.Mem.tail _ (List.Mem.tail _ (List.Mem.head _)))), (List.forall_mem_cons.mpr ⟨(List.Mem.head _), (fun q h => absurd h List.not_mem_nil)⟩)⟩) ?_
              exact ih _ (c + 1) Is2011 Gs2011 JAIR_s2011 JCPL_s2011 JCDJ_s2011 JPMJ_s2011 JCCJ_s2011 JMEJ_s2011 JWHJ_s2011 ⟨(by rw [show 8 * (c + 1 : Int).toNat = 8 * (c : Int).toNat + 8 by omega]; exact bst_none (bst_s hq.1 (by omega) (by omega) (by omega)) hOT (by omega)), sam_ts hq.2 aws2011_21⟩ (by first | exact ⟨oq_54f49eb5 hi.1, oq_d2afb425 g2004⟩ | omega) (by first | exact qk_me hm (by decide) (oq_c268b7bd g2004) | omega) kx
            ·
              refine z_aload_n X (x := A 41) (show cdA 23 93 = some (.aload_n 0, 1, 0, 0, 0) from rfl) (List.Mem.tail _ (List.Mem.tail _ (List.Mem.head _))) ?_
              refine z_load_n X (x := c) (show cdA 23 94 = some (.iload_n 1, 1, 0, 0, 0) from rfl) (List.Mem.tail _ (List.Mem.tail _ (List.Mem.tail _ (List.Mem.head _)))) ?_
              refine z_load_n X (x := (iC t 21 (c).toNat)) (show cdA 23 95 = some (.iload_n 2, 1, 0, 0, 0) from rfl) (List.Mem.tail _ (List.Mem.head _)) ?_
              refine z_load_n X (x := y2015) (show cdA 23 96 = some (.iload_n 3, 1, 0, 0, 0) from rfl) (List.Mem.head _) ?_
              refine z_callV X 41 (rm := rmN 25) (As := [.int (Int32.ofInt c), .int (Int32.ofInt (iC t 21 (c).toNat)), .int (Int32.ofInt y2015)]) (st := []) (show cdA 23 97 = some (.invokevirtual 117, 3, 25, 0, 0) from rfl) rfl (by decide) rfl (by rw [E.1, E.2.1, E.2.2.1]; exact c2_try3 G Is2011 JAIR_s2011 JCPL_s2011 JCDJ_s2011 JPMJ_s2011 JMEJ_s2011 JWHJ_s2011 (by first | exact ⟨hi.1, oq_04367f15 g2004⟩ | omega) (by first | exact ⟨oq_7a1025bf g2007 b2005.1, b2005.2⟩ | omega) (by first | exact ⟨hy2015.1, hy2015.2⟩ | omega) (aws2011_21 _) (by rw [show pfC s2011 = pfC s from funext (sam_ts hq.2 aws2011_21)]; exact hOT) (bst_c (bst_s hq.1 (by omega) (by omega) (by omega)) (show pfC s = pfC s2011 from (funext (sam_ts hq.2 aws2011_21)).symm) (show (fun j => iC s 24 j) = (fun j => iC s2011 24 j) from (funext (fun j => fm_c Gs2011 (by decide))).symm) rfl)) ⟨by rw [E.2.2.2]; exact (show (rmN 25).frames + 1 ≤ (rmN 23).frames by decide), by rw [E.2.2.2]; exact (show 8 + (mNL (miB 25) + 11) + (rmN 25).locals ≤ (rmN 23).locals by decide), by rw [E.2.2.2]; exact (show 0 + (rmN 25).cells ≤ (rmN 23).cells by decide), by rw [E.2.2.2]; exact (show 0 + (rmN 25).slots ≤ (rmN 23).slots by decide)⟩ (Nat.le_of_ble_eq_true rfl) (fun vv s2017 hq => ?_) (fun ee s2017 hq => ?_)
              rotate_left
              · obtain ⟨Is2017, Fs2017, JPMJ_s2017, JMEJ_s2017, JWHJ_s2017, hv, hps2017⟩ := hq; cases hv
              obtain ⟨Is2017, Fs2017, JPMJ_s2017, JMEJ_s2017, JWHJ_s2017, hv, hps2017⟩ := hq
              cases hv
              have Gs2017 := fm_ts Gs2011 Fs2017 (by decide) (by decide)
              have JAIR_s2017 : AIR s2017 := AIR_fm Fs2017 (by decide) JAIR_s2011
              have JCPL_s2017 : CPL s2017 := CPL_fm Fs2017 (by decide) JCPL_s2011
              have JCDJ_s2017 : CDJ U s2017 := CDJ_fm Fs2017 (by decide) JCDJ_s2011
              have JCCJ_s2017 : CCJ U s2017 := CCJ_fm Fs2017 (by decide) JCCJ_s2011
              have b2019 : ((-1) : Int) ≤ iI s2017 25 ∧ iI s2017 25 ≤ 127 := Is2017.1 25
              have b2020 : (0 : Int) ≤ iI s2017 26 ∧ iI s2017 26 ≤ 7 := Is2017.1 26
              have b2021 : ((-2147483648) : Int) ≤ iI s2017 27 ∧ iI s2017 27 ≤ 2147483647 := Is2017.1 27
              show WS k 100 [(3, .int (Int32.ofInt y2015)), (2, .int (Int32.ofInt (iC t 21 (c).toNat))), (0, .ref (A 41)), (1, .int (Int32.ofInt c))] [] (Wd A dT s2017) 0 0
              refine z_inc X (x := c) (lv' := [(1, .int (Int32.ofInt (c + 1))), (3, .int (Int32.ofInt y2015)), (2, .int (Int32.ofInt (iC t 21 (c).toNat))), (0, .ref (A 41))]) (show cdA 23 100 = some (.iinc 1 1, 3, 0, 0, 0) from rfl) (by decide) (List.Mem.tail _ (List.Mem.tail _ (List.Mem.tail _ (List.Mem.head _)))) (fun _ h => h) ?_
              refine z_goto X (t := 44) (show cdA 23 103 = some (.goto (-59), 3, 0, 0, 0) from rfl) (by decide) ?_
              refine WS_lv (lv := [(0, .ref (A 41)), (1, .int (Int32.ofInt (c + 1)))]) (List.forall_mem_cons.mpr ⟨(List.Mem.tail _ (List.Mem.tail _ (List.Mem.tail _ (List.Mem.head _)))), (List.forall_mem_cons.mpr ⟨(List.Mem.head _), (fun q h => absurd h List.not_mem_nil)⟩)⟩) ?_
              exact ih _ (c + 1) Is2017 Gs2017 JAIR_s2017 JCPL_s2017 JCDJ_s2017 JPMJ_s2017 JCCJ_s2017 JMEJ_s2017 JWHJ_s2017 ⟨(by rw [show 8 * (c + 1 : Int).toNat = 8 * (c : Int).toNat + 8 by omega]; exact bst_c hps2017.2 (show pfC s2011 = pfC s from funext (sam_ts hq.2 aws2011_21)) (show (fun j => iC s2011 24 j) = (fun j => iC s 24 j) from funext (fun j => fm_c Gs2011 (by decide))) rfl), sam_ts (sam_ts hq.2 aws2011_21) hps2017.1⟩ (by first | exact ⟨oq_54f49eb5 hi.1, oq_d2afb425 g2004⟩ | omega) (by first | exact qk_me hm (by decide) (oq_c268b7bd g2004) | omega) kx
  refine z_aload_n X (x := A 41) (show cdA 23 0 = some (.aload_n 0, 1, 0, 0, 0) from rfl) (List.Mem.head _) ?_
  refine z_callV X 41 (rm := rmN 20) (As := []) (st := []) (show cdA 23 1 = some (.invokevirtual 94, 3, 20, 0, 0) from rfl) rfl (by decide) rfl (by rw [E.1, E.2.1, E.2.2.1]; exact c2_measure3 G I jAIR jCPL jCDJ jPMJ ) ⟨by rw [E.2.2.2]; exact (show (rmN 20).frames + 1 ≤ (rmN 23).frames by decide), by rw [E.2.2.2]; exact (show 8 + (mNL (miB 20) + 11) + (rmN 20).locals ≤ (rmN 23).locals by decide), by rw [E.2.2.2]; exact (show 0 + (rmN 20).cells ≤ (rmN 23).cells by decide), by rw [E.2.2.2]; exact (show 0 + (rmN 20).slots ≤ (rmN 23).slots by decide)⟩ (Nat.le_of_ble_eq_true rfl) (fun vv s4 hq => ?_) (fun ee s4 hq => ?_)
  rotate_left
  · obtain ⟨Is4, Fs4, hv, hps4⟩ := hq; cases hv
  obtain ⟨Is4, Fs4, hv, hps4⟩ := hq
  cases hv
  have Gs4 := fm_ts F Fs4 (by decide) (by decide)
  have JAIR_s4 : AIR s4 := AIR_fm Fs4 (by decide) jAIR
  have JCPL_s4 : CPL s4 := CPL_fm Fs4 (by decide) jCPL
  have JCDJ_s4 : CDJ U s4 := CDJ_fm Fs4 (by decide) jCDJ
  have JPMJ_s4 : PMJ s4 := PMJ_fm Fs4 (by decide) jPMJ
  have JCCJ_s4 : CCJ U s4 := CCJ_fm Fs4 (by decide) jCCJ
  have ws4_25 : iI s4 25 = iI s 25 := fm_i Fs4 (by decide)
  have ws4_26 : iI s4 26 = iI s 26 := fm_i Fs4 (by decide)
  have ws4_27 : iI s4 27 = iI s 27 := fm_i Fs4 (by decide)
  have aws4_21 : SAM 21 s s4 := sam_ts aw0_21 (sam_fm Fs4 (by decide))
  show WS k 4 [(0, .ref (A 41))] [] (Wd A dT s4) 0 0
  have hM0 : MEJ U s4 := by unfold MEJ; rw [(show pfC s4 = pfC s from funext (fun j => fm_c Fs4 (by decide)))]; exact hps4
  refine z_const X (show cdA 23 4 = some (.iconst 0, 1, 0, 0, 0) from rfl) ?_
  refine z_store_n X (lv' := [(1, .int (Int32.ofInt 0)), (0, .ref (A 41))]) (show cdA 23 5 = some (.istore_n 1, 1, 0, 0, 0) from rfl) (by decide) (fun _ h => h) ?_
  refine WS_lv (lv := [(0, .ref (A 41)), (1, .int (Int32.ofInt 0))]) (List.forall_mem_cons.mpr ⟨(List.Mem.tail _ (List.Mem.head _)), (List.forall_mem_cons.mpr ⟨(List.Mem.head _), (fun q h => absurd h List.not_mem_nil)⟩)⟩) ?_
  refine L6 ((8 - 0 : Int).toNat + 1) s4 0 Is4 Gs4 JAIR_s4 JCPL_s4 JCDJ_s4 JPMJ_s4 JCCJ_s4 hM0 ⟨fun p hp => absurd hp (by omega), aws4_21⟩ (by first | exact ⟨by decide, by decide⟩ | omega) (Nat.lt_succ_self _) ?_
  intro s6 x7 Is6 Fs6 JAIR_s6 JCPL_s6 JCDJ_s6 JPMJ_s6 JCCJ_s6 JMEJ_s6 Qs6 hs6
  have b8 : ((-1) : Int) ≤ iI s6 25 ∧ iI s6 25 ≤ 127 := Is6.1 25
  have b9 : (0 : Int) ≤ iI s6 26 ∧ iI s6 26 ≤ 7 := Is6.1 26
  have b10 : ((-2147483648) : Int) ≤ iI s6 27 ∧ iI s6 27 ≤ 2147483647 := Is6.1 27
  have hW0 : WHJ s6 := fun p hp => by rw [show pfC s6 = pfC s from funext Qs6.2]; exact Qs6.1 p (by omega)
  refine z_aload_n X (x := A 41) (show cdA 23 29 = some (.aload_n 0, 1, 0, 0, 0) from rfl) (List.Mem.head _) ?_
  refine z_const X (show cdA 23 30 = some (.iconst (-1), 1, 0, 0, 0) from rfl) ?_
  refine s_putI X 41 (show cdA 23 31 = some (.putfield 97, 3, 2, 7, 0) from rfl) (by decide) rfl rfl (by decide) rfl rfl rfl ?_
  obtain ⟨s11, hs11⟩ : ∃ x0, x0 = uI s6 25 (Int32.ofInt (-1)) := ⟨_, rfl⟩
  rw [← hs11]
  have Is11 : Bd s11 := by rw [hs11]; exact bd_I Is6 (show ((-1) : Int) ≤ (-1) ∧ (-1) ≤ 127 by first | exact ⟨by decide, by decide⟩ | omega) (by decide)
  have Fs11 := fm_I (x := Int32.ofInt (-1)) Fs6 (show 25 ∈ _ by decide)
  rw [← hs11] at Fs11
  have vs11 : iI s11 25 = (-1) := by rw [hs11]; exact iI_u (by decide)
  have ws11_26 : iI s11 26 = iI s6 26 := by rw [hs11]; rfl
  have ws11_27 : iI s11 27 = iI s6 27 := by rw [hs11]; rfl
  have aws11_21 : SAM 21 s6 s11 := by rw [hs11]; exact (sam_rf (a := 21) (s := s6))
  have fs11 : Fm [25] [] s6 s11 := by rw [hs11]; exact fm_I (fm_rf _ _ _) (show 25 ∈ _ by decide)
  have JAIR_s11 : AIR s11 := AIR_fm fs11 (by decide) JAIR_s6
  have JCPL_s11 : CPL s11 := CPL_fm fs11 (by decide) JCPL_s6
  have JCDJ_s11 : CDJ U s11 := CDJ_fm fs11 (by decide) JCDJ_s6
  have JPMJ_s11 : PMJ s11 := PMJ_fm fs11 (by decide) JPMJ_s6
  have JCCJ_s11 : CCJ U s11 := CCJ_fm fs11 (by decide) JCCJ_s6
  have JMEJ_s11 : MEJ U s11 := MEJ_fm fs11 (by decide) JMEJ_s6
  have JWHJ_s11 : WHJ s11 := WHJ_fm fs11 (by decide) hW0
  refine z_aload_n X (x := A 41) (show cdA 23 34 = some (.aload_n 0, 1, 0, 0, 0) from rfl) (List.Mem.head _) ?_
  refine z_aload_n X (x := A 41) (show cdA 23 35 = some (.aload_n 0, 1, 0, 0, 0) from rfl) (List.Mem.head _) ?_
  refine z_callV X 41 (rm := rmN 22) (As := []) (st := [.ref (A 41)]) (show cdA 23 36 = some (.invokevirtual 101, 3, 22, 0, 0) from rfl) rfl (by decide) rfl (by rw [E.1, E.2.1, E.2.2.1]; exact c2_price3 G Is11 JAIR_s11 JCDJ_s11 ) ⟨by rw [E.2.2.2]; exact (show (rmN 22).frames + 1 ≤ (rmN 23).frames by decide), by rw [E.2.2.2]; exact (show 8 + (mNL (miB 22) + 11) + (rmN 22).locals ≤ (rmN 23).locals by decide), by rw [E.2.2.2]; exact (show 0 + (rmN 22).cells ≤ (rmN 23).cells by decide), by rw [E.2.2.2]; exact (show 0 + (rmN 22).slots ≤ (rmN 23).slots by decide)⟩ (Nat.le_of_ble_eq_true rfl) (fun vv s12 hq => ?_) (fun ee s12 hq => ?_)
  rotate_left
  · obtain ⟨Is12, Fs12, e13, hv, hrs12, hps12⟩ := hq; cases hv
  obtain ⟨Is12, Fs12, e13, hv, hrs12, hps12⟩ := hq
  cases hv
  have Gs12 := fm_ts Fs11 Fs12 (by decide) (by decide)
  have JAIR_s12 : AIR s12 := AIR_fm Fs12 (by decide) JAIR_s11
  have JCPL_s12 : CPL s12 := CPL_fm Fs12 (by decide) JCPL_s11
  have JCDJ_s12 : CDJ U s12 := CDJ_fm Fs12 (by decide) JCDJ_s11
  have JPMJ_s12 : PMJ s12 := PMJ_fm Fs12 (by decide) JPMJ_s11
  have JCCJ_s12 : CCJ U s12 := CCJ_fm Fs12 (by decide) JCCJ_s11
  have JMEJ_s12 : MEJ U s12 := MEJ_fm Fs12 (by decide) JMEJ_s11
  have JWHJ_s12 : WHJ s12 := WHJ_fm Fs12 (by decide) JWHJ_s11
  have ws12_25 : iI s12 25 = iI s11 25 := fm_i Fs12 (by decide)
  have ws12_26 : iI s12 26 = iI s11 26 := fm_i Fs12 (by decide)
  have ws12_27 : iI s12 27 = iI s11 27 := fm_i Fs12 (by decide)
  have aws12_21 : SAM 21 s6 s12 := sam_ts aws11_21 (sam_fm Fs12 (by decide))
  show WS k 39 [(0, .ref (A 41)), (1, .int (Int32.ofInt x7))] [.int (Int32.ofInt e13), .ref (A 41)] (Wd A dT s12) 0 0
  have hC0 : CST U (pfC s) e13 := pn_cst (u_wok JAIR_s11 JCDJ_s11) (fun j hj => I0.2 21 j hj) (by have z := JMEJ_s11; unfold MEJ at z; rw [show pfC s11 = pfC s from funext (sam_ts Qs6.2 aws11_21)] at z; exact z) hps12
  refine s_putI X 41 (show cdA 23 39 = some (.putfield 104, 3, 2, 9, 0) from rfl) (by decide) rfl rfl (by decide) rfl rfl rfl ?_
  obtain ⟨s14, hs14⟩ : ∃ x0, x0 = uI s12 27 (Int32.ofInt e13) := ⟨_, rfl⟩
  rw [← hs14]
  have Is14 : Bd s14 := by rw [hs14]; exact bd_I Is12 (show ((-2147483648) : Int) ≤ e13 ∧ e13 ≤ 2147483647 by omega) hrs12
  have Fs14 := fm_I (x := Int32.ofInt e13) Gs12 (show 27 ∈ _ by decide)
  rw [← hs14] at Fs14
  have vs14 : iI s14 27 = e13 := by rw [hs14]; exact iI_u hrs12
  have ws14_25 : iI s14 25 = iI s12 25 := by rw [hs14]; rfl
  have ws14_26 : iI s14 26 = iI s12 26 := by rw [hs14]; rfl
  have aws14_21 : SAM 21 s6 s14 := by rw [hs14]; exact aws12_21
  have fs14 : Fm [27] [] s12 s14 := by rw [hs14]; exact fm_I (fm_rf _ _ _) (show 27 ∈ _ by decide)
  have JAIR_s14 : AIR s14 := AIR_fm fs14 (by decide) JAIR_s12
  have JCPL_s14 : CPL s14 := CPL_fm fs14 (by decide) JCPL_s12
  have JCDJ_s14 : CDJ U s14 := CDJ_fm fs14 (by decide) JCDJ_s12
  have JPMJ_s14 : PMJ s14 := PMJ_fm fs14 (by decide) JPMJ_s12
  have JCCJ_s14 : CCJ U s14 := CCJ_fm fs14 (by decide) JCCJ_s12
  have JMEJ_s14 : MEJ U s14 := MEJ_fm fs14 (by decide) JMEJ_s12
  have JWHJ_s14 : WHJ s14 := WHJ_fm fs14 (by decide) JWHJ_s12
  refine z_const X (show cdA 23 42 = some (.iconst 0, 1, 0, 0, 0) from rfl) ?_
  refine z_store_n X (lv' := [(1, .int (Int32.ofInt 0)), (0, .ref (A 41))]) (show cdA 23 43 = some (.istore_n 1, 1, 0, 0, 0) from rfl) (by decide) (fun _ h => h) ?_
  refine WS_lv (lv := [(0, .ref (A 41)), (1, .int (Int32.ofInt 0))]) (List.forall_mem_cons.mpr ⟨(List.Mem.tail _ (List.Mem.head _)), (List.forall_mem_cons.mpr ⟨(List.Mem.head _), (fun q h => absurd h List.not_mem_nil)⟩)⟩) ?_
  refine L44 ((128 - 0 : Int).toNat + 1) s14 0 Is14 Fs14 JAIR_s14 JCPL_s14 JCDJ_s14 JPMJ_s14 JCCJ_s14 JMEJ_s14 JWHJ_s14 ⟨bst_c (bst_0 (f := pfC s) (lim := (fun j => iC s 24 j)) (by rw [show iI s14 27 = e13 by omega]; exact hC0) (by omega)) rfl rfl (by decide), sam_ts Qs6.2 aws14_21⟩ (by first | exact ⟨by decide, by decide⟩ | omega) (Nat.lt_succ_self _) ?_
  intro s15 x16 Is15 Fs15 JAIR_s15 JCPL_s15 JCDJ_s15 JPMJ_s15 JCCJ_s15 JMEJ_s15 JWHJ_s15 Qs15 hs15
  have b17 : ((-1) : Int) ≤ iI s15 25 ∧ iI s15 25 ≤ 127 := Is15.1 25
  have b18 : (0 : Int) ≤ iI s15 26 ∧ iI s15 26 ≤ 7 := Is15.1 26
  have b19 : ((-2147483648) : Int) ≤ iI s15 27 ∧ iI s15 27 ≤ 2147483647 := Is15.1 27
  refine z_aload_n X (x := A 41) (show cdA 23 106 = some (.aload_n 0, 1, 0, 0, 0) from rfl) (List.Mem.head _) ?_
  refine z_getI X 41 (show cdA 23 107 = some (.getfield 97, 3, 2, 7, 0) from rfl) (by decide) rfl rfl ?_
  have b20 : ((-1) : Int) ≤ iI s15 25 ∧ iI s15 25 ≤ 127 := Is15.1 25
  refine z_const X (show cdA 23 110 = some (.iconst (-1), 1, 0, 0, 0) from rfl) ?_
  refine z_icmp_eq X (t := 118) (show cdA 23 111 = some (.if_icmp .eq 7, 3, 0, 0, 0) from rfl) (by decide) (rng_to _) (by decide) (fun g21 => ?_) (fun g21 => ?_)
  ·
    refine z_const X (show cdA 23 118 = some (.iconst 0, 1, 0, 0, 0) from rfl) ?_
    exact w_iret X.1 q hRt (nar_ret (by first | exact Or.inl (by decide) | omega)) (ax_d X (show cdA 23 119 = some (.ireturn, 1, 0, 0, 0) from rfl)) (Nat.zero_le _) (Nat.zero_le _) ⟨_, rfl, Is15, Fs15, JPMJ_s15, 0, rfl, (by decide), ⟨by first | exact Or.inl (by decide) | omega, Qs15.2, by have z := Qs15.1; rw [show 8 * (x16 : Int).toNat = 1024 by omega] at z; exact z, by first | exact Or.inr (And.intro (by decide) (g21)) | omega⟩⟩
  ·
    refine z_const X (show cdA 23 114 = some (.iconst 1, 1, 0, 0, 0) from rfl) ?_
    refine z_goto X (t := 119) (show cdA 23 115 = some (.goto 4, 3, 0, 0, 0) from rfl) (by decide) ?_
    exact w_iret X.1 q hRt (nar_ret (by first | exact Or.inr (by decide) | omega)) (ax_d X (show cdA 23 119 = some (.ireturn, 1, 0, 0, 0) from rfl)) (Nat.zero_le _) (Nat.zero_le _) ⟨_, rfl, Is15, Fs15, JPMJ_s15, 1, rfl, (by decide), ⟨by first | exact Or.inr (by decide) | omega, Qs15.2, by have z := Qs15.1; rw [show 8 * (x16 : Int).toNat = 1024 by omega] at z; exact z, by first | exact oq_e0dc1a50 g21 b20.1 | omega⟩⟩
end M87y
