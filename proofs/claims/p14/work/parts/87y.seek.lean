theorem oq_e0dc1a50 {a0 : Int} (h0 : a0 ≠ (-1)) (h1 : (-1) ≤ a0) : ((1 = 1 ∧ 0 ≤ a0) ∨ (1 = 0 ∧ a0 = (-1))) := by omega
/-! The class seeks -/
section M87y
variable {l : Launch} {s0 : State} {D : va_G} {tys : List (ClassId × FieldType)} {a0 : Array Value} {A : Nat → Nat} {dT : Nat → ClassId} {s : PS}
set_option maxRecDepth 4000 in
theorem c2_seek3 (G : GX l s0 D tys a0 dT) {U : AirD} (I : Bd s) (jAIR : AIR s) (jCPL : CPL s) (jCDJ : CDJ U s) (jPMJ : PMJ s) (jCCJ : CCJ U s)  : CT l s0 D A dT 23 (rmN 23) [.ref (A 41)] s (fun o t => Bd t ∧ Fm [22, 23, 24, 25, 26, 27] [33, 26, 27, 28, 29, 30, 31, 32, 20, 36, 37, 21, 35, 38, 1022, 1023] s t ∧ PMJ t ∧ ∃ e, o = .inl (some (.int (Int32.ofInt e))) ∧ rng e ∧ ((e = 0 ∨ e = 1) ∧ SAM 21 s t ∧ BST U (pfC s) (fun j => iC s 24 j) 1024 t ∧ ((e = 1 ∧ 0 ≤ iI t 25) ∨ (e = 0 ∧ iI t 25 = -1)))) := by
  refine ct_ofX G (by decide) (Nat.le_of_ble_eq_true rfl) (fun k X E ET hRt hXt q => ?_)
  show WS k 0 [(0, .ref (A 41))] [] _ 0 0
  have F : Fm [22, 23, 24, 25, 26, 27] [33, 26, 27, 28, 29, 30, 31, 32, 20, 36, 37, 21, 35, 38, 1022, 1023] s s := fm_rf _ _ s
  have aw0_21 : SAM 21 s s := sam_rf
  have I0 := I
  have b1 := bi_25 I
  have b2 := bi_26 I
  have b3 := bi_27 I
  have L6 : ∀ (n : Nat) (t : PS) (p : Int), Bd t → Fm [22, 23, 24, 25, 26, 27] [33, 26, 27, 28, 29, 30, 31, 32, 20, 36, 37, 21, 35, 38, 1022, 1023] s t → AIR t → CPL t → CDJ U t → PMJ t → CCJ U t → MEJ U t → (WHX (pfC s) p t ∧ SAM 21 s t) → (0 ≤ p ∧ p ≤ 8) → (8 - p : Int).toNat < n → (∀ (t' : PS) (p' : Int), Bd t' → Fm [22, 23, 24, 25, 26, 27] [33, 26, 27, 28, 29, 30, 31, 32, 20, 36, 37, 21, 35, 38, 1022, 1023] s t' → AIR t' → CPL t' → CDJ U t' → PMJ t' → CCJ U t' → MEJ U t' → (WHX (pfC s) p' t' ∧ SAM 21 s t') → (p' = 8) → WS k 29 [(0, .ref (A 41)), (1, .int (Int32.ofInt p'))] [] (Wd A dT t') 0 0) → WS k 6 [(0, .ref (A 41)), (1, .int (Int32.ofInt p))] [] (Wd A dT t) 0 0 := by
    intro n
    induction n with
    | zero =>
      intro t p I F jjAIR jjCPL jjCDJ jjPMJ jjCCJ jjMEJ hq hi hm kx
      exact absurd hm (Nat.not_lt_zero _)
    | succ n ih =>
      intro t p I F jjAIR jjCPL jjCDJ jjPMJ jjCCJ jjMEJ hq hi hm kx
      have b1001 := bi_25 I
      have b1002 := bi_26 I
      have b1003 := bi_27 I
      refine z_load_n X (x := p) rfl (List.Mem.tail _ (List.Mem.head _)) (z_bipush X rfl (z_icmp_ge X (t := 29) rfl rfl ⟨by first | exact oq_fa4e5087 hi.1 | omega, by first | exact oq_d3f5d874 hi.2 | omega⟩ (by decide) (fun g1004 => ?_) (fun g1004 => ?_)))
      ·
        refine WS_pq [0, 1] (lv' := [(0, .ref (A 41)), (1, .int (Int32.ofInt p))]) rfl ?_
        exact kx _ p I F jjAIR jjCPL jjCDJ jjPMJ jjCCJ jjMEJ hq (by first | exact oq_73d3719d hi.2 g1004 | omega)
      ·
        refine z_aload_n X (x := A 41) rfl (List.Mem.head _) (s_getR X 41 rfl (c518_ok rfl) rfl rfl (z_load_n X (x := p) rfl (List.Mem.tail _ (List.Mem.head _)) (z_aload_n X (x := A 41) rfl (List.Mem.head _) (z_load_n X (x := p) rfl (List.Mem.tail _ (List.Mem.head _)) (zcV_i0 X E 41 (As := [.int (Int32.ofInt p)]) (st := [.int (Int32.ofInt p), .ref (A 45)]) rfl rfl rfl rfl (c2_whole3 G I jjPMJ (by first | exact ⟨hi.1, oq_78c639ed g1004⟩ | omega)) rfl (Nat.le_of_ble_eq_true rfl) (fun s1005 e1006 Is1005 Fs1005 hrs1005 hps1005 => ?_))))))
        have hps1005p := hps1005.2
        have Gs1005 := fm_tq F Fs1005 rfl rfl
        have JAIR_s1005 : AIR s1005 := AIR_fm Fs1005 (by decide) jjAIR
        have JCPL_s1005 : CPL s1005 := CPL_fm Fs1005 (by decide) jjCPL
        have JCDJ_s1005 : CDJ U s1005 := CDJ_fm Fs1005 (by decide) jjCDJ
        have JPMJ_s1005 : PMJ s1005 := PMJ_fm Fs1005 (by decide) jjPMJ
        have JCCJ_s1005 : CCJ U s1005 := CCJ_fm Fs1005 (by decide) jjCCJ
        have JMEJ_s1005 : MEJ U s1005 := MEJ_fm Fs1005 (by decide) jjMEJ
        have ws1005_25 : iI s1005 25 = iI t 25 := fm_iq Fs1005 rfl
        have ws1005_26 : iI s1005 26 = iI t 26 := fm_iq Fs1005 rfl
        have ws1005_27 : iI s1005 27 = iI t 27 := fm_iq Fs1005 rfl
        have aws1005_38 : SAM 38 t s1005 := sam_ts (sam_rf (a := 38) (s := t)) (sam_fm Fs1005 (by decide))
        have aws1005_21 : SAM 21 t s1005 := sam_ts (sam_rf (a := 21) (s := t)) (sam_fm Fs1005 (by decide))
        refine z_zast X 45 rfl (c518_ok rfl) rfl (by first | exact hi.1 | omega) (show p < 8 by first | exact g1004 | omega) (cbig_ok rfl) (by first | exact hps1005.1 | omega) (wd_gen (fun s1007 hs1007 => ?_))
        have Is1007 : Bd s1007 := eqB hs1007 (bd_C Is1005 (show (0 : Int) ≤ e1006 ∧ e1006 ≤ 1 by first | exact ⟨oq_e4aca38c hps1005.1, oq_14617724 hps1005.1⟩ | omega) hrs1005)
        have Fs1007 := eqF hs1007 (fm_C Gs1005 (inl_ok (a := 38) rfl))
        have ws1007_25 : iI s1007 25 = iI s1005 25 := eqI hs1007 rfl
        have ws1007_26 : iI s1007 26 = iI s1005 26 := eqI hs1007 rfl
        have ws1007_27 : iI s1007 27 = iI s1005 27 := eqI hs1007 rfl
        have aws1007_38 : UPD 38 (p) e1006 t s1007 := by rw [hs1007]; exact upd_put aws1005_38 hrs1005
        have aws1007_21 : SAM 21 t s1007 := by rw [hs1007]; exact sam_C (by decide) aws1005_21
        have fs1007 : Fm [] [38] s1005 s1007 := by rw [hs1007]; exact fm_C (fm_rf _ _ _) (show 38 ∈ _ by decide)
        have JAIR_s1007 : AIR s1007 := AIR_fm fs1007 (by decide) JAIR_s1005
        have JCPL_s1007 : CPL s1007 := CPL_fm fs1007 (by decide) JCPL_s1005
        have JCDJ_s1007 : CDJ U s1007 := CDJ_fm fs1007 (by decide) JCDJ_s1005
        have JPMJ_s1007 : PMJ s1007 := PMJ_fm fs1007 (by decide) JPMJ_s1005
        have JCCJ_s1007 : CCJ U s1007 := CCJ_fm fs1007 (by decide) JCCJ_s1005
        have JMEJ_s1007 : MEJ U s1007 := MEJ_fm fs1007 (by decide) JMEJ_s1005
        refine z_inc X (x := p) (lv' := [(1, .int (Int32.ofInt (p + 1))), (0, .ref (A 41))]) rfl (by decide) (List.Mem.tail _ (List.Mem.head _)) (fun _ h => h) (z_goto X (t := 6) rfl rfl (WS_pq [1, 0] (lv' := [(0, .ref (A 41)), (1, .int (Int32.ofInt (p + 1)))]) rfl ?_))
        exact ih _ (p + 1) Is1007 Fs1007 JAIR_s1007 JCPL_s1007 JCDJ_s1007 JPMJ_s1007 JCCJ_s1007 JMEJ_s1007 ⟨whx_up hq.1 (by first | (clear hps1005; omega) | omega) (by have z := hps1005.2; rw [show pfC t = pfC s from funext hq.2] at z; exact z) aws1007_38, sam_ts hq.2 aws1007_21⟩ (by first | exact ⟨oq_54f49eb5 hi.1, oq_0c7b19c3 g1004⟩ | omega) (by first | exact qk_me hm (by decide) (oq_9f368f35 g1004) | omega) kx
  have L44 : ∀ (n : Nat) (t : PS) (c : Int), Bd t → Fm [22, 23, 24, 25, 26, 27] [33, 26, 27, 28, 29, 30, 31, 32, 20, 36, 37, 21, 35, 38, 1022, 1023] s t → AIR t → CPL t → CDJ U t → PMJ t → CCJ U t → MEJ U t → WHJ t → (BST U (pfC s) (fun j => iC s 24 j) (8 * (c : Int).toNat) t ∧ SAM 21 s t) → (0 ≤ c ∧ c ≤ 128) → (128 - c : Int).toNat < n → (∀ (t' : PS) (c' : Int), Bd t' → Fm [22, 23, 24, 25, 26, 27] [33, 26, 27, 28, 29, 30, 31, 32, 20, 36, 37, 21, 35, 38, 1022, 1023] s t' → AIR t' → CPL t' → CDJ U t' → PMJ t' → CCJ U t' → MEJ U t' → WHJ t' → (BST U (pfC s) (fun j => iC s 24 j) (8 * (c' : Int).toNat) t' ∧ SAM 21 s t') → (c' = 128) → WS k 106 [(0, .ref (A 41)), (1, .int (Int32.ofInt c'))] [] (Wd A dT t') 0 0) → WS k 44 [(0, .ref (A 41)), (1, .int (Int32.ofInt c))] [] (Wd A dT t) 0 0 := by
    intro n
    induction n with
    | zero =>
      intro t c I F jjAIR jjCPL jjCDJ jjPMJ jjCCJ jjMEJ jjWHJ hq hi hm kx
      exact absurd hm (Nat.not_lt_zero _)
    | succ n ih =>
      intro t c I F jjAIR jjCPL jjCDJ jjPMJ jjCCJ jjMEJ jjWHJ hq hi hm kx
      have b2001 := bi_25 I
      have b2002 := bi_26 I
      have b2003 := bi_27 I
      have hPf : pfC t = pfC s := funext hq.2
      have hLf : (fun j => iC t 24 j) = (fun j => iC s 24 j) := funext (fun j => fm_c F (by decide))
      have hfc : pfC s (c : Int).toNat = iC t 21 (c : Int).toNat := (hq.2 _).symm
      refine z_load_n X (x := c) rfl (List.Mem.tail _ (List.Mem.head _)) (z_sipush X rfl (z_icmp_ge X (t := 106) rfl rfl ⟨by first | exact oq_fa4e5087 hi.1 | omega, by first | exact oq_4ee82282 hi.2 | omega⟩ (by decide) (fun g2004 => ?_) (fun g2004 => ?_)))
      ·
        refine WS_pq [0, 1] (lv' := [(0, .ref (A 41)), (1, .int (Int32.ofInt c))]) rfl ?_
        exact kx _ c I F jjAIR jjCPL jjCDJ jjPMJ jjCCJ jjMEJ jjWHJ hq (by first | exact oq_42fe298a hi.2 g2004 | omega)
      ·
        refine z_aload_n X (x := A 41) rfl (List.Mem.head _) (s_getR X 41 rfl (c518_ok rfl) rfl rfl (s_getR X 25 rfl (c518_ok rfl) rfl rfl (z_load_n X (x := c) rfl (List.Mem.tail _ (List.Mem.head _)) (z_ald X 26 rfl (c518_ok rfl) rfl (by first | exact hi.1 | omega) (show c < 128 by first | exact g2004 | omega) (cbig_ok rfl) ?_))))
        have b2005 := bc_21 I (show (c).toNat < 128 by first | exact oq_afb89947 g2004 | omega)
        have ar2006 : iC t 21 (c).toNat = iC t 21 (c).toNat := (sam_rf (a := 21) (s := t)) _
        refine z_store_n X (lv' := [(2, .int (Int32.ofInt (iC t 21 (c).toNat))), (0, .ref (A 41)), (1, .int (Int32.ofInt c))]) rfl (by decide) (fun _ h => h) (z_load_n X (x := (iC t 21 (c).toNat)) rfl (List.Mem.head _) (z_const X rfl (z_icmp_eq X (t := 100) rfl rfl (rng_to _) (by decide) (fun g2007 => ?_) (fun g2007 => ?_))))
        ·
          refine z_inc X (x := c) (lv' := [(1, .int (Int32.ofInt (c + 1))), (2, .int (Int32.ofInt (iC t 21 (c).toNat))), (0, .ref (A 41))]) rfl (by decide) (List.Mem.tail _ (List.Mem.tail _ (List.Mem.head _))) (fun _ h => h) (z_goto X (t := 44) rfl rfl (WS_pq [2, 0] (lv' := [(0, .ref (A 41)), (1, .int (Int32.ofInt (c + 1)))]) rfl ?_))
          exact ih _ (c + 1) I F jjAIR jjCPL jjCDJ jjPMJ jjCCJ jjMEJ jjWHJ ⟨(by rw [show 8 * (c + 1 : Int).toNat = 8 * (c : Int).toNat + 8 by omega]; exact bst_shut (bst_s hq.1 (by omega) (by omega) (by omega)) (by rw [hfc]; omega)), sam_ts hq.2 (sam_rf (a := 21) (s := t))⟩ (by first | exact ⟨oq_54f49eb5 hi.1, oq_d2afb425 g2004⟩ | omega) (by first | exact qk_me hm (by decide) (oq_c268b7bd g2004) | omega) kx
        ·
          refine z_aload_n X (x := A 41) rfl (List.Mem.tail _ (List.Mem.head _)) (z_load_n X (x := c) rfl (List.Mem.tail _ (List.Mem.tail _ (List.Mem.head _))) (zcV_i0 X E 41 (As := [.int (Int32.ofInt c)]) (st := []) rfl rfl rfl rfl (c2_matter3 G I jjAIR jjCDJ (by first | exact ⟨hi.1, oq_04367f15 g2004⟩ | omega)) rfl (Nat.le_of_ble_eq_true rfl) (fun s2008 e2009 Is2008 Fs2008 hrs2008 hps2008 => ?_)))
          have hps2008p := hps2008.2
          have Gs2008 := fm_tq F Fs2008 rfl rfl
          have JAIR_s2008 : AIR s2008 := AIR_fm Fs2008 (by decide) jjAIR
          have JCPL_s2008 : CPL s2008 := CPL_fm Fs2008 (by decide) jjCPL
          have JCDJ_s2008 : CDJ U s2008 := CDJ_fm Fs2008 (by decide) jjCDJ
          have JPMJ_s2008 : PMJ s2008 := PMJ_fm Fs2008 (by decide) jjPMJ
          have JCCJ_s2008 : CCJ U s2008 := CCJ_fm Fs2008 (by decide) jjCCJ
          have JMEJ_s2008 : MEJ U s2008 := MEJ_fm Fs2008 (by decide) jjMEJ
          have JWHJ_s2008 : WHJ s2008 := WHJ_fm Fs2008 (by decide) jjWHJ
          have ws2008_25 : iI s2008 25 = iI t 25 := fm_iq Fs2008 rfl
          have ws2008_26 : iI s2008 26 = iI t 26 := fm_iq Fs2008 rfl
          have ws2008_27 : iI s2008 27 = iI t 27 := fm_iq Fs2008 rfl
          have aws2008_21 : SAM 21 t s2008 := sam_ts (sam_rf (a := 21) (s := t)) (sam_fm Fs2008 (by decide))
          refine z_if_eq X (t := 100) rfl rfl hrs2008 (fun g2010 => ?_) (fun g2010 => ?_)
          ·
            refine z_inc X (x := c) (lv' := [(1, .int (Int32.ofInt (c + 1))), (2, .int (Int32.ofInt (iC t 21 (c).toNat))), (0, .ref (A 41))]) rfl (by decide) (List.Mem.tail _ (List.Mem.tail _ (List.Mem.head _))) (fun _ h => h) (z_goto X (t := 44) rfl rfl (WS_pq [2, 0] (lv' := [(0, .ref (A 41)), (1, .int (Int32.ofInt (c + 1)))]) rfl ?_))
            exact ih _ (c + 1) Is2008 Gs2008 JAIR_s2008 JCPL_s2008 JCDJ_s2008 JPMJ_s2008 JCCJ_s2008 JMEJ_s2008 JWHJ_s2008 ⟨(by rw [show 8 * (c + 1 : Int).toNat = 8 * (c : Int).toNat + 8 by first | (clear hps2008 g2007; omega) | (clear g2007; omega) | omega]; exact bst_mat (bst_s hq.1 (by first | (clear hps2008 g2007; omega) | (clear g2007; omega) | omega) (by first | (clear hps2008 g2007; omega) | (clear g2007; omega) | omega) (by first | (clear hps2008 g2007; omega) | (clear g2007; omega) | omega)) (by first | (clear hps2008 g2007; omega) | (clear g2007; omega) | omega) (fun j hj => I0.2 21 j hj) (by have z := (hps2008.2 (by first | (clear hps2008 g2007; omega) | (clear g2007; omega) | omega)).1; rw [show (((c : Int).toNat : Nat) : Int) = c by first | (clear hps2008 g2007; omega) | (clear g2007; omega) | omega]; exact z) (jjCCJ (by have z := (hps2008.2 (by first | (clear hps2008 g2007; omega) | (clear g2007; omega) | omega)).2; omega)) (u_wok jjAIR jjCDJ)), sam_ts hq.2 aws2008_21⟩ (by first | exact ⟨oq_54f49eb5 hi.1, oq_d2afb425 g2004⟩ | omega) (by first | exact qk_me hm (by decide) (oq_c268b7bd g2004) | omega) kx
          ·
            refine z_aload_n X (x := A 41) rfl (List.Mem.tail _ (List.Mem.head _)) (s_getR X 41 rfl (c518_ok rfl) rfl rfl (z_load_n X (x := c) rfl (List.Mem.tail _ (List.Mem.tail _ (List.Mem.head _))) (zcV_i0 X E 25 (As := [.int (Int32.ofInt c)]) (st := []) rfl rfl rfl rfl (c3_beside_p3 G Is2008 (by first | exact ⟨hi.1, oq_04367f15 g2004⟩ | omega)) rfl (Nat.le_of_ble_eq_true rfl) (fun s2011 e2012 Is2011 Fs2011 hrs2011 hps2011 => ?_))))
            have Gs2011 := fm_tq Gs2008 Fs2011 rfl rfl
            have JAIR_s2011 : AIR s2011 := AIR_fm Fs2011 (by decide) JAIR_s2008
            have JCPL_s2011 : CPL s2011 := CPL_fm Fs2011 (by decide) JCPL_s2008
            have JCDJ_s2011 : CDJ U s2011 := CDJ_fm Fs2011 (by decide) JCDJ_s2008
            have JPMJ_s2011 : PMJ s2011 := PMJ_fm Fs2011 (by decide) JPMJ_s2008
            have JCCJ_s2011 : CCJ U s2011 := CCJ_fm Fs2011 (by decide) JCCJ_s2008
            have JMEJ_s2011 : MEJ U s2011 := MEJ_fm Fs2011 (by decide) JMEJ_s2008
            have JWHJ_s2011 : WHJ s2011 := WHJ_fm Fs2011 (by decide) JWHJ_s2008
            have ws2011_25 : iI s2011 25 = iI s2008 25 := fm_iq Fs2011 rfl
            have ws2011_26 : iI s2011 26 = iI s2008 26 := fm_iq Fs2011 rfl
            have ws2011_27 : iI s2011 27 = iI s2008 27 := fm_iq Fs2011 rfl
            have aws2011_21 : SAM 21 t s2011 := sam_ts aws2008_21 (sam_fm Fs2011 (by decide))
            refine z_const X rfl (z_load_n X (x := (iC t 21 (c).toNat)) rfl (List.Mem.head _) (z_bshl X rfl (z_anyV (fun y2013 hy2013 ey2013 => ?_))))
            refine z_const X rfl (z_bxor X rfl (z_anyV (fun y2014 hy2014 ey2014 => ?_)))
            refine w_iand X.1 (ax_d X (show cdA 23 87 = some (.iand, 1, 0, 0, 0) from rfl)) (z_anyV (fun y2015 hy2015 ey2015 => ?_))
            have hOT : OTH (pfC s) (c : Int).toNat y2015 := oth_of (by first | (clear g2010 hps2008 g2007; omega) | (clear hps2008 g2007; omega) | omega) (hfc.trans rfl) (by first | (clear g2010 hps2008 g2007; omega) | (clear hps2008 g2007; omega) | omega) (by have z := hps2011; rw [show pfC s2008 = pfC s from funext (sam_ts hq.2 (fun j => fm_c Fs2008 (by decide)))] at z; exact z) ey2013 ey2014 ey2015
            refine z_store_n X (lv' := [(3, .int (Int32.ofInt y2015)), (2, .int (Int32.ofInt (iC t 21 (c).toNat))), (0, .ref (A 41)), (1, .int (Int32.ofInt c))]) rfl (by decide) (fun _ h => h) (z_load_n X (x := y2015) rfl (List.Mem.head _) (z_if_eq X (t := 100) rfl rfl hy2015 (fun g2016 => ?_) (fun g2016 => ?_)))
            ·
              refine z_inc X (x := c) (lv' := [(1, .int (Int32.ofInt (c + 1))), (3, .int (Int32.ofInt y2015)), (2, .int (Int32.ofInt (iC t 21 (c).toNat))), (0, .ref (A 41))]) rfl (by decide) (List.Mem.tail _ (List.Mem.tail _ (List.Mem.tail _ (List.Mem.head _)))) (fun _ h => h) (z_goto X (t := 44) rfl rfl (WS_pq [3, 0] (lv' := [(0, .ref (A 41)), (1, .int (Int32.ofInt (c + 1)))]) rfl ?_))
              exact ih _ (c + 1) Is2011 Gs2011 JAIR_s2011 JCPL_s2011 JCDJ_s2011 JPMJ_s2011 JCCJ_s2011 JMEJ_s2011 JWHJ_s2011 ⟨(by rw [show 8 * (c + 1 : Int).toNat = 8 * (c : Int).toNat + 8 by first | (clear g2010 hps2008 g2007; omega) | (clear hps2008 g2007; omega) | omega]; exact bst_none (bst_s hq.1 (by first | (clear g2010 hps2008 g2007; omega) | (clear hps2008 g2007; omega) | omega) (by first | (clear g2010 hps2008 g2007; omega) | (clear hps2008 g2007; omega) | omega) (by first | (clear g2010 hps2008 g2007; omega) | (clear hps2008 g2007; omega) | omega)) hOT (by first | (clear g2010 hps2008 g2007; omega) | (clear hps2008 g2007; omega) | omega)), sam_ts hq.2 aws2011_21⟩ (by first | exact ⟨oq_54f49eb5 hi.1, oq_d2afb425 g2004⟩ | omega) (by first | exact qk_me hm (by decide) (oq_c268b7bd g2004) | omega) kx
            ·
              refine z_aload_n X (x := A 41) rfl (List.Mem.tail _ (List.Mem.tail _ (List.Mem.head _))) (z_load_n X (x := c) rfl (List.Mem.tail _ (List.Mem.tail _ (List.Mem.tail _ (List.Mem.head _)))) (z_load_n X (x := (iC t 21 (c).toNat)) rfl (List.Mem.tail _ (List.Mem.head _)) (z_load_n X (x := y2015) rfl (List.Mem.head _) (zcV_v3 X E 41 (As := [.int (Int32.ofInt c), .int (Int32.ofInt (iC t 21 (c).toNat)), .int (Int32.ofInt y2015)]) (st := []) rfl rfl rfl rfl (c2_try3 G Is2011 JAIR_s2011 JCPL_s2011 JCDJ_s2011 JPMJ_s2011 JMEJ_s2011 JWHJ_s2011 (by first | exact ⟨hi.1, oq_04367f15 g2004⟩ | omega) (by first | exact ⟨oq_7a1025bf g2007 b2005.1, b2005.2⟩ | omega) (by first | exact ⟨hy2015.1, hy2015.2⟩ | omega) (aws2011_21 _) (by rw [show pfC s2011 = pfC s from funext (sam_ts hq.2 aws2011_21)]; exact hOT) (bst_c (bst_s hq.1 (by first | (clear g2016 g2010 hps2008 g2007; omega) | (clear g2010 hps2008 g2007; omega) | omega) (by first | (clear g2016 g2010 hps2008 g2007; omega) | (clear g2010 hps2008 g2007; omega) | omega) (by first | (clear g2016 g2010 hps2008 g2007; omega) | (clear g2010 hps2008 g2007; omega) | omega)) (show pfC s = pfC s2011 from (funext (sam_ts hq.2 aws2011_21)).symm) (show (fun j => iC s 24 j) = (fun j => iC s2011 24 j) from (funext (fun j => fm_c Gs2011 (by decide))).symm) rfl)) rfl (Nat.le_of_ble_eq_true rfl) (fun s2017 Is2017 Fs2017 JPMJ_s2017 JMEJ_s2017 JWHJ_s2017 hps2017 => ?_)))))
              have Gs2017 := fm_tq Gs2011 Fs2017 rfl rfl
              have JAIR_s2017 : AIR s2017 := AIR_fm Fs2017 (by decide) JAIR_s2011
              have JCPL_s2017 : CPL s2017 := CPL_fm Fs2017 (by decide) JCPL_s2011
              have JCDJ_s2017 : CDJ U s2017 := CDJ_fm Fs2017 (by decide) JCDJ_s2011
              have JCCJ_s2017 : CCJ U s2017 := CCJ_fm Fs2017 (by decide) JCCJ_s2011
              have b2019 := bi_25 Is2017
              have b2020 := bi_26 Is2017
              have b2021 := bi_27 Is2017
              refine z_inc X (x := c) (lv' := [(1, .int (Int32.ofInt (c + 1))), (3, .int (Int32.ofInt y2015)), (2, .int (Int32.ofInt (iC t 21 (c).toNat))), (0, .ref (A 41))]) rfl (by decide) (List.Mem.tail _ (List.Mem.tail _ (List.Mem.tail _ (List.Mem.head _)))) (fun _ h => h) (z_goto X (t := 44) rfl rfl (WS_pq [3, 0] (lv' := [(0, .ref (A 41)), (1, .int (Int32.ofInt (c + 1)))]) rfl ?_))
              exact ih _ (c + 1) Is2017 Gs2017 JAIR_s2017 JCPL_s2017 JCDJ_s2017 JPMJ_s2017 JCCJ_s2017 JMEJ_s2017 JWHJ_s2017 ⟨(by rw [show 8 * (c + 1 : Int).toNat = 8 * (c : Int).toNat + 8 by first | (clear g2016 g2010 hps2008 g2007; omega) | (clear g2010 hps2008 g2007; omega) | omega]; exact bst_c hps2017.2 (show pfC s2011 = pfC s from funext (sam_ts hq.2 aws2011_21)) (show (fun j => iC s2011 24 j) = (fun j => iC s 24 j) from funext (fun j => fm_c Gs2011 (by decide))) rfl), sam_ts (sam_ts hq.2 aws2011_21) hps2017.1⟩ (by first | exact ⟨oq_54f49eb5 hi.1, oq_d2afb425 g2004⟩ | omega) (by first | exact qk_me hm (by decide) (oq_c268b7bd g2004) | omega) kx
  refine z_aload_n X (x := A 41) rfl (List.Mem.head _) (zcV_v0 X E 41 (As := []) (st := []) rfl rfl rfl rfl (c2_measure3 G I jAIR jCPL jCDJ jPMJ ) rfl (Nat.le_of_ble_eq_true rfl) (fun s4 Is4 Fs4 hps4 => ?_))
  have Gs4 := fm_tq F Fs4 rfl rfl
  have JAIR_s4 : AIR s4 := AIR_fm Fs4 (by decide) jAIR
  have JCPL_s4 : CPL s4 := CPL_fm Fs4 (by decide) jCPL
  have JCDJ_s4 : CDJ U s4 := CDJ_fm Fs4 (by decide) jCDJ
  have JPMJ_s4 : PMJ s4 := PMJ_fm Fs4 (by decide) jPMJ
  have JCCJ_s4 : CCJ U s4 := CCJ_fm Fs4 (by decide) jCCJ
  have ws4_25 : iI s4 25 = iI s 25 := fm_iq Fs4 rfl
  have ws4_26 : iI s4 26 = iI s 26 := fm_iq Fs4 rfl
  have ws4_27 : iI s4 27 = iI s 27 := fm_iq Fs4 rfl
  have aws4_21 : SAM 21 s s4 := sam_ts aw0_21 (sam_fm Fs4 (by decide))
  have hM0 : MEJ U s4 := by unfold MEJ; rw [(show pfC s4 = pfC s from funext (fun j => fm_c Fs4 (by decide)))]; exact hps4
  refine z_const X rfl (z_store_n X (lv' := [(1, .int (Int32.ofInt 0)), (0, .ref (A 41))]) rfl (by decide) (fun _ h => h) (WS_pq [1, 0] (lv' := [(0, .ref (A 41)), (1, .int (Int32.ofInt 0))]) rfl (L6 ((8 - 0 : Int).toNat + 1) s4 0 Is4 Gs4 JAIR_s4 JCPL_s4 JCDJ_s4 JPMJ_s4 JCCJ_s4 hM0 ⟨fun p hp => absurd hp (by omega), aws4_21⟩ (by first | exact ⟨by decide, by decide⟩ | omega) (Nat.lt_succ_self _) ?_)))
  intro s6 x7 Is6 Fs6 JAIR_s6 JCPL_s6 JCDJ_s6 JPMJ_s6 JCCJ_s6 JMEJ_s6 Qs6 hs6
  have b8 := bi_25 Is6
  have b9 := bi_26 Is6
  have b10 := bi_27 Is6
  have hW0 : WHJ s6 := fun p hp => by rw [show pfC s6 = pfC s from funext Qs6.2]; exact Qs6.1 p (by omega)
  refine z_aload_n X (x := A 41) rfl (List.Mem.head _) (z_const X rfl (s_putI X 41 rfl (c518_ok rfl) rfl rfl (by decide) rfl rfl rfl (wd_gen (fun s11 hs11 => ?_))))
  have Is11 : Bd s11 := eqB hs11 (bd_I Is6 (show ((-1) : Int) ≤ (-1) ∧ (-1) ≤ 127 by first | exact ⟨by decide, by decide⟩ | omega) (by decide))
  have Fs11 := eqF hs11 (fm_I Fs6 (inl_ok (a := 25) rfl))
  have vs11 : iI s11 25 = (-1) := eqI hs11 (iI_u (by decide))
  have ws11_26 : iI s11 26 = iI s6 26 := eqI hs11 rfl
  have ws11_27 : iI s11 27 = iI s6 27 := eqI hs11 rfl
  have aws11_21 : SAM 21 s6 s11 := by rw [hs11]; exact (sam_rf (a := 21) (s := s6))
  have fs11 : Fm [25] [] s6 s11 := by rw [hs11]; exact fm_I (fm_rf _ _ _) (show 25 ∈ _ by decide)
  have JAIR_s11 : AIR s11 := AIR_fm fs11 (by decide) JAIR_s6
  have JCPL_s11 : CPL s11 := CPL_fm fs11 (by decide) JCPL_s6
  have JCDJ_s11 : CDJ U s11 := CDJ_fm fs11 (by decide) JCDJ_s6
  have JPMJ_s11 : PMJ s11 := PMJ_fm fs11 (by decide) JPMJ_s6
  have JCCJ_s11 : CCJ U s11 := CCJ_fm fs11 (by decide) JCCJ_s6
  have JMEJ_s11 : MEJ U s11 := MEJ_fm fs11 (by decide) JMEJ_s6
  have JWHJ_s11 : WHJ s11 := WHJ_fm fs11 (by decide) hW0
  refine z_aload_n X (x := A 41) rfl (List.Mem.head _) (z_aload_n X (x := A 41) rfl (List.Mem.head _) (zcV_i0 X E 41 (As := []) (st := [.ref (A 41)]) rfl rfl rfl rfl (c2_price3 G Is11 JAIR_s11 JCDJ_s11 ) rfl (Nat.le_of_ble_eq_true rfl) (fun s12 e13 Is12 Fs12 hrs12 hps12 => ?_)))
  have Gs12 := fm_tq Fs11 Fs12 rfl rfl
  have JAIR_s12 : AIR s12 := AIR_fm Fs12 (by decide) JAIR_s11
  have JCPL_s12 : CPL s12 := CPL_fm Fs12 (by decide) JCPL_s11
  have JCDJ_s12 : CDJ U s12 := CDJ_fm Fs12 (by decide) JCDJ_s11
  have JPMJ_s12 : PMJ s12 := PMJ_fm Fs12 (by decide) JPMJ_s11
  have JCCJ_s12 : CCJ U s12 := CCJ_fm Fs12 (by decide) JCCJ_s11
  have JMEJ_s12 : MEJ U s12 := MEJ_fm Fs12 (by decide) JMEJ_s11
  have JWHJ_s12 : WHJ s12 := WHJ_fm Fs12 (by decide) JWHJ_s11
  have ws12_25 : iI s12 25 = iI s11 25 := fm_iq Fs12 rfl
  have ws12_26 : iI s12 26 = iI s11 26 := fm_iq Fs12 rfl
  have ws12_27 : iI s12 27 = iI s11 27 := fm_iq Fs12 rfl
  have aws12_21 : SAM 21 s6 s12 := sam_ts aws11_21 (sam_fm Fs12 (by decide))
  have hC0 : CST U (pfC s) e13 := pn_cst (u_wok JAIR_s11 JCDJ_s11) (fun j hj => I0.2 21 j hj) (by have z := JMEJ_s11; unfold MEJ at z; rw [show pfC s11 = pfC s from funext (sam_ts Qs6.2 aws11_21)] at z; exact z) hps12
  refine s_putI X 41 rfl (c518_ok rfl) rfl rfl (by decide) rfl rfl rfl (wd_gen (fun s14 hs14 => ?_))
  have Is14 : Bd s14 := eqB hs14 (bd_I Is12 (show ((-2147483648) : Int) ≤ e13 ∧ e13 ≤ 2147483647 by first | (clear hps12; omega) | omega) hrs12)
  have Fs14 := eqF hs14 (fm_I Gs12 (inl_ok (a := 27) rfl))
  have vs14 : iI s14 27 = e13 := eqI hs14 (iI_u hrs12)
  have ws14_25 : iI s14 25 = iI s12 25 := eqI hs14 rfl
  have ws14_26 : iI s14 26 = iI s12 26 := eqI hs14 rfl
  have aws14_21 : SAM 21 s6 s14 := by rw [hs14]; exact aws12_21
  have fs14 : Fm [27] [] s12 s14 := by rw [hs14]; exact fm_I (fm_rf _ _ _) (show 27 ∈ _ by decide)
  have JAIR_s14 : AIR s14 := AIR_fm fs14 (by decide) JAIR_s12
  have JCPL_s14 : CPL s14 := CPL_fm fs14 (by decide) JCPL_s12
  have JCDJ_s14 : CDJ U s14 := CDJ_fm fs14 (by decide) JCDJ_s12
  have JPMJ_s14 : PMJ s14 := PMJ_fm fs14 (by decide) JPMJ_s12
  have JCCJ_s14 : CCJ U s14 := CCJ_fm fs14 (by decide) JCCJ_s12
  have JMEJ_s14 : MEJ U s14 := MEJ_fm fs14 (by decide) JMEJ_s12
  have JWHJ_s14 : WHJ s14 := WHJ_fm fs14 (by decide) JWHJ_s12
  refine z_const X rfl (z_store_n X (lv' := [(1, .int (Int32.ofInt 0)), (0, .ref (A 41))]) rfl (by decide) (fun _ h => h) (WS_pq [1, 0] (lv' := [(0, .ref (A 41)), (1, .int (Int32.ofInt 0))]) rfl (L44 ((128 - 0 : Int).toNat + 1) s14 0 Is14 Fs14 JAIR_s14 JCPL_s14 JCDJ_s14 JPMJ_s14 JCCJ_s14 JMEJ_s14 JWHJ_s14 ⟨bst_c (bst_0 (f := pfC s) (lim := (fun j => iC s 24 j)) (by rw [show iI s14 27 = e13 by first | (clear hps12; omega) | omega]; exact hC0) (by first | (clear hps12; omega) | omega)) rfl rfl (by decide), sam_ts Qs6.2 aws14_21⟩ (by first | exact ⟨by decide, by decide⟩ | omega) (Nat.lt_succ_self _) ?_)))
  intro s15 x16 Is15 Fs15 JAIR_s15 JCPL_s15 JCDJ_s15 JPMJ_s15 JCCJ_s15 JMEJ_s15 JWHJ_s15 Qs15 hs15
  have b17 := bi_25 Is15
  have b18 := bi_26 Is15
  have b19 := bi_27 Is15
  refine z_aload_n X (x := A 41) rfl (List.Mem.head _) (z_getI X 41 rfl (c518_ok rfl) rfl rfl ?_)
  have b20 := bi_25 Is15
  refine z_const X rfl (z_icmp_eq X (t := 118) rfl rfl (rng_to _) (by decide) (fun g21 => ?_) (fun g21 => ?_))
  ·
    refine z_const X rfl ?_
    exact w_iret X.1 q hRt (nar_ret (by first | exact Or.inl (by decide) | omega)) (ax_d X (show cdA 23 119 = some (.ireturn, 1, 0, 0, 0) from rfl)) (Nat.zero_le _) (Nat.zero_le _) ⟨_, rfl, Is15, Fs15, JPMJ_s15, 0, rfl, (by decide), ⟨by first | exact Or.inl (by decide) | omega, Qs15.2, by have z := Qs15.1; rw [show 8 * (x16 : Int).toNat = 1024 by first | (clear hps12; omega) | omega] at z; exact z, by first | exact Or.inr (And.intro (by decide) (g21)) | omega⟩⟩
  ·
    refine z_const X rfl (z_goto X (t := 119) rfl rfl ?_)
    exact w_iret X.1 q hRt (nar_ret (by first | exact Or.inr (by decide) | omega)) (ax_d X (show cdA 23 119 = some (.ireturn, 1, 0, 0, 0) from rfl)) (Nat.zero_le _) (Nat.zero_le _) ⟨_, rfl, Is15, Fs15, JPMJ_s15, 1, rfl, (by decide), ⟨by first | exact Or.inr (by decide) | omega, Qs15.2, by have z := Qs15.1; rw [show 8 * (x16 : Int).toNat = 1024 by first | (clear g21 hps12; omega) | (clear hps12; omega) | omega] at z; exact z, by first | exact oq_e0dc1a50 g21 b20.1 | omega⟩⟩
end M87y
