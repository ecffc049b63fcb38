theorem oq_fd6e9ee3 {a0 a1 a2 a3 : Int} (h0 : a0 < a1) (h1 : a2 < a3) (h2 : a1 ≤ 23) (h3 : a3 ≤ 12) : ((a0 * 12) + a2) < 288 := by omega
theorem oq_7632bb3e {a0 a1 a2 a3 : Int} (h0 : a0 < a1) (h1 : a2 < a3) (h2 : a1 ≤ 23) (h3 : a3 ≤ 12) : (((a0 * 12) + a2) : Int).toNat < 288 := by omega
theorem oq_e37f36f8 {a0 a1 : Int} (h0 : a0 < a1) (h1 : a1 ≤ 23) : 0 < (24 - a0) := by omega
theorem oq_74680d82 {a0 a1 : Int} (h0 : a0 < a1) (h1 : a1 ≤ 23) : a0 ≤ 2147483647 := by omega
theorem oq_500f2c54 {a0 a1 : Int} (h0 : a0 ≤ a1) (h1 : a1 < 24) : a0 ≤ 23 := by omega
/-! Streams: the air kept, twins -/
theorem par_wok {B : Nat → Int} {N : Int} {t : PS} (h : PAR B N t) : WOK (fun k => iC t 15 k) (iI t 11) := by
  obtain ⟨a, h1, h2, -⟩ := h
  have w := parse_wok h1
  rw [← h2.1]
  exact wok_c w (fun k hk => (h2.2 k hk).symm)
/-- two quarters with the same mosts, for n streams -/
def TWP (x e n : Int) (s : PS) : Prop := ∀ j : Nat, (j : Int) < n → iC s 11 (x * 12 + (j : Int)).toNat = iC s 11 (e * 12 + (j : Int)).toNat
theorem twp_rf {x n : Int} {s : PS} : TWP x x n s := fun _ _ => rfl
theorem twp_up {x e n : Int} {s : PS} (h : TWP x e n s) (n0 : 0 ≤ n) (hv : iC s 11 (x * 12 + n).toNat = iC s 11 (e * 12 + n).toNat) : TWP x e (n + 1) s := fun j hj => by
  by_cases z : j = n.toNat
  · rw [show (j : Int) = n by omega]; exact hv
  · exact h j (by omega)
/-- the twins of the first n quarters -/
def TWN (n : Int) (s : PS) : Prop := ∀ q : Nat, (q : Int) < n → (0 ≤ iC s 14 q ∧ iC s 14 q ≤ (q : Int)) ∧ TWP (q : Int) (iC s 14 q) (iI s 9) s
def TWJ (s : PS) : Prop := TWN 24 s
theorem twn_up {n e : Int} {t u : PS} (h : TWN n t) (n0 : 0 ≤ n) (he : (0 ≤ e ∧ e ≤ n) ∧ TWP n e (iI t 9) t) (hu : UPD 14 n e t u) (hm : ∀ j : Nat, iC u 11 j = iC t 11 j) (hc : iI u 9 = iI t 9) : TWN (n + 1) u := fun q hq => by
  by_cases z : q = n.toNat
  · rw [z, hu.1, hc, show ((n.toNat : Nat) : Int) = n by omega]
    exact ⟨he.1, fun j hj => by rw [hm, hm]; exact he.2 j hj⟩
  · rw [hu.2 q z, hc]
    have w := h q (by omega)
    exact ⟨w.1, fun j hj => by rw [hm, hm]; exact w.2 j hj⟩
theorem TWJ_fm {L M : List Nat} {s t : PS} (F : Fm L M s t) (h : 9 ∉ L ∧ 14 ∉ M ∧ 11 ∉ M) (r : TWJ s) : TWJ t := fun q hq => by
  have w := r q hq
  rw [fm_c F h.2.1, fm_i F h.1]
  exact ⟨w.1, fun j hj => by rw [fm_c F h.2.2, fm_c F h.2.2]; exact w.2 j hj⟩
/-- a new stream: nobody flies it yet -/
theorem twj_new {s t : PS} (r : TWJ s) (hc : iI t 9 = iI s 9 + 1) (c0 : 0 ≤ iI s 9) (h1 : ∀ j : Nat, iC t 14 j = iC s 14 j) (h2 : ∀ j : Nat, iC t 11 j = iC s 11 j) (hz : ∀ q : Nat, q < 24 → iC s 11 ((q : Int) * 12 + iI s 9).toNat = 0) : TWJ t := fun q hq => by
  have w := r q hq
  rw [h1, hc]
  refine ⟨w.1, fun j hj => ?_⟩
  rw [h2, h2]
  by_cases z : (j : Int) = iI s 9
  · rw [z, hz q (by omega)]
    have e := hz (iC s 14 q).toNat (by omega)
    rw [show (((iC s 14 q).toNat : Nat) : Int) = iC s 14 q by omega] at e
    exact e.symm
  · exact w.2 j (by omega)
theorem cwf_s {x w : Int} {s t : PS} (h : CWF x w s t) : iC t 2 x.toNat = w := h.2.1
theorem cwf_s2 {x w : Int} {s t : PS} (h : CWF x w s t) : ∀ j : Nat, j < x.toNat → iC t 2 j = iC s 2 j := fun j hj => h.2.2 j (by omega)
theorem cwf_c {x w : Int} {s t : PS} (h : CWF x w s t) (x0 : 0 ≤ x) (x1 : x ≤ 11) (w0 : w ≤ 24) : ∀ k : Nat, (k : Int) < w → iC t 1 (24 * x.toNat + k) = iC s 15 k := fun k hk => by
  rw [h.1 _ (by omega), if_pos (by omega), show 24 * x.toNat + k - (x * 24).toNat = k by omega]
theorem cwf_c2 {x w : Int} {s t : PS} (h : CWF x w s t) (x0 : 0 ≤ x) (x1 : x ≤ 11) : ∀ j : Nat, j < 24 * x.toNat → iC t 1 j = iC s 1 j := fun j hj => by
  rw [h.1 _ (by omega), if_neg (by omega)]
section M87k5
variable {l : Launch} {s0 : State} {D : va_G} {tys : List (ClassId × FieldType)} {a0 : Array Value} {A : Nat → Nat} {dT : Nat → ClassId} {s : PS}
set_option maxRecDepth 4000 in
theorem c9_addTrial5 (G : GX l s0 D tys a0 dT) (I : Bd s) (jAIR : AIR s) (jCPL : CPL s) (p0 : WOK (fun k => iC s 15 k) (iI s 11)) : CT l s0 D A dT 106 (rmN 106) [.ref (A 3)] s (fun o t => Bd t ∧ Fm [9, 10] [1, 2, 6, 1003, 1004, 1005, 1007] s t ∧ AIR t ∧ CPL t ∧ ∃ e, o = .inl (some (.int (Int32.ofInt e))) ∧ rng e ∧ ((iI s 9 = 12 ∧ iI t 9 = 12 ∧ SAM 1 s t ∧ SAM 2 s t) ∨ (iI s 9 ≤ 11 ∧ iI t 9 = iI s 9 + 1 ∧ CWF (iI s 9) (iI s 11) s t))) := by
  refine ct_ofX G (by decide) (Nat.le_of_ble_eq_true rfl) (fun k X E ET hRt hXt q => ?_)
  show WS k 0 [(0, .ref (A 3))] [] _ 0 0
  have F : Fm [9, 10] [1, 2, 6, 1003, 1004, 1005, 1007] s s := fm_rf _ _ s
  have aw0_1 : SAM 1 s s := sam_rf
  have aw0_2 : SAM 2 s s := sam_rf
  have hWk := p0.1
  have b1 := bi_9 I
  have b2 := bi_11 I
  refine z_aload_n X (x := A 3) rfl (List.Mem.head _) (z_getI X 3 rfl (c518_ok rfl) rfl rfl ?_)
  have b3 := bi_9 I
  refine z_bipush X rfl (z_icmp_lt X (t := 11) rfl rfl (rng_to _) (by decide) (fun g4 => ?_) (fun g4 => ?_))
  ·
    refine z_aload_n X (x := A 3) rfl (List.Mem.head _) (z_aload_n X (x := A 3) rfl (List.Mem.head _) (z_getI X 3 rfl (c518_ok rfl) rfl rfl ?_))
    have b5 := bi_9 I
    refine z_aload_n X (x := A 3) rfl (List.Mem.head _) (s_getR X 3 rfl (c518_ok rfl) rfl rfl (z_const X rfl (z_aload_n X (x := A 3) rfl (List.Mem.head _) (z_getI X 3 rfl (c518_ok rfl) rfl rfl ?_))))
    have b6 := bi_11 I
    refine zcV_v0 X E 3 (As := [.int (Int32.ofInt (iI s 9)), .ref (A 18), .int (Int32.ofInt 0), .int (Int32.ofInt (iI s 11))]) (st := []) rfl rfl rfl rfl (c9_setWay3 G I (by first | exact ⟨b5.1, oq_a1a2e1c8 g4⟩ | omega) (by first | exact ⟨b6.1, b6.2⟩ | omega) (by first | exact ⟨by decide, oq_4854286b b6.2⟩ | omega)) rfl (Nat.le_of_ble_eq_true rfl) (fun s7 Is7 Fs7 hps7 => ?_)
    have Gs7 := fm_tq F Fs7 rfl rfl
    have ws7_9 : iI s7 9 = iI s 9 := fm_iq Fs7 rfl
    have ws7_11 : iI s7 11 = iI s 11 := fm_iq Fs7 rfl
    refine z_aload_n X (x := A 3) rfl (List.Mem.head _) (w_dup X.1 (ax_d X (show cdA 106 29 = some (.dup, 1, 0, 0, 0) from rfl)) rfl (z_getI X 3 rfl (c518_ok rfl) rfl rfl ?_))
    have b9 := bi_9 Is7
    refine z_const X rfl (z_add X rfl (s_putI X 3 rfl (c518_ok rfl) rfl rfl (by decide) rfl rfl rfl (wd_gen (fun s10 hs10 => ?_))))
    have Is10 : Bd s10 := eqB hs10 (bd_I Is7 (show (0 : Int) ≤ ((iI s7 9) + 1) ∧ ((iI s7 9) + 1) ≤ 12 by first | exact ⟨oq_54f49eb5 b9.1, oq_3bc6d8e6 ws7_9 g4⟩ | omega) ⟨by first | exact oq_74de1e16 b9.1 | omega, by first | exact oq_76a8a5b7 b9.2 | omega⟩)
    have Fs10 := eqF hs10 (fm_I Gs7 (inl_ok (a := 9) rfl))
    have vs10 : iI s10 9 = ((iI s7 9) + 1) := eqI hs10 (iI_u ⟨by first | exact oq_74de1e16 b9.1 | omega, by first | exact oq_76a8a5b7 b9.2 | omega⟩)
    have ws10_11 : iI s10 11 = iI s7 11 := eqI hs10 rfl
    have aws10_1 : SAM 1 s7 s10 := by rw [hs10]; exact (sam_rf (a := 1) (s := s7))
    have aws10_2 : SAM 2 s7 s10 := by rw [hs10]; exact (sam_rf (a := 2) (s := s7))
    have hAIR : AIR s10 := air_up (w := iI s 11) jAIR (by omega) (by omega) (by rw [hs10]; exact hps7.2) p0 (by rw [hs10]; exact cwf_s hps7.1) (fun k hk => by rw [hs10]; exact cwf_c hps7.1 (by omega) (by omega) (by omega) k hk) (fun j hj => by rw [hs10]; exact cwf_s2 hps7.1 j hj) (fun j hj => by rw [hs10]; exact cwf_c2 hps7.1 (by omega) (by omega) j hj)
    refine z_aload_n X (x := A 3) rfl (List.Mem.head _) (zcV_v0 X E 3 (As := []) (st := []) rfl rfl rfl rfl (c9_pairUp3 G Is10 ) rfl (Nat.le_of_ble_eq_true rfl) (fun s11 Is11 Fs11 hps11 => ?_))
    have Gs11 := fm_tq Fs10 Fs11 rfl rfl
    have JAIR_s11 : AIR s11 := AIR_fm Fs11 (by decide) hAIR
    have ws11_9 : iI s11 9 = iI s10 9 := fm_iq Fs11 rfl
    have ws11_11 : iI s11 11 = iI s10 11 := fm_iq Fs11 rfl
    have aws11_1 : SAM 1 s7 s11 := sam_ts aws10_1 (sam_fm Fs11 (by decide))
    have aws11_2 : SAM 2 s7 s11 := sam_ts aws10_2 (sam_fm Fs11 (by decide))
    refine z_aload_n X (x := A 3) rfl (List.Mem.head _) (z_getI X 3 rfl (c518_ok rfl) rfl rfl ?_)
    have b13 := bi_9 Is11
    refine z_const X rfl (z_sub X rfl ?_)
    exact w_iret X.1 q hRt rfl (ax_d X (show cdA 106 48 = some (.ireturn, 1, 0, 0, 0) from rfl)) (Nat.zero_le _) (Nat.zero_le _) ⟨_, rfl, Is11, Gs11, JAIR_s11, hps11, ((iI s11 9) - 1), rfl, ⟨by first | exact oq_c1e961c7 b13.1 | omega, by first | exact oq_d526ebd3 b13.2 | omega⟩, Or.inr ⟨by first | exact oq_a1a2e1c8 g4 | omega, by first | exact oq_20fce6d9 ws11_9 vs10 ws7_9 | omega, cwf_sam hps7.1 aws11_1 aws11_2⟩⟩
  ·
    refine z_const X rfl ?_
    exact w_iret X.1 q hRt rfl (ax_d X (show cdA 106 10 = some (.ireturn, 1, 0, 0, 0) from rfl)) (Nat.zero_le _) (Nat.zero_le _) ⟨_, rfl, I, F, jAIR, jCPL, (-1), rfl, (by decide), Or.inl ⟨by first | exact oq_8e7d85da b3.2 g4 | omega, by first | exact oq_8e7d85da b3.2 g4 | omega, aw0_1, aw0_2⟩⟩
set_option maxRecDepth 4000 in
theorem cs_stream5 (G : GX l s0 D tys a0 dT) {B : Nat → Int} (I : Bd s) (jBYA : BYA B s) (jAIR : AIR s) (jCPL : CPL s) {w : Int} (p0 : rng w) : CT l s0 D A dT 136 (rmN 136) [.ref (A 0), .int (Int32.ofInt w)] s (fun o t => Bd t ∧ Fm [11, 9, 10, 2, 4, 6, 5, 1, 3, 0, 7, 8] [15, 1, 2, 6, 1003, 1004, 1005, 1007] s t ∧ AIR t ∧ CPL t ∧ ((∃ e, o = .inl (some (.int (Int32.ofInt e))) ∧ rng e ∧ (iI t 0 = 0 ∧ 0 ≤ w ∧ w ≤ iI s 0 ∧ w ≤ 100 ∧ STRx B w (iI s 9) (iI t 9) ∧ WNC B w s t)) ∨ ∃ x : Nat, o = .inr (exN x) ∧ (x = 0 ∧ iI t 0 = iI s 0 ∧ (w < 0 ∨ iI s 0 < w ∨ 100 < w) ∧ iI t 9 = iI s 9 ∧ SAM 1 s t ∧ SAM 2 s t))) := by
  refine ct_ofX G (by decide) (Nat.le_of_ble_eq_true rfl) (fun k X E ET hRt hXt q => ?_)
  show WS k 0 [(0, .ref (A 0)), (1, .int (Int32.ofInt w))] [] _ 0 0
  have F : Fm [11, 9, 10, 2, 4, 6, 5, 1, 3, 0, 7, 8] [15, 1, 2, 6, 1003, 1004, 1005, 1007] s s := fm_rf _ _ s
  have aw0_1 : SAM 1 s s := sam_rf
  have aw0_2 : SAM 2 s s := sam_rf
  have b1 := bi_0 I
  have b2 := bi_9 I
  have b3 := bi_11 I
  have b4 := bi_2 I
  have b5 := bi_1 I
  have b6 := bi_4 I
  refine z_load_n X (x := w) rfl (List.Mem.tail _ (List.Mem.head _)) (z_if_lt X (t := 21) rfl rfl ⟨by first | exact p0.1 | omega, by first | exact p0.2 | omega⟩ (fun g7 => ?_) (fun g7 => ?_))
  ·
    exact z_throw G X E ET hXt q (st := []) rfl (by decide) (by decide) (Nat.le_of_ble_eq_true rfl) (show 0 + 1 ≤ 1 by decide) (show 0 + 6 ≤ 6 by decide) (show 0 + 1 ≤ 1 by decide) (show 0 + 6 ≤ 6 by decide) ⟨_, rfl, I, F, jAIR, jCPL, Or.inr ⟨0, rfl, ⟨by omega, by omega, by omega, by omega, aw0_1, aw0_2⟩⟩⟩
  ·
    refine z_load_n X (x := w) rfl (List.Mem.tail _ (List.Mem.head _)) (z_aload_n X (x := A 0) rfl (List.Mem.head _) (s_getR X 0 rfl (c518_ok rfl) rfl rfl (z_getI X 1 rfl (c518_ok rfl) rfl rfl ?_)))
    have b8 := bi_0 I
    refine z_icmp_gt X (t := 21) rfl rfl ⟨by first | exact p0.1 | omega, by first | exact p0.2 | omega⟩ (rng_to _) (fun g9 => ?_) (fun g9 => ?_)
    ·
      exact z_throw G X E ET hXt q (st := []) rfl (by decide) (by decide) (Nat.le_of_ble_eq_true rfl) (show 0 + 1 ≤ 1 by decide) (show 0 + 6 ≤ 6 by decide) (show 0 + 1 ≤ 1 by decide) (show 0 + 6 ≤ 6 by decide) ⟨_, rfl, I, F, jAIR, jCPL, Or.inr ⟨0, rfl, ⟨by omega, by omega, by omega, by omega, aw0_1, aw0_2⟩⟩⟩
    ·
      refine z_load_n X (x := w) rfl (List.Mem.tail _ (List.Mem.head _)) (z_bipush X rfl (z_icmp_le X (t := 31) rfl rfl ⟨by first | exact p0.1 | omega, by first | exact p0.2 | omega⟩ (by decide) (fun g10 => ?_) (fun g10 => ?_)))
      ·
        refine z_aload_n X (x := A 0) rfl (List.Mem.head _) (s_getR X 0 rfl (c518_ok rfl) rfl rfl (z_load_n X (x := w) rfl (List.Mem.tail _ (List.Mem.head _)) (z_const X rfl (zcV_v1 X E 1 (As := [.int (Int32.ofInt w), .int (Int32.ofInt 0)]) (st := []) rfl rfl rfl rfl (c10_open2 G I jBYA (by first | exact ⟨g7, oq_6ab87361 g10⟩ | omega) (by decide)) rfl (Nat.le_of_ble_eq_true rfl) (fun s11 Is11 Fs11 JBYB_s11 hps11 => ?_)))))
        have Gs11 := fm_tq F Fs11 rfl rfl
        have JBYA_s11 : BYA B s11 := BYA_fm Fs11 (by decide) jBYA
        have JAIR_s11 : AIR s11 := AIR_fm Fs11 (by decide) jAIR
        have JCPL_s11 : CPL s11 := CPL_fm Fs11 (by decide) jCPL
        have b13 := bi_0 Is11
        have ws11_9 : iI s11 9 = iI s 9 := fm_iq Fs11 rfl
        have ws11_11 : iI s11 11 = iI s 11 := fm_iq Fs11 rfl
        have b14 := bi_2 Is11
        have b15 := bi_1 Is11
        have b16 := bi_4 Is11
        have aws11_1 : SAM 1 s s11 := sam_ts aw0_1 (sam_fm Fs11 (by decide))
        have aws11_2 : SAM 2 s s11 := sam_ts aw0_2 (sam_fm Fs11 (by decide))
        refine z_aload_n X (x := A 0) rfl (List.Mem.head _) (s_getR X 0 rfl (c518_ok rfl) rfl rfl (z_aload_n X (x := A 0) rfl (List.Mem.head _) (s_getR X 0 rfl (c518_ok rfl) rfl rfl (zcV_i1 X E 3 (As := [.ref (A 1)]) (st := []) rfl rfl rfl rfl (c9_readWay2 G hps11.2.2.2.2 hps11.2.2.2.1 Is11 JBYB_s11 (by first | exact hps11.2.1 | omega) (by first | exact hps11.2.2.1 | omega) (by omega)) rfl (Nat.le_of_ble_eq_true rfl) (fun s17 e18 Is17 Fs17 JBYB_s17 hrs17 hps17 => ?_)))))
        have hps17p := And.intro hps17.2.1 (hps17.2.2.1)
        have Gs17 := fm_tq Gs11 Fs17 rfl rfl
        have JBYA_s17 : BYA B s17 := BYA_fm Fs17 (by decide) JBYA_s11
        have JAIR_s17 : AIR s17 := AIR_fm Fs17 (by decide) JAIR_s11
        have JCPL_s17 : CPL s17 := CPL_fm Fs17 (by decide) JCPL_s11
        have JBYB_s17 : BYB B w s17 := BYB_fm Fs17 (by decide) JBYB_s11
        have ws17_0 : iI s17 0 = iI s11 0 := fm_iq Fs17 rfl
        have ws17_9 : iI s17 9 = iI s11 9 := fm_iq Fs17 rfl
        have b19 := bi_11 Is17
        have b20 := bi_2 Is17
        have ws17_1 : iI s17 1 = iI s11 1 := fm_iq Fs17 rfl
        have b21 := bi_4 Is17
        have aws17_1 : SAM 1 s s17 := sam_ts aws11_1 (sam_fm Fs17 (by decide))
        have aws17_2 : SAM 2 s s17 := sam_ts aws11_2 (sam_fm Fs17 (by decide))
        refine z_if_ne X (t := 65) rfl rfl hrs17 (fun g22 => ?_) (fun g22 => ?_)
        ·
          refine z_aload_n X (x := A 0) rfl (List.Mem.head _) (s_getR X 0 rfl (c518_ok rfl) rfl rfl (zcV_i2 X E 3 (As := []) (st := []) rfl rfl rfl rfl (c9_addTrial5 G Is17 JAIR_s17 JCPL_s17 (par_wok (par_p hps17.2.2.2 (by first | (clear g22 hps17; omega) | (clear hps17; omega) | omega)))) rfl (Nat.le_of_ble_eq_true rfl) (fun s23 e24 Is23 Fs23 JAIR_s23 JCPL_s23 hrs23 hps23 => ?_)))
          have Gs23 := fm_tq Gs17 Fs23 rfl rfl
          have JBYA_s23 : BYA B s23 := BYA_fm Fs23 (by decide) JBYA_s17
          have JBYB_s23 : BYB B w s23 := BYB_fm Fs23 (by decide) JBYB_s17
          have ws23_0 : iI s23 0 = iI s17 0 := fm_iq Fs23 rfl
          have b25 := bi_9 Is23
          have ws23_11 : iI s23 11 = iI s17 11 := fm_iq Fs23 rfl
          have ws23_2 : iI s23 2 = iI s17 2 := fm_iq Fs23 rfl
          have ws23_1 : iI s23 1 = iI s17 1 := fm_iq Fs23 rfl
          have ws23_4 : iI s23 4 = iI s17 4 := fm_iq Fs23 rfl
          exact w_iret X.1 q hRt rfl (ax_d X (show cdA 136 72 = some (.ireturn, 1, 0, 0, 0) from rfl)) (Nat.zero_le _) (Nat.zero_le _) ⟨_, rfl, Is23, Gs23, JAIR_s23, JCPL_s23, Or.inl ⟨e24, rfl, hrs23, ⟨by first | exact oq_7fe879e0 ws23_0 ws17_0 hps11.1 b13.1 | omega, by first | exact g7 | omega, by first | exact g9 | omega, by first | exact g10 | omega, str_y (par_y hps17.2.2.2 (by first | (clear hps23 g22 hps17; omega) | (clear g22 hps17; omega) | omega)) (by have hz9 := at_c hps23; omega), wnc_at hps23 (par_p hps17.2.2.2 (by first | (clear hps23 g22 hps17; omega) | (clear g22 hps17; omega) | omega)) aws17_1 aws17_2 (by first | (clear hps23 g22 hps17; omega) | (clear g22 hps17; omega) | omega) (by first | (clear hps23 g22 hps17; omega) | (clear g22 hps17; omega) | omega)⟩⟩⟩
        ·
          refine z_aload_n X (x := A 0) rfl (List.Mem.head _) (s_getR X 0 rfl (c518_ok rfl) rfl rfl (z_getI X 1 rfl (c518_ok rfl) rfl rfl ?_))
          have b26 := bi_7 Is17
          refine z_bipush X rfl (z_sub X rfl ?_)
          exact w_iret X.1 q hRt rfl (ax_d X (show cdA 136 64 = some (.ireturn, 1, 0, 0, 0) from rfl)) (Nat.zero_le _) (Nat.zero_le _) ⟨_, rfl, Is17, Gs17, JAIR_s17, JCPL_s17, Or.inl ⟨((iI s17 7) - 10), rfl, ⟨by first | exact oq_d3c9ade5 b26.1 | omega, by first | exact oq_71609f9f b26.2 | omega⟩, ⟨by first | exact oq_333640b7 ws17_0 hps11.1 b13.1 | omega, by first | exact g7 | omega, by first | exact g9 | omega, by first | exact g10 | omega, str_n (par_n hps17.2.2.2 (by first | (clear hps17; omega) | omega)) (by first | (clear hps17; omega) | omega) (by first | (clear hps17; omega) | omega), Or.inl ⟨by first | (clear hps17; omega) | omega, aws17_1, aws17_2⟩⟩⟩⟩
      ·
        exact z_throw G X E ET hXt q (st := []) rfl (by decide) (by decide) (Nat.le_of_ble_eq_true rfl) (show 0 + 1 ≤ 1 by decide) (show 0 + 6 ≤ 6 by decide) (show 0 + 1 ≤ 1 by decide) (show 0 + 6 ≤ 6 by decide) ⟨_, rfl, I, F, jAIR, jCPL, Or.inr ⟨0, rfl, ⟨by omega, by omega, by omega, by omega, aw0_1, aw0_2⟩⟩⟩
set_option maxRecDepth 4000 in
theorem lw_stream5 (G : GX l s0 D tys a0 dT) {B : Nat → Int} (I : Bd s) (jBYA : BYA B s) (jAIR : AIR s) (jCPL : CPL s) {w : Int} (p0 : rng w) : CTL l s0 D A dT 314 (rmN 314) [.ref (A 0), .int (Int32.ofInt w), .ref (A 517)] s (fun o t => Bd t ∧ Fm [11, 9, 10, 2, 4, 6, 5, 1, 3, 0, 7, 8] [15, 1, 2, 6, 1003, 1004, 1005, 1007, 1460] s t ∧ AIR t ∧ CPL t ∧ ∃ e, o = .inl (some (.int (Int32.ofInt e))) ∧ rng e ∧ ((e = 0 ∧ iI t 0 = 0 ∧ 0 ≤ w ∧ w ≤ iI s 0 ∧ w ≤ 100 ∧ STRx B w (iI s 9) (iI t 9) ∧ WNC B w s t) ∨ (e = 1 ∧ iI t 0 = iI s 0 ∧ (w < 0 ∨ iI s 0 < w ∨ 100 < w) ∧ iI t 9 = iI s 9 ∧ SAM 1 s t ∧ SAM 2 s t))) := by
  refine ctL_of G (by decide) (Nat.le_of_ble_eq_true rfl) (by decide) rfl (fun k X E ET hRt hEx q => ?_)
  show WS k 0 [(0, .ref (A 0)), (1, .int (Int32.ofInt w)), (2, .ref (A 517))] [] _ 0 0
  have F : Fm [11, 9, 10, 2, 4, 6, 5, 1, 3, 0, 7, 8] [15, 1, 2, 6, 1003, 1004, 1005, 1007, 1460] s s := fm_rf _ _ s
  have hA := swA_rf A
  have b1 := bi_0 I
  have b2 := bi_9 I
  refine z_aload_n X (x := A 517) rfl (List.Mem.tail _ (List.Mem.tail _ (List.Mem.head _))) (z_const X rfl (z_aload_n X (x := A 0) rfl (List.Mem.head _) (z_load_n X (x := w) rfl (List.Mem.tail _ (List.Mem.head _)) (z_callV X 0 (rm := rmN 136) (As := [.int (Int32.ofInt w)]) (st := [.int (Int32.ofInt 0), .ref (A 517)]) rfl rfl (by decide) rfl (by rw [E.1, E.2.1, E.2.2.1]; exact cs_stream5 G I jBYA jAIR jCPL (by omega)) ⟨by rw [E.2.2.2]; exact (show (rmN 136).frames + 1 ≤ (rmN 314).frames by decide), by rw [E.2.2.2]; exact (show 8 + (mNL (miB 136) + 11) + (rmN 136).locals ≤ (rmN 314).locals by decide), by rw [E.2.2.2]; exact (show 0 + (rmN 136).cells ≤ (rmN 314).cells by decide), by rw [E.2.2.2]; exact (show 0 + (rmN 136).slots ≤ (rmN 314).slots by decide)⟩ (Nat.le_of_ble_eq_true rfl) (fun vv s3 hq => ?_) (fun ee s3 hq => ?_)))))
  rotate_left
  · obtain ⟨Is3, Fs3, JAIR_s3, JCPL_s3, (⟨e4, hv, hrs3, hps3⟩ | ⟨xx, hv, hps3⟩)⟩ := hq
    · cases hv
    · cases hv
      rcases (show xx = 0 by omega) with gx
      ·
        subst gx
        have Gs3 := fm_tq F Fs3 rfl rfl
        have b5 := bi_0 Is3
        have b6 := bi_9 Is3
        refine (hEx 4 0).2 12 rfl _ _ _ _ _ (fun q1 => ?_)
        show WS k 12 [(0, .ref (A 0)), (1, .int (Int32.ofInt w)), (2, .ref (A 517))] [.ref q1] (Wd A dT s3) 1 6
        refine z_astore_n X (lv' := [(3, .ref q1), (0, .ref (A 0)), (1, .int (Int32.ofInt w)), (2, .ref (A 517))]) rfl (by decide) (fun _ h => h) (z_const X rfl ?_)
        exact w_iret X.1 q hRt rfl (ax_d X (show cdA 314 14 = some (.ireturn, 1, 0, 0, 0) from rfl)) (show 1 ≤ 1 by decide) (show 6 ≤ 6 by decide) ⟨A, _, hA, rfl, Is3, Gs3, JAIR_s3, JCPL_s3, 1, rfl, (by decide), Or.inr ⟨by decide, by omega, by omega, by omega, hps3.2.2.2.2⟩⟩
  obtain ⟨Is3, Fs3, JAIR_s3, JCPL_s3, (⟨e4, hv, hrs3, hps3⟩ | ⟨xx, hv, hps3⟩)⟩ := hq
  rotate_left
  · cases hv
  cases hv
  have Gs3 := fm_tq F Fs3 rfl rfl
  have b7 := bi_0 Is3
  have b8 := bi_9 Is3
  show WS k 7 [(0, .ref (A 0)), (1, .int (Int32.ofInt w)), (2, .ref (A 517))] [.int (Int32.ofInt e4), .int (Int32.ofInt 0), .ref (A 517)] (Wd A dT s3) 1 6
  refine w_i2l X.1 (ax_d X (show cdA 314 7 = some (.i2l, 1, 0, 0, 0) from rfl)) (z_last X 517 rfl (c518_ok rfl) rfl (by first | (clear hps3; omega) | omega) (show 0 < 1 by first | (clear hps3; omega) | omega) (cbig_ok rfl) (wd_gen (fun s9 hs9 => ?_)))
  have Is9 : Bd s9 := eqB hs9 (bd_D Is3)
  have Fs9 : Fm [11, 9, 10, 2, 4, 6, 5, 1, 3, 0, 7, 8] [15, 1, 2, 6, 1003, 1004, 1005, 1007, 1460] s s9 := by rw [hs9]; exact fm_D Gs3 (show 460 + 1000 ∈ _ by decide)
  have ws9_0 : iI s9 0 = iI s3 0 := eqI hs9 rfl
  have ws9_9 : iI s9 9 = iI s3 9 := eqI hs9 rfl
  have aws9_1 : SAM 1 s3 s9 := by rw [hs9]; exact (sam_rf (a := 1) (s := s3))
  have aws9_2 : SAM 2 s3 s9 := by rw [hs9]; exact (sam_rf (a := 2) (s := s3))
  have JAIR_s9 : AIR s9 := by rw [hs9]; exact JAIR_s3
  have JCPL_s9 : CPL s9 := by rw [hs9]; exact JCPL_s3
  have oos9 : iO s9 = e4 := by rw [hs9]; exact iO_u (by first | (clear hps3; omega) | omega)
  refine z_goto X (t := 15) rfl rfl (z_const X rfl ?_)
  exact w_iret X.1 q hRt rfl (ax_d X (show cdA 314 16 = some (.ireturn, 1, 0, 0, 0) from rfl)) (show 1 ≤ 1 by decide) (show 6 ≤ 6 by decide) ⟨A, _, hA, rfl, Is9, Fs9, JAIR_s9, JCPL_s9, 0, rfl, (by decide), Or.inl ⟨by decide, by first | (clear hps3; omega) | omega, by first | (clear hps3; omega) | omega, by first | (clear hps3; omega) | omega, by first | (clear hps3; omega) | omega, by rw [show iI s9 9 = iI s3 9 by first | (clear hps3; omega) | omega]; exact hps3.2.2.2.2.1, wnc_sam hps3.2.2.2.2.2 aws9_1 aws9_2 (by first | (clear hps3; omega) | omega)⟩⟩
set_option maxRecDepth 4000 in
theorem c9_twinOf3 (G : GX l s0 D tys a0 dT) (I : Bd s) {x : Int} (p0 : 0 ≤ x ∧ x ≤ 23) : CT l s0 D A dT 118 (rmN 118) [.ref (A 3), .int (Int32.ofInt x)] s (fun o t => Bd t ∧ Fm [] [] s t ∧ ∃ e, o = .inl (some (.int (Int32.ofInt e))) ∧ rng e ∧ ((0 ≤ e ∧ e ≤ x) ∧ TWP x e (iI s 9) s)) := by
  refine ct_ofX G (by decide) (Nat.le_of_ble_eq_true rfl) (fun k X E ET hRt hXt q => ?_)
  show WS k 0 [(0, .ref (A 3)), (1, .int (Int32.ofInt x))] [] _ 0 0
  have F : Fm [] [] s s := fm_rf _ _ s
  have b1 := bi_9 I
  have L9 : ∀ (n : Nat) (t : PS) (xv qq c : Int), Bd t → Fm [] [] s t → (TWP x qq c s) → ((xv = x ∧ 0 ≤ xv ∧ xv ≤ 23) ∧ (0 ≤ qq ∧ qq < x) ∧ (0 ≤ c ∧ c ≤ iI s 9) ∧ iI s 9 ≤ 12 ∧ iI t 9 = iI s 9) → (12 - c : Int).toNat < n → (∀ (t' : PS) (c' : Int), Bd t' → Fm [] [] s t' → (TWP x qq c' s) → ((xv = x ∧ 0 ≤ xv ∧ xv ≤ 23) ∧ (0 ≤ qq ∧ qq < x) ∧ (0 ≤ c' ∧ c' ≤ iI s 9) ∧ iI s 9 ≤ 12 ∧ iI t' 9 = iI s 9) → WS k 48 [(0, .ref (A 3)), (1, .int (Int32.ofInt xv)), (2, .int (Int32.ofInt qq)), (3, .int (Int32.ofInt c'))] [] (Wd A dT t') 0 0) → WS k 9 [(0, .ref (A 3)), (1, .int (Int32.ofInt xv)), (2, .int (Int32.ofInt qq)), (3, .int (Int32.ofInt c))] [] (Wd A dT t) 0 0 := by
    intro n
    induction n with
    | zero =>
      intro t xv qq c I F hq hi hm kx
      exact absurd hm (Nat.not_lt_zero _)
    | succ n ih =>
      intro t xv qq c I F hq hi hm kx
      have b1001 := bi_9 I
      refine z_load_n X (x := c) rfl (List.Mem.tail _ (List.Mem.tail _ (List.Mem.tail _ (List.Mem.head _)))) (z_aload_n X (x := A 3) rfl (List.Mem.head _) (z_getI X 3 rfl (c518_ok rfl) rfl rfl ?_))
      have b1002 := bi_9 I
      refine z_icmp_ge X (t := 48) rfl rfl ⟨by first | exact oq_fa4e5087 hi.2.2.1.1 | omega, by first | exact oq_39d2cc6e hi.2.2.1.2 hi.2.2.2.1 | omega⟩ (rng_to _) (fun g1003 => ?_) (fun g1003 => ?_)
      ·
        refine WS_pq [0, 1, 2, 3] (lv' := [(0, .ref (A 3)), (1, .int (Int32.ofInt xv)), (2, .int (Int32.ofInt qq)), (3, .int (Int32.ofInt c))]) rfl ?_
        exact kx _ c I F hq (by first | exact ⟨And.intro (hi.1.1) (And.intro (hi.1.2.1) (hi.1.2.2)), And.intro (hi.2.1.1) (hi.2.1.2), And.intro (hi.2.2.1.1) (hi.2.2.1.2), hi.2.2.2.1, hi.2.2.2.2⟩ | omega)
      ·
        refine z_aload_n X (x := A 3) rfl (List.Mem.head _) (s_getR X 3 rfl (c518_ok rfl) rfl rfl (z_load_n X (x := qq) rfl (List.Mem.tail _ (List.Mem.tail _ (List.Mem.head _))) (z_bipush X rfl (z_mul X rfl (z_load_n X (x := c) rfl (List.Mem.tail _ (List.Mem.tail _ (List.Mem.tail _ (List.Mem.head _)))) (z_add X rfl (z_ald X 14 rfl (c518_ok rfl) rfl (by first | exact oq_0f03f1de hi.2.1.1 hi.2.2.1.1 | omega) (show ((qq * 12) + c) < 288 by first | exact oq_fd6e9ee3 hi.2.1.2 g1003 p0.2 b1002.2 | omega) (cbig_ok rfl) ?_)))))))
        have b1004 := bc_11 I (show (((qq * 12) + c)).toNat < 288 by first | exact oq_7632bb3e hi.2.1.2 g1003 p0.2 b1002.2 | omega)
        refine z_aload_n X (x := A 3) rfl (List.Mem.head _) (s_getR X 3 rfl (c518_ok rfl) rfl rfl (z_load_n X (x := xv) rfl (List.Mem.tail _ (List.Mem.head _)) (z_bipush X rfl (z_mul X rfl (z_load_n X (x := c) rfl (List.Mem.tail _ (List.Mem.tail _ (List.Mem.tail _ (List.Mem.head _)))) (z_add X rfl (z_ald X 14 rfl (c518_ok rfl) rfl (by first | exact oq_1d1618ee hi.2.2.1.1 hi.1.2.1 | omega) (show ((xv * 12) + c) < 288 by first | exact oq_45988efc hi.1.2.2 g1003 b1002.2 | omega) (cbig_ok rfl) ?_)))))))
        have b1005 := bc_11 I (show (((xv * 12) + c)).toNat < 288 by first | exact oq_8395bb7c hi.1.2.2 g1003 b1002.2 | omega)
        refine z_icmp_ne X (t := 48) rfl rfl (rng_to _) (rng_to _) (fun g1006 => ?_) (fun g1006 => ?_)
        ·
          refine WS_pq [0, 1, 2, 3] (lv' := [(0, .ref (A 3)), (1, .int (Int32.ofInt xv)), (2, .int (Int32.ofInt qq)), (3, .int (Int32.ofInt c))]) rfl ?_
          exact kx _ c I F hq (by first | exact ⟨And.intro (hi.1.1) (And.intro (hi.1.2.1) (hi.1.2.2)), And.intro (hi.2.1.1) (hi.2.1.2), And.intro (hi.2.2.1.1) (hi.2.2.1.2), hi.2.2.2.1, hi.2.2.2.2⟩ | omega)
        ·
          refine z_inc X (x := c) (lv' := [(3, .int (Int32.ofInt (c + 1))), (0, .ref (A 3)), (1, .int (Int32.ofInt xv)), (2, .int (Int32.ofInt qq))]) rfl (by decide) (List.Mem.tail _ (List.Mem.tail _ (List.Mem.tail _ (List.Mem.head _)))) (fun _ h => h) (z_goto X (t := 9) rfl rfl (WS_pq [1, 2, 3, 0] (lv' := [(0, .ref (A 3)), (1, .int (Int32.ofInt xv)), (2, .int (Int32.ofInt qq)), (3, .int (Int32.ofInt (c + 1)))]) rfl ?_))
          exact ih _ xv qq (c + 1) I F (twp_up hq (by omega) (by have z1 := (sam_fm F List.not_mem_nil : SAM 11 s t) (x * 12 + c).toNat; have z2 := (sam_fm F List.not_mem_nil : SAM 11 s t) (qq * 12 + c).toNat; rw [show xv = x by omega] at *; omega)) (by first | exact ⟨And.intro (hi.1.1) (And.intro (hi.1.2.1) (hi.1.2.2)), And.intro (hi.2.1.1) (hi.2.1.2), And.intro (oq_54f49eb5 hi.2.2.1.1) (oq_8a89b3ae g1003 hi.2.2.2.2), hi.2.2.2.1, hi.2.2.2.2⟩ | omega) (by first | exact qk_me hm (by decide) (oq_b575e8c1 g1003 b1002.2) | omega) kx
  have L2 : ∀ (n : Nat) (t : PS) (xv qq : Int), Bd t → Fm [] [] s t → ((xv = x ∧ 0 ≤ xv ∧ xv ≤ 23) ∧ (0 ≤ qq ∧ qq ≤ xv) ∧ iI s 9 ≤ 12 ∧ iI t 9 = iI s 9) → (24 - qq : Int).toNat < n → (∀ (t' : PS) (qq' : Int), Bd t' → Fm [] [] s t' → ((xv = x ∧ 0 ≤ xv ∧ xv ≤ 23) ∧ (0 ≤ qq' ∧ qq' ≤ xv) ∧ iI s 9 ≤ 12 ∧ iI t' 9 = iI s 9) → WS k 64 [(0, .ref (A 3)), (1, .int (Int32.ofInt xv)), (2, .int (Int32.ofInt qq'))] [] (Wd A dT t') 0 0) → WS k 2 [(0, .ref (A 3)), (1, .int (Int32.ofInt xv)), (2, .int (Int32.ofInt qq))] [] (Wd A dT t) 0 0 := by
    intro n
    induction n with
    | zero =>
      intro t xv qq I F hi hm kx
      exact absurd hm (Nat.not_lt_zero _)
    | succ n ih =>
      intro t xv qq I F hi hm kx
      have b2001 := bi_9 I
      refine z_load_n X (x := qq) rfl (List.Mem.tail _ (List.Mem.tail _ (List.Mem.head _))) (z_load_n X (x := xv) rfl (List.Mem.tail _ (List.Mem.head _)) (z_icmp_ge X (t := 64) rfl rfl ⟨by first | exact oq_fa4e5087 hi.2.1.1 | omega, by first | exact oq_7c6846ed hi.2.1.2 hi.1.2.2 | omega⟩ ⟨by first | exact oq_fa4e5087 hi.1.2.1 | omega, by first | exact oq_1a42ef34 hi.1.2.2 | omega⟩ (fun g2002 => ?_) (fun g2002 => ?_)))
      ·
        refine WS_pq [0, 1, 2] (lv' := [(0, .ref (A 3)), (1, .int (Int32.ofInt xv)), (2, .int (Int32.ofInt qq))]) rfl ?_
        exact kx _ qq I F (by first | exact ⟨And.intro (hi.1.1) (And.intro (hi.1.2.1) (hi.1.2.2)), And.intro (hi.2.1.1) (hi.2.1.2), hi.2.2.1, hi.2.2.2⟩ | omega)
      ·
        refine z_const X rfl (z_store_n X (lv' := [(3, .int (Int32.ofInt 0)), (0, .ref (A 3)), (1, .int (Int32.ofInt xv)), (2, .int (Int32.ofInt qq))]) rfl (by decide) (fun _ h => h) (WS_pq [1, 2, 3, 0] (lv' := [(0, .ref (A 3)), (1, .int (Int32.ofInt xv)), (2, .int (Int32.ofInt qq)), (3, .int (Int32.ofInt 0))]) rfl (L9 ((12 - 0 : Int).toNat + 1) t xv qq 0 I F (fun j hj => absurd hj (by omega)) (by first | exact ⟨And.intro (hi.1.1) (And.intro (hi.1.2.1) (hi.1.2.2)), And.intro (hi.2.1.1) (oq_095218f7 hi.1.1 g2002), And.intro (by decide) (b1.1), hi.2.2.1, hi.2.2.2⟩ | omega) (Nat.lt_succ_self _) ?_)))
        intro s2003 x2004 Is2003 Fs2003 Qs2003 hs2003
        have b2005 := bi_9 Is2003
        refine z_load_n X (x := x2004) rfl (List.Mem.tail _ (List.Mem.tail _ (List.Mem.tail _ (List.Mem.head _)))) (z_aload_n X (x := A 3) rfl (List.Mem.head _) (z_getI X 3 rfl (c518_ok rfl) rfl rfl ?_))
        have b2006 := bi_9 Is2003
        refine z_icmp_ne X (t := 58) rfl rfl ⟨by first | exact oq_fa4e5087 hs2003.2.2.1.1 | omega, by first | exact oq_39d2cc6e hs2003.2.2.1.2 hs2003.2.2.2.1 | omega⟩ (rng_to _) (fun g2007 => ?_) (fun g2007 => ?_)
        ·
          refine z_inc X (x := qq) (lv' := [(2, .int (Int32.ofInt (qq + 1))), (0, .ref (A 3)), (1, .int (Int32.ofInt xv)), (3, .int (Int32.ofInt x2004))]) rfl (by decide) (List.Mem.tail _ (List.Mem.tail _ (List.Mem.head _))) (fun _ h => h) (z_goto X (t := 2) rfl rfl (WS_pq [1, 2, 0] (lv' := [(0, .ref (A 3)), (1, .int (Int32.ofInt xv)), (2, .int (Int32.ofInt (qq + 1)))]) rfl ?_))
          exact ih _ xv (qq + 1) Is2003 Fs2003 (by first | exact ⟨And.intro (hs2003.1.1) (And.intro (hs2003.1.2.1) (hs2003.1.2.2)), And.intro (oq_54f49eb5 hs2003.2.1.1) (oq_afc84a8d g2002), hs2003.2.2.2.1, hs2003.2.2.2.2⟩ | omega) (by first | exact qk_me hm (by decide) (oq_e37f36f8 hs2003.2.1.2 p0.2) | omega) kx
        ·
          refine z_load_n X (x := qq) rfl (List.Mem.tail _ (List.Mem.tail _ (List.Mem.head _))) ?_
          exact w_iret X.1 q hRt rfl (ax_d X (show cdA 118 57 = some (.ireturn, 1, 0, 0, 0) from rfl)) (Nat.zero_le _) (Nat.zero_le _) ⟨_, rfl, Is2003, Fs2003, qq, rfl, ⟨by first | exact oq_fa4e5087 hs2003.2.1.1 | omega, by first | exact oq_74680d82 hs2003.2.1.2 p0.2 | omega⟩, ⟨by first | exact ⟨hs2003.2.1.1, oq_161a6600 hs2003.2.1.2⟩ | omega, by have z := Qs2003; rw [show x2004 = iI s 9 by omega] at z; exact z⟩⟩
  refine z_const X rfl (z_store_n X (lv' := [(2, .int (Int32.ofInt 0)), (0, .ref (A 3)), (1, .int (Int32.ofInt x))]) rfl (by decide) (fun _ h => h) (WS_pq [1, 2, 0] (lv' := [(0, .ref (A 3)), (1, .int (Int32.ofInt x)), (2, .int (Int32.ofInt 0))]) rfl (L2 ((24 - 0 : Int).toNat + 1) s x 0 I F (by first | exact ⟨And.intro (by decide) (And.intro (p0.1) (p0.2)), And.intro (by decide) (p0.1), b1.2, by decide⟩ | omega) (Nat.lt_succ_self _) ?_)))
  intro s2 x3 Is2 Fs2 hs2
  have b4 := bi_9 Is2
  refine z_load_n X (x := x) rfl (List.Mem.tail _ (List.Mem.head _)) ?_
  exact w_iret X.1 q hRt rfl (ax_d X (show cdA 118 65 = some (.ireturn, 1, 0, 0, 0) from rfl)) (Nat.zero_le _) (Nat.zero_le _) ⟨_, rfl, Is2, Fs2, x, rfl, ⟨by first | exact oq_fa4e5087 hs2.1.2.1 | omega, by first | exact oq_1a42ef34 hs2.1.2.2 | omega⟩, ⟨by first | exact ⟨hs2.1.2.1, by decide⟩ | omega, twp_rf⟩⟩
end M87k5
