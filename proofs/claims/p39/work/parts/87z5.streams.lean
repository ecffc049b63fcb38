theorem oq_fd6e9ee3 {a0 a1 a2 a3 : Int} (h0 : a0 < a1) (h1 : a2 < a3) (h2 : a1 ≤ 23) (h3 : a3 ≤ 12) : ((a0 * 12) + a2) < 288 := by omega
theorem oq_7632bb3e {a0 a1 a2 a3 : Int} (h0 : a0 < a1) (h1 : a2 < a3) (h2 : a1 ≤ 23) (h3 : a3 ≤ 12) : (((a0 * 12) + a2) : Int).toNat < 288 := by omega
theorem oq_e37f36f8 {a0 a1 : Int} (h0 : a0 < a1) (h1 : a1 ≤ 23) : 0 < (24 - a0) := by omega
theorem oq_74680d82 {a0 a1 : Int} (h0 : a0 < a1) (h1 : a1 ≤ 23) : a0 ≤ 2147483647 := by omega
theorem oq_500f2c54 {a0 a1 : Int} (h0 : a0 ≤ a1) (h1 : a1 < 24) : a0 ≤ 23 := by omega
/-! Streams: the air kept, twins -/
theorem par_wok {B : Nat → Int} {N : Int} {t : PS} (h : PAR B N t) : WOK (fun k => iC t 15 k) (iI t 11) := by
  obtain ⟨a, h1, h2, -⟩ := h
  have w := parse_wok h1
  rw [← h2.1]
  exact wok_c w (fun k hk => (h2.2 k hk).symm)
/-- two quarters with the same mosts, for n streams -/
def TWP (x e n : Int) (s : PS) : Prop := ∀ j : Nat, (j : Int) < n → iC s 11 (x * 12 + (j : Int)).toNat = iC s 11 (e * 12 + (j : Int)).toNat
theorem twp_rf {x n : Int} {s : PS} : TWP x x n s := fun _ _ => rfl
theorem twp_up {x e n : Int} {s : PS} (h : TWP x e n s) (n0 : 0 ≤ n) (hv : iC s 11 (x * 12 + n).toNat = iC s 11 (e * 12 + n).toNat) : TWP x e (n + 1) s := fun j hj => by
  by_cases z : j = n.toNat
  · rw [show (j : Int) = n by omega]; exact hv
  · exact h j (by omega)
/-- the twins of the first n quarters -/
def TWN (n : Int) (s : PS) : Prop := ∀ q : Nat, (q : Int) < n → (0 ≤ iC s 14 q ∧ iC s 14 q ≤ (q : Int)) ∧ TWP (q : Int) (iC s 14 q) (iI s 9) s
def TWJ (s : PS) : Prop := TWN 24 s
theorem twn_up {n e : Int} {t u : PS} (h : TWN n t) (n0 : 0 ≤ n) (he : (0 ≤ e ∧ e ≤ n) ∧ TWP n e (iI t 9) t) (hu : UPD 14 n e t u) (hm : ∀ j : Nat, iC u 11 j = iC t 11 j) (hc : iI u 9 = iI t 9) : TWN (n + 1) u := fun q hq => by
  by_cases z : q = n.toNat
  · rw [z, hu.1, hc, show ((n.toNat : Nat) : Int) = n by omega]
    exact ⟨he.1, fun j hj => by rw [hm, hm]; exact he.2 j hj⟩
  · rw [hu.2 q z, hc]
    have w := h q (by omega)
    exact ⟨w.1, fun j hj => by rw [hm, hm]; exact w.2 j hj⟩
theorem TWJ_fm {L M : List Nat} {s t : PS} (F : Fm L M s t) (h : 9 ∉ L ∧ 14 ∉ M ∧ 11 ∉ M) (r : TWJ s) : TWJ t := fun q hq => by
  have w := r q hq
  rw [fm_c F h.2.1, fm_i F h.1]
  exact ⟨w.1, fun j hj => by rw [fm_c F h.2.2, fm_c F h.2.2]; exact w.2 j hj⟩
/-- a new stream: nobody flies it yet -/
theorem twj_new {s t : PS} (r : TWJ s) (hc : iI t 9 = iI s 9 + 1) (c0 : 0 ≤ iI s 9) (h1 : ∀ j : Nat, iC t 14 j = iC s 14 j) (h2 : ∀ j : Nat, iC t 11 j = iC s 11 j) (hz : ∀ q : Nat, q < 24 → iC s 11 ((q : Int) * 12 + iI s 9).toNat = 0) : TWJ t := fun q hq => by
  have w := r q hq
  rw [h1, hc]
  refine ⟨w.1, fun j hj => ?_⟩
  rw [h2, h2]
  by_cases z : (j : Int) = iI s 9
  · rw [z, hz q (by omega)]
    have e := hz (iC s 14 q).toNat (by omega)
    rw [show (((iC s 14 q).toNat : Nat) : Int) = iC s 14 q by omega] at e
    exact e.symm
  · exact w.2 j (by omega)
theorem cwf_s {x w : Int} {s t : PS} (h : CWF x w s t) : iC t 2 x.toNat = w := h.2.1
theorem cwf_s2 {x w : Int} {s t : PS} (h : CWF x w s t) : ∀ j : Nat, j < x.toNat → iC t 2 j = iC s 2 j := fun j hj => h.2.2 j (by omega)
theorem cwf_c {x w : Int} {s t : PS} (h : CWF x w s t) (x0 : 0 ≤ x) (x1 : x ≤ 11) (w0 : w ≤ 24) : ∀ k : Nat, (k : Int) < w → iC t 1 (24 * x.toNat + k) = iC s 15 k := fun k hk => by
  rw [h.1 _ (by omega), if_pos (by omega), show 24 * x.toNat + k - (x * 24).toNat = k by omega]
theorem cwf_c2 {x w : Int} {s t : PS} (h : CWF x w s t) (x0 : 0 ≤ x) (x1 : x ≤ 11) : ∀ j : Nat, j < 24 * x.toNat → iC t 1 j = iC s 1 j := fun j hj => by
  rw [h.1 _ (by omega), if_neg (by omega)]
section M87k5
variable {l : Launch} {s0 : State} {D : va_G} {tys : List (ClassId × FieldType)} {a0 : Array Value} {A : Nat → Nat} {dT : Nat → ClassId} {s : PS}
set_option maxRecDepth 4000 in
theorem c9_addTrial5 (G : GX l s0 D tys a0 dT) (I : Bd s) (jAIR : AIR s) (jCPL : CPL s) (p0 : WOK (fun k => iC s 15 k) (iI s 11)) : CT l s0 D A dT 106 (rmN 106) [.ref (A 3)] s (fun o t => Bd t ∧ Fm [9, 10] [1, 2, 6, 1003, 1004, 1005, 1007] s t ∧ AIR t ∧ CPL t ∧ ∃ e, o = .inl (some (.int (Int32.ofInt e))) ∧ rng e ∧ ((iI s 9 = 12 ∧ iI t 9 = 12 ∧ SAM 1 s t ∧ SAM 2 s t) ∨ (iI s 9 ≤ 11 ∧ iI t 9 = iI s 9 + 1 ∧ CWF (iI s 9) (iI s 11) s t))) := by
  refine ct_ofX G (by decide) (Nat.le_of_ble_eq_true rfl) (fun k X E ET hRt hXt q => ?_)
  show WS k 0 [(0, .ref (A 3))] [] _ 0 0
  have F : Fm [9, 10] [1, 2, 6, 1003, 1004, 1005, 1007] s s := fm_rf _ _ s
  have aw0_1 : SAM 1 s s := sam_rf
  have aw0_2 : SAM 2 s s := sam_rf
  have hWk := p0.1
  have b1 := bi_9 I
  have b2 := bi_11 I
  refine z_aload_n X (x := A 3) rfl (List.Mem.head _) (z_getI X 3 rfl (c518_ok rfl) rfl rfl ?_)
  have b3 := bi_9 I
  refine z_bipush X rfl (z_icmp_lt X (t := 11) rfl rfl (rng_to _) (by decide) (fun g4 => ?_) (fun g4 => ?_))
  ·
    refine z_aload_n X (x := A 3) rfl (List.Mem.head _) (z_aload_n X (x := A 3) rfl (List.Mem.head _) (z_getI X 3 rfl (c518_ok rfl) rfl rfl ?_))
    have b5 := bi_9 I
    refine z_aload_n X (x := A 3) rfl (List.Mem.head _) (s_getR X 3 rfl (c518_ok rfl) rfl rfl (z_const X rfl (z_aload_n X (x := A 3) rfl (List.Mem.head _) (z_getI X 3 rfl (c518_ok rfl) rfl rfl ?_))))
    have b6 := bi_11 I
    refine zcV_v0 X E 3 (As := [.int (Int32.ofInt (iI s 9)), .ref (A 18), .int (Int32.ofInt 0), .int (Int32.ofInt (iI s 11))]) (st := []) rfl rfl rfl rfl (c9_setWay3 G I (by first | exact ⟨b5.1, oq_a1a2e1c8 g4⟩ | omega) (by first | exact ⟨b6.1, b6.2⟩ | omega) (by first | exact ⟨by decide, oq_4854286b b6.2⟩ | omega)) rfl (Nat.le_of_ble_eq_true rfl) (fun s7 Is7 Fs7 hps7 => ?_)
    have Gs7 := fm_tq F Fs7 rfl rfl
    have ws7_9 : iI s7 9 = iI s 9 := fm_iq Fs7 rfl
    have ws7_11 : iI s7 11 = iI s 11 := fm_iq Fs7 rfl
    refine z_aload_n X (x := A 3) rfl (List.Mem.head _) (w_dup X.1 (ax_d X (show cdA 106 29 = some (.dup, 1, 0, 0, 0) from rfl)) rfl (z_getI X 3 rfl (c518_ok rfl) rfl rfl ?_))
    have b9 := bi_9 Is7
    refine z_const X rfl (z_add X rfl (s_putI X 3 rfl (c518_ok rfl) rfl rfl (by decide) rfl rfl rfl (wd_gen (fun s10 hs10 => ?_))))
    have Is10 : Bd s10 := eqB hs10 (bd_I Is7 (show (0 : Int) ≤ ((iI s7 9) + 1) ∧ ((iI s7 9) + 1) ≤ 12 by first | exact ⟨oq_54f49eb5 b9.1, oq_3bc6d8e6 ws7_9 g4⟩ | omega) ⟨by first | exact oq_74de1e16 b9.1 | omega, by first | exact oq_76a8a5b7 b9.2 | omega⟩)
    have Fs10 := eqF hs10 (fm_I Gs7 (inl_ok (a := 9) rfl))
    have vs10 : iI s10 9 = ((iI s7 9) + 1) := eqI hs10 (iI_u ⟨by first | exact oq_74de1e16 b9.1 | omega, by first | exact oq_76a8a5b7 b9.2 | omega⟩)
    have ws10_11 : iI s10 11 = iI s7 11 := eqI hs10 rfl
    have aws10_1 : SAM 1 s7 s10 := by rw [hs10]; exact (sam_rf (a := 1) (s := s7))
    have aws10_2 : SAM 2 s7 s10 := by rw [hs10]; exact (sam_rf (a := 2) (s := s7))
    have hAIR : AIR s10 := air_up (w := iI s 11) jAIR (by omega) (by omega) (by rw [hs10]; exact hps7.2) p0 (by rw [hs10]; exact cwf_s hps7.1) (fun k hk => by rw [hs10]; exact cwf_c hps7.1 (by omega) (by omega) (by omega) k hk) (fun j hj => by rw [hs10]; exact cwf_s2 hps7.1 j hj) (fun j hj => by rw [hs10]; exact cwf_c2 hps7.1 (by omega) (by omega) j hj)
    refine z_aload_n X (x := A 3) rfl (List.Mem.head _) (zcV_v0 X E 3 (As := []) (st := []) rfl rfl rfl rfl (c9_pairUp3 G Is10 ) rfl (Nat.le_of_ble_eq_true rfl) (fun s11 Is11 Fs11 hps11 => ?_))
    have Gs11 := fm_tq Fs10 Fs11 rfl rfl
    have JAIR_s11 : AIR s11 := AIR_fm Fs11 (by decide) hAIR
    have ws11_9 : iI s11 9 = iI s10 9 := fm_iq Fs11 rfl
    have ws11_11 : iI s11 11 = iI s10 11 := fm_iq Fs11 rfl
    have aws11_1 : SAM 1 s7 s11 := sam_ts aws10_1 (sam_fm Fs11 (by decide))
    have aws11_2 : SAM 2 s7 s11 := sam_ts aws10_2 (sam_fm Fs11 (by decide))
    refine z_aload_n X (x := A 3) rfl (List.Mem.head _) (z_getI X 3 rfl (c518_ok rfl) rfl rfl ?_)
    have b13 := bi_9 Is11
    refine z_const X rfl (z_sub X rfl ?_)
    exact w_iret X.1 q hRt rfl (ax_d X (show cdA 106 48 = some (.ireturn, 1, 0, 0, 0) from rfl)) (Nat.zero_le _) (Nat.zero_le _) ⟨_, rfl, Is11, Gs11, JAIR_s11, hps11, ((iI s11 9) - 1), rfl, ⟨by first | exact oq_c1e961c7 b13.1 | omega, by first | exact oq_d526ebd3 b13.2 | omega⟩, Or.inr ⟨by first | exact oq_a1a2e1c8 g4 | omega, by first | exact oq_20fce6d9 ws11_9 vs10 ws7_9 | omega, cwf_sam hps7.1 aws11_1 aws11_2⟩⟩
  ·
    refine z_const X rfl ?_
    exact w_iret X.1 q hRt rfl (ax_d X (show cdA 106 10 = some (.ireturn, 1, 0, 0, 0) from rfl)) (Nat.zero_le _) (Nat.zero_le _) ⟨_, rfl, I, F, jAIR, jCPL, (-1), rfl, (by decide), Or.inl ⟨by first | exact oq_8e7d85da b3.2 g4 | omega, by first | exact oq_8e7d85da b3.2 g4 | omega, aw0_1, aw0_2⟩⟩
set_option maxRecDepth 4000 in
theorem cs_stream5 (G : GX l s0 D tys a0 dT) {B : Nat → Int} (I : Bd s) (jBYA : BYA B s) (jAIR : AIR s) (jCPL : CPL s) {w : Int} (p0 : rng w) : CT l s0 D A dT 136 (rmN 136) [.ref (A 0), .int (Int32.ofInt w)] s (fun o t => Bd t ∧ Fm [11, 9, 10, 2, 4, 6, 5, 1, 3, 0, 7, 8] [15, 1, 2, 6, 1003, 1004, 1005, 1007] s t ∧ AIR t ∧ CPL t ∧ ((∃ e, o = .inl (some (.int (Int32.ofInt e))) ∧ rng e ∧ (iI t 0 = 0 ∧ 0 ≤ w ∧ w ≤ iI s 0 ∧ w ≤ 100 ∧ STRx B w (iI s 9) (iI t 9) ∧ WNC B w s t)) ∨ ∃ x : Nat, o = .inr (exN x) ∧ (x = 0 ∧ iI t 0 = iI s 0 ∧ (w < 0 ∨ iI s 0 < w ∨ 100 < w) ∧ iI t 9 = iI s 9 ∧ SAM 1 s t ∧ SAM 2 s t))) := by
  refine ct_ofX G (by decide) (Nat.le_of_ble_eq_true rfl) (fun k X E ET hRt hXt q => ?_)
  show WS k 0 [(0, .ref (A 0)), (1, .int (Int32.ofInt w))] [] _ 0 0
  have F : Fm [11, 9, 10, 2, 4, 6, 5, 1, 3, 0, 7, 8] [15, 1, 2, 6, 1003, 1004, 1005, 1007] s s := fm_rf _ _ s
  have aw0_1 : SAM 1 s s := sam_rf
  have aw0_2 : SAM 2 s s := sam_rf
  have b1 := bi_0 I
  have b2 := bi_9 I
  have b3 := bi_11 I
  have b4 := bi_2 I
  have b5 := bi_1 I
  have b6 := bi_4 I
  refine z_load_n X (x := w) rfl (List.Mem.tail _ (List.Mem.head _)) (z_if_lt X (t := 21) rfl rfl ⟨by first | exact p0.1 | omega, by first | exact p0.2 | omega⟩ (fun g7 => ?_) (fun g7 => ?_))
  ·
    exact z_throw G X E ET hXt q (st := []) rfl (by decide) (by decide) (Nat.le_of_ble_eq_true rfl) (show 0 + 1 ≤ 1 by decide) (show 0 + 6 ≤ 6 by decide) (show 0 + 1 ≤ 1 by decide) (show 0 + 6 ≤ 6 by decide) ⟨_, rfl, I, F, jAIR, jCPL, Or.inr ⟨0, rfl, ⟨by omega, by omega, by omega, by omega, aw0_1, aw0_2⟩⟩⟩
  ·
    refine z_load_n X (x := w) rfl (List.Mem.tail _ (List.Mem.head _)) (z_aload_n X (x := A 0) rfl (List.Mem.head _) (s_getR X 0 rfl (c518_ok rfl) rfl rfl (z_getI X 1 rfl (c518_ok rfl) rfl rfl ?_)))
    have b8 := bi_0 I
    refine z_icmp_gt X (t := 21) rfl rfl ⟨by first | exact p0.1 | omega, by first | exact p0.2 | omega⟩ (rng_to _) (fun g9 => ?_) (fun g9 => ?_)
    ·
      exact z_throw G X E ET hXt q (st := []) rfl (by decide) (by decide) (Nat.le_of_ble_eq_true rfl) (show 0 + 1 ≤ 1 by decide) (show 0 + 6 ≤ 6 by decide) (show 0 + 1 ≤ 1 by decide) (show 0 + 6 ≤ 6 by decide) ⟨_, rfl, I, F, jAIR, jCPL, Or.inr ⟨0, rfl, ⟨by omega, by omega, by omega, by omega, aw0_1, aw0_2⟩⟩⟩
    ·
      refine z_load_n X (x := w) rfl (List.Mem.tail _ (List.Mem.head _)) (z_bipush X rfl (z_icmp_le X (t := 31) rfl rfl ⟨by first | exact p0.1 | omega, by first | exact p0.2 | omega⟩ (by decide) (fun g10 => ?_) (fun g10 => ?_)))
      ·
        refine z_aload_n X (x := A 0) rfl (List.Mem.head _) (s_getR X 0 rfl (c518_ok rfl) rfl rfl (z_load_n X (x := w) rfl (List.Mem.tail _ (List.Mem.head _)) (z_const X rfl (zcV_v1 X E 1 (As := [.int (Int32.ofInt w), .int (Int32.ofInt 0)]) (st := []) rfl rfl rfl rfl (c10_open2 G I jBYA (by first | exact ⟨g7, oq_6ab87361 g10⟩ | omega) (by decide)) rfl (Nat.le_of_ble_eq_true rfl) (fun s11 Is11 Fs11 JBYB_s11 hps11 => ?_)))))
        have Gs11 := fm_tq F Fs11 rfl rfl
        have JAIR_s11 : AIR s11 := AIR_fm Fs11 (by decide) jAIR
        have JCPL_s11 : CPL s11 := CPL_fm Fs11 (by decide) jCPL
        have b13 := bi_0 Is11
        have ws11_9 : iI s11 9 = iI s 9 := fm_iq Fs11 rfl
        have ws11_11 : iI s11 11 = iI s 11 := fm_iq Fs11 rfl
        have b14 := bi_2 Is11
        have b15 := bi_1 Is11
        have b16 := bi_4 Is11
        have aws11_1 : SAM 1 s s11 := sam_ts aw0_1 (sam_fm Fs11 (by decide))
        have aws11_2 : SAM 2 s s11 := sam_ts aw0_2 (sam_fm Fs11 (by decide))
        refine z_aload_n X (x := A 0) rfl (List.Mem.head _) (s_getR X 0 rfl (c518_ok rfl) rfl rfl (z_aload_n X (x := A 0) rfl (List.Mem.head _) (s_getR X 0 rfl (c518_ok rfl) rfl rfl (zcV_i1 X E 3 (As := [.ref (A 1)]) (st := []) rfl rfl rfl rfl (c9_readWay2 G hps11.2.2.2.2 hps11.2.2.2.1 Is11 JBYB_s11 (by first | exact hps11.2.1 | omega) (by first | exact hps11.2.2.1 | omega) (by omega)) rfl (Nat.le_of_ble_eq_true rfl) (fun s17 e18 Is17 Fs17 JBYB_s17 hrs17 hps17 => ?_)))))
        have hps17p := And.intro hps17.2.1 (hps17.2.2.1)
        have Gs17 := fm_tq Gs11 Fs17 rfl rfl
        have JAIR_s17 : AIR s17 := AIR_fm Fs17 (by decide) JAIR_s11
        have JCPL_s17 : CPL s17 := CPL_fm Fs17 (by decide) JCPL_s11
        have JBYB_s17 : BYB B w s17 := BYB_fm Fs17 (by decide) JBYB_s11
        have ws17_0 : iI s17 0 = iI s11 0 := fm_iq Fs17 rfl
        have ws17_9 : iI s17 9 = iI s11 9 := fm_iq Fs17 rfl
        have b19 := bi_11 Is17
        have b20 := bi_2 Is17
        have ws17_1 : iI s17 1 = iI s11 1 := fm_iq Fs17 rfl
        have b21 := bi_4 Is17
        have aws17_1 : SAM 1 s s17 := sam_ts aws11_1 (sam_fm Fs17 (by decide))
        have aws17_2 : SAM 2 s s17 := sam_ts aws11_2 (sam_fm Fs17 (by decide))
        refine z_if_ne X (t := 65) rfl rfl hrs17 (fun g22 => ?_) (fun g22 => ?_)
        ·
          refine z_aload_n X (x := A 0) rfl (List.Mem.head _) (s_getR X 0 rfl (c518_ok rfl) rfl rfl (zcV_i2 X E 3 (As := []) (st := []) rfl rfl rfl rfl (c9_addTrial5 G Is17 JAIR_s17 JCPL_s17 (par_wok (par_p hps17.2.2.2 (by first | (clear g22 hps17; omega) | (clear hps17; omega) | omega)))) rfl (Nat.le_of_ble_eq_true rfl) (fun s23 e24 Is23 Fs23 JAIR_s23 JCPL_s23 hrs23 hps23 => ?_)))
          have Gs23 := fm_tq Gs17 Fs23 rfl rfl
          have ws23_0 : iI s23 0 = iI s17 0 := fm_iq Fs23 rfl
          have b25 := bi_9 Is23
          have ws23_11 : iI s23 11 = iI s17 11 := fm_iq Fs23 rfl
          have ws23_2 : iI s23 2 = iI s17 2 := fm_iq Fs23 rfl
          have ws23_1 : iI s23 1 = iI s17 1 := fm_iq Fs23 rfl
          have ws23_4 : iI s23 4 = iI s17 4 := fm_iq Fs23 rfl
          exact w_iret X.1 q hRt rfl (ax_d X (show cdA 136 72 = some (.ireturn, 1, 0, 0, 0) from rfl)) (Nat.zero_le _) (Nat.zero_le _) ⟨_, rfl, Is23, Gs23, JAIR_s23, JCPL_s23, Or.inl ⟨e24, rfl, hrs23, ⟨by first | exact oq_7fe879e0 ws23_0 ws17_0 hps11.1 b13.1 | omega, by first | exact g7 | omega, by first | exact g9 | omega, by first | exact g10 | omega, str_y (par_y hps17.2.2.2 (by first | (clear hps23 g22 hps17; omega) | (clear g22 hps17; omega) | omega)) (by have hz9 := at_c hps23; omega), wnc_at hps23 (par_p hps17.2.2.2 (by first | (clear hps23 g22 hps17; omega) | (clear g22 hps17; omega) | omega)) aws17_1 aws17_2 (by first | (clear hps23 g22 hps17; omega) | (clear g22 hps17; omega) | omega) (by first | (clear hps23 g22 hps17; omega) | (clear g22 hps17; omega) | omega)⟩⟩⟩
        ·
          refine z_aload_n X (x := A 0) rfl (List.Mem.head _) (s_getR X 0 rfl (c518_ok rfl) rfl rfl (z_getI X 1 rfl (c518_ok rfl) rfl rfl ?_))
          have b26 := bi_7 Is17
          refine z_bipush X rfl (z_sub X rfl ?_)
          exact w_iret X.1 q hRt rfl (ax_d X (show cdA 136 64 = some (.ireturn, 1, 0, 0, 0) from rfl)) (Nat.zero_le _) (Nat.zero_le _) ⟨_, rfl, Is17, Gs17, JAIR_s17, JCPL_s17, Or.inl ⟨((iI s17 7) - 10), rfl, ⟨by first | exact oq_d3c9ade5 b26.1 | omega, by first | exact oq_71609f9f b26.2 | omega⟩, ⟨by first | exact oq_333640b7 ws17_0 hps11.1 b13.1 | omega, by first | exact g7 | omega, by first | exact g9 | omega, by first | exact g10 | omega, str_n (par_n hps17.2.2.2 (by first | (clear hps17; omega) | omega)) (by first | (clear hps17; omega) | omega) (by first | (clear hps17; omega) | omega), Or.inl ⟨by first | (clear hps17; omega) | omega, aws17_1, aws17_2⟩⟩⟩⟩
      ·
        exact z_throw G X E ET hXt q (st := []) rfl (by decide) (by decide) (Nat.le_of_ble_eq_true rfl) (show 0 + 1 ≤ 1 by decide) (show 0 + 6 ≤ 6 by decide) (show 0 + 1 ≤ 1 by decide) (show 0 + 6 ≤ 6 by decide) ⟨_, rfl, I, F, jAIR, jCPL, Or.inr ⟨0, rfl, ⟨by omega, by omega, by omega, by omega, aw0_1, aw0_2⟩⟩⟩
set_option maxRecDepth 4000 in
theorem lw_stream5 (G : GX l s0 D tys a0 dT) {B : Nat → Int} (I : Bd s) (jBYA : BYA B s) (jAIR : AIR s) (jCPL : CPL s) {w : Int} (p0 : rng w) : CTL l s0 D A dT 314 (rmN 314) [.ref (A 0), .int (Int32.ofInt w), .ref (A 517)] s (fun o t => Bd t ∧ Fm [11, 9, 10, 2, 4, 6, 5, 1, 3, 0, 7, 8] [15, 1, 2, 6, 1003, 1004, 1005, 1007, 1460] s t ∧ AIR t ∧ CPL t ∧ ∃ e, o = .inl (some (.int (Int32.ofInt e))) ∧ rng e ∧ ((e = 0 ∧ iI t 0 = 0 ∧ 0 ≤ w ∧ w ≤ iI s 0 ∧ w ≤ 100 ∧ STRx B w (iI s 9) (iI t 9) ∧ WNC B w s t) ∨ (e = 1 ∧ iI t 0 = iI s 0 ∧ (w < 0 ∨ iI s 0 < w ∨ 100 < w) ∧ iI t 9 = iI s 9 ∧ SAM 1 s t ∧ SAM 2 s t))) := by
  refine ctL_of G (by decide) (Nat.le_of_ble_eq_true rfl) (by decide) rfl (fun k X E ET hRt hEx q => ?_)
  show WS k 0 [(0, .ref (A 0)), (1, .int (Int32.ofInt w)), (2, .ref (A 517))] [] _ 0 0
  have F : Fm [11, 9, 10, 2, 4, 6, 5, 1, 3, 0, 7, 8] [15, 1, 2, 6, 1003, 1004, 1005, 1007, 1460] s s := fm_rf _ _ s
  have hA := swA_rf A
  have b1 := bi_0 I
  have b2 := bi_9 I
  refine z_aload_n X (x := A 517) rfl (List.Mem.tail _ (List.Mem.tail _ (List.Mem.head _))) (z_const X rfl (z_aload_n X (x := A 0) rfl (List.Mem.head _) (z_load_n X (x := w) rfl (List.Mem.tail _ (List.Mem.head _)) (z_callV X 0 (rm := rmN 136) (As := [.int (Int32.ofInt w)]) (st := [.int (Int32.ofInt 0), .ref (A 517)]) rfl rfl (by decide) rfl (by rw [E.1, E.2.1, E.2.2.1]; exact cs_stream5 G I jBYA jAIR jCPL (by omega)) ⟨by rw [E.2.2.2]; exact (show (rmN 136).frames + 1 ≤ (rmN 314).frames by decide), by rw [E.2.2.2]; exact (show 8 + (mNL (miB 136) + 11) + (rmN 136).locals ≤ (rmN 314).locals by decide), by rw [E.2.2.2]; exact (show 0 + (rmN 136).cells ≤ (rmN 314).cells by decide), by rw [E.2.2.2]; exact (show 0 + (rmN 136).slots ≤ (rmN 314).slots by decide)⟩ (Nat.le_of_ble_eq_true rfl) (fun vv s3 hq => ?_) (fun ee s3 hq => ?_)))))
  rotate_left
  · obtain ⟨Is3, Fs3, JAIR_s3, JCPL_s3, (⟨e4, hv, hrs3, hps3⟩ | ⟨xx, hv, hps3⟩)⟩ := hq
    · cases hv
    · cases hv
      rcases (show xx = 0 by omega) with gx
      ·
        subst gx
        have Gs3 := fm_tq F Fs3 rfl rfl
        have b5 := bi_0 Is3
        have b6 := bi_9 Is3
        refine (hEx 4 0).2 12 rfl _ _ _ _ _ (fun q1 => ?_)
        show WS k 12 [(0, .ref (A 0)), (1, .int (Int32.ofInt w)), (2, .ref (A 517))] [.ref q1] (Wd A dT s3) 1 6
        refine z_astore_n X (lv' := [(3, .ref q1), (0, .ref (A 0)), (1, .int (Int32.ofInt w)), (2, .ref (A 517))]) rfl (by decide) (fun _ h => h) (z_const X rfl ?_)
        exact w_iret X.1 q hRt rfl (ax_d X (show cdA 314 14 = some (.ireturn, 1, 0, 0, 0) from rfl)) (show 1 ≤ 1 by decide) (show 6 ≤ 6 by decide) ⟨A, _, hA, rfl, Is3, Gs3, JAIR_s3, JCPL_s3, 1, rfl, (by decide), Or.inr ⟨by decide, by omega, by omega, by omega, hps3.2.2.2.2⟩⟩
  obtain ⟨Is3, Fs3, JAIR_s3, JCPL_s3, (⟨e4, hv, hrs3, hps3⟩ | ⟨xx, hv, hps3⟩)⟩ := hq
  rotate_left
  · cases hv
  cases hv
  have Gs3 := fm_tq F Fs3 rfl rfl
  have b7 := bi_0 Is3
  have b8 := bi_9 Is3
  show WS k 7 [(0, .ref (A 0)), (1, .int (Int32.ofInt w)), (2, .ref (A 517))] [.int (Int32.ofInt e4), .int (Int32.ofInt 0), .ref (A 517)] (Wd A dT s3) 1 6
  refine w_i2l X.1 (ax_d X (show cdA 314 7 = some (.i2l, 1, 0, 0, 0) from rfl)) (z_last X 517 rfl (c518_ok rfl) rfl (by first | (clear hps3; omega) | omega) (show 0 < 1 by first | (clear hps3; omega) | omega) (cbig_ok rfl) (wd_gen (fun s9 hs9 => ?_)))
  have Is9 : Bd s9 := eqB hs9 (bd_D Is3)
  have Fs9 : Fm [11, 9, 10, 2, 4, 6, 5, 1, 3, 0, 7, 8] [15, 1, 2, 6, 1003, 1004, 1005, 1007, 1460] s s9 := by rw [hs9]; exact fm_D Gs3 (show 460 + 1000 ∈ _ by decide)
  have ws9_0 : iI s9 0 = iI s3 0 := eqI hs9 rfl
  have ws9_9 : iI s9 9 = iI s3 9 := eqI hs9 rfl
  have aws9_1 : SAM 1 s3 s9 := by rw [hs9]; exact (sam_rf (a := 1) (s := s3))
  have aws9_2 : SAM 2 s3 s9 := by rw [hs9]; exact (sam_rf (a := 2) (s := s3))
  have JAIR_s9 : AIR s9 := by rw [hs9]; exact JAIR_s3
  have JCPL_s9 : CPL s9 := by rw [hs9]; exact JCPL_s3
  have oos9 : iO s9 = e4 := by rw [hs9]; exact iO_u (by first | (clear hps3; omega) | omega)
  refine z_goto X (t := 15) rfl rfl (z_const X rfl ?_)
  exact w_iret X.1 q hRt rfl (ax_d X (show cdA 314 16 = some (.ireturn, 1, 0, 0, 0) from rfl)) (show 1 ≤ 1 by decide) (show 6 ≤ 6 by decide) ⟨A, _, hA, rfl, Is9, Fs9, JAIR_s9, JCPL_s9, 0, rfl, (by decide), Or.inl ⟨by decide, by first | (clear hps3; omega) | omega, by first | (clear hps3; omega) | omega, by first | (clear hps3; omega) | omega, by first | (clear hps3; omega) | omega, by rw [show iI s9 9 = iI s3 9 by first | (clear hps3; omega) | omega]; exact hps3.2.2.2.2.1, wnc_sam hps3.2.2.2.2.2 aws9_1 aws9_2 (by first | (clear hps3; omega) | omega)⟩⟩
set_option maxRecDepth 4000 in
theorem c9_twinOf3 (G : GX l s0 D tys a0 dT) (I : Bd s) {x : Int} (p0 : 0 ≤ x ∧ x ≤ 23) : CT l s0 D A dT 118 (rmN 118) [.ref (A 3), .int (Int32.ofInt x)] s (fun o t => Bd t ∧ Fm [] [] s t ∧ ∃ e, o = .inl (some (.int (Int32.ofInt e))) ∧ rng e ∧ ((0 ≤ e ∧ e ≤ x) ∧ TWP x e (iI s 9) s)) := by
  refine ct_ofX G (by decide) (Nat.le_of_ble_eq_true rfl) (fun k X E ET hRt hXt q => ?_)
  show WS k 0 [(0, .ref (A 3)), (1, .int (Int32.ofInt x))] [] _ 0 0
  have F : Fm [] [] s s := fm_rf _ _ s
  have b1 := bi_9 I
  have L9 : ∀ (n : Nat) (t : PS) (xv qq c : Int), Bd t → Fm [] [] s t → (TWP x qq c s) → ((xv = x ∧ 0 ≤ xv ∧ xv ≤ 23) ∧ (0 ≤ qq ∧ qq < x) ∧ (0 ≤ c ∧ c ≤ iI s 9) ∧ iI s 9 ≤ 12 ∧ iI t 9 = iI s 9) → (12 - c : Int).toNat < n → (∀ (t' : PS) (c' : Int), Bd t' → Fm [] [] s t' → (TWP x qq c' s) → ((xv = x ∧ 0 ≤ xv ∧ xv ≤ 23) ∧ (0 ≤ qq ∧ qq < x) ∧ (0 ≤ c' ∧ c' ≤ iI s 9) ∧ iI s 9 ≤ 12 ∧ iI t' 9 = iI s 9) → WS k 48 [(0, .ref (A 3)), (1, .int (Int32.ofInt xv)), (2, .int (Int32.ofInt qq)), (3, .int (Int32.ofInt c'))] [] (Wd A dT t') 0 0) → WS k 9 [(0, .ref (A 3)), (1, .int (Int32.ofInt xv)), (2, .int (Int32.ofInt qq)), (3, .int (Int32.ofInt c))] [] (Wd A dT t) 0 0 := by
    intro n
    induction n with
    | zero =>
      intro t xv qq c I F hq hi hm kx
      exact absurd hm (Nat.not_lt_zero _)
    | succ n ih =>
      intro t xv qq c I F hq hi hm kx
      have b1001 := bi_9 I
      refine z_load_n X (x := c) rfl (List.Mem.tail _ (List.Mem.tail _ (List.Mem.tail _ (List.Mem.head _)))) (z_aload_n X (x := A 3) rfl (List.Mem.head _) (z_getI X 3 rfl (c518_ok rfl) rfl rfl ?_))
      have b1002 := bi_9 I
      refine z_icmp_ge X (t := 48) rfl rfl ⟨by first | exact oq_fa4e5087 hi.2.2.1.1 | omega, by first | exact oq_39d2cc6e hi.2.2.1.2 hi.2.2.2.1 | omega⟩ (rng_to _) (fun g1003 => ?_) (fun g1003 => ?_)
      ·
        refine WS_pq [0, 1, 2, 3] (lv' := [(0, .ref (A 3)), (1, .int (Int32.ofInt xv)), (2, .int (Int32.ofInt qq)), (3, .int (Int32.ofInt c))]) rfl ?_
        exact kx _ c I F hq (by first | exact ⟨And.intro (hi.1.1) (And.intro (hi.1.2.1) (hi.1.2.2)), And.intro (hi.2.1.1) (hi.2.1.2), And.intro (hi.2.2.1.1) (hi.2.2.1.2), hi.2.2.2.1, hi.2.2.2.2⟩ | omega)
      ·
        refine z_aload_n X (x := A 3) rfl (List.Mem.head _) (s_getR X 3 rfl (c518_ok rfl) rfl rfl (z_load_n X (x := qq) rfl (List.Mem.tail _ (List.Mem.tail _ (List.Mem.head _))) (z_bipush X rfl (z_mul X rfl (z_load_n X (x := c) rfl (List.Mem.tail _ (List.Mem.tail _ (List.Mem.tail _ (List.Mem.head _)))) (z_add X rfl (z_ald X 14 rfl (c518_ok rfl) rfl (by first | exact oq_0f03f1de hi.2.1.1 hi.2.2.1.1 | omega) (show ((qq * 12) + c) < 288 by first | exact oq_fd6e9ee3 hi.2.1.2 g1003 p0.2 b1002.2 | omega) (cbig_ok rfl) ?_)))))))
        have b1004 := bc_11 I (show (((qq * 12) + c)).toNat < 288 by first | exact oq_7632bb3e hi.2.1.2 g1003 p0.2 b1002.2 | omega)
        refine z_aload_n X (x := A 3) rfl (List.Mem.head _) (s_getR X 3 rfl (c518_ok rfl) rfl rfl (z_load_n X (x := xv) rfl (List.Mem.tail _ (List.Mem.head _)) (z_bipush X rfl (z_mul X rfl (z_load_n X (x := c) rfl (List.Mem.tail _ (List.Mem.tail _ (List.Mem.tail _ (List.Mem.head _)))) (z_add X rfl (z_ald X 14 rfl (c518_ok rfl) rfl (by first | exact oq_1d1618ee hi.2.2.1.1 hi.1.2.1 | omega) (show ((xv * 12) + c) < 288 by first | exact oq_45988efc hi.1.2.2 g1003 b1002.2 | omega) (cbig_ok rfl) ?_)))))))
        have b1005 := bc_11 I (show (((xv * 12) + c)).toNat < 288 by first | exact oq_8395bb7c hi.1.2.2 g1003 b1002.2 | omega)
        refine z_icmp_ne X (t := 48) rfl rfl (rng_to _) (rng_to _) (fun g1006 => ?_) (fun g1006 => ?_)
        ·
          refine WS_pq [0, 1, 2, 3] (lv' := [(0, .ref (A 3)), (1, .int (Int32.ofInt xv)), (2, .int (Int32.ofInt qq)), (3, .int (Int32.ofInt c))]) rfl ?_
          exact kx _ c I F hq (by first | exact ⟨And.intro (hi.1.1) (And.intro (hi.1.2.1) (hi.1.2.2)), And.intro (hi.2.1.1) (hi.2.1.2), And.intro (hi.2.2.1.1) (hi.2.2.1.2), hi.2.2.2.1, hi.2.2.2.2⟩ | omega)
        ·
          refine z_inc X (x := c) (lv' := [(3, .int (Int32.ofInt (c + 1))), (0, .ref (A 3)), (1, .int (Int32.ofInt xv)), (2, .int (Int32.ofInt qq))]) rfl (by decide) (List.Mem.tail _ (List.Mem.tail _ (List.Mem.tail _ (List.Mem.head _)))) (fun _ h => h) (z_goto X (t := 9) rfl rfl (WS_pq [1, 2, 3, 0] (lv' := [(0, .ref (A 3)), (1, .int (Int32.ofInt xv)), (2, .int (Int32.ofInt qq)), (3, .int (Int32.ofInt (c + 1)))]) rfl ?_))
          exact ih _ xv qq (c + 1) I F (twp_up hq (by omega) (by have z1 := (sam_fm F List.not_mem_nil : SAM 11 s t) (x * 12 + c).toNat; have z2 := (sam_fm F List.not_mem_nil : SAM 11 s t) (qq * 12 + c).toNat; rw [show xv = x by omega] at *; omega)) (by first | exact ⟨And.intro (hi.1.1) (And.intro (hi.1.2.1) (hi.1.2.2)), And.intro (hi.2.1.1) (hi.2.1.2), And.intro (oq_54f49eb5 hi.2.2.1.1) (oq_8a89b3ae g1003 hi.2.2.2.2), hi.2.2.2.1, hi.2.2.2.2⟩ | omega) (by first | exact qk_me hm (by decide) (oq_b575e8c1 g1003 b1002.2) | omega) kx
  have L2 : ∀ (n : Nat) (t : PS) (xv qq : Int), Bd t → Fm [] [] s t → ((xv = x ∧ 0 ≤ xv ∧ xv ≤ 23) ∧ (0 ≤ qq ∧ qq ≤ xv) ∧ iI s 9 ≤ 12 ∧ iI t 9 = iI s 9) → (24 - qq : Int).toNat < n → (∀ (t' : PS) (qq' : Int), Bd t' → Fm [] [] s t' → ((xv = x ∧ 0 ≤ xv ∧ xv ≤ 23) ∧ (0 ≤ qq' ∧ qq' ≤ xv) ∧ iI s 9 ≤ 12 ∧ iI t' 9 = iI s 9) → WS k 64 [(0, .ref (A 3)), (1, .int (Int32.ofInt xv)), (2, .int (Int32.ofInt qq'))] [] (Wd A dT t') 0 0) → WS k 2 [(0, .ref (A 3)), (1, .int (Int32.ofInt xv)), (2, .int (Int32.ofInt qq))] [] (Wd A dT t) 0 0 := by
    intro n
    induction n with
    | zero =>
      intro t xv qq I F hi hm kx
      exact absurd hm (Nat.not_lt_zero _)
    | succ n ih =>
      intro t xv qq I F hi hm kx
      have b2001 := bi_9 I
      refine z_load_n X (x := qq) rfl (List.Mem.tail _ (List.Mem.tail _ (List.Mem.head _))) (z_load_n X (x := xv) rfl (List.Mem.tail _ (List.Mem.head _)) (z_icmp_ge X (t := 64) rfl rfl ⟨by first | exact oq_fa4e5087 hi.2.1.1 | omega, by first | exact oq_7c6846ed hi.2.1.2 hi.1.2.2 | omega⟩ ⟨by first | exact oq_fa4e5087 hi.1.2.1 | omega, by first | exact oq_1a42ef34 hi.1.2.2 | omega⟩ (fun g2002 => ?_) (fun g2002 => ?_)))
      ·
        refine WS_pq [0, 1, 2] (lv' := [(0, .ref (A 3)), (1, .int (Int32.ofInt xv)), (2, .int (Int32.ofInt qq))]) rfl ?_
        exact kx _ qq I F (by first | exact ⟨And.intro (hi.1.1) (And.intro (hi.1.2.1) (hi.1.2.2)), And.intro (hi.2.1.1) (hi.2.1.2), hi.2.2.1, hi.2.2.2⟩ | omega)
      ·
        refine z_const X rfl (z_store_n X (lv' := [(3, .int (Int32.ofInt 0)), (0, .ref (A 3)), (1, .int (Int32.ofInt xv)), (2, .int (Int32.ofInt qq))]) rfl (by decide) (fun _ h => h) (WS_pq [1, 2, 3, 0] (lv' := [(0, .ref (A 3)), (1, .int (Int32.ofInt xv)), (2, .int (Int32.ofInt qq)), (3, .int (Int32.ofInt 0))]) rfl (L9 ((12 - 0 : Int).toNat + 1) t xv qq 0 I F (fun j hj => absurd hj (by omega)) (by first | exact ⟨And.intro (hi.1.1) (And.intro (hi.1.2.1) (hi.1.2.2)), And.intro (hi.2.1.1) (oq_095218f7 hi.1.1 g2002), And.intro (by decide) (b1.1), hi.2.2.1, hi.2.2.2⟩ | omega) (Nat.lt_succ_self _) ?_)))
        intro s2003 x2004 Is2003 Fs2003 Qs2003 hs2003
        have b2005 := bi_9 Is2003
        refine z_load_n X (x := x2004) rfl (List.Mem.tail _ (List.Mem.tail _ (List.Mem.tail _ (List.Mem.head _)))) (z_aload_n X (x := A 3) rfl (List.Mem.head _) (z_getI X 3 rfl (c518_ok rfl) rfl rfl ?_))
        have b2006 := bi_9 Is2003
        refine z_icmp_ne X (t := 58) rfl rfl ⟨by first | exact oq_fa4e5087 hs2003.2.2.1.1 | omega, by first | exact oq_39d2cc6e hs2003.2.2.1.2 hs2003.2.2.2.1 | omega⟩ (rng_to _) (fun g2007 => ?_) (fun g2007 => ?_)
        ·
          refine z_inc X (x := qq) (lv' := [(2, .int (Int32.ofInt (qq + 1))), (0, .ref (A 3)), (1, .int (Int32.ofInt xv)), (3, .int (Int32.ofInt x2004))]) rfl (by decide) (List.Mem.tail _ (List.Mem.tail _ (List.Mem.head _))) (fun _ h => h) (z_goto X (t := 2) rfl rfl (WS_pq [1, 2, 0] (lv' := [(0, .ref (A 3)), (1, .int (Int32.ofInt xv)), (2, .int (Int32.ofInt (qq + 1)))]) rfl ?_))
          exact ih _ xv (qq + 1) Is2003 Fs2003 (by first | exact ⟨And.intro (hs2003.1.1) (And.intro (hs2003.1.2.1) (hs2003.1.2.2)), And.intro (oq_54f49eb5 hs2003.2.1.1) (oq_afc84a8d g2002), hs2003.2.2.2.1, hs2003.2.2.2.2⟩ | omega) (by first | exact qk_me hm (by decide) (oq_e37f36f8 hs2003.2.1.2 p0.2) | omega) kx
        ·
          refine z_load_n X (x := qq) rfl (List.Mem.tail _ (List.Mem.tail _ (List.Mem.head _))) ?_
          exact w_iret X.1 q hRt rfl (ax_d X (show cdA 118 57 = some (.ireturn, 1, 0, 0, 0) from rfl)) (Nat.zero_le _) (Nat.zero_le _) ⟨_, rfl, Is2003, Fs2003, qq, rfl, ⟨by first | exact oq_fa4e5087 hs2003.2.1.1 | omega, by first | exact oq_74680d82 hs2003.2.1.2 p0.2 | omega⟩, ⟨by first | exact ⟨hs2003.2.1.1, oq_161a6600 hs2003.2.1.2⟩ | omega, by have z := Qs2003; rw [show x2004 = iI s 9 by omega] at z; exact z⟩⟩
  refine z_const X rfl (z_store_n X (lv' := [(2, .int (Int32.ofInt 0)), (0, .ref (A 3)), (1, .int (Int32.ofInt x))]) rfl (by decide) (fun _ h => h) (WS_pq [1, 2, 0] (lv' := [(0, .ref (A 3)), (1, .int (Int32.ofInt x)), (2, .int (Int32.ofInt 0))]) rfl (L2 ((24 - 0 : Int).toNat + 1) s x 0 I F (by first | exact ⟨And.intro (by decide) (And.intro (p0.1) (p0.2)), And.intro (by decide) (p0.1), b1.2, by decide⟩ | omega) (Nat.lt_succ_self _) ?_)))
  intro s2 x3 Is2 Fs2 hs2
  have b4 := bi_9 Is2
  refine z_load_n X (x := x) rfl (List.Mem.tail _ (List.Mem.head _)) ?_
  exact w_iret X.1 q hRt rfl (ax_d X (show cdA 118 65 = some (.ireturn, 1, 0, 0, 0) from rfl)) (Nat.zero_le _) (Nat.zero_le _) ⟨_, rfl, Is2, Fs2, x, rfl, ⟨by first | exact oq_fa4e5087 hs2.1.2.1 | omega, by first | exact oq_1a42ef34 hs2.1.2.2 | omega⟩, ⟨by first | exact ⟨hs2.1.2.1, by decide⟩ | omega, twp_rf⟩⟩
set_option maxRecDepth 4000 in
theorem c9_retell5 (G : GX l s0 D tys a0 dT) (I : Bd s) {x : Int} (p0 : 0 ≤ x ∧ x ≤ 11) : CT l s0 D A dT 116 (rmN 116) [.ref (A 3), .int (Int32.ofInt x)] s (fun o t => Bd t ∧ Fm [] [11, 12, 13, 14] s t ∧ TWJ t ∧ o = .inl none ∧ (RTQ x 24 s t ∧ RTS x 24 s t)) := by
  refine ct_ofX G (by decide) (Nat.le_of_ble_eq_true rfl) (fun k X E ET hRt hXt q => ?_)
  show WS k 0 [(0, .ref (A 3)), (1, .int (Int32.ofInt x))] [] _ 0 0
  have F : Fm [] [11, 12, 13, 14] s s := fm_rf _ _ s
  have aw0_11 : SAM 11 s s := sam_rf
  have aw0_12 : SAM 12 s s := sam_rf
  have b1 := bi_9 I
  have L16 : ∀ (n : Nat) (t : PS) (xv qq : Int), Bd t → Fm [] [11, 12, 13, 14] s t → (RTQ x qq s t ∧ RTS x qq s t) → (xv = x ∧ (0 ≤ xv ∧ xv ≤ 11) ∧ 0 ≤ qq ∧ qq ≤ 24 ∧ iC t 12 (xv).toNat ≤ 50 * qq ∧ iC t 13 (xv).toNat ≤ 50 * qq ∧ iI t 9 = iI s 9) → (24 - qq : Int).toNat < n → (∀ (t' : PS) (qq' : Int), Bd t' → Fm [] [11, 12, 13, 14] s t' → (RTQ x 24 s t' ∧ RTS x 24 s t') → (qq' = 24 ∧ xv = x ∧ iI t' 9 = iI s 9) → WS k 77 [(0, .ref (A 3)), (1, .int (Int32.ofInt xv)), (2, .int (Int32.ofInt qq'))] [] (Wd A dT t') 0 0) → WS k 16 [(0, .ref (A 3)), (1, .int (Int32.ofInt xv)), (2, .int (Int32.ofInt qq))] [] (Wd A dT t) 0 0 := by
    intro n
    induction n with
    | zero =>
      intro t xv qq I F hq hi hm kx
      exact absurd hm (Nat.not_lt_zero _)
    | succ n ih =>
      intro t xv qq I F hq hi hm kx
      have b1001 := bi_9 I
      refine z_load_n X (x := qq) rfl (List.Mem.tail _ (List.Mem.tail _ (List.Mem.head _))) (z_bipush X rfl (z_icmp_ge X (t := 77) rfl rfl ⟨by first | exact oq_fa4e5087 hi.2.2.1 | omega, by first | exact oq_5bcd337f hi.2.2.2.1 | omega⟩ (by decide) (fun g1002 => ?_) (fun g1002 => ?_)))
      ·
        refine WS_pq [0, 1, 2] (lv' := [(0, .ref (A 3)), (1, .int (Int32.ofInt xv)), (2, .int (Int32.ofInt qq))]) rfl ?_
        exact kx _ qq I F (by rw [show (24 : Int) = qq by omega]; exact hq) (by first | exact ⟨oq_ea1742b3 hi.2.2.2.1 g1002, hi.1, hi.2.2.2.2.2.2⟩ | omega)
      ·
        refine z_aload_n X (x := A 3) rfl (List.Mem.head _) (z_load_n X (x := xv) rfl (List.Mem.tail _ (List.Mem.head _)) (z_load_n X (x := qq) rfl (List.Mem.tail _ (List.Mem.tail _ (List.Mem.head _))) (zcV_i0 X E 3 (As := [.int (Int32.ofInt xv), .int (Int32.ofInt qq)]) (st := []) rfl rfl rfl rfl (c9_mostIn2 G I (by first | exact ⟨hi.2.1.1, hi.2.1.2⟩ | omega) (by first | exact ⟨hi.2.2.1, oq_c69fe266 g1002⟩ | omega)) rfl (Nat.le_of_ble_eq_true rfl) (fun s1003 e1004 Is1003 Fs1003 hrs1003 hps1003 => ?_))))
        have Gs1003 := fm_tq F Fs1003 rfl rfl
        have cw1005 : iC s1003 12 (xv).toNat = iC t 12 (xv).toNat := fm_c Fs1003 (by decide)
        have cw1006 : iC s1003 13 (xv).toNat = iC t 13 (xv).toNat := fm_c Fs1003 (by decide)
        have ws1003_9 : iI s1003 9 = iI t 9 := fm_iq Fs1003 rfl
        have aws1003_11 : SAM 11 t s1003 := sam_ts (sam_rf (a := 11) (s := t)) (sam_fm Fs1003 (by decide))
        have aws1003_12 : SAM 12 t s1003 := sam_ts (sam_rf (a := 12) (s := t)) (sam_fm Fs1003 (by decide))
        have aws1003_8 : SAM 8 t s1003 := sam_ts (sam_rf (a := 8) (s := t)) (sam_fm Fs1003 (by decide))
        refine z_store_n X (lv' := [(3, .int (Int32.ofInt e1004)), (0, .ref (A 3)), (1, .int (Int32.ofInt xv)), (2, .int (Int32.ofInt qq))]) rfl (by decide) (fun _ h => h) (z_aload_n X (x := A 3) rfl (List.Mem.tail _ (List.Mem.head _)) (s_getR X 3 rfl (c518_ok rfl) rfl rfl (z_load_n X (x := qq) rfl (List.Mem.tail _ (List.Mem.tail _ (List.Mem.tail _ (List.Mem.head _)))) (z_bipush X rfl (z_mul X rfl (z_load_n X (x := xv) rfl (List.Mem.tail _ (List.Mem.tail _ (List.Mem.head _))) (z_add X rfl (z_load_n X (x := e1004) rfl (List.Mem.head _) (z_ast X 14 rfl (c518_ok rfl) rfl (by first | exact oq_1d1618ee hi.2.1.1 hi.2.2.1 | omega) (show ((qq * 12) + xv) < 288 by first | exact oq_b653f49d g1002 hi.2.1.2 | omega) (cbig_ok rfl) (wd_gen (fun s1007 hs1007 => ?_)))))))))))
        have Is1007 : Bd s1007 := eqB hs1007 (bd_C Is1003 (show (0 : Int) ≤ e1004 ∧ e1004 ≤ 50 by first | exact ⟨hps1003.1, hps1003.2.1⟩ | omega) hrs1003)
        have Fs1007 := eqF hs1007 (fm_C Gs1003 (inl_ok (a := 11) rfl))
        have ws1007_9 : iI s1007 9 = iI s1003 9 := eqI hs1007 rfl
        have aws1007_11 : UPD 11 (((qq * 12) + xv)) e1004 t s1007 := by rw [hs1007]; exact upd_put aws1003_11 hrs1003
        have aws1007_12 : SAM 12 t s1007 := by rw [hs1007]; exact sam_C (by decide) aws1003_12
        have aws1007_8 : SAM 8 t s1007 := by rw [hs1007]; exact sam_C (by decide) aws1003_8
        have cw1008 : iC s1007 12 (xv).toNat = iC s1003 12 (xv).toNat := eqC hs1007 (iC_a (by omega))
        have cw1009 : iC s1007 13 (xv).toNat = iC s1003 13 (xv).toNat := eqC hs1007 (iC_a (by omega))
        refine z_aload_n X (x := A 3) rfl (List.Mem.tail _ (List.Mem.head _)) (s_getR X 3 rfl (c518_ok rfl) rfl rfl (z_load_n X (x := xv) rfl (List.Mem.tail _ (List.Mem.tail _ (List.Mem.head _))) (w_dup2_11 X.1 (ax_d X (show cdA 116 46 = some (.dup2, 1, 0, 0, 0) from rfl)) rfl rfl (z_ald X 15 rfl (c518_ok rfl) rfl (by first | exact hi.2.1.1 | omega) (show xv < 12 by first | exact oq_0ddfcfee hi.2.1.2 | omega) (cbig_ok rfl) ?_))))
        have b1010 := bc_12 Is1007 (show (xv).toNat < 12 by first | exact oq_9c5fa447 hi.2.1.2 | omega)
        have ar1011 : iC s1007 12 (xv).toNat = iC t 12 (xv).toNat := aws1007_12 _
        refine z_aload_n X (x := A 3) rfl (List.Mem.tail _ (List.Mem.head _)) (s_getR X 3 rfl (c518_ok rfl) rfl rfl (z_load_n X (x := xv) rfl (List.Mem.tail _ (List.Mem.tail _ (List.Mem.head _))) (z_bipush X rfl (z_mul X rfl (z_load_n X (x := qq) rfl (List.Mem.tail _ (List.Mem.tail _ (List.Mem.tail _ (List.Mem.head _)))) (z_add X rfl (z_ald X 11 rfl (c518_ok rfl) rfl (by first | exact oq_4071a75f hi.2.1.1 hi.2.2.1 | omega) (show ((xv * 24) + qq) < 288 by first | exact oq_86e8e22d hi.2.1.2 g1002 | omega) (cbig_ok rfl) ?_)))))))
        have b1012 := bc_8 Is1007 (show (((xv * 24) + qq)).toNat < 288 by first | exact oq_7d86e3d4 hi.2.1.2 g1002 | omega)
        have ar1013 : iC s1007 8 (((xv * 24) + qq)).toNat = iC t 8 (((xv * 24) + qq)).toNat := aws1007_8 _
        refine z_add X rfl (z_ast X 15 rfl (c518_ok rfl) rfl (by first | exact hi.2.1.1 | omega) (show xv < 12 by first | exact oq_0ddfcfee hi.2.1.2 | omega) (cbig_ok rfl) (wd_gen (fun s1014 hs1014 => ?_)))
        have Is1014 : Bd s1014 := eqB hs1014 (bd_C Is1007 (show (0 : Int) ≤ ((iC s1007 12 (xv).toNat) + (iC s1007 8 (((xv * 24) + qq)).toNat)) ∧ ((iC s1007 12 (xv).toNat) + (iC s1007 8 (((xv * 24) + qq)).toNat)) ≤ 1200 by first | exact ⟨oq_d8d6a599 b1012.1 b1010.1, oq_7ef63f09 b1012.2 ar1011 hi.2.2.2.2.1 g1002⟩ | omega) ⟨by first | exact oq_46831602 b1012.1 b1010.1 | omega, by first | exact oq_9e0d5d26 b1012.2 b1010.2 | omega⟩)
        have Fs1014 := eqF hs1014 (fm_C Fs1007 (inl_ok (a := 12) rfl))
        have ws1014_9 : iI s1014 9 = iI s1007 9 := eqI hs1014 rfl
        have vs1014 : iC s1014 12 (xv).toNat = ((iC s1007 12 (xv).toNat) + (iC s1007 8 (((xv * 24) + qq)).toNat)) := eqC hs1014 (iC_u ⟨by first | exact oq_46831602 b1012.1 b1010.1 | omega, by first | exact oq_9e0d5d26 b1012.2 b1010.2 | omega⟩)
        have aws1014_11 : UPD 11 (((qq * 12) + xv)) e1004 t s1014 := by rw [hs1014]; exact upd_C (by decide) aws1007_11
        have aws1014_12 : UPD 12 (xv) ((iC s1007 12 (xv).toNat) + (iC s1007 8 (((xv * 24) + qq)).toNat)) t s1014 := by rw [hs1014]; exact upd_put aws1007_12 ⟨by first | exact oq_46831602 b1012.1 b1010.1 | omega, by first | exact oq_9e0d5d26 b1012.2 b1010.2 | omega⟩
        have aws1014_8 : SAM 8 t s1014 := by rw [hs1014]; exact sam_C (by decide) aws1007_8
        have cw1015 : iC s1014 13 (xv).toNat = iC s1007 13 (xv).toNat := eqC hs1014 (iC_a (by omega))
        refine z_aload_n X (x := A 3) rfl (List.Mem.tail _ (List.Mem.head _)) (s_getR X 3 rfl (c518_ok rfl) rfl rfl (z_load_n X (x := xv) rfl (List.Mem.tail _ (List.Mem.tail _ (List.Mem.head _))) (w_dup2_11 X.1 (ax_d X (show cdA 116 66 = some (.dup2, 1, 0, 0, 0) from rfl)) rfl rfl (z_ald X 16 rfl (c518_ok rfl) rfl (by first | exact hi.2.1.1 | omega) (show xv < 12 by first | exact oq_0ddfcfee hi.2.1.2 | omega) (cbig_ok rfl) ?_))))
        have b1016 := bc_13 Is1014 (show (xv).toNat < 12 by first | exact oq_9c5fa447 hi.2.1.2 | omega)
        refine z_load_n X (x := e1004) rfl (List.Mem.head _) (z_add X rfl (z_ast X 16 rfl (c518_ok rfl) rfl (by first | exact hi.2.1.1 | omega) (show xv < 12 by first | exact oq_0ddfcfee hi.2.1.2 | omega) (cbig_ok rfl) (wd_gen (fun s1017 hs1017 => ?_))))
        have Is1017 : Bd s1017 := eqB hs1017 (bd_C Is1014 (show (0 : Int) ≤ ((iC s1014 13 (xv).toNat) + e1004) ∧ ((iC s1014 13 (xv).toNat) + e1004) ≤ 1200 by first | exact ⟨oq_d8d6a599 hps1003.1 b1016.1, oq_b519fb4a cw1015 cw1009 cw1006 hps1003.2.1 g1002 hi.2.2.2.2.2.1⟩ | omega) ⟨by first | exact oq_46831602 hps1003.1 b1016.1 | omega, by first | exact oq_9e0d5d26 hps1003.2.1 b1016.2 | omega⟩)
        have Fs1017 := eqF hs1017 (fm_C Fs1014 (inl_ok (a := 13) rfl))
        have ws1017_9 : iI s1017 9 = iI s1014 9 := eqI hs1017 rfl
        have vs1017 : iC s1017 13 (xv).toNat = ((iC s1014 13 (xv).toNat) + e1004) := eqC hs1017 (iC_u ⟨by first | exact oq_46831602 hps1003.1 b1016.1 | omega, by first | exact oq_9e0d5d26 hps1003.2.1 b1016.2 | omega⟩)
        have aws1017_11 : UPD 11 (((qq * 12) + xv)) e1004 t s1017 := by rw [hs1017]; exact upd_C (by decide) aws1014_11
        have aws1017_12 : UPD 12 (xv) ((iC s1007 12 (xv).toNat) + (iC s1007 8 (((xv * 24) + qq)).toNat)) t s1017 := by rw [hs1017]; exact upd_C (by decide) aws1014_12
        have aws1017_8 : SAM 8 t s1017 := by rw [hs1017]; exact sam_C (by decide) aws1014_8
        have cw1018 : iC s1017 12 (xv).toNat = iC s1014 12 (xv).toNat := eqC hs1017 (iC_a (by omega))
        refine z_inc X (x := qq) (lv' := [(2, .int (Int32.ofInt (qq + 1))), (3, .int (Int32.ofInt e1004)), (0, .ref (A 3)), (1, .int (Int32.ofInt xv))]) rfl (by decide) (List.Mem.tail _ (List.Mem.tail _ (List.Mem.tail _ (List.Mem.head _)))) (fun _ h => h) (z_goto X (t := 16) rfl rfl (WS_pq [2, 3, 0] (lv' := [(0, .ref (A 3)), (1, .int (Int32.ofInt xv)), (2, .int (Int32.ofInt (qq + 1)))]) rfl ?_))
        exact ih _ xv (qq + 1) Is1017 Fs1017 ⟨rtq_up hq.1 (upd_ix aws1017_11 (by rw [show xv = x by omega])) (mx_st hps1003.2.2 (sam_fm F (by decide) : SAM 8 s t) (sam_fm F (by decide) : SAM 10 s t) (sam_fm F (by decide) : SAM 9 s t) (by omega)) (by omega) (by omega) (by omega) (by omega), rts_up (v := CNR s x qq) hq.2 (upd_ix aws1017_12 (by omega)) (by rw [show x = xv by omega]; unfold CNR; have z1 := (sam_fm F (by decide) : SAM 8 s t) (xv * 24 + qq).toNat; omega) rfl (by omega) (by omega)⟩ (by first | exact ⟨hi.1, And.intro (hi.2.1.1) (hi.2.1.2), oq_54f49eb5 hi.2.2.1, oq_cec7cb2e g1002, oq_99166280 cw1018 vs1014 hi.2.2.2.2.1 ar1011 b1012.2, oq_b1573aec vs1017 cw1015 cw1009 cw1006 hps1003.2.1 hi.2.2.2.2.2.1, oq_b4d295d9 ws1017_9 hi.2.2.2.2.2.2 ws1014_9 ws1007_9 ws1003_9⟩ | omega) (by first | exact qk_me hm (by decide) (oq_ffa8317e g1002) | omega) kx
  have L79 : ∀ (n : Nat) (t : PS) (xv qq : Int), Bd t → Fm [] [11, 12, 13, 14] s t → ((RTQ x 24 s t ∧ RTS x 24 s t) ∧ TWN qq t) → (0 ≤ qq ∧ qq ≤ 24 ∧ iI t 9 = iI s 9) → (24 - qq : Int).toNat < n → (∀ (t' : PS) (qq' : Int), Bd t' → Fm [] [11, 12, 13, 14] s t' → ((RTQ x 24 s t' ∧ RTS x 24 s t') ∧ TWN qq' t') → (qq' = 24 ∧ iI t' 9 = iI s 9) → WS k 102 [(0, .ref (A 3)), (1, .int (Int32.ofInt xv)), (2, .int (Int32.ofInt qq'))] [] (Wd A dT t') 0 0) → WS k 79 [(0, .ref (A 3)), (1, .int (Int32.ofInt xv)), (2, .int (Int32.ofInt qq))] [] (Wd A dT t) 0 0 := by
    intro n
    induction n with
    | zero =>
      intro t xv qq I F hq hi hm kx
      exact absurd hm (Nat.not_lt_zero _)
    | succ n ih =>
      intro t xv qq I F hq hi hm kx
      have b2001 := bi_9 I
      refine z_load_n X (x := qq) rfl (List.Mem.tail _ (List.Mem.tail _ (List.Mem.head _))) (z_bipush X rfl (z_icmp_ge X (t := 102) rfl rfl ⟨by first | exact oq_fa4e5087 hi.1 | omega, by first | exact oq_5bcd337f hi.2.1 | omega⟩ (by decide) (fun g2002 => ?_) (fun g2002 => ?_)))
      ·
        refine WS_pq [0, 1, 2] (lv' := [(0, .ref (A 3)), (1, .int (Int32.ofInt xv)), (2, .int (Int32.ofInt qq))]) rfl ?_
        exact kx _ qq I F hq (by first | exact ⟨oq_ea1742b3 hi.2.1 g2002, hi.2.2⟩ | omega)
      ·
        refine z_aload_n X (x := A 3) rfl (List.Mem.head _) (s_getR X 3 rfl (c518_ok rfl) rfl rfl (z_load_n X (x := qq) rfl (List.Mem.tail _ (List.Mem.tail _ (List.Mem.head _))) (z_aload_n X (x := A 3) rfl (List.Mem.head _) (z_load_n X (x := qq) rfl (List.Mem.tail _ (List.Mem.tail _ (List.Mem.head _))) (zcV_i0 X E 3 (As := [.int (Int32.ofInt qq)]) (st := [.int (Int32.ofInt qq), .ref (A 17)]) rfl rfl rfl rfl (c9_twinOf3 G I (by first | exact ⟨hi.1, oq_c69fe266 g2002⟩ | omega)) rfl (Nat.le_of_ble_eq_true rfl) (fun s2003 e2004 Is2003 Fs2003 hrs2003 hps2003 => ?_))))))
        have Gs2003 := fm_tq F Fs2003 rfl rfl
        have cw2005 : iC s2003 12 (xv).toNat = iC t 12 (xv).toNat := fm_c Fs2003 (by decide)
        have cw2006 : iC s2003 13 (xv).toNat = iC t 13 (xv).toNat := fm_c Fs2003 (by decide)
        have ws2003_9 : iI s2003 9 = iI t 9 := fm_iq Fs2003 rfl
        have aws2003_11 : SAM 11 t s2003 := sam_ts (sam_rf (a := 11) (s := t)) (sam_fm Fs2003 (by decide))
        have aws2003_12 : SAM 12 t s2003 := sam_ts (sam_rf (a := 12) (s := t)) (sam_fm Fs2003 (by decide))
        have aws2003_8 : SAM 8 t s2003 := sam_ts (sam_rf (a := 8) (s := t)) (sam_fm Fs2003 (by decide))
        have aws2003_14 : SAM 14 t s2003 := sam_ts (sam_rf (a := 14) (s := t)) (sam_fm Fs2003 (by decide))
        refine z_ast X 17 rfl (c518_ok rfl) rfl (by first | exact hi.1 | omega) (show qq < 24 by first | exact g2002 | omega) (cbig_ok rfl) (wd_gen (fun s2007 hs2007 => ?_))
        have Is2007 : Bd s2007 := eqB hs2007 (bd_C Is2003 (show (0 : Int) ≤ e2004 ∧ e2004 ≤ 23 by first | exact ⟨hps2003.1.1, oq_500f2c54 hps2003.1.2 g2002⟩ | omega) hrs2003)
        have Fs2007 := eqF hs2007 (fm_C Gs2003 (inl_ok (a := 14) rfl))
        have ws2007_9 : iI s2007 9 = iI s2003 9 := eqI hs2007 rfl
        have aws2007_11 : SAM 11 t s2007 := by rw [hs2007]; exact sam_C (by decide) aws2003_11
        have aws2007_12 : SAM 12 t s2007 := by rw [hs2007]; exact sam_C (by decide) aws2003_12
        have aws2007_8 : SAM 8 t s2007 := by rw [hs2007]; exact sam_C (by decide) aws2003_8
        have aws2007_14 : UPD 14 (qq) e2004 t s2007 := by rw [hs2007]; exact upd_put aws2003_14 hrs2003
        have cw2008 : iC s2007 12 (xv).toNat = iC s2003 12 (xv).toNat := eqC hs2007 (iC_a (by omega))
        have cw2009 : iC s2007 13 (xv).toNat = iC s2003 13 (xv).toNat := eqC hs2007 (iC_a (by omega))
        refine z_inc X (x := qq) (lv' := [(2, .int (Int32.ofInt (qq + 1))), (0, .ref (A 3)), (1, .int (Int32.ofInt xv))]) rfl (by decide) (List.Mem.tail _ (List.Mem.tail _ (List.Mem.head _))) (fun _ h => h) (z_goto X (t := 79) rfl rfl (WS_pq [1, 2, 0] (lv' := [(0, .ref (A 3)), (1, .int (Int32.ofInt xv)), (2, .int (Int32.ofInt (qq + 1)))]) rfl ?_))
        exact ih _ xv (qq + 1) Is2007 Fs2007 ⟨⟨rtq_sam hq.1.1 aws2007_11, rts_sam hq.1.2 aws2007_12⟩, twn_up hq.2 (by omega) hps2003 aws2007_14 aws2007_11 (by omega)⟩ (by first | exact ⟨oq_54f49eb5 hi.1, oq_cec7cb2e g2002, oq_d0d2714e ws2007_9 hi.2.2 ws2003_9⟩ | omega) (by first | exact qk_me hm (by decide) (oq_ffa8317e g2002) | omega) kx
  refine z_aload_n X (x := A 3) rfl (List.Mem.head _) (s_getR X 3 rfl (c518_ok rfl) rfl rfl (z_load_n X (x := x) rfl (List.Mem.tail _ (List.Mem.head _)) (z_const X rfl (z_ast X 15 rfl (c518_ok rfl) rfl (by first | exact p0.1 | omega) (show x < 12 by first | exact oq_0ddfcfee p0.2 | omega) (cbig_ok rfl) (wd_gen (fun s2 hs2 => ?_))))))
  have Is2 : Bd s2 := eqB hs2 (bd_C I (show (0 : Int) ≤ 0 ∧ 0 ≤ 1200 by first | exact ⟨by decide, by decide⟩ | omega) (by decide))
  have Fs2 := eqF hs2 (fm_C F (inl_ok (a := 12) rfl))
  have ws2_9 : iI s2 9 = iI s 9 := eqI hs2 rfl
  have vs2 : iC s2 12 (x).toNat = 0 := eqC hs2 (iC_u (by decide))
  have aws2_11 : SAM 11 s s2 := by rw [hs2]; exact sam_C (by decide) aw0_11
  have aws2_12 : UPD 12 (x) 0 s s2 := by rw [hs2]; exact upd_put aw0_12 (by decide)
  have cw3 : iC s2 13 (x).toNat = iC s 13 (x).toNat := eqC hs2 (iC_a (by omega))
  refine z_aload_n X (x := A 3) rfl (List.Mem.head _) (s_getR X 3 rfl (c518_ok rfl) rfl rfl (z_load_n X (x := x) rfl (List.Mem.tail _ (List.Mem.head _)) (z_const X rfl (z_ast X 16 rfl (c518_ok rfl) rfl (by first | exact p0.1 | omega) (show x < 12 by first | exact oq_0ddfcfee p0.2 | omega) (cbig_ok rfl) (wd_gen (fun s4 hs4 => ?_))))))
  have Is4 : Bd s4 := eqB hs4 (bd_C Is2 (show (0 : Int) ≤ 0 ∧ 0 ≤ 1200 by first | exact ⟨by decide, by decide⟩ | omega) (by decide))
  have Fs4 := eqF hs4 (fm_C Fs2 (inl_ok (a := 13) rfl))
  have ws4_9 : iI s4 9 = iI s2 9 := eqI hs4 rfl
  have vs4 : iC s4 13 (x).toNat = 0 := eqC hs4 (iC_u (by decide))
  have aws4_11 : SAM 11 s s4 := by rw [hs4]; exact sam_C (by decide) aws2_11
  have aws4_12 : UPD 12 (x) 0 s s4 := by rw [hs4]; exact upd_C (by decide) aws2_12
  have cw5 : iC s4 12 (x).toNat = iC s2 12 (x).toNat := eqC hs4 (iC_a (by omega))
  refine z_const X rfl (z_store_n X (lv' := [(2, .int (Int32.ofInt 0)), (0, .ref (A 3)), (1, .int (Int32.ofInt x))]) rfl (by decide) (fun _ h => h) (WS_pq [1, 2, 0] (lv' := [(0, .ref (A 3)), (1, .int (Int32.ofInt x)), (2, .int (Int32.ofInt 0))]) rfl (L16 ((24 - 0 : Int).toNat + 1) s4 x 0 Is4 Fs4 ⟨rtq_0 aws4_11, rts_0 aws4_12 (by omega)⟩ (by first | exact ⟨by decide, And.intro (p0.1) (p0.2), by decide, by decide, oq_b7d23363 cw5 vs2, oq_d4917756 vs4, oq_1aa5be9e ws4_9 ws2_9⟩ | omega) (Nat.lt_succ_self _) ?_)))
  intro s6 x7 Is6 Fs6 Qs6 hs6
  have b8 := bi_9 Is6
  refine z_const X rfl (z_store_n X (lv' := [(2, .int (Int32.ofInt 0)), (0, .ref (A 3)), (1, .int (Int32.ofInt x))]) rfl (by decide) (fun _ h => h) (WS_pq [1, 2, 0] (lv' := [(0, .ref (A 3)), (1, .int (Int32.ofInt x)), (2, .int (Int32.ofInt 0))]) rfl (L79 ((24 - 0 : Int).toNat + 1) s6 x 0 Is6 Fs6 ⟨Qs6, fun j hj => absurd hj (by omega)⟩ (by first | exact ⟨by decide, by decide, hs6.2.2⟩ | omega) (Nat.lt_succ_self _) ?_)))
  intro s9 x10 Is9 Fs9 Qs9 hs9
  have b11 := bi_9 Is9
  have hTW : TWJ s9 := by have z := Qs9.2; rw [show x10 = 24 by omega] at z; exact z
  exact w_vret X.1 q hRt (ax_d X (show cdA 116 102 = some (.return_, 1, 0, 0, 0) from rfl)) (Nat.zero_le _) (Nat.zero_le _) ⟨_, rfl, Is9, Fs9, hTW, rfl, Qs9.1⟩
set_option maxRecDepth 4000 in
theorem c9_setCounts5 (G : GX l s0 D tys a0 dT) (I : Bd s) (jMOI : MOI s) {x y z w : Int} (p0 : 0 ≤ x ∧ x ≤ 11) (p1 : 0 ≤ y ∧ y ≤ 23) (p2 : 0 ≤ z ∧ z ≤ 23) (p3 : 0 ≤ w ∧ w ≤ 50) (p4 : y ≤ z) : CT l s0 D A dT 114 (rmN 114) [.ref (A 3), .int (Int32.ofInt x), .int (Int32.ofInt y), .int (Int32.ofInt z), .int (Int32.ofInt w)] s (fun o t => Bd t ∧ Fm [] [8, 11, 12, 13, 14] s t ∧ TWJ t ∧ o = .inl none ∧ (MOI t ∧ FLU (CNR s) (CNR t) x y (z + 1) w)) := by
  refine ct_ofX G (by decide) (Nat.le_of_ble_eq_true rfl) (fun k X E ET hRt hXt q => ?_)
  show WS k 0 [(0, .ref (A 3)), (1, .int (Int32.ofInt x)), (2, .int (Int32.ofInt y)), (3, .int (Int32.ofInt z)), (4, .int (Int32.ofInt w))] [] _ 0 0
  have F : Fm [] [8, 11, 12, 13, 14] s s := fm_rf _ _ s
  have L3 : ∀ (n : Nat) (t : PS) (xv zv wv qq : Int), Bd t → Fm [] [8, 11, 12, 13, 14] s t → (FLU (CNR s) (CNR t) x y qq w ∧ SAM 11 s t ∧ SAM 12 s t) → ((xv = x ∧ zv = z ∧ wv = w ∧ y ≤ qq ∧ qq ≤ z + 1) ∧ (0 ≤ xv ∧ xv ≤ 11) ∧ (0 ≤ zv ∧ zv ≤ 23) ∧ (0 ≤ wv ∧ wv ≤ 50) ∧ 0 ≤ qq ∧ qq ≤ 24) → (24 - qq : Int).toNat < n → (∀ (t' : PS) (qq' : Int), Bd t' → Fm [] [8, 11, 12, 13, 14] s t' → (FLU (CNR s) (CNR t') x y (z + 1) w ∧ SAM 11 s t' ∧ SAM 12 s t') → (xv = x ∧ qq' = z + 1) → WS k 29 [(0, .ref (A 3)), (1, .int (Int32.ofInt xv)), (3, .int (Int32.ofInt zv)), (4, .int (Int32.ofInt wv)), (5, .int (Int32.ofInt qq'))] [] (Wd A dT t') 0 0) → WS k 3 [(0, .ref (A 3)), (1, .int (Int32.ofInt xv)), (3, .int (Int32.ofInt zv)), (4, .int (Int32.ofInt wv)), (5, .int (Int32.ofInt qq))] [] (Wd A dT t) 0 0 := by
    intro n
    induction n with
    | zero =>
      intro t xv zv wv qq I F hq hi hm kx
      exact absurd hm (Nat.not_lt_zero _)
    | succ n ih =>
      intro t xv zv wv qq I F hq hi hm kx
      refine z_load X (x := qq) rfl (List.Mem.tail _ (List.Mem.tail _ (List.Mem.tail _ (List.Mem.tail _ (List.Mem.head _))))) (z_load_n X (x := zv) rfl (List.Mem.tail _ (List.Mem.tail _ (List.Mem.head _))) (z_icmp_gt X (t := 29) rfl rfl ⟨by first | exact oq_fa4e5087 hi.2.2.2.2.1 | omega, by first | exact oq_5bcd337f hi.2.2.2.2.2 | omega⟩ ⟨by first | exact oq_fa4e5087 hi.2.2.1.1 | omega, by first | exact oq_1a42ef34 hi.2.2.1.2 | omega⟩ (fun g1001 => ?_) (fun g1001 => ?_)))
      ·
        refine WS_pq [0, 1, 2, 3, 4] (lv' := [(0, .ref (A 3)), (1, .int (Int32.ofInt xv)), (3, .int (Int32.ofInt zv)), (4, .int (Int32.ofInt wv)), (5, .int (Int32.ofInt qq))]) rfl ?_
        exact kx _ qq I F (by rw [show z + 1 = qq by omega]; exact hq) (by first | exact ⟨hi.1.1, oq_4ab5b7c2 hi.1.2.2.2.2 hi.1.2.1 g1001⟩ | omega)
      ·
        refine z_aload_n X (x := A 3) rfl (List.Mem.head _) (s_getR X 3 rfl (c518_ok rfl) rfl rfl (z_load_n X (x := xv) rfl (List.Mem.tail _ (List.Mem.head _)) (z_bipush X rfl (z_mul X rfl (z_load X (x := qq) rfl (List.Mem.tail _ (List.Mem.tail _ (List.Mem.tail _ (List.Mem.tail _ (List.Mem.head _))))) (z_add X rfl (z_load X (x := wv) rfl (List.Mem.tail _ (List.Mem.tail _ (List.Mem.tail _ (List.Mem.head _)))) (z_ast X 11 rfl (c518_ok rfl) rfl (by first | exact oq_4071a75f hi.2.1.1 hi.2.2.2.2.1 | omega) (show ((xv * 24) + qq) < 288 by first | exact oq_df38adfb hi.2.1.2 g1001 hi.2.2.1.2 | omega) (cbig_ok rfl) (wd_gen (fun s1002 hs1002 => ?_))))))))))
        have Is1002 : Bd s1002 := eqB hs1002 (bd_C I (show (0 : Int) ≤ wv ∧ wv ≤ 50 by first | exact ⟨hi.2.2.2.1.1, hi.2.2.2.1.2⟩ | omega) ⟨by first | exact oq_fa4e5087 hi.2.2.2.1.1 | omega, by first | exact oq_cbe526b3 hi.2.2.2.1.2 | omega⟩)
        have Fs1002 := eqF hs1002 (fm_C F (inl_ok (a := 8) rfl))
        have aws1002_8 : UPD 8 (((xv * 24) + qq)) wv t s1002 := by rw [hs1002]; exact upd_put (sam_rf (a := 8) (s := t)) ⟨by first | exact oq_fa4e5087 hi.2.2.2.1.1 | omega, by first | exact oq_cbe526b3 hi.2.2.2.1.2 | omega⟩
        have aws1002_11 : SAM 11 t s1002 := by rw [hs1002]; exact sam_C (by decide) (sam_rf (a := 11) (s := t))
        have aws1002_12 : SAM 12 t s1002 := by rw [hs1002]; exact sam_C (by decide) (sam_rf (a := 12) (s := t))
        refine z_inc X (x := qq) (lv' := [(5, .int (Int32.ofInt (qq + 1))), (0, .ref (A 3)), (1, .int (Int32.ofInt xv)), (3, .int (Int32.ofInt zv)), (4, .int (Int32.ofInt wv))]) rfl (by decide) (List.Mem.tail _ (List.Mem.tail _ (List.Mem.tail _ (List.Mem.tail _ (List.Mem.head _))))) (fun _ h => h) (z_goto X (t := 3) rfl rfl (WS_pq [1, 2, 3, 4, 0] (lv' := [(0, .ref (A 3)), (1, .int (Int32.ofInt xv)), (3, .int (Int32.ofInt zv)), (4, .int (Int32.ofInt wv)), (5, .int (Int32.ofInt (qq + 1)))]) rfl ?_))
        exact ih _ xv zv wv (qq + 1) Is1002 Fs1002 ⟨flu_up hq.1 (by omega) (cnr_upd (upd_ix (by rw [show w = wv by omega]; exact aws1002_8) (by rw [show xv = x by omega])) (by omega) (by omega) (by omega) (by omega)), sam_ts hq.2.1 aws1002_11, sam_ts hq.2.2 aws1002_12⟩ (by first | exact ⟨And.intro (hi.1.1) (And.intro (hi.1.2.1) (And.intro (hi.1.2.2.1) (And.intro (oq_03182e9e hi.1.2.2.2.1) (oq_667557f6 g1001 hi.1.2.1)))), And.intro (hi.2.1.1) (hi.2.1.2), And.intro (hi.2.2.1.1) (hi.2.2.1.2), And.intro (hi.2.2.2.1.1) (hi.2.2.2.1.2), oq_54f49eb5 hi.2.2.2.2.1, oq_3f5436dc g1001 hi.2.2.1.2⟩ | omega) (by first | exact qk_me hm (by decide) (oq_416f5e90 g1001 hi.2.2.1.2) | omega) kx
  refine z_load_n X (x := y) rfl (List.Mem.tail _ (List.Mem.tail _ (List.Mem.head _))) (z_store X (lv' := [(5, .int (Int32.ofInt y)), (0, .ref (A 3)), (1, .int (Int32.ofInt x)), (2, .int (Int32.ofInt y)), (3, .int (Int32.ofInt z)), (4, .int (Int32.ofInt w))]) rfl (by decide) (fun _ h => h) (WS_pq [1, 2, 4, 5, 0] (lv' := [(0, .ref (A 3)), (1, .int (Int32.ofInt x)), (3, .int (Int32.ofInt z)), (4, .int (Int32.ofInt w)), (5, .int (Int32.ofInt y))]) rfl (L3 ((24 - y : Int).toNat + 1) s x z w y I F ⟨flu_0, sam_rf, sam_rf⟩ (by first | exact ⟨And.intro (by decide) (And.intro (by decide) (And.intro (by decide) (And.intro (by decide) (oq_03182e9e p4)))), And.intro (p0.1) (p0.2), And.intro (p2.1) (p2.2), And.intro (p3.1) (p3.2), p1.1, oq_2fca5ea6 p1.2⟩ | omega) (Nat.lt_succ_self _) ?_)))
  intro s1 x2 Is1 Fs1 Qs1 hs1
  refine z_aload_n X (x := A 3) rfl (List.Mem.head _) (z_load_n X (x := x) rfl (List.Mem.tail _ (List.Mem.head _)) (zcV_v1 X E 3 (As := [.int (Int32.ofInt x)]) (st := []) rfl rfl rfl rfl (c9_retell5 G Is1 (by first | exact ⟨p0.1, p0.2⟩ | omega)) rfl (Nat.le_of_ble_eq_true rfl) (fun s3 Is3 Fs3 JTWJ_s3 hps3 => ?_)))
  have Gs3 := fm_tq Fs1 Fs3 rfl rfl
  exact w_vret X.1 q hRt (ax_d X (show cdA 114 34 = some (.return_, 1, 0, 0, 0) from rfl)) (Nat.zero_le _) (Nat.zero_le _) ⟨_, rfl, Is3, Gs3, JTWJ_s3, rfl, ⟨moi_fl jMOI Qs1.1 Qs1.2.1 Qs1.2.2 (sam_fm Fs1 (by decide)) (sam_fm Fs1 (by decide)) (by rw [show x = x by omega]; exact hps3.1) (by rw [show x = x by omega]; exact hps3.2) (sam_fm Fs3 (by decide)) (sam_fm Fs3 (by decide)) (sam_fm Fs3 (by decide)), (by rw [cnr_sam (sam_fm Fs3 (by decide))]; exact Qs1.1)⟩⟩
set_option maxRecDepth 4000 in
theorem c9_setSpan5 (G : GX l s0 D tys a0 dT) (I : Bd s) (jMOI : MOI s) {x y z : Int} (p0 : 0 ≤ x ∧ x ≤ 11) (p1 : 0 ≤ y ∧ y ≤ 2) (p2 : 0 ≤ z ∧ z ≤ 2) : CT l s0 D A dT 115 (rmN 115) [.ref (A 3), .int (Int32.ofInt x), .int (Int32.ofInt y), .int (Int32.ofInt z)] s (fun o t => Bd t ∧ Fm [] [9, 10, 11, 12, 13, 14] s t ∧ TWJ t ∧ o = .inl none ∧ (MOI t ∧ UPD 9 x y s t ∧ UPD 10 x z s t)) := by
  refine ct_ofX G (by decide) (Nat.le_of_ble_eq_true rfl) (fun k X E ET hRt hXt q => ?_)
  show WS k 0 [(0, .ref (A 3)), (1, .int (Int32.ofInt x)), (2, .int (Int32.ofInt y)), (3, .int (Int32.ofInt z))] [] _ 0 0
  have F : Fm [] [9, 10, 11, 12, 13, 14] s s := fm_rf _ _ s
  have aw0_8 : SAM 8 s s := sam_rf
  have aw0_11 : SAM 11 s s := sam_rf
  have aw0_12 : SAM 12 s s := sam_rf
  have aw0_9 : SAM 9 s s := sam_rf
  have aw0_10 : SAM 10 s s := sam_rf
  refine z_aload_n X (x := A 3) rfl (List.Mem.head _) (s_getR X 3 rfl (c518_ok rfl) rfl rfl (z_load_n X (x := x) rfl (List.Mem.tail _ (List.Mem.head _)) (z_load_n X (x := y) rfl (List.Mem.tail _ (List.Mem.tail _ (List.Mem.head _))) (z_ast X 12 rfl (c518_ok rfl) rfl (by first | exact p0.1 | omega) (show x < 12 by first | exact oq_0ddfcfee p0.2 | omega) (cbig_ok rfl) (wd_gen (fun s1 hs1 => ?_))))))
  have Is1 : Bd s1 := eqB hs1 (bd_C I (show (0 : Int) ≤ y ∧ y ≤ 2 by first | exact ⟨p1.1, p1.2⟩ | omega) ⟨by first | exact oq_fa4e5087 p1.1 | omega, by first | exact oq_861e1648 p1.2 | omega⟩)
  have Fs1 := eqF hs1 (fm_C F (inl_ok (a := 9) rfl))
  have aws1_8 : SAM 8 s s1 := by rw [hs1]; exact sam_C (by decide) aw0_8
  have aws1_11 : SAM 11 s s1 := by rw [hs1]; exact sam_C (by decide) aw0_11
  have aws1_12 : SAM 12 s s1 := by rw [hs1]; exact sam_C (by decide) aw0_12
  have aws1_9 : UPD 9 (x) y s s1 := by rw [hs1]; exact upd_put aw0_9 ⟨by first | exact oq_fa4e5087 p1.1 | omega, by first | exact oq_861e1648 p1.2 | omega⟩
  have aws1_10 : SAM 10 s s1 := by rw [hs1]; exact sam_C (by decide) aw0_10
  refine z_aload_n X (x := A 3) rfl (List.Mem.head _) (s_getR X 3 rfl (c518_ok rfl) rfl rfl (z_load_n X (x := x) rfl (List.Mem.tail _ (List.Mem.head _)) (z_load_n X (x := z) rfl (List.Mem.tail _ (List.Mem.tail _ (List.Mem.tail _ (List.Mem.head _)))) (z_ast X 13 rfl (c518_ok rfl) rfl (by first | exact p0.1 | omega) (show x < 12 by first | exact oq_0ddfcfee p0.2 | omega) (cbig_ok rfl) (wd_gen (fun s2 hs2 => ?_))))))
  have Is2 : Bd s2 := eqB hs2 (bd_C Is1 (show (0 : Int) ≤ z ∧ z ≤ 2 by first | exact ⟨p2.1, p2.2⟩ | omega) ⟨by first | exact oq_fa4e5087 p2.1 | omega, by first | exact oq_861e1648 p2.2 | omega⟩)
  have Fs2 := eqF hs2 (fm_C Fs1 (inl_ok (a := 10) rfl))
  have aws2_8 : SAM 8 s s2 := by rw [hs2]; exact sam_C (by decide) aws1_8
  have aws2_11 : SAM 11 s s2 := by rw [hs2]; exact sam_C (by decide) aws1_11
  have aws2_12 : SAM 12 s s2 := by rw [hs2]; exact sam_C (by decide) aws1_12
  have aws2_9 : UPD 9 (x) y s s2 := by rw [hs2]; exact upd_C (by decide) aws1_9
  have aws2_10 : UPD 10 (x) z s s2 := by rw [hs2]; exact upd_put aws1_10 ⟨by first | exact oq_fa4e5087 p2.1 | omega, by first | exact oq_861e1648 p2.2 | omega⟩
  refine z_aload_n X (x := A 3) rfl (List.Mem.head _) (z_load_n X (x := x) rfl (List.Mem.tail _ (List.Mem.head _)) (zcV_v1 X E 3 (As := [.int (Int32.ofInt x)]) (st := []) rfl rfl rfl rfl (c9_retell5 G Is2 (by first | exact ⟨p0.1, p0.2⟩ | omega)) rfl (Nat.le_of_ble_eq_true rfl) (fun s3 Is3 Fs3 JTWJ_s3 hps3 => ?_)))
  have Gs3 := fm_tq Fs2 Fs3 rfl rfl
  have aws3_8 : SAM 8 s s3 := sam_ts aws2_8 (sam_fm Fs3 (by decide))
  have aws3_9 : UPD 9 (x) y s s3 := upd_ts aws2_9 (sam_fm Fs3 (by decide))
  have aws3_10 : UPD 10 (x) z s s3 := upd_ts aws2_10 (sam_fm Fs3 (by decide))
  exact w_vret X.1 q hRt (ax_d X (show cdA 115 19 = some (.return_, 1, 0, 0, 0) from rfl)) (Nat.zero_le _) (Nat.zero_le _) ⟨_, rfl, Is3, Gs3, JTWJ_s3, rfl, ⟨moi_sp jMOI aws2_8 aws2_11 aws2_12 aws2_9 aws2_10 (by omega) hps3.1 hps3.2 (sam_fm Fs3 (by decide)) (sam_fm Fs3 (by decide)) (sam_fm Fs3 (by decide)), aws3_9, aws3_10⟩⟩
set_option maxRecDepth 4000 in
theorem cs_flow5 (G : GX l s0 D tys a0 dT) (I : Bd s) (jMOI : MOI s) (jTWJ : TWJ s) {u v p w : Int} (p0 : rng u) (p1 : rng v) (p2 : rng p) (p3 : rng w) : CT l s0 D A dT 140 (rmN 140) [.ref (A 0), .int (Int32.ofInt u), .int (Int32.ofInt v), .int (Int32.ofInt p), .int (Int32.ofInt w)] s (fun o t => Bd t ∧ Fm [] [8, 11, 12, 13, 14] s t ∧ TWJ t ∧ ((o = .inl none ∧ (0 ≤ u ∧ u < iI s 9 ∧ 0 ≤ v ∧ v ≤ 23 ∧ 0 ≤ p ∧ p ≤ 23 ∧ v ≤ p ∧ 0 ≤ w ∧ w ≤ 50 ∧ MOI t ∧ FLU (CNR s) (CNR t) u v (p + 1) w ∧ SAM 10 s t ∧ SAM 9 s t)) ∨ ∃ x : Nat, o = .inr (exN x) ∧ (((x = 1 ∧ (u < 0 ∨ iI s 9 ≤ u)) ∨ (x = 0 ∧ 0 ≤ u ∧ u < iI s 9 ∧ (v < 0 ∨ 23 < v ∨ p < 0 ∨ 23 < p ∨ p < v ∨ w < 0 ∨ 50 < w))) ∧ SA4 s t))) := by
  refine ct_ofX G (by decide) (Nat.le_of_ble_eq_true rfl) (fun k X E ET hRt hXt q => ?_)
  show WS k 0 [(0, .ref (A 0)), (1, .int (Int32.ofInt u)), (2, .int (Int32.ofInt v)), (3, .int (Int32.ofInt p)), (4, .int (Int32.ofInt w))] [] _ 0 0
  have F : Fm [] [8, 11, 12, 13, 14] s s := fm_rf _ _ s
  have aw0_8 : SAM 8 s s := sam_rf
  have aw0_11 : SAM 11 s s := sam_rf
  have aw0_12 : SAM 12 s s := sam_rf
  have aw0_9 : SAM 9 s s := sam_rf
  have aw0_10 : SAM 10 s s := sam_rf
  have b1 := bi_9 I
  refine z_aload_n X (x := A 0) rfl (List.Mem.head _) (z_load_n X (x := u) rfl (List.Mem.tail _ (List.Mem.head _)) (z_callV X 0 (rm := rmN 180) (As := [.int (Int32.ofInt u)]) (st := []) rfl rfl (by decide) rfl (by rw [E.1, E.2.1, E.2.2.1]; exact cs_needStream2 G I (by first | exact ⟨p0.1, p0.2⟩ | omega)) ⟨by rw [E.2.2.2]; exact (show (rmN 180).frames + 1 ≤ (rmN 140).frames by decide), by rw [E.2.2.2]; exact (show 8 + (mNL (miB 180) + 11) + (rmN 180).locals ≤ (rmN 140).locals by decide), by rw [E.2.2.2]; exact (show 0 + 1 ≤ 5 by decide), by rw [E.2.2.2]; exact (show 0 + 6 ≤ 30 by decide)⟩ (Nat.le_of_ble_eq_true rfl) (fun vv s2 hq => ?_) (fun ee s2 hq => ?_)))
  rotate_left
  · obtain ⟨Is2, Fs2, (⟨hv, hps2⟩ | ⟨xx, hv, hps2⟩)⟩ := hq
    · cases hv
    · cases hv
      have Gs2 := fm_tq F Fs2 rfl rfl
      have JMOI_s2 : MOI s2 := MOI_fm Fs2 (by decide) jMOI
      have JTWJ_s2 : TWJ s2 := TWJ_fm Fs2 (by decide) jTWJ
      have ws2_9 : iI s2 9 = iI s 9 := fm_iq Fs2 rfl
      have aws2_8 : SAM 8 s s2 := sam_ts aw0_8 (sam_fm Fs2 (by decide))
      have aws2_11 : SAM 11 s s2 := sam_ts aw0_11 (sam_fm Fs2 (by decide))
      have aws2_12 : SAM 12 s s2 := sam_ts aw0_12 (sam_fm Fs2 (by decide))
      have aws2_9 : SAM 9 s s2 := sam_ts aw0_9 (sam_fm Fs2 (by decide))
      have aws2_10 : SAM 10 s s2 := sam_ts aw0_10 (sam_fm Fs2 (by decide))
      exact x_out X.1 q (fun x hx => (hXt x hx).elim) (show 1 ≤ 5 by decide) (show 6 ≤ 30 by decide) ⟨_, rfl, Is2, Gs2, JTWJ_s2, Or.inr ⟨xx, rfl, ⟨by omega, ⟨aws2_8, aws2_10, aws2_9, aws2_11, aws2_12⟩⟩⟩⟩
  obtain ⟨Is2, Fs2, (⟨hv, hps2⟩ | ⟨xx, hv, hps2⟩)⟩ := hq
  rotate_left
  · cases hv
  cases hv
  have Gs2 := fm_tq F Fs2 rfl rfl
  have JMOI_s2 : MOI s2 := MOI_fm Fs2 (by decide) jMOI
  have JTWJ_s2 : TWJ s2 := TWJ_fm Fs2 (by decide) jTWJ
  have ws2_9 : iI s2 9 = iI s 9 := fm_iq Fs2 rfl
  have aws2_8 : SAM 8 s s2 := sam_ts aw0_8 (sam_fm Fs2 (by decide))
  have aws2_11 : SAM 11 s s2 := sam_ts aw0_11 (sam_fm Fs2 (by decide))
  have aws2_12 : SAM 12 s s2 := sam_ts aw0_12 (sam_fm Fs2 (by decide))
  have aws2_9 : SAM 9 s s2 := sam_ts aw0_9 (sam_fm Fs2 (by decide))
  have aws2_10 : SAM 10 s s2 := sam_ts aw0_10 (sam_fm Fs2 (by decide))
  show WS k 5 [(0, .ref (A 0)), (1, .int (Int32.ofInt u)), (2, .int (Int32.ofInt v)), (3, .int (Int32.ofInt p)), (4, .int (Int32.ofInt w))] [] (Wd A dT s2) 1 6
  refine z_aload_n X (x := A 0) rfl (List.Mem.head _) (z_load_n X (x := v) rfl (List.Mem.tail _ (List.Mem.tail _ (List.Mem.head _))) (z_callV X 0 (rm := rmN 183) (As := [.int (Int32.ofInt v)]) (st := []) rfl rfl (by decide) rfl (by rw [E.1, E.2.1, E.2.2.1]; exact cs_needQuarter2 G Is2 (by first | exact ⟨p1.1, p1.2⟩ | omega)) ⟨by rw [E.2.2.2]; exact (show (rmN 183).frames + 1 ≤ (rmN 140).frames by decide), by rw [E.2.2.2]; exact (show 8 + (mNL (miB 183) + 11) + (rmN 183).locals ≤ (rmN 140).locals by decide), by rw [E.2.2.2]; exact (show 1 + 1 ≤ 5 by decide), by rw [E.2.2.2]; exact (show 6 + 6 ≤ 30 by decide)⟩ (Nat.le_of_ble_eq_true rfl) (fun vv s4 hq => ?_) (fun ee s4 hq => ?_)))
  rotate_left
  · obtain ⟨Is4, Fs4, (⟨hv, hps4⟩ | ⟨xx, hv, hps4⟩)⟩ := hq
    · cases hv
    · cases hv
      have Gs4 := fm_tq Gs2 Fs4 rfl rfl
      have JMOI_s4 : MOI s4 := MOI_fm Fs4 (by decide) JMOI_s2
      have JTWJ_s4 : TWJ s4 := TWJ_fm Fs4 (by decide) JTWJ_s2
      have ws4_9 : iI s4 9 = iI s2 9 := fm_iq Fs4 rfl
      have aws4_8 : SAM 8 s s4 := sam_ts aws2_8 (sam_fm Fs4 (by decide))
      have aws4_11 : SAM 11 s s4 := sam_ts aws2_11 (sam_fm Fs4 (by decide))
      have aws4_12 : SAM 12 s s4 := sam_ts aws2_12 (sam_fm Fs4 (by decide))
      have aws4_9 : SAM 9 s s4 := sam_ts aws2_9 (sam_fm Fs4 (by decide))
      have aws4_10 : SAM 10 s s4 := sam_ts aws2_10 (sam_fm Fs4 (by decide))
      exact x_out X.1 q (fun x hx => (hXt x hx).elim) (show (1 + 1) ≤ 5 by decide) (show (6 + 6) ≤ 30 by decide) ⟨_, rfl, Is4, Gs4, JTWJ_s4, Or.inr ⟨xx, rfl, ⟨by first | (clear hps2; omega) | omega, ⟨aws4_8, aws4_10, aws4_9, aws4_11, aws4_12⟩⟩⟩⟩
  obtain ⟨Is4, Fs4, (⟨hv, hps4⟩ | ⟨xx, hv, hps4⟩)⟩ := hq
  rotate_left
  · cases hv
  cases hv
  have Gs4 := fm_tq Gs2 Fs4 rfl rfl
  have JMOI_s4 : MOI s4 := MOI_fm Fs4 (by decide) JMOI_s2
  have JTWJ_s4 : TWJ s4 := TWJ_fm Fs4 (by decide) JTWJ_s2
  have ws4_9 : iI s4 9 = iI s2 9 := fm_iq Fs4 rfl
  have aws4_8 : SAM 8 s s4 := sam_ts aws2_8 (sam_fm Fs4 (by decide))
  have aws4_11 : SAM 11 s s4 := sam_ts aws2_11 (sam_fm Fs4 (by decide))
  have aws4_12 : SAM 12 s s4 := sam_ts aws2_12 (sam_fm Fs4 (by decide))
  have aws4_9 : SAM 9 s s4 := sam_ts aws2_9 (sam_fm Fs4 (by decide))
  have aws4_10 : SAM 10 s s4 := sam_ts aws2_10 (sam_fm Fs4 (by decide))
  show WS k 10 [(0, .ref (A 0)), (1, .int (Int32.ofInt u)), (2, .int (Int32.ofInt v)), (3, .int (Int32.ofInt p)), (4, .int (Int32.ofInt w))] [] (Wd A dT s4) (1 + 1) (6 + 6)
  refine z_aload_n X (x := A 0) rfl (List.Mem.head _) (z_load_n X (x := p) rfl (List.Mem.tail _ (List.Mem.tail _ (List.Mem.tail _ (List.Mem.head _)))) (z_callV X 0 (rm := rmN 183) (As := [.int (Int32.ofInt p)]) (st := []) rfl rfl (by decide) rfl (by rw [E.1, E.2.1, E.2.2.1]; exact cs_needQuarter2 G Is4 (by first | exact ⟨p2.1, p2.2⟩ | omega)) ⟨by rw [E.2.2.2]; exact (show (rmN 183).frames + 1 ≤ (rmN 140).frames by decide), by rw [E.2.2.2]; exact (show 8 + (mNL (miB 183) + 11) + (rmN 183).locals ≤ (rmN 140).locals by decide), by rw [E.2.2.2]; exact (show (1 + 1) + 1 ≤ 5 by decide), by rw [E.2.2.2]; exact (show (6 + 6) + 6 ≤ 30 by decide)⟩ (Nat.le_of_ble_eq_true rfl) (fun vv s6 hq => ?_) (fun ee s6 hq => ?_)))
  rotate_left
  · obtain ⟨Is6, Fs6, (⟨hv, hps6⟩ | ⟨xx, hv, hps6⟩)⟩ := hq
    · cases hv
    · cases hv
      have Gs6 := fm_tq Gs4 Fs6 rfl rfl
      have JMOI_s6 : MOI s6 := MOI_fm Fs6 (by decide) JMOI_s4
      have JTWJ_s6 : TWJ s6 := TWJ_fm Fs6 (by decide) JTWJ_s4
      have ws6_9 : iI s6 9 = iI s4 9 := fm_iq Fs6 rfl
      have aws6_8 : SAM 8 s s6 := sam_ts aws4_8 (sam_fm Fs6 (by decide))
      have aws6_11 : SAM 11 s s6 := sam_ts aws4_11 (sam_fm Fs6 (by decide))
      have aws6_12 : SAM 12 s s6 := sam_ts aws4_12 (sam_fm Fs6 (by decide))
      have aws6_9 : SAM 9 s s6 := sam_ts aws4_9 (sam_fm Fs6 (by decide))
      have aws6_10 : SAM 10 s s6 := sam_ts aws4_10 (sam_fm Fs6 (by decide))
      exact x_out X.1 q (fun x hx => (hXt x hx).elim) (show ((1 + 1) + 1) ≤ 5 by decide) (show ((6 + 6) + 6) ≤ 30 by decide) ⟨_, rfl, Is6, Gs6, JTWJ_s6, Or.inr ⟨xx, rfl, ⟨by first | (clear hps4 hps2; omega) | (clear hps2; omega) | omega, ⟨aws6_8, aws6_10, aws6_9, aws6_11, aws6_12⟩⟩⟩⟩
  obtain ⟨Is6, Fs6, (⟨hv, hps6⟩ | ⟨xx, hv, hps6⟩)⟩ := hq
  rotate_left
  · cases hv
  cases hv
  have Gs6 := fm_tq Gs4 Fs6 rfl rfl
  have JMOI_s6 : MOI s6 := MOI_fm Fs6 (by decide) JMOI_s4
  have JTWJ_s6 : TWJ s6 := TWJ_fm Fs6 (by decide) JTWJ_s4
  have ws6_9 : iI s6 9 = iI s4 9 := fm_iq Fs6 rfl
  have aws6_8 : SAM 8 s s6 := sam_ts aws4_8 (sam_fm Fs6 (by decide))
  have aws6_11 : SAM 11 s s6 := sam_ts aws4_11 (sam_fm Fs6 (by decide))
  have aws6_12 : SAM 12 s s6 := sam_ts aws4_12 (sam_fm Fs6 (by decide))
  have aws6_9 : SAM 9 s s6 := sam_ts aws4_9 (sam_fm Fs6 (by decide))
  have aws6_10 : SAM 10 s s6 := sam_ts aws4_10 (sam_fm Fs6 (by decide))
  show WS k 15 [(0, .ref (A 0)), (1, .int (Int32.ofInt u)), (2, .int (Int32.ofInt v)), (3, .int (Int32.ofInt p)), (4, .int (Int32.ofInt w))] [] (Wd A dT s6) ((1 + 1) + 1) ((6 + 6) + 6)
  refine z_aload_n X (x := A 0) rfl (List.Mem.head _) (z_load X (x := w) rfl (List.Mem.tail _ (List.Mem.tail _ (List.Mem.tail _ (List.Mem.tail _ (List.Mem.head _))))) (z_const X rfl (z_bipush X rfl (z_callV X 0 (rm := rmN 184) (As := [.int (Int32.ofInt w), .int (Int32.ofInt 0), .int (Int32.ofInt 50)]) (st := []) rfl rfl (by decide) rfl (by rw [E.1, E.2.1, E.2.2.1]; exact cs_needWithin2 G Is6 (by first | exact ⟨p3.1, p3.2⟩ | omega) (by first | exact ⟨by decide, by decide⟩ | omega) (by first | exact ⟨by decide, by decide⟩ | omega)) ⟨by rw [E.2.2.2]; exact (show (rmN 184).frames + 1 ≤ (rmN 140).frames by decide), by rw [E.2.2.2]; exact (show 8 + (mNL (miB 184) + 11) + (rmN 184).locals ≤ (rmN 140).locals by decide), by rw [E.2.2.2]; exact (show ((1 + 1) + 1) + 1 ≤ 5 by decide), by rw [E.2.2.2]; exact (show ((6 + 6) + 6) + 6 ≤ 30 by decide)⟩ (Nat.le_of_ble_eq_true rfl) (fun vv s8 hq => ?_) (fun ee s8 hq => ?_)))))
  rotate_left
  · obtain ⟨Is8, Fs8, (⟨hv, hps8⟩ | ⟨xx, hv, hps8⟩)⟩ := hq
    · cases hv
    · cases hv
      have Gs8 := fm_tq Gs6 Fs8 rfl rfl
      have JMOI_s8 : MOI s8 := MOI_fm Fs8 (by decide) JMOI_s6
      have JTWJ_s8 : TWJ s8 := TWJ_fm Fs8 (by decide) JTWJ_s6
      have ws8_9 : iI s8 9 = iI s6 9 := fm_iq Fs8 rfl
      have aws8_8 : SAM 8 s s8 := sam_ts aws6_8 (sam_fm Fs8 (by decide))
      have aws8_11 : SAM 11 s s8 := sam_ts aws6_11 (sam_fm Fs8 (by decide))
      have aws8_12 : SAM 12 s s8 := sam_ts aws6_12 (sam_fm Fs8 (by decide))
      have aws8_9 : SAM 9 s s8 := sam_ts aws6_9 (sam_fm Fs8 (by decide))
      have aws8_10 : SAM 10 s s8 := sam_ts aws6_10 (sam_fm Fs8 (by decide))
      exact x_out X.1 q (fun x hx => (hXt x hx).elim) (show (((1 + 1) + 1) + 1) ≤ 5 by decide) (show (((6 + 6) + 6) + 6) ≤ 30 by decide) ⟨_, rfl, Is8, Gs8, JTWJ_s8, Or.inr ⟨xx, rfl, ⟨by first | (clear hps6 hps4 hps2; omega) | (clear hps4 hps2; omega) | omega, ⟨aws8_8, aws8_10, aws8_9, aws8_11, aws8_12⟩⟩⟩⟩
  obtain ⟨Is8, Fs8, (⟨hv, hps8⟩ | ⟨xx, hv, hps8⟩)⟩ := hq
  rotate_left
  · cases hv
  cases hv
  have Gs8 := fm_tq Gs6 Fs8 rfl rfl
  have JMOI_s8 : MOI s8 := MOI_fm Fs8 (by decide) JMOI_s6
  have JTWJ_s8 : TWJ s8 := TWJ_fm Fs8 (by decide) JTWJ_s6
  have ws8_9 : iI s8 9 = iI s6 9 := fm_iq Fs8 rfl
  have aws8_8 : SAM 8 s s8 := sam_ts aws6_8 (sam_fm Fs8 (by decide))
  have aws8_11 : SAM 11 s s8 := sam_ts aws6_11 (sam_fm Fs8 (by decide))
  have aws8_12 : SAM 12 s s8 := sam_ts aws6_12 (sam_fm Fs8 (by decide))
  have aws8_9 : SAM 9 s s8 := sam_ts aws6_9 (sam_fm Fs8 (by decide))
  have aws8_10 : SAM 10 s s8 := sam_ts aws6_10 (sam_fm Fs8 (by decide))
  show WS k 24 [(0, .ref (A 0)), (1, .int (Int32.ofInt u)), (2, .int (Int32.ofInt v)), (3, .int (Int32.ofInt p)), (4, .int (Int32.ofInt w))] [] (Wd A dT s8) (((1 + 1) + 1) + 1) (((6 + 6) + 6) + 6)
  refine z_load_n X (x := v) rfl (List.Mem.tail _ (List.Mem.tail _ (List.Mem.head _))) (z_load_n X (x := p) rfl (List.Mem.tail _ (List.Mem.tail _ (List.Mem.tail _ (List.Mem.head _)))) (z_icmp_le X (t := 39) rfl rfl ⟨by first | exact p1.1 | omega, by first | exact p1.2 | omega⟩ ⟨by first | exact p2.1 | omega, by first | exact p2.2 | omega⟩ (fun g10 => ?_) (fun g10 => ?_)))
  ·
    refine z_aload_n X (x := A 0) rfl (List.Mem.head _) (s_getR X 0 rfl (c518_ok rfl) rfl rfl (z_load_n X (x := u) rfl (List.Mem.tail _ (List.Mem.head _)) (z_load_n X (x := v) rfl (List.Mem.tail _ (List.Mem.tail _ (List.Mem.head _))) (z_load_n X (x := p) rfl (List.Mem.tail _ (List.Mem.tail _ (List.Mem.tail _ (List.Mem.head _)))) (z_load X (x := w) rfl (List.Mem.tail _ (List.Mem.tail _ (List.Mem.tail _ (List.Mem.tail _ (List.Mem.head _))))) (z_callV X 3 (rm := rmN 114) (As := [.int (Int32.ofInt u), .int (Int32.ofInt v), .int (Int32.ofInt p), .int (Int32.ofInt w)]) (st := []) rfl rfl (by decide) rfl (by rw [E.1, E.2.1, E.2.2.1]; exact c9_setCounts5 G Is8 JMOI_s8 (by first | exact ⟨hps2.1, oq_e4d7f3c5 hps2.2 b1.2⟩ | omega) (by first | exact ⟨hps4.1, hps4.2⟩ | omega) (by first | exact ⟨hps6.1, hps6.2⟩ | omega) (by first | exact ⟨hps8.1, hps8.2⟩ | omega) (by first | exact g10 | omega)) ⟨by rw [E.2.2.2]; exact (show (rmN 114).frames + 1 ≤ (rmN 140).frames by decide), by rw [E.2.2.2]; exact (show 8 + (mNL (miB 114) + 11) + (rmN 114).locals ≤ (rmN 140).locals by decide), by rw [E.2.2.2]; exact (show (((1 + 1) + 1) + 1) + 0 ≤ 5 by decide), by rw [E.2.2.2]; exact (show (((6 + 6) + 6) + 6) + 0 ≤ 30 by decide)⟩ (Nat.le_of_ble_eq_true rfl) (fun vv s11 hq => ?_) (fun ee s11 hq => ?_)))))))
    rotate_left
    · obtain ⟨Is11, Fs11, JTWJ_s11, hv, hps11⟩ := hq; cases hv
    obtain ⟨Is11, Fs11, JTWJ_s11, hv, hps11⟩ := hq
    cases hv
    have Gs11 := fm_tq Gs8 Fs11 rfl rfl
    have ws11_9 : iI s11 9 = iI s8 9 := fm_iq Fs11 rfl
    have aws11_9 : SAM 9 s s11 := sam_ts aws8_9 (sam_fm Fs11 (by decide))
    have aws11_10 : SAM 10 s s11 := sam_ts aws8_10 (sam_fm Fs11 (by decide))
    show WS k 51 [(0, .ref (A 0)), (1, .int (Int32.ofInt u)), (2, .int (Int32.ofInt v)), (3, .int (Int32.ofInt p)), (4, .int (Int32.ofInt w))] [] (Wd A dT s11) (((1 + 1) + 1) + 1) (((6 + 6) + 6) + 6)
    exact w_vret X.1 q hRt (ax_d X (show cdA 140 51 = some (.return_, 1, 0, 0, 0) from rfl)) (show (((1 + 1) + 1) + 1) ≤ 5 by decide) (show (((6 + 6) + 6) + 6) ≤ 30 by decide) ⟨_, rfl, Is11, Gs11, JTWJ_s11, Or.inl ⟨rfl, ⟨by first | exact hps2.1 | omega, by first | exact hps2.2 | omega, by first | exact hps4.1 | omega, by first | exact hps4.2 | omega, by first | exact hps6.1 | omega, by first | exact hps6.2 | omega, by first | exact g10 | omega, by first | exact hps8.1 | omega, by first | exact hps8.2 | omega, hps11.1, by rw [← cnr_sam aws8_8]; exact hps11.2, aws11_10, aws11_9⟩⟩⟩
  ·
    exact z_throw G X E ET hXt q (st := []) rfl (by decide) (by decide) (Nat.le_of_ble_eq_true rfl) (show (((1 + 1) + 1) + 1) + 1 ≤ 5 by decide) (show (((6 + 6) + 6) + 6) + 6 ≤ 30 by decide) (show (((1 + 1) + 1) + 1) + 1 ≤ 5 by decide) (show (((6 + 6) + 6) + 6) + 6 ≤ 30 by decide) ⟨_, rfl, Is8, Gs8, JTWJ_s8, Or.inr ⟨0, rfl, ⟨by first | (clear hps8 hps6 hps4 hps2; omega) | (clear hps6 hps4 hps2; omega) | omega, ⟨aws8_8, aws8_10, aws8_9, aws8_11, aws8_12⟩⟩⟩⟩
set_option maxRecDepth 4000 in
theorem cs_span5 (G : GX l s0 D tys a0 dT) (I : Bd s) (jMOI : MOI s) (jTWJ : TWJ s) {u y z : Int} (p0 : rng u) (p1 : rng y) (p2 : rng z) : CT l s0 D A dT 141 (rmN 141) [.ref (A 0), .int (Int32.ofInt u), .int (Int32.ofInt y), .int (Int32.ofInt z)] s (fun o t => Bd t ∧ Fm [] [9, 10, 11, 12, 13, 14] s t ∧ TWJ t ∧ ((o = .inl none ∧ (0 ≤ u ∧ u < iI s 9 ∧ 0 ≤ y ∧ y ≤ 2 ∧ 0 ≤ z ∧ z ≤ 2 ∧ MOI t ∧ UPD 9 u y s t ∧ UPD 10 u z s t ∧ SAM 8 s t)) ∨ ∃ x : Nat, o = .inr (exN x) ∧ (((x = 1 ∧ (u < 0 ∨ iI s 9 ≤ u)) ∨ (x = 0 ∧ 0 ≤ u ∧ u < iI s 9 ∧ (y < 0 ∨ 2 < y ∨ z < 0 ∨ 2 < z))) ∧ SA4 s t))) := by
  refine ct_ofX G (by decide) (Nat.le_of_ble_eq_true rfl) (fun k X E ET hRt hXt q => ?_)
  show WS k 0 [(0, .ref (A 0)), (1, .int (Int32.ofInt u)), (2, .int (Int32.ofInt y)), (3, .int (Int32.ofInt z))] [] _ 0 0
  have F : Fm [] [9, 10, 11, 12, 13, 14] s s := fm_rf _ _ s
  have aw0_8 : SAM 8 s s := sam_rf
  have aw0_11 : SAM 11 s s := sam_rf
  have aw0_12 : SAM 12 s s := sam_rf
  have aw0_9 : SAM 9 s s := sam_rf
  have aw0_10 : SAM 10 s s := sam_rf
  have b1 := bi_9 I
  refine z_aload_n X (x := A 0) rfl (List.Mem.head _) (z_load_n X (x := u) rfl (List.Mem.tail _ (List.Mem.head _)) (z_callV X 0 (rm := rmN 180) (As := [.int (Int32.ofInt u)]) (st := []) rfl rfl (by decide) rfl (by rw [E.1, E.2.1, E.2.2.1]; exact cs_needStream2 G I (by first | exact ⟨p0.1, p0.2⟩ | omega)) ⟨by rw [E.2.2.2]; exact (show (rmN 180).frames + 1 ≤ (rmN 141).frames by decide), by rw [E.2.2.2]; exact (show 8 + (mNL (miB 180) + 11) + (rmN 180).locals ≤ (rmN 141).locals by decide), by rw [E.2.2.2]; exact (show 0 + 1 ≤ 3 by decide), by rw [E.2.2.2]; exact (show 0 + 6 ≤ 18 by decide)⟩ (Nat.le_of_ble_eq_true rfl) (fun vv s2 hq => ?_) (fun ee s2 hq => ?_)))
  rotate_left
  · obtain ⟨Is2, Fs2, (⟨hv, hps2⟩ | ⟨xx, hv, hps2⟩)⟩ := hq
    · cases hv
    · cases hv
      have Gs2 := fm_tq F Fs2 rfl rfl
      have JMOI_s2 : MOI s2 := MOI_fm Fs2 (by decide) jMOI
      have JTWJ_s2 : TWJ s2 := TWJ_fm Fs2 (by decide) jTWJ
      have ws2_9 : iI s2 9 = iI s 9 := fm_iq Fs2 rfl
      have aws2_8 : SAM 8 s s2 := sam_ts aw0_8 (sam_fm Fs2 (by decide))
      have aws2_11 : SAM 11 s s2 := sam_ts aw0_11 (sam_fm Fs2 (by decide))
      have aws2_12 : SAM 12 s s2 := sam_ts aw0_12 (sam_fm Fs2 (by decide))
      have aws2_9 : SAM 9 s s2 := sam_ts aw0_9 (sam_fm Fs2 (by decide))
      have aws2_10 : SAM 10 s s2 := sam_ts aw0_10 (sam_fm Fs2 (by decide))
      exact x_out X.1 q (fun x hx => (hXt x hx).elim) (show 1 ≤ 3 by decide) (show 6 ≤ 18 by decide) ⟨_, rfl, Is2, Gs2, JTWJ_s2, Or.inr ⟨xx, rfl, ⟨by omega, ⟨aws2_8, aws2_10, aws2_9, aws2_11, aws2_12⟩⟩⟩⟩
  obtain ⟨Is2, Fs2, (⟨hv, hps2⟩ | ⟨xx, hv, hps2⟩)⟩ := hq
  rotate_left
  · cases hv
  cases hv
  have Gs2 := fm_tq F Fs2 rfl rfl
  have JMOI_s2 : MOI s2 := MOI_fm Fs2 (by decide) jMOI
  have JTWJ_s2 : TWJ s2 := TWJ_fm Fs2 (by decide) jTWJ
  have ws2_9 : iI s2 9 = iI s 9 := fm_iq Fs2 rfl
  have aws2_8 : SAM 8 s s2 := sam_ts aw0_8 (sam_fm Fs2 (by decide))
  have aws2_11 : SAM 11 s s2 := sam_ts aw0_11 (sam_fm Fs2 (by decide))
  have aws2_12 : SAM 12 s s2 := sam_ts aw0_12 (sam_fm Fs2 (by decide))
  have aws2_9 : SAM 9 s s2 := sam_ts aw0_9 (sam_fm Fs2 (by decide))
  have aws2_10 : SAM 10 s s2 := sam_ts aw0_10 (sam_fm Fs2 (by decide))
  show WS k 5 [(0, .ref (A 0)), (1, .int (Int32.ofInt u)), (2, .int (Int32.ofInt y)), (3, .int (Int32.ofInt z))] [] (Wd A dT s2) 1 6
  refine z_aload_n X (x := A 0) rfl (List.Mem.head _) (z_load_n X (x := y) rfl (List.Mem.tail _ (List.Mem.tail _ (List.Mem.head _))) (z_const X rfl (z_const X rfl (z_callV X 0 (rm := rmN 184) (As := [.int (Int32.ofInt y), .int (Int32.ofInt 0), .int (Int32.ofInt 2)]) (st := []) rfl rfl (by decide) rfl (by rw [E.1, E.2.1, E.2.2.1]; exact cs_needWithin2 G Is2 (by first | exact ⟨p1.1, p1.2⟩ | omega) (by first | exact ⟨by decide, by decide⟩ | omega) (by first | exact ⟨by decide, by decide⟩ | omega)) ⟨by rw [E.2.2.2]; exact (show (rmN 184).frames + 1 ≤ (rmN 141).frames by decide), by rw [E.2.2.2]; exact (show 8 + (mNL (miB 184) + 11) + (rmN 184).locals ≤ (rmN 141).locals by decide), by rw [E.2.2.2]; exact (show 1 + 1 ≤ 3 by decide), by rw [E.2.2.2]; exact (show 6 + 6 ≤ 18 by decide)⟩ (Nat.le_of_ble_eq_true rfl) (fun vv s4 hq => ?_) (fun ee s4 hq => ?_)))))
  rotate_left
  · obtain ⟨Is4, Fs4, (⟨hv, hps4⟩ | ⟨xx, hv, hps4⟩)⟩ := hq
    · cases hv
    · cases hv
      have Gs4 := fm_tq Gs2 Fs4 rfl rfl
      have JMOI_s4 : MOI s4 := MOI_fm Fs4 (by decide) JMOI_s2
      have JTWJ_s4 : TWJ s4 := TWJ_fm Fs4 (by decide) JTWJ_s2
      have ws4_9 : iI s4 9 = iI s2 9 := fm_iq Fs4 rfl
      have aws4_8 : SAM 8 s s4 := sam_ts aws2_8 (sam_fm Fs4 (by decide))
      have aws4_11 : SAM 11 s s4 := sam_ts aws2_11 (sam_fm Fs4 (by decide))
      have aws4_12 : SAM 12 s s4 := sam_ts aws2_12 (sam_fm Fs4 (by decide))
      have aws4_9 : SAM 9 s s4 := sam_ts aws2_9 (sam_fm Fs4 (by decide))
      have aws4_10 : SAM 10 s s4 := sam_ts aws2_10 (sam_fm Fs4 (by decide))
      exact x_out X.1 q (fun x hx => (hXt x hx).elim) (show (1 + 1) ≤ 3 by decide) (show (6 + 6) ≤ 18 by decide) ⟨_, rfl, Is4, Gs4, JTWJ_s4, Or.inr ⟨xx, rfl, ⟨by first | (clear hps2; omega) | omega, ⟨aws4_8, aws4_10, aws4_9, aws4_11, aws4_12⟩⟩⟩⟩
  obtain ⟨Is4, Fs4, (⟨hv, hps4⟩ | ⟨xx, hv, hps4⟩)⟩ := hq
  rotate_left
  · cases hv
  cases hv
  have Gs4 := fm_tq Gs2 Fs4 rfl rfl
  have JMOI_s4 : MOI s4 := MOI_fm Fs4 (by decide) JMOI_s2
  have JTWJ_s4 : TWJ s4 := TWJ_fm Fs4 (by decide) JTWJ_s2
  have ws4_9 : iI s4 9 = iI s2 9 := fm_iq Fs4 rfl
  have aws4_8 : SAM 8 s s4 := sam_ts aws2_8 (sam_fm Fs4 (by decide))
  have aws4_11 : SAM 11 s s4 := sam_ts aws2_11 (sam_fm Fs4 (by decide))
  have aws4_12 : SAM 12 s s4 := sam_ts aws2_12 (sam_fm Fs4 (by decide))
  have aws4_9 : SAM 9 s s4 := sam_ts aws2_9 (sam_fm Fs4 (by decide))
  have aws4_10 : SAM 10 s s4 := sam_ts aws2_10 (sam_fm Fs4 (by decide))
  show WS k 12 [(0, .ref (A 0)), (1, .int (Int32.ofInt u)), (2, .int (Int32.ofInt y)), (3, .int (Int32.ofInt z))] [] (Wd A dT s4) (1 + 1) (6 + 6)
  refine z_aload_n X (x := A 0) rfl (List.Mem.head _) (z_load_n X (x := z) rfl (List.Mem.tail _ (List.Mem.tail _ (List.Mem.tail _ (List.Mem.head _)))) (z_const X rfl (z_const X rfl (z_callV X 0 (rm := rmN 184) (As := [.int (Int32.ofInt z), .int (Int32.ofInt 0), .int (Int32.ofInt 2)]) (st := []) rfl rfl (by decide) rfl (by rw [E.1, E.2.1, E.2.2.1]; exact cs_needWithin2 G Is4 (by first | exact ⟨p2.1, p2.2⟩ | omega) (by first | exact ⟨by decide, by decide⟩ | omega) (by first | exact ⟨by decide, by decide⟩ | omega)) ⟨by rw [E.2.2.2]; exact (show (rmN 184).frames + 1 ≤ (rmN 141).frames by decide), by rw [E.2.2.2]; exact (show 8 + (mNL (miB 184) + 11) + (rmN 184).locals ≤ (rmN 141).locals by decide), by rw [E.2.2.2]; exact (show (1 + 1) + 1 ≤ 3 by decide), by rw [E.2.2.2]; exact (show (6 + 6) + 6 ≤ 18 by decide)⟩ (Nat.le_of_ble_eq_true rfl) (fun vv s6 hq => ?_) (fun ee s6 hq => ?_)))))
  rotate_left
  · obtain ⟨Is6, Fs6, (⟨hv, hps6⟩ | ⟨xx, hv, hps6⟩)⟩ := hq
    · cases hv
    · cases hv
      have Gs6 := fm_tq Gs4 Fs6 rfl rfl
      have JMOI_s6 : MOI s6 := MOI_fm Fs6 (by decide) JMOI_s4
      have JTWJ_s6 : TWJ s6 := TWJ_fm Fs6 (by decide) JTWJ_s4
      have ws6_9 : iI s6 9 = iI s4 9 := fm_iq Fs6 rfl
      have aws6_8 : SAM 8 s s6 := sam_ts aws4_8 (sam_fm Fs6 (by decide))
      have aws6_11 : SAM 11 s s6 := sam_ts aws4_11 (sam_fm Fs6 (by decide))
      have aws6_12 : SAM 12 s s6 := sam_ts aws4_12 (sam_fm Fs6 (by decide))
      have aws6_9 : SAM 9 s s6 := sam_ts aws4_9 (sam_fm Fs6 (by decide))
      have aws6_10 : SAM 10 s s6 := sam_ts aws4_10 (sam_fm Fs6 (by decide))
      exact x_out X.1 q (fun x hx => (hXt x hx).elim) (show ((1 + 1) + 1) ≤ 3 by decide) (show ((6 + 6) + 6) ≤ 18 by decide) ⟨_, rfl, Is6, Gs6, JTWJ_s6, Or.inr ⟨xx, rfl, ⟨by first | (clear hps4 hps2; omega) | (clear hps2; omega) | omega, ⟨aws6_8, aws6_10, aws6_9, aws6_11, aws6_12⟩⟩⟩⟩
  obtain ⟨Is6, Fs6, (⟨hv, hps6⟩ | ⟨xx, hv, hps6⟩)⟩ := hq
  rotate_left
  · cases hv
  cases hv
  have Gs6 := fm_tq Gs4 Fs6 rfl rfl
  have JMOI_s6 : MOI s6 := MOI_fm Fs6 (by decide) JMOI_s4
  have JTWJ_s6 : TWJ s6 := TWJ_fm Fs6 (by decide) JTWJ_s4
  have ws6_9 : iI s6 9 = iI s4 9 := fm_iq Fs6 rfl
  have aws6_8 : SAM 8 s s6 := sam_ts aws4_8 (sam_fm Fs6 (by decide))
  have aws6_11 : SAM 11 s s6 := sam_ts aws4_11 (sam_fm Fs6 (by decide))
  have aws6_12 : SAM 12 s s6 := sam_ts aws4_12 (sam_fm Fs6 (by decide))
  have aws6_9 : SAM 9 s s6 := sam_ts aws4_9 (sam_fm Fs6 (by decide))
  have aws6_10 : SAM 10 s s6 := sam_ts aws4_10 (sam_fm Fs6 (by decide))
  show WS k 19 [(0, .ref (A 0)), (1, .int (Int32.ofInt u)), (2, .int (Int32.ofInt y)), (3, .int (Int32.ofInt z))] [] (Wd A dT s6) ((1 + 1) + 1) ((6 + 6) + 6)
  refine z_aload_n X (x := A 0) rfl (List.Mem.head _) (s_getR X 0 rfl (c518_ok rfl) rfl rfl (z_load_n X (x := u) rfl (List.Mem.tail _ (List.Mem.head _)) (z_load_n X (x := y) rfl (List.Mem.tail _ (List.Mem.tail _ (List.Mem.head _))) (z_load_n X (x := z) rfl (List.Mem.tail _ (List.Mem.tail _ (List.Mem.tail _ (List.Mem.head _)))) (z_callV X 3 (rm := rmN 115) (As := [.int (Int32.ofInt u), .int (Int32.ofInt y), .int (Int32.ofInt z)]) (st := []) rfl rfl (by decide) rfl (by rw [E.1, E.2.1, E.2.2.1]; exact c9_setSpan5 G Is6 JMOI_s6 (by first | exact ⟨hps2.1, oq_e4d7f3c5 hps2.2 b1.2⟩ | omega) (by first | exact ⟨hps4.1, hps4.2⟩ | omega) (by first | exact ⟨hps6.1, hps6.2⟩ | omega)) ⟨by rw [E.2.2.2]; exact (show (rmN 115).frames + 1 ≤ (rmN 141).frames by decide), by rw [E.2.2.2]; exact (show 8 + (mNL (miB 115) + 11) + (rmN 115).locals ≤ (rmN 141).locals by decide), by rw [E.2.2.2]; exact (show ((1 + 1) + 1) + 0 ≤ 3 by decide), by rw [E.2.2.2]; exact (show ((6 + 6) + 6) + 0 ≤ 18 by decide)⟩ (Nat.le_of_ble_eq_true rfl) (fun vv s8 hq => ?_) (fun ee s8 hq => ?_))))))
  rotate_left
  · obtain ⟨Is8, Fs8, JTWJ_s8, hv, hps8⟩ := hq; cases hv
  obtain ⟨Is8, Fs8, JTWJ_s8, hv, hps8⟩ := hq
  cases hv
  have Gs8 := fm_tq Gs6 Fs8 rfl rfl
  have ws8_9 : iI s8 9 = iI s6 9 := fm_iq Fs8 rfl
  have aws8_8 : SAM 8 s s8 := sam_ts aws6_8 (sam_fm Fs8 (by decide))
  show WS k 29 [(0, .ref (A 0)), (1, .int (Int32.ofInt u)), (2, .int (Int32.ofInt y)), (3, .int (Int32.ofInt z))] [] (Wd A dT s8) ((1 + 1) + 1) ((6 + 6) + 6)
  exact w_vret X.1 q hRt (ax_d X (show cdA 141 29 = some (.return_, 1, 0, 0, 0) from rfl)) (show ((1 + 1) + 1) ≤ 3 by decide) (show ((6 + 6) + 6) ≤ 18 by decide) ⟨_, rfl, Is8, Gs8, JTWJ_s8, Or.inl ⟨rfl, ⟨by first | exact hps2.1 | omega, by first | exact hps2.2 | omega, by first | exact hps4.1 | omega, by first | exact hps4.2 | omega, by first | exact hps6.1 | omega, by first | exact hps6.2 | omega, hps8.1, upd_st aws6_9 hps8.2.1, upd_st aws6_10 hps8.2.2, aws8_8⟩⟩⟩
end M87k5
