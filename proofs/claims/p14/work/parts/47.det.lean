theorem oq_6dc9c1ba : 8 + 1 ≤ 36 := by omega
theorem oq_2fb84e7f : 8 + (7 + 11) + 143 ≤ 1558 := by omega
theorem oq_5234833b {a0 : Int} (h0 : (-1) ≤ a0) (h1 : a0 ≠ (-1)) : 0 ≤ a0 := by omega
theorem oq_8dae6a5a {a0 : Int} (h0 : a0 ≤ 200) : a0 ≤ 380 := by omega
theorem oq_779dfe24 : 6 + 1 ≤ 36 := by omega
theorem oq_f75bfad7 : 8 + (2 + 11) + 100 ≤ 1558 := by omega
theorem oq_cc309cab {a0 a1 : Int} (h0 : a0 = a1) (h1 : a1 ≤ 200) : a0 ≤ 203 := by omega
theorem oq_02fd7e00 {a0 : Int} (h0 : a0 = 0) (h1 : 0 ≤ a0) : (a0 + ((7 : Nat) : Int)) = 7 := by omega
theorem oq_0cce41ba {a0 a1 : Int} (h0 : a0 = 0) : (a0 = 7 → a1 ≠ 0) := by omega
theorem oq_1a74e779 : 35 + 1 ≤ 36 := by omega
theorem oq_4ce5ee6d : 8 + (4 + 11) + 1535 ≤ 1558 := by omega
theorem oq_a91cd906 : 6 + 1 ≤ 60 := by omega
theorem oq_0f53f063 : 8 + (2 + 11) + 100 ≤ 2637 := by omega
theorem oq_58fdd3cd {a0 a1 a2 : Int} (h0 : a0 = a1) (h1 : a1 ≤ 200) : (a2 = 0 → a0 ≤ 202) := by omega
theorem oq_ecbe5542 : 59 + 1 ≤ 60 := by omega
theorem oq_4dfcca1b : 8 + (3 + 11) + 2615 ≤ 2637 := by omega
/-! Determined: load, joins -/
section M47
variable {l : Launch} {s0 : State} {D : va_G} {tys : List (ClassId × FieldType)} {a0 : Array Value} {A : Nat → Nat} {dT : Nat → ClassId} {s : PS}
set_option maxHeartbeats 16000000 in
theorem d_load (G : GX l s0 D tys a0 dT) (I : Bd s) (jNW : NW s)  {T : TT} (hti : ∀ q ∈ ([90, 89, 85, 82] : List Nat), T.1 q) (hta : ∀ a ∈ ([230, 157, 158] : List Nat), ∀ j, j < (bA a).2.2 → T.2 a j) (htn : OKN T s) : CD l s0 D A dT 228 (rmN 228) [77, 75, 78, 79, 80, 81] [161] T (TU T 161 7) [.ref (A 179)] s (fun o t => Bd t ∧ Fm [77, 75, 78, 79, 80, 81] [161] s t ∧ NW t ∧ ∃ e, o = .inl (some (.int (Int32.ofInt e))) ∧ rng e ∧ (True)) := by
  refine cd_of G (by decide) (Nat.le_of_ble_eq_true rfl) (fun Q hQ => ?_)
  have I0 := I
  show DS l s0 D A dT 228 (rmN 228) [77, 75, 78, 79, 80, 81] [161] (TU T 161 7) Q (T) 0 [(0, .ref (A 179))] [] s
  have F : Fm [77, 75, 78, 79, 80, 81] [161] s s := fm_rf _ _ s
  have b1 := bi_77 I
  have b2 := bi_78 I
  have b3 := bi_79 I
  refine d_lift (fun k ws X h => z_aload_n X (x := A 179) rfl (List.Mem.head _) h) (d_callV 179 (As := []) (st := []) rfl rfl (by decide) rfl (d_listen G I jNW  (fun q h => hti q ((by decide : ∀ q ∈ ([90, 89] : List Nat), q ∈ ([90, 89, 85, 82] : List Nat)) q h)) (fun a h => hta a ((by decide : ∀ q ∈ ([230] : List Nat), q ∈ ([230, 157, 158] : List Nat)) a h)) (OKN_fm F (by decide) (OKN_mono htn (fun _ _ h => (h))))) ⟨rfl, rfl⟩ ⟨(show 8 + 1 ≤ 36 from oq_6dc9c1ba), (show 8 + (mNL (miB 227) + 11) + 143 ≤ 1558 from oq_2fb84e7f)⟩ (Nat.le_of_ble_eq_true rfl) (by decide) (by decide) (fun ee s4 hq => ?_) (fun vv s4 hq => ?_))
  · obtain ⟨Is4, Fs4, JNW_s4, hv, hps4⟩ := hq; cases hv
  obtain ⟨Is4, Fs4, JNW_s4, hv, hps4⟩ := hq
  cases hv
  have hta6 : ∀ a ∈ ([161, 230, 157, 158] : List Nat), ∀ j, j < (bA a).2.2 → (TU (T) 161 7).2 a j := hta_g hta (by decide)
  have Gs4 := fm_tq F Fs4 rfl rfl
  have JNW_s4 : NW s4 := NW_fm Fs4 (by decide) jNW
  have ws4_77 : iI s4 77 = iI s 77 := fm_iq Fs4 rfl
  have ws4_78 : iI s4 78 = iI s 78 := fm_iq Fs4 rfl
  have ws4_79 : iI s4 79 = iI s 79 := fm_iq Fs4 rfl
  show DS l s0 D A dT 228 (rmN 228) [77, 75, 78, 79, 80, 81] [161] (TU T 161 7) Q (TU (T) 161 7) 4 [(0, .ref (A 179))] [] s4
  refine d_lift (fun k ws X h => z_aload_n X (x := A 179) rfl (List.Mem.head _) h) (d_getI 179 rfl (by decide) rfl rfl (hti 85 (by decide)) ?_)
  have b7 := bi_85 Is4
  have q8 : iI s4 85 = iI s 85 := fm_iq Gs4 rfl
  refine d_lift (fun k ws X h => z_const X rfl h) (d_br (bo_ne _ _) bx_ne (fun k ws X h1 h2 => z_icmp_ne X (t := 35) rfl (by decide) (rng_to _) (by decide) h1 h2) (fun g9 => ?_) (fun g9 => ?_))
  ·
    refine d_lift (fun k ws X h => z_aload_n X (x := A 179) rfl (List.Mem.head _) h) (d_lift (fun k ws X h => z_aload_n X (x := A 179) rfl (List.Mem.head _) h) (d_getI 179 rfl (by decide) rfl rfl (hti 85 (by decide)) ?_))
    have b10 := bi_85 Is4
    have q11 : iI s4 85 = iI s 85 := fm_iq Gs4 rfl
    refine d_callV 179 (As := [.int (Int32.ofInt (iI s4 85))]) (st := []) rfl rfl (by decide) rfl (d_readsAt (T := TU (T) 161 7) G Is4 (by first | exact ⟨oq_5234833b b10.1 g9, oq_8dae6a5a b10.2⟩ | omega) (fun q h => hti q ((by decide : ∀ q ∈ ([82] : List Nat), q ∈ ([90, 89, 85, 82] : List Nat)) q h)) (fun a h => hta6 a ((by decide : ∀ q ∈ ([] : List Nat), q ∈ ([161, 230, 157, 158] : List Nat)) a h))) ⟨rfl, rfl⟩ ⟨(show 6 + 1 ≤ 36 from oq_779dfe24), (show 8 + (mNL (miB 216) + 11) + 100 ≤ 1558 from oq_f75bfad7)⟩ (Nat.le_of_ble_eq_true rfl) (by decide) (by decide) (fun ee s12 hq => ?_) (fun vv s12 hq => ?_)
    · obtain ⟨Is12, Fs12, hv, hps12⟩ := hq; cases hv
    obtain ⟨Is12, Fs12, hv, hps12⟩ := hq
    cases hv
    have hti14 : ∀ q ∈ [81, 90, 89, 85, 82], (TI (TU (T) 161 7) 81).1 q := hti_g hti
    have hti15 : ∀ q ∈ [75, 81, 90, 89, 85, 82], (TI (TI (TU (T) 161 7) 81) 75).1 q := hti_g hti14
    have hti16 : ∀ q ∈ [77, 75, 81, 90, 89, 85, 82], (TI (TI (TI (TU (T) 161 7) 81) 75) 77).1 q := hti_g hti15
    have hti17 : ∀ q ∈ [78, 77, 75, 81, 90, 89, 85, 82], (TI (TI (TI (TI (TU (T) 161 7) 81) 75) 77) 78).1 q := hti_g hti16
    have hti18 : ∀ q ∈ [79, 78, 77, 75, 81, 90, 89, 85, 82], (TI (TI (TI (TI (TI (TU (T) 161 7) 81) 75) 77) 78) 79).1 q := hti_g hti17
    have Gs12 := fm_tq Gs4 Fs12 rfl rfl
    have JNW_s12 : NW s12 := NW_fm Fs12 (by decide) JNW_s4
    have b19 := bi_77 Is12
    have b20 := bi_78 Is12
    have b21 := bi_79 Is12
    show DS l s0 D A dT 228 (rmN 228) [77, 75, 78, 79, 80, 81] [161] (TU T 161 7) Q (TI (TI (TI (TI (TI (TU (T) 161 7) 81) 75) 77) 78) 79) 43 [(0, .ref (A 179))] [] s12
    refine d_lift (fun k ws X h => z_aload_n X (x := A 179) rfl (List.Mem.head _) h) (d_callV 179 (As := []) (st := []) rfl rfl (by decide) rfl ((d_sumr G 7).2.2 (T := TI (TI (TI (TI (TI (TU (T) 161 7) 81) 75) 77) 78) 79) Is12 (by first | exact oq_cc309cab hps12.1 b10.2 | omega) (by first | exact oq_02fd7e00 hps12.2.1 b20.1 | omega) (by first | exact oq_0cce41ba hps12.2.1 | omega) (fun q h => hti18 q ((by decide : ∀ q ∈ ([77, 75, 78, 79, 81] : List Nat), q ∈ ([79, 78, 77, 75, 81, 90, 89, 85, 82] : List Nat)) q h)) (fun a h => hta6 a ((by decide : ∀ q ∈ ([157, 158, 161] : List Nat), q ∈ ([161, 230, 157, 158] : List Nat)) a h))) ⟨rfl, rfl⟩ ⟨(show 35 + 1 ≤ 36 from oq_1a74e779), (show 8 + (mNL (miB 209) + 11) + 1535 ≤ 1558 from oq_4ce5ee6d)⟩ (Nat.le_of_ble_eq_true rfl) (by decide) (by decide) (fun ee s22 hq => ?_) (fun vv s22 hq => ?_))
    · obtain ⟨Is22, Fs22, e23, hv, hrs22, hps22⟩ := hq; cases hv
    obtain ⟨Is22, Fs22, e23, hv, hrs22, hps22⟩ := hq
    cases hv
    have Gs22 := fm_tq Gs12 Fs22 rfl rfl
    have JNW_s22 : NW s22 := NW_fm Fs22 (by decide) JNW_s12
    have b24 := bi_77 Is22
    have b25 := bi_78 Is22
    have b26 := bi_79 Is22
    show DS l s0 D A dT 228 (rmN 228) [77, 75, 78, 79, 80, 81] [161] (TU T 161 7) Q (TI (TI (TI (TI (TI (TU (T) 161 7) 81) 75) 77) 78) 79) 47 [(0, .ref (A 179))] [.int (Int32.ofInt e23)] s22
    exact d_iret rfl rfl (Or.inl rfl) rfl (fun _ h => AGr_mono h (fun _ h => Or.inr (Or.inr (Or.inr (Or.inr (Or.inr (h)))))) (fun _ _ h => h)) (hQ _ _ ⟨Is22, Gs22, JNW_s22, e23, rfl, hrs22, trivial⟩)
  ·
    refine d_lift (fun k ws X h => z_aload_n X (x := A 179) rfl (List.Mem.head _) h) (d_liftS (fun k s X h => s_getR X 179 rfl (by decide) rfl rfl h) (d_lift (fun k ws X h => z_const X rfl h) (d_ald 184 rfl (by decide) rfl (by decide) (show 0 < 7 by decide) (by decide) (hta6 161 (by decide) _ (show (0 : Int).toNat < 7 by first | exact oq_e8ec3fa8 | omega)) ?_)))
    have b27 := bc_161 Is4 (show (0 : Int).toNat < 7 by first | exact oq_e8ec3fa8 | omega)
    refine d_lift (fun k ws X h => z_const X rfl h) (d_lift (fun k ws X h => z_aload_n X (x := A 179) rfl (List.Mem.head _) h) (d_liftS (fun k s X h => s_getR X 179 rfl (by decide) rfl rfl h) (d_lift (fun k ws X h => z_const X rfl h) (d_ald 184 rfl (by decide) rfl (by decide) (show 1 < 7 by decide) (by decide) (hta6 161 (by decide) _ (show (1 : Int).toNat < 7 by first | exact oq_a32b659c | omega)) ?_))))
    have b28 := bc_161 Is4 (show (1 : Int).toNat < 7 by first | exact oq_a32b659c | omega)
    refine d_lift (fun k ws X h => z_mul X rfl h) (d_any (fun y29 hy29 => ?_))
    refine d_lift (fun k ws X h => z_add X rfl h) (d_any (fun y30 hy30 => ?_))
    refine d_lift (fun k ws X h => z_aload_n X (x := A 179) rfl (List.Mem.head _) h) (d_liftS (fun k s X h => s_getR X 179 rfl (by decide) rfl rfl h) (d_lift (fun k ws X h => z_const X rfl h) (d_ald 184 rfl (by decide) rfl (by decide) (show 2 < 7 by decide) (by decide) (hta6 161 (by decide) _ (show (2 : Int).toNat < 7 by first | exact oq_62527c24 | omega)) ?_)))
    have b31 := bc_161 Is4 (show (2 : Int).toNat < 7 by first | exact oq_62527c24 | omega)
    refine d_lift (fun k ws X h => z_add X rfl h) (d_any (fun y32 hy32 => ?_))
    exact d_iret rfl rfl (Or.inl rfl) rfl (fun _ h => AGr_mono h (fun _ h => h) (fun _ _ h => h)) (hQ _ _ ⟨Is4, Gs4, JNW_s4, y32, rfl, hy32, trivial⟩)
set_option maxHeartbeats 16000000 in
theorem d_joinsHold (G : GX l s0 D tys a0 dT) (I : Bd s)  {T : TT} (hti : ∀ q ∈ ([84, 82] : List Nat), T.1 q) (hta : ∀ a ∈ ([159, 157, 158, 161] : List Nat), ∀ j, j < (bA a).2.2 → T.2 a j) : CD l s0 D A dT 229 (rmN 229) [77, 75, 78, 79, 80, 81] [] T (T) [.ref (A 179)] s (fun o t => Bd t ∧ Fm [77, 75, 78, 79, 80, 81] [] s t ∧ ∃ e, o = .inl (some (.int (Int32.ofInt e))) ∧ rng e ∧ (e = 0 ∨ e = 1)) := by
  refine cd_of G (by decide) (Nat.le_of_ble_eq_true rfl) (fun Q hQ => ?_)
  have I0 := I
  show DS l s0 D A dT 229 (rmN 229) [77, 75, 78, 79, 80, 81] [] (T) Q (T) 0 [(0, .ref (A 179))] [] s
  have F : Fm [77, 75, 78, 79, 80, 81] [] s s := fm_rf _ _ s
  have b1 := bi_77 I
  have b2 := bi_78 I
  have b3 := bi_79 I
  have L4 : ∀ (n : Nat) (t : PS) (iz ka : Int), Bd t → Fm [77, 75, 78, 79, 80, 81] [] s t → ((iz = 0 ∨ iz = 1) ∧ 0 ≤ ka ∧ ka ≤ 8) → (8 - ka : Int).toNat < n → (∀ (t' : PS) (iz' ka' : Int), Bd t' → Fm [77, 75, 78, 79, 80, 81] [] s t' → ((iz' = 0 ∨ iz' = 1) ∧ 0 ≤ ka' ∧ ka' ≤ 8) → DS l s0 D A dT 229 (rmN 229) [77, 75, 78, 79, 80, 81] [] (T) Q (T) 45 [(0, .ref (A 179)), (1, .int (Int32.ofInt iz')), (2, .int (Int32.ofInt ka'))] [] t') → DS l s0 D A dT 229 (rmN 229) [77, 75, 78, 79, 80, 81] [] (T) Q (T) 4 [(0, .ref (A 179)), (1, .int (Int32.ofInt iz)), (2, .int (Int32.ofInt ka))] [] t := by
    intro n
    induction n with
    | zero =>
      intro t iz ka I F hi hm kx
      exact absurd hm (Nat.not_lt_zero _)
    | succ n ih =>
      intro t iz ka I F hi hm kx
      have b1001 := bi_77 I
      have b1002 := bi_78 I
      have b1003 := bi_79 I
      refine d_lift (fun k ws X h => z_load_n X (x := ka) rfl (List.Mem.tail _ (List.Mem.tail _ (List.Mem.head _))) h) (d_lift (fun k ws X h => z_aload_n X (x := A 179) rfl (List.Mem.head _) h) (d_getI 179 rfl (by decide) rfl rfl (hti 84 (by decide)) ?_))
      have b1004 := bi_84 I
      have q1005 : iI t 84 = iI s 84 := fm_iq F rfl
      refine d_br (bo_ge _ _) bx_ge (fun k ws X h1 h2 => z_icmp_ge X (t := 45) rfl (by decide) ⟨by first | exact oq_fa4e5087 hi.2.1 | omega, by first | exact oq_d3f5d874 hi.2.2 | omega⟩ (rng_to _) h1 h2) (fun g1006 => ?_) (fun g1006 => ?_)
      ·
        refine d_lvs (lv := [(0, .ref (A 179)), (1, .int (Int32.ofInt iz)), (2, .int (Int32.ofInt ka))]) (List.forall_mem_cons.mpr ⟨(List.Mem.head _), (List.forall_mem_cons.mpr ⟨(List.Mem.tail _ (List.Mem.head _)), (List.forall_mem_cons.mpr ⟨(List.Mem.tail _ (List.Mem.tail _ (List.Mem.head _))), (fun q h => absurd h List.not_mem_nil)⟩)⟩)⟩) ?_
        exact kx _ iz ka I F (by first | exact ⟨hi.1, hi.2.1, hi.2.2⟩ | omega)
      ·
        refine d_lift (fun k ws X h => z_aload_n X (x := A 179) rfl (List.Mem.head _) h) (d_lift (fun k ws X h => z_aload_n X (x := A 179) rfl (List.Mem.head _) h) (d_liftS (fun k s X h => s_getR X 179 rfl (by decide) rfl rfl h) (d_lift (fun k ws X h => z_load_n X (x := ka) rfl (List.Mem.tail _ (List.Mem.tail _ (List.Mem.head _))) h) (d_ald 182 rfl (by decide) rfl (by first | exact hi.2.1 | omega) (show ka < 8 by first | exact oq_7f5b2e79 g1006 b1004.2 | omega) (by decide) (hta 159 (by decide) _ (show (ka).toNat < 8 by first | exact oq_67be0351 g1006 b1004.2 | omega)) ?_))))
        have b1007 := bc_159 I (show (ka).toNat < 8 by first | exact oq_67be0351 g1006 b1004.2 | omega)
        have q1008 : iC t 159 (ka).toNat = iC s 159 (ka).toNat := fm_c F (by decide)
        refine d_callV 179 (As := [.int (Int32.ofInt (iC t 159 (ka).toNat))]) (st := []) rfl rfl (by decide) rfl (d_readsAt G I (by first | exact ⟨b1007.1, oq_8dae6a5a b1007.2⟩ | omega) (fun q h => hti q ((by decide : ∀ q ∈ ([82] : List Nat), q ∈ ([84, 82] : List Nat)) q h)) (fun a h => hta a ((by decide : ∀ q ∈ ([] : List Nat), q ∈ ([159, 157, 158, 161] : List Nat)) a h))) ⟨rfl, rfl⟩ ⟨(show 6 + 1 ≤ 60 from oq_a91cd906), (show 8 + (mNL (miB 216) + 11) + 100 ≤ 2637 from oq_0f53f063)⟩ (Nat.le_of_ble_eq_true rfl) (by decide) (by decide) (fun ee s1009 hq => ?_) (fun vv s1009 hq => ?_)
        · obtain ⟨Is1009, Fs1009, hv, hps1009⟩ := hq; cases hv
        obtain ⟨Is1009, Fs1009, hv, hps1009⟩ := hq
        cases hv
        have hti1011 : ∀ q ∈ [81, 84, 82], (TI (T) 81).1 q := hti_g hti
        have hti1012 : ∀ q ∈ [75, 81, 84, 82], (TI (TI (T) 81) 75).1 q := hti_g hti1011
        have hti1013 : ∀ q ∈ [77, 75, 81, 84, 82], (TI (TI (TI (T) 81) 75) 77).1 q := hti_g hti1012
        have hti1014 : ∀ q ∈ [78, 77, 75, 81, 84, 82], (TI (TI (TI (TI (T) 81) 75) 77) 78).1 q := hti_g hti1013
        have hti1015 : ∀ q ∈ [79, 78, 77, 75, 81, 84, 82], (TI (TI (TI (TI (TI (T) 81) 75) 77) 78) 79).1 q := hti_g hti1014
        have Gs1009 := fm_tq F Fs1009 rfl rfl
        have b1016 := bi_77 Is1009
        have b1017 := bi_78 Is1009
        have b1018 := bi_79 Is1009
        show DS l s0 D A dT 229 (rmN 229) [77, 75, 78, 79, 80, 81] [] (T) Q (TI (TI (TI (TI (TI (T) 81) 75) 77) 78) 79) 22 [(0, .ref (A 179)), (1, .int (Int32.ofInt iz)), (2, .int (Int32.ofInt ka))] [] s1009
        refine d_lift (fun k ws X h => z_aload_n X (x := A 179) rfl (List.Mem.head _) h) (d_callV 179 (As := []) (st := []) rfl rfl (by decide) rfl ((d_orsr G 7).2.2 (T := TI (TI (TI (TI (TI (T) 81) 75) 77) 78) 79) Is1009 (by first | exact oq_cc309cab hps1009.1 b1007.2 | omega) (by first | exact oq_02fd7e00 hps1009.2.1 b1017.1 | omega) (by first | exact oq_0cce41ba hps1009.2.1 | omega) (by first | exact oq_58fdd3cd hps1009.1 b1007.2 | omega) (fun q h => hti1015 q ((by decide : ∀ q ∈ ([77, 75, 78, 79, 81] : List Nat), q ∈ ([79, 78, 77, 75, 81, 84, 82] : List Nat)) q h)) (fun a h => hta a ((by decide : ∀ q ∈ ([157, 158, 161] : List Nat), q ∈ ([159, 157, 158, 161] : List Nat)) a h))) ⟨rfl, rfl⟩ ⟨(show 59 + 1 ≤ 60 from oq_ecbe5542), (show 8 + (mNL (miB 212) + 11) + 2615 ≤ 2637 from oq_4dfcca1b)⟩ (Nat.le_of_ble_eq_true rfl) (by decide) (by decide) (fun ee s1019 hq => ?_) (fun vv s1019 hq => ?_))
        · obtain ⟨Is1019, Fs1019, e1020, hv, hrs1019, hps1019⟩ := hq; cases hv
        obtain ⟨Is1019, Fs1019, e1020, hv, hrs1019, hps1019⟩ := hq
        cases hv
        have Gs1019 := fm_tq Gs1009 Fs1019 rfl rfl
        have b1021 := bi_77 Is1019
        have b1022 := bi_78 Is1019
        have b1023 := bi_79 Is1019
        show DS l s0 D A dT 229 (rmN 229) [77, 75, 78, 79, 80, 81] [] (T) Q (TI (TI (TI (TI (TI (T) 81) 75) 77) 78) 79) 26 [(0, .ref (A 179)), (1, .int (Int32.ofInt iz)), (2, .int (Int32.ofInt ka))] [.int (Int32.ofInt e1020)] s1019
        have N1024 : ∀ e1025 : Int, (((e1020 = 0) ∧ e1025 = 0) ∨ ((e1020 ≠ 0) ∧ (iz = 0) ∧ e1025 = 0) ∨ ((e1020 ≠ 0) ∧ (iz ≠ 0) ∧ e1025 = 1)) → DS l s0 D A dT 229 (rmN 229) [77, 75, 78, 79, 80, 81] [] (T) Q (TI (TI (TI (TI (TI (T) 81) 75) 77) 78) 79) 38 [(0, .ref (A 179)), (1, .int (Int32.ofInt iz)), (2, .int (Int32.ofInt ka))] [.int (Int32.ofInt e1025)] s1019 := by
          intro e1025 he1025
          have re1025 : 0 ≤ e1025 ∧ e1025 ≤ 1 := by first | (clear he1025 hps1019; omega) | (clear hps1019; omega) | omega
          refine d_lift (fun k ws X h => z_store_n X (lv' := [(1, .int (Int32.ofInt e1025)), (0, .ref (A 179)), (2, .int (Int32.ofInt ka))]) rfl (by decide) (fun _ h => h) h) (d_lift (fun k ws X h => z_inc X (x := ka) (lv' := [(2, .int (Int32.ofInt (ka + 1))), (1, .int (Int32.ofInt e1025)), (0, .ref (A 179))]) rfl (by decide) (List.Mem.tail _ (List.Mem.tail _ (List.Mem.head _))) (fun _ h => h) h) (d_lift (fun k ws X h => z_goto X (t := 4) rfl (by decide) h) (d_lvs (lv := [(0, .ref (A 179)), (1, .int (Int32.ofInt e1025)), (2, .int (Int32.ofInt (ka + 1)))]) (List.forall_mem_cons.mpr ⟨(List.Mem.tail _ (List.Mem.tail _ (List.Mem.head _))), (List.forall_mem_cons.mpr ⟨(List.Mem.tail _ (List.Mem.head _)), (List.forall_mem_cons.mpr ⟨(List.Mem.head _), (fun q h => absurd h List.not_mem_nil)⟩)⟩)⟩) (d_mono (T' := T) (fun _ h => Or.inr (Or.inr (Or.inr (Or.inr (Or.inr (h)))))) (fun _ _ h => h) ?_))))
          exact ih _ e1025 (ka + 1) Is1019 Gs1019 (by first | exact ⟨oq_31e518ae re1025.2 re1025.1, oq_54f49eb5 hi.2.1, oq_f6204d84 g1006 b1004.2⟩ | omega) (by first | exact qk_me hm (by decide) (oq_ccc5e5e0 g1006 b1004.2) | omega) kx
        refine d_br (bo_eq _ _) bx_eq (fun k ws X h1 h2 => z_if_eq X (t := 37) rfl (by decide) hrs1019 h1 h2) (fun g1026 => ?_) (fun g1026 => ?_)
        ·
          exact d_lift (fun k ws X h => z_const X rfl h) (N1024 _ (Or.inl ⟨g1026, rfl⟩))
        ·
          refine d_lift (fun k ws X h => z_load_n X (x := iz) rfl (List.Mem.tail _ (List.Mem.head _)) h) (d_br (bo_eq _ _) bx_eq (fun k ws X h1 h2 => z_if_eq X (t := 37) rfl (by decide) ⟨by first | exact oq_bde653e9 hi.1 | omega, by first | exact oq_4ad2cb8b hi.1 | omega⟩ h1 h2) (fun g1027 => ?_) (fun g1027 => ?_))
          ·
            exact d_lift (fun k ws X h => z_const X rfl h) (N1024 _ (Or.inr (Or.inl ⟨g1026, g1027, rfl⟩)))
          ·
            exact d_lift (fun k ws X h => z_const X rfl h) (d_lift (fun k ws X h => z_goto X (t := 38) rfl (by decide) h) (N1024 _ (Or.inr (Or.inr (⟨g1026, g1027, rfl⟩)))))
  refine d_lift (fun k ws X h => z_const X rfl h) (d_lift (fun k ws X h => z_store_n X (lv' := [(1, .int (Int32.ofInt 1)), (0, .ref (A 179))]) rfl (by decide) (fun _ h => h) h) (d_lift (fun k ws X h => z_const X rfl h) (d_lift (fun k ws X h => z_store_n X (lv' := [(2, .int (Int32.ofInt 0)), (1, .int (Int32.ofInt 1)), (0, .ref (A 179))]) rfl (by decide) (fun _ h => h) h) (d_lvs (lv := [(0, .ref (A 179)), (1, .int (Int32.ofInt 1)), (2, .int (Int32.ofInt 0))]) (List.forall_mem_cons.mpr ⟨(List.Mem.tail _ (List.Mem.tail _ (List.Mem.head _))), (List.forall_mem_cons.mpr ⟨(List.Mem.tail _ (List.Mem.head _)), (List.forall_mem_cons.mpr ⟨(List.Mem.head _), (fun q h => absurd h List.not_mem_nil)⟩)⟩)⟩) (L4 ((8 - 0 : Int).toNat + 1) s 1 0 I F (by first | exact ⟨Or.inr (by decide), by decide, by decide⟩ | omega) (Nat.lt_succ_self _) ?_)))))
  intro s4 x5 x6 Is4 Fs4 hs4
  have b7 := bi_77 Is4
  have b8 := bi_78 Is4
  have b9 := bi_79 Is4
  refine d_lift (fun k ws X h => z_load_n X (x := x5) rfl (List.Mem.tail _ (List.Mem.head _)) h) ?_
  exact d_iret rfl (nar_ret (by first | exact hs4.1 | omega)) (Or.inr rfl) rfl (fun _ h => h) (hQ _ _ ⟨Is4, Fs4, x5, rfl, ⟨by first | exact oq_bde653e9 hs4.1 | omega, by first | exact oq_4ad2cb8b hs4.1 | omega⟩, by first | exact hs4.1 | omega⟩)
end M47
