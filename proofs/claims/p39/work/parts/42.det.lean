section
theorem oq_7ae2681c : 6 + 1 ≤ 7 := by omega
theorem oq_68e6451f : 8 + (2 + 11) + 100 ≤ 121 := by omega
theorem oq_519c1fd2 : 7 + 1 ≤ 8 := by omega
theorem oq_67025191 : 8 + (1 + 11) + 121 ≤ 141 := by omega
theorem oq_42eed11c : 6 + 1 ≤ 8 := by omega
theorem oq_dc08f8ae : 8 + (2 + 11) + 100 ≤ 141 := by omega
theorem oq_420db89e : 8 + (3 + 11) + 100 ≤ 141 := by omega
theorem oq_91725b71 : 8 + (3 + 11) + 100 ≤ 122 := by omega
theorem oq_4c2c9485 : 8 + (1 + 11) + 100 ≤ 141 := by omega
theorem oq_67c02c84 : 8 + 1 ≤ 9 := by omega
theorem oq_85724074 : 8 + (3 + 11) + 141 ≤ 163 := by omega
theorem oq_4a198724 : 6 + 1 ≤ 9 := by omega
theorem oq_497c6a1a : 8 + (7 + 11) + 100 ≤ 163 := by omega
/-! Determined: words and numbers of a text -/
section M42
variable {l : Launch} {s0 : State} {D : va_G} {tys : List (ClassId × FieldType)} {a0 : Array Value} {A : Nat → Nat} {dT : Nat → ClassId} {s : PS}
set_option maxHeartbeats 16000000 in
theorem d_blanks (G : GX l s0 D tys a0 dT) (I : Bd s) (p0 : iI s 77 ≤ 390) {T : TT} (hti : ∀ q ∈ ([77, 75, 78, 79, 81] : List Nat), T.1 q) (hta : ∀ a ∈ ([157, 158, 161] : List Nat), ∀ j, j < (bA a).2.2 → T.2 a j) : CD l s0 D A dT 193 (rmN 193) [77] [] T (T) [.ref (A 179)] s (fun o t => Bd t ∧ Fm [77] [] s t ∧ o = .inl none ∧ (iI s 77 ≤ iI t 77 ∧ (iI t 77 = iI s 77 ∨ iI t 77 ≤ iI s 75))) := by
  refine cd_of G (by decide) (Nat.le_of_ble_eq_true rfl) (fun Q hQ => ?_)
  have I0 := I
  show DS l s0 D A dT 193 (rmN 193) [77] [] (T) Q (T) 0 [(0, .ref (A 179))] [] s
  have F : Fm [77] [] s s := fm_rf _ _ s
  have b1 := bi_77 I
  have b2 := bi_75 I
  have L0 : ∀ (n : Nat) (t : PS), Bd t → Fm [77] [] s t → (iI s 77 ≤ iI t 77 ∧ (iI t 77 = iI s 77 ∨ iI t 77 ≤ iI s 75) ∧ iI t 75 = iI s 75) → (iI t 75 - iI t 77 : Int).toNat < n → (∀ (t' : PS), Bd t' → Fm [77] [] s t' → (iI s 77 ≤ iI t' 77 ∧ (iI t' 77 = iI s 77 ∨ iI t' 77 ≤ iI s 75) ∧ iI t' 75 = iI s 75) → DS l s0 D A dT 193 (rmN 193) [77] [] (T) Q (T) 26 [(0, .ref (A 179))] [] t') → DS l s0 D A dT 193 (rmN 193) [77] [] (T) Q (T) 0 [(0, .ref (A 179))] [] t := by
    intro n
    induction n with
    | zero =>
      intro t  I F hi hm kx
      exact absurd hm (Nat.not_lt_zero _)
    | succ n ih =>
      intro t  I F hi hm kx
      have b1001 := bi_77 I
      have b1002 := bi_75 I
      refine d_lift (fun k ws X h => z_aload_n X (x := A 179) rfl (List.Mem.head _) h) (d_lift (fun k ws X h => z_aload_n X (x := A 179) rfl (List.Mem.head _) h) (d_getI 179 rfl (by decide) rfl rfl (hti 77 (by decide)) ?_))
      have b1003 := bi_77 I
      refine d_callV 179 (As := [.int (Int32.ofInt (iI t 77))]) (st := []) rfl rfl (by decide) rfl (d_byteAt G I (by first | exact ⟨b1003.1, oq_5a8480eb b1003.2⟩ | omega) (fun q h => hti q ((by decide : ∀ q ∈ ([75, 81] : List Nat), q ∈ ([77, 75, 78, 79, 81] : List Nat)) q h)) (fun a h => hta a ((by decide : ∀ q ∈ ([157, 158] : List Nat), q ∈ ([157, 158, 161] : List Nat)) a h))) ⟨rfl, rfl⟩ ⟨(show 6 + 1 ≤ 7 from oq_7ae2681c), (show 8 + (mNL (miB 192) + 11) + 100 ≤ 121 from oq_68e6451f)⟩ (Nat.le_of_ble_eq_true rfl) (by decide) (by decide) (fun ee s1004 hq => ?_) (fun vv s1004 hq => ?_)
      · obtain ⟨Is1004, Fs1004, e1005, hv, hrs1004, hps1004⟩ := hq; cases hv
      obtain ⟨Is1004, Fs1004, e1005, hv, hrs1004, hps1004⟩ := hq
      cases hv
      have Gs1004 := fm_tq F Fs1004 rfl rfl
      have ws1004_77 : iI s1004 77 = iI t 77 := fm_iq Fs1004 rfl
      have ws1004_75 : iI s1004 75 = iI t 75 := fm_iq Fs1004 rfl
      show DS l s0 D A dT 193 (rmN 193) [77] [] (T) Q (T) 8 [(0, .ref (A 179))] [.int (Int32.ofInt e1005)] s1004
      refine d_lift (fun k ws X h => z_bipush X rfl h) (d_br (bo_ne _ _) bx_ne (fun k ws X h1 h2 => z_icmp_ne X (t := 26) rfl (by decide) hrs1004 (by decide) h1 h2) (fun g1006 => ?_) (fun g1006 => ?_))
      ·
        refine d_lvs (lv := [(0, .ref (A 179))]) (List.forall_mem_cons.mpr ⟨(List.Mem.head _), (fun q h => absurd h List.not_mem_nil)⟩) ?_
        exact kx _  Is1004 Gs1004 (by first | exact ⟨oq_9272904e ws1004_77 hi.1, oq_8dc46605 ws1004_77 hi.2.1 hi.1, oq_1aa5be9e ws1004_75 hi.2.2⟩ | omega)
      ·
        refine d_lift (fun k ws X h => z_aload_n X (x := A 179) rfl (List.Mem.head _) h) (d_lift (fun k ws X h => w_dup X.1 (ax_d X (show cdA 193 14 = some (.dup, 1, 0, 0, 0) from rfl)) rfl h) (d_getI 179 rfl (by decide) rfl rfl (hti 77 (by decide)) ?_))
        have b1007 := bi_77 Is1004
        refine d_lift (fun k ws X h => z_const X rfl h) (d_lift (fun k ws X h => z_add X rfl h) (d_putI 179 rfl (by decide) rfl rfl (by decide) rfl rfl rfl (show 77 ∈ _ by decide) (show (0 : Int) ≤ ((iI s1004 77) + 1) ∧ ((iI s1004 77) + 1) ≤ 400 by first | exact ⟨oq_54f49eb5 b1007.1, oq_9fb74c64 g1006 ws1004_77 hps1004 b1002.2⟩ | omega) ⟨by first | exact oq_74de1e16 b1007.1 | omega, by first | exact oq_964ce197 b1007.2 | omega⟩ (d_mono (T' := T) (fun _ h => Or.inr h) (fun _ _ h => h) (ds_gen (fun s1008 hs1008 => ?_)))))
        have Is1008 : Bd s1008 := eqB hs1008 (bd_I Is1004 (show (0 : Int) ≤ ((iI s1004 77) + 1) ∧ ((iI s1004 77) + 1) ≤ 400 by first | exact ⟨oq_54f49eb5 b1007.1, oq_9fb74c64 g1006 ws1004_77 hps1004 b1002.2⟩ | omega) ⟨by first | exact oq_74de1e16 b1007.1 | omega, by first | exact oq_964ce197 b1007.2 | omega⟩)
        have Fs1008 := eqF hs1008 (fm_I Gs1004 (inl_ok (a := 77) rfl))
        have vs1008 : iI s1008 77 = ((iI s1004 77) + 1) := eqI hs1008 (iI_u ⟨by first | exact oq_74de1e16 b1007.1 | omega, by first | exact oq_964ce197 b1007.2 | omega⟩)
        have ws1008_75 : iI s1008 75 = iI s1004 75 := eqI hs1008 rfl
        refine d_lift (fun k ws X h => z_goto X (t := 0) rfl (by decide) h) (d_lvs (lv := [(0, .ref (A 179))]) (List.forall_mem_cons.mpr ⟨(List.Mem.head _), (fun q h => absurd h List.not_mem_nil)⟩) ?_)
        exact ih _  Is1008 Fs1008 (by first | exact ⟨oq_6d7927be vs1008 hi.1 ws1004_77, oq_cfc91213 vs1008 g1006 ws1004_77 hps1004 hi.2.2, oq_d0d2714e ws1008_75 hi.2.2 ws1004_75⟩ | omega) (by first | exact qk_me hm (oq_956b687f ws1008_75 vs1008 ws1004_75 ws1004_77) (oq_a9fc5a51 g1006 hps1004) | omega) kx
  refine d_lvs (lv := [(0, .ref (A 179))]) (List.forall_mem_cons.mpr ⟨(List.Mem.head _), (fun q h => absurd h List.not_mem_nil)⟩) (L0 ((iI s 75 - iI s 77 : Int).toNat + 1) s  I F (by first | exact ⟨by decide, Or.inl (by decide), by decide⟩ | omega) (Nat.lt_succ_self _) ?_)
  intro s3  Is3 Fs3 hs3
  have b4 := bi_77 Is3
  have b5 := bi_75 Is3
  exact d_vret rfl rfl (fun _ h => h) (hQ _ _ ⟨Is3, Fs3, rfl, by first | exact ⟨hs3.1, hs3.2.1⟩ | omega⟩)
set_option maxHeartbeats 16000000 in
theorem d_skipWord (G : GX l s0 D tys a0 dT) (I : Bd s) (p0 : iI s 77 ≤ 390) {T : TT} (hti : ∀ q ∈ ([77, 75, 78, 79, 81] : List Nat), T.1 q) (hta : ∀ a ∈ ([157, 158, 161] : List Nat), ∀ j, j < (bA a).2.2 → T.2 a j) : CD l s0 D A dT 203 (rmN 203) [77] [] T (T) [.ref (A 179)] s (fun o t => Bd t ∧ Fm [77] [] s t ∧ o = .inl none ∧ (iI s 77 ≤ iI t 77 ∧ (iI t 77 = iI s 77 ∨ iI t 77 ≤ iI s 75))) := by
  refine cd_of G (by decide) (Nat.le_of_ble_eq_true rfl) (fun Q hQ => ?_)
  have I0 := I
  show DS l s0 D A dT 203 (rmN 203) [77] [] (T) Q (T) 0 [(0, .ref (A 179))] [] s
  have F : Fm [77] [] s s := fm_rf _ _ s
  have b1 := bi_77 I
  have b2 := bi_75 I
  have L0 : ∀ (n : Nat) (t : PS), Bd t → Fm [77] [] s t → (iI s 77 ≤ iI t 77 ∧ (iI t 77 = iI s 77 ∨ iI t 77 ≤ iI s 75) ∧ iI t 75 = iI s 75) → (iI t 75 - iI t 77 : Int).toNat < n → (∀ (t' : PS), Bd t' → Fm [77] [] s t' → (iI s 77 ≤ iI t' 77 ∧ (iI t' 77 = iI s 77 ∨ iI t' 77 ≤ iI s 75) ∧ iI t' 75 = iI s 75) → DS l s0 D A dT 203 (rmN 203) [77] [] (T) Q (T) 39 [(0, .ref (A 179))] [] t') → DS l s0 D A dT 203 (rmN 203) [77] [] (T) Q (T) 0 [(0, .ref (A 179))] [] t := by
    intro n
    induction n with
    | zero =>
      intro t  I F hi hm kx
      exact absurd hm (Nat.not_lt_zero _)
    | succ n ih =>
      intro t  I F hi hm kx
      have b1001 := bi_77 I
      have b1002 := bi_75 I
      refine d_lift (fun k ws X h => z_aload_n X (x := A 179) rfl (List.Mem.head _) h) (d_lift (fun k ws X h => z_aload_n X (x := A 179) rfl (List.Mem.head _) h) (d_getI 179 rfl (by decide) rfl rfl (hti 77 (by decide)) ?_))
      have b1003 := bi_77 I
      refine d_callV 179 (As := [.int (Int32.ofInt (iI t 77))]) (st := []) rfl rfl (by decide) rfl (d_byteAt G I (by first | exact ⟨b1003.1, oq_5a8480eb b1003.2⟩ | omega) (fun q h => hti q ((by decide : ∀ q ∈ ([75, 81] : List Nat), q ∈ ([77, 75, 78, 79, 81] : List Nat)) q h)) (fun a h => hta a ((by decide : ∀ q ∈ ([157, 158] : List Nat), q ∈ ([157, 158, 161] : List Nat)) a h))) ⟨rfl, rfl⟩ ⟨(show 6 + 1 ≤ 7 from oq_7ae2681c), (show 8 + (mNL (miB 192) + 11) + 100 ≤ 121 from oq_68e6451f)⟩ (Nat.le_of_ble_eq_true rfl) (by decide) (by decide) (fun ee s1004 hq => ?_) (fun vv s1004 hq => ?_)
      · obtain ⟨Is1004, Fs1004, e1005, hv, hrs1004, hps1004⟩ := hq; cases hv
      obtain ⟨Is1004, Fs1004, e1005, hv, hrs1004, hps1004⟩ := hq
      cases hv
      have Gs1004 := fm_tq F Fs1004 rfl rfl
      have ws1004_77 : iI s1004 77 = iI t 77 := fm_iq Fs1004 rfl
      have ws1004_75 : iI s1004 75 = iI t 75 := fm_iq Fs1004 rfl
      show DS l s0 D A dT 203 (rmN 203) [77] [] (T) Q (T) 8 [(0, .ref (A 179))] [.int (Int32.ofInt e1005)] s1004
      refine d_lift (fun k ws X h => z_bipush X rfl h) (d_br (bo_lt _ _) bx_lt (fun k ws X h1 h2 => z_icmp_lt X (t := 39) rfl (by decide) hrs1004 (by decide) h1 h2) (fun g1006 => ?_) (fun g1006 => ?_))
      ·
        refine d_lvs (lv := [(0, .ref (A 179))]) (List.forall_mem_cons.mpr ⟨(List.Mem.head _), (fun q h => absurd h List.not_mem_nil)⟩) ?_
        exact kx _  Is1004 Gs1004 (by first | exact ⟨oq_9272904e ws1004_77 hi.1, oq_8dc46605 ws1004_77 hi.2.1 hi.1, oq_1aa5be9e ws1004_75 hi.2.2⟩ | omega)
      ·
        refine d_lift (fun k ws X h => z_aload_n X (x := A 179) rfl (List.Mem.head _) h) (d_lift (fun k ws X h => z_aload_n X (x := A 179) rfl (List.Mem.head _) h) (d_getI 179 rfl (by decide) rfl rfl (hti 77 (by decide)) ?_))
        have b1007 := bi_77 Is1004
        refine d_callV 179 (As := [.int (Int32.ofInt (iI s1004 77))]) (st := []) rfl rfl (by decide) rfl (d_byteAt G Is1004 (by first | exact ⟨b1007.1, oq_5a8480eb b1007.2⟩ | omega) (fun q h => hti q ((by decide : ∀ q ∈ ([75, 81] : List Nat), q ∈ ([77, 75, 78, 79, 81] : List Nat)) q h)) (fun a h => hta a ((by decide : ∀ q ∈ ([157, 158] : List Nat), q ∈ ([157, 158, 161] : List Nat)) a h))) ⟨rfl, rfl⟩ ⟨(show 6 + 1 ≤ 7 from oq_7ae2681c), (show 8 + (mNL (miB 192) + 11) + 100 ≤ 121 from oq_68e6451f)⟩ (Nat.le_of_ble_eq_true rfl) (by decide) (by decide) (fun ee s1008 hq => ?_) (fun vv s1008 hq => ?_)
        · obtain ⟨Is1008, Fs1008, e1009, hv, hrs1008, hps1008⟩ := hq; cases hv
        obtain ⟨Is1008, Fs1008, e1009, hv, hrs1008, hps1008⟩ := hq
        cases hv
        have Gs1008 := fm_tq Gs1004 Fs1008 rfl rfl
        have ws1008_77 : iI s1008 77 = iI s1004 77 := fm_iq Fs1008 rfl
        have ws1008_75 : iI s1008 75 = iI s1004 75 := fm_iq Fs1008 rfl
        show DS l s0 D A dT 203 (rmN 203) [77] [] (T) Q (T) 21 [(0, .ref (A 179))] [.int (Int32.ofInt e1009)] s1008
        refine d_lift (fun k ws X h => z_bipush X rfl h) (d_br (bo_gt _ _) bx_gt (fun k ws X h1 h2 => z_icmp_gt X (t := 39) rfl (by decide) hrs1008 (by decide) h1 h2) (fun g1010 => ?_) (fun g1010 => ?_))
        ·
          refine d_lvs (lv := [(0, .ref (A 179))]) (List.forall_mem_cons.mpr ⟨(List.Mem.head _), (fun q h => absurd h List.not_mem_nil)⟩) ?_
          exact kx _  Is1008 Gs1008 (by first | exact ⟨oq_143762c7 ws1008_77 hi.1 ws1004_77, oq_2519f37c g1010 ws1008_77 hps1008 ws1004_75 hi.2.2, oq_d0d2714e ws1008_75 hi.2.2 ws1004_75⟩ | omega)
        ·
          refine d_lift (fun k ws X h => z_aload_n X (x := A 179) rfl (List.Mem.head _) h) (d_lift (fun k ws X h => w_dup X.1 (ax_d X (show cdA 203 27 = some (.dup, 1, 0, 0, 0) from rfl)) rfl h) (d_getI 179 rfl (by decide) rfl rfl (hti 77 (by decide)) ?_))
          have b1011 := bi_77 Is1008
          refine d_lift (fun k ws X h => z_const X rfl h) (d_lift (fun k ws X h => z_add X rfl h) (d_putI 179 rfl (by decide) rfl rfl (by decide) rfl rfl rfl (show 77 ∈ _ by decide) (show (0 : Int) ≤ ((iI s1008 77) + 1) ∧ ((iI s1008 77) + 1) ≤ 400 by first | exact ⟨oq_54f49eb5 b1011.1, oq_7e7c278b ws1008_77 g1006 ws1004_77 hps1004 b1002.2⟩ | omega) ⟨by first | exact oq_74de1e16 b1011.1 | omega, by first | exact oq_964ce197 b1011.2 | omega⟩ (d_mono (T' := T) (fun _ h => Or.inr h) (fun _ _ h => h) (ds_gen (fun s1012 hs1012 => ?_)))))
          have Is1012 : Bd s1012 := eqB hs1012 (bd_I Is1008 (show (0 : Int) ≤ ((iI s1008 77) + 1) ∧ ((iI s1008 77) + 1) ≤ 400 by first | exact ⟨oq_54f49eb5 b1011.1, oq_7e7c278b ws1008_77 g1006 ws1004_77 hps1004 b1002.2⟩ | omega) ⟨by first | exact oq_74de1e16 b1011.1 | omega, by first | exact oq_964ce197 b1011.2 | omega⟩)
          have Fs1012 := eqF hs1012 (fm_I Gs1008 (inl_ok (a := 77) rfl))
          have vs1012 : iI s1012 77 = ((iI s1008 77) + 1) := eqI hs1012 (iI_u ⟨by first | exact oq_74de1e16 b1011.1 | omega, by first | exact oq_964ce197 b1011.2 | omega⟩)
          have ws1012_75 : iI s1012 75 = iI s1008 75 := eqI hs1012 rfl
          refine d_lift (fun k ws X h => z_goto X (t := 0) rfl (by decide) h) (d_lvs (lv := [(0, .ref (A 179))]) (List.forall_mem_cons.mpr ⟨(List.Mem.head _), (fun q h => absurd h List.not_mem_nil)⟩) ?_)
          exact ih _  Is1012 Fs1012 (by first | exact ⟨oq_c108a731 vs1012 hi.1 ws1008_77 ws1004_77, oq_a49c266d vs1012 ws1008_77 hps1008 g1006 ws1004_75 ws1004_77 hps1004 hi.2.2, oq_45b593e3 ws1012_75 hi.2.2 ws1008_75 ws1004_75⟩ | omega) (by first | exact qk_me hm (oq_e6145000 ws1012_75 vs1012 ws1008_75 ws1008_77 ws1004_75 ws1004_77) (oq_88aeaead g1006 hps1004) | omega) kx
  refine d_lvs (lv := [(0, .ref (A 179))]) (List.forall_mem_cons.mpr ⟨(List.Mem.head _), (fun q h => absurd h List.not_mem_nil)⟩) (L0 ((iI s 75 - iI s 77 : Int).toNat + 1) s  I F (by first | exact ⟨by decide, Or.inl (by decide), by decide⟩ | omega) (Nat.lt_succ_self _) ?_)
  intro s3  Is3 Fs3 hs3
  have b4 := bi_77 Is3
  have b5 := bi_75 Is3
  exact d_vret rfl rfl (fun _ h => h) (hQ _ _ ⟨Is3, Fs3, rfl, by first | exact ⟨hs3.1, hs3.2.1⟩ | omega⟩)
set_option maxHeartbeats 16000000 in
theorem d_sign (G : GX l s0 D tys a0 dT) (I : Bd s) {x : Int} (p0 : 0 ≤ x ∧ x ≤ 255) (p1 : iI s 77 ≤ 380) {T : TT} (hti : ∀ q ∈ ([77, 75, 78, 79, 81] : List Nat), T.1 q) (hta : ∀ a ∈ ([157, 158, 161] : List Nat), ∀ j, j < (bA a).2.2 → T.2 a j) : CD l s0 D A dT 204 (rmN 204) [77, 79, 80] [] T (T) [.ref (A 179), .int (Int32.ofInt x)] s (fun o t => Bd t ∧ Fm [77, 79, 80] [] s t ∧ o = .inl none ∧ (iI s 77 ≤ iI t 77 ∧ (iI t 77 = iI s 77 ∨ iI t 77 ≤ iI s 75) ∧ (iI s 79 ≠ 0 → iI t 79 ≠ 0) ∧ (iI t 79 = 0 → iI s 77 < iI t 77 ∧ iI t 77 ≤ iI s 75))) := by
  refine cd_of G (by decide) (Nat.le_of_ble_eq_true rfl) (fun Q hQ => ?_)
  have I0 := I
  show DS l s0 D A dT 204 (rmN 204) [77, 79, 80] [] (T) Q (T) 0 [(0, .ref (A 179)), (1, .int (Int32.ofInt x))] [] s
  have F : Fm [77, 79, 80] [] s s := fm_rf _ _ s
  have b1 := bi_77 I
  have b2 := bi_75 I
  have b3 := bi_79 I
  refine d_lift (fun k ws X h => z_aload_n X (x := A 179) rfl (List.Mem.head _) h) (d_callV 179 (As := []) (st := []) rfl rfl (by decide) rfl (d_blanks G I (by first | exact oq_f72601a2 p1 | omega) (fun q h => hti q ((by decide : ∀ q ∈ ([77, 75, 78, 79, 81] : List Nat), q ∈ ([77, 75, 78, 79, 81] : List Nat)) q h)) (fun a h => hta a ((by decide : ∀ q ∈ ([157, 158, 161] : List Nat), q ∈ ([157, 158, 161] : List Nat)) a h))) ⟨rfl, rfl⟩ ⟨(show 7 + 1 ≤ 8 from oq_519c1fd2), (show 8 + (mNL (miB 193) + 11) + 121 ≤ 141 from oq_67025191)⟩ (Nat.le_of_ble_eq_true rfl) (by decide) (by decide) (fun ee s4 hq => ?_) (fun vv s4 hq => ?_))
  · obtain ⟨Is4, Fs4, hv, hps4⟩ := hq; cases hv
  obtain ⟨Is4, Fs4, hv, hps4⟩ := hq
  have hps4p := hps4.1
  cases hv
  have Gs4 := fm_tq F Fs4 rfl rfl
  have b6 := bi_77 Is4
  have ws4_75 : iI s4 75 = iI s 75 := fm_iq Fs4 rfl
  have ws4_79 : iI s4 79 = iI s 79 := fm_iq Fs4 rfl
  show DS l s0 D A dT 204 (rmN 204) [77, 79, 80] [] (T) Q (T) 4 [(0, .ref (A 179)), (1, .int (Int32.ofInt x))] [] s4
  refine d_lift (fun k ws X h => z_aload_n X (x := A 179) rfl (List.Mem.head _) h) (d_lift (fun k ws X h => z_aload_n X (x := A 179) rfl (List.Mem.head _) h) (d_getI 179 rfl (by decide) rfl rfl (hti 77 (by decide)) ?_))
  have b7 := bi_77 Is4
  refine d_callV 179 (As := [.int (Int32.ofInt (iI s4 77))]) (st := []) rfl rfl (by decide) rfl (d_byteAt G Is4 (by first | exact ⟨b7.1, oq_5a8480eb b7.2⟩ | omega) (fun q h => hti q ((by decide : ∀ q ∈ ([75, 81] : List Nat), q ∈ ([77, 75, 78, 79, 81] : List Nat)) q h)) (fun a h => hta a ((by decide : ∀ q ∈ ([157, 158] : List Nat), q ∈ ([157, 158, 161] : List Nat)) a h))) ⟨rfl, rfl⟩ ⟨(show 6 + 1 ≤ 8 from oq_42eed11c), (show 8 + (mNL (miB 192) + 11) + 100 ≤ 141 from oq_dc08f8ae)⟩ (Nat.le_of_ble_eq_true rfl) (by decide) (by decide) (fun ee s8 hq => ?_) (fun vv s8 hq => ?_)
  · obtain ⟨Is8, Fs8, e9, hv, hrs8, hps8⟩ := hq; cases hv
  obtain ⟨Is8, Fs8, e9, hv, hrs8, hps8⟩ := hq
  cases hv
  have Gs8 := fm_tq Gs4 Fs8 rfl rfl
  have ws8_77 : iI s8 77 = iI s4 77 := fm_iq Fs8 rfl
  have ws8_75 : iI s8 75 = iI s4 75 := fm_iq Fs8 rfl
  have ws8_79 : iI s8 79 = iI s4 79 := fm_iq Fs8 rfl
  show DS l s0 D A dT 204 (rmN 204) [77, 79, 80] [] (T) Q (T) 12 [(0, .ref (A 179)), (1, .int (Int32.ofInt x))] [.int (Int32.ofInt e9)] s8
  refine d_lift (fun k ws X h => z_load_n X (x := x) rfl (List.Mem.tail _ (List.Mem.head _)) h) (d_br (bo_ne _ _) bx_ne (fun k ws X h1 h2 => z_icmp_ne X (t := 29) rfl (by decide) hrs8 ⟨by first | exact oq_fa4e5087 p0.1 | omega, by first | exact oq_4567a937 p0.2 | omega⟩ h1 h2) (fun g10 => ?_) (fun g10 => ?_))
  ·
    refine d_lift (fun k ws X h => z_aload_n X (x := A 179) rfl (List.Mem.head _) h) (d_lift (fun k ws X h => z_const X rfl h) (d_lift (fun k ws X h => z_aload_n X (x := A 179) rfl (List.Mem.head _) h) (d_getI 179 rfl (by decide) rfl rfl (hti 77 (by decide)) ?_)))
    have b11 := bi_77 Is8
    refine d_callV 179 (As := [.int (Int32.ofInt 1), .int (Int32.ofInt (iI s8 77))]) (st := []) rfl rfl (by decide) rfl (d_wrong G Is8 (by first | exact ⟨by decide, by decide⟩ | omega) (by first | exact ⟨oq_ca54ea22 b11.1, b11.2⟩ | omega) (fun q h => hti q ((by decide : ∀ q ∈ ([79] : List Nat), q ∈ ([77, 75, 78, 79, 81] : List Nat)) q h)) (fun a h => hta a ((by decide : ∀ q ∈ ([] : List Nat), q ∈ ([157, 158, 161] : List Nat)) a h))) ⟨rfl, rfl⟩ ⟨(show 6 + 1 ≤ 8 from oq_42eed11c), (show 8 + (mNL (miB 194) + 11) + 100 ≤ 141 from oq_420db89e)⟩ (Nat.le_of_ble_eq_true rfl) (by decide) (by decide) (fun ee s12 hq => ?_) (fun vv s12 hq => ?_)
    · obtain ⟨Is12, Fs12, hv, hps12⟩ := hq; cases hv
    obtain ⟨Is12, Fs12, hv, hps12⟩ := hq
    cases hv
    have Gs12 := fm_tq Gs8 Fs12 rfl rfl
    have ws12_77 : iI s12 77 = iI s8 77 := fm_iq Fs12 rfl
    have ws12_75 : iI s12 75 = iI s8 75 := fm_iq Fs12 rfl
    have b14 := bi_79 Is12
    show DS l s0 D A dT 204 (rmN 204) [77, 79, 80] [] (T) Q (T) 38 [(0, .ref (A 179)), (1, .int (Int32.ofInt x))] [] s12
    exact d_vret rfl rfl (fun _ h => h) (hQ _ _ ⟨Is12, Gs12, rfl, by first | exact ⟨oq_143762c7 ws12_77 hps4.1 ws8_77, oq_9d983156 ws12_77 ws8_77 hps4.2 hps4.1, oq_5071f1ab b14.1 hps12, oq_c324d438 b14.1 hps12⟩ | omega⟩)
  ·
    refine d_lift (fun k ws X h => z_aload_n X (x := A 179) rfl (List.Mem.head _) h) (d_lift (fun k ws X h => w_dup X.1 (ax_d X (show cdA 204 17 = some (.dup, 1, 0, 0, 0) from rfl)) rfl h) (d_getI 179 rfl (by decide) rfl rfl (hti 77 (by decide)) ?_))
    have b15 := bi_77 Is8
    refine d_lift (fun k ws X h => z_const X rfl h) (d_lift (fun k ws X h => z_add X rfl h) (d_putI 179 rfl (by decide) rfl rfl (by decide) rfl rfl rfl (show 77 ∈ _ by decide) (show (0 : Int) ≤ ((iI s8 77) + 1) ∧ ((iI s8 77) + 1) ≤ 400 by first | exact ⟨oq_54f49eb5 b15.1, oq_f2693aa9 g10 ws8_77 hps8 ws4_75 b2.2 p0.1⟩ | omega) ⟨by first | exact oq_74de1e16 b15.1 | omega, by first | exact oq_964ce197 b15.2 | omega⟩ (d_mono (T' := T) (fun _ h => Or.inr h) (fun _ _ h => h) (ds_gen (fun s16 hs16 => ?_)))))
    have Is16 : Bd s16 := eqB hs16 (bd_I Is8 (show (0 : Int) ≤ ((iI s8 77) + 1) ∧ ((iI s8 77) + 1) ≤ 400 by first | exact ⟨oq_54f49eb5 b15.1, oq_f2693aa9 g10 ws8_77 hps8 ws4_75 b2.2 p0.1⟩ | omega) ⟨by first | exact oq_74de1e16 b15.1 | omega, by first | exact oq_964ce197 b15.2 | omega⟩)
    have Fs16 := eqF hs16 (fm_I Gs8 (inl_ok (a := 77) rfl))
    have vs16 : iI s16 77 = ((iI s8 77) + 1) := eqI hs16 (iI_u ⟨by first | exact oq_74de1e16 b15.1 | omega, by first | exact oq_964ce197 b15.2 | omega⟩)
    have ws16_75 : iI s16 75 = iI s8 75 := eqI hs16 rfl
    have ws16_79 : iI s16 79 = iI s8 79 := eqI hs16 rfl
    refine d_lift (fun k ws X h => z_goto X (t := 38) rfl (by decide) h) ?_
    exact d_vret rfl rfl (fun _ h => h) (hQ _ _ ⟨Is16, Fs16, rfl, by first | exact ⟨oq_6d7927be vs16 hps4.1 ws8_77, oq_669de7e1 vs16 g10 ws8_77 hps8 ws4_75 p0.1, oq_00dd204b ws16_79 ws8_79 ws4_79 b3.1, oq_8800f1ea vs16 g10 ws8_77 hps8 ws4_75 hps4.1 p0.1⟩ | omega⟩)
set_option maxHeartbeats 16000000 in
theorem d_opens (G : GX l s0 D tys a0 dT) (I : Bd s) {x : Int} (p0 : 1 ≤ x ∧ x ≤ 3) (p1 : iI s 77 ≤ 380) (p2 : iI s 78 ≤ 7) {T : TT} (hti : ∀ q ∈ ([77, 75, 78, 79, 81] : List Nat), T.1 q) (hta : ∀ a ∈ ([157, 158, 161] : List Nat), ∀ j, j < (bA a).2.2 → T.2 a j) : CD l s0 D A dT 205 (rmN 205) [77, 79, 80, 78] [] T (T) [.ref (A 179), .int (Int32.ofInt x)] s (fun o t => Bd t ∧ Fm [77, 79, 80, 78] [] s t ∧ o = .inl none ∧ (iI t 77 = iI s 77 + x ∧ iI t 78 = iI s 78 + 1 ∧ (iI s 79 ≠ 0 → iI t 79 ≠ 0) ∧ (iI s 78 = 6 → iI t 79 ≠ 0))) := by
  refine cd_of G (by decide) (Nat.le_of_ble_eq_true rfl) (fun Q hQ => ?_)
  have I0 := I
  show DS l s0 D A dT 205 (rmN 205) [77, 79, 80, 78] [] (T) Q (T) 0 [(0, .ref (A 179)), (1, .int (Int32.ofInt x))] [] s
  have F : Fm [77, 79, 80, 78] [] s s := fm_rf _ _ s
  have b1 := bi_77 I
  have b2 := bi_78 I
  have b3 := bi_79 I
  refine d_lift (fun k ws X h => z_aload_n X (x := A 179) rfl (List.Mem.head _) h) (d_getI 179 rfl (by decide) rfl rfl (hti 78 (by decide)) ?_)
  have b4 := bi_78 I
  refine d_lift (fun k ws X h => z_bipush X rfl h) (d_br (bo_ne _ _) bx_ne (fun k ws X h1 h2 => z_icmp_ne X (t := 18) rfl (by decide) (rng_to _) (by decide) h1 h2) (fun g5 => ?_) (fun g5 => ?_))
  ·
    refine d_lift (fun k ws X h => z_aload_n X (x := A 179) rfl (List.Mem.head _) h) (d_lift (fun k ws X h => w_dup X.1 (ax_d X (show cdA 205 19 = some (.dup, 1, 0, 0, 0) from rfl)) rfl h) (d_getI 179 rfl (by decide) rfl rfl (hti 78 (by decide)) ?_))
    have b6 := bi_78 I
    refine d_lift (fun k ws X h => z_const X rfl h) (d_lift (fun k ws X h => z_add X rfl h) (d_putI 179 rfl (by decide) rfl rfl (by decide) rfl rfl rfl (show 78 ∈ _ by decide) (show (0 : Int) ≤ ((iI s 78) + 1) ∧ ((iI s 78) + 1) ≤ 8 by first | exact ⟨oq_54f49eb5 b6.1, oq_18969492 p2⟩ | omega) ⟨by first | exact oq_74de1e16 b6.1 | omega, by first | exact oq_3762dfb5 b6.2 | omega⟩ (d_mono (T' := T) (fun _ h => Or.inr h) (fun _ _ h => h) (ds_gen (fun s7 hs7 => ?_)))))
    have Is7 : Bd s7 := eqB hs7 (bd_I I (show (0 : Int) ≤ ((iI s 78) + 1) ∧ ((iI s 78) + 1) ≤ 8 by first | exact ⟨oq_54f49eb5 b6.1, oq_18969492 p2⟩ | omega) ⟨by first | exact oq_74de1e16 b6.1 | omega, by first | exact oq_3762dfb5 b6.2 | omega⟩)
    have Fs7 := eqF hs7 (fm_I F (inl_ok (a := 78) rfl))
    have vs7 : iI s7 78 = ((iI s 78) + 1) := eqI hs7 (iI_u ⟨by first | exact oq_74de1e16 b6.1 | omega, by first | exact oq_3762dfb5 b6.2 | omega⟩)
    have ws7_77 : iI s7 77 = iI s 77 := eqI hs7 rfl
    have ws7_79 : iI s7 79 = iI s 79 := eqI hs7 rfl
    refine d_lift (fun k ws X h => z_aload_n X (x := A 179) rfl (List.Mem.head _) h) (d_lift (fun k ws X h => w_dup X.1 (ax_d X (show cdA 205 29 = some (.dup, 1, 0, 0, 0) from rfl)) rfl h) (d_getI 179 rfl (by decide) rfl rfl (hti 77 (by decide)) ?_))
    have b8 := bi_77 Is7
    refine d_lift (fun k ws X h => z_load_n X (x := x) rfl (List.Mem.tail _ (List.Mem.head _)) h) (d_lift (fun k ws X h => z_add X rfl h) (d_putI 179 rfl (by decide) rfl rfl (by decide) rfl rfl rfl (show 77 ∈ _ by decide) (show (0 : Int) ≤ ((iI s7 77) + x) ∧ ((iI s7 77) + x) ≤ 400 by first | exact ⟨oq_c3299dea p0.1 b8.1, oq_69d89cff p0.2 ws7_77 p1⟩ | omega) ⟨by first | exact oq_96c994d3 p0.1 b8.1 | omega, by first | exact oq_99fe3e62 p0.2 b8.2 | omega⟩ (d_mono (T' := T) (fun _ h => Or.inr h) (fun _ _ h => h) (ds_gen (fun s9 hs9 => ?_)))))
    have Is9 : Bd s9 := eqB hs9 (bd_I Is7 (show (0 : Int) ≤ ((iI s7 77) + x) ∧ ((iI s7 77) + x) ≤ 400 by first | exact ⟨oq_c3299dea p0.1 b8.1, oq_69d89cff p0.2 ws7_77 p1⟩ | omega) ⟨by first | exact oq_96c994d3 p0.1 b8.1 | omega, by first | exact oq_99fe3e62 p0.2 b8.2 | omega⟩)
    have Fs9 := eqF hs9 (fm_I Fs7 (inl_ok (a := 77) rfl))
    have vs9 : iI s9 77 = ((iI s7 77) + x) := eqI hs9 (iI_u ⟨by first | exact oq_96c994d3 p0.1 b8.1 | omega, by first | exact oq_99fe3e62 p0.2 b8.2 | omega⟩)
    have ws9_78 : iI s9 78 = iI s7 78 := eqI hs9 rfl
    have ws9_79 : iI s9 79 = iI s7 79 := eqI hs9 rfl
    exact d_vret rfl rfl (fun _ h => h) (hQ _ _ ⟨Is9, Fs9, rfl, by first | exact ⟨oq_f1381ab8 vs9 ws7_77, oq_4b8d46b3 ws9_78 vs7, oq_3da60cc3 ws9_79 ws7_79 b3.1, oq_2b028323 g5⟩ | omega⟩)
  ·
    refine d_lift (fun k ws X h => z_aload_n X (x := A 179) rfl (List.Mem.head _) h) (d_lift (fun k ws X h => z_const X rfl h) (d_lift (fun k ws X h => z_aload_n X (x := A 179) rfl (List.Mem.head _) h) (d_getI 179 rfl (by decide) rfl rfl (hti 77 (by decide)) ?_)))
    have b10 := bi_77 I
    refine d_callV 179 (As := [.int (Int32.ofInt 3), .int (Int32.ofInt (iI s 77))]) (st := []) rfl rfl (by decide) rfl (d_wrong G I (by first | exact ⟨by decide, by decide⟩ | omega) (by first | exact ⟨oq_ca54ea22 b10.1, b10.2⟩ | omega) (fun q h => hti q ((by decide : ∀ q ∈ ([79] : List Nat), q ∈ ([77, 75, 78, 79, 81] : List Nat)) q h)) (fun a h => hta a ((by decide : ∀ q ∈ ([] : List Nat), q ∈ ([157, 158, 161] : List Nat)) a h))) ⟨rfl, rfl⟩ ⟨(show 6 + 1 ≤ 7 from oq_7ae2681c), (show 8 + (mNL (miB 194) + 11) + 100 ≤ 122 from oq_91725b71)⟩ (Nat.le_of_ble_eq_true rfl) (by decide) (by decide) (fun ee s11 hq => ?_) (fun vv s11 hq => ?_)
    · obtain ⟨Is11, Fs11, hv, hps11⟩ := hq; cases hv
    obtain ⟨Is11, Fs11, hv, hps11⟩ := hq
    cases hv
    have Gs11 := fm_tq F Fs11 rfl rfl
    have ws11_77 : iI s11 77 = iI s 77 := fm_iq Fs11 rfl
    have ws11_78 : iI s11 78 = iI s 78 := fm_iq Fs11 rfl
    have b13 := bi_79 Is11
    show DS l s0 D A dT 205 (rmN 205) [77, 79, 80, 78] [] (T) Q (T) 18 [(0, .ref (A 179)), (1, .int (Int32.ofInt x))] [] s11
    refine d_lift (fun k ws X h => z_aload_n X (x := A 179) rfl (List.Mem.head _) h) (d_lift (fun k ws X h => w_dup X.1 (ax_d X (show cdA 205 19 = some (.dup, 1, 0, 0, 0) from rfl)) rfl h) (d_getI 179 rfl (by decide) rfl rfl (hti 78 (by decide)) ?_))
    have b14 := bi_78 Is11
    refine d_lift (fun k ws X h => z_const X rfl h) (d_lift (fun k ws X h => z_add X rfl h) (d_putI 179 rfl (by decide) rfl rfl (by decide) rfl rfl rfl (show 78 ∈ _ by decide) (show (0 : Int) ≤ ((iI s11 78) + 1) ∧ ((iI s11 78) + 1) ≤ 8 by first | exact ⟨oq_54f49eb5 b14.1, oq_7dbb59f7 ws11_78 g5⟩ | omega) ⟨by first | exact oq_74de1e16 b14.1 | omega, by first | exact oq_3762dfb5 b14.2 | omega⟩ (d_mono (T' := T) (fun _ h => Or.inr h) (fun _ _ h => h) (ds_gen (fun s15 hs15 => ?_)))))
    have Is15 : Bd s15 := eqB hs15 (bd_I Is11 (show (0 : Int) ≤ ((iI s11 78) + 1) ∧ ((iI s11 78) + 1) ≤ 8 by first | exact ⟨oq_54f49eb5 b14.1, oq_7dbb59f7 ws11_78 g5⟩ | omega) ⟨by first | exact oq_74de1e16 b14.1 | omega, by first | exact oq_3762dfb5 b14.2 | omega⟩)
    have Fs15 := eqF hs15 (fm_I Gs11 (inl_ok (a := 78) rfl))
    have vs15 : iI s15 78 = ((iI s11 78) + 1) := eqI hs15 (iI_u ⟨by first | exact oq_74de1e16 b14.1 | omega, by first | exact oq_3762dfb5 b14.2 | omega⟩)
    have ws15_77 : iI s15 77 = iI s11 77 := eqI hs15 rfl
    have ws15_79 : iI s15 79 = iI s11 79 := eqI hs15 rfl
    refine d_lift (fun k ws X h => z_aload_n X (x := A 179) rfl (List.Mem.head _) h) (d_lift (fun k ws X h => w_dup X.1 (ax_d X (show cdA 205 29 = some (.dup, 1, 0, 0, 0) from rfl)) rfl h) (d_getI 179 rfl (by decide) rfl rfl (hti 77 (by decide)) ?_))
    have b16 := bi_77 Is15
    refine d_lift (fun k ws X h => z_load_n X (x := x) rfl (List.Mem.tail _ (List.Mem.head _)) h) (d_lift (fun k ws X h => z_add X rfl h) (d_putI 179 rfl (by decide) rfl rfl (by decide) rfl rfl rfl (show 77 ∈ _ by decide) (show (0 : Int) ≤ ((iI s15 77) + x) ∧ ((iI s15 77) + x) ≤ 400 by first | exact ⟨oq_c3299dea p0.1 b16.1, oq_75116c0c p0.2 ws15_77 ws11_77 p1⟩ | omega) ⟨by first | exact oq_96c994d3 p0.1 b16.1 | omega, by first | exact oq_99fe3e62 p0.2 b16.2 | omega⟩ (d_mono (T' := T) (fun _ h => Or.inr h) (fun _ _ h => h) (ds_gen (fun s17 hs17 => ?_)))))
    have Is17 : Bd s17 := eqB hs17 (bd_I Is15 (show (0 : Int) ≤ ((iI s15 77) + x) ∧ ((iI s15 77) + x) ≤ 400 by first | exact ⟨oq_c3299dea p0.1 b16.1, oq_75116c0c p0.2 ws15_77 ws11_77 p1⟩ | omega) ⟨by first | exact oq_96c994d3 p0.1 b16.1 | omega, by first | exact oq_99fe3e62 p0.2 b16.2 | omega⟩)
    have Fs17 := eqF hs17 (fm_I Fs15 (inl_ok (a := 77) rfl))
    have vs17 : iI s17 77 = ((iI s15 77) + x) := eqI hs17 (iI_u ⟨by first | exact oq_96c994d3 p0.1 b16.1 | omega, by first | exact oq_99fe3e62 p0.2 b16.2 | omega⟩)
    have ws17_78 : iI s17 78 = iI s15 78 := eqI hs17 rfl
    have ws17_79 : iI s17 79 = iI s15 79 := eqI hs17 rfl
    exact d_vret rfl rfl (fun _ h => h) (hQ _ _ ⟨Is17, Fs17, rfl, by first | exact ⟨oq_0f45dae9 vs17 ws11_77 ws15_77, oq_20fce6d9 ws17_78 vs15 ws11_78, oq_07c40900 ws17_79 ws15_79 b13.1 hps11, oq_43918552 ws17_79 ws15_79 b13.1 hps11⟩ | omega⟩)
set_option maxHeartbeats 16000000 in
theorem d_number (G : GX l s0 D tys a0 dT) (I : Bd s) {x y : Int} (p0 : rng x) (p1 : rng y) (p2 : iI s 77 ≤ 390) {T : TT} (hti : ∀ q ∈ ([77, 75, 78, 79, 81] : List Nat), T.1 q) (hta : ∀ a ∈ ([157, 158, 161] : List Nat), ∀ j, j < (bA a).2.2 → T.2 a j) : CD l s0 D A dT 196 (rmN 196) [77, 79, 80] [] T (T) [.ref (A 179), .int (Int32.ofInt x), .int (Int32.ofInt y)] s (fun o t => Bd t ∧ Fm [77, 79, 80] [] s t ∧ ∃ e, o = .inl (some (.int (Int32.ofInt e))) ∧ rng e ∧ (iI s 77 ≤ iI t 77 ∧ (iI t 77 = iI s 77 ∨ iI t 77 ≤ iI s 75) ∧ (iI s 79 ≠ 0 → iI t 79 ≠ 0) ∧ (iI t 79 = 0 → x ≤ e ∧ e ≤ y) ∧ e ≤ 100000)) := by
  refine cd_of G (by decide) (Nat.le_of_ble_eq_true rfl) (fun Q hQ => ?_)
  have I0 := I
  show DS l s0 D A dT 196 (rmN 196) [77, 79, 80] [] (T) Q (T) 0 [(0, .ref (A 179)), (1, .int (Int32.ofInt x)), (2, .int (Int32.ofInt y))] [] s
  have F : Fm [77, 79, 80] [] s s := fm_rf _ _ s
  have b1 := bi_77 I
  have b2 := bi_75 I
  have b3 := bi_79 I
  have L35 : ∀ (n : Nat) (t : PS) (xv yv bv vv : Int), Bd t → Fm [77, 79, 80] [] s t → (iI s 77 ≤ iI t 77 ∧ (iI t 77 = iI s 77 ∨ iI t 77 ≤ iI s 75) ∧ iI t 75 = iI s 75 ∧ (iI s 79 ≠ 0 → iI t 79 ≠ 0) ∧ xv = x ∧ yv = y ∧ (0 ≤ bv ∧ bv ≤ 400) ∧ rng vv ∧ vv ≤ 100000) → (iI t 75 - iI t 77 : Int).toNat < n → (∀ (t' : PS) (xv' yv' bv' vv' : Int), Bd t' → Fm [77, 79, 80] [] s t' → (iI s 77 ≤ iI t' 77 ∧ (iI t' 77 = iI s 77 ∨ iI t' 77 ≤ iI s 75) ∧ iI t' 75 = iI s 75 ∧ (iI s 79 ≠ 0 → iI t' 79 ≠ 0) ∧ xv' = x ∧ yv' = y ∧ (0 ≤ bv' ∧ bv' ≤ 400) ∧ rng vv' ∧ vv' ≤ 100000) → DS l s0 D A dT 196 (rmN 196) [77, 79, 80] [] (T) Q (T) 97 [(0, .ref (A 179)), (1, .int (Int32.ofInt xv')), (2, .int (Int32.ofInt yv')), (3, .int (Int32.ofInt bv')), (4, .int (Int32.ofInt vv'))] [] t') → DS l s0 D A dT 196 (rmN 196) [77, 79, 80] [] (T) Q (T) 35 [(0, .ref (A 179)), (1, .int (Int32.ofInt xv)), (2, .int (Int32.ofInt yv)), (3, .int (Int32.ofInt bv)), (4, .int (Int32.ofInt vv))] [] t := by
    intro n
    induction n with
    | zero =>
      intro t xv yv bv vv I F hi hm kx
      exact absurd hm (Nat.not_lt_zero _)
    | succ n ih =>
      intro t xv yv bv vv I F hi hm kx
      have b1001 := bi_77 I
      have b1002 := bi_75 I
      have b1003 := bi_79 I
      refine d_lift (fun k ws X h => z_aload_n X (x := A 179) rfl (List.Mem.head _) h) (d_lift (fun k ws X h => z_aload_n X (x := A 179) rfl (List.Mem.head _) h) (d_getI 179 rfl (by decide) rfl rfl (hti 77 (by decide)) ?_))
      have b1004 := bi_77 I
      refine d_callV 179 (As := [.int (Int32.ofInt (iI t 77))]) (st := []) rfl rfl (by decide) rfl (d_byteAt G I (by first | exact ⟨b1004.1, oq_5a8480eb b1004.2⟩ | omega) (fun q h => hti q ((by decide : ∀ q ∈ ([75, 81] : List Nat), q ∈ ([77, 75, 78, 79, 81] : List Nat)) q h)) (fun a h => hta a ((by decide : ∀ q ∈ ([157, 158] : List Nat), q ∈ ([157, 158, 161] : List Nat)) a h))) ⟨rfl, rfl⟩ ⟨(show 6 + 1 ≤ 8 from oq_42eed11c), (show 8 + (mNL (miB 192) + 11) + 100 ≤ 141 from oq_dc08f8ae)⟩ (Nat.le_of_ble_eq_true rfl) (by decide) (by decide) (fun ee s1005 hq => ?_) (fun vv s1005 hq => ?_)
      · obtain ⟨Is1005, Fs1005, e1006, hv, hrs1005, hps1005⟩ := hq; cases hv
      obtain ⟨Is1005, Fs1005, e1006, hv, hrs1005, hps1005⟩ := hq
      cases hv
      have Gs1005 := fm_tq F Fs1005 rfl rfl
      have ws1005_77 : iI s1005 77 = iI t 77 := fm_iq Fs1005 rfl
      have ws1005_75 : iI s1005 75 = iI t 75 := fm_iq Fs1005 rfl
      have ws1005_79 : iI s1005 79 = iI t 79 := fm_iq Fs1005 rfl
      show DS l s0 D A dT 196 (rmN 196) [77, 79, 80] [] (T) Q (T) 43 [(0, .ref (A 179)), (1, .int (Int32.ofInt xv)), (2, .int (Int32.ofInt yv)), (3, .int (Int32.ofInt bv)), (4, .int (Int32.ofInt vv))] [.int (Int32.ofInt e1006)] s1005
      refine d_callT (As := [.int (Int32.ofInt e1006)]) (st := []) rfl rfl (d_isDigit G Is1005 (by first | exact ⟨hrs1005.1, hrs1005.2⟩ | omega) (fun q h => hti q ((by decide : ∀ q ∈ ([] : List Nat), q ∈ ([77, 75, 78, 79, 81] : List Nat)) q h)) (fun a h => hta a ((by decide : ∀ q ∈ ([] : List Nat), q ∈ ([157, 158, 161] : List Nat)) a h))) ⟨rfl, rfl⟩ ⟨(show 6 + 1 ≤ 8 from oq_42eed11c), (show 8 + (mNL (miB 195) + 11) + 100 ≤ 141 from oq_4c2c9485)⟩ (Nat.le_of_ble_eq_true rfl) (by decide) (by decide) (fun ee s1007 hq => ?_) (fun vv s1007 hq => ?_)
      · obtain ⟨Is1007, Fs1007, e1008, hv, hrs1007, hps1007⟩ := hq; cases hv
      obtain ⟨Is1007, Fs1007, e1008, hv, hrs1007, hps1007⟩ := hq
      cases hv
      have Gs1007 := fm_tq Gs1005 Fs1007 rfl rfl
      have ws1007_77 : iI s1007 77 = iI s1005 77 := fm_iq Fs1007 rfl
      have ws1007_75 : iI s1007 75 = iI s1005 75 := fm_iq Fs1007 rfl
      have ws1007_79 : iI s1007 79 = iI s1005 79 := fm_iq Fs1007 rfl
      show DS l s0 D A dT 196 (rmN 196) [77, 79, 80] [] (T) Q (T) 46 [(0, .ref (A 179)), (1, .int (Int32.ofInt xv)), (2, .int (Int32.ofInt yv)), (3, .int (Int32.ofInt bv)), (4, .int (Int32.ofInt vv))] [.int (Int32.ofInt e1008)] s1007
      refine d_br (bo_eq _ _) bx_eq (fun k ws X h1 h2 => z_if_eq X (t := 97) rfl (by decide) hrs1007 h1 h2) (fun g1009 => ?_) (fun g1009 => ?_)
      ·
        refine d_lvs (lv := [(0, .ref (A 179)), (1, .int (Int32.ofInt xv)), (2, .int (Int32.ofInt yv)), (3, .int (Int32.ofInt bv)), (4, .int (Int32.ofInt vv))]) (List.forall_mem_cons.mpr ⟨(List.Mem.head _), (List.forall_mem_cons.mpr ⟨(List.Mem.tail _ (List.Mem.head _)), (List.forall_mem_cons.mpr ⟨(List.Mem.tail _ (List.Mem.tail _ (List.Mem.head _))), (List.forall_mem_cons.mpr ⟨(List.Mem.tail _ (List.Mem.tail _ (List.Mem.tail _ (List.Mem.head _)))), (List.forall_mem_cons.mpr ⟨(List.Mem.tail _ (List.Mem.tail _ (List.Mem.tail _ (List.Mem.tail _ (List.Mem.head _))))), (fun q h => absurd h List.not_mem_nil)⟩)⟩)⟩)⟩)⟩) ?_
        exact kx _ xv yv bv vv Is1007 Gs1007 (by first | exact ⟨oq_2954f754 ws1007_77 ws1005_77 hi.1, oq_9d983156 ws1007_77 ws1005_77 hi.2.1 hi.1, oq_d0d2714e ws1007_75 hi.2.2.1 ws1005_75, oq_c694edf3 ws1007_79 ws1005_79 b1003.1 hi.2.2.2.1 b3.1, hi.2.2.2.2.1, hi.2.2.2.2.2.1, And.intro (hi.2.2.2.2.2.2.1.1) (hi.2.2.2.2.2.2.1.2), And.intro (hi.2.2.2.2.2.2.2.1.1) (hi.2.2.2.2.2.2.2.1.2), hi.2.2.2.2.2.2.2.2⟩ | omega)
      ·
        refine d_lift (fun k ws X h => z_bipush X rfl h) (d_lift (fun k ws X h => z_load X (x := vv) rfl (List.Mem.tail _ (List.Mem.tail _ (List.Mem.tail _ (List.Mem.tail _ (List.Mem.head _))))) h) (d_lift (fun k ws X h => z_mul X rfl h) (d_lift (fun k ws X h => z_aload_n X (x := A 179) rfl (List.Mem.head _) h) (d_lift (fun k ws X h => z_aload_n X (x := A 179) rfl (List.Mem.head _) h) (d_getI 179 rfl (by decide) rfl rfl (hti 77 (by decide)) ?_)))))
        have b1010 := bi_77 Is1007
        refine d_callV 179 (As := [.int (Int32.ofInt (iI s1007 77))]) (st := [.int (Int32.ofInt (10 * vv))]) rfl rfl (by decide) rfl (d_byteAt G Is1007 (by first | exact ⟨b1010.1, oq_5a8480eb b1010.2⟩ | omega) (fun q h => hti q ((by decide : ∀ q ∈ ([75, 81] : List Nat), q ∈ ([77, 75, 78, 79, 81] : List Nat)) q h)) (fun a h => hta a ((by decide : ∀ q ∈ ([157, 158] : List Nat), q ∈ ([157, 158, 161] : List Nat)) a h))) ⟨rfl, rfl⟩ ⟨(show 6 + 1 ≤ 8 from oq_42eed11c), (show 8 + (mNL (miB 192) + 11) + 100 ≤ 141 from oq_dc08f8ae)⟩ (Nat.le_of_ble_eq_true rfl) (by decide) (by decide) (fun ee s1011 hq => ?_) (fun vv s1011 hq => ?_)
        · obtain ⟨Is1011, Fs1011, e1012, hv, hrs1011, hps1011⟩ := hq; cases hv
        obtain ⟨Is1011, Fs1011, e1012, hv, hrs1011, hps1011⟩ := hq
        cases hv
        have Gs1011 := fm_tq Gs1007 Fs1011 rfl rfl
        have ws1011_77 : iI s1011 77 = iI s1007 77 := fm_iq Fs1011 rfl
        have ws1011_75 : iI s1011 75 = iI s1007 75 := fm_iq Fs1011 rfl
        have ws1011_79 : iI s1011 79 = iI s1007 79 := fm_iq Fs1011 rfl
        show DS l s0 D A dT 196 (rmN 196) [77, 79, 80] [] (T) Q (T) 62 [(0, .ref (A 179)), (1, .int (Int32.ofInt xv)), (2, .int (Int32.ofInt yv)), (3, .int (Int32.ofInt bv)), (4, .int (Int32.ofInt vv))] [.int (Int32.ofInt e1012), .int (Int32.ofInt (10 * vv))] s1011
        refine d_lift (fun k ws X h => z_add X rfl h) (d_lift (fun k ws X h => z_bipush X rfl h) (d_lift (fun k ws X h => z_sub X rfl h) (d_any (fun y1013 hy1013 => ?_))))
        refine d_lift (fun k ws X h => z_store X (lv' := [(4, .int (Int32.ofInt y1013)), (0, .ref (A 179)), (1, .int (Int32.ofInt xv)), (2, .int (Int32.ofInt yv)), (3, .int (Int32.ofInt bv))]) rfl (by decide) (fun _ h => h) h) (d_lift (fun k ws X h => z_load X (x := y1013) rfl (List.Mem.head _) h) (d_lift (fun k ws X h => z_ldc X rfl h) (d_br (bo_le _ _) bx_le (fun k ws X h1 h2 => z_icmp_le X (t := 80) rfl (by decide) hy1013 (by decide) h1 h2) (fun g1014 => ?_) (fun g1014 => ?_))))
        ·
          refine d_lift (fun k ws X h => z_load X (x := y1013) rfl (List.Mem.head _) h) (d_lift (fun k ws X h => z_store X (lv' := [(4, .int (Int32.ofInt y1013)), (0, .ref (A 179)), (1, .int (Int32.ofInt xv)), (2, .int (Int32.ofInt yv)), (3, .int (Int32.ofInt bv))]) rfl (by decide) (fun _ h => h) h) (d_lift (fun k ws X h => z_aload_n X (x := A 179) rfl (List.Mem.tail _ (List.Mem.head _)) h) (d_lift (fun k ws X h => w_dup X.1 (ax_d X (show cdA 196 85 = some (.dup, 1, 0, 0, 0) from rfl)) rfl h) (d_getI 179 rfl (by decide) rfl rfl (hti 77 (by decide)) ?_))))
          have b1015 := bi_77 Is1011
          refine d_lift (fun k ws X h => z_const X rfl h) (d_lift (fun k ws X h => z_add X rfl h) (d_putI 179 rfl (by decide) rfl rfl (by decide) rfl rfl rfl (show 77 ∈ _ by decide) (show (0 : Int) ≤ ((iI s1011 77) + 1) ∧ ((iI s1011 77) + 1) ≤ 400 by first | exact ⟨oq_54f49eb5 b1015.1, oq_f45fb0af ws1011_77 g1009 ws1007_77 hps1007 ws1005_77 hps1005 b1002.2⟩ | omega) ⟨by first | exact oq_74de1e16 b1015.1 | omega, by first | exact oq_964ce197 b1015.2 | omega⟩ (d_mono (T' := T) (fun _ h => Or.inr h) (fun _ _ h => h) (ds_gen (fun s1016 hs1016 => ?_)))))
          have Is1016 : Bd s1016 := eqB hs1016 (bd_I Is1011 (show (0 : Int) ≤ ((iI s1011 77) + 1) ∧ ((iI s1011 77) + 1) ≤ 400 by first | exact ⟨oq_54f49eb5 b1015.1, oq_f45fb0af ws1011_77 g1009 ws1007_77 hps1007 ws1005_77 hps1005 b1002.2⟩ | omega) ⟨by first | exact oq_74de1e16 b1015.1 | omega, by first | exact oq_964ce197 b1015.2 | omega⟩)
          have Fs1016 := eqF hs1016 (fm_I Gs1011 (inl_ok (a := 77) rfl))
          have vs1016 : iI s1016 77 = ((iI s1011 77) + 1) := eqI hs1016 (iI_u ⟨by first | exact oq_74de1e16 b1015.1 | omega, by first | exact oq_964ce197 b1015.2 | omega⟩)
          have ws1016_75 : iI s1016 75 = iI s1011 75 := eqI hs1016 rfl
          have ws1016_79 : iI s1016 79 = iI s1011 79 := eqI hs1016 rfl
          refine d_lift (fun k ws X h => z_goto X (t := 35) rfl (by decide) h) (d_lvs (lv := [(0, .ref (A 179)), (1, .int (Int32.ofInt xv)), (2, .int (Int32.ofInt yv)), (3, .int (Int32.ofInt bv)), (4, .int (Int32.ofInt y1013))]) (List.forall_mem_cons.mpr ⟨(List.Mem.tail _ (List.Mem.head _)), (List.forall_mem_cons.mpr ⟨(List.Mem.tail _ (List.Mem.tail _ (List.Mem.head _))), (List.forall_mem_cons.mpr ⟨(List.Mem.tail _ (List.Mem.tail _ (List.Mem.tail _ (List.Mem.head _)))), (List.forall_mem_cons.mpr ⟨(List.Mem.tail _ (List.Mem.tail _ (List.Mem.tail _ (List.Mem.tail _ (List.Mem.head _))))), (List.forall_mem_cons.mpr ⟨(List.Mem.head _), (fun q h => absurd h List.not_mem_nil)⟩)⟩)⟩)⟩)⟩) ?_)
          exact ih _ xv yv bv y1013 Is1016 Fs1016 (by first | exact ⟨oq_09a0992e vs1016 hi.1 ws1011_77 ws1005_77 ws1007_77, oq_f92305f6 vs1016 ws1011_77 hps1011 g1009 ws1007_75 ws1007_77 hps1007 ws1005_75 ws1005_77 hps1005 hi.2.2.1, oq_b4d295d9 ws1016_75 hi.2.2.1 ws1011_75 ws1007_75 ws1005_75, oq_3bb1476c ws1016_79 ws1011_79 ws1007_79 ws1005_79 b1003.1 hi.2.2.2.1 b3.1, hi.2.2.2.2.1, hi.2.2.2.2.2.1, And.intro (hi.2.2.2.2.2.2.1.1) (hi.2.2.2.2.2.2.1.2), And.intro (hy1013.1) (hy1013.2), g1014⟩ | omega) (by first | exact qk_me hm (oq_7fe4a191 ws1016_75 vs1016 ws1011_75 ws1011_77 ws1007_75 ws1007_77 ws1005_75 ws1005_77) (oq_ff13add5 g1009 hps1007 hps1005) | omega) kx
        ·
          refine d_lift (fun k ws X h => z_ldc X rfl h) (d_lift (fun k ws X h => z_goto X (t := 82) rfl (by decide) h) (d_lift (fun k ws X h => z_store X (lv' := [(4, .int (Int32.ofInt 100000)), (0, .ref (A 179)), (1, .int (Int32.ofInt xv)), (2, .int (Int32.ofInt yv)), (3, .int (Int32.ofInt bv))]) rfl (by decide) (fun _ h => h) h) (d_lift (fun k ws X h => z_aload_n X (x := A 179) rfl (List.Mem.tail _ (List.Mem.head _)) h) (d_lift (fun k ws X h => w_dup X.1 (ax_d X (show cdA 196 85 = some (.dup, 1, 0, 0, 0) from rfl)) rfl h) (d_getI 179 rfl (by decide) rfl rfl (hti 77 (by decide)) ?_)))))
          have b1017 := bi_77 Is1011
          refine d_lift (fun k ws X h => z_const X rfl h) (d_lift (fun k ws X h => z_add X rfl h) (d_putI 179 rfl (by decide) rfl rfl (by decide) rfl rfl rfl (show 77 ∈ _ by decide) (show (0 : Int) ≤ ((iI s1011 77) + 1) ∧ ((iI s1011 77) + 1) ≤ 400 by first | exact ⟨oq_54f49eb5 b1017.1, oq_f45fb0af ws1011_77 g1009 ws1007_77 hps1007 ws1005_77 hps1005 b1002.2⟩ | omega) ⟨by first | exact oq_74de1e16 b1017.1 | omega, by first | exact oq_964ce197 b1017.2 | omega⟩ (d_mono (T' := T) (fun _ h => Or.inr h) (fun _ _ h => h) (ds_gen (fun s1018 hs1018 => ?_)))))
          have Is1018 : Bd s1018 := eqB hs1018 (bd_I Is1011 (show (0 : Int) ≤ ((iI s1011 77) + 1) ∧ ((iI s1011 77) + 1) ≤ 400 by first | exact ⟨oq_54f49eb5 b1017.1, oq_f45fb0af ws1011_77 g1009 ws1007_77 hps1007 ws1005_77 hps1005 b1002.2⟩ | omega) ⟨by first | exact oq_74de1e16 b1017.1 | omega, by first | exact oq_964ce197 b1017.2 | omega⟩)
          have Fs1018 := eqF hs1018 (fm_I Gs1011 (inl_ok (a := 77) rfl))
          have vs1018 : iI s1018 77 = ((iI s1011 77) + 1) := eqI hs1018 (iI_u ⟨by first | exact oq_74de1e16 b1017.1 | omega, by first | exact oq_964ce197 b1017.2 | omega⟩)
          have ws1018_75 : iI s1018 75 = iI s1011 75 := eqI hs1018 rfl
          have ws1018_79 : iI s1018 79 = iI s1011 79 := eqI hs1018 rfl
          refine d_lift (fun k ws X h => z_goto X (t := 35) rfl (by decide) h) (d_lvs (lv := [(0, .ref (A 179)), (1, .int (Int32.ofInt xv)), (2, .int (Int32.ofInt yv)), (3, .int (Int32.ofInt bv)), (4, .int (Int32.ofInt 100000))]) (List.forall_mem_cons.mpr ⟨(List.Mem.tail _ (List.Mem.head _)), (List.forall_mem_cons.mpr ⟨(List.Mem.tail _ (List.Mem.tail _ (List.Mem.head _))), (List.forall_mem_cons.mpr ⟨(List.Mem.tail _ (List.Mem.tail _ (List.Mem.tail _ (List.Mem.head _)))), (List.forall_mem_cons.mpr ⟨(List.Mem.tail _ (List.Mem.tail _ (List.Mem.tail _ (List.Mem.tail _ (List.Mem.head _))))), (List.forall_mem_cons.mpr ⟨(List.Mem.head _), (fun q h => absurd h List.not_mem_nil)⟩)⟩)⟩)⟩)⟩) ?_)
          exact ih _ xv yv bv 100000 Is1018 Fs1018 (by first | exact ⟨oq_09a0992e vs1018 hi.1 ws1011_77 ws1005_77 ws1007_77, oq_f92305f6 vs1018 ws1011_77 hps1011 g1009 ws1007_75 ws1007_77 hps1007 ws1005_75 ws1005_77 hps1005 hi.2.2.1, oq_b4d295d9 ws1018_75 hi.2.2.1 ws1011_75 ws1007_75 ws1005_75, oq_3bb1476c ws1018_79 ws1011_79 ws1007_79 ws1005_79 b1003.1 hi.2.2.2.1 b3.1, hi.2.2.2.2.1, hi.2.2.2.2.2.1, And.intro (hi.2.2.2.2.2.2.1.1) (hi.2.2.2.2.2.2.1.2), And.intro (by decide) (by decide), by decide⟩ | omega) (by first | exact qk_me hm (oq_7fe4a191 ws1018_75 vs1018 ws1011_75 ws1011_77 ws1007_75 ws1007_77 ws1005_75 ws1005_77) (oq_ff13add5 g1009 hps1007 hps1005) | omega) kx
  refine d_lift (fun k ws X h => z_aload_n X (x := A 179) rfl (List.Mem.head _) h) (d_callV 179 (As := []) (st := []) rfl rfl (by decide) rfl (d_blanks G I (by first | exact p2 | omega) (fun q h => hti q ((by decide : ∀ q ∈ ([77, 75, 78, 79, 81] : List Nat), q ∈ ([77, 75, 78, 79, 81] : List Nat)) q h)) (fun a h => hta a ((by decide : ∀ q ∈ ([157, 158, 161] : List Nat), q ∈ ([157, 158, 161] : List Nat)) a h))) ⟨rfl, rfl⟩ ⟨(show 7 + 1 ≤ 8 from oq_519c1fd2), (show 8 + (mNL (miB 193) + 11) + 121 ≤ 141 from oq_67025191)⟩ (Nat.le_of_ble_eq_true rfl) (by decide) (by decide) (fun ee s4 hq => ?_) (fun vv s4 hq => ?_))
  · obtain ⟨Is4, Fs4, hv, hps4⟩ := hq; cases hv
  obtain ⟨Is4, Fs4, hv, hps4⟩ := hq
  have hps4p := hps4.1
  cases hv
  have Gs4 := fm_tq F Fs4 rfl rfl
  have b6 := bi_77 Is4
  have ws4_75 : iI s4 75 = iI s 75 := fm_iq Fs4 rfl
  have ws4_79 : iI s4 79 = iI s 79 := fm_iq Fs4 rfl
  show DS l s0 D A dT 196 (rmN 196) [77, 79, 80] [] (T) Q (T) 4 [(0, .ref (A 179)), (1, .int (Int32.ofInt x)), (2, .int (Int32.ofInt y))] [] s4
  refine d_lift (fun k ws X h => z_aload_n X (x := A 179) rfl (List.Mem.head _) h) (d_getI 179 rfl (by decide) rfl rfl (hti 77 (by decide)) ?_)
  have b7 := bi_77 Is4
  refine d_lift (fun k ws X h => z_store_n X (lv' := [(3, .int (Int32.ofInt (iI s4 77))), (0, .ref (A 179)), (1, .int (Int32.ofInt x)), (2, .int (Int32.ofInt y))]) rfl (by decide) (fun _ h => h) h) (d_lift (fun k ws X h => z_const X rfl h) (d_lift (fun k ws X h => z_store X (lv' := [(4, .int (Int32.ofInt 0)), (3, .int (Int32.ofInt (iI s4 77))), (0, .ref (A 179)), (1, .int (Int32.ofInt x)), (2, .int (Int32.ofInt y))]) rfl (by decide) (fun _ h => h) h) (d_lift (fun k ws X h => z_aload_n X (x := A 179) rfl (List.Mem.tail _ (List.Mem.tail _ (List.Mem.head _))) h) (d_lift (fun k ws X h => z_aload_n X (x := A 179) rfl (List.Mem.tail _ (List.Mem.tail _ (List.Mem.head _))) h) (d_getI 179 rfl (by decide) rfl rfl (hti 77 (by decide)) ?_)))))
  have b8 := bi_77 Is4
  refine d_callV 179 (As := [.int (Int32.ofInt (iI s4 77))]) (st := []) rfl rfl (by decide) rfl (d_byteAt G Is4 (by first | exact ⟨b8.1, oq_5a8480eb b8.2⟩ | omega) (fun q h => hti q ((by decide : ∀ q ∈ ([75, 81] : List Nat), q ∈ ([77, 75, 78, 79, 81] : List Nat)) q h)) (fun a h => hta a ((by decide : ∀ q ∈ ([157, 158] : List Nat), q ∈ ([157, 158, 161] : List Nat)) a h))) ⟨rfl, rfl⟩ ⟨(show 6 + 1 ≤ 8 from oq_42eed11c), (show 8 + (mNL (miB 192) + 11) + 100 ≤ 141 from oq_dc08f8ae)⟩ (Nat.le_of_ble_eq_true rfl) (by decide) (by decide) (fun ee s9 hq => ?_) (fun vv s9 hq => ?_)
  · obtain ⟨Is9, Fs9, e10, hv, hrs9, hps9⟩ := hq; cases hv
  obtain ⟨Is9, Fs9, e10, hv, hrs9, hps9⟩ := hq
  cases hv
  have Gs9 := fm_tq Gs4 Fs9 rfl rfl
  have ws9_77 : iI s9 77 = iI s4 77 := fm_iq Fs9 rfl
  have ws9_75 : iI s9 75 = iI s4 75 := fm_iq Fs9 rfl
  have ws9_79 : iI s9 79 = iI s4 79 := fm_iq Fs9 rfl
  show DS l s0 D A dT 196 (rmN 196) [77, 79, 80] [] (T) Q (T) 20 [(4, .int (Int32.ofInt 0)), (3, .int (Int32.ofInt (iI s4 77))), (0, .ref (A 179)), (1, .int (Int32.ofInt x)), (2, .int (Int32.ofInt y))] [.int (Int32.ofInt e10)] s9
  refine d_callT (As := [.int (Int32.ofInt e10)]) (st := []) rfl rfl (d_isDigit G Is9 (by first | exact ⟨hrs9.1, hrs9.2⟩ | omega) (fun q h => hti q ((by decide : ∀ q ∈ ([] : List Nat), q ∈ ([77, 75, 78, 79, 81] : List Nat)) q h)) (fun a h => hta a ((by decide : ∀ q ∈ ([] : List Nat), q ∈ ([157, 158, 161] : List Nat)) a h))) ⟨rfl, rfl⟩ ⟨(show 6 + 1 ≤ 8 from oq_42eed11c), (show 8 + (mNL (miB 195) + 11) + 100 ≤ 141 from oq_4c2c9485)⟩ (Nat.le_of_ble_eq_true rfl) (by decide) (by decide) (fun ee s11 hq => ?_) (fun vv s11 hq => ?_)
  · obtain ⟨Is11, Fs11, e12, hv, hrs11, hps11⟩ := hq; cases hv
  obtain ⟨Is11, Fs11, e12, hv, hrs11, hps11⟩ := hq
  cases hv
  have Gs11 := fm_tq Gs9 Fs11 rfl rfl
  have ws11_77 : iI s11 77 = iI s9 77 := fm_iq Fs11 rfl
  have ws11_75 : iI s11 75 = iI s9 75 := fm_iq Fs11 rfl
  have ws11_79 : iI s11 79 = iI s9 79 := fm_iq Fs11 rfl
  show DS l s0 D A dT 196 (rmN 196) [77, 79, 80] [] (T) Q (T) 23 [(4, .int (Int32.ofInt 0)), (3, .int (Int32.ofInt (iI s4 77))), (0, .ref (A 179)), (1, .int (Int32.ofInt x)), (2, .int (Int32.ofInt y))] [.int (Int32.ofInt e12)] s11
  refine d_br (bo_ne _ _) bx_ne (fun k ws X h1 h2 => z_if_ne X (t := 35) rfl (by decide) hrs11 h1 h2) (fun g13 => ?_) (fun g13 => ?_)
  ·
    refine d_lvs (lv := [(0, .ref (A 179)), (1, .int (Int32.ofInt x)), (2, .int (Int32.ofInt y)), (3, .int (Int32.ofInt (iI s4 77))), (4, .int (Int32.ofInt 0))]) (List.forall_mem_cons.mpr ⟨(List.Mem.tail _ (List.Mem.tail _ (List.Mem.head _))), (List.forall_mem_cons.mpr ⟨(List.Mem.tail _ (List.Mem.tail _ (List.Mem.tail _ (List.Mem.head _)))), (List.forall_mem_cons.mpr ⟨(List.Mem.tail _ (List.Mem.tail _ (List.Mem.tail _ (List.Mem.tail _ (List.Mem.head _))))), (List.forall_mem_cons.mpr ⟨(List.Mem.tail _ (List.Mem.head _)), (List.forall_mem_cons.mpr ⟨(List.Mem.head _), (fun q h => absurd h List.not_mem_nil)⟩)⟩)⟩)⟩)⟩) (L35 ((iI s11 75 - iI s11 77 : Int).toNat + 1) s11 x y (iI s4 77) 0 Is11 Gs11 (by first | exact ⟨oq_2954f754 ws11_77 ws9_77 hps4.1, oq_821adba3 g13 ws11_77 hps11 ws9_77 hps9 ws4_75, oq_d0d2714e ws11_75 ws4_75 ws9_75, oq_00dd204b ws11_79 ws9_79 ws4_79 b3.1, by decide, by decide, And.intro (b8.1) (b8.2), And.intro (by decide) (by decide), by decide⟩ | omega) (Nat.lt_succ_self _) ?_)
    intro s14 x15 x16 x17 x18 Is14 Fs14 hs14
    have b19 := bi_77 Is14
    have b20 := bi_75 Is14
    have b21 := bi_79 Is14
    refine d_lift (fun k ws X h => z_load X (x := x18) rfl (List.Mem.tail _ (List.Mem.tail _ (List.Mem.tail _ (List.Mem.tail _ (List.Mem.head _))))) h) (d_lift (fun k ws X h => z_load_n X (x := x15) rfl (List.Mem.tail _ (List.Mem.head _)) h) (d_lift (fun k ws X h => z_load_n X (x := x16) rfl (List.Mem.tail _ (List.Mem.tail _ (List.Mem.head _))) h) (d_callT (As := [.int (Int32.ofInt x18), .int (Int32.ofInt x15), .int (Int32.ofInt x16)]) (st := []) rfl rfl (d_in G Is14 (by first | exact ⟨hs14.2.2.2.2.2.2.2.1.1, hs14.2.2.2.2.2.2.2.1.2⟩ | omega) (by first | exact ⟨oq_6bc29d15 hs14.2.2.2.2.1 p0.1, oq_60a194f9 hs14.2.2.2.2.1 p0.2⟩ | omega) (by first | exact ⟨oq_6bc29d15 hs14.2.2.2.2.2.1 p1.1, oq_60a194f9 hs14.2.2.2.2.2.1 p1.2⟩ | omega) (fun q h => hti q ((by decide : ∀ q ∈ ([] : List Nat), q ∈ ([77, 75, 78, 79, 81] : List Nat)) q h)) (fun a h => hta a ((by decide : ∀ q ∈ ([] : List Nat), q ∈ ([157, 158, 161] : List Nat)) a h))) ⟨rfl, rfl⟩ ⟨(show 6 + 1 ≤ 8 from oq_42eed11c), (show 8 + (mNL (miB 188) + 11) + 100 ≤ 141 from oq_420db89e)⟩ (Nat.le_of_ble_eq_true rfl) (by decide) (by decide) (fun ee s22 hq => ?_) (fun vv s22 hq => ?_))))
    · obtain ⟨Is22, Fs22, e23, hv, hrs22, hps22⟩ := hq; cases hv
    obtain ⟨Is22, Fs22, e23, hv, hrs22, hps22⟩ := hq
    cases hv
    have Gs22 := fm_tq Fs14 Fs22 rfl rfl
    have ws22_77 : iI s22 77 = iI s14 77 := fm_iq Fs22 rfl
    have ws22_75 : iI s22 75 = iI s14 75 := fm_iq Fs22 rfl
    have ws22_79 : iI s22 79 = iI s14 79 := fm_iq Fs22 rfl
    show DS l s0 D A dT 196 (rmN 196) [77, 79, 80] [] (T) Q (T) 104 [(0, .ref (A 179)), (1, .int (Int32.ofInt x15)), (2, .int (Int32.ofInt x16)), (3, .int (Int32.ofInt x17)), (4, .int (Int32.ofInt x18))] [.int (Int32.ofInt e23)] s22
    refine d_br (bo_ne _ _) bx_ne (fun k ws X h1 h2 => z_if_ne X (t := 113) rfl (by decide) hrs22 h1 h2) (fun g24 => ?_) (fun g24 => ?_)
    ·
      refine d_lift (fun k ws X h => z_load X (x := x18) rfl (List.Mem.tail _ (List.Mem.tail _ (List.Mem.tail _ (List.Mem.tail _ (List.Mem.head _))))) h) ?_
      exact d_iret rfl rfl (Or.inl rfl) rfl (fun _ h => h) (hQ _ _ ⟨Is22, Gs22, x18, rfl, ⟨by first | exact hs14.2.2.2.2.2.2.2.1.1 | omega, by first | exact hs14.2.2.2.2.2.2.2.1.2 | omega⟩, by first | exact ⟨oq_9272904e ws22_77 hs14.1, oq_82a8716b ws22_77 hs14.2.1 g13 hps11 hps9 ws4_75 hps4.1, oq_88e312fc ws22_79 b21.1 hs14.2.2.2.1 b3.1, oq_9d364511 g24 hps22 hs14.2.2.2.2.2.1 hs14.2.2.2.2.1, hs14.2.2.2.2.2.2.2.2⟩ | omega⟩)
    ·
      refine d_lift (fun k ws X h => z_aload_n X (x := A 179) rfl (List.Mem.head _) h) (d_lift (fun k ws X h => z_const X rfl h) (d_lift (fun k ws X h => z_load_n X (x := x17) rfl (List.Mem.tail _ (List.Mem.tail _ (List.Mem.tail _ (List.Mem.head _)))) h) (d_callV 179 (As := [.int (Int32.ofInt 2), .int (Int32.ofInt x17)]) (st := []) rfl rfl (by decide) rfl (d_wrong G Is22 (by first | exact ⟨by decide, by decide⟩ | omega) (by first | exact ⟨oq_ca54ea22 hs14.2.2.2.2.2.2.1.1, hs14.2.2.2.2.2.2.1.2⟩ | omega) (fun q h => hti q ((by decide : ∀ q ∈ ([79] : List Nat), q ∈ ([77, 75, 78, 79, 81] : List Nat)) q h)) (fun a h => hta a ((by decide : ∀ q ∈ ([] : List Nat), q ∈ ([157, 158, 161] : List Nat)) a h))) ⟨rfl, rfl⟩ ⟨(show 6 + 1 ≤ 8 from oq_42eed11c), (show 8 + (mNL (miB 194) + 11) + 100 ≤ 141 from oq_420db89e)⟩ (Nat.le_of_ble_eq_true rfl) (by decide) (by decide) (fun ee s25 hq => ?_) (fun vv s25 hq => ?_))))
      · obtain ⟨Is25, Fs25, hv, hps25⟩ := hq; cases hv
      obtain ⟨Is25, Fs25, hv, hps25⟩ := hq
      cases hv
      have Gs25 := fm_tq Gs22 Fs25 rfl rfl
      have ws25_77 : iI s25 77 = iI s22 77 := fm_iq Fs25 rfl
      have ws25_75 : iI s25 75 = iI s22 75 := fm_iq Fs25 rfl
      have b27 := bi_79 Is25
      show DS l s0 D A dT 196 (rmN 196) [77, 79, 80] [] (T) Q (T) 113 [(0, .ref (A 179)), (1, .int (Int32.ofInt x15)), (2, .int (Int32.ofInt x16)), (3, .int (Int32.ofInt x17)), (4, .int (Int32.ofInt x18))] [] s25
      refine d_lift (fun k ws X h => z_load X (x := x18) rfl (List.Mem.tail _ (List.Mem.tail _ (List.Mem.tail _ (List.Mem.tail _ (List.Mem.head _))))) h) ?_
      exact d_iret rfl rfl (Or.inl rfl) rfl (fun _ h => h) (hQ _ _ ⟨Is25, Gs25, x18, rfl, ⟨by first | exact hs14.2.2.2.2.2.2.2.1.1 | omega, by first | exact hs14.2.2.2.2.2.2.2.1.2 | omega⟩, by first | exact ⟨oq_2954f754 ws25_77 ws22_77 hs14.1, oq_e191e89b ws25_77 ws22_77 hs14.2.1 g13 hps11 hps9 ws4_75 hps4.1, oq_5071f1ab b27.1 hps25, oq_38faa694 b27.1 hps25, hs14.2.2.2.2.2.2.2.2⟩ | omega⟩)
  ·
    refine d_lift (fun k ws X h => z_aload_n X (x := A 179) rfl (List.Mem.tail _ (List.Mem.tail _ (List.Mem.head _))) h) (d_lift (fun k ws X h => z_const X rfl h) (d_lift (fun k ws X h => z_aload_n X (x := A 179) rfl (List.Mem.tail _ (List.Mem.tail _ (List.Mem.head _))) h) (d_getI 179 rfl (by decide) rfl rfl (hti 77 (by decide)) ?_)))
    have b28 := bi_77 Is11
    refine d_callV 179 (As := [.int (Int32.ofInt 1), .int (Int32.ofInt (iI s11 77))]) (st := []) rfl rfl (by decide) rfl (d_wrong G Is11 (by first | exact ⟨by decide, by decide⟩ | omega) (by first | exact ⟨oq_ca54ea22 b28.1, b28.2⟩ | omega) (fun q h => hti q ((by decide : ∀ q ∈ ([79] : List Nat), q ∈ ([77, 75, 78, 79, 81] : List Nat)) q h)) (fun a h => hta a ((by decide : ∀ q ∈ ([] : List Nat), q ∈ ([157, 158, 161] : List Nat)) a h))) ⟨rfl, rfl⟩ ⟨(show 6 + 1 ≤ 8 from oq_42eed11c), (show 8 + (mNL (miB 194) + 11) + 100 ≤ 141 from oq_420db89e)⟩ (Nat.le_of_ble_eq_true rfl) (by decide) (by decide) (fun ee s29 hq => ?_) (fun vv s29 hq => ?_)
    · obtain ⟨Is29, Fs29, hv, hps29⟩ := hq; cases hv
    obtain ⟨Is29, Fs29, hv, hps29⟩ := hq
    cases hv
    have Gs29 := fm_tq Gs11 Fs29 rfl rfl
    have ws29_77 : iI s29 77 = iI s11 77 := fm_iq Fs29 rfl
    have ws29_75 : iI s29 75 = iI s11 75 := fm_iq Fs29 rfl
    have b31 := bi_79 Is29
    show DS l s0 D A dT 196 (rmN 196) [77, 79, 80] [] (T) Q (T) 35 [(4, .int (Int32.ofInt 0)), (3, .int (Int32.ofInt (iI s4 77))), (0, .ref (A 179)), (1, .int (Int32.ofInt x)), (2, .int (Int32.ofInt y))] [] s29
    refine d_lvs (lv := [(0, .ref (A 179)), (1, .int (Int32.ofInt x)), (2, .int (Int32.ofInt y)), (3, .int (Int32.ofInt (iI s4 77))), (4, .int (Int32.ofInt 0))]) (List.forall_mem_cons.mpr ⟨(List.Mem.tail _ (List.Mem.tail _ (List.Mem.head _))), (List.forall_mem_cons.mpr ⟨(List.Mem.tail _ (List.Mem.tail _ (List.Mem.tail _ (List.Mem.head _)))), (List.forall_mem_cons.mpr ⟨(List.Mem.tail _ (List.Mem.tail _ (List.Mem.tail _ (List.Mem.tail _ (List.Mem.head _))))), (List.forall_mem_cons.mpr ⟨(List.Mem.tail _ (List.Mem.head _)), (List.forall_mem_cons.mpr ⟨(List.Mem.head _), (fun q h => absurd h List.not_mem_nil)⟩)⟩)⟩)⟩)⟩) (L35 ((iI s29 75 - iI s29 77 : Int).toNat + 1) s29 x y (iI s4 77) 0 Is29 Gs29 (by first | exact ⟨oq_bd4a8eb1 ws29_77 hps4.1 ws11_77 ws9_77, oq_38b7f8bb ws29_77 ws11_77 ws9_77 hps4.2 hps4.1, oq_45b593e3 ws29_75 ws4_75 ws11_75 ws9_75, oq_5071f1ab b31.1 hps29, by decide, by decide, And.intro (b8.1) (b8.2), And.intro (by decide) (by decide), by decide⟩ | omega) (Nat.lt_succ_self _) ?_)
    intro s32 x33 x34 x35 x36 Is32 Fs32 hs32
    have b37 := bi_77 Is32
    have b38 := bi_75 Is32
    have b39 := bi_79 Is32
    refine d_lift (fun k ws X h => z_load X (x := x36) rfl (List.Mem.tail _ (List.Mem.tail _ (List.Mem.tail _ (List.Mem.tail _ (List.Mem.head _))))) h) (d_lift (fun k ws X h => z_load_n X (x := x33) rfl (List.Mem.tail _ (List.Mem.head _)) h) (d_lift (fun k ws X h => z_load_n X (x := x34) rfl (List.Mem.tail _ (List.Mem.tail _ (List.Mem.head _))) h) (d_callT (As := [.int (Int32.ofInt x36), .int (Int32.ofInt x33), .int (Int32.ofInt x34)]) (st := []) rfl rfl (d_in G Is32 (by first | exact ⟨hs32.2.2.2.2.2.2.2.1.1, hs32.2.2.2.2.2.2.2.1.2⟩ | omega) (by first | exact ⟨oq_6bc29d15 hs32.2.2.2.2.1 p0.1, oq_60a194f9 hs32.2.2.2.2.1 p0.2⟩ | omega) (by first | exact ⟨oq_6bc29d15 hs32.2.2.2.2.2.1 p1.1, oq_60a194f9 hs32.2.2.2.2.2.1 p1.2⟩ | omega) (fun q h => hti q ((by decide : ∀ q ∈ ([] : List Nat), q ∈ ([77, 75, 78, 79, 81] : List Nat)) q h)) (fun a h => hta a ((by decide : ∀ q ∈ ([] : List Nat), q ∈ ([157, 158, 161] : List Nat)) a h))) ⟨rfl, rfl⟩ ⟨(show 6 + 1 ≤ 8 from oq_42eed11c), (show 8 + (mNL (miB 188) + 11) + 100 ≤ 141 from oq_420db89e)⟩ (Nat.le_of_ble_eq_true rfl) (by decide) (by decide) (fun ee s40 hq => ?_) (fun vv s40 hq => ?_))))
    · obtain ⟨Is40, Fs40, e41, hv, hrs40, hps40⟩ := hq; cases hv
    obtain ⟨Is40, Fs40, e41, hv, hrs40, hps40⟩ := hq
    cases hv
    have Gs40 := fm_tq Fs32 Fs40 rfl rfl
    have ws40_77 : iI s40 77 = iI s32 77 := fm_iq Fs40 rfl
    have ws40_75 : iI s40 75 = iI s32 75 := fm_iq Fs40 rfl
    have ws40_79 : iI s40 79 = iI s32 79 := fm_iq Fs40 rfl
    show DS l s0 D A dT 196 (rmN 196) [77, 79, 80] [] (T) Q (T) 104 [(0, .ref (A 179)), (1, .int (Int32.ofInt x33)), (2, .int (Int32.ofInt x34)), (3, .int (Int32.ofInt x35)), (4, .int (Int32.ofInt x36))] [.int (Int32.ofInt e41)] s40
    refine d_br (bo_ne _ _) bx_ne (fun k ws X h1 h2 => z_if_ne X (t := 113) rfl (by decide) hrs40 h1 h2) (fun g42 => ?_) (fun g42 => ?_)
    ·
      refine d_lift (fun k ws X h => z_load X (x := x36) rfl (List.Mem.tail _ (List.Mem.tail _ (List.Mem.tail _ (List.Mem.tail _ (List.Mem.head _))))) h) ?_
      exact d_iret rfl rfl (Or.inl rfl) rfl (fun _ h => h) (hQ _ _ ⟨Is40, Gs40, x36, rfl, ⟨by first | exact hs32.2.2.2.2.2.2.2.1.1 | omega, by first | exact hs32.2.2.2.2.2.2.2.1.2 | omega⟩, by first | exact ⟨oq_9272904e ws40_77 hs32.1, oq_8dc46605 ws40_77 hs32.2.1 hs32.1, oq_88e312fc ws40_79 b39.1 hs32.2.2.2.1 b3.1, oq_9d364511 g42 hps40 hs32.2.2.2.2.2.1 hs32.2.2.2.2.1, hs32.2.2.2.2.2.2.2.2⟩ | omega⟩)
    ·
      refine d_lift (fun k ws X h => z_aload_n X (x := A 179) rfl (List.Mem.head _) h) (d_lift (fun k ws X h => z_const X rfl h) (d_lift (fun k ws X h => z_load_n X (x := x35) rfl (List.Mem.tail _ (List.Mem.tail _ (List.Mem.tail _ (List.Mem.head _)))) h) (d_callV 179 (As := [.int (Int32.ofInt 2), .int (Int32.ofInt x35)]) (st := []) rfl rfl (by decide) rfl (d_wrong G Is40 (by first | exact ⟨by decide, by decide⟩ | omega) (by first | exact ⟨oq_ca54ea22 hs32.2.2.2.2.2.2.1.1, hs32.2.2.2.2.2.2.1.2⟩ | omega) (fun q h => hti q ((by decide : ∀ q ∈ ([79] : List Nat), q ∈ ([77, 75, 78, 79, 81] : List Nat)) q h)) (fun a h => hta a ((by decide : ∀ q ∈ ([] : List Nat), q ∈ ([157, 158, 161] : List Nat)) a h))) ⟨rfl, rfl⟩ ⟨(show 6 + 1 ≤ 8 from oq_42eed11c), (show 8 + (mNL (miB 194) + 11) + 100 ≤ 141 from oq_420db89e)⟩ (Nat.le_of_ble_eq_true rfl) (by decide) (by decide) (fun ee s43 hq => ?_) (fun vv s43 hq => ?_))))
      · obtain ⟨Is43, Fs43, hv, hps43⟩ := hq; cases hv
      obtain ⟨Is43, Fs43, hv, hps43⟩ := hq
      cases hv
      have Gs43 := fm_tq Gs40 Fs43 rfl rfl
      have ws43_77 : iI s43 77 = iI s40 77 := fm_iq Fs43 rfl
      have ws43_75 : iI s43 75 = iI s40 75 := fm_iq Fs43 rfl
      have b45 := bi_79 Is43
      show DS l s0 D A dT 196 (rmN 196) [77, 79, 80] [] (T) Q (T) 113 [(0, .ref (A 179)), (1, .int (Int32.ofInt x33)), (2, .int (Int32.ofInt x34)), (3, .int (Int32.ofInt x35)), (4, .int (Int32.ofInt x36))] [] s43
      refine d_lift (fun k ws X h => z_load X (x := x36) rfl (List.Mem.tail _ (List.Mem.tail _ (List.Mem.tail _ (List.Mem.tail _ (List.Mem.head _))))) h) ?_
      exact d_iret rfl rfl (Or.inl rfl) rfl (fun _ h => h) (hQ _ _ ⟨Is43, Gs43, x36, rfl, ⟨by first | exact hs32.2.2.2.2.2.2.2.1.1 | omega, by first | exact hs32.2.2.2.2.2.2.2.1.2 | omega⟩, by first | exact ⟨oq_2954f754 ws43_77 ws40_77 hs32.1, oq_9d983156 ws43_77 ws40_77 hs32.2.1 hs32.1, oq_5071f1ab b45.1 hps43, oq_38faa694 b45.1 hps43, hs32.2.2.2.2.2.2.2.2⟩ | omega⟩)
set_option maxHeartbeats 16000000 in
theorem d_wordHere (G : GX l s0 D tys a0 dT) (I : Bd s) (p0 : iI s 77 ≤ 390) {T : TT} (hti : ∀ q ∈ ([77, 75, 78, 79, 81] : List Nat), T.1 q) (hta : ∀ a ∈ ([157, 158, 161] : List Nat), ∀ j, j < (bA a).2.2 → T.2 a j) : CD l s0 D A dT 201 (rmN 201) [77] [] T (T) [.ref (A 179)] s (fun o t => Bd t ∧ Fm [77] [] s t ∧ ∃ e, o = .inl (some (.int (Int32.ofInt e))) ∧ rng e ∧ (iI s 77 ≤ iI t 77 ∧ (iI t 77 = iI s 77 ∨ iI t 77 ≤ iI s 75) ∧ (e ≠ 0 → iI t 77 < iI s 75))) := by
  refine cd_of G (by decide) (Nat.le_of_ble_eq_true rfl) (fun Q hQ => ?_)
  have I0 := I
  show DS l s0 D A dT 201 (rmN 201) [77] [] (T) Q (T) 0 [(0, .ref (A 179))] [] s
  have F : Fm [77] [] s s := fm_rf _ _ s
  have b1 := bi_77 I
  have b2 := bi_75 I
  have L8 : ∀ (n : Nat) (t : PS) (vv nv : Int), Bd t → Fm [77] [] s t → (iI s 77 ≤ iI t 77 ∧ (iI t 77 = iI s 77 ∨ iI t 77 ≤ iI s 75) ∧ iI t 75 = iI s 75 ∧ rng vv ∧ 0 ≤ nv ∧ nv ≤ 200 ∧ (nv = 0 → vv = 0) ∧ (1 ≤ nv → iI t 77 < iI s 75)) → (200 - nv : Int).toNat < n → (∀ (t' : PS) (vv' nv' : Int), Bd t' → Fm [77] [] s t' → (iI s 77 ≤ iI t' 77 ∧ (iI t' 77 = iI s 77 ∨ iI t' 77 ≤ iI s 75) ∧ iI t' 75 = iI s 75 ∧ rng vv' ∧ 0 ≤ nv' ∧ nv' ≤ 200 ∧ (nv' = 0 → vv' = 0) ∧ (1 ≤ nv' → iI t' 77 < iI s 75)) → DS l s0 D A dT 201 (rmN 201) [77] [] (T) Q (T) 75 [(0, .ref (A 179)), (1, .int (Int32.ofInt vv')), (2, .int (Int32.ofInt nv'))] [] t') → DS l s0 D A dT 201 (rmN 201) [77] [] (T) Q (T) 8 [(0, .ref (A 179)), (1, .int (Int32.ofInt vv)), (2, .int (Int32.ofInt nv))] [] t := by
    intro n
    induction n with
    | zero =>
      intro t vv nv I F hi hm kx
      exact absurd hm (Nat.not_lt_zero _)
    | succ n ih =>
      intro t vv nv I F hi hm kx
      have b1001 := bi_77 I
      have b1002 := bi_75 I
      refine d_lift (fun k ws X h => z_aload_n X (x := A 179) rfl (List.Mem.head _) h) (d_lift (fun k ws X h => z_aload_n X (x := A 179) rfl (List.Mem.head _) h) (d_getI 179 rfl (by decide) rfl rfl (hti 77 (by decide)) ?_))
      have b1003 := bi_77 I
      refine d_lift (fun k ws X h => z_load_n X (x := nv) rfl (List.Mem.tail _ (List.Mem.tail _ (List.Mem.head _))) h) (d_lift (fun k ws X h => z_add X rfl h) (d_callV 179 (As := [.int (Int32.ofInt ((iI t 77) + nv))]) (st := []) rfl rfl (by decide) rfl (d_byteAt G I (by first | exact ⟨oq_d8d6a599 hi.2.2.2.2.1 b1003.1, oq_faec2b3d hi.2.2.2.2.2.1 b1003.2⟩ | omega) (fun q h => hti q ((by decide : ∀ q ∈ ([75, 81] : List Nat), q ∈ ([77, 75, 78, 79, 81] : List Nat)) q h)) (fun a h => hta a ((by decide : ∀ q ∈ ([157, 158] : List Nat), q ∈ ([157, 158, 161] : List Nat)) a h))) ⟨rfl, rfl⟩ ⟨(show 6 + 1 ≤ 8 from oq_42eed11c), (show 8 + (mNL (miB 192) + 11) + 100 ≤ 141 from oq_dc08f8ae)⟩ (Nat.le_of_ble_eq_true rfl) (by decide) (by decide) (fun ee s1004 hq => ?_) (fun vv s1004 hq => ?_)))
      · obtain ⟨Is1004, Fs1004, e1005, hv, hrs1004, hps1004⟩ := hq; cases hv
      obtain ⟨Is1004, Fs1004, e1005, hv, hrs1004, hps1004⟩ := hq
      cases hv
      have Gs1004 := fm_tq F Fs1004 rfl rfl
      have ws1004_77 : iI s1004 77 = iI t 77 := fm_iq Fs1004 rfl
      have ws1004_75 : iI s1004 75 = iI t 75 := fm_iq Fs1004 rfl
      show DS l s0 D A dT 201 (rmN 201) [77] [] (T) Q (T) 18 [(0, .ref (A 179)), (1, .int (Int32.ofInt vv)), (2, .int (Int32.ofInt nv))] [.int (Int32.ofInt e1005)] s1004
      refine d_lift (fun k ws X h => z_bipush X rfl h) (d_br (bo_lt _ _) bx_lt (fun k ws X h1 h2 => z_icmp_lt X (t := 75) rfl (by decide) hrs1004 (by decide) h1 h2) (fun g1006 => ?_) (fun g1006 => ?_))
      ·
        refine d_lvs (lv := [(0, .ref (A 179)), (1, .int (Int32.ofInt vv)), (2, .int (Int32.ofInt nv))]) (List.forall_mem_cons.mpr ⟨(List.Mem.head _), (List.forall_mem_cons.mpr ⟨(List.Mem.tail _ (List.Mem.head _)), (List.forall_mem_cons.mpr ⟨(List.Mem.tail _ (List.Mem.tail _ (List.Mem.head _))), (fun q h => absurd h List.not_mem_nil)⟩)⟩)⟩) ?_
        exact kx _ vv nv Is1004 Gs1004 (by first | exact ⟨oq_9272904e ws1004_77 hi.1, oq_8dc46605 ws1004_77 hi.2.1 hi.1, oq_1aa5be9e ws1004_75 hi.2.2.1, And.intro (hi.2.2.2.1.1) (hi.2.2.2.1.2), hi.2.2.2.2.1, hi.2.2.2.2.2.1, hi.2.2.2.2.2.2.1, oq_64f00eb9 ws1004_77 hi.2.2.2.2.2.2.2⟩ | omega)
      ·
        refine d_lift (fun k ws X h => z_aload_n X (x := A 179) rfl (List.Mem.head _) h) (d_lift (fun k ws X h => z_aload_n X (x := A 179) rfl (List.Mem.head _) h) (d_getI 179 rfl (by decide) rfl rfl (hti 77 (by decide)) ?_))
        have b1007 := bi_77 Is1004
        refine d_lift (fun k ws X h => z_load_n X (x := nv) rfl (List.Mem.tail _ (List.Mem.tail _ (List.Mem.head _))) h) (d_lift (fun k ws X h => z_add X rfl h) (d_callV 179 (As := [.int (Int32.ofInt ((iI s1004 77) + nv))]) (st := []) rfl rfl (by decide) rfl (d_byteAt G Is1004 (by first | exact ⟨oq_d8d6a599 hi.2.2.2.2.1 b1007.1, oq_faec2b3d hi.2.2.2.2.2.1 b1007.2⟩ | omega) (fun q h => hti q ((by decide : ∀ q ∈ ([75, 81] : List Nat), q ∈ ([77, 75, 78, 79, 81] : List Nat)) q h)) (fun a h => hta a ((by decide : ∀ q ∈ ([157, 158] : List Nat), q ∈ ([157, 158, 161] : List Nat)) a h))) ⟨rfl, rfl⟩ ⟨(show 6 + 1 ≤ 8 from oq_42eed11c), (show 8 + (mNL (miB 192) + 11) + 100 ≤ 141 from oq_dc08f8ae)⟩ (Nat.le_of_ble_eq_true rfl) (by decide) (by decide) (fun ee s1008 hq => ?_) (fun vv s1008 hq => ?_)))
        · obtain ⟨Is1008, Fs1008, e1009, hv, hrs1008, hps1008⟩ := hq; cases hv
        obtain ⟨Is1008, Fs1008, e1009, hv, hrs1008, hps1008⟩ := hq
        cases hv
        have Gs1008 := fm_tq Gs1004 Fs1008 rfl rfl
        have ws1008_77 : iI s1008 77 = iI s1004 77 := fm_iq Fs1008 rfl
        have ws1008_75 : iI s1008 75 = iI s1004 75 := fm_iq Fs1008 rfl
        show DS l s0 D A dT 201 (rmN 201) [77] [] (T) Q (T) 33 [(0, .ref (A 179)), (1, .int (Int32.ofInt vv)), (2, .int (Int32.ofInt nv))] [.int (Int32.ofInt e1009)] s1008
        refine d_lift (fun k ws X h => z_bipush X rfl h) (d_br (bo_gt _ _) bx_gt (fun k ws X h1 h2 => z_icmp_gt X (t := 75) rfl (by decide) hrs1008 (by decide) h1 h2) (fun g1010 => ?_) (fun g1010 => ?_))
        ·
          refine d_lvs (lv := [(0, .ref (A 179)), (1, .int (Int32.ofInt vv)), (2, .int (Int32.ofInt nv))]) (List.forall_mem_cons.mpr ⟨(List.Mem.head _), (List.forall_mem_cons.mpr ⟨(List.Mem.tail _ (List.Mem.head _)), (List.forall_mem_cons.mpr ⟨(List.Mem.tail _ (List.Mem.tail _ (List.Mem.head _))), (fun q h => absurd h List.not_mem_nil)⟩)⟩)⟩) ?_
          exact kx _ vv nv Is1008 Gs1008 (by first | exact ⟨oq_143762c7 ws1008_77 hi.1 ws1004_77, oq_cd0949b0 g1010 ws1008_77 hps1008 ws1004_75 hi.2.2.2.2.1 hi.2.2.1, oq_d0d2714e ws1008_75 hi.2.2.1 ws1004_75, And.intro (hi.2.2.2.1.1) (hi.2.2.2.1.2), hi.2.2.2.2.1, hi.2.2.2.2.2.1, hi.2.2.2.2.2.2.1, oq_1863856d g1010 ws1008_77 hps1008 ws1004_75 hi.2.2.1⟩ | omega)
        ·
          refine d_lift (fun k ws X h => z_load_n X (x := nv) rfl (List.Mem.tail _ (List.Mem.tail _ (List.Mem.head _))) h) (d_lift (fun k ws X h => z_bipush X rfl h) (d_br (bo_ge _ _) bx_ge (fun k ws X h1 h2 => z_icmp_ge X (t := 67) rfl (by decide) ⟨by first | exact oq_fa4e5087 hi.2.2.2.2.1 | omega, by first | exact oq_52af2b96 hi.2.2.2.2.2.1 | omega⟩ (by decide) h1 h2) (fun g1011 => ?_) (fun g1011 => ?_)))
          ·
            refine d_lift (fun k ws X h => z_load_n X (x := vv) rfl (List.Mem.tail _ (List.Mem.head _)) h) (d_lift (fun k ws X h => z_store_n X (lv' := [(1, .int (Int32.ofInt vv)), (0, .ref (A 179)), (2, .int (Int32.ofInt nv))]) rfl (by decide) (fun _ h => h) h) (d_lift (fun k ws X h => z_inc X (x := nv) (lv' := [(2, .int (Int32.ofInt (nv + 1))), (1, .int (Int32.ofInt vv)), (0, .ref (A 179))]) rfl (by decide) (List.Mem.tail _ (List.Mem.tail _ (List.Mem.head _))) (fun _ h => h) h) (d_lift (fun k ws X h => z_goto X (t := 8) rfl (by decide) h) (d_lvs (lv := [(0, .ref (A 179)), (1, .int (Int32.ofInt vv)), (2, .int (Int32.ofInt (nv + 1)))]) (List.forall_mem_cons.mpr ⟨(List.Mem.tail _ (List.Mem.tail _ (List.Mem.head _))), (List.forall_mem_cons.mpr ⟨(List.Mem.tail _ (List.Mem.head _)), (List.forall_mem_cons.mpr ⟨(List.Mem.head _), (fun q h => absurd h List.not_mem_nil)⟩)⟩)⟩) ?_))))
            exact ih _ vv (nv + 1) Is1008 Gs1008 (by first | exact ⟨oq_143762c7 ws1008_77 hi.1 ws1004_77, oq_8987532c g1011 ws1008_77 g1006 ws1004_77 hps1004 hi.2.2.1, oq_d0d2714e ws1008_75 hi.2.2.1 ws1004_75, And.intro (hi.2.2.2.1.1) (hi.2.2.2.1.2), oq_ef1a1f20 g1011, oq_46d7741e hps1008 b1007.1 g1006 ws1004_75 ws1004_77 hps1004 b1002.2, oq_d8509bc0 g1011, oq_810f8ff6 g1011 ws1008_77 g1006 ws1004_77 hps1004 hi.2.2.1⟩ | omega) (by first | exact qk_me hm (by decide) (oq_4b400f0f hps1008 b1007.1 g1006 ws1004_75 ws1004_77 hps1004 b1002.2) | omega) kx
          ·
            refine d_lift (fun k ws X h => z_bipush X rfl h) (d_lift (fun k ws X h => z_load_n X (x := vv) rfl (List.Mem.tail _ (List.Mem.head _)) h) (d_lift (fun k ws X h => z_mul X rfl h) (d_lift (fun k ws X h => z_aload_n X (x := A 179) rfl (List.Mem.head _) h) (d_lift (fun k ws X h => z_aload_n X (x := A 179) rfl (List.Mem.head _) h) (d_getI 179 rfl (by decide) rfl rfl (hti 77 (by decide)) ?_)))))
            have b1012 := bi_77 Is1008
            refine d_lift (fun k ws X h => z_load_n X (x := nv) rfl (List.Mem.tail _ (List.Mem.tail _ (List.Mem.head _))) h) (d_lift (fun k ws X h => z_add X rfl h) (d_callV 179 (As := [.int (Int32.ofInt ((iI s1008 77) + nv))]) (st := [.int (Int32.ofInt (27 * vv))]) rfl rfl (by decide) rfl (d_byteAt G Is1008 (by first | exact ⟨oq_d8d6a599 hi.2.2.2.2.1 b1012.1, oq_0835e488 b1012.2 g1011⟩ | omega) (fun q h => hti q ((by decide : ∀ q ∈ ([75, 81] : List Nat), q ∈ ([77, 75, 78, 79, 81] : List Nat)) q h)) (fun a h => hta a ((by decide : ∀ q ∈ ([157, 158] : List Nat), q ∈ ([157, 158, 161] : List Nat)) a h))) ⟨rfl, rfl⟩ ⟨(show 6 + 1 ≤ 8 from oq_42eed11c), (show 8 + (mNL (miB 192) + 11) + 100 ≤ 141 from oq_dc08f8ae)⟩ (Nat.le_of_ble_eq_true rfl) (by decide) (by decide) (fun ee s1013 hq => ?_) (fun vv s1013 hq => ?_)))
            · obtain ⟨Is1013, Fs1013, e1014, hv, hrs1013, hps1013⟩ := hq; cases hv
            obtain ⟨Is1013, Fs1013, e1014, hv, hrs1013, hps1013⟩ := hq
            cases hv
            have Gs1013 := fm_tq Gs1008 Fs1013 rfl rfl
            have ws1013_77 : iI s1013 77 = iI s1008 77 := fm_iq Fs1013 rfl
            have ws1013_75 : iI s1013 75 = iI s1008 75 := fm_iq Fs1013 rfl
            show DS l s0 D A dT 201 (rmN 201) [77] [] (T) Q (T) 58 [(0, .ref (A 179)), (1, .int (Int32.ofInt vv)), (2, .int (Int32.ofInt nv))] [.int (Int32.ofInt e1014), .int (Int32.ofInt (27 * vv))] s1013
            refine d_lift (fun k ws X h => z_add X rfl h) (d_lift (fun k ws X h => z_bipush X rfl h) (d_lift (fun k ws X h => z_sub X rfl h) (d_lift (fun k ws X h => z_const X rfl h) (d_lift (fun k ws X h => z_add X rfl h) (d_any (fun y1015 hy1015 => ?_))))))
            refine d_lift (fun k ws X h => z_goto X (t := 68) rfl (by decide) h) (d_lift (fun k ws X h => z_store_n X (lv' := [(1, .int (Int32.ofInt y1015)), (0, .ref (A 179)), (2, .int (Int32.ofInt nv))]) rfl (by decide) (fun _ h => h) h) (d_lift (fun k ws X h => z_inc X (x := nv) (lv' := [(2, .int (Int32.ofInt (nv + 1))), (1, .int (Int32.ofInt y1015)), (0, .ref (A 179))]) rfl (by decide) (List.Mem.tail _ (List.Mem.tail _ (List.Mem.head _))) (fun _ h => h) h) (d_lift (fun k ws X h => z_goto X (t := 8) rfl (by decide) h) (d_lvs (lv := [(0, .ref (A 179)), (1, .int (Int32.ofInt y1015)), (2, .int (Int32.ofInt (nv + 1)))]) (List.forall_mem_cons.mpr ⟨(List.Mem.tail _ (List.Mem.tail _ (List.Mem.head _))), (List.forall_mem_cons.mpr ⟨(List.Mem.tail _ (List.Mem.head _)), (List.forall_mem_cons.mpr ⟨(List.Mem.head _), (fun q h => absurd h List.not_mem_nil)⟩)⟩)⟩) ?_))))
            exact ih _ y1015 (nv + 1) Is1013 Gs1013 (by first | exact ⟨oq_bd4a8eb1 ws1013_77 hi.1 ws1008_77 ws1004_77, oq_fbd1858b ws1013_77 ws1008_77 g1006 ws1004_77 hps1004 hi.2.2.2.2.1 hi.2.2.1, oq_45b593e3 ws1013_75 hi.2.2.1 ws1008_75 ws1004_75, And.intro (hy1015.1) (hy1015.2), oq_54f49eb5 hi.2.2.2.2.1, oq_88fcdc91 g1011, oq_b860ca62 hi.2.2.2.2.1, oq_3fd0273b ws1013_77 hps1013 ws1008_75 ws1008_77 hps1008 g1006 ws1004_75 ws1004_77 hps1004 hi.2.2.2.2.1 hi.2.2.1⟩ | omega) (by first | exact qk_me hm (by decide) (oq_8e8d8f07 g1011) | omega) kx
  refine d_lift (fun k ws X h => z_aload_n X (x := A 179) rfl (List.Mem.head _) h) (d_callV 179 (As := []) (st := []) rfl rfl (by decide) rfl (d_blanks G I (by first | exact p0 | omega) (fun q h => hti q ((by decide : ∀ q ∈ ([77, 75, 78, 79, 81] : List Nat), q ∈ ([77, 75, 78, 79, 81] : List Nat)) q h)) (fun a h => hta a ((by decide : ∀ q ∈ ([157, 158, 161] : List Nat), q ∈ ([157, 158, 161] : List Nat)) a h))) ⟨rfl, rfl⟩ ⟨(show 7 + 1 ≤ 8 from oq_519c1fd2), (show 8 + (mNL (miB 193) + 11) + 121 ≤ 141 from oq_67025191)⟩ (Nat.le_of_ble_eq_true rfl) (by decide) (by decide) (fun ee s3 hq => ?_) (fun vv s3 hq => ?_))
  · obtain ⟨Is3, Fs3, hv, hps3⟩ := hq; cases hv
  obtain ⟨Is3, Fs3, hv, hps3⟩ := hq
  have hps3p := hps3.1
  cases hv
  have Gs3 := fm_tq F Fs3 rfl rfl
  have b5 := bi_77 Is3
  have ws3_75 : iI s3 75 = iI s 75 := fm_iq Fs3 rfl
  show DS l s0 D A dT 201 (rmN 201) [77] [] (T) Q (T) 4 [(0, .ref (A 179))] [] s3
  refine d_lift (fun k ws X h => z_const X rfl h) (d_lift (fun k ws X h => z_store_n X (lv' := [(1, .int (Int32.ofInt 0)), (0, .ref (A 179))]) rfl (by decide) (fun _ h => h) h) (d_lift (fun k ws X h => z_const X rfl h) (d_lift (fun k ws X h => z_store_n X (lv' := [(2, .int (Int32.ofInt 0)), (1, .int (Int32.ofInt 0)), (0, .ref (A 179))]) rfl (by decide) (fun _ h => h) h) (d_lvs (lv := [(0, .ref (A 179)), (1, .int (Int32.ofInt 0)), (2, .int (Int32.ofInt 0))]) (List.forall_mem_cons.mpr ⟨(List.Mem.tail _ (List.Mem.tail _ (List.Mem.head _))), (List.forall_mem_cons.mpr ⟨(List.Mem.tail _ (List.Mem.head _)), (List.forall_mem_cons.mpr ⟨(List.Mem.head _), (fun q h => absurd h List.not_mem_nil)⟩)⟩)⟩) (L8 ((200 - 0 : Int).toNat + 1) s3 0 0 Is3 Gs3 (by first | exact ⟨hps3.1, hps3.2, ws3_75, And.intro (by decide) (by decide), by decide, by decide, oq_c2ed65b6, oq_901188d8⟩ | omega) (Nat.lt_succ_self _) ?_)))))
  intro s6 x7 x8 Is6 Fs6 hs6
  have b9 := bi_77 Is6
  have b10 := bi_75 Is6
  refine d_lift (fun k ws X h => z_load_n X (x := x8) rfl (List.Mem.tail _ (List.Mem.tail _ (List.Mem.head _))) h) (d_lift (fun k ws X h => z_bipush X rfl h) ?_)
  have N11 : ∀ e12 : Int, (((x8 ≤ 6) ∧ e12 = x7) ∨ ((6 < x8) ∧ e12 = (-1))) → DS l s0 D A dT 201 (rmN 201) [77] [] (T) Q (T) 86 [(0, .ref (A 179)), (1, .int (Int32.ofInt x7)), (2, .int (Int32.ofInt x8))] [.int (Int32.ofInt e12)] s6 := by
    intro e12 he12
    exact d_iret rfl rfl (Or.inl rfl) rfl (fun _ h => h) (hQ _ _ ⟨Is6, Fs6, e12, rfl, ⟨by first | exact oq_02aa45b0 he12 hs6.2.2.2.1.1 | omega, by first | exact oq_78b72728 he12 hs6.2.2.2.1.2 | omega⟩, by first | exact ⟨hs6.1, hs6.2.1, oq_c9cc9202 he12 hs6.2.2.2.2.2.2.2 hs6.2.2.2.2.2.2.1 hs6.2.2.2.2.1⟩ | omega⟩)
  refine d_br (bo_le _ _) bx_le (fun k ws X h1 h2 => z_icmp_le X (t := 85) rfl (by decide) ⟨by first | exact oq_fa4e5087 hs6.2.2.2.2.1 | omega, by first | exact oq_52af2b96 hs6.2.2.2.2.2.1 | omega⟩ (by decide) h1 h2) (fun g13 => ?_) (fun g13 => ?_)
  ·
    exact d_lift (fun k ws X h => z_load_n X (x := x7) rfl (List.Mem.tail _ (List.Mem.head _)) h) (N11 _ (Or.inl ⟨g13, rfl⟩))
  ·
    exact d_lift (fun k ws X h => z_const X rfl h) (d_lift (fun k ws X h => z_goto X (t := 86) rfl (by decide) h) (N11 _ (Or.inr (⟨g13, rfl⟩))))
set_option maxHeartbeats 16000000 in
theorem d_nameHere (G : GX l s0 D tys a0 dT) (I : Bd s) (p0 : iI s 77 ≤ 390) {T : TT} (hti : ∀ q ∈ ([77, 75, 78, 79, 81] : List Nat), T.1 q) (hta : ∀ a ∈ ([157, 158, 161] : List Nat), ∀ j, j < (bA a).2.2 → T.2 a j) : CD l s0 D A dT 206 (rmN 206) [77] [] T (T) [.ref (A 179)] s (fun o t => Bd t ∧ Fm [77] [] s t ∧ ∃ e, o = .inl (some (.int (Int32.ofInt e))) ∧ rng e ∧ (iI s 77 ≤ iI t 77 ∧ (iI t 77 = iI s 77 ∨ iI t 77 ≤ iI s 75) ∧ -1 ≤ e ∧ e ≤ 6 ∧ (e ≠ -1 → iI t 77 < iI s 75))) := by
  refine cd_of G (by decide) (Nat.le_of_ble_eq_true rfl) (fun Q hQ => ?_)
  have I0 := I
  show DS l s0 D A dT 206 (rmN 206) [77] [] (T) Q (T) 0 [(0, .ref (A 179))] [] s
  have F : Fm [77] [] s s := fm_rf _ _ s
  have b1 := bi_77 I
  have b2 := bi_75 I
  refine d_lift (fun k ws X h => z_aload_n X (x := A 179) rfl (List.Mem.head _) h) (d_callV 179 (As := []) (st := []) rfl rfl (by decide) rfl (d_wordHere G I (by first | exact p0 | omega) (fun q h => hti q ((by decide : ∀ q ∈ ([77, 75, 78, 79, 81] : List Nat), q ∈ ([77, 75, 78, 79, 81] : List Nat)) q h)) (fun a h => hta a ((by decide : ∀ q ∈ ([157, 158, 161] : List Nat), q ∈ ([157, 158, 161] : List Nat)) a h))) ⟨rfl, rfl⟩ ⟨(show 8 + 1 ≤ 9 from oq_67c02c84), (show 8 + (mNL (miB 201) + 11) + 141 ≤ 163 from oq_85724074)⟩ (Nat.le_of_ble_eq_true rfl) (by decide) (by decide) (fun ee s3 hq => ?_) (fun vv s3 hq => ?_))
  · obtain ⟨Is3, Fs3, e4, hv, hrs3, hps3⟩ := hq; cases hv
  obtain ⟨Is3, Fs3, e4, hv, hrs3, hps3⟩ := hq
  have hps3p := hps3.1
  cases hv
  have Gs3 := fm_tq F Fs3 rfl rfl
  have b5 := bi_77 Is3
  have ws3_75 : iI s3 75 = iI s 75 := fm_iq Fs3 rfl
  show DS l s0 D A dT 206 (rmN 206) [77] [] (T) Q (T) 4 [(0, .ref (A 179))] [.int (Int32.ofInt e4)] s3
  refine d_lift (fun k ws X h => z_store_n X (lv' := [(1, .int (Int32.ofInt e4)), (0, .ref (A 179))]) rfl (by decide) (fun _ h => h) h) (d_lift (fun k ws X h => z_load_n X (x := e4) rfl (List.Mem.head _) h) (d_lift (fun k ws X h => z_bipush X rfl h) (d_lift (fun k ws X h => z_const X rfl h) (d_lift (fun k ws X h => z_bipush X rfl h) (d_lift (fun k ws X h => z_bipush X rfl h) (d_lift (fun k ws X h => z_const X rfl h) (d_lift (fun k ws X h => z_const X rfl h) (d_callT (As := [.int (Int32.ofInt 23), .int (Int32.ofInt 1), .int (Int32.ofInt 25), .int (Int32.ofInt 19), .int (Int32.ofInt 0), .int (Int32.ofInt 0)]) (st := [.int (Int32.ofInt e4)]) rfl rfl (d_word G Is3 (by first | exact ⟨by decide, by decide⟩ | omega) (by first | exact ⟨by decide, by decide⟩ | omega) (by first | exact ⟨by decide, by decide⟩ | omega) (by first | exact ⟨by decide, by decide⟩ | omega) (by first | exact ⟨by decide, by decide⟩ | omega) (by first | exact ⟨by decide, by decide⟩ | omega) (fun q h => hti q ((by decide : ∀ q ∈ ([] : List Nat), q ∈ ([77, 75, 78, 79, 81] : List Nat)) q h)) (fun a h => hta a ((by decide : ∀ q ∈ ([] : List Nat), q ∈ ([157, 158, 161] : List Nat)) a h))) ⟨rfl, rfl⟩ ⟨(show 6 + 1 ≤ 9 from oq_4a198724), (show 8 + (mNL (miB 202) + 11) + 100 ≤ 163 from oq_497c6a1a)⟩ (Nat.le_of_ble_eq_true rfl) (by decide) (by decide) (fun ee s6 hq => ?_) (fun vv s6 hq => ?_)))))))))
  · obtain ⟨Is6, Fs6, e7, hv, hrs6, hps6⟩ := hq; cases hv
  obtain ⟨Is6, Fs6, e7, hv, hrs6, hps6⟩ := hq
  cases hv
  have Gs6 := fm_tq Gs3 Fs6 rfl rfl
  have ws6_77 : iI s6 77 = iI s3 77 := fm_iq Fs6 rfl
  have ws6_75 : iI s6 75 = iI s3 75 := fm_iq Fs6 rfl
  show DS l s0 D A dT 206 (rmN 206) [77] [] (T) Q (T) 18 [(1, .int (Int32.ofInt e4)), (0, .ref (A 179))] [.int (Int32.ofInt e7), .int (Int32.ofInt e4)] s6
  refine d_br (bo_ne _ _) bx_ne (fun k ws X h1 h2 => z_icmp_ne X (t := 23) rfl (by decide) hrs3 hrs6 h1 h2) (fun g8 => ?_) (fun g8 => ?_)
  ·
    refine d_lift (fun k ws X h => z_load_n X (x := e4) rfl (List.Mem.head _) h) (d_lift (fun k ws X h => z_const X rfl h) (d_lift (fun k ws X h => z_bipush X rfl h) (d_lift (fun k ws X h => z_bipush X rfl h) (d_lift (fun k ws X h => z_bipush X rfl h) (d_lift (fun k ws X h => z_bipush X rfl h) (d_lift (fun k ws X h => z_const X rfl h) (d_callT (As := [.int (Int32.ofInt 3), .int (Int32.ofInt 18), .int (Int32.ofInt 15), .int (Int32.ofInt 19), .int (Int32.ofInt 19), .int (Int32.ofInt 0)]) (st := [.int (Int32.ofInt e4)]) rfl rfl (d_word G Is6 (by first | exact ⟨by decide, by decide⟩ | omega) (by first | exact ⟨by decide, by decide⟩ | omega) (by first | exact ⟨by decide, by decide⟩ | omega) (by first | exact ⟨by decide, by decide⟩ | omega) (by first | exact ⟨by decide, by decide⟩ | omega) (by first | exact ⟨by decide, by decide⟩ | omega) (fun q h => hti q ((by decide : ∀ q ∈ ([] : List Nat), q ∈ ([77, 75, 78, 79, 81] : List Nat)) q h)) (fun a h => hta a ((by decide : ∀ q ∈ ([] : List Nat), q ∈ ([157, 158, 161] : List Nat)) a h))) ⟨rfl, rfl⟩ ⟨(show 6 + 1 ≤ 9 from oq_4a198724), (show 8 + (mNL (miB 202) + 11) + 100 ≤ 163 from oq_497c6a1a)⟩ (Nat.le_of_ble_eq_true rfl) (by decide) (by decide) (fun ee s9 hq => ?_) (fun vv s9 hq => ?_))))))))
    · obtain ⟨Is9, Fs9, e10, hv, hrs9, hps9⟩ := hq; cases hv
    obtain ⟨Is9, Fs9, e10, hv, hrs9, hps9⟩ := hq
    cases hv
    have Gs9 := fm_tq Gs6 Fs9 rfl rfl
    have ws9_77 : iI s9 77 = iI s6 77 := fm_iq Fs9 rfl
    have ws9_75 : iI s9 75 = iI s6 75 := fm_iq Fs9 rfl
    show DS l s0 D A dT 206 (rmN 206) [77] [] (T) Q (T) 37 [(1, .int (Int32.ofInt e4)), (0, .ref (A 179))] [.int (Int32.ofInt e10), .int (Int32.ofInt e4)] s9
    refine d_br (bo_ne _ _) bx_ne (fun k ws X h1 h2 => z_icmp_ne X (t := 42) rfl (by decide) hrs3 hrs9 h1 h2) (fun g11 => ?_) (fun g11 => ?_)
    ·
      refine d_lift (fun k ws X h => z_load_n X (x := e4) rfl (List.Mem.head _) h) (d_lift (fun k ws X h => z_bipush X rfl h) (d_lift (fun k ws X h => z_bipush X rfl h) (d_lift (fun k ws X h => z_const X rfl h) (d_lift (fun k ws X h => z_bipush X rfl h) (d_lift (fun k ws X h => z_const X rfl h) (d_lift (fun k ws X h => z_const X rfl h) (d_callT (As := [.int (Int32.ofInt 15), .int (Int32.ofInt 22), .int (Int32.ofInt 5), .int (Int32.ofInt 18), .int (Int32.ofInt 0), .int (Int32.ofInt 0)]) (st := [.int (Int32.ofInt e4)]) rfl rfl (d_word G Is9 (by first | exact ⟨by decide, by decide⟩ | omega) (by first | exact ⟨by decide, by decide⟩ | omega) (by first | exact ⟨by decide, by decide⟩ | omega) (by first | exact ⟨by decide, by decide⟩ | omega) (by first | exact ⟨by decide, by decide⟩ | omega) (by first | exact ⟨by decide, by decide⟩ | omega) (fun q h => hti q ((by decide : ∀ q ∈ ([] : List Nat), q ∈ ([77, 75, 78, 79, 81] : List Nat)) q h)) (fun a h => hta a ((by decide : ∀ q ∈ ([] : List Nat), q ∈ ([157, 158, 161] : List Nat)) a h))) ⟨rfl, rfl⟩ ⟨(show 6 + 1 ≤ 9 from oq_4a198724), (show 8 + (mNL (miB 202) + 11) + 100 ≤ 163 from oq_497c6a1a)⟩ (Nat.le_of_ble_eq_true rfl) (by decide) (by decide) (fun ee s12 hq => ?_) (fun vv s12 hq => ?_))))))))
      · obtain ⟨Is12, Fs12, e13, hv, hrs12, hps12⟩ := hq; cases hv
      obtain ⟨Is12, Fs12, e13, hv, hrs12, hps12⟩ := hq
      cases hv
      have Gs12 := fm_tq Gs9 Fs12 rfl rfl
      have ws12_77 : iI s12 77 = iI s9 77 := fm_iq Fs12 rfl
      have ws12_75 : iI s12 75 = iI s9 75 := fm_iq Fs12 rfl
      show DS l s0 D A dT 206 (rmN 206) [77] [] (T) Q (T) 55 [(1, .int (Int32.ofInt e4)), (0, .ref (A 179))] [.int (Int32.ofInt e13), .int (Int32.ofInt e4)] s12
      refine d_br (bo_ne _ _) bx_ne (fun k ws X h1 h2 => z_icmp_ne X (t := 60) rfl (by decide) hrs3 hrs12 h1 h2) (fun g14 => ?_) (fun g14 => ?_)
      ·
        refine d_lift (fun k ws X h => z_load_n X (x := e4) rfl (List.Mem.head _) h) (d_lift (fun k ws X h => z_const X rfl h) (d_lift (fun k ws X h => z_bipush X rfl h) (d_lift (fun k ws X h => z_bipush X rfl h) (d_lift (fun k ws X h => z_bipush X rfl h) (d_lift (fun k ws X h => z_const X rfl h) (d_lift (fun k ws X h => z_const X rfl h) (d_callT (As := [.int (Int32.ofInt 3), .int (Int32.ofInt 12), .int (Int32.ofInt 9), .int (Int32.ofInt 13), .int (Int32.ofInt 2), .int (Int32.ofInt 0)]) (st := [.int (Int32.ofInt e4)]) rfl rfl (d_word G Is12 (by first | exact ⟨by decide, by decide⟩ | omega) (by first | exact ⟨by decide, by decide⟩ | omega) (by first | exact ⟨by decide, by decide⟩ | omega) (by first | exact ⟨by decide, by decide⟩ | omega) (by first | exact ⟨by decide, by decide⟩ | omega) (by first | exact ⟨by decide, by decide⟩ | omega) (fun q h => hti q ((by decide : ∀ q ∈ ([] : List Nat), q ∈ ([77, 75, 78, 79, 81] : List Nat)) q h)) (fun a h => hta a ((by decide : ∀ q ∈ ([] : List Nat), q ∈ ([157, 158, 161] : List Nat)) a h))) ⟨rfl, rfl⟩ ⟨(show 6 + 1 ≤ 9 from oq_4a198724), (show 8 + (mNL (miB 202) + 11) + 100 ≤ 163 from oq_497c6a1a)⟩ (Nat.le_of_ble_eq_true rfl) (by decide) (by decide) (fun ee s15 hq => ?_) (fun vv s15 hq => ?_))))))))
        · obtain ⟨Is15, Fs15, e16, hv, hrs15, hps15⟩ := hq; cases hv
        obtain ⟨Is15, Fs15, e16, hv, hrs15, hps15⟩ := hq
        cases hv
        have Gs15 := fm_tq Gs12 Fs15 rfl rfl
        have ws15_77 : iI s15 77 = iI s12 77 := fm_iq Fs15 rfl
        have ws15_75 : iI s15 75 = iI s12 75 := fm_iq Fs15 rfl
        show DS l s0 D A dT 206 (rmN 206) [77] [] (T) Q (T) 73 [(1, .int (Int32.ofInt e4)), (0, .ref (A 179))] [.int (Int32.ofInt e16), .int (Int32.ofInt e4)] s15
        refine d_br (bo_ne _ _) bx_ne (fun k ws X h1 h2 => z_icmp_ne X (t := 78) rfl (by decide) hrs3 hrs15 h1 h2) (fun g17 => ?_) (fun g17 => ?_)
        ·
          refine d_lift (fun k ws X h => z_load_n X (x := e4) rfl (List.Mem.head _) h) (d_lift (fun k ws X h => z_const X rfl h) (d_lift (fun k ws X h => z_const X rfl h) (d_lift (fun k ws X h => z_bipush X rfl h) (d_lift (fun k ws X h => z_bipush X rfl h) (d_lift (fun k ws X h => z_bipush X rfl h) (d_lift (fun k ws X h => z_const X rfl h) (d_callT (As := [.int (Int32.ofInt 3), .int (Int32.ofInt 5), .int (Int32.ofInt 12), .int (Int32.ofInt 12), .int (Int32.ofInt 19), .int (Int32.ofInt 0)]) (st := [.int (Int32.ofInt e4)]) rfl rfl (d_word G Is15 (by first | exact ⟨by decide, by decide⟩ | omega) (by first | exact ⟨by decide, by decide⟩ | omega) (by first | exact ⟨by decide, by decide⟩ | omega) (by first | exact ⟨by decide, by decide⟩ | omega) (by first | exact ⟨by decide, by decide⟩ | omega) (by first | exact ⟨by decide, by decide⟩ | omega) (fun q h => hti q ((by decide : ∀ q ∈ ([] : List Nat), q ∈ ([77, 75, 78, 79, 81] : List Nat)) q h)) (fun a h => hta a ((by decide : ∀ q ∈ ([] : List Nat), q ∈ ([157, 158, 161] : List Nat)) a h))) ⟨rfl, rfl⟩ ⟨(show 6 + 1 ≤ 9 from oq_4a198724), (show 8 + (mNL (miB 202) + 11) + 100 ≤ 163 from oq_497c6a1a)⟩ (Nat.le_of_ble_eq_true rfl) (by decide) (by decide) (fun ee s18 hq => ?_) (fun vv s18 hq => ?_))))))))
          · obtain ⟨Is18, Fs18, e19, hv, hrs18, hps18⟩ := hq; cases hv
          obtain ⟨Is18, Fs18, e19, hv, hrs18, hps18⟩ := hq
          cases hv
          have Gs18 := fm_tq Gs15 Fs18 rfl rfl
          have ws18_77 : iI s18 77 = iI s15 77 := fm_iq Fs18 rfl
          have ws18_75 : iI s18 75 = iI s15 75 := fm_iq Fs18 rfl
          show DS l s0 D A dT 206 (rmN 206) [77] [] (T) Q (T) 91 [(1, .int (Int32.ofInt e4)), (0, .ref (A 179))] [.int (Int32.ofInt e19), .int (Int32.ofInt e4)] s18
          refine d_br (bo_ne _ _) bx_ne (fun k ws X h1 h2 => z_icmp_ne X (t := 96) rfl (by decide) hrs3 hrs18 h1 h2) (fun g20 => ?_) (fun g20 => ?_)
          ·
            refine d_lift (fun k ws X h => z_load_n X (x := e4) rfl (List.Mem.head _) h) (d_lift (fun k ws X h => z_bipush X rfl h) (d_lift (fun k ws X h => z_bipush X rfl h) (d_lift (fun k ws X h => z_bipush X rfl h) (d_lift (fun k ws X h => z_const X rfl h) (d_lift (fun k ws X h => z_const X rfl h) (d_lift (fun k ws X h => z_const X rfl h) (d_callT (As := [.int (Int32.ofInt 12), .int (Int32.ofInt 15), .int (Int32.ofInt 23), .int (Int32.ofInt 0), .int (Int32.ofInt 0), .int (Int32.ofInt 0)]) (st := [.int (Int32.ofInt e4)]) rfl rfl (d_word G Is18 (by first | exact ⟨by decide, by decide⟩ | omega) (by first | exact ⟨by decide, by decide⟩ | omega) (by first | exact ⟨by decide, by decide⟩ | omega) (by first | exact ⟨by decide, by decide⟩ | omega) (by first | exact ⟨by decide, by decide⟩ | omega) (by first | exact ⟨by decide, by decide⟩ | omega) (fun q h => hti q ((by decide : ∀ q ∈ ([] : List Nat), q ∈ ([77, 75, 78, 79, 81] : List Nat)) q h)) (fun a h => hta a ((by decide : ∀ q ∈ ([] : List Nat), q ∈ ([157, 158, 161] : List Nat)) a h))) ⟨rfl, rfl⟩ ⟨(show 6 + 1 ≤ 9 from oq_4a198724), (show 8 + (mNL (miB 202) + 11) + 100 ≤ 163 from oq_497c6a1a)⟩ (Nat.le_of_ble_eq_true rfl) (by decide) (by decide) (fun ee s21 hq => ?_) (fun vv s21 hq => ?_))))))))
            · obtain ⟨Is21, Fs21, e22, hv, hrs21, hps21⟩ := hq; cases hv
            obtain ⟨Is21, Fs21, e22, hv, hrs21, hps21⟩ := hq
            cases hv
            have Gs21 := fm_tq Gs18 Fs21 rfl rfl
            have ws21_77 : iI s21 77 = iI s18 77 := fm_iq Fs21 rfl
            have ws21_75 : iI s21 75 = iI s18 75 := fm_iq Fs21 rfl
            show DS l s0 D A dT 206 (rmN 206) [77] [] (T) Q (T) 109 [(1, .int (Int32.ofInt e4)), (0, .ref (A 179))] [.int (Int32.ofInt e22), .int (Int32.ofInt e4)] s21
            refine d_br (bo_ne _ _) bx_ne (fun k ws X h1 h2 => z_icmp_ne X (t := 114) rfl (by decide) hrs3 hrs21 h1 h2) (fun g23 => ?_) (fun g23 => ?_)
            ·
              refine d_lift (fun k ws X h => z_load_n X (x := e4) rfl (List.Mem.head _) h) (d_lift (fun k ws X h => z_bipush X rfl h) (d_lift (fun k ws X h => z_bipush X rfl h) (d_lift (fun k ws X h => z_const X rfl h) (d_lift (fun k ws X h => z_const X rfl h) (d_lift (fun k ws X h => z_const X rfl h) (d_lift (fun k ws X h => z_bipush X rfl h) (d_callT (As := [.int (Int32.ofInt 16), .int (Int32.ofInt 9), .int (Int32.ofInt 5), .int (Int32.ofInt 3), .int (Int32.ofInt 5), .int (Int32.ofInt 19)]) (st := [.int (Int32.ofInt e4)]) rfl rfl (d_word G Is21 (by first | exact ⟨by decide, by decide⟩ | omega) (by first | exact ⟨by decide, by decide⟩ | omega) (by first | exact ⟨by decide, by decide⟩ | omega) (by first | exact ⟨by decide, by decide⟩ | omega) (by first | exact ⟨by decide, by decide⟩ | omega) (by first | exact ⟨by decide, by decide⟩ | omega) (fun q h => hti q ((by decide : ∀ q ∈ ([] : List Nat), q ∈ ([77, 75, 78, 79, 81] : List Nat)) q h)) (fun a h => hta a ((by decide : ∀ q ∈ ([] : List Nat), q ∈ ([157, 158, 161] : List Nat)) a h))) ⟨rfl, rfl⟩ ⟨(show 6 + 1 ≤ 9 from oq_4a198724), (show 8 + (mNL (miB 202) + 11) + 100 ≤ 163 from oq_497c6a1a)⟩ (Nat.le_of_ble_eq_true rfl) (by decide) (by decide) (fun ee s24 hq => ?_) (fun vv s24 hq => ?_))))))))
              · obtain ⟨Is24, Fs24, e25, hv, hrs24, hps24⟩ := hq; cases hv
              obtain ⟨Is24, Fs24, e25, hv, hrs24, hps24⟩ := hq
              cases hv
              have Gs24 := fm_tq Gs21 Fs24 rfl rfl
              have ws24_77 : iI s24 77 = iI s21 77 := fm_iq Fs24 rfl
              have ws24_75 : iI s24 75 = iI s21 75 := fm_iq Fs24 rfl
              show DS l s0 D A dT 206 (rmN 206) [77] [] (T) Q (T) 127 [(1, .int (Int32.ofInt e4)), (0, .ref (A 179))] [.int (Int32.ofInt e25), .int (Int32.ofInt e4)] s24
              have N26 : ∀ e27 : Int, (((e4 ≠ e25) ∧ e27 = (-1)) ∨ ((e4 = e25) ∧ e27 = 6)) → DS l s0 D A dT 206 (rmN 206) [77] [] (T) Q (T) 136 [(1, .int (Int32.ofInt e4)), (0, .ref (A 179))] [.int (Int32.ofInt e27)] s24 := by
                intro e27 he27
                have re27 : (-1) ≤ e27 ∧ e27 ≤ 6 := by first | (clear he27 g23 g20 g17 g14 g11 g8 hps3; omega) | (clear g23 g20 g17 g14 g11 g8 hps3; omega) | omega
                exact d_iret rfl rfl (Or.inl rfl) rfl (fun _ h => h) (hQ _ _ ⟨Is24, Gs24, e27, rfl, ⟨by first | exact oq_97ee2c2a re27.1 | omega, by first | exact oq_b301c3bf re27.2 | omega⟩, by first | exact ⟨oq_1a22b625 ws24_77 ws21_77 ws18_77 ws15_77 ws12_77 ws9_77 ws6_77 hps3.1, oq_c7e4d1fa ws24_77 ws21_77 ws18_77 ws15_77 ws12_77 ws9_77 ws6_77 hps3.2.1 hps3.1, re27.1, re27.2, oq_0d4062ee re27.1 he27 ws24_77 hps24 ws21_77 ws18_77 ws15_77 ws12_77 ws9_77 ws6_77 hps3.2.2⟩ | omega⟩)
              refine d_br (bo_ne _ _) bx_ne (fun k ws X h1 h2 => z_icmp_ne X (t := 135) rfl (by decide) hrs3 hrs24 h1 h2) (fun g28 => ?_) (fun g28 => ?_)
              ·
                exact d_lift (fun k ws X h => z_const X rfl h) (N26 _ (Or.inl ⟨g28, rfl⟩))
              ·
                exact d_lift (fun k ws X h => z_bipush X rfl h) (d_lift (fun k ws X h => z_goto X (t := 136) rfl (by decide) h) (N26 _ (Or.inr (⟨g28, rfl⟩))))
            ·
              refine d_lift (fun k ws X h => z_const X rfl h) ?_
              exact d_iret rfl rfl (Or.inl rfl) rfl (fun _ h => h) (hQ _ _ ⟨Is21, Gs21, 5, rfl, (by decide), by first | exact ⟨oq_848a55a6 ws21_77 ws18_77 ws15_77 ws12_77 ws9_77 ws6_77 hps3.1, oq_729a7106 g23 ws21_77 hps21 ws18_77 ws15_77 ws12_77 ws9_77 ws6_77 hps3.2.2, by decide, by decide, oq_829509e8 g23 ws21_77 hps21 ws18_77 ws15_77 ws12_77 ws9_77 ws6_77 hps3.2.2⟩ | omega⟩)
          ·
            refine d_lift (fun k ws X h => z_const X rfl h) ?_
            exact d_iret rfl rfl (Or.inl rfl) rfl (fun _ h => h) (hQ _ _ ⟨Is18, Gs18, 4, rfl, (by decide), by first | exact ⟨oq_17730e68 ws18_77 ws15_77 ws12_77 ws9_77 ws6_77 hps3.1, oq_1ad4a7f8 g20 ws18_77 hps18 ws15_77 ws12_77 ws9_77 ws6_77 hps3.2.2, by decide, by decide, oq_57df88a9 g20 ws18_77 hps18 ws15_77 ws12_77 ws9_77 ws6_77 hps3.2.2⟩ | omega⟩)
        ·
          refine d_lift (fun k ws X h => z_const X rfl h) ?_
          exact d_iret rfl rfl (Or.inl rfl) rfl (fun _ h => h) (hQ _ _ ⟨Is15, Gs15, 3, rfl, (by decide), by first | exact ⟨oq_11fe630f ws15_77 ws12_77 ws9_77 ws6_77 hps3.1, oq_69067335 g17 ws15_77 hps15 ws12_77 ws9_77 ws6_77 hps3.2.2, by decide, by decide, oq_24ca1aeb g17 ws15_77 hps15 ws12_77 ws9_77 ws6_77 hps3.2.2⟩ | omega⟩)
      ·
        refine d_lift (fun k ws X h => z_const X rfl h) ?_
        exact d_iret rfl rfl (Or.inl rfl) rfl (fun _ h => h) (hQ _ _ ⟨Is12, Gs12, 2, rfl, (by decide), by first | exact ⟨oq_47978b2f ws12_77 ws9_77 ws6_77 hps3.1, oq_85016481 g14 ws12_77 hps12 ws9_77 ws6_77 hps3.2.2, by decide, by decide, oq_ed1d23fc g14 ws12_77 hps12 ws9_77 ws6_77 hps3.2.2⟩ | omega⟩)
    ·
      refine d_lift (fun k ws X h => z_const X rfl h) ?_
      exact d_iret rfl rfl (Or.inl rfl) rfl (fun _ h => h) (hQ _ _ ⟨Is9, Gs9, 1, rfl, (by decide), by first | exact ⟨oq_2954f754 ws9_77 ws6_77 hps3.1, oq_d2f0a5e5 g11 ws9_77 hps9 ws6_77 hps3.2.2, by decide, by decide, oq_4f60f847 g11 ws9_77 hps9 ws6_77 hps3.2.2⟩ | omega⟩)
  ·
    refine d_lift (fun k ws X h => z_const X rfl h) ?_
    exact d_iret rfl rfl (Or.inl rfl) rfl (fun _ h => h) (hQ _ _ ⟨Is6, Gs6, 0, rfl, (by decide), by first | exact ⟨oq_9272904e ws6_77 hps3.1, oq_0b55d760 g8 ws6_77 hps6 hps3.2.2, by decide, by decide, oq_89d1dd48 g8 ws6_77 hps6 hps3.2.2⟩ | omega⟩)
end M42
end
section

theorem oq_4bed1c3e {a0 : Int} (h0 : a0 ≠ 0) (h1 : 0 ≤ a0) : (a0 ≠ 0 → a0 ≠ 0) := by omega
theorem oq_6a3c9b31 {a0 a1 a2 : Int} (h0 : a0 ≠ 0) (h1 : 0 ≤ a0) : (a0 = 0 → a1 ≤ a2) := by omega
theorem oq_99d3c924 {a0 : Int} (h0 : a0 ≤ 202) : a0 ≤ 380 := by omega
theorem oq_0f4637ff (r : Nat) : 8 + 1 ≤ (12 + (3 * (r + 1))) := by omega
theorem oq_673d70d0 (r : Nat) : 8 + (2 + 11) + 141 ≤ (500 + 45 * (3 * (r + 1))) := by omega
theorem oq_9c6508e2 {a0 a1 a2 : Int} (h0 : a0 = a1) (h1 : a1 = (a2 + 1)) (h2 : 0 ≤ a2) : 0 ≤ (a0 - 1) := by omega
theorem oq_d7fe5c3c {a0 : Int} (h0 : a0 ≤ 8) : (a0 - 1) ≤ 8 := by omega
theorem oq_22bc6706 {a0 : Int} (h0 : a0 ≤ 8) : (a0 - 1) ≤ 2147483647 := by omega
theorem oq_880c99c9 {a0 a1 a2 a3 : Int} (h0 : a0 = (a1 - 1)) (h1 : a2 = (a3 + 1)) (h2 : a1 = a2) : a0 = a3 := by omega
theorem oq_6f31d0da {a0 a1 a2 a3 : Int} (h0 : a0 = a1) (h1 : a2 ≤ a3) (h2 : a3 ≤ a1) : a2 ≤ a0 := by omega
theorem oq_af2b4623 {a0 a1 a2 a3 a4 : Int} (h0 : a0 = a1) (h1 : (a1 = a2 ∨ a1 ≤ a3)) (h2 : a3 ≤ 200) (h3 : a2 ≤ 202) : (a0 = a4 ∨ a0 ≤ 202) := by omega
theorem oq_e013ad0f {a0 a1 : Int} (h0 : a0 = 0) : (a0 ≠ 0 → a1 ≠ 0) := by omega
theorem oq_a526df76 {a0 a1 a2 a3 a4 a5 a6 : Int} (h0 : a0 = a1) (h1 : a2 = a3) (h2 : 0 ≤ a1) (h3 : (a1 = 0 → (a4 < a3 ∧ a3 ≤ a5))) (h4 : (a3 = a4 ∨ a3 ≤ a5)) (h5 : a5 = a6) : (a0 = 0 → a2 ≤ a6) := by omega
theorem oq_77f321a4 {a0 a1 a2 : Int} (h0 : (a0 = a1 ∨ a0 ≤ a2)) (h1 : a2 ≤ 200) (h2 : a1 ≤ 202) : a0 ≤ 203 := by omega
theorem oq_5c892ecd {a0 a1 a2 : Int} {n3 : Nat} (h0 : a0 = a1) (h1 : (a2 + (((n3 + 1) : Nat) : Int)) = 7) (h2 : a1 = (a2 + 1)) : (a0 + ((n3 : Nat) : Int)) = 7 := by omega
theorem oq_dd2f756f {a0 a1 a2 a3 : Int} (h0 : a0 = a1) (h1 : 0 ≤ a2) (h2 : (a3 ≠ 0 → a2 ≠ 0)) (h3 : 0 ≤ a3) (h4 : (a1 = 7 → a3 ≠ 0)) : (a0 = 7 → a2 ≠ 0) := by omega
theorem oq_11500719 (r : Nat) : (12 + (3 * (r) + 2)) + 1 ≤ (12 + (3 * (r + 1))) := by omega
theorem oq_998273a9 (r : Nat) : 8 + (4 + 11) + (500 + 45 * (3 * (r) + 2)) ≤ (500 + 45 * (3 * (r + 1))) := by omega
theorem oq_52108d03 {a0 a1 a2 a3 : Int} (h0 : a0 = a1) (h1 : a1 = a2) (h2 : a2 = (a3 + 1)) : a0 = (a3 + 1) := by omega
theorem oq_6ddae328 {a0 a1 a2 a3 : Int} (h0 : a0 ≤ a1) (h1 : a2 ≤ a0) (h2 : a3 ≤ a2) : a3 ≤ a1 := by omega
theorem oq_8fbd1a5b {a0 a1 a2 a3 : Int} (h0 : (a0 = a1 ∨ a0 ≤ 202)) (h1 : (a1 = a2 ∨ a1 ≤ a3)) (h2 : a3 ≤ 200) (h3 : a2 ≤ 202) : a0 ≤ 202 := by omega
theorem oq_8b7476e4 {a0 a1 a2 a3 a4 : Int} (h0 : ((a0 ≠ a1 ∧ a2 = a3) ∨ (a0 = a1 ∧ a2 = a4))) (h1 : (-2147483648) ≤ a4) (h2 : (-2147483648) ≤ a3) : (-2147483648) ≤ a2 := by omega
theorem oq_91e357f9 {a0 a1 a2 a3 a4 : Int} (h0 : ((a0 ≠ a1 ∧ a2 = a3) ∨ (a0 = a1 ∧ a2 = a4))) (h1 : a4 ≤ 2147483647) (h2 : a3 ≤ 2147483647) : a2 ≤ 2147483647 := by omega
theorem oq_299765ef {a0 a1 : Int} (h0 : (a0 = a1 ∨ a0 ≤ 202)) (h1 : a1 ≤ 203) : a0 ≤ 390 := by omega
theorem oq_d528a8f9 (r : Nat) : 7 + 1 ≤ (12 + (3 * (r + 1))) := by omega
theorem oq_218e8e31 (r : Nat) : 8 + (1 + 11) + 121 ≤ (500 + 45 * (3 * (r + 1))) := by omega
theorem oq_0dc82175 (r : Nat) : 6 + 1 ≤ (12 + (3 * (r + 1))) := by omega
theorem oq_c9027365 (r : Nat) : 8 + (2 + 11) + 100 ≤ (500 + 45 * (3 * (r + 1))) := by omega
theorem oq_1bf3df29 {a0 a1 a2 a3 a4 : Int} (h0 : a0 = 40) (h1 : a1 = a2) (h2 : ((a3 ≤ a2 ∧ a0 = (-1)) ∨ (a2 < a3 ∧ (0 ≤ a0 ∧ a0 ≤ 255)))) (h3 : a3 = a4) (h4 : a4 ≤ 200) : a1 ≤ 380 := by omega
theorem oq_3e907fa5 (r : Nat) : 8 + (2 + 11) + 122 ≤ (500 + 45 * (3 * (r + 1))) := by omega
theorem oq_9b796fd1 {a0 a1 a2 a3 a4 a5 : Int} (h0 : a0 = (a1 + 1)) (h1 : a2 = 40) (h2 : a1 = a3) (h3 : ((a4 ≤ a3 ∧ a2 = (-1)) ∨ (a3 < a4 ∧ (0 ≤ a2 ∧ a2 ≤ 255)))) (h4 : a4 = a5) (h5 : a5 ≤ 200) : a0 ≤ 203 := by omega
theorem oq_eba1d630 {a0 a2 a3 a4 a5 : Int} {n1 : Nat} (h0 : (a0 + (((n1 + 1) : Nat) : Int)) = 7) (h1 : a2 = (a3 + 1)) (h2 : a3 = a4) (h3 : a4 = a5) (h4 : a5 = a0) : (a2 + ((n1 : Nat) : Int)) = 7 := by omega
theorem oq_6b35565f {a0 a1 a2 : Int} (h0 : 0 ≤ a0) (h1 : (a1 = 6 → a0 ≠ 0)) (h2 : a2 = (a1 + 1)) : (a2 = 7 → a0 ≠ 0) := by omega
theorem oq_b750a7cd {a0 a1 a2 a3 a4 a5 : Int} (h0 : a0 = a1) (h1 : a2 = a3) (h2 : a1 = (a4 + 1)) (h3 : a4 = a5) (h4 : a5 = a2) : a0 = (a3 + 1) := by omega
theorem oq_3edc8be3 {a0 a1 a2 a3 a4 a5 : Int} (h0 : a0 ≤ a1) (h1 : a0 = (a2 + 1)) (h2 : a2 = a3) (h3 : a4 ≤ a5) (h4 : a5 ≤ a3) : a4 ≤ a1 := by omega
theorem oq_aa6384b4 {a0 a1 a2 a3 a4 a5 a6 : Int} (h0 : (a0 = a1 ∨ a0 ≤ 202)) (h1 : a1 = (a2 + 1)) (h2 : a3 = 40) (h3 : a2 = a4) (h4 : ((a5 ≤ a4 ∧ a3 = (-1)) ∨ (a4 < a5 ∧ (0 ≤ a3 ∧ a3 ≤ 255)))) (h5 : a5 = a6) (h6 : a6 ≤ 200) : a0 ≤ 202 := by omega
theorem oq_cf8b9c9a {a0 a1 a2 a3 a4 : Int} (h0 : 0 ≤ a0) (h1 : (a1 ≠ 0 → a0 ≠ 0)) (h2 : a2 = a3) (h3 : 0 ≤ a1) (h4 : (a4 = 6 → a1 ≠ 0)) (h5 : a3 = (a4 + 1)) : (a2 = 7 → a0 ≠ 0) := by omega
theorem oq_cdc25995 (r : Nat) : 8 + (3 + 11) + 100 ≤ (500 + 45 * (3 * (r + 1))) := by omega
theorem oq_ac0e91e1 {a0 a1 a2 a3 a4 : Int} (h0 : a0 = a1) (h1 : a1 = a2) (h2 : a2 = a3) (h3 : a3 = a4) : a0 = a4 := by omega
theorem oq_c430b533 {a0 a1 a2 a3 a4 : Int} (h0 : a0 = a1) (h1 : a2 ≤ a3) (h2 : a3 ≤ a4) (h3 : a1 = a4) : a2 ≤ a0 := by omega
theorem oq_0b99daf3 {a0 a1 a2 a3 a4 a5 : Int} (h0 : a0 = a1) (h1 : a1 = a2) (h2 : (a2 = a3 ∨ a2 ≤ a4)) (h3 : a4 ≤ 200) (h4 : (a3 = a5 ∨ a3 ≤ 202)) (h5 : a5 ≤ 203) : (a0 = a5 ∨ a0 ≤ 202) := by omega
theorem oq_efa70c27 {a0 a1 a2 : Int} (h0 : 0 ≤ a0) (h1 : a0 ≠ 0) : (a0 = 0 → a1 ≤ a2) := by omega
theorem oq_2ebc9f52 {a0 : Int} (h0 : a0 ≤ 203) : a0 ≤ 390 := by omega
theorem oq_eb98a9a7 (r : Nat) : 8 + (1 + 11) + 100 ≤ (500 + 45 * (3 * (r + 1))) := by omega
theorem oq_ce2e7291 {a0 a1 a2 a3 a4 : Int} (h0 : a0 = a1) (h1 : a1 = a2) (h2 : (a2 = a3 ∨ a2 ≤ a4)) (h3 : a4 ≤ 200) (h4 : a3 ≤ 203) : a0 ≤ 390 := by omega
theorem oq_c359dceb (r : Nat) : 9 + 1 ≤ (12 + (3 * (r + 1))) := by omega
theorem oq_4e1b90b2 (r : Nat) : 8 + (2 + 11) + 163 ≤ (500 + 45 * (3 * (r + 1))) := by omega
theorem oq_550c6e3f {a0 a1 a2 a3 a4 a5 a6 a7 a8 : Int} (h0 : (a0 = a1 ∨ a0 ≤ a2)) (h1 : a2 = a3) (h2 : a1 = a4) (h3 : a3 = a5) (h4 : a4 = a6) (h5 : a5 = a7) (h6 : (a6 = a8 ∨ a6 ≤ a7)) (h7 : a7 ≤ 200) (h8 : a8 ≤ 203) : a0 ≤ 390 := by omega
theorem oq_78cdcaf8 (r : Nat) : 8 + (3 + 11) + 141 ≤ (500 + 45 * (3 * (r + 1))) := by omega
theorem oq_642991a6 (r : Nat) : 8 + (7 + 11) + 100 ≤ (500 + 45 * (3 * (r + 1))) := by omega
theorem oq_fceaff2a {a0 a1 a2 a3 a4 a5 a6 a7 a8 a9 a10 : Int} (h0 : a0 ≠ 0) (h1 : a1 = a2) (h2 : 0 ≤ a0) (h3 : ((a3 ≠ a4 ∧ a0 = 0) ∨ (a3 = a4 ∧ a0 = 1))) (h4 : a2 = a5) (h5 : 1 ≤ a4) (h6 : (a3 ≠ 0 → a5 < a6)) (h7 : a6 = a7) (h8 : a7 = a8) (h9 : a8 = a9) (h10 : a9 = a10) (h11 : a10 ≤ 200) : a1 ≤ 390 := by omega
theorem oq_e60e49f3 {a0 : Int} (h0 : a0 ≠ 0) (h1 : a0 ≤ 1) (h2 : 0 ≤ a0) : (a0 = 0 ∨ a0 = 1) := by omega
theorem oq_d78581ae {a0 a1 a2 a3 a4 a5 a6 a7 a8 : Int} (h0 : a0 = a1) (h1 : a1 = a2) (h2 : a2 = a3) (h3 : a3 = a4) (h4 : a4 = a5) (h5 : a5 = a6) (h6 : a6 = a7) (h7 : a7 = a8) (h8 : a8 = 0) : a0 = 0 := by omega
theorem oq_ea4036f5 {a0 a1 a2 a3 a4 a5 a6 a7 a8 : Int} (h0 : a0 = a1) (h1 : a1 = a2) (h2 : a2 = a3) (h3 : a3 = a4) (h4 : a4 = a5) (h5 : a5 = a6) (h6 : a6 = a7) (h7 : a7 = a8) : a0 = a8 := by omega
theorem oq_b079aadb {a0 a1 a2 a3 a4 a5 a6 a7 a8 : Int} (h0 : a0 ≤ a1) (h1 : a0 = a2) (h2 : a2 = a3) (h3 : a4 ≤ a3) (h4 : a5 ≤ a4) (h5 : a5 = a6) (h6 : a6 = a7) (h7 : a8 ≤ a7) : a8 ≤ a1 := by omega
theorem oq_b4090cb0 {a0 a1 a2 a3 a4 a5 a6 a7 a8 a9 a10 a11 a12 a13 a14 a15 : Int} (h0 : (a0 = a1 ∨ a0 ≤ a2)) (h1 : a3 ≠ 0) (h2 : a2 = a4) (h3 : a1 = a5) (h4 : 0 ≤ a3) (h5 : ((a6 ≠ a7 ∧ a3 = 0) ∨ (a6 = a7 ∧ a3 = 1))) (h6 : a4 = a8) (h7 : a5 = a9) (h8 : 1 ≤ a7) (h9 : a8 = a10) (h10 : (a6 ≠ 0 → a9 < a10)) (h11 : a10 = a11) (h12 : a11 = a12) (h13 : a12 = a13) (h14 : a13 = a14) (h15 : a14 ≤ 200) : (a0 = a15 ∨ a0 ≤ 202) := by omega
theorem oq_da09f5eb {a0 a1 a2 a3 a4 a5 a6 a7 : Int} (h0 : a0 = a1) (h1 : a1 = a2) (h2 : a2 = a3) (h3 : a3 = a4) (h4 : a4 = a5) (h5 : a5 = a6) (h6 : a6 = a7) (h7 : a7 = 0) : a0 = 0 := by omega
theorem oq_cc03667a {a0 a1 a2 a3 a4 a5 a6 a7 : Int} (h0 : a0 = a1) (h1 : a1 = a2) (h2 : a2 = a3) (h3 : a3 = a4) (h4 : a4 = a5) (h5 : a5 = a6) (h6 : a6 = a7) : a0 = a7 := by omega
theorem oq_36dfd998 {a0 a1 a2 a3 a4 a5 a6 a7 : Int} (h0 : a0 = a1) (h1 : a1 = a2) (h2 : a3 ≤ a2) (h3 : a4 ≤ a3) (h4 : a4 = a5) (h5 : a5 = a6) (h6 : a7 ≤ a6) : a7 ≤ a0 := by omega
theorem oq_d44ebbf7 {a0 a1 a2 a3 a4 a5 a6 a7 a8 a9 a10 a11 a12 : Int} (h0 : a0 = a1) (h1 : a1 = a2) (h2 : (a2 = a3 ∨ a2 ≤ a4)) (h3 : a4 = a5) (h4 : (a3 = a6 ∨ a3 ≤ a5)) (h5 : a5 = a7) (h6 : a6 = a8) (h7 : a7 = a9) (h8 : a8 = a10) (h9 : a9 = a11) (h10 : (a10 = a12 ∨ a10 ≤ a11)) (h11 : a11 ≤ 200) (h12 : a12 ≤ 203) : (a0 = a12 ∨ a0 ≤ 202) := by omega
theorem oq_1a5d66c6 {a0 a1 a2 a3 a4 a5 a6 a7 a8 a9 a10 : Int} (h0 : a0 ≠ 0) (h1 : 0 ≤ a0) (h2 : ((a1 ≠ a2 ∧ a0 = 0) ∨ (a1 = a2 ∧ a0 = 1))) (h3 : a3 = a4) (h4 : 1 ≤ a2) (h5 : a4 = a5) (h6 : (a1 ≠ 0 → a5 < a6)) (h7 : a6 = a7) (h8 : a7 = a8) (h9 : a8 = a9) (h10 : a9 = a10) (h11 : a10 ≤ 200) : a3 ≤ 390 := by omega
theorem oq_666409b7 {a0 a1 a2 a3 a4 a5 a6 a7 a8 a9 a10 a11 a12 a13 a14 a15 : Int} (h0 : (a0 = a1 ∨ a0 ≤ a2)) (h1 : a3 ≠ 0) (h2 : 0 ≤ a3) (h3 : ((a4 ≠ a5 ∧ a3 = 0) ∨ (a4 = a5 ∧ a3 = 1))) (h4 : a2 = a6) (h5 : a1 = a7) (h6 : 1 ≤ a5) (h7 : a6 = a8) (h8 : a7 = a9) (h9 : a8 = a10) (h10 : (a4 ≠ 0 → a9 < a10)) (h11 : a10 = a11) (h12 : a11 = a12) (h13 : a12 = a13) (h14 : a13 = a14) (h15 : a14 ≤ 200) : (a0 = a15 ∨ a0 ≤ 202) := by omega
theorem oq_4a8f9197 {a0 a1 a2 a3 a4 a5 a6 a7 : Int} (h0 : a0 ≠ (-1)) (h1 : (a1 = a2 ∨ a1 ≤ a3)) (h2 : a3 = a4) (h3 : (a0 ≠ (-1) → a2 < a4)) (h4 : (-1) ≤ a0) (h5 : a4 = a5) (h6 : a5 = a6) (h7 : a6 = a7) (h8 : a7 ≤ 200) : a1 ≤ 390 := by omega
theorem oq_7a1025bf {a0 : Int} (h0 : a0 ≠ (-1)) (h1 : (-1) ≤ a0) : 0 ≤ a0 := by omega
theorem oq_dd54da3a {a0 : Int} (h0 : a0 ≤ 6) : a0 < 7 := by omega
theorem oq_de29a9d3 {a0 : Int} (h0 : a0 ≤ 6) : (a0 : Int).toNat < 7 := by omega
theorem oq_4df13a51 {a0 a1 a2 a3 a4 a5 a6 : Int} (h0 : a0 = a1) (h1 : a1 = a2) (h2 : a2 = a3) (h3 : a3 = a4) (h4 : a4 = a5) (h5 : a5 = a6) : a0 = a6 := by omega
theorem oq_001376a3 {a0 a1 a2 a3 a4 a5 a6 : Int} (h0 : a0 ≤ a1) (h1 : a2 ≤ a0) (h2 : a3 ≤ a2) (h3 : a3 = a4) (h4 : a4 = a5) (h5 : a6 ≤ a5) : a6 ≤ a1 := by omega
theorem oq_e8489aeb {a0 a1 a2 a3 a4 a5 a6 a7 a8 a9 a10 : Int} (h0 : (a0 = a1 ∨ a0 ≤ a2)) (h1 : a3 ≠ (-1)) (h2 : a2 = a4) (h3 : (a1 = a5 ∨ a1 ≤ a4)) (h4 : a4 = a6) (h5 : (a3 ≠ (-1) → a5 < a6)) (h6 : (-1) ≤ a3) (h7 : a6 = a7) (h8 : a7 = a8) (h9 : a8 = a9) (h10 : a9 ≤ 200) : (a0 = a10 ∨ a0 ≤ 202) := by omega
theorem oq_17e59443 {a0 a1 a2 a3 a4 a5 a6 a7 a8 a9 a10 : Int} (h0 : (a0 = a1 ∨ a0 ≤ a2)) (h1 : a3 ≠ (-1)) (h2 : a2 = a4) (h3 : (a1 = a5 ∨ a1 ≤ a4)) (h4 : a4 = a6) (h5 : (a3 ≠ (-1) → a5 < a6)) (h6 : (-1) ≤ a3) (h7 : a6 = a7) (h8 : a7 = a8) (h9 : a8 = a9) : (a10 = 0 → a0 ≤ a9) := by omega
theorem oq_f38f7bb4 {a0 a1 a2 a3 a4 a5 a6 : Int} (h0 : a0 ≠ 0) (h1 : a1 = a2) (h2 : ((a0 = 1 ∧ (48 ≤ a3 ∧ a3 ≤ 57)) ∨ (a0 = 0 ∧ (a3 < 48 ∨ 57 < a3)))) (h3 : a2 = a4) (h4 : ((a5 ≤ a4 ∧ a3 = (-1)) ∨ (a4 < a5 ∧ (0 ≤ a3 ∧ a3 ≤ 255)))) (h5 : a5 = a6) (h6 : a6 ≤ 200) : a1 ≤ 390 := by omega
theorem oq_aa449917 (r : Nat) : 8 + (5 + 11) + 141 ≤ (500 + 45 * (3 * (r + 1))) := by omega
theorem oq_2277db11 {a0 a1 a2 a3 a4 : Int} (h0 : a0 ≤ a1) (h1 : a0 = a2) (h2 : a2 = a3) (h3 : a4 ≤ a3) : a4 ≤ a1 := by omega
theorem oq_0bc52997 {a0 a1 a2 a3 a4 a5 a6 a7 a8 a9 a10 : Int} (h0 : (a0 = a1 ∨ a0 ≤ a2)) (h1 : a3 ≠ 0) (h2 : a2 = a4) (h3 : a1 = a5) (h4 : ((a3 = 1 ∧ (48 ≤ a6 ∧ a6 ≤ 57)) ∨ (a3 = 0 ∧ (a6 < 48 ∨ 57 < a6)))) (h5 : a4 = a7) (h6 : a5 = a8) (h7 : ((a7 ≤ a8 ∧ a6 = (-1)) ∨ (a8 < a7 ∧ (0 ≤ a6 ∧ a6 ≤ 255)))) (h8 : a7 = a9) (h9 : a9 ≤ 200) : (a0 = a10 ∨ a0 ≤ 202) := by omega
theorem oq_7780b1ef {a0 a1 a2 a3 a4 a5 a6 a7 a8 a9 a10 : Int} (h0 : (a0 = a1 ∨ a0 ≤ a2)) (h1 : a3 ≠ 0) (h2 : a2 = a4) (h3 : a1 = a5) (h4 : ((a3 = 1 ∧ (48 ≤ a6 ∧ a6 ≤ 57)) ∨ (a3 = 0 ∧ (a6 < 48 ∨ 57 < a6)))) (h5 : a4 = a7) (h6 : a5 = a8) (h7 : ((a7 ≤ a8 ∧ a6 = (-1)) ∨ (a8 < a7 ∧ (0 ≤ a6 ∧ a6 ≤ 255)))) (h8 : a7 = a9) : (a10 = 0 → a0 ≤ a9) := by omega
theorem oq_c5ba317c (r : Nat) : 6 + 1 ≤ (12 + (3 * (r) + 1)) := by omega
theorem oq_93533a98 (r : Nat) : 8 + (2 + 11) + 100 ≤ (500 + 45 * (3 * (r) + 1)) := by omega
theorem oq_9aa81982 {a0 a1 a2 a3 a4 : Int} (h0 : a0 = a1) (h1 : a2 = 42) (h2 : a1 = a3) (h3 : ((a4 ≤ a3 ∧ a2 = (-1)) ∨ (a3 < a4 ∧ (0 ≤ a2 ∧ a2 ≤ 255)))) (h4 : a4 ≤ 200) : (a0 + 1) ≤ 400 := by omega
theorem oq_07b3b4af {a0 a1 a2 a3 a4 a5 : Int} (h0 : a0 = (a1 + 1)) (h1 : a1 = a2) (h2 : a3 = 42) (h3 : a2 = a4) (h4 : ((a5 ≤ a4 ∧ a3 = (-1)) ∨ (a4 < a5 ∧ (0 ≤ a3 ∧ a3 ≤ 255)))) (h5 : a5 ≤ 200) : a0 ≤ 203 := by omega
theorem oq_c128dca8 {a0 a1 a2 a4 a5 : Int} {n3 : Nat} (h0 : a0 = a1) (h1 : (a2 + ((n3 : Nat) : Int)) = 7) (h2 : a1 = a4) (h3 : a4 = a5) (h4 : a5 = a2) : (a0 + ((n3 : Nat) : Int)) = 7 := by omega
theorem oq_022cbb1f {a0 a1 a2 a3 a4 a5 a6 a7 : Int} (h0 : a0 = a1) (h1 : a1 = a2) (h2 : a2 = a3) (h3 : a4 = 0) (h4 : (a5 ≠ 0 → a4 ≠ 0)) (h5 : a3 = a6) (h6 : 0 ≤ a5) (h7 : (a6 = 7 → a5 ≠ 0)) : (a0 = 7 → a7 ≠ 0) := by omega
theorem oq_5e3fa304 (r : Nat) : (12 + (3 * (r))) + 1 ≤ (12 + (3 * (r) + 1)) := by omega
theorem oq_ea5e6b1c (r : Nat) : 8 + (7 + 11) + (500 + 45 * (3 * (r))) ≤ (500 + 45 * (3 * (r) + 1)) := by omega
theorem oq_85883ae7 {a0 a1 a2 a3 a4 a5 a6 : Int} (h0 : (a0 = a1 ∨ a0 ≤ 202)) (h1 : a1 = (a2 + 1)) (h2 : a2 = a3) (h3 : a4 = 42) (h4 : a3 = a5) (h5 : ((a6 ≤ a5 ∧ a4 = (-1)) ∨ (a5 < a6 ∧ (0 ≤ a4 ∧ a4 ≤ 255)))) (h6 : a6 ≤ 200) : a0 ≤ 390 := by omega
theorem oq_4609964d (r : Nat) : 7 + 1 ≤ (12 + (3 * (r) + 1)) := by omega
theorem oq_12dd44ff (r : Nat) : 8 + (1 + 11) + 121 ≤ (500 + 45 * (3 * (r) + 1)) := by omega
theorem oq_eb1873c8 {a0 a1 a2 a3 a4 a5 a6 : Int} (h0 : a0 ≤ a1) (h1 : a2 ≤ a0) (h2 : a2 = (a3 + 1)) (h3 : a3 = a4) (h4 : a4 = a5) (h5 : a6 ≤ a5) : a6 ≤ a1 := by omega
theorem oq_b21decb8 {a0 a1 a2 a3 a4 a5 a6 a7 a8 a9 a10 a11 a12 : Int} (h0 : (a0 = a1 ∨ a0 ≤ a2)) (h1 : a2 = a3) (h2 : (a1 = a4 ∨ a1 ≤ 202)) (h3 : a3 = a5) (h4 : a4 = (a6 + 1)) (h5 : a5 = a7) (h6 : a6 = a8) (h7 : a9 = 42) (h8 : a7 = a10) (h9 : a8 = a11) (h10 : ((a10 ≤ a11 ∧ a9 = (-1)) ∨ (a11 < a10 ∧ (0 ≤ a9 ∧ a9 ≤ 255)))) (h11 : a10 ≤ 200) : (a0 = a12 ∨ a0 ≤ 202) := by omega
theorem oq_2492eb85 {a0 a1 a2 a3 a4 a5 a6 a7 a8 a9 : Int} (h0 : a0 = a1) (h1 : (a2 = a3 ∨ a2 ≤ a4)) (h2 : 0 ≤ a1) (h3 : a4 = a5) (h4 : (a1 = 0 → a3 ≤ a5)) (h5 : a5 = a6) (h6 : a6 = a7) (h7 : a7 = a8) (h8 : a8 = a9) : (a0 = 0 → a2 ≤ a9) := by omega
theorem oq_dbad9805 {a0 a1 a2 a3 a4 a5 a6 a7 a8 a9 a10 a11 : Int} (h0 : a0 = a1) (h1 : a2 ≤ a3) (h2 : a1 = a4) (h3 : a5 ≤ a2) (h4 : a4 = a6) (h5 : a5 = (a7 + 1)) (h6 : a6 = a8) (h7 : a7 = a9) (h8 : a8 = a10) (h9 : a9 = a11) : (a0 - a3) < (a10 - a11) := by omega
theorem oq_79c62f09 {a0 a1 a2 : Int} (h0 : a0 = 42) (h1 : ((a1 ≤ a2 ∧ a0 = (-1)) ∨ (a2 < a1 ∧ (0 ≤ a0 ∧ a0 ≤ 255)))) : 0 < (a1 - a2) := by omega
theorem oq_8d8577c7 {a0 a1 a2 a3 a4 a5 a6 : Int} (h0 : a0 = 42) (h1 : (a1 = a2 ∨ a1 ≤ 202)) (h2 : a2 = (a3 + 1)) (h3 : a3 = a4) (h4 : ((a5 ≤ a4 ∧ a0 = (-1)) ∨ (a4 < a5 ∧ (0 ≤ a0 ∧ a0 ≤ 255)))) (h5 : a5 = a6) (h6 : a6 ≤ 200) : a1 ≤ 390 := by omega
theorem oq_86650467 {a0 a1 a2 a3 a4 a5 a6 a7 a8 a9 a10 a11 : Int} (h0 : (a0 = a1 ∨ a0 ≤ a2)) (h1 : a3 = 42) (h2 : a2 = a4) (h3 : (a1 = a5 ∨ a1 ≤ 202)) (h4 : a4 = a6) (h5 : a5 = (a7 + 1)) (h6 : a6 = a8) (h7 : a7 = a9) (h8 : ((a8 ≤ a9 ∧ a3 = (-1)) ∨ (a9 < a8 ∧ (0 ≤ a3 ∧ a3 ≤ 255)))) (h9 : a8 = a10) (h10 : a10 ≤ 200) : (a0 = a11 ∨ a0 ≤ 202) := by omega
theorem oq_67b87371 {a0 a1 a2 a3 a4 : Int} (h0 : a0 = 42) (h1 : ((a1 ≤ a2 ∧ a0 = (-1)) ∨ (a2 < a1 ∧ (0 ≤ a0 ∧ a0 ≤ 255)))) (h2 : a1 = a3) (h3 : a2 = a4) : 0 < (a3 - a4) := by omega
theorem oq_878618b1 {a0 a1 a2 a3 : Int} (h0 : a0 = a1) (h1 : a1 = a2) (h2 : a2 = a3) : a0 = a3 := by omega
theorem oq_89653d58 {a0 a1 a2 a3 : Int} (h0 : a0 = a1) (h1 : a1 = a2) (h2 : (a2 = a3 ∨ a2 ≤ 202)) (h3 : a3 ≤ 203) : (a0 = a3 ∨ a0 ≤ 202) := by omega
theorem oq_8d1ca4d6 {a0 a1 a2 a3 a4 a5 : Int} (h0 : a0 = a1) (h1 : a1 = a2) (h2 : a3 = 0) (h3 : (a3 = 0 → a2 ≤ a4)) : (a5 = 0 → a0 ≤ a4) := by omega
theorem oq_574c31e4 {a0 a1 a2 a3 a4 a5 : Int} (h0 : a0 = a1) (h1 : a2 = 47) (h2 : a1 = a3) (h3 : ((a4 ≤ a3 ∧ a2 = (-1)) ∨ (a3 < a4 ∧ (0 ≤ a2 ∧ a2 ≤ 255)))) (h4 : a4 = a5) (h5 : a5 ≤ 200) : (a0 + 1) ≤ 400 := by omega
theorem oq_999a8fc0 {a0 a1 a2 a3 a4 a5 a6 : Int} (h0 : a0 = (a1 + 1)) (h1 : a1 = a2) (h2 : a3 = 47) (h3 : a2 = a4) (h4 : ((a5 ≤ a4 ∧ a3 = (-1)) ∨ (a4 < a5 ∧ (0 ≤ a3 ∧ a3 ≤ 255)))) (h5 : a5 = a6) (h6 : a6 ≤ 200) : a0 ≤ 203 := by omega
theorem oq_0ef7b38f {a0 a1 a2 a3 a4 a5 : Int} {n6 : Nat} (h0 : a0 = a1) (h1 : a1 = a2) (h2 : a2 = a3) (h3 : a3 = a4) (h4 : a4 = a5) (h5 : (a5 + ((n6 : Nat) : Int)) = 7) : (a0 + ((n6 : Nat) : Int)) = 7 := by omega
theorem oq_63e554e6 {a0 a1 a2 a3 a4 a5 a6 a7 a8 : Int} (h0 : a0 = a1) (h1 : a1 = a2) (h2 : a2 = a3) (h3 : a3 = a4) (h4 : a5 = 0) (h5 : (a6 ≠ 0 → a5 ≠ 0)) (h6 : a4 = a7) (h7 : 0 ≤ a6) (h8 : (a7 = 7 → a6 ≠ 0)) : (a0 = 7 → a8 ≠ 0) := by omega
theorem oq_2d2a94a1 {a0 a1 a2 a3 a4 a5 a6 a7 : Int} (h0 : (a0 = a1 ∨ a0 ≤ 202)) (h1 : a1 = (a2 + 1)) (h2 : a2 = a3) (h3 : a4 = 47) (h4 : a3 = a5) (h5 : ((a6 ≤ a5 ∧ a4 = (-1)) ∨ (a5 < a6 ∧ (0 ≤ a4 ∧ a4 ≤ 255)))) (h6 : a6 = a7) (h7 : a7 ≤ 200) : a0 ≤ 390 := by omega
theorem oq_e6d99423 {a0 a1 a2 a3 a4 a5 a6 a7 : Int} (h0 : a0 ≤ a1) (h1 : a2 ≤ a0) (h2 : a2 = (a3 + 1)) (h3 : a3 = a4) (h4 : a4 = a5) (h5 : a5 = a6) (h6 : a7 ≤ a6) : a7 ≤ a1 := by omega
theorem oq_f214732b {a0 a1 a2 a3 a4 a5 a6 a7 a8 a9 a10 a11 a12 a13 : Int} (h0 : (a0 = a1 ∨ a0 ≤ a2)) (h1 : a2 = a3) (h2 : (a1 = a4 ∨ a1 ≤ 202)) (h3 : a3 = a5) (h4 : a4 = (a6 + 1)) (h5 : a5 = a7) (h6 : a6 = a8) (h7 : a9 = 47) (h8 : a7 = a10) (h9 : a8 = a11) (h10 : ((a10 ≤ a11 ∧ a9 = (-1)) ∨ (a11 < a10 ∧ (0 ≤ a9 ∧ a9 ≤ 255)))) (h11 : a10 = a12) (h12 : a12 ≤ 200) : (a0 = a13 ∨ a0 ≤ 202) := by omega
theorem oq_b386ed3e {a0 a1 a2 a3 a4 a5 a6 a7 a8 a9 a10 : Int} (h0 : a0 = a1) (h1 : (a2 = a3 ∨ a2 ≤ a4)) (h2 : 0 ≤ a1) (h3 : a4 = a5) (h4 : (a1 = 0 → a3 ≤ a5)) (h5 : a5 = a6) (h6 : a6 = a7) (h7 : a7 = a8) (h8 : a8 = a9) (h9 : a9 = a10) : (a0 = 0 → a2 ≤ a10) := by omega
theorem oq_9fb54090 {a0 a1 a2 a3 a4 a5 a6 a7 a8 a9 a10 a11 a12 a13 : Int} (h0 : a0 = a1) (h1 : a2 ≤ a3) (h2 : a1 = a4) (h3 : a5 ≤ a2) (h4 : a4 = a6) (h5 : a5 = (a7 + 1)) (h6 : a6 = a8) (h7 : a7 = a9) (h8 : a8 = a10) (h9 : a9 = a11) (h10 : a10 = a12) (h11 : a11 = a13) : (a0 - a3) < (a12 - a13) := by omega
theorem oq_0e0f7a94 {a0 a1 a2 a3 a4 a5 a6 a7 : Int} (h0 : ((a0 ≤ a1 ∧ a2 = (-1)) ∨ (a1 < a0 ∧ (0 ≤ a2 ∧ a2 ≤ 255)))) (h1 : a3 = 47) (h2 : a0 = a4) (h3 : a1 = a5) (h4 : ((a4 ≤ a5 ∧ a3 = (-1)) ∨ (a5 < a4 ∧ (0 ≤ a3 ∧ a3 ≤ 255)))) (h5 : a4 = a6) (h6 : a5 = a7) : 0 < (a6 - a7) := by omega
theorem oq_7e60500e {a0 a1 a2 a3 a4 a5 a6 a7 : Int} (h0 : a0 = 42) (h1 : (a1 = a2 ∨ a1 ≤ 202)) (h2 : a2 = (a3 + 1)) (h3 : a3 = a4) (h4 : ((a5 ≤ a4 ∧ a0 = (-1)) ∨ (a4 < a5 ∧ (0 ≤ a0 ∧ a0 ≤ 255)))) (h5 : a5 = a6) (h6 : a6 = a7) (h7 : a7 ≤ 200) : a1 ≤ 390 := by omega
theorem oq_9ffce73e {a0 a1 a2 a3 a4 a5 a6 a7 a8 a9 a10 a11 a12 : Int} (h0 : (a0 = a1 ∨ a0 ≤ a2)) (h1 : a3 = 42) (h2 : a2 = a4) (h3 : (a1 = a5 ∨ a1 ≤ 202)) (h4 : a4 = a6) (h5 : a5 = (a7 + 1)) (h6 : a6 = a8) (h7 : a7 = a9) (h8 : ((a8 ≤ a9 ∧ a3 = (-1)) ∨ (a9 < a8 ∧ (0 ≤ a3 ∧ a3 ≤ 255)))) (h9 : a8 = a10) (h10 : a10 = a11) (h11 : a11 ≤ 200) : (a0 = a12 ∨ a0 ≤ 202) := by omega
theorem oq_73c50fe3 {a0 a1 a2 a3 a4 a5 a6 : Int} (h0 : a0 = 42) (h1 : ((a1 ≤ a2 ∧ a0 = (-1)) ∨ (a2 < a1 ∧ (0 ≤ a0 ∧ a0 ≤ 255)))) (h2 : a1 = a3) (h3 : a2 = a4) (h4 : a3 = a5) (h5 : a4 = a6) : 0 < (a5 - a6) := by omega
theorem oq_f8a2cf0e {a0 a1 a2 : Int} (h0 : a0 ≤ a1) (h1 : a2 ≤ a0) : a2 ≤ a1 := by omega
theorem oq_848e1c5b {a0 a1 a2 a3 a4 : Int} (h0 : (a0 = a1 ∨ a0 ≤ a2)) (h1 : a2 = a3) (h2 : (a1 = a4 ∨ a1 ≤ 202)) (h3 : a3 ≤ 200) (h4 : a4 ≤ 203) : (a0 = a4 ∨ a0 ≤ 202) := by omega
theorem oq_ce34312c {a0 a1 a2 a3 a4 a5 : Int} (h0 : a0 = a1) (h1 : (a2 = a3 ∨ a2 ≤ a4)) (h2 : 0 ≤ a1) (h3 : a4 = a5) (h4 : (a1 = 0 → a3 ≤ a5)) : (a0 = 0 → a2 ≤ a5) := by omega
theorem oq_44aaa93c (r : Nat) : 6 + 1 ≤ (12 + (3 * (r) + 2)) := by omega
theorem oq_3a43be2e (r : Nat) : 8 + (2 + 11) + 100 ≤ (500 + 45 * (3 * (r) + 2)) := by omega
theorem oq_30133c95 {a0 a1 a2 a3 a4 : Int} (h0 : a0 = a1) (h1 : a2 = 43) (h2 : a1 = a3) (h3 : ((a4 ≤ a3 ∧ a2 = (-1)) ∨ (a3 < a4 ∧ (0 ≤ a2 ∧ a2 ≤ 255)))) (h4 : a4 ≤ 200) : (a0 + 1) ≤ 400 := by omega
theorem oq_cc299af3 {a0 a1 a2 a3 a4 a5 : Int} (h0 : a0 = (a1 + 1)) (h1 : a1 = a2) (h2 : a3 = 43) (h3 : a2 = a4) (h4 : ((a5 ≤ a4 ∧ a3 = (-1)) ∨ (a4 < a5 ∧ (0 ≤ a3 ∧ a3 ≤ 255)))) (h5 : a5 ≤ 200) : a0 ≤ 203 := by omega
theorem oq_2a2b55d9 (r : Nat) : (12 + (3 * (r) + 1)) + 1 ≤ (12 + (3 * (r) + 2)) := by omega
theorem oq_6b10c96c (r : Nat) : 8 + (4 + 11) + (500 + 45 * (3 * (r) + 1)) ≤ (500 + 45 * (3 * (r) + 2)) := by omega
theorem oq_8757d0fb {a0 a1 a2 a3 a4 a5 a6 : Int} (h0 : (a0 = a1 ∨ a0 ≤ 202)) (h1 : a1 = (a2 + 1)) (h2 : a2 = a3) (h3 : a4 = 43) (h4 : a3 = a5) (h5 : ((a6 ≤ a5 ∧ a4 = (-1)) ∨ (a5 < a6 ∧ (0 ≤ a4 ∧ a4 ≤ 255)))) (h6 : a6 ≤ 200) : a0 ≤ 390 := by omega
theorem oq_eb6f61dd (r : Nat) : 7 + 1 ≤ (12 + (3 * (r) + 2)) := by omega
theorem oq_fbd0a6ff (r : Nat) : 8 + (1 + 11) + 121 ≤ (500 + 45 * (3 * (r) + 2)) := by omega
theorem oq_d271c21e {a0 a1 a2 a3 a4 a5 a6 a7 a8 a9 a10 a11 a12 : Int} (h0 : (a0 = a1 ∨ a0 ≤ a2)) (h1 : a2 = a3) (h2 : (a1 = a4 ∨ a1 ≤ 202)) (h3 : a3 = a5) (h4 : a4 = (a6 + 1)) (h5 : a5 = a7) (h6 : a6 = a8) (h7 : a9 = 43) (h8 : a7 = a10) (h9 : a8 = a11) (h10 : ((a10 ≤ a11 ∧ a9 = (-1)) ∨ (a11 < a10 ∧ (0 ≤ a9 ∧ a9 ≤ 255)))) (h11 : a10 ≤ 200) : (a0 = a12 ∨ a0 ≤ 202) := by omega
theorem oq_a3121327 {a0 a1 a2 : Int} (h0 : a0 = 43) (h1 : ((a1 ≤ a2 ∧ a0 = (-1)) ∨ (a2 < a1 ∧ (0 ≤ a0 ∧ a0 ≤ 255)))) : 0 < (a1 - a2) := by omega
theorem oq_8aa481ab {a0 a1 a2 a3 a4 a5 a6 : Int} (h0 : a0 = 43) (h1 : (a1 = a2 ∨ a1 ≤ 202)) (h2 : a2 = (a3 + 1)) (h3 : a3 = a4) (h4 : ((a5 ≤ a4 ∧ a0 = (-1)) ∨ (a4 < a5 ∧ (0 ≤ a0 ∧ a0 ≤ 255)))) (h5 : a5 = a6) (h6 : a6 ≤ 200) : a1 ≤ 390 := by omega
theorem oq_e2504a64 {a0 a1 a2 a3 a4 a5 a6 a7 a8 a9 a10 a11 : Int} (h0 : (a0 = a1 ∨ a0 ≤ a2)) (h1 : a3 = 43) (h2 : a2 = a4) (h3 : (a1 = a5 ∨ a1 ≤ 202)) (h4 : a4 = a6) (h5 : a5 = (a7 + 1)) (h6 : a6 = a8) (h7 : a7 = a9) (h8 : ((a8 ≤ a9 ∧ a3 = (-1)) ∨ (a9 < a8 ∧ (0 ≤ a3 ∧ a3 ≤ 255)))) (h9 : a8 = a10) (h10 : a10 ≤ 200) : (a0 = a11 ∨ a0 ≤ 202) := by omega
theorem oq_18c9c2b0 {a0 a1 a2 a3 a4 : Int} (h0 : a0 = 43) (h1 : ((a1 ≤ a2 ∧ a0 = (-1)) ∨ (a2 < a1 ∧ (0 ≤ a0 ∧ a0 ≤ 255)))) (h2 : a1 = a3) (h3 : a2 = a4) : 0 < (a3 - a4) := by omega
theorem oq_1758a444 {a0 a1 a2 a3 a4 a5 : Int} (h0 : a0 = a1) (h1 : a2 = 45) (h2 : a1 = a3) (h3 : ((a4 ≤ a3 ∧ a2 = (-1)) ∨ (a3 < a4 ∧ (0 ≤ a2 ∧ a2 ≤ 255)))) (h4 : a4 = a5) (h5 : a5 ≤ 200) : (a0 + 1) ≤ 400 := by omega
theorem oq_70789eed {a0 a1 a2 a3 a4 a5 a6 : Int} (h0 : a0 = (a1 + 1)) (h1 : a1 = a2) (h2 : a3 = 45) (h3 : a2 = a4) (h4 : ((a5 ≤ a4 ∧ a3 = (-1)) ∨ (a4 < a5 ∧ (0 ≤ a3 ∧ a3 ≤ 255)))) (h5 : a5 = a6) (h6 : a6 ≤ 200) : a0 ≤ 203 := by omega
theorem oq_c19965e6 {a0 a1 a2 a3 a4 a5 a6 a7 : Int} (h0 : (a0 = a1 ∨ a0 ≤ 202)) (h1 : a1 = (a2 + 1)) (h2 : a2 = a3) (h3 : a4 = 45) (h4 : a3 = a5) (h5 : ((a6 ≤ a5 ∧ a4 = (-1)) ∨ (a5 < a6 ∧ (0 ≤ a4 ∧ a4 ≤ 255)))) (h6 : a6 = a7) (h7 : a7 ≤ 200) : a0 ≤ 390 := by omega
theorem oq_3f2eaa11 {a0 a1 a2 a3 a4 a5 a6 a7 a8 a9 a10 a11 a12 a13 : Int} (h0 : (a0 = a1 ∨ a0 ≤ a2)) (h1 : a2 = a3) (h2 : (a1 = a4 ∨ a1 ≤ 202)) (h3 : a3 = a5) (h4 : a4 = (a6 + 1)) (h5 : a5 = a7) (h6 : a6 = a8) (h7 : a9 = 45) (h8 : a7 = a10) (h9 : a8 = a11) (h10 : ((a10 ≤ a11 ∧ a9 = (-1)) ∨ (a11 < a10 ∧ (0 ≤ a9 ∧ a9 ≤ 255)))) (h11 : a10 = a12) (h12 : a12 ≤ 200) : (a0 = a13 ∨ a0 ≤ 202) := by omega
theorem oq_6f194061 {a0 a1 a2 a3 a4 a5 a6 a7 : Int} (h0 : ((a0 ≤ a1 ∧ a2 = (-1)) ∨ (a1 < a0 ∧ (0 ≤ a2 ∧ a2 ≤ 255)))) (h1 : a3 = 45) (h2 : a0 = a4) (h3 : a1 = a5) (h4 : ((a4 ≤ a5 ∧ a3 = (-1)) ∨ (a5 < a4 ∧ (0 ≤ a3 ∧ a3 ≤ 255)))) (h5 : a4 = a6) (h6 : a5 = a7) : 0 < (a6 - a7) := by omega
theorem oq_e4969bb2 {a0 a1 a2 a3 a4 a5 a6 a7 : Int} (h0 : a0 = 43) (h1 : (a1 = a2 ∨ a1 ≤ 202)) (h2 : a2 = (a3 + 1)) (h3 : a3 = a4) (h4 : ((a5 ≤ a4 ∧ a0 = (-1)) ∨ (a4 < a5 ∧ (0 ≤ a0 ∧ a0 ≤ 255)))) (h5 : a5 = a6) (h6 : a6 = a7) (h7 : a7 ≤ 200) : a1 ≤ 390 := by omega
theorem oq_5f319874 {a0 a1 a2 a3 a4 a5 a6 a7 a8 a9 a10 a11 a12 : Int} (h0 : (a0 = a1 ∨ a0 ≤ a2)) (h1 : a3 = 43) (h2 : a2 = a4) (h3 : (a1 = a5 ∨ a1 ≤ 202)) (h4 : a4 = a6) (h5 : a5 = (a7 + 1)) (h6 : a6 = a8) (h7 : a7 = a9) (h8 : ((a8 ≤ a9 ∧ a3 = (-1)) ∨ (a9 < a8 ∧ (0 ≤ a3 ∧ a3 ≤ 255)))) (h9 : a8 = a10) (h10 : a10 = a11) (h11 : a11 ≤ 200) : (a0 = a12 ∨ a0 ≤ 202) := by omega
theorem oq_238fe47c {a0 a1 a2 a3 a4 a5 a6 : Int} (h0 : a0 = 43) (h1 : ((a1 ≤ a2 ∧ a0 = (-1)) ∨ (a2 < a1 ∧ (0 ≤ a0 ∧ a0 ≤ 255)))) (h2 : a1 = a3) (h3 : a2 = a4) (h4 : a3 = a5) (h5 : a4 = a6) : 0 < (a5 - a6) := by omega
/-! Determined: sums -/
def rkR (n : Nat) : Room := { frames := 12 + n, locals := 500 + 45 * n, cells := 0, slots := 0 }
section M43
variable {l : Launch} {s0 : State} {D : va_G} {tys : List (ClassId × FieldType)} {a0 : Array Value} {A : Nat → Nat} {dT : Nat → ClassId} {s : PS}
set_option maxHeartbeats 16000000 in
theorem d_unit0 (G : GX l s0 D tys a0 dT) (I : Bd s) (p0 : iI s 77 ≤ 203) (p1 : iI s 78 + ((0 : Nat) : Int) = 7) (p2 : iI s 78 = 7 → iI s 79 ≠ 0) {T : TT} (hti : ∀ q ∈ ([77, 75, 78, 79, 81] : List Nat), T.1 q) (hta : ∀ a ∈ ([157, 158, 161] : List Nat), ∀ j, j < (bA a).2.2 → T.2 a j) : CD l s0 D A dT 207 (rkR (3 * (0))) [77, 79, 80, 78] [] T (T) [.ref (A 179)] s (fun o t => Bd t ∧ Fm [77, 79, 80, 78] [] s t ∧ ∃ e, o = .inl (some (.int (Int32.ofInt e))) ∧ rng e ∧ (iI t 78 = iI s 78 ∧ iI s 77 ≤ iI t 77 ∧ (iI t 77 = iI s 77 ∨ iI t 77 ≤ 202) ∧ (iI s 79 ≠ 0 → iI t 79 ≠ 0) ∧ (iI t 79 = 0 → iI t 77 ≤ iI s 75))) := by
  refine cd_of G (by decide) (Nat.le_of_ble_eq_true rfl) (fun Q hQ => ?_)
  have I0 := I
  show DS l s0 D A dT 207 (rkR (3 * (0))) [77, 79, 80, 78] [] (T) Q (T) 0 [(0, .ref (A 179))] [] s
  have F : Fm [77, 79, 80, 78] [] s s := fm_rf _ _ s
  have b1 := bi_77 I
  have b2 := bi_75 I
  have b3 := bi_79 I
  have b4 := bi_78 I
  refine d_lift (fun k ws X h => z_aload_n X (x := A 179) rfl (List.Mem.head _) h) (d_getI 179 rfl (by decide) rfl rfl (hti 79 (by decide)) ?_)
  have b5 := bi_79 I
  refine d_br (bo_eq _ _) bx_eq (fun k ws X h1 h2 => z_if_eq X (t := 9) rfl (by decide) (rng_to _) h1 h2) (fun g6 => ?_) (fun g6 => ?_)
  ·
    exfalso
    omega
  ·
    refine d_lift (fun k ws X h => z_const X rfl h) ?_
    exact d_iret rfl rfl (Or.inl rfl) rfl (fun _ h => h) (hQ _ _ ⟨I, F, 0, rfl, (by decide), by first | exact ⟨by decide, by decide, Or.inl (by decide), oq_4bed1c3e g6 b5.1, oq_6a3c9b31 g6 b5.1⟩ | omega⟩)
set_option maxHeartbeats 16000000 in
theorem d_unitS (G : GX l s0 D tys a0 dT) {r : Nat} (hS : ∀ {s : PS} {T : TT}, Bd s → (iI s 77 ≤ 203) → (iI s 78 + ((r : Nat) : Int) = 7) → (iI s 78 = 7 → iI s 79 ≠ 0) → (∀ q ∈ ([77, 75, 78, 79, 81] : List Nat), T.1 q) → (∀ a ∈ ([157, 158, 161] : List Nat), ∀ j, j < (bA a).2.2 → T.2 a j) → CD l s0 D A dT 209 (rkR (3 * (r) + 2)) [77, 79, 80, 78] [] T T [.ref (A 179)] s (fun o t => Bd t ∧ Fm [77, 79, 80, 78] [] s t ∧ ∃ e, o = .inl (some (.int (Int32.ofInt e))) ∧ rng e ∧ (iI t 78 = iI s 78 ∧ iI s 77 ≤ iI t 77 ∧ (iI t 77 = iI s 77 ∨ iI t 77 ≤ 202) ∧ (iI s 79 ≠ 0 → iI t 79 ≠ 0) ∧ (iI t 79 = 0 → iI t 77 ≤ iI s 75)))) (I : Bd s) (p0 : iI s 77 ≤ 203) (p1 : iI s 78 + ((r + 1 : Nat) : Int) = 7) (p2 : iI s 78 = 7 → iI s 79 ≠ 0) {T : TT} (hti : ∀ q ∈ ([77, 75, 78, 79, 81] : List Nat), T.1 q) (hta : ∀ a ∈ ([157, 158, 161] : List Nat), ∀ j, j < (bA a).2.2 → T.2 a j) : CD l s0 D A dT 207 (rkR (3 * (r + 1))) [77, 79, 80, 78] [] T (T) [.ref (A 179)] s (fun o t => Bd t ∧ Fm [77, 79, 80, 78] [] s t ∧ ∃ e, o = .inl (some (.int (Int32.ofInt e))) ∧ rng e ∧ (iI t 78 = iI s 78 ∧ iI s 77 ≤ iI t 77 ∧ (iI t 77 = iI s 77 ∨ iI t 77 ≤ 202) ∧ (iI s 79 ≠ 0 → iI t 79 ≠ 0) ∧ (iI t 79 = 0 → iI t 77 ≤ iI s 75))) := by
  refine cd_of G (by decide) (Nat.le_of_ble_eq_true rfl) (fun Q hQ => ?_)
  have I0 := I
  show DS l s0 D A dT 207 (rkR (3 * (r + 1))) [77, 79, 80, 78] [] (T) Q (T) 0 [(0, .ref (A 179))] [] s
  have F : Fm [77, 79, 80, 78] [] s s := fm_rf _ _ s
  have b1 := bi_77 I
  have b2 := bi_75 I
  have b3 := bi_79 I
  have b4 := bi_78 I
  have L206 : ∀ (t : PS) (v : Int), Bd t → Fm [77, 79, 80, 78] [] s t → (iI s 79 = 0 ∧ iI t 78 = iI s 78 + 1 ∧ iI s 77 ≤ iI t 77 ∧ iI t 77 ≤ 202 ∧ iI t 75 = iI s 75 ∧ rng v) → DS l s0 D A dT 207 (rkR (3 * (r + 1))) [77, 79, 80, 78] [] (T) Q (T) 206 [(0, .ref (A 179)), (5, .int (Int32.ofInt v))] [] t := by
    intro t v I F hi
    have b1001 := bi_77 I
    have b1002 := bi_75 I
    have b1003 := bi_79 I
    have b1004 := bi_78 I
    refine d_lift (fun k ws X h => z_aload_n X (x := A 179) rfl (List.Mem.head _) h) (d_lift (fun k ws X h => z_bipush X rfl h) (d_callV 179 (As := [.int (Int32.ofInt 41)]) (st := []) rfl rfl (by decide) rfl (d_sign G I (by first | exact ⟨by decide, by decide⟩ | omega) (by first | exact oq_99d3c924 hi.2.2.2.1 | omega) (fun q h => hti q ((by decide : ∀ q ∈ ([77, 75, 78, 79, 81] : List Nat), q ∈ ([77, 75, 78, 79, 81] : List Nat)) q h)) (fun a h => hta a ((by decide : ∀ q ∈ ([157, 158, 161] : List Nat), q ∈ ([157, 158, 161] : List Nat)) a h))) ⟨rfl, rfl⟩ ⟨(show 8 + 1 ≤ (12 + (3 * (r + 1))) from oq_0f4637ff r), (show 8 + (mNL (miB 204) + 11) + 141 ≤ (500 + 45 * (3 * (r + 1))) from oq_673d70d0 r)⟩ (Nat.le_of_ble_eq_true rfl) (by decide) (by decide) (fun ee s1005 hq => ?_) (fun vv s1005 hq => ?_)))
    · obtain ⟨Is1005, Fs1005, hv, hps1005⟩ := hq; cases hv
    obtain ⟨Is1005, Fs1005, hv, hps1005⟩ := hq
    have hps1005p := hps1005.1
    cases hv
    have Gs1005 := fm_tq F Fs1005 rfl rfl
    have b1007 := bi_77 Is1005
    have ws1005_75 : iI s1005 75 = iI t 75 := fm_iq Fs1005 rfl
    have b1008 := bi_79 Is1005
    have ws1005_78 : iI s1005 78 = iI t 78 := fm_iq Fs1005 rfl
    show DS l s0 D A dT 207 (rkR (3 * (r + 1))) [77, 79, 80, 78] [] (T) Q (T) 212 [(0, .ref (A 179)), (5, .int (Int32.ofInt v))] [] s1005
    refine d_lift (fun k ws X h => z_aload_n X (x := A 179) rfl (List.Mem.head _) h) (d_lift (fun k ws X h => w_dup X.1 (ax_d X (show cdA 207 213 = some (.dup, 1, 0, 0, 0) from rfl)) rfl h) (d_getI 179 rfl (by decide) rfl rfl (hti 78 (by decide)) ?_))
    have b1009 := bi_78 Is1005
    refine d_lift (fun k ws X h => z_const X rfl h) (d_lift (fun k ws X h => z_sub X rfl h) (d_putI 179 rfl (by decide) rfl rfl (by decide) rfl rfl rfl (show 78 ∈ _ by decide) (show (0 : Int) ≤ ((iI s1005 78) - 1) ∧ ((iI s1005 78) - 1) ≤ 8 by first | exact ⟨oq_9c6508e2 ws1005_78 hi.2.1 b4.1, oq_d7fe5c3c b1009.2⟩ | omega) ⟨by first | exact oq_c1e961c7 b1009.1 | omega, by first | exact oq_22bc6706 b1009.2 | omega⟩ (d_mono (T' := T) (fun _ h => Or.inr h) (fun _ _ h => h) (ds_gen (fun s1010 hs1010 => ?_)))))
    have Is1010 : Bd s1010 := eqB hs1010 (bd_I Is1005 (show (0 : Int) ≤ ((iI s1005 78) - 1) ∧ ((iI s1005 78) - 1) ≤ 8 by first | exact ⟨oq_9c6508e2 ws1005_78 hi.2.1 b4.1, oq_d7fe5c3c b1009.2⟩ | omega) ⟨by first | exact oq_c1e961c7 b1009.1 | omega, by first | exact oq_22bc6706 b1009.2 | omega⟩)
    have Fs1010 := eqF hs1010 (fm_I Gs1005 (inl_ok (a := 78) rfl))
    have vs1010 : iI s1010 78 = ((iI s1005 78) - 1) := eqI hs1010 (iI_u ⟨by first | exact oq_c1e961c7 b1009.1 | omega, by first | exact oq_22bc6706 b1009.2 | omega⟩)
    have ws1010_77 : iI s1010 77 = iI s1005 77 := eqI hs1010 rfl
    have ws1010_75 : iI s1010 75 = iI s1005 75 := eqI hs1010 rfl
    have ws1010_79 : iI s1010 79 = iI s1005 79 := eqI hs1010 rfl
    refine d_lift (fun k ws X h => z_load X (x := v) rfl (List.Mem.tail _ (List.Mem.head _)) h) ?_
    exact d_iret rfl rfl (Or.inl rfl) rfl (fun _ h => h) (hQ _ _ ⟨Is1010, Fs1010, v, rfl, ⟨by first | exact hi.2.2.2.2.2.1 | omega, by first | exact hi.2.2.2.2.2.2 | omega⟩, by first | exact ⟨oq_880c99c9 vs1010 hi.2.1 ws1005_78, oq_6f31d0da ws1010_77 hi.2.2.1 hps1005.1, oq_af2b4623 ws1010_77 hps1005.2.1 b1002.2 hi.2.2.2.1, oq_e013ad0f hi.1, oq_a526df76 ws1010_79 ws1010_77 b1008.1 hps1005.2.2.2 hps1005.2.1 hi.2.2.2.2.1⟩ | omega⟩)
  have L160 : ∀ (t : PS) (il im v : Int), Bd t → Fm [77, 79, 80, 78] [] s t → ((il = 0 ∨ il = 1) ∧ (im = 0 ∨ im = 1) ∧ iI s 79 = 0 ∧ iI t 78 = iI s 78 + 1 ∧ iI s 77 ≤ iI t 77 ∧ iI t 77 ≤ 202 ∧ iI t 75 = iI s 75 ∧ rng v ∧ (iI t 78 = 7 → iI t 79 ≠ 0)) → DS l s0 D A dT 207 (rkR (3 * (r + 1))) [77, 79, 80, 78] [] (T) Q (T) 160 [(0, .ref (A 179)), (3, .int (Int32.ofInt il)), (4, .int (Int32.ofInt im)), (5, .int (Int32.ofInt v))] [] t := by
    as_aux_lemma =>
     intro t il im v I F hi
     have b2001 := bi_77 I
     have b2002 := bi_75 I
     have b2003 := bi_79 I
     have b2004 := bi_78 I
     refine d_lift (fun k ws X h => z_load_n X (x := il) rfl (List.Mem.tail _ (List.Mem.head _)) h) (d_br (bo_ne _ _) bx_ne (fun k ws X h1 h2 => z_if_ne X (t := 169) rfl (by decide) ⟨by first | exact oq_bde653e9 hi.1 | omega, by first | exact oq_4ad2cb8b hi.1 | omega⟩ h1 h2) (fun g2005 => ?_) (fun g2005 => ?_))
     ·
       refine d_lift (fun k ws X h => z_aload_n X (x := A 179) rfl (List.Mem.head _) h) (d_lift (fun k ws X h => z_bipush X rfl h) (d_callV 179 (As := [.int (Int32.ofInt 44)]) (st := []) rfl rfl (by decide) rfl (d_sign G I (by first | exact ⟨by decide, by decide⟩ | omega) (by first | exact oq_99d3c924 hi.2.2.2.2.2.1 | omega) (fun q h => hti q ((by decide : ∀ q ∈ ([77, 75, 78, 79, 81] : List Nat), q ∈ ([77, 75, 78, 79, 81] : List Nat)) q h)) (fun a h => hta a ((by decide : ∀ q ∈ ([157, 158, 161] : List Nat), q ∈ ([157, 158, 161] : List Nat)) a h))) ⟨rfl, rfl⟩ ⟨(show 8 + 1 ≤ (12 + (3 * (r + 1))) from oq_0f4637ff r), (show 8 + (mNL (miB 204) + 11) + 141 ≤ (500 + 45 * (3 * (r + 1))) from oq_673d70d0 r)⟩ (Nat.le_of_ble_eq_true rfl) (by decide) (by decide) (fun ee s2006 hq => ?_) (fun vv s2006 hq => ?_)))
       · obtain ⟨Is2006, Fs2006, hv, hps2006⟩ := hq; cases hv
       obtain ⟨Is2006, Fs2006, hv, hps2006⟩ := hq
       have hps2006p := hps2006.1
       cases hv
       have Gs2006 := fm_tq F Fs2006 rfl rfl
       have b2008 := bi_77 Is2006
       have ws2006_75 : iI s2006 75 = iI t 75 := fm_iq Fs2006 rfl
       have b2009 := bi_79 Is2006
       have ws2006_78 : iI s2006 78 = iI t 78 := fm_iq Fs2006 rfl
       show DS l s0 D A dT 207 (rkR (3 * (r + 1))) [77, 79, 80, 78] [] (T) Q (T) 175 [(0, .ref (A 179)), (3, .int (Int32.ofInt il)), (4, .int (Int32.ofInt im)), (5, .int (Int32.ofInt v))] [] s2006
       refine d_lift (fun k ws X h => z_aload_n X (x := A 179) rfl (List.Mem.head _) h) (d_callV 179 (As := []) (st := []) rfl rfl (by decide) rfl (hS Is2006 (by first | exact oq_77f321a4 hps2006.2.1 b2002.2 hi.2.2.2.2.2.1 | omega) (by first | exact oq_5c892ecd ws2006_78 p1 hi.2.2.2.1 | omega) (by first | exact oq_dd2f756f ws2006_78 b2009.1 hps2006.2.2.1 b2003.1 hi.2.2.2.2.2.2.2.2 | omega) (fun q h => hti q ((by decide : ∀ q ∈ ([77, 75, 78, 79, 81] : List Nat), q ∈ ([77, 75, 78, 79, 81] : List Nat)) q h)) (fun a h => hta a ((by decide : ∀ q ∈ ([157, 158, 161] : List Nat), q ∈ ([157, 158, 161] : List Nat)) a h))) ⟨rfl, rfl⟩ ⟨(show (12 + (3 * (r) + 2)) + 1 ≤ (12 + (3 * (r + 1))) from oq_11500719 r), (show 8 + (mNL (miB 209) + 11) + (500 + 45 * (3 * (r) + 2)) ≤ (500 + 45 * (3 * (r + 1))) from oq_998273a9 r)⟩ (Nat.le_of_ble_eq_true rfl) (by decide) (by decide) (fun ee s2010 hq => ?_) (fun vv s2010 hq => ?_))
       · obtain ⟨Is2010, Fs2010, e2011, hv, hrs2010, hps2010⟩ := hq; cases hv
       obtain ⟨Is2010, Fs2010, e2011, hv, hrs2010, hps2010⟩ := hq
       have hps2010p := And.intro hps2010.1 (hps2010.2.1)
       cases hv
       have Gs2010 := fm_tq Gs2006 Fs2010 rfl rfl
       have b2012 := bi_77 Is2010
       have ws2010_75 : iI s2010 75 = iI s2006 75 := fm_iq Fs2010 rfl
       have b2013 := bi_79 Is2010
       have b2014 := bi_78 Is2010
       show DS l s0 D A dT 207 (rkR (3 * (r + 1))) [77, 79, 80, 78] [] (T) Q (T) 179 [(0, .ref (A 179)), (3, .int (Int32.ofInt il)), (4, .int (Int32.ofInt im)), (5, .int (Int32.ofInt v))] [.int (Int32.ofInt e2011)] s2010
       refine d_lift (fun k ws X h => z_store X (lv' := [(6, .int (Int32.ofInt e2011)), (0, .ref (A 179)), (3, .int (Int32.ofInt il)), (4, .int (Int32.ofInt im)), (5, .int (Int32.ofInt v))]) rfl (by decide) (fun _ h => h) h) (d_lift (fun k ws X h => z_load_n X (x := il) rfl (List.Mem.tail _ (List.Mem.tail _ (List.Mem.head _))) h) (d_lift (fun k ws X h => z_load X (x := e2011) rfl (List.Mem.head _) h) (d_lift (fun k ws X h => z_load X (x := v) rfl (List.Mem.tail _ (List.Mem.tail _ (List.Mem.tail _ (List.Mem.tail _ (List.Mem.head _))))) h) ?_)))
       have N2015 : ∀ e2016 : Int, (((v ≤ e2011) ∧ e2016 = 0) ∨ ((e2011 < v) ∧ e2016 = 1)) → DS l s0 D A dT 207 (rkR (3 * (r + 1))) [77, 79, 80, 78] [] (T) Q (T) 194 [(6, .int (Int32.ofInt e2011)), (0, .ref (A 179)), (3, .int (Int32.ofInt il)), (4, .int (Int32.ofInt im)), (5, .int (Int32.ofInt v))] [.int (Int32.ofInt e2016), .int (Int32.ofInt il)] s2010 := by
         intro e2016 he2016
         have re2016 : 0 ≤ e2016 ∧ e2016 ≤ 1 := by first | (clear he2016 hps2010 hps2006 g2005 p2; omega) | (clear hps2010 hps2006 g2005 p2; omega) | omega
         have N2017 : ∀ e2018 : Int, (((il ≠ e2016) ∧ e2018 = v) ∨ ((il = e2016) ∧ e2018 = e2011)) → DS l s0 D A dT 207 (rkR (3 * (r + 1))) [77, 79, 80, 78] [] (T) Q (T) 204 [(6, .int (Int32.ofInt e2011)), (0, .ref (A 179)), (3, .int (Int32.ofInt il)), (4, .int (Int32.ofInt im)), (5, .int (Int32.ofInt v))] [.int (Int32.ofInt e2018)] s2010 := by
           intro e2018 he2018
           refine d_lift (fun k ws X h => z_store X (lv' := [(5, .int (Int32.ofInt e2018)), (6, .int (Int32.ofInt e2011)), (0, .ref (A 179)), (3, .int (Int32.ofInt il)), (4, .int (Int32.ofInt im))]) rfl (by decide) (fun _ h => h) h) (d_lvs (lv := [(0, .ref (A 179)), (5, .int (Int32.ofInt e2018))]) (List.forall_mem_cons.mpr ⟨(List.Mem.tail _ (List.Mem.tail _ (List.Mem.head _))), (List.forall_mem_cons.mpr ⟨(List.Mem.head _), (fun q h => absurd h List.not_mem_nil)⟩)⟩) ?_)
           exact L206 _ e2018 Is2010 Gs2010 (by first | exact ⟨hi.2.2.1, oq_52108d03 hps2010.1 ws2006_78 hi.2.2.2.1, oq_6ddae328 hps2010.2.1 hps2006.1 hi.2.2.2.2.1, oq_8fbd1a5b hps2010.2.2.1 hps2006.2.1 b2002.2 hi.2.2.2.2.2.1, oq_d0d2714e ws2010_75 hi.2.2.2.2.2.2.1 ws2006_75, oq_8b7476e4 he2018 hrs2010.1 hi.2.2.2.2.2.2.2.1.1, oq_91e357f9 he2018 hrs2010.2 hi.2.2.2.2.2.2.2.1.2⟩ | omega)
         refine d_br (bo_ne _ _) bx_ne (fun k ws X h1 h2 => z_icmp_ne X (t := 202) rfl (by decide) ⟨by first | exact oq_bde653e9 hi.1 | omega, by first | exact oq_4ad2cb8b hi.1 | omega⟩ ⟨by first | exact oq_fa4e5087 re2016.1 | omega, by first | exact oq_22e1e6b0 re2016.2 | omega⟩ h1 h2) (fun g2019 => ?_) (fun g2019 => ?_)
         ·
           exact d_lift (fun k ws X h => z_load X (x := v) rfl (List.Mem.tail _ (List.Mem.tail _ (List.Mem.tail _ (List.Mem.tail _ (List.Mem.head _))))) h) (N2017 _ (Or.inl ⟨g2019, rfl⟩))
         ·
           exact d_lift (fun k ws X h => z_load X (x := e2011) rfl (List.Mem.head _) h) (d_lift (fun k ws X h => z_goto X (t := 204) rfl (by decide) h) (N2017 _ (Or.inr (⟨g2019, rfl⟩))))
       refine d_br (bo_ge _ _) bx_ge (fun k ws X h1 h2 => z_icmp_ge X (t := 193) rfl (by decide) hrs2010 ⟨by first | exact hi.2.2.2.2.2.2.2.1.1 | omega, by first | exact hi.2.2.2.2.2.2.2.1.2 | omega⟩ h1 h2) (fun g2020 => ?_) (fun g2020 => ?_)
       ·
         exact d_lift (fun k ws X h => z_const X rfl h) (N2015 _ (Or.inl ⟨g2020, rfl⟩))
       ·
         exact d_lift (fun k ws X h => z_const X rfl h) (d_lift (fun k ws X h => z_goto X (t := 194) rfl (by decide) h) (N2015 _ (Or.inr (⟨g2020, rfl⟩))))
     ·
       as_aux_lemma =>
        refine d_lift (fun k ws X h => z_load X (x := im) rfl (List.Mem.tail _ (List.Mem.tail _ (List.Mem.head _))) h) (d_br (bo_eq _ _) bx_eq (fun k ws X h1 h2 => z_if_eq X (t := 206) rfl (by decide) ⟨by first | exact oq_bde653e9 hi.2.1 | omega, by first | exact oq_4ad2cb8b hi.2.1 | omega⟩ h1 h2) (fun g2021 => ?_) (fun g2021 => ?_))
        ·
          refine d_lvs (lv := [(0, .ref (A 179)), (5, .int (Int32.ofInt v))]) (List.forall_mem_cons.mpr ⟨(List.Mem.head _), (List.forall_mem_cons.mpr ⟨(List.Mem.tail _ (List.Mem.tail _ (List.Mem.tail _ (List.Mem.head _)))), (fun q h => absurd h List.not_mem_nil)⟩)⟩) ?_
          exact L206 _ v I F (by first | exact ⟨hi.2.2.1, hi.2.2.2.1, hi.2.2.2.2.1, hi.2.2.2.2.2.1, hi.2.2.2.2.2.2.1, hi.2.2.2.2.2.2.2.1.1, hi.2.2.2.2.2.2.2.1.2⟩ | omega)
        ·
          refine d_lift (fun k ws X h => z_aload_n X (x := A 179) rfl (List.Mem.head _) h) (d_lift (fun k ws X h => z_bipush X rfl h) (d_callV 179 (As := [.int (Int32.ofInt 44)]) (st := []) rfl rfl (by decide) rfl (d_sign G I (by first | exact ⟨by decide, by decide⟩ | omega) (by first | exact oq_99d3c924 hi.2.2.2.2.2.1 | omega) (fun q h => hti q ((by decide : ∀ q ∈ ([77, 75, 78, 79, 81] : List Nat), q ∈ ([77, 75, 78, 79, 81] : List Nat)) q h)) (fun a h => hta a ((by decide : ∀ q ∈ ([157, 158, 161] : List Nat), q ∈ ([157, 158, 161] : List Nat)) a h))) ⟨rfl, rfl⟩ ⟨(show 8 + 1 ≤ (12 + (3 * (r + 1))) from oq_0f4637ff r), (show 8 + (mNL (miB 204) + 11) + 141 ≤ (500 + 45 * (3 * (r + 1))) from oq_673d70d0 r)⟩ (Nat.le_of_ble_eq_true rfl) (by decide) (by decide) (fun ee s2022 hq => ?_) (fun vv s2022 hq => ?_)))
          · obtain ⟨Is2022, Fs2022, hv, hps2022⟩ := hq; cases hv
          obtain ⟨Is2022, Fs2022, hv, hps2022⟩ := hq
          have hps2022p := hps2022.1
          cases hv
          have Gs2022 := fm_tq F Fs2022 rfl rfl
          have b2024 := bi_77 Is2022
          have ws2022_75 : iI s2022 75 = iI t 75 := fm_iq Fs2022 rfl
          have b2025 := bi_79 Is2022
          have ws2022_78 : iI s2022 78 = iI t 78 := fm_iq Fs2022 rfl
          show DS l s0 D A dT 207 (rkR (3 * (r + 1))) [77, 79, 80, 78] [] (T) Q (T) 175 [(0, .ref (A 179)), (3, .int (Int32.ofInt il)), (4, .int (Int32.ofInt im)), (5, .int (Int32.ofInt v))] [] s2022
          refine d_lift (fun k ws X h => z_aload_n X (x := A 179) rfl (List.Mem.head _) h) (d_callV 179 (As := []) (st := []) rfl rfl (by decide) rfl (hS Is2022 (by first | exact oq_77f321a4 hps2022.2.1 b2002.2 hi.2.2.2.2.2.1 | omega) (by first | exact oq_5c892ecd ws2022_78 p1 hi.2.2.2.1 | omega) (by first | exact oq_dd2f756f ws2022_78 b2025.1 hps2022.2.2.1 b2003.1 hi.2.2.2.2.2.2.2.2 | omega) (fun q h => hti q ((by decide : ∀ q ∈ ([77, 75, 78, 79, 81] : List Nat), q ∈ ([77, 75, 78, 79, 81] : List Nat)) q h)) (fun a h => hta a ((by decide : ∀ q ∈ ([157, 158, 161] : List Nat), q ∈ ([157, 158, 161] : List Nat)) a h))) ⟨rfl, rfl⟩ ⟨(show (12 + (3 * (r) + 2)) + 1 ≤ (12 + (3 * (r + 1))) from oq_11500719 r), (show 8 + (mNL (miB 209) + 11) + (500 + 45 * (3 * (r) + 2)) ≤ (500 + 45 * (3 * (r + 1))) from oq_998273a9 r)⟩ (Nat.le_of_ble_eq_true rfl) (by decide) (by decide) (fun ee s2026 hq => ?_) (fun vv s2026 hq => ?_))
          · obtain ⟨Is2026, Fs2026, e2027, hv, hrs2026, hps2026⟩ := hq; cases hv
          obtain ⟨Is2026, Fs2026, e2027, hv, hrs2026, hps2026⟩ := hq
          have hps2026p := And.intro hps2026.1 (hps2026.2.1)
          cases hv
          have Gs2026 := fm_tq Gs2022 Fs2026 rfl rfl
          have b2028 := bi_77 Is2026
          have ws2026_75 : iI s2026 75 = iI s2022 75 := fm_iq Fs2026 rfl
          have b2029 := bi_79 Is2026
          have b2030 := bi_78 Is2026
          show DS l s0 D A dT 207 (rkR (3 * (r + 1))) [77, 79, 80, 78] [] (T) Q (T) 179 [(0, .ref (A 179)), (3, .int (Int32.ofInt il)), (4, .int (Int32.ofInt im)), (5, .int (Int32.ofInt v))] [.int (Int32.ofInt e2027)] s2026
          refine d_lift (fun k ws X h => z_store X (lv' := [(6, .int (Int32.ofInt e2027)), (0, .ref (A 179)), (3, .int (Int32.ofInt il)), (4, .int (Int32.ofInt im)), (5, .int (Int32.ofInt v))]) rfl (by decide) (fun _ h => h) h) (d_lift (fun k ws X h => z_load_n X (x := il) rfl (List.Mem.tail _ (List.Mem.tail _ (List.Mem.head _))) h) (d_lift (fun k ws X h => z_load X (x := e2027) rfl (List.Mem.head _) h) (d_lift (fun k ws X h => z_load X (x := v) rfl (List.Mem.tail _ (List.Mem.tail _ (List.Mem.tail _ (List.Mem.tail _ (List.Mem.head _))))) h) ?_)))
          have N2031 : ∀ e2032 : Int, (((v ≤ e2027) ∧ e2032 = 0) ∨ ((e2027 < v) ∧ e2032 = 1)) → DS l s0 D A dT 207 (rkR (3 * (r + 1))) [77, 79, 80, 78] [] (T) Q (T) 194 [(6, .int (Int32.ofInt e2027)), (0, .ref (A 179)), (3, .int (Int32.ofInt il)), (4, .int (Int32.ofInt im)), (5, .int (Int32.ofInt v))] [.int (Int32.ofInt e2032), .int (Int32.ofInt il)] s2026 := by
            intro e2032 he2032
            have re2032 : 0 ≤ e2032 ∧ e2032 ≤ 1 := by first | (clear he2032 hps2026 hps2022 g2021 p2; omega) | (clear hps2026 hps2022 g2021 p2; omega) | omega
            have N2033 : ∀ e2034 : Int, (((il ≠ e2032) ∧ e2034 = v) ∨ ((il = e2032) ∧ e2034 = e2027)) → DS l s0 D A dT 207 (rkR (3 * (r + 1))) [77, 79, 80, 78] [] (T) Q (T) 204 [(6, .int (Int32.ofInt e2027)), (0, .ref (A 179)), (3, .int (Int32.ofInt il)), (4, .int (Int32.ofInt im)), (5, .int (Int32.ofInt v))] [.int (Int32.ofInt e2034)] s2026 := by
              intro e2034 he2034
              refine d_lift (fun k ws X h => z_store X (lv' := [(5, .int (Int32.ofInt e2034)), (6, .int (Int32.ofInt e2027)), (0, .ref (A 179)), (3, .int (Int32.ofInt il)), (4, .int (Int32.ofInt im))]) rfl (by decide) (fun _ h => h) h) (d_lvs (lv := [(0, .ref (A 179)), (5, .int (Int32.ofInt e2034))]) (List.forall_mem_cons.mpr ⟨(List.Mem.tail _ (List.Mem.tail _ (List.Mem.head _))), (List.forall_mem_cons.mpr ⟨(List.Mem.head _), (fun q h => absurd h List.not_mem_nil)⟩)⟩) ?_)
              exact L206 _ e2034 Is2026 Gs2026 (by first | exact ⟨hi.2.2.1, oq_52108d03 hps2026.1 ws2022_78 hi.2.2.2.1, oq_6ddae328 hps2026.2.1 hps2022.1 hi.2.2.2.2.1, oq_8fbd1a5b hps2026.2.2.1 hps2022.2.1 b2002.2 hi.2.2.2.2.2.1, oq_d0d2714e ws2026_75 hi.2.2.2.2.2.2.1 ws2022_75, oq_8b7476e4 he2034 hrs2026.1 hi.2.2.2.2.2.2.2.1.1, oq_91e357f9 he2034 hrs2026.2 hi.2.2.2.2.2.2.2.1.2⟩ | omega)
            refine d_br (bo_ne _ _) bx_ne (fun k ws X h1 h2 => z_icmp_ne X (t := 202) rfl (by decide) ⟨by first | exact oq_6ab4c69f g2005 | omega, by first | exact oq_3b8a080c g2005 | omega⟩ ⟨by first | exact oq_fa4e5087 re2032.1 | omega, by first | exact oq_22e1e6b0 re2032.2 | omega⟩ h1 h2) (fun g2035 => ?_) (fun g2035 => ?_)
            ·
              exact d_lift (fun k ws X h => z_load X (x := v) rfl (List.Mem.tail _ (List.Mem.tail _ (List.Mem.tail _ (List.Mem.tail _ (List.Mem.head _))))) h) (N2033 _ (Or.inl ⟨g2035, rfl⟩))
            ·
              exact d_lift (fun k ws X h => z_load X (x := e2027) rfl (List.Mem.head _) h) (d_lift (fun k ws X h => z_goto X (t := 204) rfl (by decide) h) (N2033 _ (Or.inr (⟨g2035, rfl⟩))))
          refine d_br (bo_ge _ _) bx_ge (fun k ws X h1 h2 => z_icmp_ge X (t := 193) rfl (by decide) hrs2026 ⟨by first | exact hi.2.2.2.2.2.2.2.1.1 | omega, by first | exact hi.2.2.2.2.2.2.2.1.2 | omega⟩ h1 h2) (fun g2036 => ?_) (fun g2036 => ?_)
          ·
            exact d_lift (fun k ws X h => z_const X rfl h) (N2031 _ (Or.inl ⟨g2036, rfl⟩))
          ·
            exact d_lift (fun k ws X h => z_const X rfl h) (d_lift (fun k ws X h => z_goto X (t := 194) rfl (by decide) h) (N2031 _ (Or.inr (⟨g2036, rfl⟩))))
  have L121 : ∀ (t : PS) (il im : Int), Bd t → Fm [77, 79, 80, 78] [] s t → ((il = 0 ∨ il = 1) ∧ (im = 0 ∨ im = 1) ∧ iI s 79 = 0 ∧ iI t 79 = 0 ∧ iI t 78 = iI s 78 ∧ iI s 77 ≤ iI t 77 ∧ (iI t 77 = iI s 77 ∨ iI t 77 ≤ 202) ∧ iI t 75 = iI s 75) → DS l s0 D A dT 207 (rkR (3 * (r + 1))) [77, 79, 80, 78] [] (T) Q (T) 121 [(0, .ref (A 179)), (3, .int (Int32.ofInt il)), (4, .int (Int32.ofInt im))] [] t := by
    as_aux_lemma =>
     intro t il im I F hi
     have b3001 := bi_77 I
     have b3002 := bi_75 I
     have b3003 := bi_79 I
     have b3004 := bi_78 I
     refine d_lift (fun k ws X h => z_aload_n X (x := A 179) rfl (List.Mem.head _) h) (d_callV 179 (As := []) (st := []) rfl rfl (by decide) rfl (d_blanks G I (by first | exact oq_299765ef hi.2.2.2.2.2.2.1 p0 | omega) (fun q h => hti q ((by decide : ∀ q ∈ ([77, 75, 78, 79, 81] : List Nat), q ∈ ([77, 75, 78, 79, 81] : List Nat)) q h)) (fun a h => hta a ((by decide : ∀ q ∈ ([157, 158, 161] : List Nat), q ∈ ([157, 158, 161] : List Nat)) a h))) ⟨rfl, rfl⟩ ⟨(show 7 + 1 ≤ (12 + (3 * (r + 1))) from oq_d528a8f9 r), (show 8 + (mNL (miB 193) + 11) + 121 ≤ (500 + 45 * (3 * (r + 1))) from oq_218e8e31 r)⟩ (Nat.le_of_ble_eq_true rfl) (by decide) (by decide) (fun ee s3005 hq => ?_) (fun vv s3005 hq => ?_))
     · obtain ⟨Is3005, Fs3005, hv, hps3005⟩ := hq; cases hv
     obtain ⟨Is3005, Fs3005, hv, hps3005⟩ := hq
     have hps3005p := hps3005.1
     cases hv
     have Gs3005 := fm_tq F Fs3005 rfl rfl
     have b3007 := bi_77 Is3005
     have ws3005_75 : iI s3005 75 = iI t 75 := fm_iq Fs3005 rfl
     have ws3005_79 : iI s3005 79 = iI t 79 := fm_iq Fs3005 rfl
     have ws3005_78 : iI s3005 78 = iI t 78 := fm_iq Fs3005 rfl
     show DS l s0 D A dT 207 (rkR (3 * (r + 1))) [77, 79, 80, 78] [] (T) Q (T) 125 [(0, .ref (A 179)), (3, .int (Int32.ofInt il)), (4, .int (Int32.ofInt im))] [] s3005
     refine d_lift (fun k ws X h => z_aload_n X (x := A 179) rfl (List.Mem.head _) h) (d_lift (fun k ws X h => z_aload_n X (x := A 179) rfl (List.Mem.head _) h) (d_getI 179 rfl (by decide) rfl rfl (hti 77 (by decide)) ?_))
     have b3008 := bi_77 Is3005
     refine d_callV 179 (As := [.int (Int32.ofInt (iI s3005 77))]) (st := []) rfl rfl (by decide) rfl (d_byteAt G Is3005 (by first | exact ⟨b3008.1, oq_5a8480eb b3008.2⟩ | omega) (fun q h => hti q ((by decide : ∀ q ∈ ([75, 81] : List Nat), q ∈ ([77, 75, 78, 79, 81] : List Nat)) q h)) (fun a h => hta a ((by decide : ∀ q ∈ ([157, 158] : List Nat), q ∈ ([157, 158, 161] : List Nat)) a h))) ⟨rfl, rfl⟩ ⟨(show 6 + 1 ≤ (12 + (3 * (r + 1))) from oq_0dc82175 r), (show 8 + (mNL (miB 192) + 11) + 100 ≤ (500 + 45 * (3 * (r + 1))) from oq_c9027365 r)⟩ (Nat.le_of_ble_eq_true rfl) (by decide) (by decide) (fun ee s3009 hq => ?_) (fun vv s3009 hq => ?_)
     · obtain ⟨Is3009, Fs3009, e3010, hv, hrs3009, hps3009⟩ := hq; cases hv
     obtain ⟨Is3009, Fs3009, e3010, hv, hrs3009, hps3009⟩ := hq
     cases hv
     have Gs3009 := fm_tq Gs3005 Fs3009 rfl rfl
     have ws3009_77 : iI s3009 77 = iI s3005 77 := fm_iq Fs3009 rfl
     have ws3009_75 : iI s3009 75 = iI s3005 75 := fm_iq Fs3009 rfl
     have ws3009_79 : iI s3009 79 = iI s3005 79 := fm_iq Fs3009 rfl
     have ws3009_78 : iI s3009 78 = iI s3005 78 := fm_iq Fs3009 rfl
     show DS l s0 D A dT 207 (rkR (3 * (r + 1))) [77, 79, 80, 78] [] (T) Q (T) 133 [(0, .ref (A 179)), (3, .int (Int32.ofInt il)), (4, .int (Int32.ofInt im))] [.int (Int32.ofInt e3010)] s3009
     refine d_lift (fun k ws X h => z_bipush X rfl h) (d_br (bo_eq _ _) bx_eq (fun k ws X h1 h2 => z_icmp_eq X (t := 149) rfl (by decide) hrs3009 (by decide) h1 h2) (fun g3011 => ?_) (fun g3011 => ?_))
     ·
       as_aux_lemma =>
        refine d_lift (fun k ws X h => z_aload_n X (x := A 179) rfl (List.Mem.head _) h) (d_lift (fun k ws X h => z_const X rfl h) (d_callV 179 (As := [.int (Int32.ofInt 1)]) (st := []) rfl rfl (by decide) rfl (d_opens G Is3009 (by first | exact ⟨by decide, by decide⟩ | omega) (by first | exact oq_1bf3df29 g3011 ws3009_77 hps3009 ws3005_75 b3002.2 | omega) (by first | (clear hps3009 hps3005 p2; omega) | (clear hps3005 p2; omega) | omega) (fun q h => hti q ((by decide : ∀ q ∈ ([77, 75, 78, 79, 81] : List Nat), q ∈ ([77, 75, 78, 79, 81] : List Nat)) q h)) (fun a h => hta a ((by decide : ∀ q ∈ ([157, 158, 161] : List Nat), q ∈ ([157, 158, 161] : List Nat)) a h))) ⟨rfl, rfl⟩ ⟨(show 7 + 1 ≤ (12 + (3 * (r + 1))) from oq_d528a8f9 r), (show 8 + (mNL (miB 205) + 11) + 122 ≤ (500 + 45 * (3 * (r + 1))) from oq_3e907fa5 r)⟩ (Nat.le_of_ble_eq_true rfl) (by decide) (by decide) (fun ee s3012 hq => ?_) (fun vv s3012 hq => ?_)))
        · obtain ⟨Is3012, Fs3012, hv, hps3012⟩ := hq; cases hv
        obtain ⟨Is3012, Fs3012, hv, hps3012⟩ := hq
        have hps3012p := And.intro hps3012.1 (hps3012.2.1)
        cases hv
        have Gs3012 := fm_tq Gs3009 Fs3012 rfl rfl
        have b3014 := bi_77 Is3012
        have ws3012_75 : iI s3012 75 = iI s3009 75 := fm_iq Fs3012 rfl
        have b3015 := bi_79 Is3012
        have b3016 := bi_78 Is3012
        show DS l s0 D A dT 207 (rkR (3 * (r + 1))) [77, 79, 80, 78] [] (T) Q (T) 154 [(0, .ref (A 179)), (3, .int (Int32.ofInt il)), (4, .int (Int32.ofInt im))] [] s3012
        refine d_lift (fun k ws X h => z_aload_n X (x := A 179) rfl (List.Mem.head _) h) (d_callV 179 (As := []) (st := []) rfl rfl (by decide) rfl (hS Is3012 (by first | exact oq_9b796fd1 hps3012.1 g3011 ws3009_77 hps3009 ws3005_75 b3002.2 | omega) (by first | exact oq_eba1d630 p1 hps3012.2.1 ws3009_78 ws3005_78 hi.2.2.2.2.1 | omega) (by first | exact oq_6b35565f b3015.1 hps3012.2.2.2 hps3012.2.1 | omega) (fun q h => hti q ((by decide : ∀ q ∈ ([77, 75, 78, 79, 81] : List Nat), q ∈ ([77, 75, 78, 79, 81] : List Nat)) q h)) (fun a h => hta a ((by decide : ∀ q ∈ ([157, 158, 161] : List Nat), q ∈ ([157, 158, 161] : List Nat)) a h))) ⟨rfl, rfl⟩ ⟨(show (12 + (3 * (r) + 2)) + 1 ≤ (12 + (3 * (r + 1))) from oq_11500719 r), (show 8 + (mNL (miB 209) + 11) + (500 + 45 * (3 * (r) + 2)) ≤ (500 + 45 * (3 * (r + 1))) from oq_998273a9 r)⟩ (Nat.le_of_ble_eq_true rfl) (by decide) (by decide) (fun ee s3017 hq => ?_) (fun vv s3017 hq => ?_))
        · obtain ⟨Is3017, Fs3017, e3018, hv, hrs3017, hps3017⟩ := hq; cases hv
        obtain ⟨Is3017, Fs3017, e3018, hv, hrs3017, hps3017⟩ := hq
        have hps3017p := And.intro hps3017.1 (hps3017.2.1)
        cases hv
        have Gs3017 := fm_tq Gs3012 Fs3017 rfl rfl
        have b3019 := bi_77 Is3017
        have ws3017_75 : iI s3017 75 = iI s3012 75 := fm_iq Fs3017 rfl
        have b3020 := bi_79 Is3017
        have b3021 := bi_78 Is3017
        show DS l s0 D A dT 207 (rkR (3 * (r + 1))) [77, 79, 80, 78] [] (T) Q (T) 158 [(0, .ref (A 179)), (3, .int (Int32.ofInt il)), (4, .int (Int32.ofInt im))] [.int (Int32.ofInt e3018)] s3017
        refine d_lift (fun k ws X h => z_store X (lv' := [(5, .int (Int32.ofInt e3018)), (0, .ref (A 179)), (3, .int (Int32.ofInt il)), (4, .int (Int32.ofInt im))]) rfl (by decide) (fun _ h => h) h) (d_lvs (lv := [(0, .ref (A 179)), (3, .int (Int32.ofInt il)), (4, .int (Int32.ofInt im)), (5, .int (Int32.ofInt e3018))]) (List.forall_mem_cons.mpr ⟨(List.Mem.tail _ (List.Mem.head _)), (List.forall_mem_cons.mpr ⟨(List.Mem.tail _ (List.Mem.tail _ (List.Mem.head _))), (List.forall_mem_cons.mpr ⟨(List.Mem.tail _ (List.Mem.tail _ (List.Mem.tail _ (List.Mem.head _)))), (List.forall_mem_cons.mpr ⟨(List.Mem.head _), (fun q h => absurd h List.not_mem_nil)⟩)⟩)⟩)⟩) ?_)
        exact L160 _ il im e3018 Is3017 Gs3017 (by first | exact ⟨hi.1, hi.2.1, hi.2.2.1, oq_b750a7cd hps3017.1 hi.2.2.2.2.1 hps3012.2.1 ws3009_78 ws3005_78, oq_3edc8be3 hps3017.2.1 hps3012.1 ws3009_77 hi.2.2.2.2.2.1 hps3005.1, oq_aa6384b4 hps3017.2.2.1 hps3012.1 g3011 ws3009_77 hps3009 ws3005_75 b3002.2, oq_b4d295d9 ws3017_75 hi.2.2.2.2.2.2.2 ws3012_75 ws3009_75 ws3005_75, And.intro (hrs3017.1) (hrs3017.2), oq_cf8b9c9a b3020.1 hps3017.2.2.2.1 hps3017.1 b3015.1 hps3012.2.2.2 hps3012.2.1⟩ | omega)
     ·
       refine d_lift (fun k ws X h => z_aload_n X (x := A 179) rfl (List.Mem.head _) h) (d_lift (fun k ws X h => z_const X rfl h) (d_lift (fun k ws X h => z_aload_n X (x := A 179) rfl (List.Mem.head _) h) (d_getI 179 rfl (by decide) rfl rfl (hti 77 (by decide)) ?_)))
       have b3022 := bi_77 Is3009
       refine d_callV 179 (As := [.int (Int32.ofInt 1), .int (Int32.ofInt (iI s3009 77))]) (st := []) rfl rfl (by decide) rfl (d_wrong G Is3009 (by first | exact ⟨by decide, by decide⟩ | omega) (by first | exact ⟨oq_ca54ea22 b3022.1, b3022.2⟩ | omega) (fun q h => hti q ((by decide : ∀ q ∈ ([79] : List Nat), q ∈ ([77, 75, 78, 79, 81] : List Nat)) q h)) (fun a h => hta a ((by decide : ∀ q ∈ ([] : List Nat), q ∈ ([157, 158, 161] : List Nat)) a h))) ⟨rfl, rfl⟩ ⟨(show 6 + 1 ≤ (12 + (3 * (r + 1))) from oq_0dc82175 r), (show 8 + (mNL (miB 194) + 11) + 100 ≤ (500 + 45 * (3 * (r + 1))) from oq_cdc25995 r)⟩ (Nat.le_of_ble_eq_true rfl) (by decide) (by decide) (fun ee s3023 hq => ?_) (fun vv s3023 hq => ?_)
       · obtain ⟨Is3023, Fs3023, hv, hps3023⟩ := hq; cases hv
       obtain ⟨Is3023, Fs3023, hv, hps3023⟩ := hq
       cases hv
       have Gs3023 := fm_tq Gs3009 Fs3023 rfl rfl
       have ws3023_77 : iI s3023 77 = iI s3009 77 := fm_iq Fs3023 rfl
       have ws3023_75 : iI s3023 75 = iI s3009 75 := fm_iq Fs3023 rfl
       have b3025 := bi_79 Is3023
       have ws3023_78 : iI s3023 78 = iI s3009 78 := fm_iq Fs3023 rfl
       show DS l s0 D A dT 207 (rkR (3 * (r + 1))) [77, 79, 80, 78] [] (T) Q (T) 147 [(0, .ref (A 179)), (3, .int (Int32.ofInt il)), (4, .int (Int32.ofInt im))] [] s3023
       refine d_lift (fun k ws X h => z_const X rfl h) ?_
       exact d_iret rfl rfl (Or.inl rfl) rfl (fun _ h => h) (hQ _ _ ⟨Is3023, Gs3023, 0, rfl, (by decide), by first | exact ⟨oq_ac0e91e1 ws3023_78 ws3009_78 ws3005_78 hi.2.2.2.2.1, oq_c430b533 ws3023_77 hi.2.2.2.2.2.1 hps3005.1 ws3009_77, oq_0b99daf3 ws3023_77 ws3009_77 hps3005.2 b3002.2 hi.2.2.2.2.2.2.1 p0, oq_5071f1ab b3025.1 hps3023, oq_efa70c27 b3025.1 hps3023⟩ | omega⟩)
  refine d_lift (fun k ws X h => z_aload_n X (x := A 179) rfl (List.Mem.head _) h) (d_getI 179 rfl (by decide) rfl rfl (hti 79 (by decide)) ?_)
  have b5 := bi_79 I
  refine d_br (bo_eq _ _) bx_eq (fun k ws X h1 h2 => z_if_eq X (t := 9) rfl (by decide) (rng_to _) h1 h2) (fun g6 => ?_) (fun g6 => ?_)
  ·
    as_aux_lemma =>
     refine d_lift (fun k ws X h => z_aload_n X (x := A 179) rfl (List.Mem.head _) h) (d_callV 179 (As := []) (st := []) rfl rfl (by decide) rfl (d_blanks G I (by first | exact oq_2ebc9f52 p0 | omega) (fun q h => hti q ((by decide : ∀ q ∈ ([77, 75, 78, 79, 81] : List Nat), q ∈ ([77, 75, 78, 79, 81] : List Nat)) q h)) (fun a h => hta a ((by decide : ∀ q ∈ ([157, 158, 161] : List Nat), q ∈ ([157, 158, 161] : List Nat)) a h))) ⟨rfl, rfl⟩ ⟨(show 7 + 1 ≤ (12 + (3 * (r + 1))) from oq_d528a8f9 r), (show 8 + (mNL (miB 193) + 11) + 121 ≤ (500 + 45 * (3 * (r + 1))) from oq_218e8e31 r)⟩ (Nat.le_of_ble_eq_true rfl) (by decide) (by decide) (fun ee s7 hq => ?_) (fun vv s7 hq => ?_))
     · obtain ⟨Is7, Fs7, hv, hps7⟩ := hq; cases hv
     obtain ⟨Is7, Fs7, hv, hps7⟩ := hq
     have hps7p := hps7.1
     cases hv
     have Gs7 := fm_tq F Fs7 rfl rfl
     have b9 := bi_77 Is7
     have ws7_75 : iI s7 75 = iI s 75 := fm_iq Fs7 rfl
     have ws7_79 : iI s7 79 = iI s 79 := fm_iq Fs7 rfl
     have ws7_78 : iI s7 78 = iI s 78 := fm_iq Fs7 rfl
     show DS l s0 D A dT 207 (rkR (3 * (r + 1))) [77, 79, 80, 78] [] (T) Q (T) 13 [(0, .ref (A 179))] [] s7
     refine d_lift (fun k ws X h => z_aload_n X (x := A 179) rfl (List.Mem.head _) h) (d_lift (fun k ws X h => z_aload_n X (x := A 179) rfl (List.Mem.head _) h) (d_getI 179 rfl (by decide) rfl rfl (hti 77 (by decide)) ?_))
     have b10 := bi_77 Is7
     refine d_callV 179 (As := [.int (Int32.ofInt (iI s7 77))]) (st := []) rfl rfl (by decide) rfl (d_byteAt G Is7 (by first | exact ⟨b10.1, oq_5a8480eb b10.2⟩ | omega) (fun q h => hti q ((by decide : ∀ q ∈ ([75, 81] : List Nat), q ∈ ([77, 75, 78, 79, 81] : List Nat)) q h)) (fun a h => hta a ((by decide : ∀ q ∈ ([157, 158] : List Nat), q ∈ ([157, 158, 161] : List Nat)) a h))) ⟨rfl, rfl⟩ ⟨(show 6 + 1 ≤ (12 + (3 * (r + 1))) from oq_0dc82175 r), (show 8 + (mNL (miB 192) + 11) + 100 ≤ (500 + 45 * (3 * (r + 1))) from oq_c9027365 r)⟩ (Nat.le_of_ble_eq_true rfl) (by decide) (by decide) (fun ee s11 hq => ?_) (fun vv s11 hq => ?_)
     · obtain ⟨Is11, Fs11, e12, hv, hrs11, hps11⟩ := hq; cases hv
     obtain ⟨Is11, Fs11, e12, hv, hrs11, hps11⟩ := hq
     cases hv
     have Gs11 := fm_tq Gs7 Fs11 rfl rfl
     have ws11_77 : iI s11 77 = iI s7 77 := fm_iq Fs11 rfl
     have ws11_75 : iI s11 75 = iI s7 75 := fm_iq Fs11 rfl
     have ws11_79 : iI s11 79 = iI s7 79 := fm_iq Fs11 rfl
     have ws11_78 : iI s11 78 = iI s7 78 := fm_iq Fs11 rfl
     show DS l s0 D A dT 207 (rkR (3 * (r + 1))) [77, 79, 80, 78] [] (T) Q (T) 21 [(0, .ref (A 179))] [.int (Int32.ofInt e12)] s11
     refine d_callT (As := [.int (Int32.ofInt e12)]) (st := []) rfl rfl (d_isDigit G Is11 (by first | exact ⟨hrs11.1, hrs11.2⟩ | omega) (fun q h => hti q ((by decide : ∀ q ∈ ([] : List Nat), q ∈ ([77, 75, 78, 79, 81] : List Nat)) q h)) (fun a h => hta a ((by decide : ∀ q ∈ ([] : List Nat), q ∈ ([157, 158, 161] : List Nat)) a h))) ⟨rfl, rfl⟩ ⟨(show 6 + 1 ≤ (12 + (3 * (r + 1))) from oq_0dc82175 r), (show 8 + (mNL (miB 195) + 11) + 100 ≤ (500 + 45 * (3 * (r + 1))) from oq_eb98a9a7 r)⟩ (Nat.le_of_ble_eq_true rfl) (by decide) (by decide) (fun ee s13 hq => ?_) (fun vv s13 hq => ?_)
     · obtain ⟨Is13, Fs13, e14, hv, hrs13, hps13⟩ := hq; cases hv
     obtain ⟨Is13, Fs13, e14, hv, hrs13, hps13⟩ := hq
     cases hv
     have Gs13 := fm_tq Gs11 Fs13 rfl rfl
     have ws13_77 : iI s13 77 = iI s11 77 := fm_iq Fs13 rfl
     have ws13_75 : iI s13 75 = iI s11 75 := fm_iq Fs13 rfl
     have ws13_79 : iI s13 79 = iI s11 79 := fm_iq Fs13 rfl
     have ws13_78 : iI s13 78 = iI s11 78 := fm_iq Fs13 rfl
     show DS l s0 D A dT 207 (rkR (3 * (r + 1))) [77, 79, 80, 78] [] (T) Q (T) 24 [(0, .ref (A 179))] [.int (Int32.ofInt e14)] s13
     refine d_br (bo_eq _ _) bx_eq (fun k ws X h1 h2 => z_if_eq X (t := 36) rfl (by decide) hrs13 h1 h2) (fun g15 => ?_) (fun g15 => ?_)
     ·
       as_aux_lemma =>
        refine d_lift (fun k ws X h => z_aload_n X (x := A 179) rfl (List.Mem.head _) h) (d_callV 179 (As := []) (st := []) rfl rfl (by decide) rfl (d_nameHere G Is13 (by first | exact oq_ce2e7291 ws13_77 ws11_77 hps7.2 b2.2 p0 | omega) (fun q h => hti q ((by decide : ∀ q ∈ ([77, 75, 78, 79, 81] : List Nat), q ∈ ([77, 75, 78, 79, 81] : List Nat)) q h)) (fun a h => hta a ((by decide : ∀ q ∈ ([157, 158, 161] : List Nat), q ∈ ([157, 158, 161] : List Nat)) a h))) ⟨rfl, rfl⟩ ⟨(show 9 + 1 ≤ (12 + (3 * (r + 1))) from oq_c359dceb r), (show 8 + (mNL (miB 206) + 11) + 163 ≤ (500 + 45 * (3 * (r + 1))) from oq_4e1b90b2 r)⟩ (Nat.le_of_ble_eq_true rfl) (by decide) (by decide) (fun ee s16 hq => ?_) (fun vv s16 hq => ?_))
        · obtain ⟨Is16, Fs16, e17, hv, hrs16, hps16⟩ := hq; cases hv
        obtain ⟨Is16, Fs16, e17, hv, hrs16, hps16⟩ := hq
        have hps16p := And.intro hps16.1 (And.intro hps16.2.2.1 (hps16.2.2.2.1))
        cases hv
        have Gs16 := fm_tq Gs13 Fs16 rfl rfl
        have b18 := bi_77 Is16
        have ws16_75 : iI s16 75 = iI s13 75 := fm_iq Fs16 rfl
        have ws16_79 : iI s16 79 = iI s13 79 := fm_iq Fs16 rfl
        have ws16_78 : iI s16 78 = iI s13 78 := fm_iq Fs16 rfl
        show DS l s0 D A dT 207 (rkR (3 * (r + 1))) [77, 79, 80, 78] [] (T) Q (T) 40 [(0, .ref (A 179))] [.int (Int32.ofInt e17)] s16
        refine d_lift (fun k ws X h => z_store_n X (lv' := [(1, .int (Int32.ofInt e17)), (0, .ref (A 179))]) rfl (by decide) (fun _ h => h) h) (d_lift (fun k ws X h => z_aload_n X (x := A 179) rfl (List.Mem.tail _ (List.Mem.head _)) h) (d_callV 179 (As := []) (st := []) rfl rfl (by decide) rfl (d_wordHere G Is16 (by first | exact oq_550c6e3f hps16.2.1 ws13_75 ws13_77 ws11_75 ws11_77 ws7_75 hps7.2 b2.2 p0 | omega) (fun q h => hti q ((by decide : ∀ q ∈ ([77, 75, 78, 79, 81] : List Nat), q ∈ ([77, 75, 78, 79, 81] : List Nat)) q h)) (fun a h => hta a ((by decide : ∀ q ∈ ([157, 158, 161] : List Nat), q ∈ ([157, 158, 161] : List Nat)) a h))) ⟨rfl, rfl⟩ ⟨(show 8 + 1 ≤ (12 + (3 * (r + 1))) from oq_0f4637ff r), (show 8 + (mNL (miB 201) + 11) + 141 ≤ (500 + 45 * (3 * (r + 1))) from oq_78cdcaf8 r)⟩ (Nat.le_of_ble_eq_true rfl) (by decide) (by decide) (fun ee s19 hq => ?_) (fun vv s19 hq => ?_)))
        · obtain ⟨Is19, Fs19, e20, hv, hrs19, hps19⟩ := hq; cases hv
        obtain ⟨Is19, Fs19, e20, hv, hrs19, hps19⟩ := hq
        have hps19p := hps19.1
        cases hv
        have Gs19 := fm_tq Gs16 Fs19 rfl rfl
        have b21 := bi_77 Is19
        have ws19_75 : iI s19 75 = iI s16 75 := fm_iq Fs19 rfl
        have ws19_79 : iI s19 79 = iI s16 79 := fm_iq Fs19 rfl
        have ws19_78 : iI s19 78 = iI s16 78 := fm_iq Fs19 rfl
        show DS l s0 D A dT 207 (rkR (3 * (r + 1))) [77, 79, 80, 78] [] (T) Q (T) 45 [(1, .int (Int32.ofInt e17)), (0, .ref (A 179))] [.int (Int32.ofInt e20)] s19
        refine d_lift (fun k ws X h => z_store_n X (lv' := [(2, .int (Int32.ofInt e20)), (1, .int (Int32.ofInt e17)), (0, .ref (A 179))]) rfl (by decide) (fun _ h => h) h) (d_lift (fun k ws X h => z_load_n X (x := e17) rfl (List.Mem.tail _ (List.Mem.head _)) h) (d_lift (fun k ws X h => z_const X rfl h) (d_br (bo_eq _ _) bx_eq (fun k ws X h1 h2 => z_icmp_eq X (t := 62) rfl (by decide) hrs16 (by decide) h1 h2) (fun g22 => ?_) (fun g22 => ?_))))
        ·
          as_aux_lemma =>
           refine d_lift (fun k ws X h => z_load_n X (x := e20) rfl (List.Mem.head _) h) (d_lift (fun k ws X h => z_bipush X rfl h) (d_lift (fun k ws X h => z_const X rfl h) (d_lift (fun k ws X h => z_const X rfl h) (d_lift (fun k ws X h => z_bipush X rfl h) (d_lift (fun k ws X h => z_bipush X rfl h) (d_lift (fun k ws X h => z_const X rfl h) (d_callT (As := [.int (Int32.ofInt 12), .int (Int32.ofInt 5), .int (Int32.ofInt 1), .int (Int32.ofInt 19), .int (Int32.ofInt 20), .int (Int32.ofInt 0)]) (st := [.int (Int32.ofInt e20)]) rfl rfl (d_word G Is19 (by first | exact ⟨by decide, by decide⟩ | omega) (by first | exact ⟨by decide, by decide⟩ | omega) (by first | exact ⟨by decide, by decide⟩ | omega) (by first | exact ⟨by decide, by decide⟩ | omega) (by first | exact ⟨by decide, by decide⟩ | omega) (by first | exact ⟨by decide, by decide⟩ | omega) (fun q h => hti q ((by decide : ∀ q ∈ ([] : List Nat), q ∈ ([77, 75, 78, 79, 81] : List Nat)) q h)) (fun a h => hta a ((by decide : ∀ q ∈ ([] : List Nat), q ∈ ([157, 158, 161] : List Nat)) a h))) ⟨rfl, rfl⟩ ⟨(show 6 + 1 ≤ (12 + (3 * (r + 1))) from oq_0dc82175 r), (show 8 + (mNL (miB 202) + 11) + 100 ≤ (500 + 45 * (3 * (r + 1))) from oq_642991a6 r)⟩ (Nat.le_of_ble_eq_true rfl) (by decide) (by decide) (fun ee s23 hq => ?_) (fun vv s23 hq => ?_))))))))
           · obtain ⟨Is23, Fs23, e24, hv, hrs23, hps23⟩ := hq; cases hv
           obtain ⟨Is23, Fs23, e24, hv, hrs23, hps23⟩ := hq
           cases hv
           have Gs23 := fm_tq Gs19 Fs23 rfl rfl
           have ws23_77 : iI s23 77 = iI s19 77 := fm_iq Fs23 rfl
           have ws23_75 : iI s23 75 = iI s19 75 := fm_iq Fs23 rfl
           have ws23_79 : iI s23 79 = iI s19 79 := fm_iq Fs23 rfl
           have ws23_78 : iI s23 78 = iI s19 78 := fm_iq Fs23 rfl
           show DS l s0 D A dT 207 (rkR (3 * (r + 1))) [77, 79, 80, 78] [] (T) Q (T) 75 [(2, .int (Int32.ofInt e20)), (1, .int (Int32.ofInt e17)), (0, .ref (A 179))] [.int (Int32.ofInt e24), .int (Int32.ofInt e20)] s23
           have N25 : ∀ e26 : Int, (((e20 ≠ e24) ∧ e26 = 0) ∨ ((e20 = e24) ∧ e26 = 1)) → DS l s0 D A dT 207 (rkR (3 * (r + 1))) [77, 79, 80, 78] [] (T) Q (T) 83 [(2, .int (Int32.ofInt e20)), (1, .int (Int32.ofInt e17)), (0, .ref (A 179))] [.int (Int32.ofInt e26)] s23 := by
             intro e26 he26
             have re26 : 0 ≤ e26 ∧ e26 ≤ 1 := by first | (clear he26 hps19 hps16 hps13 hps11 hps7 p2; omega) | (clear hps19 hps16 hps13 hps11 hps7 p2; omega) | omega
             refine d_lift (fun k ws X h => z_store_n X (lv' := [(3, .int (Int32.ofInt e26)), (2, .int (Int32.ofInt e20)), (1, .int (Int32.ofInt e17)), (0, .ref (A 179))]) rfl (by decide) (fun _ h => h) h) (d_lift (fun k ws X h => z_load_n X (x := e20) rfl (List.Mem.tail _ (List.Mem.head _)) h) (d_lift (fun k ws X h => z_bipush X rfl h) (d_lift (fun k ws X h => z_bipush X rfl h) (d_lift (fun k ws X h => z_bipush X rfl h) (d_lift (fun k ws X h => z_bipush X rfl h) (d_lift (fun k ws X h => z_const X rfl h) (d_lift (fun k ws X h => z_const X rfl h) (d_callT (As := [.int (Int32.ofInt 13), .int (Int32.ofInt 15), .int (Int32.ofInt 19), .int (Int32.ofInt 20), .int (Int32.ofInt 0), .int (Int32.ofInt 0)]) (st := [.int (Int32.ofInt e20)]) rfl rfl (d_word G Is23 (by first | exact ⟨by decide, by decide⟩ | omega) (by first | exact ⟨by decide, by decide⟩ | omega) (by first | exact ⟨by decide, by decide⟩ | omega) (by first | exact ⟨by decide, by decide⟩ | omega) (by first | exact ⟨by decide, by decide⟩ | omega) (by first | exact ⟨by decide, by decide⟩ | omega) (fun q h => hti q ((by decide : ∀ q ∈ ([] : List Nat), q ∈ ([77, 75, 78, 79, 81] : List Nat)) q h)) (fun a h => hta a ((by decide : ∀ q ∈ ([] : List Nat), q ∈ ([157, 158, 161] : List Nat)) a h))) ⟨rfl, rfl⟩ ⟨(show 6 + 1 ≤ (12 + (3 * (r + 1))) from oq_0dc82175 r), (show 8 + (mNL (miB 202) + 11) + 100 ≤ (500 + 45 * (3 * (r + 1))) from oq_642991a6 r)⟩ (Nat.le_of_ble_eq_true rfl) (by decide) (by decide) (fun ee s27 hq => ?_) (fun vv s27 hq => ?_)))))))))
             · obtain ⟨Is27, Fs27, e28, hv, hrs27, hps27⟩ := hq; cases hv
             obtain ⟨Is27, Fs27, e28, hv, hrs27, hps27⟩ := hq
             cases hv
             have Gs27 := fm_tq Gs23 Fs27 rfl rfl
             have ws27_77 : iI s27 77 = iI s23 77 := fm_iq Fs27 rfl
             have ws27_75 : iI s27 75 = iI s23 75 := fm_iq Fs27 rfl
             have ws27_79 : iI s27 79 = iI s23 79 := fm_iq Fs27 rfl
             have ws27_78 : iI s27 78 = iI s23 78 := fm_iq Fs27 rfl
             show DS l s0 D A dT 207 (rkR (3 * (r + 1))) [77, 79, 80, 78] [] (T) Q (T) 98 [(3, .int (Int32.ofInt e26)), (2, .int (Int32.ofInt e20)), (1, .int (Int32.ofInt e17)), (0, .ref (A 179))] [.int (Int32.ofInt e28), .int (Int32.ofInt e20)] s27
             have N29 : ∀ e30 : Int, (((e20 ≠ e28) ∧ e30 = 0) ∨ ((e20 = e28) ∧ e30 = 1)) → DS l s0 D A dT 207 (rkR (3 * (r + 1))) [77, 79, 80, 78] [] (T) Q (T) 106 [(3, .int (Int32.ofInt e26)), (2, .int (Int32.ofInt e20)), (1, .int (Int32.ofInt e17)), (0, .ref (A 179))] [.int (Int32.ofInt e30)] s27 := by
               as_aux_lemma =>
                intro e30 he30
                have re30 : 0 ≤ e30 ∧ e30 ≤ 1 := by first | (clear he30 he26 hps19 hps16 hps13 hps11 hps7 p2; omega) | (clear he26 hps19 hps16 hps13 hps11 hps7 p2; omega) | omega
                refine d_lift (fun k ws X h => z_store X (lv' := [(4, .int (Int32.ofInt e30)), (3, .int (Int32.ofInt e26)), (2, .int (Int32.ofInt e20)), (1, .int (Int32.ofInt e17)), (0, .ref (A 179))]) rfl (by decide) (fun _ h => h) h) (d_lift (fun k ws X h => z_load_n X (x := e26) rfl (List.Mem.tail _ (List.Mem.head _)) h) (d_br (bo_ne _ _) bx_ne (fun k ws X h1 h2 => z_if_ne X (t := 117) rfl (by decide) ⟨by first | exact oq_fa4e5087 re26.1 | omega, by first | exact oq_22e1e6b0 re26.2 | omega⟩ h1 h2) (fun g31 => ?_) (fun g31 => ?_)))
                ·
                  refine d_lift (fun k ws X h => z_aload_n X (x := A 179) rfl (List.Mem.tail _ (List.Mem.tail _ (List.Mem.tail _ (List.Mem.tail _ (List.Mem.head _))))) h) (d_callV 179 (As := []) (st := []) rfl rfl (by decide) rfl (d_skipWord G Is27 (by first | exact oq_fceaff2a g31 ws27_77 re26.1 he26 ws23_77 hps23 hps19.2.2 ws16_75 ws13_75 ws11_75 ws7_75 b2.2 | omega) (fun q h => hti q ((by decide : ∀ q ∈ ([77, 75, 78, 79, 81] : List Nat), q ∈ ([77, 75, 78, 79, 81] : List Nat)) q h)) (fun a h => hta a ((by decide : ∀ q ∈ ([157, 158, 161] : List Nat), q ∈ ([157, 158, 161] : List Nat)) a h))) ⟨rfl, rfl⟩ ⟨(show 7 + 1 ≤ (12 + (3 * (r + 1))) from oq_d528a8f9 r), (show 8 + (mNL (miB 203) + 11) + 121 ≤ (500 + 45 * (3 * (r + 1))) from oq_218e8e31 r)⟩ (Nat.le_of_ble_eq_true rfl) (by decide) (by decide) (fun ee s32 hq => ?_) (fun vv s32 hq => ?_))
                  · obtain ⟨Is32, Fs32, hv, hps32⟩ := hq; cases hv
                  obtain ⟨Is32, Fs32, hv, hps32⟩ := hq
                  have hps32p := hps32.1
                  cases hv
                  have Gs32 := fm_tq Gs27 Fs32 rfl rfl
                  have b34 := bi_77 Is32
                  have ws32_75 : iI s32 75 = iI s27 75 := fm_iq Fs32 rfl
                  have ws32_79 : iI s32 79 = iI s27 79 := fm_iq Fs32 rfl
                  have ws32_78 : iI s32 78 = iI s27 78 := fm_iq Fs32 rfl
                  show DS l s0 D A dT 207 (rkR (3 * (r + 1))) [77, 79, 80, 78] [] (T) Q (T) 121 [(4, .int (Int32.ofInt e30)), (3, .int (Int32.ofInt e26)), (2, .int (Int32.ofInt e20)), (1, .int (Int32.ofInt e17)), (0, .ref (A 179))] [] s32
                  refine d_lvs (lv := [(0, .ref (A 179)), (3, .int (Int32.ofInt e26)), (4, .int (Int32.ofInt e30))]) (List.forall_mem_cons.mpr ⟨(List.Mem.tail _ (List.Mem.tail _ (List.Mem.tail _ (List.Mem.tail _ (List.Mem.head _))))), (List.forall_mem_cons.mpr ⟨(List.Mem.tail _ (List.Mem.head _)), (List.forall_mem_cons.mpr ⟨(List.Mem.head _), (fun q h => absurd h List.not_mem_nil)⟩)⟩)⟩) ?_
                  exact L121 _ e26 e30 Is32 Gs32 (by first | exact ⟨oq_e60e49f3 g31 re26.2 re26.1, oq_31e518ae re30.2 re30.1, g6, oq_d78581ae ws32_79 ws27_79 ws23_79 ws19_79 ws16_79 ws13_79 ws11_79 ws7_79 g6, oq_ea4036f5 ws32_78 ws27_78 ws23_78 ws19_78 ws16_78 ws13_78 ws11_78 ws7_78, oq_b079aadb hps32.1 ws27_77 ws23_77 hps19.1 hps16.1 ws13_77 ws11_77 hps7.1, oq_b4090cb0 hps32.2 g31 ws27_75 ws27_77 re26.1 he26 ws23_75 ws23_77 hps23 ws19_75 hps19.2.2 ws16_75 ws13_75 ws11_75 ws7_75 b2.2, oq_ea4036f5 ws32_75 ws27_75 ws23_75 ws19_75 ws16_75 ws13_75 ws11_75 ws7_75⟩ | omega)
                ·
                  as_aux_lemma =>
                   refine d_lift (fun k ws X h => z_load X (x := e30) rfl (List.Mem.head _) h) (d_br (bo_eq _ _) bx_eq (fun k ws X h1 h2 => z_if_eq X (t := 121) rfl (by decide) ⟨by first | exact oq_fa4e5087 re30.1 | omega, by first | exact oq_22e1e6b0 re30.2 | omega⟩ h1 h2) (fun g35 => ?_) (fun g35 => ?_))
                   ·
                     refine d_lvs (lv := [(0, .ref (A 179)), (3, .int (Int32.ofInt e26)), (4, .int (Int32.ofInt e30))]) (List.forall_mem_cons.mpr ⟨(List.Mem.tail _ (List.Mem.tail _ (List.Mem.tail _ (List.Mem.tail _ (List.Mem.head _))))), (List.forall_mem_cons.mpr ⟨(List.Mem.tail _ (List.Mem.head _)), (List.forall_mem_cons.mpr ⟨(List.Mem.head _), (fun q h => absurd h List.not_mem_nil)⟩)⟩)⟩) ?_
                     exact L121 _ e26 e30 Is27 Gs27 (by first | exact ⟨Or.inl (g31), Or.inl (g35), g6, oq_da09f5eb ws27_79 ws23_79 ws19_79 ws16_79 ws13_79 ws11_79 ws7_79 g6, oq_cc03667a ws27_78 ws23_78 ws19_78 ws16_78 ws13_78 ws11_78 ws7_78, oq_36dfd998 ws27_77 ws23_77 hps19.1 hps16.1 ws13_77 ws11_77 hps7.1, oq_d44ebbf7 ws27_77 ws23_77 hps19.2.1 ws16_75 hps16.2.1 ws13_75 ws13_77 ws11_75 ws11_77 ws7_75 hps7.2 b2.2 p0, oq_cc03667a ws27_75 ws23_75 ws19_75 ws16_75 ws13_75 ws11_75 ws7_75⟩ | omega)
                   ·
                     refine d_lift (fun k ws X h => z_aload_n X (x := A 179) rfl (List.Mem.tail _ (List.Mem.tail _ (List.Mem.tail _ (List.Mem.tail _ (List.Mem.head _))))) h) (d_callV 179 (As := []) (st := []) rfl rfl (by decide) rfl (d_skipWord G Is27 (by first | exact oq_1a5d66c6 g35 re30.1 he30 ws27_77 hps27 ws23_77 hps19.2.2 ws16_75 ws13_75 ws11_75 ws7_75 b2.2 | omega) (fun q h => hti q ((by decide : ∀ q ∈ ([77, 75, 78, 79, 81] : List Nat), q ∈ ([77, 75, 78, 79, 81] : List Nat)) q h)) (fun a h => hta a ((by decide : ∀ q ∈ ([157, 158, 161] : List Nat), q ∈ ([157, 158, 161] : List Nat)) a h))) ⟨rfl, rfl⟩ ⟨(show 7 + 1 ≤ (12 + (3 * (r + 1))) from oq_d528a8f9 r), (show 8 + (mNL (miB 203) + 11) + 121 ≤ (500 + 45 * (3 * (r + 1))) from oq_218e8e31 r)⟩ (Nat.le_of_ble_eq_true rfl) (by decide) (by decide) (fun ee s36 hq => ?_) (fun vv s36 hq => ?_))
                     · obtain ⟨Is36, Fs36, hv, hps36⟩ := hq; cases hv
                     obtain ⟨Is36, Fs36, hv, hps36⟩ := hq
                     have hps36p := hps36.1
                     cases hv
                     have Gs36 := fm_tq Gs27 Fs36 rfl rfl
                     have b38 := bi_77 Is36
                     have ws36_75 : iI s36 75 = iI s27 75 := fm_iq Fs36 rfl
                     have ws36_79 : iI s36 79 = iI s27 79 := fm_iq Fs36 rfl
                     have ws36_78 : iI s36 78 = iI s27 78 := fm_iq Fs36 rfl
                     show DS l s0 D A dT 207 (rkR (3 * (r + 1))) [77, 79, 80, 78] [] (T) Q (T) 121 [(4, .int (Int32.ofInt e30)), (3, .int (Int32.ofInt e26)), (2, .int (Int32.ofInt e20)), (1, .int (Int32.ofInt e17)), (0, .ref (A 179))] [] s36
                     refine d_lvs (lv := [(0, .ref (A 179)), (3, .int (Int32.ofInt e26)), (4, .int (Int32.ofInt e30))]) (List.forall_mem_cons.mpr ⟨(List.Mem.tail _ (List.Mem.tail _ (List.Mem.tail _ (List.Mem.tail _ (List.Mem.head _))))), (List.forall_mem_cons.mpr ⟨(List.Mem.tail _ (List.Mem.head _)), (List.forall_mem_cons.mpr ⟨(List.Mem.head _), (fun q h => absurd h List.not_mem_nil)⟩)⟩)⟩) ?_
                     exact L121 _ e26 e30 Is36 Gs36 (by first | exact ⟨Or.inl (g31), oq_e60e49f3 g35 re30.2 re30.1, g6, oq_d78581ae ws36_79 ws27_79 ws23_79 ws19_79 ws16_79 ws13_79 ws11_79 ws7_79 g6, oq_ea4036f5 ws36_78 ws27_78 ws23_78 ws19_78 ws16_78 ws13_78 ws11_78 ws7_78, oq_b079aadb hps36.1 ws27_77 ws23_77 hps19.1 hps16.1 ws13_77 ws11_77 hps7.1, oq_666409b7 hps36.2 g35 re30.1 he30 ws27_75 ws27_77 hps27 ws23_75 ws23_77 ws19_75 hps19.2.2 ws16_75 ws13_75 ws11_75 ws7_75 b2.2, oq_ea4036f5 ws36_75 ws27_75 ws23_75 ws19_75 ws16_75 ws13_75 ws11_75 ws7_75⟩ | omega)
             refine d_br (bo_ne _ _) bx_ne (fun k ws X h1 h2 => z_icmp_ne X (t := 105) rfl (by decide) hrs19 hrs27 h1 h2) (fun g39 => ?_) (fun g39 => ?_)
             ·
               exact d_lift (fun k ws X h => z_const X rfl h) (N29 _ (Or.inl ⟨g39, rfl⟩))
             ·
               exact d_lift (fun k ws X h => z_const X rfl h) (d_lift (fun k ws X h => z_goto X (t := 106) rfl (by decide) h) (N29 _ (Or.inr (⟨g39, rfl⟩))))
           refine d_br (bo_ne _ _) bx_ne (fun k ws X h1 h2 => z_icmp_ne X (t := 82) rfl (by decide) hrs19 hrs23 h1 h2) (fun g40 => ?_) (fun g40 => ?_)
           ·
             exact d_lift (fun k ws X h => z_const X rfl h) (N25 _ (Or.inl ⟨g40, rfl⟩))
           ·
             exact d_lift (fun k ws X h => z_const X rfl h) (d_lift (fun k ws X h => z_goto X (t := 83) rfl (by decide) h) (N25 _ (Or.inr (⟨g40, rfl⟩))))
        ·
          refine d_lift (fun k ws X h => z_aload_n X (x := A 179) rfl (List.Mem.tail _ (List.Mem.tail _ (List.Mem.head _))) h) (d_callV 179 (As := []) (st := []) rfl rfl (by decide) rfl (d_skipWord G Is19 (by first | exact oq_4a8f9197 g22 hps19.2.1 ws16_75 hps16.2.2.2.2 hps16.2.2.1 ws13_75 ws11_75 ws7_75 b2.2 | omega) (fun q h => hti q ((by decide : ∀ q ∈ ([77, 75, 78, 79, 81] : List Nat), q ∈ ([77, 75, 78, 79, 81] : List Nat)) q h)) (fun a h => hta a ((by decide : ∀ q ∈ ([157, 158, 161] : List Nat), q ∈ ([157, 158, 161] : List Nat)) a h))) ⟨rfl, rfl⟩ ⟨(show 7 + 1 ≤ (12 + (3 * (r + 1))) from oq_d528a8f9 r), (show 8 + (mNL (miB 203) + 11) + 121 ≤ (500 + 45 * (3 * (r + 1))) from oq_218e8e31 r)⟩ (Nat.le_of_ble_eq_true rfl) (by decide) (by decide) (fun ee s41 hq => ?_) (fun vv s41 hq => ?_))
          · obtain ⟨Is41, Fs41, hv, hps41⟩ := hq; cases hv
          obtain ⟨Is41, Fs41, hv, hps41⟩ := hq
          have hps41p := hps41.1
          cases hv
          have Gs41 := fm_tq Gs19 Fs41 rfl rfl
          have b43 := bi_77 Is41
          have ws41_75 : iI s41 75 = iI s19 75 := fm_iq Fs41 rfl
          have ws41_79 : iI s41 79 = iI s19 79 := fm_iq Fs41 rfl
          have ws41_78 : iI s41 78 = iI s19 78 := fm_iq Fs41 rfl
          show DS l s0 D A dT 207 (rkR (3 * (r + 1))) [77, 79, 80, 78] [] (T) Q (T) 55 [(2, .int (Int32.ofInt e20)), (1, .int (Int32.ofInt e17)), (0, .ref (A 179))] [] s41
          refine d_lift (fun k ws X h => z_aload_n X (x := A 179) rfl (List.Mem.tail _ (List.Mem.tail _ (List.Mem.head _))) h) (d_liftS (fun k s X h => s_getR X 179 rfl (by decide) rfl rfl h) (d_lift (fun k ws X h => z_load_n X (x := e17) rfl (List.Mem.tail _ (List.Mem.head _)) h) (d_ald 184 rfl (by decide) rfl (by first | exact oq_7a1025bf g22 hps16.2.2.1 | omega) (show e17 < 7 by first | exact oq_dd54da3a hps16.2.2.2.1 | omega) (by decide) (hta 161 (by decide) _ (show (e17).toNat < 7 by first | exact oq_de29a9d3 hps16.2.2.2.1 | omega)) ?_)))
          have b44 := bc_161 Is41 (show (e17).toNat < 7 by first | exact oq_de29a9d3 hps16.2.2.2.1 | omega)
          exact d_iret rfl rfl (Or.inl rfl) rfl (fun _ h => h) (hQ _ _ ⟨Is41, Gs41, (iC s41 161 (e17).toNat), rfl, (rng_to _), by first | exact ⟨oq_4df13a51 ws41_78 ws19_78 ws16_78 ws13_78 ws11_78 ws7_78, oq_001376a3 hps41.1 hps19.1 hps16.1 ws13_77 ws11_77 hps7.1, oq_e8489aeb hps41.2 g22 ws19_75 hps19.2.1 ws16_75 hps16.2.2.2.2 hps16.2.2.1 ws13_75 ws11_75 ws7_75 b2.2, oq_e013ad0f g6, oq_17e59443 hps41.2 g22 ws19_75 hps19.2.1 ws16_75 hps16.2.2.2.2 hps16.2.2.1 ws13_75 ws11_75 ws7_75⟩ | omega⟩)
     ·
       refine d_lift (fun k ws X h => z_aload_n X (x := A 179) rfl (List.Mem.head _) h) (d_lift (fun k ws X h => z_const X rfl h) (d_lift (fun k ws X h => z_sipush X rfl h) (d_callV 179 (As := [.int (Int32.ofInt 0), .int (Int32.ofInt 999)]) (st := []) rfl rfl (by decide) rfl (d_number G Is13 (by first | exact ⟨by decide, by decide⟩ | omega) (by first | exact ⟨by decide, by decide⟩ | omega) (by first | exact oq_f38f7bb4 g15 ws13_77 hps13 ws11_77 hps11 ws7_75 b2.2 | omega) (fun q h => hti q ((by decide : ∀ q ∈ ([77, 75, 78, 79, 81] : List Nat), q ∈ ([77, 75, 78, 79, 81] : List Nat)) q h)) (fun a h => hta a ((by decide : ∀ q ∈ ([157, 158, 161] : List Nat), q ∈ ([157, 158, 161] : List Nat)) a h))) ⟨rfl, rfl⟩ ⟨(show 8 + 1 ≤ (12 + (3 * (r + 1))) from oq_0f4637ff r), (show 8 + (mNL (miB 196) + 11) + 141 ≤ (500 + 45 * (3 * (r + 1))) from oq_aa449917 r)⟩ (Nat.le_of_ble_eq_true rfl) (by decide) (by decide) (fun ee s45 hq => ?_) (fun vv s45 hq => ?_))))
       · obtain ⟨Is45, Fs45, e46, hv, hrs45, hps45⟩ := hq; cases hv
       obtain ⟨Is45, Fs45, e46, hv, hrs45, hps45⟩ := hq
       have hps45p := And.intro hps45.1 (hps45.2.2.2.2)
       cases hv
       have Gs45 := fm_tq Gs13 Fs45 rfl rfl
       have b47 := bi_77 Is45
       have ws45_75 : iI s45 75 = iI s13 75 := fm_iq Fs45 rfl
       have b48 := bi_79 Is45
       have ws45_78 : iI s45 78 = iI s13 78 := fm_iq Fs45 rfl
       show DS l s0 D A dT 207 (rkR (3 * (r + 1))) [77, 79, 80, 78] [] (T) Q (T) 35 [(0, .ref (A 179))] [.int (Int32.ofInt e46)] s45
       exact d_iret rfl rfl (Or.inl rfl) rfl (fun _ h => h) (hQ _ _ ⟨Is45, Gs45, e46, rfl, hrs45, by first | exact ⟨oq_ac0e91e1 ws45_78 ws13_78 ws11_78 ws7_78, oq_2277db11 hps45.1 ws13_77 ws11_77 hps7.1, oq_0bc52997 hps45.2.1 g15 ws13_75 ws13_77 hps13 ws11_75 ws11_77 hps11 ws7_75 b2.2, oq_e013ad0f g6, oq_7780b1ef hps45.2.1 g15 ws13_75 ws13_77 hps13 ws11_75 ws11_77 hps11 ws7_75⟩ | omega⟩)
  ·
    refine d_lift (fun k ws X h => z_const X rfl h) ?_
    exact d_iret rfl rfl (Or.inl rfl) rfl (fun _ h => h) (hQ _ _ ⟨I, F, 0, rfl, (by decide), by first | exact ⟨by decide, by decide, Or.inl (by decide), oq_4bed1c3e g6 b5.1, oq_6a3c9b31 g6 b5.1⟩ | omega⟩)
set_option maxHeartbeats 16000000 in
theorem d_productS (G : GX l s0 D tys a0 dT) {r : Nat} (hU : ∀ {s : PS} {T : TT}, Bd s → (iI s 77 ≤ 203) → (iI s 78 + ((r : Nat) : Int) = 7) → (iI s 78 = 7 → iI s 79 ≠ 0) → (∀ q ∈ ([77, 75, 78, 79, 81] : List Nat), T.1 q) → (∀ a ∈ ([157, 158, 161] : List Nat), ∀ j, j < (bA a).2.2 → T.2 a j) → CD l s0 D A dT 207 (rkR (3 * (r))) [77, 79, 80, 78] [] T T [.ref (A 179)] s (fun o t => Bd t ∧ Fm [77, 79, 80, 78] [] s t ∧ ∃ e, o = .inl (some (.int (Int32.ofInt e))) ∧ rng e ∧ (iI t 78 = iI s 78 ∧ iI s 77 ≤ iI t 77 ∧ (iI t 77 = iI s 77 ∨ iI t 77 ≤ 202) ∧ (iI s 79 ≠ 0 → iI t 79 ≠ 0) ∧ (iI t 79 = 0 → iI t 77 ≤ iI s 75)))) (I : Bd s) (p0 : iI s 77 ≤ 203) (p1 : iI s 78 + ((r : Nat) : Int) = 7) (p2 : iI s 78 = 7 → iI s 79 ≠ 0) {T : TT} (hti : ∀ q ∈ ([77, 75, 78, 79, 81] : List Nat), T.1 q) (hta : ∀ a ∈ ([157, 158, 161] : List Nat), ∀ j, j < (bA a).2.2 → T.2 a j) : CD l s0 D A dT 208 (rkR (3 * (r) + 1)) [77, 79, 80, 78] [] T (T) [.ref (A 179)] s (fun o t => Bd t ∧ Fm [77, 79, 80, 78] [] s t ∧ ∃ e, o = .inl (some (.int (Int32.ofInt e))) ∧ rng e ∧ (iI t 78 = iI s 78 ∧ iI s 77 ≤ iI t 77 ∧ (iI t 77 = iI s 77 ∨ iI t 77 ≤ 202) ∧ (iI s 79 ≠ 0 → iI t 79 ≠ 0) ∧ (iI t 79 = 0 → iI t 77 ≤ iI s 75))) := by
  refine cd_of G (by decide) (Nat.le_of_ble_eq_true rfl) (fun Q hQ => ?_)
  have I0 := I
  show DS l s0 D A dT 208 (rkR (3 * (r) + 1)) [77, 79, 80, 78] [] (T) Q (T) 0 [(0, .ref (A 179))] [] s
  have F : Fm [77, 79, 80, 78] [] s s := fm_rf _ _ s
  have b1 := bi_77 I
  have b2 := bi_75 I
  have b3 := bi_79 I
  have b4 := bi_78 I
  have L9 : ∀ (n : Nat) (t : PS) (v : Int), Bd t → Fm [77, 79, 80, 78] [] s t → (iI t 78 = iI s 78 ∧ iI s 77 ≤ iI t 77 ∧ (iI t 77 = iI s 77 ∨ iI t 77 ≤ 202) ∧ (iI s 79 ≠ 0 → iI t 79 ≠ 0) ∧ (iI t 79 = 0 → iI t 77 ≤ iI s 75) ∧ iI t 75 = iI s 75 ∧ rng v) → (iI t 75 - iI t 77 : Int).toNat < n → (∀ (t' : PS) (v' : Int), Bd t' → Fm [77, 79, 80, 78] [] s t' → (iI t' 78 = iI s 78 ∧ iI s 77 ≤ iI t' 77 ∧ (iI t' 77 = iI s 77 ∨ iI t' 77 ≤ 202) ∧ (iI s 79 ≠ 0 → iI t' 79 ≠ 0) ∧ (iI t' 79 = 0 → iI t' 77 ≤ iI s 75) ∧ iI t' 75 = iI s 75 ∧ rng v') → DS l s0 D A dT 208 (rkR (3 * (r) + 1)) [77, 79, 80, 78] [] (T) Q (T) 97 [(0, .ref (A 179)), (1, .int (Int32.ofInt v'))] [] t') → DS l s0 D A dT 208 (rkR (3 * (r) + 1)) [77, 79, 80, 78] [] (T) Q (T) 9 [(0, .ref (A 179)), (1, .int (Int32.ofInt v))] [] t := by
    intro n
    induction n with
    | zero =>
      intro t v I F hi hm kx
      exact absurd hm (Nat.not_lt_zero _)
    | succ n ih =>
      intro t v I F hi hm kx
      have b1001 := bi_77 I
      have b1002 := bi_75 I
      have b1003 := bi_79 I
      have b1004 := bi_78 I
      refine d_lift (fun k ws X h => z_aload_n X (x := A 179) rfl (List.Mem.head _) h) (d_getI 179 rfl (by decide) rfl rfl (hti 79 (by decide)) ?_)
      have b1005 := bi_79 I
      refine d_br (bo_ne _ _) bx_ne (fun k ws X h1 h2 => z_if_ne X (t := 97) rfl (by decide) (rng_to _) h1 h2) (fun g1006 => ?_) (fun g1006 => ?_)
      ·
        refine d_lvs (lv := [(0, .ref (A 179)), (1, .int (Int32.ofInt v))]) (List.forall_mem_cons.mpr ⟨(List.Mem.head _), (List.forall_mem_cons.mpr ⟨(List.Mem.tail _ (List.Mem.head _)), (fun q h => absurd h List.not_mem_nil)⟩)⟩) ?_
        exact kx _ v I F (by first | exact ⟨hi.1, hi.2.1, hi.2.2.1, hi.2.2.2.1, hi.2.2.2.2.1, hi.2.2.2.2.2.1, hi.2.2.2.2.2.2.1, hi.2.2.2.2.2.2.2⟩ | omega)
      ·
        refine d_lift (fun k ws X h => z_aload_n X (x := A 179) rfl (List.Mem.head _) h) (d_lift (fun k ws X h => z_aload_n X (x := A 179) rfl (List.Mem.head _) h) (d_getI 179 rfl (by decide) rfl rfl (hti 77 (by decide)) ?_))
        have b1007 := bi_77 I
        refine d_callV 179 (As := [.int (Int32.ofInt (iI t 77))]) (st := []) rfl rfl (by decide) rfl (d_byteAt G I (by first | exact ⟨b1007.1, oq_5a8480eb b1007.2⟩ | omega) (fun q h => hti q ((by decide : ∀ q ∈ ([75, 81] : List Nat), q ∈ ([77, 75, 78, 79, 81] : List Nat)) q h)) (fun a h => hta a ((by decide : ∀ q ∈ ([157, 158] : List Nat), q ∈ ([157, 158, 161] : List Nat)) a h))) ⟨rfl, rfl⟩ ⟨(show 6 + 1 ≤ (12 + (3 * (r) + 1)) from oq_c5ba317c r), (show 8 + (mNL (miB 192) + 11) + 100 ≤ (500 + 45 * (3 * (r) + 1)) from oq_93533a98 r)⟩ (Nat.le_of_ble_eq_true rfl) (by decide) (by decide) (fun ee s1008 hq => ?_) (fun vv s1008 hq => ?_)
        · obtain ⟨Is1008, Fs1008, e1009, hv, hrs1008, hps1008⟩ := hq; cases hv
        obtain ⟨Is1008, Fs1008, e1009, hv, hrs1008, hps1008⟩ := hq
        cases hv
        have Gs1008 := fm_tq F Fs1008 rfl rfl
        have ws1008_77 : iI s1008 77 = iI t 77 := fm_iq Fs1008 rfl
        have ws1008_75 : iI s1008 75 = iI t 75 := fm_iq Fs1008 rfl
        have ws1008_79 : iI s1008 79 = iI t 79 := fm_iq Fs1008 rfl
        have ws1008_78 : iI s1008 78 = iI t 78 := fm_iq Fs1008 rfl
        show DS l s0 D A dT 208 (rkR (3 * (r) + 1)) [77, 79, 80, 78] [] (T) Q (T) 24 [(0, .ref (A 179)), (1, .int (Int32.ofInt v))] [.int (Int32.ofInt e1009)] s1008
        refine d_lift (fun k ws X h => z_bipush X rfl h) (d_br (bo_eq _ _) bx_eq (fun k ws X h1 h2 => z_icmp_eq X (t := 42) rfl (by decide) hrs1008 (by decide) h1 h2) (fun g1010 => ?_) (fun g1010 => ?_))
        ·
          refine d_lift (fun k ws X h => z_aload_n X (x := A 179) rfl (List.Mem.head _) h) (d_lift (fun k ws X h => z_aload_n X (x := A 179) rfl (List.Mem.head _) h) (d_getI 179 rfl (by decide) rfl rfl (hti 77 (by decide)) ?_))
          have b1011 := bi_77 Is1008
          refine d_callV 179 (As := [.int (Int32.ofInt (iI s1008 77))]) (st := []) rfl rfl (by decide) rfl (d_byteAt G Is1008 (by first | exact ⟨b1011.1, oq_5a8480eb b1011.2⟩ | omega) (fun q h => hti q ((by decide : ∀ q ∈ ([75, 81] : List Nat), q ∈ ([77, 75, 78, 79, 81] : List Nat)) q h)) (fun a h => hta a ((by decide : ∀ q ∈ ([157, 158] : List Nat), q ∈ ([157, 158, 161] : List Nat)) a h))) ⟨rfl, rfl⟩ ⟨(show 6 + 1 ≤ (12 + (3 * (r) + 1)) from oq_c5ba317c r), (show 8 + (mNL (miB 192) + 11) + 100 ≤ (500 + 45 * (3 * (r) + 1)) from oq_93533a98 r)⟩ (Nat.le_of_ble_eq_true rfl) (by decide) (by decide) (fun ee s1012 hq => ?_) (fun vv s1012 hq => ?_)
          · obtain ⟨Is1012, Fs1012, e1013, hv, hrs1012, hps1012⟩ := hq; cases hv
          obtain ⟨Is1012, Fs1012, e1013, hv, hrs1012, hps1012⟩ := hq
          cases hv
          have Gs1012 := fm_tq Gs1008 Fs1012 rfl rfl
          have ws1012_77 : iI s1012 77 = iI s1008 77 := fm_iq Fs1012 rfl
          have ws1012_75 : iI s1012 75 = iI s1008 75 := fm_iq Fs1012 rfl
          have ws1012_79 : iI s1012 79 = iI s1008 79 := fm_iq Fs1012 rfl
          have ws1012_78 : iI s1012 78 = iI s1008 78 := fm_iq Fs1012 rfl
          show DS l s0 D A dT 208 (rkR (3 * (r) + 1)) [77, 79, 80, 78] [] (T) Q (T) 50 [(0, .ref (A 179)), (1, .int (Int32.ofInt v))] [.int (Int32.ofInt e1013)] s1012
          refine d_lift (fun k ws X h => z_store_n X (lv' := [(2, .int (Int32.ofInt e1013)), (0, .ref (A 179)), (1, .int (Int32.ofInt v))]) rfl (by decide) (fun _ h => h) h) (d_lift (fun k ws X h => z_aload_n X (x := A 179) rfl (List.Mem.tail _ (List.Mem.head _)) h) (d_lift (fun k ws X h => w_dup X.1 (ax_d X (show cdA 208 52 = some (.dup, 1, 0, 0, 0) from rfl)) rfl h) (d_getI 179 rfl (by decide) rfl rfl (hti 77 (by decide)) ?_)))
          have b1014 := bi_77 Is1012
          refine d_lift (fun k ws X h => z_const X rfl h) (d_lift (fun k ws X h => z_add X rfl h) (d_putI 179 rfl (by decide) rfl rfl (by decide) rfl rfl rfl (show 77 ∈ _ by decide) (show (0 : Int) ≤ ((iI s1012 77) + 1) ∧ ((iI s1012 77) + 1) ≤ 400 by first | exact ⟨oq_54f49eb5 b1014.1, oq_9aa81982 ws1012_77 g1010 ws1008_77 hps1008 b1002.2⟩ | omega) ⟨by first | exact oq_74de1e16 b1014.1 | omega, by first | exact oq_964ce197 b1014.2 | omega⟩ (d_mono (T' := T) (fun _ h => Or.inr h) (fun _ _ h => h) (ds_gen (fun s1015 hs1015 => ?_)))))
          have Is1015 : Bd s1015 := eqB hs1015 (bd_I Is1012 (show (0 : Int) ≤ ((iI s1012 77) + 1) ∧ ((iI s1012 77) + 1) ≤ 400 by first | exact ⟨oq_54f49eb5 b1014.1, oq_9aa81982 ws1012_77 g1010 ws1008_77 hps1008 b1002.2⟩ | omega) ⟨by first | exact oq_74de1e16 b1014.1 | omega, by first | exact oq_964ce197 b1014.2 | omega⟩)
          have Fs1015 := eqF hs1015 (fm_I Gs1012 (inl_ok (a := 77) rfl))
          have vs1015 : iI s1015 77 = ((iI s1012 77) + 1) := eqI hs1015 (iI_u ⟨by first | exact oq_74de1e16 b1014.1 | omega, by first | exact oq_964ce197 b1014.2 | omega⟩)
          have ws1015_75 : iI s1015 75 = iI s1012 75 := eqI hs1015 rfl
          have ws1015_79 : iI s1015 79 = iI s1012 79 := eqI hs1015 rfl
          have ws1015_78 : iI s1015 78 = iI s1012 78 := eqI hs1015 rfl
          refine d_lift (fun k ws X h => z_aload_n X (x := A 179) rfl (List.Mem.tail _ (List.Mem.head _)) h) (d_callV 179 (As := []) (st := []) rfl rfl (by decide) rfl (hU Is1015 (by first | exact oq_07b3b4af vs1015 ws1012_77 g1010 ws1008_77 hps1008 b1002.2 | omega) (by first | exact oq_c128dca8 ws1015_78 p1 ws1012_78 ws1008_78 hi.1 | omega) (by first | exact oq_022cbb1f ws1015_78 ws1012_78 ws1008_78 g1006 hi.2.2.2.1 hi.1 b3.1 p2 | omega) (fun q h => hti q ((by decide : ∀ q ∈ ([77, 75, 78, 79, 81] : List Nat), q ∈ ([77, 75, 78, 79, 81] : List Nat)) q h)) (fun a h => hta a ((by decide : ∀ q ∈ ([157, 158, 161] : List Nat), q ∈ ([157, 158, 161] : List Nat)) a h))) ⟨rfl, rfl⟩ ⟨(show (12 + (3 * (r))) + 1 ≤ (12 + (3 * (r) + 1)) from oq_5e3fa304 r), (show 8 + (mNL (miB 207) + 11) + (500 + 45 * (3 * (r))) ≤ (500 + 45 * (3 * (r) + 1)) from oq_ea5e6b1c r)⟩ (Nat.le_of_ble_eq_true rfl) (by decide) (by decide) (fun ee s1016 hq => ?_) (fun vv s1016 hq => ?_))
          · obtain ⟨Is1016, Fs1016, e1017, hv, hrs1016, hps1016⟩ := hq; cases hv
          obtain ⟨Is1016, Fs1016, e1017, hv, hrs1016, hps1016⟩ := hq
          have hps1016p := And.intro hps1016.1 (hps1016.2.1)
          cases hv
          have Gs1016 := fm_tq Fs1015 Fs1016 rfl rfl
          have b1018 := bi_77 Is1016
          have ws1016_75 : iI s1016 75 = iI s1015 75 := fm_iq Fs1016 rfl
          have b1019 := bi_79 Is1016
          have b1020 := bi_78 Is1016
          show DS l s0 D A dT 208 (rkR (3 * (r) + 1)) [77, 79, 80, 78] [] (T) Q (T) 65 [(2, .int (Int32.ofInt e1013)), (0, .ref (A 179)), (1, .int (Int32.ofInt v))] [.int (Int32.ofInt e1017)] s1016
          refine d_lift (fun k ws X h => z_store_n X (lv' := [(3, .int (Int32.ofInt e1017)), (2, .int (Int32.ofInt e1013)), (0, .ref (A 179)), (1, .int (Int32.ofInt v))]) rfl (by decide) (fun _ h => h) h) (d_lift (fun k ws X h => z_load_n X (x := e1013) rfl (List.Mem.tail _ (List.Mem.head _)) h) (d_lift (fun k ws X h => z_bipush X rfl h) (d_br (bo_ne _ _) bx_ne (fun k ws X h1 h2 => z_icmp_ne X (t := 78) rfl (by decide) hrs1012 (by decide) h1 h2) (fun g1021 => ?_) (fun g1021 => ?_))))
          ·
            refine d_lift (fun k ws X h => z_load_n X (x := e1017) rfl (List.Mem.head _) h) (d_br (bo_ne _ _) bx_ne (fun k ws X h1 h2 => z_if_ne X (t := 86) rfl (by decide) hrs1016 h1 h2) (fun g1022 => ?_) (fun g1022 => ?_))
            ·
              refine d_lift (fun k ws X h => z_load_n X (x := v) rfl (List.Mem.tail _ (List.Mem.tail _ (List.Mem.tail _ (List.Mem.head _)))) h) (d_lift (fun k ws X h => z_load_n X (x := e1017) rfl (List.Mem.head _) h) (d_dany rfl (by first | exact g1022 | omega) hrs1016 (fun y1023 hy1023 => ?_)))
              refine d_lift (fun k ws X h => z_store_n X (lv' := [(1, .int (Int32.ofInt y1023)), (3, .int (Int32.ofInt e1017)), (2, .int (Int32.ofInt e1013)), (0, .ref (A 179))]) rfl (by decide) (fun _ h => h) h) (d_lift (fun k ws X h => z_aload_n X (x := A 179) rfl (List.Mem.tail _ (List.Mem.tail _ (List.Mem.tail _ (List.Mem.head _)))) h) (d_callV 179 (As := []) (st := []) rfl rfl (by decide) rfl (d_blanks G Is1016 (by first | exact oq_85883ae7 hps1016.2.2.1 vs1015 ws1012_77 g1010 ws1008_77 hps1008 b1002.2 | omega) (fun q h => hti q ((by decide : ∀ q ∈ ([77, 75, 78, 79, 81] : List Nat), q ∈ ([77, 75, 78, 79, 81] : List Nat)) q h)) (fun a h => hta a ((by decide : ∀ q ∈ ([157, 158, 161] : List Nat), q ∈ ([157, 158, 161] : List Nat)) a h))) ⟨rfl, rfl⟩ ⟨(show 7 + 1 ≤ (12 + (3 * (r) + 1)) from oq_4609964d r), (show 8 + (mNL (miB 193) + 11) + 121 ≤ (500 + 45 * (3 * (r) + 1)) from oq_12dd44ff r)⟩ (Nat.le_of_ble_eq_true rfl) (by decide) (by decide) (fun ee s1024 hq => ?_) (fun vv s1024 hq => ?_)))
              · obtain ⟨Is1024, Fs1024, hv, hps1024⟩ := hq; cases hv
              obtain ⟨Is1024, Fs1024, hv, hps1024⟩ := hq
              have hps1024p := hps1024.1
              cases hv
              have Gs1024 := fm_tq Gs1016 Fs1024 rfl rfl
              have b1026 := bi_77 Is1024
              have ws1024_75 : iI s1024 75 = iI s1016 75 := fm_iq Fs1024 rfl
              have ws1024_79 : iI s1024 79 = iI s1016 79 := fm_iq Fs1024 rfl
              have ws1024_78 : iI s1024 78 = iI s1016 78 := fm_iq Fs1024 rfl
              show DS l s0 D A dT 208 (rkR (3 * (r) + 1)) [77, 79, 80, 78] [] (T) Q (T) 94 [(1, .int (Int32.ofInt y1023)), (3, .int (Int32.ofInt e1017)), (2, .int (Int32.ofInt e1013)), (0, .ref (A 179))] [] s1024
              refine d_lift (fun k ws X h => z_goto X (t := 9) rfl (by decide) h) (d_lvs (lv := [(0, .ref (A 179)), (1, .int (Int32.ofInt y1023))]) (List.forall_mem_cons.mpr ⟨(List.Mem.tail _ (List.Mem.tail _ (List.Mem.tail _ (List.Mem.head _)))), (List.forall_mem_cons.mpr ⟨(List.Mem.head _), (fun q h => absurd h List.not_mem_nil)⟩)⟩) ?_)
              exact ih _ y1023 Is1024 Gs1024 (by first | exact ⟨oq_4df13a51 ws1024_78 hps1016.1 ws1015_78 ws1012_78 ws1008_78 hi.1, oq_eb1873c8 hps1024.1 hps1016.2.1 vs1015 ws1012_77 ws1008_77 hi.2.1, oq_b21decb8 hps1024.2 ws1016_75 hps1016.2.2.1 ws1015_75 vs1015 ws1012_75 ws1012_77 g1010 ws1008_75 ws1008_77 hps1008 b1002.2, oq_67b737cd g1006 hi.2.2.2.1 b3.1, oq_2492eb85 ws1024_79 hps1024.2 b1019.1 ws1016_75 hps1016.2.2.2.2 ws1015_75 ws1012_75 ws1008_75 hi.2.2.2.2.2.1, oq_4df13a51 ws1024_75 ws1016_75 ws1015_75 ws1012_75 ws1008_75 hi.2.2.2.2.2.1, hy1023.1, hy1023.2⟩ | omega) (by first | exact qk_me hm (oq_dbad9805 ws1024_75 hps1024.1 ws1016_75 hps1016.2.1 ws1015_75 vs1015 ws1012_75 ws1012_77 ws1008_75 ws1008_77) (oq_79c62f09 g1010 hps1008) | omega) kx
            ·
              refine d_lift (fun k ws X h => z_const X rfl h) (d_lift (fun k ws X h => z_goto X (t := 89) rfl (by decide) h) (d_lift (fun k ws X h => z_store_n X (lv' := [(1, .int (Int32.ofInt 0)), (3, .int (Int32.ofInt e1017)), (2, .int (Int32.ofInt e1013)), (0, .ref (A 179))]) rfl (by decide) (fun _ h => h) h) (d_lift (fun k ws X h => z_aload_n X (x := A 179) rfl (List.Mem.tail _ (List.Mem.tail _ (List.Mem.tail _ (List.Mem.head _)))) h) (d_callV 179 (As := []) (st := []) rfl rfl (by decide) rfl (d_blanks G Is1016 (by first | exact oq_85883ae7 hps1016.2.2.1 vs1015 ws1012_77 g1010 ws1008_77 hps1008 b1002.2 | omega) (fun q h => hti q ((by decide : ∀ q ∈ ([77, 75, 78, 79, 81] : List Nat), q ∈ ([77, 75, 78, 79, 81] : List Nat)) q h)) (fun a h => hta a ((by decide : ∀ q ∈ ([157, 158, 161] : List Nat), q ∈ ([157, 158, 161] : List Nat)) a h))) ⟨rfl, rfl⟩ ⟨(show 7 + 1 ≤ (12 + (3 * (r) + 1)) from oq_4609964d r), (show 8 + (mNL (miB 193) + 11) + 121 ≤ (500 + 45 * (3 * (r) + 1)) from oq_12dd44ff r)⟩ (Nat.le_of_ble_eq_true rfl) (by decide) (by decide) (fun ee s1027 hq => ?_) (fun vv s1027 hq => ?_)))))
              · obtain ⟨Is1027, Fs1027, hv, hps1027⟩ := hq; cases hv
              obtain ⟨Is1027, Fs1027, hv, hps1027⟩ := hq
              have hps1027p := hps1027.1
              cases hv
              have Gs1027 := fm_tq Gs1016 Fs1027 rfl rfl
              have b1029 := bi_77 Is1027
              have ws1027_75 : iI s1027 75 = iI s1016 75 := fm_iq Fs1027 rfl
              have ws1027_79 : iI s1027 79 = iI s1016 79 := fm_iq Fs1027 rfl
              have ws1027_78 : iI s1027 78 = iI s1016 78 := fm_iq Fs1027 rfl
              show DS l s0 D A dT 208 (rkR (3 * (r) + 1)) [77, 79, 80, 78] [] (T) Q (T) 94 [(1, .int (Int32.ofInt 0)), (3, .int (Int32.ofInt e1017)), (2, .int (Int32.ofInt e1013)), (0, .ref (A 179))] [] s1027
              refine d_lift (fun k ws X h => z_goto X (t := 9) rfl (by decide) h) (d_lvs (lv := [(0, .ref (A 179)), (1, .int (Int32.ofInt 0))]) (List.forall_mem_cons.mpr ⟨(List.Mem.tail _ (List.Mem.tail _ (List.Mem.tail _ (List.Mem.head _)))), (List.forall_mem_cons.mpr ⟨(List.Mem.head _), (fun q h => absurd h List.not_mem_nil)⟩)⟩) ?_)
              exact ih _ 0 Is1027 Gs1027 (by first | exact ⟨oq_4df13a51 ws1027_78 hps1016.1 ws1015_78 ws1012_78 ws1008_78 hi.1, oq_eb1873c8 hps1027.1 hps1016.2.1 vs1015 ws1012_77 ws1008_77 hi.2.1, oq_b21decb8 hps1027.2 ws1016_75 hps1016.2.2.1 ws1015_75 vs1015 ws1012_75 ws1012_77 g1010 ws1008_75 ws1008_77 hps1008 b1002.2, oq_67b737cd g1006 hi.2.2.2.1 b3.1, oq_2492eb85 ws1027_79 hps1027.2 b1019.1 ws1016_75 hps1016.2.2.2.2 ws1015_75 ws1012_75 ws1008_75 hi.2.2.2.2.2.1, oq_4df13a51 ws1027_75 ws1016_75 ws1015_75 ws1012_75 ws1008_75 hi.2.2.2.2.2.1, by decide, by decide⟩ | omega) (by first | exact qk_me hm (oq_dbad9805 ws1027_75 hps1027.1 ws1016_75 hps1016.2.1 ws1015_75 vs1015 ws1012_75 ws1012_77 ws1008_75 ws1008_77) (oq_79c62f09 g1010 hps1008) | omega) kx
          ·
            refine d_lift (fun k ws X h => z_load_n X (x := v) rfl (List.Mem.tail _ (List.Mem.tail _ (List.Mem.tail _ (List.Mem.head _)))) h) (d_lift (fun k ws X h => z_load_n X (x := e1017) rfl (List.Mem.head _) h) (d_lift (fun k ws X h => z_mul X rfl h) (d_any (fun y1030 hy1030 => ?_))))
            refine d_lift (fun k ws X h => z_goto X (t := 89) rfl (by decide) h) (d_lift (fun k ws X h => z_store_n X (lv' := [(1, .int (Int32.ofInt y1030)), (3, .int (Int32.ofInt e1017)), (2, .int (Int32.ofInt e1013)), (0, .ref (A 179))]) rfl (by decide) (fun _ h => h) h) (d_lift (fun k ws X h => z_aload_n X (x := A 179) rfl (List.Mem.tail _ (List.Mem.tail _ (List.Mem.tail _ (List.Mem.head _)))) h) (d_callV 179 (As := []) (st := []) rfl rfl (by decide) rfl (d_blanks G Is1016 (by first | exact oq_8d8577c7 g1021 hps1016.2.2.1 vs1015 ws1012_77 hps1012 ws1008_75 b1002.2 | omega) (fun q h => hti q ((by decide : ∀ q ∈ ([77, 75, 78, 79, 81] : List Nat), q ∈ ([77, 75, 78, 79, 81] : List Nat)) q h)) (fun a h => hta a ((by decide : ∀ q ∈ ([157, 158, 161] : List Nat), q ∈ ([157, 158, 161] : List Nat)) a h))) ⟨rfl, rfl⟩ ⟨(show 7 + 1 ≤ (12 + (3 * (r) + 1)) from oq_4609964d r), (show 8 + (mNL (miB 193) + 11) + 121 ≤ (500 + 45 * (3 * (r) + 1)) from oq_12dd44ff r)⟩ (Nat.le_of_ble_eq_true rfl) (by decide) (by decide) (fun ee s1031 hq => ?_) (fun vv s1031 hq => ?_))))
            · obtain ⟨Is1031, Fs1031, hv, hps1031⟩ := hq; cases hv
            obtain ⟨Is1031, Fs1031, hv, hps1031⟩ := hq
            have hps1031p := hps1031.1
            cases hv
            have Gs1031 := fm_tq Gs1016 Fs1031 rfl rfl
            have b1033 := bi_77 Is1031
            have ws1031_75 : iI s1031 75 = iI s1016 75 := fm_iq Fs1031 rfl
            have ws1031_79 : iI s1031 79 = iI s1016 79 := fm_iq Fs1031 rfl
            have ws1031_78 : iI s1031 78 = iI s1016 78 := fm_iq Fs1031 rfl
            show DS l s0 D A dT 208 (rkR (3 * (r) + 1)) [77, 79, 80, 78] [] (T) Q (T) 94 [(1, .int (Int32.ofInt y1030)), (3, .int (Int32.ofInt e1017)), (2, .int (Int32.ofInt e1013)), (0, .ref (A 179))] [] s1031
            refine d_lift (fun k ws X h => z_goto X (t := 9) rfl (by decide) h) (d_lvs (lv := [(0, .ref (A 179)), (1, .int (Int32.ofInt y1030))]) (List.forall_mem_cons.mpr ⟨(List.Mem.tail _ (List.Mem.tail _ (List.Mem.tail _ (List.Mem.head _)))), (List.forall_mem_cons.mpr ⟨(List.Mem.head _), (fun q h => absurd h List.not_mem_nil)⟩)⟩) ?_)
            exact ih _ y1030 Is1031 Gs1031 (by first | exact ⟨oq_4df13a51 ws1031_78 hps1016.1 ws1015_78 ws1012_78 ws1008_78 hi.1, oq_eb1873c8 hps1031.1 hps1016.2.1 vs1015 ws1012_77 ws1008_77 hi.2.1, oq_86650467 hps1031.2 g1021 ws1016_75 hps1016.2.2.1 ws1015_75 vs1015 ws1012_75 ws1012_77 hps1012 ws1008_75 b1002.2, oq_67b737cd g1006 hi.2.2.2.1 b3.1, oq_2492eb85 ws1031_79 hps1031.2 b1019.1 ws1016_75 hps1016.2.2.2.2 ws1015_75 ws1012_75 ws1008_75 hi.2.2.2.2.2.1, oq_4df13a51 ws1031_75 ws1016_75 ws1015_75 ws1012_75 ws1008_75 hi.2.2.2.2.2.1, hy1030.1, hy1030.2⟩ | omega) (by first | exact qk_me hm (oq_dbad9805 ws1031_75 hps1031.1 ws1016_75 hps1016.2.1 ws1015_75 vs1015 ws1012_75 ws1012_77 ws1008_75 ws1008_77) (oq_67b87371 g1021 hps1012 ws1008_75 ws1008_77) | omega) kx
        ·
          refine d_lift (fun k ws X h => z_aload_n X (x := A 179) rfl (List.Mem.head _) h) (d_lift (fun k ws X h => z_aload_n X (x := A 179) rfl (List.Mem.head _) h) (d_getI 179 rfl (by decide) rfl rfl (hti 77 (by decide)) ?_))
          have b1034 := bi_77 Is1008
          refine d_callV 179 (As := [.int (Int32.ofInt (iI s1008 77))]) (st := []) rfl rfl (by decide) rfl (d_byteAt G Is1008 (by first | exact ⟨b1034.1, oq_5a8480eb b1034.2⟩ | omega) (fun q h => hti q ((by decide : ∀ q ∈ ([75, 81] : List Nat), q ∈ ([77, 75, 78, 79, 81] : List Nat)) q h)) (fun a h => hta a ((by decide : ∀ q ∈ ([157, 158] : List Nat), q ∈ ([157, 158, 161] : List Nat)) a h))) ⟨rfl, rfl⟩ ⟨(show 6 + 1 ≤ (12 + (3 * (r) + 1)) from oq_c5ba317c r), (show 8 + (mNL (miB 192) + 11) + 100 ≤ (500 + 45 * (3 * (r) + 1)) from oq_93533a98 r)⟩ (Nat.le_of_ble_eq_true rfl) (by decide) (by decide) (fun ee s1035 hq => ?_) (fun vv s1035 hq => ?_)
          · obtain ⟨Is1035, Fs1035, e1036, hv, hrs1035, hps1035⟩ := hq; cases hv
          obtain ⟨Is1035, Fs1035, e1036, hv, hrs1035, hps1035⟩ := hq
          cases hv
          have Gs1035 := fm_tq Gs1008 Fs1035 rfl rfl
          have ws1035_77 : iI s1035 77 = iI s1008 77 := fm_iq Fs1035 rfl
          have ws1035_75 : iI s1035 75 = iI s1008 75 := fm_iq Fs1035 rfl
          have ws1035_79 : iI s1035 79 = iI s1008 79 := fm_iq Fs1035 rfl
          have ws1035_78 : iI s1035 78 = iI s1008 78 := fm_iq Fs1035 rfl
          show DS l s0 D A dT 208 (rkR (3 * (r) + 1)) [77, 79, 80, 78] [] (T) Q (T) 37 [(0, .ref (A 179)), (1, .int (Int32.ofInt v))] [.int (Int32.ofInt e1036)] s1035
          refine d_lift (fun k ws X h => z_bipush X rfl h) (d_br (bo_ne _ _) bx_ne (fun k ws X h1 h2 => z_icmp_ne X (t := 97) rfl (by decide) hrs1035 (by decide) h1 h2) (fun g1037 => ?_) (fun g1037 => ?_))
          ·
            refine d_lvs (lv := [(0, .ref (A 179)), (1, .int (Int32.ofInt v))]) (List.forall_mem_cons.mpr ⟨(List.Mem.head _), (List.forall_mem_cons.mpr ⟨(List.Mem.tail _ (List.Mem.head _)), (fun q h => absurd h List.not_mem_nil)⟩)⟩) ?_
            exact kx _ v Is1035 Gs1035 (by first | exact ⟨oq_878618b1 ws1035_78 ws1008_78 hi.1, oq_143762c7 ws1035_77 hi.2.1 ws1008_77, oq_89653d58 ws1035_77 ws1008_77 hi.2.2.1 p0, oq_67b737cd g1006 hi.2.2.2.1 b3.1, oq_8d1ca4d6 ws1035_77 ws1008_77 g1006 hi.2.2.2.2.1, oq_d0d2714e ws1035_75 hi.2.2.2.2.2.1 ws1008_75, hi.2.2.2.2.2.2.1, hi.2.2.2.2.2.2.2⟩ | omega)
          ·
            refine d_lift (fun k ws X h => z_aload_n X (x := A 179) rfl (List.Mem.head _) h) (d_lift (fun k ws X h => z_aload_n X (x := A 179) rfl (List.Mem.head _) h) (d_getI 179 rfl (by decide) rfl rfl (hti 77 (by decide)) ?_))
            have b1038 := bi_77 Is1035
            refine d_callV 179 (As := [.int (Int32.ofInt (iI s1035 77))]) (st := []) rfl rfl (by decide) rfl (d_byteAt G Is1035 (by first | exact ⟨b1038.1, oq_5a8480eb b1038.2⟩ | omega) (fun q h => hti q ((by decide : ∀ q ∈ ([75, 81] : List Nat), q ∈ ([77, 75, 78, 79, 81] : List Nat)) q h)) (fun a h => hta a ((by decide : ∀ q ∈ ([157, 158] : List Nat), q ∈ ([157, 158, 161] : List Nat)) a h))) ⟨rfl, rfl⟩ ⟨(show 6 + 1 ≤ (12 + (3 * (r) + 1)) from oq_c5ba317c r), (show 8 + (mNL (miB 192) + 11) + 100 ≤ (500 + 45 * (3 * (r) + 1)) from oq_93533a98 r)⟩ (Nat.le_of_ble_eq_true rfl) (by decide) (by decide) (fun ee s1039 hq => ?_) (fun vv s1039 hq => ?_)
            · obtain ⟨Is1039, Fs1039, e1040, hv, hrs1039, hps1039⟩ := hq; cases hv
            obtain ⟨Is1039, Fs1039, e1040, hv, hrs1039, hps1039⟩ := hq
            cases hv
            have Gs1039 := fm_tq Gs1035 Fs1039 rfl rfl
            have ws1039_77 : iI s1039 77 = iI s1035 77 := fm_iq Fs1039 rfl
            have ws1039_75 : iI s1039 75 = iI s1035 75 := fm_iq Fs1039 rfl
            have ws1039_79 : iI s1039 79 = iI s1035 79 := fm_iq Fs1039 rfl
            have ws1039_78 : iI s1039 78 = iI s1035 78 := fm_iq Fs1039 rfl
            show DS l s0 D A dT 208 (rkR (3 * (r) + 1)) [77, 79, 80, 78] [] (T) Q (T) 50 [(0, .ref (A 179)), (1, .int (Int32.ofInt v))] [.int (Int32.ofInt e1040)] s1039
            refine d_lift (fun k ws X h => z_store_n X (lv' := [(2, .int (Int32.ofInt e1040)), (0, .ref (A 179)), (1, .int (Int32.ofInt v))]) rfl (by decide) (fun _ h => h) h) (d_lift (fun k ws X h => z_aload_n X (x := A 179) rfl (List.Mem.tail _ (List.Mem.head _)) h) (d_lift (fun k ws X h => w_dup X.1 (ax_d X (show cdA 208 52 = some (.dup, 1, 0, 0, 0) from rfl)) rfl h) (d_getI 179 rfl (by decide) rfl rfl (hti 77 (by decide)) ?_)))
            have b1041 := bi_77 Is1039
            refine d_lift (fun k ws X h => z_const X rfl h) (d_lift (fun k ws X h => z_add X rfl h) (d_putI 179 rfl (by decide) rfl rfl (by decide) rfl rfl rfl (show 77 ∈ _ by decide) (show (0 : Int) ≤ ((iI s1039 77) + 1) ∧ ((iI s1039 77) + 1) ≤ 400 by first | exact ⟨oq_54f49eb5 b1041.1, oq_574c31e4 ws1039_77 g1037 ws1035_77 hps1035 ws1008_75 b1002.2⟩ | omega) ⟨by first | exact oq_74de1e16 b1041.1 | omega, by first | exact oq_964ce197 b1041.2 | omega⟩ (d_mono (T' := T) (fun _ h => Or.inr h) (fun _ _ h => h) (ds_gen (fun s1042 hs1042 => ?_)))))
            have Is1042 : Bd s1042 := eqB hs1042 (bd_I Is1039 (show (0 : Int) ≤ ((iI s1039 77) + 1) ∧ ((iI s1039 77) + 1) ≤ 400 by first | exact ⟨oq_54f49eb5 b1041.1, oq_574c31e4 ws1039_77 g1037 ws1035_77 hps1035 ws1008_75 b1002.2⟩ | omega) ⟨by first | exact oq_74de1e16 b1041.1 | omega, by first | exact oq_964ce197 b1041.2 | omega⟩)
            have Fs1042 := eqF hs1042 (fm_I Gs1039 (inl_ok (a := 77) rfl))
            have vs1042 : iI s1042 77 = ((iI s1039 77) + 1) := eqI hs1042 (iI_u ⟨by first | exact oq_74de1e16 b1041.1 | omega, by first | exact oq_964ce197 b1041.2 | omega⟩)
            have ws1042_75 : iI s1042 75 = iI s1039 75 := eqI hs1042 rfl
            have ws1042_79 : iI s1042 79 = iI s1039 79 := eqI hs1042 rfl
            have ws1042_78 : iI s1042 78 = iI s1039 78 := eqI hs1042 rfl
            refine d_lift (fun k ws X h => z_aload_n X (x := A 179) rfl (List.Mem.tail _ (List.Mem.head _)) h) (d_callV 179 (As := []) (st := []) rfl rfl (by decide) rfl (hU Is1042 (by first | exact oq_999a8fc0 vs1042 ws1039_77 g1037 ws1035_77 hps1035 ws1008_75 b1002.2 | omega) (by first | exact oq_0ef7b38f ws1042_78 ws1039_78 ws1035_78 ws1008_78 hi.1 p1 | omega) (by first | exact oq_63e554e6 ws1042_78 ws1039_78 ws1035_78 ws1008_78 g1006 hi.2.2.2.1 hi.1 b3.1 p2 | omega) (fun q h => hti q ((by decide : ∀ q ∈ ([77, 75, 78, 79, 81] : List Nat), q ∈ ([77, 75, 78, 79, 81] : List Nat)) q h)) (fun a h => hta a ((by decide : ∀ q ∈ ([157, 158, 161] : List Nat), q ∈ ([157, 158, 161] : List Nat)) a h))) ⟨rfl, rfl⟩ ⟨(show (12 + (3 * (r))) + 1 ≤ (12 + (3 * (r) + 1)) from oq_5e3fa304 r), (show 8 + (mNL (miB 207) + 11) + (500 + 45 * (3 * (r))) ≤ (500 + 45 * (3 * (r) + 1)) from oq_ea5e6b1c r)⟩ (Nat.le_of_ble_eq_true rfl) (by decide) (by decide) (fun ee s1043 hq => ?_) (fun vv s1043 hq => ?_))
            · obtain ⟨Is1043, Fs1043, e1044, hv, hrs1043, hps1043⟩ := hq; cases hv
            obtain ⟨Is1043, Fs1043, e1044, hv, hrs1043, hps1043⟩ := hq
            have hps1043p := And.intro hps1043.1 (hps1043.2.1)
            cases hv
            have Gs1043 := fm_tq Fs1042 Fs1043 rfl rfl
            have b1045 := bi_77 Is1043
            have ws1043_75 : iI s1043 75 = iI s1042 75 := fm_iq Fs1043 rfl
            have b1046 := bi_79 Is1043
            have b1047 := bi_78 Is1043
            show DS l s0 D A dT 208 (rkR (3 * (r) + 1)) [77, 79, 80, 78] [] (T) Q (T) 65 [(2, .int (Int32.ofInt e1040)), (0, .ref (A 179)), (1, .int (Int32.ofInt v))] [.int (Int32.ofInt e1044)] s1043
            refine d_lift (fun k ws X h => z_store_n X (lv' := [(3, .int (Int32.ofInt e1044)), (2, .int (Int32.ofInt e1040)), (0, .ref (A 179)), (1, .int (Int32.ofInt v))]) rfl (by decide) (fun _ h => h) h) (d_lift (fun k ws X h => z_load_n X (x := e1040) rfl (List.Mem.tail _ (List.Mem.head _)) h) (d_lift (fun k ws X h => z_bipush X rfl h) (d_br (bo_ne _ _) bx_ne (fun k ws X h1 h2 => z_icmp_ne X (t := 78) rfl (by decide) hrs1039 (by decide) h1 h2) (fun g1048 => ?_) (fun g1048 => ?_))))
            ·
              refine d_lift (fun k ws X h => z_load_n X (x := e1044) rfl (List.Mem.head _) h) (d_br (bo_ne _ _) bx_ne (fun k ws X h1 h2 => z_if_ne X (t := 86) rfl (by decide) hrs1043 h1 h2) (fun g1049 => ?_) (fun g1049 => ?_))
              ·
                refine d_lift (fun k ws X h => z_load_n X (x := v) rfl (List.Mem.tail _ (List.Mem.tail _ (List.Mem.tail _ (List.Mem.head _)))) h) (d_lift (fun k ws X h => z_load_n X (x := e1044) rfl (List.Mem.head _) h) (d_dany rfl (by first | exact g1049 | omega) hrs1043 (fun y1050 hy1050 => ?_)))
                refine d_lift (fun k ws X h => z_store_n X (lv' := [(1, .int (Int32.ofInt y1050)), (3, .int (Int32.ofInt e1044)), (2, .int (Int32.ofInt e1040)), (0, .ref (A 179))]) rfl (by decide) (fun _ h => h) h) (d_lift (fun k ws X h => z_aload_n X (x := A 179) rfl (List.Mem.tail _ (List.Mem.tail _ (List.Mem.tail _ (List.Mem.head _)))) h) (d_callV 179 (As := []) (st := []) rfl rfl (by decide) rfl (d_blanks G Is1043 (by first | exact oq_2d2a94a1 hps1043.2.2.1 vs1042 ws1039_77 g1037 ws1035_77 hps1035 ws1008_75 b1002.2 | omega) (fun q h => hti q ((by decide : ∀ q ∈ ([77, 75, 78, 79, 81] : List Nat), q ∈ ([77, 75, 78, 79, 81] : List Nat)) q h)) (fun a h => hta a ((by decide : ∀ q ∈ ([157, 158, 161] : List Nat), q ∈ ([157, 158, 161] : List Nat)) a h))) ⟨rfl, rfl⟩ ⟨(show 7 + 1 ≤ (12 + (3 * (r) + 1)) from oq_4609964d r), (show 8 + (mNL (miB 193) + 11) + 121 ≤ (500 + 45 * (3 * (r) + 1)) from oq_12dd44ff r)⟩ (Nat.le_of_ble_eq_true rfl) (by decide) (by decide) (fun ee s1051 hq => ?_) (fun vv s1051 hq => ?_)))
                · obtain ⟨Is1051, Fs1051, hv, hps1051⟩ := hq; cases hv
                obtain ⟨Is1051, Fs1051, hv, hps1051⟩ := hq
                have hps1051p := hps1051.1
                cases hv
                have Gs1051 := fm_tq Gs1043 Fs1051 rfl rfl
                have b1053 := bi_77 Is1051
                have ws1051_75 : iI s1051 75 = iI s1043 75 := fm_iq Fs1051 rfl
                have ws1051_79 : iI s1051 79 = iI s1043 79 := fm_iq Fs1051 rfl
                have ws1051_78 : iI s1051 78 = iI s1043 78 := fm_iq Fs1051 rfl
                show DS l s0 D A dT 208 (rkR (3 * (r) + 1)) [77, 79, 80, 78] [] (T) Q (T) 94 [(1, .int (Int32.ofInt y1050)), (3, .int (Int32.ofInt e1044)), (2, .int (Int32.ofInt e1040)), (0, .ref (A 179))] [] s1051
                refine d_lift (fun k ws X h => z_goto X (t := 9) rfl (by decide) h) (d_lvs (lv := [(0, .ref (A 179)), (1, .int (Int32.ofInt y1050))]) (List.forall_mem_cons.mpr ⟨(List.Mem.tail _ (List.Mem.tail _ (List.Mem.tail _ (List.Mem.head _)))), (List.forall_mem_cons.mpr ⟨(List.Mem.head _), (fun q h => absurd h List.not_mem_nil)⟩)⟩) ?_)
                exact ih _ y1050 Is1051 Gs1051 (by first | exact ⟨oq_cc03667a ws1051_78 hps1043.1 ws1042_78 ws1039_78 ws1035_78 ws1008_78 hi.1, oq_e6d99423 hps1051.1 hps1043.2.1 vs1042 ws1039_77 ws1035_77 ws1008_77 hi.2.1, oq_f214732b hps1051.2 ws1043_75 hps1043.2.2.1 ws1042_75 vs1042 ws1039_75 ws1039_77 g1037 ws1035_75 ws1035_77 hps1035 ws1008_75 b1002.2, oq_67b737cd g1006 hi.2.2.2.1 b3.1, oq_b386ed3e ws1051_79 hps1051.2 b1046.1 ws1043_75 hps1043.2.2.2.2 ws1042_75 ws1039_75 ws1035_75 ws1008_75 hi.2.2.2.2.2.1, oq_cc03667a ws1051_75 ws1043_75 ws1042_75 ws1039_75 ws1035_75 ws1008_75 hi.2.2.2.2.2.1, hy1050.1, hy1050.2⟩ | omega) (by first | exact qk_me hm (oq_9fb54090 ws1051_75 hps1051.1 ws1043_75 hps1043.2.1 ws1042_75 vs1042 ws1039_75 ws1039_77 ws1035_75 ws1035_77 ws1008_75 ws1008_77) (oq_0e0f7a94 hps1039 g1037 ws1035_75 ws1035_77 hps1035 ws1008_75 ws1008_77) | omega) kx
              ·
                refine d_lift (fun k ws X h => z_const X rfl h) (d_lift (fun k ws X h => z_goto X (t := 89) rfl (by decide) h) (d_lift (fun k ws X h => z_store_n X (lv' := [(1, .int (Int32.ofInt 0)), (3, .int (Int32.ofInt e1044)), (2, .int (Int32.ofInt e1040)), (0, .ref (A 179))]) rfl (by decide) (fun _ h => h) h) (d_lift (fun k ws X h => z_aload_n X (x := A 179) rfl (List.Mem.tail _ (List.Mem.tail _ (List.Mem.tail _ (List.Mem.head _)))) h) (d_callV 179 (As := []) (st := []) rfl rfl (by decide) rfl (d_blanks G Is1043 (by first | exact oq_2d2a94a1 hps1043.2.2.1 vs1042 ws1039_77 g1037 ws1035_77 hps1035 ws1008_75 b1002.2 | omega) (fun q h => hti q ((by decide : ∀ q ∈ ([77, 75, 78, 79, 81] : List Nat), q ∈ ([77, 75, 78, 79, 81] : List Nat)) q h)) (fun a h => hta a ((by decide : ∀ q ∈ ([157, 158, 161] : List Nat), q ∈ ([157, 158, 161] : List Nat)) a h))) ⟨rfl, rfl⟩ ⟨(show 7 + 1 ≤ (12 + (3 * (r) + 1)) from oq_4609964d r), (show 8 + (mNL (miB 193) + 11) + 121 ≤ (500 + 45 * (3 * (r) + 1)) from oq_12dd44ff r)⟩ (Nat.le_of_ble_eq_true rfl) (by decide) (by decide) (fun ee s1054 hq => ?_) (fun vv s1054 hq => ?_)))))
                · obtain ⟨Is1054, Fs1054, hv, hps1054⟩ := hq; cases hv
                obtain ⟨Is1054, Fs1054, hv, hps1054⟩ := hq
                have hps1054p := hps1054.1
                cases hv
                have Gs1054 := fm_tq Gs1043 Fs1054 rfl rfl
                have b1056 := bi_77 Is1054
                have ws1054_75 : iI s1054 75 = iI s1043 75 := fm_iq Fs1054 rfl
                have ws1054_79 : iI s1054 79 = iI s1043 79 := fm_iq Fs1054 rfl
                have ws1054_78 : iI s1054 78 = iI s1043 78 := fm_iq Fs1054 rfl
                show DS l s0 D A dT 208 (rkR (3 * (r) + 1)) [77, 79, 80, 78] [] (T) Q (T) 94 [(1, .int (Int32.ofInt 0)), (3, .int (Int32.ofInt e1044)), (2, .int (Int32.ofInt e1040)), (0, .ref (A 179))] [] s1054
                refine d_lift (fun k ws X h => z_goto X (t := 9) rfl (by decide) h) (d_lvs (lv := [(0, .ref (A 179)), (1, .int (Int32.ofInt 0))]) (List.forall_mem_cons.mpr ⟨(List.Mem.tail _ (List.Mem.tail _ (List.Mem.tail _ (List.Mem.head _)))), (List.forall_mem_cons.mpr ⟨(List.Mem.head _), (fun q h => absurd h List.not_mem_nil)⟩)⟩) ?_)
                exact ih _ 0 Is1054 Gs1054 (by first | exact ⟨oq_cc03667a ws1054_78 hps1043.1 ws1042_78 ws1039_78 ws1035_78 ws1008_78 hi.1, oq_e6d99423 hps1054.1 hps1043.2.1 vs1042 ws1039_77 ws1035_77 ws1008_77 hi.2.1, oq_f214732b hps1054.2 ws1043_75 hps1043.2.2.1 ws1042_75 vs1042 ws1039_75 ws1039_77 g1037 ws1035_75 ws1035_77 hps1035 ws1008_75 b1002.2, oq_67b737cd g1006 hi.2.2.2.1 b3.1, oq_b386ed3e ws1054_79 hps1054.2 b1046.1 ws1043_75 hps1043.2.2.2.2 ws1042_75 ws1039_75 ws1035_75 ws1008_75 hi.2.2.2.2.2.1, oq_cc03667a ws1054_75 ws1043_75 ws1042_75 ws1039_75 ws1035_75 ws1008_75 hi.2.2.2.2.2.1, by decide, by decide⟩ | omega) (by first | exact qk_me hm (oq_9fb54090 ws1054_75 hps1054.1 ws1043_75 hps1043.2.1 ws1042_75 vs1042 ws1039_75 ws1039_77 ws1035_75 ws1035_77 ws1008_75 ws1008_77) (oq_0e0f7a94 hps1039 g1037 ws1035_75 ws1035_77 hps1035 ws1008_75 ws1008_77) | omega) kx
            ·
              refine d_lift (fun k ws X h => z_load_n X (x := v) rfl (List.Mem.tail _ (List.Mem.tail _ (List.Mem.tail _ (List.Mem.head _)))) h) (d_lift (fun k ws X h => z_load_n X (x := e1044) rfl (List.Mem.head _) h) (d_lift (fun k ws X h => z_mul X rfl h) (d_any (fun y1057 hy1057 => ?_))))
              refine d_lift (fun k ws X h => z_goto X (t := 89) rfl (by decide) h) (d_lift (fun k ws X h => z_store_n X (lv' := [(1, .int (Int32.ofInt y1057)), (3, .int (Int32.ofInt e1044)), (2, .int (Int32.ofInt e1040)), (0, .ref (A 179))]) rfl (by decide) (fun _ h => h) h) (d_lift (fun k ws X h => z_aload_n X (x := A 179) rfl (List.Mem.tail _ (List.Mem.tail _ (List.Mem.tail _ (List.Mem.head _)))) h) (d_callV 179 (As := []) (st := []) rfl rfl (by decide) rfl (d_blanks G Is1043 (by first | exact oq_7e60500e g1048 hps1043.2.2.1 vs1042 ws1039_77 hps1039 ws1035_75 ws1008_75 b1002.2 | omega) (fun q h => hti q ((by decide : ∀ q ∈ ([77, 75, 78, 79, 81] : List Nat), q ∈ ([77, 75, 78, 79, 81] : List Nat)) q h)) (fun a h => hta a ((by decide : ∀ q ∈ ([157, 158, 161] : List Nat), q ∈ ([157, 158, 161] : List Nat)) a h))) ⟨rfl, rfl⟩ ⟨(show 7 + 1 ≤ (12 + (3 * (r) + 1)) from oq_4609964d r), (show 8 + (mNL (miB 193) + 11) + 121 ≤ (500 + 45 * (3 * (r) + 1)) from oq_12dd44ff r)⟩ (Nat.le_of_ble_eq_true rfl) (by decide) (by decide) (fun ee s1058 hq => ?_) (fun vv s1058 hq => ?_))))
              · obtain ⟨Is1058, Fs1058, hv, hps1058⟩ := hq; cases hv
              obtain ⟨Is1058, Fs1058, hv, hps1058⟩ := hq
              have hps1058p := hps1058.1
              cases hv
              have Gs1058 := fm_tq Gs1043 Fs1058 rfl rfl
              have b1060 := bi_77 Is1058
              have ws1058_75 : iI s1058 75 = iI s1043 75 := fm_iq Fs1058 rfl
              have ws1058_79 : iI s1058 79 = iI s1043 79 := fm_iq Fs1058 rfl
              have ws1058_78 : iI s1058 78 = iI s1043 78 := fm_iq Fs1058 rfl
              show DS l s0 D A dT 208 (rkR (3 * (r) + 1)) [77, 79, 80, 78] [] (T) Q (T) 94 [(1, .int (Int32.ofInt y1057)), (3, .int (Int32.ofInt e1044)), (2, .int (Int32.ofInt e1040)), (0, .ref (A 179))] [] s1058
              refine d_lift (fun k ws X h => z_goto X (t := 9) rfl (by decide) h) (d_lvs (lv := [(0, .ref (A 179)), (1, .int (Int32.ofInt y1057))]) (List.forall_mem_cons.mpr ⟨(List.Mem.tail _ (List.Mem.tail _ (List.Mem.tail _ (List.Mem.head _)))), (List.forall_mem_cons.mpr ⟨(List.Mem.head _), (fun q h => absurd h List.not_mem_nil)⟩)⟩) ?_)
              exact ih _ y1057 Is1058 Gs1058 (by first | exact ⟨oq_cc03667a ws1058_78 hps1043.1 ws1042_78 ws1039_78 ws1035_78 ws1008_78 hi.1, oq_e6d99423 hps1058.1 hps1043.2.1 vs1042 ws1039_77 ws1035_77 ws1008_77 hi.2.1, oq_9ffce73e hps1058.2 g1048 ws1043_75 hps1043.2.2.1 ws1042_75 vs1042 ws1039_75 ws1039_77 hps1039 ws1035_75 ws1008_75 b1002.2, oq_67b737cd g1006 hi.2.2.2.1 b3.1, oq_b386ed3e ws1058_79 hps1058.2 b1046.1 ws1043_75 hps1043.2.2.2.2 ws1042_75 ws1039_75 ws1035_75 ws1008_75 hi.2.2.2.2.2.1, oq_cc03667a ws1058_75 ws1043_75 ws1042_75 ws1039_75 ws1035_75 ws1008_75 hi.2.2.2.2.2.1, hy1057.1, hy1057.2⟩ | omega) (by first | exact qk_me hm (oq_9fb54090 ws1058_75 hps1058.1 ws1043_75 hps1043.2.1 ws1042_75 vs1042 ws1039_75 ws1039_77 ws1035_75 ws1035_77 ws1008_75 ws1008_77) (oq_73c50fe3 g1048 hps1039 ws1035_75 ws1035_77 ws1008_75 ws1008_77) | omega) kx
  refine d_lift (fun k ws X h => z_aload_n X (x := A 179) rfl (List.Mem.head _) h) (d_callV 179 (As := []) (st := []) rfl rfl (by decide) rfl (hU I (by first | exact p0 | omega) (by first | exact p1 | omega) (by first | exact p2 | omega) (fun q h => hti q ((by decide : ∀ q ∈ ([77, 75, 78, 79, 81] : List Nat), q ∈ ([77, 75, 78, 79, 81] : List Nat)) q h)) (fun a h => hta a ((by decide : ∀ q ∈ ([157, 158, 161] : List Nat), q ∈ ([157, 158, 161] : List Nat)) a h))) ⟨rfl, rfl⟩ ⟨(show (12 + (3 * (r))) + 1 ≤ (12 + (3 * (r) + 1)) from oq_5e3fa304 r), (show 8 + (mNL (miB 207) + 11) + (500 + 45 * (3 * (r))) ≤ (500 + 45 * (3 * (r) + 1)) from oq_ea5e6b1c r)⟩ (Nat.le_of_ble_eq_true rfl) (by decide) (by decide) (fun ee s5 hq => ?_) (fun vv s5 hq => ?_))
  · obtain ⟨Is5, Fs5, e6, hv, hrs5, hps5⟩ := hq; cases hv
  obtain ⟨Is5, Fs5, e6, hv, hrs5, hps5⟩ := hq
  have hps5p := And.intro hps5.1 (hps5.2.1)
  cases hv
  have Gs5 := fm_tq F Fs5 rfl rfl
  have b7 := bi_77 Is5
  have ws5_75 : iI s5 75 = iI s 75 := fm_iq Fs5 rfl
  have b8 := bi_79 Is5
  have b9 := bi_78 Is5
  show DS l s0 D A dT 208 (rkR (3 * (r) + 1)) [77, 79, 80, 78] [] (T) Q (T) 4 [(0, .ref (A 179))] [.int (Int32.ofInt e6)] s5
  refine d_lift (fun k ws X h => z_store_n X (lv' := [(1, .int (Int32.ofInt e6)), (0, .ref (A 179))]) rfl (by decide) (fun _ h => h) h) (d_lift (fun k ws X h => z_aload_n X (x := A 179) rfl (List.Mem.tail _ (List.Mem.head _)) h) (d_callV 179 (As := []) (st := []) rfl rfl (by decide) rfl (d_blanks G Is5 (by first | exact oq_299765ef hps5.2.2.1 p0 | omega) (fun q h => hti q ((by decide : ∀ q ∈ ([77, 75, 78, 79, 81] : List Nat), q ∈ ([77, 75, 78, 79, 81] : List Nat)) q h)) (fun a h => hta a ((by decide : ∀ q ∈ ([157, 158, 161] : List Nat), q ∈ ([157, 158, 161] : List Nat)) a h))) ⟨rfl, rfl⟩ ⟨(show 7 + 1 ≤ (12 + (3 * (r) + 1)) from oq_4609964d r), (show 8 + (mNL (miB 193) + 11) + 121 ≤ (500 + 45 * (3 * (r) + 1)) from oq_12dd44ff r)⟩ (Nat.le_of_ble_eq_true rfl) (by decide) (by decide) (fun ee s10 hq => ?_) (fun vv s10 hq => ?_)))
  · obtain ⟨Is10, Fs10, hv, hps10⟩ := hq; cases hv
  obtain ⟨Is10, Fs10, hv, hps10⟩ := hq
  have hps10p := hps10.1
  cases hv
  have Gs10 := fm_tq Gs5 Fs10 rfl rfl
  have b12 := bi_77 Is10
  have ws10_75 : iI s10 75 = iI s5 75 := fm_iq Fs10 rfl
  have ws10_79 : iI s10 79 = iI s5 79 := fm_iq Fs10 rfl
  have ws10_78 : iI s10 78 = iI s5 78 := fm_iq Fs10 rfl
  show DS l s0 D A dT 208 (rkR (3 * (r) + 1)) [77, 79, 80, 78] [] (T) Q (T) 9 [(1, .int (Int32.ofInt e6)), (0, .ref (A 179))] [] s10
  refine d_lvs (lv := [(0, .ref (A 179)), (1, .int (Int32.ofInt e6))]) (List.forall_mem_cons.mpr ⟨(List.Mem.tail _ (List.Mem.head _)), (List.forall_mem_cons.mpr ⟨(List.Mem.head _), (fun q h => absurd h List.not_mem_nil)⟩)⟩) (L9 ((iI s10 75 - iI s10 77 : Int).toNat + 1) s10 e6 Is10 Gs10 (by first | exact ⟨oq_1aa5be9e ws10_78 hps5.1, oq_f8a2cf0e hps10.1 hps5.2.1, oq_848e1c5b hps10.2 ws5_75 hps5.2.2.1 b2.2 p0, oq_88e312fc ws10_79 b8.1 hps5.2.2.2.1 b3.1, oq_ce34312c ws10_79 hps10.2 b8.1 ws5_75 hps5.2.2.2.2, oq_1aa5be9e ws10_75 ws5_75, hrs5.1, hrs5.2⟩ | omega) (Nat.lt_succ_self _) ?_)
  intro s13 x14 Is13 Fs13 hs13
  have b15 := bi_77 Is13
  have b16 := bi_75 Is13
  have b17 := bi_79 Is13
  have b18 := bi_78 Is13
  refine d_lift (fun k ws X h => z_load_n X (x := x14) rfl (List.Mem.tail _ (List.Mem.head _)) h) ?_
  exact d_iret rfl rfl (Or.inl rfl) rfl (fun _ h => h) (hQ _ _ ⟨Is13, Fs13, x14, rfl, ⟨by first | exact hs13.2.2.2.2.2.2.1 | omega, by first | exact hs13.2.2.2.2.2.2.2 | omega⟩, by first | exact ⟨hs13.1, hs13.2.1, hs13.2.2.1, hs13.2.2.2.1, hs13.2.2.2.2.1⟩ | omega⟩)
set_option maxHeartbeats 16000000 in
theorem d_sumS (G : GX l s0 D tys a0 dT) {r : Nat} (hP : ∀ {s : PS} {T : TT}, Bd s → (iI s 77 ≤ 203) → (iI s 78 + ((r : Nat) : Int) = 7) → (iI s 78 = 7 → iI s 79 ≠ 0) → (∀ q ∈ ([77, 75, 78, 79, 81] : List Nat), T.1 q) → (∀ a ∈ ([157, 158, 161] : List Nat), ∀ j, j < (bA a).2.2 → T.2 a j) → CD l s0 D A dT 208 (rkR (3 * (r) + 1)) [77, 79, 80, 78] [] T T [.ref (A 179)] s (fun o t => Bd t ∧ Fm [77, 79, 80, 78] [] s t ∧ ∃ e, o = .inl (some (.int (Int32.ofInt e))) ∧ rng e ∧ (iI t 78 = iI s 78 ∧ iI s 77 ≤ iI t 77 ∧ (iI t 77 = iI s 77 ∨ iI t 77 ≤ 202) ∧ (iI s 79 ≠ 0 → iI t 79 ≠ 0) ∧ (iI t 79 = 0 → iI t 77 ≤ iI s 75)))) (I : Bd s) (p0 : iI s 77 ≤ 203) (p1 : iI s 78 + ((r : Nat) : Int) = 7) (p2 : iI s 78 = 7 → iI s 79 ≠ 0) {T : TT} (hti : ∀ q ∈ ([77, 75, 78, 79, 81] : List Nat), T.1 q) (hta : ∀ a ∈ ([157, 158, 161] : List Nat), ∀ j, j < (bA a).2.2 → T.2 a j) : CD l s0 D A dT 209 (rkR (3 * (r) + 2)) [77, 79, 80, 78] [] T (T) [.ref (A 179)] s (fun o t => Bd t ∧ Fm [77, 79, 80, 78] [] s t ∧ ∃ e, o = .inl (some (.int (Int32.ofInt e))) ∧ rng e ∧ (iI t 78 = iI s 78 ∧ iI s 77 ≤ iI t 77 ∧ (iI t 77 = iI s 77 ∨ iI t 77 ≤ 202) ∧ (iI s 79 ≠ 0 → iI t 79 ≠ 0) ∧ (iI t 79 = 0 → iI t 77 ≤ iI s 75))) := by
  refine cd_of G (by decide) (Nat.le_of_ble_eq_true rfl) (fun Q hQ => ?_)
  have I0 := I
  show DS l s0 D A dT 209 (rkR (3 * (r) + 2)) [77, 79, 80, 78] [] (T) Q (T) 0 [(0, .ref (A 179))] [] s
  have F : Fm [77, 79, 80, 78] [] s s := fm_rf _ _ s
  have b1 := bi_77 I
  have b2 := bi_75 I
  have b3 := bi_79 I
  have b4 := bi_78 I
  have L9 : ∀ (n : Nat) (t : PS) (v : Int), Bd t → Fm [77, 79, 80, 78] [] s t → (iI t 78 = iI s 78 ∧ iI s 77 ≤ iI t 77 ∧ (iI t 77 = iI s 77 ∨ iI t 77 ≤ 202) ∧ (iI s 79 ≠ 0 → iI t 79 ≠ 0) ∧ (iI t 79 = 0 → iI t 77 ≤ iI s 75) ∧ iI t 75 = iI s 75 ∧ rng v) → (iI t 75 - iI t 77 : Int).toNat < n → (∀ (t' : PS) (v' : Int), Bd t' → Fm [77, 79, 80, 78] [] s t' → (iI t' 78 = iI s 78 ∧ iI s 77 ≤ iI t' 77 ∧ (iI t' 77 = iI s 77 ∨ iI t' 77 ≤ 202) ∧ (iI s 79 ≠ 0 → iI t' 79 ≠ 0) ∧ (iI t' 79 = 0 → iI t' 77 ≤ iI s 75) ∧ iI t' 75 = iI s 75 ∧ rng v') → DS l s0 D A dT 209 (rkR (3 * (r) + 2)) [77, 79, 80, 78] [] (T) Q (T) 89 [(0, .ref (A 179)), (1, .int (Int32.ofInt v'))] [] t') → DS l s0 D A dT 209 (rkR (3 * (r) + 2)) [77, 79, 80, 78] [] (T) Q (T) 9 [(0, .ref (A 179)), (1, .int (Int32.ofInt v))] [] t := by
    intro n
    induction n with
    | zero =>
      intro t v I F hi hm kx
      exact absurd hm (Nat.not_lt_zero _)
    | succ n ih =>
      intro t v I F hi hm kx
      have b1001 := bi_77 I
      have b1002 := bi_75 I
      have b1003 := bi_79 I
      have b1004 := bi_78 I
      refine d_lift (fun k ws X h => z_aload_n X (x := A 179) rfl (List.Mem.head _) h) (d_getI 179 rfl (by decide) rfl rfl (hti 79 (by decide)) ?_)
      have b1005 := bi_79 I
      refine d_br (bo_ne _ _) bx_ne (fun k ws X h1 h2 => z_if_ne X (t := 89) rfl (by decide) (rng_to _) h1 h2) (fun g1006 => ?_) (fun g1006 => ?_)
      ·
        refine d_lvs (lv := [(0, .ref (A 179)), (1, .int (Int32.ofInt v))]) (List.forall_mem_cons.mpr ⟨(List.Mem.head _), (List.forall_mem_cons.mpr ⟨(List.Mem.tail _ (List.Mem.head _)), (fun q h => absurd h List.not_mem_nil)⟩)⟩) ?_
        exact kx _ v I F (by first | exact ⟨hi.1, hi.2.1, hi.2.2.1, hi.2.2.2.1, hi.2.2.2.2.1, hi.2.2.2.2.2.1, hi.2.2.2.2.2.2.1, hi.2.2.2.2.2.2.2⟩ | omega)
      ·
        refine d_lift (fun k ws X h => z_aload_n X (x := A 179) rfl (List.Mem.head _) h) (d_lift (fun k ws X h => z_aload_n X (x := A 179) rfl (List.Mem.head _) h) (d_getI 179 rfl (by decide) rfl rfl (hti 77 (by decide)) ?_))
        have b1007 := bi_77 I
        refine d_callV 179 (As := [.int (Int32.ofInt (iI t 77))]) (st := []) rfl rfl (by decide) rfl (d_byteAt G I (by first | exact ⟨b1007.1, oq_5a8480eb b1007.2⟩ | omega) (fun q h => hti q ((by decide : ∀ q ∈ ([75, 81] : List Nat), q ∈ ([77, 75, 78, 79, 81] : List Nat)) q h)) (fun a h => hta a ((by decide : ∀ q ∈ ([157, 158] : List Nat), q ∈ ([157, 158, 161] : List Nat)) a h))) ⟨rfl, rfl⟩ ⟨(show 6 + 1 ≤ (12 + (3 * (r) + 2)) from oq_44aaa93c r), (show 8 + (mNL (miB 192) + 11) + 100 ≤ (500 + 45 * (3 * (r) + 2)) from oq_3a43be2e r)⟩ (Nat.le_of_ble_eq_true rfl) (by decide) (by decide) (fun ee s1008 hq => ?_) (fun vv s1008 hq => ?_)
        · obtain ⟨Is1008, Fs1008, e1009, hv, hrs1008, hps1008⟩ := hq; cases hv
        obtain ⟨Is1008, Fs1008, e1009, hv, hrs1008, hps1008⟩ := hq
        cases hv
        have Gs1008 := fm_tq F Fs1008 rfl rfl
        have ws1008_77 : iI s1008 77 = iI t 77 := fm_iq Fs1008 rfl
        have ws1008_75 : iI s1008 75 = iI t 75 := fm_iq Fs1008 rfl
        have ws1008_79 : iI s1008 79 = iI t 79 := fm_iq Fs1008 rfl
        have ws1008_78 : iI s1008 78 = iI t 78 := fm_iq Fs1008 rfl
        show DS l s0 D A dT 209 (rkR (3 * (r) + 2)) [77, 79, 80, 78] [] (T) Q (T) 24 [(0, .ref (A 179)), (1, .int (Int32.ofInt v))] [.int (Int32.ofInt e1009)] s1008
        refine d_lift (fun k ws X h => z_bipush X rfl h) (d_br (bo_eq _ _) bx_eq (fun k ws X h1 h2 => z_icmp_eq X (t := 42) rfl (by decide) hrs1008 (by decide) h1 h2) (fun g1010 => ?_) (fun g1010 => ?_))
        ·
          refine d_lift (fun k ws X h => z_aload_n X (x := A 179) rfl (List.Mem.head _) h) (d_lift (fun k ws X h => z_aload_n X (x := A 179) rfl (List.Mem.head _) h) (d_getI 179 rfl (by decide) rfl rfl (hti 77 (by decide)) ?_))
          have b1011 := bi_77 Is1008
          refine d_callV 179 (As := [.int (Int32.ofInt (iI s1008 77))]) (st := []) rfl rfl (by decide) rfl (d_byteAt G Is1008 (by first | exact ⟨b1011.1, oq_5a8480eb b1011.2⟩ | omega) (fun q h => hti q ((by decide : ∀ q ∈ ([75, 81] : List Nat), q ∈ ([77, 75, 78, 79, 81] : List Nat)) q h)) (fun a h => hta a ((by decide : ∀ q ∈ ([157, 158] : List Nat), q ∈ ([157, 158, 161] : List Nat)) a h))) ⟨rfl, rfl⟩ ⟨(show 6 + 1 ≤ (12 + (3 * (r) + 2)) from oq_44aaa93c r), (show 8 + (mNL (miB 192) + 11) + 100 ≤ (500 + 45 * (3 * (r) + 2)) from oq_3a43be2e r)⟩ (Nat.le_of_ble_eq_true rfl) (by decide) (by decide) (fun ee s1012 hq => ?_) (fun vv s1012 hq => ?_)
          · obtain ⟨Is1012, Fs1012, e1013, hv, hrs1012, hps1012⟩ := hq; cases hv
          obtain ⟨Is1012, Fs1012, e1013, hv, hrs1012, hps1012⟩ := hq
          cases hv
          have Gs1012 := fm_tq Gs1008 Fs1012 rfl rfl
          have ws1012_77 : iI s1012 77 = iI s1008 77 := fm_iq Fs1012 rfl
          have ws1012_75 : iI s1012 75 = iI s1008 75 := fm_iq Fs1012 rfl
          have ws1012_79 : iI s1012 79 = iI s1008 79 := fm_iq Fs1012 rfl
          have ws1012_78 : iI s1012 78 = iI s1008 78 := fm_iq Fs1012 rfl
          show DS l s0 D A dT 209 (rkR (3 * (r) + 2)) [77, 79, 80, 78] [] (T) Q (T) 50 [(0, .ref (A 179)), (1, .int (Int32.ofInt v))] [.int (Int32.ofInt e1013)] s1012
          refine d_lift (fun k ws X h => z_store_n X (lv' := [(2, .int (Int32.ofInt e1013)), (0, .ref (A 179)), (1, .int (Int32.ofInt v))]) rfl (by decide) (fun _ h => h) h) (d_lift (fun k ws X h => z_aload_n X (x := A 179) rfl (List.Mem.tail _ (List.Mem.head _)) h) (d_lift (fun k ws X h => w_dup X.1 (ax_d X (show cdA 209 52 = some (.dup, 1, 0, 0, 0) from rfl)) rfl h) (d_getI 179 rfl (by decide) rfl rfl (hti 77 (by decide)) ?_)))
          have b1014 := bi_77 Is1012
          refine d_lift (fun k ws X h => z_const X rfl h) (d_lift (fun k ws X h => z_add X rfl h) (d_putI 179 rfl (by decide) rfl rfl (by decide) rfl rfl rfl (show 77 ∈ _ by decide) (show (0 : Int) ≤ ((iI s1012 77) + 1) ∧ ((iI s1012 77) + 1) ≤ 400 by first | exact ⟨oq_54f49eb5 b1014.1, oq_30133c95 ws1012_77 g1010 ws1008_77 hps1008 b1002.2⟩ | omega) ⟨by first | exact oq_74de1e16 b1014.1 | omega, by first | exact oq_964ce197 b1014.2 | omega⟩ (d_mono (T' := T) (fun _ h => Or.inr h) (fun _ _ h => h) (ds_gen (fun s1015 hs1015 => ?_)))))
          have Is1015 : Bd s1015 := eqB hs1015 (bd_I Is1012 (show (0 : Int) ≤ ((iI s1012 77) + 1) ∧ ((iI s1012 77) + 1) ≤ 400 by first | exact ⟨oq_54f49eb5 b1014.1, oq_30133c95 ws1012_77 g1010 ws1008_77 hps1008 b1002.2⟩ | omega) ⟨by first | exact oq_74de1e16 b1014.1 | omega, by first | exact oq_964ce197 b1014.2 | omega⟩)
          have Fs1015 := eqF hs1015 (fm_I Gs1012 (inl_ok (a := 77) rfl))
          have vs1015 : iI s1015 77 = ((iI s1012 77) + 1) := eqI hs1015 (iI_u ⟨by first | exact oq_74de1e16 b1014.1 | omega, by first | exact oq_964ce197 b1014.2 | omega⟩)
          have ws1015_75 : iI s1015 75 = iI s1012 75 := eqI hs1015 rfl
          have ws1015_79 : iI s1015 79 = iI s1012 79 := eqI hs1015 rfl
          have ws1015_78 : iI s1015 78 = iI s1012 78 := eqI hs1015 rfl
          refine d_lift (fun k ws X h => z_aload_n X (x := A 179) rfl (List.Mem.tail _ (List.Mem.head _)) h) (d_callV 179 (As := []) (st := []) rfl rfl (by decide) rfl (hP Is1015 (by first | exact oq_cc299af3 vs1015 ws1012_77 g1010 ws1008_77 hps1008 b1002.2 | omega) (by first | exact oq_c128dca8 ws1015_78 p1 ws1012_78 ws1008_78 hi.1 | omega) (by first | exact oq_022cbb1f ws1015_78 ws1012_78 ws1008_78 g1006 hi.2.2.2.1 hi.1 b3.1 p2 | omega) (fun q h => hti q ((by decide : ∀ q ∈ ([77, 75, 78, 79, 81] : List Nat), q ∈ ([77, 75, 78, 79, 81] : List Nat)) q h)) (fun a h => hta a ((by decide : ∀ q ∈ ([157, 158, 161] : List Nat), q ∈ ([157, 158, 161] : List Nat)) a h))) ⟨rfl, rfl⟩ ⟨(show (12 + (3 * (r) + 1)) + 1 ≤ (12 + (3 * (r) + 2)) from oq_2a2b55d9 r), (show 8 + (mNL (miB 208) + 11) + (500 + 45 * (3 * (r) + 1)) ≤ (500 + 45 * (3 * (r) + 2)) from oq_6b10c96c r)⟩ (Nat.le_of_ble_eq_true rfl) (by decide) (by decide) (fun ee s1016 hq => ?_) (fun vv s1016 hq => ?_))
          · obtain ⟨Is1016, Fs1016, e1017, hv, hrs1016, hps1016⟩ := hq; cases hv
          obtain ⟨Is1016, Fs1016, e1017, hv, hrs1016, hps1016⟩ := hq
          have hps1016p := And.intro hps1016.1 (hps1016.2.1)
          cases hv
          have Gs1016 := fm_tq Fs1015 Fs1016 rfl rfl
          have b1018 := bi_77 Is1016
          have ws1016_75 : iI s1016 75 = iI s1015 75 := fm_iq Fs1016 rfl
          have b1019 := bi_79 Is1016
          have b1020 := bi_78 Is1016
          show DS l s0 D A dT 209 (rkR (3 * (r) + 2)) [77, 79, 80, 78] [] (T) Q (T) 65 [(2, .int (Int32.ofInt e1013)), (0, .ref (A 179)), (1, .int (Int32.ofInt v))] [.int (Int32.ofInt e1017)] s1016
          refine d_lift (fun k ws X h => z_store_n X (lv' := [(3, .int (Int32.ofInt e1017)), (2, .int (Int32.ofInt e1013)), (0, .ref (A 179)), (1, .int (Int32.ofInt v))]) rfl (by decide) (fun _ h => h) h) (d_lift (fun k ws X h => z_load_n X (x := e1013) rfl (List.Mem.tail _ (List.Mem.head _)) h) (d_lift (fun k ws X h => z_bipush X rfl h) (d_br (bo_ne _ _) bx_ne (fun k ws X h1 h2 => z_icmp_ne X (t := 78) rfl (by decide) hrs1012 (by decide) h1 h2) (fun g1021 => ?_) (fun g1021 => ?_))))
          ·
            refine d_lift (fun k ws X h => z_load_n X (x := v) rfl (List.Mem.tail _ (List.Mem.tail _ (List.Mem.tail _ (List.Mem.head _)))) h) (d_lift (fun k ws X h => z_load_n X (x := e1017) rfl (List.Mem.head _) h) (d_lift (fun k ws X h => z_sub X rfl h) (d_any (fun y1022 hy1022 => ?_))))
            refine d_lift (fun k ws X h => z_store_n X (lv' := [(1, .int (Int32.ofInt y1022)), (3, .int (Int32.ofInt e1017)), (2, .int (Int32.ofInt e1013)), (0, .ref (A 179))]) rfl (by decide) (fun _ h => h) h) (d_lift (fun k ws X h => z_aload_n X (x := A 179) rfl (List.Mem.tail _ (List.Mem.tail _ (List.Mem.tail _ (List.Mem.head _)))) h) (d_callV 179 (As := []) (st := []) rfl rfl (by decide) rfl (d_blanks G Is1016 (by first | exact oq_8757d0fb hps1016.2.2.1 vs1015 ws1012_77 g1010 ws1008_77 hps1008 b1002.2 | omega) (fun q h => hti q ((by decide : ∀ q ∈ ([77, 75, 78, 79, 81] : List Nat), q ∈ ([77, 75, 78, 79, 81] : List Nat)) q h)) (fun a h => hta a ((by decide : ∀ q ∈ ([157, 158, 161] : List Nat), q ∈ ([157, 158, 161] : List Nat)) a h))) ⟨rfl, rfl⟩ ⟨(show 7 + 1 ≤ (12 + (3 * (r) + 2)) from oq_eb6f61dd r), (show 8 + (mNL (miB 193) + 11) + 121 ≤ (500 + 45 * (3 * (r) + 2)) from oq_fbd0a6ff r)⟩ (Nat.le_of_ble_eq_true rfl) (by decide) (by decide) (fun ee s1023 hq => ?_) (fun vv s1023 hq => ?_)))
            · obtain ⟨Is1023, Fs1023, hv, hps1023⟩ := hq; cases hv
            obtain ⟨Is1023, Fs1023, hv, hps1023⟩ := hq
            have hps1023p := hps1023.1
            cases hv
            have Gs1023 := fm_tq Gs1016 Fs1023 rfl rfl
            have b1025 := bi_77 Is1023
            have ws1023_75 : iI s1023 75 = iI s1016 75 := fm_iq Fs1023 rfl
            have ws1023_79 : iI s1023 79 = iI s1016 79 := fm_iq Fs1023 rfl
            have ws1023_78 : iI s1023 78 = iI s1016 78 := fm_iq Fs1023 rfl
            show DS l s0 D A dT 209 (rkR (3 * (r) + 2)) [77, 79, 80, 78] [] (T) Q (T) 86 [(1, .int (Int32.ofInt y1022)), (3, .int (Int32.ofInt e1017)), (2, .int (Int32.ofInt e1013)), (0, .ref (A 179))] [] s1023
            refine d_lift (fun k ws X h => z_goto X (t := 9) rfl (by decide) h) (d_lvs (lv := [(0, .ref (A 179)), (1, .int (Int32.ofInt y1022))]) (List.forall_mem_cons.mpr ⟨(List.Mem.tail _ (List.Mem.tail _ (List.Mem.tail _ (List.Mem.head _)))), (List.forall_mem_cons.mpr ⟨(List.Mem.head _), (fun q h => absurd h List.not_mem_nil)⟩)⟩) ?_)
            exact ih _ y1022 Is1023 Gs1023 (by first | exact ⟨oq_4df13a51 ws1023_78 hps1016.1 ws1015_78 ws1012_78 ws1008_78 hi.1, oq_eb1873c8 hps1023.1 hps1016.2.1 vs1015 ws1012_77 ws1008_77 hi.2.1, oq_d271c21e hps1023.2 ws1016_75 hps1016.2.2.1 ws1015_75 vs1015 ws1012_75 ws1012_77 g1010 ws1008_75 ws1008_77 hps1008 b1002.2, oq_67b737cd g1006 hi.2.2.2.1 b3.1, oq_2492eb85 ws1023_79 hps1023.2 b1019.1 ws1016_75 hps1016.2.2.2.2 ws1015_75 ws1012_75 ws1008_75 hi.2.2.2.2.2.1, oq_4df13a51 ws1023_75 ws1016_75 ws1015_75 ws1012_75 ws1008_75 hi.2.2.2.2.2.1, hy1022.1, hy1022.2⟩ | omega) (by first | exact qk_me hm (oq_dbad9805 ws1023_75 hps1023.1 ws1016_75 hps1016.2.1 ws1015_75 vs1015 ws1012_75 ws1012_77 ws1008_75 ws1008_77) (oq_a3121327 g1010 hps1008) | omega) kx
          ·
            refine d_lift (fun k ws X h => z_load_n X (x := v) rfl (List.Mem.tail _ (List.Mem.tail _ (List.Mem.tail _ (List.Mem.head _)))) h) (d_lift (fun k ws X h => z_load_n X (x := e1017) rfl (List.Mem.head _) h) (d_lift (fun k ws X h => z_add X rfl h) (d_any (fun y1026 hy1026 => ?_))))
            refine d_lift (fun k ws X h => z_goto X (t := 81) rfl (by decide) h) (d_lift (fun k ws X h => z_store_n X (lv' := [(1, .int (Int32.ofInt y1026)), (3, .int (Int32.ofInt e1017)), (2, .int (Int32.ofInt e1013)), (0, .ref (A 179))]) rfl (by decide) (fun _ h => h) h) (d_lift (fun k ws X h => z_aload_n X (x := A 179) rfl (List.Mem.tail _ (List.Mem.tail _ (List.Mem.tail _ (List.Mem.head _)))) h) (d_callV 179 (As := []) (st := []) rfl rfl (by decide) rfl (d_blanks G Is1016 (by first | exact oq_8aa481ab g1021 hps1016.2.2.1 vs1015 ws1012_77 hps1012 ws1008_75 b1002.2 | omega) (fun q h => hti q ((by decide : ∀ q ∈ ([77, 75, 78, 79, 81] : List Nat), q ∈ ([77, 75, 78, 79, 81] : List Nat)) q h)) (fun a h => hta a ((by decide : ∀ q ∈ ([157, 158, 161] : List Nat), q ∈ ([157, 158, 161] : List Nat)) a h))) ⟨rfl, rfl⟩ ⟨(show 7 + 1 ≤ (12 + (3 * (r) + 2)) from oq_eb6f61dd r), (show 8 + (mNL (miB 193) + 11) + 121 ≤ (500 + 45 * (3 * (r) + 2)) from oq_fbd0a6ff r)⟩ (Nat.le_of_ble_eq_true rfl) (by decide) (by decide) (fun ee s1027 hq => ?_) (fun vv s1027 hq => ?_))))
            · obtain ⟨Is1027, Fs1027, hv, hps1027⟩ := hq; cases hv
            obtain ⟨Is1027, Fs1027, hv, hps1027⟩ := hq
            have hps1027p := hps1027.1
            cases hv
            have Gs1027 := fm_tq Gs1016 Fs1027 rfl rfl
            have b1029 := bi_77 Is1027
            have ws1027_75 : iI s1027 75 = iI s1016 75 := fm_iq Fs1027 rfl
            have ws1027_79 : iI s1027 79 = iI s1016 79 := fm_iq Fs1027 rfl
            have ws1027_78 : iI s1027 78 = iI s1016 78 := fm_iq Fs1027 rfl
            show DS l s0 D A dT 209 (rkR (3 * (r) + 2)) [77, 79, 80, 78] [] (T) Q (T) 86 [(1, .int (Int32.ofInt y1026)), (3, .int (Int32.ofInt e1017)), (2, .int (Int32.ofInt e1013)), (0, .ref (A 179))] [] s1027
            refine d_lift (fun k ws X h => z_goto X (t := 9) rfl (by decide) h) (d_lvs (lv := [(0, .ref (A 179)), (1, .int (Int32.ofInt y1026))]) (List.forall_mem_cons.mpr ⟨(List.Mem.tail _ (List.Mem.tail _ (List.Mem.tail _ (List.Mem.head _)))), (List.forall_mem_cons.mpr ⟨(List.Mem.head _), (fun q h => absurd h List.not_mem_nil)⟩)⟩) ?_)
            exact ih _ y1026 Is1027 Gs1027 (by first | exact ⟨oq_4df13a51 ws1027_78 hps1016.1 ws1015_78 ws1012_78 ws1008_78 hi.1, oq_eb1873c8 hps1027.1 hps1016.2.1 vs1015 ws1012_77 ws1008_77 hi.2.1, oq_e2504a64 hps1027.2 g1021 ws1016_75 hps1016.2.2.1 ws1015_75 vs1015 ws1012_75 ws1012_77 hps1012 ws1008_75 b1002.2, oq_67b737cd g1006 hi.2.2.2.1 b3.1, oq_2492eb85 ws1027_79 hps1027.2 b1019.1 ws1016_75 hps1016.2.2.2.2 ws1015_75 ws1012_75 ws1008_75 hi.2.2.2.2.2.1, oq_4df13a51 ws1027_75 ws1016_75 ws1015_75 ws1012_75 ws1008_75 hi.2.2.2.2.2.1, hy1026.1, hy1026.2⟩ | omega) (by first | exact qk_me hm (oq_dbad9805 ws1027_75 hps1027.1 ws1016_75 hps1016.2.1 ws1015_75 vs1015 ws1012_75 ws1012_77 ws1008_75 ws1008_77) (oq_18c9c2b0 g1021 hps1012 ws1008_75 ws1008_77) | omega) kx
        ·
          refine d_lift (fun k ws X h => z_aload_n X (x := A 179) rfl (List.Mem.head _) h) (d_lift (fun k ws X h => z_aload_n X (x := A 179) rfl (List.Mem.head _) h) (d_getI 179 rfl (by decide) rfl rfl (hti 77 (by decide)) ?_))
          have b1030 := bi_77 Is1008
          refine d_callV 179 (As := [.int (Int32.ofInt (iI s1008 77))]) (st := []) rfl rfl (by decide) rfl (d_byteAt G Is1008 (by first | exact ⟨b1030.1, oq_5a8480eb b1030.2⟩ | omega) (fun q h => hti q ((by decide : ∀ q ∈ ([75, 81] : List Nat), q ∈ ([77, 75, 78, 79, 81] : List Nat)) q h)) (fun a h => hta a ((by decide : ∀ q ∈ ([157, 158] : List Nat), q ∈ ([157, 158, 161] : List Nat)) a h))) ⟨rfl, rfl⟩ ⟨(show 6 + 1 ≤ (12 + (3 * (r) + 2)) from oq_44aaa93c r), (show 8 + (mNL (miB 192) + 11) + 100 ≤ (500 + 45 * (3 * (r) + 2)) from oq_3a43be2e r)⟩ (Nat.le_of_ble_eq_true rfl) (by decide) (by decide) (fun ee s1031 hq => ?_) (fun vv s1031 hq => ?_)
          · obtain ⟨Is1031, Fs1031, e1032, hv, hrs1031, hps1031⟩ := hq; cases hv
          obtain ⟨Is1031, Fs1031, e1032, hv, hrs1031, hps1031⟩ := hq
          cases hv
          have Gs1031 := fm_tq Gs1008 Fs1031 rfl rfl
          have ws1031_77 : iI s1031 77 = iI s1008 77 := fm_iq Fs1031 rfl
          have ws1031_75 : iI s1031 75 = iI s1008 75 := fm_iq Fs1031 rfl
          have ws1031_79 : iI s1031 79 = iI s1008 79 := fm_iq Fs1031 rfl
          have ws1031_78 : iI s1031 78 = iI s1008 78 := fm_iq Fs1031 rfl
          show DS l s0 D A dT 209 (rkR (3 * (r) + 2)) [77, 79, 80, 78] [] (T) Q (T) 37 [(0, .ref (A 179)), (1, .int (Int32.ofInt v))] [.int (Int32.ofInt e1032)] s1031
          refine d_lift (fun k ws X h => z_bipush X rfl h) (d_br (bo_ne _ _) bx_ne (fun k ws X h1 h2 => z_icmp_ne X (t := 89) rfl (by decide) hrs1031 (by decide) h1 h2) (fun g1033 => ?_) (fun g1033 => ?_))
          ·
            refine d_lvs (lv := [(0, .ref (A 179)), (1, .int (Int32.ofInt v))]) (List.forall_mem_cons.mpr ⟨(List.Mem.head _), (List.forall_mem_cons.mpr ⟨(List.Mem.tail _ (List.Mem.head _)), (fun q h => absurd h List.not_mem_nil)⟩)⟩) ?_
            exact kx _ v Is1031 Gs1031 (by first | exact ⟨oq_878618b1 ws1031_78 ws1008_78 hi.1, oq_143762c7 ws1031_77 hi.2.1 ws1008_77, oq_89653d58 ws1031_77 ws1008_77 hi.2.2.1 p0, oq_67b737cd g1006 hi.2.2.2.1 b3.1, oq_8d1ca4d6 ws1031_77 ws1008_77 g1006 hi.2.2.2.2.1, oq_d0d2714e ws1031_75 hi.2.2.2.2.2.1 ws1008_75, hi.2.2.2.2.2.2.1, hi.2.2.2.2.2.2.2⟩ | omega)
          ·
            refine d_lift (fun k ws X h => z_aload_n X (x := A 179) rfl (List.Mem.head _) h) (d_lift (fun k ws X h => z_aload_n X (x := A 179) rfl (List.Mem.head _) h) (d_getI 179 rfl (by decide) rfl rfl (hti 77 (by decide)) ?_))
            have b1034 := bi_77 Is1031
            refine d_callV 179 (As := [.int (Int32.ofInt (iI s1031 77))]) (st := []) rfl rfl (by decide) rfl (d_byteAt G Is1031 (by first | exact ⟨b1034.1, oq_5a8480eb b1034.2⟩ | omega) (fun q h => hti q ((by decide : ∀ q ∈ ([75, 81] : List Nat), q ∈ ([77, 75, 78, 79, 81] : List Nat)) q h)) (fun a h => hta a ((by decide : ∀ q ∈ ([157, 158] : List Nat), q ∈ ([157, 158, 161] : List Nat)) a h))) ⟨rfl, rfl⟩ ⟨(show 6 + 1 ≤ (12 + (3 * (r) + 2)) from oq_44aaa93c r), (show 8 + (mNL (miB 192) + 11) + 100 ≤ (500 + 45 * (3 * (r) + 2)) from oq_3a43be2e r)⟩ (Nat.le_of_ble_eq_true rfl) (by decide) (by decide) (fun ee s1035 hq => ?_) (fun vv s1035 hq => ?_)
            · obtain ⟨Is1035, Fs1035, e1036, hv, hrs1035, hps1035⟩ := hq; cases hv
            obtain ⟨Is1035, Fs1035, e1036, hv, hrs1035, hps1035⟩ := hq
            cases hv
            have Gs1035 := fm_tq Gs1031 Fs1035 rfl rfl
            have ws1035_77 : iI s1035 77 = iI s1031 77 := fm_iq Fs1035 rfl
            have ws1035_75 : iI s1035 75 = iI s1031 75 := fm_iq Fs1035 rfl
            have ws1035_79 : iI s1035 79 = iI s1031 79 := fm_iq Fs1035 rfl
            have ws1035_78 : iI s1035 78 = iI s1031 78 := fm_iq Fs1035 rfl
            show DS l s0 D A dT 209 (rkR (3 * (r) + 2)) [77, 79, 80, 78] [] (T) Q (T) 50 [(0, .ref (A 179)), (1, .int (Int32.ofInt v))] [.int (Int32.ofInt e1036)] s1035
            refine d_lift (fun k ws X h => z_store_n X (lv' := [(2, .int (Int32.ofInt e1036)), (0, .ref (A 179)), (1, .int (Int32.ofInt v))]) rfl (by decide) (fun _ h => h) h) (d_lift (fun k ws X h => z_aload_n X (x := A 179) rfl (List.Mem.tail _ (List.Mem.head _)) h) (d_lift (fun k ws X h => w_dup X.1 (ax_d X (show cdA 209 52 = some (.dup, 1, 0, 0, 0) from rfl)) rfl h) (d_getI 179 rfl (by decide) rfl rfl (hti 77 (by decide)) ?_)))
            have b1037 := bi_77 Is1035
            refine d_lift (fun k ws X h => z_const X rfl h) (d_lift (fun k ws X h => z_add X rfl h) (d_putI 179 rfl (by decide) rfl rfl (by decide) rfl rfl rfl (show 77 ∈ _ by decide) (show (0 : Int) ≤ ((iI s1035 77) + 1) ∧ ((iI s1035 77) + 1) ≤ 400 by first | exact ⟨oq_54f49eb5 b1037.1, oq_1758a444 ws1035_77 g1033 ws1031_77 hps1031 ws1008_75 b1002.2⟩ | omega) ⟨by first | exact oq_74de1e16 b1037.1 | omega, by first | exact oq_964ce197 b1037.2 | omega⟩ (d_mono (T' := T) (fun _ h => Or.inr h) (fun _ _ h => h) (ds_gen (fun s1038 hs1038 => ?_)))))
            have Is1038 : Bd s1038 := eqB hs1038 (bd_I Is1035 (show (0 : Int) ≤ ((iI s1035 77) + 1) ∧ ((iI s1035 77) + 1) ≤ 400 by first | exact ⟨oq_54f49eb5 b1037.1, oq_1758a444 ws1035_77 g1033 ws1031_77 hps1031 ws1008_75 b1002.2⟩ | omega) ⟨by first | exact oq_74de1e16 b1037.1 | omega, by first | exact oq_964ce197 b1037.2 | omega⟩)
            have Fs1038 := eqF hs1038 (fm_I Gs1035 (inl_ok (a := 77) rfl))
            have vs1038 : iI s1038 77 = ((iI s1035 77) + 1) := eqI hs1038 (iI_u ⟨by first | exact oq_74de1e16 b1037.1 | omega, by first | exact oq_964ce197 b1037.2 | omega⟩)
            have ws1038_75 : iI s1038 75 = iI s1035 75 := eqI hs1038 rfl
            have ws1038_79 : iI s1038 79 = iI s1035 79 := eqI hs1038 rfl
            have ws1038_78 : iI s1038 78 = iI s1035 78 := eqI hs1038 rfl
            refine d_lift (fun k ws X h => z_aload_n X (x := A 179) rfl (List.Mem.tail _ (List.Mem.head _)) h) (d_callV 179 (As := []) (st := []) rfl rfl (by decide) rfl (hP Is1038 (by first | exact oq_70789eed vs1038 ws1035_77 g1033 ws1031_77 hps1031 ws1008_75 b1002.2 | omega) (by first | exact oq_0ef7b38f ws1038_78 ws1035_78 ws1031_78 ws1008_78 hi.1 p1 | omega) (by first | exact oq_63e554e6 ws1038_78 ws1035_78 ws1031_78 ws1008_78 g1006 hi.2.2.2.1 hi.1 b3.1 p2 | omega) (fun q h => hti q ((by decide : ∀ q ∈ ([77, 75, 78, 79, 81] : List Nat), q ∈ ([77, 75, 78, 79, 81] : List Nat)) q h)) (fun a h => hta a ((by decide : ∀ q ∈ ([157, 158, 161] : List Nat), q ∈ ([157, 158, 161] : List Nat)) a h))) ⟨rfl, rfl⟩ ⟨(show (12 + (3 * (r) + 1)) + 1 ≤ (12 + (3 * (r) + 2)) from oq_2a2b55d9 r), (show 8 + (mNL (miB 208) + 11) + (500 + 45 * (3 * (r) + 1)) ≤ (500 + 45 * (3 * (r) + 2)) from oq_6b10c96c r)⟩ (Nat.le_of_ble_eq_true rfl) (by decide) (by decide) (fun ee s1039 hq => ?_) (fun vv s1039 hq => ?_))
            · obtain ⟨Is1039, Fs1039, e1040, hv, hrs1039, hps1039⟩ := hq; cases hv
            obtain ⟨Is1039, Fs1039, e1040, hv, hrs1039, hps1039⟩ := hq
            have hps1039p := And.intro hps1039.1 (hps1039.2.1)
            cases hv
            have Gs1039 := fm_tq Fs1038 Fs1039 rfl rfl
            have b1041 := bi_77 Is1039
            have ws1039_75 : iI s1039 75 = iI s1038 75 := fm_iq Fs1039 rfl
            have b1042 := bi_79 Is1039
            have b1043 := bi_78 Is1039
            show DS l s0 D A dT 209 (rkR (3 * (r) + 2)) [77, 79, 80, 78] [] (T) Q (T) 65 [(2, .int (Int32.ofInt e1036)), (0, .ref (A 179)), (1, .int (Int32.ofInt v))] [.int (Int32.ofInt e1040)] s1039
            refine d_lift (fun k ws X h => z_store_n X (lv' := [(3, .int (Int32.ofInt e1040)), (2, .int (Int32.ofInt e1036)), (0, .ref (A 179)), (1, .int (Int32.ofInt v))]) rfl (by decide) (fun _ h => h) h) (d_lift (fun k ws X h => z_load_n X (x := e1036) rfl (List.Mem.tail _ (List.Mem.head _)) h) (d_lift (fun k ws X h => z_bipush X rfl h) (d_br (bo_ne _ _) bx_ne (fun k ws X h1 h2 => z_icmp_ne X (t := 78) rfl (by decide) hrs1035 (by decide) h1 h2) (fun g1044 => ?_) (fun g1044 => ?_))))
            ·
              refine d_lift (fun k ws X h => z_load_n X (x := v) rfl (List.Mem.tail _ (List.Mem.tail _ (List.Mem.tail _ (List.Mem.head _)))) h) (d_lift (fun k ws X h => z_load_n X (x := e1040) rfl (List.Mem.head _) h) (d_lift (fun k ws X h => z_sub X rfl h) (d_any (fun y1045 hy1045 => ?_))))
              refine d_lift (fun k ws X h => z_store_n X (lv' := [(1, .int (Int32.ofInt y1045)), (3, .int (Int32.ofInt e1040)), (2, .int (Int32.ofInt e1036)), (0, .ref (A 179))]) rfl (by decide) (fun _ h => h) h) (d_lift (fun k ws X h => z_aload_n X (x := A 179) rfl (List.Mem.tail _ (List.Mem.tail _ (List.Mem.tail _ (List.Mem.head _)))) h) (d_callV 179 (As := []) (st := []) rfl rfl (by decide) rfl (d_blanks G Is1039 (by first | exact oq_c19965e6 hps1039.2.2.1 vs1038 ws1035_77 g1033 ws1031_77 hps1031 ws1008_75 b1002.2 | omega) (fun q h => hti q ((by decide : ∀ q ∈ ([77, 75, 78, 79, 81] : List Nat), q ∈ ([77, 75, 78, 79, 81] : List Nat)) q h)) (fun a h => hta a ((by decide : ∀ q ∈ ([157, 158, 161] : List Nat), q ∈ ([157, 158, 161] : List Nat)) a h))) ⟨rfl, rfl⟩ ⟨(show 7 + 1 ≤ (12 + (3 * (r) + 2)) from oq_eb6f61dd r), (show 8 + (mNL (miB 193) + 11) + 121 ≤ (500 + 45 * (3 * (r) + 2)) from oq_fbd0a6ff r)⟩ (Nat.le_of_ble_eq_true rfl) (by decide) (by decide) (fun ee s1046 hq => ?_) (fun vv s1046 hq => ?_)))
              · obtain ⟨Is1046, Fs1046, hv, hps1046⟩ := hq; cases hv
              obtain ⟨Is1046, Fs1046, hv, hps1046⟩ := hq
              have hps1046p := hps1046.1
              cases hv
              have Gs1046 := fm_tq Gs1039 Fs1046 rfl rfl
              have b1048 := bi_77 Is1046
              have ws1046_75 : iI s1046 75 = iI s1039 75 := fm_iq Fs1046 rfl
              have ws1046_79 : iI s1046 79 = iI s1039 79 := fm_iq Fs1046 rfl
              have ws1046_78 : iI s1046 78 = iI s1039 78 := fm_iq Fs1046 rfl
              show DS l s0 D A dT 209 (rkR (3 * (r) + 2)) [77, 79, 80, 78] [] (T) Q (T) 86 [(1, .int (Int32.ofInt y1045)), (3, .int (Int32.ofInt e1040)), (2, .int (Int32.ofInt e1036)), (0, .ref (A 179))] [] s1046
              refine d_lift (fun k ws X h => z_goto X (t := 9) rfl (by decide) h) (d_lvs (lv := [(0, .ref (A 179)), (1, .int (Int32.ofInt y1045))]) (List.forall_mem_cons.mpr ⟨(List.Mem.tail _ (List.Mem.tail _ (List.Mem.tail _ (List.Mem.head _)))), (List.forall_mem_cons.mpr ⟨(List.Mem.head _), (fun q h => absurd h List.not_mem_nil)⟩)⟩) ?_)
              exact ih _ y1045 Is1046 Gs1046 (by first | exact ⟨oq_cc03667a ws1046_78 hps1039.1 ws1038_78 ws1035_78 ws1031_78 ws1008_78 hi.1, oq_e6d99423 hps1046.1 hps1039.2.1 vs1038 ws1035_77 ws1031_77 ws1008_77 hi.2.1, oq_3f2eaa11 hps1046.2 ws1039_75 hps1039.2.2.1 ws1038_75 vs1038 ws1035_75 ws1035_77 g1033 ws1031_75 ws1031_77 hps1031 ws1008_75 b1002.2, oq_67b737cd g1006 hi.2.2.2.1 b3.1, oq_b386ed3e ws1046_79 hps1046.2 b1042.1 ws1039_75 hps1039.2.2.2.2 ws1038_75 ws1035_75 ws1031_75 ws1008_75 hi.2.2.2.2.2.1, oq_cc03667a ws1046_75 ws1039_75 ws1038_75 ws1035_75 ws1031_75 ws1008_75 hi.2.2.2.2.2.1, hy1045.1, hy1045.2⟩ | omega) (by first | exact qk_me hm (oq_9fb54090 ws1046_75 hps1046.1 ws1039_75 hps1039.2.1 ws1038_75 vs1038 ws1035_75 ws1035_77 ws1031_75 ws1031_77 ws1008_75 ws1008_77) (oq_6f194061 hps1035 g1033 ws1031_75 ws1031_77 hps1031 ws1008_75 ws1008_77) | omega) kx
            ·
              refine d_lift (fun k ws X h => z_load_n X (x := v) rfl (List.Mem.tail _ (List.Mem.tail _ (List.Mem.tail _ (List.Mem.head _)))) h) (d_lift (fun k ws X h => z_load_n X (x := e1040) rfl (List.Mem.head _) h) (d_lift (fun k ws X h => z_add X rfl h) (d_any (fun y1049 hy1049 => ?_))))
              refine d_lift (fun k ws X h => z_goto X (t := 81) rfl (by decide) h) (d_lift (fun k ws X h => z_store_n X (lv' := [(1, .int (Int32.ofInt y1049)), (3, .int (Int32.ofInt e1040)), (2, .int (Int32.ofInt e1036)), (0, .ref (A 179))]) rfl (by decide) (fun _ h => h) h) (d_lift (fun k ws X h => z_aload_n X (x := A 179) rfl (List.Mem.tail _ (List.Mem.tail _ (List.Mem.tail _ (List.Mem.head _)))) h) (d_callV 179 (As := []) (st := []) rfl rfl (by decide) rfl (d_blanks G Is1039 (by first | exact oq_e4969bb2 g1044 hps1039.2.2.1 vs1038 ws1035_77 hps1035 ws1031_75 ws1008_75 b1002.2 | omega) (fun q h => hti q ((by decide : ∀ q ∈ ([77, 75, 78, 79, 81] : List Nat), q ∈ ([77, 75, 78, 79, 81] : List Nat)) q h)) (fun a h => hta a ((by decide : ∀ q ∈ ([157, 158, 161] : List Nat), q ∈ ([157, 158, 161] : List Nat)) a h))) ⟨rfl, rfl⟩ ⟨(show 7 + 1 ≤ (12 + (3 * (r) + 2)) from oq_eb6f61dd r), (show 8 + (mNL (miB 193) + 11) + 121 ≤ (500 + 45 * (3 * (r) + 2)) from oq_fbd0a6ff r)⟩ (Nat.le_of_ble_eq_true rfl) (by decide) (by decide) (fun ee s1050 hq => ?_) (fun vv s1050 hq => ?_))))
              · obtain ⟨Is1050, Fs1050, hv, hps1050⟩ := hq; cases hv
              obtain ⟨Is1050, Fs1050, hv, hps1050⟩ := hq
              have hps1050p := hps1050.1
              cases hv
              have Gs1050 := fm_tq Gs1039 Fs1050 rfl rfl
              have b1052 := bi_77 Is1050
              have ws1050_75 : iI s1050 75 = iI s1039 75 := fm_iq Fs1050 rfl
              have ws1050_79 : iI s1050 79 = iI s1039 79 := fm_iq Fs1050 rfl
              have ws1050_78 : iI s1050 78 = iI s1039 78 := fm_iq Fs1050 rfl
              show DS l s0 D A dT 209 (rkR (3 * (r) + 2)) [77, 79, 80, 78] [] (T) Q (T) 86 [(1, .int (Int32.ofInt y1049)), (3, .int (Int32.ofInt e1040)), (2, .int (Int32.ofInt e1036)), (0, .ref (A 179))] [] s1050
              refine d_lift (fun k ws X h => z_goto X (t := 9) rfl (by decide) h) (d_lvs (lv := [(0, .ref (A 179)), (1, .int (Int32.ofInt y1049))]) (List.forall_mem_cons.mpr ⟨(List.Mem.tail _ (List.Mem.tail _ (List.Mem.tail _ (List.Mem.head _)))), (List.forall_mem_cons.mpr ⟨(List.Mem.head _), (fun q h => absurd h List.not_mem_nil)⟩)⟩) ?_)
              exact ih _ y1049 Is1050 Gs1050 (by first | exact ⟨oq_cc03667a ws1050_78 hps1039.1 ws1038_78 ws1035_78 ws1031_78 ws1008_78 hi.1, oq_e6d99423 hps1050.1 hps1039.2.1 vs1038 ws1035_77 ws1031_77 ws1008_77 hi.2.1, oq_5f319874 hps1050.2 g1044 ws1039_75 hps1039.2.2.1 ws1038_75 vs1038 ws1035_75 ws1035_77 hps1035 ws1031_75 ws1008_75 b1002.2, oq_67b737cd g1006 hi.2.2.2.1 b3.1, oq_b386ed3e ws1050_79 hps1050.2 b1042.1 ws1039_75 hps1039.2.2.2.2 ws1038_75 ws1035_75 ws1031_75 ws1008_75 hi.2.2.2.2.2.1, oq_cc03667a ws1050_75 ws1039_75 ws1038_75 ws1035_75 ws1031_75 ws1008_75 hi.2.2.2.2.2.1, hy1049.1, hy1049.2⟩ | omega) (by first | exact qk_me hm (oq_9fb54090 ws1050_75 hps1050.1 ws1039_75 hps1039.2.1 ws1038_75 vs1038 ws1035_75 ws1035_77 ws1031_75 ws1031_77 ws1008_75 ws1008_77) (oq_238fe47c g1044 hps1035 ws1031_75 ws1031_77 ws1008_75 ws1008_77) | omega) kx
  refine d_lift (fun k ws X h => z_aload_n X (x := A 179) rfl (List.Mem.head _) h) (d_callV 179 (As := []) (st := []) rfl rfl (by decide) rfl (hP I (by first | exact p0 | omega) (by first | exact p1 | omega) (by first | exact p2 | omega) (fun q h => hti q ((by decide : ∀ q ∈ ([77, 75, 78, 79, 81] : List Nat), q ∈ ([77, 75, 78, 79, 81] : List Nat)) q h)) (fun a h => hta a ((by decide : ∀ q ∈ ([157, 158, 161] : List Nat), q ∈ ([157, 158, 161] : List Nat)) a h))) ⟨rfl, rfl⟩ ⟨(show (12 + (3 * (r) + 1)) + 1 ≤ (12 + (3 * (r) + 2)) from oq_2a2b55d9 r), (show 8 + (mNL (miB 208) + 11) + (500 + 45 * (3 * (r) + 1)) ≤ (500 + 45 * (3 * (r) + 2)) from oq_6b10c96c r)⟩ (Nat.le_of_ble_eq_true rfl) (by decide) (by decide) (fun ee s5 hq => ?_) (fun vv s5 hq => ?_))
  · obtain ⟨Is5, Fs5, e6, hv, hrs5, hps5⟩ := hq; cases hv
  obtain ⟨Is5, Fs5, e6, hv, hrs5, hps5⟩ := hq
  have hps5p := And.intro hps5.1 (hps5.2.1)
  cases hv
  have Gs5 := fm_tq F Fs5 rfl rfl
  have b7 := bi_77 Is5
  have ws5_75 : iI s5 75 = iI s 75 := fm_iq Fs5 rfl
  have b8 := bi_79 Is5
  have b9 := bi_78 Is5
  show DS l s0 D A dT 209 (rkR (3 * (r) + 2)) [77, 79, 80, 78] [] (T) Q (T) 4 [(0, .ref (A 179))] [.int (Int32.ofInt e6)] s5
  refine d_lift (fun k ws X h => z_store_n X (lv' := [(1, .int (Int32.ofInt e6)), (0, .ref (A 179))]) rfl (by decide) (fun _ h => h) h) (d_lift (fun k ws X h => z_aload_n X (x := A 179) rfl (List.Mem.tail _ (List.Mem.head _)) h) (d_callV 179 (As := []) (st := []) rfl rfl (by decide) rfl (d_blanks G Is5 (by first | exact oq_299765ef hps5.2.2.1 p0 | omega) (fun q h => hti q ((by decide : ∀ q ∈ ([77, 75, 78, 79, 81] : List Nat), q ∈ ([77, 75, 78, 79, 81] : List Nat)) q h)) (fun a h => hta a ((by decide : ∀ q ∈ ([157, 158, 161] : List Nat), q ∈ ([157, 158, 161] : List Nat)) a h))) ⟨rfl, rfl⟩ ⟨(show 7 + 1 ≤ (12 + (3 * (r) + 2)) from oq_eb6f61dd r), (show 8 + (mNL (miB 193) + 11) + 121 ≤ (500 + 45 * (3 * (r) + 2)) from oq_fbd0a6ff r)⟩ (Nat.le_of_ble_eq_true rfl) (by decide) (by decide) (fun ee s10 hq => ?_) (fun vv s10 hq => ?_)))
  · obtain ⟨Is10, Fs10, hv, hps10⟩ := hq; cases hv
  obtain ⟨Is10, Fs10, hv, hps10⟩ := hq
  have hps10p := hps10.1
  cases hv
  have Gs10 := fm_tq Gs5 Fs10 rfl rfl
  have b12 := bi_77 Is10
  have ws10_75 : iI s10 75 = iI s5 75 := fm_iq Fs10 rfl
  have ws10_79 : iI s10 79 = iI s5 79 := fm_iq Fs10 rfl
  have ws10_78 : iI s10 78 = iI s5 78 := fm_iq Fs10 rfl
  show DS l s0 D A dT 209 (rkR (3 * (r) + 2)) [77, 79, 80, 78] [] (T) Q (T) 9 [(1, .int (Int32.ofInt e6)), (0, .ref (A 179))] [] s10
  refine d_lvs (lv := [(0, .ref (A 179)), (1, .int (Int32.ofInt e6))]) (List.forall_mem_cons.mpr ⟨(List.Mem.tail _ (List.Mem.head _)), (List.forall_mem_cons.mpr ⟨(List.Mem.head _), (fun q h => absurd h List.not_mem_nil)⟩)⟩) (L9 ((iI s10 75 - iI s10 77 : Int).toNat + 1) s10 e6 Is10 Gs10 (by first | exact ⟨oq_1aa5be9e ws10_78 hps5.1, oq_f8a2cf0e hps10.1 hps5.2.1, oq_848e1c5b hps10.2 ws5_75 hps5.2.2.1 b2.2 p0, oq_88e312fc ws10_79 b8.1 hps5.2.2.2.1 b3.1, oq_ce34312c ws10_79 hps10.2 b8.1 ws5_75 hps5.2.2.2.2, oq_1aa5be9e ws10_75 ws5_75, hrs5.1, hrs5.2⟩ | omega) (Nat.lt_succ_self _) ?_)
  intro s13 x14 Is13 Fs13 hs13
  have b15 := bi_77 Is13
  have b16 := bi_75 Is13
  have b17 := bi_79 Is13
  have b18 := bi_78 Is13
  refine d_lift (fun k ws X h => z_load_n X (x := x14) rfl (List.Mem.tail _ (List.Mem.head _)) h) ?_
  exact d_iret rfl rfl (Or.inl rfl) rfl (fun _ h => h) (hQ _ _ ⟨Is13, Fs13, x14, rfl, ⟨by first | exact hs13.2.2.2.2.2.2.1 | omega, by first | exact hs13.2.2.2.2.2.2.2 | omega⟩, by first | exact ⟨hs13.1, hs13.2.1, hs13.2.2.1, hs13.2.2.2.1, hs13.2.2.2.2.1⟩ | omega⟩)
theorem d_sumr (G : GX l s0 D tys a0 dT) (r : Nat) : (∀ {s : PS} {T : TT}, Bd s → (iI s 77 ≤ 203) → (iI s 78 + ((r : Nat) : Int) = 7) → (iI s 78 = 7 → iI s 79 ≠ 0) → (∀ q ∈ ([77, 75, 78, 79, 81] : List Nat), T.1 q) → (∀ a ∈ ([157, 158, 161] : List Nat), ∀ j, j < (bA a).2.2 → T.2 a j) → CD l s0 D A dT 207 (rkR (3 * (r))) [77, 79, 80, 78] [] T T [.ref (A 179)] s (fun o t => Bd t ∧ Fm [77, 79, 80, 78] [] s t ∧ ∃ e, o = .inl (some (.int (Int32.ofInt e))) ∧ rng e ∧ (iI t 78 = iI s 78 ∧ iI s 77 ≤ iI t 77 ∧ (iI t 77 = iI s 77 ∨ iI t 77 ≤ 202) ∧ (iI s 79 ≠ 0 → iI t 79 ≠ 0) ∧ (iI t 79 = 0 → iI t 77 ≤ iI s 75)))) ∧ (∀ {s : PS} {T : TT}, Bd s → (iI s 77 ≤ 203) → (iI s 78 + ((r : Nat) : Int) = 7) → (iI s 78 = 7 → iI s 79 ≠ 0) → (∀ q ∈ ([77, 75, 78, 79, 81] : List Nat), T.1 q) → (∀ a ∈ ([157, 158, 161] : List Nat), ∀ j, j < (bA a).2.2 → T.2 a j) → CD l s0 D A dT 208 (rkR (3 * (r) + 1)) [77, 79, 80, 78] [] T T [.ref (A 179)] s (fun o t => Bd t ∧ Fm [77, 79, 80, 78] [] s t ∧ ∃ e, o = .inl (some (.int (Int32.ofInt e))) ∧ rng e ∧ (iI t 78 = iI s 78 ∧ iI s 77 ≤ iI t 77 ∧ (iI t 77 = iI s 77 ∨ iI t 77 ≤ 202) ∧ (iI s 79 ≠ 0 → iI t 79 ≠ 0) ∧ (iI t 79 = 0 → iI t 77 ≤ iI s 75)))) ∧ (∀ {s : PS} {T : TT}, Bd s → (iI s 77 ≤ 203) → (iI s 78 + ((r : Nat) : Int) = 7) → (iI s 78 = 7 → iI s 79 ≠ 0) → (∀ q ∈ ([77, 75, 78, 79, 81] : List Nat), T.1 q) → (∀ a ∈ ([157, 158, 161] : List Nat), ∀ j, j < (bA a).2.2 → T.2 a j) → CD l s0 D A dT 209 (rkR (3 * (r) + 2)) [77, 79, 80, 78] [] T T [.ref (A 179)] s (fun o t => Bd t ∧ Fm [77, 79, 80, 78] [] s t ∧ ∃ e, o = .inl (some (.int (Int32.ofInt e))) ∧ rng e ∧ (iI t 78 = iI s 78 ∧ iI s 77 ≤ iI t 77 ∧ (iI t 77 = iI s 77 ∨ iI t 77 ≤ 202) ∧ (iI s 79 ≠ 0 → iI t 79 ≠ 0) ∧ (iI t 79 = 0 → iI t 77 ≤ iI s 75)))) := by
  induction r with
  | zero =>
    have hU : ∀ {s : PS} {T : TT}, Bd s → (iI s 77 ≤ 203) → (iI s 78 + ((0 : Nat) : Int) = 7) → (iI s 78 = 7 → iI s 79 ≠ 0) → (∀ q ∈ ([77, 75, 78, 79, 81] : List Nat), T.1 q) → (∀ a ∈ ([157, 158, 161] : List Nat), ∀ j, j < (bA a).2.2 → T.2 a j) → CD l s0 D A dT 207 (rkR (3 * (0))) [77, 79, 80, 78] [] T T [.ref (A 179)] s (fun o t => Bd t ∧ Fm [77, 79, 80, 78] [] s t ∧ ∃ e, o = .inl (some (.int (Int32.ofInt e))) ∧ rng e ∧ (iI t 78 = iI s 78 ∧ iI s 77 ≤ iI t 77 ∧ (iI t 77 = iI s 77 ∨ iI t 77 ≤ 202) ∧ (iI s 79 ≠ 0 → iI t 79 ≠ 0) ∧ (iI t 79 = 0 → iI t 77 ≤ iI s 75))) := fun {_ _} I p0 p1 p2 hti hta => d_unit0 G I p0 p1 p2 hti hta
    have hP : ∀ {s : PS} {T : TT}, Bd s → (iI s 77 ≤ 203) → (iI s 78 + ((0 : Nat) : Int) = 7) → (iI s 78 = 7 → iI s 79 ≠ 0) → (∀ q ∈ ([77, 75, 78, 79, 81] : List Nat), T.1 q) → (∀ a ∈ ([157, 158, 161] : List Nat), ∀ j, j < (bA a).2.2 → T.2 a j) → CD l s0 D A dT 208 (rkR (3 * (0) + 1)) [77, 79, 80, 78] [] T T [.ref (A 179)] s (fun o t => Bd t ∧ Fm [77, 79, 80, 78] [] s t ∧ ∃ e, o = .inl (some (.int (Int32.ofInt e))) ∧ rng e ∧ (iI t 78 = iI s 78 ∧ iI s 77 ≤ iI t 77 ∧ (iI t 77 = iI s 77 ∨ iI t 77 ≤ 202) ∧ (iI s 79 ≠ 0 → iI t 79 ≠ 0) ∧ (iI t 79 = 0 → iI t 77 ≤ iI s 75))) := fun {_ _} I p0 p1 p2 hti hta => d_productS G hU I p0 p1 p2 hti hta
    exact ⟨hU, hP, fun {_ _} I p0 p1 p2 hti hta => d_sumS G hP I p0 p1 p2 hti hta⟩
  | succ r ih =>
    have hU : ∀ {s : PS} {T : TT}, Bd s → (iI s 77 ≤ 203) → (iI s 78 + ((r + 1 : Nat) : Int) = 7) → (iI s 78 = 7 → iI s 79 ≠ 0) → (∀ q ∈ ([77, 75, 78, 79, 81] : List Nat), T.1 q) → (∀ a ∈ ([157, 158, 161] : List Nat), ∀ j, j < (bA a).2.2 → T.2 a j) → CD l s0 D A dT 207 (rkR (3 * (r + 1))) [77, 79, 80, 78] [] T T [.ref (A 179)] s (fun o t => Bd t ∧ Fm [77, 79, 80, 78] [] s t ∧ ∃ e, o = .inl (some (.int (Int32.ofInt e))) ∧ rng e ∧ (iI t 78 = iI s 78 ∧ iI s 77 ≤ iI t 77 ∧ (iI t 77 = iI s 77 ∨ iI t 77 ≤ 202) ∧ (iI s 79 ≠ 0 → iI t 79 ≠ 0) ∧ (iI t 79 = 0 → iI t 77 ≤ iI s 75))) := fun {_ _} I p0 p1 p2 hti hta => d_unitS G ih.2.2 I p0 p1 p2 hti hta
    have hP : ∀ {s : PS} {T : TT}, Bd s → (iI s 77 ≤ 203) → (iI s 78 + ((r + 1 : Nat) : Int) = 7) → (iI s 78 = 7 → iI s 79 ≠ 0) → (∀ q ∈ ([77, 75, 78, 79, 81] : List Nat), T.1 q) → (∀ a ∈ ([157, 158, 161] : List Nat), ∀ j, j < (bA a).2.2 → T.2 a j) → CD l s0 D A dT 208 (rkR (3 * (r + 1) + 1)) [77, 79, 80, 78] [] T T [.ref (A 179)] s (fun o t => Bd t ∧ Fm [77, 79, 80, 78] [] s t ∧ ∃ e, o = .inl (some (.int (Int32.ofInt e))) ∧ rng e ∧ (iI t 78 = iI s 78 ∧ iI s 77 ≤ iI t 77 ∧ (iI t 77 = iI s 77 ∨ iI t 77 ≤ 202) ∧ (iI s 79 ≠ 0 → iI t 79 ≠ 0) ∧ (iI t 79 = 0 → iI t 77 ≤ iI s 75))) := fun {_ _} I p0 p1 p2 hti hta => d_productS G hU I p0 p1 p2 hti hta
    exact ⟨hU, hP, fun {_ _} I p0 p1 p2 hti hta => d_sumS G hP I p0 p1 p2 hti hta⟩
end M43
end
