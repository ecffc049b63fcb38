theorem oq_7ae2681c : 6 + 1 ≤ 7 := by omega
theorem oq_68e6451f : 8 + (2 + 11) + 100 ≤ 121 := by omega
theorem oq_519c1fd2 : 7 + 1 ≤ 8 := by omega
theorem oq_67025191 : 8 + (1 + 11) + 121 ≤ 141 := by omega
theorem oq_42eed11c : 6 + 1 ≤ 8 := by omega
theorem oq_dc08f8ae : 8 + (2 + 11) + 100 ≤ 141 := by omega
theorem oq_420db89e : 8 + (3 + 11) + 100 ≤ 141 := by omega
theorem oq_91725b71 : 8 + (3 + 11) + 100 ≤ 122 := by omega
theorem oq_4c2c9485 : 8 + (1 + 11) + 100 ≤ 141 := by omega
theorem oq_67c02c84 : 8 + 1 ≤ 9 := by omega
theorem oq_85724074 : 8 + (3 + 11) + 141 ≤ 163 := by omega
theorem oq_4a198724 : 6 + 1 ≤ 9 := by omega
theorem oq_497c6a1a : 8 + (7 + 11) + 100 ≤ 163 := by omega
/-! Determined: words and numbers of a text -/
section M42
variable {l : Launch} {s0 : State} {D : va_G} {tys : List (ClassId × FieldType)} {a0 : Array Value} {A : Nat → Nat} {dT : Nat → ClassId} {s : PS}
set_option maxHeartbeats 16000000 in
theorem d_blanks (G : GX l s0 D tys a0 dT) (I : Bd s) (p0 : iI s 77 ≤ 390) {T : TT} (hti : ∀ q ∈ ([77, 75, 78, 79, 81] : List Nat), T.1 q) (hta : ∀ a ∈ ([157, 158, 161] : List Nat), ∀ j, j < (bA a).2.2 → T.2 a j) : CD l s0 D A dT 193 (rmN 193) [77] [] T (T) [.ref (A 179)] s (fun o t => Bd t ∧ Fm [77] [] s t ∧ o = .inl none ∧ (iI s 77 ≤ iI t 77 ∧ (iI t 77 = iI s 77 ∨ iI t 77 ≤ iI s 75))) := by
  refine cd_of G (by decide) (Nat.le_of_ble_eq_true rfl) (fun Q hQ => ?_)
  have I0 := I
  show DS l s0 D A dT 193 (rmN 193) [77] [] (T) Q (T) 0 [(0, .ref (A 179))] [] s
  have F : Fm [77] [] s s := fm_rf _ _ s
  have b1 := bi_77 I
  have b2 := bi_75 I
  have L0 : ∀ (n : Nat) (t : PS), Bd t → Fm [77] [] s t → (iI s 77 ≤ iI t 77 ∧ (iI t 77 = iI s 77 ∨ iI t 77 ≤ iI s 75) ∧ iI t 75 = iI s 75) → (iI t 75 - iI t 77 : Int).toNat < n → (∀ (t' : PS), Bd t' → Fm [77] [] s t' → (iI s 77 ≤ iI t' 77 ∧ (iI t' 77 = iI s 77 ∨ iI t' 77 ≤ iI s 75) ∧ iI t' 75 = iI s 75) → DS l s0 D A dT 193 (rmN 193) [77] [] (T) Q (T) 26 [(0, .ref (A 179))] [] t') → DS l s0 D A dT 193 (rmN 193) [77] [] (T) Q (T) 0 [(0, .ref (A 179))] [] t := by
    intro n
    induction n with
    | zero =>
      intro t  I F hi hm kx
      exact absurd hm (Nat.not_lt_zero _)
    | succ n ih =>
      intro t  I F hi hm kx
      have b1001 := bi_77 I
      have b1002 := bi_75 I
      refine d_lift (fun k ws X h => z_aload_n X (x := A 179) rfl (List.Mem.head _) h) (d_lift (fun k ws X h => z_aload_n X (x := A 179) rfl (List.Mem.head _) h) (d_getI 179 rfl (by decide) rfl rfl (hti 77 (by decide)) ?_))
      have b1003 := bi_77 I
      refine d_callV 179 (As := [.int (Int32.ofInt (iI t 77))]) (st := []) rfl rfl (by decide) rfl (d_byteAt G I (by first | exact ⟨b1003.1, oq_5a8480eb b1003.2⟩ | omega) (fun q h => hti q ((by decide : ∀ q ∈ ([75, 81] : List Nat), q ∈ ([77, 75, 78, 79, 81] : List Nat)) q h)) (fun a h => hta a ((by decide : ∀ q ∈ ([157, 158] : List Nat), q ∈ ([157, 158, 161] : List Nat)) a h))) ⟨rfl, rfl⟩ ⟨(show 6 + 1 ≤ 7 from oq_7ae2681c), (show 8 + (mNL (miB 192) + 11) + 100 ≤ 121 from oq_68e6451f)⟩ (Nat.le_of_ble_eq_true rfl) (by decide) (by decide) (fun ee s1004 hq => ?_) (fun vv s1004 hq => ?_)
      · obtain ⟨Is1004, Fs1004, e1005, hv, hrs1004, hps1004⟩ := hq; cases hv
      obtain ⟨Is1004, Fs1004, e1005, hv, hrs1004, hps1004⟩ := hq
      cases hv
      have Gs1004 := fm_tq F Fs1004 rfl rfl
      have ws1004_77 : iI s1004 77 = iI t 77 := fm_iq Fs1004 rfl
      have ws1004_75 : iI s1004 75 = iI t 75 := fm_iq Fs1004 rfl
      show DS l s0 D A dT 193 (rmN 193) [77] [] (T) Q (T) 8 [(0, .ref (A 179))] [.int (Int32.ofInt e1005)] s1004
      refine d_lift (fun k ws X h => z_bipush X rfl h) (d_br (bo_ne _ _) bx_ne (fun k ws X h1 h2 => z_icmp_ne X (t := 26) rfl (by decide) hrs1004 (by decide) h1 h2) (fun g1006 => ?_) (fun g1006 => ?_))
      ·
        refine d_lvs (lv := [(0, .ref (A 179))]) (List.forall_mem_cons.mpr ⟨(List.Mem.head _), (fun q h => absurd h List.not_mem_nil)⟩) ?_
        exact kx _  Is1004 Gs1004 (by first | exact ⟨oq_9272904e ws1004_77 hi.1, oq_8dc46605 ws1004_77 hi.2.1 hi.1, oq_1aa5be9e ws1004_75 hi.2.2⟩ | omega)
      ·
        refine d_lift (fun k ws X h => z_aload_n X (x := A 179) rfl (List.Mem.head _) h) (d_lift (fun k ws X h => w_dup X.1 (ax_d X (show cdA 193 14 = some (.dup, 1, 0, 0, 0) from rfl)) rfl h) (d_getI 179 rfl (by decide) rfl rfl (hti 77 (by decide)) ?_))
        have b1007 := bi_77 Is1004
        refine d_lift (fun k ws X h => z_const X rfl h) (d_lift (fun k ws X h => z_add X rfl h) (d_putI 179 rfl (by decide) rfl rfl (by decide) rfl rfl rfl (show 77 ∈ _ by decide) (show (0 : Int) ≤ ((iI s1004 77) + 1) ∧ ((iI s1004 77) + 1) ≤ 400 by first | exact ⟨oq_54f49eb5 b1007.1, oq_9fb74c64 g1006 ws1004_77 hps1004 b1002.2⟩ | omega) ⟨by first | exact oq_74de1e16 b1007.1 | omega, by first | exact oq_964ce197 b1007.2 | omega⟩ (d_mono (T' := T) (fun _ h => Or.inr h) (fun _ _ h => h) (ds_gen (fun s1008 hs1008 => ?_)))))
        have Is1008 : Bd s1008 := eqB hs1008 (bd_I Is1004 (show (0 : Int) ≤ ((iI s1004 77) + 1) ∧ ((iI s1004 77) + 1) ≤ 400 by first | exact ⟨oq_54f49eb5 b1007.1, oq_9fb74c64 g1006 ws1004_77 hps1004 b1002.2⟩ | omega) ⟨by first | exact oq_74de1e16 b1007.1 | omega, by first | exact oq_964ce197 b1007.2 | omega⟩)
        have Fs1008 := eqF hs1008 (fm_I Gs1004 (inl_ok (a := 77) rfl))
        have vs1008 : iI s1008 77 = ((iI s1004 77) + 1) := eqI hs1008 (iI_u ⟨by first | exact oq_74de1e16 b1007.1 | omega, by first | exact oq_964ce197 b1007.2 | omega⟩)
        have ws1008_75 : iI s1008 75 = iI s1004 75 := eqI hs1008 rfl
        refine d_lift (fun k ws X h => z_goto X (t := 0) rfl (by decide) h) (d_lvs (lv := [(0, .ref (A 179))]) (List.forall_mem_cons.mpr ⟨(List.Mem.head _), (fun q h => absurd h List.not_mem_nil)⟩) ?_)
        exact ih _  Is1008 Fs1008 (by first | exact ⟨oq_6d7927be vs1008 hi.1 ws1004_77, oq_cfc91213 vs1008 g1006 ws1004_77 hps1004 hi.2.2, oq_d0d2714e ws1008_75 hi.2.2 ws1004_75⟩ | omega) (by first | exact qk_me hm (oq_956b687f ws1008_75 vs1008 ws1004_75 ws1004_77) (oq_a9fc5a51 g1006 hps1004) | omega) kx
  refine d_lvs (lv := [(0, .ref (A 179))]) (List.forall_mem_cons.mpr ⟨(List.Mem.head _), (fun q h => absurd h List.not_mem_nil)⟩) (L0 ((iI s 75 - iI s 77 : Int).toNat + 1) s  I F (by first | exact ⟨by decide, Or.inl (by decide), by decide⟩ | omega) (Nat.lt_succ_self _) ?_)
  intro s3  Is3 Fs3 hs3
  have b4 := bi_77 Is3
  have b5 := bi_75 Is3
  exact d_vret rfl rfl (fun _ h => h) (hQ _ _ ⟨Is3, Fs3, rfl, by first | exact ⟨hs3.1, hs3.2.1⟩ | omega⟩)
set_option maxHeartbeats 16000000 in
theorem d_skipWord (G : GX l s0 D tys a0 dT) (I : Bd s) (p0 : iI s 77 ≤ 390) {T : TT} (hti : ∀ q ∈ ([77, 75, 78, 79, 81] : List Nat), T.1 q) (hta : ∀ a ∈ ([157, 158, 161] : List Nat), ∀ j, j < (bA a).2.2 → T.2 a j) : CD l s0 D A dT 203 (rmN 203) [77] [] T (T) [.ref (A 179)] s (fun o t => Bd t ∧ Fm [77] [] s t ∧ o = .inl none ∧ (iI s 77 ≤ iI t 77 ∧ (iI t 77 = iI s 77 ∨ iI t 77 ≤ iI s 75))) := by
  refine cd_of G (by decide) (Nat.le_of_ble_eq_true rfl) (fun Q hQ => ?_)
  have I0 := I
  show DS l s0 D A dT 203 (rmN 203) [77] [] (T) Q (T) 0 [(0, .ref (A 179))] [] s
  have F : Fm [77] [] s s := fm_rf _ _ s
  have b1 := bi_77 I
  have b2 := bi_75 I
  have L0 : ∀ (n : Nat) (t : PS), Bd t → Fm [77] [] s t → (iI s 77 ≤ iI t 77 ∧ (iI t 77 = iI s 77 ∨ iI t 77 ≤ iI s 75) ∧ iI t 75 = iI s 75) → (iI t 75 - iI t 77 : Int).toNat < n → (∀ (t' : PS), Bd t' → Fm [77] [] s t' → (iI s 77 ≤ iI t' 77 ∧ (iI t' 77 = iI s 77 ∨ iI t' 77 ≤ iI s 75) ∧ iI t' 75 = iI s 75) → DS l s0 D A dT 203 (rmN 203) [77] [] (T) Q (T) 39 [(0, .ref (A 179))] [] t') → DS l s0 D A dT 203 (rmN 203) [77] [] (T) Q (T) 0 [(0, .ref (A 179))] [] t := by
    intro n
    induction n with
    | zero =>
      intro t  I F hi hm kx
      exact absurd hm (Nat.not_lt_zero _)
    | succ n ih =>
      intro t  I F hi hm kx
      have b1001 := bi_77 I
      have b1002 := bi_75 I
      refine d_lift (fun k ws X h => z_aload_n X (x := A 179) rfl (List.Mem.head _) h) (d_lift (fun k ws X h => z_aload_n X (x := A 179) rfl (List.Mem.head _) h) (d_getI 179 rfl (by decide) rfl rfl (hti 77 (by decide)) ?_))
      have b1003 := bi_77 I
      refine d_callV 179 (As := [.int (Int32.ofInt (iI t 77))]) (st := []) rfl rfl (by decide) rfl (d_byteAt G I (by first | exact ⟨b1003.1, oq_5a8480eb b1003.2⟩ | omega) (fun q h => hti q ((by decide : ∀ q ∈ ([75, 81] : List Nat), q ∈ ([77, 75, 78, 79, 81] : List Nat)) q h)) (fun a h => hta a ((by decide : ∀ q ∈ ([157, 158] : List Nat), q ∈ ([157, 158, 161] : List Nat)) a h))) ⟨rfl, rfl⟩ ⟨(show 6 + 1 ≤ 7 from oq_7ae2681c), (show 8 + (mNL (miB 192) + 11) + 100 ≤ 121 from oq_68e6451f)⟩ (Nat.le_of_ble_eq_true rfl) (by decide) (by decide) (fun ee s1004 hq => ?_) (fun vv s1004 hq => ?_)
      · obtain ⟨Is1004, Fs1004, e1005, hv, hrs1004, hps1004⟩ := hq; cases hv
      obtain ⟨Is1004, Fs1004, e1005, hv, hrs1004, hps1004⟩ := hq
      cases hv
      have Gs1004 := fm_tq F Fs1004 rfl rfl
      have ws1004_77 : iI s1004 77 = iI t 77 := fm_iq Fs1004 rfl
      have ws1004_75 : iI s1004 75 = iI t 75 := fm_iq Fs1004 rfl
      show DS l s0 D A dT 203 (rmN 203) [77] [] (T) Q (T) 8 [(0, .ref (A 179))] [.int (Int32.ofInt e1005)] s1004
      refine d_lift (fun k ws X h => z_bipush X rfl h) (d_br (bo_lt _ _) bx_lt (fun k ws X h1 h2 => z_icmp_lt X (t := 39) rfl (by decide) hrs1004 (by decide) h1 h2) (fun g1006 => ?_) (fun g1006 => ?_))
      ·
        refine d_lvs (lv := [(0, .ref (A 179))]) (List.forall_mem_cons.mpr ⟨(List.Mem.head _), (fun q h => absurd h List.not_mem_nil)⟩) ?_
        exact kx _  Is1004 Gs1004 (by first | exact ⟨oq_9272904e ws1004_77 hi.1, oq_8dc46605 ws1004_77 hi.2.1 hi.1, oq_1aa5be9e ws1004_75 hi.2.2⟩ | omega)
      ·
        refine d_lift (fun k ws X h => z_aload_n X (x := A 179) rfl (List.Mem.head _) h) (d_lift (fun k ws X h => z_aload_n X (x := A 179) rfl (List.Mem.head _) h) (d_getI 179 rfl (by decide) rfl rfl (hti 77 (by decide)) ?_))
        have b1007 := bi_77 Is1004
        refine d_callV 179 (As := [.int (Int32.ofInt (iI s1004 77))]) (st := []) rfl rfl (by decide) rfl (d_byteAt G Is1004 (by first | exact ⟨b1007.1, oq_5a8480eb b1007.2⟩ | omega) (fun q h => hti q ((by decide : ∀ q ∈ ([75, 81] : List Nat), q ∈ ([77, 75, 78, 79, 81] : List Nat)) q h)) (fun a h => hta a ((by decide : ∀ q ∈ ([157, 158] : List Nat), q ∈ ([157, 158, 161] : List Nat)) a h))) ⟨rfl, rfl⟩ ⟨(show 6 + 1 ≤ 7 from oq_7ae2681c), (show 8 + (mNL (miB 192) + 11) + 100 ≤ 121 from oq_68e6451f)⟩ (Nat.le_of_ble_eq_true rfl) (by decide) (by decide) (fun ee s1008 hq => ?_) (fun vv s1008 hq => ?_)
        · obtain ⟨Is1008, Fs1008, e1009, hv, hrs1008, hps1008⟩ := hq; cases hv
        obtain ⟨Is1008, Fs1008, e1009, hv, hrs1008, hps1008⟩ := hq
        cases hv
        have Gs1008 := fm_tq Gs1004 Fs1008 rfl rfl
        have ws1008_77 : iI s1008 77 = iI s1004 77 := fm_iq Fs1008 rfl
        have ws1008_75 : iI s1008 75 = iI s1004 75 := fm_iq Fs1008 rfl
        show DS l s0 D A dT 203 (rmN 203) [77] [] (T) Q (T) 21 [(0, .ref (A 179))] [.int (Int32.ofInt e1009)] s1008
        refine d_lift (fun k ws X h => z_bipush X rfl h) (d_br (bo_gt _ _) bx_gt (fun k ws X h1 h2 => z_icmp_gt X (t := 39) rfl (by decide) hrs1008 (by decide) h1 h2) (fun g1010 => ?_) (fun g1010 => ?_))
        ·
          refine d_lvs (lv := [(0, .ref (A 179))]) (List.forall_mem_cons.mpr ⟨(List.Mem.head _), (fun q h => absurd h List.not_mem_nil)⟩) ?_
          exact kx _  Is1008 Gs1008 (by first | exact ⟨oq_143762c7 ws1008_77 hi.1 ws1004_77, oq_2519f37c g1010 ws1008_77 hps1008 ws1004_75 hi.2.2, oq_d0d2714e ws1008_75 hi.2.2 ws1004_75⟩ | omega)
        ·
          refine d_lift (fun k ws X h => z_aload_n X (x := A 179) rfl (List.Mem.head _) h) (d_lift (fun k ws X h => w_dup X.1 (ax_d X (show cdA 203 27 = some (.dup, 1, 0, 0, 0) from rfl)) rfl h) (d_getI 179 rfl (by decide) rfl rfl (hti 77 (by decide)) ?_))
          have b1011 := bi_77 Is1008
          refine d_lift (fun k ws X h => z_const X rfl h) (d_lift (fun k ws X h => z_add X rfl h) (d_putI 179 rfl (by decide) rfl rfl (by decide) rfl rfl rfl (show 77 ∈ _ by decide) (show (0 : Int) ≤ ((iI s1008 77) + 1) ∧ ((iI s1008 77) + 1) ≤ 400 by first | exact ⟨oq_54f49eb5 b1011.1, oq_7e7c278b ws1008_77 g1006 ws1004_77 hps1004 b1002.2⟩ | omega) ⟨by first | exact oq_74de1e16 b1011.1 | omega, by first | exact oq_964ce197 b1011.2 | omega⟩ (d_mono (T' := T) (fun _ h => Or.inr h) (fun _ _ h => h) (ds_gen (fun s1012 hs1012 => ?_)))))
          have Is1012 : Bd s1012 := eqB hs1012 (bd_I Is1008 (show (0 : Int) ≤ ((iI s1008 77) + 1) ∧ ((iI s1008 77) + 1) ≤ 400 by first | exact ⟨oq_54f49eb5 b1011.1, oq_7e7c278b ws1008_77 g1006 ws1004_77 hps1004 b1002.2⟩ | omega) ⟨by first | exact oq_74de1e16 b1011.1 | omega, by first | exact oq_964ce197 b1011.2 | omega⟩)
          have Fs1012 := eqF hs1012 (fm_I Gs1008 (inl_ok (a := 77) rfl))
          have vs1012 : iI s1012 77 = ((iI s1008 77) + 1) := eqI hs1012 (iI_u ⟨by first | exact oq_74de1e16 b1011.1 | omega, by first | exact oq_964ce197 b1011.2 | omega⟩)
          have ws1012_75 : iI s1012 75 = iI s1008 75 := eqI hs1012 rfl
          refine d_lift (fun k ws X h => z_goto X (t := 0) rfl (by decide) h) (d_lvs (lv := [(0, .ref (A 179))]) (List.forall_mem_cons.mpr ⟨(List.Mem.head _), (fun q h => absurd h List.not_mem_nil)⟩) ?_)
          exact ih _  Is1012 Fs1012 (by first | exact ⟨oq_c108a731 vs1012 hi.1 ws1008_77 ws1004_77, oq_a49c266d vs1012 ws1008_77 hps1008 g1006 ws1004_75 ws1004_77 hps1004 hi.2.2, oq_45b593e3 ws1012_75 hi.2.2 ws1008_75 ws1004_75⟩ | omega) (by first | exact qk_me hm (oq_e6145000 ws1012_75 vs1012 ws1008_75 ws1008_77 ws1004_75 ws1004_77) (oq_88aeaead g1006 hps1004) | omega) kx
  refine d_lvs (lv := [(0, .ref (A 179))]) (List.forall_mem_cons.mpr ⟨(List.Mem.head _), (fun q h => absurd h List.not_mem_nil)⟩) (L0 ((iI s 75 - iI s 77 : Int).toNat + 1) s  I F (by first | exact ⟨by decide, Or.inl (by decide), by decide⟩ | omega) (Nat.lt_succ_self _) ?_)
  intro s3  Is3 Fs3 hs3
  have b4 := bi_77 Is3
  have b5 := bi_75 Is3
  exact d_vret rfl rfl (fun _ h => h) (hQ _ _ ⟨Is3, Fs3, rfl, by first | exact ⟨hs3.1, hs3.2.1⟩ | omega⟩)
set_option maxHeartbeats 16000000 in
theorem d_sign (G : GX l s0 D tys a0 dT) (I : Bd s) {x : Int} (p0 : 0 ≤ x ∧ x ≤ 255) (p1 : iI s 77 ≤ 380) {T : TT} (hti : ∀ q ∈ ([77, 75, 78, 79, 81] : List Nat), T.1 q) (hta : ∀ a ∈ ([157, 158, 161] : List Nat), ∀ j, j < (bA a).2.2 → T.2 a j) : CD l s0 D A dT 204 (rmN 204) [77, 79, 80] [] T (T) [.ref (A 179), .int (Int32.ofInt x)] s (fun o t => Bd t ∧ Fm [77, 79, 80] [] s t ∧ o = .inl none ∧ (iI s 77 ≤ iI t 77 ∧ (iI t 77 = iI s 77 ∨ iI t 77 ≤ iI s 75) ∧ (iI s 79 ≠ 0 → iI t 79 ≠ 0) ∧ (iI t 79 = 0 → iI s 77 < iI t 77 ∧ iI t 77 ≤ iI s 75))) := by
  refine cd_of G (by decide) (Nat.le_of_ble_eq_true rfl) (fun Q hQ => ?_)
  have I0 := I
  show DS l s0 D A dT 204 (rmN 204) [77, 79, 80] [] (T) Q (T) 0 [(0, .ref (A 179)), (1, .int (Int32.ofInt x))] [] s
  have F : Fm [77, 79, 80] [] s s := fm_rf _ _ s
  have b1 := bi_77 I
  have b2 := bi_75 I
  have b3 := bi_79 I
  refine d_lift (fun k ws X h => z_aload_n X (x := A 179) rfl (List.Mem.head _) h) (d_callV 179 (As := []) (st := []) rfl rfl (by decide) rfl (d_blanks G I (by first | exact oq_f72601a2 p1 | omega) (fun q h => hti q ((by decide : ∀ q ∈ ([77, 75, 78, 79, 81] : List Nat), q ∈ ([77, 75, 78, 79, 81] : List Nat)) q h)) (fun a h => hta a ((by decide : ∀ q ∈ ([157, 158, 161] : List Nat), q ∈ ([157, 158, 161] : List Nat)) a h))) ⟨rfl, rfl⟩ ⟨(show 7 + 1 ≤ 8 from oq_519c1fd2), (show 8 + (mNL (miB 193) + 11) + 121 ≤ 141 from oq_67025191)⟩ (Nat.le_of_ble_eq_true rfl) (by decide) (by decide) (fun ee s4 hq => ?_) (fun vv s4 hq => ?_))
  · obtain ⟨Is4, Fs4, hv, hps4⟩ := hq; cases hv
  obtain ⟨Is4, Fs4, hv, hps4⟩ := hq
  have hps4p := hps4.1
  cases hv
  have Gs4 := fm_tq F Fs4 rfl rfl
  have b6 := bi_77 Is4
  have ws4_75 : iI s4 75 = iI s 75 := fm_iq Fs4 rfl
  have ws4_79 : iI s4 79 = iI s 79 := fm_iq Fs4 rfl
  show DS l s0 D A dT 204 (rmN 204) [77, 79, 80] [] (T) Q (T) 4 [(0, .ref (A 179)), (1, .int (Int32.ofInt x))] [] s4
  refine d_lift (fun k ws X h => z_aload_n X (x := A 179) rfl (List.Mem.head _) h) (d_lift (fun k ws X h => z_aload_n X (x := A 179) rfl (List.Mem.head _) h) (d_getI 179 rfl (by decide) rfl rfl (hti 77 (by decide)) ?_))
  have b7 := bi_77 Is4
  refine d_callV 179 (As := [.int (Int32.ofInt (iI s4 77))]) (st := []) rfl rfl (by decide) rfl (d_byteAt G Is4 (by first | exact ⟨b7.1, oq_5a8480eb b7.2⟩ | omega) (fun q h => hti q ((by decide : ∀ q ∈ ([75, 81] : List Nat), q ∈ ([77, 75, 78, 79, 81] : List Nat)) q h)) (fun a h => hta a ((by decide : ∀ q ∈ ([157, 158] : List Nat), q ∈ ([157, 158, 161] : List Nat)) a h))) ⟨rfl, rfl⟩ ⟨(show 6 + 1 ≤ 8 from oq_42eed11c), (show 8 + (mNL (miB 192) + 11) + 100 ≤ 141 from oq_dc08f8ae)⟩ (Nat.le_of_ble_eq_true rfl) (by decide) (by decide) (fun ee s8 hq => ?_) (fun vv s8 hq => ?_)
  · obtain ⟨Is8, Fs8, e9, hv, hrs8, hps8⟩ := hq; cases hv
  obtain ⟨Is8, Fs8, e9, hv, hrs8, hps8⟩ := hq
  cases hv
  have Gs8 := fm_tq Gs4 Fs8 rfl rfl
  have ws8_77 : iI s8 77 = iI s4 77 := fm_iq Fs8 rfl
  have ws8_75 : iI s8 75 = iI s4 75 := fm_iq Fs8 rfl
  have ws8_79 : iI s8 79 = iI s4 79 := fm_iq Fs8 rfl
  show DS l s0 D A dT 204 (rmN 204) [77, 79, 80] [] (T) Q (T) 12 [(0, .ref (A 179)), (1, .int (Int32.ofInt x))] [.int (Int32.ofInt e9)] s8
  refine d_lift (fun k ws X h => z_load_n X (x := x) rfl (List.Mem.tail _ (List.Mem.head _)) h) (d_br (bo_ne _ _) bx_ne (fun k ws X h1 h2 => z_icmp_ne X (t := 29) rfl (by decide) hrs8 ⟨by first | exact oq_fa4e5087 p0.1 | omega, by first | exact oq_4567a937 p0.2 | omega⟩ h1 h2) (fun g10 => ?_) (fun g10 => ?_))
  ·
    refine d_lift (fun k ws X h => z_aload_n X (x := A 179) rfl (List.Mem.head _) h) (d_lift (fun k ws X h => z_const X rfl h) (d_lift (fun k ws X h => z_aload_n X (x := A 179) rfl (List.Mem.head _) h) (d_getI 179 rfl (by decide) rfl rfl (hti 77 (by decide)) ?_)))
    have b11 := bi_77 Is8
    refine d_callV 179 (As := [.int (Int32.ofInt 1), .int (Int32.ofInt (iI s8 77))]) (st := []) rfl rfl (by decide) rfl (d_wrong G Is8 (by first | exact ⟨by decide, by decide⟩ | omega) (by first | exact ⟨oq_ca54ea22 b11.1, b11.2⟩ | omega) (fun q h => hti q ((by decide : ∀ q ∈ ([79] : List Nat), q ∈ ([77, 75, 78, 79, 81] : List Nat)) q h)) (fun a h => hta a ((by decide : ∀ q ∈ ([] : List Nat), q ∈ ([157, 158, 161] : List Nat)) a h))) ⟨rfl, rfl⟩ ⟨(show 6 + 1 ≤ 8 from oq_42eed11c), (show 8 + (mNL (miB 194) + 11) + 100 ≤ 141 from oq_420db89e)⟩ (Nat.le_of_ble_eq_true rfl) (by decide) (by decide) (fun ee s12 hq => ?_) (fun vv s12 hq => ?_)
    · obtain ⟨Is12, Fs12, hv, hps12⟩ := hq; cases hv
    obtain ⟨Is12, Fs12, hv, hps12⟩ := hq
    cases hv
    have Gs12 := fm_tq Gs8 Fs12 rfl rfl
    have ws12_77 : iI s12 77 = iI s8 77 := fm_iq Fs12 rfl
    have ws12_75 : iI s12 75 = iI s8 75 := fm_iq Fs12 rfl
    have b14 := bi_79 Is12
    show DS l s0 D A dT 204 (rmN 204) [77, 79, 80] [] (T) Q (T) 38 [(0, .ref (A 179)), (1, .int (Int32.ofInt x))] [] s12
    exact d_vret rfl rfl (fun _ h => h) (hQ _ _ ⟨Is12, Gs12, rfl, by first | exact ⟨oq_143762c7 ws12_77 hps4.1 ws8_77, oq_9d983156 ws12_77 ws8_77 hps4.2 hps4.1, oq_5071f1ab b14.1 hps12, oq_c324d438 b14.1 hps12⟩ | omega⟩)
  ·
    refine d_lift (fun k ws X h => z_aload_n X (x := A 179) rfl (List.Mem.head _) h) (d_lift (fun k ws X h => w_dup X.1 (ax_d X (show cdA 204 17 = some (.dup, 1, 0, 0, 0) from rfl)) rfl h) (d_getI 179 rfl (by decide) rfl rfl (hti 77 (by decide)) ?_))
    have b15 := bi_77 Is8
    refine d_lift (fun k ws X h => z_const X rfl h) (d_lift (fun k ws X h => z_add X rfl h) (d_putI 179 rfl (by decide) rfl rfl (by decide) rfl rfl rfl (show 77 ∈ _ by decide) (show (0 : Int) ≤ ((iI s8 77) + 1) ∧ ((iI s8 77) + 1) ≤ 400 by first | exact ⟨oq_54f49eb5 b15.1, oq_f2693aa9 g10 ws8_77 hps8 ws4_75 b2.2 p0.1⟩ | omega) ⟨by first | exact oq_74de1e16 b15.1 | omega, by first | exact oq_964ce197 b15.2 | omega⟩ (d_mono (T' := T) (fun _ h => Or.inr h) (fun _ _ h => h) (ds_gen (fun s16 hs16 => ?_)))))
    have Is16 : Bd s16 := eqB hs16 (bd_I Is8 (show (0 : Int) ≤ ((iI s8 77) + 1) ∧ ((iI s8 77) + 1) ≤ 400 by first | exact ⟨oq_54f49eb5 b15.1, oq_f2693aa9 g10 ws8_77 hps8 ws4_75 b2.2 p0.1⟩ | omega) ⟨by first | exact oq_74de1e16 b15.1 | omega, by first | exact oq_964ce197 b15.2 | omega⟩)
    have Fs16 := eqF hs16 (fm_I Gs8 (inl_ok (a := 77) rfl))
    have vs16 : iI s16 77 = ((iI s8 77) + 1) := eqI hs16 (iI_u ⟨by first | exact oq_74de1e16 b15.1 | omega, by first | exact oq_964ce197 b15.2 | omega⟩)
    have ws16_75 : iI s16 75 = iI s8 75 := eqI hs16 rfl
    have ws16_79 : iI s16 79 = iI s8 79 := eqI hs16 rfl
    refine d_lift (fun k ws X h => z_goto X (t := 38) rfl (by decide) h) ?_
    exact d_vret rfl rfl (fun _ h => h) (hQ _ _ ⟨Is16, Fs16, rfl, by first | exact ⟨oq_6d7927be vs16 hps4.1 ws8_77, oq_669de7e1 vs16 g10 ws8_77 hps8 ws4_75 p0.1, oq_00dd204b ws16_79 ws8_79 ws4_79 b3.1, oq_8800f1ea vs16 g10 ws8_77 hps8 ws4_75 hps4.1 p0.1⟩ | omega⟩)
set_option maxHeartbeats 16000000 in
theorem d_opens (G : GX l s0 D tys a0 dT) (I : Bd s) {x : Int} (p0 : 1 ≤ x ∧ x ≤ 3) (p1 : iI s 77 ≤ 380) (p2 : iI s 78 ≤ 7) {T : TT} (hti : ∀ q ∈ ([77, 75, 78, 79, 81] : List Nat), T.1 q) (hta : ∀ a ∈ ([157, 158, 161] : List Nat), ∀ j, j < (bA a).2.2 → T.2 a j) : CD l s0 D A dT 205 (rmN 205) [77, 79, 80, 78] [] T (T) [.ref (A 179), .int (Int32.ofInt x)] s (fun o t => Bd t ∧ Fm [77, 79, 80, 78] [] s t ∧ o = .inl none ∧ (iI t 77 = iI s 77 + x ∧ iI t 78 = iI s 78 + 1 ∧ (iI s 79 ≠ 0 → iI t 79 ≠ 0) ∧ (iI s 78 = 6 → iI t 79 ≠ 0))) := by
  refine cd_of G (by decide) (Nat.le_of_ble_eq_true rfl) (fun Q hQ => ?_)
  have I0 := I
  show DS l s0 D A dT 205 (rmN 205) [77, 79, 80, 78] [] (T) Q (T) 0 [(0, .ref (A 179)), (1, .int (Int32.ofInt x))] [] s
  have F : Fm [77, 79, 80, 78] [] s s := fm_rf _ _ s
  have b1 := bi_77 I
  have b2 := bi_78 I
  have b3 := bi_79 I
  refine d_lift (fun k ws X h => z_aload_n X (x := A 179) rfl (List.Mem.head _) h) (d_getI 179 rfl (by decide) rfl rfl (hti 78 (by decide)) ?_)
  have b4 := bi_78 I
  refine d_lift (fun k ws X h => z_bipush X rfl h) (d_br (bo_ne _ _) bx_ne (fun k ws X h1 h2 => z_icmp_ne X (t := 18) rfl (by decide) (rng_to _) (by decide) h1 h2) (fun g5 => ?_) (fun g5 => ?_))
  ·
    refine d_lift (fun k ws X h => z_aload_n X (x := A 179) rfl (List.Mem.head _) h) (d_lift (fun k ws X h => w_dup X.1 (ax_d X (show cdA 205 19 = some (.dup, 1, 0, 0, 0) from rfl)) rfl h) (d_getI 179 rfl (by decide) rfl rfl (hti 78 (by decide)) ?_))
    have b6 := bi_78 I
    refine d_lift (fun k ws X h => z_const X rfl h) (d_lift (fun k ws X h => z_add X rfl h) (d_putI 179 rfl (by decide) rfl rfl (by decide) rfl rfl rfl (show 78 ∈ _ by decide) (show (0 : Int) ≤ ((iI s 78) + 1) ∧ ((iI s 78) + 1) ≤ 8 by first | exact ⟨oq_54f49eb5 b6.1, oq_18969492 p2⟩ | omega) ⟨by first | exact oq_74de1e16 b6.1 | omega, by first | exact oq_3762dfb5 b6.2 | omega⟩ (d_mono (T' := T) (fun _ h => Or.inr h) (fun _ _ h => h) (ds_gen (fun s7 hs7 => ?_)))))
    have Is7 : Bd s7 := eqB hs7 (bd_I I (show (0 : Int) ≤ ((iI s 78) + 1) ∧ ((iI s 78) + 1) ≤ 8 by first | exact ⟨oq_54f49eb5 b6.1, oq_18969492 p2⟩ | omega) ⟨by first | exact oq_74de1e16 b6.1 | omega, by first | exact oq_3762dfb5 b6.2 | omega⟩)
    have Fs7 := eqF hs7 (fm_I F (inl_ok (a := 78) rfl))
    have vs7 : iI s7 78 = ((iI s 78) + 1) := eqI hs7 (iI_u ⟨by first | exact oq_74de1e16 b6.1 | omega, by first | exact oq_3762dfb5 b6.2 | omega⟩)
    have ws7_77 : iI s7 77 = iI s 77 := eqI hs7 rfl
    have ws7_79 : iI s7 79 = iI s 79 := eqI hs7 rfl
    refine d_lift (fun k ws X h => z_aload_n X (x := A 179) rfl (List.Mem.head _) h) (d_lift (fun k ws X h => w_dup X.1 (ax_d X (show cdA 205 29 = some (.dup, 1, 0, 0, 0) from rfl)) rfl h) (d_getI 179 rfl (by decide) rfl rfl (hti 77 (by decide)) ?_))
    have b8 := bi_77 Is7
    refine d_lift (fun k ws X h => z_load_n X (x := x) rfl (List.Mem.tail _ (List.Mem.head _)) h) (d_lift (fun k ws X h => z_add X rfl h) (d_putI 179 rfl (by decide) rfl rfl (by decide) rfl rfl rfl (show 77 ∈ _ by decide) (show (0 : Int) ≤ ((iI s7 77) + x) ∧ ((iI s7 77) + x) ≤ 400 by first | exact ⟨oq_c3299dea p0.1 b8.1, oq_69d89cff p0.2 ws7_77 p1⟩ | omega) ⟨by first | exact oq_96c994d3 p0.1 b8.1 | omega, by first | exact oq_99fe3e62 p0.2 b8.2 | omega⟩ (d_mono (T' := T) (fun _ h => Or.inr h) (fun _ _ h => h) (ds_gen (fun s9 hs9 => ?_)))))
    have Is9 : Bd s9 := eqB hs9 (bd_I Is7 (show (0 : Int) ≤ ((iI s7 77) + x) ∧ ((iI s7 77) + x) ≤ 400 by first | exact ⟨oq_c3299dea p0.1 b8.1, oq_69d89cff p0.2 ws7_77 p1⟩ | omega) ⟨by first | exact oq_96c994d3 p0.1 b8.1 | omega, by first | exact oq_99fe3e62 p0.2 b8.2 | omega⟩)
    have Fs9 := eqF hs9 (fm_I Fs7 (inl_ok (a := 77) rfl))
    have vs9 : iI s9 77 = ((iI s7 77) + x) := eqI hs9 (iI_u ⟨by first | exact oq_96c994d3 p0.1 b8.1 | omega, by first | exact oq_99fe3e62 p0.2 b8.2 | omega⟩)
    have ws9_78 : iI s9 78 = iI s7 78 := eqI hs9 rfl
    have ws9_79 : iI s9 79 = iI s7 79 := eqI hs9 rfl
    exact d_vret rfl rfl (fun _ h => h) (hQ _ _ ⟨Is9, Fs9, rfl, by first | exact ⟨oq_f1381ab8 vs9 ws7_77, oq_4b8d46b3 ws9_78 vs7, oq_3da60cc3 ws9_79 ws7_79 b3.1, oq_2b028323 g5⟩ | omega⟩)
  ·
    refine d_lift (fun k ws X h => z_aload_n X (x := A 179) rfl (List.Mem.head _) h) (d_lift (fun k ws X h => z_const X rfl h) (d_lift (fun k ws X h => z_aload_n X (x := A 179) rfl (List.Mem.head _) h) (d_getI 179 rfl (by decide) rfl rfl (hti 77 (by decide)) ?_)))
    have b10 := bi_77 I
    refine d_callV 179 (As := [.int (Int32.ofInt 3), .int (Int32.ofInt (iI s 77))]) (st := []) rfl rfl (by decide) rfl (d_wrong G I (by first | exact ⟨by decide, by decide⟩ | omega) (by first | exact ⟨oq_ca54ea22 b10.1, b10.2⟩ | omega) (fun q h => hti q ((by decide : ∀ q ∈ ([79] : List Nat), q ∈ ([77, 75, 78, 79, 81] : List Nat)) q h)) (fun a h => hta a ((by decide : ∀ q ∈ ([] : List Nat), q ∈ ([157, 158, 161] : List Nat)) a h))) ⟨rfl, rfl⟩ ⟨(show 6 + 1 ≤ 7 from oq_7ae2681c), (show 8 + (mNL (miB 194) + 11) + 100 ≤ 122 from oq_91725b71)⟩ (Nat.le_of_ble_eq_true rfl) (by decide) (by decide) (fun ee s11 hq => ?_) (fun vv s11 hq => ?_)
    · obtain ⟨Is11, Fs11, hv, hps11⟩ := hq; cases hv
    obtain ⟨Is11, Fs11, hv, hps11⟩ := hq
    cases hv
    have Gs11 := fm_tq F Fs11 rfl rfl
    have ws11_77 : iI s11 77 = iI s 77 := fm_iq Fs11 rfl
    have ws11_78 : iI s11 78 = iI s 78 := fm_iq Fs11 rfl
    have b13 := bi_79 Is11
    show DS l s0 D A dT 205 (rmN 205) [77, 79, 80, 78] [] (T) Q (T) 18 [(0, .ref (A 179)), (1, .int (Int32.ofInt x))] [] s11
    refine d_lift (fun k ws X h => z_aload_n X (x := A 179) rfl (List.Mem.head _) h) (d_lift (fun k ws X h => w_dup X.1 (ax_d X (show cdA 205 19 = some (.dup, 1, 0, 0, 0) from rfl)) rfl h) (d_getI 179 rfl (by decide) rfl rfl (hti 78 (by decide)) ?_))
    have b14 := bi_78 Is11
    refine d_lift (fun k ws X h => z_const X rfl h) (d_lift (fun k ws X h => z_add X rfl h) (d_putI 179 rfl (by decide) rfl rfl (by decide) rfl rfl rfl (show 78 ∈ _ by decide) (show (0 : Int) ≤ ((iI s11 78) + 1) ∧ ((iI s11 78) + 1) ≤ 8 by first | exact ⟨oq_54f49eb5 b14.1, oq_7dbb59f7 ws11_78 g5⟩ | omega) ⟨by first | exact oq_74de1e16 b14.1 | omega, by first | exact oq_3762dfb5 b14.2 | omega⟩ (d_mono (T' := T) (fun _ h => Or.inr h) (fun _ _ h => h) (ds_gen (fun s15 hs15 => ?_)))))
    have Is15 : Bd s15 := eqB hs15 (bd_I Is11 (show (0 : Int) ≤ ((iI s11 78) + 1) ∧ ((iI s11 78) + 1) ≤ 8 by first | exact ⟨oq_54f49eb5 b14.1, oq_7dbb59f7 ws11_78 g5⟩ | omega) ⟨by first | exact oq_74de1e16 b14.1 | omega, by first | exact oq_3762dfb5 b14.2 | omega⟩)
    have Fs15 := eqF hs15 (fm_I Gs11 (inl_ok (a := 78) rfl))
    have vs15 : iI s15 78 = ((iI s11 78) + 1) := eqI hs15 (iI_u ⟨by first | exact oq_74de1e16 b14.1 | omega, by first | exact oq_3762dfb5 b14.2 | omega⟩)
    have ws15_77 : iI s15 77 = iI s11 77 := eqI hs15 rfl
    have ws15_79 : iI s15 79 = iI s11 79 := eqI hs15 rfl
    refine d_lift (fun k ws X h => z_aload_n X (x := A 179) rfl (List.Mem.head _) h) (d_lift (fun k ws X h => w_dup X.1 (ax_d X (show cdA 205 29 = some (.dup, 1, 0, 0, 0) from rfl)) rfl h) (d_getI 179 rfl (by decide) rfl rfl (hti 77 (by decide)) ?_))
    have b16 := bi_77 Is15
    refine d_lift (fun k ws X h => z_load_n X (x := x) rfl (List.Mem.tail _ (List.Mem.head _)) h) (d_lift (fun k ws X h => z_add X rfl h) (d_putI 179 rfl (by decide) rfl rfl (by decide) rfl rfl rfl (show 77 ∈ _ by decide) (show (0 : Int) ≤ ((iI s15 77) + x) ∧ ((iI s15 77) + x) ≤ 400 by first | exact ⟨oq_c3299dea p0.1 b16.1, oq_75116c0c p0.2 ws15_77 ws11_77 p1⟩ | omega) ⟨by first | exact oq_96c994d3 p0.1 b16.1 | omega, by first | exact oq_99fe3e62 p0.2 b16.2 | omega⟩ (d_mono (T' := T) (fun _ h => Or.inr h) (fun _ _ h => h) (ds_gen (fun s17 hs17 => ?_)))))
    have Is17 : Bd s17 := eqB hs17 (bd_I Is15 (show (0 : Int) ≤ ((iI s15 77) + x) ∧ ((iI s15 77) + x) ≤ 400 by first | exact ⟨oq_c3299dea p0.1 b16.1, oq_75116c0c p0.2 ws15_77 ws11_77 p1⟩ | omega) ⟨by first | exact oq_96c994d3 p0.1 b16.1 | omega, by first | exact oq_99fe3e62 p0.2 b16.2 | omega⟩)
    have Fs17 := eqF hs17 (fm_I Fs15 (inl_ok (a := 77) rfl))
    have vs17 : iI s17 77 = ((iI s15 77) + x) := eqI hs17 (iI_u ⟨by first | exact oq_96c994d3 p0.1 b16.1 | omega, by first | exact oq_99fe3e62 p0.2 b16.2 | omega⟩)
    have ws17_78 : iI s17 78 = iI s15 78 := eqI hs17 rfl
    have ws17_79 : iI s17 79 = iI s15 79 := eqI hs17 rfl
    exact d_vret rfl rfl (fun _ h => h) (hQ _ _ ⟨Is17, Fs17, rfl, by first | exact ⟨oq_0f45dae9 vs17 ws11_77 ws15_77, oq_20fce6d9 ws17_78 vs15 ws11_78, oq_07c40900 ws17_79 ws15_79 b13.1 hps11, oq_43918552 ws17_79 ws15_79 b13.1 hps11⟩ | omega⟩)
set_option maxHeartbeats 16000000 in
theorem d_number (G : GX l s0 D tys a0 dT) (I : Bd s) {x y : Int} (p0 : rng x) (p1 : rng y) (p2 : iI s 77 ≤ 390) {T : TT} (hti : ∀ q ∈ ([77, 75, 78, 79, 81] : List Nat), T.1 q) (hta : ∀ a ∈ ([157, 158, 161] : List Nat), ∀ j, j < (bA a).2.2 → T.2 a j) : CD l s0 D A dT 196 (rmN 196) [77, 79, 80] [] T (T) [.ref (A 179), .int (Int32.ofInt x), .int (Int32.ofInt y)] s (fun o t => Bd t ∧ Fm [77, 79, 80] [] s t ∧ ∃ e, o = .inl (some (.int (Int32.ofInt e))) ∧ rng e ∧ (iI s 77 ≤ iI t 77 ∧ (iI t 77 = iI s 77 ∨ iI t 77 ≤ iI s 75) ∧ (iI s 79 ≠ 0 → iI t 79 ≠ 0) ∧ (iI t 79 = 0 → x ≤ e ∧ e ≤ y) ∧ e ≤ 100000)) := by
  refine cd_of G (by decide) (Nat.le_of_ble_eq_true rfl) (fun Q hQ => ?_)
  have I0 := I
  show DS l s0 D A dT 196 (rmN 196) [77, 79, 80] [] (T) Q (T) 0 [(0, .ref (A 179)), (1, .int (Int32.ofInt x)), (2, .int (Int32.ofInt y))] [] s
  have F : Fm [77, 79, 80] [] s s := fm_rf _ _ s
  have b1 := bi_77 I
  have b2 := bi_75 I
  have b3 := bi_79 I
  have L35 : ∀ (n : Nat) (t : PS) (xv yv bv vv : Int), Bd t → Fm [77, 79, 80] [] s t → (iI s 77 ≤ iI t 77 ∧ (iI t 77 = iI s 77 ∨ iI t 77 ≤ iI s 75) ∧ iI t 75 = iI s 75 ∧ (iI s 79 ≠ 0 → iI t 79 ≠ 0) ∧ xv = x ∧ yv = y ∧ (0 ≤ bv ∧ bv ≤ 400) ∧ rng vv ∧ vv ≤ 100000) → (iI t 75 - iI t 77 : Int).toNat < n → (∀ (t' : PS) (xv' yv' bv' vv' : Int), Bd t' → Fm [77, 79, 80] [] s t' → (iI s 77 ≤ iI t' 77 ∧ (iI t' 77 = iI s 77 ∨ iI t' 77 ≤ iI s 75) ∧ iI t' 75 = iI s 75 ∧ (iI s 79 ≠ 0 → iI t' 79 ≠ 0) ∧ xv' = x ∧ yv' = y ∧ (0 ≤ bv' ∧ bv' ≤ 400) ∧ rng vv' ∧ vv' ≤ 100000) → DS l s0 D A dT 196 (rmN 196) [77, 79, 80] [] (T) Q (T) 97 [(0, .ref (A 179)), (1, .int (Int32.ofInt xv')), (2, .int (Int32.ofInt yv')), (3, .int (Int32.ofInt bv')), (4, .int (Int32.ofInt vv'))] [] t') → DS l s0 D A dT 196 (rmN 196) [77, 79, 80] [] (T) Q (T) 35 [(0, .ref (A 179)), (1, .int (Int32.ofInt xv)), (2, .int (Int32.ofInt yv)), (3, .int (Int32.ofInt bv)), (4, .int (Int32.ofInt vv))] [] t := by
    intro n
    induction n with
    | zero =>
      intro t xv yv bv vv I F hi hm kx
      exact absurd hm (Nat.not_lt_zero _)
    | succ n ih =>
      intro t xv yv bv vv I F hi hm kx
      have b1001 := bi_77 I
      have b1002 := bi_75 I
      have b1003 := bi_79 I
      refine d_lift (fun k ws X h => z_aload_n X (x := A 179) rfl (List.Mem.head _) h) (d_lift (fun k ws X h => z_aload_n X (x := A 179) rfl (List.Mem.head _) h) (d_getI 179 rfl (by decide) rfl rfl (hti 77 (by decide)) ?_))
      have b1004 := bi_77 I
      refine d_callV 179 (As := [.int (Int32.ofInt (iI t 77))]) (st := []) rfl rfl (by decide) rfl (d_byteAt G I (by first | exact ⟨b1004.1, oq_5a8480eb b1004.2⟩ | omega) (fun q h => hti q ((by decide : ∀ q ∈ ([75, 81] : List Nat), q ∈ ([77, 75, 78, 79, 81] : List Nat)) q h)) (fun a h => hta a ((by decide : ∀ q ∈ ([157, 158] : List Nat), q ∈ ([157, 158, 161] : List Nat)) a h))) ⟨rfl, rfl⟩ ⟨(show 6 + 1 ≤ 8 from oq_42eed11c), (show 8 + (mNL (miB 192) + 11) + 100 ≤ 141 from oq_dc08f8ae)⟩ (Nat.le_of_ble_eq_true rfl) (by decide) (by decide) (fun ee s1005 hq => ?_) (fun vv s1005 hq => ?_)
      · obtain ⟨Is1005, Fs1005, e1006, hv, hrs1005, hps1005⟩ := hq; cases hv
      obtain ⟨Is1005, Fs1005, e1006, hv, hrs1005, hps1005⟩ := hq
      cases hv
      have Gs1005 := fm_tq F Fs1005 rfl rfl
      have ws1005_77 : iI s1005 77 = iI t 77 := fm_iq Fs1005 rfl
      have ws1005_75 : iI s1005 75 = iI t 75 := fm_iq Fs1005 rfl
      have ws1005_79 : iI s1005 79 = iI t 79 := fm_iq Fs1005 rfl
      show DS l s0 D A dT 196 (rmN 196) [77, 79, 80] [] (T) Q (T) 43 [(0, .ref (A 179)), (1, .int (Int32.ofInt xv)), (2, .int (Int32.ofInt yv)), (3, .int (Int32.ofInt bv)), (4, .int (Int32.ofInt vv))] [.int (Int32.ofInt e1006)] s1005
      refine d_callT (As := [.int (Int32.ofInt e1006)]) (st := []) rfl rfl (d_isDigit G Is1005 (by first | exact ⟨hrs1005.1, hrs1005.2⟩ | omega) (fun q h => hti q ((by decide : ∀ q ∈ ([] : List Nat), q ∈ ([77, 75, 78, 79, 81] : List Nat)) q h)) (fun a h => hta a ((by decide : ∀ q ∈ ([] : List Nat), q ∈ ([157, 158, 161] : List Nat)) a h))) ⟨rfl, rfl⟩ ⟨(show 6 + 1 ≤ 8 from oq_42eed11c), (show 8 + (mNL (miB 195) + 11) + 100 ≤ 141 from oq_4c2c9485)⟩ (Nat.le_of_ble_eq_true rfl) (by decide) (by decide) (fun ee s1007 hq => ?_) (fun vv s1007 hq => ?_)
      · obtain ⟨Is1007, Fs1007, e1008, hv, hrs1007, hps1007⟩ := hq; cases hv
      obtain ⟨Is1007, Fs1007, e1008, hv, hrs1007, hps1007⟩ := hq
      cases hv
      have Gs1007 := fm_tq Gs1005 Fs1007 rfl rfl
      have ws1007_77 : iI s1007 77 = iI s1005 77 := fm_iq Fs1007 rfl
      have ws1007_75 : iI s1007 75 = iI s1005 75 := fm_iq Fs1007 rfl
      have ws1007_79 : iI s1007 79 = iI s1005 79 := fm_iq Fs1007 rfl
      show DS l s0 D A dT 196 (rmN 196) [77, 79, 80] [] (T) Q (T) 46 [(0, .ref (A 179)), (1, .int (Int32.ofInt xv)), (2, .int (Int32.ofInt yv)), (3, .int (Int32.ofInt bv)), (4, .int (Int32.ofInt vv))] [.int (Int32.ofInt e1008)] s1007
      refine d_br (bo_eq _ _) bx_eq (fun k ws X h1 h2 => z_if_eq X (t := 97) rfl (by decide) hrs1007 h1 h2) (fun g1009 => ?_) (fun g1009 => ?_)
      ·
        refine d_lvs (lv := [(0, .ref (A 179)), (1, .int (Int32.ofInt xv)), (2, .int (Int32.ofInt yv)), (3, .int (Int32.ofInt bv)), (4, .int (Int32.ofInt vv))]) (List.forall_mem_cons.mpr ⟨(List.Mem.head _), (List.forall_mem_cons.mpr ⟨(List.Mem.tail _ (List.Mem.head _)), (List.forall_mem_cons.mpr ⟨(List.Mem.tail _ (List.Mem.tail _ (List.Mem.head _))), (List.forall_mem_cons.mpr ⟨(List.Mem.tail _ (List.Mem.tail _ (List.Mem.tail _ (List.Mem.head _)))), (List.forall_mem_cons.mpr ⟨(List.Mem.tail _ (List.Mem.tail _ (List.Mem.tail _ (List.Mem.tail _ (List.Mem.head _))))), (fun q h => absurd h List.not_mem_nil)⟩)⟩)⟩)⟩)⟩) ?_
        exact kx _ xv yv bv vv Is1007 Gs1007 (by first | exact ⟨oq_2954f754 ws1007_77 ws1005_77 hi.1, oq_9d983156 ws1007_77 ws1005_77 hi.2.1 hi.1, oq_d0d2714e ws1007_75 hi.2.2.1 ws1005_75, oq_c694edf3 ws1007_79 ws1005_79 b1003.1 hi.2.2.2.1 b3.1, hi.2.2.2.2.1, hi.2.2.2.2.2.1, And.intro (hi.2.2.2.2.2.2.1.1) (hi.2.2.2.2.2.2.1.2), And.intro (hi.2.2.2.2.2.2.2.1.1) (hi.2.2.2.2.2.2.2.1.2), hi.2.2.2.2.2.2.2.2⟩ | omega)
      ·
        refine d_lift (fun k ws X h => z_bipush X rfl h) (d_lift (fun k ws X h => z_load X (x := vv) rfl (List.Mem.tail _ (List.Mem.tail _ (List.Mem.tail _ (List.Mem.tail _ (List.Mem.head _))))) h) (d_lift (fun k ws X h => z_mul X rfl h) (d_lift (fun k ws X h => z_aload_n X (x := A 179) rfl (List.Mem.head _) h) (d_lift (fun k ws X h => z_aload_n X (x := A 179) rfl (List.Mem.head _) h) (d_getI 179 rfl (by decide) rfl rfl (hti 77 (by decide)) ?_)))))
        have b1010 := bi_77 Is1007
        refine d_callV 179 (As := [.int (Int32.ofInt (iI s1007 77))]) (st := [.int (Int32.ofInt (10 * vv))]) rfl rfl (by decide) rfl (d_byteAt G Is1007 (by first | exact ⟨b1010.1, oq_5a8480eb b1010.2⟩ | omega) (fun q h => hti q ((by decide : ∀ q ∈ ([75, 81] : List Nat), q ∈ ([77, 75, 78, 79, 81] : List Nat)) q h)) (fun a h => hta a ((by decide : ∀ q ∈ ([157, 158] : List Nat), q ∈ ([157, 158, 161] : List Nat)) a h))) ⟨rfl, rfl⟩ ⟨(show 6 + 1 ≤ 8 from oq_42eed11c), (show 8 + (mNL (miB 192) + 11) + 100 ≤ 141 from oq_dc08f8ae)⟩ (Nat.le_of_ble_eq_true rfl) (by decide) (by decide) (fun ee s1011 hq => ?_) (fun vv s1011 hq => ?_)
        · obtain ⟨Is1011, Fs1011, e1012, hv, hrs1011, hps1011⟩ := hq; cases hv
        obtain ⟨Is1011, Fs1011, e1012, hv, hrs1011, hps1011⟩ := hq
        cases hv
        have Gs1011 := fm_tq Gs1007 Fs1011 rfl rfl
        have ws1011_77 : iI s1011 77 = iI s1007 77 := fm_iq Fs1011 rfl
        have ws1011_75 : iI s1011 75 = iI s1007 75 := fm_iq Fs1011 rfl
        have ws1011_79 : iI s1011 79 = iI s1007 79 := fm_iq Fs1011 rfl
        show DS l s0 D A dT 196 (rmN 196) [77, 79, 80] [] (T) Q (T) 62 [(0, .ref (A 179)), (1, .int (Int32.ofInt xv)), (2, .int (Int32.ofInt yv)), (3, .int (Int32.ofInt bv)), (4, .int (Int32.ofInt vv))] [.int (Int32.ofInt e1012), .int (Int32.ofInt (10 * vv))] s1011
        refine d_lift (fun k ws X h => z_add X rfl h) (d_lift (fun k ws X h => z_bipush X rfl h) (d_lift (fun k ws X h => z_sub X rfl h) (d_any (fun y1013 hy1013 => ?_))))
        refine d_lift (fun k ws X h => z_store X (lv' := [(4, .int (Int32.ofInt y1013)), (0, .ref (A 179)), (1, .int (Int32.ofInt xv)), (2, .int (Int32.ofInt yv)), (3, .int (Int32.ofInt bv))]) rfl (by decide) (fun _ h => h) h) (d_lift (fun k ws X h => z_load X (x := y1013) rfl (List.Mem.head _) h) (d_lift (fun k ws X h => z_ldc X rfl h) (d_br (bo_le _ _) bx_le (fun k ws X h1 h2 => z_icmp_le X (t := 80) rfl (by decide) hy1013 (by decide) h1 h2) (fun g1014 => ?_) (fun g1014 => ?_))))
        ·
          refine d_lift (fun k ws X h => z_load X (x := y1013) rfl (List.Mem.head _) h) (d_lift (fun k ws X h => z_store X (lv' := [(4, .int (Int32.ofInt y1013)), (0, .ref (A 179)), (1, .int (Int32.ofInt xv)), (2, .int (Int32.ofInt yv)), (3, .int (Int32.ofInt bv))]) rfl (by decide) (fun _ h => h) h) (d_lift (fun k ws X h => z_aload_n X (x := A 179) rfl (List.Mem.tail _ (List.Mem.head _)) h) (d_lift (fun k ws X h => w_dup X.1 (ax_d X (show cdA 196 85 = some (.dup, 1, 0, 0, 0) from rfl)) rfl h) (d_getI 179 rfl (by decide) rfl rfl (hti 77 (by decide)) ?_))))
          have b1015 := bi_77 Is1011
          refine d_lift (fun k ws X h => z_const X rfl h) (d_lift (fun k ws X h => z_add X rfl h) (d_putI 179 rfl (by decide) rfl rfl (by decide) rfl rfl rfl (show 77 ∈ _ by decide) (show (0 : Int) ≤ ((iI s1011 77) + 1) ∧ ((iI s1011 77) + 1) ≤ 400 by first | exact ⟨oq_54f49eb5 b1015.1, oq_f45fb0af ws1011_77 g1009 ws1007_77 hps1007 ws1005_77 hps1005 b1002.2⟩ | omega) ⟨by first | exact oq_74de1e16 b1015.1 | omega, by first | exact oq_964ce197 b1015.2 | omega⟩ (d_mono (T' := T) (fun _ h => Or.inr h) (fun _ _ h => h) (ds_gen (fun s1016 hs1016 => ?_)))))
          have Is1016 : Bd s1016 := eqB hs1016 (bd_I Is1011 (show (0 : Int) ≤ ((iI s1011 77) + 1) ∧ ((iI s1011 77) + 1) ≤ 400 by first | exact ⟨oq_54f49eb5 b1015.1, oq_f45fb0af ws1011_77 g1009 ws1007_77 hps1007 ws1005_77 hps1005 b1002.2⟩ | omega) ⟨by first | exact oq_74de1e16 b1015.1 | omega, by first | exact oq_964ce197 b1015.2 | omega⟩)
          have Fs1016 := eqF hs1016 (fm_I Gs1011 (inl_ok (a := 77) rfl))
          have vs1016 : iI s1016 77 = ((iI s1011 77) + 1) := eqI hs1016 (iI_u ⟨by first | exact oq_74de1e16 b1015.1 | omega, by first | exact oq_964ce197 b1015.2 | omega⟩)
          have ws1016_75 : iI s1016 75 = iI s1011 75 := eqI hs1016 rfl
          have ws1016_79 : iI s1016 79 = iI s1011 79 := eqI hs1016 rfl
          refine d_lift (fun k ws X h => z_goto X (t := 35) rfl (by decide) h) (d_lvs (lv := [(0, .ref (A 179)), (1, .int (Int32.ofInt xv)), (2, .int (Int32.ofInt yv)), (3, .int (Int32.ofInt bv)), (4, .int (Int32.ofInt y1013))]) (List.forall_mem_cons.mpr ⟨(List.Mem.tail _ (List.Mem.head _)), (List.forall_mem_cons.mpr ⟨(List.Mem.tail _ (List.Mem.tail _ (List.Mem.head _))), (List.forall_mem_cons.mpr ⟨(List.Mem.tail _ (List.Mem.tail _ (List.Mem.tail _ (List.Mem.head _)))), (List.forall_mem_cons.mpr ⟨(List.Mem.tail _ (List.Mem.tail _ (List.Mem.tail _ (List.Mem.tail _ (List.Mem.head _))))), (List.forall_mem_cons.mpr ⟨(List.Mem.head _), (fun q h => absurd h List.not_mem_nil)⟩)⟩)⟩)⟩)⟩) ?_)
          exact ih _ xv yv bv y1013 Is1016 Fs1016 (by first | exact ⟨oq_09a0992e vs1016 hi.1 ws1011_77 ws1005_77 ws1007_77, oq_f92305f6 vs1016 ws1011_77 hps1011 g1009 ws1007_75 ws1007_77 hps1007 ws1005_75 ws1005_77 hps1005 hi.2.2.1, oq_b4d295d9 ws1016_75 hi.2.2.1 ws1011_75 ws1007_75 ws1005_75, oq_3bb1476c ws1016_79 ws1011_79 ws1007_79 ws1005_79 b1003.1 hi.2.2.2.1 b3.1, hi.2.2.2.2.1, hi.2.2.2.2.2.1, And.intro (hi.2.2.2.2.2.2.1.1) (hi.2.2.2.2.2.2.1.2), And.intro (hy1013.1) (hy1013.2), g1014⟩ | omega) (by first | exact qk_me hm (oq_7fe4a191 ws1016_75 vs1016 ws1011_75 ws1011_77 ws1007_75 ws1007_77 ws1005_75 ws1005_77) (oq_ff13add5 g1009 hps1007 hps1005) | omega) kx
        ·
          refine d_lift (fun k ws X h => z_ldc X rfl h) (d_lift (fun k ws X h => z_goto X (t := 82) rfl (by decide) h) (d_lift (fun k ws X h => z_store X (lv' := [(4, .int (Int32.ofInt 100000)), (0, .ref (A 179)), (1, .int (Int32.ofInt xv)), (2, .int (Int32.ofInt yv)), (3, .int (Int32.ofInt bv))]) rfl (by decide) (fun _ h => h) h) (d_lift (fun k ws X h => z_aload_n X (x := A 179) rfl (List.Mem.tail _ (List.Mem.head _)) h) (d_lift (fun k ws X h => w_dup X.1 (ax_d X (show cdA 196 85 = some (.dup, 1, 0, 0, 0) from rfl)) rfl h) (d_getI 179 rfl (by decide) rfl rfl (hti 77 (by decide)) ?_)))))
          have b1017 := bi_77 Is1011
          refine d_lift (fun k ws X h => z_const X rfl h) (d_lift (fun k ws X h => z_add X rfl h) (d_putI 179 rfl (by decide) rfl rfl (by decide) rfl rfl rfl (show 77 ∈ _ by decide) (show (0 : Int) ≤ ((iI s1011 77) + 1) ∧ ((iI s1011 77) + 1) ≤ 400 by first | exact ⟨oq_54f49eb5 b1017.1, oq_f45fb0af ws1011_77 g1009 ws1007_77 hps1007 ws1005_77 hps1005 b1002.2⟩ | omega) ⟨by first | exact oq_74de1e16 b1017.1 | omega, by first | exact oq_964ce197 b1017.2 | omega⟩ (d_mono (T' := T) (fun _ h => Or.inr h) (fun _ _ h => h) (ds_gen (fun s1018 hs1018 => ?_)))))
          have Is1018 : Bd s1018 := eqB hs1018 (bd_I Is1011 (show (0 : Int) ≤ ((iI s1011 77) + 1) ∧ ((iI s1011 77) + 1) ≤ 400 by first | exact ⟨oq_54f49eb5 b1017.1, oq_f45fb0af ws1011_77 g1009 ws1007_77 hps1007 ws1005_77 hps1005 b1002.2⟩ | omega) ⟨by first | exact oq_74de1e16 b1017.1 | omega, by first | exact oq_964ce197 b1017.2 | omega⟩)
          have Fs1018 := eqF hs1018 (fm_I Gs1011 (inl_ok (a := 77) rfl))
          have vs1018 : iI s1018 77 = ((iI s1011 77) + 1) := eqI hs1018 (iI_u ⟨by first | exact oq_74de1e16 b1017.1 | omega, by first | exact oq_964ce197 b1017.2 | omega⟩)
          have ws1018_75 : iI s1018 75 = iI s1011 75 := eqI hs1018 rfl
          have ws1018_79 : iI s1018 79 = iI s1011 79 := eqI hs1018 rfl
          refine d_lift (fun k ws X h => z_goto X (t := 35) rfl (by decide) h) (d_lvs (lv := [(0, .ref (A 179)), (1, .int (Int32.ofInt xv)), (2, .int (Int32.ofInt yv)), (3, .int (Int32.ofInt bv)), (4, .int (Int32.ofInt 100000))]) (List.forall_mem_cons.mpr ⟨(List.Mem.tail _ (List.Mem.head _)), (List.forall_mem_cons.mpr ⟨(List.Mem.tail _ (List.Mem.tail _ (List.Mem.head _))), (List.forall_mem_cons.mpr ⟨(List.Mem.tail _ (List.Mem.tail _ (List.Mem.tail _ (List.Mem.head _)))), (List.forall_mem_cons.mpr ⟨(List.Mem.tail _ (List.Mem.tail _ (List.Mem.tail _ (List.Mem.tail _ (List.Mem.head _))))), (List.forall_mem_cons.mpr ⟨(List.Mem.head _), (fun q h => absurd h List.not_mem_nil)⟩)⟩)⟩)⟩)⟩) ?_)
          exact ih _ xv yv bv 100000 Is1018 Fs1018 (by first | exact ⟨oq_09a0992e vs1018 hi.1 ws1011_77 ws1005_77 ws1007_77, oq_f92305f6 vs1018 ws1011_77 hps1011 g1009 ws1007_75 ws1007_77 hps1007 ws1005_75 ws1005_77 hps1005 hi.2.2.1, oq_b4d295d9 ws1018_75 hi.2.2.1 ws1011_75 ws1007_75 ws1005_75, oq_3bb1476c ws1018_79 ws1011_79 ws1007_79 ws1005_79 b1003.1 hi.2.2.2.1 b3.1, hi.2.2.2.2.1, hi.2.2.2.2.2.1, And.intro (hi.2.2.2.2.2.2.1.1) (hi.2.2.2.2.2.2.1.2), And.intro (by decide) (by decide), by decide⟩ | omega) (by first | exact qk_me hm (oq_7fe4a191 ws1018_75 vs1018 ws1011_75 ws1011_77 ws1007_75 ws1007_77 ws1005_75 ws1005_77) (oq_ff13add5 g1009 hps1007 hps1005) | omega) kx
  refine d_lift (fun k ws X h => z_aload_n X (x := A 179) rfl (List.Mem.head _) h) (d_callV 179 (As := []) (st := []) rfl rfl (by decide) rfl (d_blanks G I (by first | exact p2 | omega) (fun q h => hti q ((by decide : ∀ q ∈ ([77, 75, 78, 79, 81] : List Nat), q ∈ ([77, 75, 78, 79, 81] : List Nat)) q h)) (fun a h => hta a ((by decide : ∀ q ∈ ([157, 158, 161] : List Nat), q ∈ ([157, 158, 161] : List Nat)) a h))) ⟨rfl, rfl⟩ ⟨(show 7 + 1 ≤ 8 from oq_519c1fd2), (show 8 + (mNL (miB 193) + 11) + 121 ≤ 141 from oq_67025191)⟩ (Nat.le_of_ble_eq_true rfl) (by decide) (by decide) (fun ee s4 hq => ?_) (fun vv s4 hq => ?_))
  · obtain ⟨Is4, Fs4, hv, hps4⟩ := hq; cases hv
  obtain ⟨Is4, Fs4, hv, hps4⟩ := hq
  have hps4p := hps4.1
  cases hv
  have Gs4 := fm_tq F Fs4 rfl rfl
  have b6 := bi_77 Is4
  have ws4_75 : iI s4 75 = iI s 75 := fm_iq Fs4 rfl
  have ws4_79 : iI s4 79 = iI s 79 := fm_iq Fs4 rfl
  show DS l s0 D A dT 196 (rmN 196) [77, 79, 80] [] (T) Q (T) 4 [(0, .ref (A 179)), (1, .int (Int32.ofInt x)), (2, .int (Int32.ofInt y))] [] s4
  refine d_lift (fun k ws X h => z_aload_n X (x := A 179) rfl (List.Mem.head _) h) (d_getI 179 rfl (by decide) rfl rfl (hti 77 (by decide)) ?_)
  have b7 := bi_77 Is4
  refine d_lift (fun k ws X h => z_store_n X (lv' := [(3, .int (Int32.ofInt (iI s4 77))), (0, .ref (A 179)), (1, .int (Int32.ofInt x)), (2, .int (Int32.ofInt y))]) rfl (by decide) (fun _ h => h) h) (d_lift (fun k ws X h => z_const X rfl h) (d_lift (fun k ws X h => z_store X (lv' := [(4, .int (Int32.ofInt 0)), (3, .int (Int32.ofInt (iI s4 77))), (0, .ref (A 179)), (1, .int (Int32.ofInt x)), (2, .int (Int32.ofInt y))]) rfl (by decide) (fun _ h => h) h) (d_lift (fun k ws X h => z_aload_n X (x := A 179) rfl (List.Mem.tail _ (List.Mem.tail _ (List.Mem.head _))) h) (d_lift (fun k ws X h => z_aload_n X (x := A 179) rfl (List.Mem.tail _ (List.Mem.tail _ (List.Mem.head _))) h) (d_getI 179 rfl (by decide) rfl rfl (hti 77 (by decide)) ?_)))))
  have b8 := bi_77 Is4
  refine d_callV 179 (As := [.int (Int32.ofInt (iI s4 77))]) (st := []) rfl rfl (by decide) rfl (d_byteAt G Is4 (by first | exact ⟨b8.1, oq_5a8480eb b8.2⟩ | omega) (fun q h => hti q ((by decide : ∀ q ∈ ([75, 81] : List Nat), q ∈ ([77, 75, 78, 79, 81] : List Nat)) q h)) (fun a h => hta a ((by decide : ∀ q ∈ ([157, 158] : List Nat), q ∈ ([157, 158, 161] : List Nat)) a h))) ⟨rfl, rfl⟩ ⟨(show 6 + 1 ≤ 8 from oq_42eed11c), (show 8 + (mNL (miB 192) + 11) + 100 ≤ 141 from oq_dc08f8ae)⟩ (Nat.le_of_ble_eq_true rfl) (by decide) (by decide) (fun ee s9 hq => ?_) (fun vv s9 hq => ?_)
  · obtain ⟨Is9, Fs9, e10, hv, hrs9, hps9⟩ := hq; cases hv
  obtain ⟨Is9, Fs9, e10, hv, hrs9, hps9⟩ := hq
  cases hv
  have Gs9 := fm_tq Gs4 Fs9 rfl rfl
  have ws9_77 : iI s9 77 = iI s4 77 := fm_iq Fs9 rfl
  have ws9_75 : iI s9 75 = iI s4 75 := fm_iq Fs9 rfl
  have ws9_79 : iI s9 79 = iI s4 79 := fm_iq Fs9 rfl
  show DS l s0 D A dT 196 (rmN 196) [77, 79, 80] [] (T) Q (T) 20 [(4, .int (Int32.ofInt 0)), (3, .int (Int32.ofInt (iI s4 77))), (0, .ref (A 179)), (1, .int (Int32.ofInt x)), (2, .int (Int32.ofInt y))] [.int (Int32.ofInt e10)] s9
  refine d_callT (As := [.int (Int32.ofInt e10)]) (st := []) rfl rfl (d_isDigit G Is9 (by first | exact ⟨hrs9.1, hrs9.2⟩ | omega) (fun q h => hti q ((by decide : ∀ q ∈ ([] : List Nat), q ∈ ([77, 75, 78, 79, 81] : List Nat)) q h)) (fun a h => hta a ((by decide : ∀ q ∈ ([] : List Nat), q ∈ ([157, 158, 161] : List Nat)) a h))) ⟨rfl, rfl⟩ ⟨(show 6 + 1 ≤ 8 from oq_42eed11c), (show 8 + (mNL (miB 195) + 11) + 100 ≤ 141 from oq_4c2c9485)⟩ (Nat.le_of_ble_eq_true rfl) (by decide) (by decide) (fun ee s11 hq => ?_) (fun vv s11 hq => ?_)
  · obtain ⟨Is11, Fs11, e12, hv, hrs11, hps11⟩ := hq; cases hv
  obtain ⟨Is11, Fs11, e12, hv, hrs11, hps11⟩ := hq
  cases hv
  have Gs11 := fm_tq Gs9 Fs11 rfl rfl
  have ws11_77 : iI s11 77 = iI s9 77 := fm_iq Fs11 rfl
  have ws11_75 : iI s11 75 = iI s9 75 := fm_iq Fs11 rfl
  have ws11_79 : iI s11 79 = iI s9 79 := fm_iq Fs11 rfl
  show DS l s0 D A dT 196 (rmN 196) [77, 79, 80] [] (T) Q (T) 23 [(4, .int (Int32.ofInt 0)), (3, .int (Int32.ofInt (iI s4 77))), (0, .ref (A 179)), (1, .int (Int32.ofInt x)), (2, .int (Int32.ofInt y))] [.int (Int32.ofInt e12)] s11
  refine d_br (bo_ne _ _) bx_ne (fun k ws X h1 h2 => z_if_ne X (t := 35) rfl (by decide) hrs11 h1 h2) (fun g13 => ?_) (fun g13 => ?_)
  ·
    refine d_lvs (lv := [(0, .ref (A 179)), (1, .int (Int32.ofInt x)), (2, .int (Int32.ofInt y)), (3, .int (Int32.ofInt (iI s4 77))), (4, .int (Int32.ofInt 0))]) (List.forall_mem_cons.mpr ⟨(List.Mem.tail _ (List.Mem.tail _ (List.Mem.head _))), (List.forall_mem_cons.mpr ⟨(List.Mem.tail _ (List.Mem.tail _ (List.Mem.tail _ (List.Mem.head _)))), (List.forall_mem_cons.mpr ⟨(List.Mem.tail _ (List.Mem.tail _ (List.Mem.tail _ (List.Mem.tail _ (List.Mem.head _))))), (List.forall_mem_cons.mpr ⟨(List.Mem.tail _ (List.Mem.head _)), (List.forall_mem_cons.mpr ⟨(List.Mem.head _), (fun q h => absurd h List.not_mem_nil)⟩)⟩)⟩)⟩)⟩) (L35 ((iI s11 75 - iI s11 77 : Int).toNat + 1) s11 x y (iI s4 77) 0 Is11 Gs11 (by first | exact ⟨oq_2954f754 ws11_77 ws9_77 hps4.1, oq_821adba3 g13 ws11_77 hps11 ws9_77 hps9 ws4_75, oq_d0d2714e ws11_75 ws4_75 ws9_75, oq_00dd204b ws11_79 ws9_79 ws4_79 b3.1, by decide, by decide, And.intro (b8.1) (b8.2), And.intro (by decide) (by decide), by decide⟩ | omega) (Nat.lt_succ_self _) ?_)
    intro s14 x15 x16 x17 x18 Is14 Fs14 hs14
    have b19 := bi_77 Is14
    have b20 := bi_75 Is14
    have b21 := bi_79 Is14
    refine d_lift (fun k ws X h => z_load X (x := x18) rfl (List.Mem.tail _ (List.Mem.tail _ (List.Mem.tail _ (List.Mem.tail _ (List.Mem.head _))))) h) (d_lift (fun k ws X h => z_load_n X (x := x15) rfl (List.Mem.tail _ (List.Mem.head _)) h) (d_lift (fun k ws X h => z_load_n X (x := x16) rfl (List.Mem.tail _ (List.Mem.tail _ (List.Mem.head _))) h) (d_callT (As := [.int (Int32.ofInt x18), .int (Int32.ofInt x15), .int (Int32.ofInt x16)]) (st := []) rfl rfl (d_in G Is14 (by first | exact ⟨hs14.2.2.2.2.2.2.2.1.1, hs14.2.2.2.2.2.2.2.1.2⟩ | omega) (by first | exact ⟨oq_6bc29d15 hs14.2.2.2.2.1 p0.1, oq_60a194f9 hs14.2.2.2.2.1 p0.2⟩ | omega) (by first | exact ⟨oq_6bc29d15 hs14.2.2.2.2.2.1 p1.1, oq_60a194f9 hs14.2.2.2.2.2.1 p1.2⟩ | omega) (fun q h => hti q ((by decide : ∀ q ∈ ([] : List Nat), q ∈ ([77, 75, 78, 79, 81] : List Nat)) q h)) (fun a h => hta a ((by decide : ∀ q ∈ ([] : List Nat), q ∈ ([157, 158, 161] : List Nat)) a h))) ⟨rfl, rfl⟩ ⟨(show 6 + 1 ≤ 8 from oq_42eed11c), (show 8 + (mNL (miB 188) + 11) + 100 ≤ 141 from oq_420db89e)⟩ (Nat.le_of_ble_eq_true rfl) (by decide) (by decide) (fun ee s22 hq => ?_) (fun vv s22 hq => ?_))))
    · obtain ⟨Is22, Fs22, e23, hv, hrs22, hps22⟩ := hq; cases hv
    obtain ⟨Is22, Fs22, e23, hv, hrs22, hps22⟩ := hq
    cases hv
    have Gs22 := fm_tq Fs14 Fs22 rfl rfl
    have ws22_77 : iI s22 77 = iI s14 77 := fm_iq Fs22 rfl
    have ws22_75 : iI s22 75 = iI s14 75 := fm_iq Fs22 rfl
    have ws22_79 : iI s22 79 = iI s14 79 := fm_iq Fs22 rfl
    show DS l s0 D A dT 196 (rmN 196) [77, 79, 80] [] (T) Q (T) 104 [(0, .ref (A 179)), (1, .int (Int32.ofInt x15)), (2, .int (Int32.ofInt x16)), (3, .int (Int32.ofInt x17)), (4, .int (Int32.ofInt x18))] [.int (Int32.ofInt e23)] s22
    refine d_br (bo_ne _ _) bx_ne (fun k ws X h1 h2 => z_if_ne X (t := 113) rfl (by decide) hrs22 h1 h2) (fun g24 => ?_) (fun g24 => ?_)
    ·
      refine d_lift (fun k ws X h => z_load X (x := x18) rfl (List.Mem.tail _ (List.Mem.tail _ (List.Mem.tail _ (List.Mem.tail _ (List.Mem.head _))))) h) ?_
      exact d_iret rfl rfl (Or.inl rfl) rfl (fun _ h => h) (hQ _ _ ⟨Is22, Gs22, x18, rfl, ⟨by first | exact hs14.2.2.2.2.2.2.2.1.1 | omega, by first | exact hs14.2.2.2.2.2.2.2.1.2 | omega⟩, by first | exact ⟨oq_9272904e ws22_77 hs14.1, oq_82a8716b ws22_77 hs14.2.1 g13 hps11 hps9 ws4_75 hps4.1, oq_88e312fc ws22_79 b21.1 hs14.2.2.2.1 b3.1, oq_9d364511 g24 hps22 hs14.2.2.2.2.2.1 hs14.2.2.2.2.1, hs14.2.2.2.2.2.2.2.2⟩ | omega⟩)
    ·
      refine d_lift (fun k ws X h => z_aload_n X (x := A 179) rfl (List.Mem.head _) h) (d_lift (fun k ws X h => z_const X rfl h) (d_lift (fun k ws X h => z_load_n X (x := x17) rfl (List.Mem.tail _ (List.Mem.tail _ (List.Mem.tail _ (List.Mem.head _)))) h) (d_callV 179 (As := [.int (Int32.ofInt 2), .int (Int32.ofInt x17)]) (st := []) rfl rfl (by decide) rfl (d_wrong G Is22 (by first | exact ⟨by decide, by decide⟩ | omega) (by first | exact ⟨oq_ca54ea22 hs14.2.2.2.2.2.2.1.1, hs14.2.2.2.2.2.2.1.2⟩ | omega) (fun q h => hti q ((by decide : ∀ q ∈ ([79] : List Nat), q ∈ ([77, 75, 78, 79, 81] : List Nat)) q h)) (fun a h => hta a ((by decide : ∀ q ∈ ([] : List Nat), q ∈ ([157, 158, 161] : List Nat)) a h))) ⟨rfl, rfl⟩ ⟨(show 6 + 1 ≤ 8 from oq_42eed11c), (show 8 + (mNL (miB 194) + 11) + 100 ≤ 141 from oq_420db89e)⟩ (Nat.le_of_ble_eq_true rfl) (by decide) (by decide) (fun ee s25 hq => ?_) (fun vv s25 hq => ?_))))
      · obtain ⟨Is25, Fs25, hv, hps25⟩ := hq; cases hv
      obtain ⟨Is25, Fs25, hv, hps25⟩ := hq
      cases hv
      have Gs25 := fm_tq Gs22 Fs25 rfl rfl
      have ws25_77 : iI s25 77 = iI s22 77 := fm_iq Fs25 rfl
      have ws25_75 : iI s25 75 = iI s22 75 := fm_iq Fs25 rfl
      have b27 := bi_79 Is25
      show DS l s0 D A dT 196 (rmN 196) [77, 79, 80] [] (T) Q (T) 113 [(0, .ref (A 179)), (1, .int (Int32.ofInt x15)), (2, .int (Int32.ofInt x16)), (3, .int (Int32.ofInt x17)), (4, .int (Int32.ofInt x18))] [] s25
      refine d_lift (fun k ws X h => z_load X (x := x18) rfl (List.Mem.tail _ (List.Mem.tail _ (List.Mem.tail _ (List.Mem.tail _ (List.Mem.head _))))) h) ?_
      exact d_iret rfl rfl (Or.inl rfl) rfl (fun _ h => h) (hQ _ _ ⟨Is25, Gs25, x18, rfl, ⟨by first | exact hs14.2.2.2.2.2.2.2.1.1 | omega, by first | exact hs14.2.2.2.2.2.2.2.1.2 | omega⟩, by first | exact ⟨oq_2954f754 ws25_77 ws22_77 hs14.1, oq_e191e89b ws25_77 ws22_77 hs14.2.1 g13 hps11 hps9 ws4_75 hps4.1, oq_5071f1ab b27.1 hps25, oq_38faa694 b27.1 hps25, hs14.2.2.2.2.2.2.2.2⟩ | omega⟩)
  ·
    refine d_lift (fun k ws X h => z_aload_n X (x := A 179) rfl (List.Mem.tail _ (List.Mem.tail _ (List.Mem.head _))) h) (d_lift (fun k ws X h => z_const X rfl h) (d_lift (fun k ws X h => z_aload_n X (x := A 179) rfl (List.Mem.tail _ (List.Mem.tail _ (List.Mem.head _))) h) (d_getI 179 rfl (by decide) rfl rfl (hti 77 (by decide)) ?_)))
    have b28 := bi_77 Is11
    refine d_callV 179 (As := [.int (Int32.ofInt 1), .int (Int32.ofInt (iI s11 77))]) (st := []) rfl rfl (by decide) rfl (d_wrong G Is11 (by first | exact ⟨by decide, by decide⟩ | omega) (by first | exact ⟨oq_ca54ea22 b28.1, b28.2⟩ | omega) (fun q h => hti q ((by decide : ∀ q ∈ ([79] : List Nat), q ∈ ([77, 75, 78, 79, 81] : List Nat)) q h)) (fun a h => hta a ((by decide : ∀ q ∈ ([] : List Nat), q ∈ ([157, 158, 161] : List Nat)) a h))) ⟨rfl, rfl⟩ ⟨(show 6 + 1 ≤ 8 from oq_42eed11c), (show 8 + (mNL (miB 194) + 11) + 100 ≤ 141 from oq_420db89e)⟩ (Nat.le_of_ble_eq_true rfl) (by decide) (by decide) (fun ee s29 hq => ?_) (fun vv s29 hq => ?_)
    · obtain ⟨Is29, Fs29, hv, hps29⟩ := hq; cases hv
    obtain ⟨Is29, Fs29, hv, hps29⟩ := hq
    cases hv
    have Gs29 := fm_tq Gs11 Fs29 rfl rfl
    have ws29_77 : iI s29 77 = iI s11 77 := fm_iq Fs29 rfl
    have ws29_75 : iI s29 75 = iI s11 75 := fm_iq Fs29 rfl
    have b31 := bi_79 Is29
    show DS l s0 D A dT 196 (rmN 196) [77, 79, 80] [] (T) Q (T) 35 [(4, .int (Int32.ofInt 0)), (3, .int (Int32.ofInt (iI s4 77))), (0, .ref (A 179)), (1, .int (Int32.ofInt x)), (2, .int (Int32.ofInt y))] [] s29
    refine d_lvs (lv := [(0, .ref (A 179)), (1, .int (Int32.ofInt x)), (2, .int (Int32.ofInt y)), (3, .int (Int32.ofInt (iI s4 77))), (4, .int (Int32.ofInt 0))]) (List.forall_mem_cons.mpr ⟨(List.Mem.tail _ (List.Mem.tail _ (List.Mem.head _))), (List.forall_mem_cons.mpr ⟨(List.Mem.tail _ (List.Mem.tail _ (List.Mem.tail _ (List.Mem.head _)))), (List.forall_mem_cons.mpr ⟨(List.Mem.tail _ (List.Mem.tail _ (List.Mem.tail _ (List.Mem.tail _ (List.Mem.head _))))), (List.forall_mem_cons.mpr ⟨(List.Mem.tail _ (List.Mem.head _)), (List.forall_mem_cons.mpr ⟨(List.Mem.head _), (fun q h => absurd h List.not_mem_nil)⟩)⟩)⟩)⟩)⟩) (L35 ((iI s29 75 - iI s29 77 : Int).toNat + 1) s29 x y (iI s4 77) 0 Is29 Gs29 (by first | exact ⟨oq_bd4a8eb1 ws29_77 hps4.1 ws11_77 ws9_77, oq_38b7f8bb ws29_77 ws11_77 ws9_77 hps4.2 hps4.1, oq_45b593e3 ws29_75 ws4_75 ws11_75 ws9_75, oq_5071f1ab b31.1 hps29, by decide, by decide, And.intro (b8.1) (b8.2), And.intro (by decide) (by decide), by decide⟩ | omega) (Nat.lt_succ_self _) ?_)
    intro s32 x33 x34 x35 x36 Is32 Fs32 hs32
    have b37 := bi_77 Is32
    have b38 := bi_75 Is32
    have b39 := bi_79 Is32
    refine d_lift (fun k ws X h => z_load X (x := x36) rfl (List.Mem.tail _ (List.Mem.tail _ (List.Mem.tail _ (List.Mem.tail _ (List.Mem.head _))))) h) (d_lift (fun k ws X h => z_load_n X (x := x33) rfl (List.Mem.tail _ (List.Mem.head _)) h) (d_lift (fun k ws X h => z_load_n X (x := x34) rfl (List.Mem.tail _ (List.Mem.tail _ (List.Mem.head _))) h) (d_callT (As := [.int (Int32.ofInt x36), .int (Int32.ofInt x33), .int (Int32.ofInt x34)]) (st := []) rfl rfl (d_in G Is32 (by first | exact ⟨hs32.2.2.2.2.2.2.2.1.1, hs32.2.2.2.2.2.2.2.1.2⟩ | omega) (by first | exact ⟨oq_6bc29d15 hs32.2.2.2.2.1 p0.1, oq_60a194f9 hs32.2.2.2.2.1 p0.2⟩ | omega) (by first | exact ⟨oq_6bc29d15 hs32.2.2.2.2.2.1 p1.1, oq_60a194f9 hs32.2.2.2.2.2.1 p1.2⟩ | omega) (fun q h => hti q ((by decide : ∀ q ∈ ([] : List Nat), q ∈ ([77, 75, 78, 79, 81] : List Nat)) q h)) (fun a h => hta a ((by decide : ∀ q ∈ ([] : List Nat), q ∈ ([157, 158, 161] : List Nat)) a h))) ⟨rfl, rfl⟩ ⟨(show 6 + 1 ≤ 8 from oq_42eed11c), (show 8 + (mNL (miB 188) + 11) + 100 ≤ 141 from oq_420db89e)⟩ (Nat.le_of_ble_eq_true rfl) (by decide) (by decide) (fun ee s40 hq => ?_) (fun vv s40 hq => ?_))))
    · obtain ⟨Is40, Fs40, e41, hv, hrs40, hps40⟩ := hq; cases hv
    obtain ⟨Is40, Fs40, e41, hv, hrs40, hps40⟩ := hq
    cases hv
    have Gs40 := fm_tq Fs32 Fs40 rfl rfl
    have ws40_77 : iI s40 77 = iI s32 77 := fm_iq Fs40 rfl
    have ws40_75 : iI s40 75 = iI s32 75 := fm_iq Fs40 rfl
    have ws40_79 : iI s40 79 = iI s32 79 := fm_iq Fs40 rfl
    show DS l s0 D A dT 196 (rmN 196) [77, 79, 80] [] (T) Q (T) 104 [(0, .ref (A 179)), (1, .int (Int32.ofInt x33)), (2, .int (Int32.ofInt x34)), (3, .int (Int32.ofInt x35)), (4, .int (Int32.ofInt x36))] [.int (Int32.ofInt e41)] s40
    refine d_br (bo_ne _ _) bx_ne (fun k ws X h1 h2 => z_if_ne X (t := 113) rfl (by decide) hrs40 h1 h2) (fun g42 => ?_) (fun g42 => ?_)
    ·
      refine d_lift (fun k ws X h => z_load X (x := x36) rfl (List.Mem.tail _ (List.Mem.tail _ (List.Mem.tail _ (List.Mem.tail _ (List.Mem.head _))))) h) ?_
      exact d_iret rfl rfl (Or.inl rfl) rfl (fun _ h => h) (hQ _ _ ⟨Is40, Gs40, x36, rfl, ⟨by first | exact hs32.2.2.2.2.2.2.2.1.1 | omega, by first | exact hs32.2.2.2.2.2.2.2.1.2 | omega⟩, by first | exact ⟨oq_9272904e ws40_77 hs32.1, oq_8dc46605 ws40_77 hs32.2.1 hs32.1, oq_88e312fc ws40_79 b39.1 hs32.2.2.2.1 b3.1, oq_9d364511 g42 hps40 hs32.2.2.2.2.2.1 hs32.2.2.2.2.1, hs32.2.2.2.2.2.2.2.2⟩ | omega⟩)
    ·
      refine d_lift (fun k ws X h => z_aload_n X (x := A 179) rfl (List.Mem.head _) h) (d_lift (fun k ws X h => z_const X rfl h) (d_lift (fun k ws X h => z_load_n X (x := x35) rfl (List.Mem.tail _ (List.Mem.tail _ (List.Mem.tail _ (List.Mem.head _)))) h) (d_callV 179 (As := [.int (Int32.ofInt 2), .int (Int32.ofInt x35)]) (st := []) rfl rfl (by decide) rfl (d_wrong G Is40 (by first | exact ⟨by decide, by decide⟩ | omega) (by first | exact ⟨oq_ca54ea22 hs32.2.2.2.2.2.2.1.1, hs32.2.2.2.2.2.2.1.2⟩ | omega) (fun q h => hti q ((by decide : ∀ q ∈ ([79] : List Nat), q ∈ ([77, 75, 78, 79, 81] : List Nat)) q h)) (fun a h => hta a ((by decide : ∀ q ∈ ([] : List Nat), q ∈ ([157, 158, 161] : List Nat)) a h))) ⟨rfl, rfl⟩ ⟨(show 6 + 1 ≤ 8 from oq_42eed11c), (show 8 + (mNL (miB 194) + 11) + 100 ≤ 141 from oq_420db89e)⟩ (Nat.le_of_ble_eq_true rfl) (by decide) (by decide) (fun ee s43 hq => ?_) (fun vv s43 hq => ?_))))
      · obtain ⟨Is43, Fs43, hv, hps43⟩ := hq; cases hv
      obtain ⟨Is43, Fs43, hv, hps43⟩ := hq
      cases hv
      have Gs43 := fm_tq Gs40 Fs43 rfl rfl
      have ws43_77 : iI s43 77 = iI s40 77 := fm_iq Fs43 rfl
      have ws43_75 : iI s43 75 = iI s40 75 := fm_iq Fs43 rfl
      have b45 := bi_79 Is43
      show DS l s0 D A dT 196 (rmN 196) [77, 79, 80] [] (T) Q (T) 113 [(0, .ref (A 179)), (1, .int (Int32.ofInt x33)), (2, .int (Int32.ofInt x34)), (3, .int (Int32.ofInt x35)), (4, .int (Int32.ofInt x36))] [] s43
      refine d_lift (fun k ws X h => z_load X (x := x36) rfl (List.Mem.tail _ (List.Mem.tail _ (List.Mem.tail _ (List.Mem.tail _ (List.Mem.head _))))) h) ?_
      exact d_iret rfl rfl (Or.inl rfl) rfl (fun _ h => h) (hQ _ _ ⟨Is43, Gs43, x36, rfl, ⟨by first | exact hs32.2.2.2.2.2.2.2.1.1 | omega, by first | exact hs32.2.2.2.2.2.2.2.1.2 | omega⟩, by first | exact ⟨oq_2954f754 ws43_77 ws40_77 hs32.1, oq_9d983156 ws43_77 ws40_77 hs32.2.1 hs32.1, oq_5071f1ab b45.1 hps43, oq_38faa694 b45.1 hps43, hs32.2.2.2.2.2.2.2.2⟩ | omega⟩)
set_option maxHeartbeats 16000000 in
theorem d_wordHere (G : GX l s0 D tys a0 dT) (I : Bd s) (p0 : iI s 77 ≤ 390) {T : TT} (hti : ∀ q ∈ ([77, 75, 78, 79, 81] : List Nat), T.1 q) (hta : ∀ a ∈ ([157, 158, 161] : List Nat), ∀ j, j < (bA a).2.2 → T.2 a j) : CD l s0 D A dT 201 (rmN 201) [77] [] T (T) [.ref (A 179)] s (fun o t => Bd t ∧ Fm [77] [] s t ∧ ∃ e, o = .inl (some (.int (Int32.ofInt e))) ∧ rng e ∧ (iI s 77 ≤ iI t 77 ∧ (iI t 77 = iI s 77 ∨ iI t 77 ≤ iI s 75) ∧ (e ≠ 0 → iI t 77 < iI s 75))) := by
  refine cd_of G (by decide) (Nat.le_of_ble_eq_true rfl) (fun Q hQ => ?_)
  have I0 := I
  show DS l s0 D A dT 201 (rmN 201) [77] [] (T) Q (T) 0 [(0, .ref (A 179))] [] s
  have F : Fm [77] [] s s := fm_rf _ _ s
  have b1 := bi_77 I
  have b2 := bi_75 I
  have L8 : ∀ (n : Nat) (t : PS) (vv nv : Int), Bd t → Fm [77] [] s t → (iI s 77 ≤ iI t 77 ∧ (iI t 77 = iI s 77 ∨ iI t 77 ≤ iI s 75) ∧ iI t 75 = iI s 75 ∧ rng vv ∧ 0 ≤ nv ∧ nv ≤ 200 ∧ (nv = 0 → vv = 0) ∧ (1 ≤ nv → iI t 77 < iI s 75)) → (200 - nv : Int).toNat < n → (∀ (t' : PS) (vv' nv' : Int), Bd t' → Fm [77] [] s t' → (iI s 77 ≤ iI t' 77 ∧ (iI t' 77 = iI s 77 ∨ iI t' 77 ≤ iI s 75) ∧ iI t' 75 = iI s 75 ∧ rng vv' ∧ 0 ≤ nv' ∧ nv' ≤ 200 ∧ (nv' = 0 → vv' = 0) ∧ (1 ≤ nv' → iI t' 77 < iI s 75)) → DS l s0 D A dT 201 (rmN 201) [77] [] (T) Q (T) 75 [(0, .ref (A 179)), (1, .int (Int32.ofInt vv')), (2, .int (Int32.ofInt nv'))] [] t') → DS l s0 D A dT 201 (rmN 201) [77] [] (T) Q (T) 8 [(0, .ref (A 179)), (1, .int (Int32.ofInt vv)), (2, .int (Int32.ofInt nv))] [] t := by
    intro n
    induction n with
    | zero =>
      intro t vv nv I F hi hm kx
      exact absurd hm (Nat.not_lt_zero _)
    | succ n ih =>
      intro t vv nv I F hi hm kx
      have b1001 := bi_77 I
      have b1002 := bi_75 I
      refine d_lift (fun k ws X h => z_aload_n X (x := A 179) rfl (List.Mem.head _) h) (d_lift (fun k ws X h => z_aload_n X (x := A 179) rfl (List.Mem.head _) h) (d_getI 179 rfl (by decide) rfl rfl (hti 77 (by decide)) ?_))
      have b1003 := bi_77 I
      refine d_lift (fun k ws X h => z_load_n X (x := nv) rfl (List.Mem.tail _ (List.Mem.tail _ (List.Mem.head _))) h) (d_lift (fun k ws X h => z_add X rfl h) (d_callV 179 (As := [.int (Int32.ofInt ((iI t 77) + nv))]) (st := []) rfl rfl (by decide) rfl (d_byteAt G I (by first | exact ⟨oq_d8d6a599 hi.2.2.2.2.1 b1003.1, oq_faec2b3d hi.2.2.2.2.2.1 b1003.2⟩ | omega) (fun q h => hti q ((by decide : ∀ q ∈ ([75, 81] : List Nat), q ∈ ([77, 75, 78, 79, 81] : List Nat)) q h)) (fun a h => hta a ((by decide : ∀ q ∈ ([157, 158] : List Nat), q ∈ ([157, 158, 161] : List Nat)) a h))) ⟨rfl, rfl⟩ ⟨(show 6 + 1 ≤ 8 from oq_42eed11c), (show 8 + (mNL (miB 192) + 11) + 100 ≤ 141 from oq_dc08f8ae)⟩ (Nat.le_of_ble_eq_true rfl) (by decide) (by decide) (fun ee s1004 hq => ?_) (fun vv s1004 hq => ?_)))
      · obtain ⟨Is1004, Fs1004, e1005, hv, hrs1004, hps1004⟩ := hq; cases hv
      obtain ⟨Is1004, Fs1004, e1005, hv, hrs1004, hps1004⟩ := hq
      cases hv
      have Gs1004 := fm_tq F Fs1004 rfl rfl
      have ws1004_77 : iI s1004 77 = iI t 77 := fm_iq Fs1004 rfl
      have ws1004_75 : iI s1004 75 = iI t 75 := fm_iq Fs1004 rfl
      show DS l s0 D A dT 201 (rmN 201) [77] [] (T) Q (T) 18 [(0, .ref (A 179)), (1, .int (Int32.ofInt vv)), (2, .int (Int32.ofInt nv))] [.int (Int32.ofInt e1005)] s1004
      refine d_lift (fun k ws X h => z_bipush X rfl h) (d_br (bo_lt _ _) bx_lt (fun k ws X h1 h2 => z_icmp_lt X (t := 75) rfl (by decide) hrs1004 (by decide) h1 h2) (fun g1006 => ?_) (fun g1006 => ?_))
      ·
        refine d_lvs (lv := [(0, .ref (A 179)), (1, .int (Int32.ofInt vv)), (2, .int (Int32.ofInt nv))]) (List.forall_mem_cons.mpr ⟨(List.Mem.head _), (List.forall_mem_cons.mpr ⟨(List.Mem.tail _ (List.Mem.head _)), (List.forall_mem_cons.mpr ⟨(List.Mem.tail _ (List.Mem.tail _ (List.Mem.head _))), (fun q h => absurd h List.not_mem_nil)⟩)⟩)⟩) ?_
        exact kx _ vv nv Is1004 Gs1004 (by first | exact ⟨oq_9272904e ws1004_77 hi.1, oq_8dc46605 ws1004_77 hi.2.1 hi.1, oq_1aa5be9e ws1004_75 hi.2.2.1, And.intro (hi.2.2.2.1.1) (hi.2.2.2.1.2), hi.2.2.2.2.1, hi.2.2.2.2.2.1, hi.2.2.2.2.2.2.1, oq_64f00eb9 ws1004_77 hi.2.2.2.2.2.2.2⟩ | omega)
      ·
        refine d_lift (fun k ws X h => z_aload_n X (x := A 179) rfl (List.Mem.head _) h) (d_lift (fun k ws X h => z_aload_n X (x := A 179) rfl (List.Mem.head _) h) (d_getI 179 rfl (by decide) rfl rfl (hti 77 (by decide)) ?_))
        have b1007 := bi_77 Is1004
        refine d_lift (fun k ws X h => z_load_n X (x := nv) rfl (List.Mem.tail _ (List.Mem.tail _ (List.Mem.head _))) h) (d_lift (fun k ws X h => z_add X rfl h) (d_callV 179 (As := [.int (Int32.ofInt ((iI s1004 77) + nv))]) (st := []) rfl rfl (by decide) rfl (d_byteAt G Is1004 (by first | exact ⟨oq_d8d6a599 hi.2.2.2.2.1 b1007.1, oq_faec2b3d hi.2.2.2.2.2.1 b1007.2⟩ | omega) (fun q h => hti q ((by decide : ∀ q ∈ ([75, 81] : List Nat), q ∈ ([77, 75, 78, 79, 81] : List Nat)) q h)) (fun a h => hta a ((by decide : ∀ q ∈ ([157, 158] : List Nat), q ∈ ([157, 158, 161] : List Nat)) a h))) ⟨rfl, rfl⟩ ⟨(show 6 + 1 ≤ 8 from oq_42eed11c), (show 8 + (mNL (miB 192) + 11) + 100 ≤ 141 from oq_dc08f8ae)⟩ (Nat.le_of_ble_eq_true rfl) (by decide) (by decide) (fun ee s1008 hq => ?_) (fun vv s1008 hq => ?_)))
        · obtain ⟨Is1008, Fs1008, e1009, hv, hrs1008, hps1008⟩ := hq; cases hv
        obtain ⟨Is1008, Fs1008, e1009, hv, hrs1008, hps1008⟩ := hq
        cases hv
        have Gs1008 := fm_tq Gs1004 Fs1008 rfl rfl
        have ws1008_77 : iI s1008 77 = iI s1004 77 := fm_iq Fs1008 rfl
        have ws1008_75 : iI s1008 75 = iI s1004 75 := fm_iq Fs1008 rfl
        show DS l s0 D A dT 201 (rmN 201) [77] [] (T) Q (T) 33 [(0, .ref (A 179)), (1, .int (Int32.ofInt vv)), (2, .int (Int32.ofInt nv))] [.int (Int32.ofInt e1009)] s1008
        refine d_lift (fun k ws X h => z_bipush X rfl h) (d_br (bo_gt _ _) bx_gt (fun k ws X h1 h2 => z_icmp_gt X (t := 75) rfl (by decide) hrs1008 (by decide) h1 h2) (fun g1010 => ?_) (fun g1010 => ?_))
        ·
          refine d_lvs (lv := [(0, .ref (A 179)), (1, .int (Int32.ofInt vv)), (2, .int (Int32.ofInt nv))]) (List.forall_mem_cons.mpr ⟨(List.Mem.head _), (List.forall_mem_cons.mpr ⟨(List.Mem.tail _ (List.Mem.head _)), (List.forall_mem_cons.mpr ⟨(List.Mem.tail _ (List.Mem.tail _ (List.Mem.head _))), (fun q h => absurd h List.not_mem_nil)⟩)⟩)⟩) ?_
          exact kx _ vv nv Is1008 Gs1008 (by first | exact ⟨oq_143762c7 ws1008_77 hi.1 ws1004_77, oq_cd0949b0 g1010 ws1008_77 hps1008 ws1004_75 hi.2.2.2.2.1 hi.2.2.1, oq_d0d2714e ws1008_75 hi.2.2.1 ws1004_75, And.intro (hi.2.2.2.1.1) (hi.2.2.2.1.2), hi.2.2.2.2.1, hi.2.2.2.2.2.1, hi.2.2.2.2.2.2.1, oq_1863856d g1010 ws1008_77 hps1008 ws1004_75 hi.2.2.1⟩ | omega)
        ·
          refine d_lift (fun k ws X h => z_load_n X (x := nv) rfl (List.Mem.tail _ (List.Mem.tail _ (List.Mem.head _))) h) (d_lift (fun k ws X h => z_bipush X rfl h) (d_br (bo_ge _ _) bx_ge (fun k ws X h1 h2 => z_icmp_ge X (t := 67) rfl (by decide) ⟨by first | exact oq_fa4e5087 hi.2.2.2.2.1 | omega, by first | exact oq_52af2b96 hi.2.2.2.2.2.1 | omega⟩ (by decide) h1 h2) (fun g1011 => ?_) (fun g1011 => ?_)))
          ·
            refine d_lift (fun k ws X h => z_load_n X (x := vv) rfl (List.Mem.tail _ (List.Mem.head _)) h) (d_lift (fun k ws X h => z_store_n X (lv' := [(1, .int (Int32.ofInt vv)), (0, .ref (A 179)), (2, .int (Int32.ofInt nv))]) rfl (by decide) (fun _ h => h) h) (d_lift (fun k ws X h => z_inc X (x := nv) (lv' := [(2, .int (Int32.ofInt (nv + 1))), (1, .int (Int32.ofInt vv)), (0, .ref (A 179))]) rfl (by decide) (List.Mem.tail _ (List.Mem.tail _ (List.Mem.head _))) (fun _ h => h) h) (d_lift (fun k ws X h => z_goto X (t := 8) rfl (by decide) h) (d_lvs (lv := [(0, .ref (A 179)), (1, .int (Int32.ofInt vv)), (2, .int (Int32.ofInt (nv + 1)))]) (List.forall_mem_cons.mpr ⟨(List.Mem.tail _ (List.Mem.tail _ (List.Mem.head _))), (List.forall_mem_cons.mpr ⟨(List.Mem.tail _ (List.Mem.head _)), (List.forall_mem_cons.mpr ⟨(List.Mem.head _), (fun q h => absurd h List.not_mem_nil)⟩)⟩)⟩) ?_))))
            exact ih _ vv (nv + 1) Is1008 Gs1008 (by first | exact ⟨oq_143762c7 ws1008_77 hi.1 ws1004_77, oq_8987532c g1011 ws1008_77 g1006 ws1004_77 hps1004 hi.2.2.1, oq_d0d2714e ws1008_75 hi.2.2.1 ws1004_75, And.intro (hi.2.2.2.1.1) (hi.2.2.2.1.2), oq_ef1a1f20 g1011, oq_46d7741e hps1008 b1007.1 g1006 ws1004_75 ws1004_77 hps1004 b1002.2, oq_d8509bc0 g1011, oq_810f8ff6 g1011 ws1008_77 g1006 ws1004_77 hps1004 hi.2.2.1⟩ | omega) (by first | exact qk_me hm (by decide) (oq_4b400f0f hps1008 b1007.1 g1006 ws1004_75 ws1004_77 hps1004 b1002.2) | omega) kx
          ·
            refine d_lift (fun k ws X h => z_bipush X rfl h) (d_lift (fun k ws X h => z_load_n X (x := vv) rfl (List.Mem.tail _ (List.Mem.head _)) h) (d_lift (fun k ws X h => z_mul X rfl h) (d_lift (fun k ws X h => z_aload_n X (x := A 179) rfl (List.Mem.head _) h) (d_lift (fun k ws X h => z_aload_n X (x := A 179) rfl (List.Mem.head _) h) (d_getI 179 rfl (by decide) rfl rfl (hti 77 (by decide)) ?_)))))
            have b1012 := bi_77 Is1008
            refine d_lift (fun k ws X h => z_load_n X (x := nv) rfl (List.Mem.tail _ (List.Mem.tail _ (List.Mem.head _))) h) (d_lift (fun k ws X h => z_add X rfl h) (d_callV 179 (As := [.int (Int32.ofInt ((iI s1008 77) + nv))]) (st := [.int (Int32.ofInt (27 * vv))]) rfl rfl (by decide) rfl (d_byteAt G Is1008 (by first | exact ⟨oq_d8d6a599 hi.2.2.2.2.1 b1012.1, oq_0835e488 b1012.2 g1011⟩ | omega) (fun q h => hti q ((by decide : ∀ q ∈ ([75, 81] : List Nat), q ∈ ([77, 75, 78, 79, 81] : List Nat)) q h)) (fun a h => hta a ((by decide : ∀ q ∈ ([157, 158] : List Nat), q ∈ ([157, 158, 161] : List Nat)) a h))) ⟨rfl, rfl⟩ ⟨(show 6 + 1 ≤ 8 from oq_42eed11c), (show 8 + (mNL (miB 192) + 11) + 100 ≤ 141 from oq_dc08f8ae)⟩ (Nat.le_of_ble_eq_true rfl) (by decide) (by decide) (fun ee s1013 hq => ?_) (fun vv s1013 hq => ?_)))
            · obtain ⟨Is1013, Fs1013, e1014, hv, hrs1013, hps1013⟩ := hq; cases hv
            obtain ⟨Is1013, Fs1013, e1014, hv, hrs1013, hps1013⟩ := hq
            cases hv
            have Gs1013 := fm_tq Gs1008 Fs1013 rfl rfl
            have ws1013_77 : iI s1013 77 = iI s1008 77 := fm_iq Fs1013 rfl
            have ws1013_75 : iI s1013 75 = iI s1008 75 := fm_iq Fs1013 rfl
            show DS l s0 D A dT 201 (rmN 201) [77] [] (T) Q (T) 58 [(0, .ref (A 179)), (1, .int (Int32.ofInt vv)), (2, .int (Int32.ofInt nv))] [.int (Int32.ofInt e1014), .int (Int32.ofInt (27 * vv))] s1013
            refine d_lift (fun k ws X h => z_add X rfl h) (d_lift (fun k ws X h => z_bipush X rfl h) (d_lift (fun k ws X h => z_sub X rfl h) (d_lift (fun k ws X h => z_const X rfl h) (d_lift (fun k ws X h => z_add X rfl h) (d_any (fun y1015 hy1015 => ?_))))))
            refine d_lift (fun k ws X h => z_goto X (t := 68) rfl (by decide) h) (d_lift (fun k ws X h => z_store_n X (lv' := [(1, .int (Int32.ofInt y1015)), (0, .ref (A 179)), (2, .int (Int32.ofInt nv))]) rfl (by decide) (fun _ h => h) h) (d_lift (fun k ws X h => z_inc X (x := nv) (lv' := [(2, .int (Int32.ofInt (nv + 1))), (1, .int (Int32.ofInt y1015)), (0, .ref (A 179))]) rfl (by decide) (List.Mem.tail _ (List.Mem.tail _ (List.Mem.head _))) (fun _ h => h) h) (d_lift (fun k ws X h => z_goto X (t := 8) rfl (by decide) h) (d_lvs (lv := [(0, .ref (A 179)), (1, .int (Int32.ofInt y1015)), (2, .int (Int32.ofInt (nv + 1)))]) (List.forall_mem_cons.mpr ⟨(List.Mem.tail _ (List.Mem.tail _ (List.Mem.head _))), (List.forall_mem_cons.mpr ⟨(List.Mem.tail _ (List.Mem.head _)), (List.forall_mem_cons.mpr ⟨(List.Mem.head _), (fun q h => absurd h List.not_mem_nil)⟩)⟩)⟩) ?_))))
            exact ih _ y1015 (nv + 1) Is1013 Gs1013 (by first | exact ⟨oq_bd4a8eb1 ws1013_77 hi.1 ws1008_77 ws1004_77, oq_fbd1858b ws1013_77 ws1008_77 g1006 ws1004_77 hps1004 hi.2.2.2.2.1 hi.2.2.1, oq_45b593e3 ws1013_75 hi.2.2.1 ws1008_75 ws1004_75, And.intro (hy1015.1) (hy1015.2), oq_54f49eb5 hi.2.2.2.2.1, oq_88fcdc91 g1011, oq_b860ca62 hi.2.2.2.2.1, oq_3fd0273b ws1013_77 hps1013 ws1008_75 ws1008_77 hps1008 g1006 ws1004_75 ws1004_77 hps1004 hi.2.2.2.2.1 hi.2.2.1⟩ | omega) (by first | exact qk_me hm (by decide) (oq_8e8d8f07 g1011) | omega) kx
  refine d_lift (fun k ws X h => z_aload_n X (x := A 179) rfl (List.Mem.head _) h) (d_callV 179 (As := []) (st := []) rfl rfl (by decide) rfl (d_blanks G I (by first | exact p0 | omega) (fun q h => hti q ((by decide : ∀ q ∈ ([77, 75, 78, 79, 81] : List Nat), q ∈ ([77, 75, 78, 79, 81] : List Nat)) q h)) (fun a h => hta a ((by decide : ∀ q ∈ ([157, 158, 161] : List Nat), q ∈ ([157, 158, 161] : List Nat)) a h))) ⟨rfl, rfl⟩ ⟨(show 7 + 1 ≤ 8 from oq_519c1fd2), (show 8 + (mNL (miB 193) + 11) + 121 ≤ 141 from oq_67025191)⟩ (Nat.le_of_ble_eq_true rfl) (by decide) (by decide) (fun ee s3 hq => ?_) (fun vv s3 hq => ?_))
  · obtain ⟨Is3, Fs3, hv, hps3⟩ := hq; cases hv
  obtain ⟨Is3, Fs3, hv, hps3⟩ := hq
  have hps3p := hps3.1
  cases hv
  have Gs3 := fm_tq F Fs3 rfl rfl
  have b5 := bi_77 Is3
  have ws3_75 : iI s3 75 = iI s 75 := fm_iq Fs3 rfl
  show DS l s0 D A dT 201 (rmN 201) [77] [] (T) Q (T) 4 [(0, .ref (A 179))] [] s3
  refine d_lift (fun k ws X h => z_const X rfl h) (d_lift (fun k ws X h => z_store_n X (lv' := [(1, .int (Int32.ofInt 0)), (0, .ref (A 179))]) rfl (by decide) (fun _ h => h) h) (d_lift (fun k ws X h => z_const X rfl h) (d_lift (fun k ws X h => z_store_n X (lv' := [(2, .int (Int32.ofInt 0)), (1, .int (Int32.ofInt 0)), (0, .ref (A 179))]) rfl (by decide) (fun _ h => h) h) (d_lvs (lv := [(0, .ref (A 179)), (1, .int (Int32.ofInt 0)), (2, .int (Int32.ofInt 0))]) (List.forall_mem_cons.mpr ⟨(List.Mem.tail _ (List.Mem.tail _ (List.Mem.head _))), (List.forall_mem_cons.mpr ⟨(List.Mem.tail _ (List.Mem.head _)), (List.forall_mem_cons.mpr ⟨(List.Mem.head _), (fun q h => absurd h List.not_mem_nil)⟩)⟩)⟩) (L8 ((200 - 0 : Int).toNat + 1) s3 0 0 Is3 Gs3 (by first | exact ⟨hps3.1, hps3.2, ws3_75, And.intro (by decide) (by decide), by decide, by decide, oq_c2ed65b6, oq_901188d8⟩ | omega) (Nat.lt_succ_self _) ?_)))))
  intro s6 x7 x8 Is6 Fs6 hs6
  have b9 := bi_77 Is6
  have b10 := bi_75 Is6
  refine d_lift (fun k ws X h => z_load_n X (x := x8) rfl (List.Mem.tail _ (List.Mem.tail _ (List.Mem.head _))) h) (d_lift (fun k ws X h => z_bipush X rfl h) ?_)
  have N11 : ∀ e12 : Int, (((x8 ≤ 6) ∧ e12 = x7) ∨ ((6 < x8) ∧ e12 = (-1))) → DS l s0 D A dT 201 (rmN 201) [77] [] (T) Q (T) 86 [(0, .ref (A 179)), (1, .int (Int32.ofInt x7)), (2, .int (Int32.ofInt x8))] [.int (Int32.ofInt e12)] s6 := by
    intro e12 he12
    exact d_iret rfl rfl (Or.inl rfl) rfl (fun _ h => h) (hQ _ _ ⟨Is6, Fs6, e12, rfl, ⟨by first | exact oq_02aa45b0 he12 hs6.2.2.2.1.1 | omega, by first | exact oq_78b72728 he12 hs6.2.2.2.1.2 | omega⟩, by first | exact ⟨hs6.1, hs6.2.1, oq_c9cc9202 he12 hs6.2.2.2.2.2.2.2 hs6.2.2.2.2.2.2.1 hs6.2.2.2.2.1⟩ | omega⟩)
  refine d_br (bo_le _ _) bx_le (fun k ws X h1 h2 => z_icmp_le X (t := 85) rfl (by decide) ⟨by first | exact oq_fa4e5087 hs6.2.2.2.2.1 | omega, by first | exact oq_52af2b96 hs6.2.2.2.2.2.1 | omega⟩ (by decide) h1 h2) (fun g13 => ?_) (fun g13 => ?_)
  ·
    exact d_lift (fun k ws X h => z_load_n X (x := x7) rfl (List.Mem.tail _ (List.Mem.head _)) h) (N11 _ (Or.inl ⟨g13, rfl⟩))
  ·
    exact d_lift (fun k ws X h => z_const X rfl h) (d_lift (fun k ws X h => z_goto X (t := 86) rfl (by decide) h) (N11 _ (Or.inr (⟨g13, rfl⟩))))
set_option maxHeartbeats 16000000 in
theorem d_nameHere (G : GX l s0 D tys a0 dT) (I : Bd s) (p0 : iI s 77 ≤ 390) {T : TT} (hti : ∀ q ∈ ([77, 75, 78, 79, 81] : List Nat), T.1 q) (hta : ∀ a ∈ ([157, 158, 161] : List Nat), ∀ j, j < (bA a).2.2 → T.2 a j) : CD l s0 D A dT 206 (rmN 206) [77] [] T (T) [.ref (A 179)] s (fun o t => Bd t ∧ Fm [77] [] s t ∧ ∃ e, o = .inl (some (.int (Int32.ofInt e))) ∧ rng e ∧ (iI s 77 ≤ iI t 77 ∧ (iI t 77 = iI s 77 ∨ iI t 77 ≤ iI s 75) ∧ -1 ≤ e ∧ e ≤ 6 ∧ (e ≠ -1 → iI t 77 < iI s 75))) := by
  refine cd_of G (by decide) (Nat.le_of_ble_eq_true rfl) (fun Q hQ => ?_)
  have I0 := I
  show DS l s0 D A dT 206 (rmN 206) [77] [] (T) Q (T) 0 [(0, .ref (A 179))] [] s
  have F : Fm [77] [] s s := fm_rf _ _ s
  have b1 := bi_77 I
  have b2 := bi_75 I
  refine d_lift (fun k ws X h => z_aload_n X (x := A 179) rfl (List.Mem.head _) h) (d_callV 179 (As := []) (st := []) rfl rfl (by decide) rfl (d_wordHere G I (by first | exact p0 | omega) (fun q h => hti q ((by decide : ∀ q ∈ ([77, 75, 78, 79, 81] : List Nat), q ∈ ([77, 75, 78, 79, 81] : List Nat)) q h)) (fun a h => hta a ((by decide : ∀ q ∈ ([157, 158, 161] : List Nat), q ∈ ([157, 158, 161] : List Nat)) a h))) ⟨rfl, rfl⟩ ⟨(show 8 + 1 ≤ 9 from oq_67c02c84), (show 8 + (mNL (miB 201) + 11) + 141 ≤ 163 from oq_85724074)⟩ (Nat.le_of_ble_eq_true rfl) (by decide) (by decide) (fun ee s3 hq => ?_) (fun vv s3 hq => ?_))
  · obtain ⟨Is3, Fs3, e4, hv, hrs3, hps3⟩ := hq; cases hv
  obtain ⟨Is3, Fs3, e4, hv, hrs3, hps3⟩ := hq
  have hps3p := hps3.1
  cases hv
  have Gs3 := fm_tq F Fs3 rfl rfl
  have b5 := bi_77 Is3
  have ws3_75 : iI s3 75 = iI s 75 := fm_iq Fs3 rfl
  show DS l s0 D A dT 206 (rmN 206) [77] [] (T) Q (T) 4 [(0, .ref (A 179))] [.int (Int32.ofInt e4)] s3
  refine d_lift (fun k ws X h => z_store_n X (lv' := [(1, .int (Int32.ofInt e4)), (0, .ref (A 179))]) rfl (by decide) (fun _ h => h) h) (d_lift (fun k ws X h => z_load_n X (x := e4) rfl (List.Mem.head _) h) (d_lift (fun k ws X h => z_bipush X rfl h) (d_lift (fun k ws X h => z_const X rfl h) (d_lift (fun k ws X h => z_bipush X rfl h) (d_lift (fun k ws X h => z_bipush X rfl h) (d_lift (fun k ws X h => z_const X rfl h) (d_lift (fun k ws X h => z_const X rfl h) (d_callT (As := [.int (Int32.ofInt 23), .int (Int32.ofInt 1), .int (Int32.ofInt 25), .int (Int32.ofInt 19), .int (Int32.ofInt 0), .int (Int32.ofInt 0)]) (st := [.int (Int32.ofInt e4)]) rfl rfl (d_word G Is3 (by first | exact ⟨by decide, by decide⟩ | omega) (by first | exact ⟨by decide, by decide⟩ | omega) (by first | exact ⟨by decide, by decide⟩ | omega) (by first | exact ⟨by decide, by decide⟩ | omega) (by first | exact ⟨by decide, by decide⟩ | omega) (by first | exact ⟨by decide, by decide⟩ | omega) (fun q h => hti q ((by decide : ∀ q ∈ ([] : List Nat), q ∈ ([77, 75, 78, 79, 81] : List Nat)) q h)) (fun a h => hta a ((by decide : ∀ q ∈ ([] : List Nat), q ∈ ([157, 158, 161] : List Nat)) a h))) ⟨rfl, rfl⟩ ⟨(show 6 + 1 ≤ 9 from oq_4a198724), (show 8 + (mNL (miB 202) + 11) + 100 ≤ 163 from oq_497c6a1a)⟩ (Nat.le_of_ble_eq_true rfl) (by decide) (by decide) (fun ee s6 hq => ?_) (fun vv s6 hq => ?_)))))))))
  · obtain ⟨Is6, Fs6, e7, hv, hrs6, hps6⟩ := hq; cases hv
  obtain ⟨Is6, Fs6, e7, hv, hrs6, hps6⟩ := hq
  cases hv
  have Gs6 := fm_tq Gs3 Fs6 rfl rfl
  have ws6_77 : iI s6 77 = iI s3 77 := fm_iq Fs6 rfl
  have ws6_75 : iI s6 75 = iI s3 75 := fm_iq Fs6 rfl
  show DS l s0 D A dT 206 (rmN 206) [77] [] (T) Q (T) 18 [(1, .int (Int32.ofInt e4)), (0, .ref (A 179))] [.int (Int32.ofInt e7), .int (Int32.ofInt e4)] s6
  refine d_br (bo_ne _ _) bx_ne (fun k ws X h1 h2 => z_icmp_ne X (t := 23) rfl (by decide) hrs3 hrs6 h1 h2) (fun g8 => ?_) (fun g8 => ?_)
  ·
    refine d_lift (fun k ws X h => z_load_n X (x := e4) rfl (List.Mem.head _) h) (d_lift (fun k ws X h => z_const X rfl h) (d_lift (fun k ws X h => z_bipush X rfl h) (d_lift (fun k ws X h => z_bipush X rfl h) (d_lift (fun k ws X h => z_bipush X rfl h) (d_lift (fun k ws X h => z_bipush X rfl h) (d_lift (fun k ws X h => z_const X rfl h) (d_callT (As := [.int (Int32.ofInt 3), .int (Int32.ofInt 18), .int (Int32.ofInt 15), .int (Int32.ofInt 19), .int (Int32.ofInt 19), .int (Int32.ofInt 0)]) (st := [.int (Int32.ofInt e4)]) rfl rfl (d_word G Is6 (by first | exact ⟨by decide, by decide⟩ | omega) (by first | exact ⟨by decide, by decide⟩ | omega) (by first | exact ⟨by decide, by decide⟩ | omega) (by first | exact ⟨by decide, by decide⟩ | omega) (by first | exact ⟨by decide, by decide⟩ | omega) (by first | exact ⟨by decide, by decide⟩ | omega) (fun q h => hti q ((by decide : ∀ q ∈ ([] : List Nat), q ∈ ([77, 75, 78, 79, 81] : List Nat)) q h)) (fun a h => hta a ((by decide : ∀ q ∈ ([] : List Nat), q ∈ ([157, 158, 161] : List Nat)) a h))) ⟨rfl, rfl⟩ ⟨(show 6 + 1 ≤ 9 from oq_4a198724), (show 8 + (mNL (miB 202) + 11) + 100 ≤ 163 from oq_497c6a1a)⟩ (Nat.le_of_ble_eq_true rfl) (by decide) (by decide) (fun ee s9 hq => ?_) (fun vv s9 hq => ?_))))))))
    · obtain ⟨Is9, Fs9, e10, hv, hrs9, hps9⟩ := hq; cases hv
    obtain ⟨Is9, Fs9, e10, hv, hrs9, hps9⟩ := hq
    cases hv
    have Gs9 := fm_tq Gs6 Fs9 rfl rfl
    have ws9_77 : iI s9 77 = iI s6 77 := fm_iq Fs9 rfl
    have ws9_75 : iI s9 75 = iI s6 75 := fm_iq Fs9 rfl
    show DS l s0 D A dT 206 (rmN 206) [77] [] (T) Q (T) 37 [(1, .int (Int32.ofInt e4)), (0, .ref (A 179))] [.int (Int32.ofInt e10), .int (Int32.ofInt e4)] s9
    refine d_br (bo_ne _ _) bx_ne (fun k ws X h1 h2 => z_icmp_ne X (t := 42) rfl (by decide) hrs3 hrs9 h1 h2) (fun g11 => ?_) (fun g11 => ?_)
    ·
      refine d_lift (fun k ws X h => z_load_n X (x := e4) rfl (List.Mem.head _) h) (d_lift (fun k ws X h => z_bipush X rfl h) (d_lift (fun k ws X h => z_bipush X rfl h) (d_lift (fun k ws X h => z_const X rfl h) (d_lift (fun k ws X h => z_bipush X rfl h) (d_lift (fun k ws X h => z_const X rfl h) (d_lift (fun k ws X h => z_const X rfl h) (d_callT (As := [.int (Int32.ofInt 15), .int (Int32.ofInt 22), .int (Int32.ofInt 5), .int (Int32.ofInt 18), .int (Int32.ofInt 0), .int (Int32.ofInt 0)]) (st := [.int (Int32.ofInt e4)]) rfl rfl (d_word G Is9 (by first | exact ⟨by decide, by decide⟩ | omega) (by first | exact ⟨by decide, by decide⟩ | omega) (by first | exact ⟨by decide, by decide⟩ | omega) (by first | exact ⟨by decide, by decide⟩ | omega) (by first | exact ⟨by decide, by decide⟩ | omega) (by first | exact ⟨by decide, by decide⟩ | omega) (fun q h => hti q ((by decide : ∀ q ∈ ([] : List Nat), q ∈ ([77, 75, 78, 79, 81] : List Nat)) q h)) (fun a h => hta a ((by decide : ∀ q ∈ ([] : List Nat), q ∈ ([157, 158, 161] : List Nat)) a h))) ⟨rfl, rfl⟩ ⟨(show 6 + 1 ≤ 9 from oq_4a198724), (show 8 + (mNL (miB 202) + 11) + 100 ≤ 163 from oq_497c6a1a)⟩ (Nat.le_of_ble_eq_true rfl) (by decide) (by decide) (fun ee s12 hq => ?_) (fun vv s12 hq => ?_))))))))
      · obtain ⟨Is12, Fs12, e13, hv, hrs12, hps12⟩ := hq; cases hv
      obtain ⟨Is12, Fs12, e13, hv, hrs12, hps12⟩ := hq
      cases hv
      have Gs12 := fm_tq Gs9 Fs12 rfl rfl
      have ws12_77 : iI s12 77 = iI s9 77 := fm_iq Fs12 rfl
      have ws12_75 : iI s12 75 = iI s9 75 := fm_iq Fs12 rfl
      show DS l s0 D A dT 206 (rmN 206) [77] [] (T) Q (T) 55 [(1, .int (Int32.ofInt e4)), (0, .ref (A 179))] [.int (Int32.ofInt e13), .int (Int32.ofInt e4)] s12
      refine d_br (bo_ne _ _) bx_ne (fun k ws X h1 h2 => z_icmp_ne X (t := 60) rfl (by decide) hrs3 hrs12 h1 h2) (fun g14 => ?_) (fun g14 => ?_)
      ·
        refine d_lift (fun k ws X h => z_load_n X (x := e4) rfl (List.Mem.head _) h) (d_lift (fun k ws X h => z_const X rfl h) (d_lift (fun k ws X h => z_bipush X rfl h) (d_lift (fun k ws X h => z_bipush X rfl h) (d_lift (fun k ws X h => z_bipush X rfl h) (d_lift (fun k ws X h => z_const X rfl h) (d_lift (fun k ws X h => z_const X rfl h) (d_callT (As := [.int (Int32.ofInt 3), .int (Int32.ofInt 12), .int (Int32.ofInt 9), .int (Int32.ofInt 13), .int (Int32.ofInt 2), .int (Int32.ofInt 0)]) (st := [.int (Int32.ofInt e4)]) rfl rfl (d_word G Is12 (by first | exact ⟨by decide, by decide⟩ | omega) (by first | exact ⟨by decide, by decide⟩ | omega) (by first | exact ⟨by decide, by decide⟩ | omega) (by first | exact ⟨by decide, by decide⟩ | omega) (by first | exact ⟨by decide, by decide⟩ | omega) (by first | exact ⟨by decide, by decide⟩ | omega) (fun q h => hti q ((by decide : ∀ q ∈ ([] : List Nat), q ∈ ([77, 75, 78, 79, 81] : List Nat)) q h)) (fun a h => hta a ((by decide : ∀ q ∈ ([] : List Nat), q ∈ ([157, 158, 161] : List Nat)) a h))) ⟨rfl, rfl⟩ ⟨(show 6 + 1 ≤ 9 from oq_4a198724), (show 8 + (mNL (miB 202) + 11) + 100 ≤ 163 from oq_497c6a1a)⟩ (Nat.le_of_ble_eq_true rfl) (by decide) (by decide) (fun ee s15 hq => ?_) (fun vv s15 hq => ?_))))))))
        · obtain ⟨Is15, Fs15, e16, hv, hrs15, hps15⟩ := hq; cases hv
        obtain ⟨Is15, Fs15, e16, hv, hrs15, hps15⟩ := hq
        cases hv
        have Gs15 := fm_tq Gs12 Fs15 rfl rfl
        have ws15_77 : iI s15 77 = iI s12 77 := fm_iq Fs15 rfl
        have ws15_75 : iI s15 75 = iI s12 75 := fm_iq Fs15 rfl
        show DS l s0 D A dT 206 (rmN 206) [77] [] (T) Q (T) 73 [(1, .int (Int32.ofInt e4)), (0, .ref (A 179))] [.int (Int32.ofInt e16), .int (Int32.ofInt e4)] s15
        refine d_br (bo_ne _ _) bx_ne (fun k ws X h1 h2 => z_icmp_ne X (t := 78) rfl (by decide) hrs3 hrs15 h1 h2) (fun g17 => ?_) (fun g17 => ?_)
        ·
          refine d_lift (fun k ws X h => z_load_n X (x := e4) rfl (List.Mem.head _) h) (d_lift (fun k ws X h => z_const X rfl h) (d_lift (fun k ws X h => z_const X rfl h) (d_lift (fun k ws X h => z_bipush X rfl h) (d_lift (fun k ws X h => z_bipush X rfl h) (d_lift (fun k ws X h => z_bipush X rfl h) (d_lift (fun k ws X h => z_const X rfl h) (d_callT (As := [.int (Int32.ofInt 3), .int (Int32.ofInt 5), .int (Int32.ofInt 12), .int (Int32.ofInt 12), .int (Int32.ofInt 19), .int (Int32.ofInt 0)]) (st := [.int (Int32.ofInt e4)]) rfl rfl (d_word G Is15 (by first | exact ⟨by decide, by decide⟩ | omega) (by first | exact ⟨by decide, by decide⟩ | omega) (by first | exact ⟨by decide, by decide⟩ | omega) (by first | exact ⟨by decide, by decide⟩ | omega) (by first | exact ⟨by decide, by decide⟩ | omega) (by first | exact ⟨by decide, by decide⟩ | omega) (fun q h => hti q ((by decide : ∀ q ∈ ([] : List Nat), q ∈ ([77, 75, 78, 79, 81] : List Nat)) q h)) (fun a h => hta a ((by decide : ∀ q ∈ ([] : List Nat), q ∈ ([157, 158, 161] : List Nat)) a h))) ⟨rfl, rfl⟩ ⟨(show 6 + 1 ≤ 9 from oq_4a198724), (show 8 + (mNL (miB 202) + 11) + 100 ≤ 163 from oq_497c6a1a)⟩ (Nat.le_of_ble_eq_true rfl) (by decide) (by decide) (fun ee s18 hq => ?_) (fun vv s18 hq => ?_))))))))
          · obtain ⟨Is18, Fs18, e19, hv, hrs18, hps18⟩ := hq; cases hv
          obtain ⟨Is18, Fs18, e19, hv, hrs18, hps18⟩ := hq
          cases hv
          have Gs18 := fm_tq Gs15 Fs18 rfl rfl
          have ws18_77 : iI s18 77 = iI s15 77 := fm_iq Fs18 rfl
          have ws18_75 : iI s18 75 = iI s15 75 := fm_iq Fs18 rfl
          show DS l s0 D A dT 206 (rmN 206) [77] [] (T) Q (T) 91 [(1, .int (Int32.ofInt e4)), (0, .ref (A 179))] [.int (Int32.ofInt e19), .int (Int32.ofInt e4)] s18
          refine d_br (bo_ne _ _) bx_ne (fun k ws X h1 h2 => z_icmp_ne X (t := 96) rfl (by decide) hrs3 hrs18 h1 h2) (fun g20 => ?_) (fun g20 => ?_)
          ·
            refine d_lift (fun k ws X h => z_load_n X (x := e4) rfl (List.Mem.head _) h) (d_lift (fun k ws X h => z_bipush X rfl h) (d_lift (fun k ws X h => z_bipush X rfl h) (d_lift (fun k ws X h => z_bipush X rfl h) (d_lift (fun k ws X h => z_const X rfl h) (d_lift (fun k ws X h => z_const X rfl h) (d_lift (fun k ws X h => z_const X rfl h) (d_callT (As := [.int (Int32.ofInt 12), .int (Int32.ofInt 15), .int (Int32.ofInt 23), .int (Int32.ofInt 0), .int (Int32.ofInt 0), .int (Int32.ofInt 0)]) (st := [.int (Int32.ofInt e4)]) rfl rfl (d_word G Is18 (by first | exact ⟨by decide, by decide⟩ | omega) (by first | exact ⟨by decide, by decide⟩ | omega) (by first | exact ⟨by decide, by decide⟩ | omega) (by first | exact ⟨by decide, by decide⟩ | omega) (by first | exact ⟨by decide, by decide⟩ | omega) (by first | exact ⟨by decide, by decide⟩ | omega) (fun q h => hti q ((by decide : ∀ q ∈ ([] : List Nat), q ∈ ([77, 75, 78, 79, 81] : List Nat)) q h)) (fun a h => hta a ((by decide : ∀ q ∈ ([] : List Nat), q ∈ ([157, 158, 161] : List Nat)) a h))) ⟨rfl, rfl⟩ ⟨(show 6 + 1 ≤ 9 from oq_4a198724), (show 8 + (mNL (miB 202) + 11) + 100 ≤ 163 from oq_497c6a1a)⟩ (Nat.le_of_ble_eq_true rfl) (by decide) (by decide) (fun ee s21 hq => ?_) (fun vv s21 hq => ?_))))))))
            · obtain ⟨Is21, Fs21, e22, hv, hrs21, hps21⟩ := hq; cases hv
            obtain ⟨Is21, Fs21, e22, hv, hrs21, hps21⟩ := hq
            cases hv
            have Gs21 := fm_tq Gs18 Fs21 rfl rfl
            have ws21_77 : iI s21 77 = iI s18 77 := fm_iq Fs21 rfl
            have ws21_75 : iI s21 75 = iI s18 75 := fm_iq Fs21 rfl
            show DS l s0 D A dT 206 (rmN 206) [77] [] (T) Q (T) 109 [(1, .int (Int32.ofInt e4)), (0, .ref (A 179))] [.int (Int32.ofInt e22), .int (Int32.ofInt e4)] s21
            refine d_br (bo_ne _ _) bx_ne (fun k ws X h1 h2 => z_icmp_ne X (t := 114) rfl (by decide) hrs3 hrs21 h1 h2) (fun g23 => ?_) (fun g23 => ?_)
            ·
              refine d_lift (fun k ws X h => z_load_n X (x := e4) rfl (List.Mem.head _) h) (d_lift (fun k ws X h => z_bipush X rfl h) (d_lift (fun k ws X h => z_bipush X rfl h) (d_lift (fun k ws X h => z_const X rfl h) (d_lift (fun k ws X h => z_const X rfl h) (d_lift (fun k ws X h => z_const X rfl h) (d_lift (fun k ws X h => z_bipush X rfl h) (d_callT (As := [.int (Int32.ofInt 16), .int (Int32.ofInt 9), .int (Int32.ofInt 5), .int (Int32.ofInt 3), .int (Int32.ofInt 5), .int (Int32.ofInt 19)]) (st := [.int (Int32.ofInt e4)]) rfl rfl (d_word G Is21 (by first | exact ⟨by decide, by decide⟩ | omega) (by first | exact ⟨by decide, by decide⟩ | omega) (by first | exact ⟨by decide, by decide⟩ | omega) (by first | exact ⟨by decide, by decide⟩ | omega) (by first | exact ⟨by decide, by decide⟩ | omega) (by first | exact ⟨by decide, by decide⟩ | omega) (fun q h => hti q ((by decide : ∀ q ∈ ([] : List Nat), q ∈ ([77, 75, 78, 79, 81] : List Nat)) q h)) (fun a h => hta a ((by decide : ∀ q ∈ ([] : List Nat), q ∈ ([157, 158, 161] : List Nat)) a h))) ⟨rfl, rfl⟩ ⟨(show 6 + 1 ≤ 9 from oq_4a198724), (show 8 + (mNL (miB 202) + 11) + 100 ≤ 163 from oq_497c6a1a)⟩ (Nat.le_of_ble_eq_true rfl) (by decide) (by decide) (fun ee s24 hq => ?_) (fun vv s24 hq => ?_))))))))
              · obtain ⟨Is24, Fs24, e25, hv, hrs24, hps24⟩ := hq; cases hv
              obtain ⟨Is24, Fs24, e25, hv, hrs24, hps24⟩ := hq
              cases hv
              have Gs24 := fm_tq Gs21 Fs24 rfl rfl
              have ws24_77 : iI s24 77 = iI s21 77 := fm_iq Fs24 rfl
              have ws24_75 : iI s24 75 = iI s21 75 := fm_iq Fs24 rfl
              show DS l s0 D A dT 206 (rmN 206) [77] [] (T) Q (T) 127 [(1, .int (Int32.ofInt e4)), (0, .ref (A 179))] [.int (Int32.ofInt e25), .int (Int32.ofInt e4)] s24
              have N26 : ∀ e27 : Int, (((e4 ≠ e25) ∧ e27 = (-1)) ∨ ((e4 = e25) ∧ e27 = 6)) → DS l s0 D A dT 206 (rmN 206) [77] [] (T) Q (T) 136 [(1, .int (Int32.ofInt e4)), (0, .ref (A 179))] [.int (Int32.ofInt e27)] s24 := by
                intro e27 he27
                have re27 : (-1) ≤ e27 ∧ e27 ≤ 6 := by first | (clear he27 g23 g20 g17 g14 g11 g8 hps3; omega) | (clear g23 g20 g17 g14 g11 g8 hps3; omega) | omega
                exact d_iret rfl rfl (Or.inl rfl) rfl (fun _ h => h) (hQ _ _ ⟨Is24, Gs24, e27, rfl, ⟨by first | exact oq_97ee2c2a re27.1 | omega, by first | exact oq_b301c3bf re27.2 | omega⟩, by first | exact ⟨oq_1a22b625 ws24_77 ws21_77 ws18_77 ws15_77 ws12_77 ws9_77 ws6_77 hps3.1, oq_c7e4d1fa ws24_77 ws21_77 ws18_77 ws15_77 ws12_77 ws9_77 ws6_77 hps3.2.1 hps3.1, re27.1, re27.2, oq_0d4062ee re27.1 he27 ws24_77 hps24 ws21_77 ws18_77 ws15_77 ws12_77 ws9_77 ws6_77 hps3.2.2⟩ | omega⟩)
              refine d_br (bo_ne _ _) bx_ne (fun k ws X h1 h2 => z_icmp_ne X (t := 135) rfl (by decide) hrs3 hrs24 h1 h2) (fun g28 => ?_) (fun g28 => ?_)
              ·
                exact d_lift (fun k ws X h => z_const X rfl h) (N26 _ (Or.inl ⟨g28, rfl⟩))
              ·
                exact d_lift (fun k ws X h => z_bipush X rfl h) (d_lift (fun k ws X h => z_goto X (t := 136) rfl (by decide) h) (N26 _ (Or.inr (⟨g28, rfl⟩))))
            ·
              refine d_lift (fun k ws X h => z_const X rfl h) ?_
              exact d_iret rfl rfl (Or.inl rfl) rfl (fun _ h => h) (hQ _ _ ⟨Is21, Gs21, 5, rfl, (by decide), by first | exact ⟨oq_848a55a6 ws21_77 ws18_77 ws15_77 ws12_77 ws9_77 ws6_77 hps3.1, oq_729a7106 g23 ws21_77 hps21 ws18_77 ws15_77 ws12_77 ws9_77 ws6_77 hps3.2.2, by decide, by decide, oq_829509e8 g23 ws21_77 hps21 ws18_77 ws15_77 ws12_77 ws9_77 ws6_77 hps3.2.2⟩ | omega⟩)
          ·
            refine d_lift (fun k ws X h => z_const X rfl h) ?_
            exact d_iret rfl rfl (Or.inl rfl) rfl (fun _ h => h) (hQ _ _ ⟨Is18, Gs18, 4, rfl, (by decide), by first | exact ⟨oq_17730e68 ws18_77 ws15_77 ws12_77 ws9_77 ws6_77 hps3.1, oq_1ad4a7f8 g20 ws18_77 hps18 ws15_77 ws12_77 ws9_77 ws6_77 hps3.2.2, by decide, by decide, oq_57df88a9 g20 ws18_77 hps18 ws15_77 ws12_77 ws9_77 ws6_77 hps3.2.2⟩ | omega⟩)
        ·
          refine d_lift (fun k ws X h => z_const X rfl h) ?_
          exact d_iret rfl rfl (Or.inl rfl) rfl (fun _ h => h) (hQ _ _ ⟨Is15, Gs15, 3, rfl, (by decide), by first | exact ⟨oq_11fe630f ws15_77 ws12_77 ws9_77 ws6_77 hps3.1, oq_69067335 g17 ws15_77 hps15 ws12_77 ws9_77 ws6_77 hps3.2.2, by decide, by decide, oq_24ca1aeb g17 ws15_77 hps15 ws12_77 ws9_77 ws6_77 hps3.2.2⟩ | omega⟩)
      ·
        refine d_lift (fun k ws X h => z_const X rfl h) ?_
        exact d_iret rfl rfl (Or.inl rfl) rfl (fun _ h => h) (hQ _ _ ⟨Is12, Gs12, 2, rfl, (by decide), by first | exact ⟨oq_47978b2f ws12_77 ws9_77 ws6_77 hps3.1, oq_85016481 g14 ws12_77 hps12 ws9_77 ws6_77 hps3.2.2, by decide, by decide, oq_ed1d23fc g14 ws12_77 hps12 ws9_77 ws6_77 hps3.2.2⟩ | omega⟩)
    ·
      refine d_lift (fun k ws X h => z_const X rfl h) ?_
      exact d_iret rfl rfl (Or.inl rfl) rfl (fun _ h => h) (hQ _ _ ⟨Is9, Gs9, 1, rfl, (by decide), by first | exact ⟨oq_2954f754 ws9_77 ws6_77 hps3.1, oq_d2f0a5e5 g11 ws9_77 hps9 ws6_77 hps3.2.2, by decide, by decide, oq_4f60f847 g11 ws9_77 hps9 ws6_77 hps3.2.2⟩ | omega⟩)
  ·
    refine d_lift (fun k ws X h => z_const X rfl h) ?_
    exact d_iret rfl rfl (Or.inl rfl) rfl (fun _ h => h) (hQ _ _ ⟨Is6, Gs6, 0, rfl, (by decide), by first | exact ⟨oq_9272904e ws6_77 hps3.1, oq_0b55d760 g8 ws6_77 hps6 hps3.2.2, by decide, by decide, oq_89d1dd48 g8 ws6_77 hps6 hps3.2.2⟩ | omega⟩)
end M42
