/-! Determined: words and numbers of a text -/
section M42
variable {l : Launch} {s0 : State} {D : va_G} {tys : List (ClassId × FieldType)} {a0 : Array Value} {A : Nat → Nat} {dT : Nat → ClassId} {s : PS}
set_option maxHeartbeats 16000000 in
theorem d_blanks (G : GX l s0 D tys a0 dT) (I : Bd s) (p0 : iI s 77 ≤ 390) {T : TT} (hti : ∀ q ∈ ([77, 75, 78, 79, 81] : List Nat), T.1 q) (hta : ∀ a ∈ ([157, 158, 161] : List Nat), ∀ j, j < (bA a).2.2 → T.2 a j) : CD l s0 D A dT 193 (rmN 193) [77] [] T (T) [.ref (A 179)] s (fun o t => Bd t ∧ Fm [77] [] s t ∧ o = .inl none ∧ (iI s 77 ≤ iI t 77 ∧ (iI t 77 = iI s 77 ∨ iI t 77 ≤ iI s 75))) := by
  refine cd_of G (by decide) (Nat.le_of_ble_eq_true rfl) (fun Q hQ => ?_)
  have I0 := I
  show DS l s0 D A dT 193 (rmN 193) [77] [] (T) Q (T) 0 [(0, .ref (A 179))] [] s
  have F : Fm [77] [] s s := fm_rf _ _ s
  have b1 : (0 : Int) ≤ iI s 77 ∧ iI s 77 ≤ 400 := I.1 77
  have b2 : (0 : Int) ≤ iI s 75 ∧ iI s 75 ≤ 200 := I.1 75
  have L0 : ∀ (n : Nat) (t : PS), Bd t → Fm [77] [] s t → (iI s 77 ≤ iI t 77 ∧ (iI t 77 = iI s 77 ∨ iI t 77 ≤ iI s 75) ∧ iI t 75 = iI s 75) → (iI t 75 - iI t 77 : Int).toNat < n → (∀ (t' : PS), Bd t' → Fm [77] [] s t' → (iI s 77 ≤ iI t' 77 ∧ (iI t' 77 = iI s 77 ∨ iI t' 77 ≤ iI s 75) ∧ iI t' 75 = iI s 75) → DS l s0 D A dT 193 (rmN 193) [77] [] (T) Q (T) 26 [(0, .ref (A 179))] [] t') → DS l s0 D A dT 193 (rmN 193) [77] [] (T) Q (T) 0 [(0, .ref (A 179))] [] t := by
    intro n
    induction n with
    | zero =>
      intro t  I F hi hm kx
      exact absurd hm (Nat.not_lt_zero _)
    | succ n ih =>
      intro t  I F hi hm kx
      have b1001 : (0 : Int) ≤ iI t 77 ∧ iI t 77 ≤ 400 := I.1 77
      have b1002 : (0 : Int) ≤ iI t 75 ∧ iI t 75 ≤ 200 := I.1 75
      refine d_lift (fun k ws X h => z_aload_n X (x := A 179) (show cdA 193 0 = some (.aload_n 0, 1, 0, 0, 0) from rfl) (List.Mem.head _) h) ?_
      refine d_lift (fun k ws X h => z_aload_n X (x := A 179) (show cdA 193 1 = some (.aload_n 0, 1, 0, 0, 0) from rfl) (List.Mem.head _) h) ?_
      refine d_getI 179 (show cdA 193 2 = some (.getfield 184, 3, 12, 4, 0) from rfl) (by decide) rfl rfl (hti 77 (by decide)) ?_
      have b1003 : (0 : Int) ≤ iI t 77 ∧ iI t 77 ≤ 400 := I.1 77
      refine d_callV 179 (As := [.int (Int32.ofInt (iI t 77))]) (st := []) (show cdA 193 5 = some (.invokevirtual 187, 3, 192, 0, 0) from rfl) rfl (by decide) rfl (d_byteAt G I (by first | exact ⟨b1003.1, oq_5a8480eb b1003.2⟩ | omega) (fun q h => hti q ((by decide : ∀ q ∈ ([75, 81] : List Nat), q ∈ ([77, 75, 78, 79, 81] : List Nat)) q h)) (fun a h => hta a ((by decide : ∀ q ∈ ([157, 158] : List Nat), q ∈ ([157, 158, 161] : List Nat)) a h))) ⟨rfl, rfl⟩ ⟨(show 6 + 1 ≤ 7 from oq_7ae2681c), (show 8 + (mNL (miB 192) + 11) + 100 ≤ 121 from oq_68e6451f)⟩ (Nat.le_of_ble_eq_true rfl) (by decide) (by decide) (fun ee s1004 hq => ?_) (fun vv s1004 hq => ?_)
      · obtain ⟨Is1004, Fs1004, e1005, hv, hrs1004, hps1004⟩ := hq; cases hv
      obtain ⟨Is1004, Fs1004, e1005, hv, hrs1004, hps1004⟩ := hq
      cases hv
      have Gs1004 := fm_ts F Fs1004 (by decide) (by decide)
      have ws1004_77 : iI s1004 77 = iI t 77 := fm_i Fs1004 (by decide)
      have ws1004_75 : iI s1004 75 = iI t 75 := fm_i Fs1004 (by decide)
      show DS l s0 D A dT 193 (rmN 193) [77] [] (T) Q (T) 8 [(0, .ref (A 179))] [.int (Int32.ofInt e1005)] s1004
      refine d_lift (fun k ws X h => z_bipush X (show cdA 193 8 = some (.bipush 32, 2, 0, 0, 32) from rfl) h) ?_
      refine d_br (bo_ne _ _) bx_ne (fun k ws X h1 h2 => z_icmp_ne X (t := 26) (show cdA 193 10 = some (.if_icmp .ne 16, 3, 1, 0, 0) from rfl) (by decide) hrs1004 (by decide) h1 h2) (fun g1006 => ?_) (fun g1006 => ?_)
      ·
        refine d_lvs (lv := [(0, .ref (A 179))]) (List.forall_mem_cons.mpr ⟨(List.Mem.head _), (fun q h => absurd h List.not_mem_nil)⟩) ?_
        exact kx _  Is1004 Gs1004 (by first | exact ⟨oq_9272904e ws1004_77 hi.1, oq_8dc46605 ws1004_77 hi.2.1 hi.1, oq_1aa5be9e ws1004_75 hi.2.2⟩ | omega)
      ·
        refine d_lift (fun k ws X h => z_aload_n X (x := A 179) (show cdA 193 13 = some (.aload_n 0, 1, 0, 0, 0) from rfl) (List.Mem.head _) h) ?_
        refine d_lift (fun k ws X h => w_dup X.1 (ax_d X (show cdA 193 14 = some (.dup, 1, 0, 0, 0) from rfl)) rfl h) ?_
        refine d_getI 179 (show cdA 193 15 = some (.getfield 184, 3, 12, 4, 0) from rfl) (by decide) rfl rfl (hti 77 (by decide)) ?_
        have b1007 : (0 : Int) ≤ iI s1004 77 ∧ iI s1004 77 ≤ 400 := Is1004.1 77
        refine d_lift (fun k ws X h => z_const X (show cdA 193 18 = some (.iconst 1, 1, 0, 0, 0) from rfl) h) ?_
        refine d_lift (fun k ws X h => z_add X (show cdA 193 19 = some (.iadd, 1, 0, 0, 0) from rfl) h) ?_
        refine d_putI 179 (show cdA 193 20 = some (.putfield 184, 3, 12, 4, 0) from rfl) (by decide) rfl rfl (by decide) rfl rfl rfl (show 77 ∈ _ by decide) (show (0 : Int) ≤ ((iI s1004 77) + 1) ∧ ((iI s1004 77) + 1) ≤ 400 by first | exact ⟨oq_54f49eb5 b1007.1, oq_9fb74c64 g1006 ws1004_77 hps1004 b1002.2⟩ | omega) ⟨by first | exact oq_74de1e16 b1007.1 | omega, by first | exact oq_964ce197 b1007.2 | omega⟩ ?_
        refine d_mono (T' := T) (fun _ h => Or.inr h) (fun _ _ h => h) ?_
        obtain ⟨s1008, hs1008⟩ : ∃ x0, x0 = uI s1004 77 (Int32.ofInt ((iI s1004 77) + 1)) := ⟨_, rfl⟩
        rw [← hs1008]
        have Is1008 : Bd s1008 := by rw [hs1008]; exact bd_I Is1004 (show (0 : Int) ≤ ((iI s1004 77) + 1) ∧ ((iI s1004 77) + 1) ≤ 400 by first | exact ⟨oq_54f49eb5 b1007.1, oq_9fb74c64 g1006 ws1004_77 hps1004 b1002.2⟩ | omega) ⟨by first | exact oq_74de1e16 b1007.1 | omega, by first | exact oq_964ce197 b1007.2 | omega⟩
        have Fs1008 := fm_I (x := Int32.ofInt ((iI s1004 77) + 1)) Gs1004 (show 77 ∈ _ by decide)
        rw [← hs1008] at Fs1008
        have vs1008 : iI s1008 77 = ((iI s1004 77) + 1) := by rw [hs1008]; exact iI_u ⟨by first | exact oq_74de1e16 b1007.1 | omega, by first | exact oq_964ce197 b1007.2 | omega⟩
        have ws1008_75 : iI s1008 75 = iI s1004 75 := by rw [hs1008]; rfl
        refine d_lift (fun k ws X h => z_goto X (t := 0) (show cdA 193 23 = some (.goto (-23), 3, 0, 0, 0) from rfl) (by decide) h) ?_
        refine d_lvs (lv := [(0, .ref (A 179))]) (List.forall_mem_cons.mpr ⟨(List.Mem.head _), (fun q h => absurd h List.not_mem_nil)⟩) ?_
        exact ih _  Is1008 Fs1008 (by first | exact ⟨oq_6d7927be vs1008 hi.1 ws1004_77, oq_cfc91213 vs1008 g1006 ws1004_77 hps1004 hi.2.2, oq_d0d2714e ws1008_75 hi.2.2 ws1004_75⟩ | omega) (by first | exact qk_me hm (oq_956b687f ws1008_75 vs1008 ws1004_75 ws1004_77) (oq_a9fc5a51 g1006 hps1004) | omega) kx
  refine d_lvs (lv := [(0, .ref (A 179))]) (List.forall_mem_cons.mpr ⟨(List.Mem.head _), (fun q h => absurd h List.not_mem_nil)⟩) ?_
  refine L0 ((iI s 75 - iI s 77 : Int).toNat + 1) s  I F (by first | exact ⟨by decide, Or.inl (by decide), by decide⟩ | omega) (Nat.lt_succ_self _) ?_
  intro s3  Is3 Fs3 hs3
  have b4 : (0 : Int) ≤ iI s3 77 ∧ iI s3 77 ≤ 400 := Is3.1 77
  have b5 : (0 : Int) ≤ iI s3 75 ∧ iI s3 75 ≤ 200 := Is3.1 75
  exact d_vret rfl (show cdA 193 26 = some (.return_, 1, 0, 0, 0) from rfl) (fun _ h => h) (hQ _ _ ⟨Is3, Fs3, rfl, by first | exact ⟨hs3.1, hs3.2.1⟩ | omega⟩)
set_option maxHeartbeats 16000000 in
theorem d_skipWord (G : GX l s0 D tys a0 dT) (I : Bd s) (p0 : iI s 77 ≤ 390) {T : TT} (hti : ∀ q ∈ ([77, 75, 78, 79, 81] : List Nat), T.1 q) (hta : ∀ a ∈ ([157, 158, 161] : List Nat), ∀ j, j < (bA a).2.2 → T.2 a j) : CD l s0 D A dT 203 (rmN 203) [77] [] T (T) [.ref (A 179)] s (fun o t => Bd t ∧ Fm [77] [] s t ∧ o = .inl none ∧ (iI s 77 ≤ iI t 77 ∧ (iI t 77 = iI s 77 ∨ iI t 77 ≤ iI s 75))) := by
  refine cd_of G (by decide) (Nat.le_of_ble_eq_true rfl) (fun Q hQ => ?_)
  have I0 := I
  show DS l s0 D A dT 203 (rmN 203) [77] [] (T) Q (T) 0 [(0, .ref (A 179))] [] s
  have F : Fm [77] [] s s := fm_rf _ _ s
  have b1 : (0 : Int) ≤ iI s 77 ∧ iI s 77 ≤ 400 := I.1 77
  have b2 : (0 : Int) ≤ iI s 75 ∧ iI s 75 ≤ 200 := I.1 75
  have L0 : ∀ (n : Nat) (t : PS), Bd t → Fm [77] [] s t → (iI s 77 ≤ iI t 77 ∧ (iI t 77 = iI s 77 ∨ iI t 77 ≤ iI s 75) ∧ iI t 75 = iI s 75) → (iI t 75 - iI t 77 : Int).toNat < n → (∀ (t' : PS), Bd t' → Fm [77] [] s t' → (iI s 77 ≤ iI t' 77 ∧ (iI t' 77 = iI s 77 ∨ iI t' 77 ≤ iI s 75) ∧ iI t' 75 = iI s 75) → DS l s0 D A dT 203 (rmN 203) [77] [] (T) Q (T) 39 [(0, .ref (A 179))] [] t') → DS l s0 D A dT 203 (rmN 203) [77] [] (T) Q (T) 0 [(0, .ref (A 179))] [] t := by
    intro n
    induction n with
    | zero =>
      intro t  I F hi hm kx
      exact absurd hm (Nat.not_lt_zero _)
    | succ n ih =>
      intro t  I F hi hm kx
      have b1001 : (0 : Int) ≤ iI t 77 ∧ iI t 77 ≤ 400 := I.1 77
      have b1002 : (0 : Int) ≤ iI t 75 ∧ iI t 75 ≤ 200 := I.1 75
      refine d_lift (fun k ws X h => z_aload_n X (x := A 179) (show cdA 203 0 = some (.aload_n 0, 1, 0, 0, 0) from rfl) (List.Mem.head _) h) ?_
      refine d_lift (fun k ws X h => z_aload_n X (x := A 179) (show cdA 203 1 = some (.aload_n 0, 1, 0, 0, 0) from rfl) (List.Mem.head _) h) ?_
      refine d_getI 179 (show cdA 203 2 = some (.getfield 184, 3, 12, 4, 0) from rfl) (by decide) rfl rfl (hti 77 (by decide)) ?_
      have b1003 : (0 : Int) ≤ iI t 77 ∧ iI t 77 ≤ 400 := I.1 77
      refine d_callV 179 (As := [.int (Int32.ofInt (iI t 77))]) (st := []) (show cdA 203 5 = some (.invokevirtual 187, 3, 192, 0, 0) from rfl) rfl (by decide) rfl (d_byteAt G I (by first | exact ⟨b1003.1, oq_5a8480eb b1003.2⟩ | omega) (fun q h => hti q ((by decide : ∀ q ∈ ([75, 81] : List Nat), q ∈ ([77, 75, 78, 79, 81] : List Nat)) q h)) (fun a h => hta a ((by decide : ∀ q ∈ ([157, 158] : List Nat), q ∈ ([157, 158, 161] : List Nat)) a h))) ⟨rfl, rfl⟩ ⟨(show 6 + 1 ≤ 7 from oq_7ae2681c), (show 8 + (mNL (miB 192) + 11) + 100 ≤ 121 from oq_68e6451f)⟩ (Nat.le_of_ble_eq_true rfl) (by decide) (by decide) (fun ee s1004 hq => ?_) (fun vv s1004 hq => ?_)
      · obtain ⟨Is1004, Fs1004, e1005, hv, hrs1004, hps1004⟩ := hq; cases hv
      obtain ⟨Is1004, Fs1004, e1005, hv, hrs1004, hps1004⟩ := hq
      cases hv
      have Gs1004 := fm_ts F Fs1004 (by decide) (by decide)
      have ws1004_77 : iI s1004 77 = iI t 77 := fm_i Fs1004 (by decide)
      have ws1004_75 : iI s1004 75 = iI t 75 := fm_i Fs1004 (by decide)
      show DS l s0 D A dT 203 (rmN 203) [77] [] (T) Q (T) 8 [(0, .ref (A 179))] [.int (Int32.ofInt e1005)] s1004
      refine d_lift (fun k ws X h => z_bipush X (show cdA 203 8 = some (.bipush 97, 2, 0, 0, 97) from rfl) h) ?_
      refine d_br (bo_lt _ _) bx_lt (fun k ws X h1 h2 => z_icmp_lt X (t := 39) (show cdA 203 10 = some (.if_icmp .lt 29, 3, 2, 0, 0) from rfl) (by decide) hrs1004 (by decide) h1 h2) (fun g1006 => ?_) (fun g1006 => ?_)
      ·
        refine d_lvs (lv := [(0, .ref (A 179))]) (List.forall_mem_cons.mpr ⟨(List.Mem.head _), (fun q h => absurd h List.not_mem_nil)⟩) ?_
        exact kx _  Is1004 Gs1004 (by first | exact ⟨oq_9272904e ws1004_77 hi.1, oq_8dc46605 ws1004_77 hi.2.1 hi.1, oq_1aa5be9e ws1004_75 hi.2.2⟩ | omega)
      ·
        refine d_lift (fun k ws X h => z_aload_n X (x := A 179) (show cdA 203 13 = some (.aload_n 0, 1, 0, 0, 0) from rfl) (List.Mem.head _) h) ?_
        refine d_lift (fun k ws X h => z_aload_n X (x := A 179) (show cdA 203 14 = some (.aload_n 0, 1, 0, 0, 0) from rfl) (List.Mem.head _) h) ?_
        refine d_getI 179 (show cdA 203 15 = some (.getfield 184, 3, 12, 4, 0) from rfl) (by decide) rfl rfl (hti 77 (by decide)) ?_
        have b1007 : (0 : Int) ≤ iI s1004 77 ∧ iI s1004 77 ≤ 400 := Is1004.1 77
        refine d_callV 179 (As := [.int (Int32.ofInt (iI s1004 77))]) (st := []) (show cdA 203 18 = some (.invokevirtual 187, 3, 192, 0, 0) from rfl) rfl (by decide) rfl (d_byteAt G Is1004 (by first | exact ⟨b1007.1, oq_5a8480eb b1007.2⟩ | omega) (fun q h => hti q ((by decide : ∀ q ∈ ([75, 81] : List Nat), q ∈ ([77, 75, 78, 79, 81] : List Nat)) q h)) (fun a h => hta a ((by decide : ∀ q ∈ ([157, 158] : List Nat), q ∈ ([157, 158, 161] : List Nat)) a h))) ⟨rfl, rfl⟩ ⟨(show 6 + 1 ≤ 7 from oq_7ae2681c), (show 8 + (mNL (miB 192) + 11) + 100 ≤ 121 from oq_68e6451f)⟩ (Nat.le_of_ble_eq_true rfl) (by decide) (by decide) (fun ee s1008 hq => ?_) (fun vv s1008 hq => ?_)
        · obtain ⟨Is1008, Fs1008, e1009, hv, hrs1008, hps1008⟩ := hq; cases hv
        obtain ⟨Is1008, Fs1008, e1009, hv, hrs1008, hps1008⟩ := hq
        cases hv
        have Gs1008 := fm_ts Gs1004 Fs1008 (by decide) (by decide)
        have ws1008_77 : iI s1008 77 = iI s1004 77 := fm_i Fs1008 (by decide)
        have ws1008_75 : iI s1008 75 = iI s1004 75 := fm_i Fs1008 (by decide)
        show DS l s0 D A dT 203 (rmN 203) [77] [] (T) Q (T) 21 [(0, .ref (A 179))] [.int (Int32.ofInt e1009)] s1008
        refine d_lift (fun k ws X h => z_bipush X (show cdA 203 21 = some (.bipush 122, 2, 0, 0, 122) from rfl) h) ?_
        refine d_br (bo_gt _ _) bx_gt (fun k ws X h1 h2 => z_icmp_gt X (t := 39) (show cdA 203 23 = some (.if_icmp .gt 16, 3, 4, 0, 0) from rfl) (by decide) hrs1008 (by decide) h1 h2) (fun g1010 => ?_) (fun g1010 => ?_)
        ·
          refine d_lvs (lv := [(0, .ref (A 179))]) (List.forall_mem_cons.mpr ⟨(List.Mem.head _), (fun q h => absurd h List.not_mem_nil)⟩) ?_
          exact kx _  Is1008 Gs1008 (by first | exact ⟨oq_143762c7 ws1008_77 hi.1 ws1004_77, oq_2519f37c g1010 ws1008_77 hps1008 ws1004_75 hi.2.2, oq_d0d2714e ws1008_75 hi.2.2 ws1004_75⟩ | omega)
        ·
          refine d_lift (fun k ws X h => z_aload_n X (x := A 179) (show cdA 203 26 = some (.aload_n 0, 1, 0, 0, 0) from rfl) (List.Mem.head _) h) ?_
          refine d_lift (fun k ws X h => w_dup X.1 (ax_d X (show cdA 203 27 = some (.dup, 1, 0, 0, 0) from rfl)) rfl h) ?_
          refine d_getI 179 (show cdA 203 28 = some (.getfield 184, 3, 12, 4, 0) from rfl) (by decide) rfl rfl (hti 77 (by decide)) ?_
          have b1011 : (0 : Int) ≤ iI s1008 77 ∧ iI s1008 77 ≤ 400 := Is1008.1 77
          refine d_lift (fun k ws X h => z_const X (show cdA 203 31 = some (.iconst 1, 1, 0, 0, 0) from rfl) h) ?_
          refine d_lift (fun k ws X h => z_add X (show cdA 203 32 = some (.iadd, 1, 0, 0, 0) from rfl) h) ?_
          refine d_putI 179 (show cdA 203 33 = some (.putfield 184, 3, 12, 4, 0) from rfl) (by decide) rfl rfl (by decide) rfl rfl rfl (show 77 ∈ _ by decide) (show (0 : Int) ≤ ((iI s1008 77) + 1) ∧ ((iI s1008 77) + 1) ≤ 400 by first | exact ⟨oq_54f49eb5 b1011.1, oq_7e7c278b ws1008_77 g1006 ws1004_77 hps1004 b1002.2⟩ | omega) ⟨by first | exact oq_74de1e16 b1011.1 | omega, by first | exact oq_964ce197 b1011.2 | omega⟩ ?_
          refine d_mono (T' := T) (fun _ h => Or.inr h) (fun _ _ h => h) ?_
          obtain ⟨s1012, hs1012⟩ : ∃ x0, x0 = uI s1008 77 (Int32.ofInt ((iI s1008 77) + 1)) := ⟨_, rfl⟩
          rw [← hs1012]
          have Is1012 : Bd s1012 := by rw [hs1012]; exact bd_I Is1008 (show (0 : Int) ≤ ((iI s1008 77) + 1) ∧ ((iI s1008 77) + 1) ≤ 400 by first | exact ⟨oq_54f49eb5 b1011.1, oq_7e7c278b ws1008_77 g1006 ws1004_77 hps1004 b1002.2⟩ | omega) ⟨by first | exact oq_74de1e16 b1011.1 | omega, by first | exact oq_964ce197 b1011.2 | omega⟩
          have Fs1012 := fm_I (x := Int32.ofInt ((iI s1008 77) + 1)) Gs1008 (show 77 ∈ _ by decide)
          rw [← hs1012] at Fs1012
          have vs1012 : iI s1012 77 = ((iI s1008 77) + 1) := by rw [hs1012]; exact iI_u ⟨by first | exact oq_74de1e16 b1011.1 | omega, by first | exact oq_964ce197 b1011.2 | omega⟩
          have ws1012_75 : iI s1012 75 = iI s1008 75 := by rw [hs1012]; rfl
          refine d_lift (fun k ws X h => z_goto X (t := 0) (show cdA 203 36 = some (.goto (-36), 3, 0, 0, 0) from rfl) (by decide) h) ?_
          refine d_lvs (lv := [(0, .ref (A 179))]) (List.forall_mem_cons.mpr ⟨(List.Mem.head _), (fun q h => absurd h List.not_mem_nil)⟩) ?_
          exact ih _  Is1012 Fs1012 (by first | exact ⟨oq_c108a731 vs1012 hi.1 ws1008_77 ws1004_77, oq_a49c266d vs1012 ws1008_77 hps1008 g1006 ws1004_75 ws1004_77 hps1004 hi.2.2, oq_45b593e3 ws1012_75 hi.2.2 ws1008_75 ws1004_75⟩ | omega) (by first | exact qk_me hm (oq_e6145000 ws1012_75 vs1012 ws1008_75 ws1008_77 ws1004_75 ws1004_77) (oq_88aeaead g1006 hps1004) | omega) kx
  refine d_lvs (lv := [(0, .ref (A 179))]) (List.forall_mem_cons.mpr ⟨(List.Mem.head _), (fun q h => absurd h List.not_mem_nil)⟩) ?_
  refine L0 ((iI s 75 - iI s 77 : Int).toNat + 1) s  I F (by first | exact ⟨by decide, Or.inl (by decide), by decide⟩ | omega) (Nat.lt_succ_self _) ?_
  intro s3  Is3 Fs3 hs3
  have b4 : (0 : Int) ≤ iI s3 77 ∧ iI s3 77 ≤ 400 := Is3.1 77
  have b5 : (0 : Int) ≤ iI s3 75 ∧ iI s3 75 ≤ 200 := Is3.1 75
  exact d_vret rfl (show cdA 203 39 = some (.return_, 1, 0, 0, 0) from rfl) (fun _ h => h) (hQ _ _ ⟨Is3, Fs3, rfl, by first | exact ⟨hs3.1, hs3.2.1⟩ | omega⟩)
set_option maxHeartbeats 16000000 in
theorem d_sign (G : GX l s0 D tys a0 dT) (I : Bd s) {x : Int} (p0 : 0 ≤ x ∧ x ≤ 255) (p1 : iI s 77 ≤ 380) {T : TT} (hti : ∀ q ∈ ([77, 75, 78, 79, 81] : List Nat), T.1 q) (hta : ∀ a ∈ ([157, 158, 161] : List Nat), ∀ j, j < (bA a).2.2 → T.2 a j) : CD l s0 D A dT 204 (rmN 204) [77, 79, 80] [] T (T) [.ref (A 179), .int (Int32.ofInt x)] s (fun o t => Bd t ∧ Fm [77, 79, 80] [] s t ∧ o = .inl none ∧ (iI s 77 ≤ iI t 77 ∧ (iI t 77 = iI s 77 ∨ iI t 77 ≤ iI s 75) ∧ (iI s 79 ≠ 0 → iI t 79 ≠ 0) ∧ (iI t 79 = 0 → iI s 77 < iI t 77 ∧ iI t 77 ≤ iI s 75))) := by
  refine cd_of G (by decide) (Nat.le_of_ble_eq_true rfl) (fun Q hQ => ?_)
  have I0 := I
  show DS l s0 D A dT 204 (rmN 204) [77, 79, 80] [] (T) Q (T) 0 [(0, .ref (A 179)), (1, .int (Int32.ofInt x))] [] s
  have F : Fm [77, 79, 80] [] s s := fm_rf _ _ s
  have b1 : (0 : Int) ≤ iI s 77 ∧ iI s 77 ≤ 400 := I.1 77
  have b2 : (0 : Int) ≤ iI s 75 ∧ iI s 75 ≤ 200 := I.1 75
  have b3 : (0 : Int) ≤ iI s 79 ∧ iI s 79 ≤ 9 := I.1 79
  refine d_lift (fun k ws X h => z_aload_n X (x := A 179) (show cdA 204 0 = some (.aload_n 0, 1, 0, 0, 0) from rfl) (List.Mem.head _) h) ?_
  refine d_callV 179 (As := []) (st := []) (show cdA 204 1 = some (.invokevirtual 197, 3, 193, 0, 0) from rfl) rfl (by decide) rfl (d_blanks G I (by first | exact oq_f72601a2 p1 | omega) (fun q h => hti q ((by decide : ∀ q ∈ ([77, 75, 78, 79, 81] : List Nat), q ∈ ([77, 75, 78, 79, 81] : List Nat)) q h)) (fun a h => hta a ((by decide : ∀ q ∈ ([157, 158, 161] : List Nat), q ∈ ([157, 158, 161] : List Nat)) a h))) ⟨rfl, rfl⟩ ⟨(show 7 + 1 ≤ 8 from oq_519c1fd2), (show 8 + (mNL (miB 193) + 11) + 121 ≤ 141 from oq_67025191)⟩ (Nat.le_of_ble_eq_true rfl) (by decide) (by decide) (fun ee s4 hq => ?_) (fun vv s4 hq => ?_)
  · obtain ⟨Is4, Fs4, hv, hps4⟩ := hq; cases hv
  obtain ⟨Is4, Fs4, hv, hps4⟩ := hq
  cases hv
  have Gs4 := fm_ts F Fs4 (by decide) (by decide)
  have b6 : (0 : Int) ≤ iI s4 77 ∧ iI s4 77 ≤ 400 := Is4.1 77
  have ws4_75 : iI s4 75 = iI s 75 := fm_i Fs4 (by decide)
  have ws4_79 : iI s4 79 = iI s 79 := fm_i Fs4 (by decide)
  show DS l s0 D A dT 204 (rmN 204) [77, 79, 80] [] (T) Q (T) 4 [(0, .ref (A 179)), (1, .int (Int32.ofInt x))] [] s4
  refine d_lift (fun k ws X h => z_aload_n X (x := A 179) (show cdA 204 4 = some (.aload_n 0, 1, 0, 0, 0) from rfl) (List.Mem.head _) h) ?_
  refine d_lift (fun k ws X h => z_aload_n X (x := A 179) (show cdA 204 5 = some (.aload_n 0, 1, 0, 0, 0) from rfl) (List.Mem.head _) h) ?_
  refine d_getI 179 (show cdA 204 6 = some (.getfield 184, 3, 12, 4, 0) from rfl) (by decide) rfl rfl (hti 77 (by decide)) ?_
  have b7 : (0 : Int) ≤ iI s4 77 ∧ iI s4 77 ≤ 400 := Is4.1 77
  refine d_callV 179 (As := [.int (Int32.ofInt (iI s4 77))]) (st := []) (show cdA 204 9 = some (.invokevirtual 187, 3, 192, 0, 0) from rfl) rfl (by decide) rfl (d_byteAt G Is4 (by first | exact ⟨b7.1, oq_5a8480eb b7.2⟩ | omega) (fun q h => hti q ((by decide : ∀ q ∈ ([75, 81] : List Nat), q ∈ ([77, 75, 78, 79, 81] : List Nat)) q h)) (fun a h => hta a ((by decide : ∀ q ∈ ([157, 158] : List Nat), q ∈ ([157, 158, 161] : List Nat)) a h))) ⟨rfl, rfl⟩ ⟨(show 6 + 1 ≤ 8 from oq_42eed11c), (show 8 + (mNL (miB 192) + 11) + 100 ≤ 141 from oq_dc08f8ae)⟩ (Nat.le_of_ble_eq_true rfl) (by decide) (by decide) (fun ee s8 hq => ?_) (fun vv s8 hq => ?_)
  · obtain ⟨Is8, Fs8, e9, hv, hrs8, hps8⟩ := hq; cases hv
  obtain ⟨Is8, Fs8, e9, hv, hrs8, hps8⟩ := hq
  cases hv
  have Gs8 := fm_ts Gs4 Fs8 (by decide) (by decide)
  have ws8_77 : iI s8 77 = iI s4 77 := fm_i Fs8 (by decide)
  have ws8_75 : iI s8 75 = iI s4 75 := fm_i Fs8 (by decide)
  have ws8_79 : iI s8 79 = iI s4 79 := fm_i Fs8 (by decide)
  show DS l s0 D A dT 204 (rmN 204) [77, 79, 80] [] (T) Q (T) 12 [(0, .ref (A 179)), (1, .int (Int32.ofInt x))] [.int (Int32.ofInt e9)] s8
  refine d_lift (fun k ws X h => z_load_n X (x := x) (show cdA 204 12 = some (.iload_n 1, 1, 0, 0, 0) from rfl) (List.Mem.tail _ (List.Mem.head _)) h) ?_
  refine d_br (bo_ne _ _) bx_ne (fun k ws X h1 h2 => z_icmp_ne X (t := 29) (show cdA 204 13 = some (.if_icmp .ne 16, 3, 1, 0, 0) from rfl) (by decide) hrs8 ⟨by first | exact oq_fa4e5087 p0.1 | omega, by first | exact oq_4567a937 p0.2 | omega⟩ h1 h2) (fun g10 => ?_) (fun g10 => ?_)
  ·
    refine d_lift (fun k ws X h => z_aload_n X (x := A 179) (show cdA 204 29 = some (.aload_n 0, 1, 0, 0, 0) from rfl) (List.Mem.head _) h) ?_
    refine d_lift (fun k ws X h => z_const X (show cdA 204 30 = some (.iconst 1, 1, 0, 0, 0) from rfl) h) ?_
    refine d_lift (fun k ws X h => z_aload_n X (x := A 179) (show cdA 204 31 = some (.aload_n 0, 1, 0, 0, 0) from rfl) (List.Mem.head _) h) ?_
    refine d_getI 179 (show cdA 204 32 = some (.getfield 184, 3, 12, 4, 0) from rfl) (by decide) rfl rfl (hti 77 (by decide)) ?_
    have b11 : (0 : Int) ≤ iI s8 77 ∧ iI s8 77 ≤ 400 := Is8.1 77
    refine d_callV 179 (As := [.int (Int32.ofInt 1), .int (Int32.ofInt (iI s8 77))]) (st := []) (show cdA 204 35 = some (.invokevirtual 204, 3, 194, 0, 0) from rfl) rfl (by decide) rfl (d_wrong G Is8 (by first | exact ⟨by decide, by decide⟩ | omega) (by first | exact ⟨oq_ca54ea22 b11.1, b11.2⟩ | omega) (fun q h => hti q ((by decide : ∀ q ∈ ([79] : List Nat), q ∈ ([77, 75, 78, 79, 81] : List Nat)) q h)) (fun a h => hta a ((by decide : ∀ q ∈ ([] : List Nat), q ∈ ([157, 158, 161] : List Nat)) a h))) ⟨rfl, rfl⟩ ⟨(show 6 + 1 ≤ 8 from oq_42eed11c), (show 8 + (mNL (miB 194) + 11) + 100 ≤ 141 from oq_420db89e)⟩ (Nat.le_of_ble_eq_true rfl) (by decide) (by decide) (fun ee s12 hq => ?_) (fun vv s12 hq => ?_)
    · obtain ⟨Is12, Fs12, hv, hps12⟩ := hq; cases hv
    obtain ⟨Is12, Fs12, hv, hps12⟩ := hq
    cases hv
    have Gs12 := fm_ts Gs8 Fs12 (by decide) (by decide)
    have ws12_77 : iI s12 77 = iI s8 77 := fm_i Fs12 (by decide)
    have ws12_75 : iI s12 75 = iI s8 75 := fm_i Fs12 (by decide)
    have b14 : (0 : Int) ≤ iI s12 79 ∧ iI s12 79 ≤ 9 := Is12.1 79
    show DS l s0 D A dT 204 (rmN 204) [77, 79, 80] [] (T) Q (T) 38 [(0, .ref (A 179)), (1, .int (Int32.ofInt x))] [] s12
    exact d_vret rfl (show cdA 204 38 = some (.return_, 1, 0, 0, 0) from rfl) (fun _ h => h) (hQ _ _ ⟨Is12, Gs12, rfl, by first | exact ⟨oq_143762c7 ws12_77 hps4.1 ws8_77, oq_9d983156 ws12_77 ws8_77 hps4.2 hps4.1, oq_5071f1ab b14.1 hps12, oq_c324d438 b14.1 hps12⟩ | omega⟩)
  ·
    refine d_lift (fun k ws X h => z_aload_n X (x := A 179) (show cdA 204 16 = some (.aload_n 0, 1, 0, 0, 0) from rfl) (List.Mem.head _) h) ?_
    refine d_lift (fun k ws X h => w_dup X.1 (ax_d X (show cdA 204 17 = some (.dup, 1, 0, 0, 0) from rfl)) rfl h) ?_
    refine d_getI 179 (show cdA 204 18 = some (.getfield 184, 3, 12, 4, 0) from rfl) (by decide) rfl rfl (hti 77 (by decide)) ?_
    have b15 : (0 : Int) ≤ iI s8 77 ∧ iI s8 77 ≤ 400 := Is8.1 77
    refine d_lift (fun k ws X h => z_const X (show cdA 204 21 = some (.iconst 1, 1, 0, 0, 0) from rfl) h) ?_
    refine d_lift (fun k ws X h => z_add X (show cdA 204 22 = some (.iadd, 1, 0, 0, 0) from rfl) h) ?_
    refine d_putI 179 (show cdA 204 23 = some (.putfield 184, 3, 12, 4, 0) from rfl) (by decide) rfl rfl (by decide) rfl rfl rfl (show 77 ∈ _ by decide) (show (0 : Int) ≤ ((iI s8 77) + 1) ∧ ((iI s8 77) + 1) ≤ 400 by first | exact ⟨oq_54f49eb5 b15.1, oq_f2693aa9 g10 ws8_77 hps8 ws4_75 b2.2 p0.1⟩ | omega) ⟨by first | exact oq_74de1e16 b15.1 | omega, by first | exact oq_964ce197 b15.2 | omega⟩ ?_
    refine d_mono (T' := T) (fun _ h => Or.inr h) (fun _ _ h => h) ?_
    obtain ⟨s16, hs16⟩ : ∃ x0, x0 = uI s8 77 (Int32.ofInt ((iI s8 77) + 1)) := ⟨_, rfl⟩
    rw [← hs16]
    have Is16 : Bd s16 := by rw [hs16]; exact bd_I Is8 (show (0 : Int) ≤ ((iI s8 77) + 1) ∧ ((iI s8 77) + 1) ≤ 400 by first | exact ⟨oq_54f49eb5 b15.1, oq_f2693aa9 g10 ws8_77 hps8 ws4_75 b2.2 p0.1⟩ | omega) ⟨by first | exact oq_74de1e16 b15.1 | omega, by first | exact oq_964ce197 b15.2 | omega⟩
    have Fs16 := fm_I (x := Int32.ofInt ((iI s8 77) + 1)) Gs8 (show 77 ∈ _ by decide)
    rw [← hs16] at Fs16
    have vs16 : iI s16 77 = ((iI s8 77) + 1) := by rw [hs16]; exact iI_u ⟨by first | exact oq_74de1e16 b15.1 | omega, by first | exact oq_964ce197 b15.2 | omega⟩
    have ws16_75 : iI s16 75 = iI s8 75 := by rw [hs16]; rfl
    have ws16_79 : iI s16 79 = iI s8 79 := by rw [hs16]; rfl
    refine d_lift (fun k ws X h => z_goto X (t := 38) (show cdA 204 26 = some (.goto 12, 3, 0, 0, 0) from rfl) (by decide) h) ?_
    exact d_vret rfl (show cdA 204 38 = some (.return_, 1, 0, 0, 0) from rfl) (fun _ h => h) (hQ _ _ ⟨Is16, Fs16, rfl, by first | exact ⟨oq_6d7927be vs16 hps4.1 ws8_77, oq_669de7e1 vs16 g10 ws8_77 hps8 ws4_75 p0.1, oq_00dd204b ws16_79 ws8_79 ws4_79 b3.1, oq_8800f1ea vs16 g10 ws8_77 hps8 ws4_75 hps4.1 p0.1⟩ | omega⟩)
set_option maxHeartbeats 16000000 in
theorem d_opens (G : GX l s0 D tys a0 dT) (I : Bd s) {x : Int} (p0 : 1 ≤ x ∧ x ≤ 3) (p1 : iI s 77 ≤ 380) (p2 : iI s 78 ≤ 7) {T : TT} (hti : ∀ q ∈ ([77, 75, 78, 79, 81] : List Nat), T.1 q) (hta : ∀ a ∈ ([157, 158, 161] : List Nat), ∀ j, j < (bA a).2.2 → T.2 a j) : CD l s0 D A dT 205 (rmN 205) [77, 79, 80, 78] [] T (T) [.ref (A 179), .int (Int32.ofInt x)] s (fun o t => Bd t ∧ Fm [77, 79, 80, 78] [] s t ∧ o = .inl none ∧ (iI t 77 = iI s 77 + x ∧ iI t 78 = iI s 78 + 1 ∧ (iI s 79 ≠ 0 → iI t 79 ≠ 0) ∧ (iI s 78 = 6 → iI t 79 ≠ 0))) := by
  refine cd_of G (by decide) (Nat.le_of_ble_eq_true rfl) (fun Q hQ => ?_)
  have I0 := I
  show DS l s0 D A dT 205 (rmN 205) [77, 79, 80, 78] [] (T) Q (T) 0 [(0, .ref (A 179)), (1, .int (Int32.ofInt x))] [] s
  have F : Fm [77, 79, 80, 78] [] s s := fm_rf _ _ s
  have b1 : (0 : Int) ≤ iI s 77 ∧ iI s 77 ≤ 400 := I.1 77
  have b2 : (0 : Int) ≤ iI s 78 ∧ iI s 78 ≤ 8 := I.1 78
  have b3 : (0 : Int) ≤ iI s 79 ∧ iI s 79 ≤ 9 := I.1 79
  refine d_lift (fun k ws X h => z_aload_n X (x := A 179) (show cdA 205 0 = some (.aload_n 0, 1, 0, 0, 0) from rfl) (List.Mem.head _) h) ?_
  refine d_getI 179 (show cdA 205 1 = some (.getfield 213, 3, 12, 5, 0) from rfl) (by decide) rfl rfl (hti 78 (by decide)) ?_
  have b4 : (0 : Int) ≤ iI s 78 ∧ iI s 78 ≤ 8 := I.1 78
  refine d_lift (fun k ws X h => z_bipush X (show cdA 205 4 = some (.bipush 6, 2, 0, 0, 6) from rfl) h) ?_
  refine d_br (bo_ne _ _) bx_ne (fun k ws X h1 h2 => z_icmp_ne X (t := 18) (show cdA 205 6 = some (.if_icmp .ne 12, 3, 1, 0, 0) from rfl) (by decide) (rng_to _) (by decide) h1 h2) (fun g5 => ?_) (fun g5 => ?_)
  ·
    refine d_lift (fun k ws X h => z_aload_n X (x := A 179) (show cdA 205 18 = some (.aload_n 0, 1, 0, 0, 0) from rfl) (List.Mem.head _) h) ?_
    refine d_lift (fun k ws X h => w_dup X.1 (ax_d X (show cdA 205 19 = some (.dup, 1, 0, 0, 0) from rfl)) rfl h) ?_
    refine d_getI 179 (show cdA 205 20 = some (.getfield 213, 3, 12, 5, 0) from rfl) (by decide) rfl rfl (hti 78 (by decide)) ?_
    have b6 : (0 : Int) ≤ iI s 78 ∧ iI s 78 ≤ 8 := I.1 78
    refine d_lift (fun k ws X h => z_const X (show cdA 205 23 = some (.iconst 1, 1, 0, 0, 0) from rfl) h) ?_
    refine d_lift (fun k ws X h => z_add X (show cdA 205 24 = some (.iadd, 1, 0, 0, 0) from rfl) h) ?_
    refine d_putI 179 (show cdA 205 25 = some (.putfield 213, 3, 12, 5, 0) from rfl) (by decide) rfl rfl (by decide) rfl rfl rfl (show 78 ∈ _ by decide) (show (0 : Int) ≤ ((iI s 78) + 1) ∧ ((iI s 78) + 1) ≤ 8 by first | exact ⟨oq_54f49eb5 b6.1, oq_18969492 p2⟩ | omega) ⟨by first | exact oq_74de1e16 b6.1 | omega, by first | exact oq_3762dfb5 b6.2 | omega⟩ ?_
    refine d_mono (T' := T) (fun _ h => Or.inr h) (fun _ _ h => h) ?_
    obtain ⟨s7, hs7⟩ : ∃ x0, x0 = uI s 78 (Int32.ofInt ((iI s 78) + 1)) := ⟨_, rfl⟩
    rw [← hs7]
    have Is7 : Bd s7 := by rw [hs7]; exact bd_I I (show (0 : Int) ≤ ((iI s 78) + 1) ∧ ((iI s 78) + 1) ≤ 8 by first | exact ⟨oq_54f49eb5 b6.1, oq_18969492 p2⟩ | omega) ⟨by first | exact oq_74de1e16 b6.1 | omega, by first | exact oq_3762dfb5 b6.2 | omega⟩
    have Fs7 := fm_I (x := Int32.ofInt ((iI s 78) + 1)) F (show 78 ∈ _ by decide)
    rw [← hs7] at Fs7
    have vs7 : iI s7 78 = ((iI s 78) + 1) := by rw [hs7]; exact iI_u ⟨by first | exact oq_74de1e16 b6.1 | omega, by first | exact oq_3762dfb5 b6.2 | omega⟩
    have ws7_77 : iI s7 77 = iI s 77 := by rw [hs7]; rfl
    have ws7_79 : iI s7 79 = iI s 79 := by rw [hs7]; rfl
    refine d_lift (fun k ws X h => z_aload_n X (x := A 179) (show cdA 205 28 = some (.aload_n 0, 1, 0, 0, 0) from rfl) (List.Mem.head _) h) ?_
    refine d_lift (fun k ws X h => w_dup X.1 (ax_d X (show cdA 205 29 = some (.dup, 1, 0, 0, 0) from rfl)) rfl h) ?_
    refine d_getI 179 (show cdA 205 30 = some (.getfield 184, 3, 12, 4, 0) from rfl) (by decide) rfl rfl (hti 77 (by decide)) ?_
    have b8 : (0 : Int) ≤ iI s7 77 ∧ iI s7 77 ≤ 400 := Is7.1 77
    refine d_lift (fun k ws X h => z_load_n X (x := x) (show cdA 205 33 = some (.iload_n 1, 1, 0, 0, 0) from rfl) (List.Mem.tail _ (List.Mem.head _)) h) ?_
    refine d_lift (fun k ws X h => z_add X (show cdA 205 34 = some (.iadd, 1, 0, 0, 0) from rfl) h) ?_
    refine d_putI 179 (show cdA 205 35 = some (.putfield 184, 3, 12, 4, 0) from rfl) (by decide) rfl rfl (by decide) rfl rfl rfl (show 77 ∈ _ by decide) (show (0 : Int) ≤ ((iI s7 77) + x) ∧ ((iI s7 77) + x) ≤ 400 by first | exact ⟨oq_c3299dea p0.1 b8.1, oq_69d89cff p0.2 ws7_77 p1⟩ | omega) ⟨by first | exact oq_96c994d3 p0.1 b8.1 | omega, by first | exact oq_99fe3e62 p0.2 b8.2 | omega⟩ ?_
    refine d_mono (T' := T) (fun _ h => Or.inr h) (fun _ _ h => h) ?_
    obtain ⟨s9, hs9⟩ : ∃ x0, x0 = uI s7 77 (Int32.ofInt ((iI s7 77) + x)) := ⟨_, rfl⟩
    rw [← hs9]
    have Is9 : Bd s9 := by rw [hs9]; exact bd_I Is7 (show (0 : Int) ≤ ((iI s7 77) + x) ∧ ((iI s7 77) + x) ≤ 400 by first | exact ⟨oq_c3299dea p0.1 b8.1, oq_69d89cff p0.2 ws7_77 p1⟩ | omega) ⟨by first | exact oq_96c994d3 p0.1 b8.1 | omega, by first | exact oq_99fe3e62 p0.2 b8.2 | omega⟩
    have Fs9 := fm_I (x := Int32.ofInt ((iI s7 77) + x)) Fs7 (show 77 ∈ _ by decide)
    rw [← hs9] at Fs9
    have vs9 : iI s9 77 = ((iI s7 77) + x) := by rw [hs9]; exact iI_u ⟨by first | exact oq_96c994d3 p0.1 b8.1 | omega, by first | exact oq_99fe3e62 p0.2 b8.2 | omega⟩
    have ws9_78 : iI s9 78 = iI s7 78 := by rw [hs9]; rfl
    have ws9_79 : iI s9 79 = iI s7 79 := by rw [hs9]; rfl
    exact d_vret rfl (show cdA 205 38 = some (.return_, 1, 0, 0, 0) from rfl) (fun _ h => h) (hQ _ _ ⟨Is9, Fs9, rfl, by first | exact ⟨oq_f1381ab8 vs9 ws7_77, oq_4b8d46b3 ws9_78 vs7, oq_3da60cc3 ws9_79 ws7_79 b3.1, oq_2b028323 g5⟩ | omega⟩)
  ·
    refine d_lift (fun k ws X h => z_aload_n X (x := A 179) (show cdA 205 9 = some (.aload_n 0, 1, 0, 0, 0) from rfl) (List.Mem.head _) h) ?_
    refine d_lift (fun k ws X h => z_const X (show cdA 205 10 = some (.iconst 3, 1, 0, 0, 0) from rfl) h) ?_
    refine d_lift (fun k ws X h => z_aload_n X (x := A 179) (show cdA 205 11 = some (.aload_n 0, 1, 0, 0, 0) from rfl) (List.Mem.head _) h) ?_
    refine d_getI 179 (show cdA 205 12 = some (.getfield 184, 3, 12, 4, 0) from rfl) (by decide) rfl rfl (hti 77 (by decide)) ?_
    have b10 : (0 : Int) ≤ iI s 77 ∧ iI s 77 ≤ 400 := I.1 77
    refine d_callV 179 (As := [.int (Int32.ofInt 3), .int (Int32.ofInt (iI s 77))]) (st := []) (show cdA 205 15 = some (.invokevirtual 204, 3, 194, 0, 0) from rfl) rfl (by decide) rfl (d_wrong G I (by first | exact ⟨by decide, by decide⟩ | omega) (by first | exact ⟨oq_ca54ea22 b10.1, b10.2⟩ | omega) (fun q h => hti q ((by decide : ∀ q ∈ ([79] : List Nat), q ∈ ([77, 75, 78, 79, 81] : List Nat)) q h)) (fun a h => hta a ((by decide : ∀ q ∈ ([] : List Nat), q ∈ ([157, 158, 161] : List Nat)) a h))) ⟨rfl, rfl⟩ ⟨(show 6 + 1 ≤ 7 from oq_7ae2681c), (show 8 + (mNL (miB 194) + 11) + 100 ≤ 122 from oq_91725b71)⟩ (Nat.le_of_ble_eq_true rfl) (by decide) (by decide) (fun ee s11 hq => ?_) (fun vv s11 hq => ?_)
    · obtain ⟨Is11, Fs11, hv, hps11⟩ := hq; cases hv
    obtain ⟨Is11, Fs11, hv, hps11⟩ := hq
    cases hv
    have Gs11 := fm_ts F Fs11 (by decide) (by decide)
    have ws11_77 : iI s11 77 = iI s 77 := fm_i Fs11 (by decide)
    have ws11_78 : iI s11 78 = iI s 78 := fm_i Fs11 (by decide)
    have b13 : (0 : Int) ≤ iI s11 79 ∧ iI s11 79 ≤ 9 := Is11.1 79
    show DS l s0 D A dT 205 (rmN 205) [77, 79, 80, 78] [] (T) Q (T) 18 [(0, .ref (A 179)), (1, .int (Int32.ofInt x))] [] s11
    refine d_lift (fun k ws X h => z_aload_n X (x := A 179) (show cdA 205 18 = some (.aload_n 0, 1, 0, 0, 0) from rfl) (List.Mem.head _) h) ?_
    refine d_lift (fun k ws X h => w_dup X.1 (ax_d X (show cdA 205 19 = some (.dup, 1, 0, 0, 0) from rfl)) rfl h) ?_
    refine d_getI 179 (show cdA 205 20 = some (.getfield 213, 3, 12, 5, 0) from rfl) (by decide) rfl rfl (hti 78 (by decide)) ?_
    have b14 : (0 : Int) ≤ iI s11 78 ∧ iI s11 78 ≤ 8 := Is11.1 78
    refine d_lift (fun k ws X h => z_const X (show cdA 205 23 = some (.iconst 1, 1, 0, 0, 0) from rfl) h) ?_
    refine d_lift (fun k ws X h => z_add X (show cdA 205 24 = some (.iadd, 1, 0, 0, 0) from rfl) h) ?_
    refine d_putI 179 (show cdA 205 25 = some (.putfield 213, 3, 12, 5, 0) from rfl) (by decide) rfl rfl (by decide) rfl rfl rfl (show 78 ∈ _ by decide) (show (0 : Int) ≤ ((iI s11 78) + 1) ∧ ((iI s11 78) + 1) ≤ 8 by first | exact ⟨oq_54f49eb5 b14.1, oq_7dbb59f7 ws11_78 g5⟩ | omega) ⟨by first | exact oq_74de1e16 b14.1 | omega, by first | exact oq_3762dfb5 b14.2 | omega⟩ ?_
    refine d_mono (T' := T) (fun _ h => Or.inr h) (fun _ _ h => h) ?_
    obtain ⟨s15, hs15⟩ : ∃ x0, x0 = uI s11 78 (Int32.ofInt ((iI s11 78) + 1)) := ⟨_, rfl⟩
    rw [← hs15]
    have Is15 : Bd s15 := by rw [hs15]; exact bd_I Is11 (show (0 : Int) ≤ ((iI s11 78) + 1) ∧ ((iI s11 78) + 1) ≤ 8 by first | exact ⟨oq_54f49eb5 b14.1, oq_7dbb59f7 ws11_78 g5⟩ | omega) ⟨by first | exact oq_74de1e16 b14.1 | omega, by first | exact oq_3762dfb5 b14.2 | omega⟩
    have Fs15 := fm_I (x := Int32.ofInt ((iI s11 78) + 1)) Gs11 (show 78 ∈ _ by decide)
    rw [← hs15] at Fs15
    have vs15 : iI s15 78 = ((iI s11 78) + 1) := by rw [hs15]; exact iI_u ⟨by first | exact oq_74de1e16 b14.1 | omega, by first | exact oq_3762dfb5 b14.2 | omega⟩
    have ws15_77 : iI s15 77 = iI s11 77 := by rw [hs15]; rfl
    have ws15_79 : iI s15 79 = iI s11 79 := by rw [hs15]; rfl
    refine d_lift (fun k ws X h => z_aload_n X (x := A 179) (show cdA 205 28 = some (.aload_n 0, 1, 0, 0, 0) from rfl) (List.Mem.head _) h) ?_
    refine d_lift (fun k ws X h => w_dup X.1 (ax_d X (show cdA 205 29 = some (.dup, 1, 0, 0, 0) from rfl)) rfl h) ?_
    refine d_getI 179 (show cdA 205 30 = some (.getfield 184, 3, 12, 4, 0) from rfl) (by decide) rfl rfl (hti 77 (by decide)) ?_
    have b16 : (0 : Int) ≤ iI s15 77 ∧ iI s15 77 ≤ 400 := Is15.1 77
    refine d_lift (fun k ws X h => z_load_n X (x := x) (show cdA 205 33 = some (.iload_n 1, 1, 0, 0, 0) from rfl) (List.Mem.tail _ (List.Mem.head _)) h) ?_
    refine d_lift (fun k ws X h => z_add X (show cdA 205 34 = some (.iadd, 1, 0, 0, 0) from rfl) h) ?_
    refine d_putI 179 (show cdA 205 35 = some (.putfield 184, 3, 12, 4, 0) from rfl) (by decide) rfl rfl (by decide) rfl rfl rfl (show 77 ∈ _ by decide) (show (0 : Int) ≤ ((iI s15 77) + x) ∧ ((iI s15 77) + x) ≤ 400 by first | exact ⟨oq_c3299dea p0.1 b16.1, oq_75116c0c p0.2 ws15_77 ws11_77 p1⟩ | omega) ⟨by first | exact oq_96c994d3 p0.1 b16.1 | omega, by first | exact oq_99fe3e62 p0.2 b16.2 | omega⟩ ?_
    refine d_mono (T' := T) (fun _ h => Or.inr h) (fun _ _ h => h) ?_
    obtain ⟨s17, hs17⟩ : ∃ x0, x0 = uI s15 77 (Int32.ofInt ((iI s15 77) + x)) := ⟨_, rfl⟩
    rw [← hs17]
    have Is17 : Bd s17 := by rw [hs17]; exact bd_I Is15 (show (0 : Int) ≤ ((iI s15 77) + x) ∧ ((iI s15 77) + x) ≤ 400 by first | exact ⟨oq_c3299dea p0.1 b16.1, oq_75116c0c p0.2 ws15_77 ws11_77 p1⟩ | omega) ⟨by first | exact oq_96c994d3 p0.1 b16.1 | omega, by first | exact oq_99fe3e62 p0.2 b16.2 | omega⟩
    have Fs17 := fm_I (x := Int32.ofInt ((iI s15 77) + x)) Fs15 (show 77 ∈ _ by decide)
    rw [← hs17] at Fs17
    have vs17 : iI s17 77 = ((iI s15 77) + x) := by rw [hs17]; exact iI_u ⟨by first | exact oq_96c994d3 p0.1 b16.1 | omega, by first | exact oq_99fe3e62 p0.2 b16.2 | omega⟩
    have ws17_78 : iI s17 78 = iI s15 78 := by rw [hs17]; rfl
    have ws17_79 : iI s17 79 = iI s15 79 := by rw [hs17]; rfl
    exact d_vret rfl (show cdA 205 38 = some (.return_, 1, 0, 0, 0) from rfl) (fun _ h => h) (hQ _ _ ⟨Is17, Fs17, rfl, by first | exact ⟨oq_0f45dae9 vs17 ws11_77 ws15_77, oq_20fce6d9 ws17_78 vs15 ws11_78, oq_07c40900 ws17_79 ws15_79 b13.1 hps11, oq_43918552 ws17_79 ws15_79 b13.1 hps11⟩ | omega⟩)
set_option maxHeartbeats 16000000 in
theorem d_number (G : GX l s0 D tys a0 dT) (I : Bd s) {x y : Int} (p0 : rng x) (p1 : rng y) (p2 : iI s 77 ≤ 390) {T : TT} (hti : ∀ q ∈ ([77, 75, 78, 79, 81] : List Nat), T.1 q) (hta : ∀ a ∈ ([157, 158, 161] : List Nat), ∀ j, j < (bA a).2.2 → T.2 a j) : CD l s0 D A dT 196 (rmN 196) [77, 79, 80] [] T (T) [.ref (A 179), .int (Int32.ofInt x), .int (Int32.ofInt y)] s (fun o t => Bd t ∧ Fm [77, 79, 80] [] s t ∧ ∃ e, o = .inl (some (.int (Int32.ofInt e))) ∧ rng e ∧ (iI s 77 ≤ iI t 77 ∧ (iI t 77 = iI s 77 ∨ iI t 77 ≤ iI s 75) ∧ (iI s 79 ≠ 0 → iI t 79 ≠ 0) ∧ (iI t 79 = 0 → x ≤ e ∧ e ≤ y) ∧ e ≤ 100000)) := by
  refine cd_of G (by decide) (Nat.le_of_ble_eq_true rfl) (fun Q hQ => ?_)
  have I0 := I
  show DS l s0 D A dT 196 (rmN 196) [77, 79, 80] [] (T) Q (T) 0 [(0, .ref (A 179)), (1, .int (Int32.ofInt x)), (2, .int (Int32.ofInt y))] [] s
  have F : Fm [77, 79, 80] [] s s := fm_rf _ _ s
  have b1 : (0 : Int) ≤ iI s 77 ∧ iI s 77 ≤ 400 := I.1 77
  have b2 : (0 : Int) ≤ iI s 75 ∧ iI s 75 ≤ 200 := I.1 75
  have b3 : (0 : Int) ≤ iI s 79 ∧ iI s 79 ≤ 9 := I.1 79
  have L35 : ∀ (n : Nat) (t : PS) (xv yv bv vv : Int), Bd t → Fm [77, 79, 80] [] s t → (iI s 77 ≤ iI t 77 ∧ (iI t 77 = iI s 77 ∨ iI t 77 ≤ iI s 75) ∧ iI t 75 = iI s 75 ∧ (iI s 79 ≠ 0 → iI t 79 ≠ 0) ∧ xv = x ∧ yv = y ∧ (0 ≤ bv ∧ bv ≤ 400) ∧ rng vv ∧ vv ≤ 100000) → (iI t 75 - iI t 77 : Int).toNat < n → (∀ (t' : PS) (xv' yv' bv' vv' : Int), Bd t' → Fm [77, 79, 80] [] s t' → (iI s 77 ≤ iI t' 77 ∧ (iI t' 77 = iI s 77 ∨ iI t' 77 ≤ iI s 75) ∧ iI t' 75 = iI s 75 ∧ (iI s 79 ≠ 0 → iI t' 79 ≠ 0) ∧ xv' = x ∧ yv' = y ∧ (0 ≤ bv' ∧ bv' ≤ 400) ∧ rng vv' ∧ vv' ≤ 100000) → DS l s0 D A dT 196 (rmN 196) [77, 79, 80] [] (T) Q (T) 97 [(0, .ref (A 179)), (1, .int (Int32.ofInt xv')), (2, .int (Int32.ofInt yv')), (3, .int (Int32.ofInt bv')), (4, .int (Int32.ofInt vv'))] [] t') → DS l s0 D A dT 196 (rmN 196) [77, 79, 80] [] (T) Q (T) 35 [(0, .ref (A 179)), (1, .int (Int32.ofInt xv)), (2, .int (Int32.ofInt yv)), (3, .int (Int32.ofInt bv)), (4, .int (Int32.ofInt vv))] [] t := by
    intro n
    induction n with
    | zero =>
      intro t xv yv bv vv I F hi hm kx
      exact absurd hm (Nat.not_lt_zero _)
    | succ n ih =>
      intro t xv yv bv vv I F hi hm kx
      have b1001 : (0 : Int) ≤ iI t 77 ∧ iI t 77 ≤ 400 := I.1 77
      have b1002 : (0 : Int) ≤ iI t 75 ∧ iI t 75 ≤ 200 := I.1 75
      have b1003 : (0 : Int) ≤ iI t 79 ∧ iI t 79 ≤ 9 := I.1 79
      refine d_lift (fun k ws X h => z_aload_n X (x := A 179) (show cdA 196 35 = some (.aload_n 0, 1, 0, 0, 0) from rfl) (List.Mem.head _) h) ?_
      refine d_lift (fun k ws X h => z_aload_n X (x := A 179) (show cdA 196 36 = some (.aload_n 0, 1, 0, 0, 0) from rfl) (List.Mem.head _) h) ?_
      refine d_getI 179 (show cdA 196 37 = some (.getfield 184, 3, 12, 4, 0) from rfl) (by decide) rfl rfl (hti 77 (by decide)) ?_
      have b1004 : (0 : Int) ≤ iI t 77 ∧ iI t 77 ≤ 400 := I.1 77
      refine d_callV 179 (As := [.int (Int32.ofInt (iI t 77))]) (st := []) (show cdA 196 40 = some (.invokevirtual 187, 3, 192, 0, 0) from rfl) rfl (by decide) rfl (d_byteAt G I (by first | exact ⟨b1004.1, oq_5a8480eb b1004.2⟩ | omega) (fun q h => hti q ((by decide : ∀ q ∈ ([75, 81] : List Nat), q ∈ ([77, 75, 78, 79, 81] : List Nat)) q h)) (fun a h => hta a ((by decide : ∀ q ∈ ([157, 158] : List Nat), q ∈ ([157, 158, 161] : List Nat)) a h))) ⟨rfl, rfl⟩ ⟨(show 6 + 1 ≤ 8 from oq_42eed11c), (show 8 + (mNL (miB 192) + 11) + 100 ≤ 141 from oq_dc08f8ae)⟩ (Nat.le_of_ble_eq_true rfl) (by decide) (by decide) (fun ee s1005 hq => ?_) (fun vv s1005 hq => ?_)
      · obtain ⟨Is1005, Fs1005, e1006, hv, hrs1005, hps1005⟩ := hq; cases hv
      obtain ⟨Is1005, Fs1005, e1006, hv, hrs1005, hps1005⟩ := hq
      cases hv
      have Gs1005 := fm_ts F Fs1005 (by decide) (by decide)
      have ws1005_77 : iI s1005 77 = iI t 77 := fm_i Fs1005 (by decide)
      have ws1005_75 : iI s1005 75 = iI t 75 := fm_i Fs1005 (by decide)
      have ws1005_79 : iI s1005 79 = iI t 79 := fm_i Fs1005 (by decide)
      show DS l s0 D A dT 196 (rmN 196) [77, 79, 80] [] (T) Q (T) 43 [(0, .ref (A 179)), (1, .int (Int32.ofInt xv)), (2, .int (Int32.ofInt yv)), (3, .int (Int32.ofInt bv)), (4, .int (Int32.ofInt vv))] [.int (Int32.ofInt e1006)] s1005
      refine d_callT (As := [.int (Int32.ofInt e1006)]) (st := []) (show cdA 196 43 = some (.invokestatic 200, 3, 195, 1, 0) from rfl) rfl (d_isDigit G Is1005 (by first | exact ⟨hrs1005.1, hrs1005.2⟩ | omega) (fun q h => hti q ((by decide : ∀ q ∈ ([] : List Nat), q ∈ ([77, 75, 78, 79, 81] : List Nat)) q h)) (fun a h => hta a ((by decide : ∀ q ∈ ([] : List Nat), q ∈ ([157, 158, 161] : List Nat)) a h))) ⟨rfl, rfl⟩ ⟨(show 6 + 1 ≤ 8 from oq_42eed11c), (show 8 + (mNL (miB 195) + 11) + 100 ≤ 141 from oq_4c2c9485)⟩ (Nat.le_of_ble_eq_true rfl) (by decide) (by decide) (fun ee s1007 hq => ?_) (fun vv s1007 hq => ?_)
      · obtain ⟨Is1007, Fs1007, e1008, hv, hrs1007, hps1007⟩ := hq; cases hv
      obtain ⟨Is1007, Fs1007, e1008, hv, hrs1007, hps1007⟩ := hq
      cases hv
      have Gs1007 := fm_ts Gs1005 Fs1007 (by decide) (by decide)
      have ws1007_77 : iI s1007 77 = iI s1005 77 := fm_i Fs1007 (by decide)
      have ws1007_75 : iI s1007 75 = iI s1005 75 := fm_i Fs1007 (by decide)
      have ws1007_79 : iI s1007 79 = iI s1005 79 := fm_i Fs1007 (by decide)
      show DS l s0 D A dT 196 (rmN 196) [77, 79, 80] [] (T) Q (T) 46 [(0, .ref (A 179)), (1, .int (Int32.ofInt xv)), (2, .int (Int32.ofInt yv)), (3, .int (Int32.ofInt bv)), (4, .int (Int32.ofInt vv))] [.int (Int32.ofInt e1008)] s1007
      refine d_br (bo_eq _ _) bx_eq (fun k ws X h1 h2 => z_if_eq X (t := 97) (show cdA 196 46 = some (.ifCond .eq 51, 3, 0, 0, 0) from rfl) (by decide) hrs1007 h1 h2) (fun g1009 => ?_) (fun g1009 => ?_)
      ·
        refine d_lvs (lv := [(0, .ref (A 179)), (1, .int (Int32.ofInt xv)), (2, .int (Int32.ofInt yv)), (3, .int (Int32.ofInt bv)), (4, .int (Int32.ofInt vv))]) (List.forall_mem_cons.mpr ⟨(List.Mem.head _), (List.forall_mem_cons.mpr ⟨(List.Mem.tail _ (List.Mem.head _)), (List.forall_mem_cons.mpr ⟨(List.Mem.tail _ (List.Mem.tail _ (List.Mem.head _))), (List.forall_mem_cons.mpr ⟨(List.Mem.tail _ (List.Mem.tail _ (List.Mem.tail _ (List.Mem.head _)))), (List.forall_mem_cons.mpr ⟨(List.Mem.tail _ (List.Mem.tail _ (List.Mem.tail _ (List.Mem.tail _ (List.Mem.head _))))), (fun q h => absurd h List.not_mem_nil)⟩)⟩)⟩)⟩)⟩) ?_
        exact kx _ xv yv bv vv Is1007 Gs1007 (by first | exact ⟨oq_2954f754 ws1007_77 ws1005_77 hi.1, oq_9d983156 ws1007_77 ws1005_77 hi.2.1 hi.1, oq_d0d2714e ws1007_75 hi.2.2.1 ws1005_75, oq_c694edf3 ws1007_79 ws1005_79 b1003.1 hi.2.2.2.1 b3.1, hi.2.2.2.2.1, hi.2.2.2.2.2.1, And.intro (hi.2.2.2.2.2.2.1.1) (hi.2.2.2.2.2.2.1.2), And.intro (hi.2.2.2.2.2.2.2.1.1) (hi.2.2.2.2.2.2.2.1.2), hi.2.2.2.2.2.2.2.2⟩ | omega)
      ·
        refine d_lift (fun k ws X h => z_bipush X (show cdA 196 49 = some (.bipush 10, 2, 0, 0, 10) from rfl) h) ?_
        refine d_lift (fun k ws X h => z_load X (x := vv) (show cdA 196 51 = some (.iload 4, 2, 0, 0, 0) from rfl) (List.Mem.tail _ (List.Mem.tail _ (List.Mem.tail _ (List.Mem.tail _ (List.Mem.head _))))) h) ?_
        refine d_lift (fun k ws X h => z_mul X (show cdA 196 53 = some (.imul, 1, 0, 0, 0) from rfl) h) ?_
        refine d_lift (fun k ws X h => z_aload_n X (x := A 179) (show cdA 196 54 = some (.aload_n 0, 1, 0, 0, 0) from rfl) (List.Mem.head _) h) ?_
        refine d_lift (fun k ws X h => z_aload_n X (x := A 179) (show cdA 196 55 = some (.aload_n 0, 1, 0, 0, 0) from rfl) (List.Mem.head _) h) ?_
        refine d_getI 179 (show cdA 196 56 = some (.getfield 184, 3, 12, 4, 0) from rfl) (by decide) rfl rfl (hti 77 (by decide)) ?_
        have b1010 : (0 : Int) ≤ iI s1007 77 ∧ iI s1007 77 ≤ 400 := Is1007.1 77
        refine d_callV 179 (As := [.int (Int32.ofInt (iI s1007 77))]) (st := [.int (Int32.ofInt (10 * vv))]) (show cdA 196 59 = some (.invokevirtual 187, 3, 192, 0, 0) from rfl) rfl (by decide) rfl (d_byteAt G Is1007 (by first | exact ⟨b1010.1, oq_5a8480eb b1010.2⟩ | omega) (fun q h => hti q ((by decide : ∀ q ∈ ([75, 81] : List Nat), q ∈ ([77, 75, 78, 79, 81] : List Nat)) q h)) (fun a h => hta a ((by decide : ∀ q ∈ ([157, 158] : List Nat), q ∈ ([157, 158, 161] : List Nat)) a h))) ⟨rfl, rfl⟩ ⟨(show 6 + 1 ≤ 8 from oq_42eed11c), (show 8 + (mNL (miB 192) + 11) + 100 ≤ 141 from oq_dc08f8ae)⟩ (Nat.le_of_ble_eq_true rfl) (by decide) (by decide) (fun ee s1011 hq => ?_) (fun vv s1011 hq => ?_)
        · obtain ⟨Is1011, Fs1011, e1012, hv, hrs1011, hps1011⟩ := hq; cases hv
        obtain ⟨Is1011, Fs1011, e1012, hv, hrs1011, hps1011⟩ := hq
        cases hv
        have Gs1011 := fm_ts Gs1007 Fs1011 (by decide) (by decide)
        have ws1011_77 : iI s1011 77 = iI s1007 77 := fm_i Fs1011 (by decide)
        have ws1011_75 : iI s1011 75 = iI s1007 75 := fm_i Fs1011 (by decide)
        have ws1011_79 : iI s1011 79 = iI s1007 79 := fm_i Fs1011 (by decide)
        show DS l s0 D A dT 196 (rmN 196) [77, 79, 80] [] (T) Q (T) 62 [(0, .ref (A 179)), (1, .int (Int32.ofInt xv)), (2, .int (Int32.ofInt yv)), (3, .int (Int32.ofInt bv)), (4, .int (Int32.ofInt vv))] [.int (Int32.ofInt e1012), .int (Int32.ofInt (10 * vv))] s1011
        refine d_lift (fun k ws X h => z_add X (show cdA 196 62 = some (.iadd, 1, 0, 0, 0) from rfl) h) ?_
        refine d_lift (fun k ws X h => z_bipush X (show cdA 196 63 = some (.bipush 48, 2, 0, 0, 48) from rfl) h) ?_
        refine d_lift (fun k ws X h => z_sub X (show cdA 196 65 = some (.isub, 1, 0, 0, 0) from rfl) h) ?_
        refine d_any (fun y1013 hy1013 => ?_)
        refine d_lift (fun k ws X h => z_store X (lv' := [(4, .int (Int32.ofInt y1013)), (0, .ref (A 179)), (1, .int (Int32.ofInt xv)), (2, .int (Int32.ofInt yv)), (3, .int (Int32.ofInt bv))]) (show cdA 196 66 = some (.istore 4, 2, 0, 0, 0) from rfl) (by decide) (fun _ h => h) h) ?_
        refine d_lift (fun k ws X h => z_load X (x := y1013) (show cdA 196 68 = some (.iload 4, 2, 0, 0, 0) from rfl) (List.Mem.head _) h) ?_
        refine d_lift (fun k ws X h => z_ldc X (show cdA 196 70 = some (.ldc 208, 2, 0, 0, 100000) from rfl) h) ?_
        refine d_br (bo_le _ _) bx_le (fun k ws X h1 h2 => z_icmp_le X (t := 80) (show cdA 196 72 = some (.if_icmp .le 8, 3, 5, 0, 0) from rfl) (by decide) hy1013 (by decide) h1 h2) (fun g1014 => ?_) (fun g1014 => ?_)
        ·
          refine d_lift (fun k ws X h => z_load X (x := y1013) (show cdA 196 80 = some (.iload 4, 2, 0, 0, 0) from rfl) (List.Mem.head _) h) ?_
          refine d_lift (fun k ws X h => z_store X (lv' := [(4, .int (Int32.ofInt y1013)), (0, .ref (A 179)), (1, .int (Int32.ofInt xv)), (2, .int (Int32.ofInt yv)), (3, .int (Int32.ofInt bv))]) (show cdA 196 82 = some (.istore 4, 2, 0, 0, 0) from rfl) (by decide) (fun _ h => h) h) ?_
          refine d_lift (fun k ws X h => z_aload_n X (x := A 179) (show cdA 196 84 = some (.aload_n 0, 1, 0, 0, 0) from rfl) (List.Mem.tail _ (List.Mem.head _)) h) ?_
          refine d_lift (fun k ws X h => w_dup X.1 (ax_d X (show cdA 196 85 = some (.dup, 1, 0, 0, 0) from rfl)) rfl h) ?_
          refine d_getI 179 (show cdA 196 86 = some (.getfield 184, 3, 12, 4, 0) from rfl) (by decide) rfl rfl (hti 77 (by decide)) ?_
          have b1015 : (0 : Int) ≤ iI s1011 77 ∧ iI s1011 77 ≤ 400 := Is1011.1 77
          refine d_lift (fun k ws X h => z_const X (show cdA 196 89 = some (.iconst 1, 1, 0, 0, 0) from rfl) h) ?_
          refine d_lift (fun k ws X h => z_add X (show cdA 196 90 = some (.iadd, 1, 0, 0, 0) from rfl) h) ?_
          refine d_putI 179 (show cdA 196 91 = some (.putfield 184, 3, 12, 4, 0) from rfl) (by decide) rfl rfl (by decide) rfl rfl rfl (show 77 ∈ _ by decide) (show (0 : Int) ≤ ((iI s1011 77) + 1) ∧ ((iI s1011 77) + 1) ≤ 400 by first | exact ⟨oq_54f49eb5 b1015.1, oq_f45fb0af ws1011_77 g1009 ws1007_77 hps1007 ws1005_77 hps1005 b1002.2⟩ | omega) ⟨by first | exact oq_74de1e16 b1015.1 | omega, by first | exact oq_964ce197 b1015.2 | omega⟩ ?_
          refine d_mono (T' := T) (fun _ h => Or.inr h) (fun _ _ h => h) ?_
          obtain ⟨s1016, hs1016⟩ : ∃ x0, x0 = uI s1011 77 (Int32.ofInt ((iI s1011 77) + 1)) := ⟨_, rfl⟩
          rw [← hs1016]
          have Is1016 : Bd s1016 := by rw [hs1016]; exact bd_I Is1011 (show (0 : Int) ≤ ((iI s1011 77) + 1) ∧ ((iI s1011 77) + 1) ≤ 400 by first | exact ⟨oq_54f49eb5 b1015.1, oq_f45fb0af ws1011_77 g1009 ws1007_77 hps1007 ws1005_77 hps1005 b1002.2⟩ | omega) ⟨by first | exact oq_74de1e16 b1015.1 | omega, by first | exact oq_964ce197 b1015.2 | omega⟩
          have Fs1016 := fm_I (x := Int32.ofInt ((iI s1011 77) + 1)) Gs1011 (show 77 ∈ _ by decide)
          rw [← hs1016] at Fs1016
          have vs1016 : iI s1016 77 = ((iI s1011 77) + 1) := by rw [hs1016]; exact iI_u ⟨by first | exact oq_74de1e16 b1015.1 | omega, by first | exact oq_964ce197 b1015.2 | omega⟩
          have ws1016_75 : iI s1016 75 = iI s1011 75 := by rw [hs1016]; rfl
          have ws1016_79 : iI s1016 79 = iI s1011 79 := by rw [hs1016]; rfl
          refine d_lift (fun k ws X h => z_goto X (t := 35) (show cdA 196 94 = some (.goto (-59), 3, 0, 0, 0) from rfl) (by decide) h) ?_
          refine d_lvs (lv := [(0, .ref (A 179)), (1, .int (Int32.ofInt xv)), (2, .int (Int32.ofInt yv)), (3, .int (Int32.ofInt bv)), (4, .int (Int32.ofInt y1013))]) (List.forall_mem_cons.mpr ⟨(List.Mem.tail _ (List.Mem.head _)), (List.forall_mem_cons.mpr ⟨(List.Mem.tail _ (List.Mem.tail _ (List.Mem.head _))), (List.forall_mem_cons.mpr ⟨(List.Mem.tail _ (List.Mem.tail _ (List.Mem.tail _ (List.Mem.head _)))), (List.forall_mem_cons.mpr ⟨(List.Mem.tail _ (List.Mem.tail _ (List.Mem.tail _ (List.Mem.tail _ (List.Mem.head _))))), (List.forall_mem_cons.mpr ⟨(List.Mem.head _), (fun q h => absurd h List.not_mem_nil)⟩)⟩)⟩)⟩)⟩) ?_
          exact ih _ xv yv bv y1013 Is1016 Fs1016 (by first | exact ⟨oq_09a0992e vs1016 hi.1 ws1011_77 ws1005_77 ws1007_77, oq_f92305f6 vs1016 ws1011_77 hps1011 g1009 ws1007_75 ws1007_77 hps1007 ws1005_75 ws1005_77 hps1005 hi.2.2.1, oq_b4d295d9 ws1016_75 hi.2.2.1 ws1011_75 ws1007_75 ws1005_75, oq_3bb1476c ws1016_79 ws1011_79 ws1007_79 ws1005_79 b1003.1 hi.2.2.2.1 b3.1, hi.2.2.2.2.1, hi.2.2.2.2.2.1, And.intro (hi.2.2.2.2.2.2.1.1) (hi.2.2.2.2.2.2.1.2), And.intro (hy1013.1) (hy1013.2), g1014⟩ | omega) (by first | exact qk_me hm (oq_7fe4a191 ws1016_75 vs1016 ws1011_75 ws1011_77 ws1007_75 ws1007_77 ws1005_75 ws1005_77) (oq_ff13add5 g1009 hps1007 hps1005) | omega) kx
        ·
          refine d_lift (fun k ws X h => z_ldc X (show cdA 196 75 = some (.ldc 208, 2, 0, 0, 100000) from rfl) h) ?_
          refine d_lift (fun k ws X h => z_goto X (t := 82) (show cdA 196 77 = some (.goto 5, 3, 0, 0, 0) from rfl) (by decide) h) ?_
          refine d_lift (fun k ws X h => z_store X (lv' := [(4, .int (Int32.ofInt 100000)), (0, .ref (A 179)), (1, .int (Int32.ofInt xv)), (2, .int (Int32.ofInt yv)), (3, .int (Int32.ofInt bv))]) (show cdA 196 82 = some (.istore 4, 2, 0, 0, 0) from rfl) (by decide) (fun _ h => h) h) ?_
          refine d_lift (fun k ws X h => z_aload_n X (x := A 179) (show cdA 196 84 = some (.aload_n 0, 1, 0, 0, 0) from rfl) (List.Mem.tail _ (List.Mem.head _)) h) ?_
          refine d_lift (fun k ws X h => w_dup X.1 (ax_d X (show cdA 196 85 = some (.dup, 1, 0, 0, 0) from rfl)) rfl h) ?_
          refine d_getI 179 (show cdA 196 86 = some (.getfield 184, 3, 12, 4, 0) from rfl) (by decide) rfl rfl (hti 77 (by decide)) ?_
          have b1017 : (0 : Int) ≤ iI s1011 77 ∧ iI s1011 77 ≤ 400 := Is1011.1 77
          refine d_lift (fun k ws X h => z_const X (show cdA 196 89 = some (.iconst 1, 1, 0, 0, 0) from rfl) h) ?_
          refine d_lift (fun k ws X h => z_add X (show cdA 196 90 = some (.iadd, 1, 0, 0, 0) from rfl) h) ?_
          refine d_putI 179 (show cdA 196 91 = some (.putfield 184, 3, 12, 4, 0) from rfl) (by decide) rfl rfl (by decide) rfl rfl rfl (show 77 ∈ _ by decide) (show (0 : Int) ≤ ((iI s1011 77) + 1) ∧ ((iI s1011 77) + 1) ≤ 400 by first | exact ⟨oq_54f49eb5 b1017.1, oq_f45fb0af ws1011_77 g1009 ws1007_77 hps1007 ws1005_77 hps1005 b1002.2⟩ | omega) ⟨by first | exact oq_74de1e16 b1017.1 | omega, by first | exact oq_964ce197 b1017.2 | omega⟩ ?_
          refine d_mono (T' := T) (fun _ h => Or.inr h) (fun _ _ h => h) ?_
          obtain ⟨s1018, hs1018⟩ : ∃ x0, x0 = uI s1011 77 (Int32.ofInt ((iI s1011 77) + 1)) := ⟨_, rfl⟩
          rw [← hs1018]
          have Is1018 : Bd s1018 := by rw [hs1018]; exact bd_I Is1011 (show (0 : Int) ≤ ((iI s1011 77) + 1) ∧ ((iI s1011 77) + 1) ≤ 400 by first | exact ⟨oq_54f49eb5 b1017.1, oq_f45fb0af ws1011_77 g1009 ws1007_77 hps1007 ws1005_77 hps1005 b1002.2⟩ | omega) ⟨by first | exact oq_74de1e16 b1017.1 | omega, by first | exact oq_964ce197 b1017.2 | omega⟩
          have Fs1018 := fm_I (x := Int32.ofInt ((iI s1011 77) + 1)) Gs1011 (show 77 ∈ _ by decide)
          rw [← hs1018] at Fs1018
          have vs1018 : iI s1018 77 = ((iI s1011 77) + 1) := by rw [hs1018]; exact iI_u ⟨by first | exact oq_74de1e16 b1017.1 | omega, by first | exact oq_964ce197 b1017.2 | omega⟩
          have ws1018_75 : iI s1018 75 = iI s1011 75 := by rw [hs1018]; rfl
          have ws1018_79 : iI s1018 79 = iI s1011 79 := by rw [hs1018]; rfl
          refine d_lift (fun k ws X h => z_goto X (t := 35) (show cdA 196 94 = some (.goto (-59), 3, 0, 0, 0) from rfl) (by decide) h) ?_
          refine d_lvs (lv := [(0, .ref (A 179)), (1, .int (Int32.ofInt xv)), (2, .int (Int32.ofInt yv)), (3, .int (Int32.ofInt bv)), (4, .int (Int32.ofInt 100000))]) (List.forall_mem_cons.mpr ⟨(List.Mem.tail _ (List.Mem.head _)), (List.forall_mem_cons.mpr ⟨(List.Mem.tail _ (List.Mem.tail _ (List.Mem.head _))), (List.forall_mem_cons.mpr ⟨(List.Mem.tail _ (List.Mem.tail _ (List.Mem.tail _ (List.Mem.head _)))), (List.forall_mem_cons.mpr ⟨(List.Mem.tail _ (List.Mem.tail _ (List.Mem.tail _ (List.Mem.tail _ (List.Mem.head _))))), (List.forall_mem_cons.mpr ⟨(List.Mem.head _), (fun q h => absurd h List.not_mem_nil)⟩)⟩)⟩)⟩)⟩) ?_
          exact ih _ xv yv bv 100000 Is1018 Fs1018 (by first | exact ⟨oq_09a0992e vs1018 hi.1 ws1011_77 ws1005_77 ws1007_77, oq_f92305f6 vs1018 ws1011_77 hps1011 g1009 ws1007_75 ws1007_77 hps1007 ws1005_75 ws1005_77 hps1005 hi.2.2.1, oq_b4d295d9 ws1018_75 hi.2.2.1 ws1011_75 ws1007_75 ws1005_75, oq_3bb1476c ws1018_79 ws1011_79 ws1007_79 ws1005_79 b1003.1 hi.2.2.2.1 b3.1, hi.2.2.2.2.1, hi.2.2.2.2.2.1, And.intro (hi.2.2.2.2.2.2.1.1) (hi.2.2.2.2.2.2.1.2), And.intro (by decide) (by decide), by decide⟩ | omega) (by first | exact qk_me hm (oq_7fe4a191 ws1018_75 vs1018 ws1011_75 ws1011_77 ws1007_75 ws1007_77 ws1005_75 ws1005_77) (oq_ff13add5 g1009 hps1007 hps1005) | omega) kx
  refine d_lift (fun k ws X h => z_aload_n X (x := A 179) (show cdA 196 0 = some (.aload_n 0, 1, 0, 0, 0) from rfl) (List.Mem.head _) h) ?_
  refine d_callV 179 (As := []) (st := []) (show cdA 196 1 = some (.invokevirtual 197, 3, 193, 0, 0) from rfl) rfl (by decide) rfl (d_blanks G I (by first | exact p2 | omega) (fun q h => hti q ((by decide : ∀ q ∈ ([77, 75, 78, 79, 81] : List Nat), q ∈ ([77, 75, 78, 79, 81] : List Nat)) q h)) (fun a h => hta a ((by decide : ∀ q ∈ ([157, 158, 161] : List Nat), q ∈ ([157, 158, 161] : List Nat)) a h))) ⟨rfl, rfl⟩ ⟨(show 7 + 1 ≤ 8 from oq_519c1fd2), (show 8 + (mNL (miB 193) + 11) + 121 ≤ 141 from oq_67025191)⟩ (Nat.le_of_ble_eq_true rfl) (by decide) (by decide) (fun ee s4 hq => ?_) (fun vv s4 hq => ?_)
  · obtain ⟨Is4, Fs4, hv, hps4⟩ := hq; cases hv
  obtain ⟨Is4, Fs4, hv, hps4⟩ := hq
  cases hv
  have Gs4 := fm_ts F Fs4 (by decide) (by decide)
  have b6 : (0 : Int) ≤ iI s4 77 ∧ iI s4 77 ≤ 400 := Is4.1 77
  have ws4_75 : iI s4 75 = iI s 75 := fm_i Fs4 (by decide)
  have ws4_79 : iI s4 79 = iI s 79 := fm_i Fs4 (by decide)
  show DS l s0 D A dT 196 (rmN 196) [77, 79, 80] [] (T) Q (T) 4 [(0, .ref (A 179)), (1, .int (Int32.ofInt x)), (2, .int (Int32.ofInt y))] [] s4
  refine d_lift (fun k ws X h => z_aload_n X (x := A 179) (show cdA 196 4 = some (.aload_n 0, 1, 0, 0, 0) from rfl) (List.Mem.head _) h) ?_
  refine d_getI 179 (show cdA 196 5 = some (.getfield 184, 3, 12, 4, 0) from rfl) (by decide) rfl rfl (hti 77 (by decide)) ?_
  have b7 : (0 : Int) ≤ iI s4 77 ∧ iI s4 77 ≤ 400 := Is4.1 77
  refine d_lift (fun k ws X h => z_store_n X (lv' := [(3, .int (Int32.ofInt (iI s4 77))), (0, .ref (A 179)), (1, .int (Int32.ofInt x)), (2, .int (Int32.ofInt y))]) (show cdA 196 8 = some (.istore_n 3, 1, 0, 0, 0) from rfl) (by decide) (fun _ h => h) h) ?_
  refine d_lift (fun k ws X h => z_const X (show cdA 196 9 = some (.iconst 0, 1, 0, 0, 0) from rfl) h) ?_
  refine d_lift (fun k ws X h => z_store X (lv' := [(4, .int (Int32.ofInt 0)), (3, .int (Int32.ofInt (iI s4 77))), (0, .ref (A 179)), (1, .int (Int32.ofInt x)), (2, .int (Int32.ofInt y))]) (show cdA 196 10 = some (.istore 4, 2, 0, 0, 0) from rfl) (by decide) (fun _ h => h) h) ?_
  refine d_lift (fun k ws X h => z_aload_n X (x := A 179) (show cdA 196 12 = some (.aload_n 0, 1, 0, 0, 0) from rfl) (List.Mem.tail _ (List.Mem.tail _ (List.Mem.head _))) h) ?_
  refine d_lift (fun k ws X h => z_aload_n X (x := A 179) (show cdA 196 13 = some (.aload_n 0, 1, 0, 0, 0) from rfl) (List.Mem.tail _ (List.Mem.tail _ (List.Mem.head _))) h) ?_
  refine d_getI 179 (show cdA 196 14 = some (.getfield 184, 3, 12, 4, 0) from rfl) (by decide) rfl rfl (hti 77 (by decide)) ?_
  have b8 : (0 : Int) ≤ iI s4 77 ∧ iI s4 77 ≤ 400 := Is4.1 77
  refine d_callV 179 (As := [.int (Int32.ofInt (iI s4 77))]) (st := []) (show cdA 196 17 = some (.invokevirtual 187, 3, 192, 0, 0) from rfl) rfl (by decide) rfl (d_byteAt G Is4 (by first | exact ⟨b8.1, oq_5a8480eb b8.2⟩ | omega) (fun q h => hti q ((by decide : ∀ q ∈ ([75, 81] : List Nat), q ∈ ([77, 75, 78, 79, 81] : List Nat)) q h)) (fun a h => hta a ((by decide : ∀ q ∈ ([157, 158] : List Nat), q ∈ ([157, 158, 161] : List Nat)) a h))) ⟨rfl, rfl⟩ ⟨(show 6 + 1 ≤ 8 from oq_42eed11c), (show 8 + (mNL (miB 192) + 11) + 100 ≤ 141 from oq_dc08f8ae)⟩ (Nat.le_of_ble_eq_true rfl) (by decide) (by decide) (fun ee s9 hq => ?_) (fun vv s9 hq => ?_)
  · obtain ⟨Is9, Fs9, e10, hv, hrs9, hps9⟩ := hq; cases hv
  obtain ⟨Is9, Fs9, e10, hv, hrs9, hps9⟩ := hq
  cases hv
  have Gs9 := fm_ts Gs4 Fs9 (by decide) (by decide)
  have ws9_77 : iI s9 77 = iI s4 77 := fm_i Fs9 (by decide)
  have ws9_75 : iI s9 75 = iI s4 75 := fm_i Fs9 (by decide)
  have ws9_79 : iI s9 79 = iI s4 79 := fm_i Fs9 (by decide)
  show DS l s0 D A dT 196 (rmN 196) [77, 79, 80] [] (T) Q (T) 20 [(4, .int (Int32.ofInt 0)), (3, .int (Int32.ofInt (iI s4 77))), (0, .ref (A 179)), (1, .int (Int32.ofInt x)), (2, .int (Int32.ofInt y))] [.int (Int32.ofInt e10)] s9
  refine d_callT (As := [.int (Int32.ofInt e10)]) (st := []) (show cdA 196 20 = some (.invokestatic 200, 3, 195, 1, 0) from rfl) rfl (d_isDigit G Is9 (by first | exact ⟨hrs9.1, hrs9.2⟩ | omega) (fun q h => hti q ((by decide : ∀ q ∈ ([] : List Nat), q ∈ ([77, 75, 78, 79, 81] : List Nat)) q h)) (fun a h => hta a ((by decide : ∀ q ∈ ([] : List Nat), q ∈ ([157, 158, 161] : List Nat)) a h))) ⟨rfl, rfl⟩ ⟨(show 6 + 1 ≤ 8 from oq_42eed11c), (show 8 + (mNL (miB 195) + 11) + 100 ≤ 141 from oq_4c2c9485)⟩ (Nat.le_of_ble_eq_true rfl) (by decide) (by decide) (fun ee s11 hq => ?_) (fun vv s11 hq => ?_)
  · obtain ⟨Is11, Fs11, e12, hv, hrs11, hps11⟩ := hq; cases hv
  obtain ⟨Is11, Fs11, e12, hv, hrs11, hps11⟩ := hq
  cases hv
  have Gs11 := fm_ts Gs9 Fs11 (by decide) (by decide)
  have ws11_77 : iI s11 77 = iI s9 77 := fm_i Fs11 (by decide)
  have ws11_75 : iI s11 75 = iI s9 75 := fm_i Fs11 (by decide)
  have ws11_79 : iI s11 79 = iI s9 79 := fm_i Fs11 (by decide)
  show DS l s0 D A dT 196 (rmN 196) [77, 79, 80] [] (T) Q (T) 23 [(4, .int (Int32.ofInt 0)), (3, .int (Int32.ofInt (iI s4 77))), (0, .ref (A 179)), (1, .int (Int32.ofInt x)), (2, .int (Int32.ofInt y))] [.int (Int32.ofInt e12)] s11
  refine d_br (bo_ne _ _) bx_ne (fun k ws X h1 h2 => z_if_ne X (t := 35) (show cdA 196 23 = some (.ifCond .ne 12, 3, 1, 0, 0) from rfl) (by decide) hrs11 h1 h2) (fun g13 => ?_) (fun g13 => ?_)
  ·
    refine d_lvs (lv := [(0, .ref (A 179)), (1, .int (Int32.ofInt x)), (2, .int (Int32.ofInt y)), (3, .int (Int32.ofInt (iI s4 77))), (4, .int (Int32.ofInt 0))]) (List.forall_mem_cons.mpr ⟨(List.Mem.tail _ (List.Mem.tail _ (List.Mem.head _))), (List.forall_mem_cons.mpr ⟨(List.Mem.tail _ (List.Mem.tail _ (List.Mem.tail _ (List.Mem.head _)))), (List.forall_mem_cons.mpr ⟨(List.Mem.tail _ (List.Mem.tail _ (List.Mem.tail _ (List.Mem.tail _ (List.Mem.head _))))), (List.forall_mem_cons.mpr ⟨(List.Mem.tail _ (List.Mem.head _)), (List.forall_mem_cons.mpr ⟨(List.Mem.head _), (fun q h => absurd h List.not_mem_nil)⟩)⟩)⟩)⟩)⟩) ?_
    refine L35 ((iI s11 75 - iI s11 77 : Int).toNat + 1) s11 x y (iI s4 77) 0 Is11 Gs11 (by first | exact ⟨oq_2954f754 ws11_77 ws9_77 hps4.1, oq_821adba3 g13 ws11_77 hps11 ws9_77 hps9 ws4_75, oq_d0d2714e ws11_75 ws4_75 ws9_75, oq_00dd204b ws11_79 ws9_79 ws4_79 b3.1, by decide, by decide, And.intro (b8.1) (b8.2), And.intro (by decide) (by decide), by decide⟩ | omega) (Nat.lt_succ_self _) ?_
    intro s14 x15 x16 x17 x18 Is14 Fs14 hs14
    have b19 : (0 : Int) ≤ iI s14 77 ∧ iI s14 77 ≤ 400 := Is14.1 77
    have b20 : (0 : Int) ≤ iI s14 75 ∧ iI s14 75 ≤ 200 := Is14.1 75
    have b21 : (0 : Int) ≤ iI s14 79 ∧ iI s14 79 ≤ 9 := Is14.1 79
    refine d_lift (fun k ws X h => z_load X (x := x18) (show cdA 196 97 = some (.iload 4, 2, 0, 0, 0) from rfl) (List.Mem.tail _ (List.Mem.tail _ (List.Mem.tail _ (List.Mem.tail _ (List.Mem.head _))))) h) ?_
    refine d_lift (fun k ws X h => z_load_n X (x := x15) (show cdA 196 99 = some (.iload_n 1, 1, 0, 0, 0) from rfl) (List.Mem.tail _ (List.Mem.head _)) h) ?_
    refine d_lift (fun k ws X h => z_load_n X (x := x16) (show cdA 196 100 = some (.iload_n 2, 1, 0, 0, 0) from rfl) (List.Mem.tail _ (List.Mem.tail _ (List.Mem.head _))) h) ?_
    refine d_callT (As := [.int (Int32.ofInt x18), .int (Int32.ofInt x15), .int (Int32.ofInt x16)]) (st := []) (show cdA 196 101 = some (.invokestatic 209, 3, 188, 1, 0) from rfl) rfl (d_in G Is14 (by first | exact ⟨hs14.2.2.2.2.2.2.2.1.1, hs14.2.2.2.2.2.2.2.1.2⟩ | omega) (by first | exact ⟨oq_6bc29d15 hs14.2.2.2.2.1 p0.1, oq_60a194f9 hs14.2.2.2.2.1 p0.2⟩ | omega) (by first | exact ⟨oq_6bc29d15 hs14.2.2.2.2.2.1 p1.1, oq_60a194f9 hs14.2.2.2.2.2.1 p1.2⟩ | omega) (fun q h => hti q ((by decide : ∀ q ∈ ([] : List Nat), q ∈ ([77, 75, 78, 79, 81] : List Nat)) q h)) (fun a h => hta a ((by decide : ∀ q ∈ ([] : List Nat), q ∈ ([157, 158, 161] : List Nat)) a h))) ⟨rfl, rfl⟩ ⟨(show 6 + 1 ≤ 8 from oq_42eed11c), (show 8 + (mNL (miB 188) + 11) + 100 ≤ 141 from oq_420db89e)⟩ (Nat.le_of_ble_eq_true rfl) (by decide) (by decide) (fun ee s22 hq => ?_) (fun vv s22 hq => ?_)
    · obtain ⟨Is22, Fs22, e23, hv, hrs22, hps22⟩ := hq; cases hv
    obtain ⟨Is22, Fs22, e23, hv, hrs22, hps22⟩ := hq
    cases hv
    have Gs22 := fm_ts Fs14 Fs22 (by decide) (by decide)
    have ws22_77 : iI s22 77 = iI s14 77 := fm_i Fs22 (by decide)
    have ws22_75 : iI s22 75 = iI s14 75 := fm_i Fs22 (by decide)
    have ws22_79 : iI s22 79 = iI s14 79 := fm_i Fs22 (by decide)
    show DS l s0 D A dT 196 (rmN 196) [77, 79, 80] [] (T) Q (T) 104 [(0, .ref (A 179)), (1, .int (Int32.ofInt x15)), (2, .int (Int32.ofInt x16)), (3, .int (Int32.ofInt x17)), (4, .int (Int32.ofInt x18))] [.int (Int32.ofInt e23)] s22
    refine d_br (bo_ne _ _) bx_ne (fun k ws X h1 h2 => z_if_ne X (t := 113) (show cdA 196 104 = some (.ifCond .ne 9, 3, 1, 0, 0) from rfl) (by decide) hrs22 h1 h2) (fun g24 => ?_) (fun g24 => ?_)
    ·
      refine d_lift (fun k ws X h => z_load X (x := x18) (show cdA 196 113 = some (.iload 4, 2, 0, 0, 0) from rfl) (List.Mem.tail _ (List.Mem.tail _ (List.Mem.tail _ (List.Mem.tail _ (List.Mem.head _))))) h) ?_
      exact d_iret rfl rfl (Or.inl rfl) (show cdA 196 115 = some (.ireturn, 1, 0, 0, 0) from rfl) (fun _ h => h) (hQ _ _ ⟨Is22, Gs22, x18, rfl, ⟨by first | exact hs14.2.2.2.2.2.2.2.1.1 | omega, by first | exact hs14.2.2.2.2.2.2.2.1.2 | omega⟩, by first | exact ⟨oq_9272904e ws22_77 hs14.1, oq_82a8716b ws22_77 hs14.2.1 g13 hps11 hps9 ws4_75 hps4.1, oq_88e312fc ws22_79 b21.1 hs14.2.2.2.1 b3.1, oq_9d364511 g24 hps22 hs14.2.2.2.2.2.1 hs14.2.2.2.2.1, hs14.2.2.2.2.2.2.2.2⟩ | omega⟩)
    ·
      refine d_lift (fun k ws X h => z_aload_n X (x := A 179) (show cdA 196 107 = some (.aload_n 0, 1, 0, 0, 0) from rfl) (List.Mem.head _) h) ?_
      refine d_lift (fun k ws X h => z_const X (show cdA 196 108 = some (.iconst 2, 1, 0, 0, 0) from rfl) h) ?_
      refine d_lift (fun k ws X h => z_load_n X (x := x17) (show cdA 196 109 = some (.iload_n 3, 1, 0, 0, 0) from rfl) (List.Mem.tail _ (List.Mem.tail _ (List.Mem.tail _ (List.Mem.head _)))) h) ?_
      refine d_callV 179 (As := [.int (Int32.ofInt 2), .int (Int32.ofInt x17)]) (st := []) (show cdA 196 110 = some (.invokevirtual 204, 3, 194, 0, 0) from rfl) rfl (by decide) rfl (d_wrong G Is22 (by first | exact ⟨by decide, by decide⟩ | omega) (by first | exact ⟨oq_ca54ea22 hs14.2.2.2.2.2.2.1.1, hs14.2.2.2.2.2.2.1.2⟩ | omega) (fun q h => hti q ((by decide : ∀ q ∈ ([79] : List Nat), q ∈ ([77, 75, 78, 79, 81] : List Nat)) q h)) (fun a h => hta a ((by decide : ∀ q ∈ ([] : List Nat), q ∈ ([157, 158, 161] : List Nat)) a h))) ⟨rfl, rfl⟩ ⟨(show 6 + 1 ≤ 8 from oq_42eed11c), (show 8 + (mNL (miB 194) + 11) + 100 ≤ 141 from oq_420db89e)⟩ (Nat.le_of_ble_eq_true rfl) (by decide) (by decide) (fun ee s25 hq => ?_) (fun vv s25 hq => ?_)
      · obtain ⟨Is25, Fs25, hv, hps25⟩ := hq; cases hv
      obtain ⟨Is25, Fs25, hv, hps25⟩ := hq
      cases hv
      have Gs25 := fm_ts Gs22 Fs25 (by decide) (by decide)
      have ws25_77 : iI s25 77 = iI s22 77 := fm_i Fs25 (by decide)
      have ws25_75 : iI s25 75 = iI s22 75 := fm_i Fs25 (by decide)
      have b27 : (0 : Int) ≤ iI s25 79 ∧ iI s25 79 ≤ 9 := Is25.1 79
      show DS l s0 D A dT 196 (rmN 196) [77, 79, 80] [] (T) Q (T) 113 [(0, .ref (A 179)), (1, .int (Int32.ofInt x15)), (2, .int (Int32.ofInt x16)), (3, .int (Int32.ofInt x17)), (4, .int (Int32.ofInt x18))] [] s25
      refine d_lift (fun k ws X h => z_load X (x := x18) (show cdA 196 113 = some (.iload 4, 2, 0, 0, 0) from rfl) (List.Mem.tail _ (List.Mem.tail _ (List.Mem.tail _ (List.Mem.tail _ (List.Mem.head _))))) h) ?_
      exact d_iret rfl rfl (Or.inl rfl) (show cdA 196 115 = some (.ireturn, 1, 0, 0, 0) from rfl) (fun _ h => h) (hQ _ _ ⟨Is25, Gs25, x18, rfl, ⟨by first | exact hs14.2.2.2.2.2.2.2.1.1 | omega, by first | exact hs14.2.2.2.2.2.2.2.1.2 | omega⟩, by first | exact ⟨oq_2954f754 ws25_77 ws22_77 hs14.1, oq_e191e89b ws25_77 ws22_77 hs14.2.1 g13 hps11 hps9 ws4_75 hps4.1, oq_5071f1ab b27.1 hps25, oq_38faa694 b27.1 hps25, hs14.2.2.2.2.2.2.2.2⟩ | omega⟩)
  ·
    refine d_lift (fun k ws X h => z_aload_n X (x := A 179) (show cdA 196 26 = some (.aload_n 0, 1, 0, 0, 0) from rfl) (List.Mem.tail _ (List.Mem.tail _ (List.Mem.head _))) h) ?_
    refine d_lift (fun k ws X h => z_const X (show cdA 196 27 = some (.iconst 1, 1, 0, 0, 0) from rfl) h) ?_
    refine d_lift (fun k ws X h => z_aload_n X (x := A 179) (show cdA 196 28 = some (.aload_n 0, 1, 0, 0, 0) from rfl) (List.Mem.tail _ (List.Mem.tail _ (List.Mem.head _))) h) ?_
    refine d_getI 179 (show cdA 196 29 = some (.getfield 184, 3, 12, 4, 0) from rfl) (by decide) rfl rfl (hti 77 (by decide)) ?_
    have b28 : (0 : Int) ≤ iI s11 77 ∧ iI s11 77 ≤ 400 := Is11.1 77
    refine d_callV 179 (As := [.int (Int32.ofInt 1), .int (Int32.ofInt (iI s11 77))]) (st := []) (show cdA 196 32 = some (.invokevirtual 204, 3, 194, 0, 0) from rfl) rfl (by decide) rfl (d_wrong G Is11 (by first | exact ⟨by decide, by decide⟩ | omega) (by first | exact ⟨oq_ca54ea22 b28.1, b28.2⟩ | omega) (fun q h => hti q ((by decide : ∀ q ∈ ([79] : List Nat), q ∈ ([77, 75, 78, 79, 81] : List Nat)) q h)) (fun a h => hta a ((by decide : ∀ q ∈ ([] : List Nat), q ∈ ([157, 158, 161] : List Nat)) a h))) ⟨rfl, rfl⟩ ⟨(show 6 + 1 ≤ 8 from oq_42eed11c), (show 8 + (mNL (miB 194) + 11) + 100 ≤ 141 from oq_420db89e)⟩ (Nat.le_of_ble_eq_true rfl) (by decide) (by decide) (fun ee s29 hq => ?_) (fun vv s29 hq => ?_)
    · obtain ⟨Is29, Fs29, hv, hps29⟩ := hq; cases hv
    obtain ⟨Is29, Fs29, hv, hps29⟩ := hq
    cases hv
    have Gs29 := fm_ts Gs11 Fs29 (by decide) (by decide)
    have ws29_77 : iI s29 77 = iI s11 77 := fm_i Fs29 (by decide)
    have ws29_75 : iI s29 75 = iI s11 75 := fm_i Fs29 (by decide)
    have b31 : (0 : Int) ≤ iI s29 79 ∧ iI s29 79 ≤ 9 := Is29.1 79
    show DS l s0 D A dT 196 (rmN 196) [77, 79, 80] [] (T) Q (T) 35 [(4, .int (Int32.ofInt 0)), (3, .int (Int32.ofInt (iI s4 77))), (0, .ref (A 179)), (1, .int (Int32.ofInt x)), (2, .int (Int32.ofInt y))] [] s29
    refine d_lvs (lv := [(0, .ref (A 179)), (1, .int (Int32.ofInt x)), (2, .int (Int32.ofInt y)), (3, .int (Int32.ofInt (iI s4 77))), (4, .int (Int32.ofInt 0))]) (List.forall_mem_cons.mpr ⟨(List.Mem.tail _ (List.Mem.tail _ (List.Mem.head _))), (List.forall_mem_cons.mpr ⟨(List.Mem.tail _ (List.Mem.tail _ (List.Mem.tail _ (List.Mem.head _)))), (List.forall_mem_cons.mpr ⟨(List.Mem.tail _ (List.Mem.tail _ (List.Mem.tail _ (List.Mem.tail _ (List.Mem.head _))))), (List.forall_mem_cons.mpr ⟨(List.Mem.tail _ (List.Mem.head _)), (List.forall_mem_cons.mpr ⟨(List.Mem.head _), (fun q h => absurd h List.not_mem_nil)⟩)⟩)⟩)⟩)⟩) ?_
    refine L35 ((iI s29 75 - iI s29 77 : Int).toNat + 1) s29 x y (iI s4 77) 0 Is29 Gs29 (by first | exact ⟨oq_bd4a8eb1 ws29_77 hps4.1 ws11_77 ws9_77, oq_38b7f8bb ws29_77 ws11_77 ws9_77 hps4.2 hps4.1, oq_45b593e3 ws29_75 ws4_75 ws11_75 ws9_75, oq_5071f1ab b31.1 hps29, by decide, by decide, And.intro (b8.1) (b8.2), And.intro (by decide) (by decide), by decide⟩ | omega) (Nat.lt_succ_self _) ?_
    intro s32 x33 x34 x35 x36 Is32 Fs32 hs32
    have b37 : (0 : Int) ≤ iI s32 77 ∧ iI s32 77 ≤ 400 := Is32.1 77
    have b38 : (0 : Int) ≤ iI s32 75 ∧ iI s32 75 ≤ 200 := Is32.1 75
    have b39 : (0 : Int) ≤ iI s32 79 ∧ iI s32 79 ≤ 9 := Is32.1 79
    refine d_lift (fun k ws X h => z_load X (x := x36) (show cdA 196 97 = some (.iload 4, 2, 0, 0, 0) from rfl) (List.Mem.tail _ (List.Mem.tail _ (List.Mem.tail _ (List.Mem.tail _ (List.Mem.head _))))) h) ?_
    refine d_lift (fun k ws X h => z_load_n X (x := x33) (show cdA 196 99 = some (.iload_n 1, 1, 0, 0, 0) from rfl) (List.Mem.tail _ (List.Mem.head _)) h) ?_
    refine d_lift (fun k ws X h => z_load_n X (x := x34) (show cdA 196 100 = some (.iload_n 2, 1, 0, 0, 0) from rfl) (List.Mem.tail _ (List.Mem.tail _ (List.Mem.head _))) h) ?_
    refine d_callT (As := [.int (Int32.ofInt x36), .int (Int32.ofInt x33), .int (Int32.ofInt x34)]) (st := []) (show cdA 196 101 = some (.invokestatic 209, 3, 188, 1, 0) from rfl) rfl (d_in G Is32 (by first | exact ⟨hs32.2.2.2.2.2.2.2.1.1, hs32.2.2.2.2.2.2.2.1.2⟩ | omega) (by first | exact ⟨oq_6bc29d15 hs32.2.2.2.2.1 p0.1, oq_60a194f9 hs32.2.2.2.2.1 p0.2⟩ | omega) (by first | exact ⟨oq_6bc29d15 hs32.2.2.2.2.2.1 p1.1, oq_60a194f9 hs32.2.2.2.2.2.1 p1.2⟩ | omega) (fun q h => hti q ((by decide : ∀ q ∈ ([] : List Nat), q ∈ ([77, 75, 78, 79, 81] : List Nat)) q h)) (fun a h => hta a ((by decide : ∀ q ∈ ([] : List Nat), q ∈ ([157, 158, 161] : List Nat)) a h))) ⟨rfl, rfl⟩ ⟨(show 6 + 1 ≤ 8 from oq_42eed11c), (show 8 + (mNL (miB 188) + 11) + 100 ≤ 141 from oq_420db89e)⟩ (Nat.le_of_ble_eq_true rfl) (by decide) (by decide) (fun ee s40 hq => ?_) (fun vv s40 hq => ?_)
    · obtain ⟨Is40, Fs40, e41, hv, hrs40, hps40⟩ := hq; cases hv
    obtain ⟨Is40, Fs40, e41, hv, hrs40, hps40⟩ := hq
    cases hv
    have Gs40 := fm_ts Fs32 Fs40 (by decide) (by decide)
    have ws40_77 : iI s40 77 = iI s32 77 := fm_i Fs40 (by decide)
    have ws40_75 : iI s40 75 = iI s32 75 := fm_i Fs40 (by decide)
    have ws40_79 : iI s40 79 = iI s32 79 := fm_i Fs40 (by decide)
    show DS l s0 D A dT 196 (rmN 196) [77, 79, 80] [] (T) Q (T) 104 [(0, .ref (A 179)), (1, .int (Int32.ofInt x33)), (2, .int (Int32.ofInt x34)), (3, .int (Int32.ofInt x35)), (4, .int (Int32.ofInt x36))] [.int (Int32.ofInt e41)] s40
    refine d_br (bo_ne _ _) bx_ne (fun k ws X h1 h2 => z_if_ne X (t := 113) (show cdA 196 104 = some (.ifCond .ne 9, 3, 1, 0, 0) from rfl) (by decide) hrs40 h1 h2) (fun g42 => ?_) (fun g42 => ?_)
    ·
      refine d_lift (fun k ws X h => z_load X (x := x36) (show cdA 196 113 = some (.iload 4, 2, 0, 0, 0) from rfl) (List.Mem.tail _ (List.Mem.tail _ (List.Mem.tail _ (List.Mem.tail _ (List.Mem.head _))))) h) ?_
      exact d_iret rfl rfl (Or.inl rfl) (show cdA 196 115 = some (.ireturn, 1, 0, 0, 0) from rfl) (fun _ h => h) (hQ _ _ ⟨Is40, Gs40, x36, rfl, ⟨by first | exact hs32.2.2.2.2.2.2.2.1.1 | omega, by first | exact hs32.2.2.2.2.2.2.2.1.2 | omega⟩, by first | exact ⟨oq_9272904e ws40_77 hs32.1, oq_8dc46605 ws40_77 hs32.2.1 hs32.1, oq_88e312fc ws40_79 b39.1 hs32.2.2.2.1 b3.1, oq_9d364511 g42 hps40 hs32.2.2.2.2.2.1 hs32.2.2.2.2.1, hs32.2.2.2.2.2.2.2.2⟩ | omega⟩)
    ·
      refine d_lift (fun k ws X h => z_aload_n X (x := A 179) (show cdA 196 107 = some (.aload_n 0, 1, 0, 0, 0) from rfl) (List.Mem.head _) h) ?_
      refine d_lift (fun k ws X h => z_const X (show cdA 196 108 = some (.iconst 2, 1, 0, 0, 0) from rfl) h) ?_
      refine d_lift (fun k ws X h => z_load_n X (x := x35) (show cdA 196 109 = some (.iload_n 3, 1, 0, 0, 0) from rfl) (List.Mem.tail _ (List.Mem.tail _ (List.Mem.tail _ (List.Mem.head _)))) h) ?_
      refine d_callV 179 (As := [.int (Int32.ofInt 2), .int (Int32.ofInt x35)]) (st := []) (show cdA 196 110 = some (.invokevirtual 204, 3, 194, 0, 0) from rfl) rfl (by decide) rfl (d_wrong G Is40 (by first | exact ⟨by decide, by decide⟩ | omega) (by first | exact ⟨oq_ca54ea22 hs32.2.2.2.2.2.2.1.1, hs32.2.2.2.2.2.2.1.2⟩ | omega) (fun q h => hti q ((by decide : ∀ q ∈ ([79] : List Nat), q ∈ ([77, 75, 78, 79, 81] : List Nat)) q h)) (fun a h => hta a ((by decide : ∀ q ∈ ([] : List Nat), q ∈ ([157, 158, 161] : List Nat)) a h))) ⟨rfl, rfl⟩ ⟨(show 6 + 1 ≤ 8 from oq_42eed11c), (show 8 + (mNL (miB 194) + 11) + 100 ≤ 141 from oq_420db89e)⟩ (Nat.le_of_ble_eq_true rfl) (by decide) (by decide) (fun ee s43 hq => ?_) (fun vv s43 hq => ?_)
      · obtain ⟨Is43, Fs43, hv, hps43⟩ := hq; cases hv
      obtain ⟨Is43, Fs43, hv, hps43⟩ := hq
      cases hv
      have Gs43 := fm_ts Gs40 Fs43 (by decide) (by decide)
      have ws43_77 : iI s43 77 = iI s40 77 := fm_i Fs43 (by decide)
      have ws43_75 : iI s43 75 = iI s40 75 := fm_i Fs43 (by decide)
      have b45 : (0 : Int) ≤ iI s43 79 ∧ iI s43 79 ≤ 9 := Is43.1 79
      show DS l s0 D A dT 196 (rmN 196) [77, 79, 80] [] (T) Q (T) 113 [(0, .ref (A 179)), (1, .int (Int32.ofInt x33)), (2, .int (Int32.ofInt x34)), (3, .int (Int32.ofInt x35)), (4, .int (Int32.ofInt x36))] [] s43
      refine d_lift (fun k ws X h => z_load X (x := x36) (show cdA 196 113 = some (.iload 4, 2, 0, 0, 0) from rfl) (List.Mem.tail _ (List.Mem.tail _ (List.Mem.tail _ (List.Mem.tail _ (List.Mem.head _))))) h) ?_
      exact d_iret rfl rfl (Or.inl rfl) (show cdA 196 115 = some (.ireturn, 1, 0, 0, 0) from rfl) (fun _ h => h) (hQ _ _ ⟨Is43, Gs43, x36, rfl, ⟨by first | exact hs32.2.2.2.2.2.2.2.1.1 | omega, by first | exact hs32.2.2.2.2.2.2.2.1.2 | omega⟩, by first | exact ⟨oq_2954f754 ws43_77 ws40_77 hs32.1, oq_9d983156 ws43_77 ws40_77 hs32.2.1 hs32.1, oq_5071f1ab b45.1 hps43, oq_38faa694 b45.1 hps43, hs32.2.2.2.2.2.2.2.2⟩ | omega⟩)
set_option maxHeartbeats 16000000 in
theorem d_wordHere (G : GX l s0 D tys a0 dT) (I : Bd s) (p0 : iI s 77 ≤ 390) {T : TT} (hti : ∀ q ∈ ([77, 75, 78, 79, 81] : List Nat), T.1 q) (hta : ∀ a ∈ ([157, 158, 161] : List Nat), ∀ j, j < (bA a).2.2 → T.2 a j) : CD l s0 D A dT 201 (rmN 201) [77] [] T (T) [.ref (A 179)] s (fun o t => Bd t ∧ Fm [77] [] s t ∧ ∃ e, o = .inl (some (.int (Int32.ofInt e))) ∧ rng e ∧ (iI s 77 ≤ iI t 77 ∧ (iI t 77 = iI s 77 ∨ iI t 77 ≤ iI s 75) ∧ (e ≠ 0 → iI t 77 < iI s 75))) := by
  refine cd_of G (by decide) (Nat.le_of_ble_eq_true rfl) (fun Q hQ => ?_)
  have I0 := I
  show DS l s0 D A dT 201 (rmN 201) [77] [] (T) Q (T) 0 [(0, .ref (A 179))] [] s
  have F : Fm [77] [] s s := fm_rf _ _ s
  have b1 : (0 : Int) ≤ iI s 77 ∧ iI s 77 ≤ 400 := I.1 77
  have b2 : (0 : Int) ≤ iI s 75 ∧ iI s 75 ≤ 200 := I.1 75
  have L8 : ∀ (n : Nat) (t : PS) (vv nv : Int), Bd t → Fm [77] [] s t → (iI s 77 ≤ iI t 77 ∧ (iI t 77 = iI s 77 ∨ iI t 77 ≤ iI s 75) ∧ iI t 75 = iI s 75 ∧ rng vv ∧ 0 ≤ nv ∧ nv ≤ 200 ∧ (nv = 0 → vv = 0) ∧ (1 ≤ nv → iI t 77 < iI s 75)) → (200 - nv : Int).toNat < n → (∀ (t' : PS) (vv' nv' : Int), Bd t' → Fm [77] [] s t' → (iI s 77 ≤ iI t' 77 ∧ (iI t' 77 = iI s 77 ∨ iI t' 77 ≤ iI s 75) ∧ iI t' 75 = iI s 75 ∧ rng vv' ∧ 0 ≤ nv' ∧ nv' ≤ 200 ∧ (nv' = 0 → vv' = 0) ∧ (1 ≤ nv' → iI t' 77 < iI s 75)) → DS l s0 D A dT 201 (rmN 201) [77] [] (T) Q (T) 75 [(0, .ref (A 179)), (1, .int (Int32.ofInt vv')), (2, .int (Int32.ofInt nv'))] [] t') → DS l s0 D A dT 201 (rmN 201) [77] [] (T) Q (T) 8 [(0, .ref (A 179)), (1, .int (Int32.ofInt vv)), (2, .int (Int32.ofInt nv))] [] t := by
    intro n
    induction n with
    | zero =>
      intro t vv nv I F hi hm kx
      exact absurd hm (Nat.not_lt_zero _)
    | succ n ih =>
      intro t vv nv I F hi hm kx
      have b1001 : (0 : Int) ≤ iI t 77 ∧ iI t 77 ≤ 400 := I.1 77
      have b1002 : (0 : Int) ≤ iI t 75 ∧ iI t 75 ≤ 200 := I.1 75
      refine d_lift (fun k ws X h => z_aload_n X (x := A 179) (show cdA 201 8 = some (.aload_n 0, 1, 0, 0, 0) from rfl) (List.Mem.head _) h) ?_
      refine d_lift (fun k ws X h => z_aload_n X (x := A 179) (show cdA 201 9 = some (.aload_n 0, 1, 0, 0, 0) from rfl) (List.Mem.head _) h) ?_
      refine d_getI 179 (show cdA 201 10 = some (.getfield 184, 3, 12, 4, 0) from rfl) (by decide) rfl rfl (hti 77 (by decide)) ?_
      have b1003 : (0 : Int) ≤ iI t 77 ∧ iI t 77 ≤ 400 := I.1 77
      refine d_lift (fun k ws X h => z_load_n X (x := nv) (show cdA 201 13 = some (.iload_n 2, 1, 0, 0, 0) from rfl) (List.Mem.tail _ (List.Mem.tail _ (List.Mem.head _))) h) ?_
      refine d_lift (fun k ws X h => z_add X (show cdA 201 14 = some (.iadd, 1, 0, 0, 0) from rfl) h) ?_
      refine d_callV 179 (As := [.int (Int32.ofInt ((iI t 77) + nv))]) (st := []) (show cdA 201 15 = some (.invokevirtual 187, 3, 192, 0, 0) from rfl) rfl (by decide) rfl (d_byteAt G I (by first | exact ⟨oq_d8d6a599 hi.2.2.2.2.1 b1003.1, oq_faec2b3d hi.2.2.2.2.2.1 b1003.2⟩ | omega) (fun q h => hti q ((by decide : ∀ q ∈ ([75, 81] : List Nat), q ∈ ([77, 75, 78, 79, 81] : List Nat)) q h)) (fun a h => hta a ((by decide : ∀ q ∈ ([157, 158] : List Nat), q ∈ ([157, 158, 161] : List Nat)) a h))) ⟨rfl, rfl⟩ ⟨(show 6 + 1 ≤ 8 from oq_42eed11c), (show 8 + (mNL (miB 192) + 11) + 100 ≤ 141 from oq_dc08f8ae)⟩ (Nat.le_of_ble_eq_true rfl) (by decide) (by decide) (fun ee s1004 hq => ?_) (fun vv s1004 hq => ?_)
      · obtain ⟨Is1004, Fs1004, e1005, hv, hrs1004, hps1004⟩ := hq; cases hv
      obtain ⟨Is1004, Fs1004, e1005, hv, hrs1004, hps1004⟩ := hq
      cases hv
      have Gs1004 := fm_ts F Fs1004 (by decide) (by decide)
      have ws1004_77 : iI s1004 77 = iI t 77 := fm_i Fs1004 (by decide)
      have ws1004_75 : iI s1004 75 = iI t 75 := fm_i Fs1004 (by decide)
      show DS l s0 D A dT 201 (rmN 201) [77] [] (T) Q (T) 18 [(0, .ref (A 179)), (1, .int (Int32.ofInt vv)), (2, .int (Int32.ofInt nv))] [.int (Int32.ofInt e1005)] s1004
      refine d_lift (fun k ws X h => z_bipush X (show cdA 201 18 = some (.bipush 97, 2, 0, 0, 97) from rfl) h) ?_
      refine d_br (bo_lt _ _) bx_lt (fun k ws X h1 h2 => z_icmp_lt X (t := 75) (show cdA 201 20 = some (.if_icmp .lt 55, 3, 2, 0, 0) from rfl) (by decide) hrs1004 (by decide) h1 h2) (fun g1006 => ?_) (fun g1006 => ?_)
      ·
        refine d_lvs (lv := [(0, .ref (A 179)), (1, .int (Int32.ofInt vv)), (2, .int (Int32.ofInt nv))]) (List.forall_mem_cons.mpr ⟨(List.Mem.head _), (List.forall_mem_cons.mpr ⟨(List.Mem.tail _ (List.Mem.head _)), (List.forall_mem_cons.mpr ⟨(List.Mem.tail _ (List.Mem.tail _ (List.Mem.head _))), (fun q h => absurd h List.not_mem_nil)⟩)⟩)⟩) ?_
        exact kx _ vv nv Is1004 Gs1004 (by first | exact ⟨oq_9272904e ws1004_77 hi.1, oq_8dc46605 ws1004_77 hi.2.1 hi.1, oq_1aa5be9e ws1004_75 hi.2.2.1, And.intro (hi.2.2.2.1.1) (hi.2.2.2.1.2), hi.2.2.2.2.1, hi.2.2.2.2.2.1, hi.2.2.2.2.2.2.1, oq_64f00eb9 ws1004_77 hi.2.2.2.2.2.2.2⟩ | omega)
      ·
        refine d_lift (fun k ws X h => z_aload_n X (x := A 179) (show cdA 201 23 = some (.aload_n 0, 1, 0, 0, 0) from rfl) (List.Mem.head _) h) ?_
        refine d_lift (fun k ws X h => z_aload_n X (x := A 179) (show cdA 201 24 = some (.aload_n 0, 1, 0, 0, 0) from rfl) (List.Mem.head _) h) ?_
        refine d_getI 179 (show cdA 201 25 = some (.getfield 184, 3, 12, 4, 0) from rfl) (by decide) rfl rfl (hti 77 (by decide)) ?_
        have b1007 : (0 : Int) ≤ iI s1004 77 ∧ iI s1004 77 ≤ 400 := Is1004.1 77
        refine d_lift (fun k ws X h => z_load_n X (x := nv) (show cdA 201 28 = some (.iload_n 2, 1, 0, 0, 0) from rfl) (List.Mem.tail _ (List.Mem.tail _ (List.Mem.head _))) h) ?_
        refine d_lift (fun k ws X h => z_add X (show cdA 201 29 = some (.iadd, 1, 0, 0, 0) from rfl) h) ?_
        refine d_callV 179 (As := [.int (Int32.ofInt ((iI s1004 77) + nv))]) (st := []) (show cdA 201 30 = some (.invokevirtual 187, 3, 192, 0, 0) from rfl) rfl (by decide) rfl (d_byteAt G Is1004 (by first | exact ⟨oq_d8d6a599 hi.2.2.2.2.1 b1007.1, oq_faec2b3d hi.2.2.2.2.2.1 b1007.2⟩ | omega) (fun q h => hti q ((by decide : ∀ q ∈ ([75, 81] : List Nat), q ∈ ([77, 75, 78, 79, 81] : List Nat)) q h)) (fun a h => hta a ((by decide : ∀ q ∈ ([157, 158] : List Nat), q ∈ ([157, 158, 161] : List Nat)) a h))) ⟨rfl, rfl⟩ ⟨(show 6 + 1 ≤ 8 from oq_42eed11c), (show 8 + (mNL (miB 192) + 11) + 100 ≤ 141 from oq_dc08f8ae)⟩ (Nat.le_of_ble_eq_true rfl) (by decide) (by decide) (fun ee s1008 hq => ?_) (fun vv s1008 hq => ?_)
        · obtain ⟨Is1008, Fs1008, e1009, hv, hrs1008, hps1008⟩ := hq; cases hv
        obtain ⟨Is1008, Fs1008, e1009, hv, hrs1008, hps1008⟩ := hq
        cases hv
        have Gs1008 := fm_ts Gs1004 Fs1008 (by decide) (by decide)
        have ws1008_77 : iI s1008 77 = iI s1004 77 := fm_i Fs1008 (by decide)
        have ws1008_75 : iI s1008 75 = iI s1004 75 := fm_i Fs1008 (by decide)
        show DS l s0 D A dT 201 (rmN 201) [77] [] (T) Q (T) 33 [(0, .ref (A 179)), (1, .int (Int32.ofInt vv)), (2, .int (Int32.ofInt nv))] [.int (Int32.ofInt e1009)] s1008
        refine d_lift (fun k ws X h => z_bipush X (show cdA 201 33 = some (.bipush 122, 2, 0, 0, 122) from rfl) h) ?_
        refine d_br (bo_gt _ _) bx_gt (fun k ws X h1 h2 => z_icmp_gt X (t := 75) (show cdA 201 35 = some (.if_icmp .gt 40, 3, 4, 0, 0) from rfl) (by decide) hrs1008 (by decide) h1 h2) (fun g1010 => ?_) (fun g1010 => ?_)
        ·
          refine d_lvs (lv := [(0, .ref (A 179)), (1, .int (Int32.ofInt vv)), (2, .int (Int32.ofInt nv))]) (List.forall_mem_cons.mpr ⟨(List.Mem.head _), (List.forall_mem_cons.mpr ⟨(List.Mem.tail _ (List.Mem.head _)), (List.forall_mem_cons.mpr ⟨(List.Mem.tail _ (List.Mem.tail _ (List.Mem.head _))), (fun q h => absurd h List.not_mem_nil)⟩)⟩)⟩) ?_
          exact kx _ vv nv Is1008 Gs1008 (by first | exact ⟨oq_143762c7 ws1008_77 hi.1 ws1004_77, oq_cd0949b0 g1010 ws1008_77 hps1008 ws1004_75 hi.2.2.2.2.1 hi.2.2.1, oq_d0d2714e ws1008_75 hi.2.2.1 ws1004_75, And.intro (hi.2.2.2.1.1) (hi.2.2.2.1.2), hi.2.2.2.2.1, hi.2.2.2.2.2.1, hi.2.2.2.2.2.2.1, oq_1863856d g1010 ws1008_77 hps1008 ws1004_75 hi.2.2.1⟩ | omega)
        ·
          refine d_lift (fun k ws X h => z_load_n X (x := nv) (show cdA 201 38 = some (.iload_n 2, 1, 0, 0, 0) from rfl) (List.Mem.tail _ (List.Mem.tail _ (List.Mem.head _))) h) ?_
          refine d_lift (fun k ws X h => z_bipush X (show cdA 201 39 = some (.bipush 6, 2, 0, 0, 6) from rfl) h) ?_
          refine d_br (bo_ge _ _) bx_ge (fun k ws X h1 h2 => z_icmp_ge X (t := 67) (show cdA 201 41 = some (.if_icmp .ge 26, 3, 3, 0, 0) from rfl) (by decide) ⟨by first | exact oq_fa4e5087 hi.2.2.2.2.1 | omega, by first | exact oq_52af2b96 hi.2.2.2.2.2.1 | omega⟩ (by decide) h1 h2) (fun g1011 => ?_) (fun g1011 => ?_)
          ·
            refine d_lift (fun k ws X h => z_load_n X (x := vv) (show cdA 201 67 = some (.iload_n 1, 1, 0, 0, 0) from rfl) (List.Mem.tail _ (List.Mem.head _)) h) ?_
            refine d_lift (fun k ws X h => z_store_n X (lv' := [(1, .int (Int32.ofInt vv)), (0, .ref (A 179)), (2, .int (Int32.ofInt nv))]) (show cdA 201 68 = some (.istore_n 1, 1, 0, 0, 0) from rfl) (by decide) (fun _ h => h) h) ?_
            refine d_lift (fun k ws X h => z_inc X (x := nv) (lv' := [(2, .int (Int32.ofInt (nv + 1))), (1, .int (Int32.ofInt vv)), (0, .ref (A 179))]) (show cdA 201 69 = some (.iinc 2 1, 3, 0, 0, 0) from rfl) (by decide) (List.Mem.tail _ (List.Mem.tail _ (List.Mem.head _))) (fun _ h => h) h) ?_
            refine d_lift (fun k ws X h => z_goto X (t := 8) (show cdA 201 72 = some (.goto (-64), 3, 0, 0, 0) from rfl) (by decide) h) ?_
            refine d_lvs (lv := [(0, .ref (A 179)), (1, .int (Int32.ofInt vv)), (2, .int (Int32.ofInt (nv + 1)))]) (List.forall_mem_cons.mpr ⟨(List.Mem.tail _ (List.Mem.tail _ (List.Mem.head _))), (List.forall_mem_cons.mpr ⟨(List.Mem.tail _ (List.Mem.head _)), (List.forall_mem_cons.mpr ⟨(List.Mem.head _), (fun q h => absurd h List.not_mem_nil)⟩)⟩)⟩) ?_
            exact ih _ vv (nv + 1) Is1008 Gs1008 (by first | exact ⟨oq_143762c7 ws1008_77 hi.1 ws1004_77, oq_8987532c g1011 ws1008_77 g1006 ws1004_77 hps1004 hi.2.2.1, oq_d0d2714e ws1008_75 hi.2.2.1 ws1004_75, And.intro (hi.2.2.2.1.1) (hi.2.2.2.1.2), oq_ef1a1f20 g1011, oq_46d7741e hps1008 b1007.1 g1006 ws1004_75 ws1004_77 hps1004 b1002.2, oq_d8509bc0 g1011, oq_810f8ff6 g1011 ws1008_77 g1006 ws1004_77 hps1004 hi.2.2.1⟩ | omega) (by first | exact qk_me hm (by decide) (oq_4b400f0f hps1008 b1007.1 g1006 ws1004_75 ws1004_77 hps1004 b1002.2) | omega) kx
          ·
            refine d_lift (fun k ws X h => z_bipush X (show cdA 201 44 = some (.bipush 27, 2, 0, 0, 27) from rfl) h) ?_
            refine d_lift (fun k ws X h => z_load_n X (x := vv) (show cdA 201 46 = some (.iload_n 1, 1, 0, 0, 0) from rfl) (List.Mem.tail _ (List.Mem.head _)) h) ?_
            refine d_lift (fun k ws X h => z_mul X (show cdA 201 47 = some (.imul, 1, 0, 0, 0) from rfl) h) ?_
            refine d_lift (fun k ws X h => z_aload_n X (x := A 179) (show cdA 201 48 = some (.aload_n 0, 1, 0, 0, 0) from rfl) (List.Mem.head _) h) ?_
            refine d_lift (fun k ws X h => z_aload_n X (x := A 179) (show cdA 201 49 = some (.aload_n 0, 1, 0, 0, 0) from rfl) (List.Mem.head _) h) ?_
            refine d_getI 179 (show cdA 201 50 = some (.getfield 184, 3, 12, 4, 0) from rfl) (by decide) rfl rfl (hti 77 (by decide)) ?_
            have b1012 : (0 : Int) ≤ iI s1008 77 ∧ iI s1008 77 ≤ 400 := Is1008.1 77
            refine d_lift (fun k ws X h => z_load_n X (x := nv) (show cdA 201 53 = some (.iload_n 2, 1, 0, 0, 0) from rfl) (List.Mem.tail _ (List.Mem.tail _ (List.Mem.head _))) h) ?_
            refine d_lift (fun k ws X h => z_add X (show cdA 201 54 = some (.iadd, 1, 0, 0, 0) from rfl) h) ?_
            refine d_callV 179 (As := [.int (Int32.ofInt ((iI s1008 77) + nv))]) (st := [.int (Int32.ofInt (27 * vv))]) (show cdA 201 55 = some (.invokevirtual 187, 3, 192, 0, 0) from rfl) rfl (by decide) rfl (d_byteAt G Is1008 (by first | exact ⟨oq_d8d6a599 hi.2.2.2.2.1 b1012.1, oq_0835e488 b1012.2 g1011⟩ | omega) (fun q h => hti q ((by decide : ∀ q ∈ ([75, 81] : List Nat), q ∈ ([77, 75, 78, 79, 81] : List Nat)) q h)) (fun a h => hta a ((by decide : ∀ q ∈ ([157, 158] : List Nat), q ∈ ([157, 158, 161] : List Nat)) a h))) ⟨rfl, rfl⟩ ⟨(show 6 + 1 ≤ 8 from oq_42eed11c), (show 8 + (mNL (miB 192) + 11) + 100 ≤ 141 from oq_dc08f8ae)⟩ (Nat.le_of_ble_eq_true rfl) (by decide) (by decide) (fun ee s1013 hq => ?_) (fun vv s1013 hq => ?_)
            · obtain ⟨Is1013, Fs1013, e1014, hv, hrs1013, hps1013⟩ := hq; cases hv
            obtain ⟨Is1013, Fs1013, e1014, hv, hrs1013, hps1013⟩ := hq
            cases hv
            have Gs1013 := fm_ts Gs1008 Fs1013 (by decide) (by decide)
            have ws1013_77 : iI s1013 77 = iI s1008 77 := fm_i Fs1013 (by decide)
            have ws1013_75 : iI s1013 75 = iI s1008 75 := fm_i Fs1013 (by decide)
            show DS l s0 D A dT 201 (rmN 201) [77] [] (T) Q (T) 58 [(0, .ref (A 179)), (1, .int (Int32.ofInt vv)), (2, .int (Int32.ofInt nv))] [.int (Int32.ofInt e1014), .int (Int32.ofInt (27 * vv))] s1013
            refine d_lift (fun k ws X h => z_add X (show cdA 201 58 = some (.iadd, 1, 0, 0, 0) from rfl) h) ?_
            refine d_lift (fun k ws X h => z_bipush X (show cdA 201 59 = some (.bipush 97, 2, 0, 0, 97) from rfl) h) ?_
            refine d_lift (fun k ws X h => z_sub X (show cdA 201 61 = some (.isub, 1, 0, 0, 0) from rfl) h) ?_
            refine d_lift (fun k ws X h => z_const X (show cdA 201 62 = some (.iconst 1, 1, 0, 0, 0) from rfl) h) ?_
            refine d_lift (fun k ws X h => z_add X (show cdA 201 63 = some (.iadd, 1, 0, 0, 0) from rfl) h) ?_
            refine d_any (fun y1015 hy1015 => ?_)
            refine d_lift (fun k ws X h => z_goto X (t := 68) (show cdA 201 64 = some (.goto 4, 3, 0, 0, 0) from rfl) (by decide) h) ?_
            refine d_lift (fun k ws X h => z_store_n X (lv' := [(1, .int (Int32.ofInt y1015)), (0, .ref (A 179)), (2, .int (Int32.ofInt nv))]) (show cdA 201 68 = some (.istore_n 1, 1, 0, 0, 0) from rfl) (by decide) (fun _ h => h) h) ?_
            refine d_lift (fun k ws X h => z_inc X (x := nv) (lv' := [(2, .int (Int32.ofInt (nv + 1))), (1, .int (Int32.ofInt y1015)), (0, .ref (A 179))]) (show cdA 201 69 = some (.iinc 2 1, 3, 0, 0, 0) from rfl) (by decide) (List.Mem.tail _ (List.Mem.tail _ (List.Mem.head _))) (fun _ h => h) h) ?_
            refine d_lift (fun k ws X h => z_goto X (t := 8) (show cdA 201 72 = some (.goto (-64), 3, 0, 0, 0) from rfl) (by decide) h) ?_
            refine d_lvs (lv := [(0, .ref (A 179)), (1, .int (Int32.ofInt y1015)), (2, .int (Int32.ofInt (nv + 1)))]) (List.forall_mem_cons.mpr ⟨(List.Mem.tail _ (List.Mem.tail _ (List.Mem.head _))), (List.forall_mem_cons.mpr ⟨(List.Mem.tail _ (List.Mem.head _)), (List.forall_mem_cons.mpr ⟨(List.Mem.head _), (fun q h => absurd h List.not_mem_nil)⟩)⟩)⟩) ?_
            exact ih _ y1015 (nv + 1) Is1013 Gs1013 (by first | exact ⟨oq_bd4a8eb1 ws1013_77 hi.1 ws1008_77 ws1004_77, oq_fbd1858b ws1013_77 ws1008_77 g1006 ws1004_77 hps1004 hi.2.2.2.2.1 hi.2.2.1, oq_45b593e3 ws1013_75 hi.2.2.1 ws1008_75 ws1004_75, And.intro (hy1015.1) (hy1015.2), oq_54f49eb5 hi.2.2.2.2.1, oq_88fcdc91 g1011, oq_b860ca62 hi.2.2.2.2.1, oq_3fd0273b ws1013_77 hps1013 ws1008_75 ws1008_77 hps1008 g1006 ws1004_75 ws1004_77 hps1004 hi.2.2.2.2.1 hi.2.2.1⟩ | omega) (by first | exact qk_me hm (by decide) (oq_8e8d8f07 g1011) | omega) kx
  refine d_lift (fun k ws X h => z_aload_n X (x := A 179) (show cdA 201 0 = some (.aload_n 0, 1, 0, 0, 0) from rfl) (List.Mem.head _) h) ?_
  refine d_callV 179 (As := []) (st := []) (show cdA 201 1 = some (.invokevirtual 197, 3, 193, 0, 0) from rfl) rfl (by decide) rfl (d_blanks G I (by first | exact p0 | omega) (fun q h => hti q ((by decide : ∀ q ∈ ([77, 75, 78, 79, 81] : List Nat), q ∈ ([77, 75, 78, 79, 81] : List Nat)) q h)) (fun a h => hta a ((by decide : ∀ q ∈ ([157, 158, 161] : List Nat), q ∈ ([157, 158, 161] : List Nat)) a h))) ⟨rfl, rfl⟩ ⟨(show 7 + 1 ≤ 8 from oq_519c1fd2), (show 8 + (mNL (miB 193) + 11) + 121 ≤ 141 from oq_67025191)⟩ (Nat.le_of_ble_eq_true rfl) (by decide) (by decide) (fun ee s3 hq => ?_) (fun vv s3 hq => ?_)
  · obtain ⟨Is3, Fs3, hv, hps3⟩ := hq; cases hv
  obtain ⟨Is3, Fs3, hv, hps3⟩ := hq
  cases hv
  have Gs3 := fm_ts F Fs3 (by decide) (by decide)
  have b5 : (0 : Int) ≤ iI s3 77 ∧ iI s3 77 ≤ 400 := Is3.1 77
  have ws3_75 : iI s3 75 = iI s 75 := fm_i Fs3 (by decide)
  show DS l s0 D A dT 201 (rmN 201) [77] [] (T) Q (T) 4 [(0, .ref (A 179))] [] s3
  refine d_lift (fun k ws X h => z_const X (show cdA 201 4 = some (.iconst 0, 1, 0, 0, 0) from rfl) h) ?_
  refine d_lift (fun k ws X h => z_store_n X (lv' := [(1, .int (Int32.ofInt 0)), (0, .ref (A 179))]) (show cdA 201 5 = some (.istore_n 1, 1, 0, 0, 0) from rfl) (by decide) (fun _ h => h) h) ?_
  refine d_lift (fun k ws X h => z_const X (show cdA 201 6 = some (.iconst 0, 1, 0, 0, 0) from rfl) h) ?_
  refine d_lift (fun k ws X h => z_store_n X (lv' := [(2, .int (Int32.ofInt 0)), (1, .int (Int32.ofInt 0)), (0, .ref (A 179))]) (show cdA 201 7 = some (.istore_n 2, 1, 0, 0, 0) from rfl) (by decide) (fun _ h => h) h) ?_
  refine d_lvs (lv := [(0, .ref (A 179)), (1, .int (Int32.ofInt 0)), (2, .int (Int32.ofInt 0))]) (List.forall_mem_cons.mpr ⟨(List.Mem.tail _ (List.Mem.tail _ (List.Mem.head _))), (List.forall_mem_cons.mpr ⟨(List.Mem.tail _ (List.Mem.head _)), (List.forall_mem_cons.mpr ⟨(List.Mem.head _), (fun q h => absurd h List.not_mem_nil)⟩)⟩)⟩) ?_
  refine L8 ((200 - 0 : Int).toNat + 1) s3 0 0 Is3 Gs3 (by first | exact ⟨hps3.1, hps3.2, ws3_75, And.intro (by decide) (by decide), by decide, by decide, oq_c2ed65b6, oq_901188d8⟩ | omega) (Nat.lt_succ_self _) ?_
  intro s6 x7 x8 Is6 Fs6 hs6
  have b9 : (0 : Int) ≤ iI s6 77 ∧ iI s6 77 ≤ 400 := Is6.1 77
  have b10 : (0 : Int) ≤ iI s6 75 ∧ iI s6 75 ≤ 200 := Is6.1 75
  refine d_lift (fun k ws X h => z_load_n X (x := x8) (show cdA 201 75 = some (.iload_n 2, 1, 0, 0, 0) from rfl) (List.Mem.tail _ (List.Mem.tail _ (List.Mem.head _))) h) ?_
  refine d_lift (fun k ws X h => z_bipush X (show cdA 201 76 = some (.bipush 6, 2, 0, 0, 6) from rfl) h) ?_
  have N11 : ∀ e12 : Int, (((x8 ≤ 6) ∧ e12 = x7) ∨ ((6 < x8) ∧ e12 = (-1))) → DS l s0 D A dT 201 (rmN 201) [77] [] (T) Q (T) 86 [(0, .ref (A 179)), (1, .int (Int32.ofInt x7)), (2, .int (Int32.ofInt x8))] [.int (Int32.ofInt e12)] s6 := by
    intro e12 he12
    exact d_iret rfl rfl (Or.inl rfl) (show cdA 201 86 = some (.ireturn, 1, 0, 0, 0) from rfl) (fun _ h => h) (hQ _ _ ⟨Is6, Fs6, e12, rfl, ⟨by first | exact oq_02aa45b0 he12 hs6.2.2.2.1.1 | omega, by first | exact oq_78b72728 he12 hs6.2.2.2.1.2 | omega⟩, by first | exact ⟨hs6.1, hs6.2.1, oq_c9cc9202 he12 hs6.2.2.2.2.2.2.2 hs6.2.2.2.2.2.2.1 hs6.2.2.2.2.1⟩ | omega⟩)
  refine d_br (bo_le _ _) bx_le (fun k ws X h1 h2 => z_icmp_le X (t := 85) (show cdA 201 78 = some (.if_icmp .le 7, 3, 5, 0, 0) from rfl) (by decide) ⟨by first | exact oq_fa4e5087 hs6.2.2.2.2.1 | omega, by first | exact oq_52af2b96 hs6.2.2.2.2.2.1 | omega⟩ (by decide) h1 h2) (fun g13 => ?_) (fun g13 => ?_)
  ·
    refine d_lift (fun k ws X h => z_load_n X (x := x7) (show cdA 201 85 = some (.iload_n 1, 1, 0, 0, 0) from rfl) (List.Mem.tail _ (List.Mem.head _)) h) ?_
    exact N11 _ (Or.inl ⟨g13, rfl⟩)
  ·
    refine d_lift (fun k ws X h => z_const X (show cdA 201 81 = some (.iconst (-1), 1, 0, 0, 0) from rfl) h) ?_
    refine d_lift (fun k ws X h => z_goto X (t := 86) (show cdA 201 82 = some (.goto 4, 3, 0, 0, 0) from rfl) (by decide) h) ?_
    exact N11 _ (Or.inr (⟨g13, rfl⟩))
set_option maxHeartbeats 16000000 in
theorem d_nameHere (G : GX l s0 D tys a0 dT) (I : Bd s) (p0 : iI s 77 ≤ 390) {T : TT} (hti : ∀ q ∈ ([77, 75, 78, 79, 81] : List Nat), T.1 q) (hta : ∀ a ∈ ([157, 158, 161] : List Nat), ∀ j, j < (bA a).2.2 → T.2 a j) : CD l s0 D A dT 206 (rmN 206) [77] [] T (T) [.ref (A 179)] s (fun o t => Bd t ∧ Fm [77] [] s t ∧ ∃ e, o = .inl (some (.int (Int32.ofInt e))) ∧ rng e ∧ (iI s 77 ≤ iI t 77 ∧ (iI t 77 = iI s 77 ∨ iI t 77 ≤ iI s 75) ∧ -1 ≤ e ∧ e ≤ 6 ∧ (e ≠ -1 → iI t 77 < iI s 75))) := by
  refine cd_of G (by decide) (Nat.le_of_ble_eq_true rfl) (fun Q hQ => ?_)
  have I0 := I
  show DS l s0 D A dT 206 (rmN 206) [77] [] (T) Q (T) 0 [(0, .ref (A 179))] [] s
  have F : Fm [77] [] s s := fm_rf _ _ s
  have b1 : (0 : Int) ≤ iI s 77 ∧ iI s 77 ≤ 400 := I.1 77
  have b2 : (0 : Int) ≤ iI s 75 ∧ iI s 75 ≤ 200 := I.1 75
  refine d_lift (fun k ws X h => z_aload_n X (x := A 179) (show cdA 206 0 = some (.aload_n 0, 1, 0, 0, 0) from rfl) (List.Mem.head _) h) ?_
  refine d_callV 179 (As := []) (st := []) (show cdA 206 1 = some (.invokevirtual 243, 3, 201, 0, 0) from rfl) rfl (by decide) rfl (d_wordHere G I (by first | exact p0 | omega) (fun q h => hti q ((by decide : ∀ q ∈ ([77, 75, 78, 79, 81] : List Nat), q ∈ ([77, 75, 78, 79, 81] : List Nat)) q h)) (fun a h => hta a ((by decide : ∀ q ∈ ([157, 158, 161] : List Nat), q ∈ ([157, 158, 161] : List Nat)) a h))) ⟨rfl, rfl⟩ ⟨(show 8 + 1 ≤ 9 from oq_67c02c84), (show 8 + (mNL (miB 201) + 11) + 141 ≤ 163 from oq_85724074)⟩ (Nat.le_of_ble_eq_true rfl) (by decide) (by decide) (fun ee s3 hq => ?_) (fun vv s3 hq => ?_)
  · obtain ⟨Is3, Fs3, e4, hv, hrs3, hps3⟩ := hq; cases hv
  obtain ⟨Is3, Fs3, e4, hv, hrs3, hps3⟩ := hq
  cases hv
  have Gs3 := fm_ts F Fs3 (by decide) (by decide)
  have b5 : (0 : Int) ≤ iI s3 77 ∧ iI s3 77 ≤ 400 := Is3.1 77
  have ws3_75 : iI s3 75 = iI s 75 := fm_i Fs3 (by decide)
  show DS l s0 D A dT 206 (rmN 206) [77] [] (T) Q (T) 4 [(0, .ref (A 179))] [.int (Int32.ofInt e4)] s3
  refine d_lift (fun k ws X h => z_store_n X (lv' := [(1, .int (Int32.ofInt e4)), (0, .ref (A 179))]) (show cdA 206 4 = some (.istore_n 1, 1, 0, 0, 0) from rfl) (by decide) (fun _ h => h) h) ?_
  refine d_lift (fun k ws X h => z_load_n X (x := e4) (show cdA 206 5 = some (.iload_n 1, 1, 0, 0, 0) from rfl) (List.Mem.head _) h) ?_
  refine d_lift (fun k ws X h => z_bipush X (show cdA 206 6 = some (.bipush 23, 2, 0, 0, 23) from rfl) h) ?_
  refine d_lift (fun k ws X h => z_const X (show cdA 206 8 = some (.iconst 1, 1, 0, 0, 0) from rfl) h) ?_
  refine d_lift (fun k ws X h => z_bipush X (show cdA 206 9 = some (.bipush 25, 2, 0, 0, 25) from rfl) h) ?_
  refine d_lift (fun k ws X h => z_bipush X (show cdA 206 11 = some (.bipush 19, 2, 0, 0, 19) from rfl) h) ?_
  refine d_lift (fun k ws X h => z_const X (show cdA 206 13 = some (.iconst 0, 1, 0, 0, 0) from rfl) h) ?_
  refine d_lift (fun k ws X h => z_const X (show cdA 206 14 = some (.iconst 0, 1, 0, 0, 0) from rfl) h) ?_
  refine d_callT (As := [.int (Int32.ofInt 23), .int (Int32.ofInt 1), .int (Int32.ofInt 25), .int (Int32.ofInt 19), .int (Int32.ofInt 0), .int (Int32.ofInt 0)]) (st := [.int (Int32.ofInt e4)]) (show cdA 206 15 = some (.invokestatic 247, 3, 202, 1, 0) from rfl) rfl (d_word G Is3 (by first | exact ⟨by decide, by decide⟩ | omega) (by first | exact ⟨by decide, by decide⟩ | omega) (by first | exact ⟨by decide, by decide⟩ | omega) (by first | exact ⟨by decide, by decide⟩ | omega) (by first | exact ⟨by decide, by decide⟩ | omega) (by first | exact ⟨by decide, by decide⟩ | omega) (fun q h => hti q ((by decide : ∀ q ∈ ([] : List Nat), q ∈ ([77, 75, 78, 79, 81] : List Nat)) q h)) (fun a h => hta a ((by decide : ∀ q ∈ ([] : List Nat), q ∈ ([157, 158, 161] : List Nat)) a h))) ⟨rfl, rfl⟩ ⟨(show 6 + 1 ≤ 9 from oq_4a198724), (show 8 + (mNL (miB 202) + 11) + 100 ≤ 163 from oq_497c6a1a)⟩ (Nat.le_of_ble_eq_true rfl) (by decide) (by decide) (fun ee s6 hq => ?_) (fun vv s6 hq => ?_)
  · obtain ⟨Is6, Fs6, e7, hv, hrs6, hps6⟩ := hq; cases hv
  obtain ⟨Is6, Fs6, e7, hv, hrs6, hps6⟩ := hq
  cases hv
  have Gs6 := fm_ts Gs3 Fs6 (by decide) (by decide)
  have ws6_77 : iI s6 77 = iI s3 77 := fm_i Fs6 (by decide)
  have ws6_75 : iI s6 75 = iI s3 75 := fm_i Fs6 (by decide)
  show DS l s0 D A dT 206 (rmN 206) [77] [] (T) Q (T) 18 [(1, .int (Int32.ofInt e4)), (0, .ref (A 179))] [.int (Int32.ofInt e7), .int (Int32.ofInt e4)] s6
  refine d_br (bo_ne _ _) bx_ne (fun k ws X h1 h2 => z_icmp_ne X (t := 23) (show cdA 206 18 = some (.if_icmp .ne 5, 3, 1, 0, 0) from rfl) (by decide) hrs3 hrs6 h1 h2) (fun g8 => ?_) (fun g8 => ?_)
  ·
    refine d_lift (fun k ws X h => z_load_n X (x := e4) (show cdA 206 23 = some (.iload_n 1, 1, 0, 0, 0) from rfl) (List.Mem.head _) h) ?_
    refine d_lift (fun k ws X h => z_const X (show cdA 206 24 = some (.iconst 3, 1, 0, 0, 0) from rfl) h) ?_
    refine d_lift (fun k ws X h => z_bipush X (show cdA 206 25 = some (.bipush 18, 2, 0, 0, 18) from rfl) h) ?_
    refine d_lift (fun k ws X h => z_bipush X (show cdA 206 27 = some (.bipush 15, 2, 0, 0, 15) from rfl) h) ?_
    refine d_lift (fun k ws X h => z_bipush X (show cdA 206 29 = some (.bipush 19, 2, 0, 0, 19) from rfl) h) ?_
    refine d_lift (fun k ws X h => z_bipush X (show cdA 206 31 = some (.bipush 19, 2, 0, 0, 19) from rfl) h) ?_
    refine d_lift (fun k ws X h => z_const X (show cdA 206 33 = some (.iconst 0, 1, 0, 0, 0) from rfl) h) ?_
    refine d_callT (As := [.int (Int32.ofInt 3), .int (Int32.ofInt 18), .int (Int32.ofInt 15), .int (Int32.ofInt 19), .int (Int32.ofInt 19), .int (Int32.ofInt 0)]) (st := [.int (Int32.ofInt e4)]) (show cdA 206 34 = some (.invokestatic 247, 3, 202, 1, 0) from rfl) rfl (d_word G Is6 (by first | exact ⟨by decide, by decide⟩ | omega) (by first | exact ⟨by decide, by decide⟩ | omega) (by first | exact ⟨by decide, by decide⟩ | omega) (by first | exact ⟨by decide, by decide⟩ | omega) (by first | exact ⟨by decide, by decide⟩ | omega) (by first | exact ⟨by decide, by decide⟩ | omega) (fun q h => hti q ((by decide : ∀ q ∈ ([] : List Nat), q ∈ ([77, 75, 78, 79, 81] : List Nat)) q h)) (fun a h => hta a ((by decide : ∀ q ∈ ([] : List Nat), q ∈ ([157, 158, 161] : List Nat)) a h))) ⟨rfl, rfl⟩ ⟨(show 6 + 1 ≤ 9 from oq_4a198724), (show 8 + (mNL (miB 202) + 11) + 100 ≤ 163 from oq_497c6a1a)⟩ (Nat.le_of_ble_eq_true rfl) (by decide) (by decide) (fun ee s9 hq => ?_) (fun vv s9 hq => ?_)
    · obtain ⟨Is9, Fs9, e10, hv, hrs9, hps9⟩ := hq; cases hv
    obtain ⟨Is9, Fs9, e10, hv, hrs9, hps9⟩ := hq
    cases hv
    have Gs9 := fm_ts Gs6 Fs9 (by decide) (by decide)
    have ws9_77 : iI s9 77 = iI s6 77 := fm_i Fs9 (by decide)
    have ws9_75 : iI s9 75 = iI s6 75 := fm_i Fs9 (by decide)
    show DS l s0 D A dT 206 (rmN 206) [77] [] (T) Q (T) 37 [(1, .int (Int32.ofInt e4)), (0, .ref (A 179))] [.int (Int32.ofInt e10), .int (Int32.ofInt e4)] s9
    refine d_br (bo_ne _ _) bx_ne (fun k ws X h1 h2 => z_icmp_ne X (t := 42) (show cdA 206 37 = some (.if_icmp .ne 5, 3, 1, 0, 0) from rfl) (by decide) hrs3 hrs9 h1 h2) (fun g11 => ?_) (fun g11 => ?_)
    ·
      refine d_lift (fun k ws X h => z_load_n X (x := e4) (show cdA 206 42 = some (.iload_n 1, 1, 0, 0, 0) from rfl) (List.Mem.head _) h) ?_
      refine d_lift (fun k ws X h => z_bipush X (show cdA 206 43 = some (.bipush 15, 2, 0, 0, 15) from rfl) h) ?_
      refine d_lift (fun k ws X h => z_bipush X (show cdA 206 45 = some (.bipush 22, 2, 0, 0, 22) from rfl) h) ?_
      refine d_lift (fun k ws X h => z_const X (show cdA 206 47 = some (.iconst 5, 1, 0, 0, 0) from rfl) h) ?_
      refine d_lift (fun k ws X h => z_bipush X (show cdA 206 48 = some (.bipush 18, 2, 0, 0, 18) from rfl) h) ?_
      refine d_lift (fun k ws X h => z_const X (show cdA 206 50 = some (.iconst 0, 1, 0, 0, 0) from rfl) h) ?_
      refine d_lift (fun k ws X h => z_const X (show cdA 206 51 = some (.iconst 0, 1, 0, 0, 0) from rfl) h) ?_
      refine d_callT (As := [.int (Int32.ofInt 15), .int (Int32.ofInt 22), .int (Int32.ofInt 5), .int (Int32.ofInt 18), .int (Int32.ofInt 0), .int (Int32.ofInt 0)]) (st := [.int (Int32.ofInt e4)]) (show cdA 206 52 = some (.invokestatic 247, 3, 202, 1, 0) from rfl) rfl (d_word G Is9 (by first | exact ⟨by decide, by decide⟩ | omega) (by first | exact ⟨by decide, by decide⟩ | omega) (by first | exact ⟨by decide, by decide⟩ | omega) (by first | exact ⟨by decide, by decide⟩ | omega) (by first | exact ⟨by decide, by decide⟩ | omega) (by first | exact ⟨by decide, by decide⟩ | omega) (fun q h => hti q ((by decide : ∀ q ∈ ([] : List Nat), q ∈ ([77, 75, 78, 79, 81] : List Nat)) q h)) (fun a h => hta a ((by decide : ∀ q ∈ ([] : List Nat), q ∈ ([157, 158, 161] : List Nat)) a h))) ⟨rfl, rfl⟩ ⟨(show 6 + 1 ≤ 9 from oq_4a198724), (show 8 + (mNL (miB 202) + 11) + 100 ≤ 163 from oq_497c6a1a)⟩ (Nat.le_of_ble_eq_true rfl) (by decide) (by decide) (fun ee s12 hq => ?_) (fun vv s12 hq => ?_)
      · obtain ⟨Is12, Fs12, e13, hv, hrs12, hps12⟩ := hq; cases hv
      obtain ⟨Is12, Fs12, e13, hv, hrs12, hps12⟩ := hq
      cases hv
      have Gs12 := fm_ts Gs9 Fs12 (by decide) (by decide)
      have ws12_77 : iI s12 77 = iI s9 77 := fm_i Fs12 (by decide)
      have ws12_75 : iI s12 75 = iI s9 75 := fm_i Fs12 (by decide)
      show DS l s0 D A dT 206 (rmN 206) [77] [] (T) Q (T) 55 [(1, .int (Int32.ofInt e4)), (0, .ref (A 179))] [.int (Int32.ofInt e13), .int (Int32.ofInt e4)] s12
      refine d_br (bo_ne _ _) bx_ne (fun k ws X h1 h2 => z_icmp_ne X (t := 60) (show cdA 206 55 = some (.if_icmp .ne 5, 3, 1, 0, 0) from rfl) (by decide) hrs3 hrs12 h1 h2) (fun g14 => ?_) (fun g14 => ?_)
      ·
        refine d_lift (fun k ws X h => z_load_n X (x := e4) (show cdA 206 60 = some (.iload_n 1, 1, 0, 0, 0) from rfl) (List.Mem.head _) h) ?_
        refine d_lift (fun k ws X h => z_const X (show cdA 206 61 = some (.iconst 3, 1, 0, 0, 0) from rfl) h) ?_
        refine d_lift (fun k ws X h => z_bipush X (show cdA 206 62 = some (.bipush 12, 2, 0, 0, 12) from rfl) h) ?_
        refine d_lift (fun k ws X h => z_bipush X (show cdA 206 64 = some (.bipush 9, 2, 0, 0, 9) from rfl) h) ?_
        refine d_lift (fun k ws X h => z_bipush X (show cdA 206 66 = some (.bipush 13, 2, 0, 0, 13) from rfl) h) ?_
        refine d_lift (fun k ws X h => z_const X (show cdA 206 68 = some (.iconst 2, 1, 0, 0, 0) from rfl) h) ?_
        refine d_lift (fun k ws X h => z_const X (show cdA 206 69 = some (.iconst 0, 1, 0, 0, 0) from rfl) h) ?_
        refine d_callT (As := [.int (Int32.ofInt 3), .int (Int32.ofInt 12), .int (Int32.ofInt 9), .int (Int32.ofInt 13), .int (Int32.ofInt 2), .int (Int32.ofInt 0)]) (st := [.int (Int32.ofInt e4)]) (show cdA 206 70 = some (.invokestatic 247, 3, 202, 1, 0) from rfl) rfl (d_word G Is12 (by first | exact ⟨by decide, by decide⟩ | omega) (by first | exact ⟨by decide, by decide⟩ | omega) (by first | exact ⟨by decide, by decide⟩ | omega) (by first | exact ⟨by decide, by decide⟩ | omega) (by first | exact ⟨by decide, by decide⟩ | omega) (by first | exact ⟨by decide, by decide⟩ | omega) (fun q h => hti q ((by decide : ∀ q ∈ ([] : List Nat), q ∈ ([77, 75, 78, 79, 81] : List Nat)) q h)) (fun a h => hta a ((by decide : ∀ q ∈ ([] : List Nat), q ∈ ([157, 158, 161] : List Nat)) a h))) ⟨rfl, rfl⟩ ⟨(show 6 + 1 ≤ 9 from oq_4a198724), (show 8 + (mNL (miB 202) + 11) + 100 ≤ 163 from oq_497c6a1a)⟩ (Nat.le_of_ble_eq_true rfl) (by decide) (by decide) (fun ee s15 hq => ?_) (fun vv s15 hq => ?_)
        · obtain ⟨Is15, Fs15, e16, hv, hrs15, hps15⟩ := hq; cases hv
        obtain ⟨Is15, Fs15, e16, hv, hrs15, hps15⟩ := hq
        cases hv
        have Gs15 := fm_ts Gs12 Fs15 (by decide) (by decide)
        have ws15_77 : iI s15 77 = iI s12 77 := fm_i Fs15 (by decide)
        have ws15_75 : iI s15 75 = iI s12 75 := fm_i Fs15 (by decide)
        show DS l s0 D A dT 206 (rmN 206) [77] [] (T) Q (T) 73 [(1, .int (Int32.ofInt e4)), (0, .ref (A 179))] [.int (Int32.ofInt e16), .int (Int32.ofInt e4)] s15
        refine d_br (bo_ne _ _) bx_ne (fun k ws X h1 h2 => z_icmp_ne X (t := 78) (show cdA 206 73 = some (.if_icmp .ne 5, 3, 1, 0, 0) from rfl) (by decide) hrs3 hrs15 h1 h2) (fun g17 => ?_) (fun g17 => ?_)
        ·
          refine d_lift (fun k ws X h => z_load_n X (x := e4) (show cdA 206 78 = some (.iload_n 1, 1, 0, 0, 0) from rfl) (List.Mem.head _) h) ?_
          refine d_lift (fun k ws X h => z_const X (show cdA 206 79 = some (.iconst 3, 1, 0, 0, 0) from rfl) h) ?_
          refine d_lift (fun k ws X h => z_const X (show cdA 206 80 = some (.iconst 5, 1, 0, 0, 0) from rfl) h) ?_
          refine d_lift (fun k ws X h => z_bipush X (show cdA 206 81 = some (.bipush 12, 2, 0, 0, 12) from rfl) h) ?_
          refine d_lift (fun k ws X h => z_bipush X (show cdA 206 83 = some (.bipush 12, 2, 0, 0, 12) from rfl) h) ?_
          refine d_lift (fun k ws X h => z_bipush X (show cdA 206 85 = some (.bipush 19, 2, 0, 0, 19) from rfl) h) ?_
          refine d_lift (fun k ws X h => z_const X (show cdA 206 87 = some (.iconst 0, 1, 0, 0, 0) from rfl) h) ?_
          refine d_callT (As := [.int (Int32.ofInt 3), .int (Int32.ofInt 5), .int (Int32.ofInt 12), .int (Int32.ofInt 12), .int (Int32.ofInt 19), .int (Int32.ofInt 0)]) (st := [.int (Int32.ofInt e4)]) (show cdA 206 88 = some (.invokestatic 247, 3, 202, 1, 0) from rfl) rfl (d_word G Is15 (by first | exact ⟨by decide, by decide⟩ | omega) (by first | exact ⟨by decide, by decide⟩ | omega) (by first | exact ⟨by decide, by decide⟩ | omega) (by first | exact ⟨by decide, by decide⟩ | omega) (by first | exact ⟨by decide, by decide⟩ | omega) (by first | exact ⟨by decide, by decide⟩ | omega) (fun q h => hti q ((by decide : ∀ q ∈ ([] : List Nat), q ∈ ([77, 75, 78, 79, 81] : List Nat)) q h)) (fun a h => hta a ((by decide : ∀ q ∈ ([] : List Nat), q ∈ ([157, 158, 161] : List Nat)) a h))) ⟨rfl, rfl⟩ ⟨(show 6 + 1 ≤ 9 from oq_4a198724), (show 8 + (mNL (miB 202) + 11) + 100 ≤ 163 from oq_497c6a1a)⟩ (Nat.le_of_ble_eq_true rfl) (by decide) (by decide) (fun ee s18 hq => ?_) (fun vv s18 hq => ?_)
          · obtain ⟨Is18, Fs18, e19, hv, hrs18, hps18⟩ := hq; cases hv
          obtain ⟨Is18, Fs18, e19, hv, hrs18, hps18⟩ := hq
          cases hv
          have Gs18 := fm_ts Gs15 Fs18 (by decide) (by decide)
          have ws18_77 : iI s18 77 = iI s15 77 := fm_i Fs18 (by decide)
          have ws18_75 : iI s18 75 = iI s15 75 := fm_i Fs18 (by decide)
          show DS l s0 D A dT 206 (rmN 206) [77] [] (T) Q (T) 91 [(1, .int (Int32.ofInt e4)), (0, .ref (A 179))] [.int (Int32.ofInt e19), .int (Int32.ofInt e4)] s18
          refine d_br (bo_ne _ _) bx_ne (fun k ws X h1 h2 => z_icmp_ne X (t := 96) (show cdA 206 91 = some (.if_icmp .ne 5, 3, 1, 0, 0) from rfl) (by decide) hrs3 hrs18 h1 h2) (fun g20 => ?_) (fun g20 => ?_)
          ·
            refine d_lift (fun k ws X h => z_load_n X (x := e4) (show cdA 206 96 = some (.iload_n 1, 1, 0, 0, 0) from rfl) (List.Mem.head _) h) ?_
            refine d_lift (fun k ws X h => z_bipush X (show cdA 206 97 = some (.bipush 12, 2, 0, 0, 12) from rfl) h) ?_
            refine d_lift (fun k ws X h => z_bipush X (show cdA 206 99 = some (.bipush 15, 2, 0, 0, 15) from rfl) h) ?_
            refine d_lift (fun k ws X h => z_bipush X (show cdA 206 101 = some (.bipush 23, 2, 0, 0, 23) from rfl) h) ?_
            refine d_lift (fun k ws X h => z_const X (show cdA 206 103 = some (.iconst 0, 1, 0, 0, 0) from rfl) h) ?_
            refine d_lift (fun k ws X h => z_const X (show cdA 206 104 = some (.iconst 0, 1, 0, 0, 0) from rfl) h) ?_
            refine d_lift (fun k ws X h => z_const X (show cdA 206 105 = some (.iconst 0, 1, 0, 0, 0) from rfl) h) ?_
            refine d_callT (As := [.int (Int32.ofInt 12), .int (Int32.ofInt 15), .int (Int32.ofInt 23), .int (Int32.ofInt 0), .int (Int32.ofInt 0), .int (Int32.ofInt 0)]) (st := [.int (Int32.ofInt e4)]) (show cdA 206 106 = some (.invokestatic 247, 3, 202, 1, 0) from rfl) rfl (d_word G Is18 (by first | exact ⟨by decide, by decide⟩ | omega) (by first | exact ⟨by decide, by decide⟩ | omega) (by first | exact ⟨by decide, by decide⟩ | omega) (by first | exact ⟨by decide, by decide⟩ | omega) (by first | exact ⟨by decide, by decide⟩ | omega) (by first | exact ⟨by decide, by decide⟩ | omega) (fun q h => hti q ((by decide : ∀ q ∈ ([] : List Nat), q ∈ ([77, 75, 78, 79, 81] : List Nat)) q h)) (fun a h => hta a ((by decide : ∀ q ∈ ([] : List Nat), q ∈ ([157, 158, 161] : List Nat)) a h))) ⟨rfl, rfl⟩ ⟨(show 6 + 1 ≤ 9 from oq_4a198724), (show 8 + (mNL (miB 202) + 11) + 100 ≤ 163 from oq_497c6a1a)⟩ (Nat.le_of_ble_eq_true rfl) (by decide) (by decide) (fun ee s21 hq => ?_) (fun vv s21 hq => ?_)
            · obtain ⟨Is21, Fs21, e22, hv, hrs21, hps21⟩ := hq; cases hv
            obtain ⟨Is21, Fs21, e22, hv, hrs21, hps21⟩ := hq
            cases hv
            have Gs21 := fm_ts Gs18 Fs21 (by decide) (by decide)
            have ws21_77 : iI s21 77 = iI s18 77 := fm_i Fs21 (by decide)
            have ws21_75 : iI s21 75 = iI s18 75 := fm_i Fs21 (by decide)
            show DS l s0 D A dT 206 (rmN 206) [77] [] (T) Q (T) 109 [(1, .int (Int32.ofInt e4)), (0, .ref (A 179))] [.int (Int32.ofInt e22), .int (Int32.ofInt e4)] s21
            refine d_br (bo_ne _ _) bx_ne (fun k ws X h1 h2 => z_icmp_ne X (t := 114) (show cdA 206 109 = some (.if_icmp .ne 5, 3, 1, 0, 0) from rfl) (by decide) hrs3 hrs21 h1 h2) (fun g23 => ?_) (fun g23 => ?_)
            ·
              refine d_lift (fun k ws X h => z_load_n X (x := e4) (show cdA 206 114 = some (.iload_n 1, 1, 0, 0, 0) from rfl) (List.Mem.head _) h) ?_
              refine d_lift (fun k ws X h => z_bipush X (show cdA 206 115 = some (.bipush 16, 2, 0, 0, 16) from rfl) h) ?_
              refine d_lift (fun k ws X h => z_bipush X (show cdA 206 117 = some (.bipush 9, 2, 0, 0, 9) from rfl) h) ?_
              refine d_lift (fun k ws X h => z_const X (show cdA 206 119 = some (.iconst 5, 1, 0, 0, 0) from rfl) h) ?_
              refine d_lift (fun k ws X h => z_const X (show cdA 206 120 = some (.iconst 3, 1, 0, 0, 0) from rfl) h) ?_
              refine d_lift (fun k ws X h => z_const X (show cdA 206 121 = some (.iconst 5, 1, 0, 0, 0) from rfl) h) ?_
              refine d_lift (fun k ws X h => z_bipush X (show cdA 206 122 = some (.bipush 19, 2, 0, 0, 19) from rfl) h) ?_
              refine d_callT (As := [.int (Int32.ofInt 16), .int (Int32.ofInt 9), .int (Int32.ofInt 5), .int (Int32.ofInt 3), .int (Int32.ofInt 5), .int (Int32.ofInt 19)]) (st := [.int (Int32.ofInt e4)]) (show cdA 206 124 = some (.invokestatic 247, 3, 202, 1, 0) from rfl) rfl (d_word G Is21 (by first | exact ⟨by decide, by decide⟩ | omega) (by first | exact ⟨by decide, by decide⟩ | omega) (by first | exact ⟨by decide, by decide⟩ | omega) (by first | exact ⟨by decide, by decide⟩ | omega) (by first | exact ⟨by decide, by decide⟩ | omega) (by first | exact ⟨by decide, by decide⟩ | omega) (fun q h => hti q ((by decide : ∀ q ∈ ([] : List Nat), q ∈ ([77, 75, 78, 79, 81] : List Nat)) q h)) (fun a h => hta a ((by decide : ∀ q ∈ ([] : List Nat), q ∈ ([157, 158, 161] : List Nat)) a h))) ⟨rfl, rfl⟩ ⟨(show 6 + 1 ≤ 9 from oq_4a198724), (show 8 + (mNL (miB 202) + 11) + 100 ≤ 163 from oq_497c6a1a)⟩ (Nat.le_of_ble_eq_true rfl) (by decide) (by decide) (fun ee s24 hq => ?_) (fun vv s24 hq => ?_)
              · obtain ⟨Is24, Fs24, e25, hv, hrs24, hps24⟩ := hq; cases hv
              obtain ⟨Is24, Fs24, e25, hv, hrs24, hps24⟩ := hq
              cases hv
              have Gs24 := fm_ts Gs21 Fs24 (by decide) (by decide)
              have ws24_77 : iI s24 77 = iI s21 77 := fm_i Fs24 (by decide)
              have ws24_75 : iI s24 75 = iI s21 75 := fm_i Fs24 (by decide)
              show DS l s0 D A dT 206 (rmN 206) [77] [] (T) Q (T) 127 [(1, .int (Int32.ofInt e4)), (0, .ref (A 179))] [.int (Int32.ofInt e25), .int (Int32.ofInt e4)] s24
              have N26 : ∀ e27 : Int, (((e4 ≠ e25) ∧ e27 = (-1)) ∨ ((e4 = e25) ∧ e27 = 6)) → DS l s0 D A dT 206 (rmN 206) [77] [] (T) Q (T) 136 [(1, .int (Int32.ofInt e4)), (0, .ref (A 179))] [.int (Int32.ofInt e27)] s24 := by
                intro e27 he27
                have re27 : (-1) ≤ e27 ∧ e27 ≤ 6 := by omega
                exact d_iret rfl rfl (Or.inl rfl) (show cdA 206 136 = some (.ireturn, 1, 0, 0, 0) from rfl) (fun _ h => h) (hQ _ _ ⟨Is24, Gs24, e27, rfl, ⟨by first | exact oq_97ee2c2a re27.1 | omega, by first | exact oq_b301c3bf re27.2 | omega⟩, by first | exact ⟨oq_1a22b625 ws24_77 ws21_77 ws18_77 ws15_77 ws12_77 ws9_77 ws6_77 hps3.1, oq_c7e4d1fa ws24_77 ws21_77 ws18_77 ws15_77 ws12_77 ws9_77 ws6_77 hps3.2.1 hps3.1, re27.1, re27.2, oq_0d4062ee re27.1 he27 ws24_77 hps24 ws21_77 ws18_77 ws15_77 ws12_77 ws9_77 ws6_77 hps3.2.2⟩ | omega⟩)
              refine d_br (bo_ne _ _) bx_ne (fun k ws X h1 h2 => z_icmp_ne X (t := 135) (show cdA 206 127 = some (.if_icmp .ne 8, 3, 1, 0, 0) from rfl) (by decide) hrs3 hrs24 h1 h2) (fun g28 => ?_) (fun g28 => ?_)
              ·
                refine d_lift (fun k ws X h => z_const X (show cdA 206 135 = some (.iconst (-1), 1, 0, 0, 0) from rfl) h) ?_
                exact N26 _ (Or.inl ⟨g28, rfl⟩)
              ·
                refine d_lift (fun k ws X h => z_bipush X (show cdA 206 130 = some (.bipush 6, 2, 0, 0, 6) from rfl) h) ?_
                refine d_lift (fun k ws X h => z_goto X (t := 136) (show cdA 206 132 = some (.goto 4, 3, 0, 0, 0) from rfl) (by decide) h) ?_
                exact N26 _ (Or.inr (⟨g28, rfl⟩))
            ·
              refine d_lift (fun k ws X h => z_const X (show cdA 206 112 = some (.iconst 5, 1, 0, 0, 0) from rfl) h) ?_
              exact d_iret rfl rfl (Or.inl rfl) (show cdA 206 113 = some (.ireturn, 1, 0, 0, 0) from rfl) (fun _ h => h) (hQ _ _ ⟨Is21, Gs21, 5, rfl, (by decide), by first | exact ⟨oq_848a55a6 ws21_77 ws18_77 ws15_77 ws12_77 ws9_77 ws6_77 hps3.1, oq_729a7106 g23 ws21_77 hps21 ws18_77 ws15_77 ws12_77 ws9_77 ws6_77 hps3.2.2, by decide, by decide, oq_829509e8 g23 ws21_77 hps21 ws18_77 ws15_77 ws12_77 ws9_77 ws6_77 hps3.2.2⟩ | omega⟩)
          ·
            refine d_lift (fun k ws X h => z_const X (show cdA 206 94 = some (.iconst 4, 1, 0, 0, 0) from rfl) h) ?_
            exact d_iret rfl rfl (Or.inl rfl) (show cdA 206 95 = some (.ireturn, 1, 0, 0, 0) from rfl) (fun _ h => h) (hQ _ _ ⟨Is18, Gs18, 4, rfl, (by decide), by first | exact ⟨oq_17730e68 ws18_77 ws15_77 ws12_77 ws9_77 ws6_77 hps3.1, oq_1ad4a7f8 g20 ws18_77 hps18 ws15_77 ws12_77 ws9_77 ws6_77 hps3.2.2, by decide, by decide, oq_57df88a9 g20 ws18_77 hps18 ws15_77 ws12_77 ws9_77 ws6_77 hps3.2.2⟩ | omega⟩)
        ·
          refine d_lift (fun k ws X h => z_const X (show cdA 206 76 = some (.iconst 3, 1, 0, 0, 0) from rfl) h) ?_
          exact d_iret rfl rfl (Or.inl rfl) (show cdA 206 77 = some (.ireturn, 1, 0, 0, 0) from rfl) (fun _ h => h) (hQ _ _ ⟨Is15, Gs15, 3, rfl, (by decide), by first | exact ⟨oq_11fe630f ws15_77 ws12_77 ws9_77 ws6_77 hps3.1, oq_69067335 g17 ws15_77 hps15 ws12_77 ws9_77 ws6_77 hps3.2.2, by decide, by decide, oq_24ca1aeb g17 ws15_77 hps15 ws12_77 ws9_77 ws6_77 hps3.2.2⟩ | omega⟩)
      ·
        refine d_lift (fun k ws X h => z_const X (show cdA 206 58 = some (.iconst 2, 1, 0, 0, 0) from rfl) h) ?_
        exact d_iret rfl rfl (Or.inl rfl) (show cdA 206 59 = some (.ireturn, 1, 0, 0, 0) from rfl) (fun _ h => h) (hQ _ _ ⟨Is12, Gs12, 2, rfl, (by decide), by first | exact ⟨oq_47978b2f ws12_77 ws9_77 ws6_77 hps3.1, oq_85016481 g14 ws12_77 hps12 ws9_77 ws6_77 hps3.2.2, by decide, by decide, oq_ed1d23fc g14 ws12_77 hps12 ws9_77 ws6_77 hps3.2.2⟩ | omega⟩)
    ·
      refine d_lift (fun k ws X h => z_const X (show cdA 206 40 = some (.iconst 1, 1, 0, 0, 0) from rfl) h) ?_
      exact d_iret rfl rfl (Or.inl rfl) (show cdA 206 41 = some (.ireturn, 1, 0, 0, 0) from rfl) (fun _ h => h) (hQ _ _ ⟨Is9, Gs9, 1, rfl, (by decide), by first | exact ⟨oq_2954f754 ws9_77 ws6_77 hps3.1, oq_d2f0a5e5 g11 ws9_77 hps9 ws6_77 hps3.2.2, by decide, by decide, oq_4f60f847 g11 ws9_77 hps9 ws6_77 hps3.2.2⟩ | omega⟩)
  ·
    refine d_lift (fun k ws X h => z_const X (show cdA 206 21 = some (.iconst 0, 1, 0, 0, 0) from rfl) h) ?_
    exact d_iret rfl rfl (Or.inl rfl) (show cdA 206 22 = some (.ireturn, 1, 0, 0, 0) from rfl) (fun _ h => h) (hQ _ _ ⟨Is6, Gs6, 0, rfl, (by decide), by first | exact ⟨oq_9272904e ws6_77 hps3.1, oq_0b55d760 g8 ws6_77 hps6 hps3.2.2, by decide, by decide, oq_89d1dd48 g8 ws6_77 hps6 hps3.2.2⟩ | omega⟩)
end M42
