/-! The model: peaks -/
section M56
variable {l : Launch} {s0 : State} {D : va_G} {tys : List (ClassId × FieldType)} {a0 : Array Value} {A : Nat → Nat} {dT : Nat → ClassId} {s : PS}
set_option maxRecDepth 4000 in
theorem k_peakOfSet (G : GX l s0 D tys a0 dT) (I : Bd s) (jRLx : RLx s)  : CT l s0 D A dT 231 (rmN 231) [.ref (A 179)] s (fun o t => Bd t ∧ Fm [77, 75, 78, 79, 80, 81] [202, 204, 205, 206, 207, 208, 209, 210, 211, 212, 213, 214, 215, 216, 217, 218, 219, 220, 221, 222, 223, 224, 225, 226, 227, 203, 161] s t ∧ RLx t ∧ ∃ e, o = .inl (some (.int (Int32.ofInt e))) ∧ rng e ∧ (True)) := by
  refine ct_of G (by decide) (Nat.le_of_ble_eq_true rfl) (fun k X E hRt hXt q => ?_)
  show WS k 0 [(0, .ref (A 179))] [] _ 0 0
  have F : Fm [77, 75, 78, 79, 80, 81] [202, 204, 205, 206, 207, 208, 209, 210, 211, 212, 213, 214, 215, 216, 217, 218, 219, 220, 221, 222, 223, 224, 225, 226, 227, 203, 161] s s := fm_rf _ _ s
  have L8 : ∀ (n : Nat) (t : PS) (pk qq : Int), Bd t → Fm [77, 75, 78, 79, 80, 81] [202, 204, 205, 206, 207, 208, 209, 210, 211, 212, 213, 214, 215, 216, 217, 218, 219, 220, 221, 222, 223, 224, 225, 226, 227, 203, 161] s t → RLx t → (NQ t) → (rng pk ∧ 0 ≤ qq ∧ qq ≤ 24) → (24 - qq : Int).toNat < n → (∀ (t' : PS) (pk' qq' : Int), Bd t' → Fm [77, 75, 78, 79, 80, 81] [202, 204, 205, 206, 207, 208, 209, 210, 211, 212, 213, 214, 215, 216, 217, 218, 219, 220, 221, 222, 223, 224, 225, 226, 227, 203, 161] s t' → RLx t' → (NQ t') → (rng pk' ∧ 0 ≤ qq' ∧ qq' ≤ 24) → WS k 45 [(0, .ref (A 179)), (1, .int (Int32.ofInt pk')), (2, .int (Int32.ofInt qq'))] [] (Wd A dT t') 0 0) → WS k 8 [(0, .ref (A 179)), (1, .int (Int32.ofInt pk)), (2, .int (Int32.ofInt qq))] [] (Wd A dT t) 0 0 := by
    intro n
    induction n with
    | zero =>
      intro t pk qq I F jjRLx hq hi hm kx
      exact absurd hm (Nat.not_lt_zero _)
    | succ n ih =>
      intro t pk qq I F jjRLx hq hi hm kx
      refine z_load_n X (x := qq) (show cdA 231 8 = some (.iload_n 2, 1, 0, 0, 0) from rfl) (List.Mem.tail _ (List.Mem.tail _ (List.Mem.head _))) ?_
      refine z_bipush X (show cdA 231 9 = some (.bipush 24, 2, 0, 0, 24) from rfl) ?_
      refine z_icmp_ge X (t := 45) (show cdA 231 11 = some (.if_icmp .ge 34, 3, 3, 0, 0) from rfl) (by decide) ⟨by first | exact oq_fa4e5087 hi.2.1 | omega, by first | exact oq_5bcd337f hi.2.2 | omega⟩ (by decide) (fun g1001 => ?_) (fun g1001 => ?_)
      ·
        refine WS_lv (lv := [(0, .ref (A 179)), (1, .int (Int32.ofInt pk)), (2, .int (Int32.ofInt qq))]) (List.forall_mem_cons.mpr ⟨(List.Mem.head _), (List.forall_mem_cons.mpr ⟨(List.Mem.tail _ (List.Mem.head _)), (List.forall_mem_cons.mpr ⟨(List.Mem.tail _ (List.Mem.tail _ (List.Mem.head _))), (fun q h => absurd h List.not_mem_nil)⟩)⟩)⟩) ?_
        exact kx _ pk qq I F jjRLx hq (by first | exact ⟨And.intro (hi.1.1) (hi.1.2), hi.2.1, hi.2.2⟩ | omega)
      ·
        refine z_aload_n X (x := A 179) (show cdA 231 14 = some (.aload_n 0, 1, 0, 0, 0) from rfl) (List.Mem.head _) ?_
        refine z_load_n X (x := qq) (show cdA 231 15 = some (.iload_n 2, 1, 0, 0, 0) from rfl) (List.Mem.tail _ (List.Mem.tail _ (List.Mem.head _))) ?_
        refine z_callV X 179 (rm := rmN 224) (As := [.int (Int32.ofInt qq)]) (st := []) (show cdA 231 16 = some (.invokevirtual 309, 3, 224, 0, 0) from rfl) rfl (by decide) rfl (by rw [E.1, E.2.1, E.2.2.1]; exact k_numbersIn G I (by first | exact ⟨hi.2.1, oq_c69fe266 g1001⟩ | omega)) ⟨by rw [E.2.2.2]; exact (show (rmN 224).frames + 1 ≤ (rmN 231).frames by decide), by rw [E.2.2.2]; exact (show 8 + (mNL (miB 224) + 11) + (rmN 224).locals ≤ (rmN 231).locals by decide), by rw [E.2.2.2]; exact (show 0 + (rmN 224).cells ≤ (rmN 231).cells by decide), by rw [E.2.2.2]; exact (show 0 + (rmN 224).slots ≤ (rmN 231).slots by decide)⟩ (Nat.le_of_ble_eq_true rfl) (fun vv s1002 hq => ?_) (fun ee s1002 hq => ?_)
        rotate_left
        · obtain ⟨Is1002, Fs1002, hv, hps1002⟩ := hq; cases hv
        obtain ⟨Is1002, Fs1002, hv, hps1002⟩ := hq
        cases hv
        have Gs1002 := fm_ts F Fs1002 (by decide) (by decide)
        have JRLx_s1002 : RLx s1002 := RLx_fm Fs1002 (by decide) jjRLx
        have JNQ_s1002 : NQ s1002 := NQ_fm Fs1002 (by decide) hq
        show WS k 19 [(0, .ref (A 179)), (1, .int (Int32.ofInt pk)), (2, .int (Int32.ofInt qq))] [] (Wd A dT s1002) 0 0
        refine z_aload_n X (x := A 179) (show cdA 231 19 = some (.aload_n 0, 1, 0, 0, 0) from rfl) (List.Mem.head _) ?_
        have JNW_s1002 : NW s1002 := NW_of JNQ_s1002 JRLx_s1002
        refine z_callV X 179 (rm := rmN 228) (As := []) (st := []) (show cdA 231 20 = some (.invokevirtual 324, 3, 228, 0, 0) from rfl) rfl (by decide) rfl (by rw [E.1, E.2.1, E.2.2.1]; exact k_load G Is1002 JNW_s1002 ) ⟨by rw [E.2.2.2]; exact (show (rmN 228).frames + 1 ≤ (rmN 231).frames by decide), by rw [E.2.2.2]; exact (show 8 + (mNL (miB 228) + 11) + (rmN 228).locals ≤ (rmN 231).locals by decide), by rw [E.2.2.2]; exact (show 0 + (rmN 228).cells ≤ (rmN 231).cells by decide), by rw [E.2.2.2]; exact (show 0 + (rmN 228).slots ≤ (rmN 231).slots by decide)⟩ (Nat.le_of_ble_eq_true rfl) (fun vv s1004 hq => ?_) (fun ee s1004 hq => ?_)
        rotate_left
        · obtain ⟨Is1004, Fs1004, JNW_s1004, e1005, hv, hrs1004, hps1004⟩ := hq; cases hv
        obtain ⟨Is1004, Fs1004, JNW_s1004, e1005, hv, hrs1004, hps1004⟩ := hq
        cases hv
        have Gs1004 := fm_ts Gs1002 Fs1004 (by decide) (by decide)
        have JRLx_s1004 : RLx s1004 := RLx_fm Fs1004 (by decide) JRLx_s1002
        have JNQ_s1004 : NQ s1004 := NQ_fm Fs1004 (by decide) JNQ_s1002
        have JNW_s1004 : NW s1004 := NW_fm Fs1004 (by decide) JNW_s1002
        show WS k 23 [(0, .ref (A 179)), (1, .int (Int32.ofInt pk)), (2, .int (Int32.ofInt qq))] [.int (Int32.ofInt e1005)] (Wd A dT s1004) 0 0
        refine z_store_n X (lv' := [(3, .int (Int32.ofInt e1005)), (0, .ref (A 179)), (1, .int (Int32.ofInt pk)), (2, .int (Int32.ofInt qq))]) (show cdA 231 23 = some (.istore_n 3, 1, 0, 0, 0) from rfl) (by decide) (fun _ h => h) ?_
        refine z_load_n X (x := qq) (show cdA 231 24 = some (.iload_n 2, 1, 0, 0, 0) from rfl) (List.Mem.tail _ (List.Mem.tail _ (List.Mem.tail _ (List.Mem.head _)))) ?_
        have N1006 : ∀ e1007 : Int, (((qq = 0) ∧ e1007 = e1005) ∨ ((qq ≠ 0) ∧ (e1005 ≤ pk) ∧ e1007 = pk) ∨ ((qq ≠ 0) ∧ (pk < e1005) ∧ e1007 = e1005)) → WS k 38 [(3, .int (Int32.ofInt e1005)), (0, .ref (A 179)), (1, .int (Int32.ofInt pk)), (2, .int (Int32.ofInt qq))] [.int (Int32.ofInt e1007)] (Wd A dT s1004) 0 0 := by
          intro e1007 he1007
          refine z_store_n X (lv' := [(1, .int (Int32.ofInt e1007)), (3, .int (Int32.ofInt e1005)), (0, .ref (A 179)), (2, .int (Int32.ofInt qq))]) (show cdA 231 38 = some (.istore_n 1, 1, 0, 0, 0) from rfl) (by decide) (fun _ h => h) ?_
          refine z_inc X (x := qq) (lv' := [(2, .int (Int32.ofInt (qq + 1))), (1, .int (Int32.ofInt e1007)), (3, .int (Int32.ofInt e1005)), (0, .ref (A 179))]) (show cdA 231 39 = some (.iinc 2 1, 3, 0, 0, 0) from rfl) (by decide) (List.Mem.tail _ (List.Mem.tail _ (List.Mem.tail _ (List.Mem.head _)))) (fun _ h => h) ?_
          refine z_goto X (t := 8) (show cdA 231 42 = some (.goto (-34), 3, 0, 0, 0) from rfl) (by decide) ?_
          refine WS_lv (lv := [(0, .ref (A 179)), (1, .int (Int32.ofInt e1007)), (2, .int (Int32.ofInt (qq + 1)))]) (List.forall_mem_cons.mpr ⟨(List.Mem.tail _ (List.Mem.tail _ (List.Mem.tail _ (List.Mem.head _)))), (List.forall_mem_cons.mpr ⟨(List.Mem.tail _ (List.Mem.head _)), (List.forall_mem_cons.mpr ⟨(List.Mem.head _), (fun q h => absurd h List.not_mem_nil)⟩)⟩)⟩) ?_
          exact ih _ e1007 (qq + 1) Is1004 Gs1004 JRLx_s1004 JNQ_s1004 (by first | exact ⟨by omega, oq_54f49eb5 hi.2.1, oq_cec7cb2e g1001⟩ | omega) (by first | exact qk_me hm (by decide) (oq_ffa8317e g1001) | omega) kx
        refine z_if_eq X (t := 33) (show cdA 231 25 = some (.ifCond .eq 8, 3, 0, 0, 0) from rfl) (by decide) ⟨by first | exact oq_fa4e5087 hi.2.1 | omega, by first | exact oq_1d70227b g1001 | omega⟩ (fun g1008 => ?_) (fun g1008 => ?_)
        ·
          refine z_load_n X (x := e1005) (show cdA 231 33 = some (.iload_n 3, 1, 0, 0, 0) from rfl) (List.Mem.head _) ?_
          refine z_goto X (t := 38) (show cdA 231 34 = some (.goto 4, 3, 0, 0, 0) from rfl) (by decide) ?_
          exact N1006 _ (Or.inl ⟨g1008, rfl⟩)
        ·
          refine z_load_n X (x := e1005) (show cdA 231 28 = some (.iload_n 3, 1, 0, 0, 0) from rfl) (List.Mem.head _) ?_
          refine z_load_n X (x := pk) (show cdA 231 29 = some (.iload_n 1, 1, 0, 0, 0) from rfl) (List.Mem.tail _ (List.Mem.tail _ (List.Mem.head _))) ?_
          refine z_icmp_le X (t := 37) (show cdA 231 30 = some (.if_icmp .le 7, 3, 5, 0, 0) from rfl) (by decide) hrs1004 ⟨by first | exact hi.1.1 | omega, by first | exact hi.1.2 | omega⟩ (fun g1009 => ?_) (fun g1009 => ?_)
          ·
            refine z_load_n X (x := pk) (show cdA 231 37 = some (.iload_n 1, 1, 0, 0, 0) from rfl) (List.Mem.tail _ (List.Mem.tail _ (List.Mem.head _))) ?_
            exact N1006 _ (Or.inr (Or.inl ⟨g1008, g1009, rfl⟩))
          ·
            refine z_load_n X (x := e1005) (show cdA 231 33 = some (.iload_n 3, 1, 0, 0, 0) from rfl) (List.Mem.head _) ?_
            refine z_goto X (t := 38) (show cdA 231 34 = some (.goto 4, 3, 0, 0, 0) from rfl) (by decide) ?_
            exact N1006 _ (Or.inr (Or.inr (⟨g1008, g1009, rfl⟩)))
  refine z_const X (show cdA 231 0 = some (.iconst 0, 1, 0, 0, 0) from rfl) ?_
  refine z_store_n X (lv' := [(1, .int (Int32.ofInt 0)), (0, .ref (A 179))]) (show cdA 231 1 = some (.istore_n 1, 1, 0, 0, 0) from rfl) (by decide) (fun _ h => h) ?_
  refine z_aload_n X (x := A 179) (show cdA 231 2 = some (.aload_n 0, 1, 0, 0, 0) from rfl) (List.Mem.tail _ (List.Mem.head _)) ?_
  refine z_callV X 179 (rm := rmN 223) (As := []) (st := []) (show cdA 231 3 = some (.invokevirtual 306, 3, 223, 0, 0) from rfl) rfl (by decide) rfl (by rw [E.1, E.2.1, E.2.2.1]; exact k_waysAsTold G I jRLx ) ⟨by rw [E.2.2.2]; exact (show (rmN 223).frames + 1 ≤ (rmN 231).frames by decide), by rw [E.2.2.2]; exact (show 8 + (mNL (miB 223) + 11) + (rmN 223).locals ≤ (rmN 231).locals by decide), by rw [E.2.2.2]; exact (show 0 + (rmN 223).cells ≤ (rmN 231).cells by decide), by rw [E.2.2.2]; exact (show 0 + (rmN 223).slots ≤ (rmN 231).slots by decide)⟩ (Nat.le_of_ble_eq_true rfl) (fun vv s1 hq => ?_) (fun ee s1 hq => ?_)
  rotate_left
  · obtain ⟨Is1, Fs1, JRLx_s1, JNQ_s1, hv, hps1⟩ := hq; cases hv
  obtain ⟨Is1, Fs1, JRLx_s1, JNQ_s1, hv, hps1⟩ := hq
  cases hv
  have Gs1 := fm_ts F Fs1 (by decide) (by decide)
  have JRLx_s1 : RLx s1 := RLx_fm Fs1 (by decide) jRLx
  show WS k 6 [(1, .int (Int32.ofInt 0)), (0, .ref (A 179))] [] (Wd A dT s1) 0 0
  refine z_const X (show cdA 231 6 = some (.iconst 0, 1, 0, 0, 0) from rfl) ?_
  refine z_store_n X (lv' := [(2, .int (Int32.ofInt 0)), (1, .int (Int32.ofInt 0)), (0, .ref (A 179))]) (show cdA 231 7 = some (.istore_n 2, 1, 0, 0, 0) from rfl) (by decide) (fun _ h => h) ?_
  refine WS_lv (lv := [(0, .ref (A 179)), (1, .int (Int32.ofInt 0)), (2, .int (Int32.ofInt 0))]) (List.forall_mem_cons.mpr ⟨(List.Mem.tail _ (List.Mem.tail _ (List.Mem.head _))), (List.forall_mem_cons.mpr ⟨(List.Mem.tail _ (List.Mem.head _)), (List.forall_mem_cons.mpr ⟨(List.Mem.head _), (fun q h => absurd h List.not_mem_nil)⟩)⟩)⟩) ?_
  refine L8 ((24 - 0 : Int).toNat + 1) s1 0 0 Is1 Gs1 JRLx_s1 JNQ_s1 (by first | exact ⟨And.intro (by decide) (by decide), by decide, by decide⟩ | omega) (Nat.lt_succ_self _) ?_
  intro s3 x4 x5 Is3 Fs3 JRLx_s3 Qs3 hs3
  refine z_load_n X (x := x4) (show cdA 231 45 = some (.iload_n 1, 1, 0, 0, 0) from rfl) (List.Mem.tail _ (List.Mem.head _)) ?_
  exact w_iret X.1 q hRt rfl (ax_d X (show cdA 231 46 = some (.ireturn, 1, 0, 0, 0) from rfl)) (Nat.zero_le _) (Nat.zero_le _) ⟨_, rfl, Is3, Fs3, JRLx_s3, x4, rfl, ⟨by first | exact hs3.1.1 | omega, by first | exact hs3.1.2 | omega⟩, trivial⟩
set_option maxRecDepth 4000 in
theorem k_peakOfPiece (G : GX l s0 D tys a0 dT) (I : Bd s) (jRLx : RLx s) {x : Int} (p0 : rng x) : CT l s0 D A dT 232 (rmN 232) [.ref (A 179), .int (Int32.ofInt x)] s (fun o t => Bd t ∧ Fm [77, 75, 78, 79, 80, 81] [202, 204, 205, 206, 207, 208, 209, 210, 211, 212, 213, 214, 215, 216, 217, 218, 219, 220, 221, 222, 223, 224, 225, 226, 227, 203, 161, 230] s t ∧ RLx t ∧ ∃ e, o = .inl (some (.int (Int32.ofInt e))) ∧ rng e ∧ (True)) := by
  refine ct_of G (by decide) (Nat.le_of_ble_eq_true rfl) (fun k X E hRt hXt q => ?_)
  show WS k 0 [(0, .ref (A 179)), (1, .int (Int32.ofInt x))] [] _ 0 0
  have F : Fm [77, 75, 78, 79, 80, 81] [202, 204, 205, 206, 207, 208, 209, 210, 211, 212, 213, 214, 215, 216, 217, 218, 219, 220, 221, 222, 223, 224, 225, 226, 227, 203, 161, 230] s s := fm_rf _ _ s
  refine z_aload_n X (x := A 179) (show cdA 232 0 = some (.aload_n 0, 1, 0, 0, 0) from rfl) (List.Mem.head _) ?_
  refine z_load_n X (x := x) (show cdA 232 1 = some (.iload_n 1, 1, 0, 0, 0) from rfl) (List.Mem.tail _ (List.Mem.head _)) ?_
  refine z_callV X 179 (rm := rmN 230) (As := [.int (Int32.ofInt x)]) (st := []) (show cdA 232 2 = some (.invokevirtual 327, 3, 230, 0, 0) from rfl) rfl (by decide) rfl (by rw [E.1, E.2.1, E.2.2.1]; exact k_setOf G I (by first | exact ⟨p0.1, p0.2⟩ | omega)) ⟨by rw [E.2.2.2]; exact (show (rmN 230).frames + 1 ≤ (rmN 232).frames by decide), by rw [E.2.2.2]; exact (show 8 + (mNL (miB 230) + 11) + (rmN 230).locals ≤ (rmN 232).locals by decide), by rw [E.2.2.2]; exact (show 0 + (rmN 230).cells ≤ (rmN 232).cells by decide), by rw [E.2.2.2]; exact (show 0 + (rmN 230).slots ≤ (rmN 232).slots by decide)⟩ (Nat.le_of_ble_eq_true rfl) (fun vv s1 hq => ?_) (fun ee s1 hq => ?_)
  rotate_left
  · obtain ⟨Is1, Fs1, hv, hps1⟩ := hq; cases hv
  obtain ⟨Is1, Fs1, hv, hps1⟩ := hq
  cases hv
  have Gs1 := fm_ts F Fs1 (by decide) (by decide)
  have JRLx_s1 : RLx s1 := RLx_fm Fs1 (by decide) jRLx
  show WS k 5 [(0, .ref (A 179)), (1, .int (Int32.ofInt x))] [] (Wd A dT s1) 0 0
  refine z_aload_n X (x := A 179) (show cdA 232 5 = some (.aload_n 0, 1, 0, 0, 0) from rfl) (List.Mem.head _) ?_
  refine z_callV X 179 (rm := rmN 231) (As := []) (st := []) (show cdA 232 6 = some (.invokevirtual 330, 3, 231, 0, 0) from rfl) rfl (by decide) rfl (by rw [E.1, E.2.1, E.2.2.1]; exact k_peakOfSet G Is1 JRLx_s1 ) ⟨by rw [E.2.2.2]; exact (show (rmN 231).frames + 1 ≤ (rmN 232).frames by decide), by rw [E.2.2.2]; exact (show 8 + (mNL (miB 231) + 11) + (rmN 231).locals ≤ (rmN 232).locals by decide), by rw [E.2.2.2]; exact (show 0 + (rmN 231).cells ≤ (rmN 232).cells by decide), by rw [E.2.2.2]; exact (show 0 + (rmN 231).slots ≤ (rmN 232).slots by decide)⟩ (Nat.le_of_ble_eq_true rfl) (fun vv s3 hq => ?_) (fun ee s3 hq => ?_)
  rotate_left
  · obtain ⟨Is3, Fs3, JRLx_s3, e4, hv, hrs3, hps3⟩ := hq; cases hv
  obtain ⟨Is3, Fs3, JRLx_s3, e4, hv, hrs3, hps3⟩ := hq
  cases hv
  have Gs3 := fm_ts Gs1 Fs3 (by decide) (by decide)
  have JRLx_s3 : RLx s3 := RLx_fm Fs3 (by decide) JRLx_s1
  show WS k 9 [(0, .ref (A 179)), (1, .int (Int32.ofInt x))] [.int (Int32.ofInt e4)] (Wd A dT s3) 0 0
  exact w_iret X.1 q hRt rfl (ax_d X (show cdA 232 9 = some (.ireturn, 1, 0, 0, 0) from rfl)) (Nat.zero_le _) (Nat.zero_le _) ⟨_, rfl, Is3, Gs3, JRLx_s3, e4, rfl, hrs3, trivial⟩
set_option maxRecDepth 4000 in
theorem k_hears (G : GX l s0 D tys a0 dT) (I : Bd s) (jRLx : RLx s) {x y z : Int} (p0 : rng x) (p1 : rng y) (p2 : rng z) : CT l s0 D A dT 237 (rmN 237) [.ref (A 179), .int (Int32.ofInt x), .int (Int32.ofInt y), .int (Int32.ofInt z)] s (fun o t => Bd t ∧ Fm [73, 77, 75, 78, 79, 80, 81] [202, 204, 205, 206, 207, 208, 209, 210, 211, 212, 213, 214, 215, 216, 217, 218, 219, 220, 221, 222, 223, 224, 225, 226, 227, 203, 161, 230] s t ∧ RLx t ∧ ∃ e, o = .inl (some (.int (Int32.ofInt e))) ∧ rng e ∧ (True)) := by
  refine ct_of G (by decide) (Nat.le_of_ble_eq_true rfl) (fun k X E hRt hXt q => ?_)
  show WS k 0 [(0, .ref (A 179)), (1, .int (Int32.ofInt x)), (2, .int (Int32.ofInt y)), (3, .int (Int32.ofInt z))] [] _ 0 0
  have F : Fm [73, 77, 75, 78, 79, 80, 81] [202, 204, 205, 206, 207, 208, 209, 210, 211, 212, 213, 214, 215, 216, 217, 218, 219, 220, 221, 222, 223, 224, 225, 226, 227, 203, 161, 230] s s := fm_rf _ _ s
  have b1 : (0 : Int) ≤ iI s 73 ∧ iI s 73 ≤ 3 := I.1 73
  refine z_aload_n X (x := A 179) (show cdA 237 0 = some (.aload_n 0, 1, 0, 0, 0) from rfl) (List.Mem.head _) ?_
  refine z_const X (show cdA 237 1 = some (.iconst 0, 1, 0, 0, 0) from rfl) ?_
  refine s_putI X 179 (show cdA 237 2 = some (.putfield 172, 3, 12, 0, 0) from rfl) (by decide) rfl rfl (by decide) rfl rfl rfl ?_
  obtain ⟨s2, hs2⟩ : ∃ x0, x0 = uI s 73 (Int32.ofInt 0) := ⟨_, rfl⟩
  rw [← hs2]
  have Is2 : Bd s2 := by rw [hs2]; exact bd_I I (show (0 : Int) ≤ 0 ∧ 0 ≤ 3 by first | exact ⟨by decide, by decide⟩ | omega) (by decide)
  have Fs2 := fm_I (x := Int32.ofInt 0) F (show 73 ∈ _ by decide)
  rw [← hs2] at Fs2
  have vs2 : iI s2 73 = 0 := by rw [hs2]; exact iI_u (by decide)
  have fs2 : Fm [73] [] s s2 := by rw [hs2]; exact fm_I (fm_rf _ _ _) (show 73 ∈ _ by decide)
  have JRLx_s2 : RLx s2 := RLx_fm fs2 (by decide) jRLx
  refine z_aload_n X (x := A 179) (show cdA 237 5 = some (.aload_n 0, 1, 0, 0, 0) from rfl) (List.Mem.head _) ?_
  refine z_load_n X (x := x) (show cdA 237 6 = some (.iload_n 1, 1, 0, 0, 0) from rfl) (List.Mem.tail _ (List.Mem.head _)) ?_
  refine z_const X (show cdA 237 7 = some (.iconst 0, 1, 0, 0, 0) from rfl) ?_
  refine z_bipush X (show cdA 237 8 = some (.bipush 7, 2, 0, 0, 7) from rfl) ?_
  refine z_callS X (rm := rmN 188) (As := [.int (Int32.ofInt x), .int (Int32.ofInt 0), .int (Int32.ofInt 7)]) (st := [.ref (A 179)]) (show cdA 237 10 = some (.invokestatic 209, 3, 188, 1, 0) from rfl) rfl (by rw [E.1, E.2.1, E.2.2.1]; exact k_in G Is2 (by first | exact ⟨p0.1, p0.2⟩ | omega) (by first | exact ⟨by decide, by decide⟩ | omega) (by first | exact ⟨by decide, by decide⟩ | omega)) ⟨by rw [E.2.2.2]; exact (show (rmN 188).frames + 1 ≤ (rmN 237).frames by decide), by rw [E.2.2.2]; exact (show 8 + (mNL (miB 188) + 11) + (rmN 188).locals ≤ (rmN 237).locals by decide), by rw [E.2.2.2]; exact (show 0 + (rmN 188).cells ≤ (rmN 237).cells by decide), by rw [E.2.2.2]; exact (show 0 + (rmN 188).slots ≤ (rmN 237).slots by decide)⟩ (Nat.le_of_ble_eq_true rfl) (fun vv s3 hq => ?_) (fun ee s3 hq => ?_)
  rotate_left
  · obtain ⟨Is3, Fs3, e4, hv, hrs3, hps3⟩ := hq; cases hv
  obtain ⟨Is3, Fs3, e4, hv, hrs3, hps3⟩ := hq
  cases hv
  have Gs3 := fm_ts Fs2 Fs3 (by decide) (by decide)
  have JRLx_s3 : RLx s3 := RLx_fm Fs3 (by decide) JRLx_s2
  have ws3_73 : iI s3 73 = iI s2 73 := fm_i Fs3 (by decide)
  show WS k 13 [(0, .ref (A 179)), (1, .int (Int32.ofInt x)), (2, .int (Int32.ofInt y)), (3, .int (Int32.ofInt z))] [.int (Int32.ofInt e4), .ref (A 179)] (Wd A dT s3) 0 0
  refine z_if_eq X (t := 35) (show cdA 237 13 = some (.ifCond .eq 22, 3, 0, 0, 0) from rfl) (by decide) hrs3 (fun g5 => ?_) (fun g5 => ?_)
  ·
    refine z_const X (show cdA 237 35 = some (.iconst 1, 1, 0, 0, 0) from rfl) ?_
    refine z_goto X (t := 40) (show cdA 237 36 = some (.goto 4, 3, 0, 0, 0) from rfl) (by decide) ?_
    refine z_const X (show cdA 237 40 = some (.iconst 1, 1, 0, 0, 0) from rfl) ?_
    refine z_callV X 179 (rm := rmN 187) (As := [.int (Int32.ofInt 1), .int (Int32.ofInt 1)]) (st := []) (show cdA 237 41 = some (.invokevirtual 229, 3, 187, 0, 0) from rfl) rfl (by decide) rfl (by rw [E.1, E.2.1, E.2.2.1]; exact k_bad G Is3 (by first | exact Or.inr (by decide) | omega) (by first | exact ⟨by decide, by decide⟩ | omega)) ⟨by rw [E.2.2.2]; exact (show (rmN 187).frames + 1 ≤ (rmN 237).frames by decide), by rw [E.2.2.2]; exact (show 8 + (mNL (miB 187) + 11) + (rmN 187).locals ≤ (rmN 237).locals by decide), by rw [E.2.2.2]; exact (show 0 + (rmN 187).cells ≤ (rmN 237).cells by decide), by rw [E.2.2.2]; exact (show 0 + (rmN 187).slots ≤ (rmN 237).slots by decide)⟩ (Nat.le_of_ble_eq_true rfl) (fun vv s6 hq => ?_) (fun ee s6 hq => ?_)
    rotate_left
    · obtain ⟨Is6, Fs6, e7, hv, hrs6, hps6⟩ := hq; cases hv
    obtain ⟨Is6, Fs6, e7, hv, hrs6, hps6⟩ := hq
    cases hv
    have Gs6 := fm_ts Gs3 Fs6 (by decide) (by decide)
    have JRLx_s6 : RLx s6 := RLx_fm Fs6 (by decide) JRLx_s3
    have b8 : (0 : Int) ≤ iI s6 73 ∧ iI s6 73 ≤ 3 := Is6.1 73
    show WS k 44 [(0, .ref (A 179)), (1, .int (Int32.ofInt x)), (2, .int (Int32.ofInt y)), (3, .int (Int32.ofInt z))] [.int (Int32.ofInt e7)] (Wd A dT s6) 0 0
    refine z_if_eq X (t := 49) (show cdA 237 44 = some (.ifCond .eq 5, 3, 0, 0, 0) from rfl) (by decide) hrs6 (fun g9 => ?_) (fun g9 => ?_)
    ·
      refine z_aload_n X (x := A 179) (show cdA 237 49 = some (.aload_n 0, 1, 0, 0, 0) from rfl) (List.Mem.head _) ?_
      refine z_load_n X (x := x) (show cdA 237 50 = some (.iload_n 1, 1, 0, 0, 0) from rfl) (List.Mem.tail _ (List.Mem.head _)) ?_
      refine z_callV X 179 (rm := rmN 230) (As := [.int (Int32.ofInt x)]) (st := []) (show cdA 237 51 = some (.invokevirtual 327, 3, 230, 0, 0) from rfl) rfl (by decide) rfl (by rw [E.1, E.2.1, E.2.2.1]; exact k_setOf G Is6 (by first | exact ⟨p0.1, p0.2⟩ | omega)) ⟨by rw [E.2.2.2]; exact (show (rmN 230).frames + 1 ≤ (rmN 237).frames by decide), by rw [E.2.2.2]; exact (show 8 + (mNL (miB 230) + 11) + (rmN 230).locals ≤ (rmN 237).locals by decide), by rw [E.2.2.2]; exact (show 0 + (rmN 230).cells ≤ (rmN 237).cells by decide), by rw [E.2.2.2]; exact (show 0 + (rmN 230).slots ≤ (rmN 237).slots by decide)⟩ (Nat.le_of_ble_eq_true rfl) (fun vv s10 hq => ?_) (fun ee s10 hq => ?_)
      rotate_left
      · obtain ⟨Is10, Fs10, hv, hps10⟩ := hq; cases hv
      obtain ⟨Is10, Fs10, hv, hps10⟩ := hq
      cases hv
      have Gs10 := fm_ts Gs6 Fs10 (by decide) (by decide)
      have JRLx_s10 : RLx s10 := RLx_fm Fs10 (by decide) JRLx_s6
      have ws10_73 : iI s10 73 = iI s6 73 := fm_i Fs10 (by decide)
      show WS k 54 [(0, .ref (A 179)), (1, .int (Int32.ofInt x)), (2, .int (Int32.ofInt y)), (3, .int (Int32.ofInt z))] [] (Wd A dT s10) 0 0
      refine z_aload_n X (x := A 179) (show cdA 237 54 = some (.aload_n 0, 1, 0, 0, 0) from rfl) (List.Mem.head _) ?_
      refine z_load_n X (x := y) (show cdA 237 55 = some (.iload_n 2, 1, 0, 0, 0) from rfl) (List.Mem.tail _ (List.Mem.tail _ (List.Mem.head _))) ?_
      refine z_callV X 179 (rm := rmN 222) (As := [.int (Int32.ofInt y)]) (st := []) (show cdA 237 56 = some (.invokevirtual 333, 3, 222, 0, 0) from rfl) rfl (by decide) rfl (by rw [E.1, E.2.1, E.2.2.1]; exact k_asTold G Is10 JRLx_s10 (by first | exact ⟨oq_65cab3da g9 hps6.2.1, oq_5b968bc5 g9 hps6.2.1⟩ | omega)) ⟨by rw [E.2.2.2]; exact (show (rmN 222).frames + 1 ≤ (rmN 237).frames by decide), by rw [E.2.2.2]; exact (show 8 + (mNL (miB 222) + 11) + (rmN 222).locals ≤ (rmN 237).locals by decide), by rw [E.2.2.2]; exact (show 0 + (rmN 222).cells ≤ (rmN 237).cells by decide), by rw [E.2.2.2]; exact (show 0 + (rmN 222).slots ≤ (rmN 237).slots by decide)⟩ (Nat.le_of_ble_eq_true rfl) (fun vv s12 hq => ?_) (fun ee s12 hq => ?_)
      rotate_left
      · obtain ⟨Is12, Fs12, JRLx_s12, JNQ_s12, hv, hps12⟩ := hq; cases hv
      obtain ⟨Is12, Fs12, JRLx_s12, JNQ_s12, hv, hps12⟩ := hq
      cases hv
      have Gs12 := fm_ts Gs10 Fs12 (by decide) (by decide)
      have JRLx_s12 : RLx s12 := RLx_fm Fs12 (by decide) JRLx_s10
      have ws12_73 : iI s12 73 = iI s10 73 := fm_i Fs12 (by decide)
      show WS k 59 [(0, .ref (A 179)), (1, .int (Int32.ofInt x)), (2, .int (Int32.ofInt y)), (3, .int (Int32.ofInt z))] [] (Wd A dT s12) 0 0
      refine z_aload_n X (x := A 179) (show cdA 237 59 = some (.aload_n 0, 1, 0, 0, 0) from rfl) (List.Mem.head _) ?_
      have JNW_s12 : NW s12 := NW_of JNQ_s12 JRLx_s12
      refine z_callV X 179 (rm := rmN 228) (As := []) (st := []) (show cdA 237 60 = some (.invokevirtual 324, 3, 228, 0, 0) from rfl) rfl (by decide) rfl (by rw [E.1, E.2.1, E.2.2.1]; exact k_load G Is12 JNW_s12 ) ⟨by rw [E.2.2.2]; exact (show (rmN 228).frames + 1 ≤ (rmN 237).frames by decide), by rw [E.2.2.2]; exact (show 8 + (mNL (miB 228) + 11) + (rmN 228).locals ≤ (rmN 237).locals by decide), by rw [E.2.2.2]; exact (show 0 + (rmN 228).cells ≤ (rmN 237).cells by decide), by rw [E.2.2.2]; exact (show 0 + (rmN 228).slots ≤ (rmN 237).slots by decide)⟩ (Nat.le_of_ble_eq_true rfl) (fun vv s14 hq => ?_) (fun ee s14 hq => ?_)
      rotate_left
      · obtain ⟨Is14, Fs14, JNW_s14, e15, hv, hrs14, hps14⟩ := hq; cases hv
      obtain ⟨Is14, Fs14, JNW_s14, e15, hv, hrs14, hps14⟩ := hq
      cases hv
      have Gs14 := fm_ts Gs12 Fs14 (by decide) (by decide)
      have JRLx_s14 : RLx s14 := RLx_fm Fs14 (by decide) JRLx_s12
      have JNQ_s14 : NQ s14 := NQ_fm Fs14 (by decide) JNQ_s12
      have JNW_s14 : NW s14 := NW_fm Fs14 (by decide) JNW_s12
      have ws14_73 : iI s14 73 = iI s12 73 := fm_i Fs14 (by decide)
      show WS k 63 [(0, .ref (A 179)), (1, .int (Int32.ofInt x)), (2, .int (Int32.ofInt y)), (3, .int (Int32.ofInt z))] [.int (Int32.ofInt e15)] (Wd A dT s14) 0 0
      refine z_store X (lv' := [(4, .int (Int32.ofInt e15)), (0, .ref (A 179)), (1, .int (Int32.ofInt x)), (2, .int (Int32.ofInt y)), (3, .int (Int32.ofInt z))]) (show cdA 237 63 = some (.istore 4, 2, 0, 0, 0) from rfl) (by decide) (fun _ h => h) ?_
      refine z_load_n X (x := z) (show cdA 237 65 = some (.iload_n 3, 1, 0, 0, 0) from rfl) (List.Mem.tail _ (List.Mem.tail _ (List.Mem.tail _ (List.Mem.tail _ (List.Mem.head _))))) ?_
      refine z_const X (show cdA 237 66 = some (.iconst 4, 1, 0, 0, 0) from rfl) ?_
      have N16 : ∀ e17 : Int, (((z ≠ 4) ∧ (((-2147483648) : Int) ≤ iC s14 161 (z).toNat ∧ iC s14 161 (z).toNat ≤ 2147483647) ∧ e17 = (iC s14 161 (z).toNat)) ∨ ((z = 4) ∧ e17 = e15)) → WS k 81 [(4, .int (Int32.ofInt e15)), (0, .ref (A 179)), (1, .int (Int32.ofInt x)), (2, .int (Int32.ofInt y)), (3, .int (Int32.ofInt z))] [.int (Int32.ofInt e17)] (Wd A dT s14) 0 0 := by
        intro e17 he17
        exact w_iret X.1 q hRt rfl (ax_d X (show cdA 237 81 = some (.ireturn, 1, 0, 0, 0) from rfl)) (Nat.zero_le _) (Nat.zero_le _) ⟨_, rfl, Is14, Gs14, JRLx_s14, e17, rfl, ⟨by first | exact oq_4386d538 g9 hps6.2.1 | omega, by first | exact oq_403037f8 g9 hps6.2.1 | omega⟩, trivial⟩
      refine z_icmp_ne X (t := 75) (show cdA 237 67 = some (.if_icmp .ne 8, 3, 1, 0, 0) from rfl) (by decide) ⟨by first | exact p2.1 | omega, by first | exact p2.2 | omega⟩ (by decide) (fun g18 => ?_) (fun g18 => ?_)
      ·
        refine z_aload_n X (x := A 179) (show cdA 237 75 = some (.aload_n 0, 1, 0, 0, 0) from rfl) (List.Mem.tail _ (List.Mem.head _)) ?_
        refine s_getR X 179 (show cdA 237 76 = some (.getfield 32, 3, 12, 21, 0) from rfl) (by decide) rfl rfl ?_
        refine z_load_n X (x := z) (show cdA 237 79 = some (.iload_n 3, 1, 0, 0, 0) from rfl) (List.Mem.tail _ (List.Mem.tail _ (List.Mem.tail _ (List.Mem.tail _ (List.Mem.head _))))) ?_
        refine z_ald X 184 (show cdA 237 80 = some (.iaload, 1, 0, 0, 0) from rfl) (by decide) rfl (by first | exact oq_65cab3da g9 hps6.2.1 | omega) (show z < 7 by first | exact oq_77a8a064 g9 hps6.2.1 | omega) (by decide) ?_
        have b19 : ((-2147483648) : Int) ≤ iC s14 161 (z).toNat ∧ iC s14 161 (z).toNat ≤ 2147483647 := Is14.2 161 _ (show (z).toNat < 7 by first | exact oq_c30f80f1 g9 hps6.2.1 | omega)
        exact N16 _ (Or.inl ⟨g18, b19, rfl⟩)
      ·
        refine z_load X (x := e15) (show cdA 237 70 = some (.iload 4, 2, 0, 0, 0) from rfl) (List.Mem.head _) ?_
        refine z_goto X (t := 81) (show cdA 237 72 = some (.goto 9, 3, 0, 0, 0) from rfl) (by decide) ?_
        exact N16 _ (Or.inr (⟨g18, rfl⟩))
    ·
      refine z_const X (show cdA 237 47 = some (.iconst 0, 1, 0, 0, 0) from rfl) ?_
      exact w_iret X.1 q hRt rfl (ax_d X (show cdA 237 48 = some (.ireturn, 1, 0, 0, 0) from rfl)) (Nat.zero_le _) (Nat.zero_le _) ⟨_, rfl, Is6, Gs6, JRLx_s6, 0, rfl, (by decide), trivial⟩
  ·
    refine z_load_n X (x := y) (show cdA 237 16 = some (.iload_n 2, 1, 0, 0, 0) from rfl) (List.Mem.tail _ (List.Mem.tail _ (List.Mem.head _))) ?_
    refine z_const X (show cdA 237 17 = some (.iconst 0, 1, 0, 0, 0) from rfl) ?_
    refine z_bipush X (show cdA 237 18 = some (.bipush 23, 2, 0, 0, 23) from rfl) ?_
    refine z_callS X (rm := rmN 188) (As := [.int (Int32.ofInt y), .int (Int32.ofInt 0), .int (Int32.ofInt 23)]) (st := [.ref (A 179)]) (show cdA 237 20 = some (.invokestatic 209, 3, 188, 1, 0) from rfl) rfl (by rw [E.1, E.2.1, E.2.2.1]; exact k_in G Is3 (by first | exact ⟨p1.1, p1.2⟩ | omega) (by first | exact ⟨by decide, by decide⟩ | omega) (by first | exact ⟨by decide, by decide⟩ | omega)) ⟨by rw [E.2.2.2]; exact (show (rmN 188).frames + 1 ≤ (rmN 237).frames by decide), by rw [E.2.2.2]; exact (show 8 + (mNL (miB 188) + 11) + (rmN 188).locals ≤ (rmN 237).locals by decide), by rw [E.2.2.2]; exact (show 0 + (rmN 188).cells ≤ (rmN 237).cells by decide), by rw [E.2.2.2]; exact (show 0 + (rmN 188).slots ≤ (rmN 237).slots by decide)⟩ (Nat.le_of_ble_eq_true rfl) (fun vv s20 hq => ?_) (fun ee s20 hq => ?_)
    rotate_left
    · obtain ⟨Is20, Fs20, e21, hv, hrs20, hps20⟩ := hq; cases hv
    obtain ⟨Is20, Fs20, e21, hv, hrs20, hps20⟩ := hq
    cases hv
    have Gs20 := fm_ts Gs3 Fs20 (by decide) (by decide)
    have JRLx_s20 : RLx s20 := RLx_fm Fs20 (by decide) JRLx_s3
    have ws20_73 : iI s20 73 = iI s3 73 := fm_i Fs20 (by decide)
    show WS k 23 [(0, .ref (A 179)), (1, .int (Int32.ofInt x)), (2, .int (Int32.ofInt y)), (3, .int (Int32.ofInt z))] [.int (Int32.ofInt e21), .ref (A 179)] (Wd A dT s20) 0 0
    refine z_if_eq X (t := 35) (show cdA 237 23 = some (.ifCond .eq 12, 3, 0, 0, 0) from rfl) (by decide) hrs20 (fun g22 => ?_) (fun g22 => ?_)
    ·
      refine z_const X (show cdA 237 35 = some (.iconst 1, 1, 0, 0, 0) from rfl) ?_
      refine z_goto X (t := 40) (show cdA 237 36 = some (.goto 4, 3, 0, 0, 0) from rfl) (by decide) ?_
      refine z_const X (show cdA 237 40 = some (.iconst 1, 1, 0, 0, 0) from rfl) ?_
      refine z_callV X 179 (rm := rmN 187) (As := [.int (Int32.ofInt 1), .int (Int32.ofInt 1)]) (st := []) (show cdA 237 41 = some (.invokevirtual 229, 3, 187, 0, 0) from rfl) rfl (by decide) rfl (by rw [E.1, E.2.1, E.2.2.1]; exact k_bad G Is20 (by first | exact Or.inr (by decide) | omega) (by first | exact ⟨by decide, by decide⟩ | omega)) ⟨by rw [E.2.2.2]; exact (show (rmN 187).frames + 1 ≤ (rmN 237).frames by decide), by rw [E.2.2.2]; exact (show 8 + (mNL (miB 187) + 11) + (rmN 187).locals ≤ (rmN 237).locals by decide), by rw [E.2.2.2]; exact (show 0 + (rmN 187).cells ≤ (rmN 237).cells by decide), by rw [E.2.2.2]; exact (show 0 + (rmN 187).slots ≤ (rmN 237).slots by decide)⟩ (Nat.le_of_ble_eq_true rfl) (fun vv s23 hq => ?_) (fun ee s23 hq => ?_)
      rotate_left
      · obtain ⟨Is23, Fs23, e24, hv, hrs23, hps23⟩ := hq; cases hv
      obtain ⟨Is23, Fs23, e24, hv, hrs23, hps23⟩ := hq
      cases hv
      have Gs23 := fm_ts Gs20 Fs23 (by decide) (by decide)
      have JRLx_s23 : RLx s23 := RLx_fm Fs23 (by decide) JRLx_s20
      have b25 : (0 : Int) ≤ iI s23 73 ∧ iI s23 73 ≤ 3 := Is23.1 73
      show WS k 44 [(0, .ref (A 179)), (1, .int (Int32.ofInt x)), (2, .int (Int32.ofInt y)), (3, .int (Int32.ofInt z))] [.int (Int32.ofInt e24)] (Wd A dT s23) 0 0
      refine z_if_eq X (t := 49) (show cdA 237 44 = some (.ifCond .eq 5, 3, 0, 0, 0) from rfl) (by decide) hrs23 (fun g26 => ?_) (fun g26 => ?_)
      ·
        refine z_aload_n X (x := A 179) (show cdA 237 49 = some (.aload_n 0, 1, 0, 0, 0) from rfl) (List.Mem.head _) ?_
        refine z_load_n X (x := x) (show cdA 237 50 = some (.iload_n 1, 1, 0, 0, 0) from rfl) (List.Mem.tail _ (List.Mem.head _)) ?_
        refine z_callV X 179 (rm := rmN 230) (As := [.int (Int32.ofInt x)]) (st := []) (show cdA 237 51 = some (.invokevirtual 327, 3, 230, 0, 0) from rfl) rfl (by decide) rfl (by rw [E.1, E.2.1, E.2.2.1]; exact k_setOf G Is23 (by first | exact ⟨p0.1, p0.2⟩ | omega)) ⟨by rw [E.2.2.2]; exact (show (rmN 230).frames + 1 ≤ (rmN 237).frames by decide), by rw [E.2.2.2]; exact (show 8 + (mNL (miB 230) + 11) + (rmN 230).locals ≤ (rmN 237).locals by decide), by rw [E.2.2.2]; exact (show 0 + (rmN 230).cells ≤ (rmN 237).cells by decide), by rw [E.2.2.2]; exact (show 0 + (rmN 230).slots ≤ (rmN 237).slots by decide)⟩ (Nat.le_of_ble_eq_true rfl) (fun vv s27 hq => ?_) (fun ee s27 hq => ?_)
        rotate_left
        · obtain ⟨Is27, Fs27, hv, hps27⟩ := hq; cases hv
        obtain ⟨Is27, Fs27, hv, hps27⟩ := hq
        cases hv
        have Gs27 := fm_ts Gs23 Fs27 (by decide) (by decide)
        have JRLx_s27 : RLx s27 := RLx_fm Fs27 (by decide) JRLx_s23
        have ws27_73 : iI s27 73 = iI s23 73 := fm_i Fs27 (by decide)
        show WS k 54 [(0, .ref (A 179)), (1, .int (Int32.ofInt x)), (2, .int (Int32.ofInt y)), (3, .int (Int32.ofInt z))] [] (Wd A dT s27) 0 0
        refine z_aload_n X (x := A 179) (show cdA 237 54 = some (.aload_n 0, 1, 0, 0, 0) from rfl) (List.Mem.head _) ?_
        refine z_load_n X (x := y) (show cdA 237 55 = some (.iload_n 2, 1, 0, 0, 0) from rfl) (List.Mem.tail _ (List.Mem.tail _ (List.Mem.head _))) ?_
        refine z_callV X 179 (rm := rmN 222) (As := [.int (Int32.ofInt y)]) (st := []) (show cdA 237 56 = some (.invokevirtual 333, 3, 222, 0, 0) from rfl) rfl (by decide) rfl (by rw [E.1, E.2.1, E.2.2.1]; exact k_asTold G Is27 JRLx_s27 (by first | exact ⟨oq_65cab3da g26 hps23.2.1, oq_5b968bc5 g26 hps23.2.1⟩ | omega)) ⟨by rw [E.2.2.2]; exact (show (rmN 222).frames + 1 ≤ (rmN 237).frames by decide), by rw [E.2.2.2]; exact (show 8 + (mNL (miB 222) + 11) + (rmN 222).locals ≤ (rmN 237).locals by decide), by rw [E.2.2.2]; exact (show 0 + (rmN 222).cells ≤ (rmN 237).cells by decide), by rw [E.2.2.2]; exact (show 0 + (rmN 222).slots ≤ (rmN 237).slots by decide)⟩ (Nat.le_of_ble_eq_true rfl) (fun vv s29 hq => ?_) (fun ee s29 hq => ?_)
        rotate_left
        · obtain ⟨Is29, Fs29, JRLx_s29, JNQ_s29, hv, hps29⟩ := hq; cases hv
        obtain ⟨Is29, Fs29, JRLx_s29, JNQ_s29, hv, hps29⟩ := hq
        cases hv
        have Gs29 := fm_ts Gs27 Fs29 (by decide) (by decide)
        have JRLx_s29 : RLx s29 := RLx_fm Fs29 (by decide) JRLx_s27
        have ws29_73 : iI s29 73 = iI s27 73 := fm_i Fs29 (by decide)
        show WS k 59 [(0, .ref (A 179)), (1, .int (Int32.ofInt x)), (2, .int (Int32.ofInt y)), (3, .int (Int32.ofInt z))] [] (Wd A dT s29) 0 0
        refine z_aload_n X (x := A 179) (show cdA 237 59 = some (.aload_n 0, 1, 0, 0, 0) from rfl) (List.Mem.head _) ?_
        have JNW_s29 : NW s29 := NW_of JNQ_s29 JRLx_s29
        refine z_callV X 179 (rm := rmN 228) (As := []) (st := []) (show cdA 237 60 = some (.invokevirtual 324, 3, 228, 0, 0) from rfl) rfl (by decide) rfl (by rw [E.1, E.2.1, E.2.2.1]; exact k_load G Is29 JNW_s29 ) ⟨by rw [E.2.2.2]; exact (show (rmN 228).frames + 1 ≤ (rmN 237).frames by decide), by rw [E.2.2.2]; exact (show 8 + (mNL (miB 228) + 11) + (rmN 228).locals ≤ (rmN 237).locals by decide), by rw [E.2.2.2]; exact (show 0 + (rmN 228).cells ≤ (rmN 237).cells by decide), by rw [E.2.2.2]; exact (show 0 + (rmN 228).slots ≤ (rmN 237).slots by decide)⟩ (Nat.le_of_ble_eq_true rfl) (fun vv s31 hq => ?_) (fun ee s31 hq => ?_)
        rotate_left
        · obtain ⟨Is31, Fs31, JNW_s31, e32, hv, hrs31, hps31⟩ := hq; cases hv
        obtain ⟨Is31, Fs31, JNW_s31, e32, hv, hrs31, hps31⟩ := hq
        cases hv
        have Gs31 := fm_ts Gs29 Fs31 (by decide) (by decide)
        have JRLx_s31 : RLx s31 := RLx_fm Fs31 (by decide) JRLx_s29
        have JNQ_s31 : NQ s31 := NQ_fm Fs31 (by decide) JNQ_s29
        have JNW_s31 : NW s31 := NW_fm Fs31 (by decide) JNW_s29
        have ws31_73 : iI s31 73 = iI s29 73 := fm_i Fs31 (by decide)
        show WS k 63 [(0, .ref (A 179)), (1, .int (Int32.ofInt x)), (2, .int (Int32.ofInt y)), (3, .int (Int32.ofInt z))] [.int (Int32.ofInt e32)] (Wd A dT s31) 0 0
        refine z_store X (lv' := [(4, .int (Int32.ofInt e32)), (0, .ref (A 179)), (1, .int (Int32.ofInt x)), (2, .int (Int32.ofInt y)), (3, .int (Int32.ofInt z))]) (show cdA 237 63 = some (.istore 4, 2, 0, 0, 0) from rfl) (by decide) (fun _ h => h) ?_
        refine z_load_n X (x := z) (show cdA 237 65 = some (.iload_n 3, 1, 0, 0, 0) from rfl) (List.Mem.tail _ (List.Mem.tail _ (List.Mem.tail _ (List.Mem.tail _ (List.Mem.head _))))) ?_
        refine z_const X (show cdA 237 66 = some (.iconst 4, 1, 0, 0, 0) from rfl) ?_
        have N33 : ∀ e34 : Int, (((z ≠ 4) ∧ (((-2147483648) : Int) ≤ iC s31 161 (z).toNat ∧ iC s31 161 (z).toNat ≤ 2147483647) ∧ e34 = (iC s31 161 (z).toNat)) ∨ ((z = 4) ∧ e34 = e32)) → WS k 81 [(4, .int (Int32.ofInt e32)), (0, .ref (A 179)), (1, .int (Int32.ofInt x)), (2, .int (Int32.ofInt y)), (3, .int (Int32.ofInt z))] [.int (Int32.ofInt e34)] (Wd A dT s31) 0 0 := by
          intro e34 he34
          exact w_iret X.1 q hRt rfl (ax_d X (show cdA 237 81 = some (.ireturn, 1, 0, 0, 0) from rfl)) (Nat.zero_le _) (Nat.zero_le _) ⟨_, rfl, Is31, Gs31, JRLx_s31, e34, rfl, ⟨by first | exact oq_4386d538 g26 hps23.2.1 | omega, by first | exact oq_403037f8 g26 hps23.2.1 | omega⟩, trivial⟩
        refine z_icmp_ne X (t := 75) (show cdA 237 67 = some (.if_icmp .ne 8, 3, 1, 0, 0) from rfl) (by decide) ⟨by first | exact p2.1 | omega, by first | exact p2.2 | omega⟩ (by decide) (fun g35 => ?_) (fun g35 => ?_)
        ·
          refine z_aload_n X (x := A 179) (show cdA 237 75 = some (.aload_n 0, 1, 0, 0, 0) from rfl) (List.Mem.tail _ (List.Mem.head _)) ?_
          refine s_getR X 179 (show cdA 237 76 = some (.getfield 32, 3, 12, 21, 0) from rfl) (by decide) rfl rfl ?_
          refine z_load_n X (x := z) (show cdA 237 79 = some (.iload_n 3, 1, 0, 0, 0) from rfl) (List.Mem.tail _ (List.Mem.tail _ (List.Mem.tail _ (List.Mem.tail _ (List.Mem.head _))))) ?_
          refine z_ald X 184 (show cdA 237 80 = some (.iaload, 1, 0, 0, 0) from rfl) (by decide) rfl (by first | exact oq_65cab3da g26 hps23.2.1 | omega) (show z < 7 by first | exact oq_77a8a064 g26 hps23.2.1 | omega) (by decide) ?_
          have b36 : ((-2147483648) : Int) ≤ iC s31 161 (z).toNat ∧ iC s31 161 (z).toNat ≤ 2147483647 := Is31.2 161 _ (show (z).toNat < 7 by first | exact oq_c30f80f1 g26 hps23.2.1 | omega)
          exact N33 _ (Or.inl ⟨g35, b36, rfl⟩)
        ·
          refine z_load X (x := e32) (show cdA 237 70 = some (.iload 4, 2, 0, 0, 0) from rfl) (List.Mem.head _) ?_
          refine z_goto X (t := 81) (show cdA 237 72 = some (.goto 9, 3, 0, 0, 0) from rfl) (by decide) ?_
          exact N33 _ (Or.inr (⟨g35, rfl⟩))
      ·
        refine z_const X (show cdA 237 47 = some (.iconst 0, 1, 0, 0, 0) from rfl) ?_
        exact w_iret X.1 q hRt rfl (ax_d X (show cdA 237 48 = some (.ireturn, 1, 0, 0, 0) from rfl)) (Nat.zero_le _) (Nat.zero_le _) ⟨_, rfl, Is23, Gs23, JRLx_s23, 0, rfl, (by decide), trivial⟩
    ·
      refine z_load_n X (x := z) (show cdA 237 26 = some (.iload_n 3, 1, 0, 0, 0) from rfl) (List.Mem.tail _ (List.Mem.tail _ (List.Mem.tail _ (List.Mem.head _)))) ?_
      refine z_const X (show cdA 237 27 = some (.iconst 0, 1, 0, 0, 0) from rfl) ?_
      refine z_const X (show cdA 237 28 = some (.iconst 4, 1, 0, 0, 0) from rfl) ?_
      refine z_callS X (rm := rmN 188) (As := [.int (Int32.ofInt z), .int (Int32.ofInt 0), .int (Int32.ofInt 4)]) (st := [.ref (A 179)]) (show cdA 237 29 = some (.invokestatic 209, 3, 188, 1, 0) from rfl) rfl (by rw [E.1, E.2.1, E.2.2.1]; exact k_in G Is20 (by first | exact ⟨p2.1, p2.2⟩ | omega) (by first | exact ⟨by decide, by decide⟩ | omega) (by first | exact ⟨by decide, by decide⟩ | omega)) ⟨by rw [E.2.2.2]; exact (show (rmN 188).frames + 1 ≤ (rmN 237).frames by decide), by rw [E.2.2.2]; exact (show 8 + (mNL (miB 188) + 11) + (rmN 188).locals ≤ (rmN 237).locals by decide), by rw [E.2.2.2]; exact (show 0 + (rmN 188).cells ≤ (rmN 237).cells by decide), by rw [E.2.2.2]; exact (show 0 + (rmN 188).slots ≤ (rmN 237).slots by decide)⟩ (Nat.le_of_ble_eq_true rfl) (fun vv s37 hq => ?_) (fun ee s37 hq => ?_)
      rotate_left
      · obtain ⟨Is37, Fs37, e38, hv, hrs37, hps37⟩ := hq; cases hv
      obtain ⟨Is37, Fs37, e38, hv, hrs37, hps37⟩ := hq
      cases hv
      have Gs37 := fm_ts Gs20 Fs37 (by decide) (by decide)
      have JRLx_s37 : RLx s37 := RLx_fm Fs37 (by decide) JRLx_s20
      have ws37_73 : iI s37 73 = iI s20 73 := fm_i Fs37 (by decide)
      show WS k 32 [(0, .ref (A 179)), (1, .int (Int32.ofInt x)), (2, .int (Int32.ofInt y)), (3, .int (Int32.ofInt z))] [.int (Int32.ofInt e38), .ref (A 179)] (Wd A dT s37) 0 0
      have N39 : ∀ e40 : Int, (((e38 ≠ 0) ∧ e40 = 0) ∨ ((e38 = 0) ∧ e40 = 1)) → WS k 40 [(0, .ref (A 179)), (1, .int (Int32.ofInt x)), (2, .int (Int32.ofInt y)), (3, .int (Int32.ofInt z))] [.int (Int32.ofInt e40), .ref (A 179)] (Wd A dT s37) 0 0 := by
        intro e40 he40
        have re40 : 0 ≤ e40 ∧ e40 ≤ 1 := by omega
        refine z_const X (show cdA 237 40 = some (.iconst 1, 1, 0, 0, 0) from rfl) ?_
        refine z_callV X 179 (rm := rmN 187) (As := [.int (Int32.ofInt e40), .int (Int32.ofInt 1)]) (st := []) (show cdA 237 41 = some (.invokevirtual 229, 3, 187, 0, 0) from rfl) rfl (by decide) rfl (by rw [E.1, E.2.1, E.2.2.1]; exact k_bad G Is37 (by first | exact oq_31e518ae re40.2 re40.1 | omega) (by first | exact ⟨by decide, by decide⟩ | omega)) ⟨by rw [E.2.2.2]; exact (show (rmN 187).frames + 1 ≤ (rmN 237).frames by decide), by rw [E.2.2.2]; exact (show 8 + (mNL (miB 187) + 11) + (rmN 187).locals ≤ (rmN 237).locals by decide), by rw [E.2.2.2]; exact (show 0 + (rmN 187).cells ≤ (rmN 237).cells by decide), by rw [E.2.2.2]; exact (show 0 + (rmN 187).slots ≤ (rmN 237).slots by decide)⟩ (Nat.le_of_ble_eq_true rfl) (fun vv s41 hq => ?_) (fun ee s41 hq => ?_)
        rotate_left
        · obtain ⟨Is41, Fs41, e42, hv, hrs41, hps41⟩ := hq; cases hv
        obtain ⟨Is41, Fs41, e42, hv, hrs41, hps41⟩ := hq
        cases hv
        have Gs41 := fm_ts Gs37 Fs41 (by decide) (by decide)
        have JRLx_s41 : RLx s41 := RLx_fm Fs41 (by decide) JRLx_s37
        have b43 : (0 : Int) ≤ iI s41 73 ∧ iI s41 73 ≤ 3 := Is41.1 73
        show WS k 44 [(0, .ref (A 179)), (1, .int (Int32.ofInt x)), (2, .int (Int32.ofInt y)), (3, .int (Int32.ofInt z))] [.int (Int32.ofInt e42)] (Wd A dT s41) 0 0
        refine z_if_eq X (t := 49) (show cdA 237 44 = some (.ifCond .eq 5, 3, 0, 0, 0) from rfl) (by decide) hrs41 (fun g44 => ?_) (fun g44 => ?_)
        ·
          refine z_aload_n X (x := A 179) (show cdA 237 49 = some (.aload_n 0, 1, 0, 0, 0) from rfl) (List.Mem.head _) ?_
          refine z_load_n X (x := x) (show cdA 237 50 = some (.iload_n 1, 1, 0, 0, 0) from rfl) (List.Mem.tail _ (List.Mem.head _)) ?_
          refine z_callV X 179 (rm := rmN 230) (As := [.int (Int32.ofInt x)]) (st := []) (show cdA 237 51 = some (.invokevirtual 327, 3, 230, 0, 0) from rfl) rfl (by decide) rfl (by rw [E.1, E.2.1, E.2.2.1]; exact k_setOf G Is41 (by first | exact ⟨p0.1, p0.2⟩ | omega)) ⟨by rw [E.2.2.2]; exact (show (rmN 230).frames + 1 ≤ (rmN 237).frames by decide), by rw [E.2.2.2]; exact (show 8 + (mNL (miB 230) + 11) + (rmN 230).locals ≤ (rmN 237).locals by decide), by rw [E.2.2.2]; exact (show 0 + (rmN 230).cells ≤ (rmN 237).cells by decide), by rw [E.2.2.2]; exact (show 0 + (rmN 230).slots ≤ (rmN 237).slots by decide)⟩ (Nat.le_of_ble_eq_true rfl) (fun vv s45 hq => ?_) (fun ee s45 hq => ?_)
          rotate_left
          · obtain ⟨Is45, Fs45, hv, hps45⟩ := hq; cases hv
          obtain ⟨Is45, Fs45, hv, hps45⟩ := hq
          cases hv
          have Gs45 := fm_ts Gs41 Fs45 (by decide) (by decide)
          have JRLx_s45 : RLx s45 := RLx_fm Fs45 (by decide) JRLx_s41
          have ws45_73 : iI s45 73 = iI s41 73 := fm_i Fs45 (by decide)
          show WS k 54 [(0, .ref (A 179)), (1, .int (Int32.ofInt x)), (2, .int (Int32.ofInt y)), (3, .int (Int32.ofInt z))] [] (Wd A dT s45) 0 0
          refine z_aload_n X (x := A 179) (show cdA 237 54 = some (.aload_n 0, 1, 0, 0, 0) from rfl) (List.Mem.head _) ?_
          refine z_load_n X (x := y) (show cdA 237 55 = some (.iload_n 2, 1, 0, 0, 0) from rfl) (List.Mem.tail _ (List.Mem.tail _ (List.Mem.head _))) ?_
          refine z_callV X 179 (rm := rmN 222) (As := [.int (Int32.ofInt y)]) (st := []) (show cdA 237 56 = some (.invokevirtual 333, 3, 222, 0, 0) from rfl) rfl (by decide) rfl (by rw [E.1, E.2.1, E.2.2.1]; exact k_asTold G Is45 JRLx_s45 (by first | exact ⟨oq_0159bb48 g22 hps20, oq_8b498cf6 g22 hps20⟩ | omega)) ⟨by rw [E.2.2.2]; exact (show (rmN 222).frames + 1 ≤ (rmN 237).frames by decide), by rw [E.2.2.2]; exact (show 8 + (mNL (miB 222) + 11) + (rmN 222).locals ≤ (rmN 237).locals by decide), by rw [E.2.2.2]; exact (show 0 + (rmN 222).cells ≤ (rmN 237).cells by decide), by rw [E.2.2.2]; exact (show 0 + (rmN 222).slots ≤ (rmN 237).slots by decide)⟩ (Nat.le_of_ble_eq_true rfl) (fun vv s47 hq => ?_) (fun ee s47 hq => ?_)
          rotate_left
          · obtain ⟨Is47, Fs47, JRLx_s47, JNQ_s47, hv, hps47⟩ := hq; cases hv
          obtain ⟨Is47, Fs47, JRLx_s47, JNQ_s47, hv, hps47⟩ := hq
          cases hv
          have Gs47 := fm_ts Gs45 Fs47 (by decide) (by decide)
          have JRLx_s47 : RLx s47 := RLx_fm Fs47 (by decide) JRLx_s45
          have ws47_73 : iI s47 73 = iI s45 73 := fm_i Fs47 (by decide)
          show WS k 59 [(0, .ref (A 179)), (1, .int (Int32.ofInt x)), (2, .int (Int32.ofInt y)), (3, .int (Int32.ofInt z))] [] (Wd A dT s47) 0 0
          refine z_aload_n X (x := A 179) (show cdA 237 59 = some (.aload_n 0, 1, 0, 0, 0) from rfl) (List.Mem.head _) ?_
          have JNW_s47 : NW s47 := NW_of JNQ_s47 JRLx_s47
          refine z_callV X 179 (rm := rmN 228) (As := []) (st := []) (show cdA 237 60 = some (.invokevirtual 324, 3, 228, 0, 0) from rfl) rfl (by decide) rfl (by rw [E.1, E.2.1, E.2.2.1]; exact k_load G Is47 JNW_s47 ) ⟨by rw [E.2.2.2]; exact (show (rmN 228).frames + 1 ≤ (rmN 237).frames by decide), by rw [E.2.2.2]; exact (show 8 + (mNL (miB 228) + 11) + (rmN 228).locals ≤ (rmN 237).locals by decide), by rw [E.2.2.2]; exact (show 0 + (rmN 228).cells ≤ (rmN 237).cells by decide), by rw [E.2.2.2]; exact (show 0 + (rmN 228).slots ≤ (rmN 237).slots by decide)⟩ (Nat.le_of_ble_eq_true rfl) (fun vv s49 hq => ?_) (fun ee s49 hq => ?_)
          rotate_left
          · obtain ⟨Is49, Fs49, JNW_s49, e50, hv, hrs49, hps49⟩ := hq; cases hv
          obtain ⟨Is49, Fs49, JNW_s49, e50, hv, hrs49, hps49⟩ := hq
          cases hv
          have Gs49 := fm_ts Gs47 Fs49 (by decide) (by decide)
          have JRLx_s49 : RLx s49 := RLx_fm Fs49 (by decide) JRLx_s47
          have JNQ_s49 : NQ s49 := NQ_fm Fs49 (by decide) JNQ_s47
          have JNW_s49 : NW s49 := NW_fm Fs49 (by decide) JNW_s47
          have ws49_73 : iI s49 73 = iI s47 73 := fm_i Fs49 (by decide)
          show WS k 63 [(0, .ref (A 179)), (1, .int (Int32.ofInt x)), (2, .int (Int32.ofInt y)), (3, .int (Int32.ofInt z))] [.int (Int32.ofInt e50)] (Wd A dT s49) 0 0
          refine z_store X (lv' := [(4, .int (Int32.ofInt e50)), (0, .ref (A 179)), (1, .int (Int32.ofInt x)), (2, .int (Int32.ofInt y)), (3, .int (Int32.ofInt z))]) (show cdA 237 63 = some (.istore 4, 2, 0, 0, 0) from rfl) (by decide) (fun _ h => h) ?_
          refine z_load_n X (x := z) (show cdA 237 65 = some (.iload_n 3, 1, 0, 0, 0) from rfl) (List.Mem.tail _ (List.Mem.tail _ (List.Mem.tail _ (List.Mem.tail _ (List.Mem.head _))))) ?_
          refine z_const X (show cdA 237 66 = some (.iconst 4, 1, 0, 0, 0) from rfl) ?_
          have N51 : ∀ e52 : Int, (((z ≠ 4) ∧ (((-2147483648) : Int) ≤ iC s49 161 (z).toNat ∧ iC s49 161 (z).toNat ≤ 2147483647) ∧ e52 = (iC s49 161 (z).toNat)) ∨ ((z = 4) ∧ e52 = e50)) → WS k 81 [(4, .int (Int32.ofInt e50)), (0, .ref (A 179)), (1, .int (Int32.ofInt x)), (2, .int (Int32.ofInt y)), (3, .int (Int32.ofInt z))] [.int (Int32.ofInt e52)] (Wd A dT s49) 0 0 := by
            intro e52 he52
            exact w_iret X.1 q hRt rfl (ax_d X (show cdA 237 81 = some (.ireturn, 1, 0, 0, 0) from rfl)) (Nat.zero_le _) (Nat.zero_le _) ⟨_, rfl, Is49, Gs49, JRLx_s49, e52, rfl, ⟨by omega, by omega⟩, trivial⟩
          refine z_icmp_ne X (t := 75) (show cdA 237 67 = some (.if_icmp .ne 8, 3, 1, 0, 0) from rfl) (by decide) ⟨by first | exact p2.1 | omega, by first | exact p2.2 | omega⟩ (by decide) (fun g53 => ?_) (fun g53 => ?_)
          ·
            refine z_aload_n X (x := A 179) (show cdA 237 75 = some (.aload_n 0, 1, 0, 0, 0) from rfl) (List.Mem.tail _ (List.Mem.head _)) ?_
            refine s_getR X 179 (show cdA 237 76 = some (.getfield 32, 3, 12, 21, 0) from rfl) (by decide) rfl rfl ?_
            refine z_load_n X (x := z) (show cdA 237 79 = some (.iload_n 3, 1, 0, 0, 0) from rfl) (List.Mem.tail _ (List.Mem.tail _ (List.Mem.tail _ (List.Mem.tail _ (List.Mem.head _))))) ?_
            refine z_ald X 184 (show cdA 237 80 = some (.iaload, 1, 0, 0, 0) from rfl) (by decide) rfl (by first | exact oq_29fc7f56 g44 hps41.2.1 re40.2 he40 hps37 | omega) (show z < 7 by first | exact oq_71034884 g44 hps41.2.1 re40.2 he40 hps37 | omega) (by decide) ?_
            have b54 : ((-2147483648) : Int) ≤ iC s49 161 (z).toNat ∧ iC s49 161 (z).toNat ≤ 2147483647 := Is49.2 161 _ (show (z).toNat < 7 by first | exact oq_8664c00f g44 hps41.2.1 re40.2 he40 hps37 | omega)
            exact N51 _ (Or.inl ⟨g53, b54, rfl⟩)
          ·
            refine z_load X (x := e50) (show cdA 237 70 = some (.iload 4, 2, 0, 0, 0) from rfl) (List.Mem.head _) ?_
            refine z_goto X (t := 81) (show cdA 237 72 = some (.goto 9, 3, 0, 0, 0) from rfl) (by decide) ?_
            exact N51 _ (Or.inr (⟨g53, rfl⟩))
        ·
          refine z_const X (show cdA 237 47 = some (.iconst 0, 1, 0, 0, 0) from rfl) ?_
          exact w_iret X.1 q hRt rfl (ax_d X (show cdA 237 48 = some (.ireturn, 1, 0, 0, 0) from rfl)) (Nat.zero_le _) (Nat.zero_le _) ⟨_, rfl, Is41, Gs41, JRLx_s41, 0, rfl, (by decide), trivial⟩
      refine z_if_ne X (t := 39) (show cdA 237 32 = some (.ifCond .ne 7, 3, 1, 0, 0) from rfl) (by decide) hrs37 (fun g55 => ?_) (fun g55 => ?_)
      ·
        refine z_const X (show cdA 237 39 = some (.iconst 0, 1, 0, 0, 0) from rfl) ?_
        exact N39 _ (Or.inl ⟨g55, rfl⟩)
      ·
        refine z_const X (show cdA 237 35 = some (.iconst 1, 1, 0, 0, 0) from rfl) ?_
        refine z_goto X (t := 40) (show cdA 237 36 = some (.goto 4, 3, 0, 0, 0) from rfl) (by decide) ?_
        exact N39 _ (Or.inr (⟨g55, rfl⟩))
set_option maxRecDepth 4000 in
theorem k_peak (G : GX l s0 D tys a0 dT) (I : Bd s) (jRLx : RLx s) {x y : Int} (p0 : rng x) (p1 : rng y) : CT l s0 D A dT 238 (rmN 238) [.ref (A 179), .int (Int32.ofInt x), .int (Int32.ofInt y)] s (fun o t => Bd t ∧ Fm [73, 77, 75, 78, 79, 80, 81] [202, 204, 205, 206, 207, 208, 209, 210, 211, 212, 213, 214, 215, 216, 217, 218, 219, 220, 221, 222, 223, 224, 225, 226, 227, 203, 161, 230] s t ∧ RLx t ∧ ∃ e, o = .inl (some (.int (Int32.ofInt e))) ∧ rng e ∧ (True)) := by
  refine ct_of G (by decide) (Nat.le_of_ble_eq_true rfl) (fun k X E hRt hXt q => ?_)
  show WS k 0 [(0, .ref (A 179)), (1, .int (Int32.ofInt x)), (2, .int (Int32.ofInt y))] [] _ 0 0
  have F : Fm [73, 77, 75, 78, 79, 80, 81] [202, 204, 205, 206, 207, 208, 209, 210, 211, 212, 213, 214, 215, 216, 217, 218, 219, 220, 221, 222, 223, 224, 225, 226, 227, 203, 161, 230] s s := fm_rf _ _ s
  have b1 : (0 : Int) ≤ iI s 73 ∧ iI s 73 ≤ 3 := I.1 73
  have L48 : ∀ (n : Nat) (t : PS) (xv yv pk qq : Int), Bd t → Fm [73, 77, 75, 78, 79, 80, 81] [202, 204, 205, 206, 207, 208, 209, 210, 211, 212, 213, 214, 215, 216, 217, 218, 219, 220, 221, 222, 223, 224, 225, 226, 227, 203, 161, 230] s t → RLx t → (rng xv ∧ rng yv ∧ rng pk ∧ 0 ≤ qq ∧ qq ≤ 24) → (24 - qq : Int).toNat < n → (∀ (t' : PS) (qq' : Int), Bd t' → Fm [73, 77, 75, 78, 79, 80, 81] [202, 204, 205, 206, 207, 208, 209, 210, 211, 212, 213, 214, 215, 216, 217, 218, 219, 220, 221, 222, 223, 224, 225, 226, 227, 203, 161, 230] s t' → RLx t' → (rng xv ∧ rng yv ∧ rng pk ∧ 0 ≤ qq' ∧ qq' ≤ 24) → WS k 83 [(0, .ref (A 179)), (1, .int (Int32.ofInt xv)), (2, .int (Int32.ofInt yv)), (3, .int (Int32.ofInt pk)), (4, .int (Int32.ofInt qq'))] [] (Wd A dT t') 0 0) → WS k 48 [(0, .ref (A 179)), (1, .int (Int32.ofInt xv)), (2, .int (Int32.ofInt yv)), (3, .int (Int32.ofInt pk)), (4, .int (Int32.ofInt qq))] [] (Wd A dT t) 0 0 := by
    intro n
    induction n with
    | zero =>
      intro t xv yv pk qq I F jjRLx hi hm kx
      exact absurd hm (Nat.not_lt_zero _)
    | succ n ih =>
      intro t xv yv pk qq I F jjRLx hi hm kx
      have b1001 : (0 : Int) ≤ iI t 73 ∧ iI t 73 ≤ 3 := I.1 73
      refine z_load X (x := qq) (show cdA 238 48 = some (.iload 4, 2, 0, 0, 0) from rfl) (List.Mem.tail _ (List.Mem.tail _ (List.Mem.tail _ (List.Mem.tail _ (List.Mem.head _))))) ?_
      refine z_bipush X (show cdA 238 50 = some (.bipush 24, 2, 0, 0, 24) from rfl) ?_
      refine z_icmp_ge X (t := 83) (show cdA 238 52 = some (.if_icmp .ge 31, 3, 3, 0, 0) from rfl) (by decide) ⟨by first | exact oq_fa4e5087 hi.2.2.2.1 | omega, by first | exact oq_5bcd337f hi.2.2.2.2 | omega⟩ (by decide) (fun g1002 => ?_) (fun g1002 => ?_)
      ·
        refine WS_lv (lv := [(0, .ref (A 179)), (1, .int (Int32.ofInt xv)), (2, .int (Int32.ofInt yv)), (3, .int (Int32.ofInt pk)), (4, .int (Int32.ofInt qq))]) (List.forall_mem_cons.mpr ⟨(List.Mem.head _), (List.forall_mem_cons.mpr ⟨(List.Mem.tail _ (List.Mem.head _)), (List.forall_mem_cons.mpr ⟨(List.Mem.tail _ (List.Mem.tail _ (List.Mem.head _))), (List.forall_mem_cons.mpr ⟨(List.Mem.tail _ (List.Mem.tail _ (List.Mem.tail _ (List.Mem.head _)))), (List.forall_mem_cons.mpr ⟨(List.Mem.tail _ (List.Mem.tail _ (List.Mem.tail _ (List.Mem.tail _ (List.Mem.head _))))), (fun q h => absurd h List.not_mem_nil)⟩)⟩)⟩)⟩)⟩) ?_
        exact kx _ qq I F jjRLx (by first | exact ⟨And.intro (hi.1.1) (hi.1.2), And.intro (hi.2.1.1) (hi.2.1.2), And.intro (hi.2.2.1.1) (hi.2.2.1.2), hi.2.2.2.1, hi.2.2.2.2⟩ | omega)
      ·
        refine z_load_n X (x := yv) (show cdA 238 55 = some (.iload_n 2, 1, 0, 0, 0) from rfl) (List.Mem.tail _ (List.Mem.tail _ (List.Mem.head _))) ?_
        refine z_const X (show cdA 238 56 = some (.iconst 1, 1, 0, 0, 0) from rfl) ?_
        refine z_icmp_ne X (t := 83) (show cdA 238 57 = some (.if_icmp .ne 26, 3, 1, 0, 0) from rfl) (by decide) ⟨by first | exact hi.2.1.1 | omega, by first | exact hi.2.1.2 | omega⟩ (by decide) (fun g1003 => ?_) (fun g1003 => ?_)
        ·
          refine WS_lv (lv := [(0, .ref (A 179)), (1, .int (Int32.ofInt xv)), (2, .int (Int32.ofInt yv)), (3, .int (Int32.ofInt pk)), (4, .int (Int32.ofInt qq))]) (List.forall_mem_cons.mpr ⟨(List.Mem.head _), (List.forall_mem_cons.mpr ⟨(List.Mem.tail _ (List.Mem.head _)), (List.forall_mem_cons.mpr ⟨(List.Mem.tail _ (List.Mem.tail _ (List.Mem.head _))), (List.forall_mem_cons.mpr ⟨(List.Mem.tail _ (List.Mem.tail _ (List.Mem.tail _ (List.Mem.head _)))), (List.forall_mem_cons.mpr ⟨(List.Mem.tail _ (List.Mem.tail _ (List.Mem.tail _ (List.Mem.tail _ (List.Mem.head _))))), (fun q h => absurd h List.not_mem_nil)⟩)⟩)⟩)⟩)⟩) ?_
          exact kx _ qq I F jjRLx (by first | exact ⟨And.intro (hi.1.1) (hi.1.2), And.intro (hi.2.1.1) (hi.2.1.2), And.intro (hi.2.2.1.1) (hi.2.2.1.2), hi.2.2.2.1, hi.2.2.2.2⟩ | omega)
        ·
          refine z_aload_n X (x := A 179) (show cdA 238 60 = some (.aload_n 0, 1, 0, 0, 0) from rfl) (List.Mem.head _) ?_
          refine z_load X (x := qq) (show cdA 238 61 = some (.iload 4, 2, 0, 0, 0) from rfl) (List.Mem.tail _ (List.Mem.tail _ (List.Mem.tail _ (List.Mem.tail _ (List.Mem.head _))))) ?_
          refine z_callV X 179 (rm := rmN 222) (As := [.int (Int32.ofInt qq)]) (st := []) (show cdA 238 63 = some (.invokevirtual 333, 3, 222, 0, 0) from rfl) rfl (by decide) rfl (by rw [E.1, E.2.1, E.2.2.1]; exact k_asTold G I jjRLx (by first | exact ⟨hi.2.2.2.1, oq_c69fe266 g1002⟩ | omega)) ⟨by rw [E.2.2.2]; exact (show (rmN 222).frames + 1 ≤ (rmN 238).frames by decide), by rw [E.2.2.2]; exact (show 8 + (mNL (miB 222) + 11) + (rmN 222).locals ≤ (rmN 238).locals by decide), by rw [E.2.2.2]; exact (show 0 + (rmN 222).cells ≤ (rmN 238).cells by decide), by rw [E.2.2.2]; exact (show 0 + (rmN 222).slots ≤ (rmN 238).slots by decide)⟩ (Nat.le_of_ble_eq_true rfl) (fun vv s1004 hq => ?_) (fun ee s1004 hq => ?_)
          rotate_left
          · obtain ⟨Is1004, Fs1004, JRLx_s1004, JNQ_s1004, hv, hps1004⟩ := hq; cases hv
          obtain ⟨Is1004, Fs1004, JRLx_s1004, JNQ_s1004, hv, hps1004⟩ := hq
          cases hv
          have Gs1004 := fm_ts F Fs1004 (by decide) (by decide)
          have JRLx_s1004 : RLx s1004 := RLx_fm Fs1004 (by decide) jjRLx
          have ws1004_73 : iI s1004 73 = iI t 73 := fm_i Fs1004 (by decide)
          show WS k 66 [(0, .ref (A 179)), (1, .int (Int32.ofInt xv)), (2, .int (Int32.ofInt yv)), (3, .int (Int32.ofInt pk)), (4, .int (Int32.ofInt qq))] [] (Wd A dT s1004) 0 0
          refine z_aload_n X (x := A 179) (show cdA 238 66 = some (.aload_n 0, 1, 0, 0, 0) from rfl) (List.Mem.head _) ?_
          have JNW_s1004 : NW s1004 := NW_of JNQ_s1004 JRLx_s1004
          refine z_callV X 179 (rm := rmN 228) (As := []) (st := []) (show cdA 238 67 = some (.invokevirtual 324, 3, 228, 0, 0) from rfl) rfl (by decide) rfl (by rw [E.1, E.2.1, E.2.2.1]; exact k_load G Is1004 JNW_s1004 ) ⟨by rw [E.2.2.2]; exact (show (rmN 228).frames + 1 ≤ (rmN 238).frames by decide), by rw [E.2.2.2]; exact (show 8 + (mNL (miB 228) + 11) + (rmN 228).locals ≤ (rmN 238).locals by decide), by rw [E.2.2.2]; exact (show 0 + (rmN 228).cells ≤ (rmN 238).cells by decide), by rw [E.2.2.2]; exact (show 0 + (rmN 228).slots ≤ (rmN 238).slots by decide)⟩ (Nat.le_of_ble_eq_true rfl) (fun vv s1006 hq => ?_) (fun ee s1006 hq => ?_)
          rotate_left
          · obtain ⟨Is1006, Fs1006, JNW_s1006, e1007, hv, hrs1006, hps1006⟩ := hq; cases hv
          obtain ⟨Is1006, Fs1006, JNW_s1006, e1007, hv, hrs1006, hps1006⟩ := hq
          cases hv
          have Gs1006 := fm_ts Gs1004 Fs1006 (by decide) (by decide)
          have JRLx_s1006 : RLx s1006 := RLx_fm Fs1006 (by decide) JRLx_s1004
          have JNQ_s1006 : NQ s1006 := NQ_fm Fs1006 (by decide) JNQ_s1004
          have JNW_s1006 : NW s1006 := NW_fm Fs1006 (by decide) JNW_s1004
          have ws1006_73 : iI s1006 73 = iI s1004 73 := fm_i Fs1006 (by decide)
          show WS k 70 [(0, .ref (A 179)), (1, .int (Int32.ofInt xv)), (2, .int (Int32.ofInt yv)), (3, .int (Int32.ofInt pk)), (4, .int (Int32.ofInt qq))] [.int (Int32.ofInt e1007)] (Wd A dT s1006) 0 0
          refine z_load_n X (x := pk) (show cdA 238 70 = some (.iload_n 3, 1, 0, 0, 0) from rfl) (List.Mem.tail _ (List.Mem.tail _ (List.Mem.tail _ (List.Mem.head _)))) ?_
          refine z_icmp_ne X (t := 77) (show cdA 238 71 = some (.if_icmp .ne 6, 3, 1, 0, 0) from rfl) (by decide) hrs1006 ⟨by first | exact hi.2.2.1.1 | omega, by first | exact hi.2.2.1.2 | omega⟩ (fun g1008 => ?_) (fun g1008 => ?_)
          ·
            refine z_inc X (x := qq) (lv' := [(4, .int (Int32.ofInt (qq + 1))), (0, .ref (A 179)), (1, .int (Int32.ofInt xv)), (2, .int (Int32.ofInt yv)), (3, .int (Int32.ofInt pk))]) (show cdA 238 77 = some (.iinc 4 1, 3, 0, 0, 0) from rfl) (by decide) (List.Mem.tail _ (List.Mem.tail _ (List.Mem.tail _ (List.Mem.tail _ (List.Mem.head _))))) (fun _ h => h) ?_
            refine z_goto X (t := 48) (show cdA 238 80 = some (.goto (-32), 3, 0, 0, 0) from rfl) (by decide) ?_
            refine WS_lv (lv := [(0, .ref (A 179)), (1, .int (Int32.ofInt xv)), (2, .int (Int32.ofInt yv)), (3, .int (Int32.ofInt pk)), (4, .int (Int32.ofInt (qq + 1)))]) (List.forall_mem_cons.mpr ⟨(List.Mem.tail _ (List.Mem.head _)), (List.forall_mem_cons.mpr ⟨(List.Mem.tail _ (List.Mem.tail _ (List.Mem.head _))), (List.forall_mem_cons.mpr ⟨(List.Mem.tail _ (List.Mem.tail _ (List.Mem.tail _ (List.Mem.head _)))), (List.forall_mem_cons.mpr ⟨(List.Mem.tail _ (List.Mem.tail _ (List.Mem.tail _ (List.Mem.tail _ (List.Mem.head _))))), (List.forall_mem_cons.mpr ⟨(List.Mem.head _), (fun q h => absurd h List.not_mem_nil)⟩)⟩)⟩)⟩)⟩) ?_
            exact ih _ xv yv pk (qq + 1) Is1006 Gs1006 JRLx_s1006 (by first | exact ⟨And.intro (hi.1.1) (hi.1.2), And.intro (hi.2.1.1) (hi.2.1.2), And.intro (hi.2.2.1.1) (hi.2.2.1.2), oq_54f49eb5 hi.2.2.2.1, oq_cec7cb2e g1002⟩ | omega) (by first | exact qk_me hm (by decide) (oq_ffa8317e g1002) | omega) kx
          ·
            refine z_load X (x := qq) (show cdA 238 74 = some (.iload 4, 2, 0, 0, 0) from rfl) (List.Mem.tail _ (List.Mem.tail _ (List.Mem.tail _ (List.Mem.tail _ (List.Mem.head _))))) ?_
            exact w_iret X.1 q hRt rfl (ax_d X (show cdA 238 76 = some (.ireturn, 1, 0, 0, 0) from rfl)) (Nat.zero_le _) (Nat.zero_le _) ⟨_, rfl, Is1006, Gs1006, JRLx_s1006, qq, rfl, ⟨by first | exact oq_fa4e5087 hi.2.2.2.1 | omega, by first | exact oq_1d70227b g1002 | omega⟩, trivial⟩
  refine z_aload_n X (x := A 179) (show cdA 238 0 = some (.aload_n 0, 1, 0, 0, 0) from rfl) (List.Mem.head _) ?_
  refine z_const X (show cdA 238 1 = some (.iconst 0, 1, 0, 0, 0) from rfl) ?_
  refine s_putI X 179 (show cdA 238 2 = some (.putfield 172, 3, 12, 0, 0) from rfl) (by decide) rfl rfl (by decide) rfl rfl rfl ?_
  obtain ⟨s2, hs2⟩ : ∃ x0, x0 = uI s 73 (Int32.ofInt 0) := ⟨_, rfl⟩
  rw [← hs2]
  have Is2 : Bd s2 := by rw [hs2]; exact bd_I I (show (0 : Int) ≤ 0 ∧ 0 ≤ 3 by first | exact ⟨by decide, by decide⟩ | omega) (by decide)
  have Fs2 := fm_I (x := Int32.ofInt 0) F (show 73 ∈ _ by decide)
  rw [← hs2] at Fs2
  have vs2 : iI s2 73 = 0 := by rw [hs2]; exact iI_u (by decide)
  have fs2 : Fm [73] [] s s2 := by rw [hs2]; exact fm_I (fm_rf _ _ _) (show 73 ∈ _ by decide)
  have JRLx_s2 : RLx s2 := RLx_fm fs2 (by decide) jRLx
  refine z_aload_n X (x := A 179) (show cdA 238 5 = some (.aload_n 0, 1, 0, 0, 0) from rfl) (List.Mem.head _) ?_
  refine z_load_n X (x := x) (show cdA 238 6 = some (.iload_n 1, 1, 0, 0, 0) from rfl) (List.Mem.tail _ (List.Mem.head _)) ?_
  refine z_const X (show cdA 238 7 = some (.iconst 0, 1, 0, 0, 0) from rfl) ?_
  refine z_bipush X (show cdA 238 8 = some (.bipush 7, 2, 0, 0, 7) from rfl) ?_
  refine z_callS X (rm := rmN 188) (As := [.int (Int32.ofInt x), .int (Int32.ofInt 0), .int (Int32.ofInt 7)]) (st := [.ref (A 179)]) (show cdA 238 10 = some (.invokestatic 209, 3, 188, 1, 0) from rfl) rfl (by rw [E.1, E.2.1, E.2.2.1]; exact k_in G Is2 (by first | exact ⟨p0.1, p0.2⟩ | omega) (by first | exact ⟨by decide, by decide⟩ | omega) (by first | exact ⟨by decide, by decide⟩ | omega)) ⟨by rw [E.2.2.2]; exact (show (rmN 188).frames + 1 ≤ (rmN 238).frames by decide), by rw [E.2.2.2]; exact (show 8 + (mNL (miB 188) + 11) + (rmN 188).locals ≤ (rmN 238).locals by decide), by rw [E.2.2.2]; exact (show 0 + (rmN 188).cells ≤ (rmN 238).cells by decide), by rw [E.2.2.2]; exact (show 0 + (rmN 188).slots ≤ (rmN 238).slots by decide)⟩ (Nat.le_of_ble_eq_true rfl) (fun vv s3 hq => ?_) (fun ee s3 hq => ?_)
  rotate_left
  · obtain ⟨Is3, Fs3, e4, hv, hrs3, hps3⟩ := hq; cases hv
  obtain ⟨Is3, Fs3, e4, hv, hrs3, hps3⟩ := hq
  cases hv
  have Gs3 := fm_ts Fs2 Fs3 (by decide) (by decide)
  have JRLx_s3 : RLx s3 := RLx_fm Fs3 (by decide) JRLx_s2
  have ws3_73 : iI s3 73 = iI s2 73 := fm_i Fs3 (by decide)
  show WS k 13 [(0, .ref (A 179)), (1, .int (Int32.ofInt x)), (2, .int (Int32.ofInt y))] [.int (Int32.ofInt e4), .ref (A 179)] (Wd A dT s3) 0 0
  refine z_if_eq X (t := 25) (show cdA 238 13 = some (.ifCond .eq 12, 3, 0, 0, 0) from rfl) (by decide) hrs3 (fun g5 => ?_) (fun g5 => ?_)
  ·
    refine z_const X (show cdA 238 25 = some (.iconst 1, 1, 0, 0, 0) from rfl) ?_
    refine z_goto X (t := 30) (show cdA 238 26 = some (.goto 4, 3, 0, 0, 0) from rfl) (by decide) ?_
    refine z_const X (show cdA 238 30 = some (.iconst 1, 1, 0, 0, 0) from rfl) ?_
    refine z_callV X 179 (rm := rmN 187) (As := [.int (Int32.ofInt 1), .int (Int32.ofInt 1)]) (st := []) (show cdA 238 31 = some (.invokevirtual 229, 3, 187, 0, 0) from rfl) rfl (by decide) rfl (by rw [E.1, E.2.1, E.2.2.1]; exact k_bad G Is3 (by first | exact Or.inr (by decide) | omega) (by first | exact ⟨by decide, by decide⟩ | omega)) ⟨by rw [E.2.2.2]; exact (show (rmN 187).frames + 1 ≤ (rmN 238).frames by decide), by rw [E.2.2.2]; exact (show 8 + (mNL (miB 187) + 11) + (rmN 187).locals ≤ (rmN 238).locals by decide), by rw [E.2.2.2]; exact (show 0 + (rmN 187).cells ≤ (rmN 238).cells by decide), by rw [E.2.2.2]; exact (show 0 + (rmN 187).slots ≤ (rmN 238).slots by decide)⟩ (Nat.le_of_ble_eq_true rfl) (fun vv s6 hq => ?_) (fun ee s6 hq => ?_)
    rotate_left
    · obtain ⟨Is6, Fs6, e7, hv, hrs6, hps6⟩ := hq; cases hv
    obtain ⟨Is6, Fs6, e7, hv, hrs6, hps6⟩ := hq
    cases hv
    have Gs6 := fm_ts Gs3 Fs6 (by decide) (by decide)
    have JRLx_s6 : RLx s6 := RLx_fm Fs6 (by decide) JRLx_s3
    have b8 : (0 : Int) ≤ iI s6 73 ∧ iI s6 73 ≤ 3 := Is6.1 73
    show WS k 34 [(0, .ref (A 179)), (1, .int (Int32.ofInt x)), (2, .int (Int32.ofInt y))] [.int (Int32.ofInt e7)] (Wd A dT s6) 0 0
    refine z_if_eq X (t := 39) (show cdA 238 34 = some (.ifCond .eq 5, 3, 0, 0, 0) from rfl) (by decide) hrs6 (fun g9 => ?_) (fun g9 => ?_)
    ·
      refine z_aload_n X (x := A 179) (show cdA 238 39 = some (.aload_n 0, 1, 0, 0, 0) from rfl) (List.Mem.head _) ?_
      refine z_load_n X (x := x) (show cdA 238 40 = some (.iload_n 1, 1, 0, 0, 0) from rfl) (List.Mem.tail _ (List.Mem.head _)) ?_
      refine z_callV X 179 (rm := rmN 232) (As := [.int (Int32.ofInt x)]) (st := []) (show cdA 238 41 = some (.invokevirtual 336, 3, 232, 0, 0) from rfl) rfl (by decide) rfl (by rw [E.1, E.2.1, E.2.2.1]; exact k_peakOfPiece G Is6 JRLx_s6 (by first | exact ⟨p0.1, p0.2⟩ | omega)) ⟨by rw [E.2.2.2]; exact (show (rmN 232).frames + 1 ≤ (rmN 238).frames by decide), by rw [E.2.2.2]; exact (show 8 + (mNL (miB 232) + 11) + (rmN 232).locals ≤ (rmN 238).locals by decide), by rw [E.2.2.2]; exact (show 0 + (rmN 232).cells ≤ (rmN 238).cells by decide), by rw [E.2.2.2]; exact (show 0 + (rmN 232).slots ≤ (rmN 238).slots by decide)⟩ (Nat.le_of_ble_eq_true rfl) (fun vv s10 hq => ?_) (fun ee s10 hq => ?_)
      rotate_left
      · obtain ⟨Is10, Fs10, JRLx_s10, e11, hv, hrs10, hps10⟩ := hq; cases hv
      obtain ⟨Is10, Fs10, JRLx_s10, e11, hv, hrs10, hps10⟩ := hq
      cases hv
      have Gs10 := fm_ts Gs6 Fs10 (by decide) (by decide)
      have JRLx_s10 : RLx s10 := RLx_fm Fs10 (by decide) JRLx_s6
      have ws10_73 : iI s10 73 = iI s6 73 := fm_i Fs10 (by decide)
      show WS k 44 [(0, .ref (A 179)), (1, .int (Int32.ofInt x)), (2, .int (Int32.ofInt y))] [.int (Int32.ofInt e11)] (Wd A dT s10) 0 0
      refine z_store_n X (lv' := [(3, .int (Int32.ofInt e11)), (0, .ref (A 179)), (1, .int (Int32.ofInt x)), (2, .int (Int32.ofInt y))]) (show cdA 238 44 = some (.istore_n 3, 1, 0, 0, 0) from rfl) (by decide) (fun _ h => h) ?_
      refine z_const X (show cdA 238 45 = some (.iconst 0, 1, 0, 0, 0) from rfl) ?_
      refine z_store X (lv' := [(4, .int (Int32.ofInt 0)), (3, .int (Int32.ofInt e11)), (0, .ref (A 179)), (1, .int (Int32.ofInt x)), (2, .int (Int32.ofInt y))]) (show cdA 238 46 = some (.istore 4, 2, 0, 0, 0) from rfl) (by decide) (fun _ h => h) ?_
      refine WS_lv (lv := [(0, .ref (A 179)), (1, .int (Int32.ofInt x)), (2, .int (Int32.ofInt y)), (3, .int (Int32.ofInt e11)), (4, .int (Int32.ofInt 0))]) (List.forall_mem_cons.mpr ⟨(List.Mem.tail _ (List.Mem.tail _ (List.Mem.head _))), (List.forall_mem_cons.mpr ⟨(List.Mem.tail _ (List.Mem.tail _ (List.Mem.tail _ (List.Mem.head _)))), (List.forall_mem_cons.mpr ⟨(List.Mem.tail _ (List.Mem.tail _ (List.Mem.tail _ (List.Mem.tail _ (List.Mem.head _))))), (List.forall_mem_cons.mpr ⟨(List.Mem.tail _ (List.Mem.head _)), (List.forall_mem_cons.mpr ⟨(List.Mem.head _), (fun q h => absurd h List.not_mem_nil)⟩)⟩)⟩)⟩)⟩) ?_
      refine L48 ((24 - 0 : Int).toNat + 1) s10 x y e11 0 Is10 Gs10 JRLx_s10 (by first | exact ⟨And.intro (p0.1) (p0.2), And.intro (p1.1) (p1.2), oq_b7ca6a19 g9 hps6.2.1, by decide, by decide⟩ | omega) (Nat.lt_succ_self _) ?_
      intro s12 x13 Is12 Fs12 JRLx_s12 hs12
      have b14 : (0 : Int) ≤ iI s12 73 ∧ iI s12 73 ≤ 3 := Is12.1 73
      refine z_load_n X (x := e11) (show cdA 238 83 = some (.iload_n 3, 1, 0, 0, 0) from rfl) (List.Mem.tail _ (List.Mem.tail _ (List.Mem.tail _ (List.Mem.head _)))) ?_
      exact w_iret X.1 q hRt rfl (ax_d X (show cdA 238 84 = some (.ireturn, 1, 0, 0, 0) from rfl)) (Nat.zero_le _) (Nat.zero_le _) ⟨_, rfl, Is12, Fs12, JRLx_s12, e11, rfl, hrs10, trivial⟩
    ·
      refine z_const X (show cdA 238 37 = some (.iconst 0, 1, 0, 0, 0) from rfl) ?_
      exact w_iret X.1 q hRt rfl (ax_d X (show cdA 238 38 = some (.ireturn, 1, 0, 0, 0) from rfl)) (Nat.zero_le _) (Nat.zero_le _) ⟨_, rfl, Is6, Gs6, JRLx_s6, 0, rfl, (by decide), trivial⟩
  ·
    refine z_load_n X (x := y) (show cdA 238 16 = some (.iload_n 2, 1, 0, 0, 0) from rfl) (List.Mem.tail _ (List.Mem.tail _ (List.Mem.head _))) ?_
    refine z_const X (show cdA 238 17 = some (.iconst 0, 1, 0, 0, 0) from rfl) ?_
    refine z_const X (show cdA 238 18 = some (.iconst 1, 1, 0, 0, 0) from rfl) ?_
    refine z_callS X (rm := rmN 188) (As := [.int (Int32.ofInt y), .int (Int32.ofInt 0), .int (Int32.ofInt 1)]) (st := [.ref (A 179)]) (show cdA 238 19 = some (.invokestatic 209, 3, 188, 1, 0) from rfl) rfl (by rw [E.1, E.2.1, E.2.2.1]; exact k_in G Is3 (by first | exact ⟨p1.1, p1.2⟩ | omega) (by first | exact ⟨by decide, by decide⟩ | omega) (by first | exact ⟨by decide, by decide⟩ | omega)) ⟨by rw [E.2.2.2]; exact (show (rmN 188).frames + 1 ≤ (rmN 238).frames by decide), by rw [E.2.2.2]; exact (show 8 + (mNL (miB 188) + 11) + (rmN 188).locals ≤ (rmN 238).locals by decide), by rw [E.2.2.2]; exact (show 0 + (rmN 188).cells ≤ (rmN 238).cells by decide), by rw [E.2.2.2]; exact (show 0 + (rmN 188).slots ≤ (rmN 238).slots by decide)⟩ (Nat.le_of_ble_eq_true rfl) (fun vv s15 hq => ?_) (fun ee s15 hq => ?_)
    rotate_left
    · obtain ⟨Is15, Fs15, e16, hv, hrs15, hps15⟩ := hq; cases hv
    obtain ⟨Is15, Fs15, e16, hv, hrs15, hps15⟩ := hq
    cases hv
    have Gs15 := fm_ts Gs3 Fs15 (by decide) (by decide)
    have JRLx_s15 : RLx s15 := RLx_fm Fs15 (by decide) JRLx_s3
    have ws15_73 : iI s15 73 = iI s3 73 := fm_i Fs15 (by decide)
    show WS k 22 [(0, .ref (A 179)), (1, .int (Int32.ofInt x)), (2, .int (Int32.ofInt y))] [.int (Int32.ofInt e16), .ref (A 179)] (Wd A dT s15) 0 0
    have N17 : ∀ e18 : Int, (((e16 ≠ 0) ∧ e18 = 0) ∨ ((e16 = 0) ∧ e18 = 1)) → WS k 30 [(0, .ref (A 179)), (1, .int (Int32.ofInt x)), (2, .int (Int32.ofInt y))] [.int (Int32.ofInt e18), .ref (A 179)] (Wd A dT s15) 0 0 := by
      intro e18 he18
      have re18 : 0 ≤ e18 ∧ e18 ≤ 1 := by omega
      refine z_const X (show cdA 238 30 = some (.iconst 1, 1, 0, 0, 0) from rfl) ?_
      refine z_callV X 179 (rm := rmN 187) (As := [.int (Int32.ofInt e18), .int (Int32.ofInt 1)]) (st := []) (show cdA 238 31 = some (.invokevirtual 229, 3, 187, 0, 0) from rfl) rfl (by decide) rfl (by rw [E.1, E.2.1, E.2.2.1]; exact k_bad G Is15 (by first | exact oq_31e518ae re18.2 re18.1 | omega) (by first | exact ⟨by decide, by decide⟩ | omega)) ⟨by rw [E.2.2.2]; exact (show (rmN 187).frames + 1 ≤ (rmN 238).frames by decide), by rw [E.2.2.2]; exact (show 8 + (mNL (miB 187) + 11) + (rmN 187).locals ≤ (rmN 238).locals by decide), by rw [E.2.2.2]; exact (show 0 + (rmN 187).cells ≤ (rmN 238).cells by decide), by rw [E.2.2.2]; exact (show 0 + (rmN 187).slots ≤ (rmN 238).slots by decide)⟩ (Nat.le_of_ble_eq_true rfl) (fun vv s19 hq => ?_) (fun ee s19 hq => ?_)
      rotate_left
      · obtain ⟨Is19, Fs19, e20, hv, hrs19, hps19⟩ := hq; cases hv
      obtain ⟨Is19, Fs19, e20, hv, hrs19, hps19⟩ := hq
      cases hv
      have Gs19 := fm_ts Gs15 Fs19 (by decide) (by decide)
      have JRLx_s19 : RLx s19 := RLx_fm Fs19 (by decide) JRLx_s15
      have b21 : (0 : Int) ≤ iI s19 73 ∧ iI s19 73 ≤ 3 := Is19.1 73
      show WS k 34 [(0, .ref (A 179)), (1, .int (Int32.ofInt x)), (2, .int (Int32.ofInt y))] [.int (Int32.ofInt e20)] (Wd A dT s19) 0 0
      refine z_if_eq X (t := 39) (show cdA 238 34 = some (.ifCond .eq 5, 3, 0, 0, 0) from rfl) (by decide) hrs19 (fun g22 => ?_) (fun g22 => ?_)
      ·
        refine z_aload_n X (x := A 179) (show cdA 238 39 = some (.aload_n 0, 1, 0, 0, 0) from rfl) (List.Mem.head _) ?_
        refine z_load_n X (x := x) (show cdA 238 40 = some (.iload_n 1, 1, 0, 0, 0) from rfl) (List.Mem.tail _ (List.Mem.head _)) ?_
        refine z_callV X 179 (rm := rmN 232) (As := [.int (Int32.ofInt x)]) (st := []) (show cdA 238 41 = some (.invokevirtual 336, 3, 232, 0, 0) from rfl) rfl (by decide) rfl (by rw [E.1, E.2.1, E.2.2.1]; exact k_peakOfPiece G Is19 JRLx_s19 (by first | exact ⟨p0.1, p0.2⟩ | omega)) ⟨by rw [E.2.2.2]; exact (show (rmN 232).frames + 1 ≤ (rmN 238).frames by decide), by rw [E.2.2.2]; exact (show 8 + (mNL (miB 232) + 11) + (rmN 232).locals ≤ (rmN 238).locals by decide), by rw [E.2.2.2]; exact (show 0 + (rmN 232).cells ≤ (rmN 238).cells by decide), by rw [E.2.2.2]; exact (show 0 + (rmN 232).slots ≤ (rmN 238).slots by decide)⟩ (Nat.le_of_ble_eq_true rfl) (fun vv s23 hq => ?_) (fun ee s23 hq => ?_)
        rotate_left
        · obtain ⟨Is23, Fs23, JRLx_s23, e24, hv, hrs23, hps23⟩ := hq; cases hv
        obtain ⟨Is23, Fs23, JRLx_s23, e24, hv, hrs23, hps23⟩ := hq
        cases hv
        have Gs23 := fm_ts Gs19 Fs23 (by decide) (by decide)
        have JRLx_s23 : RLx s23 := RLx_fm Fs23 (by decide) JRLx_s19
        have ws23_73 : iI s23 73 = iI s19 73 := fm_i Fs23 (by decide)
        show WS k 44 [(0, .ref (A 179)), (1, .int (Int32.ofInt x)), (2, .int (Int32.ofInt y))] [.int (Int32.ofInt e24)] (Wd A dT s23) 0 0
        refine z_store_n X (lv' := [(3, .int (Int32.ofInt e24)), (0, .ref (A 179)), (1, .int (Int32.ofInt x)), (2, .int (Int32.ofInt y))]) (show cdA 238 44 = some (.istore_n 3, 1, 0, 0, 0) from rfl) (by decide) (fun _ h => h) ?_
        refine z_const X (show cdA 238 45 = some (.iconst 0, 1, 0, 0, 0) from rfl) ?_
        refine z_store X (lv' := [(4, .int (Int32.ofInt 0)), (3, .int (Int32.ofInt e24)), (0, .ref (A 179)), (1, .int (Int32.ofInt x)), (2, .int (Int32.ofInt y))]) (show cdA 238 46 = some (.istore 4, 2, 0, 0, 0) from rfl) (by decide) (fun _ h => h) ?_
        refine WS_lv (lv := [(0, .ref (A 179)), (1, .int (Int32.ofInt x)), (2, .int (Int32.ofInt y)), (3, .int (Int32.ofInt e24)), (4, .int (Int32.ofInt 0))]) (List.forall_mem_cons.mpr ⟨(List.Mem.tail _ (List.Mem.tail _ (List.Mem.head _))), (List.forall_mem_cons.mpr ⟨(List.Mem.tail _ (List.Mem.tail _ (List.Mem.tail _ (List.Mem.head _)))), (List.forall_mem_cons.mpr ⟨(List.Mem.tail _ (List.Mem.tail _ (List.Mem.tail _ (List.Mem.tail _ (List.Mem.head _))))), (List.forall_mem_cons.mpr ⟨(List.Mem.tail _ (List.Mem.head _)), (List.forall_mem_cons.mpr ⟨(List.Mem.head _), (fun q h => absurd h List.not_mem_nil)⟩)⟩)⟩)⟩)⟩) ?_
        refine L48 ((24 - 0 : Int).toNat + 1) s23 x y e24 0 Is23 Gs23 JRLx_s23 (by first | exact ⟨And.intro (p0.1) (p0.2), And.intro (p1.1) (p1.2), by omega, by decide, by decide⟩ | omega) (Nat.lt_succ_self _) ?_
        intro s25 x26 Is25 Fs25 JRLx_s25 hs25
        have b27 : (0 : Int) ≤ iI s25 73 ∧ iI s25 73 ≤ 3 := Is25.1 73
        refine z_load_n X (x := e24) (show cdA 238 83 = some (.iload_n 3, 1, 0, 0, 0) from rfl) (List.Mem.tail _ (List.Mem.tail _ (List.Mem.tail _ (List.Mem.head _)))) ?_
        exact w_iret X.1 q hRt rfl (ax_d X (show cdA 238 84 = some (.ireturn, 1, 0, 0, 0) from rfl)) (Nat.zero_le _) (Nat.zero_le _) ⟨_, rfl, Is25, Fs25, JRLx_s25, e24, rfl, hrs23, trivial⟩
      ·
        refine z_const X (show cdA 238 37 = some (.iconst 0, 1, 0, 0, 0) from rfl) ?_
        exact w_iret X.1 q hRt rfl (ax_d X (show cdA 238 38 = some (.ireturn, 1, 0, 0, 0) from rfl)) (Nat.zero_le _) (Nat.zero_le _) ⟨_, rfl, Is19, Gs19, JRLx_s19, 0, rfl, (by decide), trivial⟩
    refine z_if_ne X (t := 29) (show cdA 238 22 = some (.ifCond .ne 7, 3, 1, 0, 0) from rfl) (by decide) hrs15 (fun g28 => ?_) (fun g28 => ?_)
    ·
      refine z_const X (show cdA 238 29 = some (.iconst 0, 1, 0, 0, 0) from rfl) ?_
      exact N17 _ (Or.inl ⟨g28, rfl⟩)
    ·
      refine z_const X (show cdA 238 25 = some (.iconst 1, 1, 0, 0, 0) from rfl) ?_
      refine z_goto X (t := 30) (show cdA 238 26 = some (.goto 4, 3, 0, 0, 0) from rfl) (by decide) ?_
      exact N17 _ (Or.inr (⟨g28, rfl⟩))
set_option maxRecDepth 4000 in
theorem k_pairs (G : GX l s0 D tys a0 dT) (I : Bd s) (jRLx : RLx s) {x y : Int} (p0 : rng x) (p1 : rng y) : CT l s0 D A dT 267 (rmN 267) [.ref (A 179), .int (Int32.ofInt x), .int (Int32.ofInt y)] s (fun o t => Bd t ∧ Fm [73, 89, 77, 75, 78, 79, 80, 81] [202, 204, 205, 206, 207, 208, 209, 210, 211, 212, 213, 214, 215, 216, 217, 218, 219, 220, 221, 222, 223, 224, 225, 226, 227, 203, 161, 230] s t ∧ RLx t ∧ ∃ e, o = .inl (some (.int (Int32.ofInt e))) ∧ rng e ∧ (iI s 89 = 1 → iI t 89 = 1)) := by
  refine ct_of G (by decide) (Nat.le_of_ble_eq_true rfl) (fun k X E hRt hXt q => ?_)
  show WS k 0 [(0, .ref (A 179)), (1, .int (Int32.ofInt x)), (2, .int (Int32.ofInt y))] [] _ 0 0
  have F : Fm [73, 89, 77, 75, 78, 79, 80, 81] [202, 204, 205, 206, 207, 208, 209, 210, 211, 212, 213, 214, 215, 216, 217, 218, 219, 220, 221, 222, 223, 224, 225, 226, 227, 203, 161, 230] s s := fm_rf _ _ s
  have b1 : (0 : Int) ≤ iI s 73 ∧ iI s 73 ≤ 3 := I.1 73
  have b2 : (0 : Int) ≤ iI s 99 ∧ iI s 99 ≤ 6 := I.1 99
  have b3 : (1 : Int) ≤ iI s 89 ∧ iI s 89 ≤ 8 := I.1 89
  refine z_aload_n X (x := A 179) (show cdA 267 0 = some (.aload_n 0, 1, 0, 0, 0) from rfl) (List.Mem.head _) ?_
  refine z_const X (show cdA 267 1 = some (.iconst 0, 1, 0, 0, 0) from rfl) ?_
  refine s_putI X 179 (show cdA 267 2 = some (.putfield 172, 3, 12, 0, 0) from rfl) (by decide) rfl rfl (by decide) rfl rfl rfl ?_
  obtain ⟨s4, hs4⟩ : ∃ x0, x0 = uI s 73 (Int32.ofInt 0) := ⟨_, rfl⟩
  rw [← hs4]
  have Is4 : Bd s4 := by rw [hs4]; exact bd_I I (show (0 : Int) ≤ 0 ∧ 0 ≤ 3 by first | exact ⟨by decide, by decide⟩ | omega) (by decide)
  have Fs4 := fm_I (x := Int32.ofInt 0) F (show 73 ∈ _ by decide)
  rw [← hs4] at Fs4
  have vs4 : iI s4 73 = 0 := by rw [hs4]; exact iI_u (by decide)
  have ws4_99 : iI s4 99 = iI s 99 := by rw [hs4]; rfl
  have ws4_89 : iI s4 89 = iI s 89 := by rw [hs4]; rfl
  have fs4 : Fm [73] [] s s4 := by rw [hs4]; exact fm_I (fm_rf _ _ _) (show 73 ∈ _ by decide)
  have JRLx_s4 : RLx s4 := RLx_fm fs4 (by decide) jRLx
  refine z_aload_n X (x := A 179) (show cdA 267 5 = some (.aload_n 0, 1, 0, 0, 0) from rfl) (List.Mem.head _) ?_
  refine z_load_n X (x := x) (show cdA 267 6 = some (.iload_n 1, 1, 0, 0, 0) from rfl) (List.Mem.tail _ (List.Mem.head _)) ?_
  refine z_const X (show cdA 267 7 = some (.iconst 0, 1, 0, 0, 0) from rfl) ?_
  refine z_aload_n X (x := A 179) (show cdA 267 8 = some (.aload_n 0, 1, 0, 0, 0) from rfl) (List.Mem.head _) ?_
  refine z_getI X 179 (show cdA 267 9 = some (.getfield 404, 3, 12, 48, 0) from rfl) (by decide) rfl rfl ?_
  have b5 : (0 : Int) ≤ iI s4 99 ∧ iI s4 99 ≤ 6 := Is4.1 99
  refine z_const X (show cdA 267 12 = some (.iconst 1, 1, 0, 0, 0) from rfl) ?_
  refine z_sub X (show cdA 267 13 = some (.isub, 1, 0, 0, 0) from rfl) ?_
  refine z_callS X (rm := rmN 188) (As := [.int (Int32.ofInt x), .int (Int32.ofInt 0), .int (Int32.ofInt ((iI s4 99) - 1))]) (st := [.ref (A 179)]) (show cdA 267 14 = some (.invokestatic 209, 3, 188, 1, 0) from rfl) rfl (by rw [E.1, E.2.1, E.2.2.1]; exact k_in G Is4 (by first | exact ⟨p0.1, p0.2⟩ | omega) (by first | exact ⟨by decide, by decide⟩ | omega) (by first | exact ⟨oq_c1e961c7 b5.1, oq_b383b26c b5.2⟩ | omega)) ⟨by rw [E.2.2.2]; exact (show (rmN 188).frames + 1 ≤ (rmN 267).frames by decide), by rw [E.2.2.2]; exact (show 8 + (mNL (miB 188) + 11) + (rmN 188).locals ≤ (rmN 267).locals by decide), by rw [E.2.2.2]; exact (show 0 + (rmN 188).cells ≤ (rmN 267).cells by decide), by rw [E.2.2.2]; exact (show 0 + (rmN 188).slots ≤ (rmN 267).slots by decide)⟩ (Nat.le_of_ble_eq_true rfl) (fun vv s6 hq => ?_) (fun ee s6 hq => ?_)
  rotate_left
  · obtain ⟨Is6, Fs6, e7, hv, hrs6, hps6⟩ := hq; cases hv
  obtain ⟨Is6, Fs6, e7, hv, hrs6, hps6⟩ := hq
  cases hv
  have Gs6 := fm_ts Fs4 Fs6 (by decide) (by decide)
  have JRLx_s6 : RLx s6 := RLx_fm Fs6 (by decide) JRLx_s4
  have ws6_73 : iI s6 73 = iI s4 73 := fm_i Fs6 (by decide)
  have ws6_99 : iI s6 99 = iI s4 99 := fm_i Fs6 (by decide)
  have ws6_89 : iI s6 89 = iI s4 89 := fm_i Fs6 (by decide)
  show WS k 17 [(0, .ref (A 179)), (1, .int (Int32.ofInt x)), (2, .int (Int32.ofInt y))] [.int (Int32.ofInt e7), .ref (A 179)] (Wd A dT s6) 0 0
  have N8 : ∀ e9 : Int, (((e7 ≠ 0) ∧ e9 = 0) ∨ ((e7 = 0) ∧ e9 = 1)) → WS k 25 [(0, .ref (A 179)), (1, .int (Int32.ofInt x)), (2, .int (Int32.ofInt y))] [.int (Int32.ofInt e9), .ref (A 179)] (Wd A dT s6) 0 0 := by
    intro e9 he9
    have re9 : 0 ≤ e9 ∧ e9 ≤ 1 := by omega
    refine z_const X (show cdA 267 25 = some (.iconst 1, 1, 0, 0, 0) from rfl) ?_
    refine z_callV X 179 (rm := rmN 187) (As := [.int (Int32.ofInt e9), .int (Int32.ofInt 1)]) (st := []) (show cdA 267 26 = some (.invokevirtual 229, 3, 187, 0, 0) from rfl) rfl (by decide) rfl (by rw [E.1, E.2.1, E.2.2.1]; exact k_bad G Is6 (by first | exact oq_31e518ae re9.2 re9.1 | omega) (by first | exact ⟨by decide, by decide⟩ | omega)) ⟨by rw [E.2.2.2]; exact (show (rmN 187).frames + 1 ≤ (rmN 267).frames by decide), by rw [E.2.2.2]; exact (show 8 + (mNL (miB 187) + 11) + (rmN 187).locals ≤ (rmN 267).locals by decide), by rw [E.2.2.2]; exact (show 0 + (rmN 187).cells ≤ (rmN 267).cells by decide), by rw [E.2.2.2]; exact (show 0 + (rmN 187).slots ≤ (rmN 267).slots by decide)⟩ (Nat.le_of_ble_eq_true rfl) (fun vv s10 hq => ?_) (fun ee s10 hq => ?_)
    rotate_left
    · obtain ⟨Is10, Fs10, e11, hv, hrs10, hps10⟩ := hq; cases hv
    obtain ⟨Is10, Fs10, e11, hv, hrs10, hps10⟩ := hq
    cases hv
    have Gs10 := fm_ts Gs6 Fs10 (by decide) (by decide)
    have JRLx_s10 : RLx s10 := RLx_fm Fs10 (by decide) JRLx_s6
    have b12 : (0 : Int) ≤ iI s10 73 ∧ iI s10 73 ≤ 3 := Is10.1 73
    have ws10_99 : iI s10 99 = iI s6 99 := fm_i Fs10 (by decide)
    have ws10_89 : iI s10 89 = iI s6 89 := fm_i Fs10 (by decide)
    show WS k 29 [(0, .ref (A 179)), (1, .int (Int32.ofInt x)), (2, .int (Int32.ofInt y))] [.int (Int32.ofInt e11)] (Wd A dT s10) 0 0
    refine z_if_ne X (t := 55) (show cdA 267 29 = some (.ifCond .ne 26, 3, 1, 0, 0) from rfl) (by decide) hrs10 (fun g13 => ?_) (fun g13 => ?_)
    ·
      refine z_const X (show cdA 267 55 = some (.iconst 0, 1, 0, 0, 0) from rfl) ?_
      exact w_iret X.1 q hRt rfl (ax_d X (show cdA 267 56 = some (.ireturn, 1, 0, 0, 0) from rfl)) (Nat.zero_le _) (Nat.zero_le _) ⟨_, rfl, Is10, Gs10, JRLx_s10, 0, rfl, (by decide), by first | exact oq_888c5194 ws10_89 ws6_89 ws4_89 b3.1 | omega⟩
    ·
      refine z_aload_n X (x := A 179) (show cdA 267 32 = some (.aload_n 0, 1, 0, 0, 0) from rfl) (List.Mem.head _) ?_
      refine z_load_n X (x := y) (show cdA 267 33 = some (.iload_n 2, 1, 0, 0, 0) from rfl) (List.Mem.tail _ (List.Mem.tail _ (List.Mem.head _))) ?_
      refine z_const X (show cdA 267 34 = some (.iconst 0, 1, 0, 0, 0) from rfl) ?_
      refine z_bipush X (show cdA 267 35 = some (.bipush 23, 2, 0, 0, 23) from rfl) ?_
      refine z_callS X (rm := rmN 188) (As := [.int (Int32.ofInt y), .int (Int32.ofInt 0), .int (Int32.ofInt 23)]) (st := [.ref (A 179)]) (show cdA 267 37 = some (.invokestatic 209, 3, 188, 1, 0) from rfl) rfl (by rw [E.1, E.2.1, E.2.2.1]; exact k_in G Is10 (by first | exact ⟨p1.1, p1.2⟩ | omega) (by first | exact ⟨by decide, by decide⟩ | omega) (by first | exact ⟨by decide, by decide⟩ | omega)) ⟨by rw [E.2.2.2]; exact (show (rmN 188).frames + 1 ≤ (rmN 267).frames by decide), by rw [E.2.2.2]; exact (show 8 + (mNL (miB 188) + 11) + (rmN 188).locals ≤ (rmN 267).locals by decide), by rw [E.2.2.2]; exact (show 0 + (rmN 188).cells ≤ (rmN 267).cells by decide), by rw [E.2.2.2]; exact (show 0 + (rmN 188).slots ≤ (rmN 267).slots by decide)⟩ (Nat.le_of_ble_eq_true rfl) (fun vv s14 hq => ?_) (fun ee s14 hq => ?_)
      rotate_left
      · obtain ⟨Is14, Fs14, e15, hv, hrs14, hps14⟩ := hq; cases hv
      obtain ⟨Is14, Fs14, e15, hv, hrs14, hps14⟩ := hq
      cases hv
      have Gs14 := fm_ts Gs10 Fs14 (by decide) (by decide)
      have JRLx_s14 : RLx s14 := RLx_fm Fs14 (by decide) JRLx_s10
      have ws14_73 : iI s14 73 = iI s10 73 := fm_i Fs14 (by decide)
      have ws14_99 : iI s14 99 = iI s10 99 := fm_i Fs14 (by decide)
      have ws14_89 : iI s14 89 = iI s10 89 := fm_i Fs14 (by decide)
      show WS k 40 [(0, .ref (A 179)), (1, .int (Int32.ofInt x)), (2, .int (Int32.ofInt y))] [.int (Int32.ofInt e15), .ref (A 179)] (Wd A dT s14) 0 0
      have N16 : ∀ e17 : Int, (((e15 ≠ 0) ∧ e17 = 0) ∨ ((e15 = 0) ∧ e17 = 1)) → WS k 48 [(0, .ref (A 179)), (1, .int (Int32.ofInt x)), (2, .int (Int32.ofInt y))] [.int (Int32.ofInt e17), .ref (A 179)] (Wd A dT s14) 0 0 := by
        intro e17 he17
        have re17 : 0 ≤ e17 ∧ e17 ≤ 1 := by omega
        refine z_const X (show cdA 267 48 = some (.iconst 2, 1, 0, 0, 0) from rfl) ?_
        refine z_callV X 179 (rm := rmN 187) (As := [.int (Int32.ofInt e17), .int (Int32.ofInt 2)]) (st := []) (show cdA 267 49 = some (.invokevirtual 229, 3, 187, 0, 0) from rfl) rfl (by decide) rfl (by rw [E.1, E.2.1, E.2.2.1]; exact k_bad G Is14 (by first | exact oq_31e518ae re17.2 re17.1 | omega) (by first | exact ⟨by decide, by decide⟩ | omega)) ⟨by rw [E.2.2.2]; exact (show (rmN 187).frames + 1 ≤ (rmN 267).frames by decide), by rw [E.2.2.2]; exact (show 8 + (mNL (miB 187) + 11) + (rmN 187).locals ≤ (rmN 267).locals by decide), by rw [E.2.2.2]; exact (show 0 + (rmN 187).cells ≤ (rmN 267).cells by decide), by rw [E.2.2.2]; exact (show 0 + (rmN 187).slots ≤ (rmN 267).slots by decide)⟩ (Nat.le_of_ble_eq_true rfl) (fun vv s18 hq => ?_) (fun ee s18 hq => ?_)
        rotate_left
        · obtain ⟨Is18, Fs18, e19, hv, hrs18, hps18⟩ := hq; cases hv
        obtain ⟨Is18, Fs18, e19, hv, hrs18, hps18⟩ := hq
        cases hv
        have Gs18 := fm_ts Gs14 Fs18 (by decide) (by decide)
        have JRLx_s18 : RLx s18 := RLx_fm Fs18 (by decide) JRLx_s14
        have b20 : (0 : Int) ≤ iI s18 73 ∧ iI s18 73 ≤ 3 := Is18.1 73
        have ws18_99 : iI s18 99 = iI s14 99 := fm_i Fs18 (by decide)
        have ws18_89 : iI s18 89 = iI s14 89 := fm_i Fs18 (by decide)
        show WS k 52 [(0, .ref (A 179)), (1, .int (Int32.ofInt x)), (2, .int (Int32.ofInt y))] [.int (Int32.ofInt e19)] (Wd A dT s18) 0 0
        refine z_if_eq X (t := 57) (show cdA 267 52 = some (.ifCond .eq 5, 3, 0, 0, 0) from rfl) (by decide) hrs18 (fun g21 => ?_) (fun g21 => ?_)
        ·
          refine z_aload_n X (x := A 179) (show cdA 267 57 = some (.aload_n 0, 1, 0, 0, 0) from rfl) (List.Mem.head _) ?_
          refine z_load_n X (x := y) (show cdA 267 58 = some (.iload_n 2, 1, 0, 0, 0) from rfl) (List.Mem.tail _ (List.Mem.tail _ (List.Mem.head _))) ?_
          refine z_callV X 179 (rm := rmN 222) (As := [.int (Int32.ofInt y)]) (st := []) (show cdA 267 59 = some (.invokevirtual 333, 3, 222, 0, 0) from rfl) rfl (by decide) rfl (by rw [E.1, E.2.1, E.2.2.1]; exact k_asTold G Is18 JRLx_s18 (by first | exact ⟨oq_4c4e29f5 g21 hps18.2.1 re17.2 he17 hps14, oq_3a13f1ce g21 hps18.2.1 re17.2 he17 hps14⟩ | omega)) ⟨by rw [E.2.2.2]; exact (show (rmN 222).frames + 1 ≤ (rmN 267).frames by decide), by rw [E.2.2.2]; exact (show 8 + (mNL (miB 222) + 11) + (rmN 222).locals ≤ (rmN 267).locals by decide), by rw [E.2.2.2]; exact (show 0 + (rmN 222).cells ≤ (rmN 267).cells by decide), by rw [E.2.2.2]; exact (show 0 + (rmN 222).slots ≤ (rmN 267).slots by decide)⟩ (Nat.le_of_ble_eq_true rfl) (fun vv s22 hq => ?_) (fun ee s22 hq => ?_)
          rotate_left
          · obtain ⟨Is22, Fs22, JRLx_s22, JNQ_s22, hv, hps22⟩ := hq; cases hv
          obtain ⟨Is22, Fs22, JRLx_s22, JNQ_s22, hv, hps22⟩ := hq
          cases hv
          have Gs22 := fm_ts Gs18 Fs22 (by decide) (by decide)
          have JRLx_s22 : RLx s22 := RLx_fm Fs22 (by decide) JRLx_s18
          have ws22_73 : iI s22 73 = iI s18 73 := fm_i Fs22 (by decide)
          have ws22_99 : iI s22 99 = iI s18 99 := fm_i Fs22 (by decide)
          have ws22_89 : iI s22 89 = iI s18 89 := fm_i Fs22 (by decide)
          show WS k 62 [(0, .ref (A 179)), (1, .int (Int32.ofInt x)), (2, .int (Int32.ofInt y))] [] (Wd A dT s22) 0 0
          refine z_aload_n X (x := A 179) (show cdA 267 62 = some (.aload_n 0, 1, 0, 0, 0) from rfl) (List.Mem.head _) ?_
          refine z_load_n X (x := x) (show cdA 267 63 = some (.iload_n 1, 1, 0, 0, 0) from rfl) (List.Mem.tail _ (List.Mem.head _)) ?_
          have JNW_s22 : NW s22 := NW_of JNQ_s22 JRLx_s22
          refine z_callV X 179 (rm := rmN 266) (As := [.int (Int32.ofInt x)]) (st := []) (show cdA 267 64 = some (.invokevirtual 413, 3, 266, 0, 0) from rfl) rfl (by decide) rfl (by rw [E.1, E.2.1, E.2.2.1]; exact k_pairsOf G Is22 JNW_s22 (by first | exact ⟨oq_8280ce40 g13 hps10.2.1 re9.2 he9 hps6, oq_6febf996 g13 hps10.2.1 re9.2 he9 hps6 b5.2⟩ | omega)) ⟨by rw [E.2.2.2]; exact (show (rmN 266).frames + 1 ≤ (rmN 267).frames by decide), by rw [E.2.2.2]; exact (show 8 + (mNL (miB 266) + 11) + (rmN 266).locals ≤ (rmN 267).locals by decide), by rw [E.2.2.2]; exact (show 0 + (rmN 266).cells ≤ (rmN 267).cells by decide), by rw [E.2.2.2]; exact (show 0 + (rmN 266).slots ≤ (rmN 267).slots by decide)⟩ (Nat.le_of_ble_eq_true rfl) (fun vv s24 hq => ?_) (fun ee s24 hq => ?_)
          rotate_left
          · obtain ⟨Is24, Fs24, JNW_s24, e25, hv, hrs24, hps24⟩ := hq; cases hv
          obtain ⟨Is24, Fs24, JNW_s24, e25, hv, hrs24, hps24⟩ := hq
          cases hv
          have Gs24 := fm_ts Gs22 Fs24 (by decide) (by decide)
          have JRLx_s24 : RLx s24 := RLx_fm Fs24 (by decide) JRLx_s22
          have JNQ_s24 : NQ s24 := NQ_fm Fs24 (by decide) JNQ_s22
          have JNW_s24 : NW s24 := NW_fm Fs24 (by decide) JNW_s22
          have ws24_73 : iI s24 73 = iI s22 73 := fm_i Fs24 (by decide)
          have ws24_99 : iI s24 99 = iI s22 99 := fm_i Fs24 (by decide)
          have b26 : (1 : Int) ≤ iI s24 89 ∧ iI s24 89 ≤ 8 := Is24.1 89
          show WS k 67 [(0, .ref (A 179)), (1, .int (Int32.ofInt x)), (2, .int (Int32.ofInt y))] [.int (Int32.ofInt e25)] (Wd A dT s24) 0 0
          exact w_iret X.1 q hRt rfl (ax_d X (show cdA 267 67 = some (.ireturn, 1, 0, 0, 0) from rfl)) (Nat.zero_le _) (Nat.zero_le _) ⟨_, rfl, Is24, Gs24, JRLx_s24, e25, rfl, hrs24, by first | exact oq_5d374288 b26.1 hps24.2.2 ws22_89 ws18_89 ws14_89 ws10_89 ws6_89 ws4_89 b3.1 | omega⟩
        ·
          refine z_const X (show cdA 267 55 = some (.iconst 0, 1, 0, 0, 0) from rfl) ?_
          exact w_iret X.1 q hRt rfl (ax_d X (show cdA 267 56 = some (.ireturn, 1, 0, 0, 0) from rfl)) (Nat.zero_le _) (Nat.zero_le _) ⟨_, rfl, Is18, Gs18, JRLx_s18, 0, rfl, (by decide), by first | exact oq_746f139a ws18_89 ws14_89 ws10_89 ws6_89 ws4_89 b3.1 | omega⟩
      refine z_if_ne X (t := 47) (show cdA 267 40 = some (.ifCond .ne 7, 3, 1, 0, 0) from rfl) (by decide) hrs14 (fun g27 => ?_) (fun g27 => ?_)
      ·
        refine z_const X (show cdA 267 47 = some (.iconst 0, 1, 0, 0, 0) from rfl) ?_
        exact N16 _ (Or.inl ⟨g27, rfl⟩)
      ·
        refine z_const X (show cdA 267 43 = some (.iconst 1, 1, 0, 0, 0) from rfl) ?_
        refine z_goto X (t := 48) (show cdA 267 44 = some (.goto 4, 3, 0, 0, 0) from rfl) (by decide) ?_
        exact N16 _ (Or.inr (⟨g27, rfl⟩))
  refine z_if_ne X (t := 24) (show cdA 267 17 = some (.ifCond .ne 7, 3, 1, 0, 0) from rfl) (by decide) hrs6 (fun g28 => ?_) (fun g28 => ?_)
  ·
    refine z_const X (show cdA 267 24 = some (.iconst 0, 1, 0, 0, 0) from rfl) ?_
    exact N8 _ (Or.inl ⟨g28, rfl⟩)
  ·
    refine z_const X (show cdA 267 20 = some (.iconst 1, 1, 0, 0, 0) from rfl) ?_
    refine z_goto X (t := 25) (show cdA 267 21 = some (.goto 4, 3, 0, 0, 0) from rfl) (by decide) ?_
    exact N8 _ (Or.inr (⟨g28, rfl⟩))
set_option maxRecDepth 4000 in
theorem k_did (G : GX l s0 D tys a0 dT) (I : Bd s) (jRLx : RLx s) {x y z w : Int} (p0 : rng x) (p1 : rng y) (p2 : rng z) (p3 : w = 0 ∨ w = 1) : CT l s0 D A dT 287 (rmN 287) [.ref (A 179), .int (Int32.ofInt x), .int (Int32.ofInt y), .int (Int32.ofInt z), .int (Int32.ofInt w)] s (fun o t => Bd t ∧ Fm [73, 107, 77, 75, 78, 79, 80, 81] [202, 204, 205, 206, 207, 208, 209, 210, 211, 212, 213, 214, 215, 216, 217, 218, 219, 220, 221, 222, 223, 224, 225, 226, 227, 203, 161, 230, 417, 418, 419, 420, 421, 422, 423, 424, 425, 426, 427, 428, 429, 430, 431, 432, 433, 434, 435, 436, 437, 438, 439, 440, 441, 442, 443, 444, 445, 446, 447, 448, 449, 450, 451, 452, 453, 454, 455, 456, 457, 459] s t ∧ RLx t ∧ ∃ e, o = .inl (some (.int (Int32.ofInt e))) ∧ rng e ∧ (True)) := by
  refine ct_of G (by decide) (Nat.le_of_ble_eq_true rfl) (fun k X E hRt hXt q => ?_)
  show WS k 0 [(0, .ref (A 179)), (1, .int (Int32.ofInt x)), (2, .int (Int32.ofInt y)), (3, .int (Int32.ofInt z)), (4, .int (Int32.ofInt w))] [] _ 0 0
  have F : Fm [73, 107, 77, 75, 78, 79, 80, 81] [202, 204, 205, 206, 207, 208, 209, 210, 211, 212, 213, 214, 215, 216, 217, 218, 219, 220, 221, 222, 223, 224, 225, 226, 227, 203, 161, 230, 417, 418, 419, 420, 421, 422, 423, 424, 425, 426, 427, 428, 429, 430, 431, 432, 433, 434, 435, 436, 437, 438, 439, 440, 441, 442, 443, 444, 445, 446, 447, 448, 449, 450, 451, 452, 453, 454, 455, 456, 457, 459] s s := fm_rf _ _ s
  have b1 : (0 : Int) ≤ iI s 73 ∧ iI s 73 ≤ 3 := I.1 73
  have b2 : (0 : Int) ≤ iI s 107 ∧ iI s 107 ≤ 40 := I.1 107
  have L79 : ∀ (n : Nat) (t : PS) (xv yv zv wv c : Int), Bd t → Fm [73, 107, 77, 75, 78, 79, 80, 81] [202, 204, 205, 206, 207, 208, 209, 210, 211, 212, 213, 214, 215, 216, 217, 218, 219, 220, 221, 222, 223, 224, 225, 226, 227, 203, 161, 230, 417, 418, 419, 420, 421, 422, 423, 424, 425, 426, 427, 428, 429, 430, 431, 432, 433, 434, 435, 436, 437, 438, 439, 440, 441, 442, 443, 444, 445, 446, 447, 448, 449, 450, 451, 452, 453, 454, 455, 456, 457, 459] s t → RLx t → (rng zv ∧ (wv = 0 ∨ wv = 1) ∧ 0 ≤ c ∧ c ≤ 4 ∧ iI t 107 ≤ 39) → (4 - c : Int).toNat < n → (∀ (t' : PS) (c' : Int), Bd t' → Fm [73, 107, 77, 75, 78, 79, 80, 81] [202, 204, 205, 206, 207, 208, 209, 210, 211, 212, 213, 214, 215, 216, 217, 218, 219, 220, 221, 222, 223, 224, 225, 226, 227, 203, 161, 230, 417, 418, 419, 420, 421, 422, 423, 424, 425, 426, 427, 428, 429, 430, 431, 432, 433, 434, 435, 436, 437, 438, 439, 440, 441, 442, 443, 444, 445, 446, 447, 448, 449, 450, 451, 452, 453, 454, 455, 456, 457, 459] s t' → RLx t' → (rng zv ∧ (wv = 0 ∨ wv = 1) ∧ 0 ≤ c' ∧ c' ≤ 4 ∧ iI t' 107 ≤ 39) → WS k 110 [(0, .ref (A 179)), (1, .int (Int32.ofInt xv)), (2, .int (Int32.ofInt yv)), (3, .int (Int32.ofInt zv)), (4, .int (Int32.ofInt wv)), (5, .int (Int32.ofInt c'))] [] (Wd A dT t') 0 0) → WS k 79 [(0, .ref (A 179)), (1, .int (Int32.ofInt xv)), (2, .int (Int32.ofInt yv)), (3, .int (Int32.ofInt zv)), (4, .int (Int32.ofInt wv)), (5, .int (Int32.ofInt c))] [] (Wd A dT t) 0 0 := by
    intro n
    induction n with
    | zero =>
      intro t xv yv zv wv c I F jjRLx hi hm kx
      exact absurd hm (Nat.not_lt_zero _)
    | succ n ih =>
      intro t xv yv zv wv c I F jjRLx hi hm kx
      have b1001 : (0 : Int) ≤ iI t 73 ∧ iI t 73 ≤ 3 := I.1 73
      have b1002 : (0 : Int) ≤ iI t 107 ∧ iI t 107 ≤ 40 := I.1 107
      refine z_load X (x := c) (show cdA 287 79 = some (.iload 5, 2, 0, 0, 0) from rfl) (List.Mem.tail _ (List.Mem.tail _ (List.Mem.tail _ (List.Mem.tail _ (List.Mem.tail _ (List.Mem.head _)))))) ?_
      refine z_const X (show cdA 287 81 = some (.iconst 4, 1, 0, 0, 0) from rfl) ?_
      refine z_icmp_ge X (t := 110) (show cdA 287 82 = some (.if_icmp .ge 28, 3, 3, 0, 0) from rfl) (by decide) ⟨by first | exact oq_fa4e5087 hi.2.2.1 | omega, by first | exact oq_4a4414da hi.2.2.2.1 | omega⟩ (by decide) (fun g1003 => ?_) (fun g1003 => ?_)
      ·
        refine WS_lv (lv := [(0, .ref (A 179)), (1, .int (Int32.ofInt xv)), (2, .int (Int32.ofInt yv)), (3, .int (Int32.ofInt zv)), (4, .int (Int32.ofInt wv)), (5, .int (Int32.ofInt c))]) (List.forall_mem_cons.mpr ⟨(List.Mem.head _), (List.forall_mem_cons.mpr ⟨(List.Mem.tail _ (List.Mem.head _)), (List.forall_mem_cons.mpr ⟨(List.Mem.tail _ (List.Mem.tail _ (List.Mem.head _))), (List.forall_mem_cons.mpr ⟨(List.Mem.tail _ (List.Mem.tail _ (List.Mem.tail _ (List.Mem.head _)))), (List.forall_mem_cons.mpr ⟨(List.Mem.tail _ (List.Mem.tail _ (List.Mem.tail _ (List.Mem.tail _ (List.Mem.head _))))), (List.forall_mem_cons.mpr ⟨(List.Mem.tail _ (List.Mem.tail _ (List.Mem.tail _ (List.Mem.tail _ (List.Mem.tail _ (List.Mem.head _)))))), (fun q h => absurd h List.not_mem_nil)⟩)⟩)⟩)⟩)⟩)⟩) ?_
        exact kx _ c I F jjRLx (by first | exact ⟨And.intro (hi.1.1) (hi.1.2), hi.2.1, hi.2.2.1, hi.2.2.2.1, hi.2.2.2.2⟩ | omega)
      ·
        refine z_aload_n X (x := A 179) (show cdA 287 85 = some (.aload_n 0, 1, 0, 0, 0) from rfl) (List.Mem.head _) ?_
        refine s_getR X 179 (show cdA 287 86 = some (.getfield 160, 3, 12, 77, 0) from rfl) (by decide) rfl rfl ?_
        refine z_aload_n X (x := A 179) (show cdA 287 89 = some (.aload_n 0, 1, 0, 0, 0) from rfl) (List.Mem.head _) ?_
        refine z_getI X 179 (show cdA 287 90 = some (.getfield 458, 3, 12, 76, 0) from rfl) (by decide) rfl rfl ?_
        have b1004 : (0 : Int) ≤ iI t 107 ∧ iI t 107 ≤ 40 := I.1 107
        refine z_aald X rw_473 (show cdA 287 93 = some (.aaload, 1, 0, 0, 0) from rfl) (by first | exact b1004.1 | omega) (show (iI t 107) < 40 by first | exact oq_2ca8b5c0 hi.2.2.2.2 | omega) (by decide) ?_
        refine z_load X (x := c) (show cdA 287 94 = some (.iload 5, 2, 0, 0, 0) from rfl) (List.Mem.tail _ (List.Mem.tail _ (List.Mem.tail _ (List.Mem.tail _ (List.Mem.tail _ (List.Mem.head _)))))) ?_
        refine z_aload_n X (x := A 179) (show cdA 287 96 = some (.aload_n 0, 1, 0, 0, 0) from rfl) (List.Mem.head _) ?_
        refine s_getR X 179 (show cdA 287 97 = some (.getfield 32, 3, 12, 21, 0) from rfl) (by decide) rfl rfl ?_
        refine z_load X (x := c) (show cdA 287 100 = some (.iload 5, 2, 0, 0, 0) from rfl) (List.Mem.tail _ (List.Mem.tail _ (List.Mem.tail _ (List.Mem.tail _ (List.Mem.tail _ (List.Mem.head _)))))) ?_
        refine z_ald X 184 (show cdA 287 102 = some (.iaload, 1, 0, 0, 0) from rfl) (by decide) rfl (by first | exact hi.2.2.1 | omega) (show c < 7 by first | exact oq_453ddee4 g1003 | omega) (by decide) ?_
        have b1005 : ((-2147483648) : Int) ≤ iC t 161 (c).toNat ∧ iC t 161 (c).toNat ≤ 2147483647 := I.2 161 _ (show (c).toNat < 7 by first | exact oq_ca1d9e56 g1003 | omega)
        refine z_ast2 X rw_473 (show cdA 287 103 = some (.iastore, 1, 0, 0, 0) from rfl) (show ((iI t 107) : Int).toNat < 40 by first | exact oq_09251224 hi.2.2.2.2 | omega) (by first | exact hi.2.2.1 | omega) (show c < 4 by first | exact g1003 | omega) (by decide) ?_
        obtain ⟨s1006, hs1006⟩ : ∃ x0, x0 = uC t (417 + ((iI t 107) : Int).toNat) (c : Int).toNat (Int32.ofInt (iC t 161 (c).toNat)) := ⟨_, rfl⟩
        rw [← hs1006]
        have Is1006 : Bd s1006 := by rw [hs1006]; exact rw_st rw_473 I (show ((iI t 107) : Int).toNat < 40 by first | exact oq_09251224 hi.2.2.2.2 | omega) (show ((-2147483648) : Int) ≤ (iC t 161 (c).toNat) ∧ (iC t 161 (c).toNat) ≤ 2147483647 by first | exact ⟨b1005.1, b1005.2⟩ | omega) (rng_to _)
        have Fs1006 := fm_C (i := (c : Int).toNat) (x := Int32.ofInt (iC t 161 (c).toNat)) F ((show ∀ j, j < 40 → 417 + j ∈ _ by decide) ((iI t 107) : Int).toNat (by first | exact oq_09251224 hi.2.2.2.2 | omega))
        rw [← hs1006] at Fs1006
        have ws1006_73 : iI s1006 73 = iI t 73 := by rw [hs1006]; rfl
        have ws1006_107 : iI s1006 107 = iI t 107 := by rw [hs1006]; rfl
        have fs1006 : Fm [] [417, 418, 419, 420, 421, 422, 423, 424, 425, 426, 427, 428, 429, 430, 431, 432, 433, 434, 435, 436, 437, 438, 439, 440, 441, 442, 443, 444, 445, 446, 447, 448, 449, 450, 451, 452, 453, 454, 455, 456] t s1006 := by rw [hs1006]; exact fm_C (fm_rf _ _ _) ((show ∀ j, j < 40 → 417 + j ∈ _ by decide) ((iI t 107) : Int).toNat (by first | exact oq_09251224 hi.2.2.2.2 | omega))
        have JRLx_s1006 : RLx s1006 := RLx_fm fs1006 (by decide) jjRLx
        refine z_inc X (x := c) (lv' := [(5, .int (Int32.ofInt (c + 1))), (0, .ref (A 179)), (1, .int (Int32.ofInt xv)), (2, .int (Int32.ofInt yv)), (3, .int (Int32.ofInt zv)), (4, .int (Int32.ofInt wv))]) (show cdA 287 104 = some (.iinc 5 1, 3, 0, 0, 0) from rfl) (by decide) (List.Mem.tail _ (List.Mem.tail _ (List.Mem.tail _ (List.Mem.tail _ (List.Mem.tail _ (List.Mem.head _)))))) (fun _ h => h) ?_
        refine z_goto X (t := 79) (show cdA 287 107 = some (.goto (-28), 3, 0, 0, 0) from rfl) (by decide) ?_
        refine WS_lv (lv := [(0, .ref (A 179)), (1, .int (Int32.ofInt xv)), (2, .int (Int32.ofInt yv)), (3, .int (Int32.ofInt zv)), (4, .int (Int32.ofInt wv)), (5, .int (Int32.ofInt (c + 1)))]) (List.forall_mem_cons.mpr ⟨(List.Mem.tail _ (List.Mem.head _)), (List.forall_mem_cons.mpr ⟨(List.Mem.tail _ (List.Mem.tail _ (List.Mem.head _))), (List.forall_mem_cons.mpr ⟨(List.Mem.tail _ (List.Mem.tail _ (List.Mem.tail _ (List.Mem.head _)))), (List.forall_mem_cons.mpr ⟨(List.Mem.tail _ (List.Mem.tail _ (List.Mem.tail _ (List.Mem.tail _ (List.Mem.head _))))), (List.forall_mem_cons.mpr ⟨(List.Mem.tail _ (List.Mem.tail _ (List.Mem.tail _ (List.Mem.tail _ (List.Mem.tail _ (List.Mem.head _)))))), (List.forall_mem_cons.mpr ⟨(List.Mem.head _), (fun q h => absurd h List.not_mem_nil)⟩)⟩)⟩)⟩)⟩)⟩) ?_
        exact ih _ xv yv zv wv (c + 1) Is1006 Fs1006 JRLx_s1006 (by first | exact ⟨And.intro (hi.1.1) (hi.1.2), hi.2.1, oq_54f49eb5 hi.2.2.1, oq_5b7aaf9e g1003, oq_bcf6953c ws1006_107 hi.2.2.2.2⟩ | omega) (by first | exact qk_me hm (by decide) (oq_de1b25d0 g1003) | omega) kx
  refine z_aload_n X (x := A 179) (show cdA 287 0 = some (.aload_n 0, 1, 0, 0, 0) from rfl) (List.Mem.head _) ?_
  refine z_const X (show cdA 287 1 = some (.iconst 0, 1, 0, 0, 0) from rfl) ?_
  refine s_putI X 179 (show cdA 287 2 = some (.putfield 172, 3, 12, 0, 0) from rfl) (by decide) rfl rfl (by decide) rfl rfl rfl ?_
  obtain ⟨s3, hs3⟩ : ∃ x0, x0 = uI s 73 (Int32.ofInt 0) := ⟨_, rfl⟩
  rw [← hs3]
  have Is3 : Bd s3 := by rw [hs3]; exact bd_I I (show (0 : Int) ≤ 0 ∧ 0 ≤ 3 by first | exact ⟨by decide, by decide⟩ | omega) (by decide)
  have Fs3 := fm_I (x := Int32.ofInt 0) F (show 73 ∈ _ by decide)
  rw [← hs3] at Fs3
  have vs3 : iI s3 73 = 0 := by rw [hs3]; exact iI_u (by decide)
  have ws3_107 : iI s3 107 = iI s 107 := by rw [hs3]; rfl
  have fs3 : Fm [73] [] s s3 := by rw [hs3]; exact fm_I (fm_rf _ _ _) (show 73 ∈ _ by decide)
  have JRLx_s3 : RLx s3 := RLx_fm fs3 (by decide) jRLx
  refine z_aload_n X (x := A 179) (show cdA 287 5 = some (.aload_n 0, 1, 0, 0, 0) from rfl) (List.Mem.head _) ?_
  refine z_load_n X (x := x) (show cdA 287 6 = some (.iload_n 1, 1, 0, 0, 0) from rfl) (List.Mem.tail _ (List.Mem.head _)) ?_
  refine z_const X (show cdA 287 7 = some (.iconst 0, 1, 0, 0, 0) from rfl) ?_
  refine z_bipush X (show cdA 287 8 = some (.bipush 7, 2, 0, 0, 7) from rfl) ?_
  refine z_callS X (rm := rmN 188) (As := [.int (Int32.ofInt x), .int (Int32.ofInt 0), .int (Int32.ofInt 7)]) (st := [.ref (A 179)]) (show cdA 287 10 = some (.invokestatic 209, 3, 188, 1, 0) from rfl) rfl (by rw [E.1, E.2.1, E.2.2.1]; exact k_in G Is3 (by first | exact ⟨p0.1, p0.2⟩ | omega) (by first | exact ⟨by decide, by decide⟩ | omega) (by first | exact ⟨by decide, by decide⟩ | omega)) ⟨by rw [E.2.2.2]; exact (show (rmN 188).frames + 1 ≤ (rmN 287).frames by decide), by rw [E.2.2.2]; exact (show 8 + (mNL (miB 188) + 11) + (rmN 188).locals ≤ (rmN 287).locals by decide), by rw [E.2.2.2]; exact (show 0 + (rmN 188).cells ≤ (rmN 287).cells by decide), by rw [E.2.2.2]; exact (show 0 + (rmN 188).slots ≤ (rmN 287).slots by decide)⟩ (Nat.le_of_ble_eq_true rfl) (fun vv s4 hq => ?_) (fun ee s4 hq => ?_)
  rotate_left
  · obtain ⟨Is4, Fs4, e5, hv, hrs4, hps4⟩ := hq; cases hv
  obtain ⟨Is4, Fs4, e5, hv, hrs4, hps4⟩ := hq
  cases hv
  have Gs4 := fm_ts Fs3 Fs4 (by decide) (by decide)
  have JRLx_s4 : RLx s4 := RLx_fm Fs4 (by decide) JRLx_s3
  have ws4_73 : iI s4 73 = iI s3 73 := fm_i Fs4 (by decide)
  have ws4_107 : iI s4 107 = iI s3 107 := fm_i Fs4 (by decide)
  show WS k 13 [(0, .ref (A 179)), (1, .int (Int32.ofInt x)), (2, .int (Int32.ofInt y)), (3, .int (Int32.ofInt z)), (4, .int (Int32.ofInt w))] [.int (Int32.ofInt e5), .ref (A 179)] (Wd A dT s4) 0 0
  refine z_if_eq X (t := 37) (show cdA 287 13 = some (.ifCond .eq 24, 3, 0, 0, 0) from rfl) (by decide) hrs4 (fun g6 => ?_) (fun g6 => ?_)
  ·
    refine z_const X (show cdA 287 37 = some (.iconst 1, 1, 0, 0, 0) from rfl) ?_
    refine z_goto X (t := 42) (show cdA 287 38 = some (.goto 4, 3, 0, 0, 0) from rfl) (by decide) ?_
    refine z_const X (show cdA 287 42 = some (.iconst 1, 1, 0, 0, 0) from rfl) ?_
    refine z_callV X 179 (rm := rmN 187) (As := [.int (Int32.ofInt 1), .int (Int32.ofInt 1)]) (st := []) (show cdA 287 43 = some (.invokevirtual 229, 3, 187, 0, 0) from rfl) rfl (by decide) rfl (by rw [E.1, E.2.1, E.2.2.1]; exact k_bad G Is4 (by first | exact Or.inr (by decide) | omega) (by first | exact ⟨by decide, by decide⟩ | omega)) ⟨by rw [E.2.2.2]; exact (show (rmN 187).frames + 1 ≤ (rmN 287).frames by decide), by rw [E.2.2.2]; exact (show 8 + (mNL (miB 187) + 11) + (rmN 187).locals ≤ (rmN 287).locals by decide), by rw [E.2.2.2]; exact (show 0 + (rmN 187).cells ≤ (rmN 287).cells by decide), by rw [E.2.2.2]; exact (show 0 + (rmN 187).slots ≤ (rmN 287).slots by decide)⟩ (Nat.le_of_ble_eq_true rfl) (fun vv s7 hq => ?_) (fun ee s7 hq => ?_)
    rotate_left
    · obtain ⟨Is7, Fs7, e8, hv, hrs7, hps7⟩ := hq; cases hv
    obtain ⟨Is7, Fs7, e8, hv, hrs7, hps7⟩ := hq
    cases hv
    have Gs7 := fm_ts Gs4 Fs7 (by decide) (by decide)
    have JRLx_s7 : RLx s7 := RLx_fm Fs7 (by decide) JRLx_s4
    have b9 : (0 : Int) ≤ iI s7 73 ∧ iI s7 73 ≤ 3 := Is7.1 73
    have ws7_107 : iI s7 107 = iI s4 107 := fm_i Fs7 (by decide)
    show WS k 46 [(0, .ref (A 179)), (1, .int (Int32.ofInt x)), (2, .int (Int32.ofInt y)), (3, .int (Int32.ofInt z)), (4, .int (Int32.ofInt w))] [.int (Int32.ofInt e8)] (Wd A dT s7) 0 0
    refine z_if_eq X (t := 51) (show cdA 287 46 = some (.ifCond .eq 5, 3, 0, 0, 0) from rfl) (by decide) hrs7 (fun g10 => ?_) (fun g10 => ?_)
    ·
      refine z_aload_n X (x := A 179) (show cdA 287 51 = some (.aload_n 0, 1, 0, 0, 0) from rfl) (List.Mem.head _) ?_
      refine z_getI X 179 (show cdA 287 52 = some (.getfield 458, 3, 12, 76, 0) from rfl) (by decide) rfl rfl ?_
      have b11 : (0 : Int) ≤ iI s7 107 ∧ iI s7 107 ≤ 40 := Is7.1 107
      refine z_bipush X (show cdA 287 55 = some (.bipush 40, 2, 0, 0, 40) from rfl) ?_
      refine z_icmp_ne X (t := 62) (show cdA 287 57 = some (.if_icmp .ne 5, 3, 1, 0, 0) from rfl) (by decide) (rng_to _) (by decide) (fun g12 => ?_) (fun g12 => ?_)
      ·
        refine z_aload_n X (x := A 179) (show cdA 287 62 = some (.aload_n 0, 1, 0, 0, 0) from rfl) (List.Mem.head _) ?_
        refine z_load_n X (x := x) (show cdA 287 63 = some (.iload_n 1, 1, 0, 0, 0) from rfl) (List.Mem.tail _ (List.Mem.head _)) ?_
        refine z_callV X 179 (rm := rmN 230) (As := [.int (Int32.ofInt x)]) (st := []) (show cdA 287 64 = some (.invokevirtual 327, 3, 230, 0, 0) from rfl) rfl (by decide) rfl (by rw [E.1, E.2.1, E.2.2.1]; exact k_setOf G Is7 (by first | exact ⟨p0.1, p0.2⟩ | omega)) ⟨by rw [E.2.2.2]; exact (show (rmN 230).frames + 1 ≤ (rmN 287).frames by decide), by rw [E.2.2.2]; exact (show 8 + (mNL (miB 230) + 11) + (rmN 230).locals ≤ (rmN 287).locals by decide), by rw [E.2.2.2]; exact (show 0 + (rmN 230).cells ≤ (rmN 287).cells by decide), by rw [E.2.2.2]; exact (show 0 + (rmN 230).slots ≤ (rmN 287).slots by decide)⟩ (Nat.le_of_ble_eq_true rfl) (fun vv s13 hq => ?_) (fun ee s13 hq => ?_)
        rotate_left
        · obtain ⟨Is13, Fs13, hv, hps13⟩ := hq; cases hv
        obtain ⟨Is13, Fs13, hv, hps13⟩ := hq
        cases hv
        have Gs13 := fm_ts Gs7 Fs13 (by decide) (by decide)
        have JRLx_s13 : RLx s13 := RLx_fm Fs13 (by decide) JRLx_s7
        have ws13_73 : iI s13 73 = iI s7 73 := fm_i Fs13 (by decide)
        have ws13_107 : iI s13 107 = iI s7 107 := fm_i Fs13 (by decide)
        show WS k 67 [(0, .ref (A 179)), (1, .int (Int32.ofInt x)), (2, .int (Int32.ofInt y)), (3, .int (Int32.ofInt z)), (4, .int (Int32.ofInt w))] [] (Wd A dT s13) 0 0
        refine z_aload_n X (x := A 179) (show cdA 287 67 = some (.aload_n 0, 1, 0, 0, 0) from rfl) (List.Mem.head _) ?_
        refine z_load_n X (x := y) (show cdA 287 68 = some (.iload_n 2, 1, 0, 0, 0) from rfl) (List.Mem.tail _ (List.Mem.tail _ (List.Mem.head _))) ?_
        refine z_callV X 179 (rm := rmN 222) (As := [.int (Int32.ofInt y)]) (st := []) (show cdA 287 69 = some (.invokevirtual 333, 3, 222, 0, 0) from rfl) rfl (by decide) rfl (by rw [E.1, E.2.1, E.2.2.1]; exact k_asTold G Is13 JRLx_s13 (by first | exact ⟨oq_65cab3da g10 hps7.2.1, oq_5b968bc5 g10 hps7.2.1⟩ | omega)) ⟨by rw [E.2.2.2]; exact (show (rmN 222).frames + 1 ≤ (rmN 287).frames by decide), by rw [E.2.2.2]; exact (show 8 + (mNL (miB 222) + 11) + (rmN 222).locals ≤ (rmN 287).locals by decide), by rw [E.2.2.2]; exact (show 0 + (rmN 222).cells ≤ (rmN 287).cells by decide), by rw [E.2.2.2]; exact (show 0 + (rmN 222).slots ≤ (rmN 287).slots by decide)⟩ (Nat.le_of_ble_eq_true rfl) (fun vv s15 hq => ?_) (fun ee s15 hq => ?_)
        rotate_left
        · obtain ⟨Is15, Fs15, JRLx_s15, JNQ_s15, hv, hps15⟩ := hq; cases hv
        obtain ⟨Is15, Fs15, JRLx_s15, JNQ_s15, hv, hps15⟩ := hq
        cases hv
        have Gs15 := fm_ts Gs13 Fs15 (by decide) (by decide)
        have JRLx_s15 : RLx s15 := RLx_fm Fs15 (by decide) JRLx_s13
        have ws15_73 : iI s15 73 = iI s13 73 := fm_i Fs15 (by decide)
        have ws15_107 : iI s15 107 = iI s13 107 := fm_i Fs15 (by decide)
        show WS k 72 [(0, .ref (A 179)), (1, .int (Int32.ofInt x)), (2, .int (Int32.ofInt y)), (3, .int (Int32.ofInt z)), (4, .int (Int32.ofInt w))] [] (Wd A dT s15) 0 0
        refine z_aload_n X (x := A 179) (show cdA 287 72 = some (.aload_n 0, 1, 0, 0, 0) from rfl) (List.Mem.head _) ?_
        have JNW_s15 : NW s15 := NW_of JNQ_s15 JRLx_s15
        refine z_callV X 179 (rm := rmN 227) (As := []) (st := []) (show cdA 287 73 = some (.invokevirtual 318, 3, 227, 0, 0) from rfl) rfl (by decide) rfl (by rw [E.1, E.2.1, E.2.2.1]; exact k_listen G Is15 JNW_s15 ) ⟨by rw [E.2.2.2]; exact (show (rmN 227).frames + 1 ≤ (rmN 287).frames by decide), by rw [E.2.2.2]; exact (show 8 + (mNL (miB 227) + 11) + (rmN 227).locals ≤ (rmN 287).locals by decide), by rw [E.2.2.2]; exact (show 0 + (rmN 227).cells ≤ (rmN 287).cells by decide), by rw [E.2.2.2]; exact (show 0 + (rmN 227).slots ≤ (rmN 287).slots by decide)⟩ (Nat.le_of_ble_eq_true rfl) (fun vv s17 hq => ?_) (fun ee s17 hq => ?_)
        rotate_left
        · obtain ⟨Is17, Fs17, JNW_s17, hv, hps17⟩ := hq; cases hv
        obtain ⟨Is17, Fs17, JNW_s17, hv, hps17⟩ := hq
        cases hv
        have Gs17 := fm_ts Gs15 Fs17 (by decide) (by decide)
        have JRLx_s17 : RLx s17 := RLx_fm Fs17 (by decide) JRLx_s15
        have JNQ_s17 : NQ s17 := NQ_fm Fs17 (by decide) JNQ_s15
        have JNW_s17 : NW s17 := NW_fm Fs17 (by decide) JNW_s15
        have ws17_73 : iI s17 73 = iI s15 73 := fm_i Fs17 (by decide)
        have ws17_107 : iI s17 107 = iI s15 107 := fm_i Fs17 (by decide)
        show WS k 76 [(0, .ref (A 179)), (1, .int (Int32.ofInt x)), (2, .int (Int32.ofInt y)), (3, .int (Int32.ofInt z)), (4, .int (Int32.ofInt w))] [] (Wd A dT s17) 0 0
        refine z_const X (show cdA 287 76 = some (.iconst 0, 1, 0, 0, 0) from rfl) ?_
        refine z_store X (lv' := [(5, .int (Int32.ofInt 0)), (0, .ref (A 179)), (1, .int (Int32.ofInt x)), (2, .int (Int32.ofInt y)), (3, .int (Int32.ofInt z)), (4, .int (Int32.ofInt w))]) (show cdA 287 77 = some (.istore 5, 2, 0, 0, 0) from rfl) (by decide) (fun _ h => h) ?_
        refine WS_lv (lv := [(0, .ref (A 179)), (1, .int (Int32.ofInt x)), (2, .int (Int32.ofInt y)), (3, .int (Int32.ofInt z)), (4, .int (Int32.ofInt w)), (5, .int (Int32.ofInt 0))]) (List.forall_mem_cons.mpr ⟨(List.Mem.tail _ (List.Mem.head _)), (List.forall_mem_cons.mpr ⟨(List.Mem.tail _ (List.Mem.tail _ (List.Mem.head _))), (List.forall_mem_cons.mpr ⟨(List.Mem.tail _ (List.Mem.tail _ (List.Mem.tail _ (List.Mem.head _)))), (List.forall_mem_cons.mpr ⟨(List.Mem.tail _ (List.Mem.tail _ (List.Mem.tail _ (List.Mem.tail _ (List.Mem.head _))))), (List.forall_mem_cons.mpr ⟨(List.Mem.tail _ (List.Mem.tail _ (List.Mem.tail _ (List.Mem.tail _ (List.Mem.tail _ (List.Mem.head _)))))), (List.forall_mem_cons.mpr ⟨(List.Mem.head _), (fun q h => absurd h List.not_mem_nil)⟩)⟩)⟩)⟩)⟩)⟩) ?_
        refine L79 ((4 - 0 : Int).toNat + 1) s17 x y z w 0 Is17 Gs17 JRLx_s17 (by first | exact ⟨And.intro (p2.1) (p2.2), p3, by decide, by decide, oq_f5d717ba ws17_107 ws15_107 ws13_107 g12 b11.2⟩ | omega) (Nat.lt_succ_self _) ?_
        intro s19 x20 Is19 Fs19 JRLx_s19 hs19
        have b21 : (0 : Int) ≤ iI s19 73 ∧ iI s19 73 ≤ 3 := Is19.1 73
        have b22 : (0 : Int) ≤ iI s19 107 ∧ iI s19 107 ≤ 40 := Is19.1 107
        refine z_aload_n X (x := A 179) (show cdA 287 110 = some (.aload_n 0, 1, 0, 0, 0) from rfl) (List.Mem.head _) ?_
        refine s_getR X 179 (show cdA 287 111 = some (.getfield 163, 3, 12, 78, 0) from rfl) (by decide) rfl rfl ?_
        refine z_aload_n X (x := A 179) (show cdA 287 114 = some (.aload_n 0, 1, 0, 0, 0) from rfl) (List.Mem.head _) ?_
        refine z_getI X 179 (show cdA 287 115 = some (.getfield 458, 3, 12, 76, 0) from rfl) (by decide) rfl rfl ?_
        have b23 : (0 : Int) ≤ iI s19 107 ∧ iI s19 107 ≤ 40 := Is19.1 107
        refine z_load_n X (x := z) (show cdA 287 118 = some (.iload_n 3, 1, 0, 0, 0) from rfl) (List.Mem.tail _ (List.Mem.tail _ (List.Mem.tail _ (List.Mem.head _)))) ?_
        refine z_ast X 514 (show cdA 287 119 = some (.iastore, 1, 0, 0, 0) from rfl) (by decide) rfl (by first | exact b23.1 | omega) (show (iI s19 107) < 40 by first | exact oq_2ca8b5c0 hs19.2.2.2.2 | omega) (by decide) ?_
        obtain ⟨s24, hs24⟩ : ∃ x0, x0 = uC s19 457 ((iI s19 107)).toNat (Int32.ofInt z) := ⟨_, rfl⟩
        rw [← hs24]
        have Is24 : Bd s24 := by rw [hs24]; exact bd_C Is19 (show ((-2147483648) : Int) ≤ z ∧ z ≤ 2147483647 by first | exact ⟨hs19.1.1, hs19.1.2⟩ | omega) ⟨by first | exact hs19.1.1 | omega, by first | exact hs19.1.2 | omega⟩
        have Fs24 := fm_C (i := ((iI s19 107)).toNat) (x := Int32.ofInt z) Fs19 (show 457 ∈ _ by decide)
        rw [← hs24] at Fs24
        have ws24_73 : iI s24 73 = iI s19 73 := by rw [hs24]; rfl
        have ws24_107 : iI s24 107 = iI s19 107 := by rw [hs24]; rfl
        have fs24 : Fm [] [457] s19 s24 := by rw [hs24]; exact fm_C (fm_rf _ _ _) (show 457 ∈ _ by decide)
        have JRLx_s24 : RLx s24 := RLx_fm fs24 (by decide) JRLx_s19
        refine z_aload_n X (x := A 179) (show cdA 287 120 = some (.aload_n 0, 1, 0, 0, 0) from rfl) (List.Mem.head _) ?_
        refine s_getR X 179 (show cdA 287 121 = some (.getfield 169, 3, 12, 80, 0) from rfl) (by decide) rfl rfl ?_
        refine z_aload_n X (x := A 179) (show cdA 287 124 = some (.aload_n 0, 1, 0, 0, 0) from rfl) (List.Mem.head _) ?_
        refine z_getI X 179 (show cdA 287 125 = some (.getfield 458, 3, 12, 76, 0) from rfl) (by decide) rfl rfl ?_
        have b25 : (0 : Int) ≤ iI s24 107 ∧ iI s24 107 ≤ 40 := Is24.1 107
        refine z_load X (x := w) (show cdA 287 128 = some (.iload 4, 2, 0, 0, 0) from rfl) (List.Mem.tail _ (List.Mem.tail _ (List.Mem.tail _ (List.Mem.tail _ (List.Mem.head _))))) ?_
        refine z_zast X 516 (show cdA 287 130 = some (.bastore, 1, 0, 0, 0) from rfl) (by decide) rfl (by first | exact b25.1 | omega) (show (iI s24 107) < 40 by first | exact oq_e7509aa9 ws24_107 hs19.2.2.2.2 | omega) (by decide) (by first | exact hs19.2.1 | omega) ?_
        obtain ⟨s26, hs26⟩ : ∃ x0, x0 = uC s24 459 ((iI s24 107)).toNat (Int32.ofInt w) := ⟨_, rfl⟩
        rw [← hs26]
        have Is26 : Bd s26 := by rw [hs26]; exact bd_C Is24 (show (0 : Int) ≤ w ∧ w ≤ 1 by first | exact ⟨oq_e4aca38c hs19.2.1, oq_14617724 hs19.2.1⟩ | omega) ⟨by first | exact oq_bde653e9 hs19.2.1 | omega, by first | exact oq_4ad2cb8b hs19.2.1 | omega⟩
        have Fs26 := fm_C (i := ((iI s24 107)).toNat) (x := Int32.ofInt w) Fs24 (show 459 ∈ _ by decide)
        rw [← hs26] at Fs26
        have ws26_73 : iI s26 73 = iI s24 73 := by rw [hs26]; rfl
        have ws26_107 : iI s26 107 = iI s24 107 := by rw [hs26]; rfl
        have fs26 : Fm [] [459] s24 s26 := by rw [hs26]; exact fm_C (fm_rf _ _ _) (show 459 ∈ _ by decide)
        have JRLx_s26 : RLx s26 := RLx_fm fs26 (by decide) JRLx_s24
        refine z_aload_n X (x := A 179) (show cdA 287 131 = some (.aload_n 0, 1, 0, 0, 0) from rfl) (List.Mem.head _) ?_
        refine w_dup X.1 (ax_d X (show cdA 287 132 = some (.dup, 1, 0, 0, 0) from rfl)) rfl ?_
        refine z_getI X 179 (show cdA 287 133 = some (.getfield 458, 3, 12, 76, 0) from rfl) (by decide) rfl rfl ?_
        have b27 : (0 : Int) ≤ iI s26 107 ∧ iI s26 107 ≤ 40 := Is26.1 107
        refine z_const X (show cdA 287 136 = some (.iconst 1, 1, 0, 0, 0) from rfl) ?_
        refine z_add X (show cdA 287 137 = some (.iadd, 1, 0, 0, 0) from rfl) ?_
        refine s_putI X 179 (show cdA 287 138 = some (.putfield 458, 3, 12, 76, 0) from rfl) (by decide) rfl rfl (by decide) rfl rfl rfl ?_
        obtain ⟨s28, hs28⟩ : ∃ x0, x0 = uI s26 107 (Int32.ofInt ((iI s26 107) + 1)) := ⟨_, rfl⟩
        rw [← hs28]
        have Is28 : Bd s28 := by rw [hs28]; exact bd_I Is26 (show (0 : Int) ≤ ((iI s26 107) + 1) ∧ ((iI s26 107) + 1) ≤ 40 by first | exact ⟨oq_54f49eb5 b27.1, oq_44ae331b ws26_107 ws24_107 hs19.2.2.2.2⟩ | omega) ⟨by first | exact oq_74de1e16 b27.1 | omega, by first | exact oq_c01d6c28 b27.2 | omega⟩
        have Fs28 := fm_I (x := Int32.ofInt ((iI s26 107) + 1)) Fs26 (show 107 ∈ _ by decide)
        rw [← hs28] at Fs28
        have vs28 : iI s28 107 = ((iI s26 107) + 1) := by rw [hs28]; exact iI_u ⟨by first | exact oq_74de1e16 b27.1 | omega, by first | exact oq_c01d6c28 b27.2 | omega⟩
        have ws28_73 : iI s28 73 = iI s26 73 := by rw [hs28]; rfl
        have fs28 : Fm [107] [] s26 s28 := by rw [hs28]; exact fm_I (fm_rf _ _ _) (show 107 ∈ _ by decide)
        have JRLx_s28 : RLx s28 := RLx_fm fs28 (by decide) JRLx_s26
        refine z_aload_n X (x := A 179) (show cdA 287 141 = some (.aload_n 0, 1, 0, 0, 0) from rfl) (List.Mem.head _) ?_
        refine z_getI X 179 (show cdA 287 142 = some (.getfield 458, 3, 12, 76, 0) from rfl) (by decide) rfl rfl ?_
        have b29 : (0 : Int) ≤ iI s28 107 ∧ iI s28 107 ≤ 40 := Is28.1 107
        refine z_const X (show cdA 287 145 = some (.iconst 1, 1, 0, 0, 0) from rfl) ?_
        refine z_sub X (show cdA 287 146 = some (.isub, 1, 0, 0, 0) from rfl) ?_
        exact w_iret X.1 q hRt rfl (ax_d X (show cdA 287 147 = some (.ireturn, 1, 0, 0, 0) from rfl)) (Nat.zero_le _) (Nat.zero_le _) ⟨_, rfl, Is28, Fs28, JRLx_s28, ((iI s28 107) - 1), rfl, ⟨by first | exact oq_c1e961c7 b29.1 | omega, by first | exact oq_86f8893e b29.2 | omega⟩, trivial⟩
      ·
        refine z_const X (show cdA 287 60 = some (.iconst (-1), 1, 0, 0, 0) from rfl) ?_
        exact w_iret X.1 q hRt rfl (ax_d X (show cdA 287 61 = some (.ireturn, 1, 0, 0, 0) from rfl)) (Nat.zero_le _) (Nat.zero_le _) ⟨_, rfl, Is7, Gs7, JRLx_s7, (-1), rfl, (by decide), trivial⟩
    ·
      refine z_const X (show cdA 287 49 = some (.iconst 0, 1, 0, 0, 0) from rfl) ?_
      exact w_iret X.1 q hRt rfl (ax_d X (show cdA 287 50 = some (.ireturn, 1, 0, 0, 0) from rfl)) (Nat.zero_le _) (Nat.zero_le _) ⟨_, rfl, Is7, Gs7, JRLx_s7, 0, rfl, (by decide), trivial⟩
  ·
    refine z_load_n X (x := y) (show cdA 287 16 = some (.iload_n 2, 1, 0, 0, 0) from rfl) (List.Mem.tail _ (List.Mem.tail _ (List.Mem.head _))) ?_
    refine z_const X (show cdA 287 17 = some (.iconst 0, 1, 0, 0, 0) from rfl) ?_
    refine z_bipush X (show cdA 287 18 = some (.bipush 23, 2, 0, 0, 23) from rfl) ?_
    refine z_callS X (rm := rmN 188) (As := [.int (Int32.ofInt y), .int (Int32.ofInt 0), .int (Int32.ofInt 23)]) (st := [.ref (A 179)]) (show cdA 287 20 = some (.invokestatic 209, 3, 188, 1, 0) from rfl) rfl (by rw [E.1, E.2.1, E.2.2.1]; exact k_in G Is4 (by first | exact ⟨p1.1, p1.2⟩ | omega) (by first | exact ⟨by decide, by decide⟩ | omega) (by first | exact ⟨by decide, by decide⟩ | omega)) ⟨by rw [E.2.2.2]; exact (show (rmN 188).frames + 1 ≤ (rmN 287).frames by decide), by rw [E.2.2.2]; exact (show 8 + (mNL (miB 188) + 11) + (rmN 188).locals ≤ (rmN 287).locals by decide), by rw [E.2.2.2]; exact (show 0 + (rmN 188).cells ≤ (rmN 287).cells by decide), by rw [E.2.2.2]; exact (show 0 + (rmN 188).slots ≤ (rmN 287).slots by decide)⟩ (Nat.le_of_ble_eq_true rfl) (fun vv s30 hq => ?_) (fun ee s30 hq => ?_)
    rotate_left
    · obtain ⟨Is30, Fs30, e31, hv, hrs30, hps30⟩ := hq; cases hv
    obtain ⟨Is30, Fs30, e31, hv, hrs30, hps30⟩ := hq
    cases hv
    have Gs30 := fm_ts Gs4 Fs30 (by decide) (by decide)
    have JRLx_s30 : RLx s30 := RLx_fm Fs30 (by decide) JRLx_s4
    have ws30_73 : iI s30 73 = iI s4 73 := fm_i Fs30 (by decide)
    have ws30_107 : iI s30 107 = iI s4 107 := fm_i Fs30 (by decide)
    show WS k 23 [(0, .ref (A 179)), (1, .int (Int32.ofInt x)), (2, .int (Int32.ofInt y)), (3, .int (Int32.ofInt z)), (4, .int (Int32.ofInt w))] [.int (Int32.ofInt e31), .ref (A 179)] (Wd A dT s30) 0 0
    refine z_if_eq X (t := 37) (show cdA 287 23 = some (.ifCond .eq 14, 3, 0, 0, 0) from rfl) (by decide) hrs30 (fun g32 => ?_) (fun g32 => ?_)
    ·
      refine z_const X (show cdA 287 37 = some (.iconst 1, 1, 0, 0, 0) from rfl) ?_
      refine z_goto X (t := 42) (show cdA 287 38 = some (.goto 4, 3, 0, 0, 0) from rfl) (by decide) ?_
      refine z_const X (show cdA 287 42 = some (.iconst 1, 1, 0, 0, 0) from rfl) ?_
      refine z_callV X 179 (rm := rmN 187) (As := [.int (Int32.ofInt 1), .int (Int32.ofInt 1)]) (st := []) (show cdA 287 43 = some (.invokevirtual 229, 3, 187, 0, 0) from rfl) rfl (by decide) rfl (by rw [E.1, E.2.1, E.2.2.1]; exact k_bad G Is30 (by first | exact Or.inr (by decide) | omega) (by first | exact ⟨by decide, by decide⟩ | omega)) ⟨by rw [E.2.2.2]; exact (show (rmN 187).frames + 1 ≤ (rmN 287).frames by decide), by rw [E.2.2.2]; exact (show 8 + (mNL (miB 187) + 11) + (rmN 187).locals ≤ (rmN 287).locals by decide), by rw [E.2.2.2]; exact (show 0 + (rmN 187).cells ≤ (rmN 287).cells by decide), by rw [E.2.2.2]; exact (show 0 + (rmN 187).slots ≤ (rmN 287).slots by decide)⟩ (Nat.le_of_ble_eq_true rfl) (fun vv s33 hq => ?_) (fun ee s33 hq => ?_)
      rotate_left
      · obtain ⟨Is33, Fs33, e34, hv, hrs33, hps33⟩ := hq; cases hv
      obtain ⟨Is33, Fs33, e34, hv, hrs33, hps33⟩ := hq
      cases hv
      have Gs33 := fm_ts Gs30 Fs33 (by decide) (by decide)
      have JRLx_s33 : RLx s33 := RLx_fm Fs33 (by decide) JRLx_s30
      have b35 : (0 : Int) ≤ iI s33 73 ∧ iI s33 73 ≤ 3 := Is33.1 73
      have ws33_107 : iI s33 107 = iI s30 107 := fm_i Fs33 (by decide)
      show WS k 46 [(0, .ref (A 179)), (1, .int (Int32.ofInt x)), (2, .int (Int32.ofInt y)), (3, .int (Int32.ofInt z)), (4, .int (Int32.ofInt w))] [.int (Int32.ofInt e34)] (Wd A dT s33) 0 0
      refine z_if_eq X (t := 51) (show cdA 287 46 = some (.ifCond .eq 5, 3, 0, 0, 0) from rfl) (by decide) hrs33 (fun g36 => ?_) (fun g36 => ?_)
      ·
        refine z_aload_n X (x := A 179) (show cdA 287 51 = some (.aload_n 0, 1, 0, 0, 0) from rfl) (List.Mem.head _) ?_
        refine z_getI X 179 (show cdA 287 52 = some (.getfield 458, 3, 12, 76, 0) from rfl) (by decide) rfl rfl ?_
        have b37 : (0 : Int) ≤ iI s33 107 ∧ iI s33 107 ≤ 40 := Is33.1 107
        refine z_bipush X (show cdA 287 55 = some (.bipush 40, 2, 0, 0, 40) from rfl) ?_
        refine z_icmp_ne X (t := 62) (show cdA 287 57 = some (.if_icmp .ne 5, 3, 1, 0, 0) from rfl) (by decide) (rng_to _) (by decide) (fun g38 => ?_) (fun g38 => ?_)
        ·
          refine z_aload_n X (x := A 179) (show cdA 287 62 = some (.aload_n 0, 1, 0, 0, 0) from rfl) (List.Mem.head _) ?_
          refine z_load_n X (x := x) (show cdA 287 63 = some (.iload_n 1, 1, 0, 0, 0) from rfl) (List.Mem.tail _ (List.Mem.head _)) ?_
          refine z_callV X 179 (rm := rmN 230) (As := [.int (Int32.ofInt x)]) (st := []) (show cdA 287 64 = some (.invokevirtual 327, 3, 230, 0, 0) from rfl) rfl (by decide) rfl (by rw [E.1, E.2.1, E.2.2.1]; exact k_setOf G Is33 (by first | exact ⟨p0.1, p0.2⟩ | omega)) ⟨by rw [E.2.2.2]; exact (show (rmN 230).frames + 1 ≤ (rmN 287).frames by decide), by rw [E.2.2.2]; exact (show 8 + (mNL (miB 230) + 11) + (rmN 230).locals ≤ (rmN 287).locals by decide), by rw [E.2.2.2]; exact (show 0 + (rmN 230).cells ≤ (rmN 287).cells by decide), by rw [E.2.2.2]; exact (show 0 + (rmN 230).slots ≤ (rmN 287).slots by decide)⟩ (Nat.le_of_ble_eq_true rfl) (fun vv s39 hq => ?_) (fun ee s39 hq => ?_)
          rotate_left
          · obtain ⟨Is39, Fs39, hv, hps39⟩ := hq; cases hv
          obtain ⟨Is39, Fs39, hv, hps39⟩ := hq
          cases hv
          have Gs39 := fm_ts Gs33 Fs39 (by decide) (by decide)
          have JRLx_s39 : RLx s39 := RLx_fm Fs39 (by decide) JRLx_s33
          have ws39_73 : iI s39 73 = iI s33 73 := fm_i Fs39 (by decide)
          have ws39_107 : iI s39 107 = iI s33 107 := fm_i Fs39 (by decide)
          show WS k 67 [(0, .ref (A 179)), (1, .int (Int32.ofInt x)), (2, .int (Int32.ofInt y)), (3, .int (Int32.ofInt z)), (4, .int (Int32.ofInt w))] [] (Wd A dT s39) 0 0
          refine z_aload_n X (x := A 179) (show cdA 287 67 = some (.aload_n 0, 1, 0, 0, 0) from rfl) (List.Mem.head _) ?_
          refine z_load_n X (x := y) (show cdA 287 68 = some (.iload_n 2, 1, 0, 0, 0) from rfl) (List.Mem.tail _ (List.Mem.tail _ (List.Mem.head _))) ?_
          refine z_callV X 179 (rm := rmN 222) (As := [.int (Int32.ofInt y)]) (st := []) (show cdA 287 69 = some (.invokevirtual 333, 3, 222, 0, 0) from rfl) rfl (by decide) rfl (by rw [E.1, E.2.1, E.2.2.1]; exact k_asTold G Is39 JRLx_s39 (by first | exact ⟨oq_65cab3da g36 hps33.2.1, oq_5b968bc5 g36 hps33.2.1⟩ | omega)) ⟨by rw [E.2.2.2]; exact (show (rmN 222).frames + 1 ≤ (rmN 287).frames by decide), by rw [E.2.2.2]; exact (show 8 + (mNL (miB 222) + 11) + (rmN 222).locals ≤ (rmN 287).locals by decide), by rw [E.2.2.2]; exact (show 0 + (rmN 222).cells ≤ (rmN 287).cells by decide), by rw [E.2.2.2]; exact (show 0 + (rmN 222).slots ≤ (rmN 287).slots by decide)⟩ (Nat.le_of_ble_eq_true rfl) (fun vv s41 hq => ?_) (fun ee s41 hq => ?_)
          rotate_left
          · obtain ⟨Is41, Fs41, JRLx_s41, JNQ_s41, hv, hps41⟩ := hq; cases hv
          obtain ⟨Is41, Fs41, JRLx_s41, JNQ_s41, hv, hps41⟩ := hq
          cases hv
          have Gs41 := fm_ts Gs39 Fs41 (by decide) (by decide)
          have JRLx_s41 : RLx s41 := RLx_fm Fs41 (by decide) JRLx_s39
          have ws41_73 : iI s41 73 = iI s39 73 := fm_i Fs41 (by decide)
          have ws41_107 : iI s41 107 = iI s39 107 := fm_i Fs41 (by decide)
          show WS k 72 [(0, .ref (A 179)), (1, .int (Int32.ofInt x)), (2, .int (Int32.ofInt y)), (3, .int (Int32.ofInt z)), (4, .int (Int32.ofInt w))] [] (Wd A dT s41) 0 0
          refine z_aload_n X (x := A 179) (show cdA 287 72 = some (.aload_n 0, 1, 0, 0, 0) from rfl) (List.Mem.head _) ?_
          have JNW_s41 : NW s41 := NW_of JNQ_s41 JRLx_s41
          refine z_callV X 179 (rm := rmN 227) (As := []) (st := []) (show cdA 287 73 = some (.invokevirtual 318, 3, 227, 0, 0) from rfl) rfl (by decide) rfl (by rw [E.1, E.2.1, E.2.2.1]; exact k_listen G Is41 JNW_s41 ) ⟨by rw [E.2.2.2]; exact (show (rmN 227).frames + 1 ≤ (rmN 287).frames by decide), by rw [E.2.2.2]; exact (show 8 + (mNL (miB 227) + 11) + (rmN 227).locals ≤ (rmN 287).locals by decide), by rw [E.2.2.2]; exact (show 0 + (rmN 227).cells ≤ (rmN 287).cells by decide), by rw [E.2.2.2]; exact (show 0 + (rmN 227).slots ≤ (rmN 287).slots by decide)⟩ (Nat.le_of_ble_eq_true rfl) (fun vv s43 hq => ?_) (fun ee s43 hq => ?_)
          rotate_left
          · obtain ⟨Is43, Fs43, JNW_s43, hv, hps43⟩ := hq; cases hv
          obtain ⟨Is43, Fs43, JNW_s43, hv, hps43⟩ := hq
          cases hv
          have Gs43 := fm_ts Gs41 Fs43 (by decide) (by decide)
          have JRLx_s43 : RLx s43 := RLx_fm Fs43 (by decide) JRLx_s41
          have JNQ_s43 : NQ s43 := NQ_fm Fs43 (by decide) JNQ_s41
          have JNW_s43 : NW s43 := NW_fm Fs43 (by decide) JNW_s41
          have ws43_73 : iI s43 73 = iI s41 73 := fm_i Fs43 (by decide)
          have ws43_107 : iI s43 107 = iI s41 107 := fm_i Fs43 (by decide)
          show WS k 76 [(0, .ref (A 179)), (1, .int (Int32.ofInt x)), (2, .int (Int32.ofInt y)), (3, .int (Int32.ofInt z)), (4, .int (Int32.ofInt w))] [] (Wd A dT s43) 0 0
          refine z_const X (show cdA 287 76 = some (.iconst 0, 1, 0, 0, 0) from rfl) ?_
          refine z_store X (lv' := [(5, .int (Int32.ofInt 0)), (0, .ref (A 179)), (1, .int (Int32.ofInt x)), (2, .int (Int32.ofInt y)), (3, .int (Int32.ofInt z)), (4, .int (Int32.ofInt w))]) (show cdA 287 77 = some (.istore 5, 2, 0, 0, 0) from rfl) (by decide) (fun _ h => h) ?_
          refine WS_lv (lv := [(0, .ref (A 179)), (1, .int (Int32.ofInt x)), (2, .int (Int32.ofInt y)), (3, .int (Int32.ofInt z)), (4, .int (Int32.ofInt w)), (5, .int (Int32.ofInt 0))]) (List.forall_mem_cons.mpr ⟨(List.Mem.tail _ (List.Mem.head _)), (List.forall_mem_cons.mpr ⟨(List.Mem.tail _ (List.Mem.tail _ (List.Mem.head _))), (List.forall_mem_cons.mpr ⟨(List.Mem.tail _ (List.Mem.tail _ (List.Mem.tail _ (List.Mem.head _)))), (List.forall_mem_cons.mpr ⟨(List.Mem.tail _ (List.Mem.tail _ (List.Mem.tail _ (List.Mem.tail _ (List.Mem.head _))))), (List.forall_mem_cons.mpr ⟨(List.Mem.tail _ (List.Mem.tail _ (List.Mem.tail _ (List.Mem.tail _ (List.Mem.tail _ (List.Mem.head _)))))), (List.forall_mem_cons.mpr ⟨(List.Mem.head _), (fun q h => absurd h List.not_mem_nil)⟩)⟩)⟩)⟩)⟩)⟩) ?_
          refine L79 ((4 - 0 : Int).toNat + 1) s43 x y z w 0 Is43 Gs43 JRLx_s43 (by first | exact ⟨And.intro (p2.1) (p2.2), p3, by decide, by decide, oq_f5d717ba ws43_107 ws41_107 ws39_107 g38 b37.2⟩ | omega) (Nat.lt_succ_self _) ?_
          intro s45 x46 Is45 Fs45 JRLx_s45 hs45
          have b47 : (0 : Int) ≤ iI s45 73 ∧ iI s45 73 ≤ 3 := Is45.1 73
          have b48 : (0 : Int) ≤ iI s45 107 ∧ iI s45 107 ≤ 40 := Is45.1 107
          refine z_aload_n X (x := A 179) (show cdA 287 110 = some (.aload_n 0, 1, 0, 0, 0) from rfl) (List.Mem.head _) ?_
          refine s_getR X 179 (show cdA 287 111 = some (.getfield 163, 3, 12, 78, 0) from rfl) (by decide) rfl rfl ?_
          refine z_aload_n X (x := A 179) (show cdA 287 114 = some (.aload_n 0, 1, 0, 0, 0) from rfl) (List.Mem.head _) ?_
          refine z_getI X 179 (show cdA 287 115 = some (.getfield 458, 3, 12, 76, 0) from rfl) (by decide) rfl rfl ?_
          have b49 : (0 : Int) ≤ iI s45 107 ∧ iI s45 107 ≤ 40 := Is45.1 107
          refine z_load_n X (x := z) (show cdA 287 118 = some (.iload_n 3, 1, 0, 0, 0) from rfl) (List.Mem.tail _ (List.Mem.tail _ (List.Mem.tail _ (List.Mem.head _)))) ?_
          refine z_ast X 514 (show cdA 287 119 = some (.iastore, 1, 0, 0, 0) from rfl) (by decide) rfl (by first | exact b49.1 | omega) (show (iI s45 107) < 40 by first | exact oq_2ca8b5c0 hs45.2.2.2.2 | omega) (by decide) ?_
          obtain ⟨s50, hs50⟩ : ∃ x0, x0 = uC s45 457 ((iI s45 107)).toNat (Int32.ofInt z) := ⟨_, rfl⟩
          rw [← hs50]
          have Is50 : Bd s50 := by rw [hs50]; exact bd_C Is45 (show ((-2147483648) : Int) ≤ z ∧ z ≤ 2147483647 by first | exact ⟨hs45.1.1, hs45.1.2⟩ | omega) ⟨by first | exact hs45.1.1 | omega, by first | exact hs45.1.2 | omega⟩
          have Fs50 := fm_C (i := ((iI s45 107)).toNat) (x := Int32.ofInt z) Fs45 (show 457 ∈ _ by decide)
          rw [← hs50] at Fs50
          have ws50_73 : iI s50 73 = iI s45 73 := by rw [hs50]; rfl
          have ws50_107 : iI s50 107 = iI s45 107 := by rw [hs50]; rfl
          have fs50 : Fm [] [457] s45 s50 := by rw [hs50]; exact fm_C (fm_rf _ _ _) (show 457 ∈ _ by decide)
          have JRLx_s50 : RLx s50 := RLx_fm fs50 (by decide) JRLx_s45
          refine z_aload_n X (x := A 179) (show cdA 287 120 = some (.aload_n 0, 1, 0, 0, 0) from rfl) (List.Mem.head _) ?_
          refine s_getR X 179 (show cdA 287 121 = some (.getfield 169, 3, 12, 80, 0) from rfl) (by decide) rfl rfl ?_
          refine z_aload_n X (x := A 179) (show cdA 287 124 = some (.aload_n 0, 1, 0, 0, 0) from rfl) (List.Mem.head _) ?_
          refine z_getI X 179 (show cdA 287 125 = some (.getfield 458, 3, 12, 76, 0) from rfl) (by decide) rfl rfl ?_
          have b51 : (0 : Int) ≤ iI s50 107 ∧ iI s50 107 ≤ 40 := Is50.1 107
          refine z_load X (x := w) (show cdA 287 128 = some (.iload 4, 2, 0, 0, 0) from rfl) (List.Mem.tail _ (List.Mem.tail _ (List.Mem.tail _ (List.Mem.tail _ (List.Mem.head _))))) ?_
          refine z_zast X 516 (show cdA 287 130 = some (.bastore, 1, 0, 0, 0) from rfl) (by decide) rfl (by first | exact b51.1 | omega) (show (iI s50 107) < 40 by first | exact oq_e7509aa9 ws50_107 hs45.2.2.2.2 | omega) (by decide) (by first | exact hs45.2.1 | omega) ?_
          obtain ⟨s52, hs52⟩ : ∃ x0, x0 = uC s50 459 ((iI s50 107)).toNat (Int32.ofInt w) := ⟨_, rfl⟩
          rw [← hs52]
          have Is52 : Bd s52 := by rw [hs52]; exact bd_C Is50 (show (0 : Int) ≤ w ∧ w ≤ 1 by first | exact ⟨oq_e4aca38c hs45.2.1, oq_14617724 hs45.2.1⟩ | omega) ⟨by first | exact oq_bde653e9 hs45.2.1 | omega, by first | exact oq_4ad2cb8b hs45.2.1 | omega⟩
          have Fs52 := fm_C (i := ((iI s50 107)).toNat) (x := Int32.ofInt w) Fs50 (show 459 ∈ _ by decide)
          rw [← hs52] at Fs52
          have ws52_73 : iI s52 73 = iI s50 73 := by rw [hs52]; rfl
          have ws52_107 : iI s52 107 = iI s50 107 := by rw [hs52]; rfl
          have fs52 : Fm [] [459] s50 s52 := by rw [hs52]; exact fm_C (fm_rf _ _ _) (show 459 ∈ _ by decide)
          have JRLx_s52 : RLx s52 := RLx_fm fs52 (by decide) JRLx_s50
          refine z_aload_n X (x := A 179) (show cdA 287 131 = some (.aload_n 0, 1, 0, 0, 0) from rfl) (List.Mem.head _) ?_
          refine w_dup X.1 (ax_d X (show cdA 287 132 = some (.dup, 1, 0, 0, 0) from rfl)) rfl ?_
          refine z_getI X 179 (show cdA 287 133 = some (.getfield 458, 3, 12, 76, 0) from rfl) (by decide) rfl rfl ?_
          have b53 : (0 : Int) ≤ iI s52 107 ∧ iI s52 107 ≤ 40 := Is52.1 107
          refine z_const X (show cdA 287 136 = some (.iconst 1, 1, 0, 0, 0) from rfl) ?_
          refine z_add X (show cdA 287 137 = some (.iadd, 1, 0, 0, 0) from rfl) ?_
          refine s_putI X 179 (show cdA 287 138 = some (.putfield 458, 3, 12, 76, 0) from rfl) (by decide) rfl rfl (by decide) rfl rfl rfl ?_
          obtain ⟨s54, hs54⟩ : ∃ x0, x0 = uI s52 107 (Int32.ofInt ((iI s52 107) + 1)) := ⟨_, rfl⟩
          rw [← hs54]
          have Is54 : Bd s54 := by rw [hs54]; exact bd_I Is52 (show (0 : Int) ≤ ((iI s52 107) + 1) ∧ ((iI s52 107) + 1) ≤ 40 by first | exact ⟨oq_54f49eb5 b53.1, oq_44ae331b ws52_107 ws50_107 hs45.2.2.2.2⟩ | omega) ⟨by first | exact oq_74de1e16 b53.1 | omega, by first | exact oq_c01d6c28 b53.2 | omega⟩
          have Fs54 := fm_I (x := Int32.ofInt ((iI s52 107) + 1)) Fs52 (show 107 ∈ _ by decide)
          rw [← hs54] at Fs54
          have vs54 : iI s54 107 = ((iI s52 107) + 1) := by rw [hs54]; exact iI_u ⟨by first | exact oq_74de1e16 b53.1 | omega, by first | exact oq_c01d6c28 b53.2 | omega⟩
          have ws54_73 : iI s54 73 = iI s52 73 := by rw [hs54]; rfl
          have fs54 : Fm [107] [] s52 s54 := by rw [hs54]; exact fm_I (fm_rf _ _ _) (show 107 ∈ _ by decide)
          have JRLx_s54 : RLx s54 := RLx_fm fs54 (by decide) JRLx_s52
          refine z_aload_n X (x := A 179) (show cdA 287 141 = some (.aload_n 0, 1, 0, 0, 0) from rfl) (List.Mem.head _) ?_
          refine z_getI X 179 (show cdA 287 142 = some (.getfield 458, 3, 12, 76, 0) from rfl) (by decide) rfl rfl ?_
          have b55 : (0 : Int) ≤ iI s54 107 ∧ iI s54 107 ≤ 40 := Is54.1 107
          refine z_const X (show cdA 287 145 = some (.iconst 1, 1, 0, 0, 0) from rfl) ?_
          refine z_sub X (show cdA 287 146 = some (.isub, 1, 0, 0, 0) from rfl) ?_
          exact w_iret X.1 q hRt rfl (ax_d X (show cdA 287 147 = some (.ireturn, 1, 0, 0, 0) from rfl)) (Nat.zero_le _) (Nat.zero_le _) ⟨_, rfl, Is54, Fs54, JRLx_s54, ((iI s54 107) - 1), rfl, ⟨by first | exact oq_c1e961c7 b55.1 | omega, by first | exact oq_86f8893e b55.2 | omega⟩, trivial⟩
        ·
          refine z_const X (show cdA 287 60 = some (.iconst (-1), 1, 0, 0, 0) from rfl) ?_
          exact w_iret X.1 q hRt rfl (ax_d X (show cdA 287 61 = some (.ireturn, 1, 0, 0, 0) from rfl)) (Nat.zero_le _) (Nat.zero_le _) ⟨_, rfl, Is33, Gs33, JRLx_s33, (-1), rfl, (by decide), trivial⟩
      ·
        refine z_const X (show cdA 287 49 = some (.iconst 0, 1, 0, 0, 0) from rfl) ?_
        exact w_iret X.1 q hRt rfl (ax_d X (show cdA 287 50 = some (.ireturn, 1, 0, 0, 0) from rfl)) (Nat.zero_le _) (Nat.zero_le _) ⟨_, rfl, Is33, Gs33, JRLx_s33, 0, rfl, (by decide), trivial⟩
    ·
      refine z_load_n X (x := z) (show cdA 287 26 = some (.iload_n 3, 1, 0, 0, 0) from rfl) (List.Mem.tail _ (List.Mem.tail _ (List.Mem.tail _ (List.Mem.head _)))) ?_
      refine z_const X (show cdA 287 27 = some (.iconst 0, 1, 0, 0, 0) from rfl) ?_
      refine z_sipush X (show cdA 287 28 = some (.sipush 9999, 3, 0, 0, 9999) from rfl) ?_
      refine z_callS X (rm := rmN 188) (As := [.int (Int32.ofInt z), .int (Int32.ofInt 0), .int (Int32.ofInt 9999)]) (st := [.ref (A 179)]) (show cdA 287 31 = some (.invokestatic 209, 3, 188, 1, 0) from rfl) rfl (by rw [E.1, E.2.1, E.2.2.1]; exact k_in G Is30 (by first | exact ⟨p2.1, p2.2⟩ | omega) (by first | exact ⟨by decide, by decide⟩ | omega) (by first | exact ⟨by decide, by decide⟩ | omega)) ⟨by rw [E.2.2.2]; exact (show (rmN 188).frames + 1 ≤ (rmN 287).frames by decide), by rw [E.2.2.2]; exact (show 8 + (mNL (miB 188) + 11) + (rmN 188).locals ≤ (rmN 287).locals by decide), by rw [E.2.2.2]; exact (show 0 + (rmN 188).cells ≤ (rmN 287).cells by decide), by rw [E.2.2.2]; exact (show 0 + (rmN 188).slots ≤ (rmN 287).slots by decide)⟩ (Nat.le_of_ble_eq_true rfl) (fun vv s56 hq => ?_) (fun ee s56 hq => ?_)
      rotate_left
      · obtain ⟨Is56, Fs56, e57, hv, hrs56, hps56⟩ := hq; cases hv
      obtain ⟨Is56, Fs56, e57, hv, hrs56, hps56⟩ := hq
      cases hv
      have Gs56 := fm_ts Gs30 Fs56 (by decide) (by decide)
      have JRLx_s56 : RLx s56 := RLx_fm Fs56 (by decide) JRLx_s30
      have ws56_73 : iI s56 73 = iI s30 73 := fm_i Fs56 (by decide)
      have ws56_107 : iI s56 107 = iI s30 107 := fm_i Fs56 (by decide)
      show WS k 34 [(0, .ref (A 179)), (1, .int (Int32.ofInt x)), (2, .int (Int32.ofInt y)), (3, .int (Int32.ofInt z)), (4, .int (Int32.ofInt w))] [.int (Int32.ofInt e57), .ref (A 179)] (Wd A dT s56) 0 0
      have N58 : ∀ e59 : Int, (((e57 ≠ 0) ∧ e59 = 0) ∨ ((e57 = 0) ∧ e59 = 1)) → WS k 42 [(0, .ref (A 179)), (1, .int (Int32.ofInt x)), (2, .int (Int32.ofInt y)), (3, .int (Int32.ofInt z)), (4, .int (Int32.ofInt w))] [.int (Int32.ofInt e59), .ref (A 179)] (Wd A dT s56) 0 0 := by
        intro e59 he59
        have re59 : 0 ≤ e59 ∧ e59 ≤ 1 := by omega
        refine z_const X (show cdA 287 42 = some (.iconst 1, 1, 0, 0, 0) from rfl) ?_
        refine z_callV X 179 (rm := rmN 187) (As := [.int (Int32.ofInt e59), .int (Int32.ofInt 1)]) (st := []) (show cdA 287 43 = some (.invokevirtual 229, 3, 187, 0, 0) from rfl) rfl (by decide) rfl (by rw [E.1, E.2.1, E.2.2.1]; exact k_bad G Is56 (by first | exact oq_31e518ae re59.2 re59.1 | omega) (by first | exact ⟨by decide, by decide⟩ | omega)) ⟨by rw [E.2.2.2]; exact (show (rmN 187).frames + 1 ≤ (rmN 287).frames by decide), by rw [E.2.2.2]; exact (show 8 + (mNL (miB 187) + 11) + (rmN 187).locals ≤ (rmN 287).locals by decide), by rw [E.2.2.2]; exact (show 0 + (rmN 187).cells ≤ (rmN 287).cells by decide), by rw [E.2.2.2]; exact (show 0 + (rmN 187).slots ≤ (rmN 287).slots by decide)⟩ (Nat.le_of_ble_eq_true rfl) (fun vv s60 hq => ?_) (fun ee s60 hq => ?_)
        rotate_left
        · obtain ⟨Is60, Fs60, e61, hv, hrs60, hps60⟩ := hq; cases hv
        obtain ⟨Is60, Fs60, e61, hv, hrs60, hps60⟩ := hq
        cases hv
        have Gs60 := fm_ts Gs56 Fs60 (by decide) (by decide)
        have JRLx_s60 : RLx s60 := RLx_fm Fs60 (by decide) JRLx_s56
        have b62 : (0 : Int) ≤ iI s60 73 ∧ iI s60 73 ≤ 3 := Is60.1 73
        have ws60_107 : iI s60 107 = iI s56 107 := fm_i Fs60 (by decide)
        show WS k 46 [(0, .ref (A 179)), (1, .int (Int32.ofInt x)), (2, .int (Int32.ofInt y)), (3, .int (Int32.ofInt z)), (4, .int (Int32.ofInt w))] [.int (Int32.ofInt e61)] (Wd A dT s60) 0 0
        refine z_if_eq X (t := 51) (show cdA 287 46 = some (.ifCond .eq 5, 3, 0, 0, 0) from rfl) (by decide) hrs60 (fun g63 => ?_) (fun g63 => ?_)
        ·
          refine z_aload_n X (x := A 179) (show cdA 287 51 = some (.aload_n 0, 1, 0, 0, 0) from rfl) (List.Mem.head _) ?_
          refine z_getI X 179 (show cdA 287 52 = some (.getfield 458, 3, 12, 76, 0) from rfl) (by decide) rfl rfl ?_
          have b64 : (0 : Int) ≤ iI s60 107 ∧ iI s60 107 ≤ 40 := Is60.1 107
          refine z_bipush X (show cdA 287 55 = some (.bipush 40, 2, 0, 0, 40) from rfl) ?_
          refine z_icmp_ne X (t := 62) (show cdA 287 57 = some (.if_icmp .ne 5, 3, 1, 0, 0) from rfl) (by decide) (rng_to _) (by decide) (fun g65 => ?_) (fun g65 => ?_)
          ·
            refine z_aload_n X (x := A 179) (show cdA 287 62 = some (.aload_n 0, 1, 0, 0, 0) from rfl) (List.Mem.head _) ?_
            refine z_load_n X (x := x) (show cdA 287 63 = some (.iload_n 1, 1, 0, 0, 0) from rfl) (List.Mem.tail _ (List.Mem.head _)) ?_
            refine z_callV X 179 (rm := rmN 230) (As := [.int (Int32.ofInt x)]) (st := []) (show cdA 287 64 = some (.invokevirtual 327, 3, 230, 0, 0) from rfl) rfl (by decide) rfl (by rw [E.1, E.2.1, E.2.2.1]; exact k_setOf G Is60 (by first | exact ⟨p0.1, p0.2⟩ | omega)) ⟨by rw [E.2.2.2]; exact (show (rmN 230).frames + 1 ≤ (rmN 287).frames by decide), by rw [E.2.2.2]; exact (show 8 + (mNL (miB 230) + 11) + (rmN 230).locals ≤ (rmN 287).locals by decide), by rw [E.2.2.2]; exact (show 0 + (rmN 230).cells ≤ (rmN 287).cells by decide), by rw [E.2.2.2]; exact (show 0 + (rmN 230).slots ≤ (rmN 287).slots by decide)⟩ (Nat.le_of_ble_eq_true rfl) (fun vv s66 hq => ?_) (fun ee s66 hq => ?_)
            rotate_left
            · obtain ⟨Is66, Fs66, hv, hps66⟩ := hq; cases hv
            obtain ⟨Is66, Fs66, hv, hps66⟩ := hq
            cases hv
            have Gs66 := fm_ts Gs60 Fs66 (by decide) (by decide)
            have JRLx_s66 : RLx s66 := RLx_fm Fs66 (by decide) JRLx_s60
            have ws66_73 : iI s66 73 = iI s60 73 := fm_i Fs66 (by decide)
            have ws66_107 : iI s66 107 = iI s60 107 := fm_i Fs66 (by decide)
            show WS k 67 [(0, .ref (A 179)), (1, .int (Int32.ofInt x)), (2, .int (Int32.ofInt y)), (3, .int (Int32.ofInt z)), (4, .int (Int32.ofInt w))] [] (Wd A dT s66) 0 0
            refine z_aload_n X (x := A 179) (show cdA 287 67 = some (.aload_n 0, 1, 0, 0, 0) from rfl) (List.Mem.head _) ?_
            refine z_load_n X (x := y) (show cdA 287 68 = some (.iload_n 2, 1, 0, 0, 0) from rfl) (List.Mem.tail _ (List.Mem.tail _ (List.Mem.head _))) ?_
            refine z_callV X 179 (rm := rmN 222) (As := [.int (Int32.ofInt y)]) (st := []) (show cdA 287 69 = some (.invokevirtual 333, 3, 222, 0, 0) from rfl) rfl (by decide) rfl (by rw [E.1, E.2.1, E.2.2.1]; exact k_asTold G Is66 JRLx_s66 (by first | exact ⟨oq_0159bb48 g32 hps30, oq_8b498cf6 g32 hps30⟩ | omega)) ⟨by rw [E.2.2.2]; exact (show (rmN 222).frames + 1 ≤ (rmN 287).frames by decide), by rw [E.2.2.2]; exact (show 8 + (mNL (miB 222) + 11) + (rmN 222).locals ≤ (rmN 287).locals by decide), by rw [E.2.2.2]; exact (show 0 + (rmN 222).cells ≤ (rmN 287).cells by decide), by rw [E.2.2.2]; exact (show 0 + (rmN 222).slots ≤ (rmN 287).slots by decide)⟩ (Nat.le_of_ble_eq_true rfl) (fun vv s68 hq => ?_) (fun ee s68 hq => ?_)
            rotate_left
            · obtain ⟨Is68, Fs68, JRLx_s68, JNQ_s68, hv, hps68⟩ := hq; cases hv
            obtain ⟨Is68, Fs68, JRLx_s68, JNQ_s68, hv, hps68⟩ := hq
            cases hv
            have Gs68 := fm_ts Gs66 Fs68 (by decide) (by decide)
            have JRLx_s68 : RLx s68 := RLx_fm Fs68 (by decide) JRLx_s66
            have ws68_73 : iI s68 73 = iI s66 73 := fm_i Fs68 (by decide)
            have ws68_107 : iI s68 107 = iI s66 107 := fm_i Fs68 (by decide)
            show WS k 72 [(0, .ref (A 179)), (1, .int (Int32.ofInt x)), (2, .int (Int32.ofInt y)), (3, .int (Int32.ofInt z)), (4, .int (Int32.ofInt w))] [] (Wd A dT s68) 0 0
            refine z_aload_n X (x := A 179) (show cdA 287 72 = some (.aload_n 0, 1, 0, 0, 0) from rfl) (List.Mem.head _) ?_
            have JNW_s68 : NW s68 := NW_of JNQ_s68 JRLx_s68
            refine z_callV X 179 (rm := rmN 227) (As := []) (st := []) (show cdA 287 73 = some (.invokevirtual 318, 3, 227, 0, 0) from rfl) rfl (by decide) rfl (by rw [E.1, E.2.1, E.2.2.1]; exact k_listen G Is68 JNW_s68 ) ⟨by rw [E.2.2.2]; exact (show (rmN 227).frames + 1 ≤ (rmN 287).frames by decide), by rw [E.2.2.2]; exact (show 8 + (mNL (miB 227) + 11) + (rmN 227).locals ≤ (rmN 287).locals by decide), by rw [E.2.2.2]; exact (show 0 + (rmN 227).cells ≤ (rmN 287).cells by decide), by rw [E.2.2.2]; exact (show 0 + (rmN 227).slots ≤ (rmN 287).slots by decide)⟩ (Nat.le_of_ble_eq_true rfl) (fun vv s70 hq => ?_) (fun ee s70 hq => ?_)
            rotate_left
            · obtain ⟨Is70, Fs70, JNW_s70, hv, hps70⟩ := hq; cases hv
            obtain ⟨Is70, Fs70, JNW_s70, hv, hps70⟩ := hq
            cases hv
            have Gs70 := fm_ts Gs68 Fs70 (by decide) (by decide)
            have JRLx_s70 : RLx s70 := RLx_fm Fs70 (by decide) JRLx_s68
            have JNQ_s70 : NQ s70 := NQ_fm Fs70 (by decide) JNQ_s68
            have JNW_s70 : NW s70 := NW_fm Fs70 (by decide) JNW_s68
            have ws70_73 : iI s70 73 = iI s68 73 := fm_i Fs70 (by decide)
            have ws70_107 : iI s70 107 = iI s68 107 := fm_i Fs70 (by decide)
            show WS k 76 [(0, .ref (A 179)), (1, .int (Int32.ofInt x)), (2, .int (Int32.ofInt y)), (3, .int (Int32.ofInt z)), (4, .int (Int32.ofInt w))] [] (Wd A dT s70) 0 0
            refine z_const X (show cdA 287 76 = some (.iconst 0, 1, 0, 0, 0) from rfl) ?_
            refine z_store X (lv' := [(5, .int (Int32.ofInt 0)), (0, .ref (A 179)), (1, .int (Int32.ofInt x)), (2, .int (Int32.ofInt y)), (3, .int (Int32.ofInt z)), (4, .int (Int32.ofInt w))]) (show cdA 287 77 = some (.istore 5, 2, 0, 0, 0) from rfl) (by decide) (fun _ h => h) ?_
            refine WS_lv (lv := [(0, .ref (A 179)), (1, .int (Int32.ofInt x)), (2, .int (Int32.ofInt y)), (3, .int (Int32.ofInt z)), (4, .int (Int32.ofInt w)), (5, .int (Int32.ofInt 0))]) (List.forall_mem_cons.mpr ⟨(List.Mem.tail _ (List.Mem.head _)), (List.forall_mem_cons.mpr ⟨(List.Mem.tail _ (List.Mem.tail _ (List.Mem.head _))), (List.forall_mem_cons.mpr ⟨(List.Mem.tail _ (List.Mem.tail _ (List.Mem.tail _ (List.Mem.head _)))), (List.forall_mem_cons.mpr ⟨(List.Mem.tail _ (List.Mem.tail _ (List.Mem.tail _ (List.Mem.tail _ (List.Mem.head _))))), (List.forall_mem_cons.mpr ⟨(List.Mem.tail _ (List.Mem.tail _ (List.Mem.tail _ (List.Mem.tail _ (List.Mem.tail _ (List.Mem.head _)))))), (List.forall_mem_cons.mpr ⟨(List.Mem.head _), (fun q h => absurd h List.not_mem_nil)⟩)⟩)⟩)⟩)⟩)⟩) ?_
            refine L79 ((4 - 0 : Int).toNat + 1) s70 x y z w 0 Is70 Gs70 JRLx_s70 (by first | exact ⟨And.intro (p2.1) (p2.2), p3, by decide, by decide, oq_f5d717ba ws70_107 ws68_107 ws66_107 g65 b64.2⟩ | omega) (Nat.lt_succ_self _) ?_
            intro s72 x73 Is72 Fs72 JRLx_s72 hs72
            have b74 : (0 : Int) ≤ iI s72 73 ∧ iI s72 73 ≤ 3 := Is72.1 73
            have b75 : (0 : Int) ≤ iI s72 107 ∧ iI s72 107 ≤ 40 := Is72.1 107
            refine z_aload_n X (x := A 179) (show cdA 287 110 = some (.aload_n 0, 1, 0, 0, 0) from rfl) (List.Mem.head _) ?_
            refine s_getR X 179 (show cdA 287 111 = some (.getfield 163, 3, 12, 78, 0) from rfl) (by decide) rfl rfl ?_
            refine z_aload_n X (x := A 179) (show cdA 287 114 = some (.aload_n 0, 1, 0, 0, 0) from rfl) (List.Mem.head _) ?_
            refine z_getI X 179 (show cdA 287 115 = some (.getfield 458, 3, 12, 76, 0) from rfl) (by decide) rfl rfl ?_
            have b76 : (0 : Int) ≤ iI s72 107 ∧ iI s72 107 ≤ 40 := Is72.1 107
            refine z_load_n X (x := z) (show cdA 287 118 = some (.iload_n 3, 1, 0, 0, 0) from rfl) (List.Mem.tail _ (List.Mem.tail _ (List.Mem.tail _ (List.Mem.head _)))) ?_
            refine z_ast X 514 (show cdA 287 119 = some (.iastore, 1, 0, 0, 0) from rfl) (by decide) rfl (by first | exact b76.1 | omega) (show (iI s72 107) < 40 by first | exact oq_2ca8b5c0 hs72.2.2.2.2 | omega) (by decide) ?_
            obtain ⟨s77, hs77⟩ : ∃ x0, x0 = uC s72 457 ((iI s72 107)).toNat (Int32.ofInt z) := ⟨_, rfl⟩
            rw [← hs77]
            have Is77 : Bd s77 := by rw [hs77]; exact bd_C Is72 (show ((-2147483648) : Int) ≤ z ∧ z ≤ 2147483647 by first | exact ⟨hs72.1.1, hs72.1.2⟩ | omega) ⟨by first | exact hs72.1.1 | omega, by first | exact hs72.1.2 | omega⟩
            have Fs77 := fm_C (i := ((iI s72 107)).toNat) (x := Int32.ofInt z) Fs72 (show 457 ∈ _ by decide)
            rw [← hs77] at Fs77
            have ws77_73 : iI s77 73 = iI s72 73 := by rw [hs77]; rfl
            have ws77_107 : iI s77 107 = iI s72 107 := by rw [hs77]; rfl
            have fs77 : Fm [] [457] s72 s77 := by rw [hs77]; exact fm_C (fm_rf _ _ _) (show 457 ∈ _ by decide)
            have JRLx_s77 : RLx s77 := RLx_fm fs77 (by decide) JRLx_s72
            refine z_aload_n X (x := A 179) (show cdA 287 120 = some (.aload_n 0, 1, 0, 0, 0) from rfl) (List.Mem.head _) ?_
            refine s_getR X 179 (show cdA 287 121 = some (.getfield 169, 3, 12, 80, 0) from rfl) (by decide) rfl rfl ?_
            refine z_aload_n X (x := A 179) (show cdA 287 124 = some (.aload_n 0, 1, 0, 0, 0) from rfl) (List.Mem.head _) ?_
            refine z_getI X 179 (show cdA 287 125 = some (.getfield 458, 3, 12, 76, 0) from rfl) (by decide) rfl rfl ?_
            have b78 : (0 : Int) ≤ iI s77 107 ∧ iI s77 107 ≤ 40 := Is77.1 107
            refine z_load X (x := w) (show cdA 287 128 = some (.iload 4, 2, 0, 0, 0) from rfl) (List.Mem.tail _ (List.Mem.tail _ (List.Mem.tail _ (List.Mem.tail _ (List.Mem.head _))))) ?_
            refine z_zast X 516 (show cdA 287 130 = some (.bastore, 1, 0, 0, 0) from rfl) (by decide) rfl (by first | exact b78.1 | omega) (show (iI s77 107) < 40 by first | exact oq_e7509aa9 ws77_107 hs72.2.2.2.2 | omega) (by decide) (by first | exact hs72.2.1 | omega) ?_
            obtain ⟨s79, hs79⟩ : ∃ x0, x0 = uC s77 459 ((iI s77 107)).toNat (Int32.ofInt w) := ⟨_, rfl⟩
            rw [← hs79]
            have Is79 : Bd s79 := by rw [hs79]; exact bd_C Is77 (show (0 : Int) ≤ w ∧ w ≤ 1 by first | exact ⟨oq_e4aca38c hs72.2.1, oq_14617724 hs72.2.1⟩ | omega) ⟨by first | exact oq_bde653e9 hs72.2.1 | omega, by first | exact oq_4ad2cb8b hs72.2.1 | omega⟩
            have Fs79 := fm_C (i := ((iI s77 107)).toNat) (x := Int32.ofInt w) Fs77 (show 459 ∈ _ by decide)
            rw [← hs79] at Fs79
            have ws79_73 : iI s79 73 = iI s77 73 := by rw [hs79]; rfl
            have ws79_107 : iI s79 107 = iI s77 107 := by rw [hs79]; rfl
            have fs79 : Fm [] [459] s77 s79 := by rw [hs79]; exact fm_C (fm_rf _ _ _) (show 459 ∈ _ by decide)
            have JRLx_s79 : RLx s79 := RLx_fm fs79 (by decide) JRLx_s77
            refine z_aload_n X (x := A 179) (show cdA 287 131 = some (.aload_n 0, 1, 0, 0, 0) from rfl) (List.Mem.head _) ?_
            refine w_dup X.1 (ax_d X (show cdA 287 132 = some (.dup, 1, 0, 0, 0) from rfl)) rfl ?_
            refine z_getI X 179 (show cdA 287 133 = some (.getfield 458, 3, 12, 76, 0) from rfl) (by decide) rfl rfl ?_
            have b80 : (0 : Int) ≤ iI s79 107 ∧ iI s79 107 ≤ 40 := Is79.1 107
            refine z_const X (show cdA 287 136 = some (.iconst 1, 1, 0, 0, 0) from rfl) ?_
            refine z_add X (show cdA 287 137 = some (.iadd, 1, 0, 0, 0) from rfl) ?_
            refine s_putI X 179 (show cdA 287 138 = some (.putfield 458, 3, 12, 76, 0) from rfl) (by decide) rfl rfl (by decide) rfl rfl rfl ?_
            obtain ⟨s81, hs81⟩ : ∃ x0, x0 = uI s79 107 (Int32.ofInt ((iI s79 107) + 1)) := ⟨_, rfl⟩
            rw [← hs81]
            have Is81 : Bd s81 := by rw [hs81]; exact bd_I Is79 (show (0 : Int) ≤ ((iI s79 107) + 1) ∧ ((iI s79 107) + 1) ≤ 40 by first | exact ⟨oq_54f49eb5 b80.1, oq_44ae331b ws79_107 ws77_107 hs72.2.2.2.2⟩ | omega) ⟨by first | exact oq_74de1e16 b80.1 | omega, by first | exact oq_c01d6c28 b80.2 | omega⟩
            have Fs81 := fm_I (x := Int32.ofInt ((iI s79 107) + 1)) Fs79 (show 107 ∈ _ by decide)
            rw [← hs81] at Fs81
            have vs81 : iI s81 107 = ((iI s79 107) + 1) := by rw [hs81]; exact iI_u ⟨by first | exact oq_74de1e16 b80.1 | omega, by first | exact oq_c01d6c28 b80.2 | omega⟩
            have ws81_73 : iI s81 73 = iI s79 73 := by rw [hs81]; rfl
            have fs81 : Fm [107] [] s79 s81 := by rw [hs81]; exact fm_I (fm_rf _ _ _) (show 107 ∈ _ by decide)
            have JRLx_s81 : RLx s81 := RLx_fm fs81 (by decide) JRLx_s79
            refine z_aload_n X (x := A 179) (show cdA 287 141 = some (.aload_n 0, 1, 0, 0, 0) from rfl) (List.Mem.head _) ?_
            refine z_getI X 179 (show cdA 287 142 = some (.getfield 458, 3, 12, 76, 0) from rfl) (by decide) rfl rfl ?_
            have b82 : (0 : Int) ≤ iI s81 107 ∧ iI s81 107 ≤ 40 := Is81.1 107
            refine z_const X (show cdA 287 145 = some (.iconst 1, 1, 0, 0, 0) from rfl) ?_
            refine z_sub X (show cdA 287 146 = some (.isub, 1, 0, 0, 0) from rfl) ?_
            exact w_iret X.1 q hRt rfl (ax_d X (show cdA 287 147 = some (.ireturn, 1, 0, 0, 0) from rfl)) (Nat.zero_le _) (Nat.zero_le _) ⟨_, rfl, Is81, Fs81, JRLx_s81, ((iI s81 107) - 1), rfl, ⟨by first | exact oq_c1e961c7 b82.1 | omega, by first | exact oq_86f8893e b82.2 | omega⟩, trivial⟩
          ·
            refine z_const X (show cdA 287 60 = some (.iconst (-1), 1, 0, 0, 0) from rfl) ?_
            exact w_iret X.1 q hRt rfl (ax_d X (show cdA 287 61 = some (.ireturn, 1, 0, 0, 0) from rfl)) (Nat.zero_le _) (Nat.zero_le _) ⟨_, rfl, Is60, Gs60, JRLx_s60, (-1), rfl, (by decide), trivial⟩
        ·
          refine z_const X (show cdA 287 49 = some (.iconst 0, 1, 0, 0, 0) from rfl) ?_
          exact w_iret X.1 q hRt rfl (ax_d X (show cdA 287 50 = some (.ireturn, 1, 0, 0, 0) from rfl)) (Nat.zero_le _) (Nat.zero_le _) ⟨_, rfl, Is60, Gs60, JRLx_s60, 0, rfl, (by decide), trivial⟩
      refine z_if_ne X (t := 41) (show cdA 287 34 = some (.ifCond .ne 7, 3, 1, 0, 0) from rfl) (by decide) hrs56 (fun g83 => ?_) (fun g83 => ?_)
      ·
        refine z_const X (show cdA 287 41 = some (.iconst 0, 1, 0, 0, 0) from rfl) ?_
        exact N58 _ (Or.inl ⟨g83, rfl⟩)
      ·
        refine z_const X (show cdA 287 37 = some (.iconst 1, 1, 0, 0, 0) from rfl) ?_
        refine z_goto X (t := 42) (show cdA 287 38 = some (.goto 4, 3, 0, 0, 0) from rfl) (by decide) ?_
        exact N58 _ (Or.inr (⟨g83, rfl⟩))
set_option maxRecDepth 4000 in
theorem k_isNoneFull (G : GX l s0 D tys a0 dT) (I : Bd s) (jNW : NW s)  : CT l s0 D A dT 283 (rmN 283) [.ref (A 179)] s (fun o t => Bd t ∧ Fm [77, 75, 78, 79, 80, 81] [161, 230] s t ∧ NW t ∧ ∃ e, o = .inl (some (.int (Int32.ofInt e))) ∧ rng e ∧ (e = 0 ∨ e = 1)) := by
  refine ct_of G (by decide) (Nat.le_of_ble_eq_true rfl) (fun k X E hRt hXt q => ?_)
  show WS k 0 [(0, .ref (A 179))] [] _ 0 0
  have F : Fm [77, 75, 78, 79, 80, 81] [161, 230] s s := fm_rf _ _ s
  have L2 : ∀ (n : Nat) (t : PS) (p : Int), Bd t → Fm [77, 75, 78, 79, 80, 81] [161, 230] s t → NW t → (0 ≤ p ∧ p ≤ 8) → (8 - p : Int).toNat < n → (∀ (t' : PS) (p' : Int), Bd t' → Fm [77, 75, 78, 79, 80, 81] [161, 230] s t' → NW t' → (0 ≤ p' ∧ p' ≤ 8) → WS k 42 [(0, .ref (A 179)), (1, .int (Int32.ofInt p'))] [] (Wd A dT t') 0 0) → WS k 2 [(0, .ref (A 179)), (1, .int (Int32.ofInt p))] [] (Wd A dT t) 0 0 := by
    intro n
    induction n with
    | zero =>
      intro t p I F jjNW hi hm kx
      exact absurd hm (Nat.not_lt_zero _)
    | succ n ih =>
      intro t p I F jjNW hi hm kx
      refine z_load_n X (x := p) (show cdA 283 2 = some (.iload_n 1, 1, 0, 0, 0) from rfl) (List.Mem.tail _ (List.Mem.head _)) ?_
      refine z_bipush X (show cdA 283 3 = some (.bipush 8, 2, 0, 0, 8) from rfl) ?_
      refine z_icmp_ge X (t := 42) (show cdA 283 5 = some (.if_icmp .ge 37, 3, 3, 0, 0) from rfl) (by decide) ⟨by first | exact oq_fa4e5087 hi.1 | omega, by first | exact oq_d3f5d874 hi.2 | omega⟩ (by decide) (fun g1001 => ?_) (fun g1001 => ?_)
      ·
        refine WS_lv (lv := [(0, .ref (A 179)), (1, .int (Int32.ofInt p))]) (List.forall_mem_cons.mpr ⟨(List.Mem.head _), (List.forall_mem_cons.mpr ⟨(List.Mem.tail _ (List.Mem.head _)), (fun q h => absurd h List.not_mem_nil)⟩)⟩) ?_
        exact kx _ p I F jjNW (by first | exact ⟨hi.1, hi.2⟩ | omega)
      ·
        refine z_aload_n X (x := A 179) (show cdA 283 8 = some (.aload_n 0, 1, 0, 0, 0) from rfl) (List.Mem.head _) ?_
        refine z_load_n X (x := p) (show cdA 283 9 = some (.iload_n 1, 1, 0, 0, 0) from rfl) (List.Mem.tail _ (List.Mem.head _)) ?_
        refine z_callV X 179 (rm := rmN 230) (As := [.int (Int32.ofInt p)]) (st := []) (show cdA 283 10 = some (.invokevirtual 327, 3, 230, 0, 0) from rfl) rfl (by decide) rfl (by rw [E.1, E.2.1, E.2.2.1]; exact k_setOf G I (by first | exact ⟨oq_fa4e5087 hi.1, oq_7bea7075 g1001⟩ | omega)) ⟨by rw [E.2.2.2]; exact (show (rmN 230).frames + 1 ≤ (rmN 283).frames by decide), by rw [E.2.2.2]; exact (show 8 + (mNL (miB 230) + 11) + (rmN 230).locals ≤ (rmN 283).locals by decide), by rw [E.2.2.2]; exact (show 0 + (rmN 230).cells ≤ (rmN 283).cells by decide), by rw [E.2.2.2]; exact (show 0 + (rmN 230).slots ≤ (rmN 283).slots by decide)⟩ (Nat.le_of_ble_eq_true rfl) (fun vv s1002 hq => ?_) (fun ee s1002 hq => ?_)
        rotate_left
        · obtain ⟨Is1002, Fs1002, hv, hps1002⟩ := hq; cases hv
        obtain ⟨Is1002, Fs1002, hv, hps1002⟩ := hq
        cases hv
        have Gs1002 := fm_ts F Fs1002 (by decide) (by decide)
        have JNW_s1002 : NW s1002 := NW_fm Fs1002 (by decide) jjNW
        show WS k 13 [(0, .ref (A 179)), (1, .int (Int32.ofInt p))] [] (Wd A dT s1002) 0 0
        refine z_aload_n X (x := A 179) (show cdA 283 13 = some (.aload_n 0, 1, 0, 0, 0) from rfl) (List.Mem.head _) ?_
        refine z_load_n X (x := p) (show cdA 283 14 = some (.iload_n 1, 1, 0, 0, 0) from rfl) (List.Mem.tail _ (List.Mem.head _)) ?_
        refine z_callV X 179 (rm := rmN 233) (As := [.int (Int32.ofInt p)]) (st := []) (show cdA 283 15 = some (.invokevirtual 351, 3, 233, 0, 0) from rfl) rfl (by decide) rfl (by rw [E.1, E.2.1, E.2.2.1]; exact k_hasCells G Is1002 (by first | exact ⟨oq_fa4e5087 hi.1, oq_7bea7075 g1001⟩ | omega)) ⟨by rw [E.2.2.2]; exact (show (rmN 233).frames + 1 ≤ (rmN 283).frames by decide), by rw [E.2.2.2]; exact (show 8 + (mNL (miB 233) + 11) + (rmN 233).locals ≤ (rmN 283).locals by decide), by rw [E.2.2.2]; exact (show 0 + (rmN 233).cells ≤ (rmN 283).cells by decide), by rw [E.2.2.2]; exact (show 0 + (rmN 233).slots ≤ (rmN 283).slots by decide)⟩ (Nat.le_of_ble_eq_true rfl) (fun vv s1004 hq => ?_) (fun ee s1004 hq => ?_)
        rotate_left
        · obtain ⟨Is1004, Fs1004, e1005, hv, hrs1004, hps1004⟩ := hq; cases hv
        obtain ⟨Is1004, Fs1004, e1005, hv, hrs1004, hps1004⟩ := hq
        cases hv
        have Gs1004 := fm_ts Gs1002 Fs1004 (by decide) (by decide)
        have JNW_s1004 : NW s1004 := NW_fm Fs1004 (by decide) JNW_s1002
        show WS k 18 [(0, .ref (A 179)), (1, .int (Int32.ofInt p))] [.int (Int32.ofInt e1005)] (Wd A dT s1004) 0 0
        refine z_if_eq X (t := 36) (show cdA 283 18 = some (.ifCond .eq 18, 3, 0, 0, 0) from rfl) (by decide) hrs1004 (fun g1006 => ?_) (fun g1006 => ?_)
        ·
          refine z_inc X (x := p) (lv' := [(1, .int (Int32.ofInt (p + 1))), (0, .ref (A 179))]) (show cdA 283 36 = some (.iinc 1 1, 3, 0, 0, 0) from rfl) (by decide) (List.Mem.tail _ (List.Mem.head _)) (fun _ h => h) ?_
          refine z_goto X (t := 2) (show cdA 283 39 = some (.goto (-37), 3, 0, 0, 0) from rfl) (by decide) ?_
          refine WS_lv (lv := [(0, .ref (A 179)), (1, .int (Int32.ofInt (p + 1)))]) (List.forall_mem_cons.mpr ⟨(List.Mem.tail _ (List.Mem.head _)), (List.forall_mem_cons.mpr ⟨(List.Mem.head _), (fun q h => absurd h List.not_mem_nil)⟩)⟩) ?_
          exact ih _ (p + 1) Is1004 Gs1004 JNW_s1004 (by first | exact ⟨oq_54f49eb5 hi.1, oq_0c7b19c3 g1001⟩ | omega) (by first | exact qk_me hm (by decide) (oq_9f368f35 g1001) | omega) kx
        ·
          refine z_aload_n X (x := A 179) (show cdA 283 21 = some (.aload_n 0, 1, 0, 0, 0) from rfl) (List.Mem.head _) ?_
          refine z_callV X 179 (rm := rmN 228) (As := []) (st := []) (show cdA 283 22 = some (.invokevirtual 324, 3, 228, 0, 0) from rfl) rfl (by decide) rfl (by rw [E.1, E.2.1, E.2.2.1]; exact k_load G Is1004 JNW_s1004 ) ⟨by rw [E.2.2.2]; exact (show (rmN 228).frames + 1 ≤ (rmN 283).frames by decide), by rw [E.2.2.2]; exact (show 8 + (mNL (miB 228) + 11) + (rmN 228).locals ≤ (rmN 283).locals by decide), by rw [E.2.2.2]; exact (show 0 + (rmN 228).cells ≤ (rmN 283).cells by decide), by rw [E.2.2.2]; exact (show 0 + (rmN 228).slots ≤ (rmN 283).slots by decide)⟩ (Nat.le_of_ble_eq_true rfl) (fun vv s1007 hq => ?_) (fun ee s1007 hq => ?_)
          rotate_left
          · obtain ⟨Is1007, Fs1007, JNW_s1007, e1008, hv, hrs1007, hps1007⟩ := hq; cases hv
          obtain ⟨Is1007, Fs1007, JNW_s1007, e1008, hv, hrs1007, hps1007⟩ := hq
          cases hv
          have Gs1007 := fm_ts Gs1004 Fs1007 (by decide) (by decide)
          have JNW_s1007 : NW s1007 := NW_fm Fs1007 (by decide) JNW_s1004
          show WS k 25 [(0, .ref (A 179)), (1, .int (Int32.ofInt p))] [.int (Int32.ofInt e1008)] (Wd A dT s1007) 0 0
          refine z_aload_n X (x := A 179) (show cdA 283 25 = some (.aload_n 0, 1, 0, 0, 0) from rfl) (List.Mem.head _) ?_
          refine s_getR X 179 (show cdA 283 26 = some (.getfield 73, 3, 12, 36, 0) from rfl) (by decide) rfl rfl ?_
          refine z_load_n X (x := p) (show cdA 283 29 = some (.iload_n 1, 1, 0, 0, 0) from rfl) (List.Mem.tail _ (List.Mem.head _)) ?_
          refine z_ald X 257 (show cdA 283 30 = some (.iaload, 1, 0, 0, 0) from rfl) (by decide) rfl (by first | exact hi.1 | omega) (show p < 8 by first | exact g1001 | omega) (by decide) ?_
          have b1009 : (0 : Int) ≤ iC s1007 229 (p).toNat ∧ iC s1007 229 (p).toNat ≤ 9999 := Is1007.2 229 _ (show (p).toNat < 8 by first | exact oq_db4b3b8b g1001 | omega)
          refine z_icmp_le X (t := 36) (show cdA 283 31 = some (.if_icmp .le 5, 3, 5, 0, 0) from rfl) (by decide) hrs1007 (rng_to _) (fun g1010 => ?_) (fun g1010 => ?_)
          ·
            refine z_inc X (x := p) (lv' := [(1, .int (Int32.ofInt (p + 1))), (0, .ref (A 179))]) (show cdA 283 36 = some (.iinc 1 1, 3, 0, 0, 0) from rfl) (by decide) (List.Mem.tail _ (List.Mem.head _)) (fun _ h => h) ?_
            refine z_goto X (t := 2) (show cdA 283 39 = some (.goto (-37), 3, 0, 0, 0) from rfl) (by decide) ?_
            refine WS_lv (lv := [(0, .ref (A 179)), (1, .int (Int32.ofInt (p + 1)))]) (List.forall_mem_cons.mpr ⟨(List.Mem.tail _ (List.Mem.head _)), (List.forall_mem_cons.mpr ⟨(List.Mem.head _), (fun q h => absurd h List.not_mem_nil)⟩)⟩) ?_
            exact ih _ (p + 1) Is1007 Gs1007 JNW_s1007 (by first | exact ⟨oq_54f49eb5 hi.1, oq_0c7b19c3 g1001⟩ | omega) (by first | exact qk_me hm (by decide) (oq_9f368f35 g1001) | omega) kx
          ·
            refine z_const X (show cdA 283 34 = some (.iconst 0, 1, 0, 0, 0) from rfl) ?_
            exact w_iret X.1 q hRt (nar_ret (by first | exact Or.inl (by decide) | omega)) (ax_d X (show cdA 283 35 = some (.ireturn, 1, 0, 0, 0) from rfl)) (Nat.zero_le _) (Nat.zero_le _) ⟨_, rfl, Is1007, Gs1007, JNW_s1007, 0, rfl, (by decide), by first | exact Or.inl (by decide) | omega⟩
  refine z_const X (show cdA 283 0 = some (.iconst 0, 1, 0, 0, 0) from rfl) ?_
  refine z_store_n X (lv' := [(1, .int (Int32.ofInt 0)), (0, .ref (A 179))]) (show cdA 283 1 = some (.istore_n 1, 1, 0, 0, 0) from rfl) (by decide) (fun _ h => h) ?_
  refine WS_lv (lv := [(0, .ref (A 179)), (1, .int (Int32.ofInt 0))]) (List.forall_mem_cons.mpr ⟨(List.Mem.tail _ (List.Mem.head _)), (List.forall_mem_cons.mpr ⟨(List.Mem.head _), (fun q h => absurd h List.not_mem_nil)⟩)⟩) ?_
  refine L2 ((8 - 0 : Int).toNat + 1) s 0 I F jNW (by first | exact ⟨by decide, by decide⟩ | omega) (Nat.lt_succ_self _) ?_
  intro s1 x2 Is1 Fs1 JNW_s1 hs1
  refine z_const X (show cdA 283 42 = some (.iconst 1, 1, 0, 0, 0) from rfl) ?_
  exact w_iret X.1 q hRt (nar_ret (by first | exact Or.inr (by decide) | omega)) (ax_d X (show cdA 283 43 = some (.ireturn, 1, 0, 0, 0) from rfl)) (Nat.zero_le _) (Nat.zero_le _) ⟨_, rfl, Is1, Fs1, JNW_s1, 1, rfl, (by decide), by first | exact Or.inr (by decide) | omega⟩
end M56
