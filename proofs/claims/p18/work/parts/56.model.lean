/-! The model: peaks -/
section M56
variable {l : Launch} {s0 : State} {D : va_G} {tys : List (ClassId × FieldType)} {a0 : Array Value} {A : Nat → Nat} {dT : Nat → ClassId} {s : PS}
theorem k_peakOfSet (G : GX l s0 D tys a0 dT) (I : Bd s) (jRLx : RLx s)  : CT l s0 D A dT 231 (rmN 231) [.ref (A 179)] s (fun o t => Bd t ∧ Fm [77, 75, 78, 79, 80, 81] [202, 204, 205, 206, 207, 208, 209, 210, 211, 212, 213, 214, 215, 216, 217, 218, 219, 220, 221, 222, 223, 224, 225, 226, 227, 203, 161] s t ∧ RLx t ∧ ∃ e, o = .inl (some (.int (Int32.ofInt e))) ∧ rng e ∧ (True)) := by
  refine ct_of G (by decide) (Nat.le_of_ble_eq_true rfl) (fun k X E hRt hXt q => ?_)
  show WS k 0 [(0, .ref (A 179))] [] _ 0 0
  have F : Fm [77, 75, 78, 79, 80, 81] [202, 204, 205, 206, 207, 208, 209, 210, 211, 212, 213, 214, 215, 216, 217, 218, 219, 220, 221, 222, 223, 224, 225, 226, 227, 203, 161] s s := fm_rf _ _ s
  have L8 : ∀ (n : Nat) (t : PS) (pk qq : Int), Bd t → Fm [77, 75, 78, 79, 80, 81] [202, 204, 205, 206, 207, 208, 209, 210, 211, 212, 213, 214, 215, 216, 217, 218, 219, 220, 221, 222, 223, 224, 225, 226, 227, 203, 161] s t → RLx t → (NQ t) → (rng pk ∧ 0 ≤ qq ∧ qq ≤ 24) → 24 - qq ≤ n → (∀ (t' : PS) (pk' qq' : Int), Bd t' → Fm [77, 75, 78, 79, 80, 81] [202, 204, 205, 206, 207, 208, 209, 210, 211, 212, 213, 214, 215, 216, 217, 218, 219, 220, 221, 222, 223, 224, 225, 226, 227, 203, 161] s t' → RLx t' → (NQ t') → (rng pk' ∧ 0 ≤ qq' ∧ qq' ≤ 24) → WS k 45 [(0, .ref (A 179)), (1, .int (Int32.ofInt pk')), (2, .int (Int32.ofInt qq'))] [] (Wd A dT t') 0 0) → WS k 8 [(0, .ref (A 179)), (1, .int (Int32.ofInt pk)), (2, .int (Int32.ofInt qq))] [] (Wd A dT t) 0 0 := by
    intro n
    induction n with
    | zero =>
      intro t pk qq I F jjRLx hq hi hm kx
      refine z_load_n X (x := qq) (show cdA 231 8 = some (.iload_n 2, 1, 0, 0, 0) from rfl) (List.Mem.tail _ (List.Mem.tail _ (List.Mem.head _))) ?_
      refine z_bipush X (show cdA 231 9 = some (.bipush 24, 2, 0, 0, 24) from rfl) ?_
      refine z_icmp_ge X (t := 45) (show cdA 231 11 = some (.if_icmp .ge 34, 3, 3, 0, 0) from rfl) (by decide) ⟨by omega, by omega⟩ ⟨by omega, by omega⟩ (fun g1001 => ?_) (fun g1001 => ?_)
      ·
        refine WS_lv (lv := [(0, .ref (A 179)), (1, .int (Int32.ofInt pk)), (2, .int (Int32.ofInt qq))]) (List.forall_mem_cons.mpr ⟨(List.Mem.head _), (List.forall_mem_cons.mpr ⟨(List.Mem.tail _ (List.Mem.head _)), (List.forall_mem_cons.mpr ⟨(List.Mem.tail _ (List.Mem.tail _ (List.Mem.head _))), (fun q h => absurd h List.not_mem_nil)⟩)⟩)⟩) ?_
        exact kx _ pk qq I F jjRLx hq (by omega)
      ·
        refine z_aload_n X (x := A 179) (show cdA 231 14 = some (.aload_n 0, 1, 0, 0, 0) from rfl) (List.Mem.head _) ?_
        refine z_load_n X (x := qq) (show cdA 231 15 = some (.iload_n 2, 1, 0, 0, 0) from rfl) (List.Mem.tail _ (List.Mem.tail _ (List.Mem.head _))) ?_
        refine z_callV X 179 (rm := rmN 224) (As := [.int (Int32.ofInt qq)]) (st := []) (show cdA 231 16 = some (.invokevirtual 309, 3, 224, 0, 0) from rfl) rfl (by decide) rfl (by rw [E.1, E.2.1, E.2.2.1]; exact k_numbersIn G I (by omega)) ⟨by rw [E.2.2.2]; exact (show (rmN 224).frames + 1 ≤ (rmN 231).frames by decide), by rw [E.2.2.2]; exact (show 8 + (mNL (miB 224) + 11) + (rmN 224).locals ≤ (rmN 231).locals by decide), by rw [E.2.2.2]; exact (show 0 + (rmN 224).cells ≤ (rmN 231).cells by decide), by rw [E.2.2.2]; exact (show 0 + (rmN 224).slots ≤ (rmN 231).slots by decide)⟩ (Nat.le_of_ble_eq_true rfl) (fun vv s1002 hq => ?_) (fun ee s1002 hq => ?_)
        rotate_left
        · obtain ⟨Is1002, Fs1002, hv, hps1002⟩ := hq; cases hv
        obtain ⟨Is1002, Fs1002, hv, hps1002⟩ := hq
        cases hv
        have Gs1002 := fm_ts F Fs1002 (by decide) (by decide)
        have JRLx_s1002 : RLx s1002 := RLx_fm Fs1002 (by decide) jjRLx
        have JNQ_s1002 : NQ s1002 := NQ_fm Fs1002 (by decide) hq
        show WS k 19 [(0, .ref (A 179)), (1, .int (Int32.ofInt pk)), (2, .int (Int32.ofInt qq))] [] (Wd A dT s1002) 0 0
        refine z_aload_n X (x := A 179) (show cdA 231 19 = some (.aload_n 0, 1, 0, 0, 0) from rfl) (List.Mem.head _) ?_
        have JNW_s1002 : NW s1002 := NW_of JNQ_s1002 JRLx_s1002
        refine z_callV X 179 (rm := rmN 228) (As := []) (st := []) (show cdA 231 20 = some (.invokevirtual 324, 3, 228, 0, 0) from rfl) rfl (by decide) rfl (by rw [E.1, E.2.1, E.2.2.1]; exact k_load G Is1002 JNW_s1002 ) ⟨by rw [E.2.2.2]; exact (show (rmN 228).frames + 1 ≤ (rmN 231).frames by decide), by rw [E.2.2.2]; exact (show 8 + (mNL (miB 228) + 11) + (rmN 228).locals ≤ (rmN 231).locals by decide), by rw [E.2.2.2]; exact (show 0 + (rmN 228).cells ≤ (rmN 231).cells by decide), by rw [E.2.2.2]; exact (show 0 + (rmN 228).slots ≤ (rmN 231).slots by decide)⟩ (Nat.le_of_ble_eq_true rfl) (fun vv s1004 hq => ?_) (fun ee s1004 hq => ?_)
        rotate_left
        · obtain ⟨Is1004, Fs1004, JNW_s1004, e1005, hv, hrs1004, hps1004⟩ := hq; cases hv
        obtain ⟨Is1004, Fs1004, JNW_s1004, e1005, hv, hrs1004, hps1004⟩ := hq
        cases hv
        have Gs1004 := fm_ts Gs1002 Fs1004 (by decide) (by decide)
        have JRLx_s1004 : RLx s1004 := RLx_fm Fs1004 (by decide) JRLx_s1002
        have JNQ_s1004 : NQ s1004 := NQ_fm Fs1004 (by decide) JNQ_s1002
        have JNW_s1004 : NW s1004 := NW_fm Fs1004 (by decide) JNW_s1002
        show WS k 23 [(0, .ref (A 179)), (1, .int (Int32.ofInt pk)), (2, .int (Int32.ofInt qq))] [.int (Int32.ofInt e1005)] (Wd A dT s1004) 0 0
        refine z_store_n X (lv' := [(3, .int (Int32.ofInt e1005)), (0, .ref (A 179)), (1, .int (Int32.ofInt pk)), (2, .int (Int32.ofInt qq))]) (show cdA 231 23 = some (.istore_n 3, 1, 0, 0, 0) from rfl) (by decide) (fun _ h => h) ?_
        refine z_load_n X (x := qq) (show cdA 231 24 = some (.iload_n 2, 1, 0, 0, 0) from rfl) (List.Mem.tail _ (List.Mem.tail _ (List.Mem.tail _ (List.Mem.head _)))) ?_
        refine z_if_eq X (t := 33) (show cdA 231 25 = some (.ifCond .eq 8, 3, 0, 0, 0) from rfl) (by decide) ⟨by omega, by omega⟩ (fun g1006 => ?_) (fun g1006 => ?_)
        ·
          refine z_load_n X (x := e1005) (show cdA 231 33 = some (.iload_n 3, 1, 0, 0, 0) from rfl) (List.Mem.head _) ?_
          refine z_goto X (t := 38) (show cdA 231 34 = some (.goto 4, 3, 0, 0, 0) from rfl) (by decide) ?_
          refine z_store_n X (lv' := [(1, .int (Int32.ofInt e1005)), (3, .int (Int32.ofInt e1005)), (0, .ref (A 179)), (2, .int (Int32.ofInt qq))]) (show cdA 231 38 = some (.istore_n 1, 1, 0, 0, 0) from rfl) (by decide) (fun _ h => h) ?_
          refine z_inc X (x := qq) (lv' := [(2, .int (Int32.ofInt (qq + 1))), (1, .int (Int32.ofInt e1005)), (3, .int (Int32.ofInt e1005)), (0, .ref (A 179))]) (show cdA 231 39 = some (.iinc 2 1, 3, 0, 0, 0) from rfl) (by decide) (List.Mem.tail _ (List.Mem.tail _ (List.Mem.tail _ (List.Mem.head _)))) (fun _ h => h) ?_
          refine z_goto X (t := 8) (show cdA 231 42 = some (.goto (-34), 3, 0, 0, 0) from rfl) (by decide) ?_
          exfalso
          omega
        ·
          refine z_load_n X (x := e1005) (show cdA 231 28 = some (.iload_n 3, 1, 0, 0, 0) from rfl) (List.Mem.head _) ?_
          refine z_load_n X (x := pk) (show cdA 231 29 = some (.iload_n 1, 1, 0, 0, 0) from rfl) (List.Mem.tail _ (List.Mem.tail _ (List.Mem.head _))) ?_
          refine z_icmp_le X (t := 37) (show cdA 231 30 = some (.if_icmp .le 7, 3, 5, 0, 0) from rfl) (by decide) ⟨by omega, by omega⟩ ⟨by omega, by omega⟩ (fun g1007 => ?_) (fun g1007 => ?_)
          ·
            refine z_load_n X (x := pk) (show cdA 231 37 = some (.iload_n 1, 1, 0, 0, 0) from rfl) (List.Mem.tail _ (List.Mem.tail _ (List.Mem.head _))) ?_
            refine z_store_n X (lv' := [(1, .int (Int32.ofInt pk)), (3, .int (Int32.ofInt e1005)), (0, .ref (A 179)), (2, .int (Int32.ofInt qq))]) (show cdA 231 38 = some (.istore_n 1, 1, 0, 0, 0) from rfl) (by decide) (fun _ h => h) ?_
            refine z_inc X (x := qq) (lv' := [(2, .int (Int32.ofInt (qq + 1))), (1, .int (Int32.ofInt pk)), (3, .int (Int32.ofInt e1005)), (0, .ref (A 179))]) (show cdA 231 39 = some (.iinc 2 1, 3, 0, 0, 0) from rfl) (by decide) (List.Mem.tail _ (List.Mem.tail _ (List.Mem.tail _ (List.Mem.head _)))) (fun _ h => h) ?_
            refine z_goto X (t := 8) (show cdA 231 42 = some (.goto (-34), 3, 0, 0, 0) from rfl) (by decide) ?_
            exfalso
            omega
          ·
            refine z_load_n X (x := e1005) (show cdA 231 33 = some (.iload_n 3, 1, 0, 0, 0) from rfl) (List.Mem.head _) ?_
            refine z_goto X (t := 38) (show cdA 231 34 = some (.goto 4, 3, 0, 0, 0) from rfl) (by decide) ?_
            refine z_store_n X (lv' := [(1, .int (Int32.ofInt e1005)), (3, .int (Int32.ofInt e1005)), (0, .ref (A 179)), (2, .int (Int32.ofInt qq))]) (show cdA 231 38 = some (.istore_n 1, 1, 0, 0, 0) from rfl) (by decide) (fun _ h => h) ?_
            refine z_inc X (x := qq) (lv' := [(2, .int (Int32.ofInt (qq + 1))), (1, .int (Int32.ofInt e1005)), (3, .int (Int32.ofInt e1005)), (0, .ref (A 179))]) (show cdA 231 39 = some (.iinc 2 1, 3, 0, 0, 0) from rfl) (by decide) (List.Mem.tail _ (List.Mem.tail _ (List.Mem.tail _ (List.Mem.head _)))) (fun _ h => h) ?_
            refine z_goto X (t := 8) (show cdA 231 42 = some (.goto (-34), 3, 0, 0, 0) from rfl) (by decide) ?_
            exfalso
            omega
    | succ n ih =>
      intro t pk qq I F jjRLx hq hi hm kx
      refine z_load_n X (x := qq) (show cdA 231 8 = some (.iload_n 2, 1, 0, 0, 0) from rfl) (List.Mem.tail _ (List.Mem.tail _ (List.Mem.head _))) ?_
      refine z_bipush X (show cdA 231 9 = some (.bipush 24, 2, 0, 0, 24) from rfl) ?_
      refine z_icmp_ge X (t := 45) (show cdA 231 11 = some (.if_icmp .ge 34, 3, 3, 0, 0) from rfl) (by decide) ⟨by omega, by omega⟩ ⟨by omega, by omega⟩ (fun g1001 => ?_) (fun g1001 => ?_)
      ·
        refine WS_lv (lv := [(0, .ref (A 179)), (1, .int (Int32.ofInt pk)), (2, .int (Int32.ofInt qq))]) (List.forall_mem_cons.mpr ⟨(List.Mem.head _), (List.forall_mem_cons.mpr ⟨(List.Mem.tail _ (List.Mem.head _)), (List.forall_mem_cons.mpr ⟨(List.Mem.tail _ (List.Mem.tail _ (List.Mem.head _))), (fun q h => absurd h List.not_mem_nil)⟩)⟩)⟩) ?_
        exact kx _ pk qq I F jjRLx hq (by omega)
      ·
        refine z_aload_n X (x := A 179) (show cdA 231 14 = some (.aload_n 0, 1, 0, 0, 0) from rfl) (List.Mem.head _) ?_
        refine z_load_n X (x := qq) (show cdA 231 15 = some (.iload_n 2, 1, 0, 0, 0) from rfl) (List.Mem.tail _ (List.Mem.tail _ (List.Mem.head _))) ?_
        refine z_callV X 179 (rm := rmN 224) (As := [.int (Int32.ofInt qq)]) (st := []) (show cdA 231 16 = some (.invokevirtual 309, 3, 224, 0, 0) from rfl) rfl (by decide) rfl (by rw [E.1, E.2.1, E.2.2.1]; exact k_numbersIn G I (by omega)) ⟨by rw [E.2.2.2]; exact (show (rmN 224).frames + 1 ≤ (rmN 231).frames by decide), by rw [E.2.2.2]; exact (show 8 + (mNL (miB 224) + 11) + (rmN 224).locals ≤ (rmN 231).locals by decide), by rw [E.2.2.2]; exact (show 0 + (rmN 224).cells ≤ (rmN 231).cells by decide), by rw [E.2.2.2]; exact (show 0 + (rmN 224).slots ≤ (rmN 231).slots by decide)⟩ (Nat.le_of_ble_eq_true rfl) (fun vv s1002 hq => ?_) (fun ee s1002 hq => ?_)
        rotate_left
        · obtain ⟨Is1002, Fs1002, hv, hps1002⟩ := hq; cases hv
        obtain ⟨Is1002, Fs1002, hv, hps1002⟩ := hq
        cases hv
        have Gs1002 := fm_ts F Fs1002 (by decide) (by decide)
        have JRLx_s1002 : RLx s1002 := RLx_fm Fs1002 (by decide) jjRLx
        have JNQ_s1002 : NQ s1002 := NQ_fm Fs1002 (by decide) hq
        show WS k 19 [(0, .ref (A 179)), (1, .int (Int32.ofInt pk)), (2, .int (Int32.ofInt qq))] [] (Wd A dT s1002) 0 0
        refine z_aload_n X (x := A 179) (show cdA 231 19 = some (.aload_n 0, 1, 0, 0, 0) from rfl) (List.Mem.head _) ?_
        have JNW_s1002 : NW s1002 := NW_of JNQ_s1002 JRLx_s1002
        refine z_callV X 179 (rm := rmN 228) (As := []) (st := []) (show cdA 231 20 = some (.invokevirtual 324, 3, 228, 0, 0) from rfl) rfl (by decide) rfl (by rw [E.1, E.2.1, E.2.2.1]; exact k_load G Is1002 JNW_s1002 ) ⟨by rw [E.2.2.2]; exact (show (rmN 228).frames + 1 ≤ (rmN 231).frames by decide), by rw [E.2.2.2]; exact (show 8 + (mNL (miB 228) + 11) + (rmN 228).locals ≤ (rmN 231).locals by decide), by rw [E.2.2.2]; exact (show 0 + (rmN 228).cells ≤ (rmN 231).cells by decide), by rw [E.2.2.2]; exact (show 0 + (rmN 228).slots ≤ (rmN 231).slots by decide)⟩ (Nat.le_of_ble_eq_true rfl) (fun vv s1004 hq => ?_) (fun ee s1004 hq => ?_)
        rotate_left
        · obtain ⟨Is1004, Fs1004, JNW_s1004, e1005, hv, hrs1004, hps1004⟩ := hq; cases hv
        obtain ⟨Is1004, Fs1004, JNW_s1004, e1005, hv, hrs1004, hps1004⟩ := hq
        cases hv
        have Gs1004 := fm_ts Gs1002 Fs1004 (by decide) (by decide)
        have JRLx_s1004 : RLx s1004 := RLx_fm Fs1004 (by decide) JRLx_s1002
        have JNQ_s1004 : NQ s1004 := NQ_fm Fs1004 (by decide) JNQ_s1002
        have JNW_s1004 : NW s1004 := NW_fm Fs1004 (by decide) JNW_s1002
        show WS k 23 [(0, .ref (A 179)), (1, .int (Int32.ofInt pk)), (2, .int (Int32.ofInt qq))] [.int (Int32.ofInt e1005)] (Wd A dT s1004) 0 0
        refine z_store_n X (lv' := [(3, .int (Int32.ofInt e1005)), (0, .ref (A 179)), (1, .int (Int32.ofInt pk)), (2, .int (Int32.ofInt qq))]) (show cdA 231 23 = some (.istore_n 3, 1, 0, 0, 0) from rfl) (by decide) (fun _ h => h) ?_
        refine z_load_n X (x := qq) (show cdA 231 24 = some (.iload_n 2, 1, 0, 0, 0) from rfl) (List.Mem.tail _ (List.Mem.tail _ (List.Mem.tail _ (List.Mem.head _)))) ?_
        refine z_if_eq X (t := 33) (show cdA 231 25 = some (.ifCond .eq 8, 3, 0, 0, 0) from rfl) (by decide) ⟨by omega, by omega⟩ (fun g1006 => ?_) (fun g1006 => ?_)
        ·
          refine z_load_n X (x := e1005) (show cdA 231 33 = some (.iload_n 3, 1, 0, 0, 0) from rfl) (List.Mem.head _) ?_
          refine z_goto X (t := 38) (show cdA 231 34 = some (.goto 4, 3, 0, 0, 0) from rfl) (by decide) ?_
          refine z_store_n X (lv' := [(1, .int (Int32.ofInt e1005)), (3, .int (Int32.ofInt e1005)), (0, .ref (A 179)), (2, .int (Int32.ofInt qq))]) (show cdA 231 38 = some (.istore_n 1, 1, 0, 0, 0) from rfl) (by decide) (fun _ h => h) ?_
          refine z_inc X (x := qq) (lv' := [(2, .int (Int32.ofInt (qq + 1))), (1, .int (Int32.ofInt e1005)), (3, .int (Int32.ofInt e1005)), (0, .ref (A 179))]) (show cdA 231 39 = some (.iinc 2 1, 3, 0, 0, 0) from rfl) (by decide) (List.Mem.tail _ (List.Mem.tail _ (List.Mem.tail _ (List.Mem.head _)))) (fun _ h => h) ?_
          refine z_goto X (t := 8) (show cdA 231 42 = some (.goto (-34), 3, 0, 0, 0) from rfl) (by decide) ?_
          refine WS_lv (lv := [(0, .ref (A 179)), (1, .int (Int32.ofInt e1005)), (2, .int (Int32.ofInt (qq + 1)))]) (List.forall_mem_cons.mpr ⟨(List.Mem.tail _ (List.Mem.tail _ (List.Mem.tail _ (List.Mem.head _)))), (List.forall_mem_cons.mpr ⟨(List.Mem.tail _ (List.Mem.head _)), (List.forall_mem_cons.mpr ⟨(List.Mem.head _), (fun q h => absurd h List.not_mem_nil)⟩)⟩)⟩) ?_
          exact ih _ e1005 (qq + 1) Is1004 Gs1004 JRLx_s1004 JNQ_s1004 (by omega) (by omega) kx
        ·
          refine z_load_n X (x := e1005) (show cdA 231 28 = some (.iload_n 3, 1, 0, 0, 0) from rfl) (List.Mem.head _) ?_
          refine z_load_n X (x := pk) (show cdA 231 29 = some (.iload_n 1, 1, 0, 0, 0) from rfl) (List.Mem.tail _ (List.Mem.tail _ (List.Mem.head _))) ?_
          refine z_icmp_le X (t := 37) (show cdA 231 30 = some (.if_icmp .le 7, 3, 5, 0, 0) from rfl) (by decide) ⟨by omega, by omega⟩ ⟨by omega, by omega⟩ (fun g1007 => ?_) (fun g1007 => ?_)
          ·
            refine z_load_n X (x := pk) (show cdA 231 37 = some (.iload_n 1, 1, 0, 0, 0) from rfl) (List.Mem.tail _ (List.Mem.tail _ (List.Mem.head _))) ?_
            refine z_store_n X (lv' := [(1, .int (Int32.ofInt pk)), (3, .int (Int32.ofInt e1005)), (0, .ref (A 179)), (2, .int (Int32.ofInt qq))]) (show cdA 231 38 = some (.istore_n 1, 1, 0, 0, 0) from rfl) (by decide) (fun _ h => h) ?_
            refine z_inc X (x := qq) (lv' := [(2, .int (Int32.ofInt (qq + 1))), (1, .int (Int32.ofInt pk)), (3, .int (Int32.ofInt e1005)), (0, .ref (A 179))]) (show cdA 231 39 = some (.iinc 2 1, 3, 0, 0, 0) from rfl) (by decide) (List.Mem.tail _ (List.Mem.tail _ (List.Mem.tail _ (List.Mem.head _)))) (fun _ h => h) ?_
            refine z_goto X (t := 8) (show cdA 231 42 = some (.goto (-34), 3, 0, 0, 0) from rfl) (by decide) ?_
            refine WS_lv (lv := [(0, .ref (A 179)), (1, .int (Int32.ofInt pk)), (2, .int (Int32.ofInt (qq + 1)))]) (List.forall_mem_cons.mpr ⟨(List.Mem.tail _ (List.Mem.tail _ (List.Mem.tail _ (List.Mem.head _)))), (List.forall_mem_cons.mpr ⟨(List.Mem.tail _ (List.Mem.head _)), (List.forall_mem_cons.mpr ⟨(List.Mem.head _), (fun q h => absurd h List.not_mem_nil)⟩)⟩)⟩) ?_
            exact ih _ pk (qq + 1) Is1004 Gs1004 JRLx_s1004 JNQ_s1004 (by omega) (by omega) kx
          ·
            refine z_load_n X (x := e1005) (show cdA 231 33 = some (.iload_n 3, 1, 0, 0, 0) from rfl) (List.Mem.head _) ?_
            refine z_goto X (t := 38) (show cdA 231 34 = some (.goto 4, 3, 0, 0, 0) from rfl) (by decide) ?_
            refine z_store_n X (lv' := [(1, .int (Int32.ofInt e1005)), (3, .int (Int32.ofInt e1005)), (0, .ref (A 179)), (2, .int (Int32.ofInt qq))]) (show cdA 231 38 = some (.istore_n 1, 1, 0, 0, 0) from rfl) (by decide) (fun _ h => h) ?_
            refine z_inc X (x := qq) (lv' := [(2, .int (Int32.ofInt (qq + 1))), (1, .int (Int32.ofInt e1005)), (3, .int (Int32.ofInt e1005)), (0, .ref (A 179))]) (show cdA 231 39 = some (.iinc 2 1, 3, 0, 0, 0) from rfl) (by decide) (List.Mem.tail _ (List.Mem.tail _ (List.Mem.tail _ (List.Mem.head _)))) (fun _ h => h) ?_
            refine z_goto X (t := 8) (show cdA 231 42 = some (.goto (-34), 3, 0, 0, 0) from rfl) (by decide) ?_
            refine WS_lv (lv := [(0, .ref (A 179)), (1, .int (Int32.ofInt e1005)), (2, .int (Int32.ofInt (qq + 1)))]) (List.forall_mem_cons.mpr ⟨(List.Mem.tail _ (List.Mem.tail _ (List.Mem.tail _ (List.Mem.head _)))), (List.forall_mem_cons.mpr ⟨(List.Mem.tail _ (List.Mem.head _)), (List.forall_mem_cons.mpr ⟨(List.Mem.head _), (fun q h => absurd h List.not_mem_nil)⟩)⟩)⟩) ?_
            exact ih _ e1005 (qq + 1) Is1004 Gs1004 JRLx_s1004 JNQ_s1004 (by omega) (by omega) kx
  refine z_const X (show cdA 231 0 = some (.iconst 0, 1, 0, 0, 0) from rfl) ?_
  refine z_store_n X (lv' := [(1, .int (Int32.ofInt 0)), (0, .ref (A 179))]) (show cdA 231 1 = some (.istore_n 1, 1, 0, 0, 0) from rfl) (by decide) (fun _ h => h) ?_
  refine z_aload_n X (x := A 179) (show cdA 231 2 = some (.aload_n 0, 1, 0, 0, 0) from rfl) (List.Mem.tail _ (List.Mem.head _)) ?_
  refine z_callV X 179 (rm := rmN 223) (As := []) (st := []) (show cdA 231 3 = some (.invokevirtual 306, 3, 223, 0, 0) from rfl) rfl (by decide) rfl (by rw [E.1, E.2.1, E.2.2.1]; exact k_waysAsTold G I jRLx ) ⟨by rw [E.2.2.2]; exact (show (rmN 223).frames + 1 ≤ (rmN 231).frames by decide), by rw [E.2.2.2]; exact (show 8 + (mNL (miB 223) + 11) + (rmN 223).locals ≤ (rmN 231).locals by decide), by rw [E.2.2.2]; exact (show 0 + (rmN 223).cells ≤ (rmN 231).cells by decide), by rw [E.2.2.2]; exact (show 0 + (rmN 223).slots ≤ (rmN 231).slots by decide)⟩ (Nat.le_of_ble_eq_true rfl) (fun vv s1 hq => ?_) (fun ee s1 hq => ?_)
  rotate_left
  · obtain ⟨Is1, Fs1, JRLx_s1, JNQ_s1, hv, hps1⟩ := hq; cases hv
  obtain ⟨Is1, Fs1, JRLx_s1, JNQ_s1, hv, hps1⟩ := hq
  cases hv
  have Gs1 := fm_ts F Fs1 (by decide) (by decide)
  have JRLx_s1 : RLx s1 := RLx_fm Fs1 (by decide) jRLx
  show WS k 6 [(1, .int (Int32.ofInt 0)), (0, .ref (A 179))] [] (Wd A dT s1) 0 0
  refine z_const X (show cdA 231 6 = some (.iconst 0, 1, 0, 0, 0) from rfl) ?_
  refine z_store_n X (lv' := [(2, .int (Int32.ofInt 0)), (1, .int (Int32.ofInt 0)), (0, .ref (A 179))]) (show cdA 231 7 = some (.istore_n 2, 1, 0, 0, 0) from rfl) (by decide) (fun _ h => h) ?_
  refine WS_lv (lv := [(0, .ref (A 179)), (1, .int (Int32.ofInt 0)), (2, .int (Int32.ofInt 0))]) (List.forall_mem_cons.mpr ⟨(List.Mem.tail _ (List.Mem.tail _ (List.Mem.head _))), (List.forall_mem_cons.mpr ⟨(List.Mem.tail _ (List.Mem.head _)), (List.forall_mem_cons.mpr ⟨(List.Mem.head _), (fun q h => absurd h List.not_mem_nil)⟩)⟩)⟩) ?_
  refine L8 ((24 - 0 : Int)).toNat s1 0 0 Is1 Gs1 JRLx_s1 JNQ_s1 (by omega) (by omega) ?_
  intro s3 x4 x5 Is3 Fs3 JRLx_s3 Qs3 hs3
  refine z_load_n X (x := x4) (show cdA 231 45 = some (.iload_n 1, 1, 0, 0, 0) from rfl) (List.Mem.tail _ (List.Mem.head _)) ?_
  exact w_iret X.1 q hRt rfl (ax_d X (show cdA 231 46 = some (.ireturn, 1, 0, 0, 0) from rfl)) (Nat.zero_le _) (Nat.zero_le _) ⟨_, rfl, Is3, Fs3, JRLx_s3, x4, rfl, ⟨by omega, by omega⟩, trivial⟩
theorem k_peakOfPiece (G : GX l s0 D tys a0 dT) (I : Bd s) (jRLx : RLx s) {x : Int} (p0 : rng x) : CT l s0 D A dT 232 (rmN 232) [.ref (A 179), .int (Int32.ofInt x)] s (fun o t => Bd t ∧ Fm [77, 75, 78, 79, 80, 81] [202, 204, 205, 206, 207, 208, 209, 210, 211, 212, 213, 214, 215, 216, 217, 218, 219, 220, 221, 222, 223, 224, 225, 226, 227, 203, 161, 230] s t ∧ RLx t ∧ ∃ e, o = .inl (some (.int (Int32.ofInt e))) ∧ rng e ∧ (True)) := by
  refine ct_of G (by decide) (Nat.le_of_ble_eq_true rfl) (fun k X E hRt hXt q => ?_)
  show WS k 0 [(0, .ref (A 179)), (1, .int (Int32.ofInt x))] [] _ 0 0
  have F : Fm [77, 75, 78, 79, 80, 81] [202, 204, 205, 206, 207, 208, 209, 210, 211, 212, 213, 214, 215, 216, 217, 218, 219, 220, 221, 222, 223, 224, 225, 226, 227, 203, 161, 230] s s := fm_rf _ _ s
  refine z_aload_n X (x := A 179) (show cdA 232 0 = some (.aload_n 0, 1, 0, 0, 0) from rfl) (List.Mem.head _) ?_
  refine z_load_n X (x := x) (show cdA 232 1 = some (.iload_n 1, 1, 0, 0, 0) from rfl) (List.Mem.tail _ (List.Mem.head _)) ?_
  refine z_callV X 179 (rm := rmN 230) (As := [.int (Int32.ofInt x)]) (st := []) (show cdA 232 2 = some (.invokevirtual 327, 3, 230, 0, 0) from rfl) rfl (by decide) rfl (by rw [E.1, E.2.1, E.2.2.1]; exact k_setOf G I (by omega)) ⟨by rw [E.2.2.2]; exact (show (rmN 230).frames + 1 ≤ (rmN 232).frames by decide), by rw [E.2.2.2]; exact (show 8 + (mNL (miB 230) + 11) + (rmN 230).locals ≤ (rmN 232).locals by decide), by rw [E.2.2.2]; exact (show 0 + (rmN 230).cells ≤ (rmN 232).cells by decide), by rw [E.2.2.2]; exact (show 0 + (rmN 230).slots ≤ (rmN 232).slots by decide)⟩ (Nat.le_of_ble_eq_true rfl) (fun vv s1 hq => ?_) (fun ee s1 hq => ?_)
  rotate_left
  · obtain ⟨Is1, Fs1, hv, hps1⟩ := hq; cases hv
  obtain ⟨Is1, Fs1, hv, hps1⟩ := hq
  cases hv
  have Gs1 := fm_ts F Fs1 (by decide) (by decide)
  have JRLx_s1 : RLx s1 := RLx_fm Fs1 (by decide) jRLx
  show WS k 5 [(0, .ref (A 179)), (1, .int (Int32.ofInt x))] [] (Wd A dT s1) 0 0
  refine z_aload_n X (x := A 179) (show cdA 232 5 = some (.aload_n 0, 1, 0, 0, 0) from rfl) (List.Mem.head _) ?_
  refine z_callV X 179 (rm := rmN 231) (As := []) (st := []) (show cdA 232 6 = some (.invokevirtual 330, 3, 231, 0, 0) from rfl) rfl (by decide) rfl (by rw [E.1, E.2.1, E.2.2.1]; exact k_peakOfSet G Is1 JRLx_s1 ) ⟨by rw [E.2.2.2]; exact (show (rmN 231).frames + 1 ≤ (rmN 232).frames by decide), by rw [E.2.2.2]; exact (show 8 + (mNL (miB 231) + 11) + (rmN 231).locals ≤ (rmN 232).locals by decide), by rw [E.2.2.2]; exact (show 0 + (rmN 231).cells ≤ (rmN 232).cells by decide), by rw [E.2.2.2]; exact (show 0 + (rmN 231).slots ≤ (rmN 232).slots by decide)⟩ (Nat.le_of_ble_eq_true rfl) (fun vv s3 hq => ?_) (fun ee s3 hq => ?_)
  rotate_left
  · obtain ⟨Is3, Fs3, JRLx_s3, e4, hv, hrs3, hps3⟩ := hq; cases hv
  obtain ⟨Is3, Fs3, JRLx_s3, e4, hv, hrs3, hps3⟩ := hq
  cases hv
  have Gs3 := fm_ts Gs1 Fs3 (by decide) (by decide)
  have JRLx_s3 : RLx s3 := RLx_fm Fs3 (by decide) JRLx_s1
  show WS k 9 [(0, .ref (A 179)), (1, .int (Int32.ofInt x))] [.int (Int32.ofInt e4)] (Wd A dT s3) 0 0
  exact w_iret X.1 q hRt rfl (ax_d X (show cdA 232 9 = some (.ireturn, 1, 0, 0, 0) from rfl)) (Nat.zero_le _) (Nat.zero_le _) ⟨_, rfl, Is3, Gs3, JRLx_s3, e4, rfl, ⟨by omega, by omega⟩, trivial⟩
theorem k_hears (G : GX l s0 D tys a0 dT) (I : Bd s) (jRLx : RLx s) {x y z : Int} (p0 : rng x) (p1 : rng y) (p2 : rng z) : CT l s0 D A dT 237 (rmN 237) [.ref (A 179), .int (Int32.ofInt x), .int (Int32.ofInt y), .int (Int32.ofInt z)] s (fun o t => Bd t ∧ Fm [73, 77, 75, 78, 79, 80, 81] [202, 204, 205, 206, 207, 208, 209, 210, 211, 212, 213, 214, 215, 216, 217, 218, 219, 220, 221, 222, 223, 224, 225, 226, 227, 203, 161, 230] s t ∧ RLx t ∧ ∃ e, o = .inl (some (.int (Int32.ofInt e))) ∧ rng e ∧ (True)) := by
  refine ct_of G (by decide) (Nat.le_of_ble_eq_true rfl) (fun k X E hRt hXt q => ?_)
  show WS k 0 [(0, .ref (A 179)), (1, .int (Int32.ofInt x)), (2, .int (Int32.ofInt y)), (3, .int (Int32.ofInt z))] [] _ 0 0
  have F : Fm [73, 77, 75, 78, 79, 80, 81] [202, 204, 205, 206, 207, 208, 209, 210, 211, 212, 213, 214, 215, 216, 217, 218, 219, 220, 221, 222, 223, 224, 225, 226, 227, 203, 161, 230] s s := fm_rf _ _ s
  have b1 : (0 : Int) ≤ iI s 73 ∧ iI s 73 ≤ 3 := I.1 73
  refine z_aload_n X (x := A 179) (show cdA 237 0 = some (.aload_n 0, 1, 0, 0, 0) from rfl) (List.Mem.head _) ?_
  refine z_const X (show cdA 237 1 = some (.iconst 0, 1, 0, 0, 0) from rfl) ?_
  refine s_putI X 179 (show cdA 237 2 = some (.putfield 172, 3, 12, 0, 0) from rfl) (by decide) rfl rfl (by decide) rfl rfl rfl ?_
  obtain ⟨s2, hs2⟩ : ∃ x0, x0 = uI s 73 (Int32.ofInt 0) := ⟨_, rfl⟩
  rw [← hs2]
  have Is2 : Bd s2 := by rw [hs2]; exact bd_I I (show (0 : Int) ≤ 0 ∧ 0 ≤ 3 by omega) ⟨by omega, by omega⟩
  have Fs2 := fm_I (x := Int32.ofInt 0) F (show 73 ∈ _ by decide)
  rw [← hs2] at Fs2
  have vs2 : iI s2 73 = 0 := by rw [hs2]; exact iI_u ⟨by omega, by omega⟩
  have fs2 : Fm [73] [] s s2 := by rw [hs2]; exact fm_I (fm_rf _ _ _) (show 73 ∈ _ by decide)
  have JRLx_s2 : RLx s2 := RLx_fm fs2 (by decide) jRLx
  refine z_aload_n X (x := A 179) (show cdA 237 5 = some (.aload_n 0, 1, 0, 0, 0) from rfl) (List.Mem.head _) ?_
  refine z_load_n X (x := x) (show cdA 237 6 = some (.iload_n 1, 1, 0, 0, 0) from rfl) (List.Mem.tail _ (List.Mem.head _)) ?_
  refine z_const X (show cdA 237 7 = some (.iconst 0, 1, 0, 0, 0) from rfl) ?_
  refine z_bipush X (show cdA 237 8 = some (.bipush 7, 2, 0, 0, 7) from rfl) ?_
  refine z_callS X (rm := rmN 188) (As := [.int (Int32.ofInt x), .int (Int32.ofInt 0), .int (Int32.ofInt 7)]) (st := [.ref (A 179)]) (show cdA 237 10 = some (.invokestatic 209, 3, 188, 1, 0) from rfl) rfl (by rw [E.1, E.2.1, E.2.2.1]; exact k_in G Is2 (by omega) (by omega) (by omega)) ⟨by rw [E.2.2.2]; exact (show (rmN 188).frames + 1 ≤ (rmN 237).frames by decide), by rw [E.2.2.2]; exact (show 8 + (mNL (miB 188) + 11) + (rmN 188).locals ≤ (rmN 237).locals by decide), by rw [E.2.2.2]; exact (show 0 + (rmN 188).cells ≤ (rmN 237).cells by decide), by rw [E.2.2.2]; exact (show 0 + (rmN 188).slots ≤ (rmN 237).slots by decide)⟩ (Nat.le_of_ble_eq_true rfl) (fun vv s3 hq => ?_) (fun ee s3 hq => ?_)
  rotate_left
  · obtain ⟨Is3, Fs3, e4, hv, hrs3, hps3⟩ := hq; cases hv
  obtain ⟨Is3, Fs3, e4, hv, hrs3, hps3⟩ := hq
  cases hv
  have Gs3 := fm_ts Fs2 Fs3 (by decide) (by decide)
  have JRLx_s3 : RLx s3 := RLx_fm Fs3 (by decide) JRLx_s2
  have ws3_73 : iI s3 73 = iI s2 73 := fm_i Fs3 (by decide)
  show WS k 13 [(0, .ref (A 179)), (1, .int (Int32.ofInt x)), (2, .int (Int32.ofInt y)), (3, .int (Int32.ofInt z))] [.int (Int32.ofInt e4), .ref (A 179)] (Wd A dT s3) 0 0
  refine z_if_eq X (t := 35) (show cdA 237 13 = some (.ifCond .eq 22, 3, 0, 0, 0) from rfl) (by decide) ⟨by omega, by omega⟩ (fun g5 => ?_) (fun g5 => ?_)
  ·
    refine z_const X (show cdA 237 35 = some (.iconst 1, 1, 0, 0, 0) from rfl) ?_
    refine z_goto X (t := 40) (show cdA 237 36 = some (.goto 4, 3, 0, 0, 0) from rfl) (by decide) ?_
    refine z_const X (show cdA 237 40 = some (.iconst 1, 1, 0, 0, 0) from rfl) ?_
    refine z_callV X 179 (rm := rmN 187) (As := [.int (Int32.ofInt 1), .int (Int32.ofInt 1)]) (st := []) (show cdA 237 41 = some (.invokevirtual 229, 3, 187, 0, 0) from rfl) rfl (by decide) rfl (by rw [E.1, E.2.1, E.2.2.1]; exact k_bad G Is3 (by omega) (by omega)) ⟨by rw [E.2.2.2]; exact (show (rmN 187).frames + 1 ≤ (rmN 237).frames by decide), by rw [E.2.2.2]; exact (show 8 + (mNL (miB 187) + 11) + (rmN 187).locals ≤ (rmN 237).locals by decide), by rw [E.2.2.2]; exact (show 0 + (rmN 187).cells ≤ (rmN 237).cells by decide), by rw [E.2.2.2]; exact (show 0 + (rmN 187).slots ≤ (rmN 237).slots by decide)⟩ (Nat.le_of_ble_eq_true rfl) (fun vv s6 hq => ?_) (fun ee s6 hq => ?_)
    rotate_left
    · obtain ⟨Is6, Fs6, e7, hv, hrs6, hps6⟩ := hq; cases hv
    obtain ⟨Is6, Fs6, e7, hv, hrs6, hps6⟩ := hq
    cases hv
    have Gs6 := fm_ts Gs3 Fs6 (by decide) (by decide)
    have JRLx_s6 : RLx s6 := RLx_fm Fs6 (by decide) JRLx_s3
    have b8 : (0 : Int) ≤ iI s6 73 ∧ iI s6 73 ≤ 3 := Is6.1 73
    show WS k 44 [(0, .ref (A 179)), (1, .int (Int32.ofInt x)), (2, .int (Int32.ofInt y)), (3, .int (Int32.ofInt z))] [.int (Int32.ofInt e7)] (Wd A dT s6) 0 0
    refine z_if_eq X (t := 49) (show cdA 237 44 = some (.ifCond .eq 5, 3, 0, 0, 0) from rfl) (by decide) ⟨by omega, by omega⟩ (fun g9 => ?_) (fun g9 => ?_)
    ·
      refine z_aload_n X (x := A 179) (show cdA 237 49 = some (.aload_n 0, 1, 0, 0, 0) from rfl) (List.Mem.head _) ?_
      refine z_load_n X (x := x) (show cdA 237 50 = some (.iload_n 1, 1, 0, 0, 0) from rfl) (List.Mem.tail _ (List.Mem.head _)) ?_
      refine z_callV X 179 (rm := rmN 230) (As := [.int (Int32.ofInt x)]) (st := []) (show cdA 237 51 = some (.invokevirtual 327, 3, 230, 0, 0) from rfl) rfl (by decide) rfl (by rw [E.1, E.2.1, E.2.2.1]; exact k_setOf G Is6 (by omega)) ⟨by rw [E.2.2.2]; exact (show (rmN 230).frames + 1 ≤ (rmN 237).frames by decide), by rw [E.2.2.2]; exact (show 8 + (mNL (miB 230) + 11) + (rmN 230).locals ≤ (rmN 237).locals by decide), by rw [E.2.2.2]; exact (show 0 + (rmN 230).cells ≤ (rmN 237).cells by decide), by rw [E.2.2.2]; exact (show 0 + (rmN 230).slots ≤ (rmN 237).slots by decide)⟩ (Nat.le_of_ble_eq_true rfl) (fun vv s10 hq => ?_) (fun ee s10 hq => ?_)
      rotate_left
      · obtain ⟨Is10, Fs10, hv, hps10⟩ := hq; cases hv
      obtain ⟨Is10, Fs10, hv, hps10⟩ := hq
      cases hv
      have Gs10 := fm_ts Gs6 Fs10 (by decide) (by decide)
      have JRLx_s10 : RLx s10 := RLx_fm Fs10 (by decide) JRLx_s6
      have ws10_73 : iI s10 73 = iI s6 73 := fm_i Fs10 (by decide)
      show WS k 54 [(0, .ref (A 179)), (1, .int (Int32.ofInt x)), (2, .int (Int32.ofInt y)), (3, .int (Int32.ofInt z))] [] (Wd A dT s10) 0 0
      refine z_aload_n X (x := A 179) (show cdA 237 54 = some (.aload_n 0, 1, 0, 0, 0) from rfl) (List.Mem.head _) ?_
      refine z_load_n X (x := y) (show cdA 237 55 = some (.iload_n 2, 1, 0, 0, 0) from rfl) (List.Mem.tail _ (List.Mem.tail _ (List.Mem.head _))) ?_
      refine z_callV X 179 (rm := rmN 222) (As := [.int (Int32.ofInt y)]) (st := []) (show cdA 237 56 = some (.invokevirtual 333, 3, 222, 0, 0) from rfl) rfl (by decide) rfl (by rw [E.1, E.2.1, E.2.2.1]; exact k_asTold G Is10 JRLx_s10 (by omega)) ⟨by rw [E.2.2.2]; exact (show (rmN 222).frames + 1 ≤ (rmN 237).frames by decide), by rw [E.2.2.2]; exact (show 8 + (mNL (miB 222) + 11) + (rmN 222).locals ≤ (rmN 237).locals by decide), by rw [E.2.2.2]; exact (show 0 + (rmN 222).cells ≤ (rmN 237).cells by decide), by rw [E.2.2.2]; exact (show 0 + (rmN 222).slots ≤ (rmN 237).slots by decide)⟩ (Nat.le_of_ble_eq_true rfl) (fun vv s12 hq => ?_) (fun ee s12 hq => ?_)
      rotate_left
      · obtain ⟨Is12, Fs12, JRLx_s12, JNQ_s12, hv, hps12⟩ := hq; cases hv
      obtain ⟨Is12, Fs12, JRLx_s12, JNQ_s12, hv, hps12⟩ := hq
      cases hv
      have Gs12 := fm_ts Gs10 Fs12 (by decide) (by decide)
      have JRLx_s12 : RLx s12 := RLx_fm Fs12 (by decide) JRLx_s10
      have ws12_73 : iI s12 73 = iI s10 73 := fm_i Fs12 (by decide)
      show WS k 59 [(0, .ref (A 179)), (1, .int (Int32.ofInt x)), (2, .int (Int32.ofInt y)), (3, .int (Int32.ofInt z))] [] (Wd A dT s12) 0 0
      refine z_aload_n X (x := A 179) (show cdA 237 59 = some (.aload_n 0, 1, 0, 0, 0) from rfl) (List.Mem.head _) ?_
      have JNW_s12 : NW s12 := NW_of JNQ_s12 JRLx_s12
      refine z_callV X 179 (rm := rmN 228) (As := []) (st := []) (show cdA 237 60 = some (.invokevirtual 324, 3, 228, 0, 0) from rfl) rfl (by decide) rfl (by rw [E.1, E.2.1, E.2.2.1]; exact k_load G Is12 JNW_s12 ) ⟨by rw [E.2.2.2]; exact (show (rmN 228).frames + 1 ≤ (rmN 237).frames by decide), by rw [E.2.2.2]; exact (show 8 + (mNL (miB 228) + 11) + (rmN 228).locals ≤ (rmN 237).locals by decide), by rw [E.2.2.2]; exact (show 0 + (rmN 228).cells ≤ (rmN 237).cells by decide), by rw [E.2.2.2]; exact (show 0 + (rmN 228).slots ≤ (rmN 237).slots by decide)⟩ (Nat.le_of_ble_eq_true rfl) (fun vv s14 hq => ?_) (fun ee s14 hq => ?_)
      rotate_left
      · obtain ⟨Is14, Fs14, JNW_s14, e15, hv, hrs14, hps14⟩ := hq; cases hv
      obtain ⟨Is14, Fs14, JNW_s14, e15, hv, hrs14, hps14⟩ := hq
      cases hv
      have Gs14 := fm_ts Gs12 Fs14 (by decide) (by decide)
      have JRLx_s14 : RLx s14 := RLx_fm Fs14 (by decide) JRLx_s12
      have JNQ_s14 : NQ s14 := NQ_fm Fs14 (by decide) JNQ_s12
      have JNW_s14 : NW s14 := NW_fm Fs14 (by decide) JNW_s12
      have ws14_73 : iI s14 73 = iI s12 73 := fm_i Fs14 (by decide)
      show WS k 63 [(0, .ref (A 179)), (1, .int (Int32.ofInt x)), (2, .int (Int32.ofInt y)), (3, .int (Int32.ofInt z))] [.int (Int32.ofInt e15)] (Wd A dT s14) 0 0
      refine z_store X (lv' := [(4, .int (Int32.ofInt e15)), (0, .ref (A 179)), (1, .int (Int32.ofInt x)), (2, .int (Int32.ofInt y)), (3, .int (Int32.ofInt z))]) (show cdA 237 63 = some (.istore 4, 2, 0, 0, 0) from rfl) (by decide) (fun _ h => h) ?_
      refine z_load_n X (x := z) (show cdA 237 65 = some (.iload_n 3, 1, 0, 0, 0) from rfl) (List.Mem.tail _ (List.Mem.tail _ (List.Mem.tail _ (List.Mem.tail _ (List.Mem.head _))))) ?_
      refine z_const X (show cdA 237 66 = some (.iconst 4, 1, 0, 0, 0) from rfl) ?_
      refine z_icmp_ne X (t := 75) (show cdA 237 67 = some (.if_icmp .ne 8, 3, 1, 0, 0) from rfl) (by decide) ⟨by omega, by omega⟩ ⟨by omega, by omega⟩ (fun g16 => ?_) (fun g16 => ?_)
      ·
        refine z_aload_n X (x := A 179) (show cdA 237 75 = some (.aload_n 0, 1, 0, 0, 0) from rfl) (List.Mem.tail _ (List.Mem.head _)) ?_
        refine s_getR X 179 (show cdA 237 76 = some (.getfield 32, 3, 12, 21, 0) from rfl) (by decide) rfl rfl ?_
        refine z_load_n X (x := z) (show cdA 237 79 = some (.iload_n 3, 1, 0, 0, 0) from rfl) (List.Mem.tail _ (List.Mem.tail _ (List.Mem.tail _ (List.Mem.tail _ (List.Mem.head _))))) ?_
        refine z_ald X 184 (show cdA 237 80 = some (.iaload, 1, 0, 0, 0) from rfl) (by decide) rfl (by omega) (show z < 7 by omega) (by decide) ?_
        have b17 : ((-2147483648) : Int) ≤ iC s14 161 (z).toNat ∧ iC s14 161 (z).toNat ≤ 2147483647 := Is14.2 161 _ (show (z).toNat < 7 by omega)
        exact w_iret X.1 q hRt rfl (ax_d X (show cdA 237 81 = some (.ireturn, 1, 0, 0, 0) from rfl)) (Nat.zero_le _) (Nat.zero_le _) ⟨_, rfl, Is14, Gs14, JRLx_s14, (iC s14 161 (z).toNat), rfl, ⟨by omega, by omega⟩, trivial⟩
      ·
        refine z_load X (x := e15) (show cdA 237 70 = some (.iload 4, 2, 0, 0, 0) from rfl) (List.Mem.head _) ?_
        refine z_goto X (t := 81) (show cdA 237 72 = some (.goto 9, 3, 0, 0, 0) from rfl) (by decide) ?_
        exact w_iret X.1 q hRt rfl (ax_d X (show cdA 237 81 = some (.ireturn, 1, 0, 0, 0) from rfl)) (Nat.zero_le _) (Nat.zero_le _) ⟨_, rfl, Is14, Gs14, JRLx_s14, e15, rfl, ⟨by omega, by omega⟩, trivial⟩
    ·
      refine z_const X (show cdA 237 47 = some (.iconst 0, 1, 0, 0, 0) from rfl) ?_
      exact w_iret X.1 q hRt rfl (ax_d X (show cdA 237 48 = some (.ireturn, 1, 0, 0, 0) from rfl)) (Nat.zero_le _) (Nat.zero_le _) ⟨_, rfl, Is6, Gs6, JRLx_s6, 0, rfl, ⟨by omega, by omega⟩, trivial⟩
  ·
    refine z_load_n X (x := y) (show cdA 237 16 = some (.iload_n 2, 1, 0, 0, 0) from rfl) (List.Mem.tail _ (List.Mem.tail _ (List.Mem.head _))) ?_
    refine z_const X (show cdA 237 17 = some (.iconst 0, 1, 0, 0, 0) from rfl) ?_
    refine z_bipush X (show cdA 237 18 = some (.bipush 23, 2, 0, 0, 23) from rfl) ?_
    refine z_callS X (rm := rmN 188) (As := [.int (Int32.ofInt y), .int (Int32.ofInt 0), .int (Int32.ofInt 23)]) (st := [.ref (A 179)]) (show cdA 237 20 = some (.invokestatic 209, 3, 188, 1, 0) from rfl) rfl (by rw [E.1, E.2.1, E.2.2.1]; exact k_in G Is3 (by omega) (by omega) (by omega)) ⟨by rw [E.2.2.2]; exact (show (rmN 188).frames + 1 ≤ (rmN 237).frames by decide), by rw [E.2.2.2]; exact (show 8 + (mNL (miB 188) + 11) + (rmN 188).locals ≤ (rmN 237).locals by decide), by rw [E.2.2.2]; exact (show 0 + (rmN 188).cells ≤ (rmN 237).cells by decide), by rw [E.2.2.2]; exact (show 0 + (rmN 188).slots ≤ (rmN 237).slots by decide)⟩ (Nat.le_of_ble_eq_true rfl) (fun vv s18 hq => ?_) (fun ee s18 hq => ?_)
    rotate_left
    · obtain ⟨Is18, Fs18, e19, hv, hrs18, hps18⟩ := hq; cases hv
    obtain ⟨Is18, Fs18, e19, hv, hrs18, hps18⟩ := hq
    cases hv
    have Gs18 := fm_ts Gs3 Fs18 (by decide) (by decide)
    have JRLx_s18 : RLx s18 := RLx_fm Fs18 (by decide) JRLx_s3
    have ws18_73 : iI s18 73 = iI s3 73 := fm_i Fs18 (by decide)
    show WS k 23 [(0, .ref (A 179)), (1, .int (Int32.ofInt x)), (2, .int (Int32.ofInt y)), (3, .int (Int32.ofInt z))] [.int (Int32.ofInt e19), .ref (A 179)] (Wd A dT s18) 0 0
    refine z_if_eq X (t := 35) (show cdA 237 23 = some (.ifCond .eq 12, 3, 0, 0, 0) from rfl) (by decide) ⟨by omega, by omega⟩ (fun g20 => ?_) (fun g20 => ?_)
    ·
      refine z_const X (show cdA 237 35 = some (.iconst 1, 1, 0, 0, 0) from rfl) ?_
      refine z_goto X (t := 40) (show cdA 237 36 = some (.goto 4, 3, 0, 0, 0) from rfl) (by decide) ?_
      refine z_const X (show cdA 237 40 = some (.iconst 1, 1, 0, 0, 0) from rfl) ?_
      refine z_callV X 179 (rm := rmN 187) (As := [.int (Int32.ofInt 1), .int (Int32.ofInt 1)]) (st := []) (show cdA 237 41 = some (.invokevirtual 229, 3, 187, 0, 0) from rfl) rfl (by decide) rfl (by rw [E.1, E.2.1, E.2.2.1]; exact k_bad G Is18 (by omega) (by omega)) ⟨by rw [E.2.2.2]; exact (show (rmN 187).frames + 1 ≤ (rmN 237).frames by decide), by rw [E.2.2.2]; exact (show 8 + (mNL (miB 187) + 11) + (rmN 187).locals ≤ (rmN 237).locals by decide), by rw [E.2.2.2]; exact (show 0 + (rmN 187).cells ≤ (rmN 237).cells by decide), by rw [E.2.2.2]; exact (show 0 + (rmN 187).slots ≤ (rmN 237).slots by decide)⟩ (Nat.le_of_ble_eq_true rfl) (fun vv s21 hq => ?_) (fun ee s21 hq => ?_)
      rotate_left
      · obtain ⟨Is21, Fs21, e22, hv, hrs21, hps21⟩ := hq; cases hv
      obtain ⟨Is21, Fs21, e22, hv, hrs21, hps21⟩ := hq
      cases hv
      have Gs21 := fm_ts Gs18 Fs21 (by decide) (by decide)
      have JRLx_s21 : RLx s21 := RLx_fm Fs21 (by decide) JRLx_s18
      have b23 : (0 : Int) ≤ iI s21 73 ∧ iI s21 73 ≤ 3 := Is21.1 73
      show WS k 44 [(0, .ref (A 179)), (1, .int (Int32.ofInt x)), (2, .int (Int32.ofInt y)), (3, .int (Int32.ofInt z))] [.int (Int32.ofInt e22)] (Wd A dT s21) 0 0
      refine z_if_eq X (t := 49) (show cdA 237 44 = some (.ifCond .eq 5, 3, 0, 0, 0) from rfl) (by decide) ⟨by omega, by omega⟩ (fun g24 => ?_) (fun g24 => ?_)
      ·
        refine z_aload_n X (x := A 179) (show cdA 237 49 = some (.aload_n 0, 1, 0, 0, 0) from rfl) (List.Mem.head _) ?_
        refine z_load_n X (x := x) (show cdA 237 50 = some (.iload_n 1, 1, 0, 0, 0) from rfl) (List.Mem.tail _ (List.Mem.head _)) ?_
        refine z_callV X 179 (rm := rmN 230) (As := [.int (Int32.ofInt x)]) (st := []) (show cdA 237 51 = some (.invokevirtual 327, 3, 230, 0, 0) from rfl) rfl (by decide) rfl (by rw [E.1, E.2.1, E.2.2.1]; exact k_setOf G Is21 (by omega)) ⟨by rw [E.2.2.2]; exact (show (rmN 230).frames + 1 ≤ (rmN 237).frames by decide), by rw [E.2.2.2]; exact (show 8 + (mNL (miB 230) + 11) + (rmN 230).locals ≤ (rmN 237).locals by decide), by rw [E.2.2.2]; exact (show 0 + (rmN 230).cells ≤ (rmN 237).cells by decide), by rw [E.2.2.2]; exact (show 0 + (rmN 230).slots ≤ (rmN 237).slots by decide)⟩ (Nat.le_of_ble_eq_true rfl) (fun vv s25 hq => ?_) (fun ee s25 hq => ?_)
        rotate_left
        · obtain ⟨Is25, Fs25, hv, hps25⟩ := hq; cases hv
        obtain ⟨Is25, Fs25, hv, hps25⟩ := hq
        cases hv
        have Gs25 := fm_ts Gs21 Fs25 (by decide) (by decide)
        have JRLx_s25 : RLx s25 := RLx_fm Fs25 (by decide) JRLx_s21
        have ws25_73 : iI s25 73 = iI s21 73 := fm_i Fs25 (by decide)
        show WS k 54 [(0, .ref (A 179)), (1, .int (Int32.ofInt x)), (2, .int (Int32.ofInt y)), (3, .int (Int32.ofInt z))] [] (Wd A dT s25) 0 0
        refine z_aload_n X (x := A 179) (show cdA 237 54 = some (.aload_n 0, 1, 0, 0, 0) from rfl) (List.Mem.head _) ?_
        refine z_load_n X (x := y) (show cdA 237 55 = some (.iload_n 2, 1, 0, 0, 0) from rfl) (List.Mem.tail _ (List.Mem.tail _ (List.Mem.head _))) ?_
        refine z_callV X 179 (rm := rmN 222) (As := [.int (Int32.ofInt y)]) (st := []) (show cdA 237 56 = some (.invokevirtual 333, 3, 222, 0, 0) from rfl) rfl (by decide) rfl (by rw [E.1, E.2.1, E.2.2.1]; exact k_asTold G Is25 JRLx_s25 (by omega)) ⟨by rw [E.2.2.2]; exact (show (rmN 222).frames + 1 ≤ (rmN 237).frames by decide), by rw [E.2.2.2]; exact (show 8 + (mNL (miB 222) + 11) + (rmN 222).locals ≤ (rmN 237).locals by decide), by rw [E.2.2.2]; exact (show 0 + (rmN 222).cells ≤ (rmN 237).cells by decide), by rw [E.2.2.2]; exact (show 0 + (rmN 222).slots ≤ (rmN 237).slots by decide)⟩ (Nat.le_of_ble_eq_true rfl) (fun vv s27 hq => ?_) (fun ee s27 hq => ?_)
        rotate_left
        · obtain ⟨Is27, Fs27, JRLx_s27, JNQ_s27, hv, hps27⟩ := hq; cases hv
        obtain ⟨Is27, Fs27, JRLx_s27, JNQ_s27, hv, hps27⟩ := hq
        cases hv
        have Gs27 := fm_ts Gs25 Fs27 (by decide) (by decide)
        have JRLx_s27 : RLx s27 := RLx_fm Fs27 (by decide) JRLx_s25
        have ws27_73 : iI s27 73 = iI s25 73 := fm_i Fs27 (by decide)
        show WS k 59 [(0, .ref (A 179)), (1, .int (Int32.ofInt x)), (2, .int (Int32.ofInt y)), (3, .int (Int32.ofInt z))] [] (Wd A dT s27) 0 0
        refine z_aload_n X (x := A 179) (show cdA 237 59 = some (.aload_n 0, 1, 0, 0, 0) from rfl) (List.Mem.head _) ?_
        have JNW_s27 : NW s27 := NW_of JNQ_s27 JRLx_s27
        refine z_callV X 179 (rm := rmN 228) (As := []) (st := []) (show cdA 237 60 = some (.invokevirtual 324, 3, 228, 0, 0) from rfl) rfl (by decide) rfl (by rw [E.1, E.2.1, E.2.2.1]; exact k_load G Is27 JNW_s27 ) ⟨by rw [E.2.2.2]; exact (show (rmN 228).frames + 1 ≤ (rmN 237).frames by decide), by rw [E.2.2.2]; exact (show 8 + (mNL (miB 228) + 11) + (rmN 228).locals ≤ (rmN 237).locals by decide), by rw [E.2.2.2]; exact (show 0 + (rmN 228).cells ≤ (rmN 237).cells by decide), by rw [E.2.2.2]; exact (show 0 + (rmN 228).slots ≤ (rmN 237).slots by decide)⟩ (Nat.le_of_ble_eq_true rfl) (fun vv s29 hq => ?_) (fun ee s29 hq => ?_)
        rotate_left
        · obtain ⟨Is29, Fs29, JNW_s29, e30, hv, hrs29, hps29⟩ := hq; cases hv
        obtain ⟨Is29, Fs29, JNW_s29, e30, hv, hrs29, hps29⟩ := hq
        cases hv
        have Gs29 := fm_ts Gs27 Fs29 (by decide) (by decide)
        have JRLx_s29 : RLx s29 := RLx_fm Fs29 (by decide) JRLx_s27
        have JNQ_s29 : NQ s29 := NQ_fm Fs29 (by decide) JNQ_s27
        have JNW_s29 : NW s29 := NW_fm Fs29 (by decide) JNW_s27
        have ws29_73 : iI s29 73 = iI s27 73 := fm_i Fs29 (by decide)
        show WS k 63 [(0, .ref (A 179)), (1, .int (Int32.ofInt x)), (2, .int (Int32.ofInt y)), (3, .int (Int32.ofInt z))] [.int (Int32.ofInt e30)] (Wd A dT s29) 0 0
        refine z_store X (lv' := [(4, .int (Int32.ofInt e30)), (0, .ref (A 179)), (1, .int (Int32.ofInt x)), (2, .int (Int32.ofInt y)), (3, .int (Int32.ofInt z))]) (show cdA 237 63 = some (.istore 4, 2, 0, 0, 0) from rfl) (by decide) (fun _ h => h) ?_
        refine z_load_n X (x := z) (show cdA 237 65 = some (.iload_n 3, 1, 0, 0, 0) from rfl) (List.Mem.tail _ (List.Mem.tail _ (List.Mem.tail _ (List.Mem.tail _ (List.Mem.head _))))) ?_
        refine z_const X (show cdA 237 66 = some (.iconst 4, 1, 0, 0, 0) from rfl) ?_
        refine z_icmp_ne X (t := 75) (show cdA 237 67 = some (.if_icmp .ne 8, 3, 1, 0, 0) from rfl) (by decide) ⟨by omega, by omega⟩ ⟨by omega, by omega⟩ (fun g31 => ?_) (fun g31 => ?_)
        ·
          refine z_aload_n X (x := A 179) (show cdA 237 75 = some (.aload_n 0, 1, 0, 0, 0) from rfl) (List.Mem.tail _ (List.Mem.head _)) ?_
          refine s_getR X 179 (show cdA 237 76 = some (.getfield 32, 3, 12, 21, 0) from rfl) (by decide) rfl rfl ?_
          refine z_load_n X (x := z) (show cdA 237 79 = some (.iload_n 3, 1, 0, 0, 0) from rfl) (List.Mem.tail _ (List.Mem.tail _ (List.Mem.tail _ (List.Mem.tail _ (List.Mem.head _))))) ?_
          refine z_ald X 184 (show cdA 237 80 = some (.iaload, 1, 0, 0, 0) from rfl) (by decide) rfl (by omega) (show z < 7 by omega) (by decide) ?_
          have b32 : ((-2147483648) : Int) ≤ iC s29 161 (z).toNat ∧ iC s29 161 (z).toNat ≤ 2147483647 := Is29.2 161 _ (show (z).toNat < 7 by omega)
          exact w_iret X.1 q hRt rfl (ax_d X (show cdA 237 81 = some (.ireturn, 1, 0, 0, 0) from rfl)) (Nat.zero_le _) (Nat.zero_le _) ⟨_, rfl, Is29, Gs29, JRLx_s29, (iC s29 161 (z).toNat), rfl, ⟨by omega, by omega⟩, trivial⟩
        ·
          refine z_load X (x := e30) (show cdA 237 70 = some (.iload 4, 2, 0, 0, 0) from rfl) (List.Mem.head _) ?_
          refine z_goto X (t := 81) (show cdA 237 72 = some (.goto 9, 3, 0, 0, 0) from rfl) (by decide) ?_
          exact w_iret X.1 q hRt rfl (ax_d X (show cdA 237 81 = some (.ireturn, 1, 0, 0, 0) from rfl)) (Nat.zero_le _) (Nat.zero_le _) ⟨_, rfl, Is29, Gs29, JRLx_s29, e30, rfl, ⟨by omega, by omega⟩, trivial⟩
      ·
        refine z_const X (show cdA 237 47 = some (.iconst 0, 1, 0, 0, 0) from rfl) ?_
        exact w_iret X.1 q hRt rfl (ax_d X (show cdA 237 48 = some (.ireturn, 1, 0, 0, 0) from rfl)) (Nat.zero_le _) (Nat.zero_le _) ⟨_, rfl, Is21, Gs21, JRLx_s21, 0, rfl, ⟨by omega, by omega⟩, trivial⟩
    ·
      refine z_load_n X (x := z) (show cdA 237 26 = some (.iload_n 3, 1, 0, 0, 0) from rfl) (List.Mem.tail _ (List.Mem.tail _ (List.Mem.tail _ (List.Mem.head _)))) ?_
      refine z_const X (show cdA 237 27 = some (.iconst 0, 1, 0, 0, 0) from rfl) ?_
      refine z_const X (show cdA 237 28 = some (.iconst 4, 1, 0, 0, 0) from rfl) ?_
      refine z_callS X (rm := rmN 188) (As := [.int (Int32.ofInt z), .int (Int32.ofInt 0), .int (Int32.ofInt 4)]) (st := [.ref (A 179)]) (show cdA 237 29 = some (.invokestatic 209, 3, 188, 1, 0) from rfl) rfl (by rw [E.1, E.2.1, E.2.2.1]; exact k_in G Is18 (by omega) (by omega) (by omega)) ⟨by rw [E.2.2.2]; exact (show (rmN 188).frames + 1 ≤ (rmN 237).frames by decide), by rw [E.2.2.2]; exact (show 8 + (mNL (miB 188) + 11) + (rmN 188).locals ≤ (rmN 237).locals by decide), by rw [E.2.2.2]; exact (show 0 + (rmN 188).cells ≤ (rmN 237).cells by decide), by rw [E.2.2.2]; exact (show 0 + (rmN 188).slots ≤ (rmN 237).slots by decide)⟩ (Nat.le_of_ble_eq_true rfl) (fun vv s33 hq => ?_) (fun ee s33 hq => ?_)
      rotate_left
      · obtain ⟨Is33, Fs33, e34, hv, hrs33, hps33⟩ := hq; cases hv
      obtain ⟨Is33, Fs33, e34, hv, hrs33, hps33⟩ := hq
      cases hv
      have Gs33 := fm_ts Gs18 Fs33 (by decide) (by decide)
      have JRLx_s33 : RLx s33 := RLx_fm Fs33 (by decide) JRLx_s18
      have ws33_73 : iI s33 73 = iI s18 73 := fm_i Fs33 (by decide)
      show WS k 32 [(0, .ref (A 179)), (1, .int (Int32.ofInt x)), (2, .int (Int32.ofInt y)), (3, .int (Int32.ofInt z))] [.int (Int32.ofInt e34), .ref (A 179)] (Wd A dT s33) 0 0
      refine z_if_ne X (t := 39) (show cdA 237 32 = some (.ifCond .ne 7, 3, 1, 0, 0) from rfl) (by decide) ⟨by omega, by omega⟩ (fun g35 => ?_) (fun g35 => ?_)
      ·
        refine z_const X (show cdA 237 39 = some (.iconst 0, 1, 0, 0, 0) from rfl) ?_
        refine z_const X (show cdA 237 40 = some (.iconst 1, 1, 0, 0, 0) from rfl) ?_
        refine z_callV X 179 (rm := rmN 187) (As := [.int (Int32.ofInt 0), .int (Int32.ofInt 1)]) (st := []) (show cdA 237 41 = some (.invokevirtual 229, 3, 187, 0, 0) from rfl) rfl (by decide) rfl (by rw [E.1, E.2.1, E.2.2.1]; exact k_bad G Is33 (by omega) (by omega)) ⟨by rw [E.2.2.2]; exact (show (rmN 187).frames + 1 ≤ (rmN 237).frames by decide), by rw [E.2.2.2]; exact (show 8 + (mNL (miB 187) + 11) + (rmN 187).locals ≤ (rmN 237).locals by decide), by rw [E.2.2.2]; exact (show 0 + (rmN 187).cells ≤ (rmN 237).cells by decide), by rw [E.2.2.2]; exact (show 0 + (rmN 187).slots ≤ (rmN 237).slots by decide)⟩ (Nat.le_of_ble_eq_true rfl) (fun vv s36 hq => ?_) (fun ee s36 hq => ?_)
        rotate_left
        · obtain ⟨Is36, Fs36, e37, hv, hrs36, hps36⟩ := hq; cases hv
        obtain ⟨Is36, Fs36, e37, hv, hrs36, hps36⟩ := hq
        cases hv
        have Gs36 := fm_ts Gs33 Fs36 (by decide) (by decide)
        have JRLx_s36 : RLx s36 := RLx_fm Fs36 (by decide) JRLx_s33
        have b38 : (0 : Int) ≤ iI s36 73 ∧ iI s36 73 ≤ 3 := Is36.1 73
        show WS k 44 [(0, .ref (A 179)), (1, .int (Int32.ofInt x)), (2, .int (Int32.ofInt y)), (3, .int (Int32.ofInt z))] [.int (Int32.ofInt e37)] (Wd A dT s36) 0 0
        refine z_if_eq X (t := 49) (show cdA 237 44 = some (.ifCond .eq 5, 3, 0, 0, 0) from rfl) (by decide) ⟨by omega, by omega⟩ (fun g39 => ?_) (fun g39 => ?_)
        ·
          refine z_aload_n X (x := A 179) (show cdA 237 49 = some (.aload_n 0, 1, 0, 0, 0) from rfl) (List.Mem.head _) ?_
          refine z_load_n X (x := x) (show cdA 237 50 = some (.iload_n 1, 1, 0, 0, 0) from rfl) (List.Mem.tail _ (List.Mem.head _)) ?_
          refine z_callV X 179 (rm := rmN 230) (As := [.int (Int32.ofInt x)]) (st := []) (show cdA 237 51 = some (.invokevirtual 327, 3, 230, 0, 0) from rfl) rfl (by decide) rfl (by rw [E.1, E.2.1, E.2.2.1]; exact k_setOf G Is36 (by omega)) ⟨by rw [E.2.2.2]; exact (show (rmN 230).frames + 1 ≤ (rmN 237).frames by decide), by rw [E.2.2.2]; exact (show 8 + (mNL (miB 230) + 11) + (rmN 230).locals ≤ (rmN 237).locals by decide), by rw [E.2.2.2]; exact (show 0 + (rmN 230).cells ≤ (rmN 237).cells by decide), by rw [E.2.2.2]; exact (show 0 + (rmN 230).slots ≤ (rmN 237).slots by decide)⟩ (Nat.le_of_ble_eq_true rfl) (fun vv s40 hq => ?_) (fun ee s40 hq => ?_)
          rotate_left
          · obtain ⟨Is40, Fs40, hv, hps40⟩ := hq; cases hv
          obtain ⟨Is40, Fs40, hv, hps40⟩ := hq
          cases hv
          have Gs40 := fm_ts Gs36 Fs40 (by decide) (by decide)
          have JRLx_s40 : RLx s40 := RLx_fm Fs40 (by decide) JRLx_s36
          have ws40_73 : iI s40 73 = iI s36 73 := fm_i Fs40 (by decide)
          show WS k 54 [(0, .ref (A 179)), (1, .int (Int32.ofInt x)), (2, .int (Int32.ofInt y)), (3, .int (Int32.ofInt z))] [] (Wd A dT s40) 0 0
          refine z_aload_n X (x := A 179) (show cdA 237 54 = some (.aload_n 0, 1, 0, 0, 0) from rfl) (List.Mem.head _) ?_
          refine z_load_n X (x := y) (show cdA 237 55 = some (.iload_n 2, 1, 0, 0, 0) from rfl) (List.Mem.tail _ (List.Mem.tail _ (List.Mem.head _))) ?_
          refine z_callV X 179 (rm := rmN 222) (As := [.int (Int32.ofInt y)]) (st := []) (show cdA 237 56 = some (.invokevirtual 333, 3, 222, 0, 0) from rfl) rfl (by decide) rfl (by rw [E.1, E.2.1, E.2.2.1]; exact k_asTold G Is40 JRLx_s40 (by omega)) ⟨by rw [E.2.2.2]; exact (show (rmN 222).frames + 1 ≤ (rmN 237).frames by decide), by rw [E.2.2.2]; exact (show 8 + (mNL (miB 222) + 11) + (rmN 222).locals ≤ (rmN 237).locals by decide), by rw [E.2.2.2]; exact (show 0 + (rmN 222).cells ≤ (rmN 237).cells by decide), by rw [E.2.2.2]; exact (show 0 + (rmN 222).slots ≤ (rmN 237).slots by decide)⟩ (Nat.le_of_ble_eq_true rfl) (fun vv s42 hq => ?_) (fun ee s42 hq => ?_)
          rotate_left
          · obtain ⟨Is42, Fs42, JRLx_s42, JNQ_s42, hv, hps42⟩ := hq; cases hv
          obtain ⟨Is42, Fs42, JRLx_s42, JNQ_s42, hv, hps42⟩ := hq
          cases hv
          have Gs42 := fm_ts Gs40 Fs42 (by decide) (by decide)
          have JRLx_s42 : RLx s42 := RLx_fm Fs42 (by decide) JRLx_s40
          have ws42_73 : iI s42 73 = iI s40 73 := fm_i Fs42 (by decide)
          show WS k 59 [(0, .ref (A 179)), (1, .int (Int32.ofInt x)), (2, .int (Int32.ofInt y)), (3, .int (Int32.ofInt z))] [] (Wd A dT s42) 0 0
          refine z_aload_n X (x := A 179) (show cdA 237 59 = some (.aload_n 0, 1, 0, 0, 0) from rfl) (List.Mem.head _) ?_
          have JNW_s42 : NW s42 := NW_of JNQ_s42 JRLx_s42
          refine z_callV X 179 (rm := rmN 228) (As := []) (st := []) (show cdA 237 60 = some (.invokevirtual 324, 3, 228, 0, 0) from rfl) rfl (by decide) rfl (by rw [E.1, E.2.1, E.2.2.1]; exact k_load G Is42 JNW_s42 ) ⟨by rw [E.2.2.2]; exact (show (rmN 228).frames + 1 ≤ (rmN 237).frames by decide), by rw [E.2.2.2]; exact (show 8 + (mNL (miB 228) + 11) + (rmN 228).locals ≤ (rmN 237).locals by decide), by rw [E.2.2.2]; exact (show 0 + (rmN 228).cells ≤ (rmN 237).cells by decide), by rw [E.2.2.2]; exact (show 0 + (rmN 228).slots ≤ (rmN 237).slots by decide)⟩ (Nat.le_of_ble_eq_true rfl) (fun vv s44 hq => ?_) (fun ee s44 hq => ?_)
          rotate_left
          · obtain ⟨Is44, Fs44, JNW_s44, e45, hv, hrs44, hps44⟩ := hq; cases hv
          obtain ⟨Is44, Fs44, JNW_s44, e45, hv, hrs44, hps44⟩ := hq
          cases hv
          have Gs44 := fm_ts Gs42 Fs44 (by decide) (by decide)
          have JRLx_s44 : RLx s44 := RLx_fm Fs44 (by decide) JRLx_s42
          have JNQ_s44 : NQ s44 := NQ_fm Fs44 (by decide) JNQ_s42
          have JNW_s44 : NW s44 := NW_fm Fs44 (by decide) JNW_s42
          have ws44_73 : iI s44 73 = iI s42 73 := fm_i Fs44 (by decide)
          show WS k 63 [(0, .ref (A 179)), (1, .int (Int32.ofInt x)), (2, .int (Int32.ofInt y)), (3, .int (Int32.ofInt z))] [.int (Int32.ofInt e45)] (Wd A dT s44) 0 0
          refine z_store X (lv' := [(4, .int (Int32.ofInt e45)), (0, .ref (A 179)), (1, .int (Int32.ofInt x)), (2, .int (Int32.ofInt y)), (3, .int (Int32.ofInt z))]) (show cdA 237 63 = some (.istore 4, 2, 0, 0, 0) from rfl) (by decide) (fun _ h => h) ?_
          refine z_load_n X (x := z) (show cdA 237 65 = some (.iload_n 3, 1, 0, 0, 0) from rfl) (List.Mem.tail _ (List.Mem.tail _ (List.Mem.tail _ (List.Mem.tail _ (List.Mem.head _))))) ?_
          refine z_const X (show cdA 237 66 = some (.iconst 4, 1, 0, 0, 0) from rfl) ?_
          refine z_icmp_ne X (t := 75) (show cdA 237 67 = some (.if_icmp .ne 8, 3, 1, 0, 0) from rfl) (by decide) ⟨by omega, by omega⟩ ⟨by omega, by omega⟩ (fun g46 => ?_) (fun g46 => ?_)
          ·
            refine z_aload_n X (x := A 179) (show cdA 237 75 = some (.aload_n 0, 1, 0, 0, 0) from rfl) (List.Mem.tail _ (List.Mem.head _)) ?_
            refine s_getR X 179 (show cdA 237 76 = some (.getfield 32, 3, 12, 21, 0) from rfl) (by decide) rfl rfl ?_
            refine z_load_n X (x := z) (show cdA 237 79 = some (.iload_n 3, 1, 0, 0, 0) from rfl) (List.Mem.tail _ (List.Mem.tail _ (List.Mem.tail _ (List.Mem.tail _ (List.Mem.head _))))) ?_
            refine z_ald X 184 (show cdA 237 80 = some (.iaload, 1, 0, 0, 0) from rfl) (by decide) rfl (by omega) (show z < 7 by omega) (by decide) ?_
            have b47 : ((-2147483648) : Int) ≤ iC s44 161 (z).toNat ∧ iC s44 161 (z).toNat ≤ 2147483647 := Is44.2 161 _ (show (z).toNat < 7 by omega)
            exact w_iret X.1 q hRt rfl (ax_d X (show cdA 237 81 = some (.ireturn, 1, 0, 0, 0) from rfl)) (Nat.zero_le _) (Nat.zero_le _) ⟨_, rfl, Is44, Gs44, JRLx_s44, (iC s44 161 (z).toNat), rfl, ⟨by omega, by omega⟩, trivial⟩
          ·
            refine z_load X (x := e45) (show cdA 237 70 = some (.iload 4, 2, 0, 0, 0) from rfl) (List.Mem.head _) ?_
            refine z_goto X (t := 81) (show cdA 237 72 = some (.goto 9, 3, 0, 0, 0) from rfl) (by decide) ?_
            exact w_iret X.1 q hRt rfl (ax_d X (show cdA 237 81 = some (.ireturn, 1, 0, 0, 0) from rfl)) (Nat.zero_le _) (Nat.zero_le _) ⟨_, rfl, Is44, Gs44, JRLx_s44, e45, rfl, ⟨by omega, by omega⟩, trivial⟩
        ·
          refine z_const X (show cdA 237 47 = some (.iconst 0, 1, 0, 0, 0) from rfl) ?_
          exact w_iret X.1 q hRt rfl (ax_d X (show cdA 237 48 = some (.ireturn, 1, 0, 0, 0) from rfl)) (Nat.zero_le _) (Nat.zero_le _) ⟨_, rfl, Is36, Gs36, JRLx_s36, 0, rfl, ⟨by omega, by omega⟩, trivial⟩
      ·
        refine z_const X (show cdA 237 35 = some (.iconst 1, 1, 0, 0, 0) from rfl) ?_
        refine z_goto X (t := 40) (show cdA 237 36 = some (.goto 4, 3, 0, 0, 0) from rfl) (by decide) ?_
        refine z_const X (show cdA 237 40 = some (.iconst 1, 1, 0, 0, 0) from rfl) ?_
        refine z_callV X 179 (rm := rmN 187) (As := [.int (Int32.ofInt 1), .int (Int32.ofInt 1)]) (st := []) (show cdA 237 41 = some (.invokevirtual 229, 3, 187, 0, 0) from rfl) rfl (by decide) rfl (by rw [E.1, E.2.1, E.2.2.1]; exact k_bad G Is33 (by omega) (by omega)) ⟨by rw [E.2.2.2]; exact (show (rmN 187).frames + 1 ≤ (rmN 237).frames by decide), by rw [E.2.2.2]; exact (show 8 + (mNL (miB 187) + 11) + (rmN 187).locals ≤ (rmN 237).locals by decide), by rw [E.2.2.2]; exact (show 0 + (rmN 187).cells ≤ (rmN 237).cells by decide), by rw [E.2.2.2]; exact (show 0 + (rmN 187).slots ≤ (rmN 237).slots by decide)⟩ (Nat.le_of_ble_eq_true rfl) (fun vv s48 hq => ?_) (fun ee s48 hq => ?_)
        rotate_left
        · obtain ⟨Is48, Fs48, e49, hv, hrs48, hps48⟩ := hq; cases hv
        obtain ⟨Is48, Fs48, e49, hv, hrs48, hps48⟩ := hq
        cases hv
        have Gs48 := fm_ts Gs33 Fs48 (by decide) (by decide)
        have JRLx_s48 : RLx s48 := RLx_fm Fs48 (by decide) JRLx_s33
        have b50 : (0 : Int) ≤ iI s48 73 ∧ iI s48 73 ≤ 3 := Is48.1 73
        show WS k 44 [(0, .ref (A 179)), (1, .int (Int32.ofInt x)), (2, .int (Int32.ofInt y)), (3, .int (Int32.ofInt z))] [.int (Int32.ofInt e49)] (Wd A dT s48) 0 0
        refine z_if_eq X (t := 49) (show cdA 237 44 = some (.ifCond .eq 5, 3, 0, 0, 0) from rfl) (by decide) ⟨by omega, by omega⟩ (fun g51 => ?_) (fun g51 => ?_)
        ·
          refine z_aload_n X (x := A 179) (show cdA 237 49 = some (.aload_n 0, 1, 0, 0, 0) from rfl) (List.Mem.head _) ?_
          refine z_load_n X (x := x) (show cdA 237 50 = some (.iload_n 1, 1, 0, 0, 0) from rfl) (List.Mem.tail _ (List.Mem.head _)) ?_
          refine z_callV X 179 (rm := rmN 230) (As := [.int (Int32.ofInt x)]) (st := []) (show cdA 237 51 = some (.invokevirtual 327, 3, 230, 0, 0) from rfl) rfl (by decide) rfl (by rw [E.1, E.2.1, E.2.2.1]; exact k_setOf G Is48 (by omega)) ⟨by rw [E.2.2.2]; exact (show (rmN 230).frames + 1 ≤ (rmN 237).frames by decide), by rw [E.2.2.2]; exact (show 8 + (mNL (miB 230) + 11) + (rmN 230).locals ≤ (rmN 237).locals by decide), by rw [E.2.2.2]; exact (show 0 + (rmN 230).cells ≤ (rmN 237).cells by decide), by rw [E.2.2.2]; exact (show 0 + (rmN 230).slots ≤ (rmN 237).slots by decide)⟩ (Nat.le_of_ble_eq_true rfl) (fun vv s52 hq => ?_) (fun ee s52 hq => ?_)
          rotate_left
          · obtain ⟨Is52, Fs52, hv, hps52⟩ := hq; cases hv
          obtain ⟨Is52, Fs52, hv, hps52⟩ := hq
          cases hv
          have Gs52 := fm_ts Gs48 Fs52 (by decide) (by decide)
          have JRLx_s52 : RLx s52 := RLx_fm Fs52 (by decide) JRLx_s48
          have ws52_73 : iI s52 73 = iI s48 73 := fm_i Fs52 (by decide)
          show WS k 54 [(0, .ref (A 179)), (1, .int (Int32.ofInt x)), (2, .int (Int32.ofInt y)), (3, .int (Int32.ofInt z))] [] (Wd A dT s52) 0 0
          refine z_aload_n X (x := A 179) (show cdA 237 54 = some (.aload_n 0, 1, 0, 0, 0) from rfl) (List.Mem.head _) ?_
          refine z_load_n X (x := y) (show cdA 237 55 = some (.iload_n 2, 1, 0, 0, 0) from rfl) (List.Mem.tail _ (List.Mem.tail _ (List.Mem.head _))) ?_
          refine z_callV X 179 (rm := rmN 222) (As := [.int (Int32.ofInt y)]) (st := []) (show cdA 237 56 = some (.invokevirtual 333, 3, 222, 0, 0) from rfl) rfl (by decide) rfl (by rw [E.1, E.2.1, E.2.2.1]; exact k_asTold G Is52 JRLx_s52 (by omega)) ⟨by rw [E.2.2.2]; exact (show (rmN 222).frames + 1 ≤ (rmN 237).frames by decide), by rw [E.2.2.2]; exact (show 8 + (mNL (miB 222) + 11) + (rmN 222).locals ≤ (rmN 237).locals by decide), by rw [E.2.2.2]; exact (show 0 + (rmN 222).cells ≤ (rmN 237).cells by decide), by rw [E.2.2.2]; exact (show 0 + (rmN 222).slots ≤ (rmN 237).slots by decide)⟩ (Nat.le_of_ble_eq_true rfl) (fun vv s54 hq => ?_) (fun ee s54 hq => ?_)
          rotate_left
          · obtain ⟨Is54, Fs54, JRLx_s54, JNQ_s54, hv, hps54⟩ := hq; cases hv
          obtain ⟨Is54, Fs54, JRLx_s54, JNQ_s54, hv, hps54⟩ := hq
          cases hv
          have Gs54 := fm_ts Gs52 Fs54 (by decide) (by decide)
          have JRLx_s54 : RLx s54 := RLx_fm Fs54 (by decide) JRLx_s52
          have ws54_73 : iI s54 73 = iI s52 73 := fm_i Fs54 (by decide)
          show WS k 59 [(0, .ref (A 179)), (1, .int (Int32.ofInt x)), (2, .int (Int32.ofInt y)), (3, .int (Int32.ofInt z))] [] (Wd A dT s54) 0 0
          refine z_aload_n X (x := A 179) (show cdA 237 59 = some (.aload_n 0, 1, 0, 0, 0) from rfl) (List.Mem.head _) ?_
          have JNW_s54 : NW s54 := NW_of JNQ_s54 JRLx_s54
          refine z_callV X 179 (rm := rmN 228) (As := []) (st := []) (show cdA 237 60 = some (.invokevirtual 324, 3, 228, 0, 0) from rfl) rfl (by decide) rfl (by rw [E.1, E.2.1, E.2.2.1]; exact k_load G Is54 JNW_s54 ) ⟨by rw [E.2.2.2]; exact (show (rmN 228).frames + 1 ≤ (rmN 237).frames by decide), by rw [E.2.2.2]; exact (show 8 + (mNL (miB 228) + 11) + (rmN 228).locals ≤ (rmN 237).locals by decide), by rw [E.2.2.2]; exact (show 0 + (rmN 228).cells ≤ (rmN 237).cells by decide), by rw [E.2.2.2]; exact (show 0 + (rmN 228).slots ≤ (rmN 237).slots by decide)⟩ (Nat.le_of_ble_eq_true rfl) (fun vv s56 hq => ?_) (fun ee s56 hq => ?_)
          rotate_left
          · obtain ⟨Is56, Fs56, JNW_s56, e57, hv, hrs56, hps56⟩ := hq; cases hv
          obtain ⟨Is56, Fs56, JNW_s56, e57, hv, hrs56, hps56⟩ := hq
          cases hv
          have Gs56 := fm_ts Gs54 Fs56 (by decide) (by decide)
          have JRLx_s56 : RLx s56 := RLx_fm Fs56 (by decide) JRLx_s54
          have JNQ_s56 : NQ s56 := NQ_fm Fs56 (by decide) JNQ_s54
          have JNW_s56 : NW s56 := NW_fm Fs56 (by decide) JNW_s54
          have ws56_73 : iI s56 73 = iI s54 73 := fm_i Fs56 (by decide)
          show WS k 63 [(0, .ref (A 179)), (1, .int (Int32.ofInt x)), (2, .int (Int32.ofInt y)), (3, .int (Int32.ofInt z))] [.int (Int32.ofInt e57)] (Wd A dT s56) 0 0
          refine z_store X (lv' := [(4, .int (Int32.ofInt e57)), (0, .ref (A 179)), (1, .int (Int32.ofInt x)), (2, .int (Int32.ofInt y)), (3, .int (Int32.ofInt z))]) (show cdA 237 63 = some (.istore 4, 2, 0, 0, 0) from rfl) (by decide) (fun _ h => h) ?_
          refine z_load_n X (x := z) (show cdA 237 65 = some (.iload_n 3, 1, 0, 0, 0) from rfl) (List.Mem.tail _ (List.Mem.tail _ (List.Mem.tail _ (List.Mem.tail _ (List.Mem.head _))))) ?_
          refine z_const X (show cdA 237 66 = some (.iconst 4, 1, 0, 0, 0) from rfl) ?_
          refine z_icmp_ne X (t := 75) (show cdA 237 67 = some (.if_icmp .ne 8, 3, 1, 0, 0) from rfl) (by decide) ⟨by omega, by omega⟩ ⟨by omega, by omega⟩ (fun g58 => ?_) (fun g58 => ?_)
          ·
            refine z_aload_n X (x := A 179) (show cdA 237 75 = some (.aload_n 0, 1, 0, 0, 0) from rfl) (List.Mem.tail _ (List.Mem.head _)) ?_
            refine s_getR X 179 (show cdA 237 76 = some (.getfield 32, 3, 12, 21, 0) from rfl) (by decide) rfl rfl ?_
            refine z_load_n X (x := z) (show cdA 237 79 = some (.iload_n 3, 1, 0, 0, 0) from rfl) (List.Mem.tail _ (List.Mem.tail _ (List.Mem.tail _ (List.Mem.tail _ (List.Mem.head _))))) ?_
            refine z_ald X 184 (show cdA 237 80 = some (.iaload, 1, 0, 0, 0) from rfl) (by decide) rfl (by omega) (show z < 7 by omega) (by decide) ?_
            have b59 : ((-2147483648) : Int) ≤ iC s56 161 (z).toNat ∧ iC s56 161 (z).toNat ≤ 2147483647 := Is56.2 161 _ (show (z).toNat < 7 by omega)
            exact w_iret X.1 q hRt rfl (ax_d X (show cdA 237 81 = some (.ireturn, 1, 0, 0, 0) from rfl)) (Nat.zero_le _) (Nat.zero_le _) ⟨_, rfl, Is56, Gs56, JRLx_s56, (iC s56 161 (z).toNat), rfl, ⟨by omega, by omega⟩, trivial⟩
          ·
            refine z_load X (x := e57) (show cdA 237 70 = some (.iload 4, 2, 0, 0, 0) from rfl) (List.Mem.head _) ?_
            refine z_goto X (t := 81) (show cdA 237 72 = some (.goto 9, 3, 0, 0, 0) from rfl) (by decide) ?_
            exact w_iret X.1 q hRt rfl (ax_d X (show cdA 237 81 = some (.ireturn, 1, 0, 0, 0) from rfl)) (Nat.zero_le _) (Nat.zero_le _) ⟨_, rfl, Is56, Gs56, JRLx_s56, e57, rfl, ⟨by omega, by omega⟩, trivial⟩
        ·
          refine z_const X (show cdA 237 47 = some (.iconst 0, 1, 0, 0, 0) from rfl) ?_
          exact w_iret X.1 q hRt rfl (ax_d X (show cdA 237 48 = some (.ireturn, 1, 0, 0, 0) from rfl)) (Nat.zero_le _) (Nat.zero_le _) ⟨_, rfl, Is48, Gs48, JRLx_s48, 0, rfl, ⟨by omega, by omega⟩, trivial⟩
theorem k_peak (G : GX l s0 D tys a0 dT) (I : Bd s) (jRLx : RLx s) {x y : Int} (p0 : rng x) (p1 : rng y) : CT l s0 D A dT 238 (rmN 238) [.ref (A 179), .int (Int32.ofInt x), .int (Int32.ofInt y)] s (fun o t => Bd t ∧ Fm [73, 77, 75, 78, 79, 80, 81] [202, 204, 205, 206, 207, 208, 209, 210, 211, 212, 213, 214, 215, 216, 217, 218, 219, 220, 221, 222, 223, 224, 225, 226, 227, 203, 161, 230] s t ∧ RLx t ∧ ∃ e, o = .inl (some (.int (Int32.ofInt e))) ∧ rng e ∧ (True)) := by
  refine ct_of G (by decide) (Nat.le_of_ble_eq_true rfl) (fun k X E hRt hXt q => ?_)
  show WS k 0 [(0, .ref (A 179)), (1, .int (Int32.ofInt x)), (2, .int (Int32.ofInt y))] [] _ 0 0
  have F : Fm [73, 77, 75, 78, 79, 80, 81] [202, 204, 205, 206, 207, 208, 209, 210, 211, 212, 213, 214, 215, 216, 217, 218, 219, 220, 221, 222, 223, 224, 225, 226, 227, 203, 161, 230] s s := fm_rf _ _ s
  have b1 : (0 : Int) ≤ iI s 73 ∧ iI s 73 ≤ 3 := I.1 73
  have L48 : ∀ (n : Nat) (t : PS) (xv yv pk qq : Int), Bd t → Fm [73, 77, 75, 78, 79, 80, 81] [202, 204, 205, 206, 207, 208, 209, 210, 211, 212, 213, 214, 215, 216, 217, 218, 219, 220, 221, 222, 223, 224, 225, 226, 227, 203, 161, 230] s t → RLx t → (rng xv ∧ rng yv ∧ rng pk ∧ 0 ≤ qq ∧ qq ≤ 24) → 24 - qq ≤ n → (∀ (t' : PS) (qq' : Int), Bd t' → Fm [73, 77, 75, 78, 79, 80, 81] [202, 204, 205, 206, 207, 208, 209, 210, 211, 212, 213, 214, 215, 216, 217, 218, 219, 220, 221, 222, 223, 224, 225, 226, 227, 203, 161, 230] s t' → RLx t' → (rng xv ∧ rng yv ∧ rng pk ∧ 0 ≤ qq' ∧ qq' ≤ 24) → WS k 83 [(0, .ref (A 179)), (1, .int (Int32.ofInt xv)), (2, .int (Int32.ofInt yv)), (3, .int (Int32.ofInt pk)), (4, .int (Int32.ofInt qq'))] [] (Wd A dT t') 0 0) → WS k 48 [(0, .ref (A 179)), (1, .int (Int32.ofInt xv)), (2, .int (Int32.ofInt yv)), (3, .int (Int32.ofInt pk)), (4, .int (Int32.ofInt qq))] [] (Wd A dT t) 0 0 := by
    intro n
    induction n with
    | zero =>
      intro t xv yv pk qq I F jjRLx hi hm kx
      have b1001 : (0 : Int) ≤ iI t 73 ∧ iI t 73 ≤ 3 := I.1 73
      refine z_load X (x := qq) (show cdA 238 48 = some (.iload 4, 2, 0, 0, 0) from rfl) (List.Mem.tail _ (List.Mem.tail _ (List.Mem.tail _ (List.Mem.tail _ (List.Mem.head _))))) ?_
      refine z_bipush X (show cdA 238 50 = some (.bipush 24, 2, 0, 0, 24) from rfl) ?_
      refine z_icmp_ge X (t := 83) (show cdA 238 52 = some (.if_icmp .ge 31, 3, 3, 0, 0) from rfl) (by decide) ⟨by omega, by omega⟩ ⟨by omega, by omega⟩ (fun g1002 => ?_) (fun g1002 => ?_)
      ·
        refine WS_lv (lv := [(0, .ref (A 179)), (1, .int (Int32.ofInt xv)), (2, .int (Int32.ofInt yv)), (3, .int (Int32.ofInt pk)), (4, .int (Int32.ofInt qq))]) (List.forall_mem_cons.mpr ⟨(List.Mem.head _), (List.forall_mem_cons.mpr ⟨(List.Mem.tail _ (List.Mem.head _)), (List.forall_mem_cons.mpr ⟨(List.Mem.tail _ (List.Mem.tail _ (List.Mem.head _))), (List.forall_mem_cons.mpr ⟨(List.Mem.tail _ (List.Mem.tail _ (List.Mem.tail _ (List.Mem.head _)))), (List.forall_mem_cons.mpr ⟨(List.Mem.tail _ (List.Mem.tail _ (List.Mem.tail _ (List.Mem.tail _ (List.Mem.head _))))), (fun q h => absurd h List.not_mem_nil)⟩)⟩)⟩)⟩)⟩) ?_
        exact kx _ qq I F jjRLx (by omega)
      ·
        refine z_load_n X (x := yv) (show cdA 238 55 = some (.iload_n 2, 1, 0, 0, 0) from rfl) (List.Mem.tail _ (List.Mem.tail _ (List.Mem.head _))) ?_
        refine z_const X (show cdA 238 56 = some (.iconst 1, 1, 0, 0, 0) from rfl) ?_
        refine z_icmp_ne X (t := 83) (show cdA 238 57 = some (.if_icmp .ne 26, 3, 1, 0, 0) from rfl) (by decide) ⟨by omega, by omega⟩ ⟨by omega, by omega⟩ (fun g1003 => ?_) (fun g1003 => ?_)
        ·
          refine WS_lv (lv := [(0, .ref (A 179)), (1, .int (Int32.ofInt xv)), (2, .int (Int32.ofInt yv)), (3, .int (Int32.ofInt pk)), (4, .int (Int32.ofInt qq))]) (List.forall_mem_cons.mpr ⟨(List.Mem.head _), (List.forall_mem_cons.mpr ⟨(List.Mem.tail _ (List.Mem.head _)), (List.forall_mem_cons.mpr ⟨(List.Mem.tail _ (List.Mem.tail _ (List.Mem.head _))), (List.forall_mem_cons.mpr ⟨(List.Mem.tail _ (List.Mem.tail _ (List.Mem.tail _ (List.Mem.head _)))), (List.forall_mem_cons.mpr ⟨(List.Mem.tail _ (List.Mem.tail _ (List.Mem.tail _ (List.Mem.tail _ (List.Mem.head _))))), (fun q h => absurd h List.not_mem_nil)⟩)⟩)⟩)⟩)⟩) ?_
          exact kx _ qq I F jjRLx (by omega)
        ·
          refine z_aload_n X (x := A 179) (show cdA 238 60 = some (.aload_n 0, 1, 0, 0, 0) from rfl) (List.Mem.head _) ?_
          refine z_load X (x := qq) (show cdA 238 61 = some (.iload 4, 2, 0, 0, 0) from rfl) (List.Mem.tail _ (List.Mem.tail _ (List.Mem.tail _ (List.Mem.tail _ (List.Mem.head _))))) ?_
          refine z_callV X 179 (rm := rmN 222) (As := [.int (Int32.ofInt qq)]) (st := []) (show cdA 238 63 = some (.invokevirtual 333, 3, 222, 0, 0) from rfl) rfl (by decide) rfl (by rw [E.1, E.2.1, E.2.2.1]; exact k_asTold G I jjRLx (by omega)) ⟨by rw [E.2.2.2]; exact (show (rmN 222).frames + 1 ≤ (rmN 238).frames by decide), by rw [E.2.2.2]; exact (show 8 + (mNL (miB 222) + 11) + (rmN 222).locals ≤ (rmN 238).locals by decide), by rw [E.2.2.2]; exact (show 0 + (rmN 222).cells ≤ (rmN 238).cells by decide), by rw [E.2.2.2]; exact (show 0 + (rmN 222).slots ≤ (rmN 238).slots by decide)⟩ (Nat.le_of_ble_eq_true rfl) (fun vv s1004 hq => ?_) (fun ee s1004 hq => ?_)
          rotate_left
          · obtain ⟨Is1004, Fs1004, JRLx_s1004, JNQ_s1004, hv, hps1004⟩ := hq; cases hv
          obtain ⟨Is1004, Fs1004, JRLx_s1004, JNQ_s1004, hv, hps1004⟩ := hq
          cases hv
          have Gs1004 := fm_ts F Fs1004 (by decide) (by decide)
          have JRLx_s1004 : RLx s1004 := RLx_fm Fs1004 (by decide) jjRLx
          have ws1004_73 : iI s1004 73 = iI t 73 := fm_i Fs1004 (by decide)
          show WS k 66 [(0, .ref (A 179)), (1, .int (Int32.ofInt xv)), (2, .int (Int32.ofInt yv)), (3, .int (Int32.ofInt pk)), (4, .int (Int32.ofInt qq))] [] (Wd A dT s1004) 0 0
          refine z_aload_n X (x := A 179) (show cdA 238 66 = some (.aload_n 0, 1, 0, 0, 0) from rfl) (List.Mem.head _) ?_
          have JNW_s1004 : NW s1004 := NW_of JNQ_s1004 JRLx_s1004
          refine z_callV X 179 (rm := rmN 228) (As := []) (st := []) (show cdA 238 67 = some (.invokevirtual 324, 3, 228, 0, 0) from rfl) rfl (by decide) rfl (by rw [E.1, E.2.1, E.2.2.1]; exact k_load G Is1004 JNW_s1004 ) ⟨by rw [E.2.2.2]; exact (show (rmN 228).frames + 1 ≤ (rmN 238).frames by decide), by rw [E.2.2.2]; exact (show 8 + (mNL (miB 228) + 11) + (rmN 228).locals ≤ (rmN 238).locals by decide), by rw [E.2.2.2]; exact (show 0 + (rmN 228).cells ≤ (rmN 238).cells by decide), by rw [E.2.2.2]; exact (show 0 + (rmN 228).slots ≤ (rmN 238).slots by decide)⟩ (Nat.le_of_ble_eq_true rfl) (fun vv s1006 hq => ?_) (fun ee s1006 hq => ?_)
          rotate_left
          · obtain ⟨Is1006, Fs1006, JNW_s1006, e1007, hv, hrs1006, hps1006⟩ := hq; cases hv
          obtain ⟨Is1006, Fs1006, JNW_s1006, e1007, hv, hrs1006, hps1006⟩ := hq
          cases hv
          have Gs1006 := fm_ts Gs1004 Fs1006 (by decide) (by decide)
          have JRLx_s1006 : RLx s1006 := RLx_fm Fs1006 (by decide) JRLx_s1004
          have JNQ_s1006 : NQ s1006 := NQ_fm Fs1006 (by decide) JNQ_s1004
          have JNW_s1006 : NW s1006 := NW_fm Fs1006 (by decide) JNW_s1004
          have ws1006_73 : iI s1006 73 = iI s1004 73 := fm_i Fs1006 (by decide)
          show WS k 70 [(0, .ref (A 179)), (1, .int (Int32.ofInt xv)), (2, .int (Int32.ofInt yv)), (3, .int (Int32.ofInt pk)), (4, .int (Int32.ofInt qq))] [.int (Int32.ofInt e1007)] (Wd A dT s1006) 0 0
          refine z_load_n X (x := pk) (show cdA 238 70 = some (.iload_n 3, 1, 0, 0, 0) from rfl) (List.Mem.tail _ (List.Mem.tail _ (List.Mem.tail _ (List.Mem.head _)))) ?_
          refine z_icmp_ne X (t := 77) (show cdA 238 71 = some (.if_icmp .ne 6, 3, 1, 0, 0) from rfl) (by decide) ⟨by omega, by omega⟩ ⟨by omega, by omega⟩ (fun g1008 => ?_) (fun g1008 => ?_)
          ·
            refine z_inc X (x := qq) (lv' := [(4, .int (Int32.ofInt (qq + 1))), (0, .ref (A 179)), (1, .int (Int32.ofInt xv)), (2, .int (Int32.ofInt yv)), (3, .int (Int32.ofInt pk))]) (show cdA 238 77 = some (.iinc 4 1, 3, 0, 0, 0) from rfl) (by decide) (List.Mem.tail _ (List.Mem.tail _ (List.Mem.tail _ (List.Mem.tail _ (List.Mem.head _))))) (fun _ h => h) ?_
            refine z_goto X (t := 48) (show cdA 238 80 = some (.goto (-32), 3, 0, 0, 0) from rfl) (by decide) ?_
            exfalso
            omega
          ·
            refine z_load X (x := qq) (show cdA 238 74 = some (.iload 4, 2, 0, 0, 0) from rfl) (List.Mem.tail _ (List.Mem.tail _ (List.Mem.tail _ (List.Mem.tail _ (List.Mem.head _))))) ?_
            exact w_iret X.1 q hRt rfl (ax_d X (show cdA 238 76 = some (.ireturn, 1, 0, 0, 0) from rfl)) (Nat.zero_le _) (Nat.zero_le _) ⟨_, rfl, Is1006, Gs1006, JRLx_s1006, qq, rfl, ⟨by omega, by omega⟩, trivial⟩
    | succ n ih =>
      intro t xv yv pk qq I F jjRLx hi hm kx
      have b1001 : (0 : Int) ≤ iI t 73 ∧ iI t 73 ≤ 3 := I.1 73
      refine z_load X (x := qq) (show cdA 238 48 = some (.iload 4, 2, 0, 0, 0) from rfl) (List.Mem.tail _ (List.Mem.tail _ (List.Mem.tail _ (List.Mem.tail _ (List.Mem.head _))))) ?_
      refine z_bipush X (show cdA 238 50 = some (.bipush 24, 2, 0, 0, 24) from rfl) ?_
      refine z_icmp_ge X (t := 83) (show cdA 238 52 = some (.if_icmp .ge 31, 3, 3, 0, 0) from rfl) (by decide) ⟨by omega, by omega⟩ ⟨by omega, by omega⟩ (fun g1002 => ?_) (fun g1002 => ?_)
      ·
        refine WS_lv (lv := [(0, .ref (A 179)), (1, .int (Int32.ofInt xv)), (2, .int (Int32.ofInt yv)), (3, .int (Int32.ofInt pk)), (4, .int (Int32.ofInt qq))]) (List.forall_mem_cons.mpr ⟨(List.Mem.head _), (List.forall_mem_cons.mpr ⟨(List.Mem.tail _ (List.Mem.head _)), (List.forall_mem_cons.mpr ⟨(List.Mem.tail _ (List.Mem.tail _ (List.Mem.head _))), (List.forall_mem_cons.mpr ⟨(List.Mem.tail _ (List.Mem.tail _ (List.Mem.tail _ (List.Mem.head _)))), (List.forall_mem_cons.mpr ⟨(List.Mem.tail _ (List.Mem.tail _ (List.Mem.tail _ (List.Mem.tail _ (List.Mem.head _))))), (fun q h => absurd h List.not_mem_nil)⟩)⟩)⟩)⟩)⟩) ?_
        exact kx _ qq I F jjRLx (by omega)
      ·
        refine z_load_n X (x := yv) (show cdA 238 55 = some (.iload_n 2, 1, 0, 0, 0) from rfl) (List.Mem.tail _ (List.Mem.tail _ (List.Mem.head _))) ?_
        refine z_const X (show cdA 238 56 = some (.iconst 1, 1, 0, 0, 0) from rfl) ?_
        refine z_icmp_ne X (t := 83) (show cdA 238 57 = some (.if_icmp .ne 26, 3, 1, 0, 0) from rfl) (by decide) ⟨by omega, by omega⟩ ⟨by omega, by omega⟩ (fun g1003 => ?_) (fun g1003 => ?_)
        ·
          refine WS_lv (lv := [(0, .ref (A 179)), (1, .int (Int32.ofInt xv)), (2, .int (Int32.ofInt yv)), (3, .int (Int32.ofInt pk)), (4, .int (Int32.ofInt qq))]) (List.forall_mem_cons.mpr ⟨(List.Mem.head _), (List.forall_mem_cons.mpr ⟨(List.Mem.tail _ (List.Mem.head _)), (List.forall_mem_cons.mpr ⟨(List.Mem.tail _ (List.Mem.tail _ (List.Mem.head _))), (List.forall_mem_cons.mpr ⟨(List.Mem.tail _ (List.Mem.tail _ (List.Mem.tail _ (List.Mem.head _)))), (List.forall_mem_cons.mpr ⟨(List.Mem.tail _ (List.Mem.tail _ (List.Mem.tail _ (List.Mem.tail _ (List.Mem.head _))))), (fun q h => absurd h List.not_mem_nil)⟩)⟩)⟩)⟩)⟩) ?_
          exact kx _ qq I F jjRLx (by omega)
        ·
          refine z_aload_n X (x := A 179) (show cdA 238 60 = some (.aload_n 0, 1, 0, 0, 0) from rfl) (List.Mem.head _) ?_
          refine z_load X (x := qq) (show cdA 238 61 = some (.iload 4, 2, 0, 0, 0) from rfl) (List.Mem.tail _ (List.Mem.tail _ (List.Mem.tail _ (List.Mem.tail _ (List.Mem.head _))))) ?_
          refine z_callV X 179 (rm := rmN 222) (As := [.int (Int32.ofInt qq)]) (st := []) (show cdA 238 63 = some (.invokevirtual 333, 3, 222, 0, 0) from rfl) rfl (by decide) rfl (by rw [E.1, E.2.1, E.2.2.1]; exact k_asTold G I jjRLx (by omega)) ⟨by rw [E.2.2.2]; exact (show (rmN 222).frames + 1 ≤ (rmN 238).frames by decide), by rw [E.2.2.2]; exact (show 8 + (mNL (miB 222) + 11) + (rmN 222).locals ≤ (rmN 238).locals by decide), by rw [E.2.2.2]; exact (show 0 + (rmN 222).cells ≤ (rmN 238).cells by decide), by rw [E.2.2.2]; exact (show 0 + (rmN 222).slots ≤ (rmN 238).slots by decide)⟩ (Nat.le_of_ble_eq_true rfl) (fun vv s1004 hq => ?_) (fun ee s1004 hq => ?_)
          rotate_left
          · obtain ⟨Is1004, Fs1004, JRLx_s1004, JNQ_s1004, hv, hps1004⟩ := hq; cases hv
          obtain ⟨Is1004, Fs1004, JRLx_s1004, JNQ_s1004, hv, hps1004⟩ := hq
          cases hv
          have Gs1004 := fm_ts F Fs1004 (by decide) (by decide)
          have JRLx_s1004 : RLx s1004 := RLx_fm Fs1004 (by decide) jjRLx
          have ws1004_73 : iI s1004 73 = iI t 73 := fm_i Fs1004 (by decide)
          show WS k 66 [(0, .ref (A 179)), (1, .int (Int32.ofInt xv)), (2, .int (Int32.ofInt yv)), (3, .int (Int32.ofInt pk)), (4, .int (Int32.ofInt qq))] [] (Wd A dT s1004) 0 0
          refine z_aload_n X (x := A 179) (show cdA 238 66 = some (.aload_n 0, 1, 0, 0, 0) from rfl) (List.Mem.head _) ?_
          have JNW_s1004 : NW s1004 := NW_of JNQ_s1004 JRLx_s1004
          refine z_callV X 179 (rm := rmN 228) (As := []) (st := []) (show cdA 238 67 = some (.invokevirtual 324, 3, 228, 0, 0) from rfl) rfl (by decide) rfl (by rw [E.1, E.2.1, E.2.2.1]; exact k_load G Is1004 JNW_s1004 ) ⟨by rw [E.2.2.2]; exact (show (rmN 228).frames + 1 ≤ (rmN 238).frames by decide), by rw [E.2.2.2]; exact (show 8 + (mNL (miB 228) + 11) + (rmN 228).locals ≤ (rmN 238).locals by decide), by rw [E.2.2.2]; exact (show 0 + (rmN 228).cells ≤ (rmN 238).cells by decide), by rw [E.2.2.2]; exact (show 0 + (rmN 228).slots ≤ (rmN 238).slots by decide)⟩ (Nat.le_of_ble_eq_true rfl) (fun vv s1006 hq => ?_) (fun ee s1006 hq => ?_)
          rotate_left
          · obtain ⟨Is1006, Fs1006, JNW_s1006, e1007, hv, hrs1006, hps1006⟩ := hq; cases hv
          obtain ⟨Is1006, Fs1006, JNW_s1006, e1007, hv, hrs1006, hps1006⟩ := hq
          cases hv
          have Gs1006 := fm_ts Gs1004 Fs1006 (by decide) (by decide)
          have JRLx_s1006 : RLx s1006 := RLx_fm Fs1006 (by decide) JRLx_s1004
          have JNQ_s1006 : NQ s1006 := NQ_fm Fs1006 (by decide) JNQ_s1004
          have JNW_s1006 : NW s1006 := NW_fm Fs1006 (by decide) JNW_s1004
          have ws1006_73 : iI s1006 73 = iI s1004 73 := fm_i Fs1006 (by decide)
          show WS k 70 [(0, .ref (A 179)), (1, .int (Int32.ofInt xv)), (2, .int (Int32.ofInt yv)), (3, .int (Int32.ofInt pk)), (4, .int (Int32.ofInt qq))] [.int (Int32.ofInt e1007)] (Wd A dT s1006) 0 0
          refine z_load_n X (x := pk) (show cdA 238 70 = some (.iload_n 3, 1, 0, 0, 0) from rfl) (List.Mem.tail _ (List.Mem.tail _ (List.Mem.tail _ (List.Mem.head _)))) ?_
          refine z_icmp_ne X (t := 77) (show cdA 238 71 = some (.if_icmp .ne 6, 3, 1, 0, 0) from rfl) (by decide) ⟨by omega, by omega⟩ ⟨by omega, by omega⟩ (fun g1008 => ?_) (fun g1008 => ?_)
          ·
            refine z_inc X (x := qq) (lv' := [(4, .int (Int32.ofInt (qq + 1))), (0, .ref (A 179)), (1, .int (Int32.ofInt xv)), (2, .int (Int32.ofInt yv)), (3, .int (Int32.ofInt pk))]) (show cdA 238 77 = some (.iinc 4 1, 3, 0, 0, 0) from rfl) (by decide) (List.Mem.tail _ (List.Mem.tail _ (List.Mem.tail _ (List.Mem.tail _ (List.Mem.head _))))) (fun _ h => h) ?_
            refine z_goto X (t := 48) (show cdA 238 80 = some (.goto (-32), 3, 0, 0, 0) from rfl) (by decide) ?_
            refine WS_lv (lv := [(0, .ref (A 179)), (1, .int (Int32.ofInt xv)), (2, .int (Int32.ofInt yv)), (3, .int (Int32.ofInt pk)), (4, .int (Int32.ofInt (qq + 1)))]) (List.forall_mem_cons.mpr ⟨(List.Mem.tail _ (List.Mem.head _)), (List.forall_mem_cons.mpr ⟨(List.Mem.tail _ (List.Mem.tail _ (List.Mem.head _))), (List.forall_mem_cons.mpr ⟨(List.Mem.tail _ (List.Mem.tail _ (List.Mem.tail _ (List.Mem.head _)))), (List.forall_mem_cons.mpr ⟨(List.Mem.tail _ (List.Mem.tail _ (List.Mem.tail _ (List.Mem.tail _ (List.Mem.head _))))), (List.forall_mem_cons.mpr ⟨(List.Mem.head _), (fun q h => absurd h List.not_mem_nil)⟩)⟩)⟩)⟩)⟩) ?_
            exact ih _ xv yv pk (qq + 1) Is1006 Gs1006 JRLx_s1006 (by omega) (by omega) kx
          ·
            refine z_load X (x := qq) (show cdA 238 74 = some (.iload 4, 2, 0, 0, 0) from rfl) (List.Mem.tail _ (List.Mem.tail _ (List.Mem.tail _ (List.Mem.tail _ (List.Mem.head _))))) ?_
            exact w_iret X.1 q hRt rfl (ax_d X (show cdA 238 76 = some (.ireturn, 1, 0, 0, 0) from rfl)) (Nat.zero_le _) (Nat.zero_le _) ⟨_, rfl, Is1006, Gs1006, JRLx_s1006, qq, rfl, ⟨by omega, by omega⟩, trivial⟩
  refine z_aload_n X (x := A 179) (show cdA 238 0 = some (.aload_n 0, 1, 0, 0, 0) from rfl) (List.Mem.head _) ?_
  refine z_const X (show cdA 238 1 = some (.iconst 0, 1, 0, 0, 0) from rfl) ?_
  refine s_putI X 179 (show cdA 238 2 = some (.putfield 172, 3, 12, 0, 0) from rfl) (by decide) rfl rfl (by decide) rfl rfl rfl ?_
  obtain ⟨s2, hs2⟩ : ∃ x0, x0 = uI s 73 (Int32.ofInt 0) := ⟨_, rfl⟩
  rw [← hs2]
  have Is2 : Bd s2 := by rw [hs2]; exact bd_I I (show (0 : Int) ≤ 0 ∧ 0 ≤ 3 by omega) ⟨by omega, by omega⟩
  have Fs2 := fm_I (x := Int32.ofInt 0) F (show 73 ∈ _ by decide)
  rw [← hs2] at Fs2
  have vs2 : iI s2 73 = 0 := by rw [hs2]; exact iI_u ⟨by omega, by omega⟩
  have fs2 : Fm [73] [] s s2 := by rw [hs2]; exact fm_I (fm_rf _ _ _) (show 73 ∈ _ by decide)
  have JRLx_s2 : RLx s2 := RLx_fm fs2 (by decide) jRLx
  refine z_aload_n X (x := A 179) (show cdA 238 5 = some (.aload_n 0, 1, 0, 0, 0) from rfl) (List.Mem.head _) ?_
  refine z_load_n X (x := x) (show cdA 238 6 = some (.iload_n 1, 1, 0, 0, 0) from rfl) (List.Mem.tail _ (List.Mem.head _)) ?_
  refine z_const X (show cdA 238 7 = some (.iconst 0, 1, 0, 0, 0) from rfl) ?_
  refine z_bipush X (show cdA 238 8 = some (.bipush 7, 2, 0, 0, 7) from rfl) ?_
  refine z_callS X (rm := rmN 188) (As := [.int (Int32.ofInt x), .int (Int32.ofInt 0), .int (Int32.ofInt 7)]) (st := [.ref (A 179)]) (show cdA 238 10 = some (.invokestatic 209, 3, 188, 1, 0) from rfl) rfl (by rw [E.1, E.2.1, E.2.2.1]; exact k_in G Is2 (by omega) (by omega) (by omega)) ⟨by rw [E.2.2.2]; exact (show (rmN 188).frames + 1 ≤ (rmN 238).frames by decide), by rw [E.2.2.2]; exact (show 8 + (mNL (miB 188) + 11) + (rmN 188).locals ≤ (rmN 238).locals by decide), by rw [E.2.2.2]; exact (show 0 + (rmN 188).cells ≤ (rmN 238).cells by decide), by rw [E.2.2.2]; exact (show 0 + (rmN 188).slots ≤ (rmN 238).slots by decide)⟩ (Nat.le_of_ble_eq_true rfl) (fun vv s3 hq => ?_) (fun ee s3 hq => ?_)
  rotate_left
  · obtain ⟨Is3, Fs3, e4, hv, hrs3, hps3⟩ := hq; cases hv
  obtain ⟨Is3, Fs3, e4, hv, hrs3, hps3⟩ := hq
  cases hv
  have Gs3 := fm_ts Fs2 Fs3 (by decide) (by decide)
  have JRLx_s3 : RLx s3 := RLx_fm Fs3 (by decide) JRLx_s2
  have ws3_73 : iI s3 73 = iI s2 73 := fm_i Fs3 (by decide)
  show WS k 13 [(0, .ref (A 179)), (1, .int (Int32.ofInt x)), (2, .int (Int32.ofInt y))] [.int (Int32.ofInt e4), .ref (A 179)] (Wd A dT s3) 0 0
  refine z_if_eq X (t := 25) (show cdA 238 13 = some (.ifCond .eq 12, 3, 0, 0, 0) from rfl) (by decide) ⟨by omega, by omega⟩ (fun g5 => ?_) (fun g5 => ?_)
  ·
    refine z_const X (show cdA 238 25 = some (.iconst 1, 1, 0, 0, 0) from rfl) ?_
    refine z_goto X (t := 30) (show cdA 238 26 = some (.goto 4, 3, 0, 0, 0) from rfl) (by decide) ?_
    refine z_const X (show cdA 238 30 = some (.iconst 1, 1, 0, 0, 0) from rfl) ?_
    refine z_callV X 179 (rm := rmN 187) (As := [.int (Int32.ofInt 1), .int (Int32.ofInt 1)]) (st := []) (show cdA 238 31 = some (.invokevirtual 229, 3, 187, 0, 0) from rfl) rfl (by decide) rfl (by rw [E.1, E.2.1, E.2.2.1]; exact k_bad G Is3 (by omega) (by omega)) ⟨by rw [E.2.2.2]; exact (show (rmN 187).frames + 1 ≤ (rmN 238).frames by decide), by rw [E.2.2.2]; exact (show 8 + (mNL (miB 187) + 11) + (rmN 187).locals ≤ (rmN 238).locals by decide), by rw [E.2.2.2]; exact (show 0 + (rmN 187).cells ≤ (rmN 238).cells by decide), by rw [E.2.2.2]; exact (show 0 + (rmN 187).slots ≤ (rmN 238).slots by decide)⟩ (Nat.le_of_ble_eq_true rfl) (fun vv s6 hq => ?_) (fun ee s6 hq => ?_)
    rotate_left
    · obtain ⟨Is6, Fs6, e7, hv, hrs6, hps6⟩ := hq; cases hv
    obtain ⟨Is6, Fs6, e7, hv, hrs6, hps6⟩ := hq
    cases hv
    have Gs6 := fm_ts Gs3 Fs6 (by decide) (by decide)
    have JRLx_s6 : RLx s6 := RLx_fm Fs6 (by decide) JRLx_s3
    have b8 : (0 : Int) ≤ iI s6 73 ∧ iI s6 73 ≤ 3 := Is6.1 73
    show WS k 34 [(0, .ref (A 179)), (1, .int (Int32.ofInt x)), (2, .int (Int32.ofInt y))] [.int (Int32.ofInt e7)] (Wd A dT s6) 0 0
    refine z_if_eq X (t := 39) (show cdA 238 34 = some (.ifCond .eq 5, 3, 0, 0, 0) from rfl) (by decide) ⟨by omega, by omega⟩ (fun g9 => ?_) (fun g9 => ?_)
    ·
      refine z_aload_n X (x := A 179) (show cdA 238 39 = some (.aload_n 0, 1, 0, 0, 0) from rfl) (List.Mem.head _) ?_
      refine z_load_n X (x := x) (show cdA 238 40 = some (.iload_n 1, 1, 0, 0, 0) from rfl) (List.Mem.tail _ (List.Mem.head _)) ?_
      refine z_callV X 179 (rm := rmN 232) (As := [.int (Int32.ofInt x)]) (st := []) (show cdA 238 41 = some (.invokevirtual 336, 3, 232, 0, 0) from rfl) rfl (by decide) rfl (by rw [E.1, E.2.1, E.2.2.1]; exact k_peakOfPiece G Is6 JRLx_s6 (by omega)) ⟨by rw [E.2.2.2]; exact (show (rmN 232).frames + 1 ≤ (rmN 238).frames by decide), by rw [E.2.2.2]; exact (show 8 + (mNL (miB 232) + 11) + (rmN 232).locals ≤ (rmN 238).locals by decide), by rw [E.2.2.2]; exact (show 0 + (rmN 232).cells ≤ (rmN 238).cells by decide), by rw [E.2.2.2]; exact (show 0 + (rmN 232).slots ≤ (rmN 238).slots by decide)⟩ (Nat.le_of_ble_eq_true rfl) (fun vv s10 hq => ?_) (fun ee s10 hq => ?_)
      rotate_left
      · obtain ⟨Is10, Fs10, JRLx_s10, e11, hv, hrs10, hps10⟩ := hq; cases hv
      obtain ⟨Is10, Fs10, JRLx_s10, e11, hv, hrs10, hps10⟩ := hq
      cases hv
      have Gs10 := fm_ts Gs6 Fs10 (by decide) (by decide)
      have JRLx_s10 : RLx s10 := RLx_fm Fs10 (by decide) JRLx_s6
      have ws10_73 : iI s10 73 = iI s6 73 := fm_i Fs10 (by decide)
      show WS k 44 [(0, .ref (A 179)), (1, .int (Int32.ofInt x)), (2, .int (Int32.ofInt y))] [.int (Int32.ofInt e11)] (Wd A dT s10) 0 0
      refine z_store_n X (lv' := [(3, .int (Int32.ofInt e11)), (0, .ref (A 179)), (1, .int (Int32.ofInt x)), (2, .int (Int32.ofInt y))]) (show cdA 238 44 = some (.istore_n 3, 1, 0, 0, 0) from rfl) (by decide) (fun _ h => h) ?_
      refine z_const X (show cdA 238 45 = some (.iconst 0, 1, 0, 0, 0) from rfl) ?_
      refine z_store X (lv' := [(4, .int (Int32.ofInt 0)), (3, .int (Int32.ofInt e11)), (0, .ref (A 179)), (1, .int (Int32.ofInt x)), (2, .int (Int32.ofInt y))]) (show cdA 238 46 = some (.istore 4, 2, 0, 0, 0) from rfl) (by decide) (fun _ h => h) ?_
      refine WS_lv (lv := [(0, .ref (A 179)), (1, .int (Int32.ofInt x)), (2, .int (Int32.ofInt y)), (3, .int (Int32.ofInt e11)), (4, .int (Int32.ofInt 0))]) (List.forall_mem_cons.mpr ⟨(List.Mem.tail _ (List.Mem.tail _ (List.Mem.head _))), (List.forall_mem_cons.mpr ⟨(List.Mem.tail _ (List.Mem.tail _ (List.Mem.tail _ (List.Mem.head _)))), (List.forall_mem_cons.mpr ⟨(List.Mem.tail _ (List.Mem.tail _ (List.Mem.tail _ (List.Mem.tail _ (List.Mem.head _))))), (List.forall_mem_cons.mpr ⟨(List.Mem.tail _ (List.Mem.head _)), (List.forall_mem_cons.mpr ⟨(List.Mem.head _), (fun q h => absurd h List.not_mem_nil)⟩)⟩)⟩)⟩)⟩) ?_
      refine L48 ((24 - 0 : Int)).toNat s10 x y e11 0 Is10 Gs10 JRLx_s10 (by omega) (by omega) ?_
      intro s12 x13 Is12 Fs12 JRLx_s12 hs12
      have b14 : (0 : Int) ≤ iI s12 73 ∧ iI s12 73 ≤ 3 := Is12.1 73
      refine z_load_n X (x := e11) (show cdA 238 83 = some (.iload_n 3, 1, 0, 0, 0) from rfl) (List.Mem.tail _ (List.Mem.tail _ (List.Mem.tail _ (List.Mem.head _)))) ?_
      exact w_iret X.1 q hRt rfl (ax_d X (show cdA 238 84 = some (.ireturn, 1, 0, 0, 0) from rfl)) (Nat.zero_le _) (Nat.zero_le _) ⟨_, rfl, Is12, Fs12, JRLx_s12, e11, rfl, ⟨by omega, by omega⟩, trivial⟩
    ·
      refine z_const X (show cdA 238 37 = some (.iconst 0, 1, 0, 0, 0) from rfl) ?_
      exact w_iret X.1 q hRt rfl (ax_d X (show cdA 238 38 = some (.ireturn, 1, 0, 0, 0) from rfl)) (Nat.zero_le _) (Nat.zero_le _) ⟨_, rfl, Is6, Gs6, JRLx_s6, 0, rfl, ⟨by omega, by omega⟩, trivial⟩
  ·
    refine z_load_n X (x := y) (show cdA 238 16 = some (.iload_n 2, 1, 0, 0, 0) from rfl) (List.Mem.tail _ (List.Mem.tail _ (List.Mem.head _))) ?_
    refine z_const X (show cdA 238 17 = some (.iconst 0, 1, 0, 0, 0) from rfl) ?_
    refine z_const X (show cdA 238 18 = some (.iconst 1, 1, 0, 0, 0) from rfl) ?_
    refine z_callS X (rm := rmN 188) (As := [.int (Int32.ofInt y), .int (Int32.ofInt 0), .int (Int32.ofInt 1)]) (st := [.ref (A 179)]) (show cdA 238 19 = some (.invokestatic 209, 3, 188, 1, 0) from rfl) rfl (by rw [E.1, E.2.1, E.2.2.1]; exact k_in G Is3 (by omega) (by omega) (by omega)) ⟨by rw [E.2.2.2]; exact (show (rmN 188).frames + 1 ≤ (rmN 238).frames by decide), by rw [E.2.2.2]; exact (show 8 + (mNL (miB 188) + 11) + (rmN 188).locals ≤ (rmN 238).locals by decide), by rw [E.2.2.2]; exact (show 0 + (rmN 188).cells ≤ (rmN 238).cells by decide), by rw [E.2.2.2]; exact (show 0 + (rmN 188).slots ≤ (rmN 238).slots by decide)⟩ (Nat.le_of_ble_eq_true rfl) (fun vv s15 hq => ?_) (fun ee s15 hq => ?_)
    rotate_left
    · obtain ⟨Is15, Fs15, e16, hv, hrs15, hps15⟩ := hq; cases hv
    obtain ⟨Is15, Fs15, e16, hv, hrs15, hps15⟩ := hq
    cases hv
    have Gs15 := fm_ts Gs3 Fs15 (by decide) (by decide)
    have JRLx_s15 : RLx s15 := RLx_fm Fs15 (by decide) JRLx_s3
    have ws15_73 : iI s15 73 = iI s3 73 := fm_i Fs15 (by decide)
    show WS k 22 [(0, .ref (A 179)), (1, .int (Int32.ofInt x)), (2, .int (Int32.ofInt y))] [.int (Int32.ofInt e16), .ref (A 179)] (Wd A dT s15) 0 0
    refine z_if_ne X (t := 29) (show cdA 238 22 = some (.ifCond .ne 7, 3, 1, 0, 0) from rfl) (by decide) ⟨by omega, by omega⟩ (fun g17 => ?_) (fun g17 => ?_)
    ·
      refine z_const X (show cdA 238 29 = some (.iconst 0, 1, 0, 0, 0) from rfl) ?_
      refine z_const X (show cdA 238 30 = some (.iconst 1, 1, 0, 0, 0) from rfl) ?_
      refine z_callV X 179 (rm := rmN 187) (As := [.int (Int32.ofInt 0), .int (Int32.ofInt 1)]) (st := []) (show cdA 238 31 = some (.invokevirtual 229, 3, 187, 0, 0) from rfl) rfl (by decide) rfl (by rw [E.1, E.2.1, E.2.2.1]; exact k_bad G Is15 (by omega) (by omega)) ⟨by rw [E.2.2.2]; exact (show (rmN 187).frames + 1 ≤ (rmN 238).frames by decide), by rw [E.2.2.2]; exact (show 8 + (mNL (miB 187) + 11) + (rmN 187).locals ≤ (rmN 238).locals by decide), by rw [E.2.2.2]; exact (show 0 + (rmN 187).cells ≤ (rmN 238).cells by decide), by rw [E.2.2.2]; exact (show 0 + (rmN 187).slots ≤ (rmN 238).slots by decide)⟩ (Nat.le_of_ble_eq_true rfl) (fun vv s18 hq => ?_) (fun ee s18 hq => ?_)
      rotate_left
      · obtain ⟨Is18, Fs18, e19, hv, hrs18, hps18⟩ := hq; cases hv
      obtain ⟨Is18, Fs18, e19, hv, hrs18, hps18⟩ := hq
      cases hv
      have Gs18 := fm_ts Gs15 Fs18 (by decide) (by decide)
      have JRLx_s18 : RLx s18 := RLx_fm Fs18 (by decide) JRLx_s15
      have b20 : (0 : Int) ≤ iI s18 73 ∧ iI s18 73 ≤ 3 := Is18.1 73
      show WS k 34 [(0, .ref (A 179)), (1, .int (Int32.ofInt x)), (2, .int (Int32.ofInt y))] [.int (Int32.ofInt e19)] (Wd A dT s18) 0 0
      refine z_if_eq X (t := 39) (show cdA 238 34 = some (.ifCond .eq 5, 3, 0, 0, 0) from rfl) (by decide) ⟨by omega, by omega⟩ (fun g21 => ?_) (fun g21 => ?_)
      ·
        refine z_aload_n X (x := A 179) (show cdA 238 39 = some (.aload_n 0, 1, 0, 0, 0) from rfl) (List.Mem.head _) ?_
        refine z_load_n X (x := x) (show cdA 238 40 = some (.iload_n 1, 1, 0, 0, 0) from rfl) (List.Mem.tail _ (List.Mem.head _)) ?_
        refine z_callV X 179 (rm := rmN 232) (As := [.int (Int32.ofInt x)]) (st := []) (show cdA 238 41 = some (.invokevirtual 336, 3, 232, 0, 0) from rfl) rfl (by decide) rfl (by rw [E.1, E.2.1, E.2.2.1]; exact k_peakOfPiece G Is18 JRLx_s18 (by omega)) ⟨by rw [E.2.2.2]; exact (show (rmN 232).frames + 1 ≤ (rmN 238).frames by decide), by rw [E.2.2.2]; exact (show 8 + (mNL (miB 232) + 11) + (rmN 232).locals ≤ (rmN 238).locals by decide), by rw [E.2.2.2]; exact (show 0 + (rmN 232).cells ≤ (rmN 238).cells by decide), by rw [E.2.2.2]; exact (show 0 + (rmN 232).slots ≤ (rmN 238).slots by decide)⟩ (Nat.le_of_ble_eq_true rfl) (fun vv s22 hq => ?_) (fun ee s22 hq => ?_)
        rotate_left
        · obtain ⟨Is22, Fs22, JRLx_s22, e23, hv, hrs22, hps22⟩ := hq; cases hv
        obtain ⟨Is22, Fs22, JRLx_s22, e23, hv, hrs22, hps22⟩ := hq
        cases hv
        have Gs22 := fm_ts Gs18 Fs22 (by decide) (by decide)
        have JRLx_s22 : RLx s22 := RLx_fm Fs22 (by decide) JRLx_s18
        have ws22_73 : iI s22 73 = iI s18 73 := fm_i Fs22 (by decide)
        show WS k 44 [(0, .ref (A 179)), (1, .int (Int32.ofInt x)), (2, .int (Int32.ofInt y))] [.int (Int32.ofInt e23)] (Wd A dT s22) 0 0
        refine z_store_n X (lv' := [(3, .int (Int32.ofInt e23)), (0, .ref (A 179)), (1, .int (Int32.ofInt x)), (2, .int (Int32.ofInt y))]) (show cdA 238 44 = some (.istore_n 3, 1, 0, 0, 0) from rfl) (by decide) (fun _ h => h) ?_
        refine z_const X (show cdA 238 45 = some (.iconst 0, 1, 0, 0, 0) from rfl) ?_
        refine z_store X (lv' := [(4, .int (Int32.ofInt 0)), (3, .int (Int32.ofInt e23)), (0, .ref (A 179)), (1, .int (Int32.ofInt x)), (2, .int (Int32.ofInt y))]) (show cdA 238 46 = some (.istore 4, 2, 0, 0, 0) from rfl) (by decide) (fun _ h => h) ?_
        refine WS_lv (lv := [(0, .ref (A 179)), (1, .int (Int32.ofInt x)), (2, .int (Int32.ofInt y)), (3, .int (Int32.ofInt e23)), (4, .int (Int32.ofInt 0))]) (List.forall_mem_cons.mpr ⟨(List.Mem.tail _ (List.Mem.tail _ (List.Mem.head _))), (List.forall_mem_cons.mpr ⟨(List.Mem.tail _ (List.Mem.tail _ (List.Mem.tail _ (List.Mem.head _)))), (List.forall_mem_cons.mpr ⟨(List.Mem.tail _ (List.Mem.tail _ (List.Mem.tail _ (List.Mem.tail _ (List.Mem.head _))))), (List.forall_mem_cons.mpr ⟨(List.Mem.tail _ (List.Mem.head _)), (List.forall_mem_cons.mpr ⟨(List.Mem.head _), (fun q h => absurd h List.not_mem_nil)⟩)⟩)⟩)⟩)⟩) ?_
        refine L48 ((24 - 0 : Int)).toNat s22 x y e23 0 Is22 Gs22 JRLx_s22 (by omega) (by omega) ?_
        intro s24 x25 Is24 Fs24 JRLx_s24 hs24
        have b26 : (0 : Int) ≤ iI s24 73 ∧ iI s24 73 ≤ 3 := Is24.1 73
        refine z_load_n X (x := e23) (show cdA 238 83 = some (.iload_n 3, 1, 0, 0, 0) from rfl) (List.Mem.tail _ (List.Mem.tail _ (List.Mem.tail _ (List.Mem.head _)))) ?_
        exact w_iret X.1 q hRt rfl (ax_d X (show cdA 238 84 = some (.ireturn, 1, 0, 0, 0) from rfl)) (Nat.zero_le _) (Nat.zero_le _) ⟨_, rfl, Is24, Fs24, JRLx_s24, e23, rfl, ⟨by omega, by omega⟩, trivial⟩
      ·
        refine z_const X (show cdA 238 37 = some (.iconst 0, 1, 0, 0, 0) from rfl) ?_
        exact w_iret X.1 q hRt rfl (ax_d X (show cdA 238 38 = some (.ireturn, 1, 0, 0, 0) from rfl)) (Nat.zero_le _) (Nat.zero_le _) ⟨_, rfl, Is18, Gs18, JRLx_s18, 0, rfl, ⟨by omega, by omega⟩, trivial⟩
    ·
      refine z_const X (show cdA 238 25 = some (.iconst 1, 1, 0, 0, 0) from rfl) ?_
      refine z_goto X (t := 30) (show cdA 238 26 = some (.goto 4, 3, 0, 0, 0) from rfl) (by decide) ?_
      refine z_const X (show cdA 238 30 = some (.iconst 1, 1, 0, 0, 0) from rfl) ?_
      refine z_callV X 179 (rm := rmN 187) (As := [.int (Int32.ofInt 1), .int (Int32.ofInt 1)]) (st := []) (show cdA 238 31 = some (.invokevirtual 229, 3, 187, 0, 0) from rfl) rfl (by decide) rfl (by rw [E.1, E.2.1, E.2.2.1]; exact k_bad G Is15 (by omega) (by omega)) ⟨by rw [E.2.2.2]; exact (show (rmN 187).frames + 1 ≤ (rmN 238).frames by decide), by rw [E.2.2.2]; exact (show 8 + (mNL (miB 187) + 11) + (rmN 187).locals ≤ (rmN 238).locals by decide), by rw [E.2.2.2]; exact (show 0 + (rmN 187).cells ≤ (rmN 238).cells by decide), by rw [E.2.2.2]; exact (show 0 + (rmN 187).slots ≤ (rmN 238).slots by decide)⟩ (Nat.le_of_ble_eq_true rfl) (fun vv s27 hq => ?_) (fun ee s27 hq => ?_)
      rotate_left
      · obtain ⟨Is27, Fs27, e28, hv, hrs27, hps27⟩ := hq; cases hv
      obtain ⟨Is27, Fs27, e28, hv, hrs27, hps27⟩ := hq
      cases hv
      have Gs27 := fm_ts Gs15 Fs27 (by decide) (by decide)
      have JRLx_s27 : RLx s27 := RLx_fm Fs27 (by decide) JRLx_s15
      have b29 : (0 : Int) ≤ iI s27 73 ∧ iI s27 73 ≤ 3 := Is27.1 73
      show WS k 34 [(0, .ref (A 179)), (1, .int (Int32.ofInt x)), (2, .int (Int32.ofInt y))] [.int (Int32.ofInt e28)] (Wd A dT s27) 0 0
      refine z_if_eq X (t := 39) (show cdA 238 34 = some (.ifCond .eq 5, 3, 0, 0, 0) from rfl) (by decide) ⟨by omega, by omega⟩ (fun g30 => ?_) (fun g30 => ?_)
      ·
        refine z_aload_n X (x := A 179) (show cdA 238 39 = some (.aload_n 0, 1, 0, 0, 0) from rfl) (List.Mem.head _) ?_
        refine z_load_n X (x := x) (show cdA 238 40 = some (.iload_n 1, 1, 0, 0, 0) from rfl) (List.Mem.tail _ (List.Mem.head _)) ?_
        refine z_callV X 179 (rm := rmN 232) (As := [.int (Int32.ofInt x)]) (st := []) (show cdA 238 41 = some (.invokevirtual 336, 3, 232, 0, 0) from rfl) rfl (by decide) rfl (by rw [E.1, E.2.1, E.2.2.1]; exact k_peakOfPiece G Is27 JRLx_s27 (by omega)) ⟨by rw [E.2.2.2]; exact (show (rmN 232).frames + 1 ≤ (rmN 238).frames by decide), by rw [E.2.2.2]; exact (show 8 + (mNL (miB 232) + 11) + (rmN 232).locals ≤ (rmN 238).locals by decide), by rw [E.2.2.2]; exact (show 0 + (rmN 232).cells ≤ (rmN 238).cells by decide), by rw [E.2.2.2]; exact (show 0 + (rmN 232).slots ≤ (rmN 238).slots by decide)⟩ (Nat.le_of_ble_eq_true rfl) (fun vv s31 hq => ?_) (fun ee s31 hq => ?_)
        rotate_left
        · obtain ⟨Is31, Fs31, JRLx_s31, e32, hv, hrs31, hps31⟩ := hq; cases hv
        obtain ⟨Is31, Fs31, JRLx_s31, e32, hv, hrs31, hps31⟩ := hq
        cases hv
        have Gs31 := fm_ts Gs27 Fs31 (by decide) (by decide)
        have JRLx_s31 : RLx s31 := RLx_fm Fs31 (by decide) JRLx_s27
        have ws31_73 : iI s31 73 = iI s27 73 := fm_i Fs31 (by decide)
        show WS k 44 [(0, .ref (A 179)), (1, .int (Int32.ofInt x)), (2, .int (Int32.ofInt y))] [.int (Int32.ofInt e32)] (Wd A dT s31) 0 0
        refine z_store_n X (lv' := [(3, .int (Int32.ofInt e32)), (0, .ref (A 179)), (1, .int (Int32.ofInt x)), (2, .int (Int32.ofInt y))]) (show cdA 238 44 = some (.istore_n 3, 1, 0, 0, 0) from rfl) (by decide) (fun _ h => h) ?_
        refine z_const X (show cdA 238 45 = some (.iconst 0, 1, 0, 0, 0) from rfl) ?_
        refine z_store X (lv' := [(4, .int (Int32.ofInt 0)), (3, .int (Int32.ofInt e32)), (0, .ref (A 179)), (1, .int (Int32.ofInt x)), (2, .int (Int32.ofInt y))]) (show cdA 238 46 = some (.istore 4, 2, 0, 0, 0) from rfl) (by decide) (fun _ h => h) ?_
        refine WS_lv (lv := [(0, .ref (A 179)), (1, .int (Int32.ofInt x)), (2, .int (Int32.ofInt y)), (3, .int (Int32.ofInt e32)), (4, .int (Int32.ofInt 0))]) (List.forall_mem_cons.mpr ⟨(List.Mem.tail _ (List.Mem.tail _ (List.Mem.head _))), (List.forall_mem_cons.mpr ⟨(List.Mem.tail _ (List.Mem.tail _ (List.Mem.tail _ (List.Mem.head _)))), (List.forall_mem_cons.mpr ⟨(List.Mem.tail _ (List.Mem.tail _ (List.Mem.tail _ (List.Mem.tail _ (List.Mem.head _))))), (List.forall_mem_cons.mpr ⟨(List.Mem.tail _ (List.Mem.head _)), (List.forall_mem_cons.mpr ⟨(List.Mem.head _), (fun q h => absurd h List.not_mem_nil)⟩)⟩)⟩)⟩)⟩) ?_
        refine L48 ((24 - 0 : Int)).toNat s31 x y e32 0 Is31 Gs31 JRLx_s31 (by omega) (by omega) ?_
        intro s33 x34 Is33 Fs33 JRLx_s33 hs33
        have b35 : (0 : Int) ≤ iI s33 73 ∧ iI s33 73 ≤ 3 := Is33.1 73
        refine z_load_n X (x := e32) (show cdA 238 83 = some (.iload_n 3, 1, 0, 0, 0) from rfl) (List.Mem.tail _ (List.Mem.tail _ (List.Mem.tail _ (List.Mem.head _)))) ?_
        exact w_iret X.1 q hRt rfl (ax_d X (show cdA 238 84 = some (.ireturn, 1, 0, 0, 0) from rfl)) (Nat.zero_le _) (Nat.zero_le _) ⟨_, rfl, Is33, Fs33, JRLx_s33, e32, rfl, ⟨by omega, by omega⟩, trivial⟩
      ·
        refine z_const X (show cdA 238 37 = some (.iconst 0, 1, 0, 0, 0) from rfl) ?_
        exact w_iret X.1 q hRt rfl (ax_d X (show cdA 238 38 = some (.ireturn, 1, 0, 0, 0) from rfl)) (Nat.zero_le _) (Nat.zero_le _) ⟨_, rfl, Is27, Gs27, JRLx_s27, 0, rfl, ⟨by omega, by omega⟩, trivial⟩
theorem k_pairs (G : GX l s0 D tys a0 dT) (I : Bd s) (jRLx : RLx s) {x y : Int} (p0 : rng x) (p1 : rng y) : CT l s0 D A dT 267 (rmN 267) [.ref (A 179), .int (Int32.ofInt x), .int (Int32.ofInt y)] s (fun o t => Bd t ∧ Fm [73, 89, 77, 75, 78, 79, 80, 81] [202, 204, 205, 206, 207, 208, 209, 210, 211, 212, 213, 214, 215, 216, 217, 218, 219, 220, 221, 222, 223, 224, 225, 226, 227, 203, 161, 230] s t ∧ RLx t ∧ ∃ e, o = .inl (some (.int (Int32.ofInt e))) ∧ rng e ∧ (iI s 89 = 1 → iI t 89 = 1)) := by
  refine ct_of G (by decide) (Nat.le_of_ble_eq_true rfl) (fun k X E hRt hXt q => ?_)
  show WS k 0 [(0, .ref (A 179)), (1, .int (Int32.ofInt x)), (2, .int (Int32.ofInt y))] [] _ 0 0
  have F : Fm [73, 89, 77, 75, 78, 79, 80, 81] [202, 204, 205, 206, 207, 208, 209, 210, 211, 212, 213, 214, 215, 216, 217, 218, 219, 220, 221, 222, 223, 224, 225, 226, 227, 203, 161, 230] s s := fm_rf _ _ s
  have b1 : (0 : Int) ≤ iI s 73 ∧ iI s 73 ≤ 3 := I.1 73
  have b2 : (0 : Int) ≤ iI s 99 ∧ iI s 99 ≤ 6 := I.1 99
  have b3 : (1 : Int) ≤ iI s 89 ∧ iI s 89 ≤ 8 := I.1 89
  refine z_aload_n X (x := A 179) (show cdA 267 0 = some (.aload_n 0, 1, 0, 0, 0) from rfl) (List.Mem.head _) ?_
  refine z_const X (show cdA 267 1 = some (.iconst 0, 1, 0, 0, 0) from rfl) ?_
  refine s_putI X 179 (show cdA 267 2 = some (.putfield 172, 3, 12, 0, 0) from rfl) (by decide) rfl rfl (by decide) rfl rfl rfl ?_
  obtain ⟨s4, hs4⟩ : ∃ x0, x0 = uI s 73 (Int32.ofInt 0) := ⟨_, rfl⟩
  rw [← hs4]
  have Is4 : Bd s4 := by rw [hs4]; exact bd_I I (show (0 : Int) ≤ 0 ∧ 0 ≤ 3 by omega) ⟨by omega, by omega⟩
  have Fs4 := fm_I (x := Int32.ofInt 0) F (show 73 ∈ _ by decide)
  rw [← hs4] at Fs4
  have vs4 : iI s4 73 = 0 := by rw [hs4]; exact iI_u ⟨by omega, by omega⟩
  have ws4_99 : iI s4 99 = iI s 99 := by rw [hs4]; rfl
  have ws4_89 : iI s4 89 = iI s 89 := by rw [hs4]; rfl
  have fs4 : Fm [73] [] s s4 := by rw [hs4]; exact fm_I (fm_rf _ _ _) (show 73 ∈ _ by decide)
  have JRLx_s4 : RLx s4 := RLx_fm fs4 (by decide) jRLx
  refine z_aload_n X (x := A 179) (show cdA 267 5 = some (.aload_n 0, 1, 0, 0, 0) from rfl) (List.Mem.head _) ?_
  refine z_load_n X (x := x) (show cdA 267 6 = some (.iload_n 1, 1, 0, 0, 0) from rfl) (List.Mem.tail _ (List.Mem.head _)) ?_
  refine z_const X (show cdA 267 7 = some (.iconst 0, 1, 0, 0, 0) from rfl) ?_
  refine z_aload_n X (x := A 179) (show cdA 267 8 = some (.aload_n 0, 1, 0, 0, 0) from rfl) (List.Mem.head _) ?_
  refine z_getI X 179 (show cdA 267 9 = some (.getfield 404, 3, 12, 48, 0) from rfl) (by decide) rfl rfl ?_
  have b5 : (0 : Int) ≤ iI s4 99 ∧ iI s4 99 ≤ 6 := Is4.1 99
  refine z_const X (show cdA 267 12 = some (.iconst 1, 1, 0, 0, 0) from rfl) ?_
  refine z_sub X (show cdA 267 13 = some (.isub, 1, 0, 0, 0) from rfl) ?_
  refine z_callS X (rm := rmN 188) (As := [.int (Int32.ofInt x), .int (Int32.ofInt 0), .int (Int32.ofInt ((iI s4 99) - 1))]) (st := [.ref (A 179)]) (show cdA 267 14 = some (.invokestatic 209, 3, 188, 1, 0) from rfl) rfl (by rw [E.1, E.2.1, E.2.2.1]; exact k_in G Is4 (by omega) (by omega) (by omega)) ⟨by rw [E.2.2.2]; exact (show (rmN 188).frames + 1 ≤ (rmN 267).frames by decide), by rw [E.2.2.2]; exact (show 8 + (mNL (miB 188) + 11) + (rmN 188).locals ≤ (rmN 267).locals by decide), by rw [E.2.2.2]; exact (show 0 + (rmN 188).cells ≤ (rmN 267).cells by decide), by rw [E.2.2.2]; exact (show 0 + (rmN 188).slots ≤ (rmN 267).slots by decide)⟩ (Nat.le_of_ble_eq_true rfl) (fun vv s6 hq => ?_) (fun ee s6 hq => ?_)
  rotate_left
  · obtain ⟨Is6, Fs6, e7, hv, hrs6, hps6⟩ := hq; cases hv
  obtain ⟨Is6, Fs6, e7, hv, hrs6, hps6⟩ := hq
  cases hv
  have Gs6 := fm_ts Fs4 Fs6 (by decide) (by decide)
  have JRLx_s6 : RLx s6 := RLx_fm Fs6 (by decide) JRLx_s4
  have ws6_73 : iI s6 73 = iI s4 73 := fm_i Fs6 (by decide)
  have ws6_99 : iI s6 99 = iI s4 99 := fm_i Fs6 (by decide)
  have ws6_89 : iI s6 89 = iI s4 89 := fm_i Fs6 (by decide)
  show WS k 17 [(0, .ref (A 179)), (1, .int (Int32.ofInt x)), (2, .int (Int32.ofInt y))] [.int (Int32.ofInt e7), .ref (A 179)] (Wd A dT s6) 0 0
  refine z_if_ne X (t := 24) (show cdA 267 17 = some (.ifCond .ne 7, 3, 1, 0, 0) from rfl) (by decide) ⟨by omega, by omega⟩ (fun g8 => ?_) (fun g8 => ?_)
  ·
    refine z_const X (show cdA 267 24 = some (.iconst 0, 1, 0, 0, 0) from rfl) ?_
    refine z_const X (show cdA 267 25 = some (.iconst 1, 1, 0, 0, 0) from rfl) ?_
    refine z_callV X 179 (rm := rmN 187) (As := [.int (Int32.ofInt 0), .int (Int32.ofInt 1)]) (st := []) (show cdA 267 26 = some (.invokevirtual 229, 3, 187, 0, 0) from rfl) rfl (by decide) rfl (by rw [E.1, E.2.1, E.2.2.1]; exact k_bad G Is6 (by omega) (by omega)) ⟨by rw [E.2.2.2]; exact (show (rmN 187).frames + 1 ≤ (rmN 267).frames by decide), by rw [E.2.2.2]; exact (show 8 + (mNL (miB 187) + 11) + (rmN 187).locals ≤ (rmN 267).locals by decide), by rw [E.2.2.2]; exact (show 0 + (rmN 187).cells ≤ (rmN 267).cells by decide), by rw [E.2.2.2]; exact (show 0 + (rmN 187).slots ≤ (rmN 267).slots by decide)⟩ (Nat.le_of_ble_eq_true rfl) (fun vv s9 hq => ?_) (fun ee s9 hq => ?_)
    rotate_left
    · obtain ⟨Is9, Fs9, e10, hv, hrs9, hps9⟩ := hq; cases hv
    obtain ⟨Is9, Fs9, e10, hv, hrs9, hps9⟩ := hq
    cases hv
    have Gs9 := fm_ts Gs6 Fs9 (by decide) (by decide)
    have JRLx_s9 : RLx s9 := RLx_fm Fs9 (by decide) JRLx_s6
    have b11 : (0 : Int) ≤ iI s9 73 ∧ iI s9 73 ≤ 3 := Is9.1 73
    have ws9_99 : iI s9 99 = iI s6 99 := fm_i Fs9 (by decide)
    have ws9_89 : iI s9 89 = iI s6 89 := fm_i Fs9 (by decide)
    show WS k 29 [(0, .ref (A 179)), (1, .int (Int32.ofInt x)), (2, .int (Int32.ofInt y))] [.int (Int32.ofInt e10)] (Wd A dT s9) 0 0
    refine z_if_ne X (t := 55) (show cdA 267 29 = some (.ifCond .ne 26, 3, 1, 0, 0) from rfl) (by decide) ⟨by omega, by omega⟩ (fun g12 => ?_) (fun g12 => ?_)
    ·
      refine z_const X (show cdA 267 55 = some (.iconst 0, 1, 0, 0, 0) from rfl) ?_
      exact w_iret X.1 q hRt rfl (ax_d X (show cdA 267 56 = some (.ireturn, 1, 0, 0, 0) from rfl)) (Nat.zero_le _) (Nat.zero_le _) ⟨_, rfl, Is9, Gs9, JRLx_s9, 0, rfl, ⟨by omega, by omega⟩, by omega⟩
    ·
      refine z_aload_n X (x := A 179) (show cdA 267 32 = some (.aload_n 0, 1, 0, 0, 0) from rfl) (List.Mem.head _) ?_
      refine z_load_n X (x := y) (show cdA 267 33 = some (.iload_n 2, 1, 0, 0, 0) from rfl) (List.Mem.tail _ (List.Mem.tail _ (List.Mem.head _))) ?_
      refine z_const X (show cdA 267 34 = some (.iconst 0, 1, 0, 0, 0) from rfl) ?_
      refine z_bipush X (show cdA 267 35 = some (.bipush 23, 2, 0, 0, 23) from rfl) ?_
      refine z_callS X (rm := rmN 188) (As := [.int (Int32.ofInt y), .int (Int32.ofInt 0), .int (Int32.ofInt 23)]) (st := [.ref (A 179)]) (show cdA 267 37 = some (.invokestatic 209, 3, 188, 1, 0) from rfl) rfl (by rw [E.1, E.2.1, E.2.2.1]; exact k_in G Is9 (by omega) (by omega) (by omega)) ⟨by rw [E.2.2.2]; exact (show (rmN 188).frames + 1 ≤ (rmN 267).frames by decide), by rw [E.2.2.2]; exact (show 8 + (mNL (miB 188) + 11) + (rmN 188).locals ≤ (rmN 267).locals by decide), by rw [E.2.2.2]; exact (show 0 + (rmN 188).cells ≤ (rmN 267).cells by decide), by rw [E.2.2.2]; exact (show 0 + (rmN 188).slots ≤ (rmN 267).slots by decide)⟩ (Nat.le_of_ble_eq_true rfl) (fun vv s13 hq => ?_) (fun ee s13 hq => ?_)
      rotate_left
      · obtain ⟨Is13, Fs13, e14, hv, hrs13, hps13⟩ := hq; cases hv
      obtain ⟨Is13, Fs13, e14, hv, hrs13, hps13⟩ := hq
      cases hv
      have Gs13 := fm_ts Gs9 Fs13 (by decide) (by decide)
      have JRLx_s13 : RLx s13 := RLx_fm Fs13 (by decide) JRLx_s9
      have ws13_73 : iI s13 73 = iI s9 73 := fm_i Fs13 (by decide)
      have ws13_99 : iI s13 99 = iI s9 99 := fm_i Fs13 (by decide)
      have ws13_89 : iI s13 89 = iI s9 89 := fm_i Fs13 (by decide)
      show WS k 40 [(0, .ref (A 179)), (1, .int (Int32.ofInt x)), (2, .int (Int32.ofInt y))] [.int (Int32.ofInt e14), .ref (A 179)] (Wd A dT s13) 0 0
      refine z_if_ne X (t := 47) (show cdA 267 40 = some (.ifCond .ne 7, 3, 1, 0, 0) from rfl) (by decide) ⟨by omega, by omega⟩ (fun g15 => ?_) (fun g15 => ?_)
      ·
        refine z_const X (show cdA 267 47 = some (.iconst 0, 1, 0, 0, 0) from rfl) ?_
        refine z_const X (show cdA 267 48 = some (.iconst 2, 1, 0, 0, 0) from rfl) ?_
        refine z_callV X 179 (rm := rmN 187) (As := [.int (Int32.ofInt 0), .int (Int32.ofInt 2)]) (st := []) (show cdA 267 49 = some (.invokevirtual 229, 3, 187, 0, 0) from rfl) rfl (by decide) rfl (by rw [E.1, E.2.1, E.2.2.1]; exact k_bad G Is13 (by omega) (by omega)) ⟨by rw [E.2.2.2]; exact (show (rmN 187).frames + 1 ≤ (rmN 267).frames by decide), by rw [E.2.2.2]; exact (show 8 + (mNL (miB 187) + 11) + (rmN 187).locals ≤ (rmN 267).locals by decide), by rw [E.2.2.2]; exact (show 0 + (rmN 187).cells ≤ (rmN 267).cells by decide), by rw [E.2.2.2]; exact (show 0 + (rmN 187).slots ≤ (rmN 267).slots by decide)⟩ (Nat.le_of_ble_eq_true rfl) (fun vv s16 hq => ?_) (fun ee s16 hq => ?_)
        rotate_left
        · obtain ⟨Is16, Fs16, e17, hv, hrs16, hps16⟩ := hq; cases hv
        obtain ⟨Is16, Fs16, e17, hv, hrs16, hps16⟩ := hq
        cases hv
        have Gs16 := fm_ts Gs13 Fs16 (by decide) (by decide)
        have JRLx_s16 : RLx s16 := RLx_fm Fs16 (by decide) JRLx_s13
        have b18 : (0 : Int) ≤ iI s16 73 ∧ iI s16 73 ≤ 3 := Is16.1 73
        have ws16_99 : iI s16 99 = iI s13 99 := fm_i Fs16 (by decide)
        have ws16_89 : iI s16 89 = iI s13 89 := fm_i Fs16 (by decide)
        show WS k 52 [(0, .ref (A 179)), (1, .int (Int32.ofInt x)), (2, .int (Int32.ofInt y))] [.int (Int32.ofInt e17)] (Wd A dT s16) 0 0
        refine z_if_eq X (t := 57) (show cdA 267 52 = some (.ifCond .eq 5, 3, 0, 0, 0) from rfl) (by decide) ⟨by omega, by omega⟩ (fun g19 => ?_) (fun g19 => ?_)
        ·
          refine z_aload_n X (x := A 179) (show cdA 267 57 = some (.aload_n 0, 1, 0, 0, 0) from rfl) (List.Mem.head _) ?_
          refine z_load_n X (x := y) (show cdA 267 58 = some (.iload_n 2, 1, 0, 0, 0) from rfl) (List.Mem.tail _ (List.Mem.tail _ (List.Mem.head _))) ?_
          refine z_callV X 179 (rm := rmN 222) (As := [.int (Int32.ofInt y)]) (st := []) (show cdA 267 59 = some (.invokevirtual 333, 3, 222, 0, 0) from rfl) rfl (by decide) rfl (by rw [E.1, E.2.1, E.2.2.1]; exact k_asTold G Is16 JRLx_s16 (by omega)) ⟨by rw [E.2.2.2]; exact (show (rmN 222).frames + 1 ≤ (rmN 267).frames by decide), by rw [E.2.2.2]; exact (show 8 + (mNL (miB 222) + 11) + (rmN 222).locals ≤ (rmN 267).locals by decide), by rw [E.2.2.2]; exact (show 0 + (rmN 222).cells ≤ (rmN 267).cells by decide), by rw [E.2.2.2]; exact (show 0 + (rmN 222).slots ≤ (rmN 267).slots by decide)⟩ (Nat.le_of_ble_eq_true rfl) (fun vv s20 hq => ?_) (fun ee s20 hq => ?_)
          rotate_left
          · obtain ⟨Is20, Fs20, JRLx_s20, JNQ_s20, hv, hps20⟩ := hq; cases hv
          obtain ⟨Is20, Fs20, JRLx_s20, JNQ_s20, hv, hps20⟩ := hq
          cases hv
          have Gs20 := fm_ts Gs16 Fs20 (by decide) (by decide)
          have JRLx_s20 : RLx s20 := RLx_fm Fs20 (by decide) JRLx_s16
          have ws20_73 : iI s20 73 = iI s16 73 := fm_i Fs20 (by decide)
          have ws20_99 : iI s20 99 = iI s16 99 := fm_i Fs20 (by decide)
          have ws20_89 : iI s20 89 = iI s16 89 := fm_i Fs20 (by decide)
          show WS k 62 [(0, .ref (A 179)), (1, .int (Int32.ofInt x)), (2, .int (Int32.ofInt y))] [] (Wd A dT s20) 0 0
          refine z_aload_n X (x := A 179) (show cdA 267 62 = some (.aload_n 0, 1, 0, 0, 0) from rfl) (List.Mem.head _) ?_
          refine z_load_n X (x := x) (show cdA 267 63 = some (.iload_n 1, 1, 0, 0, 0) from rfl) (List.Mem.tail _ (List.Mem.head _)) ?_
          have JNW_s20 : NW s20 := NW_of JNQ_s20 JRLx_s20
          refine z_callV X 179 (rm := rmN 266) (As := [.int (Int32.ofInt x)]) (st := []) (show cdA 267 64 = some (.invokevirtual 413, 3, 266, 0, 0) from rfl) rfl (by decide) rfl (by rw [E.1, E.2.1, E.2.2.1]; exact k_pairsOf G Is20 JNW_s20 (by omega)) ⟨by rw [E.2.2.2]; exact (show (rmN 266).frames + 1 ≤ (rmN 267).frames by decide), by rw [E.2.2.2]; exact (show 8 + (mNL (miB 266) + 11) + (rmN 266).locals ≤ (rmN 267).locals by decide), by rw [E.2.2.2]; exact (show 0 + (rmN 266).cells ≤ (rmN 267).cells by decide), by rw [E.2.2.2]; exact (show 0 + (rmN 266).slots ≤ (rmN 267).slots by decide)⟩ (Nat.le_of_ble_eq_true rfl) (fun vv s22 hq => ?_) (fun ee s22 hq => ?_)
          rotate_left
          · obtain ⟨Is22, Fs22, JNW_s22, e23, hv, hrs22, hps22⟩ := hq; cases hv
          obtain ⟨Is22, Fs22, JNW_s22, e23, hv, hrs22, hps22⟩ := hq
          cases hv
          have Gs22 := fm_ts Gs20 Fs22 (by decide) (by decide)
          have JRLx_s22 : RLx s22 := RLx_fm Fs22 (by decide) JRLx_s20
          have JNQ_s22 : NQ s22 := NQ_fm Fs22 (by decide) JNQ_s20
          have JNW_s22 : NW s22 := NW_fm Fs22 (by decide) JNW_s20
          have ws22_73 : iI s22 73 = iI s20 73 := fm_i Fs22 (by decide)
          have ws22_99 : iI s22 99 = iI s20 99 := fm_i Fs22 (by decide)
          have b24 : (1 : Int) ≤ iI s22 89 ∧ iI s22 89 ≤ 8 := Is22.1 89
          show WS k 67 [(0, .ref (A 179)), (1, .int (Int32.ofInt x)), (2, .int (Int32.ofInt y))] [.int (Int32.ofInt e23)] (Wd A dT s22) 0 0
          exact w_iret X.1 q hRt rfl (ax_d X (show cdA 267 67 = some (.ireturn, 1, 0, 0, 0) from rfl)) (Nat.zero_le _) (Nat.zero_le _) ⟨_, rfl, Is22, Gs22, JRLx_s22, e23, rfl, ⟨by omega, by omega⟩, by omega⟩
        ·
          refine z_const X (show cdA 267 55 = some (.iconst 0, 1, 0, 0, 0) from rfl) ?_
          exact w_iret X.1 q hRt rfl (ax_d X (show cdA 267 56 = some (.ireturn, 1, 0, 0, 0) from rfl)) (Nat.zero_le _) (Nat.zero_le _) ⟨_, rfl, Is16, Gs16, JRLx_s16, 0, rfl, ⟨by omega, by omega⟩, by omega⟩
      ·
        refine z_const X (show cdA 267 43 = some (.iconst 1, 1, 0, 0, 0) from rfl) ?_
        refine z_goto X (t := 48) (show cdA 267 44 = some (.goto 4, 3, 0, 0, 0) from rfl) (by decide) ?_
        refine z_const X (show cdA 267 48 = some (.iconst 2, 1, 0, 0, 0) from rfl) ?_
        refine z_callV X 179 (rm := rmN 187) (As := [.int (Int32.ofInt 1), .int (Int32.ofInt 2)]) (st := []) (show cdA 267 49 = some (.invokevirtual 229, 3, 187, 0, 0) from rfl) rfl (by decide) rfl (by rw [E.1, E.2.1, E.2.2.1]; exact k_bad G Is13 (by omega) (by omega)) ⟨by rw [E.2.2.2]; exact (show (rmN 187).frames + 1 ≤ (rmN 267).frames by decide), by rw [E.2.2.2]; exact (show 8 + (mNL (miB 187) + 11) + (rmN 187).locals ≤ (rmN 267).locals by decide), by rw [E.2.2.2]; exact (show 0 + (rmN 187).cells ≤ (rmN 267).cells by decide), by rw [E.2.2.2]; exact (show 0 + (rmN 187).slots ≤ (rmN 267).slots by decide)⟩ (Nat.le_of_ble_eq_true rfl) (fun vv s25 hq => ?_) (fun ee s25 hq => ?_)
        rotate_left
        · obtain ⟨Is25, Fs25, e26, hv, hrs25, hps25⟩ := hq; cases hv
        obtain ⟨Is25, Fs25, e26, hv, hrs25, hps25⟩ := hq
        cases hv
        have Gs25 := fm_ts Gs13 Fs25 (by decide) (by decide)
        have JRLx_s25 : RLx s25 := RLx_fm Fs25 (by decide) JRLx_s13
        have b27 : (0 : Int) ≤ iI s25 73 ∧ iI s25 73 ≤ 3 := Is25.1 73
        have ws25_99 : iI s25 99 = iI s13 99 := fm_i Fs25 (by decide)
        have ws25_89 : iI s25 89 = iI s13 89 := fm_i Fs25 (by decide)
        show WS k 52 [(0, .ref (A 179)), (1, .int (Int32.ofInt x)), (2, .int (Int32.ofInt y))] [.int (Int32.ofInt e26)] (Wd A dT s25) 0 0
        refine z_if_eq X (t := 57) (show cdA 267 52 = some (.ifCond .eq 5, 3, 0, 0, 0) from rfl) (by decide) ⟨by omega, by omega⟩ (fun g28 => ?_) (fun g28 => ?_)
        ·
          refine z_aload_n X (x := A 179) (show cdA 267 57 = some (.aload_n 0, 1, 0, 0, 0) from rfl) (List.Mem.head _) ?_
          refine z_load_n X (x := y) (show cdA 267 58 = some (.iload_n 2, 1, 0, 0, 0) from rfl) (List.Mem.tail _ (List.Mem.tail _ (List.Mem.head _))) ?_
          refine z_callV X 179 (rm := rmN 222) (As := [.int (Int32.ofInt y)]) (st := []) (show cdA 267 59 = some (.invokevirtual 333, 3, 222, 0, 0) from rfl) rfl (by decide) rfl (by rw [E.1, E.2.1, E.2.2.1]; exact k_asTold G Is25 JRLx_s25 (by omega)) ⟨by rw [E.2.2.2]; exact (show (rmN 222).frames + 1 ≤ (rmN 267).frames by decide), by rw [E.2.2.2]; exact (show 8 + (mNL (miB 222) + 11) + (rmN 222).locals ≤ (rmN 267).locals by decide), by rw [E.2.2.2]; exact (show 0 + (rmN 222).cells ≤ (rmN 267).cells by decide), by rw [E.2.2.2]; exact (show 0 + (rmN 222).slots ≤ (rmN 267).slots by decide)⟩ (Nat.le_of_ble_eq_true rfl) (fun vv s29 hq => ?_) (fun ee s29 hq => ?_)
          rotate_left
          · obtain ⟨Is29, Fs29, JRLx_s29, JNQ_s29, hv, hps29⟩ := hq; cases hv
          obtain ⟨Is29, Fs29, JRLx_s29, JNQ_s29, hv, hps29⟩ := hq
          cases hv
          have Gs29 := fm_ts Gs25 Fs29 (by decide) (by decide)
          have JRLx_s29 : RLx s29 := RLx_fm Fs29 (by decide) JRLx_s25
          have ws29_73 : iI s29 73 = iI s25 73 := fm_i Fs29 (by decide)
          have ws29_99 : iI s29 99 = iI s25 99 := fm_i Fs29 (by decide)
          have ws29_89 : iI s29 89 = iI s25 89 := fm_i Fs29 (by decide)
          show WS k 62 [(0, .ref (A 179)), (1, .int (Int32.ofInt x)), (2, .int (Int32.ofInt y))] [] (Wd A dT s29) 0 0
          refine z_aload_n X (x := A 179) (show cdA 267 62 = some (.aload_n 0, 1, 0, 0, 0) from rfl) (List.Mem.head _) ?_
          refine z_load_n X (x := x) (show cdA 267 63 = some (.iload_n 1, 1, 0, 0, 0) from rfl) (List.Mem.tail _ (List.Mem.head _)) ?_
          have JNW_s29 : NW s29 := NW_of JNQ_s29 JRLx_s29
          refine z_callV X 179 (rm := rmN 266) (As := [.int (Int32.ofInt x)]) (st := []) (show cdA 267 64 = some (.invokevirtual 413, 3, 266, 0, 0) from rfl) rfl (by decide) rfl (by rw [E.1, E.2.1, E.2.2.1]; exact k_pairsOf G Is29 JNW_s29 (by omega)) ⟨by rw [E.2.2.2]; exact (show (rmN 266).frames + 1 ≤ (rmN 267).frames by decide), by rw [E.2.2.2]; exact (show 8 + (mNL (miB 266) + 11) + (rmN 266).locals ≤ (rmN 267).locals by decide), by rw [E.2.2.2]; exact (show 0 + (rmN 266).cells ≤ (rmN 267).cells by decide), by rw [E.2.2.2]; exact (show 0 + (rmN 266).slots ≤ (rmN 267).slots by decide)⟩ (Nat.le_of_ble_eq_true rfl) (fun vv s31 hq => ?_) (fun ee s31 hq => ?_)
          rotate_left
          · obtain ⟨Is31, Fs31, JNW_s31, e32, hv, hrs31, hps31⟩ := hq; cases hv
          obtain ⟨Is31, Fs31, JNW_s31, e32, hv, hrs31, hps31⟩ := hq
          cases hv
          have Gs31 := fm_ts Gs29 Fs31 (by decide) (by decide)
          have JRLx_s31 : RLx s31 := RLx_fm Fs31 (by decide) JRLx_s29
          have JNQ_s31 : NQ s31 := NQ_fm Fs31 (by decide) JNQ_s29
          have JNW_s31 : NW s31 := NW_fm Fs31 (by decide) JNW_s29
          have ws31_73 : iI s31 73 = iI s29 73 := fm_i Fs31 (by decide)
          have ws31_99 : iI s31 99 = iI s29 99 := fm_i Fs31 (by decide)
          have b33 : (1 : Int) ≤ iI s31 89 ∧ iI s31 89 ≤ 8 := Is31.1 89
          show WS k 67 [(0, .ref (A 179)), (1, .int (Int32.ofInt x)), (2, .int (Int32.ofInt y))] [.int (Int32.ofInt e32)] (Wd A dT s31) 0 0
          exact w_iret X.1 q hRt rfl (ax_d X (show cdA 267 67 = some (.ireturn, 1, 0, 0, 0) from rfl)) (Nat.zero_le _) (Nat.zero_le _) ⟨_, rfl, Is31, Gs31, JRLx_s31, e32, rfl, ⟨by omega, by omega⟩, by omega⟩
        ·
          refine z_const X (show cdA 267 55 = some (.iconst 0, 1, 0, 0, 0) from rfl) ?_
          exact w_iret X.1 q hRt rfl (ax_d X (show cdA 267 56 = some (.ireturn, 1, 0, 0, 0) from rfl)) (Nat.zero_le _) (Nat.zero_le _) ⟨_, rfl, Is25, Gs25, JRLx_s25, 0, rfl, ⟨by omega, by omega⟩, by omega⟩
  ·
    refine z_const X (show cdA 267 20 = some (.iconst 1, 1, 0, 0, 0) from rfl) ?_
    refine z_goto X (t := 25) (show cdA 267 21 = some (.goto 4, 3, 0, 0, 0) from rfl) (by decide) ?_
    refine z_const X (show cdA 267 25 = some (.iconst 1, 1, 0, 0, 0) from rfl) ?_
    refine z_callV X 179 (rm := rmN 187) (As := [.int (Int32.ofInt 1), .int (Int32.ofInt 1)]) (st := []) (show cdA 267 26 = some (.invokevirtual 229, 3, 187, 0, 0) from rfl) rfl (by decide) rfl (by rw [E.1, E.2.1, E.2.2.1]; exact k_bad G Is6 (by omega) (by omega)) ⟨by rw [E.2.2.2]; exact (show (rmN 187).frames + 1 ≤ (rmN 267).frames by decide), by rw [E.2.2.2]; exact (show 8 + (mNL (miB 187) + 11) + (rmN 187).locals ≤ (rmN 267).locals by decide), by rw [E.2.2.2]; exact (show 0 + (rmN 187).cells ≤ (rmN 267).cells by decide), by rw [E.2.2.2]; exact (show 0 + (rmN 187).slots ≤ (rmN 267).slots by decide)⟩ (Nat.le_of_ble_eq_true rfl) (fun vv s34 hq => ?_) (fun ee s34 hq => ?_)
    rotate_left
    · obtain ⟨Is34, Fs34, e35, hv, hrs34, hps34⟩ := hq; cases hv
    obtain ⟨Is34, Fs34, e35, hv, hrs34, hps34⟩ := hq
    cases hv
    have Gs34 := fm_ts Gs6 Fs34 (by decide) (by decide)
    have JRLx_s34 : RLx s34 := RLx_fm Fs34 (by decide) JRLx_s6
    have b36 : (0 : Int) ≤ iI s34 73 ∧ iI s34 73 ≤ 3 := Is34.1 73
    have ws34_99 : iI s34 99 = iI s6 99 := fm_i Fs34 (by decide)
    have ws34_89 : iI s34 89 = iI s6 89 := fm_i Fs34 (by decide)
    show WS k 29 [(0, .ref (A 179)), (1, .int (Int32.ofInt x)), (2, .int (Int32.ofInt y))] [.int (Int32.ofInt e35)] (Wd A dT s34) 0 0
    refine z_if_ne X (t := 55) (show cdA 267 29 = some (.ifCond .ne 26, 3, 1, 0, 0) from rfl) (by decide) ⟨by omega, by omega⟩ (fun g37 => ?_) (fun g37 => ?_)
    ·
      refine z_const X (show cdA 267 55 = some (.iconst 0, 1, 0, 0, 0) from rfl) ?_
      exact w_iret X.1 q hRt rfl (ax_d X (show cdA 267 56 = some (.ireturn, 1, 0, 0, 0) from rfl)) (Nat.zero_le _) (Nat.zero_le _) ⟨_, rfl, Is34, Gs34, JRLx_s34, 0, rfl, ⟨by omega, by omega⟩, by omega⟩
    ·
      refine z_aload_n X (x := A 179) (show cdA 267 32 = some (.aload_n 0, 1, 0, 0, 0) from rfl) (List.Mem.head _) ?_
      refine z_load_n X (x := y) (show cdA 267 33 = some (.iload_n 2, 1, 0, 0, 0) from rfl) (List.Mem.tail _ (List.Mem.tail _ (List.Mem.head _))) ?_
      refine z_const X (show cdA 267 34 = some (.iconst 0, 1, 0, 0, 0) from rfl) ?_
      refine z_bipush X (show cdA 267 35 = some (.bipush 23, 2, 0, 0, 23) from rfl) ?_
      refine z_callS X (rm := rmN 188) (As := [.int (Int32.ofInt y), .int (Int32.ofInt 0), .int (Int32.ofInt 23)]) (st := [.ref (A 179)]) (show cdA 267 37 = some (.invokestatic 209, 3, 188, 1, 0) from rfl) rfl (by rw [E.1, E.2.1, E.2.2.1]; exact k_in G Is34 (by omega) (by omega) (by omega)) ⟨by rw [E.2.2.2]; exact (show (rmN 188).frames + 1 ≤ (rmN 267).frames by decide), by rw [E.2.2.2]; exact (show 8 + (mNL (miB 188) + 11) + (rmN 188).locals ≤ (rmN 267).locals by decide), by rw [E.2.2.2]; exact (show 0 + (rmN 188).cells ≤ (rmN 267).cells by decide), by rw [E.2.2.2]; exact (show 0 + (rmN 188).slots ≤ (rmN 267).slots by decide)⟩ (Nat.le_of_ble_eq_true rfl) (fun vv s38 hq => ?_) (fun ee s38 hq => ?_)
      rotate_left
      · obtain ⟨Is38, Fs38, e39, hv, hrs38, hps38⟩ := hq; cases hv
      obtain ⟨Is38, Fs38, e39, hv, hrs38, hps38⟩ := hq
      cases hv
      have Gs38 := fm_ts Gs34 Fs38 (by decide) (by decide)
      have JRLx_s38 : RLx s38 := RLx_fm Fs38 (by decide) JRLx_s34
      have ws38_73 : iI s38 73 = iI s34 73 := fm_i Fs38 (by decide)
      have ws38_99 : iI s38 99 = iI s34 99 := fm_i Fs38 (by decide)
      have ws38_89 : iI s38 89 = iI s34 89 := fm_i Fs38 (by decide)
      show WS k 40 [(0, .ref (A 179)), (1, .int (Int32.ofInt x)), (2, .int (Int32.ofInt y))] [.int (Int32.ofInt e39), .ref (A 179)] (Wd A dT s38) 0 0
      refine z_if_ne X (t := 47) (show cdA 267 40 = some (.ifCond .ne 7, 3, 1, 0, 0) from rfl) (by decide) ⟨by omega, by omega⟩ (fun g40 => ?_) (fun g40 => ?_)
      ·
        refine z_const X (show cdA 267 47 = some (.iconst 0, 1, 0, 0, 0) from rfl) ?_
        refine z_const X (show cdA 267 48 = some (.iconst 2, 1, 0, 0, 0) from rfl) ?_
        refine z_callV X 179 (rm := rmN 187) (As := [.int (Int32.ofInt 0), .int (Int32.ofInt 2)]) (st := []) (show cdA 267 49 = some (.invokevirtual 229, 3, 187, 0, 0) from rfl) rfl (by decide) rfl (by rw [E.1, E.2.1, E.2.2.1]; exact k_bad G Is38 (by omega) (by omega)) ⟨by rw [E.2.2.2]; exact (show (rmN 187).frames + 1 ≤ (rmN 267).frames by decide), by rw [E.2.2.2]; exact (show 8 + (mNL (miB 187) + 11) + (rmN 187).locals ≤ (rmN 267).locals by decide), by rw [E.2.2.2]; exact (show 0 + (rmN 187).cells ≤ (rmN 267).cells by decide), by rw [E.2.2.2]; exact (show 0 + (rmN 187).slots ≤ (rmN 267).slots by decide)⟩ (Nat.le_of_ble_eq_true rfl) (fun vv s41 hq => ?_) (fun ee s41 hq => ?_)
        rotate_left
        · obtain ⟨Is41, Fs41, e42, hv, hrs41, hps41⟩ := hq; cases hv
        obtain ⟨Is41, Fs41, e42, hv, hrs41, hps41⟩ := hq
        cases hv
        have Gs41 := fm_ts Gs38 Fs41 (by decide) (by decide)
        have JRLx_s41 : RLx s41 := RLx_fm Fs41 (by decide) JRLx_s38
        have b43 : (0 : Int) ≤ iI s41 73 ∧ iI s41 73 ≤ 3 := Is41.1 73
        have ws41_99 : iI s41 99 = iI s38 99 := fm_i Fs41 (by decide)
        have ws41_89 : iI s41 89 = iI s38 89 := fm_i Fs41 (by decide)
        show WS k 52 [(0, .ref (A 179)), (1, .int (Int32.ofInt x)), (2, .int (Int32.ofInt y))] [.int (Int32.ofInt e42)] (Wd A dT s41) 0 0
        refine z_if_eq X (t := 57) (show cdA 267 52 = some (.ifCond .eq 5, 3, 0, 0, 0) from rfl) (by decide) ⟨by omega, by omega⟩ (fun g44 => ?_) (fun g44 => ?_)
        ·
          refine z_aload_n X (x := A 179) (show cdA 267 57 = some (.aload_n 0, 1, 0, 0, 0) from rfl) (List.Mem.head _) ?_
          refine z_load_n X (x := y) (show cdA 267 58 = some (.iload_n 2, 1, 0, 0, 0) from rfl) (List.Mem.tail _ (List.Mem.tail _ (List.Mem.head _))) ?_
          refine z_callV X 179 (rm := rmN 222) (As := [.int (Int32.ofInt y)]) (st := []) (show cdA 267 59 = some (.invokevirtual 333, 3, 222, 0, 0) from rfl) rfl (by decide) rfl (by rw [E.1, E.2.1, E.2.2.1]; exact k_asTold G Is41 JRLx_s41 (by omega)) ⟨by rw [E.2.2.2]; exact (show (rmN 222).frames + 1 ≤ (rmN 267).frames by decide), by rw [E.2.2.2]; exact (show 8 + (mNL (miB 222) + 11) + (rmN 222).locals ≤ (rmN 267).locals by decide), by rw [E.2.2.2]; exact (show 0 + (rmN 222).cells ≤ (rmN 267).cells by decide), by rw [E.2.2.2]; exact (show 0 + (rmN 222).slots ≤ (rmN 267).slots by decide)⟩ (Nat.le_of_ble_eq_true rfl) (fun vv s45 hq => ?_) (fun ee s45 hq => ?_)
          rotate_left
          · obtain ⟨Is45, Fs45, JRLx_s45, JNQ_s45, hv, hps45⟩ := hq; cases hv
          obtain ⟨Is45, Fs45, JRLx_s45, JNQ_s45, hv, hps45⟩ := hq
          cases hv
          have Gs45 := fm_ts Gs41 Fs45 (by decide) (by decide)
          have JRLx_s45 : RLx s45 := RLx_fm Fs45 (by decide) JRLx_s41
          have ws45_73 : iI s45 73 = iI s41 73 := fm_i Fs45 (by decide)
          have ws45_99 : iI s45 99 = iI s41 99 := fm_i Fs45 (by decide)
          have ws45_89 : iI s45 89 = iI s41 89 := fm_i Fs45 (by decide)
          show WS k 62 [(0, .ref (A 179)), (1, .int (Int32.ofInt x)), (2, .int (Int32.ofInt y))] [] (Wd A dT s45) 0 0
          refine z_aload_n X (x := A 179) (show cdA 267 62 = some (.aload_n 0, 1, 0, 0, 0) from rfl) (List.Mem.head _) ?_
          refine z_load_n X (x := x) (show cdA 267 63 = some (.iload_n 1, 1, 0, 0, 0) from rfl) (List.Mem.tail _ (List.Mem.head _)) ?_
          have JNW_s45 : NW s45 := NW_of JNQ_s45 JRLx_s45
          refine z_callV X 179 (rm := rmN 266) (As := [.int (Int32.ofInt x)]) (st := []) (show cdA 267 64 = some (.invokevirtual 413, 3, 266, 0, 0) from rfl) rfl (by decide) rfl (by rw [E.1, E.2.1, E.2.2.1]; exact k_pairsOf G Is45 JNW_s45 (by omega)) ⟨by rw [E.2.2.2]; exact (show (rmN 266).frames + 1 ≤ (rmN 267).frames by decide), by rw [E.2.2.2]; exact (show 8 + (mNL (miB 266) + 11) + (rmN 266).locals ≤ (rmN 267).locals by decide), by rw [E.2.2.2]; exact (show 0 + (rmN 266).cells ≤ (rmN 267).cells by decide), by rw [E.2.2.2]; exact (show 0 + (rmN 266).slots ≤ (rmN 267).slots by decide)⟩ (Nat.le_of_ble_eq_true rfl) (fun vv s47 hq => ?_) (fun ee s47 hq => ?_)
          rotate_left
          · obtain ⟨Is47, Fs47, JNW_s47, e48, hv, hrs47, hps47⟩ := hq; cases hv
          obtain ⟨Is47, Fs47, JNW_s47, e48, hv, hrs47, hps47⟩ := hq
          cases hv
          have Gs47 := fm_ts Gs45 Fs47 (by decide) (by decide)
          have JRLx_s47 : RLx s47 := RLx_fm Fs47 (by decide) JRLx_s45
          have JNQ_s47 : NQ s47 := NQ_fm Fs47 (by decide) JNQ_s45
          have JNW_s47 : NW s47 := NW_fm Fs47 (by decide) JNW_s45
          have ws47_73 : iI s47 73 = iI s45 73 := fm_i Fs47 (by decide)
          have ws47_99 : iI s47 99 = iI s45 99 := fm_i Fs47 (by decide)
          have b49 : (1 : Int) ≤ iI s47 89 ∧ iI s47 89 ≤ 8 := Is47.1 89
          show WS k 67 [(0, .ref (A 179)), (1, .int (Int32.ofInt x)), (2, .int (Int32.ofInt y))] [.int (Int32.ofInt e48)] (Wd A dT s47) 0 0
          exact w_iret X.1 q hRt rfl (ax_d X (show cdA 267 67 = some (.ireturn, 1, 0, 0, 0) from rfl)) (Nat.zero_le _) (Nat.zero_le _) ⟨_, rfl, Is47, Gs47, JRLx_s47, e48, rfl, ⟨by omega, by omega⟩, by omega⟩
        ·
          refine z_const X (show cdA 267 55 = some (.iconst 0, 1, 0, 0, 0) from rfl) ?_
          exact w_iret X.1 q hRt rfl (ax_d X (show cdA 267 56 = some (.ireturn, 1, 0, 0, 0) from rfl)) (Nat.zero_le _) (Nat.zero_le _) ⟨_, rfl, Is41, Gs41, JRLx_s41, 0, rfl, ⟨by omega, by omega⟩, by omega⟩
      ·
        refine z_const X (show cdA 267 43 = some (.iconst 1, 1, 0, 0, 0) from rfl) ?_
        refine z_goto X (t := 48) (show cdA 267 44 = some (.goto 4, 3, 0, 0, 0) from rfl) (by decide) ?_
        refine z_const X (show cdA 267 48 = some (.iconst 2, 1, 0, 0, 0) from rfl) ?_
        refine z_callV X 179 (rm := rmN 187) (As := [.int (Int32.ofInt 1), .int (Int32.ofInt 2)]) (st := []) (show cdA 267 49 = some (.invokevirtual 229, 3, 187, 0, 0) from rfl) rfl (by decide) rfl (by rw [E.1, E.2.1, E.2.2.1]; exact k_bad G Is38 (by omega) (by omega)) ⟨by rw [E.2.2.2]; exact (show (rmN 187).frames + 1 ≤ (rmN 267).frames by decide), by rw [E.2.2.2]; exact (show 8 + (mNL (miB 187) + 11) + (rmN 187).locals ≤ (rmN 267).locals by decide), by rw [E.2.2.2]; exact (show 0 + (rmN 187).cells ≤ (rmN 267).cells by decide), by rw [E.2.2.2]; exact (show 0 + (rmN 187).slots ≤ (rmN 267).slots by decide)⟩ (Nat.le_of_ble_eq_true rfl) (fun vv s50 hq => ?_) (fun ee s50 hq => ?_)
        rotate_left
        · obtain ⟨Is50, Fs50, e51, hv, hrs50, hps50⟩ := hq; cases hv
        obtain ⟨Is50, Fs50, e51, hv, hrs50, hps50⟩ := hq
        cases hv
        have Gs50 := fm_ts Gs38 Fs50 (by decide) (by decide)
        have JRLx_s50 : RLx s50 := RLx_fm Fs50 (by decide) JRLx_s38
        have b52 : (0 : Int) ≤ iI s50 73 ∧ iI s50 73 ≤ 3 := Is50.1 73
        have ws50_99 : iI s50 99 = iI s38 99 := fm_i Fs50 (by decide)
        have ws50_89 : iI s50 89 = iI s38 89 := fm_i Fs50 (by decide)
        show WS k 52 [(0, .ref (A 179)), (1, .int (Int32.ofInt x)), (2, .int (Int32.ofInt y))] [.int (Int32.ofInt e51)] (Wd A dT s50) 0 0
        refine z_if_eq X (t := 57) (show cdA 267 52 = some (.ifCond .eq 5, 3, 0, 0, 0) from rfl) (by decide) ⟨by omega, by omega⟩ (fun g53 => ?_) (fun g53 => ?_)
        ·
          refine z_aload_n X (x := A 179) (show cdA 267 57 = some (.aload_n 0, 1, 0, 0, 0) from rfl) (List.Mem.head _) ?_
          refine z_load_n X (x := y) (show cdA 267 58 = some (.iload_n 2, 1, 0, 0, 0) from rfl) (List.Mem.tail _ (List.Mem.tail _ (List.Mem.head _))) ?_
          refine z_callV X 179 (rm := rmN 222) (As := [.int (Int32.ofInt y)]) (st := []) (show cdA 267 59 = some (.invokevirtual 333, 3, 222, 0, 0) from rfl) rfl (by decide) rfl (by rw [E.1, E.2.1, E.2.2.1]; exact k_asTold G Is50 JRLx_s50 (by omega)) ⟨by rw [E.2.2.2]; exact (show (rmN 222).frames + 1 ≤ (rmN 267).frames by decide), by rw [E.2.2.2]; exact (show 8 + (mNL (miB 222) + 11) + (rmN 222).locals ≤ (rmN 267).locals by decide), by rw [E.2.2.2]; exact (show 0 + (rmN 222).cells ≤ (rmN 267).cells by decide), by rw [E.2.2.2]; exact (show 0 + (rmN 222).slots ≤ (rmN 267).slots by decide)⟩ (Nat.le_of_ble_eq_true rfl) (fun vv s54 hq => ?_) (fun ee s54 hq => ?_)
          rotate_left
          · obtain ⟨Is54, Fs54, JRLx_s54, JNQ_s54, hv, hps54⟩ := hq; cases hv
          obtain ⟨Is54, Fs54, JRLx_s54, JNQ_s54, hv, hps54⟩ := hq
          cases hv
          have Gs54 := fm_ts Gs50 Fs54 (by decide) (by decide)
          have JRLx_s54 : RLx s54 := RLx_fm Fs54 (by decide) JRLx_s50
          have ws54_73 : iI s54 73 = iI s50 73 := fm_i Fs54 (by decide)
          have ws54_99 : iI s54 99 = iI s50 99 := fm_i Fs54 (by decide)
          have ws54_89 : iI s54 89 = iI s50 89 := fm_i Fs54 (by decide)
          show WS k 62 [(0, .ref (A 179)), (1, .int (Int32.ofInt x)), (2, .int (Int32.ofInt y))] [] (Wd A dT s54) 0 0
          refine z_aload_n X (x := A 179) (show cdA 267 62 = some (.aload_n 0, 1, 0, 0, 0) from rfl) (List.Mem.head _) ?_
          refine z_load_n X (x := x) (show cdA 267 63 = some (.iload_n 1, 1, 0, 0, 0) from rfl) (List.Mem.tail _ (List.Mem.head _)) ?_
          have JNW_s54 : NW s54 := NW_of JNQ_s54 JRLx_s54
          refine z_callV X 179 (rm := rmN 266) (As := [.int (Int32.ofInt x)]) (st := []) (show cdA 267 64 = some (.invokevirtual 413, 3, 266, 0, 0) from rfl) rfl (by decide) rfl (by rw [E.1, E.2.1, E.2.2.1]; exact k_pairsOf G Is54 JNW_s54 (by omega)) ⟨by rw [E.2.2.2]; exact (show (rmN 266).frames + 1 ≤ (rmN 267).frames by decide), by rw [E.2.2.2]; exact (show 8 + (mNL (miB 266) + 11) + (rmN 266).locals ≤ (rmN 267).locals by decide), by rw [E.2.2.2]; exact (show 0 + (rmN 266).cells ≤ (rmN 267).cells by decide), by rw [E.2.2.2]; exact (show 0 + (rmN 266).slots ≤ (rmN 267).slots by decide)⟩ (Nat.le_of_ble_eq_true rfl) (fun vv s56 hq => ?_) (fun ee s56 hq => ?_)
          rotate_left
          · obtain ⟨Is56, Fs56, JNW_s56, e57, hv, hrs56, hps56⟩ := hq; cases hv
          obtain ⟨Is56, Fs56, JNW_s56, e57, hv, hrs56, hps56⟩ := hq
          cases hv
          have Gs56 := fm_ts Gs54 Fs56 (by decide) (by decide)
          have JRLx_s56 : RLx s56 := RLx_fm Fs56 (by decide) JRLx_s54
          have JNQ_s56 : NQ s56 := NQ_fm Fs56 (by decide) JNQ_s54
          have JNW_s56 : NW s56 := NW_fm Fs56 (by decide) JNW_s54
          have ws56_73 : iI s56 73 = iI s54 73 := fm_i Fs56 (by decide)
          have ws56_99 : iI s56 99 = iI s54 99 := fm_i Fs56 (by decide)
          have b58 : (1 : Int) ≤ iI s56 89 ∧ iI s56 89 ≤ 8 := Is56.1 89
          show WS k 67 [(0, .ref (A 179)), (1, .int (Int32.ofInt x)), (2, .int (Int32.ofInt y))] [.int (Int32.ofInt e57)] (Wd A dT s56) 0 0
          exact w_iret X.1 q hRt rfl (ax_d X (show cdA 267 67 = some (.ireturn, 1, 0, 0, 0) from rfl)) (Nat.zero_le _) (Nat.zero_le _) ⟨_, rfl, Is56, Gs56, JRLx_s56, e57, rfl, ⟨by omega, by omega⟩, by omega⟩
        ·
          refine z_const X (show cdA 267 55 = some (.iconst 0, 1, 0, 0, 0) from rfl) ?_
          exact w_iret X.1 q hRt rfl (ax_d X (show cdA 267 56 = some (.ireturn, 1, 0, 0, 0) from rfl)) (Nat.zero_le _) (Nat.zero_le _) ⟨_, rfl, Is50, Gs50, JRLx_s50, 0, rfl, ⟨by omega, by omega⟩, by omega⟩
theorem k_did (G : GX l s0 D tys a0 dT) (I : Bd s) (jRLx : RLx s) {x y z w : Int} (p0 : rng x) (p1 : rng y) (p2 : rng z) (p3 : w = 0 ∨ w = 1) : CT l s0 D A dT 287 (rmN 287) [.ref (A 179), .int (Int32.ofInt x), .int (Int32.ofInt y), .int (Int32.ofInt z), .int (Int32.ofInt w)] s (fun o t => Bd t ∧ Fm [73, 107, 77, 75, 78, 79, 80, 81] [202, 204, 205, 206, 207, 208, 209, 210, 211, 212, 213, 214, 215, 216, 217, 218, 219, 220, 221, 222, 223, 224, 225, 226, 227, 203, 161, 230, 417, 418, 419, 420, 421, 422, 423, 424, 425, 426, 427, 428, 429, 430, 431, 432, 433, 434, 435, 436, 437, 438, 439, 440, 441, 442, 443, 444, 445, 446, 447, 448, 449, 450, 451, 452, 453, 454, 455, 456, 457, 459] s t ∧ RLx t ∧ ∃ e, o = .inl (some (.int (Int32.ofInt e))) ∧ rng e ∧ (True)) := by
  refine ct_of G (by decide) (Nat.le_of_ble_eq_true rfl) (fun k X E hRt hXt q => ?_)
  show WS k 0 [(0, .ref (A 179)), (1, .int (Int32.ofInt x)), (2, .int (Int32.ofInt y)), (3, .int (Int32.ofInt z)), (4, .int (Int32.ofInt w))] [] _ 0 0
  have F : Fm [73, 107, 77, 75, 78, 79, 80, 81] [202, 204, 205, 206, 207, 208, 209, 210, 211, 212, 213, 214, 215, 216, 217, 218, 219, 220, 221, 222, 223, 224, 225, 226, 227, 203, 161, 230, 417, 418, 419, 420, 421, 422, 423, 424, 425, 426, 427, 428, 429, 430, 431, 432, 433, 434, 435, 436, 437, 438, 439, 440, 441, 442, 443, 444, 445, 446, 447, 448, 449, 450, 451, 452, 453, 454, 455, 456, 457, 459] s s := fm_rf _ _ s
  have b1 : (0 : Int) ≤ iI s 73 ∧ iI s 73 ≤ 3 := I.1 73
  have b2 : (0 : Int) ≤ iI s 107 ∧ iI s 107 ≤ 40 := I.1 107
  have L79 : ∀ (n : Nat) (t : PS) (xv yv zv wv c : Int), Bd t → Fm [73, 107, 77, 75, 78, 79, 80, 81] [202, 204, 205, 206, 207, 208, 209, 210, 211, 212, 213, 214, 215, 216, 217, 218, 219, 220, 221, 222, 223, 224, 225, 226, 227, 203, 161, 230, 417, 418, 419, 420, 421, 422, 423, 424, 425, 426, 427, 428, 429, 430, 431, 432, 433, 434, 435, 436, 437, 438, 439, 440, 441, 442, 443, 444, 445, 446, 447, 448, 449, 450, 451, 452, 453, 454, 455, 456, 457, 459] s t → RLx t → (rng zv ∧ (wv = 0 ∨ wv = 1) ∧ 0 ≤ c ∧ c ≤ 4 ∧ iI t 107 ≤ 39) → 4 - c ≤ n → (∀ (t' : PS) (c' : Int), Bd t' → Fm [73, 107, 77, 75, 78, 79, 80, 81] [202, 204, 205, 206, 207, 208, 209, 210, 211, 212, 213, 214, 215, 216, 217, 218, 219, 220, 221, 222, 223, 224, 225, 226, 227, 203, 161, 230, 417, 418, 419, 420, 421, 422, 423, 424, 425, 426, 427, 428, 429, 430, 431, 432, 433, 434, 435, 436, 437, 438, 439, 440, 441, 442, 443, 444, 445, 446, 447, 448, 449, 450, 451, 452, 453, 454, 455, 456, 457, 459] s t' → RLx t' → (rng zv ∧ (wv = 0 ∨ wv = 1) ∧ 0 ≤ c' ∧ c' ≤ 4 ∧ iI t' 107 ≤ 39) → WS k 110 [(0, .ref (A 179)), (1, .int (Int32.ofInt xv)), (2, .int (Int32.ofInt yv)), (3, .int (Int32.ofInt zv)), (4, .int (Int32.ofInt wv)), (5, .int (Int32.ofInt c'))] [] (Wd A dT t') 0 0) → WS k 79 [(0, .ref (A 179)), (1, .int (Int32.ofInt xv)), (2, .int (Int32.ofInt yv)), (3, .int (Int32.ofInt zv)), (4, .int (Int32.ofInt wv)), (5, .int (Int32.ofInt c))] [] (Wd A dT t) 0 0 := by
    intro n
    induction n with
    | zero =>
      intro t xv yv zv wv c I F jjRLx hi hm kx
      have b1001 : (0 : Int) ≤ iI t 73 ∧ iI t 73 ≤ 3 := I.1 73
      have b1002 : (0 : Int) ≤ iI t 107 ∧ iI t 107 ≤ 40 := I.1 107
      refine z_load X (x := c) (show cdA 287 79 = some (.iload 5, 2, 0, 0, 0) from rfl) (List.Mem.tail _ (List.Mem.tail _ (List.Mem.tail _ (List.Mem.tail _ (List.Mem.tail _ (List.Mem.head _)))))) ?_
      refine z_const X (show cdA 287 81 = some (.iconst 4, 1, 0, 0, 0) from rfl) ?_
      refine z_icmp_ge X (t := 110) (show cdA 287 82 = some (.if_icmp .ge 28, 3, 3, 0, 0) from rfl) (by decide) ⟨by omega, by omega⟩ ⟨by omega, by omega⟩ (fun g1003 => ?_) (fun g1003 => ?_)
      ·
        refine WS_lv (lv := [(0, .ref (A 179)), (1, .int (Int32.ofInt xv)), (2, .int (Int32.ofInt yv)), (3, .int (Int32.ofInt zv)), (4, .int (Int32.ofInt wv)), (5, .int (Int32.ofInt c))]) (List.forall_mem_cons.mpr ⟨(List.Mem.head _), (List.forall_mem_cons.mpr ⟨(List.Mem.tail _ (List.Mem.head _)), (List.forall_mem_cons.mpr ⟨(List.Mem.tail _ (List.Mem.tail _ (List.Mem.head _))), (List.forall_mem_cons.mpr ⟨(List.Mem.tail _ (List.Mem.tail _ (List.Mem.tail _ (List.Mem.head _)))), (List.forall_mem_cons.mpr ⟨(List.Mem.tail _ (List.Mem.tail _ (List.Mem.tail _ (List.Mem.tail _ (List.Mem.head _))))), (List.forall_mem_cons.mpr ⟨(List.Mem.tail _ (List.Mem.tail _ (List.Mem.tail _ (List.Mem.tail _ (List.Mem.tail _ (List.Mem.head _)))))), (fun q h => absurd h List.not_mem_nil)⟩)⟩)⟩)⟩)⟩)⟩) ?_
        exact kx _ c I F jjRLx (by omega)
      ·
        refine z_aload_n X (x := A 179) (show cdA 287 85 = some (.aload_n 0, 1, 0, 0, 0) from rfl) (List.Mem.head _) ?_
        refine s_getR X 179 (show cdA 287 86 = some (.getfield 160, 3, 12, 77, 0) from rfl) (by decide) rfl rfl ?_
        refine z_aload_n X (x := A 179) (show cdA 287 89 = some (.aload_n 0, 1, 0, 0, 0) from rfl) (List.Mem.head _) ?_
        refine z_getI X 179 (show cdA 287 90 = some (.getfield 458, 3, 12, 76, 0) from rfl) (by decide) rfl rfl ?_
        have b1004 : (0 : Int) ≤ iI t 107 ∧ iI t 107 ≤ 40 := I.1 107
        refine z_aald X rw_473 (show cdA 287 93 = some (.aaload, 1, 0, 0, 0) from rfl) (by omega) (show (iI t 107) < 40 by omega) (by decide) ?_
        refine z_load X (x := c) (show cdA 287 94 = some (.iload 5, 2, 0, 0, 0) from rfl) (List.Mem.tail _ (List.Mem.tail _ (List.Mem.tail _ (List.Mem.tail _ (List.Mem.tail _ (List.Mem.head _)))))) ?_
        refine z_aload_n X (x := A 179) (show cdA 287 96 = some (.aload_n 0, 1, 0, 0, 0) from rfl) (List.Mem.head _) ?_
        refine s_getR X 179 (show cdA 287 97 = some (.getfield 32, 3, 12, 21, 0) from rfl) (by decide) rfl rfl ?_
        refine z_load X (x := c) (show cdA 287 100 = some (.iload 5, 2, 0, 0, 0) from rfl) (List.Mem.tail _ (List.Mem.tail _ (List.Mem.tail _ (List.Mem.tail _ (List.Mem.tail _ (List.Mem.head _)))))) ?_
        refine z_ald X 184 (show cdA 287 102 = some (.iaload, 1, 0, 0, 0) from rfl) (by decide) rfl (by omega) (show c < 7 by omega) (by decide) ?_
        have b1005 : ((-2147483648) : Int) ≤ iC t 161 (c).toNat ∧ iC t 161 (c).toNat ≤ 2147483647 := I.2 161 _ (show (c).toNat < 7 by omega)
        refine z_ast2 X rw_473 (show cdA 287 103 = some (.iastore, 1, 0, 0, 0) from rfl) (show ((iI t 107) : Int).toNat < 40 by omega) (by omega) (show c < 4 by omega) (by decide) ?_
        obtain ⟨s1006, hs1006⟩ : ∃ x0, x0 = uC t (417 + ((iI t 107) : Int).toNat) (c : Int).toNat (Int32.ofInt (iC t 161 (c).toNat)) := ⟨_, rfl⟩
        rw [← hs1006]
        have Is1006 : Bd s1006 := by rw [hs1006]; exact rw_st rw_473 I (show ((iI t 107) : Int).toNat < 40 by omega) (show ((-2147483648) : Int) ≤ (iC t 161 (c).toNat) ∧ (iC t 161 (c).toNat) ≤ 2147483647 by omega) ⟨by omega, by omega⟩
        have Fs1006 := fm_C (i := (c : Int).toNat) (x := Int32.ofInt (iC t 161 (c).toNat)) F ((show ∀ j, j < 40 → 417 + j ∈ _ by decide) ((iI t 107) : Int).toNat (by omega))
        rw [← hs1006] at Fs1006
        have ws1006_73 : iI s1006 73 = iI t 73 := by rw [hs1006]; rfl
        have ws1006_107 : iI s1006 107 = iI t 107 := by rw [hs1006]; rfl
        have fs1006 : Fm [] [417, 418, 419, 420, 421, 422, 423, 424, 425, 426, 427, 428, 429, 430, 431, 432, 433, 434, 435, 436, 437, 438, 439, 440, 441, 442, 443, 444, 445, 446, 447, 448, 449, 450, 451, 452, 453, 454, 455, 456] t s1006 := by rw [hs1006]; exact fm_C (fm_rf _ _ _) ((show ∀ j, j < 40 → 417 + j ∈ _ by decide) ((iI t 107) : Int).toNat (by omega))
        have JRLx_s1006 : RLx s1006 := RLx_fm fs1006 (by decide) jjRLx
        refine z_inc X (x := c) (lv' := [(5, .int (Int32.ofInt (c + 1))), (0, .ref (A 179)), (1, .int (Int32.ofInt xv)), (2, .int (Int32.ofInt yv)), (3, .int (Int32.ofInt zv)), (4, .int (Int32.ofInt wv))]) (show cdA 287 104 = some (.iinc 5 1, 3, 0, 0, 0) from rfl) (by decide) (List.Mem.tail _ (List.Mem.tail _ (List.Mem.tail _ (List.Mem.tail _ (List.Mem.tail _ (List.Mem.head _)))))) (fun _ h => h) ?_
        refine z_goto X (t := 79) (show cdA 287 107 = some (.goto (-28), 3, 0, 0, 0) from rfl) (by decide) ?_
        exfalso
        omega
    | succ n ih =>
      intro t xv yv zv wv c I F jjRLx hi hm kx
      have b1001 : (0 : Int) ≤ iI t 73 ∧ iI t 73 ≤ 3 := I.1 73
      have b1002 : (0 : Int) ≤ iI t 107 ∧ iI t 107 ≤ 40 := I.1 107
      refine z_load X (x := c) (show cdA 287 79 = some (.iload 5, 2, 0, 0, 0) from rfl) (List.Mem.tail _ (List.Mem.tail _ (List.Mem.tail _ (List.Mem.tail _ (List.Mem.tail _ (List.Mem.head _)))))) ?_
      refine z_const X (show cdA 287 81 = some (.iconst 4, 1, 0, 0, 0) from rfl) ?_
      refine z_icmp_ge X (t := 110) (show cdA 287 82 = some (.if_icmp .ge 28, 3, 3, 0, 0) from rfl) (by decide) ⟨by omega, by omega⟩ ⟨by omega, by omega⟩ (fun g1003 => ?_) (fun g1003 => ?_)
      ·
        refine WS_lv (lv := [(0, .ref (A 179)), (1, .int (Int32.ofInt xv)), (2, .int (Int32.ofInt yv)), (3, .int (Int32.ofInt zv)), (4, .int (Int32.ofInt wv)), (5, .int (Int32.ofInt c))]) (List.forall_mem_cons.mpr ⟨(List.Mem.head _), (List.forall_mem_cons.mpr ⟨(List.Mem.tail _ (List.Mem.head _)), (List.forall_mem_cons.mpr ⟨(List.Mem.tail _ (List.Mem.tail _ (List.Mem.head _))), (List.forall_mem_cons.mpr ⟨(List.Mem.tail _ (List.Mem.tail _ (List.Mem.tail _ (List.Mem.head _)))), (List.forall_mem_cons.mpr ⟨(List.Mem.tail _ (List.Mem.tail _ (List.Mem.tail _ (List.Mem.tail _ (List.Mem.head _))))), (List.forall_mem_cons.mpr ⟨(List.Mem.tail _ (List.Mem.tail _ (List.Mem.tail _ (List.Mem.tail _ (List.Mem.tail _ (List.Mem.head _)))))), (fun q h => absurd h List.not_mem_nil)⟩)⟩)⟩)⟩)⟩)⟩) ?_
        exact kx _ c I F jjRLx (by omega)
      ·
        refine z_aload_n X (x := A 179) (show cdA 287 85 = some (.aload_n 0, 1, 0, 0, 0) from rfl) (List.Mem.head _) ?_
        refine s_getR X 179 (show cdA 287 86 = some (.getfield 160, 3, 12, 77, 0) from rfl) (by decide) rfl rfl ?_
        refine z_aload_n X (x := A 179) (show cdA 287 89 = some (.aload_n 0, 1, 0, 0, 0) from rfl) (List.Mem.head _) ?_
        refine z_getI X 179 (show cdA 287 90 = some (.getfield 458, 3, 12, 76, 0) from rfl) (by decide) rfl rfl ?_
        have b1004 : (0 : Int) ≤ iI t 107 ∧ iI t 107 ≤ 40 := I.1 107
        refine z_aald X rw_473 (show cdA 287 93 = some (.aaload, 1, 0, 0, 0) from rfl) (by omega) (show (iI t 107) < 40 by omega) (by decide) ?_
        refine z_load X (x := c) (show cdA 287 94 = some (.iload 5, 2, 0, 0, 0) from rfl) (List.Mem.tail _ (List.Mem.tail _ (List.Mem.tail _ (List.Mem.tail _ (List.Mem.tail _ (List.Mem.head _)))))) ?_
        refine z_aload_n X (x := A 179) (show cdA 287 96 = some (.aload_n 0, 1, 0, 0, 0) from rfl) (List.Mem.head _) ?_
        refine s_getR X 179 (show cdA 287 97 = some (.getfield 32, 3, 12, 21, 0) from rfl) (by decide) rfl rfl ?_
        refine z_load X (x := c) (show cdA 287 100 = some (.iload 5, 2, 0, 0, 0) from rfl) (List.Mem.tail _ (List.Mem.tail _ (List.Mem.tail _ (List.Mem.tail _ (List.Mem.tail _ (List.Mem.head _)))))) ?_
        refine z_ald X 184 (show cdA 287 102 = some (.iaload, 1, 0, 0, 0) from rfl) (by decide) rfl (by omega) (show c < 7 by omega) (by decide) ?_
        have b1005 : ((-2147483648) : Int) ≤ iC t 161 (c).toNat ∧ iC t 161 (c).toNat ≤ 2147483647 := I.2 161 _ (show (c).toNat < 7 by omega)
        refine z_ast2 X rw_473 (show cdA 287 103 = some (.iastore, 1, 0, 0, 0) from rfl) (show ((iI t 107) : Int).toNat < 40 by omega) (by omega) (show c < 4 by omega) (by decide) ?_
        obtain ⟨s1006, hs1006⟩ : ∃ x0, x0 = uC t (417 + ((iI t 107) : Int).toNat) (c : Int).toNat (Int32.ofInt (iC t 161 (c).toNat)) := ⟨_, rfl⟩
        rw [← hs1006]
        have Is1006 : Bd s1006 := by rw [hs1006]; exact rw_st rw_473 I (show ((iI t 107) : Int).toNat < 40 by omega) (show ((-2147483648) : Int) ≤ (iC t 161 (c).toNat) ∧ (iC t 161 (c).toNat) ≤ 2147483647 by omega) ⟨by omega, by omega⟩
        have Fs1006 := fm_C (i := (c : Int).toNat) (x := Int32.ofInt (iC t 161 (c).toNat)) F ((show ∀ j, j < 40 → 417 + j ∈ _ by decide) ((iI t 107) : Int).toNat (by omega))
        rw [← hs1006] at Fs1006
        have ws1006_73 : iI s1006 73 = iI t 73 := by rw [hs1006]; rfl
        have ws1006_107 : iI s1006 107 = iI t 107 := by rw [hs1006]; rfl
        have fs1006 : Fm [] [417, 418, 419, 420, 421, 422, 423, 424, 425, 426, 427, 428, 429, 430, 431, 432, 433, 434, 435, 436, 437, 438, 439, 440, 441, 442, 443, 444, 445, 446, 447, 448, 449, 450, 451, 452, 453, 454, 455, 456] t s1006 := by rw [hs1006]; exact fm_C (fm_rf _ _ _) ((show ∀ j, j < 40 → 417 + j ∈ _ by decide) ((iI t 107) : Int).toNat (by omega))
        have JRLx_s1006 : RLx s1006 := RLx_fm fs1006 (by decide) jjRLx
        refine z_inc X (x := c) (lv' := [(5, .int (Int32.ofInt (c + 1))), (0, .ref (A 179)), (1, .int (Int32.ofInt xv)), (2, .int (Int32.ofInt yv)), (3, .int (Int32.ofInt zv)), (4, .int (Int32.ofInt wv))]) (show cdA 287 104 = some (.iinc 5 1, 3, 0, 0, 0) from rfl) (by decide) (List.Mem.tail _ (List.Mem.tail _ (List.Mem.tail _ (List.Mem.tail _ (List.Mem.tail _ (List.Mem.head _)))))) (fun _ h => h) ?_
        refine z_goto X (t := 79) (show cdA 287 107 = some (.goto (-28), 3, 0, 0, 0) from rfl) (by decide) ?_
        refine WS_lv (lv := [(0, .ref (A 179)), (1, .int (Int32.ofInt xv)), (2, .int (Int32.ofInt yv)), (3, .int (Int32.ofInt zv)), (4, .int (Int32.ofInt wv)), (5, .int (Int32.ofInt (c + 1)))]) (List.forall_mem_cons.mpr ⟨(List.Mem.tail _ (List.Mem.head _)), (List.forall_mem_cons.mpr ⟨(List.Mem.tail _ (List.Mem.tail _ (List.Mem.head _))), (List.forall_mem_cons.mpr ⟨(List.Mem.tail _ (List.Mem.tail _ (List.Mem.tail _ (List.Mem.head _)))), (List.forall_mem_cons.mpr ⟨(List.Mem.tail _ (List.Mem.tail _ (List.Mem.tail _ (List.Mem.tail _ (List.Mem.head _))))), (List.forall_mem_cons.mpr ⟨(List.Mem.tail _ (List.Mem.tail _ (List.Mem.tail _ (List.Mem.tail _ (List.Mem.tail _ (List.Mem.head _)))))), (List.forall_mem_cons.mpr ⟨(List.Mem.head _), (fun q h => absurd h List.not_mem_nil)⟩)⟩)⟩)⟩)⟩)⟩) ?_
        exact ih _ xv yv zv wv (c + 1) Is1006 Fs1006 JRLx_s1006 (by omega) (by omega) kx
  refine z_aload_n X (x := A 179) (show cdA 287 0 = some (.aload_n 0, 1, 0, 0, 0) from rfl) (List.Mem.head _) ?_
  refine z_const X (show cdA 287 1 = some (.iconst 0, 1, 0, 0, 0) from rfl) ?_
  refine s_putI X 179 (show cdA 287 2 = some (.putfield 172, 3, 12, 0, 0) from rfl) (by decide) rfl rfl (by decide) rfl rfl rfl ?_
  obtain ⟨s3, hs3⟩ : ∃ x0, x0 = uI s 73 (Int32.ofInt 0) := ⟨_, rfl⟩
  rw [← hs3]
  have Is3 : Bd s3 := by rw [hs3]; exact bd_I I (show (0 : Int) ≤ 0 ∧ 0 ≤ 3 by omega) ⟨by omega, by omega⟩
  have Fs3 := fm_I (x := Int32.ofInt 0) F (show 73 ∈ _ by decide)
  rw [← hs3] at Fs3
  have vs3 : iI s3 73 = 0 := by rw [hs3]; exact iI_u ⟨by omega, by omega⟩
  have ws3_107 : iI s3 107 = iI s 107 := by rw [hs3]; rfl
  have fs3 : Fm [73] [] s s3 := by rw [hs3]; exact fm_I (fm_rf _ _ _) (show 73 ∈ _ by decide)
  have JRLx_s3 : RLx s3 := RLx_fm fs3 (by decide) jRLx
  refine z_aload_n X (x := A 179) (show cdA 287 5 = some (.aload_n 0, 1, 0, 0, 0) from rfl) (List.Mem.head _) ?_
  refine z_load_n X (x := x) (show cdA 287 6 = some (.iload_n 1, 1, 0, 0, 0) from rfl) (List.Mem.tail _ (List.Mem.head _)) ?_
  refine z_const X (show cdA 287 7 = some (.iconst 0, 1, 0, 0, 0) from rfl) ?_
  refine z_bipush X (show cdA 287 8 = some (.bipush 7, 2, 0, 0, 7) from rfl) ?_
  refine z_callS X (rm := rmN 188) (As := [.int (Int32.ofInt x), .int (Int32.ofInt 0), .int (Int32.ofInt 7)]) (st := [.ref (A 179)]) (show cdA 287 10 = some (.invokestatic 209, 3, 188, 1, 0) from rfl) rfl (by rw [E.1, E.2.1, E.2.2.1]; exact k_in G Is3 (by omega) (by omega) (by omega)) ⟨by rw [E.2.2.2]; exact (show (rmN 188).frames + 1 ≤ (rmN 287).frames by decide), by rw [E.2.2.2]; exact (show 8 + (mNL (miB 188) + 11) + (rmN 188).locals ≤ (rmN 287).locals by decide), by rw [E.2.2.2]; exact (show 0 + (rmN 188).cells ≤ (rmN 287).cells by decide), by rw [E.2.2.2]; exact (show 0 + (rmN 188).slots ≤ (rmN 287).slots by decide)⟩ (Nat.le_of_ble_eq_true rfl) (fun vv s4 hq => ?_) (fun ee s4 hq => ?_)
  rotate_left
  · obtain ⟨Is4, Fs4, e5, hv, hrs4, hps4⟩ := hq; cases hv
  obtain ⟨Is4, Fs4, e5, hv, hrs4, hps4⟩ := hq
  cases hv
  have Gs4 := fm_ts Fs3 Fs4 (by decide) (by decide)
  have JRLx_s4 : RLx s4 := RLx_fm Fs4 (by decide) JRLx_s3
  have ws4_73 : iI s4 73 = iI s3 73 := fm_i Fs4 (by decide)
  have ws4_107 : iI s4 107 = iI s3 107 := fm_i Fs4 (by decide)
  show WS k 13 [(0, .ref (A 179)), (1, .int (Int32.ofInt x)), (2, .int (Int32.ofInt y)), (3, .int (Int32.ofInt z)), (4, .int (Int32.ofInt w))] [.int (Int32.ofInt e5), .ref (A 179)] (Wd A dT s4) 0 0
  refine z_if_eq X (t := 37) (show cdA 287 13 = some (.ifCond .eq 24, 3, 0, 0, 0) from rfl) (by decide) ⟨by omega, by omega⟩ (fun g6 => ?_) (fun g6 => ?_)
  ·
    refine z_const X (show cdA 287 37 = some (.iconst 1, 1, 0, 0, 0) from rfl) ?_
    refine z_goto X (t := 42) (show cdA 287 38 = some (.goto 4, 3, 0, 0, 0) from rfl) (by decide) ?_
    refine z_const X (show cdA 287 42 = some (.iconst 1, 1, 0, 0, 0) from rfl) ?_
    refine z_callV X 179 (rm := rmN 187) (As := [.int (Int32.ofInt 1), .int (Int32.ofInt 1)]) (st := []) (show cdA 287 43 = some (.invokevirtual 229, 3, 187, 0, 0) from rfl) rfl (by decide) rfl (by rw [E.1, E.2.1, E.2.2.1]; exact k_bad G Is4 (by omega) (by omega)) ⟨by rw [E.2.2.2]; exact (show (rmN 187).frames + 1 ≤ (rmN 287).frames by decide), by rw [E.2.2.2]; exact (show 8 + (mNL (miB 187) + 11) + (rmN 187).locals ≤ (rmN 287).locals by decide), by rw [E.2.2.2]; exact (show 0 + (rmN 187).cells ≤ (rmN 287).cells by decide), by rw [E.2.2.2]; exact (show 0 + (rmN 187).slots ≤ (rmN 287).slots by decide)⟩ (Nat.le_of_ble_eq_true rfl) (fun vv s7 hq => ?_) (fun ee s7 hq => ?_)
    rotate_left
    · obtain ⟨Is7, Fs7, e8, hv, hrs7, hps7⟩ := hq; cases hv
    obtain ⟨Is7, Fs7, e8, hv, hrs7, hps7⟩ := hq
    cases hv
    have Gs7 := fm_ts Gs4 Fs7 (by decide) (by decide)
    have JRLx_s7 : RLx s7 := RLx_fm Fs7 (by decide) JRLx_s4
    have b9 : (0 : Int) ≤ iI s7 73 ∧ iI s7 73 ≤ 3 := Is7.1 73
    have ws7_107 : iI s7 107 = iI s4 107 := fm_i Fs7 (by decide)
    show WS k 46 [(0, .ref (A 179)), (1, .int (Int32.ofInt x)), (2, .int (Int32.ofInt y)), (3, .int (Int32.ofInt z)), (4, .int (Int32.ofInt w))] [.int (Int32.ofInt e8)] (Wd A dT s7) 0 0
    refine z_if_eq X (t := 51) (show cdA 287 46 = some (.ifCond .eq 5, 3, 0, 0, 0) from rfl) (by decide) ⟨by omega, by omega⟩ (fun g10 => ?_) (fun g10 => ?_)
    ·
      refine z_aload_n X (x := A 179) (show cdA 287 51 = some (.aload_n 0, 1, 0, 0, 0) from rfl) (List.Mem.head _) ?_
      refine z_getI X 179 (show cdA 287 52 = some (.getfield 458, 3, 12, 76, 0) from rfl) (by decide) rfl rfl ?_
      have b11 : (0 : Int) ≤ iI s7 107 ∧ iI s7 107 ≤ 40 := Is7.1 107
      refine z_bipush X (show cdA 287 55 = some (.bipush 40, 2, 0, 0, 40) from rfl) ?_
      refine z_icmp_ne X (t := 62) (show cdA 287 57 = some (.if_icmp .ne 5, 3, 1, 0, 0) from rfl) (by decide) ⟨by omega, by omega⟩ ⟨by omega, by omega⟩ (fun g12 => ?_) (fun g12 => ?_)
      ·
        refine z_aload_n X (x := A 179) (show cdA 287 62 = some (.aload_n 0, 1, 0, 0, 0) from rfl) (List.Mem.head _) ?_
        refine z_load_n X (x := x) (show cdA 287 63 = some (.iload_n 1, 1, 0, 0, 0) from rfl) (List.Mem.tail _ (List.Mem.head _)) ?_
        refine z_callV X 179 (rm := rmN 230) (As := [.int (Int32.ofInt x)]) (st := []) (show cdA 287 64 = some (.invokevirtual 327, 3, 230, 0, 0) from rfl) rfl (by decide) rfl (by rw [E.1, E.2.1, E.2.2.1]; exact k_setOf G Is7 (by omega)) ⟨by rw [E.2.2.2]; exact (show (rmN 230).frames + 1 ≤ (rmN 287).frames by decide), by rw [E.2.2.2]; exact (show 8 + (mNL (miB 230) + 11) + (rmN 230).locals ≤ (rmN 287).locals by decide), by rw [E.2.2.2]; exact (show 0 + (rmN 230).cells ≤ (rmN 287).cells by decide), by rw [E.2.2.2]; exact (show 0 + (rmN 230).slots ≤ (rmN 287).slots by decide)⟩ (Nat.le_of_ble_eq_true rfl) (fun vv s13 hq => ?_) (fun ee s13 hq => ?_)
        rotate_left
        · obtain ⟨Is13, Fs13, hv, hps13⟩ := hq; cases hv
        obtain ⟨Is13, Fs13, hv, hps13⟩ := hq
        cases hv
        have Gs13 := fm_ts Gs7 Fs13 (by decide) (by decide)
        have JRLx_s13 : RLx s13 := RLx_fm Fs13 (by decide) JRLx_s7
        have ws13_73 : iI s13 73 = iI s7 73 := fm_i Fs13 (by decide)
        have ws13_107 : iI s13 107 = iI s7 107 := fm_i Fs13 (by decide)
        show WS k 67 [(0, .ref (A 179)), (1, .int (Int32.ofInt x)), (2, .int (Int32.ofInt y)), (3, .int (Int32.ofInt z)), (4, .int (Int32.ofInt w))] [] (Wd A dT s13) 0 0
        refine z_aload_n X (x := A 179) (show cdA 287 67 = some (.aload_n 0, 1, 0, 0, 0) from rfl) (List.Mem.head _) ?_
        refine z_load_n X (x := y) (show cdA 287 68 = some (.iload_n 2, 1, 0, 0, 0) from rfl) (List.Mem.tail _ (List.Mem.tail _ (List.Mem.head _))) ?_
        refine z_callV X 179 (rm := rmN 222) (As := [.int (Int32.ofInt y)]) (st := []) (show cdA 287 69 = some (.invokevirtual 333, 3, 222, 0, 0) from rfl) rfl (by decide) rfl (by rw [E.1, E.2.1, E.2.2.1]; exact k_asTold G Is13 JRLx_s13 (by omega)) ⟨by rw [E.2.2.2]; exact (show (rmN 222).frames + 1 ≤ (rmN 287).frames by decide), by rw [E.2.2.2]; exact (show 8 + (mNL (miB 222) + 11) + (rmN 222).locals ≤ (rmN 287).locals by decide), by rw [E.2.2.2]; exact (show 0 + (rmN 222).cells ≤ (rmN 287).cells by decide), by rw [E.2.2.2]; exact (show 0 + (rmN 222).slots ≤ (rmN 287).slots by decide)⟩ (Nat.le_of_ble_eq_true rfl) (fun vv s15 hq => ?_) (fun ee s15 hq => ?_)
        rotate_left
        · obtain ⟨Is15, Fs15, JRLx_s15, JNQ_s15, hv, hps15⟩ := hq; cases hv
        obtain ⟨Is15, Fs15, JRLx_s15, JNQ_s15, hv, hps15⟩ := hq
        cases hv
        have Gs15 := fm_ts Gs13 Fs15 (by decide) (by decide)
        have JRLx_s15 : RLx s15 := RLx_fm Fs15 (by decide) JRLx_s13
        have ws15_73 : iI s15 73 = iI s13 73 := fm_i Fs15 (by decide)
        have ws15_107 : iI s15 107 = iI s13 107 := fm_i Fs15 (by decide)
        show WS k 72 [(0, .ref (A 179)), (1, .int (Int32.ofInt x)), (2, .int (Int32.ofInt y)), (3, .int (Int32.ofInt z)), (4, .int (Int32.ofInt w))] [] (Wd A dT s15) 0 0
        refine z_aload_n X (x := A 179) (show cdA 287 72 = some (.aload_n 0, 1, 0, 0, 0) from rfl) (List.Mem.head _) ?_
        have JNW_s15 : NW s15 := NW_of JNQ_s15 JRLx_s15
        refine z_callV X 179 (rm := rmN 227) (As := []) (st := []) (show cdA 287 73 = some (.invokevirtual 318, 3, 227, 0, 0) from rfl) rfl (by decide) rfl (by rw [E.1, E.2.1, E.2.2.1]; exact k_listen G Is15 JNW_s15 ) ⟨by rw [E.2.2.2]; exact (show (rmN 227).frames + 1 ≤ (rmN 287).frames by decide), by rw [E.2.2.2]; exact (show 8 + (mNL (miB 227) + 11) + (rmN 227).locals ≤ (rmN 287).locals by decide), by rw [E.2.2.2]; exact (show 0 + (rmN 227).cells ≤ (rmN 287).cells by decide), by rw [E.2.2.2]; exact (show 0 + (rmN 227).slots ≤ (rmN 287).slots by decide)⟩ (Nat.le_of_ble_eq_true rfl) (fun vv s17 hq => ?_) (fun ee s17 hq => ?_)
        rotate_left
        · obtain ⟨Is17, Fs17, JNW_s17, hv, hps17⟩ := hq; cases hv
        obtain ⟨Is17, Fs17, JNW_s17, hv, hps17⟩ := hq
        cases hv
        have Gs17 := fm_ts Gs15 Fs17 (by decide) (by decide)
        have JRLx_s17 : RLx s17 := RLx_fm Fs17 (by decide) JRLx_s15
        have JNQ_s17 : NQ s17 := NQ_fm Fs17 (by decide) JNQ_s15
        have JNW_s17 : NW s17 := NW_fm Fs17 (by decide) JNW_s15
        have ws17_73 : iI s17 73 = iI s15 73 := fm_i Fs17 (by decide)
        have ws17_107 : iI s17 107 = iI s15 107 := fm_i Fs17 (by decide)
        show WS k 76 [(0, .ref (A 179)), (1, .int (Int32.ofInt x)), (2, .int (Int32.ofInt y)), (3, .int (Int32.ofInt z)), (4, .int (Int32.ofInt w))] [] (Wd A dT s17) 0 0
        refine z_const X (show cdA 287 76 = some (.iconst 0, 1, 0, 0, 0) from rfl) ?_
        refine z_store X (lv' := [(5, .int (Int32.ofInt 0)), (0, .ref (A 179)), (1, .int (Int32.ofInt x)), (2, .int (Int32.ofInt y)), (3, .int (Int32.ofInt z)), (4, .int (Int32.ofInt w))]) (show cdA 287 77 = some (.istore 5, 2, 0, 0, 0) from rfl) (by decide) (fun _ h => h) ?_
        refine WS_lv (lv := [(0, .ref (A 179)), (1, .int (Int32.ofInt x)), (2, .int (Int32.ofInt y)), (3, .int (Int32.ofInt z)), (4, .int (Int32.ofInt w)), (5, .int (Int32.ofInt 0))]) (List.forall_mem_cons.mpr ⟨(List.Mem.tail _ (List.Mem.head _)), (List.forall_mem_cons.mpr ⟨(List.Mem.tail _ (List.Mem.tail _ (List.Mem.head _))), (List.forall_mem_cons.mpr ⟨(List.Mem.tail _ (List.Mem.tail _ (List.Mem.tail _ (List.Mem.head _)))), (List.forall_mem_cons.mpr ⟨(List.Mem.tail _ (List.Mem.tail _ (List.Mem.tail _ (List.Mem.tail _ (List.Mem.head _))))), (List.forall_mem_cons.mpr ⟨(List.Mem.tail _ (List.Mem.tail _ (List.Mem.tail _ (List.Mem.tail _ (List.Mem.tail _ (List.Mem.head _)))))), (List.forall_mem_cons.mpr ⟨(List.Mem.head _), (fun q h => absurd h List.not_mem_nil)⟩)⟩)⟩)⟩)⟩)⟩) ?_
        refine L79 ((4 - 0 : Int)).toNat s17 x y z w 0 Is17 Gs17 JRLx_s17 (by omega) (by omega) ?_
        intro s19 x20 Is19 Fs19 JRLx_s19 hs19
        have b21 : (0 : Int) ≤ iI s19 73 ∧ iI s19 73 ≤ 3 := Is19.1 73
        have b22 : (0 : Int) ≤ iI s19 107 ∧ iI s19 107 ≤ 40 := Is19.1 107
        refine z_aload_n X (x := A 179) (show cdA 287 110 = some (.aload_n 0, 1, 0, 0, 0) from rfl) (List.Mem.head _) ?_
        refine s_getR X 179 (show cdA 287 111 = some (.getfield 163, 3, 12, 78, 0) from rfl) (by decide) rfl rfl ?_
        refine z_aload_n X (x := A 179) (show cdA 287 114 = some (.aload_n 0, 1, 0, 0, 0) from rfl) (List.Mem.head _) ?_
        refine z_getI X 179 (show cdA 287 115 = some (.getfield 458, 3, 12, 76, 0) from rfl) (by decide) rfl rfl ?_
        have b23 : (0 : Int) ≤ iI s19 107 ∧ iI s19 107 ≤ 40 := Is19.1 107
        refine z_load_n X (x := z) (show cdA 287 118 = some (.iload_n 3, 1, 0, 0, 0) from rfl) (List.Mem.tail _ (List.Mem.tail _ (List.Mem.tail _ (List.Mem.head _)))) ?_
        refine z_ast X 514 (show cdA 287 119 = some (.iastore, 1, 0, 0, 0) from rfl) (by decide) rfl (by omega) (show (iI s19 107) < 40 by omega) (by decide) ?_
        obtain ⟨s24, hs24⟩ : ∃ x0, x0 = uC s19 457 ((iI s19 107)).toNat (Int32.ofInt z) := ⟨_, rfl⟩
        rw [← hs24]
        have Is24 : Bd s24 := by rw [hs24]; exact bd_C Is19 (show ((-2147483648) : Int) ≤ z ∧ z ≤ 2147483647 by omega) ⟨by omega, by omega⟩
        have Fs24 := fm_C (i := ((iI s19 107)).toNat) (x := Int32.ofInt z) Fs19 (show 457 ∈ _ by decide)
        rw [← hs24] at Fs24
        have ws24_73 : iI s24 73 = iI s19 73 := by rw [hs24]; rfl
        have ws24_107 : iI s24 107 = iI s19 107 := by rw [hs24]; rfl
        have fs24 : Fm [] [457] s19 s24 := by rw [hs24]; exact fm_C (fm_rf _ _ _) (show 457 ∈ _ by decide)
        have JRLx_s24 : RLx s24 := RLx_fm fs24 (by decide) JRLx_s19
        refine z_aload_n X (x := A 179) (show cdA 287 120 = some (.aload_n 0, 1, 0, 0, 0) from rfl) (List.Mem.head _) ?_
        refine s_getR X 179 (show cdA 287 121 = some (.getfield 169, 3, 12, 80, 0) from rfl) (by decide) rfl rfl ?_
        refine z_aload_n X (x := A 179) (show cdA 287 124 = some (.aload_n 0, 1, 0, 0, 0) from rfl) (List.Mem.head _) ?_
        refine z_getI X 179 (show cdA 287 125 = some (.getfield 458, 3, 12, 76, 0) from rfl) (by decide) rfl rfl ?_
        have b25 : (0 : Int) ≤ iI s24 107 ∧ iI s24 107 ≤ 40 := Is24.1 107
        refine z_load X (x := w) (show cdA 287 128 = some (.iload 4, 2, 0, 0, 0) from rfl) (List.Mem.tail _ (List.Mem.tail _ (List.Mem.tail _ (List.Mem.tail _ (List.Mem.head _))))) ?_
        refine z_zast X 516 (show cdA 287 130 = some (.bastore, 1, 0, 0, 0) from rfl) (by decide) rfl (by omega) (show (iI s24 107) < 40 by omega) (by decide) (by omega) ?_
        obtain ⟨s26, hs26⟩ : ∃ x0, x0 = uC s24 459 ((iI s24 107)).toNat (Int32.ofInt w) := ⟨_, rfl⟩
        rw [← hs26]
        have Is26 : Bd s26 := by rw [hs26]; exact bd_C Is24 (show (0 : Int) ≤ w ∧ w ≤ 1 by omega) ⟨by omega, by omega⟩
        have Fs26 := fm_C (i := ((iI s24 107)).toNat) (x := Int32.ofInt w) Fs24 (show 459 ∈ _ by decide)
        rw [← hs26] at Fs26
        have ws26_73 : iI s26 73 = iI s24 73 := by rw [hs26]; rfl
        have ws26_107 : iI s26 107 = iI s24 107 := by rw [hs26]; rfl
        have fs26 : Fm [] [459] s24 s26 := by rw [hs26]; exact fm_C (fm_rf _ _ _) (show 459 ∈ _ by decide)
        have JRLx_s26 : RLx s26 := RLx_fm fs26 (by decide) JRLx_s24
        refine z_aload_n X (x := A 179) (show cdA 287 131 = some (.aload_n 0, 1, 0, 0, 0) from rfl) (List.Mem.head _) ?_
        refine w_dup X.1 (ax_d X (show cdA 287 132 = some (.dup, 1, 0, 0, 0) from rfl)) rfl ?_
        refine z_getI X 179 (show cdA 287 133 = some (.getfield 458, 3, 12, 76, 0) from rfl) (by decide) rfl rfl ?_
        have b27 : (0 : Int) ≤ iI s26 107 ∧ iI s26 107 ≤ 40 := Is26.1 107
        refine z_const X (show cdA 287 136 = some (.iconst 1, 1, 0, 0, 0) from rfl) ?_
        refine z_add X (show cdA 287 137 = some (.iadd, 1, 0, 0, 0) from rfl) ?_
        refine s_putI X 179 (show cdA 287 138 = some (.putfield 458, 3, 12, 76, 0) from rfl) (by decide) rfl rfl (by decide) rfl rfl rfl ?_
        obtain ⟨s28, hs28⟩ : ∃ x0, x0 = uI s26 107 (Int32.ofInt ((iI s26 107) + 1)) := ⟨_, rfl⟩
        rw [← hs28]
        have Is28 : Bd s28 := by rw [hs28]; exact bd_I Is26 (show (0 : Int) ≤ ((iI s26 107) + 1) ∧ ((iI s26 107) + 1) ≤ 40 by omega) ⟨by omega, by omega⟩
        have Fs28 := fm_I (x := Int32.ofInt ((iI s26 107) + 1)) Fs26 (show 107 ∈ _ by decide)
        rw [← hs28] at Fs28
        have vs28 : iI s28 107 = ((iI s26 107) + 1) := by rw [hs28]; exact iI_u ⟨by omega, by omega⟩
        have ws28_73 : iI s28 73 = iI s26 73 := by rw [hs28]; rfl
        have fs28 : Fm [107] [] s26 s28 := by rw [hs28]; exact fm_I (fm_rf _ _ _) (show 107 ∈ _ by decide)
        have JRLx_s28 : RLx s28 := RLx_fm fs28 (by decide) JRLx_s26
        refine z_aload_n X (x := A 179) (show cdA 287 141 = some (.aload_n 0, 1, 0, 0, 0) from rfl) (List.Mem.head _) ?_
        refine z_getI X 179 (show cdA 287 142 = some (.getfield 458, 3, 12, 76, 0) from rfl) (by decide) rfl rfl ?_
        have b29 : (0 : Int) ≤ iI s28 107 ∧ iI s28 107 ≤ 40 := Is28.1 107
        refine z_const X (show cdA 287 145 = some (.iconst 1, 1, 0, 0, 0) from rfl) ?_
        refine z_sub X (show cdA 287 146 = some (.isub, 1, 0, 0, 0) from rfl) ?_
        exact w_iret X.1 q hRt rfl (ax_d X (show cdA 287 147 = some (.ireturn, 1, 0, 0, 0) from rfl)) (Nat.zero_le _) (Nat.zero_le _) ⟨_, rfl, Is28, Fs28, JRLx_s28, ((iI s28 107) - 1), rfl, ⟨by omega, by omega⟩, trivial⟩
      ·
        refine z_const X (show cdA 287 60 = some (.iconst (-1), 1, 0, 0, 0) from rfl) ?_
        exact w_iret X.1 q hRt rfl (ax_d X (show cdA 287 61 = some (.ireturn, 1, 0, 0, 0) from rfl)) (Nat.zero_le _) (Nat.zero_le _) ⟨_, rfl, Is7, Gs7, JRLx_s7, (-1), rfl, ⟨by omega, by omega⟩, trivial⟩
    ·
      refine z_const X (show cdA 287 49 = some (.iconst 0, 1, 0, 0, 0) from rfl) ?_
      exact w_iret X.1 q hRt rfl (ax_d X (show cdA 287 50 = some (.ireturn, 1, 0, 0, 0) from rfl)) (Nat.zero_le _) (Nat.zero_le _) ⟨_, rfl, Is7, Gs7, JRLx_s7, 0, rfl, ⟨by omega, by omega⟩, trivial⟩
  ·
    refine z_load_n X (x := y) (show cdA 287 16 = some (.iload_n 2, 1, 0, 0, 0) from rfl) (List.Mem.tail _ (List.Mem.tail _ (List.Mem.head _))) ?_
    refine z_const X (show cdA 287 17 = some (.iconst 0, 1, 0, 0, 0) from rfl) ?_
    refine z_bipush X (show cdA 287 18 = some (.bipush 23, 2, 0, 0, 23) from rfl) ?_
    refine z_callS X (rm := rmN 188) (As := [.int (Int32.ofInt y), .int (Int32.ofInt 0), .int (Int32.ofInt 23)]) (st := [.ref (A 179)]) (show cdA 287 20 = some (.invokestatic 209, 3, 188, 1, 0) from rfl) rfl (by rw [E.1, E.2.1, E.2.2.1]; exact k_in G Is4 (by omega) (by omega) (by omega)) ⟨by rw [E.2.2.2]; exact (show (rmN 188).frames + 1 ≤ (rmN 287).frames by decide), by rw [E.2.2.2]; exact (show 8 + (mNL (miB 188) + 11) + (rmN 188).locals ≤ (rmN 287).locals by decide), by rw [E.2.2.2]; exact (show 0 + (rmN 188).cells ≤ (rmN 287).cells by decide), by rw [E.2.2.2]; exact (show 0 + (rmN 188).slots ≤ (rmN 287).slots by decide)⟩ (Nat.le_of_ble_eq_true rfl) (fun vv s30 hq => ?_) (fun ee s30 hq => ?_)
    rotate_left
    · obtain ⟨Is30, Fs30, e31, hv, hrs30, hps30⟩ := hq; cases hv
    obtain ⟨Is30, Fs30, e31, hv, hrs30, hps30⟩ := hq
    cases hv
    have Gs30 := fm_ts Gs4 Fs30 (by decide) (by decide)
    have JRLx_s30 : RLx s30 := RLx_fm Fs30 (by decide) JRLx_s4
    have ws30_73 : iI s30 73 = iI s4 73 := fm_i Fs30 (by decide)
    have ws30_107 : iI s30 107 = iI s4 107 := fm_i Fs30 (by decide)
    show WS k 23 [(0, .ref (A 179)), (1, .int (Int32.ofInt x)), (2, .int (Int32.ofInt y)), (3, .int (Int32.ofInt z)), (4, .int (Int32.ofInt w))] [.int (Int32.ofInt e31), .ref (A 179)] (Wd A dT s30) 0 0
    refine z_if_eq X (t := 37) (show cdA 287 23 = some (.ifCond .eq 14, 3, 0, 0, 0) from rfl) (by decide) ⟨by omega, by omega⟩ (fun g32 => ?_) (fun g32 => ?_)
    ·
      refine z_const X (show cdA 287 37 = some (.iconst 1, 1, 0, 0, 0) from rfl) ?_
      refine z_goto X (t := 42) (show cdA 287 38 = some (.goto 4, 3, 0, 0, 0) from rfl) (by decide) ?_
      refine z_const X (show cdA 287 42 = some (.iconst 1, 1, 0, 0, 0) from rfl) ?_
      refine z_callV X 179 (rm := rmN 187) (As := [.int (Int32.ofInt 1), .int (Int32.ofInt 1)]) (st := []) (show cdA 287 43 = some (.invokevirtual 229, 3, 187, 0, 0) from rfl) rfl (by decide) rfl (by rw [E.1, E.2.1, E.2.2.1]; exact k_bad G Is30 (by omega) (by omega)) ⟨by rw [E.2.2.2]; exact (show (rmN 187).frames + 1 ≤ (rmN 287).frames by decide), by rw [E.2.2.2]; exact (show 8 + (mNL (miB 187) + 11) + (rmN 187).locals ≤ (rmN 287).locals by decide), by rw [E.2.2.2]; exact (show 0 + (rmN 187).cells ≤ (rmN 287).cells by decide), by rw [E.2.2.2]; exact (show 0 + (rmN 187).slots ≤ (rmN 287).slots by decide)⟩ (Nat.le_of_ble_eq_true rfl) (fun vv s33 hq => ?_) (fun ee s33 hq => ?_)
      rotate_left
      · obtain ⟨Is33, Fs33, e34, hv, hrs33, hps33⟩ := hq; cases hv
      obtain ⟨Is33, Fs33, e34, hv, hrs33, hps33⟩ := hq
      cases hv
      have Gs33 := fm_ts Gs30 Fs33 (by decide) (by decide)
      have JRLx_s33 : RLx s33 := RLx_fm Fs33 (by decide) JRLx_s30
      have b35 : (0 : Int) ≤ iI s33 73 ∧ iI s33 73 ≤ 3 := Is33.1 73
      have ws33_107 : iI s33 107 = iI s30 107 := fm_i Fs33 (by decide)
      show WS k 46 [(0, .ref (A 179)), (1, .int (Int32.ofInt x)), (2, .int (Int32.ofInt y)), (3, .int (Int32.ofInt z)), (4, .int (Int32.ofInt w))] [.int (Int32.ofInt e34)] (Wd A dT s33) 0 0
      refine z_if_eq X (t := 51) (show cdA 287 46 = some (.ifCond .eq 5, 3, 0, 0, 0) from rfl) (by decide) ⟨by omega, by omega⟩ (fun g36 => ?_) (fun g36 => ?_)
      ·
        refine z_aload_n X (x := A 179) (show cdA 287 51 = some (.aload_n 0, 1, 0, 0, 0) from rfl) (List.Mem.head _) ?_
        refine z_getI X 179 (show cdA 287 52 = some (.getfield 458, 3, 12, 76, 0) from rfl) (by decide) rfl rfl ?_
        have b37 : (0 : Int) ≤ iI s33 107 ∧ iI s33 107 ≤ 40 := Is33.1 107
        refine z_bipush X (show cdA 287 55 = some (.bipush 40, 2, 0, 0, 40) from rfl) ?_
        refine z_icmp_ne X (t := 62) (show cdA 287 57 = some (.if_icmp .ne 5, 3, 1, 0, 0) from rfl) (by decide) ⟨by omega, by omega⟩ ⟨by omega, by omega⟩ (fun g38 => ?_) (fun g38 => ?_)
        ·
          refine z_aload_n X (x := A 179) (show cdA 287 62 = some (.aload_n 0, 1, 0, 0, 0) from rfl) (List.Mem.head _) ?_
          refine z_load_n X (x := x) (show cdA 287 63 = some (.iload_n 1, 1, 0, 0, 0) from rfl) (List.Mem.tail _ (List.Mem.head _)) ?_
          refine z_callV X 179 (rm := rmN 230) (As := [.int (Int32.ofInt x)]) (st := []) (show cdA 287 64 = some (.invokevirtual 327, 3, 230, 0, 0) from rfl) rfl (by decide) rfl (by rw [E.1, E.2.1, E.2.2.1]; exact k_setOf G Is33 (by omega)) ⟨by rw [E.2.2.2]; exact (show (rmN 230).frames + 1 ≤ (rmN 287).frames by decide), by rw [E.2.2.2]; exact (show 8 + (mNL (miB 230) + 11) + (rmN 230).locals ≤ (rmN 287).locals by decide), by rw [E.2.2.2]; exact (show 0 + (rmN 230).cells ≤ (rmN 287).cells by decide), by rw [E.2.2.2]; exact (show 0 + (rmN 230).slots ≤ (rmN 287).slots by decide)⟩ (Nat.le_of_ble_eq_true rfl) (fun vv s39 hq => ?_) (fun ee s39 hq => ?_)
          rotate_left
          · obtain ⟨Is39, Fs39, hv, hps39⟩ := hq; cases hv
          obtain ⟨Is39, Fs39, hv, hps39⟩ := hq
          cases hv
          have Gs39 := fm_ts Gs33 Fs39 (by decide) (by decide)
          have JRLx_s39 : RLx s39 := RLx_fm Fs39 (by decide) JRLx_s33
          have ws39_73 : iI s39 73 = iI s33 73 := fm_i Fs39 (by decide)
          have ws39_107 : iI s39 107 = iI s33 107 := fm_i Fs39 (by decide)
          show WS k 67 [(0, .ref (A 179)), (1, .int (Int32.ofInt x)), (2, .int (Int32.ofInt y)), (3, .int (Int32.ofInt z)), (4, .int (Int32.ofInt w))] [] (Wd A dT s39) 0 0
          refine z_aload_n X (x := A 179) (show cdA 287 67 = some (.aload_n 0, 1, 0, 0, 0) from rfl) (List.Mem.head _) ?_
          refine z_load_n X (x := y) (show cdA 287 68 = some (.iload_n 2, 1, 0, 0, 0) from rfl) (List.Mem.tail _ (List.Mem.tail _ (List.Mem.head _))) ?_
          refine z_callV X 179 (rm := rmN 222) (As := [.int (Int32.ofInt y)]) (st := []) (show cdA 287 69 = some (.invokevirtual 333, 3, 222, 0, 0) from rfl) rfl (by decide) rfl (by rw [E.1, E.2.1, E.2.2.1]; exact k_asTold G Is39 JRLx_s39 (by omega)) ⟨by rw [E.2.2.2]; exact (show (rmN 222).frames + 1 ≤ (rmN 287).frames by decide), by rw [E.2.2.2]; exact (show 8 + (mNL (miB 222) + 11) + (rmN 222).locals ≤ (rmN 287).locals by decide), by rw [E.2.2.2]; exact (show 0 + (rmN 222).cells ≤ (rmN 287).cells by decide), by rw [E.2.2.2]; exact (show 0 + (rmN 222).slots ≤ (rmN 287).slots by decide)⟩ (Nat.le_of_ble_eq_true rfl) (fun vv s41 hq => ?_) (fun ee s41 hq => ?_)
          rotate_left
          · obtain ⟨Is41, Fs41, JRLx_s41, JNQ_s41, hv, hps41⟩ := hq; cases hv
          obtain ⟨Is41, Fs41, JRLx_s41, JNQ_s41, hv, hps41⟩ := hq
          cases hv
          have Gs41 := fm_ts Gs39 Fs41 (by decide) (by decide)
          have JRLx_s41 : RLx s41 := RLx_fm Fs41 (by decide) JRLx_s39
          have ws41_73 : iI s41 73 = iI s39 73 := fm_i Fs41 (by decide)
          have ws41_107 : iI s41 107 = iI s39 107 := fm_i Fs41 (by decide)
          show WS k 72 [(0, .ref (A 179)), (1, .int (Int32.ofInt x)), (2, .int (Int32.ofInt y)), (3, .int (Int32.ofInt z)), (4, .int (Int32.ofInt w))] [] (Wd A dT s41) 0 0
          refine z_aload_n X (x := A 179) (show cdA 287 72 = some (.aload_n 0, 1, 0, 0, 0) from rfl) (List.Mem.head _) ?_
          have JNW_s41 : NW s41 := NW_of JNQ_s41 JRLx_s41
          refine z_callV X 179 (rm := rmN 227) (As := []) (st := []) (show cdA 287 73 = some (.invokevirtual 318, 3, 227, 0, 0) from rfl) rfl (by decide) rfl (by rw [E.1, E.2.1, E.2.2.1]; exact k_listen G Is41 JNW_s41 ) ⟨by rw [E.2.2.2]; exact (show (rmN 227).frames + 1 ≤ (rmN 287).frames by decide), by rw [E.2.2.2]; exact (show 8 + (mNL (miB 227) + 11) + (rmN 227).locals ≤ (rmN 287).locals by decide), by rw [E.2.2.2]; exact (show 0 + (rmN 227).cells ≤ (rmN 287).cells by decide), by rw [E.2.2.2]; exact (show 0 + (rmN 227).slots ≤ (rmN 287).slots by decide)⟩ (Nat.le_of_ble_eq_true rfl) (fun vv s43 hq => ?_) (fun ee s43 hq => ?_)
          rotate_left
          · obtain ⟨Is43, Fs43, JNW_s43, hv, hps43⟩ := hq; cases hv
          obtain ⟨Is43, Fs43, JNW_s43, hv, hps43⟩ := hq
          cases hv
          have Gs43 := fm_ts Gs41 Fs43 (by decide) (by decide)
          have JRLx_s43 : RLx s43 := RLx_fm Fs43 (by decide) JRLx_s41
          have JNQ_s43 : NQ s43 := NQ_fm Fs43 (by decide) JNQ_s41
          have JNW_s43 : NW s43 := NW_fm Fs43 (by decide) JNW_s41
          have ws43_73 : iI s43 73 = iI s41 73 := fm_i Fs43 (by decide)
          have ws43_107 : iI s43 107 = iI s41 107 := fm_i Fs43 (by decide)
          show WS k 76 [(0, .ref (A 179)), (1, .int (Int32.ofInt x)), (2, .int (Int32.ofInt y)), (3, .int (Int32.ofInt z)), (4, .int (Int32.ofInt w))] [] (Wd A dT s43) 0 0
          refine z_const X (show cdA 287 76 = some (.iconst 0, 1, 0, 0, 0) from rfl) ?_
          refine z_store X (lv' := [(5, .int (Int32.ofInt 0)), (0, .ref (A 179)), (1, .int (Int32.ofInt x)), (2, .int (Int32.ofInt y)), (3, .int (Int32.ofInt z)), (4, .int (Int32.ofInt w))]) (show cdA 287 77 = some (.istore 5, 2, 0, 0, 0) from rfl) (by decide) (fun _ h => h) ?_
          refine WS_lv (lv := [(0, .ref (A 179)), (1, .int (Int32.ofInt x)), (2, .int (Int32.ofInt y)), (3, .int (Int32.ofInt z)), (4, .int (Int32.ofInt w)), (5, .int (Int32.ofInt 0))]) (List.forall_mem_cons.mpr ⟨(List.Mem.tail _ (List.Mem.head _)), (List.forall_mem_cons.mpr ⟨(List.Mem.tail _ (List.Mem.tail _ (List.Mem.head _))), (List.forall_mem_cons.mpr ⟨(List.Mem.tail _ (List.Mem.tail _ (List.Mem.tail _ (List.Mem.head _)))), (List.forall_mem_cons.mpr ⟨(List.Mem.tail _ (List.Mem.tail _ (List.Mem.tail _ (List.Mem.tail _ (List.Mem.head _))))), (List.forall_mem_cons.mpr ⟨(List.Mem.tail _ (List.Mem.tail _ (List.Mem.tail _ (List.Mem.tail _ (List.Mem.tail _ (List.Mem.head _)))))), (List.forall_mem_cons.mpr ⟨(List.Mem.head _), (fun q h => absurd h List.not_mem_nil)⟩)⟩)⟩)⟩)⟩)⟩) ?_
          refine L79 ((4 - 0 : Int)).toNat s43 x y z w 0 Is43 Gs43 JRLx_s43 (by omega) (by omega) ?_
          intro s45 x46 Is45 Fs45 JRLx_s45 hs45
          have b47 : (0 : Int) ≤ iI s45 73 ∧ iI s45 73 ≤ 3 := Is45.1 73
          have b48 : (0 : Int) ≤ iI s45 107 ∧ iI s45 107 ≤ 40 := Is45.1 107
          refine z_aload_n X (x := A 179) (show cdA 287 110 = some (.aload_n 0, 1, 0, 0, 0) from rfl) (List.Mem.head _) ?_
          refine s_getR X 179 (show cdA 287 111 = some (.getfield 163, 3, 12, 78, 0) from rfl) (by decide) rfl rfl ?_
          refine z_aload_n X (x := A 179) (show cdA 287 114 = some (.aload_n 0, 1, 0, 0, 0) from rfl) (List.Mem.head _) ?_
          refine z_getI X 179 (show cdA 287 115 = some (.getfield 458, 3, 12, 76, 0) from rfl) (by decide) rfl rfl ?_
          have b49 : (0 : Int) ≤ iI s45 107 ∧ iI s45 107 ≤ 40 := Is45.1 107
          refine z_load_n X (x := z) (show cdA 287 118 = some (.iload_n 3, 1, 0, 0, 0) from rfl) (List.Mem.tail _ (List.Mem.tail _ (List.Mem.tail _ (List.Mem.head _)))) ?_
          refine z_ast X 514 (show cdA 287 119 = some (.iastore, 1, 0, 0, 0) from rfl) (by decide) rfl (by omega) (show (iI s45 107) < 40 by omega) (by decide) ?_
          obtain ⟨s50, hs50⟩ : ∃ x0, x0 = uC s45 457 ((iI s45 107)).toNat (Int32.ofInt z) := ⟨_, rfl⟩
          rw [← hs50]
          have Is50 : Bd s50 := by rw [hs50]; exact bd_C Is45 (show ((-2147483648) : Int) ≤ z ∧ z ≤ 2147483647 by omega) ⟨by omega, by omega⟩
          have Fs50 := fm_C (i := ((iI s45 107)).toNat) (x := Int32.ofInt z) Fs45 (show 457 ∈ _ by decide)
          rw [← hs50] at Fs50
          have ws50_73 : iI s50 73 = iI s45 73 := by rw [hs50]; rfl
          have ws50_107 : iI s50 107 = iI s45 107 := by rw [hs50]; rfl
          have fs50 : Fm [] [457] s45 s50 := by rw [hs50]; exact fm_C (fm_rf _ _ _) (show 457 ∈ _ by decide)
          have JRLx_s50 : RLx s50 := RLx_fm fs50 (by decide) JRLx_s45
          refine z_aload_n X (x := A 179) (show cdA 287 120 = some (.aload_n 0, 1, 0, 0, 0) from rfl) (List.Mem.head _) ?_
          refine s_getR X 179 (show cdA 287 121 = some (.getfield 169, 3, 12, 80, 0) from rfl) (by decide) rfl rfl ?_
          refine z_aload_n X (x := A 179) (show cdA 287 124 = some (.aload_n 0, 1, 0, 0, 0) from rfl) (List.Mem.head _) ?_
          refine z_getI X 179 (show cdA 287 125 = some (.getfield 458, 3, 12, 76, 0) from rfl) (by decide) rfl rfl ?_
          have b51 : (0 : Int) ≤ iI s50 107 ∧ iI s50 107 ≤ 40 := Is50.1 107
          refine z_load X (x := w) (show cdA 287 128 = some (.iload 4, 2, 0, 0, 0) from rfl) (List.Mem.tail _ (List.Mem.tail _ (List.Mem.tail _ (List.Mem.tail _ (List.Mem.head _))))) ?_
          refine z_zast X 516 (show cdA 287 130 = some (.bastore, 1, 0, 0, 0) from rfl) (by decide) rfl (by omega) (show (iI s50 107) < 40 by omega) (by decide) (by omega) ?_
          obtain ⟨s52, hs52⟩ : ∃ x0, x0 = uC s50 459 ((iI s50 107)).toNat (Int32.ofInt w) := ⟨_, rfl⟩
          rw [← hs52]
          have Is52 : Bd s52 := by rw [hs52]; exact bd_C Is50 (show (0 : Int) ≤ w ∧ w ≤ 1 by omega) ⟨by omega, by omega⟩
          have Fs52 := fm_C (i := ((iI s50 107)).toNat) (x := Int32.ofInt w) Fs50 (show 459 ∈ _ by decide)
          rw [← hs52] at Fs52
          have ws52_73 : iI s52 73 = iI s50 73 := by rw [hs52]; rfl
          have ws52_107 : iI s52 107 = iI s50 107 := by rw [hs52]; rfl
          have fs52 : Fm [] [459] s50 s52 := by rw [hs52]; exact fm_C (fm_rf _ _ _) (show 459 ∈ _ by decide)
          have JRLx_s52 : RLx s52 := RLx_fm fs52 (by decide) JRLx_s50
          refine z_aload_n X (x := A 179) (show cdA 287 131 = some (.aload_n 0, 1, 0, 0, 0) from rfl) (List.Mem.head _) ?_
          refine w_dup X.1 (ax_d X (show cdA 287 132 = some (.dup, 1, 0, 0, 0) from rfl)) rfl ?_
          refine z_getI X 179 (show cdA 287 133 = some (.getfield 458, 3, 12, 76, 0) from rfl) (by decide) rfl rfl ?_
          have b53 : (0 : Int) ≤ iI s52 107 ∧ iI s52 107 ≤ 40 := Is52.1 107
          refine z_const X (show cdA 287 136 = some (.iconst 1, 1, 0, 0, 0) from rfl) ?_
          refine z_add X (show cdA 287 137 = some (.iadd, 1, 0, 0, 0) from rfl) ?_
          refine s_putI X 179 (show cdA 287 138 = some (.putfield 458, 3, 12, 76, 0) from rfl) (by decide) rfl rfl (by decide) rfl rfl rfl ?_
          obtain ⟨s54, hs54⟩ : ∃ x0, x0 = uI s52 107 (Int32.ofInt ((iI s52 107) + 1)) := ⟨_, rfl⟩
          rw [← hs54]
          have Is54 : Bd s54 := by rw [hs54]; exact bd_I Is52 (show (0 : Int) ≤ ((iI s52 107) + 1) ∧ ((iI s52 107) + 1) ≤ 40 by omega) ⟨by omega, by omega⟩
          have Fs54 := fm_I (x := Int32.ofInt ((iI s52 107) + 1)) Fs52 (show 107 ∈ _ by decide)
          rw [← hs54] at Fs54
          have vs54 : iI s54 107 = ((iI s52 107) + 1) := by rw [hs54]; exact iI_u ⟨by omega, by omega⟩
          have ws54_73 : iI s54 73 = iI s52 73 := by rw [hs54]; rfl
          have fs54 : Fm [107] [] s52 s54 := by rw [hs54]; exact fm_I (fm_rf _ _ _) (show 107 ∈ _ by decide)
          have JRLx_s54 : RLx s54 := RLx_fm fs54 (by decide) JRLx_s52
          refine z_aload_n X (x := A 179) (show cdA 287 141 = some (.aload_n 0, 1, 0, 0, 0) from rfl) (List.Mem.head _) ?_
          refine z_getI X 179 (show cdA 287 142 = some (.getfield 458, 3, 12, 76, 0) from rfl) (by decide) rfl rfl ?_
          have b55 : (0 : Int) ≤ iI s54 107 ∧ iI s54 107 ≤ 40 := Is54.1 107
          refine z_const X (show cdA 287 145 = some (.iconst 1, 1, 0, 0, 0) from rfl) ?_
          refine z_sub X (show cdA 287 146 = some (.isub, 1, 0, 0, 0) from rfl) ?_
          exact w_iret X.1 q hRt rfl (ax_d X (show cdA 287 147 = some (.ireturn, 1, 0, 0, 0) from rfl)) (Nat.zero_le _) (Nat.zero_le _) ⟨_, rfl, Is54, Fs54, JRLx_s54, ((iI s54 107) - 1), rfl, ⟨by omega, by omega⟩, trivial⟩
        ·
          refine z_const X (show cdA 287 60 = some (.iconst (-1), 1, 0, 0, 0) from rfl) ?_
          exact w_iret X.1 q hRt rfl (ax_d X (show cdA 287 61 = some (.ireturn, 1, 0, 0, 0) from rfl)) (Nat.zero_le _) (Nat.zero_le _) ⟨_, rfl, Is33, Gs33, JRLx_s33, (-1), rfl, ⟨by omega, by omega⟩, trivial⟩
      ·
        refine z_const X (show cdA 287 49 = some (.iconst 0, 1, 0, 0, 0) from rfl) ?_
        exact w_iret X.1 q hRt rfl (ax_d X (show cdA 287 50 = some (.ireturn, 1, 0, 0, 0) from rfl)) (Nat.zero_le _) (Nat.zero_le _) ⟨_, rfl, Is33, Gs33, JRLx_s33, 0, rfl, ⟨by omega, by omega⟩, trivial⟩
    ·
      refine z_load_n X (x := z) (show cdA 287 26 = some (.iload_n 3, 1, 0, 0, 0) from rfl) (List.Mem.tail _ (List.Mem.tail _ (List.Mem.tail _ (List.Mem.head _)))) ?_
      refine z_const X (show cdA 287 27 = some (.iconst 0, 1, 0, 0, 0) from rfl) ?_
      refine z_sipush X (show cdA 287 28 = some (.sipush 9999, 3, 0, 0, 9999) from rfl) ?_
      refine z_callS X (rm := rmN 188) (As := [.int (Int32.ofInt z), .int (Int32.ofInt 0), .int (Int32.ofInt 9999)]) (st := [.ref (A 179)]) (show cdA 287 31 = some (.invokestatic 209, 3, 188, 1, 0) from rfl) rfl (by rw [E.1, E.2.1, E.2.2.1]; exact k_in G Is30 (by omega) (by omega) (by omega)) ⟨by rw [E.2.2.2]; exact (show (rmN 188).frames + 1 ≤ (rmN 287).frames by decide), by rw [E.2.2.2]; exact (show 8 + (mNL (miB 188) + 11) + (rmN 188).locals ≤ (rmN 287).locals by decide), by rw [E.2.2.2]; exact (show 0 + (rmN 188).cells ≤ (rmN 287).cells by decide), by rw [E.2.2.2]; exact (show 0 + (rmN 188).slots ≤ (rmN 287).slots by decide)⟩ (Nat.le_of_ble_eq_true rfl) (fun vv s56 hq => ?_) (fun ee s56 hq => ?_)
      rotate_left
      · obtain ⟨Is56, Fs56, e57, hv, hrs56, hps56⟩ := hq; cases hv
      obtain ⟨Is56, Fs56, e57, hv, hrs56, hps56⟩ := hq
      cases hv
      have Gs56 := fm_ts Gs30 Fs56 (by decide) (by decide)
      have JRLx_s56 : RLx s56 := RLx_fm Fs56 (by decide) JRLx_s30
      have ws56_73 : iI s56 73 = iI s30 73 := fm_i Fs56 (by decide)
      have ws56_107 : iI s56 107 = iI s30 107 := fm_i Fs56 (by decide)
      show WS k 34 [(0, .ref (A 179)), (1, .int (Int32.ofInt x)), (2, .int (Int32.ofInt y)), (3, .int (Int32.ofInt z)), (4, .int (Int32.ofInt w))] [.int (Int32.ofInt e57), .ref (A 179)] (Wd A dT s56) 0 0
      refine z_if_ne X (t := 41) (show cdA 287 34 = some (.ifCond .ne 7, 3, 1, 0, 0) from rfl) (by decide) ⟨by omega, by omega⟩ (fun g58 => ?_) (fun g58 => ?_)
      ·
        refine z_const X (show cdA 287 41 = some (.iconst 0, 1, 0, 0, 0) from rfl) ?_
        refine z_const X (show cdA 287 42 = some (.iconst 1, 1, 0, 0, 0) from rfl) ?_
        refine z_callV X 179 (rm := rmN 187) (As := [.int (Int32.ofInt 0), .int (Int32.ofInt 1)]) (st := []) (show cdA 287 43 = some (.invokevirtual 229, 3, 187, 0, 0) from rfl) rfl (by decide) rfl (by rw [E.1, E.2.1, E.2.2.1]; exact k_bad G Is56 (by omega) (by omega)) ⟨by rw [E.2.2.2]; exact (show (rmN 187).frames + 1 ≤ (rmN 287).frames by decide), by rw [E.2.2.2]; exact (show 8 + (mNL (miB 187) + 11) + (rmN 187).locals ≤ (rmN 287).locals by decide), by rw [E.2.2.2]; exact (show 0 + (rmN 187).cells ≤ (rmN 287).cells by decide), by rw [E.2.2.2]; exact (show 0 + (rmN 187).slots ≤ (rmN 287).slots by decide)⟩ (Nat.le_of_ble_eq_true rfl) (fun vv s59 hq => ?_) (fun ee s59 hq => ?_)
        rotate_left
        · obtain ⟨Is59, Fs59, e60, hv, hrs59, hps59⟩ := hq; cases hv
        obtain ⟨Is59, Fs59, e60, hv, hrs59, hps59⟩ := hq
        cases hv
        have Gs59 := fm_ts Gs56 Fs59 (by decide) (by decide)
        have JRLx_s59 : RLx s59 := RLx_fm Fs59 (by decide) JRLx_s56
        have b61 : (0 : Int) ≤ iI s59 73 ∧ iI s59 73 ≤ 3 := Is59.1 73
        have ws59_107 : iI s59 107 = iI s56 107 := fm_i Fs59 (by decide)
        show WS k 46 [(0, .ref (A 179)), (1, .int (Int32.ofInt x)), (2, .int (Int32.ofInt y)), (3, .int (Int32.ofInt z)), (4, .int (Int32.ofInt w))] [.int (Int32.ofInt e60)] (Wd A dT s59) 0 0
        refine z_if_eq X (t := 51) (show cdA 287 46 = some (.ifCond .eq 5, 3, 0, 0, 0) from rfl) (by decide) ⟨by omega, by omega⟩ (fun g62 => ?_) (fun g62 => ?_)
        ·
          refine z_aload_n X (x := A 179) (show cdA 287 51 = some (.aload_n 0, 1, 0, 0, 0) from rfl) (List.Mem.head _) ?_
          refine z_getI X 179 (show cdA 287 52 = some (.getfield 458, 3, 12, 76, 0) from rfl) (by decide) rfl rfl ?_
          have b63 : (0 : Int) ≤ iI s59 107 ∧ iI s59 107 ≤ 40 := Is59.1 107
          refine z_bipush X (show cdA 287 55 = some (.bipush 40, 2, 0, 0, 40) from rfl) ?_
          refine z_icmp_ne X (t := 62) (show cdA 287 57 = some (.if_icmp .ne 5, 3, 1, 0, 0) from rfl) (by decide) ⟨by omega, by omega⟩ ⟨by omega, by omega⟩ (fun g64 => ?_) (fun g64 => ?_)
          ·
            refine z_aload_n X (x := A 179) (show cdA 287 62 = some (.aload_n 0, 1, 0, 0, 0) from rfl) (List.Mem.head _) ?_
            refine z_load_n X (x := x) (show cdA 287 63 = some (.iload_n 1, 1, 0, 0, 0) from rfl) (List.Mem.tail _ (List.Mem.head _)) ?_
            refine z_callV X 179 (rm := rmN 230) (As := [.int (Int32.ofInt x)]) (st := []) (show cdA 287 64 = some (.invokevirtual 327, 3, 230, 0, 0) from rfl) rfl (by decide) rfl (by rw [E.1, E.2.1, E.2.2.1]; exact k_setOf G Is59 (by omega)) ⟨by rw [E.2.2.2]; exact (show (rmN 230).frames + 1 ≤ (rmN 287).frames by decide), by rw [E.2.2.2]; exact (show 8 + (mNL (miB 230) + 11) + (rmN 230).locals ≤ (rmN 287).locals by decide), by rw [E.2.2.2]; exact (show 0 + (rmN 230).cells ≤ (rmN 287).cells by decide), by rw [E.2.2.2]; exact (show 0 + (rmN 230).slots ≤ (rmN 287).slots by decide)⟩ (Nat.le_of_ble_eq_true rfl) (fun vv s65 hq => ?_) (fun ee s65 hq => ?_)
            rotate_left
            · obtain ⟨Is65, Fs65, hv, hps65⟩ := hq; cases hv
            obtain ⟨Is65, Fs65, hv, hps65⟩ := hq
            cases hv
            have Gs65 := fm_ts Gs59 Fs65 (by decide) (by decide)
            have JRLx_s65 : RLx s65 := RLx_fm Fs65 (by decide) JRLx_s59
            have ws65_73 : iI s65 73 = iI s59 73 := fm_i Fs65 (by decide)
            have ws65_107 : iI s65 107 = iI s59 107 := fm_i Fs65 (by decide)
            show WS k 67 [(0, .ref (A 179)), (1, .int (Int32.ofInt x)), (2, .int (Int32.ofInt y)), (3, .int (Int32.ofInt z)), (4, .int (Int32.ofInt w))] [] (Wd A dT s65) 0 0
            refine z_aload_n X (x := A 179) (show cdA 287 67 = some (.aload_n 0, 1, 0, 0, 0) from rfl) (List.Mem.head _) ?_
            refine z_load_n X (x := y) (show cdA 287 68 = some (.iload_n 2, 1, 0, 0, 0) from rfl) (List.Mem.tail _ (List.Mem.tail _ (List.Mem.head _))) ?_
            refine z_callV X 179 (rm := rmN 222) (As := [.int (Int32.ofInt y)]) (st := []) (show cdA 287 69 = some (.invokevirtual 333, 3, 222, 0, 0) from rfl) rfl (by decide) rfl (by rw [E.1, E.2.1, E.2.2.1]; exact k_asTold G Is65 JRLx_s65 (by omega)) ⟨by rw [E.2.2.2]; exact (show (rmN 222).frames + 1 ≤ (rmN 287).frames by decide), by rw [E.2.2.2]; exact (show 8 + (mNL (miB 222) + 11) + (rmN 222).locals ≤ (rmN 287).locals by decide), by rw [E.2.2.2]; exact (show 0 + (rmN 222).cells ≤ (rmN 287).cells by decide), by rw [E.2.2.2]; exact (show 0 + (rmN 222).slots ≤ (rmN 287).slots by decide)⟩ (Nat.le_of_ble_eq_true rfl) (fun vv s67 hq => ?_) (fun ee s67 hq => ?_)
            rotate_left
            · obtain ⟨Is67, Fs67, JRLx_s67, JNQ_s67, hv, hps67⟩ := hq; cases hv
            obtain ⟨Is67, Fs67, JRLx_s67, JNQ_s67, hv, hps67⟩ := hq
            cases hv
            have Gs67 := fm_ts Gs65 Fs67 (by decide) (by decide)
            have JRLx_s67 : RLx s67 := RLx_fm Fs67 (by decide) JRLx_s65
            have ws67_73 : iI s67 73 = iI s65 73 := fm_i Fs67 (by decide)
            have ws67_107 : iI s67 107 = iI s65 107 := fm_i Fs67 (by decide)
            show WS k 72 [(0, .ref (A 179)), (1, .int (Int32.ofInt x)), (2, .int (Int32.ofInt y)), (3, .int (Int32.ofInt z)), (4, .int (Int32.ofInt w))] [] (Wd A dT s67) 0 0
            refine z_aload_n X (x := A 179) (show cdA 287 72 = some (.aload_n 0, 1, 0, 0, 0) from rfl) (List.Mem.head _) ?_
            have JNW_s67 : NW s67 := NW_of JNQ_s67 JRLx_s67
            refine z_callV X 179 (rm := rmN 227) (As := []) (st := []) (show cdA 287 73 = some (.invokevirtual 318, 3, 227, 0, 0) from rfl) rfl (by decide) rfl (by rw [E.1, E.2.1, E.2.2.1]; exact k_listen G Is67 JNW_s67 ) ⟨by rw [E.2.2.2]; exact (show (rmN 227).frames + 1 ≤ (rmN 287).frames by decide), by rw [E.2.2.2]; exact (show 8 + (mNL (miB 227) + 11) + (rmN 227).locals ≤ (rmN 287).locals by decide), by rw [E.2.2.2]; exact (show 0 + (rmN 227).cells ≤ (rmN 287).cells by decide), by rw [E.2.2.2]; exact (show 0 + (rmN 227).slots ≤ (rmN 287).slots by decide)⟩ (Nat.le_of_ble_eq_true rfl) (fun vv s69 hq => ?_) (fun ee s69 hq => ?_)
            rotate_left
            · obtain ⟨Is69, Fs69, JNW_s69, hv, hps69⟩ := hq; cases hv
            obtain ⟨Is69, Fs69, JNW_s69, hv, hps69⟩ := hq
            cases hv
            have Gs69 := fm_ts Gs67 Fs69 (by decide) (by decide)
            have JRLx_s69 : RLx s69 := RLx_fm Fs69 (by decide) JRLx_s67
            have JNQ_s69 : NQ s69 := NQ_fm Fs69 (by decide) JNQ_s67
            have JNW_s69 : NW s69 := NW_fm Fs69 (by decide) JNW_s67
            have ws69_73 : iI s69 73 = iI s67 73 := fm_i Fs69 (by decide)
            have ws69_107 : iI s69 107 = iI s67 107 := fm_i Fs69 (by decide)
            show WS k 76 [(0, .ref (A 179)), (1, .int (Int32.ofInt x)), (2, .int (Int32.ofInt y)), (3, .int (Int32.ofInt z)), (4, .int (Int32.ofInt w))] [] (Wd A dT s69) 0 0
            refine z_const X (show cdA 287 76 = some (.iconst 0, 1, 0, 0, 0) from rfl) ?_
            refine z_store X (lv' := [(5, .int (Int32.ofInt 0)), (0, .ref (A 179)), (1, .int (Int32.ofInt x)), (2, .int (Int32.ofInt y)), (3, .int (Int32.ofInt z)), (4, .int (Int32.ofInt w))]) (show cdA 287 77 = some (.istore 5, 2, 0, 0, 0) from rfl) (by decide) (fun _ h => h) ?_
            refine WS_lv (lv := [(0, .ref (A 179)), (1, .int (Int32.ofInt x)), (2, .int (Int32.ofInt y)), (3, .int (Int32.ofInt z)), (4, .int (Int32.ofInt w)), (5, .int (Int32.ofInt 0))]) (List.forall_mem_cons.mpr ⟨(List.Mem.tail _ (List.Mem.head _)), (List.forall_mem_cons.mpr ⟨(List.Mem.tail _ (List.Mem.tail _ (List.Mem.head _))), (List.forall_mem_cons.mpr ⟨(List.Mem.tail _ (List.Mem.tail _ (List.Mem.tail _ (List.Mem.head _)))), (List.forall_mem_cons.mpr ⟨(List.Mem.tail _ (List.Mem.tail _ (List.Mem.tail _ (List.Mem.tail _ (List.Mem.head _))))), (List.forall_mem_cons.mpr ⟨(List.Mem.tail _ (List.Mem.tail _ (List.Mem.tail _ (List.Mem.tail _ (List.Mem.tail _ (List.Mem.head _)))))), (List.forall_mem_cons.mpr ⟨(List.Mem.head _), (fun q h => absurd h List.not_mem_nil)⟩)⟩)⟩)⟩)⟩)⟩) ?_
            refine L79 ((4 - 0 : Int)).toNat s69 x y z w 0 Is69 Gs69 JRLx_s69 (by omega) (by omega) ?_
            intro s71 x72 Is71 Fs71 JRLx_s71 hs71
            have b73 : (0 : Int) ≤ iI s71 73 ∧ iI s71 73 ≤ 3 := Is71.1 73
            have b74 : (0 : Int) ≤ iI s71 107 ∧ iI s71 107 ≤ 40 := Is71.1 107
            refine z_aload_n X (x := A 179) (show cdA 287 110 = some (.aload_n 0, 1, 0, 0, 0) from rfl) (List.Mem.head _) ?_
            refine s_getR X 179 (show cdA 287 111 = some (.getfield 163, 3, 12, 78, 0) from rfl) (by decide) rfl rfl ?_
            refine z_aload_n X (x := A 179) (show cdA 287 114 = some (.aload_n 0, 1, 0, 0, 0) from rfl) (List.Mem.head _) ?_
            refine z_getI X 179 (show cdA 287 115 = some (.getfield 458, 3, 12, 76, 0) from rfl) (by decide) rfl rfl ?_
            have b75 : (0 : Int) ≤ iI s71 107 ∧ iI s71 107 ≤ 40 := Is71.1 107
            refine z_load_n X (x := z) (show cdA 287 118 = some (.iload_n 3, 1, 0, 0, 0) from rfl) (List.Mem.tail _ (List.Mem.tail _ (List.Mem.tail _ (List.Mem.head _)))) ?_
            refine z_ast X 514 (show cdA 287 119 = some (.iastore, 1, 0, 0, 0) from rfl) (by decide) rfl (by omega) (show (iI s71 107) < 40 by omega) (by decide) ?_
            obtain ⟨s76, hs76⟩ : ∃ x0, x0 = uC s71 457 ((iI s71 107)).toNat (Int32.ofInt z) := ⟨_, rfl⟩
            rw [← hs76]
            have Is76 : Bd s76 := by rw [hs76]; exact bd_C Is71 (show ((-2147483648) : Int) ≤ z ∧ z ≤ 2147483647 by omega) ⟨by omega, by omega⟩
            have Fs76 := fm_C (i := ((iI s71 107)).toNat) (x := Int32.ofInt z) Fs71 (show 457 ∈ _ by decide)
            rw [← hs76] at Fs76
            have ws76_73 : iI s76 73 = iI s71 73 := by rw [hs76]; rfl
            have ws76_107 : iI s76 107 = iI s71 107 := by rw [hs76]; rfl
            have fs76 : Fm [] [457] s71 s76 := by rw [hs76]; exact fm_C (fm_rf _ _ _) (show 457 ∈ _ by decide)
            have JRLx_s76 : RLx s76 := RLx_fm fs76 (by decide) JRLx_s71
            refine z_aload_n X (x := A 179) (show cdA 287 120 = some (.aload_n 0, 1, 0, 0, 0) from rfl) (List.Mem.head _) ?_
            refine s_getR X 179 (show cdA 287 121 = some (.getfield 169, 3, 12, 80, 0) from rfl) (by decide) rfl rfl ?_
            refine z_aload_n X (x := A 179) (show cdA 287 124 = some (.aload_n 0, 1, 0, 0, 0) from rfl) (List.Mem.head _) ?_
            refine z_getI X 179 (show cdA 287 125 = some (.getfield 458, 3, 12, 76, 0) from rfl) (by decide) rfl rfl ?_
            have b77 : (0 : Int) ≤ iI s76 107 ∧ iI s76 107 ≤ 40 := Is76.1 107
            refine z_load X (x := w) (show cdA 287 128 = some (.iload 4, 2, 0, 0, 0) from rfl) (List.Mem.tail _ (List.Mem.tail _ (List.Mem.tail _ (List.Mem.tail _ (List.Mem.head _))))) ?_
            refine z_zast X 516 (show cdA 287 130 = some (.bastore, 1, 0, 0, 0) from rfl) (by decide) rfl (by omega) (show (iI s76 107) < 40 by omega) (by decide) (by omega) ?_
            obtain ⟨s78, hs78⟩ : ∃ x0, x0 = uC s76 459 ((iI s76 107)).toNat (Int32.ofInt w) := ⟨_, rfl⟩
            rw [← hs78]
            have Is78 : Bd s78 := by rw [hs78]; exact bd_C Is76 (show (0 : Int) ≤ w ∧ w ≤ 1 by omega) ⟨by omega, by omega⟩
            have Fs78 := fm_C (i := ((iI s76 107)).toNat) (x := Int32.ofInt w) Fs76 (show 459 ∈ _ by decide)
            rw [← hs78] at Fs78
            have ws78_73 : iI s78 73 = iI s76 73 := by rw [hs78]; rfl
            have ws78_107 : iI s78 107 = iI s76 107 := by rw [hs78]; rfl
            have fs78 : Fm [] [459] s76 s78 := by rw [hs78]; exact fm_C (fm_rf _ _ _) (show 459 ∈ _ by decide)
            have JRLx_s78 : RLx s78 := RLx_fm fs78 (by decide) JRLx_s76
            refine z_aload_n X (x := A 179) (show cdA 287 131 = some (.aload_n 0, 1, 0, 0, 0) from rfl) (List.Mem.head _) ?_
            refine w_dup X.1 (ax_d X (show cdA 287 132 = some (.dup, 1, 0, 0, 0) from rfl)) rfl ?_
            refine z_getI X 179 (show cdA 287 133 = some (.getfield 458, 3, 12, 76, 0) from rfl) (by decide) rfl rfl ?_
            have b79 : (0 : Int) ≤ iI s78 107 ∧ iI s78 107 ≤ 40 := Is78.1 107
            refine z_const X (show cdA 287 136 = some (.iconst 1, 1, 0, 0, 0) from rfl) ?_
            refine z_add X (show cdA 287 137 = some (.iadd, 1, 0, 0, 0) from rfl) ?_
            refine s_putI X 179 (show cdA 287 138 = some (.putfield 458, 3, 12, 76, 0) from rfl) (by decide) rfl rfl (by decide) rfl rfl rfl ?_
            obtain ⟨s80, hs80⟩ : ∃ x0, x0 = uI s78 107 (Int32.ofInt ((iI s78 107) + 1)) := ⟨_, rfl⟩
            rw [← hs80]
            have Is80 : Bd s80 := by rw [hs80]; exact bd_I Is78 (show (0 : Int) ≤ ((iI s78 107) + 1) ∧ ((iI s78 107) + 1) ≤ 40 by omega) ⟨by omega, by omega⟩
            have Fs80 := fm_I (x := Int32.ofInt ((iI s78 107) + 1)) Fs78 (show 107 ∈ _ by decide)
            rw [← hs80] at Fs80
            have vs80 : iI s80 107 = ((iI s78 107) + 1) := by rw [hs80]; exact iI_u ⟨by omega, by omega⟩
            have ws80_73 : iI s80 73 = iI s78 73 := by rw [hs80]; rfl
            have fs80 : Fm [107] [] s78 s80 := by rw [hs80]; exact fm_I (fm_rf _ _ _) (show 107 ∈ _ by decide)
            have JRLx_s80 : RLx s80 := RLx_fm fs80 (by decide) JRLx_s78
            refine z_aload_n X (x := A 179) (show cdA 287 141 = some (.aload_n 0, 1, 0, 0, 0) from rfl) (List.Mem.head _) ?_
            refine z_getI X 179 (show cdA 287 142 = some (.getfield 458, 3, 12, 76, 0) from rfl) (by decide) rfl rfl ?_
            have b81 : (0 : Int) ≤ iI s80 107 ∧ iI s80 107 ≤ 40 := Is80.1 107
            refine z_const X (show cdA 287 145 = some (.iconst 1, 1, 0, 0, 0) from rfl) ?_
            refine z_sub X (show cdA 287 146 = some (.isub, 1, 0, 0, 0) from rfl) ?_
            exact w_iret X.1 q hRt rfl (ax_d X (show cdA 287 147 = some (.ireturn, 1, 0, 0, 0) from rfl)) (Nat.zero_le _) (Nat.zero_le _) ⟨_, rfl, Is80, Fs80, JRLx_s80, ((iI s80 107) - 1), rfl, ⟨by omega, by omega⟩, trivial⟩
          ·
            refine z_const X (show cdA 287 60 = some (.iconst (-1), 1, 0, 0, 0) from rfl) ?_
            exact w_iret X.1 q hRt rfl (ax_d X (show cdA 287 61 = some (.ireturn, 1, 0, 0, 0) from rfl)) (Nat.zero_le _) (Nat.zero_le _) ⟨_, rfl, Is59, Gs59, JRLx_s59, (-1), rfl, ⟨by omega, by omega⟩, trivial⟩
        ·
          refine z_const X (show cdA 287 49 = some (.iconst 0, 1, 0, 0, 0) from rfl) ?_
          exact w_iret X.1 q hRt rfl (ax_d X (show cdA 287 50 = some (.ireturn, 1, 0, 0, 0) from rfl)) (Nat.zero_le _) (Nat.zero_le _) ⟨_, rfl, Is59, Gs59, JRLx_s59, 0, rfl, ⟨by omega, by omega⟩, trivial⟩
      ·
        refine z_const X (show cdA 287 37 = some (.iconst 1, 1, 0, 0, 0) from rfl) ?_
        refine z_goto X (t := 42) (show cdA 287 38 = some (.goto 4, 3, 0, 0, 0) from rfl) (by decide) ?_
        refine z_const X (show cdA 287 42 = some (.iconst 1, 1, 0, 0, 0) from rfl) ?_
        refine z_callV X 179 (rm := rmN 187) (As := [.int (Int32.ofInt 1), .int (Int32.ofInt 1)]) (st := []) (show cdA 287 43 = some (.invokevirtual 229, 3, 187, 0, 0) from rfl) rfl (by decide) rfl (by rw [E.1, E.2.1, E.2.2.1]; exact k_bad G Is56 (by omega) (by omega)) ⟨by rw [E.2.2.2]; exact (show (rmN 187).frames + 1 ≤ (rmN 287).frames by decide), by rw [E.2.2.2]; exact (show 8 + (mNL (miB 187) + 11) + (rmN 187).locals ≤ (rmN 287).locals by decide), by rw [E.2.2.2]; exact (show 0 + (rmN 187).cells ≤ (rmN 287).cells by decide), by rw [E.2.2.2]; exact (show 0 + (rmN 187).slots ≤ (rmN 287).slots by decide)⟩ (Nat.le_of_ble_eq_true rfl) (fun vv s82 hq => ?_) (fun ee s82 hq => ?_)
        rotate_left
        · obtain ⟨Is82, Fs82, e83, hv, hrs82, hps82⟩ := hq; cases hv
        obtain ⟨Is82, Fs82, e83, hv, hrs82, hps82⟩ := hq
        cases hv
        have Gs82 := fm_ts Gs56 Fs82 (by decide) (by decide)
        have JRLx_s82 : RLx s82 := RLx_fm Fs82 (by decide) JRLx_s56
        have b84 : (0 : Int) ≤ iI s82 73 ∧ iI s82 73 ≤ 3 := Is82.1 73
        have ws82_107 : iI s82 107 = iI s56 107 := fm_i Fs82 (by decide)
        show WS k 46 [(0, .ref (A 179)), (1, .int (Int32.ofInt x)), (2, .int (Int32.ofInt y)), (3, .int (Int32.ofInt z)), (4, .int (Int32.ofInt w))] [.int (Int32.ofInt e83)] (Wd A dT s82) 0 0
        refine z_if_eq X (t := 51) (show cdA 287 46 = some (.ifCond .eq 5, 3, 0, 0, 0) from rfl) (by decide) ⟨by omega, by omega⟩ (fun g85 => ?_) (fun g85 => ?_)
        ·
          refine z_aload_n X (x := A 179) (show cdA 287 51 = some (.aload_n 0, 1, 0, 0, 0) from rfl) (List.Mem.head _) ?_
          refine z_getI X 179 (show cdA 287 52 = some (.getfield 458, 3, 12, 76, 0) from rfl) (by decide) rfl rfl ?_
          have b86 : (0 : Int) ≤ iI s82 107 ∧ iI s82 107 ≤ 40 := Is82.1 107
          refine z_bipush X (show cdA 287 55 = some (.bipush 40, 2, 0, 0, 40) from rfl) ?_
          refine z_icmp_ne X (t := 62) (show cdA 287 57 = some (.if_icmp .ne 5, 3, 1, 0, 0) from rfl) (by decide) ⟨by omega, by omega⟩ ⟨by omega, by omega⟩ (fun g87 => ?_) (fun g87 => ?_)
          ·
            refine z_aload_n X (x := A 179) (show cdA 287 62 = some (.aload_n 0, 1, 0, 0, 0) from rfl) (List.Mem.head _) ?_
            refine z_load_n X (x := x) (show cdA 287 63 = some (.iload_n 1, 1, 0, 0, 0) from rfl) (List.Mem.tail _ (List.Mem.head _)) ?_
            refine z_callV X 179 (rm := rmN 230) (As := [.int (Int32.ofInt x)]) (st := []) (show cdA 287 64 = some (.invokevirtual 327, 3, 230, 0, 0) from rfl) rfl (by decide) rfl (by rw [E.1, E.2.1, E.2.2.1]; exact k_setOf G Is82 (by omega)) ⟨by rw [E.2.2.2]; exact (show (rmN 230).frames + 1 ≤ (rmN 287).frames by decide), by rw [E.2.2.2]; exact (show 8 + (mNL (miB 230) + 11) + (rmN 230).locals ≤ (rmN 287).locals by decide), by rw [E.2.2.2]; exact (show 0 + (rmN 230).cells ≤ (rmN 287).cells by decide), by rw [E.2.2.2]; exact (show 0 + (rmN 230).slots ≤ (rmN 287).slots by decide)⟩ (Nat.le_of_ble_eq_true rfl) (fun vv s88 hq => ?_) (fun ee s88 hq => ?_)
            rotate_left
            · obtain ⟨Is88, Fs88, hv, hps88⟩ := hq; cases hv
            obtain ⟨Is88, Fs88, hv, hps88⟩ := hq
            cases hv
            have Gs88 := fm_ts Gs82 Fs88 (by decide) (by decide)
            have JRLx_s88 : RLx s88 := RLx_fm Fs88 (by decide) JRLx_s82
            have ws88_73 : iI s88 73 = iI s82 73 := fm_i Fs88 (by decide)
            have ws88_107 : iI s88 107 = iI s82 107 := fm_i Fs88 (by decide)
            show WS k 67 [(0, .ref (A 179)), (1, .int (Int32.ofInt x)), (2, .int (Int32.ofInt y)), (3, .int (Int32.ofInt z)), (4, .int (Int32.ofInt w))] [] (Wd A dT s88) 0 0
            refine z_aload_n X (x := A 179) (show cdA 287 67 = some (.aload_n 0, 1, 0, 0, 0) from rfl) (List.Mem.head _) ?_
            refine z_load_n X (x := y) (show cdA 287 68 = some (.iload_n 2, 1, 0, 0, 0) from rfl) (List.Mem.tail _ (List.Mem.tail _ (List.Mem.head _))) ?_
            refine z_callV X 179 (rm := rmN 222) (As := [.int (Int32.ofInt y)]) (st := []) (show cdA 287 69 = some (.invokevirtual 333, 3, 222, 0, 0) from rfl) rfl (by decide) rfl (by rw [E.1, E.2.1, E.2.2.1]; exact k_asTold G Is88 JRLx_s88 (by omega)) ⟨by rw [E.2.2.2]; exact (show (rmN 222).frames + 1 ≤ (rmN 287).frames by decide), by rw [E.2.2.2]; exact (show 8 + (mNL (miB 222) + 11) + (rmN 222).locals ≤ (rmN 287).locals by decide), by rw [E.2.2.2]; exact (show 0 + (rmN 222).cells ≤ (rmN 287).cells by decide), by rw [E.2.2.2]; exact (show 0 + (rmN 222).slots ≤ (rmN 287).slots by decide)⟩ (Nat.le_of_ble_eq_true rfl) (fun vv s90 hq => ?_) (fun ee s90 hq => ?_)
            rotate_left
            · obtain ⟨Is90, Fs90, JRLx_s90, JNQ_s90, hv, hps90⟩ := hq; cases hv
            obtain ⟨Is90, Fs90, JRLx_s90, JNQ_s90, hv, hps90⟩ := hq
            cases hv
            have Gs90 := fm_ts Gs88 Fs90 (by decide) (by decide)
            have JRLx_s90 : RLx s90 := RLx_fm Fs90 (by decide) JRLx_s88
            have ws90_73 : iI s90 73 = iI s88 73 := fm_i Fs90 (by decide)
            have ws90_107 : iI s90 107 = iI s88 107 := fm_i Fs90 (by decide)
            show WS k 72 [(0, .ref (A 179)), (1, .int (Int32.ofInt x)), (2, .int (Int32.ofInt y)), (3, .int (Int32.ofInt z)), (4, .int (Int32.ofInt w))] [] (Wd A dT s90) 0 0
            refine z_aload_n X (x := A 179) (show cdA 287 72 = some (.aload_n 0, 1, 0, 0, 0) from rfl) (List.Mem.head _) ?_
            have JNW_s90 : NW s90 := NW_of JNQ_s90 JRLx_s90
            refine z_callV X 179 (rm := rmN 227) (As := []) (st := []) (show cdA 287 73 = some (.invokevirtual 318, 3, 227, 0, 0) from rfl) rfl (by decide) rfl (by rw [E.1, E.2.1, E.2.2.1]; exact k_listen G Is90 JNW_s90 ) ⟨by rw [E.2.2.2]; exact (show (rmN 227).frames + 1 ≤ (rmN 287).frames by decide), by rw [E.2.2.2]; exact (show 8 + (mNL (miB 227) + 11) + (rmN 227).locals ≤ (rmN 287).locals by decide), by rw [E.2.2.2]; exact (show 0 + (rmN 227).cells ≤ (rmN 287).cells by decide), by rw [E.2.2.2]; exact (show 0 + (rmN 227).slots ≤ (rmN 287).slots by decide)⟩ (Nat.le_of_ble_eq_true rfl) (fun vv s92 hq => ?_) (fun ee s92 hq => ?_)
            rotate_left
            · obtain ⟨Is92, Fs92, JNW_s92, hv, hps92⟩ := hq; cases hv
            obtain ⟨Is92, Fs92, JNW_s92, hv, hps92⟩ := hq
            cases hv
            have Gs92 := fm_ts Gs90 Fs92 (by decide) (by decide)
            have JRLx_s92 : RLx s92 := RLx_fm Fs92 (by decide) JRLx_s90
            have JNQ_s92 : NQ s92 := NQ_fm Fs92 (by decide) JNQ_s90
            have JNW_s92 : NW s92 := NW_fm Fs92 (by decide) JNW_s90
            have ws92_73 : iI s92 73 = iI s90 73 := fm_i Fs92 (by decide)
            have ws92_107 : iI s92 107 = iI s90 107 := fm_i Fs92 (by decide)
            show WS k 76 [(0, .ref (A 179)), (1, .int (Int32.ofInt x)), (2, .int (Int32.ofInt y)), (3, .int (Int32.ofInt z)), (4, .int (Int32.ofInt w))] [] (Wd A dT s92) 0 0
            refine z_const X (show cdA 287 76 = some (.iconst 0, 1, 0, 0, 0) from rfl) ?_
            refine z_store X (lv' := [(5, .int (Int32.ofInt 0)), (0, .ref (A 179)), (1, .int (Int32.ofInt x)), (2, .int (Int32.ofInt y)), (3, .int (Int32.ofInt z)), (4, .int (Int32.ofInt w))]) (show cdA 287 77 = some (.istore 5, 2, 0, 0, 0) from rfl) (by decide) (fun _ h => h) ?_
            refine WS_lv (lv := [(0, .ref (A 179)), (1, .int (Int32.ofInt x)), (2, .int (Int32.ofInt y)), (3, .int (Int32.ofInt z)), (4, .int (Int32.ofInt w)), (5, .int (Int32.ofInt 0))]) (List.forall_mem_cons.mpr ⟨(List.Mem.tail _ (List.Mem.head _)), (List.forall_mem_cons.mpr ⟨(List.Mem.tail _ (List.Mem.tail _ (List.Mem.head _))), (List.forall_mem_cons.mpr ⟨(List.Mem.tail _ (List.Mem.tail _ (List.Mem.tail _ (List.Mem.head _)))), (List.forall_mem_cons.mpr ⟨(List.Mem.tail _ (List.Mem.tail _ (List.Mem.tail _ (List.Mem.tail _ (List.Mem.head _))))), (List.forall_mem_cons.mpr ⟨(List.Mem.tail _ (List.Mem.tail _ (List.Mem.tail _ (List.Mem.tail _ (List.Mem.tail _ (List.Mem.head _)))))), (List.forall_mem_cons.mpr ⟨(List.Mem.head _), (fun q h => absurd h List.not_mem_nil)⟩)⟩)⟩)⟩)⟩)⟩) ?_
            refine L79 ((4 - 0 : Int)).toNat s92 x y z w 0 Is92 Gs92 JRLx_s92 (by omega) (by omega) ?_
            intro s94 x95 Is94 Fs94 JRLx_s94 hs94
            have b96 : (0 : Int) ≤ iI s94 73 ∧ iI s94 73 ≤ 3 := Is94.1 73
            have b97 : (0 : Int) ≤ iI s94 107 ∧ iI s94 107 ≤ 40 := Is94.1 107
            refine z_aload_n X (x := A 179) (show cdA 287 110 = some (.aload_n 0, 1, 0, 0, 0) from rfl) (List.Mem.head _) ?_
            refine s_getR X 179 (show cdA 287 111 = some (.getfield 163, 3, 12, 78, 0) from rfl) (by decide) rfl rfl ?_
            refine z_aload_n X (x := A 179) (show cdA 287 114 = some (.aload_n 0, 1, 0, 0, 0) from rfl) (List.Mem.head _) ?_
            refine z_getI X 179 (show cdA 287 115 = some (.getfield 458, 3, 12, 76, 0) from rfl) (by decide) rfl rfl ?_
            have b98 : (0 : Int) ≤ iI s94 107 ∧ iI s94 107 ≤ 40 := Is94.1 107
            refine z_load_n X (x := z) (show cdA 287 118 = some (.iload_n 3, 1, 0, 0, 0) from rfl) (List.Mem.tail _ (List.Mem.tail _ (List.Mem.tail _ (List.Mem.head _)))) ?_
            refine z_ast X 514 (show cdA 287 119 = some (.iastore, 1, 0, 0, 0) from rfl) (by decide) rfl (by omega) (show (iI s94 107) < 40 by omega) (by decide) ?_
            obtain ⟨s99, hs99⟩ : ∃ x0, x0 = uC s94 457 ((iI s94 107)).toNat (Int32.ofInt z) := ⟨_, rfl⟩
            rw [← hs99]
            have Is99 : Bd s99 := by rw [hs99]; exact bd_C Is94 (show ((-2147483648) : Int) ≤ z ∧ z ≤ 2147483647 by omega) ⟨by omega, by omega⟩
            have Fs99 := fm_C (i := ((iI s94 107)).toNat) (x := Int32.ofInt z) Fs94 (show 457 ∈ _ by decide)
            rw [← hs99] at Fs99
            have ws99_73 : iI s99 73 = iI s94 73 := by rw [hs99]; rfl
            have ws99_107 : iI s99 107 = iI s94 107 := by rw [hs99]; rfl
            have fs99 : Fm [] [457] s94 s99 := by rw [hs99]; exact fm_C (fm_rf _ _ _) (show 457 ∈ _ by decide)
            have JRLx_s99 : RLx s99 := RLx_fm fs99 (by decide) JRLx_s94
            refine z_aload_n X (x := A 179) (show cdA 287 120 = some (.aload_n 0, 1, 0, 0, 0) from rfl) (List.Mem.head _) ?_
            refine s_getR X 179 (show cdA 287 121 = some (.getfield 169, 3, 12, 80, 0) from rfl) (by decide) rfl rfl ?_
            refine z_aload_n X (x := A 179) (show cdA 287 124 = some (.aload_n 0, 1, 0, 0, 0) from rfl) (List.Mem.head _) ?_
            refine z_getI X 179 (show cdA 287 125 = some (.getfield 458, 3, 12, 76, 0) from rfl) (by decide) rfl rfl ?_
            have b100 : (0 : Int) ≤ iI s99 107 ∧ iI s99 107 ≤ 40 := Is99.1 107
            refine z_load X (x := w) (show cdA 287 128 = some (.iload 4, 2, 0, 0, 0) from rfl) (List.Mem.tail _ (List.Mem.tail _ (List.Mem.tail _ (List.Mem.tail _ (List.Mem.head _))))) ?_
            refine z_zast X 516 (show cdA 287 130 = some (.bastore, 1, 0, 0, 0) from rfl) (by decide) rfl (by omega) (show (iI s99 107) < 40 by omega) (by decide) (by omega) ?_
            obtain ⟨s101, hs101⟩ : ∃ x0, x0 = uC s99 459 ((iI s99 107)).toNat (Int32.ofInt w) := ⟨_, rfl⟩
            rw [← hs101]
            have Is101 : Bd s101 := by rw [hs101]; exact bd_C Is99 (show (0 : Int) ≤ w ∧ w ≤ 1 by omega) ⟨by omega, by omega⟩
            have Fs101 := fm_C (i := ((iI s99 107)).toNat) (x := Int32.ofInt w) Fs99 (show 459 ∈ _ by decide)
            rw [← hs101] at Fs101
            have ws101_73 : iI s101 73 = iI s99 73 := by rw [hs101]; rfl
            have ws101_107 : iI s101 107 = iI s99 107 := by rw [hs101]; rfl
            have fs101 : Fm [] [459] s99 s101 := by rw [hs101]; exact fm_C (fm_rf _ _ _) (show 459 ∈ _ by decide)
            have JRLx_s101 : RLx s101 := RLx_fm fs101 (by decide) JRLx_s99
            refine z_aload_n X (x := A 179) (show cdA 287 131 = some (.aload_n 0, 1, 0, 0, 0) from rfl) (List.Mem.head _) ?_
            refine w_dup X.1 (ax_d X (show cdA 287 132 = some (.dup, 1, 0, 0, 0) from rfl)) rfl ?_
            refine z_getI X 179 (show cdA 287 133 = some (.getfield 458, 3, 12, 76, 0) from rfl) (by decide) rfl rfl ?_
            have b102 : (0 : Int) ≤ iI s101 107 ∧ iI s101 107 ≤ 40 := Is101.1 107
            refine z_const X (show cdA 287 136 = some (.iconst 1, 1, 0, 0, 0) from rfl) ?_
            refine z_add X (show cdA 287 137 = some (.iadd, 1, 0, 0, 0) from rfl) ?_
            refine s_putI X 179 (show cdA 287 138 = some (.putfield 458, 3, 12, 76, 0) from rfl) (by decide) rfl rfl (by decide) rfl rfl rfl ?_
            obtain ⟨s103, hs103⟩ : ∃ x0, x0 = uI s101 107 (Int32.ofInt ((iI s101 107) + 1)) := ⟨_, rfl⟩
            rw [← hs103]
            have Is103 : Bd s103 := by rw [hs103]; exact bd_I Is101 (show (0 : Int) ≤ ((iI s101 107) + 1) ∧ ((iI s101 107) + 1) ≤ 40 by omega) ⟨by omega, by omega⟩
            have Fs103 := fm_I (x := Int32.ofInt ((iI s101 107) + 1)) Fs101 (show 107 ∈ _ by decide)
            rw [← hs103] at Fs103
            have vs103 : iI s103 107 = ((iI s101 107) + 1) := by rw [hs103]; exact iI_u ⟨by omega, by omega⟩
            have ws103_73 : iI s103 73 = iI s101 73 := by rw [hs103]; rfl
            have fs103 : Fm [107] [] s101 s103 := by rw [hs103]; exact fm_I (fm_rf _ _ _) (show 107 ∈ _ by decide)
            have JRLx_s103 : RLx s103 := RLx_fm fs103 (by decide) JRLx_s101
            refine z_aload_n X (x := A 179) (show cdA 287 141 = some (.aload_n 0, 1, 0, 0, 0) from rfl) (List.Mem.head _) ?_
            refine z_getI X 179 (show cdA 287 142 = some (.getfield 458, 3, 12, 76, 0) from rfl) (by decide) rfl rfl ?_
            have b104 : (0 : Int) ≤ iI s103 107 ∧ iI s103 107 ≤ 40 := Is103.1 107
            refine z_const X (show cdA 287 145 = some (.iconst 1, 1, 0, 0, 0) from rfl) ?_
            refine z_sub X (show cdA 287 146 = some (.isub, 1, 0, 0, 0) from rfl) ?_
            exact w_iret X.1 q hRt rfl (ax_d X (show cdA 287 147 = some (.ireturn, 1, 0, 0, 0) from rfl)) (Nat.zero_le _) (Nat.zero_le _) ⟨_, rfl, Is103, Fs103, JRLx_s103, ((iI s103 107) - 1), rfl, ⟨by omega, by omega⟩, trivial⟩
          ·
            refine z_const X (show cdA 287 60 = some (.iconst (-1), 1, 0, 0, 0) from rfl) ?_
            exact w_iret X.1 q hRt rfl (ax_d X (show cdA 287 61 = some (.ireturn, 1, 0, 0, 0) from rfl)) (Nat.zero_le _) (Nat.zero_le _) ⟨_, rfl, Is82, Gs82, JRLx_s82, (-1), rfl, ⟨by omega, by omega⟩, trivial⟩
        ·
          refine z_const X (show cdA 287 49 = some (.iconst 0, 1, 0, 0, 0) from rfl) ?_
          exact w_iret X.1 q hRt rfl (ax_d X (show cdA 287 50 = some (.ireturn, 1, 0, 0, 0) from rfl)) (Nat.zero_le _) (Nat.zero_le _) ⟨_, rfl, Is82, Gs82, JRLx_s82, 0, rfl, ⟨by omega, by omega⟩, trivial⟩
theorem k_isNoneFull (G : GX l s0 D tys a0 dT) (I : Bd s) (jNW : NW s)  : CT l s0 D A dT 283 (rmN 283) [.ref (A 179)] s (fun o t => Bd t ∧ Fm [77, 75, 78, 79, 80, 81] [161, 230] s t ∧ NW t ∧ ∃ e, o = .inl (some (.int (Int32.ofInt e))) ∧ rng e ∧ (e = 0 ∨ e = 1)) := by
  refine ct_of G (by decide) (Nat.le_of_ble_eq_true rfl) (fun k X E hRt hXt q => ?_)
  show WS k 0 [(0, .ref (A 179))] [] _ 0 0
  have F : Fm [77, 75, 78, 79, 80, 81] [161, 230] s s := fm_rf _ _ s
  have L2 : ∀ (n : Nat) (t : PS) (p : Int), Bd t → Fm [77, 75, 78, 79, 80, 81] [161, 230] s t → NW t → (0 ≤ p ∧ p ≤ 8) → 8 - p ≤ n → (∀ (t' : PS) (p' : Int), Bd t' → Fm [77, 75, 78, 79, 80, 81] [161, 230] s t' → NW t' → (0 ≤ p' ∧ p' ≤ 8) → WS k 42 [(0, .ref (A 179)), (1, .int (Int32.ofInt p'))] [] (Wd A dT t') 0 0) → WS k 2 [(0, .ref (A 179)), (1, .int (Int32.ofInt p))] [] (Wd A dT t) 0 0 := by
    intro n
    induction n with
    | zero =>
      intro t p I F jjNW hi hm kx
      refine z_load_n X (x := p) (show cdA 283 2 = some (.iload_n 1, 1, 0, 0, 0) from rfl) (List.Mem.tail _ (List.Mem.head _)) ?_
      refine z_bipush X (show cdA 283 3 = some (.bipush 8, 2, 0, 0, 8) from rfl) ?_
      refine z_icmp_ge X (t := 42) (show cdA 283 5 = some (.if_icmp .ge 37, 3, 3, 0, 0) from rfl) (by decide) ⟨by omega, by omega⟩ ⟨by omega, by omega⟩ (fun g1001 => ?_) (fun g1001 => ?_)
      ·
        refine WS_lv (lv := [(0, .ref (A 179)), (1, .int (Int32.ofInt p))]) (List.forall_mem_cons.mpr ⟨(List.Mem.head _), (List.forall_mem_cons.mpr ⟨(List.Mem.tail _ (List.Mem.head _)), (fun q h => absurd h List.not_mem_nil)⟩)⟩) ?_
        exact kx _ p I F jjNW (by omega)
      ·
        refine z_aload_n X (x := A 179) (show cdA 283 8 = some (.aload_n 0, 1, 0, 0, 0) from rfl) (List.Mem.head _) ?_
        refine z_load_n X (x := p) (show cdA 283 9 = some (.iload_n 1, 1, 0, 0, 0) from rfl) (List.Mem.tail _ (List.Mem.head _)) ?_
        refine z_callV X 179 (rm := rmN 230) (As := [.int (Int32.ofInt p)]) (st := []) (show cdA 283 10 = some (.invokevirtual 327, 3, 230, 0, 0) from rfl) rfl (by decide) rfl (by rw [E.1, E.2.1, E.2.2.1]; exact k_setOf G I (by omega)) ⟨by rw [E.2.2.2]; exact (show (rmN 230).frames + 1 ≤ (rmN 283).frames by decide), by rw [E.2.2.2]; exact (show 8 + (mNL (miB 230) + 11) + (rmN 230).locals ≤ (rmN 283).locals by decide), by rw [E.2.2.2]; exact (show 0 + (rmN 230).cells ≤ (rmN 283).cells by decide), by rw [E.2.2.2]; exact (show 0 + (rmN 230).slots ≤ (rmN 283).slots by decide)⟩ (Nat.le_of_ble_eq_true rfl) (fun vv s1002 hq => ?_) (fun ee s1002 hq => ?_)
        rotate_left
        · obtain ⟨Is1002, Fs1002, hv, hps1002⟩ := hq; cases hv
        obtain ⟨Is1002, Fs1002, hv, hps1002⟩ := hq
        cases hv
        have Gs1002 := fm_ts F Fs1002 (by decide) (by decide)
        have JNW_s1002 : NW s1002 := NW_fm Fs1002 (by decide) jjNW
        show WS k 13 [(0, .ref (A 179)), (1, .int (Int32.ofInt p))] [] (Wd A dT s1002) 0 0
        refine z_aload_n X (x := A 179) (show cdA 283 13 = some (.aload_n 0, 1, 0, 0, 0) from rfl) (List.Mem.head _) ?_
        refine z_load_n X (x := p) (show cdA 283 14 = some (.iload_n 1, 1, 0, 0, 0) from rfl) (List.Mem.tail _ (List.Mem.head _)) ?_
        refine z_callV X 179 (rm := rmN 233) (As := [.int (Int32.ofInt p)]) (st := []) (show cdA 283 15 = some (.invokevirtual 351, 3, 233, 0, 0) from rfl) rfl (by decide) rfl (by rw [E.1, E.2.1, E.2.2.1]; exact k_hasCells G Is1002 (by omega)) ⟨by rw [E.2.2.2]; exact (show (rmN 233).frames + 1 ≤ (rmN 283).frames by decide), by rw [E.2.2.2]; exact (show 8 + (mNL (miB 233) + 11) + (rmN 233).locals ≤ (rmN 283).locals by decide), by rw [E.2.2.2]; exact (show 0 + (rmN 233).cells ≤ (rmN 283).cells by decide), by rw [E.2.2.2]; exact (show 0 + (rmN 233).slots ≤ (rmN 283).slots by decide)⟩ (Nat.le_of_ble_eq_true rfl) (fun vv s1004 hq => ?_) (fun ee s1004 hq => ?_)
        rotate_left
        · obtain ⟨Is1004, Fs1004, e1005, hv, hrs1004, hps1004⟩ := hq; cases hv
        obtain ⟨Is1004, Fs1004, e1005, hv, hrs1004, hps1004⟩ := hq
        cases hv
        have Gs1004 := fm_ts Gs1002 Fs1004 (by decide) (by decide)
        have JNW_s1004 : NW s1004 := NW_fm Fs1004 (by decide) JNW_s1002
        show WS k 18 [(0, .ref (A 179)), (1, .int (Int32.ofInt p))] [.int (Int32.ofInt e1005)] (Wd A dT s1004) 0 0
        refine z_if_eq X (t := 36) (show cdA 283 18 = some (.ifCond .eq 18, 3, 0, 0, 0) from rfl) (by decide) ⟨by omega, by omega⟩ (fun g1006 => ?_) (fun g1006 => ?_)
        ·
          refine z_inc X (x := p) (lv' := [(1, .int (Int32.ofInt (p + 1))), (0, .ref (A 179))]) (show cdA 283 36 = some (.iinc 1 1, 3, 0, 0, 0) from rfl) (by decide) (List.Mem.tail _ (List.Mem.head _)) (fun _ h => h) ?_
          refine z_goto X (t := 2) (show cdA 283 39 = some (.goto (-37), 3, 0, 0, 0) from rfl) (by decide) ?_
          exfalso
          omega
        ·
          refine z_aload_n X (x := A 179) (show cdA 283 21 = some (.aload_n 0, 1, 0, 0, 0) from rfl) (List.Mem.head _) ?_
          refine z_callV X 179 (rm := rmN 228) (As := []) (st := []) (show cdA 283 22 = some (.invokevirtual 324, 3, 228, 0, 0) from rfl) rfl (by decide) rfl (by rw [E.1, E.2.1, E.2.2.1]; exact k_load G Is1004 JNW_s1004 ) ⟨by rw [E.2.2.2]; exact (show (rmN 228).frames + 1 ≤ (rmN 283).frames by decide), by rw [E.2.2.2]; exact (show 8 + (mNL (miB 228) + 11) + (rmN 228).locals ≤ (rmN 283).locals by decide), by rw [E.2.2.2]; exact (show 0 + (rmN 228).cells ≤ (rmN 283).cells by decide), by rw [E.2.2.2]; exact (show 0 + (rmN 228).slots ≤ (rmN 283).slots by decide)⟩ (Nat.le_of_ble_eq_true rfl) (fun vv s1007 hq => ?_) (fun ee s1007 hq => ?_)
          rotate_left
          · obtain ⟨Is1007, Fs1007, JNW_s1007, e1008, hv, hrs1007, hps1007⟩ := hq; cases hv
          obtain ⟨Is1007, Fs1007, JNW_s1007, e1008, hv, hrs1007, hps1007⟩ := hq
          cases hv
          have Gs1007 := fm_ts Gs1004 Fs1007 (by decide) (by decide)
          have JNW_s1007 : NW s1007 := NW_fm Fs1007 (by decide) JNW_s1004
          show WS k 25 [(0, .ref (A 179)), (1, .int (Int32.ofInt p))] [.int (Int32.ofInt e1008)] (Wd A dT s1007) 0 0
          refine z_aload_n X (x := A 179) (show cdA 283 25 = some (.aload_n 0, 1, 0, 0, 0) from rfl) (List.Mem.head _) ?_
          refine s_getR X 179 (show cdA 283 26 = some (.getfield 73, 3, 12, 36, 0) from rfl) (by decide) rfl rfl ?_
          refine z_load_n X (x := p) (show cdA 283 29 = some (.iload_n 1, 1, 0, 0, 0) from rfl) (List.Mem.tail _ (List.Mem.head _)) ?_
          refine z_ald X 257 (show cdA 283 30 = some (.iaload, 1, 0, 0, 0) from rfl) (by decide) rfl (by omega) (show p < 8 by omega) (by decide) ?_
          have b1009 : (0 : Int) ≤ iC s1007 229 (p).toNat ∧ iC s1007 229 (p).toNat ≤ 9999 := Is1007.2 229 _ (show (p).toNat < 8 by omega)
          refine z_icmp_le X (t := 36) (show cdA 283 31 = some (.if_icmp .le 5, 3, 5, 0, 0) from rfl) (by decide) ⟨by omega, by omega⟩ ⟨by omega, by omega⟩ (fun g1010 => ?_) (fun g1010 => ?_)
          ·
            refine z_inc X (x := p) (lv' := [(1, .int (Int32.ofInt (p + 1))), (0, .ref (A 179))]) (show cdA 283 36 = some (.iinc 1 1, 3, 0, 0, 0) from rfl) (by decide) (List.Mem.tail _ (List.Mem.head _)) (fun _ h => h) ?_
            refine z_goto X (t := 2) (show cdA 283 39 = some (.goto (-37), 3, 0, 0, 0) from rfl) (by decide) ?_
            exfalso
            omega
          ·
            refine z_const X (show cdA 283 34 = some (.iconst 0, 1, 0, 0, 0) from rfl) ?_
            exact w_iret X.1 q hRt (nar_ret (by omega)) (ax_d X (show cdA 283 35 = some (.ireturn, 1, 0, 0, 0) from rfl)) (Nat.zero_le _) (Nat.zero_le _) ⟨_, rfl, Is1007, Gs1007, JNW_s1007, 0, rfl, ⟨by omega, by omega⟩, by omega⟩
    | succ n ih =>
      intro t p I F jjNW hi hm kx
      refine z_load_n X (x := p) (show cdA 283 2 = some (.iload_n 1, 1, 0, 0, 0) from rfl) (List.Mem.tail _ (List.Mem.head _)) ?_
      refine z_bipush X (show cdA 283 3 = some (.bipush 8, 2, 0, 0, 8) from rfl) ?_
      refine z_icmp_ge X (t := 42) (show cdA 283 5 = some (.if_icmp .ge 37, 3, 3, 0, 0) from rfl) (by decide) ⟨by omega, by omega⟩ ⟨by omega, by omega⟩ (fun g1001 => ?_) (fun g1001 => ?_)
      ·
        refine WS_lv (lv := [(0, .ref (A 179)), (1, .int (Int32.ofInt p))]) (List.forall_mem_cons.mpr ⟨(List.Mem.head _), (List.forall_mem_cons.mpr ⟨(List.Mem.tail _ (List.Mem.head _)), (fun q h => absurd h List.not_mem_nil)⟩)⟩) ?_
        exact kx _ p I F jjNW (by omega)
      ·
        refine z_aload_n X (x := A 179) (show cdA 283 8 = some (.aload_n 0, 1, 0, 0, 0) from rfl) (List.Mem.head _) ?_
        refine z_load_n X (x := p) (show cdA 283 9 = some (.iload_n 1, 1, 0, 0, 0) from rfl) (List.Mem.tail _ (List.Mem.head _)) ?_
        refine z_callV X 179 (rm := rmN 230) (As := [.int (Int32.ofInt p)]) (st := []) (show cdA 283 10 = some (.invokevirtual 327, 3, 230, 0, 0) from rfl) rfl (by decide) rfl (by rw [E.1, E.2.1, E.2.2.1]; exact k_setOf G I (by omega)) ⟨by rw [E.2.2.2]; exact (show (rmN 230).frames + 1 ≤ (rmN 283).frames by decide), by rw [E.2.2.2]; exact (show 8 + (mNL (miB 230) + 11) + (rmN 230).locals ≤ (rmN 283).locals by decide), by rw [E.2.2.2]; exact (show 0 + (rmN 230).cells ≤ (rmN 283).cells by decide), by rw [E.2.2.2]; exact (show 0 + (rmN 230).slots ≤ (rmN 283).slots by decide)⟩ (Nat.le_of_ble_eq_true rfl) (fun vv s1002 hq => ?_) (fun ee s1002 hq => ?_)
        rotate_left
        · obtain ⟨Is1002, Fs1002, hv, hps1002⟩ := hq; cases hv
        obtain ⟨Is1002, Fs1002, hv, hps1002⟩ := hq
        cases hv
        have Gs1002 := fm_ts F Fs1002 (by decide) (by decide)
        have JNW_s1002 : NW s1002 := NW_fm Fs1002 (by decide) jjNW
        show WS k 13 [(0, .ref (A 179)), (1, .int (Int32.ofInt p))] [] (Wd A dT s1002) 0 0
        refine z_aload_n X (x := A 179) (show cdA 283 13 = some (.aload_n 0, 1, 0, 0, 0) from rfl) (List.Mem.head _) ?_
        refine z_load_n X (x := p) (show cdA 283 14 = some (.iload_n 1, 1, 0, 0, 0) from rfl) (List.Mem.tail _ (List.Mem.head _)) ?_
        refine z_callV X 179 (rm := rmN 233) (As := [.int (Int32.ofInt p)]) (st := []) (show cdA 283 15 = some (.invokevirtual 351, 3, 233, 0, 0) from rfl) rfl (by decide) rfl (by rw [E.1, E.2.1, E.2.2.1]; exact k_hasCells G Is1002 (by omega)) ⟨by rw [E.2.2.2]; exact (show (rmN 233).frames + 1 ≤ (rmN 283).frames by decide), by rw [E.2.2.2]; exact (show 8 + (mNL (miB 233) + 11) + (rmN 233).locals ≤ (rmN 283).locals by decide), by rw [E.2.2.2]; exact (show 0 + (rmN 233).cells ≤ (rmN 283).cells by decide), by rw [E.2.2.2]; exact (show 0 + (rmN 233).slots ≤ (rmN 283).slots by decide)⟩ (Nat.le_of_ble_eq_true rfl) (fun vv s1004 hq => ?_) (fun ee s1004 hq => ?_)
        rotate_left
        · obtain ⟨Is1004, Fs1004, e1005, hv, hrs1004, hps1004⟩ := hq; cases hv
        obtain ⟨Is1004, Fs1004, e1005, hv, hrs1004, hps1004⟩ := hq
        cases hv
        have Gs1004 := fm_ts Gs1002 Fs1004 (by decide) (by decide)
        have JNW_s1004 : NW s1004 := NW_fm Fs1004 (by decide) JNW_s1002
        show WS k 18 [(0, .ref (A 179)), (1, .int (Int32.ofInt p))] [.int (Int32.ofInt e1005)] (Wd A dT s1004) 0 0
        refine z_if_eq X (t := 36) (show cdA 283 18 = some (.ifCond .eq 18, 3, 0, 0, 0) from rfl) (by decide) ⟨by omega, by omega⟩ (fun g1006 => ?_) (fun g1006 => ?_)
        ·
          refine z_inc X (x := p) (lv' := [(1, .int (Int32.ofInt (p + 1))), (0, .ref (A 179))]) (show cdA 283 36 = some (.iinc 1 1, 3, 0, 0, 0) from rfl) (by decide) (List.Mem.tail _ (List.Mem.head _)) (fun _ h => h) ?_
          refine z_goto X (t := 2) (show cdA 283 39 = some (.goto (-37), 3, 0, 0, 0) from rfl) (by decide) ?_
          refine WS_lv (lv := [(0, .ref (A 179)), (1, .int (Int32.ofInt (p + 1)))]) (List.forall_mem_cons.mpr ⟨(List.Mem.tail _ (List.Mem.head _)), (List.forall_mem_cons.mpr ⟨(List.Mem.head _), (fun q h => absurd h List.not_mem_nil)⟩)⟩) ?_
          exact ih _ (p + 1) Is1004 Gs1004 JNW_s1004 (by omega) (by omega) kx
        ·
          refine z_aload_n X (x := A 179) (show cdA 283 21 = some (.aload_n 0, 1, 0, 0, 0) from rfl) (List.Mem.head _) ?_
          refine z_callV X 179 (rm := rmN 228) (As := []) (st := []) (show cdA 283 22 = some (.invokevirtual 324, 3, 228, 0, 0) from rfl) rfl (by decide) rfl (by rw [E.1, E.2.1, E.2.2.1]; exact k_load G Is1004 JNW_s1004 ) ⟨by rw [E.2.2.2]; exact (show (rmN 228).frames + 1 ≤ (rmN 283).frames by decide), by rw [E.2.2.2]; exact (show 8 + (mNL (miB 228) + 11) + (rmN 228).locals ≤ (rmN 283).locals by decide), by rw [E.2.2.2]; exact (show 0 + (rmN 228).cells ≤ (rmN 283).cells by decide), by rw [E.2.2.2]; exact (show 0 + (rmN 228).slots ≤ (rmN 283).slots by decide)⟩ (Nat.le_of_ble_eq_true rfl) (fun vv s1007 hq => ?_) (fun ee s1007 hq => ?_)
          rotate_left
          · obtain ⟨Is1007, Fs1007, JNW_s1007, e1008, hv, hrs1007, hps1007⟩ := hq; cases hv
          obtain ⟨Is1007, Fs1007, JNW_s1007, e1008, hv, hrs1007, hps1007⟩ := hq
          cases hv
          have Gs1007 := fm_ts Gs1004 Fs1007 (by decide) (by decide)
          have JNW_s1007 : NW s1007 := NW_fm Fs1007 (by decide) JNW_s1004
          show WS k 25 [(0, .ref (A 179)), (1, .int (Int32.ofInt p))] [.int (Int32.ofInt e1008)] (Wd A dT s1007) 0 0
          refine z_aload_n X (x := A 179) (show cdA 283 25 = some (.aload_n 0, 1, 0, 0, 0) from rfl) (List.Mem.head _) ?_
          refine s_getR X 179 (show cdA 283 26 = some (.getfield 73, 3, 12, 36, 0) from rfl) (by decide) rfl rfl ?_
          refine z_load_n X (x := p) (show cdA 283 29 = some (.iload_n 1, 1, 0, 0, 0) from rfl) (List.Mem.tail _ (List.Mem.head _)) ?_
          refine z_ald X 257 (show cdA 283 30 = some (.iaload, 1, 0, 0, 0) from rfl) (by decide) rfl (by omega) (show p < 8 by omega) (by decide) ?_
          have b1009 : (0 : Int) ≤ iC s1007 229 (p).toNat ∧ iC s1007 229 (p).toNat ≤ 9999 := Is1007.2 229 _ (show (p).toNat < 8 by omega)
          refine z_icmp_le X (t := 36) (show cdA 283 31 = some (.if_icmp .le 5, 3, 5, 0, 0) from rfl) (by decide) ⟨by omega, by omega⟩ ⟨by omega, by omega⟩ (fun g1010 => ?_) (fun g1010 => ?_)
          ·
            refine z_inc X (x := p) (lv' := [(1, .int (Int32.ofInt (p + 1))), (0, .ref (A 179))]) (show cdA 283 36 = some (.iinc 1 1, 3, 0, 0, 0) from rfl) (by decide) (List.Mem.tail _ (List.Mem.head _)) (fun _ h => h) ?_
            refine z_goto X (t := 2) (show cdA 283 39 = some (.goto (-37), 3, 0, 0, 0) from rfl) (by decide) ?_
            refine WS_lv (lv := [(0, .ref (A 179)), (1, .int (Int32.ofInt (p + 1)))]) (List.forall_mem_cons.mpr ⟨(List.Mem.tail _ (List.Mem.head _)), (List.forall_mem_cons.mpr ⟨(List.Mem.head _), (fun q h => absurd h List.not_mem_nil)⟩)⟩) ?_
            exact ih _ (p + 1) Is1007 Gs1007 JNW_s1007 (by omega) (by omega) kx
          ·
            refine z_const X (show cdA 283 34 = some (.iconst 0, 1, 0, 0, 0) from rfl) ?_
            exact w_iret X.1 q hRt (nar_ret (by omega)) (ax_d X (show cdA 283 35 = some (.ireturn, 1, 0, 0, 0) from rfl)) (Nat.zero_le _) (Nat.zero_le _) ⟨_, rfl, Is1007, Gs1007, JNW_s1007, 0, rfl, ⟨by omega, by omega⟩, by omega⟩
  refine z_const X (show cdA 283 0 = some (.iconst 0, 1, 0, 0, 0) from rfl) ?_
  refine z_store_n X (lv' := [(1, .int (Int32.ofInt 0)), (0, .ref (A 179))]) (show cdA 283 1 = some (.istore_n 1, 1, 0, 0, 0) from rfl) (by decide) (fun _ h => h) ?_
  refine WS_lv (lv := [(0, .ref (A 179)), (1, .int (Int32.ofInt 0))]) (List.forall_mem_cons.mpr ⟨(List.Mem.tail _ (List.Mem.head _)), (List.forall_mem_cons.mpr ⟨(List.Mem.head _), (fun q h => absurd h List.not_mem_nil)⟩)⟩) ?_
  refine L2 ((8 - 0 : Int)).toNat s 0 I F jNW (by omega) (by omega) ?_
  intro s1 x2 Is1 Fs1 JNW_s1 hs1
  refine z_const X (show cdA 283 42 = some (.iconst 1, 1, 0, 0, 0) from rfl) ?_
  exact w_iret X.1 q hRt (nar_ret (by omega)) (ax_d X (show cdA 283 43 = some (.ireturn, 1, 0, 0, 0) from rfl)) (Nat.zero_le _) (Nat.zero_le _) ⟨_, rfl, Is1, Fs1, JNW_s1, 1, rfl, ⟨by omega, by omega⟩, by omega⟩
end M56
