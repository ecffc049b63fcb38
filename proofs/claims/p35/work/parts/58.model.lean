/-! The model: edges, costs, moves -/
section M58
variable {l : Launch} {s0 : State} {D : va_G} {tys : List (ClassId × FieldType)} {a0 : Array Value} {A : Nat → Nat} {dT : Nat → ClassId} {s : PS}
set_option maxRecDepth 4000 in
theorem k_isCrossing (G : GX l s0 D tys a0 dT) (I : Bd s) (jRLx : RLx s) {x : Int} (p0 : 0 ≤ x ∧ x ≤ 127) : CT l s0 D A dT 245 (rmN 245) [.ref (A 179), .int (Int32.ofInt x)] s (fun o t => Bd t ∧ Fm [] [202, 204, 205, 206, 207, 208, 209, 210, 211, 212, 213, 214, 215, 216, 217, 218, 219, 220, 221, 222, 223, 224, 225, 226, 227, 203] s t ∧ RLx t ∧ ∃ e, o = .inl (some (.int (Int32.ofInt e))) ∧ rng e ∧ (e = 0 ∨ e = 1)) := by
  refine ct_of G (by decide) (Nat.le_of_ble_eq_true rfl) (fun k X E hRt hXt q => ?_)
  show WS k 0 [(0, .ref (A 179)), (1, .int (Int32.ofInt x))] [] _ 0 0
  have F : Fm [] [202, 204, 205, 206, 207, 208, 209, 210, 211, 212, 213, 214, 215, 216, 217, 218, 219, 220, 221, 222, 223, 224, 225, 226, 227, 203] s s := fm_rf _ _ s
  have b1 : (0 : Int) ≤ iI s 90 ∧ iI s 90 ≤ 12 := I.1 90
  have L19 : ∀ (n : Nat) (t : PS) (xv a b : Int), Bd t → Fm [] [202, 204, 205, 206, 207, 208, 209, 210, 211, 212, 213, 214, 215, 216, 217, 218, 219, 220, 221, 222, 223, 224, 225, 226, 227, 203] s t → RLx t → (NQ t) → ((0 ≤ xv ∧ xv ≤ 127) ∧ 0 ≤ a ∧ a < iI t 90 ∧ 1 ≤ b ∧ b ≤ 12) → (12 - b : Int).toNat < n → (∀ (t' : PS) (b' : Int), Bd t' → Fm [] [202, 204, 205, 206, 207, 208, 209, 210, 211, 212, 213, 214, 215, 216, 217, 218, 219, 220, 221, 222, 223, 224, 225, 226, 227, 203] s t' → RLx t' → (NQ t') → ((0 ≤ xv ∧ xv ≤ 127) ∧ 0 ≤ a ∧ a < iI t' 90 ∧ 1 ≤ b' ∧ b' ≤ 12) → WS k 88 [(0, .ref (A 179)), (1, .int (Int32.ofInt xv)), (2, .int (Int32.ofInt a)), (3, .int (Int32.ofInt b'))] [] (Wd A dT t') 0 0) → WS k 19 [(0, .ref (A 179)), (1, .int (Int32.ofInt xv)), (2, .int (Int32.ofInt a)), (3, .int (Int32.ofInt b))] [] (Wd A dT t) 0 0 := by
    intro n
    induction n with
    | zero =>
      intro t xv a b I F jjRLx hq hi hm kx
      exact absurd hm (Nat.not_lt_zero _)
    | succ n ih =>
      intro t xv a b I F jjRLx hq hi hm kx
      have b1001 : (0 : Int) ≤ iI t 90 ∧ iI t 90 ≤ 12 := I.1 90
      refine z_load_n X (x := b) (show cdA 245 19 = some (.iload_n 3, 1, 0, 0, 0) from rfl) (List.Mem.tail _ (List.Mem.tail _ (List.Mem.tail _ (List.Mem.head _)))) ?_
      refine z_aload_n X (x := A 179) (show cdA 245 20 = some (.aload_n 0, 1, 0, 0, 0) from rfl) (List.Mem.head _) ?_
      refine z_getI X 179 (show cdA 245 21 = some (.getfield 233, 3, 12, 22, 0) from rfl) (by decide) rfl rfl ?_
      have b1002 : (0 : Int) ≤ iI t 90 ∧ iI t 90 ≤ 12 := I.1 90
      refine z_icmp_ge X (t := 88) (show cdA 245 24 = some (.if_icmp .ge 64, 3, 3, 0, 0) from rfl) (by decide) ⟨by first | exact oq_9462313e hi.2.2.2.1 | omega, by first | exact oq_78843a64 hi.2.2.2.2 | omega⟩ (rng_to _) (fun g1003 => ?_) (fun g1003 => ?_)
      ·
        refine WS_lv (lv := [(0, .ref (A 179)), (1, .int (Int32.ofInt xv)), (2, .int (Int32.ofInt a)), (3, .int (Int32.ofInt b))]) (List.forall_mem_cons.mpr ⟨(List.Mem.head _), (List.forall_mem_cons.mpr ⟨(List.Mem.tail _ (List.Mem.head _)), (List.forall_mem_cons.mpr ⟨(List.Mem.tail _ (List.Mem.tail _ (List.Mem.head _))), (List.forall_mem_cons.mpr ⟨(List.Mem.tail _ (List.Mem.tail _ (List.Mem.tail _ (List.Mem.head _)))), (fun q h => absurd h List.not_mem_nil)⟩)⟩)⟩)⟩) ?_
        exact kx _ b I F jjRLx hq (by first | exact ⟨And.intro (hi.1.1) (hi.1.2), hi.2.1, hi.2.2.1, hi.2.2.2.1, hi.2.2.2.2⟩ | omega)
      ·
        refine z_aload_n X (x := A 179) (show cdA 245 27 = some (.aload_n 0, 1, 0, 0, 0) from rfl) (List.Mem.head _) ?_
        refine s_getR X 179 (show cdA 245 28 = some (.getfield 52, 3, 12, 29, 0) from rfl) (by decide) rfl rfl ?_
        refine z_load_n X (x := a) (show cdA 245 31 = some (.iload_n 2, 1, 0, 0, 0) from rfl) (List.Mem.tail _ (List.Mem.tail _ (List.Mem.head _))) ?_
        refine z_aald X rw_202 (show cdA 245 32 = some (.aaload, 1, 0, 0, 0) from rfl) (by first | exact hi.2.1 | omega) (show a < 12 by first | exact oq_f36e82a8 hi.2.2.1 b1002.2 | omega) (by decide) ?_
        refine z_load_n X (x := xv) (show cdA 245 33 = some (.iload_n 1, 1, 0, 0, 0) from rfl) (List.Mem.tail _ (List.Mem.head _)) ?_
        refine z_ald2 X rw_202 (show cdA 245 34 = some (.iaload, 1, 0, 0, 0) from rfl) (show (a : Int).toNat < 12 by first | exact oq_2dac6850 hi.2.2.1 b1002.2 | omega) (by first | exact hi.1.1 | omega) (show xv < 128 by first | exact oq_31b2bf10 hi.1.2 | omega) (by decide) ?_
        have b1004 : ((-1) : Int) ≤ (iC t (178 + (a : Int).toNat) (xv : Int).toNat) ∧ (iC t (178 + (a : Int).toNat) (xv : Int).toNat) ≤ 23 := rw_bd rw_202 I (show (a : Int).toNat < 12 by first | exact oq_2dac6850 hi.2.2.1 b1002.2 | omega) (show (xv : Int).toNat < 128 by first | exact oq_c7f4e9c1 hi.1.2 | omega)
        refine z_const X (show cdA 245 35 = some (.iconst (-1), 1, 0, 0, 0) from rfl) ?_
        refine z_icmp_eq X (t := 82) (show cdA 245 36 = some (.if_icmp .eq 46, 3, 0, 0, 0) from rfl) (by decide) (rng_to _) (by decide) (fun g1005 => ?_) (fun g1005 => ?_)
        ·
          refine z_inc X (x := b) (lv' := [(3, .int (Int32.ofInt (b + 1))), (0, .ref (A 179)), (1, .int (Int32.ofInt xv)), (2, .int (Int32.ofInt a))]) (show cdA 245 82 = some (.iinc 3 1, 3, 0, 0, 0) from rfl) (by decide) (List.Mem.tail _ (List.Mem.tail _ (List.Mem.tail _ (List.Mem.head _)))) (fun _ h => h) ?_
          refine z_goto X (t := 19) (show cdA 245 85 = some (.goto (-66), 3, 0, 0, 0) from rfl) (by decide) ?_
          refine WS_lv (lv := [(0, .ref (A 179)), (1, .int (Int32.ofInt xv)), (2, .int (Int32.ofInt a)), (3, .int (Int32.ofInt (b + 1)))]) (List.forall_mem_cons.mpr ⟨(List.Mem.tail _ (List.Mem.head _)), (List.forall_mem_cons.mpr ⟨(List.Mem.tail _ (List.Mem.tail _ (List.Mem.head _))), (List.forall_mem_cons.mpr ⟨(List.Mem.tail _ (List.Mem.tail _ (List.Mem.tail _ (List.Mem.head _)))), (List.forall_mem_cons.mpr ⟨(List.Mem.head _), (fun q h => absurd h List.not_mem_nil)⟩)⟩)⟩)⟩) ?_
          exact ih _ xv a (b + 1) I F jjRLx hq (by first | exact ⟨And.intro (hi.1.1) (hi.1.2), hi.2.1, hi.2.2.1, oq_1e1a2df6 hi.2.2.2.1, oq_4dae995e g1003 b1002.2⟩ | omega) (by first | exact qk_me hm (by decide) (oq_b575e8c1 g1003 b1002.2) | omega) kx
        ·
          refine z_aload_n X (x := A 179) (show cdA 245 39 = some (.aload_n 0, 1, 0, 0, 0) from rfl) (List.Mem.head _) ?_
          refine s_getR X 179 (show cdA 245 40 = some (.getfield 52, 3, 12, 29, 0) from rfl) (by decide) rfl rfl ?_
          refine z_load_n X (x := b) (show cdA 245 43 = some (.iload_n 3, 1, 0, 0, 0) from rfl) (List.Mem.tail _ (List.Mem.tail _ (List.Mem.tail _ (List.Mem.head _)))) ?_
          refine z_aald X rw_202 (show cdA 245 44 = some (.aaload, 1, 0, 0, 0) from rfl) (by first | exact oq_2a6e3b50 hi.2.2.2.1 | omega) (show b < 12 by first | exact oq_f36e82a8 g1003 b1002.2 | omega) (by decide) ?_
          refine z_load_n X (x := xv) (show cdA 245 45 = some (.iload_n 1, 1, 0, 0, 0) from rfl) (List.Mem.tail _ (List.Mem.head _)) ?_
          refine z_ald2 X rw_202 (show cdA 245 46 = some (.iaload, 1, 0, 0, 0) from rfl) (show (b : Int).toNat < 12 by first | exact oq_2dac6850 g1003 b1002.2 | omega) (by first | exact hi.1.1 | omega) (show xv < 128 by first | exact oq_31b2bf10 hi.1.2 | omega) (by decide) ?_
          have b1006 : ((-1) : Int) ≤ (iC t (178 + (b : Int).toNat) (xv : Int).toNat) ∧ (iC t (178 + (b : Int).toNat) (xv : Int).toNat) ≤ 23 := rw_bd rw_202 I (show (b : Int).toNat < 12 by first | exact oq_2dac6850 g1003 b1002.2 | omega) (show (xv : Int).toNat < 128 by first | exact oq_c7f4e9c1 hi.1.2 | omega)
          refine z_const X (show cdA 245 47 = some (.iconst (-1), 1, 0, 0, 0) from rfl) ?_
          refine z_icmp_eq X (t := 82) (show cdA 245 48 = some (.if_icmp .eq 34, 3, 0, 0, 0) from rfl) (by decide) (rng_to _) (by decide) (fun g1007 => ?_) (fun g1007 => ?_)
          ·
            refine z_inc X (x := b) (lv' := [(3, .int (Int32.ofInt (b + 1))), (0, .ref (A 179)), (1, .int (Int32.ofInt xv)), (2, .int (Int32.ofInt a))]) (show cdA 245 82 = some (.iinc 3 1, 3, 0, 0, 0) from rfl) (by decide) (List.Mem.tail _ (List.Mem.tail _ (List.Mem.tail _ (List.Mem.head _)))) (fun _ h => h) ?_
            refine z_goto X (t := 19) (show cdA 245 85 = some (.goto (-66), 3, 0, 0, 0) from rfl) (by decide) ?_
            refine WS_lv (lv := [(0, .ref (A 179)), (1, .int (Int32.ofInt xv)), (2, .int (Int32.ofInt a)), (3, .int (Int32.ofInt (b + 1)))]) (List.forall_mem_cons.mpr ⟨(List.Mem.tail _ (List.Mem.head _)), (List.forall_mem_cons.mpr ⟨(List.Mem.tail _ (List.Mem.tail _ (List.Mem.head _))), (List.forall_mem_cons.mpr ⟨(List.Mem.tail _ (List.Mem.tail _ (List.Mem.tail _ (List.Mem.head _)))), (List.forall_mem_cons.mpr ⟨(List.Mem.head _), (fun q h => absurd h List.not_mem_nil)⟩)⟩)⟩)⟩) ?_
            exact ih _ xv a (b + 1) I F jjRLx hq (by first | exact ⟨And.intro (hi.1.1) (hi.1.2), hi.2.1, hi.2.2.1, oq_1e1a2df6 hi.2.2.2.1, oq_4dae995e g1003 b1002.2⟩ | omega) (by first | exact qk_me hm (by decide) (oq_b575e8c1 g1003 b1002.2) | omega) kx
          ·
            refine z_aload_n X (x := A 179) (show cdA 245 51 = some (.aload_n 0, 1, 0, 0, 0) from rfl) (List.Mem.head _) ?_
            refine z_load_n X (x := a) (show cdA 245 52 = some (.iload_n 2, 1, 0, 0, 0) from rfl) (List.Mem.tail _ (List.Mem.tail _ (List.Mem.head _))) ?_
            refine z_aload_n X (x := A 179) (show cdA 245 53 = some (.aload_n 0, 1, 0, 0, 0) from rfl) (List.Mem.head _) ?_
            refine s_getR X 179 (show cdA 245 54 = some (.getfield 52, 3, 12, 29, 0) from rfl) (by decide) rfl rfl ?_
            refine z_load_n X (x := a) (show cdA 245 57 = some (.iload_n 2, 1, 0, 0, 0) from rfl) (List.Mem.tail _ (List.Mem.tail _ (List.Mem.head _))) ?_
            refine z_aald X rw_202 (show cdA 245 58 = some (.aaload, 1, 0, 0, 0) from rfl) (by first | exact hi.2.1 | omega) (show a < 12 by first | exact oq_f36e82a8 hi.2.2.1 b1002.2 | omega) (by decide) ?_
            refine z_load_n X (x := xv) (show cdA 245 59 = some (.iload_n 1, 1, 0, 0, 0) from rfl) (List.Mem.tail _ (List.Mem.head _)) ?_
            refine z_ald2 X rw_202 (show cdA 245 60 = some (.iaload, 1, 0, 0, 0) from rfl) (show (a : Int).toNat < 12 by first | exact oq_2dac6850 hi.2.2.1 b1002.2 | omega) (by first | exact hi.1.1 | omega) (show xv < 128 by first | exact oq_31b2bf10 hi.1.2 | omega) (by decide) ?_
            have b1008 : ((-1) : Int) ≤ (iC t (178 + (a : Int).toNat) (xv : Int).toNat) ∧ (iC t (178 + (a : Int).toNat) (xv : Int).toNat) ≤ 23 := rw_bd rw_202 I (show (a : Int).toNat < 12 by first | exact oq_2dac6850 hi.2.2.1 b1002.2 | omega) (show (xv : Int).toNat < 128 by first | exact oq_c7f4e9c1 hi.1.2 | omega)
            have n11009 := (hq (a : Int).toNat (by omega) (by omega)).1
            have r11010 := (jjRLx (a : Int).toNat (by omega) (by omega)).2 (xv : Int).toNat (by omega)
            refine z_callV X 179 (rm := rmN 226) (As := [.int (Int32.ofInt a), .int (Int32.ofInt (iC t (178 + (a : Int).toNat) (xv : Int).toNat))]) (st := []) (show cdA 245 61 = some (.invokevirtual 315, 3, 226, 0, 0) from rfl) rfl (by decide) rfl (by rw [E.1, E.2.1, E.2.2.1]; exact k_goes G I (by first | exact ⟨hi.2.1, oq_e4d7f3c5 hi.2.2.1 b1002.2⟩ | omega) (by first | exact ⟨oq_5234833b b1008.1 g1005, by omega⟩ | omega)) ⟨by rw [E.2.2.2]; exact (show (rmN 226).frames + 1 ≤ (rmN 245).frames by decide), by rw [E.2.2.2]; exact (show 8 + (mNL (miB 226) + 11) + (rmN 226).locals ≤ (rmN 245).locals by decide), by rw [E.2.2.2]; exact (show 0 + (rmN 226).cells ≤ (rmN 245).cells by decide), by rw [E.2.2.2]; exact (show 0 + (rmN 226).slots ≤ (rmN 245).slots by decide)⟩ (Nat.le_of_ble_eq_true rfl) (fun vv s1011 hq => ?_) (fun ee s1011 hq => ?_)
            rotate_left
            · obtain ⟨Is1011, Fs1011, e1012, hv, hrs1011, hps1011⟩ := hq; cases hv
            obtain ⟨Is1011, Fs1011, e1012, hv, hrs1011, hps1011⟩ := hq
            cases hv
            have Gs1011 := fm_ts F Fs1011 (by decide) (by decide)
            have JRLx_s1011 : RLx s1011 := RLx_fm Fs1011 (by decide) jjRLx
            have JNQ_s1011 : NQ s1011 := NQ_fm Fs1011 (by decide) hq
            have ws1011_90 : iI s1011 90 = iI t 90 := fm_i Fs1011 (by decide)
            show WS k 64 [(0, .ref (A 179)), (1, .int (Int32.ofInt xv)), (2, .int (Int32.ofInt a)), (3, .int (Int32.ofInt b))] [.int (Int32.ofInt e1012)] (Wd A dT s1011) 0 0
            refine z_aload_n X (x := A 179) (show cdA 245 64 = some (.aload_n 0, 1, 0, 0, 0) from rfl) (List.Mem.head _) ?_
            refine z_load_n X (x := b) (show cdA 245 65 = some (.iload_n 3, 1, 0, 0, 0) from rfl) (List.Mem.tail _ (List.Mem.tail _ (List.Mem.tail _ (List.Mem.head _)))) ?_
            refine z_aload_n X (x := A 179) (show cdA 245 66 = some (.aload_n 0, 1, 0, 0, 0) from rfl) (List.Mem.head _) ?_
            refine s_getR X 179 (show cdA 245 67 = some (.getfield 52, 3, 12, 29, 0) from rfl) (by decide) rfl rfl ?_
            refine z_load_n X (x := b) (show cdA 245 70 = some (.iload_n 3, 1, 0, 0, 0) from rfl) (List.Mem.tail _ (List.Mem.tail _ (List.Mem.tail _ (List.Mem.head _)))) ?_
            refine z_aald X rw_202 (show cdA 245 71 = some (.aaload, 1, 0, 0, 0) from rfl) (by first | exact oq_2a6e3b50 hi.2.2.2.1 | omega) (show b < 12 by first | exact oq_f36e82a8 g1003 b1002.2 | omega) (by decide) ?_
            refine z_load_n X (x := xv) (show cdA 245 72 = some (.iload_n 1, 1, 0, 0, 0) from rfl) (List.Mem.tail _ (List.Mem.head _)) ?_
            refine z_ald2 X rw_202 (show cdA 245 73 = some (.iaload, 1, 0, 0, 0) from rfl) (show (b : Int).toNat < 12 by first | exact oq_2dac6850 g1003 b1002.2 | omega) (by first | exact hi.1.1 | omega) (show xv < 128 by first | exact oq_31b2bf10 hi.1.2 | omega) (by decide) ?_
            have b1013 : ((-1) : Int) ≤ (iC s1011 (178 + (b : Int).toNat) (xv : Int).toNat) ∧ (iC s1011 (178 + (b : Int).toNat) (xv : Int).toNat) ≤ 23 := rw_bd rw_202 Is1011 (show (b : Int).toNat < 12 by first | exact oq_2dac6850 g1003 b1002.2 | omega) (show (xv : Int).toNat < 128 by first | exact oq_c7f4e9c1 hi.1.2 | omega)
            have n01014 : iC s1011 (178 + (b : Int).toNat) (xv : Int).toNat = iC t (178 + (b : Int).toNat) (xv : Int).toNat := fm_c Fs1011 (fun h => absurd h List.not_mem_nil)
            have n11015 := (JNQ_s1011 (b : Int).toNat (by omega) (by omega)).1
            have r11016 := (JRLx_s1011 (b : Int).toNat (by omega) (by omega)).2 (xv : Int).toNat (by omega)
            refine z_callV X 179 (rm := rmN 226) (As := [.int (Int32.ofInt b), .int (Int32.ofInt (iC s1011 (178 + (b : Int).toNat) (xv : Int).toNat))]) (st := [.int (Int32.ofInt e1012)]) (show cdA 245 74 = some (.invokevirtual 315, 3, 226, 0, 0) from rfl) rfl (by decide) rfl (by rw [E.1, E.2.1, E.2.2.1]; exact k_goes G Is1011 (by first | exact ⟨oq_2a6e3b50 hi.2.2.2.1, oq_e4d7f3c5 g1003 b1002.2⟩ | omega) (by first | exact ⟨oq_212cfe9d n01014 g1007 b1006.1, by omega⟩ | omega)) ⟨by rw [E.2.2.2]; exact (show (rmN 226).frames + 1 ≤ (rmN 245).frames by decide), by rw [E.2.2.2]; exact (show 8 + (mNL (miB 226) + 11) + (rmN 226).locals ≤ (rmN 245).locals by decide), by rw [E.2.2.2]; exact (show 0 + (rmN 226).cells ≤ (rmN 245).cells by decide), by rw [E.2.2.2]; exact (show 0 + (rmN 226).slots ≤ (rmN 245).slots by decide)⟩ (Nat.le_of_ble_eq_true rfl) (fun vv s1017 hq => ?_) (fun ee s1017 hq => ?_)
            rotate_left
            · obtain ⟨Is1017, Fs1017, e1018, hv, hrs1017, hps1017⟩ := hq; cases hv
            obtain ⟨Is1017, Fs1017, e1018, hv, hrs1017, hps1017⟩ := hq
            cases hv
            have Gs1017 := fm_ts Gs1011 Fs1017 (by decide) (by decide)
            have JRLx_s1017 : RLx s1017 := RLx_fm Fs1017 (by decide) JRLx_s1011
            have JNQ_s1017 : NQ s1017 := NQ_fm Fs1017 (by decide) JNQ_s1011
            have ws1017_90 : iI s1017 90 = iI s1011 90 := fm_i Fs1017 (by decide)
            show WS k 77 [(0, .ref (A 179)), (1, .int (Int32.ofInt xv)), (2, .int (Int32.ofInt a)), (3, .int (Int32.ofInt b))] [.int (Int32.ofInt e1018), .int (Int32.ofInt e1012)] (Wd A dT s1017) 0 0
            refine z_icmp_eq X (t := 82) (show cdA 245 77 = some (.if_icmp .eq 5, 3, 0, 0, 0) from rfl) (by decide) hrs1011 hrs1017 (fun g1019 => ?_) (fun g1019 => ?_)
            ·
              refine z_inc X (x := b) (lv' := [(3, .int (Int32.ofInt (b + 1))), (0, .ref (A 179)), (1, .int (Int32.ofInt xv)), (2, .int (Int32.ofInt a))]) (show cdA 245 82 = some (.iinc 3 1, 3, 0, 0, 0) from rfl) (by decide) (List.Mem.tail _ (List.Mem.tail _ (List.Mem.tail _ (List.Mem.head _)))) (fun _ h => h) ?_
              refine z_goto X (t := 19) (show cdA 245 85 = some (.goto (-66), 3, 0, 0, 0) from rfl) (by decide) ?_
              refine WS_lv (lv := [(0, .ref (A 179)), (1, .int (Int32.ofInt xv)), (2, .int (Int32.ofInt a)), (3, .int (Int32.ofInt (b + 1)))]) (List.forall_mem_cons.mpr ⟨(List.Mem.tail _ (List.Mem.head _)), (List.forall_mem_cons.mpr ⟨(List.Mem.tail _ (List.Mem.tail _ (List.Mem.head _))), (List.forall_mem_cons.mpr ⟨(List.Mem.tail _ (List.Mem.tail _ (List.Mem.tail _ (List.Mem.head _)))), (List.forall_mem_cons.mpr ⟨(List.Mem.head _), (fun q h => absurd h List.not_mem_nil)⟩)⟩)⟩)⟩) ?_
              exact ih _ xv a (b + 1) Is1017 Gs1017 JRLx_s1017 JNQ_s1017 (by first | exact ⟨And.intro (hi.1.1) (hi.1.2), hi.2.1, oq_a618c864 ws1017_90 hi.2.2.1 ws1011_90, oq_1e1a2df6 hi.2.2.2.1, oq_4dae995e g1003 b1002.2⟩ | omega) (by first | exact qk_me hm (by decide) (oq_b575e8c1 g1003 b1002.2) | omega) kx
            ·
              refine z_const X (show cdA 245 80 = some (.iconst 1, 1, 0, 0, 0) from rfl) ?_
              exact w_iret X.1 q hRt (nar_ret (by first | exact Or.inr (by decide) | omega)) (ax_d X (show cdA 245 81 = some (.ireturn, 1, 0, 0, 0) from rfl)) (Nat.zero_le _) (Nat.zero_le _) ⟨_, rfl, Is1017, Gs1017, JRLx_s1017, 1, rfl, (by decide), by first | exact Or.inr (by decide) | omega⟩
  have L7 : ∀ (n : Nat) (t : PS) (xv a : Int), Bd t → Fm [] [202, 204, 205, 206, 207, 208, 209, 210, 211, 212, 213, 214, 215, 216, 217, 218, 219, 220, 221, 222, 223, 224, 225, 226, 227, 203] s t → RLx t → (NQ t) → ((0 ≤ xv ∧ xv ≤ 127) ∧ 0 ≤ a ∧ a ≤ 12) → (12 - a : Int).toNat < n → (∀ (t' : PS) (a' : Int), Bd t' → Fm [] [202, 204, 205, 206, 207, 208, 209, 210, 211, 212, 213, 214, 215, 216, 217, 218, 219, 220, 221, 222, 223, 224, 225, 226, 227, 203] s t' → RLx t' → (NQ t') → ((0 ≤ xv ∧ xv ≤ 127) ∧ 0 ≤ a' ∧ a' ≤ 12) → WS k 94 [(0, .ref (A 179)), (1, .int (Int32.ofInt xv)), (2, .int (Int32.ofInt a'))] [] (Wd A dT t') 0 0) → WS k 7 [(0, .ref (A 179)), (1, .int (Int32.ofInt xv)), (2, .int (Int32.ofInt a))] [] (Wd A dT t) 0 0 := by
    intro n
    induction n with
    | zero =>
      intro t xv a I F jjRLx hq hi hm kx
      exact absurd hm (Nat.not_lt_zero _)
    | succ n ih =>
      intro t xv a I F jjRLx hq hi hm kx
      have b2001 : (0 : Int) ≤ iI t 90 ∧ iI t 90 ≤ 12 := I.1 90
      refine z_load_n X (x := a) (show cdA 245 7 = some (.iload_n 2, 1, 0, 0, 0) from rfl) (List.Mem.tail _ (List.Mem.tail _ (List.Mem.head _))) ?_
      refine z_aload_n X (x := A 179) (show cdA 245 8 = some (.aload_n 0, 1, 0, 0, 0) from rfl) (List.Mem.head _) ?_
      refine z_getI X 179 (show cdA 245 9 = some (.getfield 233, 3, 12, 22, 0) from rfl) (by decide) rfl rfl ?_
      have b2002 : (0 : Int) ≤ iI t 90 ∧ iI t 90 ≤ 12 := I.1 90
      refine z_icmp_ge X (t := 94) (show cdA 245 12 = some (.if_icmp .ge 82, 3, 3, 0, 0) from rfl) (by decide) ⟨by first | exact oq_fa4e5087 hi.2.1 | omega, by first | exact oq_78843a64 hi.2.2 | omega⟩ (rng_to _) (fun g2003 => ?_) (fun g2003 => ?_)
      ·
        refine WS_lv (lv := [(0, .ref (A 179)), (1, .int (Int32.ofInt xv)), (2, .int (Int32.ofInt a))]) (List.forall_mem_cons.mpr ⟨(List.Mem.head _), (List.forall_mem_cons.mpr ⟨(List.Mem.tail _ (List.Mem.head _)), (List.forall_mem_cons.mpr ⟨(List.Mem.tail _ (List.Mem.tail _ (List.Mem.head _))), (fun q h => absurd h List.not_mem_nil)⟩)⟩)⟩) ?_
        exact kx _ a I F jjRLx hq (by first | exact ⟨And.intro (hi.1.1) (hi.1.2), hi.2.1, hi.2.2⟩ | omega)
      ·
        refine z_load_n X (x := a) (show cdA 245 15 = some (.iload_n 2, 1, 0, 0, 0) from rfl) (List.Mem.tail _ (List.Mem.tail _ (List.Mem.head _))) ?_
        refine z_const X (show cdA 245 16 = some (.iconst 1, 1, 0, 0, 0) from rfl) ?_
        refine z_add X (show cdA 245 17 = some (.iadd, 1, 0, 0, 0) from rfl) ?_
        refine z_store_n X (lv' := [(3, .int (Int32.ofInt (a + 1))), (0, .ref (A 179)), (1, .int (Int32.ofInt xv)), (2, .int (Int32.ofInt a))]) (show cdA 245 18 = some (.istore_n 3, 1, 0, 0, 0) from rfl) (by decide) (fun _ h => h) ?_
        refine WS_lv (lv := [(0, .ref (A 179)), (1, .int (Int32.ofInt xv)), (2, .int (Int32.ofInt a)), (3, .int (Int32.ofInt (a + 1)))]) (List.forall_mem_cons.mpr ⟨(List.Mem.tail _ (List.Mem.head _)), (List.forall_mem_cons.mpr ⟨(List.Mem.tail _ (List.Mem.tail _ (List.Mem.head _))), (List.forall_mem_cons.mpr ⟨(List.Mem.tail _ (List.Mem.tail _ (List.Mem.tail _ (List.Mem.head _)))), (List.forall_mem_cons.mpr ⟨(List.Mem.head _), (fun q h => absurd h List.not_mem_nil)⟩)⟩)⟩)⟩) ?_
        refine L19 ((12 - (a + 1) : Int).toNat + 1) t xv a (a + 1) I F jjRLx hq (by first | exact ⟨And.intro (hi.1.1) (hi.1.2), hi.2.1, g2003, oq_b15b052d hi.2.1, oq_4dae995e g2003 b2002.2⟩ | omega) (Nat.lt_succ_self _) ?_
        intro s2004 x2005 Is2004 Fs2004 JRLx_s2004 Qs2004 hs2004
        have b2006 : (0 : Int) ≤ iI s2004 90 ∧ iI s2004 90 ≤ 12 := Is2004.1 90
        refine z_inc X (x := a) (lv' := [(2, .int (Int32.ofInt (a + 1))), (0, .ref (A 179)), (1, .int (Int32.ofInt xv)), (3, .int (Int32.ofInt x2005))]) (show cdA 245 88 = some (.iinc 2 1, 3, 0, 0, 0) from rfl) (by decide) (List.Mem.tail _ (List.Mem.tail _ (List.Mem.head _))) (fun _ h => h) ?_
        refine z_goto X (t := 7) (show cdA 245 91 = some (.goto (-84), 3, 0, 0, 0) from rfl) (by decide) ?_
        refine WS_lv (lv := [(0, .ref (A 179)), (1, .int (Int32.ofInt xv)), (2, .int (Int32.ofInt (a + 1)))]) (List.forall_mem_cons.mpr ⟨(List.Mem.tail _ (List.Mem.head _)), (List.forall_mem_cons.mpr ⟨(List.Mem.tail _ (List.Mem.tail _ (List.Mem.head _))), (List.forall_mem_cons.mpr ⟨(List.Mem.head _), (fun q h => absurd h List.not_mem_nil)⟩)⟩)⟩) ?_
        exact ih _ xv (a + 1) Is2004 Fs2004 JRLx_s2004 Qs2004 (by first | exact ⟨And.intro (hs2004.1.1) (hs2004.1.2), oq_54f49eb5 hs2004.2.1, oq_4dae995e hs2004.2.2.1 b2006.2⟩ | omega) (by first | exact qk_me hm (by decide) (oq_b575e8c1 hs2004.2.2.1 b2006.2) | omega) kx
  refine z_aload_n X (x := A 179) (show cdA 245 0 = some (.aload_n 0, 1, 0, 0, 0) from rfl) (List.Mem.head _) ?_
  refine z_const X (show cdA 245 1 = some (.iconst 0, 1, 0, 0, 0) from rfl) ?_
  refine z_callV X 179 (rm := rmN 222) (As := [.int (Int32.ofInt 0)]) (st := []) (show cdA 245 2 = some (.invokevirtual 333, 3, 222, 0, 0) from rfl) rfl (by decide) rfl (by rw [E.1, E.2.1, E.2.2.1]; exact k_asTold G I jRLx (by first | exact ⟨by decide, by decide⟩ | omega)) ⟨by rw [E.2.2.2]; exact (show (rmN 222).frames + 1 ≤ (rmN 245).frames by decide), by rw [E.2.2.2]; exact (show 8 + (mNL (miB 222) + 11) + (rmN 222).locals ≤ (rmN 245).locals by decide), by rw [E.2.2.2]; exact (show 0 + (rmN 222).cells ≤ (rmN 245).cells by decide), by rw [E.2.2.2]; exact (show 0 + (rmN 222).slots ≤ (rmN 245).slots by decide)⟩ (Nat.le_of_ble_eq_true rfl) (fun vv s2 hq => ?_) (fun ee s2 hq => ?_)
  rotate_left
  · obtain ⟨Is2, Fs2, JRLx_s2, JNQ_s2, hv, hps2⟩ := hq; cases hv
  obtain ⟨Is2, Fs2, JRLx_s2, JNQ_s2, hv, hps2⟩ := hq
  cases hv
  have Gs2 := fm_ts F Fs2 (by decide) (by decide)
  have JRLx_s2 : RLx s2 := RLx_fm Fs2 (by decide) jRLx
  have ws2_90 : iI s2 90 = iI s 90 := fm_i Fs2 (by decide)
  show WS k 5 [(0, .ref (A 179)), (1, .int (Int32.ofInt x))] [] (Wd A dT s2) 0 0
  refine z_const X (show cdA 245 5 = some (.iconst 0, 1, 0, 0, 0) from rfl) ?_
  refine z_store_n X (lv' := [(2, .int (Int32.ofInt 0)), (0, .ref (A 179)), (1, .int (Int32.ofInt x))]) (show cdA 245 6 = some (.istore_n 2, 1, 0, 0, 0) from rfl) (by decide) (fun _ h => h) ?_
  refine WS_lv (lv := [(0, .ref (A 179)), (1, .int (Int32.ofInt x)), (2, .int (Int32.ofInt 0))]) (List.forall_mem_cons.mpr ⟨(List.Mem.tail _ (List.Mem.head _)), (List.forall_mem_cons.mpr ⟨(List.Mem.tail _ (List.Mem.tail _ (List.Mem.head _))), (List.forall_mem_cons.mpr ⟨(List.Mem.head _), (fun q h => absurd h List.not_mem_nil)⟩)⟩)⟩) ?_
  refine L7 ((12 - 0 : Int).toNat + 1) s2 x 0 Is2 Gs2 JRLx_s2 JNQ_s2 (by first | exact ⟨And.intro (p0.1) (p0.2), by decide, by decide⟩ | omega) (Nat.lt_succ_self _) ?_
  intro s4 x5 Is4 Fs4 JRLx_s4 Qs4 hs4
  have b6 : (0 : Int) ≤ iI s4 90 ∧ iI s4 90 ≤ 12 := Is4.1 90
  refine z_const X (show cdA 245 94 = some (.iconst 0, 1, 0, 0, 0) from rfl) ?_
  exact w_iret X.1 q hRt (nar_ret (by first | exact Or.inl (by decide) | omega)) (ax_d X (show cdA 245 95 = some (.ireturn, 1, 0, 0, 0) from rfl)) (Nat.zero_le _) (Nat.zero_le _) ⟨_, rfl, Is4, Fs4, JRLx_s4, 0, rfl, (by decide), by first | exact Or.inl (by decide) | omega⟩
set_option maxRecDepth 4000 in
theorem k_edge (G : GX l s0 D tys a0 dT) (I : Bd s) (jRLx : RLx s) {x : Int} (p0 : rng x) : CT l s0 D A dT 246 (rmN 246) [.ref (A 179), .int (Int32.ofInt x)] s (fun o t => Bd t ∧ Fm [73] [202, 204, 205, 206, 207, 208, 209, 210, 211, 212, 213, 214, 215, 216, 217, 218, 219, 220, 221, 222, 223, 224, 225, 226, 227, 203] s t ∧ RLx t ∧ ∃ e, o = .inl (some (.int (Int32.ofInt e))) ∧ rng e ∧ (True)) := by
  refine ct_of G (by decide) (Nat.le_of_ble_eq_true rfl) (fun k X E hRt hXt q => ?_)
  show WS k 0 [(0, .ref (A 179)), (1, .int (Int32.ofInt x))] [] _ 0 0
  have F : Fm [73] [202, 204, 205, 206, 207, 208, 209, 210, 211, 212, 213, 214, 215, 216, 217, 218, 219, 220, 221, 222, 223, 224, 225, 226, 227, 203] s s := fm_rf _ _ s
  have b1 : (0 : Int) ≤ iI s 73 ∧ iI s 73 ≤ 3 := I.1 73
  have L68 : ∀ (n : Nat) (t : PS) (xv nn c iz st0 : Int), Bd t → Fm [73] [202, 204, 205, 206, 207, 208, 209, 210, 211, 212, 213, 214, 215, 216, 217, 218, 219, 220, 221, 222, 223, 224, 225, 226, 227, 203] s t → RLx t → (rng xv ∧ (0 ≤ nn ∧ nn ≤ c) ∧ (0 ≤ c ∧ c ≤ 127) ∧ (iz = 0 ∨ iz = 1) ∧ 0 ≤ st0 ∧ st0 ≤ 6) → (6 - st0 : Int).toNat < n → (∀ (t' : PS) (iz' st0' : Int), Bd t' → Fm [73] [202, 204, 205, 206, 207, 208, 209, 210, 211, 212, 213, 214, 215, 216, 217, 218, 219, 220, 221, 222, 223, 224, 225, 226, 227, 203] s t' → RLx t' → (rng xv ∧ (0 ≤ nn ∧ nn ≤ c) ∧ (0 ≤ c ∧ c ≤ 127) ∧ (iz' = 0 ∨ iz' = 1) ∧ 0 ≤ st0' ∧ st0' ≤ 6) → WS k 118 [(0, .ref (A 179)), (1, .int (Int32.ofInt xv)), (2, .int (Int32.ofInt nn)), (3, .int (Int32.ofInt c)), (4, .int (Int32.ofInt iz')), (5, .int (Int32.ofInt st0'))] [] (Wd A dT t') 0 0) → WS k 68 [(0, .ref (A 179)), (1, .int (Int32.ofInt xv)), (2, .int (Int32.ofInt nn)), (3, .int (Int32.ofInt c)), (4, .int (Int32.ofInt iz)), (5, .int (Int32.ofInt st0))] [] (Wd A dT t) 0 0 := by
    intro n
    induction n with
    | zero =>
      intro t xv nn c iz st0 I F jjRLx hi hm kx
      exact absurd hm (Nat.not_lt_zero _)
    | succ n ih =>
      intro t xv nn c iz st0 I F jjRLx hi hm kx
      have b1001 : (0 : Int) ≤ iI t 73 ∧ iI t 73 ≤ 3 := I.1 73
      refine z_load X (x := st0) (show cdA 246 68 = some (.iload 5, 2, 0, 0, 0) from rfl) (List.Mem.tail _ (List.Mem.tail _ (List.Mem.tail _ (List.Mem.tail _ (List.Mem.tail _ (List.Mem.head _)))))) ?_
      refine z_bipush X (show cdA 246 70 = some (.bipush 6, 2, 0, 0, 6) from rfl) ?_
      refine z_icmp_ge X (t := 118) (show cdA 246 72 = some (.if_icmp .ge 46, 3, 3, 0, 0) from rfl) (by decide) ⟨by first | exact oq_fa4e5087 hi.2.2.2.2.1 | omega, by first | exact oq_b301c3bf hi.2.2.2.2.2 | omega⟩ (by decide) (fun g1002 => ?_) (fun g1002 => ?_)
      ·
        refine WS_lv (lv := [(0, .ref (A 179)), (1, .int (Int32.ofInt xv)), (2, .int (Int32.ofInt nn)), (3, .int (Int32.ofInt c)), (4, .int (Int32.ofInt iz)), (5, .int (Int32.ofInt st0))]) (List.forall_mem_cons.mpr ⟨(List.Mem.head _), (List.forall_mem_cons.mpr ⟨(List.Mem.tail _ (List.Mem.head _)), (List.forall_mem_cons.mpr ⟨(List.Mem.tail _ (List.Mem.tail _ (List.Mem.head _))), (List.forall_mem_cons.mpr ⟨(List.Mem.tail _ (List.Mem.tail _ (List.Mem.tail _ (List.Mem.head _)))), (List.forall_mem_cons.mpr ⟨(List.Mem.tail _ (List.Mem.tail _ (List.Mem.tail _ (List.Mem.tail _ (List.Mem.head _))))), (List.forall_mem_cons.mpr ⟨(List.Mem.tail _ (List.Mem.tail _ (List.Mem.tail _ (List.Mem.tail _ (List.Mem.tail _ (List.Mem.head _)))))), (fun q h => absurd h List.not_mem_nil)⟩)⟩)⟩)⟩)⟩)⟩) ?_
        exact kx _ iz st0 I F jjRLx (by first | exact ⟨And.intro (hi.1.1) (hi.1.2), And.intro (hi.2.1.1) (hi.2.1.2), And.intro (hi.2.2.1.1) (hi.2.2.1.2), hi.2.2.2.1, hi.2.2.2.2.1, hi.2.2.2.2.2⟩ | omega)
      ·
        refine z_load X (x := iz) (show cdA 246 75 = some (.iload 4, 2, 0, 0, 0) from rfl) (List.Mem.tail _ (List.Mem.tail _ (List.Mem.tail _ (List.Mem.tail _ (List.Mem.head _))))) ?_
        refine z_if_ne X (t := 105) (show cdA 246 77 = some (.ifCond .ne 28, 3, 1, 0, 0) from rfl) (by decide) ⟨by first | exact oq_bde653e9 hi.2.2.2.1 | omega, by first | exact oq_4ad2cb8b hi.2.2.2.1 | omega⟩ (fun g1003 => ?_) (fun g1003 => ?_)
        ·
          refine z_const X (show cdA 246 105 = some (.iconst 1, 1, 0, 0, 0) from rfl) ?_
          refine z_goto X (t := 110) (show cdA 246 106 = some (.goto 4, 3, 0, 0, 0) from rfl) (by decide) ?_
          refine z_store X (lv' := [(4, .int (Int32.ofInt 1)), (0, .ref (A 179)), (1, .int (Int32.ofInt xv)), (2, .int (Int32.ofInt nn)), (3, .int (Int32.ofInt c)), (5, .int (Int32.ofInt st0))]) (show cdA 246 110 = some (.istore 4, 2, 0, 0, 0) from rfl) (by decide) (fun _ h => h) ?_
          refine z_inc X (x := st0) (lv' := [(5, .int (Int32.ofInt (st0 + 1))), (4, .int (Int32.ofInt 1)), (0, .ref (A 179)), (1, .int (Int32.ofInt xv)), (2, .int (Int32.ofInt nn)), (3, .int (Int32.ofInt c))]) (show cdA 246 112 = some (.iinc 5 1, 3, 0, 0, 0) from rfl) (by decide) (List.Mem.tail _ (List.Mem.tail _ (List.Mem.tail _ (List.Mem.tail _ (List.Mem.tail _ (List.Mem.head _)))))) (fun _ h => h) ?_
          refine z_goto X (t := 68) (show cdA 246 115 = some (.goto (-47), 3, 0, 0, 0) from rfl) (by decide) ?_
          refine WS_lv (lv := [(0, .ref (A 179)), (1, .int (Int32.ofInt xv)), (2, .int (Int32.ofInt nn)), (3, .int (Int32.ofInt c)), (4, .int (Int32.ofInt 1)), (5, .int (Int32.ofInt (st0 + 1)))]) (List.forall_mem_cons.mpr ⟨(List.Mem.tail _ (List.Mem.tail _ (List.Mem.head _))), (List.forall_mem_cons.mpr ⟨(List.Mem.tail _ (List.Mem.tail _ (List.Mem.tail _ (List.Mem.head _)))), (List.forall_mem_cons.mpr ⟨(List.Mem.tail _ (List.Mem.tail _ (List.Mem.tail _ (List.Mem.tail _ (List.Mem.head _))))), (List.forall_mem_cons.mpr ⟨(List.Mem.tail _ (List.Mem.tail _ (List.Mem.tail _ (List.Mem.tail _ (List.Mem.tail _ (List.Mem.head _)))))), (List.forall_mem_cons.mpr ⟨(List.Mem.tail _ (List.Mem.head _)), (List.forall_mem_cons.mpr ⟨(List.Mem.head _), (fun q h => absurd h List.not_mem_nil)⟩)⟩)⟩)⟩)⟩)⟩) ?_
          exact ih _ xv nn c 1 (st0 + 1) I F jjRLx (by first | exact ⟨And.intro (hi.1.1) (hi.1.2), And.intro (hi.2.1.1) (hi.2.1.2), And.intro (hi.2.2.1.1) (hi.2.2.1.2), Or.inr (by decide), oq_54f49eb5 hi.2.2.2.2.1, oq_5bf54478 g1002⟩ | omega) (by first | exact qk_me hm (by decide) (oq_2265a080 g1002) | omega) kx
        ·
          refine z_load_n X (x := c) (show cdA 246 80 = some (.iload_n 3, 1, 0, 0, 0) from rfl) (List.Mem.tail _ (List.Mem.tail _ (List.Mem.tail _ (List.Mem.head _)))) ?_
          refine z_load X (x := st0) (show cdA 246 81 = some (.iload 5, 2, 0, 0, 0) from rfl) (List.Mem.tail _ (List.Mem.tail _ (List.Mem.tail _ (List.Mem.tail _ (List.Mem.tail _ (List.Mem.head _)))))) ?_
          refine z_callS X (rm := rmN 190) (As := [.int (Int32.ofInt c), .int (Int32.ofInt st0)]) (st := []) (show cdA 246 83 = some (.invokestatic 223, 3, 190, 1, 0) from rfl) rfl (by rw [E.1, E.2.1, E.2.2.1]; exact k_beside G I (by first | exact ⟨hi.2.2.1.1, hi.2.2.1.2⟩ | omega) (by first | exact ⟨hi.2.2.2.2.1, oq_a4cef127 g1002⟩ | omega)) ⟨by rw [E.2.2.2]; exact (show (rmN 190).frames + 1 ≤ (rmN 246).frames by decide), by rw [E.2.2.2]; exact (show 8 + (mNL (miB 190) + 11) + (rmN 190).locals ≤ (rmN 246).locals by decide), by rw [E.2.2.2]; exact (show 0 + (rmN 190).cells ≤ (rmN 246).cells by decide), by rw [E.2.2.2]; exact (show 0 + (rmN 190).slots ≤ (rmN 246).slots by decide)⟩ (Nat.le_of_ble_eq_true rfl) (fun vv s1004 hq => ?_) (fun ee s1004 hq => ?_)
          rotate_left
          · obtain ⟨Is1004, Fs1004, e1005, hv, hrs1004, hps1004⟩ := hq; cases hv
          obtain ⟨Is1004, Fs1004, e1005, hv, hrs1004, hps1004⟩ := hq
          cases hv
          have Gs1004 := fm_ts F Fs1004 (by decide) (by decide)
          have JRLx_s1004 : RLx s1004 := RLx_fm Fs1004 (by decide) jjRLx
          have ws1004_73 : iI s1004 73 = iI t 73 := fm_i Fs1004 (by decide)
          show WS k 86 [(0, .ref (A 179)), (1, .int (Int32.ofInt xv)), (2, .int (Int32.ofInt nn)), (3, .int (Int32.ofInt c)), (4, .int (Int32.ofInt iz)), (5, .int (Int32.ofInt st0))] [.int (Int32.ofInt e1005)] (Wd A dT s1004) 0 0
          refine z_const X (show cdA 246 86 = some (.iconst (-1), 1, 0, 0, 0) from rfl) ?_
          refine z_icmp_eq X (t := 109) (show cdA 246 87 = some (.if_icmp .eq 22, 3, 0, 0, 0) from rfl) (by decide) hrs1004 (by decide) (fun g1006 => ?_) (fun g1006 => ?_)
          ·
            refine z_const X (show cdA 246 109 = some (.iconst 0, 1, 0, 0, 0) from rfl) ?_
            refine z_store X (lv' := [(4, .int (Int32.ofInt 0)), (0, .ref (A 179)), (1, .int (Int32.ofInt xv)), (2, .int (Int32.ofInt nn)), (3, .int (Int32.ofInt c)), (5, .int (Int32.ofInt st0))]) (show cdA 246 110 = some (.istore 4, 2, 0, 0, 0) from rfl) (by decide) (fun _ h => h) ?_
            refine z_inc X (x := st0) (lv' := [(5, .int (Int32.ofInt (st0 + 1))), (4, .int (Int32.ofInt 0)), (0, .ref (A 179)), (1, .int (Int32.ofInt xv)), (2, .int (Int32.ofInt nn)), (3, .int (Int32.ofInt c))]) (show cdA 246 112 = some (.iinc 5 1, 3, 0, 0, 0) from rfl) (by decide) (List.Mem.tail _ (List.Mem.tail _ (List.Mem.tail _ (List.Mem.tail _ (List.Mem.tail _ (List.Mem.head _)))))) (fun _ h => h) ?_
            refine z_goto X (t := 68) (show cdA 246 115 = some (.goto (-47), 3, 0, 0, 0) from rfl) (by decide) ?_
            refine WS_lv (lv := [(0, .ref (A 179)), (1, .int (Int32.ofInt xv)), (2, .int (Int32.ofInt nn)), (3, .int (Int32.ofInt c)), (4, .int (Int32.ofInt 0)), (5, .int (Int32.ofInt (st0 + 1)))]) (List.forall_mem_cons.mpr ⟨(List.Mem.tail _ (List.Mem.tail _ (List.Mem.head _))), (List.forall_mem_cons.mpr ⟨(List.Mem.tail _ (List.Mem.tail _ (List.Mem.tail _ (List.Mem.head _)))), (List.forall_mem_cons.mpr ⟨(List.Mem.tail _ (List.Mem.tail _ (List.Mem.tail _ (List.Mem.tail _ (List.Mem.head _))))), (List.forall_mem_cons.mpr ⟨(List.Mem.tail _ (List.Mem.tail _ (List.Mem.tail _ (List.Mem.tail _ (List.Mem.tail _ (List.Mem.head _)))))), (List.forall_mem_cons.mpr ⟨(List.Mem.tail _ (List.Mem.head _)), (List.forall_mem_cons.mpr ⟨(List.Mem.head _), (fun q h => absurd h List.not_mem_nil)⟩)⟩)⟩)⟩)⟩)⟩) ?_
            exact ih _ xv nn c 0 (st0 + 1) Is1004 Gs1004 JRLx_s1004 (by first | exact ⟨And.intro (hi.1.1) (hi.1.2), And.intro (hi.2.1.1) (hi.2.1.2), And.intro (hi.2.2.1.1) (hi.2.2.1.2), Or.inl (by decide), oq_54f49eb5 hi.2.2.2.2.1, oq_5bf54478 g1002⟩ | omega) (by first | exact qk_me hm (by decide) (oq_2265a080 g1002) | omega) kx
          ·
            refine z_aload_n X (x := A 179) (show cdA 246 90 = some (.aload_n 0, 1, 0, 0, 0) from rfl) (List.Mem.head _) ?_
            refine s_getR X 179 (show cdA 246 91 = some (.getfield 70, 3, 12, 35, 0) from rfl) (by decide) rfl rfl ?_
            refine z_load_n X (x := c) (show cdA 246 94 = some (.iload_n 3, 1, 0, 0, 0) from rfl) (List.Mem.tail _ (List.Mem.tail _ (List.Mem.tail _ (List.Mem.head _)))) ?_
            refine z_load X (x := st0) (show cdA 246 95 = some (.iload 5, 2, 0, 0, 0) from rfl) (List.Mem.tail _ (List.Mem.tail _ (List.Mem.tail _ (List.Mem.tail _ (List.Mem.tail _ (List.Mem.head _)))))) ?_
            refine z_callS X (rm := rmN 190) (As := [.int (Int32.ofInt c), .int (Int32.ofInt st0)]) (st := [.ref (A 256)]) (show cdA 246 97 = some (.invokestatic 223, 3, 190, 1, 0) from rfl) rfl (by rw [E.1, E.2.1, E.2.2.1]; exact k_beside G Is1004 (by first | exact ⟨hi.2.2.1.1, hi.2.2.1.2⟩ | omega) (by first | exact ⟨hi.2.2.2.2.1, oq_a4cef127 g1002⟩ | omega)) ⟨by rw [E.2.2.2]; exact (show (rmN 190).frames + 1 ≤ (rmN 246).frames by decide), by rw [E.2.2.2]; exact (show 8 + (mNL (miB 190) + 11) + (rmN 190).locals ≤ (rmN 246).locals by decide), by rw [E.2.2.2]; exact (show 0 + (rmN 190).cells ≤ (rmN 246).cells by decide), by rw [E.2.2.2]; exact (show 0 + (rmN 190).slots ≤ (rmN 246).slots by decide)⟩ (Nat.le_of_ble_eq_true rfl) (fun vv s1007 hq => ?_) (fun ee s1007 hq => ?_)
            rotate_left
            · obtain ⟨Is1007, Fs1007, e1008, hv, hrs1007, hps1007⟩ := hq; cases hv
            obtain ⟨Is1007, Fs1007, e1008, hv, hrs1007, hps1007⟩ := hq
            cases hv
            have Gs1007 := fm_ts Gs1004 Fs1007 (by decide) (by decide)
            have JRLx_s1007 : RLx s1007 := RLx_fm Fs1007 (by decide) JRLx_s1004
            have ws1007_73 : iI s1007 73 = iI s1004 73 := fm_i Fs1007 (by decide)
            show WS k 100 [(0, .ref (A 179)), (1, .int (Int32.ofInt xv)), (2, .int (Int32.ofInt nn)), (3, .int (Int32.ofInt c)), (4, .int (Int32.ofInt iz)), (5, .int (Int32.ofInt st0))] [.int (Int32.ofInt e1008), .ref (A 256)] (Wd A dT s1007) 0 0
            refine z_ald X 256 (show cdA 246 100 = some (.iaload, 1, 0, 0, 0) from rfl) (by decide) rfl (by first | exact oq_5ccab359 hps1007.1 g1006 hps1004.2.2 hps1004.2.1 hps1004.1 hi.2.2.1.1 | omega) (show e1008 < 128 by first | exact oq_31b2bf10 hps1007.2.2 | omega) (by decide) ?_
            have b1009 : ((-1) : Int) ≤ iC s1007 228 (e1008).toNat ∧ iC s1007 228 (e1008).toNat ≤ 7 := Is1007.2 228 _ (show (e1008).toNat < 128 by first | exact oq_c7f4e9c1 hps1007.2.2 | omega)
            refine z_load_n X (x := xv) (show cdA 246 101 = some (.iload_n 1, 1, 0, 0, 0) from rfl) (List.Mem.tail _ (List.Mem.head _)) ?_
            have N1010 : ∀ e1011 : Int, ((((iC s1007 228 (e1008).toNat) = xv) ∧ e1011 = 0) ∨ (((iC s1007 228 (e1008).toNat) ≠ xv) ∧ e1011 = 1)) → WS k 110 [(0, .ref (A 179)), (1, .int (Int32.ofInt xv)), (2, .int (Int32.ofInt nn)), (3, .int (Int32.ofInt c)), (4, .int (Int32.ofInt iz)), (5, .int (Int32.ofInt st0))] [.int (Int32.ofInt e1011)] (Wd A dT s1007) 0 0 := by
              intro e1011 he1011
              have re1011 : 0 ≤ e1011 ∧ e1011 ≤ 1 := by omega
              refine z_store X (lv' := [(4, .int (Int32.ofInt e1011)), (0, .ref (A 179)), (1, .int (Int32.ofInt xv)), (2, .int (Int32.ofInt nn)), (3, .int (Int32.ofInt c)), (5, .int (Int32.ofInt st0))]) (show cdA 246 110 = some (.istore 4, 2, 0, 0, 0) from rfl) (by decide) (fun _ h => h) ?_
              refine z_inc X (x := st0) (lv' := [(5, .int (Int32.ofInt (st0 + 1))), (4, .int (Int32.ofInt e1011)), (0, .ref (A 179)), (1, .int (Int32.ofInt xv)), (2, .int (Int32.ofInt nn)), (3, .int (Int32.ofInt c))]) (show cdA 246 112 = some (.iinc 5 1, 3, 0, 0, 0) from rfl) (by decide) (List.Mem.tail _ (List.Mem.tail _ (List.Mem.tail _ (List.Mem.tail _ (List.Mem.tail _ (List.Mem.head _)))))) (fun _ h => h) ?_
              refine z_goto X (t := 68) (show cdA 246 115 = some (.goto (-47), 3, 0, 0, 0) from rfl) (by decide) ?_
              refine WS_lv (lv := [(0, .ref (A 179)), (1, .int (Int32.ofInt xv)), (2, .int (Int32.ofInt nn)), (3, .int (Int32.ofInt c)), (4, .int (Int32.ofInt e1011)), (5, .int (Int32.ofInt (st0 + 1)))]) (List.forall_mem_cons.mpr ⟨(List.Mem.tail _ (List.Mem.tail _ (List.Mem.head _))), (List.forall_mem_cons.mpr ⟨(List.Mem.tail _ (List.Mem.tail _ (List.Mem.tail _ (List.Mem.head _)))), (List.forall_mem_cons.mpr ⟨(List.Mem.tail _ (List.Mem.tail _ (List.Mem.tail _ (List.Mem.tail _ (List.Mem.head _))))), (List.forall_mem_cons.mpr ⟨(List.Mem.tail _ (List.Mem.tail _ (List.Mem.tail _ (List.Mem.tail _ (List.Mem.tail _ (List.Mem.head _)))))), (List.forall_mem_cons.mpr ⟨(List.Mem.tail _ (List.Mem.head _)), (List.forall_mem_cons.mpr ⟨(List.Mem.head _), (fun q h => absurd h List.not_mem_nil)⟩)⟩)⟩)⟩)⟩)⟩) ?_
              exact ih _ xv nn c e1011 (st0 + 1) Is1007 Gs1007 JRLx_s1007 (by first | exact ⟨And.intro (hi.1.1) (hi.1.2), And.intro (hi.2.1.1) (hi.2.1.2), And.intro (hi.2.2.1.1) (hi.2.2.1.2), oq_31e518ae re1011.2 re1011.1, oq_54f49eb5 hi.2.2.2.2.1, oq_5bf54478 g1002⟩ | omega) (by first | exact qk_me hm (by decide) (oq_2265a080 g1002) | omega) kx
            refine z_icmp_eq X (t := 109) (show cdA 246 102 = some (.if_icmp .eq 7, 3, 0, 0, 0) from rfl) (by decide) (rng_to _) ⟨by first | exact hi.1.1 | omega, by first | exact hi.1.2 | omega⟩ (fun g1012 => ?_) (fun g1012 => ?_)
            ·
              refine z_const X (show cdA 246 109 = some (.iconst 0, 1, 0, 0, 0) from rfl) ?_
              exact N1010 _ (Or.inl ⟨g1012, rfl⟩)
            ·
              refine z_const X (show cdA 246 105 = some (.iconst 1, 1, 0, 0, 0) from rfl) ?_
              refine z_goto X (t := 110) (show cdA 246 106 = some (.goto 4, 3, 0, 0, 0) from rfl) (by decide) ?_
              exact N1010 _ (Or.inr (⟨g1012, rfl⟩))
  have L34 : ∀ (n : Nat) (t : PS) (xv nn c : Int), Bd t → Fm [73] [202, 204, 205, 206, 207, 208, 209, 210, 211, 212, 213, 214, 215, 216, 217, 218, 219, 220, 221, 222, 223, 224, 225, 226, 227, 203] s t → RLx t → (rng xv ∧ (0 ≤ nn ∧ nn ≤ c) ∧ c ≤ 128) → (128 - c : Int).toNat < n → (∀ (t' : PS) (nn' c' : Int), Bd t' → Fm [73] [202, 204, 205, 206, 207, 208, 209, 210, 211, 212, 213, 214, 215, 216, 217, 218, 219, 220, 221, 222, 223, 224, 225, 226, 227, 203] s t' → RLx t' → (rng xv ∧ (0 ≤ nn' ∧ nn' ≤ c') ∧ c' ≤ 128) → WS k 137 [(0, .ref (A 179)), (1, .int (Int32.ofInt xv)), (2, .int (Int32.ofInt nn')), (3, .int (Int32.ofInt c'))] [] (Wd A dT t') 0 0) → WS k 34 [(0, .ref (A 179)), (1, .int (Int32.ofInt xv)), (2, .int (Int32.ofInt nn)), (3, .int (Int32.ofInt c))] [] (Wd A dT t) 0 0 := by
    intro n
    induction n with
    | zero =>
      intro t xv nn c I F jjRLx hi hm kx
      exact absurd hm (Nat.not_lt_zero _)
    | succ n ih =>
      intro t xv nn c I F jjRLx hi hm kx
      have b2001 : (0 : Int) ≤ iI t 73 ∧ iI t 73 ≤ 3 := I.1 73
      refine z_load_n X (x := c) (show cdA 246 34 = some (.iload_n 3, 1, 0, 0, 0) from rfl) (List.Mem.tail _ (List.Mem.tail _ (List.Mem.tail _ (List.Mem.head _)))) ?_
      refine z_sipush X (show cdA 246 35 = some (.sipush 128, 3, 0, 0, 128) from rfl) ?_
      refine z_icmp_ge X (t := 137) (show cdA 246 38 = some (.if_icmp .ge 99, 3, 3, 0, 0) from rfl) (by decide) ⟨by first | exact oq_e001bc0d hi.2.1.2 hi.2.1.1 | omega, by first | exact oq_4ee82282 hi.2.2 | omega⟩ (by decide) (fun g2002 => ?_) (fun g2002 => ?_)
      ·
        refine WS_lv (lv := [(0, .ref (A 179)), (1, .int (Int32.ofInt xv)), (2, .int (Int32.ofInt nn)), (3, .int (Int32.ofInt c))]) (List.forall_mem_cons.mpr ⟨(List.Mem.head _), (List.forall_mem_cons.mpr ⟨(List.Mem.tail _ (List.Mem.head _)), (List.forall_mem_cons.mpr ⟨(List.Mem.tail _ (List.Mem.tail _ (List.Mem.head _))), (List.forall_mem_cons.mpr ⟨(List.Mem.tail _ (List.Mem.tail _ (List.Mem.tail _ (List.Mem.head _)))), (fun q h => absurd h List.not_mem_nil)⟩)⟩)⟩)⟩) ?_
        exact kx _ nn c I F jjRLx (by first | exact ⟨And.intro (hi.1.1) (hi.1.2), And.intro (hi.2.1.1) (hi.2.1.2), hi.2.2⟩ | omega)
      ·
        refine z_aload_n X (x := A 179) (show cdA 246 41 = some (.aload_n 0, 1, 0, 0, 0) from rfl) (List.Mem.head _) ?_
        refine s_getR X 179 (show cdA 246 42 = some (.getfield 70, 3, 12, 35, 0) from rfl) (by decide) rfl rfl ?_
        refine z_load_n X (x := c) (show cdA 246 45 = some (.iload_n 3, 1, 0, 0, 0) from rfl) (List.Mem.tail _ (List.Mem.tail _ (List.Mem.tail _ (List.Mem.head _)))) ?_
        refine z_ald X 256 (show cdA 246 46 = some (.iaload, 1, 0, 0, 0) from rfl) (by decide) rfl (by first | exact oq_12a1f9e1 hi.2.1.2 hi.2.1.1 | omega) (show c < 128 by first | exact g2002 | omega) (by decide) ?_
        have b2003 : ((-1) : Int) ≤ iC t 228 (c).toNat ∧ iC t 228 (c).toNat ≤ 7 := I.2 228 _ (show (c).toNat < 128 by first | exact oq_afb89947 g2002 | omega)
        refine z_load_n X (x := xv) (show cdA 246 47 = some (.iload_n 1, 1, 0, 0, 0) from rfl) (List.Mem.tail _ (List.Mem.head _)) ?_
        refine z_icmp_ne X (t := 131) (show cdA 246 48 = some (.if_icmp .ne 83, 3, 1, 0, 0) from rfl) (by decide) (rng_to _) ⟨by first | exact hi.1.1 | omega, by first | exact hi.1.2 | omega⟩ (fun g2004 => ?_) (fun g2004 => ?_)
        ·
          refine z_inc X (x := c) (lv' := [(3, .int (Int32.ofInt (c + 1))), (0, .ref (A 179)), (1, .int (Int32.ofInt xv)), (2, .int (Int32.ofInt nn))]) (show cdA 246 131 = some (.iinc 3 1, 3, 0, 0, 0) from rfl) (by decide) (List.Mem.tail _ (List.Mem.tail _ (List.Mem.tail _ (List.Mem.head _)))) (fun _ h => h) ?_
          refine z_goto X (t := 34) (show cdA 246 134 = some (.goto (-100), 3, 0, 0, 0) from rfl) (by decide) ?_
          refine WS_lv (lv := [(0, .ref (A 179)), (1, .int (Int32.ofInt xv)), (2, .int (Int32.ofInt nn)), (3, .int (Int32.ofInt (c + 1)))]) (List.forall_mem_cons.mpr ⟨(List.Mem.tail _ (List.Mem.head _)), (List.forall_mem_cons.mpr ⟨(List.Mem.tail _ (List.Mem.tail _ (List.Mem.head _))), (List.forall_mem_cons.mpr ⟨(List.Mem.tail _ (List.Mem.tail _ (List.Mem.tail _ (List.Mem.head _)))), (List.forall_mem_cons.mpr ⟨(List.Mem.head _), (fun q h => absurd h List.not_mem_nil)⟩)⟩)⟩)⟩) ?_
          exact ih _ xv nn (c + 1) I F jjRLx (by first | exact ⟨And.intro (hi.1.1) (hi.1.2), And.intro (hi.2.1.1) (oq_03182e9e hi.2.1.2), oq_d2afb425 g2002⟩ | omega) (by first | exact qk_me hm (by decide) (oq_c268b7bd g2002) | omega) kx
        ·
          refine z_aload_n X (x := A 179) (show cdA 246 51 = some (.aload_n 0, 1, 0, 0, 0) from rfl) (List.Mem.head _) ?_
          refine z_load_n X (x := c) (show cdA 246 52 = some (.iload_n 3, 1, 0, 0, 0) from rfl) (List.Mem.tail _ (List.Mem.tail _ (List.Mem.tail _ (List.Mem.head _)))) ?_
          refine z_callV X 179 (rm := rmN 245) (As := [.int (Int32.ofInt c)]) (st := []) (show cdA 246 53 = some (.invokevirtual 348, 3, 245, 0, 0) from rfl) rfl (by decide) rfl (by rw [E.1, E.2.1, E.2.2.1]; exact k_isCrossing G I jjRLx (by first | exact ⟨oq_12a1f9e1 hi.2.1.2 hi.2.1.1, oq_04367f15 g2002⟩ | omega)) ⟨by rw [E.2.2.2]; exact (show (rmN 245).frames + 1 ≤ (rmN 246).frames by decide), by rw [E.2.2.2]; exact (show 8 + (mNL (miB 245) + 11) + (rmN 245).locals ≤ (rmN 246).locals by decide), by rw [E.2.2.2]; exact (show 0 + (rmN 245).cells ≤ (rmN 246).cells by decide), by rw [E.2.2.2]; exact (show 0 + (rmN 245).slots ≤ (rmN 246).slots by decide)⟩ (Nat.le_of_ble_eq_true rfl) (fun vv s2005 hq => ?_) (fun ee s2005 hq => ?_)
          rotate_left
          · obtain ⟨Is2005, Fs2005, JRLx_s2005, e2006, hv, hrs2005, hps2005⟩ := hq; cases hv
          obtain ⟨Is2005, Fs2005, JRLx_s2005, e2006, hv, hrs2005, hps2005⟩ := hq
          cases hv
          have Gs2005 := fm_ts F Fs2005 (by decide) (by decide)
          have JRLx_s2005 : RLx s2005 := RLx_fm Fs2005 (by decide) jjRLx
          have ws2005_73 : iI s2005 73 = iI t 73 := fm_i Fs2005 (by decide)
          show WS k 56 [(0, .ref (A 179)), (1, .int (Int32.ofInt xv)), (2, .int (Int32.ofInt nn)), (3, .int (Int32.ofInt c))] [.int (Int32.ofInt e2006)] (Wd A dT s2005) 0 0
          refine z_if_ne X (t := 62) (show cdA 246 56 = some (.ifCond .ne 6, 3, 1, 0, 0) from rfl) (by decide) hrs2005 (fun g2007 => ?_) (fun g2007 => ?_)
          ·
            refine z_const X (show cdA 246 62 = some (.iconst 0, 1, 0, 0, 0) from rfl) ?_
            refine z_store X (lv' := [(4, .int (Int32.ofInt 0)), (0, .ref (A 179)), (1, .int (Int32.ofInt xv)), (2, .int (Int32.ofInt nn)), (3, .int (Int32.ofInt c))]) (show cdA 246 63 = some (.istore 4, 2, 0, 0, 0) from rfl) (by decide) (fun _ h => h) ?_
            refine z_const X (show cdA 246 65 = some (.iconst 0, 1, 0, 0, 0) from rfl) ?_
            refine z_store X (lv' := [(5, .int (Int32.ofInt 0)), (4, .int (Int32.ofInt 0)), (0, .ref (A 179)), (1, .int (Int32.ofInt xv)), (2, .int (Int32.ofInt nn)), (3, .int (Int32.ofInt c))]) (show cdA 246 66 = some (.istore 5, 2, 0, 0, 0) from rfl) (by decide) (fun _ h => h) ?_
            refine WS_lv (lv := [(0, .ref (A 179)), (1, .int (Int32.ofInt xv)), (2, .int (Int32.ofInt nn)), (3, .int (Int32.ofInt c)), (4, .int (Int32.ofInt 0)), (5, .int (Int32.ofInt 0))]) (List.forall_mem_cons.mpr ⟨(List.Mem.tail _ (List.Mem.tail _ (List.Mem.head _))), (List.forall_mem_cons.mpr ⟨(List.Mem.tail _ (List.Mem.tail _ (List.Mem.tail _ (List.Mem.head _)))), (List.forall_mem_cons.mpr ⟨(List.Mem.tail _ (List.Mem.tail _ (List.Mem.tail _ (List.Mem.tail _ (List.Mem.head _))))), (List.forall_mem_cons.mpr ⟨(List.Mem.tail _ (List.Mem.tail _ (List.Mem.tail _ (List.Mem.tail _ (List.Mem.tail _ (List.Mem.head _)))))), (List.forall_mem_cons.mpr ⟨(List.Mem.tail _ (List.Mem.head _)), (List.forall_mem_cons.mpr ⟨(List.Mem.head _), (fun q h => absurd h List.not_mem_nil)⟩)⟩)⟩)⟩)⟩)⟩) ?_
            refine L68 ((6 - 0 : Int).toNat + 1) s2005 xv nn c 0 0 Is2005 Gs2005 JRLx_s2005 (by first | exact ⟨And.intro (hi.1.1) (hi.1.2), And.intro (hi.2.1.1) (hi.2.1.2), And.intro (oq_12a1f9e1 hi.2.1.2 hi.2.1.1) (oq_04367f15 g2002), Or.inl (by decide), by decide, by decide⟩ | omega) (Nat.lt_succ_self _) ?_
            intro s2008 x2009 x2010 Is2008 Fs2008 JRLx_s2008 hs2008
            have b2011 : (0 : Int) ≤ iI s2008 73 ∧ iI s2008 73 ≤ 3 := Is2008.1 73
            refine z_load_n X (x := nn) (show cdA 246 118 = some (.iload_n 2, 1, 0, 0, 0) from rfl) (List.Mem.tail _ (List.Mem.tail _ (List.Mem.head _))) ?_
            refine z_load X (x := x2009) (show cdA 246 119 = some (.iload 4, 2, 0, 0, 0) from rfl) (List.Mem.tail _ (List.Mem.tail _ (List.Mem.tail _ (List.Mem.tail _ (List.Mem.head _))))) ?_
            have N2012 : ∀ e2013 : Int, (((x2009 = 0) ∧ e2013 = 0) ∨ ((x2009 ≠ 0) ∧ e2013 = 1)) → WS k 129 [(0, .ref (A 179)), (1, .int (Int32.ofInt xv)), (2, .int (Int32.ofInt nn)), (3, .int (Int32.ofInt c)), (4, .int (Int32.ofInt x2009)), (5, .int (Int32.ofInt x2010))] [.int (Int32.ofInt e2013), .int (Int32.ofInt nn)] (Wd A dT s2008) 0 0 := by
              intro e2013 he2013
              have re2013 : 0 ≤ e2013 ∧ e2013 ≤ 1 := by omega
              refine z_add X (show cdA 246 129 = some (.iadd, 1, 0, 0, 0) from rfl) ?_
              refine z_store_n X (lv' := [(2, .int (Int32.ofInt (nn + e2013))), (0, .ref (A 179)), (1, .int (Int32.ofInt xv)), (3, .int (Int32.ofInt c)), (4, .int (Int32.ofInt x2009)), (5, .int (Int32.ofInt x2010))]) (show cdA 246 130 = some (.istore_n 2, 1, 0, 0, 0) from rfl) (by decide) (fun _ h => h) ?_
              refine z_inc X (x := c) (lv' := [(3, .int (Int32.ofInt (c + 1))), (2, .int (Int32.ofInt (nn + e2013))), (0, .ref (A 179)), (1, .int (Int32.ofInt xv)), (4, .int (Int32.ofInt x2009)), (5, .int (Int32.ofInt x2010))]) (show cdA 246 131 = some (.iinc 3 1, 3, 0, 0, 0) from rfl) (by decide) (List.Mem.tail _ (List.Mem.tail _ (List.Mem.tail _ (List.Mem.head _)))) (fun _ h => h) ?_
              refine z_goto X (t := 34) (show cdA 246 134 = some (.goto (-100), 3, 0, 0, 0) from rfl) (by decide) ?_
              refine WS_lv (lv := [(0, .ref (A 179)), (1, .int (Int32.ofInt xv)), (2, .int (Int32.ofInt (nn + e2013))), (3, .int (Int32.ofInt (c + 1)))]) (List.forall_mem_cons.mpr ⟨(List.Mem.tail _ (List.Mem.tail _ (List.Mem.head _))), (List.forall_mem_cons.mpr ⟨(List.Mem.tail _ (List.Mem.tail _ (List.Mem.tail _ (List.Mem.head _)))), (List.forall_mem_cons.mpr ⟨(List.Mem.tail _ (List.Mem.head _)), (List.forall_mem_cons.mpr ⟨(List.Mem.head _), (fun q h => absurd h List.not_mem_nil)⟩)⟩)⟩)⟩) ?_
              exact ih _ xv (nn + e2013) (c + 1) Is2008 Fs2008 JRLx_s2008 (by first | exact ⟨And.intro (hs2008.1.1) (hs2008.1.2), And.intro (oq_d8d6a599 re2013.1 hs2008.2.1.1) (oq_5c09eddf re2013.2 hs2008.2.1.2), oq_e4399267 hs2008.2.2.1.2⟩ | omega) (by first | exact qk_me hm (by decide) (oq_7e05e720 hs2008.2.2.1.2) | omega) kx
            refine z_if_eq X (t := 128) (show cdA 246 121 = some (.ifCond .eq 7, 3, 0, 0, 0) from rfl) (by decide) ⟨by first | exact oq_bde653e9 hs2008.2.2.2.1 | omega, by first | exact oq_4ad2cb8b hs2008.2.2.2.1 | omega⟩ (fun g2014 => ?_) (fun g2014 => ?_)
            ·
              refine z_const X (show cdA 246 128 = some (.iconst 0, 1, 0, 0, 0) from rfl) ?_
              exact N2012 _ (Or.inl ⟨g2014, rfl⟩)
            ·
              refine z_const X (show cdA 246 124 = some (.iconst 1, 1, 0, 0, 0) from rfl) ?_
              refine z_goto X (t := 129) (show cdA 246 125 = some (.goto 4, 3, 0, 0, 0) from rfl) (by decide) ?_
              exact N2012 _ (Or.inr (⟨g2014, rfl⟩))
          ·
            refine z_goto X (t := 131) (show cdA 246 59 = some (.goto 72, 3, 0, 0, 0) from rfl) (by decide) ?_
            refine z_inc X (x := c) (lv' := [(3, .int (Int32.ofInt (c + 1))), (0, .ref (A 179)), (1, .int (Int32.ofInt xv)), (2, .int (Int32.ofInt nn))]) (show cdA 246 131 = some (.iinc 3 1, 3, 0, 0, 0) from rfl) (by decide) (List.Mem.tail _ (List.Mem.tail _ (List.Mem.tail _ (List.Mem.head _)))) (fun _ h => h) ?_
            refine z_goto X (t := 34) (show cdA 246 134 = some (.goto (-100), 3, 0, 0, 0) from rfl) (by decide) ?_
            refine WS_lv (lv := [(0, .ref (A 179)), (1, .int (Int32.ofInt xv)), (2, .int (Int32.ofInt nn)), (3, .int (Int32.ofInt (c + 1)))]) (List.forall_mem_cons.mpr ⟨(List.Mem.tail _ (List.Mem.head _)), (List.forall_mem_cons.mpr ⟨(List.Mem.tail _ (List.Mem.tail _ (List.Mem.head _))), (List.forall_mem_cons.mpr ⟨(List.Mem.tail _ (List.Mem.tail _ (List.Mem.tail _ (List.Mem.head _)))), (List.forall_mem_cons.mpr ⟨(List.Mem.head _), (fun q h => absurd h List.not_mem_nil)⟩)⟩)⟩)⟩) ?_
            exact ih _ xv nn (c + 1) Is2005 Gs2005 JRLx_s2005 (by first | exact ⟨And.intro (hi.1.1) (hi.1.2), And.intro (hi.2.1.1) (oq_03182e9e hi.2.1.2), oq_d2afb425 g2002⟩ | omega) (by first | exact qk_me hm (by decide) (oq_c268b7bd g2002) | omega) kx
  refine z_aload_n X (x := A 179) (show cdA 246 0 = some (.aload_n 0, 1, 0, 0, 0) from rfl) (List.Mem.head _) ?_
  refine z_const X (show cdA 246 1 = some (.iconst 0, 1, 0, 0, 0) from rfl) ?_
  refine s_putI X 179 (show cdA 246 2 = some (.putfield 172, 3, 12, 0, 0) from rfl) (by decide) rfl rfl (by decide) rfl rfl rfl ?_
  obtain ⟨s2, hs2⟩ : ∃ x0, x0 = uI s 73 (Int32.ofInt 0) := ⟨_, rfl⟩
  rw [← hs2]
  have Is2 : Bd s2 := by rw [hs2]; exact bd_I I (show (0 : Int) ≤ 0 ∧ 0 ≤ 3 by first | exact ⟨by decide, by decide⟩ | omega) (by decide)
  have Fs2 := fm_I (x := Int32.ofInt 0) F (show 73 ∈ _ by decide)
  rw [← hs2] at Fs2
  have vs2 : iI s2 73 = 0 := by rw [hs2]; exact iI_u (by decide)
  have fs2 : Fm [73] [] s s2 := by rw [hs2]; exact fm_I (fm_rf _ _ _) (show 73 ∈ _ by decide)
  have JRLx_s2 : RLx s2 := RLx_fm fs2 (by decide) jRLx
  refine z_aload_n X (x := A 179) (show cdA 246 5 = some (.aload_n 0, 1, 0, 0, 0) from rfl) (List.Mem.head _) ?_
  refine z_load_n X (x := x) (show cdA 246 6 = some (.iload_n 1, 1, 0, 0, 0) from rfl) (List.Mem.tail _ (List.Mem.head _)) ?_
  refine z_const X (show cdA 246 7 = some (.iconst 0, 1, 0, 0, 0) from rfl) ?_
  refine z_bipush X (show cdA 246 8 = some (.bipush 7, 2, 0, 0, 7) from rfl) ?_
  refine z_callS X (rm := rmN 188) (As := [.int (Int32.ofInt x), .int (Int32.ofInt 0), .int (Int32.ofInt 7)]) (st := [.ref (A 179)]) (show cdA 246 10 = some (.invokestatic 209, 3, 188, 1, 0) from rfl) rfl (by rw [E.1, E.2.1, E.2.2.1]; exact k_in G Is2 (by first | exact ⟨p0.1, p0.2⟩ | omega) (by first | exact ⟨by decide, by decide⟩ | omega) (by first | exact ⟨by decide, by decide⟩ | omega)) ⟨by rw [E.2.2.2]; exact (show (rmN 188).frames + 1 ≤ (rmN 246).frames by decide), by rw [E.2.2.2]; exact (show 8 + (mNL (miB 188) + 11) + (rmN 188).locals ≤ (rmN 246).locals by decide), by rw [E.2.2.2]; exact (show 0 + (rmN 188).cells ≤ (rmN 246).cells by decide), by rw [E.2.2.2]; exact (show 0 + (rmN 188).slots ≤ (rmN 246).slots by decide)⟩ (Nat.le_of_ble_eq_true rfl) (fun vv s3 hq => ?_) (fun ee s3 hq => ?_)
  rotate_left
  · obtain ⟨Is3, Fs3, e4, hv, hrs3, hps3⟩ := hq; cases hv
  obtain ⟨Is3, Fs3, e4, hv, hrs3, hps3⟩ := hq
  cases hv
  have Gs3 := fm_ts Fs2 Fs3 (by decide) (by decide)
  have JRLx_s3 : RLx s3 := RLx_fm Fs3 (by decide) JRLx_s2
  have ws3_73 : iI s3 73 = iI s2 73 := fm_i Fs3 (by decide)
  show WS k 13 [(0, .ref (A 179)), (1, .int (Int32.ofInt x))] [.int (Int32.ofInt e4), .ref (A 179)] (Wd A dT s3) 0 0
  have N5 : ∀ e6 : Int, (((e4 ≠ 0) ∧ e6 = 0) ∨ ((e4 = 0) ∧ e6 = 1)) → WS k 21 [(0, .ref (A 179)), (1, .int (Int32.ofInt x))] [.int (Int32.ofInt e6), .ref (A 179)] (Wd A dT s3) 0 0 := by
    intro e6 he6
    have re6 : 0 ≤ e6 ∧ e6 ≤ 1 := by omega
    refine z_const X (show cdA 246 21 = some (.iconst 1, 1, 0, 0, 0) from rfl) ?_
    refine z_callV X 179 (rm := rmN 187) (As := [.int (Int32.ofInt e6), .int (Int32.ofInt 1)]) (st := []) (show cdA 246 22 = some (.invokevirtual 229, 3, 187, 0, 0) from rfl) rfl (by decide) rfl (by rw [E.1, E.2.1, E.2.2.1]; exact k_bad G Is3 (by first | exact oq_31e518ae re6.2 re6.1 | omega) (by first | exact ⟨by decide, by decide⟩ | omega)) ⟨by rw [E.2.2.2]; exact (show (rmN 187).frames + 1 ≤ (rmN 246).frames by decide), by rw [E.2.2.2]; exact (show 8 + (mNL (miB 187) + 11) + (rmN 187).locals ≤ (rmN 246).locals by decide), by rw [E.2.2.2]; exact (show 0 + (rmN 187).cells ≤ (rmN 246).cells by decide), by rw [E.2.2.2]; exact (show 0 + (rmN 187).slots ≤ (rmN 246).slots by decide)⟩ (Nat.le_of_ble_eq_true rfl) (fun vv s7 hq => ?_) (fun ee s7 hq => ?_)
    rotate_left
    · obtain ⟨Is7, Fs7, e8, hv, hrs7, hps7⟩ := hq; cases hv
    obtain ⟨Is7, Fs7, e8, hv, hrs7, hps7⟩ := hq
    cases hv
    have Gs7 := fm_ts Gs3 Fs7 (by decide) (by decide)
    have JRLx_s7 : RLx s7 := RLx_fm Fs7 (by decide) JRLx_s3
    have b9 : (0 : Int) ≤ iI s7 73 ∧ iI s7 73 ≤ 3 := Is7.1 73
    show WS k 25 [(0, .ref (A 179)), (1, .int (Int32.ofInt x))] [.int (Int32.ofInt e8)] (Wd A dT s7) 0 0
    refine z_if_eq X (t := 30) (show cdA 246 25 = some (.ifCond .eq 5, 3, 0, 0, 0) from rfl) (by decide) hrs7 (fun g10 => ?_) (fun g10 => ?_)
    ·
      refine z_const X (show cdA 246 30 = some (.iconst 0, 1, 0, 0, 0) from rfl) ?_
      refine z_store_n X (lv' := [(2, .int (Int32.ofInt 0)), (0, .ref (A 179)), (1, .int (Int32.ofInt x))]) (show cdA 246 31 = some (.istore_n 2, 1, 0, 0, 0) from rfl) (by decide) (fun _ h => h) ?_
      refine z_const X (show cdA 246 32 = some (.iconst 0, 1, 0, 0, 0) from rfl) ?_
      refine z_store_n X (lv' := [(3, .int (Int32.ofInt 0)), (2, .int (Int32.ofInt 0)), (0, .ref (A 179)), (1, .int (Int32.ofInt x))]) (show cdA 246 33 = some (.istore_n 3, 1, 0, 0, 0) from rfl) (by decide) (fun _ h => h) ?_
      refine WS_lv (lv := [(0, .ref (A 179)), (1, .int (Int32.ofInt x)), (2, .int (Int32.ofInt 0)), (3, .int (Int32.ofInt 0))]) (List.forall_mem_cons.mpr ⟨(List.Mem.tail _ (List.Mem.tail _ (List.Mem.head _))), (List.forall_mem_cons.mpr ⟨(List.Mem.tail _ (List.Mem.tail _ (List.Mem.tail _ (List.Mem.head _)))), (List.forall_mem_cons.mpr ⟨(List.Mem.tail _ (List.Mem.head _)), (List.forall_mem_cons.mpr ⟨(List.Mem.head _), (fun q h => absurd h List.not_mem_nil)⟩)⟩)⟩)⟩) ?_
      refine L34 ((128 - 0 : Int).toNat + 1) s7 x 0 0 Is7 Gs7 JRLx_s7 (by first | exact ⟨And.intro (p0.1) (p0.2), And.intro (by decide) (by decide), by decide⟩ | omega) (Nat.lt_succ_self _) ?_
      intro s11 x12 x13 Is11 Fs11 JRLx_s11 hs11
      have b14 : (0 : Int) ≤ iI s11 73 ∧ iI s11 73 ≤ 3 := Is11.1 73
      refine z_load_n X (x := x12) (show cdA 246 137 = some (.iload_n 2, 1, 0, 0, 0) from rfl) (List.Mem.tail _ (List.Mem.tail _ (List.Mem.head _))) ?_
      exact w_iret X.1 q hRt rfl (ax_d X (show cdA 246 138 = some (.ireturn, 1, 0, 0, 0) from rfl)) (Nat.zero_le _) (Nat.zero_le _) ⟨_, rfl, Is11, Fs11, JRLx_s11, x12, rfl, ⟨by first | exact oq_fa4e5087 hs11.2.1.1 | omega, by first | exact oq_9eb6cd9c hs11.2.1.2 hs11.2.2 | omega⟩, trivial⟩
    ·
      refine z_const X (show cdA 246 28 = some (.iconst 0, 1, 0, 0, 0) from rfl) ?_
      exact w_iret X.1 q hRt rfl (ax_d X (show cdA 246 29 = some (.ireturn, 1, 0, 0, 0) from rfl)) (Nat.zero_le _) (Nat.zero_le _) ⟨_, rfl, Is7, Gs7, JRLx_s7, 0, rfl, (by decide), trivial⟩
  refine z_if_ne X (t := 20) (show cdA 246 13 = some (.ifCond .ne 7, 3, 1, 0, 0) from rfl) (by decide) hrs3 (fun g15 => ?_) (fun g15 => ?_)
  ·
    refine z_const X (show cdA 246 20 = some (.iconst 0, 1, 0, 0, 0) from rfl) ?_
    exact N5 _ (Or.inl ⟨g15, rfl⟩)
  ·
    refine z_const X (show cdA 246 16 = some (.iconst 1, 1, 0, 0, 0) from rfl) ?_
    refine z_goto X (t := 21) (show cdA 246 17 = some (.goto 4, 3, 0, 0, 0) from rfl) (by decide) ?_
    exact N5 _ (Or.inr (⟨g15, rfl⟩))
set_option maxRecDepth 4000 in
theorem k_holds (G : GX l s0 D tys a0 dT) (I : Bd s) (jRLx : RLx s)  : CT l s0 D A dT 247 (rmN 247) [.ref (A 179)] s (fun o t => Bd t ∧ Fm [73, 77, 75, 78, 79, 80, 81] [202, 204, 205, 206, 207, 208, 209, 210, 211, 212, 213, 214, 215, 216, 217, 218, 219, 220, 221, 222, 223, 224, 225, 226, 227, 203, 161, 230, 231, 232] s t ∧ RLx t ∧ ∃ e, o = .inl (some (.int (Int32.ofInt e))) ∧ rng e ∧ (True)) := by
  refine ct_of G (by decide) (Nat.le_of_ble_eq_true rfl) (fun k X E hRt hXt q => ?_)
  show WS k 0 [(0, .ref (A 179))] [] _ 0 0
  have F : Fm [73, 77, 75, 78, 79, 80, 81] [202, 204, 205, 206, 207, 208, 209, 210, 211, 212, 213, 214, 215, 216, 217, 218, 219, 220, 221, 222, 223, 224, 225, 226, 227, 203, 161, 230, 231, 232] s s := fm_rf _ _ s
  have L7 : ∀ (n : Nat) (t : PS) (p : Int), Bd t → Fm [73, 77, 75, 78, 79, 80, 81] [202, 204, 205, 206, 207, 208, 209, 210, 211, 212, 213, 214, 215, 216, 217, 218, 219, 220, 221, 222, 223, 224, 225, 226, 227, 203, 161, 230, 231, 232] s t → RLx t → (0 ≤ p ∧ p ≤ 8) → (8 - p : Int).toNat < n → (∀ (t' : PS) (p' : Int), Bd t' → Fm [73, 77, 75, 78, 79, 80, 81] [202, 204, 205, 206, 207, 208, 209, 210, 211, 212, 213, 214, 215, 216, 217, 218, 219, 220, 221, 222, 223, 224, 225, 226, 227, 203, 161, 230, 231, 232] s t' → RLx t' → (0 ≤ p' ∧ p' ≤ 8) → WS k 51 [(0, .ref (A 179)), (1, .int (Int32.ofInt p'))] [] (Wd A dT t') 0 0) → WS k 7 [(0, .ref (A 179)), (1, .int (Int32.ofInt p))] [] (Wd A dT t) 0 0 := by
    intro n
    induction n with
    | zero =>
      intro t p I F jjRLx hi hm kx
      exact absurd hm (Nat.not_lt_zero _)
    | succ n ih =>
      intro t p I F jjRLx hi hm kx
      refine z_load_n X (x := p) (show cdA 247 7 = some (.iload_n 1, 1, 0, 0, 0) from rfl) (List.Mem.tail _ (List.Mem.head _)) ?_
      refine z_bipush X (show cdA 247 8 = some (.bipush 8, 2, 0, 0, 8) from rfl) ?_
      refine z_icmp_ge X (t := 51) (show cdA 247 10 = some (.if_icmp .ge 41, 3, 3, 0, 0) from rfl) (by decide) ⟨by first | exact oq_fa4e5087 hi.1 | omega, by first | exact oq_d3f5d874 hi.2 | omega⟩ (by decide) (fun g1001 => ?_) (fun g1001 => ?_)
      ·
        refine WS_lv (lv := [(0, .ref (A 179)), (1, .int (Int32.ofInt p))]) (List.forall_mem_cons.mpr ⟨(List.Mem.head _), (List.forall_mem_cons.mpr ⟨(List.Mem.tail _ (List.Mem.head _)), (fun q h => absurd h List.not_mem_nil)⟩)⟩) ?_
        exact kx _ p I F jjRLx (by first | exact ⟨hi.1, hi.2⟩ | omega)
      ·
        refine z_aload_n X (x := A 179) (show cdA 247 13 = some (.aload_n 0, 1, 0, 0, 0) from rfl) (List.Mem.head _) ?_
        refine z_load_n X (x := p) (show cdA 247 14 = some (.iload_n 1, 1, 0, 0, 0) from rfl) (List.Mem.tail _ (List.Mem.head _)) ?_
        refine z_callV X 179 (rm := rmN 240) (As := [.int (Int32.ofInt p)]) (st := []) (show cdA 247 15 = some (.invokevirtual 342, 3, 240, 0, 0) from rfl) rfl (by decide) rfl (by rw [E.1, E.2.1, E.2.2.1]; exact k_isWhole G I (by first | exact ⟨oq_fa4e5087 hi.1, oq_7bea7075 g1001⟩ | omega)) ⟨by rw [E.2.2.2]; exact (show (rmN 240).frames + 1 ≤ (rmN 247).frames by decide), by rw [E.2.2.2]; exact (show 8 + (mNL (miB 240) + 11) + (rmN 240).locals ≤ (rmN 247).locals by decide), by rw [E.2.2.2]; exact (show 0 + (rmN 240).cells ≤ (rmN 247).cells by decide), by rw [E.2.2.2]; exact (show 0 + (rmN 240).slots ≤ (rmN 247).slots by decide)⟩ (Nat.le_of_ble_eq_true rfl) (fun vv s1002 hq => ?_) (fun ee s1002 hq => ?_)
        rotate_left
        · obtain ⟨Is1002, Fs1002, e1003, hv, hrs1002, hps1002⟩ := hq; cases hv
        obtain ⟨Is1002, Fs1002, e1003, hv, hrs1002, hps1002⟩ := hq
        cases hv
        have Gs1002 := fm_ts F Fs1002 (by decide) (by decide)
        have JRLx_s1002 : RLx s1002 := RLx_fm Fs1002 (by decide) jjRLx
        show WS k 18 [(0, .ref (A 179)), (1, .int (Int32.ofInt p))] [.int (Int32.ofInt e1003)] (Wd A dT s1002) 0 0
        refine z_if_eq X (t := 43) (show cdA 247 18 = some (.ifCond .eq 25, 3, 0, 0, 0) from rfl) (by decide) hrs1002 (fun g1004 => ?_) (fun g1004 => ?_)
        ·
          refine z_const X (show cdA 247 43 = some (.iconst 0, 1, 0, 0, 0) from rfl) ?_
          exact w_iret X.1 q hRt (nar_ret (by first | exact Or.inl (by decide) | omega)) (ax_d X (show cdA 247 44 = some (.ireturn, 1, 0, 0, 0) from rfl)) (Nat.zero_le _) (Nat.zero_le _) ⟨_, rfl, Is1002, Gs1002, JRLx_s1002, 0, rfl, (by decide), trivial⟩
        ·
          refine z_aload_n X (x := A 179) (show cdA 247 21 = some (.aload_n 0, 1, 0, 0, 0) from rfl) (List.Mem.head _) ?_
          refine z_load_n X (x := p) (show cdA 247 22 = some (.iload_n 1, 1, 0, 0, 0) from rfl) (List.Mem.tail _ (List.Mem.head _)) ?_
          refine z_callV X 179 (rm := rmN 233) (As := [.int (Int32.ofInt p)]) (st := []) (show cdA 247 23 = some (.invokevirtual 351, 3, 233, 0, 0) from rfl) rfl (by decide) rfl (by rw [E.1, E.2.1, E.2.2.1]; exact k_hasCells G Is1002 (by first | exact ⟨oq_fa4e5087 hi.1, oq_7bea7075 g1001⟩ | omega)) ⟨by rw [E.2.2.2]; exact (show (rmN 233).frames + 1 ≤ (rmN 247).frames by decide), by rw [E.2.2.2]; exact (show 8 + (mNL (miB 233) + 11) + (rmN 233).locals ≤ (rmN 247).locals by decide), by rw [E.2.2.2]; exact (show 0 + (rmN 233).cells ≤ (rmN 247).cells by decide), by rw [E.2.2.2]; exact (show 0 + (rmN 233).slots ≤ (rmN 247).slots by decide)⟩ (Nat.le_of_ble_eq_true rfl) (fun vv s1005 hq => ?_) (fun ee s1005 hq => ?_)
          rotate_left
          · obtain ⟨Is1005, Fs1005, e1006, hv, hrs1005, hps1005⟩ := hq; cases hv
          obtain ⟨Is1005, Fs1005, e1006, hv, hrs1005, hps1005⟩ := hq
          cases hv
          have Gs1005 := fm_ts Gs1002 Fs1005 (by decide) (by decide)
          have JRLx_s1005 : RLx s1005 := RLx_fm Fs1005 (by decide) JRLx_s1002
          show WS k 26 [(0, .ref (A 179)), (1, .int (Int32.ofInt p))] [.int (Int32.ofInt e1006)] (Wd A dT s1005) 0 0
          refine z_if_eq X (t := 45) (show cdA 247 26 = some (.ifCond .eq 19, 3, 0, 0, 0) from rfl) (by decide) hrs1005 (fun g1007 => ?_) (fun g1007 => ?_)
          ·
            refine z_inc X (x := p) (lv' := [(1, .int (Int32.ofInt (p + 1))), (0, .ref (A 179))]) (show cdA 247 45 = some (.iinc 1 1, 3, 0, 0, 0) from rfl) (by decide) (List.Mem.tail _ (List.Mem.head _)) (fun _ h => h) ?_
            refine z_goto X (t := 7) (show cdA 247 48 = some (.goto (-41), 3, 0, 0, 0) from rfl) (by decide) ?_
            refine WS_lv (lv := [(0, .ref (A 179)), (1, .int (Int32.ofInt (p + 1)))]) (List.forall_mem_cons.mpr ⟨(List.Mem.tail _ (List.Mem.head _)), (List.forall_mem_cons.mpr ⟨(List.Mem.head _), (fun q h => absurd h List.not_mem_nil)⟩)⟩) ?_
            exact ih _ (p + 1) Is1005 Gs1005 JRLx_s1005 (by first | exact ⟨oq_54f49eb5 hi.1, oq_0c7b19c3 g1001⟩ | omega) (by first | exact qk_me hm (by decide) (oq_9f368f35 g1001) | omega) kx
          ·
            refine z_aload_n X (x := A 179) (show cdA 247 29 = some (.aload_n 0, 1, 0, 0, 0) from rfl) (List.Mem.head _) ?_
            refine z_load_n X (x := p) (show cdA 247 30 = some (.iload_n 1, 1, 0, 0, 0) from rfl) (List.Mem.tail _ (List.Mem.head _)) ?_
            refine z_callV X 179 (rm := rmN 232) (As := [.int (Int32.ofInt p)]) (st := []) (show cdA 247 31 = some (.invokevirtual 336, 3, 232, 0, 0) from rfl) rfl (by decide) rfl (by rw [E.1, E.2.1, E.2.2.1]; exact k_peakOfPiece G Is1005 JRLx_s1005 (by first | exact ⟨oq_fa4e5087 hi.1, oq_7bea7075 g1001⟩ | omega)) ⟨by rw [E.2.2.2]; exact (show (rmN 232).frames + 1 ≤ (rmN 247).frames by decide), by rw [E.2.2.2]; exact (show 8 + (mNL (miB 232) + 11) + (rmN 232).locals ≤ (rmN 247).locals by decide), by rw [E.2.2.2]; exact (show 0 + (rmN 232).cells ≤ (rmN 247).cells by decide), by rw [E.2.2.2]; exact (show 0 + (rmN 232).slots ≤ (rmN 247).slots by decide)⟩ (Nat.le_of_ble_eq_true rfl) (fun vv s1008 hq => ?_) (fun ee s1008 hq => ?_)
            rotate_left
            · obtain ⟨Is1008, Fs1008, JRLx_s1008, e1009, hv, hrs1008, hps1008⟩ := hq; cases hv
            obtain ⟨Is1008, Fs1008, JRLx_s1008, e1009, hv, hrs1008, hps1008⟩ := hq
            cases hv
            have Gs1008 := fm_ts Gs1005 Fs1008 (by decide) (by decide)
            have JRLx_s1008 : RLx s1008 := RLx_fm Fs1008 (by decide) JRLx_s1005
            show WS k 34 [(0, .ref (A 179)), (1, .int (Int32.ofInt p))] [.int (Int32.ofInt e1009)] (Wd A dT s1008) 0 0
            refine z_aload_n X (x := A 179) (show cdA 247 34 = some (.aload_n 0, 1, 0, 0, 0) from rfl) (List.Mem.head _) ?_
            refine s_getR X 179 (show cdA 247 35 = some (.getfield 73, 3, 12, 36, 0) from rfl) (by decide) rfl rfl ?_
            refine z_load_n X (x := p) (show cdA 247 38 = some (.iload_n 1, 1, 0, 0, 0) from rfl) (List.Mem.tail _ (List.Mem.head _)) ?_
            refine z_ald X 257 (show cdA 247 39 = some (.iaload, 1, 0, 0, 0) from rfl) (by decide) rfl (by first | exact hi.1 | omega) (show p < 8 by first | exact g1001 | omega) (by decide) ?_
            have b1010 : (0 : Int) ≤ iC s1008 229 (p).toNat ∧ iC s1008 229 (p).toNat ≤ 9999 := Is1008.2 229 _ (show (p).toNat < 8 by first | exact oq_db4b3b8b g1001 | omega)
            refine z_icmp_le X (t := 45) (show cdA 247 40 = some (.if_icmp .le 5, 3, 5, 0, 0) from rfl) (by decide) hrs1008 (rng_to _) (fun g1011 => ?_) (fun g1011 => ?_)
            ·
              refine z_inc X (x := p) (lv' := [(1, .int (Int32.ofInt (p + 1))), (0, .ref (A 179))]) (show cdA 247 45 = some (.iinc 1 1, 3, 0, 0, 0) from rfl) (by decide) (List.Mem.tail _ (List.Mem.head _)) (fun _ h => h) ?_
              refine z_goto X (t := 7) (show cdA 247 48 = some (.goto (-41), 3, 0, 0, 0) from rfl) (by decide) ?_
              refine WS_lv (lv := [(0, .ref (A 179)), (1, .int (Int32.ofInt (p + 1)))]) (List.forall_mem_cons.mpr ⟨(List.Mem.tail _ (List.Mem.head _)), (List.forall_mem_cons.mpr ⟨(List.Mem.head _), (fun q h => absurd h List.not_mem_nil)⟩)⟩) ?_
              exact ih _ (p + 1) Is1008 Gs1008 JRLx_s1008 (by first | exact ⟨oq_54f49eb5 hi.1, oq_0c7b19c3 g1001⟩ | omega) (by first | exact qk_me hm (by decide) (oq_9f368f35 g1001) | omega) kx
            ·
              refine z_const X (show cdA 247 43 = some (.iconst 0, 1, 0, 0, 0) from rfl) ?_
              exact w_iret X.1 q hRt (nar_ret (by first | exact Or.inl (by decide) | omega)) (ax_d X (show cdA 247 44 = some (.ireturn, 1, 0, 0, 0) from rfl)) (Nat.zero_le _) (Nat.zero_le _) ⟨_, rfl, Is1008, Gs1008, JRLx_s1008, 0, rfl, (by decide), trivial⟩
  refine z_aload_n X (x := A 179) (show cdA 247 0 = some (.aload_n 0, 1, 0, 0, 0) from rfl) (List.Mem.head _) ?_
  refine z_const X (show cdA 247 1 = some (.iconst 0, 1, 0, 0, 0) from rfl) ?_
  refine s_putI X 179 (show cdA 247 2 = some (.putfield 172, 3, 12, 0, 0) from rfl) (by decide) rfl rfl (by decide) rfl rfl rfl ?_
  obtain ⟨s1, hs1⟩ : ∃ x0, x0 = uI s 73 (Int32.ofInt 0) := ⟨_, rfl⟩
  rw [← hs1]
  have Is1 : Bd s1 := by rw [hs1]; exact bd_I I (show (0 : Int) ≤ 0 ∧ 0 ≤ 3 by first | exact ⟨by decide, by decide⟩ | omega) (by decide)
  have Fs1 := fm_I (x := Int32.ofInt 0) F (show 73 ∈ _ by decide)
  rw [← hs1] at Fs1
  have vs1 : iI s1 73 = 0 := by rw [hs1]; exact iI_u (by decide)
  have fs1 : Fm [73] [] s s1 := by rw [hs1]; exact fm_I (fm_rf _ _ _) (show 73 ∈ _ by decide)
  have JRLx_s1 : RLx s1 := RLx_fm fs1 (by decide) jRLx
  refine z_const X (show cdA 247 5 = some (.iconst 0, 1, 0, 0, 0) from rfl) ?_
  refine z_store_n X (lv' := [(1, .int (Int32.ofInt 0)), (0, .ref (A 179))]) (show cdA 247 6 = some (.istore_n 1, 1, 0, 0, 0) from rfl) (by decide) (fun _ h => h) ?_
  refine WS_lv (lv := [(0, .ref (A 179)), (1, .int (Int32.ofInt 0))]) (List.forall_mem_cons.mpr ⟨(List.Mem.tail _ (List.Mem.head _)), (List.forall_mem_cons.mpr ⟨(List.Mem.head _), (fun q h => absurd h List.not_mem_nil)⟩)⟩) ?_
  refine L7 ((8 - 0 : Int).toNat + 1) s1 0 Is1 Fs1 JRLx_s1 (by first | exact ⟨by decide, by decide⟩ | omega) (Nat.lt_succ_self _) ?_
  intro s2 x3 Is2 Fs2 JRLx_s2 hs2
  refine z_const X (show cdA 247 51 = some (.iconst 1, 1, 0, 0, 0) from rfl) ?_
  exact w_iret X.1 q hRt (nar_ret (by first | exact Or.inr (by decide) | omega)) (ax_d X (show cdA 247 52 = some (.ireturn, 1, 0, 0, 0) from rfl)) (Nat.zero_le _) (Nat.zero_le _) ⟨_, rfl, Is2, Fs2, JRLx_s2, 1, rfl, (by decide), trivial⟩
set_option maxRecDepth 4000 in
theorem k_stepsCost (G : GX l s0 D tys a0 dT) (I : Bd s)  : CT l s0 D A dT 249 (rmN 249) [.ref (A 179)] s (fun o t => Bd t ∧ Fm [] [] s t ∧ ∃ e, o = .inl (some (.int (Int32.ofInt e))) ∧ rng e ∧ (True)) := by
  refine ct_of G (by decide) (Nat.le_of_ble_eq_true rfl) (fun k X E hRt hXt q => ?_)
  show WS k 0 [(0, .ref (A 179))] [] _ 0 0
  have F : Fm [] [] s s := fm_rf _ _ s
  have b1 : (0 : Int) ≤ iI s 90 ∧ iI s 90 ≤ 12 := I.1 90
  have L14 : ∀ (n : Nat) (t : PS) (nn a ka : Int), Bd t → Fm [] [] s t → (rng nn ∧ (0 ≤ a ∧ a ≤ 11) ∧ 1 ≤ ka ∧ ka ≤ 24) → (24 - ka : Int).toNat < n → (∀ (t' : PS) (nn' ka' : Int), Bd t' → Fm [] [] s t' → (rng nn' ∧ (0 ≤ a ∧ a ≤ 11) ∧ 1 ≤ ka' ∧ ka' ≤ 24) → WS k 87 [(0, .ref (A 179)), (1, .int (Int32.ofInt nn')), (2, .int (Int32.ofInt a)), (3, .int (Int32.ofInt ka'))] [] (Wd A dT t') 0 0) → WS k 14 [(0, .ref (A 179)), (1, .int (Int32.ofInt nn)), (2, .int (Int32.ofInt a)), (3, .int (Int32.ofInt ka))] [] (Wd A dT t) 0 0 := by
    intro n
    induction n with
    | zero =>
      intro t nn a ka I F hi hm kx
      exact absurd hm (Nat.not_lt_zero _)
    | succ n ih =>
      intro t nn a ka I F hi hm kx
      have b1001 : (0 : Int) ≤ iI t 90 ∧ iI t 90 ≤ 12 := I.1 90
      refine z_load_n X (x := ka) (show cdA 249 14 = some (.iload_n 3, 1, 0, 0, 0) from rfl) (List.Mem.tail _ (List.Mem.tail _ (List.Mem.tail _ (List.Mem.head _)))) ?_
      refine z_aload_n X (x := A 179) (show cdA 249 15 = some (.aload_n 0, 1, 0, 0, 0) from rfl) (List.Mem.head _) ?_
      refine s_getR X 179 (show cdA 249 16 = some (.getfield 35, 3, 12, 23, 0) from rfl) (by decide) rfl rfl ?_
      refine z_load_n X (x := a) (show cdA 249 19 = some (.iload_n 2, 1, 0, 0, 0) from rfl) (List.Mem.tail _ (List.Mem.tail _ (List.Mem.head _))) ?_
      refine z_ald X 185 (show cdA 249 20 = some (.iaload, 1, 0, 0, 0) from rfl) (by decide) rfl (by first | exact hi.2.1.1 | omega) (show a < 12 by first | exact oq_0ddfcfee hi.2.1.2 | omega) (by decide) ?_
      have b1002 : (0 : Int) ≤ iC t 162 (a).toNat ∧ iC t 162 (a).toNat ≤ 24 := I.2 162 _ (show (a).toNat < 12 by first | exact oq_9c5fa447 hi.2.1.2 | omega)
      refine z_icmp_ge X (t := 87) (show cdA 249 21 = some (.if_icmp .ge 66, 3, 3, 0, 0) from rfl) (by decide) ⟨by first | exact oq_9462313e hi.2.2.1 | omega, by first | exact oq_5bcd337f hi.2.2.2 | omega⟩ (rng_to _) (fun g1003 => ?_) (fun g1003 => ?_)
      ·
        refine WS_lv (lv := [(0, .ref (A 179)), (1, .int (Int32.ofInt nn)), (2, .int (Int32.ofInt a)), (3, .int (Int32.ofInt ka))]) (List.forall_mem_cons.mpr ⟨(List.Mem.head _), (List.forall_mem_cons.mpr ⟨(List.Mem.tail _ (List.Mem.head _)), (List.forall_mem_cons.mpr ⟨(List.Mem.tail _ (List.Mem.tail _ (List.Mem.head _))), (List.forall_mem_cons.mpr ⟨(List.Mem.tail _ (List.Mem.tail _ (List.Mem.tail _ (List.Mem.head _)))), (fun q h => absurd h List.not_mem_nil)⟩)⟩)⟩)⟩) ?_
        exact kx _ nn ka I F (by first | exact ⟨And.intro (hi.1.1) (hi.1.2), And.intro (hi.2.1.1) (hi.2.1.2), hi.2.2.1, hi.2.2.2⟩ | omega)
      ·
        refine z_aload_n X (x := A 179) (show cdA 249 24 = some (.aload_n 0, 1, 0, 0, 0) from rfl) (List.Mem.head _) ?_
        refine s_getR X 179 (show cdA 249 25 = some (.getfield 70, 3, 12, 35, 0) from rfl) (by decide) rfl rfl ?_
        refine z_aload_n X (x := A 179) (show cdA 249 28 = some (.aload_n 0, 1, 0, 0, 0) from rfl) (List.Mem.head _) ?_
        refine s_getR X 179 (show cdA 249 29 = some (.getfield 49, 3, 12, 28, 0) from rfl) (by decide) rfl rfl ?_
        refine z_load_n X (x := a) (show cdA 249 32 = some (.iload_n 2, 1, 0, 0, 0) from rfl) (List.Mem.tail _ (List.Mem.tail _ (List.Mem.head _))) ?_
        refine z_aald X rw_189 (show cdA 249 33 = some (.aaload, 1, 0, 0, 0) from rfl) (by first | exact hi.2.1.1 | omega) (show a < 12 by first | exact oq_0ddfcfee hi.2.1.2 | omega) (by decide) ?_
        refine z_load_n X (x := ka) (show cdA 249 34 = some (.iload_n 3, 1, 0, 0, 0) from rfl) (List.Mem.tail _ (List.Mem.tail _ (List.Mem.tail _ (List.Mem.head _)))) ?_
        refine z_const X (show cdA 249 35 = some (.iconst 1, 1, 0, 0, 0) from rfl) ?_
        refine z_sub X (show cdA 249 36 = some (.isub, 1, 0, 0, 0) from rfl) ?_
        refine z_ald2 X rw_189 (show cdA 249 37 = some (.iaload, 1, 0, 0, 0) from rfl) (show (a : Int).toNat < 12 by first | exact oq_9c5fa447 hi.2.1.2 | omega) (by first | exact oq_02aa5459 hi.2.2.1 | omega) (show (ka - 1) < 24 by first | exact oq_19cb6f5b hi.2.2.2 | omega) (by decide) ?_
        have b1004 : (0 : Int) ≤ (iC t (166 + (a : Int).toNat) ((ka - 1) : Int).toNat) ∧ (iC t (166 + (a : Int).toNat) ((ka - 1) : Int).toNat) ≤ 127 := rw_bd rw_189 I (show (a : Int).toNat < 12 by first | exact oq_9c5fa447 hi.2.1.2 | omega) (show ((ka - 1) : Int).toNat < 24 by first | exact oq_f976b25c hi.2.2.2 | omega)
        refine z_ald X 256 (show cdA 249 38 = some (.iaload, 1, 0, 0, 0) from rfl) (by decide) rfl (by first | exact b1004.1 | omega) (show (iC t (166 + (a : Int).toNat) ((ka - 1) : Int).toNat) < 128 by first | exact oq_31b2bf10 b1004.2 | omega) (by decide) ?_
        have b1005 : ((-1) : Int) ≤ iC t 228 ((iC t (166 + (a : Int).toNat) ((ka - 1) : Int).toNat)).toNat ∧ iC t 228 ((iC t (166 + (a : Int).toNat) ((ka - 1) : Int).toNat)).toNat ≤ 7 := I.2 228 _ (show ((iC t (166 + (a : Int).toNat) ((ka - 1) : Int).toNat)).toNat < 128 by first | exact oq_c7f4e9c1 b1004.2 | omega)
        refine z_store X (lv' := [(4, .int (Int32.ofInt (iC t 228 ((iC t (166 + (a : Int).toNat) ((ka - 1) : Int).toNat)).toNat))), (0, .ref (A 179)), (1, .int (Int32.ofInt nn)), (2, .int (Int32.ofInt a)), (3, .int (Int32.ofInt ka))]) (show cdA 249 39 = some (.istore 4, 2, 0, 0, 0) from rfl) (by decide) (fun _ h => h) ?_
        refine z_aload_n X (x := A 179) (show cdA 249 41 = some (.aload_n 0, 1, 0, 0, 0) from rfl) (List.Mem.tail _ (List.Mem.head _)) ?_
        refine s_getR X 179 (show cdA 249 42 = some (.getfield 70, 3, 12, 35, 0) from rfl) (by decide) rfl rfl ?_
        refine z_aload_n X (x := A 179) (show cdA 249 45 = some (.aload_n 0, 1, 0, 0, 0) from rfl) (List.Mem.tail _ (List.Mem.head _)) ?_
        refine s_getR X 179 (show cdA 249 46 = some (.getfield 49, 3, 12, 28, 0) from rfl) (by decide) rfl rfl ?_
        refine z_load_n X (x := a) (show cdA 249 49 = some (.iload_n 2, 1, 0, 0, 0) from rfl) (List.Mem.tail _ (List.Mem.tail _ (List.Mem.tail _ (List.Mem.head _)))) ?_
        refine z_aald X rw_189 (show cdA 249 50 = some (.aaload, 1, 0, 0, 0) from rfl) (by first | exact hi.2.1.1 | omega) (show a < 12 by first | exact oq_0ddfcfee hi.2.1.2 | omega) (by decide) ?_
        refine z_load_n X (x := ka) (show cdA 249 51 = some (.iload_n 3, 1, 0, 0, 0) from rfl) (List.Mem.tail _ (List.Mem.tail _ (List.Mem.tail _ (List.Mem.tail _ (List.Mem.head _))))) ?_
        refine z_ald2 X rw_189 (show cdA 249 52 = some (.iaload, 1, 0, 0, 0) from rfl) (show (a : Int).toNat < 12 by first | exact oq_9c5fa447 hi.2.1.2 | omega) (by first | exact oq_2a6e3b50 hi.2.2.1 | omega) (show ka < 24 by first | exact oq_8ff7beb9 g1003 b1002.2 | omega) (by decide) ?_
        have b1006 : (0 : Int) ≤ (iC t (166 + (a : Int).toNat) (ka : Int).toNat) ∧ (iC t (166 + (a : Int).toNat) (ka : Int).toNat) ≤ 127 := rw_bd rw_189 I (show (a : Int).toNat < 12 by first | exact oq_9c5fa447 hi.2.1.2 | omega) (show (ka : Int).toNat < 24 by first | exact oq_9e668fc9 g1003 b1002.2 | omega)
        refine z_ald X 256 (show cdA 249 53 = some (.iaload, 1, 0, 0, 0) from rfl) (by decide) rfl (by first | exact b1006.1 | omega) (show (iC t (166 + (a : Int).toNat) (ka : Int).toNat) < 128 by first | exact oq_31b2bf10 b1006.2 | omega) (by decide) ?_
        have b1007 : ((-1) : Int) ≤ iC t 228 ((iC t (166 + (a : Int).toNat) (ka : Int).toNat)).toNat ∧ iC t 228 ((iC t (166 + (a : Int).toNat) (ka : Int).toNat)).toNat ≤ 7 := I.2 228 _ (show ((iC t (166 + (a : Int).toNat) (ka : Int).toNat)).toNat < 128 by first | exact oq_c7f4e9c1 b1006.2 | omega)
        refine z_store X (lv' := [(5, .int (Int32.ofInt (iC t 228 ((iC t (166 + (a : Int).toNat) (ka : Int).toNat)).toNat))), (4, .int (Int32.ofInt (iC t 228 ((iC t (166 + (a : Int).toNat) ((ka - 1) : Int).toNat)).toNat))), (0, .ref (A 179)), (1, .int (Int32.ofInt nn)), (2, .int (Int32.ofInt a)), (3, .int (Int32.ofInt ka))]) (show cdA 249 54 = some (.istore 5, 2, 0, 0, 0) from rfl) (by decide) (fun _ h => h) ?_
        refine z_load_n X (x := nn) (show cdA 249 56 = some (.iload_n 1, 1, 0, 0, 0) from rfl) (List.Mem.tail _ (List.Mem.tail _ (List.Mem.tail _ (List.Mem.head _)))) ?_
        refine z_load X (x := (iC t 228 ((iC t (166 + (a : Int).toNat) ((ka - 1) : Int).toNat)).toNat)) (show cdA 249 57 = some (.iload 4, 2, 0, 0, 0) from rfl) (List.Mem.tail _ (List.Mem.head _)) ?_
        refine z_load X (x := (iC t 228 ((iC t (166 + (a : Int).toNat) (ka : Int).toNat)).toNat)) (show cdA 249 59 = some (.iload 5, 2, 0, 0, 0) from rfl) (List.Mem.head _) ?_
        refine z_icmp_ne X (t := 70) (show cdA 249 61 = some (.if_icmp .ne 9, 3, 1, 0, 0) from rfl) (by decide) (rng_to _) (rng_to _) (fun g1008 => ?_) (fun g1008 => ?_)
        ·
          refine z_aload_n X (x := A 179) (show cdA 249 70 = some (.aload_n 0, 1, 0, 0, 0) from rfl) (List.Mem.tail _ (List.Mem.tail _ (List.Mem.head _))) ?_
          refine z_load_n X (x := a) (show cdA 249 71 = some (.iload_n 2, 1, 0, 0, 0) from rfl) (List.Mem.tail _ (List.Mem.tail _ (List.Mem.tail _ (List.Mem.tail _ (List.Mem.head _))))) ?_
          refine z_callV X 179 (rm := rmN 248) (As := [.int (Int32.ofInt a)]) (st := [.int (Int32.ofInt nn)]) (show cdA 249 72 = some (.invokevirtual 354, 3, 248, 0, 0) from rfl) rfl (by decide) rfl (by rw [E.1, E.2.1, E.2.2.1]; exact k_total G I (by first | exact ⟨hi.2.1.1, hi.2.1.2⟩ | omega)) ⟨by rw [E.2.2.2]; exact (show (rmN 248).frames + 1 ≤ (rmN 249).frames by decide), by rw [E.2.2.2]; exact (show 8 + (mNL (miB 248) + 11) + (rmN 248).locals ≤ (rmN 249).locals by decide), by rw [E.2.2.2]; exact (show 0 + (rmN 248).cells ≤ (rmN 249).cells by decide), by rw [E.2.2.2]; exact (show 0 + (rmN 248).slots ≤ (rmN 249).slots by decide)⟩ (Nat.le_of_ble_eq_true rfl) (fun vv s1009 hq => ?_) (fun ee s1009 hq => ?_)
          rotate_left
          · obtain ⟨Is1009, Fs1009, e1010, hv, hrs1009, hps1009⟩ := hq; cases hv
          obtain ⟨Is1009, Fs1009, e1010, hv, hrs1009, hps1009⟩ := hq
          cases hv
          have Gs1009 := fm_ts F Fs1009 (by decide) (by decide)
          have ws1009_90 : iI s1009 90 = iI t 90 := fm_i Fs1009 (by decide)
          show WS k 75 [(5, .int (Int32.ofInt (iC t 228 ((iC t (166 + (a : Int).toNat) (ka : Int).toNat)).toNat))), (4, .int (Int32.ofInt (iC t 228 ((iC t (166 + (a : Int).toNat) ((ka - 1) : Int).toNat)).toNat))), (0, .ref (A 179)), (1, .int (Int32.ofInt nn)), (2, .int (Int32.ofInt a)), (3, .int (Int32.ofInt ka))] [.int (Int32.ofInt e1010), .int (Int32.ofInt nn)] (Wd A dT s1009) 0 0
          refine z_goto X (t := 79) (show cdA 249 75 = some (.goto 4, 3, 0, 0, 0) from rfl) (by decide) ?_
          refine z_add X (show cdA 249 79 = some (.iadd, 1, 0, 0, 0) from rfl) ?_
          refine z_any (fun y1011 hy1011 => ?_)
          refine z_store_n X (lv' := [(1, .int (Int32.ofInt y1011)), (5, .int (Int32.ofInt (iC t 228 ((iC t (166 + (a : Int).toNat) (ka : Int).toNat)).toNat))), (4, .int (Int32.ofInt (iC t 228 ((iC t (166 + (a : Int).toNat) ((ka - 1) : Int).toNat)).toNat))), (0, .ref (A 179)), (2, .int (Int32.ofInt a)), (3, .int (Int32.ofInt ka))]) (show cdA 249 80 = some (.istore_n 1, 1, 0, 0, 0) from rfl) (by decide) (fun _ h => h) ?_
          refine z_inc X (x := ka) (lv' := [(3, .int (Int32.ofInt (ka + 1))), (1, .int (Int32.ofInt y1011)), (5, .int (Int32.ofInt (iC t 228 ((iC t (166 + (a : Int).toNat) (ka : Int).toNat)).toNat))), (4, .int (Int32.ofInt (iC t 228 ((iC t (166 + (a : Int).toNat) ((ka - 1) : Int).toNat)).toNat))), (0, .ref (A 179)), (2, .int (Int32.ofInt a))]) (show cdA 249 81 = some (.iinc 3 1, 3, 0, 0, 0) from rfl) (by decide) (List.Mem.tail _ (List.Mem.tail _ (List.Mem.tail _ (List.Mem.tail _ (List.Mem.tail _ (List.Mem.head _)))))) (fun _ h => h) ?_
          refine z_goto X (t := 14) (show cdA 249 84 = some (.goto (-70), 3, 0, 0, 0) from rfl) (by decide) ?_
          refine WS_lv (lv := [(0, .ref (A 179)), (1, .int (Int32.ofInt y1011)), (2, .int (Int32.ofInt a)), (3, .int (Int32.ofInt (ka + 1)))]) (List.forall_mem_cons.mpr ⟨(List.Mem.tail _ (List.Mem.tail _ (List.Mem.tail _ (List.Mem.tail _ (List.Mem.head _))))), (List.forall_mem_cons.mpr ⟨(List.Mem.tail _ (List.Mem.head _)), (List.forall_mem_cons.mpr ⟨(List.Mem.tail _ (List.Mem.tail _ (List.Mem.tail _ (List.Mem.tail _ (List.Mem.tail _ (List.Mem.head _)))))), (List.forall_mem_cons.mpr ⟨(List.Mem.head _), (fun q h => absurd h List.not_mem_nil)⟩)⟩)⟩)⟩) ?_
          exact ih _ y1011 a (ka + 1) Is1009 Gs1009 (by first | exact ⟨And.intro (hy1011.1) (hy1011.2), And.intro (hi.2.1.1) (hi.2.1.2), oq_1e1a2df6 hi.2.2.1, oq_41473be0 g1003 b1002.2⟩ | omega) (by first | exact qk_me hm (by decide) (oq_9dea93e6 g1003 b1002.2) | omega) kx
        ·
          refine z_load X (x := (iC t 228 ((iC t (166 + (a : Int).toNat) ((ka - 1) : Int).toNat)).toNat)) (show cdA 249 64 = some (.iload 4, 2, 0, 0, 0) from rfl) (List.Mem.tail _ (List.Mem.head _)) ?_
          refine z_const X (show cdA 249 66 = some (.iconst (-1), 1, 0, 0, 0) from rfl) ?_
          refine z_icmp_ne X (t := 78) (show cdA 249 67 = some (.if_icmp .ne 11, 3, 1, 0, 0) from rfl) (by decide) (rng_to _) (by decide) (fun g1012 => ?_) (fun g1012 => ?_)
          ·
            refine z_const X (show cdA 249 78 = some (.iconst 0, 1, 0, 0, 0) from rfl) ?_
            refine z_add X (show cdA 249 79 = some (.iadd, 1, 0, 0, 0) from rfl) ?_
            refine z_any (fun y1013 hy1013 => ?_)
            refine z_store_n X (lv' := [(1, .int (Int32.ofInt y1013)), (5, .int (Int32.ofInt (iC t 228 ((iC t (166 + (a : Int).toNat) (ka : Int).toNat)).toNat))), (4, .int (Int32.ofInt (iC t 228 ((iC t (166 + (a : Int).toNat) ((ka - 1) : Int).toNat)).toNat))), (0, .ref (A 179)), (2, .int (Int32.ofInt a)), (3, .int (Int32.ofInt ka))]) (show cdA 249 80 = some (.istore_n 1, 1, 0, 0, 0) from rfl) (by decide) (fun _ h => h) ?_
            refine z_inc X (x := ka) (lv' := [(3, .int (Int32.ofInt (ka + 1))), (1, .int (Int32.ofInt y1013)), (5, .int (Int32.ofInt (iC t 228 ((iC t (166 + (a : Int).toNat) (ka : Int).toNat)).toNat))), (4, .int (Int32.ofInt (iC t 228 ((iC t (166 + (a : Int).toNat) ((ka - 1) : Int).toNat)).toNat))), (0, .ref (A 179)), (2, .int (Int32.ofInt a))]) (show cdA 249 81 = some (.iinc 3 1, 3, 0, 0, 0) from rfl) (by decide) (List.Mem.tail _ (List.Mem.tail _ (List.Mem.tail _ (List.Mem.tail _ (List.Mem.tail _ (List.Mem.head _)))))) (fun _ h => h) ?_
            refine z_goto X (t := 14) (show cdA 249 84 = some (.goto (-70), 3, 0, 0, 0) from rfl) (by decide) ?_
            refine WS_lv (lv := [(0, .ref (A 179)), (1, .int (Int32.ofInt y1013)), (2, .int (Int32.ofInt a)), (3, .int (Int32.ofInt (ka + 1)))]) (List.forall_mem_cons.mpr ⟨(List.Mem.tail _ (List.Mem.tail _ (List.Mem.tail _ (List.Mem.tail _ (List.Mem.head _))))), (List.forall_mem_cons.mpr ⟨(List.Mem.tail _ (List.Mem.head _)), (List.forall_mem_cons.mpr ⟨(List.Mem.tail _ (List.Mem.tail _ (List.Mem.tail _ (List.Mem.tail _ (List.Mem.tail _ (List.Mem.head _)))))), (List.forall_mem_cons.mpr ⟨(List.Mem.head _), (fun q h => absurd h List.not_mem_nil)⟩)⟩)⟩)⟩) ?_
            exact ih _ y1013 a (ka + 1) I F (by first | exact ⟨And.intro (hy1013.1) (hy1013.2), And.intro (hi.2.1.1) (hi.2.1.2), oq_1e1a2df6 hi.2.2.1, oq_41473be0 g1003 b1002.2⟩ | omega) (by first | exact qk_me hm (by decide) (oq_9dea93e6 g1003 b1002.2) | omega) kx
          ·
            refine z_aload_n X (x := A 179) (show cdA 249 70 = some (.aload_n 0, 1, 0, 0, 0) from rfl) (List.Mem.tail _ (List.Mem.tail _ (List.Mem.head _))) ?_
            refine z_load_n X (x := a) (show cdA 249 71 = some (.iload_n 2, 1, 0, 0, 0) from rfl) (List.Mem.tail _ (List.Mem.tail _ (List.Mem.tail _ (List.Mem.tail _ (List.Mem.head _))))) ?_
            refine z_callV X 179 (rm := rmN 248) (As := [.int (Int32.ofInt a)]) (st := [.int (Int32.ofInt nn)]) (show cdA 249 72 = some (.invokevirtual 354, 3, 248, 0, 0) from rfl) rfl (by decide) rfl (by rw [E.1, E.2.1, E.2.2.1]; exact k_total G I (by first | exact ⟨hi.2.1.1, hi.2.1.2⟩ | omega)) ⟨by rw [E.2.2.2]; exact (show (rmN 248).frames + 1 ≤ (rmN 249).frames by decide), by rw [E.2.2.2]; exact (show 8 + (mNL (miB 248) + 11) + (rmN 248).locals ≤ (rmN 249).locals by decide), by rw [E.2.2.2]; exact (show 0 + (rmN 248).cells ≤ (rmN 249).cells by decide), by rw [E.2.2.2]; exact (show 0 + (rmN 248).slots ≤ (rmN 249).slots by decide)⟩ (Nat.le_of_ble_eq_true rfl) (fun vv s1014 hq => ?_) (fun ee s1014 hq => ?_)
            rotate_left
            · obtain ⟨Is1014, Fs1014, e1015, hv, hrs1014, hps1014⟩ := hq; cases hv
            obtain ⟨Is1014, Fs1014, e1015, hv, hrs1014, hps1014⟩ := hq
            cases hv
            have Gs1014 := fm_ts F Fs1014 (by decide) (by decide)
            have ws1014_90 : iI s1014 90 = iI t 90 := fm_i Fs1014 (by decide)
            show WS k 75 [(5, .int (Int32.ofInt (iC t 228 ((iC t (166 + (a : Int).toNat) (ka : Int).toNat)).toNat))), (4, .int (Int32.ofInt (iC t 228 ((iC t (166 + (a : Int).toNat) ((ka - 1) : Int).toNat)).toNat))), (0, .ref (A 179)), (1, .int (Int32.ofInt nn)), (2, .int (Int32.ofInt a)), (3, .int (Int32.ofInt ka))] [.int (Int32.ofInt e1015), .int (Int32.ofInt nn)] (Wd A dT s1014) 0 0
            refine z_goto X (t := 79) (show cdA 249 75 = some (.goto 4, 3, 0, 0, 0) from rfl) (by decide) ?_
            refine z_add X (show cdA 249 79 = some (.iadd, 1, 0, 0, 0) from rfl) ?_
            refine z_any (fun y1016 hy1016 => ?_)
            refine z_store_n X (lv' := [(1, .int (Int32.ofInt y1016)), (5, .int (Int32.ofInt (iC t 228 ((iC t (166 + (a : Int).toNat) (ka : Int).toNat)).toNat))), (4, .int (Int32.ofInt (iC t 228 ((iC t (166 + (a : Int).toNat) ((ka - 1) : Int).toNat)).toNat))), (0, .ref (A 179)), (2, .int (Int32.ofInt a)), (3, .int (Int32.ofInt ka))]) (show cdA 249 80 = some (.istore_n 1, 1, 0, 0, 0) from rfl) (by decide) (fun _ h => h) ?_
            refine z_inc X (x := ka) (lv' := [(3, .int (Int32.ofInt (ka + 1))), (1, .int (Int32.ofInt y1016)), (5, .int (Int32.ofInt (iC t 228 ((iC t (166 + (a : Int).toNat) (ka : Int).toNat)).toNat))), (4, .int (Int32.ofInt (iC t 228 ((iC t (166 + (a : Int).toNat) ((ka - 1) : Int).toNat)).toNat))), (0, .ref (A 179)), (2, .int (Int32.ofInt a))]) (show cdA 249 81 = some (.iinc 3 1, 3, 0, 0, 0) from rfl) (by decide) (List.Mem.tail _ (List.Mem.tail _ (List.Mem.tail _ (List.Mem.tail _ (List.Mem.tail _ (List.Mem.head _)))))) (fun _ h => h) ?_
            refine z_goto X (t := 14) (show cdA 249 84 = some (.goto (-70), 3, 0, 0, 0) from rfl) (by decide) ?_
            refine WS_lv (lv := [(0, .ref (A 179)), (1, .int (Int32.ofInt y1016)), (2, .int (Int32.ofInt a)), (3, .int (Int32.ofInt (ka + 1)))]) (List.forall_mem_cons.mpr ⟨(List.Mem.tail _ (List.Mem.tail _ (List.Mem.tail _ (List.Mem.tail _ (List.Mem.head _))))), (List.forall_mem_cons.mpr ⟨(List.Mem.tail _ (List.Mem.head _)), (List.forall_mem_cons.mpr ⟨(List.Mem.tail _ (List.Mem.tail _ (List.Mem.tail _ (List.Mem.tail _ (List.Mem.tail _ (List.Mem.head _)))))), (List.forall_mem_cons.mpr ⟨(List.Mem.head _), (fun q h => absurd h List.not_mem_nil)⟩)⟩)⟩)⟩) ?_
            exact ih _ y1016 a (ka + 1) Is1014 Gs1014 (by first | exact ⟨And.intro (hy1016.1) (hy1016.2), And.intro (hi.2.1.1) (hi.2.1.2), oq_1e1a2df6 hi.2.2.1, oq_41473be0 g1003 b1002.2⟩ | omega) (by first | exact qk_me hm (by decide) (oq_9dea93e6 g1003 b1002.2) | omega) kx
  have L4 : ∀ (n : Nat) (t : PS) (nn a : Int), Bd t → Fm [] [] s t → (rng nn ∧ 0 ≤ a ∧ a ≤ 12) → (12 - a : Int).toNat < n → (∀ (t' : PS) (nn' a' : Int), Bd t' → Fm [] [] s t' → (rng nn' ∧ 0 ≤ a' ∧ a' ≤ 12) → WS k 93 [(0, .ref (A 179)), (1, .int (Int32.ofInt nn')), (2, .int (Int32.ofInt a'))] [] (Wd A dT t') 0 0) → WS k 4 [(0, .ref (A 179)), (1, .int (Int32.ofInt nn)), (2, .int (Int32.ofInt a))] [] (Wd A dT t) 0 0 := by
    intro n
    induction n with
    | zero =>
      intro t nn a I F hi hm kx
      exact absurd hm (Nat.not_lt_zero _)
    | succ n ih =>
      intro t nn a I F hi hm kx
      have b2001 : (0 : Int) ≤ iI t 90 ∧ iI t 90 ≤ 12 := I.1 90
      refine z_load_n X (x := a) (show cdA 249 4 = some (.iload_n 2, 1, 0, 0, 0) from rfl) (List.Mem.tail _ (List.Mem.tail _ (List.Mem.head _))) ?_
      refine z_aload_n X (x := A 179) (show cdA 249 5 = some (.aload_n 0, 1, 0, 0, 0) from rfl) (List.Mem.head _) ?_
      refine z_getI X 179 (show cdA 249 6 = some (.getfield 233, 3, 12, 22, 0) from rfl) (by decide) rfl rfl ?_
      have b2002 : (0 : Int) ≤ iI t 90 ∧ iI t 90 ≤ 12 := I.1 90
      refine z_icmp_ge X (t := 93) (show cdA 249 9 = some (.if_icmp .ge 84, 3, 3, 0, 0) from rfl) (by decide) ⟨by first | exact oq_fa4e5087 hi.2.1 | omega, by first | exact oq_78843a64 hi.2.2 | omega⟩ (rng_to _) (fun g2003 => ?_) (fun g2003 => ?_)
      ·
        refine WS_lv (lv := [(0, .ref (A 179)), (1, .int (Int32.ofInt nn)), (2, .int (Int32.ofInt a))]) (List.forall_mem_cons.mpr ⟨(List.Mem.head _), (List.forall_mem_cons.mpr ⟨(List.Mem.tail _ (List.Mem.head _)), (List.forall_mem_cons.mpr ⟨(List.Mem.tail _ (List.Mem.tail _ (List.Mem.head _))), (fun q h => absurd h List.not_mem_nil)⟩)⟩)⟩) ?_
        exact kx _ nn a I F (by first | exact ⟨And.intro (hi.1.1) (hi.1.2), hi.2.1, hi.2.2⟩ | omega)
      ·
        refine z_const X (show cdA 249 12 = some (.iconst 1, 1, 0, 0, 0) from rfl) ?_
        refine z_store_n X (lv' := [(3, .int (Int32.ofInt 1)), (0, .ref (A 179)), (1, .int (Int32.ofInt nn)), (2, .int (Int32.ofInt a))]) (show cdA 249 13 = some (.istore_n 3, 1, 0, 0, 0) from rfl) (by decide) (fun _ h => h) ?_
        refine WS_lv (lv := [(0, .ref (A 179)), (1, .int (Int32.ofInt nn)), (2, .int (Int32.ofInt a)), (3, .int (Int32.ofInt 1))]) (List.forall_mem_cons.mpr ⟨(List.Mem.tail _ (List.Mem.head _)), (List.forall_mem_cons.mpr ⟨(List.Mem.tail _ (List.Mem.tail _ (List.Mem.head _))), (List.forall_mem_cons.mpr ⟨(List.Mem.tail _ (List.Mem.tail _ (List.Mem.tail _ (List.Mem.head _)))), (List.forall_mem_cons.mpr ⟨(List.Mem.head _), (fun q h => absurd h List.not_mem_nil)⟩)⟩)⟩)⟩) ?_
        refine L14 ((24 - 1 : Int).toNat + 1) t nn a 1 I F (by first | exact ⟨And.intro (hi.1.1) (hi.1.2), And.intro (hi.2.1) (oq_e4d7f3c5 g2003 b2002.2), by decide, by decide⟩ | omega) (Nat.lt_succ_self _) ?_
        intro s2004 x2005 x2006 Is2004 Fs2004 hs2004
        have b2007 : (0 : Int) ≤ iI s2004 90 ∧ iI s2004 90 ≤ 12 := Is2004.1 90
        refine z_inc X (x := a) (lv' := [(2, .int (Int32.ofInt (a + 1))), (0, .ref (A 179)), (1, .int (Int32.ofInt x2005)), (3, .int (Int32.ofInt x2006))]) (show cdA 249 87 = some (.iinc 2 1, 3, 0, 0, 0) from rfl) (by decide) (List.Mem.tail _ (List.Mem.tail _ (List.Mem.head _))) (fun _ h => h) ?_
        refine z_goto X (t := 4) (show cdA 249 90 = some (.goto (-86), 3, 0, 0, 0) from rfl) (by decide) ?_
        refine WS_lv (lv := [(0, .ref (A 179)), (1, .int (Int32.ofInt x2005)), (2, .int (Int32.ofInt (a + 1)))]) (List.forall_mem_cons.mpr ⟨(List.Mem.tail _ (List.Mem.head _)), (List.forall_mem_cons.mpr ⟨(List.Mem.tail _ (List.Mem.tail _ (List.Mem.head _))), (List.forall_mem_cons.mpr ⟨(List.Mem.head _), (fun q h => absurd h List.not_mem_nil)⟩)⟩)⟩) ?_
        exact ih _ x2005 (a + 1) Is2004 Fs2004 (by first | exact ⟨And.intro (hs2004.1.1) (hs2004.1.2), oq_54f49eb5 hs2004.2.1.1, oq_51d1204d hs2004.2.1.2⟩ | omega) (by first | exact qk_me hm (by decide) (oq_8b937940 hs2004.2.1.2) | omega) kx
  refine z_const X (show cdA 249 0 = some (.iconst 0, 1, 0, 0, 0) from rfl) ?_
  refine z_store_n X (lv' := [(1, .int (Int32.ofInt 0)), (0, .ref (A 179))]) (show cdA 249 1 = some (.istore_n 1, 1, 0, 0, 0) from rfl) (by decide) (fun _ h => h) ?_
  refine z_const X (show cdA 249 2 = some (.iconst 0, 1, 0, 0, 0) from rfl) ?_
  refine z_store_n X (lv' := [(2, .int (Int32.ofInt 0)), (1, .int (Int32.ofInt 0)), (0, .ref (A 179))]) (show cdA 249 3 = some (.istore_n 2, 1, 0, 0, 0) from rfl) (by decide) (fun _ h => h) ?_
  refine WS_lv (lv := [(0, .ref (A 179)), (1, .int (Int32.ofInt 0)), (2, .int (Int32.ofInt 0))]) (List.forall_mem_cons.mpr ⟨(List.Mem.tail _ (List.Mem.tail _ (List.Mem.head _))), (List.forall_mem_cons.mpr ⟨(List.Mem.tail _ (List.Mem.head _)), (List.forall_mem_cons.mpr ⟨(List.Mem.head _), (fun q h => absurd h List.not_mem_nil)⟩)⟩)⟩) ?_
  refine L4 ((12 - 0 : Int).toNat + 1) s 0 0 I F (by first | exact ⟨And.intro (by decide) (by decide), by decide, by decide⟩ | omega) (Nat.lt_succ_self _) ?_
  intro s2 x3 x4 Is2 Fs2 hs2
  have b5 : (0 : Int) ≤ iI s2 90 ∧ iI s2 90 ≤ 12 := Is2.1 90
  refine z_load_n X (x := x3) (show cdA 249 93 = some (.iload_n 1, 1, 0, 0, 0) from rfl) (List.Mem.tail _ (List.Mem.head _)) ?_
  exact w_iret X.1 q hRt rfl (ax_d X (show cdA 249 94 = some (.ireturn, 1, 0, 0, 0) from rfl)) (Nat.zero_le _) (Nat.zero_le _) ⟨_, rfl, Is2, Fs2, x3, rfl, ⟨by first | exact hs2.1.1 | omega, by first | exact hs2.1.2 | omega⟩, trivial⟩
set_option maxRecDepth 4000 in
theorem k_findPeaks (G : GX l s0 D tys a0 dT) (I : Bd s) (jRLx : RLx s)  : CT l s0 D A dT 250 (rmN 250) [.ref (A 179)] s (fun o t => Bd t ∧ Fm [77, 75, 78, 79, 80, 81] [202, 204, 205, 206, 207, 208, 209, 210, 211, 212, 213, 214, 215, 216, 217, 218, 219, 220, 221, 222, 223, 224, 225, 226, 227, 203, 161, 230, 233] s t ∧ RLx t ∧ o = .inl none ∧ (True)) := by
  refine ct_of G (by decide) (Nat.le_of_ble_eq_true rfl) (fun k X E hRt hXt q => ?_)
  show WS k 0 [(0, .ref (A 179))] [] _ 0 0
  have F : Fm [77, 75, 78, 79, 80, 81] [202, 204, 205, 206, 207, 208, 209, 210, 211, 212, 213, 214, 215, 216, 217, 218, 219, 220, 221, 222, 223, 224, 225, 226, 227, 203, 161, 230, 233] s s := fm_rf _ _ s
  have L2 : ∀ (n : Nat) (t : PS) (p : Int), Bd t → Fm [77, 75, 78, 79, 80, 81] [202, 204, 205, 206, 207, 208, 209, 210, 211, 212, 213, 214, 215, 216, 217, 218, 219, 220, 221, 222, 223, 224, 225, 226, 227, 203, 161, 230, 233] s t → RLx t → (0 ≤ p ∧ p ≤ 8) → (8 - p : Int).toNat < n → (∀ (t' : PS) (p' : Int), Bd t' → Fm [77, 75, 78, 79, 80, 81] [202, 204, 205, 206, 207, 208, 209, 210, 211, 212, 213, 214, 215, 216, 217, 218, 219, 220, 221, 222, 223, 224, 225, 226, 227, 203, 161, 230, 233] s t' → RLx t' → (0 ≤ p' ∧ p' ≤ 8) → WS k 25 [(0, .ref (A 179)), (1, .int (Int32.ofInt p'))] [] (Wd A dT t') 0 0) → WS k 2 [(0, .ref (A 179)), (1, .int (Int32.ofInt p))] [] (Wd A dT t) 0 0 := by
    intro n
    induction n with
    | zero =>
      intro t p I F jjRLx hi hm kx
      exact absurd hm (Nat.not_lt_zero _)
    | succ n ih =>
      intro t p I F jjRLx hi hm kx
      refine z_load_n X (x := p) (show cdA 250 2 = some (.iload_n 1, 1, 0, 0, 0) from rfl) (List.Mem.tail _ (List.Mem.head _)) ?_
      refine z_bipush X (show cdA 250 3 = some (.bipush 8, 2, 0, 0, 8) from rfl) ?_
      refine z_icmp_ge X (t := 25) (show cdA 250 5 = some (.if_icmp .ge 20, 3, 3, 0, 0) from rfl) (by decide) ⟨by first | exact oq_fa4e5087 hi.1 | omega, by first | exact oq_d3f5d874 hi.2 | omega⟩ (by decide) (fun g1001 => ?_) (fun g1001 => ?_)
      ·
        refine WS_lv (lv := [(0, .ref (A 179)), (1, .int (Int32.ofInt p))]) (List.forall_mem_cons.mpr ⟨(List.Mem.head _), (List.forall_mem_cons.mpr ⟨(List.Mem.tail _ (List.Mem.head _)), (fun q h => absurd h List.not_mem_nil)⟩)⟩) ?_
        exact kx _ p I F jjRLx (by first | exact ⟨hi.1, hi.2⟩ | omega)
      ·
        refine z_aload_n X (x := A 179) (show cdA 250 8 = some (.aload_n 0, 1, 0, 0, 0) from rfl) (List.Mem.head _) ?_
        refine s_getR X 179 (show cdA 250 9 = some (.getfield 86, 3, 12, 40, 0) from rfl) (by decide) rfl rfl ?_
        refine z_load_n X (x := p) (show cdA 250 12 = some (.iload_n 1, 1, 0, 0, 0) from rfl) (List.Mem.tail _ (List.Mem.head _)) ?_
        refine z_aload_n X (x := A 179) (show cdA 250 13 = some (.aload_n 0, 1, 0, 0, 0) from rfl) (List.Mem.head _) ?_
        refine z_load_n X (x := p) (show cdA 250 14 = some (.iload_n 1, 1, 0, 0, 0) from rfl) (List.Mem.tail _ (List.Mem.head _)) ?_
        refine z_callV X 179 (rm := rmN 232) (As := [.int (Int32.ofInt p)]) (st := [.int (Int32.ofInt p), .ref (A 261)]) (show cdA 250 15 = some (.invokevirtual 336, 3, 232, 0, 0) from rfl) rfl (by decide) rfl (by rw [E.1, E.2.1, E.2.2.1]; exact k_peakOfPiece G I jjRLx (by first | exact ⟨oq_fa4e5087 hi.1, oq_7bea7075 g1001⟩ | omega)) ⟨by rw [E.2.2.2]; exact (show (rmN 232).frames + 1 ≤ (rmN 250).frames by decide), by rw [E.2.2.2]; exact (show 8 + (mNL (miB 232) + 11) + (rmN 232).locals ≤ (rmN 250).locals by decide), by rw [E.2.2.2]; exact (show 0 + (rmN 232).cells ≤ (rmN 250).cells by decide), by rw [E.2.2.2]; exact (show 0 + (rmN 232).slots ≤ (rmN 250).slots by decide)⟩ (Nat.le_of_ble_eq_true rfl) (fun vv s1002 hq => ?_) (fun ee s1002 hq => ?_)
        rotate_left
        · obtain ⟨Is1002, Fs1002, JRLx_s1002, e1003, hv, hrs1002, hps1002⟩ := hq; cases hv
        obtain ⟨Is1002, Fs1002, JRLx_s1002, e1003, hv, hrs1002, hps1002⟩ := hq
        cases hv
        have Gs1002 := fm_ts F Fs1002 (by decide) (by decide)
        have JRLx_s1002 : RLx s1002 := RLx_fm Fs1002 (by decide) jjRLx
        show WS k 18 [(0, .ref (A 179)), (1, .int (Int32.ofInt p))] [.int (Int32.ofInt e1003), .int (Int32.ofInt p), .ref (A 261)] (Wd A dT s1002) 0 0
        refine z_ast X 261 (show cdA 250 18 = some (.iastore, 1, 0, 0, 0) from rfl) (by decide) rfl (by first | exact hi.1 | omega) (show p < 8 by first | exact g1001 | omega) (by decide) ?_
        obtain ⟨s1004, hs1004⟩ : ∃ x0, x0 = uC s1002 233 (p).toNat (Int32.ofInt e1003) := ⟨_, rfl⟩
        rw [← hs1004]
        have Is1004 : Bd s1004 := by rw [hs1004]; exact bd_C Is1002 (show ((-2147483648) : Int) ≤ e1003 ∧ e1003 ≤ 2147483647 by omega) hrs1002
        have Fs1004 := fm_C (i := (p).toNat) (x := Int32.ofInt e1003) Gs1002 (show 233 ∈ _ by decide)
        rw [← hs1004] at Fs1004
        have fs1004 : Fm [] [233] s1002 s1004 := by rw [hs1004]; exact fm_C (fm_rf _ _ _) (show 233 ∈ _ by decide)
        have JRLx_s1004 : RLx s1004 := RLx_fm fs1004 (by decide) JRLx_s1002
        refine z_inc X (x := p) (lv' := [(1, .int (Int32.ofInt (p + 1))), (0, .ref (A 179))]) (show cdA 250 19 = some (.iinc 1 1, 3, 0, 0, 0) from rfl) (by decide) (List.Mem.tail _ (List.Mem.head _)) (fun _ h => h) ?_
        refine z_goto X (t := 2) (show cdA 250 22 = some (.goto (-20), 3, 0, 0, 0) from rfl) (by decide) ?_
        refine WS_lv (lv := [(0, .ref (A 179)), (1, .int (Int32.ofInt (p + 1)))]) (List.forall_mem_cons.mpr ⟨(List.Mem.tail _ (List.Mem.head _)), (List.forall_mem_cons.mpr ⟨(List.Mem.head _), (fun q h => absurd h List.not_mem_nil)⟩)⟩) ?_
        exact ih _ (p + 1) Is1004 Fs1004 JRLx_s1004 (by first | exact ⟨oq_54f49eb5 hi.1, oq_0c7b19c3 g1001⟩ | omega) (by first | exact qk_me hm (by decide) (oq_9f368f35 g1001) | omega) kx
  refine z_const X (show cdA 250 0 = some (.iconst 0, 1, 0, 0, 0) from rfl) ?_
  refine z_store_n X (lv' := [(1, .int (Int32.ofInt 0)), (0, .ref (A 179))]) (show cdA 250 1 = some (.istore_n 1, 1, 0, 0, 0) from rfl) (by decide) (fun _ h => h) ?_
  refine WS_lv (lv := [(0, .ref (A 179)), (1, .int (Int32.ofInt 0))]) (List.forall_mem_cons.mpr ⟨(List.Mem.tail _ (List.Mem.head _)), (List.forall_mem_cons.mpr ⟨(List.Mem.head _), (fun q h => absurd h List.not_mem_nil)⟩)⟩) ?_
  refine L2 ((8 - 0 : Int).toNat + 1) s 0 I F jRLx (by first | exact ⟨by decide, by decide⟩ | omega) (Nat.lt_succ_self _) ?_
  intro s1 x2 Is1 Fs1 JRLx_s1 hs1
  exact w_vret X.1 q hRt (ax_d X (show cdA 250 25 = some (.return_, 1, 0, 0, 0) from rfl)) (Nat.zero_le _) (Nat.zero_le _) ⟨_, rfl, Is1, Fs1, JRLx_s1, rfl, trivial⟩
set_option maxRecDepth 4000 in
theorem k_costByPeaks (G : GX l s0 D tys a0 dT) (I : Bd s)  : CT l s0 D A dT 251 (rmN 251) [.ref (A 179)] s (fun o t => Bd t ∧ Fm [] [] s t ∧ ∃ e, o = .inl (some (.int (Int32.ofInt e))) ∧ rng e ∧ (True)) := by
  refine ct_of G (by decide) (Nat.le_of_ble_eq_true rfl) (fun k X E hRt hXt q => ?_)
  show WS k 0 [(0, .ref (A 179))] [] _ 0 0
  have F : Fm [] [] s s := fm_rf _ _ s
  have L9 : ∀ (n : Nat) (t : PS) (lo hi0 an p : Int), Bd t → Fm [] [] s t → (rng lo ∧ rng hi0 ∧ 0 ≤ an ∧ an ≤ p ∧ p ≤ 8) → (8 - p : Int).toNat < n → (∀ (t' : PS) (lo' hi0' an' p' : Int), Bd t' → Fm [] [] s t' → (rng lo' ∧ rng hi0' ∧ 0 ≤ an' ∧ an' ≤ p' ∧ p' ≤ 8) → WS k 91 [(0, .ref (A 179)), (1, .int (Int32.ofInt lo')), (2, .int (Int32.ofInt hi0')), (3, .int (Int32.ofInt an')), (4, .int (Int32.ofInt p'))] [] (Wd A dT t') 0 0) → WS k 9 [(0, .ref (A 179)), (1, .int (Int32.ofInt lo)), (2, .int (Int32.ofInt hi0)), (3, .int (Int32.ofInt an)), (4, .int (Int32.ofInt p))] [] (Wd A dT t) 0 0 := by
    intro n
    induction n with
    | zero =>
      intro t lo hi0 an p I F hi hm kx
      exact absurd hm (Nat.not_lt_zero _)
    | succ n ih =>
      intro t lo hi0 an p I F hi hm kx
      refine z_load X (x := p) (show cdA 251 9 = some (.iload 4, 2, 0, 0, 0) from rfl) (List.Mem.tail _ (List.Mem.tail _ (List.Mem.tail _ (List.Mem.tail _ (List.Mem.head _))))) ?_
      refine z_bipush X (show cdA 251 11 = some (.bipush 8, 2, 0, 0, 8) from rfl) ?_
      refine z_icmp_ge X (t := 91) (show cdA 251 13 = some (.if_icmp .ge 78, 3, 3, 0, 0) from rfl) (by decide) ⟨by first | exact oq_e001bc0d hi.2.2.2.1 hi.2.2.1 | omega, by first | exact oq_d3f5d874 hi.2.2.2.2 | omega⟩ (by decide) (fun g1001 => ?_) (fun g1001 => ?_)
      ·
        refine WS_lv (lv := [(0, .ref (A 179)), (1, .int (Int32.ofInt lo)), (2, .int (Int32.ofInt hi0)), (3, .int (Int32.ofInt an)), (4, .int (Int32.ofInt p))]) (List.forall_mem_cons.mpr ⟨(List.Mem.head _), (List.forall_mem_cons.mpr ⟨(List.Mem.tail _ (List.Mem.head _)), (List.forall_mem_cons.mpr ⟨(List.Mem.tail _ (List.Mem.tail _ (List.Mem.head _))), (List.forall_mem_cons.mpr ⟨(List.Mem.tail _ (List.Mem.tail _ (List.Mem.tail _ (List.Mem.head _)))), (List.forall_mem_cons.mpr ⟨(List.Mem.tail _ (List.Mem.tail _ (List.Mem.tail _ (List.Mem.tail _ (List.Mem.head _))))), (fun q h => absurd h List.not_mem_nil)⟩)⟩)⟩)⟩)⟩) ?_
        exact kx _ lo hi0 an p I F (by first | exact ⟨And.intro (hi.1.1) (hi.1.2), And.intro (hi.2.1.1) (hi.2.1.2), hi.2.2.1, hi.2.2.2.1, hi.2.2.2.2⟩ | omega)
      ·
        refine z_aload_n X (x := A 179) (show cdA 251 16 = some (.aload_n 0, 1, 0, 0, 0) from rfl) (List.Mem.head _) ?_
        refine z_load X (x := p) (show cdA 251 17 = some (.iload 4, 2, 0, 0, 0) from rfl) (List.Mem.tail _ (List.Mem.tail _ (List.Mem.tail _ (List.Mem.tail _ (List.Mem.head _))))) ?_
        refine z_callV X 179 (rm := rmN 233) (As := [.int (Int32.ofInt p)]) (st := []) (show cdA 251 19 = some (.invokevirtual 351, 3, 233, 0, 0) from rfl) rfl (by decide) rfl (by rw [E.1, E.2.1, E.2.2.1]; exact k_hasCells G I (by first | exact ⟨oq_e001bc0d hi.2.2.2.1 hi.2.2.1, oq_7bea7075 g1001⟩ | omega)) ⟨by rw [E.2.2.2]; exact (show (rmN 233).frames + 1 ≤ (rmN 251).frames by decide), by rw [E.2.2.2]; exact (show 8 + (mNL (miB 233) + 11) + (rmN 233).locals ≤ (rmN 251).locals by decide), by rw [E.2.2.2]; exact (show 0 + (rmN 233).cells ≤ (rmN 251).cells by decide), by rw [E.2.2.2]; exact (show 0 + (rmN 233).slots ≤ (rmN 251).slots by decide)⟩ (Nat.le_of_ble_eq_true rfl) (fun vv s1002 hq => ?_) (fun ee s1002 hq => ?_)
        rotate_left
        · obtain ⟨Is1002, Fs1002, e1003, hv, hrs1002, hps1002⟩ := hq; cases hv
        obtain ⟨Is1002, Fs1002, e1003, hv, hrs1002, hps1002⟩ := hq
        cases hv
        have Gs1002 := fm_ts F Fs1002 (by decide) (by decide)
        show WS k 22 [(0, .ref (A 179)), (1, .int (Int32.ofInt lo)), (2, .int (Int32.ofInt hi0)), (3, .int (Int32.ofInt an)), (4, .int (Int32.ofInt p))] [.int (Int32.ofInt e1003)] (Wd A dT s1002) 0 0
        refine z_if_ne X (t := 28) (show cdA 251 22 = some (.ifCond .ne 6, 3, 1, 0, 0) from rfl) (by decide) hrs1002 (fun g1004 => ?_) (fun g1004 => ?_)
        ·
          refine z_load_n X (x := an) (show cdA 251 28 = some (.iload_n 3, 1, 0, 0, 0) from rfl) (List.Mem.tail _ (List.Mem.tail _ (List.Mem.tail _ (List.Mem.head _)))) ?_
          have N1005 : ∀ e1006 : Int, (((an = 0) ∧ (((-2147483648) : Int) ≤ iC s1002 233 (p).toNat ∧ iC s1002 233 (p).toNat ≤ 2147483647) ∧ e1006 = (iC s1002 233 (p).toNat)) ∨ ((an ≠ 0) ∧ (((-2147483648) : Int) ≤ iC s1002 233 (p).toNat ∧ iC s1002 233 (p).toNat ≤ 2147483647) ∧ (lo ≤ (iC s1002 233 (p).toNat)) ∧ e1006 = lo) ∨ ((an ≠ 0) ∧ (((-2147483648) : Int) ≤ iC s1002 233 (p).toNat ∧ iC s1002 233 (p).toNat ≤ 2147483647) ∧ ((iC s1002 233 (p).toNat) < lo) ∧ (((-2147483648) : Int) ≤ iC s1002 233 (p).toNat ∧ iC s1002 233 (p).toNat ≤ 2147483647) ∧ e1006 = (iC s1002 233 (p).toNat))) → WS k 54 [(0, .ref (A 179)), (1, .int (Int32.ofInt lo)), (2, .int (Int32.ofInt hi0)), (3, .int (Int32.ofInt an)), (4, .int (Int32.ofInt p))] [.int (Int32.ofInt e1006)] (Wd A dT s1002) 0 0 := by
            intro e1006 he1006
            refine z_store_n X (lv' := [(1, .int (Int32.ofInt e1006)), (0, .ref (A 179)), (2, .int (Int32.ofInt hi0)), (3, .int (Int32.ofInt an)), (4, .int (Int32.ofInt p))]) (show cdA 251 54 = some (.istore_n 1, 1, 0, 0, 0) from rfl) (by decide) (fun _ h => h) ?_
            refine z_load_n X (x := an) (show cdA 251 55 = some (.iload_n 3, 1, 0, 0, 0) from rfl) (List.Mem.tail _ (List.Mem.tail _ (List.Mem.tail _ (List.Mem.head _)))) ?_
            have N1007 : ∀ e1008 : Int, (((an = 0) ∧ (((-2147483648) : Int) ≤ iC s1002 233 (p).toNat ∧ iC s1002 233 (p).toNat ≤ 2147483647) ∧ e1008 = (iC s1002 233 (p).toNat)) ∨ ((an ≠ 0) ∧ (((-2147483648) : Int) ≤ iC s1002 233 (p).toNat ∧ iC s1002 233 (p).toNat ≤ 2147483647) ∧ ((iC s1002 233 (p).toNat) ≤ hi0) ∧ e1008 = hi0) ∨ ((an ≠ 0) ∧ (((-2147483648) : Int) ≤ iC s1002 233 (p).toNat ∧ iC s1002 233 (p).toNat ≤ 2147483647) ∧ (hi0 < (iC s1002 233 (p).toNat)) ∧ (((-2147483648) : Int) ≤ iC s1002 233 (p).toNat ∧ iC s1002 233 (p).toNat ≤ 2147483647) ∧ e1008 = (iC s1002 233 (p).toNat))) → WS k 81 [(1, .int (Int32.ofInt e1006)), (0, .ref (A 179)), (2, .int (Int32.ofInt hi0)), (3, .int (Int32.ofInt an)), (4, .int (Int32.ofInt p))] [.int (Int32.ofInt e1008)] (Wd A dT s1002) 0 0 := by
              intro e1008 he1008
              refine z_store_n X (lv' := [(2, .int (Int32.ofInt e1008)), (1, .int (Int32.ofInt e1006)), (0, .ref (A 179)), (3, .int (Int32.ofInt an)), (4, .int (Int32.ofInt p))]) (show cdA 251 81 = some (.istore_n 2, 1, 0, 0, 0) from rfl) (by decide) (fun _ h => h) ?_
              refine z_inc X (x := an) (lv' := [(3, .int (Int32.ofInt (an + 1))), (2, .int (Int32.ofInt e1008)), (1, .int (Int32.ofInt e1006)), (0, .ref (A 179)), (4, .int (Int32.ofInt p))]) (show cdA 251 82 = some (.iinc 3 1, 3, 0, 0, 0) from rfl) (by decide) (List.Mem.tail _ (List.Mem.tail _ (List.Mem.tail _ (List.Mem.head _)))) (fun _ h => h) ?_
              refine z_inc X (x := p) (lv' := [(4, .int (Int32.ofInt (p + 1))), (3, .int (Int32.ofInt (an + 1))), (2, .int (Int32.ofInt e1008)), (1, .int (Int32.ofInt e1006)), (0, .ref (A 179))]) (show cdA 251 85 = some (.iinc 4 1, 3, 0, 0, 0) from rfl) (by decide) (List.Mem.tail _ (List.Mem.tail _ (List.Mem.tail _ (List.Mem.tail _ (List.Mem.head _))))) (fun _ h => h) ?_
              refine z_goto X (t := 9) (show cdA 251 88 = some (.goto (-79), 3, 0, 0, 0) from rfl) (by decide) ?_
              refine WS_lv (lv := [(0, .ref (A 179)), (1, .int (Int32.ofInt e1006)), (2, .int (Int32.ofInt e1008)), (3, .int (Int32.ofInt (an + 1))), (4, .int (Int32.ofInt (p + 1)))]) (List.forall_mem_cons.mpr ⟨(List.Mem.tail _ (List.Mem.tail _ (List.Mem.tail _ (List.Mem.tail _ (List.Mem.head _))))), (List.forall_mem_cons.mpr ⟨(List.Mem.tail _ (List.Mem.tail _ (List.Mem.tail _ (List.Mem.head _)))), (List.forall_mem_cons.mpr ⟨(List.Mem.tail _ (List.Mem.tail _ (List.Mem.head _))), (List.forall_mem_cons.mpr ⟨(List.Mem.tail _ (List.Mem.head _)), (List.forall_mem_cons.mpr ⟨(List.Mem.head _), (fun q h => absurd h List.not_mem_nil)⟩)⟩)⟩)⟩)⟩) ?_
              exact ih _ e1006 e1008 (an + 1) (p + 1) Is1002 Gs1002 (by first | exact ⟨oq_8e3ecb8a he1006 hi.1.2 hi.1.1, oq_df5c764a he1008 hi.2.1.2 hi.2.1.1, oq_54f49eb5 hi.2.2.1, oq_8d48a029 hi.2.2.2.1, oq_0c7b19c3 g1001⟩ | omega) (by first | exact qk_me hm (by decide) (oq_9f368f35 g1001) | omega) kx
            refine z_if_eq X (t := 70) (show cdA 251 56 = some (.ifCond .eq 14, 3, 0, 0, 0) from rfl) (by decide) ⟨by first | exact oq_fa4e5087 hi.2.2.1 | omega, by first | exact oq_70a17013 hi.2.2.2.1 g1001 | omega⟩ (fun g1009 => ?_) (fun g1009 => ?_)
            ·
              refine z_aload_n X (x := A 179) (show cdA 251 70 = some (.aload_n 0, 1, 0, 0, 0) from rfl) (List.Mem.tail _ (List.Mem.head _)) ?_
              refine s_getR X 179 (show cdA 251 71 = some (.getfield 86, 3, 12, 40, 0) from rfl) (by decide) rfl rfl ?_
              refine z_load X (x := p) (show cdA 251 74 = some (.iload 4, 2, 0, 0, 0) from rfl) (List.Mem.tail _ (List.Mem.tail _ (List.Mem.tail _ (List.Mem.tail _ (List.Mem.head _))))) ?_
              refine z_ald X 261 (show cdA 251 76 = some (.iaload, 1, 0, 0, 0) from rfl) (by decide) rfl (by first | exact oq_e9ac77f5 hi.2.2.2.1 g1009 | omega) (show p < 8 by first | exact g1001 | omega) (by decide) ?_
              have b1010 : ((-2147483648) : Int) ≤ iC s1002 233 (p).toNat ∧ iC s1002 233 (p).toNat ≤ 2147483647 := Is1002.2 233 _ (show (p).toNat < 8 by first | exact oq_db4b3b8b g1001 | omega)
              refine z_goto X (t := 81) (show cdA 251 77 = some (.goto 4, 3, 0, 0, 0) from rfl) (by decide) ?_
              exact N1007 _ (Or.inl ⟨g1009, b1010, rfl⟩)
            ·
              refine z_aload_n X (x := A 179) (show cdA 251 59 = some (.aload_n 0, 1, 0, 0, 0) from rfl) (List.Mem.tail _ (List.Mem.head _)) ?_
              refine s_getR X 179 (show cdA 251 60 = some (.getfield 86, 3, 12, 40, 0) from rfl) (by decide) rfl rfl ?_
              refine z_load X (x := p) (show cdA 251 63 = some (.iload 4, 2, 0, 0, 0) from rfl) (List.Mem.tail _ (List.Mem.tail _ (List.Mem.tail _ (List.Mem.tail _ (List.Mem.head _))))) ?_
              refine z_ald X 261 (show cdA 251 65 = some (.iaload, 1, 0, 0, 0) from rfl) (by decide) rfl (by first | exact oq_12a1f9e1 hi.2.2.2.1 hi.2.2.1 | omega) (show p < 8 by first | exact g1001 | omega) (by decide) ?_
              have b1011 : ((-2147483648) : Int) ≤ iC s1002 233 (p).toNat ∧ iC s1002 233 (p).toNat ≤ 2147483647 := Is1002.2 233 _ (show (p).toNat < 8 by first | exact oq_db4b3b8b g1001 | omega)
              refine z_load_n X (x := hi0) (show cdA 251 66 = some (.iload_n 2, 1, 0, 0, 0) from rfl) (List.Mem.tail _ (List.Mem.tail _ (List.Mem.head _))) ?_
              refine z_icmp_le X (t := 80) (show cdA 251 67 = some (.if_icmp .le 13, 3, 5, 0, 0) from rfl) (by decide) (rng_to _) ⟨by first | exact hi.2.1.1 | omega, by first | exact hi.2.1.2 | omega⟩ (fun g1012 => ?_) (fun g1012 => ?_)
              ·
                refine z_load_n X (x := hi0) (show cdA 251 80 = some (.iload_n 2, 1, 0, 0, 0) from rfl) (List.Mem.tail _ (List.Mem.tail _ (List.Mem.head _))) ?_
                exact N1007 _ (Or.inr (Or.inl ⟨g1009, b1011, g1012, rfl⟩))
              ·
                refine z_aload_n X (x := A 179) (show cdA 251 70 = some (.aload_n 0, 1, 0, 0, 0) from rfl) (List.Mem.tail _ (List.Mem.head _)) ?_
                refine s_getR X 179 (show cdA 251 71 = some (.getfield 86, 3, 12, 40, 0) from rfl) (by decide) rfl rfl ?_
                refine z_load X (x := p) (show cdA 251 74 = some (.iload 4, 2, 0, 0, 0) from rfl) (List.Mem.tail _ (List.Mem.tail _ (List.Mem.tail _ (List.Mem.tail _ (List.Mem.head _))))) ?_
                refine z_ald X 261 (show cdA 251 76 = some (.iaload, 1, 0, 0, 0) from rfl) (by decide) rfl (by first | exact oq_12a1f9e1 hi.2.2.2.1 hi.2.2.1 | omega) (show p < 8 by first | exact g1001 | omega) (by decide) ?_
                have b1013 : ((-2147483648) : Int) ≤ iC s1002 233 (p).toNat ∧ iC s1002 233 (p).toNat ≤ 2147483647 := Is1002.2 233 _ (show (p).toNat < 8 by first | exact oq_db4b3b8b g1001 | omega)
                refine z_goto X (t := 81) (show cdA 251 77 = some (.goto 4, 3, 0, 0, 0) from rfl) (by decide) ?_
                exact N1007 _ (Or.inr (Or.inr (⟨g1009, b1011, g1012, b1013, rfl⟩)))
          refine z_if_eq X (t := 43) (show cdA 251 29 = some (.ifCond .eq 14, 3, 0, 0, 0) from rfl) (by decide) ⟨by first | exact oq_fa4e5087 hi.2.2.1 | omega, by first | exact oq_70a17013 hi.2.2.2.1 g1001 | omega⟩ (fun g1014 => ?_) (fun g1014 => ?_)
          ·
            refine z_aload_n X (x := A 179) (show cdA 251 43 = some (.aload_n 0, 1, 0, 0, 0) from rfl) (List.Mem.head _) ?_
            refine s_getR X 179 (show cdA 251 44 = some (.getfield 86, 3, 12, 40, 0) from rfl) (by decide) rfl rfl ?_
            refine z_load X (x := p) (show cdA 251 47 = some (.iload 4, 2, 0, 0, 0) from rfl) (List.Mem.tail _ (List.Mem.tail _ (List.Mem.tail _ (List.Mem.tail _ (List.Mem.head _))))) ?_
            refine z_ald X 261 (show cdA 251 49 = some (.iaload, 1, 0, 0, 0) from rfl) (by decide) rfl (by first | exact oq_e9ac77f5 hi.2.2.2.1 g1014 | omega) (show p < 8 by first | exact g1001 | omega) (by decide) ?_
            have b1015 : ((-2147483648) : Int) ≤ iC s1002 233 (p).toNat ∧ iC s1002 233 (p).toNat ≤ 2147483647 := Is1002.2 233 _ (show (p).toNat < 8 by first | exact oq_db4b3b8b g1001 | omega)
            refine z_goto X (t := 54) (show cdA 251 50 = some (.goto 4, 3, 0, 0, 0) from rfl) (by decide) ?_
            exact N1005 _ (Or.inl ⟨g1014, b1015, rfl⟩)
          ·
            refine z_aload_n X (x := A 179) (show cdA 251 32 = some (.aload_n 0, 1, 0, 0, 0) from rfl) (List.Mem.head _) ?_
            refine s_getR X 179 (show cdA 251 33 = some (.getfield 86, 3, 12, 40, 0) from rfl) (by decide) rfl rfl ?_
            refine z_load X (x := p) (show cdA 251 36 = some (.iload 4, 2, 0, 0, 0) from rfl) (List.Mem.tail _ (List.Mem.tail _ (List.Mem.tail _ (List.Mem.tail _ (List.Mem.head _))))) ?_
            refine z_ald X 261 (show cdA 251 38 = some (.iaload, 1, 0, 0, 0) from rfl) (by decide) rfl (by first | exact oq_12a1f9e1 hi.2.2.2.1 hi.2.2.1 | omega) (show p < 8 by first | exact g1001 | omega) (by decide) ?_
            have b1016 : ((-2147483648) : Int) ≤ iC s1002 233 (p).toNat ∧ iC s1002 233 (p).toNat ≤ 2147483647 := Is1002.2 233 _ (show (p).toNat < 8 by first | exact oq_db4b3b8b g1001 | omega)
            refine z_load_n X (x := lo) (show cdA 251 39 = some (.iload_n 1, 1, 0, 0, 0) from rfl) (List.Mem.tail _ (List.Mem.head _)) ?_
            refine z_icmp_ge X (t := 53) (show cdA 251 40 = some (.if_icmp .ge 13, 3, 3, 0, 0) from rfl) (by decide) (rng_to _) ⟨by first | exact hi.1.1 | omega, by first | exact hi.1.2 | omega⟩ (fun g1017 => ?_) (fun g1017 => ?_)
            ·
              refine z_load_n X (x := lo) (show cdA 251 53 = some (.iload_n 1, 1, 0, 0, 0) from rfl) (List.Mem.tail _ (List.Mem.head _)) ?_
              exact N1005 _ (Or.inr (Or.inl ⟨g1014, b1016, g1017, rfl⟩))
            ·
              refine z_aload_n X (x := A 179) (show cdA 251 43 = some (.aload_n 0, 1, 0, 0, 0) from rfl) (List.Mem.head _) ?_
              refine s_getR X 179 (show cdA 251 44 = some (.getfield 86, 3, 12, 40, 0) from rfl) (by decide) rfl rfl ?_
              refine z_load X (x := p) (show cdA 251 47 = some (.iload 4, 2, 0, 0, 0) from rfl) (List.Mem.tail _ (List.Mem.tail _ (List.Mem.tail _ (List.Mem.tail _ (List.Mem.head _))))) ?_
              refine z_ald X 261 (show cdA 251 49 = some (.iaload, 1, 0, 0, 0) from rfl) (by decide) rfl (by first | exact oq_12a1f9e1 hi.2.2.2.1 hi.2.2.1 | omega) (show p < 8 by first | exact g1001 | omega) (by decide) ?_
              have b1018 : ((-2147483648) : Int) ≤ iC s1002 233 (p).toNat ∧ iC s1002 233 (p).toNat ≤ 2147483647 := Is1002.2 233 _ (show (p).toNat < 8 by first | exact oq_db4b3b8b g1001 | omega)
              refine z_goto X (t := 54) (show cdA 251 50 = some (.goto 4, 3, 0, 0, 0) from rfl) (by decide) ?_
              exact N1005 _ (Or.inr (Or.inr (⟨g1014, b1016, g1017, b1018, rfl⟩)))
        ·
          refine z_goto X (t := 85) (show cdA 251 25 = some (.goto 60, 3, 0, 0, 0) from rfl) (by decide) ?_
          refine z_inc X (x := p) (lv' := [(4, .int (Int32.ofInt (p + 1))), (0, .ref (A 179)), (1, .int (Int32.ofInt lo)), (2, .int (Int32.ofInt hi0)), (3, .int (Int32.ofInt an))]) (show cdA 251 85 = some (.iinc 4 1, 3, 0, 0, 0) from rfl) (by decide) (List.Mem.tail _ (List.Mem.tail _ (List.Mem.tail _ (List.Mem.tail _ (List.Mem.head _))))) (fun _ h => h) ?_
          refine z_goto X (t := 9) (show cdA 251 88 = some (.goto (-79), 3, 0, 0, 0) from rfl) (by decide) ?_
          refine WS_lv (lv := [(0, .ref (A 179)), (1, .int (Int32.ofInt lo)), (2, .int (Int32.ofInt hi0)), (3, .int (Int32.ofInt an)), (4, .int (Int32.ofInt (p + 1)))]) (List.forall_mem_cons.mpr ⟨(List.Mem.tail _ (List.Mem.head _)), (List.forall_mem_cons.mpr ⟨(List.Mem.tail _ (List.Mem.tail _ (List.Mem.head _))), (List.forall_mem_cons.mpr ⟨(List.Mem.tail _ (List.Mem.tail _ (List.Mem.tail _ (List.Mem.head _)))), (List.forall_mem_cons.mpr ⟨(List.Mem.tail _ (List.Mem.tail _ (List.Mem.tail _ (List.Mem.tail _ (List.Mem.head _))))), (List.forall_mem_cons.mpr ⟨(List.Mem.head _), (fun q h => absurd h List.not_mem_nil)⟩)⟩)⟩)⟩)⟩) ?_
          exact ih _ lo hi0 an (p + 1) Is1002 Gs1002 (by first | exact ⟨And.intro (hi.1.1) (hi.1.2), And.intro (hi.2.1.1) (hi.2.1.2), hi.2.2.1, oq_03182e9e hi.2.2.2.1, oq_0c7b19c3 g1001⟩ | omega) (by first | exact qk_me hm (by decide) (oq_9f368f35 g1001) | omega) kx
  refine z_const X (show cdA 251 0 = some (.iconst 0, 1, 0, 0, 0) from rfl) ?_
  refine z_store_n X (lv' := [(1, .int (Int32.ofInt 0)), (0, .ref (A 179))]) (show cdA 251 1 = some (.istore_n 1, 1, 0, 0, 0) from rfl) (by decide) (fun _ h => h) ?_
  refine z_const X (show cdA 251 2 = some (.iconst 0, 1, 0, 0, 0) from rfl) ?_
  refine z_store_n X (lv' := [(2, .int (Int32.ofInt 0)), (1, .int (Int32.ofInt 0)), (0, .ref (A 179))]) (show cdA 251 3 = some (.istore_n 2, 1, 0, 0, 0) from rfl) (by decide) (fun _ h => h) ?_
  refine z_const X (show cdA 251 4 = some (.iconst 0, 1, 0, 0, 0) from rfl) ?_
  refine z_store_n X (lv' := [(3, .int (Int32.ofInt 0)), (2, .int (Int32.ofInt 0)), (1, .int (Int32.ofInt 0)), (0, .ref (A 179))]) (show cdA 251 5 = some (.istore_n 3, 1, 0, 0, 0) from rfl) (by decide) (fun _ h => h) ?_
  refine z_const X (show cdA 251 6 = some (.iconst 0, 1, 0, 0, 0) from rfl) ?_
  refine z_store X (lv' := [(4, .int (Int32.ofInt 0)), (3, .int (Int32.ofInt 0)), (2, .int (Int32.ofInt 0)), (1, .int (Int32.ofInt 0)), (0, .ref (A 179))]) (show cdA 251 7 = some (.istore 4, 2, 0, 0, 0) from rfl) (by decide) (fun _ h => h) ?_
  refine WS_lv (lv := [(0, .ref (A 179)), (1, .int (Int32.ofInt 0)), (2, .int (Int32.ofInt 0)), (3, .int (Int32.ofInt 0)), (4, .int (Int32.ofInt 0))]) (List.forall_mem_cons.mpr ⟨(List.Mem.tail _ (List.Mem.tail _ (List.Mem.tail _ (List.Mem.tail _ (List.Mem.head _))))), (List.forall_mem_cons.mpr ⟨(List.Mem.tail _ (List.Mem.tail _ (List.Mem.tail _ (List.Mem.head _)))), (List.forall_mem_cons.mpr ⟨(List.Mem.tail _ (List.Mem.tail _ (List.Mem.head _))), (List.forall_mem_cons.mpr ⟨(List.Mem.tail _ (List.Mem.head _)), (List.forall_mem_cons.mpr ⟨(List.Mem.head _), (fun q h => absurd h List.not_mem_nil)⟩)⟩)⟩)⟩)⟩) ?_
  refine L9 ((8 - 0 : Int).toNat + 1) s 0 0 0 0 I F (by first | exact ⟨And.intro (by decide) (by decide), And.intro (by decide) (by decide), by decide, by decide, by decide⟩ | omega) (Nat.lt_succ_self _) ?_
  intro s1 x2 x3 x4 x5 Is1 Fs1 hs1
  refine z_aload_n X (x := A 179) (show cdA 251 91 = some (.aload_n 0, 1, 0, 0, 0) from rfl) (List.Mem.head _) ?_
  refine z_callV X 179 (rm := rmN 249) (As := []) (st := []) (show cdA 251 92 = some (.invokevirtual 357, 3, 249, 0, 0) from rfl) rfl (by decide) rfl (by rw [E.1, E.2.1, E.2.2.1]; exact k_stepsCost G Is1 ) ⟨by rw [E.2.2.2]; exact (show (rmN 249).frames + 1 ≤ (rmN 251).frames by decide), by rw [E.2.2.2]; exact (show 8 + (mNL (miB 249) + 11) + (rmN 249).locals ≤ (rmN 251).locals by decide), by rw [E.2.2.2]; exact (show 0 + (rmN 249).cells ≤ (rmN 251).cells by decide), by rw [E.2.2.2]; exact (show 0 + (rmN 249).slots ≤ (rmN 251).slots by decide)⟩ (Nat.le_of_ble_eq_true rfl) (fun vv s6 hq => ?_) (fun ee s6 hq => ?_)
  rotate_left
  · obtain ⟨Is6, Fs6, e7, hv, hrs6, hps6⟩ := hq; cases hv
  obtain ⟨Is6, Fs6, e7, hv, hrs6, hps6⟩ := hq
  cases hv
  have Gs6 := fm_ts Fs1 Fs6 (by decide) (by decide)
  show WS k 95 [(0, .ref (A 179)), (1, .int (Int32.ofInt x2)), (2, .int (Int32.ofInt x3)), (3, .int (Int32.ofInt x4)), (4, .int (Int32.ofInt x5))] [.int (Int32.ofInt e7)] (Wd A dT s6) 0 0
  refine z_bipush X (show cdA 251 95 = some (.bipush 10, 2, 0, 0, 10) from rfl) ?_
  refine z_load_n X (x := x3) (show cdA 251 97 = some (.iload_n 2, 1, 0, 0, 0) from rfl) (List.Mem.tail _ (List.Mem.tail _ (List.Mem.head _))) ?_
  refine z_load_n X (x := x2) (show cdA 251 98 = some (.iload_n 1, 1, 0, 0, 0) from rfl) (List.Mem.tail _ (List.Mem.head _)) ?_
  refine z_sub X (show cdA 251 99 = some (.isub, 1, 0, 0, 0) from rfl) ?_
  refine z_any (fun y8 hy8 => ?_)
  refine z_mul X (show cdA 251 100 = some (.imul, 1, 0, 0, 0) from rfl) ?_
  refine z_any (fun y9 hy9 => ?_)
  refine z_add X (show cdA 251 101 = some (.iadd, 1, 0, 0, 0) from rfl) ?_
  refine z_any (fun y10 hy10 => ?_)
  exact w_iret X.1 q hRt rfl (ax_d X (show cdA 251 102 = some (.ireturn, 1, 0, 0, 0) from rfl)) (Nat.zero_le _) (Nat.zero_le _) ⟨_, rfl, Is6, Gs6, y10, rfl, hy10, trivial⟩
set_option maxRecDepth 4000 in
theorem k_costOf (G : GX l s0 D tys a0 dT) (I : Bd s) (jRLx : RLx s)  : CT l s0 D A dT 252 (rmN 252) [.ref (A 179)] s (fun o t => Bd t ∧ Fm [77, 75, 78, 79, 80, 81] [202, 204, 205, 206, 207, 208, 209, 210, 211, 212, 213, 214, 215, 216, 217, 218, 219, 220, 221, 222, 223, 224, 225, 226, 227, 203, 161, 230, 233] s t ∧ RLx t ∧ ∃ e, o = .inl (some (.int (Int32.ofInt e))) ∧ rng e ∧ (True)) := by
  refine ct_of G (by decide) (Nat.le_of_ble_eq_true rfl) (fun k X E hRt hXt q => ?_)
  show WS k 0 [(0, .ref (A 179))] [] _ 0 0
  have F : Fm [77, 75, 78, 79, 80, 81] [202, 204, 205, 206, 207, 208, 209, 210, 211, 212, 213, 214, 215, 216, 217, 218, 219, 220, 221, 222, 223, 224, 225, 226, 227, 203, 161, 230, 233] s s := fm_rf _ _ s
  refine z_aload_n X (x := A 179) (show cdA 252 0 = some (.aload_n 0, 1, 0, 0, 0) from rfl) (List.Mem.head _) ?_
  refine z_callV X 179 (rm := rmN 250) (As := []) (st := []) (show cdA 252 1 = some (.invokevirtual 360, 3, 250, 0, 0) from rfl) rfl (by decide) rfl (by rw [E.1, E.2.1, E.2.2.1]; exact k_findPeaks G I jRLx ) ⟨by rw [E.2.2.2]; exact (show (rmN 250).frames + 1 ≤ (rmN 252).frames by decide), by rw [E.2.2.2]; exact (show 8 + (mNL (miB 250) + 11) + (rmN 250).locals ≤ (rmN 252).locals by decide), by rw [E.2.2.2]; exact (show 0 + (rmN 250).cells ≤ (rmN 252).cells by decide), by rw [E.2.2.2]; exact (show 0 + (rmN 250).slots ≤ (rmN 252).slots by decide)⟩ (Nat.le_of_ble_eq_true rfl) (fun vv s1 hq => ?_) (fun ee s1 hq => ?_)
  rotate_left
  · obtain ⟨Is1, Fs1, JRLx_s1, hv, hps1⟩ := hq; cases hv
  obtain ⟨Is1, Fs1, JRLx_s1, hv, hps1⟩ := hq
  cases hv
  have Gs1 := fm_ts F Fs1 (by decide) (by decide)
  have JRLx_s1 : RLx s1 := RLx_fm Fs1 (by decide) jRLx
  show WS k 4 [(0, .ref (A 179))] [] (Wd A dT s1) 0 0
  refine z_aload_n X (x := A 179) (show cdA 252 4 = some (.aload_n 0, 1, 0, 0, 0) from rfl) (List.Mem.head _) ?_
  refine z_callV X 179 (rm := rmN 251) (As := []) (st := []) (show cdA 252 5 = some (.invokevirtual 363, 3, 251, 0, 0) from rfl) rfl (by decide) rfl (by rw [E.1, E.2.1, E.2.2.1]; exact k_costByPeaks G Is1 ) ⟨by rw [E.2.2.2]; exact (show (rmN 251).frames + 1 ≤ (rmN 252).frames by decide), by rw [E.2.2.2]; exact (show 8 + (mNL (miB 251) + 11) + (rmN 251).locals ≤ (rmN 252).locals by decide), by rw [E.2.2.2]; exact (show 0 + (rmN 251).cells ≤ (rmN 252).cells by decide), by rw [E.2.2.2]; exact (show 0 + (rmN 251).slots ≤ (rmN 252).slots by decide)⟩ (Nat.le_of_ble_eq_true rfl) (fun vv s3 hq => ?_) (fun ee s3 hq => ?_)
  rotate_left
  · obtain ⟨Is3, Fs3, e4, hv, hrs3, hps3⟩ := hq; cases hv
  obtain ⟨Is3, Fs3, e4, hv, hrs3, hps3⟩ := hq
  cases hv
  have Gs3 := fm_ts Gs1 Fs3 (by decide) (by decide)
  have JRLx_s3 : RLx s3 := RLx_fm Fs3 (by decide) JRLx_s1
  show WS k 8 [(0, .ref (A 179))] [.int (Int32.ofInt e4)] (Wd A dT s3) 0 0
  exact w_iret X.1 q hRt rfl (ax_d X (show cdA 252 8 = some (.ireturn, 1, 0, 0, 0) from rfl)) (Nat.zero_le _) (Nat.zero_le _) ⟨_, rfl, Is3, Gs3, JRLx_s3, e4, rfl, hrs3, trivial⟩
set_option maxRecDepth 4000 in
theorem k_cost (G : GX l s0 D tys a0 dT) (I : Bd s) (jRLx : RLx s)  : CT l s0 D A dT 253 (rmN 253) [.ref (A 179)] s (fun o t => Bd t ∧ Fm [73, 77, 75, 78, 79, 80, 81] [202, 204, 205, 206, 207, 208, 209, 210, 211, 212, 213, 214, 215, 216, 217, 218, 219, 220, 221, 222, 223, 224, 225, 226, 227, 203, 161, 230, 233] s t ∧ RLx t ∧ ∃ e, o = .inl (some (.int (Int32.ofInt e))) ∧ rng e ∧ (True)) := by
  refine ct_of G (by decide) (Nat.le_of_ble_eq_true rfl) (fun k X E hRt hXt q => ?_)
  show WS k 0 [(0, .ref (A 179))] [] _ 0 0
  have F : Fm [73, 77, 75, 78, 79, 80, 81] [202, 204, 205, 206, 207, 208, 209, 210, 211, 212, 213, 214, 215, 216, 217, 218, 219, 220, 221, 222, 223, 224, 225, 226, 227, 203, 161, 230, 233] s s := fm_rf _ _ s
  refine z_aload_n X (x := A 179) (show cdA 253 0 = some (.aload_n 0, 1, 0, 0, 0) from rfl) (List.Mem.head _) ?_
  refine z_const X (show cdA 253 1 = some (.iconst 0, 1, 0, 0, 0) from rfl) ?_
  refine s_putI X 179 (show cdA 253 2 = some (.putfield 172, 3, 12, 0, 0) from rfl) (by decide) rfl rfl (by decide) rfl rfl rfl ?_
  obtain ⟨s1, hs1⟩ : ∃ x0, x0 = uI s 73 (Int32.ofInt 0) := ⟨_, rfl⟩
  rw [← hs1]
  have Is1 : Bd s1 := by rw [hs1]; exact bd_I I (show (0 : Int) ≤ 0 ∧ 0 ≤ 3 by first | exact ⟨by decide, by decide⟩ | omega) (by decide)
  have Fs1 := fm_I (x := Int32.ofInt 0) F (show 73 ∈ _ by decide)
  rw [← hs1] at Fs1
  have vs1 : iI s1 73 = 0 := by rw [hs1]; exact iI_u (by decide)
  have fs1 : Fm [73] [] s s1 := by rw [hs1]; exact fm_I (fm_rf _ _ _) (show 73 ∈ _ by decide)
  have JRLx_s1 : RLx s1 := RLx_fm fs1 (by decide) jRLx
  refine z_aload_n X (x := A 179) (show cdA 253 5 = some (.aload_n 0, 1, 0, 0, 0) from rfl) (List.Mem.head _) ?_
  refine z_callV X 179 (rm := rmN 252) (As := []) (st := []) (show cdA 253 6 = some (.invokevirtual 366, 3, 252, 0, 0) from rfl) rfl (by decide) rfl (by rw [E.1, E.2.1, E.2.2.1]; exact k_costOf G Is1 JRLx_s1 ) ⟨by rw [E.2.2.2]; exact (show (rmN 252).frames + 1 ≤ (rmN 253).frames by decide), by rw [E.2.2.2]; exact (show 8 + (mNL (miB 252) + 11) + (rmN 252).locals ≤ (rmN 253).locals by decide), by rw [E.2.2.2]; exact (show 0 + (rmN 252).cells ≤ (rmN 253).cells by decide), by rw [E.2.2.2]; exact (show 0 + (rmN 252).slots ≤ (rmN 253).slots by decide)⟩ (Nat.le_of_ble_eq_true rfl) (fun vv s2 hq => ?_) (fun ee s2 hq => ?_)
  rotate_left
  · obtain ⟨Is2, Fs2, JRLx_s2, e3, hv, hrs2, hps2⟩ := hq; cases hv
  obtain ⟨Is2, Fs2, JRLx_s2, e3, hv, hrs2, hps2⟩ := hq
  cases hv
  have Gs2 := fm_ts Fs1 Fs2 (by decide) (by decide)
  have JRLx_s2 : RLx s2 := RLx_fm Fs2 (by decide) JRLx_s1
  show WS k 9 [(0, .ref (A 179))] [.int (Int32.ofInt e3)] (Wd A dT s2) 0 0
  exact w_iret X.1 q hRt rfl (ax_d X (show cdA 253 9 = some (.ireturn, 1, 0, 0, 0) from rfl)) (Nat.zero_le _) (Nat.zero_le _) ⟨_, rfl, Is2, Gs2, JRLx_s2, e3, rfl, hrs2, trivial⟩
set_option maxRecDepth 4000 in
theorem k_tries (G : GX l s0 D tys a0 dT) (I : Bd s) (jRLx : RLx s) {x y : Int} (p0 : 0 ≤ x ∧ x ≤ 127) (p1 : 0 ≤ y ∧ y ≤ 7) (p2 : iC s 228 (x : Int).toNat ≠ -1) : CT l s0 D A dT 255 (rmN 255) [.ref (A 179), .int (Int32.ofInt x), .int (Int32.ofInt y)] s (fun o t => Bd t ∧ Fm [77, 75, 78, 79, 80, 81, 92, 93, 94] [202, 204, 205, 206, 207, 208, 209, 210, 211, 212, 213, 214, 215, 216, 217, 218, 219, 220, 221, 222, 223, 224, 225, 226, 227, 203, 161, 230, 233, 231, 232, 228] s t ∧ RLx t ∧ o = .inl none ∧ (True)) := by
  refine ct_of G (by decide) (Nat.le_of_ble_eq_true rfl) (fun k X E hRt hXt q => ?_)
  show WS k 0 [(0, .ref (A 179)), (1, .int (Int32.ofInt x)), (2, .int (Int32.ofInt y))] [] _ 0 0
  have F : Fm [77, 75, 78, 79, 80, 81, 92, 93, 94] [202, 204, 205, 206, 207, 208, 209, 210, 211, 212, 213, 214, 215, 216, 217, 218, 219, 220, 221, 222, 223, 224, 225, 226, 227, 203, 161, 230, 233, 231, 232, 228] s s := fm_rf _ _ s
  refine z_aload_n X (x := A 179) (show cdA 255 0 = some (.aload_n 0, 1, 0, 0, 0) from rfl) (List.Mem.head _) ?_
  refine s_getR X 179 (show cdA 255 1 = some (.getfield 70, 3, 12, 35, 0) from rfl) (by decide) rfl rfl ?_
  refine z_load_n X (x := x) (show cdA 255 4 = some (.iload_n 1, 1, 0, 0, 0) from rfl) (List.Mem.tail _ (List.Mem.head _)) ?_
  refine z_ald X 256 (show cdA 255 5 = some (.iaload, 1, 0, 0, 0) from rfl) (by decide) rfl (by first | exact p0.1 | omega) (show x < 128 by first | exact oq_31b2bf10 p0.2 | omega) (by decide) ?_
  have b1 : ((-1) : Int) ≤ iC s 228 (x).toNat ∧ iC s 228 (x).toNat ≤ 7 := I.2 228 _ (show (x).toNat < 128 by first | exact oq_c7f4e9c1 p0.2 | omega)
  refine z_store_n X (lv' := [(3, .int (Int32.ofInt (iC s 228 (x).toNat))), (0, .ref (A 179)), (1, .int (Int32.ofInt x)), (2, .int (Int32.ofInt y))]) (show cdA 255 6 = some (.istore_n 3, 1, 0, 0, 0) from rfl) (by decide) (fun _ h => h) ?_
  refine z_aload_n X (x := A 179) (show cdA 255 7 = some (.aload_n 0, 1, 0, 0, 0) from rfl) (List.Mem.tail _ (List.Mem.head _)) ?_
  refine s_getR X 179 (show cdA 255 8 = some (.getfield 86, 3, 12, 40, 0) from rfl) (by decide) rfl rfl ?_
  refine z_load_n X (x := (iC s 228 (x).toNat)) (show cdA 255 11 = some (.iload_n 3, 1, 0, 0, 0) from rfl) (List.Mem.head _) ?_
  refine z_ald X 261 (show cdA 255 12 = some (.iaload, 1, 0, 0, 0) from rfl) (by decide) rfl (by first | exact oq_5234833b b1.1 p2 | omega) (show (iC s 228 (x).toNat) < 8 by first | exact oq_aaea290e b1.2 | omega) (by decide) ?_
  have b2 : ((-2147483648) : Int) ≤ iC s 233 ((iC s 228 (x).toNat)).toNat ∧ iC s 233 ((iC s 228 (x).toNat)).toNat ≤ 2147483647 := I.2 233 _ (show ((iC s 228 (x).toNat)).toNat < 8 by first | exact oq_c19a3aae b1.2 | omega)
  refine z_store X (lv' := [(4, .int (Int32.ofInt (iC s 233 ((iC s 228 (x).toNat)).toNat))), (3, .int (Int32.ofInt (iC s 228 (x).toNat))), (0, .ref (A 179)), (1, .int (Int32.ofInt x)), (2, .int (Int32.ofInt y))]) (show cdA 255 13 = some (.istore 4, 2, 0, 0, 0) from rfl) (by decide) (fun _ h => h) ?_
  refine z_aload_n X (x := A 179) (show cdA 255 15 = some (.aload_n 0, 1, 0, 0, 0) from rfl) (List.Mem.tail _ (List.Mem.tail _ (List.Mem.head _))) ?_
  refine s_getR X 179 (show cdA 255 16 = some (.getfield 86, 3, 12, 40, 0) from rfl) (by decide) rfl rfl ?_
  refine z_load_n X (x := y) (show cdA 255 19 = some (.iload_n 2, 1, 0, 0, 0) from rfl) (List.Mem.tail _ (List.Mem.tail _ (List.Mem.tail _ (List.Mem.tail _ (List.Mem.head _))))) ?_
  refine z_ald X 261 (show cdA 255 20 = some (.iaload, 1, 0, 0, 0) from rfl) (by decide) rfl (by first | exact p1.1 | omega) (show y < 8 by first | exact oq_aaea290e p1.2 | omega) (by decide) ?_
  have b3 : ((-2147483648) : Int) ≤ iC s 233 (y).toNat ∧ iC s 233 (y).toNat ≤ 2147483647 := I.2 233 _ (show (y).toNat < 8 by first | exact oq_c19a3aae p1.2 | omega)
  refine z_store X (lv' := [(5, .int (Int32.ofInt (iC s 233 (y).toNat))), (4, .int (Int32.ofInt (iC s 233 ((iC s 228 (x).toNat)).toNat))), (3, .int (Int32.ofInt (iC s 228 (x).toNat))), (0, .ref (A 179)), (1, .int (Int32.ofInt x)), (2, .int (Int32.ofInt y))]) (show cdA 255 21 = some (.istore 5, 2, 0, 0, 0) from rfl) (by decide) (fun _ h => h) ?_
  refine z_aload_n X (x := A 179) (show cdA 255 23 = some (.aload_n 0, 1, 0, 0, 0) from rfl) (List.Mem.tail _ (List.Mem.tail _ (List.Mem.tail _ (List.Mem.head _)))) ?_
  refine s_getR X 179 (show cdA 255 24 = some (.getfield 70, 3, 12, 35, 0) from rfl) (by decide) rfl rfl ?_
  refine z_load_n X (x := x) (show cdA 255 27 = some (.iload_n 1, 1, 0, 0, 0) from rfl) (List.Mem.tail _ (List.Mem.tail _ (List.Mem.tail _ (List.Mem.tail _ (List.Mem.head _))))) ?_
  refine z_load_n X (x := y) (show cdA 255 28 = some (.iload_n 2, 1, 0, 0, 0) from rfl) (List.Mem.tail _ (List.Mem.tail _ (List.Mem.tail _ (List.Mem.tail _ (List.Mem.tail _ (List.Mem.head _)))))) ?_
  refine z_ast X 256 (show cdA 255 29 = some (.iastore, 1, 0, 0, 0) from rfl) (by decide) rfl (by first | exact p0.1 | omega) (show x < 128 by first | exact oq_31b2bf10 p0.2 | omega) (by decide) ?_
  obtain ⟨s4, hs4⟩ : ∃ x0, x0 = uC s 228 (x).toNat (Int32.ofInt y) := ⟨_, rfl⟩
  rw [← hs4]
  have Is4 : Bd s4 := by rw [hs4]; exact bd_C I (show ((-1) : Int) ≤ y ∧ y ≤ 7 by first | exact ⟨oq_ca54ea22 p1.1, p1.2⟩ | omega) ⟨by first | exact oq_fa4e5087 p1.1 | omega, by first | exact oq_0e78ca7d p1.2 | omega⟩
  have Fs4 := fm_C (i := (x).toNat) (x := Int32.ofInt y) F (show 228 ∈ _ by decide)
  rw [← hs4] at Fs4
  have fs4 : Fm [] [228] s s4 := by rw [hs4]; exact fm_C (fm_rf _ _ _) (show 228 ∈ _ by decide)
  have JRLx_s4 : RLx s4 := RLx_fm fs4 (by decide) jRLx
  refine z_aload_n X (x := A 179) (show cdA 255 30 = some (.aload_n 0, 1, 0, 0, 0) from rfl) (List.Mem.tail _ (List.Mem.tail _ (List.Mem.tail _ (List.Mem.head _)))) ?_
  refine z_load_n X (x := (iC s 228 (x).toNat)) (show cdA 255 31 = some (.iload_n 3, 1, 0, 0, 0) from rfl) (List.Mem.tail _ (List.Mem.tail _ (List.Mem.head _))) ?_
  refine z_callV X 179 (rm := rmN 233) (As := [.int (Int32.ofInt (iC s 228 (x).toNat))]) (st := []) (show cdA 255 32 = some (.invokevirtual 351, 3, 233, 0, 0) from rfl) rfl (by decide) rfl (by rw [E.1, E.2.1, E.2.2.1]; exact k_hasCells G Is4 (by first | exact ⟨oq_97ee2c2a b1.1, oq_0e78ca7d b1.2⟩ | omega)) ⟨by rw [E.2.2.2]; exact (show (rmN 233).frames + 1 ≤ (rmN 255).frames by decide), by rw [E.2.2.2]; exact (show 8 + (mNL (miB 233) + 11) + (rmN 233).locals ≤ (rmN 255).locals by decide), by rw [E.2.2.2]; exact (show 0 + (rmN 233).cells ≤ (rmN 255).cells by decide), by rw [E.2.2.2]; exact (show 0 + (rmN 233).slots ≤ (rmN 255).slots by decide)⟩ (Nat.le_of_ble_eq_true rfl) (fun vv s5 hq => ?_) (fun ee s5 hq => ?_)
  rotate_left
  · obtain ⟨Is5, Fs5, e6, hv, hrs5, hps5⟩ := hq; cases hv
  obtain ⟨Is5, Fs5, e6, hv, hrs5, hps5⟩ := hq
  cases hv
  have Gs5 := fm_ts Fs4 Fs5 (by decide) (by decide)
  have JRLx_s5 : RLx s5 := RLx_fm Fs5 (by decide) JRLx_s4
  show WS k 35 [(5, .int (Int32.ofInt (iC s 233 (y).toNat))), (4, .int (Int32.ofInt (iC s 233 ((iC s 228 (x).toNat)).toNat))), (3, .int (Int32.ofInt (iC s 228 (x).toNat))), (0, .ref (A 179)), (1, .int (Int32.ofInt x)), (2, .int (Int32.ofInt y))] [.int (Int32.ofInt e6)] (Wd A dT s5) 0 0
  refine z_if_eq X (t := 137) (show cdA 255 35 = some (.ifCond .eq 102, 3, 0, 0, 0) from rfl) (by decide) hrs5 (fun g7 => ?_) (fun g7 => ?_)
  ·
    refine z_aload_n X (x := A 179) (show cdA 255 137 = some (.aload_n 0, 1, 0, 0, 0) from rfl) (List.Mem.tail _ (List.Mem.tail _ (List.Mem.tail _ (List.Mem.head _)))) ?_
    refine s_getR X 179 (show cdA 255 138 = some (.getfield 70, 3, 12, 35, 0) from rfl) (by decide) rfl rfl ?_
    refine z_load_n X (x := x) (show cdA 255 141 = some (.iload_n 1, 1, 0, 0, 0) from rfl) (List.Mem.tail _ (List.Mem.tail _ (List.Mem.tail _ (List.Mem.tail _ (List.Mem.head _))))) ?_
    refine z_load_n X (x := (iC s 228 (x).toNat)) (show cdA 255 142 = some (.iload_n 3, 1, 0, 0, 0) from rfl) (List.Mem.tail _ (List.Mem.tail _ (List.Mem.head _))) ?_
    refine z_ast X 256 (show cdA 255 143 = some (.iastore, 1, 0, 0, 0) from rfl) (by decide) rfl (by first | exact p0.1 | omega) (show x < 128 by first | exact oq_31b2bf10 p0.2 | omega) (by decide) ?_
    obtain ⟨s8, hs8⟩ : ∃ x0, x0 = uC s5 228 (x).toNat (Int32.ofInt (iC s 228 (x).toNat)) := ⟨_, rfl⟩
    rw [← hs8]
    have Is8 : Bd s8 := by rw [hs8]; exact bd_C Is5 (show ((-1) : Int) ≤ (iC s 228 (x).toNat) ∧ (iC s 228 (x).toNat) ≤ 7 by first | exact ⟨b1.1, b1.2⟩ | omega) (rng_to _)
    have Fs8 := fm_C (i := (x).toNat) (x := Int32.ofInt (iC s 228 (x).toNat)) Gs5 (show 228 ∈ _ by decide)
    rw [← hs8] at Fs8
    have fs8 : Fm [] [228] s5 s8 := by rw [hs8]; exact fm_C (fm_rf _ _ _) (show 228 ∈ _ by decide)
    have JRLx_s8 : RLx s8 := RLx_fm fs8 (by decide) JRLx_s5
    refine z_aload_n X (x := A 179) (show cdA 255 144 = some (.aload_n 0, 1, 0, 0, 0) from rfl) (List.Mem.tail _ (List.Mem.tail _ (List.Mem.tail _ (List.Mem.head _)))) ?_
    refine s_getR X 179 (show cdA 255 145 = some (.getfield 86, 3, 12, 40, 0) from rfl) (by decide) rfl rfl ?_
    refine z_load_n X (x := (iC s 228 (x).toNat)) (show cdA 255 148 = some (.iload_n 3, 1, 0, 0, 0) from rfl) (List.Mem.tail _ (List.Mem.tail _ (List.Mem.head _))) ?_
    refine z_load X (x := (iC s 233 ((iC s 228 (x).toNat)).toNat)) (show cdA 255 149 = some (.iload 4, 2, 0, 0, 0) from rfl) (List.Mem.tail _ (List.Mem.head _)) ?_
    refine z_ast X 261 (show cdA 255 151 = some (.iastore, 1, 0, 0, 0) from rfl) (by decide) rfl (by first | exact oq_5234833b b1.1 p2 | omega) (show (iC s 228 (x).toNat) < 8 by first | exact oq_aaea290e b1.2 | omega) (by decide) ?_
    obtain ⟨s9, hs9⟩ : ∃ x0, x0 = uC s8 233 ((iC s 228 (x).toNat)).toNat (Int32.ofInt (iC s 233 ((iC s 228 (x).toNat)).toNat)) := ⟨_, rfl⟩
    rw [← hs9]
    have Is9 : Bd s9 := by rw [hs9]; exact bd_C Is8 (show ((-2147483648) : Int) ≤ (iC s 233 ((iC s 228 (x).toNat)).toNat) ∧ (iC s 233 ((iC s 228 (x).toNat)).toNat) ≤ 2147483647 by first | exact ⟨b2.1, b2.2⟩ | omega) (rng_to _)
    have Fs9 := fm_C (i := ((iC s 228 (x).toNat)).toNat) (x := Int32.ofInt (iC s 233 ((iC s 228 (x).toNat)).toNat)) Fs8 (show 233 ∈ _ by decide)
    rw [← hs9] at Fs9
    have fs9 : Fm [] [233] s8 s9 := by rw [hs9]; exact fm_C (fm_rf _ _ _) (show 233 ∈ _ by decide)
    have JRLx_s9 : RLx s9 := RLx_fm fs9 (by decide) JRLx_s8
    refine z_aload_n X (x := A 179) (show cdA 255 152 = some (.aload_n 0, 1, 0, 0, 0) from rfl) (List.Mem.tail _ (List.Mem.tail _ (List.Mem.tail _ (List.Mem.head _)))) ?_
    refine s_getR X 179 (show cdA 255 153 = some (.getfield 86, 3, 12, 40, 0) from rfl) (by decide) rfl rfl ?_
    refine z_load_n X (x := y) (show cdA 255 156 = some (.iload_n 2, 1, 0, 0, 0) from rfl) (List.Mem.tail _ (List.Mem.tail _ (List.Mem.tail _ (List.Mem.tail _ (List.Mem.tail _ (List.Mem.head _)))))) ?_
    refine z_load X (x := (iC s 233 (y).toNat)) (show cdA 255 157 = some (.iload 5, 2, 0, 0, 0) from rfl) (List.Mem.head _) ?_
    refine z_ast X 261 (show cdA 255 159 = some (.iastore, 1, 0, 0, 0) from rfl) (by decide) rfl (by first | exact p1.1 | omega) (show y < 8 by first | exact oq_aaea290e p1.2 | omega) (by decide) ?_
    obtain ⟨s10, hs10⟩ : ∃ x0, x0 = uC s9 233 (y).toNat (Int32.ofInt (iC s 233 (y).toNat)) := ⟨_, rfl⟩
    rw [← hs10]
    have Is10 : Bd s10 := by rw [hs10]; exact bd_C Is9 (show ((-2147483648) : Int) ≤ (iC s 233 (y).toNat) ∧ (iC s 233 (y).toNat) ≤ 2147483647 by first | exact ⟨b3.1, b3.2⟩ | omega) (rng_to _)
    have Fs10 := fm_C (i := (y).toNat) (x := Int32.ofInt (iC s 233 (y).toNat)) Fs9 (show 233 ∈ _ by decide)
    rw [← hs10] at Fs10
    have fs10 : Fm [] [233] s9 s10 := by rw [hs10]; exact fm_C (fm_rf _ _ _) (show 233 ∈ _ by decide)
    have JRLx_s10 : RLx s10 := RLx_fm fs10 (by decide) JRLx_s9
    exact w_vret X.1 q hRt (ax_d X (show cdA 255 160 = some (.return_, 1, 0, 0, 0) from rfl)) (Nat.zero_le _) (Nat.zero_le _) ⟨_, rfl, Is10, Fs10, JRLx_s10, rfl, trivial⟩
  ·
    refine z_aload_n X (x := A 179) (show cdA 255 38 = some (.aload_n 0, 1, 0, 0, 0) from rfl) (List.Mem.tail _ (List.Mem.tail _ (List.Mem.tail _ (List.Mem.head _)))) ?_
    refine z_load_n X (x := (iC s 228 (x).toNat)) (show cdA 255 39 = some (.iload_n 3, 1, 0, 0, 0) from rfl) (List.Mem.tail _ (List.Mem.tail _ (List.Mem.head _))) ?_
    refine z_callV X 179 (rm := rmN 240) (As := [.int (Int32.ofInt (iC s 228 (x).toNat))]) (st := []) (show cdA 255 40 = some (.invokevirtual 342, 3, 240, 0, 0) from rfl) rfl (by decide) rfl (by rw [E.1, E.2.1, E.2.2.1]; exact k_isWhole G Is5 (by first | exact ⟨oq_97ee2c2a b1.1, oq_0e78ca7d b1.2⟩ | omega)) ⟨by rw [E.2.2.2]; exact (show (rmN 240).frames + 1 ≤ (rmN 255).frames by decide), by rw [E.2.2.2]; exact (show 8 + (mNL (miB 240) + 11) + (rmN 240).locals ≤ (rmN 255).locals by decide), by rw [E.2.2.2]; exact (show 0 + (rmN 240).cells ≤ (rmN 255).cells by decide), by rw [E.2.2.2]; exact (show 0 + (rmN 240).slots ≤ (rmN 255).slots by decide)⟩ (Nat.le_of_ble_eq_true rfl) (fun vv s11 hq => ?_) (fun ee s11 hq => ?_)
    rotate_left
    · obtain ⟨Is11, Fs11, e12, hv, hrs11, hps11⟩ := hq; cases hv
    obtain ⟨Is11, Fs11, e12, hv, hrs11, hps11⟩ := hq
    cases hv
    have Gs11 := fm_ts Gs5 Fs11 (by decide) (by decide)
    have JRLx_s11 : RLx s11 := RLx_fm Fs11 (by decide) JRLx_s5
    show WS k 43 [(5, .int (Int32.ofInt (iC s 233 (y).toNat))), (4, .int (Int32.ofInt (iC s 233 ((iC s 228 (x).toNat)).toNat))), (3, .int (Int32.ofInt (iC s 228 (x).toNat))), (0, .ref (A 179)), (1, .int (Int32.ofInt x)), (2, .int (Int32.ofInt y))] [.int (Int32.ofInt e12)] (Wd A dT s11) 0 0
    refine z_if_eq X (t := 137) (show cdA 255 43 = some (.ifCond .eq 94, 3, 0, 0, 0) from rfl) (by decide) hrs11 (fun g13 => ?_) (fun g13 => ?_)
    ·
      refine z_aload_n X (x := A 179) (show cdA 255 137 = some (.aload_n 0, 1, 0, 0, 0) from rfl) (List.Mem.tail _ (List.Mem.tail _ (List.Mem.tail _ (List.Mem.head _)))) ?_
      refine s_getR X 179 (show cdA 255 138 = some (.getfield 70, 3, 12, 35, 0) from rfl) (by decide) rfl rfl ?_
      refine z_load_n X (x := x) (show cdA 255 141 = some (.iload_n 1, 1, 0, 0, 0) from rfl) (List.Mem.tail _ (List.Mem.tail _ (List.Mem.tail _ (List.Mem.tail _ (List.Mem.head _))))) ?_
      refine z_load_n X (x := (iC s 228 (x).toNat)) (show cdA 255 142 = some (.iload_n 3, 1, 0, 0, 0) from rfl) (List.Mem.tail _ (List.Mem.tail _ (List.Mem.head _))) ?_
      refine z_ast X 256 (show cdA 255 143 = some (.iastore, 1, 0, 0, 0) from rfl) (by decide) rfl (by first | exact p0.1 | omega) (show x < 128 by first | exact oq_31b2bf10 p0.2 | omega) (by decide) ?_
      obtain ⟨s14, hs14⟩ : ∃ x0, x0 = uC s11 228 (x).toNat (Int32.ofInt (iC s 228 (x).toNat)) := ⟨_, rfl⟩
      rw [← hs14]
      have Is14 : Bd s14 := by rw [hs14]; exact bd_C Is11 (show ((-1) : Int) ≤ (iC s 228 (x).toNat) ∧ (iC s 228 (x).toNat) ≤ 7 by first | exact ⟨b1.1, b1.2⟩ | omega) (rng_to _)
      have Fs14 := fm_C (i := (x).toNat) (x := Int32.ofInt (iC s 228 (x).toNat)) Gs11 (show 228 ∈ _ by decide)
      rw [← hs14] at Fs14
      have fs14 : Fm [] [228] s11 s14 := by rw [hs14]; exact fm_C (fm_rf _ _ _) (show 228 ∈ _ by decide)
      have JRLx_s14 : RLx s14 := RLx_fm fs14 (by decide) JRLx_s11
      refine z_aload_n X (x := A 179) (show cdA 255 144 = some (.aload_n 0, 1, 0, 0, 0) from rfl) (List.Mem.tail _ (List.Mem.tail _ (List.Mem.tail _ (List.Mem.head _)))) ?_
      refine s_getR X 179 (show cdA 255 145 = some (.getfield 86, 3, 12, 40, 0) from rfl) (by decide) rfl rfl ?_
      refine z_load_n X (x := (iC s 228 (x).toNat)) (show cdA 255 148 = some (.iload_n 3, 1, 0, 0, 0) from rfl) (List.Mem.tail _ (List.Mem.tail _ (List.Mem.head _))) ?_
      refine z_load X (x := (iC s 233 ((iC s 228 (x).toNat)).toNat)) (show cdA 255 149 = some (.iload 4, 2, 0, 0, 0) from rfl) (List.Mem.tail _ (List.Mem.head _)) ?_
      refine z_ast X 261 (show cdA 255 151 = some (.iastore, 1, 0, 0, 0) from rfl) (by decide) rfl (by first | exact oq_5234833b b1.1 p2 | omega) (show (iC s 228 (x).toNat) < 8 by first | exact oq_aaea290e b1.2 | omega) (by decide) ?_
      obtain ⟨s15, hs15⟩ : ∃ x0, x0 = uC s14 233 ((iC s 228 (x).toNat)).toNat (Int32.ofInt (iC s 233 ((iC s 228 (x).toNat)).toNat)) := ⟨_, rfl⟩
      rw [← hs15]
      have Is15 : Bd s15 := by rw [hs15]; exact bd_C Is14 (show ((-2147483648) : Int) ≤ (iC s 233 ((iC s 228 (x).toNat)).toNat) ∧ (iC s 233 ((iC s 228 (x).toNat)).toNat) ≤ 2147483647 by first | exact ⟨b2.1, b2.2⟩ | omega) (rng_to _)
      have Fs15 := fm_C (i := ((iC s 228 (x).toNat)).toNat) (x := Int32.ofInt (iC s 233 ((iC s 228 (x).toNat)).toNat)) Fs14 (show 233 ∈ _ by decide)
      rw [← hs15] at Fs15
      have fs15 : Fm [] [233] s14 s15 := by rw [hs15]; exact fm_C (fm_rf _ _ _) (show 233 ∈ _ by decide)
      have JRLx_s15 : RLx s15 := RLx_fm fs15 (by decide) JRLx_s14
      refine z_aload_n X (x := A 179) (show cdA 255 152 = some (.aload_n 0, 1, 0, 0, 0) from rfl) (List.Mem.tail _ (List.Mem.tail _ (List.Mem.tail _ (List.Mem.head _)))) ?_
      refine s_getR X 179 (show cdA 255 153 = some (.getfield 86, 3, 12, 40, 0) from rfl) (by decide) rfl rfl ?_
      refine z_load_n X (x := y) (show cdA 255 156 = some (.iload_n 2, 1, 0, 0, 0) from rfl) (List.Mem.tail _ (List.Mem.tail _ (List.Mem.tail _ (List.Mem.tail _ (List.Mem.tail _ (List.Mem.head _)))))) ?_
      refine z_load X (x := (iC s 233 (y).toNat)) (show cdA 255 157 = some (.iload 5, 2, 0, 0, 0) from rfl) (List.Mem.head _) ?_
      refine z_ast X 261 (show cdA 255 159 = some (.iastore, 1, 0, 0, 0) from rfl) (by decide) rfl (by first | exact p1.1 | omega) (show y < 8 by first | exact oq_aaea290e p1.2 | omega) (by decide) ?_
      obtain ⟨s16, hs16⟩ : ∃ x0, x0 = uC s15 233 (y).toNat (Int32.ofInt (iC s 233 (y).toNat)) := ⟨_, rfl⟩
      rw [← hs16]
      have Is16 : Bd s16 := by rw [hs16]; exact bd_C Is15 (show ((-2147483648) : Int) ≤ (iC s 233 (y).toNat) ∧ (iC s 233 (y).toNat) ≤ 2147483647 by first | exact ⟨b3.1, b3.2⟩ | omega) (rng_to _)
      have Fs16 := fm_C (i := (y).toNat) (x := Int32.ofInt (iC s 233 (y).toNat)) Fs15 (show 233 ∈ _ by decide)
      rw [← hs16] at Fs16
      have fs16 : Fm [] [233] s15 s16 := by rw [hs16]; exact fm_C (fm_rf _ _ _) (show 233 ∈ _ by decide)
      have JRLx_s16 : RLx s16 := RLx_fm fs16 (by decide) JRLx_s15
      exact w_vret X.1 q hRt (ax_d X (show cdA 255 160 = some (.return_, 1, 0, 0, 0) from rfl)) (Nat.zero_le _) (Nat.zero_le _) ⟨_, rfl, Is16, Fs16, JRLx_s16, rfl, trivial⟩
    ·
      refine z_aload_n X (x := A 179) (show cdA 255 46 = some (.aload_n 0, 1, 0, 0, 0) from rfl) (List.Mem.tail _ (List.Mem.tail _ (List.Mem.tail _ (List.Mem.head _)))) ?_
      refine z_load_n X (x := y) (show cdA 255 47 = some (.iload_n 2, 1, 0, 0, 0) from rfl) (List.Mem.tail _ (List.Mem.tail _ (List.Mem.tail _ (List.Mem.tail _ (List.Mem.tail _ (List.Mem.head _)))))) ?_
      refine z_callV X 179 (rm := rmN 240) (As := [.int (Int32.ofInt y)]) (st := []) (show cdA 255 48 = some (.invokevirtual 342, 3, 240, 0, 0) from rfl) rfl (by decide) rfl (by rw [E.1, E.2.1, E.2.2.1]; exact k_isWhole G Is11 (by first | exact ⟨oq_fa4e5087 p1.1, oq_0e78ca7d p1.2⟩ | omega)) ⟨by rw [E.2.2.2]; exact (show (rmN 240).frames + 1 ≤ (rmN 255).frames by decide), by rw [E.2.2.2]; exact (show 8 + (mNL (miB 240) + 11) + (rmN 240).locals ≤ (rmN 255).locals by decide), by rw [E.2.2.2]; exact (show 0 + (rmN 240).cells ≤ (rmN 255).cells by decide), by rw [E.2.2.2]; exact (show 0 + (rmN 240).slots ≤ (rmN 255).slots by decide)⟩ (Nat.le_of_ble_eq_true rfl) (fun vv s17 hq => ?_) (fun ee s17 hq => ?_)
      rotate_left
      · obtain ⟨Is17, Fs17, e18, hv, hrs17, hps17⟩ := hq; cases hv
      obtain ⟨Is17, Fs17, e18, hv, hrs17, hps17⟩ := hq
      cases hv
      have Gs17 := fm_ts Gs11 Fs17 (by decide) (by decide)
      have JRLx_s17 : RLx s17 := RLx_fm Fs17 (by decide) JRLx_s11
      show WS k 51 [(5, .int (Int32.ofInt (iC s 233 (y).toNat))), (4, .int (Int32.ofInt (iC s 233 ((iC s 228 (x).toNat)).toNat))), (3, .int (Int32.ofInt (iC s 228 (x).toNat))), (0, .ref (A 179)), (1, .int (Int32.ofInt x)), (2, .int (Int32.ofInt y))] [.int (Int32.ofInt e18)] (Wd A dT s17) 0 0
      refine z_if_eq X (t := 137) (show cdA 255 51 = some (.ifCond .eq 86, 3, 0, 0, 0) from rfl) (by decide) hrs17 (fun g19 => ?_) (fun g19 => ?_)
      ·
        refine z_aload_n X (x := A 179) (show cdA 255 137 = some (.aload_n 0, 1, 0, 0, 0) from rfl) (List.Mem.tail _ (List.Mem.tail _ (List.Mem.tail _ (List.Mem.head _)))) ?_
        refine s_getR X 179 (show cdA 255 138 = some (.getfield 70, 3, 12, 35, 0) from rfl) (by decide) rfl rfl ?_
        refine z_load_n X (x := x) (show cdA 255 141 = some (.iload_n 1, 1, 0, 0, 0) from rfl) (List.Mem.tail _ (List.Mem.tail _ (List.Mem.tail _ (List.Mem.tail _ (List.Mem.head _))))) ?_
        refine z_load_n X (x := (iC s 228 (x).toNat)) (show cdA 255 142 = some (.iload_n 3, 1, 0, 0, 0) from rfl) (List.Mem.tail _ (List.Mem.tail _ (List.Mem.head _))) ?_
        refine z_ast X 256 (show cdA 255 143 = some (.iastore, 1, 0, 0, 0) from rfl) (by decide) rfl (by first | exact p0.1 | omega) (show x < 128 by first | exact oq_31b2bf10 p0.2 | omega) (by decide) ?_
        obtain ⟨s20, hs20⟩ : ∃ x0, x0 = uC s17 228 (x).toNat (Int32.ofInt (iC s 228 (x).toNat)) := ⟨_, rfl⟩
        rw [← hs20]
        have Is20 : Bd s20 := by rw [hs20]; exact bd_C Is17 (show ((-1) : Int) ≤ (iC s 228 (x).toNat) ∧ (iC s 228 (x).toNat) ≤ 7 by first | exact ⟨b1.1, b1.2⟩ | omega) (rng_to _)
        have Fs20 := fm_C (i := (x).toNat) (x := Int32.ofInt (iC s 228 (x).toNat)) Gs17 (show 228 ∈ _ by decide)
        rw [← hs20] at Fs20
        have fs20 : Fm [] [228] s17 s20 := by rw [hs20]; exact fm_C (fm_rf _ _ _) (show 228 ∈ _ by decide)
        have JRLx_s20 : RLx s20 := RLx_fm fs20 (by decide) JRLx_s17
        refine z_aload_n X (x := A 179) (show cdA 255 144 = some (.aload_n 0, 1, 0, 0, 0) from rfl) (List.Mem.tail _ (List.Mem.tail _ (List.Mem.tail _ (List.Mem.head _)))) ?_
        refine s_getR X 179 (show cdA 255 145 = some (.getfield 86, 3, 12, 40, 0) from rfl) (by decide) rfl rfl ?_
        refine z_load_n X (x := (iC s 228 (x).toNat)) (show cdA 255 148 = some (.iload_n 3, 1, 0, 0, 0) from rfl) (List.Mem.tail _ (List.Mem.tail _ (List.Mem.head _))) ?_
        refine z_load X (x := (iC s 233 ((iC s 228 (x).toNat)).toNat)) (show cdA 255 149 = some (.iload 4, 2, 0, 0, 0) from rfl) (List.Mem.tail _ (List.Mem.head _)) ?_
        refine z_ast X 261 (show cdA 255 151 = some (.iastore, 1, 0, 0, 0) from rfl) (by decide) rfl (by first | exact oq_5234833b b1.1 p2 | omega) (show (iC s 228 (x).toNat) < 8 by first | exact oq_aaea290e b1.2 | omega) (by decide) ?_
        obtain ⟨s21, hs21⟩ : ∃ x0, x0 = uC s20 233 ((iC s 228 (x).toNat)).toNat (Int32.ofInt (iC s 233 ((iC s 228 (x).toNat)).toNat)) := ⟨_, rfl⟩
        rw [← hs21]
        have Is21 : Bd s21 := by rw [hs21]; exact bd_C Is20 (show ((-2147483648) : Int) ≤ (iC s 233 ((iC s 228 (x).toNat)).toNat) ∧ (iC s 233 ((iC s 228 (x).toNat)).toNat) ≤ 2147483647 by first | exact ⟨b2.1, b2.2⟩ | omega) (rng_to _)
        have Fs21 := fm_C (i := ((iC s 228 (x).toNat)).toNat) (x := Int32.ofInt (iC s 233 ((iC s 228 (x).toNat)).toNat)) Fs20 (show 233 ∈ _ by decide)
        rw [← hs21] at Fs21
        have fs21 : Fm [] [233] s20 s21 := by rw [hs21]; exact fm_C (fm_rf _ _ _) (show 233 ∈ _ by decide)
        have JRLx_s21 : RLx s21 := RLx_fm fs21 (by decide) JRLx_s20
        refine z_aload_n X (x := A 179) (show cdA 255 152 = some (.aload_n 0, 1, 0, 0, 0) from rfl) (List.Mem.tail _ (List.Mem.tail _ (List.Mem.tail _ (List.Mem.head _)))) ?_
        refine s_getR X 179 (show cdA 255 153 = some (.getfield 86, 3, 12, 40, 0) from rfl) (by decide) rfl rfl ?_
        refine z_load_n X (x := y) (show cdA 255 156 = some (.iload_n 2, 1, 0, 0, 0) from rfl) (List.Mem.tail _ (List.Mem.tail _ (List.Mem.tail _ (List.Mem.tail _ (List.Mem.tail _ (List.Mem.head _)))))) ?_
        refine z_load X (x := (iC s 233 (y).toNat)) (show cdA 255 157 = some (.iload 5, 2, 0, 0, 0) from rfl) (List.Mem.head _) ?_
        refine z_ast X 261 (show cdA 255 159 = some (.iastore, 1, 0, 0, 0) from rfl) (by decide) rfl (by first | exact p1.1 | omega) (show y < 8 by first | exact oq_aaea290e p1.2 | omega) (by decide) ?_
        obtain ⟨s22, hs22⟩ : ∃ x0, x0 = uC s21 233 (y).toNat (Int32.ofInt (iC s 233 (y).toNat)) := ⟨_, rfl⟩
        rw [← hs22]
        have Is22 : Bd s22 := by rw [hs22]; exact bd_C Is21 (show ((-2147483648) : Int) ≤ (iC s 233 (y).toNat) ∧ (iC s 233 (y).toNat) ≤ 2147483647 by first | exact ⟨b3.1, b3.2⟩ | omega) (rng_to _)
        have Fs22 := fm_C (i := (y).toNat) (x := Int32.ofInt (iC s 233 (y).toNat)) Fs21 (show 233 ∈ _ by decide)
        rw [← hs22] at Fs22
        have fs22 : Fm [] [233] s21 s22 := by rw [hs22]; exact fm_C (fm_rf _ _ _) (show 233 ∈ _ by decide)
        have JRLx_s22 : RLx s22 := RLx_fm fs22 (by decide) JRLx_s21
        exact w_vret X.1 q hRt (ax_d X (show cdA 255 160 = some (.return_, 1, 0, 0, 0) from rfl)) (Nat.zero_le _) (Nat.zero_le _) ⟨_, rfl, Is22, Fs22, JRLx_s22, rfl, trivial⟩
      ·
        refine z_aload_n X (x := A 179) (show cdA 255 54 = some (.aload_n 0, 1, 0, 0, 0) from rfl) (List.Mem.tail _ (List.Mem.tail _ (List.Mem.tail _ (List.Mem.head _)))) ?_
        refine s_getR X 179 (show cdA 255 55 = some (.getfield 86, 3, 12, 40, 0) from rfl) (by decide) rfl rfl ?_
        refine z_load_n X (x := (iC s 228 (x).toNat)) (show cdA 255 58 = some (.iload_n 3, 1, 0, 0, 0) from rfl) (List.Mem.tail _ (List.Mem.tail _ (List.Mem.head _))) ?_
        refine z_aload_n X (x := A 179) (show cdA 255 59 = some (.aload_n 0, 1, 0, 0, 0) from rfl) (List.Mem.tail _ (List.Mem.tail _ (List.Mem.tail _ (List.Mem.head _)))) ?_
        refine z_load_n X (x := (iC s 228 (x).toNat)) (show cdA 255 60 = some (.iload_n 3, 1, 0, 0, 0) from rfl) (List.Mem.tail _ (List.Mem.tail _ (List.Mem.head _))) ?_
        refine z_callV X 179 (rm := rmN 232) (As := [.int (Int32.ofInt (iC s 228 (x).toNat))]) (st := [.int (Int32.ofInt (iC s 228 (x).toNat)), .ref (A 261)]) (show cdA 255 61 = some (.invokevirtual 336, 3, 232, 0, 0) from rfl) rfl (by decide) rfl (by rw [E.1, E.2.1, E.2.2.1]; exact k_peakOfPiece G Is17 JRLx_s17 (by first | exact ⟨oq_97ee2c2a b1.1, oq_0e78ca7d b1.2⟩ | omega)) ⟨by rw [E.2.2.2]; exact (show (rmN 232).frames + 1 ≤ (rmN 255).frames by decide), by rw [E.2.2.2]; exact (show 8 + (mNL (miB 232) + 11) + (rmN 232).locals ≤ (rmN 255).locals by decide), by rw [E.2.2.2]; exact (show 0 + (rmN 232).cells ≤ (rmN 255).cells by decide), by rw [E.2.2.2]; exact (show 0 + (rmN 232).slots ≤ (rmN 255).slots by decide)⟩ (Nat.le_of_ble_eq_true rfl) (fun vv s23 hq => ?_) (fun ee s23 hq => ?_)
        rotate_left
        · obtain ⟨Is23, Fs23, JRLx_s23, e24, hv, hrs23, hps23⟩ := hq; cases hv
        obtain ⟨Is23, Fs23, JRLx_s23, e24, hv, hrs23, hps23⟩ := hq
        cases hv
        have Gs23 := fm_ts Gs17 Fs23 (by decide) (by decide)
        have JRLx_s23 : RLx s23 := RLx_fm Fs23 (by decide) JRLx_s17
        show WS k 64 [(5, .int (Int32.ofInt (iC s 233 (y).toNat))), (4, .int (Int32.ofInt (iC s 233 ((iC s 228 (x).toNat)).toNat))), (3, .int (Int32.ofInt (iC s 228 (x).toNat))), (0, .ref (A 179)), (1, .int (Int32.ofInt x)), (2, .int (Int32.ofInt y))] [.int (Int32.ofInt e24), .int (Int32.ofInt (iC s 228 (x).toNat)), .ref (A 261)] (Wd A dT s23) 0 0
        refine z_ast X 261 (show cdA 255 64 = some (.iastore, 1, 0, 0, 0) from rfl) (by decide) rfl (by first | exact oq_5234833b b1.1 p2 | omega) (show (iC s 228 (x).toNat) < 8 by first | exact oq_aaea290e b1.2 | omega) (by decide) ?_
        obtain ⟨s25, hs25⟩ : ∃ x0, x0 = uC s23 233 ((iC s 228 (x).toNat)).toNat (Int32.ofInt e24) := ⟨_, rfl⟩
        rw [← hs25]
        have Is25 : Bd s25 := by rw [hs25]; exact bd_C Is23 (show ((-2147483648) : Int) ≤ e24 ∧ e24 ≤ 2147483647 by omega) hrs23
        have Fs25 := fm_C (i := ((iC s 228 (x).toNat)).toNat) (x := Int32.ofInt e24) Gs23 (show 233 ∈ _ by decide)
        rw [← hs25] at Fs25
        have fs25 : Fm [] [233] s23 s25 := by rw [hs25]; exact fm_C (fm_rf _ _ _) (show 233 ∈ _ by decide)
        have JRLx_s25 : RLx s25 := RLx_fm fs25 (by decide) JRLx_s23
        refine z_aload_n X (x := A 179) (show cdA 255 65 = some (.aload_n 0, 1, 0, 0, 0) from rfl) (List.Mem.tail _ (List.Mem.tail _ (List.Mem.tail _ (List.Mem.head _)))) ?_
        refine s_getR X 179 (show cdA 255 66 = some (.getfield 86, 3, 12, 40, 0) from rfl) (by decide) rfl rfl ?_
        refine z_load_n X (x := y) (show cdA 255 69 = some (.iload_n 2, 1, 0, 0, 0) from rfl) (List.Mem.tail _ (List.Mem.tail _ (List.Mem.tail _ (List.Mem.tail _ (List.Mem.tail _ (List.Mem.head _)))))) ?_
        refine z_aload_n X (x := A 179) (show cdA 255 70 = some (.aload_n 0, 1, 0, 0, 0) from rfl) (List.Mem.tail _ (List.Mem.tail _ (List.Mem.tail _ (List.Mem.head _)))) ?_
        refine z_load_n X (x := y) (show cdA 255 71 = some (.iload_n 2, 1, 0, 0, 0) from rfl) (List.Mem.tail _ (List.Mem.tail _ (List.Mem.tail _ (List.Mem.tail _ (List.Mem.tail _ (List.Mem.head _)))))) ?_
        refine z_callV X 179 (rm := rmN 232) (As := [.int (Int32.ofInt y)]) (st := [.int (Int32.ofInt y), .ref (A 261)]) (show cdA 255 72 = some (.invokevirtual 336, 3, 232, 0, 0) from rfl) rfl (by decide) rfl (by rw [E.1, E.2.1, E.2.2.1]; exact k_peakOfPiece G Is25 JRLx_s25 (by first | exact ⟨oq_fa4e5087 p1.1, oq_0e78ca7d p1.2⟩ | omega)) ⟨by rw [E.2.2.2]; exact (show (rmN 232).frames + 1 ≤ (rmN 255).frames by decide), by rw [E.2.2.2]; exact (show 8 + (mNL (miB 232) + 11) + (rmN 232).locals ≤ (rmN 255).locals by decide), by rw [E.2.2.2]; exact (show 0 + (rmN 232).cells ≤ (rmN 255).cells by decide), by rw [E.2.2.2]; exact (show 0 + (rmN 232).slots ≤ (rmN 255).slots by decide)⟩ (Nat.le_of_ble_eq_true rfl) (fun vv s26 hq => ?_) (fun ee s26 hq => ?_)
        rotate_left
        · obtain ⟨Is26, Fs26, JRLx_s26, e27, hv, hrs26, hps26⟩ := hq; cases hv
        obtain ⟨Is26, Fs26, JRLx_s26, e27, hv, hrs26, hps26⟩ := hq
        cases hv
        have Gs26 := fm_ts Fs25 Fs26 (by decide) (by decide)
        have JRLx_s26 : RLx s26 := RLx_fm Fs26 (by decide) JRLx_s25
        show WS k 75 [(5, .int (Int32.ofInt (iC s 233 (y).toNat))), (4, .int (Int32.ofInt (iC s 233 ((iC s 228 (x).toNat)).toNat))), (3, .int (Int32.ofInt (iC s 228 (x).toNat))), (0, .ref (A 179)), (1, .int (Int32.ofInt x)), (2, .int (Int32.ofInt y))] [.int (Int32.ofInt e27), .int (Int32.ofInt y), .ref (A 261)] (Wd A dT s26) 0 0
        refine z_ast X 261 (show cdA 255 75 = some (.iastore, 1, 0, 0, 0) from rfl) (by decide) rfl (by first | exact p1.1 | omega) (show y < 8 by first | exact oq_aaea290e p1.2 | omega) (by decide) ?_
        obtain ⟨s28, hs28⟩ : ∃ x0, x0 = uC s26 233 (y).toNat (Int32.ofInt e27) := ⟨_, rfl⟩
        rw [← hs28]
        have Is28 : Bd s28 := by rw [hs28]; exact bd_C Is26 (show ((-2147483648) : Int) ≤ e27 ∧ e27 ≤ 2147483647 by omega) hrs26
        have Fs28 := fm_C (i := (y).toNat) (x := Int32.ofInt e27) Gs26 (show 233 ∈ _ by decide)
        rw [← hs28] at Fs28
        have fs28 : Fm [] [233] s26 s28 := by rw [hs28]; exact fm_C (fm_rf _ _ _) (show 233 ∈ _ by decide)
        have JRLx_s28 : RLx s28 := RLx_fm fs28 (by decide) JRLx_s26
        refine z_aload_n X (x := A 179) (show cdA 255 76 = some (.aload_n 0, 1, 0, 0, 0) from rfl) (List.Mem.tail _ (List.Mem.tail _ (List.Mem.tail _ (List.Mem.head _)))) ?_
        refine z_callV X 179 (rm := rmN 251) (As := []) (st := []) (show cdA 255 77 = some (.invokevirtual 363, 3, 251, 0, 0) from rfl) rfl (by decide) rfl (by rw [E.1, E.2.1, E.2.2.1]; exact k_costByPeaks G Is28 ) ⟨by rw [E.2.2.2]; exact (show (rmN 251).frames + 1 ≤ (rmN 255).frames by decide), by rw [E.2.2.2]; exact (show 8 + (mNL (miB 251) + 11) + (rmN 251).locals ≤ (rmN 255).locals by decide), by rw [E.2.2.2]; exact (show 0 + (rmN 251).cells ≤ (rmN 255).cells by decide), by rw [E.2.2.2]; exact (show 0 + (rmN 251).slots ≤ (rmN 255).slots by decide)⟩ (Nat.le_of_ble_eq_true rfl) (fun vv s29 hq => ?_) (fun ee s29 hq => ?_)
        rotate_left
        · obtain ⟨Is29, Fs29, e30, hv, hrs29, hps29⟩ := hq; cases hv
        obtain ⟨Is29, Fs29, e30, hv, hrs29, hps29⟩ := hq
        cases hv
        have Gs29 := fm_ts Fs28 Fs29 (by decide) (by decide)
        have JRLx_s29 : RLx s29 := RLx_fm Fs29 (by decide) JRLx_s28
        show WS k 80 [(5, .int (Int32.ofInt (iC s 233 (y).toNat))), (4, .int (Int32.ofInt (iC s 233 ((iC s 228 (x).toNat)).toNat))), (3, .int (Int32.ofInt (iC s 228 (x).toNat))), (0, .ref (A 179)), (1, .int (Int32.ofInt x)), (2, .int (Int32.ofInt y))] [.int (Int32.ofInt e30)] (Wd A dT s29) 0 0
        refine z_store X (lv' := [(6, .int (Int32.ofInt e30)), (5, .int (Int32.ofInt (iC s 233 (y).toNat))), (4, .int (Int32.ofInt (iC s 233 ((iC s 228 (x).toNat)).toNat))), (3, .int (Int32.ofInt (iC s 228 (x).toNat))), (0, .ref (A 179)), (1, .int (Int32.ofInt x)), (2, .int (Int32.ofInt y))]) (show cdA 255 80 = some (.istore 6, 2, 0, 0, 0) from rfl) (by decide) (fun _ h => h) ?_
        refine z_aload_n X (x := A 179) (show cdA 255 82 = some (.aload_n 0, 1, 0, 0, 0) from rfl) (List.Mem.tail _ (List.Mem.tail _ (List.Mem.tail _ (List.Mem.tail _ (List.Mem.head _))))) ?_
        refine s_getR X 179 (show cdA 255 83 = some (.getfield 86, 3, 12, 40, 0) from rfl) (by decide) rfl rfl ?_
        refine z_load_n X (x := (iC s 228 (x).toNat)) (show cdA 255 86 = some (.iload_n 3, 1, 0, 0, 0) from rfl) (List.Mem.tail _ (List.Mem.tail _ (List.Mem.tail _ (List.Mem.head _)))) ?_
        refine z_ald X 261 (show cdA 255 87 = some (.iaload, 1, 0, 0, 0) from rfl) (by decide) rfl (by first | exact oq_5234833b b1.1 p2 | omega) (show (iC s 228 (x).toNat) < 8 by first | exact oq_aaea290e b1.2 | omega) (by decide) ?_
        have b31 : ((-2147483648) : Int) ≤ iC s29 233 ((iC s 228 (x).toNat)).toNat ∧ iC s29 233 ((iC s 228 (x).toNat)).toNat ≤ 2147483647 := Is29.2 233 _ (show ((iC s 228 (x).toNat)).toNat < 8 by first | exact oq_c19a3aae b1.2 | omega)
        refine z_aload_n X (x := A 179) (show cdA 255 88 = some (.aload_n 0, 1, 0, 0, 0) from rfl) (List.Mem.tail _ (List.Mem.tail _ (List.Mem.tail _ (List.Mem.tail _ (List.Mem.head _))))) ?_
        refine s_getR X 179 (show cdA 255 89 = some (.getfield 73, 3, 12, 36, 0) from rfl) (by decide) rfl rfl ?_
        refine z_load_n X (x := (iC s 228 (x).toNat)) (show cdA 255 92 = some (.iload_n 3, 1, 0, 0, 0) from rfl) (List.Mem.tail _ (List.Mem.tail _ (List.Mem.tail _ (List.Mem.head _)))) ?_
        refine z_ald X 257 (show cdA 255 93 = some (.iaload, 1, 0, 0, 0) from rfl) (by decide) rfl (by first | exact oq_5234833b b1.1 p2 | omega) (show (iC s 228 (x).toNat) < 8 by first | exact oq_aaea290e b1.2 | omega) (by decide) ?_
        have b32 : (0 : Int) ≤ iC s29 229 ((iC s 228 (x).toNat)).toNat ∧ iC s29 229 ((iC s 228 (x).toNat)).toNat ≤ 9999 := Is29.2 229 _ (show ((iC s 228 (x).toNat)).toNat < 8 by first | exact oq_c19a3aae b1.2 | omega)
        refine z_icmp_gt X (t := 137) (show cdA 255 94 = some (.if_icmp .gt 43, 3, 4, 0, 0) from rfl) (by decide) (rng_to _) (rng_to _) (fun g33 => ?_) (fun g33 => ?_)
        ·
          refine z_aload_n X (x := A 179) (show cdA 255 137 = some (.aload_n 0, 1, 0, 0, 0) from rfl) (List.Mem.tail _ (List.Mem.tail _ (List.Mem.tail _ (List.Mem.tail _ (List.Mem.head _))))) ?_
          refine s_getR X 179 (show cdA 255 138 = some (.getfield 70, 3, 12, 35, 0) from rfl) (by decide) rfl rfl ?_
          refine z_load_n X (x := x) (show cdA 255 141 = some (.iload_n 1, 1, 0, 0, 0) from rfl) (List.Mem.tail _ (List.Mem.tail _ (List.Mem.tail _ (List.Mem.tail _ (List.Mem.tail _ (List.Mem.head _)))))) ?_
          refine z_load_n X (x := (iC s 228 (x).toNat)) (show cdA 255 142 = some (.iload_n 3, 1, 0, 0, 0) from rfl) (List.Mem.tail _ (List.Mem.tail _ (List.Mem.tail _ (List.Mem.head _)))) ?_
          refine z_ast X 256 (show cdA 255 143 = some (.iastore, 1, 0, 0, 0) from rfl) (by decide) rfl (by first | exact p0.1 | omega) (show x < 128 by first | exact oq_31b2bf10 p0.2 | omega) (by decide) ?_
          obtain ⟨s34, hs34⟩ : ∃ x0, x0 = uC s29 228 (x).toNat (Int32.ofInt (iC s 228 (x).toNat)) := ⟨_, rfl⟩
          rw [← hs34]
          have Is34 : Bd s34 := by rw [hs34]; exact bd_C Is29 (show ((-1) : Int) ≤ (iC s 228 (x).toNat) ∧ (iC s 228 (x).toNat) ≤ 7 by first | exact ⟨b1.1, b1.2⟩ | omega) (rng_to _)
          have Fs34 := fm_C (i := (x).toNat) (x := Int32.ofInt (iC s 228 (x).toNat)) Gs29 (show 228 ∈ _ by decide)
          rw [← hs34] at Fs34
          have fs34 : Fm [] [228] s29 s34 := by rw [hs34]; exact fm_C (fm_rf _ _ _) (show 228 ∈ _ by decide)
          have JRLx_s34 : RLx s34 := RLx_fm fs34 (by decide) JRLx_s29
          refine z_aload_n X (x := A 179) (show cdA 255 144 = some (.aload_n 0, 1, 0, 0, 0) from rfl) (List.Mem.tail _ (List.Mem.tail _ (List.Mem.tail _ (List.Mem.tail _ (List.Mem.head _))))) ?_
          refine s_getR X 179 (show cdA 255 145 = some (.getfield 86, 3, 12, 40, 0) from rfl) (by decide) rfl rfl ?_
          refine z_load_n X (x := (iC s 228 (x).toNat)) (show cdA 255 148 = some (.iload_n 3, 1, 0, 0, 0) from rfl) (List.Mem.tail _ (List.Mem.tail _ (List.Mem.tail _ (List.Mem.head _)))) ?_
          refine z_load X (x := (iC s 233 ((iC s 228 (x).toNat)).toNat)) (show cdA 255 149 = some (.iload 4, 2, 0, 0, 0) from rfl) (List.Mem.tail _ (List.Mem.tail _ (List.Mem.head _))) ?_
          refine z_ast X 261 (show cdA 255 151 = some (.iastore, 1, 0, 0, 0) from rfl) (by decide) rfl (by first | exact oq_5234833b b1.1 p2 | omega) (show (iC s 228 (x).toNat) < 8 by first | exact oq_aaea290e b1.2 | omega) (by decide) ?_
          obtain ⟨s35, hs35⟩ : ∃ x0, x0 = uC s34 233 ((iC s 228 (x).toNat)).toNat (Int32.ofInt (iC s 233 ((iC s 228 (x).toNat)).toNat)) := ⟨_, rfl⟩
          rw [← hs35]
          have Is35 : Bd s35 := by rw [hs35]; exact bd_C Is34 (show ((-2147483648) : Int) ≤ (iC s 233 ((iC s 228 (x).toNat)).toNat) ∧ (iC s 233 ((iC s 228 (x).toNat)).toNat) ≤ 2147483647 by first | exact ⟨b2.1, b2.2⟩ | omega) (rng_to _)
          have Fs35 := fm_C (i := ((iC s 228 (x).toNat)).toNat) (x := Int32.ofInt (iC s 233 ((iC s 228 (x).toNat)).toNat)) Fs34 (show 233 ∈ _ by decide)
          rw [← hs35] at Fs35
          have fs35 : Fm [] [233] s34 s35 := by rw [hs35]; exact fm_C (fm_rf _ _ _) (show 233 ∈ _ by decide)
          have JRLx_s35 : RLx s35 := RLx_fm fs35 (by decide) JRLx_s34
          refine z_aload_n X (x := A 179) (show cdA 255 152 = some (.aload_n 0, 1, 0, 0, 0) from rfl) (List.Mem.tail _ (List.Mem.tail _ (List.Mem.tail _ (List.Mem.tail _ (List.Mem.head _))))) ?_
          refine s_getR X 179 (show cdA 255 153 = some (.getfield 86, 3, 12, 40, 0) from rfl) (by decide) rfl rfl ?_
          refine z_load_n X (x := y) (show cdA 255 156 = some (.iload_n 2, 1, 0, 0, 0) from rfl) (List.Mem.tail _ (List.Mem.tail _ (List.Mem.tail _ (List.Mem.tail _ (List.Mem.tail _ (List.Mem.tail _ (List.Mem.head _))))))) ?_
          refine z_load X (x := (iC s 233 (y).toNat)) (show cdA 255 157 = some (.iload 5, 2, 0, 0, 0) from rfl) (List.Mem.tail _ (List.Mem.head _)) ?_
          refine z_ast X 261 (show cdA 255 159 = some (.iastore, 1, 0, 0, 0) from rfl) (by decide) rfl (by first | exact p1.1 | omega) (show y < 8 by first | exact oq_aaea290e p1.2 | omega) (by decide) ?_
          obtain ⟨s36, hs36⟩ : ∃ x0, x0 = uC s35 233 (y).toNat (Int32.ofInt (iC s 233 (y).toNat)) := ⟨_, rfl⟩
          rw [← hs36]
          have Is36 : Bd s36 := by rw [hs36]; exact bd_C Is35 (show ((-2147483648) : Int) ≤ (iC s 233 (y).toNat) ∧ (iC s 233 (y).toNat) ≤ 2147483647 by first | exact ⟨b3.1, b3.2⟩ | omega) (rng_to _)
          have Fs36 := fm_C (i := (y).toNat) (x := Int32.ofInt (iC s 233 (y).toNat)) Fs35 (show 233 ∈ _ by decide)
          rw [← hs36] at Fs36
          have fs36 : Fm [] [233] s35 s36 := by rw [hs36]; exact fm_C (fm_rf _ _ _) (show 233 ∈ _ by decide)
          have JRLx_s36 : RLx s36 := RLx_fm fs36 (by decide) JRLx_s35
          exact w_vret X.1 q hRt (ax_d X (show cdA 255 160 = some (.return_, 1, 0, 0, 0) from rfl)) (Nat.zero_le _) (Nat.zero_le _) ⟨_, rfl, Is36, Fs36, JRLx_s36, rfl, trivial⟩
        ·
          refine z_aload_n X (x := A 179) (show cdA 255 97 = some (.aload_n 0, 1, 0, 0, 0) from rfl) (List.Mem.tail _ (List.Mem.tail _ (List.Mem.tail _ (List.Mem.tail _ (List.Mem.head _))))) ?_
          refine s_getR X 179 (show cdA 255 98 = some (.getfield 86, 3, 12, 40, 0) from rfl) (by decide) rfl rfl ?_
          refine z_load_n X (x := y) (show cdA 255 101 = some (.iload_n 2, 1, 0, 0, 0) from rfl) (List.Mem.tail _ (List.Mem.tail _ (List.Mem.tail _ (List.Mem.tail _ (List.Mem.tail _ (List.Mem.tail _ (List.Mem.head _))))))) ?_
          refine z_ald X 261 (show cdA 255 102 = some (.iaload, 1, 0, 0, 0) from rfl) (by decide) rfl (by first | exact p1.1 | omega) (show y < 8 by first | exact oq_aaea290e p1.2 | omega) (by decide) ?_
          have b37 : ((-2147483648) : Int) ≤ iC s29 233 (y).toNat ∧ iC s29 233 (y).toNat ≤ 2147483647 := Is29.2 233 _ (show (y).toNat < 8 by first | exact oq_c19a3aae p1.2 | omega)
          refine z_aload_n X (x := A 179) (show cdA 255 103 = some (.aload_n 0, 1, 0, 0, 0) from rfl) (List.Mem.tail _ (List.Mem.tail _ (List.Mem.tail _ (List.Mem.tail _ (List.Mem.head _))))) ?_
          refine s_getR X 179 (show cdA 255 104 = some (.getfield 73, 3, 12, 36, 0) from rfl) (by decide) rfl rfl ?_
          refine z_load_n X (x := y) (show cdA 255 107 = some (.iload_n 2, 1, 0, 0, 0) from rfl) (List.Mem.tail _ (List.Mem.tail _ (List.Mem.tail _ (List.Mem.tail _ (List.Mem.tail _ (List.Mem.tail _ (List.Mem.head _))))))) ?_
          refine z_ald X 257 (show cdA 255 108 = some (.iaload, 1, 0, 0, 0) from rfl) (by decide) rfl (by first | exact p1.1 | omega) (show y < 8 by first | exact oq_aaea290e p1.2 | omega) (by decide) ?_
          have b38 : (0 : Int) ≤ iC s29 229 (y).toNat ∧ iC s29 229 (y).toNat ≤ 9999 := Is29.2 229 _ (show (y).toNat < 8 by first | exact oq_c19a3aae p1.2 | omega)
          refine z_icmp_gt X (t := 137) (show cdA 255 109 = some (.if_icmp .gt 28, 3, 4, 0, 0) from rfl) (by decide) (rng_to _) (rng_to _) (fun g39 => ?_) (fun g39 => ?_)
          ·
            refine z_aload_n X (x := A 179) (show cdA 255 137 = some (.aload_n 0, 1, 0, 0, 0) from rfl) (List.Mem.tail _ (List.Mem.tail _ (List.Mem.tail _ (List.Mem.tail _ (List.Mem.head _))))) ?_
            refine s_getR X 179 (show cdA 255 138 = some (.getfield 70, 3, 12, 35, 0) from rfl) (by decide) rfl rfl ?_
            refine z_load_n X (x := x) (show cdA 255 141 = some (.iload_n 1, 1, 0, 0, 0) from rfl) (List.Mem.tail _ (List.Mem.tail _ (List.Mem.tail _ (List.Mem.tail _ (List.Mem.tail _ (List.Mem.head _)))))) ?_
            refine z_load_n X (x := (iC s 228 (x).toNat)) (show cdA 255 142 = some (.iload_n 3, 1, 0, 0, 0) from rfl) (List.Mem.tail _ (List.Mem.tail _ (List.Mem.tail _ (List.Mem.head _)))) ?_
            refine z_ast X 256 (show cdA 255 143 = some (.iastore, 1, 0, 0, 0) from rfl) (by decide) rfl (by first | exact p0.1 | omega) (show x < 128 by first | exact oq_31b2bf10 p0.2 | omega) (by decide) ?_
            obtain ⟨s40, hs40⟩ : ∃ x0, x0 = uC s29 228 (x).toNat (Int32.ofInt (iC s 228 (x).toNat)) := ⟨_, rfl⟩
            rw [← hs40]
            have Is40 : Bd s40 := by rw [hs40]; exact bd_C Is29 (show ((-1) : Int) ≤ (iC s 228 (x).toNat) ∧ (iC s 228 (x).toNat) ≤ 7 by first | exact ⟨b1.1, b1.2⟩ | omega) (rng_to _)
            have Fs40 := fm_C (i := (x).toNat) (x := Int32.ofInt (iC s 228 (x).toNat)) Gs29 (show 228 ∈ _ by decide)
            rw [← hs40] at Fs40
            have fs40 : Fm [] [228] s29 s40 := by rw [hs40]; exact fm_C (fm_rf _ _ _) (show 228 ∈ _ by decide)
            have JRLx_s40 : RLx s40 := RLx_fm fs40 (by decide) JRLx_s29
            refine z_aload_n X (x := A 179) (show cdA 255 144 = some (.aload_n 0, 1, 0, 0, 0) from rfl) (List.Mem.tail _ (List.Mem.tail _ (List.Mem.tail _ (List.Mem.tail _ (List.Mem.head _))))) ?_
            refine s_getR X 179 (show cdA 255 145 = some (.getfield 86, 3, 12, 40, 0) from rfl) (by decide) rfl rfl ?_
            refine z_load_n X (x := (iC s 228 (x).toNat)) (show cdA 255 148 = some (.iload_n 3, 1, 0, 0, 0) from rfl) (List.Mem.tail _ (List.Mem.tail _ (List.Mem.tail _ (List.Mem.head _)))) ?_
            refine z_load X (x := (iC s 233 ((iC s 228 (x).toNat)).toNat)) (show cdA 255 149 = some (.iload 4, 2, 0, 0, 0) from rfl) (List.Mem.tail _ (List.Mem.tail _ (List.Mem.head _))) ?_
            refine z_ast X 261 (show cdA 255 151 = some (.iastore, 1, 0, 0, 0) from rfl) (by decide) rfl (by first | exact oq_5234833b b1.1 p2 | omega) (show (iC s 228 (x).toNat) < 8 by first | exact oq_aaea290e b1.2 | omega) (by decide) ?_
            obtain ⟨s41, hs41⟩ : ∃ x0, x0 = uC s40 233 ((iC s 228 (x).toNat)).toNat (Int32.ofInt (iC s 233 ((iC s 228 (x).toNat)).toNat)) := ⟨_, rfl⟩
            rw [← hs41]
            have Is41 : Bd s41 := by rw [hs41]; exact bd_C Is40 (show ((-2147483648) : Int) ≤ (iC s 233 ((iC s 228 (x).toNat)).toNat) ∧ (iC s 233 ((iC s 228 (x).toNat)).toNat) ≤ 2147483647 by first | exact ⟨b2.1, b2.2⟩ | omega) (rng_to _)
            have Fs41 := fm_C (i := ((iC s 228 (x).toNat)).toNat) (x := Int32.ofInt (iC s 233 ((iC s 228 (x).toNat)).toNat)) Fs40 (show 233 ∈ _ by decide)
            rw [← hs41] at Fs41
            have fs41 : Fm [] [233] s40 s41 := by rw [hs41]; exact fm_C (fm_rf _ _ _) (show 233 ∈ _ by decide)
            have JRLx_s41 : RLx s41 := RLx_fm fs41 (by decide) JRLx_s40
            refine z_aload_n X (x := A 179) (show cdA 255 152 = some (.aload_n 0, 1, 0, 0, 0) from rfl) (List.Mem.tail _ (List.Mem.tail _ (List.Mem.tail _ (List.Mem.tail _ (List.Mem.head _))))) ?_
            refine s_getR X 179 (show cdA 255 153 = some (.getfield 86, 3, 12, 40, 0) from rfl) (by decide) rfl rfl ?_
            refine z_load_n X (x := y) (show cdA 255 156 = some (.iload_n 2, 1, 0, 0, 0) from rfl) (List.Mem.tail _ (List.Mem.tail _ (List.Mem.tail _ (List.Mem.tail _ (List.Mem.tail _ (List.Mem.tail _ (List.Mem.head _))))))) ?_
            refine z_load X (x := (iC s 233 (y).toNat)) (show cdA 255 157 = some (.iload 5, 2, 0, 0, 0) from rfl) (List.Mem.tail _ (List.Mem.head _)) ?_
            refine z_ast X 261 (show cdA 255 159 = some (.iastore, 1, 0, 0, 0) from rfl) (by decide) rfl (by first | exact p1.1 | omega) (show y < 8 by first | exact oq_aaea290e p1.2 | omega) (by decide) ?_
            obtain ⟨s42, hs42⟩ : ∃ x0, x0 = uC s41 233 (y).toNat (Int32.ofInt (iC s 233 (y).toNat)) := ⟨_, rfl⟩
            rw [← hs42]
            have Is42 : Bd s42 := by rw [hs42]; exact bd_C Is41 (show ((-2147483648) : Int) ≤ (iC s 233 (y).toNat) ∧ (iC s 233 (y).toNat) ≤ 2147483647 by first | exact ⟨b3.1, b3.2⟩ | omega) (rng_to _)
            have Fs42 := fm_C (i := (y).toNat) (x := Int32.ofInt (iC s 233 (y).toNat)) Fs41 (show 233 ∈ _ by decide)
            rw [← hs42] at Fs42
            have fs42 : Fm [] [233] s41 s42 := by rw [hs42]; exact fm_C (fm_rf _ _ _) (show 233 ∈ _ by decide)
            have JRLx_s42 : RLx s42 := RLx_fm fs42 (by decide) JRLx_s41
            exact w_vret X.1 q hRt (ax_d X (show cdA 255 160 = some (.return_, 1, 0, 0, 0) from rfl)) (Nat.zero_le _) (Nat.zero_le _) ⟨_, rfl, Is42, Fs42, JRLx_s42, rfl, trivial⟩
          ·
            refine z_load X (x := e30) (show cdA 255 112 = some (.iload 6, 2, 0, 0, 0) from rfl) (List.Mem.head _) ?_
            refine z_aload_n X (x := A 179) (show cdA 255 114 = some (.aload_n 0, 1, 0, 0, 0) from rfl) (List.Mem.tail _ (List.Mem.tail _ (List.Mem.tail _ (List.Mem.tail _ (List.Mem.head _))))) ?_
            refine z_getI X 179 (show cdA 255 115 = some (.getfield 372, 3, 12, 43, 0) from rfl) (by decide) rfl rfl ?_
            have b43 : ((-2147483648) : Int) ≤ iI s29 94 ∧ iI s29 94 ≤ 2147483647 := Is29.1 94
            refine z_icmp_ge X (t := 137) (show cdA 255 118 = some (.if_icmp .ge 19, 3, 3, 0, 0) from rfl) (by decide) hrs29 (rng_to _) (fun g44 => ?_) (fun g44 => ?_)
            ·
              refine z_aload_n X (x := A 179) (show cdA 255 137 = some (.aload_n 0, 1, 0, 0, 0) from rfl) (List.Mem.tail _ (List.Mem.tail _ (List.Mem.tail _ (List.Mem.tail _ (List.Mem.head _))))) ?_
              refine s_getR X 179 (show cdA 255 138 = some (.getfield 70, 3, 12, 35, 0) from rfl) (by decide) rfl rfl ?_
              refine z_load_n X (x := x) (show cdA 255 141 = some (.iload_n 1, 1, 0, 0, 0) from rfl) (List.Mem.tail _ (List.Mem.tail _ (List.Mem.tail _ (List.Mem.tail _ (List.Mem.tail _ (List.Mem.head _)))))) ?_
              refine z_load_n X (x := (iC s 228 (x).toNat)) (show cdA 255 142 = some (.iload_n 3, 1, 0, 0, 0) from rfl) (List.Mem.tail _ (List.Mem.tail _ (List.Mem.tail _ (List.Mem.head _)))) ?_
              refine z_ast X 256 (show cdA 255 143 = some (.iastore, 1, 0, 0, 0) from rfl) (by decide) rfl (by first | exact p0.1 | omega) (show x < 128 by first | exact oq_31b2bf10 p0.2 | omega) (by decide) ?_
              obtain ⟨s45, hs45⟩ : ∃ x0, x0 = uC s29 228 (x).toNat (Int32.ofInt (iC s 228 (x).toNat)) := ⟨_, rfl⟩
              rw [← hs45]
              have Is45 : Bd s45 := by rw [hs45]; exact bd_C Is29 (show ((-1) : Int) ≤ (iC s 228 (x).toNat) ∧ (iC s 228 (x).toNat) ≤ 7 by first | exact ⟨b1.1, b1.2⟩ | omega) (rng_to _)
              have Fs45 := fm_C (i := (x).toNat) (x := Int32.ofInt (iC s 228 (x).toNat)) Gs29 (show 228 ∈ _ by decide)
              rw [← hs45] at Fs45
              have fs45 : Fm [] [228] s29 s45 := by rw [hs45]; exact fm_C (fm_rf _ _ _) (show 228 ∈ _ by decide)
              have JRLx_s45 : RLx s45 := RLx_fm fs45 (by decide) JRLx_s29
              refine z_aload_n X (x := A 179) (show cdA 255 144 = some (.aload_n 0, 1, 0, 0, 0) from rfl) (List.Mem.tail _ (List.Mem.tail _ (List.Mem.tail _ (List.Mem.tail _ (List.Mem.head _))))) ?_
              refine s_getR X 179 (show cdA 255 145 = some (.getfield 86, 3, 12, 40, 0) from rfl) (by decide) rfl rfl ?_
              refine z_load_n X (x := (iC s 228 (x).toNat)) (show cdA 255 148 = some (.iload_n 3, 1, 0, 0, 0) from rfl) (List.Mem.tail _ (List.Mem.tail _ (List.Mem.tail _ (List.Mem.head _)))) ?_
              refine z_load X (x := (iC s 233 ((iC s 228 (x).toNat)).toNat)) (show cdA 255 149 = some (.iload 4, 2, 0, 0, 0) from rfl) (List.Mem.tail _ (List.Mem.tail _ (List.Mem.head _))) ?_
              refine z_ast X 261 (show cdA 255 151 = some (.iastore, 1, 0, 0, 0) from rfl) (by decide) rfl (by first | exact oq_5234833b b1.1 p2 | omega) (show (iC s 228 (x).toNat) < 8 by first | exact oq_aaea290e b1.2 | omega) (by decide) ?_
              obtain ⟨s46, hs46⟩ : ∃ x0, x0 = uC s45 233 ((iC s 228 (x).toNat)).toNat (Int32.ofInt (iC s 233 ((iC s 228 (x).toNat)).toNat)) := ⟨_, rfl⟩
              rw [← hs46]
              have Is46 : Bd s46 := by rw [hs46]; exact bd_C Is45 (show ((-2147483648) : Int) ≤ (iC s 233 ((iC s 228 (x).toNat)).toNat) ∧ (iC s 233 ((iC s 228 (x).toNat)).toNat) ≤ 2147483647 by first | exact ⟨b2.1, b2.2⟩ | omega) (rng_to _)
              have Fs46 := fm_C (i := ((iC s 228 (x).toNat)).toNat) (x := Int32.ofInt (iC s 233 ((iC s 228 (x).toNat)).toNat)) Fs45 (show 233 ∈ _ by decide)
              rw [← hs46] at Fs46
              have fs46 : Fm [] [233] s45 s46 := by rw [hs46]; exact fm_C (fm_rf _ _ _) (show 233 ∈ _ by decide)
              have JRLx_s46 : RLx s46 := RLx_fm fs46 (by decide) JRLx_s45
              refine z_aload_n X (x := A 179) (show cdA 255 152 = some (.aload_n 0, 1, 0, 0, 0) from rfl) (List.Mem.tail _ (List.Mem.tail _ (List.Mem.tail _ (List.Mem.tail _ (List.Mem.head _))))) ?_
              refine s_getR X 179 (show cdA 255 153 = some (.getfield 86, 3, 12, 40, 0) from rfl) (by decide) rfl rfl ?_
              refine z_load_n X (x := y) (show cdA 255 156 = some (.iload_n 2, 1, 0, 0, 0) from rfl) (List.Mem.tail _ (List.Mem.tail _ (List.Mem.tail _ (List.Mem.tail _ (List.Mem.tail _ (List.Mem.tail _ (List.Mem.head _))))))) ?_
              refine z_load X (x := (iC s 233 (y).toNat)) (show cdA 255 157 = some (.iload 5, 2, 0, 0, 0) from rfl) (List.Mem.tail _ (List.Mem.head _)) ?_
              refine z_ast X 261 (show cdA 255 159 = some (.iastore, 1, 0, 0, 0) from rfl) (by decide) rfl (by first | exact p1.1 | omega) (show y < 8 by first | exact oq_aaea290e p1.2 | omega) (by decide) ?_
              obtain ⟨s47, hs47⟩ : ∃ x0, x0 = uC s46 233 (y).toNat (Int32.ofInt (iC s 233 (y).toNat)) := ⟨_, rfl⟩
              rw [← hs47]
              have Is47 : Bd s47 := by rw [hs47]; exact bd_C Is46 (show ((-2147483648) : Int) ≤ (iC s 233 (y).toNat) ∧ (iC s 233 (y).toNat) ≤ 2147483647 by first | exact ⟨b3.1, b3.2⟩ | omega) (rng_to _)
              have Fs47 := fm_C (i := (y).toNat) (x := Int32.ofInt (iC s 233 (y).toNat)) Fs46 (show 233 ∈ _ by decide)
              rw [← hs47] at Fs47
              have fs47 : Fm [] [233] s46 s47 := by rw [hs47]; exact fm_C (fm_rf _ _ _) (show 233 ∈ _ by decide)
              have JRLx_s47 : RLx s47 := RLx_fm fs47 (by decide) JRLx_s46
              exact w_vret X.1 q hRt (ax_d X (show cdA 255 160 = some (.return_, 1, 0, 0, 0) from rfl)) (Nat.zero_le _) (Nat.zero_le _) ⟨_, rfl, Is47, Fs47, JRLx_s47, rfl, trivial⟩
            ·
              refine z_aload_n X (x := A 179) (show cdA 255 121 = some (.aload_n 0, 1, 0, 0, 0) from rfl) (List.Mem.tail _ (List.Mem.tail _ (List.Mem.tail _ (List.Mem.tail _ (List.Mem.head _))))) ?_
              refine z_load_n X (x := x) (show cdA 255 122 = some (.iload_n 1, 1, 0, 0, 0) from rfl) (List.Mem.tail _ (List.Mem.tail _ (List.Mem.tail _ (List.Mem.tail _ (List.Mem.tail _ (List.Mem.head _)))))) ?_
              refine s_putI X 179 (show cdA 255 123 = some (.putfield 369, 3, 12, 41, 0) from rfl) (by decide) rfl rfl (by decide) rfl rfl rfl ?_
              obtain ⟨s48, hs48⟩ : ∃ x0, x0 = uI s29 92 (Int32.ofInt x) := ⟨_, rfl⟩
              rw [← hs48]
              have Is48 : Bd s48 := by rw [hs48]; exact bd_I Is29 (show ((-1) : Int) ≤ x ∧ x ≤ 127 by first | exact ⟨oq_ca54ea22 p0.1, p0.2⟩ | omega) ⟨by first | exact oq_fa4e5087 p0.1 | omega, by first | exact oq_07d346ce p0.2 | omega⟩
              have Fs48 := fm_I (x := Int32.ofInt x) Gs29 (show 92 ∈ _ by decide)
              rw [← hs48] at Fs48
              have vs48 : iI s48 92 = x := by rw [hs48]; exact iI_u ⟨by first | exact oq_fa4e5087 p0.1 | omega, by first | exact oq_07d346ce p0.2 | omega⟩
              have fs48 : Fm [92] [] s29 s48 := by rw [hs48]; exact fm_I (fm_rf _ _ _) (show 92 ∈ _ by decide)
              have JRLx_s48 : RLx s48 := RLx_fm fs48 (by decide) JRLx_s29
              refine z_aload_n X (x := A 179) (show cdA 255 126 = some (.aload_n 0, 1, 0, 0, 0) from rfl) (List.Mem.tail _ (List.Mem.tail _ (List.Mem.tail _ (List.Mem.tail _ (List.Mem.head _))))) ?_
              refine z_load_n X (x := y) (show cdA 255 127 = some (.iload_n 2, 1, 0, 0, 0) from rfl) (List.Mem.tail _ (List.Mem.tail _ (List.Mem.tail _ (List.Mem.tail _ (List.Mem.tail _ (List.Mem.tail _ (List.Mem.head _))))))) ?_
              refine s_putI X 179 (show cdA 255 128 = some (.putfield 378, 3, 12, 42, 0) from rfl) (by decide) rfl rfl (by decide) rfl rfl rfl ?_
              obtain ⟨s49, hs49⟩ : ∃ x0, x0 = uI s48 93 (Int32.ofInt y) := ⟨_, rfl⟩
              rw [← hs49]
              have Is49 : Bd s49 := by rw [hs49]; exact bd_I Is48 (show (0 : Int) ≤ y ∧ y ≤ 7 by first | exact ⟨p1.1, p1.2⟩ | omega) ⟨by first | exact oq_fa4e5087 p1.1 | omega, by first | exact oq_0e78ca7d p1.2 | omega⟩
              have Fs49 := fm_I (x := Int32.ofInt y) Fs48 (show 93 ∈ _ by decide)
              rw [← hs49] at Fs49
              have vs49 : iI s49 93 = y := by rw [hs49]; exact iI_u ⟨by first | exact oq_fa4e5087 p1.1 | omega, by first | exact oq_0e78ca7d p1.2 | omega⟩
              have fs49 : Fm [93] [] s48 s49 := by rw [hs49]; exact fm_I (fm_rf _ _ _) (show 93 ∈ _ by decide)
              have JRLx_s49 : RLx s49 := RLx_fm fs49 (by decide) JRLx_s48
              refine z_aload_n X (x := A 179) (show cdA 255 131 = some (.aload_n 0, 1, 0, 0, 0) from rfl) (List.Mem.tail _ (List.Mem.tail _ (List.Mem.tail _ (List.Mem.tail _ (List.Mem.head _))))) ?_
              refine z_load X (x := e30) (show cdA 255 132 = some (.iload 6, 2, 0, 0, 0) from rfl) (List.Mem.head _) ?_
              refine s_putI X 179 (show cdA 255 134 = some (.putfield 372, 3, 12, 43, 0) from rfl) (by decide) rfl rfl (by decide) rfl rfl rfl ?_
              obtain ⟨s50, hs50⟩ : ∃ x0, x0 = uI s49 94 (Int32.ofInt e30) := ⟨_, rfl⟩
              rw [← hs50]
              have Is50 : Bd s50 := by rw [hs50]; exact bd_I Is49 (show ((-2147483648) : Int) ≤ e30 ∧ e30 ≤ 2147483647 by first | exact ⟨by omega, oq_ef392b12 g44 b43.2⟩ | omega) hrs29
              have Fs50 := fm_I (x := Int32.ofInt e30) Fs49 (show 94 ∈ _ by decide)
              rw [← hs50] at Fs50
              have vs50 : iI s50 94 = e30 := by rw [hs50]; exact iI_u hrs29
              have fs50 : Fm [94] [] s49 s50 := by rw [hs50]; exact fm_I (fm_rf _ _ _) (show 94 ∈ _ by decide)
              have JRLx_s50 : RLx s50 := RLx_fm fs50 (by decide) JRLx_s49
              refine z_aload_n X (x := A 179) (show cdA 255 137 = some (.aload_n 0, 1, 0, 0, 0) from rfl) (List.Mem.tail _ (List.Mem.tail _ (List.Mem.tail _ (List.Mem.tail _ (List.Mem.head _))))) ?_
              refine s_getR X 179 (show cdA 255 138 = some (.getfield 70, 3, 12, 35, 0) from rfl) (by decide) rfl rfl ?_
              refine z_load_n X (x := x) (show cdA 255 141 = some (.iload_n 1, 1, 0, 0, 0) from rfl) (List.Mem.tail _ (List.Mem.tail _ (List.Mem.tail _ (List.Mem.tail _ (List.Mem.tail _ (List.Mem.head _)))))) ?_
              refine z_load_n X (x := (iC s 228 (x).toNat)) (show cdA 255 142 = some (.iload_n 3, 1, 0, 0, 0) from rfl) (List.Mem.tail _ (List.Mem.tail _ (List.Mem.tail _ (List.Mem.head _)))) ?_
              refine z_ast X 256 (show cdA 255 143 = some (.iastore, 1, 0, 0, 0) from rfl) (by decide) rfl (by first | exact p0.1 | omega) (show x < 128 by first | exact oq_31b2bf10 p0.2 | omega) (by decide) ?_
              obtain ⟨s51, hs51⟩ : ∃ x0, x0 = uC s50 228 (x).toNat (Int32.ofInt (iC s 228 (x).toNat)) := ⟨_, rfl⟩
              rw [← hs51]
              have Is51 : Bd s51 := by rw [hs51]; exact bd_C Is50 (show ((-1) : Int) ≤ (iC s 228 (x).toNat) ∧ (iC s 228 (x).toNat) ≤ 7 by first | exact ⟨b1.1, b1.2⟩ | omega) (rng_to _)
              have Fs51 := fm_C (i := (x).toNat) (x := Int32.ofInt (iC s 228 (x).toNat)) Fs50 (show 228 ∈ _ by decide)
              rw [← hs51] at Fs51
              have fs51 : Fm [] [228] s50 s51 := by rw [hs51]; exact fm_C (fm_rf _ _ _) (show 228 ∈ _ by decide)
              have JRLx_s51 : RLx s51 := RLx_fm fs51 (by decide) JRLx_s50
              refine z_aload_n X (x := A 179) (show cdA 255 144 = some (.aload_n 0, 1, 0, 0, 0) from rfl) (List.Mem.tail _ (List.Mem.tail _ (List.Mem.tail _ (List.Mem.tail _ (List.Mem.head _))))) ?_
              refine s_getR X 179 (show cdA 255 145 = some (.getfield 86, 3, 12, 40, 0) from rfl) (by decide) rfl rfl ?_
              refine z_load_n X (x := (iC s 228 (x).toNat)) (show cdA 255 148 = some (.iload_n 3, 1, 0, 0, 0) from rfl) (List.Mem.tail _ (List.Mem.tail _ (List.Mem.tail _ (List.Mem.head _)))) ?_
              refine z_load X (x := (iC s 233 ((iC s 228 (x).toNat)).toNat)) (show cdA 255 149 = some (.iload 4, 2, 0, 0, 0) from rfl) (List.Mem.tail _ (List.Mem.tail _ (List.Mem.head _))) ?_
              refine z_ast X 261 (show cdA 255 151 = some (.iastore, 1, 0, 0, 0) from rfl) (by decide) rfl (by first | exact oq_5234833b b1.1 p2 | omega) (show (iC s 228 (x).toNat) < 8 by first | exact oq_aaea290e b1.2 | omega) (by decide) ?_
              obtain ⟨s52, hs52⟩ : ∃ x0, x0 = uC s51 233 ((iC s 228 (x).toNat)).toNat (Int32.ofInt (iC s 233 ((iC s 228 (x).toNat)).toNat)) := ⟨_, rfl⟩
              rw [← hs52]
              have Is52 : Bd s52 := by rw [hs52]; exact bd_C Is51 (show ((-2147483648) : Int) ≤ (iC s 233 ((iC s 228 (x).toNat)).toNat) ∧ (iC s 233 ((iC s 228 (x).toNat)).toNat) ≤ 2147483647 by first | exact ⟨b2.1, b2.2⟩ | omega) (rng_to _)
              have Fs52 := fm_C (i := ((iC s 228 (x).toNat)).toNat) (x := Int32.ofInt (iC s 233 ((iC s 228 (x).toNat)).toNat)) Fs51 (show 233 ∈ _ by decide)
              rw [← hs52] at Fs52
              have fs52 : Fm [] [233] s51 s52 := by rw [hs52]; exact fm_C (fm_rf _ _ _) (show 233 ∈ _ by decide)
              have JRLx_s52 : RLx s52 := RLx_fm fs52 (by decide) JRLx_s51
              refine z_aload_n X (x := A 179) (show cdA 255 152 = some (.aload_n 0, 1, 0, 0, 0) from rfl) (List.Mem.tail _ (List.Mem.tail _ (List.Mem.tail _ (List.Mem.tail _ (List.Mem.head _))))) ?_
              refine s_getR X 179 (show cdA 255 153 = some (.getfield 86, 3, 12, 40, 0) from rfl) (by decide) rfl rfl ?_
              refine z_load_n X (x := y) (show cdA 255 156 = some (.iload_n 2, 1, 0, 0, 0) from rfl) (List.Mem.tail _ (List.Mem.tail _ (List.Mem.tail _ (List.Mem.tail _ (List.Mem.tail _ (List.Mem.tail _ (List.Mem.head _))))))) ?_
              refine z_load X (x := (iC s 233 (y).toNat)) (show cdA 255 157 = some (.iload 5, 2, 0, 0, 0) from rfl) (List.Mem.tail _ (List.Mem.head _)) ?_
              refine z_ast X 261 (show cdA 255 159 = some (.iastore, 1, 0, 0, 0) from rfl) (by decide) rfl (by first | exact p1.1 | omega) (show y < 8 by first | exact oq_aaea290e p1.2 | omega) (by decide) ?_
              obtain ⟨s53, hs53⟩ : ∃ x0, x0 = uC s52 233 (y).toNat (Int32.ofInt (iC s 233 (y).toNat)) := ⟨_, rfl⟩
              rw [← hs53]
              have Is53 : Bd s53 := by rw [hs53]; exact bd_C Is52 (show ((-2147483648) : Int) ≤ (iC s 233 (y).toNat) ∧ (iC s 233 (y).toNat) ≤ 2147483647 by first | exact ⟨b3.1, b3.2⟩ | omega) (rng_to _)
              have Fs53 := fm_C (i := (y).toNat) (x := Int32.ofInt (iC s 233 (y).toNat)) Fs52 (show 233 ∈ _ by decide)
              rw [← hs53] at Fs53
              have fs53 : Fm [] [233] s52 s53 := by rw [hs53]; exact fm_C (fm_rf _ _ _) (show 233 ∈ _ by decide)
              have JRLx_s53 : RLx s53 := RLx_fm fs53 (by decide) JRLx_s52
              exact w_vret X.1 q hRt (ax_d X (show cdA 255 160 = some (.return_, 1, 0, 0, 0) from rfl)) (Nat.zero_le _) (Nat.zero_le _) ⟨_, rfl, Is53, Fs53, JRLx_s53, rfl, trivial⟩
set_option maxRecDepth 4000 in
theorem k_findMove (G : GX l s0 D tys a0 dT) (I : Bd s) (jRLx : RLx s)  : CT l s0 D A dT 254 (rmN 254) [.ref (A 179)] s (fun o t => Bd t ∧ Fm [77, 75, 78, 79, 80, 81, 92, 93, 94] [202, 204, 205, 206, 207, 208, 209, 210, 211, 212, 213, 214, 215, 216, 217, 218, 219, 220, 221, 222, 223, 224, 225, 226, 227, 203, 161, 230, 233, 231, 232, 228] s t ∧ RLx t ∧ o = .inl none ∧ (True)) := by
  refine ct_of G (by decide) (Nat.le_of_ble_eq_true rfl) (fun k X E hRt hXt q => ?_)
  show WS k 0 [(0, .ref (A 179))] [] _ 0 0
  have F : Fm [77, 75, 78, 79, 80, 81, 92, 93, 94] [202, 204, 205, 206, 207, 208, 209, 210, 211, 212, 213, 214, 215, 216, 217, 218, 219, 220, 221, 222, 223, 224, 225, 226, 227, 203, 161, 230, 233, 231, 232, 228] s s := fm_rf _ _ s
  have L45 : ∀ (n : Nat) (t : PS) (c p iz st0 : Int), Bd t → Fm [77, 75, 78, 79, 80, 81, 92, 93, 94] [202, 204, 205, 206, 207, 208, 209, 210, 211, 212, 213, 214, 215, 216, 217, 218, 219, 220, 221, 222, 223, 224, 225, 226, 227, 203, 161, 230, 233, 231, 232, 228] s t → RLx t → ((0 ≤ c ∧ c ≤ 127) ∧ (0 ≤ p ∧ p ≤ 7) ∧ (iz = 0 ∨ iz = 1) ∧ 0 ≤ st0 ∧ st0 ≤ 6 ∧ iC t 228 (c).toNat ≠ -1) → (6 - st0 : Int).toNat < n → (∀ (t' : PS) (iz' st0' : Int), Bd t' → Fm [77, 75, 78, 79, 80, 81, 92, 93, 94] [202, 204, 205, 206, 207, 208, 209, 210, 211, 212, 213, 214, 215, 216, 217, 218, 219, 220, 221, 222, 223, 224, 225, 226, 227, 203, 161, 230, 233, 231, 232, 228] s t' → RLx t' → ((0 ≤ c ∧ c ≤ 127) ∧ (0 ≤ p ∧ p ≤ 7) ∧ (iz' = 0 ∨ iz' = 1) ∧ 0 ≤ st0' ∧ st0' ≤ 6 ∧ iC t' 228 (c).toNat ≠ -1) → WS k 93 [(0, .ref (A 179)), (1, .int (Int32.ofInt c)), (2, .int (Int32.ofInt p)), (3, .int (Int32.ofInt iz')), (4, .int (Int32.ofInt st0'))] [] (Wd A dT t') 0 0) → WS k 45 [(0, .ref (A 179)), (1, .int (Int32.ofInt c)), (2, .int (Int32.ofInt p)), (3, .int (Int32.ofInt iz)), (4, .int (Int32.ofInt st0))] [] (Wd A dT t) 0 0 := by
    intro n
    induction n with
    | zero =>
      intro t c p iz st0 I F jjRLx hi hm kx
      exact absurd hm (Nat.not_lt_zero _)
    | succ n ih =>
      intro t c p iz st0 I F jjRLx hi hm kx
      refine z_load X (x := st0) (show cdA 254 45 = some (.iload 4, 2, 0, 0, 0) from rfl) (List.Mem.tail _ (List.Mem.tail _ (List.Mem.tail _ (List.Mem.tail _ (List.Mem.head _))))) ?_
      refine z_bipush X (show cdA 254 47 = some (.bipush 6, 2, 0, 0, 6) from rfl) ?_
      refine z_icmp_ge X (t := 93) (show cdA 254 49 = some (.if_icmp .ge 44, 3, 3, 0, 0) from rfl) (by decide) ⟨by first | exact oq_fa4e5087 hi.2.2.2.1 | omega, by first | exact oq_b301c3bf hi.2.2.2.2.1 | omega⟩ (by decide) (fun g1001 => ?_) (fun g1001 => ?_)
      ·
        refine WS_lv (lv := [(0, .ref (A 179)), (1, .int (Int32.ofInt c)), (2, .int (Int32.ofInt p)), (3, .int (Int32.ofInt iz)), (4, .int (Int32.ofInt st0))]) (List.forall_mem_cons.mpr ⟨(List.Mem.head _), (List.forall_mem_cons.mpr ⟨(List.Mem.tail _ (List.Mem.head _)), (List.forall_mem_cons.mpr ⟨(List.Mem.tail _ (List.Mem.tail _ (List.Mem.head _))), (List.forall_mem_cons.mpr ⟨(List.Mem.tail _ (List.Mem.tail _ (List.Mem.tail _ (List.Mem.head _)))), (List.forall_mem_cons.mpr ⟨(List.Mem.tail _ (List.Mem.tail _ (List.Mem.tail _ (List.Mem.tail _ (List.Mem.head _))))), (fun q h => absurd h List.not_mem_nil)⟩)⟩)⟩)⟩)⟩) ?_
        exact kx _ iz st0 I F jjRLx (by first | exact ⟨And.intro (hi.1.1) (hi.1.2), And.intro (hi.2.1.1) (hi.2.1.2), hi.2.2.1, hi.2.2.2.1, hi.2.2.2.2.1, hi.2.2.2.2.2⟩ | omega)
      ·
        refine z_load_n X (x := iz) (show cdA 254 52 = some (.iload_n 3, 1, 0, 0, 0) from rfl) (List.Mem.tail _ (List.Mem.tail _ (List.Mem.tail _ (List.Mem.head _)))) ?_
        refine z_if_ne X (t := 81) (show cdA 254 53 = some (.ifCond .ne 28, 3, 1, 0, 0) from rfl) (by decide) ⟨by first | exact oq_bde653e9 hi.2.2.1 | omega, by first | exact oq_4ad2cb8b hi.2.2.1 | omega⟩ (fun g1002 => ?_) (fun g1002 => ?_)
        ·
          refine z_const X (show cdA 254 81 = some (.iconst 1, 1, 0, 0, 0) from rfl) ?_
          refine z_goto X (t := 86) (show cdA 254 82 = some (.goto 4, 3, 0, 0, 0) from rfl) (by decide) ?_
          refine z_store_n X (lv' := [(3, .int (Int32.ofInt 1)), (0, .ref (A 179)), (1, .int (Int32.ofInt c)), (2, .int (Int32.ofInt p)), (4, .int (Int32.ofInt st0))]) (show cdA 254 86 = some (.istore_n 3, 1, 0, 0, 0) from rfl) (by decide) (fun _ h => h) ?_
          refine z_inc X (x := st0) (lv' := [(4, .int (Int32.ofInt (st0 + 1))), (3, .int (Int32.ofInt 1)), (0, .ref (A 179)), (1, .int (Int32.ofInt c)), (2, .int (Int32.ofInt p))]) (show cdA 254 87 = some (.iinc 4 1, 3, 0, 0, 0) from rfl) (by decide) (List.Mem.tail _ (List.Mem.tail _ (List.Mem.tail _ (List.Mem.tail _ (List.Mem.head _))))) (fun _ h => h) ?_
          refine z_goto X (t := 45) (show cdA 254 90 = some (.goto (-45), 3, 0, 0, 0) from rfl) (by decide) ?_
          refine WS_lv (lv := [(0, .ref (A 179)), (1, .int (Int32.ofInt c)), (2, .int (Int32.ofInt p)), (3, .int (Int32.ofInt 1)), (4, .int (Int32.ofInt (st0 + 1)))]) (List.forall_mem_cons.mpr ⟨(List.Mem.tail _ (List.Mem.tail _ (List.Mem.head _))), (List.forall_mem_cons.mpr ⟨(List.Mem.tail _ (List.Mem.tail _ (List.Mem.tail _ (List.Mem.head _)))), (List.forall_mem_cons.mpr ⟨(List.Mem.tail _ (List.Mem.tail _ (List.Mem.tail _ (List.Mem.tail _ (List.Mem.head _))))), (List.forall_mem_cons.mpr ⟨(List.Mem.tail _ (List.Mem.head _)), (List.forall_mem_cons.mpr ⟨(List.Mem.head _), (fun q h => absurd h List.not_mem_nil)⟩)⟩)⟩)⟩)⟩) ?_
          exact ih _ c p 1 (st0 + 1) I F jjRLx (by first | exact ⟨And.intro (hi.1.1) (hi.1.2), And.intro (hi.2.1.1) (hi.2.1.2), Or.inr (by decide), oq_54f49eb5 hi.2.2.2.1, oq_5bf54478 g1001, hi.2.2.2.2.2⟩ | omega) (by first | exact qk_me hm (by decide) (oq_2265a080 g1001) | omega) kx
        ·
          refine z_load_n X (x := c) (show cdA 254 56 = some (.iload_n 1, 1, 0, 0, 0) from rfl) (List.Mem.tail _ (List.Mem.head _)) ?_
          refine z_load X (x := st0) (show cdA 254 57 = some (.iload 4, 2, 0, 0, 0) from rfl) (List.Mem.tail _ (List.Mem.tail _ (List.Mem.tail _ (List.Mem.tail _ (List.Mem.head _))))) ?_
          refine z_callS X (rm := rmN 190) (As := [.int (Int32.ofInt c), .int (Int32.ofInt st0)]) (st := []) (show cdA 254 59 = some (.invokestatic 223, 3, 190, 1, 0) from rfl) rfl (by rw [E.1, E.2.1, E.2.2.1]; exact k_beside G I (by first | exact ⟨hi.1.1, hi.1.2⟩ | omega) (by first | exact ⟨hi.2.2.2.1, oq_a4cef127 g1001⟩ | omega)) ⟨by rw [E.2.2.2]; exact (show (rmN 190).frames + 1 ≤ (rmN 254).frames by decide), by rw [E.2.2.2]; exact (show 8 + (mNL (miB 190) + 11) + (rmN 190).locals ≤ (rmN 254).locals by decide), by rw [E.2.2.2]; exact (show 0 + (rmN 190).cells ≤ (rmN 254).cells by decide), by rw [E.2.2.2]; exact (show 0 + (rmN 190).slots ≤ (rmN 254).slots by decide)⟩ (Nat.le_of_ble_eq_true rfl) (fun vv s1003 hq => ?_) (fun ee s1003 hq => ?_)
          rotate_left
          · obtain ⟨Is1003, Fs1003, e1004, hv, hrs1003, hps1003⟩ := hq; cases hv
          obtain ⟨Is1003, Fs1003, e1004, hv, hrs1003, hps1003⟩ := hq
          cases hv
          have Gs1003 := fm_ts F Fs1003 (by decide) (by decide)
          have cw1005 : iC s1003 228 (c).toNat = iC t 228 (c).toNat := fm_c Fs1003 (by decide)
          have JRLx_s1003 : RLx s1003 := RLx_fm Fs1003 (by decide) jjRLx
          show WS k 62 [(0, .ref (A 179)), (1, .int (Int32.ofInt c)), (2, .int (Int32.ofInt p)), (3, .int (Int32.ofInt iz)), (4, .int (Int32.ofInt st0))] [.int (Int32.ofInt e1004)] (Wd A dT s1003) 0 0
          refine z_const X (show cdA 254 62 = some (.iconst (-1), 1, 0, 0, 0) from rfl) ?_
          refine z_icmp_eq X (t := 85) (show cdA 254 63 = some (.if_icmp .eq 22, 3, 0, 0, 0) from rfl) (by decide) hrs1003 (by decide) (fun g1006 => ?_) (fun g1006 => ?_)
          ·
            refine z_const X (show cdA 254 85 = some (.iconst 0, 1, 0, 0, 0) from rfl) ?_
            refine z_store_n X (lv' := [(3, .int (Int32.ofInt 0)), (0, .ref (A 179)), (1, .int (Int32.ofInt c)), (2, .int (Int32.ofInt p)), (4, .int (Int32.ofInt st0))]) (show cdA 254 86 = some (.istore_n 3, 1, 0, 0, 0) from rfl) (by decide) (fun _ h => h) ?_
            refine z_inc X (x := st0) (lv' := [(4, .int (Int32.ofInt (st0 + 1))), (3, .int (Int32.ofInt 0)), (0, .ref (A 179)), (1, .int (Int32.ofInt c)), (2, .int (Int32.ofInt p))]) (show cdA 254 87 = some (.iinc 4 1, 3, 0, 0, 0) from rfl) (by decide) (List.Mem.tail _ (List.Mem.tail _ (List.Mem.tail _ (List.Mem.tail _ (List.Mem.head _))))) (fun _ h => h) ?_
            refine z_goto X (t := 45) (show cdA 254 90 = some (.goto (-45), 3, 0, 0, 0) from rfl) (by decide) ?_
            refine WS_lv (lv := [(0, .ref (A 179)), (1, .int (Int32.ofInt c)), (2, .int (Int32.ofInt p)), (3, .int (Int32.ofInt 0)), (4, .int (Int32.ofInt (st0 + 1)))]) (List.forall_mem_cons.mpr ⟨(List.Mem.tail _ (List.Mem.tail _ (List.Mem.head _))), (List.forall_mem_cons.mpr ⟨(List.Mem.tail _ (List.Mem.tail _ (List.Mem.tail _ (List.Mem.head _)))), (List.forall_mem_cons.mpr ⟨(List.Mem.tail _ (List.Mem.tail _ (List.Mem.tail _ (List.Mem.tail _ (List.Mem.head _))))), (List.forall_mem_cons.mpr ⟨(List.Mem.tail _ (List.Mem.head _)), (List.forall_mem_cons.mpr ⟨(List.Mem.head _), (fun q h => absurd h List.not_mem_nil)⟩)⟩)⟩)⟩)⟩) ?_
            exact ih _ c p 0 (st0 + 1) Is1003 Gs1003 JRLx_s1003 (by first | exact ⟨And.intro (hi.1.1) (hi.1.2), And.intro (hi.2.1.1) (hi.2.1.2), Or.inl (by decide), oq_54f49eb5 hi.2.2.2.1, oq_5bf54478 g1001, oq_975f6ea0 cw1005 hi.2.2.2.2.2⟩ | omega) (by first | exact qk_me hm (by decide) (oq_2265a080 g1001) | omega) kx
          ·
            refine z_aload_n X (x := A 179) (show cdA 254 66 = some (.aload_n 0, 1, 0, 0, 0) from rfl) (List.Mem.head _) ?_
            refine s_getR X 179 (show cdA 254 67 = some (.getfield 70, 3, 12, 35, 0) from rfl) (by decide) rfl rfl ?_
            refine z_load_n X (x := c) (show cdA 254 70 = some (.iload_n 1, 1, 0, 0, 0) from rfl) (List.Mem.tail _ (List.Mem.head _)) ?_
            refine z_load X (x := st0) (show cdA 254 71 = some (.iload 4, 2, 0, 0, 0) from rfl) (List.Mem.tail _ (List.Mem.tail _ (List.Mem.tail _ (List.Mem.tail _ (List.Mem.head _))))) ?_
            refine z_callS X (rm := rmN 190) (As := [.int (Int32.ofInt c), .int (Int32.ofInt st0)]) (st := [.ref (A 256)]) (show cdA 254 73 = some (.invokestatic 223, 3, 190, 1, 0) from rfl) rfl (by rw [E.1, E.2.1, E.2.2.1]; exact k_beside G Is1003 (by first | exact ⟨hi.1.1, hi.1.2⟩ | omega) (by first | exact ⟨hi.2.2.2.1, oq_a4cef127 g1001⟩ | omega)) ⟨by rw [E.2.2.2]; exact (show (rmN 190).frames + 1 ≤ (rmN 254).frames by decide), by rw [E.2.2.2]; exact (show 8 + (mNL (miB 190) + 11) + (rmN 190).locals ≤ (rmN 254).locals by decide), by rw [E.2.2.2]; exact (show 0 + (rmN 190).cells ≤ (rmN 254).cells by decide), by rw [E.2.2.2]; exact (show 0 + (rmN 190).slots ≤ (rmN 254).slots by decide)⟩ (Nat.le_of_ble_eq_true rfl) (fun vv s1007 hq => ?_) (fun ee s1007 hq => ?_)
            rotate_left
            · obtain ⟨Is1007, Fs1007, e1008, hv, hrs1007, hps1007⟩ := hq; cases hv
            obtain ⟨Is1007, Fs1007, e1008, hv, hrs1007, hps1007⟩ := hq
            cases hv
            have Gs1007 := fm_ts Gs1003 Fs1007 (by decide) (by decide)
            have cw1009 : iC s1007 228 (c).toNat = iC s1003 228 (c).toNat := fm_c Fs1007 (by decide)
            have JRLx_s1007 : RLx s1007 := RLx_fm Fs1007 (by decide) JRLx_s1003
            show WS k 76 [(0, .ref (A 179)), (1, .int (Int32.ofInt c)), (2, .int (Int32.ofInt p)), (3, .int (Int32.ofInt iz)), (4, .int (Int32.ofInt st0))] [.int (Int32.ofInt e1008), .ref (A 256)] (Wd A dT s1007) 0 0
            refine z_ald X 256 (show cdA 254 76 = some (.iaload, 1, 0, 0, 0) from rfl) (by decide) rfl (by first | exact oq_5ccab359 hps1007.1 g1006 hps1003.2.2 hps1003.2.1 hps1003.1 hi.1.1 | omega) (show e1008 < 128 by first | exact oq_31b2bf10 hps1007.2.2 | omega) (by decide) ?_
            have b1010 : ((-1) : Int) ≤ iC s1007 228 (e1008).toNat ∧ iC s1007 228 (e1008).toNat ≤ 7 := Is1007.2 228 _ (show (e1008).toNat < 128 by first | exact oq_c7f4e9c1 hps1007.2.2 | omega)
            refine z_load_n X (x := p) (show cdA 254 77 = some (.iload_n 2, 1, 0, 0, 0) from rfl) (List.Mem.tail _ (List.Mem.tail _ (List.Mem.head _))) ?_
            have N1011 : ∀ e1012 : Int, ((((iC s1007 228 (e1008).toNat) ≠ p) ∧ e1012 = 0) ∨ (((iC s1007 228 (e1008).toNat) = p) ∧ e1012 = 1)) → WS k 86 [(0, .ref (A 179)), (1, .int (Int32.ofInt c)), (2, .int (Int32.ofInt p)), (3, .int (Int32.ofInt iz)), (4, .int (Int32.ofInt st0))] [.int (Int32.ofInt e1012)] (Wd A dT s1007) 0 0 := by
              intro e1012 he1012
              have re1012 : 0 ≤ e1012 ∧ e1012 ≤ 1 := by omega
              refine z_store_n X (lv' := [(3, .int (Int32.ofInt e1012)), (0, .ref (A 179)), (1, .int (Int32.ofInt c)), (2, .int (Int32.ofInt p)), (4, .int (Int32.ofInt st0))]) (show cdA 254 86 = some (.istore_n 3, 1, 0, 0, 0) from rfl) (by decide) (fun _ h => h) ?_
              refine z_inc X (x := st0) (lv' := [(4, .int (Int32.ofInt (st0 + 1))), (3, .int (Int32.ofInt e1012)), (0, .ref (A 179)), (1, .int (Int32.ofInt c)), (2, .int (Int32.ofInt p))]) (show cdA 254 87 = some (.iinc 4 1, 3, 0, 0, 0) from rfl) (by decide) (List.Mem.tail _ (List.Mem.tail _ (List.Mem.tail _ (List.Mem.tail _ (List.Mem.head _))))) (fun _ h => h) ?_
              refine z_goto X (t := 45) (show cdA 254 90 = some (.goto (-45), 3, 0, 0, 0) from rfl) (by decide) ?_
              refine WS_lv (lv := [(0, .ref (A 179)), (1, .int (Int32.ofInt c)), (2, .int (Int32.ofInt p)), (3, .int (Int32.ofInt e1012)), (4, .int (Int32.ofInt (st0 + 1)))]) (List.forall_mem_cons.mpr ⟨(List.Mem.tail _ (List.Mem.tail _ (List.Mem.head _))), (List.forall_mem_cons.mpr ⟨(List.Mem.tail _ (List.Mem.tail _ (List.Mem.tail _ (List.Mem.head _)))), (List.forall_mem_cons.mpr ⟨(List.Mem.tail _ (List.Mem.tail _ (List.Mem.tail _ (List.Mem.tail _ (List.Mem.head _))))), (List.forall_mem_cons.mpr ⟨(List.Mem.tail _ (List.Mem.head _)), (List.forall_mem_cons.mpr ⟨(List.Mem.head _), (fun q h => absurd h List.not_mem_nil)⟩)⟩)⟩)⟩)⟩) ?_
              exact ih _ c p e1012 (st0 + 1) Is1007 Gs1007 JRLx_s1007 (by first | exact ⟨And.intro (hi.1.1) (hi.1.2), And.intro (hi.2.1.1) (hi.2.1.2), oq_31e518ae re1012.2 re1012.1, oq_54f49eb5 hi.2.2.2.1, oq_5bf54478 g1001, oq_14c57661 cw1009 cw1005 hi.2.2.2.2.2⟩ | omega) (by first | exact qk_me hm (by decide) (oq_2265a080 g1001) | omega) kx
            refine z_icmp_ne X (t := 85) (show cdA 254 78 = some (.if_icmp .ne 7, 3, 1, 0, 0) from rfl) (by decide) (rng_to _) ⟨by first | exact oq_fa4e5087 hi.2.1.1 | omega, by first | exact oq_0e78ca7d hi.2.1.2 | omega⟩ (fun g1013 => ?_) (fun g1013 => ?_)
            ·
              refine z_const X (show cdA 254 85 = some (.iconst 0, 1, 0, 0, 0) from rfl) ?_
              exact N1011 _ (Or.inl ⟨g1013, rfl⟩)
            ·
              refine z_const X (show cdA 254 81 = some (.iconst 1, 1, 0, 0, 0) from rfl) ?_
              refine z_goto X (t := 86) (show cdA 254 82 = some (.goto 4, 3, 0, 0, 0) from rfl) (by decide) ?_
              exact N1011 _ (Or.inr (⟨g1013, rfl⟩))
  have L24 : ∀ (n : Nat) (t : PS) (c p : Int), Bd t → Fm [77, 75, 78, 79, 80, 81, 92, 93, 94] [202, 204, 205, 206, 207, 208, 209, 210, 211, 212, 213, 214, 215, 216, 217, 218, 219, 220, 221, 222, 223, 224, 225, 226, 227, 203, 161, 230, 233, 231, 232, 228] s t → RLx t → ((0 ≤ c ∧ c ≤ 127) ∧ 0 ≤ p ∧ p ≤ 8) → (8 - p : Int).toNat < n → (∀ (t' : PS) (p' : Int), Bd t' → Fm [77, 75, 78, 79, 80, 81, 92, 93, 94] [202, 204, 205, 206, 207, 208, 209, 210, 211, 212, 213, 214, 215, 216, 217, 218, 219, 220, 221, 222, 223, 224, 225, 226, 227, 203, 161, 230, 233, 231, 232, 228] s t' → RLx t' → ((0 ≤ c ∧ c ≤ 127) ∧ 0 ≤ p' ∧ p' ≤ 8) → WS k 119 [(0, .ref (A 179)), (1, .int (Int32.ofInt c)), (2, .int (Int32.ofInt p'))] [] (Wd A dT t') 0 0) → WS k 24 [(0, .ref (A 179)), (1, .int (Int32.ofInt c)), (2, .int (Int32.ofInt p))] [] (Wd A dT t) 0 0 := by
    intro n
    induction n with
    | zero =>
      intro t c p I F jjRLx hi hm kx
      exact absurd hm (Nat.not_lt_zero _)
    | succ n ih =>
      intro t c p I F jjRLx hi hm kx
      refine z_load_n X (x := p) (show cdA 254 24 = some (.iload_n 2, 1, 0, 0, 0) from rfl) (List.Mem.tail _ (List.Mem.tail _ (List.Mem.head _))) ?_
      refine z_bipush X (show cdA 254 25 = some (.bipush 8, 2, 0, 0, 8) from rfl) ?_
      refine z_icmp_ge X (t := 119) (show cdA 254 27 = some (.if_icmp .ge 92, 3, 3, 0, 0) from rfl) (by decide) ⟨by first | exact oq_fa4e5087 hi.2.1 | omega, by first | exact oq_d3f5d874 hi.2.2 | omega⟩ (by decide) (fun g2001 => ?_) (fun g2001 => ?_)
      ·
        refine WS_lv (lv := [(0, .ref (A 179)), (1, .int (Int32.ofInt c)), (2, .int (Int32.ofInt p))]) (List.forall_mem_cons.mpr ⟨(List.Mem.head _), (List.forall_mem_cons.mpr ⟨(List.Mem.tail _ (List.Mem.head _)), (List.forall_mem_cons.mpr ⟨(List.Mem.tail _ (List.Mem.tail _ (List.Mem.head _))), (fun q h => absurd h List.not_mem_nil)⟩)⟩)⟩) ?_
        exact kx _ p I F jjRLx (by first | exact ⟨And.intro (hi.1.1) (hi.1.2), hi.2.1, hi.2.2⟩ | omega)
      ·
        refine z_aload_n X (x := A 179) (show cdA 254 30 = some (.aload_n 0, 1, 0, 0, 0) from rfl) (List.Mem.head _) ?_
        refine s_getR X 179 (show cdA 254 31 = some (.getfield 70, 3, 12, 35, 0) from rfl) (by decide) rfl rfl ?_
        refine z_load_n X (x := c) (show cdA 254 34 = some (.iload_n 1, 1, 0, 0, 0) from rfl) (List.Mem.tail _ (List.Mem.head _)) ?_
        refine z_ald X 256 (show cdA 254 35 = some (.iaload, 1, 0, 0, 0) from rfl) (by decide) rfl (by first | exact hi.1.1 | omega) (show c < 128 by first | exact oq_31b2bf10 hi.1.2 | omega) (by decide) ?_
        have b2002 : ((-1) : Int) ≤ iC t 228 (c).toNat ∧ iC t 228 (c).toNat ≤ 7 := I.2 228 _ (show (c).toNat < 128 by first | exact oq_c7f4e9c1 hi.1.2 | omega)
        refine z_const X (show cdA 254 36 = some (.iconst (-1), 1, 0, 0, 0) from rfl) ?_
        refine z_icmp_eq X (t := 119) (show cdA 254 37 = some (.if_icmp .eq 82, 3, 0, 0, 0) from rfl) (by decide) (rng_to _) (by decide) (fun g2003 => ?_) (fun g2003 => ?_)
        ·
          refine WS_lv (lv := [(0, .ref (A 179)), (1, .int (Int32.ofInt c)), (2, .int (Int32.ofInt p))]) (List.forall_mem_cons.mpr ⟨(List.Mem.head _), (List.forall_mem_cons.mpr ⟨(List.Mem.tail _ (List.Mem.head _)), (List.forall_mem_cons.mpr ⟨(List.Mem.tail _ (List.Mem.tail _ (List.Mem.head _))), (fun q h => absurd h List.not_mem_nil)⟩)⟩)⟩) ?_
          exact kx _ p I F jjRLx (by first | exact ⟨And.intro (hi.1.1) (hi.1.2), hi.2.1, hi.2.2⟩ | omega)
        ·
          refine z_const X (show cdA 254 40 = some (.iconst 0, 1, 0, 0, 0) from rfl) ?_
          refine z_store_n X (lv' := [(3, .int (Int32.ofInt 0)), (0, .ref (A 179)), (1, .int (Int32.ofInt c)), (2, .int (Int32.ofInt p))]) (show cdA 254 41 = some (.istore_n 3, 1, 0, 0, 0) from rfl) (by decide) (fun _ h => h) ?_
          refine z_const X (show cdA 254 42 = some (.iconst 0, 1, 0, 0, 0) from rfl) ?_
          refine z_store X (lv' := [(4, .int (Int32.ofInt 0)), (3, .int (Int32.ofInt 0)), (0, .ref (A 179)), (1, .int (Int32.ofInt c)), (2, .int (Int32.ofInt p))]) (show cdA 254 43 = some (.istore 4, 2, 0, 0, 0) from rfl) (by decide) (fun _ h => h) ?_
          refine WS_lv (lv := [(0, .ref (A 179)), (1, .int (Int32.ofInt c)), (2, .int (Int32.ofInt p)), (3, .int (Int32.ofInt 0)), (4, .int (Int32.ofInt 0))]) (List.forall_mem_cons.mpr ⟨(List.Mem.tail _ (List.Mem.tail _ (List.Mem.head _))), (List.forall_mem_cons.mpr ⟨(List.Mem.tail _ (List.Mem.tail _ (List.Mem.tail _ (List.Mem.head _)))), (List.forall_mem_cons.mpr ⟨(List.Mem.tail _ (List.Mem.tail _ (List.Mem.tail _ (List.Mem.tail _ (List.Mem.head _))))), (List.forall_mem_cons.mpr ⟨(List.Mem.tail _ (List.Mem.head _)), (List.forall_mem_cons.mpr ⟨(List.Mem.head _), (fun q h => absurd h List.not_mem_nil)⟩)⟩)⟩)⟩)⟩) ?_
          refine L45 ((6 - 0 : Int).toNat + 1) t c p 0 0 I F jjRLx (by first | exact ⟨And.intro (hi.1.1) (hi.1.2), And.intro (hi.2.1) (oq_78c639ed g2001), Or.inl (by decide), by decide, by decide, g2003⟩ | omega) (Nat.lt_succ_self _) ?_
          intro s2004 x2005 x2006 Is2004 Fs2004 JRLx_s2004 hs2004
          refine z_load_n X (x := x2005) (show cdA 254 93 = some (.iload_n 3, 1, 0, 0, 0) from rfl) (List.Mem.tail _ (List.Mem.tail _ (List.Mem.tail _ (List.Mem.head _)))) ?_
          refine z_if_eq X (t := 113) (show cdA 254 94 = some (.ifCond .eq 19, 3, 0, 0, 0) from rfl) (by decide) ⟨by first | exact oq_bde653e9 hs2004.2.2.1 | omega, by first | exact oq_4ad2cb8b hs2004.2.2.1 | omega⟩ (fun g2007 => ?_) (fun g2007 => ?_)
          ·
            refine z_inc X (x := p) (lv' := [(2, .int (Int32.ofInt (p + 1))), (0, .ref (A 179)), (1, .int (Int32.ofInt c)), (3, .int (Int32.ofInt x2005)), (4, .int (Int32.ofInt x2006))]) (show cdA 254 113 = some (.iinc 2 1, 3, 0, 0, 0) from rfl) (by decide) (List.Mem.tail _ (List.Mem.tail _ (List.Mem.head _))) (fun _ h => h) ?_
            refine z_goto X (t := 24) (show cdA 254 116 = some (.goto (-92), 3, 0, 0, 0) from rfl) (by decide) ?_
            refine WS_lv (lv := [(0, .ref (A 179)), (1, .int (Int32.ofInt c)), (2, .int (Int32.ofInt (p + 1)))]) (List.forall_mem_cons.mpr ⟨(List.Mem.tail _ (List.Mem.head _)), (List.forall_mem_cons.mpr ⟨(List.Mem.tail _ (List.Mem.tail _ (List.Mem.head _))), (List.forall_mem_cons.mpr ⟨(List.Mem.head _), (fun q h => absurd h List.not_mem_nil)⟩)⟩)⟩) ?_
            exact ih _ c (p + 1) Is2004 Fs2004 JRLx_s2004 (by first | exact ⟨And.intro (hs2004.1.1) (hs2004.1.2), oq_54f49eb5 hs2004.2.1.1, oq_18969492 hs2004.2.1.2⟩ | omega) (by first | exact qk_me hm (by decide) (oq_6bd25173 hs2004.2.1.2) | omega) kx
          ·
            refine z_load_n X (x := p) (show cdA 254 97 = some (.iload_n 2, 1, 0, 0, 0) from rfl) (List.Mem.tail _ (List.Mem.tail _ (List.Mem.head _))) ?_
            refine z_aload_n X (x := A 179) (show cdA 254 98 = some (.aload_n 0, 1, 0, 0, 0) from rfl) (List.Mem.head _) ?_
            refine s_getR X 179 (show cdA 254 99 = some (.getfield 70, 3, 12, 35, 0) from rfl) (by decide) rfl rfl ?_
            refine z_load_n X (x := c) (show cdA 254 102 = some (.iload_n 1, 1, 0, 0, 0) from rfl) (List.Mem.tail _ (List.Mem.head _)) ?_
            refine z_ald X 256 (show cdA 254 103 = some (.iaload, 1, 0, 0, 0) from rfl) (by decide) rfl (by first | exact hs2004.1.1 | omega) (show c < 128 by first | exact oq_31b2bf10 hs2004.1.2 | omega) (by decide) ?_
            have b2008 : ((-1) : Int) ≤ iC s2004 228 (c).toNat ∧ iC s2004 228 (c).toNat ≤ 7 := Is2004.2 228 _ (show (c).toNat < 128 by first | exact oq_c7f4e9c1 hs2004.1.2 | omega)
            refine z_icmp_eq X (t := 113) (show cdA 254 104 = some (.if_icmp .eq 9, 3, 0, 0, 0) from rfl) (by decide) ⟨by first | exact oq_fa4e5087 hs2004.2.1.1 | omega, by first | exact oq_0e78ca7d hs2004.2.1.2 | omega⟩ (rng_to _) (fun g2009 => ?_) (fun g2009 => ?_)
            ·
              refine z_inc X (x := p) (lv' := [(2, .int (Int32.ofInt (p + 1))), (0, .ref (A 179)), (1, .int (Int32.ofInt c)), (3, .int (Int32.ofInt x2005)), (4, .int (Int32.ofInt x2006))]) (show cdA 254 113 = some (.iinc 2 1, 3, 0, 0, 0) from rfl) (by decide) (List.Mem.tail _ (List.Mem.tail _ (List.Mem.head _))) (fun _ h => h) ?_
              refine z_goto X (t := 24) (show cdA 254 116 = some (.goto (-92), 3, 0, 0, 0) from rfl) (by decide) ?_
              refine WS_lv (lv := [(0, .ref (A 179)), (1, .int (Int32.ofInt c)), (2, .int (Int32.ofInt (p + 1)))]) (List.forall_mem_cons.mpr ⟨(List.Mem.tail _ (List.Mem.head _)), (List.forall_mem_cons.mpr ⟨(List.Mem.tail _ (List.Mem.tail _ (List.Mem.head _))), (List.forall_mem_cons.mpr ⟨(List.Mem.head _), (fun q h => absurd h List.not_mem_nil)⟩)⟩)⟩) ?_
              exact ih _ c (p + 1) Is2004 Fs2004 JRLx_s2004 (by first | exact ⟨And.intro (hs2004.1.1) (hs2004.1.2), oq_54f49eb5 hs2004.2.1.1, oq_18969492 hs2004.2.1.2⟩ | omega) (by first | exact qk_me hm (by decide) (oq_6bd25173 hs2004.2.1.2) | omega) kx
            ·
              refine z_aload_n X (x := A 179) (show cdA 254 107 = some (.aload_n 0, 1, 0, 0, 0) from rfl) (List.Mem.head _) ?_
              refine z_load_n X (x := c) (show cdA 254 108 = some (.iload_n 1, 1, 0, 0, 0) from rfl) (List.Mem.tail _ (List.Mem.head _)) ?_
              refine z_load_n X (x := p) (show cdA 254 109 = some (.iload_n 2, 1, 0, 0, 0) from rfl) (List.Mem.tail _ (List.Mem.tail _ (List.Mem.head _))) ?_
              refine z_callV X 179 (rm := rmN 255) (As := [.int (Int32.ofInt c), .int (Int32.ofInt p)]) (st := []) (show cdA 254 110 = some (.invokevirtual 375, 3, 255, 0, 0) from rfl) rfl (by decide) rfl (by rw [E.1, E.2.1, E.2.2.1]; exact k_tries G Is2004 JRLx_s2004 (by first | exact ⟨hs2004.1.1, hs2004.1.2⟩ | omega) (by first | exact ⟨hs2004.2.1.1, hs2004.2.1.2⟩ | omega) (by first | exact hs2004.2.2.2.2.2 | omega)) ⟨by rw [E.2.2.2]; exact (show (rmN 255).frames + 1 ≤ (rmN 254).frames by decide), by rw [E.2.2.2]; exact (show 8 + (mNL (miB 255) + 11) + (rmN 255).locals ≤ (rmN 254).locals by decide), by rw [E.2.2.2]; exact (show 0 + (rmN 255).cells ≤ (rmN 254).cells by decide), by rw [E.2.2.2]; exact (show 0 + (rmN 255).slots ≤ (rmN 254).slots by decide)⟩ (Nat.le_of_ble_eq_true rfl) (fun vv s2010 hq => ?_) (fun ee s2010 hq => ?_)
              rotate_left
              · obtain ⟨Is2010, Fs2010, JRLx_s2010, hv, hps2010⟩ := hq; cases hv
              obtain ⟨Is2010, Fs2010, JRLx_s2010, hv, hps2010⟩ := hq
              cases hv
              have Gs2010 := fm_ts Fs2004 Fs2010 (by decide) (by decide)
              have JRLx_s2010 : RLx s2010 := RLx_fm Fs2010 (by decide) JRLx_s2004
              show WS k 113 [(0, .ref (A 179)), (1, .int (Int32.ofInt c)), (2, .int (Int32.ofInt p)), (3, .int (Int32.ofInt x2005)), (4, .int (Int32.ofInt x2006))] [] (Wd A dT s2010) 0 0
              refine z_inc X (x := p) (lv' := [(2, .int (Int32.ofInt (p + 1))), (0, .ref (A 179)), (1, .int (Int32.ofInt c)), (3, .int (Int32.ofInt x2005)), (4, .int (Int32.ofInt x2006))]) (show cdA 254 113 = some (.iinc 2 1, 3, 0, 0, 0) from rfl) (by decide) (List.Mem.tail _ (List.Mem.tail _ (List.Mem.head _))) (fun _ h => h) ?_
              refine z_goto X (t := 24) (show cdA 254 116 = some (.goto (-92), 3, 0, 0, 0) from rfl) (by decide) ?_
              refine WS_lv (lv := [(0, .ref (A 179)), (1, .int (Int32.ofInt c)), (2, .int (Int32.ofInt (p + 1)))]) (List.forall_mem_cons.mpr ⟨(List.Mem.tail _ (List.Mem.head _)), (List.forall_mem_cons.mpr ⟨(List.Mem.tail _ (List.Mem.tail _ (List.Mem.head _))), (List.forall_mem_cons.mpr ⟨(List.Mem.head _), (fun q h => absurd h List.not_mem_nil)⟩)⟩)⟩) ?_
              exact ih _ c (p + 1) Is2010 Gs2010 JRLx_s2010 (by first | exact ⟨And.intro (hs2004.1.1) (hs2004.1.2), oq_54f49eb5 hs2004.2.1.1, oq_18969492 hs2004.2.1.2⟩ | omega) (by first | exact qk_me hm (by decide) (oq_6bd25173 hs2004.2.1.2) | omega) kx
  have L15 : ∀ (n : Nat) (t : PS) (c : Int), Bd t → Fm [77, 75, 78, 79, 80, 81, 92, 93, 94] [202, 204, 205, 206, 207, 208, 209, 210, 211, 212, 213, 214, 215, 216, 217, 218, 219, 220, 221, 222, 223, 224, 225, 226, 227, 203, 161, 230, 233, 231, 232, 228] s t → RLx t → (0 ≤ c ∧ c ≤ 128) → (128 - c : Int).toNat < n → (∀ (t' : PS) (c' : Int), Bd t' → Fm [77, 75, 78, 79, 80, 81, 92, 93, 94] [202, 204, 205, 206, 207, 208, 209, 210, 211, 212, 213, 214, 215, 216, 217, 218, 219, 220, 221, 222, 223, 224, 225, 226, 227, 203, 161, 230, 233, 231, 232, 228] s t' → RLx t' → (0 ≤ c' ∧ c' ≤ 128) → WS k 125 [(0, .ref (A 179)), (1, .int (Int32.ofInt c'))] [] (Wd A dT t') 0 0) → WS k 15 [(0, .ref (A 179)), (1, .int (Int32.ofInt c))] [] (Wd A dT t) 0 0 := by
    intro n
    induction n with
    | zero =>
      intro t c I F jjRLx hi hm kx
      exact absurd hm (Nat.not_lt_zero _)
    | succ n ih =>
      intro t c I F jjRLx hi hm kx
      refine z_load_n X (x := c) (show cdA 254 15 = some (.iload_n 1, 1, 0, 0, 0) from rfl) (List.Mem.tail _ (List.Mem.head _)) ?_
      refine z_sipush X (show cdA 254 16 = some (.sipush 128, 3, 0, 0, 128) from rfl) ?_
      refine z_icmp_ge X (t := 125) (show cdA 254 19 = some (.if_icmp .ge 106, 3, 3, 0, 0) from rfl) (by decide) ⟨by first | exact oq_fa4e5087 hi.1 | omega, by first | exact oq_4ee82282 hi.2 | omega⟩ (by decide) (fun g3001 => ?_) (fun g3001 => ?_)
      ·
        refine WS_lv (lv := [(0, .ref (A 179)), (1, .int (Int32.ofInt c))]) (List.forall_mem_cons.mpr ⟨(List.Mem.head _), (List.forall_mem_cons.mpr ⟨(List.Mem.tail _ (List.Mem.head _)), (fun q h => absurd h List.not_mem_nil)⟩)⟩) ?_
        exact kx _ c I F jjRLx (by first | exact ⟨hi.1, hi.2⟩ | omega)
      ·
        refine z_const X (show cdA 254 22 = some (.iconst 0, 1, 0, 0, 0) from rfl) ?_
        refine z_store_n X (lv' := [(2, .int (Int32.ofInt 0)), (0, .ref (A 179)), (1, .int (Int32.ofInt c))]) (show cdA 254 23 = some (.istore_n 2, 1, 0, 0, 0) from rfl) (by decide) (fun _ h => h) ?_
        refine WS_lv (lv := [(0, .ref (A 179)), (1, .int (Int32.ofInt c)), (2, .int (Int32.ofInt 0))]) (List.forall_mem_cons.mpr ⟨(List.Mem.tail _ (List.Mem.head _)), (List.forall_mem_cons.mpr ⟨(List.Mem.tail _ (List.Mem.tail _ (List.Mem.head _))), (List.forall_mem_cons.mpr ⟨(List.Mem.head _), (fun q h => absurd h List.not_mem_nil)⟩)⟩)⟩) ?_
        refine L24 ((8 - 0 : Int).toNat + 1) t c 0 I F jjRLx (by first | exact ⟨And.intro (hi.1) (oq_04367f15 g3001), by decide, by decide⟩ | omega) (Nat.lt_succ_self _) ?_
        intro s3002 x3003 Is3002 Fs3002 JRLx_s3002 hs3002
        refine z_inc X (x := c) (lv' := [(1, .int (Int32.ofInt (c + 1))), (0, .ref (A 179)), (2, .int (Int32.ofInt x3003))]) (show cdA 254 119 = some (.iinc 1 1, 3, 0, 0, 0) from rfl) (by decide) (List.Mem.tail _ (List.Mem.head _)) (fun _ h => h) ?_
        refine z_goto X (t := 15) (show cdA 254 122 = some (.goto (-107), 3, 0, 0, 0) from rfl) (by decide) ?_
        refine WS_lv (lv := [(0, .ref (A 179)), (1, .int (Int32.ofInt (c + 1)))]) (List.forall_mem_cons.mpr ⟨(List.Mem.tail _ (List.Mem.head _)), (List.forall_mem_cons.mpr ⟨(List.Mem.head _), (fun q h => absurd h List.not_mem_nil)⟩)⟩) ?_
        exact ih _ (c + 1) Is3002 Fs3002 JRLx_s3002 (by first | exact ⟨oq_54f49eb5 hs3002.1.1, oq_e4399267 hs3002.1.2⟩ | omega) (by first | exact qk_me hm (by decide) (oq_7e05e720 hs3002.1.2) | omega) kx
  refine z_aload_n X (x := A 179) (show cdA 254 0 = some (.aload_n 0, 1, 0, 0, 0) from rfl) (List.Mem.head _) ?_
  refine z_const X (show cdA 254 1 = some (.iconst (-1), 1, 0, 0, 0) from rfl) ?_
  refine s_putI X 179 (show cdA 254 2 = some (.putfield 369, 3, 12, 41, 0) from rfl) (by decide) rfl rfl (by decide) rfl rfl rfl ?_
  obtain ⟨s1, hs1⟩ : ∃ x0, x0 = uI s 92 (Int32.ofInt (-1)) := ⟨_, rfl⟩
  rw [← hs1]
  have Is1 : Bd s1 := by rw [hs1]; exact bd_I I (show ((-1) : Int) ≤ (-1) ∧ (-1) ≤ 127 by first | exact ⟨by decide, by decide⟩ | omega) (by decide)
  have Fs1 := fm_I (x := Int32.ofInt (-1)) F (show 92 ∈ _ by decide)
  rw [← hs1] at Fs1
  have vs1 : iI s1 92 = (-1) := by rw [hs1]; exact iI_u (by decide)
  have fs1 : Fm [92] [] s s1 := by rw [hs1]; exact fm_I (fm_rf _ _ _) (show 92 ∈ _ by decide)
  have JRLx_s1 : RLx s1 := RLx_fm fs1 (by decide) jRLx
  refine z_aload_n X (x := A 179) (show cdA 254 5 = some (.aload_n 0, 1, 0, 0, 0) from rfl) (List.Mem.head _) ?_
  refine z_aload_n X (x := A 179) (show cdA 254 6 = some (.aload_n 0, 1, 0, 0, 0) from rfl) (List.Mem.head _) ?_
  refine z_callV X 179 (rm := rmN 252) (As := []) (st := [.ref (A 179)]) (show cdA 254 7 = some (.invokevirtual 366, 3, 252, 0, 0) from rfl) rfl (by decide) rfl (by rw [E.1, E.2.1, E.2.2.1]; exact k_costOf G Is1 JRLx_s1 ) ⟨by rw [E.2.2.2]; exact (show (rmN 252).frames + 1 ≤ (rmN 254).frames by decide), by rw [E.2.2.2]; exact (show 8 + (mNL (miB 252) + 11) + (rmN 252).locals ≤ (rmN 254).locals by decide), by rw [E.2.2.2]; exact (show 0 + (rmN 252).cells ≤ (rmN 254).cells by decide), by rw [E.2.2.2]; exact (show 0 + (rmN 252).slots ≤ (rmN 254).slots by decide)⟩ (Nat.le_of_ble_eq_true rfl) (fun vv s2 hq => ?_) (fun ee s2 hq => ?_)
  rotate_left
  · obtain ⟨Is2, Fs2, JRLx_s2, e3, hv, hrs2, hps2⟩ := hq; cases hv
  obtain ⟨Is2, Fs2, JRLx_s2, e3, hv, hrs2, hps2⟩ := hq
  cases hv
  have Gs2 := fm_ts Fs1 Fs2 (by decide) (by decide)
  have JRLx_s2 : RLx s2 := RLx_fm Fs2 (by decide) JRLx_s1
  show WS k 10 [(0, .ref (A 179))] [.int (Int32.ofInt e3), .ref (A 179)] (Wd A dT s2) 0 0
  refine s_putI X 179 (show cdA 254 10 = some (.putfield 372, 3, 12, 43, 0) from rfl) (by decide) rfl rfl (by decide) rfl rfl rfl ?_
  obtain ⟨s4, hs4⟩ : ∃ x0, x0 = uI s2 94 (Int32.ofInt e3) := ⟨_, rfl⟩
  rw [← hs4]
  have Is4 : Bd s4 := by rw [hs4]; exact bd_I Is2 (show ((-2147483648) : Int) ≤ e3 ∧ e3 ≤ 2147483647 by omega) hrs2
  have Fs4 := fm_I (x := Int32.ofInt e3) Gs2 (show 94 ∈ _ by decide)
  rw [← hs4] at Fs4
  have vs4 : iI s4 94 = e3 := by rw [hs4]; exact iI_u hrs2
  have fs4 : Fm [94] [] s2 s4 := by rw [hs4]; exact fm_I (fm_rf _ _ _) (show 94 ∈ _ by decide)
  have JRLx_s4 : RLx s4 := RLx_fm fs4 (by decide) JRLx_s2
  refine z_const X (show cdA 254 13 = some (.iconst 0, 1, 0, 0, 0) from rfl) ?_
  refine z_store_n X (lv' := [(1, .int (Int32.ofInt 0)), (0, .ref (A 179))]) (show cdA 254 14 = some (.istore_n 1, 1, 0, 0, 0) from rfl) (by decide) (fun _ h => h) ?_
  refine WS_lv (lv := [(0, .ref (A 179)), (1, .int (Int32.ofInt 0))]) (List.forall_mem_cons.mpr ⟨(List.Mem.tail _ (List.Mem.head _)), (List.forall_mem_cons.mpr ⟨(List.Mem.head _), (fun q h => absurd h List.not_mem_nil)⟩)⟩) ?_
  refine L15 ((128 - 0 : Int).toNat + 1) s4 0 Is4 Fs4 JRLx_s4 (by first | exact ⟨by decide, by decide⟩ | omega) (Nat.lt_succ_self _) ?_
  intro s5 x6 Is5 Fs5 JRLx_s5 hs5
  exact w_vret X.1 q hRt (ax_d X (show cdA 254 125 = some (.return_, 1, 0, 0, 0) from rfl)) (Nat.zero_le _) (Nat.zero_le _) ⟨_, rfl, Is5, Fs5, JRLx_s5, rfl, trivial⟩
set_option maxRecDepth 4000 in
theorem k_better (G : GX l s0 D tys a0 dT) (I : Bd s) (jRLx : RLx s) {x : Int} (p0 : rng x) : CT l s0 D A dT 256 (rmN 256) [.ref (A 179), .int (Int32.ofInt x)] s (fun o t => Bd t ∧ Fm [73, 77, 75, 78, 79, 80, 81, 92, 93, 94] [202, 204, 205, 206, 207, 208, 209, 210, 211, 212, 213, 214, 215, 216, 217, 218, 219, 220, 221, 222, 223, 224, 225, 226, 227, 203, 161, 230, 233, 231, 232, 228] s t ∧ RLx t ∧ ∃ e, o = .inl (some (.int (Int32.ofInt e))) ∧ rng e ∧ (True)) := by
  refine ct_of G (by decide) (Nat.le_of_ble_eq_true rfl) (fun k X E hRt hXt q => ?_)
  show WS k 0 [(0, .ref (A 179)), (1, .int (Int32.ofInt x))] [] _ 0 0
  have F : Fm [73, 77, 75, 78, 79, 80, 81, 92, 93, 94] [202, 204, 205, 206, 207, 208, 209, 210, 211, 212, 213, 214, 215, 216, 217, 218, 219, 220, 221, 222, 223, 224, 225, 226, 227, 203, 161, 230, 233, 231, 232, 228] s s := fm_rf _ _ s
  have b1 : (0 : Int) ≤ iI s 73 ∧ iI s 73 ≤ 3 := I.1 73
  refine z_aload_n X (x := A 179) (show cdA 256 0 = some (.aload_n 0, 1, 0, 0, 0) from rfl) (List.Mem.head _) ?_
  refine z_const X (show cdA 256 1 = some (.iconst 0, 1, 0, 0, 0) from rfl) ?_
  refine s_putI X 179 (show cdA 256 2 = some (.putfield 172, 3, 12, 0, 0) from rfl) (by decide) rfl rfl (by decide) rfl rfl rfl ?_
  obtain ⟨s2, hs2⟩ : ∃ x0, x0 = uI s 73 (Int32.ofInt 0) := ⟨_, rfl⟩
  rw [← hs2]
  have Is2 : Bd s2 := by rw [hs2]; exact bd_I I (show (0 : Int) ≤ 0 ∧ 0 ≤ 3 by first | exact ⟨by decide, by decide⟩ | omega) (by decide)
  have Fs2 := fm_I (x := Int32.ofInt 0) F (show 73 ∈ _ by decide)
  rw [← hs2] at Fs2
  have vs2 : iI s2 73 = 0 := by rw [hs2]; exact iI_u (by decide)
  have fs2 : Fm [73] [] s s2 := by rw [hs2]; exact fm_I (fm_rf _ _ _) (show 73 ∈ _ by decide)
  have JRLx_s2 : RLx s2 := RLx_fm fs2 (by decide) jRLx
  refine z_aload_n X (x := A 179) (show cdA 256 5 = some (.aload_n 0, 1, 0, 0, 0) from rfl) (List.Mem.head _) ?_
  refine z_load_n X (x := x) (show cdA 256 6 = some (.iload_n 1, 1, 0, 0, 0) from rfl) (List.Mem.tail _ (List.Mem.head _)) ?_
  refine z_const X (show cdA 256 7 = some (.iconst 0, 1, 0, 0, 0) from rfl) ?_
  refine z_const X (show cdA 256 8 = some (.iconst 2, 1, 0, 0, 0) from rfl) ?_
  refine z_callS X (rm := rmN 188) (As := [.int (Int32.ofInt x), .int (Int32.ofInt 0), .int (Int32.ofInt 2)]) (st := [.ref (A 179)]) (show cdA 256 9 = some (.invokestatic 209, 3, 188, 1, 0) from rfl) rfl (by rw [E.1, E.2.1, E.2.2.1]; exact k_in G Is2 (by first | exact ⟨p0.1, p0.2⟩ | omega) (by first | exact ⟨by decide, by decide⟩ | omega) (by first | exact ⟨by decide, by decide⟩ | omega)) ⟨by rw [E.2.2.2]; exact (show (rmN 188).frames + 1 ≤ (rmN 256).frames by decide), by rw [E.2.2.2]; exact (show 8 + (mNL (miB 188) + 11) + (rmN 188).locals ≤ (rmN 256).locals by decide), by rw [E.2.2.2]; exact (show 0 + (rmN 188).cells ≤ (rmN 256).cells by decide), by rw [E.2.2.2]; exact (show 0 + (rmN 188).slots ≤ (rmN 256).slots by decide)⟩ (Nat.le_of_ble_eq_true rfl) (fun vv s3 hq => ?_) (fun ee s3 hq => ?_)
  rotate_left
  · obtain ⟨Is3, Fs3, e4, hv, hrs3, hps3⟩ := hq; cases hv
  obtain ⟨Is3, Fs3, e4, hv, hrs3, hps3⟩ := hq
  cases hv
  have Gs3 := fm_ts Fs2 Fs3 (by decide) (by decide)
  have JRLx_s3 : RLx s3 := RLx_fm Fs3 (by decide) JRLx_s2
  have ws3_73 : iI s3 73 = iI s2 73 := fm_i Fs3 (by decide)
  show WS k 12 [(0, .ref (A 179)), (1, .int (Int32.ofInt x))] [.int (Int32.ofInt e4), .ref (A 179)] (Wd A dT s3) 0 0
  have N5 : ∀ e6 : Int, (((e4 ≠ 0) ∧ e6 = 0) ∨ ((e4 = 0) ∧ e6 = 1)) → WS k 20 [(0, .ref (A 179)), (1, .int (Int32.ofInt x))] [.int (Int32.ofInt e6), .ref (A 179)] (Wd A dT s3) 0 0 := by
    intro e6 he6
    have re6 : 0 ≤ e6 ∧ e6 ≤ 1 := by omega
    refine z_const X (show cdA 256 20 = some (.iconst 1, 1, 0, 0, 0) from rfl) ?_
    refine z_callV X 179 (rm := rmN 187) (As := [.int (Int32.ofInt e6), .int (Int32.ofInt 1)]) (st := []) (show cdA 256 21 = some (.invokevirtual 229, 3, 187, 0, 0) from rfl) rfl (by decide) rfl (by rw [E.1, E.2.1, E.2.2.1]; exact k_bad G Is3 (by first | exact oq_31e518ae re6.2 re6.1 | omega) (by first | exact ⟨by decide, by decide⟩ | omega)) ⟨by rw [E.2.2.2]; exact (show (rmN 187).frames + 1 ≤ (rmN 256).frames by decide), by rw [E.2.2.2]; exact (show 8 + (mNL (miB 187) + 11) + (rmN 187).locals ≤ (rmN 256).locals by decide), by rw [E.2.2.2]; exact (show 0 + (rmN 187).cells ≤ (rmN 256).cells by decide), by rw [E.2.2.2]; exact (show 0 + (rmN 187).slots ≤ (rmN 256).slots by decide)⟩ (Nat.le_of_ble_eq_true rfl) (fun vv s7 hq => ?_) (fun ee s7 hq => ?_)
    rotate_left
    · obtain ⟨Is7, Fs7, e8, hv, hrs7, hps7⟩ := hq; cases hv
    obtain ⟨Is7, Fs7, e8, hv, hrs7, hps7⟩ := hq
    cases hv
    have Gs7 := fm_ts Gs3 Fs7 (by decide) (by decide)
    have JRLx_s7 : RLx s7 := RLx_fm Fs7 (by decide) JRLx_s3
    have b9 : (0 : Int) ≤ iI s7 73 ∧ iI s7 73 ≤ 3 := Is7.1 73
    show WS k 24 [(0, .ref (A 179)), (1, .int (Int32.ofInt x))] [.int (Int32.ofInt e8)] (Wd A dT s7) 0 0
    refine z_if_eq X (t := 29) (show cdA 256 24 = some (.ifCond .eq 5, 3, 0, 0, 0) from rfl) (by decide) hrs7 (fun g10 => ?_) (fun g10 => ?_)
    ·
      refine z_aload_n X (x := A 179) (show cdA 256 29 = some (.aload_n 0, 1, 0, 0, 0) from rfl) (List.Mem.head _) ?_
      refine z_callV X 179 (rm := rmN 254) (As := []) (st := []) (show cdA 256 30 = some (.invokevirtual 381, 3, 254, 0, 0) from rfl) rfl (by decide) rfl (by rw [E.1, E.2.1, E.2.2.1]; exact k_findMove G Is7 JRLx_s7 ) ⟨by rw [E.2.2.2]; exact (show (rmN 254).frames + 1 ≤ (rmN 256).frames by decide), by rw [E.2.2.2]; exact (show 8 + (mNL (miB 254) + 11) + (rmN 254).locals ≤ (rmN 256).locals by decide), by rw [E.2.2.2]; exact (show 0 + (rmN 254).cells ≤ (rmN 256).cells by decide), by rw [E.2.2.2]; exact (show 0 + (rmN 254).slots ≤ (rmN 256).slots by decide)⟩ (Nat.le_of_ble_eq_true rfl) (fun vv s11 hq => ?_) (fun ee s11 hq => ?_)
      rotate_left
      · obtain ⟨Is11, Fs11, JRLx_s11, hv, hps11⟩ := hq; cases hv
      obtain ⟨Is11, Fs11, JRLx_s11, hv, hps11⟩ := hq
      cases hv
      have Gs11 := fm_ts Gs7 Fs11 (by decide) (by decide)
      have JRLx_s11 : RLx s11 := RLx_fm Fs11 (by decide) JRLx_s7
      have ws11_73 : iI s11 73 = iI s7 73 := fm_i Fs11 (by decide)
      show WS k 33 [(0, .ref (A 179)), (1, .int (Int32.ofInt x))] [] (Wd A dT s11) 0 0
      refine z_aload_n X (x := A 179) (show cdA 256 33 = some (.aload_n 0, 1, 0, 0, 0) from rfl) (List.Mem.head _) ?_
      refine z_getI X 179 (show cdA 256 34 = some (.getfield 369, 3, 12, 41, 0) from rfl) (by decide) rfl rfl ?_
      have b13 : ((-1) : Int) ≤ iI s11 92 ∧ iI s11 92 ≤ 127 := Is11.1 92
      refine z_const X (show cdA 256 37 = some (.iconst (-1), 1, 0, 0, 0) from rfl) ?_
      have N14 : ∀ e15 : Int, ((((iI s11 92) ≠ (-1)) ∧ (x ≠ 0) ∧ (x ≠ 1) ∧ (((-2147483648) : Int) ≤ iI s11 94 ∧ iI s11 94 ≤ 2147483647) ∧ e15 = (iI s11 94)) ∨ (((iI s11 92) ≠ (-1)) ∧ (x ≠ 0) ∧ (x = 1) ∧ ((0 : Int) ≤ iI s11 93 ∧ iI s11 93 ≤ 7) ∧ e15 = (iI s11 93)) ∨ (((iI s11 92) ≠ (-1)) ∧ (x = 0) ∧ (((-1) : Int) ≤ iI s11 92 ∧ iI s11 92 ≤ 127) ∧ e15 = (iI s11 92)) ∨ (((iI s11 92) = (-1)) ∧ e15 = (-1))) → WS k 72 [(0, .ref (A 179)), (1, .int (Int32.ofInt x))] [.int (Int32.ofInt e15)] (Wd A dT s11) 0 0 := by
        intro e15 he15
        exact w_iret X.1 q hRt rfl (ax_d X (show cdA 256 72 = some (.ireturn, 1, 0, 0, 0) from rfl)) (Nat.zero_le _) (Nat.zero_le _) ⟨_, rfl, Is11, Gs11, JRLx_s11, e15, rfl, ⟨by first | exact oq_9c9def6c he15 b13.1 | omega, by first | exact oq_659a582c he15 b13.2 | omega⟩, trivial⟩
      refine z_icmp_ne X (t := 45) (show cdA 256 38 = some (.if_icmp .ne 7, 3, 1, 0, 0) from rfl) (by decide) (rng_to _) (by decide) (fun g16 => ?_) (fun g16 => ?_)
      ·
        refine z_load_n X (x := x) (show cdA 256 45 = some (.iload_n 1, 1, 0, 0, 0) from rfl) (List.Mem.tail _ (List.Mem.head _)) ?_
        refine z_if_ne X (t := 56) (show cdA 256 46 = some (.ifCond .ne 10, 3, 1, 0, 0) from rfl) (by decide) ⟨by first | exact p0.1 | omega, by first | exact p0.2 | omega⟩ (fun g17 => ?_) (fun g17 => ?_)
        ·
          refine z_load_n X (x := x) (show cdA 256 56 = some (.iload_n 1, 1, 0, 0, 0) from rfl) (List.Mem.tail _ (List.Mem.head _)) ?_
          refine z_const X (show cdA 256 57 = some (.iconst 1, 1, 0, 0, 0) from rfl) ?_
          refine z_icmp_ne X (t := 68) (show cdA 256 58 = some (.if_icmp .ne 10, 3, 1, 0, 0) from rfl) (by decide) ⟨by first | exact p0.1 | omega, by first | exact p0.2 | omega⟩ (by decide) (fun g18 => ?_) (fun g18 => ?_)
          ·
            refine z_aload_n X (x := A 179) (show cdA 256 68 = some (.aload_n 0, 1, 0, 0, 0) from rfl) (List.Mem.head _) ?_
            refine z_getI X 179 (show cdA 256 69 = some (.getfield 372, 3, 12, 43, 0) from rfl) (by decide) rfl rfl ?_
            have b19 : ((-2147483648) : Int) ≤ iI s11 94 ∧ iI s11 94 ≤ 2147483647 := Is11.1 94
            exact N14 _ (Or.inl ⟨g16, g17, g18, b19, rfl⟩)
          ·
            refine z_aload_n X (x := A 179) (show cdA 256 61 = some (.aload_n 0, 1, 0, 0, 0) from rfl) (List.Mem.head _) ?_
            refine z_getI X 179 (show cdA 256 62 = some (.getfield 378, 3, 12, 42, 0) from rfl) (by decide) rfl rfl ?_
            have b20 : (0 : Int) ≤ iI s11 93 ∧ iI s11 93 ≤ 7 := Is11.1 93
            refine z_goto X (t := 72) (show cdA 256 65 = some (.goto 7, 3, 0, 0, 0) from rfl) (by decide) ?_
            exact N14 _ (Or.inr (Or.inl ⟨g16, g17, g18, b20, rfl⟩))
        ·
          refine z_aload_n X (x := A 179) (show cdA 256 49 = some (.aload_n 0, 1, 0, 0, 0) from rfl) (List.Mem.head _) ?_
          refine z_getI X 179 (show cdA 256 50 = some (.getfield 369, 3, 12, 41, 0) from rfl) (by decide) rfl rfl ?_
          have b21 : ((-1) : Int) ≤ iI s11 92 ∧ iI s11 92 ≤ 127 := Is11.1 92
          refine z_goto X (t := 72) (show cdA 256 53 = some (.goto 19, 3, 0, 0, 0) from rfl) (by decide) ?_
          exact N14 _ (Or.inr (Or.inr (Or.inl ⟨g16, g17, b21, rfl⟩)))
      ·
        refine z_const X (show cdA 256 41 = some (.iconst (-1), 1, 0, 0, 0) from rfl) ?_
        refine z_goto X (t := 72) (show cdA 256 42 = some (.goto 30, 3, 0, 0, 0) from rfl) (by decide) ?_
        exact N14 _ (Or.inr (Or.inr (Or.inr (⟨g16, rfl⟩))))
    ·
      refine z_const X (show cdA 256 27 = some (.iconst 0, 1, 0, 0, 0) from rfl) ?_
      exact w_iret X.1 q hRt rfl (ax_d X (show cdA 256 28 = some (.ireturn, 1, 0, 0, 0) from rfl)) (Nat.zero_le _) (Nat.zero_le _) ⟨_, rfl, Is7, Gs7, JRLx_s7, 0, rfl, (by decide), trivial⟩
  refine z_if_ne X (t := 19) (show cdA 256 12 = some (.ifCond .ne 7, 3, 1, 0, 0) from rfl) (by decide) hrs3 (fun g22 => ?_) (fun g22 => ?_)
  ·
    refine z_const X (show cdA 256 19 = some (.iconst 0, 1, 0, 0, 0) from rfl) ?_
    exact N5 _ (Or.inl ⟨g22, rfl⟩)
  ·
    refine z_const X (show cdA 256 15 = some (.iconst 1, 1, 0, 0, 0) from rfl) ?_
    refine z_goto X (t := 20) (show cdA 256 16 = some (.goto 4, 3, 0, 0, 0) from rfl) (by decide) ?_
    exact N5 _ (Or.inr (⟨g22, rfl⟩))
set_option maxRecDepth 4000 in
theorem k_grow (G : GX l s0 D tys a0 dT) (I : Bd s) (jRLx : RLx s) {x : Int} (p0 : rng x) : CT l s0 D A dT 257 (rmN 257) [.ref (A 179), .int (Int32.ofInt x)] s (fun o t => Bd t ∧ Fm [73, 77, 75, 78, 79, 80, 81, 92, 93, 94] [202, 204, 205, 206, 207, 208, 209, 210, 211, 212, 213, 214, 215, 216, 217, 218, 219, 220, 221, 222, 223, 224, 225, 226, 227, 203, 161, 230, 233, 231, 232, 228] s t ∧ RLx t ∧ ∃ e, o = .inl (some (.int (Int32.ofInt e))) ∧ rng e ∧ (True)) := by
  refine ct_of G (by decide) (Nat.le_of_ble_eq_true rfl) (fun k X E hRt hXt q => ?_)
  show WS k 0 [(0, .ref (A 179)), (1, .int (Int32.ofInt x))] [] _ 0 0
  have F : Fm [73, 77, 75, 78, 79, 80, 81, 92, 93, 94] [202, 204, 205, 206, 207, 208, 209, 210, 211, 212, 213, 214, 215, 216, 217, 218, 219, 220, 221, 222, 223, 224, 225, 226, 227, 203, 161, 230, 233, 231, 232, 228] s s := fm_rf _ _ s
  have b1 : (0 : Int) ≤ iI s 73 ∧ iI s 73 ≤ 3 := I.1 73
  have L32 : ∀ (n : Nat) (t : PS) (xv ka : Int), Bd t → Fm [73, 77, 75, 78, 79, 80, 81, 92, 93, 94] [202, 204, 205, 206, 207, 208, 209, 210, 211, 212, 213, 214, 215, 216, 217, 218, 219, 220, 221, 222, 223, 224, 225, 226, 227, 203, 161, 230, 233, 231, 232, 228] s t → RLx t → ((0 ≤ xv ∧ xv ≤ 20) ∧ 0 ≤ ka ∧ ka ≤ 20) → (20 - ka : Int).toNat < n → (∀ (t' : PS) (ka' : Int), Bd t' → Fm [73, 77, 75, 78, 79, 80, 81, 92, 93, 94] [202, 204, 205, 206, 207, 208, 209, 210, 211, 212, 213, 214, 215, 216, 217, 218, 219, 220, 221, 222, 223, 224, 225, 226, 227, 203, 161, 230, 233, 231, 232, 228] s t' → RLx t' → ((0 ≤ xv ∧ xv ≤ 20) ∧ 0 ≤ ka' ∧ ka' ≤ 20) → WS k 70 [(0, .ref (A 179)), (1, .int (Int32.ofInt xv)), (2, .int (Int32.ofInt ka'))] [] (Wd A dT t') 0 0) → WS k 32 [(0, .ref (A 179)), (1, .int (Int32.ofInt xv)), (2, .int (Int32.ofInt ka))] [] (Wd A dT t) 0 0 := by
    intro n
    induction n with
    | zero =>
      intro t xv ka I F jjRLx hi hm kx
      exact absurd hm (Nat.not_lt_zero _)
    | succ n ih =>
      intro t xv ka I F jjRLx hi hm kx
      have b1001 : (0 : Int) ≤ iI t 73 ∧ iI t 73 ≤ 3 := I.1 73
      refine z_load_n X (x := ka) (show cdA 257 32 = some (.iload_n 2, 1, 0, 0, 0) from rfl) (List.Mem.tail _ (List.Mem.tail _ (List.Mem.head _))) ?_
      refine z_load_n X (x := xv) (show cdA 257 33 = some (.iload_n 1, 1, 0, 0, 0) from rfl) (List.Mem.tail _ (List.Mem.head _)) ?_
      refine z_icmp_ge X (t := 70) (show cdA 257 34 = some (.if_icmp .ge 36, 3, 3, 0, 0) from rfl) (by decide) ⟨by first | exact oq_fa4e5087 hi.2.1 | omega, by first | exact oq_d1028203 hi.2.2 | omega⟩ ⟨by first | exact oq_fa4e5087 hi.1.1 | omega, by first | exact oq_d1028203 hi.1.2 | omega⟩ (fun g1002 => ?_) (fun g1002 => ?_)
      ·
        refine WS_lv (lv := [(0, .ref (A 179)), (1, .int (Int32.ofInt xv)), (2, .int (Int32.ofInt ka))]) (List.forall_mem_cons.mpr ⟨(List.Mem.head _), (List.forall_mem_cons.mpr ⟨(List.Mem.tail _ (List.Mem.head _)), (List.forall_mem_cons.mpr ⟨(List.Mem.tail _ (List.Mem.tail _ (List.Mem.head _))), (fun q h => absurd h List.not_mem_nil)⟩)⟩)⟩) ?_
        exact kx _ ka I F jjRLx (by first | exact ⟨And.intro (hi.1.1) (hi.1.2), hi.2.1, hi.2.2⟩ | omega)
      ·
        refine z_aload_n X (x := A 179) (show cdA 257 37 = some (.aload_n 0, 1, 0, 0, 0) from rfl) (List.Mem.head _) ?_
        refine z_callV X 179 (rm := rmN 254) (As := []) (st := []) (show cdA 257 38 = some (.invokevirtual 381, 3, 254, 0, 0) from rfl) rfl (by decide) rfl (by rw [E.1, E.2.1, E.2.2.1]; exact k_findMove G I jjRLx ) ⟨by rw [E.2.2.2]; exact (show (rmN 254).frames + 1 ≤ (rmN 257).frames by decide), by rw [E.2.2.2]; exact (show 8 + (mNL (miB 254) + 11) + (rmN 254).locals ≤ (rmN 257).locals by decide), by rw [E.2.2.2]; exact (show 0 + (rmN 254).cells ≤ (rmN 257).cells by decide), by rw [E.2.2.2]; exact (show 0 + (rmN 254).slots ≤ (rmN 257).slots by decide)⟩ (Nat.le_of_ble_eq_true rfl) (fun vv s1003 hq => ?_) (fun ee s1003 hq => ?_)
        rotate_left
        · obtain ⟨Is1003, Fs1003, JRLx_s1003, hv, hps1003⟩ := hq; cases hv
        obtain ⟨Is1003, Fs1003, JRLx_s1003, hv, hps1003⟩ := hq
        cases hv
        have Gs1003 := fm_ts F Fs1003 (by decide) (by decide)
        have JRLx_s1003 : RLx s1003 := RLx_fm Fs1003 (by decide) jjRLx
        have ws1003_73 : iI s1003 73 = iI t 73 := fm_i Fs1003 (by decide)
        show WS k 41 [(0, .ref (A 179)), (1, .int (Int32.ofInt xv)), (2, .int (Int32.ofInt ka))] [] (Wd A dT s1003) 0 0
        refine z_aload_n X (x := A 179) (show cdA 257 41 = some (.aload_n 0, 1, 0, 0, 0) from rfl) (List.Mem.head _) ?_
        refine z_getI X 179 (show cdA 257 42 = some (.getfield 369, 3, 12, 41, 0) from rfl) (by decide) rfl rfl ?_
        have b1005 : ((-1) : Int) ≤ iI s1003 92 ∧ iI s1003 92 ≤ 127 := Is1003.1 92
        refine z_const X (show cdA 257 45 = some (.iconst (-1), 1, 0, 0, 0) from rfl) ?_
        refine z_icmp_ne X (t := 51) (show cdA 257 46 = some (.if_icmp .ne 5, 3, 1, 0, 0) from rfl) (by decide) (rng_to _) (by decide) (fun g1006 => ?_) (fun g1006 => ?_)
        ·
          refine z_aload_n X (x := A 179) (show cdA 257 51 = some (.aload_n 0, 1, 0, 0, 0) from rfl) (List.Mem.head _) ?_
          refine s_getR X 179 (show cdA 257 52 = some (.getfield 70, 3, 12, 35, 0) from rfl) (by decide) rfl rfl ?_
          refine z_aload_n X (x := A 179) (show cdA 257 55 = some (.aload_n 0, 1, 0, 0, 0) from rfl) (List.Mem.head _) ?_
          refine z_getI X 179 (show cdA 257 56 = some (.getfield 369, 3, 12, 41, 0) from rfl) (by decide) rfl rfl ?_
          have b1007 : ((-1) : Int) ≤ iI s1003 92 ∧ iI s1003 92 ≤ 127 := Is1003.1 92
          refine z_aload_n X (x := A 179) (show cdA 257 59 = some (.aload_n 0, 1, 0, 0, 0) from rfl) (List.Mem.head _) ?_
          refine z_getI X 179 (show cdA 257 60 = some (.getfield 378, 3, 12, 42, 0) from rfl) (by decide) rfl rfl ?_
          have b1008 : (0 : Int) ≤ iI s1003 93 ∧ iI s1003 93 ≤ 7 := Is1003.1 93
          refine z_ast X 256 (show cdA 257 63 = some (.iastore, 1, 0, 0, 0) from rfl) (by decide) rfl (by first | exact oq_5234833b b1007.1 g1006 | omega) (show (iI s1003 92) < 128 by first | exact oq_31b2bf10 b1007.2 | omega) (by decide) ?_
          obtain ⟨s1009, hs1009⟩ : ∃ x0, x0 = uC s1003 228 ((iI s1003 92)).toNat (Int32.ofInt (iI s1003 93)) := ⟨_, rfl⟩
          rw [← hs1009]
          have Is1009 : Bd s1009 := by rw [hs1009]; exact bd_C Is1003 (show ((-1) : Int) ≤ (iI s1003 93) ∧ (iI s1003 93) ≤ 7 by first | exact ⟨oq_ca54ea22 b1008.1, b1008.2⟩ | omega) (rng_to _)
          have Fs1009 := fm_C (i := ((iI s1003 92)).toNat) (x := Int32.ofInt (iI s1003 93)) Gs1003 (show 228 ∈ _ by decide)
          rw [← hs1009] at Fs1009
          have ws1009_73 : iI s1009 73 = iI s1003 73 := by rw [hs1009]; rfl
          have fs1009 : Fm [] [228] s1003 s1009 := by rw [hs1009]; exact fm_C (fm_rf _ _ _) (show 228 ∈ _ by decide)
          have JRLx_s1009 : RLx s1009 := RLx_fm fs1009 (by decide) JRLx_s1003
          refine z_inc X (x := ka) (lv' := [(2, .int (Int32.ofInt (ka + 1))), (0, .ref (A 179)), (1, .int (Int32.ofInt xv))]) (show cdA 257 64 = some (.iinc 2 1, 3, 0, 0, 0) from rfl) (by decide) (List.Mem.tail _ (List.Mem.tail _ (List.Mem.head _))) (fun _ h => h) ?_
          refine z_goto X (t := 32) (show cdA 257 67 = some (.goto (-35), 3, 0, 0, 0) from rfl) (by decide) ?_
          refine WS_lv (lv := [(0, .ref (A 179)), (1, .int (Int32.ofInt xv)), (2, .int (Int32.ofInt (ka + 1)))]) (List.forall_mem_cons.mpr ⟨(List.Mem.tail _ (List.Mem.head _)), (List.forall_mem_cons.mpr ⟨(List.Mem.tail _ (List.Mem.tail _ (List.Mem.head _))), (List.forall_mem_cons.mpr ⟨(List.Mem.head _), (fun q h => absurd h List.not_mem_nil)⟩)⟩)⟩) ?_
          exact ih _ xv (ka + 1) Is1009 Fs1009 JRLx_s1009 (by first | exact ⟨And.intro (hi.1.1) (hi.1.2), oq_54f49eb5 hi.2.1, oq_35fd3fdc g1002 hi.1.2⟩ | omega) (by first | exact qk_me hm (by decide) (oq_f6b465a6 g1002 hi.1.2) | omega) kx
        ·
          refine z_load_n X (x := ka) (show cdA 257 49 = some (.iload_n 2, 1, 0, 0, 0) from rfl) (List.Mem.tail _ (List.Mem.tail _ (List.Mem.head _))) ?_
          exact w_iret X.1 q hRt rfl (ax_d X (show cdA 257 50 = some (.ireturn, 1, 0, 0, 0) from rfl)) (Nat.zero_le _) (Nat.zero_le _) ⟨_, rfl, Is1003, Gs1003, JRLx_s1003, ka, rfl, ⟨by first | exact oq_fa4e5087 hi.2.1 | omega, by first | exact oq_d1028203 hi.2.2 | omega⟩, trivial⟩
  refine z_aload_n X (x := A 179) (show cdA 257 0 = some (.aload_n 0, 1, 0, 0, 0) from rfl) (List.Mem.head _) ?_
  refine z_const X (show cdA 257 1 = some (.iconst 0, 1, 0, 0, 0) from rfl) ?_
  refine s_putI X 179 (show cdA 257 2 = some (.putfield 172, 3, 12, 0, 0) from rfl) (by decide) rfl rfl (by decide) rfl rfl rfl ?_
  obtain ⟨s2, hs2⟩ : ∃ x0, x0 = uI s 73 (Int32.ofInt 0) := ⟨_, rfl⟩
  rw [← hs2]
  have Is2 : Bd s2 := by rw [hs2]; exact bd_I I (show (0 : Int) ≤ 0 ∧ 0 ≤ 3 by first | exact ⟨by decide, by decide⟩ | omega) (by decide)
  have Fs2 := fm_I (x := Int32.ofInt 0) F (show 73 ∈ _ by decide)
  rw [← hs2] at Fs2
  have vs2 : iI s2 73 = 0 := by rw [hs2]; exact iI_u (by decide)
  have fs2 : Fm [73] [] s s2 := by rw [hs2]; exact fm_I (fm_rf _ _ _) (show 73 ∈ _ by decide)
  have JRLx_s2 : RLx s2 := RLx_fm fs2 (by decide) jRLx
  refine z_aload_n X (x := A 179) (show cdA 257 5 = some (.aload_n 0, 1, 0, 0, 0) from rfl) (List.Mem.head _) ?_
  refine z_load_n X (x := x) (show cdA 257 6 = some (.iload_n 1, 1, 0, 0, 0) from rfl) (List.Mem.tail _ (List.Mem.head _)) ?_
  refine z_const X (show cdA 257 7 = some (.iconst 0, 1, 0, 0, 0) from rfl) ?_
  refine z_bipush X (show cdA 257 8 = some (.bipush 20, 2, 0, 0, 20) from rfl) ?_
  refine z_callS X (rm := rmN 188) (As := [.int (Int32.ofInt x), .int (Int32.ofInt 0), .int (Int32.ofInt 20)]) (st := [.ref (A 179)]) (show cdA 257 10 = some (.invokestatic 209, 3, 188, 1, 0) from rfl) rfl (by rw [E.1, E.2.1, E.2.2.1]; exact k_in G Is2 (by first | exact ⟨p0.1, p0.2⟩ | omega) (by first | exact ⟨by decide, by decide⟩ | omega) (by first | exact ⟨by decide, by decide⟩ | omega)) ⟨by rw [E.2.2.2]; exact (show (rmN 188).frames + 1 ≤ (rmN 257).frames by decide), by rw [E.2.2.2]; exact (show 8 + (mNL (miB 188) + 11) + (rmN 188).locals ≤ (rmN 257).locals by decide), by rw [E.2.2.2]; exact (show 0 + (rmN 188).cells ≤ (rmN 257).cells by decide), by rw [E.2.2.2]; exact (show 0 + (rmN 188).slots ≤ (rmN 257).slots by decide)⟩ (Nat.le_of_ble_eq_true rfl) (fun vv s3 hq => ?_) (fun ee s3 hq => ?_)
  rotate_left
  · obtain ⟨Is3, Fs3, e4, hv, hrs3, hps3⟩ := hq; cases hv
  obtain ⟨Is3, Fs3, e4, hv, hrs3, hps3⟩ := hq
  cases hv
  have Gs3 := fm_ts Fs2 Fs3 (by decide) (by decide)
  have JRLx_s3 : RLx s3 := RLx_fm Fs3 (by decide) JRLx_s2
  have ws3_73 : iI s3 73 = iI s2 73 := fm_i Fs3 (by decide)
  show WS k 13 [(0, .ref (A 179)), (1, .int (Int32.ofInt x))] [.int (Int32.ofInt e4), .ref (A 179)] (Wd A dT s3) 0 0
  have N5 : ∀ e6 : Int, (((e4 ≠ 0) ∧ e6 = 0) ∨ ((e4 = 0) ∧ e6 = 1)) → WS k 21 [(0, .ref (A 179)), (1, .int (Int32.ofInt x))] [.int (Int32.ofInt e6), .ref (A 179)] (Wd A dT s3) 0 0 := by
    intro e6 he6
    have re6 : 0 ≤ e6 ∧ e6 ≤ 1 := by omega
    refine z_const X (show cdA 257 21 = some (.iconst 1, 1, 0, 0, 0) from rfl) ?_
    refine z_callV X 179 (rm := rmN 187) (As := [.int (Int32.ofInt e6), .int (Int32.ofInt 1)]) (st := []) (show cdA 257 22 = some (.invokevirtual 229, 3, 187, 0, 0) from rfl) rfl (by decide) rfl (by rw [E.1, E.2.1, E.2.2.1]; exact k_bad G Is3 (by first | exact oq_31e518ae re6.2 re6.1 | omega) (by first | exact ⟨by decide, by decide⟩ | omega)) ⟨by rw [E.2.2.2]; exact (show (rmN 187).frames + 1 ≤ (rmN 257).frames by decide), by rw [E.2.2.2]; exact (show 8 + (mNL (miB 187) + 11) + (rmN 187).locals ≤ (rmN 257).locals by decide), by rw [E.2.2.2]; exact (show 0 + (rmN 187).cells ≤ (rmN 257).cells by decide), by rw [E.2.2.2]; exact (show 0 + (rmN 187).slots ≤ (rmN 257).slots by decide)⟩ (Nat.le_of_ble_eq_true rfl) (fun vv s7 hq => ?_) (fun ee s7 hq => ?_)
    rotate_left
    · obtain ⟨Is7, Fs7, e8, hv, hrs7, hps7⟩ := hq; cases hv
    obtain ⟨Is7, Fs7, e8, hv, hrs7, hps7⟩ := hq
    cases hv
    have Gs7 := fm_ts Gs3 Fs7 (by decide) (by decide)
    have JRLx_s7 : RLx s7 := RLx_fm Fs7 (by decide) JRLx_s3
    have b9 : (0 : Int) ≤ iI s7 73 ∧ iI s7 73 ≤ 3 := Is7.1 73
    show WS k 25 [(0, .ref (A 179)), (1, .int (Int32.ofInt x))] [.int (Int32.ofInt e8)] (Wd A dT s7) 0 0
    refine z_if_eq X (t := 30) (show cdA 257 25 = some (.ifCond .eq 5, 3, 0, 0, 0) from rfl) (by decide) hrs7 (fun g10 => ?_) (fun g10 => ?_)
    ·
      refine z_const X (show cdA 257 30 = some (.iconst 0, 1, 0, 0, 0) from rfl) ?_
      refine z_store_n X (lv' := [(2, .int (Int32.ofInt 0)), (0, .ref (A 179)), (1, .int (Int32.ofInt x))]) (show cdA 257 31 = some (.istore_n 2, 1, 0, 0, 0) from rfl) (by decide) (fun _ h => h) ?_
      refine WS_lv (lv := [(0, .ref (A 179)), (1, .int (Int32.ofInt x)), (2, .int (Int32.ofInt 0))]) (List.forall_mem_cons.mpr ⟨(List.Mem.tail _ (List.Mem.head _)), (List.forall_mem_cons.mpr ⟨(List.Mem.tail _ (List.Mem.tail _ (List.Mem.head _))), (List.forall_mem_cons.mpr ⟨(List.Mem.head _), (fun q h => absurd h List.not_mem_nil)⟩)⟩)⟩) ?_
      refine L32 ((20 - 0 : Int).toNat + 1) s7 x 0 Is7 Gs7 JRLx_s7 (by first | exact ⟨oq_0a6fdc2c g10 hps7.2.1 re6.2 he6 hps3, by decide, by decide⟩ | omega) (Nat.lt_succ_self _) ?_
      intro s11 x12 Is11 Fs11 JRLx_s11 hs11
      have b13 : (0 : Int) ≤ iI s11 73 ∧ iI s11 73 ≤ 3 := Is11.1 73
      refine z_load_n X (x := x) (show cdA 257 70 = some (.iload_n 1, 1, 0, 0, 0) from rfl) (List.Mem.tail _ (List.Mem.head _)) ?_
      exact w_iret X.1 q hRt rfl (ax_d X (show cdA 257 71 = some (.ireturn, 1, 0, 0, 0) from rfl)) (Nat.zero_le _) (Nat.zero_le _) ⟨_, rfl, Is11, Fs11, JRLx_s11, x, rfl, ⟨by first | exact p0.1 | omega, by first | exact p0.2 | omega⟩, trivial⟩
    ·
      refine z_const X (show cdA 257 28 = some (.iconst 0, 1, 0, 0, 0) from rfl) ?_
      exact w_iret X.1 q hRt rfl (ax_d X (show cdA 257 29 = some (.ireturn, 1, 0, 0, 0) from rfl)) (Nat.zero_le _) (Nat.zero_le _) ⟨_, rfl, Is7, Gs7, JRLx_s7, 0, rfl, (by decide), trivial⟩
  refine z_if_ne X (t := 20) (show cdA 257 13 = some (.ifCond .ne 7, 3, 1, 0, 0) from rfl) (by decide) hrs3 (fun g14 => ?_) (fun g14 => ?_)
  ·
    refine z_const X (show cdA 257 20 = some (.iconst 0, 1, 0, 0, 0) from rfl) ?_
    exact N5 _ (Or.inl ⟨g14, rfl⟩)
  ·
    refine z_const X (show cdA 257 16 = some (.iconst 1, 1, 0, 0, 0) from rfl) ?_
    refine z_goto X (t := 21) (show cdA 257 17 = some (.goto 4, 3, 0, 0, 0) from rfl) (by decide) ?_
    exact N5 _ (Or.inr (⟨g14, rfl⟩))
set_option maxRecDepth 4000 in
theorem k_worth (G : GX l s0 D tys a0 dT) (I : Bd s) (jRLx : RLx s) {x y : Int} (p0 : rng x) (p1 : rng y) : CT l s0 D A dT 291 (rmN 291) [.ref (A 179), .int (Int32.ofInt x), .int (Int32.ofInt y)] s (fun o t => Bd t ∧ Fm [73, 77, 75, 78, 79, 80, 81] [202, 204, 205, 206, 207, 208, 209, 210, 211, 212, 213, 214, 215, 216, 217, 218, 219, 220, 221, 222, 223, 224, 225, 226, 227, 203, 161, 230, 233, 228] s t ∧ RLx t ∧ ∃ e, o = .inl (some (.int (Int32.ofInt e))) ∧ rng e ∧ (True)) := by
  refine ct_of G (by decide) (Nat.le_of_ble_eq_true rfl) (fun k X E hRt hXt q => ?_)
  show WS k 0 [(0, .ref (A 179)), (1, .int (Int32.ofInt x)), (2, .int (Int32.ofInt y))] [] _ 0 0
  have F : Fm [73, 77, 75, 78, 79, 80, 81] [202, 204, 205, 206, 207, 208, 209, 210, 211, 212, 213, 214, 215, 216, 217, 218, 219, 220, 221, 222, 223, 224, 225, 226, 227, 203, 161, 230, 233, 228] s s := fm_rf _ _ s
  have b1 : (0 : Int) ≤ iI s 73 ∧ iI s 73 ≤ 3 := I.1 73
  refine z_aload_n X (x := A 179) (show cdA 291 0 = some (.aload_n 0, 1, 0, 0, 0) from rfl) (List.Mem.head _) ?_
  refine z_const X (show cdA 291 1 = some (.iconst 0, 1, 0, 0, 0) from rfl) ?_
  refine s_putI X 179 (show cdA 291 2 = some (.putfield 172, 3, 12, 0, 0) from rfl) (by decide) rfl rfl (by decide) rfl rfl rfl ?_
  obtain ⟨s2, hs2⟩ : ∃ x0, x0 = uI s 73 (Int32.ofInt 0) := ⟨_, rfl⟩
  rw [← hs2]
  have Is2 : Bd s2 := by rw [hs2]; exact bd_I I (show (0 : Int) ≤ 0 ∧ 0 ≤ 3 by first | exact ⟨by decide, by decide⟩ | omega) (by decide)
  have Fs2 := fm_I (x := Int32.ofInt 0) F (show 73 ∈ _ by decide)
  rw [← hs2] at Fs2
  have vs2 : iI s2 73 = 0 := by rw [hs2]; exact iI_u (by decide)
  have fs2 : Fm [73] [] s s2 := by rw [hs2]; exact fm_I (fm_rf _ _ _) (show 73 ∈ _ by decide)
  have JRLx_s2 : RLx s2 := RLx_fm fs2 (by decide) jRLx
  refine z_aload_n X (x := A 179) (show cdA 291 5 = some (.aload_n 0, 1, 0, 0, 0) from rfl) (List.Mem.head _) ?_
  refine z_load_n X (x := x) (show cdA 291 6 = some (.iload_n 1, 1, 0, 0, 0) from rfl) (List.Mem.tail _ (List.Mem.head _)) ?_
  refine z_const X (show cdA 291 7 = some (.iconst 0, 1, 0, 0, 0) from rfl) ?_
  refine z_bipush X (show cdA 291 8 = some (.bipush 127, 2, 0, 0, 127) from rfl) ?_
  refine z_callS X (rm := rmN 188) (As := [.int (Int32.ofInt x), .int (Int32.ofInt 0), .int (Int32.ofInt 127)]) (st := [.ref (A 179)]) (show cdA 291 10 = some (.invokestatic 209, 3, 188, 1, 0) from rfl) rfl (by rw [E.1, E.2.1, E.2.2.1]; exact k_in G Is2 (by first | exact ⟨p0.1, p0.2⟩ | omega) (by first | exact ⟨by decide, by decide⟩ | omega) (by first | exact ⟨by decide, by decide⟩ | omega)) ⟨by rw [E.2.2.2]; exact (show (rmN 188).frames + 1 ≤ (rmN 291).frames by decide), by rw [E.2.2.2]; exact (show 8 + (mNL (miB 188) + 11) + (rmN 188).locals ≤ (rmN 291).locals by decide), by rw [E.2.2.2]; exact (show 0 + (rmN 188).cells ≤ (rmN 291).cells by decide), by rw [E.2.2.2]; exact (show 0 + (rmN 188).slots ≤ (rmN 291).slots by decide)⟩ (Nat.le_of_ble_eq_true rfl) (fun vv s3 hq => ?_) (fun ee s3 hq => ?_)
  rotate_left
  · obtain ⟨Is3, Fs3, e4, hv, hrs3, hps3⟩ := hq; cases hv
  obtain ⟨Is3, Fs3, e4, hv, hrs3, hps3⟩ := hq
  cases hv
  have Gs3 := fm_ts Fs2 Fs3 (by decide) (by decide)
  have JRLx_s3 : RLx s3 := RLx_fm Fs3 (by decide) JRLx_s2
  have ws3_73 : iI s3 73 = iI s2 73 := fm_i Fs3 (by decide)
  show WS k 13 [(0, .ref (A 179)), (1, .int (Int32.ofInt x)), (2, .int (Int32.ofInt y))] [.int (Int32.ofInt e4), .ref (A 179)] (Wd A dT s3) 0 0
  have N5 : ∀ e6 : Int, (((e4 ≠ 0) ∧ e6 = 0) ∨ ((e4 = 0) ∧ e6 = 1)) → WS k 21 [(0, .ref (A 179)), (1, .int (Int32.ofInt x)), (2, .int (Int32.ofInt y))] [.int (Int32.ofInt e6), .ref (A 179)] (Wd A dT s3) 0 0 := by
    intro e6 he6
    have re6 : 0 ≤ e6 ∧ e6 ≤ 1 := by omega
    refine z_const X (show cdA 291 21 = some (.iconst 1, 1, 0, 0, 0) from rfl) ?_
    refine z_callV X 179 (rm := rmN 187) (As := [.int (Int32.ofInt e6), .int (Int32.ofInt 1)]) (st := []) (show cdA 291 22 = some (.invokevirtual 229, 3, 187, 0, 0) from rfl) rfl (by decide) rfl (by rw [E.1, E.2.1, E.2.2.1]; exact k_bad G Is3 (by first | exact oq_31e518ae re6.2 re6.1 | omega) (by first | exact ⟨by decide, by decide⟩ | omega)) ⟨by rw [E.2.2.2]; exact (show (rmN 187).frames + 1 ≤ (rmN 291).frames by decide), by rw [E.2.2.2]; exact (show 8 + (mNL (miB 187) + 11) + (rmN 187).locals ≤ (rmN 291).locals by decide), by rw [E.2.2.2]; exact (show 0 + (rmN 187).cells ≤ (rmN 291).cells by decide), by rw [E.2.2.2]; exact (show 0 + (rmN 187).slots ≤ (rmN 291).slots by decide)⟩ (Nat.le_of_ble_eq_true rfl) (fun vv s7 hq => ?_) (fun ee s7 hq => ?_)
    rotate_left
    · obtain ⟨Is7, Fs7, e8, hv, hrs7, hps7⟩ := hq; cases hv
    obtain ⟨Is7, Fs7, e8, hv, hrs7, hps7⟩ := hq
    cases hv
    have Gs7 := fm_ts Gs3 Fs7 (by decide) (by decide)
    have JRLx_s7 : RLx s7 := RLx_fm Fs7 (by decide) JRLx_s3
    have b9 : (0 : Int) ≤ iI s7 73 ∧ iI s7 73 ≤ 3 := Is7.1 73
    show WS k 25 [(0, .ref (A 179)), (1, .int (Int32.ofInt x)), (2, .int (Int32.ofInt y))] [.int (Int32.ofInt e8)] (Wd A dT s7) 0 0
    refine z_if_ne X (t := 71) (show cdA 291 25 = some (.ifCond .ne 46, 3, 1, 0, 0) from rfl) (by decide) hrs7 (fun g10 => ?_) (fun g10 => ?_)
    ·
      refine z_const X (show cdA 291 71 = some (.iconst 0, 1, 0, 0, 0) from rfl) ?_
      exact w_iret X.1 q hRt rfl (ax_d X (show cdA 291 72 = some (.ireturn, 1, 0, 0, 0) from rfl)) (Nat.zero_le _) (Nat.zero_le _) ⟨_, rfl, Is7, Gs7, JRLx_s7, 0, rfl, (by decide), trivial⟩
    ·
      refine z_aload_n X (x := A 179) (show cdA 291 28 = some (.aload_n 0, 1, 0, 0, 0) from rfl) (List.Mem.head _) ?_
      refine z_load_n X (x := y) (show cdA 291 29 = some (.iload_n 2, 1, 0, 0, 0) from rfl) (List.Mem.tail _ (List.Mem.tail _ (List.Mem.head _))) ?_
      refine z_const X (show cdA 291 30 = some (.iconst 0, 1, 0, 0, 0) from rfl) ?_
      refine z_bipush X (show cdA 291 31 = some (.bipush 7, 2, 0, 0, 7) from rfl) ?_
      refine z_callS X (rm := rmN 188) (As := [.int (Int32.ofInt y), .int (Int32.ofInt 0), .int (Int32.ofInt 7)]) (st := [.ref (A 179)]) (show cdA 291 33 = some (.invokestatic 209, 3, 188, 1, 0) from rfl) rfl (by rw [E.1, E.2.1, E.2.2.1]; exact k_in G Is7 (by first | exact ⟨p1.1, p1.2⟩ | omega) (by first | exact ⟨by decide, by decide⟩ | omega) (by first | exact ⟨by decide, by decide⟩ | omega)) ⟨by rw [E.2.2.2]; exact (show (rmN 188).frames + 1 ≤ (rmN 291).frames by decide), by rw [E.2.2.2]; exact (show 8 + (mNL (miB 188) + 11) + (rmN 188).locals ≤ (rmN 291).locals by decide), by rw [E.2.2.2]; exact (show 0 + (rmN 188).cells ≤ (rmN 291).cells by decide), by rw [E.2.2.2]; exact (show 0 + (rmN 188).slots ≤ (rmN 291).slots by decide)⟩ (Nat.le_of_ble_eq_true rfl) (fun vv s11 hq => ?_) (fun ee s11 hq => ?_)
      rotate_left
      · obtain ⟨Is11, Fs11, e12, hv, hrs11, hps11⟩ := hq; cases hv
      obtain ⟨Is11, Fs11, e12, hv, hrs11, hps11⟩ := hq
      cases hv
      have Gs11 := fm_ts Gs7 Fs11 (by decide) (by decide)
      have JRLx_s11 : RLx s11 := RLx_fm Fs11 (by decide) JRLx_s7
      have ws11_73 : iI s11 73 = iI s7 73 := fm_i Fs11 (by decide)
      show WS k 36 [(0, .ref (A 179)), (1, .int (Int32.ofInt x)), (2, .int (Int32.ofInt y))] [.int (Int32.ofInt e12), .ref (A 179)] (Wd A dT s11) 0 0
      have N13 : ∀ e14 : Int, (((e12 = 0) ∧ e14 = 1) ∨ ((e12 ≠ 0) ∧ (((-1) : Int) ≤ iC s11 228 (x).toNat ∧ iC s11 228 (x).toNat ≤ 7) ∧ ((iC s11 228 (x).toNat) = (-1)) ∧ e14 = 1) ∨ ((e12 ≠ 0) ∧ (((-1) : Int) ≤ iC s11 228 (x).toNat ∧ iC s11 228 (x).toNat ≤ 7) ∧ ((iC s11 228 (x).toNat) ≠ (-1)) ∧ (((-1) : Int) ≤ iC s11 228 (x).toNat ∧ iC s11 228 (x).toNat ≤ 7) ∧ ((iC s11 228 (x).toNat) ≠ y) ∧ e14 = 0) ∨ ((e12 ≠ 0) ∧ (((-1) : Int) ≤ iC s11 228 (x).toNat ∧ iC s11 228 (x).toNat ≤ 7) ∧ ((iC s11 228 (x).toNat) ≠ (-1)) ∧ (((-1) : Int) ≤ iC s11 228 (x).toNat ∧ iC s11 228 (x).toNat ≤ 7) ∧ ((iC s11 228 (x).toNat) = y) ∧ e14 = 1)) → WS k 64 [(0, .ref (A 179)), (1, .int (Int32.ofInt x)), (2, .int (Int32.ofInt y))] [.int (Int32.ofInt e14), .ref (A 179)] (Wd A dT s11) 0 0 := by
        intro e14 he14
        have re14 : 0 ≤ e14 ∧ e14 ≤ 1 := by omega
        refine z_const X (show cdA 291 64 = some (.iconst 2, 1, 0, 0, 0) from rfl) ?_
        refine z_callV X 179 (rm := rmN 187) (As := [.int (Int32.ofInt e14), .int (Int32.ofInt 2)]) (st := []) (show cdA 291 65 = some (.invokevirtual 229, 3, 187, 0, 0) from rfl) rfl (by decide) rfl (by rw [E.1, E.2.1, E.2.2.1]; exact k_bad G Is11 (by first | exact oq_31e518ae re14.2 re14.1 | omega) (by first | exact ⟨by decide, by decide⟩ | omega)) ⟨by rw [E.2.2.2]; exact (show (rmN 187).frames + 1 ≤ (rmN 291).frames by decide), by rw [E.2.2.2]; exact (show 8 + (mNL (miB 187) + 11) + (rmN 187).locals ≤ (rmN 291).locals by decide), by rw [E.2.2.2]; exact (show 0 + (rmN 187).cells ≤ (rmN 291).cells by decide), by rw [E.2.2.2]; exact (show 0 + (rmN 187).slots ≤ (rmN 291).slots by decide)⟩ (Nat.le_of_ble_eq_true rfl) (fun vv s15 hq => ?_) (fun ee s15 hq => ?_)
        rotate_left
        · obtain ⟨Is15, Fs15, e16, hv, hrs15, hps15⟩ := hq; cases hv
        obtain ⟨Is15, Fs15, e16, hv, hrs15, hps15⟩ := hq
        cases hv
        have Gs15 := fm_ts Gs11 Fs15 (by decide) (by decide)
        have JRLx_s15 : RLx s15 := RLx_fm Fs15 (by decide) JRLx_s11
        have b17 : (0 : Int) ≤ iI s15 73 ∧ iI s15 73 ≤ 3 := Is15.1 73
        show WS k 68 [(0, .ref (A 179)), (1, .int (Int32.ofInt x)), (2, .int (Int32.ofInt y))] [.int (Int32.ofInt e16)] (Wd A dT s15) 0 0
        refine z_if_eq X (t := 73) (show cdA 291 68 = some (.ifCond .eq 5, 3, 0, 0, 0) from rfl) (by decide) hrs15 (fun g18 => ?_) (fun g18 => ?_)
        ·
          refine z_aload_n X (x := A 179) (show cdA 291 73 = some (.aload_n 0, 1, 0, 0, 0) from rfl) (List.Mem.head _) ?_
          refine z_callV X 179 (rm := rmN 252) (As := []) (st := []) (show cdA 291 74 = some (.invokevirtual 366, 3, 252, 0, 0) from rfl) rfl (by decide) rfl (by rw [E.1, E.2.1, E.2.2.1]; exact k_costOf G Is15 JRLx_s15 ) ⟨by rw [E.2.2.2]; exact (show (rmN 252).frames + 1 ≤ (rmN 291).frames by decide), by rw [E.2.2.2]; exact (show 8 + (mNL (miB 252) + 11) + (rmN 252).locals ≤ (rmN 291).locals by decide), by rw [E.2.2.2]; exact (show 0 + (rmN 252).cells ≤ (rmN 291).cells by decide), by rw [E.2.2.2]; exact (show 0 + (rmN 252).slots ≤ (rmN 291).slots by decide)⟩ (Nat.le_of_ble_eq_true rfl) (fun vv s19 hq => ?_) (fun ee s19 hq => ?_)
          rotate_left
          · obtain ⟨Is19, Fs19, JRLx_s19, e20, hv, hrs19, hps19⟩ := hq; cases hv
          obtain ⟨Is19, Fs19, JRLx_s19, e20, hv, hrs19, hps19⟩ := hq
          cases hv
          have Gs19 := fm_ts Gs15 Fs19 (by decide) (by decide)
          have JRLx_s19 : RLx s19 := RLx_fm Fs19 (by decide) JRLx_s15
          have ws19_73 : iI s19 73 = iI s15 73 := fm_i Fs19 (by decide)
          show WS k 77 [(0, .ref (A 179)), (1, .int (Int32.ofInt x)), (2, .int (Int32.ofInt y))] [.int (Int32.ofInt e20)] (Wd A dT s19) 0 0
          refine z_store_n X (lv' := [(3, .int (Int32.ofInt e20)), (0, .ref (A 179)), (1, .int (Int32.ofInt x)), (2, .int (Int32.ofInt y))]) (show cdA 291 77 = some (.istore_n 3, 1, 0, 0, 0) from rfl) (by decide) (fun _ h => h) ?_
          refine z_aload_n X (x := A 179) (show cdA 291 78 = some (.aload_n 0, 1, 0, 0, 0) from rfl) (List.Mem.tail _ (List.Mem.head _)) ?_
          refine s_getR X 179 (show cdA 291 79 = some (.getfield 70, 3, 12, 35, 0) from rfl) (by decide) rfl rfl ?_
          refine z_load_n X (x := x) (show cdA 291 82 = some (.iload_n 1, 1, 0, 0, 0) from rfl) (List.Mem.tail _ (List.Mem.tail _ (List.Mem.head _))) ?_
          refine z_ald X 256 (show cdA 291 83 = some (.iaload, 1, 0, 0, 0) from rfl) (by decide) rfl (by first | exact oq_d2f74293 g10 hps7.2.1 re6.2 he6 hps3 | omega) (show x < 128 by first | exact oq_bb641c4c g10 hps7.2.1 re6.2 he6 hps3 | omega) (by decide) ?_
          have b21 : ((-1) : Int) ≤ iC s19 228 (x).toNat ∧ iC s19 228 (x).toNat ≤ 7 := Is19.2 228 _ (show (x).toNat < 128 by first | exact oq_48be0e30 g10 hps7.2.1 re6.2 he6 hps3 | omega)
          refine z_store X (lv' := [(4, .int (Int32.ofInt (iC s19 228 (x).toNat))), (3, .int (Int32.ofInt e20)), (0, .ref (A 179)), (1, .int (Int32.ofInt x)), (2, .int (Int32.ofInt y))]) (show cdA 291 84 = some (.istore 4, 2, 0, 0, 0) from rfl) (by decide) (fun _ h => h) ?_
          refine z_aload_n X (x := A 179) (show cdA 291 86 = some (.aload_n 0, 1, 0, 0, 0) from rfl) (List.Mem.tail _ (List.Mem.tail _ (List.Mem.head _))) ?_
          refine s_getR X 179 (show cdA 291 87 = some (.getfield 70, 3, 12, 35, 0) from rfl) (by decide) rfl rfl ?_
          refine z_load_n X (x := x) (show cdA 291 90 = some (.iload_n 1, 1, 0, 0, 0) from rfl) (List.Mem.tail _ (List.Mem.tail _ (List.Mem.tail _ (List.Mem.head _)))) ?_
          refine z_load_n X (x := y) (show cdA 291 91 = some (.iload_n 2, 1, 0, 0, 0) from rfl) (List.Mem.tail _ (List.Mem.tail _ (List.Mem.tail _ (List.Mem.tail _ (List.Mem.head _))))) ?_
          refine z_ast X 256 (show cdA 291 92 = some (.iastore, 1, 0, 0, 0) from rfl) (by decide) rfl (by first | exact oq_d2f74293 g10 hps7.2.1 re6.2 he6 hps3 | omega) (show x < 128 by first | exact oq_bb641c4c g10 hps7.2.1 re6.2 he6 hps3 | omega) (by decide) ?_
          obtain ⟨s22, hs22⟩ : ∃ x0, x0 = uC s19 228 (x).toNat (Int32.ofInt y) := ⟨_, rfl⟩
          rw [← hs22]
          have Is22 : Bd s22 := by rw [hs22]; exact bd_C Is19 (show ((-1) : Int) ≤ y ∧ y ≤ 7 by first | exact ⟨oq_b304fff0 g18 hps15.2.1 re14.2 he14 hps11, oq_ff2891b8 g18 hps15.2.1 re14.2 he14 hps11⟩ | omega) ⟨by first | exact p1.1 | omega, by first | exact p1.2 | omega⟩
          have Fs22 := fm_C (i := (x).toNat) (x := Int32.ofInt y) Gs19 (show 228 ∈ _ by decide)
          rw [← hs22] at Fs22
          have ws22_73 : iI s22 73 = iI s19 73 := by rw [hs22]; rfl
          have fs22 : Fm [] [228] s19 s22 := by rw [hs22]; exact fm_C (fm_rf _ _ _) (show 228 ∈ _ by decide)
          have JRLx_s22 : RLx s22 := RLx_fm fs22 (by decide) JRLx_s19
          refine z_aload_n X (x := A 179) (show cdA 291 93 = some (.aload_n 0, 1, 0, 0, 0) from rfl) (List.Mem.tail _ (List.Mem.tail _ (List.Mem.head _))) ?_
          refine z_callV X 179 (rm := rmN 252) (As := []) (st := []) (show cdA 291 94 = some (.invokevirtual 366, 3, 252, 0, 0) from rfl) rfl (by decide) rfl (by rw [E.1, E.2.1, E.2.2.1]; exact k_costOf G Is22 JRLx_s22 ) ⟨by rw [E.2.2.2]; exact (show (rmN 252).frames + 1 ≤ (rmN 291).frames by decide), by rw [E.2.2.2]; exact (show 8 + (mNL (miB 252) + 11) + (rmN 252).locals ≤ (rmN 291).locals by decide), by rw [E.2.2.2]; exact (show 0 + (rmN 252).cells ≤ (rmN 291).cells by decide), by rw [E.2.2.2]; exact (show 0 + (rmN 252).slots ≤ (rmN 291).slots by decide)⟩ (Nat.le_of_ble_eq_true rfl) (fun vv s23 hq => ?_) (fun ee s23 hq => ?_)
          rotate_left
          · obtain ⟨Is23, Fs23, JRLx_s23, e24, hv, hrs23, hps23⟩ := hq; cases hv
          obtain ⟨Is23, Fs23, JRLx_s23, e24, hv, hrs23, hps23⟩ := hq
          cases hv
          have Gs23 := fm_ts Fs22 Fs23 (by decide) (by decide)
          have JRLx_s23 : RLx s23 := RLx_fm Fs23 (by decide) JRLx_s22
          have ws23_73 : iI s23 73 = iI s22 73 := fm_i Fs23 (by decide)
          show WS k 97 [(4, .int (Int32.ofInt (iC s19 228 (x).toNat))), (3, .int (Int32.ofInt e20)), (0, .ref (A 179)), (1, .int (Int32.ofInt x)), (2, .int (Int32.ofInt y))] [.int (Int32.ofInt e24)] (Wd A dT s23) 0 0
          refine z_store X (lv' := [(5, .int (Int32.ofInt e24)), (4, .int (Int32.ofInt (iC s19 228 (x).toNat))), (3, .int (Int32.ofInt e20)), (0, .ref (A 179)), (1, .int (Int32.ofInt x)), (2, .int (Int32.ofInt y))]) (show cdA 291 97 = some (.istore 5, 2, 0, 0, 0) from rfl) (by decide) (fun _ h => h) ?_
          refine z_aload_n X (x := A 179) (show cdA 291 99 = some (.aload_n 0, 1, 0, 0, 0) from rfl) (List.Mem.tail _ (List.Mem.tail _ (List.Mem.tail _ (List.Mem.head _)))) ?_
          refine s_getR X 179 (show cdA 291 100 = some (.getfield 70, 3, 12, 35, 0) from rfl) (by decide) rfl rfl ?_
          refine z_load_n X (x := x) (show cdA 291 103 = some (.iload_n 1, 1, 0, 0, 0) from rfl) (List.Mem.tail _ (List.Mem.tail _ (List.Mem.tail _ (List.Mem.tail _ (List.Mem.head _))))) ?_
          refine z_load X (x := (iC s19 228 (x).toNat)) (show cdA 291 104 = some (.iload 4, 2, 0, 0, 0) from rfl) (List.Mem.tail _ (List.Mem.head _)) ?_
          refine z_ast X 256 (show cdA 291 106 = some (.iastore, 1, 0, 0, 0) from rfl) (by decide) rfl (by first | exact oq_d2f74293 g10 hps7.2.1 re6.2 he6 hps3 | omega) (show x < 128 by first | exact oq_bb641c4c g10 hps7.2.1 re6.2 he6 hps3 | omega) (by decide) ?_
          obtain ⟨s25, hs25⟩ : ∃ x0, x0 = uC s23 228 (x).toNat (Int32.ofInt (iC s19 228 (x).toNat)) := ⟨_, rfl⟩
          rw [← hs25]
          have Is25 : Bd s25 := by rw [hs25]; exact bd_C Is23 (show ((-1) : Int) ≤ (iC s19 228 (x).toNat) ∧ (iC s19 228 (x).toNat) ≤ 7 by first | exact ⟨b21.1, b21.2⟩ | omega) (rng_to _)
          have Fs25 := fm_C (i := (x).toNat) (x := Int32.ofInt (iC s19 228 (x).toNat)) Gs23 (show 228 ∈ _ by decide)
          rw [← hs25] at Fs25
          have ws25_73 : iI s25 73 = iI s23 73 := by rw [hs25]; rfl
          have fs25 : Fm [] [228] s23 s25 := by rw [hs25]; exact fm_C (fm_rf _ _ _) (show 228 ∈ _ by decide)
          have JRLx_s25 : RLx s25 := RLx_fm fs25 (by decide) JRLx_s23
          refine z_load_n X (x := e20) (show cdA 291 107 = some (.iload_n 3, 1, 0, 0, 0) from rfl) (List.Mem.tail _ (List.Mem.tail _ (List.Mem.head _))) ?_
          refine z_load X (x := e24) (show cdA 291 108 = some (.iload 5, 2, 0, 0, 0) from rfl) (List.Mem.head _) ?_
          refine z_sub X (show cdA 291 110 = some (.isub, 1, 0, 0, 0) from rfl) ?_
          refine z_any (fun y26 hy26 => ?_)
          exact w_iret X.1 q hRt rfl (ax_d X (show cdA 291 111 = some (.ireturn, 1, 0, 0, 0) from rfl)) (Nat.zero_le _) (Nat.zero_le _) ⟨_, rfl, Is25, Fs25, JRLx_s25, y26, rfl, hy26, trivial⟩
        ·
          refine z_const X (show cdA 291 71 = some (.iconst 0, 1, 0, 0, 0) from rfl) ?_
          exact w_iret X.1 q hRt rfl (ax_d X (show cdA 291 72 = some (.ireturn, 1, 0, 0, 0) from rfl)) (Nat.zero_le _) (Nat.zero_le _) ⟨_, rfl, Is15, Gs15, JRLx_s15, 0, rfl, (by decide), trivial⟩
      refine z_if_eq X (t := 59) (show cdA 291 36 = some (.ifCond .eq 23, 3, 0, 0, 0) from rfl) (by decide) hrs11 (fun g27 => ?_) (fun g27 => ?_)
      ·
        refine z_const X (show cdA 291 59 = some (.iconst 1, 1, 0, 0, 0) from rfl) ?_
        refine z_goto X (t := 64) (show cdA 291 60 = some (.goto 4, 3, 0, 0, 0) from rfl) (by decide) ?_
        exact N13 _ (Or.inl ⟨g27, rfl⟩)
      ·
        refine z_aload_n X (x := A 179) (show cdA 291 39 = some (.aload_n 0, 1, 0, 0, 0) from rfl) (List.Mem.head _) ?_
        refine s_getR X 179 (show cdA 291 40 = some (.getfield 70, 3, 12, 35, 0) from rfl) (by decide) rfl rfl ?_
        refine z_load_n X (x := x) (show cdA 291 43 = some (.iload_n 1, 1, 0, 0, 0) from rfl) (List.Mem.tail _ (List.Mem.head _)) ?_
        refine z_ald X 256 (show cdA 291 44 = some (.iaload, 1, 0, 0, 0) from rfl) (by decide) rfl (by first | exact oq_d2f74293 g10 hps7.2.1 re6.2 he6 hps3 | omega) (show x < 128 by first | exact oq_bb641c4c g10 hps7.2.1 re6.2 he6 hps3 | omega) (by decide) ?_
        have b28 : ((-1) : Int) ≤ iC s11 228 (x).toNat ∧ iC s11 228 (x).toNat ≤ 7 := Is11.2 228 _ (show (x).toNat < 128 by first | exact oq_48be0e30 g10 hps7.2.1 re6.2 he6 hps3 | omega)
        refine z_const X (show cdA 291 45 = some (.iconst (-1), 1, 0, 0, 0) from rfl) ?_
        refine z_icmp_eq X (t := 59) (show cdA 291 46 = some (.if_icmp .eq 13, 3, 0, 0, 0) from rfl) (by decide) (rng_to _) (by decide) (fun g29 => ?_) (fun g29 => ?_)
        ·
          refine z_const X (show cdA 291 59 = some (.iconst 1, 1, 0, 0, 0) from rfl) ?_
          refine z_goto X (t := 64) (show cdA 291 60 = some (.goto 4, 3, 0, 0, 0) from rfl) (by decide) ?_
          exact N13 _ (Or.inr (Or.inl ⟨g27, b28, g29, rfl⟩))
        ·
          refine z_aload_n X (x := A 179) (show cdA 291 49 = some (.aload_n 0, 1, 0, 0, 0) from rfl) (List.Mem.head _) ?_
          refine s_getR X 179 (show cdA 291 50 = some (.getfield 70, 3, 12, 35, 0) from rfl) (by decide) rfl rfl ?_
          refine z_load_n X (x := x) (show cdA 291 53 = some (.iload_n 1, 1, 0, 0, 0) from rfl) (List.Mem.tail _ (List.Mem.head _)) ?_
          refine z_ald X 256 (show cdA 291 54 = some (.iaload, 1, 0, 0, 0) from rfl) (by decide) rfl (by first | exact oq_d2f74293 g10 hps7.2.1 re6.2 he6 hps3 | omega) (show x < 128 by first | exact oq_bb641c4c g10 hps7.2.1 re6.2 he6 hps3 | omega) (by decide) ?_
          have b30 : ((-1) : Int) ≤ iC s11 228 (x).toNat ∧ iC s11 228 (x).toNat ≤ 7 := Is11.2 228 _ (show (x).toNat < 128 by first | exact oq_48be0e30 g10 hps7.2.1 re6.2 he6 hps3 | omega)
          refine z_load_n X (x := y) (show cdA 291 55 = some (.iload_n 2, 1, 0, 0, 0) from rfl) (List.Mem.tail _ (List.Mem.tail _ (List.Mem.head _))) ?_
          refine z_icmp_ne X (t := 63) (show cdA 291 56 = some (.if_icmp .ne 7, 3, 1, 0, 0) from rfl) (by decide) (rng_to _) ⟨by first | exact p1.1 | omega, by first | exact p1.2 | omega⟩ (fun g31 => ?_) (fun g31 => ?_)
          ·
            refine z_const X (show cdA 291 63 = some (.iconst 0, 1, 0, 0, 0) from rfl) ?_
            exact N13 _ (Or.inr (Or.inr (Or.inl ⟨g27, b28, g29, b30, g31, rfl⟩)))
          ·
            refine z_const X (show cdA 291 59 = some (.iconst 1, 1, 0, 0, 0) from rfl) ?_
            refine z_goto X (t := 64) (show cdA 291 60 = some (.goto 4, 3, 0, 0, 0) from rfl) (by decide) ?_
            exact N13 _ (Or.inr (Or.inr (Or.inr (⟨g27, b28, g29, b30, g31, rfl⟩))))
  refine z_if_ne X (t := 20) (show cdA 291 13 = some (.ifCond .ne 7, 3, 1, 0, 0) from rfl) (by decide) hrs3 (fun g32 => ?_) (fun g32 => ?_)
  ·
    refine z_const X (show cdA 291 20 = some (.iconst 0, 1, 0, 0, 0) from rfl) ?_
    exact N5 _ (Or.inl ⟨g32, rfl⟩)
  ·
    refine z_const X (show cdA 291 16 = some (.iconst 1, 1, 0, 0, 0) from rfl) ?_
    refine z_goto X (t := 21) (show cdA 291 17 = some (.goto 4, 3, 0, 0, 0) from rfl) (by decide) ?_
    exact N5 _ (Or.inr (⟨g32, rfl⟩))
end M58
