/-! The model: one move of a way -/
section M36
variable {l : Launch} {s0 : State} {D : va_G} {tys : List (ClassId × FieldType)} {a0 : Array Value} {A : Nat → Nat} {dT : Nat → ClassId} {s : PS}
theorem k_move (G : GX l s0 D tys a0 dT) (I : Bd s) (jTD : TD s) (p0 : iI s 77 ≤ 380) (p1 : 1 ≤ iI s 91) : CT l s0 D A dT 199 (rmN 199) [.ref (A 179)] s (fun o t => Bd t ∧ Fm [77, 79, 80, 91] [165] s t ∧ TD t ∧ o = .inl none ∧ ((iI t 79 ≠ 0 ∨ iI s 77 < iI t 77) ∧ (iI t 77 ≤ iI s 77 + 1 ∨ iI t 77 ≤ iI s 75) ∧ 1 ≤ iI t 91 ∧ (iI s 79 ≠ 0 → iI t 79 ≠ 0) ∧ iI s 77 ≤ iI t 77)) := by
  refine ct_of G (by decide) (Nat.le_of_ble_eq_true rfl) (fun k X E hRt hXt q => ?_)
  show WS k 0 [(0, .ref (A 179))] [] _ 0 0
  have F : Fm [77, 79, 80, 91] [165] s s := fm_rf _ _ s
  have b1 : (0 : Int) ≤ iI s 77 ∧ iI s 77 ≤ 400 := I.1 77
  have b2 : (0 : Int) ≤ iI s 75 ∧ iI s 75 ≤ 200 := I.1 75
  have b3 : (0 : Int) ≤ iI s 79 ∧ iI s 79 ≤ 9 := I.1 79
  have b4 : (0 : Int) ≤ iI s 91 ∧ iI s 91 ≤ 24 := I.1 91
  have L140 : ∀ (n : Nat) (t : PS) (lt stp tm kk : Int), Bd t → Fm [77, 79, 80, 91] [165] s t → TD t → ((0 ≤ lt ∧ lt ≤ 400) ∧ (0 ≤ stp ∧ stp ≤ 5) ∧ rng tm ∧ tm ≤ 100000 ∧ 0 ≤ kk ∧ kk ≤ 100000 ∧ 1 ≤ iI t 91 ∧ iI s 77 < iI t 77 ∧ (iI t 77 ≤ iI s 77 + 1 ∨ iI t 77 ≤ iI s 75) ∧ (iI s 79 ≠ 0 → iI t 79 ≠ 0)) → tm - kk ≤ n → (∀ (t' : PS) (lt' stp' tm' kk' : Int), Bd t' → Fm [77, 79, 80, 91] [165] s t' → TD t' → ((0 ≤ lt' ∧ lt' ≤ 400) ∧ (0 ≤ stp' ∧ stp' ≤ 5) ∧ rng tm' ∧ tm' ≤ 100000 ∧ 0 ≤ kk' ∧ kk' ≤ 100000 ∧ 1 ≤ iI t' 91 ∧ iI s 77 < iI t' 77 ∧ (iI t' 77 ≤ iI s 77 + 1 ∨ iI t' 77 ≤ iI s 75) ∧ (iI s 79 ≠ 0 → iI t' 79 ≠ 0)) → WS k 245 [(0, .ref (A 179)), (1, .int (Int32.ofInt lt')), (3, .int (Int32.ofInt stp')), (4, .int (Int32.ofInt tm')), (5, .int (Int32.ofInt kk'))] [] (Wd A dT t') 0 0) → WS k 140 [(0, .ref (A 179)), (1, .int (Int32.ofInt lt)), (3, .int (Int32.ofInt stp)), (4, .int (Int32.ofInt tm)), (5, .int (Int32.ofInt kk))] [] (Wd A dT t) 0 0 := by
    intro n
    induction n with
    | zero =>
      intro t lt stp tm kk I F jjTD hi hm kx
      have b1001 : (0 : Int) ≤ iI t 77 ∧ iI t 77 ≤ 400 := I.1 77
      have b1002 : (0 : Int) ≤ iI t 75 ∧ iI t 75 ≤ 200 := I.1 75
      have b1003 : (0 : Int) ≤ iI t 79 ∧ iI t 79 ≤ 9 := I.1 79
      have b1004 : (0 : Int) ≤ iI t 91 ∧ iI t 91 ≤ 24 := I.1 91
      refine z_load X (x := kk) (show cdA 199 140 = some (.iload 5, 2, 0, 0, 0) from rfl) (List.Mem.tail _ (List.Mem.tail _ (List.Mem.tail _ (List.Mem.tail _ (List.Mem.head _))))) ?_
      refine z_load X (x := tm) (show cdA 199 142 = some (.iload 4, 2, 0, 0, 0) from rfl) (List.Mem.tail _ (List.Mem.tail _ (List.Mem.tail _ (List.Mem.head _)))) ?_
      refine z_icmp_ge X (t := 245) (show cdA 199 144 = some (.if_icmp .ge 101, 3, 3, 0, 0) from rfl) (by decide) ⟨by omega, by omega⟩ ⟨by omega, by omega⟩ (fun g1005 => ?_) (fun g1005 => ?_)
      ·
        refine WS_lv (lv := [(0, .ref (A 179)), (1, .int (Int32.ofInt lt)), (3, .int (Int32.ofInt stp)), (4, .int (Int32.ofInt tm)), (5, .int (Int32.ofInt kk))]) (List.forall_mem_cons.mpr ⟨(List.Mem.head _), (List.forall_mem_cons.mpr ⟨(List.Mem.tail _ (List.Mem.head _)), (List.forall_mem_cons.mpr ⟨(List.Mem.tail _ (List.Mem.tail _ (List.Mem.head _))), (List.forall_mem_cons.mpr ⟨(List.Mem.tail _ (List.Mem.tail _ (List.Mem.tail _ (List.Mem.head _)))), (List.forall_mem_cons.mpr ⟨(List.Mem.tail _ (List.Mem.tail _ (List.Mem.tail _ (List.Mem.tail _ (List.Mem.head _))))), (fun q h => absurd h List.not_mem_nil)⟩)⟩)⟩)⟩)⟩) ?_
        exact kx _ lt stp tm kk I F jjTD (by omega)
      ·
        refine z_aload_n X (x := A 179) (show cdA 199 147 = some (.aload_n 0, 1, 0, 0, 0) from rfl) (List.Mem.head _) ?_
        refine z_getI X 179 (show cdA 199 148 = some (.getfield 191, 3, 12, 6, 0) from rfl) (by decide) rfl rfl ?_
        have b1006 : (0 : Int) ≤ iI t 79 ∧ iI t 79 ≤ 9 := I.1 79
        refine z_if_ne X (t := 245) (show cdA 199 151 = some (.ifCond .ne 94, 3, 1, 0, 0) from rfl) (by decide) ⟨by omega, by omega⟩ (fun g1007 => ?_) (fun g1007 => ?_)
        ·
          refine WS_lv (lv := [(0, .ref (A 179)), (1, .int (Int32.ofInt lt)), (3, .int (Int32.ofInt stp)), (4, .int (Int32.ofInt tm)), (5, .int (Int32.ofInt kk))]) (List.forall_mem_cons.mpr ⟨(List.Mem.head _), (List.forall_mem_cons.mpr ⟨(List.Mem.tail _ (List.Mem.head _)), (List.forall_mem_cons.mpr ⟨(List.Mem.tail _ (List.Mem.tail _ (List.Mem.head _))), (List.forall_mem_cons.mpr ⟨(List.Mem.tail _ (List.Mem.tail _ (List.Mem.tail _ (List.Mem.head _)))), (List.forall_mem_cons.mpr ⟨(List.Mem.tail _ (List.Mem.tail _ (List.Mem.tail _ (List.Mem.tail _ (List.Mem.head _))))), (fun q h => absurd h List.not_mem_nil)⟩)⟩)⟩)⟩)⟩) ?_
          exact kx _ lt stp tm kk I F jjTD (by omega)
        ·
          refine z_aload_n X (x := A 179) (show cdA 199 154 = some (.aload_n 0, 1, 0, 0, 0) from rfl) (List.Mem.head _) ?_
          refine s_getR X 179 (show cdA 199 155 = some (.getfield 44, 3, 12, 26, 0) from rfl) (by decide) rfl rfl ?_
          refine z_aload_n X (x := A 179) (show cdA 199 158 = some (.aload_n 0, 1, 0, 0, 0) from rfl) (List.Mem.head _) ?_
          refine z_getI X 179 (show cdA 199 159 = some (.getfield 216, 3, 12, 27, 0) from rfl) (by decide) rfl rfl ?_
          have b1008 : (0 : Int) ≤ iI t 91 ∧ iI t 91 ≤ 24 := I.1 91
          refine z_const X (show cdA 199 162 = some (.iconst 1, 1, 0, 0, 0) from rfl) ?_
          refine z_sub X (show cdA 199 163 = some (.isub, 1, 0, 0, 0) from rfl) ?_
          have hT1009 := jjTD (((iI t 91) - 1) : Int).toNat (by omega)
          refine z_ald X 188 (show cdA 199 164 = some (.iaload, 1, 0, 0, 0) from rfl) (by decide) rfl (by omega) (show ((iI t 91) - 1) < 24 by omega) (by decide) ?_
          have b1010 : ((-2147483648) : Int) ≤ iC t 165 (((iI t 91) - 1)).toNat ∧ iC t 165 (((iI t 91) - 1)).toNat ≤ 2147483647 := I.2 165 _ (show (((iI t 91) - 1)).toNat < 24 by omega)
          refine z_load_n X (x := stp) (show cdA 199 165 = some (.iload_n 3, 1, 0, 0, 0) from rfl) (List.Mem.tail _ (List.Mem.tail _ (List.Mem.head _))) ?_
          refine z_callS X (rm := rmN 190) (As := [.int (Int32.ofInt (iC t 165 (((iI t 91) - 1)).toNat)), .int (Int32.ofInt stp)]) (st := []) (show cdA 199 166 = some (.invokestatic 223, 3, 190, 1, 0) from rfl) rfl (by rw [E.1, E.2.1, E.2.2.1]; exact k_beside G I (by omega) (by omega)) ⟨by rw [E.2.2.2]; exact (show (rmN 190).frames + 1 ≤ (rmN 199).frames by decide), by rw [E.2.2.2]; exact (show 8 + (mNL (miB 190) + 11) + (rmN 190).locals ≤ (rmN 199).locals by decide), by rw [E.2.2.2]; exact (show 0 + (rmN 190).cells ≤ (rmN 199).cells by decide), by rw [E.2.2.2]; exact (show 0 + (rmN 190).slots ≤ (rmN 199).slots by decide)⟩ (Nat.le_of_ble_eq_true rfl) (fun vv s1011 hq => ?_) (fun ee s1011 hq => ?_)
          rotate_left
          · obtain ⟨Is1011, Fs1011, e1012, hv, hrs1011, hps1011⟩ := hq; cases hv
          obtain ⟨Is1011, Fs1011, e1012, hv, hrs1011, hps1011⟩ := hq
          cases hv
          have Gs1011 := fm_ts F Fs1011 (by decide) (by decide)
          have JTD_s1011 : TD s1011 := TD_fm Fs1011 (by decide) jjTD
          have ws1011_77 : iI s1011 77 = iI t 77 := fm_i Fs1011 (by decide)
          have ws1011_75 : iI s1011 75 = iI t 75 := fm_i Fs1011 (by decide)
          have ws1011_79 : iI s1011 79 = iI t 79 := fm_i Fs1011 (by decide)
          have ws1011_91 : iI s1011 91 = iI t 91 := fm_i Fs1011 (by decide)
          show WS k 169 [(0, .ref (A 179)), (1, .int (Int32.ofInt lt)), (3, .int (Int32.ofInt stp)), (4, .int (Int32.ofInt tm)), (5, .int (Int32.ofInt kk))] [.int (Int32.ofInt e1012)] (Wd A dT s1011) 0 0
          refine z_store X (lv' := [(6, .int (Int32.ofInt e1012)), (0, .ref (A 179)), (1, .int (Int32.ofInt lt)), (3, .int (Int32.ofInt stp)), (4, .int (Int32.ofInt tm)), (5, .int (Int32.ofInt kk))]) (show cdA 199 169 = some (.istore 6, 2, 0, 0, 0) from rfl) (by decide) (fun _ h => h) ?_
          refine z_load X (x := e1012) (show cdA 199 171 = some (.iload 6, 2, 0, 0, 0) from rfl) (List.Mem.head _) ?_
          refine z_const X (show cdA 199 173 = some (.iconst (-1), 1, 0, 0, 0) from rfl) ?_
          refine z_icmp_ne X (t := 186) (show cdA 199 174 = some (.if_icmp .ne 12, 3, 1, 0, 0) from rfl) (by decide) ⟨by omega, by omega⟩ ⟨by omega, by omega⟩ (fun g1013 => ?_) (fun g1013 => ?_)
          ·
            refine z_aload_n X (x := A 179) (show cdA 199 186 = some (.aload_n 0, 1, 0, 0, 0) from rfl) (List.Mem.tail _ (List.Mem.head _)) ?_
            refine z_getI X 179 (show cdA 199 187 = some (.getfield 216, 3, 12, 27, 0) from rfl) (by decide) rfl rfl ?_
            have b1014 : (0 : Int) ≤ iI s1011 91 ∧ iI s1011 91 ≤ 24 := Is1011.1 91
            refine z_bipush X (show cdA 199 190 = some (.bipush 24, 2, 0, 0, 24) from rfl) ?_
            refine z_icmp_eq X (t := 204) (show cdA 199 192 = some (.if_icmp .eq 12, 3, 0, 0, 0) from rfl) (by decide) ⟨by omega, by omega⟩ ⟨by omega, by omega⟩ (fun g1015 => ?_) (fun g1015 => ?_)
            ·
              refine z_aload_n X (x := A 179) (show cdA 199 204 = some (.aload_n 0, 1, 0, 0, 0) from rfl) (List.Mem.tail _ (List.Mem.head _)) ?_
              refine z_const X (show cdA 199 205 = some (.iconst 4, 1, 0, 0, 0) from rfl) ?_
              refine z_load_n X (x := lt) (show cdA 199 206 = some (.iload_n 1, 1, 0, 0, 0) from rfl) (List.Mem.tail _ (List.Mem.tail _ (List.Mem.head _))) ?_
              refine z_callV X 179 (rm := rmN 194) (As := [.int (Int32.ofInt 4), .int (Int32.ofInt lt)]) (st := []) (show cdA 199 207 = some (.invokevirtual 204, 3, 194, 0, 0) from rfl) rfl (by decide) rfl (by rw [E.1, E.2.1, E.2.2.1]; exact k_wrong G Is1011 (by omega) (by omega)) ⟨by rw [E.2.2.2]; exact (show (rmN 194).frames + 1 ≤ (rmN 199).frames by decide), by rw [E.2.2.2]; exact (show 8 + (mNL (miB 194) + 11) + (rmN 194).locals ≤ (rmN 199).locals by decide), by rw [E.2.2.2]; exact (show 0 + (rmN 194).cells ≤ (rmN 199).cells by decide), by rw [E.2.2.2]; exact (show 0 + (rmN 194).slots ≤ (rmN 199).slots by decide)⟩ (Nat.le_of_ble_eq_true rfl) (fun vv s1016 hq => ?_) (fun ee s1016 hq => ?_)
              rotate_left
              · obtain ⟨Is1016, Fs1016, hv, hps1016⟩ := hq; cases hv
              obtain ⟨Is1016, Fs1016, hv, hps1016⟩ := hq
              cases hv
              have Gs1016 := fm_ts Gs1011 Fs1016 (by decide) (by decide)
              have JTD_s1016 : TD s1016 := TD_fm Fs1016 (by decide) JTD_s1011
              have ws1016_77 : iI s1016 77 = iI s1011 77 := fm_i Fs1016 (by decide)
              have ws1016_75 : iI s1016 75 = iI s1011 75 := fm_i Fs1016 (by decide)
              have b1018 : (0 : Int) ≤ iI s1016 79 ∧ iI s1016 79 ≤ 9 := Is1016.1 79
              have ws1016_91 : iI s1016 91 = iI s1011 91 := fm_i Fs1016 (by decide)
              show WS k 210 [(6, .int (Int32.ofInt e1012)), (0, .ref (A 179)), (1, .int (Int32.ofInt lt)), (3, .int (Int32.ofInt stp)), (4, .int (Int32.ofInt tm)), (5, .int (Int32.ofInt kk))] [] (Wd A dT s1016) 0 0
              refine z_aload_n X (x := A 179) (show cdA 199 210 = some (.aload_n 0, 1, 0, 0, 0) from rfl) (List.Mem.tail _ (List.Mem.head _)) ?_
              refine z_getI X 179 (show cdA 199 211 = some (.getfield 191, 3, 12, 6, 0) from rfl) (by decide) rfl rfl ?_
              have b1019 : (0 : Int) ≤ iI s1016 79 ∧ iI s1016 79 ≤ 9 := Is1016.1 79
              refine z_if_eq X (t := 218) (show cdA 199 214 = some (.ifCond .eq 4, 3, 0, 0, 0) from rfl) (by decide) ⟨by omega, by omega⟩ (fun g1020 => ?_) (fun g1020 => ?_)
              ·
                refine z_aload_n X (x := A 179) (show cdA 199 218 = some (.aload_n 0, 1, 0, 0, 0) from rfl) (List.Mem.tail _ (List.Mem.head _)) ?_
                refine s_getR X 179 (show cdA 199 219 = some (.getfield 44, 3, 12, 26, 0) from rfl) (by decide) rfl rfl ?_
                refine z_aload_n X (x := A 179) (show cdA 199 222 = some (.aload_n 0, 1, 0, 0, 0) from rfl) (List.Mem.tail _ (List.Mem.head _)) ?_
                refine z_getI X 179 (show cdA 199 223 = some (.getfield 216, 3, 12, 27, 0) from rfl) (by decide) rfl rfl ?_
                have b1021 : (0 : Int) ≤ iI s1016 91 ∧ iI s1016 91 ≤ 24 := Is1016.1 91
                refine z_load X (x := e1012) (show cdA 199 226 = some (.iload 6, 2, 0, 0, 0) from rfl) (List.Mem.head _) ?_
                refine z_ast X 188 (show cdA 199 228 = some (.iastore, 1, 0, 0, 0) from rfl) (by decide) rfl (by omega) (show (iI s1016 91) < 24 by omega) (by decide) ?_
                obtain ⟨s1022, hs1022⟩ : ∃ x0, x0 = uC s1016 165 ((iI s1016 91)).toNat (Int32.ofInt e1012) := ⟨_, rfl⟩
                rw [← hs1022]
                have Is1022 : Bd s1022 := by rw [hs1022]; exact bd_C Is1016 (show ((-2147483648) : Int) ≤ e1012 ∧ e1012 ≤ 2147483647 by omega) ⟨by omega, by omega⟩
                have Fs1022 := fm_C (i := ((iI s1016 91)).toNat) (x := Int32.ofInt e1012) Gs1016 (show 165 ∈ _ by decide)
                rw [← hs1022] at Fs1022
                have ws1022_77 : iI s1022 77 = iI s1016 77 := by rw [hs1022]; rfl
                have ws1022_75 : iI s1022 75 = iI s1016 75 := by rw [hs1022]; rfl
                have ws1022_79 : iI s1022 79 = iI s1016 79 := by rw [hs1022]; rfl
                have ws1022_91 : iI s1022 91 = iI s1016 91 := by rw [hs1022]; rfl
                refine z_aload_n X (x := A 179) (show cdA 199 229 = some (.aload_n 0, 1, 0, 0, 0) from rfl) (List.Mem.tail _ (List.Mem.head _)) ?_
                refine w_dup X.1 (ax_d X (show cdA 199 230 = some (.dup, 1, 0, 0, 0) from rfl)) rfl ?_
                refine z_getI X 179 (show cdA 199 231 = some (.getfield 216, 3, 12, 27, 0) from rfl) (by decide) rfl rfl ?_
                have b1023 : (0 : Int) ≤ iI s1022 91 ∧ iI s1022 91 ≤ 24 := Is1022.1 91
                refine z_const X (show cdA 199 234 = some (.iconst 1, 1, 0, 0, 0) from rfl) ?_
                refine z_add X (show cdA 199 235 = some (.iadd, 1, 0, 0, 0) from rfl) ?_
                refine s_putI X 179 (show cdA 199 236 = some (.putfield 216, 3, 12, 27, 0) from rfl) (by decide) rfl rfl (by decide) rfl rfl rfl ?_
                obtain ⟨s1024, hs1024⟩ : ∃ x0, x0 = uI s1022 91 (Int32.ofInt ((iI s1022 91) + 1)) := ⟨_, rfl⟩
                rw [← hs1024]
                have Is1024 : Bd s1024 := by rw [hs1024]; exact bd_I Is1022 (show (0 : Int) ≤ ((iI s1022 91) + 1) ∧ ((iI s1022 91) + 1) ≤ 24 by omega) ⟨by omega, by omega⟩
                have Fs1024 := fm_I (x := Int32.ofInt ((iI s1022 91) + 1)) Fs1022 (show 91 ∈ _ by decide)
                rw [← hs1024] at Fs1024
                have vs1024 : iI s1024 91 = ((iI s1022 91) + 1) := by rw [hs1024]; exact iI_u ⟨by omega, by omega⟩
                have ws1024_77 : iI s1024 77 = iI s1022 77 := by rw [hs1024]; rfl
                have ws1024_75 : iI s1024 75 = iI s1022 75 := by rw [hs1024]; rfl
                have ws1024_79 : iI s1024 79 = iI s1022 79 := by rw [hs1024]; rfl
                have JTD_s1024 : TD s1024 := by
                  rw [hs1024, ws1022_91, hs1022]
                  exact TD_up JTD_s1016 rfl (by omega) (by omega)
                refine z_inc X (x := kk) (lv' := [(5, .int (Int32.ofInt (kk + 1))), (6, .int (Int32.ofInt e1012)), (0, .ref (A 179)), (1, .int (Int32.ofInt lt)), (3, .int (Int32.ofInt stp)), (4, .int (Int32.ofInt tm))]) (show cdA 199 239 = some (.iinc 5 1, 3, 0, 0, 0) from rfl) (by decide) (List.Mem.tail _ (List.Mem.tail _ (List.Mem.tail _ (List.Mem.tail _ (List.Mem.tail _ (List.Mem.head _)))))) (fun _ h => h) ?_
                refine z_goto X (t := 140) (show cdA 199 242 = some (.goto (-102), 3, 0, 0, 0) from rfl) (by decide) ?_
                exfalso
                omega
              ·
                exact w_vret X.1 q hRt (ax_d X (show cdA 199 217 = some (.return_, 1, 0, 0, 0) from rfl)) (Nat.zero_le _) (Nat.zero_le _) ⟨_, rfl, Is1016, Gs1016, JTD_s1016, rfl, by omega⟩
            ·
              refine z_aload_n X (x := A 179) (show cdA 199 195 = some (.aload_n 0, 1, 0, 0, 0) from rfl) (List.Mem.tail _ (List.Mem.head _)) ?_
              refine z_load X (x := e1012) (show cdA 199 196 = some (.iload 6, 2, 0, 0, 0) from rfl) (List.Mem.head _) ?_
              refine z_callV X 179 (rm := rmN 198) (As := [.int (Int32.ofInt e1012)]) (st := []) (show cdA 199 198 = some (.invokevirtual 226, 3, 198, 0, 0) from rfl) rfl (by decide) rfl (by rw [E.1, E.2.1, E.2.2.1]; exact k_isTold G Is1011 (by omega)) ⟨by rw [E.2.2.2]; exact (show (rmN 198).frames + 1 ≤ (rmN 199).frames by decide), by rw [E.2.2.2]; exact (show 8 + (mNL (miB 198) + 11) + (rmN 198).locals ≤ (rmN 199).locals by decide), by rw [E.2.2.2]; exact (show 0 + (rmN 198).cells ≤ (rmN 199).cells by decide), by rw [E.2.2.2]; exact (show 0 + (rmN 198).slots ≤ (rmN 199).slots by decide)⟩ (Nat.le_of_ble_eq_true rfl) (fun vv s1025 hq => ?_) (fun ee s1025 hq => ?_)
              rotate_left
              · obtain ⟨Is1025, Fs1025, e1026, hv, hrs1025, hps1025⟩ := hq; cases hv
              obtain ⟨Is1025, Fs1025, e1026, hv, hrs1025, hps1025⟩ := hq
              cases hv
              have Gs1025 := fm_ts Gs1011 Fs1025 (by decide) (by decide)
              have JTD_s1025 : TD s1025 := TD_fm Fs1025 (by decide) JTD_s1011
              have ws1025_77 : iI s1025 77 = iI s1011 77 := fm_i Fs1025 (by decide)
              have ws1025_75 : iI s1025 75 = iI s1011 75 := fm_i Fs1025 (by decide)
              have ws1025_79 : iI s1025 79 = iI s1011 79 := fm_i Fs1025 (by decide)
              have ws1025_91 : iI s1025 91 = iI s1011 91 := fm_i Fs1025 (by decide)
              show WS k 201 [(6, .int (Int32.ofInt e1012)), (0, .ref (A 179)), (1, .int (Int32.ofInt lt)), (3, .int (Int32.ofInt stp)), (4, .int (Int32.ofInt tm)), (5, .int (Int32.ofInt kk))] [.int (Int32.ofInt e1026)] (Wd A dT s1025) 0 0
              refine z_if_eq X (t := 210) (show cdA 199 201 = some (.ifCond .eq 9, 3, 0, 0, 0) from rfl) (by decide) ⟨by omega, by omega⟩ (fun g1027 => ?_) (fun g1027 => ?_)
              ·
                refine z_aload_n X (x := A 179) (show cdA 199 210 = some (.aload_n 0, 1, 0, 0, 0) from rfl) (List.Mem.tail _ (List.Mem.head _)) ?_
                refine z_getI X 179 (show cdA 199 211 = some (.getfield 191, 3, 12, 6, 0) from rfl) (by decide) rfl rfl ?_
                have b1028 : (0 : Int) ≤ iI s1025 79 ∧ iI s1025 79 ≤ 9 := Is1025.1 79
                refine z_if_eq X (t := 218) (show cdA 199 214 = some (.ifCond .eq 4, 3, 0, 0, 0) from rfl) (by decide) ⟨by omega, by omega⟩ (fun g1029 => ?_) (fun g1029 => ?_)
                ·
                  refine z_aload_n X (x := A 179) (show cdA 199 218 = some (.aload_n 0, 1, 0, 0, 0) from rfl) (List.Mem.tail _ (List.Mem.head _)) ?_
                  refine s_getR X 179 (show cdA 199 219 = some (.getfield 44, 3, 12, 26, 0) from rfl) (by decide) rfl rfl ?_
                  refine z_aload_n X (x := A 179) (show cdA 199 222 = some (.aload_n 0, 1, 0, 0, 0) from rfl) (List.Mem.tail _ (List.Mem.head _)) ?_
                  refine z_getI X 179 (show cdA 199 223 = some (.getfield 216, 3, 12, 27, 0) from rfl) (by decide) rfl rfl ?_
                  have b1030 : (0 : Int) ≤ iI s1025 91 ∧ iI s1025 91 ≤ 24 := Is1025.1 91
                  refine z_load X (x := e1012) (show cdA 199 226 = some (.iload 6, 2, 0, 0, 0) from rfl) (List.Mem.head _) ?_
                  refine z_ast X 188 (show cdA 199 228 = some (.iastore, 1, 0, 0, 0) from rfl) (by decide) rfl (by omega) (show (iI s1025 91) < 24 by omega) (by decide) ?_
                  obtain ⟨s1031, hs1031⟩ : ∃ x0, x0 = uC s1025 165 ((iI s1025 91)).toNat (Int32.ofInt e1012) := ⟨_, rfl⟩
                  rw [← hs1031]
                  have Is1031 : Bd s1031 := by rw [hs1031]; exact bd_C Is1025 (show ((-2147483648) : Int) ≤ e1012 ∧ e1012 ≤ 2147483647 by omega) ⟨by omega, by omega⟩
                  have Fs1031 := fm_C (i := ((iI s1025 91)).toNat) (x := Int32.ofInt e1012) Gs1025 (show 165 ∈ _ by decide)
                  rw [← hs1031] at Fs1031
                  have ws1031_77 : iI s1031 77 = iI s1025 77 := by rw [hs1031]; rfl
                  have ws1031_75 : iI s1031 75 = iI s1025 75 := by rw [hs1031]; rfl
                  have ws1031_79 : iI s1031 79 = iI s1025 79 := by rw [hs1031]; rfl
                  have ws1031_91 : iI s1031 91 = iI s1025 91 := by rw [hs1031]; rfl
                  refine z_aload_n X (x := A 179) (show cdA 199 229 = some (.aload_n 0, 1, 0, 0, 0) from rfl) (List.Mem.tail _ (List.Mem.head _)) ?_
                  refine w_dup X.1 (ax_d X (show cdA 199 230 = some (.dup, 1, 0, 0, 0) from rfl)) rfl ?_
                  refine z_getI X 179 (show cdA 199 231 = some (.getfield 216, 3, 12, 27, 0) from rfl) (by decide) rfl rfl ?_
                  have b1032 : (0 : Int) ≤ iI s1031 91 ∧ iI s1031 91 ≤ 24 := Is1031.1 91
                  refine z_const X (show cdA 199 234 = some (.iconst 1, 1, 0, 0, 0) from rfl) ?_
                  refine z_add X (show cdA 199 235 = some (.iadd, 1, 0, 0, 0) from rfl) ?_
                  refine s_putI X 179 (show cdA 199 236 = some (.putfield 216, 3, 12, 27, 0) from rfl) (by decide) rfl rfl (by decide) rfl rfl rfl ?_
                  obtain ⟨s1033, hs1033⟩ : ∃ x0, x0 = uI s1031 91 (Int32.ofInt ((iI s1031 91) + 1)) := ⟨_, rfl⟩
                  rw [← hs1033]
                  have Is1033 : Bd s1033 := by rw [hs1033]; exact bd_I Is1031 (show (0 : Int) ≤ ((iI s1031 91) + 1) ∧ ((iI s1031 91) + 1) ≤ 24 by omega) ⟨by omega, by omega⟩
                  have Fs1033 := fm_I (x := Int32.ofInt ((iI s1031 91) + 1)) Fs1031 (show 91 ∈ _ by decide)
                  rw [← hs1033] at Fs1033
                  have vs1033 : iI s1033 91 = ((iI s1031 91) + 1) := by rw [hs1033]; exact iI_u ⟨by omega, by omega⟩
                  have ws1033_77 : iI s1033 77 = iI s1031 77 := by rw [hs1033]; rfl
                  have ws1033_75 : iI s1033 75 = iI s1031 75 := by rw [hs1033]; rfl
                  have ws1033_79 : iI s1033 79 = iI s1031 79 := by rw [hs1033]; rfl
                  have JTD_s1033 : TD s1033 := by
                    rw [hs1033, ws1031_91, hs1031]
                    exact TD_up JTD_s1025 rfl (by omega) (by omega)
                  refine z_inc X (x := kk) (lv' := [(5, .int (Int32.ofInt (kk + 1))), (6, .int (Int32.ofInt e1012)), (0, .ref (A 179)), (1, .int (Int32.ofInt lt)), (3, .int (Int32.ofInt stp)), (4, .int (Int32.ofInt tm))]) (show cdA 199 239 = some (.iinc 5 1, 3, 0, 0, 0) from rfl) (by decide) (List.Mem.tail _ (List.Mem.tail _ (List.Mem.tail _ (List.Mem.tail _ (List.Mem.tail _ (List.Mem.head _)))))) (fun _ h => h) ?_
                  refine z_goto X (t := 140) (show cdA 199 242 = some (.goto (-102), 3, 0, 0, 0) from rfl) (by decide) ?_
                  exfalso
                  omega
                ·
                  exact w_vret X.1 q hRt (ax_d X (show cdA 199 217 = some (.return_, 1, 0, 0, 0) from rfl)) (Nat.zero_le _) (Nat.zero_le _) ⟨_, rfl, Is1025, Gs1025, JTD_s1025, rfl, by omega⟩
              ·
                refine z_aload_n X (x := A 179) (show cdA 199 204 = some (.aload_n 0, 1, 0, 0, 0) from rfl) (List.Mem.tail _ (List.Mem.head _)) ?_
                refine z_const X (show cdA 199 205 = some (.iconst 4, 1, 0, 0, 0) from rfl) ?_
                refine z_load_n X (x := lt) (show cdA 199 206 = some (.iload_n 1, 1, 0, 0, 0) from rfl) (List.Mem.tail _ (List.Mem.tail _ (List.Mem.head _))) ?_
                refine z_callV X 179 (rm := rmN 194) (As := [.int (Int32.ofInt 4), .int (Int32.ofInt lt)]) (st := []) (show cdA 199 207 = some (.invokevirtual 204, 3, 194, 0, 0) from rfl) rfl (by decide) rfl (by rw [E.1, E.2.1, E.2.2.1]; exact k_wrong G Is1025 (by omega) (by omega)) ⟨by rw [E.2.2.2]; exact (show (rmN 194).frames + 1 ≤ (rmN 199).frames by decide), by rw [E.2.2.2]; exact (show 8 + (mNL (miB 194) + 11) + (rmN 194).locals ≤ (rmN 199).locals by decide), by rw [E.2.2.2]; exact (show 0 + (rmN 194).cells ≤ (rmN 199).cells by decide), by rw [E.2.2.2]; exact (show 0 + (rmN 194).slots ≤ (rmN 199).slots by decide)⟩ (Nat.le_of_ble_eq_true rfl) (fun vv s1034 hq => ?_) (fun ee s1034 hq => ?_)
                rotate_left
                · obtain ⟨Is1034, Fs1034, hv, hps1034⟩ := hq; cases hv
                obtain ⟨Is1034, Fs1034, hv, hps1034⟩ := hq
                cases hv
                have Gs1034 := fm_ts Gs1025 Fs1034 (by decide) (by decide)
                have JTD_s1034 : TD s1034 := TD_fm Fs1034 (by decide) JTD_s1025
                have ws1034_77 : iI s1034 77 = iI s1025 77 := fm_i Fs1034 (by decide)
                have ws1034_75 : iI s1034 75 = iI s1025 75 := fm_i Fs1034 (by decide)
                have b1036 : (0 : Int) ≤ iI s1034 79 ∧ iI s1034 79 ≤ 9 := Is1034.1 79
                have ws1034_91 : iI s1034 91 = iI s1025 91 := fm_i Fs1034 (by decide)
                show WS k 210 [(6, .int (Int32.ofInt e1012)), (0, .ref (A 179)), (1, .int (Int32.ofInt lt)), (3, .int (Int32.ofInt stp)), (4, .int (Int32.ofInt tm)), (5, .int (Int32.ofInt kk))] [] (Wd A dT s1034) 0 0
                refine z_aload_n X (x := A 179) (show cdA 199 210 = some (.aload_n 0, 1, 0, 0, 0) from rfl) (List.Mem.tail _ (List.Mem.head _)) ?_
                refine z_getI X 179 (show cdA 199 211 = some (.getfield 191, 3, 12, 6, 0) from rfl) (by decide) rfl rfl ?_
                have b1037 : (0 : Int) ≤ iI s1034 79 ∧ iI s1034 79 ≤ 9 := Is1034.1 79
                refine z_if_eq X (t := 218) (show cdA 199 214 = some (.ifCond .eq 4, 3, 0, 0, 0) from rfl) (by decide) ⟨by omega, by omega⟩ (fun g1038 => ?_) (fun g1038 => ?_)
                ·
                  refine z_aload_n X (x := A 179) (show cdA 199 218 = some (.aload_n 0, 1, 0, 0, 0) from rfl) (List.Mem.tail _ (List.Mem.head _)) ?_
                  refine s_getR X 179 (show cdA 199 219 = some (.getfield 44, 3, 12, 26, 0) from rfl) (by decide) rfl rfl ?_
                  refine z_aload_n X (x := A 179) (show cdA 199 222 = some (.aload_n 0, 1, 0, 0, 0) from rfl) (List.Mem.tail _ (List.Mem.head _)) ?_
                  refine z_getI X 179 (show cdA 199 223 = some (.getfield 216, 3, 12, 27, 0) from rfl) (by decide) rfl rfl ?_
                  have b1039 : (0 : Int) ≤ iI s1034 91 ∧ iI s1034 91 ≤ 24 := Is1034.1 91
                  refine z_load X (x := e1012) (show cdA 199 226 = some (.iload 6, 2, 0, 0, 0) from rfl) (List.Mem.head _) ?_
                  refine z_ast X 188 (show cdA 199 228 = some (.iastore, 1, 0, 0, 0) from rfl) (by decide) rfl (by omega) (show (iI s1034 91) < 24 by omega) (by decide) ?_
                  obtain ⟨s1040, hs1040⟩ : ∃ x0, x0 = uC s1034 165 ((iI s1034 91)).toNat (Int32.ofInt e1012) := ⟨_, rfl⟩
                  rw [← hs1040]
                  have Is1040 : Bd s1040 := by rw [hs1040]; exact bd_C Is1034 (show ((-2147483648) : Int) ≤ e1012 ∧ e1012 ≤ 2147483647 by omega) ⟨by omega, by omega⟩
                  have Fs1040 := fm_C (i := ((iI s1034 91)).toNat) (x := Int32.ofInt e1012) Gs1034 (show 165 ∈ _ by decide)
                  rw [← hs1040] at Fs1040
                  have ws1040_77 : iI s1040 77 = iI s1034 77 := by rw [hs1040]; rfl
                  have ws1040_75 : iI s1040 75 = iI s1034 75 := by rw [hs1040]; rfl
                  have ws1040_79 : iI s1040 79 = iI s1034 79 := by rw [hs1040]; rfl
                  have ws1040_91 : iI s1040 91 = iI s1034 91 := by rw [hs1040]; rfl
                  refine z_aload_n X (x := A 179) (show cdA 199 229 = some (.aload_n 0, 1, 0, 0, 0) from rfl) (List.Mem.tail _ (List.Mem.head _)) ?_
                  refine w_dup X.1 (ax_d X (show cdA 199 230 = some (.dup, 1, 0, 0, 0) from rfl)) rfl ?_
                  refine z_getI X 179 (show cdA 199 231 = some (.getfield 216, 3, 12, 27, 0) from rfl) (by decide) rfl rfl ?_
                  have b1041 : (0 : Int) ≤ iI s1040 91 ∧ iI s1040 91 ≤ 24 := Is1040.1 91
                  refine z_const X (show cdA 199 234 = some (.iconst 1, 1, 0, 0, 0) from rfl) ?_
                  refine z_add X (show cdA 199 235 = some (.iadd, 1, 0, 0, 0) from rfl) ?_
                  refine s_putI X 179 (show cdA 199 236 = some (.putfield 216, 3, 12, 27, 0) from rfl) (by decide) rfl rfl (by decide) rfl rfl rfl ?_
                  obtain ⟨s1042, hs1042⟩ : ∃ x0, x0 = uI s1040 91 (Int32.ofInt ((iI s1040 91) + 1)) := ⟨_, rfl⟩
                  rw [← hs1042]
                  have Is1042 : Bd s1042 := by rw [hs1042]; exact bd_I Is1040 (show (0 : Int) ≤ ((iI s1040 91) + 1) ∧ ((iI s1040 91) + 1) ≤ 24 by omega) ⟨by omega, by omega⟩
                  have Fs1042 := fm_I (x := Int32.ofInt ((iI s1040 91) + 1)) Fs1040 (show 91 ∈ _ by decide)
                  rw [← hs1042] at Fs1042
                  have vs1042 : iI s1042 91 = ((iI s1040 91) + 1) := by rw [hs1042]; exact iI_u ⟨by omega, by omega⟩
                  have ws1042_77 : iI s1042 77 = iI s1040 77 := by rw [hs1042]; rfl
                  have ws1042_75 : iI s1042 75 = iI s1040 75 := by rw [hs1042]; rfl
                  have ws1042_79 : iI s1042 79 = iI s1040 79 := by rw [hs1042]; rfl
                  have JTD_s1042 : TD s1042 := by
                    rw [hs1042, ws1040_91, hs1040]
                    exact TD_up JTD_s1034 rfl (by omega) (by omega)
                  refine z_inc X (x := kk) (lv' := [(5, .int (Int32.ofInt (kk + 1))), (6, .int (Int32.ofInt e1012)), (0, .ref (A 179)), (1, .int (Int32.ofInt lt)), (3, .int (Int32.ofInt stp)), (4, .int (Int32.ofInt tm))]) (show cdA 199 239 = some (.iinc 5 1, 3, 0, 0, 0) from rfl) (by decide) (List.Mem.tail _ (List.Mem.tail _ (List.Mem.tail _ (List.Mem.tail _ (List.Mem.tail _ (List.Mem.head _)))))) (fun _ h => h) ?_
                  refine z_goto X (t := 140) (show cdA 199 242 = some (.goto (-102), 3, 0, 0, 0) from rfl) (by decide) ?_
                  exfalso
                  omega
                ·
                  exact w_vret X.1 q hRt (ax_d X (show cdA 199 217 = some (.return_, 1, 0, 0, 0) from rfl)) (Nat.zero_le _) (Nat.zero_le _) ⟨_, rfl, Is1034, Gs1034, JTD_s1034, rfl, by omega⟩
          ·
            refine z_aload_n X (x := A 179) (show cdA 199 177 = some (.aload_n 0, 1, 0, 0, 0) from rfl) (List.Mem.tail _ (List.Mem.head _)) ?_
            refine z_const X (show cdA 199 178 = some (.iconst 3, 1, 0, 0, 0) from rfl) ?_
            refine z_load_n X (x := lt) (show cdA 199 179 = some (.iload_n 1, 1, 0, 0, 0) from rfl) (List.Mem.tail _ (List.Mem.tail _ (List.Mem.head _))) ?_
            refine z_callV X 179 (rm := rmN 194) (As := [.int (Int32.ofInt 3), .int (Int32.ofInt lt)]) (st := []) (show cdA 199 180 = some (.invokevirtual 204, 3, 194, 0, 0) from rfl) rfl (by decide) rfl (by rw [E.1, E.2.1, E.2.2.1]; exact k_wrong G Is1011 (by omega) (by omega)) ⟨by rw [E.2.2.2]; exact (show (rmN 194).frames + 1 ≤ (rmN 199).frames by decide), by rw [E.2.2.2]; exact (show 8 + (mNL (miB 194) + 11) + (rmN 194).locals ≤ (rmN 199).locals by decide), by rw [E.2.2.2]; exact (show 0 + (rmN 194).cells ≤ (rmN 199).cells by decide), by rw [E.2.2.2]; exact (show 0 + (rmN 194).slots ≤ (rmN 199).slots by decide)⟩ (Nat.le_of_ble_eq_true rfl) (fun vv s1043 hq => ?_) (fun ee s1043 hq => ?_)
            rotate_left
            · obtain ⟨Is1043, Fs1043, hv, hps1043⟩ := hq; cases hv
            obtain ⟨Is1043, Fs1043, hv, hps1043⟩ := hq
            cases hv
            have Gs1043 := fm_ts Gs1011 Fs1043 (by decide) (by decide)
            have JTD_s1043 : TD s1043 := TD_fm Fs1043 (by decide) JTD_s1011
            have ws1043_77 : iI s1043 77 = iI s1011 77 := fm_i Fs1043 (by decide)
            have ws1043_75 : iI s1043 75 = iI s1011 75 := fm_i Fs1043 (by decide)
            have b1045 : (0 : Int) ≤ iI s1043 79 ∧ iI s1043 79 ≤ 9 := Is1043.1 79
            have ws1043_91 : iI s1043 91 = iI s1011 91 := fm_i Fs1043 (by decide)
            show WS k 183 [(6, .int (Int32.ofInt e1012)), (0, .ref (A 179)), (1, .int (Int32.ofInt lt)), (3, .int (Int32.ofInt stp)), (4, .int (Int32.ofInt tm)), (5, .int (Int32.ofInt kk))] [] (Wd A dT s1043) 0 0
            refine z_goto X (t := 210) (show cdA 199 183 = some (.goto 27, 3, 0, 0, 0) from rfl) (by decide) ?_
            refine z_aload_n X (x := A 179) (show cdA 199 210 = some (.aload_n 0, 1, 0, 0, 0) from rfl) (List.Mem.tail _ (List.Mem.head _)) ?_
            refine z_getI X 179 (show cdA 199 211 = some (.getfield 191, 3, 12, 6, 0) from rfl) (by decide) rfl rfl ?_
            have b1046 : (0 : Int) ≤ iI s1043 79 ∧ iI s1043 79 ≤ 9 := Is1043.1 79
            refine z_if_eq X (t := 218) (show cdA 199 214 = some (.ifCond .eq 4, 3, 0, 0, 0) from rfl) (by decide) ⟨by omega, by omega⟩ (fun g1047 => ?_) (fun g1047 => ?_)
            ·
              refine z_aload_n X (x := A 179) (show cdA 199 218 = some (.aload_n 0, 1, 0, 0, 0) from rfl) (List.Mem.tail _ (List.Mem.head _)) ?_
              refine s_getR X 179 (show cdA 199 219 = some (.getfield 44, 3, 12, 26, 0) from rfl) (by decide) rfl rfl ?_
              refine z_aload_n X (x := A 179) (show cdA 199 222 = some (.aload_n 0, 1, 0, 0, 0) from rfl) (List.Mem.tail _ (List.Mem.head _)) ?_
              refine z_getI X 179 (show cdA 199 223 = some (.getfield 216, 3, 12, 27, 0) from rfl) (by decide) rfl rfl ?_
              have b1048 : (0 : Int) ≤ iI s1043 91 ∧ iI s1043 91 ≤ 24 := Is1043.1 91
              refine z_load X (x := e1012) (show cdA 199 226 = some (.iload 6, 2, 0, 0, 0) from rfl) (List.Mem.head _) ?_
              refine z_ast X 188 (show cdA 199 228 = some (.iastore, 1, 0, 0, 0) from rfl) (by decide) rfl (by omega) (show (iI s1043 91) < 24 by omega) (by decide) ?_
              obtain ⟨s1049, hs1049⟩ : ∃ x0, x0 = uC s1043 165 ((iI s1043 91)).toNat (Int32.ofInt e1012) := ⟨_, rfl⟩
              rw [← hs1049]
              have Is1049 : Bd s1049 := by rw [hs1049]; exact bd_C Is1043 (show ((-2147483648) : Int) ≤ e1012 ∧ e1012 ≤ 2147483647 by omega) ⟨by omega, by omega⟩
              have Fs1049 := fm_C (i := ((iI s1043 91)).toNat) (x := Int32.ofInt e1012) Gs1043 (show 165 ∈ _ by decide)
              rw [← hs1049] at Fs1049
              have ws1049_77 : iI s1049 77 = iI s1043 77 := by rw [hs1049]; rfl
              have ws1049_75 : iI s1049 75 = iI s1043 75 := by rw [hs1049]; rfl
              have ws1049_79 : iI s1049 79 = iI s1043 79 := by rw [hs1049]; rfl
              have ws1049_91 : iI s1049 91 = iI s1043 91 := by rw [hs1049]; rfl
              refine z_aload_n X (x := A 179) (show cdA 199 229 = some (.aload_n 0, 1, 0, 0, 0) from rfl) (List.Mem.tail _ (List.Mem.head _)) ?_
              refine w_dup X.1 (ax_d X (show cdA 199 230 = some (.dup, 1, 0, 0, 0) from rfl)) rfl ?_
              refine z_getI X 179 (show cdA 199 231 = some (.getfield 216, 3, 12, 27, 0) from rfl) (by decide) rfl rfl ?_
              have b1050 : (0 : Int) ≤ iI s1049 91 ∧ iI s1049 91 ≤ 24 := Is1049.1 91
              refine z_const X (show cdA 199 234 = some (.iconst 1, 1, 0, 0, 0) from rfl) ?_
              refine z_add X (show cdA 199 235 = some (.iadd, 1, 0, 0, 0) from rfl) ?_
              refine s_putI X 179 (show cdA 199 236 = some (.putfield 216, 3, 12, 27, 0) from rfl) (by decide) rfl rfl (by decide) rfl rfl rfl ?_
              obtain ⟨s1051, hs1051⟩ : ∃ x0, x0 = uI s1049 91 (Int32.ofInt ((iI s1049 91) + 1)) := ⟨_, rfl⟩
              rw [← hs1051]
              have Is1051 : Bd s1051 := by rw [hs1051]; exact bd_I Is1049 (show (0 : Int) ≤ ((iI s1049 91) + 1) ∧ ((iI s1049 91) + 1) ≤ 24 by omega) ⟨by omega, by omega⟩
              have Fs1051 := fm_I (x := Int32.ofInt ((iI s1049 91) + 1)) Fs1049 (show 91 ∈ _ by decide)
              rw [← hs1051] at Fs1051
              have vs1051 : iI s1051 91 = ((iI s1049 91) + 1) := by rw [hs1051]; exact iI_u ⟨by omega, by omega⟩
              have ws1051_77 : iI s1051 77 = iI s1049 77 := by rw [hs1051]; rfl
              have ws1051_75 : iI s1051 75 = iI s1049 75 := by rw [hs1051]; rfl
              have ws1051_79 : iI s1051 79 = iI s1049 79 := by rw [hs1051]; rfl
              have JTD_s1051 : TD s1051 := by
                rw [hs1051, ws1049_91, hs1049]
                exact TD_up JTD_s1043 rfl (by omega) (by omega)
              refine z_inc X (x := kk) (lv' := [(5, .int (Int32.ofInt (kk + 1))), (6, .int (Int32.ofInt e1012)), (0, .ref (A 179)), (1, .int (Int32.ofInt lt)), (3, .int (Int32.ofInt stp)), (4, .int (Int32.ofInt tm))]) (show cdA 199 239 = some (.iinc 5 1, 3, 0, 0, 0) from rfl) (by decide) (List.Mem.tail _ (List.Mem.tail _ (List.Mem.tail _ (List.Mem.tail _ (List.Mem.tail _ (List.Mem.head _)))))) (fun _ h => h) ?_
              refine z_goto X (t := 140) (show cdA 199 242 = some (.goto (-102), 3, 0, 0, 0) from rfl) (by decide) ?_
              exfalso
              omega
            ·
              exact w_vret X.1 q hRt (ax_d X (show cdA 199 217 = some (.return_, 1, 0, 0, 0) from rfl)) (Nat.zero_le _) (Nat.zero_le _) ⟨_, rfl, Is1043, Gs1043, JTD_s1043, rfl, by omega⟩
    | succ n ih =>
      intro t lt stp tm kk I F jjTD hi hm kx
      have b1001 : (0 : Int) ≤ iI t 77 ∧ iI t 77 ≤ 400 := I.1 77
      have b1002 : (0 : Int) ≤ iI t 75 ∧ iI t 75 ≤ 200 := I.1 75
      have b1003 : (0 : Int) ≤ iI t 79 ∧ iI t 79 ≤ 9 := I.1 79
      have b1004 : (0 : Int) ≤ iI t 91 ∧ iI t 91 ≤ 24 := I.1 91
      refine z_load X (x := kk) (show cdA 199 140 = some (.iload 5, 2, 0, 0, 0) from rfl) (List.Mem.tail _ (List.Mem.tail _ (List.Mem.tail _ (List.Mem.tail _ (List.Mem.head _))))) ?_
      refine z_load X (x := tm) (show cdA 199 142 = some (.iload 4, 2, 0, 0, 0) from rfl) (List.Mem.tail _ (List.Mem.tail _ (List.Mem.tail _ (List.Mem.head _)))) ?_
      refine z_icmp_ge X (t := 245) (show cdA 199 144 = some (.if_icmp .ge 101, 3, 3, 0, 0) from rfl) (by decide) ⟨by omega, by omega⟩ ⟨by omega, by omega⟩ (fun g1005 => ?_) (fun g1005 => ?_)
      ·
        refine WS_lv (lv := [(0, .ref (A 179)), (1, .int (Int32.ofInt lt)), (3, .int (Int32.ofInt stp)), (4, .int (Int32.ofInt tm)), (5, .int (Int32.ofInt kk))]) (List.forall_mem_cons.mpr ⟨(List.Mem.head _), (List.forall_mem_cons.mpr ⟨(List.Mem.tail _ (List.Mem.head _)), (List.forall_mem_cons.mpr ⟨(List.Mem.tail _ (List.Mem.tail _ (List.Mem.head _))), (List.forall_mem_cons.mpr ⟨(List.Mem.tail _ (List.Mem.tail _ (List.Mem.tail _ (List.Mem.head _)))), (List.forall_mem_cons.mpr ⟨(List.Mem.tail _ (List.Mem.tail _ (List.Mem.tail _ (List.Mem.tail _ (List.Mem.head _))))), (fun q h => absurd h List.not_mem_nil)⟩)⟩)⟩)⟩)⟩) ?_
        exact kx _ lt stp tm kk I F jjTD (by omega)
      ·
        refine z_aload_n X (x := A 179) (show cdA 199 147 = some (.aload_n 0, 1, 0, 0, 0) from rfl) (List.Mem.head _) ?_
        refine z_getI X 179 (show cdA 199 148 = some (.getfield 191, 3, 12, 6, 0) from rfl) (by decide) rfl rfl ?_
        have b1006 : (0 : Int) ≤ iI t 79 ∧ iI t 79 ≤ 9 := I.1 79
        refine z_if_ne X (t := 245) (show cdA 199 151 = some (.ifCond .ne 94, 3, 1, 0, 0) from rfl) (by decide) ⟨by omega, by omega⟩ (fun g1007 => ?_) (fun g1007 => ?_)
        ·
          refine WS_lv (lv := [(0, .ref (A 179)), (1, .int (Int32.ofInt lt)), (3, .int (Int32.ofInt stp)), (4, .int (Int32.ofInt tm)), (5, .int (Int32.ofInt kk))]) (List.forall_mem_cons.mpr ⟨(List.Mem.head _), (List.forall_mem_cons.mpr ⟨(List.Mem.tail _ (List.Mem.head _)), (List.forall_mem_cons.mpr ⟨(List.Mem.tail _ (List.Mem.tail _ (List.Mem.head _))), (List.forall_mem_cons.mpr ⟨(List.Mem.tail _ (List.Mem.tail _ (List.Mem.tail _ (List.Mem.head _)))), (List.forall_mem_cons.mpr ⟨(List.Mem.tail _ (List.Mem.tail _ (List.Mem.tail _ (List.Mem.tail _ (List.Mem.head _))))), (fun q h => absurd h List.not_mem_nil)⟩)⟩)⟩)⟩)⟩) ?_
          exact kx _ lt stp tm kk I F jjTD (by omega)
        ·
          refine z_aload_n X (x := A 179) (show cdA 199 154 = some (.aload_n 0, 1, 0, 0, 0) from rfl) (List.Mem.head _) ?_
          refine s_getR X 179 (show cdA 199 155 = some (.getfield 44, 3, 12, 26, 0) from rfl) (by decide) rfl rfl ?_
          refine z_aload_n X (x := A 179) (show cdA 199 158 = some (.aload_n 0, 1, 0, 0, 0) from rfl) (List.Mem.head _) ?_
          refine z_getI X 179 (show cdA 199 159 = some (.getfield 216, 3, 12, 27, 0) from rfl) (by decide) rfl rfl ?_
          have b1008 : (0 : Int) ≤ iI t 91 ∧ iI t 91 ≤ 24 := I.1 91
          refine z_const X (show cdA 199 162 = some (.iconst 1, 1, 0, 0, 0) from rfl) ?_
          refine z_sub X (show cdA 199 163 = some (.isub, 1, 0, 0, 0) from rfl) ?_
          have hT1009 := jjTD (((iI t 91) - 1) : Int).toNat (by omega)
          refine z_ald X 188 (show cdA 199 164 = some (.iaload, 1, 0, 0, 0) from rfl) (by decide) rfl (by omega) (show ((iI t 91) - 1) < 24 by omega) (by decide) ?_
          have b1010 : ((-2147483648) : Int) ≤ iC t 165 (((iI t 91) - 1)).toNat ∧ iC t 165 (((iI t 91) - 1)).toNat ≤ 2147483647 := I.2 165 _ (show (((iI t 91) - 1)).toNat < 24 by omega)
          refine z_load_n X (x := stp) (show cdA 199 165 = some (.iload_n 3, 1, 0, 0, 0) from rfl) (List.Mem.tail _ (List.Mem.tail _ (List.Mem.head _))) ?_
          refine z_callS X (rm := rmN 190) (As := [.int (Int32.ofInt (iC t 165 (((iI t 91) - 1)).toNat)), .int (Int32.ofInt stp)]) (st := []) (show cdA 199 166 = some (.invokestatic 223, 3, 190, 1, 0) from rfl) rfl (by rw [E.1, E.2.1, E.2.2.1]; exact k_beside G I (by omega) (by omega)) ⟨by rw [E.2.2.2]; exact (show (rmN 190).frames + 1 ≤ (rmN 199).frames by decide), by rw [E.2.2.2]; exact (show 8 + (mNL (miB 190) + 11) + (rmN 190).locals ≤ (rmN 199).locals by decide), by rw [E.2.2.2]; exact (show 0 + (rmN 190).cells ≤ (rmN 199).cells by decide), by rw [E.2.2.2]; exact (show 0 + (rmN 190).slots ≤ (rmN 199).slots by decide)⟩ (Nat.le_of_ble_eq_true rfl) (fun vv s1011 hq => ?_) (fun ee s1011 hq => ?_)
          rotate_left
          · obtain ⟨Is1011, Fs1011, e1012, hv, hrs1011, hps1011⟩ := hq; cases hv
          obtain ⟨Is1011, Fs1011, e1012, hv, hrs1011, hps1011⟩ := hq
          cases hv
          have Gs1011 := fm_ts F Fs1011 (by decide) (by decide)
          have JTD_s1011 : TD s1011 := TD_fm Fs1011 (by decide) jjTD
          have ws1011_77 : iI s1011 77 = iI t 77 := fm_i Fs1011 (by decide)
          have ws1011_75 : iI s1011 75 = iI t 75 := fm_i Fs1011 (by decide)
          have ws1011_79 : iI s1011 79 = iI t 79 := fm_i Fs1011 (by decide)
          have ws1011_91 : iI s1011 91 = iI t 91 := fm_i Fs1011 (by decide)
          show WS k 169 [(0, .ref (A 179)), (1, .int (Int32.ofInt lt)), (3, .int (Int32.ofInt stp)), (4, .int (Int32.ofInt tm)), (5, .int (Int32.ofInt kk))] [.int (Int32.ofInt e1012)] (Wd A dT s1011) 0 0
          refine z_store X (lv' := [(6, .int (Int32.ofInt e1012)), (0, .ref (A 179)), (1, .int (Int32.ofInt lt)), (3, .int (Int32.ofInt stp)), (4, .int (Int32.ofInt tm)), (5, .int (Int32.ofInt kk))]) (show cdA 199 169 = some (.istore 6, 2, 0, 0, 0) from rfl) (by decide) (fun _ h => h) ?_
          refine z_load X (x := e1012) (show cdA 199 171 = some (.iload 6, 2, 0, 0, 0) from rfl) (List.Mem.head _) ?_
          refine z_const X (show cdA 199 173 = some (.iconst (-1), 1, 0, 0, 0) from rfl) ?_
          refine z_icmp_ne X (t := 186) (show cdA 199 174 = some (.if_icmp .ne 12, 3, 1, 0, 0) from rfl) (by decide) ⟨by omega, by omega⟩ ⟨by omega, by omega⟩ (fun g1013 => ?_) (fun g1013 => ?_)
          ·
            refine z_aload_n X (x := A 179) (show cdA 199 186 = some (.aload_n 0, 1, 0, 0, 0) from rfl) (List.Mem.tail _ (List.Mem.head _)) ?_
            refine z_getI X 179 (show cdA 199 187 = some (.getfield 216, 3, 12, 27, 0) from rfl) (by decide) rfl rfl ?_
            have b1014 : (0 : Int) ≤ iI s1011 91 ∧ iI s1011 91 ≤ 24 := Is1011.1 91
            refine z_bipush X (show cdA 199 190 = some (.bipush 24, 2, 0, 0, 24) from rfl) ?_
            refine z_icmp_eq X (t := 204) (show cdA 199 192 = some (.if_icmp .eq 12, 3, 0, 0, 0) from rfl) (by decide) ⟨by omega, by omega⟩ ⟨by omega, by omega⟩ (fun g1015 => ?_) (fun g1015 => ?_)
            ·
              refine z_aload_n X (x := A 179) (show cdA 199 204 = some (.aload_n 0, 1, 0, 0, 0) from rfl) (List.Mem.tail _ (List.Mem.head _)) ?_
              refine z_const X (show cdA 199 205 = some (.iconst 4, 1, 0, 0, 0) from rfl) ?_
              refine z_load_n X (x := lt) (show cdA 199 206 = some (.iload_n 1, 1, 0, 0, 0) from rfl) (List.Mem.tail _ (List.Mem.tail _ (List.Mem.head _))) ?_
              refine z_callV X 179 (rm := rmN 194) (As := [.int (Int32.ofInt 4), .int (Int32.ofInt lt)]) (st := []) (show cdA 199 207 = some (.invokevirtual 204, 3, 194, 0, 0) from rfl) rfl (by decide) rfl (by rw [E.1, E.2.1, E.2.2.1]; exact k_wrong G Is1011 (by omega) (by omega)) ⟨by rw [E.2.2.2]; exact (show (rmN 194).frames + 1 ≤ (rmN 199).frames by decide), by rw [E.2.2.2]; exact (show 8 + (mNL (miB 194) + 11) + (rmN 194).locals ≤ (rmN 199).locals by decide), by rw [E.2.2.2]; exact (show 0 + (rmN 194).cells ≤ (rmN 199).cells by decide), by rw [E.2.2.2]; exact (show 0 + (rmN 194).slots ≤ (rmN 199).slots by decide)⟩ (Nat.le_of_ble_eq_true rfl) (fun vv s1016 hq => ?_) (fun ee s1016 hq => ?_)
              rotate_left
              · obtain ⟨Is1016, Fs1016, hv, hps1016⟩ := hq; cases hv
              obtain ⟨Is1016, Fs1016, hv, hps1016⟩ := hq
              cases hv
              have Gs1016 := fm_ts Gs1011 Fs1016 (by decide) (by decide)
              have JTD_s1016 : TD s1016 := TD_fm Fs1016 (by decide) JTD_s1011
              have ws1016_77 : iI s1016 77 = iI s1011 77 := fm_i Fs1016 (by decide)
              have ws1016_75 : iI s1016 75 = iI s1011 75 := fm_i Fs1016 (by decide)
              have b1018 : (0 : Int) ≤ iI s1016 79 ∧ iI s1016 79 ≤ 9 := Is1016.1 79
              have ws1016_91 : iI s1016 91 = iI s1011 91 := fm_i Fs1016 (by decide)
              show WS k 210 [(6, .int (Int32.ofInt e1012)), (0, .ref (A 179)), (1, .int (Int32.ofInt lt)), (3, .int (Int32.ofInt stp)), (4, .int (Int32.ofInt tm)), (5, .int (Int32.ofInt kk))] [] (Wd A dT s1016) 0 0
              refine z_aload_n X (x := A 179) (show cdA 199 210 = some (.aload_n 0, 1, 0, 0, 0) from rfl) (List.Mem.tail _ (List.Mem.head _)) ?_
              refine z_getI X 179 (show cdA 199 211 = some (.getfield 191, 3, 12, 6, 0) from rfl) (by decide) rfl rfl ?_
              have b1019 : (0 : Int) ≤ iI s1016 79 ∧ iI s1016 79 ≤ 9 := Is1016.1 79
              refine z_if_eq X (t := 218) (show cdA 199 214 = some (.ifCond .eq 4, 3, 0, 0, 0) from rfl) (by decide) ⟨by omega, by omega⟩ (fun g1020 => ?_) (fun g1020 => ?_)
              ·
                refine z_aload_n X (x := A 179) (show cdA 199 218 = some (.aload_n 0, 1, 0, 0, 0) from rfl) (List.Mem.tail _ (List.Mem.head _)) ?_
                refine s_getR X 179 (show cdA 199 219 = some (.getfield 44, 3, 12, 26, 0) from rfl) (by decide) rfl rfl ?_
                refine z_aload_n X (x := A 179) (show cdA 199 222 = some (.aload_n 0, 1, 0, 0, 0) from rfl) (List.Mem.tail _ (List.Mem.head _)) ?_
                refine z_getI X 179 (show cdA 199 223 = some (.getfield 216, 3, 12, 27, 0) from rfl) (by decide) rfl rfl ?_
                have b1021 : (0 : Int) ≤ iI s1016 91 ∧ iI s1016 91 ≤ 24 := Is1016.1 91
                refine z_load X (x := e1012) (show cdA 199 226 = some (.iload 6, 2, 0, 0, 0) from rfl) (List.Mem.head _) ?_
                refine z_ast X 188 (show cdA 199 228 = some (.iastore, 1, 0, 0, 0) from rfl) (by decide) rfl (by omega) (show (iI s1016 91) < 24 by omega) (by decide) ?_
                obtain ⟨s1022, hs1022⟩ : ∃ x0, x0 = uC s1016 165 ((iI s1016 91)).toNat (Int32.ofInt e1012) := ⟨_, rfl⟩
                rw [← hs1022]
                have Is1022 : Bd s1022 := by rw [hs1022]; exact bd_C Is1016 (show ((-2147483648) : Int) ≤ e1012 ∧ e1012 ≤ 2147483647 by omega) ⟨by omega, by omega⟩
                have Fs1022 := fm_C (i := ((iI s1016 91)).toNat) (x := Int32.ofInt e1012) Gs1016 (show 165 ∈ _ by decide)
                rw [← hs1022] at Fs1022
                have ws1022_77 : iI s1022 77 = iI s1016 77 := by rw [hs1022]; rfl
                have ws1022_75 : iI s1022 75 = iI s1016 75 := by rw [hs1022]; rfl
                have ws1022_79 : iI s1022 79 = iI s1016 79 := by rw [hs1022]; rfl
                have ws1022_91 : iI s1022 91 = iI s1016 91 := by rw [hs1022]; rfl
                refine z_aload_n X (x := A 179) (show cdA 199 229 = some (.aload_n 0, 1, 0, 0, 0) from rfl) (List.Mem.tail _ (List.Mem.head _)) ?_
                refine w_dup X.1 (ax_d X (show cdA 199 230 = some (.dup, 1, 0, 0, 0) from rfl)) rfl ?_
                refine z_getI X 179 (show cdA 199 231 = some (.getfield 216, 3, 12, 27, 0) from rfl) (by decide) rfl rfl ?_
                have b1023 : (0 : Int) ≤ iI s1022 91 ∧ iI s1022 91 ≤ 24 := Is1022.1 91
                refine z_const X (show cdA 199 234 = some (.iconst 1, 1, 0, 0, 0) from rfl) ?_
                refine z_add X (show cdA 199 235 = some (.iadd, 1, 0, 0, 0) from rfl) ?_
                refine s_putI X 179 (show cdA 199 236 = some (.putfield 216, 3, 12, 27, 0) from rfl) (by decide) rfl rfl (by decide) rfl rfl rfl ?_
                obtain ⟨s1024, hs1024⟩ : ∃ x0, x0 = uI s1022 91 (Int32.ofInt ((iI s1022 91) + 1)) := ⟨_, rfl⟩
                rw [← hs1024]
                have Is1024 : Bd s1024 := by rw [hs1024]; exact bd_I Is1022 (show (0 : Int) ≤ ((iI s1022 91) + 1) ∧ ((iI s1022 91) + 1) ≤ 24 by omega) ⟨by omega, by omega⟩
                have Fs1024 := fm_I (x := Int32.ofInt ((iI s1022 91) + 1)) Fs1022 (show 91 ∈ _ by decide)
                rw [← hs1024] at Fs1024
                have vs1024 : iI s1024 91 = ((iI s1022 91) + 1) := by rw [hs1024]; exact iI_u ⟨by omega, by omega⟩
                have ws1024_77 : iI s1024 77 = iI s1022 77 := by rw [hs1024]; rfl
                have ws1024_75 : iI s1024 75 = iI s1022 75 := by rw [hs1024]; rfl
                have ws1024_79 : iI s1024 79 = iI s1022 79 := by rw [hs1024]; rfl
                have JTD_s1024 : TD s1024 := by
                  rw [hs1024, ws1022_91, hs1022]
                  exact TD_up JTD_s1016 rfl (by omega) (by omega)
                refine z_inc X (x := kk) (lv' := [(5, .int (Int32.ofInt (kk + 1))), (6, .int (Int32.ofInt e1012)), (0, .ref (A 179)), (1, .int (Int32.ofInt lt)), (3, .int (Int32.ofInt stp)), (4, .int (Int32.ofInt tm))]) (show cdA 199 239 = some (.iinc 5 1, 3, 0, 0, 0) from rfl) (by decide) (List.Mem.tail _ (List.Mem.tail _ (List.Mem.tail _ (List.Mem.tail _ (List.Mem.tail _ (List.Mem.head _)))))) (fun _ h => h) ?_
                refine z_goto X (t := 140) (show cdA 199 242 = some (.goto (-102), 3, 0, 0, 0) from rfl) (by decide) ?_
                refine WS_lv (lv := [(0, .ref (A 179)), (1, .int (Int32.ofInt lt)), (3, .int (Int32.ofInt stp)), (4, .int (Int32.ofInt tm)), (5, .int (Int32.ofInt (kk + 1)))]) (List.forall_mem_cons.mpr ⟨(List.Mem.tail _ (List.Mem.tail _ (List.Mem.head _))), (List.forall_mem_cons.mpr ⟨(List.Mem.tail _ (List.Mem.tail _ (List.Mem.tail _ (List.Mem.head _)))), (List.forall_mem_cons.mpr ⟨(List.Mem.tail _ (List.Mem.tail _ (List.Mem.tail _ (List.Mem.tail _ (List.Mem.head _))))), (List.forall_mem_cons.mpr ⟨(List.Mem.tail _ (List.Mem.tail _ (List.Mem.tail _ (List.Mem.tail _ (List.Mem.tail _ (List.Mem.head _)))))), (List.forall_mem_cons.mpr ⟨(List.Mem.head _), (fun q h => absurd h List.not_mem_nil)⟩)⟩)⟩)⟩)⟩) ?_
                exact ih _ lt stp tm (kk + 1) Is1024 Fs1024 JTD_s1024 (by omega) (by omega) kx
              ·
                exact w_vret X.1 q hRt (ax_d X (show cdA 199 217 = some (.return_, 1, 0, 0, 0) from rfl)) (Nat.zero_le _) (Nat.zero_le _) ⟨_, rfl, Is1016, Gs1016, JTD_s1016, rfl, by omega⟩
            ·
              refine z_aload_n X (x := A 179) (show cdA 199 195 = some (.aload_n 0, 1, 0, 0, 0) from rfl) (List.Mem.tail _ (List.Mem.head _)) ?_
              refine z_load X (x := e1012) (show cdA 199 196 = some (.iload 6, 2, 0, 0, 0) from rfl) (List.Mem.head _) ?_
              refine z_callV X 179 (rm := rmN 198) (As := [.int (Int32.ofInt e1012)]) (st := []) (show cdA 199 198 = some (.invokevirtual 226, 3, 198, 0, 0) from rfl) rfl (by decide) rfl (by rw [E.1, E.2.1, E.2.2.1]; exact k_isTold G Is1011 (by omega)) ⟨by rw [E.2.2.2]; exact (show (rmN 198).frames + 1 ≤ (rmN 199).frames by decide), by rw [E.2.2.2]; exact (show 8 + (mNL (miB 198) + 11) + (rmN 198).locals ≤ (rmN 199).locals by decide), by rw [E.2.2.2]; exact (show 0 + (rmN 198).cells ≤ (rmN 199).cells by decide), by rw [E.2.2.2]; exact (show 0 + (rmN 198).slots ≤ (rmN 199).slots by decide)⟩ (Nat.le_of_ble_eq_true rfl) (fun vv s1025 hq => ?_) (fun ee s1025 hq => ?_)
              rotate_left
              · obtain ⟨Is1025, Fs1025, e1026, hv, hrs1025, hps1025⟩ := hq; cases hv
              obtain ⟨Is1025, Fs1025, e1026, hv, hrs1025, hps1025⟩ := hq
              cases hv
              have Gs1025 := fm_ts Gs1011 Fs1025 (by decide) (by decide)
              have JTD_s1025 : TD s1025 := TD_fm Fs1025 (by decide) JTD_s1011
              have ws1025_77 : iI s1025 77 = iI s1011 77 := fm_i Fs1025 (by decide)
              have ws1025_75 : iI s1025 75 = iI s1011 75 := fm_i Fs1025 (by decide)
              have ws1025_79 : iI s1025 79 = iI s1011 79 := fm_i Fs1025 (by decide)
              have ws1025_91 : iI s1025 91 = iI s1011 91 := fm_i Fs1025 (by decide)
              show WS k 201 [(6, .int (Int32.ofInt e1012)), (0, .ref (A 179)), (1, .int (Int32.ofInt lt)), (3, .int (Int32.ofInt stp)), (4, .int (Int32.ofInt tm)), (5, .int (Int32.ofInt kk))] [.int (Int32.ofInt e1026)] (Wd A dT s1025) 0 0
              refine z_if_eq X (t := 210) (show cdA 199 201 = some (.ifCond .eq 9, 3, 0, 0, 0) from rfl) (by decide) ⟨by omega, by omega⟩ (fun g1027 => ?_) (fun g1027 => ?_)
              ·
                refine z_aload_n X (x := A 179) (show cdA 199 210 = some (.aload_n 0, 1, 0, 0, 0) from rfl) (List.Mem.tail _ (List.Mem.head _)) ?_
                refine z_getI X 179 (show cdA 199 211 = some (.getfield 191, 3, 12, 6, 0) from rfl) (by decide) rfl rfl ?_
                have b1028 : (0 : Int) ≤ iI s1025 79 ∧ iI s1025 79 ≤ 9 := Is1025.1 79
                refine z_if_eq X (t := 218) (show cdA 199 214 = some (.ifCond .eq 4, 3, 0, 0, 0) from rfl) (by decide) ⟨by omega, by omega⟩ (fun g1029 => ?_) (fun g1029 => ?_)
                ·
                  refine z_aload_n X (x := A 179) (show cdA 199 218 = some (.aload_n 0, 1, 0, 0, 0) from rfl) (List.Mem.tail _ (List.Mem.head _)) ?_
                  refine s_getR X 179 (show cdA 199 219 = some (.getfield 44, 3, 12, 26, 0) from rfl) (by decide) rfl rfl ?_
                  refine z_aload_n X (x := A 179) (show cdA 199 222 = some (.aload_n 0, 1, 0, 0, 0) from rfl) (List.Mem.tail _ (List.Mem.head _)) ?_
                  refine z_getI X 179 (show cdA 199 223 = some (.getfield 216, 3, 12, 27, 0) from rfl) (by decide) rfl rfl ?_
                  have b1030 : (0 : Int) ≤ iI s1025 91 ∧ iI s1025 91 ≤ 24 := Is1025.1 91
                  refine z_load X (x := e1012) (show cdA 199 226 = some (.iload 6, 2, 0, 0, 0) from rfl) (List.Mem.head _) ?_
                  refine z_ast X 188 (show cdA 199 228 = some (.iastore, 1, 0, 0, 0) from rfl) (by decide) rfl (by omega) (show (iI s1025 91) < 24 by omega) (by decide) ?_
                  obtain ⟨s1031, hs1031⟩ : ∃ x0, x0 = uC s1025 165 ((iI s1025 91)).toNat (Int32.ofInt e1012) := ⟨_, rfl⟩
                  rw [← hs1031]
                  have Is1031 : Bd s1031 := by rw [hs1031]; exact bd_C Is1025 (show ((-2147483648) : Int) ≤ e1012 ∧ e1012 ≤ 2147483647 by omega) ⟨by omega, by omega⟩
                  have Fs1031 := fm_C (i := ((iI s1025 91)).toNat) (x := Int32.ofInt e1012) Gs1025 (show 165 ∈ _ by decide)
                  rw [← hs1031] at Fs1031
                  have ws1031_77 : iI s1031 77 = iI s1025 77 := by rw [hs1031]; rfl
                  have ws1031_75 : iI s1031 75 = iI s1025 75 := by rw [hs1031]; rfl
                  have ws1031_79 : iI s1031 79 = iI s1025 79 := by rw [hs1031]; rfl
                  have ws1031_91 : iI s1031 91 = iI s1025 91 := by rw [hs1031]; rfl
                  refine z_aload_n X (x := A 179) (show cdA 199 229 = some (.aload_n 0, 1, 0, 0, 0) from rfl) (List.Mem.tail _ (List.Mem.head _)) ?_
                  refine w_dup X.1 (ax_d X (show cdA 199 230 = some (.dup, 1, 0, 0, 0) from rfl)) rfl ?_
                  refine z_getI X 179 (show cdA 199 231 = some (.getfield 216, 3, 12, 27, 0) from rfl) (by decide) rfl rfl ?_
                  have b1032 : (0 : Int) ≤ iI s1031 91 ∧ iI s1031 91 ≤ 24 := Is1031.1 91
                  refine z_const X (show cdA 199 234 = some (.iconst 1, 1, 0, 0, 0) from rfl) ?_
                  refine z_add X (show cdA 199 235 = some (.iadd, 1, 0, 0, 0) from rfl) ?_
                  refine s_putI X 179 (show cdA 199 236 = some (.putfield 216, 3, 12, 27, 0) from rfl) (by decide) rfl rfl (by decide) rfl rfl rfl ?_
                  obtain ⟨s1033, hs1033⟩ : ∃ x0, x0 = uI s1031 91 (Int32.ofInt ((iI s1031 91) + 1)) := ⟨_, rfl⟩
                  rw [← hs1033]
                  have Is1033 : Bd s1033 := by rw [hs1033]; exact bd_I Is1031 (show (0 : Int) ≤ ((iI s1031 91) + 1) ∧ ((iI s1031 91) + 1) ≤ 24 by omega) ⟨by omega, by omega⟩
                  have Fs1033 := fm_I (x := Int32.ofInt ((iI s1031 91) + 1)) Fs1031 (show 91 ∈ _ by decide)
                  rw [← hs1033] at Fs1033
                  have vs1033 : iI s1033 91 = ((iI s1031 91) + 1) := by rw [hs1033]; exact iI_u ⟨by omega, by omega⟩
                  have ws1033_77 : iI s1033 77 = iI s1031 77 := by rw [hs1033]; rfl
                  have ws1033_75 : iI s1033 75 = iI s1031 75 := by rw [hs1033]; rfl
                  have ws1033_79 : iI s1033 79 = iI s1031 79 := by rw [hs1033]; rfl
                  have JTD_s1033 : TD s1033 := by
                    rw [hs1033, ws1031_91, hs1031]
                    exact TD_up JTD_s1025 rfl (by omega) (by omega)
                  refine z_inc X (x := kk) (lv' := [(5, .int (Int32.ofInt (kk + 1))), (6, .int (Int32.ofInt e1012)), (0, .ref (A 179)), (1, .int (Int32.ofInt lt)), (3, .int (Int32.ofInt stp)), (4, .int (Int32.ofInt tm))]) (show cdA 199 239 = some (.iinc 5 1, 3, 0, 0, 0) from rfl) (by decide) (List.Mem.tail _ (List.Mem.tail _ (List.Mem.tail _ (List.Mem.tail _ (List.Mem.tail _ (List.Mem.head _)))))) (fun _ h => h) ?_
                  refine z_goto X (t := 140) (show cdA 199 242 = some (.goto (-102), 3, 0, 0, 0) from rfl) (by decide) ?_
                  refine WS_lv (lv := [(0, .ref (A 179)), (1, .int (Int32.ofInt lt)), (3, .int (Int32.ofInt stp)), (4, .int (Int32.ofInt tm)), (5, .int (Int32.ofInt (kk + 1)))]) (List.forall_mem_cons.mpr ⟨(List.Mem.tail _ (List.Mem.tail _ (List.Mem.head _))), (List.forall_mem_cons.mpr ⟨(List.Mem.tail _ (List.Mem.tail _ (List.Mem.tail _ (List.Mem.head _)))), (List.forall_mem_cons.mpr ⟨(List.Mem.tail _ (List.Mem.tail _ (List.Mem.tail _ (List.Mem.tail _ (List.Mem.head _))))), (List.forall_mem_cons.mpr ⟨(List.Mem.tail _ (List.Mem.tail _ (List.Mem.tail _ (List.Mem.tail _ (List.Mem.tail _ (List.Mem.head _)))))), (List.forall_mem_cons.mpr ⟨(List.Mem.head _), (fun q h => absurd h List.not_mem_nil)⟩)⟩)⟩)⟩)⟩) ?_
                  exact ih _ lt stp tm (kk + 1) Is1033 Fs1033 JTD_s1033 (by omega) (by omega) kx
                ·
                  exact w_vret X.1 q hRt (ax_d X (show cdA 199 217 = some (.return_, 1, 0, 0, 0) from rfl)) (Nat.zero_le _) (Nat.zero_le _) ⟨_, rfl, Is1025, Gs1025, JTD_s1025, rfl, by omega⟩
              ·
                refine z_aload_n X (x := A 179) (show cdA 199 204 = some (.aload_n 0, 1, 0, 0, 0) from rfl) (List.Mem.tail _ (List.Mem.head _)) ?_
                refine z_const X (show cdA 199 205 = some (.iconst 4, 1, 0, 0, 0) from rfl) ?_
                refine z_load_n X (x := lt) (show cdA 199 206 = some (.iload_n 1, 1, 0, 0, 0) from rfl) (List.Mem.tail _ (List.Mem.tail _ (List.Mem.head _))) ?_
                refine z_callV X 179 (rm := rmN 194) (As := [.int (Int32.ofInt 4), .int (Int32.ofInt lt)]) (st := []) (show cdA 199 207 = some (.invokevirtual 204, 3, 194, 0, 0) from rfl) rfl (by decide) rfl (by rw [E.1, E.2.1, E.2.2.1]; exact k_wrong G Is1025 (by omega) (by omega)) ⟨by rw [E.2.2.2]; exact (show (rmN 194).frames + 1 ≤ (rmN 199).frames by decide), by rw [E.2.2.2]; exact (show 8 + (mNL (miB 194) + 11) + (rmN 194).locals ≤ (rmN 199).locals by decide), by rw [E.2.2.2]; exact (show 0 + (rmN 194).cells ≤ (rmN 199).cells by decide), by rw [E.2.2.2]; exact (show 0 + (rmN 194).slots ≤ (rmN 199).slots by decide)⟩ (Nat.le_of_ble_eq_true rfl) (fun vv s1034 hq => ?_) (fun ee s1034 hq => ?_)
                rotate_left
                · obtain ⟨Is1034, Fs1034, hv, hps1034⟩ := hq; cases hv
                obtain ⟨Is1034, Fs1034, hv, hps1034⟩ := hq
                cases hv
                have Gs1034 := fm_ts Gs1025 Fs1034 (by decide) (by decide)
                have JTD_s1034 : TD s1034 := TD_fm Fs1034 (by decide) JTD_s1025
                have ws1034_77 : iI s1034 77 = iI s1025 77 := fm_i Fs1034 (by decide)
                have ws1034_75 : iI s1034 75 = iI s1025 75 := fm_i Fs1034 (by decide)
                have b1036 : (0 : Int) ≤ iI s1034 79 ∧ iI s1034 79 ≤ 9 := Is1034.1 79
                have ws1034_91 : iI s1034 91 = iI s1025 91 := fm_i Fs1034 (by decide)
                show WS k 210 [(6, .int (Int32.ofInt e1012)), (0, .ref (A 179)), (1, .int (Int32.ofInt lt)), (3, .int (Int32.ofInt stp)), (4, .int (Int32.ofInt tm)), (5, .int (Int32.ofInt kk))] [] (Wd A dT s1034) 0 0
                refine z_aload_n X (x := A 179) (show cdA 199 210 = some (.aload_n 0, 1, 0, 0, 0) from rfl) (List.Mem.tail _ (List.Mem.head _)) ?_
                refine z_getI X 179 (show cdA 199 211 = some (.getfield 191, 3, 12, 6, 0) from rfl) (by decide) rfl rfl ?_
                have b1037 : (0 : Int) ≤ iI s1034 79 ∧ iI s1034 79 ≤ 9 := Is1034.1 79
                refine z_if_eq X (t := 218) (show cdA 199 214 = some (.ifCond .eq 4, 3, 0, 0, 0) from rfl) (by decide) ⟨by omega, by omega⟩ (fun g1038 => ?_) (fun g1038 => ?_)
                ·
                  refine z_aload_n X (x := A 179) (show cdA 199 218 = some (.aload_n 0, 1, 0, 0, 0) from rfl) (List.Mem.tail _ (List.Mem.head _)) ?_
                  refine s_getR X 179 (show cdA 199 219 = some (.getfield 44, 3, 12, 26, 0) from rfl) (by decide) rfl rfl ?_
                  refine z_aload_n X (x := A 179) (show cdA 199 222 = some (.aload_n 0, 1, 0, 0, 0) from rfl) (List.Mem.tail _ (List.Mem.head _)) ?_
                  refine z_getI X 179 (show cdA 199 223 = some (.getfield 216, 3, 12, 27, 0) from rfl) (by decide) rfl rfl ?_
                  have b1039 : (0 : Int) ≤ iI s1034 91 ∧ iI s1034 91 ≤ 24 := Is1034.1 91
                  refine z_load X (x := e1012) (show cdA 199 226 = some (.iload 6, 2, 0, 0, 0) from rfl) (List.Mem.head _) ?_
                  refine z_ast X 188 (show cdA 199 228 = some (.iastore, 1, 0, 0, 0) from rfl) (by decide) rfl (by omega) (show (iI s1034 91) < 24 by omega) (by decide) ?_
                  obtain ⟨s1040, hs1040⟩ : ∃ x0, x0 = uC s1034 165 ((iI s1034 91)).toNat (Int32.ofInt e1012) := ⟨_, rfl⟩
                  rw [← hs1040]
                  have Is1040 : Bd s1040 := by rw [hs1040]; exact bd_C Is1034 (show ((-2147483648) : Int) ≤ e1012 ∧ e1012 ≤ 2147483647 by omega) ⟨by omega, by omega⟩
                  have Fs1040 := fm_C (i := ((iI s1034 91)).toNat) (x := Int32.ofInt e1012) Gs1034 (show 165 ∈ _ by decide)
                  rw [← hs1040] at Fs1040
                  have ws1040_77 : iI s1040 77 = iI s1034 77 := by rw [hs1040]; rfl
                  have ws1040_75 : iI s1040 75 = iI s1034 75 := by rw [hs1040]; rfl
                  have ws1040_79 : iI s1040 79 = iI s1034 79 := by rw [hs1040]; rfl
                  have ws1040_91 : iI s1040 91 = iI s1034 91 := by rw [hs1040]; rfl
                  refine z_aload_n X (x := A 179) (show cdA 199 229 = some (.aload_n 0, 1, 0, 0, 0) from rfl) (List.Mem.tail _ (List.Mem.head _)) ?_
                  refine w_dup X.1 (ax_d X (show cdA 199 230 = some (.dup, 1, 0, 0, 0) from rfl)) rfl ?_
                  refine z_getI X 179 (show cdA 199 231 = some (.getfield 216, 3, 12, 27, 0) from rfl) (by decide) rfl rfl ?_
                  have b1041 : (0 : Int) ≤ iI s1040 91 ∧ iI s1040 91 ≤ 24 := Is1040.1 91
                  refine z_const X (show cdA 199 234 = some (.iconst 1, 1, 0, 0, 0) from rfl) ?_
                  refine z_add X (show cdA 199 235 = some (.iadd, 1, 0, 0, 0) from rfl) ?_
                  refine s_putI X 179 (show cdA 199 236 = some (.putfield 216, 3, 12, 27, 0) from rfl) (by decide) rfl rfl (by decide) rfl rfl rfl ?_
                  obtain ⟨s1042, hs1042⟩ : ∃ x0, x0 = uI s1040 91 (Int32.ofInt ((iI s1040 91) + 1)) := ⟨_, rfl⟩
                  rw [← hs1042]
                  have Is1042 : Bd s1042 := by rw [hs1042]; exact bd_I Is1040 (show (0 : Int) ≤ ((iI s1040 91) + 1) ∧ ((iI s1040 91) + 1) ≤ 24 by omega) ⟨by omega, by omega⟩
                  have Fs1042 := fm_I (x := Int32.ofInt ((iI s1040 91) + 1)) Fs1040 (show 91 ∈ _ by decide)
                  rw [← hs1042] at Fs1042
                  have vs1042 : iI s1042 91 = ((iI s1040 91) + 1) := by rw [hs1042]; exact iI_u ⟨by omega, by omega⟩
                  have ws1042_77 : iI s1042 77 = iI s1040 77 := by rw [hs1042]; rfl
                  have ws1042_75 : iI s1042 75 = iI s1040 75 := by rw [hs1042]; rfl
                  have ws1042_79 : iI s1042 79 = iI s1040 79 := by rw [hs1042]; rfl
                  have JTD_s1042 : TD s1042 := by
                    rw [hs1042, ws1040_91, hs1040]
                    exact TD_up JTD_s1034 rfl (by omega) (by omega)
                  refine z_inc X (x := kk) (lv' := [(5, .int (Int32.ofInt (kk + 1))), (6, .int (Int32.ofInt e1012)), (0, .ref (A 179)), (1, .int (Int32.ofInt lt)), (3, .int (Int32.ofInt stp)), (4, .int (Int32.ofInt tm))]) (show cdA 199 239 = some (.iinc 5 1, 3, 0, 0, 0) from rfl) (by decide) (List.Mem.tail _ (List.Mem.tail _ (List.Mem.tail _ (List.Mem.tail _ (List.Mem.tail _ (List.Mem.head _)))))) (fun _ h => h) ?_
                  refine z_goto X (t := 140) (show cdA 199 242 = some (.goto (-102), 3, 0, 0, 0) from rfl) (by decide) ?_
                  refine WS_lv (lv := [(0, .ref (A 179)), (1, .int (Int32.ofInt lt)), (3, .int (Int32.ofInt stp)), (4, .int (Int32.ofInt tm)), (5, .int (Int32.ofInt (kk + 1)))]) (List.forall_mem_cons.mpr ⟨(List.Mem.tail _ (List.Mem.tail _ (List.Mem.head _))), (List.forall_mem_cons.mpr ⟨(List.Mem.tail _ (List.Mem.tail _ (List.Mem.tail _ (List.Mem.head _)))), (List.forall_mem_cons.mpr ⟨(List.Mem.tail _ (List.Mem.tail _ (List.Mem.tail _ (List.Mem.tail _ (List.Mem.head _))))), (List.forall_mem_cons.mpr ⟨(List.Mem.tail _ (List.Mem.tail _ (List.Mem.tail _ (List.Mem.tail _ (List.Mem.tail _ (List.Mem.head _)))))), (List.forall_mem_cons.mpr ⟨(List.Mem.head _), (fun q h => absurd h List.not_mem_nil)⟩)⟩)⟩)⟩)⟩) ?_
                  exact ih _ lt stp tm (kk + 1) Is1042 Fs1042 JTD_s1042 (by omega) (by omega) kx
                ·
                  exact w_vret X.1 q hRt (ax_d X (show cdA 199 217 = some (.return_, 1, 0, 0, 0) from rfl)) (Nat.zero_le _) (Nat.zero_le _) ⟨_, rfl, Is1034, Gs1034, JTD_s1034, rfl, by omega⟩
          ·
            refine z_aload_n X (x := A 179) (show cdA 199 177 = some (.aload_n 0, 1, 0, 0, 0) from rfl) (List.Mem.tail _ (List.Mem.head _)) ?_
            refine z_const X (show cdA 199 178 = some (.iconst 3, 1, 0, 0, 0) from rfl) ?_
            refine z_load_n X (x := lt) (show cdA 199 179 = some (.iload_n 1, 1, 0, 0, 0) from rfl) (List.Mem.tail _ (List.Mem.tail _ (List.Mem.head _))) ?_
            refine z_callV X 179 (rm := rmN 194) (As := [.int (Int32.ofInt 3), .int (Int32.ofInt lt)]) (st := []) (show cdA 199 180 = some (.invokevirtual 204, 3, 194, 0, 0) from rfl) rfl (by decide) rfl (by rw [E.1, E.2.1, E.2.2.1]; exact k_wrong G Is1011 (by omega) (by omega)) ⟨by rw [E.2.2.2]; exact (show (rmN 194).frames + 1 ≤ (rmN 199).frames by decide), by rw [E.2.2.2]; exact (show 8 + (mNL (miB 194) + 11) + (rmN 194).locals ≤ (rmN 199).locals by decide), by rw [E.2.2.2]; exact (show 0 + (rmN 194).cells ≤ (rmN 199).cells by decide), by rw [E.2.2.2]; exact (show 0 + (rmN 194).slots ≤ (rmN 199).slots by decide)⟩ (Nat.le_of_ble_eq_true rfl) (fun vv s1043 hq => ?_) (fun ee s1043 hq => ?_)
            rotate_left
            · obtain ⟨Is1043, Fs1043, hv, hps1043⟩ := hq; cases hv
            obtain ⟨Is1043, Fs1043, hv, hps1043⟩ := hq
            cases hv
            have Gs1043 := fm_ts Gs1011 Fs1043 (by decide) (by decide)
            have JTD_s1043 : TD s1043 := TD_fm Fs1043 (by decide) JTD_s1011
            have ws1043_77 : iI s1043 77 = iI s1011 77 := fm_i Fs1043 (by decide)
            have ws1043_75 : iI s1043 75 = iI s1011 75 := fm_i Fs1043 (by decide)
            have b1045 : (0 : Int) ≤ iI s1043 79 ∧ iI s1043 79 ≤ 9 := Is1043.1 79
            have ws1043_91 : iI s1043 91 = iI s1011 91 := fm_i Fs1043 (by decide)
            show WS k 183 [(6, .int (Int32.ofInt e1012)), (0, .ref (A 179)), (1, .int (Int32.ofInt lt)), (3, .int (Int32.ofInt stp)), (4, .int (Int32.ofInt tm)), (5, .int (Int32.ofInt kk))] [] (Wd A dT s1043) 0 0
            refine z_goto X (t := 210) (show cdA 199 183 = some (.goto 27, 3, 0, 0, 0) from rfl) (by decide) ?_
            refine z_aload_n X (x := A 179) (show cdA 199 210 = some (.aload_n 0, 1, 0, 0, 0) from rfl) (List.Mem.tail _ (List.Mem.head _)) ?_
            refine z_getI X 179 (show cdA 199 211 = some (.getfield 191, 3, 12, 6, 0) from rfl) (by decide) rfl rfl ?_
            have b1046 : (0 : Int) ≤ iI s1043 79 ∧ iI s1043 79 ≤ 9 := Is1043.1 79
            refine z_if_eq X (t := 218) (show cdA 199 214 = some (.ifCond .eq 4, 3, 0, 0, 0) from rfl) (by decide) ⟨by omega, by omega⟩ (fun g1047 => ?_) (fun g1047 => ?_)
            ·
              refine z_aload_n X (x := A 179) (show cdA 199 218 = some (.aload_n 0, 1, 0, 0, 0) from rfl) (List.Mem.tail _ (List.Mem.head _)) ?_
              refine s_getR X 179 (show cdA 199 219 = some (.getfield 44, 3, 12, 26, 0) from rfl) (by decide) rfl rfl ?_
              refine z_aload_n X (x := A 179) (show cdA 199 222 = some (.aload_n 0, 1, 0, 0, 0) from rfl) (List.Mem.tail _ (List.Mem.head _)) ?_
              refine z_getI X 179 (show cdA 199 223 = some (.getfield 216, 3, 12, 27, 0) from rfl) (by decide) rfl rfl ?_
              have b1048 : (0 : Int) ≤ iI s1043 91 ∧ iI s1043 91 ≤ 24 := Is1043.1 91
              refine z_load X (x := e1012) (show cdA 199 226 = some (.iload 6, 2, 0, 0, 0) from rfl) (List.Mem.head _) ?_
              refine z_ast X 188 (show cdA 199 228 = some (.iastore, 1, 0, 0, 0) from rfl) (by decide) rfl (by omega) (show (iI s1043 91) < 24 by omega) (by decide) ?_
              obtain ⟨s1049, hs1049⟩ : ∃ x0, x0 = uC s1043 165 ((iI s1043 91)).toNat (Int32.ofInt e1012) := ⟨_, rfl⟩
              rw [← hs1049]
              have Is1049 : Bd s1049 := by rw [hs1049]; exact bd_C Is1043 (show ((-2147483648) : Int) ≤ e1012 ∧ e1012 ≤ 2147483647 by omega) ⟨by omega, by omega⟩
              have Fs1049 := fm_C (i := ((iI s1043 91)).toNat) (x := Int32.ofInt e1012) Gs1043 (show 165 ∈ _ by decide)
              rw [← hs1049] at Fs1049
              have ws1049_77 : iI s1049 77 = iI s1043 77 := by rw [hs1049]; rfl
              have ws1049_75 : iI s1049 75 = iI s1043 75 := by rw [hs1049]; rfl
              have ws1049_79 : iI s1049 79 = iI s1043 79 := by rw [hs1049]; rfl
              have ws1049_91 : iI s1049 91 = iI s1043 91 := by rw [hs1049]; rfl
              refine z_aload_n X (x := A 179) (show cdA 199 229 = some (.aload_n 0, 1, 0, 0, 0) from rfl) (List.Mem.tail _ (List.Mem.head _)) ?_
              refine w_dup X.1 (ax_d X (show cdA 199 230 = some (.dup, 1, 0, 0, 0) from rfl)) rfl ?_
              refine z_getI X 179 (show cdA 199 231 = some (.getfield 216, 3, 12, 27, 0) from rfl) (by decide) rfl rfl ?_
              have b1050 : (0 : Int) ≤ iI s1049 91 ∧ iI s1049 91 ≤ 24 := Is1049.1 91
              refine z_const X (show cdA 199 234 = some (.iconst 1, 1, 0, 0, 0) from rfl) ?_
              refine z_add X (show cdA 199 235 = some (.iadd, 1, 0, 0, 0) from rfl) ?_
              refine s_putI X 179 (show cdA 199 236 = some (.putfield 216, 3, 12, 27, 0) from rfl) (by decide) rfl rfl (by decide) rfl rfl rfl ?_
              obtain ⟨s1051, hs1051⟩ : ∃ x0, x0 = uI s1049 91 (Int32.ofInt ((iI s1049 91) + 1)) := ⟨_, rfl⟩
              rw [← hs1051]
              have Is1051 : Bd s1051 := by rw [hs1051]; exact bd_I Is1049 (show (0 : Int) ≤ ((iI s1049 91) + 1) ∧ ((iI s1049 91) + 1) ≤ 24 by omega) ⟨by omega, by omega⟩
              have Fs1051 := fm_I (x := Int32.ofInt ((iI s1049 91) + 1)) Fs1049 (show 91 ∈ _ by decide)
              rw [← hs1051] at Fs1051
              have vs1051 : iI s1051 91 = ((iI s1049 91) + 1) := by rw [hs1051]; exact iI_u ⟨by omega, by omega⟩
              have ws1051_77 : iI s1051 77 = iI s1049 77 := by rw [hs1051]; rfl
              have ws1051_75 : iI s1051 75 = iI s1049 75 := by rw [hs1051]; rfl
              have ws1051_79 : iI s1051 79 = iI s1049 79 := by rw [hs1051]; rfl
              have JTD_s1051 : TD s1051 := by
                rw [hs1051, ws1049_91, hs1049]
                exact TD_up JTD_s1043 rfl (by omega) (by omega)
              refine z_inc X (x := kk) (lv' := [(5, .int (Int32.ofInt (kk + 1))), (6, .int (Int32.ofInt e1012)), (0, .ref (A 179)), (1, .int (Int32.ofInt lt)), (3, .int (Int32.ofInt stp)), (4, .int (Int32.ofInt tm))]) (show cdA 199 239 = some (.iinc 5 1, 3, 0, 0, 0) from rfl) (by decide) (List.Mem.tail _ (List.Mem.tail _ (List.Mem.tail _ (List.Mem.tail _ (List.Mem.tail _ (List.Mem.head _)))))) (fun _ h => h) ?_
              refine z_goto X (t := 140) (show cdA 199 242 = some (.goto (-102), 3, 0, 0, 0) from rfl) (by decide) ?_
              refine WS_lv (lv := [(0, .ref (A 179)), (1, .int (Int32.ofInt lt)), (3, .int (Int32.ofInt stp)), (4, .int (Int32.ofInt tm)), (5, .int (Int32.ofInt (kk + 1)))]) (List.forall_mem_cons.mpr ⟨(List.Mem.tail _ (List.Mem.tail _ (List.Mem.head _))), (List.forall_mem_cons.mpr ⟨(List.Mem.tail _ (List.Mem.tail _ (List.Mem.tail _ (List.Mem.head _)))), (List.forall_mem_cons.mpr ⟨(List.Mem.tail _ (List.Mem.tail _ (List.Mem.tail _ (List.Mem.tail _ (List.Mem.head _))))), (List.forall_mem_cons.mpr ⟨(List.Mem.tail _ (List.Mem.tail _ (List.Mem.tail _ (List.Mem.tail _ (List.Mem.tail _ (List.Mem.head _)))))), (List.forall_mem_cons.mpr ⟨(List.Mem.head _), (fun q h => absurd h List.not_mem_nil)⟩)⟩)⟩)⟩)⟩) ?_
              exact ih _ lt stp tm (kk + 1) Is1051 Fs1051 JTD_s1051 (by omega) (by omega) kx
            ·
              exact w_vret X.1 q hRt (ax_d X (show cdA 199 217 = some (.return_, 1, 0, 0, 0) from rfl)) (Nat.zero_le _) (Nat.zero_le _) ⟨_, rfl, Is1043, Gs1043, JTD_s1043, rfl, by omega⟩
  refine z_aload_n X (x := A 179) (show cdA 199 0 = some (.aload_n 0, 1, 0, 0, 0) from rfl) (List.Mem.head _) ?_
  refine z_getI X 179 (show cdA 199 1 = some (.getfield 184, 3, 12, 4, 0) from rfl) (by decide) rfl rfl ?_
  have b5 : (0 : Int) ≤ iI s 77 ∧ iI s 77 ≤ 400 := I.1 77
  refine z_store_n X (lv' := [(1, .int (Int32.ofInt (iI s 77))), (0, .ref (A 179))]) (show cdA 199 4 = some (.istore_n 1, 1, 0, 0, 0) from rfl) (by decide) (fun _ h => h) ?_
  refine z_aload_n X (x := A 179) (show cdA 199 5 = some (.aload_n 0, 1, 0, 0, 0) from rfl) (List.Mem.tail _ (List.Mem.head _)) ?_
  refine z_aload_n X (x := A 179) (show cdA 199 6 = some (.aload_n 0, 1, 0, 0, 0) from rfl) (List.Mem.tail _ (List.Mem.head _)) ?_
  refine z_getI X 179 (show cdA 199 7 = some (.getfield 184, 3, 12, 4, 0) from rfl) (by decide) rfl rfl ?_
  have b6 : (0 : Int) ≤ iI s 77 ∧ iI s 77 ≤ 400 := I.1 77
  refine z_callV X 179 (rm := rmN 192) (As := [.int (Int32.ofInt (iI s 77))]) (st := []) (show cdA 199 10 = some (.invokevirtual 187, 3, 192, 0, 0) from rfl) rfl (by decide) rfl (by rw [E.1, E.2.1, E.2.2.1]; exact k_byteAt G I (by omega)) ⟨by rw [E.2.2.2]; exact (show (rmN 192).frames + 1 ≤ (rmN 199).frames by decide), by rw [E.2.2.2]; exact (show 8 + (mNL (miB 192) + 11) + (rmN 192).locals ≤ (rmN 199).locals by decide), by rw [E.2.2.2]; exact (show 0 + (rmN 192).cells ≤ (rmN 199).cells by decide), by rw [E.2.2.2]; exact (show 0 + (rmN 192).slots ≤ (rmN 199).slots by decide)⟩ (Nat.le_of_ble_eq_true rfl) (fun vv s7 hq => ?_) (fun ee s7 hq => ?_)
  rotate_left
  · obtain ⟨Is7, Fs7, e8, hv, hrs7, hps7⟩ := hq; cases hv
  obtain ⟨Is7, Fs7, e8, hv, hrs7, hps7⟩ := hq
  cases hv
  have Gs7 := fm_ts F Fs7 (by decide) (by decide)
  have JTD_s7 : TD s7 := TD_fm Fs7 (by decide) jTD
  have ws7_77 : iI s7 77 = iI s 77 := fm_i Fs7 (by decide)
  have ws7_75 : iI s7 75 = iI s 75 := fm_i Fs7 (by decide)
  have ws7_79 : iI s7 79 = iI s 79 := fm_i Fs7 (by decide)
  have ws7_91 : iI s7 91 = iI s 91 := fm_i Fs7 (by decide)
  show WS k 13 [(1, .int (Int32.ofInt (iI s 77))), (0, .ref (A 179))] [.int (Int32.ofInt e8)] (Wd A dT s7) 0 0
  refine z_store_n X (lv' := [(2, .int (Int32.ofInt e8)), (1, .int (Int32.ofInt (iI s 77))), (0, .ref (A 179))]) (show cdA 199 13 = some (.istore_n 2, 1, 0, 0, 0) from rfl) (by decide) (fun _ h => h) ?_
  refine z_load_n X (x := e8) (show cdA 199 14 = some (.iload_n 2, 1, 0, 0, 0) from rfl) (List.Mem.head _) ?_
  refine z_bipush X (show cdA 199 15 = some (.bipush 114, 2, 0, 0, 114) from rfl) ?_
  refine z_icmp_ne X (t := 24) (show cdA 199 17 = some (.if_icmp .ne 7, 3, 1, 0, 0) from rfl) (by decide) ⟨by omega, by omega⟩ ⟨by omega, by omega⟩ (fun g9 => ?_) (fun g9 => ?_)
  ·
    refine z_load_n X (x := e8) (show cdA 199 24 = some (.iload_n 2, 1, 0, 0, 0) from rfl) (List.Mem.head _) ?_
    refine z_bipush X (show cdA 199 25 = some (.bipush 108, 2, 0, 0, 108) from rfl) ?_
    refine z_icmp_ne X (t := 34) (show cdA 199 27 = some (.if_icmp .ne 7, 3, 1, 0, 0) from rfl) (by decide) ⟨by omega, by omega⟩ ⟨by omega, by omega⟩ (fun g10 => ?_) (fun g10 => ?_)
    ·
      refine z_load_n X (x := e8) (show cdA 199 34 = some (.iload_n 2, 1, 0, 0, 0) from rfl) (List.Mem.head _) ?_
      refine z_bipush X (show cdA 199 35 = some (.bipush 100, 2, 0, 0, 100) from rfl) ?_
      refine z_icmp_ne X (t := 44) (show cdA 199 37 = some (.if_icmp .ne 7, 3, 1, 0, 0) from rfl) (by decide) ⟨by omega, by omega⟩ ⟨by omega, by omega⟩ (fun g11 => ?_) (fun g11 => ?_)
      ·
        refine z_load_n X (x := e8) (show cdA 199 44 = some (.iload_n 2, 1, 0, 0, 0) from rfl) (List.Mem.head _) ?_
        refine z_bipush X (show cdA 199 45 = some (.bipush 117, 2, 0, 0, 117) from rfl) ?_
        refine z_icmp_ne X (t := 54) (show cdA 199 47 = some (.if_icmp .ne 7, 3, 1, 0, 0) from rfl) (by decide) ⟨by omega, by omega⟩ ⟨by omega, by omega⟩ (fun g12 => ?_) (fun g12 => ?_)
        ·
          refine z_load_n X (x := e8) (show cdA 199 54 = some (.iload_n 2, 1, 0, 0, 0) from rfl) (List.Mem.head _) ?_
          refine z_bipush X (show cdA 199 55 = some (.bipush 99, 2, 0, 0, 99) from rfl) ?_
          refine z_icmp_ne X (t := 64) (show cdA 199 57 = some (.if_icmp .ne 7, 3, 1, 0, 0) from rfl) (by decide) ⟨by omega, by omega⟩ ⟨by omega, by omega⟩ (fun g13 => ?_) (fun g13 => ?_)
          ·
            refine z_load_n X (x := e8) (show cdA 199 64 = some (.iload_n 2, 1, 0, 0, 0) from rfl) (List.Mem.head _) ?_
            refine z_bipush X (show cdA 199 65 = some (.bipush 115, 2, 0, 0, 115) from rfl) ?_
            refine z_icmp_ne X (t := 74) (show cdA 199 67 = some (.if_icmp .ne 7, 3, 1, 0, 0) from rfl) (by decide) ⟨by omega, by omega⟩ ⟨by omega, by omega⟩ (fun g14 => ?_) (fun g14 => ?_)
            ·
              refine z_const X (show cdA 199 74 = some (.iconst (-1), 1, 0, 0, 0) from rfl) ?_
              refine z_store_n X (lv' := [(3, .int (Int32.ofInt (-1))), (2, .int (Int32.ofInt e8)), (1, .int (Int32.ofInt (iI s 77))), (0, .ref (A 179))]) (show cdA 199 75 = some (.istore_n 3, 1, 0, 0, 0) from rfl) (by decide) (fun _ h => h) ?_
              refine z_load_n X (x := (-1)) (show cdA 199 76 = some (.iload_n 3, 1, 0, 0, 0) from rfl) (List.Mem.head _) ?_
              refine z_const X (show cdA 199 77 = some (.iconst (-1), 1, 0, 0, 0) from rfl) ?_
              refine z_icmp_ne X (t := 91) (show cdA 199 78 = some (.if_icmp .ne 13, 3, 1, 0, 0) from rfl) (by decide) ⟨by omega, by omega⟩ ⟨by omega, by omega⟩ (fun g15 => ?_) (fun g15 => ?_)
              ·
                refine z_aload_n X (x := A 179) (show cdA 199 91 = some (.aload_n 0, 1, 0, 0, 0) from rfl) (List.Mem.tail _ (List.Mem.tail _ (List.Mem.tail _ (List.Mem.head _)))) ?_
                refine w_dup X.1 (ax_d X (show cdA 199 92 = some (.dup, 1, 0, 0, 0) from rfl)) rfl ?_
                refine z_getI X 179 (show cdA 199 93 = some (.getfield 184, 3, 12, 4, 0) from rfl) (by decide) rfl rfl ?_
                have b16 : (0 : Int) ≤ iI s7 77 ∧ iI s7 77 ≤ 400 := Is7.1 77
                refine z_const X (show cdA 199 96 = some (.iconst 1, 1, 0, 0, 0) from rfl) ?_
                refine z_add X (show cdA 199 97 = some (.iadd, 1, 0, 0, 0) from rfl) ?_
                refine s_putI X 179 (show cdA 199 98 = some (.putfield 184, 3, 12, 4, 0) from rfl) (by decide) rfl rfl (by decide) rfl rfl rfl ?_
                obtain ⟨s17, hs17⟩ : ∃ x0, x0 = uI s7 77 (Int32.ofInt ((iI s7 77) + 1)) := ⟨_, rfl⟩
                rw [← hs17]
                have Is17 : Bd s17 := by rw [hs17]; exact bd_I Is7 (show (0 : Int) ≤ ((iI s7 77) + 1) ∧ ((iI s7 77) + 1) ≤ 400 by omega) ⟨by omega, by omega⟩
                have Fs17 := fm_I (x := Int32.ofInt ((iI s7 77) + 1)) Gs7 (show 77 ∈ _ by decide)
                rw [← hs17] at Fs17
                have vs17 : iI s17 77 = ((iI s7 77) + 1) := by rw [hs17]; exact iI_u ⟨by omega, by omega⟩
                have ws17_75 : iI s17 75 = iI s7 75 := by rw [hs17]; rfl
                have ws17_79 : iI s17 79 = iI s7 79 := by rw [hs17]; rfl
                have ws17_91 : iI s17 91 = iI s7 91 := by rw [hs17]; rfl
                have fs17 : Fm [77] [] s7 s17 := by rw [hs17]; exact fm_I (fm_rf _ _ _) (show 77 ∈ _ by decide)
                have JTD_s17 : TD s17 := TD_fm fs17 (by decide) JTD_s7
                refine z_aload_n X (x := A 179) (show cdA 199 101 = some (.aload_n 0, 1, 0, 0, 0) from rfl) (List.Mem.tail _ (List.Mem.tail _ (List.Mem.tail _ (List.Mem.head _)))) ?_
                refine z_callV X 179 (rm := rmN 193) (As := []) (st := []) (show cdA 199 102 = some (.invokevirtual 197, 3, 193, 0, 0) from rfl) rfl (by decide) rfl (by rw [E.1, E.2.1, E.2.2.1]; exact k_blanks G Is17 (by omega)) ⟨by rw [E.2.2.2]; exact (show (rmN 193).frames + 1 ≤ (rmN 199).frames by decide), by rw [E.2.2.2]; exact (show 8 + (mNL (miB 193) + 11) + (rmN 193).locals ≤ (rmN 199).locals by decide), by rw [E.2.2.2]; exact (show 0 + (rmN 193).cells ≤ (rmN 199).cells by decide), by rw [E.2.2.2]; exact (show 0 + (rmN 193).slots ≤ (rmN 199).slots by decide)⟩ (Nat.le_of_ble_eq_true rfl) (fun vv s18 hq => ?_) (fun ee s18 hq => ?_)
                rotate_left
                · obtain ⟨Is18, Fs18, hv, hps18⟩ := hq; cases hv
                obtain ⟨Is18, Fs18, hv, hps18⟩ := hq
                cases hv
                have Gs18 := fm_ts Fs17 Fs18 (by decide) (by decide)
                have JTD_s18 : TD s18 := TD_fm Fs18 (by decide) JTD_s17
                have b20 : (0 : Int) ≤ iI s18 77 ∧ iI s18 77 ≤ 400 := Is18.1 77
                have ws18_75 : iI s18 75 = iI s17 75 := fm_i Fs18 (by decide)
                have ws18_79 : iI s18 79 = iI s17 79 := fm_i Fs18 (by decide)
                have ws18_91 : iI s18 91 = iI s17 91 := fm_i Fs18 (by decide)
                show WS k 105 [(3, .int (Int32.ofInt (-1))), (2, .int (Int32.ofInt e8)), (1, .int (Int32.ofInt (iI s 77))), (0, .ref (A 179))] [] (Wd A dT s18) 0 0
                refine z_load_n X (x := (-1)) (show cdA 199 105 = some (.iload_n 3, 1, 0, 0, 0) from rfl) (List.Mem.head _) ?_
                refine z_const X (show cdA 199 106 = some (.iconst 4, 1, 0, 0, 0) from rfl) ?_
                refine z_icmp_ge X (t := 134) (show cdA 199 107 = some (.if_icmp .ge 27, 3, 3, 0, 0) from rfl) (by decide) ⟨by omega, by omega⟩ ⟨by omega, by omega⟩ (fun g21 => ?_) (fun g21 => ?_)
                ·
                  refine z_const X (show cdA 199 134 = some (.iconst 1, 1, 0, 0, 0) from rfl) ?_
                  refine z_store X (lv' := [(4, .int (Int32.ofInt 1)), (3, .int (Int32.ofInt (-1))), (2, .int (Int32.ofInt e8)), (1, .int (Int32.ofInt (iI s 77))), (0, .ref (A 179))]) (show cdA 199 135 = some (.istore 4, 2, 0, 0, 0) from rfl) (by decide) (fun _ h => h) ?_
                  refine z_const X (show cdA 199 137 = some (.iconst 0, 1, 0, 0, 0) from rfl) ?_
                  refine z_store X (lv' := [(5, .int (Int32.ofInt 0)), (4, .int (Int32.ofInt 1)), (3, .int (Int32.ofInt (-1))), (2, .int (Int32.ofInt e8)), (1, .int (Int32.ofInt (iI s 77))), (0, .ref (A 179))]) (show cdA 199 138 = some (.istore 5, 2, 0, 0, 0) from rfl) (by decide) (fun _ h => h) ?_
                  refine WS_lv (lv := [(0, .ref (A 179)), (1, .int (Int32.ofInt (iI s 77))), (3, .int (Int32.ofInt (-1))), (4, .int (Int32.ofInt 1)), (5, .int (Int32.ofInt 0))]) (List.forall_mem_cons.mpr ⟨(List.Mem.tail _ (List.Mem.tail _ (List.Mem.tail _ (List.Mem.tail _ (List.Mem.tail _ (List.Mem.head _)))))), (List.forall_mem_cons.mpr ⟨(List.Mem.tail _ (List.Mem.tail _ (List.Mem.tail _ (List.Mem.tail _ (List.Mem.head _))))), (List.forall_mem_cons.mpr ⟨(List.Mem.tail _ (List.Mem.tail _ (List.Mem.head _))), (List.forall_mem_cons.mpr ⟨(List.Mem.tail _ (List.Mem.head _)), (List.forall_mem_cons.mpr ⟨(List.Mem.head _), (fun q h => absurd h List.not_mem_nil)⟩)⟩)⟩)⟩)⟩) ?_
                  refine L140 ((1 - 0 : Int)).toNat s18 (iI s 77) (-1) 1 0 Is18 Gs18 JTD_s18 (by omega) (by omega) ?_
                  intro s22 x23 x24 x25 x26 Is22 Fs22 JTD_s22 hs22
                  have b27 : (0 : Int) ≤ iI s22 77 ∧ iI s22 77 ≤ 400 := Is22.1 77
                  have b28 : (0 : Int) ≤ iI s22 75 ∧ iI s22 75 ≤ 200 := Is22.1 75
                  have b29 : (0 : Int) ≤ iI s22 79 ∧ iI s22 79 ≤ 9 := Is22.1 79
                  have b30 : (0 : Int) ≤ iI s22 91 ∧ iI s22 91 ≤ 24 := Is22.1 91
                  exact w_vret X.1 q hRt (ax_d X (show cdA 199 245 = some (.return_, 1, 0, 0, 0) from rfl)) (Nat.zero_le _) (Nat.zero_le _) ⟨_, rfl, Is22, Fs22, JTD_s22, rfl, by omega⟩
                ·
                  refine z_aload_n X (x := A 179) (show cdA 199 110 = some (.aload_n 0, 1, 0, 0, 0) from rfl) (List.Mem.tail _ (List.Mem.tail _ (List.Mem.tail _ (List.Mem.head _)))) ?_
                  refine z_aload_n X (x := A 179) (show cdA 199 111 = some (.aload_n 0, 1, 0, 0, 0) from rfl) (List.Mem.tail _ (List.Mem.tail _ (List.Mem.tail _ (List.Mem.head _)))) ?_
                  refine z_getI X 179 (show cdA 199 112 = some (.getfield 184, 3, 12, 4, 0) from rfl) (by decide) rfl rfl ?_
                  have b31 : (0 : Int) ≤ iI s18 77 ∧ iI s18 77 ≤ 400 := Is18.1 77
                  refine z_callV X 179 (rm := rmN 192) (As := [.int (Int32.ofInt (iI s18 77))]) (st := []) (show cdA 199 115 = some (.invokevirtual 187, 3, 192, 0, 0) from rfl) rfl (by decide) rfl (by rw [E.1, E.2.1, E.2.2.1]; exact k_byteAt G Is18 (by omega)) ⟨by rw [E.2.2.2]; exact (show (rmN 192).frames + 1 ≤ (rmN 199).frames by decide), by rw [E.2.2.2]; exact (show 8 + (mNL (miB 192) + 11) + (rmN 192).locals ≤ (rmN 199).locals by decide), by rw [E.2.2.2]; exact (show 0 + (rmN 192).cells ≤ (rmN 199).cells by decide), by rw [E.2.2.2]; exact (show 0 + (rmN 192).slots ≤ (rmN 199).slots by decide)⟩ (Nat.le_of_ble_eq_true rfl) (fun vv s32 hq => ?_) (fun ee s32 hq => ?_)
                  rotate_left
                  · obtain ⟨Is32, Fs32, e33, hv, hrs32, hps32⟩ := hq; cases hv
                  obtain ⟨Is32, Fs32, e33, hv, hrs32, hps32⟩ := hq
                  cases hv
                  have Gs32 := fm_ts Gs18 Fs32 (by decide) (by decide)
                  have JTD_s32 : TD s32 := TD_fm Fs32 (by decide) JTD_s18
                  have ws32_77 : iI s32 77 = iI s18 77 := fm_i Fs32 (by decide)
                  have ws32_75 : iI s32 75 = iI s18 75 := fm_i Fs32 (by decide)
                  have ws32_79 : iI s32 79 = iI s18 79 := fm_i Fs32 (by decide)
                  have ws32_91 : iI s32 91 = iI s18 91 := fm_i Fs32 (by decide)
                  show WS k 118 [(3, .int (Int32.ofInt (-1))), (2, .int (Int32.ofInt e8)), (1, .int (Int32.ofInt (iI s 77))), (0, .ref (A 179))] [.int (Int32.ofInt e33)] (Wd A dT s32) 0 0
                  refine z_callS X (rm := rmN 195) (As := [.int (Int32.ofInt e33)]) (st := []) (show cdA 199 118 = some (.invokestatic 200, 3, 195, 1, 0) from rfl) rfl (by rw [E.1, E.2.1, E.2.2.1]; exact k_isDigit G Is32 (by omega)) ⟨by rw [E.2.2.2]; exact (show (rmN 195).frames + 1 ≤ (rmN 199).frames by decide), by rw [E.2.2.2]; exact (show 8 + (mNL (miB 195) + 11) + (rmN 195).locals ≤ (rmN 199).locals by decide), by rw [E.2.2.2]; exact (show 0 + (rmN 195).cells ≤ (rmN 199).cells by decide), by rw [E.2.2.2]; exact (show 0 + (rmN 195).slots ≤ (rmN 199).slots by decide)⟩ (Nat.le_of_ble_eq_true rfl) (fun vv s34 hq => ?_) (fun ee s34 hq => ?_)
                  rotate_left
                  · obtain ⟨Is34, Fs34, e35, hv, hrs34, hps34⟩ := hq; cases hv
                  obtain ⟨Is34, Fs34, e35, hv, hrs34, hps34⟩ := hq
                  cases hv
                  have Gs34 := fm_ts Gs32 Fs34 (by decide) (by decide)
                  have JTD_s34 : TD s34 := TD_fm Fs34 (by decide) JTD_s32
                  have ws34_77 : iI s34 77 = iI s32 77 := fm_i Fs34 (by decide)
                  have ws34_75 : iI s34 75 = iI s32 75 := fm_i Fs34 (by decide)
                  have ws34_79 : iI s34 79 = iI s32 79 := fm_i Fs34 (by decide)
                  have ws34_91 : iI s34 91 = iI s32 91 := fm_i Fs34 (by decide)
                  show WS k 121 [(3, .int (Int32.ofInt (-1))), (2, .int (Int32.ofInt e8)), (1, .int (Int32.ofInt (iI s 77))), (0, .ref (A 179))] [.int (Int32.ofInt e35)] (Wd A dT s34) 0 0
                  refine z_if_eq X (t := 134) (show cdA 199 121 = some (.ifCond .eq 13, 3, 0, 0, 0) from rfl) (by decide) ⟨by omega, by omega⟩ (fun g36 => ?_) (fun g36 => ?_)
                  ·
                    refine z_const X (show cdA 199 134 = some (.iconst 1, 1, 0, 0, 0) from rfl) ?_
                    refine z_store X (lv' := [(4, .int (Int32.ofInt 1)), (3, .int (Int32.ofInt (-1))), (2, .int (Int32.ofInt e8)), (1, .int (Int32.ofInt (iI s 77))), (0, .ref (A 179))]) (show cdA 199 135 = some (.istore 4, 2, 0, 0, 0) from rfl) (by decide) (fun _ h => h) ?_
                    refine z_const X (show cdA 199 137 = some (.iconst 0, 1, 0, 0, 0) from rfl) ?_
                    refine z_store X (lv' := [(5, .int (Int32.ofInt 0)), (4, .int (Int32.ofInt 1)), (3, .int (Int32.ofInt (-1))), (2, .int (Int32.ofInt e8)), (1, .int (Int32.ofInt (iI s 77))), (0, .ref (A 179))]) (show cdA 199 138 = some (.istore 5, 2, 0, 0, 0) from rfl) (by decide) (fun _ h => h) ?_
                    refine WS_lv (lv := [(0, .ref (A 179)), (1, .int (Int32.ofInt (iI s 77))), (3, .int (Int32.ofInt (-1))), (4, .int (Int32.ofInt 1)), (5, .int (Int32.ofInt 0))]) (List.forall_mem_cons.mpr ⟨(List.Mem.tail _ (List.Mem.tail _ (List.Mem.tail _ (List.Mem.tail _ (List.Mem.tail _ (List.Mem.head _)))))), (List.forall_mem_cons.mpr ⟨(List.Mem.tail _ (List.Mem.tail _ (List.Mem.tail _ (List.Mem.tail _ (List.Mem.head _))))), (List.forall_mem_cons.mpr ⟨(List.Mem.tail _ (List.Mem.tail _ (List.Mem.head _))), (List.forall_mem_cons.mpr ⟨(List.Mem.tail _ (List.Mem.head _)), (List.forall_mem_cons.mpr ⟨(List.Mem.head _), (fun q h => absurd h List.not_mem_nil)⟩)⟩)⟩)⟩)⟩) ?_
                    refine L140 ((1 - 0 : Int)).toNat s34 (iI s 77) (-1) 1 0 Is34 Gs34 JTD_s34 (by omega) (by omega) ?_
                    intro s37 x38 x39 x40 x41 Is37 Fs37 JTD_s37 hs37
                    have b42 : (0 : Int) ≤ iI s37 77 ∧ iI s37 77 ≤ 400 := Is37.1 77
                    have b43 : (0 : Int) ≤ iI s37 75 ∧ iI s37 75 ≤ 200 := Is37.1 75
                    have b44 : (0 : Int) ≤ iI s37 79 ∧ iI s37 79 ≤ 9 := Is37.1 79
                    have b45 : (0 : Int) ≤ iI s37 91 ∧ iI s37 91 ≤ 24 := Is37.1 91
                    exact w_vret X.1 q hRt (ax_d X (show cdA 199 245 = some (.return_, 1, 0, 0, 0) from rfl)) (Nat.zero_le _) (Nat.zero_le _) ⟨_, rfl, Is37, Fs37, JTD_s37, rfl, by omega⟩
                  ·
                    refine z_aload_n X (x := A 179) (show cdA 199 124 = some (.aload_n 0, 1, 0, 0, 0) from rfl) (List.Mem.tail _ (List.Mem.tail _ (List.Mem.tail _ (List.Mem.head _)))) ?_
                    refine z_const X (show cdA 199 125 = some (.iconst 1, 1, 0, 0, 0) from rfl) ?_
                    refine z_bipush X (show cdA 199 126 = some (.bipush 7, 2, 0, 0, 7) from rfl) ?_
                    refine z_callV X 179 (rm := rmN 196) (As := [.int (Int32.ofInt 1), .int (Int32.ofInt 7)]) (st := []) (show cdA 199 128 = some (.invokevirtual 219, 3, 196, 0, 0) from rfl) rfl (by decide) rfl (by rw [E.1, E.2.1, E.2.2.1]; exact k_number G Is34 (by omega) (by omega) (by omega)) ⟨by rw [E.2.2.2]; exact (show (rmN 196).frames + 1 ≤ (rmN 199).frames by decide), by rw [E.2.2.2]; exact (show 8 + (mNL (miB 196) + 11) + (rmN 196).locals ≤ (rmN 199).locals by decide), by rw [E.2.2.2]; exact (show 0 + (rmN 196).cells ≤ (rmN 199).cells by decide), by rw [E.2.2.2]; exact (show 0 + (rmN 196).slots ≤ (rmN 199).slots by decide)⟩ (Nat.le_of_ble_eq_true rfl) (fun vv s46 hq => ?_) (fun ee s46 hq => ?_)
                    rotate_left
                    · obtain ⟨Is46, Fs46, e47, hv, hrs46, hps46⟩ := hq; cases hv
                    obtain ⟨Is46, Fs46, e47, hv, hrs46, hps46⟩ := hq
                    cases hv
                    have Gs46 := fm_ts Gs34 Fs46 (by decide) (by decide)
                    have JTD_s46 : TD s46 := TD_fm Fs46 (by decide) JTD_s34
                    have b48 : (0 : Int) ≤ iI s46 77 ∧ iI s46 77 ≤ 400 := Is46.1 77
                    have ws46_75 : iI s46 75 = iI s34 75 := fm_i Fs46 (by decide)
                    have b49 : (0 : Int) ≤ iI s46 79 ∧ iI s46 79 ≤ 9 := Is46.1 79
                    have ws46_91 : iI s46 91 = iI s34 91 := fm_i Fs46 (by decide)
                    show WS k 131 [(3, .int (Int32.ofInt (-1))), (2, .int (Int32.ofInt e8)), (1, .int (Int32.ofInt (iI s 77))), (0, .ref (A 179))] [.int (Int32.ofInt e47)] (Wd A dT s46) 0 0
                    refine z_goto X (t := 135) (show cdA 199 131 = some (.goto 4, 3, 0, 0, 0) from rfl) (by decide) ?_
                    refine z_store X (lv' := [(4, .int (Int32.ofInt e47)), (3, .int (Int32.ofInt (-1))), (2, .int (Int32.ofInt e8)), (1, .int (Int32.ofInt (iI s 77))), (0, .ref (A 179))]) (show cdA 199 135 = some (.istore 4, 2, 0, 0, 0) from rfl) (by decide) (fun _ h => h) ?_
                    refine z_const X (show cdA 199 137 = some (.iconst 0, 1, 0, 0, 0) from rfl) ?_
                    refine z_store X (lv' := [(5, .int (Int32.ofInt 0)), (4, .int (Int32.ofInt e47)), (3, .int (Int32.ofInt (-1))), (2, .int (Int32.ofInt e8)), (1, .int (Int32.ofInt (iI s 77))), (0, .ref (A 179))]) (show cdA 199 138 = some (.istore 5, 2, 0, 0, 0) from rfl) (by decide) (fun _ h => h) ?_
                    refine WS_lv (lv := [(0, .ref (A 179)), (1, .int (Int32.ofInt (iI s 77))), (3, .int (Int32.ofInt (-1))), (4, .int (Int32.ofInt e47)), (5, .int (Int32.ofInt 0))]) (List.forall_mem_cons.mpr ⟨(List.Mem.tail _ (List.Mem.tail _ (List.Mem.tail _ (List.Mem.tail _ (List.Mem.tail _ (List.Mem.head _)))))), (List.forall_mem_cons.mpr ⟨(List.Mem.tail _ (List.Mem.tail _ (List.Mem.tail _ (List.Mem.tail _ (List.Mem.head _))))), (List.forall_mem_cons.mpr ⟨(List.Mem.tail _ (List.Mem.tail _ (List.Mem.head _))), (List.forall_mem_cons.mpr ⟨(List.Mem.tail _ (List.Mem.head _)), (List.forall_mem_cons.mpr ⟨(List.Mem.head _), (fun q h => absurd h List.not_mem_nil)⟩)⟩)⟩)⟩)⟩) ?_
                    refine L140 ((e47 - 0 : Int)).toNat s46 (iI s 77) (-1) e47 0 Is46 Gs46 JTD_s46 (by omega) (by omega) ?_
                    intro s50 x51 x52 x53 x54 Is50 Fs50 JTD_s50 hs50
                    have b55 : (0 : Int) ≤ iI s50 77 ∧ iI s50 77 ≤ 400 := Is50.1 77
                    have b56 : (0 : Int) ≤ iI s50 75 ∧ iI s50 75 ≤ 200 := Is50.1 75
                    have b57 : (0 : Int) ≤ iI s50 79 ∧ iI s50 79 ≤ 9 := Is50.1 79
                    have b58 : (0 : Int) ≤ iI s50 91 ∧ iI s50 91 ≤ 24 := Is50.1 91
                    exact w_vret X.1 q hRt (ax_d X (show cdA 199 245 = some (.return_, 1, 0, 0, 0) from rfl)) (Nat.zero_le _) (Nat.zero_le _) ⟨_, rfl, Is50, Fs50, JTD_s50, rfl, by omega⟩
              ·
                refine z_aload_n X (x := A 179) (show cdA 199 81 = some (.aload_n 0, 1, 0, 0, 0) from rfl) (List.Mem.tail _ (List.Mem.tail _ (List.Mem.tail _ (List.Mem.head _)))) ?_
                refine z_const X (show cdA 199 82 = some (.iconst 1, 1, 0, 0, 0) from rfl) ?_
                refine z_aload_n X (x := A 179) (show cdA 199 83 = some (.aload_n 0, 1, 0, 0, 0) from rfl) (List.Mem.tail _ (List.Mem.tail _ (List.Mem.tail _ (List.Mem.head _)))) ?_
                refine z_getI X 179 (show cdA 199 84 = some (.getfield 184, 3, 12, 4, 0) from rfl) (by decide) rfl rfl ?_
                have b59 : (0 : Int) ≤ iI s7 77 ∧ iI s7 77 ≤ 400 := Is7.1 77
                refine z_callV X 179 (rm := rmN 194) (As := [.int (Int32.ofInt 1), .int (Int32.ofInt (iI s7 77))]) (st := []) (show cdA 199 87 = some (.invokevirtual 204, 3, 194, 0, 0) from rfl) rfl (by decide) rfl (by rw [E.1, E.2.1, E.2.2.1]; exact k_wrong G Is7 (by omega) (by omega)) ⟨by rw [E.2.2.2]; exact (show (rmN 194).frames + 1 ≤ (rmN 199).frames by decide), by rw [E.2.2.2]; exact (show 8 + (mNL (miB 194) + 11) + (rmN 194).locals ≤ (rmN 199).locals by decide), by rw [E.2.2.2]; exact (show 0 + (rmN 194).cells ≤ (rmN 199).cells by decide), by rw [E.2.2.2]; exact (show 0 + (rmN 194).slots ≤ (rmN 199).slots by decide)⟩ (Nat.le_of_ble_eq_true rfl) (fun vv s60 hq => ?_) (fun ee s60 hq => ?_)
                rotate_left
                · obtain ⟨Is60, Fs60, hv, hps60⟩ := hq; cases hv
                obtain ⟨Is60, Fs60, hv, hps60⟩ := hq
                cases hv
                have Gs60 := fm_ts Gs7 Fs60 (by decide) (by decide)
                have JTD_s60 : TD s60 := TD_fm Fs60 (by decide) JTD_s7
                have ws60_77 : iI s60 77 = iI s7 77 := fm_i Fs60 (by decide)
                have ws60_75 : iI s60 75 = iI s7 75 := fm_i Fs60 (by decide)
                have b62 : (0 : Int) ≤ iI s60 79 ∧ iI s60 79 ≤ 9 := Is60.1 79
                have ws60_91 : iI s60 91 = iI s7 91 := fm_i Fs60 (by decide)
                show WS k 90 [(3, .int (Int32.ofInt (-1))), (2, .int (Int32.ofInt e8)), (1, .int (Int32.ofInt (iI s 77))), (0, .ref (A 179))] [] (Wd A dT s60) 0 0
                exact w_vret X.1 q hRt (ax_d X (show cdA 199 90 = some (.return_, 1, 0, 0, 0) from rfl)) (Nat.zero_le _) (Nat.zero_le _) ⟨_, rfl, Is60, Gs60, JTD_s60, rfl, by omega⟩
            ·
              refine z_const X (show cdA 199 70 = some (.iconst 5, 1, 0, 0, 0) from rfl) ?_
              refine z_goto X (t := 75) (show cdA 199 71 = some (.goto 4, 3, 0, 0, 0) from rfl) (by decide) ?_
              refine z_store_n X (lv' := [(3, .int (Int32.ofInt 5)), (2, .int (Int32.ofInt e8)), (1, .int (Int32.ofInt (iI s 77))), (0, .ref (A 179))]) (show cdA 199 75 = some (.istore_n 3, 1, 0, 0, 0) from rfl) (by decide) (fun _ h => h) ?_
              refine z_load_n X (x := 5) (show cdA 199 76 = some (.iload_n 3, 1, 0, 0, 0) from rfl) (List.Mem.head _) ?_
              refine z_const X (show cdA 199 77 = some (.iconst (-1), 1, 0, 0, 0) from rfl) ?_
              refine z_icmp_ne X (t := 91) (show cdA 199 78 = some (.if_icmp .ne 13, 3, 1, 0, 0) from rfl) (by decide) ⟨by omega, by omega⟩ ⟨by omega, by omega⟩ (fun g63 => ?_) (fun g63 => ?_)
              ·
                refine z_aload_n X (x := A 179) (show cdA 199 91 = some (.aload_n 0, 1, 0, 0, 0) from rfl) (List.Mem.tail _ (List.Mem.tail _ (List.Mem.tail _ (List.Mem.head _)))) ?_
                refine w_dup X.1 (ax_d X (show cdA 199 92 = some (.dup, 1, 0, 0, 0) from rfl)) rfl ?_
                refine z_getI X 179 (show cdA 199 93 = some (.getfield 184, 3, 12, 4, 0) from rfl) (by decide) rfl rfl ?_
                have b64 : (0 : Int) ≤ iI s7 77 ∧ iI s7 77 ≤ 400 := Is7.1 77
                refine z_const X (show cdA 199 96 = some (.iconst 1, 1, 0, 0, 0) from rfl) ?_
                refine z_add X (show cdA 199 97 = some (.iadd, 1, 0, 0, 0) from rfl) ?_
                refine s_putI X 179 (show cdA 199 98 = some (.putfield 184, 3, 12, 4, 0) from rfl) (by decide) rfl rfl (by decide) rfl rfl rfl ?_
                obtain ⟨s65, hs65⟩ : ∃ x0, x0 = uI s7 77 (Int32.ofInt ((iI s7 77) + 1)) := ⟨_, rfl⟩
                rw [← hs65]
                have Is65 : Bd s65 := by rw [hs65]; exact bd_I Is7 (show (0 : Int) ≤ ((iI s7 77) + 1) ∧ ((iI s7 77) + 1) ≤ 400 by omega) ⟨by omega, by omega⟩
                have Fs65 := fm_I (x := Int32.ofInt ((iI s7 77) + 1)) Gs7 (show 77 ∈ _ by decide)
                rw [← hs65] at Fs65
                have vs65 : iI s65 77 = ((iI s7 77) + 1) := by rw [hs65]; exact iI_u ⟨by omega, by omega⟩
                have ws65_75 : iI s65 75 = iI s7 75 := by rw [hs65]; rfl
                have ws65_79 : iI s65 79 = iI s7 79 := by rw [hs65]; rfl
                have ws65_91 : iI s65 91 = iI s7 91 := by rw [hs65]; rfl
                have fs65 : Fm [77] [] s7 s65 := by rw [hs65]; exact fm_I (fm_rf _ _ _) (show 77 ∈ _ by decide)
                have JTD_s65 : TD s65 := TD_fm fs65 (by decide) JTD_s7
                refine z_aload_n X (x := A 179) (show cdA 199 101 = some (.aload_n 0, 1, 0, 0, 0) from rfl) (List.Mem.tail _ (List.Mem.tail _ (List.Mem.tail _ (List.Mem.head _)))) ?_
                refine z_callV X 179 (rm := rmN 193) (As := []) (st := []) (show cdA 199 102 = some (.invokevirtual 197, 3, 193, 0, 0) from rfl) rfl (by decide) rfl (by rw [E.1, E.2.1, E.2.2.1]; exact k_blanks G Is65 (by omega)) ⟨by rw [E.2.2.2]; exact (show (rmN 193).frames + 1 ≤ (rmN 199).frames by decide), by rw [E.2.2.2]; exact (show 8 + (mNL (miB 193) + 11) + (rmN 193).locals ≤ (rmN 199).locals by decide), by rw [E.2.2.2]; exact (show 0 + (rmN 193).cells ≤ (rmN 199).cells by decide), by rw [E.2.2.2]; exact (show 0 + (rmN 193).slots ≤ (rmN 199).slots by decide)⟩ (Nat.le_of_ble_eq_true rfl) (fun vv s66 hq => ?_) (fun ee s66 hq => ?_)
                rotate_left
                · obtain ⟨Is66, Fs66, hv, hps66⟩ := hq; cases hv
                obtain ⟨Is66, Fs66, hv, hps66⟩ := hq
                cases hv
                have Gs66 := fm_ts Fs65 Fs66 (by decide) (by decide)
                have JTD_s66 : TD s66 := TD_fm Fs66 (by decide) JTD_s65
                have b68 : (0 : Int) ≤ iI s66 77 ∧ iI s66 77 ≤ 400 := Is66.1 77
                have ws66_75 : iI s66 75 = iI s65 75 := fm_i Fs66 (by decide)
                have ws66_79 : iI s66 79 = iI s65 79 := fm_i Fs66 (by decide)
                have ws66_91 : iI s66 91 = iI s65 91 := fm_i Fs66 (by decide)
                show WS k 105 [(3, .int (Int32.ofInt 5)), (2, .int (Int32.ofInt e8)), (1, .int (Int32.ofInt (iI s 77))), (0, .ref (A 179))] [] (Wd A dT s66) 0 0
                refine z_load_n X (x := 5) (show cdA 199 105 = some (.iload_n 3, 1, 0, 0, 0) from rfl) (List.Mem.head _) ?_
                refine z_const X (show cdA 199 106 = some (.iconst 4, 1, 0, 0, 0) from rfl) ?_
                refine z_icmp_ge X (t := 134) (show cdA 199 107 = some (.if_icmp .ge 27, 3, 3, 0, 0) from rfl) (by decide) ⟨by omega, by omega⟩ ⟨by omega, by omega⟩ (fun g69 => ?_) (fun g69 => ?_)
                ·
                  refine z_const X (show cdA 199 134 = some (.iconst 1, 1, 0, 0, 0) from rfl) ?_
                  refine z_store X (lv' := [(4, .int (Int32.ofInt 1)), (3, .int (Int32.ofInt 5)), (2, .int (Int32.ofInt e8)), (1, .int (Int32.ofInt (iI s 77))), (0, .ref (A 179))]) (show cdA 199 135 = some (.istore 4, 2, 0, 0, 0) from rfl) (by decide) (fun _ h => h) ?_
                  refine z_const X (show cdA 199 137 = some (.iconst 0, 1, 0, 0, 0) from rfl) ?_
                  refine z_store X (lv' := [(5, .int (Int32.ofInt 0)), (4, .int (Int32.ofInt 1)), (3, .int (Int32.ofInt 5)), (2, .int (Int32.ofInt e8)), (1, .int (Int32.ofInt (iI s 77))), (0, .ref (A 179))]) (show cdA 199 138 = some (.istore 5, 2, 0, 0, 0) from rfl) (by decide) (fun _ h => h) ?_
                  refine WS_lv (lv := [(0, .ref (A 179)), (1, .int (Int32.ofInt (iI s 77))), (3, .int (Int32.ofInt 5)), (4, .int (Int32.ofInt 1)), (5, .int (Int32.ofInt 0))]) (List.forall_mem_cons.mpr ⟨(List.Mem.tail _ (List.Mem.tail _ (List.Mem.tail _ (List.Mem.tail _ (List.Mem.tail _ (List.Mem.head _)))))), (List.forall_mem_cons.mpr ⟨(List.Mem.tail _ (List.Mem.tail _ (List.Mem.tail _ (List.Mem.tail _ (List.Mem.head _))))), (List.forall_mem_cons.mpr ⟨(List.Mem.tail _ (List.Mem.tail _ (List.Mem.head _))), (List.forall_mem_cons.mpr ⟨(List.Mem.tail _ (List.Mem.head _)), (List.forall_mem_cons.mpr ⟨(List.Mem.head _), (fun q h => absurd h List.not_mem_nil)⟩)⟩)⟩)⟩)⟩) ?_
                  refine L140 ((1 - 0 : Int)).toNat s66 (iI s 77) 5 1 0 Is66 Gs66 JTD_s66 (by omega) (by omega) ?_
                  intro s70 x71 x72 x73 x74 Is70 Fs70 JTD_s70 hs70
                  have b75 : (0 : Int) ≤ iI s70 77 ∧ iI s70 77 ≤ 400 := Is70.1 77
                  have b76 : (0 : Int) ≤ iI s70 75 ∧ iI s70 75 ≤ 200 := Is70.1 75
                  have b77 : (0 : Int) ≤ iI s70 79 ∧ iI s70 79 ≤ 9 := Is70.1 79
                  have b78 : (0 : Int) ≤ iI s70 91 ∧ iI s70 91 ≤ 24 := Is70.1 91
                  exact w_vret X.1 q hRt (ax_d X (show cdA 199 245 = some (.return_, 1, 0, 0, 0) from rfl)) (Nat.zero_le _) (Nat.zero_le _) ⟨_, rfl, Is70, Fs70, JTD_s70, rfl, by omega⟩
                ·
                  refine z_aload_n X (x := A 179) (show cdA 199 110 = some (.aload_n 0, 1, 0, 0, 0) from rfl) (List.Mem.tail _ (List.Mem.tail _ (List.Mem.tail _ (List.Mem.head _)))) ?_
                  refine z_aload_n X (x := A 179) (show cdA 199 111 = some (.aload_n 0, 1, 0, 0, 0) from rfl) (List.Mem.tail _ (List.Mem.tail _ (List.Mem.tail _ (List.Mem.head _)))) ?_
                  refine z_getI X 179 (show cdA 199 112 = some (.getfield 184, 3, 12, 4, 0) from rfl) (by decide) rfl rfl ?_
                  have b79 : (0 : Int) ≤ iI s66 77 ∧ iI s66 77 ≤ 400 := Is66.1 77
                  refine z_callV X 179 (rm := rmN 192) (As := [.int (Int32.ofInt (iI s66 77))]) (st := []) (show cdA 199 115 = some (.invokevirtual 187, 3, 192, 0, 0) from rfl) rfl (by decide) rfl (by rw [E.1, E.2.1, E.2.2.1]; exact k_byteAt G Is66 (by omega)) ⟨by rw [E.2.2.2]; exact (show (rmN 192).frames + 1 ≤ (rmN 199).frames by decide), by rw [E.2.2.2]; exact (show 8 + (mNL (miB 192) + 11) + (rmN 192).locals ≤ (rmN 199).locals by decide), by rw [E.2.2.2]; exact (show 0 + (rmN 192).cells ≤ (rmN 199).cells by decide), by rw [E.2.2.2]; exact (show 0 + (rmN 192).slots ≤ (rmN 199).slots by decide)⟩ (Nat.le_of_ble_eq_true rfl) (fun vv s80 hq => ?_) (fun ee s80 hq => ?_)
                  rotate_left
                  · obtain ⟨Is80, Fs80, e81, hv, hrs80, hps80⟩ := hq; cases hv
                  obtain ⟨Is80, Fs80, e81, hv, hrs80, hps80⟩ := hq
                  cases hv
                  have Gs80 := fm_ts Gs66 Fs80 (by decide) (by decide)
                  have JTD_s80 : TD s80 := TD_fm Fs80 (by decide) JTD_s66
                  have ws80_77 : iI s80 77 = iI s66 77 := fm_i Fs80 (by decide)
                  have ws80_75 : iI s80 75 = iI s66 75 := fm_i Fs80 (by decide)
                  have ws80_79 : iI s80 79 = iI s66 79 := fm_i Fs80 (by decide)
                  have ws80_91 : iI s80 91 = iI s66 91 := fm_i Fs80 (by decide)
                  show WS k 118 [(3, .int (Int32.ofInt 5)), (2, .int (Int32.ofInt e8)), (1, .int (Int32.ofInt (iI s 77))), (0, .ref (A 179))] [.int (Int32.ofInt e81)] (Wd A dT s80) 0 0
                  refine z_callS X (rm := rmN 195) (As := [.int (Int32.ofInt e81)]) (st := []) (show cdA 199 118 = some (.invokestatic 200, 3, 195, 1, 0) from rfl) rfl (by rw [E.1, E.2.1, E.2.2.1]; exact k_isDigit G Is80 (by omega)) ⟨by rw [E.2.2.2]; exact (show (rmN 195).frames + 1 ≤ (rmN 199).frames by decide), by rw [E.2.2.2]; exact (show 8 + (mNL (miB 195) + 11) + (rmN 195).locals ≤ (rmN 199).locals by decide), by rw [E.2.2.2]; exact (show 0 + (rmN 195).cells ≤ (rmN 199).cells by decide), by rw [E.2.2.2]; exact (show 0 + (rmN 195).slots ≤ (rmN 199).slots by decide)⟩ (Nat.le_of_ble_eq_true rfl) (fun vv s82 hq => ?_) (fun ee s82 hq => ?_)
                  rotate_left
                  · obtain ⟨Is82, Fs82, e83, hv, hrs82, hps82⟩ := hq; cases hv
                  obtain ⟨Is82, Fs82, e83, hv, hrs82, hps82⟩ := hq
                  cases hv
                  have Gs82 := fm_ts Gs80 Fs82 (by decide) (by decide)
                  have JTD_s82 : TD s82 := TD_fm Fs82 (by decide) JTD_s80
                  have ws82_77 : iI s82 77 = iI s80 77 := fm_i Fs82 (by decide)
                  have ws82_75 : iI s82 75 = iI s80 75 := fm_i Fs82 (by decide)
                  have ws82_79 : iI s82 79 = iI s80 79 := fm_i Fs82 (by decide)
                  have ws82_91 : iI s82 91 = iI s80 91 := fm_i Fs82 (by decide)
                  show WS k 121 [(3, .int (Int32.ofInt 5)), (2, .int (Int32.ofInt e8)), (1, .int (Int32.ofInt (iI s 77))), (0, .ref (A 179))] [.int (Int32.ofInt e83)] (Wd A dT s82) 0 0
                  refine z_if_eq X (t := 134) (show cdA 199 121 = some (.ifCond .eq 13, 3, 0, 0, 0) from rfl) (by decide) ⟨by omega, by omega⟩ (fun g84 => ?_) (fun g84 => ?_)
                  ·
                    refine z_const X (show cdA 199 134 = some (.iconst 1, 1, 0, 0, 0) from rfl) ?_
                    refine z_store X (lv' := [(4, .int (Int32.ofInt 1)), (3, .int (Int32.ofInt 5)), (2, .int (Int32.ofInt e8)), (1, .int (Int32.ofInt (iI s 77))), (0, .ref (A 179))]) (show cdA 199 135 = some (.istore 4, 2, 0, 0, 0) from rfl) (by decide) (fun _ h => h) ?_
                    refine z_const X (show cdA 199 137 = some (.iconst 0, 1, 0, 0, 0) from rfl) ?_
                    refine z_store X (lv' := [(5, .int (Int32.ofInt 0)), (4, .int (Int32.ofInt 1)), (3, .int (Int32.ofInt 5)), (2, .int (Int32.ofInt e8)), (1, .int (Int32.ofInt (iI s 77))), (0, .ref (A 179))]) (show cdA 199 138 = some (.istore 5, 2, 0, 0, 0) from rfl) (by decide) (fun _ h => h) ?_
                    refine WS_lv (lv := [(0, .ref (A 179)), (1, .int (Int32.ofInt (iI s 77))), (3, .int (Int32.ofInt 5)), (4, .int (Int32.ofInt 1)), (5, .int (Int32.ofInt 0))]) (List.forall_mem_cons.mpr ⟨(List.Mem.tail _ (List.Mem.tail _ (List.Mem.tail _ (List.Mem.tail _ (List.Mem.tail _ (List.Mem.head _)))))), (List.forall_mem_cons.mpr ⟨(List.Mem.tail _ (List.Mem.tail _ (List.Mem.tail _ (List.Mem.tail _ (List.Mem.head _))))), (List.forall_mem_cons.mpr ⟨(List.Mem.tail _ (List.Mem.tail _ (List.Mem.head _))), (List.forall_mem_cons.mpr ⟨(List.Mem.tail _ (List.Mem.head _)), (List.forall_mem_cons.mpr ⟨(List.Mem.head _), (fun q h => absurd h List.not_mem_nil)⟩)⟩)⟩)⟩)⟩) ?_
                    refine L140 ((1 - 0 : Int)).toNat s82 (iI s 77) 5 1 0 Is82 Gs82 JTD_s82 (by omega) (by omega) ?_
                    intro s85 x86 x87 x88 x89 Is85 Fs85 JTD_s85 hs85
                    have b90 : (0 : Int) ≤ iI s85 77 ∧ iI s85 77 ≤ 400 := Is85.1 77
                    have b91 : (0 : Int) ≤ iI s85 75 ∧ iI s85 75 ≤ 200 := Is85.1 75
                    have b92 : (0 : Int) ≤ iI s85 79 ∧ iI s85 79 ≤ 9 := Is85.1 79
                    have b93 : (0 : Int) ≤ iI s85 91 ∧ iI s85 91 ≤ 24 := Is85.1 91
                    exact w_vret X.1 q hRt (ax_d X (show cdA 199 245 = some (.return_, 1, 0, 0, 0) from rfl)) (Nat.zero_le _) (Nat.zero_le _) ⟨_, rfl, Is85, Fs85, JTD_s85, rfl, by omega⟩
                  ·
                    refine z_aload_n X (x := A 179) (show cdA 199 124 = some (.aload_n 0, 1, 0, 0, 0) from rfl) (List.Mem.tail _ (List.Mem.tail _ (List.Mem.tail _ (List.Mem.head _)))) ?_
                    refine z_const X (show cdA 199 125 = some (.iconst 1, 1, 0, 0, 0) from rfl) ?_
                    refine z_bipush X (show cdA 199 126 = some (.bipush 7, 2, 0, 0, 7) from rfl) ?_
                    refine z_callV X 179 (rm := rmN 196) (As := [.int (Int32.ofInt 1), .int (Int32.ofInt 7)]) (st := []) (show cdA 199 128 = some (.invokevirtual 219, 3, 196, 0, 0) from rfl) rfl (by decide) rfl (by rw [E.1, E.2.1, E.2.2.1]; exact k_number G Is82 (by omega) (by omega) (by omega)) ⟨by rw [E.2.2.2]; exact (show (rmN 196).frames + 1 ≤ (rmN 199).frames by decide), by rw [E.2.2.2]; exact (show 8 + (mNL (miB 196) + 11) + (rmN 196).locals ≤ (rmN 199).locals by decide), by rw [E.2.2.2]; exact (show 0 + (rmN 196).cells ≤ (rmN 199).cells by decide), by rw [E.2.2.2]; exact (show 0 + (rmN 196).slots ≤ (rmN 199).slots by decide)⟩ (Nat.le_of_ble_eq_true rfl) (fun vv s94 hq => ?_) (fun ee s94 hq => ?_)
                    rotate_left
                    · obtain ⟨Is94, Fs94, e95, hv, hrs94, hps94⟩ := hq; cases hv
                    obtain ⟨Is94, Fs94, e95, hv, hrs94, hps94⟩ := hq
                    cases hv
                    have Gs94 := fm_ts Gs82 Fs94 (by decide) (by decide)
                    have JTD_s94 : TD s94 := TD_fm Fs94 (by decide) JTD_s82
                    have b96 : (0 : Int) ≤ iI s94 77 ∧ iI s94 77 ≤ 400 := Is94.1 77
                    have ws94_75 : iI s94 75 = iI s82 75 := fm_i Fs94 (by decide)
                    have b97 : (0 : Int) ≤ iI s94 79 ∧ iI s94 79 ≤ 9 := Is94.1 79
                    have ws94_91 : iI s94 91 = iI s82 91 := fm_i Fs94 (by decide)
                    show WS k 131 [(3, .int (Int32.ofInt 5)), (2, .int (Int32.ofInt e8)), (1, .int (Int32.ofInt (iI s 77))), (0, .ref (A 179))] [.int (Int32.ofInt e95)] (Wd A dT s94) 0 0
                    refine z_goto X (t := 135) (show cdA 199 131 = some (.goto 4, 3, 0, 0, 0) from rfl) (by decide) ?_
                    refine z_store X (lv' := [(4, .int (Int32.ofInt e95)), (3, .int (Int32.ofInt 5)), (2, .int (Int32.ofInt e8)), (1, .int (Int32.ofInt (iI s 77))), (0, .ref (A 179))]) (show cdA 199 135 = some (.istore 4, 2, 0, 0, 0) from rfl) (by decide) (fun _ h => h) ?_
                    refine z_const X (show cdA 199 137 = some (.iconst 0, 1, 0, 0, 0) from rfl) ?_
                    refine z_store X (lv' := [(5, .int (Int32.ofInt 0)), (4, .int (Int32.ofInt e95)), (3, .int (Int32.ofInt 5)), (2, .int (Int32.ofInt e8)), (1, .int (Int32.ofInt (iI s 77))), (0, .ref (A 179))]) (show cdA 199 138 = some (.istore 5, 2, 0, 0, 0) from rfl) (by decide) (fun _ h => h) ?_
                    refine WS_lv (lv := [(0, .ref (A 179)), (1, .int (Int32.ofInt (iI s 77))), (3, .int (Int32.ofInt 5)), (4, .int (Int32.ofInt e95)), (5, .int (Int32.ofInt 0))]) (List.forall_mem_cons.mpr ⟨(List.Mem.tail _ (List.Mem.tail _ (List.Mem.tail _ (List.Mem.tail _ (List.Mem.tail _ (List.Mem.head _)))))), (List.forall_mem_cons.mpr ⟨(List.Mem.tail _ (List.Mem.tail _ (List.Mem.tail _ (List.Mem.tail _ (List.Mem.head _))))), (List.forall_mem_cons.mpr ⟨(List.Mem.tail _ (List.Mem.tail _ (List.Mem.head _))), (List.forall_mem_cons.mpr ⟨(List.Mem.tail _ (List.Mem.head _)), (List.forall_mem_cons.mpr ⟨(List.Mem.head _), (fun q h => absurd h List.not_mem_nil)⟩)⟩)⟩)⟩)⟩) ?_
                    refine L140 ((e95 - 0 : Int)).toNat s94 (iI s 77) 5 e95 0 Is94 Gs94 JTD_s94 (by omega) (by omega) ?_
                    intro s98 x99 x100 x101 x102 Is98 Fs98 JTD_s98 hs98
                    have b103 : (0 : Int) ≤ iI s98 77 ∧ iI s98 77 ≤ 400 := Is98.1 77
                    have b104 : (0 : Int) ≤ iI s98 75 ∧ iI s98 75 ≤ 200 := Is98.1 75
                    have b105 : (0 : Int) ≤ iI s98 79 ∧ iI s98 79 ≤ 9 := Is98.1 79
                    have b106 : (0 : Int) ≤ iI s98 91 ∧ iI s98 91 ≤ 24 := Is98.1 91
                    exact w_vret X.1 q hRt (ax_d X (show cdA 199 245 = some (.return_, 1, 0, 0, 0) from rfl)) (Nat.zero_le _) (Nat.zero_le _) ⟨_, rfl, Is98, Fs98, JTD_s98, rfl, by omega⟩
              ·
                refine z_aload_n X (x := A 179) (show cdA 199 81 = some (.aload_n 0, 1, 0, 0, 0) from rfl) (List.Mem.tail _ (List.Mem.tail _ (List.Mem.tail _ (List.Mem.head _)))) ?_
                refine z_const X (show cdA 199 82 = some (.iconst 1, 1, 0, 0, 0) from rfl) ?_
                refine z_aload_n X (x := A 179) (show cdA 199 83 = some (.aload_n 0, 1, 0, 0, 0) from rfl) (List.Mem.tail _ (List.Mem.tail _ (List.Mem.tail _ (List.Mem.head _)))) ?_
                refine z_getI X 179 (show cdA 199 84 = some (.getfield 184, 3, 12, 4, 0) from rfl) (by decide) rfl rfl ?_
                have b107 : (0 : Int) ≤ iI s7 77 ∧ iI s7 77 ≤ 400 := Is7.1 77
                refine z_callV X 179 (rm := rmN 194) (As := [.int (Int32.ofInt 1), .int (Int32.ofInt (iI s7 77))]) (st := []) (show cdA 199 87 = some (.invokevirtual 204, 3, 194, 0, 0) from rfl) rfl (by decide) rfl (by rw [E.1, E.2.1, E.2.2.1]; exact k_wrong G Is7 (by omega) (by omega)) ⟨by rw [E.2.2.2]; exact (show (rmN 194).frames + 1 ≤ (rmN 199).frames by decide), by rw [E.2.2.2]; exact (show 8 + (mNL (miB 194) + 11) + (rmN 194).locals ≤ (rmN 199).locals by decide), by rw [E.2.2.2]; exact (show 0 + (rmN 194).cells ≤ (rmN 199).cells by decide), by rw [E.2.2.2]; exact (show 0 + (rmN 194).slots ≤ (rmN 199).slots by decide)⟩ (Nat.le_of_ble_eq_true rfl) (fun vv s108 hq => ?_) (fun ee s108 hq => ?_)
                rotate_left
                · obtain ⟨Is108, Fs108, hv, hps108⟩ := hq; cases hv
                obtain ⟨Is108, Fs108, hv, hps108⟩ := hq
                cases hv
                have Gs108 := fm_ts Gs7 Fs108 (by decide) (by decide)
                have JTD_s108 : TD s108 := TD_fm Fs108 (by decide) JTD_s7
                have ws108_77 : iI s108 77 = iI s7 77 := fm_i Fs108 (by decide)
                have ws108_75 : iI s108 75 = iI s7 75 := fm_i Fs108 (by decide)
                have b110 : (0 : Int) ≤ iI s108 79 ∧ iI s108 79 ≤ 9 := Is108.1 79
                have ws108_91 : iI s108 91 = iI s7 91 := fm_i Fs108 (by decide)
                show WS k 90 [(3, .int (Int32.ofInt 5)), (2, .int (Int32.ofInt e8)), (1, .int (Int32.ofInt (iI s 77))), (0, .ref (A 179))] [] (Wd A dT s108) 0 0
                exact w_vret X.1 q hRt (ax_d X (show cdA 199 90 = some (.return_, 1, 0, 0, 0) from rfl)) (Nat.zero_le _) (Nat.zero_le _) ⟨_, rfl, Is108, Gs108, JTD_s108, rfl, by omega⟩
          ·
            refine z_const X (show cdA 199 60 = some (.iconst 4, 1, 0, 0, 0) from rfl) ?_
            refine z_goto X (t := 75) (show cdA 199 61 = some (.goto 14, 3, 0, 0, 0) from rfl) (by decide) ?_
            refine z_store_n X (lv' := [(3, .int (Int32.ofInt 4)), (2, .int (Int32.ofInt e8)), (1, .int (Int32.ofInt (iI s 77))), (0, .ref (A 179))]) (show cdA 199 75 = some (.istore_n 3, 1, 0, 0, 0) from rfl) (by decide) (fun _ h => h) ?_
            refine z_load_n X (x := 4) (show cdA 199 76 = some (.iload_n 3, 1, 0, 0, 0) from rfl) (List.Mem.head _) ?_
            refine z_const X (show cdA 199 77 = some (.iconst (-1), 1, 0, 0, 0) from rfl) ?_
            refine z_icmp_ne X (t := 91) (show cdA 199 78 = some (.if_icmp .ne 13, 3, 1, 0, 0) from rfl) (by decide) ⟨by omega, by omega⟩ ⟨by omega, by omega⟩ (fun g111 => ?_) (fun g111 => ?_)
            ·
              refine z_aload_n X (x := A 179) (show cdA 199 91 = some (.aload_n 0, 1, 0, 0, 0) from rfl) (List.Mem.tail _ (List.Mem.tail _ (List.Mem.tail _ (List.Mem.head _)))) ?_
              refine w_dup X.1 (ax_d X (show cdA 199 92 = some (.dup, 1, 0, 0, 0) from rfl)) rfl ?_
              refine z_getI X 179 (show cdA 199 93 = some (.getfield 184, 3, 12, 4, 0) from rfl) (by decide) rfl rfl ?_
              have b112 : (0 : Int) ≤ iI s7 77 ∧ iI s7 77 ≤ 400 := Is7.1 77
              refine z_const X (show cdA 199 96 = some (.iconst 1, 1, 0, 0, 0) from rfl) ?_
              refine z_add X (show cdA 199 97 = some (.iadd, 1, 0, 0, 0) from rfl) ?_
              refine s_putI X 179 (show cdA 199 98 = some (.putfield 184, 3, 12, 4, 0) from rfl) (by decide) rfl rfl (by decide) rfl rfl rfl ?_
              obtain ⟨s113, hs113⟩ : ∃ x0, x0 = uI s7 77 (Int32.ofInt ((iI s7 77) + 1)) := ⟨_, rfl⟩
              rw [← hs113]
              have Is113 : Bd s113 := by rw [hs113]; exact bd_I Is7 (show (0 : Int) ≤ ((iI s7 77) + 1) ∧ ((iI s7 77) + 1) ≤ 400 by omega) ⟨by omega, by omega⟩
              have Fs113 := fm_I (x := Int32.ofInt ((iI s7 77) + 1)) Gs7 (show 77 ∈ _ by decide)
              rw [← hs113] at Fs113
              have vs113 : iI s113 77 = ((iI s7 77) + 1) := by rw [hs113]; exact iI_u ⟨by omega, by omega⟩
              have ws113_75 : iI s113 75 = iI s7 75 := by rw [hs113]; rfl
              have ws113_79 : iI s113 79 = iI s7 79 := by rw [hs113]; rfl
              have ws113_91 : iI s113 91 = iI s7 91 := by rw [hs113]; rfl
              have fs113 : Fm [77] [] s7 s113 := by rw [hs113]; exact fm_I (fm_rf _ _ _) (show 77 ∈ _ by decide)
              have JTD_s113 : TD s113 := TD_fm fs113 (by decide) JTD_s7
              refine z_aload_n X (x := A 179) (show cdA 199 101 = some (.aload_n 0, 1, 0, 0, 0) from rfl) (List.Mem.tail _ (List.Mem.tail _ (List.Mem.tail _ (List.Mem.head _)))) ?_
              refine z_callV X 179 (rm := rmN 193) (As := []) (st := []) (show cdA 199 102 = some (.invokevirtual 197, 3, 193, 0, 0) from rfl) rfl (by decide) rfl (by rw [E.1, E.2.1, E.2.2.1]; exact k_blanks G Is113 (by omega)) ⟨by rw [E.2.2.2]; exact (show (rmN 193).frames + 1 ≤ (rmN 199).frames by decide), by rw [E.2.2.2]; exact (show 8 + (mNL (miB 193) + 11) + (rmN 193).locals ≤ (rmN 199).locals by decide), by rw [E.2.2.2]; exact (show 0 + (rmN 193).cells ≤ (rmN 199).cells by decide), by rw [E.2.2.2]; exact (show 0 + (rmN 193).slots ≤ (rmN 199).slots by decide)⟩ (Nat.le_of_ble_eq_true rfl) (fun vv s114 hq => ?_) (fun ee s114 hq => ?_)
              rotate_left
              · obtain ⟨Is114, Fs114, hv, hps114⟩ := hq; cases hv
              obtain ⟨Is114, Fs114, hv, hps114⟩ := hq
              cases hv
              have Gs114 := fm_ts Fs113 Fs114 (by decide) (by decide)
              have JTD_s114 : TD s114 := TD_fm Fs114 (by decide) JTD_s113
              have b116 : (0 : Int) ≤ iI s114 77 ∧ iI s114 77 ≤ 400 := Is114.1 77
              have ws114_75 : iI s114 75 = iI s113 75 := fm_i Fs114 (by decide)
              have ws114_79 : iI s114 79 = iI s113 79 := fm_i Fs114 (by decide)
              have ws114_91 : iI s114 91 = iI s113 91 := fm_i Fs114 (by decide)
              show WS k 105 [(3, .int (Int32.ofInt 4)), (2, .int (Int32.ofInt e8)), (1, .int (Int32.ofInt (iI s 77))), (0, .ref (A 179))] [] (Wd A dT s114) 0 0
              refine z_load_n X (x := 4) (show cdA 199 105 = some (.iload_n 3, 1, 0, 0, 0) from rfl) (List.Mem.head _) ?_
              refine z_const X (show cdA 199 106 = some (.iconst 4, 1, 0, 0, 0) from rfl) ?_
              refine z_icmp_ge X (t := 134) (show cdA 199 107 = some (.if_icmp .ge 27, 3, 3, 0, 0) from rfl) (by decide) ⟨by omega, by omega⟩ ⟨by omega, by omega⟩ (fun g117 => ?_) (fun g117 => ?_)
              ·
                refine z_const X (show cdA 199 134 = some (.iconst 1, 1, 0, 0, 0) from rfl) ?_
                refine z_store X (lv' := [(4, .int (Int32.ofInt 1)), (3, .int (Int32.ofInt 4)), (2, .int (Int32.ofInt e8)), (1, .int (Int32.ofInt (iI s 77))), (0, .ref (A 179))]) (show cdA 199 135 = some (.istore 4, 2, 0, 0, 0) from rfl) (by decide) (fun _ h => h) ?_
                refine z_const X (show cdA 199 137 = some (.iconst 0, 1, 0, 0, 0) from rfl) ?_
                refine z_store X (lv' := [(5, .int (Int32.ofInt 0)), (4, .int (Int32.ofInt 1)), (3, .int (Int32.ofInt 4)), (2, .int (Int32.ofInt e8)), (1, .int (Int32.ofInt (iI s 77))), (0, .ref (A 179))]) (show cdA 199 138 = some (.istore 5, 2, 0, 0, 0) from rfl) (by decide) (fun _ h => h) ?_
                refine WS_lv (lv := [(0, .ref (A 179)), (1, .int (Int32.ofInt (iI s 77))), (3, .int (Int32.ofInt 4)), (4, .int (Int32.ofInt 1)), (5, .int (Int32.ofInt 0))]) (List.forall_mem_cons.mpr ⟨(List.Mem.tail _ (List.Mem.tail _ (List.Mem.tail _ (List.Mem.tail _ (List.Mem.tail _ (List.Mem.head _)))))), (List.forall_mem_cons.mpr ⟨(List.Mem.tail _ (List.Mem.tail _ (List.Mem.tail _ (List.Mem.tail _ (List.Mem.head _))))), (List.forall_mem_cons.mpr ⟨(List.Mem.tail _ (List.Mem.tail _ (List.Mem.head _))), (List.forall_mem_cons.mpr ⟨(List.Mem.tail _ (List.Mem.head _)), (List.forall_mem_cons.mpr ⟨(List.Mem.head _), (fun q h => absurd h List.not_mem_nil)⟩)⟩)⟩)⟩)⟩) ?_
                refine L140 ((1 - 0 : Int)).toNat s114 (iI s 77) 4 1 0 Is114 Gs114 JTD_s114 (by omega) (by omega) ?_
                intro s118 x119 x120 x121 x122 Is118 Fs118 JTD_s118 hs118
                have b123 : (0 : Int) ≤ iI s118 77 ∧ iI s118 77 ≤ 400 := Is118.1 77
                have b124 : (0 : Int) ≤ iI s118 75 ∧ iI s118 75 ≤ 200 := Is118.1 75
                have b125 : (0 : Int) ≤ iI s118 79 ∧ iI s118 79 ≤ 9 := Is118.1 79
                have b126 : (0 : Int) ≤ iI s118 91 ∧ iI s118 91 ≤ 24 := Is118.1 91
                exact w_vret X.1 q hRt (ax_d X (show cdA 199 245 = some (.return_, 1, 0, 0, 0) from rfl)) (Nat.zero_le _) (Nat.zero_le _) ⟨_, rfl, Is118, Fs118, JTD_s118, rfl, by omega⟩
              ·
                refine z_aload_n X (x := A 179) (show cdA 199 110 = some (.aload_n 0, 1, 0, 0, 0) from rfl) (List.Mem.tail _ (List.Mem.tail _ (List.Mem.tail _ (List.Mem.head _)))) ?_
                refine z_aload_n X (x := A 179) (show cdA 199 111 = some (.aload_n 0, 1, 0, 0, 0) from rfl) (List.Mem.tail _ (List.Mem.tail _ (List.Mem.tail _ (List.Mem.head _)))) ?_
                refine z_getI X 179 (show cdA 199 112 = some (.getfield 184, 3, 12, 4, 0) from rfl) (by decide) rfl rfl ?_
                have b127 : (0 : Int) ≤ iI s114 77 ∧ iI s114 77 ≤ 400 := Is114.1 77
                refine z_callV X 179 (rm := rmN 192) (As := [.int (Int32.ofInt (iI s114 77))]) (st := []) (show cdA 199 115 = some (.invokevirtual 187, 3, 192, 0, 0) from rfl) rfl (by decide) rfl (by rw [E.1, E.2.1, E.2.2.1]; exact k_byteAt G Is114 (by omega)) ⟨by rw [E.2.2.2]; exact (show (rmN 192).frames + 1 ≤ (rmN 199).frames by decide), by rw [E.2.2.2]; exact (show 8 + (mNL (miB 192) + 11) + (rmN 192).locals ≤ (rmN 199).locals by decide), by rw [E.2.2.2]; exact (show 0 + (rmN 192).cells ≤ (rmN 199).cells by decide), by rw [E.2.2.2]; exact (show 0 + (rmN 192).slots ≤ (rmN 199).slots by decide)⟩ (Nat.le_of_ble_eq_true rfl) (fun vv s128 hq => ?_) (fun ee s128 hq => ?_)
                rotate_left
                · obtain ⟨Is128, Fs128, e129, hv, hrs128, hps128⟩ := hq; cases hv
                obtain ⟨Is128, Fs128, e129, hv, hrs128, hps128⟩ := hq
                cases hv
                have Gs128 := fm_ts Gs114 Fs128 (by decide) (by decide)
                have JTD_s128 : TD s128 := TD_fm Fs128 (by decide) JTD_s114
                have ws128_77 : iI s128 77 = iI s114 77 := fm_i Fs128 (by decide)
                have ws128_75 : iI s128 75 = iI s114 75 := fm_i Fs128 (by decide)
                have ws128_79 : iI s128 79 = iI s114 79 := fm_i Fs128 (by decide)
                have ws128_91 : iI s128 91 = iI s114 91 := fm_i Fs128 (by decide)
                show WS k 118 [(3, .int (Int32.ofInt 4)), (2, .int (Int32.ofInt e8)), (1, .int (Int32.ofInt (iI s 77))), (0, .ref (A 179))] [.int (Int32.ofInt e129)] (Wd A dT s128) 0 0
                refine z_callS X (rm := rmN 195) (As := [.int (Int32.ofInt e129)]) (st := []) (show cdA 199 118 = some (.invokestatic 200, 3, 195, 1, 0) from rfl) rfl (by rw [E.1, E.2.1, E.2.2.1]; exact k_isDigit G Is128 (by omega)) ⟨by rw [E.2.2.2]; exact (show (rmN 195).frames + 1 ≤ (rmN 199).frames by decide), by rw [E.2.2.2]; exact (show 8 + (mNL (miB 195) + 11) + (rmN 195).locals ≤ (rmN 199).locals by decide), by rw [E.2.2.2]; exact (show 0 + (rmN 195).cells ≤ (rmN 199).cells by decide), by rw [E.2.2.2]; exact (show 0 + (rmN 195).slots ≤ (rmN 199).slots by decide)⟩ (Nat.le_of_ble_eq_true rfl) (fun vv s130 hq => ?_) (fun ee s130 hq => ?_)
                rotate_left
                · obtain ⟨Is130, Fs130, e131, hv, hrs130, hps130⟩ := hq; cases hv
                obtain ⟨Is130, Fs130, e131, hv, hrs130, hps130⟩ := hq
                cases hv
                have Gs130 := fm_ts Gs128 Fs130 (by decide) (by decide)
                have JTD_s130 : TD s130 := TD_fm Fs130 (by decide) JTD_s128
                have ws130_77 : iI s130 77 = iI s128 77 := fm_i Fs130 (by decide)
                have ws130_75 : iI s130 75 = iI s128 75 := fm_i Fs130 (by decide)
                have ws130_79 : iI s130 79 = iI s128 79 := fm_i Fs130 (by decide)
                have ws130_91 : iI s130 91 = iI s128 91 := fm_i Fs130 (by decide)
                show WS k 121 [(3, .int (Int32.ofInt 4)), (2, .int (Int32.ofInt e8)), (1, .int (Int32.ofInt (iI s 77))), (0, .ref (A 179))] [.int (Int32.ofInt e131)] (Wd A dT s130) 0 0
                refine z_if_eq X (t := 134) (show cdA 199 121 = some (.ifCond .eq 13, 3, 0, 0, 0) from rfl) (by decide) ⟨by omega, by omega⟩ (fun g132 => ?_) (fun g132 => ?_)
                ·
                  refine z_const X (show cdA 199 134 = some (.iconst 1, 1, 0, 0, 0) from rfl) ?_
                  refine z_store X (lv' := [(4, .int (Int32.ofInt 1)), (3, .int (Int32.ofInt 4)), (2, .int (Int32.ofInt e8)), (1, .int (Int32.ofInt (iI s 77))), (0, .ref (A 179))]) (show cdA 199 135 = some (.istore 4, 2, 0, 0, 0) from rfl) (by decide) (fun _ h => h) ?_
                  refine z_const X (show cdA 199 137 = some (.iconst 0, 1, 0, 0, 0) from rfl) ?_
                  refine z_store X (lv' := [(5, .int (Int32.ofInt 0)), (4, .int (Int32.ofInt 1)), (3, .int (Int32.ofInt 4)), (2, .int (Int32.ofInt e8)), (1, .int (Int32.ofInt (iI s 77))), (0, .ref (A 179))]) (show cdA 199 138 = some (.istore 5, 2, 0, 0, 0) from rfl) (by decide) (fun _ h => h) ?_
                  refine WS_lv (lv := [(0, .ref (A 179)), (1, .int (Int32.ofInt (iI s 77))), (3, .int (Int32.ofInt 4)), (4, .int (Int32.ofInt 1)), (5, .int (Int32.ofInt 0))]) (List.forall_mem_cons.mpr ⟨(List.Mem.tail _ (List.Mem.tail _ (List.Mem.tail _ (List.Mem.tail _ (List.Mem.tail _ (List.Mem.head _)))))), (List.forall_mem_cons.mpr ⟨(List.Mem.tail _ (List.Mem.tail _ (List.Mem.tail _ (List.Mem.tail _ (List.Mem.head _))))), (List.forall_mem_cons.mpr ⟨(List.Mem.tail _ (List.Mem.tail _ (List.Mem.head _))), (List.forall_mem_cons.mpr ⟨(List.Mem.tail _ (List.Mem.head _)), (List.forall_mem_cons.mpr ⟨(List.Mem.head _), (fun q h => absurd h List.not_mem_nil)⟩)⟩)⟩)⟩)⟩) ?_
                  refine L140 ((1 - 0 : Int)).toNat s130 (iI s 77) 4 1 0 Is130 Gs130 JTD_s130 (by omega) (by omega) ?_
                  intro s133 x134 x135 x136 x137 Is133 Fs133 JTD_s133 hs133
                  have b138 : (0 : Int) ≤ iI s133 77 ∧ iI s133 77 ≤ 400 := Is133.1 77
                  have b139 : (0 : Int) ≤ iI s133 75 ∧ iI s133 75 ≤ 200 := Is133.1 75
                  have b140 : (0 : Int) ≤ iI s133 79 ∧ iI s133 79 ≤ 9 := Is133.1 79
                  have b141 : (0 : Int) ≤ iI s133 91 ∧ iI s133 91 ≤ 24 := Is133.1 91
                  exact w_vret X.1 q hRt (ax_d X (show cdA 199 245 = some (.return_, 1, 0, 0, 0) from rfl)) (Nat.zero_le _) (Nat.zero_le _) ⟨_, rfl, Is133, Fs133, JTD_s133, rfl, by omega⟩
                ·
                  refine z_aload_n X (x := A 179) (show cdA 199 124 = some (.aload_n 0, 1, 0, 0, 0) from rfl) (List.Mem.tail _ (List.Mem.tail _ (List.Mem.tail _ (List.Mem.head _)))) ?_
                  refine z_const X (show cdA 199 125 = some (.iconst 1, 1, 0, 0, 0) from rfl) ?_
                  refine z_bipush X (show cdA 199 126 = some (.bipush 7, 2, 0, 0, 7) from rfl) ?_
                  refine z_callV X 179 (rm := rmN 196) (As := [.int (Int32.ofInt 1), .int (Int32.ofInt 7)]) (st := []) (show cdA 199 128 = some (.invokevirtual 219, 3, 196, 0, 0) from rfl) rfl (by decide) rfl (by rw [E.1, E.2.1, E.2.2.1]; exact k_number G Is130 (by omega) (by omega) (by omega)) ⟨by rw [E.2.2.2]; exact (show (rmN 196).frames + 1 ≤ (rmN 199).frames by decide), by rw [E.2.2.2]; exact (show 8 + (mNL (miB 196) + 11) + (rmN 196).locals ≤ (rmN 199).locals by decide), by rw [E.2.2.2]; exact (show 0 + (rmN 196).cells ≤ (rmN 199).cells by decide), by rw [E.2.2.2]; exact (show 0 + (rmN 196).slots ≤ (rmN 199).slots by decide)⟩ (Nat.le_of_ble_eq_true rfl) (fun vv s142 hq => ?_) (fun ee s142 hq => ?_)
                  rotate_left
                  · obtain ⟨Is142, Fs142, e143, hv, hrs142, hps142⟩ := hq; cases hv
                  obtain ⟨Is142, Fs142, e143, hv, hrs142, hps142⟩ := hq
                  cases hv
                  have Gs142 := fm_ts Gs130 Fs142 (by decide) (by decide)
                  have JTD_s142 : TD s142 := TD_fm Fs142 (by decide) JTD_s130
                  have b144 : (0 : Int) ≤ iI s142 77 ∧ iI s142 77 ≤ 400 := Is142.1 77
                  have ws142_75 : iI s142 75 = iI s130 75 := fm_i Fs142 (by decide)
                  have b145 : (0 : Int) ≤ iI s142 79 ∧ iI s142 79 ≤ 9 := Is142.1 79
                  have ws142_91 : iI s142 91 = iI s130 91 := fm_i Fs142 (by decide)
                  show WS k 131 [(3, .int (Int32.ofInt 4)), (2, .int (Int32.ofInt e8)), (1, .int (Int32.ofInt (iI s 77))), (0, .ref (A 179))] [.int (Int32.ofInt e143)] (Wd A dT s142) 0 0
                  refine z_goto X (t := 135) (show cdA 199 131 = some (.goto 4, 3, 0, 0, 0) from rfl) (by decide) ?_
                  refine z_store X (lv' := [(4, .int (Int32.ofInt e143)), (3, .int (Int32.ofInt 4)), (2, .int (Int32.ofInt e8)), (1, .int (Int32.ofInt (iI s 77))), (0, .ref (A 179))]) (show cdA 199 135 = some (.istore 4, 2, 0, 0, 0) from rfl) (by decide) (fun _ h => h) ?_
                  refine z_const X (show cdA 199 137 = some (.iconst 0, 1, 0, 0, 0) from rfl) ?_
                  refine z_store X (lv' := [(5, .int (Int32.ofInt 0)), (4, .int (Int32.ofInt e143)), (3, .int (Int32.ofInt 4)), (2, .int (Int32.ofInt e8)), (1, .int (Int32.ofInt (iI s 77))), (0, .ref (A 179))]) (show cdA 199 138 = some (.istore 5, 2, 0, 0, 0) from rfl) (by decide) (fun _ h => h) ?_
                  refine WS_lv (lv := [(0, .ref (A 179)), (1, .int (Int32.ofInt (iI s 77))), (3, .int (Int32.ofInt 4)), (4, .int (Int32.ofInt e143)), (5, .int (Int32.ofInt 0))]) (List.forall_mem_cons.mpr ⟨(List.Mem.tail _ (List.Mem.tail _ (List.Mem.tail _ (List.Mem.tail _ (List.Mem.tail _ (List.Mem.head _)))))), (List.forall_mem_cons.mpr ⟨(List.Mem.tail _ (List.Mem.tail _ (List.Mem.tail _ (List.Mem.tail _ (List.Mem.head _))))), (List.forall_mem_cons.mpr ⟨(List.Mem.tail _ (List.Mem.tail _ (List.Mem.head _))), (List.forall_mem_cons.mpr ⟨(List.Mem.tail _ (List.Mem.head _)), (List.forall_mem_cons.mpr ⟨(List.Mem.head _), (fun q h => absurd h List.not_mem_nil)⟩)⟩)⟩)⟩)⟩) ?_
                  refine L140 ((e143 - 0 : Int)).toNat s142 (iI s 77) 4 e143 0 Is142 Gs142 JTD_s142 (by omega) (by omega) ?_
                  intro s146 x147 x148 x149 x150 Is146 Fs146 JTD_s146 hs146
                  have b151 : (0 : Int) ≤ iI s146 77 ∧ iI s146 77 ≤ 400 := Is146.1 77
                  have b152 : (0 : Int) ≤ iI s146 75 ∧ iI s146 75 ≤ 200 := Is146.1 75
                  have b153 : (0 : Int) ≤ iI s146 79 ∧ iI s146 79 ≤ 9 := Is146.1 79
                  have b154 : (0 : Int) ≤ iI s146 91 ∧ iI s146 91 ≤ 24 := Is146.1 91
                  exact w_vret X.1 q hRt (ax_d X (show cdA 199 245 = some (.return_, 1, 0, 0, 0) from rfl)) (Nat.zero_le _) (Nat.zero_le _) ⟨_, rfl, Is146, Fs146, JTD_s146, rfl, by omega⟩
            ·
              refine z_aload_n X (x := A 179) (show cdA 199 81 = some (.aload_n 0, 1, 0, 0, 0) from rfl) (List.Mem.tail _ (List.Mem.tail _ (List.Mem.tail _ (List.Mem.head _)))) ?_
              refine z_const X (show cdA 199 82 = some (.iconst 1, 1, 0, 0, 0) from rfl) ?_
              refine z_aload_n X (x := A 179) (show cdA 199 83 = some (.aload_n 0, 1, 0, 0, 0) from rfl) (List.Mem.tail _ (List.Mem.tail _ (List.Mem.tail _ (List.Mem.head _)))) ?_
              refine z_getI X 179 (show cdA 199 84 = some (.getfield 184, 3, 12, 4, 0) from rfl) (by decide) rfl rfl ?_
              have b155 : (0 : Int) ≤ iI s7 77 ∧ iI s7 77 ≤ 400 := Is7.1 77
              refine z_callV X 179 (rm := rmN 194) (As := [.int (Int32.ofInt 1), .int (Int32.ofInt (iI s7 77))]) (st := []) (show cdA 199 87 = some (.invokevirtual 204, 3, 194, 0, 0) from rfl) rfl (by decide) rfl (by rw [E.1, E.2.1, E.2.2.1]; exact k_wrong G Is7 (by omega) (by omega)) ⟨by rw [E.2.2.2]; exact (show (rmN 194).frames + 1 ≤ (rmN 199).frames by decide), by rw [E.2.2.2]; exact (show 8 + (mNL (miB 194) + 11) + (rmN 194).locals ≤ (rmN 199).locals by decide), by rw [E.2.2.2]; exact (show 0 + (rmN 194).cells ≤ (rmN 199).cells by decide), by rw [E.2.2.2]; exact (show 0 + (rmN 194).slots ≤ (rmN 199).slots by decide)⟩ (Nat.le_of_ble_eq_true rfl) (fun vv s156 hq => ?_) (fun ee s156 hq => ?_)
              rotate_left
              · obtain ⟨Is156, Fs156, hv, hps156⟩ := hq; cases hv
              obtain ⟨Is156, Fs156, hv, hps156⟩ := hq
              cases hv
              have Gs156 := fm_ts Gs7 Fs156 (by decide) (by decide)
              have JTD_s156 : TD s156 := TD_fm Fs156 (by decide) JTD_s7
              have ws156_77 : iI s156 77 = iI s7 77 := fm_i Fs156 (by decide)
              have ws156_75 : iI s156 75 = iI s7 75 := fm_i Fs156 (by decide)
              have b158 : (0 : Int) ≤ iI s156 79 ∧ iI s156 79 ≤ 9 := Is156.1 79
              have ws156_91 : iI s156 91 = iI s7 91 := fm_i Fs156 (by decide)
              show WS k 90 [(3, .int (Int32.ofInt 4)), (2, .int (Int32.ofInt e8)), (1, .int (Int32.ofInt (iI s 77))), (0, .ref (A 179))] [] (Wd A dT s156) 0 0
              exact w_vret X.1 q hRt (ax_d X (show cdA 199 90 = some (.return_, 1, 0, 0, 0) from rfl)) (Nat.zero_le _) (Nat.zero_le _) ⟨_, rfl, Is156, Gs156, JTD_s156, rfl, by omega⟩
        ·
          refine z_const X (show cdA 199 50 = some (.iconst 3, 1, 0, 0, 0) from rfl) ?_
          refine z_goto X (t := 75) (show cdA 199 51 = some (.goto 24, 3, 0, 0, 0) from rfl) (by decide) ?_
          refine z_store_n X (lv' := [(3, .int (Int32.ofInt 3)), (2, .int (Int32.ofInt e8)), (1, .int (Int32.ofInt (iI s 77))), (0, .ref (A 179))]) (show cdA 199 75 = some (.istore_n 3, 1, 0, 0, 0) from rfl) (by decide) (fun _ h => h) ?_
          refine z_load_n X (x := 3) (show cdA 199 76 = some (.iload_n 3, 1, 0, 0, 0) from rfl) (List.Mem.head _) ?_
          refine z_const X (show cdA 199 77 = some (.iconst (-1), 1, 0, 0, 0) from rfl) ?_
          refine z_icmp_ne X (t := 91) (show cdA 199 78 = some (.if_icmp .ne 13, 3, 1, 0, 0) from rfl) (by decide) ⟨by omega, by omega⟩ ⟨by omega, by omega⟩ (fun g159 => ?_) (fun g159 => ?_)
          ·
            refine z_aload_n X (x := A 179) (show cdA 199 91 = some (.aload_n 0, 1, 0, 0, 0) from rfl) (List.Mem.tail _ (List.Mem.tail _ (List.Mem.tail _ (List.Mem.head _)))) ?_
            refine w_dup X.1 (ax_d X (show cdA 199 92 = some (.dup, 1, 0, 0, 0) from rfl)) rfl ?_
            refine z_getI X 179 (show cdA 199 93 = some (.getfield 184, 3, 12, 4, 0) from rfl) (by decide) rfl rfl ?_
            have b160 : (0 : Int) ≤ iI s7 77 ∧ iI s7 77 ≤ 400 := Is7.1 77
            refine z_const X (show cdA 199 96 = some (.iconst 1, 1, 0, 0, 0) from rfl) ?_
            refine z_add X (show cdA 199 97 = some (.iadd, 1, 0, 0, 0) from rfl) ?_
            refine s_putI X 179 (show cdA 199 98 = some (.putfield 184, 3, 12, 4, 0) from rfl) (by decide) rfl rfl (by decide) rfl rfl rfl ?_
            obtain ⟨s161, hs161⟩ : ∃ x0, x0 = uI s7 77 (Int32.ofInt ((iI s7 77) + 1)) := ⟨_, rfl⟩
            rw [← hs161]
            have Is161 : Bd s161 := by rw [hs161]; exact bd_I Is7 (show (0 : Int) ≤ ((iI s7 77) + 1) ∧ ((iI s7 77) + 1) ≤ 400 by omega) ⟨by omega, by omega⟩
            have Fs161 := fm_I (x := Int32.ofInt ((iI s7 77) + 1)) Gs7 (show 77 ∈ _ by decide)
            rw [← hs161] at Fs161
            have vs161 : iI s161 77 = ((iI s7 77) + 1) := by rw [hs161]; exact iI_u ⟨by omega, by omega⟩
            have ws161_75 : iI s161 75 = iI s7 75 := by rw [hs161]; rfl
            have ws161_79 : iI s161 79 = iI s7 79 := by rw [hs161]; rfl
            have ws161_91 : iI s161 91 = iI s7 91 := by rw [hs161]; rfl
            have fs161 : Fm [77] [] s7 s161 := by rw [hs161]; exact fm_I (fm_rf _ _ _) (show 77 ∈ _ by decide)
            have JTD_s161 : TD s161 := TD_fm fs161 (by decide) JTD_s7
            refine z_aload_n X (x := A 179) (show cdA 199 101 = some (.aload_n 0, 1, 0, 0, 0) from rfl) (List.Mem.tail _ (List.Mem.tail _ (List.Mem.tail _ (List.Mem.head _)))) ?_
            refine z_callV X 179 (rm := rmN 193) (As := []) (st := []) (show cdA 199 102 = some (.invokevirtual 197, 3, 193, 0, 0) from rfl) rfl (by decide) rfl (by rw [E.1, E.2.1, E.2.2.1]; exact k_blanks G Is161 (by omega)) ⟨by rw [E.2.2.2]; exact (show (rmN 193).frames + 1 ≤ (rmN 199).frames by decide), by rw [E.2.2.2]; exact (show 8 + (mNL (miB 193) + 11) + (rmN 193).locals ≤ (rmN 199).locals by decide), by rw [E.2.2.2]; exact (show 0 + (rmN 193).cells ≤ (rmN 199).cells by decide), by rw [E.2.2.2]; exact (show 0 + (rmN 193).slots ≤ (rmN 199).slots by decide)⟩ (Nat.le_of_ble_eq_true rfl) (fun vv s162 hq => ?_) (fun ee s162 hq => ?_)
            rotate_left
            · obtain ⟨Is162, Fs162, hv, hps162⟩ := hq; cases hv
            obtain ⟨Is162, Fs162, hv, hps162⟩ := hq
            cases hv
            have Gs162 := fm_ts Fs161 Fs162 (by decide) (by decide)
            have JTD_s162 : TD s162 := TD_fm Fs162 (by decide) JTD_s161
            have b164 : (0 : Int) ≤ iI s162 77 ∧ iI s162 77 ≤ 400 := Is162.1 77
            have ws162_75 : iI s162 75 = iI s161 75 := fm_i Fs162 (by decide)
            have ws162_79 : iI s162 79 = iI s161 79 := fm_i Fs162 (by decide)
            have ws162_91 : iI s162 91 = iI s161 91 := fm_i Fs162 (by decide)
            show WS k 105 [(3, .int (Int32.ofInt 3)), (2, .int (Int32.ofInt e8)), (1, .int (Int32.ofInt (iI s 77))), (0, .ref (A 179))] [] (Wd A dT s162) 0 0
            refine z_load_n X (x := 3) (show cdA 199 105 = some (.iload_n 3, 1, 0, 0, 0) from rfl) (List.Mem.head _) ?_
            refine z_const X (show cdA 199 106 = some (.iconst 4, 1, 0, 0, 0) from rfl) ?_
            refine z_icmp_ge X (t := 134) (show cdA 199 107 = some (.if_icmp .ge 27, 3, 3, 0, 0) from rfl) (by decide) ⟨by omega, by omega⟩ ⟨by omega, by omega⟩ (fun g165 => ?_) (fun g165 => ?_)
            ·
              refine z_const X (show cdA 199 134 = some (.iconst 1, 1, 0, 0, 0) from rfl) ?_
              refine z_store X (lv' := [(4, .int (Int32.ofInt 1)), (3, .int (Int32.ofInt 3)), (2, .int (Int32.ofInt e8)), (1, .int (Int32.ofInt (iI s 77))), (0, .ref (A 179))]) (show cdA 199 135 = some (.istore 4, 2, 0, 0, 0) from rfl) (by decide) (fun _ h => h) ?_
              refine z_const X (show cdA 199 137 = some (.iconst 0, 1, 0, 0, 0) from rfl) ?_
              refine z_store X (lv' := [(5, .int (Int32.ofInt 0)), (4, .int (Int32.ofInt 1)), (3, .int (Int32.ofInt 3)), (2, .int (Int32.ofInt e8)), (1, .int (Int32.ofInt (iI s 77))), (0, .ref (A 179))]) (show cdA 199 138 = some (.istore 5, 2, 0, 0, 0) from rfl) (by decide) (fun _ h => h) ?_
              refine WS_lv (lv := [(0, .ref (A 179)), (1, .int (Int32.ofInt (iI s 77))), (3, .int (Int32.ofInt 3)), (4, .int (Int32.ofInt 1)), (5, .int (Int32.ofInt 0))]) (List.forall_mem_cons.mpr ⟨(List.Mem.tail _ (List.Mem.tail _ (List.Mem.tail _ (List.Mem.tail _ (List.Mem.tail _ (List.Mem.head _)))))), (List.forall_mem_cons.mpr ⟨(List.Mem.tail _ (List.Mem.tail _ (List.Mem.tail _ (List.Mem.tail _ (List.Mem.head _))))), (List.forall_mem_cons.mpr ⟨(List.Mem.tail _ (List.Mem.tail _ (List.Mem.head _))), (List.forall_mem_cons.mpr ⟨(List.Mem.tail _ (List.Mem.head _)), (List.forall_mem_cons.mpr ⟨(List.Mem.head _), (fun q h => absurd h List.not_mem_nil)⟩)⟩)⟩)⟩)⟩) ?_
              refine L140 ((1 - 0 : Int)).toNat s162 (iI s 77) 3 1 0 Is162 Gs162 JTD_s162 (by omega) (by omega) ?_
              intro s166 x167 x168 x169 x170 Is166 Fs166 JTD_s166 hs166
              have b171 : (0 : Int) ≤ iI s166 77 ∧ iI s166 77 ≤ 400 := Is166.1 77
              have b172 : (0 : Int) ≤ iI s166 75 ∧ iI s166 75 ≤ 200 := Is166.1 75
              have b173 : (0 : Int) ≤ iI s166 79 ∧ iI s166 79 ≤ 9 := Is166.1 79
              have b174 : (0 : Int) ≤ iI s166 91 ∧ iI s166 91 ≤ 24 := Is166.1 91
              exact w_vret X.1 q hRt (ax_d X (show cdA 199 245 = some (.return_, 1, 0, 0, 0) from rfl)) (Nat.zero_le _) (Nat.zero_le _) ⟨_, rfl, Is166, Fs166, JTD_s166, rfl, by omega⟩
            ·
              refine z_aload_n X (x := A 179) (show cdA 199 110 = some (.aload_n 0, 1, 0, 0, 0) from rfl) (List.Mem.tail _ (List.Mem.tail _ (List.Mem.tail _ (List.Mem.head _)))) ?_
              refine z_aload_n X (x := A 179) (show cdA 199 111 = some (.aload_n 0, 1, 0, 0, 0) from rfl) (List.Mem.tail _ (List.Mem.tail _ (List.Mem.tail _ (List.Mem.head _)))) ?_
              refine z_getI X 179 (show cdA 199 112 = some (.getfield 184, 3, 12, 4, 0) from rfl) (by decide) rfl rfl ?_
              have b175 : (0 : Int) ≤ iI s162 77 ∧ iI s162 77 ≤ 400 := Is162.1 77
              refine z_callV X 179 (rm := rmN 192) (As := [.int (Int32.ofInt (iI s162 77))]) (st := []) (show cdA 199 115 = some (.invokevirtual 187, 3, 192, 0, 0) from rfl) rfl (by decide) rfl (by rw [E.1, E.2.1, E.2.2.1]; exact k_byteAt G Is162 (by omega)) ⟨by rw [E.2.2.2]; exact (show (rmN 192).frames + 1 ≤ (rmN 199).frames by decide), by rw [E.2.2.2]; exact (show 8 + (mNL (miB 192) + 11) + (rmN 192).locals ≤ (rmN 199).locals by decide), by rw [E.2.2.2]; exact (show 0 + (rmN 192).cells ≤ (rmN 199).cells by decide), by rw [E.2.2.2]; exact (show 0 + (rmN 192).slots ≤ (rmN 199).slots by decide)⟩ (Nat.le_of_ble_eq_true rfl) (fun vv s176 hq => ?_) (fun ee s176 hq => ?_)
              rotate_left
              · obtain ⟨Is176, Fs176, e177, hv, hrs176, hps176⟩ := hq; cases hv
              obtain ⟨Is176, Fs176, e177, hv, hrs176, hps176⟩ := hq
              cases hv
              have Gs176 := fm_ts Gs162 Fs176 (by decide) (by decide)
              have JTD_s176 : TD s176 := TD_fm Fs176 (by decide) JTD_s162
              have ws176_77 : iI s176 77 = iI s162 77 := fm_i Fs176 (by decide)
              have ws176_75 : iI s176 75 = iI s162 75 := fm_i Fs176 (by decide)
              have ws176_79 : iI s176 79 = iI s162 79 := fm_i Fs176 (by decide)
              have ws176_91 : iI s176 91 = iI s162 91 := fm_i Fs176 (by decide)
              show WS k 118 [(3, .int (Int32.ofInt 3)), (2, .int (Int32.ofInt e8)), (1, .int (Int32.ofInt (iI s 77))), (0, .ref (A 179))] [.int (Int32.ofInt e177)] (Wd A dT s176) 0 0
              refine z_callS X (rm := rmN 195) (As := [.int (Int32.ofInt e177)]) (st := []) (show cdA 199 118 = some (.invokestatic 200, 3, 195, 1, 0) from rfl) rfl (by rw [E.1, E.2.1, E.2.2.1]; exact k_isDigit G Is176 (by omega)) ⟨by rw [E.2.2.2]; exact (show (rmN 195).frames + 1 ≤ (rmN 199).frames by decide), by rw [E.2.2.2]; exact (show 8 + (mNL (miB 195) + 11) + (rmN 195).locals ≤ (rmN 199).locals by decide), by rw [E.2.2.2]; exact (show 0 + (rmN 195).cells ≤ (rmN 199).cells by decide), by rw [E.2.2.2]; exact (show 0 + (rmN 195).slots ≤ (rmN 199).slots by decide)⟩ (Nat.le_of_ble_eq_true rfl) (fun vv s178 hq => ?_) (fun ee s178 hq => ?_)
              rotate_left
              · obtain ⟨Is178, Fs178, e179, hv, hrs178, hps178⟩ := hq; cases hv
              obtain ⟨Is178, Fs178, e179, hv, hrs178, hps178⟩ := hq
              cases hv
              have Gs178 := fm_ts Gs176 Fs178 (by decide) (by decide)
              have JTD_s178 : TD s178 := TD_fm Fs178 (by decide) JTD_s176
              have ws178_77 : iI s178 77 = iI s176 77 := fm_i Fs178 (by decide)
              have ws178_75 : iI s178 75 = iI s176 75 := fm_i Fs178 (by decide)
              have ws178_79 : iI s178 79 = iI s176 79 := fm_i Fs178 (by decide)
              have ws178_91 : iI s178 91 = iI s176 91 := fm_i Fs178 (by decide)
              show WS k 121 [(3, .int (Int32.ofInt 3)), (2, .int (Int32.ofInt e8)), (1, .int (Int32.ofInt (iI s 77))), (0, .ref (A 179))] [.int (Int32.ofInt e179)] (Wd A dT s178) 0 0
              refine z_if_eq X (t := 134) (show cdA 199 121 = some (.ifCond .eq 13, 3, 0, 0, 0) from rfl) (by decide) ⟨by omega, by omega⟩ (fun g180 => ?_) (fun g180 => ?_)
              ·
                refine z_const X (show cdA 199 134 = some (.iconst 1, 1, 0, 0, 0) from rfl) ?_
                refine z_store X (lv' := [(4, .int (Int32.ofInt 1)), (3, .int (Int32.ofInt 3)), (2, .int (Int32.ofInt e8)), (1, .int (Int32.ofInt (iI s 77))), (0, .ref (A 179))]) (show cdA 199 135 = some (.istore 4, 2, 0, 0, 0) from rfl) (by decide) (fun _ h => h) ?_
                refine z_const X (show cdA 199 137 = some (.iconst 0, 1, 0, 0, 0) from rfl) ?_
                refine z_store X (lv' := [(5, .int (Int32.ofInt 0)), (4, .int (Int32.ofInt 1)), (3, .int (Int32.ofInt 3)), (2, .int (Int32.ofInt e8)), (1, .int (Int32.ofInt (iI s 77))), (0, .ref (A 179))]) (show cdA 199 138 = some (.istore 5, 2, 0, 0, 0) from rfl) (by decide) (fun _ h => h) ?_
                refine WS_lv (lv := [(0, .ref (A 179)), (1, .int (Int32.ofInt (iI s 77))), (3, .int (Int32.ofInt 3)), (4, .int (Int32.ofInt 1)), (5, .int (Int32.ofInt 0))]) (List.forall_mem_cons.mpr ⟨(List.Mem.tail _ (List.Mem.tail _ (List.Mem.tail _ (List.Mem.tail _ (List.Mem.tail _ (List.Mem.head _)))))), (List.forall_mem_cons.mpr ⟨(List.Mem.tail _ (List.Mem.tail _ (List.Mem.tail _ (List.Mem.tail _ (List.Mem.head _))))), (List.forall_mem_cons.mpr ⟨(List.Mem.tail _ (List.Mem.tail _ (List.Mem.head _))), (List.forall_mem_cons.mpr ⟨(List.Mem.tail _ (List.Mem.head _)), (List.forall_mem_cons.mpr ⟨(List.Mem.head _), (fun q h => absurd h List.not_mem_nil)⟩)⟩)⟩)⟩)⟩) ?_
                refine L140 ((1 - 0 : Int)).toNat s178 (iI s 77) 3 1 0 Is178 Gs178 JTD_s178 (by omega) (by omega) ?_
                intro s181 x182 x183 x184 x185 Is181 Fs181 JTD_s181 hs181
                have b186 : (0 : Int) ≤ iI s181 77 ∧ iI s181 77 ≤ 400 := Is181.1 77
                have b187 : (0 : Int) ≤ iI s181 75 ∧ iI s181 75 ≤ 200 := Is181.1 75
                have b188 : (0 : Int) ≤ iI s181 79 ∧ iI s181 79 ≤ 9 := Is181.1 79
                have b189 : (0 : Int) ≤ iI s181 91 ∧ iI s181 91 ≤ 24 := Is181.1 91
                exact w_vret X.1 q hRt (ax_d X (show cdA 199 245 = some (.return_, 1, 0, 0, 0) from rfl)) (Nat.zero_le _) (Nat.zero_le _) ⟨_, rfl, Is181, Fs181, JTD_s181, rfl, by omega⟩
              ·
                refine z_aload_n X (x := A 179) (show cdA 199 124 = some (.aload_n 0, 1, 0, 0, 0) from rfl) (List.Mem.tail _ (List.Mem.tail _ (List.Mem.tail _ (List.Mem.head _)))) ?_
                refine z_const X (show cdA 199 125 = some (.iconst 1, 1, 0, 0, 0) from rfl) ?_
                refine z_bipush X (show cdA 199 126 = some (.bipush 7, 2, 0, 0, 7) from rfl) ?_
                refine z_callV X 179 (rm := rmN 196) (As := [.int (Int32.ofInt 1), .int (Int32.ofInt 7)]) (st := []) (show cdA 199 128 = some (.invokevirtual 219, 3, 196, 0, 0) from rfl) rfl (by decide) rfl (by rw [E.1, E.2.1, E.2.2.1]; exact k_number G Is178 (by omega) (by omega) (by omega)) ⟨by rw [E.2.2.2]; exact (show (rmN 196).frames + 1 ≤ (rmN 199).frames by decide), by rw [E.2.2.2]; exact (show 8 + (mNL (miB 196) + 11) + (rmN 196).locals ≤ (rmN 199).locals by decide), by rw [E.2.2.2]; exact (show 0 + (rmN 196).cells ≤ (rmN 199).cells by decide), by rw [E.2.2.2]; exact (show 0 + (rmN 196).slots ≤ (rmN 199).slots by decide)⟩ (Nat.le_of_ble_eq_true rfl) (fun vv s190 hq => ?_) (fun ee s190 hq => ?_)
                rotate_left
                · obtain ⟨Is190, Fs190, e191, hv, hrs190, hps190⟩ := hq; cases hv
                obtain ⟨Is190, Fs190, e191, hv, hrs190, hps190⟩ := hq
                cases hv
                have Gs190 := fm_ts Gs178 Fs190 (by decide) (by decide)
                have JTD_s190 : TD s190 := TD_fm Fs190 (by decide) JTD_s178
                have b192 : (0 : Int) ≤ iI s190 77 ∧ iI s190 77 ≤ 400 := Is190.1 77
                have ws190_75 : iI s190 75 = iI s178 75 := fm_i Fs190 (by decide)
                have b193 : (0 : Int) ≤ iI s190 79 ∧ iI s190 79 ≤ 9 := Is190.1 79
                have ws190_91 : iI s190 91 = iI s178 91 := fm_i Fs190 (by decide)
                show WS k 131 [(3, .int (Int32.ofInt 3)), (2, .int (Int32.ofInt e8)), (1, .int (Int32.ofInt (iI s 77))), (0, .ref (A 179))] [.int (Int32.ofInt e191)] (Wd A dT s190) 0 0
                refine z_goto X (t := 135) (show cdA 199 131 = some (.goto 4, 3, 0, 0, 0) from rfl) (by decide) ?_
                refine z_store X (lv' := [(4, .int (Int32.ofInt e191)), (3, .int (Int32.ofInt 3)), (2, .int (Int32.ofInt e8)), (1, .int (Int32.ofInt (iI s 77))), (0, .ref (A 179))]) (show cdA 199 135 = some (.istore 4, 2, 0, 0, 0) from rfl) (by decide) (fun _ h => h) ?_
                refine z_const X (show cdA 199 137 = some (.iconst 0, 1, 0, 0, 0) from rfl) ?_
                refine z_store X (lv' := [(5, .int (Int32.ofInt 0)), (4, .int (Int32.ofInt e191)), (3, .int (Int32.ofInt 3)), (2, .int (Int32.ofInt e8)), (1, .int (Int32.ofInt (iI s 77))), (0, .ref (A 179))]) (show cdA 199 138 = some (.istore 5, 2, 0, 0, 0) from rfl) (by decide) (fun _ h => h) ?_
                refine WS_lv (lv := [(0, .ref (A 179)), (1, .int (Int32.ofInt (iI s 77))), (3, .int (Int32.ofInt 3)), (4, .int (Int32.ofInt e191)), (5, .int (Int32.ofInt 0))]) (List.forall_mem_cons.mpr ⟨(List.Mem.tail _ (List.Mem.tail _ (List.Mem.tail _ (List.Mem.tail _ (List.Mem.tail _ (List.Mem.head _)))))), (List.forall_mem_cons.mpr ⟨(List.Mem.tail _ (List.Mem.tail _ (List.Mem.tail _ (List.Mem.tail _ (List.Mem.head _))))), (List.forall_mem_cons.mpr ⟨(List.Mem.tail _ (List.Mem.tail _ (List.Mem.head _))), (List.forall_mem_cons.mpr ⟨(List.Mem.tail _ (List.Mem.head _)), (List.forall_mem_cons.mpr ⟨(List.Mem.head _), (fun q h => absurd h List.not_mem_nil)⟩)⟩)⟩)⟩)⟩) ?_
                refine L140 ((e191 - 0 : Int)).toNat s190 (iI s 77) 3 e191 0 Is190 Gs190 JTD_s190 (by omega) (by omega) ?_
                intro s194 x195 x196 x197 x198 Is194 Fs194 JTD_s194 hs194
                have b199 : (0 : Int) ≤ iI s194 77 ∧ iI s194 77 ≤ 400 := Is194.1 77
                have b200 : (0 : Int) ≤ iI s194 75 ∧ iI s194 75 ≤ 200 := Is194.1 75
                have b201 : (0 : Int) ≤ iI s194 79 ∧ iI s194 79 ≤ 9 := Is194.1 79
                have b202 : (0 : Int) ≤ iI s194 91 ∧ iI s194 91 ≤ 24 := Is194.1 91
                exact w_vret X.1 q hRt (ax_d X (show cdA 199 245 = some (.return_, 1, 0, 0, 0) from rfl)) (Nat.zero_le _) (Nat.zero_le _) ⟨_, rfl, Is194, Fs194, JTD_s194, rfl, by omega⟩
          ·
            refine z_aload_n X (x := A 179) (show cdA 199 81 = some (.aload_n 0, 1, 0, 0, 0) from rfl) (List.Mem.tail _ (List.Mem.tail _ (List.Mem.tail _ (List.Mem.head _)))) ?_
            refine z_const X (show cdA 199 82 = some (.iconst 1, 1, 0, 0, 0) from rfl) ?_
            refine z_aload_n X (x := A 179) (show cdA 199 83 = some (.aload_n 0, 1, 0, 0, 0) from rfl) (List.Mem.tail _ (List.Mem.tail _ (List.Mem.tail _ (List.Mem.head _)))) ?_
            refine z_getI X 179 (show cdA 199 84 = some (.getfield 184, 3, 12, 4, 0) from rfl) (by decide) rfl rfl ?_
            have b203 : (0 : Int) ≤ iI s7 77 ∧ iI s7 77 ≤ 400 := Is7.1 77
            refine z_callV X 179 (rm := rmN 194) (As := [.int (Int32.ofInt 1), .int (Int32.ofInt (iI s7 77))]) (st := []) (show cdA 199 87 = some (.invokevirtual 204, 3, 194, 0, 0) from rfl) rfl (by decide) rfl (by rw [E.1, E.2.1, E.2.2.1]; exact k_wrong G Is7 (by omega) (by omega)) ⟨by rw [E.2.2.2]; exact (show (rmN 194).frames + 1 ≤ (rmN 199).frames by decide), by rw [E.2.2.2]; exact (show 8 + (mNL (miB 194) + 11) + (rmN 194).locals ≤ (rmN 199).locals by decide), by rw [E.2.2.2]; exact (show 0 + (rmN 194).cells ≤ (rmN 199).cells by decide), by rw [E.2.2.2]; exact (show 0 + (rmN 194).slots ≤ (rmN 199).slots by decide)⟩ (Nat.le_of_ble_eq_true rfl) (fun vv s204 hq => ?_) (fun ee s204 hq => ?_)
            rotate_left
            · obtain ⟨Is204, Fs204, hv, hps204⟩ := hq; cases hv
            obtain ⟨Is204, Fs204, hv, hps204⟩ := hq
            cases hv
            have Gs204 := fm_ts Gs7 Fs204 (by decide) (by decide)
            have JTD_s204 : TD s204 := TD_fm Fs204 (by decide) JTD_s7
            have ws204_77 : iI s204 77 = iI s7 77 := fm_i Fs204 (by decide)
            have ws204_75 : iI s204 75 = iI s7 75 := fm_i Fs204 (by decide)
            have b206 : (0 : Int) ≤ iI s204 79 ∧ iI s204 79 ≤ 9 := Is204.1 79
            have ws204_91 : iI s204 91 = iI s7 91 := fm_i Fs204 (by decide)
            show WS k 90 [(3, .int (Int32.ofInt 3)), (2, .int (Int32.ofInt e8)), (1, .int (Int32.ofInt (iI s 77))), (0, .ref (A 179))] [] (Wd A dT s204) 0 0
            exact w_vret X.1 q hRt (ax_d X (show cdA 199 90 = some (.return_, 1, 0, 0, 0) from rfl)) (Nat.zero_le _) (Nat.zero_le _) ⟨_, rfl, Is204, Gs204, JTD_s204, rfl, by omega⟩
      ·
        refine z_const X (show cdA 199 40 = some (.iconst 2, 1, 0, 0, 0) from rfl) ?_
        refine z_goto X (t := 75) (show cdA 199 41 = some (.goto 34, 3, 0, 0, 0) from rfl) (by decide) ?_
        refine z_store_n X (lv' := [(3, .int (Int32.ofInt 2)), (2, .int (Int32.ofInt e8)), (1, .int (Int32.ofInt (iI s 77))), (0, .ref (A 179))]) (show cdA 199 75 = some (.istore_n 3, 1, 0, 0, 0) from rfl) (by decide) (fun _ h => h) ?_
        refine z_load_n X (x := 2) (show cdA 199 76 = some (.iload_n 3, 1, 0, 0, 0) from rfl) (List.Mem.head _) ?_
        refine z_const X (show cdA 199 77 = some (.iconst (-1), 1, 0, 0, 0) from rfl) ?_
        refine z_icmp_ne X (t := 91) (show cdA 199 78 = some (.if_icmp .ne 13, 3, 1, 0, 0) from rfl) (by decide) ⟨by omega, by omega⟩ ⟨by omega, by omega⟩ (fun g207 => ?_) (fun g207 => ?_)
        ·
          refine z_aload_n X (x := A 179) (show cdA 199 91 = some (.aload_n 0, 1, 0, 0, 0) from rfl) (List.Mem.tail _ (List.Mem.tail _ (List.Mem.tail _ (List.Mem.head _)))) ?_
          refine w_dup X.1 (ax_d X (show cdA 199 92 = some (.dup, 1, 0, 0, 0) from rfl)) rfl ?_
          refine z_getI X 179 (show cdA 199 93 = some (.getfield 184, 3, 12, 4, 0) from rfl) (by decide) rfl rfl ?_
          have b208 : (0 : Int) ≤ iI s7 77 ∧ iI s7 77 ≤ 400 := Is7.1 77
          refine z_const X (show cdA 199 96 = some (.iconst 1, 1, 0, 0, 0) from rfl) ?_
          refine z_add X (show cdA 199 97 = some (.iadd, 1, 0, 0, 0) from rfl) ?_
          refine s_putI X 179 (show cdA 199 98 = some (.putfield 184, 3, 12, 4, 0) from rfl) (by decide) rfl rfl (by decide) rfl rfl rfl ?_
          obtain ⟨s209, hs209⟩ : ∃ x0, x0 = uI s7 77 (Int32.ofInt ((iI s7 77) + 1)) := ⟨_, rfl⟩
          rw [← hs209]
          have Is209 : Bd s209 := by rw [hs209]; exact bd_I Is7 (show (0 : Int) ≤ ((iI s7 77) + 1) ∧ ((iI s7 77) + 1) ≤ 400 by omega) ⟨by omega, by omega⟩
          have Fs209 := fm_I (x := Int32.ofInt ((iI s7 77) + 1)) Gs7 (show 77 ∈ _ by decide)
          rw [← hs209] at Fs209
          have vs209 : iI s209 77 = ((iI s7 77) + 1) := by rw [hs209]; exact iI_u ⟨by omega, by omega⟩
          have ws209_75 : iI s209 75 = iI s7 75 := by rw [hs209]; rfl
          have ws209_79 : iI s209 79 = iI s7 79 := by rw [hs209]; rfl
          have ws209_91 : iI s209 91 = iI s7 91 := by rw [hs209]; rfl
          have fs209 : Fm [77] [] s7 s209 := by rw [hs209]; exact fm_I (fm_rf _ _ _) (show 77 ∈ _ by decide)
          have JTD_s209 : TD s209 := TD_fm fs209 (by decide) JTD_s7
          refine z_aload_n X (x := A 179) (show cdA 199 101 = some (.aload_n 0, 1, 0, 0, 0) from rfl) (List.Mem.tail _ (List.Mem.tail _ (List.Mem.tail _ (List.Mem.head _)))) ?_
          refine z_callV X 179 (rm := rmN 193) (As := []) (st := []) (show cdA 199 102 = some (.invokevirtual 197, 3, 193, 0, 0) from rfl) rfl (by decide) rfl (by rw [E.1, E.2.1, E.2.2.1]; exact k_blanks G Is209 (by omega)) ⟨by rw [E.2.2.2]; exact (show (rmN 193).frames + 1 ≤ (rmN 199).frames by decide), by rw [E.2.2.2]; exact (show 8 + (mNL (miB 193) + 11) + (rmN 193).locals ≤ (rmN 199).locals by decide), by rw [E.2.2.2]; exact (show 0 + (rmN 193).cells ≤ (rmN 199).cells by decide), by rw [E.2.2.2]; exact (show 0 + (rmN 193).slots ≤ (rmN 199).slots by decide)⟩ (Nat.le_of_ble_eq_true rfl) (fun vv s210 hq => ?_) (fun ee s210 hq => ?_)
          rotate_left
          · obtain ⟨Is210, Fs210, hv, hps210⟩ := hq; cases hv
          obtain ⟨Is210, Fs210, hv, hps210⟩ := hq
          cases hv
          have Gs210 := fm_ts Fs209 Fs210 (by decide) (by decide)
          have JTD_s210 : TD s210 := TD_fm Fs210 (by decide) JTD_s209
          have b212 : (0 : Int) ≤ iI s210 77 ∧ iI s210 77 ≤ 400 := Is210.1 77
          have ws210_75 : iI s210 75 = iI s209 75 := fm_i Fs210 (by decide)
          have ws210_79 : iI s210 79 = iI s209 79 := fm_i Fs210 (by decide)
          have ws210_91 : iI s210 91 = iI s209 91 := fm_i Fs210 (by decide)
          show WS k 105 [(3, .int (Int32.ofInt 2)), (2, .int (Int32.ofInt e8)), (1, .int (Int32.ofInt (iI s 77))), (0, .ref (A 179))] [] (Wd A dT s210) 0 0
          refine z_load_n X (x := 2) (show cdA 199 105 = some (.iload_n 3, 1, 0, 0, 0) from rfl) (List.Mem.head _) ?_
          refine z_const X (show cdA 199 106 = some (.iconst 4, 1, 0, 0, 0) from rfl) ?_
          refine z_icmp_ge X (t := 134) (show cdA 199 107 = some (.if_icmp .ge 27, 3, 3, 0, 0) from rfl) (by decide) ⟨by omega, by omega⟩ ⟨by omega, by omega⟩ (fun g213 => ?_) (fun g213 => ?_)
          ·
            refine z_const X (show cdA 199 134 = some (.iconst 1, 1, 0, 0, 0) from rfl) ?_
            refine z_store X (lv' := [(4, .int (Int32.ofInt 1)), (3, .int (Int32.ofInt 2)), (2, .int (Int32.ofInt e8)), (1, .int (Int32.ofInt (iI s 77))), (0, .ref (A 179))]) (show cdA 199 135 = some (.istore 4, 2, 0, 0, 0) from rfl) (by decide) (fun _ h => h) ?_
            refine z_const X (show cdA 199 137 = some (.iconst 0, 1, 0, 0, 0) from rfl) ?_
            refine z_store X (lv' := [(5, .int (Int32.ofInt 0)), (4, .int (Int32.ofInt 1)), (3, .int (Int32.ofInt 2)), (2, .int (Int32.ofInt e8)), (1, .int (Int32.ofInt (iI s 77))), (0, .ref (A 179))]) (show cdA 199 138 = some (.istore 5, 2, 0, 0, 0) from rfl) (by decide) (fun _ h => h) ?_
            refine WS_lv (lv := [(0, .ref (A 179)), (1, .int (Int32.ofInt (iI s 77))), (3, .int (Int32.ofInt 2)), (4, .int (Int32.ofInt 1)), (5, .int (Int32.ofInt 0))]) (List.forall_mem_cons.mpr ⟨(List.Mem.tail _ (List.Mem.tail _ (List.Mem.tail _ (List.Mem.tail _ (List.Mem.tail _ (List.Mem.head _)))))), (List.forall_mem_cons.mpr ⟨(List.Mem.tail _ (List.Mem.tail _ (List.Mem.tail _ (List.Mem.tail _ (List.Mem.head _))))), (List.forall_mem_cons.mpr ⟨(List.Mem.tail _ (List.Mem.tail _ (List.Mem.head _))), (List.forall_mem_cons.mpr ⟨(List.Mem.tail _ (List.Mem.head _)), (List.forall_mem_cons.mpr ⟨(List.Mem.head _), (fun q h => absurd h List.not_mem_nil)⟩)⟩)⟩)⟩)⟩) ?_
            refine L140 ((1 - 0 : Int)).toNat s210 (iI s 77) 2 1 0 Is210 Gs210 JTD_s210 (by omega) (by omega) ?_
            intro s214 x215 x216 x217 x218 Is214 Fs214 JTD_s214 hs214
            have b219 : (0 : Int) ≤ iI s214 77 ∧ iI s214 77 ≤ 400 := Is214.1 77
            have b220 : (0 : Int) ≤ iI s214 75 ∧ iI s214 75 ≤ 200 := Is214.1 75
            have b221 : (0 : Int) ≤ iI s214 79 ∧ iI s214 79 ≤ 9 := Is214.1 79
            have b222 : (0 : Int) ≤ iI s214 91 ∧ iI s214 91 ≤ 24 := Is214.1 91
            exact w_vret X.1 q hRt (ax_d X (show cdA 199 245 = some (.return_, 1, 0, 0, 0) from rfl)) (Nat.zero_le _) (Nat.zero_le _) ⟨_, rfl, Is214, Fs214, JTD_s214, rfl, by omega⟩
          ·
            refine z_aload_n X (x := A 179) (show cdA 199 110 = some (.aload_n 0, 1, 0, 0, 0) from rfl) (List.Mem.tail _ (List.Mem.tail _ (List.Mem.tail _ (List.Mem.head _)))) ?_
            refine z_aload_n X (x := A 179) (show cdA 199 111 = some (.aload_n 0, 1, 0, 0, 0) from rfl) (List.Mem.tail _ (List.Mem.tail _ (List.Mem.tail _ (List.Mem.head _)))) ?_
            refine z_getI X 179 (show cdA 199 112 = some (.getfield 184, 3, 12, 4, 0) from rfl) (by decide) rfl rfl ?_
            have b223 : (0 : Int) ≤ iI s210 77 ∧ iI s210 77 ≤ 400 := Is210.1 77
            refine z_callV X 179 (rm := rmN 192) (As := [.int (Int32.ofInt (iI s210 77))]) (st := []) (show cdA 199 115 = some (.invokevirtual 187, 3, 192, 0, 0) from rfl) rfl (by decide) rfl (by rw [E.1, E.2.1, E.2.2.1]; exact k_byteAt G Is210 (by omega)) ⟨by rw [E.2.2.2]; exact (show (rmN 192).frames + 1 ≤ (rmN 199).frames by decide), by rw [E.2.2.2]; exact (show 8 + (mNL (miB 192) + 11) + (rmN 192).locals ≤ (rmN 199).locals by decide), by rw [E.2.2.2]; exact (show 0 + (rmN 192).cells ≤ (rmN 199).cells by decide), by rw [E.2.2.2]; exact (show 0 + (rmN 192).slots ≤ (rmN 199).slots by decide)⟩ (Nat.le_of_ble_eq_true rfl) (fun vv s224 hq => ?_) (fun ee s224 hq => ?_)
            rotate_left
            · obtain ⟨Is224, Fs224, e225, hv, hrs224, hps224⟩ := hq; cases hv
            obtain ⟨Is224, Fs224, e225, hv, hrs224, hps224⟩ := hq
            cases hv
            have Gs224 := fm_ts Gs210 Fs224 (by decide) (by decide)
            have JTD_s224 : TD s224 := TD_fm Fs224 (by decide) JTD_s210
            have ws224_77 : iI s224 77 = iI s210 77 := fm_i Fs224 (by decide)
            have ws224_75 : iI s224 75 = iI s210 75 := fm_i Fs224 (by decide)
            have ws224_79 : iI s224 79 = iI s210 79 := fm_i Fs224 (by decide)
            have ws224_91 : iI s224 91 = iI s210 91 := fm_i Fs224 (by decide)
            show WS k 118 [(3, .int (Int32.ofInt 2)), (2, .int (Int32.ofInt e8)), (1, .int (Int32.ofInt (iI s 77))), (0, .ref (A 179))] [.int (Int32.ofInt e225)] (Wd A dT s224) 0 0
            refine z_callS X (rm := rmN 195) (As := [.int (Int32.ofInt e225)]) (st := []) (show cdA 199 118 = some (.invokestatic 200, 3, 195, 1, 0) from rfl) rfl (by rw [E.1, E.2.1, E.2.2.1]; exact k_isDigit G Is224 (by omega)) ⟨by rw [E.2.2.2]; exact (show (rmN 195).frames + 1 ≤ (rmN 199).frames by decide), by rw [E.2.2.2]; exact (show 8 + (mNL (miB 195) + 11) + (rmN 195).locals ≤ (rmN 199).locals by decide), by rw [E.2.2.2]; exact (show 0 + (rmN 195).cells ≤ (rmN 199).cells by decide), by rw [E.2.2.2]; exact (show 0 + (rmN 195).slots ≤ (rmN 199).slots by decide)⟩ (Nat.le_of_ble_eq_true rfl) (fun vv s226 hq => ?_) (fun ee s226 hq => ?_)
            rotate_left
            · obtain ⟨Is226, Fs226, e227, hv, hrs226, hps226⟩ := hq; cases hv
            obtain ⟨Is226, Fs226, e227, hv, hrs226, hps226⟩ := hq
            cases hv
            have Gs226 := fm_ts Gs224 Fs226 (by decide) (by decide)
            have JTD_s226 : TD s226 := TD_fm Fs226 (by decide) JTD_s224
            have ws226_77 : iI s226 77 = iI s224 77 := fm_i Fs226 (by decide)
            have ws226_75 : iI s226 75 = iI s224 75 := fm_i Fs226 (by decide)
            have ws226_79 : iI s226 79 = iI s224 79 := fm_i Fs226 (by decide)
            have ws226_91 : iI s226 91 = iI s224 91 := fm_i Fs226 (by decide)
            show WS k 121 [(3, .int (Int32.ofInt 2)), (2, .int (Int32.ofInt e8)), (1, .int (Int32.ofInt (iI s 77))), (0, .ref (A 179))] [.int (Int32.ofInt e227)] (Wd A dT s226) 0 0
            refine z_if_eq X (t := 134) (show cdA 199 121 = some (.ifCond .eq 13, 3, 0, 0, 0) from rfl) (by decide) ⟨by omega, by omega⟩ (fun g228 => ?_) (fun g228 => ?_)
            ·
              refine z_const X (show cdA 199 134 = some (.iconst 1, 1, 0, 0, 0) from rfl) ?_
              refine z_store X (lv' := [(4, .int (Int32.ofInt 1)), (3, .int (Int32.ofInt 2)), (2, .int (Int32.ofInt e8)), (1, .int (Int32.ofInt (iI s 77))), (0, .ref (A 179))]) (show cdA 199 135 = some (.istore 4, 2, 0, 0, 0) from rfl) (by decide) (fun _ h => h) ?_
              refine z_const X (show cdA 199 137 = some (.iconst 0, 1, 0, 0, 0) from rfl) ?_
              refine z_store X (lv' := [(5, .int (Int32.ofInt 0)), (4, .int (Int32.ofInt 1)), (3, .int (Int32.ofInt 2)), (2, .int (Int32.ofInt e8)), (1, .int (Int32.ofInt (iI s 77))), (0, .ref (A 179))]) (show cdA 199 138 = some (.istore 5, 2, 0, 0, 0) from rfl) (by decide) (fun _ h => h) ?_
              refine WS_lv (lv := [(0, .ref (A 179)), (1, .int (Int32.ofInt (iI s 77))), (3, .int (Int32.ofInt 2)), (4, .int (Int32.ofInt 1)), (5, .int (Int32.ofInt 0))]) (List.forall_mem_cons.mpr ⟨(List.Mem.tail _ (List.Mem.tail _ (List.Mem.tail _ (List.Mem.tail _ (List.Mem.tail _ (List.Mem.head _)))))), (List.forall_mem_cons.mpr ⟨(List.Mem.tail _ (List.Mem.tail _ (List.Mem.tail _ (List.Mem.tail _ (List.Mem.head _))))), (List.forall_mem_cons.mpr ⟨(List.Mem.tail _ (List.Mem.tail _ (List.Mem.head _))), (List.forall_mem_cons.mpr ⟨(List.Mem.tail _ (List.Mem.head _)), (List.forall_mem_cons.mpr ⟨(List.Mem.head _), (fun q h => absurd h List.not_mem_nil)⟩)⟩)⟩)⟩)⟩) ?_
              refine L140 ((1 - 0 : Int)).toNat s226 (iI s 77) 2 1 0 Is226 Gs226 JTD_s226 (by omega) (by omega) ?_
              intro s229 x230 x231 x232 x233 Is229 Fs229 JTD_s229 hs229
              have b234 : (0 : Int) ≤ iI s229 77 ∧ iI s229 77 ≤ 400 := Is229.1 77
              have b235 : (0 : Int) ≤ iI s229 75 ∧ iI s229 75 ≤ 200 := Is229.1 75
              have b236 : (0 : Int) ≤ iI s229 79 ∧ iI s229 79 ≤ 9 := Is229.1 79
              have b237 : (0 : Int) ≤ iI s229 91 ∧ iI s229 91 ≤ 24 := Is229.1 91
              exact w_vret X.1 q hRt (ax_d X (show cdA 199 245 = some (.return_, 1, 0, 0, 0) from rfl)) (Nat.zero_le _) (Nat.zero_le _) ⟨_, rfl, Is229, Fs229, JTD_s229, rfl, by omega⟩
            ·
              refine z_aload_n X (x := A 179) (show cdA 199 124 = some (.aload_n 0, 1, 0, 0, 0) from rfl) (List.Mem.tail _ (List.Mem.tail _ (List.Mem.tail _ (List.Mem.head _)))) ?_
              refine z_const X (show cdA 199 125 = some (.iconst 1, 1, 0, 0, 0) from rfl) ?_
              refine z_bipush X (show cdA 199 126 = some (.bipush 7, 2, 0, 0, 7) from rfl) ?_
              refine z_callV X 179 (rm := rmN 196) (As := [.int (Int32.ofInt 1), .int (Int32.ofInt 7)]) (st := []) (show cdA 199 128 = some (.invokevirtual 219, 3, 196, 0, 0) from rfl) rfl (by decide) rfl (by rw [E.1, E.2.1, E.2.2.1]; exact k_number G Is226 (by omega) (by omega) (by omega)) ⟨by rw [E.2.2.2]; exact (show (rmN 196).frames + 1 ≤ (rmN 199).frames by decide), by rw [E.2.2.2]; exact (show 8 + (mNL (miB 196) + 11) + (rmN 196).locals ≤ (rmN 199).locals by decide), by rw [E.2.2.2]; exact (show 0 + (rmN 196).cells ≤ (rmN 199).cells by decide), by rw [E.2.2.2]; exact (show 0 + (rmN 196).slots ≤ (rmN 199).slots by decide)⟩ (Nat.le_of_ble_eq_true rfl) (fun vv s238 hq => ?_) (fun ee s238 hq => ?_)
              rotate_left
              · obtain ⟨Is238, Fs238, e239, hv, hrs238, hps238⟩ := hq; cases hv
              obtain ⟨Is238, Fs238, e239, hv, hrs238, hps238⟩ := hq
              cases hv
              have Gs238 := fm_ts Gs226 Fs238 (by decide) (by decide)
              have JTD_s238 : TD s238 := TD_fm Fs238 (by decide) JTD_s226
              have b240 : (0 : Int) ≤ iI s238 77 ∧ iI s238 77 ≤ 400 := Is238.1 77
              have ws238_75 : iI s238 75 = iI s226 75 := fm_i Fs238 (by decide)
              have b241 : (0 : Int) ≤ iI s238 79 ∧ iI s238 79 ≤ 9 := Is238.1 79
              have ws238_91 : iI s238 91 = iI s226 91 := fm_i Fs238 (by decide)
              show WS k 131 [(3, .int (Int32.ofInt 2)), (2, .int (Int32.ofInt e8)), (1, .int (Int32.ofInt (iI s 77))), (0, .ref (A 179))] [.int (Int32.ofInt e239)] (Wd A dT s238) 0 0
              refine z_goto X (t := 135) (show cdA 199 131 = some (.goto 4, 3, 0, 0, 0) from rfl) (by decide) ?_
              refine z_store X (lv' := [(4, .int (Int32.ofInt e239)), (3, .int (Int32.ofInt 2)), (2, .int (Int32.ofInt e8)), (1, .int (Int32.ofInt (iI s 77))), (0, .ref (A 179))]) (show cdA 199 135 = some (.istore 4, 2, 0, 0, 0) from rfl) (by decide) (fun _ h => h) ?_
              refine z_const X (show cdA 199 137 = some (.iconst 0, 1, 0, 0, 0) from rfl) ?_
              refine z_store X (lv' := [(5, .int (Int32.ofInt 0)), (4, .int (Int32.ofInt e239)), (3, .int (Int32.ofInt 2)), (2, .int (Int32.ofInt e8)), (1, .int (Int32.ofInt (iI s 77))), (0, .ref (A 179))]) (show cdA 199 138 = some (.istore 5, 2, 0, 0, 0) from rfl) (by decide) (fun _ h => h) ?_
              refine WS_lv (lv := [(0, .ref (A 179)), (1, .int (Int32.ofInt (iI s 77))), (3, .int (Int32.ofInt 2)), (4, .int (Int32.ofInt e239)), (5, .int (Int32.ofInt 0))]) (List.forall_mem_cons.mpr ⟨(List.Mem.tail _ (List.Mem.tail _ (List.Mem.tail _ (List.Mem.tail _ (List.Mem.tail _ (List.Mem.head _)))))), (List.forall_mem_cons.mpr ⟨(List.Mem.tail _ (List.Mem.tail _ (List.Mem.tail _ (List.Mem.tail _ (List.Mem.head _))))), (List.forall_mem_cons.mpr ⟨(List.Mem.tail _ (List.Mem.tail _ (List.Mem.head _))), (List.forall_mem_cons.mpr ⟨(List.Mem.tail _ (List.Mem.head _)), (List.forall_mem_cons.mpr ⟨(List.Mem.head _), (fun q h => absurd h List.not_mem_nil)⟩)⟩)⟩)⟩)⟩) ?_
              refine L140 ((e239 - 0 : Int)).toNat s238 (iI s 77) 2 e239 0 Is238 Gs238 JTD_s238 (by omega) (by omega) ?_
              intro s242 x243 x244 x245 x246 Is242 Fs242 JTD_s242 hs242
              have b247 : (0 : Int) ≤ iI s242 77 ∧ iI s242 77 ≤ 400 := Is242.1 77
              have b248 : (0 : Int) ≤ iI s242 75 ∧ iI s242 75 ≤ 200 := Is242.1 75
              have b249 : (0 : Int) ≤ iI s242 79 ∧ iI s242 79 ≤ 9 := Is242.1 79
              have b250 : (0 : Int) ≤ iI s242 91 ∧ iI s242 91 ≤ 24 := Is242.1 91
              exact w_vret X.1 q hRt (ax_d X (show cdA 199 245 = some (.return_, 1, 0, 0, 0) from rfl)) (Nat.zero_le _) (Nat.zero_le _) ⟨_, rfl, Is242, Fs242, JTD_s242, rfl, by omega⟩
        ·
          refine z_aload_n X (x := A 179) (show cdA 199 81 = some (.aload_n 0, 1, 0, 0, 0) from rfl) (List.Mem.tail _ (List.Mem.tail _ (List.Mem.tail _ (List.Mem.head _)))) ?_
          refine z_const X (show cdA 199 82 = some (.iconst 1, 1, 0, 0, 0) from rfl) ?_
          refine z_aload_n X (x := A 179) (show cdA 199 83 = some (.aload_n 0, 1, 0, 0, 0) from rfl) (List.Mem.tail _ (List.Mem.tail _ (List.Mem.tail _ (List.Mem.head _)))) ?_
          refine z_getI X 179 (show cdA 199 84 = some (.getfield 184, 3, 12, 4, 0) from rfl) (by decide) rfl rfl ?_
          have b251 : (0 : Int) ≤ iI s7 77 ∧ iI s7 77 ≤ 400 := Is7.1 77
          refine z_callV X 179 (rm := rmN 194) (As := [.int (Int32.ofInt 1), .int (Int32.ofInt (iI s7 77))]) (st := []) (show cdA 199 87 = some (.invokevirtual 204, 3, 194, 0, 0) from rfl) rfl (by decide) rfl (by rw [E.1, E.2.1, E.2.2.1]; exact k_wrong G Is7 (by omega) (by omega)) ⟨by rw [E.2.2.2]; exact (show (rmN 194).frames + 1 ≤ (rmN 199).frames by decide), by rw [E.2.2.2]; exact (show 8 + (mNL (miB 194) + 11) + (rmN 194).locals ≤ (rmN 199).locals by decide), by rw [E.2.2.2]; exact (show 0 + (rmN 194).cells ≤ (rmN 199).cells by decide), by rw [E.2.2.2]; exact (show 0 + (rmN 194).slots ≤ (rmN 199).slots by decide)⟩ (Nat.le_of_ble_eq_true rfl) (fun vv s252 hq => ?_) (fun ee s252 hq => ?_)
          rotate_left
          · obtain ⟨Is252, Fs252, hv, hps252⟩ := hq; cases hv
          obtain ⟨Is252, Fs252, hv, hps252⟩ := hq
          cases hv
          have Gs252 := fm_ts Gs7 Fs252 (by decide) (by decide)
          have JTD_s252 : TD s252 := TD_fm Fs252 (by decide) JTD_s7
          have ws252_77 : iI s252 77 = iI s7 77 := fm_i Fs252 (by decide)
          have ws252_75 : iI s252 75 = iI s7 75 := fm_i Fs252 (by decide)
          have b254 : (0 : Int) ≤ iI s252 79 ∧ iI s252 79 ≤ 9 := Is252.1 79
          have ws252_91 : iI s252 91 = iI s7 91 := fm_i Fs252 (by decide)
          show WS k 90 [(3, .int (Int32.ofInt 2)), (2, .int (Int32.ofInt e8)), (1, .int (Int32.ofInt (iI s 77))), (0, .ref (A 179))] [] (Wd A dT s252) 0 0
          exact w_vret X.1 q hRt (ax_d X (show cdA 199 90 = some (.return_, 1, 0, 0, 0) from rfl)) (Nat.zero_le _) (Nat.zero_le _) ⟨_, rfl, Is252, Gs252, JTD_s252, rfl, by omega⟩
    ·
      refine z_const X (show cdA 199 30 = some (.iconst 1, 1, 0, 0, 0) from rfl) ?_
      refine z_goto X (t := 75) (show cdA 199 31 = some (.goto 44, 3, 0, 0, 0) from rfl) (by decide) ?_
      refine z_store_n X (lv' := [(3, .int (Int32.ofInt 1)), (2, .int (Int32.ofInt e8)), (1, .int (Int32.ofInt (iI s 77))), (0, .ref (A 179))]) (show cdA 199 75 = some (.istore_n 3, 1, 0, 0, 0) from rfl) (by decide) (fun _ h => h) ?_
      refine z_load_n X (x := 1) (show cdA 199 76 = some (.iload_n 3, 1, 0, 0, 0) from rfl) (List.Mem.head _) ?_
      refine z_const X (show cdA 199 77 = some (.iconst (-1), 1, 0, 0, 0) from rfl) ?_
      refine z_icmp_ne X (t := 91) (show cdA 199 78 = some (.if_icmp .ne 13, 3, 1, 0, 0) from rfl) (by decide) ⟨by omega, by omega⟩ ⟨by omega, by omega⟩ (fun g255 => ?_) (fun g255 => ?_)
      ·
        refine z_aload_n X (x := A 179) (show cdA 199 91 = some (.aload_n 0, 1, 0, 0, 0) from rfl) (List.Mem.tail _ (List.Mem.tail _ (List.Mem.tail _ (List.Mem.head _)))) ?_
        refine w_dup X.1 (ax_d X (show cdA 199 92 = some (.dup, 1, 0, 0, 0) from rfl)) rfl ?_
        refine z_getI X 179 (show cdA 199 93 = some (.getfield 184, 3, 12, 4, 0) from rfl) (by decide) rfl rfl ?_
        have b256 : (0 : Int) ≤ iI s7 77 ∧ iI s7 77 ≤ 400 := Is7.1 77
        refine z_const X (show cdA 199 96 = some (.iconst 1, 1, 0, 0, 0) from rfl) ?_
        refine z_add X (show cdA 199 97 = some (.iadd, 1, 0, 0, 0) from rfl) ?_
        refine s_putI X 179 (show cdA 199 98 = some (.putfield 184, 3, 12, 4, 0) from rfl) (by decide) rfl rfl (by decide) rfl rfl rfl ?_
        obtain ⟨s257, hs257⟩ : ∃ x0, x0 = uI s7 77 (Int32.ofInt ((iI s7 77) + 1)) := ⟨_, rfl⟩
        rw [← hs257]
        have Is257 : Bd s257 := by rw [hs257]; exact bd_I Is7 (show (0 : Int) ≤ ((iI s7 77) + 1) ∧ ((iI s7 77) + 1) ≤ 400 by omega) ⟨by omega, by omega⟩
        have Fs257 := fm_I (x := Int32.ofInt ((iI s7 77) + 1)) Gs7 (show 77 ∈ _ by decide)
        rw [← hs257] at Fs257
        have vs257 : iI s257 77 = ((iI s7 77) + 1) := by rw [hs257]; exact iI_u ⟨by omega, by omega⟩
        have ws257_75 : iI s257 75 = iI s7 75 := by rw [hs257]; rfl
        have ws257_79 : iI s257 79 = iI s7 79 := by rw [hs257]; rfl
        have ws257_91 : iI s257 91 = iI s7 91 := by rw [hs257]; rfl
        have fs257 : Fm [77] [] s7 s257 := by rw [hs257]; exact fm_I (fm_rf _ _ _) (show 77 ∈ _ by decide)
        have JTD_s257 : TD s257 := TD_fm fs257 (by decide) JTD_s7
        refine z_aload_n X (x := A 179) (show cdA 199 101 = some (.aload_n 0, 1, 0, 0, 0) from rfl) (List.Mem.tail _ (List.Mem.tail _ (List.Mem.tail _ (List.Mem.head _)))) ?_
        refine z_callV X 179 (rm := rmN 193) (As := []) (st := []) (show cdA 199 102 = some (.invokevirtual 197, 3, 193, 0, 0) from rfl) rfl (by decide) rfl (by rw [E.1, E.2.1, E.2.2.1]; exact k_blanks G Is257 (by omega)) ⟨by rw [E.2.2.2]; exact (show (rmN 193).frames + 1 ≤ (rmN 199).frames by decide), by rw [E.2.2.2]; exact (show 8 + (mNL (miB 193) + 11) + (rmN 193).locals ≤ (rmN 199).locals by decide), by rw [E.2.2.2]; exact (show 0 + (rmN 193).cells ≤ (rmN 199).cells by decide), by rw [E.2.2.2]; exact (show 0 + (rmN 193).slots ≤ (rmN 199).slots by decide)⟩ (Nat.le_of_ble_eq_true rfl) (fun vv s258 hq => ?_) (fun ee s258 hq => ?_)
        rotate_left
        · obtain ⟨Is258, Fs258, hv, hps258⟩ := hq; cases hv
        obtain ⟨Is258, Fs258, hv, hps258⟩ := hq
        cases hv
        have Gs258 := fm_ts Fs257 Fs258 (by decide) (by decide)
        have JTD_s258 : TD s258 := TD_fm Fs258 (by decide) JTD_s257
        have b260 : (0 : Int) ≤ iI s258 77 ∧ iI s258 77 ≤ 400 := Is258.1 77
        have ws258_75 : iI s258 75 = iI s257 75 := fm_i Fs258 (by decide)
        have ws258_79 : iI s258 79 = iI s257 79 := fm_i Fs258 (by decide)
        have ws258_91 : iI s258 91 = iI s257 91 := fm_i Fs258 (by decide)
        show WS k 105 [(3, .int (Int32.ofInt 1)), (2, .int (Int32.ofInt e8)), (1, .int (Int32.ofInt (iI s 77))), (0, .ref (A 179))] [] (Wd A dT s258) 0 0
        refine z_load_n X (x := 1) (show cdA 199 105 = some (.iload_n 3, 1, 0, 0, 0) from rfl) (List.Mem.head _) ?_
        refine z_const X (show cdA 199 106 = some (.iconst 4, 1, 0, 0, 0) from rfl) ?_
        refine z_icmp_ge X (t := 134) (show cdA 199 107 = some (.if_icmp .ge 27, 3, 3, 0, 0) from rfl) (by decide) ⟨by omega, by omega⟩ ⟨by omega, by omega⟩ (fun g261 => ?_) (fun g261 => ?_)
        ·
          refine z_const X (show cdA 199 134 = some (.iconst 1, 1, 0, 0, 0) from rfl) ?_
          refine z_store X (lv' := [(4, .int (Int32.ofInt 1)), (3, .int (Int32.ofInt 1)), (2, .int (Int32.ofInt e8)), (1, .int (Int32.ofInt (iI s 77))), (0, .ref (A 179))]) (show cdA 199 135 = some (.istore 4, 2, 0, 0, 0) from rfl) (by decide) (fun _ h => h) ?_
          refine z_const X (show cdA 199 137 = some (.iconst 0, 1, 0, 0, 0) from rfl) ?_
          refine z_store X (lv' := [(5, .int (Int32.ofInt 0)), (4, .int (Int32.ofInt 1)), (3, .int (Int32.ofInt 1)), (2, .int (Int32.ofInt e8)), (1, .int (Int32.ofInt (iI s 77))), (0, .ref (A 179))]) (show cdA 199 138 = some (.istore 5, 2, 0, 0, 0) from rfl) (by decide) (fun _ h => h) ?_
          refine WS_lv (lv := [(0, .ref (A 179)), (1, .int (Int32.ofInt (iI s 77))), (3, .int (Int32.ofInt 1)), (4, .int (Int32.ofInt 1)), (5, .int (Int32.ofInt 0))]) (List.forall_mem_cons.mpr ⟨(List.Mem.tail _ (List.Mem.tail _ (List.Mem.tail _ (List.Mem.tail _ (List.Mem.tail _ (List.Mem.head _)))))), (List.forall_mem_cons.mpr ⟨(List.Mem.tail _ (List.Mem.tail _ (List.Mem.tail _ (List.Mem.tail _ (List.Mem.head _))))), (List.forall_mem_cons.mpr ⟨(List.Mem.tail _ (List.Mem.tail _ (List.Mem.head _))), (List.forall_mem_cons.mpr ⟨(List.Mem.tail _ (List.Mem.head _)), (List.forall_mem_cons.mpr ⟨(List.Mem.head _), (fun q h => absurd h List.not_mem_nil)⟩)⟩)⟩)⟩)⟩) ?_
          refine L140 ((1 - 0 : Int)).toNat s258 (iI s 77) 1 1 0 Is258 Gs258 JTD_s258 (by omega) (by omega) ?_
          intro s262 x263 x264 x265 x266 Is262 Fs262 JTD_s262 hs262
          have b267 : (0 : Int) ≤ iI s262 77 ∧ iI s262 77 ≤ 400 := Is262.1 77
          have b268 : (0 : Int) ≤ iI s262 75 ∧ iI s262 75 ≤ 200 := Is262.1 75
          have b269 : (0 : Int) ≤ iI s262 79 ∧ iI s262 79 ≤ 9 := Is262.1 79
          have b270 : (0 : Int) ≤ iI s262 91 ∧ iI s262 91 ≤ 24 := Is262.1 91
          exact w_vret X.1 q hRt (ax_d X (show cdA 199 245 = some (.return_, 1, 0, 0, 0) from rfl)) (Nat.zero_le _) (Nat.zero_le _) ⟨_, rfl, Is262, Fs262, JTD_s262, rfl, by omega⟩
        ·
          refine z_aload_n X (x := A 179) (show cdA 199 110 = some (.aload_n 0, 1, 0, 0, 0) from rfl) (List.Mem.tail _ (List.Mem.tail _ (List.Mem.tail _ (List.Mem.head _)))) ?_
          refine z_aload_n X (x := A 179) (show cdA 199 111 = some (.aload_n 0, 1, 0, 0, 0) from rfl) (List.Mem.tail _ (List.Mem.tail _ (List.Mem.tail _ (List.Mem.head _)))) ?_
          refine z_getI X 179 (show cdA 199 112 = some (.getfield 184, 3, 12, 4, 0) from rfl) (by decide) rfl rfl ?_
          have b271 : (0 : Int) ≤ iI s258 77 ∧ iI s258 77 ≤ 400 := Is258.1 77
          refine z_callV X 179 (rm := rmN 192) (As := [.int (Int32.ofInt (iI s258 77))]) (st := []) (show cdA 199 115 = some (.invokevirtual 187, 3, 192, 0, 0) from rfl) rfl (by decide) rfl (by rw [E.1, E.2.1, E.2.2.1]; exact k_byteAt G Is258 (by omega)) ⟨by rw [E.2.2.2]; exact (show (rmN 192).frames + 1 ≤ (rmN 199).frames by decide), by rw [E.2.2.2]; exact (show 8 + (mNL (miB 192) + 11) + (rmN 192).locals ≤ (rmN 199).locals by decide), by rw [E.2.2.2]; exact (show 0 + (rmN 192).cells ≤ (rmN 199).cells by decide), by rw [E.2.2.2]; exact (show 0 + (rmN 192).slots ≤ (rmN 199).slots by decide)⟩ (Nat.le_of_ble_eq_true rfl) (fun vv s272 hq => ?_) (fun ee s272 hq => ?_)
          rotate_left
          · obtain ⟨Is272, Fs272, e273, hv, hrs272, hps272⟩ := hq; cases hv
          obtain ⟨Is272, Fs272, e273, hv, hrs272, hps272⟩ := hq
          cases hv
          have Gs272 := fm_ts Gs258 Fs272 (by decide) (by decide)
          have JTD_s272 : TD s272 := TD_fm Fs272 (by decide) JTD_s258
          have ws272_77 : iI s272 77 = iI s258 77 := fm_i Fs272 (by decide)
          have ws272_75 : iI s272 75 = iI s258 75 := fm_i Fs272 (by decide)
          have ws272_79 : iI s272 79 = iI s258 79 := fm_i Fs272 (by decide)
          have ws272_91 : iI s272 91 = iI s258 91 := fm_i Fs272 (by decide)
          show WS k 118 [(3, .int (Int32.ofInt 1)), (2, .int (Int32.ofInt e8)), (1, .int (Int32.ofInt (iI s 77))), (0, .ref (A 179))] [.int (Int32.ofInt e273)] (Wd A dT s272) 0 0
          refine z_callS X (rm := rmN 195) (As := [.int (Int32.ofInt e273)]) (st := []) (show cdA 199 118 = some (.invokestatic 200, 3, 195, 1, 0) from rfl) rfl (by rw [E.1, E.2.1, E.2.2.1]; exact k_isDigit G Is272 (by omega)) ⟨by rw [E.2.2.2]; exact (show (rmN 195).frames + 1 ≤ (rmN 199).frames by decide), by rw [E.2.2.2]; exact (show 8 + (mNL (miB 195) + 11) + (rmN 195).locals ≤ (rmN 199).locals by decide), by rw [E.2.2.2]; exact (show 0 + (rmN 195).cells ≤ (rmN 199).cells by decide), by rw [E.2.2.2]; exact (show 0 + (rmN 195).slots ≤ (rmN 199).slots by decide)⟩ (Nat.le_of_ble_eq_true rfl) (fun vv s274 hq => ?_) (fun ee s274 hq => ?_)
          rotate_left
          · obtain ⟨Is274, Fs274, e275, hv, hrs274, hps274⟩ := hq; cases hv
          obtain ⟨Is274, Fs274, e275, hv, hrs274, hps274⟩ := hq
          cases hv
          have Gs274 := fm_ts Gs272 Fs274 (by decide) (by decide)
          have JTD_s274 : TD s274 := TD_fm Fs274 (by decide) JTD_s272
          have ws274_77 : iI s274 77 = iI s272 77 := fm_i Fs274 (by decide)
          have ws274_75 : iI s274 75 = iI s272 75 := fm_i Fs274 (by decide)
          have ws274_79 : iI s274 79 = iI s272 79 := fm_i Fs274 (by decide)
          have ws274_91 : iI s274 91 = iI s272 91 := fm_i Fs274 (by decide)
          show WS k 121 [(3, .int (Int32.ofInt 1)), (2, .int (Int32.ofInt e8)), (1, .int (Int32.ofInt (iI s 77))), (0, .ref (A 179))] [.int (Int32.ofInt e275)] (Wd A dT s274) 0 0
          refine z_if_eq X (t := 134) (show cdA 199 121 = some (.ifCond .eq 13, 3, 0, 0, 0) from rfl) (by decide) ⟨by omega, by omega⟩ (fun g276 => ?_) (fun g276 => ?_)
          ·
            refine z_const X (show cdA 199 134 = some (.iconst 1, 1, 0, 0, 0) from rfl) ?_
            refine z_store X (lv' := [(4, .int (Int32.ofInt 1)), (3, .int (Int32.ofInt 1)), (2, .int (Int32.ofInt e8)), (1, .int (Int32.ofInt (iI s 77))), (0, .ref (A 179))]) (show cdA 199 135 = some (.istore 4, 2, 0, 0, 0) from rfl) (by decide) (fun _ h => h) ?_
            refine z_const X (show cdA 199 137 = some (.iconst 0, 1, 0, 0, 0) from rfl) ?_
            refine z_store X (lv' := [(5, .int (Int32.ofInt 0)), (4, .int (Int32.ofInt 1)), (3, .int (Int32.ofInt 1)), (2, .int (Int32.ofInt e8)), (1, .int (Int32.ofInt (iI s 77))), (0, .ref (A 179))]) (show cdA 199 138 = some (.istore 5, 2, 0, 0, 0) from rfl) (by decide) (fun _ h => h) ?_
            refine WS_lv (lv := [(0, .ref (A 179)), (1, .int (Int32.ofInt (iI s 77))), (3, .int (Int32.ofInt 1)), (4, .int (Int32.ofInt 1)), (5, .int (Int32.ofInt 0))]) (List.forall_mem_cons.mpr ⟨(List.Mem.tail _ (List.Mem.tail _ (List.Mem.tail _ (List.Mem.tail _ (List.Mem.tail _ (List.Mem.head _)))))), (List.forall_mem_cons.mpr ⟨(List.Mem.tail _ (List.Mem.tail _ (List.Mem.tail _ (List.Mem.tail _ (List.Mem.head _))))), (List.forall_mem_cons.mpr ⟨(List.Mem.tail _ (List.Mem.tail _ (List.Mem.head _))), (List.forall_mem_cons.mpr ⟨(List.Mem.tail _ (List.Mem.head _)), (List.forall_mem_cons.mpr ⟨(List.Mem.head _), (fun q h => absurd h List.not_mem_nil)⟩)⟩)⟩)⟩)⟩) ?_
            refine L140 ((1 - 0 : Int)).toNat s274 (iI s 77) 1 1 0 Is274 Gs274 JTD_s274 (by omega) (by omega) ?_
            intro s277 x278 x279 x280 x281 Is277 Fs277 JTD_s277 hs277
            have b282 : (0 : Int) ≤ iI s277 77 ∧ iI s277 77 ≤ 400 := Is277.1 77
            have b283 : (0 : Int) ≤ iI s277 75 ∧ iI s277 75 ≤ 200 := Is277.1 75
            have b284 : (0 : Int) ≤ iI s277 79 ∧ iI s277 79 ≤ 9 := Is277.1 79
            have b285 : (0 : Int) ≤ iI s277 91 ∧ iI s277 91 ≤ 24 := Is277.1 91
            exact w_vret X.1 q hRt (ax_d X (show cdA 199 245 = some (.return_, 1, 0, 0, 0) from rfl)) (Nat.zero_le _) (Nat.zero_le _) ⟨_, rfl, Is277, Fs277, JTD_s277, rfl, by omega⟩
          ·
            refine z_aload_n X (x := A 179) (show cdA 199 124 = some (.aload_n 0, 1, 0, 0, 0) from rfl) (List.Mem.tail _ (List.Mem.tail _ (List.Mem.tail _ (List.Mem.head _)))) ?_
            refine z_const X (show cdA 199 125 = some (.iconst 1, 1, 0, 0, 0) from rfl) ?_
            refine z_bipush X (show cdA 199 126 = some (.bipush 7, 2, 0, 0, 7) from rfl) ?_
            refine z_callV X 179 (rm := rmN 196) (As := [.int (Int32.ofInt 1), .int (Int32.ofInt 7)]) (st := []) (show cdA 199 128 = some (.invokevirtual 219, 3, 196, 0, 0) from rfl) rfl (by decide) rfl (by rw [E.1, E.2.1, E.2.2.1]; exact k_number G Is274 (by omega) (by omega) (by omega)) ⟨by rw [E.2.2.2]; exact (show (rmN 196).frames + 1 ≤ (rmN 199).frames by decide), by rw [E.2.2.2]; exact (show 8 + (mNL (miB 196) + 11) + (rmN 196).locals ≤ (rmN 199).locals by decide), by rw [E.2.2.2]; exact (show 0 + (rmN 196).cells ≤ (rmN 199).cells by decide), by rw [E.2.2.2]; exact (show 0 + (rmN 196).slots ≤ (rmN 199).slots by decide)⟩ (Nat.le_of_ble_eq_true rfl) (fun vv s286 hq => ?_) (fun ee s286 hq => ?_)
            rotate_left
            · obtain ⟨Is286, Fs286, e287, hv, hrs286, hps286⟩ := hq; cases hv
            obtain ⟨Is286, Fs286, e287, hv, hrs286, hps286⟩ := hq
            cases hv
            have Gs286 := fm_ts Gs274 Fs286 (by decide) (by decide)
            have JTD_s286 : TD s286 := TD_fm Fs286 (by decide) JTD_s274
            have b288 : (0 : Int) ≤ iI s286 77 ∧ iI s286 77 ≤ 400 := Is286.1 77
            have ws286_75 : iI s286 75 = iI s274 75 := fm_i Fs286 (by decide)
            have b289 : (0 : Int) ≤ iI s286 79 ∧ iI s286 79 ≤ 9 := Is286.1 79
            have ws286_91 : iI s286 91 = iI s274 91 := fm_i Fs286 (by decide)
            show WS k 131 [(3, .int (Int32.ofInt 1)), (2, .int (Int32.ofInt e8)), (1, .int (Int32.ofInt (iI s 77))), (0, .ref (A 179))] [.int (Int32.ofInt e287)] (Wd A dT s286) 0 0
            refine z_goto X (t := 135) (show cdA 199 131 = some (.goto 4, 3, 0, 0, 0) from rfl) (by decide) ?_
            refine z_store X (lv' := [(4, .int (Int32.ofInt e287)), (3, .int (Int32.ofInt 1)), (2, .int (Int32.ofInt e8)), (1, .int (Int32.ofInt (iI s 77))), (0, .ref (A 179))]) (show cdA 199 135 = some (.istore 4, 2, 0, 0, 0) from rfl) (by decide) (fun _ h => h) ?_
            refine z_const X (show cdA 199 137 = some (.iconst 0, 1, 0, 0, 0) from rfl) ?_
            refine z_store X (lv' := [(5, .int (Int32.ofInt 0)), (4, .int (Int32.ofInt e287)), (3, .int (Int32.ofInt 1)), (2, .int (Int32.ofInt e8)), (1, .int (Int32.ofInt (iI s 77))), (0, .ref (A 179))]) (show cdA 199 138 = some (.istore 5, 2, 0, 0, 0) from rfl) (by decide) (fun _ h => h) ?_
            refine WS_lv (lv := [(0, .ref (A 179)), (1, .int (Int32.ofInt (iI s 77))), (3, .int (Int32.ofInt 1)), (4, .int (Int32.ofInt e287)), (5, .int (Int32.ofInt 0))]) (List.forall_mem_cons.mpr ⟨(List.Mem.tail _ (List.Mem.tail _ (List.Mem.tail _ (List.Mem.tail _ (List.Mem.tail _ (List.Mem.head _)))))), (List.forall_mem_cons.mpr ⟨(List.Mem.tail _ (List.Mem.tail _ (List.Mem.tail _ (List.Mem.tail _ (List.Mem.head _))))), (List.forall_mem_cons.mpr ⟨(List.Mem.tail _ (List.Mem.tail _ (List.Mem.head _))), (List.forall_mem_cons.mpr ⟨(List.Mem.tail _ (List.Mem.head _)), (List.forall_mem_cons.mpr ⟨(List.Mem.head _), (fun q h => absurd h List.not_mem_nil)⟩)⟩)⟩)⟩)⟩) ?_
            refine L140 ((e287 - 0 : Int)).toNat s286 (iI s 77) 1 e287 0 Is286 Gs286 JTD_s286 (by omega) (by omega) ?_
            intro s290 x291 x292 x293 x294 Is290 Fs290 JTD_s290 hs290
            have b295 : (0 : Int) ≤ iI s290 77 ∧ iI s290 77 ≤ 400 := Is290.1 77
            have b296 : (0 : Int) ≤ iI s290 75 ∧ iI s290 75 ≤ 200 := Is290.1 75
            have b297 : (0 : Int) ≤ iI s290 79 ∧ iI s290 79 ≤ 9 := Is290.1 79
            have b298 : (0 : Int) ≤ iI s290 91 ∧ iI s290 91 ≤ 24 := Is290.1 91
            exact w_vret X.1 q hRt (ax_d X (show cdA 199 245 = some (.return_, 1, 0, 0, 0) from rfl)) (Nat.zero_le _) (Nat.zero_le _) ⟨_, rfl, Is290, Fs290, JTD_s290, rfl, by omega⟩
      ·
        refine z_aload_n X (x := A 179) (show cdA 199 81 = some (.aload_n 0, 1, 0, 0, 0) from rfl) (List.Mem.tail _ (List.Mem.tail _ (List.Mem.tail _ (List.Mem.head _)))) ?_
        refine z_const X (show cdA 199 82 = some (.iconst 1, 1, 0, 0, 0) from rfl) ?_
        refine z_aload_n X (x := A 179) (show cdA 199 83 = some (.aload_n 0, 1, 0, 0, 0) from rfl) (List.Mem.tail _ (List.Mem.tail _ (List.Mem.tail _ (List.Mem.head _)))) ?_
        refine z_getI X 179 (show cdA 199 84 = some (.getfield 184, 3, 12, 4, 0) from rfl) (by decide) rfl rfl ?_
        have b299 : (0 : Int) ≤ iI s7 77 ∧ iI s7 77 ≤ 400 := Is7.1 77
        refine z_callV X 179 (rm := rmN 194) (As := [.int (Int32.ofInt 1), .int (Int32.ofInt (iI s7 77))]) (st := []) (show cdA 199 87 = some (.invokevirtual 204, 3, 194, 0, 0) from rfl) rfl (by decide) rfl (by rw [E.1, E.2.1, E.2.2.1]; exact k_wrong G Is7 (by omega) (by omega)) ⟨by rw [E.2.2.2]; exact (show (rmN 194).frames + 1 ≤ (rmN 199).frames by decide), by rw [E.2.2.2]; exact (show 8 + (mNL (miB 194) + 11) + (rmN 194).locals ≤ (rmN 199).locals by decide), by rw [E.2.2.2]; exact (show 0 + (rmN 194).cells ≤ (rmN 199).cells by decide), by rw [E.2.2.2]; exact (show 0 + (rmN 194).slots ≤ (rmN 199).slots by decide)⟩ (Nat.le_of_ble_eq_true rfl) (fun vv s300 hq => ?_) (fun ee s300 hq => ?_)
        rotate_left
        · obtain ⟨Is300, Fs300, hv, hps300⟩ := hq; cases hv
        obtain ⟨Is300, Fs300, hv, hps300⟩ := hq
        cases hv
        have Gs300 := fm_ts Gs7 Fs300 (by decide) (by decide)
        have JTD_s300 : TD s300 := TD_fm Fs300 (by decide) JTD_s7
        have ws300_77 : iI s300 77 = iI s7 77 := fm_i Fs300 (by decide)
        have ws300_75 : iI s300 75 = iI s7 75 := fm_i Fs300 (by decide)
        have b302 : (0 : Int) ≤ iI s300 79 ∧ iI s300 79 ≤ 9 := Is300.1 79
        have ws300_91 : iI s300 91 = iI s7 91 := fm_i Fs300 (by decide)
        show WS k 90 [(3, .int (Int32.ofInt 1)), (2, .int (Int32.ofInt e8)), (1, .int (Int32.ofInt (iI s 77))), (0, .ref (A 179))] [] (Wd A dT s300) 0 0
        exact w_vret X.1 q hRt (ax_d X (show cdA 199 90 = some (.return_, 1, 0, 0, 0) from rfl)) (Nat.zero_le _) (Nat.zero_le _) ⟨_, rfl, Is300, Gs300, JTD_s300, rfl, by omega⟩
  ·
    refine z_const X (show cdA 199 20 = some (.iconst 0, 1, 0, 0, 0) from rfl) ?_
    refine z_goto X (t := 75) (show cdA 199 21 = some (.goto 54, 3, 0, 0, 0) from rfl) (by decide) ?_
    refine z_store_n X (lv' := [(3, .int (Int32.ofInt 0)), (2, .int (Int32.ofInt e8)), (1, .int (Int32.ofInt (iI s 77))), (0, .ref (A 179))]) (show cdA 199 75 = some (.istore_n 3, 1, 0, 0, 0) from rfl) (by decide) (fun _ h => h) ?_
    refine z_load_n X (x := 0) (show cdA 199 76 = some (.iload_n 3, 1, 0, 0, 0) from rfl) (List.Mem.head _) ?_
    refine z_const X (show cdA 199 77 = some (.iconst (-1), 1, 0, 0, 0) from rfl) ?_
    refine z_icmp_ne X (t := 91) (show cdA 199 78 = some (.if_icmp .ne 13, 3, 1, 0, 0) from rfl) (by decide) ⟨by omega, by omega⟩ ⟨by omega, by omega⟩ (fun g303 => ?_) (fun g303 => ?_)
    ·
      refine z_aload_n X (x := A 179) (show cdA 199 91 = some (.aload_n 0, 1, 0, 0, 0) from rfl) (List.Mem.tail _ (List.Mem.tail _ (List.Mem.tail _ (List.Mem.head _)))) ?_
      refine w_dup X.1 (ax_d X (show cdA 199 92 = some (.dup, 1, 0, 0, 0) from rfl)) rfl ?_
      refine z_getI X 179 (show cdA 199 93 = some (.getfield 184, 3, 12, 4, 0) from rfl) (by decide) rfl rfl ?_
      have b304 : (0 : Int) ≤ iI s7 77 ∧ iI s7 77 ≤ 400 := Is7.1 77
      refine z_const X (show cdA 199 96 = some (.iconst 1, 1, 0, 0, 0) from rfl) ?_
      refine z_add X (show cdA 199 97 = some (.iadd, 1, 0, 0, 0) from rfl) ?_
      refine s_putI X 179 (show cdA 199 98 = some (.putfield 184, 3, 12, 4, 0) from rfl) (by decide) rfl rfl (by decide) rfl rfl rfl ?_
      obtain ⟨s305, hs305⟩ : ∃ x0, x0 = uI s7 77 (Int32.ofInt ((iI s7 77) + 1)) := ⟨_, rfl⟩
      rw [← hs305]
      have Is305 : Bd s305 := by rw [hs305]; exact bd_I Is7 (show (0 : Int) ≤ ((iI s7 77) + 1) ∧ ((iI s7 77) + 1) ≤ 400 by omega) ⟨by omega, by omega⟩
      have Fs305 := fm_I (x := Int32.ofInt ((iI s7 77) + 1)) Gs7 (show 77 ∈ _ by decide)
      rw [← hs305] at Fs305
      have vs305 : iI s305 77 = ((iI s7 77) + 1) := by rw [hs305]; exact iI_u ⟨by omega, by omega⟩
      have ws305_75 : iI s305 75 = iI s7 75 := by rw [hs305]; rfl
      have ws305_79 : iI s305 79 = iI s7 79 := by rw [hs305]; rfl
      have ws305_91 : iI s305 91 = iI s7 91 := by rw [hs305]; rfl
      have fs305 : Fm [77] [] s7 s305 := by rw [hs305]; exact fm_I (fm_rf _ _ _) (show 77 ∈ _ by decide)
      have JTD_s305 : TD s305 := TD_fm fs305 (by decide) JTD_s7
      refine z_aload_n X (x := A 179) (show cdA 199 101 = some (.aload_n 0, 1, 0, 0, 0) from rfl) (List.Mem.tail _ (List.Mem.tail _ (List.Mem.tail _ (List.Mem.head _)))) ?_
      refine z_callV X 179 (rm := rmN 193) (As := []) (st := []) (show cdA 199 102 = some (.invokevirtual 197, 3, 193, 0, 0) from rfl) rfl (by decide) rfl (by rw [E.1, E.2.1, E.2.2.1]; exact k_blanks G Is305 (by omega)) ⟨by rw [E.2.2.2]; exact (show (rmN 193).frames + 1 ≤ (rmN 199).frames by decide), by rw [E.2.2.2]; exact (show 8 + (mNL (miB 193) + 11) + (rmN 193).locals ≤ (rmN 199).locals by decide), by rw [E.2.2.2]; exact (show 0 + (rmN 193).cells ≤ (rmN 199).cells by decide), by rw [E.2.2.2]; exact (show 0 + (rmN 193).slots ≤ (rmN 199).slots by decide)⟩ (Nat.le_of_ble_eq_true rfl) (fun vv s306 hq => ?_) (fun ee s306 hq => ?_)
      rotate_left
      · obtain ⟨Is306, Fs306, hv, hps306⟩ := hq; cases hv
      obtain ⟨Is306, Fs306, hv, hps306⟩ := hq
      cases hv
      have Gs306 := fm_ts Fs305 Fs306 (by decide) (by decide)
      have JTD_s306 : TD s306 := TD_fm Fs306 (by decide) JTD_s305
      have b308 : (0 : Int) ≤ iI s306 77 ∧ iI s306 77 ≤ 400 := Is306.1 77
      have ws306_75 : iI s306 75 = iI s305 75 := fm_i Fs306 (by decide)
      have ws306_79 : iI s306 79 = iI s305 79 := fm_i Fs306 (by decide)
      have ws306_91 : iI s306 91 = iI s305 91 := fm_i Fs306 (by decide)
      show WS k 105 [(3, .int (Int32.ofInt 0)), (2, .int (Int32.ofInt e8)), (1, .int (Int32.ofInt (iI s 77))), (0, .ref (A 179))] [] (Wd A dT s306) 0 0
      refine z_load_n X (x := 0) (show cdA 199 105 = some (.iload_n 3, 1, 0, 0, 0) from rfl) (List.Mem.head _) ?_
      refine z_const X (show cdA 199 106 = some (.iconst 4, 1, 0, 0, 0) from rfl) ?_
      refine z_icmp_ge X (t := 134) (show cdA 199 107 = some (.if_icmp .ge 27, 3, 3, 0, 0) from rfl) (by decide) ⟨by omega, by omega⟩ ⟨by omega, by omega⟩ (fun g309 => ?_) (fun g309 => ?_)
      ·
        refine z_const X (show cdA 199 134 = some (.iconst 1, 1, 0, 0, 0) from rfl) ?_
        refine z_store X (lv' := [(4, .int (Int32.ofInt 1)), (3, .int (Int32.ofInt 0)), (2, .int (Int32.ofInt e8)), (1, .int (Int32.ofInt (iI s 77))), (0, .ref (A 179))]) (show cdA 199 135 = some (.istore 4, 2, 0, 0, 0) from rfl) (by decide) (fun _ h => h) ?_
        refine z_const X (show cdA 199 137 = some (.iconst 0, 1, 0, 0, 0) from rfl) ?_
        refine z_store X (lv' := [(5, .int (Int32.ofInt 0)), (4, .int (Int32.ofInt 1)), (3, .int (Int32.ofInt 0)), (2, .int (Int32.ofInt e8)), (1, .int (Int32.ofInt (iI s 77))), (0, .ref (A 179))]) (show cdA 199 138 = some (.istore 5, 2, 0, 0, 0) from rfl) (by decide) (fun _ h => h) ?_
        refine WS_lv (lv := [(0, .ref (A 179)), (1, .int (Int32.ofInt (iI s 77))), (3, .int (Int32.ofInt 0)), (4, .int (Int32.ofInt 1)), (5, .int (Int32.ofInt 0))]) (List.forall_mem_cons.mpr ⟨(List.Mem.tail _ (List.Mem.tail _ (List.Mem.tail _ (List.Mem.tail _ (List.Mem.tail _ (List.Mem.head _)))))), (List.forall_mem_cons.mpr ⟨(List.Mem.tail _ (List.Mem.tail _ (List.Mem.tail _ (List.Mem.tail _ (List.Mem.head _))))), (List.forall_mem_cons.mpr ⟨(List.Mem.tail _ (List.Mem.tail _ (List.Mem.head _))), (List.forall_mem_cons.mpr ⟨(List.Mem.tail _ (List.Mem.head _)), (List.forall_mem_cons.mpr ⟨(List.Mem.head _), (fun q h => absurd h List.not_mem_nil)⟩)⟩)⟩)⟩)⟩) ?_
        refine L140 ((1 - 0 : Int)).toNat s306 (iI s 77) 0 1 0 Is306 Gs306 JTD_s306 (by omega) (by omega) ?_
        intro s310 x311 x312 x313 x314 Is310 Fs310 JTD_s310 hs310
        have b315 : (0 : Int) ≤ iI s310 77 ∧ iI s310 77 ≤ 400 := Is310.1 77
        have b316 : (0 : Int) ≤ iI s310 75 ∧ iI s310 75 ≤ 200 := Is310.1 75
        have b317 : (0 : Int) ≤ iI s310 79 ∧ iI s310 79 ≤ 9 := Is310.1 79
        have b318 : (0 : Int) ≤ iI s310 91 ∧ iI s310 91 ≤ 24 := Is310.1 91
        exact w_vret X.1 q hRt (ax_d X (show cdA 199 245 = some (.return_, 1, 0, 0, 0) from rfl)) (Nat.zero_le _) (Nat.zero_le _) ⟨_, rfl, Is310, Fs310, JTD_s310, rfl, by omega⟩
      ·
        refine z_aload_n X (x := A 179) (show cdA 199 110 = some (.aload_n 0, 1, 0, 0, 0) from rfl) (List.Mem.tail _ (List.Mem.tail _ (List.Mem.tail _ (List.Mem.head _)))) ?_
        refine z_aload_n X (x := A 179) (show cdA 199 111 = some (.aload_n 0, 1, 0, 0, 0) from rfl) (List.Mem.tail _ (List.Mem.tail _ (List.Mem.tail _ (List.Mem.head _)))) ?_
        refine z_getI X 179 (show cdA 199 112 = some (.getfield 184, 3, 12, 4, 0) from rfl) (by decide) rfl rfl ?_
        have b319 : (0 : Int) ≤ iI s306 77 ∧ iI s306 77 ≤ 400 := Is306.1 77
        refine z_callV X 179 (rm := rmN 192) (As := [.int (Int32.ofInt (iI s306 77))]) (st := []) (show cdA 199 115 = some (.invokevirtual 187, 3, 192, 0, 0) from rfl) rfl (by decide) rfl (by rw [E.1, E.2.1, E.2.2.1]; exact k_byteAt G Is306 (by omega)) ⟨by rw [E.2.2.2]; exact (show (rmN 192).frames + 1 ≤ (rmN 199).frames by decide), by rw [E.2.2.2]; exact (show 8 + (mNL (miB 192) + 11) + (rmN 192).locals ≤ (rmN 199).locals by decide), by rw [E.2.2.2]; exact (show 0 + (rmN 192).cells ≤ (rmN 199).cells by decide), by rw [E.2.2.2]; exact (show 0 + (rmN 192).slots ≤ (rmN 199).slots by decide)⟩ (Nat.le_of_ble_eq_true rfl) (fun vv s320 hq => ?_) (fun ee s320 hq => ?_)
        rotate_left
        · obtain ⟨Is320, Fs320, e321, hv, hrs320, hps320⟩ := hq; cases hv
        obtain ⟨Is320, Fs320, e321, hv, hrs320, hps320⟩ := hq
        cases hv
        have Gs320 := fm_ts Gs306 Fs320 (by decide) (by decide)
        have JTD_s320 : TD s320 := TD_fm Fs320 (by decide) JTD_s306
        have ws320_77 : iI s320 77 = iI s306 77 := fm_i Fs320 (by decide)
        have ws320_75 : iI s320 75 = iI s306 75 := fm_i Fs320 (by decide)
        have ws320_79 : iI s320 79 = iI s306 79 := fm_i Fs320 (by decide)
        have ws320_91 : iI s320 91 = iI s306 91 := fm_i Fs320 (by decide)
        show WS k 118 [(3, .int (Int32.ofInt 0)), (2, .int (Int32.ofInt e8)), (1, .int (Int32.ofInt (iI s 77))), (0, .ref (A 179))] [.int (Int32.ofInt e321)] (Wd A dT s320) 0 0
        refine z_callS X (rm := rmN 195) (As := [.int (Int32.ofInt e321)]) (st := []) (show cdA 199 118 = some (.invokestatic 200, 3, 195, 1, 0) from rfl) rfl (by rw [E.1, E.2.1, E.2.2.1]; exact k_isDigit G Is320 (by omega)) ⟨by rw [E.2.2.2]; exact (show (rmN 195).frames + 1 ≤ (rmN 199).frames by decide), by rw [E.2.2.2]; exact (show 8 + (mNL (miB 195) + 11) + (rmN 195).locals ≤ (rmN 199).locals by decide), by rw [E.2.2.2]; exact (show 0 + (rmN 195).cells ≤ (rmN 199).cells by decide), by rw [E.2.2.2]; exact (show 0 + (rmN 195).slots ≤ (rmN 199).slots by decide)⟩ (Nat.le_of_ble_eq_true rfl) (fun vv s322 hq => ?_) (fun ee s322 hq => ?_)
        rotate_left
        · obtain ⟨Is322, Fs322, e323, hv, hrs322, hps322⟩ := hq; cases hv
        obtain ⟨Is322, Fs322, e323, hv, hrs322, hps322⟩ := hq
        cases hv
        have Gs322 := fm_ts Gs320 Fs322 (by decide) (by decide)
        have JTD_s322 : TD s322 := TD_fm Fs322 (by decide) JTD_s320
        have ws322_77 : iI s322 77 = iI s320 77 := fm_i Fs322 (by decide)
        have ws322_75 : iI s322 75 = iI s320 75 := fm_i Fs322 (by decide)
        have ws322_79 : iI s322 79 = iI s320 79 := fm_i Fs322 (by decide)
        have ws322_91 : iI s322 91 = iI s320 91 := fm_i Fs322 (by decide)
        show WS k 121 [(3, .int (Int32.ofInt 0)), (2, .int (Int32.ofInt e8)), (1, .int (Int32.ofInt (iI s 77))), (0, .ref (A 179))] [.int (Int32.ofInt e323)] (Wd A dT s322) 0 0
        refine z_if_eq X (t := 134) (show cdA 199 121 = some (.ifCond .eq 13, 3, 0, 0, 0) from rfl) (by decide) ⟨by omega, by omega⟩ (fun g324 => ?_) (fun g324 => ?_)
        ·
          refine z_const X (show cdA 199 134 = some (.iconst 1, 1, 0, 0, 0) from rfl) ?_
          refine z_store X (lv' := [(4, .int (Int32.ofInt 1)), (3, .int (Int32.ofInt 0)), (2, .int (Int32.ofInt e8)), (1, .int (Int32.ofInt (iI s 77))), (0, .ref (A 179))]) (show cdA 199 135 = some (.istore 4, 2, 0, 0, 0) from rfl) (by decide) (fun _ h => h) ?_
          refine z_const X (show cdA 199 137 = some (.iconst 0, 1, 0, 0, 0) from rfl) ?_
          refine z_store X (lv' := [(5, .int (Int32.ofInt 0)), (4, .int (Int32.ofInt 1)), (3, .int (Int32.ofInt 0)), (2, .int (Int32.ofInt e8)), (1, .int (Int32.ofInt (iI s 77))), (0, .ref (A 179))]) (show cdA 199 138 = some (.istore 5, 2, 0, 0, 0) from rfl) (by decide) (fun _ h => h) ?_
          refine WS_lv (lv := [(0, .ref (A 179)), (1, .int (Int32.ofInt (iI s 77))), (3, .int (Int32.ofInt 0)), (4, .int (Int32.ofInt 1)), (5, .int (Int32.ofInt 0))]) (List.forall_mem_cons.mpr ⟨(List.Mem.tail _ (List.Mem.tail _ (List.Mem.tail _ (List.Mem.tail _ (List.Mem.tail _ (List.Mem.head _)))))), (List.forall_mem_cons.mpr ⟨(List.Mem.tail _ (List.Mem.tail _ (List.Mem.tail _ (List.Mem.tail _ (List.Mem.head _))))), (List.forall_mem_cons.mpr ⟨(List.Mem.tail _ (List.Mem.tail _ (List.Mem.head _))), (List.forall_mem_cons.mpr ⟨(List.Mem.tail _ (List.Mem.head _)), (List.forall_mem_cons.mpr ⟨(List.Mem.head _), (fun q h => absurd h List.not_mem_nil)⟩)⟩)⟩)⟩)⟩) ?_
          refine L140 ((1 - 0 : Int)).toNat s322 (iI s 77) 0 1 0 Is322 Gs322 JTD_s322 (by omega) (by omega) ?_
          intro s325 x326 x327 x328 x329 Is325 Fs325 JTD_s325 hs325
          have b330 : (0 : Int) ≤ iI s325 77 ∧ iI s325 77 ≤ 400 := Is325.1 77
          have b331 : (0 : Int) ≤ iI s325 75 ∧ iI s325 75 ≤ 200 := Is325.1 75
          have b332 : (0 : Int) ≤ iI s325 79 ∧ iI s325 79 ≤ 9 := Is325.1 79
          have b333 : (0 : Int) ≤ iI s325 91 ∧ iI s325 91 ≤ 24 := Is325.1 91
          exact w_vret X.1 q hRt (ax_d X (show cdA 199 245 = some (.return_, 1, 0, 0, 0) from rfl)) (Nat.zero_le _) (Nat.zero_le _) ⟨_, rfl, Is325, Fs325, JTD_s325, rfl, by omega⟩
        ·
          refine z_aload_n X (x := A 179) (show cdA 199 124 = some (.aload_n 0, 1, 0, 0, 0) from rfl) (List.Mem.tail _ (List.Mem.tail _ (List.Mem.tail _ (List.Mem.head _)))) ?_
          refine z_const X (show cdA 199 125 = some (.iconst 1, 1, 0, 0, 0) from rfl) ?_
          refine z_bipush X (show cdA 199 126 = some (.bipush 7, 2, 0, 0, 7) from rfl) ?_
          refine z_callV X 179 (rm := rmN 196) (As := [.int (Int32.ofInt 1), .int (Int32.ofInt 7)]) (st := []) (show cdA 199 128 = some (.invokevirtual 219, 3, 196, 0, 0) from rfl) rfl (by decide) rfl (by rw [E.1, E.2.1, E.2.2.1]; exact k_number G Is322 (by omega) (by omega) (by omega)) ⟨by rw [E.2.2.2]; exact (show (rmN 196).frames + 1 ≤ (rmN 199).frames by decide), by rw [E.2.2.2]; exact (show 8 + (mNL (miB 196) + 11) + (rmN 196).locals ≤ (rmN 199).locals by decide), by rw [E.2.2.2]; exact (show 0 + (rmN 196).cells ≤ (rmN 199).cells by decide), by rw [E.2.2.2]; exact (show 0 + (rmN 196).slots ≤ (rmN 199).slots by decide)⟩ (Nat.le_of_ble_eq_true rfl) (fun vv s334 hq => ?_) (fun ee s334 hq => ?_)
          rotate_left
          · obtain ⟨Is334, Fs334, e335, hv, hrs334, hps334⟩ := hq; cases hv
          obtain ⟨Is334, Fs334, e335, hv, hrs334, hps334⟩ := hq
          cases hv
          have Gs334 := fm_ts Gs322 Fs334 (by decide) (by decide)
          have JTD_s334 : TD s334 := TD_fm Fs334 (by decide) JTD_s322
          have b336 : (0 : Int) ≤ iI s334 77 ∧ iI s334 77 ≤ 400 := Is334.1 77
          have ws334_75 : iI s334 75 = iI s322 75 := fm_i Fs334 (by decide)
          have b337 : (0 : Int) ≤ iI s334 79 ∧ iI s334 79 ≤ 9 := Is334.1 79
          have ws334_91 : iI s334 91 = iI s322 91 := fm_i Fs334 (by decide)
          show WS k 131 [(3, .int (Int32.ofInt 0)), (2, .int (Int32.ofInt e8)), (1, .int (Int32.ofInt (iI s 77))), (0, .ref (A 179))] [.int (Int32.ofInt e335)] (Wd A dT s334) 0 0
          refine z_goto X (t := 135) (show cdA 199 131 = some (.goto 4, 3, 0, 0, 0) from rfl) (by decide) ?_
          refine z_store X (lv' := [(4, .int (Int32.ofInt e335)), (3, .int (Int32.ofInt 0)), (2, .int (Int32.ofInt e8)), (1, .int (Int32.ofInt (iI s 77))), (0, .ref (A 179))]) (show cdA 199 135 = some (.istore 4, 2, 0, 0, 0) from rfl) (by decide) (fun _ h => h) ?_
          refine z_const X (show cdA 199 137 = some (.iconst 0, 1, 0, 0, 0) from rfl) ?_
          refine z_store X (lv' := [(5, .int (Int32.ofInt 0)), (4, .int (Int32.ofInt e335)), (3, .int (Int32.ofInt 0)), (2, .int (Int32.ofInt e8)), (1, .int (Int32.ofInt (iI s 77))), (0, .ref (A 179))]) (show cdA 199 138 = some (.istore 5, 2, 0, 0, 0) from rfl) (by decide) (fun _ h => h) ?_
          refine WS_lv (lv := [(0, .ref (A 179)), (1, .int (Int32.ofInt (iI s 77))), (3, .int (Int32.ofInt 0)), (4, .int (Int32.ofInt e335)), (5, .int (Int32.ofInt 0))]) (List.forall_mem_cons.mpr ⟨(List.Mem.tail _ (List.Mem.tail _ (List.Mem.tail _ (List.Mem.tail _ (List.Mem.tail _ (List.Mem.head _)))))), (List.forall_mem_cons.mpr ⟨(List.Mem.tail _ (List.Mem.tail _ (List.Mem.tail _ (List.Mem.tail _ (List.Mem.head _))))), (List.forall_mem_cons.mpr ⟨(List.Mem.tail _ (List.Mem.tail _ (List.Mem.head _))), (List.forall_mem_cons.mpr ⟨(List.Mem.tail _ (List.Mem.head _)), (List.forall_mem_cons.mpr ⟨(List.Mem.head _), (fun q h => absurd h List.not_mem_nil)⟩)⟩)⟩)⟩)⟩) ?_
          refine L140 ((e335 - 0 : Int)).toNat s334 (iI s 77) 0 e335 0 Is334 Gs334 JTD_s334 (by omega) (by omega) ?_
          intro s338 x339 x340 x341 x342 Is338 Fs338 JTD_s338 hs338
          have b343 : (0 : Int) ≤ iI s338 77 ∧ iI s338 77 ≤ 400 := Is338.1 77
          have b344 : (0 : Int) ≤ iI s338 75 ∧ iI s338 75 ≤ 200 := Is338.1 75
          have b345 : (0 : Int) ≤ iI s338 79 ∧ iI s338 79 ≤ 9 := Is338.1 79
          have b346 : (0 : Int) ≤ iI s338 91 ∧ iI s338 91 ≤ 24 := Is338.1 91
          exact w_vret X.1 q hRt (ax_d X (show cdA 199 245 = some (.return_, 1, 0, 0, 0) from rfl)) (Nat.zero_le _) (Nat.zero_le _) ⟨_, rfl, Is338, Fs338, JTD_s338, rfl, by omega⟩
    ·
      refine z_aload_n X (x := A 179) (show cdA 199 81 = some (.aload_n 0, 1, 0, 0, 0) from rfl) (List.Mem.tail _ (List.Mem.tail _ (List.Mem.tail _ (List.Mem.head _)))) ?_
      refine z_const X (show cdA 199 82 = some (.iconst 1, 1, 0, 0, 0) from rfl) ?_
      refine z_aload_n X (x := A 179) (show cdA 199 83 = some (.aload_n 0, 1, 0, 0, 0) from rfl) (List.Mem.tail _ (List.Mem.tail _ (List.Mem.tail _ (List.Mem.head _)))) ?_
      refine z_getI X 179 (show cdA 199 84 = some (.getfield 184, 3, 12, 4, 0) from rfl) (by decide) rfl rfl ?_
      have b347 : (0 : Int) ≤ iI s7 77 ∧ iI s7 77 ≤ 400 := Is7.1 77
      refine z_callV X 179 (rm := rmN 194) (As := [.int (Int32.ofInt 1), .int (Int32.ofInt (iI s7 77))]) (st := []) (show cdA 199 87 = some (.invokevirtual 204, 3, 194, 0, 0) from rfl) rfl (by decide) rfl (by rw [E.1, E.2.1, E.2.2.1]; exact k_wrong G Is7 (by omega) (by omega)) ⟨by rw [E.2.2.2]; exact (show (rmN 194).frames + 1 ≤ (rmN 199).frames by decide), by rw [E.2.2.2]; exact (show 8 + (mNL (miB 194) + 11) + (rmN 194).locals ≤ (rmN 199).locals by decide), by rw [E.2.2.2]; exact (show 0 + (rmN 194).cells ≤ (rmN 199).cells by decide), by rw [E.2.2.2]; exact (show 0 + (rmN 194).slots ≤ (rmN 199).slots by decide)⟩ (Nat.le_of_ble_eq_true rfl) (fun vv s348 hq => ?_) (fun ee s348 hq => ?_)
      rotate_left
      · obtain ⟨Is348, Fs348, hv, hps348⟩ := hq; cases hv
      obtain ⟨Is348, Fs348, hv, hps348⟩ := hq
      cases hv
      have Gs348 := fm_ts Gs7 Fs348 (by decide) (by decide)
      have JTD_s348 : TD s348 := TD_fm Fs348 (by decide) JTD_s7
      have ws348_77 : iI s348 77 = iI s7 77 := fm_i Fs348 (by decide)
      have ws348_75 : iI s348 75 = iI s7 75 := fm_i Fs348 (by decide)
      have b350 : (0 : Int) ≤ iI s348 79 ∧ iI s348 79 ≤ 9 := Is348.1 79
      have ws348_91 : iI s348 91 = iI s7 91 := fm_i Fs348 (by decide)
      show WS k 90 [(3, .int (Int32.ofInt 0)), (2, .int (Int32.ofInt e8)), (1, .int (Int32.ofInt (iI s 77))), (0, .ref (A 179))] [] (Wd A dT s348) 0 0
      exact w_vret X.1 q hRt (ax_d X (show cdA 199 90 = some (.return_, 1, 0, 0, 0) from rfl)) (Nat.zero_le _) (Nat.zero_le _) ⟨_, rfl, Is348, Gs348, JTD_s348, rfl, by omega⟩
end M36
