/-! The model: one move of a way -/
section M36
variable {l : Launch} {s0 : State} {D : va_G} {tys : List (ClassId × FieldType)} {a0 : Array Value} {A : Nat → Nat} {dT : Nat → ClassId} {s : PS}
theorem k_move (G : GX l s0 D tys a0 dT) (I : Bd s) (jTD : TD s) (p0 : iI s 77 ≤ 380) (p1 : 1 ≤ iI s 91) : CT l s0 D A dT 199 (rmN 199) [.ref (A 179)] s (fun o t => Bd t ∧ Fm [77, 79, 80, 91] [165] s t ∧ TD t ∧ o = .inl none ∧ ((iI t 79 ≠ 0 ∨ iI s 77 < iI t 77) ∧ (iI t 77 ≤ iI s 77 + 1 ∨ iI t 77 ≤ iI s 75) ∧ 1 ≤ iI t 91 ∧ (iI s 79 ≠ 0 → iI t 79 ≠ 0) ∧ iI s 77 ≤ iI t 77)) := by
  refine ct_of G (by decide) (Nat.le_of_ble_eq_true rfl) (fun k X E hRt hXt q => ?_)
  show WS k 0 [(0, .ref (A 179))] [] _ 0 0
  have F : Fm [77, 79, 80, 91] [165] s s := fm_rf _ _ s
  have b1 : (0 : Int) ≤ iI s 77 ∧ iI s 77 ≤ 400 := I.1 77
  have b2 : (0 : Int) ≤ iI s 75 ∧ iI s 75 ≤ 200 := I.1 75
  have b3 : (0 : Int) ≤ iI s 79 ∧ iI s 79 ≤ 9 := I.1 79
  have b4 : (0 : Int) ≤ iI s 91 ∧ iI s 91 ≤ 24 := I.1 91
  have L140 : ∀ (n : Nat) (t : PS) (lt stp tm kk : Int), Bd t → Fm [77, 79, 80, 91] [165] s t → TD t → ((0 ≤ lt ∧ lt ≤ 400) ∧ (0 ≤ stp ∧ stp ≤ 5) ∧ rng tm ∧ tm ≤ 100000 ∧ 0 ≤ kk ∧ kk ≤ 100000 ∧ 1 ≤ iI t 91 ∧ iI s 77 < iI t 77 ∧ (iI t 77 ≤ iI s 77 + 1 ∨ iI t 77 ≤ iI s 75) ∧ (iI s 79 ≠ 0 → iI t 79 ≠ 0)) → (tm - kk : Int).toNat < n → (∀ (t' : PS) (lt' stp' tm' kk' : Int), Bd t' → Fm [77, 79, 80, 91] [165] s t' → TD t' → ((0 ≤ lt' ∧ lt' ≤ 400) ∧ (0 ≤ stp' ∧ stp' ≤ 5) ∧ rng tm' ∧ tm' ≤ 100000 ∧ 0 ≤ kk' ∧ kk' ≤ 100000 ∧ 1 ≤ iI t' 91 ∧ iI s 77 < iI t' 77 ∧ (iI t' 77 ≤ iI s 77 + 1 ∨ iI t' 77 ≤ iI s 75) ∧ (iI s 79 ≠ 0 → iI t' 79 ≠ 0)) → WS k 245 [(0, .ref (A 179)), (1, .int (Int32.ofInt lt')), (3, .int (Int32.ofInt stp')), (4, .int (Int32.ofInt tm')), (5, .int (Int32.ofInt kk'))] [] (Wd A dT t') 0 0) → WS k 140 [(0, .ref (A 179)), (1, .int (Int32.ofInt lt)), (3, .int (Int32.ofInt stp)), (4, .int (Int32.ofInt tm)), (5, .int (Int32.ofInt kk))] [] (Wd A dT t) 0 0 := by
    intro n
    induction n with
    | zero =>
      intro t lt stp tm kk I F jjTD hi hm kx
      exact absurd hm (Nat.not_lt_zero _)
    | succ n ih =>
      intro t lt stp tm kk I F jjTD hi hm kx
      have b1001 : (0 : Int) ≤ iI t 77 ∧ iI t 77 ≤ 400 := I.1 77
      have b1002 : (0 : Int) ≤ iI t 75 ∧ iI t 75 ≤ 200 := I.1 75
      have b1003 : (0 : Int) ≤ iI t 79 ∧ iI t 79 ≤ 9 := I.1 79
      have b1004 : (0 : Int) ≤ iI t 91 ∧ iI t 91 ≤ 24 := I.1 91
      refine z_load X (x := kk) (show cdA 199 140 = some (.iload 5, 2, 0, 0, 0) from rfl) (List.Mem.tail _ (List.Mem.tail _ (List.Mem.tail _ (List.Mem.tail _ (List.Mem.head _))))) ?_
      refine z_load X (x := tm) (show cdA 199 142 = some (.iload 4, 2, 0, 0, 0) from rfl) (List.Mem.tail _ (List.Mem.tail _ (List.Mem.tail _ (List.Mem.head _)))) ?_
      refine z_icmp_ge X (t := 245) (show cdA 199 144 = some (.if_icmp .ge 101, 3, 3, 0, 0) from rfl) (by decide) ⟨by first | exact oq_fa4e5087 hi.2.2.2.2.1 | omega, by first | exact oq_25953902 hi.2.2.2.2.2.1 | omega⟩ ⟨by first | exact hi.2.2.1.1 | omega, by first | exact hi.2.2.1.2 | omega⟩ (fun g1005 => ?_) (fun g1005 => ?_)
      ·
        refine WS_lv (lv := [(0, .ref (A 179)), (1, .int (Int32.ofInt lt)), (3, .int (Int32.ofInt stp)), (4, .int (Int32.ofInt tm)), (5, .int (Int32.ofInt kk))]) (List.forall_mem_cons.mpr ⟨(List.Mem.head _), (List.forall_mem_cons.mpr ⟨(List.Mem.tail _ (List.Mem.head _)), (List.forall_mem_cons.mpr ⟨(List.Mem.tail _ (List.Mem.tail _ (List.Mem.head _))), (List.forall_mem_cons.mpr ⟨(List.Mem.tail _ (List.Mem.tail _ (List.Mem.tail _ (List.Mem.head _)))), (List.forall_mem_cons.mpr ⟨(List.Mem.tail _ (List.Mem.tail _ (List.Mem.tail _ (List.Mem.tail _ (List.Mem.head _))))), (fun q h => absurd h List.not_mem_nil)⟩)⟩)⟩)⟩)⟩) ?_
        exact kx _ lt stp tm kk I F jjTD (by first | exact ⟨And.intro (hi.1.1) (hi.1.2), And.intro (hi.2.1.1) (hi.2.1.2), And.intro (hi.2.2.1.1) (hi.2.2.1.2), hi.2.2.2.1, hi.2.2.2.2.1, hi.2.2.2.2.2.1, hi.2.2.2.2.2.2.1, hi.2.2.2.2.2.2.2.1, hi.2.2.2.2.2.2.2.2.1, hi.2.2.2.2.2.2.2.2.2⟩ | omega)
      ·
        refine z_aload_n X (x := A 179) (show cdA 199 147 = some (.aload_n 0, 1, 0, 0, 0) from rfl) (List.Mem.head _) ?_
        refine z_getI X 179 (show cdA 199 148 = some (.getfield 191, 3, 12, 6, 0) from rfl) (by decide) rfl rfl ?_
        have b1006 : (0 : Int) ≤ iI t 79 ∧ iI t 79 ≤ 9 := I.1 79
        refine z_if_ne X (t := 245) (show cdA 199 151 = some (.ifCond .ne 94, 3, 1, 0, 0) from rfl) (by decide) (rng_to _) (fun g1007 => ?_) (fun g1007 => ?_)
        ·
          refine WS_lv (lv := [(0, .ref (A 179)), (1, .int (Int32.ofInt lt)), (3, .int (Int32.ofInt stp)), (4, .int (Int32.ofInt tm)), (5, .int (Int32.ofInt kk))]) (List.forall_mem_cons.mpr ⟨(List.Mem.head _), (List.forall_mem_cons.mpr ⟨(List.Mem.tail _ (List.Mem.head _)), (List.forall_mem_cons.mpr ⟨(List.Mem.tail _ (List.Mem.tail _ (List.Mem.head _))), (List.forall_mem_cons.mpr ⟨(List.Mem.tail _ (List.Mem.tail _ (List.Mem.tail _ (List.Mem.head _)))), (List.forall_mem_cons.mpr ⟨(List.Mem.tail _ (List.Mem.tail _ (List.Mem.tail _ (List.Mem.tail _ (List.Mem.head _))))), (fun q h => absurd h List.not_mem_nil)⟩)⟩)⟩)⟩)⟩) ?_
          exact kx _ lt stp tm kk I F jjTD (by first | exact ⟨And.intro (hi.1.1) (hi.1.2), And.intro (hi.2.1.1) (hi.2.1.2), And.intro (hi.2.2.1.1) (hi.2.2.1.2), hi.2.2.2.1, hi.2.2.2.2.1, hi.2.2.2.2.2.1, hi.2.2.2.2.2.2.1, hi.2.2.2.2.2.2.2.1, hi.2.2.2.2.2.2.2.2.1, hi.2.2.2.2.2.2.2.2.2⟩ | omega)
        ·
          refine z_aload_n X (x := A 179) (show cdA 199 154 = some (.aload_n 0, 1, 0, 0, 0) from rfl) (List.Mem.head _) ?_
          refine s_getR X 179 (show cdA 199 155 = some (.getfield 44, 3, 12, 26, 0) from rfl) (by decide) rfl rfl ?_
          refine z_aload_n X (x := A 179) (show cdA 199 158 = some (.aload_n 0, 1, 0, 0, 0) from rfl) (List.Mem.head _) ?_
          refine z_getI X 179 (show cdA 199 159 = some (.getfield 216, 3, 12, 27, 0) from rfl) (by decide) rfl rfl ?_
          have b1008 : (0 : Int) ≤ iI t 91 ∧ iI t 91 ≤ 24 := I.1 91
          refine z_const X (show cdA 199 162 = some (.iconst 1, 1, 0, 0, 0) from rfl) ?_
          refine z_sub X (show cdA 199 163 = some (.isub, 1, 0, 0, 0) from rfl) ?_
          have hT1009 := jjTD (((iI t 91) - 1) : Int).toNat (by omega)
          refine z_ald X 188 (show cdA 199 164 = some (.iaload, 1, 0, 0, 0) from rfl) (by decide) rfl (by first | exact oq_02aa5459 hi.2.2.2.2.2.2.1 | omega) (show ((iI t 91) - 1) < 24 by first | exact oq_19cb6f5b b1008.2 | omega) (by decide) ?_
          have b1010 : ((-2147483648) : Int) ≤ iC t 165 (((iI t 91) - 1)).toNat ∧ iC t 165 (((iI t 91) - 1)).toNat ≤ 2147483647 := I.2 165 _ (show (((iI t 91) - 1)).toNat < 24 by first | exact oq_f976b25c b1008.2 | omega)
          refine z_load_n X (x := stp) (show cdA 199 165 = some (.iload_n 3, 1, 0, 0, 0) from rfl) (List.Mem.tail _ (List.Mem.tail _ (List.Mem.head _))) ?_
          refine z_callS X (rm := rmN 190) (As := [.int (Int32.ofInt (iC t 165 (((iI t 91) - 1)).toNat)), .int (Int32.ofInt stp)]) (st := []) (show cdA 199 166 = some (.invokestatic 223, 3, 190, 1, 0) from rfl) rfl (by rw [E.1, E.2.1, E.2.2.1]; exact k_beside G I (by omega) (by first | exact ⟨hi.2.1.1, hi.2.1.2⟩ | omega)) ⟨by rw [E.2.2.2]; exact (show (rmN 190).frames + 1 ≤ (rmN 199).frames by decide), by rw [E.2.2.2]; exact (show 8 + (mNL (miB 190) + 11) + (rmN 190).locals ≤ (rmN 199).locals by decide), by rw [E.2.2.2]; exact (show 0 + (rmN 190).cells ≤ (rmN 199).cells by decide), by rw [E.2.2.2]; exact (show 0 + (rmN 190).slots ≤ (rmN 199).slots by decide)⟩ (Nat.le_of_ble_eq_true rfl) (fun vv s1011 hq => ?_) (fun ee s1011 hq => ?_)
          rotate_left
          · obtain ⟨Is1011, Fs1011, e1012, hv, hrs1011, hps1011⟩ := hq; cases hv
          obtain ⟨Is1011, Fs1011, e1012, hv, hrs1011, hps1011⟩ := hq
          cases hv
          have Gs1011 := fm_ts F Fs1011 (by decide) (by decide)
          have JTD_s1011 : TD s1011 := TD_fm Fs1011 (by decide) jjTD
          have ws1011_77 : iI s1011 77 = iI t 77 := fm_i Fs1011 (by decide)
          have ws1011_75 : iI s1011 75 = iI t 75 := fm_i Fs1011 (by decide)
          have ws1011_79 : iI s1011 79 = iI t 79 := fm_i Fs1011 (by decide)
          have ws1011_91 : iI s1011 91 = iI t 91 := fm_i Fs1011 (by decide)
          show WS k 169 [(0, .ref (A 179)), (1, .int (Int32.ofInt lt)), (3, .int (Int32.ofInt stp)), (4, .int (Int32.ofInt tm)), (5, .int (Int32.ofInt kk))] [.int (Int32.ofInt e1012)] (Wd A dT s1011) 0 0
          refine z_store X (lv' := [(6, .int (Int32.ofInt e1012)), (0, .ref (A 179)), (1, .int (Int32.ofInt lt)), (3, .int (Int32.ofInt stp)), (4, .int (Int32.ofInt tm)), (5, .int (Int32.ofInt kk))]) (show cdA 199 169 = some (.istore 6, 2, 0, 0, 0) from rfl) (by decide) (fun _ h => h) ?_
          refine z_load X (x := e1012) (show cdA 199 171 = some (.iload 6, 2, 0, 0, 0) from rfl) (List.Mem.head _) ?_
          refine z_const X (show cdA 199 173 = some (.iconst (-1), 1, 0, 0, 0) from rfl) ?_
          refine z_icmp_ne X (t := 186) (show cdA 199 174 = some (.if_icmp .ne 12, 3, 1, 0, 0) from rfl) (by decide) hrs1011 (by decide) (fun g1013 => ?_) (fun g1013 => ?_)
          ·
            refine z_aload_n X (x := A 179) (show cdA 199 186 = some (.aload_n 0, 1, 0, 0, 0) from rfl) (List.Mem.tail _ (List.Mem.head _)) ?_
            refine z_getI X 179 (show cdA 199 187 = some (.getfield 216, 3, 12, 27, 0) from rfl) (by decide) rfl rfl ?_
            have b1014 : (0 : Int) ≤ iI s1011 91 ∧ iI s1011 91 ≤ 24 := Is1011.1 91
            refine z_bipush X (show cdA 199 190 = some (.bipush 24, 2, 0, 0, 24) from rfl) ?_
            refine z_icmp_eq X (t := 204) (show cdA 199 192 = some (.if_icmp .eq 12, 3, 0, 0, 0) from rfl) (by decide) (rng_to _) (by decide) (fun g1015 => ?_) (fun g1015 => ?_)
            ·
              refine z_aload_n X (x := A 179) (show cdA 199 204 = some (.aload_n 0, 1, 0, 0, 0) from rfl) (List.Mem.tail _ (List.Mem.head _)) ?_
              refine z_const X (show cdA 199 205 = some (.iconst 4, 1, 0, 0, 0) from rfl) ?_
              refine z_load_n X (x := lt) (show cdA 199 206 = some (.iload_n 1, 1, 0, 0, 0) from rfl) (List.Mem.tail _ (List.Mem.tail _ (List.Mem.head _))) ?_
              refine z_callV X 179 (rm := rmN 194) (As := [.int (Int32.ofInt 4), .int (Int32.ofInt lt)]) (st := []) (show cdA 199 207 = some (.invokevirtual 204, 3, 194, 0, 0) from rfl) rfl (by decide) rfl (by rw [E.1, E.2.1, E.2.2.1]; exact k_wrong G Is1011 (by first | exact ⟨by decide, by decide⟩ | omega) (by first | exact ⟨oq_ca54ea22 hi.1.1, hi.1.2⟩ | omega)) ⟨by rw [E.2.2.2]; exact (show (rmN 194).frames + 1 ≤ (rmN 199).frames by decide), by rw [E.2.2.2]; exact (show 8 + (mNL (miB 194) + 11) + (rmN 194).locals ≤ (rmN 199).locals by decide), by rw [E.2.2.2]; exact (show 0 + (rmN 194).cells ≤ (rmN 199).cells by decide), by rw [E.2.2.2]; exact (show 0 + (rmN 194).slots ≤ (rmN 199).slots by decide)⟩ (Nat.le_of_ble_eq_true rfl) (fun vv s1016 hq => ?_) (fun ee s1016 hq => ?_)
              rotate_left
              · obtain ⟨Is1016, Fs1016, hv, hps1016⟩ := hq; cases hv
              obtain ⟨Is1016, Fs1016, hv, hps1016⟩ := hq
              cases hv
              have Gs1016 := fm_ts Gs1011 Fs1016 (by decide) (by decide)
              have JTD_s1016 : TD s1016 := TD_fm Fs1016 (by decide) JTD_s1011
              have ws1016_77 : iI s1016 77 = iI s1011 77 := fm_i Fs1016 (by decide)
              have ws1016_75 : iI s1016 75 = iI s1011 75 := fm_i Fs1016 (by decide)
              have b1018 : (0 : Int) ≤ iI s1016 79 ∧ iI s1016 79 ≤ 9 := Is1016.1 79
              have ws1016_91 : iI s1016 91 = iI s1011 91 := fm_i Fs1016 (by decide)
              show WS k 210 [(6, .int (Int32.ofInt e1012)), (0, .ref (A 179)), (1, .int (Int32.ofInt lt)), (3, .int (Int32.ofInt stp)), (4, .int (Int32.ofInt tm)), (5, .int (Int32.ofInt kk))] [] (Wd A dT s1016) 0 0
              refine z_aload_n X (x := A 179) (show cdA 199 210 = some (.aload_n 0, 1, 0, 0, 0) from rfl) (List.Mem.tail _ (List.Mem.head _)) ?_
              refine z_getI X 179 (show cdA 199 211 = some (.getfield 191, 3, 12, 6, 0) from rfl) (by decide) rfl rfl ?_
              have b1019 : (0 : Int) ≤ iI s1016 79 ∧ iI s1016 79 ≤ 9 := Is1016.1 79
              refine z_if_eq X (t := 218) (show cdA 199 214 = some (.ifCond .eq 4, 3, 0, 0, 0) from rfl) (by decide) (rng_to _) (fun g1020 => ?_) (fun g1020 => ?_)
              ·
                refine z_aload_n X (x := A 179) (show cdA 199 218 = some (.aload_n 0, 1, 0, 0, 0) from rfl) (List.Mem.tail _ (List.Mem.head _)) ?_
                refine s_getR X 179 (show cdA 199 219 = some (.getfield 44, 3, 12, 26, 0) from rfl) (by decide) rfl rfl ?_
                refine z_aload_n X (x := A 179) (show cdA 199 222 = some (.aload_n 0, 1, 0, 0, 0) from rfl) (List.Mem.tail _ (List.Mem.head _)) ?_
                refine z_getI X 179 (show cdA 199 223 = some (.getfield 216, 3, 12, 27, 0) from rfl) (by decide) rfl rfl ?_
                have b1021 : (0 : Int) ≤ iI s1016 91 ∧ iI s1016 91 ≤ 24 := Is1016.1 91
                refine z_load X (x := e1012) (show cdA 199 226 = some (.iload 6, 2, 0, 0, 0) from rfl) (List.Mem.head _) ?_
                refine z_ast X 188 (show cdA 199 228 = some (.iastore, 1, 0, 0, 0) from rfl) (by decide) rfl (by first | exact b1021.1 | omega) (show (iI s1016 91) < 24 by first | exact oq_51b59cde g1020 hps1016 | omega) (by decide) ?_
                obtain ⟨s1022, hs1022⟩ : ∃ x0, x0 = uC s1016 165 ((iI s1016 91)).toNat (Int32.ofInt e1012) := ⟨_, rfl⟩
                rw [← hs1022]
                have Is1022 : Bd s1022 := by rw [hs1022]; exact bd_C Is1016 (show ((-2147483648) : Int) ≤ e1012 ∧ e1012 ≤ 2147483647 by first | exact ⟨oq_97ee2c2a hps1011.2.1, oq_07d346ce hps1011.2.2⟩ | omega) hrs1011
                have Fs1022 := fm_C (i := ((iI s1016 91)).toNat) (x := Int32.ofInt e1012) Gs1016 (show 165 ∈ _ by decide)
                rw [← hs1022] at Fs1022
                have ws1022_77 : iI s1022 77 = iI s1016 77 := by rw [hs1022]; rfl
                have ws1022_75 : iI s1022 75 = iI s1016 75 := by rw [hs1022]; rfl
                have ws1022_79 : iI s1022 79 = iI s1016 79 := by rw [hs1022]; rfl
                have ws1022_91 : iI s1022 91 = iI s1016 91 := by rw [hs1022]; rfl
                refine z_aload_n X (x := A 179) (show cdA 199 229 = some (.aload_n 0, 1, 0, 0, 0) from rfl) (List.Mem.tail _ (List.Mem.head _)) ?_
                refine w_dup X.1 (ax_d X (show cdA 199 230 = some (.dup, 1, 0, 0, 0) from rfl)) rfl ?_
                refine z_getI X 179 (show cdA 199 231 = some (.getfield 216, 3, 12, 27, 0) from rfl) (by decide) rfl rfl ?_
                have b1023 : (0 : Int) ≤ iI s1022 91 ∧ iI s1022 91 ≤ 24 := Is1022.1 91
                refine z_const X (show cdA 199 234 = some (.iconst 1, 1, 0, 0, 0) from rfl) ?_
                refine z_add X (show cdA 199 235 = some (.iadd, 1, 0, 0, 0) from rfl) ?_
                refine s_putI X 179 (show cdA 199 236 = some (.putfield 216, 3, 12, 27, 0) from rfl) (by decide) rfl rfl (by decide) rfl rfl rfl ?_
                obtain ⟨s1024, hs1024⟩ : ∃ x0, x0 = uI s1022 91 (Int32.ofInt ((iI s1022 91) + 1)) := ⟨_, rfl⟩
                rw [← hs1024]
                have Is1024 : Bd s1024 := by rw [hs1024]; exact bd_I Is1022 (show (0 : Int) ≤ ((iI s1022 91) + 1) ∧ ((iI s1022 91) + 1) ≤ 24 by first | exact ⟨oq_54f49eb5 b1023.1, oq_280827c3 g1020 hps1016⟩ | omega) ⟨by first | exact oq_74de1e16 b1023.1 | omega, by first | exact oq_3a454424 b1023.2 | omega⟩
                have Fs1024 := fm_I (x := Int32.ofInt ((iI s1022 91) + 1)) Fs1022 (show 91 ∈ _ by decide)
                rw [← hs1024] at Fs1024
                have vs1024 : iI s1024 91 = ((iI s1022 91) + 1) := by rw [hs1024]; exact iI_u ⟨by first | exact oq_74de1e16 b1023.1 | omega, by first | exact oq_3a454424 b1023.2 | omega⟩
                have ws1024_77 : iI s1024 77 = iI s1022 77 := by rw [hs1024]; rfl
                have ws1024_75 : iI s1024 75 = iI s1022 75 := by rw [hs1024]; rfl
                have ws1024_79 : iI s1024 79 = iI s1022 79 := by rw [hs1024]; rfl
                have JTD_s1024 : TD s1024 := by
                  rw [hs1024, ws1022_91, hs1022]
                  exact TD_up JTD_s1016 rfl (by omega) (by omega)
                refine z_inc X (x := kk) (lv' := [(5, .int (Int32.ofInt (kk + 1))), (6, .int (Int32.ofInt e1012)), (0, .ref (A 179)), (1, .int (Int32.ofInt lt)), (3, .int (Int32.ofInt stp)), (4, .int (Int32.ofInt tm))]) (show cdA 199 239 = some (.iinc 5 1, 3, 0, 0, 0) from rfl) (by decide) (List.Mem.tail _ (List.Mem.tail _ (List.Mem.tail _ (List.Mem.tail _ (List.Mem.tail _ (List.Mem.head _)))))) (fun _ h => h) ?_
                refine z_goto X (t := 140) (show cdA 199 242 = some (.goto (-102), 3, 0, 0, 0) from rfl) (by decide) ?_
                refine WS_lv (lv := [(0, .ref (A 179)), (1, .int (Int32.ofInt lt)), (3, .int (Int32.ofInt stp)), (4, .int (Int32.ofInt tm)), (5, .int (Int32.ofInt (kk + 1)))]) (List.forall_mem_cons.mpr ⟨(List.Mem.tail _ (List.Mem.tail _ (List.Mem.head _))), (List.forall_mem_cons.mpr ⟨(List.Mem.tail _ (List.Mem.tail _ (List.Mem.tail _ (List.Mem.head _)))), (List.forall_mem_cons.mpr ⟨(List.Mem.tail _ (List.Mem.tail _ (List.Mem.tail _ (List.Mem.tail _ (List.Mem.head _))))), (List.forall_mem_cons.mpr ⟨(List.Mem.tail _ (List.Mem.tail _ (List.Mem.tail _ (List.Mem.tail _ (List.Mem.tail _ (List.Mem.head _)))))), (List.forall_mem_cons.mpr ⟨(List.Mem.head _), (fun q h => absurd h List.not_mem_nil)⟩)⟩)⟩)⟩)⟩) ?_
                exact ih _ lt stp tm (kk + 1) Is1024 Fs1024 JTD_s1024 (by first | exact ⟨And.intro (hi.1.1) (hi.1.2), And.intro (hi.2.1.1) (hi.2.1.2), And.intro (hi.2.2.1.1) (hi.2.2.1.2), hi.2.2.2.1, oq_54f49eb5 hi.2.2.2.2.1, oq_52ebc553 g1005 hi.2.2.2.1, oq_23ac7970 vs1024 b1023.1, oq_92ffb9c0 ws1024_77 ws1022_77 ws1016_77 ws1011_77 hi.2.2.2.2.2.2.2.1, oq_5cd70317 g1020 hps1016, oq_20c4b665 g1020 hps1016⟩ | omega) (by first | exact qk_me hm (by decide) (oq_901836cd g1005) | omega) kx
              ·
                exact w_vret X.1 q hRt (ax_d X (show cdA 199 217 = some (.return_, 1, 0, 0, 0) from rfl)) (Nat.zero_le _) (Nat.zero_le _) ⟨_, rfl, Is1016, Gs1016, JTD_s1016, rfl, by first | exact ⟨Or.inl (g1020), oq_3a225677 ws1016_77 ws1011_77 hi.2.2.2.2.2.2.2.2.1, oq_238e3abb ws1016_91 g1015, oq_87629038 g1020 b1019.1, oq_e660b027 ws1016_77 ws1011_77 hi.2.2.2.2.2.2.2.1⟩ | omega⟩
            ·
              refine z_aload_n X (x := A 179) (show cdA 199 195 = some (.aload_n 0, 1, 0, 0, 0) from rfl) (List.Mem.tail _ (List.Mem.head _)) ?_
              refine z_load X (x := e1012) (show cdA 199 196 = some (.iload 6, 2, 0, 0, 0) from rfl) (List.Mem.head _) ?_
              refine z_callV X 179 (rm := rmN 198) (As := [.int (Int32.ofInt e1012)]) (st := []) (show cdA 199 198 = some (.invokevirtual 226, 3, 198, 0, 0) from rfl) rfl (by decide) rfl (by rw [E.1, E.2.1, E.2.2.1]; exact k_isTold G Is1011 (by first | exact ⟨oq_97ee2c2a hps1011.2.1, oq_07d346ce hps1011.2.2⟩ | omega)) ⟨by rw [E.2.2.2]; exact (show (rmN 198).frames + 1 ≤ (rmN 199).frames by decide), by rw [E.2.2.2]; exact (show 8 + (mNL (miB 198) + 11) + (rmN 198).locals ≤ (rmN 199).locals by decide), by rw [E.2.2.2]; exact (show 0 + (rmN 198).cells ≤ (rmN 199).cells by decide), by rw [E.2.2.2]; exact (show 0 + (rmN 198).slots ≤ (rmN 199).slots by decide)⟩ (Nat.le_of_ble_eq_true rfl) (fun vv s1025 hq => ?_) (fun ee s1025 hq => ?_)
              rotate_left
              · obtain ⟨Is1025, Fs1025, e1026, hv, hrs1025, hps1025⟩ := hq; cases hv
              obtain ⟨Is1025, Fs1025, e1026, hv, hrs1025, hps1025⟩ := hq
              cases hv
              have Gs1025 := fm_ts Gs1011 Fs1025 (by decide) (by decide)
              have JTD_s1025 : TD s1025 := TD_fm Fs1025 (by decide) JTD_s1011
              have ws1025_77 : iI s1025 77 = iI s1011 77 := fm_i Fs1025 (by decide)
              have ws1025_75 : iI s1025 75 = iI s1011 75 := fm_i Fs1025 (by decide)
              have ws1025_79 : iI s1025 79 = iI s1011 79 := fm_i Fs1025 (by decide)
              have ws1025_91 : iI s1025 91 = iI s1011 91 := fm_i Fs1025 (by decide)
              show WS k 201 [(6, .int (Int32.ofInt e1012)), (0, .ref (A 179)), (1, .int (Int32.ofInt lt)), (3, .int (Int32.ofInt stp)), (4, .int (Int32.ofInt tm)), (5, .int (Int32.ofInt kk))] [.int (Int32.ofInt e1026)] (Wd A dT s1025) 0 0
              refine z_if_eq X (t := 210) (show cdA 199 201 = some (.ifCond .eq 9, 3, 0, 0, 0) from rfl) (by decide) hrs1025 (fun g1027 => ?_) (fun g1027 => ?_)
              ·
                refine z_aload_n X (x := A 179) (show cdA 199 210 = some (.aload_n 0, 1, 0, 0, 0) from rfl) (List.Mem.tail _ (List.Mem.head _)) ?_
                refine z_getI X 179 (show cdA 199 211 = some (.getfield 191, 3, 12, 6, 0) from rfl) (by decide) rfl rfl ?_
                have b1028 : (0 : Int) ≤ iI s1025 79 ∧ iI s1025 79 ≤ 9 := Is1025.1 79
                refine z_if_eq X (t := 218) (show cdA 199 214 = some (.ifCond .eq 4, 3, 0, 0, 0) from rfl) (by decide) (rng_to _) (fun g1029 => ?_) (fun g1029 => ?_)
                ·
                  refine z_aload_n X (x := A 179) (show cdA 199 218 = some (.aload_n 0, 1, 0, 0, 0) from rfl) (List.Mem.tail _ (List.Mem.head _)) ?_
                  refine s_getR X 179 (show cdA 199 219 = some (.getfield 44, 3, 12, 26, 0) from rfl) (by decide) rfl rfl ?_
                  refine z_aload_n X (x := A 179) (show cdA 199 222 = some (.aload_n 0, 1, 0, 0, 0) from rfl) (List.Mem.tail _ (List.Mem.head _)) ?_
                  refine z_getI X 179 (show cdA 199 223 = some (.getfield 216, 3, 12, 27, 0) from rfl) (by decide) rfl rfl ?_
                  have b1030 : (0 : Int) ≤ iI s1025 91 ∧ iI s1025 91 ≤ 24 := Is1025.1 91
                  refine z_load X (x := e1012) (show cdA 199 226 = some (.iload 6, 2, 0, 0, 0) from rfl) (List.Mem.head _) ?_
                  refine z_ast X 188 (show cdA 199 228 = some (.iastore, 1, 0, 0, 0) from rfl) (by decide) rfl (by first | exact b1030.1 | omega) (show (iI s1025 91) < 24 by first | exact oq_f7e8fb92 ws1025_91 g1015 b1014.2 | omega) (by decide) ?_
                  obtain ⟨s1031, hs1031⟩ : ∃ x0, x0 = uC s1025 165 ((iI s1025 91)).toNat (Int32.ofInt e1012) := ⟨_, rfl⟩
                  rw [← hs1031]
                  have Is1031 : Bd s1031 := by rw [hs1031]; exact bd_C Is1025 (show ((-2147483648) : Int) ≤ e1012 ∧ e1012 ≤ 2147483647 by first | exact ⟨oq_97ee2c2a hps1011.2.1, oq_07d346ce hps1011.2.2⟩ | omega) hrs1011
                  have Fs1031 := fm_C (i := ((iI s1025 91)).toNat) (x := Int32.ofInt e1012) Gs1025 (show 165 ∈ _ by decide)
                  rw [← hs1031] at Fs1031
                  have ws1031_77 : iI s1031 77 = iI s1025 77 := by rw [hs1031]; rfl
                  have ws1031_75 : iI s1031 75 = iI s1025 75 := by rw [hs1031]; rfl
                  have ws1031_79 : iI s1031 79 = iI s1025 79 := by rw [hs1031]; rfl
                  have ws1031_91 : iI s1031 91 = iI s1025 91 := by rw [hs1031]; rfl
                  refine z_aload_n X (x := A 179) (show cdA 199 229 = some (.aload_n 0, 1, 0, 0, 0) from rfl) (List.Mem.tail _ (List.Mem.head _)) ?_
                  refine w_dup X.1 (ax_d X (show cdA 199 230 = some (.dup, 1, 0, 0, 0) from rfl)) rfl ?_
                  refine z_getI X 179 (show cdA 199 231 = some (.getfield 216, 3, 12, 27, 0) from rfl) (by decide) rfl rfl ?_
                  have b1032 : (0 : Int) ≤ iI s1031 91 ∧ iI s1031 91 ≤ 24 := Is1031.1 91
                  refine z_const X (show cdA 199 234 = some (.iconst 1, 1, 0, 0, 0) from rfl) ?_
                  refine z_add X (show cdA 199 235 = some (.iadd, 1, 0, 0, 0) from rfl) ?_
                  refine s_putI X 179 (show cdA 199 236 = some (.putfield 216, 3, 12, 27, 0) from rfl) (by decide) rfl rfl (by decide) rfl rfl rfl ?_
                  obtain ⟨s1033, hs1033⟩ : ∃ x0, x0 = uI s1031 91 (Int32.ofInt ((iI s1031 91) + 1)) := ⟨_, rfl⟩
                  rw [← hs1033]
                  have Is1033 : Bd s1033 := by rw [hs1033]; exact bd_I Is1031 (show (0 : Int) ≤ ((iI s1031 91) + 1) ∧ ((iI s1031 91) + 1) ≤ 24 by first | exact ⟨oq_54f49eb5 b1032.1, oq_6a454d4a ws1031_91 ws1025_91 g1015 b1014.2⟩ | omega) ⟨by first | exact oq_74de1e16 b1032.1 | omega, by first | exact oq_3a454424 b1032.2 | omega⟩
                  have Fs1033 := fm_I (x := Int32.ofInt ((iI s1031 91) + 1)) Fs1031 (show 91 ∈ _ by decide)
                  rw [← hs1033] at Fs1033
                  have vs1033 : iI s1033 91 = ((iI s1031 91) + 1) := by rw [hs1033]; exact iI_u ⟨by first | exact oq_74de1e16 b1032.1 | omega, by first | exact oq_3a454424 b1032.2 | omega⟩
                  have ws1033_77 : iI s1033 77 = iI s1031 77 := by rw [hs1033]; rfl
                  have ws1033_75 : iI s1033 75 = iI s1031 75 := by rw [hs1033]; rfl
                  have ws1033_79 : iI s1033 79 = iI s1031 79 := by rw [hs1033]; rfl
                  have JTD_s1033 : TD s1033 := by
                    rw [hs1033, ws1031_91, hs1031]
                    exact TD_up JTD_s1025 rfl (by omega) (by omega)
                  refine z_inc X (x := kk) (lv' := [(5, .int (Int32.ofInt (kk + 1))), (6, .int (Int32.ofInt e1012)), (0, .ref (A 179)), (1, .int (Int32.ofInt lt)), (3, .int (Int32.ofInt stp)), (4, .int (Int32.ofInt tm))]) (show cdA 199 239 = some (.iinc 5 1, 3, 0, 0, 0) from rfl) (by decide) (List.Mem.tail _ (List.Mem.tail _ (List.Mem.tail _ (List.Mem.tail _ (List.Mem.tail _ (List.Mem.head _)))))) (fun _ h => h) ?_
                  refine z_goto X (t := 140) (show cdA 199 242 = some (.goto (-102), 3, 0, 0, 0) from rfl) (by decide) ?_
                  refine WS_lv (lv := [(0, .ref (A 179)), (1, .int (Int32.ofInt lt)), (3, .int (Int32.ofInt stp)), (4, .int (Int32.ofInt tm)), (5, .int (Int32.ofInt (kk + 1)))]) (List.forall_mem_cons.mpr ⟨(List.Mem.tail _ (List.Mem.tail _ (List.Mem.head _))), (List.forall_mem_cons.mpr ⟨(List.Mem.tail _ (List.Mem.tail _ (List.Mem.tail _ (List.Mem.head _)))), (List.forall_mem_cons.mpr ⟨(List.Mem.tail _ (List.Mem.tail _ (List.Mem.tail _ (List.Mem.tail _ (List.Mem.head _))))), (List.forall_mem_cons.mpr ⟨(List.Mem.tail _ (List.Mem.tail _ (List.Mem.tail _ (List.Mem.tail _ (List.Mem.tail _ (List.Mem.head _)))))), (List.forall_mem_cons.mpr ⟨(List.Mem.head _), (fun q h => absurd h List.not_mem_nil)⟩)⟩)⟩)⟩)⟩) ?_
                  exact ih _ lt stp tm (kk + 1) Is1033 Fs1033 JTD_s1033 (by first | exact ⟨And.intro (hi.1.1) (hi.1.2), And.intro (hi.2.1.1) (hi.2.1.2), And.intro (hi.2.2.1.1) (hi.2.2.1.2), hi.2.2.2.1, oq_54f49eb5 hi.2.2.2.2.1, oq_52ebc553 g1005 hi.2.2.2.1, oq_23ac7970 vs1033 b1032.1, oq_92ffb9c0 ws1033_77 ws1031_77 ws1025_77 ws1011_77 hi.2.2.2.2.2.2.2.1, oq_2e74e63b ws1033_77 ws1031_77 ws1025_77 ws1011_77 hi.2.2.2.2.2.2.2.2.1, oq_67b737cd g1007 hi.2.2.2.2.2.2.2.2.2 b3.1⟩ | omega) (by first | exact qk_me hm (by decide) (oq_901836cd g1005) | omega) kx
                ·
                  exact w_vret X.1 q hRt (ax_d X (show cdA 199 217 = some (.return_, 1, 0, 0, 0) from rfl)) (Nat.zero_le _) (Nat.zero_le _) ⟨_, rfl, Is1025, Gs1025, JTD_s1025, rfl, by first | exact ⟨Or.inl (g1029), oq_0df604ad g1029 b1028.1 ws1025_79 ws1011_79 g1007, oq_48a46d4a ws1025_91 ws1011_91 hi.2.2.2.2.2.2.1, oq_87629038 g1029 b1028.1, oq_e660b027 ws1025_77 ws1011_77 hi.2.2.2.2.2.2.2.1⟩ | omega⟩
              ·
                refine z_aload_n X (x := A 179) (show cdA 199 204 = some (.aload_n 0, 1, 0, 0, 0) from rfl) (List.Mem.tail _ (List.Mem.head _)) ?_
                refine z_const X (show cdA 199 205 = some (.iconst 4, 1, 0, 0, 0) from rfl) ?_
                refine z_load_n X (x := lt) (show cdA 199 206 = some (.iload_n 1, 1, 0, 0, 0) from rfl) (List.Mem.tail _ (List.Mem.tail _ (List.Mem.head _))) ?_
                refine z_callV X 179 (rm := rmN 194) (As := [.int (Int32.ofInt 4), .int (Int32.ofInt lt)]) (st := []) (show cdA 199 207 = some (.invokevirtual 204, 3, 194, 0, 0) from rfl) rfl (by decide) rfl (by rw [E.1, E.2.1, E.2.2.1]; exact k_wrong G Is1025 (by first | exact ⟨by decide, by decide⟩ | omega) (by first | exact ⟨oq_ca54ea22 hi.1.1, hi.1.2⟩ | omega)) ⟨by rw [E.2.2.2]; exact (show (rmN 194).frames + 1 ≤ (rmN 199).frames by decide), by rw [E.2.2.2]; exact (show 8 + (mNL (miB 194) + 11) + (rmN 194).locals ≤ (rmN 199).locals by decide), by rw [E.2.2.2]; exact (show 0 + (rmN 194).cells ≤ (rmN 199).cells by decide), by rw [E.2.2.2]; exact (show 0 + (rmN 194).slots ≤ (rmN 199).slots by decide)⟩ (Nat.le_of_ble_eq_true rfl) (fun vv s1034 hq => ?_) (fun ee s1034 hq => ?_)
                rotate_left
                · obtain ⟨Is1034, Fs1034, hv, hps1034⟩ := hq; cases hv
                obtain ⟨Is1034, Fs1034, hv, hps1034⟩ := hq
                cases hv
                have Gs1034 := fm_ts Gs1025 Fs1034 (by decide) (by decide)
                have JTD_s1034 : TD s1034 := TD_fm Fs1034 (by decide) JTD_s1025
                have ws1034_77 : iI s1034 77 = iI s1025 77 := fm_i Fs1034 (by decide)
                have ws1034_75 : iI s1034 75 = iI s1025 75 := fm_i Fs1034 (by decide)
                have b1036 : (0 : Int) ≤ iI s1034 79 ∧ iI s1034 79 ≤ 9 := Is1034.1 79
                have ws1034_91 : iI s1034 91 = iI s1025 91 := fm_i Fs1034 (by decide)
                show WS k 210 [(6, .int (Int32.ofInt e1012)), (0, .ref (A 179)), (1, .int (Int32.ofInt lt)), (3, .int (Int32.ofInt stp)), (4, .int (Int32.ofInt tm)), (5, .int (Int32.ofInt kk))] [] (Wd A dT s1034) 0 0
                refine z_aload_n X (x := A 179) (show cdA 199 210 = some (.aload_n 0, 1, 0, 0, 0) from rfl) (List.Mem.tail _ (List.Mem.head _)) ?_
                refine z_getI X 179 (show cdA 199 211 = some (.getfield 191, 3, 12, 6, 0) from rfl) (by decide) rfl rfl ?_
                have b1037 : (0 : Int) ≤ iI s1034 79 ∧ iI s1034 79 ≤ 9 := Is1034.1 79
                refine z_if_eq X (t := 218) (show cdA 199 214 = some (.ifCond .eq 4, 3, 0, 0, 0) from rfl) (by decide) (rng_to _) (fun g1038 => ?_) (fun g1038 => ?_)
                ·
                  refine z_aload_n X (x := A 179) (show cdA 199 218 = some (.aload_n 0, 1, 0, 0, 0) from rfl) (List.Mem.tail _ (List.Mem.head _)) ?_
                  refine s_getR X 179 (show cdA 199 219 = some (.getfield 44, 3, 12, 26, 0) from rfl) (by decide) rfl rfl ?_
                  refine z_aload_n X (x := A 179) (show cdA 199 222 = some (.aload_n 0, 1, 0, 0, 0) from rfl) (List.Mem.tail _ (List.Mem.head _)) ?_
                  refine z_getI X 179 (show cdA 199 223 = some (.getfield 216, 3, 12, 27, 0) from rfl) (by decide) rfl rfl ?_
                  have b1039 : (0 : Int) ≤ iI s1034 91 ∧ iI s1034 91 ≤ 24 := Is1034.1 91
                  refine z_load X (x := e1012) (show cdA 199 226 = some (.iload 6, 2, 0, 0, 0) from rfl) (List.Mem.head _) ?_
                  refine z_ast X 188 (show cdA 199 228 = some (.iastore, 1, 0, 0, 0) from rfl) (by decide) rfl (by first | exact b1039.1 | omega) (show (iI s1034 91) < 24 by first | exact oq_51b59cde g1038 hps1034 | omega) (by decide) ?_
                  obtain ⟨s1040, hs1040⟩ : ∃ x0, x0 = uC s1034 165 ((iI s1034 91)).toNat (Int32.ofInt e1012) := ⟨_, rfl⟩
                  rw [← hs1040]
                  have Is1040 : Bd s1040 := by rw [hs1040]; exact bd_C Is1034 (show ((-2147483648) : Int) ≤ e1012 ∧ e1012 ≤ 2147483647 by first | exact ⟨oq_97ee2c2a hps1011.2.1, oq_07d346ce hps1011.2.2⟩ | omega) hrs1011
                  have Fs1040 := fm_C (i := ((iI s1034 91)).toNat) (x := Int32.ofInt e1012) Gs1034 (show 165 ∈ _ by decide)
                  rw [← hs1040] at Fs1040
                  have ws1040_77 : iI s1040 77 = iI s1034 77 := by rw [hs1040]; rfl
                  have ws1040_75 : iI s1040 75 = iI s1034 75 := by rw [hs1040]; rfl
                  have ws1040_79 : iI s1040 79 = iI s1034 79 := by rw [hs1040]; rfl
                  have ws1040_91 : iI s1040 91 = iI s1034 91 := by rw [hs1040]; rfl
                  refine z_aload_n X (x := A 179) (show cdA 199 229 = some (.aload_n 0, 1, 0, 0, 0) from rfl) (List.Mem.tail _ (List.Mem.head _)) ?_
                  refine w_dup X.1 (ax_d X (show cdA 199 230 = some (.dup, 1, 0, 0, 0) from rfl)) rfl ?_
                  refine z_getI X 179 (show cdA 199 231 = some (.getfield 216, 3, 12, 27, 0) from rfl) (by decide) rfl rfl ?_
                  have b1041 : (0 : Int) ≤ iI s1040 91 ∧ iI s1040 91 ≤ 24 := Is1040.1 91
                  refine z_const X (show cdA 199 234 = some (.iconst 1, 1, 0, 0, 0) from rfl) ?_
                  refine z_add X (show cdA 199 235 = some (.iadd, 1, 0, 0, 0) from rfl) ?_
                  refine s_putI X 179 (show cdA 199 236 = some (.putfield 216, 3, 12, 27, 0) from rfl) (by decide) rfl rfl (by decide) rfl rfl rfl ?_
                  obtain ⟨s1042, hs1042⟩ : ∃ x0, x0 = uI s1040 91 (Int32.ofInt ((iI s1040 91) + 1)) := ⟨_, rfl⟩
                  rw [← hs1042]
                  have Is1042 : Bd s1042 := by rw [hs1042]; exact bd_I Is1040 (show (0 : Int) ≤ ((iI s1040 91) + 1) ∧ ((iI s1040 91) + 1) ≤ 24 by first | exact ⟨oq_54f49eb5 b1041.1, oq_280827c3 g1038 hps1034⟩ | omega) ⟨by first | exact oq_74de1e16 b1041.1 | omega, by first | exact oq_3a454424 b1041.2 | omega⟩
                  have Fs1042 := fm_I (x := Int32.ofInt ((iI s1040 91) + 1)) Fs1040 (show 91 ∈ _ by decide)
                  rw [← hs1042] at Fs1042
                  have vs1042 : iI s1042 91 = ((iI s1040 91) + 1) := by rw [hs1042]; exact iI_u ⟨by first | exact oq_74de1e16 b1041.1 | omega, by first | exact oq_3a454424 b1041.2 | omega⟩
                  have ws1042_77 : iI s1042 77 = iI s1040 77 := by rw [hs1042]; rfl
                  have ws1042_75 : iI s1042 75 = iI s1040 75 := by rw [hs1042]; rfl
                  have ws1042_79 : iI s1042 79 = iI s1040 79 := by rw [hs1042]; rfl
                  have JTD_s1042 : TD s1042 := by
                    rw [hs1042, ws1040_91, hs1040]
                    exact TD_up JTD_s1034 rfl (by omega) (by omega)
                  refine z_inc X (x := kk) (lv' := [(5, .int (Int32.ofInt (kk + 1))), (6, .int (Int32.ofInt e1012)), (0, .ref (A 179)), (1, .int (Int32.ofInt lt)), (3, .int (Int32.ofInt stp)), (4, .int (Int32.ofInt tm))]) (show cdA 199 239 = some (.iinc 5 1, 3, 0, 0, 0) from rfl) (by decide) (List.Mem.tail _ (List.Mem.tail _ (List.Mem.tail _ (List.Mem.tail _ (List.Mem.tail _ (List.Mem.head _)))))) (fun _ h => h) ?_
                  refine z_goto X (t := 140) (show cdA 199 242 = some (.goto (-102), 3, 0, 0, 0) from rfl) (by decide) ?_
                  refine WS_lv (lv := [(0, .ref (A 179)), (1, .int (Int32.ofInt lt)), (3, .int (Int32.ofInt stp)), (4, .int (Int32.ofInt tm)), (5, .int (Int32.ofInt (kk + 1)))]) (List.forall_mem_cons.mpr ⟨(List.Mem.tail _ (List.Mem.tail _ (List.Mem.head _))), (List.forall_mem_cons.mpr ⟨(List.Mem.tail _ (List.Mem.tail _ (List.Mem.tail _ (List.Mem.head _)))), (List.forall_mem_cons.mpr ⟨(List.Mem.tail _ (List.Mem.tail _ (List.Mem.tail _ (List.Mem.tail _ (List.Mem.head _))))), (List.forall_mem_cons.mpr ⟨(List.Mem.tail _ (List.Mem.tail _ (List.Mem.tail _ (List.Mem.tail _ (List.Mem.tail _ (List.Mem.head _)))))), (List.forall_mem_cons.mpr ⟨(List.Mem.head _), (fun q h => absurd h List.not_mem_nil)⟩)⟩)⟩)⟩)⟩) ?_
                  exact ih _ lt stp tm (kk + 1) Is1042 Fs1042 JTD_s1042 (by first | exact ⟨And.intro (hi.1.1) (hi.1.2), And.intro (hi.2.1.1) (hi.2.1.2), And.intro (hi.2.2.1.1) (hi.2.2.1.2), hi.2.2.2.1, oq_54f49eb5 hi.2.2.2.2.1, oq_52ebc553 g1005 hi.2.2.2.1, oq_23ac7970 vs1042 b1041.1, oq_1be6e25e ws1042_77 ws1040_77 ws1034_77 ws1025_77 ws1011_77 hi.2.2.2.2.2.2.2.1, oq_5cd70317 g1038 hps1034, oq_20c4b665 g1038 hps1034⟩ | omega) (by first | exact qk_me hm (by decide) (oq_901836cd g1005) | omega) kx
                ·
                  exact w_vret X.1 q hRt (ax_d X (show cdA 199 217 = some (.return_, 1, 0, 0, 0) from rfl)) (Nat.zero_le _) (Nat.zero_le _) ⟨_, rfl, Is1034, Gs1034, JTD_s1034, rfl, by first | exact ⟨Or.inl (g1038), oq_25e396f8 ws1034_77 ws1025_77 ws1011_77 hi.2.2.2.2.2.2.2.2.1, oq_2c9dd992 ws1034_91 ws1025_91 ws1011_91 hi.2.2.2.2.2.2.1, oq_87629038 g1038 b1037.1, oq_7214ecee ws1034_77 ws1025_77 ws1011_77 hi.2.2.2.2.2.2.2.1⟩ | omega⟩
          ·
            refine z_aload_n X (x := A 179) (show cdA 199 177 = some (.aload_n 0, 1, 0, 0, 0) from rfl) (List.Mem.tail _ (List.Mem.head _)) ?_
            refine z_const X (show cdA 199 178 = some (.iconst 3, 1, 0, 0, 0) from rfl) ?_
            refine z_load_n X (x := lt) (show cdA 199 179 = some (.iload_n 1, 1, 0, 0, 0) from rfl) (List.Mem.tail _ (List.Mem.tail _ (List.Mem.head _))) ?_
            refine z_callV X 179 (rm := rmN 194) (As := [.int (Int32.ofInt 3), .int (Int32.ofInt lt)]) (st := []) (show cdA 199 180 = some (.invokevirtual 204, 3, 194, 0, 0) from rfl) rfl (by decide) rfl (by rw [E.1, E.2.1, E.2.2.1]; exact k_wrong G Is1011 (by first | exact ⟨by decide, by decide⟩ | omega) (by first | exact ⟨oq_ca54ea22 hi.1.1, hi.1.2⟩ | omega)) ⟨by rw [E.2.2.2]; exact (show (rmN 194).frames + 1 ≤ (rmN 199).frames by decide), by rw [E.2.2.2]; exact (show 8 + (mNL (miB 194) + 11) + (rmN 194).locals ≤ (rmN 199).locals by decide), by rw [E.2.2.2]; exact (show 0 + (rmN 194).cells ≤ (rmN 199).cells by decide), by rw [E.2.2.2]; exact (show 0 + (rmN 194).slots ≤ (rmN 199).slots by decide)⟩ (Nat.le_of_ble_eq_true rfl) (fun vv s1043 hq => ?_) (fun ee s1043 hq => ?_)
            rotate_left
            · obtain ⟨Is1043, Fs1043, hv, hps1043⟩ := hq; cases hv
            obtain ⟨Is1043, Fs1043, hv, hps1043⟩ := hq
            cases hv
            have Gs1043 := fm_ts Gs1011 Fs1043 (by decide) (by decide)
            have JTD_s1043 : TD s1043 := TD_fm Fs1043 (by decide) JTD_s1011
            have ws1043_77 : iI s1043 77 = iI s1011 77 := fm_i Fs1043 (by decide)
            have ws1043_75 : iI s1043 75 = iI s1011 75 := fm_i Fs1043 (by decide)
            have b1045 : (0 : Int) ≤ iI s1043 79 ∧ iI s1043 79 ≤ 9 := Is1043.1 79
            have ws1043_91 : iI s1043 91 = iI s1011 91 := fm_i Fs1043 (by decide)
            show WS k 183 [(6, .int (Int32.ofInt e1012)), (0, .ref (A 179)), (1, .int (Int32.ofInt lt)), (3, .int (Int32.ofInt stp)), (4, .int (Int32.ofInt tm)), (5, .int (Int32.ofInt kk))] [] (Wd A dT s1043) 0 0
            refine z_goto X (t := 210) (show cdA 199 183 = some (.goto 27, 3, 0, 0, 0) from rfl) (by decide) ?_
            refine z_aload_n X (x := A 179) (show cdA 199 210 = some (.aload_n 0, 1, 0, 0, 0) from rfl) (List.Mem.tail _ (List.Mem.head _)) ?_
            refine z_getI X 179 (show cdA 199 211 = some (.getfield 191, 3, 12, 6, 0) from rfl) (by decide) rfl rfl ?_
            have b1046 : (0 : Int) ≤ iI s1043 79 ∧ iI s1043 79 ≤ 9 := Is1043.1 79
            refine z_if_eq X (t := 218) (show cdA 199 214 = some (.ifCond .eq 4, 3, 0, 0, 0) from rfl) (by decide) (rng_to _) (fun g1047 => ?_) (fun g1047 => ?_)
            ·
              refine z_aload_n X (x := A 179) (show cdA 199 218 = some (.aload_n 0, 1, 0, 0, 0) from rfl) (List.Mem.tail _ (List.Mem.head _)) ?_
              refine s_getR X 179 (show cdA 199 219 = some (.getfield 44, 3, 12, 26, 0) from rfl) (by decide) rfl rfl ?_
              refine z_aload_n X (x := A 179) (show cdA 199 222 = some (.aload_n 0, 1, 0, 0, 0) from rfl) (List.Mem.tail _ (List.Mem.head _)) ?_
              refine z_getI X 179 (show cdA 199 223 = some (.getfield 216, 3, 12, 27, 0) from rfl) (by decide) rfl rfl ?_
              have b1048 : (0 : Int) ≤ iI s1043 91 ∧ iI s1043 91 ≤ 24 := Is1043.1 91
              refine z_load X (x := e1012) (show cdA 199 226 = some (.iload 6, 2, 0, 0, 0) from rfl) (List.Mem.head _) ?_
              refine z_ast X 188 (show cdA 199 228 = some (.iastore, 1, 0, 0, 0) from rfl) (by decide) rfl (by first | exact b1048.1 | omega) (show (iI s1043 91) < 24 by first | exact oq_51b59cde g1047 hps1043 | omega) (by decide) ?_
              obtain ⟨s1049, hs1049⟩ : ∃ x0, x0 = uC s1043 165 ((iI s1043 91)).toNat (Int32.ofInt e1012) := ⟨_, rfl⟩
              rw [← hs1049]
              have Is1049 : Bd s1049 := by rw [hs1049]; exact bd_C Is1043 (show ((-2147483648) : Int) ≤ e1012 ∧ e1012 ≤ 2147483647 by first | exact ⟨oq_1f66d2f3 g1013, oq_ffe94409 g1013⟩ | omega) hrs1011
              have Fs1049 := fm_C (i := ((iI s1043 91)).toNat) (x := Int32.ofInt e1012) Gs1043 (show 165 ∈ _ by decide)
              rw [← hs1049] at Fs1049
              have ws1049_77 : iI s1049 77 = iI s1043 77 := by rw [hs1049]; rfl
              have ws1049_75 : iI s1049 75 = iI s1043 75 := by rw [hs1049]; rfl
              have ws1049_79 : iI s1049 79 = iI s1043 79 := by rw [hs1049]; rfl
              have ws1049_91 : iI s1049 91 = iI s1043 91 := by rw [hs1049]; rfl
              refine z_aload_n X (x := A 179) (show cdA 199 229 = some (.aload_n 0, 1, 0, 0, 0) from rfl) (List.Mem.tail _ (List.Mem.head _)) ?_
              refine w_dup X.1 (ax_d X (show cdA 199 230 = some (.dup, 1, 0, 0, 0) from rfl)) rfl ?_
              refine z_getI X 179 (show cdA 199 231 = some (.getfield 216, 3, 12, 27, 0) from rfl) (by decide) rfl rfl ?_
              have b1050 : (0 : Int) ≤ iI s1049 91 ∧ iI s1049 91 ≤ 24 := Is1049.1 91
              refine z_const X (show cdA 199 234 = some (.iconst 1, 1, 0, 0, 0) from rfl) ?_
              refine z_add X (show cdA 199 235 = some (.iadd, 1, 0, 0, 0) from rfl) ?_
              refine s_putI X 179 (show cdA 199 236 = some (.putfield 216, 3, 12, 27, 0) from rfl) (by decide) rfl rfl (by decide) rfl rfl rfl ?_
              obtain ⟨s1051, hs1051⟩ : ∃ x0, x0 = uI s1049 91 (Int32.ofInt ((iI s1049 91) + 1)) := ⟨_, rfl⟩
              rw [← hs1051]
              have Is1051 : Bd s1051 := by rw [hs1051]; exact bd_I Is1049 (show (0 : Int) ≤ ((iI s1049 91) + 1) ∧ ((iI s1049 91) + 1) ≤ 24 by first | exact ⟨oq_54f49eb5 b1050.1, oq_280827c3 g1047 hps1043⟩ | omega) ⟨by first | exact oq_74de1e16 b1050.1 | omega, by first | exact oq_3a454424 b1050.2 | omega⟩
              have Fs1051 := fm_I (x := Int32.ofInt ((iI s1049 91) + 1)) Fs1049 (show 91 ∈ _ by decide)
              rw [← hs1051] at Fs1051
              have vs1051 : iI s1051 91 = ((iI s1049 91) + 1) := by rw [hs1051]; exact iI_u ⟨by first | exact oq_74de1e16 b1050.1 | omega, by first | exact oq_3a454424 b1050.2 | omega⟩
              have ws1051_77 : iI s1051 77 = iI s1049 77 := by rw [hs1051]; rfl
              have ws1051_75 : iI s1051 75 = iI s1049 75 := by rw [hs1051]; rfl
              have ws1051_79 : iI s1051 79 = iI s1049 79 := by rw [hs1051]; rfl
              have JTD_s1051 : TD s1051 := by
                rw [hs1051, ws1049_91, hs1049]
                exact TD_up JTD_s1043 rfl (by omega) (by omega)
              refine z_inc X (x := kk) (lv' := [(5, .int (Int32.ofInt (kk + 1))), (6, .int (Int32.ofInt e1012)), (0, .ref (A 179)), (1, .int (Int32.ofInt lt)), (3, .int (Int32.ofInt stp)), (4, .int (Int32.ofInt tm))]) (show cdA 199 239 = some (.iinc 5 1, 3, 0, 0, 0) from rfl) (by decide) (List.Mem.tail _ (List.Mem.tail _ (List.Mem.tail _ (List.Mem.tail _ (List.Mem.tail _ (List.Mem.head _)))))) (fun _ h => h) ?_
              refine z_goto X (t := 140) (show cdA 199 242 = some (.goto (-102), 3, 0, 0, 0) from rfl) (by decide) ?_
              refine WS_lv (lv := [(0, .ref (A 179)), (1, .int (Int32.ofInt lt)), (3, .int (Int32.ofInt stp)), (4, .int (Int32.ofInt tm)), (5, .int (Int32.ofInt (kk + 1)))]) (List.forall_mem_cons.mpr ⟨(List.Mem.tail _ (List.Mem.tail _ (List.Mem.head _))), (List.forall_mem_cons.mpr ⟨(List.Mem.tail _ (List.Mem.tail _ (List.Mem.tail _ (List.Mem.head _)))), (List.forall_mem_cons.mpr ⟨(List.Mem.tail _ (List.Mem.tail _ (List.Mem.tail _ (List.Mem.tail _ (List.Mem.head _))))), (List.forall_mem_cons.mpr ⟨(List.Mem.tail _ (List.Mem.tail _ (List.Mem.tail _ (List.Mem.tail _ (List.Mem.tail _ (List.Mem.head _)))))), (List.forall_mem_cons.mpr ⟨(List.Mem.head _), (fun q h => absurd h List.not_mem_nil)⟩)⟩)⟩)⟩)⟩) ?_
              exact ih _ lt stp tm (kk + 1) Is1051 Fs1051 JTD_s1051 (by first | exact ⟨And.intro (hi.1.1) (hi.1.2), And.intro (hi.2.1.1) (hi.2.1.2), And.intro (hi.2.2.1.1) (hi.2.2.1.2), hi.2.2.2.1, oq_54f49eb5 hi.2.2.2.2.1, oq_52ebc553 g1005 hi.2.2.2.1, oq_23ac7970 vs1051 b1050.1, oq_92ffb9c0 ws1051_77 ws1049_77 ws1043_77 ws1011_77 hi.2.2.2.2.2.2.2.1, oq_5cd70317 g1047 hps1043, oq_20c4b665 g1047 hps1043⟩ | omega) (by first | exact qk_me hm (by decide) (oq_901836cd g1005) | omega) kx
            ·
              exact w_vret X.1 q hRt (ax_d X (show cdA 199 217 = some (.return_, 1, 0, 0, 0) from rfl)) (Nat.zero_le _) (Nat.zero_le _) ⟨_, rfl, Is1043, Gs1043, JTD_s1043, rfl, by first | exact ⟨Or.inl (g1047), oq_3a225677 ws1043_77 ws1011_77 hi.2.2.2.2.2.2.2.2.1, oq_48a46d4a ws1043_91 ws1011_91 hi.2.2.2.2.2.2.1, oq_87629038 g1047 b1046.1, oq_e660b027 ws1043_77 ws1011_77 hi.2.2.2.2.2.2.2.1⟩ | omega⟩
  refine z_aload_n X (x := A 179) (show cdA 199 0 = some (.aload_n 0, 1, 0, 0, 0) from rfl) (List.Mem.head _) ?_
  refine z_getI X 179 (show cdA 199 1 = some (.getfield 184, 3, 12, 4, 0) from rfl) (by decide) rfl rfl ?_
  have b5 : (0 : Int) ≤ iI s 77 ∧ iI s 77 ≤ 400 := I.1 77
  refine z_store_n X (lv' := [(1, .int (Int32.ofInt (iI s 77))), (0, .ref (A 179))]) (show cdA 199 4 = some (.istore_n 1, 1, 0, 0, 0) from rfl) (by decide) (fun _ h => h) ?_
  refine z_aload_n X (x := A 179) (show cdA 199 5 = some (.aload_n 0, 1, 0, 0, 0) from rfl) (List.Mem.tail _ (List.Mem.head _)) ?_
  refine z_aload_n X (x := A 179) (show cdA 199 6 = some (.aload_n 0, 1, 0, 0, 0) from rfl) (List.Mem.tail _ (List.Mem.head _)) ?_
  refine z_getI X 179 (show cdA 199 7 = some (.getfield 184, 3, 12, 4, 0) from rfl) (by decide) rfl rfl ?_
  have b6 : (0 : Int) ≤ iI s 77 ∧ iI s 77 ≤ 400 := I.1 77
  refine z_callV X 179 (rm := rmN 192) (As := [.int (Int32.ofInt (iI s 77))]) (st := []) (show cdA 199 10 = some (.invokevirtual 187, 3, 192, 0, 0) from rfl) rfl (by decide) rfl (by rw [E.1, E.2.1, E.2.2.1]; exact k_byteAt G I (by first | exact ⟨b6.1, oq_5a8480eb b6.2⟩ | omega)) ⟨by rw [E.2.2.2]; exact (show (rmN 192).frames + 1 ≤ (rmN 199).frames by decide), by rw [E.2.2.2]; exact (show 8 + (mNL (miB 192) + 11) + (rmN 192).locals ≤ (rmN 199).locals by decide), by rw [E.2.2.2]; exact (show 0 + (rmN 192).cells ≤ (rmN 199).cells by decide), by rw [E.2.2.2]; exact (show 0 + (rmN 192).slots ≤ (rmN 199).slots by decide)⟩ (Nat.le_of_ble_eq_true rfl) (fun vv s7 hq => ?_) (fun ee s7 hq => ?_)
  rotate_left
  · obtain ⟨Is7, Fs7, e8, hv, hrs7, hps7⟩ := hq; cases hv
  obtain ⟨Is7, Fs7, e8, hv, hrs7, hps7⟩ := hq
  cases hv
  have Gs7 := fm_ts F Fs7 (by decide) (by decide)
  have JTD_s7 : TD s7 := TD_fm Fs7 (by decide) jTD
  have ws7_77 : iI s7 77 = iI s 77 := fm_i Fs7 (by decide)
  have ws7_75 : iI s7 75 = iI s 75 := fm_i Fs7 (by decide)
  have ws7_79 : iI s7 79 = iI s 79 := fm_i Fs7 (by decide)
  have ws7_91 : iI s7 91 = iI s 91 := fm_i Fs7 (by decide)
  show WS k 13 [(1, .int (Int32.ofInt (iI s 77))), (0, .ref (A 179))] [.int (Int32.ofInt e8)] (Wd A dT s7) 0 0
  refine z_store_n X (lv' := [(2, .int (Int32.ofInt e8)), (1, .int (Int32.ofInt (iI s 77))), (0, .ref (A 179))]) (show cdA 199 13 = some (.istore_n 2, 1, 0, 0, 0) from rfl) (by decide) (fun _ h => h) ?_
  refine z_load_n X (x := e8) (show cdA 199 14 = some (.iload_n 2, 1, 0, 0, 0) from rfl) (List.Mem.head _) ?_
  refine z_bipush X (show cdA 199 15 = some (.bipush 114, 2, 0, 0, 114) from rfl) ?_
  have N9 : ∀ e10 : Int, ((-1) ≤ e10 ∧ e10 ≤ 5) → WS k 75 [(2, .int (Int32.ofInt e8)), (1, .int (Int32.ofInt (iI s 77))), (0, .ref (A 179))] [.int (Int32.ofInt e10)] (Wd A dT s7) 0 0 := by
    intro e10 he10
    refine z_store_n X (lv' := [(3, .int (Int32.ofInt e10)), (2, .int (Int32.ofInt e8)), (1, .int (Int32.ofInt (iI s 77))), (0, .ref (A 179))]) (show cdA 199 75 = some (.istore_n 3, 1, 0, 0, 0) from rfl) (by decide) (fun _ h => h) ?_
    refine z_load_n X (x := e10) (show cdA 199 76 = some (.iload_n 3, 1, 0, 0, 0) from rfl) (List.Mem.head _) ?_
    refine z_const X (show cdA 199 77 = some (.iconst (-1), 1, 0, 0, 0) from rfl) ?_
    refine z_icmp_ne X (t := 91) (show cdA 199 78 = some (.if_icmp .ne 13, 3, 1, 0, 0) from rfl) (by decide) ⟨by first | exact oq_97ee2c2a he10.1 | omega, by first | exact oq_a3dd55e5 he10.2 | omega⟩ (by decide) (fun g11 => ?_) (fun g11 => ?_)
    ·
      refine z_aload_n X (x := A 179) (show cdA 199 91 = some (.aload_n 0, 1, 0, 0, 0) from rfl) (List.Mem.tail _ (List.Mem.tail _ (List.Mem.tail _ (List.Mem.head _)))) ?_
      refine w_dup X.1 (ax_d X (show cdA 199 92 = some (.dup, 1, 0, 0, 0) from rfl)) rfl ?_
      refine z_getI X 179 (show cdA 199 93 = some (.getfield 184, 3, 12, 4, 0) from rfl) (by decide) rfl rfl ?_
      have b12 : (0 : Int) ≤ iI s7 77 ∧ iI s7 77 ≤ 400 := Is7.1 77
      refine z_const X (show cdA 199 96 = some (.iconst 1, 1, 0, 0, 0) from rfl) ?_
      refine z_add X (show cdA 199 97 = some (.iadd, 1, 0, 0, 0) from rfl) ?_
      refine s_putI X 179 (show cdA 199 98 = some (.putfield 184, 3, 12, 4, 0) from rfl) (by decide) rfl rfl (by decide) rfl rfl rfl ?_
      obtain ⟨s13, hs13⟩ : ∃ x0, x0 = uI s7 77 (Int32.ofInt ((iI s7 77) + 1)) := ⟨_, rfl⟩
      rw [← hs13]
      have Is13 : Bd s13 := by rw [hs13]; exact bd_I Is7 (show (0 : Int) ≤ ((iI s7 77) + 1) ∧ ((iI s7 77) + 1) ≤ 400 by first | exact ⟨oq_54f49eb5 b12.1, oq_3f758d8c ws7_77 p0⟩ | omega) ⟨by first | exact oq_74de1e16 b12.1 | omega, by first | exact oq_964ce197 b12.2 | omega⟩
      have Fs13 := fm_I (x := Int32.ofInt ((iI s7 77) + 1)) Gs7 (show 77 ∈ _ by decide)
      rw [← hs13] at Fs13
      have vs13 : iI s13 77 = ((iI s7 77) + 1) := by rw [hs13]; exact iI_u ⟨by first | exact oq_74de1e16 b12.1 | omega, by first | exact oq_964ce197 b12.2 | omega⟩
      have ws13_75 : iI s13 75 = iI s7 75 := by rw [hs13]; rfl
      have ws13_79 : iI s13 79 = iI s7 79 := by rw [hs13]; rfl
      have ws13_91 : iI s13 91 = iI s7 91 := by rw [hs13]; rfl
      have fs13 : Fm [77] [] s7 s13 := by rw [hs13]; exact fm_I (fm_rf _ _ _) (show 77 ∈ _ by decide)
      have JTD_s13 : TD s13 := TD_fm fs13 (by decide) JTD_s7
      refine z_aload_n X (x := A 179) (show cdA 199 101 = some (.aload_n 0, 1, 0, 0, 0) from rfl) (List.Mem.tail _ (List.Mem.tail _ (List.Mem.tail _ (List.Mem.head _)))) ?_
      refine z_callV X 179 (rm := rmN 193) (As := []) (st := []) (show cdA 199 102 = some (.invokevirtual 197, 3, 193, 0, 0) from rfl) rfl (by decide) rfl (by rw [E.1, E.2.1, E.2.2.1]; exact k_blanks G Is13 (by first | exact oq_65183bbe vs13 ws7_77 p0 | omega)) ⟨by rw [E.2.2.2]; exact (show (rmN 193).frames + 1 ≤ (rmN 199).frames by decide), by rw [E.2.2.2]; exact (show 8 + (mNL (miB 193) + 11) + (rmN 193).locals ≤ (rmN 199).locals by decide), by rw [E.2.2.2]; exact (show 0 + (rmN 193).cells ≤ (rmN 199).cells by decide), by rw [E.2.2.2]; exact (show 0 + (rmN 193).slots ≤ (rmN 199).slots by decide)⟩ (Nat.le_of_ble_eq_true rfl) (fun vv s14 hq => ?_) (fun ee s14 hq => ?_)
      rotate_left
      · obtain ⟨Is14, Fs14, hv, hps14⟩ := hq; cases hv
      obtain ⟨Is14, Fs14, hv, hps14⟩ := hq
      cases hv
      have Gs14 := fm_ts Fs13 Fs14 (by decide) (by decide)
      have JTD_s14 : TD s14 := TD_fm Fs14 (by decide) JTD_s13
      have b16 : (0 : Int) ≤ iI s14 77 ∧ iI s14 77 ≤ 400 := Is14.1 77
      have ws14_75 : iI s14 75 = iI s13 75 := fm_i Fs14 (by decide)
      have ws14_79 : iI s14 79 = iI s13 79 := fm_i Fs14 (by decide)
      have ws14_91 : iI s14 91 = iI s13 91 := fm_i Fs14 (by decide)
      show WS k 105 [(3, .int (Int32.ofInt e10)), (2, .int (Int32.ofInt e8)), (1, .int (Int32.ofInt (iI s 77))), (0, .ref (A 179))] [] (Wd A dT s14) 0 0
      refine z_load_n X (x := e10) (show cdA 199 105 = some (.iload_n 3, 1, 0, 0, 0) from rfl) (List.Mem.head _) ?_
      refine z_const X (show cdA 199 106 = some (.iconst 4, 1, 0, 0, 0) from rfl) ?_
      refine z_icmp_ge X (t := 134) (show cdA 199 107 = some (.if_icmp .ge 27, 3, 3, 0, 0) from rfl) (by decide) ⟨by first | exact oq_97ee2c2a he10.1 | omega, by first | exact oq_a3dd55e5 he10.2 | omega⟩ (by decide) (fun g17 => ?_) (fun g17 => ?_)
      ·
        refine z_const X (show cdA 199 134 = some (.iconst 1, 1, 0, 0, 0) from rfl) ?_
        refine z_store X (lv' := [(4, .int (Int32.ofInt 1)), (3, .int (Int32.ofInt e10)), (2, .int (Int32.ofInt e8)), (1, .int (Int32.ofInt (iI s 77))), (0, .ref (A 179))]) (show cdA 199 135 = some (.istore 4, 2, 0, 0, 0) from rfl) (by decide) (fun _ h => h) ?_
        refine z_const X (show cdA 199 137 = some (.iconst 0, 1, 0, 0, 0) from rfl) ?_
        refine z_store X (lv' := [(5, .int (Int32.ofInt 0)), (4, .int (Int32.ofInt 1)), (3, .int (Int32.ofInt e10)), (2, .int (Int32.ofInt e8)), (1, .int (Int32.ofInt (iI s 77))), (0, .ref (A 179))]) (show cdA 199 138 = some (.istore 5, 2, 0, 0, 0) from rfl) (by decide) (fun _ h => h) ?_
        refine WS_lv (lv := [(0, .ref (A 179)), (1, .int (Int32.ofInt (iI s 77))), (3, .int (Int32.ofInt e10)), (4, .int (Int32.ofInt 1)), (5, .int (Int32.ofInt 0))]) (List.forall_mem_cons.mpr ⟨(List.Mem.tail _ (List.Mem.tail _ (List.Mem.tail _ (List.Mem.tail _ (List.Mem.tail _ (List.Mem.head _)))))), (List.forall_mem_cons.mpr ⟨(List.Mem.tail _ (List.Mem.tail _ (List.Mem.tail _ (List.Mem.tail _ (List.Mem.head _))))), (List.forall_mem_cons.mpr ⟨(List.Mem.tail _ (List.Mem.tail _ (List.Mem.head _))), (List.forall_mem_cons.mpr ⟨(List.Mem.tail _ (List.Mem.head _)), (List.forall_mem_cons.mpr ⟨(List.Mem.head _), (fun q h => absurd h List.not_mem_nil)⟩)⟩)⟩)⟩)⟩) ?_
        refine L140 ((1 - 0 : Int).toNat + 1) s14 (iI s 77) e10 1 0 Is14 Gs14 JTD_s14 (by first | exact ⟨And.intro (b6.1) (b6.2), And.intro (oq_26933c77 g17) (he10.2), And.intro (by decide) (by decide), by decide, by decide, by decide, oq_2c9dd992 ws14_91 ws13_91 ws7_91 p1, oq_61b061d3 hps14.1 vs13 ws7_77, oq_052fd0cd hps14.2 ws13_75 vs13 ws7_75 ws7_77, oq_00dd204b ws14_79 ws13_79 ws7_79 b3.1⟩ | omega) (Nat.lt_succ_self _) ?_
        intro s18 x19 x20 x21 x22 Is18 Fs18 JTD_s18 hs18
        have b23 : (0 : Int) ≤ iI s18 77 ∧ iI s18 77 ≤ 400 := Is18.1 77
        have b24 : (0 : Int) ≤ iI s18 75 ∧ iI s18 75 ≤ 200 := Is18.1 75
        have b25 : (0 : Int) ≤ iI s18 79 ∧ iI s18 79 ≤ 9 := Is18.1 79
        have b26 : (0 : Int) ≤ iI s18 91 ∧ iI s18 91 ≤ 24 := Is18.1 91
        exact w_vret X.1 q hRt (ax_d X (show cdA 199 245 = some (.return_, 1, 0, 0, 0) from rfl)) (Nat.zero_le _) (Nat.zero_le _) ⟨_, rfl, Is18, Fs18, JTD_s18, rfl, by first | exact ⟨Or.inr (hs18.2.2.2.2.2.2.2.1), hs18.2.2.2.2.2.2.2.2.1, hs18.2.2.2.2.2.2.1, hs18.2.2.2.2.2.2.2.2.2, oq_161a6600 hs18.2.2.2.2.2.2.2.1⟩ | omega⟩
      ·
        refine z_aload_n X (x := A 179) (show cdA 199 110 = some (.aload_n 0, 1, 0, 0, 0) from rfl) (List.Mem.tail _ (List.Mem.tail _ (List.Mem.tail _ (List.Mem.head _)))) ?_
        refine z_aload_n X (x := A 179) (show cdA 199 111 = some (.aload_n 0, 1, 0, 0, 0) from rfl) (List.Mem.tail _ (List.Mem.tail _ (List.Mem.tail _ (List.Mem.head _)))) ?_
        refine z_getI X 179 (show cdA 199 112 = some (.getfield 184, 3, 12, 4, 0) from rfl) (by decide) rfl rfl ?_
        have b27 : (0 : Int) ≤ iI s14 77 ∧ iI s14 77 ≤ 400 := Is14.1 77
        refine z_callV X 179 (rm := rmN 192) (As := [.int (Int32.ofInt (iI s14 77))]) (st := []) (show cdA 199 115 = some (.invokevirtual 187, 3, 192, 0, 0) from rfl) rfl (by decide) rfl (by rw [E.1, E.2.1, E.2.2.1]; exact k_byteAt G Is14 (by first | exact ⟨b27.1, oq_5a8480eb b27.2⟩ | omega)) ⟨by rw [E.2.2.2]; exact (show (rmN 192).frames + 1 ≤ (rmN 199).frames by decide), by rw [E.2.2.2]; exact (show 8 + (mNL (miB 192) + 11) + (rmN 192).locals ≤ (rmN 199).locals by decide), by rw [E.2.2.2]; exact (show 0 + (rmN 192).cells ≤ (rmN 199).cells by decide), by rw [E.2.2.2]; exact (show 0 + (rmN 192).slots ≤ (rmN 199).slots by decide)⟩ (Nat.le_of_ble_eq_true rfl) (fun vv s28 hq => ?_) (fun ee s28 hq => ?_)
        rotate_left
        · obtain ⟨Is28, Fs28, e29, hv, hrs28, hps28⟩ := hq; cases hv
        obtain ⟨Is28, Fs28, e29, hv, hrs28, hps28⟩ := hq
        cases hv
        have Gs28 := fm_ts Gs14 Fs28 (by decide) (by decide)
        have JTD_s28 : TD s28 := TD_fm Fs28 (by decide) JTD_s14
        have ws28_77 : iI s28 77 = iI s14 77 := fm_i Fs28 (by decide)
        have ws28_75 : iI s28 75 = iI s14 75 := fm_i Fs28 (by decide)
        have ws28_79 : iI s28 79 = iI s14 79 := fm_i Fs28 (by decide)
        have ws28_91 : iI s28 91 = iI s14 91 := fm_i Fs28 (by decide)
        show WS k 118 [(3, .int (Int32.ofInt e10)), (2, .int (Int32.ofInt e8)), (1, .int (Int32.ofInt (iI s 77))), (0, .ref (A 179))] [.int (Int32.ofInt e29)] (Wd A dT s28) 0 0
        refine z_callS X (rm := rmN 195) (As := [.int (Int32.ofInt e29)]) (st := []) (show cdA 199 118 = some (.invokestatic 200, 3, 195, 1, 0) from rfl) rfl (by rw [E.1, E.2.1, E.2.2.1]; exact k_isDigit G Is28 (by first | exact ⟨oq_49a74586 hps28, oq_203e18b3 hps28⟩ | omega)) ⟨by rw [E.2.2.2]; exact (show (rmN 195).frames + 1 ≤ (rmN 199).frames by decide), by rw [E.2.2.2]; exact (show 8 + (mNL (miB 195) + 11) + (rmN 195).locals ≤ (rmN 199).locals by decide), by rw [E.2.2.2]; exact (show 0 + (rmN 195).cells ≤ (rmN 199).cells by decide), by rw [E.2.2.2]; exact (show 0 + (rmN 195).slots ≤ (rmN 199).slots by decide)⟩ (Nat.le_of_ble_eq_true rfl) (fun vv s30 hq => ?_) (fun ee s30 hq => ?_)
        rotate_left
        · obtain ⟨Is30, Fs30, e31, hv, hrs30, hps30⟩ := hq; cases hv
        obtain ⟨Is30, Fs30, e31, hv, hrs30, hps30⟩ := hq
        cases hv
        have Gs30 := fm_ts Gs28 Fs30 (by decide) (by decide)
        have JTD_s30 : TD s30 := TD_fm Fs30 (by decide) JTD_s28
        have ws30_77 : iI s30 77 = iI s28 77 := fm_i Fs30 (by decide)
        have ws30_75 : iI s30 75 = iI s28 75 := fm_i Fs30 (by decide)
        have ws30_79 : iI s30 79 = iI s28 79 := fm_i Fs30 (by decide)
        have ws30_91 : iI s30 91 = iI s28 91 := fm_i Fs30 (by decide)
        show WS k 121 [(3, .int (Int32.ofInt e10)), (2, .int (Int32.ofInt e8)), (1, .int (Int32.ofInt (iI s 77))), (0, .ref (A 179))] [.int (Int32.ofInt e31)] (Wd A dT s30) 0 0
        refine z_if_eq X (t := 134) (show cdA 199 121 = some (.ifCond .eq 13, 3, 0, 0, 0) from rfl) (by decide) hrs30 (fun g32 => ?_) (fun g32 => ?_)
        ·
          refine z_const X (show cdA 199 134 = some (.iconst 1, 1, 0, 0, 0) from rfl) ?_
          refine z_store X (lv' := [(4, .int (Int32.ofInt 1)), (3, .int (Int32.ofInt e10)), (2, .int (Int32.ofInt e8)), (1, .int (Int32.ofInt (iI s 77))), (0, .ref (A 179))]) (show cdA 199 135 = some (.istore 4, 2, 0, 0, 0) from rfl) (by decide) (fun _ h => h) ?_
          refine z_const X (show cdA 199 137 = some (.iconst 0, 1, 0, 0, 0) from rfl) ?_
          refine z_store X (lv' := [(5, .int (Int32.ofInt 0)), (4, .int (Int32.ofInt 1)), (3, .int (Int32.ofInt e10)), (2, .int (Int32.ofInt e8)), (1, .int (Int32.ofInt (iI s 77))), (0, .ref (A 179))]) (show cdA 199 138 = some (.istore 5, 2, 0, 0, 0) from rfl) (by decide) (fun _ h => h) ?_
          refine WS_lv (lv := [(0, .ref (A 179)), (1, .int (Int32.ofInt (iI s 77))), (3, .int (Int32.ofInt e10)), (4, .int (Int32.ofInt 1)), (5, .int (Int32.ofInt 0))]) (List.forall_mem_cons.mpr ⟨(List.Mem.tail _ (List.Mem.tail _ (List.Mem.tail _ (List.Mem.tail _ (List.Mem.tail _ (List.Mem.head _)))))), (List.forall_mem_cons.mpr ⟨(List.Mem.tail _ (List.Mem.tail _ (List.Mem.tail _ (List.Mem.tail _ (List.Mem.head _))))), (List.forall_mem_cons.mpr ⟨(List.Mem.tail _ (List.Mem.tail _ (List.Mem.head _))), (List.forall_mem_cons.mpr ⟨(List.Mem.tail _ (List.Mem.head _)), (List.forall_mem_cons.mpr ⟨(List.Mem.head _), (fun q h => absurd h List.not_mem_nil)⟩)⟩)⟩)⟩)⟩) ?_
          refine L140 ((1 - 0 : Int).toNat + 1) s30 (iI s 77) e10 1 0 Is30 Gs30 JTD_s30 (by first | exact ⟨And.intro (b6.1) (b6.2), oq_752b3116 g17 g11 he10.1, And.intro (by decide) (by decide), by decide, by decide, by decide, oq_c8410329 ws30_91 ws28_91 ws14_91 ws13_91 ws7_91 p1, oq_3f1d71b6 ws30_77 ws28_77 hps14.1 vs13 ws7_77, oq_daa08e9e ws30_77 ws28_77 hps14.2 ws13_75 vs13 ws7_75 ws7_77, oq_34b54d29 ws30_79 ws28_79 ws14_79 ws13_79 ws7_79 b3.1⟩ | omega) (Nat.lt_succ_self _) ?_
          intro s33 x34 x35 x36 x37 Is33 Fs33 JTD_s33 hs33
          have b38 : (0 : Int) ≤ iI s33 77 ∧ iI s33 77 ≤ 400 := Is33.1 77
          have b39 : (0 : Int) ≤ iI s33 75 ∧ iI s33 75 ≤ 200 := Is33.1 75
          have b40 : (0 : Int) ≤ iI s33 79 ∧ iI s33 79 ≤ 9 := Is33.1 79
          have b41 : (0 : Int) ≤ iI s33 91 ∧ iI s33 91 ≤ 24 := Is33.1 91
          exact w_vret X.1 q hRt (ax_d X (show cdA 199 245 = some (.return_, 1, 0, 0, 0) from rfl)) (Nat.zero_le _) (Nat.zero_le _) ⟨_, rfl, Is33, Fs33, JTD_s33, rfl, by first | exact ⟨Or.inr (hs33.2.2.2.2.2.2.2.1), hs33.2.2.2.2.2.2.2.2.1, hs33.2.2.2.2.2.2.1, hs33.2.2.2.2.2.2.2.2.2, oq_161a6600 hs33.2.2.2.2.2.2.2.1⟩ | omega⟩
        ·
          refine z_aload_n X (x := A 179) (show cdA 199 124 = some (.aload_n 0, 1, 0, 0, 0) from rfl) (List.Mem.tail _ (List.Mem.tail _ (List.Mem.tail _ (List.Mem.head _)))) ?_
          refine z_const X (show cdA 199 125 = some (.iconst 1, 1, 0, 0, 0) from rfl) ?_
          refine z_bipush X (show cdA 199 126 = some (.bipush 7, 2, 0, 0, 7) from rfl) ?_
          refine z_callV X 179 (rm := rmN 196) (As := [.int (Int32.ofInt 1), .int (Int32.ofInt 7)]) (st := []) (show cdA 199 128 = some (.invokevirtual 219, 3, 196, 0, 0) from rfl) rfl (by decide) rfl (by rw [E.1, E.2.1, E.2.2.1]; exact k_number G Is30 (by first | exact ⟨by decide, by decide⟩ | omega) (by first | exact ⟨by decide, by decide⟩ | omega) (by first | exact oq_42754aa4 g32 ws30_77 hps30 ws28_77 hps28 ws14_75 ws13_75 ws7_75 b2.2 | omega)) ⟨by rw [E.2.2.2]; exact (show (rmN 196).frames + 1 ≤ (rmN 199).frames by decide), by rw [E.2.2.2]; exact (show 8 + (mNL (miB 196) + 11) + (rmN 196).locals ≤ (rmN 199).locals by decide), by rw [E.2.2.2]; exact (show 0 + (rmN 196).cells ≤ (rmN 199).cells by decide), by rw [E.2.2.2]; exact (show 0 + (rmN 196).slots ≤ (rmN 199).slots by decide)⟩ (Nat.le_of_ble_eq_true rfl) (fun vv s42 hq => ?_) (fun ee s42 hq => ?_)
          rotate_left
          · obtain ⟨Is42, Fs42, e43, hv, hrs42, hps42⟩ := hq; cases hv
          obtain ⟨Is42, Fs42, e43, hv, hrs42, hps42⟩ := hq
          cases hv
          have Gs42 := fm_ts Gs30 Fs42 (by decide) (by decide)
          have JTD_s42 : TD s42 := TD_fm Fs42 (by decide) JTD_s30
          have b44 : (0 : Int) ≤ iI s42 77 ∧ iI s42 77 ≤ 400 := Is42.1 77
          have ws42_75 : iI s42 75 = iI s30 75 := fm_i Fs42 (by decide)
          have b45 : (0 : Int) ≤ iI s42 79 ∧ iI s42 79 ≤ 9 := Is42.1 79
          have ws42_91 : iI s42 91 = iI s30 91 := fm_i Fs42 (by decide)
          show WS k 131 [(3, .int (Int32.ofInt e10)), (2, .int (Int32.ofInt e8)), (1, .int (Int32.ofInt (iI s 77))), (0, .ref (A 179))] [.int (Int32.ofInt e43)] (Wd A dT s42) 0 0
          refine z_goto X (t := 135) (show cdA 199 131 = some (.goto 4, 3, 0, 0, 0) from rfl) (by decide) ?_
          refine z_store X (lv' := [(4, .int (Int32.ofInt e43)), (3, .int (Int32.ofInt e10)), (2, .int (Int32.ofInt e8)), (1, .int (Int32.ofInt (iI s 77))), (0, .ref (A 179))]) (show cdA 199 135 = some (.istore 4, 2, 0, 0, 0) from rfl) (by decide) (fun _ h => h) ?_
          refine z_const X (show cdA 199 137 = some (.iconst 0, 1, 0, 0, 0) from rfl) ?_
          refine z_store X (lv' := [(5, .int (Int32.ofInt 0)), (4, .int (Int32.ofInt e43)), (3, .int (Int32.ofInt e10)), (2, .int (Int32.ofInt e8)), (1, .int (Int32.ofInt (iI s 77))), (0, .ref (A 179))]) (show cdA 199 138 = some (.istore 5, 2, 0, 0, 0) from rfl) (by decide) (fun _ h => h) ?_
          refine WS_lv (lv := [(0, .ref (A 179)), (1, .int (Int32.ofInt (iI s 77))), (3, .int (Int32.ofInt e10)), (4, .int (Int32.ofInt e43)), (5, .int (Int32.ofInt 0))]) (List.forall_mem_cons.mpr ⟨(List.Mem.tail _ (List.Mem.tail _ (List.Mem.tail _ (List.Mem.tail _ (List.Mem.tail _ (List.Mem.head _)))))), (List.forall_mem_cons.mpr ⟨(List.Mem.tail _ (List.Mem.tail _ (List.Mem.tail _ (List.Mem.tail _ (List.Mem.head _))))), (List.forall_mem_cons.mpr ⟨(List.Mem.tail _ (List.Mem.tail _ (List.Mem.head _))), (List.forall_mem_cons.mpr ⟨(List.Mem.tail _ (List.Mem.head _)), (List.forall_mem_cons.mpr ⟨(List.Mem.head _), (fun q h => absurd h List.not_mem_nil)⟩)⟩)⟩)⟩)⟩) ?_
          refine L140 ((e43 - 0 : Int).toNat + 1) s42 (iI s 77) e10 e43 0 Is42 Gs42 JTD_s42 (by first | exact ⟨And.intro (b6.1) (b6.2), oq_752b3116 g17 g11 he10.1, by omega, hps42.2.2.2.2, by decide, by decide, oq_09c52347 ws42_91 ws30_91 ws28_91 ws14_91 ws13_91 ws7_91 p1, oq_7dec77c9 hps42.1 ws30_77 ws28_77 hps14.1 vs13 ws7_77, oq_bdae2018 hps42.2.1 g32 ws30_75 ws30_77 hps30 ws28_75 ws28_77 hps28 ws14_75 ws13_75 ws7_75, oq_55f7238d b45.1 hps42.2.2.1 ws30_79 ws28_79 ws14_79 ws13_79 ws7_79 b3.1⟩ | omega) (Nat.lt_succ_self _) ?_
          intro s46 x47 x48 x49 x50 Is46 Fs46 JTD_s46 hs46
          have b51 : (0 : Int) ≤ iI s46 77 ∧ iI s46 77 ≤ 400 := Is46.1 77
          have b52 : (0 : Int) ≤ iI s46 75 ∧ iI s46 75 ≤ 200 := Is46.1 75
          have b53 : (0 : Int) ≤ iI s46 79 ∧ iI s46 79 ≤ 9 := Is46.1 79
          have b54 : (0 : Int) ≤ iI s46 91 ∧ iI s46 91 ≤ 24 := Is46.1 91
          exact w_vret X.1 q hRt (ax_d X (show cdA 199 245 = some (.return_, 1, 0, 0, 0) from rfl)) (Nat.zero_le _) (Nat.zero_le _) ⟨_, rfl, Is46, Fs46, JTD_s46, rfl, by first | exact ⟨Or.inr (hs46.2.2.2.2.2.2.2.1), hs46.2.2.2.2.2.2.2.2.1, hs46.2.2.2.2.2.2.1, hs46.2.2.2.2.2.2.2.2.2, oq_161a6600 hs46.2.2.2.2.2.2.2.1⟩ | omega⟩
    ·
      refine z_aload_n X (x := A 179) (show cdA 199 81 = some (.aload_n 0, 1, 0, 0, 0) from rfl) (List.Mem.tail _ (List.Mem.tail _ (List.Mem.tail _ (List.Mem.head _)))) ?_
      refine z_const X (show cdA 199 82 = some (.iconst 1, 1, 0, 0, 0) from rfl) ?_
      refine z_aload_n X (x := A 179) (show cdA 199 83 = some (.aload_n 0, 1, 0, 0, 0) from rfl) (List.Mem.tail _ (List.Mem.tail _ (List.Mem.tail _ (List.Mem.head _)))) ?_
      refine z_getI X 179 (show cdA 199 84 = some (.getfield 184, 3, 12, 4, 0) from rfl) (by decide) rfl rfl ?_
      have b55 : (0 : Int) ≤ iI s7 77 ∧ iI s7 77 ≤ 400 := Is7.1 77
      refine z_callV X 179 (rm := rmN 194) (As := [.int (Int32.ofInt 1), .int (Int32.ofInt (iI s7 77))]) (st := []) (show cdA 199 87 = some (.invokevirtual 204, 3, 194, 0, 0) from rfl) rfl (by decide) rfl (by rw [E.1, E.2.1, E.2.2.1]; exact k_wrong G Is7 (by first | exact ⟨by decide, by decide⟩ | omega) (by first | exact ⟨oq_ca54ea22 b55.1, b55.2⟩ | omega)) ⟨by rw [E.2.2.2]; exact (show (rmN 194).frames + 1 ≤ (rmN 199).frames by decide), by rw [E.2.2.2]; exact (show 8 + (mNL (miB 194) + 11) + (rmN 194).locals ≤ (rmN 199).locals by decide), by rw [E.2.2.2]; exact (show 0 + (rmN 194).cells ≤ (rmN 199).cells by decide), by rw [E.2.2.2]; exact (show 0 + (rmN 194).slots ≤ (rmN 199).slots by decide)⟩ (Nat.le_of_ble_eq_true rfl) (fun vv s56 hq => ?_) (fun ee s56 hq => ?_)
      rotate_left
      · obtain ⟨Is56, Fs56, hv, hps56⟩ := hq; cases hv
      obtain ⟨Is56, Fs56, hv, hps56⟩ := hq
      cases hv
      have Gs56 := fm_ts Gs7 Fs56 (by decide) (by decide)
      have JTD_s56 : TD s56 := TD_fm Fs56 (by decide) JTD_s7
      have ws56_77 : iI s56 77 = iI s7 77 := fm_i Fs56 (by decide)
      have ws56_75 : iI s56 75 = iI s7 75 := fm_i Fs56 (by decide)
      have b58 : (0 : Int) ≤ iI s56 79 ∧ iI s56 79 ≤ 9 := Is56.1 79
      have ws56_91 : iI s56 91 = iI s7 91 := fm_i Fs56 (by decide)
      show WS k 90 [(3, .int (Int32.ofInt e10)), (2, .int (Int32.ofInt e8)), (1, .int (Int32.ofInt (iI s 77))), (0, .ref (A 179))] [] (Wd A dT s56) 0 0
      exact w_vret X.1 q hRt (ax_d X (show cdA 199 90 = some (.return_, 1, 0, 0, 0) from rfl)) (Nat.zero_le _) (Nat.zero_le _) ⟨_, rfl, Is56, Gs56, JTD_s56, rfl, by first | exact ⟨Or.inl (hps56), Or.inl (oq_810f36c7 ws56_77 ws7_77), oq_48a46d4a ws56_91 ws7_91 p1, oq_5071f1ab b58.1 hps56, oq_9bba7529 ws56_77 ws7_77⟩ | omega⟩
  refine z_icmp_ne X (t := 24) (show cdA 199 17 = some (.if_icmp .ne 7, 3, 1, 0, 0) from rfl) (by decide) hrs7 (by decide) (fun g59 => ?_) (fun g59 => ?_)
  ·
    refine z_load_n X (x := e8) (show cdA 199 24 = some (.iload_n 2, 1, 0, 0, 0) from rfl) (List.Mem.head _) ?_
    refine z_bipush X (show cdA 199 25 = some (.bipush 108, 2, 0, 0, 108) from rfl) ?_
    refine z_icmp_ne X (t := 34) (show cdA 199 27 = some (.if_icmp .ne 7, 3, 1, 0, 0) from rfl) (by decide) hrs7 (by decide) (fun g60 => ?_) (fun g60 => ?_)
    ·
      refine z_load_n X (x := e8) (show cdA 199 34 = some (.iload_n 2, 1, 0, 0, 0) from rfl) (List.Mem.head _) ?_
      refine z_bipush X (show cdA 199 35 = some (.bipush 100, 2, 0, 0, 100) from rfl) ?_
      refine z_icmp_ne X (t := 44) (show cdA 199 37 = some (.if_icmp .ne 7, 3, 1, 0, 0) from rfl) (by decide) hrs7 (by decide) (fun g61 => ?_) (fun g61 => ?_)
      ·
        refine z_load_n X (x := e8) (show cdA 199 44 = some (.iload_n 2, 1, 0, 0, 0) from rfl) (List.Mem.head _) ?_
        refine z_bipush X (show cdA 199 45 = some (.bipush 117, 2, 0, 0, 117) from rfl) ?_
        refine z_icmp_ne X (t := 54) (show cdA 199 47 = some (.if_icmp .ne 7, 3, 1, 0, 0) from rfl) (by decide) hrs7 (by decide) (fun g62 => ?_) (fun g62 => ?_)
        ·
          refine z_load_n X (x := e8) (show cdA 199 54 = some (.iload_n 2, 1, 0, 0, 0) from rfl) (List.Mem.head _) ?_
          refine z_bipush X (show cdA 199 55 = some (.bipush 99, 2, 0, 0, 99) from rfl) ?_
          refine z_icmp_ne X (t := 64) (show cdA 199 57 = some (.if_icmp .ne 7, 3, 1, 0, 0) from rfl) (by decide) hrs7 (by decide) (fun g63 => ?_) (fun g63 => ?_)
          ·
            refine z_load_n X (x := e8) (show cdA 199 64 = some (.iload_n 2, 1, 0, 0, 0) from rfl) (List.Mem.head _) ?_
            refine z_bipush X (show cdA 199 65 = some (.bipush 115, 2, 0, 0, 115) from rfl) ?_
            refine z_icmp_ne X (t := 74) (show cdA 199 67 = some (.if_icmp .ne 7, 3, 1, 0, 0) from rfl) (by decide) hrs7 (by decide) (fun g64 => ?_) (fun g64 => ?_)
            ·
              refine z_const X (show cdA 199 74 = some (.iconst (-1), 1, 0, 0, 0) from rfl) ?_
              exact N9 _ (by omega)
            ·
              refine z_const X (show cdA 199 70 = some (.iconst 5, 1, 0, 0, 0) from rfl) ?_
              refine z_goto X (t := 75) (show cdA 199 71 = some (.goto 4, 3, 0, 0, 0) from rfl) (by decide) ?_
              exact N9 _ (by omega)
          ·
            refine z_const X (show cdA 199 60 = some (.iconst 4, 1, 0, 0, 0) from rfl) ?_
            refine z_goto X (t := 75) (show cdA 199 61 = some (.goto 14, 3, 0, 0, 0) from rfl) (by decide) ?_
            exact N9 _ (by omega)
        ·
          refine z_const X (show cdA 199 50 = some (.iconst 3, 1, 0, 0, 0) from rfl) ?_
          refine z_goto X (t := 75) (show cdA 199 51 = some (.goto 24, 3, 0, 0, 0) from rfl) (by decide) ?_
          exact N9 _ (by omega)
      ·
        refine z_const X (show cdA 199 40 = some (.iconst 2, 1, 0, 0, 0) from rfl) ?_
        refine z_goto X (t := 75) (show cdA 199 41 = some (.goto 34, 3, 0, 0, 0) from rfl) (by decide) ?_
        exact N9 _ (by omega)
    ·
      refine z_const X (show cdA 199 30 = some (.iconst 1, 1, 0, 0, 0) from rfl) ?_
      refine z_goto X (t := 75) (show cdA 199 31 = some (.goto 44, 3, 0, 0, 0) from rfl) (by decide) ?_
      exact N9 _ (by omega)
  ·
    refine z_const X (show cdA 199 20 = some (.iconst 0, 1, 0, 0, 0) from rfl) ?_
    refine z_goto X (t := 75) (show cdA 199 21 = some (.goto 54, 3, 0, 0, 0) from rfl) (by decide) ?_
    exact N9 _ (by omega)
end M36
