/-! The model: shorts, offs -/
section M38
variable {l : Launch} {s0 : State} {D : va_G} {tys : List (ClassId × FieldType)} {a0 : Array Value} {A : Nat → Nat} {dT : Nat → ClassId} {s : PS}
theorem k_shorts (G : GX l s0 D tys a0 dT) (I : Bd s) {x : Int} (p0 : rng x) : CT l s0 D A dT 243 (rmN 243) [.ref (A 179), .int (Int32.ofInt x)] s (fun o t => Bd t ∧ Fm [73] [] s t ∧ ∃ e, o = .inl (some (.int (Int32.ofInt e))) ∧ rng e ∧ (True)) := by
  refine ct_of G (by decide) (Nat.le_of_ble_eq_true rfl) (fun k X E hRt hXt q => ?_)
  show WS k 0 [(0, .ref (A 179)), (1, .int (Int32.ofInt x))] [] _ 0 0
  have F : Fm [73] [] s s := fm_rf _ _ s
  have b1 : (0 : Int) ≤ iI s 73 ∧ iI s 73 ≤ 3 := I.1 73
  have b2 : (0 : Int) ≤ iI s 90 ∧ iI s 90 ≤ 12 := I.1 90
  have b3 : (0 : Int) ≤ iI s 95 ∧ iI s 95 ≤ 9 := I.1 95
  have L48 : ∀ (n : Nat) (t : PS) (xv bv sv rv c : Int), Bd t → Fm [73] [] s t → ((0 ≤ xv ∧ xv ≤ 7) ∧ rng bv ∧ (0 ≤ sv ∧ sv ≤ 11) ∧ 0 ≤ rv ∧ rv ≤ c ∧ c ≤ 25) → (25 - c : Int).toNat < n → (∀ (t' : PS) (bv' rv' c' : Int), Bd t' → Fm [73] [] s t' → ((0 ≤ xv ∧ xv ≤ 7) ∧ rng bv' ∧ (0 ≤ sv ∧ sv ≤ 11) ∧ 0 ≤ rv' ∧ rv' ≤ c' ∧ c' ≤ 25) → WS k 141 [(0, .ref (A 179)), (1, .int (Int32.ofInt xv)), (2, .int (Int32.ofInt bv')), (3, .int (Int32.ofInt sv)), (4, .int (Int32.ofInt rv')), (5, .int (Int32.ofInt c'))] [] (Wd A dT t') 0 0) → WS k 48 [(0, .ref (A 179)), (1, .int (Int32.ofInt xv)), (2, .int (Int32.ofInt bv)), (3, .int (Int32.ofInt sv)), (4, .int (Int32.ofInt rv)), (5, .int (Int32.ofInt c))] [] (Wd A dT t) 0 0 := by
    intro n
    induction n with
    | zero =>
      intro t xv bv sv rv c I F hi hm kx
      exact absurd hm (Nat.not_lt_zero _)
    | succ n ih =>
      intro t xv bv sv rv c I F hi hm kx
      have b1001 : (0 : Int) ≤ iI t 73 ∧ iI t 73 ≤ 3 := I.1 73
      have b1002 : (0 : Int) ≤ iI t 90 ∧ iI t 90 ≤ 12 := I.1 90
      have b1003 : (0 : Int) ≤ iI t 95 ∧ iI t 95 ≤ 9 := I.1 95
      refine z_load X (x := c) (show cdA 243 48 = some (.iload 5, 2, 0, 0, 0) from rfl) (List.Mem.tail _ (List.Mem.tail _ (List.Mem.tail _ (List.Mem.tail _ (List.Mem.tail _ (List.Mem.head _)))))) ?_
      refine z_aload_n X (x := A 179) (show cdA 243 50 = some (.aload_n 0, 1, 0, 0, 0) from rfl) (List.Mem.head _) ?_
      refine s_getR X 179 (show cdA 243 51 = some (.getfield 35, 3, 12, 23, 0) from rfl) (by decide) rfl rfl ?_
      refine z_load_n X (x := sv) (show cdA 243 54 = some (.iload_n 3, 1, 0, 0, 0) from rfl) (List.Mem.tail _ (List.Mem.tail _ (List.Mem.tail _ (List.Mem.head _)))) ?_
      refine z_ald X 185 (show cdA 243 55 = some (.iaload, 1, 0, 0, 0) from rfl) (by decide) rfl (by first | exact hi.2.2.1.1 | omega) (show sv < 12 by first | exact oq_0ddfcfee hi.2.2.1.2 | omega) (by decide) ?_
      have b1004 : (0 : Int) ≤ iC t 162 (sv).toNat ∧ iC t 162 (sv).toNat ≤ 24 := I.2 162 _ (show (sv).toNat < 12 by first | exact oq_9c5fa447 hi.2.2.1.2 | omega)
      refine z_icmp_gt X (t := 141) (show cdA 243 56 = some (.if_icmp .gt 85, 3, 4, 0, 0) from rfl) (by decide) ⟨by first | exact oq_e001bc0d hi.2.2.2.2.1 hi.2.2.2.1 | omega, by first | exact oq_99d04864 hi.2.2.2.2.2 | omega⟩ (rng_to _) (fun g1005 => ?_) (fun g1005 => ?_)
      ·
        refine WS_lv (lv := [(0, .ref (A 179)), (1, .int (Int32.ofInt xv)), (2, .int (Int32.ofInt bv)), (3, .int (Int32.ofInt sv)), (4, .int (Int32.ofInt rv)), (5, .int (Int32.ofInt c))]) (List.forall_mem_cons.mpr ⟨(List.Mem.head _), (List.forall_mem_cons.mpr ⟨(List.Mem.tail _ (List.Mem.head _)), (List.forall_mem_cons.mpr ⟨(List.Mem.tail _ (List.Mem.tail _ (List.Mem.head _))), (List.forall_mem_cons.mpr ⟨(List.Mem.tail _ (List.Mem.tail _ (List.Mem.tail _ (List.Mem.head _)))), (List.forall_mem_cons.mpr ⟨(List.Mem.tail _ (List.Mem.tail _ (List.Mem.tail _ (List.Mem.tail _ (List.Mem.head _))))), (List.forall_mem_cons.mpr ⟨(List.Mem.tail _ (List.Mem.tail _ (List.Mem.tail _ (List.Mem.tail _ (List.Mem.tail _ (List.Mem.head _)))))), (fun q h => absurd h List.not_mem_nil)⟩)⟩)⟩)⟩)⟩)⟩) ?_
        exact kx _ bv rv c I F (by first | exact ⟨And.intro (hi.1.1) (hi.1.2), And.intro (hi.2.1.1) (hi.2.1.2), And.intro (hi.2.2.1.1) (hi.2.2.1.2), hi.2.2.2.1, hi.2.2.2.2.1, hi.2.2.2.2.2⟩ | omega)
      ·
        refine z_load X (x := c) (show cdA 243 59 = some (.iload 5, 2, 0, 0, 0) from rfl) (List.Mem.tail _ (List.Mem.tail _ (List.Mem.tail _ (List.Mem.tail _ (List.Mem.tail _ (List.Mem.head _)))))) ?_
        refine z_aload_n X (x := A 179) (show cdA 243 61 = some (.aload_n 0, 1, 0, 0, 0) from rfl) (List.Mem.head _) ?_
        refine s_getR X 179 (show cdA 243 62 = some (.getfield 35, 3, 12, 23, 0) from rfl) (by decide) rfl rfl ?_
        refine z_load_n X (x := sv) (show cdA 243 65 = some (.iload_n 3, 1, 0, 0, 0) from rfl) (List.Mem.tail _ (List.Mem.tail _ (List.Mem.tail _ (List.Mem.head _)))) ?_
        refine z_ald X 185 (show cdA 243 66 = some (.iaload, 1, 0, 0, 0) from rfl) (by decide) rfl (by first | exact hi.2.2.1.1 | omega) (show sv < 12 by first | exact oq_0ddfcfee hi.2.2.1.2 | omega) (by decide) ?_
        have b1006 : (0 : Int) ≤ iC t 162 (sv).toNat ∧ iC t 162 (sv).toNat ≤ 24 := I.2 162 _ (show (sv).toNat < 12 by first | exact oq_9c5fa447 hi.2.2.1.2 | omega)
        have N1007 : ∀ e1008 : Int, ((((iC t 162 (sv).toNat) ≤ c) ∧ e1008 = 0) ∨ ((c < (iC t 162 (sv).toNat)) ∧ ((0 : Int) ≤ (iC t (166 + (sv : Int).toNat) (c : Int).toNat) ∧ (iC t (166 + (sv : Int).toNat) (c : Int).toNat) ≤ 127) ∧ (((-1) : Int) ≤ iC t 228 ((iC t (166 + (sv : Int).toNat) (c : Int).toNat)).toNat ∧ iC t 228 ((iC t (166 + (sv : Int).toNat) (c : Int).toNat)).toNat ≤ 7) ∧ ((iC t 228 ((iC t (166 + (sv : Int).toNat) (c : Int).toNat)).toNat) ≠ xv) ∧ e1008 = 0) ∨ ((c < (iC t 162 (sv).toNat)) ∧ ((0 : Int) ≤ (iC t (166 + (sv : Int).toNat) (c : Int).toNat) ∧ (iC t (166 + (sv : Int).toNat) (c : Int).toNat) ≤ 127) ∧ (((-1) : Int) ≤ iC t 228 ((iC t (166 + (sv : Int).toNat) (c : Int).toNat)).toNat ∧ iC t 228 ((iC t (166 + (sv : Int).toNat) (c : Int).toNat)).toNat ≤ 7) ∧ ((iC t 228 ((iC t (166 + (sv : Int).toNat) (c : Int).toNat)).toNat) = xv) ∧ e1008 = 1)) → WS k 93 [(0, .ref (A 179)), (1, .int (Int32.ofInt xv)), (2, .int (Int32.ofInt bv)), (3, .int (Int32.ofInt sv)), (4, .int (Int32.ofInt rv)), (5, .int (Int32.ofInt c))] [.int (Int32.ofInt e1008)] (Wd A dT t) 0 0 := by
          intro e1008 he1008
          have re1008 : 0 ≤ e1008 ∧ e1008 ≤ 1 := by omega
          refine z_store X (lv' := [(6, .int (Int32.ofInt e1008)), (0, .ref (A 179)), (1, .int (Int32.ofInt xv)), (2, .int (Int32.ofInt bv)), (3, .int (Int32.ofInt sv)), (4, .int (Int32.ofInt rv)), (5, .int (Int32.ofInt c))]) (show cdA 243 93 = some (.istore 6, 2, 0, 0, 0) from rfl) (by decide) (fun _ h => h) ?_
          refine z_load X (x := e1008) (show cdA 243 95 = some (.iload 6, 2, 0, 0, 0) from rfl) (List.Mem.head _) ?_
          refine z_if_ne X (t := 120) (show cdA 243 97 = some (.ifCond .ne 23, 3, 1, 0, 0) from rfl) (by decide) ⟨by first | exact oq_fa4e5087 re1008.1 | omega, by first | exact oq_22e1e6b0 re1008.2 | omega⟩ (fun g1009 => ?_) (fun g1009 => ?_)
          ·
            refine z_load X (x := e1008) (show cdA 243 120 = some (.iload 6, 2, 0, 0, 0) from rfl) (List.Mem.head _) ?_
            have N1010 : ∀ e1011 : Int, (((e1008 = 0) ∧ e1011 = 0) ∨ ((e1008 ≠ 0) ∧ e1011 = (rv + 1))) → WS k 133 [(6, .int (Int32.ofInt e1008)), (0, .ref (A 179)), (1, .int (Int32.ofInt xv)), (2, .int (Int32.ofInt bv)), (3, .int (Int32.ofInt sv)), (4, .int (Int32.ofInt rv)), (5, .int (Int32.ofInt c))] [.int (Int32.ofInt e1011)] (Wd A dT t) 0 0 := by
              intro e1011 he1011
              refine z_store X (lv' := [(4, .int (Int32.ofInt e1011)), (6, .int (Int32.ofInt e1008)), (0, .ref (A 179)), (1, .int (Int32.ofInt xv)), (2, .int (Int32.ofInt bv)), (3, .int (Int32.ofInt sv)), (5, .int (Int32.ofInt c))]) (show cdA 243 133 = some (.istore 4, 2, 0, 0, 0) from rfl) (by decide) (fun _ h => h) ?_
              refine z_inc X (x := c) (lv' := [(5, .int (Int32.ofInt (c + 1))), (4, .int (Int32.ofInt e1011)), (6, .int (Int32.ofInt e1008)), (0, .ref (A 179)), (1, .int (Int32.ofInt xv)), (2, .int (Int32.ofInt bv)), (3, .int (Int32.ofInt sv))]) (show cdA 243 135 = some (.iinc 5 1, 3, 0, 0, 0) from rfl) (by decide) (List.Mem.tail _ (List.Mem.tail _ (List.Mem.tail _ (List.Mem.tail _ (List.Mem.tail _ (List.Mem.tail _ (List.Mem.head _))))))) (fun _ h => h) ?_
              refine z_goto X (t := 48) (show cdA 243 138 = some (.goto (-90), 3, 0, 0, 0) from rfl) (by decide) ?_
              refine WS_lv (lv := [(0, .ref (A 179)), (1, .int (Int32.ofInt xv)), (2, .int (Int32.ofInt bv)), (3, .int (Int32.ofInt sv)), (4, .int (Int32.ofInt e1011)), (5, .int (Int32.ofInt (c + 1)))]) (List.forall_mem_cons.mpr ⟨(List.Mem.tail _ (List.Mem.tail _ (List.Mem.tail _ (List.Mem.head _)))), (List.forall_mem_cons.mpr ⟨(List.Mem.tail _ (List.Mem.tail _ (List.Mem.tail _ (List.Mem.tail _ (List.Mem.head _))))), (List.forall_mem_cons.mpr ⟨(List.Mem.tail _ (List.Mem.tail _ (List.Mem.tail _ (List.Mem.tail _ (List.Mem.tail _ (List.Mem.head _)))))), (List.forall_mem_cons.mpr ⟨(List.Mem.tail _ (List.Mem.tail _ (List.Mem.tail _ (List.Mem.tail _ (List.Mem.tail _ (List.Mem.tail _ (List.Mem.head _))))))), (List.forall_mem_cons.mpr ⟨(List.Mem.tail _ (List.Mem.head _)), (List.forall_mem_cons.mpr ⟨(List.Mem.head _), (fun q h => absurd h List.not_mem_nil)⟩)⟩)⟩)⟩)⟩)⟩) ?_
              exact ih _ xv bv sv e1011 (c + 1) I F (by first | exact ⟨And.intro (hi.1.1) (hi.1.2), And.intro (hi.2.1.1) (hi.2.1.2), And.intro (hi.2.2.1.1) (hi.2.2.1.2), oq_a8f1d18e he1011 hi.2.2.2.1, oq_7ac42359 he1011 hi.2.2.2.2.1 hi.2.2.2.1, oq_7f051044 g1005 b1006.2⟩ | omega) (by first | exact qk_me hm (by decide) (oq_9ae278d0 g1005 b1006.2) | omega) kx
            refine z_if_eq X (t := 132) (show cdA 243 122 = some (.ifCond .eq 10, 3, 0, 0, 0) from rfl) (by decide) ⟨by first | exact oq_fa4e5087 re1008.1 | omega, by first | exact oq_22e1e6b0 re1008.2 | omega⟩ (fun g1012 => ?_) (fun g1012 => ?_)
            ·
              refine z_const X (show cdA 243 132 = some (.iconst 0, 1, 0, 0, 0) from rfl) ?_
              exact N1010 _ (Or.inl ⟨g1012, rfl⟩)
            ·
              refine z_load X (x := rv) (show cdA 243 125 = some (.iload 4, 2, 0, 0, 0) from rfl) (List.Mem.tail _ (List.Mem.tail _ (List.Mem.tail _ (List.Mem.tail _ (List.Mem.tail _ (List.Mem.head _)))))) ?_
              refine z_const X (show cdA 243 127 = some (.iconst 1, 1, 0, 0, 0) from rfl) ?_
              refine z_add X (show cdA 243 128 = some (.iadd, 1, 0, 0, 0) from rfl) ?_
              refine z_goto X (t := 133) (show cdA 243 129 = some (.goto 4, 3, 0, 0, 0) from rfl) (by decide) ?_
              exact N1010 _ (Or.inr (⟨g1012, rfl⟩))
          ·
            refine z_load X (x := rv) (show cdA 243 100 = some (.iload 4, 2, 0, 0, 0) from rfl) (List.Mem.tail _ (List.Mem.tail _ (List.Mem.tail _ (List.Mem.tail _ (List.Mem.tail _ (List.Mem.head _)))))) ?_
            refine z_if_le X (t := 120) (show cdA 243 102 = some (.ifCond .le 18, 3, 5, 0, 0) from rfl) (by decide) ⟨by first | exact oq_fa4e5087 hi.2.2.2.1 | omega, by first | exact oq_e678fa0f hi.2.2.2.2.1 hi.2.2.2.2.2 | omega⟩ (fun g1013 => ?_) (fun g1013 => ?_)
            ·
              refine z_load X (x := e1008) (show cdA 243 120 = some (.iload 6, 2, 0, 0, 0) from rfl) (List.Mem.head _) ?_
              have N1014 : ∀ e1015 : Int, (((e1008 = 0) ∧ e1015 = 0) ∨ ((e1008 ≠ 0) ∧ e1015 = (rv + 1))) → WS k 133 [(6, .int (Int32.ofInt e1008)), (0, .ref (A 179)), (1, .int (Int32.ofInt xv)), (2, .int (Int32.ofInt bv)), (3, .int (Int32.ofInt sv)), (4, .int (Int32.ofInt rv)), (5, .int (Int32.ofInt c))] [.int (Int32.ofInt e1015)] (Wd A dT t) 0 0 := by
                intro e1015 he1015
                refine z_store X (lv' := [(4, .int (Int32.ofInt e1015)), (6, .int (Int32.ofInt e1008)), (0, .ref (A 179)), (1, .int (Int32.ofInt xv)), (2, .int (Int32.ofInt bv)), (3, .int (Int32.ofInt sv)), (5, .int (Int32.ofInt c))]) (show cdA 243 133 = some (.istore 4, 2, 0, 0, 0) from rfl) (by decide) (fun _ h => h) ?_
                refine z_inc X (x := c) (lv' := [(5, .int (Int32.ofInt (c + 1))), (4, .int (Int32.ofInt e1015)), (6, .int (Int32.ofInt e1008)), (0, .ref (A 179)), (1, .int (Int32.ofInt xv)), (2, .int (Int32.ofInt bv)), (3, .int (Int32.ofInt sv))]) (show cdA 243 135 = some (.iinc 5 1, 3, 0, 0, 0) from rfl) (by decide) (List.Mem.tail _ (List.Mem.tail _ (List.Mem.tail _ (List.Mem.tail _ (List.Mem.tail _ (List.Mem.tail _ (List.Mem.head _))))))) (fun _ h => h) ?_
                refine z_goto X (t := 48) (show cdA 243 138 = some (.goto (-90), 3, 0, 0, 0) from rfl) (by decide) ?_
                refine WS_lv (lv := [(0, .ref (A 179)), (1, .int (Int32.ofInt xv)), (2, .int (Int32.ofInt bv)), (3, .int (Int32.ofInt sv)), (4, .int (Int32.ofInt e1015)), (5, .int (Int32.ofInt (c + 1)))]) (List.forall_mem_cons.mpr ⟨(List.Mem.tail _ (List.Mem.tail _ (List.Mem.tail _ (List.Mem.head _)))), (List.forall_mem_cons.mpr ⟨(List.Mem.tail _ (List.Mem.tail _ (List.Mem.tail _ (List.Mem.tail _ (List.Mem.head _))))), (List.forall_mem_cons.mpr ⟨(List.Mem.tail _ (List.Mem.tail _ (List.Mem.tail _ (List.Mem.tail _ (List.Mem.tail _ (List.Mem.head _)))))), (List.forall_mem_cons.mpr ⟨(List.Mem.tail _ (List.Mem.tail _ (List.Mem.tail _ (List.Mem.tail _ (List.Mem.tail _ (List.Mem.tail _ (List.Mem.head _))))))), (List.forall_mem_cons.mpr ⟨(List.Mem.tail _ (List.Mem.head _)), (List.forall_mem_cons.mpr ⟨(List.Mem.head _), (fun q h => absurd h List.not_mem_nil)⟩)⟩)⟩)⟩)⟩)⟩) ?_
                exact ih _ xv bv sv e1015 (c + 1) I F (by first | exact ⟨And.intro (hi.1.1) (hi.1.2), And.intro (hi.2.1.1) (hi.2.1.2), And.intro (hi.2.2.1.1) (hi.2.2.1.2), oq_a8f1d18e he1015 hi.2.2.2.1, oq_7ac42359 he1015 hi.2.2.2.2.1 hi.2.2.2.1, oq_7f051044 g1005 b1006.2⟩ | omega) (by first | exact qk_me hm (by decide) (oq_9ae278d0 g1005 b1006.2) | omega) kx
              refine z_if_eq X (t := 132) (show cdA 243 122 = some (.ifCond .eq 10, 3, 0, 0, 0) from rfl) (by decide) ⟨by first | exact oq_6ab4c69f g1009 | omega, by first | exact oq_3b8a080c g1009 | omega⟩ (fun g1016 => ?_) (fun g1016 => ?_)
              ·
                refine z_const X (show cdA 243 132 = some (.iconst 0, 1, 0, 0, 0) from rfl) ?_
                exact N1014 _ (Or.inl ⟨g1016, rfl⟩)
              ·
                refine z_load X (x := rv) (show cdA 243 125 = some (.iload 4, 2, 0, 0, 0) from rfl) (List.Mem.tail _ (List.Mem.tail _ (List.Mem.tail _ (List.Mem.tail _ (List.Mem.tail _ (List.Mem.head _)))))) ?_
                refine z_const X (show cdA 243 127 = some (.iconst 1, 1, 0, 0, 0) from rfl) ?_
                refine z_add X (show cdA 243 128 = some (.iadd, 1, 0, 0, 0) from rfl) ?_
                refine z_goto X (t := 133) (show cdA 243 129 = some (.goto 4, 3, 0, 0, 0) from rfl) (by decide) ?_
                exact N1014 _ (Or.inr (⟨g1016, rfl⟩))
            ·
              refine z_load X (x := rv) (show cdA 243 105 = some (.iload 4, 2, 0, 0, 0) from rfl) (List.Mem.tail _ (List.Mem.tail _ (List.Mem.tail _ (List.Mem.tail _ (List.Mem.tail _ (List.Mem.head _)))))) ?_
              refine z_aload_n X (x := A 179) (show cdA 243 107 = some (.aload_n 0, 1, 0, 0, 0) from rfl) (List.Mem.tail _ (List.Mem.head _)) ?_
              refine z_getI X 179 (show cdA 243 108 = some (.getfield 345, 3, 12, 44, 0) from rfl) (by decide) rfl rfl ?_
              have b1017 : (0 : Int) ≤ iI t 95 ∧ iI t 95 ≤ 9 := I.1 95
              refine z_icmp_ge X (t := 120) (show cdA 243 111 = some (.if_icmp .ge 9, 3, 3, 0, 0) from rfl) (by decide) ⟨by first | exact oq_97e58444 g1013 | omega, by first | exact oq_e678fa0f hi.2.2.2.2.1 hi.2.2.2.2.2 | omega⟩ (rng_to _) (fun g1018 => ?_) (fun g1018 => ?_)
              ·
                refine z_load X (x := e1008) (show cdA 243 120 = some (.iload 6, 2, 0, 0, 0) from rfl) (List.Mem.head _) ?_
                have N1019 : ∀ e1020 : Int, (((e1008 = 0) ∧ e1020 = 0) ∨ ((e1008 ≠ 0) ∧ e1020 = (rv + 1))) → WS k 133 [(6, .int (Int32.ofInt e1008)), (0, .ref (A 179)), (1, .int (Int32.ofInt xv)), (2, .int (Int32.ofInt bv)), (3, .int (Int32.ofInt sv)), (4, .int (Int32.ofInt rv)), (5, .int (Int32.ofInt c))] [.int (Int32.ofInt e1020)] (Wd A dT t) 0 0 := by
                  intro e1020 he1020
                  refine z_store X (lv' := [(4, .int (Int32.ofInt e1020)), (6, .int (Int32.ofInt e1008)), (0, .ref (A 179)), (1, .int (Int32.ofInt xv)), (2, .int (Int32.ofInt bv)), (3, .int (Int32.ofInt sv)), (5, .int (Int32.ofInt c))]) (show cdA 243 133 = some (.istore 4, 2, 0, 0, 0) from rfl) (by decide) (fun _ h => h) ?_
                  refine z_inc X (x := c) (lv' := [(5, .int (Int32.ofInt (c + 1))), (4, .int (Int32.ofInt e1020)), (6, .int (Int32.ofInt e1008)), (0, .ref (A 179)), (1, .int (Int32.ofInt xv)), (2, .int (Int32.ofInt bv)), (3, .int (Int32.ofInt sv))]) (show cdA 243 135 = some (.iinc 5 1, 3, 0, 0, 0) from rfl) (by decide) (List.Mem.tail _ (List.Mem.tail _ (List.Mem.tail _ (List.Mem.tail _ (List.Mem.tail _ (List.Mem.tail _ (List.Mem.head _))))))) (fun _ h => h) ?_
                  refine z_goto X (t := 48) (show cdA 243 138 = some (.goto (-90), 3, 0, 0, 0) from rfl) (by decide) ?_
                  refine WS_lv (lv := [(0, .ref (A 179)), (1, .int (Int32.ofInt xv)), (2, .int (Int32.ofInt bv)), (3, .int (Int32.ofInt sv)), (4, .int (Int32.ofInt e1020)), (5, .int (Int32.ofInt (c + 1)))]) (List.forall_mem_cons.mpr ⟨(List.Mem.tail _ (List.Mem.tail _ (List.Mem.tail _ (List.Mem.head _)))), (List.forall_mem_cons.mpr ⟨(List.Mem.tail _ (List.Mem.tail _ (List.Mem.tail _ (List.Mem.tail _ (List.Mem.head _))))), (List.forall_mem_cons.mpr ⟨(List.Mem.tail _ (List.Mem.tail _ (List.Mem.tail _ (List.Mem.tail _ (List.Mem.tail _ (List.Mem.head _)))))), (List.forall_mem_cons.mpr ⟨(List.Mem.tail _ (List.Mem.tail _ (List.Mem.tail _ (List.Mem.tail _ (List.Mem.tail _ (List.Mem.tail _ (List.Mem.head _))))))), (List.forall_mem_cons.mpr ⟨(List.Mem.tail _ (List.Mem.head _)), (List.forall_mem_cons.mpr ⟨(List.Mem.head _), (fun q h => absurd h List.not_mem_nil)⟩)⟩)⟩)⟩)⟩)⟩) ?_
                  exact ih _ xv bv sv e1020 (c + 1) I F (by first | exact ⟨And.intro (hi.1.1) (hi.1.2), And.intro (hi.2.1.1) (hi.2.1.2), And.intro (hi.2.2.1.1) (hi.2.2.1.2), oq_ec6299c0 he1020 g1013, oq_6b52d3f8 he1020 g1013 hi.2.2.2.2.1, oq_7f051044 g1005 b1006.2⟩ | omega) (by first | exact qk_me hm (by decide) (oq_9ae278d0 g1005 b1006.2) | omega) kx
                refine z_if_eq X (t := 132) (show cdA 243 122 = some (.ifCond .eq 10, 3, 0, 0, 0) from rfl) (by decide) ⟨by first | exact oq_6ab4c69f g1009 | omega, by first | exact oq_3b8a080c g1009 | omega⟩ (fun g1021 => ?_) (fun g1021 => ?_)
                ·
                  refine z_const X (show cdA 243 132 = some (.iconst 0, 1, 0, 0, 0) from rfl) ?_
                  exact N1019 _ (Or.inl ⟨g1021, rfl⟩)
                ·
                  refine z_load X (x := rv) (show cdA 243 125 = some (.iload 4, 2, 0, 0, 0) from rfl) (List.Mem.tail _ (List.Mem.tail _ (List.Mem.tail _ (List.Mem.tail _ (List.Mem.tail _ (List.Mem.head _)))))) ?_
                  refine z_const X (show cdA 243 127 = some (.iconst 1, 1, 0, 0, 0) from rfl) ?_
                  refine z_add X (show cdA 243 128 = some (.iadd, 1, 0, 0, 0) from rfl) ?_
                  refine z_goto X (t := 133) (show cdA 243 129 = some (.goto 4, 3, 0, 0, 0) from rfl) (by decide) ?_
                  exact N1019 _ (Or.inr (⟨g1021, rfl⟩))
              ·
                refine z_load_n X (x := bv) (show cdA 243 114 = some (.iload_n 2, 1, 0, 0, 0) from rfl) (List.Mem.tail _ (List.Mem.tail _ (List.Mem.tail _ (List.Mem.head _)))) ?_
                refine z_const X (show cdA 243 115 = some (.iconst 1, 1, 0, 0, 0) from rfl) ?_
                refine z_load_n X (x := sv) (show cdA 243 116 = some (.iload_n 3, 1, 0, 0, 0) from rfl) (List.Mem.tail _ (List.Mem.tail _ (List.Mem.tail _ (List.Mem.tail _ (List.Mem.head _))))) ?_
                refine z_bshl X (show cdA 243 117 = some (.ishl, 1, 0, 0, 0) from rfl) ?_
                refine z_any (fun y1022 hy1022 => ?_)
                refine z_bor X (show cdA 243 118 = some (.ior, 1, 0, 0, 0) from rfl) ?_
                refine z_any (fun y1023 hy1023 => ?_)
                refine z_store_n X (lv' := [(2, .int (Int32.ofInt y1023)), (6, .int (Int32.ofInt e1008)), (0, .ref (A 179)), (1, .int (Int32.ofInt xv)), (3, .int (Int32.ofInt sv)), (4, .int (Int32.ofInt rv)), (5, .int (Int32.ofInt c))]) (show cdA 243 119 = some (.istore_n 2, 1, 0, 0, 0) from rfl) (by decide) (fun _ h => h) ?_
                refine z_load X (x := e1008) (show cdA 243 120 = some (.iload 6, 2, 0, 0, 0) from rfl) (List.Mem.tail _ (List.Mem.head _)) ?_
                have N1024 : ∀ e1025 : Int, (((e1008 = 0) ∧ e1025 = 0) ∨ ((e1008 ≠ 0) ∧ e1025 = (rv + 1))) → WS k 133 [(2, .int (Int32.ofInt y1023)), (6, .int (Int32.ofInt e1008)), (0, .ref (A 179)), (1, .int (Int32.ofInt xv)), (3, .int (Int32.ofInt sv)), (4, .int (Int32.ofInt rv)), (5, .int (Int32.ofInt c))] [.int (Int32.ofInt e1025)] (Wd A dT t) 0 0 := by
                  intro e1025 he1025
                  refine z_store X (lv' := [(4, .int (Int32.ofInt e1025)), (2, .int (Int32.ofInt y1023)), (6, .int (Int32.ofInt e1008)), (0, .ref (A 179)), (1, .int (Int32.ofInt xv)), (3, .int (Int32.ofInt sv)), (5, .int (Int32.ofInt c))]) (show cdA 243 133 = some (.istore 4, 2, 0, 0, 0) from rfl) (by decide) (fun _ h => h) ?_
                  refine z_inc X (x := c) (lv' := [(5, .int (Int32.ofInt (c + 1))), (4, .int (Int32.ofInt e1025)), (2, .int (Int32.ofInt y1023)), (6, .int (Int32.ofInt e1008)), (0, .ref (A 179)), (1, .int (Int32.ofInt xv)), (3, .int (Int32.ofInt sv))]) (show cdA 243 135 = some (.iinc 5 1, 3, 0, 0, 0) from rfl) (by decide) (List.Mem.tail _ (List.Mem.tail _ (List.Mem.tail _ (List.Mem.tail _ (List.Mem.tail _ (List.Mem.tail _ (List.Mem.head _))))))) (fun _ h => h) ?_
                  refine z_goto X (t := 48) (show cdA 243 138 = some (.goto (-90), 3, 0, 0, 0) from rfl) (by decide) ?_
                  refine WS_lv (lv := [(0, .ref (A 179)), (1, .int (Int32.ofInt xv)), (2, .int (Int32.ofInt y1023)), (3, .int (Int32.ofInt sv)), (4, .int (Int32.ofInt e1025)), (5, .int (Int32.ofInt (c + 1)))]) (List.forall_mem_cons.mpr ⟨(List.Mem.tail _ (List.Mem.tail _ (List.Mem.tail _ (List.Mem.tail _ (List.Mem.head _))))), (List.forall_mem_cons.mpr ⟨(List.Mem.tail _ (List.Mem.tail _ (List.Mem.tail _ (List.Mem.tail _ (List.Mem.tail _ (List.Mem.head _)))))), (List.forall_mem_cons.mpr ⟨(List.Mem.tail _ (List.Mem.tail _ (List.Mem.head _))), (List.forall_mem_cons.mpr ⟨(List.Mem.tail _ (List.Mem.tail _ (List.Mem.tail _ (List.Mem.tail _ (List.Mem.tail _ (List.Mem.tail _ (List.Mem.head _))))))), (List.forall_mem_cons.mpr ⟨(List.Mem.tail _ (List.Mem.head _)), (List.forall_mem_cons.mpr ⟨(List.Mem.head _), (fun q h => absurd h List.not_mem_nil)⟩)⟩)⟩)⟩)⟩)⟩) ?_
                  exact ih _ xv y1023 sv e1025 (c + 1) I F (by first | exact ⟨And.intro (hi.1.1) (hi.1.2), And.intro (hy1023.1) (hy1023.2), And.intro (hi.2.2.1.1) (hi.2.2.1.2), oq_ec6299c0 he1025 g1013, oq_6b52d3f8 he1025 g1013 hi.2.2.2.2.1, oq_7f051044 g1005 b1006.2⟩ | omega) (by first | exact qk_me hm (by decide) (oq_9ae278d0 g1005 b1006.2) | omega) kx
                refine z_if_eq X (t := 132) (show cdA 243 122 = some (.ifCond .eq 10, 3, 0, 0, 0) from rfl) (by decide) ⟨by first | exact oq_6ab4c69f g1009 | omega, by first | exact oq_3b8a080c g1009 | omega⟩ (fun g1026 => ?_) (fun g1026 => ?_)
                ·
                  refine z_const X (show cdA 243 132 = some (.iconst 0, 1, 0, 0, 0) from rfl) ?_
                  exact N1024 _ (Or.inl ⟨g1026, rfl⟩)
                ·
                  refine z_load X (x := rv) (show cdA 243 125 = some (.iload 4, 2, 0, 0, 0) from rfl) (List.Mem.tail _ (List.Mem.tail _ (List.Mem.tail _ (List.Mem.tail _ (List.Mem.tail _ (List.Mem.head _)))))) ?_
                  refine z_const X (show cdA 243 127 = some (.iconst 1, 1, 0, 0, 0) from rfl) ?_
                  refine z_add X (show cdA 243 128 = some (.iadd, 1, 0, 0, 0) from rfl) ?_
                  refine z_goto X (t := 133) (show cdA 243 129 = some (.goto 4, 3, 0, 0, 0) from rfl) (by decide) ?_
                  exact N1024 _ (Or.inr (⟨g1026, rfl⟩))
        refine z_icmp_ge X (t := 92) (show cdA 243 67 = some (.if_icmp .ge 25, 3, 3, 0, 0) from rfl) (by decide) ⟨by first | exact oq_e001bc0d hi.2.2.2.2.1 hi.2.2.2.1 | omega, by first | exact oq_99d04864 hi.2.2.2.2.2 | omega⟩ (rng_to _) (fun g1027 => ?_) (fun g1027 => ?_)
        ·
          refine z_const X (show cdA 243 92 = some (.iconst 0, 1, 0, 0, 0) from rfl) ?_
          exact N1007 _ (Or.inl ⟨g1027, rfl⟩)
        ·
          refine z_aload_n X (x := A 179) (show cdA 243 70 = some (.aload_n 0, 1, 0, 0, 0) from rfl) (List.Mem.head _) ?_
          refine s_getR X 179 (show cdA 243 71 = some (.getfield 70, 3, 12, 35, 0) from rfl) (by decide) rfl rfl ?_
          refine z_aload_n X (x := A 179) (show cdA 243 74 = some (.aload_n 0, 1, 0, 0, 0) from rfl) (List.Mem.head _) ?_
          refine s_getR X 179 (show cdA 243 75 = some (.getfield 49, 3, 12, 28, 0) from rfl) (by decide) rfl rfl ?_
          refine z_load_n X (x := sv) (show cdA 243 78 = some (.iload_n 3, 1, 0, 0, 0) from rfl) (List.Mem.tail _ (List.Mem.tail _ (List.Mem.tail _ (List.Mem.head _)))) ?_
          refine z_aald X rw_189 (show cdA 243 79 = some (.aaload, 1, 0, 0, 0) from rfl) (by first | exact hi.2.2.1.1 | omega) (show sv < 12 by first | exact oq_0ddfcfee hi.2.2.1.2 | omega) (by decide) ?_
          refine z_load X (x := c) (show cdA 243 80 = some (.iload 5, 2, 0, 0, 0) from rfl) (List.Mem.tail _ (List.Mem.tail _ (List.Mem.tail _ (List.Mem.tail _ (List.Mem.tail _ (List.Mem.head _)))))) ?_
          refine z_ald2 X rw_189 (show cdA 243 82 = some (.iaload, 1, 0, 0, 0) from rfl) (show (sv : Int).toNat < 12 by first | exact oq_9c5fa447 hi.2.2.1.2 | omega) (by first | exact oq_12a1f9e1 hi.2.2.2.2.1 hi.2.2.2.1 | omega) (show c < 24 by first | exact oq_8ff7beb9 g1027 b1006.2 | omega) (by decide) ?_
          have b1028 : (0 : Int) ≤ (iC t (166 + (sv : Int).toNat) (c : Int).toNat) ∧ (iC t (166 + (sv : Int).toNat) (c : Int).toNat) ≤ 127 := rw_bd rw_189 I (show (sv : Int).toNat < 12 by first | exact oq_9c5fa447 hi.2.2.1.2 | omega) (show (c : Int).toNat < 24 by first | exact oq_9e668fc9 g1027 b1006.2 | omega)
          refine z_ald X 256 (show cdA 243 83 = some (.iaload, 1, 0, 0, 0) from rfl) (by decide) rfl (by first | exact b1028.1 | omega) (show (iC t (166 + (sv : Int).toNat) (c : Int).toNat) < 128 by first | exact oq_31b2bf10 b1028.2 | omega) (by decide) ?_
          have b1029 : ((-1) : Int) ≤ iC t 228 ((iC t (166 + (sv : Int).toNat) (c : Int).toNat)).toNat ∧ iC t 228 ((iC t (166 + (sv : Int).toNat) (c : Int).toNat)).toNat ≤ 7 := I.2 228 _ (show ((iC t (166 + (sv : Int).toNat) (c : Int).toNat)).toNat < 128 by first | exact oq_c7f4e9c1 b1028.2 | omega)
          refine z_load_n X (x := xv) (show cdA 243 84 = some (.iload_n 1, 1, 0, 0, 0) from rfl) (List.Mem.tail _ (List.Mem.head _)) ?_
          refine z_icmp_ne X (t := 92) (show cdA 243 85 = some (.if_icmp .ne 7, 3, 1, 0, 0) from rfl) (by decide) (rng_to _) ⟨by first | exact oq_fa4e5087 hi.1.1 | omega, by first | exact oq_0e78ca7d hi.1.2 | omega⟩ (fun g1030 => ?_) (fun g1030 => ?_)
          ·
            refine z_const X (show cdA 243 92 = some (.iconst 0, 1, 0, 0, 0) from rfl) ?_
            exact N1007 _ (Or.inr (Or.inl ⟨g1027, b1028, b1029, g1030, rfl⟩))
          ·
            refine z_const X (show cdA 243 88 = some (.iconst 1, 1, 0, 0, 0) from rfl) ?_
            refine z_goto X (t := 93) (show cdA 243 89 = some (.goto 4, 3, 0, 0, 0) from rfl) (by decide) ?_
            exact N1007 _ (Or.inr (Or.inr (⟨g1027, b1028, b1029, g1030, rfl⟩)))
  have L34 : ∀ (n : Nat) (t : PS) (xv bv sv : Int), Bd t → Fm [73] [] s t → ((0 ≤ xv ∧ xv ≤ 7) ∧ rng bv ∧ 0 ≤ sv ∧ sv ≤ 12) → (12 - sv : Int).toNat < n → (∀ (t' : PS) (xv' bv' sv' : Int), Bd t' → Fm [73] [] s t' → ((0 ≤ xv' ∧ xv' ≤ 7) ∧ rng bv' ∧ 0 ≤ sv' ∧ sv' ≤ 12) → WS k 147 [(0, .ref (A 179)), (1, .int (Int32.ofInt xv')), (2, .int (Int32.ofInt bv')), (3, .int (Int32.ofInt sv'))] [] (Wd A dT t') 0 0) → WS k 34 [(0, .ref (A 179)), (1, .int (Int32.ofInt xv)), (2, .int (Int32.ofInt bv)), (3, .int (Int32.ofInt sv))] [] (Wd A dT t) 0 0 := by
    intro n
    induction n with
    | zero =>
      intro t xv bv sv I F hi hm kx
      exact absurd hm (Nat.not_lt_zero _)
    | succ n ih =>
      intro t xv bv sv I F hi hm kx
      have b2001 : (0 : Int) ≤ iI t 73 ∧ iI t 73 ≤ 3 := I.1 73
      have b2002 : (0 : Int) ≤ iI t 90 ∧ iI t 90 ≤ 12 := I.1 90
      have b2003 : (0 : Int) ≤ iI t 95 ∧ iI t 95 ≤ 9 := I.1 95
      refine z_load_n X (x := sv) (show cdA 243 34 = some (.iload_n 3, 1, 0, 0, 0) from rfl) (List.Mem.tail _ (List.Mem.tail _ (List.Mem.tail _ (List.Mem.head _)))) ?_
      refine z_aload_n X (x := A 179) (show cdA 243 35 = some (.aload_n 0, 1, 0, 0, 0) from rfl) (List.Mem.head _) ?_
      refine z_getI X 179 (show cdA 243 36 = some (.getfield 233, 3, 12, 22, 0) from rfl) (by decide) rfl rfl ?_
      have b2004 : (0 : Int) ≤ iI t 90 ∧ iI t 90 ≤ 12 := I.1 90
      refine z_icmp_ge X (t := 147) (show cdA 243 39 = some (.if_icmp .ge 108, 3, 3, 0, 0) from rfl) (by decide) ⟨by first | exact oq_fa4e5087 hi.2.2.1 | omega, by first | exact oq_78843a64 hi.2.2.2 | omega⟩ (rng_to _) (fun g2005 => ?_) (fun g2005 => ?_)
      ·
        refine WS_lv (lv := [(0, .ref (A 179)), (1, .int (Int32.ofInt xv)), (2, .int (Int32.ofInt bv)), (3, .int (Int32.ofInt sv))]) (List.forall_mem_cons.mpr ⟨(List.Mem.head _), (List.forall_mem_cons.mpr ⟨(List.Mem.tail _ (List.Mem.head _)), (List.forall_mem_cons.mpr ⟨(List.Mem.tail _ (List.Mem.tail _ (List.Mem.head _))), (List.forall_mem_cons.mpr ⟨(List.Mem.tail _ (List.Mem.tail _ (List.Mem.tail _ (List.Mem.head _)))), (fun q h => absurd h List.not_mem_nil)⟩)⟩)⟩)⟩) ?_
        exact kx _ xv bv sv I F (by first | exact ⟨And.intro (hi.1.1) (hi.1.2), And.intro (hi.2.1.1) (hi.2.1.2), hi.2.2.1, hi.2.2.2⟩ | omega)
      ·
        refine z_const X (show cdA 243 42 = some (.iconst 0, 1, 0, 0, 0) from rfl) ?_
        refine z_store X (lv' := [(4, .int (Int32.ofInt 0)), (0, .ref (A 179)), (1, .int (Int32.ofInt xv)), (2, .int (Int32.ofInt bv)), (3, .int (Int32.ofInt sv))]) (show cdA 243 43 = some (.istore 4, 2, 0, 0, 0) from rfl) (by decide) (fun _ h => h) ?_
        refine z_const X (show cdA 243 45 = some (.iconst 0, 1, 0, 0, 0) from rfl) ?_
        refine z_store X (lv' := [(5, .int (Int32.ofInt 0)), (4, .int (Int32.ofInt 0)), (0, .ref (A 179)), (1, .int (Int32.ofInt xv)), (2, .int (Int32.ofInt bv)), (3, .int (Int32.ofInt sv))]) (show cdA 243 46 = some (.istore 5, 2, 0, 0, 0) from rfl) (by decide) (fun _ h => h) ?_
        refine WS_lv (lv := [(0, .ref (A 179)), (1, .int (Int32.ofInt xv)), (2, .int (Int32.ofInt bv)), (3, .int (Int32.ofInt sv)), (4, .int (Int32.ofInt 0)), (5, .int (Int32.ofInt 0))]) (List.forall_mem_cons.mpr ⟨(List.Mem.tail _ (List.Mem.tail _ (List.Mem.head _))), (List.forall_mem_cons.mpr ⟨(List.Mem.tail _ (List.Mem.tail _ (List.Mem.tail _ (List.Mem.head _)))), (List.forall_mem_cons.mpr ⟨(List.Mem.tail _ (List.Mem.tail _ (List.Mem.tail _ (List.Mem.tail _ (List.Mem.head _))))), (List.forall_mem_cons.mpr ⟨(List.Mem.tail _ (List.Mem.tail _ (List.Mem.tail _ (List.Mem.tail _ (List.Mem.tail _ (List.Mem.head _)))))), (List.forall_mem_cons.mpr ⟨(List.Mem.tail _ (List.Mem.head _)), (List.forall_mem_cons.mpr ⟨(List.Mem.head _), (fun q h => absurd h List.not_mem_nil)⟩)⟩)⟩)⟩)⟩)⟩) ?_
        refine L48 ((25 - 0 : Int).toNat + 1) t xv bv sv 0 0 I F (by first | exact ⟨And.intro (hi.1.1) (hi.1.2), And.intro (hi.2.1.1) (hi.2.1.2), And.intro (hi.2.2.1) (oq_e4d7f3c5 g2005 b2004.2), by decide, by decide, by decide⟩ | omega) (Nat.lt_succ_self _) ?_
        intro s2006 x2007 x2008 x2009 Is2006 Fs2006 hs2006
        have b2010 : (0 : Int) ≤ iI s2006 73 ∧ iI s2006 73 ≤ 3 := Is2006.1 73
        have b2011 : (0 : Int) ≤ iI s2006 90 ∧ iI s2006 90 ≤ 12 := Is2006.1 90
        have b2012 : (0 : Int) ≤ iI s2006 95 ∧ iI s2006 95 ≤ 9 := Is2006.1 95
        refine z_inc X (x := sv) (lv' := [(3, .int (Int32.ofInt (sv + 1))), (0, .ref (A 179)), (1, .int (Int32.ofInt xv)), (2, .int (Int32.ofInt x2007)), (4, .int (Int32.ofInt x2008)), (5, .int (Int32.ofInt x2009))]) (show cdA 243 141 = some (.iinc 3 1, 3, 0, 0, 0) from rfl) (by decide) (List.Mem.tail _ (List.Mem.tail _ (List.Mem.tail _ (List.Mem.head _)))) (fun _ h => h) ?_
        refine z_goto X (t := 34) (show cdA 243 144 = some (.goto (-110), 3, 0, 0, 0) from rfl) (by decide) ?_
        refine WS_lv (lv := [(0, .ref (A 179)), (1, .int (Int32.ofInt xv)), (2, .int (Int32.ofInt x2007)), (3, .int (Int32.ofInt (sv + 1)))]) (List.forall_mem_cons.mpr ⟨(List.Mem.tail _ (List.Mem.head _)), (List.forall_mem_cons.mpr ⟨(List.Mem.tail _ (List.Mem.tail _ (List.Mem.head _))), (List.forall_mem_cons.mpr ⟨(List.Mem.tail _ (List.Mem.tail _ (List.Mem.tail _ (List.Mem.head _)))), (List.forall_mem_cons.mpr ⟨(List.Mem.head _), (fun q h => absurd h List.not_mem_nil)⟩)⟩)⟩)⟩) ?_
        exact ih _ xv x2007 (sv + 1) Is2006 Fs2006 (by first | exact ⟨And.intro (hs2006.1.1) (hs2006.1.2), And.intro (hs2006.2.1.1) (hs2006.2.1.2), oq_54f49eb5 hs2006.2.2.1.1, oq_51d1204d hs2006.2.2.1.2⟩ | omega) (by first | exact qk_me hm (by decide) (oq_8b937940 hs2006.2.2.1.2) | omega) kx
  refine z_aload_n X (x := A 179) (show cdA 243 0 = some (.aload_n 0, 1, 0, 0, 0) from rfl) (List.Mem.head _) ?_
  refine z_const X (show cdA 243 1 = some (.iconst 0, 1, 0, 0, 0) from rfl) ?_
  refine s_putI X 179 (show cdA 243 2 = some (.putfield 172, 3, 12, 0, 0) from rfl) (by decide) rfl rfl (by decide) rfl rfl rfl ?_
  obtain ⟨s4, hs4⟩ : ∃ x0, x0 = uI s 73 (Int32.ofInt 0) := ⟨_, rfl⟩
  rw [← hs4]
  have Is4 : Bd s4 := by rw [hs4]; exact bd_I I (show (0 : Int) ≤ 0 ∧ 0 ≤ 3 by first | exact ⟨by decide, by decide⟩ | omega) (by decide)
  have Fs4 := fm_I (x := Int32.ofInt 0) F (show 73 ∈ _ by decide)
  rw [← hs4] at Fs4
  have vs4 : iI s4 73 = 0 := by rw [hs4]; exact iI_u (by decide)
  have ws4_90 : iI s4 90 = iI s 90 := by rw [hs4]; rfl
  have ws4_95 : iI s4 95 = iI s 95 := by rw [hs4]; rfl
  refine z_aload_n X (x := A 179) (show cdA 243 5 = some (.aload_n 0, 1, 0, 0, 0) from rfl) (List.Mem.head _) ?_
  refine z_load_n X (x := x) (show cdA 243 6 = some (.iload_n 1, 1, 0, 0, 0) from rfl) (List.Mem.tail _ (List.Mem.head _)) ?_
  refine z_const X (show cdA 243 7 = some (.iconst 0, 1, 0, 0, 0) from rfl) ?_
  refine z_bipush X (show cdA 243 8 = some (.bipush 7, 2, 0, 0, 7) from rfl) ?_
  refine z_callS X (rm := rmN 188) (As := [.int (Int32.ofInt x), .int (Int32.ofInt 0), .int (Int32.ofInt 7)]) (st := [.ref (A 179)]) (show cdA 243 10 = some (.invokestatic 209, 3, 188, 1, 0) from rfl) rfl (by rw [E.1, E.2.1, E.2.2.1]; exact k_in G Is4 (by first | exact ⟨p0.1, p0.2⟩ | omega) (by first | exact ⟨by decide, by decide⟩ | omega) (by first | exact ⟨by decide, by decide⟩ | omega)) ⟨by rw [E.2.2.2]; exact (show (rmN 188).frames + 1 ≤ (rmN 243).frames by decide), by rw [E.2.2.2]; exact (show 8 + (mNL (miB 188) + 11) + (rmN 188).locals ≤ (rmN 243).locals by decide), by rw [E.2.2.2]; exact (show 0 + (rmN 188).cells ≤ (rmN 243).cells by decide), by rw [E.2.2.2]; exact (show 0 + (rmN 188).slots ≤ (rmN 243).slots by decide)⟩ (Nat.le_of_ble_eq_true rfl) (fun vv s5 hq => ?_) (fun ee s5 hq => ?_)
  rotate_left
  · obtain ⟨Is5, Fs5, e6, hv, hrs5, hps5⟩ := hq; cases hv
  obtain ⟨Is5, Fs5, e6, hv, hrs5, hps5⟩ := hq
  cases hv
  have Gs5 := fm_ts Fs4 Fs5 (by decide) (by decide)
  have ws5_73 : iI s5 73 = iI s4 73 := fm_i Fs5 (by decide)
  have ws5_90 : iI s5 90 = iI s4 90 := fm_i Fs5 (by decide)
  have ws5_95 : iI s5 95 = iI s4 95 := fm_i Fs5 (by decide)
  show WS k 13 [(0, .ref (A 179)), (1, .int (Int32.ofInt x))] [.int (Int32.ofInt e6), .ref (A 179)] (Wd A dT s5) 0 0
  have N7 : ∀ e8 : Int, (((e6 ≠ 0) ∧ e8 = 0) ∨ ((e6 = 0) ∧ e8 = 1)) → WS k 21 [(0, .ref (A 179)), (1, .int (Int32.ofInt x))] [.int (Int32.ofInt e8), .ref (A 179)] (Wd A dT s5) 0 0 := by
    intro e8 he8
    have re8 : 0 ≤ e8 ∧ e8 ≤ 1 := by omega
    refine z_const X (show cdA 243 21 = some (.iconst 1, 1, 0, 0, 0) from rfl) ?_
    refine z_callV X 179 (rm := rmN 187) (As := [.int (Int32.ofInt e8), .int (Int32.ofInt 1)]) (st := []) (show cdA 243 22 = some (.invokevirtual 229, 3, 187, 0, 0) from rfl) rfl (by decide) rfl (by rw [E.1, E.2.1, E.2.2.1]; exact k_bad G Is5 (by first | exact oq_31e518ae re8.2 re8.1 | omega) (by first | exact ⟨by decide, by decide⟩ | omega)) ⟨by rw [E.2.2.2]; exact (show (rmN 187).frames + 1 ≤ (rmN 243).frames by decide), by rw [E.2.2.2]; exact (show 8 + (mNL (miB 187) + 11) + (rmN 187).locals ≤ (rmN 243).locals by decide), by rw [E.2.2.2]; exact (show 0 + (rmN 187).cells ≤ (rmN 243).cells by decide), by rw [E.2.2.2]; exact (show 0 + (rmN 187).slots ≤ (rmN 243).slots by decide)⟩ (Nat.le_of_ble_eq_true rfl) (fun vv s9 hq => ?_) (fun ee s9 hq => ?_)
    rotate_left
    · obtain ⟨Is9, Fs9, e10, hv, hrs9, hps9⟩ := hq; cases hv
    obtain ⟨Is9, Fs9, e10, hv, hrs9, hps9⟩ := hq
    cases hv
    have Gs9 := fm_ts Gs5 Fs9 (by decide) (by decide)
    have b11 : (0 : Int) ≤ iI s9 73 ∧ iI s9 73 ≤ 3 := Is9.1 73
    have ws9_90 : iI s9 90 = iI s5 90 := fm_i Fs9 (by decide)
    have ws9_95 : iI s9 95 = iI s5 95 := fm_i Fs9 (by decide)
    show WS k 25 [(0, .ref (A 179)), (1, .int (Int32.ofInt x))] [.int (Int32.ofInt e10)] (Wd A dT s9) 0 0
    refine z_if_eq X (t := 30) (show cdA 243 25 = some (.ifCond .eq 5, 3, 0, 0, 0) from rfl) (by decide) hrs9 (fun g12 => ?_) (fun g12 => ?_)
    ·
      refine z_const X (show cdA 243 30 = some (.iconst 0, 1, 0, 0, 0) from rfl) ?_
      refine z_store_n X (lv' := [(2, .int (Int32.ofInt 0)), (0, .ref (A 179)), (1, .int (Int32.ofInt x))]) (show cdA 243 31 = some (.istore_n 2, 1, 0, 0, 0) from rfl) (by decide) (fun _ h => h) ?_
      refine z_const X (show cdA 243 32 = some (.iconst 0, 1, 0, 0, 0) from rfl) ?_
      refine z_store_n X (lv' := [(3, .int (Int32.ofInt 0)), (2, .int (Int32.ofInt 0)), (0, .ref (A 179)), (1, .int (Int32.ofInt x))]) (show cdA 243 33 = some (.istore_n 3, 1, 0, 0, 0) from rfl) (by decide) (fun _ h => h) ?_
      refine WS_lv (lv := [(0, .ref (A 179)), (1, .int (Int32.ofInt x)), (2, .int (Int32.ofInt 0)), (3, .int (Int32.ofInt 0))]) (List.forall_mem_cons.mpr ⟨(List.Mem.tail _ (List.Mem.tail _ (List.Mem.head _))), (List.forall_mem_cons.mpr ⟨(List.Mem.tail _ (List.Mem.tail _ (List.Mem.tail _ (List.Mem.head _)))), (List.forall_mem_cons.mpr ⟨(List.Mem.tail _ (List.Mem.head _)), (List.forall_mem_cons.mpr ⟨(List.Mem.head _), (fun q h => absurd h List.not_mem_nil)⟩)⟩)⟩)⟩) ?_
      refine L34 ((12 - 0 : Int).toNat + 1) s9 x 0 0 Is9 Gs9 (by first | exact ⟨oq_fb6f88a4 g12 hps9.2.1 re8.2 he8 hps5, And.intro (by decide) (by decide), by decide, by decide⟩ | omega) (Nat.lt_succ_self _) ?_
      intro s13 x14 x15 x16 Is13 Fs13 hs13
      have b17 : (0 : Int) ≤ iI s13 73 ∧ iI s13 73 ≤ 3 := Is13.1 73
      have b18 : (0 : Int) ≤ iI s13 90 ∧ iI s13 90 ≤ 12 := Is13.1 90
      have b19 : (0 : Int) ≤ iI s13 95 ∧ iI s13 95 ≤ 9 := Is13.1 95
      refine z_load_n X (x := x15) (show cdA 243 147 = some (.iload_n 2, 1, 0, 0, 0) from rfl) (List.Mem.tail _ (List.Mem.tail _ (List.Mem.head _))) ?_
      exact w_iret X.1 q hRt rfl (ax_d X (show cdA 243 148 = some (.ireturn, 1, 0, 0, 0) from rfl)) (Nat.zero_le _) (Nat.zero_le _) ⟨_, rfl, Is13, Fs13, x15, rfl, ⟨by first | exact hs13.2.1.1 | omega, by first | exact hs13.2.1.2 | omega⟩, trivial⟩
    ·
      refine z_const X (show cdA 243 28 = some (.iconst 0, 1, 0, 0, 0) from rfl) ?_
      exact w_iret X.1 q hRt rfl (ax_d X (show cdA 243 29 = some (.ireturn, 1, 0, 0, 0) from rfl)) (Nat.zero_le _) (Nat.zero_le _) ⟨_, rfl, Is9, Gs9, 0, rfl, (by decide), trivial⟩
  refine z_if_ne X (t := 20) (show cdA 243 13 = some (.ifCond .ne 7, 3, 1, 0, 0) from rfl) (by decide) hrs5 (fun g20 => ?_) (fun g20 => ?_)
  ·
    refine z_const X (show cdA 243 20 = some (.iconst 0, 1, 0, 0, 0) from rfl) ?_
    exact N7 _ (Or.inl ⟨g20, rfl⟩)
  ·
    refine z_const X (show cdA 243 16 = some (.iconst 1, 1, 0, 0, 0) from rfl) ?_
    refine z_goto X (t := 21) (show cdA 243 17 = some (.goto 4, 3, 0, 0, 0) from rfl) (by decide) ?_
    exact N7 _ (Or.inr (⟨g20, rfl⟩))
theorem k_offOf (G : GX l s0 D tys a0 dT) (I : Bd s) {x y : Int} (p0 : 0 ≤ x ∧ x ≤ 624) (p1 : y = 0 ∨ y = 1) : CT l s0 D A dT 288 (rmN 288) [.ref (A 179), .int (Int32.ofInt x), .int (Int32.ofInt y)] s (fun o t => Bd t ∧ Fm [] [] s t ∧ ∃ e, o = .inl (some (.int (Int32.ofInt e))) ∧ rng e ∧ (True)) := by
  refine ct_of G (by decide) (Nat.le_of_ble_eq_true rfl) (fun k X E hRt hXt q => ?_)
  show WS k 0 [(0, .ref (A 179)), (1, .int (Int32.ofInt x)), (2, .int (Int32.ofInt y))] [] _ 0 0
  have F : Fm [] [] s s := fm_rf _ _ s
  have b1 : (0 : Int) ≤ iI s 107 ∧ iI s 107 ≤ 40 := I.1 107
  have L5 : ∀ (n : Nat) (t : PS) (xv yv nv c : Int), Bd t → Fm [] [] s t → ((0 ≤ xv ∧ xv ≤ 624) ∧ (yv = 0 ∨ yv = 1) ∧ rng nv ∧ 0 ≤ c ∧ c ≤ 40) → (40 - c : Int).toNat < n → (∀ (t' : PS) (xv' yv' nv' c' : Int), Bd t' → Fm [] [] s t' → ((0 ≤ xv' ∧ xv' ≤ 624) ∧ (yv' = 0 ∨ yv' = 1) ∧ rng nv' ∧ 0 ≤ c' ∧ c' ≤ 40) → WS k 114 [(0, .ref (A 179)), (1, .int (Int32.ofInt xv')), (2, .int (Int32.ofInt yv')), (3, .int (Int32.ofInt nv')), (4, .int (Int32.ofInt c'))] [] (Wd A dT t') 0 0) → WS k 5 [(0, .ref (A 179)), (1, .int (Int32.ofInt xv)), (2, .int (Int32.ofInt yv)), (3, .int (Int32.ofInt nv)), (4, .int (Int32.ofInt c))] [] (Wd A dT t) 0 0 := by
    intro n
    induction n with
    | zero =>
      intro t xv yv nv c I F hi hm kx
      exact absurd hm (Nat.not_lt_zero _)
    | succ n ih =>
      intro t xv yv nv c I F hi hm kx
      have b1001 : (0 : Int) ≤ iI t 107 ∧ iI t 107 ≤ 40 := I.1 107
      refine z_load X (x := c) (show cdA 288 5 = some (.iload 4, 2, 0, 0, 0) from rfl) (List.Mem.tail _ (List.Mem.tail _ (List.Mem.tail _ (List.Mem.tail _ (List.Mem.head _))))) ?_
      refine z_aload_n X (x := A 179) (show cdA 288 7 = some (.aload_n 0, 1, 0, 0, 0) from rfl) (List.Mem.head _) ?_
      refine z_getI X 179 (show cdA 288 8 = some (.getfield 458, 3, 12, 76, 0) from rfl) (by decide) rfl rfl ?_
      have b1002 : (0 : Int) ≤ iI t 107 ∧ iI t 107 ≤ 40 := I.1 107
      refine z_icmp_ge X (t := 114) (show cdA 288 11 = some (.if_icmp .ge 103, 3, 3, 0, 0) from rfl) (by decide) ⟨by first | exact oq_fa4e5087 hi.2.2.2.1 | omega, by first | exact oq_227d2cd7 hi.2.2.2.2 | omega⟩ (rng_to _) (fun g1003 => ?_) (fun g1003 => ?_)
      ·
        refine WS_lv (lv := [(0, .ref (A 179)), (1, .int (Int32.ofInt xv)), (2, .int (Int32.ofInt yv)), (3, .int (Int32.ofInt nv)), (4, .int (Int32.ofInt c))]) (List.forall_mem_cons.mpr ⟨(List.Mem.head _), (List.forall_mem_cons.mpr ⟨(List.Mem.tail _ (List.Mem.head _)), (List.forall_mem_cons.mpr ⟨(List.Mem.tail _ (List.Mem.tail _ (List.Mem.head _))), (List.forall_mem_cons.mpr ⟨(List.Mem.tail _ (List.Mem.tail _ (List.Mem.tail _ (List.Mem.head _)))), (List.forall_mem_cons.mpr ⟨(List.Mem.tail _ (List.Mem.tail _ (List.Mem.tail _ (List.Mem.tail _ (List.Mem.head _))))), (fun q h => absurd h List.not_mem_nil)⟩)⟩)⟩)⟩)⟩) ?_
        exact kx _ xv yv nv c I F (by first | exact ⟨And.intro (hi.1.1) (hi.1.2), hi.2.1, And.intro (hi.2.2.1.1) (hi.2.2.1.2), hi.2.2.2.1, hi.2.2.2.2⟩ | omega)
      ·
        refine z_aload_n X (x := A 179) (show cdA 288 14 = some (.aload_n 0, 1, 0, 0, 0) from rfl) (List.Mem.head _) ?_
        refine s_getR X 179 (show cdA 288 15 = some (.getfield 163, 3, 12, 78, 0) from rfl) (by decide) rfl rfl ?_
        refine z_load X (x := c) (show cdA 288 18 = some (.iload 4, 2, 0, 0, 0) from rfl) (List.Mem.tail _ (List.Mem.tail _ (List.Mem.tail _ (List.Mem.tail _ (List.Mem.head _))))) ?_
        refine z_ald X 514 (show cdA 288 20 = some (.iaload, 1, 0, 0, 0) from rfl) (by decide) rfl (by first | exact hi.2.2.2.1 | omega) (show c < 40 by first | exact oq_497ff6eb g1003 b1002.2 | omega) (by decide) ?_
        have b1004 : ((-2147483648) : Int) ≤ iC t 457 (c).toNat ∧ iC t 457 (c).toNat ≤ 2147483647 := I.2 457 _ (show (c).toNat < 40 by first | exact oq_23813e7c g1003 b1002.2 | omega)
        refine z_load_n X (x := xv) (show cdA 288 21 = some (.iload_n 1, 1, 0, 0, 0) from rfl) (List.Mem.tail _ (List.Mem.head _)) ?_
        refine z_bipush X (show cdA 288 22 = some (.bipush 125, 2, 0, 0, 125) from rfl) ?_
        refine z_quot X (show cdA 288 24 = some (.idiv, 1, 0, 0, 0) from rfl) (by first | exact hi.1.1 | omega) ⟨by first | exact oq_fa4e5087 hi.1.1 | omega, by first | exact oq_240b6eb6 hi.1.2 | omega⟩ (by decide) (by decide) ?_
        refine z_aload_n X (x := A 179) (show cdA 288 25 = some (.aload_n 0, 1, 0, 0, 0) from rfl) (List.Mem.head _) ?_
        refine s_getR X 179 (show cdA 288 26 = some (.getfield 160, 3, 12, 77, 0) from rfl) (by decide) rfl rfl ?_
        refine z_load X (x := c) (show cdA 288 29 = some (.iload 4, 2, 0, 0, 0) from rfl) (List.Mem.tail _ (List.Mem.tail _ (List.Mem.tail _ (List.Mem.tail _ (List.Mem.head _))))) ?_
        refine z_aald X rw_473 (show cdA 288 31 = some (.aaload, 1, 0, 0, 0) from rfl) (by first | exact hi.2.2.2.1 | omega) (show c < 40 by first | exact oq_497ff6eb g1003 b1002.2 | omega) (by decide) ?_
        refine z_const X (show cdA 288 32 = some (.iconst 0, 1, 0, 0, 0) from rfl) ?_
        refine z_ald2 X rw_473 (show cdA 288 33 = some (.iaload, 1, 0, 0, 0) from rfl) (show (c : Int).toNat < 40 by first | exact oq_23813e7c g1003 b1002.2 | omega) (by decide) (show 0 < 4 by decide) (by decide) ?_
        have b1005 : ((-2147483648) : Int) ≤ (iC t (417 + (c : Int).toNat) (0 : Int).toNat) ∧ (iC t (417 + (c : Int).toNat) (0 : Int).toNat) ≤ 2147483647 := rw_bd rw_473 I (show (c : Int).toNat < 40 by first | exact oq_23813e7c g1003 b1002.2 | omega) (show (0 : Int).toNat < 4 by first | exact oq_c0c6d7d2 | omega)
        refine z_mul X (show cdA 288 34 = some (.imul, 1, 0, 0, 0) from rfl) ?_
        refine z_any (fun y1006 hy1006 => ?_)
        refine z_sub X (show cdA 288 35 = some (.isub, 1, 0, 0, 0) from rfl) ?_
        refine z_any (fun y1007 hy1007 => ?_)
        refine z_load_n X (x := xv) (show cdA 288 36 = some (.iload_n 1, 1, 0, 0, 0) from rfl) (List.Mem.tail _ (List.Mem.head _)) ?_
        refine z_bipush X (show cdA 288 37 = some (.bipush 25, 2, 0, 0, 25) from rfl) ?_
        refine z_quot X (show cdA 288 39 = some (.idiv, 1, 0, 0, 0) from rfl) (by first | exact hi.1.1 | omega) ⟨by first | exact oq_fa4e5087 hi.1.1 | omega, by first | exact oq_240b6eb6 hi.1.2 | omega⟩ (by decide) (by decide) ?_
        refine z_const X (show cdA 288 40 = some (.iconst 5, 1, 0, 0, 0) from rfl) ?_
        refine z_mod X (show cdA 288 41 = some (.irem, 1, 0, 0, 0) from rfl) (by first | exact oq_fe4d3050 hi.1.1 | omega) ⟨by first | exact oq_e76ffcc2 hi.1.1 | omega, by first | exact oq_41007592 hi.1.2 | omega⟩ (by decide) (by decide) ?_
        refine z_aload_n X (x := A 179) (show cdA 288 42 = some (.aload_n 0, 1, 0, 0, 0) from rfl) (List.Mem.head _) ?_
        refine s_getR X 179 (show cdA 288 43 = some (.getfield 160, 3, 12, 77, 0) from rfl) (by decide) rfl rfl ?_
        refine z_load X (x := c) (show cdA 288 46 = some (.iload 4, 2, 0, 0, 0) from rfl) (List.Mem.tail _ (List.Mem.tail _ (List.Mem.tail _ (List.Mem.tail _ (List.Mem.head _))))) ?_
        refine z_aald X rw_473 (show cdA 288 48 = some (.aaload, 1, 0, 0, 0) from rfl) (by first | exact hi.2.2.2.1 | omega) (show c < 40 by first | exact oq_497ff6eb g1003 b1002.2 | omega) (by decide) ?_
        refine z_const X (show cdA 288 49 = some (.iconst 1, 1, 0, 0, 0) from rfl) ?_
        refine z_ald2 X rw_473 (show cdA 288 50 = some (.iaload, 1, 0, 0, 0) from rfl) (show (c : Int).toNat < 40 by first | exact oq_23813e7c g1003 b1002.2 | omega) (by decide) (show 1 < 4 by decide) (by decide) ?_
        have b1008 : ((-2147483648) : Int) ≤ (iC t (417 + (c : Int).toNat) (1 : Int).toNat) ∧ (iC t (417 + (c : Int).toNat) (1 : Int).toNat) ≤ 2147483647 := rw_bd rw_473 I (show (c : Int).toNat < 40 by first | exact oq_23813e7c g1003 b1002.2 | omega) (show (1 : Int).toNat < 4 by first | exact oq_f6f99e0f | omega)
        refine z_mul X (show cdA 288 51 = some (.imul, 1, 0, 0, 0) from rfl) ?_
        refine z_any (fun y1009 hy1009 => ?_)
        refine z_sub X (show cdA 288 52 = some (.isub, 1, 0, 0, 0) from rfl) ?_
        refine z_any (fun y1010 hy1010 => ?_)
        refine z_load_n X (x := xv) (show cdA 288 53 = some (.iload_n 1, 1, 0, 0, 0) from rfl) (List.Mem.tail _ (List.Mem.head _)) ?_
        refine z_const X (show cdA 288 54 = some (.iconst 5, 1, 0, 0, 0) from rfl) ?_
        refine z_quot X (show cdA 288 55 = some (.idiv, 1, 0, 0, 0) from rfl) (by first | exact hi.1.1 | omega) ⟨by first | exact oq_fa4e5087 hi.1.1 | omega, by first | exact oq_240b6eb6 hi.1.2 | omega⟩ (by decide) (by decide) ?_
        refine z_const X (show cdA 288 56 = some (.iconst 5, 1, 0, 0, 0) from rfl) ?_
        refine z_mod X (show cdA 288 57 = some (.irem, 1, 0, 0, 0) from rfl) (by first | exact oq_b34fa872 hi.1.1 | omega) ⟨by first | exact oq_35859962 hi.1.1 | omega, by first | exact oq_74197da2 hi.1.2 | omega⟩ (by decide) (by decide) ?_
        refine z_aload_n X (x := A 179) (show cdA 288 58 = some (.aload_n 0, 1, 0, 0, 0) from rfl) (List.Mem.head _) ?_
        refine s_getR X 179 (show cdA 288 59 = some (.getfield 160, 3, 12, 77, 0) from rfl) (by decide) rfl rfl ?_
        refine z_load X (x := c) (show cdA 288 62 = some (.iload 4, 2, 0, 0, 0) from rfl) (List.Mem.tail _ (List.Mem.tail _ (List.Mem.tail _ (List.Mem.tail _ (List.Mem.head _))))) ?_
        refine z_aald X rw_473 (show cdA 288 64 = some (.aaload, 1, 0, 0, 0) from rfl) (by first | exact hi.2.2.2.1 | omega) (show c < 40 by first | exact oq_497ff6eb g1003 b1002.2 | omega) (by decide) ?_
        refine z_const X (show cdA 288 65 = some (.iconst 2, 1, 0, 0, 0) from rfl) ?_
        refine z_ald2 X rw_473 (show cdA 288 66 = some (.iaload, 1, 0, 0, 0) from rfl) (show (c : Int).toNat < 40 by first | exact oq_23813e7c g1003 b1002.2 | omega) (by decide) (show 2 < 4 by decide) (by decide) ?_
        have b1011 : ((-2147483648) : Int) ≤ (iC t (417 + (c : Int).toNat) (2 : Int).toNat) ∧ (iC t (417 + (c : Int).toNat) (2 : Int).toNat) ≤ 2147483647 := rw_bd rw_473 I (show (c : Int).toNat < 40 by first | exact oq_23813e7c g1003 b1002.2 | omega) (show (2 : Int).toNat < 4 by first | exact oq_db5fa50e | omega)
        refine z_mul X (show cdA 288 67 = some (.imul, 1, 0, 0, 0) from rfl) ?_
        refine z_any (fun y1012 hy1012 => ?_)
        refine z_sub X (show cdA 288 68 = some (.isub, 1, 0, 0, 0) from rfl) ?_
        refine z_any (fun y1013 hy1013 => ?_)
        refine z_load_n X (x := xv) (show cdA 288 69 = some (.iload_n 1, 1, 0, 0, 0) from rfl) (List.Mem.tail _ (List.Mem.head _)) ?_
        refine z_const X (show cdA 288 70 = some (.iconst 5, 1, 0, 0, 0) from rfl) ?_
        refine z_mod X (show cdA 288 71 = some (.irem, 1, 0, 0, 0) from rfl) (by first | exact hi.1.1 | omega) ⟨by first | exact oq_fa4e5087 hi.1.1 | omega, by first | exact oq_240b6eb6 hi.1.2 | omega⟩ (by decide) (by decide) ?_
        refine z_aload_n X (x := A 179) (show cdA 288 72 = some (.aload_n 0, 1, 0, 0, 0) from rfl) (List.Mem.head _) ?_
        refine s_getR X 179 (show cdA 288 73 = some (.getfield 160, 3, 12, 77, 0) from rfl) (by decide) rfl rfl ?_
        refine z_load X (x := c) (show cdA 288 76 = some (.iload 4, 2, 0, 0, 0) from rfl) (List.Mem.tail _ (List.Mem.tail _ (List.Mem.tail _ (List.Mem.tail _ (List.Mem.head _))))) ?_
        refine z_aald X rw_473 (show cdA 288 78 = some (.aaload, 1, 0, 0, 0) from rfl) (by first | exact hi.2.2.2.1 | omega) (show c < 40 by first | exact oq_497ff6eb g1003 b1002.2 | omega) (by decide) ?_
        refine z_const X (show cdA 288 79 = some (.iconst 3, 1, 0, 0, 0) from rfl) ?_
        refine z_ald2 X rw_473 (show cdA 288 80 = some (.iaload, 1, 0, 0, 0) from rfl) (show (c : Int).toNat < 40 by first | exact oq_23813e7c g1003 b1002.2 | omega) (by decide) (show 3 < 4 by decide) (by decide) ?_
        have b1014 : ((-2147483648) : Int) ≤ (iC t (417 + (c : Int).toNat) (3 : Int).toNat) ∧ (iC t (417 + (c : Int).toNat) (3 : Int).toNat) ≤ 2147483647 := rw_bd rw_473 I (show (c : Int).toNat < 40 by first | exact oq_23813e7c g1003 b1002.2 | omega) (show (3 : Int).toNat < 4 by first | exact oq_8d498ec2 | omega)
        refine z_mul X (show cdA 288 81 = some (.imul, 1, 0, 0, 0) from rfl) ?_
        refine z_any (fun y1015 hy1015 => ?_)
        refine z_sub X (show cdA 288 82 = some (.isub, 1, 0, 0, 0) from rfl) ?_
        refine z_any (fun y1016 hy1016 => ?_)
        refine z_store X (lv' := [(5, .int (Int32.ofInt y1016)), (0, .ref (A 179)), (1, .int (Int32.ofInt xv)), (2, .int (Int32.ofInt yv)), (3, .int (Int32.ofInt nv)), (4, .int (Int32.ofInt c))]) (show cdA 288 83 = some (.istore 5, 2, 0, 0, 0) from rfl) (by decide) (fun _ h => h) ?_
        refine z_load_n X (x := nv) (show cdA 288 85 = some (.iload_n 3, 1, 0, 0, 0) from rfl) (List.Mem.tail _ (List.Mem.tail _ (List.Mem.tail _ (List.Mem.tail _ (List.Mem.head _))))) ?_
        refine z_aload_n X (x := A 179) (show cdA 288 86 = some (.aload_n 0, 1, 0, 0, 0) from rfl) (List.Mem.tail _ (List.Mem.head _)) ?_
        refine s_getR X 179 (show cdA 288 87 = some (.getfield 169, 3, 12, 80, 0) from rfl) (by decide) rfl rfl ?_
        refine z_load X (x := c) (show cdA 288 90 = some (.iload 4, 2, 0, 0, 0) from rfl) (List.Mem.tail _ (List.Mem.tail _ (List.Mem.tail _ (List.Mem.tail _ (List.Mem.tail _ (List.Mem.head _)))))) ?_
        refine z_zald X 516 (show cdA 288 92 = some (.baload, 1, 0, 0, 0) from rfl) (by decide) rfl (by first | exact hi.2.2.2.1 | omega) (show c < 40 by first | exact oq_497ff6eb g1003 b1002.2 | omega) (by decide) ?_
        have b1017 : (0 : Int) ≤ iC t 459 (c).toNat ∧ iC t 459 (c).toNat ≤ 1 := I.2 459 _ (show (c).toNat < 40 by first | exact oq_23813e7c g1003 b1002.2 | omega)
        refine z_load_n X (x := yv) (show cdA 288 93 = some (.iload_n 2, 1, 0, 0, 0) from rfl) (List.Mem.tail _ (List.Mem.tail _ (List.Mem.tail _ (List.Mem.head _)))) ?_
        refine z_icmp_ne X (t := 105) (show cdA 288 94 = some (.if_icmp .ne 11, 3, 1, 0, 0) from rfl) (by decide) (rng_to _) ⟨by first | exact oq_bde653e9 hi.2.1 | omega, by first | exact oq_4ad2cb8b hi.2.1 | omega⟩ (fun g1018 => ?_) (fun g1018 => ?_)
        ·
          refine z_const X (show cdA 288 105 = some (.iconst 0, 1, 0, 0, 0) from rfl) ?_
          refine z_add X (show cdA 288 106 = some (.iadd, 1, 0, 0, 0) from rfl) ?_
          refine z_any (fun y1019 hy1019 => ?_)
          refine z_store_n X (lv' := [(3, .int (Int32.ofInt y1019)), (5, .int (Int32.ofInt y1016)), (0, .ref (A 179)), (1, .int (Int32.ofInt xv)), (2, .int (Int32.ofInt yv)), (4, .int (Int32.ofInt c))]) (show cdA 288 107 = some (.istore_n 3, 1, 0, 0, 0) from rfl) (by decide) (fun _ h => h) ?_
          refine z_inc X (x := c) (lv' := [(4, .int (Int32.ofInt (c + 1))), (3, .int (Int32.ofInt y1019)), (5, .int (Int32.ofInt y1016)), (0, .ref (A 179)), (1, .int (Int32.ofInt xv)), (2, .int (Int32.ofInt yv))]) (show cdA 288 108 = some (.iinc 4 1, 3, 0, 0, 0) from rfl) (by decide) (List.Mem.tail _ (List.Mem.tail _ (List.Mem.tail _ (List.Mem.tail _ (List.Mem.tail _ (List.Mem.head _)))))) (fun _ h => h) ?_
          refine z_goto X (t := 5) (show cdA 288 111 = some (.goto (-106), 3, 0, 0, 0) from rfl) (by decide) ?_
          refine WS_lv (lv := [(0, .ref (A 179)), (1, .int (Int32.ofInt xv)), (2, .int (Int32.ofInt yv)), (3, .int (Int32.ofInt y1019)), (4, .int (Int32.ofInt (c + 1)))]) (List.forall_mem_cons.mpr ⟨(List.Mem.tail _ (List.Mem.tail _ (List.Mem.tail _ (List.Mem.head _)))), (List.forall_mem_cons.mpr ⟨(List.Mem.tail _ (List.Mem.tail _ (List.Mem.tail _ (List.Mem.tail _ (List.Mem.head _))))), (List.forall_mem_cons.mpr ⟨(List.Mem.tail _ (List.Mem.tail _ (List.Mem.tail _ (List.Mem.tail _ (List.Mem.tail _ (List.Mem.head _)))))), (List.forall_mem_cons.mpr ⟨(List.Mem.tail _ (List.Mem.head _)), (List.forall_mem_cons.mpr ⟨(List.Mem.head _), (fun q h => absurd h List.not_mem_nil)⟩)⟩)⟩)⟩)⟩) ?_
          exact ih _ xv yv y1019 (c + 1) I F (by first | exact ⟨And.intro (hi.1.1) (hi.1.2), hi.2.1, And.intro (hy1019.1) (hy1019.2), oq_54f49eb5 hi.2.2.2.1, oq_aa91b9d2 g1003 b1002.2⟩ | omega) (by first | exact qk_me hm (by decide) (oq_e7680c39 g1003 b1002.2) | omega) kx
        ·
          refine z_load X (x := y1016) (show cdA 288 97 = some (.iload 5, 2, 0, 0, 0) from rfl) (List.Mem.head _) ?_
          refine z_callS X (rm := rmN 189) (As := [.int (Int32.ofInt y1016)]) (st := [.int (Int32.ofInt nv)]) (show cdA 288 99 = some (.invokestatic 461, 3, 189, 1, 0) from rfl) rfl (by rw [E.1, E.2.1, E.2.2.1]; exact k_amount G I (by first | exact ⟨hy1016.1, hy1016.2⟩ | omega)) ⟨by rw [E.2.2.2]; exact (show (rmN 189).frames + 1 ≤ (rmN 288).frames by decide), by rw [E.2.2.2]; exact (show 8 + (mNL (miB 189) + 11) + (rmN 189).locals ≤ (rmN 288).locals by decide), by rw [E.2.2.2]; exact (show 0 + (rmN 189).cells ≤ (rmN 288).cells by decide), by rw [E.2.2.2]; exact (show 0 + (rmN 189).slots ≤ (rmN 288).slots by decide)⟩ (Nat.le_of_ble_eq_true rfl) (fun vv s1020 hq => ?_) (fun ee s1020 hq => ?_)
          rotate_left
          · obtain ⟨Is1020, Fs1020, e1021, hv, hrs1020, hps1020⟩ := hq; cases hv
          obtain ⟨Is1020, Fs1020, e1021, hv, hrs1020, hps1020⟩ := hq
          cases hv
          have Gs1020 := fm_ts F Fs1020 (by decide) (by decide)
          have ws1020_107 : iI s1020 107 = iI t 107 := fm_i Fs1020 (by decide)
          show WS k 102 [(5, .int (Int32.ofInt y1016)), (0, .ref (A 179)), (1, .int (Int32.ofInt xv)), (2, .int (Int32.ofInt yv)), (3, .int (Int32.ofInt nv)), (4, .int (Int32.ofInt c))] [.int (Int32.ofInt e1021), .int (Int32.ofInt nv)] (Wd A dT s1020) 0 0
          refine z_goto X (t := 106) (show cdA 288 102 = some (.goto 4, 3, 0, 0, 0) from rfl) (by decide) ?_
          refine z_add X (show cdA 288 106 = some (.iadd, 1, 0, 0, 0) from rfl) ?_
          refine z_any (fun y1022 hy1022 => ?_)
          refine z_store_n X (lv' := [(3, .int (Int32.ofInt y1022)), (5, .int (Int32.ofInt y1016)), (0, .ref (A 179)), (1, .int (Int32.ofInt xv)), (2, .int (Int32.ofInt yv)), (4, .int (Int32.ofInt c))]) (show cdA 288 107 = some (.istore_n 3, 1, 0, 0, 0) from rfl) (by decide) (fun _ h => h) ?_
          refine z_inc X (x := c) (lv' := [(4, .int (Int32.ofInt (c + 1))), (3, .int (Int32.ofInt y1022)), (5, .int (Int32.ofInt y1016)), (0, .ref (A 179)), (1, .int (Int32.ofInt xv)), (2, .int (Int32.ofInt yv))]) (show cdA 288 108 = some (.iinc 4 1, 3, 0, 0, 0) from rfl) (by decide) (List.Mem.tail _ (List.Mem.tail _ (List.Mem.tail _ (List.Mem.tail _ (List.Mem.tail _ (List.Mem.head _)))))) (fun _ h => h) ?_
          refine z_goto X (t := 5) (show cdA 288 111 = some (.goto (-106), 3, 0, 0, 0) from rfl) (by decide) ?_
          refine WS_lv (lv := [(0, .ref (A 179)), (1, .int (Int32.ofInt xv)), (2, .int (Int32.ofInt yv)), (3, .int (Int32.ofInt y1022)), (4, .int (Int32.ofInt (c + 1)))]) (List.forall_mem_cons.mpr ⟨(List.Mem.tail _ (List.Mem.tail _ (List.Mem.tail _ (List.Mem.head _)))), (List.forall_mem_cons.mpr ⟨(List.Mem.tail _ (List.Mem.tail _ (List.Mem.tail _ (List.Mem.tail _ (List.Mem.head _))))), (List.forall_mem_cons.mpr ⟨(List.Mem.tail _ (List.Mem.tail _ (List.Mem.tail _ (List.Mem.tail _ (List.Mem.tail _ (List.Mem.head _)))))), (List.forall_mem_cons.mpr ⟨(List.Mem.tail _ (List.Mem.head _)), (List.forall_mem_cons.mpr ⟨(List.Mem.head _), (fun q h => absurd h List.not_mem_nil)⟩)⟩)⟩)⟩)⟩) ?_
          exact ih _ xv yv y1022 (c + 1) Is1020 Gs1020 (by first | exact ⟨And.intro (hi.1.1) (hi.1.2), hi.2.1, And.intro (hy1022.1) (hy1022.2), oq_54f49eb5 hi.2.2.2.1, oq_aa91b9d2 g1003 b1002.2⟩ | omega) (by first | exact qk_me hm (by decide) (oq_e7680c39 g1003 b1002.2) | omega) kx
  refine z_const X (show cdA 288 0 = some (.iconst 0, 1, 0, 0, 0) from rfl) ?_
  refine z_store_n X (lv' := [(3, .int (Int32.ofInt 0)), (0, .ref (A 179)), (1, .int (Int32.ofInt x)), (2, .int (Int32.ofInt y))]) (show cdA 288 1 = some (.istore_n 3, 1, 0, 0, 0) from rfl) (by decide) (fun _ h => h) ?_
  refine z_const X (show cdA 288 2 = some (.iconst 0, 1, 0, 0, 0) from rfl) ?_
  refine z_store X (lv' := [(4, .int (Int32.ofInt 0)), (3, .int (Int32.ofInt 0)), (0, .ref (A 179)), (1, .int (Int32.ofInt x)), (2, .int (Int32.ofInt y))]) (show cdA 288 3 = some (.istore 4, 2, 0, 0, 0) from rfl) (by decide) (fun _ h => h) ?_
  refine WS_lv (lv := [(0, .ref (A 179)), (1, .int (Int32.ofInt x)), (2, .int (Int32.ofInt y)), (3, .int (Int32.ofInt 0)), (4, .int (Int32.ofInt 0))]) (List.forall_mem_cons.mpr ⟨(List.Mem.tail _ (List.Mem.tail _ (List.Mem.head _))), (List.forall_mem_cons.mpr ⟨(List.Mem.tail _ (List.Mem.tail _ (List.Mem.tail _ (List.Mem.head _)))), (List.forall_mem_cons.mpr ⟨(List.Mem.tail _ (List.Mem.tail _ (List.Mem.tail _ (List.Mem.tail _ (List.Mem.head _))))), (List.forall_mem_cons.mpr ⟨(List.Mem.tail _ (List.Mem.head _)), (List.forall_mem_cons.mpr ⟨(List.Mem.head _), (fun q h => absurd h List.not_mem_nil)⟩)⟩)⟩)⟩)⟩) ?_
  refine L5 ((40 - 0 : Int).toNat + 1) s x y 0 0 I F (by first | exact ⟨And.intro (p0.1) (p0.2), p1, And.intro (by decide) (by decide), by decide, by decide⟩ | omega) (Nat.lt_succ_self _) ?_
  intro s2 x3 x4 x5 x6 Is2 Fs2 hs2
  have b7 : (0 : Int) ≤ iI s2 107 ∧ iI s2 107 ≤ 40 := Is2.1 107
  refine z_load_n X (x := x5) (show cdA 288 114 = some (.iload_n 3, 1, 0, 0, 0) from rfl) (List.Mem.tail _ (List.Mem.tail _ (List.Mem.tail _ (List.Mem.head _)))) ?_
  exact w_iret X.1 q hRt rfl (ax_d X (show cdA 288 115 = some (.ireturn, 1, 0, 0, 0) from rfl)) (Nat.zero_le _) (Nat.zero_le _) ⟨_, rfl, Is2, Fs2, x5, rfl, ⟨by first | exact hs2.2.2.1.1 | omega, by first | exact hs2.2.2.1.2 | omega⟩, trivial⟩
theorem k_fit (G : GX l s0 D tys a0 dT) (I : Bd s) {x : Int} (p0 : rng x) : CT l s0 D A dT 289 (rmN 289) [.ref (A 179), .int (Int32.ofInt x)] s (fun o t => Bd t ∧ Fm [73] [] s t ∧ ∃ e, o = .inl (some (.int (Int32.ofInt e))) ∧ rng e ∧ (True)) := by
  refine ct_of G (by decide) (Nat.le_of_ble_eq_true rfl) (fun k X E hRt hXt q => ?_)
  show WS k 0 [(0, .ref (A 179)), (1, .int (Int32.ofInt x))] [] _ 0 0
  have F : Fm [73] [] s s := fm_rf _ _ s
  have b1 : (0 : Int) ≤ iI s 73 ∧ iI s 73 ≤ 3 := I.1 73
  have b2 : (0 : Int) ≤ iI s 107 ∧ iI s 107 ≤ 40 := I.1 107
  have L33 : ∀ (n : Nat) (t : PS) (xv av c : Int), Bd t → Fm [73] [] s t → ((0 ≤ xv ∧ xv ≤ 5) ∧ (av = 0 ∨ av = 1) ∧ 0 ≤ c ∧ c ≤ 40) → (40 - c : Int).toNat < n → (∀ (t' : PS) (av' c' : Int), Bd t' → Fm [73] [] s t' → ((0 ≤ xv ∧ xv ≤ 5) ∧ (av' = 0 ∨ av' = 1) ∧ 0 ≤ c' ∧ c' ≤ 40) → WS k 66 [(0, .ref (A 179)), (1, .int (Int32.ofInt xv)), (2, .int (Int32.ofInt av')), (3, .int (Int32.ofInt c'))] [] (Wd A dT t') 0 0) → WS k 33 [(0, .ref (A 179)), (1, .int (Int32.ofInt xv)), (2, .int (Int32.ofInt av)), (3, .int (Int32.ofInt c))] [] (Wd A dT t) 0 0 := by
    intro n
    induction n with
    | zero =>
      intro t xv av c I F hi hm kx
      exact absurd hm (Nat.not_lt_zero _)
    | succ n ih =>
      intro t xv av c I F hi hm kx
      have b1001 : (0 : Int) ≤ iI t 73 ∧ iI t 73 ≤ 3 := I.1 73
      have b1002 : (0 : Int) ≤ iI t 107 ∧ iI t 107 ≤ 40 := I.1 107
      refine z_load_n X (x := c) (show cdA 289 33 = some (.iload_n 3, 1, 0, 0, 0) from rfl) (List.Mem.tail _ (List.Mem.tail _ (List.Mem.tail _ (List.Mem.head _)))) ?_
      refine z_aload_n X (x := A 179) (show cdA 289 34 = some (.aload_n 0, 1, 0, 0, 0) from rfl) (List.Mem.head _) ?_
      refine z_getI X 179 (show cdA 289 35 = some (.getfield 458, 3, 12, 76, 0) from rfl) (by decide) rfl rfl ?_
      have b1003 : (0 : Int) ≤ iI t 107 ∧ iI t 107 ≤ 40 := I.1 107
      refine z_icmp_ge X (t := 66) (show cdA 289 38 = some (.if_icmp .ge 28, 3, 3, 0, 0) from rfl) (by decide) ⟨by first | exact oq_fa4e5087 hi.2.2.1 | omega, by first | exact oq_227d2cd7 hi.2.2.2 | omega⟩ (rng_to _) (fun g1004 => ?_) (fun g1004 => ?_)
      ·
        refine WS_lv (lv := [(0, .ref (A 179)), (1, .int (Int32.ofInt xv)), (2, .int (Int32.ofInt av)), (3, .int (Int32.ofInt c))]) (List.forall_mem_cons.mpr ⟨(List.Mem.head _), (List.forall_mem_cons.mpr ⟨(List.Mem.tail _ (List.Mem.head _)), (List.forall_mem_cons.mpr ⟨(List.Mem.tail _ (List.Mem.tail _ (List.Mem.head _))), (List.forall_mem_cons.mpr ⟨(List.Mem.tail _ (List.Mem.tail _ (List.Mem.tail _ (List.Mem.head _)))), (fun q h => absurd h List.not_mem_nil)⟩)⟩)⟩)⟩) ?_
        exact kx _ av c I F (by first | exact ⟨And.intro (hi.1.1) (hi.1.2), hi.2.1, hi.2.2.1, hi.2.2.2⟩ | omega)
      ·
        refine z_load_n X (x := av) (show cdA 289 41 = some (.iload_n 2, 1, 0, 0, 0) from rfl) (List.Mem.tail _ (List.Mem.tail _ (List.Mem.head _))) ?_
        have N1005 : ∀ e1006 : Int, (((av ≠ 0) ∧ e1006 = 1) ∨ ((av = 0) ∧ ((0 : Int) ≤ iC t 459 (c).toNat ∧ iC t 459 (c).toNat ≤ 1) ∧ ((iC t 459 (c).toNat) ≠ 0) ∧ e1006 = 0) ∨ ((av = 0) ∧ ((0 : Int) ≤ iC t 459 (c).toNat ∧ iC t 459 (c).toNat ≤ 1) ∧ ((iC t 459 (c).toNat) = 0) ∧ e1006 = 1)) → WS k 59 [(0, .ref (A 179)), (1, .int (Int32.ofInt xv)), (2, .int (Int32.ofInt av)), (3, .int (Int32.ofInt c))] [.int (Int32.ofInt e1006)] (Wd A dT t) 0 0 := by
          intro e1006 he1006
          have re1006 : 0 ≤ e1006 ∧ e1006 ≤ 1 := by omega
          refine z_store_n X (lv' := [(2, .int (Int32.ofInt e1006)), (0, .ref (A 179)), (1, .int (Int32.ofInt xv)), (3, .int (Int32.ofInt c))]) (show cdA 289 59 = some (.istore_n 2, 1, 0, 0, 0) from rfl) (by decide) (fun _ h => h) ?_
          refine z_inc X (x := c) (lv' := [(3, .int (Int32.ofInt (c + 1))), (2, .int (Int32.ofInt e1006)), (0, .ref (A 179)), (1, .int (Int32.ofInt xv))]) (show cdA 289 60 = some (.iinc 3 1, 3, 0, 0, 0) from rfl) (by decide) (List.Mem.tail _ (List.Mem.tail _ (List.Mem.tail _ (List.Mem.head _)))) (fun _ h => h) ?_
          refine z_goto X (t := 33) (show cdA 289 63 = some (.goto (-30), 3, 0, 0, 0) from rfl) (by decide) ?_
          refine WS_lv (lv := [(0, .ref (A 179)), (1, .int (Int32.ofInt xv)), (2, .int (Int32.ofInt e1006)), (3, .int (Int32.ofInt (c + 1)))]) (List.forall_mem_cons.mpr ⟨(List.Mem.tail _ (List.Mem.tail _ (List.Mem.head _))), (List.forall_mem_cons.mpr ⟨(List.Mem.tail _ (List.Mem.tail _ (List.Mem.tail _ (List.Mem.head _)))), (List.forall_mem_cons.mpr ⟨(List.Mem.tail _ (List.Mem.head _)), (List.forall_mem_cons.mpr ⟨(List.Mem.head _), (fun q h => absurd h List.not_mem_nil)⟩)⟩)⟩)⟩) ?_
          exact ih _ xv e1006 (c + 1) I F (by first | exact ⟨And.intro (hi.1.1) (hi.1.2), oq_31e518ae re1006.2 re1006.1, oq_54f49eb5 hi.2.2.1, oq_aa91b9d2 g1004 b1003.2⟩ | omega) (by first | exact qk_me hm (by decide) (oq_e7680c39 g1004 b1003.2) | omega) kx
        refine z_if_ne X (t := 54) (show cdA 289 42 = some (.ifCond .ne 12, 3, 1, 0, 0) from rfl) (by decide) ⟨by first | exact oq_bde653e9 hi.2.1 | omega, by first | exact oq_4ad2cb8b hi.2.1 | omega⟩ (fun g1007 => ?_) (fun g1007 => ?_)
        ·
          refine z_const X (show cdA 289 54 = some (.iconst 1, 1, 0, 0, 0) from rfl) ?_
          refine z_goto X (t := 59) (show cdA 289 55 = some (.goto 4, 3, 0, 0, 0) from rfl) (by decide) ?_
          exact N1005 _ (Or.inl ⟨g1007, rfl⟩)
        ·
          refine z_aload_n X (x := A 179) (show cdA 289 45 = some (.aload_n 0, 1, 0, 0, 0) from rfl) (List.Mem.head _) ?_
          refine s_getR X 179 (show cdA 289 46 = some (.getfield 169, 3, 12, 80, 0) from rfl) (by decide) rfl rfl ?_
          refine z_load_n X (x := c) (show cdA 289 49 = some (.iload_n 3, 1, 0, 0, 0) from rfl) (List.Mem.tail _ (List.Mem.tail _ (List.Mem.tail _ (List.Mem.head _)))) ?_
          refine z_zald X 516 (show cdA 289 50 = some (.baload, 1, 0, 0, 0) from rfl) (by decide) rfl (by first | exact hi.2.2.1 | omega) (show c < 40 by first | exact oq_497ff6eb g1004 b1003.2 | omega) (by decide) ?_
          have b1008 : (0 : Int) ≤ iC t 459 (c).toNat ∧ iC t 459 (c).toNat ≤ 1 := I.2 459 _ (show (c).toNat < 40 by first | exact oq_23813e7c g1004 b1003.2 | omega)
          refine z_if_ne X (t := 58) (show cdA 289 51 = some (.ifCond .ne 7, 3, 1, 0, 0) from rfl) (by decide) (rng_to _) (fun g1009 => ?_) (fun g1009 => ?_)
          ·
            refine z_const X (show cdA 289 58 = some (.iconst 0, 1, 0, 0, 0) from rfl) ?_
            exact N1005 _ (Or.inr (Or.inl ⟨g1007, b1008, g1009, rfl⟩))
          ·
            refine z_const X (show cdA 289 54 = some (.iconst 1, 1, 0, 0, 0) from rfl) ?_
            refine z_goto X (t := 59) (show cdA 289 55 = some (.goto 4, 3, 0, 0, 0) from rfl) (by decide) ?_
            exact N1005 _ (Or.inr (Or.inr (⟨g1007, b1008, g1009, rfl⟩)))
  have L85 : ∀ (n : Nat) (t : PS) (xv bv lv c : Int), Bd t → Fm [73] [] s t → ((0 ≤ xv ∧ xv ≤ 5) ∧ (0 ≤ bv ∧ bv ≤ 624) ∧ rng lv ∧ 1 ≤ c ∧ c ≤ 625) → (625 - c : Int).toNat < n → (∀ (t' : PS) (bv' lv' c' : Int), Bd t' → Fm [73] [] s t' → ((0 ≤ xv ∧ xv ≤ 5) ∧ (0 ≤ bv' ∧ bv' ≤ 624) ∧ rng lv' ∧ 1 ≤ c' ∧ c' ≤ 625) → WS k 125 [(0, .ref (A 179)), (1, .int (Int32.ofInt xv)), (3, .int (Int32.ofInt bv')), (4, .int (Int32.ofInt lv')), (5, .int (Int32.ofInt c'))] [] (Wd A dT t') 0 0) → WS k 85 [(0, .ref (A 179)), (1, .int (Int32.ofInt xv)), (3, .int (Int32.ofInt bv)), (4, .int (Int32.ofInt lv)), (5, .int (Int32.ofInt c))] [] (Wd A dT t) 0 0 := by
    intro n
    induction n with
    | zero =>
      intro t xv bv lv c I F hi hm kx
      exact absurd hm (Nat.not_lt_zero _)
    | succ n ih =>
      intro t xv bv lv c I F hi hm kx
      have b2001 : (0 : Int) ≤ iI t 73 ∧ iI t 73 ≤ 3 := I.1 73
      have b2002 : (0 : Int) ≤ iI t 107 ∧ iI t 107 ≤ 40 := I.1 107
      refine z_load X (x := c) (show cdA 289 85 = some (.iload 5, 2, 0, 0, 0) from rfl) (List.Mem.tail _ (List.Mem.tail _ (List.Mem.tail _ (List.Mem.tail _ (List.Mem.head _))))) ?_
      refine z_sipush X (show cdA 289 87 = some (.sipush 625, 3, 0, 0, 625) from rfl) ?_
      refine z_icmp_ge X (t := 125) (show cdA 289 90 = some (.if_icmp .ge 35, 3, 3, 0, 0) from rfl) (by decide) ⟨by first | exact oq_9462313e hi.2.2.2.1 | omega, by first | exact oq_82406429 hi.2.2.2.2 | omega⟩ (by decide) (fun g2003 => ?_) (fun g2003 => ?_)
      ·
        refine WS_lv (lv := [(0, .ref (A 179)), (1, .int (Int32.ofInt xv)), (3, .int (Int32.ofInt bv)), (4, .int (Int32.ofInt lv)), (5, .int (Int32.ofInt c))]) (List.forall_mem_cons.mpr ⟨(List.Mem.head _), (List.forall_mem_cons.mpr ⟨(List.Mem.tail _ (List.Mem.head _)), (List.forall_mem_cons.mpr ⟨(List.Mem.tail _ (List.Mem.tail _ (List.Mem.head _))), (List.forall_mem_cons.mpr ⟨(List.Mem.tail _ (List.Mem.tail _ (List.Mem.tail _ (List.Mem.head _)))), (List.forall_mem_cons.mpr ⟨(List.Mem.tail _ (List.Mem.tail _ (List.Mem.tail _ (List.Mem.tail _ (List.Mem.head _))))), (fun q h => absurd h List.not_mem_nil)⟩)⟩)⟩)⟩)⟩) ?_
        exact kx _ bv lv c I F (by first | exact ⟨And.intro (hi.1.1) (hi.1.2), And.intro (hi.2.1.1) (hi.2.1.2), And.intro (hi.2.2.1.1) (hi.2.2.1.2), hi.2.2.2.1, hi.2.2.2.2⟩ | omega)
      ·
        refine z_aload_n X (x := A 179) (show cdA 289 93 = some (.aload_n 0, 1, 0, 0, 0) from rfl) (List.Mem.head _) ?_
        refine z_load X (x := c) (show cdA 289 94 = some (.iload 5, 2, 0, 0, 0) from rfl) (List.Mem.tail _ (List.Mem.tail _ (List.Mem.tail _ (List.Mem.tail _ (List.Mem.head _))))) ?_
        refine z_const X (show cdA 289 96 = some (.iconst 0, 1, 0, 0, 0) from rfl) ?_
        refine z_callV X 179 (rm := rmN 288) (As := [.int (Int32.ofInt c), .int (Int32.ofInt 0)]) (st := []) (show cdA 289 97 = some (.invokevirtual 464, 3, 288, 0, 0) from rfl) rfl (by decide) rfl (by rw [E.1, E.2.1, E.2.2.1]; exact k_offOf G I (by first | exact ⟨oq_2a6e3b50 hi.2.2.2.1, oq_6eb35ffb g2003⟩ | omega) (by first | exact Or.inl (by decide) | omega)) ⟨by rw [E.2.2.2]; exact (show (rmN 288).frames + 1 ≤ (rmN 289).frames by decide), by rw [E.2.2.2]; exact (show 8 + (mNL (miB 288) + 11) + (rmN 288).locals ≤ (rmN 289).locals by decide), by rw [E.2.2.2]; exact (show 0 + (rmN 288).cells ≤ (rmN 289).cells by decide), by rw [E.2.2.2]; exact (show 0 + (rmN 288).slots ≤ (rmN 289).slots by decide)⟩ (Nat.le_of_ble_eq_true rfl) (fun vv s2004 hq => ?_) (fun ee s2004 hq => ?_)
        rotate_left
        · obtain ⟨Is2004, Fs2004, e2005, hv, hrs2004, hps2004⟩ := hq; cases hv
        obtain ⟨Is2004, Fs2004, e2005, hv, hrs2004, hps2004⟩ := hq
        cases hv
        have Gs2004 := fm_ts F Fs2004 (by decide) (by decide)
        have ws2004_73 : iI s2004 73 = iI t 73 := fm_i Fs2004 (by decide)
        have ws2004_107 : iI s2004 107 = iI t 107 := fm_i Fs2004 (by decide)
        show WS k 100 [(0, .ref (A 179)), (1, .int (Int32.ofInt xv)), (3, .int (Int32.ofInt bv)), (4, .int (Int32.ofInt lv)), (5, .int (Int32.ofInt c))] [.int (Int32.ofInt e2005)] (Wd A dT s2004) 0 0
        refine z_store X (lv' := [(6, .int (Int32.ofInt e2005)), (0, .ref (A 179)), (1, .int (Int32.ofInt xv)), (3, .int (Int32.ofInt bv)), (4, .int (Int32.ofInt lv)), (5, .int (Int32.ofInt c))]) (show cdA 289 100 = some (.istore 6, 2, 0, 0, 0) from rfl) (by decide) (fun _ h => h) ?_
        refine z_load X (x := e2005) (show cdA 289 102 = some (.iload 6, 2, 0, 0, 0) from rfl) (List.Mem.head _) ?_
        refine z_load X (x := lv) (show cdA 289 104 = some (.iload 4, 2, 0, 0, 0) from rfl) (List.Mem.tail _ (List.Mem.tail _ (List.Mem.tail _ (List.Mem.tail _ (List.Mem.head _))))) ?_
        refine z_icmp_lt X (t := 112) (show cdA 289 106 = some (.if_icmp .lt 6, 3, 2, 0, 0) from rfl) (by decide) hrs2004 ⟨by first | exact hi.2.2.1.1 | omega, by first | exact hi.2.2.1.2 | omega⟩ (fun g2006 => ?_) (fun g2006 => ?_)
        ·
          refine z_load X (x := c) (show cdA 289 112 = some (.iload 5, 2, 0, 0, 0) from rfl) (List.Mem.tail _ (List.Mem.tail _ (List.Mem.tail _ (List.Mem.tail _ (List.Mem.tail _ (List.Mem.head _)))))) ?_
          refine z_store_n X (lv' := [(3, .int (Int32.ofInt c)), (6, .int (Int32.ofInt e2005)), (0, .ref (A 179)), (1, .int (Int32.ofInt xv)), (4, .int (Int32.ofInt lv)), (5, .int (Int32.ofInt c))]) (show cdA 289 114 = some (.istore_n 3, 1, 0, 0, 0) from rfl) (by decide) (fun _ h => h) ?_
          refine z_load X (x := e2005) (show cdA 289 115 = some (.iload 6, 2, 0, 0, 0) from rfl) (List.Mem.tail _ (List.Mem.head _)) ?_
          refine z_store X (lv' := [(4, .int (Int32.ofInt e2005)), (3, .int (Int32.ofInt c)), (6, .int (Int32.ofInt e2005)), (0, .ref (A 179)), (1, .int (Int32.ofInt xv)), (5, .int (Int32.ofInt c))]) (show cdA 289 117 = some (.istore 4, 2, 0, 0, 0) from rfl) (by decide) (fun _ h => h) ?_
          refine z_inc X (x := c) (lv' := [(5, .int (Int32.ofInt (c + 1))), (4, .int (Int32.ofInt e2005)), (3, .int (Int32.ofInt c)), (6, .int (Int32.ofInt e2005)), (0, .ref (A 179)), (1, .int (Int32.ofInt xv))]) (show cdA 289 119 = some (.iinc 5 1, 3, 0, 0, 0) from rfl) (by decide) (List.Mem.tail _ (List.Mem.tail _ (List.Mem.tail _ (List.Mem.tail _ (List.Mem.tail _ (List.Mem.head _)))))) (fun _ h => h) ?_
          refine z_goto X (t := 85) (show cdA 289 122 = some (.goto (-37), 3, 0, 0, 0) from rfl) (by decide) ?_
          refine WS_lv (lv := [(0, .ref (A 179)), (1, .int (Int32.ofInt xv)), (3, .int (Int32.ofInt c)), (4, .int (Int32.ofInt e2005)), (5, .int (Int32.ofInt (c + 1)))]) (List.forall_mem_cons.mpr ⟨(List.Mem.tail _ (List.Mem.tail _ (List.Mem.tail _ (List.Mem.tail _ (List.Mem.head _))))), (List.forall_mem_cons.mpr ⟨(List.Mem.tail _ (List.Mem.tail _ (List.Mem.tail _ (List.Mem.tail _ (List.Mem.tail _ (List.Mem.head _)))))), (List.forall_mem_cons.mpr ⟨(List.Mem.tail _ (List.Mem.tail _ (List.Mem.head _))), (List.forall_mem_cons.mpr ⟨(List.Mem.tail _ (List.Mem.head _)), (List.forall_mem_cons.mpr ⟨(List.Mem.head _), (fun q h => absurd h List.not_mem_nil)⟩)⟩)⟩)⟩)⟩) ?_
          exact ih _ xv c e2005 (c + 1) Is2004 Gs2004 (by first | exact ⟨And.intro (hi.1.1) (hi.1.2), And.intro (oq_2a6e3b50 hi.2.2.2.1) (oq_6eb35ffb g2003), by omega, oq_1e1a2df6 hi.2.2.2.1, oq_d524a3cb g2003⟩ | omega) (by first | exact qk_me hm (by decide) (oq_ad009edd g2003) | omega) kx
        ·
          refine z_goto X (t := 119) (show cdA 289 109 = some (.goto 10, 3, 0, 0, 0) from rfl) (by decide) ?_
          refine z_inc X (x := c) (lv' := [(5, .int (Int32.ofInt (c + 1))), (6, .int (Int32.ofInt e2005)), (0, .ref (A 179)), (1, .int (Int32.ofInt xv)), (3, .int (Int32.ofInt bv)), (4, .int (Int32.ofInt lv))]) (show cdA 289 119 = some (.iinc 5 1, 3, 0, 0, 0) from rfl) (by decide) (List.Mem.tail _ (List.Mem.tail _ (List.Mem.tail _ (List.Mem.tail _ (List.Mem.tail _ (List.Mem.head _)))))) (fun _ h => h) ?_
          refine z_goto X (t := 85) (show cdA 289 122 = some (.goto (-37), 3, 0, 0, 0) from rfl) (by decide) ?_
          refine WS_lv (lv := [(0, .ref (A 179)), (1, .int (Int32.ofInt xv)), (3, .int (Int32.ofInt bv)), (4, .int (Int32.ofInt lv)), (5, .int (Int32.ofInt (c + 1)))]) (List.forall_mem_cons.mpr ⟨(List.Mem.tail _ (List.Mem.tail _ (List.Mem.head _))), (List.forall_mem_cons.mpr ⟨(List.Mem.tail _ (List.Mem.tail _ (List.Mem.tail _ (List.Mem.head _)))), (List.forall_mem_cons.mpr ⟨(List.Mem.tail _ (List.Mem.tail _ (List.Mem.tail _ (List.Mem.tail _ (List.Mem.head _))))), (List.forall_mem_cons.mpr ⟨(List.Mem.tail _ (List.Mem.tail _ (List.Mem.tail _ (List.Mem.tail _ (List.Mem.tail _ (List.Mem.head _)))))), (List.forall_mem_cons.mpr ⟨(List.Mem.head _), (fun q h => absurd h List.not_mem_nil)⟩)⟩)⟩)⟩)⟩) ?_
          exact ih _ xv bv lv (c + 1) Is2004 Gs2004 (by first | exact ⟨And.intro (hi.1.1) (hi.1.2), And.intro (hi.2.1.1) (hi.2.1.2), And.intro (hi.2.2.1.1) (hi.2.2.1.2), oq_1e1a2df6 hi.2.2.2.1, oq_d524a3cb g2003⟩ | omega) (by first | exact qk_me hm (by decide) (oq_ad009edd g2003) | omega) kx
  refine z_aload_n X (x := A 179) (show cdA 289 0 = some (.aload_n 0, 1, 0, 0, 0) from rfl) (List.Mem.head _) ?_
  refine z_const X (show cdA 289 1 = some (.iconst 0, 1, 0, 0, 0) from rfl) ?_
  refine s_putI X 179 (show cdA 289 2 = some (.putfield 172, 3, 12, 0, 0) from rfl) (by decide) rfl rfl (by decide) rfl rfl rfl ?_
  obtain ⟨s3, hs3⟩ : ∃ x0, x0 = uI s 73 (Int32.ofInt 0) := ⟨_, rfl⟩
  rw [← hs3]
  have Is3 : Bd s3 := by rw [hs3]; exact bd_I I (show (0 : Int) ≤ 0 ∧ 0 ≤ 3 by first | exact ⟨by decide, by decide⟩ | omega) (by decide)
  have Fs3 := fm_I (x := Int32.ofInt 0) F (show 73 ∈ _ by decide)
  rw [← hs3] at Fs3
  have vs3 : iI s3 73 = 0 := by rw [hs3]; exact iI_u (by decide)
  have ws3_107 : iI s3 107 = iI s 107 := by rw [hs3]; rfl
  refine z_aload_n X (x := A 179) (show cdA 289 5 = some (.aload_n 0, 1, 0, 0, 0) from rfl) (List.Mem.head _) ?_
  refine z_load_n X (x := x) (show cdA 289 6 = some (.iload_n 1, 1, 0, 0, 0) from rfl) (List.Mem.tail _ (List.Mem.head _)) ?_
  refine z_const X (show cdA 289 7 = some (.iconst 0, 1, 0, 0, 0) from rfl) ?_
  refine z_const X (show cdA 289 8 = some (.iconst 5, 1, 0, 0, 0) from rfl) ?_
  refine z_callS X (rm := rmN 188) (As := [.int (Int32.ofInt x), .int (Int32.ofInt 0), .int (Int32.ofInt 5)]) (st := [.ref (A 179)]) (show cdA 289 9 = some (.invokestatic 209, 3, 188, 1, 0) from rfl) rfl (by rw [E.1, E.2.1, E.2.2.1]; exact k_in G Is3 (by first | exact ⟨p0.1, p0.2⟩ | omega) (by first | exact ⟨by decide, by decide⟩ | omega) (by first | exact ⟨by decide, by decide⟩ | omega)) ⟨by rw [E.2.2.2]; exact (show (rmN 188).frames + 1 ≤ (rmN 289).frames by decide), by rw [E.2.2.2]; exact (show 8 + (mNL (miB 188) + 11) + (rmN 188).locals ≤ (rmN 289).locals by decide), by rw [E.2.2.2]; exact (show 0 + (rmN 188).cells ≤ (rmN 289).cells by decide), by rw [E.2.2.2]; exact (show 0 + (rmN 188).slots ≤ (rmN 289).slots by decide)⟩ (Nat.le_of_ble_eq_true rfl) (fun vv s4 hq => ?_) (fun ee s4 hq => ?_)
  rotate_left
  · obtain ⟨Is4, Fs4, e5, hv, hrs4, hps4⟩ := hq; cases hv
  obtain ⟨Is4, Fs4, e5, hv, hrs4, hps4⟩ := hq
  cases hv
  have Gs4 := fm_ts Fs3 Fs4 (by decide) (by decide)
  have ws4_73 : iI s4 73 = iI s3 73 := fm_i Fs4 (by decide)
  have ws4_107 : iI s4 107 = iI s3 107 := fm_i Fs4 (by decide)
  show WS k 12 [(0, .ref (A 179)), (1, .int (Int32.ofInt x))] [.int (Int32.ofInt e5), .ref (A 179)] (Wd A dT s4) 0 0
  have N6 : ∀ e7 : Int, (((e5 ≠ 0) ∧ e7 = 0) ∨ ((e5 = 0) ∧ e7 = 1)) → WS k 20 [(0, .ref (A 179)), (1, .int (Int32.ofInt x))] [.int (Int32.ofInt e7), .ref (A 179)] (Wd A dT s4) 0 0 := by
    intro e7 he7
    have re7 : 0 ≤ e7 ∧ e7 ≤ 1 := by omega
    refine z_const X (show cdA 289 20 = some (.iconst 1, 1, 0, 0, 0) from rfl) ?_
    refine z_callV X 179 (rm := rmN 187) (As := [.int (Int32.ofInt e7), .int (Int32.ofInt 1)]) (st := []) (show cdA 289 21 = some (.invokevirtual 229, 3, 187, 0, 0) from rfl) rfl (by decide) rfl (by rw [E.1, E.2.1, E.2.2.1]; exact k_bad G Is4 (by first | exact oq_31e518ae re7.2 re7.1 | omega) (by first | exact ⟨by decide, by decide⟩ | omega)) ⟨by rw [E.2.2.2]; exact (show (rmN 187).frames + 1 ≤ (rmN 289).frames by decide), by rw [E.2.2.2]; exact (show 8 + (mNL (miB 187) + 11) + (rmN 187).locals ≤ (rmN 289).locals by decide), by rw [E.2.2.2]; exact (show 0 + (rmN 187).cells ≤ (rmN 289).cells by decide), by rw [E.2.2.2]; exact (show 0 + (rmN 187).slots ≤ (rmN 289).slots by decide)⟩ (Nat.le_of_ble_eq_true rfl) (fun vv s8 hq => ?_) (fun ee s8 hq => ?_)
    rotate_left
    · obtain ⟨Is8, Fs8, e9, hv, hrs8, hps8⟩ := hq; cases hv
    obtain ⟨Is8, Fs8, e9, hv, hrs8, hps8⟩ := hq
    cases hv
    have Gs8 := fm_ts Gs4 Fs8 (by decide) (by decide)
    have b10 : (0 : Int) ≤ iI s8 73 ∧ iI s8 73 ≤ 3 := Is8.1 73
    have ws8_107 : iI s8 107 = iI s4 107 := fm_i Fs8 (by decide)
    show WS k 24 [(0, .ref (A 179)), (1, .int (Int32.ofInt x))] [.int (Int32.ofInt e9)] (Wd A dT s8) 0 0
    refine z_if_eq X (t := 29) (show cdA 289 24 = some (.ifCond .eq 5, 3, 0, 0, 0) from rfl) (by decide) hrs8 (fun g11 => ?_) (fun g11 => ?_)
    ·
      refine z_const X (show cdA 289 29 = some (.iconst 0, 1, 0, 0, 0) from rfl) ?_
      refine z_store_n X (lv' := [(2, .int (Int32.ofInt 0)), (0, .ref (A 179)), (1, .int (Int32.ofInt x))]) (show cdA 289 30 = some (.istore_n 2, 1, 0, 0, 0) from rfl) (by decide) (fun _ h => h) ?_
      refine z_const X (show cdA 289 31 = some (.iconst 0, 1, 0, 0, 0) from rfl) ?_
      refine z_store_n X (lv' := [(3, .int (Int32.ofInt 0)), (2, .int (Int32.ofInt 0)), (0, .ref (A 179)), (1, .int (Int32.ofInt x))]) (show cdA 289 32 = some (.istore_n 3, 1, 0, 0, 0) from rfl) (by decide) (fun _ h => h) ?_
      refine WS_lv (lv := [(0, .ref (A 179)), (1, .int (Int32.ofInt x)), (2, .int (Int32.ofInt 0)), (3, .int (Int32.ofInt 0))]) (List.forall_mem_cons.mpr ⟨(List.Mem.tail _ (List.Mem.tail _ (List.Mem.head _))), (List.forall_mem_cons.mpr ⟨(List.Mem.tail _ (List.Mem.tail _ (List.Mem.tail _ (List.Mem.head _)))), (List.forall_mem_cons.mpr ⟨(List.Mem.tail _ (List.Mem.head _)), (List.forall_mem_cons.mpr ⟨(List.Mem.head _), (fun q h => absurd h List.not_mem_nil)⟩)⟩)⟩)⟩) ?_
      refine L33 ((40 - 0 : Int).toNat + 1) s8 x 0 0 Is8 Gs8 (by first | exact ⟨oq_316058e1 g11 hps8.2.1 re7.2 he7 hps4, Or.inl (by decide), by decide, by decide⟩ | omega) (Nat.lt_succ_self _) ?_
      intro s12 x13 x14 Is12 Fs12 hs12
      have b15 : (0 : Int) ≤ iI s12 73 ∧ iI s12 73 ≤ 3 := Is12.1 73
      have b16 : (0 : Int) ≤ iI s12 107 ∧ iI s12 107 ≤ 40 := Is12.1 107
      refine z_load_n X (x := x13) (show cdA 289 66 = some (.iload_n 2, 1, 0, 0, 0) from rfl) (List.Mem.tail _ (List.Mem.tail _ (List.Mem.head _))) ?_
      refine z_if_ne X (t := 72) (show cdA 289 67 = some (.ifCond .ne 5, 3, 1, 0, 0) from rfl) (by decide) ⟨by first | exact oq_bde653e9 hs12.2.1 | omega, by first | exact oq_4ad2cb8b hs12.2.1 | omega⟩ (fun g17 => ?_) (fun g17 => ?_)
      ·
        refine z_const X (show cdA 289 72 = some (.iconst 0, 1, 0, 0, 0) from rfl) ?_
        refine z_store_n X (lv' := [(3, .int (Int32.ofInt 0)), (0, .ref (A 179)), (1, .int (Int32.ofInt x)), (2, .int (Int32.ofInt x13))]) (show cdA 289 73 = some (.istore_n 3, 1, 0, 0, 0) from rfl) (by decide) (fun _ h => h) ?_
        refine z_aload_n X (x := A 179) (show cdA 289 74 = some (.aload_n 0, 1, 0, 0, 0) from rfl) (List.Mem.tail _ (List.Mem.head _)) ?_
        refine z_const X (show cdA 289 75 = some (.iconst 0, 1, 0, 0, 0) from rfl) ?_
        refine z_const X (show cdA 289 76 = some (.iconst 0, 1, 0, 0, 0) from rfl) ?_
        refine z_callV X 179 (rm := rmN 288) (As := [.int (Int32.ofInt 0), .int (Int32.ofInt 0)]) (st := []) (show cdA 289 77 = some (.invokevirtual 464, 3, 288, 0, 0) from rfl) rfl (by decide) rfl (by rw [E.1, E.2.1, E.2.2.1]; exact k_offOf G Is12 (by first | exact ⟨by decide, by decide⟩ | omega) (by first | exact Or.inl (by decide) | omega)) ⟨by rw [E.2.2.2]; exact (show (rmN 288).frames + 1 ≤ (rmN 289).frames by decide), by rw [E.2.2.2]; exact (show 8 + (mNL (miB 288) + 11) + (rmN 288).locals ≤ (rmN 289).locals by decide), by rw [E.2.2.2]; exact (show 0 + (rmN 288).cells ≤ (rmN 289).cells by decide), by rw [E.2.2.2]; exact (show 0 + (rmN 288).slots ≤ (rmN 289).slots by decide)⟩ (Nat.le_of_ble_eq_true rfl) (fun vv s18 hq => ?_) (fun ee s18 hq => ?_)
        rotate_left
        · obtain ⟨Is18, Fs18, e19, hv, hrs18, hps18⟩ := hq; cases hv
        obtain ⟨Is18, Fs18, e19, hv, hrs18, hps18⟩ := hq
        cases hv
        have Gs18 := fm_ts Fs12 Fs18 (by decide) (by decide)
        have ws18_73 : iI s18 73 = iI s12 73 := fm_i Fs18 (by decide)
        have ws18_107 : iI s18 107 = iI s12 107 := fm_i Fs18 (by decide)
        show WS k 80 [(3, .int (Int32.ofInt 0)), (0, .ref (A 179)), (1, .int (Int32.ofInt x)), (2, .int (Int32.ofInt x13))] [.int (Int32.ofInt e19)] (Wd A dT s18) 0 0
        refine z_store X (lv' := [(4, .int (Int32.ofInt e19)), (3, .int (Int32.ofInt 0)), (0, .ref (A 179)), (1, .int (Int32.ofInt x)), (2, .int (Int32.ofInt x13))]) (show cdA 289 80 = some (.istore 4, 2, 0, 0, 0) from rfl) (by decide) (fun _ h => h) ?_
        refine z_const X (show cdA 289 82 = some (.iconst 1, 1, 0, 0, 0) from rfl) ?_
        refine z_store X (lv' := [(5, .int (Int32.ofInt 1)), (4, .int (Int32.ofInt e19)), (3, .int (Int32.ofInt 0)), (0, .ref (A 179)), (1, .int (Int32.ofInt x)), (2, .int (Int32.ofInt x13))]) (show cdA 289 83 = some (.istore 5, 2, 0, 0, 0) from rfl) (by decide) (fun _ h => h) ?_
        refine WS_lv (lv := [(0, .ref (A 179)), (1, .int (Int32.ofInt x)), (3, .int (Int32.ofInt 0)), (4, .int (Int32.ofInt e19)), (5, .int (Int32.ofInt 1))]) (List.forall_mem_cons.mpr ⟨(List.Mem.tail _ (List.Mem.tail _ (List.Mem.tail _ (List.Mem.head _)))), (List.forall_mem_cons.mpr ⟨(List.Mem.tail _ (List.Mem.tail _ (List.Mem.tail _ (List.Mem.tail _ (List.Mem.head _))))), (List.forall_mem_cons.mpr ⟨(List.Mem.tail _ (List.Mem.tail _ (List.Mem.head _))), (List.forall_mem_cons.mpr ⟨(List.Mem.tail _ (List.Mem.head _)), (List.forall_mem_cons.mpr ⟨(List.Mem.head _), (fun q h => absurd h List.not_mem_nil)⟩)⟩)⟩)⟩)⟩) ?_
        refine L85 ((625 - 1 : Int).toNat + 1) s18 x 0 e19 1 Is18 Gs18 (by first | exact ⟨And.intro (hs12.1.1) (hs12.1.2), And.intro (by decide) (by decide), by omega, by decide, by decide⟩ | omega) (Nat.lt_succ_self _) ?_
        intro s20 x21 x22 x23 Is20 Fs20 hs20
        have b24 : (0 : Int) ≤ iI s20 73 ∧ iI s20 73 ≤ 3 := Is20.1 73
        have b25 : (0 : Int) ≤ iI s20 107 ∧ iI s20 107 ≤ 40 := Is20.1 107
        refine z_load_n X (x := x) (show cdA 289 125 = some (.iload_n 1, 1, 0, 0, 0) from rfl) (List.Mem.tail _ (List.Mem.head _)) ?_
        refine z_const X (show cdA 289 126 = some (.iconst 3, 1, 0, 0, 0) from rfl) ?_
        refine z_icmp_le X (t := 147) (show cdA 289 127 = some (.if_icmp .le 20, 3, 5, 0, 0) from rfl) (by decide) ⟨by first | exact p0.1 | omega, by first | exact p0.2 | omega⟩ (by decide) (fun g26 => ?_) (fun g26 => ?_)
        ·
          refine z_load_n X (x := x) (show cdA 289 147 = some (.iload_n 1, 1, 0, 0, 0) from rfl) (List.Mem.tail _ (List.Mem.head _)) ?_
          refine z_if_ne X (t := 158) (show cdA 289 148 = some (.ifCond .ne 10, 3, 1, 0, 0) from rfl) (by decide) ⟨by first | exact p0.1 | omega, by first | exact p0.2 | omega⟩ (fun g27 => ?_) (fun g27 => ?_)
          ·
            refine z_load_n X (x := x) (show cdA 289 158 = some (.iload_n 1, 1, 0, 0, 0) from rfl) (List.Mem.tail _ (List.Mem.head _)) ?_
            refine z_const X (show cdA 289 159 = some (.iconst 1, 1, 0, 0, 0) from rfl) ?_
            refine z_icmp_ne X (t := 172) (show cdA 289 160 = some (.if_icmp .ne 12, 3, 1, 0, 0) from rfl) (by decide) ⟨by first | exact p0.1 | omega, by first | exact p0.2 | omega⟩ (by decide) (fun g28 => ?_) (fun g28 => ?_)
            ·
              refine z_load_n X (x := x) (show cdA 289 172 = some (.iload_n 1, 1, 0, 0, 0) from rfl) (List.Mem.tail _ (List.Mem.head _)) ?_
              refine z_const X (show cdA 289 173 = some (.iconst 2, 1, 0, 0, 0) from rfl) ?_
              refine z_icmp_ne X (t := 185) (show cdA 289 174 = some (.if_icmp .ne 11, 3, 1, 0, 0) from rfl) (by decide) ⟨by first | exact p0.1 | omega, by first | exact p0.2 | omega⟩ (by decide) (fun g29 => ?_) (fun g29 => ?_)
              ·
                refine z_load_n X (x := x21) (show cdA 289 185 = some (.iload_n 3, 1, 0, 0, 0) from rfl) (List.Mem.tail _ (List.Mem.tail _ (List.Mem.head _))) ?_
                refine z_const X (show cdA 289 186 = some (.iconst 5, 1, 0, 0, 0) from rfl) ?_
                refine z_mod X (show cdA 289 187 = some (.irem, 1, 0, 0, 0) from rfl) (by first | exact hs20.2.1.1 | omega) ⟨by first | exact oq_fa4e5087 hs20.2.1.1 | omega, by first | exact oq_240b6eb6 hs20.2.1.2 | omega⟩ (by decide) (by decide) ?_
                exact w_iret X.1 q hRt rfl (ax_d X (show cdA 289 188 = some (.ireturn, 1, 0, 0, 0) from rfl)) (Nat.zero_le _) (Nat.zero_le _) ⟨_, rfl, Is20, Fs20, (x21 % 5), rfl, ⟨by first | exact oq_b00d0c1c | omega, by first | exact oq_3a6ad61a | omega⟩, trivial⟩
              ·
                refine z_load_n X (x := x21) (show cdA 289 177 = some (.iload_n 3, 1, 0, 0, 0) from rfl) (List.Mem.tail _ (List.Mem.tail _ (List.Mem.head _))) ?_
                refine z_const X (show cdA 289 178 = some (.iconst 5, 1, 0, 0, 0) from rfl) ?_
                refine z_quot X (show cdA 289 179 = some (.idiv, 1, 0, 0, 0) from rfl) (by first | exact hs20.2.1.1 | omega) ⟨by first | exact oq_fa4e5087 hs20.2.1.1 | omega, by first | exact oq_240b6eb6 hs20.2.1.2 | omega⟩ (by decide) (by decide) ?_
                refine z_const X (show cdA 289 180 = some (.iconst 5, 1, 0, 0, 0) from rfl) ?_
                refine z_mod X (show cdA 289 181 = some (.irem, 1, 0, 0, 0) from rfl) (by first | exact oq_b34fa872 hs20.2.1.1 | omega) ⟨by first | exact oq_35859962 hs20.2.1.1 | omega, by first | exact oq_74197da2 hs20.2.1.2 | omega⟩ (by decide) (by decide) ?_
                refine z_goto X (t := 188) (show cdA 289 182 = some (.goto 6, 3, 0, 0, 0) from rfl) (by decide) ?_
                exact w_iret X.1 q hRt rfl (ax_d X (show cdA 289 188 = some (.ireturn, 1, 0, 0, 0) from rfl)) (Nat.zero_le _) (Nat.zero_le _) ⟨_, rfl, Is20, Fs20, ((x21 / 5) % 5), rfl, ⟨by first | exact oq_cd11bb7e | omega, by first | exact oq_49813365 | omega⟩, trivial⟩
            ·
              refine z_load_n X (x := x21) (show cdA 289 163 = some (.iload_n 3, 1, 0, 0, 0) from rfl) (List.Mem.tail _ (List.Mem.tail _ (List.Mem.head _))) ?_
              refine z_bipush X (show cdA 289 164 = some (.bipush 25, 2, 0, 0, 25) from rfl) ?_
              refine z_quot X (show cdA 289 166 = some (.idiv, 1, 0, 0, 0) from rfl) (by first | exact hs20.2.1.1 | omega) ⟨by first | exact oq_fa4e5087 hs20.2.1.1 | omega, by first | exact oq_240b6eb6 hs20.2.1.2 | omega⟩ (by decide) (by decide) ?_
              refine z_const X (show cdA 289 167 = some (.iconst 5, 1, 0, 0, 0) from rfl) ?_
              refine z_mod X (show cdA 289 168 = some (.irem, 1, 0, 0, 0) from rfl) (by first | exact oq_fe4d3050 hs20.2.1.1 | omega) ⟨by first | exact oq_e76ffcc2 hs20.2.1.1 | omega, by first | exact oq_41007592 hs20.2.1.2 | omega⟩ (by decide) (by decide) ?_
              refine z_goto X (t := 188) (show cdA 289 169 = some (.goto 19, 3, 0, 0, 0) from rfl) (by decide) ?_
              exact w_iret X.1 q hRt rfl (ax_d X (show cdA 289 188 = some (.ireturn, 1, 0, 0, 0) from rfl)) (Nat.zero_le _) (Nat.zero_le _) ⟨_, rfl, Is20, Fs20, ((x21 / 25) % 5), rfl, ⟨by first | exact oq_60d80e36 | omega, by first | exact oq_9ee02b76 | omega⟩, trivial⟩
          ·
            refine z_load_n X (x := x21) (show cdA 289 151 = some (.iload_n 3, 1, 0, 0, 0) from rfl) (List.Mem.tail _ (List.Mem.tail _ (List.Mem.head _))) ?_
            refine z_bipush X (show cdA 289 152 = some (.bipush 125, 2, 0, 0, 125) from rfl) ?_
            refine z_quot X (show cdA 289 154 = some (.idiv, 1, 0, 0, 0) from rfl) (by first | exact hs20.2.1.1 | omega) ⟨by first | exact oq_fa4e5087 hs20.2.1.1 | omega, by first | exact oq_240b6eb6 hs20.2.1.2 | omega⟩ (by decide) (by decide) ?_
            refine z_goto X (t := 188) (show cdA 289 155 = some (.goto 33, 3, 0, 0, 0) from rfl) (by decide) ?_
            exact w_iret X.1 q hRt rfl (ax_d X (show cdA 289 188 = some (.ireturn, 1, 0, 0, 0) from rfl)) (Nat.zero_le _) (Nat.zero_le _) ⟨_, rfl, Is20, Fs20, (x21 / 125), rfl, ⟨by first | exact oq_2f0adc8d hs20.2.1.1 | omega, by first | exact oq_b0fa4340 hs20.2.1.2 | omega⟩, trivial⟩
        ·
          refine z_load_n X (x := x) (show cdA 289 130 = some (.iload_n 1, 1, 0, 0, 0) from rfl) (List.Mem.tail _ (List.Mem.head _)) ?_
          refine z_const X (show cdA 289 131 = some (.iconst 4, 1, 0, 0, 0) from rfl) ?_
          refine z_icmp_ne X (t := 140) (show cdA 289 132 = some (.if_icmp .ne 8, 3, 1, 0, 0) from rfl) (by decide) ⟨by first | exact p0.1 | omega, by first | exact p0.2 | omega⟩ (by decide) (fun g30 => ?_) (fun g30 => ?_)
          ·
            refine z_aload_n X (x := A 179) (show cdA 289 140 = some (.aload_n 0, 1, 0, 0, 0) from rfl) (List.Mem.head _) ?_
            refine z_load_n X (x := x21) (show cdA 289 141 = some (.iload_n 3, 1, 0, 0, 0) from rfl) (List.Mem.tail _ (List.Mem.tail _ (List.Mem.head _))) ?_
            refine z_const X (show cdA 289 142 = some (.iconst 1, 1, 0, 0, 0) from rfl) ?_
            refine z_callV X 179 (rm := rmN 288) (As := [.int (Int32.ofInt x21), .int (Int32.ofInt 1)]) (st := []) (show cdA 289 143 = some (.invokevirtual 464, 3, 288, 0, 0) from rfl) rfl (by decide) rfl (by rw [E.1, E.2.1, E.2.2.1]; exact k_offOf G Is20 (by first | exact ⟨hs20.2.1.1, hs20.2.1.2⟩ | omega) (by first | exact Or.inr (by decide) | omega)) ⟨by rw [E.2.2.2]; exact (show (rmN 288).frames + 1 ≤ (rmN 289).frames by decide), by rw [E.2.2.2]; exact (show 8 + (mNL (miB 288) + 11) + (rmN 288).locals ≤ (rmN 289).locals by decide), by rw [E.2.2.2]; exact (show 0 + (rmN 288).cells ≤ (rmN 289).cells by decide), by rw [E.2.2.2]; exact (show 0 + (rmN 288).slots ≤ (rmN 289).slots by decide)⟩ (Nat.le_of_ble_eq_true rfl) (fun vv s31 hq => ?_) (fun ee s31 hq => ?_)
            rotate_left
            · obtain ⟨Is31, Fs31, e32, hv, hrs31, hps31⟩ := hq; cases hv
            obtain ⟨Is31, Fs31, e32, hv, hrs31, hps31⟩ := hq
            cases hv
            have Gs31 := fm_ts Fs20 Fs31 (by decide) (by decide)
            have ws31_73 : iI s31 73 = iI s20 73 := fm_i Fs31 (by decide)
            have ws31_107 : iI s31 107 = iI s20 107 := fm_i Fs31 (by decide)
            show WS k 146 [(0, .ref (A 179)), (1, .int (Int32.ofInt x)), (3, .int (Int32.ofInt x21)), (4, .int (Int32.ofInt x22)), (5, .int (Int32.ofInt x23))] [.int (Int32.ofInt e32)] (Wd A dT s31) 0 0
            exact w_iret X.1 q hRt rfl (ax_d X (show cdA 289 146 = some (.ireturn, 1, 0, 0, 0) from rfl)) (Nat.zero_le _) (Nat.zero_le _) ⟨_, rfl, Is31, Gs31, e32, rfl, hrs31, trivial⟩
          ·
            refine z_load X (x := x22) (show cdA 289 135 = some (.iload 4, 2, 0, 0, 0) from rfl) (List.Mem.tail _ (List.Mem.tail _ (List.Mem.tail _ (List.Mem.head _)))) ?_
            refine z_goto X (t := 146) (show cdA 289 137 = some (.goto 9, 3, 0, 0, 0) from rfl) (by decide) ?_
            exact w_iret X.1 q hRt rfl (ax_d X (show cdA 289 146 = some (.ireturn, 1, 0, 0, 0) from rfl)) (Nat.zero_le _) (Nat.zero_le _) ⟨_, rfl, Is20, Fs20, x22, rfl, ⟨by first | exact hs20.2.2.1.1 | omega, by first | exact hs20.2.2.1.2 | omega⟩, trivial⟩
      ·
        refine z_const X (show cdA 289 70 = some (.iconst (-1), 1, 0, 0, 0) from rfl) ?_
        exact w_iret X.1 q hRt rfl (ax_d X (show cdA 289 71 = some (.ireturn, 1, 0, 0, 0) from rfl)) (Nat.zero_le _) (Nat.zero_le _) ⟨_, rfl, Is12, Fs12, (-1), rfl, (by decide), trivial⟩
    ·
      refine z_const X (show cdA 289 27 = some (.iconst 0, 1, 0, 0, 0) from rfl) ?_
      exact w_iret X.1 q hRt rfl (ax_d X (show cdA 289 28 = some (.ireturn, 1, 0, 0, 0) from rfl)) (Nat.zero_le _) (Nat.zero_le _) ⟨_, rfl, Is8, Gs8, 0, rfl, (by decide), trivial⟩
  refine z_if_ne X (t := 19) (show cdA 289 12 = some (.ifCond .ne 7, 3, 1, 0, 0) from rfl) (by decide) hrs4 (fun g33 => ?_) (fun g33 => ?_)
  ·
    refine z_const X (show cdA 289 19 = some (.iconst 0, 1, 0, 0, 0) from rfl) ?_
    exact N6 _ (Or.inl ⟨g33, rfl⟩)
  ·
    refine z_const X (show cdA 289 15 = some (.iconst 1, 1, 0, 0, 0) from rfl) ?_
    refine z_goto X (t := 20) (show cdA 289 16 = some (.goto 4, 3, 0, 0, 0) from rfl) (by decide) ?_
    exact N6 _ (Or.inr (⟨g33, rfl⟩))
theorem k_count (G : GX l s0 D tys a0 dT) (I : Bd s) {x : Int} (p0 : rng x) : CT l s0 D A dT 295 (rmN 295) [.ref (A 179), .int (Int32.ofInt x)] s (fun o t => Bd t ∧ Fm [73] [] s t ∧ ∃ e, o = .inl (some (.int (Int32.ofInt e))) ∧ rng e ∧ (True)) := by
  refine ct_of G (by decide) (Nat.le_of_ble_eq_true rfl) (fun k X E hRt hXt q => ?_)
  show WS k 0 [(0, .ref (A 179)), (1, .int (Int32.ofInt x))] [] _ 0 0
  have F : Fm [73] [] s s := fm_rf _ _ s
  have b1 : (0 : Int) ≤ iI s 73 ∧ iI s 73 ≤ 3 := I.1 73
  have L15 : ∀ (n : Nat) (t : PS) (xv pv hv rv c : Int), Bd t → Fm [73] [] s t → (rng xv ∧ 0 ≤ pv ∧ pv ≤ c ∧ c ≤ 8 ∧ 0 ≤ hv ∧ hv ≤ 0 ∧ 0 ≤ rv ∧ rv ≤ 0) → (8 - c : Int).toNat < n → (∀ (t' : PS) (pv' c' : Int), Bd t' → Fm [73] [] s t' → (rng xv ∧ 0 ≤ pv' ∧ pv' ≤ c' ∧ c' ≤ 8 ∧ 0 ≤ hv ∧ hv ≤ 0 ∧ 0 ≤ rv ∧ rv ≤ 0) → WS k 45 [(0, .ref (A 179)), (1, .int (Int32.ofInt xv)), (2, .int (Int32.ofInt pv')), (3, .int (Int32.ofInt hv)), (4, .int (Int32.ofInt rv)), (5, .int (Int32.ofInt c'))] [] (Wd A dT t') 0 0) → WS k 15 [(0, .ref (A 179)), (1, .int (Int32.ofInt xv)), (2, .int (Int32.ofInt pv)), (3, .int (Int32.ofInt hv)), (4, .int (Int32.ofInt rv)), (5, .int (Int32.ofInt c))] [] (Wd A dT t) 0 0 := by
    intro n
    induction n with
    | zero =>
      intro t xv pv hv rv c I F hi hm kx
      exact absurd hm (Nat.not_lt_zero _)
    | succ n ih =>
      intro t xv pv hv rv c I F hi hm kx
      have b1001 : (0 : Int) ≤ iI t 73 ∧ iI t 73 ≤ 3 := I.1 73
      refine z_load X (x := c) (show cdA 295 15 = some (.iload 5, 2, 0, 0, 0) from rfl) (List.Mem.tail _ (List.Mem.tail _ (List.Mem.tail _ (List.Mem.tail _ (List.Mem.tail _ (List.Mem.head _)))))) ?_
      refine z_bipush X (show cdA 295 17 = some (.bipush 8, 2, 0, 0, 8) from rfl) ?_
      refine z_icmp_ge X (t := 45) (show cdA 295 19 = some (.if_icmp .ge 26, 3, 3, 0, 0) from rfl) (by decide) ⟨by first | exact oq_e001bc0d hi.2.2.1 hi.2.1 | omega, by first | exact oq_d3f5d874 hi.2.2.2.1 | omega⟩ (by decide) (fun g1002 => ?_) (fun g1002 => ?_)
      ·
        refine WS_lv (lv := [(0, .ref (A 179)), (1, .int (Int32.ofInt xv)), (2, .int (Int32.ofInt pv)), (3, .int (Int32.ofInt hv)), (4, .int (Int32.ofInt rv)), (5, .int (Int32.ofInt c))]) (List.forall_mem_cons.mpr ⟨(List.Mem.head _), (List.forall_mem_cons.mpr ⟨(List.Mem.tail _ (List.Mem.head _)), (List.forall_mem_cons.mpr ⟨(List.Mem.tail _ (List.Mem.tail _ (List.Mem.head _))), (List.forall_mem_cons.mpr ⟨(List.Mem.tail _ (List.Mem.tail _ (List.Mem.tail _ (List.Mem.head _)))), (List.forall_mem_cons.mpr ⟨(List.Mem.tail _ (List.Mem.tail _ (List.Mem.tail _ (List.Mem.tail _ (List.Mem.head _))))), (List.forall_mem_cons.mpr ⟨(List.Mem.tail _ (List.Mem.tail _ (List.Mem.tail _ (List.Mem.tail _ (List.Mem.tail _ (List.Mem.head _)))))), (fun q h => absurd h List.not_mem_nil)⟩)⟩)⟩)⟩)⟩)⟩) ?_
        exact kx _ pv c I F (by first | exact ⟨And.intro (hi.1.1) (hi.1.2), hi.2.1, hi.2.2.1, hi.2.2.2.1, hi.2.2.2.2.1, hi.2.2.2.2.2.1, hi.2.2.2.2.2.2.1, hi.2.2.2.2.2.2.2⟩ | omega)
      ·
        refine z_load_n X (x := pv) (show cdA 295 22 = some (.iload_n 2, 1, 0, 0, 0) from rfl) (List.Mem.tail _ (List.Mem.tail _ (List.Mem.head _))) ?_
        refine z_aload_n X (x := A 179) (show cdA 295 23 = some (.aload_n 0, 1, 0, 0, 0) from rfl) (List.Mem.head _) ?_
        refine z_load X (x := c) (show cdA 295 24 = some (.iload 5, 2, 0, 0, 0) from rfl) (List.Mem.tail _ (List.Mem.tail _ (List.Mem.tail _ (List.Mem.tail _ (List.Mem.tail _ (List.Mem.head _)))))) ?_
        refine z_callV X 179 (rm := rmN 233) (As := [.int (Int32.ofInt c)]) (st := [.int (Int32.ofInt pv)]) (show cdA 295 26 = some (.invokevirtual 351, 3, 233, 0, 0) from rfl) rfl (by decide) rfl (by rw [E.1, E.2.1, E.2.2.1]; exact k_hasCells G I (by first | exact ⟨oq_e001bc0d hi.2.2.1 hi.2.1, oq_7bea7075 g1002⟩ | omega)) ⟨by rw [E.2.2.2]; exact (show (rmN 233).frames + 1 ≤ (rmN 295).frames by decide), by rw [E.2.2.2]; exact (show 8 + (mNL (miB 233) + 11) + (rmN 233).locals ≤ (rmN 295).locals by decide), by rw [E.2.2.2]; exact (show 0 + (rmN 233).cells ≤ (rmN 295).cells by decide), by rw [E.2.2.2]; exact (show 0 + (rmN 233).slots ≤ (rmN 295).slots by decide)⟩ (Nat.le_of_ble_eq_true rfl) (fun vv s1003 hq => ?_) (fun ee s1003 hq => ?_)
        rotate_left
        · obtain ⟨Is1003, Fs1003, e1004, hv, hrs1003, hps1003⟩ := hq; cases hv
        obtain ⟨Is1003, Fs1003, e1004, hv, hrs1003, hps1003⟩ := hq
        cases hv
        have Gs1003 := fm_ts F Fs1003 (by decide) (by decide)
        have ws1003_73 : iI s1003 73 = iI t 73 := fm_i Fs1003 (by decide)
        show WS k 29 [(0, .ref (A 179)), (1, .int (Int32.ofInt xv)), (2, .int (Int32.ofInt pv)), (3, .int (Int32.ofInt hv)), (4, .int (Int32.ofInt rv)), (5, .int (Int32.ofInt c))] [.int (Int32.ofInt e1004), .int (Int32.ofInt pv)] (Wd A dT s1003) 0 0
        have N1005 : ∀ e1006 : Int, (((e1004 = 0) ∧ e1006 = 0) ∨ ((e1004 ≠ 0) ∧ e1006 = 1)) → WS k 37 [(0, .ref (A 179)), (1, .int (Int32.ofInt xv)), (2, .int (Int32.ofInt pv)), (3, .int (Int32.ofInt hv)), (4, .int (Int32.ofInt rv)), (5, .int (Int32.ofInt c))] [.int (Int32.ofInt e1006), .int (Int32.ofInt pv)] (Wd A dT s1003) 0 0 := by
          intro e1006 he1006
          have re1006 : 0 ≤ e1006 ∧ e1006 ≤ 1 := by omega
          refine z_add X (show cdA 295 37 = some (.iadd, 1, 0, 0, 0) from rfl) ?_
          refine z_store_n X (lv' := [(2, .int (Int32.ofInt (pv + e1006))), (0, .ref (A 179)), (1, .int (Int32.ofInt xv)), (3, .int (Int32.ofInt hv)), (4, .int (Int32.ofInt rv)), (5, .int (Int32.ofInt c))]) (show cdA 295 38 = some (.istore_n 2, 1, 0, 0, 0) from rfl) (by decide) (fun _ h => h) ?_
          refine z_inc X (x := c) (lv' := [(5, .int (Int32.ofInt (c + 1))), (2, .int (Int32.ofInt (pv + e1006))), (0, .ref (A 179)), (1, .int (Int32.ofInt xv)), (3, .int (Int32.ofInt hv)), (4, .int (Int32.ofInt rv))]) (show cdA 295 39 = some (.iinc 5 1, 3, 0, 0, 0) from rfl) (by decide) (List.Mem.tail _ (List.Mem.tail _ (List.Mem.tail _ (List.Mem.tail _ (List.Mem.tail _ (List.Mem.head _)))))) (fun _ h => h) ?_
          refine z_goto X (t := 15) (show cdA 295 42 = some (.goto (-27), 3, 0, 0, 0) from rfl) (by decide) ?_
          refine WS_lv (lv := [(0, .ref (A 179)), (1, .int (Int32.ofInt xv)), (2, .int (Int32.ofInt (pv + e1006))), (3, .int (Int32.ofInt hv)), (4, .int (Int32.ofInt rv)), (5, .int (Int32.ofInt (c + 1)))]) (List.forall_mem_cons.mpr ⟨(List.Mem.tail _ (List.Mem.tail _ (List.Mem.head _))), (List.forall_mem_cons.mpr ⟨(List.Mem.tail _ (List.Mem.tail _ (List.Mem.tail _ (List.Mem.head _)))), (List.forall_mem_cons.mpr ⟨(List.Mem.tail _ (List.Mem.head _)), (List.forall_mem_cons.mpr ⟨(List.Mem.tail _ (List.Mem.tail _ (List.Mem.tail _ (List.Mem.tail _ (List.Mem.head _))))), (List.forall_mem_cons.mpr ⟨(List.Mem.tail _ (List.Mem.tail _ (List.Mem.tail _ (List.Mem.tail _ (List.Mem.tail _ (List.Mem.head _)))))), (List.forall_mem_cons.mpr ⟨(List.Mem.head _), (fun q h => absurd h List.not_mem_nil)⟩)⟩)⟩)⟩)⟩)⟩) ?_
          exact ih _ xv (pv + e1006) hv rv (c + 1) Is1003 Gs1003 (by first | exact ⟨And.intro (hi.1.1) (hi.1.2), oq_dd29f52d hi.2.1 re1006.1, oq_273e42a6 hi.2.2.1 re1006.2, oq_0c7b19c3 g1002, hi.2.2.2.2.1, hi.2.2.2.2.2.1, hi.2.2.2.2.2.2.1, hi.2.2.2.2.2.2.2⟩ | omega) (by first | exact qk_me hm (by decide) (oq_9f368f35 g1002) | omega) kx
        refine z_if_eq X (t := 36) (show cdA 295 29 = some (.ifCond .eq 7, 3, 0, 0, 0) from rfl) (by decide) hrs1003 (fun g1007 => ?_) (fun g1007 => ?_)
        ·
          refine z_const X (show cdA 295 36 = some (.iconst 0, 1, 0, 0, 0) from rfl) ?_
          exact N1005 _ (Or.inl ⟨g1007, rfl⟩)
        ·
          refine z_const X (show cdA 295 32 = some (.iconst 1, 1, 0, 0, 0) from rfl) ?_
          refine z_goto X (t := 37) (show cdA 295 33 = some (.goto 4, 3, 0, 0, 0) from rfl) (by decide) ?_
          exact N1005 _ (Or.inr (⟨g1007, rfl⟩))
  have L48 : ∀ (n : Nat) (t : PS) (xv pv hv rv c : Int), Bd t → Fm [73] [] s t → (rng xv ∧ 0 ≤ pv ∧ pv ≤ 8 ∧ 0 ≤ hv ∧ hv ≤ c ∧ 0 ≤ rv ∧ rv ≤ c ∧ c ≤ 128) → (128 - c : Int).toNat < n → (∀ (t' : PS) (hv' rv' c' : Int), Bd t' → Fm [73] [] s t' → (rng xv ∧ 0 ≤ pv ∧ pv ≤ 8 ∧ 0 ≤ hv' ∧ hv' ≤ c' ∧ 0 ≤ rv' ∧ rv' ≤ c' ∧ c' ≤ 128) → WS k 101 [(0, .ref (A 179)), (1, .int (Int32.ofInt xv)), (2, .int (Int32.ofInt pv)), (3, .int (Int32.ofInt hv')), (4, .int (Int32.ofInt rv')), (5, .int (Int32.ofInt c'))] [] (Wd A dT t') 0 0) → WS k 48 [(0, .ref (A 179)), (1, .int (Int32.ofInt xv)), (2, .int (Int32.ofInt pv)), (3, .int (Int32.ofInt hv)), (4, .int (Int32.ofInt rv)), (5, .int (Int32.ofInt c))] [] (Wd A dT t) 0 0 := by
    intro n
    induction n with
    | zero =>
      intro t xv pv hv rv c I F hi hm kx
      exact absurd hm (Nat.not_lt_zero _)
    | succ n ih =>
      intro t xv pv hv rv c I F hi hm kx
      have b2001 : (0 : Int) ≤ iI t 73 ∧ iI t 73 ≤ 3 := I.1 73
      refine z_load X (x := c) (show cdA 295 48 = some (.iload 5, 2, 0, 0, 0) from rfl) (List.Mem.tail _ (List.Mem.tail _ (List.Mem.tail _ (List.Mem.tail _ (List.Mem.tail _ (List.Mem.head _)))))) ?_
      refine z_sipush X (show cdA 295 50 = some (.sipush 128, 3, 0, 0, 128) from rfl) ?_
      refine z_icmp_ge X (t := 101) (show cdA 295 53 = some (.if_icmp .ge 48, 3, 3, 0, 0) from rfl) (by decide) ⟨by first | exact oq_e001bc0d hi.2.2.2.2.2.2.1 hi.2.2.2.2.2.1 | omega, by first | exact oq_4ee82282 hi.2.2.2.2.2.2.2 | omega⟩ (by decide) (fun g2002 => ?_) (fun g2002 => ?_)
      ·
        refine WS_lv (lv := [(0, .ref (A 179)), (1, .int (Int32.ofInt xv)), (2, .int (Int32.ofInt pv)), (3, .int (Int32.ofInt hv)), (4, .int (Int32.ofInt rv)), (5, .int (Int32.ofInt c))]) (List.forall_mem_cons.mpr ⟨(List.Mem.head _), (List.forall_mem_cons.mpr ⟨(List.Mem.tail _ (List.Mem.head _)), (List.forall_mem_cons.mpr ⟨(List.Mem.tail _ (List.Mem.tail _ (List.Mem.head _))), (List.forall_mem_cons.mpr ⟨(List.Mem.tail _ (List.Mem.tail _ (List.Mem.tail _ (List.Mem.head _)))), (List.forall_mem_cons.mpr ⟨(List.Mem.tail _ (List.Mem.tail _ (List.Mem.tail _ (List.Mem.tail _ (List.Mem.head _))))), (List.forall_mem_cons.mpr ⟨(List.Mem.tail _ (List.Mem.tail _ (List.Mem.tail _ (List.Mem.tail _ (List.Mem.tail _ (List.Mem.head _)))))), (fun q h => absurd h List.not_mem_nil)⟩)⟩)⟩)⟩)⟩)⟩) ?_
        exact kx _ hv rv c I F (by first | exact ⟨And.intro (hi.1.1) (hi.1.2), hi.2.1, hi.2.2.1, hi.2.2.2.1, hi.2.2.2.2.1, hi.2.2.2.2.2.1, hi.2.2.2.2.2.2.1, hi.2.2.2.2.2.2.2⟩ | omega)
      ·
        refine z_load_n X (x := hv) (show cdA 295 56 = some (.iload_n 3, 1, 0, 0, 0) from rfl) (List.Mem.tail _ (List.Mem.tail _ (List.Mem.tail _ (List.Mem.head _)))) ?_
        refine z_aload_n X (x := A 179) (show cdA 295 57 = some (.aload_n 0, 1, 0, 0, 0) from rfl) (List.Mem.head _) ?_
        refine s_getR X 179 (show cdA 295 58 = some (.getfield 70, 3, 12, 35, 0) from rfl) (by decide) rfl rfl ?_
        refine z_load X (x := c) (show cdA 295 61 = some (.iload 5, 2, 0, 0, 0) from rfl) (List.Mem.tail _ (List.Mem.tail _ (List.Mem.tail _ (List.Mem.tail _ (List.Mem.tail _ (List.Mem.head _)))))) ?_
        refine z_ald X 256 (show cdA 295 63 = some (.iaload, 1, 0, 0, 0) from rfl) (by decide) rfl (by first | exact oq_12a1f9e1 hi.2.2.2.2.2.2.1 hi.2.2.2.2.2.1 | omega) (show c < 128 by first | exact g2002 | omega) (by decide) ?_
        have b2003 : ((-1) : Int) ≤ iC t 228 (c).toNat ∧ iC t 228 (c).toNat ≤ 7 := I.2 228 _ (show (c).toNat < 128 by first | exact oq_afb89947 g2002 | omega)
        refine z_const X (show cdA 295 64 = some (.iconst (-1), 1, 0, 0, 0) from rfl) ?_
        have N2004 : ∀ e2005 : Int, ((((iC t 228 (c).toNat) ≠ (-1)) ∧ e2005 = 0) ∨ (((iC t 228 (c).toNat) = (-1)) ∧ e2005 = 1)) → WS k 73 [(0, .ref (A 179)), (1, .int (Int32.ofInt xv)), (2, .int (Int32.ofInt pv)), (3, .int (Int32.ofInt hv)), (4, .int (Int32.ofInt rv)), (5, .int (Int32.ofInt c))] [.int (Int32.ofInt e2005), .int (Int32.ofInt hv)] (Wd A dT t) 0 0 := by
          intro e2005 he2005
          have re2005 : 0 ≤ e2005 ∧ e2005 ≤ 1 := by omega
          refine z_add X (show cdA 295 73 = some (.iadd, 1, 0, 0, 0) from rfl) ?_
          refine z_store_n X (lv' := [(3, .int (Int32.ofInt (hv + e2005))), (0, .ref (A 179)), (1, .int (Int32.ofInt xv)), (2, .int (Int32.ofInt pv)), (4, .int (Int32.ofInt rv)), (5, .int (Int32.ofInt c))]) (show cdA 295 74 = some (.istore_n 3, 1, 0, 0, 0) from rfl) (by decide) (fun _ h => h) ?_
          refine z_load X (x := rv) (show cdA 295 75 = some (.iload 4, 2, 0, 0, 0) from rfl) (List.Mem.tail _ (List.Mem.tail _ (List.Mem.tail _ (List.Mem.tail _ (List.Mem.head _))))) ?_
          refine z_aload_n X (x := A 179) (show cdA 295 77 = some (.aload_n 0, 1, 0, 0, 0) from rfl) (List.Mem.tail _ (List.Mem.head _)) ?_
          refine s_getR X 179 (show cdA 295 78 = some (.getfield 139, 3, 12, 67, 0) from rfl) (by decide) rfl rfl ?_
          refine z_load X (x := c) (show cdA 295 81 = some (.iload 5, 2, 0, 0, 0) from rfl) (List.Mem.tail _ (List.Mem.tail _ (List.Mem.tail _ (List.Mem.tail _ (List.Mem.tail _ (List.Mem.head _)))))) ?_
          refine z_zald X 454 (show cdA 295 83 = some (.baload, 1, 0, 0, 0) from rfl) (by decide) rfl (by first | exact oq_12a1f9e1 hi.2.2.2.2.2.2.1 hi.2.2.2.2.2.1 | omega) (show c < 128 by first | exact g2002 | omega) (by decide) ?_
          have b2006 : (0 : Int) ≤ iC t 399 (c).toNat ∧ iC t 399 (c).toNat ≤ 1 := I.2 399 _ (show (c).toNat < 128 by first | exact oq_afb89947 g2002 | omega)
          have N2007 : ∀ e2008 : Int, ((((iC t 399 (c).toNat) = 0) ∧ e2008 = 0) ∨ (((iC t 399 (c).toNat) ≠ 0) ∧ e2008 = 1)) → WS k 92 [(3, .int (Int32.ofInt (hv + e2005))), (0, .ref (A 179)), (1, .int (Int32.ofInt xv)), (2, .int (Int32.ofInt pv)), (4, .int (Int32.ofInt rv)), (5, .int (Int32.ofInt c))] [.int (Int32.ofInt e2008), .int (Int32.ofInt rv)] (Wd A dT t) 0 0 := by
            intro e2008 he2008
            have re2008 : 0 ≤ e2008 ∧ e2008 ≤ 1 := by omega
            refine z_add X (show cdA 295 92 = some (.iadd, 1, 0, 0, 0) from rfl) ?_
            refine z_store X (lv' := [(4, .int (Int32.ofInt (rv + e2008))), (3, .int (Int32.ofInt (hv + e2005))), (0, .ref (A 179)), (1, .int (Int32.ofInt xv)), (2, .int (Int32.ofInt pv)), (5, .int (Int32.ofInt c))]) (show cdA 295 93 = some (.istore 4, 2, 0, 0, 0) from rfl) (by decide) (fun _ h => h) ?_
            refine z_inc X (x := c) (lv' := [(5, .int (Int32.ofInt (c + 1))), (4, .int (Int32.ofInt (rv + e2008))), (3, .int (Int32.ofInt (hv + e2005))), (0, .ref (A 179)), (1, .int (Int32.ofInt xv)), (2, .int (Int32.ofInt pv))]) (show cdA 295 95 = some (.iinc 5 1, 3, 0, 0, 0) from rfl) (by decide) (List.Mem.tail _ (List.Mem.tail _ (List.Mem.tail _ (List.Mem.tail _ (List.Mem.tail _ (List.Mem.head _)))))) (fun _ h => h) ?_
            refine z_goto X (t := 48) (show cdA 295 98 = some (.goto (-50), 3, 0, 0, 0) from rfl) (by decide) ?_
            refine WS_lv (lv := [(0, .ref (A 179)), (1, .int (Int32.ofInt xv)), (2, .int (Int32.ofInt pv)), (3, .int (Int32.ofInt (hv + e2005))), (4, .int (Int32.ofInt (rv + e2008))), (5, .int (Int32.ofInt (c + 1)))]) (List.forall_mem_cons.mpr ⟨(List.Mem.tail _ (List.Mem.tail _ (List.Mem.tail _ (List.Mem.head _)))), (List.forall_mem_cons.mpr ⟨(List.Mem.tail _ (List.Mem.tail _ (List.Mem.tail _ (List.Mem.tail _ (List.Mem.head _))))), (List.forall_mem_cons.mpr ⟨(List.Mem.tail _ (List.Mem.tail _ (List.Mem.tail _ (List.Mem.tail _ (List.Mem.tail _ (List.Mem.head _)))))), (List.forall_mem_cons.mpr ⟨(List.Mem.tail _ (List.Mem.tail _ (List.Mem.head _))), (List.forall_mem_cons.mpr ⟨(List.Mem.tail _ (List.Mem.head _)), (List.forall_mem_cons.mpr ⟨(List.Mem.head _), (fun q h => absurd h List.not_mem_nil)⟩)⟩)⟩)⟩)⟩)⟩) ?_
            exact ih _ xv pv (hv + e2005) (rv + e2008) (c + 1) I F (by first | exact ⟨And.intro (hi.1.1) (hi.1.2), hi.2.1, hi.2.2.1, oq_dd29f52d hi.2.2.2.1 re2005.1, oq_273e42a6 hi.2.2.2.2.1 re2005.2, oq_dd29f52d hi.2.2.2.2.2.1 re2008.1, oq_273e42a6 hi.2.2.2.2.2.2.1 re2008.2, oq_d2afb425 g2002⟩ | omega) (by first | exact qk_me hm (by decide) (oq_c268b7bd g2002) | omega) kx
          refine z_if_eq X (t := 91) (show cdA 295 84 = some (.ifCond .eq 7, 3, 0, 0, 0) from rfl) (by decide) (rng_to _) (fun g2009 => ?_) (fun g2009 => ?_)
          ·
            refine z_const X (show cdA 295 91 = some (.iconst 0, 1, 0, 0, 0) from rfl) ?_
            exact N2007 _ (Or.inl ⟨g2009, rfl⟩)
          ·
            refine z_const X (show cdA 295 87 = some (.iconst 1, 1, 0, 0, 0) from rfl) ?_
            refine z_goto X (t := 92) (show cdA 295 88 = some (.goto 4, 3, 0, 0, 0) from rfl) (by decide) ?_
            exact N2007 _ (Or.inr (⟨g2009, rfl⟩))
        refine z_icmp_ne X (t := 72) (show cdA 295 65 = some (.if_icmp .ne 7, 3, 1, 0, 0) from rfl) (by decide) (rng_to _) (by decide) (fun g2010 => ?_) (fun g2010 => ?_)
        ·
          refine z_const X (show cdA 295 72 = some (.iconst 0, 1, 0, 0, 0) from rfl) ?_
          exact N2004 _ (Or.inl ⟨g2010, rfl⟩)
        ·
          refine z_const X (show cdA 295 68 = some (.iconst 1, 1, 0, 0, 0) from rfl) ?_
          refine z_goto X (t := 73) (show cdA 295 69 = some (.goto 4, 3, 0, 0, 0) from rfl) (by decide) ?_
          exact N2004 _ (Or.inr (⟨g2010, rfl⟩))
  refine z_aload_n X (x := A 179) (show cdA 295 0 = some (.aload_n 0, 1, 0, 0, 0) from rfl) (List.Mem.head _) ?_
  refine z_const X (show cdA 295 1 = some (.iconst 0, 1, 0, 0, 0) from rfl) ?_
  refine s_putI X 179 (show cdA 295 2 = some (.putfield 172, 3, 12, 0, 0) from rfl) (by decide) rfl rfl (by decide) rfl rfl rfl ?_
  obtain ⟨s2, hs2⟩ : ∃ x0, x0 = uI s 73 (Int32.ofInt 0) := ⟨_, rfl⟩
  rw [← hs2]
  have Is2 : Bd s2 := by rw [hs2]; exact bd_I I (show (0 : Int) ≤ 0 ∧ 0 ≤ 3 by first | exact ⟨by decide, by decide⟩ | omega) (by decide)
  have Fs2 := fm_I (x := Int32.ofInt 0) F (show 73 ∈ _ by decide)
  rw [← hs2] at Fs2
  have vs2 : iI s2 73 = 0 := by rw [hs2]; exact iI_u (by decide)
  refine z_const X (show cdA 295 5 = some (.iconst 0, 1, 0, 0, 0) from rfl) ?_
  refine z_store_n X (lv' := [(2, .int (Int32.ofInt 0)), (0, .ref (A 179)), (1, .int (Int32.ofInt x))]) (show cdA 295 6 = some (.istore_n 2, 1, 0, 0, 0) from rfl) (by decide) (fun _ h => h) ?_
  refine z_const X (show cdA 295 7 = some (.iconst 0, 1, 0, 0, 0) from rfl) ?_
  refine z_store_n X (lv' := [(3, .int (Int32.ofInt 0)), (2, .int (Int32.ofInt 0)), (0, .ref (A 179)), (1, .int (Int32.ofInt x))]) (show cdA 295 8 = some (.istore_n 3, 1, 0, 0, 0) from rfl) (by decide) (fun _ h => h) ?_
  refine z_const X (show cdA 295 9 = some (.iconst 0, 1, 0, 0, 0) from rfl) ?_
  refine z_store X (lv' := [(4, .int (Int32.ofInt 0)), (3, .int (Int32.ofInt 0)), (2, .int (Int32.ofInt 0)), (0, .ref (A 179)), (1, .int (Int32.ofInt x))]) (show cdA 295 10 = some (.istore 4, 2, 0, 0, 0) from rfl) (by decide) (fun _ h => h) ?_
  refine z_const X (show cdA 295 12 = some (.iconst 0, 1, 0, 0, 0) from rfl) ?_
  refine z_store X (lv' := [(5, .int (Int32.ofInt 0)), (4, .int (Int32.ofInt 0)), (3, .int (Int32.ofInt 0)), (2, .int (Int32.ofInt 0)), (0, .ref (A 179)), (1, .int (Int32.ofInt x))]) (show cdA 295 13 = some (.istore 5, 2, 0, 0, 0) from rfl) (by decide) (fun _ h => h) ?_
  refine WS_lv (lv := [(0, .ref (A 179)), (1, .int (Int32.ofInt x)), (2, .int (Int32.ofInt 0)), (3, .int (Int32.ofInt 0)), (4, .int (Int32.ofInt 0)), (5, .int (Int32.ofInt 0))]) (List.forall_mem_cons.mpr ⟨(List.Mem.tail _ (List.Mem.tail _ (List.Mem.tail _ (List.Mem.tail _ (List.Mem.head _))))), (List.forall_mem_cons.mpr ⟨(List.Mem.tail _ (List.Mem.tail _ (List.Mem.tail _ (List.Mem.tail _ (List.Mem.tail _ (List.Mem.head _)))))), (List.forall_mem_cons.mpr ⟨(List.Mem.tail _ (List.Mem.tail _ (List.Mem.tail _ (List.Mem.head _)))), (List.forall_mem_cons.mpr ⟨(List.Mem.tail _ (List.Mem.tail _ (List.Mem.head _))), (List.forall_mem_cons.mpr ⟨(List.Mem.tail _ (List.Mem.head _)), (List.forall_mem_cons.mpr ⟨(List.Mem.head _), (fun q h => absurd h List.not_mem_nil)⟩)⟩)⟩)⟩)⟩)⟩) ?_
  refine L15 ((8 - 0 : Int).toNat + 1) s2 x 0 0 0 0 Is2 Fs2 (by first | exact ⟨And.intro (p0.1) (p0.2), by decide, by decide, by decide, by decide, by decide, by decide, by decide⟩ | omega) (Nat.lt_succ_self _) ?_
  intro s3 x4 x5 Is3 Fs3 hs3
  have b6 : (0 : Int) ≤ iI s3 73 ∧ iI s3 73 ≤ 3 := Is3.1 73
  refine z_const X (show cdA 295 45 = some (.iconst 0, 1, 0, 0, 0) from rfl) ?_
  refine z_store X (lv' := [(5, .int (Int32.ofInt 0)), (0, .ref (A 179)), (1, .int (Int32.ofInt x)), (2, .int (Int32.ofInt x4)), (3, .int (Int32.ofInt 0)), (4, .int (Int32.ofInt 0))]) (show cdA 295 46 = some (.istore 5, 2, 0, 0, 0) from rfl) (by decide) (fun _ h => h) ?_
  refine WS_lv (lv := [(0, .ref (A 179)), (1, .int (Int32.ofInt x)), (2, .int (Int32.ofInt x4)), (3, .int (Int32.ofInt 0)), (4, .int (Int32.ofInt 0)), (5, .int (Int32.ofInt 0))]) (List.forall_mem_cons.mpr ⟨(List.Mem.tail _ (List.Mem.head _)), (List.forall_mem_cons.mpr ⟨(List.Mem.tail _ (List.Mem.tail _ (List.Mem.head _))), (List.forall_mem_cons.mpr ⟨(List.Mem.tail _ (List.Mem.tail _ (List.Mem.tail _ (List.Mem.head _)))), (List.forall_mem_cons.mpr ⟨(List.Mem.tail _ (List.Mem.tail _ (List.Mem.tail _ (List.Mem.tail _ (List.Mem.head _))))), (List.forall_mem_cons.mpr ⟨(List.Mem.tail _ (List.Mem.tail _ (List.Mem.tail _ (List.Mem.tail _ (List.Mem.tail _ (List.Mem.head _)))))), (List.forall_mem_cons.mpr ⟨(List.Mem.head _), (fun q h => absurd h List.not_mem_nil)⟩)⟩)⟩)⟩)⟩)⟩) ?_
  refine L48 ((128 - 0 : Int).toNat + 1) s3 x x4 0 0 0 Is3 Fs3 (by first | exact ⟨And.intro (hs3.1.1) (hs3.1.2), hs3.2.1, oq_fe8b3247 hs3.2.2.1 hs3.2.2.2.1, by decide, by decide, by decide, by decide, by decide⟩ | omega) (Nat.lt_succ_self _) ?_
  intro s7 x8 x9 x10 Is7 Fs7 hs7
  have b11 : (0 : Int) ≤ iI s7 73 ∧ iI s7 73 ≤ 3 := Is7.1 73
  refine z_load_n X (x := x) (show cdA 295 101 = some (.iload_n 1, 1, 0, 0, 0) from rfl) (List.Mem.tail _ (List.Mem.head _)) ?_
  rcases (show x = 0 ∨ x = 1 ∨ x = 2 ∨ x = 3 ∨ x = 4 ∨ x = 5 ∨ x = 6 ∨ x = 7 ∨ x = 8 ∨ x = 9 ∨ (x < 0 ∨ 9 < x) by omega) with gs | gs | gs | gs | gs | gs | gs | gs | gs | gs | gs
  ·
    rw [gs]
    refine w_tabIn X.1 (dflt := 96) (lo := 0) (hi := 9) (offs := #[54, 59, 64, 66, 68, 73, 78, 83, 86, 91]) (len := 54) (off := 54) (t := 156) (ax_d X (show cdA 295 102 = some (.tableswitch 96 0 9 #[54, 59, 64, 66, 68, 73, 78, 83, 86, 91], 54, 0, 0, 0) from rfl)) (by decide) (by decide) (by decide) (by decide) ?_
    refine z_aload_n X (x := A 179) (show cdA 295 156 = some (.aload_n 0, 1, 0, 0, 0) from rfl) (List.Mem.head _) ?_
    refine z_getI X 179 (show cdA 295 157 = some (.getfield 233, 3, 12, 22, 0) from rfl) (by decide) rfl rfl ?_
    have b12 : (0 : Int) ≤ iI s7 90 ∧ iI s7 90 ≤ 12 := Is7.1 90
    exact w_iret X.1 q hRt rfl (ax_d X (show cdA 295 160 = some (.ireturn, 1, 0, 0, 0) from rfl)) (Nat.zero_le _) (Nat.zero_le _) ⟨_, rfl, Is7, Fs7, (iI s7 90), rfl, (rng_to _), trivial⟩
  ·
    rw [gs]
    refine w_tabIn X.1 (dflt := 96) (lo := 0) (hi := 9) (offs := #[54, 59, 64, 66, 68, 73, 78, 83, 86, 91]) (len := 54) (off := 59) (t := 161) (ax_d X (show cdA 295 102 = some (.tableswitch 96 0 9 #[54, 59, 64, 66, 68, 73, 78, 83, 86, 91], 54, 0, 0, 0) from rfl)) (by decide) (by decide) (by decide) (by decide) ?_
    refine z_aload_n X (x := A 179) (show cdA 295 161 = some (.aload_n 0, 1, 0, 0, 0) from rfl) (List.Mem.head _) ?_
    refine z_getI X 179 (show cdA 295 162 = some (.getfield 297, 3, 12, 12, 0) from rfl) (by decide) rfl rfl ?_
    have b13 : (0 : Int) ≤ iI s7 83 ∧ iI s7 83 ≤ 8 := Is7.1 83
    exact w_iret X.1 q hRt rfl (ax_d X (show cdA 295 165 = some (.ireturn, 1, 0, 0, 0) from rfl)) (Nat.zero_le _) (Nat.zero_le _) ⟨_, rfl, Is7, Fs7, (iI s7 83), rfl, (rng_to _), trivial⟩
  ·
    rw [gs]
    refine w_tabIn X.1 (dflt := 96) (lo := 0) (hi := 9) (offs := #[54, 59, 64, 66, 68, 73, 78, 83, 86, 91]) (len := 54) (off := 64) (t := 166) (ax_d X (show cdA 295 102 = some (.tableswitch 96 0 9 #[54, 59, 64, 66, 68, 73, 78, 83, 86, 91], 54, 0, 0, 0) from rfl)) (by decide) (by decide) (by decide) (by decide) ?_
    refine z_load_n X (x := x4) (show cdA 295 166 = some (.iload_n 2, 1, 0, 0, 0) from rfl) (List.Mem.tail _ (List.Mem.tail _ (List.Mem.head _))) ?_
    exact w_iret X.1 q hRt rfl (ax_d X (show cdA 295 167 = some (.ireturn, 1, 0, 0, 0) from rfl)) (Nat.zero_le _) (Nat.zero_le _) ⟨_, rfl, Is7, Fs7, x4, rfl, ⟨by first | exact oq_fa4e5087 hs7.2.1 | omega, by first | exact oq_d3f5d874 hs7.2.2.1 | omega⟩, trivial⟩
  ·
    rw [gs]
    refine w_tabIn X.1 (dflt := 96) (lo := 0) (hi := 9) (offs := #[54, 59, 64, 66, 68, 73, 78, 83, 86, 91]) (len := 54) (off := 66) (t := 168) (ax_d X (show cdA 295 102 = some (.tableswitch 96 0 9 #[54, 59, 64, 66, 68, 73, 78, 83, 86, 91], 54, 0, 0, 0) from rfl)) (by decide) (by decide) (by decide) (by decide) ?_
    refine z_load_n X (x := x8) (show cdA 295 168 = some (.iload_n 3, 1, 0, 0, 0) from rfl) (List.Mem.tail _ (List.Mem.tail _ (List.Mem.tail _ (List.Mem.head _)))) ?_
    exact w_iret X.1 q hRt rfl (ax_d X (show cdA 295 169 = some (.ireturn, 1, 0, 0, 0) from rfl)) (Nat.zero_le _) (Nat.zero_le _) ⟨_, rfl, Is7, Fs7, x8, rfl, ⟨by first | exact oq_fa4e5087 hs7.2.2.2.1 | omega, by first | exact oq_9eb6cd9c hs7.2.2.2.2.1 hs7.2.2.2.2.2.2.2 | omega⟩, trivial⟩
  ·
    rw [gs]
    refine w_tabIn X.1 (dflt := 96) (lo := 0) (hi := 9) (offs := #[54, 59, 64, 66, 68, 73, 78, 83, 86, 91]) (len := 54) (off := 68) (t := 170) (ax_d X (show cdA 295 102 = some (.tableswitch 96 0 9 #[54, 59, 64, 66, 68, 73, 78, 83, 86, 91], 54, 0, 0, 0) from rfl)) (by decide) (by decide) (by decide) (by decide) ?_
    refine z_aload_n X (x := A 179) (show cdA 295 170 = some (.aload_n 0, 1, 0, 0, 0) from rfl) (List.Mem.head _) ?_
    refine z_getI X 179 (show cdA 295 171 = some (.getfield 384, 3, 12, 46, 0) from rfl) (by decide) rfl rfl ?_
    have b14 : (0 : Int) ≤ iI s7 97 ∧ iI s7 97 ≤ 8 := Is7.1 97
    exact w_iret X.1 q hRt rfl (ax_d X (show cdA 295 174 = some (.ireturn, 1, 0, 0, 0) from rfl)) (Nat.zero_le _) (Nat.zero_le _) ⟨_, rfl, Is7, Fs7, (iI s7 97), rfl, (rng_to _), trivial⟩
  ·
    rw [gs]
    refine w_tabIn X.1 (dflt := 96) (lo := 0) (hi := 9) (offs := #[54, 59, 64, 66, 68, 73, 78, 83, 86, 91]) (len := 54) (off := 73) (t := 175) (ax_d X (show cdA 295 102 = some (.tableswitch 96 0 9 #[54, 59, 64, 66, 68, 73, 78, 83, 86, 91], 54, 0, 0, 0) from rfl)) (by decide) (by decide) (by decide) (by decide) ?_
    refine z_aload_n X (x := A 179) (show cdA 295 175 = some (.aload_n 0, 1, 0, 0, 0) from rfl) (List.Mem.head _) ?_
    refine z_getI X 179 (show cdA 295 176 = some (.getfield 404, 3, 12, 48, 0) from rfl) (by decide) rfl rfl ?_
    have b15 : (0 : Int) ≤ iI s7 99 ∧ iI s7 99 ≤ 6 := Is7.1 99
    exact w_iret X.1 q hRt rfl (ax_d X (show cdA 295 179 = some (.ireturn, 1, 0, 0, 0) from rfl)) (Nat.zero_le _) (Nat.zero_le _) ⟨_, rfl, Is7, Fs7, (iI s7 99), rfl, (rng_to _), trivial⟩
  ·
    rw [gs]
    refine w_tabIn X.1 (dflt := 96) (lo := 0) (hi := 9) (offs := #[54, 59, 64, 66, 68, 73, 78, 83, 86, 91]) (len := 54) (off := 78) (t := 180) (ax_d X (show cdA 295 102 = some (.tableswitch 96 0 9 #[54, 59, 64, 66, 68, 73, 78, 83, 86, 91], 54, 0, 0, 0) from rfl)) (by decide) (by decide) (by decide) (by decide) ?_
    refine z_aload_n X (x := A 179) (show cdA 295 180 = some (.aload_n 0, 1, 0, 0, 0) from rfl) (List.Mem.head _) ?_
    refine z_getI X 179 (show cdA 295 181 = some (.getfield 458, 3, 12, 76, 0) from rfl) (by decide) rfl rfl ?_
    have b16 : (0 : Int) ≤ iI s7 107 ∧ iI s7 107 ≤ 40 := Is7.1 107
    exact w_iret X.1 q hRt rfl (ax_d X (show cdA 295 184 = some (.ireturn, 1, 0, 0, 0) from rfl)) (Nat.zero_le _) (Nat.zero_le _) ⟨_, rfl, Is7, Fs7, (iI s7 107), rfl, (rng_to _), trivial⟩
  ·
    rw [gs]
    refine w_tabIn X.1 (dflt := 96) (lo := 0) (hi := 9) (offs := #[54, 59, 64, 66, 68, 73, 78, 83, 86, 91]) (len := 54) (off := 83) (t := 185) (ax_d X (show cdA 295 102 = some (.tableswitch 96 0 9 #[54, 59, 64, 66, 68, 73, 78, 83, 86, 91], 54, 0, 0, 0) from rfl)) (by decide) (by decide) (by decide) (by decide) ?_
    refine z_load X (x := x9) (show cdA 295 185 = some (.iload 4, 2, 0, 0, 0) from rfl) (List.Mem.tail _ (List.Mem.tail _ (List.Mem.tail _ (List.Mem.tail _ (List.Mem.head _))))) ?_
    exact w_iret X.1 q hRt rfl (ax_d X (show cdA 295 187 = some (.ireturn, 1, 0, 0, 0) from rfl)) (Nat.zero_le _) (Nat.zero_le _) ⟨_, rfl, Is7, Fs7, x9, rfl, ⟨by first | exact oq_fa4e5087 hs7.2.2.2.2.2.1 | omega, by first | exact oq_9eb6cd9c hs7.2.2.2.2.2.2.1 hs7.2.2.2.2.2.2.2 | omega⟩, trivial⟩
  ·
    rw [gs]
    refine w_tabIn X.1 (dflt := 96) (lo := 0) (hi := 9) (offs := #[54, 59, 64, 66, 68, 73, 78, 83, 86, 91]) (len := 54) (off := 86) (t := 188) (ax_d X (show cdA 295 102 = some (.tableswitch 96 0 9 #[54, 59, 64, 66, 68, 73, 78, 83, 86, 91], 54, 0, 0, 0) from rfl)) (by decide) (by decide) (by decide) (by decide) ?_
    refine z_aload_n X (x := A 179) (show cdA 295 188 = some (.aload_n 0, 1, 0, 0, 0) from rfl) (List.Mem.head _) ?_
    refine z_getI X 179 (show cdA 295 189 = some (.getfield 468, 3, 12, 47, 0) from rfl) (by decide) rfl rfl ?_
    have b17 : (0 : Int) ≤ iI s7 98 ∧ iI s7 98 ≤ 4 := Is7.1 98
    exact w_iret X.1 q hRt rfl (ax_d X (show cdA 295 192 = some (.ireturn, 1, 0, 0, 0) from rfl)) (Nat.zero_le _) (Nat.zero_le _) ⟨_, rfl, Is7, Fs7, (iI s7 98), rfl, (rng_to _), trivial⟩
  ·
    rw [gs]
    refine w_tabIn X.1 (dflt := 96) (lo := 0) (hi := 9) (offs := #[54, 59, 64, 66, 68, 73, 78, 83, 86, 91]) (len := 54) (off := 91) (t := 193) (ax_d X (show cdA 295 102 = some (.tableswitch 96 0 9 #[54, 59, 64, 66, 68, 73, 78, 83, 86, 91], 54, 0, 0, 0) from rfl)) (by decide) (by decide) (by decide) (by decide) ?_
    refine z_aload_n X (x := A 179) (show cdA 295 193 = some (.aload_n 0, 1, 0, 0, 0) from rfl) (List.Mem.head _) ?_
    refine z_getI X 179 (show cdA 295 194 = some (.getfield 175, 3, 12, 1, 0) from rfl) (by decide) rfl rfl ?_
    have b18 : (0 : Int) ≤ iI s7 74 ∧ iI s7 74 ≤ 200 := Is7.1 74
    exact w_iret X.1 q hRt rfl (ax_d X (show cdA 295 197 = some (.ireturn, 1, 0, 0, 0) from rfl)) (Nat.zero_le _) (Nat.zero_le _) ⟨_, rfl, Is7, Fs7, (iI s7 74), rfl, (rng_to _), trivial⟩
  ·
    refine w_tabOut X.1 (dflt := 96) (lo := 0) (hi := 9) (offs := #[54, 59, 64, 66, 68, 73, 78, 83, 86, 91]) (len := 54) (t := 198) (ax_d X (show cdA 295 102 = some (.tableswitch 96 0 9 #[54, 59, 64, 66, 68, 73, 78, 83, 86, 91], 54, 0, 0, 0) from rfl)) (by rw [zi ⟨by omega, by omega⟩]; omega) (by decide) ?_
    refine z_const X (show cdA 295 198 = some (.iconst (-1), 1, 0, 0, 0) from rfl) ?_
    exact w_iret X.1 q hRt rfl (ax_d X (show cdA 295 199 = some (.ireturn, 1, 0, 0, 0) from rfl)) (Nat.zero_le _) (Nat.zero_le _) ⟨_, rfl, Is7, Fs7, (-1), rfl, (by decide), trivial⟩
end M38
