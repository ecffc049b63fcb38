/-! The model's findMove: its loops walked by hand; its contract -/
theorem fm_loops {k : kx_T} {ws : va_W} {qt qP bt aP N mc ms ce sl : Nat} {ci : ClassId} {fs : List Value} {fP : Nat → Int32} {K : mb_O → va_W → Prop} {Cn : String} {T : u_T} {ty : Nat → FieldType} {rm : Room}
    (C : kx_ok k) (e7 : kCc k = cX12_findMove) (eN : kN k = 5) (e9 : (kMe k).sig.returnType = none) (q : kx_end k K mc ms) (hce : ce ≤ mc) (hsl : sl ≤ ms) (hmc : mc ≤ (kR k).cells) (hms : ms ≤ (kR k).slots)
    (hc : cl_ok 12 N Cn T ty) (n35 : 35 < N) (l35 : Cond.fieldLink (kOwn k) 70 (T 35).1 (T 35).2.1 (T 35).2.2.1 ∈ gT) (ti : (kTy k)[0]? = some (ci, .int))
    (hst : Cond.static yX12_beside ∈ gT) (cb : cb_ok k 223 yX12_beside cX12_beside 5 (some .int) rm 2) (r1 : rm.cells = 0) (r2 : rm.slots = 0)
    (hM : ∀ c t, c < 128 → t < 6 → ∀ ws, MB (kL k) (kS0 k) (kD k) yX12_beside (.code yX12_beside cX12_beside 5 (some .int)) rm [.int (Int32.ofNat c), .int (Int32.ofNat t)] ws (fun o ws' => o = .inl (some (.int (rB c t))) ∧ ws' = ws))
    (P1 : ws[qt]? = some (bt, .inr (12, fs))) (f35 : fs[35]? = some (.ref aP)) (P3 : ws[qP]? = some (aP, .inl (ci, 128, .inl fP))) (hP : ∀ c, c < 128 → fP c = 0)
    (hgoal : K (.inl none) ws) : WS k 15 [(0, .ref bt), (1, .int (Int32.ofNat 0))] [] ws ce sl := by
  have d : ∀ {pc : Nat} {q : Instr × Nat}, decode cX12_findMove pc = .ok q → decode (kCc k) pc = .ok q := fun h => by rw [e7]; exact h
  have hf : ce + rm.cells ≤ (kR k).cells ∧ sl + rm.slots ≤ (kR k).slots := ⟨by rw [r1]; exact Nat.le_trans hce hmc, by rw [r2]; exact Nat.le_trans hsl hms⟩
  have L1 : ∀ r c, c + r = 128 → WS k 15 [(0, .ref bt), (1, .int (Int32.ofNat c))] [] ws ce sl := by
    intro r
    induction r with
    | zero =>
      intro c hc1
      replace hc1 : c = 128 := hc1
      refine w_iload_n C (i := 1) (x := Int32.ofNat c) (d (by decide +kernel)) (List.Mem.tail _ (List.Mem.head _)) ?_
      refine w_sipush C (n := 128) (z := 128) (d (by decide +kernel)) (by decide) ?_
      refine w_icmp_ge C (off := 106) (t := 125) (d (by decide +kernel)) (by decide) (fun g => ?_) (fun g => ?_)
      ·
        exact w_vret C q e9 (d (by decide +kernel)) hce hsl hgoal
      ·
        exact absurd ((on_le (a := 128) (by omega) (by omega)).mpr (by omega)) g
    | succ r ih =>
      intro c hc1
      have hc2 : c < 128 := by omega
      have hp1 : fP (Int32.ofNat c).toNatClampNeg = 0 := by rw [on_cl (by omega)]; exact hP c hc2
      refine w_iload_n C (i := 1) (x := Int32.ofNat c) (d (by decide +kernel)) (List.Mem.tail _ (List.Mem.head _)) ?_
      refine w_sipush C (n := 128) (z := 128) (d (by decide +kernel)) (by decide) ?_
      refine w_icmp_ge C (off := 106) (t := 125) (d (by decide +kernel)) (by decide) (fun g => ?_) (fun g => ?_)
      ·
        exact absurd ((on_le (a := 128) (by omega) (by omega)).mp g) (by omega)
      ·
        clear g
        suffices L2 : ∀ u p, p + u = 8 → WS k 24 [(0, .ref bt), (1, .int (Int32.ofNat c)), (2, .int (Int32.ofNat p))] [] ws ce sl by
          refine w_iconst C (n := 0) (d (by decide +kernel)) ?_
          refine w_istore_n C (i := 2) (lv' := [(2, .int (Int32.ofInt 0)), (0, .ref bt), (1, .int (Int32.ofNat c))]) (d (by decide +kernel)) (by rw [eN]; decide) (fun _ h => h) ?_
          exact WS_lv (lv := [(0, .ref bt), (1, .int (Int32.ofNat c)), (2, .int (Int32.ofInt 0))]) (List.forall_mem_cons.mpr ⟨(List.Mem.tail _ (List.Mem.head _)), (List.forall_mem_cons.mpr ⟨(List.Mem.tail _ (List.Mem.tail _ (List.Mem.head _))), (List.forall_mem_cons.mpr ⟨(List.Mem.head _), (fun q h => absurd h List.not_mem_nil)⟩)⟩)⟩) (L2 8 0 rfl)
        intro u
        induction u with
        | zero =>
          intro p hp
          replace hp : p = 8 := hp
          refine w_iload_n C (i := 2) (x := Int32.ofNat p) (d (by decide +kernel)) (List.Mem.tail _ (List.Mem.tail _ (List.Mem.head _))) ?_
          refine w_bipush C (n := 8) (z := 8) (d (by decide +kernel)) (by decide) ?_
          refine w_icmp_ge C (off := 92) (t := 119) (d (by decide +kernel)) (by decide) (fun g => ?_) (fun g => ?_)
          ·
            refine w_iinc C (i := 1) (n := 1) (x := Int32.ofNat c) (lv' := [(1, .int (Int32.ofNat (c + 1))), (0, .ref bt), (2, .int (Int32.ofNat p))]) (d (by decide +kernel)) (by rw [eN]; decide) (List.Mem.tail _ (List.Mem.head _)) (fun _ h => by rw [on_up]; exact h) ?_
            refine w_goto C (off := (-107)) (t := 15) (d (by decide +kernel)) (by decide) ?_
            exact WS_lv (lv := [(0, .ref bt), (1, .int (Int32.ofNat (c + 1)))]) (List.forall_mem_cons.mpr ⟨(List.Mem.tail _ (List.Mem.head _)), (List.forall_mem_cons.mpr ⟨(List.Mem.head _), (fun q h => absurd h List.not_mem_nil)⟩)⟩) (ih (c + 1) (by omega))
          ·
            exact absurd ((on_le (a := 8) (by omega) (by omega)).mpr (by omega)) g
        | succ u iu =>
          intro p hp
          refine w_iload_n C (i := 2) (x := Int32.ofNat p) (d (by decide +kernel)) (List.Mem.tail _ (List.Mem.tail _ (List.Mem.head _))) ?_
          refine w_bipush C (n := 8) (z := 8) (d (by decide +kernel)) (by decide) ?_
          refine w_icmp_ge C (off := 92) (t := 119) (d (by decide +kernel)) (by decide) (fun g => ?_) (fun g => ?_)
          ·
            exact absurd ((on_le (a := 8) (by omega) (by omega)).mp g) (by omega)
          ·
            clear g
            refine w_aload_n C (i := 0) (x := bt) (d (by decide +kernel)) (List.Mem.head _) ?_
            refine w_get C qt hc P1 n35 l35 f35 (d (by decide +kernel)) ?_
            refine w_iload_n C (i := 1) (x := Int32.ofNat c) (d (by decide +kernel)) (List.Mem.tail _ (List.Mem.head _)) ?_
            refine w_iald C qP P3 ti (on_in hc2 (by omega)) (d (by decide +kernel)) ?_
            rw [hp1]
            refine w_iconst C (n := (-1)) (d (by decide +kernel)) ?_
            refine w_icmp_eq C (off := 82) (t := 119) (d (by decide +kernel)) (by decide) (fun g => ?_) (fun g => ?_)
            ·
              exact absurd g (by decide)
            ·
              clear g
              suffices L3 : ∀ y t, t + y = 6 → ∀ is, (is = 0 ∨ (is = 1 ∧ p = 0)) → WS k 45 [(0, .ref bt), (1, .int (Int32.ofNat c)), (2, .int (Int32.ofNat p)), (3, .int is), (4, .int (Int32.ofNat t))] [] ws ce sl by
                refine w_iconst C (n := 0) (d (by decide +kernel)) ?_
                refine w_istore_n C (i := 3) (lv' := [(3, .int (Int32.ofInt 0)), (0, .ref bt), (1, .int (Int32.ofNat c)), (2, .int (Int32.ofNat p))]) (d (by decide +kernel)) (by rw [eN]; decide) (fun _ h => h) ?_
                refine w_iconst C (n := 0) (d (by decide +kernel)) ?_
                refine w_istore C (i := 4) (lv' := [(4, .int (Int32.ofInt 0)), (3, .int (Int32.ofInt 0)), (0, .ref bt), (1, .int (Int32.ofNat c)), (2, .int (Int32.ofNat p))]) (d (by decide +kernel)) (by rw [eN]; decide) (fun _ h => h) ?_
                exact WS_lv (lv := [(0, .ref bt), (1, .int (Int32.ofNat c)), (2, .int (Int32.ofNat p)), (3, .int (Int32.ofInt 0)), (4, .int (Int32.ofInt 0))]) (List.forall_mem_cons.mpr ⟨(List.Mem.tail _ (List.Mem.tail _ (List.Mem.head _))), (List.forall_mem_cons.mpr ⟨(List.Mem.tail _ (List.Mem.tail _ (List.Mem.tail _ (List.Mem.head _)))), (List.forall_mem_cons.mpr ⟨(List.Mem.tail _ (List.Mem.tail _ (List.Mem.tail _ (List.Mem.tail _ (List.Mem.head _))))), (List.forall_mem_cons.mpr ⟨(List.Mem.tail _ (List.Mem.head _)), (List.forall_mem_cons.mpr ⟨(List.Mem.head _), (fun q h => absurd h List.not_mem_nil)⟩)⟩)⟩)⟩)⟩) (L3 6 0 rfl 0 (Or.inl rfl))
              intro y
              induction y with
              | zero =>
                intro t ht is his
                replace ht : t = 6 := ht
                refine w_iload C (i := 4) (x := Int32.ofNat t) (d (by decide +kernel)) (List.Mem.tail _ (List.Mem.tail _ (List.Mem.tail _ (List.Mem.tail _ (List.Mem.head _))))) ?_
                refine w_bipush C (n := 6) (z := 6) (d (by decide +kernel)) (by decide) ?_
                refine w_icmp_ge C (off := 44) (t := 93) (d (by decide +kernel)) (by decide) (fun g => ?_) (fun g => ?_)
                ·
                  rcases his with his | ⟨his, hp0⟩
                  ·
                    subst his
                    refine w_iload_n C (i := 3) (x := 0) (d (by decide +kernel)) (List.Mem.tail _ (List.Mem.tail _ (List.Mem.tail _ (List.Mem.head _)))) ?_
                    refine w_if_eq C (off := 19) (t := 113) (d (by decide +kernel)) (by decide) (fun g => ?_) (fun g => ?_)
                    ·
                      refine w_iinc C (i := 2) (n := 1) (x := Int32.ofNat p) (lv' := [(2, .int (Int32.ofNat (p + 1))), (0, .ref bt), (1, .int (Int32.ofNat c)), (3, .int 0), (4, .int (Int32.ofNat t))]) (d (by decide +kernel)) (by rw [eN]; decide) (List.Mem.tail _ (List.Mem.tail _ (List.Mem.head _))) (fun _ h => by rw [on_up]; exact h) ?_
                      refine w_goto C (off := (-92)) (t := 24) (d (by decide +kernel)) (by decide) ?_
                      exact WS_lv (lv := [(0, .ref bt), (1, .int (Int32.ofNat c)), (2, .int (Int32.ofNat (p + 1)))]) (List.forall_mem_cons.mpr ⟨(List.Mem.tail _ (List.Mem.head _)), (List.forall_mem_cons.mpr ⟨(List.Mem.tail _ (List.Mem.tail _ (List.Mem.head _))), (List.forall_mem_cons.mpr ⟨(List.Mem.head _), (fun q h => absurd h List.not_mem_nil)⟩)⟩)⟩) (iu (p + 1) (by omega))
                    ·
                      exact absurd rfl g
                  ·
                    subst his
                    refine w_iload_n C (i := 3) (x := 1) (d (by decide +kernel)) (List.Mem.tail _ (List.Mem.tail _ (List.Mem.tail _ (List.Mem.head _)))) ?_
                    refine w_if_eq C (off := 19) (t := 113) (d (by decide +kernel)) (by decide) (fun g => ?_) (fun g => ?_)
                    ·
                      exact absurd g (by decide)
                    ·
                      subst hp0
                      refine w_iload_n C (i := 2) (x := Int32.ofNat 0) (d (by decide +kernel)) (List.Mem.tail _ (List.Mem.tail _ (List.Mem.head _))) ?_
                      refine w_aload_n C (i := 0) (x := bt) (d (by decide +kernel)) (List.Mem.head _) ?_
                      refine w_get C qt hc P1 n35 l35 f35 (d (by decide +kernel)) ?_
                      refine w_iload_n C (i := 1) (x := Int32.ofNat c) (d (by decide +kernel)) (List.Mem.tail _ (List.Mem.head _)) ?_
                      refine w_iald C qP P3 ti (on_in hc2 (by omega)) (d (by decide +kernel)) ?_
                      rw [hp1]
                      refine w_icmp_eq C (off := 9) (t := 113) (d (by decide +kernel)) (by decide) (fun g2 => ?_) (fun g2 => ?_)
                      ·
                        refine w_iinc C (i := 2) (n := 1) (x := Int32.ofNat 0) (lv' := [(2, .int (Int32.ofNat (0 + 1))), (0, .ref bt), (1, .int (Int32.ofNat c)), (3, .int 1), (4, .int (Int32.ofNat t))]) (d (by decide +kernel)) (by rw [eN]; decide) (List.Mem.tail _ (List.Mem.tail _ (List.Mem.head _))) (fun _ h => by rw [on_up]; exact h) ?_
                        refine w_goto C (off := (-92)) (t := 24) (d (by decide +kernel)) (by decide) ?_
                        exact WS_lv (lv := [(0, .ref bt), (1, .int (Int32.ofNat c)), (2, .int (Int32.ofNat (0 + 1)))]) (List.forall_mem_cons.mpr ⟨(List.Mem.tail _ (List.Mem.head _)), (List.forall_mem_cons.mpr ⟨(List.Mem.tail _ (List.Mem.tail _ (List.Mem.head _))), (List.forall_mem_cons.mpr ⟨(List.Mem.head _), (fun q h => absurd h List.not_mem_nil)⟩)⟩)⟩) (iu (0 + 1) (by omega))
                      ·
                        exact absurd rfl g2
                ·
                  exact absurd ((on_le (a := 6) (by omega) (by omega)).mpr (by omega)) g
              | succ y iy =>
                intro t ht is his
                refine w_iload C (i := 4) (x := Int32.ofNat t) (d (by decide +kernel)) (List.Mem.tail _ (List.Mem.tail _ (List.Mem.tail _ (List.Mem.tail _ (List.Mem.head _))))) ?_
                refine w_bipush C (n := 6) (z := 6) (d (by decide +kernel)) (by decide) ?_
                refine w_icmp_ge C (off := 44) (t := 93) (d (by decide +kernel)) (by decide) (fun g => ?_) (fun g => ?_)
                ·
                  exact absurd ((on_le (a := 6) (by omega) (by omega)).mp g) (by omega)
                ·
                  clear g
                  rcases his with his | ⟨his, hp0⟩
                  ·
                    subst his
                    refine w_iload_n C (i := 3) (x := 0) (d (by decide +kernel)) (List.Mem.tail _ (List.Mem.tail _ (List.Mem.tail _ (List.Mem.head _)))) ?_
                    refine w_if_ne C (off := 28) (t := 81) (d (by decide +kernel)) (by decide) (fun g => ?_) (fun g => ?_)
                    ·
                      exact absurd rfl g
                    ·
                      clear g
                      refine w_iload_n C (i := 1) (x := Int32.ofNat c) (d (by decide +kernel)) (List.Mem.tail _ (List.Mem.head _)) ?_
                      refine w_iload C (i := 4) (x := Int32.ofNat t) (d (by decide +kernel)) (List.Mem.tail _ (List.Mem.tail _ (List.Mem.tail _ (List.Mem.tail _ (List.Mem.head _))))) ?_
                      refine w_callS (As := [.int (Int32.ofNat c), .int (Int32.ofNat t)]) C cb hst (hM _ _ hc2 (by omega) _) rfl (Nat.le_of_ble_eq_true rfl) hf (d (by decide +kernel)) (fun v ws' hK => ?_) (fun E ws' hK => by cases hK.1)
                      obtain ⟨hv, rfl⟩ := hK
                      cases hv
                      rw [r1, r2]
                      show WS k 62 [(0, .ref bt), (1, .int (Int32.ofNat c)), (2, .int (Int32.ofNat p)), (3, .int 0), (4, .int (Int32.ofNat t))] [.int (rB c t)] ws' ce sl
                      cases hb : bsd c t with
                      | none =>
                        rw [show rB c t = Int32.ofInt (-1) by unfold rB; rw [hb]; rfl]
                        refine w_iconst C (n := (-1)) (d (by decide +kernel)) ?_
                        refine w_icmp_eq C (off := 22) (t := 85) (d (by decide +kernel)) (by decide) (fun g => ?_) (fun g => ?_)
                        ·
                          refine w_iconst C (n := 0) (d (by decide +kernel)) ?_
                          refine w_istore_n C (i := 3) (lv' := [(3, .int (Int32.ofInt 0)), (0, .ref bt), (1, .int (Int32.ofNat c)), (2, .int (Int32.ofNat p)), (4, .int (Int32.ofNat t))]) (d (by decide +kernel)) (by rw [eN]; decide) (fun _ h => h) ?_
                          refine w_iinc C (i := 4) (n := 1) (x := Int32.ofNat t) (lv' := [(4, .int (Int32.ofNat (t + 1))), (3, .int (Int32.ofInt 0)), (0, .ref bt), (1, .int (Int32.ofNat c)), (2, .int (Int32.ofNat p))]) (d (by decide +kernel)) (by rw [eN]; decide) (List.Mem.tail _ (List.Mem.tail _ (List.Mem.tail _ (List.Mem.tail _ (List.Mem.head _))))) (fun _ h => by rw [on_up]; exact h) ?_
                          refine w_goto C (off := (-45)) (t := 45) (d (by decide +kernel)) (by decide) ?_
                          exact WS_lv (lv := [(0, .ref bt), (1, .int (Int32.ofNat c)), (2, .int (Int32.ofNat p)), (3, .int (Int32.ofInt 0)), (4, .int (Int32.ofNat (t + 1)))]) (List.forall_mem_cons.mpr ⟨(List.Mem.tail _ (List.Mem.tail _ (List.Mem.head _))), (List.forall_mem_cons.mpr ⟨(List.Mem.tail _ (List.Mem.tail _ (List.Mem.tail _ (List.Mem.head _)))), (List.forall_mem_cons.mpr ⟨(List.Mem.tail _ (List.Mem.tail _ (List.Mem.tail _ (List.Mem.tail _ (List.Mem.head _))))), (List.forall_mem_cons.mpr ⟨(List.Mem.tail _ (List.Mem.head _)), (List.forall_mem_cons.mpr ⟨(List.Mem.head _), (fun q h => absurd h List.not_mem_nil)⟩)⟩)⟩)⟩)⟩) (iy (t + 1) (by omega) 0 (Or.inl rfl))
                        ·
                          exact absurd rfl g
                      | some e =>
                        have he : e < 128 := bsd_lt hb hc2
                        have er : rB c t = Int32.ofNat e := by unfold rB; rw [hb]
                        rw [er]
                        refine w_iconst C (n := (-1)) (d (by decide +kernel)) ?_
                        refine w_icmp_eq C (off := 22) (t := 85) (d (by decide +kernel)) (by decide) (fun g => ?_) (fun g => ?_)
                        ·
                          exact absurd g (on_n1 (by omega))
                        ·
                          clear g
                          refine w_aload_n C (i := 0) (x := bt) (d (by decide +kernel)) (List.Mem.head _) ?_
                          refine w_get C qt hc P1 n35 l35 f35 (d (by decide +kernel)) ?_
                          refine w_iload_n C (i := 1) (x := Int32.ofNat c) (d (by decide +kernel)) (List.Mem.tail _ (List.Mem.head _)) ?_
                          refine w_iload C (i := 4) (x := Int32.ofNat t) (d (by decide +kernel)) (List.Mem.tail _ (List.Mem.tail _ (List.Mem.tail _ (List.Mem.tail _ (List.Mem.head _))))) ?_
                          refine w_callS (As := [.int (Int32.ofNat c), .int (Int32.ofNat t)]) C cb hst (hM _ _ hc2 (by omega) _) rfl (Nat.le_of_ble_eq_true rfl) hf (d (by decide +kernel)) (fun v ws' hK => ?_) (fun E ws' hK => by cases hK.1)
                          obtain ⟨hv, rfl⟩ := hK
                          cases hv
                          rw [r1, r2]
                          show WS k 76 [(0, .ref bt), (1, .int (Int32.ofNat c)), (2, .int (Int32.ofNat p)), (3, .int 0), (4, .int (Int32.ofNat t))] [.int (rB c t), .ref aP] ws' ce sl
                          rw [er]
                          have hp2 : fP (Int32.ofNat e).toNatClampNeg = 0 := by rw [on_cl (by omega)]; exact hP e he
                          refine w_iald C qP P3 ti (on_in he (by omega)) (d (by decide +kernel)) ?_
                          rw [hp2]
                          refine w_iload_n C (i := 2) (x := Int32.ofNat p) (d (by decide +kernel)) (List.Mem.tail _ (List.Mem.tail _ (List.Mem.head _))) ?_
                          refine w_icmp_ne C (off := 7) (t := 85) (d (by decide +kernel)) (by decide) (fun g => ?_) (fun g => ?_)
                          ·
                            refine w_iconst C (n := 0) (d (by decide +kernel)) ?_
                            refine w_istore_n C (i := 3) (lv' := [(3, .int (Int32.ofInt 0)), (0, .ref bt), (1, .int (Int32.ofNat c)), (2, .int (Int32.ofNat p)), (4, .int (Int32.ofNat t))]) (d (by decide +kernel)) (by rw [eN]; decide) (fun _ h => h) ?_
                            refine w_iinc C (i := 4) (n := 1) (x := Int32.ofNat t) (lv' := [(4, .int (Int32.ofNat (t + 1))), (3, .int (Int32.ofInt 0)), (0, .ref bt), (1, .int (Int32.ofNat c)), (2, .int (Int32.ofNat p))]) (d (by decide +kernel)) (by rw [eN]; decide) (List.Mem.tail _ (List.Mem.tail _ (List.Mem.tail _ (List.Mem.tail _ (List.Mem.head _))))) (fun _ h => by rw [on_up]; exact h) ?_
                            refine w_goto C (off := (-45)) (t := 45) (d (by decide +kernel)) (by decide) ?_
                            exact WS_lv (lv := [(0, .ref bt), (1, .int (Int32.ofNat c)), (2, .int (Int32.ofNat p)), (3, .int (Int32.ofInt 0)), (4, .int (Int32.ofNat (t + 1)))]) (List.forall_mem_cons.mpr ⟨(List.Mem.tail _ (List.Mem.tail _ (List.Mem.head _))), (List.forall_mem_cons.mpr ⟨(List.Mem.tail _ (List.Mem.tail _ (List.Mem.tail _ (List.Mem.head _)))), (List.forall_mem_cons.mpr ⟨(List.Mem.tail _ (List.Mem.tail _ (List.Mem.tail _ (List.Mem.tail _ (List.Mem.head _))))), (List.forall_mem_cons.mpr ⟨(List.Mem.tail _ (List.Mem.head _)), (List.forall_mem_cons.mpr ⟨(List.Mem.head _), (fun q h => absurd h List.not_mem_nil)⟩)⟩)⟩)⟩)⟩) (iy (t + 1) (by omega) 0 (Or.inl rfl))
                          ·
                            have hp0 : p = 0 := by
                              have := congrArg Int32.toInt g
                              rw [on_int (by omega)] at this
                              have e0 : (0 : Int32).toInt = 0 := rfl
                              omega
                            refine w_iconst C (n := 1) (d (by decide +kernel)) ?_
                            refine w_goto C (off := 4) (t := 86) (d (by decide +kernel)) (by decide) ?_
                            refine w_istore_n C (i := 3) (lv' := [(3, .int (Int32.ofInt 1)), (0, .ref bt), (1, .int (Int32.ofNat c)), (2, .int (Int32.ofNat p)), (4, .int (Int32.ofNat t))]) (d (by decide +kernel)) (by rw [eN]; decide) (fun _ h => h) ?_
                            refine w_iinc C (i := 4) (n := 1) (x := Int32.ofNat t) (lv' := [(4, .int (Int32.ofNat (t + 1))), (3, .int (Int32.ofInt 1)), (0, .ref bt), (1, .int (Int32.ofNat c)), (2, .int (Int32.ofNat p))]) (d (by decide +kernel)) (by rw [eN]; decide) (List.Mem.tail _ (List.Mem.tail _ (List.Mem.tail _ (List.Mem.tail _ (List.Mem.head _))))) (fun _ h => by rw [on_up]; exact h) ?_
                            refine w_goto C (off := (-45)) (t := 45) (d (by decide +kernel)) (by decide) ?_
                            exact WS_lv (lv := [(0, .ref bt), (1, .int (Int32.ofNat c)), (2, .int (Int32.ofNat p)), (3, .int (Int32.ofInt 1)), (4, .int (Int32.ofNat (t + 1)))]) (List.forall_mem_cons.mpr ⟨(List.Mem.tail _ (List.Mem.tail _ (List.Mem.head _))), (List.forall_mem_cons.mpr ⟨(List.Mem.tail _ (List.Mem.tail _ (List.Mem.tail _ (List.Mem.head _)))), (List.forall_mem_cons.mpr ⟨(List.Mem.tail _ (List.Mem.tail _ (List.Mem.tail _ (List.Mem.tail _ (List.Mem.head _))))), (List.forall_mem_cons.mpr ⟨(List.Mem.tail _ (List.Mem.head _)), (List.forall_mem_cons.mpr ⟨(List.Mem.head _), (fun q h => absurd h List.not_mem_nil)⟩)⟩)⟩)⟩)⟩) (iy (t + 1) (by omega) 1 (Or.inr ⟨rfl, hp0⟩))
                  ·
                    subst his
                    refine w_iload_n C (i := 3) (x := 1) (d (by decide +kernel)) (List.Mem.tail _ (List.Mem.tail _ (List.Mem.tail _ (List.Mem.head _)))) ?_
                    refine w_if_ne C (off := 28) (t := 81) (d (by decide +kernel)) (by decide) (fun g => ?_) (fun g => ?_)
                    ·
                      refine w_iconst C (n := 1) (d (by decide +kernel)) ?_
                      refine w_goto C (off := 4) (t := 86) (d (by decide +kernel)) (by decide) ?_
                      refine w_istore_n C (i := 3) (lv' := [(3, .int (Int32.ofInt 1)), (0, .ref bt), (1, .int (Int32.ofNat c)), (2, .int (Int32.ofNat p)), (4, .int (Int32.ofNat t))]) (d (by decide +kernel)) (by rw [eN]; decide) (fun _ h => h) ?_
                      refine w_iinc C (i := 4) (n := 1) (x := Int32.ofNat t) (lv' := [(4, .int (Int32.ofNat (t + 1))), (3, .int (Int32.ofInt 1)), (0, .ref bt), (1, .int (Int32.ofNat c)), (2, .int (Int32.ofNat p))]) (d (by decide +kernel)) (by rw [eN]; decide) (List.Mem.tail _ (List.Mem.tail _ (List.Mem.tail _ (List.Mem.tail _ (List.Mem.head _))))) (fun _ h => by rw [on_up]; exact h) ?_
                      refine w_goto C (off := (-45)) (t := 45) (d (by decide +kernel)) (by decide) ?_
                      exact WS_lv (lv := [(0, .ref bt), (1, .int (Int32.ofNat c)), (2, .int (Int32.ofNat p)), (3, .int (Int32.ofInt 1)), (4, .int (Int32.ofNat (t + 1)))]) (List.forall_mem_cons.mpr ⟨(List.Mem.tail _ (List.Mem.tail _ (List.Mem.head _))), (List.forall_mem_cons.mpr ⟨(List.Mem.tail _ (List.Mem.tail _ (List.Mem.tail _ (List.Mem.head _)))), (List.forall_mem_cons.mpr ⟨(List.Mem.tail _ (List.Mem.tail _ (List.Mem.tail _ (List.Mem.tail _ (List.Mem.head _))))), (List.forall_mem_cons.mpr ⟨(List.Mem.tail _ (List.Mem.head _)), (List.forall_mem_cons.mpr ⟨(List.Mem.head _), (fun q h => absurd h List.not_mem_nil)⟩)⟩)⟩)⟩)⟩) (iy (t + 1) (by omega) 1 (Or.inr ⟨rfl, hp0⟩))
                    ·
                      exact absurd g (by decide)
  exact L1 128 0 rfl
/-- one end of costOf, as findMove leaves it -/
def fmE1 (m : Nat) (r : AR) : Option AR := match r with
  | (.inl (some a), w2) => match hGet bsB (wH w2) m with
    | .inr (12, fs2) => match rfA fs2 35 with
      | some qP => match hGet bsB (wH w2) qP with
        | .inl (0, 128, bP) => if Nat.blt m (wH w2).1 && Nat.blt qP (wH w2).1 && zrB bP && Nat.blt 43 fs2.length && aIsI a then some (.inl none, wHp w2 (hSet (wH w2) m (.inr (12, fs2.set 43 a)))) else none
        | _ => none
      | none => none
    | _ => none
  | _ => none
def fmEs (m : Nat) : List AR → Option (List AR)
  | [] => some []
  | r :: t => match fmE1 m r, fmEs m t with
    | some e, some l => some (e :: l)
    | _, _ => none
theorem fmEs_ok {m : Nat} : ∀ {rs l : List AR}, fmEs m rs = some l → ∀ r ∈ rs, ∃ e ∈ l, fmE1 m r = some e
  | [], _, _, r, hr => absurd hr List.not_mem_nil
  | r0 :: t, l, h, r, hr => by
    replace h : (match fmE1 m r0, fmEs m t with
      | some e, some l => some (e :: l)
      | _, _ => none) = some l := h
    split at h
    · rename_i e l' h1 h2
      cases h
      rcases List.mem_cons.mp hr with q | q
      · rw [q]; exact ⟨e, List.mem_cons_self, h1⟩
      · obtain ⟨e', h3, h4⟩ := fmEs_ok h2 r q
        exact ⟨e', List.mem_cons_of_mem _ h3, h4⟩
    · cases h
def fmW (w : AW) (m : Nat) (fs : List AV) : AW := wHp w (hSet (wH w) m (.inr (12, fs.set 41 (aI (-1)))))
noncomputable def ctF (as : List AV) (w : AW) : Option (List AR) := match as with
  | [.inr (.inr (.inr (.inr (.inl (some m)))))] => match hGet bsB (wH w) m with
    | .inr (12, fs) => if Nat.blt m (wH w).1 && Nat.blt 43 fs.length then
        match oMeth cfA (cxM ht0) 58 254 252 [aR (some m)] (fmW w m fs) with
        | some rs => fmEs m rs
        | none => none
      else none
    | _ => none
  | _ => none
/-- a field of an object changed -/
theorem fld_ok {B : Nat → AC} {w : AW} {v : VL} {m i ci : Nat} {fs : List AV} {a : AV} (hw : okW B v w) (hm : m < (wH w).1) (hg : hGet B (wH w) m = .inr (ci, fs)) (ha : scV w a) : okW B v (wHp w (hSet (wH w) m (.inr (ci, fs.set i a)))) := by
  refine ⟨hw.1, fun j hj => ?_, fun j hj => ?_, hw.2.2.2⟩
  · show okC _ (hGet B (hSet (wH w) m _) j)
    rw [hGet_set]
    by_cases e : j = m
    · rw [if_pos e]; trivial
    · rw [if_neg e]; exact hw.2.1 j hj
  · show scC _ (hGet B (hSet (wH w) m _) j)
    rw [hGet_set]
    by_cases e : j = m
    · rw [if_pos e]
      intro y hy
      have h0 := hw.2.2.1 m hm
      rw [hg] at h0
      rcases List.mem_or_eq_of_mem_set hy with q | q
      · exact h0 y q
      · rw [q]; exact ha
    · rw [if_neg e]; exact hw.2.2.1 j hj
theorem fld_cW {B : Nat → AC} {w : AW} {v : VL} {dT : Nat → ClassId} {m i ci : Nat} {fs : List AV} {a : AV} (hm : m < (wH w).1) : (cW v dT B (wH w)).set m (vA v m, .inr (ci, (fs.map (cv v)).set i (cv v a))) = cW v dT B (wH (wHp w (hSet (wH w) m (.inr (ci, fs.set i a))))) := by
  show _ = cW v dT B (hSet (wH w) m _)
  rw [cW_set hm]
  show _ = (cW v dT B (wH w)).set m (vA v m, .inr (ci, (fs.set i a).map (cv v)))
  rw [List.map_set]
section MC
variable {k : kx_T} {dT : Nat → ClassId} {a0 : Array Value} {b L : Nat} {xs : Nat → Int32}
theorem fmR {s0 : State} (hN : ncX s0) : (clX 12 ∧ 35 < (nCl 12).2.1 ∧ Cond.fieldLink (yA 254).cls 70 ((nCl 12).2.2.1 35).1 ((nCl 12).2.2.1 35).2.1 ((nCl 12).2.2.1 35).2.2.1 ∈ gT) ∧
    (Cond.fieldLink (yA 254).cls 369 ((nCl 12).2.2.1 41).1 ((nCl 12).2.2.1 41).2.1 ((nCl 12).2.2.1 41).2.2.1 ∈ gT ∧ Cond.fieldLink (yA 254).cls 372 ((nCl 12).2.2.1 43).1 ((nCl 12).2.2.1 43).2.1 ((nCl 12).2.2.1 43).2.2.1 ∈ gT) ∧
    (Cond.methodLink (yA 254).cls 223 yX12_beside ∈ gT ∧ Cond.static yX12_beside ∈ gT ∧ mtX cx0 yA byA rtA hhA 190 2) ∧
    (Cond.methodLink (yA 254).cls 366 (yA 252) ∈ gT ∧ Cond.instanceMethod (yA 252) ∈ gT ∧ Cond.selects (yA 252).cls (yA 252) (yA 252) ∈ gT ∧ mtX cx0 yA byA rtA hhA 252 0 ∧ ∃ (N : Nat) (T : u_T), vwCl[12]? = some ((yA 252).cls, T, N)) := by
  have g35 : rowQ cx0 yA byA rtA hhA 254 31 (.getfield 70, 3, 12, 35, 0) := (rows_ok (a0 := #[]) hN (by rfl)).1
  have g41 : rowQ cx0 yA byA rtA hhA 254 2 (.putfield 369, 3, 12, 41, 0) := (rows_ok (a0 := #[]) hN (by rfl)).1
  have g43 : rowQ cx0 yA byA rtA hhA 254 10 (.putfield 372, 3, 12, 43, 0) := (rows_ok (a0 := #[]) hN (by rfl)).1
  have gc : rowQ cx0 yA byA rtA hhA 254 59 (.invokestatic 223, 3, 190, 1, 0) := (rows_ok (a0 := #[]) hN (by rfl)).1
  have gv : rowQ cx0 yA byA rtA hhA 254 7 (.invokevirtual 366, 3, 252, 0, 0) := (rows_ok (a0 := #[]) hN (by rfl)).1
  obtain ⟨c1, c2, c3⟩ := g35.2.2
  obtain ⟨-, c4, -⟩ := g41.2.2
  obtain ⟨-, c5, -⟩ := g43.2.2
  obtain ⟨-, v1, v2, v3, n, N, T, v4, v5, v6⟩ := gv.2.2
  have en : n = 0 := by
    have : (1 : Nat) = n + 1 := v5
    omega
  subst en
  refine ⟨⟨c1, c2, c3⟩, ⟨c4, c5⟩, ?_, v1, v2, v3, v4, N, T, v6⟩
  rcases gc.2.2 with ⟨q, -⟩ | ⟨q, -⟩ | ⟨q, -⟩ | ⟨-, -, q1, q2, q3⟩
  · cases q
  · cases q
  · cases q
  · exact ⟨q1, q2, q3⟩
theorem ctF_ok (X : LX k dT a0 b L xs) (h : HT) {v0 : VL} {as : List AV} {w : AW} {rs : List AR} {v : VL} (hc : ctF as w = some rs) (hw : okW bsB v w) (hA : agr wB1 v0 v) (hB : wle wB1 w) : MB (kL k) (kS0 k) (kD k) (yA 254) (cdX (cxM h) yA byA rtA hhA 254) (mRm (xM (cxM h) 254)) (as.map (cv v)) (cW v dT bsB (wH w)) (Kd (cxM h) dT w v rs) := by
  unfold ctF at hc
  split at hc
  · rename_i m
    split at hc
    · rename_i fs hm
      split at hc
      · rename_i hq
        split at hc
        · rename_i rs1 ho
          simp only [Bool.and_eq_true] at hq
          have i1 := Nat.blt_eq.mp hq.1
          have i2 := Nat.blt_eq.mp hq.2
          have hEs := fmEs_ok hc
          have hw1 : okW bsB v (fmW w m fs) := fld_ok hw i1 hm trivial
          have hM := meth_ok (x := cxM ht0) (vP := v0) (fun mn pc f (q : cfA mn pc = some f) => cf_ok q) (PXL X ht0) (fun _ => rfl) (ct_no (h := ht0) rfl) 58 254 252 _ _ _ v ho hw1 hA (fun a ha => by
            rw [List.mem_singleton.mp ha]; exact i1) hB (Nat.le_of_ble_eq_true rfl)
          obtain ⟨⟨c1, c2, c3⟩, ⟨c4, c5⟩, ⟨c6, c7, c8⟩, c9, c10, c11, c12, N2, T2, c13⟩ := fmR X.1.2.2.2.1
          have t0 := X.1.2.2.1 0
          have wm := cW_get (v := v) (dT := dT) (B := bsB) (h := wH w) i1
          rw [hm] at wm
          refine mb_of X.1.2.1 (by decide) (Nat.le_of_ble_eq_true rfl) (fun k' C e1 e2 e3 e4 e5 e6 e7 e8 e9 e10 e11 qe => ?_)
          have d : ∀ {pc : Nat} {q : Instr × Nat}, decode cX12_findMove pc = .ok q → decode (kCc k') pc = .ok q := fun h => by rw [e7]; exact h
          have eN : kN k' = 5 := e8
          show WS k' 0 [(0, .ref (vA v m))] [] _ 0 0
          refine w_aload_n C (i := 0) (x := (vA v m)) (d (by decide +kernel)) (List.Mem.head _) ?_
          refine w_iconst C (n := (-1)) (d (by decide +kernel)) ?_
          refine w_put C (f := 41) m c1 wm (by decide) (by rw [e6]; exact c4) rfl rfl (by rw [List.length_map]; omega) (Or.inl rfl) (d (by decide +kernel)) ?_
          rw [show (cW v dT bsB (wH w)).set m (vA v m, .inr (12, (fs.map (cv v)).set 41 (.int (Int32.ofInt (-1))))) = cW v dT bsB (wH (fmW w m fs)) from fld_cW (a := aI (-1)) i1]
          have wm1 := cW_get (v := v) (dT := dT) (B := bsB) (h := wH (fmW w m fs)) (i := m) i1
          rw [show hGet bsB (wH (fmW w m fs)) m = .inr (12, fs.set 41 (aI (-1))) by show hGet bsB (hSet (wH w) m _) m = _; rw [hGet_set, if_pos rfl]] at wm1
          refine w_aload_n C (i := 0) (x := (vA v m)) (d (by decide +kernel)) (List.Mem.head _) ?_
          refine w_aload_n C (i := 0) (x := (vA v m)) (d (by decide +kernel)) (List.Mem.head _) ?_
          refine w_callV (As := []) (st := [.ref (vA v m)]) (y := yA 252) (rm := mRm (miB 252)) C ⟨by rw [e6]; exact c9, c12.1, c12.2.1, c12.2.2, by rw [e2]; exact (show mFr (miB 252) + 1 ≤ mFr (miB 254) by decide), by rw [e2]; exact (show 8 + (mNL (miB 252) + 11) + mLo (miB 252) ≤ mLo (miB 254) by decide)⟩ c10 c11 (by rw [e1, e3, e4]; exact hM) wm1 c13 rfl (Nat.le_of_ble_eq_true rfl) ⟨by rw [e2]; exact (show 0 + mCe (miB 252) ≤ mCe (miB 254) by decide), by rw [e2]; exact (show 0 + mSl (miB 252) ≤ mSl (miB 254) by decide)⟩ (d (by decide +kernel)) (fun vv ws' hK => ?_) (fun E ws' hK => ?_)
          ·
            obtain ⟨⟨ro, w2⟩, hr, v', a1, a2, a3, a4, a5, a6⟩ := hK
            obtain ⟨e, he, hE⟩ := hEs _ hr
            unfold fmE1 at hE
            split at hE
            · rename_i a w2' heq
              cases heq
              split at hE
              · rename_i fs2 hm2
                split at hE
                · rename_i qP f35
                  have f35 := rfA_ok f35
                  split at hE
                  · rename_i bP gP
                    split at hE
                    · rename_i hq2
                      cases hE
                      simp only [Bool.and_eq_true] at hq2
                      obtain ⟨⟨⟨⟨i3, i4⟩, i5⟩, i6⟩, i7⟩ := hq2
                      have i3 := Nat.blt_eq.mp i3
                      have i4 := Nat.blt_eq.mp i4
                      have i6 := Nat.blt_eq.mp i6
                      have eb : vA v m = vA v' m := a1.2.1 m i1
                      have ea : cv v' a = .int (cZ v' a) := cv_int i7
                      replace a5 : Sum.inl vv = Sum.inl (some (cv v' a)) := a5
                      cases a5
                      replace a3 : okW bsB v' w2 := a3
                      rw [a6, ea, eb]
                      show WS k' 10 [(0, .ref (vA v' m))] [.int (cZ v' a), .ref (vA v' m)] (cW v' dT bsB (wH w2)) (0 + mCe (miB 252)) (0 + mSl (miB 252))
                      have wm2 := cW_get (v := v') (dT := dT) (B := bsB) (h := wH w2) i3
                      rw [hm2] at wm2
                      refine w_put C (f := 43) m c1 wm2 (by decide) (by rw [e6]; exact c5) rfl rfl (by rw [List.length_map]; omega) (Or.inl rfl) (d (by decide +kernel)) ?_
                      rw [← ea, show (cW v' dT bsB (wH w2)).set m (vA v' m, .inr (12, (fs2.map (cv v')).set 43 (cv v' a))) = cW v' dT bsB (wH (wHp w2 (hSet (wH w2) m (.inr (12, fs2.set 43 a))))) from fld_cW i3]
                      have sa : scV w2 a := a4 a rfl
                      have hw3 := fld_ok (i := 43) a3 i3 hm2 sa
                      have j1 : qP ≠ m := fun q => by rw [q, hm2] at gP; cases gP
                      have wm3 := cW_get (v := v') (dT := dT) (B := bsB) (h := wH (wHp w2 (hSet (wH w2) m (.inr (12, fs2.set 43 a))))) (i := m) i3
                      rw [show hGet bsB (wH (wHp w2 (hSet (wH w2) m (.inr (12, fs2.set 43 a))))) m = .inr (12, fs2.set 43 a) by show hGet bsB (hSet (wH w2) m _) m = _; rw [hGet_set, if_pos rfl]] at wm3
                      have wP3 := cW_get (v := v') (dT := dT) (B := bsB) (h := wH (wHp w2 (hSet (wH w2) m (.inr (12, fs2.set 43 a))))) (i := qP) i4
                      rw [show hGet bsB (wH (wHp w2 (hSet (wH w2) m (.inr (12, fs2.set 43 a))))) qP = .inl (0, 128, bP) by show hGet bsB (hSet (wH w2) m _) qP = _; rw [hGet_set, if_neg j1, gP]] at wP3
                      have oP := a3.2.1 qP i4
                      rw [gP] at oP
                      refine w_iconst C (n := 0) (d (by decide +kernel)) ?_
                      refine w_istore_n C (i := 1) (lv' := [(1, .int (Int32.ofInt 0)), (0, .ref (vA v' m))]) (d (by decide +kernel)) (by rw [eN]; decide) (fun _ h => h) ?_
                      refine WS_lv (lv := [(0, .ref (vA v' m)), (1, .int (Int32.ofNat 0))]) (List.forall_mem_cons.mpr ⟨(List.Mem.tail _ (List.Mem.head _)), (List.forall_mem_cons.mpr ⟨(List.Mem.head _), fun q h => absurd h List.not_mem_nil⟩)⟩) ?_
                      refine fm_loops (rm := mRm (miB 190)) (ce := 0 + mCe (miB 252)) (sl := 0 + mSl (miB 252)) (mc := mCe (miB 254)) (ms := mSl (miB 254)) C e7 eN e9 qe (by decide) (by decide) (by rw [e2]; exact Nat.le_refl _) (by rw [e2]; exact Nat.le_refl _) c1 c2 (by rw [e6]; exact c3) (by rw [e5]; exact t0) c7 ⟨by rw [e6]; exact c6, c8.1, c8.2.1, c8.2.2, by rw [e2]; exact (show mFr (miB 190) + 1 ≤ mFr (miB 254) by decide), by rw [e2]; exact (show 8 + (5 + 11) + mLo (miB 190) ≤ mLo (miB 254) by decide)⟩ rfl rfl ?_ wm3 ?_ wP3 ?_ ?_
                      · intro c t h1 h2 ws
                        rw [e1, e3, e4]
                        exact bs_mb X h1 h2 ⟨rfl, rfl⟩
                      · rw [List.getElem?_map, List.getElem?_set_ne (by omega), f35]; rfl
                      · intro c hcc
                        show (if c < 128 then _ else _) = _
                        rw [if_pos hcc]
                        exact zrB_ok i5 oP c hcc
                      · exact ⟨_, he, v', agr_mono a1 (show wle w (fmW w m fs) from wle_rf w), wle_tr (show wle w (fmW w m fs) from wle_rf w) a2, hw3, fun a h => (by cases h), rfl, rfl⟩
                    · cases hE
                  · cases hE
                · cases hE
              · cases hE
            · cases hE
          ·
            obtain ⟨⟨ro, w2⟩, hr, v', a1, a2, a3, a4, a5, a6⟩ := hK
            obtain ⟨e, he, hE⟩ := hEs _ hr
            rcases ro with ro | ro
            · cases a5
            · cases hE
        · cases hc
      · cases hc
    · cases hc
  · cases hc
end MC
