/-! Contracts that say what is answered -/
/-- the law's long -/
def iO (t : PS) : Int := (gD t 460 0).toInt
theorem iO_u {s : PS} {e : Int} (h : rng e) : iO (uD s 460 (0 : Int).toNat (Int32.ofInt e).toInt64) = e := by
  show ((if 460 = 460 then vp_updL (s.2.2.2.1 460) (0 : Int).toNat (Int32.ofInt e).toInt64 else s.2.2.2.1 460) 0).toInt = e
  rw [if_pos rfl]
  show ((if 0 = (0 : Int).toNat then (Int32.ofInt e).toInt64 else s.2.2.2.1 460 0)).toInt = e
  rw [if_pos (by decide), Int32.toInt_toInt64, zi h]
section M87b
variable {l : Launch} {s0 : State} {D : va_G} {tys : List (ClassId × FieldType)} {a0 : Array Value} {A : Nat → Nat} {dT : Nat → ClassId} {s : PS}
theorem cs_mark2 (G : GX l s0 D tys a0 dT) (I : Bd s)  : CT l s0 D A dT 176 (rmN 176) [.ref (A 0)] s (fun o t => Bd t ∧ Fm [20] [25] s t ∧ ∃ e, o = .inl (some (.int (Int32.ofInt e))) ∧ rng e ∧ ((iI s 20 ≤ 3 ∧ iI t 20 = iI s 20 + 1 ∧ e = iI t 20) ∨ (iI s 20 = 4 ∧ iI t 20 = 4 ∧ e = -1))) := by
  refine ct_ofX G (by decide) (Nat.le_of_ble_eq_true rfl) (fun k X E ET hRt hXt q => ?_)
  show WS k 0 [(0, .ref (A 0))] [] _ 0 0
  have F : Fm [20] [25] s s := fm_rf _ _ s
  have b1 : (0 : Int) ≤ iI s 20 ∧ iI s 20 ≤ 4 := I.1 20
  refine z_aload_n X (x := A 0) (show cdA 176 0 = some (.aload_n 0, 1, 0, 0, 0) from rfl) (List.Mem.head _) ?_
  refine s_getR X 0 (show cdA 176 1 = some (.getfield 35, 3, 11, 3, 0) from rfl) (by decide) rfl rfl ?_
  refine z_callV X 25 (rm := rmN 40) (As := []) (st := []) (show cdA 176 4 = some (.invokevirtual 377, 3, 40, 0, 0) from rfl) rfl (by decide) rfl (by rw [E.1, E.2.1, E.2.2.1]; exact c3_keepMark_25 G I ) ⟨by rw [E.2.2.2]; exact (show (rmN 40).frames + 1 ≤ (rmN 176).frames by decide), by rw [E.2.2.2]; exact (show 8 + (mNL (miB 40) + 11) + (rmN 40).locals ≤ (rmN 176).locals by decide), by rw [E.2.2.2]; exact (show 0 + (rmN 40).cells ≤ (rmN 176).cells by decide), by rw [E.2.2.2]; exact (show 0 + (rmN 40).slots ≤ (rmN 176).slots by decide)⟩ (Nat.le_of_ble_eq_true rfl) (fun vv s2 hq => ?_) (fun ee s2 hq => ?_)
  rotate_left
  · obtain ⟨Is2, Fs2, e3, hv, hrs2, hps2⟩ := hq; cases hv
  obtain ⟨Is2, Fs2, e3, hv, hrs2, hps2⟩ := hq
  cases hv
  have Gs2 := fm_ts F Fs2 (by decide) (by decide)
  have b4 : (0 : Int) ≤ iI s2 20 ∧ iI s2 20 ≤ 4 := Is2.1 20
  show WS k 7 [(0, .ref (A 0))] [.int (Int32.ofInt e3)] (Wd A dT s2) 0 0
  exact w_iret X.1 q hRt rfl (ax_d X (show cdA 176 7 = some (.ireturn, 1, 0, 0, 0) from rfl)) (Nat.zero_le _) (Nat.zero_le _) ⟨_, rfl, Is2, Gs2, e3, rfl, ⟨by omega, by omega⟩, by omega⟩
theorem cs_back2 (G : GX l s0 D tys a0 dT) (I : Bd s)  : CT l s0 D A dT 177 (rmN 177) [.ref (A 0)] s (fun o t => Bd t ∧ Fm [20] [21] s t ∧ ∃ e, o = .inl (some (.int (Int32.ofInt e))) ∧ rng e ∧ ((1 ≤ iI s 20 ∧ iI t 20 = iI s 20 - 1 ∧ e = iI t 20) ∨ (iI s 20 = 0 ∧ iI t 20 = 0 ∧ e = -1))) := by
  refine ct_ofX G (by decide) (Nat.le_of_ble_eq_true rfl) (fun k X E ET hRt hXt q => ?_)
  show WS k 0 [(0, .ref (A 0))] [] _ 0 0
  have F : Fm [20] [21] s s := fm_rf _ _ s
  have b1 : (0 : Int) ≤ iI s 20 ∧ iI s 20 ≤ 4 := I.1 20
  refine z_aload_n X (x := A 0) (show cdA 177 0 = some (.aload_n 0, 1, 0, 0, 0) from rfl) (List.Mem.head _) ?_
  refine s_getR X 0 (show cdA 177 1 = some (.getfield 35, 3, 11, 3, 0) from rfl) (by decide) rfl rfl ?_
  refine z_callV X 25 (rm := rmN 41) (As := []) (st := []) (show cdA 177 4 = some (.invokevirtual 380, 3, 41, 0, 0) from rfl) rfl (by decide) rfl (by rw [E.1, E.2.1, E.2.2.1]; exact c3_goBack_25 G I ) ⟨by rw [E.2.2.2]; exact (show (rmN 41).frames + 1 ≤ (rmN 177).frames by decide), by rw [E.2.2.2]; exact (show 8 + (mNL (miB 41) + 11) + (rmN 41).locals ≤ (rmN 177).locals by decide), by rw [E.2.2.2]; exact (show 0 + (rmN 41).cells ≤ (rmN 177).cells by decide), by rw [E.2.2.2]; exact (show 0 + (rmN 41).slots ≤ (rmN 177).slots by decide)⟩ (Nat.le_of_ble_eq_true rfl) (fun vv s2 hq => ?_) (fun ee s2 hq => ?_)
  rotate_left
  · obtain ⟨Is2, Fs2, e3, hv, hrs2, hps2⟩ := hq; cases hv
  obtain ⟨Is2, Fs2, e3, hv, hrs2, hps2⟩ := hq
  cases hv
  have Gs2 := fm_ts F Fs2 (by decide) (by decide)
  have b4 : (0 : Int) ≤ iI s2 20 ∧ iI s2 20 ≤ 4 := Is2.1 20
  show WS k 7 [(0, .ref (A 0))] [.int (Int32.ofInt e3)] (Wd A dT s2) 0 0
  exact w_iret X.1 q hRt rfl (ax_d X (show cdA 177 7 = some (.ireturn, 1, 0, 0, 0) from rfl)) (Nat.zero_le _) (Nat.zero_le _) ⟨_, rfl, Is2, Gs2, e3, rfl, ⟨by omega, by omega⟩, by omega⟩
theorem k_mark2 (G : GX l s0 D tys a0 dT) (I : Bd s)  : CT l s0 D A dT 293 (rmN 293) [.ref (A 179)] s (fun o t => Bd t ∧ Fm [73, 98] [241, 242, 243, 244] s t ∧ ∃ e, o = .inl (some (.int (Int32.ofInt e))) ∧ rng e ∧ ((iI s 98 ≤ 3 ∧ iI t 98 = iI s 98 + 1 ∧ e = iI t 98) ∨ (iI s 98 = 4 ∧ iI t 98 = 4 ∧ e = -1))) := by
  refine ct_of G (by decide) (Nat.le_of_ble_eq_true rfl) (fun k X E hRt hXt q => ?_)
  show WS k 0 [(0, .ref (A 179))] [] _ 0 0
  have F : Fm [73, 98] [241, 242, 243, 244] s s := fm_rf _ _ s
  have b1 : (0 : Int) ≤ iI s 73 ∧ iI s 73 ≤ 3 := I.1 73
  have b2 : (0 : Int) ≤ iI s 98 ∧ iI s 98 ≤ 4 := I.1 98
  have L17 : ∀ (n : Nat) (t : PS) (c : Int), Bd t → Fm [73, 98] [241, 242, 243, 244] s t → (0 ≤ c ∧ c ≤ 128 ∧ iI t 98 ≤ 3 ∧ iI t 98 = iI s 98) → 128 - c ≤ n → (∀ (t' : PS) (c' : Int), Bd t' → Fm [73, 98] [241, 242, 243, 244] s t' → (0 ≤ c' ∧ c' ≤ 128 ∧ iI t' 98 ≤ 3 ∧ iI t' 98 = iI s 98) → WS k 47 [(0, .ref (A 179)), (1, .int (Int32.ofInt c'))] [] (Wd A dT t') 0 0) → WS k 17 [(0, .ref (A 179)), (1, .int (Int32.ofInt c))] [] (Wd A dT t) 0 0 := by
    intro n
    induction n with
    | zero =>
      intro t c I F hi hm kx
      have b1001 : (0 : Int) ≤ iI t 73 ∧ iI t 73 ≤ 3 := I.1 73
      have b1002 : (0 : Int) ≤ iI t 98 ∧ iI t 98 ≤ 4 := I.1 98
      refine z_load_n X (x := c) (show cdA 293 17 = some (.iload_n 1, 1, 0, 0, 0) from rfl) (List.Mem.tail _ (List.Mem.head _)) ?_
      refine z_sipush X (show cdA 293 18 = some (.sipush 128, 3, 0, 0, 128) from rfl) ?_
      refine z_icmp_ge X (t := 47) (show cdA 293 21 = some (.if_icmp .ge 26, 3, 3, 0, 0) from rfl) (by decide) ⟨by omega, by omega⟩ ⟨by omega, by omega⟩ (fun g1003 => ?_) (fun g1003 => ?_)
      ·
        refine WS_lv (lv := [(0, .ref (A 179)), (1, .int (Int32.ofInt c))]) (List.forall_mem_cons.mpr ⟨(List.Mem.head _), (List.forall_mem_cons.mpr ⟨(List.Mem.tail _ (List.Mem.head _)), (fun q h => absurd h List.not_mem_nil)⟩)⟩) ?_
        exact kx _ c I F (by omega)
      ·
        refine z_aload_n X (x := A 179) (show cdA 293 24 = some (.aload_n 0, 1, 0, 0, 0) from rfl) (List.Mem.head _) ?_
        refine s_getR X 179 (show cdA 293 25 = some (.getfield 113, 3, 12, 58, 0) from rfl) (by decide) rfl rfl ?_
        refine z_aload_n X (x := A 179) (show cdA 293 28 = some (.aload_n 0, 1, 0, 0, 0) from rfl) (List.Mem.head _) ?_
        refine z_getI X 179 (show cdA 293 29 = some (.getfield 468, 3, 12, 47, 0) from rfl) (by decide) rfl rfl ?_
        have b1004 : (0 : Int) ≤ iI t 98 ∧ iI t 98 ≤ 4 := I.1 98
        refine z_aald X rw_269 (show cdA 293 32 = some (.aaload, 1, 0, 0, 0) from rfl) (by omega) (show (iI t 98) < 4 by omega) (by decide) ?_
        refine z_load_n X (x := c) (show cdA 293 33 = some (.iload_n 1, 1, 0, 0, 0) from rfl) (List.Mem.tail _ (List.Mem.head _)) ?_
        refine z_aload_n X (x := A 179) (show cdA 293 34 = some (.aload_n 0, 1, 0, 0, 0) from rfl) (List.Mem.head _) ?_
        refine s_getR X 179 (show cdA 293 35 = some (.getfield 70, 3, 12, 35, 0) from rfl) (by decide) rfl rfl ?_
        refine z_load_n X (x := c) (show cdA 293 38 = some (.iload_n 1, 1, 0, 0, 0) from rfl) (List.Mem.tail _ (List.Mem.head _)) ?_
        refine z_ald X 256 (show cdA 293 39 = some (.iaload, 1, 0, 0, 0) from rfl) (by decide) rfl (by omega) (show c < 128 by omega) (by decide) ?_
        have b1005 : ((-1) : Int) ≤ iC t 228 (c).toNat ∧ iC t 228 (c).toNat ≤ 7 := I.2 228 _ (show (c).toNat < 128 by omega)
        refine z_ast2 X rw_269 (show cdA 293 40 = some (.iastore, 1, 0, 0, 0) from rfl) (show ((iI t 98) : Int).toNat < 4 by omega) (by omega) (show c < 128 by omega) (by decide) ?_
        obtain ⟨s1006, hs1006⟩ : ∃ x0, x0 = uC t (241 + ((iI t 98) : Int).toNat) (c : Int).toNat (Int32.ofInt (iC t 228 (c).toNat)) := ⟨_, rfl⟩
        rw [← hs1006]
        have Is1006 : Bd s1006 := by rw [hs1006]; exact rw_st rw_269 I (show ((iI t 98) : Int).toNat < 4 by omega) (show ((-1) : Int) ≤ (iC t 228 (c).toNat) ∧ (iC t 228 (c).toNat) ≤ 7 by omega) ⟨by omega, by omega⟩
        have Fs1006 := fm_C (i := (c : Int).toNat) (x := Int32.ofInt (iC t 228 (c).toNat)) F ((show ∀ j, j < 4 → 241 + j ∈ _ by decide) ((iI t 98) : Int).toNat (by omega))
        rw [← hs1006] at Fs1006
        have ws1006_73 : iI s1006 73 = iI t 73 := by rw [hs1006]; rfl
        have ws1006_98 : iI s1006 98 = iI t 98 := by rw [hs1006]; rfl
        refine z_inc X (x := c) (lv' := [(1, .int (Int32.ofInt (c + 1))), (0, .ref (A 179))]) (show cdA 293 41 = some (.iinc 1 1, 3, 0, 0, 0) from rfl) (by decide) (List.Mem.tail _ (List.Mem.head _)) (fun _ h => h) ?_
        refine z_goto X (t := 17) (show cdA 293 44 = some (.goto (-27), 3, 0, 0, 0) from rfl) (by decide) ?_
        exfalso
        omega
    | succ n ih =>
      intro t c I F hi hm kx
      have b1001 : (0 : Int) ≤ iI t 73 ∧ iI t 73 ≤ 3 := I.1 73
      have b1002 : (0 : Int) ≤ iI t 98 ∧ iI t 98 ≤ 4 := I.1 98
      refine z_load_n X (x := c) (show cdA 293 17 = some (.iload_n 1, 1, 0, 0, 0) from rfl) (List.Mem.tail _ (List.Mem.head _)) ?_
      refine z_sipush X (show cdA 293 18 = some (.sipush 128, 3, 0, 0, 128) from rfl) ?_
      refine z_icmp_ge X (t := 47) (show cdA 293 21 = some (.if_icmp .ge 26, 3, 3, 0, 0) from rfl) (by decide) ⟨by omega, by omega⟩ ⟨by omega, by omega⟩ (fun g1003 => ?_) (fun g1003 => ?_)
      ·
        refine WS_lv (lv := [(0, .ref (A 179)), (1, .int (Int32.ofInt c))]) (List.forall_mem_cons.mpr ⟨(List.Mem.head _), (List.forall_mem_cons.mpr ⟨(List.Mem.tail _ (List.Mem.head _)), (fun q h => absurd h List.not_mem_nil)⟩)⟩) ?_
        exact kx _ c I F (by omega)
      ·
        refine z_aload_n X (x := A 179) (show cdA 293 24 = some (.aload_n 0, 1, 0, 0, 0) from rfl) (List.Mem.head _) ?_
        refine s_getR X 179 (show cdA 293 25 = some (.getfield 113, 3, 12, 58, 0) from rfl) (by decide) rfl rfl ?_
        refine z_aload_n X (x := A 179) (show cdA 293 28 = some (.aload_n 0, 1, 0, 0, 0) from rfl) (List.Mem.head _) ?_
        refine z_getI X 179 (show cdA 293 29 = some (.getfield 468, 3, 12, 47, 0) from rfl) (by decide) rfl rfl ?_
        have b1004 : (0 : Int) ≤ iI t 98 ∧ iI t 98 ≤ 4 := I.1 98
        refine z_aald X rw_269 (show cdA 293 32 = some (.aaload, 1, 0, 0, 0) from rfl) (by omega) (show (iI t 98) < 4 by omega) (by decide) ?_
        refine z_load_n X (x := c) (show cdA 293 33 = some (.iload_n 1, 1, 0, 0, 0) from rfl) (List.Mem.tail _ (List.Mem.head _)) ?_
        refine z_aload_n X (x := A 179) (show cdA 293 34 = some (.aload_n 0, 1, 0, 0, 0) from rfl) (List.Mem.head _) ?_
        refine s_getR X 179 (show cdA 293 35 = some (.getfield 70, 3, 12, 35, 0) from rfl) (by decide) rfl rfl ?_
        refine z_load_n X (x := c) (show cdA 293 38 = some (.iload_n 1, 1, 0, 0, 0) from rfl) (List.Mem.tail _ (List.Mem.head _)) ?_
        refine z_ald X 256 (show cdA 293 39 = some (.iaload, 1, 0, 0, 0) from rfl) (by decide) rfl (by omega) (show c < 128 by omega) (by decide) ?_
        have b1005 : ((-1) : Int) ≤ iC t 228 (c).toNat ∧ iC t 228 (c).toNat ≤ 7 := I.2 228 _ (show (c).toNat < 128 by omega)
        refine z_ast2 X rw_269 (show cdA 293 40 = some (.iastore, 1, 0, 0, 0) from rfl) (show ((iI t 98) : Int).toNat < 4 by omega) (by omega) (show c < 128 by omega) (by decide) ?_
        obtain ⟨s1006, hs1006⟩ : ∃ x0, x0 = uC t (241 + ((iI t 98) : Int).toNat) (c : Int).toNat (Int32.ofInt (iC t 228 (c).toNat)) := ⟨_, rfl⟩
        rw [← hs1006]
        have Is1006 : Bd s1006 := by rw [hs1006]; exact rw_st rw_269 I (show ((iI t 98) : Int).toNat < 4 by omega) (show ((-1) : Int) ≤ (iC t 228 (c).toNat) ∧ (iC t 228 (c).toNat) ≤ 7 by omega) ⟨by omega, by omega⟩
        have Fs1006 := fm_C (i := (c : Int).toNat) (x := Int32.ofInt (iC t 228 (c).toNat)) F ((show ∀ j, j < 4 → 241 + j ∈ _ by decide) ((iI t 98) : Int).toNat (by omega))
        rw [← hs1006] at Fs1006
        have ws1006_73 : iI s1006 73 = iI t 73 := by rw [hs1006]; rfl
        have ws1006_98 : iI s1006 98 = iI t 98 := by rw [hs1006]; rfl
        refine z_inc X (x := c) (lv' := [(1, .int (Int32.ofInt (c + 1))), (0, .ref (A 179))]) (show cdA 293 41 = some (.iinc 1 1, 3, 0, 0, 0) from rfl) (by decide) (List.Mem.tail _ (List.Mem.head _)) (fun _ h => h) ?_
        refine z_goto X (t := 17) (show cdA 293 44 = some (.goto (-27), 3, 0, 0, 0) from rfl) (by decide) ?_
        refine WS_lv (lv := [(0, .ref (A 179)), (1, .int (Int32.ofInt (c + 1)))]) (List.forall_mem_cons.mpr ⟨(List.Mem.tail _ (List.Mem.head _)), (List.forall_mem_cons.mpr ⟨(List.Mem.head _), (fun q h => absurd h List.not_mem_nil)⟩)⟩) ?_
        exact ih _ (c + 1) Is1006 Fs1006 (by omega) (by omega) kx
  refine z_aload_n X (x := A 179) (show cdA 293 0 = some (.aload_n 0, 1, 0, 0, 0) from rfl) (List.Mem.head _) ?_
  refine z_const X (show cdA 293 1 = some (.iconst 0, 1, 0, 0, 0) from rfl) ?_
  refine s_putI X 179 (show cdA 293 2 = some (.putfield 172, 3, 12, 0, 0) from rfl) (by decide) rfl rfl (by decide) rfl rfl rfl ?_
  obtain ⟨s3, hs3⟩ : ∃ x0, x0 = uI s 73 (Int32.ofInt 0) := ⟨_, rfl⟩
  rw [← hs3]
  have Is3 : Bd s3 := by rw [hs3]; exact bd_I I (show (0 : Int) ≤ 0 ∧ 0 ≤ 3 by omega) ⟨by omega, by omega⟩
  have Fs3 := fm_I (x := Int32.ofInt 0) F (show 73 ∈ _ by decide)
  rw [← hs3] at Fs3
  have vs3 : iI s3 73 = 0 := by rw [hs3]; exact iI_u ⟨by omega, by omega⟩
  have ws3_98 : iI s3 98 = iI s 98 := by rw [hs3]; rfl
  refine z_aload_n X (x := A 179) (show cdA 293 5 = some (.aload_n 0, 1, 0, 0, 0) from rfl) (List.Mem.head _) ?_
  refine z_getI X 179 (show cdA 293 6 = some (.getfield 468, 3, 12, 47, 0) from rfl) (by decide) rfl rfl ?_
  have b4 : (0 : Int) ≤ iI s3 98 ∧ iI s3 98 ≤ 4 := Is3.1 98
  refine z_const X (show cdA 293 9 = some (.iconst 4, 1, 0, 0, 0) from rfl) ?_
  refine z_icmp_ne X (t := 15) (show cdA 293 10 = some (.if_icmp .ne 5, 3, 1, 0, 0) from rfl) (by decide) ⟨by omega, by omega⟩ ⟨by omega, by omega⟩ (fun g5 => ?_) (fun g5 => ?_)
  ·
    refine z_const X (show cdA 293 15 = some (.iconst 0, 1, 0, 0, 0) from rfl) ?_
    refine z_store_n X (lv' := [(1, .int (Int32.ofInt 0)), (0, .ref (A 179))]) (show cdA 293 16 = some (.istore_n 1, 1, 0, 0, 0) from rfl) (by decide) (fun _ h => h) ?_
    refine WS_lv (lv := [(0, .ref (A 179)), (1, .int (Int32.ofInt 0))]) (List.forall_mem_cons.mpr ⟨(List.Mem.tail _ (List.Mem.head _)), (List.forall_mem_cons.mpr ⟨(List.Mem.head _), (fun q h => absurd h List.not_mem_nil)⟩)⟩) ?_
    refine L17 ((128 - 0 : Int)).toNat s3 0 Is3 Fs3 (by omega) (by omega) ?_
    intro s6 x7 Is6 Fs6 hs6
    have b8 : (0 : Int) ≤ iI s6 73 ∧ iI s6 73 ≤ 3 := Is6.1 73
    have b9 : (0 : Int) ≤ iI s6 98 ∧ iI s6 98 ≤ 4 := Is6.1 98
    refine z_aload_n X (x := A 179) (show cdA 293 47 = some (.aload_n 0, 1, 0, 0, 0) from rfl) (List.Mem.head _) ?_
    refine w_dup X.1 (ax_d X (show cdA 293 48 = some (.dup, 1, 0, 0, 0) from rfl)) rfl ?_
    refine z_getI X 179 (show cdA 293 49 = some (.getfield 468, 3, 12, 47, 0) from rfl) (by decide) rfl rfl ?_
    have b10 : (0 : Int) ≤ iI s6 98 ∧ iI s6 98 ≤ 4 := Is6.1 98
    refine z_const X (show cdA 293 52 = some (.iconst 1, 1, 0, 0, 0) from rfl) ?_
    refine z_add X (show cdA 293 53 = some (.iadd, 1, 0, 0, 0) from rfl) ?_
    refine s_putI X 179 (show cdA 293 54 = some (.putfield 468, 3, 12, 47, 0) from rfl) (by decide) rfl rfl (by decide) rfl rfl rfl ?_
    obtain ⟨s11, hs11⟩ : ∃ x0, x0 = uI s6 98 (Int32.ofInt ((iI s6 98) + 1)) := ⟨_, rfl⟩
    rw [← hs11]
    have Is11 : Bd s11 := by rw [hs11]; exact bd_I Is6 (show (0 : Int) ≤ ((iI s6 98) + 1) ∧ ((iI s6 98) + 1) ≤ 4 by omega) ⟨by omega, by omega⟩
    have Fs11 := fm_I (x := Int32.ofInt ((iI s6 98) + 1)) Fs6 (show 98 ∈ _ by decide)
    rw [← hs11] at Fs11
    have vs11 : iI s11 98 = ((iI s6 98) + 1) := by rw [hs11]; exact iI_u ⟨by omega, by omega⟩
    have ws11_73 : iI s11 73 = iI s6 73 := by rw [hs11]; rfl
    refine z_aload_n X (x := A 179) (show cdA 293 57 = some (.aload_n 0, 1, 0, 0, 0) from rfl) (List.Mem.head _) ?_
    refine z_getI X 179 (show cdA 293 58 = some (.getfield 468, 3, 12, 47, 0) from rfl) (by decide) rfl rfl ?_
    have b12 : (0 : Int) ≤ iI s11 98 ∧ iI s11 98 ≤ 4 := Is11.1 98
    exact w_iret X.1 q hRt rfl (ax_d X (show cdA 293 61 = some (.ireturn, 1, 0, 0, 0) from rfl)) (Nat.zero_le _) (Nat.zero_le _) ⟨_, rfl, Is11, Fs11, (iI s11 98), rfl, ⟨by omega, by omega⟩, by omega⟩
  ·
    refine z_const X (show cdA 293 13 = some (.iconst (-1), 1, 0, 0, 0) from rfl) ?_
    exact w_iret X.1 q hRt rfl (ax_d X (show cdA 293 14 = some (.ireturn, 1, 0, 0, 0) from rfl)) (Nat.zero_le _) (Nat.zero_le _) ⟨_, rfl, Is3, Fs3, (-1), rfl, ⟨by omega, by omega⟩, by omega⟩
theorem k_back2 (G : GX l s0 D tys a0 dT) (I : Bd s)  : CT l s0 D A dT 294 (rmN 294) [.ref (A 179)] s (fun o t => Bd t ∧ Fm [73, 98] [228] s t ∧ ∃ e, o = .inl (some (.int (Int32.ofInt e))) ∧ rng e ∧ ((1 ≤ iI s 98 ∧ iI t 98 = iI s 98 - 1 ∧ e = iI t 98) ∨ (iI s 98 = 0 ∧ iI t 98 = 0 ∧ e = -1))) := by
  refine ct_of G (by decide) (Nat.le_of_ble_eq_true rfl) (fun k X E hRt hXt q => ?_)
  show WS k 0 [(0, .ref (A 179))] [] _ 0 0
  have F : Fm [73, 98] [228] s s := fm_rf _ _ s
  have b1 : (0 : Int) ≤ iI s 73 ∧ iI s 73 ≤ 3 := I.1 73
  have b2 : (0 : Int) ≤ iI s 98 ∧ iI s 98 ≤ 4 := I.1 98
  have L26 : ∀ (n : Nat) (t : PS) (c : Int), Bd t → Fm [73, 98] [228] s t → (0 ≤ c ∧ c ≤ 128 ∧ iI t 98 ≤ 3 ∧ 1 ≤ iI s 98 ∧ iI t 98 = iI s 98 - 1) → 128 - c ≤ n → (∀ (t' : PS) (c' : Int), Bd t' → Fm [73, 98] [228] s t' → (0 ≤ c' ∧ c' ≤ 128 ∧ iI t' 98 ≤ 3 ∧ 1 ≤ iI s 98 ∧ iI t' 98 = iI s 98 - 1) → WS k 56 [(0, .ref (A 179)), (1, .int (Int32.ofInt c'))] [] (Wd A dT t') 0 0) → WS k 26 [(0, .ref (A 179)), (1, .int (Int32.ofInt c))] [] (Wd A dT t) 0 0 := by
    intro n
    induction n with
    | zero =>
      intro t c I F hi hm kx
      have b1001 : (0 : Int) ≤ iI t 73 ∧ iI t 73 ≤ 3 := I.1 73
      have b1002 : (0 : Int) ≤ iI t 98 ∧ iI t 98 ≤ 4 := I.1 98
      refine z_load_n X (x := c) (show cdA 294 26 = some (.iload_n 1, 1, 0, 0, 0) from rfl) (List.Mem.tail _ (List.Mem.head _)) ?_
      refine z_sipush X (show cdA 294 27 = some (.sipush 128, 3, 0, 0, 128) from rfl) ?_
      refine z_icmp_ge X (t := 56) (show cdA 294 30 = some (.if_icmp .ge 26, 3, 3, 0, 0) from rfl) (by decide) ⟨by omega, by omega⟩ ⟨by omega, by omega⟩ (fun g1003 => ?_) (fun g1003 => ?_)
      ·
        refine WS_lv (lv := [(0, .ref (A 179)), (1, .int (Int32.ofInt c))]) (List.forall_mem_cons.mpr ⟨(List.Mem.head _), (List.forall_mem_cons.mpr ⟨(List.Mem.tail _ (List.Mem.head _)), (fun q h => absurd h List.not_mem_nil)⟩)⟩) ?_
        exact kx _ c I F (by omega)
      ·
        refine z_aload_n X (x := A 179) (show cdA 294 33 = some (.aload_n 0, 1, 0, 0, 0) from rfl) (List.Mem.head _) ?_
        refine s_getR X 179 (show cdA 294 34 = some (.getfield 70, 3, 12, 35, 0) from rfl) (by decide) rfl rfl ?_
        refine z_load_n X (x := c) (show cdA 294 37 = some (.iload_n 1, 1, 0, 0, 0) from rfl) (List.Mem.tail _ (List.Mem.head _)) ?_
        refine z_aload_n X (x := A 179) (show cdA 294 38 = some (.aload_n 0, 1, 0, 0, 0) from rfl) (List.Mem.head _) ?_
        refine s_getR X 179 (show cdA 294 39 = some (.getfield 113, 3, 12, 58, 0) from rfl) (by decide) rfl rfl ?_
        refine z_aload_n X (x := A 179) (show cdA 294 42 = some (.aload_n 0, 1, 0, 0, 0) from rfl) (List.Mem.head _) ?_
        refine z_getI X 179 (show cdA 294 43 = some (.getfield 468, 3, 12, 47, 0) from rfl) (by decide) rfl rfl ?_
        have b1004 : (0 : Int) ≤ iI t 98 ∧ iI t 98 ≤ 4 := I.1 98
        refine z_aald X rw_269 (show cdA 294 46 = some (.aaload, 1, 0, 0, 0) from rfl) (by omega) (show (iI t 98) < 4 by omega) (by decide) ?_
        refine z_load_n X (x := c) (show cdA 294 47 = some (.iload_n 1, 1, 0, 0, 0) from rfl) (List.Mem.tail _ (List.Mem.head _)) ?_
        refine z_ald2 X rw_269 (show cdA 294 48 = some (.iaload, 1, 0, 0, 0) from rfl) (show ((iI t 98) : Int).toNat < 4 by omega) (by omega) (show c < 128 by omega) (by decide) ?_
        have b1005 : ((-1) : Int) ≤ (iC t (241 + ((iI t 98) : Int).toNat) (c : Int).toNat) ∧ (iC t (241 + ((iI t 98) : Int).toNat) (c : Int).toNat) ≤ 7 := rw_bd rw_269 I (show ((iI t 98) : Int).toNat < 4 by omega) (show (c : Int).toNat < 128 by omega)
        refine z_ast X 256 (show cdA 294 49 = some (.iastore, 1, 0, 0, 0) from rfl) (by decide) rfl (by omega) (show c < 128 by omega) (by decide) ?_
        obtain ⟨s1006, hs1006⟩ : ∃ x0, x0 = uC t 228 (c).toNat (Int32.ofInt (iC t (241 + ((iI t 98) : Int).toNat) (c : Int).toNat)) := ⟨_, rfl⟩
        rw [← hs1006]
        have Is1006 : Bd s1006 := by rw [hs1006]; exact bd_C I (show ((-1) : Int) ≤ (iC t (241 + ((iI t 98) : Int).toNat) (c : Int).toNat) ∧ (iC t (241 + ((iI t 98) : Int).toNat) (c : Int).toNat) ≤ 7 by omega) ⟨by omega, by omega⟩
        have Fs1006 := fm_C (i := (c).toNat) (x := Int32.ofInt (iC t (241 + ((iI t 98) : Int).toNat) (c : Int).toNat)) F (show 228 ∈ _ by decide)
        rw [← hs1006] at Fs1006
        have ws1006_73 : iI s1006 73 = iI t 73 := by rw [hs1006]; rfl
        have ws1006_98 : iI s1006 98 = iI t 98 := by rw [hs1006]; rfl
        refine z_inc X (x := c) (lv' := [(1, .int (Int32.ofInt (c + 1))), (0, .ref (A 179))]) (show cdA 294 50 = some (.iinc 1 1, 3, 0, 0, 0) from rfl) (by decide) (List.Mem.tail _ (List.Mem.head _)) (fun _ h => h) ?_
        refine z_goto X (t := 26) (show cdA 294 53 = some (.goto (-27), 3, 0, 0, 0) from rfl) (by decide) ?_
        exfalso
        omega
    | succ n ih =>
      intro t c I F hi hm kx
      have b1001 : (0 : Int) ≤ iI t 73 ∧ iI t 73 ≤ 3 := I.1 73
      have b1002 : (0 : Int) ≤ iI t 98 ∧ iI t 98 ≤ 4 := I.1 98
      refine z_load_n X (x := c) (show cdA 294 26 = some (.iload_n 1, 1, 0, 0, 0) from rfl) (List.Mem.tail _ (List.Mem.head _)) ?_
      refine z_sipush X (show cdA 294 27 = some (.sipush 128, 3, 0, 0, 128) from rfl) ?_
      refine z_icmp_ge X (t := 56) (show cdA 294 30 = some (.if_icmp .ge 26, 3, 3, 0, 0) from rfl) (by decide) ⟨by omega, by omega⟩ ⟨by omega, by omega⟩ (fun g1003 => ?_) (fun g1003 => ?_)
      ·
        refine WS_lv (lv := [(0, .ref (A 179)), (1, .int (Int32.ofInt c))]) (List.forall_mem_cons.mpr ⟨(List.Mem.head _), (List.forall_mem_cons.mpr ⟨(List.Mem.tail _ (List.Mem.head _)), (fun q h => absurd h List.not_mem_nil)⟩)⟩) ?_
        exact kx _ c I F (by omega)
      ·
        refine z_aload_n X (x := A 179) (show cdA 294 33 = some (.aload_n 0, 1, 0, 0, 0) from rfl) (List.Mem.head _) ?_
        refine s_getR X 179 (show cdA 294 34 = some (.getfield 70, 3, 12, 35, 0) from rfl) (by decide) rfl rfl ?_
        refine z_load_n X (x := c) (show cdA 294 37 = some (.iload_n 1, 1, 0, 0, 0) from rfl) (List.Mem.tail _ (List.Mem.head _)) ?_
        refine z_aload_n X (x := A 179) (show cdA 294 38 = some (.aload_n 0, 1, 0, 0, 0) from rfl) (List.Mem.head _) ?_
        refine s_getR X 179 (show cdA 294 39 = some (.getfield 113, 3, 12, 58, 0) from rfl) (by decide) rfl rfl ?_
        refine z_aload_n X (x := A 179) (show cdA 294 42 = some (.aload_n 0, 1, 0, 0, 0) from rfl) (List.Mem.head _) ?_
        refine z_getI X 179 (show cdA 294 43 = some (.getfield 468, 3, 12, 47, 0) from rfl) (by decide) rfl rfl ?_
        have b1004 : (0 : Int) ≤ iI t 98 ∧ iI t 98 ≤ 4 := I.1 98
        refine z_aald X rw_269 (show cdA 294 46 = some (.aaload, 1, 0, 0, 0) from rfl) (by omega) (show (iI t 98) < 4 by omega) (by decide) ?_
        refine z_load_n X (x := c) (show cdA 294 47 = some (.iload_n 1, 1, 0, 0, 0) from rfl) (List.Mem.tail _ (List.Mem.head _)) ?_
        refine z_ald2 X rw_269 (show cdA 294 48 = some (.iaload, 1, 0, 0, 0) from rfl) (show ((iI t 98) : Int).toNat < 4 by omega) (by omega) (show c < 128 by omega) (by decide) ?_
        have b1005 : ((-1) : Int) ≤ (iC t (241 + ((iI t 98) : Int).toNat) (c : Int).toNat) ∧ (iC t (241 + ((iI t 98) : Int).toNat) (c : Int).toNat) ≤ 7 := rw_bd rw_269 I (show ((iI t 98) : Int).toNat < 4 by omega) (show (c : Int).toNat < 128 by omega)
        refine z_ast X 256 (show cdA 294 49 = some (.iastore, 1, 0, 0, 0) from rfl) (by decide) rfl (by omega) (show c < 128 by omega) (by decide) ?_
        obtain ⟨s1006, hs1006⟩ : ∃ x0, x0 = uC t 228 (c).toNat (Int32.ofInt (iC t (241 + ((iI t 98) : Int).toNat) (c : Int).toNat)) := ⟨_, rfl⟩
        rw [← hs1006]
        have Is1006 : Bd s1006 := by rw [hs1006]; exact bd_C I (show ((-1) : Int) ≤ (iC t (241 + ((iI t 98) : Int).toNat) (c : Int).toNat) ∧ (iC t (241 + ((iI t 98) : Int).toNat) (c : Int).toNat) ≤ 7 by omega) ⟨by omega, by omega⟩
        have Fs1006 := fm_C (i := (c).toNat) (x := Int32.ofInt (iC t (241 + ((iI t 98) : Int).toNat) (c : Int).toNat)) F (show 228 ∈ _ by decide)
        rw [← hs1006] at Fs1006
        have ws1006_73 : iI s1006 73 = iI t 73 := by rw [hs1006]; rfl
        have ws1006_98 : iI s1006 98 = iI t 98 := by rw [hs1006]; rfl
        refine z_inc X (x := c) (lv' := [(1, .int (Int32.ofInt (c + 1))), (0, .ref (A 179))]) (show cdA 294 50 = some (.iinc 1 1, 3, 0, 0, 0) from rfl) (by decide) (List.Mem.tail _ (List.Mem.head _)) (fun _ h => h) ?_
        refine z_goto X (t := 26) (show cdA 294 53 = some (.goto (-27), 3, 0, 0, 0) from rfl) (by decide) ?_
        refine WS_lv (lv := [(0, .ref (A 179)), (1, .int (Int32.ofInt (c + 1)))]) (List.forall_mem_cons.mpr ⟨(List.Mem.tail _ (List.Mem.head _)), (List.forall_mem_cons.mpr ⟨(List.Mem.head _), (fun q h => absurd h List.not_mem_nil)⟩)⟩) ?_
        exact ih _ (c + 1) Is1006 Fs1006 (by omega) (by omega) kx
  refine z_aload_n X (x := A 179) (show cdA 294 0 = some (.aload_n 0, 1, 0, 0, 0) from rfl) (List.Mem.head _) ?_
  refine z_const X (show cdA 294 1 = some (.iconst 0, 1, 0, 0, 0) from rfl) ?_
  refine s_putI X 179 (show cdA 294 2 = some (.putfield 172, 3, 12, 0, 0) from rfl) (by decide) rfl rfl (by decide) rfl rfl rfl ?_
  obtain ⟨s3, hs3⟩ : ∃ x0, x0 = uI s 73 (Int32.ofInt 0) := ⟨_, rfl⟩
  rw [← hs3]
  have Is3 : Bd s3 := by rw [hs3]; exact bd_I I (show (0 : Int) ≤ 0 ∧ 0 ≤ 3 by omega) ⟨by omega, by omega⟩
  have Fs3 := fm_I (x := Int32.ofInt 0) F (show 73 ∈ _ by decide)
  rw [← hs3] at Fs3
  have vs3 : iI s3 73 = 0 := by rw [hs3]; exact iI_u ⟨by omega, by omega⟩
  have ws3_98 : iI s3 98 = iI s 98 := by rw [hs3]; rfl
  refine z_aload_n X (x := A 179) (show cdA 294 5 = some (.aload_n 0, 1, 0, 0, 0) from rfl) (List.Mem.head _) ?_
  refine z_getI X 179 (show cdA 294 6 = some (.getfield 468, 3, 12, 47, 0) from rfl) (by decide) rfl rfl ?_
  have b4 : (0 : Int) ≤ iI s3 98 ∧ iI s3 98 ≤ 4 := Is3.1 98
  refine z_if_ne X (t := 14) (show cdA 294 9 = some (.ifCond .ne 5, 3, 1, 0, 0) from rfl) (by decide) ⟨by omega, by omega⟩ (fun g5 => ?_) (fun g5 => ?_)
  ·
    refine z_aload_n X (x := A 179) (show cdA 294 14 = some (.aload_n 0, 1, 0, 0, 0) from rfl) (List.Mem.head _) ?_
    refine w_dup X.1 (ax_d X (show cdA 294 15 = some (.dup, 1, 0, 0, 0) from rfl)) rfl ?_
    refine z_getI X 179 (show cdA 294 16 = some (.getfield 468, 3, 12, 47, 0) from rfl) (by decide) rfl rfl ?_
    have b6 : (0 : Int) ≤ iI s3 98 ∧ iI s3 98 ≤ 4 := Is3.1 98
    refine z_const X (show cdA 294 19 = some (.iconst 1, 1, 0, 0, 0) from rfl) ?_
    refine z_sub X (show cdA 294 20 = some (.isub, 1, 0, 0, 0) from rfl) ?_
    refine s_putI X 179 (show cdA 294 21 = some (.putfield 468, 3, 12, 47, 0) from rfl) (by decide) rfl rfl (by decide) rfl rfl rfl ?_
    obtain ⟨s7, hs7⟩ : ∃ x0, x0 = uI s3 98 (Int32.ofInt ((iI s3 98) - 1)) := ⟨_, rfl⟩
    rw [← hs7]
    have Is7 : Bd s7 := by rw [hs7]; exact bd_I Is3 (show (0 : Int) ≤ ((iI s3 98) - 1) ∧ ((iI s3 98) - 1) ≤ 4 by omega) ⟨by omega, by omega⟩
    have Fs7 := fm_I (x := Int32.ofInt ((iI s3 98) - 1)) Fs3 (show 98 ∈ _ by decide)
    rw [← hs7] at Fs7
    have vs7 : iI s7 98 = ((iI s3 98) - 1) := by rw [hs7]; exact iI_u ⟨by omega, by omega⟩
    have ws7_73 : iI s7 73 = iI s3 73 := by rw [hs7]; rfl
    refine z_const X (show cdA 294 24 = some (.iconst 0, 1, 0, 0, 0) from rfl) ?_
    refine z_store_n X (lv' := [(1, .int (Int32.ofInt 0)), (0, .ref (A 179))]) (show cdA 294 25 = some (.istore_n 1, 1, 0, 0, 0) from rfl) (by decide) (fun _ h => h) ?_
    refine WS_lv (lv := [(0, .ref (A 179)), (1, .int (Int32.ofInt 0))]) (List.forall_mem_cons.mpr ⟨(List.Mem.tail _ (List.Mem.head _)), (List.forall_mem_cons.mpr ⟨(List.Mem.head _), (fun q h => absurd h List.not_mem_nil)⟩)⟩) ?_
    refine L26 ((128 - 0 : Int)).toNat s7 0 Is7 Fs7 (by omega) (by omega) ?_
    intro s8 x9 Is8 Fs8 hs8
    have b10 : (0 : Int) ≤ iI s8 73 ∧ iI s8 73 ≤ 3 := Is8.1 73
    have b11 : (0 : Int) ≤ iI s8 98 ∧ iI s8 98 ≤ 4 := Is8.1 98
    refine z_aload_n X (x := A 179) (show cdA 294 56 = some (.aload_n 0, 1, 0, 0, 0) from rfl) (List.Mem.head _) ?_
    refine z_getI X 179 (show cdA 294 57 = some (.getfield 468, 3, 12, 47, 0) from rfl) (by decide) rfl rfl ?_
    have b12 : (0 : Int) ≤ iI s8 98 ∧ iI s8 98 ≤ 4 := Is8.1 98
    exact w_iret X.1 q hRt rfl (ax_d X (show cdA 294 60 = some (.ireturn, 1, 0, 0, 0) from rfl)) (Nat.zero_le _) (Nat.zero_le _) ⟨_, rfl, Is8, Fs8, (iI s8 98), rfl, ⟨by omega, by omega⟩, by omega⟩
  ·
    refine z_const X (show cdA 294 12 = some (.iconst (-1), 1, 0, 0, 0) from rfl) ?_
    exact w_iret X.1 q hRt rfl (ax_d X (show cdA 294 13 = some (.ireturn, 1, 0, 0, 0) from rfl)) (Nat.zero_le _) (Nat.zero_le _) ⟨_, rfl, Is3, Fs3, (-1), rfl, ⟨by omega, by omega⟩, by omega⟩
theorem k_in2 (G : GX l s0 D tys a0 dT) (I : Bd s) {x y z : Int} (p0 : rng x) (p1 : rng y) (p2 : rng z) : CT l s0 D A dT 188 (rmN 188) [.int (Int32.ofInt x), .int (Int32.ofInt y), .int (Int32.ofInt z)] s (fun o t => s = t ∧ ∃ e, o = .inl (some (.int (Int32.ofInt e))) ∧ rng e ∧ ((e = 1 ∧ y ≤ x ∧ x ≤ z) ∨ (e = 0 ∧ (x < y ∨ z < x)))) := by
  refine ct_of G (by decide) (Nat.le_of_ble_eq_true rfl) (fun k X E hRt hXt q => ?_)
  show WS k 0 [(0, .int (Int32.ofInt x)), (1, .int (Int32.ofInt y)), (2, .int (Int32.ofInt z))] [] _ 0 0
  have F : Fm [] [] s s := fm_rf _ _ s
  refine z_load_n X (x := x) (show cdA 188 0 = some (.iload_n 0, 1, 0, 0, 0) from rfl) (List.Mem.head _) ?_
  refine z_load_n X (x := y) (show cdA 188 1 = some (.iload_n 1, 1, 0, 0, 0) from rfl) (List.Mem.tail _ (List.Mem.head _)) ?_
  refine z_icmp_lt X (t := 14) (show cdA 188 2 = some (.if_icmp .lt 12, 3, 2, 0, 0) from rfl) (by decide) ⟨by omega, by omega⟩ ⟨by omega, by omega⟩ (fun g1 => ?_) (fun g1 => ?_)
  ·
    refine z_const X (show cdA 188 14 = some (.iconst 0, 1, 0, 0, 0) from rfl) ?_
    exact w_iret X.1 q hRt (nar_ret (by omega)) (ax_d X (show cdA 188 15 = some (.ireturn, 1, 0, 0, 0) from rfl)) (Nat.zero_le _) (Nat.zero_le _) ⟨_, rfl, rfl, 0, rfl, ⟨by omega, by omega⟩, by omega⟩
  ·
    refine z_load_n X (x := x) (show cdA 188 5 = some (.iload_n 0, 1, 0, 0, 0) from rfl) (List.Mem.head _) ?_
    refine z_load_n X (x := z) (show cdA 188 6 = some (.iload_n 2, 1, 0, 0, 0) from rfl) (List.Mem.tail _ (List.Mem.tail _ (List.Mem.head _))) ?_
    refine z_icmp_gt X (t := 14) (show cdA 188 7 = some (.if_icmp .gt 7, 3, 4, 0, 0) from rfl) (by decide) ⟨by omega, by omega⟩ ⟨by omega, by omega⟩ (fun g2 => ?_) (fun g2 => ?_)
    ·
      refine z_const X (show cdA 188 14 = some (.iconst 0, 1, 0, 0, 0) from rfl) ?_
      exact w_iret X.1 q hRt (nar_ret (by omega)) (ax_d X (show cdA 188 15 = some (.ireturn, 1, 0, 0, 0) from rfl)) (Nat.zero_le _) (Nat.zero_le _) ⟨_, rfl, rfl, 0, rfl, ⟨by omega, by omega⟩, by omega⟩
    ·
      refine z_const X (show cdA 188 10 = some (.iconst 1, 1, 0, 0, 0) from rfl) ?_
      refine z_goto X (t := 15) (show cdA 188 11 = some (.goto 4, 3, 0, 0, 0) from rfl) (by decide) ?_
      exact w_iret X.1 q hRt (nar_ret (by omega)) (ax_d X (show cdA 188 15 = some (.ireturn, 1, 0, 0, 0) from rfl)) (Nat.zero_le _) (Nat.zero_le _) ⟨_, rfl, rfl, 1, rfl, ⟨by omega, by omega⟩, by omega⟩
theorem k_bad2 (G : GX l s0 D tys a0 dT) (I : Bd s) {x y : Int} (p0 : x = 0 ∨ x = 1) (p1 : 1 ≤ y ∧ y ≤ 3) : CT l s0 D A dT 187 (rmN 187) [.ref (A 179), .int (Int32.ofInt x), .int (Int32.ofInt y)] s (fun o t => Bd t ∧ Fm [73] [] s t ∧ ∃ e, o = .inl (some (.int (Int32.ofInt e))) ∧ rng e ∧ (((x = 1 ∧ iI s 73 = 0 ∧ iI t 73 = y ∧ e = 1) ∨ ((x = 0 ∨ iI s 73 ≠ 0) ∧ iI t 73 = iI s 73 ∧ ((e = 0 ∧ iI s 73 = 0) ∨ (e = 1 ∧ iI s 73 ≠ 0)))) ∧ iO t = iO s)) := by
  refine ct_of G (by decide) (Nat.le_of_ble_eq_true rfl) (fun k X E hRt hXt q => ?_)
  show WS k 0 [(0, .ref (A 179)), (1, .int (Int32.ofInt x)), (2, .int (Int32.ofInt y))] [] _ 0 0
  have F : Fm [73] [] s s := fm_rf _ _ s
  have b1 : (0 : Int) ≤ iI s 73 ∧ iI s 73 ≤ 3 := I.1 73
  refine z_load_n X (x := x) (show cdA 187 0 = some (.iload_n 1, 1, 0, 0, 0) from rfl) (List.Mem.tail _ (List.Mem.head _)) ?_
  refine z_if_eq X (t := 16) (show cdA 187 1 = some (.ifCond .eq 15, 3, 0, 0, 0) from rfl) (by decide) ⟨by omega, by omega⟩ (fun g2 => ?_) (fun g2 => ?_)
  ·
    refine z_aload_n X (x := A 179) (show cdA 187 16 = some (.aload_n 0, 1, 0, 0, 0) from rfl) (List.Mem.head _) ?_
    refine z_getI X 179 (show cdA 187 17 = some (.getfield 172, 3, 12, 0, 0) from rfl) (by decide) rfl rfl ?_
    have b3 : (0 : Int) ≤ iI s 73 ∧ iI s 73 ≤ 3 := I.1 73
    refine z_if_eq X (t := 27) (show cdA 187 20 = some (.ifCond .eq 7, 3, 0, 0, 0) from rfl) (by decide) ⟨by omega, by omega⟩ (fun g4 => ?_) (fun g4 => ?_)
    ·
      refine z_const X (show cdA 187 27 = some (.iconst 0, 1, 0, 0, 0) from rfl) ?_
      exact w_iret X.1 q hRt (nar_ret (by omega)) (ax_d X (show cdA 187 28 = some (.ireturn, 1, 0, 0, 0) from rfl)) (Nat.zero_le _) (Nat.zero_le _) ⟨_, rfl, I, F, 0, rfl, ⟨by omega, by omega⟩, by omega⟩
    ·
      refine z_const X (show cdA 187 23 = some (.iconst 1, 1, 0, 0, 0) from rfl) ?_
      refine z_goto X (t := 28) (show cdA 187 24 = some (.goto 4, 3, 0, 0, 0) from rfl) (by decide) ?_
      exact w_iret X.1 q hRt (nar_ret (by omega)) (ax_d X (show cdA 187 28 = some (.ireturn, 1, 0, 0, 0) from rfl)) (Nat.zero_le _) (Nat.zero_le _) ⟨_, rfl, I, F, 1, rfl, ⟨by omega, by omega⟩, by omega⟩
  ·
    refine z_aload_n X (x := A 179) (show cdA 187 4 = some (.aload_n 0, 1, 0, 0, 0) from rfl) (List.Mem.head _) ?_
    refine z_getI X 179 (show cdA 187 5 = some (.getfield 172, 3, 12, 0, 0) from rfl) (by decide) rfl rfl ?_
    have b5 : (0 : Int) ≤ iI s 73 ∧ iI s 73 ≤ 3 := I.1 73
    refine z_if_ne X (t := 16) (show cdA 187 8 = some (.ifCond .ne 8, 3, 1, 0, 0) from rfl) (by decide) ⟨by omega, by omega⟩ (fun g6 => ?_) (fun g6 => ?_)
    ·
      refine z_aload_n X (x := A 179) (show cdA 187 16 = some (.aload_n 0, 1, 0, 0, 0) from rfl) (List.Mem.head _) ?_
      refine z_getI X 179 (show cdA 187 17 = some (.getfield 172, 3, 12, 0, 0) from rfl) (by decide) rfl rfl ?_
      have b7 : (0 : Int) ≤ iI s 73 ∧ iI s 73 ≤ 3 := I.1 73
      refine z_if_eq X (t := 27) (show cdA 187 20 = some (.ifCond .eq 7, 3, 0, 0, 0) from rfl) (by decide) ⟨by omega, by omega⟩ (fun g8 => ?_) (fun g8 => ?_)
      ·
        refine z_const X (show cdA 187 27 = some (.iconst 0, 1, 0, 0, 0) from rfl) ?_
        exact w_iret X.1 q hRt (nar_ret (by omega)) (ax_d X (show cdA 187 28 = some (.ireturn, 1, 0, 0, 0) from rfl)) (Nat.zero_le _) (Nat.zero_le _) ⟨_, rfl, I, F, 0, rfl, ⟨by omega, by omega⟩, by omega⟩
      ·
        refine z_const X (show cdA 187 23 = some (.iconst 1, 1, 0, 0, 0) from rfl) ?_
        refine z_goto X (t := 28) (show cdA 187 24 = some (.goto 4, 3, 0, 0, 0) from rfl) (by decide) ?_
        exact w_iret X.1 q hRt (nar_ret (by omega)) (ax_d X (show cdA 187 28 = some (.ireturn, 1, 0, 0, 0) from rfl)) (Nat.zero_le _) (Nat.zero_le _) ⟨_, rfl, I, F, 1, rfl, ⟨by omega, by omega⟩, by omega⟩
    ·
      refine z_aload_n X (x := A 179) (show cdA 187 11 = some (.aload_n 0, 1, 0, 0, 0) from rfl) (List.Mem.head _) ?_
      refine z_load_n X (x := y) (show cdA 187 12 = some (.iload_n 2, 1, 0, 0, 0) from rfl) (List.Mem.tail _ (List.Mem.tail _ (List.Mem.head _))) ?_
      refine s_putI X 179 (show cdA 187 13 = some (.putfield 172, 3, 12, 0, 0) from rfl) (by decide) rfl rfl (by decide) rfl rfl rfl ?_
      obtain ⟨s9, hs9⟩ : ∃ x0, x0 = uI s 73 (Int32.ofInt y) := ⟨_, rfl⟩
      rw [← hs9]
      have Is9 : Bd s9 := by rw [hs9]; exact bd_I I (show (0 : Int) ≤ y ∧ y ≤ 3 by omega) ⟨by omega, by omega⟩
      have Fs9 := fm_I (x := Int32.ofInt y) F (show 73 ∈ _ by decide)
      rw [← hs9] at Fs9
      have vs9 : iI s9 73 = y := by rw [hs9]; exact iI_u ⟨by omega, by omega⟩
      have wos9 : iO s9 = iO s := by rw [hs9]; rfl
      refine z_aload_n X (x := A 179) (show cdA 187 16 = some (.aload_n 0, 1, 0, 0, 0) from rfl) (List.Mem.head _) ?_
      refine z_getI X 179 (show cdA 187 17 = some (.getfield 172, 3, 12, 0, 0) from rfl) (by decide) rfl rfl ?_
      have b10 : (0 : Int) ≤ iI s9 73 ∧ iI s9 73 ≤ 3 := Is9.1 73
      refine z_if_eq X (t := 27) (show cdA 187 20 = some (.ifCond .eq 7, 3, 0, 0, 0) from rfl) (by decide) ⟨by omega, by omega⟩ (fun g11 => ?_) (fun g11 => ?_)
      ·
        refine z_const X (show cdA 187 27 = some (.iconst 0, 1, 0, 0, 0) from rfl) ?_
        exact w_iret X.1 q hRt (nar_ret (by omega)) (ax_d X (show cdA 187 28 = some (.ireturn, 1, 0, 0, 0) from rfl)) (Nat.zero_le _) (Nat.zero_le _) ⟨_, rfl, Is9, Fs9, 0, rfl, ⟨by omega, by omega⟩, by omega⟩
      ·
        refine z_const X (show cdA 187 23 = some (.iconst 1, 1, 0, 0, 0) from rfl) ?_
        refine z_goto X (t := 28) (show cdA 187 24 = some (.goto 4, 3, 0, 0, 0) from rfl) (by decide) ?_
        exact w_iret X.1 q hRt (nar_ret (by omega)) (ax_d X (show cdA 187 28 = some (.ireturn, 1, 0, 0, 0) from rfl)) (Nat.zero_le _) (Nat.zero_le _) ⟨_, rfl, Is9, Fs9, 1, rfl, ⟨by omega, by omega⟩, by omega⟩
theorem k_length2 (G : GX l s0 D tys a0 dT) (I : Bd s) {x : Int} (p0 : rng x) : CT l s0 D A dT 244 (rmN 244) [.ref (A 179), .int (Int32.ofInt x)] s (fun o t => Bd t ∧ Fm [73, 95] [] s t ∧ ∃ e, o = .inl (some (.int (Int32.ofInt e))) ∧ rng e ∧ (((0 ≤ x ∧ x ≤ 9 ∧ iI t 73 = 0 ∧ e = iI s 95 ∧ iI t 95 = x) ∨ ((x < 0 ∨ 9 < x) ∧ iI t 73 = 1 ∧ iI t 95 = iI s 95)) ∧ iO t = iO s)) := by
  refine ct_of G (by decide) (Nat.le_of_ble_eq_true rfl) (fun k X E hRt hXt q => ?_)
  show WS k 0 [(0, .ref (A 179)), (1, .int (Int32.ofInt x))] [] _ 0 0
  have F : Fm [73, 95] [] s s := fm_rf _ _ s
  have b1 : (0 : Int) ≤ iI s 73 ∧ iI s 73 ≤ 3 := I.1 73
  have b2 : (0 : Int) ≤ iI s 95 ∧ iI s 95 ≤ 9 := I.1 95
  refine z_aload_n X (x := A 179) (show cdA 244 0 = some (.aload_n 0, 1, 0, 0, 0) from rfl) (List.Mem.head _) ?_
  refine z_const X (show cdA 244 1 = some (.iconst 0, 1, 0, 0, 0) from rfl) ?_
  refine s_putI X 179 (show cdA 244 2 = some (.putfield 172, 3, 12, 0, 0) from rfl) (by decide) rfl rfl (by decide) rfl rfl rfl ?_
  obtain ⟨s3, hs3⟩ : ∃ x0, x0 = uI s 73 (Int32.ofInt 0) := ⟨_, rfl⟩
  rw [← hs3]
  have Is3 : Bd s3 := by rw [hs3]; exact bd_I I (show (0 : Int) ≤ 0 ∧ 0 ≤ 3 by omega) ⟨by omega, by omega⟩
  have Fs3 := fm_I (x := Int32.ofInt 0) F (show 73 ∈ _ by decide)
  rw [← hs3] at Fs3
  have vs3 : iI s3 73 = 0 := by rw [hs3]; exact iI_u ⟨by omega, by omega⟩
  have ws3_95 : iI s3 95 = iI s 95 := by rw [hs3]; rfl
  have wos3 : iO s3 = iO s := by rw [hs3]; rfl
  refine z_aload_n X (x := A 179) (show cdA 244 5 = some (.aload_n 0, 1, 0, 0, 0) from rfl) (List.Mem.head _) ?_
  refine z_load_n X (x := x) (show cdA 244 6 = some (.iload_n 1, 1, 0, 0, 0) from rfl) (List.Mem.tail _ (List.Mem.head _)) ?_
  refine z_const X (show cdA 244 7 = some (.iconst 0, 1, 0, 0, 0) from rfl) ?_
  refine z_bipush X (show cdA 244 8 = some (.bipush 9, 2, 0, 0, 9) from rfl) ?_
  refine z_callS X (rm := rmN 188) (As := [.int (Int32.ofInt x), .int (Int32.ofInt 0), .int (Int32.ofInt 9)]) (st := [.ref (A 179)]) (show cdA 244 10 = some (.invokestatic 209, 3, 188, 1, 0) from rfl) rfl (by rw [E.1, E.2.1, E.2.2.1]; exact k_in2 G Is3 (by omega) (by omega) (by omega)) ⟨by rw [E.2.2.2]; exact (show (rmN 188).frames + 1 ≤ (rmN 244).frames by decide), by rw [E.2.2.2]; exact (show 8 + (mNL (miB 188) + 11) + (rmN 188).locals ≤ (rmN 244).locals by decide), by rw [E.2.2.2]; exact (show 0 + (rmN 188).cells ≤ (rmN 244).cells by decide), by rw [E.2.2.2]; exact (show 0 + (rmN 188).slots ≤ (rmN 244).slots by decide)⟩ (Nat.le_of_ble_eq_true rfl) (fun vv s4 hq => ?_) (fun ee s4 hq => ?_)
  rotate_left
  · obtain ⟨rfl, e5, hv, hrs4, hps4⟩ := hq; cases hv
  obtain ⟨rfl, e5, hv, hrs4, hps4⟩ := hq
  cases hv
  show WS k 13 [(0, .ref (A 179)), (1, .int (Int32.ofInt x))] [.int (Int32.ofInt e5), .ref (A 179)] (Wd A dT s3) 0 0
  refine z_if_ne X (t := 20) (show cdA 244 13 = some (.ifCond .ne 7, 3, 1, 0, 0) from rfl) (by decide) ⟨by omega, by omega⟩ (fun g6 => ?_) (fun g6 => ?_)
  ·
    refine z_const X (show cdA 244 20 = some (.iconst 0, 1, 0, 0, 0) from rfl) ?_
    refine z_const X (show cdA 244 21 = some (.iconst 1, 1, 0, 0, 0) from rfl) ?_
    refine z_callV X 179 (rm := rmN 187) (As := [.int (Int32.ofInt 0), .int (Int32.ofInt 1)]) (st := []) (show cdA 244 22 = some (.invokevirtual 229, 3, 187, 0, 0) from rfl) rfl (by decide) rfl (by rw [E.1, E.2.1, E.2.2.1]; exact k_bad2 G Is3 (by omega) (by omega)) ⟨by rw [E.2.2.2]; exact (show (rmN 187).frames + 1 ≤ (rmN 244).frames by decide), by rw [E.2.2.2]; exact (show 8 + (mNL (miB 187) + 11) + (rmN 187).locals ≤ (rmN 244).locals by decide), by rw [E.2.2.2]; exact (show 0 + (rmN 187).cells ≤ (rmN 244).cells by decide), by rw [E.2.2.2]; exact (show 0 + (rmN 187).slots ≤ (rmN 244).slots by decide)⟩ (Nat.le_of_ble_eq_true rfl) (fun vv s7 hq => ?_) (fun ee s7 hq => ?_)
    rotate_left
    · obtain ⟨Is7, Fs7, e8, hv, hrs7, hps7⟩ := hq; cases hv
    obtain ⟨Is7, Fs7, e8, hv, hrs7, hps7⟩ := hq
    cases hv
    have Gs7 := fm_ts Fs3 Fs7 (by decide) (by decide)
    have b9 : (0 : Int) ≤ iI s7 73 ∧ iI s7 73 ≤ 3 := Is7.1 73
    have ws7_95 : iI s7 95 = iI s3 95 := fm_i Fs7 (by decide)
    show WS k 25 [(0, .ref (A 179)), (1, .int (Int32.ofInt x))] [.int (Int32.ofInt e8)] (Wd A dT s7) 0 0
    refine z_if_eq X (t := 30) (show cdA 244 25 = some (.ifCond .eq 5, 3, 0, 0, 0) from rfl) (by decide) ⟨by omega, by omega⟩ (fun g10 => ?_) (fun g10 => ?_)
    ·
      refine z_aload_n X (x := A 179) (show cdA 244 30 = some (.aload_n 0, 1, 0, 0, 0) from rfl) (List.Mem.head _) ?_
      refine z_getI X 179 (show cdA 244 31 = some (.getfield 345, 3, 12, 44, 0) from rfl) (by decide) rfl rfl ?_
      have b11 : (0 : Int) ≤ iI s7 95 ∧ iI s7 95 ≤ 9 := Is7.1 95
      refine z_store_n X (lv' := [(2, .int (Int32.ofInt (iI s7 95))), (0, .ref (A 179)), (1, .int (Int32.ofInt x))]) (show cdA 244 34 = some (.istore_n 2, 1, 0, 0, 0) from rfl) (by decide) (fun _ h => h) ?_
      refine z_aload_n X (x := A 179) (show cdA 244 35 = some (.aload_n 0, 1, 0, 0, 0) from rfl) (List.Mem.tail _ (List.Mem.head _)) ?_
      refine z_load_n X (x := x) (show cdA 244 36 = some (.iload_n 1, 1, 0, 0, 0) from rfl) (List.Mem.tail _ (List.Mem.tail _ (List.Mem.head _))) ?_
      refine s_putI X 179 (show cdA 244 37 = some (.putfield 345, 3, 12, 44, 0) from rfl) (by decide) rfl rfl (by decide) rfl rfl rfl ?_
      obtain ⟨s12, hs12⟩ : ∃ x0, x0 = uI s7 95 (Int32.ofInt x) := ⟨_, rfl⟩
      rw [← hs12]
      have Is12 : Bd s12 := by rw [hs12]; exact bd_I Is7 (show (0 : Int) ≤ x ∧ x ≤ 9 by omega) ⟨by omega, by omega⟩
      have Fs12 := fm_I (x := Int32.ofInt x) Gs7 (show 95 ∈ _ by decide)
      rw [← hs12] at Fs12
      have vs12 : iI s12 95 = x := by rw [hs12]; exact iI_u ⟨by omega, by omega⟩
      have ws12_73 : iI s12 73 = iI s7 73 := by rw [hs12]; rfl
      have wos12 : iO s12 = iO s7 := by rw [hs12]; rfl
      refine z_load_n X (x := (iI s7 95)) (show cdA 244 40 = some (.iload_n 2, 1, 0, 0, 0) from rfl) (List.Mem.head _) ?_
      exact w_iret X.1 q hRt rfl (ax_d X (show cdA 244 41 = some (.ireturn, 1, 0, 0, 0) from rfl)) (Nat.zero_le _) (Nat.zero_le _) ⟨_, rfl, Is12, Fs12, (iI s7 95), rfl, ⟨by omega, by omega⟩, by omega⟩
    ·
      refine z_const X (show cdA 244 28 = some (.iconst 0, 1, 0, 0, 0) from rfl) ?_
      exact w_iret X.1 q hRt rfl (ax_d X (show cdA 244 29 = some (.ireturn, 1, 0, 0, 0) from rfl)) (Nat.zero_le _) (Nat.zero_le _) ⟨_, rfl, Is7, Gs7, 0, rfl, ⟨by omega, by omega⟩, by omega⟩
  ·
    refine z_const X (show cdA 244 16 = some (.iconst 1, 1, 0, 0, 0) from rfl) ?_
    refine z_goto X (t := 21) (show cdA 244 17 = some (.goto 4, 3, 0, 0, 0) from rfl) (by decide) ?_
    refine z_const X (show cdA 244 21 = some (.iconst 1, 1, 0, 0, 0) from rfl) ?_
    refine z_callV X 179 (rm := rmN 187) (As := [.int (Int32.ofInt 1), .int (Int32.ofInt 1)]) (st := []) (show cdA 244 22 = some (.invokevirtual 229, 3, 187, 0, 0) from rfl) rfl (by decide) rfl (by rw [E.1, E.2.1, E.2.2.1]; exact k_bad2 G Is3 (by omega) (by omega)) ⟨by rw [E.2.2.2]; exact (show (rmN 187).frames + 1 ≤ (rmN 244).frames by decide), by rw [E.2.2.2]; exact (show 8 + (mNL (miB 187) + 11) + (rmN 187).locals ≤ (rmN 244).locals by decide), by rw [E.2.2.2]; exact (show 0 + (rmN 187).cells ≤ (rmN 244).cells by decide), by rw [E.2.2.2]; exact (show 0 + (rmN 187).slots ≤ (rmN 244).slots by decide)⟩ (Nat.le_of_ble_eq_true rfl) (fun vv s13 hq => ?_) (fun ee s13 hq => ?_)
    rotate_left
    · obtain ⟨Is13, Fs13, e14, hv, hrs13, hps13⟩ := hq; cases hv
    obtain ⟨Is13, Fs13, e14, hv, hrs13, hps13⟩ := hq
    cases hv
    have Gs13 := fm_ts Fs3 Fs13 (by decide) (by decide)
    have b15 : (0 : Int) ≤ iI s13 73 ∧ iI s13 73 ≤ 3 := Is13.1 73
    have ws13_95 : iI s13 95 = iI s3 95 := fm_i Fs13 (by decide)
    show WS k 25 [(0, .ref (A 179)), (1, .int (Int32.ofInt x))] [.int (Int32.ofInt e14)] (Wd A dT s13) 0 0
    refine z_if_eq X (t := 30) (show cdA 244 25 = some (.ifCond .eq 5, 3, 0, 0, 0) from rfl) (by decide) ⟨by omega, by omega⟩ (fun g16 => ?_) (fun g16 => ?_)
    ·
      refine z_aload_n X (x := A 179) (show cdA 244 30 = some (.aload_n 0, 1, 0, 0, 0) from rfl) (List.Mem.head _) ?_
      refine z_getI X 179 (show cdA 244 31 = some (.getfield 345, 3, 12, 44, 0) from rfl) (by decide) rfl rfl ?_
      have b17 : (0 : Int) ≤ iI s13 95 ∧ iI s13 95 ≤ 9 := Is13.1 95
      refine z_store_n X (lv' := [(2, .int (Int32.ofInt (iI s13 95))), (0, .ref (A 179)), (1, .int (Int32.ofInt x))]) (show cdA 244 34 = some (.istore_n 2, 1, 0, 0, 0) from rfl) (by decide) (fun _ h => h) ?_
      refine z_aload_n X (x := A 179) (show cdA 244 35 = some (.aload_n 0, 1, 0, 0, 0) from rfl) (List.Mem.tail _ (List.Mem.head _)) ?_
      refine z_load_n X (x := x) (show cdA 244 36 = some (.iload_n 1, 1, 0, 0, 0) from rfl) (List.Mem.tail _ (List.Mem.tail _ (List.Mem.head _))) ?_
      refine s_putI X 179 (show cdA 244 37 = some (.putfield 345, 3, 12, 44, 0) from rfl) (by decide) rfl rfl (by decide) rfl rfl rfl ?_
      obtain ⟨s18, hs18⟩ : ∃ x0, x0 = uI s13 95 (Int32.ofInt x) := ⟨_, rfl⟩
      rw [← hs18]
      have Is18 : Bd s18 := by rw [hs18]; exact bd_I Is13 (show (0 : Int) ≤ x ∧ x ≤ 9 by omega) ⟨by omega, by omega⟩
      have Fs18 := fm_I (x := Int32.ofInt x) Gs13 (show 95 ∈ _ by decide)
      rw [← hs18] at Fs18
      have vs18 : iI s18 95 = x := by rw [hs18]; exact iI_u ⟨by omega, by omega⟩
      have ws18_73 : iI s18 73 = iI s13 73 := by rw [hs18]; rfl
      have wos18 : iO s18 = iO s13 := by rw [hs18]; rfl
      refine z_load_n X (x := (iI s13 95)) (show cdA 244 40 = some (.iload_n 2, 1, 0, 0, 0) from rfl) (List.Mem.head _) ?_
      exact w_iret X.1 q hRt rfl (ax_d X (show cdA 244 41 = some (.ireturn, 1, 0, 0, 0) from rfl)) (Nat.zero_le _) (Nat.zero_le _) ⟨_, rfl, Is18, Fs18, (iI s13 95), rfl, ⟨by omega, by omega⟩, by omega⟩
    ·
      refine z_const X (show cdA 244 28 = some (.iconst 0, 1, 0, 0, 0) from rfl) ?_
      exact w_iret X.1 q hRt rfl (ax_d X (show cdA 244 29 = some (.ireturn, 1, 0, 0, 0) from rfl)) (Nat.zero_le _) (Nat.zero_le _) ⟨_, rfl, Is13, Gs13, 0, rfl, ⟨by omega, by omega⟩, by omega⟩
theorem k_busy2 (G : GX l s0 D tys a0 dT) (I : Bd s) {x : Int} (p0 : rng x) : CT l s0 D A dT 268 (rmN 268) [.ref (A 179), .int (Int32.ofInt x)] s (fun o t => Bd t ∧ Fm [73, 96] [] s t ∧ ∃ e, o = .inl (some (.int (Int32.ofInt e))) ∧ rng e ∧ (((0 ≤ x ∧ x ≤ 100000 ∧ iI t 73 = 0 ∧ e = iI s 96 ∧ iI t 96 = x) ∨ ((x < 0 ∨ 100000 < x) ∧ iI t 73 = 1 ∧ iI t 96 = iI s 96)) ∧ iO t = iO s)) := by
  refine ct_of G (by decide) (Nat.le_of_ble_eq_true rfl) (fun k X E hRt hXt q => ?_)
  show WS k 0 [(0, .ref (A 179)), (1, .int (Int32.ofInt x))] [] _ 0 0
  have F : Fm [73, 96] [] s s := fm_rf _ _ s
  have b1 : (0 : Int) ≤ iI s 73 ∧ iI s 73 ≤ 3 := I.1 73
  have b2 : (0 : Int) ≤ iI s 96 ∧ iI s 96 ≤ 100000 := I.1 96
  refine z_aload_n X (x := A 179) (show cdA 268 0 = some (.aload_n 0, 1, 0, 0, 0) from rfl) (List.Mem.head _) ?_
  refine z_const X (show cdA 268 1 = some (.iconst 0, 1, 0, 0, 0) from rfl) ?_
  refine s_putI X 179 (show cdA 268 2 = some (.putfield 172, 3, 12, 0, 0) from rfl) (by decide) rfl rfl (by decide) rfl rfl rfl ?_
  obtain ⟨s3, hs3⟩ : ∃ x0, x0 = uI s 73 (Int32.ofInt 0) := ⟨_, rfl⟩
  rw [← hs3]
  have Is3 : Bd s3 := by rw [hs3]; exact bd_I I (show (0 : Int) ≤ 0 ∧ 0 ≤ 3 by omega) ⟨by omega, by omega⟩
  have Fs3 := fm_I (x := Int32.ofInt 0) F (show 73 ∈ _ by decide)
  rw [← hs3] at Fs3
  have vs3 : iI s3 73 = 0 := by rw [hs3]; exact iI_u ⟨by omega, by omega⟩
  have ws3_96 : iI s3 96 = iI s 96 := by rw [hs3]; rfl
  have wos3 : iO s3 = iO s := by rw [hs3]; rfl
  refine z_aload_n X (x := A 179) (show cdA 268 5 = some (.aload_n 0, 1, 0, 0, 0) from rfl) (List.Mem.head _) ?_
  refine z_load_n X (x := x) (show cdA 268 6 = some (.iload_n 1, 1, 0, 0, 0) from rfl) (List.Mem.tail _ (List.Mem.head _)) ?_
  refine z_const X (show cdA 268 7 = some (.iconst 0, 1, 0, 0, 0) from rfl) ?_
  refine z_ldc X (show cdA 268 8 = some (.ldc 208, 2, 0, 0, 100000) from rfl) ?_
  refine z_callS X (rm := rmN 188) (As := [.int (Int32.ofInt x), .int (Int32.ofInt 0), .int (Int32.ofInt 100000)]) (st := [.ref (A 179)]) (show cdA 268 10 = some (.invokestatic 209, 3, 188, 1, 0) from rfl) rfl (by rw [E.1, E.2.1, E.2.2.1]; exact k_in2 G Is3 (by omega) (by omega) (by omega)) ⟨by rw [E.2.2.2]; exact (show (rmN 188).frames + 1 ≤ (rmN 268).frames by decide), by rw [E.2.2.2]; exact (show 8 + (mNL (miB 188) + 11) + (rmN 188).locals ≤ (rmN 268).locals by decide), by rw [E.2.2.2]; exact (show 0 + (rmN 188).cells ≤ (rmN 268).cells by decide), by rw [E.2.2.2]; exact (show 0 + (rmN 188).slots ≤ (rmN 268).slots by decide)⟩ (Nat.le_of_ble_eq_true rfl) (fun vv s4 hq => ?_) (fun ee s4 hq => ?_)
  rotate_left
  · obtain ⟨rfl, e5, hv, hrs4, hps4⟩ := hq; cases hv
  obtain ⟨rfl, e5, hv, hrs4, hps4⟩ := hq
  cases hv
  show WS k 13 [(0, .ref (A 179)), (1, .int (Int32.ofInt x))] [.int (Int32.ofInt e5), .ref (A 179)] (Wd A dT s3) 0 0
  refine z_if_ne X (t := 20) (show cdA 268 13 = some (.ifCond .ne 7, 3, 1, 0, 0) from rfl) (by decide) ⟨by omega, by omega⟩ (fun g6 => ?_) (fun g6 => ?_)
  ·
    refine z_const X (show cdA 268 20 = some (.iconst 0, 1, 0, 0, 0) from rfl) ?_
    refine z_const X (show cdA 268 21 = some (.iconst 1, 1, 0, 0, 0) from rfl) ?_
    refine z_callV X 179 (rm := rmN 187) (As := [.int (Int32.ofInt 0), .int (Int32.ofInt 1)]) (st := []) (show cdA 268 22 = some (.invokevirtual 229, 3, 187, 0, 0) from rfl) rfl (by decide) rfl (by rw [E.1, E.2.1, E.2.2.1]; exact k_bad2 G Is3 (by omega) (by omega)) ⟨by rw [E.2.2.2]; exact (show (rmN 187).frames + 1 ≤ (rmN 268).frames by decide), by rw [E.2.2.2]; exact (show 8 + (mNL (miB 187) + 11) + (rmN 187).locals ≤ (rmN 268).locals by decide), by rw [E.2.2.2]; exact (show 0 + (rmN 187).cells ≤ (rmN 268).cells by decide), by rw [E.2.2.2]; exact (show 0 + (rmN 187).slots ≤ (rmN 268).slots by decide)⟩ (Nat.le_of_ble_eq_true rfl) (fun vv s7 hq => ?_) (fun ee s7 hq => ?_)
    rotate_left
    · obtain ⟨Is7, Fs7, e8, hv, hrs7, hps7⟩ := hq; cases hv
    obtain ⟨Is7, Fs7, e8, hv, hrs7, hps7⟩ := hq
    cases hv
    have Gs7 := fm_ts Fs3 Fs7 (by decide) (by decide)
    have b9 : (0 : Int) ≤ iI s7 73 ∧ iI s7 73 ≤ 3 := Is7.1 73
    have ws7_96 : iI s7 96 = iI s3 96 := fm_i Fs7 (by decide)
    show WS k 25 [(0, .ref (A 179)), (1, .int (Int32.ofInt x))] [.int (Int32.ofInt e8)] (Wd A dT s7) 0 0
    refine z_if_eq X (t := 30) (show cdA 268 25 = some (.ifCond .eq 5, 3, 0, 0, 0) from rfl) (by decide) ⟨by omega, by omega⟩ (fun g10 => ?_) (fun g10 => ?_)
    ·
      refine z_aload_n X (x := A 179) (show cdA 268 30 = some (.aload_n 0, 1, 0, 0, 0) from rfl) (List.Mem.head _) ?_
      refine z_getI X 179 (show cdA 268 31 = some (.getfield 89, 3, 12, 45, 0) from rfl) (by decide) rfl rfl ?_
      have b11 : (0 : Int) ≤ iI s7 96 ∧ iI s7 96 ≤ 100000 := Is7.1 96
      refine z_store_n X (lv' := [(2, .int (Int32.ofInt (iI s7 96))), (0, .ref (A 179)), (1, .int (Int32.ofInt x))]) (show cdA 268 34 = some (.istore_n 2, 1, 0, 0, 0) from rfl) (by decide) (fun _ h => h) ?_
      refine z_aload_n X (x := A 179) (show cdA 268 35 = some (.aload_n 0, 1, 0, 0, 0) from rfl) (List.Mem.tail _ (List.Mem.head _)) ?_
      refine z_load_n X (x := x) (show cdA 268 36 = some (.iload_n 1, 1, 0, 0, 0) from rfl) (List.Mem.tail _ (List.Mem.tail _ (List.Mem.head _))) ?_
      refine s_putI X 179 (show cdA 268 37 = some (.putfield 89, 3, 12, 45, 0) from rfl) (by decide) rfl rfl (by decide) rfl rfl rfl ?_
      obtain ⟨s12, hs12⟩ : ∃ x0, x0 = uI s7 96 (Int32.ofInt x) := ⟨_, rfl⟩
      rw [← hs12]
      have Is12 : Bd s12 := by rw [hs12]; exact bd_I Is7 (show (0 : Int) ≤ x ∧ x ≤ 100000 by omega) ⟨by omega, by omega⟩
      have Fs12 := fm_I (x := Int32.ofInt x) Gs7 (show 96 ∈ _ by decide)
      rw [← hs12] at Fs12
      have vs12 : iI s12 96 = x := by rw [hs12]; exact iI_u ⟨by omega, by omega⟩
      have ws12_73 : iI s12 73 = iI s7 73 := by rw [hs12]; rfl
      have wos12 : iO s12 = iO s7 := by rw [hs12]; rfl
      refine z_load_n X (x := (iI s7 96)) (show cdA 268 40 = some (.iload_n 2, 1, 0, 0, 0) from rfl) (List.Mem.head _) ?_
      exact w_iret X.1 q hRt rfl (ax_d X (show cdA 268 41 = some (.ireturn, 1, 0, 0, 0) from rfl)) (Nat.zero_le _) (Nat.zero_le _) ⟨_, rfl, Is12, Fs12, (iI s7 96), rfl, ⟨by omega, by omega⟩, by omega⟩
    ·
      refine z_const X (show cdA 268 28 = some (.iconst 0, 1, 0, 0, 0) from rfl) ?_
      exact w_iret X.1 q hRt rfl (ax_d X (show cdA 268 29 = some (.ireturn, 1, 0, 0, 0) from rfl)) (Nat.zero_le _) (Nat.zero_le _) ⟨_, rfl, Is7, Gs7, 0, rfl, ⟨by omega, by omega⟩, by omega⟩
  ·
    refine z_const X (show cdA 268 16 = some (.iconst 1, 1, 0, 0, 0) from rfl) ?_
    refine z_goto X (t := 21) (show cdA 268 17 = some (.goto 4, 3, 0, 0, 0) from rfl) (by decide) ?_
    refine z_const X (show cdA 268 21 = some (.iconst 1, 1, 0, 0, 0) from rfl) ?_
    refine z_callV X 179 (rm := rmN 187) (As := [.int (Int32.ofInt 1), .int (Int32.ofInt 1)]) (st := []) (show cdA 268 22 = some (.invokevirtual 229, 3, 187, 0, 0) from rfl) rfl (by decide) rfl (by rw [E.1, E.2.1, E.2.2.1]; exact k_bad2 G Is3 (by omega) (by omega)) ⟨by rw [E.2.2.2]; exact (show (rmN 187).frames + 1 ≤ (rmN 268).frames by decide), by rw [E.2.2.2]; exact (show 8 + (mNL (miB 187) + 11) + (rmN 187).locals ≤ (rmN 268).locals by decide), by rw [E.2.2.2]; exact (show 0 + (rmN 187).cells ≤ (rmN 268).cells by decide), by rw [E.2.2.2]; exact (show 0 + (rmN 187).slots ≤ (rmN 268).slots by decide)⟩ (Nat.le_of_ble_eq_true rfl) (fun vv s13 hq => ?_) (fun ee s13 hq => ?_)
    rotate_left
    · obtain ⟨Is13, Fs13, e14, hv, hrs13, hps13⟩ := hq; cases hv
    obtain ⟨Is13, Fs13, e14, hv, hrs13, hps13⟩ := hq
    cases hv
    have Gs13 := fm_ts Fs3 Fs13 (by decide) (by decide)
    have b15 : (0 : Int) ≤ iI s13 73 ∧ iI s13 73 ≤ 3 := Is13.1 73
    have ws13_96 : iI s13 96 = iI s3 96 := fm_i Fs13 (by decide)
    show WS k 25 [(0, .ref (A 179)), (1, .int (Int32.ofInt x))] [.int (Int32.ofInt e14)] (Wd A dT s13) 0 0
    refine z_if_eq X (t := 30) (show cdA 268 25 = some (.ifCond .eq 5, 3, 0, 0, 0) from rfl) (by decide) ⟨by omega, by omega⟩ (fun g16 => ?_) (fun g16 => ?_)
    ·
      refine z_aload_n X (x := A 179) (show cdA 268 30 = some (.aload_n 0, 1, 0, 0, 0) from rfl) (List.Mem.head _) ?_
      refine z_getI X 179 (show cdA 268 31 = some (.getfield 89, 3, 12, 45, 0) from rfl) (by decide) rfl rfl ?_
      have b17 : (0 : Int) ≤ iI s13 96 ∧ iI s13 96 ≤ 100000 := Is13.1 96
      refine z_store_n X (lv' := [(2, .int (Int32.ofInt (iI s13 96))), (0, .ref (A 179)), (1, .int (Int32.ofInt x))]) (show cdA 268 34 = some (.istore_n 2, 1, 0, 0, 0) from rfl) (by decide) (fun _ h => h) ?_
      refine z_aload_n X (x := A 179) (show cdA 268 35 = some (.aload_n 0, 1, 0, 0, 0) from rfl) (List.Mem.tail _ (List.Mem.head _)) ?_
      refine z_load_n X (x := x) (show cdA 268 36 = some (.iload_n 1, 1, 0, 0, 0) from rfl) (List.Mem.tail _ (List.Mem.tail _ (List.Mem.head _))) ?_
      refine s_putI X 179 (show cdA 268 37 = some (.putfield 89, 3, 12, 45, 0) from rfl) (by decide) rfl rfl (by decide) rfl rfl rfl ?_
      obtain ⟨s18, hs18⟩ : ∃ x0, x0 = uI s13 96 (Int32.ofInt x) := ⟨_, rfl⟩
      rw [← hs18]
      have Is18 : Bd s18 := by rw [hs18]; exact bd_I Is13 (show (0 : Int) ≤ x ∧ x ≤ 100000 by omega) ⟨by omega, by omega⟩
      have Fs18 := fm_I (x := Int32.ofInt x) Gs13 (show 96 ∈ _ by decide)
      rw [← hs18] at Fs18
      have vs18 : iI s18 96 = x := by rw [hs18]; exact iI_u ⟨by omega, by omega⟩
      have ws18_73 : iI s18 73 = iI s13 73 := by rw [hs18]; rfl
      have wos18 : iO s18 = iO s13 := by rw [hs18]; rfl
      refine z_load_n X (x := (iI s13 96)) (show cdA 268 40 = some (.iload_n 2, 1, 0, 0, 0) from rfl) (List.Mem.head _) ?_
      exact w_iret X.1 q hRt rfl (ax_d X (show cdA 268 41 = some (.ireturn, 1, 0, 0, 0) from rfl)) (Nat.zero_le _) (Nat.zero_le _) ⟨_, rfl, Is18, Fs18, (iI s13 96), rfl, ⟨by omega, by omega⟩, by omega⟩
    ·
      refine z_const X (show cdA 268 28 = some (.iconst 0, 1, 0, 0, 0) from rfl) ?_
      exact w_iret X.1 q hRt rfl (ax_d X (show cdA 268 29 = some (.ireturn, 1, 0, 0, 0) from rfl)) (Nat.zero_le _) (Nat.zero_le _) ⟨_, rfl, Is13, Gs13, 0, rfl, ⟨by omega, by omega⟩, by omega⟩
theorem k_hours2 (G : GX l s0 D tys a0 dT) (I : Bd s) {x y : Int} (p0 : rng x) (p1 : rng y) : CT l s0 D A dT 273 (rmN 273) [.ref (A 179), .int (Int32.ofInt x), .int (Int32.ofInt y)] s (fun o t => Bd t ∧ Fm [73, 102, 103] [] s t ∧ ∃ e, o = .inl (some (.int (Int32.ofInt e))) ∧ rng e ∧ (((x = 0 ∧ 1 ≤ y ∧ y ≤ 24 ∧ iI t 73 = 0 ∧ e = iI s 102 ∧ iI t 102 = y ∧ iI t 103 = iI s 103) ∨ (x = 1 ∧ 1 ≤ y ∧ y ≤ 8 ∧ iI t 73 = 0 ∧ e = iI s 103 ∧ iI t 103 = y ∧ iI t 102 = iI s 102) ∨ ((x < 0 ∨ 1 < x ∨ y < 1 ∨ (x = 0 ∧ 24 < y) ∨ (x = 1 ∧ 8 < y)) ∧ iI t 73 = 1 ∧ iI t 102 = iI s 102 ∧ iI t 103 = iI s 103)) ∧ iO t = iO s)) := by
  refine ct_of G (by decide) (Nat.le_of_ble_eq_true rfl) (fun k X E hRt hXt q => ?_)
  show WS k 0 [(0, .ref (A 179)), (1, .int (Int32.ofInt x)), (2, .int (Int32.ofInt y))] [] _ 0 0
  have F : Fm [73, 102, 103] [] s s := fm_rf _ _ s
  have b1 : (0 : Int) ≤ iI s 73 ∧ iI s 73 ≤ 3 := I.1 73
  have b2 : (1 : Int) ≤ iI s 102 ∧ iI s 102 ≤ 24 := I.1 102
  have b3 : (1 : Int) ≤ iI s 103 ∧ iI s 103 ≤ 8 := I.1 103
  refine z_aload_n X (x := A 179) (show cdA 273 0 = some (.aload_n 0, 1, 0, 0, 0) from rfl) (List.Mem.head _) ?_
  refine z_const X (show cdA 273 1 = some (.iconst 0, 1, 0, 0, 0) from rfl) ?_
  refine s_putI X 179 (show cdA 273 2 = some (.putfield 172, 3, 12, 0, 0) from rfl) (by decide) rfl rfl (by decide) rfl rfl rfl ?_
  obtain ⟨s4, hs4⟩ : ∃ x0, x0 = uI s 73 (Int32.ofInt 0) := ⟨_, rfl⟩
  rw [← hs4]
  have Is4 : Bd s4 := by rw [hs4]; exact bd_I I (show (0 : Int) ≤ 0 ∧ 0 ≤ 3 by omega) ⟨by omega, by omega⟩
  have Fs4 := fm_I (x := Int32.ofInt 0) F (show 73 ∈ _ by decide)
  rw [← hs4] at Fs4
  have vs4 : iI s4 73 = 0 := by rw [hs4]; exact iI_u ⟨by omega, by omega⟩
  have ws4_102 : iI s4 102 = iI s 102 := by rw [hs4]; rfl
  have ws4_103 : iI s4 103 = iI s 103 := by rw [hs4]; rfl
  have wos4 : iO s4 = iO s := by rw [hs4]; rfl
  refine z_aload_n X (x := A 179) (show cdA 273 5 = some (.aload_n 0, 1, 0, 0, 0) from rfl) (List.Mem.head _) ?_
  refine z_load_n X (x := x) (show cdA 273 6 = some (.iload_n 1, 1, 0, 0, 0) from rfl) (List.Mem.tail _ (List.Mem.head _)) ?_
  refine z_const X (show cdA 273 7 = some (.iconst 0, 1, 0, 0, 0) from rfl) ?_
  refine z_const X (show cdA 273 8 = some (.iconst 1, 1, 0, 0, 0) from rfl) ?_
  refine z_callS X (rm := rmN 188) (As := [.int (Int32.ofInt x), .int (Int32.ofInt 0), .int (Int32.ofInt 1)]) (st := [.ref (A 179)]) (show cdA 273 9 = some (.invokestatic 209, 3, 188, 1, 0) from rfl) rfl (by rw [E.1, E.2.1, E.2.2.1]; exact k_in2 G Is4 (by omega) (by omega) (by omega)) ⟨by rw [E.2.2.2]; exact (show (rmN 188).frames + 1 ≤ (rmN 273).frames by decide), by rw [E.2.2.2]; exact (show 8 + (mNL (miB 188) + 11) + (rmN 188).locals ≤ (rmN 273).locals by decide), by rw [E.2.2.2]; exact (show 0 + (rmN 188).cells ≤ (rmN 273).cells by decide), by rw [E.2.2.2]; exact (show 0 + (rmN 188).slots ≤ (rmN 273).slots by decide)⟩ (Nat.le_of_ble_eq_true rfl) (fun vv s5 hq => ?_) (fun ee s5 hq => ?_)
  rotate_left
  · obtain ⟨rfl, e6, hv, hrs5, hps5⟩ := hq; cases hv
  obtain ⟨rfl, e6, hv, hrs5, hps5⟩ := hq
  cases hv
  show WS k 12 [(0, .ref (A 179)), (1, .int (Int32.ofInt x)), (2, .int (Int32.ofInt y))] [.int (Int32.ofInt e6), .ref (A 179)] (Wd A dT s4) 0 0
  refine z_if_eq X (t := 34) (show cdA 273 12 = some (.ifCond .eq 22, 3, 0, 0, 0) from rfl) (by decide) ⟨by omega, by omega⟩ (fun g7 => ?_) (fun g7 => ?_)
  ·
    refine z_const X (show cdA 273 34 = some (.iconst 1, 1, 0, 0, 0) from rfl) ?_
    refine z_goto X (t := 39) (show cdA 273 35 = some (.goto 4, 3, 0, 0, 0) from rfl) (by decide) ?_
    refine z_const X (show cdA 273 39 = some (.iconst 1, 1, 0, 0, 0) from rfl) ?_
    refine z_callV X 179 (rm := rmN 187) (As := [.int (Int32.ofInt 1), .int (Int32.ofInt 1)]) (st := []) (show cdA 273 40 = some (.invokevirtual 229, 3, 187, 0, 0) from rfl) rfl (by decide) rfl (by rw [E.1, E.2.1, E.2.2.1]; exact k_bad2 G Is4 (by omega) (by omega)) ⟨by rw [E.2.2.2]; exact (show (rmN 187).frames + 1 ≤ (rmN 273).frames by decide), by rw [E.2.2.2]; exact (show 8 + (mNL (miB 187) + 11) + (rmN 187).locals ≤ (rmN 273).locals by decide), by rw [E.2.2.2]; exact (show 0 + (rmN 187).cells ≤ (rmN 273).cells by decide), by rw [E.2.2.2]; exact (show 0 + (rmN 187).slots ≤ (rmN 273).slots by decide)⟩ (Nat.le_of_ble_eq_true rfl) (fun vv s8 hq => ?_) (fun ee s8 hq => ?_)
    rotate_left
    · obtain ⟨Is8, Fs8, e9, hv, hrs8, hps8⟩ := hq; cases hv
    obtain ⟨Is8, Fs8, e9, hv, hrs8, hps8⟩ := hq
    cases hv
    have Gs8 := fm_ts Fs4 Fs8 (by decide) (by decide)
    have b10 : (0 : Int) ≤ iI s8 73 ∧ iI s8 73 ≤ 3 := Is8.1 73
    have ws8_102 : iI s8 102 = iI s4 102 := fm_i Fs8 (by decide)
    have ws8_103 : iI s8 103 = iI s4 103 := fm_i Fs8 (by decide)
    show WS k 43 [(0, .ref (A 179)), (1, .int (Int32.ofInt x)), (2, .int (Int32.ofInt y))] [.int (Int32.ofInt e9)] (Wd A dT s8) 0 0
    refine z_if_eq X (t := 48) (show cdA 273 43 = some (.ifCond .eq 5, 3, 0, 0, 0) from rfl) (by decide) ⟨by omega, by omega⟩ (fun g11 => ?_) (fun g11 => ?_)
    ·
      refine z_load_n X (x := x) (show cdA 273 48 = some (.iload_n 1, 1, 0, 0, 0) from rfl) (List.Mem.tail _ (List.Mem.head _)) ?_
      refine z_if_ne X (t := 59) (show cdA 273 49 = some (.ifCond .ne 10, 3, 1, 0, 0) from rfl) (by decide) ⟨by omega, by omega⟩ (fun g12 => ?_) (fun g12 => ?_)
      ·
        refine z_aload_n X (x := A 179) (show cdA 273 59 = some (.aload_n 0, 1, 0, 0, 0) from rfl) (List.Mem.head _) ?_
        refine z_getI X 179 (show cdA 273 60 = some (.getfield 133, 3, 12, 64, 0) from rfl) (by decide) rfl rfl ?_
        have b13 : (1 : Int) ≤ iI s8 103 ∧ iI s8 103 ≤ 8 := Is8.1 103
        refine z_store_n X (lv' := [(3, .int (Int32.ofInt (iI s8 103))), (0, .ref (A 179)), (1, .int (Int32.ofInt x)), (2, .int (Int32.ofInt y))]) (show cdA 273 63 = some (.istore_n 3, 1, 0, 0, 0) from rfl) (by decide) (fun _ h => h) ?_
        refine z_load_n X (x := x) (show cdA 273 64 = some (.iload_n 1, 1, 0, 0, 0) from rfl) (List.Mem.tail _ (List.Mem.tail _ (List.Mem.head _))) ?_
        refine z_if_ne X (t := 76) (show cdA 273 65 = some (.ifCond .ne 11, 3, 1, 0, 0) from rfl) (by decide) ⟨by omega, by omega⟩ (fun g14 => ?_) (fun g14 => ?_)
        ·
          refine z_aload_n X (x := A 179) (show cdA 273 76 = some (.aload_n 0, 1, 0, 0, 0) from rfl) (List.Mem.tail _ (List.Mem.head _)) ?_
          refine z_load_n X (x := y) (show cdA 273 77 = some (.iload_n 2, 1, 0, 0, 0) from rfl) (List.Mem.tail _ (List.Mem.tail _ (List.Mem.tail _ (List.Mem.head _)))) ?_
          refine s_putI X 179 (show cdA 273 78 = some (.putfield 133, 3, 12, 64, 0) from rfl) (by decide) rfl rfl (by decide) rfl rfl rfl ?_
          obtain ⟨s15, hs15⟩ : ∃ x0, x0 = uI s8 103 (Int32.ofInt y) := ⟨_, rfl⟩
          rw [← hs15]
          have Is15 : Bd s15 := by rw [hs15]; exact bd_I Is8 (show (1 : Int) ≤ y ∧ y ≤ 8 by omega) ⟨by omega, by omega⟩
          have Fs15 := fm_I (x := Int32.ofInt y) Gs8 (show 103 ∈ _ by decide)
          rw [← hs15] at Fs15
          have vs15 : iI s15 103 = y := by rw [hs15]; exact iI_u ⟨by omega, by omega⟩
          have ws15_73 : iI s15 73 = iI s8 73 := by rw [hs15]; rfl
          have ws15_102 : iI s15 102 = iI s8 102 := by rw [hs15]; rfl
          have wos15 : iO s15 = iO s8 := by rw [hs15]; rfl
          refine z_load_n X (x := (iI s8 103)) (show cdA 273 81 = some (.iload_n 3, 1, 0, 0, 0) from rfl) (List.Mem.head _) ?_
          exact w_iret X.1 q hRt rfl (ax_d X (show cdA 273 82 = some (.ireturn, 1, 0, 0, 0) from rfl)) (Nat.zero_le _) (Nat.zero_le _) ⟨_, rfl, Is15, Fs15, (iI s8 103), rfl, ⟨by omega, by omega⟩, by omega⟩
        ·
          refine z_aload_n X (x := A 179) (show cdA 273 68 = some (.aload_n 0, 1, 0, 0, 0) from rfl) (List.Mem.tail _ (List.Mem.head _)) ?_
          refine z_load_n X (x := y) (show cdA 273 69 = some (.iload_n 2, 1, 0, 0, 0) from rfl) (List.Mem.tail _ (List.Mem.tail _ (List.Mem.tail _ (List.Mem.head _)))) ?_
          refine s_putI X 179 (show cdA 273 70 = some (.putfield 130, 3, 12, 63, 0) from rfl) (by decide) rfl rfl (by decide) rfl rfl rfl ?_
          obtain ⟨s16, hs16⟩ : ∃ x0, x0 = uI s8 102 (Int32.ofInt y) := ⟨_, rfl⟩
          rw [← hs16]
          have Is16 : Bd s16 := by rw [hs16]; exact bd_I Is8 (show (1 : Int) ≤ y ∧ y ≤ 24 by omega) ⟨by omega, by omega⟩
          have Fs16 := fm_I (x := Int32.ofInt y) Gs8 (show 102 ∈ _ by decide)
          rw [← hs16] at Fs16
          have vs16 : iI s16 102 = y := by rw [hs16]; exact iI_u ⟨by omega, by omega⟩
          have ws16_73 : iI s16 73 = iI s8 73 := by rw [hs16]; rfl
          have ws16_103 : iI s16 103 = iI s8 103 := by rw [hs16]; rfl
          have wos16 : iO s16 = iO s8 := by rw [hs16]; rfl
          refine z_goto X (t := 81) (show cdA 273 73 = some (.goto 8, 3, 0, 0, 0) from rfl) (by decide) ?_
          refine z_load_n X (x := (iI s8 103)) (show cdA 273 81 = some (.iload_n 3, 1, 0, 0, 0) from rfl) (List.Mem.head _) ?_
          exact w_iret X.1 q hRt rfl (ax_d X (show cdA 273 82 = some (.ireturn, 1, 0, 0, 0) from rfl)) (Nat.zero_le _) (Nat.zero_le _) ⟨_, rfl, Is16, Fs16, (iI s8 103), rfl, ⟨by omega, by omega⟩, by omega⟩
      ·
        refine z_aload_n X (x := A 179) (show cdA 273 52 = some (.aload_n 0, 1, 0, 0, 0) from rfl) (List.Mem.head _) ?_
        refine z_getI X 179 (show cdA 273 53 = some (.getfield 130, 3, 12, 63, 0) from rfl) (by decide) rfl rfl ?_
        have b17 : (1 : Int) ≤ iI s8 102 ∧ iI s8 102 ≤ 24 := Is8.1 102
        refine z_goto X (t := 63) (show cdA 273 56 = some (.goto 7, 3, 0, 0, 0) from rfl) (by decide) ?_
        refine z_store_n X (lv' := [(3, .int (Int32.ofInt (iI s8 102))), (0, .ref (A 179)), (1, .int (Int32.ofInt x)), (2, .int (Int32.ofInt y))]) (show cdA 273 63 = some (.istore_n 3, 1, 0, 0, 0) from rfl) (by decide) (fun _ h => h) ?_
        refine z_load_n X (x := x) (show cdA 273 64 = some (.iload_n 1, 1, 0, 0, 0) from rfl) (List.Mem.tail _ (List.Mem.tail _ (List.Mem.head _))) ?_
        refine z_if_ne X (t := 76) (show cdA 273 65 = some (.ifCond .ne 11, 3, 1, 0, 0) from rfl) (by decide) ⟨by omega, by omega⟩ (fun g18 => ?_) (fun g18 => ?_)
        ·
          refine z_aload_n X (x := A 179) (show cdA 273 76 = some (.aload_n 0, 1, 0, 0, 0) from rfl) (List.Mem.tail _ (List.Mem.head _)) ?_
          refine z_load_n X (x := y) (show cdA 273 77 = some (.iload_n 2, 1, 0, 0, 0) from rfl) (List.Mem.tail _ (List.Mem.tail _ (List.Mem.tail _ (List.Mem.head _)))) ?_
          refine s_putI X 179 (show cdA 273 78 = some (.putfield 133, 3, 12, 64, 0) from rfl) (by decide) rfl rfl (by decide) rfl rfl rfl ?_
          obtain ⟨s19, hs19⟩ : ∃ x0, x0 = uI s8 103 (Int32.ofInt y) := ⟨_, rfl⟩
          rw [← hs19]
          have Is19 : Bd s19 := by rw [hs19]; exact bd_I Is8 (show (1 : Int) ≤ y ∧ y ≤ 8 by omega) ⟨by omega, by omega⟩
          have Fs19 := fm_I (x := Int32.ofInt y) Gs8 (show 103 ∈ _ by decide)
          rw [← hs19] at Fs19
          have vs19 : iI s19 103 = y := by rw [hs19]; exact iI_u ⟨by omega, by omega⟩
          have ws19_73 : iI s19 73 = iI s8 73 := by rw [hs19]; rfl
          have ws19_102 : iI s19 102 = iI s8 102 := by rw [hs19]; rfl
          have wos19 : iO s19 = iO s8 := by rw [hs19]; rfl
          refine z_load_n X (x := (iI s8 102)) (show cdA 273 81 = some (.iload_n 3, 1, 0, 0, 0) from rfl) (List.Mem.head _) ?_
          exact w_iret X.1 q hRt rfl (ax_d X (show cdA 273 82 = some (.ireturn, 1, 0, 0, 0) from rfl)) (Nat.zero_le _) (Nat.zero_le _) ⟨_, rfl, Is19, Fs19, (iI s8 102), rfl, ⟨by omega, by omega⟩, by omega⟩
        ·
          refine z_aload_n X (x := A 179) (show cdA 273 68 = some (.aload_n 0, 1, 0, 0, 0) from rfl) (List.Mem.tail _ (List.Mem.head _)) ?_
          refine z_load_n X (x := y) (show cdA 273 69 = some (.iload_n 2, 1, 0, 0, 0) from rfl) (List.Mem.tail _ (List.Mem.tail _ (List.Mem.tail _ (List.Mem.head _)))) ?_
          refine s_putI X 179 (show cdA 273 70 = some (.putfield 130, 3, 12, 63, 0) from rfl) (by decide) rfl rfl (by decide) rfl rfl rfl ?_
          obtain ⟨s20, hs20⟩ : ∃ x0, x0 = uI s8 102 (Int32.ofInt y) := ⟨_, rfl⟩
          rw [← hs20]
          have Is20 : Bd s20 := by rw [hs20]; exact bd_I Is8 (show (1 : Int) ≤ y ∧ y ≤ 24 by omega) ⟨by omega, by omega⟩
          have Fs20 := fm_I (x := Int32.ofInt y) Gs8 (show 102 ∈ _ by decide)
          rw [← hs20] at Fs20
          have vs20 : iI s20 102 = y := by rw [hs20]; exact iI_u ⟨by omega, by omega⟩
          have ws20_73 : iI s20 73 = iI s8 73 := by rw [hs20]; rfl
          have ws20_103 : iI s20 103 = iI s8 103 := by rw [hs20]; rfl
          have wos20 : iO s20 = iO s8 := by rw [hs20]; rfl
          refine z_goto X (t := 81) (show cdA 273 73 = some (.goto 8, 3, 0, 0, 0) from rfl) (by decide) ?_
          refine z_load_n X (x := (iI s8 102)) (show cdA 273 81 = some (.iload_n 3, 1, 0, 0, 0) from rfl) (List.Mem.head _) ?_
          exact w_iret X.1 q hRt rfl (ax_d X (show cdA 273 82 = some (.ireturn, 1, 0, 0, 0) from rfl)) (Nat.zero_le _) (Nat.zero_le _) ⟨_, rfl, Is20, Fs20, (iI s8 102), rfl, ⟨by omega, by omega⟩, by omega⟩
    ·
      refine z_const X (show cdA 273 46 = some (.iconst 0, 1, 0, 0, 0) from rfl) ?_
      exact w_iret X.1 q hRt rfl (ax_d X (show cdA 273 47 = some (.ireturn, 1, 0, 0, 0) from rfl)) (Nat.zero_le _) (Nat.zero_le _) ⟨_, rfl, Is8, Gs8, 0, rfl, ⟨by omega, by omega⟩, by omega⟩
  ·
    refine z_load_n X (x := y) (show cdA 273 15 = some (.iload_n 2, 1, 0, 0, 0) from rfl) (List.Mem.tail _ (List.Mem.tail _ (List.Mem.head _))) ?_
    refine z_const X (show cdA 273 16 = some (.iconst 1, 1, 0, 0, 0) from rfl) ?_
    refine z_load_n X (x := x) (show cdA 273 17 = some (.iload_n 1, 1, 0, 0, 0) from rfl) (List.Mem.tail _ (List.Mem.head _)) ?_
    refine z_if_ne X (t := 26) (show cdA 273 18 = some (.ifCond .ne 8, 3, 1, 0, 0) from rfl) (by decide) ⟨by omega, by omega⟩ (fun g21 => ?_) (fun g21 => ?_)
    ·
      refine z_bipush X (show cdA 273 26 = some (.bipush 8, 2, 0, 0, 8) from rfl) ?_
      refine z_callS X (rm := rmN 188) (As := [.int (Int32.ofInt y), .int (Int32.ofInt 1), .int (Int32.ofInt 8)]) (st := [.ref (A 179)]) (show cdA 273 28 = some (.invokestatic 209, 3, 188, 1, 0) from rfl) rfl (by rw [E.1, E.2.1, E.2.2.1]; exact k_in2 G Is4 (by omega) (by omega) (by omega)) ⟨by rw [E.2.2.2]; exact (show (rmN 188).frames + 1 ≤ (rmN 273).frames by decide), by rw [E.2.2.2]; exact (show 8 + (mNL (miB 188) + 11) + (rmN 188).locals ≤ (rmN 273).locals by decide), by rw [E.2.2.2]; exact (show 0 + (rmN 188).cells ≤ (rmN 273).cells by decide), by rw [E.2.2.2]; exact (show 0 + (rmN 188).slots ≤ (rmN 273).slots by decide)⟩ (Nat.le_of_ble_eq_true rfl) (fun vv s22 hq => ?_) (fun ee s22 hq => ?_)
      rotate_left
      · obtain ⟨rfl, e23, hv, hrs22, hps22⟩ := hq; cases hv
      obtain ⟨rfl, e23, hv, hrs22, hps22⟩ := hq
      cases hv
      show WS k 31 [(0, .ref (A 179)), (1, .int (Int32.ofInt x)), (2, .int (Int32.ofInt y))] [.int (Int32.ofInt e23), .ref (A 179)] (Wd A dT s4) 0 0
      refine z_if_ne X (t := 38) (show cdA 273 31 = some (.ifCond .ne 7, 3, 1, 0, 0) from rfl) (by decide) ⟨by omega, by omega⟩ (fun g24 => ?_) (fun g24 => ?_)
      ·
        refine z_const X (show cdA 273 38 = some (.iconst 0, 1, 0, 0, 0) from rfl) ?_
        refine z_const X (show cdA 273 39 = some (.iconst 1, 1, 0, 0, 0) from rfl) ?_
        refine z_callV X 179 (rm := rmN 187) (As := [.int (Int32.ofInt 0), .int (Int32.ofInt 1)]) (st := []) (show cdA 273 40 = some (.invokevirtual 229, 3, 187, 0, 0) from rfl) rfl (by decide) rfl (by rw [E.1, E.2.1, E.2.2.1]; exact k_bad2 G Is4 (by omega) (by omega)) ⟨by rw [E.2.2.2]; exact (show (rmN 187).frames + 1 ≤ (rmN 273).frames by decide), by rw [E.2.2.2]; exact (show 8 + (mNL (miB 187) + 11) + (rmN 187).locals ≤ (rmN 273).locals by decide), by rw [E.2.2.2]; exact (show 0 + (rmN 187).cells ≤ (rmN 273).cells by decide), by rw [E.2.2.2]; exact (show 0 + (rmN 187).slots ≤ (rmN 273).slots by decide)⟩ (Nat.le_of_ble_eq_true rfl) (fun vv s25 hq => ?_) (fun ee s25 hq => ?_)
        rotate_left
        · obtain ⟨Is25, Fs25, e26, hv, hrs25, hps25⟩ := hq; cases hv
        obtain ⟨Is25, Fs25, e26, hv, hrs25, hps25⟩ := hq
        cases hv
        have Gs25 := fm_ts Fs4 Fs25 (by decide) (by decide)
        have b27 : (0 : Int) ≤ iI s25 73 ∧ iI s25 73 ≤ 3 := Is25.1 73
        have ws25_102 : iI s25 102 = iI s4 102 := fm_i Fs25 (by decide)
        have ws25_103 : iI s25 103 = iI s4 103 := fm_i Fs25 (by decide)
        show WS k 43 [(0, .ref (A 179)), (1, .int (Int32.ofInt x)), (2, .int (Int32.ofInt y))] [.int (Int32.ofInt e26)] (Wd A dT s25) 0 0
        refine z_if_eq X (t := 48) (show cdA 273 43 = some (.ifCond .eq 5, 3, 0, 0, 0) from rfl) (by decide) ⟨by omega, by omega⟩ (fun g28 => ?_) (fun g28 => ?_)
        ·
          refine z_load_n X (x := x) (show cdA 273 48 = some (.iload_n 1, 1, 0, 0, 0) from rfl) (List.Mem.tail _ (List.Mem.head _)) ?_
          refine z_if_ne X (t := 59) (show cdA 273 49 = some (.ifCond .ne 10, 3, 1, 0, 0) from rfl) (by decide) ⟨by omega, by omega⟩ (fun g29 => ?_) (fun g29 => ?_)
          ·
            refine z_aload_n X (x := A 179) (show cdA 273 59 = some (.aload_n 0, 1, 0, 0, 0) from rfl) (List.Mem.head _) ?_
            refine z_getI X 179 (show cdA 273 60 = some (.getfield 133, 3, 12, 64, 0) from rfl) (by decide) rfl rfl ?_
            have b30 : (1 : Int) ≤ iI s25 103 ∧ iI s25 103 ≤ 8 := Is25.1 103
            refine z_store_n X (lv' := [(3, .int (Int32.ofInt (iI s25 103))), (0, .ref (A 179)), (1, .int (Int32.ofInt x)), (2, .int (Int32.ofInt y))]) (show cdA 273 63 = some (.istore_n 3, 1, 0, 0, 0) from rfl) (by decide) (fun _ h => h) ?_
            refine z_load_n X (x := x) (show cdA 273 64 = some (.iload_n 1, 1, 0, 0, 0) from rfl) (List.Mem.tail _ (List.Mem.tail _ (List.Mem.head _))) ?_
            refine z_if_ne X (t := 76) (show cdA 273 65 = some (.ifCond .ne 11, 3, 1, 0, 0) from rfl) (by decide) ⟨by omega, by omega⟩ (fun g31 => ?_) (fun g31 => ?_)
            ·
              refine z_aload_n X (x := A 179) (show cdA 273 76 = some (.aload_n 0, 1, 0, 0, 0) from rfl) (List.Mem.tail _ (List.Mem.head _)) ?_
              refine z_load_n X (x := y) (show cdA 273 77 = some (.iload_n 2, 1, 0, 0, 0) from rfl) (List.Mem.tail _ (List.Mem.tail _ (List.Mem.tail _ (List.Mem.head _)))) ?_
              refine s_putI X 179 (show cdA 273 78 = some (.putfield 133, 3, 12, 64, 0) from rfl) (by decide) rfl rfl (by decide) rfl rfl rfl ?_
              obtain ⟨s32, hs32⟩ : ∃ x0, x0 = uI s25 103 (Int32.ofInt y) := ⟨_, rfl⟩
              rw [← hs32]
              have Is32 : Bd s32 := by rw [hs32]; exact bd_I Is25 (show (1 : Int) ≤ y ∧ y ≤ 8 by omega) ⟨by omega, by omega⟩
              have Fs32 := fm_I (x := Int32.ofInt y) Gs25 (show 103 ∈ _ by decide)
              rw [← hs32] at Fs32
              have vs32 : iI s32 103 = y := by rw [hs32]; exact iI_u ⟨by omega, by omega⟩
              have ws32_73 : iI s32 73 = iI s25 73 := by rw [hs32]; rfl
              have ws32_102 : iI s32 102 = iI s25 102 := by rw [hs32]; rfl
              have wos32 : iO s32 = iO s25 := by rw [hs32]; rfl
              refine z_load_n X (x := (iI s25 103)) (show cdA 273 81 = some (.iload_n 3, 1, 0, 0, 0) from rfl) (List.Mem.head _) ?_
              exact w_iret X.1 q hRt rfl (ax_d X (show cdA 273 82 = some (.ireturn, 1, 0, 0, 0) from rfl)) (Nat.zero_le _) (Nat.zero_le _) ⟨_, rfl, Is32, Fs32, (iI s25 103), rfl, ⟨by omega, by omega⟩, by omega⟩
            ·
              refine z_aload_n X (x := A 179) (show cdA 273 68 = some (.aload_n 0, 1, 0, 0, 0) from rfl) (List.Mem.tail _ (List.Mem.head _)) ?_
              refine z_load_n X (x := y) (show cdA 273 69 = some (.iload_n 2, 1, 0, 0, 0) from rfl) (List.Mem.tail _ (List.Mem.tail _ (List.Mem.tail _ (List.Mem.head _)))) ?_
              refine s_putI X 179 (show cdA 273 70 = some (.putfield 130, 3, 12, 63, 0) from rfl) (by decide) rfl rfl (by decide) rfl rfl rfl ?_
              obtain ⟨s33, hs33⟩ : ∃ x0, x0 = uI s25 102 (Int32.ofInt y) := ⟨_, rfl⟩
              rw [← hs33]
              have Is33 : Bd s33 := by rw [hs33]; exact bd_I Is25 (show (1 : Int) ≤ y ∧ y ≤ 24 by omega) ⟨by omega, by omega⟩
              have Fs33 := fm_I (x := Int32.ofInt y) Gs25 (show 102 ∈ _ by decide)
              rw [← hs33] at Fs33
              have vs33 : iI s33 102 = y := by rw [hs33]; exact iI_u ⟨by omega, by omega⟩
              have ws33_73 : iI s33 73 = iI s25 73 := by rw [hs33]; rfl
              have ws33_103 : iI s33 103 = iI s25 103 := by rw [hs33]; rfl
              have wos33 : iO s33 = iO s25 := by rw [hs33]; rfl
              refine z_goto X (t := 81) (show cdA 273 73 = some (.goto 8, 3, 0, 0, 0) from rfl) (by decide) ?_
              refine z_load_n X (x := (iI s25 103)) (show cdA 273 81 = some (.iload_n 3, 1, 0, 0, 0) from rfl) (List.Mem.head _) ?_
              exact w_iret X.1 q hRt rfl (ax_d X (show cdA 273 82 = some (.ireturn, 1, 0, 0, 0) from rfl)) (Nat.zero_le _) (Nat.zero_le _) ⟨_, rfl, Is33, Fs33, (iI s25 103), rfl, ⟨by omega, by omega⟩, by omega⟩
          ·
            refine z_aload_n X (x := A 179) (show cdA 273 52 = some (.aload_n 0, 1, 0, 0, 0) from rfl) (List.Mem.head _) ?_
            refine z_getI X 179 (show cdA 273 53 = some (.getfield 130, 3, 12, 63, 0) from rfl) (by decide) rfl rfl ?_
            have b34 : (1 : Int) ≤ iI s25 102 ∧ iI s25 102 ≤ 24 := Is25.1 102
            refine z_goto X (t := 63) (show cdA 273 56 = some (.goto 7, 3, 0, 0, 0) from rfl) (by decide) ?_
            refine z_store_n X (lv' := [(3, .int (Int32.ofInt (iI s25 102))), (0, .ref (A 179)), (1, .int (Int32.ofInt x)), (2, .int (Int32.ofInt y))]) (show cdA 273 63 = some (.istore_n 3, 1, 0, 0, 0) from rfl) (by decide) (fun _ h => h) ?_
            refine z_load_n X (x := x) (show cdA 273 64 = some (.iload_n 1, 1, 0, 0, 0) from rfl) (List.Mem.tail _ (List.Mem.tail _ (List.Mem.head _))) ?_
            refine z_if_ne X (t := 76) (show cdA 273 65 = some (.ifCond .ne 11, 3, 1, 0, 0) from rfl) (by decide) ⟨by omega, by omega⟩ (fun g35 => ?_) (fun g35 => ?_)
            ·
              refine z_aload_n X (x := A 179) (show cdA 273 76 = some (.aload_n 0, 1, 0, 0, 0) from rfl) (List.Mem.tail _ (List.Mem.head _)) ?_
              refine z_load_n X (x := y) (show cdA 273 77 = some (.iload_n 2, 1, 0, 0, 0) from rfl) (List.Mem.tail _ (List.Mem.tail _ (List.Mem.tail _ (List.Mem.head _)))) ?_
              refine s_putI X 179 (show cdA 273 78 = some (.putfield 133, 3, 12, 64, 0) from rfl) (by decide) rfl rfl (by decide) rfl rfl rfl ?_
              obtain ⟨s36, hs36⟩ : ∃ x0, x0 = uI s25 103 (Int32.ofInt y) := ⟨_, rfl⟩
              rw [← hs36]
              have Is36 : Bd s36 := by rw [hs36]; exact bd_I Is25 (show (1 : Int) ≤ y ∧ y ≤ 8 by omega) ⟨by omega, by omega⟩
              have Fs36 := fm_I (x := Int32.ofInt y) Gs25 (show 103 ∈ _ by decide)
              rw [← hs36] at Fs36
              have vs36 : iI s36 103 = y := by rw [hs36]; exact iI_u ⟨by omega, by omega⟩
              have ws36_73 : iI s36 73 = iI s25 73 := by rw [hs36]; rfl
              have ws36_102 : iI s36 102 = iI s25 102 := by rw [hs36]; rfl
              have wos36 : iO s36 = iO s25 := by rw [hs36]; rfl
              refine z_load_n X (x := (iI s25 102)) (show cdA 273 81 = some (.iload_n 3, 1, 0, 0, 0) from rfl) (List.Mem.head _) ?_
              exact w_iret X.1 q hRt rfl (ax_d X (show cdA 273 82 = some (.ireturn, 1, 0, 0, 0) from rfl)) (Nat.zero_le _) (Nat.zero_le _) ⟨_, rfl, Is36, Fs36, (iI s25 102), rfl, ⟨by omega, by omega⟩, by omega⟩
            ·
              refine z_aload_n X (x := A 179) (show cdA 273 68 = some (.aload_n 0, 1, 0, 0, 0) from rfl) (List.Mem.tail _ (List.Mem.head _)) ?_
              refine z_load_n X (x := y) (show cdA 273 69 = some (.iload_n 2, 1, 0, 0, 0) from rfl) (List.Mem.tail _ (List.Mem.tail _ (List.Mem.tail _ (List.Mem.head _)))) ?_
              refine s_putI X 179 (show cdA 273 70 = some (.putfield 130, 3, 12, 63, 0) from rfl) (by decide) rfl rfl (by decide) rfl rfl rfl ?_
              obtain ⟨s37, hs37⟩ : ∃ x0, x0 = uI s25 102 (Int32.ofInt y) := ⟨_, rfl⟩
              rw [← hs37]
              have Is37 : Bd s37 := by rw [hs37]; exact bd_I Is25 (show (1 : Int) ≤ y ∧ y ≤ 24 by omega) ⟨by omega, by omega⟩
              have Fs37 := fm_I (x := Int32.ofInt y) Gs25 (show 102 ∈ _ by decide)
              rw [← hs37] at Fs37
              have vs37 : iI s37 102 = y := by rw [hs37]; exact iI_u ⟨by omega, by omega⟩
              have ws37_73 : iI s37 73 = iI s25 73 := by rw [hs37]; rfl
              have ws37_103 : iI s37 103 = iI s25 103 := by rw [hs37]; rfl
              have wos37 : iO s37 = iO s25 := by rw [hs37]; rfl
              refine z_goto X (t := 81) (show cdA 273 73 = some (.goto 8, 3, 0, 0, 0) from rfl) (by decide) ?_
              refine z_load_n X (x := (iI s25 102)) (show cdA 273 81 = some (.iload_n 3, 1, 0, 0, 0) from rfl) (List.Mem.head _) ?_
              exact w_iret X.1 q hRt rfl (ax_d X (show cdA 273 82 = some (.ireturn, 1, 0, 0, 0) from rfl)) (Nat.zero_le _) (Nat.zero_le _) ⟨_, rfl, Is37, Fs37, (iI s25 102), rfl, ⟨by omega, by omega⟩, by omega⟩
        ·
          refine z_const X (show cdA 273 46 = some (.iconst 0, 1, 0, 0, 0) from rfl) ?_
          exact w_iret X.1 q hRt rfl (ax_d X (show cdA 273 47 = some (.ireturn, 1, 0, 0, 0) from rfl)) (Nat.zero_le _) (Nat.zero_le _) ⟨_, rfl, Is25, Gs25, 0, rfl, ⟨by omega, by omega⟩, by omega⟩
      ·
        refine z_const X (show cdA 273 34 = some (.iconst 1, 1, 0, 0, 0) from rfl) ?_
        refine z_goto X (t := 39) (show cdA 273 35 = some (.goto 4, 3, 0, 0, 0) from rfl) (by decide) ?_
        refine z_const X (show cdA 273 39 = some (.iconst 1, 1, 0, 0, 0) from rfl) ?_
        refine z_callV X 179 (rm := rmN 187) (As := [.int (Int32.ofInt 1), .int (Int32.ofInt 1)]) (st := []) (show cdA 273 40 = some (.invokevirtual 229, 3, 187, 0, 0) from rfl) rfl (by decide) rfl (by rw [E.1, E.2.1, E.2.2.1]; exact k_bad2 G Is4 (by omega) (by omega)) ⟨by rw [E.2.2.2]; exact (show (rmN 187).frames + 1 ≤ (rmN 273).frames by decide), by rw [E.2.2.2]; exact (show 8 + (mNL (miB 187) + 11) + (rmN 187).locals ≤ (rmN 273).locals by decide), by rw [E.2.2.2]; exact (show 0 + (rmN 187).cells ≤ (rmN 273).cells by decide), by rw [E.2.2.2]; exact (show 0 + (rmN 187).slots ≤ (rmN 273).slots by decide)⟩ (Nat.le_of_ble_eq_true rfl) (fun vv s38 hq => ?_) (fun ee s38 hq => ?_)
        rotate_left
        · obtain ⟨Is38, Fs38, e39, hv, hrs38, hps38⟩ := hq; cases hv
        obtain ⟨Is38, Fs38, e39, hv, hrs38, hps38⟩ := hq
        cases hv
        have Gs38 := fm_ts Fs4 Fs38 (by decide) (by decide)
        have b40 : (0 : Int) ≤ iI s38 73 ∧ iI s38 73 ≤ 3 := Is38.1 73
        have ws38_102 : iI s38 102 = iI s4 102 := fm_i Fs38 (by decide)
        have ws38_103 : iI s38 103 = iI s4 103 := fm_i Fs38 (by decide)
        show WS k 43 [(0, .ref (A 179)), (1, .int (Int32.ofInt x)), (2, .int (Int32.ofInt y))] [.int (Int32.ofInt e39)] (Wd A dT s38) 0 0
        refine z_if_eq X (t := 48) (show cdA 273 43 = some (.ifCond .eq 5, 3, 0, 0, 0) from rfl) (by decide) ⟨by omega, by omega⟩ (fun g41 => ?_) (fun g41 => ?_)
        ·
          refine z_load_n X (x := x) (show cdA 273 48 = some (.iload_n 1, 1, 0, 0, 0) from rfl) (List.Mem.tail _ (List.Mem.head _)) ?_
          refine z_if_ne X (t := 59) (show cdA 273 49 = some (.ifCond .ne 10, 3, 1, 0, 0) from rfl) (by decide) ⟨by omega, by omega⟩ (fun g42 => ?_) (fun g42 => ?_)
          ·
            refine z_aload_n X (x := A 179) (show cdA 273 59 = some (.aload_n 0, 1, 0, 0, 0) from rfl) (List.Mem.head _) ?_
            refine z_getI X 179 (show cdA 273 60 = some (.getfield 133, 3, 12, 64, 0) from rfl) (by decide) rfl rfl ?_
            have b43 : (1 : Int) ≤ iI s38 103 ∧ iI s38 103 ≤ 8 := Is38.1 103
            refine z_store_n X (lv' := [(3, .int (Int32.ofInt (iI s38 103))), (0, .ref (A 179)), (1, .int (Int32.ofInt x)), (2, .int (Int32.ofInt y))]) (show cdA 273 63 = some (.istore_n 3, 1, 0, 0, 0) from rfl) (by decide) (fun _ h => h) ?_
            refine z_load_n X (x := x) (show cdA 273 64 = some (.iload_n 1, 1, 0, 0, 0) from rfl) (List.Mem.tail _ (List.Mem.tail _ (List.Mem.head _))) ?_
            refine z_if_ne X (t := 76) (show cdA 273 65 = some (.ifCond .ne 11, 3, 1, 0, 0) from rfl) (by decide) ⟨by omega, by omega⟩ (fun g44 => ?_) (fun g44 => ?_)
            ·
              refine z_aload_n X (x := A 179) (show cdA 273 76 = some (.aload_n 0, 1, 0, 0, 0) from rfl) (List.Mem.tail _ (List.Mem.head _)) ?_
              refine z_load_n X (x := y) (show cdA 273 77 = some (.iload_n 2, 1, 0, 0, 0) from rfl) (List.Mem.tail _ (List.Mem.tail _ (List.Mem.tail _ (List.Mem.head _)))) ?_
              refine s_putI X 179 (show cdA 273 78 = some (.putfield 133, 3, 12, 64, 0) from rfl) (by decide) rfl rfl (by decide) rfl rfl rfl ?_
              obtain ⟨s45, hs45⟩ : ∃ x0, x0 = uI s38 103 (Int32.ofInt y) := ⟨_, rfl⟩
              rw [← hs45]
              have Is45 : Bd s45 := by rw [hs45]; exact bd_I Is38 (show (1 : Int) ≤ y ∧ y ≤ 8 by omega) ⟨by omega, by omega⟩
              have Fs45 := fm_I (x := Int32.ofInt y) Gs38 (show 103 ∈ _ by decide)
              rw [← hs45] at Fs45
              have vs45 : iI s45 103 = y := by rw [hs45]; exact iI_u ⟨by omega, by omega⟩
              have ws45_73 : iI s45 73 = iI s38 73 := by rw [hs45]; rfl
              have ws45_102 : iI s45 102 = iI s38 102 := by rw [hs45]; rfl
              have wos45 : iO s45 = iO s38 := by rw [hs45]; rfl
              refine z_load_n X (x := (iI s38 103)) (show cdA 273 81 = some (.iload_n 3, 1, 0, 0, 0) from rfl) (List.Mem.head _) ?_
              exact w_iret X.1 q hRt rfl (ax_d X (show cdA 273 82 = some (.ireturn, 1, 0, 0, 0) from rfl)) (Nat.zero_le _) (Nat.zero_le _) ⟨_, rfl, Is45, Fs45, (iI s38 103), rfl, ⟨by omega, by omega⟩, by omega⟩
            ·
              refine z_aload_n X (x := A 179) (show cdA 273 68 = some (.aload_n 0, 1, 0, 0, 0) from rfl) (List.Mem.tail _ (List.Mem.head _)) ?_
              refine z_load_n X (x := y) (show cdA 273 69 = some (.iload_n 2, 1, 0, 0, 0) from rfl) (List.Mem.tail _ (List.Mem.tail _ (List.Mem.tail _ (List.Mem.head _)))) ?_
              refine s_putI X 179 (show cdA 273 70 = some (.putfield 130, 3, 12, 63, 0) from rfl) (by decide) rfl rfl (by decide) rfl rfl rfl ?_
              obtain ⟨s46, hs46⟩ : ∃ x0, x0 = uI s38 102 (Int32.ofInt y) := ⟨_, rfl⟩
              rw [← hs46]
              have Is46 : Bd s46 := by rw [hs46]; exact bd_I Is38 (show (1 : Int) ≤ y ∧ y ≤ 24 by omega) ⟨by omega, by omega⟩
              have Fs46 := fm_I (x := Int32.ofInt y) Gs38 (show 102 ∈ _ by decide)
              rw [← hs46] at Fs46
              have vs46 : iI s46 102 = y := by rw [hs46]; exact iI_u ⟨by omega, by omega⟩
              have ws46_73 : iI s46 73 = iI s38 73 := by rw [hs46]; rfl
              have ws46_103 : iI s46 103 = iI s38 103 := by rw [hs46]; rfl
              have wos46 : iO s46 = iO s38 := by rw [hs46]; rfl
              refine z_goto X (t := 81) (show cdA 273 73 = some (.goto 8, 3, 0, 0, 0) from rfl) (by decide) ?_
              refine z_load_n X (x := (iI s38 103)) (show cdA 273 81 = some (.iload_n 3, 1, 0, 0, 0) from rfl) (List.Mem.head _) ?_
              exact w_iret X.1 q hRt rfl (ax_d X (show cdA 273 82 = some (.ireturn, 1, 0, 0, 0) from rfl)) (Nat.zero_le _) (Nat.zero_le _) ⟨_, rfl, Is46, Fs46, (iI s38 103), rfl, ⟨by omega, by omega⟩, by omega⟩
          ·
            refine z_aload_n X (x := A 179) (show cdA 273 52 = some (.aload_n 0, 1, 0, 0, 0) from rfl) (List.Mem.head _) ?_
            refine z_getI X 179 (show cdA 273 53 = some (.getfield 130, 3, 12, 63, 0) from rfl) (by decide) rfl rfl ?_
            have b47 : (1 : Int) ≤ iI s38 102 ∧ iI s38 102 ≤ 24 := Is38.1 102
            refine z_goto X (t := 63) (show cdA 273 56 = some (.goto 7, 3, 0, 0, 0) from rfl) (by decide) ?_
            refine z_store_n X (lv' := [(3, .int (Int32.ofInt (iI s38 102))), (0, .ref (A 179)), (1, .int (Int32.ofInt x)), (2, .int (Int32.ofInt y))]) (show cdA 273 63 = some (.istore_n 3, 1, 0, 0, 0) from rfl) (by decide) (fun _ h => h) ?_
            refine z_load_n X (x := x) (show cdA 273 64 = some (.iload_n 1, 1, 0, 0, 0) from rfl) (List.Mem.tail _ (List.Mem.tail _ (List.Mem.head _))) ?_
            refine z_if_ne X (t := 76) (show cdA 273 65 = some (.ifCond .ne 11, 3, 1, 0, 0) from rfl) (by decide) ⟨by omega, by omega⟩ (fun g48 => ?_) (fun g48 => ?_)
            ·
              refine z_aload_n X (x := A 179) (show cdA 273 76 = some (.aload_n 0, 1, 0, 0, 0) from rfl) (List.Mem.tail _ (List.Mem.head _)) ?_
              refine z_load_n X (x := y) (show cdA 273 77 = some (.iload_n 2, 1, 0, 0, 0) from rfl) (List.Mem.tail _ (List.Mem.tail _ (List.Mem.tail _ (List.Mem.head _)))) ?_
              refine s_putI X 179 (show cdA 273 78 = some (.putfield 133, 3, 12, 64, 0) from rfl) (by decide) rfl rfl (by decide) rfl rfl rfl ?_
              obtain ⟨s49, hs49⟩ : ∃ x0, x0 = uI s38 103 (Int32.ofInt y) := ⟨_, rfl⟩
              rw [← hs49]
              have Is49 : Bd s49 := by rw [hs49]; exact bd_I Is38 (show (1 : Int) ≤ y ∧ y ≤ 8 by omega) ⟨by omega, by omega⟩
              have Fs49 := fm_I (x := Int32.ofInt y) Gs38 (show 103 ∈ _ by decide)
              rw [← hs49] at Fs49
              have vs49 : iI s49 103 = y := by rw [hs49]; exact iI_u ⟨by omega, by omega⟩
              have ws49_73 : iI s49 73 = iI s38 73 := by rw [hs49]; rfl
              have ws49_102 : iI s49 102 = iI s38 102 := by rw [hs49]; rfl
              have wos49 : iO s49 = iO s38 := by rw [hs49]; rfl
              refine z_load_n X (x := (iI s38 102)) (show cdA 273 81 = some (.iload_n 3, 1, 0, 0, 0) from rfl) (List.Mem.head _) ?_
              exact w_iret X.1 q hRt rfl (ax_d X (show cdA 273 82 = some (.ireturn, 1, 0, 0, 0) from rfl)) (Nat.zero_le _) (Nat.zero_le _) ⟨_, rfl, Is49, Fs49, (iI s38 102), rfl, ⟨by omega, by omega⟩, by omega⟩
            ·
              refine z_aload_n X (x := A 179) (show cdA 273 68 = some (.aload_n 0, 1, 0, 0, 0) from rfl) (List.Mem.tail _ (List.Mem.head _)) ?_
              refine z_load_n X (x := y) (show cdA 273 69 = some (.iload_n 2, 1, 0, 0, 0) from rfl) (List.Mem.tail _ (List.Mem.tail _ (List.Mem.tail _ (List.Mem.head _)))) ?_
              refine s_putI X 179 (show cdA 273 70 = some (.putfield 130, 3, 12, 63, 0) from rfl) (by decide) rfl rfl (by decide) rfl rfl rfl ?_
              obtain ⟨s50, hs50⟩ : ∃ x0, x0 = uI s38 102 (Int32.ofInt y) := ⟨_, rfl⟩
              rw [← hs50]
              have Is50 : Bd s50 := by rw [hs50]; exact bd_I Is38 (show (1 : Int) ≤ y ∧ y ≤ 24 by omega) ⟨by omega, by omega⟩
              have Fs50 := fm_I (x := Int32.ofInt y) Gs38 (show 102 ∈ _ by decide)
              rw [← hs50] at Fs50
              have vs50 : iI s50 102 = y := by rw [hs50]; exact iI_u ⟨by omega, by omega⟩
              have ws50_73 : iI s50 73 = iI s38 73 := by rw [hs50]; rfl
              have ws50_103 : iI s50 103 = iI s38 103 := by rw [hs50]; rfl
              have wos50 : iO s50 = iO s38 := by rw [hs50]; rfl
              refine z_goto X (t := 81) (show cdA 273 73 = some (.goto 8, 3, 0, 0, 0) from rfl) (by decide) ?_
              refine z_load_n X (x := (iI s38 102)) (show cdA 273 81 = some (.iload_n 3, 1, 0, 0, 0) from rfl) (List.Mem.head _) ?_
              exact w_iret X.1 q hRt rfl (ax_d X (show cdA 273 82 = some (.ireturn, 1, 0, 0, 0) from rfl)) (Nat.zero_le _) (Nat.zero_le _) ⟨_, rfl, Is50, Fs50, (iI s38 102), rfl, ⟨by omega, by omega⟩, by omega⟩
        ·
          refine z_const X (show cdA 273 46 = some (.iconst 0, 1, 0, 0, 0) from rfl) ?_
          exact w_iret X.1 q hRt rfl (ax_d X (show cdA 273 47 = some (.ireturn, 1, 0, 0, 0) from rfl)) (Nat.zero_le _) (Nat.zero_le _) ⟨_, rfl, Is38, Gs38, 0, rfl, ⟨by omega, by omega⟩, by omega⟩
    ·
      refine z_bipush X (show cdA 273 21 = some (.bipush 24, 2, 0, 0, 24) from rfl) ?_
      refine z_goto X (t := 28) (show cdA 273 23 = some (.goto 5, 3, 0, 0, 0) from rfl) (by decide) ?_
      refine z_callS X (rm := rmN 188) (As := [.int (Int32.ofInt y), .int (Int32.ofInt 1), .int (Int32.ofInt 24)]) (st := [.ref (A 179)]) (show cdA 273 28 = some (.invokestatic 209, 3, 188, 1, 0) from rfl) rfl (by rw [E.1, E.2.1, E.2.2.1]; exact k_in2 G Is4 (by omega) (by omega) (by omega)) ⟨by rw [E.2.2.2]; exact (show (rmN 188).frames + 1 ≤ (rmN 273).frames by decide), by rw [E.2.2.2]; exact (show 8 + (mNL (miB 188) + 11) + (rmN 188).locals ≤ (rmN 273).locals by decide), by rw [E.2.2.2]; exact (show 0 + (rmN 188).cells ≤ (rmN 273).cells by decide), by rw [E.2.2.2]; exact (show 0 + (rmN 188).slots ≤ (rmN 273).slots by decide)⟩ (Nat.le_of_ble_eq_true rfl) (fun vv s51 hq => ?_) (fun ee s51 hq => ?_)
      rotate_left
      · obtain ⟨rfl, e52, hv, hrs51, hps51⟩ := hq; cases hv
      obtain ⟨rfl, e52, hv, hrs51, hps51⟩ := hq
      cases hv
      show WS k 31 [(0, .ref (A 179)), (1, .int (Int32.ofInt x)), (2, .int (Int32.ofInt y))] [.int (Int32.ofInt e52), .ref (A 179)] (Wd A dT s4) 0 0
      refine z_if_ne X (t := 38) (show cdA 273 31 = some (.ifCond .ne 7, 3, 1, 0, 0) from rfl) (by decide) ⟨by omega, by omega⟩ (fun g53 => ?_) (fun g53 => ?_)
      ·
        refine z_const X (show cdA 273 38 = some (.iconst 0, 1, 0, 0, 0) from rfl) ?_
        refine z_const X (show cdA 273 39 = some (.iconst 1, 1, 0, 0, 0) from rfl) ?_
        refine z_callV X 179 (rm := rmN 187) (As := [.int (Int32.ofInt 0), .int (Int32.ofInt 1)]) (st := []) (show cdA 273 40 = some (.invokevirtual 229, 3, 187, 0, 0) from rfl) rfl (by decide) rfl (by rw [E.1, E.2.1, E.2.2.1]; exact k_bad2 G Is4 (by omega) (by omega)) ⟨by rw [E.2.2.2]; exact (show (rmN 187).frames + 1 ≤ (rmN 273).frames by decide), by rw [E.2.2.2]; exact (show 8 + (mNL (miB 187) + 11) + (rmN 187).locals ≤ (rmN 273).locals by decide), by rw [E.2.2.2]; exact (show 0 + (rmN 187).cells ≤ (rmN 273).cells by decide), by rw [E.2.2.2]; exact (show 0 + (rmN 187).slots ≤ (rmN 273).slots by decide)⟩ (Nat.le_of_ble_eq_true rfl) (fun vv s54 hq => ?_) (fun ee s54 hq => ?_)
        rotate_left
        · obtain ⟨Is54, Fs54, e55, hv, hrs54, hps54⟩ := hq; cases hv
        obtain ⟨Is54, Fs54, e55, hv, hrs54, hps54⟩ := hq
        cases hv
        have Gs54 := fm_ts Fs4 Fs54 (by decide) (by decide)
        have b56 : (0 : Int) ≤ iI s54 73 ∧ iI s54 73 ≤ 3 := Is54.1 73
        have ws54_102 : iI s54 102 = iI s4 102 := fm_i Fs54 (by decide)
        have ws54_103 : iI s54 103 = iI s4 103 := fm_i Fs54 (by decide)
        show WS k 43 [(0, .ref (A 179)), (1, .int (Int32.ofInt x)), (2, .int (Int32.ofInt y))] [.int (Int32.ofInt e55)] (Wd A dT s54) 0 0
        refine z_if_eq X (t := 48) (show cdA 273 43 = some (.ifCond .eq 5, 3, 0, 0, 0) from rfl) (by decide) ⟨by omega, by omega⟩ (fun g57 => ?_) (fun g57 => ?_)
        ·
          refine z_load_n X (x := x) (show cdA 273 48 = some (.iload_n 1, 1, 0, 0, 0) from rfl) (List.Mem.tail _ (List.Mem.head _)) ?_
          refine z_if_ne X (t := 59) (show cdA 273 49 = some (.ifCond .ne 10, 3, 1, 0, 0) from rfl) (by decide) ⟨by omega, by omega⟩ (fun g58 => ?_) (fun g58 => ?_)
          ·
            refine z_aload_n X (x := A 179) (show cdA 273 59 = some (.aload_n 0, 1, 0, 0, 0) from rfl) (List.Mem.head _) ?_
            refine z_getI X 179 (show cdA 273 60 = some (.getfield 133, 3, 12, 64, 0) from rfl) (by decide) rfl rfl ?_
            have b59 : (1 : Int) ≤ iI s54 103 ∧ iI s54 103 ≤ 8 := Is54.1 103
            refine z_store_n X (lv' := [(3, .int (Int32.ofInt (iI s54 103))), (0, .ref (A 179)), (1, .int (Int32.ofInt x)), (2, .int (Int32.ofInt y))]) (show cdA 273 63 = some (.istore_n 3, 1, 0, 0, 0) from rfl) (by decide) (fun _ h => h) ?_
            refine z_load_n X (x := x) (show cdA 273 64 = some (.iload_n 1, 1, 0, 0, 0) from rfl) (List.Mem.tail _ (List.Mem.tail _ (List.Mem.head _))) ?_
            refine z_if_ne X (t := 76) (show cdA 273 65 = some (.ifCond .ne 11, 3, 1, 0, 0) from rfl) (by decide) ⟨by omega, by omega⟩ (fun g60 => ?_) (fun g60 => ?_)
            ·
              refine z_aload_n X (x := A 179) (show cdA 273 76 = some (.aload_n 0, 1, 0, 0, 0) from rfl) (List.Mem.tail _ (List.Mem.head _)) ?_
              refine z_load_n X (x := y) (show cdA 273 77 = some (.iload_n 2, 1, 0, 0, 0) from rfl) (List.Mem.tail _ (List.Mem.tail _ (List.Mem.tail _ (List.Mem.head _)))) ?_
              refine s_putI X 179 (show cdA 273 78 = some (.putfield 133, 3, 12, 64, 0) from rfl) (by decide) rfl rfl (by decide) rfl rfl rfl ?_
              obtain ⟨s61, hs61⟩ : ∃ x0, x0 = uI s54 103 (Int32.ofInt y) := ⟨_, rfl⟩
              rw [← hs61]
              have Is61 : Bd s61 := by rw [hs61]; exact bd_I Is54 (show (1 : Int) ≤ y ∧ y ≤ 8 by omega) ⟨by omega, by omega⟩
              have Fs61 := fm_I (x := Int32.ofInt y) Gs54 (show 103 ∈ _ by decide)
              rw [← hs61] at Fs61
              have vs61 : iI s61 103 = y := by rw [hs61]; exact iI_u ⟨by omega, by omega⟩
              have ws61_73 : iI s61 73 = iI s54 73 := by rw [hs61]; rfl
              have ws61_102 : iI s61 102 = iI s54 102 := by rw [hs61]; rfl
              have wos61 : iO s61 = iO s54 := by rw [hs61]; rfl
              refine z_load_n X (x := (iI s54 103)) (show cdA 273 81 = some (.iload_n 3, 1, 0, 0, 0) from rfl) (List.Mem.head _) ?_
              exact w_iret X.1 q hRt rfl (ax_d X (show cdA 273 82 = some (.ireturn, 1, 0, 0, 0) from rfl)) (Nat.zero_le _) (Nat.zero_le _) ⟨_, rfl, Is61, Fs61, (iI s54 103), rfl, ⟨by omega, by omega⟩, by omega⟩
            ·
              refine z_aload_n X (x := A 179) (show cdA 273 68 = some (.aload_n 0, 1, 0, 0, 0) from rfl) (List.Mem.tail _ (List.Mem.head _)) ?_
              refine z_load_n X (x := y) (show cdA 273 69 = some (.iload_n 2, 1, 0, 0, 0) from rfl) (List.Mem.tail _ (List.Mem.tail _ (List.Mem.tail _ (List.Mem.head _)))) ?_
              refine s_putI X 179 (show cdA 273 70 = some (.putfield 130, 3, 12, 63, 0) from rfl) (by decide) rfl rfl (by decide) rfl rfl rfl ?_
              obtain ⟨s62, hs62⟩ : ∃ x0, x0 = uI s54 102 (Int32.ofInt y) := ⟨_, rfl⟩
              rw [← hs62]
              have Is62 : Bd s62 := by rw [hs62]; exact bd_I Is54 (show (1 : Int) ≤ y ∧ y ≤ 24 by omega) ⟨by omega, by omega⟩
              have Fs62 := fm_I (x := Int32.ofInt y) Gs54 (show 102 ∈ _ by decide)
              rw [← hs62] at Fs62
              have vs62 : iI s62 102 = y := by rw [hs62]; exact iI_u ⟨by omega, by omega⟩
              have ws62_73 : iI s62 73 = iI s54 73 := by rw [hs62]; rfl
              have ws62_103 : iI s62 103 = iI s54 103 := by rw [hs62]; rfl
              have wos62 : iO s62 = iO s54 := by rw [hs62]; rfl
              refine z_goto X (t := 81) (show cdA 273 73 = some (.goto 8, 3, 0, 0, 0) from rfl) (by decide) ?_
              refine z_load_n X (x := (iI s54 103)) (show cdA 273 81 = some (.iload_n 3, 1, 0, 0, 0) from rfl) (List.Mem.head _) ?_
              exact w_iret X.1 q hRt rfl (ax_d X (show cdA 273 82 = some (.ireturn, 1, 0, 0, 0) from rfl)) (Nat.zero_le _) (Nat.zero_le _) ⟨_, rfl, Is62, Fs62, (iI s54 103), rfl, ⟨by omega, by omega⟩, by omega⟩
          ·
            refine z_aload_n X (x := A 179) (show cdA 273 52 = some (.aload_n 0, 1, 0, 0, 0) from rfl) (List.Mem.head _) ?_
            refine z_getI X 179 (show cdA 273 53 = some (.getfield 130, 3, 12, 63, 0) from rfl) (by decide) rfl rfl ?_
            have b63 : (1 : Int) ≤ iI s54 102 ∧ iI s54 102 ≤ 24 := Is54.1 102
            refine z_goto X (t := 63) (show cdA 273 56 = some (.goto 7, 3, 0, 0, 0) from rfl) (by decide) ?_
            refine z_store_n X (lv' := [(3, .int (Int32.ofInt (iI s54 102))), (0, .ref (A 179)), (1, .int (Int32.ofInt x)), (2, .int (Int32.ofInt y))]) (show cdA 273 63 = some (.istore_n 3, 1, 0, 0, 0) from rfl) (by decide) (fun _ h => h) ?_
            refine z_load_n X (x := x) (show cdA 273 64 = some (.iload_n 1, 1, 0, 0, 0) from rfl) (List.Mem.tail _ (List.Mem.tail _ (List.Mem.head _))) ?_
            refine z_if_ne X (t := 76) (show cdA 273 65 = some (.ifCond .ne 11, 3, 1, 0, 0) from rfl) (by decide) ⟨by omega, by omega⟩ (fun g64 => ?_) (fun g64 => ?_)
            ·
              refine z_aload_n X (x := A 179) (show cdA 273 76 = some (.aload_n 0, 1, 0, 0, 0) from rfl) (List.Mem.tail _ (List.Mem.head _)) ?_
              refine z_load_n X (x := y) (show cdA 273 77 = some (.iload_n 2, 1, 0, 0, 0) from rfl) (List.Mem.tail _ (List.Mem.tail _ (List.Mem.tail _ (List.Mem.head _)))) ?_
              refine s_putI X 179 (show cdA 273 78 = some (.putfield 133, 3, 12, 64, 0) from rfl) (by decide) rfl rfl (by decide) rfl rfl rfl ?_
              obtain ⟨s65, hs65⟩ : ∃ x0, x0 = uI s54 103 (Int32.ofInt y) := ⟨_, rfl⟩
              rw [← hs65]
              have Is65 : Bd s65 := by rw [hs65]; exact bd_I Is54 (show (1 : Int) ≤ y ∧ y ≤ 8 by omega) ⟨by omega, by omega⟩
              have Fs65 := fm_I (x := Int32.ofInt y) Gs54 (show 103 ∈ _ by decide)
              rw [← hs65] at Fs65
              have vs65 : iI s65 103 = y := by rw [hs65]; exact iI_u ⟨by omega, by omega⟩
              have ws65_73 : iI s65 73 = iI s54 73 := by rw [hs65]; rfl
              have ws65_102 : iI s65 102 = iI s54 102 := by rw [hs65]; rfl
              have wos65 : iO s65 = iO s54 := by rw [hs65]; rfl
              refine z_load_n X (x := (iI s54 102)) (show cdA 273 81 = some (.iload_n 3, 1, 0, 0, 0) from rfl) (List.Mem.head _) ?_
              exact w_iret X.1 q hRt rfl (ax_d X (show cdA 273 82 = some (.ireturn, 1, 0, 0, 0) from rfl)) (Nat.zero_le _) (Nat.zero_le _) ⟨_, rfl, Is65, Fs65, (iI s54 102), rfl, ⟨by omega, by omega⟩, by omega⟩
            ·
              refine z_aload_n X (x := A 179) (show cdA 273 68 = some (.aload_n 0, 1, 0, 0, 0) from rfl) (List.Mem.tail _ (List.Mem.head _)) ?_
              refine z_load_n X (x := y) (show cdA 273 69 = some (.iload_n 2, 1, 0, 0, 0) from rfl) (List.Mem.tail _ (List.Mem.tail _ (List.Mem.tail _ (List.Mem.head _)))) ?_
              refine s_putI X 179 (show cdA 273 70 = some (.putfield 130, 3, 12, 63, 0) from rfl) (by decide) rfl rfl (by decide) rfl rfl rfl ?_
              obtain ⟨s66, hs66⟩ : ∃ x0, x0 = uI s54 102 (Int32.ofInt y) := ⟨_, rfl⟩
              rw [← hs66]
              have Is66 : Bd s66 := by rw [hs66]; exact bd_I Is54 (show (1 : Int) ≤ y ∧ y ≤ 24 by omega) ⟨by omega, by omega⟩
              have Fs66 := fm_I (x := Int32.ofInt y) Gs54 (show 102 ∈ _ by decide)
              rw [← hs66] at Fs66
              have vs66 : iI s66 102 = y := by rw [hs66]; exact iI_u ⟨by omega, by omega⟩
              have ws66_73 : iI s66 73 = iI s54 73 := by rw [hs66]; rfl
              have ws66_103 : iI s66 103 = iI s54 103 := by rw [hs66]; rfl
              have wos66 : iO s66 = iO s54 := by rw [hs66]; rfl
              refine z_goto X (t := 81) (show cdA 273 73 = some (.goto 8, 3, 0, 0, 0) from rfl) (by decide) ?_
              refine z_load_n X (x := (iI s54 102)) (show cdA 273 81 = some (.iload_n 3, 1, 0, 0, 0) from rfl) (List.Mem.head _) ?_
              exact w_iret X.1 q hRt rfl (ax_d X (show cdA 273 82 = some (.ireturn, 1, 0, 0, 0) from rfl)) (Nat.zero_le _) (Nat.zero_le _) ⟨_, rfl, Is66, Fs66, (iI s54 102), rfl, ⟨by omega, by omega⟩, by omega⟩
        ·
          refine z_const X (show cdA 273 46 = some (.iconst 0, 1, 0, 0, 0) from rfl) ?_
          exact w_iret X.1 q hRt rfl (ax_d X (show cdA 273 47 = some (.ireturn, 1, 0, 0, 0) from rfl)) (Nat.zero_le _) (Nat.zero_le _) ⟨_, rfl, Is54, Gs54, 0, rfl, ⟨by omega, by omega⟩, by omega⟩
      ·
        refine z_const X (show cdA 273 34 = some (.iconst 1, 1, 0, 0, 0) from rfl) ?_
        refine z_goto X (t := 39) (show cdA 273 35 = some (.goto 4, 3, 0, 0, 0) from rfl) (by decide) ?_
        refine z_const X (show cdA 273 39 = some (.iconst 1, 1, 0, 0, 0) from rfl) ?_
        refine z_callV X 179 (rm := rmN 187) (As := [.int (Int32.ofInt 1), .int (Int32.ofInt 1)]) (st := []) (show cdA 273 40 = some (.invokevirtual 229, 3, 187, 0, 0) from rfl) rfl (by decide) rfl (by rw [E.1, E.2.1, E.2.2.1]; exact k_bad2 G Is4 (by omega) (by omega)) ⟨by rw [E.2.2.2]; exact (show (rmN 187).frames + 1 ≤ (rmN 273).frames by decide), by rw [E.2.2.2]; exact (show 8 + (mNL (miB 187) + 11) + (rmN 187).locals ≤ (rmN 273).locals by decide), by rw [E.2.2.2]; exact (show 0 + (rmN 187).cells ≤ (rmN 273).cells by decide), by rw [E.2.2.2]; exact (show 0 + (rmN 187).slots ≤ (rmN 273).slots by decide)⟩ (Nat.le_of_ble_eq_true rfl) (fun vv s67 hq => ?_) (fun ee s67 hq => ?_)
        rotate_left
        · obtain ⟨Is67, Fs67, e68, hv, hrs67, hps67⟩ := hq; cases hv
        obtain ⟨Is67, Fs67, e68, hv, hrs67, hps67⟩ := hq
        cases hv
        have Gs67 := fm_ts Fs4 Fs67 (by decide) (by decide)
        have b69 : (0 : Int) ≤ iI s67 73 ∧ iI s67 73 ≤ 3 := Is67.1 73
        have ws67_102 : iI s67 102 = iI s4 102 := fm_i Fs67 (by decide)
        have ws67_103 : iI s67 103 = iI s4 103 := fm_i Fs67 (by decide)
        show WS k 43 [(0, .ref (A 179)), (1, .int (Int32.ofInt x)), (2, .int (Int32.ofInt y))] [.int (Int32.ofInt e68)] (Wd A dT s67) 0 0
        refine z_if_eq X (t := 48) (show cdA 273 43 = some (.ifCond .eq 5, 3, 0, 0, 0) from rfl) (by decide) ⟨by omega, by omega⟩ (fun g70 => ?_) (fun g70 => ?_)
        ·
          refine z_load_n X (x := x) (show cdA 273 48 = some (.iload_n 1, 1, 0, 0, 0) from rfl) (List.Mem.tail _ (List.Mem.head _)) ?_
          refine z_if_ne X (t := 59) (show cdA 273 49 = some (.ifCond .ne 10, 3, 1, 0, 0) from rfl) (by decide) ⟨by omega, by omega⟩ (fun g71 => ?_) (fun g71 => ?_)
          ·
            refine z_aload_n X (x := A 179) (show cdA 273 59 = some (.aload_n 0, 1, 0, 0, 0) from rfl) (List.Mem.head _) ?_
            refine z_getI X 179 (show cdA 273 60 = some (.getfield 133, 3, 12, 64, 0) from rfl) (by decide) rfl rfl ?_
            have b72 : (1 : Int) ≤ iI s67 103 ∧ iI s67 103 ≤ 8 := Is67.1 103
            refine z_store_n X (lv' := [(3, .int (Int32.ofInt (iI s67 103))), (0, .ref (A 179)), (1, .int (Int32.ofInt x)), (2, .int (Int32.ofInt y))]) (show cdA 273 63 = some (.istore_n 3, 1, 0, 0, 0) from rfl) (by decide) (fun _ h => h) ?_
            refine z_load_n X (x := x) (show cdA 273 64 = some (.iload_n 1, 1, 0, 0, 0) from rfl) (List.Mem.tail _ (List.Mem.tail _ (List.Mem.head _))) ?_
            refine z_if_ne X (t := 76) (show cdA 273 65 = some (.ifCond .ne 11, 3, 1, 0, 0) from rfl) (by decide) ⟨by omega, by omega⟩ (fun g73 => ?_) (fun g73 => ?_)
            ·
              refine z_aload_n X (x := A 179) (show cdA 273 76 = some (.aload_n 0, 1, 0, 0, 0) from rfl) (List.Mem.tail _ (List.Mem.head _)) ?_
              refine z_load_n X (x := y) (show cdA 273 77 = some (.iload_n 2, 1, 0, 0, 0) from rfl) (List.Mem.tail _ (List.Mem.tail _ (List.Mem.tail _ (List.Mem.head _)))) ?_
              refine s_putI X 179 (show cdA 273 78 = some (.putfield 133, 3, 12, 64, 0) from rfl) (by decide) rfl rfl (by decide) rfl rfl rfl ?_
              obtain ⟨s74, hs74⟩ : ∃ x0, x0 = uI s67 103 (Int32.ofInt y) := ⟨_, rfl⟩
              rw [← hs74]
              have Is74 : Bd s74 := by rw [hs74]; exact bd_I Is67 (show (1 : Int) ≤ y ∧ y ≤ 8 by omega) ⟨by omega, by omega⟩
              have Fs74 := fm_I (x := Int32.ofInt y) Gs67 (show 103 ∈ _ by decide)
              rw [← hs74] at Fs74
              have vs74 : iI s74 103 = y := by rw [hs74]; exact iI_u ⟨by omega, by omega⟩
              have ws74_73 : iI s74 73 = iI s67 73 := by rw [hs74]; rfl
              have ws74_102 : iI s74 102 = iI s67 102 := by rw [hs74]; rfl
              have wos74 : iO s74 = iO s67 := by rw [hs74]; rfl
              refine z_load_n X (x := (iI s67 103)) (show cdA 273 81 = some (.iload_n 3, 1, 0, 0, 0) from rfl) (List.Mem.head _) ?_
              exact w_iret X.1 q hRt rfl (ax_d X (show cdA 273 82 = some (.ireturn, 1, 0, 0, 0) from rfl)) (Nat.zero_le _) (Nat.zero_le _) ⟨_, rfl, Is74, Fs74, (iI s67 103), rfl, ⟨by omega, by omega⟩, by omega⟩
            ·
              refine z_aload_n X (x := A 179) (show cdA 273 68 = some (.aload_n 0, 1, 0, 0, 0) from rfl) (List.Mem.tail _ (List.Mem.head _)) ?_
              refine z_load_n X (x := y) (show cdA 273 69 = some (.iload_n 2, 1, 0, 0, 0) from rfl) (List.Mem.tail _ (List.Mem.tail _ (List.Mem.tail _ (List.Mem.head _)))) ?_
              refine s_putI X 179 (show cdA 273 70 = some (.putfield 130, 3, 12, 63, 0) from rfl) (by decide) rfl rfl (by decide) rfl rfl rfl ?_
              obtain ⟨s75, hs75⟩ : ∃ x0, x0 = uI s67 102 (Int32.ofInt y) := ⟨_, rfl⟩
              rw [← hs75]
              have Is75 : Bd s75 := by rw [hs75]; exact bd_I Is67 (show (1 : Int) ≤ y ∧ y ≤ 24 by omega) ⟨by omega, by omega⟩
              have Fs75 := fm_I (x := Int32.ofInt y) Gs67 (show 102 ∈ _ by decide)
              rw [← hs75] at Fs75
              have vs75 : iI s75 102 = y := by rw [hs75]; exact iI_u ⟨by omega, by omega⟩
              have ws75_73 : iI s75 73 = iI s67 73 := by rw [hs75]; rfl
              have ws75_103 : iI s75 103 = iI s67 103 := by rw [hs75]; rfl
              have wos75 : iO s75 = iO s67 := by rw [hs75]; rfl
              refine z_goto X (t := 81) (show cdA 273 73 = some (.goto 8, 3, 0, 0, 0) from rfl) (by decide) ?_
              refine z_load_n X (x := (iI s67 103)) (show cdA 273 81 = some (.iload_n 3, 1, 0, 0, 0) from rfl) (List.Mem.head _) ?_
              exact w_iret X.1 q hRt rfl (ax_d X (show cdA 273 82 = some (.ireturn, 1, 0, 0, 0) from rfl)) (Nat.zero_le _) (Nat.zero_le _) ⟨_, rfl, Is75, Fs75, (iI s67 103), rfl, ⟨by omega, by omega⟩, by omega⟩
          ·
            refine z_aload_n X (x := A 179) (show cdA 273 52 = some (.aload_n 0, 1, 0, 0, 0) from rfl) (List.Mem.head _) ?_
            refine z_getI X 179 (show cdA 273 53 = some (.getfield 130, 3, 12, 63, 0) from rfl) (by decide) rfl rfl ?_
            have b76 : (1 : Int) ≤ iI s67 102 ∧ iI s67 102 ≤ 24 := Is67.1 102
            refine z_goto X (t := 63) (show cdA 273 56 = some (.goto 7, 3, 0, 0, 0) from rfl) (by decide) ?_
            refine z_store_n X (lv' := [(3, .int (Int32.ofInt (iI s67 102))), (0, .ref (A 179)), (1, .int (Int32.ofInt x)), (2, .int (Int32.ofInt y))]) (show cdA 273 63 = some (.istore_n 3, 1, 0, 0, 0) from rfl) (by decide) (fun _ h => h) ?_
            refine z_load_n X (x := x) (show cdA 273 64 = some (.iload_n 1, 1, 0, 0, 0) from rfl) (List.Mem.tail _ (List.Mem.tail _ (List.Mem.head _))) ?_
            refine z_if_ne X (t := 76) (show cdA 273 65 = some (.ifCond .ne 11, 3, 1, 0, 0) from rfl) (by decide) ⟨by omega, by omega⟩ (fun g77 => ?_) (fun g77 => ?_)
            ·
              refine z_aload_n X (x := A 179) (show cdA 273 76 = some (.aload_n 0, 1, 0, 0, 0) from rfl) (List.Mem.tail _ (List.Mem.head _)) ?_
              refine z_load_n X (x := y) (show cdA 273 77 = some (.iload_n 2, 1, 0, 0, 0) from rfl) (List.Mem.tail _ (List.Mem.tail _ (List.Mem.tail _ (List.Mem.head _)))) ?_
              refine s_putI X 179 (show cdA 273 78 = some (.putfield 133, 3, 12, 64, 0) from rfl) (by decide) rfl rfl (by decide) rfl rfl rfl ?_
              obtain ⟨s78, hs78⟩ : ∃ x0, x0 = uI s67 103 (Int32.ofInt y) := ⟨_, rfl⟩
              rw [← hs78]
              have Is78 : Bd s78 := by rw [hs78]; exact bd_I Is67 (show (1 : Int) ≤ y ∧ y ≤ 8 by omega) ⟨by omega, by omega⟩
              have Fs78 := fm_I (x := Int32.ofInt y) Gs67 (show 103 ∈ _ by decide)
              rw [← hs78] at Fs78
              have vs78 : iI s78 103 = y := by rw [hs78]; exact iI_u ⟨by omega, by omega⟩
              have ws78_73 : iI s78 73 = iI s67 73 := by rw [hs78]; rfl
              have ws78_102 : iI s78 102 = iI s67 102 := by rw [hs78]; rfl
              have wos78 : iO s78 = iO s67 := by rw [hs78]; rfl
              refine z_load_n X (x := (iI s67 102)) (show cdA 273 81 = some (.iload_n 3, 1, 0, 0, 0) from rfl) (List.Mem.head _) ?_
              exact w_iret X.1 q hRt rfl (ax_d X (show cdA 273 82 = some (.ireturn, 1, 0, 0, 0) from rfl)) (Nat.zero_le _) (Nat.zero_le _) ⟨_, rfl, Is78, Fs78, (iI s67 102), rfl, ⟨by omega, by omega⟩, by omega⟩
            ·
              refine z_aload_n X (x := A 179) (show cdA 273 68 = some (.aload_n 0, 1, 0, 0, 0) from rfl) (List.Mem.tail _ (List.Mem.head _)) ?_
              refine z_load_n X (x := y) (show cdA 273 69 = some (.iload_n 2, 1, 0, 0, 0) from rfl) (List.Mem.tail _ (List.Mem.tail _ (List.Mem.tail _ (List.Mem.head _)))) ?_
              refine s_putI X 179 (show cdA 273 70 = some (.putfield 130, 3, 12, 63, 0) from rfl) (by decide) rfl rfl (by decide) rfl rfl rfl ?_
              obtain ⟨s79, hs79⟩ : ∃ x0, x0 = uI s67 102 (Int32.ofInt y) := ⟨_, rfl⟩
              rw [← hs79]
              have Is79 : Bd s79 := by rw [hs79]; exact bd_I Is67 (show (1 : Int) ≤ y ∧ y ≤ 24 by omega) ⟨by omega, by omega⟩
              have Fs79 := fm_I (x := Int32.ofInt y) Gs67 (show 102 ∈ _ by decide)
              rw [← hs79] at Fs79
              have vs79 : iI s79 102 = y := by rw [hs79]; exact iI_u ⟨by omega, by omega⟩
              have ws79_73 : iI s79 73 = iI s67 73 := by rw [hs79]; rfl
              have ws79_103 : iI s79 103 = iI s67 103 := by rw [hs79]; rfl
              have wos79 : iO s79 = iO s67 := by rw [hs79]; rfl
              refine z_goto X (t := 81) (show cdA 273 73 = some (.goto 8, 3, 0, 0, 0) from rfl) (by decide) ?_
              refine z_load_n X (x := (iI s67 102)) (show cdA 273 81 = some (.iload_n 3, 1, 0, 0, 0) from rfl) (List.Mem.head _) ?_
              exact w_iret X.1 q hRt rfl (ax_d X (show cdA 273 82 = some (.ireturn, 1, 0, 0, 0) from rfl)) (Nat.zero_le _) (Nat.zero_le _) ⟨_, rfl, Is79, Fs79, (iI s67 102), rfl, ⟨by omega, by omega⟩, by omega⟩
        ·
          refine z_const X (show cdA 273 46 = some (.iconst 0, 1, 0, 0, 0) from rfl) ?_
          exact w_iret X.1 q hRt rfl (ax_d X (show cdA 273 47 = some (.ireturn, 1, 0, 0, 0) from rfl)) (Nat.zero_le _) (Nat.zero_le _) ⟨_, rfl, Is67, Gs67, 0, rfl, ⟨by omega, by omega⟩, by omega⟩
theorem k_configure2 (G : GX l s0 D tys a0 dT) (I : Bd s) {x : Int} (p0 : rng x) : CT l s0 D A dT 264 (rmN 264) [.ref (A 179), .int (Int32.ofInt x)] s (fun o t => Bd t ∧ Fm [73, 99] [237] s t ∧ ∃ e, o = .inl (some (.int (Int32.ofInt e))) ∧ rng e ∧ (((0 ≤ x ∧ x < 16777216 ∧ iI t 73 = 0 ∧ ((iI s 99 = 6 ∧ e = -1 ∧ iI t 99 = 6) ∨ (iI s 99 ≠ 6 ∧ e = iI s 99 ∧ iI t 99 = iI s 99 + 1))) ∨ ((x < 0 ∨ 16777216 ≤ x) ∧ iI t 73 = 1 ∧ iI t 99 = iI s 99)) ∧ iO t = iO s)) := by
  refine ct_of G (by decide) (Nat.le_of_ble_eq_true rfl) (fun k X E hRt hXt q => ?_)
  show WS k 0 [(0, .ref (A 179)), (1, .int (Int32.ofInt x))] [] _ 0 0
  have F : Fm [73, 99] [237] s s := fm_rf _ _ s
  have b1 : (0 : Int) ≤ iI s 73 ∧ iI s 73 ≤ 3 := I.1 73
  have b2 : (0 : Int) ≤ iI s 99 ∧ iI s 99 ≤ 6 := I.1 99
  refine z_aload_n X (x := A 179) (show cdA 264 0 = some (.aload_n 0, 1, 0, 0, 0) from rfl) (List.Mem.head _) ?_
  refine z_const X (show cdA 264 1 = some (.iconst 0, 1, 0, 0, 0) from rfl) ?_
  refine s_putI X 179 (show cdA 264 2 = some (.putfield 172, 3, 12, 0, 0) from rfl) (by decide) rfl rfl (by decide) rfl rfl rfl ?_
  obtain ⟨s3, hs3⟩ : ∃ x0, x0 = uI s 73 (Int32.ofInt 0) := ⟨_, rfl⟩
  rw [← hs3]
  have Is3 : Bd s3 := by rw [hs3]; exact bd_I I (show (0 : Int) ≤ 0 ∧ 0 ≤ 3 by omega) ⟨by omega, by omega⟩
  have Fs3 := fm_I (x := Int32.ofInt 0) F (show 73 ∈ _ by decide)
  rw [← hs3] at Fs3
  have vs3 : iI s3 73 = 0 := by rw [hs3]; exact iI_u ⟨by omega, by omega⟩
  have ws3_99 : iI s3 99 = iI s 99 := by rw [hs3]; rfl
  have wos3 : iO s3 = iO s := by rw [hs3]; rfl
  refine z_aload_n X (x := A 179) (show cdA 264 5 = some (.aload_n 0, 1, 0, 0, 0) from rfl) (List.Mem.head _) ?_
  refine z_load_n X (x := x) (show cdA 264 6 = some (.iload_n 1, 1, 0, 0, 0) from rfl) (List.Mem.tail _ (List.Mem.head _)) ?_
  refine z_if_lt X (t := 17) (show cdA 264 7 = some (.ifCond .lt 10, 3, 2, 0, 0) from rfl) (by decide) ⟨by omega, by omega⟩ (fun g4 => ?_) (fun g4 => ?_)
  ·
    refine z_const X (show cdA 264 17 = some (.iconst 1, 1, 0, 0, 0) from rfl) ?_
    refine z_goto X (t := 22) (show cdA 264 18 = some (.goto 4, 3, 0, 0, 0) from rfl) (by decide) ?_
    refine z_const X (show cdA 264 22 = some (.iconst 1, 1, 0, 0, 0) from rfl) ?_
    refine z_callV X 179 (rm := rmN 187) (As := [.int (Int32.ofInt 1), .int (Int32.ofInt 1)]) (st := []) (show cdA 264 23 = some (.invokevirtual 229, 3, 187, 0, 0) from rfl) rfl (by decide) rfl (by rw [E.1, E.2.1, E.2.2.1]; exact k_bad2 G Is3 (by omega) (by omega)) ⟨by rw [E.2.2.2]; exact (show (rmN 187).frames + 1 ≤ (rmN 264).frames by decide), by rw [E.2.2.2]; exact (show 8 + (mNL (miB 187) + 11) + (rmN 187).locals ≤ (rmN 264).locals by decide), by rw [E.2.2.2]; exact (show 0 + (rmN 187).cells ≤ (rmN 264).cells by decide), by rw [E.2.2.2]; exact (show 0 + (rmN 187).slots ≤ (rmN 264).slots by decide)⟩ (Nat.le_of_ble_eq_true rfl) (fun vv s5 hq => ?_) (fun ee s5 hq => ?_)
    rotate_left
    · obtain ⟨Is5, Fs5, e6, hv, hrs5, hps5⟩ := hq; cases hv
    obtain ⟨Is5, Fs5, e6, hv, hrs5, hps5⟩ := hq
    cases hv
    have Gs5 := fm_ts Fs3 Fs5 (by decide) (by decide)
    have b7 : (0 : Int) ≤ iI s5 73 ∧ iI s5 73 ≤ 3 := Is5.1 73
    have ws5_99 : iI s5 99 = iI s3 99 := fm_i Fs5 (by decide)
    show WS k 26 [(0, .ref (A 179)), (1, .int (Int32.ofInt x))] [.int (Int32.ofInt e6)] (Wd A dT s5) 0 0
    refine z_if_eq X (t := 31) (show cdA 264 26 = some (.ifCond .eq 5, 3, 0, 0, 0) from rfl) (by decide) ⟨by omega, by omega⟩ (fun g8 => ?_) (fun g8 => ?_)
    ·
      refine z_aload_n X (x := A 179) (show cdA 264 31 = some (.aload_n 0, 1, 0, 0, 0) from rfl) (List.Mem.head _) ?_
      refine z_getI X 179 (show cdA 264 32 = some (.getfield 404, 3, 12, 48, 0) from rfl) (by decide) rfl rfl ?_
      have b9 : (0 : Int) ≤ iI s5 99 ∧ iI s5 99 ≤ 6 := Is5.1 99
      refine z_bipush X (show cdA 264 35 = some (.bipush 6, 2, 0, 0, 6) from rfl) ?_
      refine z_icmp_ne X (t := 42) (show cdA 264 37 = some (.if_icmp .ne 5, 3, 1, 0, 0) from rfl) (by decide) ⟨by omega, by omega⟩ ⟨by omega, by omega⟩ (fun g10 => ?_) (fun g10 => ?_)
      ·
        refine z_aload_n X (x := A 179) (show cdA 264 42 = some (.aload_n 0, 1, 0, 0, 0) from rfl) (List.Mem.head _) ?_
        refine s_getR X 179 (show cdA 264 43 = some (.getfield 101, 3, 12, 52, 0) from rfl) (by decide) rfl rfl ?_
        refine z_aload_n X (x := A 179) (show cdA 264 46 = some (.aload_n 0, 1, 0, 0, 0) from rfl) (List.Mem.head _) ?_
        refine z_getI X 179 (show cdA 264 47 = some (.getfield 404, 3, 12, 48, 0) from rfl) (by decide) rfl rfl ?_
        have b11 : (0 : Int) ≤ iI s5 99 ∧ iI s5 99 ≤ 6 := Is5.1 99
        refine z_load_n X (x := x) (show cdA 264 50 = some (.iload_n 1, 1, 0, 0, 0) from rfl) (List.Mem.tail _ (List.Mem.head _)) ?_
        refine z_ast X 265 (show cdA 264 51 = some (.iastore, 1, 0, 0, 0) from rfl) (by decide) rfl (by omega) (show (iI s5 99) < 6 by omega) (by decide) ?_
        obtain ⟨s12, hs12⟩ : ∃ x0, x0 = uC s5 237 ((iI s5 99)).toNat (Int32.ofInt x) := ⟨_, rfl⟩
        rw [← hs12]
        have Is12 : Bd s12 := by rw [hs12]; exact bd_C Is5 (show (0 : Int) ≤ x ∧ x ≤ 16777215 by omega) ⟨by omega, by omega⟩
        have Fs12 := fm_C (i := ((iI s5 99)).toNat) (x := Int32.ofInt x) Gs5 (show 237 ∈ _ by decide)
        rw [← hs12] at Fs12
        have ws12_73 : iI s12 73 = iI s5 73 := by rw [hs12]; rfl
        have ws12_99 : iI s12 99 = iI s5 99 := by rw [hs12]; rfl
        have wos12 : iO s12 = iO s5 := by rw [hs12]; rfl
        refine z_aload_n X (x := A 179) (show cdA 264 52 = some (.aload_n 0, 1, 0, 0, 0) from rfl) (List.Mem.head _) ?_
        refine w_dup X.1 (ax_d X (show cdA 264 53 = some (.dup, 1, 0, 0, 0) from rfl)) rfl ?_
        refine z_getI X 179 (show cdA 264 54 = some (.getfield 404, 3, 12, 48, 0) from rfl) (by decide) rfl rfl ?_
        have b13 : (0 : Int) ≤ iI s12 99 ∧ iI s12 99 ≤ 6 := Is12.1 99
        refine z_const X (show cdA 264 57 = some (.iconst 1, 1, 0, 0, 0) from rfl) ?_
        refine z_add X (show cdA 264 58 = some (.iadd, 1, 0, 0, 0) from rfl) ?_
        refine s_putI X 179 (show cdA 264 59 = some (.putfield 404, 3, 12, 48, 0) from rfl) (by decide) rfl rfl (by decide) rfl rfl rfl ?_
        obtain ⟨s14, hs14⟩ : ∃ x0, x0 = uI s12 99 (Int32.ofInt ((iI s12 99) + 1)) := ⟨_, rfl⟩
        rw [← hs14]
        have Is14 : Bd s14 := by rw [hs14]; exact bd_I Is12 (show (0 : Int) ≤ ((iI s12 99) + 1) ∧ ((iI s12 99) + 1) ≤ 6 by omega) ⟨by omega, by omega⟩
        have Fs14 := fm_I (x := Int32.ofInt ((iI s12 99) + 1)) Fs12 (show 99 ∈ _ by decide)
        rw [← hs14] at Fs14
        have vs14 : iI s14 99 = ((iI s12 99) + 1) := by rw [hs14]; exact iI_u ⟨by omega, by omega⟩
        have ws14_73 : iI s14 73 = iI s12 73 := by rw [hs14]; rfl
        have wos14 : iO s14 = iO s12 := by rw [hs14]; rfl
        refine z_aload_n X (x := A 179) (show cdA 264 62 = some (.aload_n 0, 1, 0, 0, 0) from rfl) (List.Mem.head _) ?_
        refine z_getI X 179 (show cdA 264 63 = some (.getfield 404, 3, 12, 48, 0) from rfl) (by decide) rfl rfl ?_
        have b15 : (0 : Int) ≤ iI s14 99 ∧ iI s14 99 ≤ 6 := Is14.1 99
        refine z_const X (show cdA 264 66 = some (.iconst 1, 1, 0, 0, 0) from rfl) ?_
        refine z_sub X (show cdA 264 67 = some (.isub, 1, 0, 0, 0) from rfl) ?_
        exact w_iret X.1 q hRt rfl (ax_d X (show cdA 264 68 = some (.ireturn, 1, 0, 0, 0) from rfl)) (Nat.zero_le _) (Nat.zero_le _) ⟨_, rfl, Is14, Fs14, ((iI s14 99) - 1), rfl, ⟨by omega, by omega⟩, by omega⟩
      ·
        refine z_const X (show cdA 264 40 = some (.iconst (-1), 1, 0, 0, 0) from rfl) ?_
        exact w_iret X.1 q hRt rfl (ax_d X (show cdA 264 41 = some (.ireturn, 1, 0, 0, 0) from rfl)) (Nat.zero_le _) (Nat.zero_le _) ⟨_, rfl, Is5, Gs5, (-1), rfl, ⟨by omega, by omega⟩, by omega⟩
    ·
      refine z_const X (show cdA 264 29 = some (.iconst 0, 1, 0, 0, 0) from rfl) ?_
      exact w_iret X.1 q hRt rfl (ax_d X (show cdA 264 30 = some (.ireturn, 1, 0, 0, 0) from rfl)) (Nat.zero_le _) (Nat.zero_le _) ⟨_, rfl, Is5, Gs5, 0, rfl, ⟨by omega, by omega⟩, by omega⟩
  ·
    refine z_load_n X (x := x) (show cdA 264 10 = some (.iload_n 1, 1, 0, 0, 0) from rfl) (List.Mem.tail _ (List.Mem.head _)) ?_
    refine z_ldcw X (show cdA 264 11 = some (.ldc_w 403, 3, 0, 0, 16777216) from rfl) ?_
    refine z_icmp_lt X (t := 21) (show cdA 264 14 = some (.if_icmp .lt 7, 3, 2, 0, 0) from rfl) (by decide) ⟨by omega, by omega⟩ ⟨by omega, by omega⟩ (fun g16 => ?_) (fun g16 => ?_)
    ·
      refine z_const X (show cdA 264 21 = some (.iconst 0, 1, 0, 0, 0) from rfl) ?_
      refine z_const X (show cdA 264 22 = some (.iconst 1, 1, 0, 0, 0) from rfl) ?_
      refine z_callV X 179 (rm := rmN 187) (As := [.int (Int32.ofInt 0), .int (Int32.ofInt 1)]) (st := []) (show cdA 264 23 = some (.invokevirtual 229, 3, 187, 0, 0) from rfl) rfl (by decide) rfl (by rw [E.1, E.2.1, E.2.2.1]; exact k_bad2 G Is3 (by omega) (by omega)) ⟨by rw [E.2.2.2]; exact (show (rmN 187).frames + 1 ≤ (rmN 264).frames by decide), by rw [E.2.2.2]; exact (show 8 + (mNL (miB 187) + 11) + (rmN 187).locals ≤ (rmN 264).locals by decide), by rw [E.2.2.2]; exact (show 0 + (rmN 187).cells ≤ (rmN 264).cells by decide), by rw [E.2.2.2]; exact (show 0 + (rmN 187).slots ≤ (rmN 264).slots by decide)⟩ (Nat.le_of_ble_eq_true rfl) (fun vv s17 hq => ?_) (fun ee s17 hq => ?_)
      rotate_left
      · obtain ⟨Is17, Fs17, e18, hv, hrs17, hps17⟩ := hq; cases hv
      obtain ⟨Is17, Fs17, e18, hv, hrs17, hps17⟩ := hq
      cases hv
      have Gs17 := fm_ts Fs3 Fs17 (by decide) (by decide)
      have b19 : (0 : Int) ≤ iI s17 73 ∧ iI s17 73 ≤ 3 := Is17.1 73
      have ws17_99 : iI s17 99 = iI s3 99 := fm_i Fs17 (by decide)
      show WS k 26 [(0, .ref (A 179)), (1, .int (Int32.ofInt x))] [.int (Int32.ofInt e18)] (Wd A dT s17) 0 0
      refine z_if_eq X (t := 31) (show cdA 264 26 = some (.ifCond .eq 5, 3, 0, 0, 0) from rfl) (by decide) ⟨by omega, by omega⟩ (fun g20 => ?_) (fun g20 => ?_)
      ·
        refine z_aload_n X (x := A 179) (show cdA 264 31 = some (.aload_n 0, 1, 0, 0, 0) from rfl) (List.Mem.head _) ?_
        refine z_getI X 179 (show cdA 264 32 = some (.getfield 404, 3, 12, 48, 0) from rfl) (by decide) rfl rfl ?_
        have b21 : (0 : Int) ≤ iI s17 99 ∧ iI s17 99 ≤ 6 := Is17.1 99
        refine z_bipush X (show cdA 264 35 = some (.bipush 6, 2, 0, 0, 6) from rfl) ?_
        refine z_icmp_ne X (t := 42) (show cdA 264 37 = some (.if_icmp .ne 5, 3, 1, 0, 0) from rfl) (by decide) ⟨by omega, by omega⟩ ⟨by omega, by omega⟩ (fun g22 => ?_) (fun g22 => ?_)
        ·
          refine z_aload_n X (x := A 179) (show cdA 264 42 = some (.aload_n 0, 1, 0, 0, 0) from rfl) (List.Mem.head _) ?_
          refine s_getR X 179 (show cdA 264 43 = some (.getfield 101, 3, 12, 52, 0) from rfl) (by decide) rfl rfl ?_
          refine z_aload_n X (x := A 179) (show cdA 264 46 = some (.aload_n 0, 1, 0, 0, 0) from rfl) (List.Mem.head _) ?_
          refine z_getI X 179 (show cdA 264 47 = some (.getfield 404, 3, 12, 48, 0) from rfl) (by decide) rfl rfl ?_
          have b23 : (0 : Int) ≤ iI s17 99 ∧ iI s17 99 ≤ 6 := Is17.1 99
          refine z_load_n X (x := x) (show cdA 264 50 = some (.iload_n 1, 1, 0, 0, 0) from rfl) (List.Mem.tail _ (List.Mem.head _)) ?_
          refine z_ast X 265 (show cdA 264 51 = some (.iastore, 1, 0, 0, 0) from rfl) (by decide) rfl (by omega) (show (iI s17 99) < 6 by omega) (by decide) ?_
          obtain ⟨s24, hs24⟩ : ∃ x0, x0 = uC s17 237 ((iI s17 99)).toNat (Int32.ofInt x) := ⟨_, rfl⟩
          rw [← hs24]
          have Is24 : Bd s24 := by rw [hs24]; exact bd_C Is17 (show (0 : Int) ≤ x ∧ x ≤ 16777215 by omega) ⟨by omega, by omega⟩
          have Fs24 := fm_C (i := ((iI s17 99)).toNat) (x := Int32.ofInt x) Gs17 (show 237 ∈ _ by decide)
          rw [← hs24] at Fs24
          have ws24_73 : iI s24 73 = iI s17 73 := by rw [hs24]; rfl
          have ws24_99 : iI s24 99 = iI s17 99 := by rw [hs24]; rfl
          have wos24 : iO s24 = iO s17 := by rw [hs24]; rfl
          refine z_aload_n X (x := A 179) (show cdA 264 52 = some (.aload_n 0, 1, 0, 0, 0) from rfl) (List.Mem.head _) ?_
          refine w_dup X.1 (ax_d X (show cdA 264 53 = some (.dup, 1, 0, 0, 0) from rfl)) rfl ?_
          refine z_getI X 179 (show cdA 264 54 = some (.getfield 404, 3, 12, 48, 0) from rfl) (by decide) rfl rfl ?_
          have b25 : (0 : Int) ≤ iI s24 99 ∧ iI s24 99 ≤ 6 := Is24.1 99
          refine z_const X (show cdA 264 57 = some (.iconst 1, 1, 0, 0, 0) from rfl) ?_
          refine z_add X (show cdA 264 58 = some (.iadd, 1, 0, 0, 0) from rfl) ?_
          refine s_putI X 179 (show cdA 264 59 = some (.putfield 404, 3, 12, 48, 0) from rfl) (by decide) rfl rfl (by decide) rfl rfl rfl ?_
          obtain ⟨s26, hs26⟩ : ∃ x0, x0 = uI s24 99 (Int32.ofInt ((iI s24 99) + 1)) := ⟨_, rfl⟩
          rw [← hs26]
          have Is26 : Bd s26 := by rw [hs26]; exact bd_I Is24 (show (0 : Int) ≤ ((iI s24 99) + 1) ∧ ((iI s24 99) + 1) ≤ 6 by omega) ⟨by omega, by omega⟩
          have Fs26 := fm_I (x := Int32.ofInt ((iI s24 99) + 1)) Fs24 (show 99 ∈ _ by decide)
          rw [← hs26] at Fs26
          have vs26 : iI s26 99 = ((iI s24 99) + 1) := by rw [hs26]; exact iI_u ⟨by omega, by omega⟩
          have ws26_73 : iI s26 73 = iI s24 73 := by rw [hs26]; rfl
          have wos26 : iO s26 = iO s24 := by rw [hs26]; rfl
          refine z_aload_n X (x := A 179) (show cdA 264 62 = some (.aload_n 0, 1, 0, 0, 0) from rfl) (List.Mem.head _) ?_
          refine z_getI X 179 (show cdA 264 63 = some (.getfield 404, 3, 12, 48, 0) from rfl) (by decide) rfl rfl ?_
          have b27 : (0 : Int) ≤ iI s26 99 ∧ iI s26 99 ≤ 6 := Is26.1 99
          refine z_const X (show cdA 264 66 = some (.iconst 1, 1, 0, 0, 0) from rfl) ?_
          refine z_sub X (show cdA 264 67 = some (.isub, 1, 0, 0, 0) from rfl) ?_
          exact w_iret X.1 q hRt rfl (ax_d X (show cdA 264 68 = some (.ireturn, 1, 0, 0, 0) from rfl)) (Nat.zero_le _) (Nat.zero_le _) ⟨_, rfl, Is26, Fs26, ((iI s26 99) - 1), rfl, ⟨by omega, by omega⟩, by omega⟩
        ·
          refine z_const X (show cdA 264 40 = some (.iconst (-1), 1, 0, 0, 0) from rfl) ?_
          exact w_iret X.1 q hRt rfl (ax_d X (show cdA 264 41 = some (.ireturn, 1, 0, 0, 0) from rfl)) (Nat.zero_le _) (Nat.zero_le _) ⟨_, rfl, Is17, Gs17, (-1), rfl, ⟨by omega, by omega⟩, by omega⟩
      ·
        refine z_const X (show cdA 264 29 = some (.iconst 0, 1, 0, 0, 0) from rfl) ?_
        exact w_iret X.1 q hRt rfl (ax_d X (show cdA 264 30 = some (.ireturn, 1, 0, 0, 0) from rfl)) (Nat.zero_le _) (Nat.zero_le _) ⟨_, rfl, Is17, Gs17, 0, rfl, ⟨by omega, by omega⟩, by omega⟩
    ·
      refine z_const X (show cdA 264 17 = some (.iconst 1, 1, 0, 0, 0) from rfl) ?_
      refine z_goto X (t := 22) (show cdA 264 18 = some (.goto 4, 3, 0, 0, 0) from rfl) (by decide) ?_
      refine z_const X (show cdA 264 22 = some (.iconst 1, 1, 0, 0, 0) from rfl) ?_
      refine z_callV X 179 (rm := rmN 187) (As := [.int (Int32.ofInt 1), .int (Int32.ofInt 1)]) (st := []) (show cdA 264 23 = some (.invokevirtual 229, 3, 187, 0, 0) from rfl) rfl (by decide) rfl (by rw [E.1, E.2.1, E.2.2.1]; exact k_bad2 G Is3 (by omega) (by omega)) ⟨by rw [E.2.2.2]; exact (show (rmN 187).frames + 1 ≤ (rmN 264).frames by decide), by rw [E.2.2.2]; exact (show 8 + (mNL (miB 187) + 11) + (rmN 187).locals ≤ (rmN 264).locals by decide), by rw [E.2.2.2]; exact (show 0 + (rmN 187).cells ≤ (rmN 264).cells by decide), by rw [E.2.2.2]; exact (show 0 + (rmN 187).slots ≤ (rmN 264).slots by decide)⟩ (Nat.le_of_ble_eq_true rfl) (fun vv s28 hq => ?_) (fun ee s28 hq => ?_)
      rotate_left
      · obtain ⟨Is28, Fs28, e29, hv, hrs28, hps28⟩ := hq; cases hv
      obtain ⟨Is28, Fs28, e29, hv, hrs28, hps28⟩ := hq
      cases hv
      have Gs28 := fm_ts Fs3 Fs28 (by decide) (by decide)
      have b30 : (0 : Int) ≤ iI s28 73 ∧ iI s28 73 ≤ 3 := Is28.1 73
      have ws28_99 : iI s28 99 = iI s3 99 := fm_i Fs28 (by decide)
      show WS k 26 [(0, .ref (A 179)), (1, .int (Int32.ofInt x))] [.int (Int32.ofInt e29)] (Wd A dT s28) 0 0
      refine z_if_eq X (t := 31) (show cdA 264 26 = some (.ifCond .eq 5, 3, 0, 0, 0) from rfl) (by decide) ⟨by omega, by omega⟩ (fun g31 => ?_) (fun g31 => ?_)
      ·
        refine z_aload_n X (x := A 179) (show cdA 264 31 = some (.aload_n 0, 1, 0, 0, 0) from rfl) (List.Mem.head _) ?_
        refine z_getI X 179 (show cdA 264 32 = some (.getfield 404, 3, 12, 48, 0) from rfl) (by decide) rfl rfl ?_
        have b32 : (0 : Int) ≤ iI s28 99 ∧ iI s28 99 ≤ 6 := Is28.1 99
        refine z_bipush X (show cdA 264 35 = some (.bipush 6, 2, 0, 0, 6) from rfl) ?_
        refine z_icmp_ne X (t := 42) (show cdA 264 37 = some (.if_icmp .ne 5, 3, 1, 0, 0) from rfl) (by decide) ⟨by omega, by omega⟩ ⟨by omega, by omega⟩ (fun g33 => ?_) (fun g33 => ?_)
        ·
          refine z_aload_n X (x := A 179) (show cdA 264 42 = some (.aload_n 0, 1, 0, 0, 0) from rfl) (List.Mem.head _) ?_
          refine s_getR X 179 (show cdA 264 43 = some (.getfield 101, 3, 12, 52, 0) from rfl) (by decide) rfl rfl ?_
          refine z_aload_n X (x := A 179) (show cdA 264 46 = some (.aload_n 0, 1, 0, 0, 0) from rfl) (List.Mem.head _) ?_
          refine z_getI X 179 (show cdA 264 47 = some (.getfield 404, 3, 12, 48, 0) from rfl) (by decide) rfl rfl ?_
          have b34 : (0 : Int) ≤ iI s28 99 ∧ iI s28 99 ≤ 6 := Is28.1 99
          refine z_load_n X (x := x) (show cdA 264 50 = some (.iload_n 1, 1, 0, 0, 0) from rfl) (List.Mem.tail _ (List.Mem.head _)) ?_
          refine z_ast X 265 (show cdA 264 51 = some (.iastore, 1, 0, 0, 0) from rfl) (by decide) rfl (by omega) (show (iI s28 99) < 6 by omega) (by decide) ?_
          obtain ⟨s35, hs35⟩ : ∃ x0, x0 = uC s28 237 ((iI s28 99)).toNat (Int32.ofInt x) := ⟨_, rfl⟩
          rw [← hs35]
          have Is35 : Bd s35 := by rw [hs35]; exact bd_C Is28 (show (0 : Int) ≤ x ∧ x ≤ 16777215 by omega) ⟨by omega, by omega⟩
          have Fs35 := fm_C (i := ((iI s28 99)).toNat) (x := Int32.ofInt x) Gs28 (show 237 ∈ _ by decide)
          rw [← hs35] at Fs35
          have ws35_73 : iI s35 73 = iI s28 73 := by rw [hs35]; rfl
          have ws35_99 : iI s35 99 = iI s28 99 := by rw [hs35]; rfl
          have wos35 : iO s35 = iO s28 := by rw [hs35]; rfl
          refine z_aload_n X (x := A 179) (show cdA 264 52 = some (.aload_n 0, 1, 0, 0, 0) from rfl) (List.Mem.head _) ?_
          refine w_dup X.1 (ax_d X (show cdA 264 53 = some (.dup, 1, 0, 0, 0) from rfl)) rfl ?_
          refine z_getI X 179 (show cdA 264 54 = some (.getfield 404, 3, 12, 48, 0) from rfl) (by decide) rfl rfl ?_
          have b36 : (0 : Int) ≤ iI s35 99 ∧ iI s35 99 ≤ 6 := Is35.1 99
          refine z_const X (show cdA 264 57 = some (.iconst 1, 1, 0, 0, 0) from rfl) ?_
          refine z_add X (show cdA 264 58 = some (.iadd, 1, 0, 0, 0) from rfl) ?_
          refine s_putI X 179 (show cdA 264 59 = some (.putfield 404, 3, 12, 48, 0) from rfl) (by decide) rfl rfl (by decide) rfl rfl rfl ?_
          obtain ⟨s37, hs37⟩ : ∃ x0, x0 = uI s35 99 (Int32.ofInt ((iI s35 99) + 1)) := ⟨_, rfl⟩
          rw [← hs37]
          have Is37 : Bd s37 := by rw [hs37]; exact bd_I Is35 (show (0 : Int) ≤ ((iI s35 99) + 1) ∧ ((iI s35 99) + 1) ≤ 6 by omega) ⟨by omega, by omega⟩
          have Fs37 := fm_I (x := Int32.ofInt ((iI s35 99) + 1)) Fs35 (show 99 ∈ _ by decide)
          rw [← hs37] at Fs37
          have vs37 : iI s37 99 = ((iI s35 99) + 1) := by rw [hs37]; exact iI_u ⟨by omega, by omega⟩
          have ws37_73 : iI s37 73 = iI s35 73 := by rw [hs37]; rfl
          have wos37 : iO s37 = iO s35 := by rw [hs37]; rfl
          refine z_aload_n X (x := A 179) (show cdA 264 62 = some (.aload_n 0, 1, 0, 0, 0) from rfl) (List.Mem.head _) ?_
          refine z_getI X 179 (show cdA 264 63 = some (.getfield 404, 3, 12, 48, 0) from rfl) (by decide) rfl rfl ?_
          have b38 : (0 : Int) ≤ iI s37 99 ∧ iI s37 99 ≤ 6 := Is37.1 99
          refine z_const X (show cdA 264 66 = some (.iconst 1, 1, 0, 0, 0) from rfl) ?_
          refine z_sub X (show cdA 264 67 = some (.isub, 1, 0, 0, 0) from rfl) ?_
          exact w_iret X.1 q hRt rfl (ax_d X (show cdA 264 68 = some (.ireturn, 1, 0, 0, 0) from rfl)) (Nat.zero_le _) (Nat.zero_le _) ⟨_, rfl, Is37, Fs37, ((iI s37 99) - 1), rfl, ⟨by omega, by omega⟩, by omega⟩
        ·
          refine z_const X (show cdA 264 40 = some (.iconst (-1), 1, 0, 0, 0) from rfl) ?_
          exact w_iret X.1 q hRt rfl (ax_d X (show cdA 264 41 = some (.ireturn, 1, 0, 0, 0) from rfl)) (Nat.zero_le _) (Nat.zero_le _) ⟨_, rfl, Is28, Gs28, (-1), rfl, ⟨by omega, by omega⟩, by omega⟩
      ·
        refine z_const X (show cdA 264 29 = some (.iconst 0, 1, 0, 0, 0) from rfl) ?_
        exact w_iret X.1 q hRt rfl (ax_d X (show cdA 264 30 = some (.ireturn, 1, 0, 0, 0) from rfl)) (Nat.zero_le _) (Nat.zero_le _) ⟨_, rfl, Is28, Gs28, 0, rfl, ⟨by omega, by omega⟩, by omega⟩
theorem cs_needWithin2 (G : GX l s0 D tys a0 dT) (I : Bd s) {v lo hi : Int} (p0 : rng v) (p1 : rng lo) (p2 : rng hi) : CT l s0 D A dT 184 (rmN 184) [.ref (A 0), .int (Int32.ofInt v), .int (Int32.ofInt lo), .int (Int32.ofInt hi)] s (fun o t => Bd t ∧ Fm [] [] s t ∧ ((o = .inl none ∧ (lo ≤ v ∧ v ≤ hi)) ∨ ∃ x : Nat, o = .inr (exN x) ∧ (x = 0 ∧ (v < lo ∨ hi < v)))) := by
  refine ct_ofX G (by decide) (Nat.le_of_ble_eq_true rfl) (fun k X E ET hRt hXt q => ?_)
  show WS k 0 [(0, .ref (A 0)), (1, .int (Int32.ofInt v)), (2, .int (Int32.ofInt lo)), (3, .int (Int32.ofInt hi))] [] _ 0 0
  have F : Fm [] [] s s := fm_rf _ _ s
  refine z_load_n X (x := v) (show cdA 184 0 = some (.iload_n 1, 1, 0, 0, 0) from rfl) (List.Mem.tail _ (List.Mem.head _)) ?_
  refine z_load_n X (x := lo) (show cdA 184 1 = some (.iload_n 2, 1, 0, 0, 0) from rfl) (List.Mem.tail _ (List.Mem.tail _ (List.Mem.head _))) ?_
  refine z_icmp_lt X (t := 10) (show cdA 184 2 = some (.if_icmp .lt 8, 3, 2, 0, 0) from rfl) (by decide) ⟨by omega, by omega⟩ ⟨by omega, by omega⟩ (fun g1 => ?_) (fun g1 => ?_)
  ·
    exact z_throw G X E ET hXt q (st := []) (show cdA 184 10 = some (.new 108, 3, 0, 2, 0) from rfl) (by decide) (by decide) (Nat.le_of_ble_eq_true rfl) (show 0 + 1 ≤ 1 by omega) (show 0 + 6 ≤ 6 by omega) (show 0 + 1 ≤ 1 by omega) (show 0 + 6 ≤ 6 by omega) ⟨_, rfl, I, F, Or.inr ⟨0, rfl, by omega⟩⟩
  ·
    refine z_load_n X (x := v) (show cdA 184 5 = some (.iload_n 1, 1, 0, 0, 0) from rfl) (List.Mem.tail _ (List.Mem.head _)) ?_
    refine z_load_n X (x := hi) (show cdA 184 6 = some (.iload_n 3, 1, 0, 0, 0) from rfl) (List.Mem.tail _ (List.Mem.tail _ (List.Mem.tail _ (List.Mem.head _)))) ?_
    refine z_icmp_le X (t := 21) (show cdA 184 7 = some (.if_icmp .le 14, 3, 5, 0, 0) from rfl) (by decide) ⟨by omega, by omega⟩ ⟨by omega, by omega⟩ (fun g2 => ?_) (fun g2 => ?_)
    ·
      exact w_vret X.1 q hRt (ax_d X (show cdA 184 21 = some (.return_, 1, 0, 0, 0) from rfl)) (Nat.zero_le _) (Nat.zero_le _) ⟨_, rfl, I, F, Or.inl ⟨rfl, by omega⟩⟩
    ·
      exact z_throw G X E ET hXt q (st := []) (show cdA 184 10 = some (.new 108, 3, 0, 2, 0) from rfl) (by decide) (by decide) (Nat.le_of_ble_eq_true rfl) (show 0 + 1 ≤ 1 by omega) (show 0 + 6 ≤ 6 by omega) (show 0 + 1 ≤ 1 by omega) (show 0 + 6 ≤ 6 by omega) ⟨_, rfl, I, F, Or.inr ⟨0, rfl, by omega⟩⟩
theorem cs_length2 (G : GX l s0 D tys a0 dT) (I : Bd s) {v : Int} (p0 : rng v) : CT l s0 D A dT 151 (rmN 151) [.ref (A 0), .int (Int32.ofInt v)] s (fun o t => Bd t ∧ Fm [21] [] s t ∧ ((∃ e, o = .inl (some (.int (Int32.ofInt e))) ∧ rng e ∧ (0 ≤ v ∧ v ≤ 9 ∧ e = iI s 21 ∧ iI t 21 = v)) ∨ ∃ x : Nat, o = .inr (exN x) ∧ (x = 0 ∧ (v < 0 ∨ 9 < v) ∧ iI t 21 = iI s 21))) := by
  refine ct_ofX G (by decide) (Nat.le_of_ble_eq_true rfl) (fun k X E ET hRt hXt q => ?_)
  show WS k 0 [(0, .ref (A 0)), (1, .int (Int32.ofInt v))] [] _ 0 0
  have F : Fm [21] [] s s := fm_rf _ _ s
  have b1 : (0 : Int) ≤ iI s 21 ∧ iI s 21 ≤ 9 := I.1 21
  refine z_aload_n X (x := A 0) (show cdA 151 0 = some (.aload_n 0, 1, 0, 0, 0) from rfl) (List.Mem.head _) ?_
  refine z_load_n X (x := v) (show cdA 151 1 = some (.iload_n 1, 1, 0, 0, 0) from rfl) (List.Mem.tail _ (List.Mem.head _)) ?_
  refine z_const X (show cdA 151 2 = some (.iconst 0, 1, 0, 0, 0) from rfl) ?_
  refine z_bipush X (show cdA 151 3 = some (.bipush 9, 2, 0, 0, 9) from rfl) ?_
  refine z_callV X 0 (rm := rmN 184) (As := [.int (Int32.ofInt v), .int (Int32.ofInt 0), .int (Int32.ofInt 9)]) (st := []) (show cdA 151 5 = some (.invokevirtual 151, 3, 184, 0, 0) from rfl) rfl (by decide) rfl (by rw [E.1, E.2.1, E.2.2.1]; exact cs_needWithin2 G I (by omega) (by omega) (by omega)) ⟨by rw [E.2.2.2]; exact (show (rmN 184).frames + 1 ≤ (rmN 151).frames by decide), by rw [E.2.2.2]; exact (show 8 + (mNL (miB 184) + 11) + (rmN 184).locals ≤ (rmN 151).locals by decide), by rw [E.2.2.2]; exact (show 0 + 1 ≤ 1 by omega), by rw [E.2.2.2]; exact (show 0 + 6 ≤ 6 by omega)⟩ (Nat.le_of_ble_eq_true rfl) (fun vv s2 hq => ?_) (fun ee s2 hq => ?_)
  rotate_left
  · obtain ⟨Is2, Fs2, (⟨hv, hps2⟩ | ⟨xx, hv, hps2⟩)⟩ := hq
    · cases hv
    · cases hv
      have Gs2 := fm_ts F Fs2 (by decide) (by decide)
      have ws2_21 : iI s2 21 = iI s 21 := fm_i Fs2 (by decide)
      exact x_out X.1 q (fun x hx => (hXt x hx).elim) (show 1 ≤ 1 by omega) (show 6 ≤ 6 by omega) ⟨_, rfl, Is2, Gs2, Or.inr ⟨xx, rfl, by omega⟩⟩
  obtain ⟨Is2, Fs2, (⟨hv, hps2⟩ | ⟨xx, hv, hps2⟩)⟩ := hq
  rotate_left
  · cases hv
  cases hv
  have Gs2 := fm_ts F Fs2 (by decide) (by decide)
  have ws2_21 : iI s2 21 = iI s 21 := fm_i Fs2 (by decide)
  show WS k 8 [(0, .ref (A 0)), (1, .int (Int32.ofInt v))] [] (Wd A dT s2) 1 6
  refine z_aload_n X (x := A 0) (show cdA 151 8 = some (.aload_n 0, 1, 0, 0, 0) from rfl) (List.Mem.head _) ?_
  refine s_getR X 0 (show cdA 151 9 = some (.getfield 35, 3, 11, 3, 0) from rfl) (by decide) rfl rfl ?_
  refine z_getI X 25 (show cdA 151 12 = some (.getfield 215, 3, 3, 6, 0) from rfl) (by decide) rfl rfl ?_
  have b4 : (0 : Int) ≤ iI s2 21 ∧ iI s2 21 ≤ 9 := Is2.1 21
  refine z_store_n X (lv' := [(2, .int (Int32.ofInt (iI s2 21))), (0, .ref (A 0)), (1, .int (Int32.ofInt v))]) (show cdA 151 15 = some (.istore_n 2, 1, 0, 0, 0) from rfl) (by decide) (fun _ h => h) ?_
  refine z_aload_n X (x := A 0) (show cdA 151 16 = some (.aload_n 0, 1, 0, 0, 0) from rfl) (List.Mem.tail _ (List.Mem.head _)) ?_
  refine s_getR X 0 (show cdA 151 17 = some (.getfield 35, 3, 11, 3, 0) from rfl) (by decide) rfl rfl ?_
  refine z_load_n X (x := v) (show cdA 151 20 = some (.iload_n 1, 1, 0, 0, 0) from rfl) (List.Mem.tail _ (List.Mem.tail _ (List.Mem.head _))) ?_
  refine s_putI X 25 (show cdA 151 21 = some (.putfield 215, 3, 3, 6, 0) from rfl) (by decide) rfl rfl (by decide) rfl rfl rfl ?_
  obtain ⟨s5, hs5⟩ : ∃ x0, x0 = uI s2 21 (Int32.ofInt v) := ⟨_, rfl⟩
  rw [← hs5]
  have Is5 : Bd s5 := by rw [hs5]; exact bd_I Is2 (show (0 : Int) ≤ v ∧ v ≤ 9 by omega) ⟨by omega, by omega⟩
  have Fs5 := fm_I (x := Int32.ofInt v) Gs2 (show 21 ∈ _ by decide)
  rw [← hs5] at Fs5
  have vs5 : iI s5 21 = v := by rw [hs5]; exact iI_u ⟨by omega, by omega⟩
  refine z_load_n X (x := (iI s2 21)) (show cdA 151 24 = some (.iload_n 2, 1, 0, 0, 0) from rfl) (List.Mem.head _) ?_
  exact w_iret X.1 q hRt rfl (ax_d X (show cdA 151 25 = some (.ireturn, 1, 0, 0, 0) from rfl)) (show 1 ≤ 1 by omega) (show 6 ≤ 6 by omega) ⟨_, rfl, Is5, Fs5, Or.inl ⟨(iI s2 21), rfl, ⟨by omega, by omega⟩, by omega⟩⟩
theorem cs_busy2 (G : GX l s0 D tys a0 dT) (I : Bd s) {v : Int} (p0 : rng v) : CT l s0 D A dT 162 (rmN 162) [.ref (A 0), .int (Int32.ofInt v)] s (fun o t => Bd t ∧ Fm [33] [] s t ∧ ((∃ e, o = .inl (some (.int (Int32.ofInt e))) ∧ rng e ∧ (0 ≤ v ∧ v ≤ 100000 ∧ e = iI s 33 ∧ iI t 33 = v)) ∨ ∃ x : Nat, o = .inr (exN x) ∧ (x = 0 ∧ (v < 0 ∨ 100000 < v) ∧ iI t 33 = iI s 33))) := by
  refine ct_ofX G (by decide) (Nat.le_of_ble_eq_true rfl) (fun k X E ET hRt hXt q => ?_)
  show WS k 0 [(0, .ref (A 0)), (1, .int (Int32.ofInt v))] [] _ 0 0
  have F : Fm [33] [] s s := fm_rf _ _ s
  have b1 : (0 : Int) ≤ iI s 33 ∧ iI s 33 ≤ 100000 := I.1 33
  refine z_aload_n X (x := A 0) (show cdA 162 0 = some (.aload_n 0, 1, 0, 0, 0) from rfl) (List.Mem.head _) ?_
  refine z_load_n X (x := v) (show cdA 162 1 = some (.iload_n 1, 1, 0, 0, 0) from rfl) (List.Mem.tail _ (List.Mem.head _)) ?_
  refine z_const X (show cdA 162 2 = some (.iconst 0, 1, 0, 0, 0) from rfl) ?_
  refine z_ldcw X (show cdA 162 3 = some (.ldc_w 289, 3, 0, 0, 100000) from rfl) ?_
  refine z_callV X 0 (rm := rmN 184) (As := [.int (Int32.ofInt v), .int (Int32.ofInt 0), .int (Int32.ofInt 100000)]) (st := []) (show cdA 162 6 = some (.invokevirtual 151, 3, 184, 0, 0) from rfl) rfl (by decide) rfl (by rw [E.1, E.2.1, E.2.2.1]; exact cs_needWithin2 G I (by omega) (by omega) (by omega)) ⟨by rw [E.2.2.2]; exact (show (rmN 184).frames + 1 ≤ (rmN 162).frames by decide), by rw [E.2.2.2]; exact (show 8 + (mNL (miB 184) + 11) + (rmN 184).locals ≤ (rmN 162).locals by decide), by rw [E.2.2.2]; exact (show 0 + 1 ≤ 1 by omega), by rw [E.2.2.2]; exact (show 0 + 6 ≤ 6 by omega)⟩ (Nat.le_of_ble_eq_true rfl) (fun vv s2 hq => ?_) (fun ee s2 hq => ?_)
  rotate_left
  · obtain ⟨Is2, Fs2, (⟨hv, hps2⟩ | ⟨xx, hv, hps2⟩)⟩ := hq
    · cases hv
    · cases hv
      have Gs2 := fm_ts F Fs2 (by decide) (by decide)
      have ws2_33 : iI s2 33 = iI s 33 := fm_i Fs2 (by decide)
      exact x_out X.1 q (fun x hx => (hXt x hx).elim) (show 1 ≤ 1 by omega) (show 6 ≤ 6 by omega) ⟨_, rfl, Is2, Gs2, Or.inr ⟨xx, rfl, by omega⟩⟩
  obtain ⟨Is2, Fs2, (⟨hv, hps2⟩ | ⟨xx, hv, hps2⟩)⟩ := hq
  rotate_left
  · cases hv
  cases hv
  have Gs2 := fm_ts F Fs2 (by decide) (by decide)
  have ws2_33 : iI s2 33 = iI s 33 := fm_i Fs2 (by decide)
  show WS k 9 [(0, .ref (A 0)), (1, .int (Int32.ofInt v))] [] (Wd A dT s2) 1 6
  refine z_aload_n X (x := A 0) (show cdA 162 9 = some (.aload_n 0, 1, 0, 0, 0) from rfl) (List.Mem.head _) ?_
  refine s_getR X 0 (show cdA 162 10 = some (.getfield 71, 3, 11, 7, 0) from rfl) (by decide) rfl rfl ?_
  refine z_getI X 54 (show cdA 162 13 = some (.getfield 290, 3, 4, 6, 0) from rfl) (by decide) rfl rfl ?_
  have b4 : (0 : Int) ≤ iI s2 33 ∧ iI s2 33 ≤ 100000 := Is2.1 33
  refine z_store_n X (lv' := [(2, .int (Int32.ofInt (iI s2 33))), (0, .ref (A 0)), (1, .int (Int32.ofInt v))]) (show cdA 162 16 = some (.istore_n 2, 1, 0, 0, 0) from rfl) (by decide) (fun _ h => h) ?_
  refine z_aload_n X (x := A 0) (show cdA 162 17 = some (.aload_n 0, 1, 0, 0, 0) from rfl) (List.Mem.tail _ (List.Mem.head _)) ?_
  refine s_getR X 0 (show cdA 162 18 = some (.getfield 71, 3, 11, 7, 0) from rfl) (by decide) rfl rfl ?_
  refine z_load_n X (x := v) (show cdA 162 21 = some (.iload_n 1, 1, 0, 0, 0) from rfl) (List.Mem.tail _ (List.Mem.tail _ (List.Mem.head _))) ?_
  refine s_putI X 54 (show cdA 162 22 = some (.putfield 290, 3, 4, 6, 0) from rfl) (by decide) rfl rfl (by decide) rfl rfl rfl ?_
  obtain ⟨s5, hs5⟩ : ∃ x0, x0 = uI s2 33 (Int32.ofInt v) := ⟨_, rfl⟩
  rw [← hs5]
  have Is5 : Bd s5 := by rw [hs5]; exact bd_I Is2 (show (0 : Int) ≤ v ∧ v ≤ 100000 by omega) ⟨by omega, by omega⟩
  have Fs5 := fm_I (x := Int32.ofInt v) Gs2 (show 33 ∈ _ by decide)
  rw [← hs5] at Fs5
  have vs5 : iI s5 33 = v := by rw [hs5]; exact iI_u ⟨by omega, by omega⟩
  refine z_load_n X (x := (iI s2 33)) (show cdA 162 25 = some (.iload_n 2, 1, 0, 0, 0) from rfl) (List.Mem.head _) ?_
  exact w_iret X.1 q hRt rfl (ax_d X (show cdA 162 26 = some (.ireturn, 1, 0, 0, 0) from rfl)) (show 1 ≤ 1 by omega) (show 6 ≤ 6 by omega) ⟨_, rfl, Is5, Fs5, Or.inl ⟨(iI s2 33), rfl, ⟨by omega, by omega⟩, by omega⟩⟩
theorem cs_hours2 (G : GX l s0 D tys a0 dT) (I : Bd s) {u v : Int} (p0 : rng u) (p1 : rng v) : CT l s0 D A dT 164 (rmN 164) [.ref (A 0), .int (Int32.ofInt u), .int (Int32.ofInt v)] s (fun o t => Bd t ∧ Fm [36, 37] [] s t ∧ ((∃ e, o = .inl (some (.int (Int32.ofInt e))) ∧ rng e ∧ (((u = 0 ∧ 1 ≤ v ∧ v ≤ 24 ∧ e = iI s 36 ∧ iI t 36 = v ∧ iI t 37 = iI s 37) ∨ (u = 1 ∧ 1 ≤ v ∧ v ≤ 8 ∧ e = iI s 37 ∧ iI t 37 = v ∧ iI t 36 = iI s 36)))) ∨ ∃ x : Nat, o = .inr (exN x) ∧ (x = 0 ∧ (u < 0 ∨ 1 < u ∨ v < 1 ∨ (u = 0 ∧ 24 < v) ∨ (u = 1 ∧ 8 < v)) ∧ iI t 36 = iI s 36 ∧ iI t 37 = iI s 37))) := by
  refine ct_ofX G (by decide) (Nat.le_of_ble_eq_true rfl) (fun k X E ET hRt hXt q => ?_)
  show WS k 0 [(0, .ref (A 0)), (1, .int (Int32.ofInt u)), (2, .int (Int32.ofInt v))] [] _ 0 0
  have F : Fm [36, 37] [] s s := fm_rf _ _ s
  have b1 : (1 : Int) ≤ iI s 36 ∧ iI s 36 ≤ 24 := I.1 36
  have b2 : (1 : Int) ≤ iI s 37 ∧ iI s 37 ≤ 8 := I.1 37
  refine z_aload_n X (x := A 0) (show cdA 164 0 = some (.aload_n 0, 1, 0, 0, 0) from rfl) (List.Mem.head _) ?_
  refine z_load_n X (x := u) (show cdA 164 1 = some (.iload_n 1, 1, 0, 0, 0) from rfl) (List.Mem.tail _ (List.Mem.head _)) ?_
  refine z_const X (show cdA 164 2 = some (.iconst 0, 1, 0, 0, 0) from rfl) ?_
  refine z_const X (show cdA 164 3 = some (.iconst 1, 1, 0, 0, 0) from rfl) ?_
  refine z_callV X 0 (rm := rmN 184) (As := [.int (Int32.ofInt u), .int (Int32.ofInt 0), .int (Int32.ofInt 1)]) (st := []) (show cdA 164 4 = some (.invokevirtual 151, 3, 184, 0, 0) from rfl) rfl (by decide) rfl (by rw [E.1, E.2.1, E.2.2.1]; exact cs_needWithin2 G I (by omega) (by omega) (by omega)) ⟨by rw [E.2.2.2]; exact (show (rmN 184).frames + 1 ≤ (rmN 164).frames by decide), by rw [E.2.2.2]; exact (show 8 + (mNL (miB 184) + 11) + (rmN 184).locals ≤ (rmN 164).locals by decide), by rw [E.2.2.2]; exact (show 0 + 1 ≤ 2 by omega), by rw [E.2.2.2]; exact (show 0 + 6 ≤ 12 by omega)⟩ (Nat.le_of_ble_eq_true rfl) (fun vv s3 hq => ?_) (fun ee s3 hq => ?_)
  rotate_left
  · obtain ⟨Is3, Fs3, (⟨hv, hps3⟩ | ⟨xx, hv, hps3⟩)⟩ := hq
    · cases hv
    · cases hv
      have Gs3 := fm_ts F Fs3 (by decide) (by decide)
      have ws3_36 : iI s3 36 = iI s 36 := fm_i Fs3 (by decide)
      have ws3_37 : iI s3 37 = iI s 37 := fm_i Fs3 (by decide)
      exact x_out X.1 q (fun x hx => (hXt x hx).elim) (show 1 ≤ 2 by omega) (show 6 ≤ 12 by omega) ⟨_, rfl, Is3, Gs3, Or.inr ⟨xx, rfl, by omega⟩⟩
  obtain ⟨Is3, Fs3, (⟨hv, hps3⟩ | ⟨xx, hv, hps3⟩)⟩ := hq
  rotate_left
  · cases hv
  cases hv
  have Gs3 := fm_ts F Fs3 (by decide) (by decide)
  have ws3_36 : iI s3 36 = iI s 36 := fm_i Fs3 (by decide)
  have ws3_37 : iI s3 37 = iI s 37 := fm_i Fs3 (by decide)
  show WS k 7 [(0, .ref (A 0)), (1, .int (Int32.ofInt u)), (2, .int (Int32.ofInt v))] [] (Wd A dT s3) 1 6
  refine z_aload_n X (x := A 0) (show cdA 164 7 = some (.aload_n 0, 1, 0, 0, 0) from rfl) (List.Mem.head _) ?_
  refine z_load_n X (x := v) (show cdA 164 8 = some (.iload_n 2, 1, 0, 0, 0) from rfl) (List.Mem.tail _ (List.Mem.tail _ (List.Mem.head _))) ?_
  refine z_const X (show cdA 164 9 = some (.iconst 1, 1, 0, 0, 0) from rfl) ?_
  refine z_load_n X (x := u) (show cdA 164 10 = some (.iload_n 1, 1, 0, 0, 0) from rfl) (List.Mem.tail _ (List.Mem.head _)) ?_
  refine z_if_ne X (t := 19) (show cdA 164 11 = some (.ifCond .ne 8, 3, 1, 0, 0) from rfl) (by decide) ⟨by omega, by omega⟩ (fun g5 => ?_) (fun g5 => ?_)
  ·
    refine z_bipush X (show cdA 164 19 = some (.bipush 8, 2, 0, 0, 8) from rfl) ?_
    refine z_callV X 0 (rm := rmN 184) (As := [.int (Int32.ofInt v), .int (Int32.ofInt 1), .int (Int32.ofInt 8)]) (st := []) (show cdA 164 21 = some (.invokevirtual 151, 3, 184, 0, 0) from rfl) rfl (by decide) rfl (by rw [E.1, E.2.1, E.2.2.1]; exact cs_needWithin2 G Is3 (by omega) (by omega) (by omega)) ⟨by rw [E.2.2.2]; exact (show (rmN 184).frames + 1 ≤ (rmN 164).frames by decide), by rw [E.2.2.2]; exact (show 8 + (mNL (miB 184) + 11) + (rmN 184).locals ≤ (rmN 164).locals by decide), by rw [E.2.2.2]; exact (show 1 + 1 ≤ 2 by omega), by rw [E.2.2.2]; exact (show 6 + 6 ≤ 12 by omega)⟩ (Nat.le_of_ble_eq_true rfl) (fun vv s6 hq => ?_) (fun ee s6 hq => ?_)
    rotate_left
    · obtain ⟨Is6, Fs6, (⟨hv, hps6⟩ | ⟨xx, hv, hps6⟩)⟩ := hq
      · cases hv
      · cases hv
        have Gs6 := fm_ts Gs3 Fs6 (by decide) (by decide)
        have ws6_36 : iI s6 36 = iI s3 36 := fm_i Fs6 (by decide)
        have ws6_37 : iI s6 37 = iI s3 37 := fm_i Fs6 (by decide)
        exact x_out X.1 q (fun x hx => (hXt x hx).elim) (show (1 + 1) ≤ 2 by omega) (show (6 + 6) ≤ 12 by omega) ⟨_, rfl, Is6, Gs6, Or.inr ⟨xx, rfl, by omega⟩⟩
    obtain ⟨Is6, Fs6, (⟨hv, hps6⟩ | ⟨xx, hv, hps6⟩)⟩ := hq
    rotate_left
    · cases hv
    cases hv
    have Gs6 := fm_ts Gs3 Fs6 (by decide) (by decide)
    have ws6_36 : iI s6 36 = iI s3 36 := fm_i Fs6 (by decide)
    have ws6_37 : iI s6 37 = iI s3 37 := fm_i Fs6 (by decide)
    show WS k 24 [(0, .ref (A 0)), (1, .int (Int32.ofInt u)), (2, .int (Int32.ofInt v))] [] (Wd A dT s6) (1 + 1) (6 + 6)
    refine z_load_n X (x := u) (show cdA 164 24 = some (.iload_n 1, 1, 0, 0, 0) from rfl) (List.Mem.tail _ (List.Mem.head _)) ?_
    refine z_if_ne X (t := 39) (show cdA 164 25 = some (.ifCond .ne 14, 3, 1, 0, 0) from rfl) (by decide) ⟨by omega, by omega⟩ (fun g8 => ?_) (fun g8 => ?_)
    ·
      refine z_aload_n X (x := A 0) (show cdA 164 39 = some (.aload_n 0, 1, 0, 0, 0) from rfl) (List.Mem.head _) ?_
      refine s_getR X 0 (show cdA 164 40 = some (.getfield 80, 3, 11, 8, 0) from rfl) (by decide) rfl rfl ?_
      refine z_load_n X (x := v) (show cdA 164 43 = some (.iload_n 2, 1, 0, 0, 0) from rfl) (List.Mem.tail _ (List.Mem.tail _ (List.Mem.head _))) ?_
      refine z_callV X 61 (rm := rmN 61) (As := [.int (Int32.ofInt v)]) (st := []) (show cdA 164 44 = some (.invokevirtual 306, 3, 61, 0, 0) from rfl) rfl (by decide) rfl (by rw [E.1, E.2.1, E.2.2.1]; exact c6_setRest_61 G Is6 (by omega)) ⟨by rw [E.2.2.2]; exact (show (rmN 61).frames + 1 ≤ (rmN 164).frames by decide), by rw [E.2.2.2]; exact (show 8 + (mNL (miB 61) + 11) + (rmN 61).locals ≤ (rmN 164).locals by decide), by rw [E.2.2.2]; exact (show (1 + 1) + 0 ≤ 2 by omega), by rw [E.2.2.2]; exact (show (6 + 6) + 0 ≤ 12 by omega)⟩ (Nat.le_of_ble_eq_true rfl) (fun vv s9 hq => ?_) (fun ee s9 hq => ?_)
      rotate_left
      · obtain ⟨Is9, Fs9, e10, hv, hrs9, hps9⟩ := hq; cases hv
      obtain ⟨Is9, Fs9, e10, hv, hrs9, hps9⟩ := hq
      cases hv
      have Gs9 := fm_ts Gs6 Fs9 (by decide) (by decide)
      have ws9_36 : iI s9 36 = iI s6 36 := fm_i Fs9 (by decide)
      have b11 : (1 : Int) ≤ iI s9 37 ∧ iI s9 37 ≤ 8 := Is9.1 37
      show WS k 47 [(0, .ref (A 0)), (1, .int (Int32.ofInt u)), (2, .int (Int32.ofInt v))] [.int (Int32.ofInt e10)] (Wd A dT s9) (1 + 1) (6 + 6)
      exact w_iret X.1 q hRt rfl (ax_d X (show cdA 164 47 = some (.ireturn, 1, 0, 0, 0) from rfl)) (show (1 + 1) ≤ 2 by omega) (show (6 + 6) ≤ 12 by omega) ⟨_, rfl, Is9, Gs9, Or.inl ⟨e10, rfl, ⟨by omega, by omega⟩, by omega⟩⟩
    ·
      refine z_aload_n X (x := A 0) (show cdA 164 28 = some (.aload_n 0, 1, 0, 0, 0) from rfl) (List.Mem.head _) ?_
      refine s_getR X 0 (show cdA 164 29 = some (.getfield 80, 3, 11, 8, 0) from rfl) (by decide) rfl rfl ?_
      refine z_load_n X (x := v) (show cdA 164 32 = some (.iload_n 2, 1, 0, 0, 0) from rfl) (List.Mem.tail _ (List.Mem.tail _ (List.Mem.head _))) ?_
      refine z_callV X 61 (rm := rmN 60) (As := [.int (Int32.ofInt v)]) (st := []) (show cdA 164 33 = some (.invokevirtual 303, 3, 60, 0, 0) from rfl) rfl (by decide) rfl (by rw [E.1, E.2.1, E.2.2.1]; exact c6_setWork_61 G Is6 (by omega)) ⟨by rw [E.2.2.2]; exact (show (rmN 60).frames + 1 ≤ (rmN 164).frames by decide), by rw [E.2.2.2]; exact (show 8 + (mNL (miB 60) + 11) + (rmN 60).locals ≤ (rmN 164).locals by decide), by rw [E.2.2.2]; exact (show (1 + 1) + 0 ≤ 2 by omega), by rw [E.2.2.2]; exact (show (6 + 6) + 0 ≤ 12 by omega)⟩ (Nat.le_of_ble_eq_true rfl) (fun vv s12 hq => ?_) (fun ee s12 hq => ?_)
      rotate_left
      · obtain ⟨Is12, Fs12, e13, hv, hrs12, hps12⟩ := hq; cases hv
      obtain ⟨Is12, Fs12, e13, hv, hrs12, hps12⟩ := hq
      cases hv
      have Gs12 := fm_ts Gs6 Fs12 (by decide) (by decide)
      have b14 : (1 : Int) ≤ iI s12 36 ∧ iI s12 36 ≤ 24 := Is12.1 36
      have ws12_37 : iI s12 37 = iI s6 37 := fm_i Fs12 (by decide)
      show WS k 36 [(0, .ref (A 0)), (1, .int (Int32.ofInt u)), (2, .int (Int32.ofInt v))] [.int (Int32.ofInt e13)] (Wd A dT s12) (1 + 1) (6 + 6)
      refine z_goto X (t := 47) (show cdA 164 36 = some (.goto 11, 3, 0, 0, 0) from rfl) (by decide) ?_
      exact w_iret X.1 q hRt rfl (ax_d X (show cdA 164 47 = some (.ireturn, 1, 0, 0, 0) from rfl)) (show (1 + 1) ≤ 2 by omega) (show (6 + 6) ≤ 12 by omega) ⟨_, rfl, Is12, Gs12, Or.inl ⟨e13, rfl, ⟨by omega, by omega⟩, by omega⟩⟩
  ·
    refine z_bipush X (show cdA 164 14 = some (.bipush 24, 2, 0, 0, 24) from rfl) ?_
    refine z_goto X (t := 21) (show cdA 164 16 = some (.goto 5, 3, 0, 0, 0) from rfl) (by decide) ?_
    refine z_callV X 0 (rm := rmN 184) (As := [.int (Int32.ofInt v), .int (Int32.ofInt 1), .int (Int32.ofInt 24)]) (st := []) (show cdA 164 21 = some (.invokevirtual 151, 3, 184, 0, 0) from rfl) rfl (by decide) rfl (by rw [E.1, E.2.1, E.2.2.1]; exact cs_needWithin2 G Is3 (by omega) (by omega) (by omega)) ⟨by rw [E.2.2.2]; exact (show (rmN 184).frames + 1 ≤ (rmN 164).frames by decide), by rw [E.2.2.2]; exact (show 8 + (mNL (miB 184) + 11) + (rmN 184).locals ≤ (rmN 164).locals by decide), by rw [E.2.2.2]; exact (show 1 + 1 ≤ 2 by omega), by rw [E.2.2.2]; exact (show 6 + 6 ≤ 12 by omega)⟩ (Nat.le_of_ble_eq_true rfl) (fun vv s15 hq => ?_) (fun ee s15 hq => ?_)
    rotate_left
    · obtain ⟨Is15, Fs15, (⟨hv, hps15⟩ | ⟨xx, hv, hps15⟩)⟩ := hq
      · cases hv
      · cases hv
        have Gs15 := fm_ts Gs3 Fs15 (by decide) (by decide)
        have ws15_36 : iI s15 36 = iI s3 36 := fm_i Fs15 (by decide)
        have ws15_37 : iI s15 37 = iI s3 37 := fm_i Fs15 (by decide)
        exact x_out X.1 q (fun x hx => (hXt x hx).elim) (show (1 + 1) ≤ 2 by omega) (show (6 + 6) ≤ 12 by omega) ⟨_, rfl, Is15, Gs15, Or.inr ⟨xx, rfl, by omega⟩⟩
    obtain ⟨Is15, Fs15, (⟨hv, hps15⟩ | ⟨xx, hv, hps15⟩)⟩ := hq
    rotate_left
    · cases hv
    cases hv
    have Gs15 := fm_ts Gs3 Fs15 (by decide) (by decide)
    have ws15_36 : iI s15 36 = iI s3 36 := fm_i Fs15 (by decide)
    have ws15_37 : iI s15 37 = iI s3 37 := fm_i Fs15 (by decide)
    show WS k 24 [(0, .ref (A 0)), (1, .int (Int32.ofInt u)), (2, .int (Int32.ofInt v))] [] (Wd A dT s15) (1 + 1) (6 + 6)
    refine z_load_n X (x := u) (show cdA 164 24 = some (.iload_n 1, 1, 0, 0, 0) from rfl) (List.Mem.tail _ (List.Mem.head _)) ?_
    refine z_if_ne X (t := 39) (show cdA 164 25 = some (.ifCond .ne 14, 3, 1, 0, 0) from rfl) (by decide) ⟨by omega, by omega⟩ (fun g17 => ?_) (fun g17 => ?_)
    ·
      refine z_aload_n X (x := A 0) (show cdA 164 39 = some (.aload_n 0, 1, 0, 0, 0) from rfl) (List.Mem.head _) ?_
      refine s_getR X 0 (show cdA 164 40 = some (.getfield 80, 3, 11, 8, 0) from rfl) (by decide) rfl rfl ?_
      refine z_load_n X (x := v) (show cdA 164 43 = some (.iload_n 2, 1, 0, 0, 0) from rfl) (List.Mem.tail _ (List.Mem.tail _ (List.Mem.head _))) ?_
      refine z_callV X 61 (rm := rmN 61) (As := [.int (Int32.ofInt v)]) (st := []) (show cdA 164 44 = some (.invokevirtual 306, 3, 61, 0, 0) from rfl) rfl (by decide) rfl (by rw [E.1, E.2.1, E.2.2.1]; exact c6_setRest_61 G Is15 (by omega)) ⟨by rw [E.2.2.2]; exact (show (rmN 61).frames + 1 ≤ (rmN 164).frames by decide), by rw [E.2.2.2]; exact (show 8 + (mNL (miB 61) + 11) + (rmN 61).locals ≤ (rmN 164).locals by decide), by rw [E.2.2.2]; exact (show (1 + 1) + 0 ≤ 2 by omega), by rw [E.2.2.2]; exact (show (6 + 6) + 0 ≤ 12 by omega)⟩ (Nat.le_of_ble_eq_true rfl) (fun vv s18 hq => ?_) (fun ee s18 hq => ?_)
      rotate_left
      · obtain ⟨Is18, Fs18, e19, hv, hrs18, hps18⟩ := hq; cases hv
      obtain ⟨Is18, Fs18, e19, hv, hrs18, hps18⟩ := hq
      cases hv
      have Gs18 := fm_ts Gs15 Fs18 (by decide) (by decide)
      have ws18_36 : iI s18 36 = iI s15 36 := fm_i Fs18 (by decide)
      have b20 : (1 : Int) ≤ iI s18 37 ∧ iI s18 37 ≤ 8 := Is18.1 37
      show WS k 47 [(0, .ref (A 0)), (1, .int (Int32.ofInt u)), (2, .int (Int32.ofInt v))] [.int (Int32.ofInt e19)] (Wd A dT s18) (1 + 1) (6 + 6)
      exact w_iret X.1 q hRt rfl (ax_d X (show cdA 164 47 = some (.ireturn, 1, 0, 0, 0) from rfl)) (show (1 + 1) ≤ 2 by omega) (show (6 + 6) ≤ 12 by omega) ⟨_, rfl, Is18, Gs18, Or.inl ⟨e19, rfl, ⟨by omega, by omega⟩, by omega⟩⟩
    ·
      refine z_aload_n X (x := A 0) (show cdA 164 28 = some (.aload_n 0, 1, 0, 0, 0) from rfl) (List.Mem.head _) ?_
      refine s_getR X 0 (show cdA 164 29 = some (.getfield 80, 3, 11, 8, 0) from rfl) (by decide) rfl rfl ?_
      refine z_load_n X (x := v) (show cdA 164 32 = some (.iload_n 2, 1, 0, 0, 0) from rfl) (List.Mem.tail _ (List.Mem.tail _ (List.Mem.head _))) ?_
      refine z_callV X 61 (rm := rmN 60) (As := [.int (Int32.ofInt v)]) (st := []) (show cdA 164 33 = some (.invokevirtual 303, 3, 60, 0, 0) from rfl) rfl (by decide) rfl (by rw [E.1, E.2.1, E.2.2.1]; exact c6_setWork_61 G Is15 (by omega)) ⟨by rw [E.2.2.2]; exact (show (rmN 60).frames + 1 ≤ (rmN 164).frames by decide), by rw [E.2.2.2]; exact (show 8 + (mNL (miB 60) + 11) + (rmN 60).locals ≤ (rmN 164).locals by decide), by rw [E.2.2.2]; exact (show (1 + 1) + 0 ≤ 2 by omega), by rw [E.2.2.2]; exact (show (6 + 6) + 0 ≤ 12 by omega)⟩ (Nat.le_of_ble_eq_true rfl) (fun vv s21 hq => ?_) (fun ee s21 hq => ?_)
      rotate_left
      · obtain ⟨Is21, Fs21, e22, hv, hrs21, hps21⟩ := hq; cases hv
      obtain ⟨Is21, Fs21, e22, hv, hrs21, hps21⟩ := hq
      cases hv
      have Gs21 := fm_ts Gs15 Fs21 (by decide) (by decide)
      have b23 : (1 : Int) ≤ iI s21 36 ∧ iI s21 36 ≤ 24 := Is21.1 36
      have ws21_37 : iI s21 37 = iI s15 37 := fm_i Fs21 (by decide)
      show WS k 36 [(0, .ref (A 0)), (1, .int (Int32.ofInt u)), (2, .int (Int32.ofInt v))] [.int (Int32.ofInt e22)] (Wd A dT s21) (1 + 1) (6 + 6)
      refine z_goto X (t := 47) (show cdA 164 36 = some (.goto 11, 3, 0, 0, 0) from rfl) (by decide) ?_
      exact w_iret X.1 q hRt rfl (ax_d X (show cdA 164 47 = some (.ireturn, 1, 0, 0, 0) from rfl)) (show (1 + 1) ≤ 2 by omega) (show (6 + 6) ≤ 12 by omega) ⟨_, rfl, Is21, Gs21, Or.inl ⟨e22, rfl, ⟨by omega, by omega⟩, by omega⟩⟩
theorem cs_configure2 (G : GX l s0 D tys a0 dT) (I : Bd s) {v : Int} (p0 : rng v) : CT l s0 D A dT 160 (rmN 160) [.ref (A 0), .int (Int32.ofInt v)] s (fun o t => Bd t ∧ Fm [32] [46] s t ∧ ((∃ e, o = .inl (some (.int (Int32.ofInt e))) ∧ rng e ∧ (0 ≤ v ∧ v < 16777216 ∧ ((iI s 32 = 6 ∧ e = -1 ∧ iI t 32 = 6) ∨ (iI s 32 ≠ 6 ∧ e = iI s 32 ∧ iI t 32 = iI s 32 + 1)))) ∨ ∃ x : Nat, o = .inr (exN x) ∧ (x = 0 ∧ (v < 0 ∨ 16777216 ≤ v) ∧ iI t 32 = iI s 32))) := by
  refine ct_ofX G (by decide) (Nat.le_of_ble_eq_true rfl) (fun k X E ET hRt hXt q => ?_)
  show WS k 0 [(0, .ref (A 0)), (1, .int (Int32.ofInt v))] [] _ 0 0
  have F : Fm [32] [46] s s := fm_rf _ _ s
  have b1 : (0 : Int) ≤ iI s 32 ∧ iI s 32 ≤ 6 := I.1 32
  refine z_aload_n X (x := A 0) (show cdA 160 0 = some (.aload_n 0, 1, 0, 0, 0) from rfl) (List.Mem.head _) ?_
  refine z_load_n X (x := v) (show cdA 160 1 = some (.iload_n 1, 1, 0, 0, 0) from rfl) (List.Mem.tail _ (List.Mem.head _)) ?_
  refine z_const X (show cdA 160 2 = some (.iconst 0, 1, 0, 0, 0) from rfl) ?_
  refine z_ldcw X (show cdA 160 3 = some (.ldc_w 271, 3, 0, 0, 16777215) from rfl) ?_
  refine z_callV X 0 (rm := rmN 184) (As := [.int (Int32.ofInt v), .int (Int32.ofInt 0), .int (Int32.ofInt 16777215)]) (st := []) (show cdA 160 6 = some (.invokevirtual 151, 3, 184, 0, 0) from rfl) rfl (by decide) rfl (by rw [E.1, E.2.1, E.2.2.1]; exact cs_needWithin2 G I (by omega) (by omega) (by omega)) ⟨by rw [E.2.2.2]; exact (show (rmN 184).frames + 1 ≤ (rmN 160).frames by decide), by rw [E.2.2.2]; exact (show 8 + (mNL (miB 184) + 11) + (rmN 184).locals ≤ (rmN 160).locals by decide), by rw [E.2.2.2]; exact (show 0 + 1 ≤ 1 by omega), by rw [E.2.2.2]; exact (show 0 + 6 ≤ 6 by omega)⟩ (Nat.le_of_ble_eq_true rfl) (fun vv s2 hq => ?_) (fun ee s2 hq => ?_)
  rotate_left
  · obtain ⟨Is2, Fs2, (⟨hv, hps2⟩ | ⟨xx, hv, hps2⟩)⟩ := hq
    · cases hv
    · cases hv
      have Gs2 := fm_ts F Fs2 (by decide) (by decide)
      have ws2_32 : iI s2 32 = iI s 32 := fm_i Fs2 (by decide)
      exact x_out X.1 q (fun x hx => (hXt x hx).elim) (show 1 ≤ 1 by omega) (show 6 ≤ 6 by omega) ⟨_, rfl, Is2, Gs2, Or.inr ⟨xx, rfl, by omega⟩⟩
  obtain ⟨Is2, Fs2, (⟨hv, hps2⟩ | ⟨xx, hv, hps2⟩)⟩ := hq
  rotate_left
  · cases hv
  cases hv
  have Gs2 := fm_ts F Fs2 (by decide) (by decide)
  have ws2_32 : iI s2 32 = iI s 32 := fm_i Fs2 (by decide)
  show WS k 9 [(0, .ref (A 0)), (1, .int (Int32.ofInt v))] [] (Wd A dT s2) 1 6
  refine z_aload_n X (x := A 0) (show cdA 160 9 = some (.aload_n 0, 1, 0, 0, 0) from rfl) (List.Mem.head _) ?_
  refine s_getR X 0 (show cdA 160 10 = some (.getfield 71, 3, 11, 7, 0) from rfl) (by decide) rfl rfl ?_
  refine z_load_n X (x := v) (show cdA 160 13 = some (.iload_n 1, 1, 0, 0, 0) from rfl) (List.Mem.tail _ (List.Mem.head _)) ?_
  refine z_callV X 54 (rm := rmN 43) (As := [.int (Int32.ofInt v)]) (st := []) (show cdA 160 14 = some (.invokevirtual 272, 3, 43, 0, 0) from rfl) rfl (by decide) rfl (by rw [E.1, E.2.1, E.2.2.1]; exact c4_add_54 G Is2 (by omega)) ⟨by rw [E.2.2.2]; exact (show (rmN 43).frames + 1 ≤ (rmN 160).frames by decide), by rw [E.2.2.2]; exact (show 8 + (mNL (miB 43) + 11) + (rmN 43).locals ≤ (rmN 160).locals by decide), by rw [E.2.2.2]; exact (show 1 + 0 ≤ 1 by omega), by rw [E.2.2.2]; exact (show 6 + 0 ≤ 6 by omega)⟩ (Nat.le_of_ble_eq_true rfl) (fun vv s4 hq => ?_) (fun ee s4 hq => ?_)
  rotate_left
  · obtain ⟨Is4, Fs4, e5, hv, hrs4, hps4⟩ := hq; cases hv
  obtain ⟨Is4, Fs4, e5, hv, hrs4, hps4⟩ := hq
  cases hv
  have Gs4 := fm_ts Gs2 Fs4 (by decide) (by decide)
  have b6 : (0 : Int) ≤ iI s4 32 ∧ iI s4 32 ≤ 6 := Is4.1 32
  show WS k 17 [(0, .ref (A 0)), (1, .int (Int32.ofInt v))] [.int (Int32.ofInt e5)] (Wd A dT s4) 1 6
  exact w_iret X.1 q hRt rfl (ax_d X (show cdA 160 17 = some (.ireturn, 1, 0, 0, 0) from rfl)) (show 1 ≤ 1 by omega) (show 6 ≤ 6 by omega) ⟨_, rfl, Is4, Gs4, Or.inl ⟨e5, rfl, ⟨by omega, by omega⟩, by omega⟩⟩
theorem lw_length2 (G : GX l s0 D tys a0 dT) (I : Bd s) {v : Int} (p0 : rng v) : CTL l s0 D A dT 328 (rmN 328) [.ref (A 0), .int (Int32.ofInt v), .ref (A 517)] s (fun o t => Bd t ∧ Fm [21] [] s t ∧ ∃ e, o = .inl (some (.int (Int32.ofInt e))) ∧ rng e ∧ ((e = 0 ∧ 0 ≤ v ∧ v ≤ 9 ∧ iO t = iI s 21 ∧ iI t 21 = v) ∨ (e = 1 ∧ (v < 0 ∨ 9 < v) ∧ iI t 21 = iI s 21))) := by
  refine ctL_of G (by decide) (Nat.le_of_ble_eq_true rfl) (by decide) (show cdA 328 0 = some (.aload_n 2, 1, 0, 0, 0) from rfl) (fun k X E ET hRt hEx q => ?_)
  show WS k 0 [(0, .ref (A 0)), (1, .int (Int32.ofInt v)), (2, .ref (A 517))] [] _ 0 0
  have F : Fm [21] [] s s := fm_rf _ _ s
  have hA := swA_rf A
  have b1 : (0 : Int) ≤ iI s 21 ∧ iI s 21 ≤ 9 := I.1 21
  refine z_aload_n X (x := A 517) (show cdA 328 0 = some (.aload_n 2, 1, 0, 0, 0) from rfl) (List.Mem.tail _ (List.Mem.tail _ (List.Mem.head _))) ?_
  refine z_const X (show cdA 328 1 = some (.iconst 0, 1, 0, 0, 0) from rfl) ?_
  refine z_aload_n X (x := A 0) (show cdA 328 2 = some (.aload_n 0, 1, 0, 0, 0) from rfl) (List.Mem.head _) ?_
  refine z_load_n X (x := v) (show cdA 328 3 = some (.iload_n 1, 1, 0, 0, 0) from rfl) (List.Mem.tail _ (List.Mem.head _)) ?_
  refine z_callV X 0 (rm := rmN 151) (As := [.int (Int32.ofInt v)]) (st := [.int (Int32.ofInt 0), .ref (A 517)]) (show cdA 328 4 = some (.invokevirtual 63, 3, 151, 0, 0) from rfl) rfl (by decide) rfl (by rw [E.1, E.2.1, E.2.2.1]; exact cs_length2 G I (by omega)) ⟨by rw [E.2.2.2]; exact (show (rmN 151).frames + 1 ≤ (rmN 328).frames by decide), by rw [E.2.2.2]; exact (show 8 + (mNL (miB 151) + 11) + (rmN 151).locals ≤ (rmN 328).locals by decide), by rw [E.2.2.2]; exact (show 0 + (rmN 151).cells ≤ (rmN 328).cells by decide), by rw [E.2.2.2]; exact (show 0 + (rmN 151).slots ≤ (rmN 328).slots by decide)⟩ (Nat.le_of_ble_eq_true rfl) (fun vv s2 hq => ?_) (fun ee s2 hq => ?_)
  rotate_left
  · obtain ⟨Is2, Fs2, (⟨e3, hv, hrs2, hps2⟩ | ⟨xx, hv, hps2⟩)⟩ := hq
    · cases hv
    · cases hv
      rcases (show xx = 0 by omega) with gx
      ·
        subst gx
        have Gs2 := fm_ts F Fs2 (by decide) (by decide)
        have b4 : (0 : Int) ≤ iI s2 21 ∧ iI s2 21 ≤ 9 := Is2.1 21
        refine (hEx 4 0).2 12 rfl _ _ _ _ _ (fun q1 => ?_)
        show WS k 12 [(0, .ref (A 0)), (1, .int (Int32.ofInt v)), (2, .ref (A 517))] [.ref q1] (Wd A dT s2) 1 6
        refine z_astore_n X (lv' := [(3, .ref q1), (0, .ref (A 0)), (1, .int (Int32.ofInt v)), (2, .ref (A 517))]) (show cdA 328 12 = some (.astore_n 3, 1, 0, 0, 0) from rfl) (by decide) (fun _ h => h) ?_
        refine z_const X (show cdA 328 13 = some (.iconst 1, 1, 0, 0, 0) from rfl) ?_
        exact w_iret X.1 q hRt rfl (ax_d X (show cdA 328 14 = some (.ireturn, 1, 0, 0, 0) from rfl)) (show 1 ≤ 1 by omega) (show 6 ≤ 6 by omega) ⟨A, _, hA, rfl, Is2, Gs2, 1, rfl, ⟨by omega, by omega⟩, by omega⟩
  obtain ⟨Is2, Fs2, (⟨e3, hv, hrs2, hps2⟩ | ⟨xx, hv, hps2⟩)⟩ := hq
  rotate_left
  · cases hv
  cases hv
  have Gs2 := fm_ts F Fs2 (by decide) (by decide)
  have b5 : (0 : Int) ≤ iI s2 21 ∧ iI s2 21 ≤ 9 := Is2.1 21
  show WS k 7 [(0, .ref (A 0)), (1, .int (Int32.ofInt v)), (2, .ref (A 517))] [.int (Int32.ofInt e3), .int (Int32.ofInt 0), .ref (A 517)] (Wd A dT s2) 1 6
  refine w_i2l X.1 (ax_d X (show cdA 328 7 = some (.i2l, 1, 0, 0, 0) from rfl)) ?_
  refine z_last X 517 (show cdA 328 8 = some (.lastore, 1, 0, 0, 0) from rfl) (by decide) rfl (by omega) (show 0 < 1 by omega) (by decide) ?_
  obtain ⟨s6, hs6⟩ : ∃ x0, x0 = uD s2 460 (0 : Int).toNat (Int32.ofInt e3).toInt64 := ⟨_, rfl⟩
  rw [← hs6]
  have Is6 : Bd s6 := by rw [hs6]; exact bd_D Is2
  have Fs6 : Fm [21] [] s s6 := by rw [hs6]; exact fm_D Gs2
  have ws6_21 : iI s6 21 = iI s2 21 := by rw [hs6]; rfl
  have oos6 : iO s6 = e3 := by rw [hs6]; exact iO_u (by omega)
  refine z_goto X (t := 15) (show cdA 328 9 = some (.goto 6, 3, 0, 0, 0) from rfl) (by decide) ?_
  refine z_const X (show cdA 328 15 = some (.iconst 0, 1, 0, 0, 0) from rfl) ?_
  exact w_iret X.1 q hRt rfl (ax_d X (show cdA 328 16 = some (.ireturn, 1, 0, 0, 0) from rfl)) (show 1 ≤ 1 by omega) (show 6 ≤ 6 by omega) ⟨A, _, hA, rfl, Is6, Fs6, 0, rfl, ⟨by omega, by omega⟩, by omega⟩
theorem lw_busy2 (G : GX l s0 D tys a0 dT) (I : Bd s) {v : Int} (p0 : rng v) : CTL l s0 D A dT 336 (rmN 336) [.ref (A 0), .int (Int32.ofInt v), .ref (A 517)] s (fun o t => Bd t ∧ Fm [33] [] s t ∧ ∃ e, o = .inl (some (.int (Int32.ofInt e))) ∧ rng e ∧ ((e = 0 ∧ 0 ≤ v ∧ v ≤ 100000 ∧ iO t = iI s 33 ∧ iI t 33 = v) ∨ (e = 1 ∧ (v < 0 ∨ 100000 < v) ∧ iI t 33 = iI s 33))) := by
  refine ctL_of G (by decide) (Nat.le_of_ble_eq_true rfl) (by decide) (show cdA 336 0 = some (.aload_n 2, 1, 0, 0, 0) from rfl) (fun k X E ET hRt hEx q => ?_)
  show WS k 0 [(0, .ref (A 0)), (1, .int (Int32.ofInt v)), (2, .ref (A 517))] [] _ 0 0
  have F : Fm [33] [] s s := fm_rf _ _ s
  have hA := swA_rf A
  have b1 : (0 : Int) ≤ iI s 33 ∧ iI s 33 ≤ 100000 := I.1 33
  refine z_aload_n X (x := A 517) (show cdA 336 0 = some (.aload_n 2, 1, 0, 0, 0) from rfl) (List.Mem.tail _ (List.Mem.tail _ (List.Mem.head _))) ?_
  refine z_const X (show cdA 336 1 = some (.iconst 0, 1, 0, 0, 0) from rfl) ?_
  refine z_aload_n X (x := A 0) (show cdA 336 2 = some (.aload_n 0, 1, 0, 0, 0) from rfl) (List.Mem.head _) ?_
  refine z_load_n X (x := v) (show cdA 336 3 = some (.iload_n 1, 1, 0, 0, 0) from rfl) (List.Mem.tail _ (List.Mem.head _)) ?_
  refine z_callV X 0 (rm := rmN 162) (As := [.int (Int32.ofInt v)]) (st := [.int (Int32.ofInt 0), .ref (A 517)]) (show cdA 336 4 = some (.invokevirtual 87, 3, 162, 0, 0) from rfl) rfl (by decide) rfl (by rw [E.1, E.2.1, E.2.2.1]; exact cs_busy2 G I (by omega)) ⟨by rw [E.2.2.2]; exact (show (rmN 162).frames + 1 ≤ (rmN 336).frames by decide), by rw [E.2.2.2]; exact (show 8 + (mNL (miB 162) + 11) + (rmN 162).locals ≤ (rmN 336).locals by decide), by rw [E.2.2.2]; exact (show 0 + (rmN 162).cells ≤ (rmN 336).cells by decide), by rw [E.2.2.2]; exact (show 0 + (rmN 162).slots ≤ (rmN 336).slots by decide)⟩ (Nat.le_of_ble_eq_true rfl) (fun vv s2 hq => ?_) (fun ee s2 hq => ?_)
  rotate_left
  · obtain ⟨Is2, Fs2, (⟨e3, hv, hrs2, hps2⟩ | ⟨xx, hv, hps2⟩)⟩ := hq
    · cases hv
    · cases hv
      rcases (show xx = 0 by omega) with gx
      ·
        subst gx
        have Gs2 := fm_ts F Fs2 (by decide) (by decide)
        have b4 : (0 : Int) ≤ iI s2 33 ∧ iI s2 33 ≤ 100000 := Is2.1 33
        refine (hEx 4 0).2 12 rfl _ _ _ _ _ (fun q1 => ?_)
        show WS k 12 [(0, .ref (A 0)), (1, .int (Int32.ofInt v)), (2, .ref (A 517))] [.ref q1] (Wd A dT s2) 1 6
        refine z_astore_n X (lv' := [(3, .ref q1), (0, .ref (A 0)), (1, .int (Int32.ofInt v)), (2, .ref (A 517))]) (show cdA 336 12 = some (.astore_n 3, 1, 0, 0, 0) from rfl) (by decide) (fun _ h => h) ?_
        refine z_const X (show cdA 336 13 = some (.iconst 1, 1, 0, 0, 0) from rfl) ?_
        exact w_iret X.1 q hRt rfl (ax_d X (show cdA 336 14 = some (.ireturn, 1, 0, 0, 0) from rfl)) (show 1 ≤ 1 by omega) (show 6 ≤ 6 by omega) ⟨A, _, hA, rfl, Is2, Gs2, 1, rfl, ⟨by omega, by omega⟩, by omega⟩
  obtain ⟨Is2, Fs2, (⟨e3, hv, hrs2, hps2⟩ | ⟨xx, hv, hps2⟩)⟩ := hq
  rotate_left
  · cases hv
  cases hv
  have Gs2 := fm_ts F Fs2 (by decide) (by decide)
  have b5 : (0 : Int) ≤ iI s2 33 ∧ iI s2 33 ≤ 100000 := Is2.1 33
  show WS k 7 [(0, .ref (A 0)), (1, .int (Int32.ofInt v)), (2, .ref (A 517))] [.int (Int32.ofInt e3), .int (Int32.ofInt 0), .ref (A 517)] (Wd A dT s2) 1 6
  refine w_i2l X.1 (ax_d X (show cdA 336 7 = some (.i2l, 1, 0, 0, 0) from rfl)) ?_
  refine z_last X 517 (show cdA 336 8 = some (.lastore, 1, 0, 0, 0) from rfl) (by decide) rfl (by omega) (show 0 < 1 by omega) (by decide) ?_
  obtain ⟨s6, hs6⟩ : ∃ x0, x0 = uD s2 460 (0 : Int).toNat (Int32.ofInt e3).toInt64 := ⟨_, rfl⟩
  rw [← hs6]
  have Is6 : Bd s6 := by rw [hs6]; exact bd_D Is2
  have Fs6 : Fm [33] [] s s6 := by rw [hs6]; exact fm_D Gs2
  have ws6_33 : iI s6 33 = iI s2 33 := by rw [hs6]; rfl
  have oos6 : iO s6 = e3 := by rw [hs6]; exact iO_u (by omega)
  refine z_goto X (t := 15) (show cdA 336 9 = some (.goto 6, 3, 0, 0, 0) from rfl) (by decide) ?_
  refine z_const X (show cdA 336 15 = some (.iconst 0, 1, 0, 0, 0) from rfl) ?_
  exact w_iret X.1 q hRt rfl (ax_d X (show cdA 336 16 = some (.ireturn, 1, 0, 0, 0) from rfl)) (show 1 ≤ 1 by omega) (show 6 ≤ 6 by omega) ⟨A, _, hA, rfl, Is6, Fs6, 0, rfl, ⟨by omega, by omega⟩, by omega⟩
theorem lw_hours2 (G : GX l s0 D tys a0 dT) (I : Bd s) {u v : Int} (p0 : rng u) (p1 : rng v) : CTL l s0 D A dT 338 (rmN 338) [.ref (A 0), .int (Int32.ofInt u), .int (Int32.ofInt v), .ref (A 517)] s (fun o t => Bd t ∧ Fm [36, 37] [] s t ∧ ∃ e, o = .inl (some (.int (Int32.ofInt e))) ∧ rng e ∧ ((e = 0 ∧ ((u = 0 ∧ 1 ≤ v ∧ v ≤ 24 ∧ iO t = iI s 36 ∧ iI t 36 = v ∧ iI t 37 = iI s 37) ∨ (u = 1 ∧ 1 ≤ v ∧ v ≤ 8 ∧ iO t = iI s 37 ∧ iI t 37 = v ∧ iI t 36 = iI s 36))) ∨ (e = 1 ∧ (u < 0 ∨ 1 < u ∨ v < 1 ∨ (u = 0 ∧ 24 < v) ∨ (u = 1 ∧ 8 < v)) ∧ iI t 36 = iI s 36 ∧ iI t 37 = iI s 37))) := by
  refine ctL_of G (by decide) (Nat.le_of_ble_eq_true rfl) (by decide) (show cdA 338 0 = some (.aload_n 3, 1, 0, 0, 0) from rfl) (fun k X E ET hRt hEx q => ?_)
  show WS k 0 [(0, .ref (A 0)), (1, .int (Int32.ofInt u)), (2, .int (Int32.ofInt v)), (3, .ref (A 517))] [] _ 0 0
  have F : Fm [36, 37] [] s s := fm_rf _ _ s
  have hA := swA_rf A
  have b1 : (1 : Int) ≤ iI s 36 ∧ iI s 36 ≤ 24 := I.1 36
  have b2 : (1 : Int) ≤ iI s 37 ∧ iI s 37 ≤ 8 := I.1 37
  refine z_aload_n X (x := A 517) (show cdA 338 0 = some (.aload_n 3, 1, 0, 0, 0) from rfl) (List.Mem.tail _ (List.Mem.tail _ (List.Mem.tail _ (List.Mem.head _)))) ?_
  refine z_const X (show cdA 338 1 = some (.iconst 0, 1, 0, 0, 0) from rfl) ?_
  refine z_aload_n X (x := A 0) (show cdA 338 2 = some (.aload_n 0, 1, 0, 0, 0) from rfl) (List.Mem.head _) ?_
  refine z_load_n X (x := u) (show cdA 338 3 = some (.iload_n 1, 1, 0, 0, 0) from rfl) (List.Mem.tail _ (List.Mem.head _)) ?_
  refine z_load_n X (x := v) (show cdA 338 4 = some (.iload_n 2, 1, 0, 0, 0) from rfl) (List.Mem.tail _ (List.Mem.tail _ (List.Mem.head _))) ?_
  refine z_callV X 0 (rm := rmN 164) (As := [.int (Int32.ofInt u), .int (Int32.ofInt v)]) (st := [.int (Int32.ofInt 0), .ref (A 517)]) (show cdA 338 5 = some (.invokevirtual 93, 3, 164, 0, 0) from rfl) rfl (by decide) rfl (by rw [E.1, E.2.1, E.2.2.1]; exact cs_hours2 G I (by omega) (by omega)) ⟨by rw [E.2.2.2]; exact (show (rmN 164).frames + 1 ≤ (rmN 338).frames by decide), by rw [E.2.2.2]; exact (show 8 + (mNL (miB 164) + 11) + (rmN 164).locals ≤ (rmN 338).locals by decide), by rw [E.2.2.2]; exact (show 0 + (rmN 164).cells ≤ (rmN 338).cells by decide), by rw [E.2.2.2]; exact (show 0 + (rmN 164).slots ≤ (rmN 338).slots by decide)⟩ (Nat.le_of_ble_eq_true rfl) (fun vv s3 hq => ?_) (fun ee s3 hq => ?_)
  rotate_left
  · obtain ⟨Is3, Fs3, (⟨e4, hv, hrs3, hps3⟩ | ⟨xx, hv, hps3⟩)⟩ := hq
    · cases hv
    · cases hv
      rcases (show xx = 0 by omega) with gx
      ·
        subst gx
        have Gs3 := fm_ts F Fs3 (by decide) (by decide)
        have b5 : (1 : Int) ≤ iI s3 36 ∧ iI s3 36 ≤ 24 := Is3.1 36
        have b6 : (1 : Int) ≤ iI s3 37 ∧ iI s3 37 ≤ 8 := Is3.1 37
        refine (hEx 5 0).2 13 rfl _ _ _ _ _ (fun q1 => ?_)
        show WS k 13 [(0, .ref (A 0)), (1, .int (Int32.ofInt u)), (2, .int (Int32.ofInt v)), (3, .ref (A 517))] [.ref q1] (Wd A dT s3) 2 12
        refine z_astore X (lv' := [(4, .ref q1), (0, .ref (A 0)), (1, .int (Int32.ofInt u)), (2, .int (Int32.ofInt v)), (3, .ref (A 517))]) (show cdA 338 13 = some (.astore 4, 2, 0, 0, 0) from rfl) (by decide) (fun _ h => h) ?_
        refine z_const X (show cdA 338 15 = some (.iconst 1, 1, 0, 0, 0) from rfl) ?_
        exact w_iret X.1 q hRt rfl (ax_d X (show cdA 338 16 = some (.ireturn, 1, 0, 0, 0) from rfl)) (show 2 ≤ 2 by omega) (show 12 ≤ 12 by omega) ⟨A, _, hA, rfl, Is3, Gs3, 1, rfl, ⟨by omega, by omega⟩, by omega⟩
  obtain ⟨Is3, Fs3, (⟨e4, hv, hrs3, hps3⟩ | ⟨xx, hv, hps3⟩)⟩ := hq
  rotate_left
  · cases hv
  cases hv
  have Gs3 := fm_ts F Fs3 (by decide) (by decide)
  have b7 : (1 : Int) ≤ iI s3 36 ∧ iI s3 36 ≤ 24 := Is3.1 36
  have b8 : (1 : Int) ≤ iI s3 37 ∧ iI s3 37 ≤ 8 := Is3.1 37
  show WS k 8 [(0, .ref (A 0)), (1, .int (Int32.ofInt u)), (2, .int (Int32.ofInt v)), (3, .ref (A 517))] [.int (Int32.ofInt e4), .int (Int32.ofInt 0), .ref (A 517)] (Wd A dT s3) 2 12
  refine w_i2l X.1 (ax_d X (show cdA 338 8 = some (.i2l, 1, 0, 0, 0) from rfl)) ?_
  refine z_last X 517 (show cdA 338 9 = some (.lastore, 1, 0, 0, 0) from rfl) (by decide) rfl (by omega) (show 0 < 1 by omega) (by decide) ?_
  obtain ⟨s9, hs9⟩ : ∃ x0, x0 = uD s3 460 (0 : Int).toNat (Int32.ofInt e4).toInt64 := ⟨_, rfl⟩
  rw [← hs9]
  have Is9 : Bd s9 := by rw [hs9]; exact bd_D Is3
  have Fs9 : Fm [36, 37] [] s s9 := by rw [hs9]; exact fm_D Gs3
  have ws9_36 : iI s9 36 = iI s3 36 := by rw [hs9]; rfl
  have ws9_37 : iI s9 37 = iI s3 37 := by rw [hs9]; rfl
  have oos9 : iO s9 = e4 := by rw [hs9]; exact iO_u (by omega)
  refine z_goto X (t := 17) (show cdA 338 10 = some (.goto 7, 3, 0, 0, 0) from rfl) (by decide) ?_
  refine z_const X (show cdA 338 17 = some (.iconst 0, 1, 0, 0, 0) from rfl) ?_
  exact w_iret X.1 q hRt rfl (ax_d X (show cdA 338 18 = some (.ireturn, 1, 0, 0, 0) from rfl)) (show 2 ≤ 2 by omega) (show 12 ≤ 12 by omega) ⟨A, _, hA, rfl, Is9, Fs9, 0, rfl, ⟨by omega, by omega⟩, by omega⟩
theorem lw_configure2 (G : GX l s0 D tys a0 dT) (I : Bd s) {v : Int} (p0 : rng v) : CTL l s0 D A dT 334 (rmN 334) [.ref (A 0), .int (Int32.ofInt v), .ref (A 517)] s (fun o t => Bd t ∧ Fm [32] [46] s t ∧ ∃ e, o = .inl (some (.int (Int32.ofInt e))) ∧ rng e ∧ ((e = 0 ∧ 0 ≤ v ∧ v < 16777216 ∧ ((iI s 32 = 6 ∧ iO t = -1 ∧ iI t 32 = 6) ∨ (iI s 32 ≠ 6 ∧ iO t = iI s 32 ∧ iI t 32 = iI s 32 + 1))) ∨ (e = 1 ∧ (v < 0 ∨ 16777216 ≤ v) ∧ iI t 32 = iI s 32))) := by
  refine ctL_of G (by decide) (Nat.le_of_ble_eq_true rfl) (by decide) (show cdA 334 0 = some (.aload_n 2, 1, 0, 0, 0) from rfl) (fun k X E ET hRt hEx q => ?_)
  show WS k 0 [(0, .ref (A 0)), (1, .int (Int32.ofInt v)), (2, .ref (A 517))] [] _ 0 0
  have F : Fm [32] [46] s s := fm_rf _ _ s
  have hA := swA_rf A
  have b1 : (0 : Int) ≤ iI s 32 ∧ iI s 32 ≤ 6 := I.1 32
  refine z_aload_n X (x := A 517) (show cdA 334 0 = some (.aload_n 2, 1, 0, 0, 0) from rfl) (List.Mem.tail _ (List.Mem.tail _ (List.Mem.head _))) ?_
  refine z_const X (show cdA 334 1 = some (.iconst 0, 1, 0, 0, 0) from rfl) ?_
  refine z_aload_n X (x := A 0) (show cdA 334 2 = some (.aload_n 0, 1, 0, 0, 0) from rfl) (List.Mem.head _) ?_
  refine z_load_n X (x := v) (show cdA 334 3 = some (.iload_n 1, 1, 0, 0, 0) from rfl) (List.Mem.tail _ (List.Mem.head _)) ?_
  refine z_callV X 0 (rm := rmN 160) (As := [.int (Int32.ofInt v)]) (st := [.int (Int32.ofInt 0), .ref (A 517)]) (show cdA 334 4 = some (.invokevirtual 81, 3, 160, 0, 0) from rfl) rfl (by decide) rfl (by rw [E.1, E.2.1, E.2.2.1]; exact cs_configure2 G I (by omega)) ⟨by rw [E.2.2.2]; exact (show (rmN 160).frames + 1 ≤ (rmN 334).frames by decide), by rw [E.2.2.2]; exact (show 8 + (mNL (miB 160) + 11) + (rmN 160).locals ≤ (rmN 334).locals by decide), by rw [E.2.2.2]; exact (show 0 + (rmN 160).cells ≤ (rmN 334).cells by decide), by rw [E.2.2.2]; exact (show 0 + (rmN 160).slots ≤ (rmN 334).slots by decide)⟩ (Nat.le_of_ble_eq_true rfl) (fun vv s2 hq => ?_) (fun ee s2 hq => ?_)
  rotate_left
  · obtain ⟨Is2, Fs2, (⟨e3, hv, hrs2, hps2⟩ | ⟨xx, hv, hps2⟩)⟩ := hq
    · cases hv
    · cases hv
      rcases (show xx = 0 by omega) with gx
      ·
        subst gx
        have Gs2 := fm_ts F Fs2 (by decide) (by decide)
        have b4 : (0 : Int) ≤ iI s2 32 ∧ iI s2 32 ≤ 6 := Is2.1 32
        refine (hEx 4 0).2 12 rfl _ _ _ _ _ (fun q1 => ?_)
        show WS k 12 [(0, .ref (A 0)), (1, .int (Int32.ofInt v)), (2, .ref (A 517))] [.ref q1] (Wd A dT s2) 1 6
        refine z_astore_n X (lv' := [(3, .ref q1), (0, .ref (A 0)), (1, .int (Int32.ofInt v)), (2, .ref (A 517))]) (show cdA 334 12 = some (.astore_n 3, 1, 0, 0, 0) from rfl) (by decide) (fun _ h => h) ?_
        refine z_const X (show cdA 334 13 = some (.iconst 1, 1, 0, 0, 0) from rfl) ?_
        exact w_iret X.1 q hRt rfl (ax_d X (show cdA 334 14 = some (.ireturn, 1, 0, 0, 0) from rfl)) (show 1 ≤ 1 by omega) (show 6 ≤ 6 by omega) ⟨A, _, hA, rfl, Is2, Gs2, 1, rfl, ⟨by omega, by omega⟩, by omega⟩
  obtain ⟨Is2, Fs2, (⟨e3, hv, hrs2, hps2⟩ | ⟨xx, hv, hps2⟩)⟩ := hq
  rotate_left
  · cases hv
  cases hv
  have Gs2 := fm_ts F Fs2 (by decide) (by decide)
  have b5 : (0 : Int) ≤ iI s2 32 ∧ iI s2 32 ≤ 6 := Is2.1 32
  show WS k 7 [(0, .ref (A 0)), (1, .int (Int32.ofInt v)), (2, .ref (A 517))] [.int (Int32.ofInt e3), .int (Int32.ofInt 0), .ref (A 517)] (Wd A dT s2) 1 6
  refine w_i2l X.1 (ax_d X (show cdA 334 7 = some (.i2l, 1, 0, 0, 0) from rfl)) ?_
  refine z_last X 517 (show cdA 334 8 = some (.lastore, 1, 0, 0, 0) from rfl) (by decide) rfl (by omega) (show 0 < 1 by omega) (by decide) ?_
  obtain ⟨s6, hs6⟩ : ∃ x0, x0 = uD s2 460 (0 : Int).toNat (Int32.ofInt e3).toInt64 := ⟨_, rfl⟩
  rw [← hs6]
  have Is6 : Bd s6 := by rw [hs6]; exact bd_D Is2
  have Fs6 : Fm [32] [46] s s6 := by rw [hs6]; exact fm_D Gs2
  have ws6_32 : iI s6 32 = iI s2 32 := by rw [hs6]; rfl
  have oos6 : iO s6 = e3 := by rw [hs6]; exact iO_u (by omega)
  refine z_goto X (t := 15) (show cdA 334 9 = some (.goto 6, 3, 0, 0, 0) from rfl) (by decide) ?_
  refine z_const X (show cdA 334 15 = some (.iconst 0, 1, 0, 0, 0) from rfl) ?_
  exact w_iret X.1 q hRt rfl (ax_d X (show cdA 334 16 = some (.ireturn, 1, 0, 0, 0) from rfl)) (show 1 ≤ 1 by omega) (show 6 ≤ 6 by omega) ⟨A, _, hA, rfl, Is6, Fs6, 0, rfl, ⟨by omega, by omega⟩, by omega⟩
theorem k_thrown2 (G : GX l s0 D tys a0 dT) (I : Bd s)  : CT l s0 D A dT 186 (rmN 186) [.ref (A 179)] s (fun o t => s = t ∧ ∃ e, o = .inl (some (.int (Int32.ofInt e))) ∧ rng e ∧ (e = iI s 73)) := by
  refine ct_of G (by decide) (Nat.le_of_ble_eq_true rfl) (fun k X E hRt hXt q => ?_)
  show WS k 0 [(0, .ref (A 179))] [] _ 0 0
  have F : Fm [] [] s s := fm_rf _ _ s
  refine z_aload_n X (x := A 179) (show cdA 186 0 = some (.aload_n 0, 1, 0, 0, 0) from rfl) (List.Mem.head _) ?_
  refine z_getI X 179 (show cdA 186 1 = some (.getfield 172, 3, 12, 0, 0) from rfl) (by decide) rfl rfl ?_
  have b1 : (0 : Int) ≤ iI s 73 ∧ iI s 73 ≤ 3 := I.1 73
  exact w_iret X.1 q hRt rfl (ax_d X (show cdA 186 4 = some (.ireturn, 1, 0, 0, 0) from rfl)) (Nat.zero_le _) (Nat.zero_le _) ⟨_, rfl, rfl, (iI s 73), rfl, ⟨by omega, by omega⟩, by omega⟩
end M87b
