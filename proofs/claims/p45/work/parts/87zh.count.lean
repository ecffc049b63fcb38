theorem oq_91399671 {a0 a1 : Int} (h0 : (128 - (128 * a0)) ≤ a1) (h1 : a0 ≤ 8) : (-896) ≤ a1 := by omega
theorem oq_320c8f58 {a0 a1 a2 a3 : Int} (h0 : (128 - (128 * a0)) ≤ a1) (h1 : a2 ≤ 64) (h2 : a3 ≤ 64) : (128 - (128 * (a0 + 1))) ≤ (a1 - (a2 + a3)) := by omega
theorem oq_14560260 {a0 a1 a2 : Int} (h0 : a0 ≤ 128) (h1 : 0 ≤ a1) (h2 : 0 ≤ a2) : (a0 - (a1 + a2)) ≤ 128 := by omega
theorem oq_24c08963 {a0 : Int} (h0 : (-896) ≤ a0) : (-2147483648) ≤ a0 := by omega
theorem oq_c8a5794d {a0 a1 : Int} (h0 : a0 ≤ a1) (h1 : a1 ≤ 128) : a0 ≤ 128 := by omega
/-! How many there are -/
theorem smc {g : Nat → Int} {m m' c : Int} (h : m = sm g c.toNat) (c0 : 0 ≤ c) (hm : m' = m + g c.toNat) : m' = sm g (c + 1).toNat := by
  rw [show (c + 1).toNat = c.toNat + 1 by omega]
  show m' = sm g c.toNat + g c.toNat
  rw [hm, h]
/-- pieces that have cells -/
noncomputable def pcnN (f : Nat → Int) : Nat → Int := fun p => i01 (∃ x, pcS f (p : Int) x)
theorem pcn_h {f : Nat → Int} {c e : Int} (h : HCE (pcS f c) e) (c0 : 0 ≤ c) : pcnN f c.toNat = e := by
  show i01 (∃ x, pcS f ((c.toNat : Nat) : Int) x) = e
  rw [show ((c.toNat : Nat) : Int) = c by omega]
  rcases h with ⟨h1, h2⟩ | ⟨h1, h2⟩
  · rw [i01_t h2, h1]
  · rw [i01_f h2, h1]
/-- cells that are shut -/
noncomputable def shN (f : Nat → Int) : Nat → Int := fun c => i01 (f c = -1)
theorem shn_y {f : Nat → Int} {c : Nat} (h : f c = -1) : shN f c = 1 := i01_t h
theorem shn_n {f : Nat → Int} {c : Nat} (h : f c ≠ -1) : shN f c = 0 := i01_f h
/-- the bits of a piece -/
noncomputable def lcN (s : PS) : Nat → Int := fun p => bnN (gD s 22 p) + bnN (gD s 23 p)
theorem i01_d {p : Prop} [d : Decidable p] : i01 p = if p then 1 else 0 := by
  by_cases c : p
  · rw [i01_t c, if_pos c]
  · rw [i01_f c, if_neg c]
theorem one8 {v : Int} (h : -1 ≤ v ∧ v ≤ 7) : sm (fun p : Nat => i01 (v = (p : Int))) 8 + i01 (v = -1) = 1 := by
  rw [show (fun p : Nat => i01 (v = (p : Int))) = fun p : Nat => (if v = (p : Int) then (1 : Int) else 0) from funext (fun p => i01_d), i01_d]
  rcases (show v = -1 ∨ v = 0 ∨ v = 1 ∨ v = 2 ∨ v = 3 ∨ v = 4 ∨ v = 5 ∨ v = 6 ∨ v = 7 by omega) with e | e | e | e | e | e | e | e | e <;> subst e <;> decide
theorem sm_1 : ∀ n : Nat, sm (fun _ => (1 : Int)) n = (n : Int)
  | 0 => rfl
  | n + 1 => by
    show sm (fun _ => (1 : Int)) n + 1 = _
    rw [sm_1 n]
    omega
theorem sh_cnt {s : PS} (h : PMJ s) (hr : ∀ c, c < 128 → -1 ≤ pfC s c ∧ pfC s c ≤ 7) : 128 - sm (lcN s) 8 = sm (shN (pfC s)) 128 := by
  have e1 : sm (lcN s) 8 = sm (fun p => sm (fun c => i01 (pfC s c = (p : Int))) 128) 8 := sm_eq (fun p hp => by
    show bnN (gD s 22 p) + bnN (gD s 23 p) = _
    rw [← inl_cnt]
    refine sm_eq (fun c hc => i01_c ?_)
    have z := pm_in h (p := (p : Int)) ⟨by omega, by omega⟩ (c : Int)
    rw [show ((p : Int)).toNat = p by omega] at z
    rw [z]
    exact ⟨fun q => q.2, fun q => ⟨⟨by omega, by omega⟩, q⟩⟩)
  have e2 : sm (fun c => sm (fun p : Nat => i01 (pfC s c = (p : Int))) 8 + i01 (pfC s c = -1)) 128 = 128 := by
    exact (sm_eq (fun c hc => one8 (hr c hc))).trans (sm_1 128)
  rw [sm_add] at e2
  rw [e1, sm_swap]
  have e3 : sm (shN (pfC s)) 128 = sm (fun c => i01 (pfC s c = -1)) 128 := rfl
  omega
/-- cells of the storm: bits, the model's row -/
theorem sto_cnt {s : PS} (h : SEQ s) (hb : ∀ c, c < 128 → 0 ≤ iC s 399 c ∧ iC s 399 c ≤ 1) : bnN (gJ s 0) + bnN (gJ s 1) = sm (fun c => iC s 399 c) 128 := by
  rw [← inl_cnt]
  refine sm_eq (fun c hc => ?_)
  have z := h (c : Int) (by omega) (by omega)
  have b := hb c hc
  unfold SB at z
  rw [show ((c : Int)).toNat = c by omega] at z
  have y : inL (gJ s 0) (gJ s 1) (c : Int) ↔ iC s 399 c = 1 := by
    rw [← z]
    by_cases q : c < 64
    · rw [inl_l q, if_pos (by omega), Nat.mod_eq_of_lt q]
    · have e : (c : Int) = 64 + ((c - 64 : Nat) : Int) := by omega
      rw [if_neg (by omega), e, inl_h (by omega), show c % 64 = c - 64 by omega]
  by_cases q : iC s 399 c = 1
  · rw [i01_t (y.mpr q), q]
  · rw [i01_f (fun w => q (y.mp w))]; omega
/-- the answer of count -/
def CNQ (u a0 a1 a2 a3 a4 a5 a6 a7 a8 a9 e : Int) : Prop := (u = 0 ∧ e = a0) ∨ (u = 1 ∧ e = a1) ∨ (u = 2 ∧ e = a2) ∨ (u = 3 ∧ e = a3) ∨ (u = 4 ∧ e = a4) ∨ (u = 5 ∧ e = a5) ∨ (u = 6 ∧ e = a6) ∨ (u = 7 ∧ e = a7) ∨ (u = 8 ∧ e = a8) ∨ (u = 9 ∧ e = a9) ∨ ((u < 0 ∨ 9 < u) ∧ e = -1)
theorem cnq_eq {u a0 a1 a2 a3 a4 a5 a6 a7 a8 a9 b0 b1 b2 b3 b4 b5 b6 b7 b8 b9 e e' : Int} (a : CNQ u a0 a1 a2 a3 a4 a5 a6 a7 a8 a9 e) (b : CNQ u b0 b1 b2 b3 b4 b5 b6 b7 b8 b9 e') (h0 : a0 = b0) (h1 : a1 = b1) (h2 : a2 = b2) (h3 : a3 = b3) (h4 : a4 = b4) (h5 : a5 = b5) (h6 : a6 = b6) (h7 : a7 = b7) (h8 : a8 = b8) (h9 : a9 = b9) : e = e' := by
  unfold CNQ at a b
  omega
theorem pcn_eq {f f' : Nat → Int} (h : ∀ j, j < 128 → f j = f' j) : sm (pcnN f) 8 = sm (pcnN f') 8 := sm_eq (fun p _ => by
  show i01 (∃ x, pcS f (p : Int) x) = i01 (∃ x, pcS f' (p : Int) x)
  rw [pcs_c h])
theorem shn_eq {f f' : Nat → Int} (h : ∀ j, j < 128 → f j = f' j) : sm (shN f) 128 = sm (shN f') 128 := sm_eq (fun c hc => by
  show i01 (f c = -1) = i01 (f' c = -1)
  rw [h c hc])
section M87kh
variable {l : Launch} {s0 : State} {D : va_G} {tys : List (ClassId × FieldType)} {a0 : Array Value} {A : Nat → Nat} {dT : Nat → ClassId} {s : PS}
set_option maxRecDepth 4000 in
theorem c3_pieces6 (G : GX l s0 D tys a0 dT) (I : Bd s) (jPMJ : PMJ s)  : CT l s0 D A dT 31 (rmN 31) [.ref (A 25)] s (fun o t => Bd t ∧ Fm [] [] s t ∧ ∃ e, o = .inl (some (.int (Int32.ofInt e))) ∧ rng e ∧ (e = sm (pcnN (pfC s)) 8)) := by
  refine ct_ofX G (by decide) (Nat.le_of_ble_eq_true rfl) (fun k X E ET hRt hXt q => ?_)
  show WS k 0 [(0, .ref (A 25))] [] _ 0 0
  have F : Fm [] [] s s := fm_rf _ _ s
  have L4 : ∀ (n : Nat) (t : PS) (mm p : Int), Bd t → Fm [] [] s t → PMJ t → (mm = sm (pcnN (pfC s)) (p : Int).toNat) → (0 ≤ mm ∧ mm ≤ p ∧ p ≤ 8) → (8 - p : Int).toNat < n → (∀ (t' : PS) (mm' p' : Int), Bd t' → Fm [] [] s t' → PMJ t' → (mm' = sm (pcnN (pfC s)) (p' : Int).toNat) → (0 ≤ mm' ∧ mm' ≤ 8 ∧ p' = 8) → WS k 27 [(0, .ref (A 25)), (1, .int (Int32.ofInt mm')), (2, .int (Int32.ofInt p'))] [] (Wd A dT t') 0 0) → WS k 4 [(0, .ref (A 25)), (1, .int (Int32.ofInt mm)), (2, .int (Int32.ofInt p))] [] (Wd A dT t) 0 0 := by
    intro n
    induction n with
    | zero =>
      intro t mm p I F jjPMJ hq hi hm kx
      exact absurd hm (Nat.not_lt_zero _)
    | succ n ih =>
      intro t mm p I F jjPMJ hq hi hm kx
      refine z_load_n X (x := p) rfl (List.Mem.tail _ (List.Mem.tail _ (List.Mem.head _))) (z_bipush X rfl (z_icmp_ge X (t := 27) rfl rfl ⟨by first | exact oq_e001bc0d hi.2.1 hi.1 | omega, by first | exact oq_d3f5d874 hi.2.2 | omega⟩ (by decide) (fun g1001 => ?_) (fun g1001 => ?_)))
      ·
        refine WS_pq [0, 1, 2] (lv' := [(0, .ref (A 25)), (1, .int (Int32.ofInt mm)), (2, .int (Int32.ofInt p))]) rfl ?_
        exact kx _ mm p I F jjPMJ hq (by first | exact ⟨hi.1, oq_fe8b3247 hi.2.1 hi.2.2, oq_73d3719d hi.2.2 g1001⟩ | omega)
      ·
        refine z_aload_n X (x := A 25) rfl (List.Mem.head _) (z_load_n X (x := p) rfl (List.Mem.tail _ (List.Mem.tail _ (List.Mem.head _))) (z_callV X 25 (rm := rmN 30) (As := [.int (Int32.ofInt p)]) (st := []) rfl rfl (by decide) rfl (by rw [E.1, E.2.1, E.2.2.1]; exact c3_has3 G I jjPMJ (by first | exact ⟨oq_12a1f9e1 hi.2.1 hi.1, oq_78c639ed g1001⟩ | omega)) ⟨by rw [E.2.2.2]; exact (show (rmN 30).frames + 1 ≤ (rmN 31).frames by decide), by rw [E.2.2.2]; exact (show 8 + (mNL (miB 30) + 11) + (rmN 30).locals ≤ (rmN 31).locals by decide), by rw [E.2.2.2]; exact (show 0 + (rmN 30).cells ≤ (rmN 31).cells by decide), by rw [E.2.2.2]; exact (show 0 + (rmN 30).slots ≤ (rmN 31).slots by decide)⟩ (Nat.le_of_ble_eq_true rfl) (fun vv s1002 hq => ?_) (fun ee s1002 hq => ?_)))
        rotate_left
        · obtain ⟨rfl, e1003, hv, hrs1002, hps1002⟩ := hq; cases hv
        obtain ⟨rfl, e1003, hv, hrs1002, hps1002⟩ := hq
        have hps1002p := hps1002.2
        cases hv
        show WS k 15 [(0, .ref (A 25)), (1, .int (Int32.ofInt mm)), (2, .int (Int32.ofInt p))] [.int (Int32.ofInt e1003)] (Wd A dT t) 0 0
        have hP9 : pcnN (pfC s) (p : Int).toNat = e1003 := pcn_h (by have z := hps1002.2; rw [show pfC t = pfC s from funext (fun j => fm_c F List.not_mem_nil)] at z; exact z) (by first | (clear hps1002; omega) | omega)
        refine z_if_eq X (t := 21) rfl rfl hrs1002 (fun g1004 => ?_) (fun g1004 => ?_)
        ·
          refine z_inc X (x := p) (lv' := [(2, .int (Int32.ofInt (p + 1))), (0, .ref (A 25)), (1, .int (Int32.ofInt mm))]) rfl (by decide) (List.Mem.tail _ (List.Mem.tail _ (List.Mem.head _))) (fun _ h => h) (z_goto X (t := 4) rfl rfl (WS_pq [1, 2, 0] (lv' := [(0, .ref (A 25)), (1, .int (Int32.ofInt mm)), (2, .int (Int32.ofInt (p + 1)))]) rfl ?_))
          exact ih _ mm (p + 1) I F jjPMJ (smc hq (by first | (clear hps1002; omega) | omega) (by have z := hps1002.1; omega)) (by first | exact ⟨hi.1, oq_03182e9e hi.2.1, oq_0c7b19c3 g1001⟩ | omega) (by first | exact qk_me hm (by decide) (oq_9f368f35 g1001) | omega) kx
        ·
          refine z_inc X (x := mm) (lv' := [(1, .int (Int32.ofInt (mm + 1))), (0, .ref (A 25)), (2, .int (Int32.ofInt p))]) rfl (by decide) (List.Mem.tail _ (List.Mem.head _)) (fun _ h => h) (z_inc X (x := p) (lv' := [(2, .int (Int32.ofInt (p + 1))), (1, .int (Int32.ofInt (mm + 1))), (0, .ref (A 25))]) rfl (by decide) (List.Mem.tail _ (List.Mem.tail _ (List.Mem.head _))) (fun _ h => h) (z_goto X (t := 4) rfl rfl (WS_pq [2, 1, 0] (lv' := [(0, .ref (A 25)), (1, .int (Int32.ofInt (mm + 1))), (2, .int (Int32.ofInt (p + 1)))]) rfl ?_)))
          exact ih _ (mm + 1) (p + 1) I F jjPMJ (smc hq (by first | (clear g1004 hps1002; omega) | (clear hps1002; omega) | omega) (by have z := hps1002.1; omega)) (by first | exact ⟨oq_54f49eb5 hi.1, oq_8d48a029 hi.2.1, oq_0c7b19c3 g1001⟩ | omega) (by first | exact qk_me hm (by decide) (oq_9f368f35 g1001) | omega) kx
  refine z_const X rfl (z_store_n X (lv' := [(1, .int (Int32.ofInt 0)), (0, .ref (A 25))]) rfl (by decide) (fun _ h => h) (z_const X rfl (z_store_n X (lv' := [(2, .int (Int32.ofInt 0)), (1, .int (Int32.ofInt 0)), (0, .ref (A 25))]) rfl (by decide) (fun _ h => h) (WS_pq [2, 1, 0] (lv' := [(0, .ref (A 25)), (1, .int (Int32.ofInt 0)), (2, .int (Int32.ofInt 0))]) rfl (L4 ((8 - 0 : Int).toNat + 1) s 0 0 I F jPMJ rfl (by first | exact ⟨by decide, by decide, by decide⟩ | omega) (Nat.lt_succ_self _) ?_)))))
  intro s1 x2 x3 Is1 Fs1 JPMJ_s1 Qs1 hs1
  refine z_load_n X (x := x2) rfl (List.Mem.tail _ (List.Mem.head _)) ?_
  exact w_iret X.1 q hRt rfl (ax_d X (show cdA 31 28 = some (.ireturn, 1, 0, 0, 0) from rfl)) (Nat.zero_le _) (Nat.zero_le _) ⟨_, rfl, Is1, Fs1, x2, rfl, ⟨by first | exact oq_fa4e5087 hs1.1 | omega, by first | exact oq_d3f5d874 hs1.2.1 | omega⟩, (by have z := Qs1; rw [show x3 = 8 by omega] at z; exact z)⟩
set_option maxRecDepth 4000 in
theorem c3_shut6 (G : GX l s0 D tys a0 dT) (I : Bd s) (jPMJ : PMJ s)  : CT l s0 D A dT 32 (rmN 32) [.ref (A 25)] s (fun o t => Bd t ∧ Fm [] [] s t ∧ ∃ e, o = .inl (some (.int (Int32.ofInt e))) ∧ rng e ∧ (e = sm (shN (pfC s)) 128)) := by
  refine ct_ofX G (by decide) (Nat.le_of_ble_eq_true rfl) (fun k X E ET hRt hXt q => ?_)
  show WS k 0 [(0, .ref (A 25))] [] _ 0 0
  have F : Fm [] [] s s := fm_rf _ _ s
  have I0 := I
  have L6 : ∀ (n : Nat) (t : PS) (mm p : Int), Bd t → Fm [] [] s t → PMJ t → (mm = 128 - sm (lcN s) (p : Int).toNat) → ((128 - 128 * p ≤ mm ∧ mm ≤ 128) ∧ 0 ≤ p ∧ p ≤ 8) → (8 - p : Int).toNat < n → (∀ (t' : PS) (mm' p' : Int), Bd t' → Fm [] [] s t' → PMJ t' → (mm' = 128 - sm (lcN s) (p' : Int).toNat) → ((-896 ≤ mm' ∧ mm' ≤ 128) ∧ p' = 8) → WS k 40 [(0, .ref (A 25)), (1, .int (Int32.ofInt mm')), (2, .int (Int32.ofInt p'))] [] (Wd A dT t') 0 0) → WS k 6 [(0, .ref (A 25)), (1, .int (Int32.ofInt mm)), (2, .int (Int32.ofInt p))] [] (Wd A dT t) 0 0 := by
    intro n
    induction n with
    | zero =>
      intro t mm p I F jjPMJ hq hi hm kx
      exact absurd hm (Nat.not_lt_zero _)
    | succ n ih =>
      intro t mm p I F jjPMJ hq hi hm kx
      refine z_load_n X (x := p) rfl (List.Mem.tail _ (List.Mem.tail _ (List.Mem.head _))) (z_bipush X rfl (z_icmp_ge X (t := 40) rfl rfl ⟨by first | exact oq_fa4e5087 hi.2.1 | omega, by first | exact oq_d3f5d874 hi.2.2 | omega⟩ (by decide) (fun g1001 => ?_) (fun g1001 => ?_)))
      ·
        refine WS_pq [0, 1, 2] (lv' := [(0, .ref (A 25)), (1, .int (Int32.ofInt mm)), (2, .int (Int32.ofInt p))]) rfl ?_
        exact kx _ mm p I F jjPMJ hq (by first | exact ⟨And.intro (oq_91399671 hi.1.1 hi.2.2) (hi.1.2), oq_73d3719d hi.2.2 g1001⟩ | omega)
      ·
        refine z_load_n X (x := mm) rfl (List.Mem.tail _ (List.Mem.head _)) (z_aload_n X (x := A 25) rfl (List.Mem.head _) (s_getR X 25 rfl (c518_ok rfl) rfl rfl (z_load_n X (x := p) rfl (List.Mem.tail _ (List.Mem.tail _ (List.Mem.head _))) (z_lalE X 27 rfl (by decide) rfl (by first | exact hi.2.1 | omega) (show p < 8 by first | exact g1001 | omega) (by decide) (z_callS X (rm := rmN 298) (As := [.long (gD t 22 (p).toNat)]) (st := [.int (Int32.ofInt mm)]) rfl rfl (by rw [E.1, E.2.1, E.2.2.1]; exact j_bitL3 G I ) ⟨by rw [E.2.2.2]; exact (show (rmN 298).frames + 1 ≤ (rmN 32).frames by decide), by rw [E.2.2.2]; exact (show 8 + (mNL (miB 298) + 11) + (rmN 298).locals ≤ (rmN 32).locals by decide), by rw [E.2.2.2]; exact (show 0 + (rmN 298).cells ≤ (rmN 32).cells by decide), by rw [E.2.2.2]; exact (show 0 + (rmN 298).slots ≤ (rmN 32).slots by decide)⟩ (Nat.le_of_ble_eq_true rfl) (fun vv s1002 hq => ?_) (fun ee s1002 hq => ?_))))))
        rotate_left
        · obtain ⟨rfl, e1003, hv, hrs1002, hps1002⟩ := hq; cases hv
        obtain ⟨rfl, e1003, hv, hrs1002, hps1002⟩ := hq
        cases hv
        show WS k 22 [(0, .ref (A 25)), (1, .int (Int32.ofInt mm)), (2, .int (Int32.ofInt p))] [.int (Int32.ofInt e1003), .int (Int32.ofInt mm)] (Wd A dT t) 0 0
        refine z_aload_n X (x := A 25) rfl (List.Mem.head _) (s_getR X 25 rfl (c518_ok rfl) rfl rfl (z_load_n X (x := p) rfl (List.Mem.tail _ (List.Mem.tail _ (List.Mem.head _))) (z_lalE X 28 rfl (by decide) rfl (by first | exact hi.2.1 | omega) (show p < 8 by first | exact g1001 | omega) (by decide) (z_callS X (rm := rmN 298) (As := [.long (gD t 23 (p).toNat)]) (st := [.int (Int32.ofInt e1003), .int (Int32.ofInt mm)]) rfl rfl (by rw [E.1, E.2.1, E.2.2.1]; exact j_bitL3 G I ) ⟨by rw [E.2.2.2]; exact (show (rmN 298).frames + 1 ≤ (rmN 32).frames by decide), by rw [E.2.2.2]; exact (show 8 + (mNL (miB 298) + 11) + (rmN 298).locals ≤ (rmN 32).locals by decide), by rw [E.2.2.2]; exact (show 0 + (rmN 298).cells ≤ (rmN 32).cells by decide), by rw [E.2.2.2]; exact (show 0 + (rmN 298).slots ≤ (rmN 32).slots by decide)⟩ (Nat.le_of_ble_eq_true rfl) (fun vv s1004 hq => ?_) (fun ee s1004 hq => ?_)))))
        rotate_left
        · obtain ⟨rfl, e1005, hv, hrs1004, hps1004⟩ := hq; cases hv
        obtain ⟨rfl, e1005, hv, hrs1004, hps1004⟩ := hq
        cases hv
        show WS k 31 [(0, .ref (A 25)), (1, .int (Int32.ofInt mm)), (2, .int (Int32.ofInt p))] [.int (Int32.ofInt e1005), .int (Int32.ofInt e1003), .int (Int32.ofInt mm)] (Wd A dT t) 0 0
        have hL9 : lcN s (p : Int).toNat = e1003 + e1005 := by show bnN (gD s 22 (p : Int).toNat) + bnN (gD s 23 (p : Int).toNat) = _; rw [← (fm_dd F (by decide) : gD t 22 (p : Int).toNat = gD s 22 (p : Int).toNat), ← (fm_dd F (by decide) : gD t 23 (p : Int).toNat = gD s 23 (p : Int).toNat), ← hps1002.1, ← hps1004.1]
        refine z_add X rfl (z_sub X rfl (z_store_n X (lv' := [(1, .int (Int32.ofInt (mm - (e1003 + e1005)))), (0, .ref (A 25)), (2, .int (Int32.ofInt p))]) rfl (by decide) (fun _ h => h) (z_inc X (x := p) (lv' := [(2, .int (Int32.ofInt (p + 1))), (1, .int (Int32.ofInt (mm - (e1003 + e1005)))), (0, .ref (A 25))]) rfl (by decide) (List.Mem.tail _ (List.Mem.tail _ (List.Mem.head _))) (fun _ h => h) (z_goto X (t := 6) rfl rfl (WS_pq [2, 1, 0] (lv' := [(0, .ref (A 25)), (1, .int (Int32.ofInt (mm - (e1003 + e1005)))), (2, .int (Int32.ofInt (p + 1)))]) rfl ?_)))))
        exact ih _ (mm - (e1003 + e1005)) (p + 1) I F jjPMJ (by have z := smc (g := lcN s) (m := sm (lcN s) (p : Int).toNat) (m' := sm (lcN s) (p : Int).toNat + (e1003 + e1005)) (c := p) rfl (by omega) (by rw [hL9]); rw [← z]; omega) (by first | exact ⟨And.intro (oq_320c8f58 hi.1.1 hps1002.2.2 hps1004.2.2) (oq_14560260 hi.1.2 hps1002.2.1 hps1004.2.1), oq_54f49eb5 hi.2.1, oq_0c7b19c3 g1001⟩ | omega) (by first | exact qk_me hm (by decide) (oq_9f368f35 g1001) | omega) kx
  refine z_sipush X rfl (z_store_n X (lv' := [(1, .int (Int32.ofInt 128)), (0, .ref (A 25))]) rfl (by decide) (fun _ h => h) (z_const X rfl (z_store_n X (lv' := [(2, .int (Int32.ofInt 0)), (1, .int (Int32.ofInt 128)), (0, .ref (A 25))]) rfl (by decide) (fun _ h => h) (WS_pq [2, 1, 0] (lv' := [(0, .ref (A 25)), (1, .int (Int32.ofInt 128)), (2, .int (Int32.ofInt 0))]) rfl (L6 ((8 - 0 : Int).toNat + 1) s 128 0 I F jPMJ rfl (by first | exact ⟨And.intro (by decide) (by decide), by decide, by decide⟩ | omega) (Nat.lt_succ_self _) ?_)))))
  intro s1 x2 x3 Is1 Fs1 JPMJ_s1 Qs1 hs1
  refine z_load_n X (x := x2) rfl (List.Mem.tail _ (List.Mem.head _)) ?_
  exact w_iret X.1 q hRt rfl (ax_d X (show cdA 32 41 = some (.ireturn, 1, 0, 0, 0) from rfl)) (Nat.zero_le _) (Nat.zero_le _) ⟨_, rfl, Is1, Fs1, x2, rfl, ⟨by first | exact oq_24c08963 hs1.1.1 | omega, by first | exact oq_4ee82282 hs1.1.2 | omega⟩, (by have z := Qs1; rw [show x3 = 8 by omega] at z; rw [← sh_cnt jPMJ (fun c hc => I0.2 21 c hc)]; exact z)⟩
set_option maxRecDepth 4000 in
theorem cs_count6 (G : GX l s0 D tys a0 dT) (I : Bd s) (jPMJ : PMJ s) {u : Int} (p0 : rng u) : CT l s0 D A dT 178 (rmN 178) [.ref (A 0), .int (Int32.ofInt u)] s (fun o t => Bd t ∧ Fm [] [] s t ∧ ∃ e, o = .inl (some (.int (Int32.ofInt e))) ∧ rng e ∧ (CNQ u (iI s 9) (iI s 12) (sm (pcnN (pfC s)) 8) (sm (shN (pfC s)) 128) (iI s 28) (iI s 32) (iI s 70) (bnN (gJ s 0) + bnN (gJ s 1)) (iI s 20) (iI s 0) e)) := by
  refine ct_ofX G (by decide) (Nat.le_of_ble_eq_true rfl) (fun k X E ET hRt hXt q => ?_)
  show WS k 0 [(0, .ref (A 0)), (1, .int (Int32.ofInt u))] [] _ 0 0
  have F : Fm [] [] s s := fm_rf _ _ s
  refine z_load_n X (x := u) rfl (List.Mem.tail _ (List.Mem.head _)) ?_
  rcases (show u = 0 ∨ u = 1 ∨ u = 2 ∨ u = 3 ∨ u = 4 ∨ u = 5 ∨ u = 6 ∨ u = 7 ∨ u = 8 ∨ u = 9 ∨ (u < 0 ∨ 9 < u) by omega) with gs | gs | gs | gs | gs | gs | gs | gs | gs | gs | gs
  ·
    rw [gs]
    refine w_tabIn X.1 (dflt := 149) (lo := 0) (hi := 9) (offs := #[55, 63, 71, 79, 87, 95, 103, 111, 133, 141]) (len := 55) (off := 55) (t := 56) (ax_d X (show cdA 178 1 = some (.tableswitch 149 0 9 #[55, 63, 71, 79, 87, 95, 103, 111, 133, 141], 55, 0, 0, 0) from rfl)) (by decide) (by decide) (by decide) (by decide) (z_aload_n X (x := A 0) rfl (List.Mem.head _) (s_getR X 0 rfl (c518_ok rfl) rfl rfl (z_getI X 3 rfl (c518_ok rfl) rfl rfl ?_)))
    have b1 := bi_9 I
    exact w_iret X.1 q hRt rfl (ax_d X (show cdA 178 63 = some (.ireturn, 1, 0, 0, 0) from rfl)) (Nat.zero_le _) (Nat.zero_le _) ⟨_, rfl, I, F, (iI s 9), rfl, (rng_to _), Or.inl ⟨gs, rfl⟩⟩
  ·
    rw [gs]
    refine w_tabIn X.1 (dflt := 149) (lo := 0) (hi := 9) (offs := #[55, 63, 71, 79, 87, 95, 103, 111, 133, 141]) (len := 55) (off := 63) (t := 64) (ax_d X (show cdA 178 1 = some (.tableswitch 149 0 9 #[55, 63, 71, 79, 87, 95, 103, 111, 133, 141], 55, 0, 0, 0) from rfl)) (by decide) (by decide) (by decide) (by decide) (z_aload_n X (x := A 0) rfl (List.Mem.head _) (s_getR X 0 rfl (c518_ok rfl) rfl rfl (z_getI X 19 rfl (c518_ok rfl) rfl rfl ?_)))
    have b2 := bi_12 I
    exact w_iret X.1 q hRt rfl (ax_d X (show cdA 178 71 = some (.ireturn, 1, 0, 0, 0) from rfl)) (Nat.zero_le _) (Nat.zero_le _) ⟨_, rfl, I, F, (iI s 12), rfl, (rng_to _), Or.inr (Or.inl ⟨gs, rfl⟩)⟩
  ·
    rw [gs]
    refine w_tabIn X.1 (dflt := 149) (lo := 0) (hi := 9) (offs := #[55, 63, 71, 79, 87, 95, 103, 111, 133, 141]) (len := 55) (off := 71) (t := 72) (ax_d X (show cdA 178 1 = some (.tableswitch 149 0 9 #[55, 63, 71, 79, 87, 95, 103, 111, 133, 141], 55, 0, 0, 0) from rfl)) (by decide) (by decide) (by decide) (by decide) (z_aload_n X (x := A 0) rfl (List.Mem.head _) (s_getR X 0 rfl (c518_ok rfl) rfl rfl (zcV_i0 X E 25 (As := []) (st := []) rfl rfl rfl rfl (c3_pieces6 G I jPMJ ) rfl (Nat.le_of_ble_eq_true rfl) (fun s3 e4 Is3 Fs3 hrs3 hps3 => ?_))))
    have Gs3 := fm_tq F Fs3 rfl rfl
    exact w_iret X.1 q hRt rfl (ax_d X (show cdA 178 79 = some (.ireturn, 1, 0, 0, 0) from rfl)) (Nat.zero_le _) (Nat.zero_le _) ⟨_, rfl, Is3, Gs3, e4, rfl, hrs3, Or.inr (Or.inr (Or.inl ⟨gs, hps3⟩))⟩
  ·
    rw [gs]
    refine w_tabIn X.1 (dflt := 149) (lo := 0) (hi := 9) (offs := #[55, 63, 71, 79, 87, 95, 103, 111, 133, 141]) (len := 55) (off := 79) (t := 80) (ax_d X (show cdA 178 1 = some (.tableswitch 149 0 9 #[55, 63, 71, 79, 87, 95, 103, 111, 133, 141], 55, 0, 0, 0) from rfl)) (by decide) (by decide) (by decide) (by decide) (z_aload_n X (x := A 0) rfl (List.Mem.head _) (s_getR X 0 rfl (c518_ok rfl) rfl rfl (zcV_i0 X E 25 (As := []) (st := []) rfl rfl rfl rfl (c3_shut6 G I jPMJ ) rfl (Nat.le_of_ble_eq_true rfl) (fun s5 e6 Is5 Fs5 hrs5 hps5 => ?_))))
    have Gs5 := fm_tq F Fs5 rfl rfl
    exact w_iret X.1 q hRt rfl (ax_d X (show cdA 178 87 = some (.ireturn, 1, 0, 0, 0) from rfl)) (Nat.zero_le _) (Nat.zero_le _) ⟨_, rfl, Is5, Gs5, e6, rfl, hrs5, Or.inr (Or.inr (Or.inr (Or.inl ⟨gs, hps5⟩)))⟩
  ·
    rw [gs]
    refine w_tabIn X.1 (dflt := 149) (lo := 0) (hi := 9) (offs := #[55, 63, 71, 79, 87, 95, 103, 111, 133, 141]) (len := 55) (off := 87) (t := 88) (ax_d X (show cdA 178 1 = some (.tableswitch 149 0 9 #[55, 63, 71, 79, 87, 95, 103, 111, 133, 141], 55, 0, 0, 0) from rfl)) (by decide) (by decide) (by decide) (by decide) (z_aload_n X (x := A 0) rfl (List.Mem.head _) (s_getR X 0 rfl (c518_ok rfl) rfl rfl (z_getI X 46 rfl (c518_ok rfl) rfl rfl ?_)))
    have b7 := bi_28 I
    exact w_iret X.1 q hRt rfl (ax_d X (show cdA 178 95 = some (.ireturn, 1, 0, 0, 0) from rfl)) (Nat.zero_le _) (Nat.zero_le _) ⟨_, rfl, I, F, (iI s 28), rfl, (rng_to _), Or.inr (Or.inr (Or.inr (Or.inr (Or.inl ⟨gs, rfl⟩))))⟩
  ·
    rw [gs]
    refine w_tabIn X.1 (dflt := 149) (lo := 0) (hi := 9) (offs := #[55, 63, 71, 79, 87, 95, 103, 111, 133, 141]) (len := 55) (off := 95) (t := 96) (ax_d X (show cdA 178 1 = some (.tableswitch 149 0 9 #[55, 63, 71, 79, 87, 95, 103, 111, 133, 141], 55, 0, 0, 0) from rfl)) (by decide) (by decide) (by decide) (by decide) (z_aload_n X (x := A 0) rfl (List.Mem.head _) (s_getR X 0 rfl (c518_ok rfl) rfl rfl (z_getI X 54 rfl (c518_ok rfl) rfl rfl ?_)))
    have b8 := bi_32 I
    exact w_iret X.1 q hRt rfl (ax_d X (show cdA 178 103 = some (.ireturn, 1, 0, 0, 0) from rfl)) (Nat.zero_le _) (Nat.zero_le _) ⟨_, rfl, I, F, (iI s 32), rfl, (rng_to _), Or.inr (Or.inr (Or.inr (Or.inr (Or.inr (Or.inl ⟨gs, rfl⟩)))))⟩
  ·
    rw [gs]
    refine w_tabIn X.1 (dflt := 149) (lo := 0) (hi := 9) (offs := #[55, 63, 71, 79, 87, 95, 103, 111, 133, 141]) (len := 55) (off := 103) (t := 104) (ax_d X (show cdA 178 1 = some (.tableswitch 149 0 9 #[55, 63, 71, 79, 87, 95, 103, 111, 133, 141], 55, 0, 0, 0) from rfl)) (by decide) (by decide) (by decide) (by decide) (z_aload_n X (x := A 0) rfl (List.Mem.head _) (s_getR X 0 rfl (c518_ok rfl) rfl rfl (z_getI X 173 rfl (c518_ok rfl) rfl rfl ?_)))
    have b9 := bi_70 I
    exact w_iret X.1 q hRt rfl (ax_d X (show cdA 178 111 = some (.ireturn, 1, 0, 0, 0) from rfl)) (Nat.zero_le _) (Nat.zero_le _) ⟨_, rfl, I, F, (iI s 70), rfl, (rng_to _), Or.inr (Or.inr (Or.inr (Or.inr (Or.inr (Or.inr (Or.inl ⟨gs, rfl⟩))))))⟩
  ·
    rw [gs]
    refine w_tabIn X.1 (dflt := 149) (lo := 0) (hi := 9) (offs := #[55, 63, 71, 79, 87, 95, 103, 111, 133, 141]) (len := 55) (off := 111) (t := 112) (ax_d X (show cdA 178 1 = some (.tableswitch 149 0 9 #[55, 63, 71, 79, 87, 95, 103, 111, 133, 141], 55, 0, 0, 0) from rfl)) (by decide) (by decide) (by decide) (by decide) (z_aload_n X (x := A 0) rfl (List.Mem.head _) (s_getR X 0 rfl (c518_ok rfl) rfl rfl (s_getJ X 67 rfl (c518_ok rfl) rfl rfl (z_callS X (rm := rmN 298) (As := [.long (gJ s 0)]) (st := []) rfl rfl (by rw [E.1, E.2.1, E.2.2.1]; exact j_bitL3 G I ) ⟨by rw [E.2.2.2]; exact (show (rmN 298).frames + 1 ≤ (rmN 178).frames by decide), by rw [E.2.2.2]; exact (show 8 + (mNL (miB 298) + 11) + (rmN 298).locals ≤ (rmN 178).locals by decide), by rw [E.2.2.2]; exact (show 0 + (rmN 298).cells ≤ (rmN 178).cells by decide), by rw [E.2.2.2]; exact (show 0 + (rmN 298).slots ≤ (rmN 178).slots by decide)⟩ (Nat.le_of_ble_eq_true rfl) (fun vv s10 hq => ?_) (fun ee s10 hq => ?_)))))
    rotate_left
    · obtain ⟨rfl, e11, hv, hrs10, hps10⟩ := hq; cases hv
    obtain ⟨rfl, e11, hv, hrs10, hps10⟩ := hq
    cases hv
    show WS k 122 [(0, .ref (A 0)), (1, .int (Int32.ofInt 7))] [.int (Int32.ofInt e11)] (Wd A dT s) 0 0
    have hB0 : e11 = bnN (gJ s 0) := hps10.1
    refine z_aload_n X (x := A 0) rfl (List.Mem.head _) (s_getR X 0 rfl (c518_ok rfl) rfl rfl (s_getJ X 67 rfl (c518_ok rfl) rfl rfl (z_callS X (rm := rmN 298) (As := [.long (gJ s 1)]) (st := [.int (Int32.ofInt e11)]) rfl rfl (by rw [E.1, E.2.1, E.2.2.1]; exact j_bitL3 G I ) ⟨by rw [E.2.2.2]; exact (show (rmN 298).frames + 1 ≤ (rmN 178).frames by decide), by rw [E.2.2.2]; exact (show 8 + (mNL (miB 298) + 11) + (rmN 298).locals ≤ (rmN 178).locals by decide), by rw [E.2.2.2]; exact (show 0 + (rmN 298).cells ≤ (rmN 178).cells by decide), by rw [E.2.2.2]; exact (show 0 + (rmN 298).slots ≤ (rmN 178).slots by decide)⟩ (Nat.le_of_ble_eq_true rfl) (fun vv s12 hq => ?_) (fun ee s12 hq => ?_))))
    rotate_left
    · obtain ⟨rfl, e13, hv, hrs12, hps12⟩ := hq; cases hv
    obtain ⟨rfl, e13, hv, hrs12, hps12⟩ := hq
    cases hv
    show WS k 132 [(0, .ref (A 0)), (1, .int (Int32.ofInt 7))] [.int (Int32.ofInt e13), .int (Int32.ofInt e11)] (Wd A dT s) 0 0
    have hB1 : e13 = bnN (gJ s 1) := hps12.1
    refine z_add X rfl ?_
    exact w_iret X.1 q hRt rfl (ax_d X (show cdA 178 133 = some (.ireturn, 1, 0, 0, 0) from rfl)) (Nat.zero_le _) (Nat.zero_le _) ⟨_, rfl, I, F, (e11 + e13), rfl, ⟨by first | exact oq_34aac425 hps10.2.1 hps12.2.1 | omega, by first | exact oq_67767ef8 hps10.2.2 hps12.2.2 | omega⟩, Or.inr (Or.inr (Or.inr (Or.inr (Or.inr (Or.inr (Or.inr (Or.inl ⟨gs, by rw [hB0, hB1]⟩)))))))⟩
  ·
    rw [gs]
    refine w_tabIn X.1 (dflt := 149) (lo := 0) (hi := 9) (offs := #[55, 63, 71, 79, 87, 95, 103, 111, 133, 141]) (len := 55) (off := 133) (t := 134) (ax_d X (show cdA 178 1 = some (.tableswitch 149 0 9 #[55, 63, 71, 79, 87, 95, 103, 111, 133, 141], 55, 0, 0, 0) from rfl)) (by decide) (by decide) (by decide) (by decide) (z_aload_n X (x := A 0) rfl (List.Mem.head _) (s_getR X 0 rfl (c518_ok rfl) rfl rfl (z_getI X 25 rfl (c518_ok rfl) rfl rfl ?_)))
    have b14 := bi_20 I
    exact w_iret X.1 q hRt rfl (ax_d X (show cdA 178 141 = some (.ireturn, 1, 0, 0, 0) from rfl)) (Nat.zero_le _) (Nat.zero_le _) ⟨_, rfl, I, F, (iI s 20), rfl, (rng_to _), Or.inr (Or.inr (Or.inr (Or.inr (Or.inr (Or.inr (Or.inr (Or.inr (Or.inl ⟨gs, rfl⟩))))))))⟩
  ·
    rw [gs]
    refine w_tabIn X.1 (dflt := 149) (lo := 0) (hi := 9) (offs := #[55, 63, 71, 79, 87, 95, 103, 111, 133, 141]) (len := 55) (off := 141) (t := 142) (ax_d X (show cdA 178 1 = some (.tableswitch 149 0 9 #[55, 63, 71, 79, 87, 95, 103, 111, 133, 141], 55, 0, 0, 0) from rfl)) (by decide) (by decide) (by decide) (by decide) (z_aload_n X (x := A 0) rfl (List.Mem.head _) (s_getR X 0 rfl (c518_ok rfl) rfl rfl (z_getI X 1 rfl (c518_ok rfl) rfl rfl ?_)))
    have b15 := bi_0 I
    exact w_iret X.1 q hRt rfl (ax_d X (show cdA 178 149 = some (.ireturn, 1, 0, 0, 0) from rfl)) (Nat.zero_le _) (Nat.zero_le _) ⟨_, rfl, I, F, (iI s 0), rfl, (rng_to _), Or.inr (Or.inr (Or.inr (Or.inr (Or.inr (Or.inr (Or.inr (Or.inr (Or.inr (Or.inl ⟨gs, rfl⟩)))))))))⟩
  ·
    refine w_tabOut X.1 (dflt := 149) (lo := 0) (hi := 9) (offs := #[55, 63, 71, 79, 87, 95, 103, 111, 133, 141]) (len := 55) (t := 150) (ax_d X (show cdA 178 1 = some (.tableswitch 149 0 9 #[55, 63, 71, 79, 87, 95, 103, 111, 133, 141], 55, 0, 0, 0) from rfl)) (by rw [zi ⟨by omega, by omega⟩]; omega) (by decide) (z_const X rfl ?_)
    exact w_iret X.1 q hRt rfl (ax_d X (show cdA 178 151 = some (.ireturn, 1, 0, 0, 0) from rfl)) (Nat.zero_le _) (Nat.zero_le _) ⟨_, rfl, I, F, (-1), rfl, (by decide), Or.inr (Or.inr (Or.inr (Or.inr (Or.inr (Or.inr (Or.inr (Or.inr (Or.inr (Or.inr (⟨gs, rfl⟩))))))))))⟩
set_option maxRecDepth 4000 in
theorem k_count6 (G : GX l s0 D tys a0 dT) (I : Bd s) {u : Int} (p0 : rng u) : CT l s0 D A dT 295 (rmN 295) [.ref (A 179), .int (Int32.ofInt u)] s (fun o t => Bd t ∧ Fm [73] [] s t ∧ ∃ e, o = .inl (some (.int (Int32.ofInt e))) ∧ rng e ∧ ((CNQ u (iI s 90) (iI s 83) (sm (pcnN (pfM s)) 8) (sm (shN (pfM s)) 128) (iI s 97) (iI s 99) (iI s 107) (sm (fun c => iC s 399 c) 128) (iI s 98) (iI s 74) e) ∧ iI t 73 = 0)) := by
  refine ct_of G (by decide) (Nat.le_of_ble_eq_true rfl) (fun k X E hRt hXt q => ?_)
  show WS k 0 [(0, .ref (A 179)), (1, .int (Int32.ofInt u))] [] _ 0 0
  have F : Fm [73] [] s s := fm_rf _ _ s
  have b1 := bi_73 I
  have b2 := bi_90 I
  have b3 := bi_83 I
  have b4 := bi_97 I
  have b5 := bi_99 I
  have b6 := bi_107 I
  have b7 := bi_98 I
  have b8 := bi_74 I
  have L15 : ∀ (n : Nat) (t : PS) (xv pv hv rv c : Int), Bd t → Fm [73] [] s t → (pv = sm (pcnN (pfM s)) (c : Int).toNat) → ((xv = u) ∧ (0 ≤ pv ∧ pv ≤ c ∧ c ≤ 8) ∧ (hv = 0 ∧ rv = 0) ∧ iI t 73 = 0) → (8 - c : Int).toNat < n → (∀ (t' : PS) (pv' c' : Int), Bd t' → Fm [73] [] s t' → (pv' = sm (pcnN (pfM s)) (c' : Int).toNat) → ((xv = u) ∧ (0 ≤ pv' ∧ pv' ≤ 8 ∧ c' = 8) ∧ (hv = 0 ∧ rv = 0) ∧ iI t' 73 = 0) → WS k 45 [(0, .ref (A 179)), (1, .int (Int32.ofInt xv)), (2, .int (Int32.ofInt pv')), (3, .int (Int32.ofInt hv)), (4, .int (Int32.ofInt rv)), (5, .int (Int32.ofInt c'))] [] (Wd A dT t') 0 0) → WS k 15 [(0, .ref (A 179)), (1, .int (Int32.ofInt xv)), (2, .int (Int32.ofInt pv)), (3, .int (Int32.ofInt hv)), (4, .int (Int32.ofInt rv)), (5, .int (Int32.ofInt c))] [] (Wd A dT t) 0 0 := by
    intro n
    induction n with
    | zero =>
      intro t xv pv hv rv c I F hq hi hm kx
      exact absurd hm (Nat.not_lt_zero _)
    | succ n ih =>
      intro t xv pv hv rv c I F hq hi hm kx
      have b1001 := bi_73 I
      have b1002 := bi_90 I
      have b1003 := bi_83 I
      have b1004 := bi_97 I
      have b1005 := bi_99 I
      have b1006 := bi_107 I
      have b1007 := bi_98 I
      have b1008 := bi_74 I
      refine z_load X (x := c) rfl (List.Mem.tail _ (List.Mem.tail _ (List.Mem.tail _ (List.Mem.tail _ (List.Mem.tail _ (List.Mem.head _)))))) (z_bipush X rfl (z_icmp_ge X (t := 45) rfl rfl ⟨by first | exact oq_e001bc0d hi.2.1.2.1 hi.2.1.1 | omega, by first | exact oq_d3f5d874 hi.2.1.2.2 | omega⟩ (by decide) (fun g1009 => ?_) (fun g1009 => ?_)))
      ·
        refine WS_pq [0, 1, 2, 3, 4, 5] (lv' := [(0, .ref (A 179)), (1, .int (Int32.ofInt xv)), (2, .int (Int32.ofInt pv)), (3, .int (Int32.ofInt hv)), (4, .int (Int32.ofInt rv)), (5, .int (Int32.ofInt c))]) rfl ?_
        exact kx _ pv c I F hq (by first | exact ⟨hi.1, And.intro (hi.2.1.1) (And.intro (oq_fe8b3247 hi.2.1.2.1 hi.2.1.2.2) (oq_73d3719d hi.2.1.2.2 g1009)), And.intro (hi.2.2.1.1) (hi.2.2.1.2), hi.2.2.2⟩ | omega)
      ·
        refine z_load_n X (x := pv) rfl (List.Mem.tail _ (List.Mem.tail _ (List.Mem.head _))) (z_aload_n X (x := A 179) rfl (List.Mem.head _) (z_load X (x := c) rfl (List.Mem.tail _ (List.Mem.tail _ (List.Mem.tail _ (List.Mem.tail _ (List.Mem.tail _ (List.Mem.head _)))))) (zcV_i0 X E 179 (As := [.int (Int32.ofInt c)]) (st := [.int (Int32.ofInt pv)]) rfl rfl rfl rfl (k_has3 G I (by first | exact ⟨oq_e001bc0d hi.2.1.2.1 hi.2.1.1, oq_7bea7075 g1009⟩ | omega)) rfl (Nat.le_of_ble_eq_true rfl) (fun s1010 e1011 Is1010 Fs1010 hrs1010 hps1010 => ?_))))
        have hps1010p := hps1010.2
        have Gs1010 := fm_tq F Fs1010 rfl rfl
        have ws1010_73 : iI s1010 73 = iI t 73 := fm_iq Fs1010 rfl
        have ws1010_90 : iI s1010 90 = iI t 90 := fm_iq Fs1010 rfl
        have ws1010_83 : iI s1010 83 = iI t 83 := fm_iq Fs1010 rfl
        have ws1010_97 : iI s1010 97 = iI t 97 := fm_iq Fs1010 rfl
        have ws1010_99 : iI s1010 99 = iI t 99 := fm_iq Fs1010 rfl
        have ws1010_107 : iI s1010 107 = iI t 107 := fm_iq Fs1010 rfl
        have ws1010_98 : iI s1010 98 = iI t 98 := fm_iq Fs1010 rfl
        have ws1010_74 : iI s1010 74 = iI t 74 := fm_iq Fs1010 rfl
        have hP9 : pcnN (pfM s) (c : Int).toNat = e1011 := pcn_h (by have z := hps1010.2; rw [show pfM t = pfM s from funext (fun j => fm_c F (by decide))] at z; exact z) (by first | (clear hps1010; omega) | omega)
        refine z_if_eq X (t := 36) rfl rfl hrs1010 (fun g1012 => ?_) (fun g1012 => ?_)
        ·
          refine z_const X rfl (z_add X rfl (z_store_n X (lv' := [(2, .int (Int32.ofInt (pv + 0))), (0, .ref (A 179)), (1, .int (Int32.ofInt xv)), (3, .int (Int32.ofInt hv)), (4, .int (Int32.ofInt rv)), (5, .int (Int32.ofInt c))]) rfl (by decide) (fun _ h => h) (z_inc X (x := c) (lv' := [(5, .int (Int32.ofInt (c + 1))), (2, .int (Int32.ofInt (pv + 0))), (0, .ref (A 179)), (1, .int (Int32.ofInt xv)), (3, .int (Int32.ofInt hv)), (4, .int (Int32.ofInt rv))]) rfl (by decide) (List.Mem.tail _ (List.Mem.tail _ (List.Mem.tail _ (List.Mem.tail _ (List.Mem.tail _ (List.Mem.head _)))))) (fun _ h => h) (z_goto X (t := 15) rfl rfl (WS_pq [2, 3, 1, 4, 5, 0] (lv' := [(0, .ref (A 179)), (1, .int (Int32.ofInt xv)), (2, .int (Int32.ofInt (pv + 0))), (3, .int (Int32.ofInt hv)), (4, .int (Int32.ofInt rv)), (5, .int (Int32.ofInt (c + 1)))]) rfl ?_)))))
          exact ih _ xv (pv + 0) hv rv (c + 1) Is1010 Gs1010 (smc hq (by first | (clear hps1010; omega) | omega) (by have z := hps1010.1; omega)) (by first | exact ⟨hi.1, And.intro (oq_590e7a3f hi.2.1.1) (And.intro (oq_2d160f3c hi.2.1.2.1) (oq_0c7b19c3 g1009)), And.intro (hi.2.2.1.1) (hi.2.2.1.2), oq_333640b7 ws1010_73 hi.2.2.2 b1001.1⟩ | omega) (by first | exact qk_me hm (by decide) (oq_9f368f35 g1009) | omega) kx
        ·
          refine z_const X rfl (z_goto X (t := 37) rfl rfl (z_add X rfl (z_store_n X (lv' := [(2, .int (Int32.ofInt (pv + 1))), (0, .ref (A 179)), (1, .int (Int32.ofInt xv)), (3, .int (Int32.ofInt hv)), (4, .int (Int32.ofInt rv)), (5, .int (Int32.ofInt c))]) rfl (by decide) (fun _ h => h) (z_inc X (x := c) (lv' := [(5, .int (Int32.ofInt (c + 1))), (2, .int (Int32.ofInt (pv + 1))), (0, .ref (A 179)), (1, .int (Int32.ofInt xv)), (3, .int (Int32.ofInt hv)), (4, .int (Int32.ofInt rv))]) rfl (by decide) (List.Mem.tail _ (List.Mem.tail _ (List.Mem.tail _ (List.Mem.tail _ (List.Mem.tail _ (List.Mem.head _)))))) (fun _ h => h) (z_goto X (t := 15) rfl rfl (WS_pq [2, 3, 1, 4, 5, 0] (lv' := [(0, .ref (A 179)), (1, .int (Int32.ofInt xv)), (2, .int (Int32.ofInt (pv + 1))), (3, .int (Int32.ofInt hv)), (4, .int (Int32.ofInt rv)), (5, .int (Int32.ofInt (c + 1)))]) rfl ?_))))))
          exact ih _ xv (pv + 1) hv rv (c + 1) Is1010 Gs1010 (smc hq (by first | (clear g1012 hps1010; omega) | (clear hps1010; omega) | omega) (by have z := hps1010.1; omega)) (by first | exact ⟨hi.1, And.intro (oq_54f49eb5 hi.2.1.1) (And.intro (oq_8d48a029 hi.2.1.2.1) (oq_0c7b19c3 g1009)), And.intro (hi.2.2.1.1) (hi.2.2.1.2), oq_333640b7 ws1010_73 hi.2.2.2 b1001.1⟩ | omega) (by first | exact qk_me hm (by decide) (oq_9f368f35 g1009) | omega) kx
  have L48 : ∀ (n : Nat) (t : PS) (xv pv hv rv c : Int), Bd t → Fm [73] [] s t → (pv = sm (pcnN (pfM s)) 8 ∧ hv = sm (shN (pfM s)) (c : Int).toNat ∧ rv = sm (fun c => iC s 399 c) (c : Int).toNat) → ((xv = u) ∧ (0 ≤ pv ∧ pv ≤ 8) ∧ (0 ≤ hv ∧ hv ≤ c) ∧ (0 ≤ rv ∧ rv ≤ c) ∧ c ≤ 128 ∧ iI t 73 = 0) → (128 - c : Int).toNat < n → (∀ (t' : PS) (hv' rv' c' : Int), Bd t' → Fm [73] [] s t' → (pv = sm (pcnN (pfM s)) 8 ∧ hv' = sm (shN (pfM s)) (c' : Int).toNat ∧ rv' = sm (fun c => iC s 399 c) (c' : Int).toNat) → ((xv = u) ∧ (0 ≤ pv ∧ pv ≤ 8) ∧ (0 ≤ hv' ∧ hv' ≤ 128) ∧ (0 ≤ rv' ∧ rv' ≤ 128) ∧ c' = 128 ∧ iI t' 73 = 0) → WS k 101 [(0, .ref (A 179)), (1, .int (Int32.ofInt xv)), (2, .int (Int32.ofInt pv)), (3, .int (Int32.ofInt hv')), (4, .int (Int32.ofInt rv')), (5, .int (Int32.ofInt c'))] [] (Wd A dT t') 0 0) → WS k 48 [(0, .ref (A 179)), (1, .int (Int32.ofInt xv)), (2, .int (Int32.ofInt pv)), (3, .int (Int32.ofInt hv)), (4, .int (Int32.ofInt rv)), (5, .int (Int32.ofInt c))] [] (Wd A dT t) 0 0 := by
    intro n
    induction n with
    | zero =>
      intro t xv pv hv rv c I F hq hi hm kx
      exact absurd hm (Nat.not_lt_zero _)
    | succ n ih =>
      intro t xv pv hv rv c I F hq hi hm kx
      have b2001 := bi_73 I
      have b2002 := bi_90 I
      have b2003 := bi_83 I
      have b2004 := bi_97 I
      have b2005 := bi_99 I
      have b2006 := bi_107 I
      have b2007 := bi_98 I
      have b2008 := bi_74 I
      refine z_load X (x := c) rfl (List.Mem.tail _ (List.Mem.tail _ (List.Mem.tail _ (List.Mem.tail _ (List.Mem.tail _ (List.Mem.head _)))))) (z_sipush X rfl (z_icmp_ge X (t := 101) rfl rfl ⟨by first | exact oq_e001bc0d hi.2.2.2.1.2 hi.2.2.2.1.1 | omega, by first | exact oq_4ee82282 hi.2.2.2.2.1 | omega⟩ (by decide) (fun g2009 => ?_) (fun g2009 => ?_)))
      ·
        refine WS_pq [0, 1, 2, 3, 4, 5] (lv' := [(0, .ref (A 179)), (1, .int (Int32.ofInt xv)), (2, .int (Int32.ofInt pv)), (3, .int (Int32.ofInt hv)), (4, .int (Int32.ofInt rv)), (5, .int (Int32.ofInt c))]) rfl ?_
        exact kx _ hv rv c I F hq (by first | exact ⟨hi.1, And.intro (hi.2.1.1) (hi.2.1.2), And.intro (hi.2.2.1.1) (oq_c8a5794d hi.2.2.1.2 hi.2.2.2.2.1), And.intro (hi.2.2.2.1.1) (oq_c8a5794d hi.2.2.2.1.2 hi.2.2.2.2.1), oq_42fe298a hi.2.2.2.2.1 g2009, hi.2.2.2.2.2⟩ | omega)
      ·
        refine z_load_n X (x := hv) rfl (List.Mem.tail _ (List.Mem.tail _ (List.Mem.tail _ (List.Mem.head _)))) (z_aload_n X (x := A 179) rfl (List.Mem.head _) (s_getR X 179 rfl (c518_ok rfl) rfl rfl (z_load X (x := c) rfl (List.Mem.tail _ (List.Mem.tail _ (List.Mem.tail _ (List.Mem.tail _ (List.Mem.tail _ (List.Mem.head _)))))) (z_ald X 256 rfl (c518_ok rfl) rfl (by first | exact oq_12a1f9e1 hi.2.2.2.1.2 hi.2.2.2.1.1 | omega) (show c < 128 by first | exact g2009 | omega) (cbig_ok rfl) ?_))))
        have b2010 := bc_228 I (show (c).toNat < 128 by first | exact oq_afb89947 g2009 | omega)
        have hS9 : (iC t 228 (c).toNat) = pfM s (c : Int).toNat := fm_c F (by decide)
        refine z_const X rfl (z_icmp_ne X (t := 72) rfl rfl (rng_to _) (by decide) (fun g2011 => ?_) (fun g2011 => ?_))
        ·
          have hS8 : shN (pfM s) (c : Int).toNat = 0 := shn_n (by rw [← hS9]; omega)
          refine z_const X rfl (z_add X rfl (z_store_n X (lv' := [(3, .int (Int32.ofInt (hv + 0))), (0, .ref (A 179)), (1, .int (Int32.ofInt xv)), (2, .int (Int32.ofInt pv)), (4, .int (Int32.ofInt rv)), (5, .int (Int32.ofInt c))]) rfl (by decide) (fun _ h => h) (z_load X (x := rv) rfl (List.Mem.tail _ (List.Mem.tail _ (List.Mem.tail _ (List.Mem.tail _ (List.Mem.head _))))) (z_aload_n X (x := A 179) rfl (List.Mem.tail _ (List.Mem.head _)) (s_getR X 179 rfl (c518_ok rfl) rfl rfl (z_load X (x := c) rfl (List.Mem.tail _ (List.Mem.tail _ (List.Mem.tail _ (List.Mem.tail _ (List.Mem.tail _ (List.Mem.head _)))))) (z_zald X 454 rfl (c518_ok rfl) rfl (by first | exact oq_12a1f9e1 hi.2.2.2.1.2 hi.2.2.2.1.1 | omega) (show c < 128 by first | exact g2009 | omega) (cbig_ok rfl) ?_)))))))
          have b2012 := bc_399 I (show (c).toNat < 128 by first | exact oq_afb89947 g2009 | omega)
          have hT9 : (iC t 399 (c).toNat) = iC s 399 (c : Int).toNat := fm_c F (by decide)
          refine z_if_eq X (t := 91) rfl rfl (rng_to _) (fun g2013 => ?_) (fun g2013 => ?_)
          ·
            refine z_const X rfl (z_add X rfl (z_store X (lv' := [(4, .int (Int32.ofInt (rv + 0))), (3, .int (Int32.ofInt (hv + 0))), (0, .ref (A 179)), (1, .int (Int32.ofInt xv)), (2, .int (Int32.ofInt pv)), (5, .int (Int32.ofInt c))]) rfl (by decide) (fun _ h => h) (z_inc X (x := c) (lv' := [(5, .int (Int32.ofInt (c + 1))), (4, .int (Int32.ofInt (rv + 0))), (3, .int (Int32.ofInt (hv + 0))), (0, .ref (A 179)), (1, .int (Int32.ofInt xv)), (2, .int (Int32.ofInt pv))]) rfl (by decide) (List.Mem.tail _ (List.Mem.tail _ (List.Mem.tail _ (List.Mem.tail _ (List.Mem.tail _ (List.Mem.head _)))))) (fun _ h => h) (z_goto X (t := 48) rfl rfl (WS_pq [3, 4, 5, 2, 1, 0] (lv' := [(0, .ref (A 179)), (1, .int (Int32.ofInt xv)), (2, .int (Int32.ofInt pv)), (3, .int (Int32.ofInt (hv + 0))), (4, .int (Int32.ofInt (rv + 0))), (5, .int (Int32.ofInt (c + 1)))]) rfl ?_)))))
            exact ih _ xv pv (hv + 0) (rv + 0) (c + 1) I F ⟨hq.1, smc hq.2.1 (by first | (clear g2011; omega) | omega) (by rw [hS8]), smc hq.2.2 (by first | (clear g2011; omega) | omega) (show _ = _ + iC s 399 (c : Int).toNat by first | (clear g2011; omega) | omega)⟩ (by first | exact ⟨hi.1, And.intro (hi.2.1.1) (hi.2.1.2), And.intro (oq_590e7a3f hi.2.2.1.1) (oq_2d160f3c hi.2.2.1.2), And.intro (oq_590e7a3f hi.2.2.2.1.1) (oq_2d160f3c hi.2.2.2.1.2), oq_d2afb425 g2009, hi.2.2.2.2.2⟩ | omega) (by first | exact qk_me hm (by decide) (oq_c268b7bd g2009) | omega) kx
          ·
            refine z_const X rfl (z_goto X (t := 92) rfl rfl (z_add X rfl (z_store X (lv' := [(4, .int (Int32.ofInt (rv + 1))), (3, .int (Int32.ofInt (hv + 0))), (0, .ref (A 179)), (1, .int (Int32.ofInt xv)), (2, .int (Int32.ofInt pv)), (5, .int (Int32.ofInt c))]) rfl (by decide) (fun _ h => h) (z_inc X (x := c) (lv' := [(5, .int (Int32.ofInt (c + 1))), (4, .int (Int32.ofInt (rv + 1))), (3, .int (Int32.ofInt (hv + 0))), (0, .ref (A 179)), (1, .int (Int32.ofInt xv)), (2, .int (Int32.ofInt pv))]) rfl (by decide) (List.Mem.tail _ (List.Mem.tail _ (List.Mem.tail _ (List.Mem.tail _ (List.Mem.tail _ (List.Mem.head _)))))) (fun _ h => h) (z_goto X (t := 48) rfl rfl (WS_pq [3, 4, 5, 2, 1, 0] (lv' := [(0, .ref (A 179)), (1, .int (Int32.ofInt xv)), (2, .int (Int32.ofInt pv)), (3, .int (Int32.ofInt (hv + 0))), (4, .int (Int32.ofInt (rv + 1))), (5, .int (Int32.ofInt (c + 1)))]) rfl ?_))))))
            exact ih _ xv pv (hv + 0) (rv + 1) (c + 1) I F ⟨hq.1, smc hq.2.1 (by first | (clear g2013 g2011; omega) | (clear g2011; omega) | omega) (by rw [hS8]), smc hq.2.2 (by first | (clear g2013 g2011; omega) | (clear g2011; omega) | omega) (show _ = _ + iC s 399 (c : Int).toNat by first | (clear g2013 g2011; omega) | (clear g2011; omega) | omega)⟩ (by first | exact ⟨hi.1, And.intro (hi.2.1.1) (hi.2.1.2), And.intro (oq_590e7a3f hi.2.2.1.1) (oq_2d160f3c hi.2.2.1.2), And.intro (oq_54f49eb5 hi.2.2.2.1.1) (oq_8d48a029 hi.2.2.2.1.2), oq_d2afb425 g2009, hi.2.2.2.2.2⟩ | omega) (by first | exact qk_me hm (by decide) (oq_c268b7bd g2009) | omega) kx
        ·
          have hS8 : shN (pfM s) (c : Int).toNat = 1 := shn_y (by rw [← hS9]; omega)
          refine z_const X rfl (z_goto X (t := 73) rfl rfl (z_add X rfl (z_store_n X (lv' := [(3, .int (Int32.ofInt (hv + 1))), (0, .ref (A 179)), (1, .int (Int32.ofInt xv)), (2, .int (Int32.ofInt pv)), (4, .int (Int32.ofInt rv)), (5, .int (Int32.ofInt c))]) rfl (by decide) (fun _ h => h) (z_load X (x := rv) rfl (List.Mem.tail _ (List.Mem.tail _ (List.Mem.tail _ (List.Mem.tail _ (List.Mem.head _))))) (z_aload_n X (x := A 179) rfl (List.Mem.tail _ (List.Mem.head _)) (s_getR X 179 rfl (c518_ok rfl) rfl rfl (z_load X (x := c) rfl (List.Mem.tail _ (List.Mem.tail _ (List.Mem.tail _ (List.Mem.tail _ (List.Mem.tail _ (List.Mem.head _)))))) (z_zald X 454 rfl (c518_ok rfl) rfl (by first | exact oq_12a1f9e1 hi.2.2.2.1.2 hi.2.2.2.1.1 | omega) (show c < 128 by first | exact g2009 | omega) (cbig_ok rfl) ?_))))))))
          have b2014 := bc_399 I (show (c).toNat < 128 by first | exact oq_afb89947 g2009 | omega)
          have hT9 : (iC t 399 (c).toNat) = iC s 399 (c : Int).toNat := fm_c F (by decide)
          refine z_if_eq X (t := 91) rfl rfl (rng_to _) (fun g2015 => ?_) (fun g2015 => ?_)
          ·
            refine z_const X rfl (z_add X rfl (z_store X (lv' := [(4, .int (Int32.ofInt (rv + 0))), (3, .int (Int32.ofInt (hv + 1))), (0, .ref (A 179)), (1, .int (Int32.ofInt xv)), (2, .int (Int32.ofInt pv)), (5, .int (Int32.ofInt c))]) rfl (by decide) (fun _ h => h) (z_inc X (x := c) (lv' := [(5, .int (Int32.ofInt (c + 1))), (4, .int (Int32.ofInt (rv + 0))), (3, .int (Int32.ofInt (hv + 1))), (0, .ref (A 179)), (1, .int (Int32.ofInt xv)), (2, .int (Int32.ofInt pv))]) rfl (by decide) (List.Mem.tail _ (List.Mem.tail _ (List.Mem.tail _ (List.Mem.tail _ (List.Mem.tail _ (List.Mem.head _)))))) (fun _ h => h) (z_goto X (t := 48) rfl rfl (WS_pq [3, 4, 5, 2, 1, 0] (lv' := [(0, .ref (A 179)), (1, .int (Int32.ofInt xv)), (2, .int (Int32.ofInt pv)), (3, .int (Int32.ofInt (hv + 1))), (4, .int (Int32.ofInt (rv + 0))), (5, .int (Int32.ofInt (c + 1)))]) rfl ?_)))))
            exact ih _ xv pv (hv + 1) (rv + 0) (c + 1) I F ⟨hq.1, smc hq.2.1 (by omega) (by rw [hS8]), smc hq.2.2 (by omega) (show _ = _ + iC s 399 (c : Int).toNat by omega)⟩ (by first | exact ⟨hi.1, And.intro (hi.2.1.1) (hi.2.1.2), And.intro (oq_54f49eb5 hi.2.2.1.1) (oq_8d48a029 hi.2.2.1.2), And.intro (oq_590e7a3f hi.2.2.2.1.1) (oq_2d160f3c hi.2.2.2.1.2), oq_d2afb425 g2009, hi.2.2.2.2.2⟩ | omega) (by first | exact qk_me hm (by decide) (oq_c268b7bd g2009) | omega) kx
          ·
            refine z_const X rfl (z_goto X (t := 92) rfl rfl (z_add X rfl (z_store X (lv' := [(4, .int (Int32.ofInt (rv + 1))), (3, .int (Int32.ofInt (hv + 1))), (0, .ref (A 179)), (1, .int (Int32.ofInt xv)), (2, .int (Int32.ofInt pv)), (5, .int (Int32.ofInt c))]) rfl (by decide) (fun _ h => h) (z_inc X (x := c) (lv' := [(5, .int (Int32.ofInt (c + 1))), (4, .int (Int32.ofInt (rv + 1))), (3, .int (Int32.ofInt (hv + 1))), (0, .ref (A 179)), (1, .int (Int32.ofInt xv)), (2, .int (Int32.ofInt pv))]) rfl (by decide) (List.Mem.tail _ (List.Mem.tail _ (List.Mem.tail _ (List.Mem.tail _ (List.Mem.tail _ (List.Mem.head _)))))) (fun _ h => h) (z_goto X (t := 48) rfl rfl (WS_pq [3, 4, 5, 2, 1, 0] (lv' := [(0, .ref (A 179)), (1, .int (Int32.ofInt xv)), (2, .int (Int32.ofInt pv)), (3, .int (Int32.ofInt (hv + 1))), (4, .int (Int32.ofInt (rv + 1))), (5, .int (Int32.ofInt (c + 1)))]) rfl ?_))))))
            exact ih _ xv pv (hv + 1) (rv + 1) (c + 1) I F ⟨hq.1, smc hq.2.1 (by first | (clear g2015; omega) | omega) (by rw [hS8]), smc hq.2.2 (by first | (clear g2015; omega) | omega) (show _ = _ + iC s 399 (c : Int).toNat by first | (clear g2015; omega) | omega)⟩ (by first | exact ⟨hi.1, And.intro (hi.2.1.1) (hi.2.1.2), And.intro (oq_54f49eb5 hi.2.2.1.1) (oq_8d48a029 hi.2.2.1.2), And.intro (oq_54f49eb5 hi.2.2.2.1.1) (oq_8d48a029 hi.2.2.2.1.2), oq_d2afb425 g2009, hi.2.2.2.2.2⟩ | omega) (by first | exact qk_me hm (by decide) (oq_c268b7bd g2009) | omega) kx
  refine z_aload_n X (x := A 179) rfl (List.Mem.head _) (z_const X rfl (s_putI X 179 rfl (c518_ok rfl) rfl rfl (by decide) rfl rfl rfl (wd_gen (fun s9 hs9 => ?_))))
  have Is9 : Bd s9 := eqB hs9 (bd_I I (show (0 : Int) ≤ 0 ∧ 0 ≤ 3 by first | exact ⟨by decide, by decide⟩ | omega) (by decide))
  have Fs9 := eqF hs9 (fm_I F (inl_ok (a := 73) rfl))
  have vs9 : iI s9 73 = 0 := eqI hs9 (iI_u (by decide))
  have ws9_90 : iI s9 90 = iI s 90 := eqI hs9 rfl
  have ws9_83 : iI s9 83 = iI s 83 := eqI hs9 rfl
  have ws9_97 : iI s9 97 = iI s 97 := eqI hs9 rfl
  have ws9_99 : iI s9 99 = iI s 99 := eqI hs9 rfl
  have ws9_107 : iI s9 107 = iI s 107 := eqI hs9 rfl
  have ws9_98 : iI s9 98 = iI s 98 := eqI hs9 rfl
  have ws9_74 : iI s9 74 = iI s 74 := eqI hs9 rfl
  refine z_const X rfl (z_store_n X (lv' := [(2, .int (Int32.ofInt 0)), (0, .ref (A 179)), (1, .int (Int32.ofInt u))]) rfl (by decide) (fun _ h => h) (z_const X rfl (z_store_n X (lv' := [(3, .int (Int32.ofInt 0)), (2, .int (Int32.ofInt 0)), (0, .ref (A 179)), (1, .int (Int32.ofInt u))]) rfl (by decide) (fun _ h => h) (z_const X rfl (z_store X (lv' := [(4, .int (Int32.ofInt 0)), (3, .int (Int32.ofInt 0)), (2, .int (Int32.ofInt 0)), (0, .ref (A 179)), (1, .int (Int32.ofInt u))]) rfl (by decide) (fun _ h => h) (z_const X rfl (z_store X (lv' := [(5, .int (Int32.ofInt 0)), (4, .int (Int32.ofInt 0)), (3, .int (Int32.ofInt 0)), (2, .int (Int32.ofInt 0)), (0, .ref (A 179)), (1, .int (Int32.ofInt u))]) rfl (by decide) (fun _ h => h) (WS_pq [4, 5, 3, 2, 1, 0] (lv' := [(0, .ref (A 179)), (1, .int (Int32.ofInt u)), (2, .int (Int32.ofInt 0)), (3, .int (Int32.ofInt 0)), (4, .int (Int32.ofInt 0)), (5, .int (Int32.ofInt 0))]) rfl (L15 ((8 - 0 : Int).toNat + 1) s9 u 0 0 0 0 Is9 Fs9 rfl (by first | exact ⟨by decide, And.intro (by decide) (And.intro (by decide) (by decide)), And.intro (by decide) (by decide), vs9⟩ | omega) (Nat.lt_succ_self _) ?_)))))))))
  intro s10 x11 x12 Is10 Fs10 Qs10 hs10
  have b13 := bi_73 Is10
  have b14 := bi_90 Is10
  have b15 := bi_83 Is10
  have b16 := bi_97 Is10
  have b17 := bi_99 Is10
  have b18 := bi_107 Is10
  have b19 := bi_98 Is10
  have b20 := bi_74 Is10
  have hN8 : x11 = sm (pcnN (pfM s)) 8 := by have z := Qs10; rw [show x12 = 8 by omega] at z; exact z
  refine z_const X rfl (z_store X (lv' := [(5, .int (Int32.ofInt 0)), (0, .ref (A 179)), (1, .int (Int32.ofInt u)), (2, .int (Int32.ofInt x11)), (3, .int (Int32.ofInt 0)), (4, .int (Int32.ofInt 0))]) rfl (by decide) (fun _ h => h) (WS_pq [1, 2, 3, 4, 5, 0] (lv' := [(0, .ref (A 179)), (1, .int (Int32.ofInt u)), (2, .int (Int32.ofInt x11)), (3, .int (Int32.ofInt 0)), (4, .int (Int32.ofInt 0)), (5, .int (Int32.ofInt 0))]) rfl (L48 ((128 - 0 : Int).toNat + 1) s10 u x11 0 0 0 Is10 Fs10 ⟨hN8, rfl, rfl⟩ (by first | exact ⟨by decide, And.intro (hs10.2.1.1) (hs10.2.1.2.1), And.intro (by decide) (by decide), And.intro (by decide) (by decide), by decide, hs10.2.2.2⟩ | omega) (Nat.lt_succ_self _) ?_)))
  intro s21 x22 x23 x24 Is21 Fs21 Qs21 hs21
  have b25 := bi_73 Is21
  have b26 := bi_90 Is21
  have b27 := bi_83 Is21
  have b28 := bi_97 Is21
  have b29 := bi_99 Is21
  have b30 := bi_107 Is21
  have b31 := bi_98 Is21
  have b32 := bi_74 Is21
  refine z_load_n X (x := u) rfl (List.Mem.tail _ (List.Mem.head _)) ?_
  rcases (show u = 0 ∨ u = 1 ∨ u = 2 ∨ u = 3 ∨ u = 4 ∨ u = 5 ∨ u = 6 ∨ u = 7 ∨ u = 8 ∨ u = 9 ∨ (u < 0 ∨ 9 < u) by omega) with gs | gs | gs | gs | gs | gs | gs | gs | gs | gs | gs
  ·
    rw [gs]
    refine w_tabIn X.1 (dflt := 96) (lo := 0) (hi := 9) (offs := #[54, 59, 64, 66, 68, 73, 78, 83, 86, 91]) (len := 54) (off := 54) (t := 156) (ax_d X (show cdA 295 102 = some (.tableswitch 96 0 9 #[54, 59, 64, 66, 68, 73, 78, 83, 86, 91], 54, 0, 0, 0) from rfl)) (by decide) (by decide) (by decide) (by decide) (z_aload_n X (x := A 179) rfl (List.Mem.head _) (z_getI X 179 rfl (c518_ok rfl) rfl rfl ?_))
    have b33 := bi_90 Is21
    exact w_iret X.1 q hRt rfl (ax_d X (show cdA 295 160 = some (.ireturn, 1, 0, 0, 0) from rfl)) (Nat.zero_le _) (Nat.zero_le _) ⟨_, rfl, Is21, Fs21, (iI s21 90), rfl, (rng_to _), ⟨Or.inl ⟨gs, by first | exact fm_i Fs21 (by decide) | omega⟩, by first | exact hs21.2.2.2.2.2 | omega⟩⟩
  ·
    rw [gs]
    refine w_tabIn X.1 (dflt := 96) (lo := 0) (hi := 9) (offs := #[54, 59, 64, 66, 68, 73, 78, 83, 86, 91]) (len := 54) (off := 59) (t := 161) (ax_d X (show cdA 295 102 = some (.tableswitch 96 0 9 #[54, 59, 64, 66, 68, 73, 78, 83, 86, 91], 54, 0, 0, 0) from rfl)) (by decide) (by decide) (by decide) (by decide) (z_aload_n X (x := A 179) rfl (List.Mem.head _) (z_getI X 179 rfl (c518_ok rfl) rfl rfl ?_))
    have b34 := bi_83 Is21
    exact w_iret X.1 q hRt rfl (ax_d X (show cdA 295 165 = some (.ireturn, 1, 0, 0, 0) from rfl)) (Nat.zero_le _) (Nat.zero_le _) ⟨_, rfl, Is21, Fs21, (iI s21 83), rfl, (rng_to _), ⟨Or.inr (Or.inl ⟨gs, by first | exact fm_i Fs21 (by decide) | omega⟩), by first | exact hs21.2.2.2.2.2 | omega⟩⟩
  ·
    rw [gs]
    refine w_tabIn X.1 (dflt := 96) (lo := 0) (hi := 9) (offs := #[54, 59, 64, 66, 68, 73, 78, 83, 86, 91]) (len := 54) (off := 64) (t := 166) (ax_d X (show cdA 295 102 = some (.tableswitch 96 0 9 #[54, 59, 64, 66, 68, 73, 78, 83, 86, 91], 54, 0, 0, 0) from rfl)) (by decide) (by decide) (by decide) (by decide) (z_load_n X (x := x11) rfl (List.Mem.tail _ (List.Mem.tail _ (List.Mem.head _))) ?_)
    exact w_iret X.1 q hRt rfl (ax_d X (show cdA 295 167 = some (.ireturn, 1, 0, 0, 0) from rfl)) (Nat.zero_le _) (Nat.zero_le _) ⟨_, rfl, Is21, Fs21, x11, rfl, ⟨by first | exact oq_fa4e5087 hs21.2.1.1 | omega, by first | exact oq_d3f5d874 hs21.2.1.2 | omega⟩, ⟨Or.inr (Or.inr (Or.inl ⟨gs, by have z := Qs21.1; exact z⟩)), by first | exact hs21.2.2.2.2.2 | omega⟩⟩
  ·
    rw [gs]
    refine w_tabIn X.1 (dflt := 96) (lo := 0) (hi := 9) (offs := #[54, 59, 64, 66, 68, 73, 78, 83, 86, 91]) (len := 54) (off := 66) (t := 168) (ax_d X (show cdA 295 102 = some (.tableswitch 96 0 9 #[54, 59, 64, 66, 68, 73, 78, 83, 86, 91], 54, 0, 0, 0) from rfl)) (by decide) (by decide) (by decide) (by decide) (z_load_n X (x := x22) rfl (List.Mem.tail _ (List.Mem.tail _ (List.Mem.tail _ (List.Mem.head _)))) ?_)
    exact w_iret X.1 q hRt rfl (ax_d X (show cdA 295 169 = some (.ireturn, 1, 0, 0, 0) from rfl)) (Nat.zero_le _) (Nat.zero_le _) ⟨_, rfl, Is21, Fs21, x22, rfl, ⟨by first | exact oq_fa4e5087 hs21.2.2.1.1 | omega, by first | exact oq_4ee82282 hs21.2.2.1.2 | omega⟩, ⟨Or.inr (Or.inr (Or.inr (Or.inl ⟨gs, by have z := Qs21.2.1; rw [show x24 = 128 by omega] at z; exact z⟩))), by first | exact hs21.2.2.2.2.2 | omega⟩⟩
  ·
    rw [gs]
    refine w_tabIn X.1 (dflt := 96) (lo := 0) (hi := 9) (offs := #[54, 59, 64, 66, 68, 73, 78, 83, 86, 91]) (len := 54) (off := 68) (t := 170) (ax_d X (show cdA 295 102 = some (.tableswitch 96 0 9 #[54, 59, 64, 66, 68, 73, 78, 83, 86, 91], 54, 0, 0, 0) from rfl)) (by decide) (by decide) (by decide) (by decide) (z_aload_n X (x := A 179) rfl (List.Mem.head _) (z_getI X 179 rfl (c518_ok rfl) rfl rfl ?_))
    have b35 := bi_97 Is21
    exact w_iret X.1 q hRt rfl (ax_d X (show cdA 295 174 = some (.ireturn, 1, 0, 0, 0) from rfl)) (Nat.zero_le _) (Nat.zero_le _) ⟨_, rfl, Is21, Fs21, (iI s21 97), rfl, (rng_to _), ⟨Or.inr (Or.inr (Or.inr (Or.inr (Or.inl ⟨gs, by first | exact fm_i Fs21 (by decide) | omega⟩)))), by first | exact hs21.2.2.2.2.2 | omega⟩⟩
  ·
    rw [gs]
    refine w_tabIn X.1 (dflt := 96) (lo := 0) (hi := 9) (offs := #[54, 59, 64, 66, 68, 73, 78, 83, 86, 91]) (len := 54) (off := 73) (t := 175) (ax_d X (show cdA 295 102 = some (.tableswitch 96 0 9 #[54, 59, 64, 66, 68, 73, 78, 83, 86, 91], 54, 0, 0, 0) from rfl)) (by decide) (by decide) (by decide) (by decide) (z_aload_n X (x := A 179) rfl (List.Mem.head _) (z_getI X 179 rfl (c518_ok rfl) rfl rfl ?_))
    have b36 := bi_99 Is21
    exact w_iret X.1 q hRt rfl (ax_d X (show cdA 295 179 = some (.ireturn, 1, 0, 0, 0) from rfl)) (Nat.zero_le _) (Nat.zero_le _) ⟨_, rfl, Is21, Fs21, (iI s21 99), rfl, (rng_to _), ⟨Or.inr (Or.inr (Or.inr (Or.inr (Or.inr (Or.inl ⟨gs, by first | exact fm_i Fs21 (by decide) | omega⟩))))), by first | exact hs21.2.2.2.2.2 | omega⟩⟩
  ·
    rw [gs]
    refine w_tabIn X.1 (dflt := 96) (lo := 0) (hi := 9) (offs := #[54, 59, 64, 66, 68, 73, 78, 83, 86, 91]) (len := 54) (off := 78) (t := 180) (ax_d X (show cdA 295 102 = some (.tableswitch 96 0 9 #[54, 59, 64, 66, 68, 73, 78, 83, 86, 91], 54, 0, 0, 0) from rfl)) (by decide) (by decide) (by decide) (by decide) (z_aload_n X (x := A 179) rfl (List.Mem.head _) (z_getI X 179 rfl (c518_ok rfl) rfl rfl ?_))
    have b37 := bi_107 Is21
    exact w_iret X.1 q hRt rfl (ax_d X (show cdA 295 184 = some (.ireturn, 1, 0, 0, 0) from rfl)) (Nat.zero_le _) (Nat.zero_le _) ⟨_, rfl, Is21, Fs21, (iI s21 107), rfl, (rng_to _), ⟨Or.inr (Or.inr (Or.inr (Or.inr (Or.inr (Or.inr (Or.inl ⟨gs, by first | exact fm_i Fs21 (by decide) | omega⟩)))))), by first | exact hs21.2.2.2.2.2 | omega⟩⟩
  ·
    rw [gs]
    refine w_tabIn X.1 (dflt := 96) (lo := 0) (hi := 9) (offs := #[54, 59, 64, 66, 68, 73, 78, 83, 86, 91]) (len := 54) (off := 83) (t := 185) (ax_d X (show cdA 295 102 = some (.tableswitch 96 0 9 #[54, 59, 64, 66, 68, 73, 78, 83, 86, 91], 54, 0, 0, 0) from rfl)) (by decide) (by decide) (by decide) (by decide) (z_load X (x := x23) rfl (List.Mem.tail _ (List.Mem.tail _ (List.Mem.tail _ (List.Mem.tail _ (List.Mem.head _))))) ?_)
    exact w_iret X.1 q hRt rfl (ax_d X (show cdA 295 187 = some (.ireturn, 1, 0, 0, 0) from rfl)) (Nat.zero_le _) (Nat.zero_le _) ⟨_, rfl, Is21, Fs21, x23, rfl, ⟨by first | exact oq_fa4e5087 hs21.2.2.2.1.1 | omega, by first | exact oq_4ee82282 hs21.2.2.2.1.2 | omega⟩, ⟨Or.inr (Or.inr (Or.inr (Or.inr (Or.inr (Or.inr (Or.inr (Or.inl ⟨gs, by have z := Qs21.2.2; rw [show x24 = 128 by omega] at z; exact z⟩))))))), by first | exact hs21.2.2.2.2.2 | omega⟩⟩
  ·
    rw [gs]
    refine w_tabIn X.1 (dflt := 96) (lo := 0) (hi := 9) (offs := #[54, 59, 64, 66, 68, 73, 78, 83, 86, 91]) (len := 54) (off := 86) (t := 188) (ax_d X (show cdA 295 102 = some (.tableswitch 96 0 9 #[54, 59, 64, 66, 68, 73, 78, 83, 86, 91], 54, 0, 0, 0) from rfl)) (by decide) (by decide) (by decide) (by decide) (z_aload_n X (x := A 179) rfl (List.Mem.head _) (z_getI X 179 rfl (c518_ok rfl) rfl rfl ?_))
    have b38 := bi_98 Is21
    exact w_iret X.1 q hRt rfl (ax_d X (show cdA 295 192 = some (.ireturn, 1, 0, 0, 0) from rfl)) (Nat.zero_le _) (Nat.zero_le _) ⟨_, rfl, Is21, Fs21, (iI s21 98), rfl, (rng_to _), ⟨Or.inr (Or.inr (Or.inr (Or.inr (Or.inr (Or.inr (Or.inr (Or.inr (Or.inl ⟨gs, by first | exact fm_i Fs21 (by decide) | omega⟩)))))))), by first | exact hs21.2.2.2.2.2 | omega⟩⟩
  ·
    rw [gs]
    refine w_tabIn X.1 (dflt := 96) (lo := 0) (hi := 9) (offs := #[54, 59, 64, 66, 68, 73, 78, 83, 86, 91]) (len := 54) (off := 91) (t := 193) (ax_d X (show cdA 295 102 = some (.tableswitch 96 0 9 #[54, 59, 64, 66, 68, 73, 78, 83, 86, 91], 54, 0, 0, 0) from rfl)) (by decide) (by decide) (by decide) (by decide) (z_aload_n X (x := A 179) rfl (List.Mem.head _) (z_getI X 179 rfl (c518_ok rfl) rfl rfl ?_))
    have b39 := bi_74 Is21
    exact w_iret X.1 q hRt rfl (ax_d X (show cdA 295 197 = some (.ireturn, 1, 0, 0, 0) from rfl)) (Nat.zero_le _) (Nat.zero_le _) ⟨_, rfl, Is21, Fs21, (iI s21 74), rfl, (rng_to _), ⟨Or.inr (Or.inr (Or.inr (Or.inr (Or.inr (Or.inr (Or.inr (Or.inr (Or.inr (Or.inl ⟨gs, by first | exact fm_i Fs21 (by decide) | omega⟩))))))))), by first | exact hs21.2.2.2.2.2 | omega⟩⟩
  ·
    refine w_tabOut X.1 (dflt := 96) (lo := 0) (hi := 9) (offs := #[54, 59, 64, 66, 68, 73, 78, 83, 86, 91]) (len := 54) (t := 198) (ax_d X (show cdA 295 102 = some (.tableswitch 96 0 9 #[54, 59, 64, 66, 68, 73, 78, 83, 86, 91], 54, 0, 0, 0) from rfl)) (by rw [zi ⟨by omega, by omega⟩]; omega) (by decide) (z_const X rfl ?_)
    exact w_iret X.1 q hRt rfl (ax_d X (show cdA 295 199 = some (.ireturn, 1, 0, 0, 0) from rfl)) (Nat.zero_le _) (Nat.zero_le _) ⟨_, rfl, Is21, Fs21, (-1), rfl, (by decide), ⟨Or.inr (Or.inr (Or.inr (Or.inr (Or.inr (Or.inr (Or.inr (Or.inr (Or.inr (Or.inr (⟨gs, by first | exact fm_i Fs21 (by decide) | omega⟩)))))))))), by first | exact hs21.2.2.2.2.2 | omega⟩⟩
end M87kh
