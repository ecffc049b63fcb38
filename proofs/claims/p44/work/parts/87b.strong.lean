theorem oq_211582d6 {a0 a1 : Int} (h0 : a0 = a1) (h1 : a0 ≤ 3) : a1 ≤ 3 := by omega
theorem oq_84cd28e9 {a0 a1 : Int} (h0 : a0 ≤ 4) (h1 : a1 = a0) (h2 : a1 = 4) : a0 = 4 := by omega
theorem oq_fb5f44d5 {a0 a1 a2 : Int} (h0 : a0 = (a1 - 1)) (h1 : a1 = a2) : a0 = (a2 - 1) := by omega
theorem oq_fbab4971 {a0 a1 : Int} (h0 : a0 = a1) (h1 : a0 = 0) (h2 : 0 ≤ a1) : a1 = 0 := by omega
/-! Contracts that say what is answered -/
/-- the law's long -/
def iO (t : PS) : Int := (gD t 460 0).toInt
theorem iO_u {s : PS} {e : Int} (h : rng e) : iO (uD s 460 (0 : Int).toNat (Int32.ofInt e).toInt64) = e := by
  show ((if 460 = 460 then vp_updL (s.2.2.2.1 460) (0 : Int).toNat (Int32.ofInt e).toInt64 else s.2.2.2.1 460) 0).toInt = e
  rw [if_pos rfl]
  show ((if 0 = (0 : Int).toNat then (Int32.ofInt e).toInt64 else s.2.2.2.1 460 0)).toInt = e
  rw [if_pos (by decide), Int32.toInt_toInt64, zi h]
theorem fm_o {L M : List Nat} {s t : PS} (F : Fm L M s t) (h : 460 + 1000 ∉ M) : iO t = iO s := congrArg Int64.toInt (fm_dd F h)
/-- an array's cells are as they were; but for one -/
def SAM (a : Nat) (s t : PS) : Prop := ∀ j, iC t a j = iC s a j
def UPD (a : Nat) (i x : Int) (s t : PS) : Prop := iC t a i.toNat = x ∧ ∀ j, j ≠ i.toNat → iC t a j = iC s a j
theorem sam_rf {a : Nat} {s : PS} : SAM a s s := fun _ => rfl
theorem sam_fm {L M : List Nat} {a : Nat} {s t : PS} (F : Fm L M s t) (h : a ∉ M) : SAM a s t := fun _ => fm_c F h
theorem sam_ts {a : Nat} {s t u : PS} (h : SAM a s t) (g : SAM a t u) : SAM a s u := fun j => (g j).trans (h j)
theorem upd_ts {a : Nat} {i x : Int} {s t u : PS} (h : UPD a i x s t) (g : SAM a t u) : UPD a i x s u := ⟨(g _).trans h.1, fun j hj => (g j).trans (h.2 j hj)⟩
theorem sam_C {a b i : Nat} {x : Int32} {s t : PS} (hb : a ≠ b) (h : SAM a s t) : SAM a s (uC t b i x) := fun j => (iC_a hb).trans (h j)
theorem upd_C {a b i : Nat} {x : Int32} {y z : Int} {s t : PS} (hb : a ≠ b) (h : UPD a y z s t) : UPD a y z s (uC t b i x) := ⟨(iC_a hb).trans h.1, fun j hj => (iC_a hb).trans (h.2 j hj)⟩
theorem upd_put {a : Nat} {i x : Int} {s t : PS} (h : SAM a s t) (hx : rng x) : UPD a i x s (uC t a i.toNat (Int32.ofInt x)) := ⟨iC_u hx, fun j hj => (iC_n hj).trans (h j)⟩
/-- two arrays are the same, n cells of them -/
def AEQ (a b n : Nat) (s : PS) : Prop := ∀ j, j < n → iC s a j = iC s b j
theorem aeq_sam {a b n : Nat} {s t : PS} (h : AEQ a b n s) (h1 : SAM a s t) (h2 : SAM b s t) : AEQ a b n t := fun j hj => by rw [h1, h2]; exact h j hj
theorem aeq_upd {a b n : Nat} {i x : Int} {s t u : PS} (h : AEQ a b n s) (h1 : UPD a i x s t) (h2 : SAM b s t) (h3 : UPD b i x t u) (h4 : SAM a t u) : AEQ a b n u := fun j hj => by
  by_cases e : j = i.toNat
  · rw [e, h3.1, h4, h1.1]
  · rw [h4, h1.2 j e, h3.2 j e, h2]; exact h j hj
/-- x is among the first n cells; it is not -/
def HAS (a : Nat) (n x : Int) (s : PS) : Prop := ∃ j : Nat, (j : Int) < n ∧ iC s a j = x
def NHS (a : Nat) (n x : Int) (s : PS) : Prop := ∀ j : Nat, (j : Int) < n → iC s a j ≠ x
theorem nhs_0 {a : Nat} {x : Int} {s : PS} : NHS a 0 x s := fun j hj => by omega
theorem nhs_up {a : Nat} {c x : Int} {s : PS} (h : NHS a c x s) (h0 : 0 ≤ c) (h1 : iC s a c.toNat ≠ x) : NHS a (c + 1) x s := fun j hj => by
  by_cases e : j = c.toNat
  · rw [e]; exact h1
  · exact h j (by omega)
theorem nhs_le {a : Nat} {c n x : Int} {s : PS} (h : NHS a c x s) (h0 : n ≤ c) : NHS a n x s := fun j hj => h j (by omega)
theorem hs_of {a : Nat} {n x : Int} {s : PS} (c : Int) (h0 : 0 ≤ c) (h1 : c < n) (h2 : iC s a c.toNat = x) : HAS a n x s := ⟨c.toNat, by omega, h2⟩
theorem upd_ix {a : Nat} {i j x : Int} {s t : PS} (h : UPD a i x s t) (e : i = j) : UPD a j x s t := e ▸ h
/-- the first cells of two arrays are the same, as many as the symbol q says -/
def REQ (a b q : Nat) (s : PS) : Prop := ∀ j : Nat, (j : Int) < iI s q → iC s a j = iC s b j
theorem req_0 {a b q : Nat} {s : PS} (h : iI s q = 0) : REQ a b q s := fun j hj => by omega
theorem req_sam {a b q : Nat} {s t : PS} (h : REQ a b q s) (h1 : SAM a s t) (h2 : SAM b s t) (e : iI t q = iI s q) : REQ a b q t := fun j hj => by rw [h1, h2]; exact h j (by omega)
theorem req_upd {a b q : Nat} {n m x : Int} {s t u : PS} (h : REQ a b q s) (h1 : UPD a n x s t) (h2 : SAM b s t) (h3 : UPD b m x t u) (h4 : SAM a t u) (e1 : n = iI s q) (e2 : m = n) (e3 : iI u q = iI s q + 1) (h0 : 0 ≤ n) : REQ a b q u := fun j hj => by
  subst e2
  by_cases e : j = m.toNat
  · rw [e, h3.1, h4, h1.1]
  · rw [h4, h1.2 j e, h3.2 j e, h2]; exact h j (by omega)
theorem req_no {a b q : Nat} {n m x : Int} {s t : PS} (h : REQ a b q s) (hb : SAM b s t) (h1 : HAS a n x s) (h2 : NHS b m x t) (e1 : n = iI s q) (e2 : m = n) : False := by
  obtain ⟨j, h3, h4⟩ := h1
  exact h2 j (by omega) (by rw [hb, ← h j (by omega)]; exact h4)
theorem req_no2 {a b q : Nat} {n m x : Int} {s t : PS} (h : REQ a b q s) (hb : SAM b s t) (h1 : NHS a n x s) (h2 : HAS b m x t) (e1 : n = iI s q) (e2 : m = n) : False := by
  obtain ⟨j, h3, h4⟩ := h2
  exact h1 j (by omega) (by rw [h j (by omega), ← hb]; exact h4)
theorem aeq_at {a b n : Nat} {i : Int} {s t : PS} (h : AEQ a b n s) (h2 : SAM b s t) (hi : i.toNat < n) : iC s a i.toNat = iC t b i.toNat := by rw [h2]; exact h _ hi
section M87b
variable {l : Launch} {s0 : State} {D : va_G} {tys : List (ClassId × FieldType)} {a0 : Array Value} {A : Nat → Nat} {dT : Nat → ClassId} {s : PS}
set_option maxRecDepth 4000 in
theorem cs_mark2 (G : GX l s0 D tys a0 dT) (I : Bd s)  : CT l s0 D A dT 176 (rmN 176) [.ref (A 0)] s (fun o t => Bd t ∧ Fm [20] [25] s t ∧ ∃ e, o = .inl (some (.int (Int32.ofInt e))) ∧ rng e ∧ ((iI s 20 ≤ 3 ∧ iI t 20 = iI s 20 + 1 ∧ e = iI t 20) ∨ (iI s 20 = 4 ∧ iI t 20 = 4 ∧ e = -1))) := by
  refine ct_ofX G (by decide) (Nat.le_of_ble_eq_true rfl) (fun k X E ET hRt hXt q => ?_)
  show WS k 0 [(0, .ref (A 0))] [] _ 0 0
  have F : Fm [20] [25] s s := fm_rf _ _ s
  have b1 : (0 : Int) ≤ iI s 20 ∧ iI s 20 ≤ 4 := I.1 20
  refine z_aload_n X (x := A 0) (show cdA 176 0 = some (.aload_n 0, 1, 0, 0, 0) from rfl) (List.Mem.head _) ?_
  refine s_getR X 0 (show cdA 176 1 = some (.getfield 35, 3, 11, 3, 0) from rfl) (by decide) rfl rfl ?_
  refine z_callV X 25 (rm := rmN 40) (As := []) (st := []) (show cdA 176 4 = some (.invokevirtual 377, 3, 40, 0, 0) from rfl) rfl (by decide) rfl (by rw [E.1, E.2.1, E.2.2.1]; exact c3_keepMark_25 G I ) ⟨by rw [E.2.2.2]; exact (show (rmN 40).frames + 1 ≤ (rmN 176).frames by decide), by rw [E.2.2.2]; exact (show 8 + (mNL (miB 40) + 11) + (rmN 40).locals ≤ (rmN 176).locals by decide), by rw [E.2.2.2]; exact (show 0 + (rmN 40).cells ≤ (rmN 176).cells by decide), by rw [E.2.2.2]; exact (show 0 + (rmN 40).slots ≤ (rmN 176).slots by decide)⟩ (Nat.le_of_ble_eq_true rfl) (fun vv s2 hq => ?_) (fun ee s2 hq => ?_)
  rotate_left
  · obtain ⟨Is2, Fs2, e3, hv, hrs2, hps2⟩ := hq; cases hv
  obtain ⟨Is2, Fs2, e3, hv, hrs2, hps2⟩ := hq
  cases hv
  have Gs2 := fm_ts F Fs2 (by decide) (by decide)
  have b4 : (0 : Int) ≤ iI s2 20 ∧ iI s2 20 ≤ 4 := Is2.1 20
  show WS k 7 [(0, .ref (A 0))] [.int (Int32.ofInt e3)] (Wd A dT s2) 0 0
  exact w_iret X.1 q hRt rfl (ax_d X (show cdA 176 7 = some (.ireturn, 1, 0, 0, 0) from rfl)) (Nat.zero_le _) (Nat.zero_le _) ⟨_, rfl, Is2, Gs2, e3, rfl, hrs2, by first | exact hps2 | omega⟩
set_option maxRecDepth 4000 in
theorem cs_back2 (G : GX l s0 D tys a0 dT) (I : Bd s)  : CT l s0 D A dT 177 (rmN 177) [.ref (A 0)] s (fun o t => Bd t ∧ Fm [20] [21, 1022, 1023] s t ∧ ∃ e, o = .inl (some (.int (Int32.ofInt e))) ∧ rng e ∧ ((1 ≤ iI s 20 ∧ iI t 20 = iI s 20 - 1 ∧ e = iI t 20) ∨ (iI s 20 = 0 ∧ iI t 20 = 0 ∧ e = -1))) := by
  refine ct_ofX G (by decide) (Nat.le_of_ble_eq_true rfl) (fun k X E ET hRt hXt q => ?_)
  show WS k 0 [(0, .ref (A 0))] [] _ 0 0
  have F : Fm [20] [21, 1022, 1023] s s := fm_rf _ _ s
  have b1 : (0 : Int) ≤ iI s 20 ∧ iI s 20 ≤ 4 := I.1 20
  refine z_aload_n X (x := A 0) (show cdA 177 0 = some (.aload_n 0, 1, 0, 0, 0) from rfl) (List.Mem.head _) ?_
  refine s_getR X 0 (show cdA 177 1 = some (.getfield 35, 3, 11, 3, 0) from rfl) (by decide) rfl rfl ?_
  refine z_callV X 25 (rm := rmN 41) (As := []) (st := []) (show cdA 177 4 = some (.invokevirtual 380, 3, 41, 0, 0) from rfl) rfl (by decide) rfl (by rw [E.1, E.2.1, E.2.2.1]; exact c3_goBack_25 G I ) ⟨by rw [E.2.2.2]; exact (show (rmN 41).frames + 1 ≤ (rmN 177).frames by decide), by rw [E.2.2.2]; exact (show 8 + (mNL (miB 41) + 11) + (rmN 41).locals ≤ (rmN 177).locals by decide), by rw [E.2.2.2]; exact (show 0 + (rmN 41).cells ≤ (rmN 177).cells by decide), by rw [E.2.2.2]; exact (show 0 + (rmN 41).slots ≤ (rmN 177).slots by decide)⟩ (Nat.le_of_ble_eq_true rfl) (fun vv s2 hq => ?_) (fun ee s2 hq => ?_)
  rotate_left
  · obtain ⟨Is2, Fs2, e3, hv, hrs2, hps2⟩ := hq; cases hv
  obtain ⟨Is2, Fs2, e3, hv, hrs2, hps2⟩ := hq
  cases hv
  have Gs2 := fm_ts F Fs2 (by decide) (by decide)
  have b4 : (0 : Int) ≤ iI s2 20 ∧ iI s2 20 ≤ 4 := Is2.1 20
  show WS k 7 [(0, .ref (A 0))] [.int (Int32.ofInt e3)] (Wd A dT s2) 0 0
  exact w_iret X.1 q hRt rfl (ax_d X (show cdA 177 7 = some (.ireturn, 1, 0, 0, 0) from rfl)) (Nat.zero_le _) (Nat.zero_le _) ⟨_, rfl, Is2, Gs2, e3, rfl, hrs2, by first | exact hps2 | omega⟩
set_option maxRecDepth 4000 in
theorem k_mark2 (G : GX l s0 D tys a0 dT) (I : Bd s)  : CT l s0 D A dT 293 (rmN 293) [.ref (A 179)] s (fun o t => Bd t ∧ Fm [73, 98] [241, 242, 243, 244] s t ∧ ∃ e, o = .inl (some (.int (Int32.ofInt e))) ∧ rng e ∧ ((iI s 98 ≤ 3 ∧ iI t 98 = iI s 98 + 1 ∧ e = iI t 98) ∨ (iI s 98 = 4 ∧ iI t 98 = 4 ∧ e = -1))) := by
  refine ct_of G (by decide) (Nat.le_of_ble_eq_true rfl) (fun k X E hRt hXt q => ?_)
  show WS k 0 [(0, .ref (A 179))] [] _ 0 0
  have F : Fm [73, 98] [241, 242, 243, 244] s s := fm_rf _ _ s
  have b1 : (0 : Int) ≤ iI s 73 ∧ iI s 73 ≤ 3 := I.1 73
  have b2 : (0 : Int) ≤ iI s 98 ∧ iI s 98 ≤ 4 := I.1 98
  have L17 : ∀ (n : Nat) (t : PS) (c : Int), Bd t → Fm [73, 98] [241, 242, 243, 244] s t → (0 ≤ c ∧ c ≤ 128 ∧ iI t 98 ≤ 3 ∧ iI t 98 = iI s 98) → (128 - c : Int).toNat < n → (∀ (t' : PS) (c' : Int), Bd t' → Fm [73, 98] [241, 242, 243, 244] s t' → (0 ≤ c' ∧ c' ≤ 128 ∧ iI t' 98 ≤ 3 ∧ iI t' 98 = iI s 98) → WS k 47 [(0, .ref (A 179)), (1, .int (Int32.ofInt c'))] [] (Wd A dT t') 0 0) → WS k 17 [(0, .ref (A 179)), (1, .int (Int32.ofInt c))] [] (Wd A dT t) 0 0 := by
    intro n
    induction n with
    | zero =>
      intro t c I F hi hm kx
      exact absurd hm (Nat.not_lt_zero _)
    | succ n ih =>
      intro t c I F hi hm kx
      have b1001 : (0 : Int) ≤ iI t 73 ∧ iI t 73 ≤ 3 := I.1 73
      have b1002 : (0 : Int) ≤ iI t 98 ∧ iI t 98 ≤ 4 := I.1 98
      refine z_load_n X (x := c) (show cdA 293 17 = some (.iload_n 1, 1, 0, 0, 0) from rfl) (List.Mem.tail _ (List.Mem.head _)) ?_
      refine z_sipush X (show cdA 293 18 = some (.sipush 128, 3, 0, 0, 128) from rfl) ?_
      refine z_icmp_ge X (t := 47) (show cdA 293 21 = some (.if_icmp .ge 26, 3, 3, 0, 0) from rfl) (by decide) ⟨by first | exact oq_fa4e5087 hi.1 | omega, by first | exact oq_4ee82282 hi.2.1 | omega⟩ (by decide) (fun g1003 => ?_) (fun g1003 => ?_)
      ·
        refine WS_lv (lv := [(0, .ref (A 179)), (1, .int (Int32.ofInt c))]) (List.forall_mem_cons.mpr ⟨(List.Mem.head _), (List.forall_mem_cons.mpr ⟨(List.Mem.tail _ (List.Mem.head _)), (fun q h => absurd h List.not_mem_nil)⟩)⟩) ?_
        exact kx _ c I F (by first | exact ⟨hi.1, hi.2.1, hi.2.2.1, hi.2.2.2⟩ | omega)
      ·
        refine z_aload_n X (x := A 179) (show cdA 293 24 = some (.aload_n 0, 1, 0, 0, 0) from rfl) (List.Mem.head _) ?_
        refine s_getR X 179 (show cdA 293 25 = some (.getfield 113, 3, 12, 58, 0) from rfl) (by decide) rfl rfl ?_
        refine z_aload_n X (x := A 179) (show cdA 293 28 = some (.aload_n 0, 1, 0, 0, 0) from rfl) (List.Mem.head _) ?_
        refine z_getI X 179 (show cdA 293 29 = some (.getfield 468, 3, 12, 47, 0) from rfl) (by decide) rfl rfl ?_
        have b1004 : (0 : Int) ≤ iI t 98 ∧ iI t 98 ≤ 4 := I.1 98
        refine z_aald X rw_269 (show cdA 293 32 = some (.aaload, 1, 0, 0, 0) from rfl) (by first | exact b1004.1 | omega) (show (iI t 98) < 4 by first | exact oq_907d7be5 hi.2.2.1 | omega) (by decide) ?_
        refine z_load_n X (x := c) (show cdA 293 33 = some (.iload_n 1, 1, 0, 0, 0) from rfl) (List.Mem.tail _ (List.Mem.head _)) ?_
        refine z_aload_n X (x := A 179) (show cdA 293 34 = some (.aload_n 0, 1, 0, 0, 0) from rfl) (List.Mem.head _) ?_
        refine s_getR X 179 (show cdA 293 35 = some (.getfield 70, 3, 12, 35, 0) from rfl) (by decide) rfl rfl ?_
        refine z_load_n X (x := c) (show cdA 293 38 = some (.iload_n 1, 1, 0, 0, 0) from rfl) (List.Mem.tail _ (List.Mem.head _)) ?_
        refine z_ald X 256 (show cdA 293 39 = some (.iaload, 1, 0, 0, 0) from rfl) (by decide) rfl (by first | exact hi.1 | omega) (show c < 128 by first | exact g1003 | omega) (by decide) ?_
        have b1005 : ((-1) : Int) ≤ iC t 228 (c).toNat ∧ iC t 228 (c).toNat ≤ 7 := I.2 228 _ (show (c).toNat < 128 by first | exact oq_7d7b8d74 g1003 | omega)
        refine z_ast2 X rw_269 (show cdA 293 40 = some (.iastore, 1, 0, 0, 0) from rfl) (show ((iI t 98) : Int).toNat < 4 by first | exact oq_7e1be013 hi.2.2.1 | omega) (by first | exact hi.1 | omega) (show c < 128 by first | exact g1003 | omega) (by decide) ?_
        obtain ⟨s1006, hs1006⟩ : ∃ x0, x0 = uC t (241 + ((iI t 98) : Int).toNat) (c : Int).toNat (Int32.ofInt (iC t 228 (c).toNat)) := ⟨_, rfl⟩
        rw [← hs1006]
        have Is1006 : Bd s1006 := by rw [hs1006]; exact rw_st rw_269 I (show ((iI t 98) : Int).toNat < 4 by first | exact oq_7e1be013 hi.2.2.1 | omega) (show ((-1) : Int) ≤ (iC t 228 (c).toNat) ∧ (iC t 228 (c).toNat) ≤ 7 by first | exact ⟨b1005.1, b1005.2⟩ | omega) (rng_to _)
        have Fs1006 := fm_C (i := (c : Int).toNat) (x := Int32.ofInt (iC t 228 (c).toNat)) F ((show ∀ j, j < 4 → 241 + j ∈ _ by decide) ((iI t 98) : Int).toNat (by first | exact oq_7e1be013 hi.2.2.1 | omega))
        rw [← hs1006] at Fs1006
        have ws1006_73 : iI s1006 73 = iI t 73 := by rw [hs1006]; rfl
        have ws1006_98 : iI s1006 98 = iI t 98 := by rw [hs1006]; rfl
        refine z_inc X (x := c) (lv' := [(1, .int (Int32.ofInt (c + 1))), (0, .ref (A 179))]) (show cdA 293 41 = some (.iinc 1 1, 3, 0, 0, 0) from rfl) (by decide) (List.Mem.tail _ (List.Mem.head _)) (fun _ h => h) ?_
        refine z_goto X (t := 17) (show cdA 293 44 = some (.goto (-27), 3, 0, 0, 0) from rfl) (by decide) ?_
        refine WS_lv (lv := [(0, .ref (A 179)), (1, .int (Int32.ofInt (c + 1)))]) (List.forall_mem_cons.mpr ⟨(List.Mem.tail _ (List.Mem.head _)), (List.forall_mem_cons.mpr ⟨(List.Mem.head _), (fun q h => absurd h List.not_mem_nil)⟩)⟩) ?_
        exact ih _ (c + 1) Is1006 Fs1006 (by first | exact ⟨oq_54f49eb5 hi.1, oq_d2afb425 g1003, oq_6b149751 ws1006_98 hi.2.2.1, oq_1aa5be9e ws1006_98 hi.2.2.2⟩ | omega) (by first | exact qk_me hm (by decide) (oq_c268b7bd g1003) | omega) kx
  refine z_aload_n X (x := A 179) (show cdA 293 0 = some (.aload_n 0, 1, 0, 0, 0) from rfl) (List.Mem.head _) ?_
  refine z_const X (show cdA 293 1 = some (.iconst 0, 1, 0, 0, 0) from rfl) ?_
  refine s_putI X 179 (show cdA 293 2 = some (.putfield 172, 3, 12, 0, 0) from rfl) (by decide) rfl rfl (by decide) rfl rfl rfl ?_
  obtain ⟨s3, hs3⟩ : ∃ x0, x0 = uI s 73 (Int32.ofInt 0) := ⟨_, rfl⟩
  rw [← hs3]
  have Is3 : Bd s3 := by rw [hs3]; exact bd_I I (show (0 : Int) ≤ 0 ∧ 0 ≤ 3 by first | exact ⟨by decide, by decide⟩ | omega) (by decide)
  have Fs3 := fm_I (x := Int32.ofInt 0) F (show 73 ∈ _ by decide)
  rw [← hs3] at Fs3
  have vs3 : iI s3 73 = 0 := by rw [hs3]; exact iI_u (by decide)
  have ws3_98 : iI s3 98 = iI s 98 := by rw [hs3]; rfl
  refine z_aload_n X (x := A 179) (show cdA 293 5 = some (.aload_n 0, 1, 0, 0, 0) from rfl) (List.Mem.head _) ?_
  refine z_getI X 179 (show cdA 293 6 = some (.getfield 468, 3, 12, 47, 0) from rfl) (by decide) rfl rfl ?_
  have b4 : (0 : Int) ≤ iI s3 98 ∧ iI s3 98 ≤ 4 := Is3.1 98
  refine z_const X (show cdA 293 9 = some (.iconst 4, 1, 0, 0, 0) from rfl) ?_
  refine z_icmp_ne X (t := 15) (show cdA 293 10 = some (.if_icmp .ne 5, 3, 1, 0, 0) from rfl) (by decide) (rng_to _) (by decide) (fun g5 => ?_) (fun g5 => ?_)
  ·
    refine z_const X (show cdA 293 15 = some (.iconst 0, 1, 0, 0, 0) from rfl) ?_
    refine z_store_n X (lv' := [(1, .int (Int32.ofInt 0)), (0, .ref (A 179))]) (show cdA 293 16 = some (.istore_n 1, 1, 0, 0, 0) from rfl) (by decide) (fun _ h => h) ?_
    refine WS_lv (lv := [(0, .ref (A 179)), (1, .int (Int32.ofInt 0))]) (List.forall_mem_cons.mpr ⟨(List.Mem.tail _ (List.Mem.head _)), (List.forall_mem_cons.mpr ⟨(List.Mem.head _), (fun q h => absurd h List.not_mem_nil)⟩)⟩) ?_
    refine L17 ((128 - 0 : Int).toNat + 1) s3 0 Is3 Fs3 (by first | exact ⟨by decide, by decide, by first | (clear g5; omega) | omega, ws3_98⟩ | omega) (Nat.lt_succ_self _) ?_
    intro s6 x7 Is6 Fs6 hs6
    have b8 : (0 : Int) ≤ iI s6 73 ∧ iI s6 73 ≤ 3 := Is6.1 73
    have b9 : (0 : Int) ≤ iI s6 98 ∧ iI s6 98 ≤ 4 := Is6.1 98
    refine z_aload_n X (x := A 179) (show cdA 293 47 = some (.aload_n 0, 1, 0, 0, 0) from rfl) (List.Mem.head _) ?_
    refine w_dup X.1 (ax_d X (show cdA 293 48 = some (.dup, 1, 0, 0, 0) from rfl)) rfl ?_
    refine z_getI X 179 (show cdA 293 49 = some (.getfield 468, 3, 12, 47, 0) from rfl) (by decide) rfl rfl ?_
    have b10 : (0 : Int) ≤ iI s6 98 ∧ iI s6 98 ≤ 4 := Is6.1 98
    refine z_const X (show cdA 293 52 = some (.iconst 1, 1, 0, 0, 0) from rfl) ?_
    refine z_add X (show cdA 293 53 = some (.iadd, 1, 0, 0, 0) from rfl) ?_
    refine s_putI X 179 (show cdA 293 54 = some (.putfield 468, 3, 12, 47, 0) from rfl) (by decide) rfl rfl (by decide) rfl rfl rfl ?_
    obtain ⟨s11, hs11⟩ : ∃ x0, x0 = uI s6 98 (Int32.ofInt ((iI s6 98) + 1)) := ⟨_, rfl⟩
    rw [← hs11]
    have Is11 : Bd s11 := by rw [hs11]; exact bd_I Is6 (show (0 : Int) ≤ ((iI s6 98) + 1) ∧ ((iI s6 98) + 1) ≤ 4 by first | exact ⟨oq_54f49eb5 b10.1, oq_fb6340d3 hs6.2.2.1⟩ | omega) ⟨by first | exact oq_74de1e16 b10.1 | omega, by first | exact oq_45419e6e b10.2 | omega⟩
    have Fs11 := fm_I (x := Int32.ofInt ((iI s6 98) + 1)) Fs6 (show 98 ∈ _ by decide)
    rw [← hs11] at Fs11
    have vs11 : iI s11 98 = ((iI s6 98) + 1) := by rw [hs11]; exact iI_u ⟨by first | exact oq_74de1e16 b10.1 | omega, by first | exact oq_45419e6e b10.2 | omega⟩
    have ws11_73 : iI s11 73 = iI s6 73 := by rw [hs11]; rfl
    refine z_aload_n X (x := A 179) (show cdA 293 57 = some (.aload_n 0, 1, 0, 0, 0) from rfl) (List.Mem.head _) ?_
    refine z_getI X 179 (show cdA 293 58 = some (.getfield 468, 3, 12, 47, 0) from rfl) (by decide) rfl rfl ?_
    have b12 : (0 : Int) ≤ iI s11 98 ∧ iI s11 98 ≤ 4 := Is11.1 98
    exact w_iret X.1 q hRt rfl (ax_d X (show cdA 293 61 = some (.ireturn, 1, 0, 0, 0) from rfl)) (Nat.zero_le _) (Nat.zero_le _) ⟨_, rfl, Is11, Fs11, (iI s11 98), rfl, (rng_to _), by first | exact Or.inl (And.intro (oq_211582d6 hs6.2.2.2 hs6.2.2.1) (And.intro (oq_665cd23d vs11 hs6.2.2.2) (by decide))) | omega⟩
  ·
    refine z_const X (show cdA 293 13 = some (.iconst (-1), 1, 0, 0, 0) from rfl) ?_
    exact w_iret X.1 q hRt rfl (ax_d X (show cdA 293 14 = some (.ireturn, 1, 0, 0, 0) from rfl)) (Nat.zero_le _) (Nat.zero_le _) ⟨_, rfl, Is3, Fs3, (-1), rfl, (by decide), by first | exact Or.inr (And.intro (oq_84cd28e9 b2.2 ws3_98 g5) (And.intro (g5) (by decide))) | omega⟩
set_option maxRecDepth 4000 in
theorem k_back2 (G : GX l s0 D tys a0 dT) (I : Bd s)  : CT l s0 D A dT 294 (rmN 294) [.ref (A 179)] s (fun o t => Bd t ∧ Fm [73, 98] [228] s t ∧ ∃ e, o = .inl (some (.int (Int32.ofInt e))) ∧ rng e ∧ ((1 ≤ iI s 98 ∧ iI t 98 = iI s 98 - 1 ∧ e = iI t 98) ∨ (iI s 98 = 0 ∧ iI t 98 = 0 ∧ e = -1))) := by
  refine ct_of G (by decide) (Nat.le_of_ble_eq_true rfl) (fun k X E hRt hXt q => ?_)
  show WS k 0 [(0, .ref (A 179))] [] _ 0 0
  have F : Fm [73, 98] [228] s s := fm_rf _ _ s
  have b1 : (0 : Int) ≤ iI s 73 ∧ iI s 73 ≤ 3 := I.1 73
  have b2 : (0 : Int) ≤ iI s 98 ∧ iI s 98 ≤ 4 := I.1 98
  have L26 : ∀ (n : Nat) (t : PS) (c : Int), Bd t → Fm [73, 98] [228] s t → (0 ≤ c ∧ c ≤ 128 ∧ iI t 98 ≤ 3 ∧ 1 ≤ iI s 98 ∧ iI t 98 = iI s 98 - 1) → (128 - c : Int).toNat < n → (∀ (t' : PS) (c' : Int), Bd t' → Fm [73, 98] [228] s t' → (0 ≤ c' ∧ c' ≤ 128 ∧ iI t' 98 ≤ 3 ∧ 1 ≤ iI s 98 ∧ iI t' 98 = iI s 98 - 1) → WS k 56 [(0, .ref (A 179)), (1, .int (Int32.ofInt c'))] [] (Wd A dT t') 0 0) → WS k 26 [(0, .ref (A 179)), (1, .int (Int32.ofInt c))] [] (Wd A dT t) 0 0 := by
    intro n
    induction n with
    | zero =>
      intro t c I F hi hm kx
      exact absurd hm (Nat.not_lt_zero _)
    | succ n ih =>
      intro t c I F hi hm kx
      have b1001 : (0 : Int) ≤ iI t 73 ∧ iI t 73 ≤ 3 := I.1 73
      have b1002 : (0 : Int) ≤ iI t 98 ∧ iI t 98 ≤ 4 := I.1 98
      refine z_load_n X (x := c) (show cdA 294 26 = some (.iload_n 1, 1, 0, 0, 0) from rfl) (List.Mem.tail _ (List.Mem.head _)) ?_
      refine z_sipush X (show cdA 294 27 = some (.sipush 128, 3, 0, 0, 128) from rfl) ?_
      refine z_icmp_ge X (t := 56) (show cdA 294 30 = some (.if_icmp .ge 26, 3, 3, 0, 0) from rfl) (by decide) ⟨by first | exact oq_fa4e5087 hi.1 | omega, by first | exact oq_4ee82282 hi.2.1 | omega⟩ (by decide) (fun g1003 => ?_) (fun g1003 => ?_)
      ·
        refine WS_lv (lv := [(0, .ref (A 179)), (1, .int (Int32.ofInt c))]) (List.forall_mem_cons.mpr ⟨(List.Mem.head _), (List.forall_mem_cons.mpr ⟨(List.Mem.tail _ (List.Mem.head _)), (fun q h => absurd h List.not_mem_nil)⟩)⟩) ?_
        exact kx _ c I F (by first | exact ⟨hi.1, hi.2.1, hi.2.2.1, hi.2.2.2.1, hi.2.2.2.2⟩ | omega)
      ·
        refine z_aload_n X (x := A 179) (show cdA 294 33 = some (.aload_n 0, 1, 0, 0, 0) from rfl) (List.Mem.head _) ?_
        refine s_getR X 179 (show cdA 294 34 = some (.getfield 70, 3, 12, 35, 0) from rfl) (by decide) rfl rfl ?_
        refine z_load_n X (x := c) (show cdA 294 37 = some (.iload_n 1, 1, 0, 0, 0) from rfl) (List.Mem.tail _ (List.Mem.head _)) ?_
        refine z_aload_n X (x := A 179) (show cdA 294 38 = some (.aload_n 0, 1, 0, 0, 0) from rfl) (List.Mem.head _) ?_
        refine s_getR X 179 (show cdA 294 39 = some (.getfield 113, 3, 12, 58, 0) from rfl) (by decide) rfl rfl ?_
        refine z_aload_n X (x := A 179) (show cdA 294 42 = some (.aload_n 0, 1, 0, 0, 0) from rfl) (List.Mem.head _) ?_
        refine z_getI X 179 (show cdA 294 43 = some (.getfield 468, 3, 12, 47, 0) from rfl) (by decide) rfl rfl ?_
        have b1004 : (0 : Int) ≤ iI t 98 ∧ iI t 98 ≤ 4 := I.1 98
        refine z_aald X rw_269 (show cdA 294 46 = some (.aaload, 1, 0, 0, 0) from rfl) (by first | exact b1004.1 | omega) (show (iI t 98) < 4 by first | exact oq_907d7be5 hi.2.2.1 | omega) (by decide) ?_
        refine z_load_n X (x := c) (show cdA 294 47 = some (.iload_n 1, 1, 0, 0, 0) from rfl) (List.Mem.tail _ (List.Mem.head _)) ?_
        refine z_ald2 X rw_269 (show cdA 294 48 = some (.iaload, 1, 0, 0, 0) from rfl) (show ((iI t 98) : Int).toNat < 4 by first | exact oq_7e1be013 hi.2.2.1 | omega) (by first | exact hi.1 | omega) (show c < 128 by first | exact g1003 | omega) (by decide) ?_
        have b1005 : ((-1) : Int) ≤ (iC t (241 + ((iI t 98) : Int).toNat) (c : Int).toNat) ∧ (iC t (241 + ((iI t 98) : Int).toNat) (c : Int).toNat) ≤ 7 := rw_bd rw_269 I (show ((iI t 98) : Int).toNat < 4 by first | exact oq_7e1be013 hi.2.2.1 | omega) (show (c : Int).toNat < 128 by first | exact oq_7d7b8d74 g1003 | omega)
        refine z_ast X 256 (show cdA 294 49 = some (.iastore, 1, 0, 0, 0) from rfl) (by decide) rfl (by first | exact hi.1 | omega) (show c < 128 by first | exact g1003 | omega) (by decide) ?_
        obtain ⟨s1006, hs1006⟩ : ∃ x0, x0 = uC t 228 (c).toNat (Int32.ofInt (iC t (241 + ((iI t 98) : Int).toNat) (c : Int).toNat)) := ⟨_, rfl⟩
        rw [← hs1006]
        have Is1006 : Bd s1006 := by rw [hs1006]; exact bd_C I (show ((-1) : Int) ≤ (iC t (241 + ((iI t 98) : Int).toNat) (c : Int).toNat) ∧ (iC t (241 + ((iI t 98) : Int).toNat) (c : Int).toNat) ≤ 7 by first | exact ⟨b1005.1, b1005.2⟩ | omega) (rng_to _)
        have Fs1006 := fm_C (i := (c).toNat) (x := Int32.ofInt (iC t (241 + ((iI t 98) : Int).toNat) (c : Int).toNat)) F (show 228 ∈ _ by decide)
        rw [← hs1006] at Fs1006
        have ws1006_73 : iI s1006 73 = iI t 73 := by rw [hs1006]; rfl
        have ws1006_98 : iI s1006 98 = iI t 98 := by rw [hs1006]; rfl
        refine z_inc X (x := c) (lv' := [(1, .int (Int32.ofInt (c + 1))), (0, .ref (A 179))]) (show cdA 294 50 = some (.iinc 1 1, 3, 0, 0, 0) from rfl) (by decide) (List.Mem.tail _ (List.Mem.head _)) (fun _ h => h) ?_
        refine z_goto X (t := 26) (show cdA 294 53 = some (.goto (-27), 3, 0, 0, 0) from rfl) (by decide) ?_
        refine WS_lv (lv := [(0, .ref (A 179)), (1, .int (Int32.ofInt (c + 1)))]) (List.forall_mem_cons.mpr ⟨(List.Mem.tail _ (List.Mem.head _)), (List.forall_mem_cons.mpr ⟨(List.Mem.head _), (fun q h => absurd h List.not_mem_nil)⟩)⟩) ?_
        exact ih _ (c + 1) Is1006 Fs1006 (by first | exact ⟨oq_54f49eb5 hi.1, oq_d2afb425 g1003, oq_6b149751 ws1006_98 hi.2.2.1, hi.2.2.2.1, oq_a42238f2 ws1006_98 hi.2.2.2.2⟩ | omega) (by first | exact qk_me hm (by decide) (oq_c268b7bd g1003) | omega) kx
  refine z_aload_n X (x := A 179) (show cdA 294 0 = some (.aload_n 0, 1, 0, 0, 0) from rfl) (List.Mem.head _) ?_
  refine z_const X (show cdA 294 1 = some (.iconst 0, 1, 0, 0, 0) from rfl) ?_
  refine s_putI X 179 (show cdA 294 2 = some (.putfield 172, 3, 12, 0, 0) from rfl) (by decide) rfl rfl (by decide) rfl rfl rfl ?_
  obtain ⟨s3, hs3⟩ : ∃ x0, x0 = uI s 73 (Int32.ofInt 0) := ⟨_, rfl⟩
  rw [← hs3]
  have Is3 : Bd s3 := by rw [hs3]; exact bd_I I (show (0 : Int) ≤ 0 ∧ 0 ≤ 3 by first | exact ⟨by decide, by decide⟩ | omega) (by decide)
  have Fs3 := fm_I (x := Int32.ofInt 0) F (show 73 ∈ _ by decide)
  rw [← hs3] at Fs3
  have vs3 : iI s3 73 = 0 := by rw [hs3]; exact iI_u (by decide)
  have ws3_98 : iI s3 98 = iI s 98 := by rw [hs3]; rfl
  refine z_aload_n X (x := A 179) (show cdA 294 5 = some (.aload_n 0, 1, 0, 0, 0) from rfl) (List.Mem.head _) ?_
  refine z_getI X 179 (show cdA 294 6 = some (.getfield 468, 3, 12, 47, 0) from rfl) (by decide) rfl rfl ?_
  have b4 : (0 : Int) ≤ iI s3 98 ∧ iI s3 98 ≤ 4 := Is3.1 98
  refine z_if_ne X (t := 14) (show cdA 294 9 = some (.ifCond .ne 5, 3, 1, 0, 0) from rfl) (by decide) (rng_to _) (fun g5 => ?_) (fun g5 => ?_)
  ·
    refine z_aload_n X (x := A 179) (show cdA 294 14 = some (.aload_n 0, 1, 0, 0, 0) from rfl) (List.Mem.head _) ?_
    refine w_dup X.1 (ax_d X (show cdA 294 15 = some (.dup, 1, 0, 0, 0) from rfl)) rfl ?_
    refine z_getI X 179 (show cdA 294 16 = some (.getfield 468, 3, 12, 47, 0) from rfl) (by decide) rfl rfl ?_
    have b6 : (0 : Int) ≤ iI s3 98 ∧ iI s3 98 ≤ 4 := Is3.1 98
    refine z_const X (show cdA 294 19 = some (.iconst 1, 1, 0, 0, 0) from rfl) ?_
    refine z_sub X (show cdA 294 20 = some (.isub, 1, 0, 0, 0) from rfl) ?_
    refine s_putI X 179 (show cdA 294 21 = some (.putfield 468, 3, 12, 47, 0) from rfl) (by decide) rfl rfl (by decide) rfl rfl rfl ?_
    obtain ⟨s7, hs7⟩ : ∃ x0, x0 = uI s3 98 (Int32.ofInt ((iI s3 98) - 1)) := ⟨_, rfl⟩
    rw [← hs7]
    have Is7 : Bd s7 := by rw [hs7]; exact bd_I Is3 (show (0 : Int) ≤ ((iI s3 98) - 1) ∧ ((iI s3 98) - 1) ≤ 4 by first | exact ⟨by first | (clear g5; omega) | omega, oq_f3f8f749 b6.2⟩ | omega) ⟨by first | exact oq_c1e961c7 b6.1 | omega, by first | exact oq_dc10bb6e b6.2 | omega⟩
    have Fs7 := fm_I (x := Int32.ofInt ((iI s3 98) - 1)) Fs3 (show 98 ∈ _ by decide)
    rw [← hs7] at Fs7
    have vs7 : iI s7 98 = ((iI s3 98) - 1) := by rw [hs7]; exact iI_u ⟨by first | exact oq_c1e961c7 b6.1 | omega, by first | exact oq_dc10bb6e b6.2 | omega⟩
    have ws7_73 : iI s7 73 = iI s3 73 := by rw [hs7]; rfl
    refine z_const X (show cdA 294 24 = some (.iconst 0, 1, 0, 0, 0) from rfl) ?_
    refine z_store_n X (lv' := [(1, .int (Int32.ofInt 0)), (0, .ref (A 179))]) (show cdA 294 25 = some (.istore_n 1, 1, 0, 0, 0) from rfl) (by decide) (fun _ h => h) ?_
    refine WS_lv (lv := [(0, .ref (A 179)), (1, .int (Int32.ofInt 0))]) (List.forall_mem_cons.mpr ⟨(List.Mem.tail _ (List.Mem.head _)), (List.forall_mem_cons.mpr ⟨(List.Mem.head _), (fun q h => absurd h List.not_mem_nil)⟩)⟩) ?_
    refine L26 ((128 - 0 : Int).toNat + 1) s7 0 Is7 Fs7 (by first | exact ⟨by decide, by decide, oq_652a8e73 vs7 b6.2, by first | (clear g5; omega) | omega, oq_fb5f44d5 vs7 ws3_98⟩ | omega) (Nat.lt_succ_self _) ?_
    intro s8 x9 Is8 Fs8 hs8
    have b10 : (0 : Int) ≤ iI s8 73 ∧ iI s8 73 ≤ 3 := Is8.1 73
    have b11 : (0 : Int) ≤ iI s8 98 ∧ iI s8 98 ≤ 4 := Is8.1 98
    refine z_aload_n X (x := A 179) (show cdA 294 56 = some (.aload_n 0, 1, 0, 0, 0) from rfl) (List.Mem.head _) ?_
    refine z_getI X 179 (show cdA 294 57 = some (.getfield 468, 3, 12, 47, 0) from rfl) (by decide) rfl rfl ?_
    have b12 : (0 : Int) ≤ iI s8 98 ∧ iI s8 98 ≤ 4 := Is8.1 98
    exact w_iret X.1 q hRt rfl (ax_d X (show cdA 294 60 = some (.ireturn, 1, 0, 0, 0) from rfl)) (Nat.zero_le _) (Nat.zero_le _) ⟨_, rfl, Is8, Fs8, (iI s8 98), rfl, (rng_to _), by first | exact Or.inl (And.intro (hs8.2.2.2.1) (And.intro (hs8.2.2.2.2) (by decide))) | omega⟩
  ·
    refine z_const X (show cdA 294 12 = some (.iconst (-1), 1, 0, 0, 0) from rfl) ?_
    exact w_iret X.1 q hRt rfl (ax_d X (show cdA 294 13 = some (.ireturn, 1, 0, 0, 0) from rfl)) (Nat.zero_le _) (Nat.zero_le _) ⟨_, rfl, Is3, Fs3, (-1), rfl, (by decide), by first | exact Or.inr (And.intro (oq_fbab4971 ws3_98 g5 b2.1) (And.intro (g5) (by decide))) | omega⟩
end M87b
