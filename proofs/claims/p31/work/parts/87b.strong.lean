/-! Contracts that say what is answered -/
/-- the law's long -/
def iO (t : PS) : Int := (gD t 460 0).toInt
theorem iO_u {s : PS} {e : Int} (h : rng e) : iO (uD s 460 (0 : Int).toNat (Int32.ofInt e).toInt64) = e := by
  show ((if 460 = 460 then vp_updL (s.2.2.2.1 460) (0 : Int).toNat (Int32.ofInt e).toInt64 else s.2.2.2.1 460) 0).toInt = e
  rw [if_pos rfl]
  show ((if 0 = (0 : Int).toNat then (Int32.ofInt e).toInt64 else s.2.2.2.1 460 0)).toInt = e
  rw [if_pos (by decide), Int32.toInt_toInt64, zi h]
theorem fm_o {L M : List Nat} {s t : PS} (F : Fm L M s t) (h : 460 + 1000 ∉ M) : iO t = iO s := congrArg Int64.toInt (fm_dd F h)
/-- an array's cells are as they were; but for one -/
def SAM (a : Nat) (s t : PS) : Prop := ∀ j, iC t a j = iC s a j
def UPD (a : Nat) (i x : Int) (s t : PS) : Prop := iC t a i.toNat = x ∧ ∀ j, j ≠ i.toNat → iC t a j = iC s a j
theorem sam_rf {a : Nat} {s : PS} : SAM a s s := fun _ => rfl
theorem sam_fm {L M : List Nat} {a : Nat} {s t : PS} (F : Fm L M s t) (h : a ∉ M) : SAM a s t := fun _ => fm_c F h
theorem sam_ts {a : Nat} {s t u : PS} (h : SAM a s t) (g : SAM a t u) : SAM a s u := fun j => (g j).trans (h j)
theorem upd_ts {a : Nat} {i x : Int} {s t u : PS} (h : UPD a i x s t) (g : SAM a t u) : UPD a i x s u := ⟨(g _).trans h.1, fun j hj => (g j).trans (h.2 j hj)⟩
theorem sam_C {a b i : Nat} {x : Int32} {s t : PS} (hb : a ≠ b) (h : SAM a s t) : SAM a s (uC t b i x) := fun j => (iC_a hb).trans (h j)
theorem upd_C {a b i : Nat} {x : Int32} {y z : Int} {s t : PS} (hb : a ≠ b) (h : UPD a y z s t) : UPD a y z s (uC t b i x) := ⟨(iC_a hb).trans h.1, fun j hj => (iC_a hb).trans (h.2 j hj)⟩
theorem upd_put {a : Nat} {i x : Int} {s t : PS} (h : SAM a s t) (hx : rng x) : UPD a i x s (uC t a i.toNat (Int32.ofInt x)) := ⟨iC_u hx, fun j hj => (iC_n hj).trans (h j)⟩
/-- two arrays are the same, n cells of them -/
def AEQ (a b n : Nat) (s : PS) : Prop := ∀ j, j < n → iC s a j = iC s b j
theorem aeq_sam {a b n : Nat} {s t : PS} (h : AEQ a b n s) (h1 : SAM a s t) (h2 : SAM b s t) : AEQ a b n t := fun j hj => by rw [h1, h2]; exact h j hj
theorem aeq_upd {a b n : Nat} {i x : Int} {s t u : PS} (h : AEQ a b n s) (h1 : UPD a i x s t) (h2 : SAM b s t) (h3 : UPD b i x t u) (h4 : SAM a t u) : AEQ a b n u := fun j hj => by
  by_cases e : j = i.toNat
  · rw [e, h3.1, h4, h1.1]
  · rw [h4, h1.2 j e, h3.2 j e, h2]; exact h j hj
/-- x is among the first n cells; it is not -/
def HAS (a : Nat) (n x : Int) (s : PS) : Prop := ∃ j : Nat, (j : Int) < n ∧ iC s a j = x
def NHS (a : Nat) (n x : Int) (s : PS) : Prop := ∀ j : Nat, (j : Int) < n → iC s a j ≠ x
theorem nhs_0 {a : Nat} {x : Int} {s : PS} : NHS a 0 x s := fun j hj => by omega
theorem nhs_up {a : Nat} {c x : Int} {s : PS} (h : NHS a c x s) (h0 : 0 ≤ c) (h1 : iC s a c.toNat ≠ x) : NHS a (c + 1) x s := fun j hj => by
  by_cases e : j = c.toNat
  · rw [e]; exact h1
  · exact h j (by omega)
theorem nhs_le {a : Nat} {c n x : Int} {s : PS} (h : NHS a c x s) (h0 : n ≤ c) : NHS a n x s := fun j hj => h j (by omega)
theorem hs_of {a : Nat} {n x : Int} {s : PS} (c : Int) (h0 : 0 ≤ c) (h1 : c < n) (h2 : iC s a c.toNat = x) : HAS a n x s := ⟨c.toNat, by omega, h2⟩
theorem upd_ix {a : Nat} {i j x : Int} {s t : PS} (h : UPD a i x s t) (e : i = j) : UPD a j x s t := e ▸ h
/-- the first cells of two arrays are the same, as many as the symbol q says -/
def REQ (a b q : Nat) (s : PS) : Prop := ∀ j : Nat, (j : Int) < iI s q → iC s a j = iC s b j
theorem req_0 {a b q : Nat} {s : PS} (h : iI s q = 0) : REQ a b q s := fun j hj => by omega
theorem req_sam {a b q : Nat} {s t : PS} (h : REQ a b q s) (h1 : SAM a s t) (h2 : SAM b s t) (e : iI t q = iI s q) : REQ a b q t := fun j hj => by rw [h1, h2]; exact h j (by omega)
theorem req_upd {a b q : Nat} {n m x : Int} {s t u : PS} (h : REQ a b q s) (h1 : UPD a n x s t) (h2 : SAM b s t) (h3 : UPD b m x t u) (h4 : SAM a t u) (e1 : n = iI s q) (e2 : m = n) (e3 : iI u q = iI s q + 1) (h0 : 0 ≤ n) : REQ a b q u := fun j hj => by
  subst e2
  by_cases e : j = m.toNat
  · rw [e, h3.1, h4, h1.1]
  · rw [h4, h1.2 j e, h3.2 j e, h2]; exact h j (by omega)
theorem req_no {a b q : Nat} {n m x : Int} {s t : PS} (h : REQ a b q s) (hb : SAM b s t) (h1 : HAS a n x s) (h2 : NHS b m x t) (e1 : n = iI s q) (e2 : m = n) : False := by
  obtain ⟨j, h3, h4⟩ := h1
  exact h2 j (by omega) (by rw [hb, ← h j (by omega)]; exact h4)
theorem req_no2 {a b q : Nat} {n m x : Int} {s t : PS} (h : REQ a b q s) (hb : SAM b s t) (h1 : NHS a n x s) (h2 : HAS b m x t) (e1 : n = iI s q) (e2 : m = n) : False := by
  obtain ⟨j, h3, h4⟩ := h2
  exact h1 j (by omega) (by rw [h j (by omega), ← hb]; exact h4)
theorem aeq_at {a b n : Nat} {i : Int} {s t : PS} (h : AEQ a b n s) (h2 : SAM b s t) (hi : i.toNat < n) : iC s a i.toNat = iC t b i.toNat := by rw [h2]; exact h _ hi
section M87b
variable {l : Launch} {s0 : State} {D : va_G} {tys : List (ClassId × FieldType)} {a0 : Array Value} {A : Nat → Nat} {dT : Nat → ClassId} {s : PS}
set_option maxRecDepth 4000 in
theorem k_in2 (G : GX l s0 D tys a0 dT) (I : Bd s) {x y z : Int} (p0 : rng x) (p1 : rng y) (p2 : rng z) : CT l s0 D A dT 188 (rmN 188) [.int (Int32.ofInt x), .int (Int32.ofInt y), .int (Int32.ofInt z)] s (fun o t => s = t ∧ ∃ e, o = .inl (some (.int (Int32.ofInt e))) ∧ rng e ∧ ((e = 1 ∧ y ≤ x ∧ x ≤ z) ∨ (e = 0 ∧ (x < y ∨ z < x)))) := by
  refine ct_of G (by decide) (Nat.le_of_ble_eq_true rfl) (fun k X E hRt hXt q => ?_)
  show WS k 0 [(0, .int (Int32.ofInt x)), (1, .int (Int32.ofInt y)), (2, .int (Int32.ofInt z))] [] _ 0 0
  have F : Fm [] [] s s := fm_rf _ _ s
  refine z_load_n X (x := x) (show cdA 188 0 = some (.iload_n 0, 1, 0, 0, 0) from rfl) (List.Mem.head _) ?_
  refine z_load_n X (x := y) (show cdA 188 1 = some (.iload_n 1, 1, 0, 0, 0) from rfl) (List.Mem.tail _ (List.Mem.head _)) ?_
  have N1 : ∀ e2 : Int, (((x < y) ∧ e2 = 0) ∨ ((y ≤ x) ∧ (z < x) ∧ e2 = 0) ∨ ((y ≤ x) ∧ (x ≤ z) ∧ e2 = 1)) → WS k 15 [(0, .int (Int32.ofInt x)), (1, .int (Int32.ofInt y)), (2, .int (Int32.ofInt z))] [.int (Int32.ofInt e2)] (Wd A dT s) 0 0 := by
    intro e2 he2
    have re2 : 0 ≤ e2 ∧ e2 ≤ 1 := by omega
    exact w_iret X.1 q hRt (nar_ret (by omega)) (ax_d X (show cdA 188 15 = some (.ireturn, 1, 0, 0, 0) from rfl)) (Nat.zero_le _) (Nat.zero_le _) ⟨_, rfl, rfl, e2, rfl, ⟨by omega, by omega⟩, by omega⟩
  refine z_icmp_lt X (t := 14) (show cdA 188 2 = some (.if_icmp .lt 12, 3, 2, 0, 0) from rfl) (by decide) ⟨by omega, by omega⟩ ⟨by omega, by omega⟩ (fun g3 => ?_) (fun g3 => ?_)
  ·
    refine z_const X (show cdA 188 14 = some (.iconst 0, 1, 0, 0, 0) from rfl) ?_
    exact N1 _ (Or.inl ⟨g3, rfl⟩)
  ·
    refine z_load_n X (x := x) (show cdA 188 5 = some (.iload_n 0, 1, 0, 0, 0) from rfl) (List.Mem.head _) ?_
    refine z_load_n X (x := z) (show cdA 188 6 = some (.iload_n 2, 1, 0, 0, 0) from rfl) (List.Mem.tail _ (List.Mem.tail _ (List.Mem.head _))) ?_
    refine z_icmp_gt X (t := 14) (show cdA 188 7 = some (.if_icmp .gt 7, 3, 4, 0, 0) from rfl) (by decide) ⟨by omega, by omega⟩ ⟨by omega, by omega⟩ (fun g4 => ?_) (fun g4 => ?_)
    ·
      refine z_const X (show cdA 188 14 = some (.iconst 0, 1, 0, 0, 0) from rfl) ?_
      exact N1 _ (Or.inr (Or.inl ⟨g3, g4, rfl⟩))
    ·
      refine z_const X (show cdA 188 10 = some (.iconst 1, 1, 0, 0, 0) from rfl) ?_
      refine z_goto X (t := 15) (show cdA 188 11 = some (.goto 4, 3, 0, 0, 0) from rfl) (by decide) ?_
      exact N1 _ (Or.inr (Or.inr (⟨g3, g4, rfl⟩)))
set_option maxRecDepth 4000 in
theorem k_bad2 (G : GX l s0 D tys a0 dT) (I : Bd s) {x y : Int} (p0 : x = 0 ∨ x = 1) (p1 : 1 ≤ y ∧ y ≤ 3) : CT l s0 D A dT 187 (rmN 187) [.ref (A 179), .int (Int32.ofInt x), .int (Int32.ofInt y)] s (fun o t => Bd t ∧ Fm [73] [] s t ∧ ∃ e, o = .inl (some (.int (Int32.ofInt e))) ∧ rng e ∧ (((x = 1 ∧ iI s 73 = 0 ∧ iI t 73 = y ∧ e = 1) ∨ ((x = 0 ∨ iI s 73 ≠ 0) ∧ iI t 73 = iI s 73 ∧ ((e = 0 ∧ iI s 73 = 0) ∨ (e = 1 ∧ iI s 73 ≠ 0)))))) := by
  refine ct_of G (by decide) (Nat.le_of_ble_eq_true rfl) (fun k X E hRt hXt q => ?_)
  show WS k 0 [(0, .ref (A 179)), (1, .int (Int32.ofInt x)), (2, .int (Int32.ofInt y))] [] _ 0 0
  have F : Fm [73] [] s s := fm_rf _ _ s
  have b1 : (0 : Int) ≤ iI s 73 ∧ iI s 73 ≤ 3 := I.1 73
  refine z_load_n X (x := x) (show cdA 187 0 = some (.iload_n 1, 1, 0, 0, 0) from rfl) (List.Mem.tail _ (List.Mem.head _)) ?_
  refine z_if_eq X (t := 16) (show cdA 187 1 = some (.ifCond .eq 15, 3, 0, 0, 0) from rfl) (by decide) ⟨by omega, by omega⟩ (fun g2 => ?_) (fun g2 => ?_)
  ·
    refine z_aload_n X (x := A 179) (show cdA 187 16 = some (.aload_n 0, 1, 0, 0, 0) from rfl) (List.Mem.head _) ?_
    refine z_getI X 179 (show cdA 187 17 = some (.getfield 172, 3, 12, 0, 0) from rfl) (by decide) rfl rfl ?_
    have b3 : (0 : Int) ≤ iI s 73 ∧ iI s 73 ≤ 3 := I.1 73
    have N4 : ∀ e5 : Int, ((((iI s 73) = 0) ∧ e5 = 0) ∨ (((iI s 73) ≠ 0) ∧ e5 = 1)) → WS k 28 [(0, .ref (A 179)), (1, .int (Int32.ofInt x)), (2, .int (Int32.ofInt y))] [.int (Int32.ofInt e5)] (Wd A dT s) 0 0 := by
      intro e5 he5
      have re5 : 0 ≤ e5 ∧ e5 ≤ 1 := by omega
      exact w_iret X.1 q hRt (nar_ret (by omega)) (ax_d X (show cdA 187 28 = some (.ireturn, 1, 0, 0, 0) from rfl)) (Nat.zero_le _) (Nat.zero_le _) ⟨_, rfl, I, F, e5, rfl, ⟨by omega, by omega⟩, by omega⟩
    refine z_if_eq X (t := 27) (show cdA 187 20 = some (.ifCond .eq 7, 3, 0, 0, 0) from rfl) (by decide) ⟨by omega, by omega⟩ (fun g6 => ?_) (fun g6 => ?_)
    ·
      refine z_const X (show cdA 187 27 = some (.iconst 0, 1, 0, 0, 0) from rfl) ?_
      exact N4 _ (Or.inl ⟨g6, rfl⟩)
    ·
      refine z_const X (show cdA 187 23 = some (.iconst 1, 1, 0, 0, 0) from rfl) ?_
      refine z_goto X (t := 28) (show cdA 187 24 = some (.goto 4, 3, 0, 0, 0) from rfl) (by decide) ?_
      exact N4 _ (Or.inr (⟨g6, rfl⟩))
  ·
    refine z_aload_n X (x := A 179) (show cdA 187 4 = some (.aload_n 0, 1, 0, 0, 0) from rfl) (List.Mem.head _) ?_
    refine z_getI X 179 (show cdA 187 5 = some (.getfield 172, 3, 12, 0, 0) from rfl) (by decide) rfl rfl ?_
    have b7 : (0 : Int) ≤ iI s 73 ∧ iI s 73 ≤ 3 := I.1 73
    refine z_if_ne X (t := 16) (show cdA 187 8 = some (.ifCond .ne 8, 3, 1, 0, 0) from rfl) (by decide) ⟨by omega, by omega⟩ (fun g8 => ?_) (fun g8 => ?_)
    ·
      refine z_aload_n X (x := A 179) (show cdA 187 16 = some (.aload_n 0, 1, 0, 0, 0) from rfl) (List.Mem.head _) ?_
      refine z_getI X 179 (show cdA 187 17 = some (.getfield 172, 3, 12, 0, 0) from rfl) (by decide) rfl rfl ?_
      have b9 : (0 : Int) ≤ iI s 73 ∧ iI s 73 ≤ 3 := I.1 73
      have N10 : ∀ e11 : Int, ((((iI s 73) = 0) ∧ e11 = 0) ∨ (((iI s 73) ≠ 0) ∧ e11 = 1)) → WS k 28 [(0, .ref (A 179)), (1, .int (Int32.ofInt x)), (2, .int (Int32.ofInt y))] [.int (Int32.ofInt e11)] (Wd A dT s) 0 0 := by
        intro e11 he11
        have re11 : 0 ≤ e11 ∧ e11 ≤ 1 := by omega
        exact w_iret X.1 q hRt (nar_ret (by omega)) (ax_d X (show cdA 187 28 = some (.ireturn, 1, 0, 0, 0) from rfl)) (Nat.zero_le _) (Nat.zero_le _) ⟨_, rfl, I, F, e11, rfl, ⟨by omega, by omega⟩, by omega⟩
      refine z_if_eq X (t := 27) (show cdA 187 20 = some (.ifCond .eq 7, 3, 0, 0, 0) from rfl) (by decide) ⟨by omega, by omega⟩ (fun g12 => ?_) (fun g12 => ?_)
      ·
        refine z_const X (show cdA 187 27 = some (.iconst 0, 1, 0, 0, 0) from rfl) ?_
        exact N10 _ (Or.inl ⟨g12, rfl⟩)
      ·
        refine z_const X (show cdA 187 23 = some (.iconst 1, 1, 0, 0, 0) from rfl) ?_
        refine z_goto X (t := 28) (show cdA 187 24 = some (.goto 4, 3, 0, 0, 0) from rfl) (by decide) ?_
        exact N10 _ (Or.inr (⟨g12, rfl⟩))
    ·
      refine z_aload_n X (x := A 179) (show cdA 187 11 = some (.aload_n 0, 1, 0, 0, 0) from rfl) (List.Mem.head _) ?_
      refine z_load_n X (x := y) (show cdA 187 12 = some (.iload_n 2, 1, 0, 0, 0) from rfl) (List.Mem.tail _ (List.Mem.tail _ (List.Mem.head _))) ?_
      refine s_putI X 179 (show cdA 187 13 = some (.putfield 172, 3, 12, 0, 0) from rfl) (by decide) rfl rfl (by decide) rfl rfl rfl ?_
      obtain ⟨s13, hs13⟩ : ∃ x0, x0 = uI s 73 (Int32.ofInt y) := ⟨_, rfl⟩
      rw [← hs13]
      have Is13 : Bd s13 := by rw [hs13]; exact bd_I I (show (0 : Int) ≤ y ∧ y ≤ 3 by omega) ⟨by omega, by omega⟩
      have Fs13 := fm_I (x := Int32.ofInt y) F (show 73 ∈ _ by decide)
      rw [← hs13] at Fs13
      have vs13 : iI s13 73 = y := by rw [hs13]; exact iI_u ⟨by omega, by omega⟩
      have wos13 : iO s13 = iO s := by rw [hs13]; rfl
      refine z_aload_n X (x := A 179) (show cdA 187 16 = some (.aload_n 0, 1, 0, 0, 0) from rfl) (List.Mem.head _) ?_
      refine z_getI X 179 (show cdA 187 17 = some (.getfield 172, 3, 12, 0, 0) from rfl) (by decide) rfl rfl ?_
      have b14 : (0 : Int) ≤ iI s13 73 ∧ iI s13 73 ≤ 3 := Is13.1 73
      have N15 : ∀ e16 : Int, ((((iI s13 73) = 0) ∧ e16 = 0) ∨ (((iI s13 73) ≠ 0) ∧ e16 = 1)) → WS k 28 [(0, .ref (A 179)), (1, .int (Int32.ofInt x)), (2, .int (Int32.ofInt y))] [.int (Int32.ofInt e16)] (Wd A dT s13) 0 0 := by
        intro e16 he16
        have re16 : 0 ≤ e16 ∧ e16 ≤ 1 := by omega
        exact w_iret X.1 q hRt (nar_ret (by omega)) (ax_d X (show cdA 187 28 = some (.ireturn, 1, 0, 0, 0) from rfl)) (Nat.zero_le _) (Nat.zero_le _) ⟨_, rfl, Is13, Fs13, e16, rfl, ⟨by omega, by omega⟩, by omega⟩
      refine z_if_eq X (t := 27) (show cdA 187 20 = some (.ifCond .eq 7, 3, 0, 0, 0) from rfl) (by decide) ⟨by omega, by omega⟩ (fun g17 => ?_) (fun g17 => ?_)
      ·
        refine z_const X (show cdA 187 27 = some (.iconst 0, 1, 0, 0, 0) from rfl) ?_
        exact N15 _ (Or.inl ⟨g17, rfl⟩)
      ·
        refine z_const X (show cdA 187 23 = some (.iconst 1, 1, 0, 0, 0) from rfl) ?_
        refine z_goto X (t := 28) (show cdA 187 24 = some (.goto 4, 3, 0, 0, 0) from rfl) (by decide) ?_
        exact N15 _ (Or.inr (⟨g17, rfl⟩))
set_option maxRecDepth 4000 in
theorem k_hours2 (G : GX l s0 D tys a0 dT) (I : Bd s) {x y : Int} (p0 : rng x) (p1 : rng y) : CT l s0 D A dT 273 (rmN 273) [.ref (A 179), .int (Int32.ofInt x), .int (Int32.ofInt y)] s (fun o t => Bd t ∧ Fm [73, 102, 103] [] s t ∧ ∃ e, o = .inl (some (.int (Int32.ofInt e))) ∧ rng e ∧ (((x = 0 ∧ 1 ≤ y ∧ y ≤ 24 ∧ iI t 73 = 0 ∧ e = iI s 102 ∧ iI t 102 = y ∧ iI t 103 = iI s 103) ∨ (x = 1 ∧ 1 ≤ y ∧ y ≤ 8 ∧ iI t 73 = 0 ∧ e = iI s 103 ∧ iI t 103 = y ∧ iI t 102 = iI s 102) ∨ ((x < 0 ∨ 1 < x ∨ y < 1 ∨ (x = 0 ∧ 24 < y) ∨ (x = 1 ∧ 8 < y)) ∧ iI t 73 = 1 ∧ iI t 102 = iI s 102 ∧ iI t 103 = iI s 103)))) := by
  refine ct_of G (by decide) (Nat.le_of_ble_eq_true rfl) (fun k X E hRt hXt q => ?_)
  show WS k 0 [(0, .ref (A 179)), (1, .int (Int32.ofInt x)), (2, .int (Int32.ofInt y))] [] _ 0 0
  have F : Fm [73, 102, 103] [] s s := fm_rf _ _ s
  have b1 : (0 : Int) ≤ iI s 73 ∧ iI s 73 ≤ 3 := I.1 73
  have b2 : (1 : Int) ≤ iI s 102 ∧ iI s 102 ≤ 24 := I.1 102
  have b3 : (1 : Int) ≤ iI s 103 ∧ iI s 103 ≤ 8 := I.1 103
  refine z_aload_n X (x := A 179) (show cdA 273 0 = some (.aload_n 0, 1, 0, 0, 0) from rfl) (List.Mem.head _) ?_
  refine z_const X (show cdA 273 1 = some (.iconst 0, 1, 0, 0, 0) from rfl) ?_
  refine s_putI X 179 (show cdA 273 2 = some (.putfield 172, 3, 12, 0, 0) from rfl) (by decide) rfl rfl (by decide) rfl rfl rfl ?_
  obtain ⟨s4, hs4⟩ : ∃ x0, x0 = uI s 73 (Int32.ofInt 0) := ⟨_, rfl⟩
  rw [← hs4]
  have Is4 : Bd s4 := by rw [hs4]; exact bd_I I (show (0 : Int) ≤ 0 ∧ 0 ≤ 3 by omega) ⟨by omega, by omega⟩
  have Fs4 := fm_I (x := Int32.ofInt 0) F (show 73 ∈ _ by decide)
  rw [← hs4] at Fs4
  have vs4 : iI s4 73 = 0 := by rw [hs4]; exact iI_u ⟨by omega, by omega⟩
  have ws4_102 : iI s4 102 = iI s 102 := by rw [hs4]; rfl
  have ws4_103 : iI s4 103 = iI s 103 := by rw [hs4]; rfl
  refine z_aload_n X (x := A 179) (show cdA 273 5 = some (.aload_n 0, 1, 0, 0, 0) from rfl) (List.Mem.head _) ?_
  refine z_load_n X (x := x) (show cdA 273 6 = some (.iload_n 1, 1, 0, 0, 0) from rfl) (List.Mem.tail _ (List.Mem.head _)) ?_
  refine z_const X (show cdA 273 7 = some (.iconst 0, 1, 0, 0, 0) from rfl) ?_
  refine z_const X (show cdA 273 8 = some (.iconst 1, 1, 0, 0, 0) from rfl) ?_
  refine z_callS X (rm := rmN 188) (As := [.int (Int32.ofInt x), .int (Int32.ofInt 0), .int (Int32.ofInt 1)]) (st := [.ref (A 179)]) (show cdA 273 9 = some (.invokestatic 209, 3, 188, 1, 0) from rfl) rfl (by rw [E.1, E.2.1, E.2.2.1]; exact k_in2 G Is4 (by omega) (by omega) (by omega)) ⟨by rw [E.2.2.2]; exact (show (rmN 188).frames + 1 ≤ (rmN 273).frames by decide), by rw [E.2.2.2]; exact (show 8 + (mNL (miB 188) + 11) + (rmN 188).locals ≤ (rmN 273).locals by decide), by rw [E.2.2.2]; exact (show 0 + (rmN 188).cells ≤ (rmN 273).cells by decide), by rw [E.2.2.2]; exact (show 0 + (rmN 188).slots ≤ (rmN 273).slots by decide)⟩ (Nat.le_of_ble_eq_true rfl) (fun vv s5 hq => ?_) (fun ee s5 hq => ?_)
  rotate_left
  · obtain ⟨rfl, e6, hv, hrs5, hps5⟩ := hq; cases hv
  obtain ⟨rfl, e6, hv, hrs5, hps5⟩ := hq
  cases hv
  show WS k 12 [(0, .ref (A 179)), (1, .int (Int32.ofInt x)), (2, .int (Int32.ofInt y))] [.int (Int32.ofInt e6), .ref (A 179)] (Wd A dT s4) 0 0
  refine z_if_eq X (t := 34) (show cdA 273 12 = some (.ifCond .eq 22, 3, 0, 0, 0) from rfl) (by decide) ⟨by omega, by omega⟩ (fun g7 => ?_) (fun g7 => ?_)
  ·
    refine z_const X (show cdA 273 34 = some (.iconst 1, 1, 0, 0, 0) from rfl) ?_
    refine z_goto X (t := 39) (show cdA 273 35 = some (.goto 4, 3, 0, 0, 0) from rfl) (by decide) ?_
    refine z_const X (show cdA 273 39 = some (.iconst 1, 1, 0, 0, 0) from rfl) ?_
    refine z_callV X 179 (rm := rmN 187) (As := [.int (Int32.ofInt 1), .int (Int32.ofInt 1)]) (st := []) (show cdA 273 40 = some (.invokevirtual 229, 3, 187, 0, 0) from rfl) rfl (by decide) rfl (by rw [E.1, E.2.1, E.2.2.1]; exact k_bad2 G Is4 (by omega) (by omega)) ⟨by rw [E.2.2.2]; exact (show (rmN 187).frames + 1 ≤ (rmN 273).frames by decide), by rw [E.2.2.2]; exact (show 8 + (mNL (miB 187) + 11) + (rmN 187).locals ≤ (rmN 273).locals by decide), by rw [E.2.2.2]; exact (show 0 + (rmN 187).cells ≤ (rmN 273).cells by decide), by rw [E.2.2.2]; exact (show 0 + (rmN 187).slots ≤ (rmN 273).slots by decide)⟩ (Nat.le_of_ble_eq_true rfl) (fun vv s8 hq => ?_) (fun ee s8 hq => ?_)
    rotate_left
    · obtain ⟨Is8, Fs8, e9, hv, hrs8, hps8⟩ := hq; cases hv
    obtain ⟨Is8, Fs8, e9, hv, hrs8, hps8⟩ := hq
    cases hv
    have Gs8 := fm_ts Fs4 Fs8 (by decide) (by decide)
    have b10 : (0 : Int) ≤ iI s8 73 ∧ iI s8 73 ≤ 3 := Is8.1 73
    have ws8_102 : iI s8 102 = iI s4 102 := fm_i Fs8 (by decide)
    have ws8_103 : iI s8 103 = iI s4 103 := fm_i Fs8 (by decide)
    show WS k 43 [(0, .ref (A 179)), (1, .int (Int32.ofInt x)), (2, .int (Int32.ofInt y))] [.int (Int32.ofInt e9)] (Wd A dT s8) 0 0
    refine z_if_eq X (t := 48) (show cdA 273 43 = some (.ifCond .eq 5, 3, 0, 0, 0) from rfl) (by decide) ⟨by omega, by omega⟩ (fun g11 => ?_) (fun g11 => ?_)
    ·
      refine z_load_n X (x := x) (show cdA 273 48 = some (.iload_n 1, 1, 0, 0, 0) from rfl) (List.Mem.tail _ (List.Mem.head _)) ?_
      have N12 : ∀ e13 : Int, (((x ≠ 0) ∧ ((1 : Int) ≤ iI s8 103 ∧ iI s8 103 ≤ 8) ∧ e13 = (iI s8 103)) ∨ ((x = 0) ∧ ((1 : Int) ≤ iI s8 102 ∧ iI s8 102 ≤ 24) ∧ e13 = (iI s8 102))) → WS k 63 [(0, .ref (A 179)), (1, .int (Int32.ofInt x)), (2, .int (Int32.ofInt y))] [.int (Int32.ofInt e13)] (Wd A dT s8) 0 0 := by
        intro e13 he13
        refine z_store_n X (lv' := [(3, .int (Int32.ofInt e13)), (0, .ref (A 179)), (1, .int (Int32.ofInt x)), (2, .int (Int32.ofInt y))]) (show cdA 273 63 = some (.istore_n 3, 1, 0, 0, 0) from rfl) (by decide) (fun _ h => h) ?_
        refine z_load_n X (x := x) (show cdA 273 64 = some (.iload_n 1, 1, 0, 0, 0) from rfl) (List.Mem.tail _ (List.Mem.tail _ (List.Mem.head _))) ?_
        refine z_if_ne X (t := 76) (show cdA 273 65 = some (.ifCond .ne 11, 3, 1, 0, 0) from rfl) (by decide) ⟨by omega, by omega⟩ (fun g14 => ?_) (fun g14 => ?_)
        ·
          refine z_aload_n X (x := A 179) (show cdA 273 76 = some (.aload_n 0, 1, 0, 0, 0) from rfl) (List.Mem.tail _ (List.Mem.head _)) ?_
          refine z_load_n X (x := y) (show cdA 273 77 = some (.iload_n 2, 1, 0, 0, 0) from rfl) (List.Mem.tail _ (List.Mem.tail _ (List.Mem.tail _ (List.Mem.head _)))) ?_
          refine s_putI X 179 (show cdA 273 78 = some (.putfield 133, 3, 12, 64, 0) from rfl) (by decide) rfl rfl (by decide) rfl rfl rfl ?_
          obtain ⟨s15, hs15⟩ : ∃ x0, x0 = uI s8 103 (Int32.ofInt y) := ⟨_, rfl⟩
          rw [← hs15]
          have Is15 : Bd s15 := by rw [hs15]; exact bd_I Is8 (show (1 : Int) ≤ y ∧ y ≤ 8 by omega) ⟨by omega, by omega⟩
          have Fs15 := fm_I (x := Int32.ofInt y) Gs8 (show 103 ∈ _ by decide)
          rw [← hs15] at Fs15
          have vs15 : iI s15 103 = y := by rw [hs15]; exact iI_u ⟨by omega, by omega⟩
          have ws15_73 : iI s15 73 = iI s8 73 := by rw [hs15]; rfl
          have ws15_102 : iI s15 102 = iI s8 102 := by rw [hs15]; rfl
          refine z_load_n X (x := e13) (show cdA 273 81 = some (.iload_n 3, 1, 0, 0, 0) from rfl) (List.Mem.head _) ?_
          exact w_iret X.1 q hRt rfl (ax_d X (show cdA 273 82 = some (.ireturn, 1, 0, 0, 0) from rfl)) (Nat.zero_le _) (Nat.zero_le _) ⟨_, rfl, Is15, Fs15, e13, rfl, ⟨by omega, by omega⟩, by omega⟩
        ·
          refine z_aload_n X (x := A 179) (show cdA 273 68 = some (.aload_n 0, 1, 0, 0, 0) from rfl) (List.Mem.tail _ (List.Mem.head _)) ?_
          refine z_load_n X (x := y) (show cdA 273 69 = some (.iload_n 2, 1, 0, 0, 0) from rfl) (List.Mem.tail _ (List.Mem.tail _ (List.Mem.tail _ (List.Mem.head _)))) ?_
          refine s_putI X 179 (show cdA 273 70 = some (.putfield 130, 3, 12, 63, 0) from rfl) (by decide) rfl rfl (by decide) rfl rfl rfl ?_
          obtain ⟨s16, hs16⟩ : ∃ x0, x0 = uI s8 102 (Int32.ofInt y) := ⟨_, rfl⟩
          rw [← hs16]
          have Is16 : Bd s16 := by rw [hs16]; exact bd_I Is8 (show (1 : Int) ≤ y ∧ y ≤ 24 by omega) ⟨by omega, by omega⟩
          have Fs16 := fm_I (x := Int32.ofInt y) Gs8 (show 102 ∈ _ by decide)
          rw [← hs16] at Fs16
          have vs16 : iI s16 102 = y := by rw [hs16]; exact iI_u ⟨by omega, by omega⟩
          have ws16_73 : iI s16 73 = iI s8 73 := by rw [hs16]; rfl
          have ws16_103 : iI s16 103 = iI s8 103 := by rw [hs16]; rfl
          refine z_goto X (t := 81) (show cdA 273 73 = some (.goto 8, 3, 0, 0, 0) from rfl) (by decide) ?_
          refine z_load_n X (x := e13) (show cdA 273 81 = some (.iload_n 3, 1, 0, 0, 0) from rfl) (List.Mem.head _) ?_
          exact w_iret X.1 q hRt rfl (ax_d X (show cdA 273 82 = some (.ireturn, 1, 0, 0, 0) from rfl)) (Nat.zero_le _) (Nat.zero_le _) ⟨_, rfl, Is16, Fs16, e13, rfl, ⟨by omega, by omega⟩, by omega⟩
      refine z_if_ne X (t := 59) (show cdA 273 49 = some (.ifCond .ne 10, 3, 1, 0, 0) from rfl) (by decide) ⟨by omega, by omega⟩ (fun g17 => ?_) (fun g17 => ?_)
      ·
        refine z_aload_n X (x := A 179) (show cdA 273 59 = some (.aload_n 0, 1, 0, 0, 0) from rfl) (List.Mem.head _) ?_
        refine z_getI X 179 (show cdA 273 60 = some (.getfield 133, 3, 12, 64, 0) from rfl) (by decide) rfl rfl ?_
        have b18 : (1 : Int) ≤ iI s8 103 ∧ iI s8 103 ≤ 8 := Is8.1 103
        exact N12 _ (Or.inl ⟨g17, b18, rfl⟩)
      ·
        refine z_aload_n X (x := A 179) (show cdA 273 52 = some (.aload_n 0, 1, 0, 0, 0) from rfl) (List.Mem.head _) ?_
        refine z_getI X 179 (show cdA 273 53 = some (.getfield 130, 3, 12, 63, 0) from rfl) (by decide) rfl rfl ?_
        have b19 : (1 : Int) ≤ iI s8 102 ∧ iI s8 102 ≤ 24 := Is8.1 102
        refine z_goto X (t := 63) (show cdA 273 56 = some (.goto 7, 3, 0, 0, 0) from rfl) (by decide) ?_
        exact N12 _ (Or.inr (⟨g17, b19, rfl⟩))
    ·
      refine z_const X (show cdA 273 46 = some (.iconst 0, 1, 0, 0, 0) from rfl) ?_
      exact w_iret X.1 q hRt rfl (ax_d X (show cdA 273 47 = some (.ireturn, 1, 0, 0, 0) from rfl)) (Nat.zero_le _) (Nat.zero_le _) ⟨_, rfl, Is8, Gs8, 0, rfl, ⟨by omega, by omega⟩, by omega⟩
  ·
    refine z_load_n X (x := y) (show cdA 273 15 = some (.iload_n 2, 1, 0, 0, 0) from rfl) (List.Mem.tail _ (List.Mem.tail _ (List.Mem.head _))) ?_
    refine z_const X (show cdA 273 16 = some (.iconst 1, 1, 0, 0, 0) from rfl) ?_
    refine z_load_n X (x := x) (show cdA 273 17 = some (.iload_n 1, 1, 0, 0, 0) from rfl) (List.Mem.tail _ (List.Mem.head _)) ?_
    have N20 : ∀ e21 : Int, (((x ≠ 0) ∧ e21 = 8) ∨ ((x = 0) ∧ e21 = 24)) → WS k 28 [(0, .ref (A 179)), (1, .int (Int32.ofInt x)), (2, .int (Int32.ofInt y))] [.int (Int32.ofInt e21), .int (Int32.ofInt 1), .int (Int32.ofInt y), .ref (A 179)] (Wd A dT s4) 0 0 := by
      intro e21 he21
      have re21 : 8 ≤ e21 ∧ e21 ≤ 24 := by omega
      refine z_callS X (rm := rmN 188) (As := [.int (Int32.ofInt y), .int (Int32.ofInt 1), .int (Int32.ofInt e21)]) (st := [.ref (A 179)]) (show cdA 273 28 = some (.invokestatic 209, 3, 188, 1, 0) from rfl) rfl (by rw [E.1, E.2.1, E.2.2.1]; exact k_in2 G Is4 (by omega) (by omega) (by omega)) ⟨by rw [E.2.2.2]; exact (show (rmN 188).frames + 1 ≤ (rmN 273).frames by decide), by rw [E.2.2.2]; exact (show 8 + (mNL (miB 188) + 11) + (rmN 188).locals ≤ (rmN 273).locals by decide), by rw [E.2.2.2]; exact (show 0 + (rmN 188).cells ≤ (rmN 273).cells by decide), by rw [E.2.2.2]; exact (show 0 + (rmN 188).slots ≤ (rmN 273).slots by decide)⟩ (Nat.le_of_ble_eq_true rfl) (fun vv s22 hq => ?_) (fun ee s22 hq => ?_)
      rotate_left
      · obtain ⟨rfl, e23, hv, hrs22, hps22⟩ := hq; cases hv
      obtain ⟨rfl, e23, hv, hrs22, hps22⟩ := hq
      cases hv
      show WS k 31 [(0, .ref (A 179)), (1, .int (Int32.ofInt x)), (2, .int (Int32.ofInt y))] [.int (Int32.ofInt e23), .ref (A 179)] (Wd A dT s4) 0 0
      have N24 : ∀ e25 : Int, (((e23 ≠ 0) ∧ e25 = 0) ∨ ((e23 = 0) ∧ e25 = 1)) → WS k 39 [(0, .ref (A 179)), (1, .int (Int32.ofInt x)), (2, .int (Int32.ofInt y))] [.int (Int32.ofInt e25), .ref (A 179)] (Wd A dT s4) 0 0 := by
        intro e25 he25
        have re25 : 0 ≤ e25 ∧ e25 ≤ 1 := by omega
        refine z_const X (show cdA 273 39 = some (.iconst 1, 1, 0, 0, 0) from rfl) ?_
        refine z_callV X 179 (rm := rmN 187) (As := [.int (Int32.ofInt e25), .int (Int32.ofInt 1)]) (st := []) (show cdA 273 40 = some (.invokevirtual 229, 3, 187, 0, 0) from rfl) rfl (by decide) rfl (by rw [E.1, E.2.1, E.2.2.1]; exact k_bad2 G Is4 (by omega) (by omega)) ⟨by rw [E.2.2.2]; exact (show (rmN 187).frames + 1 ≤ (rmN 273).frames by decide), by rw [E.2.2.2]; exact (show 8 + (mNL (miB 187) + 11) + (rmN 187).locals ≤ (rmN 273).locals by decide), by rw [E.2.2.2]; exact (show 0 + (rmN 187).cells ≤ (rmN 273).cells by decide), by rw [E.2.2.2]; exact (show 0 + (rmN 187).slots ≤ (rmN 273).slots by decide)⟩ (Nat.le_of_ble_eq_true rfl) (fun vv s26 hq => ?_) (fun ee s26 hq => ?_)
        rotate_left
        · obtain ⟨Is26, Fs26, e27, hv, hrs26, hps26⟩ := hq; cases hv
        obtain ⟨Is26, Fs26, e27, hv, hrs26, hps26⟩ := hq
        cases hv
        have Gs26 := fm_ts Fs4 Fs26 (by decide) (by decide)
        have b28 : (0 : Int) ≤ iI s26 73 ∧ iI s26 73 ≤ 3 := Is26.1 73
        have ws26_102 : iI s26 102 = iI s4 102 := fm_i Fs26 (by decide)
        have ws26_103 : iI s26 103 = iI s4 103 := fm_i Fs26 (by decide)
        show WS k 43 [(0, .ref (A 179)), (1, .int (Int32.ofInt x)), (2, .int (Int32.ofInt y))] [.int (Int32.ofInt e27)] (Wd A dT s26) 0 0
        refine z_if_eq X (t := 48) (show cdA 273 43 = some (.ifCond .eq 5, 3, 0, 0, 0) from rfl) (by decide) ⟨by omega, by omega⟩ (fun g29 => ?_) (fun g29 => ?_)
        ·
          refine z_load_n X (x := x) (show cdA 273 48 = some (.iload_n 1, 1, 0, 0, 0) from rfl) (List.Mem.tail _ (List.Mem.head _)) ?_
          have N30 : ∀ e31 : Int, (((x ≠ 0) ∧ ((1 : Int) ≤ iI s26 103 ∧ iI s26 103 ≤ 8) ∧ e31 = (iI s26 103)) ∨ ((x = 0) ∧ ((1 : Int) ≤ iI s26 102 ∧ iI s26 102 ≤ 24) ∧ e31 = (iI s26 102))) → WS k 63 [(0, .ref (A 179)), (1, .int (Int32.ofInt x)), (2, .int (Int32.ofInt y))] [.int (Int32.ofInt e31)] (Wd A dT s26) 0 0 := by
            intro e31 he31
            refine z_store_n X (lv' := [(3, .int (Int32.ofInt e31)), (0, .ref (A 179)), (1, .int (Int32.ofInt x)), (2, .int (Int32.ofInt y))]) (show cdA 273 63 = some (.istore_n 3, 1, 0, 0, 0) from rfl) (by decide) (fun _ h => h) ?_
            refine z_load_n X (x := x) (show cdA 273 64 = some (.iload_n 1, 1, 0, 0, 0) from rfl) (List.Mem.tail _ (List.Mem.tail _ (List.Mem.head _))) ?_
            refine z_if_ne X (t := 76) (show cdA 273 65 = some (.ifCond .ne 11, 3, 1, 0, 0) from rfl) (by decide) ⟨by omega, by omega⟩ (fun g32 => ?_) (fun g32 => ?_)
            ·
              refine z_aload_n X (x := A 179) (show cdA 273 76 = some (.aload_n 0, 1, 0, 0, 0) from rfl) (List.Mem.tail _ (List.Mem.head _)) ?_
              refine z_load_n X (x := y) (show cdA 273 77 = some (.iload_n 2, 1, 0, 0, 0) from rfl) (List.Mem.tail _ (List.Mem.tail _ (List.Mem.tail _ (List.Mem.head _)))) ?_
              refine s_putI X 179 (show cdA 273 78 = some (.putfield 133, 3, 12, 64, 0) from rfl) (by decide) rfl rfl (by decide) rfl rfl rfl ?_
              obtain ⟨s33, hs33⟩ : ∃ x0, x0 = uI s26 103 (Int32.ofInt y) := ⟨_, rfl⟩
              rw [← hs33]
              have Is33 : Bd s33 := by rw [hs33]; exact bd_I Is26 (show (1 : Int) ≤ y ∧ y ≤ 8 by omega) ⟨by omega, by omega⟩
              have Fs33 := fm_I (x := Int32.ofInt y) Gs26 (show 103 ∈ _ by decide)
              rw [← hs33] at Fs33
              have vs33 : iI s33 103 = y := by rw [hs33]; exact iI_u ⟨by omega, by omega⟩
              have ws33_73 : iI s33 73 = iI s26 73 := by rw [hs33]; rfl
              have ws33_102 : iI s33 102 = iI s26 102 := by rw [hs33]; rfl
              refine z_load_n X (x := e31) (show cdA 273 81 = some (.iload_n 3, 1, 0, 0, 0) from rfl) (List.Mem.head _) ?_
              exact w_iret X.1 q hRt rfl (ax_d X (show cdA 273 82 = some (.ireturn, 1, 0, 0, 0) from rfl)) (Nat.zero_le _) (Nat.zero_le _) ⟨_, rfl, Is33, Fs33, e31, rfl, ⟨by omega, by omega⟩, by omega⟩
            ·
              refine z_aload_n X (x := A 179) (show cdA 273 68 = some (.aload_n 0, 1, 0, 0, 0) from rfl) (List.Mem.tail _ (List.Mem.head _)) ?_
              refine z_load_n X (x := y) (show cdA 273 69 = some (.iload_n 2, 1, 0, 0, 0) from rfl) (List.Mem.tail _ (List.Mem.tail _ (List.Mem.tail _ (List.Mem.head _)))) ?_
              refine s_putI X 179 (show cdA 273 70 = some (.putfield 130, 3, 12, 63, 0) from rfl) (by decide) rfl rfl (by decide) rfl rfl rfl ?_
              obtain ⟨s34, hs34⟩ : ∃ x0, x0 = uI s26 102 (Int32.ofInt y) := ⟨_, rfl⟩
              rw [← hs34]
              have Is34 : Bd s34 := by rw [hs34]; exact bd_I Is26 (show (1 : Int) ≤ y ∧ y ≤ 24 by omega) ⟨by omega, by omega⟩
              have Fs34 := fm_I (x := Int32.ofInt y) Gs26 (show 102 ∈ _ by decide)
              rw [← hs34] at Fs34
              have vs34 : iI s34 102 = y := by rw [hs34]; exact iI_u ⟨by omega, by omega⟩
              have ws34_73 : iI s34 73 = iI s26 73 := by rw [hs34]; rfl
              have ws34_103 : iI s34 103 = iI s26 103 := by rw [hs34]; rfl
              refine z_goto X (t := 81) (show cdA 273 73 = some (.goto 8, 3, 0, 0, 0) from rfl) (by decide) ?_
              refine z_load_n X (x := e31) (show cdA 273 81 = some (.iload_n 3, 1, 0, 0, 0) from rfl) (List.Mem.head _) ?_
              exact w_iret X.1 q hRt rfl (ax_d X (show cdA 273 82 = some (.ireturn, 1, 0, 0, 0) from rfl)) (Nat.zero_le _) (Nat.zero_le _) ⟨_, rfl, Is34, Fs34, e31, rfl, ⟨by omega, by omega⟩, by omega⟩
          refine z_if_ne X (t := 59) (show cdA 273 49 = some (.ifCond .ne 10, 3, 1, 0, 0) from rfl) (by decide) ⟨by omega, by omega⟩ (fun g35 => ?_) (fun g35 => ?_)
          ·
            refine z_aload_n X (x := A 179) (show cdA 273 59 = some (.aload_n 0, 1, 0, 0, 0) from rfl) (List.Mem.head _) ?_
            refine z_getI X 179 (show cdA 273 60 = some (.getfield 133, 3, 12, 64, 0) from rfl) (by decide) rfl rfl ?_
            have b36 : (1 : Int) ≤ iI s26 103 ∧ iI s26 103 ≤ 8 := Is26.1 103
            exact N30 _ (Or.inl ⟨g35, b36, rfl⟩)
          ·
            refine z_aload_n X (x := A 179) (show cdA 273 52 = some (.aload_n 0, 1, 0, 0, 0) from rfl) (List.Mem.head _) ?_
            refine z_getI X 179 (show cdA 273 53 = some (.getfield 130, 3, 12, 63, 0) from rfl) (by decide) rfl rfl ?_
            have b37 : (1 : Int) ≤ iI s26 102 ∧ iI s26 102 ≤ 24 := Is26.1 102
            refine z_goto X (t := 63) (show cdA 273 56 = some (.goto 7, 3, 0, 0, 0) from rfl) (by decide) ?_
            exact N30 _ (Or.inr (⟨g35, b37, rfl⟩))
        ·
          refine z_const X (show cdA 273 46 = some (.iconst 0, 1, 0, 0, 0) from rfl) ?_
          exact w_iret X.1 q hRt rfl (ax_d X (show cdA 273 47 = some (.ireturn, 1, 0, 0, 0) from rfl)) (Nat.zero_le _) (Nat.zero_le _) ⟨_, rfl, Is26, Gs26, 0, rfl, ⟨by omega, by omega⟩, by omega⟩
      refine z_if_ne X (t := 38) (show cdA 273 31 = some (.ifCond .ne 7, 3, 1, 0, 0) from rfl) (by decide) ⟨by omega, by omega⟩ (fun g38 => ?_) (fun g38 => ?_)
      ·
        refine z_const X (show cdA 273 38 = some (.iconst 0, 1, 0, 0, 0) from rfl) ?_
        exact N24 _ (Or.inl ⟨g38, rfl⟩)
      ·
        refine z_const X (show cdA 273 34 = some (.iconst 1, 1, 0, 0, 0) from rfl) ?_
        refine z_goto X (t := 39) (show cdA 273 35 = some (.goto 4, 3, 0, 0, 0) from rfl) (by decide) ?_
        exact N24 _ (Or.inr (⟨g38, rfl⟩))
    refine z_if_ne X (t := 26) (show cdA 273 18 = some (.ifCond .ne 8, 3, 1, 0, 0) from rfl) (by decide) ⟨by omega, by omega⟩ (fun g39 => ?_) (fun g39 => ?_)
    ·
      refine z_bipush X (show cdA 273 26 = some (.bipush 8, 2, 0, 0, 8) from rfl) ?_
      exact N20 _ (Or.inl ⟨g39, rfl⟩)
    ·
      refine z_bipush X (show cdA 273 21 = some (.bipush 24, 2, 0, 0, 24) from rfl) ?_
      refine z_goto X (t := 28) (show cdA 273 23 = some (.goto 5, 3, 0, 0, 0) from rfl) (by decide) ?_
      exact N20 _ (Or.inr (⟨g39, rfl⟩))
set_option maxRecDepth 4000 in
theorem cs_needWithin2 (G : GX l s0 D tys a0 dT) (I : Bd s) {v lo hi : Int} (p0 : rng v) (p1 : rng lo) (p2 : rng hi) : CT l s0 D A dT 184 (rmN 184) [.ref (A 0), .int (Int32.ofInt v), .int (Int32.ofInt lo), .int (Int32.ofInt hi)] s (fun o t => Bd t ∧ Fm [] [] s t ∧ ((o = .inl none ∧ (lo ≤ v ∧ v ≤ hi)) ∨ ∃ x : Nat, o = .inr (exN x) ∧ (x = 0 ∧ (v < lo ∨ hi < v)))) := by
  refine ct_ofX G (by decide) (Nat.le_of_ble_eq_true rfl) (fun k X E ET hRt hXt q => ?_)
  show WS k 0 [(0, .ref (A 0)), (1, .int (Int32.ofInt v)), (2, .int (Int32.ofInt lo)), (3, .int (Int32.ofInt hi))] [] _ 0 0
  have F : Fm [] [] s s := fm_rf _ _ s
  refine z_load_n X (x := v) (show cdA 184 0 = some (.iload_n 1, 1, 0, 0, 0) from rfl) (List.Mem.tail _ (List.Mem.head _)) ?_
  refine z_load_n X (x := lo) (show cdA 184 1 = some (.iload_n 2, 1, 0, 0, 0) from rfl) (List.Mem.tail _ (List.Mem.tail _ (List.Mem.head _))) ?_
  refine z_icmp_lt X (t := 10) (show cdA 184 2 = some (.if_icmp .lt 8, 3, 2, 0, 0) from rfl) (by decide) ⟨by omega, by omega⟩ ⟨by omega, by omega⟩ (fun g1 => ?_) (fun g1 => ?_)
  ·
    exact z_throw G X E ET hXt q (st := []) (show cdA 184 10 = some (.new 108, 3, 0, 2, 0) from rfl) (by decide) (by decide) (Nat.le_of_ble_eq_true rfl) (show 0 + 1 ≤ 1 by omega) (show 0 + 6 ≤ 6 by omega) (show 0 + 1 ≤ 1 by omega) (show 0 + 6 ≤ 6 by omega) ⟨_, rfl, I, F, Or.inr ⟨0, rfl, by omega⟩⟩
  ·
    refine z_load_n X (x := v) (show cdA 184 5 = some (.iload_n 1, 1, 0, 0, 0) from rfl) (List.Mem.tail _ (List.Mem.head _)) ?_
    refine z_load_n X (x := hi) (show cdA 184 6 = some (.iload_n 3, 1, 0, 0, 0) from rfl) (List.Mem.tail _ (List.Mem.tail _ (List.Mem.tail _ (List.Mem.head _)))) ?_
    refine z_icmp_le X (t := 21) (show cdA 184 7 = some (.if_icmp .le 14, 3, 5, 0, 0) from rfl) (by decide) ⟨by omega, by omega⟩ ⟨by omega, by omega⟩ (fun g2 => ?_) (fun g2 => ?_)
    ·
      exact w_vret X.1 q hRt (ax_d X (show cdA 184 21 = some (.return_, 1, 0, 0, 0) from rfl)) (Nat.zero_le _) (Nat.zero_le _) ⟨_, rfl, I, F, Or.inl ⟨rfl, by omega⟩⟩
    ·
      exact z_throw G X E ET hXt q (st := []) (show cdA 184 10 = some (.new 108, 3, 0, 2, 0) from rfl) (by decide) (by decide) (Nat.le_of_ble_eq_true rfl) (show 0 + 1 ≤ 1 by omega) (show 0 + 6 ≤ 6 by omega) (show 0 + 1 ≤ 1 by omega) (show 0 + 6 ≤ 6 by omega) ⟨_, rfl, I, F, Or.inr ⟨0, rfl, by omega⟩⟩
set_option maxRecDepth 4000 in
theorem cs_hours2 (G : GX l s0 D tys a0 dT) (I : Bd s) {u v : Int} (p0 : rng u) (p1 : rng v) : CT l s0 D A dT 164 (rmN 164) [.ref (A 0), .int (Int32.ofInt u), .int (Int32.ofInt v)] s (fun o t => Bd t ∧ Fm [36, 37] [] s t ∧ ((∃ e, o = .inl (some (.int (Int32.ofInt e))) ∧ rng e ∧ (((u = 0 ∧ 1 ≤ v ∧ v ≤ 24 ∧ e = iI s 36 ∧ iI t 36 = v ∧ iI t 37 = iI s 37) ∨ (u = 1 ∧ 1 ≤ v ∧ v ≤ 8 ∧ e = iI s 37 ∧ iI t 37 = v ∧ iI t 36 = iI s 36)))) ∨ ∃ x : Nat, o = .inr (exN x) ∧ (x = 0 ∧ (u < 0 ∨ 1 < u ∨ v < 1 ∨ (u = 0 ∧ 24 < v) ∨ (u = 1 ∧ 8 < v)) ∧ iI t 36 = iI s 36 ∧ iI t 37 = iI s 37))) := by
  refine ct_ofX G (by decide) (Nat.le_of_ble_eq_true rfl) (fun k X E ET hRt hXt q => ?_)
  show WS k 0 [(0, .ref (A 0)), (1, .int (Int32.ofInt u)), (2, .int (Int32.ofInt v))] [] _ 0 0
  have F : Fm [36, 37] [] s s := fm_rf _ _ s
  have b1 : (1 : Int) ≤ iI s 36 ∧ iI s 36 ≤ 24 := I.1 36
  have b2 : (1 : Int) ≤ iI s 37 ∧ iI s 37 ≤ 8 := I.1 37
  refine z_aload_n X (x := A 0) (show cdA 164 0 = some (.aload_n 0, 1, 0, 0, 0) from rfl) (List.Mem.head _) ?_
  refine z_load_n X (x := u) (show cdA 164 1 = some (.iload_n 1, 1, 0, 0, 0) from rfl) (List.Mem.tail _ (List.Mem.head _)) ?_
  refine z_const X (show cdA 164 2 = some (.iconst 0, 1, 0, 0, 0) from rfl) ?_
  refine z_const X (show cdA 164 3 = some (.iconst 1, 1, 0, 0, 0) from rfl) ?_
  refine z_callV X 0 (rm := rmN 184) (As := [.int (Int32.ofInt u), .int (Int32.ofInt 0), .int (Int32.ofInt 1)]) (st := []) (show cdA 164 4 = some (.invokevirtual 151, 3, 184, 0, 0) from rfl) rfl (by decide) rfl (by rw [E.1, E.2.1, E.2.2.1]; exact cs_needWithin2 G I (by omega) (by omega) (by omega)) ⟨by rw [E.2.2.2]; exact (show (rmN 184).frames + 1 ≤ (rmN 164).frames by decide), by rw [E.2.2.2]; exact (show 8 + (mNL (miB 184) + 11) + (rmN 184).locals ≤ (rmN 164).locals by decide), by rw [E.2.2.2]; exact (show 0 + 1 ≤ 2 by omega), by rw [E.2.2.2]; exact (show 0 + 6 ≤ 12 by omega)⟩ (Nat.le_of_ble_eq_true rfl) (fun vv s3 hq => ?_) (fun ee s3 hq => ?_)
  rotate_left
  · obtain ⟨Is3, Fs3, (⟨hv, hps3⟩ | ⟨xx, hv, hps3⟩)⟩ := hq
    · cases hv
    · cases hv
      have Gs3 := fm_ts F Fs3 (by decide) (by decide)
      have ws3_36 : iI s3 36 = iI s 36 := fm_i Fs3 (by decide)
      have ws3_37 : iI s3 37 = iI s 37 := fm_i Fs3 (by decide)
      exact x_out X.1 q (fun x hx => (hXt x hx).elim) (show 1 ≤ 2 by omega) (show 6 ≤ 12 by omega) ⟨_, rfl, Is3, Gs3, Or.inr ⟨xx, rfl, by omega⟩⟩
  obtain ⟨Is3, Fs3, (⟨hv, hps3⟩ | ⟨xx, hv, hps3⟩)⟩ := hq
  rotate_left
  · cases hv
  cases hv
  have Gs3 := fm_ts F Fs3 (by decide) (by decide)
  have ws3_36 : iI s3 36 = iI s 36 := fm_i Fs3 (by decide)
  have ws3_37 : iI s3 37 = iI s 37 := fm_i Fs3 (by decide)
  show WS k 7 [(0, .ref (A 0)), (1, .int (Int32.ofInt u)), (2, .int (Int32.ofInt v))] [] (Wd A dT s3) 1 6
  refine z_aload_n X (x := A 0) (show cdA 164 7 = some (.aload_n 0, 1, 0, 0, 0) from rfl) (List.Mem.head _) ?_
  refine z_load_n X (x := v) (show cdA 164 8 = some (.iload_n 2, 1, 0, 0, 0) from rfl) (List.Mem.tail _ (List.Mem.tail _ (List.Mem.head _))) ?_
  refine z_const X (show cdA 164 9 = some (.iconst 1, 1, 0, 0, 0) from rfl) ?_
  refine z_load_n X (x := u) (show cdA 164 10 = some (.iload_n 1, 1, 0, 0, 0) from rfl) (List.Mem.tail _ (List.Mem.head _)) ?_
  have N5 : ∀ e6 : Int, (((u ≠ 0) ∧ e6 = 8) ∨ ((u = 0) ∧ e6 = 24)) → WS k 21 [(0, .ref (A 0)), (1, .int (Int32.ofInt u)), (2, .int (Int32.ofInt v))] [.int (Int32.ofInt e6), .int (Int32.ofInt 1), .int (Int32.ofInt v), .ref (A 0)] (Wd A dT s3) 1 6 := by
    intro e6 he6
    have re6 : 8 ≤ e6 ∧ e6 ≤ 24 := by omega
    refine z_callV X 0 (rm := rmN 184) (As := [.int (Int32.ofInt v), .int (Int32.ofInt 1), .int (Int32.ofInt e6)]) (st := []) (show cdA 164 21 = some (.invokevirtual 151, 3, 184, 0, 0) from rfl) rfl (by decide) rfl (by rw [E.1, E.2.1, E.2.2.1]; exact cs_needWithin2 G Is3 (by omega) (by omega) (by omega)) ⟨by rw [E.2.2.2]; exact (show (rmN 184).frames + 1 ≤ (rmN 164).frames by decide), by rw [E.2.2.2]; exact (show 8 + (mNL (miB 184) + 11) + (rmN 184).locals ≤ (rmN 164).locals by decide), by rw [E.2.2.2]; exact (show 1 + 1 ≤ 2 by omega), by rw [E.2.2.2]; exact (show 6 + 6 ≤ 12 by omega)⟩ (Nat.le_of_ble_eq_true rfl) (fun vv s7 hq => ?_) (fun ee s7 hq => ?_)
    rotate_left
    · obtain ⟨Is7, Fs7, (⟨hv, hps7⟩ | ⟨xx, hv, hps7⟩)⟩ := hq
      · cases hv
      · cases hv
        have Gs7 := fm_ts Gs3 Fs7 (by decide) (by decide)
        have ws7_36 : iI s7 36 = iI s3 36 := fm_i Fs7 (by decide)
        have ws7_37 : iI s7 37 = iI s3 37 := fm_i Fs7 (by decide)
        exact x_out X.1 q (fun x hx => (hXt x hx).elim) (show (1 + 1) ≤ 2 by omega) (show (6 + 6) ≤ 12 by omega) ⟨_, rfl, Is7, Gs7, Or.inr ⟨xx, rfl, by omega⟩⟩
    obtain ⟨Is7, Fs7, (⟨hv, hps7⟩ | ⟨xx, hv, hps7⟩)⟩ := hq
    rotate_left
    · cases hv
    cases hv
    have Gs7 := fm_ts Gs3 Fs7 (by decide) (by decide)
    have ws7_36 : iI s7 36 = iI s3 36 := fm_i Fs7 (by decide)
    have ws7_37 : iI s7 37 = iI s3 37 := fm_i Fs7 (by decide)
    show WS k 24 [(0, .ref (A 0)), (1, .int (Int32.ofInt u)), (2, .int (Int32.ofInt v))] [] (Wd A dT s7) (1 + 1) (6 + 6)
    refine z_load_n X (x := u) (show cdA 164 24 = some (.iload_n 1, 1, 0, 0, 0) from rfl) (List.Mem.tail _ (List.Mem.head _)) ?_
    refine z_if_ne X (t := 39) (show cdA 164 25 = some (.ifCond .ne 14, 3, 1, 0, 0) from rfl) (by decide) ⟨by omega, by omega⟩ (fun g9 => ?_) (fun g9 => ?_)
    ·
      refine z_aload_n X (x := A 0) (show cdA 164 39 = some (.aload_n 0, 1, 0, 0, 0) from rfl) (List.Mem.head _) ?_
      refine s_getR X 0 (show cdA 164 40 = some (.getfield 80, 3, 11, 8, 0) from rfl) (by decide) rfl rfl ?_
      refine z_load_n X (x := v) (show cdA 164 43 = some (.iload_n 2, 1, 0, 0, 0) from rfl) (List.Mem.tail _ (List.Mem.tail _ (List.Mem.head _))) ?_
      refine z_callV X 61 (rm := rmN 61) (As := [.int (Int32.ofInt v)]) (st := []) (show cdA 164 44 = some (.invokevirtual 306, 3, 61, 0, 0) from rfl) rfl (by decide) rfl (by rw [E.1, E.2.1, E.2.2.1]; exact c6_setRest_61 G Is7 (by omega)) ⟨by rw [E.2.2.2]; exact (show (rmN 61).frames + 1 ≤ (rmN 164).frames by decide), by rw [E.2.2.2]; exact (show 8 + (mNL (miB 61) + 11) + (rmN 61).locals ≤ (rmN 164).locals by decide), by rw [E.2.2.2]; exact (show (1 + 1) + 0 ≤ 2 by omega), by rw [E.2.2.2]; exact (show (6 + 6) + 0 ≤ 12 by omega)⟩ (Nat.le_of_ble_eq_true rfl) (fun vv s10 hq => ?_) (fun ee s10 hq => ?_)
      rotate_left
      · obtain ⟨Is10, Fs10, e11, hv, hrs10, hps10⟩ := hq; cases hv
      obtain ⟨Is10, Fs10, e11, hv, hrs10, hps10⟩ := hq
      cases hv
      have Gs10 := fm_ts Gs7 Fs10 (by decide) (by decide)
      have ws10_36 : iI s10 36 = iI s7 36 := fm_i Fs10 (by decide)
      have b12 : (1 : Int) ≤ iI s10 37 ∧ iI s10 37 ≤ 8 := Is10.1 37
      show WS k 47 [(0, .ref (A 0)), (1, .int (Int32.ofInt u)), (2, .int (Int32.ofInt v))] [.int (Int32.ofInt e11)] (Wd A dT s10) (1 + 1) (6 + 6)
      exact w_iret X.1 q hRt rfl (ax_d X (show cdA 164 47 = some (.ireturn, 1, 0, 0, 0) from rfl)) (show (1 + 1) ≤ 2 by omega) (show (6 + 6) ≤ 12 by omega) ⟨_, rfl, Is10, Gs10, Or.inl ⟨e11, rfl, ⟨by omega, by omega⟩, by omega⟩⟩
    ·
      refine z_aload_n X (x := A 0) (show cdA 164 28 = some (.aload_n 0, 1, 0, 0, 0) from rfl) (List.Mem.head _) ?_
      refine s_getR X 0 (show cdA 164 29 = some (.getfield 80, 3, 11, 8, 0) from rfl) (by decide) rfl rfl ?_
      refine z_load_n X (x := v) (show cdA 164 32 = some (.iload_n 2, 1, 0, 0, 0) from rfl) (List.Mem.tail _ (List.Mem.tail _ (List.Mem.head _))) ?_
      refine z_callV X 61 (rm := rmN 60) (As := [.int (Int32.ofInt v)]) (st := []) (show cdA 164 33 = some (.invokevirtual 303, 3, 60, 0, 0) from rfl) rfl (by decide) rfl (by rw [E.1, E.2.1, E.2.2.1]; exact c6_setWork_61 G Is7 (by omega)) ⟨by rw [E.2.2.2]; exact (show (rmN 60).frames + 1 ≤ (rmN 164).frames by decide), by rw [E.2.2.2]; exact (show 8 + (mNL (miB 60) + 11) + (rmN 60).locals ≤ (rmN 164).locals by decide), by rw [E.2.2.2]; exact (show (1 + 1) + 0 ≤ 2 by omega), by rw [E.2.2.2]; exact (show (6 + 6) + 0 ≤ 12 by omega)⟩ (Nat.le_of_ble_eq_true rfl) (fun vv s13 hq => ?_) (fun ee s13 hq => ?_)
      rotate_left
      · obtain ⟨Is13, Fs13, e14, hv, hrs13, hps13⟩ := hq; cases hv
      obtain ⟨Is13, Fs13, e14, hv, hrs13, hps13⟩ := hq
      cases hv
      have Gs13 := fm_ts Gs7 Fs13 (by decide) (by decide)
      have b15 : (1 : Int) ≤ iI s13 36 ∧ iI s13 36 ≤ 24 := Is13.1 36
      have ws13_37 : iI s13 37 = iI s7 37 := fm_i Fs13 (by decide)
      show WS k 36 [(0, .ref (A 0)), (1, .int (Int32.ofInt u)), (2, .int (Int32.ofInt v))] [.int (Int32.ofInt e14)] (Wd A dT s13) (1 + 1) (6 + 6)
      refine z_goto X (t := 47) (show cdA 164 36 = some (.goto 11, 3, 0, 0, 0) from rfl) (by decide) ?_
      exact w_iret X.1 q hRt rfl (ax_d X (show cdA 164 47 = some (.ireturn, 1, 0, 0, 0) from rfl)) (show (1 + 1) ≤ 2 by omega) (show (6 + 6) ≤ 12 by omega) ⟨_, rfl, Is13, Gs13, Or.inl ⟨e14, rfl, ⟨by omega, by omega⟩, by omega⟩⟩
  refine z_if_ne X (t := 19) (show cdA 164 11 = some (.ifCond .ne 8, 3, 1, 0, 0) from rfl) (by decide) ⟨by omega, by omega⟩ (fun g16 => ?_) (fun g16 => ?_)
  ·
    refine z_bipush X (show cdA 164 19 = some (.bipush 8, 2, 0, 0, 8) from rfl) ?_
    exact N5 _ (Or.inl ⟨g16, rfl⟩)
  ·
    refine z_bipush X (show cdA 164 14 = some (.bipush 24, 2, 0, 0, 24) from rfl) ?_
    refine z_goto X (t := 21) (show cdA 164 16 = some (.goto 5, 3, 0, 0, 0) from rfl) (by decide) ?_
    exact N5 _ (Or.inr (⟨g16, rfl⟩))
set_option maxRecDepth 4000 in
theorem lw_hours2 (G : GX l s0 D tys a0 dT) (I : Bd s) {u v : Int} (p0 : rng u) (p1 : rng v) : CTL l s0 D A dT 338 (rmN 338) [.ref (A 0), .int (Int32.ofInt u), .int (Int32.ofInt v), .ref (A 517)] s (fun o t => Bd t ∧ Fm [36, 37] [1460] s t ∧ ∃ e, o = .inl (some (.int (Int32.ofInt e))) ∧ rng e ∧ ((e = 0 ∧ ((u = 0 ∧ 1 ≤ v ∧ v ≤ 24 ∧ iO t = iI s 36 ∧ iI t 36 = v ∧ iI t 37 = iI s 37) ∨ (u = 1 ∧ 1 ≤ v ∧ v ≤ 8 ∧ iO t = iI s 37 ∧ iI t 37 = v ∧ iI t 36 = iI s 36))) ∨ (e = 1 ∧ (u < 0 ∨ 1 < u ∨ v < 1 ∨ (u = 0 ∧ 24 < v) ∨ (u = 1 ∧ 8 < v)) ∧ iI t 36 = iI s 36 ∧ iI t 37 = iI s 37))) := by
  refine ctL_of G (by decide) (Nat.le_of_ble_eq_true rfl) (by decide) (show cdA 338 0 = some (.aload_n 3, 1, 0, 0, 0) from rfl) (fun k X E ET hRt hEx q => ?_)
  show WS k 0 [(0, .ref (A 0)), (1, .int (Int32.ofInt u)), (2, .int (Int32.ofInt v)), (3, .ref (A 517))] [] _ 0 0
  have F : Fm [36, 37] [1460] s s := fm_rf _ _ s
  have hA := swA_rf A
  have b1 : (1 : Int) ≤ iI s 36 ∧ iI s 36 ≤ 24 := I.1 36
  have b2 : (1 : Int) ≤ iI s 37 ∧ iI s 37 ≤ 8 := I.1 37
  refine z_aload_n X (x := A 517) (show cdA 338 0 = some (.aload_n 3, 1, 0, 0, 0) from rfl) (List.Mem.tail _ (List.Mem.tail _ (List.Mem.tail _ (List.Mem.head _)))) ?_
  refine z_const X (show cdA 338 1 = some (.iconst 0, 1, 0, 0, 0) from rfl) ?_
  refine z_aload_n X (x := A 0) (show cdA 338 2 = some (.aload_n 0, 1, 0, 0, 0) from rfl) (List.Mem.head _) ?_
  refine z_load_n X (x := u) (show cdA 338 3 = some (.iload_n 1, 1, 0, 0, 0) from rfl) (List.Mem.tail _ (List.Mem.head _)) ?_
  refine z_load_n X (x := v) (show cdA 338 4 = some (.iload_n 2, 1, 0, 0, 0) from rfl) (List.Mem.tail _ (List.Mem.tail _ (List.Mem.head _))) ?_
  refine z_callV X 0 (rm := rmN 164) (As := [.int (Int32.ofInt u), .int (Int32.ofInt v)]) (st := [.int (Int32.ofInt 0), .ref (A 517)]) (show cdA 338 5 = some (.invokevirtual 93, 3, 164, 0, 0) from rfl) rfl (by decide) rfl (by rw [E.1, E.2.1, E.2.2.1]; exact cs_hours2 G I (by omega) (by omega)) ⟨by rw [E.2.2.2]; exact (show (rmN 164).frames + 1 ≤ (rmN 338).frames by decide), by rw [E.2.2.2]; exact (show 8 + (mNL (miB 164) + 11) + (rmN 164).locals ≤ (rmN 338).locals by decide), by rw [E.2.2.2]; exact (show 0 + (rmN 164).cells ≤ (rmN 338).cells by decide), by rw [E.2.2.2]; exact (show 0 + (rmN 164).slots ≤ (rmN 338).slots by decide)⟩ (Nat.le_of_ble_eq_true rfl) (fun vv s3 hq => ?_) (fun ee s3 hq => ?_)
  rotate_left
  · obtain ⟨Is3, Fs3, (⟨e4, hv, hrs3, hps3⟩ | ⟨xx, hv, hps3⟩)⟩ := hq
    · cases hv
    · cases hv
      rcases (show xx = 0 by omega) with gx
      ·
        subst gx
        have Gs3 := fm_ts F Fs3 (by decide) (by decide)
        have b5 : (1 : Int) ≤ iI s3 36 ∧ iI s3 36 ≤ 24 := Is3.1 36
        have b6 : (1 : Int) ≤ iI s3 37 ∧ iI s3 37 ≤ 8 := Is3.1 37
        refine (hEx 5 0).2 13 rfl _ _ _ _ _ (fun q1 => ?_)
        show WS k 13 [(0, .ref (A 0)), (1, .int (Int32.ofInt u)), (2, .int (Int32.ofInt v)), (3, .ref (A 517))] [.ref q1] (Wd A dT s3) 2 12
        refine z_astore X (lv' := [(4, .ref q1), (0, .ref (A 0)), (1, .int (Int32.ofInt u)), (2, .int (Int32.ofInt v)), (3, .ref (A 517))]) (show cdA 338 13 = some (.astore 4, 2, 0, 0, 0) from rfl) (by decide) (fun _ h => h) ?_
        refine z_const X (show cdA 338 15 = some (.iconst 1, 1, 0, 0, 0) from rfl) ?_
        exact w_iret X.1 q hRt rfl (ax_d X (show cdA 338 16 = some (.ireturn, 1, 0, 0, 0) from rfl)) (show 2 ≤ 2 by omega) (show 12 ≤ 12 by omega) ⟨A, _, hA, rfl, Is3, Gs3, 1, rfl, ⟨by omega, by omega⟩, by omega⟩
  obtain ⟨Is3, Fs3, (⟨e4, hv, hrs3, hps3⟩ | ⟨xx, hv, hps3⟩)⟩ := hq
  rotate_left
  · cases hv
  cases hv
  have Gs3 := fm_ts F Fs3 (by decide) (by decide)
  have b7 : (1 : Int) ≤ iI s3 36 ∧ iI s3 36 ≤ 24 := Is3.1 36
  have b8 : (1 : Int) ≤ iI s3 37 ∧ iI s3 37 ≤ 8 := Is3.1 37
  show WS k 8 [(0, .ref (A 0)), (1, .int (Int32.ofInt u)), (2, .int (Int32.ofInt v)), (3, .ref (A 517))] [.int (Int32.ofInt e4), .int (Int32.ofInt 0), .ref (A 517)] (Wd A dT s3) 2 12
  refine w_i2l X.1 (ax_d X (show cdA 338 8 = some (.i2l, 1, 0, 0, 0) from rfl)) ?_
  refine z_last X 517 (show cdA 338 9 = some (.lastore, 1, 0, 0, 0) from rfl) (by decide) rfl (by omega) (show 0 < 1 by omega) (by decide) ?_
  obtain ⟨s9, hs9⟩ : ∃ x0, x0 = uD s3 460 (0 : Int).toNat (Int32.ofInt e4).toInt64 := ⟨_, rfl⟩
  rw [← hs9]
  have Is9 : Bd s9 := by rw [hs9]; exact bd_D Is3
  have Fs9 : Fm [36, 37] [1460] s s9 := by rw [hs9]; exact fm_D Gs3 (show 460 + 1000 ∈ _ by decide)
  have ws9_36 : iI s9 36 = iI s3 36 := by rw [hs9]; rfl
  have ws9_37 : iI s9 37 = iI s3 37 := by rw [hs9]; rfl
  have oos9 : iO s9 = e4 := by rw [hs9]; exact iO_u (by omega)
  refine z_goto X (t := 17) (show cdA 338 10 = some (.goto 7, 3, 0, 0, 0) from rfl) (by decide) ?_
  refine z_const X (show cdA 338 17 = some (.iconst 0, 1, 0, 0, 0) from rfl) ?_
  exact w_iret X.1 q hRt rfl (ax_d X (show cdA 338 18 = some (.ireturn, 1, 0, 0, 0) from rfl)) (show 2 ≤ 2 by omega) (show 12 ≤ 12 by omega) ⟨A, _, hA, rfl, Is9, Fs9, 0, rfl, ⟨by omega, by omega⟩, by omega⟩
set_option maxRecDepth 4000 in
theorem k_thrown2 (G : GX l s0 D tys a0 dT) (I : Bd s)  : CT l s0 D A dT 186 (rmN 186) [.ref (A 179)] s (fun o t => s = t ∧ ∃ e, o = .inl (some (.int (Int32.ofInt e))) ∧ rng e ∧ (e = iI s 73)) := by
  refine ct_of G (by decide) (Nat.le_of_ble_eq_true rfl) (fun k X E hRt hXt q => ?_)
  show WS k 0 [(0, .ref (A 179))] [] _ 0 0
  have F : Fm [] [] s s := fm_rf _ _ s
  refine z_aload_n X (x := A 179) (show cdA 186 0 = some (.aload_n 0, 1, 0, 0, 0) from rfl) (List.Mem.head _) ?_
  refine z_getI X 179 (show cdA 186 1 = some (.getfield 172, 3, 12, 0, 0) from rfl) (by decide) rfl rfl ?_
  have b1 : (0 : Int) ≤ iI s 73 ∧ iI s 73 ≤ 3 := I.1 73
  exact w_iret X.1 q hRt rfl (ax_d X (show cdA 186 4 = some (.ireturn, 1, 0, 0, 0) from rfl)) (Nat.zero_le _) (Nat.zero_le _) ⟨_, rfl, rfl, (iI s 73), rfl, ⟨by omega, by omega⟩, by omega⟩
end M87b
