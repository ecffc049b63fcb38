/-! Contracts that say what is answered -/
/-- the law's long -/
def iO (t : PS) : Int := (gD t 460 0).toInt
theorem iO_u {s : PS} {e : Int} (h : rng e) : iO (uD s 460 (0 : Int).toNat (Int32.ofInt e).toInt64) = e := by
  show ((if 460 = 460 then vp_updL (s.2.2.2.1 460) (0 : Int).toNat (Int32.ofInt e).toInt64 else s.2.2.2.1 460) 0).toInt = e
  rw [if_pos rfl]
  show ((if 0 = (0 : Int).toNat then (Int32.ofInt e).toInt64 else s.2.2.2.1 460 0)).toInt = e
  rw [if_pos (by decide), Int32.toInt_toInt64, zi h]
theorem fm_o {L M : List Nat} {s t : PS} (F : Fm L M s t) (h : 460 + 1000 ∉ M) : iO t = iO s := congrArg Int64.toInt (fm_dd F h)
/-- an array's cells are as they were; but for one -/
def SAM (a : Nat) (s t : PS) : Prop := ∀ j, iC t a j = iC s a j
def UPD (a : Nat) (i x : Int) (s t : PS) : Prop := iC t a i.toNat = x ∧ ∀ j, j ≠ i.toNat → iC t a j = iC s a j
theorem sam_rf {a : Nat} {s : PS} : SAM a s s := fun _ => rfl
theorem sam_fm {L M : List Nat} {a : Nat} {s t : PS} (F : Fm L M s t) (h : a ∉ M) : SAM a s t := fun _ => fm_c F h
theorem sam_ts {a : Nat} {s t u : PS} (h : SAM a s t) (g : SAM a t u) : SAM a s u := fun j => (g j).trans (h j)
theorem upd_ts {a : Nat} {i x : Int} {s t u : PS} (h : UPD a i x s t) (g : SAM a t u) : UPD a i x s u := ⟨(g _).trans h.1, fun j hj => (g j).trans (h.2 j hj)⟩
theorem sam_C {a b i : Nat} {x : Int32} {s t : PS} (hb : a ≠ b) (h : SAM a s t) : SAM a s (uC t b i x) := fun j => (iC_a hb).trans (h j)
theorem upd_C {a b i : Nat} {x : Int32} {y z : Int} {s t : PS} (hb : a ≠ b) (h : UPD a y z s t) : UPD a y z s (uC t b i x) := ⟨(iC_a hb).trans h.1, fun j hj => (iC_a hb).trans (h.2 j hj)⟩
theorem upd_put {a : Nat} {i x : Int} {s t : PS} (h : SAM a s t) (hx : rng x) : UPD a i x s (uC t a i.toNat (Int32.ofInt x)) := ⟨iC_u hx, fun j hj => (iC_n hj).trans (h j)⟩
/-- two arrays are the same, n cells of them -/
def AEQ (a b n : Nat) (s : PS) : Prop := ∀ j, j < n → iC s a j = iC s b j
theorem aeq_sam {a b n : Nat} {s t : PS} (h : AEQ a b n s) (h1 : SAM a s t) (h2 : SAM b s t) : AEQ a b n t := fun j hj => by rw [h1, h2]; exact h j hj
theorem aeq_upd {a b n : Nat} {i x : Int} {s t u : PS} (h : AEQ a b n s) (h1 : UPD a i x s t) (h2 : SAM b s t) (h3 : UPD b i x t u) (h4 : SAM a t u) : AEQ a b n u := fun j hj => by
  by_cases e : j = i.toNat
  · rw [e, h3.1, h4, h1.1]
  · rw [h4, h1.2 j e, h3.2 j e, h2]; exact h j hj
/-- x is among the first n cells; it is not -/
def HAS (a : Nat) (n x : Int) (s : PS) : Prop := ∃ j : Nat, (j : Int) < n ∧ iC s a j = x
def NHS (a : Nat) (n x : Int) (s : PS) : Prop := ∀ j : Nat, (j : Int) < n → iC s a j ≠ x
theorem nhs_0 {a : Nat} {x : Int} {s : PS} : NHS a 0 x s := fun j hj => by omega
theorem nhs_up {a : Nat} {c x : Int} {s : PS} (h : NHS a c x s) (h0 : 0 ≤ c) (h1 : iC s a c.toNat ≠ x) : NHS a (c + 1) x s := fun j hj => by
  by_cases e : j = c.toNat
  · rw [e]; exact h1
  · exact h j (by omega)
theorem nhs_le {a : Nat} {c n x : Int} {s : PS} (h : NHS a c x s) (h0 : n ≤ c) : NHS a n x s := fun j hj => h j (by omega)
theorem hs_of {a : Nat} {n x : Int} {s : PS} (c : Int) (h0 : 0 ≤ c) (h1 : c < n) (h2 : iC s a c.toNat = x) : HAS a n x s := ⟨c.toNat, by omega, h2⟩
theorem upd_ix {a : Nat} {i j x : Int} {s t : PS} (h : UPD a i x s t) (e : i = j) : UPD a j x s t := e ▸ h
/-- the first cells of two arrays are the same, as many as the symbol q says -/
def REQ (a b q : Nat) (s : PS) : Prop := ∀ j : Nat, (j : Int) < iI s q → iC s a j = iC s b j
theorem req_0 {a b q : Nat} {s : PS} (h : iI s q = 0) : REQ a b q s := fun j hj => by omega
theorem req_sam {a b q : Nat} {s t : PS} (h : REQ a b q s) (h1 : SAM a s t) (h2 : SAM b s t) (e : iI t q = iI s q) : REQ a b q t := fun j hj => by rw [h1, h2]; exact h j (by omega)
theorem req_upd {a b q : Nat} {n m x : Int} {s t u : PS} (h : REQ a b q s) (h1 : UPD a n x s t) (h2 : SAM b s t) (h3 : UPD b m x t u) (h4 : SAM a t u) (e1 : n = iI s q) (e2 : m = n) (e3 : iI u q = iI s q + 1) (h0 : 0 ≤ n) : REQ a b q u := fun j hj => by
  subst e2
  by_cases e : j = m.toNat
  · rw [e, h3.1, h4, h1.1]
  · rw [h4, h1.2 j e, h3.2 j e, h2]; exact h j (by omega)
theorem req_no {a b q : Nat} {n m x : Int} {s t : PS} (h : REQ a b q s) (hb : SAM b s t) (h1 : HAS a n x s) (h2 : NHS b m x t) (e1 : n = iI s q) (e2 : m = n) : False := by
  obtain ⟨j, h3, h4⟩ := h1
  exact h2 j (by omega) (by rw [hb, ← h j (by omega)]; exact h4)
theorem req_no2 {a b q : Nat} {n m x : Int} {s t : PS} (h : REQ a b q s) (hb : SAM b s t) (h1 : NHS a n x s) (h2 : HAS b m x t) (e1 : n = iI s q) (e2 : m = n) : False := by
  obtain ⟨j, h3, h4⟩ := h2
  exact h1 j (by omega) (by rw [h j (by omega), ← hb]; exact h4)
theorem aeq_at {a b n : Nat} {i : Int} {s t : PS} (h : AEQ a b n s) (h2 : SAM b s t) (hi : i.toNat < n) : iC s a i.toNat = iC t b i.toNat := by rw [h2]; exact h _ hi
section M87b
variable {l : Launch} {s0 : State} {D : va_G} {tys : List (ClassId × FieldType)} {a0 : Array Value} {A : Nat → Nat} {dT : Nat → ClassId} {s : PS}
set_option maxRecDepth 4000 in
theorem k_in2 (G : GX l s0 D tys a0 dT) (I : Bd s) {x y z : Int} (p0 : rng x) (p1 : rng y) (p2 : rng z) : CT l s0 D A dT 188 (rmN 188) [.int (Int32.ofInt x), .int (Int32.ofInt y), .int (Int32.ofInt z)] s (fun o t => s = t ∧ ∃ e, o = .inl (some (.int (Int32.ofInt e))) ∧ rng e ∧ ((e = 1 ∧ y ≤ x ∧ x ≤ z) ∨ (e = 0 ∧ (x < y ∨ z < x)))) := by
  refine ct_of G (by decide) (Nat.le_of_ble_eq_true rfl) (fun k X E hRt hXt q => ?_)
  show WS k 0 [(0, .int (Int32.ofInt x)), (1, .int (Int32.ofInt y)), (2, .int (Int32.ofInt z))] [] _ 0 0
  have F : Fm [] [] s s := fm_rf _ _ s
  refine z_load_n X (x := x) (show cdA 188 0 = some (.iload_n 0, 1, 0, 0, 0) from rfl) (List.Mem.head _) ?_
  refine z_load_n X (x := y) (show cdA 188 1 = some (.iload_n 1, 1, 0, 0, 0) from rfl) (List.Mem.tail _ (List.Mem.head _)) ?_
  have N1 : ∀ e2 : Int, (((x < y) ∧ e2 = 0) ∨ ((y ≤ x) ∧ (z < x) ∧ e2 = 0) ∨ ((y ≤ x) ∧ (x ≤ z) ∧ e2 = 1)) → WS k 15 [(0, .int (Int32.ofInt x)), (1, .int (Int32.ofInt y)), (2, .int (Int32.ofInt z))] [.int (Int32.ofInt e2)] (Wd A dT s) 0 0 := by
    intro e2 he2
    have re2 : 0 ≤ e2 ∧ e2 ≤ 1 := by omega
    exact w_iret X.1 q hRt (nar_ret (by first | exact oq_31e518ae re2.2 re2.1 | omega)) (ax_d X (show cdA 188 15 = some (.ireturn, 1, 0, 0, 0) from rfl)) (Nat.zero_le _) (Nat.zero_le _) ⟨_, rfl, rfl, e2, rfl, ⟨by first | exact oq_fa4e5087 re2.1 | omega, by first | exact oq_22e1e6b0 re2.2 | omega⟩, by first | exact oq_eb048f71 re2.2 re2.1 he2 | omega⟩
  refine z_icmp_lt X (t := 14) (show cdA 188 2 = some (.if_icmp .lt 12, 3, 2, 0, 0) from rfl) (by decide) ⟨by first | exact p0.1 | omega, by first | exact p0.2 | omega⟩ ⟨by first | exact p1.1 | omega, by first | exact p1.2 | omega⟩ (fun g3 => ?_) (fun g3 => ?_)
  ·
    refine z_const X (show cdA 188 14 = some (.iconst 0, 1, 0, 0, 0) from rfl) ?_
    exact N1 _ (Or.inl ⟨g3, rfl⟩)
  ·
    refine z_load_n X (x := x) (show cdA 188 5 = some (.iload_n 0, 1, 0, 0, 0) from rfl) (List.Mem.head _) ?_
    refine z_load_n X (x := z) (show cdA 188 6 = some (.iload_n 2, 1, 0, 0, 0) from rfl) (List.Mem.tail _ (List.Mem.tail _ (List.Mem.head _))) ?_
    refine z_icmp_gt X (t := 14) (show cdA 188 7 = some (.if_icmp .gt 7, 3, 4, 0, 0) from rfl) (by decide) ⟨by first | exact p0.1 | omega, by first | exact p0.2 | omega⟩ ⟨by first | exact p2.1 | omega, by first | exact p2.2 | omega⟩ (fun g4 => ?_) (fun g4 => ?_)
    ·
      refine z_const X (show cdA 188 14 = some (.iconst 0, 1, 0, 0, 0) from rfl) ?_
      exact N1 _ (Or.inr (Or.inl ⟨g3, g4, rfl⟩))
    ·
      refine z_const X (show cdA 188 10 = some (.iconst 1, 1, 0, 0, 0) from rfl) ?_
      refine z_goto X (t := 15) (show cdA 188 11 = some (.goto 4, 3, 0, 0, 0) from rfl) (by decide) ?_
      exact N1 _ (Or.inr (Or.inr (⟨g3, g4, rfl⟩)))
set_option maxRecDepth 4000 in
theorem k_bad2 (G : GX l s0 D tys a0 dT) (I : Bd s) {x y : Int} (p0 : x = 0 ∨ x = 1) (p1 : 1 ≤ y ∧ y ≤ 3) : CT l s0 D A dT 187 (rmN 187) [.ref (A 179), .int (Int32.ofInt x), .int (Int32.ofInt y)] s (fun o t => Bd t ∧ Fm [73] [] s t ∧ ∃ e, o = .inl (some (.int (Int32.ofInt e))) ∧ rng e ∧ (((x = 1 ∧ iI s 73 = 0 ∧ iI t 73 = y ∧ e = 1) ∨ ((x = 0 ∨ iI s 73 ≠ 0) ∧ iI t 73 = iI s 73 ∧ ((e = 0 ∧ iI s 73 = 0) ∨ (e = 1 ∧ iI s 73 ≠ 0)))))) := by
  refine ct_of G (by decide) (Nat.le_of_ble_eq_true rfl) (fun k X E hRt hXt q => ?_)
  show WS k 0 [(0, .ref (A 179)), (1, .int (Int32.ofInt x)), (2, .int (Int32.ofInt y))] [] _ 0 0
  have F : Fm [73] [] s s := fm_rf _ _ s
  have b1 : (0 : Int) ≤ iI s 73 ∧ iI s 73 ≤ 3 := I.1 73
  refine z_load_n X (x := x) (show cdA 187 0 = some (.iload_n 1, 1, 0, 0, 0) from rfl) (List.Mem.tail _ (List.Mem.head _)) ?_
  refine z_if_eq X (t := 16) (show cdA 187 1 = some (.ifCond .eq 15, 3, 0, 0, 0) from rfl) (by decide) ⟨by first | exact oq_bde653e9 p0 | omega, by first | exact oq_4ad2cb8b p0 | omega⟩ (fun g2 => ?_) (fun g2 => ?_)
  ·
    refine z_aload_n X (x := A 179) (show cdA 187 16 = some (.aload_n 0, 1, 0, 0, 0) from rfl) (List.Mem.head _) ?_
    refine z_getI X 179 (show cdA 187 17 = some (.getfield 172, 3, 12, 0, 0) from rfl) (by decide) rfl rfl ?_
    have b3 : (0 : Int) ≤ iI s 73 ∧ iI s 73 ≤ 3 := I.1 73
    have N4 : ∀ e5 : Int, ((((iI s 73) = 0) ∧ e5 = 0) ∨ (((iI s 73) ≠ 0) ∧ e5 = 1)) → WS k 28 [(0, .ref (A 179)), (1, .int (Int32.ofInt x)), (2, .int (Int32.ofInt y))] [.int (Int32.ofInt e5)] (Wd A dT s) 0 0 := by
      intro e5 he5
      have re5 : 0 ≤ e5 ∧ e5 ≤ 1 := by omega
      exact w_iret X.1 q hRt (nar_ret (by first | exact oq_31e518ae re5.2 re5.1 | omega)) (ax_d X (show cdA 187 28 = some (.ireturn, 1, 0, 0, 0) from rfl)) (Nat.zero_le _) (Nat.zero_le _) ⟨_, rfl, I, F, e5, rfl, ⟨by first | exact oq_fa4e5087 re5.1 | omega, by first | exact oq_22e1e6b0 re5.2 | omega⟩, by first | exact oq_0fa7b120 re5.2 re5.1 he5 b3.1 g2 | omega⟩
    refine z_if_eq X (t := 27) (show cdA 187 20 = some (.ifCond .eq 7, 3, 0, 0, 0) from rfl) (by decide) (rng_to _) (fun g6 => ?_) (fun g6 => ?_)
    ·
      refine z_const X (show cdA 187 27 = some (.iconst 0, 1, 0, 0, 0) from rfl) ?_
      exact N4 _ (Or.inl ⟨g6, rfl⟩)
    ·
      refine z_const X (show cdA 187 23 = some (.iconst 1, 1, 0, 0, 0) from rfl) ?_
      refine z_goto X (t := 28) (show cdA 187 24 = some (.goto 4, 3, 0, 0, 0) from rfl) (by decide) ?_
      exact N4 _ (Or.inr (⟨g6, rfl⟩))
  ·
    refine z_aload_n X (x := A 179) (show cdA 187 4 = some (.aload_n 0, 1, 0, 0, 0) from rfl) (List.Mem.head _) ?_
    refine z_getI X 179 (show cdA 187 5 = some (.getfield 172, 3, 12, 0, 0) from rfl) (by decide) rfl rfl ?_
    have b7 : (0 : Int) ≤ iI s 73 ∧ iI s 73 ≤ 3 := I.1 73
    refine z_if_ne X (t := 16) (show cdA 187 8 = some (.ifCond .ne 8, 3, 1, 0, 0) from rfl) (by decide) (rng_to _) (fun g8 => ?_) (fun g8 => ?_)
    ·
      refine z_aload_n X (x := A 179) (show cdA 187 16 = some (.aload_n 0, 1, 0, 0, 0) from rfl) (List.Mem.head _) ?_
      refine z_getI X 179 (show cdA 187 17 = some (.getfield 172, 3, 12, 0, 0) from rfl) (by decide) rfl rfl ?_
      have b9 : (0 : Int) ≤ iI s 73 ∧ iI s 73 ≤ 3 := I.1 73
      have N10 : ∀ e11 : Int, ((((iI s 73) = 0) ∧ e11 = 0) ∨ (((iI s 73) ≠ 0) ∧ e11 = 1)) → WS k 28 [(0, .ref (A 179)), (1, .int (Int32.ofInt x)), (2, .int (Int32.ofInt y))] [.int (Int32.ofInt e11)] (Wd A dT s) 0 0 := by
        intro e11 he11
        have re11 : 0 ≤ e11 ∧ e11 ≤ 1 := by omega
        exact w_iret X.1 q hRt (nar_ret (by first | exact oq_438aa68f re11.2 he11 b9.1 g8 | omega)) (ax_d X (show cdA 187 28 = some (.ireturn, 1, 0, 0, 0) from rfl)) (Nat.zero_le _) (Nat.zero_le _) ⟨_, rfl, I, F, e11, rfl, ⟨by first | exact oq_fa4e5087 re11.1 | omega, by first | exact oq_22e1e6b0 re11.2 | omega⟩, by first | exact oq_7136ffd4 re11.2 he11 b9.1 g8 | omega⟩
      refine z_if_eq X (t := 27) (show cdA 187 20 = some (.ifCond .eq 7, 3, 0, 0, 0) from rfl) (by decide) (rng_to _) (fun g12 => ?_) (fun g12 => ?_)
      ·
        refine z_const X (show cdA 187 27 = some (.iconst 0, 1, 0, 0, 0) from rfl) ?_
        exact N10 _ (Or.inl ⟨g12, rfl⟩)
      ·
        refine z_const X (show cdA 187 23 = some (.iconst 1, 1, 0, 0, 0) from rfl) ?_
        refine z_goto X (t := 28) (show cdA 187 24 = some (.goto 4, 3, 0, 0, 0) from rfl) (by decide) ?_
        exact N10 _ (Or.inr (⟨g12, rfl⟩))
    ·
      refine z_aload_n X (x := A 179) (show cdA 187 11 = some (.aload_n 0, 1, 0, 0, 0) from rfl) (List.Mem.head _) ?_
      refine z_load_n X (x := y) (show cdA 187 12 = some (.iload_n 2, 1, 0, 0, 0) from rfl) (List.Mem.tail _ (List.Mem.tail _ (List.Mem.head _))) ?_
      refine s_putI X 179 (show cdA 187 13 = some (.putfield 172, 3, 12, 0, 0) from rfl) (by decide) rfl rfl (by decide) rfl rfl rfl ?_
      obtain ⟨s13, hs13⟩ : ∃ x0, x0 = uI s 73 (Int32.ofInt y) := ⟨_, rfl⟩
      rw [← hs13]
      have Is13 : Bd s13 := by rw [hs13]; exact bd_I I (show (0 : Int) ≤ y ∧ y ≤ 3 by first | exact ⟨oq_2a6e3b50 p1.1, p1.2⟩ | omega) ⟨by first | exact oq_9462313e p1.1 | omega, by first | exact oq_c5520c83 p1.2 | omega⟩
      have Fs13 := fm_I (x := Int32.ofInt y) F (show 73 ∈ _ by decide)
      rw [← hs13] at Fs13
      have vs13 : iI s13 73 = y := by rw [hs13]; exact iI_u ⟨by first | exact oq_9462313e p1.1 | omega, by first | exact oq_c5520c83 p1.2 | omega⟩
      have wos13 : iO s13 = iO s := by rw [hs13]; rfl
      refine z_aload_n X (x := A 179) (show cdA 187 16 = some (.aload_n 0, 1, 0, 0, 0) from rfl) (List.Mem.head _) ?_
      refine z_getI X 179 (show cdA 187 17 = some (.getfield 172, 3, 12, 0, 0) from rfl) (by decide) rfl rfl ?_
      have b14 : (0 : Int) ≤ iI s13 73 ∧ iI s13 73 ≤ 3 := Is13.1 73
      have N15 : ∀ e16 : Int, ((((iI s13 73) = 0) ∧ e16 = 0) ∨ (((iI s13 73) ≠ 0) ∧ e16 = 1)) → WS k 28 [(0, .ref (A 179)), (1, .int (Int32.ofInt x)), (2, .int (Int32.ofInt y))] [.int (Int32.ofInt e16)] (Wd A dT s13) 0 0 := by
        intro e16 he16
        have re16 : 0 ≤ e16 ∧ e16 ≤ 1 := by omega
        exact w_iret X.1 q hRt (nar_ret (by first | exact oq_4f030bbc re16.2 he16 vs13 p1.1 | omega)) (ax_d X (show cdA 187 28 = some (.ireturn, 1, 0, 0, 0) from rfl)) (Nat.zero_le _) (Nat.zero_le _) ⟨_, rfl, Is13, Fs13, e16, rfl, ⟨by first | exact oq_fa4e5087 re16.1 | omega, by first | exact oq_22e1e6b0 re16.2 | omega⟩, by first | exact oq_add61c1a re16.2 he16 vs13 g8 g2 p1.1 p0 | omega⟩
      refine z_if_eq X (t := 27) (show cdA 187 20 = some (.ifCond .eq 7, 3, 0, 0, 0) from rfl) (by decide) (rng_to _) (fun g17 => ?_) (fun g17 => ?_)
      ·
        refine z_const X (show cdA 187 27 = some (.iconst 0, 1, 0, 0, 0) from rfl) ?_
        exact N15 _ (Or.inl ⟨g17, rfl⟩)
      ·
        refine z_const X (show cdA 187 23 = some (.iconst 1, 1, 0, 0, 0) from rfl) ?_
        refine z_goto X (t := 28) (show cdA 187 24 = some (.goto 4, 3, 0, 0, 0) from rfl) (by decide) ?_
        exact N15 _ (Or.inr (⟨g17, rfl⟩))
set_option maxRecDepth 4000 in
theorem k_busy2 (G : GX l s0 D tys a0 dT) (I : Bd s) {x : Int} (p0 : rng x) : CT l s0 D A dT 268 (rmN 268) [.ref (A 179), .int (Int32.ofInt x)] s (fun o t => Bd t ∧ Fm [73, 96] [] s t ∧ ∃ e, o = .inl (some (.int (Int32.ofInt e))) ∧ rng e ∧ (((0 ≤ x ∧ x ≤ 100000 ∧ iI t 73 = 0 ∧ e = iI s 96 ∧ iI t 96 = x) ∨ ((x < 0 ∨ 100000 < x) ∧ iI t 73 = 1 ∧ iI t 96 = iI s 96)))) := by
  refine ct_of G (by decide) (Nat.le_of_ble_eq_true rfl) (fun k X E hRt hXt q => ?_)
  show WS k 0 [(0, .ref (A 179)), (1, .int (Int32.ofInt x))] [] _ 0 0
  have F : Fm [73, 96] [] s s := fm_rf _ _ s
  have b1 : (0 : Int) ≤ iI s 73 ∧ iI s 73 ≤ 3 := I.1 73
  have b2 : (0 : Int) ≤ iI s 96 ∧ iI s 96 ≤ 100000 := I.1 96
  refine z_aload_n X (x := A 179) (show cdA 268 0 = some (.aload_n 0, 1, 0, 0, 0) from rfl) (List.Mem.head _) ?_
  refine z_const X (show cdA 268 1 = some (.iconst 0, 1, 0, 0, 0) from rfl) ?_
  refine s_putI X 179 (show cdA 268 2 = some (.putfield 172, 3, 12, 0, 0) from rfl) (by decide) rfl rfl (by decide) rfl rfl rfl ?_
  obtain ⟨s3, hs3⟩ : ∃ x0, x0 = uI s 73 (Int32.ofInt 0) := ⟨_, rfl⟩
  rw [← hs3]
  have Is3 : Bd s3 := by rw [hs3]; exact bd_I I (show (0 : Int) ≤ 0 ∧ 0 ≤ 3 by first | exact ⟨by decide, by decide⟩ | omega) (by decide)
  have Fs3 := fm_I (x := Int32.ofInt 0) F (show 73 ∈ _ by decide)
  rw [← hs3] at Fs3
  have vs3 : iI s3 73 = 0 := by rw [hs3]; exact iI_u (by decide)
  have ws3_96 : iI s3 96 = iI s 96 := by rw [hs3]; rfl
  refine z_aload_n X (x := A 179) (show cdA 268 5 = some (.aload_n 0, 1, 0, 0, 0) from rfl) (List.Mem.head _) ?_
  refine z_load_n X (x := x) (show cdA 268 6 = some (.iload_n 1, 1, 0, 0, 0) from rfl) (List.Mem.tail _ (List.Mem.head _)) ?_
  refine z_const X (show cdA 268 7 = some (.iconst 0, 1, 0, 0, 0) from rfl) ?_
  refine z_ldc X (show cdA 268 8 = some (.ldc 208, 2, 0, 0, 100000) from rfl) ?_
  refine z_callS X (rm := rmN 188) (As := [.int (Int32.ofInt x), .int (Int32.ofInt 0), .int (Int32.ofInt 100000)]) (st := [.ref (A 179)]) (show cdA 268 10 = some (.invokestatic 209, 3, 188, 1, 0) from rfl) rfl (by rw [E.1, E.2.1, E.2.2.1]; exact k_in2 G Is3 (by first | exact ⟨p0.1, p0.2⟩ | omega) (by first | exact ⟨by decide, by decide⟩ | omega) (by first | exact ⟨by decide, by decide⟩ | omega)) ⟨by rw [E.2.2.2]; exact (show (rmN 188).frames + 1 ≤ (rmN 268).frames by decide), by rw [E.2.2.2]; exact (show 8 + (mNL (miB 188) + 11) + (rmN 188).locals ≤ (rmN 268).locals by decide), by rw [E.2.2.2]; exact (show 0 + (rmN 188).cells ≤ (rmN 268).cells by decide), by rw [E.2.2.2]; exact (show 0 + (rmN 188).slots ≤ (rmN 268).slots by decide)⟩ (Nat.le_of_ble_eq_true rfl) (fun vv s4 hq => ?_) (fun ee s4 hq => ?_)
  rotate_left
  · obtain ⟨rfl, e5, hv, hrs4, hps4⟩ := hq; cases hv
  obtain ⟨rfl, e5, hv, hrs4, hps4⟩ := hq
  cases hv
  show WS k 13 [(0, .ref (A 179)), (1, .int (Int32.ofInt x))] [.int (Int32.ofInt e5), .ref (A 179)] (Wd A dT s3) 0 0
  have N6 : ∀ e7 : Int, (((e5 ≠ 0) ∧ e7 = 0) ∨ ((e5 = 0) ∧ e7 = 1)) → WS k 21 [(0, .ref (A 179)), (1, .int (Int32.ofInt x))] [.int (Int32.ofInt e7), .ref (A 179)] (Wd A dT s3) 0 0 := by
    intro e7 he7
    have re7 : 0 ≤ e7 ∧ e7 ≤ 1 := by omega
    refine z_const X (show cdA 268 21 = some (.iconst 1, 1, 0, 0, 0) from rfl) ?_
    refine z_callV X 179 (rm := rmN 187) (As := [.int (Int32.ofInt e7), .int (Int32.ofInt 1)]) (st := []) (show cdA 268 22 = some (.invokevirtual 229, 3, 187, 0, 0) from rfl) rfl (by decide) rfl (by rw [E.1, E.2.1, E.2.2.1]; exact k_bad2 G Is3 (by first | exact oq_31e518ae re7.2 re7.1 | omega) (by first | exact ⟨by decide, by decide⟩ | omega)) ⟨by rw [E.2.2.2]; exact (show (rmN 187).frames + 1 ≤ (rmN 268).frames by decide), by rw [E.2.2.2]; exact (show 8 + (mNL (miB 187) + 11) + (rmN 187).locals ≤ (rmN 268).locals by decide), by rw [E.2.2.2]; exact (show 0 + (rmN 187).cells ≤ (rmN 268).cells by decide), by rw [E.2.2.2]; exact (show 0 + (rmN 187).slots ≤ (rmN 268).slots by decide)⟩ (Nat.le_of_ble_eq_true rfl) (fun vv s8 hq => ?_) (fun ee s8 hq => ?_)
    rotate_left
    · obtain ⟨Is8, Fs8, e9, hv, hrs8, hps8⟩ := hq; cases hv
    obtain ⟨Is8, Fs8, e9, hv, hrs8, hps8⟩ := hq
    cases hv
    have Gs8 := fm_ts Fs3 Fs8 (by decide) (by decide)
    have b10 : (0 : Int) ≤ iI s8 73 ∧ iI s8 73 ≤ 3 := Is8.1 73
    have ws8_96 : iI s8 96 = iI s3 96 := fm_i Fs8 (by decide)
    show WS k 25 [(0, .ref (A 179)), (1, .int (Int32.ofInt x))] [.int (Int32.ofInt e9)] (Wd A dT s8) 0 0
    refine z_if_eq X (t := 30) (show cdA 268 25 = some (.ifCond .eq 5, 3, 0, 0, 0) from rfl) (by decide) hrs8 (fun g11 => ?_) (fun g11 => ?_)
    ·
      refine z_aload_n X (x := A 179) (show cdA 268 30 = some (.aload_n 0, 1, 0, 0, 0) from rfl) (List.Mem.head _) ?_
      refine z_getI X 179 (show cdA 268 31 = some (.getfield 89, 3, 12, 45, 0) from rfl) (by decide) rfl rfl ?_
      have b12 : (0 : Int) ≤ iI s8 96 ∧ iI s8 96 ≤ 100000 := Is8.1 96
      refine z_store_n X (lv' := [(2, .int (Int32.ofInt (iI s8 96))), (0, .ref (A 179)), (1, .int (Int32.ofInt x))]) (show cdA 268 34 = some (.istore_n 2, 1, 0, 0, 0) from rfl) (by decide) (fun _ h => h) ?_
      refine z_aload_n X (x := A 179) (show cdA 268 35 = some (.aload_n 0, 1, 0, 0, 0) from rfl) (List.Mem.tail _ (List.Mem.head _)) ?_
      refine z_load_n X (x := x) (show cdA 268 36 = some (.iload_n 1, 1, 0, 0, 0) from rfl) (List.Mem.tail _ (List.Mem.tail _ (List.Mem.head _))) ?_
      refine s_putI X 179 (show cdA 268 37 = some (.putfield 89, 3, 12, 45, 0) from rfl) (by decide) rfl rfl (by decide) rfl rfl rfl ?_
      obtain ⟨s13, hs13⟩ : ∃ x0, x0 = uI s8 96 (Int32.ofInt x) := ⟨_, rfl⟩
      rw [← hs13]
      have Is13 : Bd s13 := by rw [hs13]; exact bd_I Is8 (show (0 : Int) ≤ x ∧ x ≤ 100000 by first | exact ⟨oq_8580d82e g11 hps8 he7 hps4 vs3, oq_a8f51996 g11 hps8 he7 hps4 vs3⟩ | omega) ⟨by first | exact p0.1 | omega, by first | exact p0.2 | omega⟩
      have Fs13 := fm_I (x := Int32.ofInt x) Gs8 (show 96 ∈ _ by decide)
      rw [← hs13] at Fs13
      have vs13 : iI s13 96 = x := by rw [hs13]; exact iI_u ⟨by first | exact p0.1 | omega, by first | exact p0.2 | omega⟩
      have ws13_73 : iI s13 73 = iI s8 73 := by rw [hs13]; rfl
      refine z_load_n X (x := (iI s8 96)) (show cdA 268 40 = some (.iload_n 2, 1, 0, 0, 0) from rfl) (List.Mem.head _) ?_
      exact w_iret X.1 q hRt rfl (ax_d X (show cdA 268 41 = some (.ireturn, 1, 0, 0, 0) from rfl)) (Nat.zero_le _) (Nat.zero_le _) ⟨_, rfl, Is13, Fs13, (iI s8 96), rfl, (rng_to _), by first | exact oq_28d6abd1 ws13_73 vs13 g11 ws8_96 b10.1 hps8 he7 hps4 ws3_96 vs3 | omega⟩
    ·
      refine z_const X (show cdA 268 28 = some (.iconst 0, 1, 0, 0, 0) from rfl) ?_
      exact w_iret X.1 q hRt rfl (ax_d X (show cdA 268 29 = some (.ireturn, 1, 0, 0, 0) from rfl)) (Nat.zero_le _) (Nat.zero_le _) ⟨_, rfl, Is8, Gs8, 0, rfl, (by decide), by first | exact oq_613a2f50 g11 ws8_96 hps8 he7 hps4 ws3_96 vs3 | omega⟩
  refine z_if_ne X (t := 20) (show cdA 268 13 = some (.ifCond .ne 7, 3, 1, 0, 0) from rfl) (by decide) hrs4 (fun g14 => ?_) (fun g14 => ?_)
  ·
    refine z_const X (show cdA 268 20 = some (.iconst 0, 1, 0, 0, 0) from rfl) ?_
    exact N6 _ (Or.inl ⟨g14, rfl⟩)
  ·
    refine z_const X (show cdA 268 16 = some (.iconst 1, 1, 0, 0, 0) from rfl) ?_
    refine z_goto X (t := 21) (show cdA 268 17 = some (.goto 4, 3, 0, 0, 0) from rfl) (by decide) ?_
    exact N6 _ (Or.inr (⟨g14, rfl⟩))
set_option maxRecDepth 4000 in
theorem k_hours2 (G : GX l s0 D tys a0 dT) (I : Bd s) {x y : Int} (p0 : rng x) (p1 : rng y) : CT l s0 D A dT 273 (rmN 273) [.ref (A 179), .int (Int32.ofInt x), .int (Int32.ofInt y)] s (fun o t => Bd t ∧ Fm [73, 102, 103] [] s t ∧ ∃ e, o = .inl (some (.int (Int32.ofInt e))) ∧ rng e ∧ (((x = 0 ∧ 1 ≤ y ∧ y ≤ 24 ∧ iI t 73 = 0 ∧ e = iI s 102 ∧ iI t 102 = y ∧ iI t 103 = iI s 103) ∨ (x = 1 ∧ 1 ≤ y ∧ y ≤ 8 ∧ iI t 73 = 0 ∧ e = iI s 103 ∧ iI t 103 = y ∧ iI t 102 = iI s 102) ∨ ((x < 0 ∨ 1 < x ∨ y < 1 ∨ (x = 0 ∧ 24 < y) ∨ (x = 1 ∧ 8 < y)) ∧ iI t 73 = 1 ∧ iI t 102 = iI s 102 ∧ iI t 103 = iI s 103)))) := by
  refine ct_of G (by decide) (Nat.le_of_ble_eq_true rfl) (fun k X E hRt hXt q => ?_)
  show WS k 0 [(0, .ref (A 179)), (1, .int (Int32.ofInt x)), (2, .int (Int32.ofInt y))] [] _ 0 0
  have F : Fm [73, 102, 103] [] s s := fm_rf _ _ s
  have b1 : (0 : Int) ≤ iI s 73 ∧ iI s 73 ≤ 3 := I.1 73
  have b2 : (1 : Int) ≤ iI s 102 ∧ iI s 102 ≤ 24 := I.1 102
  have b3 : (1 : Int) ≤ iI s 103 ∧ iI s 103 ≤ 8 := I.1 103
  refine z_aload_n X (x := A 179) (show cdA 273 0 = some (.aload_n 0, 1, 0, 0, 0) from rfl) (List.Mem.head _) ?_
  refine z_const X (show cdA 273 1 = some (.iconst 0, 1, 0, 0, 0) from rfl) ?_
  refine s_putI X 179 (show cdA 273 2 = some (.putfield 172, 3, 12, 0, 0) from rfl) (by decide) rfl rfl (by decide) rfl rfl rfl ?_
  obtain ⟨s4, hs4⟩ : ∃ x0, x0 = uI s 73 (Int32.ofInt 0) := ⟨_, rfl⟩
  rw [← hs4]
  have Is4 : Bd s4 := by rw [hs4]; exact bd_I I (show (0 : Int) ≤ 0 ∧ 0 ≤ 3 by first | exact ⟨by decide, by decide⟩ | omega) (by decide)
  have Fs4 := fm_I (x := Int32.ofInt 0) F (show 73 ∈ _ by decide)
  rw [← hs4] at Fs4
  have vs4 : iI s4 73 = 0 := by rw [hs4]; exact iI_u (by decide)
  have ws4_102 : iI s4 102 = iI s 102 := by rw [hs4]; rfl
  have ws4_103 : iI s4 103 = iI s 103 := by rw [hs4]; rfl
  refine z_aload_n X (x := A 179) (show cdA 273 5 = some (.aload_n 0, 1, 0, 0, 0) from rfl) (List.Mem.head _) ?_
  refine z_load_n X (x := x) (show cdA 273 6 = some (.iload_n 1, 1, 0, 0, 0) from rfl) (List.Mem.tail _ (List.Mem.head _)) ?_
  refine z_const X (show cdA 273 7 = some (.iconst 0, 1, 0, 0, 0) from rfl) ?_
  refine z_const X (show cdA 273 8 = some (.iconst 1, 1, 0, 0, 0) from rfl) ?_
  refine z_callS X (rm := rmN 188) (As := [.int (Int32.ofInt x), .int (Int32.ofInt 0), .int (Int32.ofInt 1)]) (st := [.ref (A 179)]) (show cdA 273 9 = some (.invokestatic 209, 3, 188, 1, 0) from rfl) rfl (by rw [E.1, E.2.1, E.2.2.1]; exact k_in2 G Is4 (by first | exact ⟨p0.1, p0.2⟩ | omega) (by first | exact ⟨by decide, by decide⟩ | omega) (by first | exact ⟨by decide, by decide⟩ | omega)) ⟨by rw [E.2.2.2]; exact (show (rmN 188).frames + 1 ≤ (rmN 273).frames by decide), by rw [E.2.2.2]; exact (show 8 + (mNL (miB 188) + 11) + (rmN 188).locals ≤ (rmN 273).locals by decide), by rw [E.2.2.2]; exact (show 0 + (rmN 188).cells ≤ (rmN 273).cells by decide), by rw [E.2.2.2]; exact (show 0 + (rmN 188).slots ≤ (rmN 273).slots by decide)⟩ (Nat.le_of_ble_eq_true rfl) (fun vv s5 hq => ?_) (fun ee s5 hq => ?_)
  rotate_left
  · obtain ⟨rfl, e6, hv, hrs5, hps5⟩ := hq; cases hv
  obtain ⟨rfl, e6, hv, hrs5, hps5⟩ := hq
  cases hv
  show WS k 12 [(0, .ref (A 179)), (1, .int (Int32.ofInt x)), (2, .int (Int32.ofInt y))] [.int (Int32.ofInt e6), .ref (A 179)] (Wd A dT s4) 0 0
  refine z_if_eq X (t := 34) (show cdA 273 12 = some (.ifCond .eq 22, 3, 0, 0, 0) from rfl) (by decide) hrs5 (fun g7 => ?_) (fun g7 => ?_)
  ·
    refine z_const X (show cdA 273 34 = some (.iconst 1, 1, 0, 0, 0) from rfl) ?_
    refine z_goto X (t := 39) (show cdA 273 35 = some (.goto 4, 3, 0, 0, 0) from rfl) (by decide) ?_
    refine z_const X (show cdA 273 39 = some (.iconst 1, 1, 0, 0, 0) from rfl) ?_
    refine z_callV X 179 (rm := rmN 187) (As := [.int (Int32.ofInt 1), .int (Int32.ofInt 1)]) (st := []) (show cdA 273 40 = some (.invokevirtual 229, 3, 187, 0, 0) from rfl) rfl (by decide) rfl (by rw [E.1, E.2.1, E.2.2.1]; exact k_bad2 G Is4 (by first | exact Or.inr (by decide) | omega) (by first | exact ⟨by decide, by decide⟩ | omega)) ⟨by rw [E.2.2.2]; exact (show (rmN 187).frames + 1 ≤ (rmN 273).frames by decide), by rw [E.2.2.2]; exact (show 8 + (mNL (miB 187) + 11) + (rmN 187).locals ≤ (rmN 273).locals by decide), by rw [E.2.2.2]; exact (show 0 + (rmN 187).cells ≤ (rmN 273).cells by decide), by rw [E.2.2.2]; exact (show 0 + (rmN 187).slots ≤ (rmN 273).slots by decide)⟩ (Nat.le_of_ble_eq_true rfl) (fun vv s8 hq => ?_) (fun ee s8 hq => ?_)
    rotate_left
    · obtain ⟨Is8, Fs8, e9, hv, hrs8, hps8⟩ := hq; cases hv
    obtain ⟨Is8, Fs8, e9, hv, hrs8, hps8⟩ := hq
    cases hv
    have Gs8 := fm_ts Fs4 Fs8 (by decide) (by decide)
    have b10 : (0 : Int) ≤ iI s8 73 ∧ iI s8 73 ≤ 3 := Is8.1 73
    have ws8_102 : iI s8 102 = iI s4 102 := fm_i Fs8 (by decide)
    have ws8_103 : iI s8 103 = iI s4 103 := fm_i Fs8 (by decide)
    show WS k 43 [(0, .ref (A 179)), (1, .int (Int32.ofInt x)), (2, .int (Int32.ofInt y))] [.int (Int32.ofInt e9)] (Wd A dT s8) 0 0
    refine z_if_eq X (t := 48) (show cdA 273 43 = some (.ifCond .eq 5, 3, 0, 0, 0) from rfl) (by decide) hrs8 (fun g11 => ?_) (fun g11 => ?_)
    ·
      refine z_load_n X (x := x) (show cdA 273 48 = some (.iload_n 1, 1, 0, 0, 0) from rfl) (List.Mem.tail _ (List.Mem.head _)) ?_
      have N12 : ∀ e13 : Int, (((x ≠ 0) ∧ ((1 : Int) ≤ iI s8 103 ∧ iI s8 103 ≤ 8) ∧ e13 = (iI s8 103)) ∨ ((x = 0) ∧ ((1 : Int) ≤ iI s8 102 ∧ iI s8 102 ≤ 24) ∧ e13 = (iI s8 102))) → WS k 63 [(0, .ref (A 179)), (1, .int (Int32.ofInt x)), (2, .int (Int32.ofInt y))] [.int (Int32.ofInt e13)] (Wd A dT s8) 0 0 := by
        intro e13 he13
        refine z_store_n X (lv' := [(3, .int (Int32.ofInt e13)), (0, .ref (A 179)), (1, .int (Int32.ofInt x)), (2, .int (Int32.ofInt y))]) (show cdA 273 63 = some (.istore_n 3, 1, 0, 0, 0) from rfl) (by decide) (fun _ h => h) ?_
        refine z_load_n X (x := x) (show cdA 273 64 = some (.iload_n 1, 1, 0, 0, 0) from rfl) (List.Mem.tail _ (List.Mem.tail _ (List.Mem.head _))) ?_
        refine z_if_ne X (t := 76) (show cdA 273 65 = some (.ifCond .ne 11, 3, 1, 0, 0) from rfl) (by decide) ⟨by first | exact p0.1 | omega, by first | exact p0.2 | omega⟩ (fun g14 => ?_) (fun g14 => ?_)
        ·
          refine z_aload_n X (x := A 179) (show cdA 273 76 = some (.aload_n 0, 1, 0, 0, 0) from rfl) (List.Mem.tail _ (List.Mem.head _)) ?_
          refine z_load_n X (x := y) (show cdA 273 77 = some (.iload_n 2, 1, 0, 0, 0) from rfl) (List.Mem.tail _ (List.Mem.tail _ (List.Mem.tail _ (List.Mem.head _)))) ?_
          refine s_putI X 179 (show cdA 273 78 = some (.putfield 133, 3, 12, 64, 0) from rfl) (by decide) rfl rfl (by decide) rfl rfl rfl ?_
          obtain ⟨s15, hs15⟩ : ∃ x0, x0 = uI s8 103 (Int32.ofInt y) := ⟨_, rfl⟩
          rw [← hs15]
          have Is15 : Bd s15 := by rw [hs15]; exact bd_I Is8 (show (1 : Int) ≤ y ∧ y ≤ 8 by first | exact ⟨oq_9b39ac49 g11 hps8 vs4, oq_e5a72ab8 g11 hps8 vs4⟩ | omega) ⟨by first | exact p1.1 | omega, by first | exact p1.2 | omega⟩
          have Fs15 := fm_I (x := Int32.ofInt y) Gs8 (show 103 ∈ _ by decide)
          rw [← hs15] at Fs15
          have vs15 : iI s15 103 = y := by rw [hs15]; exact iI_u ⟨by first | exact p1.1 | omega, by first | exact p1.2 | omega⟩
          have ws15_73 : iI s15 73 = iI s8 73 := by rw [hs15]; rfl
          have ws15_102 : iI s15 102 = iI s8 102 := by rw [hs15]; rfl
          refine z_load_n X (x := e13) (show cdA 273 81 = some (.iload_n 3, 1, 0, 0, 0) from rfl) (List.Mem.head _) ?_
          exact w_iret X.1 q hRt rfl (ax_d X (show cdA 273 82 = some (.ireturn, 1, 0, 0, 0) from rfl)) (Nat.zero_le _) (Nat.zero_le _) ⟨_, rfl, Is15, Fs15, e13, rfl, ⟨by first | exact oq_62abe554 he13 | omega, by first | exact oq_c46c61bd he13 | omega⟩, by first | exact oq_c9e17522 g11 hps8 vs4 | omega⟩
        ·
          refine z_aload_n X (x := A 179) (show cdA 273 68 = some (.aload_n 0, 1, 0, 0, 0) from rfl) (List.Mem.tail _ (List.Mem.head _)) ?_
          refine z_load_n X (x := y) (show cdA 273 69 = some (.iload_n 2, 1, 0, 0, 0) from rfl) (List.Mem.tail _ (List.Mem.tail _ (List.Mem.tail _ (List.Mem.head _)))) ?_
          refine s_putI X 179 (show cdA 273 70 = some (.putfield 130, 3, 12, 63, 0) from rfl) (by decide) rfl rfl (by decide) rfl rfl rfl ?_
          obtain ⟨s16, hs16⟩ : ∃ x0, x0 = uI s8 102 (Int32.ofInt y) := ⟨_, rfl⟩
          rw [← hs16]
          have Is16 : Bd s16 := by rw [hs16]; exact bd_I Is8 (show (1 : Int) ≤ y ∧ y ≤ 24 by first | exact ⟨oq_7a39abe9 g14 g7 hps5, oq_fc8cbade g14 g7 hps5⟩ | omega) ⟨by first | exact p1.1 | omega, by first | exact p1.2 | omega⟩
          have Fs16 := fm_I (x := Int32.ofInt y) Gs8 (show 102 ∈ _ by decide)
          rw [← hs16] at Fs16
          have vs16 : iI s16 102 = y := by rw [hs16]; exact iI_u ⟨by first | exact p1.1 | omega, by first | exact p1.2 | omega⟩
          have ws16_73 : iI s16 73 = iI s8 73 := by rw [hs16]; rfl
          have ws16_103 : iI s16 103 = iI s8 103 := by rw [hs16]; rfl
          refine z_goto X (t := 81) (show cdA 273 73 = some (.goto 8, 3, 0, 0, 0) from rfl) (by decide) ?_
          refine z_load_n X (x := e13) (show cdA 273 81 = some (.iload_n 3, 1, 0, 0, 0) from rfl) (List.Mem.head _) ?_
          exact w_iret X.1 q hRt rfl (ax_d X (show cdA 273 82 = some (.ireturn, 1, 0, 0, 0) from rfl)) (Nat.zero_le _) (Nat.zero_le _) ⟨_, rfl, Is16, Fs16, e13, rfl, ⟨by first | exact oq_62abe554 he13 | omega, by first | exact oq_c46c61bd he13 | omega⟩, by first | exact oq_f46bafd9 g14 g7 hps5 | omega⟩
      refine z_if_ne X (t := 59) (show cdA 273 49 = some (.ifCond .ne 10, 3, 1, 0, 0) from rfl) (by decide) ⟨by first | exact p0.1 | omega, by first | exact p0.2 | omega⟩ (fun g17 => ?_) (fun g17 => ?_)
      ·
        refine z_aload_n X (x := A 179) (show cdA 273 59 = some (.aload_n 0, 1, 0, 0, 0) from rfl) (List.Mem.head _) ?_
        refine z_getI X 179 (show cdA 273 60 = some (.getfield 133, 3, 12, 64, 0) from rfl) (by decide) rfl rfl ?_
        have b18 : (1 : Int) ≤ iI s8 103 ∧ iI s8 103 ≤ 8 := Is8.1 103
        exact N12 _ (Or.inl ⟨g17, b18, rfl⟩)
      ·
        refine z_aload_n X (x := A 179) (show cdA 273 52 = some (.aload_n 0, 1, 0, 0, 0) from rfl) (List.Mem.head _) ?_
        refine z_getI X 179 (show cdA 273 53 = some (.getfield 130, 3, 12, 63, 0) from rfl) (by decide) rfl rfl ?_
        have b19 : (1 : Int) ≤ iI s8 102 ∧ iI s8 102 ≤ 24 := Is8.1 102
        refine z_goto X (t := 63) (show cdA 273 56 = some (.goto 7, 3, 0, 0, 0) from rfl) (by decide) ?_
        exact N12 _ (Or.inr (⟨g17, b19, rfl⟩))
    ·
      refine z_const X (show cdA 273 46 = some (.iconst 0, 1, 0, 0, 0) from rfl) ?_
      exact w_iret X.1 q hRt rfl (ax_d X (show cdA 273 47 = some (.ireturn, 1, 0, 0, 0) from rfl)) (Nat.zero_le _) (Nat.zero_le _) ⟨_, rfl, Is8, Gs8, 0, rfl, (by decide), by first | exact oq_fe5360f9 g11 ws8_103 ws8_102 hps8 g7 hps5 ws4_103 ws4_102 vs4 | omega⟩
  ·
    refine z_load_n X (x := y) (show cdA 273 15 = some (.iload_n 2, 1, 0, 0, 0) from rfl) (List.Mem.tail _ (List.Mem.tail _ (List.Mem.head _))) ?_
    refine z_const X (show cdA 273 16 = some (.iconst 1, 1, 0, 0, 0) from rfl) ?_
    refine z_load_n X (x := x) (show cdA 273 17 = some (.iload_n 1, 1, 0, 0, 0) from rfl) (List.Mem.tail _ (List.Mem.head _)) ?_
    have N20 : ∀ e21 : Int, (((x ≠ 0) ∧ e21 = 8) ∨ ((x = 0) ∧ e21 = 24)) → WS k 28 [(0, .ref (A 179)), (1, .int (Int32.ofInt x)), (2, .int (Int32.ofInt y))] [.int (Int32.ofInt e21), .int (Int32.ofInt 1), .int (Int32.ofInt y), .ref (A 179)] (Wd A dT s4) 0 0 := by
      intro e21 he21
      have re21 : 8 ≤ e21 ∧ e21 ≤ 24 := by omega
      refine z_callS X (rm := rmN 188) (As := [.int (Int32.ofInt y), .int (Int32.ofInt 1), .int (Int32.ofInt e21)]) (st := [.ref (A 179)]) (show cdA 273 28 = some (.invokestatic 209, 3, 188, 1, 0) from rfl) rfl (by rw [E.1, E.2.1, E.2.2.1]; exact k_in2 G Is4 (by first | exact ⟨p1.1, p1.2⟩ | omega) (by first | exact ⟨by decide, by decide⟩ | omega) (by first | exact ⟨oq_ebc40354 re21.1, oq_5bcd337f re21.2⟩ | omega)) ⟨by rw [E.2.2.2]; exact (show (rmN 188).frames + 1 ≤ (rmN 273).frames by decide), by rw [E.2.2.2]; exact (show 8 + (mNL (miB 188) + 11) + (rmN 188).locals ≤ (rmN 273).locals by decide), by rw [E.2.2.2]; exact (show 0 + (rmN 188).cells ≤ (rmN 273).cells by decide), by rw [E.2.2.2]; exact (show 0 + (rmN 188).slots ≤ (rmN 273).slots by decide)⟩ (Nat.le_of_ble_eq_true rfl) (fun vv s22 hq => ?_) (fun ee s22 hq => ?_)
      rotate_left
      · obtain ⟨rfl, e23, hv, hrs22, hps22⟩ := hq; cases hv
      obtain ⟨rfl, e23, hv, hrs22, hps22⟩ := hq
      cases hv
      show WS k 31 [(0, .ref (A 179)), (1, .int (Int32.ofInt x)), (2, .int (Int32.ofInt y))] [.int (Int32.ofInt e23), .ref (A 179)] (Wd A dT s4) 0 0
      have N24 : ∀ e25 : Int, (((e23 ≠ 0) ∧ e25 = 0) ∨ ((e23 = 0) ∧ e25 = 1)) → WS k 39 [(0, .ref (A 179)), (1, .int (Int32.ofInt x)), (2, .int (Int32.ofInt y))] [.int (Int32.ofInt e25), .ref (A 179)] (Wd A dT s4) 0 0 := by
        intro e25 he25
        have re25 : 0 ≤ e25 ∧ e25 ≤ 1 := by omega
        refine z_const X (show cdA 273 39 = some (.iconst 1, 1, 0, 0, 0) from rfl) ?_
        refine z_callV X 179 (rm := rmN 187) (As := [.int (Int32.ofInt e25), .int (Int32.ofInt 1)]) (st := []) (show cdA 273 40 = some (.invokevirtual 229, 3, 187, 0, 0) from rfl) rfl (by decide) rfl (by rw [E.1, E.2.1, E.2.2.1]; exact k_bad2 G Is4 (by first | exact oq_31e518ae re25.2 re25.1 | omega) (by first | exact ⟨by decide, by decide⟩ | omega)) ⟨by rw [E.2.2.2]; exact (show (rmN 187).frames + 1 ≤ (rmN 273).frames by decide), by rw [E.2.2.2]; exact (show 8 + (mNL (miB 187) + 11) + (rmN 187).locals ≤ (rmN 273).locals by decide), by rw [E.2.2.2]; exact (show 0 + (rmN 187).cells ≤ (rmN 273).cells by decide), by rw [E.2.2.2]; exact (show 0 + (rmN 187).slots ≤ (rmN 273).slots by decide)⟩ (Nat.le_of_ble_eq_true rfl) (fun vv s26 hq => ?_) (fun ee s26 hq => ?_)
        rotate_left
        · obtain ⟨Is26, Fs26, e27, hv, hrs26, hps26⟩ := hq; cases hv
        obtain ⟨Is26, Fs26, e27, hv, hrs26, hps26⟩ := hq
        cases hv
        have Gs26 := fm_ts Fs4 Fs26 (by decide) (by decide)
        have b28 : (0 : Int) ≤ iI s26 73 ∧ iI s26 73 ≤ 3 := Is26.1 73
        have ws26_102 : iI s26 102 = iI s4 102 := fm_i Fs26 (by decide)
        have ws26_103 : iI s26 103 = iI s4 103 := fm_i Fs26 (by decide)
        show WS k 43 [(0, .ref (A 179)), (1, .int (Int32.ofInt x)), (2, .int (Int32.ofInt y))] [.int (Int32.ofInt e27)] (Wd A dT s26) 0 0
        refine z_if_eq X (t := 48) (show cdA 273 43 = some (.ifCond .eq 5, 3, 0, 0, 0) from rfl) (by decide) hrs26 (fun g29 => ?_) (fun g29 => ?_)
        ·
          refine z_load_n X (x := x) (show cdA 273 48 = some (.iload_n 1, 1, 0, 0, 0) from rfl) (List.Mem.tail _ (List.Mem.head _)) ?_
          have N30 : ∀ e31 : Int, (((x ≠ 0) ∧ ((1 : Int) ≤ iI s26 103 ∧ iI s26 103 ≤ 8) ∧ e31 = (iI s26 103)) ∨ ((x = 0) ∧ ((1 : Int) ≤ iI s26 102 ∧ iI s26 102 ≤ 24) ∧ e31 = (iI s26 102))) → WS k 63 [(0, .ref (A 179)), (1, .int (Int32.ofInt x)), (2, .int (Int32.ofInt y))] [.int (Int32.ofInt e31)] (Wd A dT s26) 0 0 := by
            intro e31 he31
            refine z_store_n X (lv' := [(3, .int (Int32.ofInt e31)), (0, .ref (A 179)), (1, .int (Int32.ofInt x)), (2, .int (Int32.ofInt y))]) (show cdA 273 63 = some (.istore_n 3, 1, 0, 0, 0) from rfl) (by decide) (fun _ h => h) ?_
            refine z_load_n X (x := x) (show cdA 273 64 = some (.iload_n 1, 1, 0, 0, 0) from rfl) (List.Mem.tail _ (List.Mem.tail _ (List.Mem.head _))) ?_
            refine z_if_ne X (t := 76) (show cdA 273 65 = some (.ifCond .ne 11, 3, 1, 0, 0) from rfl) (by decide) ⟨by first | exact p0.1 | omega, by first | exact p0.2 | omega⟩ (fun g32 => ?_) (fun g32 => ?_)
            ·
              refine z_aload_n X (x := A 179) (show cdA 273 76 = some (.aload_n 0, 1, 0, 0, 0) from rfl) (List.Mem.tail _ (List.Mem.head _)) ?_
              refine z_load_n X (x := y) (show cdA 273 77 = some (.iload_n 2, 1, 0, 0, 0) from rfl) (List.Mem.tail _ (List.Mem.tail _ (List.Mem.tail _ (List.Mem.head _)))) ?_
              refine s_putI X 179 (show cdA 273 78 = some (.putfield 133, 3, 12, 64, 0) from rfl) (by decide) rfl rfl (by decide) rfl rfl rfl ?_
              obtain ⟨s33, hs33⟩ : ∃ x0, x0 = uI s26 103 (Int32.ofInt y) := ⟨_, rfl⟩
              rw [← hs33]
              have Is33 : Bd s33 := by rw [hs33]; exact bd_I Is26 (show (1 : Int) ≤ y ∧ y ≤ 8 by first | exact ⟨oq_ce4216d5 g29 hps26 he25 hps22 vs4, oq_880c914d g32 g29 hps26 he25 hps22 he21 g7 hps5 vs4⟩ | omega) ⟨by first | exact p1.1 | omega, by first | exact p1.2 | omega⟩
              have Fs33 := fm_I (x := Int32.ofInt y) Gs26 (show 103 ∈ _ by decide)
              rw [← hs33] at Fs33
              have vs33 : iI s33 103 = y := by rw [hs33]; exact iI_u ⟨by first | exact p1.1 | omega, by first | exact p1.2 | omega⟩
              have ws33_73 : iI s33 73 = iI s26 73 := by rw [hs33]; rfl
              have ws33_102 : iI s33 102 = iI s26 102 := by rw [hs33]; rfl
              refine z_load_n X (x := e31) (show cdA 273 81 = some (.iload_n 3, 1, 0, 0, 0) from rfl) (List.Mem.head _) ?_
              exact w_iret X.1 q hRt rfl (ax_d X (show cdA 273 82 = some (.ireturn, 1, 0, 0, 0) from rfl)) (Nat.zero_le _) (Nat.zero_le _) ⟨_, rfl, Is33, Fs33, e31, rfl, ⟨by first | exact oq_62abe554 he31 | omega, by first | exact oq_c46c61bd he31 | omega⟩, by omega⟩
            ·
              refine z_aload_n X (x := A 179) (show cdA 273 68 = some (.aload_n 0, 1, 0, 0, 0) from rfl) (List.Mem.tail _ (List.Mem.head _)) ?_
              refine z_load_n X (x := y) (show cdA 273 69 = some (.iload_n 2, 1, 0, 0, 0) from rfl) (List.Mem.tail _ (List.Mem.tail _ (List.Mem.tail _ (List.Mem.head _)))) ?_
              refine s_putI X 179 (show cdA 273 70 = some (.putfield 130, 3, 12, 63, 0) from rfl) (by decide) rfl rfl (by decide) rfl rfl rfl ?_
              obtain ⟨s34, hs34⟩ : ∃ x0, x0 = uI s26 102 (Int32.ofInt y) := ⟨_, rfl⟩
              rw [← hs34]
              have Is34 : Bd s34 := by rw [hs34]; exact bd_I Is26 (show (1 : Int) ≤ y ∧ y ≤ 24 by first | exact ⟨oq_ce4216d5 g29 hps26 he25 hps22 vs4, oq_60133a6a g29 hps26 he25 hps22 re21.2 vs4⟩ | omega) ⟨by first | exact p1.1 | omega, by first | exact p1.2 | omega⟩
              have Fs34 := fm_I (x := Int32.ofInt y) Gs26 (show 102 ∈ _ by decide)
              rw [← hs34] at Fs34
              have vs34 : iI s34 102 = y := by rw [hs34]; exact iI_u ⟨by first | exact p1.1 | omega, by first | exact p1.2 | omega⟩
              have ws34_73 : iI s34 73 = iI s26 73 := by rw [hs34]; rfl
              have ws34_103 : iI s34 103 = iI s26 103 := by rw [hs34]; rfl
              refine z_goto X (t := 81) (show cdA 273 73 = some (.goto 8, 3, 0, 0, 0) from rfl) (by decide) ?_
              refine z_load_n X (x := e31) (show cdA 273 81 = some (.iload_n 3, 1, 0, 0, 0) from rfl) (List.Mem.head _) ?_
              exact w_iret X.1 q hRt rfl (ax_d X (show cdA 273 82 = some (.ireturn, 1, 0, 0, 0) from rfl)) (Nat.zero_le _) (Nat.zero_le _) ⟨_, rfl, Is34, Fs34, e31, rfl, ⟨by first | exact oq_62abe554 he31 | omega, by first | exact oq_c46c61bd he31 | omega⟩, by first | exact oq_1d2c940e ws34_103 ws34_73 vs34 g32 he31 g29 ws26_103 ws26_102 b28.1 hps26 he25 hps22 re21.2 ws4_103 ws4_102 vs4 | omega⟩
          refine z_if_ne X (t := 59) (show cdA 273 49 = some (.ifCond .ne 10, 3, 1, 0, 0) from rfl) (by decide) ⟨by first | exact p0.1 | omega, by first | exact p0.2 | omega⟩ (fun g35 => ?_) (fun g35 => ?_)
          ·
            refine z_aload_n X (x := A 179) (show cdA 273 59 = some (.aload_n 0, 1, 0, 0, 0) from rfl) (List.Mem.head _) ?_
            refine z_getI X 179 (show cdA 273 60 = some (.getfield 133, 3, 12, 64, 0) from rfl) (by decide) rfl rfl ?_
            have b36 : (1 : Int) ≤ iI s26 103 ∧ iI s26 103 ≤ 8 := Is26.1 103
            exact N30 _ (Or.inl ⟨g35, b36, rfl⟩)
          ·
            refine z_aload_n X (x := A 179) (show cdA 273 52 = some (.aload_n 0, 1, 0, 0, 0) from rfl) (List.Mem.head _) ?_
            refine z_getI X 179 (show cdA 273 53 = some (.getfield 130, 3, 12, 63, 0) from rfl) (by decide) rfl rfl ?_
            have b37 : (1 : Int) ≤ iI s26 102 ∧ iI s26 102 ≤ 24 := Is26.1 102
            refine z_goto X (t := 63) (show cdA 273 56 = some (.goto 7, 3, 0, 0, 0) from rfl) (by decide) ?_
            exact N30 _ (Or.inr (⟨g35, b37, rfl⟩))
        ·
          refine z_const X (show cdA 273 46 = some (.iconst 0, 1, 0, 0, 0) from rfl) ?_
          exact w_iret X.1 q hRt rfl (ax_d X (show cdA 273 47 = some (.ireturn, 1, 0, 0, 0) from rfl)) (Nat.zero_le _) (Nat.zero_le _) ⟨_, rfl, Is26, Gs26, 0, rfl, (by decide), by omega⟩
      refine z_if_ne X (t := 38) (show cdA 273 31 = some (.ifCond .ne 7, 3, 1, 0, 0) from rfl) (by decide) hrs22 (fun g38 => ?_) (fun g38 => ?_)
      ·
        refine z_const X (show cdA 273 38 = some (.iconst 0, 1, 0, 0, 0) from rfl) ?_
        exact N24 _ (Or.inl ⟨g38, rfl⟩)
      ·
        refine z_const X (show cdA 273 34 = some (.iconst 1, 1, 0, 0, 0) from rfl) ?_
        refine z_goto X (t := 39) (show cdA 273 35 = some (.goto 4, 3, 0, 0, 0) from rfl) (by decide) ?_
        exact N24 _ (Or.inr (⟨g38, rfl⟩))
    refine z_if_ne X (t := 26) (show cdA 273 18 = some (.ifCond .ne 8, 3, 1, 0, 0) from rfl) (by decide) ⟨by first | exact p0.1 | omega, by first | exact p0.2 | omega⟩ (fun g39 => ?_) (fun g39 => ?_)
    ·
      refine z_bipush X (show cdA 273 26 = some (.bipush 8, 2, 0, 0, 8) from rfl) ?_
      exact N20 _ (Or.inl ⟨g39, rfl⟩)
    ·
      refine z_bipush X (show cdA 273 21 = some (.bipush 24, 2, 0, 0, 24) from rfl) ?_
      refine z_goto X (t := 28) (show cdA 273 23 = some (.goto 5, 3, 0, 0, 0) from rfl) (by decide) ?_
      exact N20 _ (Or.inr (⟨g39, rfl⟩))
set_option maxRecDepth 4000 in
theorem k_configure2 (G : GX l s0 D tys a0 dT) (I : Bd s) {x : Int} (p0 : rng x) : CT l s0 D A dT 264 (rmN 264) [.ref (A 179), .int (Int32.ofInt x)] s (fun o t => Bd t ∧ Fm [73, 99] [237] s t ∧ ∃ e, o = .inl (some (.int (Int32.ofInt e))) ∧ rng e ∧ (((0 ≤ x ∧ x < 16777216 ∧ iI t 73 = 0 ∧ ((iI s 99 = 6 ∧ e = -1 ∧ iI t 99 = 6) ∨ (iI s 99 ≠ 6 ∧ e = iI s 99 ∧ iI t 99 = iI s 99 + 1))) ∨ ((x < 0 ∨ 16777216 ≤ x) ∧ iI t 73 = 1 ∧ iI t 99 = iI s 99)))) := by
  refine ct_of G (by decide) (Nat.le_of_ble_eq_true rfl) (fun k X E hRt hXt q => ?_)
  show WS k 0 [(0, .ref (A 179)), (1, .int (Int32.ofInt x))] [] _ 0 0
  have F : Fm [73, 99] [237] s s := fm_rf _ _ s
  have b1 : (0 : Int) ≤ iI s 73 ∧ iI s 73 ≤ 3 := I.1 73
  have b2 : (0 : Int) ≤ iI s 99 ∧ iI s 99 ≤ 6 := I.1 99
  refine z_aload_n X (x := A 179) (show cdA 264 0 = some (.aload_n 0, 1, 0, 0, 0) from rfl) (List.Mem.head _) ?_
  refine z_const X (show cdA 264 1 = some (.iconst 0, 1, 0, 0, 0) from rfl) ?_
  refine s_putI X 179 (show cdA 264 2 = some (.putfield 172, 3, 12, 0, 0) from rfl) (by decide) rfl rfl (by decide) rfl rfl rfl ?_
  obtain ⟨s3, hs3⟩ : ∃ x0, x0 = uI s 73 (Int32.ofInt 0) := ⟨_, rfl⟩
  rw [← hs3]
  have Is3 : Bd s3 := by rw [hs3]; exact bd_I I (show (0 : Int) ≤ 0 ∧ 0 ≤ 3 by first | exact ⟨by decide, by decide⟩ | omega) (by decide)
  have Fs3 := fm_I (x := Int32.ofInt 0) F (show 73 ∈ _ by decide)
  rw [← hs3] at Fs3
  have vs3 : iI s3 73 = 0 := by rw [hs3]; exact iI_u (by decide)
  have ws3_99 : iI s3 99 = iI s 99 := by rw [hs3]; rfl
  refine z_aload_n X (x := A 179) (show cdA 264 5 = some (.aload_n 0, 1, 0, 0, 0) from rfl) (List.Mem.head _) ?_
  refine z_load_n X (x := x) (show cdA 264 6 = some (.iload_n 1, 1, 0, 0, 0) from rfl) (List.Mem.tail _ (List.Mem.head _)) ?_
  refine z_if_lt X (t := 17) (show cdA 264 7 = some (.ifCond .lt 10, 3, 2, 0, 0) from rfl) (by decide) ⟨by first | exact p0.1 | omega, by first | exact p0.2 | omega⟩ (fun g4 => ?_) (fun g4 => ?_)
  ·
    refine z_const X (show cdA 264 17 = some (.iconst 1, 1, 0, 0, 0) from rfl) ?_
    refine z_goto X (t := 22) (show cdA 264 18 = some (.goto 4, 3, 0, 0, 0) from rfl) (by decide) ?_
    refine z_const X (show cdA 264 22 = some (.iconst 1, 1, 0, 0, 0) from rfl) ?_
    refine z_callV X 179 (rm := rmN 187) (As := [.int (Int32.ofInt 1), .int (Int32.ofInt 1)]) (st := []) (show cdA 264 23 = some (.invokevirtual 229, 3, 187, 0, 0) from rfl) rfl (by decide) rfl (by rw [E.1, E.2.1, E.2.2.1]; exact k_bad2 G Is3 (by first | exact Or.inr (by decide) | omega) (by first | exact ⟨by decide, by decide⟩ | omega)) ⟨by rw [E.2.2.2]; exact (show (rmN 187).frames + 1 ≤ (rmN 264).frames by decide), by rw [E.2.2.2]; exact (show 8 + (mNL (miB 187) + 11) + (rmN 187).locals ≤ (rmN 264).locals by decide), by rw [E.2.2.2]; exact (show 0 + (rmN 187).cells ≤ (rmN 264).cells by decide), by rw [E.2.2.2]; exact (show 0 + (rmN 187).slots ≤ (rmN 264).slots by decide)⟩ (Nat.le_of_ble_eq_true rfl) (fun vv s5 hq => ?_) (fun ee s5 hq => ?_)
    rotate_left
    · obtain ⟨Is5, Fs5, e6, hv, hrs5, hps5⟩ := hq; cases hv
    obtain ⟨Is5, Fs5, e6, hv, hrs5, hps5⟩ := hq
    cases hv
    have Gs5 := fm_ts Fs3 Fs5 (by decide) (by decide)
    have b7 : (0 : Int) ≤ iI s5 73 ∧ iI s5 73 ≤ 3 := Is5.1 73
    have ws5_99 : iI s5 99 = iI s3 99 := fm_i Fs5 (by decide)
    show WS k 26 [(0, .ref (A 179)), (1, .int (Int32.ofInt x))] [.int (Int32.ofInt e6)] (Wd A dT s5) 0 0
    refine z_if_eq X (t := 31) (show cdA 264 26 = some (.ifCond .eq 5, 3, 0, 0, 0) from rfl) (by decide) hrs5 (fun g8 => ?_) (fun g8 => ?_)
    ·
      refine z_aload_n X (x := A 179) (show cdA 264 31 = some (.aload_n 0, 1, 0, 0, 0) from rfl) (List.Mem.head _) ?_
      refine z_getI X 179 (show cdA 264 32 = some (.getfield 404, 3, 12, 48, 0) from rfl) (by decide) rfl rfl ?_
      have b9 : (0 : Int) ≤ iI s5 99 ∧ iI s5 99 ≤ 6 := Is5.1 99
      refine z_bipush X (show cdA 264 35 = some (.bipush 6, 2, 0, 0, 6) from rfl) ?_
      refine z_icmp_ne X (t := 42) (show cdA 264 37 = some (.if_icmp .ne 5, 3, 1, 0, 0) from rfl) (by decide) (rng_to _) (by decide) (fun g10 => ?_) (fun g10 => ?_)
      ·
        refine z_aload_n X (x := A 179) (show cdA 264 42 = some (.aload_n 0, 1, 0, 0, 0) from rfl) (List.Mem.head _) ?_
        refine s_getR X 179 (show cdA 264 43 = some (.getfield 101, 3, 12, 52, 0) from rfl) (by decide) rfl rfl ?_
        refine z_aload_n X (x := A 179) (show cdA 264 46 = some (.aload_n 0, 1, 0, 0, 0) from rfl) (List.Mem.head _) ?_
        refine z_getI X 179 (show cdA 264 47 = some (.getfield 404, 3, 12, 48, 0) from rfl) (by decide) rfl rfl ?_
        have b11 : (0 : Int) ≤ iI s5 99 ∧ iI s5 99 ≤ 6 := Is5.1 99
        refine z_load_n X (x := x) (show cdA 264 50 = some (.iload_n 1, 1, 0, 0, 0) from rfl) (List.Mem.tail _ (List.Mem.head _)) ?_
        refine z_ast X 265 (show cdA 264 51 = some (.iastore, 1, 0, 0, 0) from rfl) (by decide) rfl (by first | exact b11.1 | omega) (show (iI s5 99) < 6 by first | exact oq_fac8de0c b11.2 g10 | omega) (by decide) ?_
        obtain ⟨s12, hs12⟩ : ∃ x0, x0 = uC s5 237 ((iI s5 99)).toNat (Int32.ofInt x) := ⟨_, rfl⟩
        rw [← hs12]
        have Is12 : Bd s12 := by rw [hs12]; exact bd_C Is5 (show (0 : Int) ≤ x ∧ x ≤ 16777215 by first | exact ⟨oq_674898f9 g8 hps5 vs3, oq_c2c3ef0b g4⟩ | omega) ⟨by first | exact p0.1 | omega, by first | exact p0.2 | omega⟩
        have Fs12 := fm_C (i := ((iI s5 99)).toNat) (x := Int32.ofInt x) Gs5 (show 237 ∈ _ by decide)
        rw [← hs12] at Fs12
        have ws12_73 : iI s12 73 = iI s5 73 := by rw [hs12]; rfl
        have ws12_99 : iI s12 99 = iI s5 99 := by rw [hs12]; rfl
        refine z_aload_n X (x := A 179) (show cdA 264 52 = some (.aload_n 0, 1, 0, 0, 0) from rfl) (List.Mem.head _) ?_
        refine w_dup X.1 (ax_d X (show cdA 264 53 = some (.dup, 1, 0, 0, 0) from rfl)) rfl ?_
        refine z_getI X 179 (show cdA 264 54 = some (.getfield 404, 3, 12, 48, 0) from rfl) (by decide) rfl rfl ?_
        have b13 : (0 : Int) ≤ iI s12 99 ∧ iI s12 99 ≤ 6 := Is12.1 99
        refine z_const X (show cdA 264 57 = some (.iconst 1, 1, 0, 0, 0) from rfl) ?_
        refine z_add X (show cdA 264 58 = some (.iadd, 1, 0, 0, 0) from rfl) ?_
        refine s_putI X 179 (show cdA 264 59 = some (.putfield 404, 3, 12, 48, 0) from rfl) (by decide) rfl rfl (by decide) rfl rfl rfl ?_
        obtain ⟨s14, hs14⟩ : ∃ x0, x0 = uI s12 99 (Int32.ofInt ((iI s12 99) + 1)) := ⟨_, rfl⟩
        rw [← hs14]
        have Is14 : Bd s14 := by rw [hs14]; exact bd_I Is12 (show (0 : Int) ≤ ((iI s12 99) + 1) ∧ ((iI s12 99) + 1) ≤ 6 by first | exact ⟨oq_54f49eb5 b13.1, oq_6c19c907 ws12_99 b11.2 g10⟩ | omega) ⟨by first | exact oq_74de1e16 b13.1 | omega, by first | exact oq_5fe14c36 b13.2 | omega⟩
        have Fs14 := fm_I (x := Int32.ofInt ((iI s12 99) + 1)) Fs12 (show 99 ∈ _ by decide)
        rw [← hs14] at Fs14
        have vs14 : iI s14 99 = ((iI s12 99) + 1) := by rw [hs14]; exact iI_u ⟨by first | exact oq_74de1e16 b13.1 | omega, by first | exact oq_5fe14c36 b13.2 | omega⟩
        have ws14_73 : iI s14 73 = iI s12 73 := by rw [hs14]; rfl
        refine z_aload_n X (x := A 179) (show cdA 264 62 = some (.aload_n 0, 1, 0, 0, 0) from rfl) (List.Mem.head _) ?_
        refine z_getI X 179 (show cdA 264 63 = some (.getfield 404, 3, 12, 48, 0) from rfl) (by decide) rfl rfl ?_
        have b15 : (0 : Int) ≤ iI s14 99 ∧ iI s14 99 ≤ 6 := Is14.1 99
        refine z_const X (show cdA 264 66 = some (.iconst 1, 1, 0, 0, 0) from rfl) ?_
        refine z_sub X (show cdA 264 67 = some (.isub, 1, 0, 0, 0) from rfl) ?_
        exact w_iret X.1 q hRt rfl (ax_d X (show cdA 264 68 = some (.ireturn, 1, 0, 0, 0) from rfl)) (Nat.zero_le _) (Nat.zero_le _) ⟨_, rfl, Is14, Fs14, ((iI s14 99) - 1), rfl, ⟨by first | exact oq_c1e961c7 b15.1 | omega, by first | exact oq_b383b26c b15.2 | omega⟩, by first | exact oq_4be661e3 g8 hps5 vs3 | omega⟩
      ·
        refine z_const X (show cdA 264 40 = some (.iconst (-1), 1, 0, 0, 0) from rfl) ?_
        exact w_iret X.1 q hRt rfl (ax_d X (show cdA 264 41 = some (.ireturn, 1, 0, 0, 0) from rfl)) (Nat.zero_le _) (Nat.zero_le _) ⟨_, rfl, Is5, Gs5, (-1), rfl, (by decide), by first | exact oq_a9b13c05 g8 hps5 vs3 | omega⟩
    ·
      refine z_const X (show cdA 264 29 = some (.iconst 0, 1, 0, 0, 0) from rfl) ?_
      exact w_iret X.1 q hRt rfl (ax_d X (show cdA 264 30 = some (.ireturn, 1, 0, 0, 0) from rfl)) (Nat.zero_le _) (Nat.zero_le _) ⟨_, rfl, Is5, Gs5, 0, rfl, (by decide), by first | exact oq_33cebf6a g8 ws5_99 hps5 g4 ws3_99 vs3 | omega⟩
  ·
    refine z_load_n X (x := x) (show cdA 264 10 = some (.iload_n 1, 1, 0, 0, 0) from rfl) (List.Mem.tail _ (List.Mem.head _)) ?_
    refine z_ldcw X (show cdA 264 11 = some (.ldc_w 403, 3, 0, 0, 16777216) from rfl) ?_
    have N16 : ∀ e17 : Int, (((x < 16777216) ∧ e17 = 0) ∨ ((16777216 ≤ x) ∧ e17 = 1)) → WS k 22 [(0, .ref (A 179)), (1, .int (Int32.ofInt x))] [.int (Int32.ofInt e17), .ref (A 179)] (Wd A dT s3) 0 0 := by
      intro e17 he17
      have re17 : 0 ≤ e17 ∧ e17 ≤ 1 := by omega
      refine z_const X (show cdA 264 22 = some (.iconst 1, 1, 0, 0, 0) from rfl) ?_
      refine z_callV X 179 (rm := rmN 187) (As := [.int (Int32.ofInt e17), .int (Int32.ofInt 1)]) (st := []) (show cdA 264 23 = some (.invokevirtual 229, 3, 187, 0, 0) from rfl) rfl (by decide) rfl (by rw [E.1, E.2.1, E.2.2.1]; exact k_bad2 G Is3 (by first | exact oq_31e518ae re17.2 re17.1 | omega) (by first | exact ⟨by decide, by decide⟩ | omega)) ⟨by rw [E.2.2.2]; exact (show (rmN 187).frames + 1 ≤ (rmN 264).frames by decide), by rw [E.2.2.2]; exact (show 8 + (mNL (miB 187) + 11) + (rmN 187).locals ≤ (rmN 264).locals by decide), by rw [E.2.2.2]; exact (show 0 + (rmN 187).cells ≤ (rmN 264).cells by decide), by rw [E.2.2.2]; exact (show 0 + (rmN 187).slots ≤ (rmN 264).slots by decide)⟩ (Nat.le_of_ble_eq_true rfl) (fun vv s18 hq => ?_) (fun ee s18 hq => ?_)
      rotate_left
      · obtain ⟨Is18, Fs18, e19, hv, hrs18, hps18⟩ := hq; cases hv
      obtain ⟨Is18, Fs18, e19, hv, hrs18, hps18⟩ := hq
      cases hv
      have Gs18 := fm_ts Fs3 Fs18 (by decide) (by decide)
      have b20 : (0 : Int) ≤ iI s18 73 ∧ iI s18 73 ≤ 3 := Is18.1 73
      have ws18_99 : iI s18 99 = iI s3 99 := fm_i Fs18 (by decide)
      show WS k 26 [(0, .ref (A 179)), (1, .int (Int32.ofInt x))] [.int (Int32.ofInt e19)] (Wd A dT s18) 0 0
      refine z_if_eq X (t := 31) (show cdA 264 26 = some (.ifCond .eq 5, 3, 0, 0, 0) from rfl) (by decide) hrs18 (fun g21 => ?_) (fun g21 => ?_)
      ·
        refine z_aload_n X (x := A 179) (show cdA 264 31 = some (.aload_n 0, 1, 0, 0, 0) from rfl) (List.Mem.head _) ?_
        refine z_getI X 179 (show cdA 264 32 = some (.getfield 404, 3, 12, 48, 0) from rfl) (by decide) rfl rfl ?_
        have b22 : (0 : Int) ≤ iI s18 99 ∧ iI s18 99 ≤ 6 := Is18.1 99
        refine z_bipush X (show cdA 264 35 = some (.bipush 6, 2, 0, 0, 6) from rfl) ?_
        refine z_icmp_ne X (t := 42) (show cdA 264 37 = some (.if_icmp .ne 5, 3, 1, 0, 0) from rfl) (by decide) (rng_to _) (by decide) (fun g23 => ?_) (fun g23 => ?_)
        ·
          refine z_aload_n X (x := A 179) (show cdA 264 42 = some (.aload_n 0, 1, 0, 0, 0) from rfl) (List.Mem.head _) ?_
          refine s_getR X 179 (show cdA 264 43 = some (.getfield 101, 3, 12, 52, 0) from rfl) (by decide) rfl rfl ?_
          refine z_aload_n X (x := A 179) (show cdA 264 46 = some (.aload_n 0, 1, 0, 0, 0) from rfl) (List.Mem.head _) ?_
          refine z_getI X 179 (show cdA 264 47 = some (.getfield 404, 3, 12, 48, 0) from rfl) (by decide) rfl rfl ?_
          have b24 : (0 : Int) ≤ iI s18 99 ∧ iI s18 99 ≤ 6 := Is18.1 99
          refine z_load_n X (x := x) (show cdA 264 50 = some (.iload_n 1, 1, 0, 0, 0) from rfl) (List.Mem.tail _ (List.Mem.head _)) ?_
          refine z_ast X 265 (show cdA 264 51 = some (.iastore, 1, 0, 0, 0) from rfl) (by decide) rfl (by first | exact b24.1 | omega) (show (iI s18 99) < 6 by first | exact oq_fac8de0c b24.2 g23 | omega) (by decide) ?_
          obtain ⟨s25, hs25⟩ : ∃ x0, x0 = uC s18 237 ((iI s18 99)).toNat (Int32.ofInt x) := ⟨_, rfl⟩
          rw [← hs25]
          have Is25 : Bd s25 := by rw [hs25]; exact bd_C Is18 (show (0 : Int) ≤ x ∧ x ≤ 16777215 by first | exact ⟨g4, oq_f39aaab5 g21 hps18 he17 vs3⟩ | omega) ⟨by first | exact p0.1 | omega, by first | exact p0.2 | omega⟩
          have Fs25 := fm_C (i := ((iI s18 99)).toNat) (x := Int32.ofInt x) Gs18 (show 237 ∈ _ by decide)
          rw [← hs25] at Fs25
          have ws25_73 : iI s25 73 = iI s18 73 := by rw [hs25]; rfl
          have ws25_99 : iI s25 99 = iI s18 99 := by rw [hs25]; rfl
          refine z_aload_n X (x := A 179) (show cdA 264 52 = some (.aload_n 0, 1, 0, 0, 0) from rfl) (List.Mem.head _) ?_
          refine w_dup X.1 (ax_d X (show cdA 264 53 = some (.dup, 1, 0, 0, 0) from rfl)) rfl ?_
          refine z_getI X 179 (show cdA 264 54 = some (.getfield 404, 3, 12, 48, 0) from rfl) (by decide) rfl rfl ?_
          have b26 : (0 : Int) ≤ iI s25 99 ∧ iI s25 99 ≤ 6 := Is25.1 99
          refine z_const X (show cdA 264 57 = some (.iconst 1, 1, 0, 0, 0) from rfl) ?_
          refine z_add X (show cdA 264 58 = some (.iadd, 1, 0, 0, 0) from rfl) ?_
          refine s_putI X 179 (show cdA 264 59 = some (.putfield 404, 3, 12, 48, 0) from rfl) (by decide) rfl rfl (by decide) rfl rfl rfl ?_
          obtain ⟨s27, hs27⟩ : ∃ x0, x0 = uI s25 99 (Int32.ofInt ((iI s25 99) + 1)) := ⟨_, rfl⟩
          rw [← hs27]
          have Is27 : Bd s27 := by rw [hs27]; exact bd_I Is25 (show (0 : Int) ≤ ((iI s25 99) + 1) ∧ ((iI s25 99) + 1) ≤ 6 by first | exact ⟨oq_54f49eb5 b26.1, oq_6c19c907 ws25_99 b24.2 g23⟩ | omega) ⟨by first | exact oq_74de1e16 b26.1 | omega, by first | exact oq_5fe14c36 b26.2 | omega⟩
          have Fs27 := fm_I (x := Int32.ofInt ((iI s25 99) + 1)) Fs25 (show 99 ∈ _ by decide)
          rw [← hs27] at Fs27
          have vs27 : iI s27 99 = ((iI s25 99) + 1) := by rw [hs27]; exact iI_u ⟨by first | exact oq_74de1e16 b26.1 | omega, by first | exact oq_5fe14c36 b26.2 | omega⟩
          have ws27_73 : iI s27 73 = iI s25 73 := by rw [hs27]; rfl
          refine z_aload_n X (x := A 179) (show cdA 264 62 = some (.aload_n 0, 1, 0, 0, 0) from rfl) (List.Mem.head _) ?_
          refine z_getI X 179 (show cdA 264 63 = some (.getfield 404, 3, 12, 48, 0) from rfl) (by decide) rfl rfl ?_
          have b28 : (0 : Int) ≤ iI s27 99 ∧ iI s27 99 ≤ 6 := Is27.1 99
          refine z_const X (show cdA 264 66 = some (.iconst 1, 1, 0, 0, 0) from rfl) ?_
          refine z_sub X (show cdA 264 67 = some (.isub, 1, 0, 0, 0) from rfl) ?_
          exact w_iret X.1 q hRt rfl (ax_d X (show cdA 264 68 = some (.ireturn, 1, 0, 0, 0) from rfl)) (Nat.zero_le _) (Nat.zero_le _) ⟨_, rfl, Is27, Fs27, ((iI s27 99) - 1), rfl, ⟨by first | exact oq_c1e961c7 b28.1 | omega, by first | exact oq_b383b26c b28.2 | omega⟩, by first | exact oq_32729de4 b28.2 ws27_73 vs27 ws25_99 ws25_73 g21 ws18_99 b20.1 hps18 he17 g4 ws3_99 vs3 | omega⟩
        ·
          refine z_const X (show cdA 264 40 = some (.iconst (-1), 1, 0, 0, 0) from rfl) ?_
          exact w_iret X.1 q hRt rfl (ax_d X (show cdA 264 41 = some (.ireturn, 1, 0, 0, 0) from rfl)) (Nat.zero_le _) (Nat.zero_le _) ⟨_, rfl, Is18, Gs18, (-1), rfl, (by decide), by first | exact oq_f5100887 g23 g21 ws18_99 b20.1 hps18 he17 g4 ws3_99 vs3 b2.2 | omega⟩
      ·
        refine z_const X (show cdA 264 29 = some (.iconst 0, 1, 0, 0, 0) from rfl) ?_
        exact w_iret X.1 q hRt rfl (ax_d X (show cdA 264 30 = some (.ireturn, 1, 0, 0, 0) from rfl)) (Nat.zero_le _) (Nat.zero_le _) ⟨_, rfl, Is18, Gs18, 0, rfl, (by decide), by first | exact oq_4670b00c g21 ws18_99 hps18 he17 ws3_99 vs3 | omega⟩
    refine z_icmp_lt X (t := 21) (show cdA 264 14 = some (.if_icmp .lt 7, 3, 2, 0, 0) from rfl) (by decide) ⟨by first | exact p0.1 | omega, by first | exact p0.2 | omega⟩ (by decide) (fun g29 => ?_) (fun g29 => ?_)
    ·
      refine z_const X (show cdA 264 21 = some (.iconst 0, 1, 0, 0, 0) from rfl) ?_
      exact N16 _ (Or.inl ⟨g29, rfl⟩)
    ·
      refine z_const X (show cdA 264 17 = some (.iconst 1, 1, 0, 0, 0) from rfl) ?_
      refine z_goto X (t := 22) (show cdA 264 18 = some (.goto 4, 3, 0, 0, 0) from rfl) (by decide) ?_
      exact N16 _ (Or.inr (⟨g29, rfl⟩))
set_option maxRecDepth 4000 in
theorem cs_needWithin2 (G : GX l s0 D tys a0 dT) (I : Bd s) {v lo hi : Int} (p0 : rng v) (p1 : rng lo) (p2 : rng hi) : CT l s0 D A dT 184 (rmN 184) [.ref (A 0), .int (Int32.ofInt v), .int (Int32.ofInt lo), .int (Int32.ofInt hi)] s (fun o t => Bd t ∧ Fm [] [] s t ∧ ((o = .inl none ∧ (lo ≤ v ∧ v ≤ hi)) ∨ ∃ x : Nat, o = .inr (exN x) ∧ (x = 0 ∧ (v < lo ∨ hi < v)))) := by
  refine ct_ofX G (by decide) (Nat.le_of_ble_eq_true rfl) (fun k X E ET hRt hXt q => ?_)
  show WS k 0 [(0, .ref (A 0)), (1, .int (Int32.ofInt v)), (2, .int (Int32.ofInt lo)), (3, .int (Int32.ofInt hi))] [] _ 0 0
  have F : Fm [] [] s s := fm_rf _ _ s
  refine z_load_n X (x := v) (show cdA 184 0 = some (.iload_n 1, 1, 0, 0, 0) from rfl) (List.Mem.tail _ (List.Mem.head _)) ?_
  refine z_load_n X (x := lo) (show cdA 184 1 = some (.iload_n 2, 1, 0, 0, 0) from rfl) (List.Mem.tail _ (List.Mem.tail _ (List.Mem.head _))) ?_
  refine z_icmp_lt X (t := 10) (show cdA 184 2 = some (.if_icmp .lt 8, 3, 2, 0, 0) from rfl) (by decide) ⟨by first | exact p0.1 | omega, by first | exact p0.2 | omega⟩ ⟨by first | exact p1.1 | omega, by first | exact p1.2 | omega⟩ (fun g1 => ?_) (fun g1 => ?_)
  ·
    exact z_throw G X E ET hXt q (st := []) (show cdA 184 10 = some (.new 108, 3, 0, 2, 0) from rfl) (by decide) (by decide) (Nat.le_of_ble_eq_true rfl) (show 0 + 1 ≤ 1 by omega) (show 0 + 6 ≤ 6 by omega) (show 0 + 1 ≤ 1 by omega) (show 0 + 6 ≤ 6 by omega) ⟨_, rfl, I, F, Or.inr ⟨0, rfl, by omega⟩⟩
  ·
    refine z_load_n X (x := v) (show cdA 184 5 = some (.iload_n 1, 1, 0, 0, 0) from rfl) (List.Mem.tail _ (List.Mem.head _)) ?_
    refine z_load_n X (x := hi) (show cdA 184 6 = some (.iload_n 3, 1, 0, 0, 0) from rfl) (List.Mem.tail _ (List.Mem.tail _ (List.Mem.tail _ (List.Mem.head _)))) ?_
    refine z_icmp_le X (t := 21) (show cdA 184 7 = some (.if_icmp .le 14, 3, 5, 0, 0) from rfl) (by decide) ⟨by first | exact p0.1 | omega, by first | exact p0.2 | omega⟩ ⟨by first | exact p2.1 | omega, by first | exact p2.2 | omega⟩ (fun g2 => ?_) (fun g2 => ?_)
    ·
      exact w_vret X.1 q hRt (ax_d X (show cdA 184 21 = some (.return_, 1, 0, 0, 0) from rfl)) (Nat.zero_le _) (Nat.zero_le _) ⟨_, rfl, I, F, Or.inl ⟨rfl, by first | exact ⟨g1, g2⟩ | omega⟩⟩
    ·
      exact z_throw G X E ET hXt q (st := []) (show cdA 184 10 = some (.new 108, 3, 0, 2, 0) from rfl) (by decide) (by decide) (Nat.le_of_ble_eq_true rfl) (show 0 + 1 ≤ 1 by omega) (show 0 + 6 ≤ 6 by omega) (show 0 + 1 ≤ 1 by omega) (show 0 + 6 ≤ 6 by omega) ⟨_, rfl, I, F, Or.inr ⟨0, rfl, by omega⟩⟩
set_option maxRecDepth 4000 in
theorem cs_busy2 (G : GX l s0 D tys a0 dT) (I : Bd s) {v : Int} (p0 : rng v) : CT l s0 D A dT 162 (rmN 162) [.ref (A 0), .int (Int32.ofInt v)] s (fun o t => Bd t ∧ Fm [33] [] s t ∧ ((∃ e, o = .inl (some (.int (Int32.ofInt e))) ∧ rng e ∧ (0 ≤ v ∧ v ≤ 100000 ∧ e = iI s 33 ∧ iI t 33 = v)) ∨ ∃ x : Nat, o = .inr (exN x) ∧ (x = 0 ∧ (v < 0 ∨ 100000 < v) ∧ iI t 33 = iI s 33))) := by
  refine ct_ofX G (by decide) (Nat.le_of_ble_eq_true rfl) (fun k X E ET hRt hXt q => ?_)
  show WS k 0 [(0, .ref (A 0)), (1, .int (Int32.ofInt v))] [] _ 0 0
  have F : Fm [33] [] s s := fm_rf _ _ s
  have b1 : (0 : Int) ≤ iI s 33 ∧ iI s 33 ≤ 100000 := I.1 33
  refine z_aload_n X (x := A 0) (show cdA 162 0 = some (.aload_n 0, 1, 0, 0, 0) from rfl) (List.Mem.head _) ?_
  refine z_load_n X (x := v) (show cdA 162 1 = some (.iload_n 1, 1, 0, 0, 0) from rfl) (List.Mem.tail _ (List.Mem.head _)) ?_
  refine z_const X (show cdA 162 2 = some (.iconst 0, 1, 0, 0, 0) from rfl) ?_
  refine z_ldcw X (show cdA 162 3 = some (.ldc_w 289, 3, 0, 0, 100000) from rfl) ?_
  refine z_callV X 0 (rm := rmN 184) (As := [.int (Int32.ofInt v), .int (Int32.ofInt 0), .int (Int32.ofInt 100000)]) (st := []) (show cdA 162 6 = some (.invokevirtual 151, 3, 184, 0, 0) from rfl) rfl (by decide) rfl (by rw [E.1, E.2.1, E.2.2.1]; exact cs_needWithin2 G I (by first | exact ⟨p0.1, p0.2⟩ | omega) (by first | exact ⟨by decide, by decide⟩ | omega) (by first | exact ⟨by decide, by decide⟩ | omega)) ⟨by rw [E.2.2.2]; exact (show (rmN 184).frames + 1 ≤ (rmN 162).frames by decide), by rw [E.2.2.2]; exact (show 8 + (mNL (miB 184) + 11) + (rmN 184).locals ≤ (rmN 162).locals by decide), by rw [E.2.2.2]; exact (show 0 + 1 ≤ 1 by omega), by rw [E.2.2.2]; exact (show 0 + 6 ≤ 6 by omega)⟩ (Nat.le_of_ble_eq_true rfl) (fun vv s2 hq => ?_) (fun ee s2 hq => ?_)
  rotate_left
  · obtain ⟨Is2, Fs2, (⟨hv, hps2⟩ | ⟨xx, hv, hps2⟩)⟩ := hq
    · cases hv
    · cases hv
      have Gs2 := fm_ts F Fs2 (by decide) (by decide)
      have ws2_33 : iI s2 33 = iI s 33 := fm_i Fs2 (by decide)
      exact x_out X.1 q (fun x hx => (hXt x hx).elim) (show 1 ≤ 1 by omega) (show 6 ≤ 6 by omega) ⟨_, rfl, Is2, Gs2, Or.inr ⟨xx, rfl, by omega⟩⟩
  obtain ⟨Is2, Fs2, (⟨hv, hps2⟩ | ⟨xx, hv, hps2⟩)⟩ := hq
  rotate_left
  · cases hv
  cases hv
  have Gs2 := fm_ts F Fs2 (by decide) (by decide)
  have ws2_33 : iI s2 33 = iI s 33 := fm_i Fs2 (by decide)
  show WS k 9 [(0, .ref (A 0)), (1, .int (Int32.ofInt v))] [] (Wd A dT s2) 1 6
  refine z_aload_n X (x := A 0) (show cdA 162 9 = some (.aload_n 0, 1, 0, 0, 0) from rfl) (List.Mem.head _) ?_
  refine s_getR X 0 (show cdA 162 10 = some (.getfield 71, 3, 11, 7, 0) from rfl) (by decide) rfl rfl ?_
  refine z_getI X 54 (show cdA 162 13 = some (.getfield 290, 3, 4, 6, 0) from rfl) (by decide) rfl rfl ?_
  have b4 : (0 : Int) ≤ iI s2 33 ∧ iI s2 33 ≤ 100000 := Is2.1 33
  refine z_store_n X (lv' := [(2, .int (Int32.ofInt (iI s2 33))), (0, .ref (A 0)), (1, .int (Int32.ofInt v))]) (show cdA 162 16 = some (.istore_n 2, 1, 0, 0, 0) from rfl) (by decide) (fun _ h => h) ?_
  refine z_aload_n X (x := A 0) (show cdA 162 17 = some (.aload_n 0, 1, 0, 0, 0) from rfl) (List.Mem.tail _ (List.Mem.head _)) ?_
  refine s_getR X 0 (show cdA 162 18 = some (.getfield 71, 3, 11, 7, 0) from rfl) (by decide) rfl rfl ?_
  refine z_load_n X (x := v) (show cdA 162 21 = some (.iload_n 1, 1, 0, 0, 0) from rfl) (List.Mem.tail _ (List.Mem.tail _ (List.Mem.head _))) ?_
  refine s_putI X 54 (show cdA 162 22 = some (.putfield 290, 3, 4, 6, 0) from rfl) (by decide) rfl rfl (by decide) rfl rfl rfl ?_
  obtain ⟨s5, hs5⟩ : ∃ x0, x0 = uI s2 33 (Int32.ofInt v) := ⟨_, rfl⟩
  rw [← hs5]
  have Is5 : Bd s5 := by rw [hs5]; exact bd_I Is2 (show (0 : Int) ≤ v ∧ v ≤ 100000 by first | exact ⟨hps2.1, hps2.2⟩ | omega) ⟨by first | exact p0.1 | omega, by first | exact p0.2 | omega⟩
  have Fs5 := fm_I (x := Int32.ofInt v) Gs2 (show 33 ∈ _ by decide)
  rw [← hs5] at Fs5
  have vs5 : iI s5 33 = v := by rw [hs5]; exact iI_u ⟨by first | exact p0.1 | omega, by first | exact p0.2 | omega⟩
  refine z_load_n X (x := (iI s2 33)) (show cdA 162 25 = some (.iload_n 2, 1, 0, 0, 0) from rfl) (List.Mem.head _) ?_
  exact w_iret X.1 q hRt rfl (ax_d X (show cdA 162 26 = some (.ireturn, 1, 0, 0, 0) from rfl)) (show 1 ≤ 1 by omega) (show 6 ≤ 6 by omega) ⟨_, rfl, Is5, Fs5, Or.inl ⟨(iI s2 33), rfl, (rng_to _), by first | exact ⟨hps2.1, hps2.2, ws2_33, vs5⟩ | omega⟩⟩
set_option maxRecDepth 4000 in
theorem cs_hours2 (G : GX l s0 D tys a0 dT) (I : Bd s) {u v : Int} (p0 : rng u) (p1 : rng v) : CT l s0 D A dT 164 (rmN 164) [.ref (A 0), .int (Int32.ofInt u), .int (Int32.ofInt v)] s (fun o t => Bd t ∧ Fm [36, 37] [] s t ∧ ((∃ e, o = .inl (some (.int (Int32.ofInt e))) ∧ rng e ∧ (((u = 0 ∧ 1 ≤ v ∧ v ≤ 24 ∧ e = iI s 36 ∧ iI t 36 = v ∧ iI t 37 = iI s 37) ∨ (u = 1 ∧ 1 ≤ v ∧ v ≤ 8 ∧ e = iI s 37 ∧ iI t 37 = v ∧ iI t 36 = iI s 36)))) ∨ ∃ x : Nat, o = .inr (exN x) ∧ (x = 0 ∧ (u < 0 ∨ 1 < u ∨ v < 1 ∨ (u = 0 ∧ 24 < v) ∨ (u = 1 ∧ 8 < v)) ∧ iI t 36 = iI s 36 ∧ iI t 37 = iI s 37))) := by
  refine ct_ofX G (by decide) (Nat.le_of_ble_eq_true rfl) (fun k X E ET hRt hXt q => ?_)
  show WS k 0 [(0, .ref (A 0)), (1, .int (Int32.ofInt u)), (2, .int (Int32.ofInt v))] [] _ 0 0
  have F : Fm [36, 37] [] s s := fm_rf _ _ s
  have b1 : (1 : Int) ≤ iI s 36 ∧ iI s 36 ≤ 24 := I.1 36
  have b2 : (1 : Int) ≤ iI s 37 ∧ iI s 37 ≤ 8 := I.1 37
  refine z_aload_n X (x := A 0) (show cdA 164 0 = some (.aload_n 0, 1, 0, 0, 0) from rfl) (List.Mem.head _) ?_
  refine z_load_n X (x := u) (show cdA 164 1 = some (.iload_n 1, 1, 0, 0, 0) from rfl) (List.Mem.tail _ (List.Mem.head _)) ?_
  refine z_const X (show cdA 164 2 = some (.iconst 0, 1, 0, 0, 0) from rfl) ?_
  refine z_const X (show cdA 164 3 = some (.iconst 1, 1, 0, 0, 0) from rfl) ?_
  refine z_callV X 0 (rm := rmN 184) (As := [.int (Int32.ofInt u), .int (Int32.ofInt 0), .int (Int32.ofInt 1)]) (st := []) (show cdA 164 4 = some (.invokevirtual 151, 3, 184, 0, 0) from rfl) rfl (by decide) rfl (by rw [E.1, E.2.1, E.2.2.1]; exact cs_needWithin2 G I (by first | exact ⟨p0.1, p0.2⟩ | omega) (by first | exact ⟨by decide, by decide⟩ | omega) (by first | exact ⟨by decide, by decide⟩ | omega)) ⟨by rw [E.2.2.2]; exact (show (rmN 184).frames + 1 ≤ (rmN 164).frames by decide), by rw [E.2.2.2]; exact (show 8 + (mNL (miB 184) + 11) + (rmN 184).locals ≤ (rmN 164).locals by decide), by rw [E.2.2.2]; exact (show 0 + 1 ≤ 2 by omega), by rw [E.2.2.2]; exact (show 0 + 6 ≤ 12 by omega)⟩ (Nat.le_of_ble_eq_true rfl) (fun vv s3 hq => ?_) (fun ee s3 hq => ?_)
  rotate_left
  · obtain ⟨Is3, Fs3, (⟨hv, hps3⟩ | ⟨xx, hv, hps3⟩)⟩ := hq
    · cases hv
    · cases hv
      have Gs3 := fm_ts F Fs3 (by decide) (by decide)
      have ws3_36 : iI s3 36 = iI s 36 := fm_i Fs3 (by decide)
      have ws3_37 : iI s3 37 = iI s 37 := fm_i Fs3 (by decide)
      exact x_out X.1 q (fun x hx => (hXt x hx).elim) (show 1 ≤ 2 by omega) (show 6 ≤ 12 by omega) ⟨_, rfl, Is3, Gs3, Or.inr ⟨xx, rfl, by omega⟩⟩
  obtain ⟨Is3, Fs3, (⟨hv, hps3⟩ | ⟨xx, hv, hps3⟩)⟩ := hq
  rotate_left
  · cases hv
  cases hv
  have Gs3 := fm_ts F Fs3 (by decide) (by decide)
  have ws3_36 : iI s3 36 = iI s 36 := fm_i Fs3 (by decide)
  have ws3_37 : iI s3 37 = iI s 37 := fm_i Fs3 (by decide)
  show WS k 7 [(0, .ref (A 0)), (1, .int (Int32.ofInt u)), (2, .int (Int32.ofInt v))] [] (Wd A dT s3) 1 6
  refine z_aload_n X (x := A 0) (show cdA 164 7 = some (.aload_n 0, 1, 0, 0, 0) from rfl) (List.Mem.head _) ?_
  refine z_load_n X (x := v) (show cdA 164 8 = some (.iload_n 2, 1, 0, 0, 0) from rfl) (List.Mem.tail _ (List.Mem.tail _ (List.Mem.head _))) ?_
  refine z_const X (show cdA 164 9 = some (.iconst 1, 1, 0, 0, 0) from rfl) ?_
  refine z_load_n X (x := u) (show cdA 164 10 = some (.iload_n 1, 1, 0, 0, 0) from rfl) (List.Mem.tail _ (List.Mem.head _)) ?_
  have N5 : ∀ e6 : Int, (((u ≠ 0) ∧ e6 = 8) ∨ ((u = 0) ∧ e6 = 24)) → WS k 21 [(0, .ref (A 0)), (1, .int (Int32.ofInt u)), (2, .int (Int32.ofInt v))] [.int (Int32.ofInt e6), .int (Int32.ofInt 1), .int (Int32.ofInt v), .ref (A 0)] (Wd A dT s3) 1 6 := by
    intro e6 he6
    have re6 : 8 ≤ e6 ∧ e6 ≤ 24 := by omega
    refine z_callV X 0 (rm := rmN 184) (As := [.int (Int32.ofInt v), .int (Int32.ofInt 1), .int (Int32.ofInt e6)]) (st := []) (show cdA 164 21 = some (.invokevirtual 151, 3, 184, 0, 0) from rfl) rfl (by decide) rfl (by rw [E.1, E.2.1, E.2.2.1]; exact cs_needWithin2 G Is3 (by first | exact ⟨p1.1, p1.2⟩ | omega) (by first | exact ⟨by decide, by decide⟩ | omega) (by first | exact ⟨oq_ebc40354 re6.1, oq_5bcd337f re6.2⟩ | omega)) ⟨by rw [E.2.2.2]; exact (show (rmN 184).frames + 1 ≤ (rmN 164).frames by decide), by rw [E.2.2.2]; exact (show 8 + (mNL (miB 184) + 11) + (rmN 184).locals ≤ (rmN 164).locals by decide), by rw [E.2.2.2]; exact (show 1 + 1 ≤ 2 by omega), by rw [E.2.2.2]; exact (show 6 + 6 ≤ 12 by omega)⟩ (Nat.le_of_ble_eq_true rfl) (fun vv s7 hq => ?_) (fun ee s7 hq => ?_)
    rotate_left
    · obtain ⟨Is7, Fs7, (⟨hv, hps7⟩ | ⟨xx, hv, hps7⟩)⟩ := hq
      · cases hv
      · cases hv
        have Gs7 := fm_ts Gs3 Fs7 (by decide) (by decide)
        have ws7_36 : iI s7 36 = iI s3 36 := fm_i Fs7 (by decide)
        have ws7_37 : iI s7 37 = iI s3 37 := fm_i Fs7 (by decide)
        exact x_out X.1 q (fun x hx => (hXt x hx).elim) (show (1 + 1) ≤ 2 by omega) (show (6 + 6) ≤ 12 by omega) ⟨_, rfl, Is7, Gs7, Or.inr ⟨xx, rfl, by omega⟩⟩
    obtain ⟨Is7, Fs7, (⟨hv, hps7⟩ | ⟨xx, hv, hps7⟩)⟩ := hq
    rotate_left
    · cases hv
    cases hv
    have Gs7 := fm_ts Gs3 Fs7 (by decide) (by decide)
    have ws7_36 : iI s7 36 = iI s3 36 := fm_i Fs7 (by decide)
    have ws7_37 : iI s7 37 = iI s3 37 := fm_i Fs7 (by decide)
    show WS k 24 [(0, .ref (A 0)), (1, .int (Int32.ofInt u)), (2, .int (Int32.ofInt v))] [] (Wd A dT s7) (1 + 1) (6 + 6)
    refine z_load_n X (x := u) (show cdA 164 24 = some (.iload_n 1, 1, 0, 0, 0) from rfl) (List.Mem.tail _ (List.Mem.head _)) ?_
    refine z_if_ne X (t := 39) (show cdA 164 25 = some (.ifCond .ne 14, 3, 1, 0, 0) from rfl) (by decide) ⟨by first | exact p0.1 | omega, by first | exact p0.2 | omega⟩ (fun g9 => ?_) (fun g9 => ?_)
    ·
      refine z_aload_n X (x := A 0) (show cdA 164 39 = some (.aload_n 0, 1, 0, 0, 0) from rfl) (List.Mem.head _) ?_
      refine s_getR X 0 (show cdA 164 40 = some (.getfield 80, 3, 11, 8, 0) from rfl) (by decide) rfl rfl ?_
      refine z_load_n X (x := v) (show cdA 164 43 = some (.iload_n 2, 1, 0, 0, 0) from rfl) (List.Mem.tail _ (List.Mem.tail _ (List.Mem.head _))) ?_
      refine z_callV X 61 (rm := rmN 61) (As := [.int (Int32.ofInt v)]) (st := []) (show cdA 164 44 = some (.invokevirtual 306, 3, 61, 0, 0) from rfl) rfl (by decide) rfl (by rw [E.1, E.2.1, E.2.2.1]; exact c6_setRest_61 G Is7 (by first | exact ⟨hps7.1, oq_06ae99d7 g9 hps7.2 he6 hps3.1⟩ | omega)) ⟨by rw [E.2.2.2]; exact (show (rmN 61).frames + 1 ≤ (rmN 164).frames by decide), by rw [E.2.2.2]; exact (show 8 + (mNL (miB 61) + 11) + (rmN 61).locals ≤ (rmN 164).locals by decide), by rw [E.2.2.2]; exact (show (1 + 1) + 0 ≤ 2 by omega), by rw [E.2.2.2]; exact (show (6 + 6) + 0 ≤ 12 by omega)⟩ (Nat.le_of_ble_eq_true rfl) (fun vv s10 hq => ?_) (fun ee s10 hq => ?_)
      rotate_left
      · obtain ⟨Is10, Fs10, e11, hv, hrs10, hps10⟩ := hq; cases hv
      obtain ⟨Is10, Fs10, e11, hv, hrs10, hps10⟩ := hq
      cases hv
      have Gs10 := fm_ts Gs7 Fs10 (by decide) (by decide)
      have ws10_36 : iI s10 36 = iI s7 36 := fm_i Fs10 (by decide)
      have b12 : (1 : Int) ≤ iI s10 37 ∧ iI s10 37 ≤ 8 := Is10.1 37
      show WS k 47 [(0, .ref (A 0)), (1, .int (Int32.ofInt u)), (2, .int (Int32.ofInt v))] [.int (Int32.ofInt e11)] (Wd A dT s10) (1 + 1) (6 + 6)
      exact w_iret X.1 q hRt rfl (ax_d X (show cdA 164 47 = some (.ireturn, 1, 0, 0, 0) from rfl)) (show (1 + 1) ≤ 2 by omega) (show (6 + 6) ≤ 12 by omega) ⟨_, rfl, Is10, Gs10, Or.inl ⟨e11, rfl, hrs10, by first | exact oq_8e84b2bd ws10_36 hps10.2 hps10.1 g9 ws7_37 ws7_36 hps7.2 hps7.1 he6 ws3_37 ws3_36 hps3.2 hps3.1 | omega⟩⟩
    ·
      refine z_aload_n X (x := A 0) (show cdA 164 28 = some (.aload_n 0, 1, 0, 0, 0) from rfl) (List.Mem.head _) ?_
      refine s_getR X 0 (show cdA 164 29 = some (.getfield 80, 3, 11, 8, 0) from rfl) (by decide) rfl rfl ?_
      refine z_load_n X (x := v) (show cdA 164 32 = some (.iload_n 2, 1, 0, 0, 0) from rfl) (List.Mem.tail _ (List.Mem.tail _ (List.Mem.head _))) ?_
      refine z_callV X 61 (rm := rmN 60) (As := [.int (Int32.ofInt v)]) (st := []) (show cdA 164 33 = some (.invokevirtual 303, 3, 60, 0, 0) from rfl) rfl (by decide) rfl (by rw [E.1, E.2.1, E.2.2.1]; exact c6_setWork_61 G Is7 (by first | exact ⟨hps7.1, oq_9a71296a hps7.2 re6.2⟩ | omega)) ⟨by rw [E.2.2.2]; exact (show (rmN 60).frames + 1 ≤ (rmN 164).frames by decide), by rw [E.2.2.2]; exact (show 8 + (mNL (miB 60) + 11) + (rmN 60).locals ≤ (rmN 164).locals by decide), by rw [E.2.2.2]; exact (show (1 + 1) + 0 ≤ 2 by omega), by rw [E.2.2.2]; exact (show (6 + 6) + 0 ≤ 12 by omega)⟩ (Nat.le_of_ble_eq_true rfl) (fun vv s13 hq => ?_) (fun ee s13 hq => ?_)
      rotate_left
      · obtain ⟨Is13, Fs13, e14, hv, hrs13, hps13⟩ := hq; cases hv
      obtain ⟨Is13, Fs13, e14, hv, hrs13, hps13⟩ := hq
      cases hv
      have Gs13 := fm_ts Gs7 Fs13 (by decide) (by decide)
      have b15 : (1 : Int) ≤ iI s13 36 ∧ iI s13 36 ≤ 24 := Is13.1 36
      have ws13_37 : iI s13 37 = iI s7 37 := fm_i Fs13 (by decide)
      show WS k 36 [(0, .ref (A 0)), (1, .int (Int32.ofInt u)), (2, .int (Int32.ofInt v))] [.int (Int32.ofInt e14)] (Wd A dT s13) (1 + 1) (6 + 6)
      refine z_goto X (t := 47) (show cdA 164 36 = some (.goto 11, 3, 0, 0, 0) from rfl) (by decide) ?_
      exact w_iret X.1 q hRt rfl (ax_d X (show cdA 164 47 = some (.ireturn, 1, 0, 0, 0) from rfl)) (show (1 + 1) ≤ 2 by omega) (show (6 + 6) ≤ 12 by omega) ⟨_, rfl, Is13, Gs13, Or.inl ⟨e14, rfl, hrs13, by first | exact Or.inl (And.intro (g9) (And.intro (hps7.1) (And.intro (oq_b1cdf24c hps13.2 b15.2) (And.intro (oq_d0d2714e hps13.1 ws3_36 ws7_36) (And.intro (hps13.2) (oq_d0d2714e ws13_37 ws3_37 ws7_37)))))) | omega⟩⟩
  refine z_if_ne X (t := 19) (show cdA 164 11 = some (.ifCond .ne 8, 3, 1, 0, 0) from rfl) (by decide) ⟨by first | exact p0.1 | omega, by first | exact p0.2 | omega⟩ (fun g16 => ?_) (fun g16 => ?_)
  ·
    refine z_bipush X (show cdA 164 19 = some (.bipush 8, 2, 0, 0, 8) from rfl) ?_
    exact N5 _ (Or.inl ⟨g16, rfl⟩)
  ·
    refine z_bipush X (show cdA 164 14 = some (.bipush 24, 2, 0, 0, 24) from rfl) ?_
    refine z_goto X (t := 21) (show cdA 164 16 = some (.goto 5, 3, 0, 0, 0) from rfl) (by decide) ?_
    exact N5 _ (Or.inr (⟨g16, rfl⟩))
set_option maxRecDepth 4000 in
theorem cs_configure2 (G : GX l s0 D tys a0 dT) (I : Bd s) {v : Int} (p0 : rng v) : CT l s0 D A dT 160 (rmN 160) [.ref (A 0), .int (Int32.ofInt v)] s (fun o t => Bd t ∧ Fm [32] [46] s t ∧ ((∃ e, o = .inl (some (.int (Int32.ofInt e))) ∧ rng e ∧ (0 ≤ v ∧ v < 16777216 ∧ ((iI s 32 = 6 ∧ e = -1 ∧ iI t 32 = 6) ∨ (iI s 32 ≠ 6 ∧ e = iI s 32 ∧ iI t 32 = iI s 32 + 1)))) ∨ ∃ x : Nat, o = .inr (exN x) ∧ (x = 0 ∧ (v < 0 ∨ 16777216 ≤ v) ∧ iI t 32 = iI s 32))) := by
  refine ct_ofX G (by decide) (Nat.le_of_ble_eq_true rfl) (fun k X E ET hRt hXt q => ?_)
  show WS k 0 [(0, .ref (A 0)), (1, .int (Int32.ofInt v))] [] _ 0 0
  have F : Fm [32] [46] s s := fm_rf _ _ s
  have b1 : (0 : Int) ≤ iI s 32 ∧ iI s 32 ≤ 6 := I.1 32
  refine z_aload_n X (x := A 0) (show cdA 160 0 = some (.aload_n 0, 1, 0, 0, 0) from rfl) (List.Mem.head _) ?_
  refine z_load_n X (x := v) (show cdA 160 1 = some (.iload_n 1, 1, 0, 0, 0) from rfl) (List.Mem.tail _ (List.Mem.head _)) ?_
  refine z_const X (show cdA 160 2 = some (.iconst 0, 1, 0, 0, 0) from rfl) ?_
  refine z_ldcw X (show cdA 160 3 = some (.ldc_w 271, 3, 0, 0, 16777215) from rfl) ?_
  refine z_callV X 0 (rm := rmN 184) (As := [.int (Int32.ofInt v), .int (Int32.ofInt 0), .int (Int32.ofInt 16777215)]) (st := []) (show cdA 160 6 = some (.invokevirtual 151, 3, 184, 0, 0) from rfl) rfl (by decide) rfl (by rw [E.1, E.2.1, E.2.2.1]; exact cs_needWithin2 G I (by first | exact ⟨p0.1, p0.2⟩ | omega) (by first | exact ⟨by decide, by decide⟩ | omega) (by first | exact ⟨by decide, by decide⟩ | omega)) ⟨by rw [E.2.2.2]; exact (show (rmN 184).frames + 1 ≤ (rmN 160).frames by decide), by rw [E.2.2.2]; exact (show 8 + (mNL (miB 184) + 11) + (rmN 184).locals ≤ (rmN 160).locals by decide), by rw [E.2.2.2]; exact (show 0 + 1 ≤ 1 by omega), by rw [E.2.2.2]; exact (show 0 + 6 ≤ 6 by omega)⟩ (Nat.le_of_ble_eq_true rfl) (fun vv s2 hq => ?_) (fun ee s2 hq => ?_)
  rotate_left
  · obtain ⟨Is2, Fs2, (⟨hv, hps2⟩ | ⟨xx, hv, hps2⟩)⟩ := hq
    · cases hv
    · cases hv
      have Gs2 := fm_ts F Fs2 (by decide) (by decide)
      have ws2_32 : iI s2 32 = iI s 32 := fm_i Fs2 (by decide)
      exact x_out X.1 q (fun x hx => (hXt x hx).elim) (show 1 ≤ 1 by omega) (show 6 ≤ 6 by omega) ⟨_, rfl, Is2, Gs2, Or.inr ⟨xx, rfl, by omega⟩⟩
  obtain ⟨Is2, Fs2, (⟨hv, hps2⟩ | ⟨xx, hv, hps2⟩)⟩ := hq
  rotate_left
  · cases hv
  cases hv
  have Gs2 := fm_ts F Fs2 (by decide) (by decide)
  have ws2_32 : iI s2 32 = iI s 32 := fm_i Fs2 (by decide)
  show WS k 9 [(0, .ref (A 0)), (1, .int (Int32.ofInt v))] [] (Wd A dT s2) 1 6
  refine z_aload_n X (x := A 0) (show cdA 160 9 = some (.aload_n 0, 1, 0, 0, 0) from rfl) (List.Mem.head _) ?_
  refine s_getR X 0 (show cdA 160 10 = some (.getfield 71, 3, 11, 7, 0) from rfl) (by decide) rfl rfl ?_
  refine z_load_n X (x := v) (show cdA 160 13 = some (.iload_n 1, 1, 0, 0, 0) from rfl) (List.Mem.tail _ (List.Mem.head _)) ?_
  refine z_callV X 54 (rm := rmN 43) (As := [.int (Int32.ofInt v)]) (st := []) (show cdA 160 14 = some (.invokevirtual 272, 3, 43, 0, 0) from rfl) rfl (by decide) rfl (by rw [E.1, E.2.1, E.2.2.1]; exact c4_add_54 G Is2 (by first | exact ⟨hps2.1, hps2.2⟩ | omega)) ⟨by rw [E.2.2.2]; exact (show (rmN 43).frames + 1 ≤ (rmN 160).frames by decide), by rw [E.2.2.2]; exact (show 8 + (mNL (miB 43) + 11) + (rmN 43).locals ≤ (rmN 160).locals by decide), by rw [E.2.2.2]; exact (show 1 + 0 ≤ 1 by omega), by rw [E.2.2.2]; exact (show 6 + 0 ≤ 6 by omega)⟩ (Nat.le_of_ble_eq_true rfl) (fun vv s4 hq => ?_) (fun ee s4 hq => ?_)
  rotate_left
  · obtain ⟨Is4, Fs4, e5, hv, hrs4, hps4⟩ := hq; cases hv
  obtain ⟨Is4, Fs4, e5, hv, hrs4, hps4⟩ := hq
  cases hv
  have Gs4 := fm_ts Gs2 Fs4 (by decide) (by decide)
  have b6 : (0 : Int) ≤ iI s4 32 ∧ iI s4 32 ≤ 6 := Is4.1 32
  show WS k 17 [(0, .ref (A 0)), (1, .int (Int32.ofInt v))] [.int (Int32.ofInt e5)] (Wd A dT s4) 1 6
  exact w_iret X.1 q hRt rfl (ax_d X (show cdA 160 17 = some (.ireturn, 1, 0, 0, 0) from rfl)) (show 1 ≤ 1 by omega) (show 6 ≤ 6 by omega) ⟨_, rfl, Is4, Gs4, Or.inl ⟨e5, rfl, hrs4, by first | exact ⟨hps2.1, oq_87396caf hps2.2, oq_76903a84 b6.2 hps4 ws2_32 b1.2⟩ | omega⟩⟩
set_option maxRecDepth 4000 in
theorem lw_busy2 (G : GX l s0 D tys a0 dT) (I : Bd s) {v : Int} (p0 : rng v) : CTL l s0 D A dT 336 (rmN 336) [.ref (A 0), .int (Int32.ofInt v), .ref (A 517)] s (fun o t => Bd t ∧ Fm [33] [1460] s t ∧ ∃ e, o = .inl (some (.int (Int32.ofInt e))) ∧ rng e ∧ ((e = 0 ∧ 0 ≤ v ∧ v ≤ 100000 ∧ iO t = iI s 33 ∧ iI t 33 = v) ∨ (e = 1 ∧ (v < 0 ∨ 100000 < v) ∧ iI t 33 = iI s 33))) := by
  refine ctL_of G (by decide) (Nat.le_of_ble_eq_true rfl) (by decide) (show cdA 336 0 = some (.aload_n 2, 1, 0, 0, 0) from rfl) (fun k X E ET hRt hEx q => ?_)
  show WS k 0 [(0, .ref (A 0)), (1, .int (Int32.ofInt v)), (2, .ref (A 517))] [] _ 0 0
  have F : Fm [33] [1460] s s := fm_rf _ _ s
  have hA := swA_rf A
  have b1 : (0 : Int) ≤ iI s 33 ∧ iI s 33 ≤ 100000 := I.1 33
  refine z_aload_n X (x := A 517) (show cdA 336 0 = some (.aload_n 2, 1, 0, 0, 0) from rfl) (List.Mem.tail _ (List.Mem.tail _ (List.Mem.head _))) ?_
  refine z_const X (show cdA 336 1 = some (.iconst 0, 1, 0, 0, 0) from rfl) ?_
  refine z_aload_n X (x := A 0) (show cdA 336 2 = some (.aload_n 0, 1, 0, 0, 0) from rfl) (List.Mem.head _) ?_
  refine z_load_n X (x := v) (show cdA 336 3 = some (.iload_n 1, 1, 0, 0, 0) from rfl) (List.Mem.tail _ (List.Mem.head _)) ?_
  refine z_callV X 0 (rm := rmN 162) (As := [.int (Int32.ofInt v)]) (st := [.int (Int32.ofInt 0), .ref (A 517)]) (show cdA 336 4 = some (.invokevirtual 87, 3, 162, 0, 0) from rfl) rfl (by decide) rfl (by rw [E.1, E.2.1, E.2.2.1]; exact cs_busy2 G I (by omega)) ⟨by rw [E.2.2.2]; exact (show (rmN 162).frames + 1 ≤ (rmN 336).frames by decide), by rw [E.2.2.2]; exact (show 8 + (mNL (miB 162) + 11) + (rmN 162).locals ≤ (rmN 336).locals by decide), by rw [E.2.2.2]; exact (show 0 + (rmN 162).cells ≤ (rmN 336).cells by decide), by rw [E.2.2.2]; exact (show 0 + (rmN 162).slots ≤ (rmN 336).slots by decide)⟩ (Nat.le_of_ble_eq_true rfl) (fun vv s2 hq => ?_) (fun ee s2 hq => ?_)
  rotate_left
  · obtain ⟨Is2, Fs2, (⟨e3, hv, hrs2, hps2⟩ | ⟨xx, hv, hps2⟩)⟩ := hq
    · cases hv
    · cases hv
      rcases (show xx = 0 by omega) with gx
      ·
        subst gx
        have Gs2 := fm_ts F Fs2 (by decide) (by decide)
        have b4 : (0 : Int) ≤ iI s2 33 ∧ iI s2 33 ≤ 100000 := Is2.1 33
        refine (hEx 4 0).2 12 rfl _ _ _ _ _ (fun q1 => ?_)
        show WS k 12 [(0, .ref (A 0)), (1, .int (Int32.ofInt v)), (2, .ref (A 517))] [.ref q1] (Wd A dT s2) 1 6
        refine z_astore_n X (lv' := [(3, .ref q1), (0, .ref (A 0)), (1, .int (Int32.ofInt v)), (2, .ref (A 517))]) (show cdA 336 12 = some (.astore_n 3, 1, 0, 0, 0) from rfl) (by decide) (fun _ h => h) ?_
        refine z_const X (show cdA 336 13 = some (.iconst 1, 1, 0, 0, 0) from rfl) ?_
        exact w_iret X.1 q hRt rfl (ax_d X (show cdA 336 14 = some (.ireturn, 1, 0, 0, 0) from rfl)) (show 1 ≤ 1 by omega) (show 6 ≤ 6 by omega) ⟨A, _, hA, rfl, Is2, Gs2, 1, rfl, (by decide), by omega⟩
  obtain ⟨Is2, Fs2, (⟨e3, hv, hrs2, hps2⟩ | ⟨xx, hv, hps2⟩)⟩ := hq
  rotate_left
  · cases hv
  cases hv
  have Gs2 := fm_ts F Fs2 (by decide) (by decide)
  have b5 : (0 : Int) ≤ iI s2 33 ∧ iI s2 33 ≤ 100000 := Is2.1 33
  show WS k 7 [(0, .ref (A 0)), (1, .int (Int32.ofInt v)), (2, .ref (A 517))] [.int (Int32.ofInt e3), .int (Int32.ofInt 0), .ref (A 517)] (Wd A dT s2) 1 6
  refine w_i2l X.1 (ax_d X (show cdA 336 7 = some (.i2l, 1, 0, 0, 0) from rfl)) ?_
  refine z_last X 517 (show cdA 336 8 = some (.lastore, 1, 0, 0, 0) from rfl) (by decide) rfl (by omega) (show 0 < 1 by omega) (by decide) ?_
  obtain ⟨s6, hs6⟩ : ∃ x0, x0 = uD s2 460 (0 : Int).toNat (Int32.ofInt e3).toInt64 := ⟨_, rfl⟩
  rw [← hs6]
  have Is6 : Bd s6 := by rw [hs6]; exact bd_D Is2
  have Fs6 : Fm [33] [1460] s s6 := by rw [hs6]; exact fm_D Gs2 (show 460 + 1000 ∈ _ by decide)
  have ws6_33 : iI s6 33 = iI s2 33 := by rw [hs6]; rfl
  have oos6 : iO s6 = e3 := by rw [hs6]; exact iO_u (by omega)
  refine z_goto X (t := 15) (show cdA 336 9 = some (.goto 6, 3, 0, 0, 0) from rfl) (by decide) ?_
  refine z_const X (show cdA 336 15 = some (.iconst 0, 1, 0, 0, 0) from rfl) ?_
  exact w_iret X.1 q hRt rfl (ax_d X (show cdA 336 16 = some (.ireturn, 1, 0, 0, 0) from rfl)) (show 1 ≤ 1 by omega) (show 6 ≤ 6 by omega) ⟨A, _, hA, rfl, Is6, Fs6, 0, rfl, (by decide), by omega⟩
set_option maxRecDepth 4000 in
theorem lw_hours2 (G : GX l s0 D tys a0 dT) (I : Bd s) {u v : Int} (p0 : rng u) (p1 : rng v) : CTL l s0 D A dT 338 (rmN 338) [.ref (A 0), .int (Int32.ofInt u), .int (Int32.ofInt v), .ref (A 517)] s (fun o t => Bd t ∧ Fm [36, 37] [1460] s t ∧ ∃ e, o = .inl (some (.int (Int32.ofInt e))) ∧ rng e ∧ ((e = 0 ∧ ((u = 0 ∧ 1 ≤ v ∧ v ≤ 24 ∧ iO t = iI s 36 ∧ iI t 36 = v ∧ iI t 37 = iI s 37) ∨ (u = 1 ∧ 1 ≤ v ∧ v ≤ 8 ∧ iO t = iI s 37 ∧ iI t 37 = v ∧ iI t 36 = iI s 36))) ∨ (e = 1 ∧ (u < 0 ∨ 1 < u ∨ v < 1 ∨ (u = 0 ∧ 24 < v) ∨ (u = 1 ∧ 8 < v)) ∧ iI t 36 = iI s 36 ∧ iI t 37 = iI s 37))) := by
  refine ctL_of G (by decide) (Nat.le_of_ble_eq_true rfl) (by decide) (show cdA 338 0 = some (.aload_n 3, 1, 0, 0, 0) from rfl) (fun k X E ET hRt hEx q => ?_)
  show WS k 0 [(0, .ref (A 0)), (1, .int (Int32.ofInt u)), (2, .int (Int32.ofInt v)), (3, .ref (A 517))] [] _ 0 0
  have F : Fm [36, 37] [1460] s s := fm_rf _ _ s
  have hA := swA_rf A
  have b1 : (1 : Int) ≤ iI s 36 ∧ iI s 36 ≤ 24 := I.1 36
  have b2 : (1 : Int) ≤ iI s 37 ∧ iI s 37 ≤ 8 := I.1 37
  refine z_aload_n X (x := A 517) (show cdA 338 0 = some (.aload_n 3, 1, 0, 0, 0) from rfl) (List.Mem.tail _ (List.Mem.tail _ (List.Mem.tail _ (List.Mem.head _)))) ?_
  refine z_const X (show cdA 338 1 = some (.iconst 0, 1, 0, 0, 0) from rfl) ?_
  refine z_aload_n X (x := A 0) (show cdA 338 2 = some (.aload_n 0, 1, 0, 0, 0) from rfl) (List.Mem.head _) ?_
  refine z_load_n X (x := u) (show cdA 338 3 = some (.iload_n 1, 1, 0, 0, 0) from rfl) (List.Mem.tail _ (List.Mem.head _)) ?_
  refine z_load_n X (x := v) (show cdA 338 4 = some (.iload_n 2, 1, 0, 0, 0) from rfl) (List.Mem.tail _ (List.Mem.tail _ (List.Mem.head _))) ?_
  refine z_callV X 0 (rm := rmN 164) (As := [.int (Int32.ofInt u), .int (Int32.ofInt v)]) (st := [.int (Int32.ofInt 0), .ref (A 517)]) (show cdA 338 5 = some (.invokevirtual 93, 3, 164, 0, 0) from rfl) rfl (by decide) rfl (by rw [E.1, E.2.1, E.2.2.1]; exact cs_hours2 G I (by omega) (by omega)) ⟨by rw [E.2.2.2]; exact (show (rmN 164).frames + 1 ≤ (rmN 338).frames by decide), by rw [E.2.2.2]; exact (show 8 + (mNL (miB 164) + 11) + (rmN 164).locals ≤ (rmN 338).locals by decide), by rw [E.2.2.2]; exact (show 0 + (rmN 164).cells ≤ (rmN 338).cells by decide), by rw [E.2.2.2]; exact (show 0 + (rmN 164).slots ≤ (rmN 338).slots by decide)⟩ (Nat.le_of_ble_eq_true rfl) (fun vv s3 hq => ?_) (fun ee s3 hq => ?_)
  rotate_left
  · obtain ⟨Is3, Fs3, (⟨e4, hv, hrs3, hps3⟩ | ⟨xx, hv, hps3⟩)⟩ := hq
    · cases hv
    · cases hv
      rcases (show xx = 0 by omega) with gx
      ·
        subst gx
        have Gs3 := fm_ts F Fs3 (by decide) (by decide)
        have b5 : (1 : Int) ≤ iI s3 36 ∧ iI s3 36 ≤ 24 := Is3.1 36
        have b6 : (1 : Int) ≤ iI s3 37 ∧ iI s3 37 ≤ 8 := Is3.1 37
        refine (hEx 5 0).2 13 rfl _ _ _ _ _ (fun q1 => ?_)
        show WS k 13 [(0, .ref (A 0)), (1, .int (Int32.ofInt u)), (2, .int (Int32.ofInt v)), (3, .ref (A 517))] [.ref q1] (Wd A dT s3) 2 12
        refine z_astore X (lv' := [(4, .ref q1), (0, .ref (A 0)), (1, .int (Int32.ofInt u)), (2, .int (Int32.ofInt v)), (3, .ref (A 517))]) (show cdA 338 13 = some (.astore 4, 2, 0, 0, 0) from rfl) (by decide) (fun _ h => h) ?_
        refine z_const X (show cdA 338 15 = some (.iconst 1, 1, 0, 0, 0) from rfl) ?_
        exact w_iret X.1 q hRt rfl (ax_d X (show cdA 338 16 = some (.ireturn, 1, 0, 0, 0) from rfl)) (show 2 ≤ 2 by omega) (show 12 ≤ 12 by omega) ⟨A, _, hA, rfl, Is3, Gs3, 1, rfl, (by decide), by omega⟩
  obtain ⟨Is3, Fs3, (⟨e4, hv, hrs3, hps3⟩ | ⟨xx, hv, hps3⟩)⟩ := hq
  rotate_left
  · cases hv
  cases hv
  have Gs3 := fm_ts F Fs3 (by decide) (by decide)
  have b7 : (1 : Int) ≤ iI s3 36 ∧ iI s3 36 ≤ 24 := Is3.1 36
  have b8 : (1 : Int) ≤ iI s3 37 ∧ iI s3 37 ≤ 8 := Is3.1 37
  show WS k 8 [(0, .ref (A 0)), (1, .int (Int32.ofInt u)), (2, .int (Int32.ofInt v)), (3, .ref (A 517))] [.int (Int32.ofInt e4), .int (Int32.ofInt 0), .ref (A 517)] (Wd A dT s3) 2 12
  refine w_i2l X.1 (ax_d X (show cdA 338 8 = some (.i2l, 1, 0, 0, 0) from rfl)) ?_
  refine z_last X 517 (show cdA 338 9 = some (.lastore, 1, 0, 0, 0) from rfl) (by decide) rfl (by omega) (show 0 < 1 by omega) (by decide) ?_
  obtain ⟨s9, hs9⟩ : ∃ x0, x0 = uD s3 460 (0 : Int).toNat (Int32.ofInt e4).toInt64 := ⟨_, rfl⟩
  rw [← hs9]
  have Is9 : Bd s9 := by rw [hs9]; exact bd_D Is3
  have Fs9 : Fm [36, 37] [1460] s s9 := by rw [hs9]; exact fm_D Gs3 (show 460 + 1000 ∈ _ by decide)
  have ws9_36 : iI s9 36 = iI s3 36 := by rw [hs9]; rfl
  have ws9_37 : iI s9 37 = iI s3 37 := by rw [hs9]; rfl
  have oos9 : iO s9 = e4 := by rw [hs9]; exact iO_u (by omega)
  refine z_goto X (t := 17) (show cdA 338 10 = some (.goto 7, 3, 0, 0, 0) from rfl) (by decide) ?_
  refine z_const X (show cdA 338 17 = some (.iconst 0, 1, 0, 0, 0) from rfl) ?_
  exact w_iret X.1 q hRt rfl (ax_d X (show cdA 338 18 = some (.ireturn, 1, 0, 0, 0) from rfl)) (show 2 ≤ 2 by omega) (show 12 ≤ 12 by omega) ⟨A, _, hA, rfl, Is9, Fs9, 0, rfl, (by decide), by omega⟩
set_option maxRecDepth 4000 in
theorem lw_configure2 (G : GX l s0 D tys a0 dT) (I : Bd s) {v : Int} (p0 : rng v) : CTL l s0 D A dT 334 (rmN 334) [.ref (A 0), .int (Int32.ofInt v), .ref (A 517)] s (fun o t => Bd t ∧ Fm [32] [46, 1460] s t ∧ ∃ e, o = .inl (some (.int (Int32.ofInt e))) ∧ rng e ∧ ((e = 0 ∧ 0 ≤ v ∧ v < 16777216 ∧ ((iI s 32 = 6 ∧ iO t = -1 ∧ iI t 32 = 6) ∨ (iI s 32 ≠ 6 ∧ iO t = iI s 32 ∧ iI t 32 = iI s 32 + 1))) ∨ (e = 1 ∧ (v < 0 ∨ 16777216 ≤ v) ∧ iI t 32 = iI s 32))) := by
  refine ctL_of G (by decide) (Nat.le_of_ble_eq_true rfl) (by decide) (show cdA 334 0 = some (.aload_n 2, 1, 0, 0, 0) from rfl) (fun k X E ET hRt hEx q => ?_)
  show WS k 0 [(0, .ref (A 0)), (1, .int (Int32.ofInt v)), (2, .ref (A 517))] [] _ 0 0
  have F : Fm [32] [46, 1460] s s := fm_rf _ _ s
  have hA := swA_rf A
  have b1 : (0 : Int) ≤ iI s 32 ∧ iI s 32 ≤ 6 := I.1 32
  refine z_aload_n X (x := A 517) (show cdA 334 0 = some (.aload_n 2, 1, 0, 0, 0) from rfl) (List.Mem.tail _ (List.Mem.tail _ (List.Mem.head _))) ?_
  refine z_const X (show cdA 334 1 = some (.iconst 0, 1, 0, 0, 0) from rfl) ?_
  refine z_aload_n X (x := A 0) (show cdA 334 2 = some (.aload_n 0, 1, 0, 0, 0) from rfl) (List.Mem.head _) ?_
  refine z_load_n X (x := v) (show cdA 334 3 = some (.iload_n 1, 1, 0, 0, 0) from rfl) (List.Mem.tail _ (List.Mem.head _)) ?_
  refine z_callV X 0 (rm := rmN 160) (As := [.int (Int32.ofInt v)]) (st := [.int (Int32.ofInt 0), .ref (A 517)]) (show cdA 334 4 = some (.invokevirtual 81, 3, 160, 0, 0) from rfl) rfl (by decide) rfl (by rw [E.1, E.2.1, E.2.2.1]; exact cs_configure2 G I (by omega)) ⟨by rw [E.2.2.2]; exact (show (rmN 160).frames + 1 ≤ (rmN 334).frames by decide), by rw [E.2.2.2]; exact (show 8 + (mNL (miB 160) + 11) + (rmN 160).locals ≤ (rmN 334).locals by decide), by rw [E.2.2.2]; exact (show 0 + (rmN 160).cells ≤ (rmN 334).cells by decide), by rw [E.2.2.2]; exact (show 0 + (rmN 160).slots ≤ (rmN 334).slots by decide)⟩ (Nat.le_of_ble_eq_true rfl) (fun vv s2 hq => ?_) (fun ee s2 hq => ?_)
  rotate_left
  · obtain ⟨Is2, Fs2, (⟨e3, hv, hrs2, hps2⟩ | ⟨xx, hv, hps2⟩)⟩ := hq
    · cases hv
    · cases hv
      rcases (show xx = 0 by omega) with gx
      ·
        subst gx
        have Gs2 := fm_ts F Fs2 (by decide) (by decide)
        have b4 : (0 : Int) ≤ iI s2 32 ∧ iI s2 32 ≤ 6 := Is2.1 32
        refine (hEx 4 0).2 12 rfl _ _ _ _ _ (fun q1 => ?_)
        show WS k 12 [(0, .ref (A 0)), (1, .int (Int32.ofInt v)), (2, .ref (A 517))] [.ref q1] (Wd A dT s2) 1 6
        refine z_astore_n X (lv' := [(3, .ref q1), (0, .ref (A 0)), (1, .int (Int32.ofInt v)), (2, .ref (A 517))]) (show cdA 334 12 = some (.astore_n 3, 1, 0, 0, 0) from rfl) (by decide) (fun _ h => h) ?_
        refine z_const X (show cdA 334 13 = some (.iconst 1, 1, 0, 0, 0) from rfl) ?_
        exact w_iret X.1 q hRt rfl (ax_d X (show cdA 334 14 = some (.ireturn, 1, 0, 0, 0) from rfl)) (show 1 ≤ 1 by omega) (show 6 ≤ 6 by omega) ⟨A, _, hA, rfl, Is2, Gs2, 1, rfl, (by decide), by omega⟩
  obtain ⟨Is2, Fs2, (⟨e3, hv, hrs2, hps2⟩ | ⟨xx, hv, hps2⟩)⟩ := hq
  rotate_left
  · cases hv
  cases hv
  have Gs2 := fm_ts F Fs2 (by decide) (by decide)
  have b5 : (0 : Int) ≤ iI s2 32 ∧ iI s2 32 ≤ 6 := Is2.1 32
  show WS k 7 [(0, .ref (A 0)), (1, .int (Int32.ofInt v)), (2, .ref (A 517))] [.int (Int32.ofInt e3), .int (Int32.ofInt 0), .ref (A 517)] (Wd A dT s2) 1 6
  refine w_i2l X.1 (ax_d X (show cdA 334 7 = some (.i2l, 1, 0, 0, 0) from rfl)) ?_
  refine z_last X 517 (show cdA 334 8 = some (.lastore, 1, 0, 0, 0) from rfl) (by decide) rfl (by omega) (show 0 < 1 by omega) (by decide) ?_
  obtain ⟨s6, hs6⟩ : ∃ x0, x0 = uD s2 460 (0 : Int).toNat (Int32.ofInt e3).toInt64 := ⟨_, rfl⟩
  rw [← hs6]
  have Is6 : Bd s6 := by rw [hs6]; exact bd_D Is2
  have Fs6 : Fm [32] [46, 1460] s s6 := by rw [hs6]; exact fm_D Gs2 (show 460 + 1000 ∈ _ by decide)
  have ws6_32 : iI s6 32 = iI s2 32 := by rw [hs6]; rfl
  have oos6 : iO s6 = e3 := by rw [hs6]; exact iO_u (by omega)
  refine z_goto X (t := 15) (show cdA 334 9 = some (.goto 6, 3, 0, 0, 0) from rfl) (by decide) ?_
  refine z_const X (show cdA 334 15 = some (.iconst 0, 1, 0, 0, 0) from rfl) ?_
  exact w_iret X.1 q hRt rfl (ax_d X (show cdA 334 16 = some (.ireturn, 1, 0, 0, 0) from rfl)) (show 1 ≤ 1 by omega) (show 6 ≤ 6 by omega) ⟨A, _, hA, rfl, Is6, Fs6, 0, rfl, (by decide), by omega⟩
set_option maxRecDepth 4000 in
theorem cs_needPiece2 (G : GX l s0 D tys a0 dT) (I : Bd s) {v : Int} (p0 : rng v) : CT l s0 D A dT 182 (rmN 182) [.ref (A 0), .int (Int32.ofInt v)] s (fun o t => Bd t ∧ Fm [] [] s t ∧ ((o = .inl none ∧ (0 ≤ v ∧ v ≤ 7)) ∨ ∃ x : Nat, o = .inr (exN x) ∧ (x = 0 ∧ (v < 0 ∨ 7 < v)))) := by
  refine ct_ofX G (by decide) (Nat.le_of_ble_eq_true rfl) (fun k X E ET hRt hXt q => ?_)
  show WS k 0 [(0, .ref (A 0)), (1, .int (Int32.ofInt v))] [] _ 0 0
  have F : Fm [] [] s s := fm_rf _ _ s
  refine z_aload_n X (x := A 0) (show cdA 182 0 = some (.aload_n 0, 1, 0, 0, 0) from rfl) (List.Mem.head _) ?_
  refine z_load_n X (x := v) (show cdA 182 1 = some (.iload_n 1, 1, 0, 0, 0) from rfl) (List.Mem.tail _ (List.Mem.head _)) ?_
  refine z_const X (show cdA 182 2 = some (.iconst 0, 1, 0, 0, 0) from rfl) ?_
  refine z_bipush X (show cdA 182 3 = some (.bipush 7, 2, 0, 0, 7) from rfl) ?_
  refine z_callV X 0 (rm := rmN 184) (As := [.int (Int32.ofInt v), .int (Int32.ofInt 0), .int (Int32.ofInt 7)]) (st := []) (show cdA 182 5 = some (.invokevirtual 151, 3, 184, 0, 0) from rfl) rfl (by decide) rfl (by rw [E.1, E.2.1, E.2.2.1]; exact cs_needWithin2 G I (by first | exact ⟨p0.1, p0.2⟩ | omega) (by first | exact ⟨by decide, by decide⟩ | omega) (by first | exact ⟨by decide, by decide⟩ | omega)) ⟨by rw [E.2.2.2]; exact (show (rmN 184).frames + 1 ≤ (rmN 182).frames by decide), by rw [E.2.2.2]; exact (show 8 + (mNL (miB 184) + 11) + (rmN 184).locals ≤ (rmN 182).locals by decide), by rw [E.2.2.2]; exact (show 0 + 1 ≤ 1 by omega), by rw [E.2.2.2]; exact (show 0 + 6 ≤ 6 by omega)⟩ (Nat.le_of_ble_eq_true rfl) (fun vv s1 hq => ?_) (fun ee s1 hq => ?_)
  rotate_left
  · obtain ⟨Is1, Fs1, (⟨hv, hps1⟩ | ⟨xx, hv, hps1⟩)⟩ := hq
    · cases hv
    · cases hv
      have Gs1 := fm_ts F Fs1 (by decide) (by decide)
      exact x_out X.1 q (fun x hx => (hXt x hx).elim) (show 1 ≤ 1 by omega) (show 6 ≤ 6 by omega) ⟨_, rfl, Is1, Gs1, Or.inr ⟨xx, rfl, by omega⟩⟩
  obtain ⟨Is1, Fs1, (⟨hv, hps1⟩ | ⟨xx, hv, hps1⟩)⟩ := hq
  rotate_left
  · cases hv
  cases hv
  have Gs1 := fm_ts F Fs1 (by decide) (by decide)
  show WS k 8 [(0, .ref (A 0)), (1, .int (Int32.ofInt v))] [] (Wd A dT s1) 1 6
  exact w_vret X.1 q hRt (ax_d X (show cdA 182 8 = some (.return_, 1, 0, 0, 0) from rfl)) (show 1 ≤ 1 by omega) (show 6 ≤ 6 by omega) ⟨_, rfl, Is1, Gs1, Or.inl ⟨rfl, by first | exact ⟨hps1.1, hps1.2⟩ | omega⟩⟩
set_option maxRecDepth 4000 in
theorem k_limit2 (G : GX l s0 D tys a0 dT) (I : Bd s) {x y : Int} (p0 : rng x) (p1 : rng y) : CT l s0 D A dT 236 (rmN 236) [.ref (A 179), .int (Int32.ofInt x), .int (Int32.ofInt y)] s (fun o t => Bd t ∧ Fm [73] [229] s t ∧ ∃ e, o = .inl (some (.int (Int32.ofInt e))) ∧ rng e ∧ ((0 ≤ x ∧ x ≤ 7 ∧ 0 ≤ y ∧ y ≤ 9999 ∧ iI t 73 = 0 ∧ e = iC s 229 x.toNat ∧ UPD 229 x y s t) ∨ ((x < 0 ∨ 7 < x ∨ y < 0 ∨ 9999 < y) ∧ iI t 73 = 1 ∧ SAM 229 s t))) := by
  refine ct_of G (by decide) (Nat.le_of_ble_eq_true rfl) (fun k X E hRt hXt q => ?_)
  show WS k 0 [(0, .ref (A 179)), (1, .int (Int32.ofInt x)), (2, .int (Int32.ofInt y))] [] _ 0 0
  have F : Fm [73] [229] s s := fm_rf _ _ s
  have aw0_229 : SAM 229 s s := sam_rf
  have b1 : (0 : Int) ≤ iI s 73 ∧ iI s 73 ≤ 3 := I.1 73
  refine z_aload_n X (x := A 179) (show cdA 236 0 = some (.aload_n 0, 1, 0, 0, 0) from rfl) (List.Mem.head _) ?_
  refine z_const X (show cdA 236 1 = some (.iconst 0, 1, 0, 0, 0) from rfl) ?_
  refine s_putI X 179 (show cdA 236 2 = some (.putfield 172, 3, 12, 0, 0) from rfl) (by decide) rfl rfl (by decide) rfl rfl rfl ?_
  obtain ⟨s2, hs2⟩ : ∃ x0, x0 = uI s 73 (Int32.ofInt 0) := ⟨_, rfl⟩
  rw [← hs2]
  have Is2 : Bd s2 := by rw [hs2]; exact bd_I I (show (0 : Int) ≤ 0 ∧ 0 ≤ 3 by first | exact ⟨by decide, by decide⟩ | omega) (by decide)
  have Fs2 := fm_I (x := Int32.ofInt 0) F (show 73 ∈ _ by decide)
  rw [← hs2] at Fs2
  have vs2 : iI s2 73 = 0 := by rw [hs2]; exact iI_u (by decide)
  have aws2_229 : SAM 229 s s2 := by rw [hs2]; exact aw0_229
  refine z_aload_n X (x := A 179) (show cdA 236 5 = some (.aload_n 0, 1, 0, 0, 0) from rfl) (List.Mem.head _) ?_
  refine z_load_n X (x := x) (show cdA 236 6 = some (.iload_n 1, 1, 0, 0, 0) from rfl) (List.Mem.tail _ (List.Mem.head _)) ?_
  refine z_const X (show cdA 236 7 = some (.iconst 0, 1, 0, 0, 0) from rfl) ?_
  refine z_bipush X (show cdA 236 8 = some (.bipush 7, 2, 0, 0, 7) from rfl) ?_
  refine z_callS X (rm := rmN 188) (As := [.int (Int32.ofInt x), .int (Int32.ofInt 0), .int (Int32.ofInt 7)]) (st := [.ref (A 179)]) (show cdA 236 10 = some (.invokestatic 209, 3, 188, 1, 0) from rfl) rfl (by rw [E.1, E.2.1, E.2.2.1]; exact k_in2 G Is2 (by first | exact ⟨p0.1, p0.2⟩ | omega) (by first | exact ⟨by decide, by decide⟩ | omega) (by first | exact ⟨by decide, by decide⟩ | omega)) ⟨by rw [E.2.2.2]; exact (show (rmN 188).frames + 1 ≤ (rmN 236).frames by decide), by rw [E.2.2.2]; exact (show 8 + (mNL (miB 188) + 11) + (rmN 188).locals ≤ (rmN 236).locals by decide), by rw [E.2.2.2]; exact (show 0 + (rmN 188).cells ≤ (rmN 236).cells by decide), by rw [E.2.2.2]; exact (show 0 + (rmN 188).slots ≤ (rmN 236).slots by decide)⟩ (Nat.le_of_ble_eq_true rfl) (fun vv s3 hq => ?_) (fun ee s3 hq => ?_)
  rotate_left
  · obtain ⟨rfl, e4, hv, hrs3, hps3⟩ := hq; cases hv
  obtain ⟨rfl, e4, hv, hrs3, hps3⟩ := hq
  cases hv
  show WS k 13 [(0, .ref (A 179)), (1, .int (Int32.ofInt x)), (2, .int (Int32.ofInt y))] [.int (Int32.ofInt e4), .ref (A 179)] (Wd A dT s2) 0 0
  refine z_if_eq X (t := 27) (show cdA 236 13 = some (.ifCond .eq 14, 3, 0, 0, 0) from rfl) (by decide) hrs3 (fun g5 => ?_) (fun g5 => ?_)
  ·
    refine z_const X (show cdA 236 27 = some (.iconst 1, 1, 0, 0, 0) from rfl) ?_
    refine z_goto X (t := 32) (show cdA 236 28 = some (.goto 4, 3, 0, 0, 0) from rfl) (by decide) ?_
    refine z_const X (show cdA 236 32 = some (.iconst 1, 1, 0, 0, 0) from rfl) ?_
    refine z_callV X 179 (rm := rmN 187) (As := [.int (Int32.ofInt 1), .int (Int32.ofInt 1)]) (st := []) (show cdA 236 33 = some (.invokevirtual 229, 3, 187, 0, 0) from rfl) rfl (by decide) rfl (by rw [E.1, E.2.1, E.2.2.1]; exact k_bad2 G Is2 (by first | exact Or.inr (by decide) | omega) (by first | exact ⟨by decide, by decide⟩ | omega)) ⟨by rw [E.2.2.2]; exact (show (rmN 187).frames + 1 ≤ (rmN 236).frames by decide), by rw [E.2.2.2]; exact (show 8 + (mNL (miB 187) + 11) + (rmN 187).locals ≤ (rmN 236).locals by decide), by rw [E.2.2.2]; exact (show 0 + (rmN 187).cells ≤ (rmN 236).cells by decide), by rw [E.2.2.2]; exact (show 0 + (rmN 187).slots ≤ (rmN 236).slots by decide)⟩ (Nat.le_of_ble_eq_true rfl) (fun vv s6 hq => ?_) (fun ee s6 hq => ?_)
    rotate_left
    · obtain ⟨Is6, Fs6, e7, hv, hrs6, hps6⟩ := hq; cases hv
    obtain ⟨Is6, Fs6, e7, hv, hrs6, hps6⟩ := hq
    cases hv
    have Gs6 := fm_ts Fs2 Fs6 (by decide) (by decide)
    have b8 : (0 : Int) ≤ iI s6 73 ∧ iI s6 73 ≤ 3 := Is6.1 73
    have aws6_229 : SAM 229 s s6 := sam_ts aws2_229 (sam_fm Fs6 (by decide))
    show WS k 36 [(0, .ref (A 179)), (1, .int (Int32.ofInt x)), (2, .int (Int32.ofInt y))] [.int (Int32.ofInt e7)] (Wd A dT s6) 0 0
    refine z_if_eq X (t := 41) (show cdA 236 36 = some (.ifCond .eq 5, 3, 0, 0, 0) from rfl) (by decide) hrs6 (fun g9 => ?_) (fun g9 => ?_)
    ·
      refine z_aload_n X (x := A 179) (show cdA 236 41 = some (.aload_n 0, 1, 0, 0, 0) from rfl) (List.Mem.head _) ?_
      refine s_getR X 179 (show cdA 236 42 = some (.getfield 73, 3, 12, 36, 0) from rfl) (by decide) rfl rfl ?_
      refine z_load_n X (x := x) (show cdA 236 45 = some (.iload_n 1, 1, 0, 0, 0) from rfl) (List.Mem.tail _ (List.Mem.head _)) ?_
      refine z_ald X 257 (show cdA 236 46 = some (.iaload, 1, 0, 0, 0) from rfl) (by decide) rfl (by first | exact oq_674898f9 g9 hps6 vs2 | omega) (show x < 8 by first | exact oq_46361496 g9 hps6 vs2 | omega) (by decide) ?_
      have b10 : (0 : Int) ≤ iC s6 229 (x).toNat ∧ iC s6 229 (x).toNat ≤ 9999 := Is6.2 229 _ (show (x).toNat < 8 by first | exact oq_086235ae g9 hps6 vs2 | omega)
      have ar11 : iC s6 229 (x).toNat = iC s 229 (x).toNat := aws6_229 _
      refine z_store_n X (lv' := [(3, .int (Int32.ofInt (iC s6 229 (x).toNat))), (0, .ref (A 179)), (1, .int (Int32.ofInt x)), (2, .int (Int32.ofInt y))]) (show cdA 236 47 = some (.istore_n 3, 1, 0, 0, 0) from rfl) (by decide) (fun _ h => h) ?_
      refine z_aload_n X (x := A 179) (show cdA 236 48 = some (.aload_n 0, 1, 0, 0, 0) from rfl) (List.Mem.tail _ (List.Mem.head _)) ?_
      refine s_getR X 179 (show cdA 236 49 = some (.getfield 73, 3, 12, 36, 0) from rfl) (by decide) rfl rfl ?_
      refine z_load_n X (x := x) (show cdA 236 52 = some (.iload_n 1, 1, 0, 0, 0) from rfl) (List.Mem.tail _ (List.Mem.tail _ (List.Mem.head _))) ?_
      refine z_load_n X (x := y) (show cdA 236 53 = some (.iload_n 2, 1, 0, 0, 0) from rfl) (List.Mem.tail _ (List.Mem.tail _ (List.Mem.tail _ (List.Mem.head _)))) ?_
      refine z_ast X 257 (show cdA 236 54 = some (.iastore, 1, 0, 0, 0) from rfl) (by decide) rfl (by first | exact oq_674898f9 g9 hps6 vs2 | omega) (show x < 8 by first | exact oq_46361496 g9 hps6 vs2 | omega) (by decide) ?_
      obtain ⟨s12, hs12⟩ : ∃ x0, x0 = uC s6 229 (x).toNat (Int32.ofInt y) := ⟨_, rfl⟩
      rw [← hs12]
      have Is12 : Bd s12 := by rw [hs12]; exact bd_C Is6 (show (0 : Int) ≤ y ∧ y ≤ 9999 by first | exact ⟨oq_674898f9 g9 hps6 vs2, oq_e48faaef g9 hps6 vs2⟩ | omega) ⟨by first | exact p1.1 | omega, by first | exact p1.2 | omega⟩
      have Fs12 := fm_C (i := (x).toNat) (x := Int32.ofInt y) Gs6 (show 229 ∈ _ by decide)
      rw [← hs12] at Fs12
      have ws12_73 : iI s12 73 = iI s6 73 := by rw [hs12]; rfl
      have aws12_229 : UPD 229 (x) y s s12 := by rw [hs12]; exact upd_put aws6_229 ⟨by first | exact p1.1 | omega, by first | exact p1.2 | omega⟩
      refine z_load_n X (x := (iC s6 229 (x).toNat)) (show cdA 236 55 = some (.iload_n 3, 1, 0, 0, 0) from rfl) (List.Mem.head _) ?_
      exact w_iret X.1 q hRt rfl (ax_d X (show cdA 236 56 = some (.ireturn, 1, 0, 0, 0) from rfl)) (Nat.zero_le _) (Nat.zero_le _) ⟨_, rfl, Is12, Fs12, (iC s6 229 (x).toNat), rfl, (rng_to _), Or.inl ⟨by first | exact oq_674898f9 g9 hps6 vs2 | omega, by first | exact oq_7d7a532a g9 hps6 vs2 | omega, by first | exact oq_674898f9 g9 hps6 vs2 | omega, by first | exact oq_e48faaef g9 hps6 vs2 | omega, by first | exact oq_8c407924 ws12_73 g9 b8.1 hps6 vs2 | omega, by first | exact ar11 | omega, aws12_229⟩⟩
    ·
      refine z_const X (show cdA 236 39 = some (.iconst 0, 1, 0, 0, 0) from rfl) ?_
      exact w_iret X.1 q hRt rfl (ax_d X (show cdA 236 40 = some (.ireturn, 1, 0, 0, 0) from rfl)) (Nat.zero_le _) (Nat.zero_le _) ⟨_, rfl, Is6, Gs6, 0, rfl, (by decide), Or.inr (⟨by first | exact oq_791d66b1 g5 hps3 | omega, by first | exact oq_faabd673 g9 hps6 vs2 | omega, aws6_229⟩)⟩
  ·
    refine z_load_n X (x := y) (show cdA 236 16 = some (.iload_n 2, 1, 0, 0, 0) from rfl) (List.Mem.tail _ (List.Mem.tail _ (List.Mem.head _))) ?_
    refine z_const X (show cdA 236 17 = some (.iconst 0, 1, 0, 0, 0) from rfl) ?_
    refine z_sipush X (show cdA 236 18 = some (.sipush 9999, 3, 0, 0, 9999) from rfl) ?_
    refine z_callS X (rm := rmN 188) (As := [.int (Int32.ofInt y), .int (Int32.ofInt 0), .int (Int32.ofInt 9999)]) (st := [.ref (A 179)]) (show cdA 236 21 = some (.invokestatic 209, 3, 188, 1, 0) from rfl) rfl (by rw [E.1, E.2.1, E.2.2.1]; exact k_in2 G Is2 (by first | exact ⟨p1.1, p1.2⟩ | omega) (by first | exact ⟨by decide, by decide⟩ | omega) (by first | exact ⟨by decide, by decide⟩ | omega)) ⟨by rw [E.2.2.2]; exact (show (rmN 188).frames + 1 ≤ (rmN 236).frames by decide), by rw [E.2.2.2]; exact (show 8 + (mNL (miB 188) + 11) + (rmN 188).locals ≤ (rmN 236).locals by decide), by rw [E.2.2.2]; exact (show 0 + (rmN 188).cells ≤ (rmN 236).cells by decide), by rw [E.2.2.2]; exact (show 0 + (rmN 188).slots ≤ (rmN 236).slots by decide)⟩ (Nat.le_of_ble_eq_true rfl) (fun vv s13 hq => ?_) (fun ee s13 hq => ?_)
    rotate_left
    · obtain ⟨rfl, e14, hv, hrs13, hps13⟩ := hq; cases hv
    obtain ⟨rfl, e14, hv, hrs13, hps13⟩ := hq
    cases hv
    show WS k 24 [(0, .ref (A 179)), (1, .int (Int32.ofInt x)), (2, .int (Int32.ofInt y))] [.int (Int32.ofInt e14), .ref (A 179)] (Wd A dT s2) 0 0
    have N15 : ∀ e16 : Int, (((e14 ≠ 0) ∧ e16 = 0) ∨ ((e14 = 0) ∧ e16 = 1)) → WS k 32 [(0, .ref (A 179)), (1, .int (Int32.ofInt x)), (2, .int (Int32.ofInt y))] [.int (Int32.ofInt e16), .ref (A 179)] (Wd A dT s2) 0 0 := by
      intro e16 he16
      have re16 : 0 ≤ e16 ∧ e16 ≤ 1 := by omega
      refine z_const X (show cdA 236 32 = some (.iconst 1, 1, 0, 0, 0) from rfl) ?_
      refine z_callV X 179 (rm := rmN 187) (As := [.int (Int32.ofInt e16), .int (Int32.ofInt 1)]) (st := []) (show cdA 236 33 = some (.invokevirtual 229, 3, 187, 0, 0) from rfl) rfl (by decide) rfl (by rw [E.1, E.2.1, E.2.2.1]; exact k_bad2 G Is2 (by first | exact oq_31e518ae re16.2 re16.1 | omega) (by first | exact ⟨by decide, by decide⟩ | omega)) ⟨by rw [E.2.2.2]; exact (show (rmN 187).frames + 1 ≤ (rmN 236).frames by decide), by rw [E.2.2.2]; exact (show 8 + (mNL (miB 187) + 11) + (rmN 187).locals ≤ (rmN 236).locals by decide), by rw [E.2.2.2]; exact (show 0 + (rmN 187).cells ≤ (rmN 236).cells by decide), by rw [E.2.2.2]; exact (show 0 + (rmN 187).slots ≤ (rmN 236).slots by decide)⟩ (Nat.le_of_ble_eq_true rfl) (fun vv s17 hq => ?_) (fun ee s17 hq => ?_)
      rotate_left
      · obtain ⟨Is17, Fs17, e18, hv, hrs17, hps17⟩ := hq; cases hv
      obtain ⟨Is17, Fs17, e18, hv, hrs17, hps17⟩ := hq
      cases hv
      have Gs17 := fm_ts Fs2 Fs17 (by decide) (by decide)
      have b19 : (0 : Int) ≤ iI s17 73 ∧ iI s17 73 ≤ 3 := Is17.1 73
      have aws17_229 : SAM 229 s s17 := sam_ts aws2_229 (sam_fm Fs17 (by decide))
      show WS k 36 [(0, .ref (A 179)), (1, .int (Int32.ofInt x)), (2, .int (Int32.ofInt y))] [.int (Int32.ofInt e18)] (Wd A dT s17) 0 0
      refine z_if_eq X (t := 41) (show cdA 236 36 = some (.ifCond .eq 5, 3, 0, 0, 0) from rfl) (by decide) hrs17 (fun g20 => ?_) (fun g20 => ?_)
      ·
        refine z_aload_n X (x := A 179) (show cdA 236 41 = some (.aload_n 0, 1, 0, 0, 0) from rfl) (List.Mem.head _) ?_
        refine s_getR X 179 (show cdA 236 42 = some (.getfield 73, 3, 12, 36, 0) from rfl) (by decide) rfl rfl ?_
        refine z_load_n X (x := x) (show cdA 236 45 = some (.iload_n 1, 1, 0, 0, 0) from rfl) (List.Mem.tail _ (List.Mem.head _)) ?_
        refine z_ald X 257 (show cdA 236 46 = some (.iaload, 1, 0, 0, 0) from rfl) (by decide) rfl (by first | exact oq_28d92795 g5 hps3 | omega) (show x < 8 by first | exact oq_246a8e49 g5 hps3 | omega) (by decide) ?_
        have b21 : (0 : Int) ≤ iC s17 229 (x).toNat ∧ iC s17 229 (x).toNat ≤ 9999 := Is17.2 229 _ (show (x).toNat < 8 by first | exact oq_9a20133a g5 hps3 | omega)
        have ar22 : iC s17 229 (x).toNat = iC s 229 (x).toNat := aws17_229 _
        refine z_store_n X (lv' := [(3, .int (Int32.ofInt (iC s17 229 (x).toNat))), (0, .ref (A 179)), (1, .int (Int32.ofInt x)), (2, .int (Int32.ofInt y))]) (show cdA 236 47 = some (.istore_n 3, 1, 0, 0, 0) from rfl) (by decide) (fun _ h => h) ?_
        refine z_aload_n X (x := A 179) (show cdA 236 48 = some (.aload_n 0, 1, 0, 0, 0) from rfl) (List.Mem.tail _ (List.Mem.head _)) ?_
        refine s_getR X 179 (show cdA 236 49 = some (.getfield 73, 3, 12, 36, 0) from rfl) (by decide) rfl rfl ?_
        refine z_load_n X (x := x) (show cdA 236 52 = some (.iload_n 1, 1, 0, 0, 0) from rfl) (List.Mem.tail _ (List.Mem.tail _ (List.Mem.head _))) ?_
        refine z_load_n X (x := y) (show cdA 236 53 = some (.iload_n 2, 1, 0, 0, 0) from rfl) (List.Mem.tail _ (List.Mem.tail _ (List.Mem.tail _ (List.Mem.head _)))) ?_
        refine z_ast X 257 (show cdA 236 54 = some (.iastore, 1, 0, 0, 0) from rfl) (by decide) rfl (by first | exact oq_28d92795 g5 hps3 | omega) (show x < 8 by first | exact oq_246a8e49 g5 hps3 | omega) (by decide) ?_
        obtain ⟨s23, hs23⟩ : ∃ x0, x0 = uC s17 229 (x).toNat (Int32.ofInt y) := ⟨_, rfl⟩
        rw [← hs23]
        have Is23 : Bd s23 := by rw [hs23]; exact bd_C Is17 (show (0 : Int) ≤ y ∧ y ≤ 9999 by first | exact ⟨oq_7f8ce9be g20 hps17 he16 hps13 vs2, oq_7cd554bd g20 hps17 he16 hps13 vs2⟩ | omega) ⟨by first | exact p1.1 | omega, by first | exact p1.2 | omega⟩
        have Fs23 := fm_C (i := (x).toNat) (x := Int32.ofInt y) Gs17 (show 229 ∈ _ by decide)
        rw [← hs23] at Fs23
        have ws23_73 : iI s23 73 = iI s17 73 := by rw [hs23]; rfl
        have aws23_229 : UPD 229 (x) y s s23 := by rw [hs23]; exact upd_put aws17_229 ⟨by first | exact p1.1 | omega, by first | exact p1.2 | omega⟩
        refine z_load_n X (x := (iC s17 229 (x).toNat)) (show cdA 236 55 = some (.iload_n 3, 1, 0, 0, 0) from rfl) (List.Mem.head _) ?_
        exact w_iret X.1 q hRt rfl (ax_d X (show cdA 236 56 = some (.ireturn, 1, 0, 0, 0) from rfl)) (Nat.zero_le _) (Nat.zero_le _) ⟨_, rfl, Is23, Fs23, (iC s17 229 (x).toNat), rfl, (rng_to _), Or.inl ⟨by first | exact oq_28d92795 g5 hps3 | omega, by first | exact oq_ca823699 g5 hps3 | omega, by first | exact oq_7f8ce9be g20 hps17 he16 hps13 vs2 | omega, by first | exact oq_7cd554bd g20 hps17 he16 hps13 vs2 | omega, by first | exact oq_36baa0f5 ws23_73 g20 b19.1 hps17 vs2 | omega, by first | exact ar22 | omega, aws23_229⟩⟩
      ·
        refine z_const X (show cdA 236 39 = some (.iconst 0, 1, 0, 0, 0) from rfl) ?_
        exact w_iret X.1 q hRt rfl (ax_d X (show cdA 236 40 = some (.ireturn, 1, 0, 0, 0) from rfl)) (Nat.zero_le _) (Nat.zero_le _) ⟨_, rfl, Is17, Gs17, 0, rfl, (by decide), Or.inr (⟨by first | exact oq_bc7378e0 g20 hps17 he16 hps13 vs2 | omega, by first | exact oq_58a3c280 g20 hps17 vs2 | omega, aws17_229⟩)⟩
    refine z_if_ne X (t := 31) (show cdA 236 24 = some (.ifCond .ne 7, 3, 1, 0, 0) from rfl) (by decide) hrs13 (fun g24 => ?_) (fun g24 => ?_)
    ·
      refine z_const X (show cdA 236 31 = some (.iconst 0, 1, 0, 0, 0) from rfl) ?_
      exact N15 _ (Or.inl ⟨g24, rfl⟩)
    ·
      refine z_const X (show cdA 236 27 = some (.iconst 1, 1, 0, 0, 0) from rfl) ?_
      refine z_goto X (t := 32) (show cdA 236 28 = some (.goto 4, 3, 0, 0, 0) from rfl) (by decide) ?_
      exact N15 _ (Or.inr (⟨g24, rfl⟩))
set_option maxRecDepth 4000 in
theorem cs_limit2 (G : GX l s0 D tys a0 dT) (I : Bd s) {u v : Int} (p0 : rng u) (p1 : rng v) : CT l s0 D A dT 145 (rmN 145) [.ref (A 0), .int (Int32.ofInt u), .int (Int32.ofInt v)] s (fun o t => Bd t ∧ Fm [] [24] s t ∧ ((∃ e, o = .inl (some (.int (Int32.ofInt e))) ∧ rng e ∧ (0 ≤ u ∧ u ≤ 7 ∧ 0 ≤ v ∧ v ≤ 9999 ∧ e = iC s 24 u.toNat ∧ UPD 24 u v s t)) ∨ ∃ x : Nat, o = .inr (exN x) ∧ (x = 0 ∧ (u < 0 ∨ 7 < u ∨ v < 0 ∨ 9999 < v) ∧ SAM 24 s t))) := by
  refine ct_ofX G (by decide) (Nat.le_of_ble_eq_true rfl) (fun k X E ET hRt hXt q => ?_)
  show WS k 0 [(0, .ref (A 0)), (1, .int (Int32.ofInt u)), (2, .int (Int32.ofInt v))] [] _ 0 0
  have F : Fm [] [24] s s := fm_rf _ _ s
  have aw0_24 : SAM 24 s s := sam_rf
  refine z_aload_n X (x := A 0) (show cdA 145 0 = some (.aload_n 0, 1, 0, 0, 0) from rfl) (List.Mem.head _) ?_
  refine z_load_n X (x := u) (show cdA 145 1 = some (.iload_n 1, 1, 0, 0, 0) from rfl) (List.Mem.tail _ (List.Mem.head _)) ?_
  refine z_callV X 0 (rm := rmN 182) (As := [.int (Int32.ofInt u)]) (st := []) (show cdA 145 2 = some (.invokevirtual 180, 3, 182, 0, 0) from rfl) rfl (by decide) rfl (by rw [E.1, E.2.1, E.2.2.1]; exact cs_needPiece2 G I (by first | exact ⟨p0.1, p0.2⟩ | omega)) ⟨by rw [E.2.2.2]; exact (show (rmN 182).frames + 1 ≤ (rmN 145).frames by decide), by rw [E.2.2.2]; exact (show 8 + (mNL (miB 182) + 11) + (rmN 182).locals ≤ (rmN 145).locals by decide), by rw [E.2.2.2]; exact (show 0 + 1 ≤ 2 by omega), by rw [E.2.2.2]; exact (show 0 + 6 ≤ 12 by omega)⟩ (Nat.le_of_ble_eq_true rfl) (fun vv s1 hq => ?_) (fun ee s1 hq => ?_)
  rotate_left
  · obtain ⟨Is1, Fs1, (⟨hv, hps1⟩ | ⟨xx, hv, hps1⟩)⟩ := hq
    · cases hv
    · cases hv
      have Gs1 := fm_ts F Fs1 (by decide) (by decide)
      have aws1_24 : SAM 24 s s1 := sam_ts aw0_24 (sam_fm Fs1 (by decide))
      exact x_out X.1 q (fun x hx => (hXt x hx).elim) (show 1 ≤ 2 by omega) (show 6 ≤ 12 by omega) ⟨_, rfl, Is1, Gs1, Or.inr ⟨xx, rfl, ⟨by omega, by omega, aws1_24⟩⟩⟩
  obtain ⟨Is1, Fs1, (⟨hv, hps1⟩ | ⟨xx, hv, hps1⟩)⟩ := hq
  rotate_left
  · cases hv
  cases hv
  have Gs1 := fm_ts F Fs1 (by decide) (by decide)
  have aws1_24 : SAM 24 s s1 := sam_ts aw0_24 (sam_fm Fs1 (by decide))
  show WS k 5 [(0, .ref (A 0)), (1, .int (Int32.ofInt u)), (2, .int (Int32.ofInt v))] [] (Wd A dT s1) 1 6
  refine z_aload_n X (x := A 0) (show cdA 145 5 = some (.aload_n 0, 1, 0, 0, 0) from rfl) (List.Mem.head _) ?_
  refine z_load_n X (x := v) (show cdA 145 6 = some (.iload_n 2, 1, 0, 0, 0) from rfl) (List.Mem.tail _ (List.Mem.tail _ (List.Mem.head _))) ?_
  refine z_const X (show cdA 145 7 = some (.iconst 0, 1, 0, 0, 0) from rfl) ?_
  refine z_sipush X (show cdA 145 8 = some (.sipush 9999, 3, 0, 0, 9999) from rfl) ?_
  refine z_callV X 0 (rm := rmN 184) (As := [.int (Int32.ofInt v), .int (Int32.ofInt 0), .int (Int32.ofInt 9999)]) (st := []) (show cdA 145 11 = some (.invokevirtual 151, 3, 184, 0, 0) from rfl) rfl (by decide) rfl (by rw [E.1, E.2.1, E.2.2.1]; exact cs_needWithin2 G Is1 (by first | exact ⟨p1.1, p1.2⟩ | omega) (by first | exact ⟨by decide, by decide⟩ | omega) (by first | exact ⟨by decide, by decide⟩ | omega)) ⟨by rw [E.2.2.2]; exact (show (rmN 184).frames + 1 ≤ (rmN 145).frames by decide), by rw [E.2.2.2]; exact (show 8 + (mNL (miB 184) + 11) + (rmN 184).locals ≤ (rmN 145).locals by decide), by rw [E.2.2.2]; exact (show 1 + 1 ≤ 2 by omega), by rw [E.2.2.2]; exact (show 6 + 6 ≤ 12 by omega)⟩ (Nat.le_of_ble_eq_true rfl) (fun vv s3 hq => ?_) (fun ee s3 hq => ?_)
  rotate_left
  · obtain ⟨Is3, Fs3, (⟨hv, hps3⟩ | ⟨xx, hv, hps3⟩)⟩ := hq
    · cases hv
    · cases hv
      have Gs3 := fm_ts Gs1 Fs3 (by decide) (by decide)
      have aws3_24 : SAM 24 s s3 := sam_ts aws1_24 (sam_fm Fs3 (by decide))
      exact x_out X.1 q (fun x hx => (hXt x hx).elim) (show (1 + 1) ≤ 2 by omega) (show (6 + 6) ≤ 12 by omega) ⟨_, rfl, Is3, Gs3, Or.inr ⟨xx, rfl, ⟨by omega, by omega, aws3_24⟩⟩⟩
  obtain ⟨Is3, Fs3, (⟨hv, hps3⟩ | ⟨xx, hv, hps3⟩)⟩ := hq
  rotate_left
  · cases hv
  cases hv
  have Gs3 := fm_ts Gs1 Fs3 (by decide) (by decide)
  have aws3_24 : SAM 24 s s3 := sam_ts aws1_24 (sam_fm Fs3 (by decide))
  show WS k 14 [(0, .ref (A 0)), (1, .int (Int32.ofInt u)), (2, .int (Int32.ofInt v))] [] (Wd A dT s3) (1 + 1) (6 + 6)
  refine z_aload_n X (x := A 0) (show cdA 145 14 = some (.aload_n 0, 1, 0, 0, 0) from rfl) (List.Mem.head _) ?_
  refine s_getR X 0 (show cdA 145 15 = some (.getfield 35, 3, 11, 3, 0) from rfl) (by decide) rfl rfl ?_
  refine s_getR X 25 (show cdA 145 18 = some (.getfield 183, 3, 3, 3, 0) from rfl) (by decide) rfl rfl ?_
  refine z_load_n X (x := u) (show cdA 145 21 = some (.iload_n 1, 1, 0, 0, 0) from rfl) (List.Mem.tail _ (List.Mem.head _)) ?_
  refine z_ald X 29 (show cdA 145 22 = some (.iaload, 1, 0, 0, 0) from rfl) (by decide) rfl (by first | exact hps1.1 | omega) (show u < 8 by first | exact oq_aaea290e hps1.2 | omega) (by decide) ?_
  have b5 : (0 : Int) ≤ iC s3 24 (u).toNat ∧ iC s3 24 (u).toNat ≤ 9999 := Is3.2 24 _ (show (u).toNat < 8 by first | exact oq_c19a3aae hps1.2 | omega)
  have ar6 : iC s3 24 (u).toNat = iC s 24 (u).toNat := aws3_24 _
  refine z_store_n X (lv' := [(3, .int (Int32.ofInt (iC s3 24 (u).toNat))), (0, .ref (A 0)), (1, .int (Int32.ofInt u)), (2, .int (Int32.ofInt v))]) (show cdA 145 23 = some (.istore_n 3, 1, 0, 0, 0) from rfl) (by decide) (fun _ h => h) ?_
  refine z_aload_n X (x := A 0) (show cdA 145 24 = some (.aload_n 0, 1, 0, 0, 0) from rfl) (List.Mem.tail _ (List.Mem.head _)) ?_
  refine s_getR X 0 (show cdA 145 25 = some (.getfield 35, 3, 11, 3, 0) from rfl) (by decide) rfl rfl ?_
  refine s_getR X 25 (show cdA 145 28 = some (.getfield 183, 3, 3, 3, 0) from rfl) (by decide) rfl rfl ?_
  refine z_load_n X (x := u) (show cdA 145 31 = some (.iload_n 1, 1, 0, 0, 0) from rfl) (List.Mem.tail _ (List.Mem.tail _ (List.Mem.head _))) ?_
  refine z_load_n X (x := v) (show cdA 145 32 = some (.iload_n 2, 1, 0, 0, 0) from rfl) (List.Mem.tail _ (List.Mem.tail _ (List.Mem.tail _ (List.Mem.head _)))) ?_
  refine z_ast X 29 (show cdA 145 33 = some (.iastore, 1, 0, 0, 0) from rfl) (by decide) rfl (by first | exact hps1.1 | omega) (show u < 8 by first | exact oq_aaea290e hps1.2 | omega) (by decide) ?_
  obtain ⟨s7, hs7⟩ : ∃ x0, x0 = uC s3 24 (u).toNat (Int32.ofInt v) := ⟨_, rfl⟩
  rw [← hs7]
  have Is7 : Bd s7 := by rw [hs7]; exact bd_C Is3 (show (0 : Int) ≤ v ∧ v ≤ 9999 by first | exact ⟨hps3.1, hps3.2⟩ | omega) ⟨by first | exact p1.1 | omega, by first | exact p1.2 | omega⟩
  have Fs7 := fm_C (i := (u).toNat) (x := Int32.ofInt v) Gs3 (show 24 ∈ _ by decide)
  rw [← hs7] at Fs7
  have aws7_24 : UPD 24 (u) v s s7 := by rw [hs7]; exact upd_put aws3_24 ⟨by first | exact p1.1 | omega, by first | exact p1.2 | omega⟩
  refine z_load_n X (x := (iC s3 24 (u).toNat)) (show cdA 145 34 = some (.iload_n 3, 1, 0, 0, 0) from rfl) (List.Mem.head _) ?_
  exact w_iret X.1 q hRt rfl (ax_d X (show cdA 145 35 = some (.ireturn, 1, 0, 0, 0) from rfl)) (show (1 + 1) ≤ 2 by omega) (show (6 + 6) ≤ 12 by omega) ⟨_, rfl, Is7, Fs7, Or.inl ⟨(iC s3 24 (u).toNat), rfl, (rng_to _), ⟨by first | exact hps1.1 | omega, by first | exact hps1.2 | omega, by first | exact hps3.1 | omega, by first | exact hps3.2 | omega, by first | exact ar6 | omega, aws7_24⟩⟩⟩
set_option maxRecDepth 4000 in
theorem lw_limit2 (G : GX l s0 D tys a0 dT) (I : Bd s) {u v : Int} (p0 : rng u) (p1 : rng v) : CTL l s0 D A dT 322 (rmN 322) [.ref (A 0), .int (Int32.ofInt u), .int (Int32.ofInt v), .ref (A 517)] s (fun o t => Bd t ∧ Fm [] [24, 1460] s t ∧ ∃ e, o = .inl (some (.int (Int32.ofInt e))) ∧ rng e ∧ ((e = 0 ∧ 0 ≤ u ∧ u ≤ 7 ∧ 0 ≤ v ∧ v ≤ 9999 ∧ iO t = iC s 24 u.toNat ∧ UPD 24 u v s t) ∨ (e = 1 ∧ (u < 0 ∨ 7 < u ∨ v < 0 ∨ 9999 < v) ∧ SAM 24 s t))) := by
  refine ctL_of G (by decide) (Nat.le_of_ble_eq_true rfl) (by decide) (show cdA 322 0 = some (.aload_n 3, 1, 0, 0, 0) from rfl) (fun k X E ET hRt hEx q => ?_)
  show WS k 0 [(0, .ref (A 0)), (1, .int (Int32.ofInt u)), (2, .int (Int32.ofInt v)), (3, .ref (A 517))] [] _ 0 0
  have F : Fm [] [24, 1460] s s := fm_rf _ _ s
  have aw0_24 : SAM 24 s s := sam_rf
  have hA := swA_rf A
  refine z_aload_n X (x := A 517) (show cdA 322 0 = some (.aload_n 3, 1, 0, 0, 0) from rfl) (List.Mem.tail _ (List.Mem.tail _ (List.Mem.tail _ (List.Mem.head _)))) ?_
  refine z_const X (show cdA 322 1 = some (.iconst 0, 1, 0, 0, 0) from rfl) ?_
  refine z_aload_n X (x := A 0) (show cdA 322 2 = some (.aload_n 0, 1, 0, 0, 0) from rfl) (List.Mem.head _) ?_
  refine z_load_n X (x := u) (show cdA 322 3 = some (.iload_n 1, 1, 0, 0, 0) from rfl) (List.Mem.tail _ (List.Mem.head _)) ?_
  refine z_load_n X (x := v) (show cdA 322 4 = some (.iload_n 2, 1, 0, 0, 0) from rfl) (List.Mem.tail _ (List.Mem.tail _ (List.Mem.head _))) ?_
  refine z_callV X 0 (rm := rmN 145) (As := [.int (Int32.ofInt u), .int (Int32.ofInt v)]) (st := [.int (Int32.ofInt 0), .ref (A 517)]) (show cdA 322 5 = some (.invokevirtual 44, 3, 145, 0, 0) from rfl) rfl (by decide) rfl (by rw [E.1, E.2.1, E.2.2.1]; exact cs_limit2 G I (by omega) (by omega)) ⟨by rw [E.2.2.2]; exact (show (rmN 145).frames + 1 ≤ (rmN 322).frames by decide), by rw [E.2.2.2]; exact (show 8 + (mNL (miB 145) + 11) + (rmN 145).locals ≤ (rmN 322).locals by decide), by rw [E.2.2.2]; exact (show 0 + (rmN 145).cells ≤ (rmN 322).cells by decide), by rw [E.2.2.2]; exact (show 0 + (rmN 145).slots ≤ (rmN 322).slots by decide)⟩ (Nat.le_of_ble_eq_true rfl) (fun vv s1 hq => ?_) (fun ee s1 hq => ?_)
  rotate_left
  · obtain ⟨Is1, Fs1, (⟨e2, hv, hrs1, hps1⟩ | ⟨xx, hv, hps1⟩)⟩ := hq
    · cases hv
    · cases hv
      rcases (show xx = 0 by omega) with gx
      ·
        subst gx
        have Gs1 := fm_ts F Fs1 (by decide) (by decide)
        refine (hEx 5 0).2 13 rfl _ _ _ _ _ (fun q1 => ?_)
        show WS k 13 [(0, .ref (A 0)), (1, .int (Int32.ofInt u)), (2, .int (Int32.ofInt v)), (3, .ref (A 517))] [.ref q1] (Wd A dT s1) 2 12
        refine z_astore X (lv' := [(4, .ref q1), (0, .ref (A 0)), (1, .int (Int32.ofInt u)), (2, .int (Int32.ofInt v)), (3, .ref (A 517))]) (show cdA 322 13 = some (.astore 4, 2, 0, 0, 0) from rfl) (by decide) (fun _ h => h) ?_
        refine z_const X (show cdA 322 15 = some (.iconst 1, 1, 0, 0, 0) from rfl) ?_
        exact w_iret X.1 q hRt rfl (ax_d X (show cdA 322 16 = some (.ireturn, 1, 0, 0, 0) from rfl)) (show 2 ≤ 2 by omega) (show 12 ≤ 12 by omega) ⟨A, _, hA, rfl, Is1, Gs1, 1, rfl, (by decide), Or.inr (⟨by decide, by omega, hps1.2.2⟩)⟩
  obtain ⟨Is1, Fs1, (⟨e2, hv, hrs1, hps1⟩ | ⟨xx, hv, hps1⟩)⟩ := hq
  rotate_left
  · cases hv
  cases hv
  have Gs1 := fm_ts F Fs1 (by decide) (by decide)
  show WS k 8 [(0, .ref (A 0)), (1, .int (Int32.ofInt u)), (2, .int (Int32.ofInt v)), (3, .ref (A 517))] [.int (Int32.ofInt e2), .int (Int32.ofInt 0), .ref (A 517)] (Wd A dT s1) 2 12
  refine w_i2l X.1 (ax_d X (show cdA 322 8 = some (.i2l, 1, 0, 0, 0) from rfl)) ?_
  refine z_last X 517 (show cdA 322 9 = some (.lastore, 1, 0, 0, 0) from rfl) (by decide) rfl (by omega) (show 0 < 1 by omega) (by decide) ?_
  obtain ⟨s3, hs3⟩ : ∃ x0, x0 = uD s1 460 (0 : Int).toNat (Int32.ofInt e2).toInt64 := ⟨_, rfl⟩
  rw [← hs3]
  have Is3 : Bd s3 := by rw [hs3]; exact bd_D Is1
  have Fs3 : Fm [] [24, 1460] s s3 := by rw [hs3]; exact fm_D Gs1 (show 460 + 1000 ∈ _ by decide)
  have aws3_24 : UPD 24 u v s s3 := by rw [hs3]; exact hps1.2.2.2.2.2
  have oos3 : iO s3 = e2 := by rw [hs3]; exact iO_u (by omega)
  refine z_goto X (t := 17) (show cdA 322 10 = some (.goto 7, 3, 0, 0, 0) from rfl) (by decide) ?_
  refine z_const X (show cdA 322 17 = some (.iconst 0, 1, 0, 0, 0) from rfl) ?_
  exact w_iret X.1 q hRt rfl (ax_d X (show cdA 322 18 = some (.ireturn, 1, 0, 0, 0) from rfl)) (show 2 ≤ 2 by omega) (show 12 ≤ 12 by omega) ⟨A, _, hA, rfl, Is3, Fs3, 0, rfl, (by decide), Or.inl ⟨by decide, by omega, by omega, by omega, by omega, by omega, aws3_24⟩⟩
set_option maxRecDepth 4000 in
theorem k_ill2 (G : GX l s0 D tys a0 dT) (I : Bd s) {x y : Int} (p0 : rng x) (p1 : rng y) : CT l s0 D A dT 274 (rmN 274) [.ref (A 179), .int (Int32.ofInt x), .int (Int32.ofInt y)] s (fun o t => Bd t ∧ Fm [73] [398] s t ∧ ∃ e, o = .inl (some (.int (Int32.ofInt e))) ∧ rng e ∧ ((0 ≤ x ∧ x ≤ 7 ∧ 0 ≤ y ∧ y ≤ 24 ∧ iI t 73 = 0 ∧ e = iC s 398 x.toNat ∧ UPD 398 x y s t) ∨ (((x < 0 ∨ 7 < x) ∧ iI t 73 = 1 ∨ (0 ≤ x ∧ x ≤ 7 ∧ (y < 0 ∨ 24 < y)) ∧ iI t 73 = 2) ∧ SAM 398 s t))) := by
  refine ct_of G (by decide) (Nat.le_of_ble_eq_true rfl) (fun k X E hRt hXt q => ?_)
  show WS k 0 [(0, .ref (A 179)), (1, .int (Int32.ofInt x)), (2, .int (Int32.ofInt y))] [] _ 0 0
  have F : Fm [73] [398] s s := fm_rf _ _ s
  have aw0_398 : SAM 398 s s := sam_rf
  have b1 : (0 : Int) ≤ iI s 73 ∧ iI s 73 ≤ 3 := I.1 73
  refine z_aload_n X (x := A 179) (show cdA 274 0 = some (.aload_n 0, 1, 0, 0, 0) from rfl) (List.Mem.head _) ?_
  refine z_const X (show cdA 274 1 = some (.iconst 0, 1, 0, 0, 0) from rfl) ?_
  refine s_putI X 179 (show cdA 274 2 = some (.putfield 172, 3, 12, 0, 0) from rfl) (by decide) rfl rfl (by decide) rfl rfl rfl ?_
  obtain ⟨s2, hs2⟩ : ∃ x0, x0 = uI s 73 (Int32.ofInt 0) := ⟨_, rfl⟩
  rw [← hs2]
  have Is2 : Bd s2 := by rw [hs2]; exact bd_I I (show (0 : Int) ≤ 0 ∧ 0 ≤ 3 by first | exact ⟨by decide, by decide⟩ | omega) (by decide)
  have Fs2 := fm_I (x := Int32.ofInt 0) F (show 73 ∈ _ by decide)
  rw [← hs2] at Fs2
  have vs2 : iI s2 73 = 0 := by rw [hs2]; exact iI_u (by decide)
  have aws2_398 : SAM 398 s s2 := by rw [hs2]; exact aw0_398
  refine z_aload_n X (x := A 179) (show cdA 274 5 = some (.aload_n 0, 1, 0, 0, 0) from rfl) (List.Mem.head _) ?_
  refine z_load_n X (x := x) (show cdA 274 6 = some (.iload_n 1, 1, 0, 0, 0) from rfl) (List.Mem.tail _ (List.Mem.head _)) ?_
  refine z_const X (show cdA 274 7 = some (.iconst 0, 1, 0, 0, 0) from rfl) ?_
  refine z_bipush X (show cdA 274 8 = some (.bipush 7, 2, 0, 0, 7) from rfl) ?_
  refine z_callS X (rm := rmN 188) (As := [.int (Int32.ofInt x), .int (Int32.ofInt 0), .int (Int32.ofInt 7)]) (st := [.ref (A 179)]) (show cdA 274 10 = some (.invokestatic 209, 3, 188, 1, 0) from rfl) rfl (by rw [E.1, E.2.1, E.2.2.1]; exact k_in2 G Is2 (by first | exact ⟨p0.1, p0.2⟩ | omega) (by first | exact ⟨by decide, by decide⟩ | omega) (by first | exact ⟨by decide, by decide⟩ | omega)) ⟨by rw [E.2.2.2]; exact (show (rmN 188).frames + 1 ≤ (rmN 274).frames by decide), by rw [E.2.2.2]; exact (show 8 + (mNL (miB 188) + 11) + (rmN 188).locals ≤ (rmN 274).locals by decide), by rw [E.2.2.2]; exact (show 0 + (rmN 188).cells ≤ (rmN 274).cells by decide), by rw [E.2.2.2]; exact (show 0 + (rmN 188).slots ≤ (rmN 274).slots by decide)⟩ (Nat.le_of_ble_eq_true rfl) (fun vv s3 hq => ?_) (fun ee s3 hq => ?_)
  rotate_left
  · obtain ⟨rfl, e4, hv, hrs3, hps3⟩ := hq; cases hv
  obtain ⟨rfl, e4, hv, hrs3, hps3⟩ := hq
  cases hv
  show WS k 13 [(0, .ref (A 179)), (1, .int (Int32.ofInt x)), (2, .int (Int32.ofInt y))] [.int (Int32.ofInt e4), .ref (A 179)] (Wd A dT s2) 0 0
  have N5 : ∀ e6 : Int, (((e4 ≠ 0) ∧ e6 = 0) ∨ ((e4 = 0) ∧ e6 = 1)) → WS k 21 [(0, .ref (A 179)), (1, .int (Int32.ofInt x)), (2, .int (Int32.ofInt y))] [.int (Int32.ofInt e6), .ref (A 179)] (Wd A dT s2) 0 0 := by
    intro e6 he6
    have re6 : 0 ≤ e6 ∧ e6 ≤ 1 := by omega
    refine z_const X (show cdA 274 21 = some (.iconst 1, 1, 0, 0, 0) from rfl) ?_
    refine z_callV X 179 (rm := rmN 187) (As := [.int (Int32.ofInt e6), .int (Int32.ofInt 1)]) (st := []) (show cdA 274 22 = some (.invokevirtual 229, 3, 187, 0, 0) from rfl) rfl (by decide) rfl (by rw [E.1, E.2.1, E.2.2.1]; exact k_bad2 G Is2 (by first | exact oq_31e518ae re6.2 re6.1 | omega) (by first | exact ⟨by decide, by decide⟩ | omega)) ⟨by rw [E.2.2.2]; exact (show (rmN 187).frames + 1 ≤ (rmN 274).frames by decide), by rw [E.2.2.2]; exact (show 8 + (mNL (miB 187) + 11) + (rmN 187).locals ≤ (rmN 274).locals by decide), by rw [E.2.2.2]; exact (show 0 + (rmN 187).cells ≤ (rmN 274).cells by decide), by rw [E.2.2.2]; exact (show 0 + (rmN 187).slots ≤ (rmN 274).slots by decide)⟩ (Nat.le_of_ble_eq_true rfl) (fun vv s7 hq => ?_) (fun ee s7 hq => ?_)
    rotate_left
    · obtain ⟨Is7, Fs7, e8, hv, hrs7, hps7⟩ := hq; cases hv
    obtain ⟨Is7, Fs7, e8, hv, hrs7, hps7⟩ := hq
    cases hv
    have Gs7 := fm_ts Fs2 Fs7 (by decide) (by decide)
    have b9 : (0 : Int) ≤ iI s7 73 ∧ iI s7 73 ≤ 3 := Is7.1 73
    have aws7_398 : SAM 398 s s7 := sam_ts aws2_398 (sam_fm Fs7 (by decide))
    show WS k 25 [(0, .ref (A 179)), (1, .int (Int32.ofInt x)), (2, .int (Int32.ofInt y))] [.int (Int32.ofInt e8)] (Wd A dT s7) 0 0
    refine z_if_ne X (t := 51) (show cdA 274 25 = some (.ifCond .ne 26, 3, 1, 0, 0) from rfl) (by decide) hrs7 (fun g10 => ?_) (fun g10 => ?_)
    ·
      refine z_const X (show cdA 274 51 = some (.iconst 0, 1, 0, 0, 0) from rfl) ?_
      exact w_iret X.1 q hRt rfl (ax_d X (show cdA 274 52 = some (.ireturn, 1, 0, 0, 0) from rfl)) (Nat.zero_le _) (Nat.zero_le _) ⟨_, rfl, Is7, Gs7, 0, rfl, (by decide), Or.inr (⟨by first | exact oq_45013339 g10 hps7 he6 hps3 vs2 | omega, aws7_398⟩)⟩
    ·
      refine z_aload_n X (x := A 179) (show cdA 274 28 = some (.aload_n 0, 1, 0, 0, 0) from rfl) (List.Mem.head _) ?_
      refine z_load_n X (x := y) (show cdA 274 29 = some (.iload_n 2, 1, 0, 0, 0) from rfl) (List.Mem.tail _ (List.Mem.tail _ (List.Mem.head _))) ?_
      refine z_const X (show cdA 274 30 = some (.iconst 0, 1, 0, 0, 0) from rfl) ?_
      refine z_bipush X (show cdA 274 31 = some (.bipush 24, 2, 0, 0, 24) from rfl) ?_
      refine z_callS X (rm := rmN 188) (As := [.int (Int32.ofInt y), .int (Int32.ofInt 0), .int (Int32.ofInt 24)]) (st := [.ref (A 179)]) (show cdA 274 33 = some (.invokestatic 209, 3, 188, 1, 0) from rfl) rfl (by rw [E.1, E.2.1, E.2.2.1]; exact k_in2 G Is7 (by first | exact ⟨p1.1, p1.2⟩ | omega) (by first | exact ⟨by decide, by decide⟩ | omega) (by first | exact ⟨by decide, by decide⟩ | omega)) ⟨by rw [E.2.2.2]; exact (show (rmN 188).frames + 1 ≤ (rmN 274).frames by decide), by rw [E.2.2.2]; exact (show 8 + (mNL (miB 188) + 11) + (rmN 188).locals ≤ (rmN 274).locals by decide), by rw [E.2.2.2]; exact (show 0 + (rmN 188).cells ≤ (rmN 274).cells by decide), by rw [E.2.2.2]; exact (show 0 + (rmN 188).slots ≤ (rmN 274).slots by decide)⟩ (Nat.le_of_ble_eq_true rfl) (fun vv s11 hq => ?_) (fun ee s11 hq => ?_)
      rotate_left
      · obtain ⟨rfl, e12, hv, hrs11, hps11⟩ := hq; cases hv
      obtain ⟨rfl, e12, hv, hrs11, hps11⟩ := hq
      cases hv
      show WS k 36 [(0, .ref (A 179)), (1, .int (Int32.ofInt x)), (2, .int (Int32.ofInt y))] [.int (Int32.ofInt e12), .ref (A 179)] (Wd A dT s7) 0 0
      have N13 : ∀ e14 : Int, (((e12 ≠ 0) ∧ e14 = 0) ∨ ((e12 = 0) ∧ e14 = 1)) → WS k 44 [(0, .ref (A 179)), (1, .int (Int32.ofInt x)), (2, .int (Int32.ofInt y))] [.int (Int32.ofInt e14), .ref (A 179)] (Wd A dT s7) 0 0 := by
        intro e14 he14
        have re14 : 0 ≤ e14 ∧ e14 ≤ 1 := by omega
        refine z_const X (show cdA 274 44 = some (.iconst 2, 1, 0, 0, 0) from rfl) ?_
        refine z_callV X 179 (rm := rmN 187) (As := [.int (Int32.ofInt e14), .int (Int32.ofInt 2)]) (st := []) (show cdA 274 45 = some (.invokevirtual 229, 3, 187, 0, 0) from rfl) rfl (by decide) rfl (by rw [E.1, E.2.1, E.2.2.1]; exact k_bad2 G Is7 (by first | exact oq_31e518ae re14.2 re14.1 | omega) (by first | exact ⟨by decide, by decide⟩ | omega)) ⟨by rw [E.2.2.2]; exact (show (rmN 187).frames + 1 ≤ (rmN 274).frames by decide), by rw [E.2.2.2]; exact (show 8 + (mNL (miB 187) + 11) + (rmN 187).locals ≤ (rmN 274).locals by decide), by rw [E.2.2.2]; exact (show 0 + (rmN 187).cells ≤ (rmN 274).cells by decide), by rw [E.2.2.2]; exact (show 0 + (rmN 187).slots ≤ (rmN 274).slots by decide)⟩ (Nat.le_of_ble_eq_true rfl) (fun vv s15 hq => ?_) (fun ee s15 hq => ?_)
        rotate_left
        · obtain ⟨Is15, Fs15, e16, hv, hrs15, hps15⟩ := hq; cases hv
        obtain ⟨Is15, Fs15, e16, hv, hrs15, hps15⟩ := hq
        cases hv
        have Gs15 := fm_ts Gs7 Fs15 (by decide) (by decide)
        have b17 : (0 : Int) ≤ iI s15 73 ∧ iI s15 73 ≤ 3 := Is15.1 73
        have aws15_398 : SAM 398 s s15 := sam_ts aws7_398 (sam_fm Fs15 (by decide))
        show WS k 48 [(0, .ref (A 179)), (1, .int (Int32.ofInt x)), (2, .int (Int32.ofInt y))] [.int (Int32.ofInt e16)] (Wd A dT s15) 0 0
        refine z_if_eq X (t := 53) (show cdA 274 48 = some (.ifCond .eq 5, 3, 0, 0, 0) from rfl) (by decide) hrs15 (fun g18 => ?_) (fun g18 => ?_)
        ·
          refine z_aload_n X (x := A 179) (show cdA 274 53 = some (.aload_n 0, 1, 0, 0, 0) from rfl) (List.Mem.head _) ?_
          refine s_getR X 179 (show cdA 274 54 = some (.getfield 136, 3, 12, 66, 0) from rfl) (by decide) rfl rfl ?_
          refine z_load_n X (x := x) (show cdA 274 57 = some (.iload_n 1, 1, 0, 0, 0) from rfl) (List.Mem.tail _ (List.Mem.head _)) ?_
          refine z_ald X 453 (show cdA 274 58 = some (.iaload, 1, 0, 0, 0) from rfl) (by decide) rfl (by first | exact oq_07b36d6e g10 hps7 he6 hps3 vs2 | omega) (show x < 8 by first | exact oq_ae0abf0b g10 hps7 he6 hps3 vs2 | omega) (by decide) ?_
          have b19 : (0 : Int) ≤ iC s15 398 (x).toNat ∧ iC s15 398 (x).toNat ≤ 24 := Is15.2 398 _ (show (x).toNat < 8 by first | exact oq_cb6943f3 g10 hps7 he6 hps3 vs2 | omega)
          have ar20 : iC s15 398 (x).toNat = iC s 398 (x).toNat := aws15_398 _
          refine z_store_n X (lv' := [(3, .int (Int32.ofInt (iC s15 398 (x).toNat))), (0, .ref (A 179)), (1, .int (Int32.ofInt x)), (2, .int (Int32.ofInt y))]) (show cdA 274 59 = some (.istore_n 3, 1, 0, 0, 0) from rfl) (by decide) (fun _ h => h) ?_
          refine z_aload_n X (x := A 179) (show cdA 274 60 = some (.aload_n 0, 1, 0, 0, 0) from rfl) (List.Mem.tail _ (List.Mem.head _)) ?_
          refine s_getR X 179 (show cdA 274 61 = some (.getfield 136, 3, 12, 66, 0) from rfl) (by decide) rfl rfl ?_
          refine z_load_n X (x := x) (show cdA 274 64 = some (.iload_n 1, 1, 0, 0, 0) from rfl) (List.Mem.tail _ (List.Mem.tail _ (List.Mem.head _))) ?_
          refine z_load_n X (x := y) (show cdA 274 65 = some (.iload_n 2, 1, 0, 0, 0) from rfl) (List.Mem.tail _ (List.Mem.tail _ (List.Mem.tail _ (List.Mem.head _)))) ?_
          refine z_ast X 453 (show cdA 274 66 = some (.iastore, 1, 0, 0, 0) from rfl) (by decide) rfl (by first | exact oq_07b36d6e g10 hps7 he6 hps3 vs2 | omega) (show x < 8 by first | exact oq_ae0abf0b g10 hps7 he6 hps3 vs2 | omega) (by decide) ?_
          obtain ⟨s21, hs21⟩ : ∃ x0, x0 = uC s15 398 (x).toNat (Int32.ofInt y) := ⟨_, rfl⟩
          rw [← hs21]
          have Is21 : Bd s21 := by rw [hs21]; exact bd_C Is15 (show (0 : Int) ≤ y ∧ y ≤ 24 by first | exact ⟨oq_6f2c8602 g18 hps15 he14 hps11 g10 b9.1 hps7 vs2, oq_8112572f g18 hps15 he14 hps11 g10 b9.1 hps7 vs2⟩ | omega) ⟨by first | exact p1.1 | omega, by first | exact p1.2 | omega⟩
          have Fs21 := fm_C (i := (x).toNat) (x := Int32.ofInt y) Gs15 (show 398 ∈ _ by decide)
          rw [← hs21] at Fs21
          have ws21_73 : iI s21 73 = iI s15 73 := by rw [hs21]; rfl
          have aws21_398 : UPD 398 (x) y s s21 := by rw [hs21]; exact upd_put aws15_398 ⟨by first | exact p1.1 | omega, by first | exact p1.2 | omega⟩
          refine z_load_n X (x := (iC s15 398 (x).toNat)) (show cdA 274 67 = some (.iload_n 3, 1, 0, 0, 0) from rfl) (List.Mem.head _) ?_
          exact w_iret X.1 q hRt rfl (ax_d X (show cdA 274 68 = some (.ireturn, 1, 0, 0, 0) from rfl)) (Nat.zero_le _) (Nat.zero_le _) ⟨_, rfl, Is21, Fs21, (iC s15 398 (x).toNat), rfl, (rng_to _), Or.inl ⟨by first | exact oq_07b36d6e g10 hps7 he6 hps3 vs2 | omega, by first | exact oq_63710938 g10 hps7 he6 hps3 vs2 | omega, by first | exact oq_6f2c8602 g18 hps15 he14 hps11 g10 b9.1 hps7 vs2 | omega, by first | exact oq_8112572f g18 hps15 he14 hps11 g10 b9.1 hps7 vs2 | omega, by first | exact oq_24676001 ws21_73 g18 b17.1 hps15 g10 hps7 vs2 | omega, by first | exact ar20 | omega, aws21_398⟩⟩
        ·
          refine z_const X (show cdA 274 51 = some (.iconst 0, 1, 0, 0, 0) from rfl) ?_
          exact w_iret X.1 q hRt rfl (ax_d X (show cdA 274 52 = some (.ireturn, 1, 0, 0, 0) from rfl)) (Nat.zero_le _) (Nat.zero_le _) ⟨_, rfl, Is15, Gs15, 0, rfl, (by decide), Or.inr (⟨by first | exact oq_c990f8a1 g18 hps15 he14 hps11 g10 b9.1 hps7 he6 hps3 vs2 | omega, aws15_398⟩)⟩
      refine z_if_ne X (t := 43) (show cdA 274 36 = some (.ifCond .ne 7, 3, 1, 0, 0) from rfl) (by decide) hrs11 (fun g22 => ?_) (fun g22 => ?_)
      ·
        refine z_const X (show cdA 274 43 = some (.iconst 0, 1, 0, 0, 0) from rfl) ?_
        exact N13 _ (Or.inl ⟨g22, rfl⟩)
      ·
        refine z_const X (show cdA 274 39 = some (.iconst 1, 1, 0, 0, 0) from rfl) ?_
        refine z_goto X (t := 44) (show cdA 274 40 = some (.goto 4, 3, 0, 0, 0) from rfl) (by decide) ?_
        exact N13 _ (Or.inr (⟨g22, rfl⟩))
  refine z_if_ne X (t := 20) (show cdA 274 13 = some (.ifCond .ne 7, 3, 1, 0, 0) from rfl) (by decide) hrs3 (fun g23 => ?_) (fun g23 => ?_)
  ·
    refine z_const X (show cdA 274 20 = some (.iconst 0, 1, 0, 0, 0) from rfl) ?_
    exact N5 _ (Or.inl ⟨g23, rfl⟩)
  ·
    refine z_const X (show cdA 274 16 = some (.iconst 1, 1, 0, 0, 0) from rfl) ?_
    refine z_goto X (t := 21) (show cdA 274 17 = some (.goto 4, 3, 0, 0, 0) from rfl) (by decide) ?_
    exact N5 _ (Or.inr (⟨g23, rfl⟩))
set_option maxRecDepth 4000 in
theorem cs_ill2 (G : GX l s0 D tys a0 dT) (I : Bd s) {u v : Int} (p0 : rng u) (p1 : rng v) : CT l s0 D A dT 165 (rmN 165) [.ref (A 0), .int (Int32.ofInt u), .int (Int32.ofInt v)] s (fun o t => Bd t ∧ Fm [] [52] s t ∧ ((∃ e, o = .inl (some (.int (Int32.ofInt e))) ∧ rng e ∧ (0 ≤ u ∧ u ≤ 7 ∧ 0 ≤ v ∧ v ≤ 24 ∧ e = iC s 52 u.toNat ∧ UPD 52 u v s t)) ∨ ∃ x : Nat, o = .inr (exN x) ∧ ((x = 2 ∧ (u < 0 ∨ 7 < u) ∨ x = 0 ∧ 0 ≤ u ∧ u ≤ 7 ∧ (v < 0 ∨ 24 < v)) ∧ SAM 52 s t))) := by
  refine ct_ofX G (by decide) (Nat.le_of_ble_eq_true rfl) (fun k X E ET hRt hXt q => ?_)
  show WS k 0 [(0, .ref (A 0)), (1, .int (Int32.ofInt u)), (2, .int (Int32.ofInt v))] [] _ 0 0
  have F : Fm [] [52] s s := fm_rf _ _ s
  have aw0_52 : SAM 52 s s := sam_rf
  refine z_load_n X (x := u) (show cdA 165 0 = some (.iload_n 1, 1, 0, 0, 0) from rfl) (List.Mem.tail _ (List.Mem.head _)) ?_
  refine z_if_lt X (t := 10) (show cdA 165 1 = some (.ifCond .lt 9, 3, 2, 0, 0) from rfl) (by decide) ⟨by first | exact p0.1 | omega, by first | exact p0.2 | omega⟩ (fun g1 => ?_) (fun g1 => ?_)
  ·
    exact z_throw G X E ET hXt q (st := []) (show cdA 165 10 = some (.new 309, 3, 2, 2, 0) from rfl) (by decide) (by decide) (Nat.le_of_ble_eq_true rfl) (show 0 + 1 ≤ 2 by omega) (show 0 + 6 ≤ 12 by omega) (show 0 + 1 ≤ 2 by omega) (show 0 + 6 ≤ 12 by omega) ⟨_, rfl, I, F, Or.inr ⟨2, rfl, ⟨by omega, aw0_52⟩⟩⟩
  ·
    refine z_load_n X (x := u) (show cdA 165 4 = some (.iload_n 1, 1, 0, 0, 0) from rfl) (List.Mem.tail _ (List.Mem.head _)) ?_
    refine z_bipush X (show cdA 165 5 = some (.bipush 8, 2, 0, 0, 8) from rfl) ?_
    refine z_icmp_lt X (t := 21) (show cdA 165 7 = some (.if_icmp .lt 14, 3, 2, 0, 0) from rfl) (by decide) ⟨by first | exact p0.1 | omega, by first | exact p0.2 | omega⟩ (by decide) (fun g2 => ?_) (fun g2 => ?_)
    ·
      refine z_aload_n X (x := A 0) (show cdA 165 21 = some (.aload_n 0, 1, 0, 0, 0) from rfl) (List.Mem.head _) ?_
      refine z_load_n X (x := v) (show cdA 165 22 = some (.iload_n 2, 1, 0, 0, 0) from rfl) (List.Mem.tail _ (List.Mem.tail _ (List.Mem.head _))) ?_
      refine z_const X (show cdA 165 23 = some (.iconst 0, 1, 0, 0, 0) from rfl) ?_
      refine z_bipush X (show cdA 165 24 = some (.bipush 24, 2, 0, 0, 24) from rfl) ?_
      refine z_callV X 0 (rm := rmN 184) (As := [.int (Int32.ofInt v), .int (Int32.ofInt 0), .int (Int32.ofInt 24)]) (st := []) (show cdA 165 26 = some (.invokevirtual 151, 3, 184, 0, 0) from rfl) rfl (by decide) rfl (by rw [E.1, E.2.1, E.2.2.1]; exact cs_needWithin2 G I (by first | exact ⟨p1.1, p1.2⟩ | omega) (by first | exact ⟨by decide, by decide⟩ | omega) (by first | exact ⟨by decide, by decide⟩ | omega)) ⟨by rw [E.2.2.2]; exact (show (rmN 184).frames + 1 ≤ (rmN 165).frames by decide), by rw [E.2.2.2]; exact (show 8 + (mNL (miB 184) + 11) + (rmN 184).locals ≤ (rmN 165).locals by decide), by rw [E.2.2.2]; exact (show 0 + 1 ≤ 2 by omega), by rw [E.2.2.2]; exact (show 0 + 6 ≤ 12 by omega)⟩ (Nat.le_of_ble_eq_true rfl) (fun vv s3 hq => ?_) (fun ee s3 hq => ?_)
      rotate_left
      · obtain ⟨Is3, Fs3, (⟨hv, hps3⟩ | ⟨xx, hv, hps3⟩)⟩ := hq
        · cases hv
        · cases hv
          have Gs3 := fm_ts F Fs3 (by decide) (by decide)
          have aws3_52 : SAM 52 s s3 := sam_ts aw0_52 (sam_fm Fs3 (by decide))
          exact x_out X.1 q (fun x hx => (hXt x hx).elim) (show 1 ≤ 2 by omega) (show 6 ≤ 12 by omega) ⟨_, rfl, Is3, Gs3, Or.inr ⟨xx, rfl, ⟨by omega, aws3_52⟩⟩⟩
      obtain ⟨Is3, Fs3, (⟨hv, hps3⟩ | ⟨xx, hv, hps3⟩)⟩ := hq
      rotate_left
      · cases hv
      cases hv
      have Gs3 := fm_ts F Fs3 (by decide) (by decide)
      have aws3_52 : SAM 52 s s3 := sam_ts aw0_52 (sam_fm Fs3 (by decide))
      show WS k 29 [(0, .ref (A 0)), (1, .int (Int32.ofInt u)), (2, .int (Int32.ofInt v))] [] (Wd A dT s3) 1 6
      refine z_aload_n X (x := A 0) (show cdA 165 29 = some (.aload_n 0, 1, 0, 0, 0) from rfl) (List.Mem.head _) ?_
      refine s_getR X 0 (show cdA 165 30 = some (.getfield 80, 3, 11, 8, 0) from rfl) (by decide) rfl rfl ?_
      refine s_getR X 61 (show cdA 165 33 = some (.getfield 314, 3, 6, 3, 0) from rfl) (by decide) rfl rfl ?_
      refine z_load_n X (x := u) (show cdA 165 36 = some (.iload_n 1, 1, 0, 0, 0) from rfl) (List.Mem.tail _ (List.Mem.head _)) ?_
      refine z_ald X 62 (show cdA 165 37 = some (.iaload, 1, 0, 0, 0) from rfl) (by decide) rfl (by first | exact g1 | omega) (show u < 8 by first | exact g2 | omega) (by decide) ?_
      have b5 : (0 : Int) ≤ iC s3 52 (u).toNat ∧ iC s3 52 (u).toNat ≤ 24 := Is3.2 52 _ (show (u).toNat < 8 by first | exact oq_db4b3b8b g2 | omega)
      have ar6 : iC s3 52 (u).toNat = iC s 52 (u).toNat := aws3_52 _
      refine z_store_n X (lv' := [(3, .int (Int32.ofInt (iC s3 52 (u).toNat))), (0, .ref (A 0)), (1, .int (Int32.ofInt u)), (2, .int (Int32.ofInt v))]) (show cdA 165 38 = some (.istore_n 3, 1, 0, 0, 0) from rfl) (by decide) (fun _ h => h) ?_
      refine z_aload_n X (x := A 0) (show cdA 165 39 = some (.aload_n 0, 1, 0, 0, 0) from rfl) (List.Mem.tail _ (List.Mem.head _)) ?_
      refine s_getR X 0 (show cdA 165 40 = some (.getfield 80, 3, 11, 8, 0) from rfl) (by decide) rfl rfl ?_
      refine s_getR X 61 (show cdA 165 43 = some (.getfield 314, 3, 6, 3, 0) from rfl) (by decide) rfl rfl ?_
      refine z_load_n X (x := u) (show cdA 165 46 = some (.iload_n 1, 1, 0, 0, 0) from rfl) (List.Mem.tail _ (List.Mem.tail _ (List.Mem.head _))) ?_
      refine z_load_n X (x := v) (show cdA 165 47 = some (.iload_n 2, 1, 0, 0, 0) from rfl) (List.Mem.tail _ (List.Mem.tail _ (List.Mem.tail _ (List.Mem.head _)))) ?_
      refine z_ast X 62 (show cdA 165 48 = some (.iastore, 1, 0, 0, 0) from rfl) (by decide) rfl (by first | exact g1 | omega) (show u < 8 by first | exact g2 | omega) (by decide) ?_
      obtain ⟨s7, hs7⟩ : ∃ x0, x0 = uC s3 52 (u).toNat (Int32.ofInt v) := ⟨_, rfl⟩
      rw [← hs7]
      have Is7 : Bd s7 := by rw [hs7]; exact bd_C Is3 (show (0 : Int) ≤ v ∧ v ≤ 24 by first | exact ⟨hps3.1, hps3.2⟩ | omega) ⟨by first | exact p1.1 | omega, by first | exact p1.2 | omega⟩
      have Fs7 := fm_C (i := (u).toNat) (x := Int32.ofInt v) Gs3 (show 52 ∈ _ by decide)
      rw [← hs7] at Fs7
      have aws7_52 : UPD 52 (u) v s s7 := by rw [hs7]; exact upd_put aws3_52 ⟨by first | exact p1.1 | omega, by first | exact p1.2 | omega⟩
      refine z_load_n X (x := (iC s3 52 (u).toNat)) (show cdA 165 49 = some (.iload_n 3, 1, 0, 0, 0) from rfl) (List.Mem.head _) ?_
      exact w_iret X.1 q hRt rfl (ax_d X (show cdA 165 50 = some (.ireturn, 1, 0, 0, 0) from rfl)) (show 1 ≤ 2 by omega) (show 6 ≤ 12 by omega) ⟨_, rfl, Is7, Fs7, Or.inl ⟨(iC s3 52 (u).toNat), rfl, (rng_to _), ⟨by first | exact g1 | omega, by first | exact oq_78c639ed g2 | omega, by first | exact hps3.1 | omega, by first | exact hps3.2 | omega, by first | exact ar6 | omega, aws7_52⟩⟩⟩
    ·
      exact z_throw G X E ET hXt q (st := []) (show cdA 165 10 = some (.new 309, 3, 2, 2, 0) from rfl) (by decide) (by decide) (Nat.le_of_ble_eq_true rfl) (show 0 + 1 ≤ 2 by omega) (show 0 + 6 ≤ 12 by omega) (show 0 + 1 ≤ 2 by omega) (show 0 + 6 ≤ 12 by omega) ⟨_, rfl, I, F, Or.inr ⟨2, rfl, ⟨by omega, aw0_52⟩⟩⟩
set_option maxRecDepth 4000 in
theorem lw_ill2 (G : GX l s0 D tys a0 dT) (I : Bd s) {u v : Int} (p0 : rng u) (p1 : rng v) : CTL l s0 D A dT 339 (rmN 339) [.ref (A 0), .int (Int32.ofInt u), .int (Int32.ofInt v), .ref (A 517)] s (fun o t => Bd t ∧ Fm [] [52, 1460] s t ∧ ∃ e, o = .inl (some (.int (Int32.ofInt e))) ∧ rng e ∧ ((e = 0 ∧ 0 ≤ u ∧ u ≤ 7 ∧ 0 ≤ v ∧ v ≤ 24 ∧ iO t = iC s 52 u.toNat ∧ UPD 52 u v s t) ∨ ((e = 1 ∧ (u < 0 ∨ 7 < u) ∨ e = 2 ∧ 0 ≤ u ∧ u ≤ 7 ∧ (v < 0 ∨ 24 < v)) ∧ SAM 52 s t))) := by
  refine ctL_of G (by decide) (Nat.le_of_ble_eq_true rfl) (by decide) (show cdA 339 0 = some (.aload_n 3, 1, 0, 0, 0) from rfl) (fun k X E ET hRt hEx q => ?_)
  show WS k 0 [(0, .ref (A 0)), (1, .int (Int32.ofInt u)), (2, .int (Int32.ofInt v)), (3, .ref (A 517))] [] _ 0 0
  have F : Fm [] [52, 1460] s s := fm_rf _ _ s
  have aw0_52 : SAM 52 s s := sam_rf
  have hA := swA_rf A
  refine z_aload_n X (x := A 517) (show cdA 339 0 = some (.aload_n 3, 1, 0, 0, 0) from rfl) (List.Mem.tail _ (List.Mem.tail _ (List.Mem.tail _ (List.Mem.head _)))) ?_
  refine z_const X (show cdA 339 1 = some (.iconst 0, 1, 0, 0, 0) from rfl) ?_
  refine z_aload_n X (x := A 0) (show cdA 339 2 = some (.aload_n 0, 1, 0, 0, 0) from rfl) (List.Mem.head _) ?_
  refine z_load_n X (x := u) (show cdA 339 3 = some (.iload_n 1, 1, 0, 0, 0) from rfl) (List.Mem.tail _ (List.Mem.head _)) ?_
  refine z_load_n X (x := v) (show cdA 339 4 = some (.iload_n 2, 1, 0, 0, 0) from rfl) (List.Mem.tail _ (List.Mem.tail _ (List.Mem.head _))) ?_
  refine z_callV X 0 (rm := rmN 165) (As := [.int (Int32.ofInt u), .int (Int32.ofInt v)]) (st := [.int (Int32.ofInt 0), .ref (A 517)]) (show cdA 339 5 = some (.invokevirtual 96, 3, 165, 0, 0) from rfl) rfl (by decide) rfl (by rw [E.1, E.2.1, E.2.2.1]; exact cs_ill2 G I (by omega) (by omega)) ⟨by rw [E.2.2.2]; exact (show (rmN 165).frames + 1 ≤ (rmN 339).frames by decide), by rw [E.2.2.2]; exact (show 8 + (mNL (miB 165) + 11) + (rmN 165).locals ≤ (rmN 339).locals by decide), by rw [E.2.2.2]; exact (show 0 + (rmN 165).cells ≤ (rmN 339).cells by decide), by rw [E.2.2.2]; exact (show 0 + (rmN 165).slots ≤ (rmN 339).slots by decide)⟩ (Nat.le_of_ble_eq_true rfl) (fun vv s1 hq => ?_) (fun ee s1 hq => ?_)
  rotate_left
  · obtain ⟨Is1, Fs1, (⟨e2, hv, hrs1, hps1⟩ | ⟨xx, hv, hps1⟩)⟩ := hq
    · cases hv
    · cases hv
      rcases (show xx = 0 ∨ xx = 2 by omega) with gx | gx
      ·
        subst gx
        have Gs1 := fm_ts F Fs1 (by decide) (by decide)
        refine (hEx 5 0).2 17 rfl _ _ _ _ _ (fun q1 => ?_)
        show WS k 17 [(0, .ref (A 0)), (1, .int (Int32.ofInt u)), (2, .int (Int32.ofInt v)), (3, .ref (A 517))] [.ref q1] (Wd A dT s1) 2 12
        refine z_astore X (lv' := [(4, .ref q1), (0, .ref (A 0)), (1, .int (Int32.ofInt u)), (2, .int (Int32.ofInt v)), (3, .ref (A 517))]) (show cdA 339 17 = some (.astore 4, 2, 0, 0, 0) from rfl) (by decide) (fun _ h => h) ?_
        refine z_const X (show cdA 339 19 = some (.iconst 2, 1, 0, 0, 0) from rfl) ?_
        exact w_iret X.1 q hRt rfl (ax_d X (show cdA 339 20 = some (.ireturn, 1, 0, 0, 0) from rfl)) (show 2 ≤ 2 by omega) (show 12 ≤ 12 by omega) ⟨A, _, hA, rfl, Is1, Gs1, 2, rfl, (by decide), Or.inr (⟨by omega, hps1.2⟩)⟩
      ·
        subst gx
        have Gs1 := fm_ts F Fs1 (by decide) (by decide)
        refine (hEx 5 2).2 13 rfl _ _ _ _ _ (fun q1 => ?_)
        show WS k 13 [(0, .ref (A 0)), (1, .int (Int32.ofInt u)), (2, .int (Int32.ofInt v)), (3, .ref (A 517))] [.ref q1] (Wd A dT s1) 2 12
        refine z_astore X (lv' := [(4, .ref q1), (0, .ref (A 0)), (1, .int (Int32.ofInt u)), (2, .int (Int32.ofInt v)), (3, .ref (A 517))]) (show cdA 339 13 = some (.astore 4, 2, 0, 0, 0) from rfl) (by decide) (fun _ h => h) ?_
        refine z_const X (show cdA 339 15 = some (.iconst 1, 1, 0, 0, 0) from rfl) ?_
        exact w_iret X.1 q hRt rfl (ax_d X (show cdA 339 16 = some (.ireturn, 1, 0, 0, 0) from rfl)) (show 2 ≤ 2 by omega) (show 12 ≤ 12 by omega) ⟨A, _, hA, rfl, Is1, Gs1, 1, rfl, (by decide), Or.inr (⟨by omega, hps1.2⟩)⟩
  obtain ⟨Is1, Fs1, (⟨e2, hv, hrs1, hps1⟩ | ⟨xx, hv, hps1⟩)⟩ := hq
  rotate_left
  · cases hv
  cases hv
  have Gs1 := fm_ts F Fs1 (by decide) (by decide)
  show WS k 8 [(0, .ref (A 0)), (1, .int (Int32.ofInt u)), (2, .int (Int32.ofInt v)), (3, .ref (A 517))] [.int (Int32.ofInt e2), .int (Int32.ofInt 0), .ref (A 517)] (Wd A dT s1) 2 12
  refine w_i2l X.1 (ax_d X (show cdA 339 8 = some (.i2l, 1, 0, 0, 0) from rfl)) ?_
  refine z_last X 517 (show cdA 339 9 = some (.lastore, 1, 0, 0, 0) from rfl) (by decide) rfl (by omega) (show 0 < 1 by omega) (by decide) ?_
  obtain ⟨s3, hs3⟩ : ∃ x0, x0 = uD s1 460 (0 : Int).toNat (Int32.ofInt e2).toInt64 := ⟨_, rfl⟩
  rw [← hs3]
  have Is3 : Bd s3 := by rw [hs3]; exact bd_D Is1
  have Fs3 : Fm [] [52, 1460] s s3 := by rw [hs3]; exact fm_D Gs1 (show 460 + 1000 ∈ _ by decide)
  have aws3_52 : UPD 52 u v s s3 := by rw [hs3]; exact hps1.2.2.2.2.2
  have oos3 : iO s3 = e2 := by rw [hs3]; exact iO_u (by omega)
  refine z_goto X (t := 21) (show cdA 339 10 = some (.goto 11, 3, 0, 0, 0) from rfl) (by decide) ?_
  refine z_const X (show cdA 339 21 = some (.iconst 0, 1, 0, 0, 0) from rfl) ?_
  exact w_iret X.1 q hRt rfl (ax_d X (show cdA 339 22 = some (.ireturn, 1, 0, 0, 0) from rfl)) (show 2 ≤ 2 by omega) (show 12 ≤ 12 by omega) ⟨A, _, hA, rfl, Is3, Fs3, 0, rfl, (by decide), Or.inl ⟨by decide, by omega, by omega, by omega, by omega, by omega, aws3_52⟩⟩
set_option maxRecDepth 4000 in
theorem k_thrown2 (G : GX l s0 D tys a0 dT) (I : Bd s)  : CT l s0 D A dT 186 (rmN 186) [.ref (A 179)] s (fun o t => s = t ∧ ∃ e, o = .inl (some (.int (Int32.ofInt e))) ∧ rng e ∧ (e = iI s 73)) := by
  refine ct_of G (by decide) (Nat.le_of_ble_eq_true rfl) (fun k X E hRt hXt q => ?_)
  show WS k 0 [(0, .ref (A 179))] [] _ 0 0
  have F : Fm [] [] s s := fm_rf _ _ s
  refine z_aload_n X (x := A 179) (show cdA 186 0 = some (.aload_n 0, 1, 0, 0, 0) from rfl) (List.Mem.head _) ?_
  refine z_getI X 179 (show cdA 186 1 = some (.getfield 172, 3, 12, 0, 0) from rfl) (by decide) rfl rfl ?_
  have b1 : (0 : Int) ≤ iI s 73 ∧ iI s 73 ≤ 3 := I.1 73
  exact w_iret X.1 q hRt rfl (ax_d X (show cdA 186 4 = some (.ireturn, 1, 0, 0, 0) from rfl)) (Nat.zero_le _) (Nat.zero_le _) ⟨_, rfl, rfl, (iI s 73), rfl, (rng_to _), by omega⟩
end M87b
