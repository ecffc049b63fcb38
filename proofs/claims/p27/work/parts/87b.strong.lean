theorem oq_87396caf {a0 : Int} (h0 : a0 ≤ 16777215) : a0 < 16777216 := by omega
/-! Contracts that say what is answered -/
/-- the law's long -/
def iO (t : PS) : Int := (gD t 460 0).toInt
theorem iO_u {s : PS} {e : Int} (h : rng e) : iO (uD s 460 (0 : Int).toNat (Int32.ofInt e).toInt64) = e := by
  show ((if 460 = 460 then vp_updL (s.2.2.2.1 460) (0 : Int).toNat (Int32.ofInt e).toInt64 else s.2.2.2.1 460) 0).toInt = e
  rw [if_pos rfl]
  show ((if 0 = (0 : Int).toNat then (Int32.ofInt e).toInt64 else s.2.2.2.1 460 0)).toInt = e
  rw [if_pos (by decide), Int32.toInt_toInt64, zi h]
theorem fm_o {L M : List Nat} {s t : PS} (F : Fm L M s t) (h : 460 + 1000 ∉ M) : iO t = iO s := congrArg Int64.toInt (fm_dd F h)
/-- an array's cells are as they were; but for one -/
def SAM (a : Nat) (s t : PS) : Prop := ∀ j, iC t a j = iC s a j
def UPD (a : Nat) (i x : Int) (s t : PS) : Prop := iC t a i.toNat = x ∧ ∀ j, j ≠ i.toNat → iC t a j = iC s a j
theorem sam_rf {a : Nat} {s : PS} : SAM a s s := fun _ => rfl
theorem sam_fm {L M : List Nat} {a : Nat} {s t : PS} (F : Fm L M s t) (h : a ∉ M) : SAM a s t := fun _ => fm_c F h
theorem sam_ts {a : Nat} {s t u : PS} (h : SAM a s t) (g : SAM a t u) : SAM a s u := fun j => (g j).trans (h j)
theorem upd_ts {a : Nat} {i x : Int} {s t u : PS} (h : UPD a i x s t) (g : SAM a t u) : UPD a i x s u := ⟨(g _).trans h.1, fun j hj => (g j).trans (h.2 j hj)⟩
theorem sam_C {a b i : Nat} {x : Int32} {s t : PS} (hb : a ≠ b) (h : SAM a s t) : SAM a s (uC t b i x) := fun j => (iC_a hb).trans (h j)
theorem upd_C {a b i : Nat} {x : Int32} {y z : Int} {s t : PS} (hb : a ≠ b) (h : UPD a y z s t) : UPD a y z s (uC t b i x) := ⟨(iC_a hb).trans h.1, fun j hj => (iC_a hb).trans (h.2 j hj)⟩
theorem upd_put {a : Nat} {i x : Int} {s t : PS} (h : SAM a s t) (hx : rng x) : UPD a i x s (uC t a i.toNat (Int32.ofInt x)) := ⟨iC_u hx, fun j hj => (iC_n hj).trans (h j)⟩
/-- two arrays are the same, n cells of them -/
def AEQ (a b n : Nat) (s : PS) : Prop := ∀ j, j < n → iC s a j = iC s b j
theorem aeq_sam {a b n : Nat} {s t : PS} (h : AEQ a b n s) (h1 : SAM a s t) (h2 : SAM b s t) : AEQ a b n t := fun j hj => by rw [h1, h2]; exact h j hj
theorem aeq_upd {a b n : Nat} {i x : Int} {s t u : PS} (h : AEQ a b n s) (h1 : UPD a i x s t) (h2 : SAM b s t) (h3 : UPD b i x t u) (h4 : SAM a t u) : AEQ a b n u := fun j hj => by
  by_cases e : j = i.toNat
  · rw [e, h3.1, h4, h1.1]
  · rw [h4, h1.2 j e, h3.2 j e, h2]; exact h j hj
/-- x is among the first n cells; it is not -/
def HAS (a : Nat) (n x : Int) (s : PS) : Prop := ∃ j : Nat, (j : Int) < n ∧ iC s a j = x
def NHS (a : Nat) (n x : Int) (s : PS) : Prop := ∀ j : Nat, (j : Int) < n → iC s a j ≠ x
theorem nhs_0 {a : Nat} {x : Int} {s : PS} : NHS a 0 x s := fun j hj => by omega
theorem nhs_up {a : Nat} {c x : Int} {s : PS} (h : NHS a c x s) (h0 : 0 ≤ c) (h1 : iC s a c.toNat ≠ x) : NHS a (c + 1) x s := fun j hj => by
  by_cases e : j = c.toNat
  · rw [e]; exact h1
  · exact h j (by omega)
theorem nhs_le {a : Nat} {c n x : Int} {s : PS} (h : NHS a c x s) (h0 : n ≤ c) : NHS a n x s := fun j hj => h j (by omega)
theorem hs_of {a : Nat} {n x : Int} {s : PS} (c : Int) (h0 : 0 ≤ c) (h1 : c < n) (h2 : iC s a c.toNat = x) : HAS a n x s := ⟨c.toNat, by omega, h2⟩
theorem upd_ix {a : Nat} {i j x : Int} {s t : PS} (h : UPD a i x s t) (e : i = j) : UPD a j x s t := e ▸ h
/-- the first cells of two arrays are the same, as many as the symbol q says -/
def REQ (a b q : Nat) (s : PS) : Prop := ∀ j : Nat, (j : Int) < iI s q → iC s a j = iC s b j
theorem req_0 {a b q : Nat} {s : PS} (h : iI s q = 0) : REQ a b q s := fun j hj => by omega
theorem req_sam {a b q : Nat} {s t : PS} (h : REQ a b q s) (h1 : SAM a s t) (h2 : SAM b s t) (e : iI t q = iI s q) : REQ a b q t := fun j hj => by rw [h1, h2]; exact h j (by omega)
theorem req_upd {a b q : Nat} {n m x : Int} {s t u : PS} (h : REQ a b q s) (h1 : UPD a n x s t) (h2 : SAM b s t) (h3 : UPD b m x t u) (h4 : SAM a t u) (e1 : n = iI s q) (e2 : m = n) (e3 : iI u q = iI s q + 1) (h0 : 0 ≤ n) : REQ a b q u := fun j hj => by
  subst e2
  by_cases e : j = m.toNat
  · rw [e, h3.1, h4, h1.1]
  · rw [h4, h1.2 j e, h3.2 j e, h2]; exact h j (by omega)
theorem req_no {a b q : Nat} {n m x : Int} {s t : PS} (h : REQ a b q s) (hb : SAM b s t) (h1 : HAS a n x s) (h2 : NHS b m x t) (e1 : n = iI s q) (e2 : m = n) : False := by
  obtain ⟨j, h3, h4⟩ := h1
  exact h2 j (by omega) (by rw [hb, ← h j (by omega)]; exact h4)
theorem req_no2 {a b q : Nat} {n m x : Int} {s t : PS} (h : REQ a b q s) (hb : SAM b s t) (h1 : NHS a n x s) (h2 : HAS b m x t) (e1 : n = iI s q) (e2 : m = n) : False := by
  obtain ⟨j, h3, h4⟩ := h2
  exact h1 j (by omega) (by rw [h j (by omega), ← hb]; exact h4)
theorem aeq_at {a b n : Nat} {i : Int} {s t : PS} (h : AEQ a b n s) (h2 : SAM b s t) (hi : i.toNat < n) : iC s a i.toNat = iC t b i.toNat := by rw [h2]; exact h _ hi
section M87b
variable {l : Launch} {s0 : State} {D : va_G} {tys : List (ClassId × FieldType)} {a0 : Array Value} {A : Nat → Nat} {dT : Nat → ClassId} {s : PS}
set_option maxRecDepth 4000 in
theorem k_in2 (G : GX l s0 D tys a0 dT) (I : Bd s) {x y z : Int} (p0 : rng x) (p1 : rng y) (p2 : rng z) : CT l s0 D A dT 188 (rmN 188) [.int (Int32.ofInt x), .int (Int32.ofInt y), .int (Int32.ofInt z)] s (fun o t => s = t ∧ ∃ e, o = .inl (some (.int (Int32.ofInt e))) ∧ rng e ∧ ((e = 1 ∧ y ≤ x ∧ x ≤ z) ∨ (e = 0 ∧ (x < y ∨ z < x)))) := by
  refine ct_of G (by decide) (Nat.le_of_ble_eq_true rfl) (fun k X E hRt hXt q => ?_)
  show WS k 0 [(0, .int (Int32.ofInt x)), (1, .int (Int32.ofInt y)), (2, .int (Int32.ofInt z))] [] _ 0 0
  have F : Fm [] [] s s := fm_rf _ _ s
  refine z_load_n X (x := x) (show cdA 188 0 = some (.iload_n 0, 1, 0, 0, 0) from rfl) (List.Mem.head _) ?_
  refine z_load_n X (x := y) (show cdA 188 1 = some (.iload_n 1, 1, 0, 0, 0) from rfl) (List.Mem.tail _ (List.Mem.head _)) ?_
  have N1 : ∀ e2 : Int, (((x < y) ∧ e2 = 0) ∨ ((y ≤ x) ∧ (z < x) ∧ e2 = 0) ∨ ((y ≤ x) ∧ (x ≤ z) ∧ e2 = 1)) → WS k 15 [(0, .int (Int32.ofInt x)), (1, .int (Int32.ofInt y)), (2, .int (Int32.ofInt z))] [.int (Int32.ofInt e2)] (Wd A dT s) 0 0 := by
    intro e2 he2
    have re2 : 0 ≤ e2 ∧ e2 ≤ 1 := by first | (clear he2; omega) | omega
    exact w_iret X.1 q hRt (nar_ret (by first | (clear he2; omega) | omega)) (ax_d X (show cdA 188 15 = some (.ireturn, 1, 0, 0, 0) from rfl)) (Nat.zero_le _) (Nat.zero_le _) ⟨_, rfl, rfl, e2, rfl, ⟨by first | exact oq_fa4e5087 re2.1 | omega, by first | exact oq_22e1e6b0 re2.2 | omega⟩, by first | (clear he2; omega) | omega⟩
  refine z_icmp_lt X (t := 14) (show cdA 188 2 = some (.if_icmp .lt 12, 3, 2, 0, 0) from rfl) (by decide) ⟨by first | exact p0.1 | omega, by first | exact p0.2 | omega⟩ ⟨by first | exact p1.1 | omega, by first | exact p1.2 | omega⟩ (fun g3 => ?_) (fun g3 => ?_)
  ·
    refine z_const X (show cdA 188 14 = some (.iconst 0, 1, 0, 0, 0) from rfl) ?_
    exact N1 _ (Or.inl ⟨g3, rfl⟩)
  ·
    refine z_load_n X (x := x) (show cdA 188 5 = some (.iload_n 0, 1, 0, 0, 0) from rfl) (List.Mem.head _) ?_
    refine z_load_n X (x := z) (show cdA 188 6 = some (.iload_n 2, 1, 0, 0, 0) from rfl) (List.Mem.tail _ (List.Mem.tail _ (List.Mem.head _))) ?_
    refine z_icmp_gt X (t := 14) (show cdA 188 7 = some (.if_icmp .gt 7, 3, 4, 0, 0) from rfl) (by decide) ⟨by first | exact p0.1 | omega, by first | exact p0.2 | omega⟩ ⟨by first | exact p2.1 | omega, by first | exact p2.2 | omega⟩ (fun g4 => ?_) (fun g4 => ?_)
    ·
      refine z_const X (show cdA 188 14 = some (.iconst 0, 1, 0, 0, 0) from rfl) ?_
      exact N1 _ (Or.inr (Or.inl ⟨g3, g4, rfl⟩))
    ·
      refine z_const X (show cdA 188 10 = some (.iconst 1, 1, 0, 0, 0) from rfl) ?_
      refine z_goto X (t := 15) (show cdA 188 11 = some (.goto 4, 3, 0, 0, 0) from rfl) (by decide) ?_
      exact N1 _ (Or.inr (Or.inr (⟨g3, g4, rfl⟩)))
set_option maxRecDepth 4000 in
theorem k_bad2 (G : GX l s0 D tys a0 dT) (I : Bd s) {x y : Int} (p0 : x = 0 ∨ x = 1) (p1 : 1 ≤ y ∧ y ≤ 3) : CT l s0 D A dT 187 (rmN 187) [.ref (A 179), .int (Int32.ofInt x), .int (Int32.ofInt y)] s (fun o t => Bd t ∧ Fm [73] [] s t ∧ ∃ e, o = .inl (some (.int (Int32.ofInt e))) ∧ rng e ∧ (((x = 1 ∧ iI s 73 = 0 ∧ iI t 73 = y ∧ e = 1) ∨ ((x = 0 ∨ iI s 73 ≠ 0) ∧ iI t 73 = iI s 73 ∧ ((e = 0 ∧ iI s 73 = 0) ∨ (e = 1 ∧ iI s 73 ≠ 0)))))) := by
  refine ct_of G (by decide) (Nat.le_of_ble_eq_true rfl) (fun k X E hRt hXt q => ?_)
  show WS k 0 [(0, .ref (A 179)), (1, .int (Int32.ofInt x)), (2, .int (Int32.ofInt y))] [] _ 0 0
  have F : Fm [73] [] s s := fm_rf _ _ s
  have b1 : (0 : Int) ≤ iI s 73 ∧ iI s 73 ≤ 3 := I.1 73
  refine z_load_n X (x := x) (show cdA 187 0 = some (.iload_n 1, 1, 0, 0, 0) from rfl) (List.Mem.tail _ (List.Mem.head _)) ?_
  refine z_if_eq X (t := 16) (show cdA 187 1 = some (.ifCond .eq 15, 3, 0, 0, 0) from rfl) (by decide) ⟨by first | (clear p0; omega) | omega, by first | (clear p0; omega) | omega⟩ (fun g2 => ?_) (fun g2 => ?_)
  ·
    refine z_aload_n X (x := A 179) (show cdA 187 16 = some (.aload_n 0, 1, 0, 0, 0) from rfl) (List.Mem.head _) ?_
    refine z_getI X 179 (show cdA 187 17 = some (.getfield 172, 3, 12, 0, 0) from rfl) (by decide) rfl rfl ?_
    have b3 : (0 : Int) ≤ iI s 73 ∧ iI s 73 ≤ 3 := I.1 73
    have N4 : ∀ e5 : Int, ((((iI s 73) = 0) ∧ e5 = 0) ∨ (((iI s 73) ≠ 0) ∧ e5 = 1)) → WS k 28 [(0, .ref (A 179)), (1, .int (Int32.ofInt x)), (2, .int (Int32.ofInt y))] [.int (Int32.ofInt e5)] (Wd A dT s) 0 0 := by
      intro e5 he5
      have re5 : 0 ≤ e5 ∧ e5 ≤ 1 := by first | (clear he5 p0; omega) | (clear p0; omega) | omega
      exact w_iret X.1 q hRt (nar_ret (by first | (clear he5 p0; omega) | (clear p0; omega) | omega)) (ax_d X (show cdA 187 28 = some (.ireturn, 1, 0, 0, 0) from rfl)) (Nat.zero_le _) (Nat.zero_le _) ⟨_, rfl, I, F, e5, rfl, ⟨by first | exact oq_fa4e5087 re5.1 | omega, by first | exact oq_22e1e6b0 re5.2 | omega⟩, by first | (clear he5 p0; omega) | (clear p0; omega) | omega⟩
    refine z_if_eq X (t := 27) (show cdA 187 20 = some (.ifCond .eq 7, 3, 0, 0, 0) from rfl) (by decide) (rng_to _) (fun g6 => ?_) (fun g6 => ?_)
    ·
      refine z_const X (show cdA 187 27 = some (.iconst 0, 1, 0, 0, 0) from rfl) ?_
      exact N4 _ (Or.inl ⟨g6, rfl⟩)
    ·
      refine z_const X (show cdA 187 23 = some (.iconst 1, 1, 0, 0, 0) from rfl) ?_
      refine z_goto X (t := 28) (show cdA 187 24 = some (.goto 4, 3, 0, 0, 0) from rfl) (by decide) ?_
      exact N4 _ (Or.inr (⟨g6, rfl⟩))
  ·
    refine z_aload_n X (x := A 179) (show cdA 187 4 = some (.aload_n 0, 1, 0, 0, 0) from rfl) (List.Mem.head _) ?_
    refine z_getI X 179 (show cdA 187 5 = some (.getfield 172, 3, 12, 0, 0) from rfl) (by decide) rfl rfl ?_
    have b7 : (0 : Int) ≤ iI s 73 ∧ iI s 73 ≤ 3 := I.1 73
    refine z_if_ne X (t := 16) (show cdA 187 8 = some (.ifCond .ne 8, 3, 1, 0, 0) from rfl) (by decide) (rng_to _) (fun g8 => ?_) (fun g8 => ?_)
    ·
      refine z_aload_n X (x := A 179) (show cdA 187 16 = some (.aload_n 0, 1, 0, 0, 0) from rfl) (List.Mem.head _) ?_
      refine z_getI X 179 (show cdA 187 17 = some (.getfield 172, 3, 12, 0, 0) from rfl) (by decide) rfl rfl ?_
      have b9 : (0 : Int) ≤ iI s 73 ∧ iI s 73 ≤ 3 := I.1 73
      have N10 : ∀ e11 : Int, ((((iI s 73) = 0) ∧ e11 = 0) ∨ (((iI s 73) ≠ 0) ∧ e11 = 1)) → WS k 28 [(0, .ref (A 179)), (1, .int (Int32.ofInt x)), (2, .int (Int32.ofInt y))] [.int (Int32.ofInt e11)] (Wd A dT s) 0 0 := by
        intro e11 he11
        have re11 : 0 ≤ e11 ∧ e11 ≤ 1 := by first | (clear he11 g8 g2 p0; omega) | (clear g8 g2 p0; omega) | omega
        exact w_iret X.1 q hRt (nar_ret (by first | (clear he11 g8 g2 p0; omega) | (clear g8 g2 p0; omega) | omega)) (ax_d X (show cdA 187 28 = some (.ireturn, 1, 0, 0, 0) from rfl)) (Nat.zero_le _) (Nat.zero_le _) ⟨_, rfl, I, F, e11, rfl, ⟨by first | exact oq_fa4e5087 re11.1 | omega, by first | exact oq_22e1e6b0 re11.2 | omega⟩, by first | (clear he11 g8 g2 p0; omega) | (clear g8 g2 p0; omega) | omega⟩
      refine z_if_eq X (t := 27) (show cdA 187 20 = some (.ifCond .eq 7, 3, 0, 0, 0) from rfl) (by decide) (rng_to _) (fun g12 => ?_) (fun g12 => ?_)
      ·
        refine z_const X (show cdA 187 27 = some (.iconst 0, 1, 0, 0, 0) from rfl) ?_
        exact N10 _ (Or.inl ⟨g12, rfl⟩)
      ·
        refine z_const X (show cdA 187 23 = some (.iconst 1, 1, 0, 0, 0) from rfl) ?_
        refine z_goto X (t := 28) (show cdA 187 24 = some (.goto 4, 3, 0, 0, 0) from rfl) (by decide) ?_
        exact N10 _ (Or.inr (⟨g12, rfl⟩))
    ·
      refine z_aload_n X (x := A 179) (show cdA 187 11 = some (.aload_n 0, 1, 0, 0, 0) from rfl) (List.Mem.head _) ?_
      refine z_load_n X (x := y) (show cdA 187 12 = some (.iload_n 2, 1, 0, 0, 0) from rfl) (List.Mem.tail _ (List.Mem.tail _ (List.Mem.head _))) ?_
      refine s_putI X 179 (show cdA 187 13 = some (.putfield 172, 3, 12, 0, 0) from rfl) (by decide) rfl rfl (by decide) rfl rfl rfl ?_
      obtain ⟨s13, hs13⟩ : ∃ x0, x0 = uI s 73 (Int32.ofInt y) := ⟨_, rfl⟩
      rw [← hs13]
      have Is13 : Bd s13 := by rw [hs13]; exact bd_I I (show (0 : Int) ≤ y ∧ y ≤ 3 by first | exact ⟨oq_2a6e3b50 p1.1, p1.2⟩ | omega) ⟨by first | exact oq_9462313e p1.1 | omega, by first | exact oq_c5520c83 p1.2 | omega⟩
      have Fs13 := fm_I (x := Int32.ofInt y) F (show 73 ∈ _ by decide)
      rw [← hs13] at Fs13
      have vs13 : iI s13 73 = y := by rw [hs13]; exact iI_u ⟨by first | exact oq_9462313e p1.1 | omega, by first | exact oq_c5520c83 p1.2 | omega⟩
      have wos13 : iO s13 = iO s := by rw [hs13]; rfl
      refine z_aload_n X (x := A 179) (show cdA 187 16 = some (.aload_n 0, 1, 0, 0, 0) from rfl) (List.Mem.head _) ?_
      refine z_getI X 179 (show cdA 187 17 = some (.getfield 172, 3, 12, 0, 0) from rfl) (by decide) rfl rfl ?_
      have b14 : (0 : Int) ≤ iI s13 73 ∧ iI s13 73 ≤ 3 := Is13.1 73
      have N15 : ∀ e16 : Int, ((((iI s13 73) = 0) ∧ e16 = 0) ∨ (((iI s13 73) ≠ 0) ∧ e16 = 1)) → WS k 28 [(0, .ref (A 179)), (1, .int (Int32.ofInt x)), (2, .int (Int32.ofInt y))] [.int (Int32.ofInt e16)] (Wd A dT s13) 0 0 := by
        intro e16 he16
        have re16 : 0 ≤ e16 ∧ e16 ≤ 1 := by first | (clear he16 g2 p0; omega) | (clear g2 p0; omega) | omega
        exact w_iret X.1 q hRt (nar_ret (by first | (clear he16 g2 p0; omega) | (clear g2 p0; omega) | omega)) (ax_d X (show cdA 187 28 = some (.ireturn, 1, 0, 0, 0) from rfl)) (Nat.zero_le _) (Nat.zero_le _) ⟨_, rfl, Is13, Fs13, e16, rfl, ⟨by first | exact oq_fa4e5087 re16.1 | omega, by first | exact oq_22e1e6b0 re16.2 | omega⟩, by first | (clear he16 g2 p0; omega) | (clear g2 p0; omega) | omega⟩
      refine z_if_eq X (t := 27) (show cdA 187 20 = some (.ifCond .eq 7, 3, 0, 0, 0) from rfl) (by decide) (rng_to _) (fun g17 => ?_) (fun g17 => ?_)
      ·
        refine z_const X (show cdA 187 27 = some (.iconst 0, 1, 0, 0, 0) from rfl) ?_
        exact N15 _ (Or.inl ⟨g17, rfl⟩)
      ·
        refine z_const X (show cdA 187 23 = some (.iconst 1, 1, 0, 0, 0) from rfl) ?_
        refine z_goto X (t := 28) (show cdA 187 24 = some (.goto 4, 3, 0, 0, 0) from rfl) (by decide) ?_
        exact N15 _ (Or.inr (⟨g17, rfl⟩))
set_option maxRecDepth 4000 in
theorem k_configure2 (G : GX l s0 D tys a0 dT) (I : Bd s) {x : Int} (p0 : rng x) : CT l s0 D A dT 264 (rmN 264) [.ref (A 179), .int (Int32.ofInt x)] s (fun o t => Bd t ∧ Fm [73, 99] [237] s t ∧ ∃ e, o = .inl (some (.int (Int32.ofInt e))) ∧ rng e ∧ (((0 ≤ x ∧ x < 16777216 ∧ iI t 73 = 0 ∧ ((iI s 99 = 6 ∧ e = -1 ∧ iI t 99 = 6) ∨ (iI s 99 ≠ 6 ∧ e = iI s 99 ∧ iI t 99 = iI s 99 + 1))) ∨ ((x < 0 ∨ 16777216 ≤ x) ∧ iI t 73 = 1 ∧ iI t 99 = iI s 99)))) := by
  refine ct_of G (by decide) (Nat.le_of_ble_eq_true rfl) (fun k X E hRt hXt q => ?_)
  show WS k 0 [(0, .ref (A 179)), (1, .int (Int32.ofInt x))] [] _ 0 0
  have F : Fm [73, 99] [237] s s := fm_rf _ _ s
  have b1 : (0 : Int) ≤ iI s 73 ∧ iI s 73 ≤ 3 := I.1 73
  have b2 : (0 : Int) ≤ iI s 99 ∧ iI s 99 ≤ 6 := I.1 99
  refine z_aload_n X (x := A 179) (show cdA 264 0 = some (.aload_n 0, 1, 0, 0, 0) from rfl) (List.Mem.head _) ?_
  refine z_const X (show cdA 264 1 = some (.iconst 0, 1, 0, 0, 0) from rfl) ?_
  refine s_putI X 179 (show cdA 264 2 = some (.putfield 172, 3, 12, 0, 0) from rfl) (by decide) rfl rfl (by decide) rfl rfl rfl ?_
  obtain ⟨s3, hs3⟩ : ∃ x0, x0 = uI s 73 (Int32.ofInt 0) := ⟨_, rfl⟩
  rw [← hs3]
  have Is3 : Bd s3 := by rw [hs3]; exact bd_I I (show (0 : Int) ≤ 0 ∧ 0 ≤ 3 by first | exact ⟨by decide, by decide⟩ | omega) (by decide)
  have Fs3 := fm_I (x := Int32.ofInt 0) F (show 73 ∈ _ by decide)
  rw [← hs3] at Fs3
  have vs3 : iI s3 73 = 0 := by rw [hs3]; exact iI_u (by decide)
  have ws3_99 : iI s3 99 = iI s 99 := by rw [hs3]; rfl
  refine z_aload_n X (x := A 179) (show cdA 264 5 = some (.aload_n 0, 1, 0, 0, 0) from rfl) (List.Mem.head _) ?_
  refine z_load_n X (x := x) (show cdA 264 6 = some (.iload_n 1, 1, 0, 0, 0) from rfl) (List.Mem.tail _ (List.Mem.head _)) ?_
  refine z_if_lt X (t := 17) (show cdA 264 7 = some (.ifCond .lt 10, 3, 2, 0, 0) from rfl) (by decide) ⟨by first | exact p0.1 | omega, by first | exact p0.2 | omega⟩ (fun g4 => ?_) (fun g4 => ?_)
  ·
    refine z_const X (show cdA 264 17 = some (.iconst 1, 1, 0, 0, 0) from rfl) ?_
    refine z_goto X (t := 22) (show cdA 264 18 = some (.goto 4, 3, 0, 0, 0) from rfl) (by decide) ?_
    refine z_const X (show cdA 264 22 = some (.iconst 1, 1, 0, 0, 0) from rfl) ?_
    refine z_callV X 179 (rm := rmN 187) (As := [.int (Int32.ofInt 1), .int (Int32.ofInt 1)]) (st := []) (show cdA 264 23 = some (.invokevirtual 229, 3, 187, 0, 0) from rfl) rfl (by decide) rfl (by rw [E.1, E.2.1, E.2.2.1]; exact k_bad2 G Is3 (by first | exact Or.inr (by decide) | omega) (by first | exact ⟨by decide, by decide⟩ | omega)) ⟨by rw [E.2.2.2]; exact (show (rmN 187).frames + 1 ≤ (rmN 264).frames by decide), by rw [E.2.2.2]; exact (show 8 + (mNL (miB 187) + 11) + (rmN 187).locals ≤ (rmN 264).locals by decide), by rw [E.2.2.2]; exact (show 0 + (rmN 187).cells ≤ (rmN 264).cells by decide), by rw [E.2.2.2]; exact (show 0 + (rmN 187).slots ≤ (rmN 264).slots by decide)⟩ (Nat.le_of_ble_eq_true rfl) (fun vv s5 hq => ?_) (fun ee s5 hq => ?_)
    rotate_left
    · obtain ⟨Is5, Fs5, e6, hv, hrs5, hps5⟩ := hq; cases hv
    obtain ⟨Is5, Fs5, e6, hv, hrs5, hps5⟩ := hq
    cases hv
    have Gs5 := fm_ts Fs3 Fs5 (by decide) (by decide)
    have b7 : (0 : Int) ≤ iI s5 73 ∧ iI s5 73 ≤ 3 := Is5.1 73
    have ws5_99 : iI s5 99 = iI s3 99 := fm_i Fs5 (by decide)
    show WS k 26 [(0, .ref (A 179)), (1, .int (Int32.ofInt x))] [.int (Int32.ofInt e6)] (Wd A dT s5) 0 0
    refine z_if_eq X (t := 31) (show cdA 264 26 = some (.ifCond .eq 5, 3, 0, 0, 0) from rfl) (by decide) hrs5 (fun g8 => ?_) (fun g8 => ?_)
    ·
      refine z_aload_n X (x := A 179) (show cdA 264 31 = some (.aload_n 0, 1, 0, 0, 0) from rfl) (List.Mem.head _) ?_
      refine z_getI X 179 (show cdA 264 32 = some (.getfield 404, 3, 12, 48, 0) from rfl) (by decide) rfl rfl ?_
      have b9 : (0 : Int) ≤ iI s5 99 ∧ iI s5 99 ≤ 6 := Is5.1 99
      refine z_bipush X (show cdA 264 35 = some (.bipush 6, 2, 0, 0, 6) from rfl) ?_
      refine z_icmp_ne X (t := 42) (show cdA 264 37 = some (.if_icmp .ne 5, 3, 1, 0, 0) from rfl) (by decide) (rng_to _) (by decide) (fun g10 => ?_) (fun g10 => ?_)
      ·
        refine z_aload_n X (x := A 179) (show cdA 264 42 = some (.aload_n 0, 1, 0, 0, 0) from rfl) (List.Mem.head _) ?_
        refine s_getR X 179 (show cdA 264 43 = some (.getfield 101, 3, 12, 52, 0) from rfl) (by decide) rfl rfl ?_
        refine z_aload_n X (x := A 179) (show cdA 264 46 = some (.aload_n 0, 1, 0, 0, 0) from rfl) (List.Mem.head _) ?_
        refine z_getI X 179 (show cdA 264 47 = some (.getfield 404, 3, 12, 48, 0) from rfl) (by decide) rfl rfl ?_
        have b11 : (0 : Int) ≤ iI s5 99 ∧ iI s5 99 ≤ 6 := Is5.1 99
        refine z_load_n X (x := x) (show cdA 264 50 = some (.iload_n 1, 1, 0, 0, 0) from rfl) (List.Mem.tail _ (List.Mem.head _)) ?_
        refine z_ast X 265 (show cdA 264 51 = some (.iastore, 1, 0, 0, 0) from rfl) (by decide) rfl (by first | exact b11.1 | omega) (show (iI s5 99) < 6 by first | (clear g10 hps5; omega) | (clear hps5; omega) | omega) (by decide) ?_
        obtain ⟨s12, hs12⟩ : ∃ x0, x0 = uC s5 237 ((iI s5 99)).toNat (Int32.ofInt x) := ⟨_, rfl⟩
        rw [← hs12]
        have Is12 : Bd s12 := by rw [hs12]; exact bd_C Is5 (show (0 : Int) ≤ x ∧ x ≤ 16777215 by first | exact ⟨by first | (clear g10 hps5; omega) | (clear hps5; omega) | omega, oq_c2c3ef0b g4⟩ | omega) ⟨by first | exact p0.1 | omega, by first | exact p0.2 | omega⟩
        have Fs12 := fm_C (i := ((iI s5 99)).toNat) (x := Int32.ofInt x) Gs5 (show 237 ∈ _ by decide)
        rw [← hs12] at Fs12
        have ws12_73 : iI s12 73 = iI s5 73 := by rw [hs12]; rfl
        have ws12_99 : iI s12 99 = iI s5 99 := by rw [hs12]; rfl
        refine z_aload_n X (x := A 179) (show cdA 264 52 = some (.aload_n 0, 1, 0, 0, 0) from rfl) (List.Mem.head _) ?_
        refine w_dup X.1 (ax_d X (show cdA 264 53 = some (.dup, 1, 0, 0, 0) from rfl)) rfl ?_
        refine z_getI X 179 (show cdA 264 54 = some (.getfield 404, 3, 12, 48, 0) from rfl) (by decide) rfl rfl ?_
        have b13 : (0 : Int) ≤ iI s12 99 ∧ iI s12 99 ≤ 6 := Is12.1 99
        refine z_const X (show cdA 264 57 = some (.iconst 1, 1, 0, 0, 0) from rfl) ?_
        refine z_add X (show cdA 264 58 = some (.iadd, 1, 0, 0, 0) from rfl) ?_
        refine s_putI X 179 (show cdA 264 59 = some (.putfield 404, 3, 12, 48, 0) from rfl) (by decide) rfl rfl (by decide) rfl rfl rfl ?_
        obtain ⟨s14, hs14⟩ : ∃ x0, x0 = uI s12 99 (Int32.ofInt ((iI s12 99) + 1)) := ⟨_, rfl⟩
        rw [← hs14]
        have Is14 : Bd s14 := by rw [hs14]; exact bd_I Is12 (show (0 : Int) ≤ ((iI s12 99) + 1) ∧ ((iI s12 99) + 1) ≤ 6 by first | exact ⟨oq_54f49eb5 b13.1, by first | (clear g10 hps5; omega) | (clear hps5; omega) | omega⟩ | omega) ⟨by first | exact oq_74de1e16 b13.1 | omega, by first | exact oq_5fe14c36 b13.2 | omega⟩
        have Fs14 := fm_I (x := Int32.ofInt ((iI s12 99) + 1)) Fs12 (show 99 ∈ _ by decide)
        rw [← hs14] at Fs14
        have vs14 : iI s14 99 = ((iI s12 99) + 1) := by rw [hs14]; exact iI_u ⟨by first | exact oq_74de1e16 b13.1 | omega, by first | exact oq_5fe14c36 b13.2 | omega⟩
        have ws14_73 : iI s14 73 = iI s12 73 := by rw [hs14]; rfl
        refine z_aload_n X (x := A 179) (show cdA 264 62 = some (.aload_n 0, 1, 0, 0, 0) from rfl) (List.Mem.head _) ?_
        refine z_getI X 179 (show cdA 264 63 = some (.getfield 404, 3, 12, 48, 0) from rfl) (by decide) rfl rfl ?_
        have b15 : (0 : Int) ≤ iI s14 99 ∧ iI s14 99 ≤ 6 := Is14.1 99
        refine z_const X (show cdA 264 66 = some (.iconst 1, 1, 0, 0, 0) from rfl) ?_
        refine z_sub X (show cdA 264 67 = some (.isub, 1, 0, 0, 0) from rfl) ?_
        exact w_iret X.1 q hRt rfl (ax_d X (show cdA 264 68 = some (.ireturn, 1, 0, 0, 0) from rfl)) (Nat.zero_le _) (Nat.zero_le _) ⟨_, rfl, Is14, Fs14, ((iI s14 99) - 1), rfl, ⟨by first | exact oq_c1e961c7 b15.1 | omega, by first | exact oq_b383b26c b15.2 | omega⟩, by first | (clear g10 hps5; omega) | (clear hps5; omega) | omega⟩
      ·
        refine z_const X (show cdA 264 40 = some (.iconst (-1), 1, 0, 0, 0) from rfl) ?_
        exact w_iret X.1 q hRt rfl (ax_d X (show cdA 264 41 = some (.ireturn, 1, 0, 0, 0) from rfl)) (Nat.zero_le _) (Nat.zero_le _) ⟨_, rfl, Is5, Gs5, (-1), rfl, (by decide), by first | (clear hps5; omega) | omega⟩
    ·
      refine z_const X (show cdA 264 29 = some (.iconst 0, 1, 0, 0, 0) from rfl) ?_
      exact w_iret X.1 q hRt rfl (ax_d X (show cdA 264 30 = some (.ireturn, 1, 0, 0, 0) from rfl)) (Nat.zero_le _) (Nat.zero_le _) ⟨_, rfl, Is5, Gs5, 0, rfl, (by decide), by first | (clear g8 hps5; omega) | (clear hps5; omega) | omega⟩
  ·
    refine z_load_n X (x := x) (show cdA 264 10 = some (.iload_n 1, 1, 0, 0, 0) from rfl) (List.Mem.tail _ (List.Mem.head _)) ?_
    refine z_ldcw X (show cdA 264 11 = some (.ldc_w 403, 3, 0, 0, 16777216) from rfl) ?_
    have N16 : ∀ e17 : Int, (((x < 16777216) ∧ e17 = 0) ∨ ((16777216 ≤ x) ∧ e17 = 1)) → WS k 22 [(0, .ref (A 179)), (1, .int (Int32.ofInt x))] [.int (Int32.ofInt e17), .ref (A 179)] (Wd A dT s3) 0 0 := by
      intro e17 he17
      have re17 : 0 ≤ e17 ∧ e17 ≤ 1 := by first | (clear he17; omega) | omega
      refine z_const X (show cdA 264 22 = some (.iconst 1, 1, 0, 0, 0) from rfl) ?_
      refine z_callV X 179 (rm := rmN 187) (As := [.int (Int32.ofInt e17), .int (Int32.ofInt 1)]) (st := []) (show cdA 264 23 = some (.invokevirtual 229, 3, 187, 0, 0) from rfl) rfl (by decide) rfl (by rw [E.1, E.2.1, E.2.2.1]; exact k_bad2 G Is3 (by first | (clear he17; omega) | omega) (by first | exact ⟨by decide, by decide⟩ | omega)) ⟨by rw [E.2.2.2]; exact (show (rmN 187).frames + 1 ≤ (rmN 264).frames by decide), by rw [E.2.2.2]; exact (show 8 + (mNL (miB 187) + 11) + (rmN 187).locals ≤ (rmN 264).locals by decide), by rw [E.2.2.2]; exact (show 0 + (rmN 187).cells ≤ (rmN 264).cells by decide), by rw [E.2.2.2]; exact (show 0 + (rmN 187).slots ≤ (rmN 264).slots by decide)⟩ (Nat.le_of_ble_eq_true rfl) (fun vv s18 hq => ?_) (fun ee s18 hq => ?_)
      rotate_left
      · obtain ⟨Is18, Fs18, e19, hv, hrs18, hps18⟩ := hq; cases hv
      obtain ⟨Is18, Fs18, e19, hv, hrs18, hps18⟩ := hq
      cases hv
      have Gs18 := fm_ts Fs3 Fs18 (by decide) (by decide)
      have b20 : (0 : Int) ≤ iI s18 73 ∧ iI s18 73 ≤ 3 := Is18.1 73
      have ws18_99 : iI s18 99 = iI s3 99 := fm_i Fs18 (by decide)
      show WS k 26 [(0, .ref (A 179)), (1, .int (Int32.ofInt x))] [.int (Int32.ofInt e19)] (Wd A dT s18) 0 0
      refine z_if_eq X (t := 31) (show cdA 264 26 = some (.ifCond .eq 5, 3, 0, 0, 0) from rfl) (by decide) hrs18 (fun g21 => ?_) (fun g21 => ?_)
      ·
        refine z_aload_n X (x := A 179) (show cdA 264 31 = some (.aload_n 0, 1, 0, 0, 0) from rfl) (List.Mem.head _) ?_
        refine z_getI X 179 (show cdA 264 32 = some (.getfield 404, 3, 12, 48, 0) from rfl) (by decide) rfl rfl ?_
        have b22 : (0 : Int) ≤ iI s18 99 ∧ iI s18 99 ≤ 6 := Is18.1 99
        refine z_bipush X (show cdA 264 35 = some (.bipush 6, 2, 0, 0, 6) from rfl) ?_
        refine z_icmp_ne X (t := 42) (show cdA 264 37 = some (.if_icmp .ne 5, 3, 1, 0, 0) from rfl) (by decide) (rng_to _) (by decide) (fun g23 => ?_) (fun g23 => ?_)
        ·
          refine z_aload_n X (x := A 179) (show cdA 264 42 = some (.aload_n 0, 1, 0, 0, 0) from rfl) (List.Mem.head _) ?_
          refine s_getR X 179 (show cdA 264 43 = some (.getfield 101, 3, 12, 52, 0) from rfl) (by decide) rfl rfl ?_
          refine z_aload_n X (x := A 179) (show cdA 264 46 = some (.aload_n 0, 1, 0, 0, 0) from rfl) (List.Mem.head _) ?_
          refine z_getI X 179 (show cdA 264 47 = some (.getfield 404, 3, 12, 48, 0) from rfl) (by decide) rfl rfl ?_
          have b24 : (0 : Int) ≤ iI s18 99 ∧ iI s18 99 ≤ 6 := Is18.1 99
          refine z_load_n X (x := x) (show cdA 264 50 = some (.iload_n 1, 1, 0, 0, 0) from rfl) (List.Mem.tail _ (List.Mem.head _)) ?_
          refine z_ast X 265 (show cdA 264 51 = some (.iastore, 1, 0, 0, 0) from rfl) (by decide) rfl (by first | exact b24.1 | omega) (show (iI s18 99) < 6 by first | (clear g23 hps18 he17; omega) | (clear hps18 he17; omega) | omega) (by decide) ?_
          obtain ⟨s25, hs25⟩ : ∃ x0, x0 = uC s18 237 ((iI s18 99)).toNat (Int32.ofInt x) := ⟨_, rfl⟩
          rw [← hs25]
          have Is25 : Bd s25 := by rw [hs25]; exact bd_C Is18 (show (0 : Int) ≤ x ∧ x ≤ 16777215 by first | exact ⟨g4, by first | (clear g23 hps18 he17; omega) | (clear hps18 he17; omega) | omega⟩ | omega) ⟨by first | exact p0.1 | omega, by first | exact p0.2 | omega⟩
          have Fs25 := fm_C (i := ((iI s18 99)).toNat) (x := Int32.ofInt x) Gs18 (show 237 ∈ _ by decide)
          rw [← hs25] at Fs25
          have ws25_73 : iI s25 73 = iI s18 73 := by rw [hs25]; rfl
          have ws25_99 : iI s25 99 = iI s18 99 := by rw [hs25]; rfl
          refine z_aload_n X (x := A 179) (show cdA 264 52 = some (.aload_n 0, 1, 0, 0, 0) from rfl) (List.Mem.head _) ?_
          refine w_dup X.1 (ax_d X (show cdA 264 53 = some (.dup, 1, 0, 0, 0) from rfl)) rfl ?_
          refine z_getI X 179 (show cdA 264 54 = some (.getfield 404, 3, 12, 48, 0) from rfl) (by decide) rfl rfl ?_
          have b26 : (0 : Int) ≤ iI s25 99 ∧ iI s25 99 ≤ 6 := Is25.1 99
          refine z_const X (show cdA 264 57 = some (.iconst 1, 1, 0, 0, 0) from rfl) ?_
          refine z_add X (show cdA 264 58 = some (.iadd, 1, 0, 0, 0) from rfl) ?_
          refine s_putI X 179 (show cdA 264 59 = some (.putfield 404, 3, 12, 48, 0) from rfl) (by decide) rfl rfl (by decide) rfl rfl rfl ?_
          obtain ⟨s27, hs27⟩ : ∃ x0, x0 = uI s25 99 (Int32.ofInt ((iI s25 99) + 1)) := ⟨_, rfl⟩
          rw [← hs27]
          have Is27 : Bd s27 := by rw [hs27]; exact bd_I Is25 (show (0 : Int) ≤ ((iI s25 99) + 1) ∧ ((iI s25 99) + 1) ≤ 6 by first | exact ⟨oq_54f49eb5 b26.1, by first | (clear g23 hps18 he17; omega) | (clear hps18 he17; omega) | omega⟩ | omega) ⟨by first | exact oq_74de1e16 b26.1 | omega, by first | exact oq_5fe14c36 b26.2 | omega⟩
          have Fs27 := fm_I (x := Int32.ofInt ((iI s25 99) + 1)) Fs25 (show 99 ∈ _ by decide)
          rw [← hs27] at Fs27
          have vs27 : iI s27 99 = ((iI s25 99) + 1) := by rw [hs27]; exact iI_u ⟨by first | exact oq_74de1e16 b26.1 | omega, by first | exact oq_5fe14c36 b26.2 | omega⟩
          have ws27_73 : iI s27 73 = iI s25 73 := by rw [hs27]; rfl
          refine z_aload_n X (x := A 179) (show cdA 264 62 = some (.aload_n 0, 1, 0, 0, 0) from rfl) (List.Mem.head _) ?_
          refine z_getI X 179 (show cdA 264 63 = some (.getfield 404, 3, 12, 48, 0) from rfl) (by decide) rfl rfl ?_
          have b28 : (0 : Int) ≤ iI s27 99 ∧ iI s27 99 ≤ 6 := Is27.1 99
          refine z_const X (show cdA 264 66 = some (.iconst 1, 1, 0, 0, 0) from rfl) ?_
          refine z_sub X (show cdA 264 67 = some (.isub, 1, 0, 0, 0) from rfl) ?_
          exact w_iret X.1 q hRt rfl (ax_d X (show cdA 264 68 = some (.ireturn, 1, 0, 0, 0) from rfl)) (Nat.zero_le _) (Nat.zero_le _) ⟨_, rfl, Is27, Fs27, ((iI s27 99) - 1), rfl, ⟨by first | exact oq_c1e961c7 b28.1 | omega, by first | exact oq_b383b26c b28.2 | omega⟩, by first | (clear g23 hps18 he17; omega) | (clear hps18 he17; omega) | omega⟩
        ·
          refine z_const X (show cdA 264 40 = some (.iconst (-1), 1, 0, 0, 0) from rfl) ?_
          exact w_iret X.1 q hRt rfl (ax_d X (show cdA 264 41 = some (.ireturn, 1, 0, 0, 0) from rfl)) (Nat.zero_le _) (Nat.zero_le _) ⟨_, rfl, Is18, Gs18, (-1), rfl, (by decide), by first | (clear hps18 he17; omega) | (clear he17; omega) | omega⟩
      ·
        refine z_const X (show cdA 264 29 = some (.iconst 0, 1, 0, 0, 0) from rfl) ?_
        exact w_iret X.1 q hRt rfl (ax_d X (show cdA 264 30 = some (.ireturn, 1, 0, 0, 0) from rfl)) (Nat.zero_le _) (Nat.zero_le _) ⟨_, rfl, Is18, Gs18, 0, rfl, (by decide), by first | (clear g21 hps18 he17; omega) | (clear hps18 he17; omega) | omega⟩
    refine z_icmp_lt X (t := 21) (show cdA 264 14 = some (.if_icmp .lt 7, 3, 2, 0, 0) from rfl) (by decide) ⟨by first | exact p0.1 | omega, by first | exact p0.2 | omega⟩ (by decide) (fun g29 => ?_) (fun g29 => ?_)
    ·
      refine z_const X (show cdA 264 21 = some (.iconst 0, 1, 0, 0, 0) from rfl) ?_
      exact N16 _ (Or.inl ⟨g29, rfl⟩)
    ·
      refine z_const X (show cdA 264 17 = some (.iconst 1, 1, 0, 0, 0) from rfl) ?_
      refine z_goto X (t := 22) (show cdA 264 18 = some (.goto 4, 3, 0, 0, 0) from rfl) (by decide) ?_
      exact N16 _ (Or.inr (⟨g29, rfl⟩))
set_option maxRecDepth 4000 in
theorem cs_needWithin2 (G : GX l s0 D tys a0 dT) (I : Bd s) {v lo hi : Int} (p0 : rng v) (p1 : rng lo) (p2 : rng hi) : CT l s0 D A dT 184 (rmN 184) [.ref (A 0), .int (Int32.ofInt v), .int (Int32.ofInt lo), .int (Int32.ofInt hi)] s (fun o t => Bd t ∧ Fm [] [] s t ∧ ((o = .inl none ∧ (lo ≤ v ∧ v ≤ hi)) ∨ ∃ x : Nat, o = .inr (exN x) ∧ (x = 0 ∧ (v < lo ∨ hi < v)))) := by
  refine ct_ofX G (by decide) (Nat.le_of_ble_eq_true rfl) (fun k X E ET hRt hXt q => ?_)
  show WS k 0 [(0, .ref (A 0)), (1, .int (Int32.ofInt v)), (2, .int (Int32.ofInt lo)), (3, .int (Int32.ofInt hi))] [] _ 0 0
  have F : Fm [] [] s s := fm_rf _ _ s
  refine z_load_n X (x := v) (show cdA 184 0 = some (.iload_n 1, 1, 0, 0, 0) from rfl) (List.Mem.tail _ (List.Mem.head _)) ?_
  refine z_load_n X (x := lo) (show cdA 184 1 = some (.iload_n 2, 1, 0, 0, 0) from rfl) (List.Mem.tail _ (List.Mem.tail _ (List.Mem.head _))) ?_
  refine z_icmp_lt X (t := 10) (show cdA 184 2 = some (.if_icmp .lt 8, 3, 2, 0, 0) from rfl) (by decide) ⟨by first | exact p0.1 | omega, by first | exact p0.2 | omega⟩ ⟨by first | exact p1.1 | omega, by first | exact p1.2 | omega⟩ (fun g1 => ?_) (fun g1 => ?_)
  ·
    exact z_throw G X E ET hXt q (st := []) (show cdA 184 10 = some (.new 108, 3, 0, 2, 0) from rfl) (by decide) (by decide) (Nat.le_of_ble_eq_true rfl) (show 0 + 1 ≤ 1 by omega) (show 0 + 6 ≤ 6 by omega) (show 0 + 1 ≤ 1 by omega) (show 0 + 6 ≤ 6 by omega) ⟨_, rfl, I, F, Or.inr ⟨0, rfl, by omega⟩⟩
  ·
    refine z_load_n X (x := v) (show cdA 184 5 = some (.iload_n 1, 1, 0, 0, 0) from rfl) (List.Mem.tail _ (List.Mem.head _)) ?_
    refine z_load_n X (x := hi) (show cdA 184 6 = some (.iload_n 3, 1, 0, 0, 0) from rfl) (List.Mem.tail _ (List.Mem.tail _ (List.Mem.tail _ (List.Mem.head _)))) ?_
    refine z_icmp_le X (t := 21) (show cdA 184 7 = some (.if_icmp .le 14, 3, 5, 0, 0) from rfl) (by decide) ⟨by first | exact p0.1 | omega, by first | exact p0.2 | omega⟩ ⟨by first | exact p2.1 | omega, by first | exact p2.2 | omega⟩ (fun g2 => ?_) (fun g2 => ?_)
    ·
      exact w_vret X.1 q hRt (ax_d X (show cdA 184 21 = some (.return_, 1, 0, 0, 0) from rfl)) (Nat.zero_le _) (Nat.zero_le _) ⟨_, rfl, I, F, Or.inl ⟨rfl, by first | exact ⟨g1, g2⟩ | omega⟩⟩
    ·
      exact z_throw G X E ET hXt q (st := []) (show cdA 184 10 = some (.new 108, 3, 0, 2, 0) from rfl) (by decide) (by decide) (Nat.le_of_ble_eq_true rfl) (show 0 + 1 ≤ 1 by omega) (show 0 + 6 ≤ 6 by omega) (show 0 + 1 ≤ 1 by omega) (show 0 + 6 ≤ 6 by omega) ⟨_, rfl, I, F, Or.inr ⟨0, rfl, by omega⟩⟩
set_option maxRecDepth 4000 in
theorem cs_configure2 (G : GX l s0 D tys a0 dT) (I : Bd s) {v : Int} (p0 : rng v) : CT l s0 D A dT 160 (rmN 160) [.ref (A 0), .int (Int32.ofInt v)] s (fun o t => Bd t ∧ Fm [32] [46] s t ∧ ((∃ e, o = .inl (some (.int (Int32.ofInt e))) ∧ rng e ∧ (0 ≤ v ∧ v < 16777216 ∧ ((iI s 32 = 6 ∧ e = -1 ∧ iI t 32 = 6) ∨ (iI s 32 ≠ 6 ∧ e = iI s 32 ∧ iI t 32 = iI s 32 + 1)))) ∨ ∃ x : Nat, o = .inr (exN x) ∧ (x = 0 ∧ (v < 0 ∨ 16777216 ≤ v) ∧ iI t 32 = iI s 32))) := by
  refine ct_ofX G (by decide) (Nat.le_of_ble_eq_true rfl) (fun k X E ET hRt hXt q => ?_)
  show WS k 0 [(0, .ref (A 0)), (1, .int (Int32.ofInt v))] [] _ 0 0
  have F : Fm [32] [46] s s := fm_rf _ _ s
  have b1 : (0 : Int) ≤ iI s 32 ∧ iI s 32 ≤ 6 := I.1 32
  refine z_aload_n X (x := A 0) (show cdA 160 0 = some (.aload_n 0, 1, 0, 0, 0) from rfl) (List.Mem.head _) ?_
  refine z_load_n X (x := v) (show cdA 160 1 = some (.iload_n 1, 1, 0, 0, 0) from rfl) (List.Mem.tail _ (List.Mem.head _)) ?_
  refine z_const X (show cdA 160 2 = some (.iconst 0, 1, 0, 0, 0) from rfl) ?_
  refine z_ldcw X (show cdA 160 3 = some (.ldc_w 271, 3, 0, 0, 16777215) from rfl) ?_
  refine z_callV X 0 (rm := rmN 184) (As := [.int (Int32.ofInt v), .int (Int32.ofInt 0), .int (Int32.ofInt 16777215)]) (st := []) (show cdA 160 6 = some (.invokevirtual 151, 3, 184, 0, 0) from rfl) rfl (by decide) rfl (by rw [E.1, E.2.1, E.2.2.1]; exact cs_needWithin2 G I (by first | exact ⟨p0.1, p0.2⟩ | omega) (by first | exact ⟨by decide, by decide⟩ | omega) (by first | exact ⟨by decide, by decide⟩ | omega)) ⟨by rw [E.2.2.2]; exact (show (rmN 184).frames + 1 ≤ (rmN 160).frames by decide), by rw [E.2.2.2]; exact (show 8 + (mNL (miB 184) + 11) + (rmN 184).locals ≤ (rmN 160).locals by decide), by rw [E.2.2.2]; exact (show 0 + 1 ≤ 1 by omega), by rw [E.2.2.2]; exact (show 0 + 6 ≤ 6 by omega)⟩ (Nat.le_of_ble_eq_true rfl) (fun vv s2 hq => ?_) (fun ee s2 hq => ?_)
  rotate_left
  · obtain ⟨Is2, Fs2, (⟨hv, hps2⟩ | ⟨xx, hv, hps2⟩)⟩ := hq
    · cases hv
    · cases hv
      have Gs2 := fm_ts F Fs2 (by decide) (by decide)
      have ws2_32 : iI s2 32 = iI s 32 := fm_i Fs2 (by decide)
      exact x_out X.1 q (fun x hx => (hXt x hx).elim) (show 1 ≤ 1 by omega) (show 6 ≤ 6 by omega) ⟨_, rfl, Is2, Gs2, Or.inr ⟨xx, rfl, by omega⟩⟩
  obtain ⟨Is2, Fs2, (⟨hv, hps2⟩ | ⟨xx, hv, hps2⟩)⟩ := hq
  rotate_left
  · cases hv
  cases hv
  have Gs2 := fm_ts F Fs2 (by decide) (by decide)
  have ws2_32 : iI s2 32 = iI s 32 := fm_i Fs2 (by decide)
  show WS k 9 [(0, .ref (A 0)), (1, .int (Int32.ofInt v))] [] (Wd A dT s2) 1 6
  refine z_aload_n X (x := A 0) (show cdA 160 9 = some (.aload_n 0, 1, 0, 0, 0) from rfl) (List.Mem.head _) ?_
  refine s_getR X 0 (show cdA 160 10 = some (.getfield 71, 3, 11, 7, 0) from rfl) (by decide) rfl rfl ?_
  refine z_load_n X (x := v) (show cdA 160 13 = some (.iload_n 1, 1, 0, 0, 0) from rfl) (List.Mem.tail _ (List.Mem.head _)) ?_
  refine z_callV X 54 (rm := rmN 43) (As := [.int (Int32.ofInt v)]) (st := []) (show cdA 160 14 = some (.invokevirtual 272, 3, 43, 0, 0) from rfl) rfl (by decide) rfl (by rw [E.1, E.2.1, E.2.2.1]; exact c4_add_54 G Is2 (by first | exact ⟨hps2.1, hps2.2⟩ | omega)) ⟨by rw [E.2.2.2]; exact (show (rmN 43).frames + 1 ≤ (rmN 160).frames by decide), by rw [E.2.2.2]; exact (show 8 + (mNL (miB 43) + 11) + (rmN 43).locals ≤ (rmN 160).locals by decide), by rw [E.2.2.2]; exact (show 1 + 0 ≤ 1 by first | (clear hps2; omega) | omega), by rw [E.2.2.2]; exact (show 6 + 0 ≤ 6 by first | (clear hps2; omega) | omega)⟩ (Nat.le_of_ble_eq_true rfl) (fun vv s4 hq => ?_) (fun ee s4 hq => ?_)
  rotate_left
  · obtain ⟨Is4, Fs4, e5, hv, hrs4, hps4⟩ := hq; cases hv
  obtain ⟨Is4, Fs4, e5, hv, hrs4, hps4⟩ := hq
  cases hv
  have Gs4 := fm_ts Gs2 Fs4 (by decide) (by decide)
  have b6 : (0 : Int) ≤ iI s4 32 ∧ iI s4 32 ≤ 6 := Is4.1 32
  show WS k 17 [(0, .ref (A 0)), (1, .int (Int32.ofInt v))] [.int (Int32.ofInt e5)] (Wd A dT s4) 1 6
  exact w_iret X.1 q hRt rfl (ax_d X (show cdA 160 17 = some (.ireturn, 1, 0, 0, 0) from rfl)) (show 1 ≤ 1 by first | (clear hps4 hps2; omega) | (clear hps2; omega) | omega) (show 6 ≤ 6 by first | (clear hps4 hps2; omega) | (clear hps2; omega) | omega) ⟨_, rfl, Is4, Gs4, Or.inl ⟨e5, rfl, hrs4, by first | exact ⟨hps2.1, oq_87396caf hps2.2, by first | (clear hps4 hps2; omega) | (clear hps2; omega) | omega⟩ | omega⟩⟩
set_option maxRecDepth 4000 in
theorem lw_configure2 (G : GX l s0 D tys a0 dT) (I : Bd s) {v : Int} (p0 : rng v) : CTL l s0 D A dT 334 (rmN 334) [.ref (A 0), .int (Int32.ofInt v), .ref (A 517)] s (fun o t => Bd t ∧ Fm [32] [46, 1460] s t ∧ ∃ e, o = .inl (some (.int (Int32.ofInt e))) ∧ rng e ∧ ((e = 0 ∧ 0 ≤ v ∧ v < 16777216 ∧ ((iI s 32 = 6 ∧ iO t = -1 ∧ iI t 32 = 6) ∨ (iI s 32 ≠ 6 ∧ iO t = iI s 32 ∧ iI t 32 = iI s 32 + 1))) ∨ (e = 1 ∧ (v < 0 ∨ 16777216 ≤ v) ∧ iI t 32 = iI s 32))) := by
  refine ctL_of G (by decide) (Nat.le_of_ble_eq_true rfl) (by decide) (show cdA 334 0 = some (.aload_n 2, 1, 0, 0, 0) from rfl) (fun k X E ET hRt hEx q => ?_)
  show WS k 0 [(0, .ref (A 0)), (1, .int (Int32.ofInt v)), (2, .ref (A 517))] [] _ 0 0
  have F : Fm [32] [46, 1460] s s := fm_rf _ _ s
  have hA := swA_rf A
  have b1 : (0 : Int) ≤ iI s 32 ∧ iI s 32 ≤ 6 := I.1 32
  refine z_aload_n X (x := A 517) (show cdA 334 0 = some (.aload_n 2, 1, 0, 0, 0) from rfl) (List.Mem.tail _ (List.Mem.tail _ (List.Mem.head _))) ?_
  refine z_const X (show cdA 334 1 = some (.iconst 0, 1, 0, 0, 0) from rfl) ?_
  refine z_aload_n X (x := A 0) (show cdA 334 2 = some (.aload_n 0, 1, 0, 0, 0) from rfl) (List.Mem.head _) ?_
  refine z_load_n X (x := v) (show cdA 334 3 = some (.iload_n 1, 1, 0, 0, 0) from rfl) (List.Mem.tail _ (List.Mem.head _)) ?_
  refine z_callV X 0 (rm := rmN 160) (As := [.int (Int32.ofInt v)]) (st := [.int (Int32.ofInt 0), .ref (A 517)]) (show cdA 334 4 = some (.invokevirtual 81, 3, 160, 0, 0) from rfl) rfl (by decide) rfl (by rw [E.1, E.2.1, E.2.2.1]; exact cs_configure2 G I (by omega)) ⟨by rw [E.2.2.2]; exact (show (rmN 160).frames + 1 ≤ (rmN 334).frames by decide), by rw [E.2.2.2]; exact (show 8 + (mNL (miB 160) + 11) + (rmN 160).locals ≤ (rmN 334).locals by decide), by rw [E.2.2.2]; exact (show 0 + (rmN 160).cells ≤ (rmN 334).cells by decide), by rw [E.2.2.2]; exact (show 0 + (rmN 160).slots ≤ (rmN 334).slots by decide)⟩ (Nat.le_of_ble_eq_true rfl) (fun vv s2 hq => ?_) (fun ee s2 hq => ?_)
  rotate_left
  · obtain ⟨Is2, Fs2, (⟨e3, hv, hrs2, hps2⟩ | ⟨xx, hv, hps2⟩)⟩ := hq
    · cases hv
    · cases hv
      rcases (show xx = 0 by omega) with gx
      ·
        subst gx
        have Gs2 := fm_ts F Fs2 (by decide) (by decide)
        have b4 : (0 : Int) ≤ iI s2 32 ∧ iI s2 32 ≤ 6 := Is2.1 32
        refine (hEx 4 0).2 12 rfl _ _ _ _ _ (fun q1 => ?_)
        show WS k 12 [(0, .ref (A 0)), (1, .int (Int32.ofInt v)), (2, .ref (A 517))] [.ref q1] (Wd A dT s2) 1 6
        refine z_astore_n X (lv' := [(3, .ref q1), (0, .ref (A 0)), (1, .int (Int32.ofInt v)), (2, .ref (A 517))]) (show cdA 334 12 = some (.astore_n 3, 1, 0, 0, 0) from rfl) (by decide) (fun _ h => h) ?_
        refine z_const X (show cdA 334 13 = some (.iconst 1, 1, 0, 0, 0) from rfl) ?_
        exact w_iret X.1 q hRt rfl (ax_d X (show cdA 334 14 = some (.ireturn, 1, 0, 0, 0) from rfl)) (show 1 ≤ 1 by omega) (show 6 ≤ 6 by omega) ⟨A, _, hA, rfl, Is2, Gs2, 1, rfl, (by decide), by omega⟩
  obtain ⟨Is2, Fs2, (⟨e3, hv, hrs2, hps2⟩ | ⟨xx, hv, hps2⟩)⟩ := hq
  rotate_left
  · cases hv
  cases hv
  have Gs2 := fm_ts F Fs2 (by decide) (by decide)
  have b5 : (0 : Int) ≤ iI s2 32 ∧ iI s2 32 ≤ 6 := Is2.1 32
  show WS k 7 [(0, .ref (A 0)), (1, .int (Int32.ofInt v)), (2, .ref (A 517))] [.int (Int32.ofInt e3), .int (Int32.ofInt 0), .ref (A 517)] (Wd A dT s2) 1 6
  refine w_i2l X.1 (ax_d X (show cdA 334 7 = some (.i2l, 1, 0, 0, 0) from rfl)) ?_
  refine z_last X 517 (show cdA 334 8 = some (.lastore, 1, 0, 0, 0) from rfl) (by decide) rfl (by first | (clear hps2; omega) | omega) (show 0 < 1 by first | (clear hps2; omega) | omega) (by decide) ?_
  obtain ⟨s6, hs6⟩ : ∃ x0, x0 = uD s2 460 (0 : Int).toNat (Int32.ofInt e3).toInt64 := ⟨_, rfl⟩
  rw [← hs6]
  have Is6 : Bd s6 := by rw [hs6]; exact bd_D Is2
  have Fs6 : Fm [32] [46, 1460] s s6 := by rw [hs6]; exact fm_D Gs2 (show 460 + 1000 ∈ _ by decide)
  have ws6_32 : iI s6 32 = iI s2 32 := by rw [hs6]; rfl
  have oos6 : iO s6 = e3 := by rw [hs6]; exact iO_u (by first | (clear hps2; omega) | omega)
  refine z_goto X (t := 15) (show cdA 334 9 = some (.goto 6, 3, 0, 0, 0) from rfl) (by decide) ?_
  refine z_const X (show cdA 334 15 = some (.iconst 0, 1, 0, 0, 0) from rfl) ?_
  exact w_iret X.1 q hRt rfl (ax_d X (show cdA 334 16 = some (.ireturn, 1, 0, 0, 0) from rfl)) (show 1 ≤ 1 by first | (clear hps2; omega) | omega) (show 6 ≤ 6 by first | (clear hps2; omega) | omega) ⟨A, _, hA, rfl, Is6, Fs6, 0, rfl, (by decide), by first | (clear hps2; omega) | omega⟩
set_option maxRecDepth 4000 in
theorem k_thrown2 (G : GX l s0 D tys a0 dT) (I : Bd s)  : CT l s0 D A dT 186 (rmN 186) [.ref (A 179)] s (fun o t => s = t ∧ ∃ e, o = .inl (some (.int (Int32.ofInt e))) ∧ rng e ∧ (e = iI s 73)) := by
  refine ct_of G (by decide) (Nat.le_of_ble_eq_true rfl) (fun k X E hRt hXt q => ?_)
  show WS k 0 [(0, .ref (A 179))] [] _ 0 0
  have F : Fm [] [] s s := fm_rf _ _ s
  refine z_aload_n X (x := A 179) (show cdA 186 0 = some (.aload_n 0, 1, 0, 0, 0) from rfl) (List.Mem.head _) ?_
  refine z_getI X 179 (show cdA 186 1 = some (.getfield 172, 3, 12, 0, 0) from rfl) (by decide) rfl rfl ?_
  have b1 : (0 : Int) ≤ iI s 73 ∧ iI s 73 ≤ 3 := I.1 73
  exact w_iret X.1 q hRt rfl (ax_d X (show cdA 186 4 = some (.ireturn, 1, 0, 0, 0) from rfl)) (Nat.zero_le _) (Nat.zero_le _) ⟨_, rfl, rfl, (iI s 73), rfl, (rng_to _), by omega⟩
end M87b
