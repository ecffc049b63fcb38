theorem oq_0fa7b120 {a0 a1 a2 a3 : Int} (h0 : a0 ≤ 1) (h1 : 0 ≤ a0) (h2 : ((a1 = 0 ∧ a0 = 0) ∨ (a1 ≠ 0 ∧ a0 = 1))) (h3 : 0 ≤ a1) (h4 : a2 = 0) : ((a2 = 1 ∧ (a1 = 0 ∧ (a1 = a3 ∧ a0 = 1))) ∨ ((a2 = 0 ∨ a1 ≠ 0) ∧ (a1 = a1 ∧ ((a0 = 0 ∧ a1 = 0) ∨ (a0 = 1 ∧ a1 ≠ 0))))) := by omega
theorem oq_7136ffd4 {a0 a1 a2 a3 : Int} (h0 : a0 ≤ 1) (h1 : ((a1 = 0 ∧ a0 = 0) ∨ (a1 ≠ 0 ∧ a0 = 1))) (h2 : 0 ≤ a1) (h3 : a1 ≠ 0) : ((a2 = 1 ∧ (a1 = 0 ∧ (a1 = a3 ∧ a0 = 1))) ∨ ((a2 = 0 ∨ a1 ≠ 0) ∧ (a1 = a1 ∧ ((a0 = 0 ∧ a1 = 0) ∨ (a0 = 1 ∧ a1 ≠ 0))))) := by omega
theorem oq_add61c1a {a0 a1 a2 a3 a4 : Int} (h0 : a0 ≤ 1) (h1 : ((a1 = 0 ∧ a0 = 0) ∨ (a1 ≠ 0 ∧ a0 = 1))) (h2 : a1 = a2) (h3 : a3 = 0) (h4 : a4 ≠ 0) (h5 : 1 ≤ a2) (h6 : (a4 = 0 ∨ a4 = 1)) : ((a4 = 1 ∧ (a3 = 0 ∧ (a1 = a2 ∧ a0 = 1))) ∨ ((a4 = 0 ∨ a3 ≠ 0) ∧ (a1 = a3 ∧ ((a0 = 0 ∧ a3 = 0) ∨ (a0 = 1 ∧ a3 ≠ 0))))) := by omega
theorem oq_674898f9 {a0 a1 a2 a3 : Int} (h0 : a0 = 0) (h1 : ((1 = 1 ∧ (a1 = 0 ∧ (a2 = 1 ∧ a0 = 1))) ∨ ((1 = 0 ∨ a1 ≠ 0) ∧ (a2 = a1 ∧ ((a0 = 0 ∧ a1 = 0) ∨ (a0 = 1 ∧ a1 ≠ 0)))))) (h2 : a1 = 0) : 0 ≤ a3 := by omega
theorem oq_46361496 {a0 a1 a2 a3 : Int} (h0 : a0 = 0) (h1 : ((1 = 1 ∧ (a1 = 0 ∧ (a2 = 1 ∧ a0 = 1))) ∨ ((1 = 0 ∨ a1 ≠ 0) ∧ (a2 = a1 ∧ ((a0 = 0 ∧ a1 = 0) ∨ (a0 = 1 ∧ a1 ≠ 0)))))) (h2 : a1 = 0) : a3 < 8 := by omega
theorem oq_086235ae {a0 a1 a2 a3 : Int} (h0 : a0 = 0) (h1 : ((1 = 1 ∧ (a1 = 0 ∧ (a2 = 1 ∧ a0 = 1))) ∨ ((1 = 0 ∨ a1 ≠ 0) ∧ (a2 = a1 ∧ ((a0 = 0 ∧ a1 = 0) ∨ (a0 = 1 ∧ a1 ≠ 0)))))) (h2 : a1 = 0) : (a3 : Int).toNat < 8 := by omega
theorem oq_e48faaef {a0 a1 a2 a3 : Int} (h0 : a0 = 0) (h1 : ((1 = 1 ∧ (a1 = 0 ∧ (a2 = 1 ∧ a0 = 1))) ∨ ((1 = 0 ∨ a1 ≠ 0) ∧ (a2 = a1 ∧ ((a0 = 0 ∧ a1 = 0) ∨ (a0 = 1 ∧ a1 ≠ 0)))))) (h2 : a1 = 0) : a3 ≤ 9999 := by omega
theorem oq_7d7a532a {a0 a1 a2 a3 : Int} (h0 : a0 = 0) (h1 : ((1 = 1 ∧ (a1 = 0 ∧ (a2 = 1 ∧ a0 = 1))) ∨ ((1 = 0 ∨ a1 ≠ 0) ∧ (a2 = a1 ∧ ((a0 = 0 ∧ a1 = 0) ∨ (a0 = 1 ∧ a1 ≠ 0)))))) (h2 : a1 = 0) : a3 ≤ 7 := by omega
theorem oq_8c407924 {a0 a1 a2 a3 : Int} (h0 : a0 = a1) (h1 : a2 = 0) (h2 : 0 ≤ a1) (h3 : ((1 = 1 ∧ (a3 = 0 ∧ (a1 = 1 ∧ a2 = 1))) ∨ ((1 = 0 ∨ a3 ≠ 0) ∧ (a1 = a3 ∧ ((a2 = 0 ∧ a3 = 0) ∨ (a2 = 1 ∧ a3 ≠ 0)))))) (h4 : a3 = 0) : a0 = 0 := by omega
theorem oq_791d66b1 {a0 a1 a2 : Int} (h0 : a0 = 0) (h1 : ((a0 = 1 ∧ (0 ≤ a1 ∧ a1 ≤ 7)) ∨ (a0 = 0 ∧ (a1 < 0 ∨ 7 < a1)))) : (a1 < 0 ∨ (7 < a1 ∨ (a2 < 0 ∨ 9999 < a2))) := by omega
theorem oq_faabd673 {a0 a1 a2 : Int} (h0 : a0 ≠ 0) (h1 : ((1 = 1 ∧ (a1 = 0 ∧ (a2 = 1 ∧ a0 = 1))) ∨ ((1 = 0 ∨ a1 ≠ 0) ∧ (a2 = a1 ∧ ((a0 = 0 ∧ a1 = 0) ∨ (a0 = 1 ∧ a1 ≠ 0)))))) (h2 : a1 = 0) : a2 = 1 := by omega
theorem oq_7f8ce9be {a0 a1 a2 a3 a4 a5 : Int} (h0 : a0 = 0) (h1 : ((a1 = 1 ∧ (a2 = 0 ∧ (a3 = 1 ∧ a0 = 1))) ∨ ((a1 = 0 ∨ a2 ≠ 0) ∧ (a3 = a2 ∧ ((a0 = 0 ∧ a2 = 0) ∨ (a0 = 1 ∧ a2 ≠ 0)))))) (h2 : ((a4 ≠ 0 ∧ a1 = 0) ∨ (a4 = 0 ∧ a1 = 1))) (h3 : ((a4 = 1 ∧ (0 ≤ a5 ∧ a5 ≤ 9999)) ∨ (a4 = 0 ∧ (a5 < 0 ∨ 9999 < a5)))) (h4 : a2 = 0) : 0 ≤ a5 := by omega
theorem oq_7cd554bd {a0 a1 a2 a3 a4 a5 : Int} (h0 : a0 = 0) (h1 : ((a1 = 1 ∧ (a2 = 0 ∧ (a3 = 1 ∧ a0 = 1))) ∨ ((a1 = 0 ∨ a2 ≠ 0) ∧ (a3 = a2 ∧ ((a0 = 0 ∧ a2 = 0) ∨ (a0 = 1 ∧ a2 ≠ 0)))))) (h2 : ((a4 ≠ 0 ∧ a1 = 0) ∨ (a4 = 0 ∧ a1 = 1))) (h3 : ((a4 = 1 ∧ (0 ≤ a5 ∧ a5 ≤ 9999)) ∨ (a4 = 0 ∧ (a5 < 0 ∨ 9999 < a5)))) (h4 : a2 = 0) : a5 ≤ 9999 := by omega
theorem oq_ca823699 {a0 a1 : Int} (h0 : a0 ≠ 0) (h1 : ((a0 = 1 ∧ (0 ≤ a1 ∧ a1 ≤ 7)) ∨ (a0 = 0 ∧ (a1 < 0 ∨ 7 < a1)))) : a1 ≤ 7 := by omega
theorem oq_36baa0f5 {a0 a1 a2 a3 a4 : Int} (h0 : a0 = a1) (h1 : a2 = 0) (h2 : 0 ≤ a1) (h3 : ((a3 = 1 ∧ (a4 = 0 ∧ (a1 = 1 ∧ a2 = 1))) ∨ ((a3 = 0 ∨ a4 ≠ 0) ∧ (a1 = a4 ∧ ((a2 = 0 ∧ a4 = 0) ∨ (a2 = 1 ∧ a4 ≠ 0)))))) (h4 : a4 = 0) : a0 = 0 := by omega
theorem oq_bc7378e0 {a0 a1 a2 a3 a4 a5 a6 : Int} (h0 : a0 ≠ 0) (h1 : ((a1 = 1 ∧ (a2 = 0 ∧ (a3 = 1 ∧ a0 = 1))) ∨ ((a1 = 0 ∨ a2 ≠ 0) ∧ (a3 = a2 ∧ ((a0 = 0 ∧ a2 = 0) ∨ (a0 = 1 ∧ a2 ≠ 0)))))) (h2 : ((a4 ≠ 0 ∧ a1 = 0) ∨ (a4 = 0 ∧ a1 = 1))) (h3 : ((a4 = 1 ∧ (0 ≤ a5 ∧ a5 ≤ 9999)) ∨ (a4 = 0 ∧ (a5 < 0 ∨ 9999 < a5)))) (h4 : a2 = 0) : (a6 < 0 ∨ (7 < a6 ∨ (a5 < 0 ∨ 9999 < a5))) := by omega
theorem oq_58a3c280 {a0 a1 a2 a3 : Int} (h0 : a0 ≠ 0) (h1 : ((a1 = 1 ∧ (a2 = 0 ∧ (a3 = 1 ∧ a0 = 1))) ∨ ((a1 = 0 ∨ a2 ≠ 0) ∧ (a3 = a2 ∧ ((a0 = 0 ∧ a2 = 0) ∨ (a0 = 1 ∧ a2 ≠ 0)))))) (h2 : a2 = 0) : a3 = 1 := by omega
theorem oq_5f8273e9 {a0 a1 : Int} (h0 : a0 = a1) (h1 : a0 ≤ 7) : a1 ≤ 7 := by omega
theorem oq_869f4f0c {a0 a1 a2 a3 : Int} (h0 : a0 = (a1 + 1)) (h1 : a2 = a3) (h2 : a1 = a2) : a0 = (a3 + 1) := by omega
theorem oq_73d3719d {a0 : Int} (h0 : a0 ≤ 8) (h1 : 8 ≤ a0) : a0 = 8 := by omega
theorem oq_151a919a {a0 a1 : Int} (h0 : a0 = a1) (h1 : 0 ≤ a0) : 0 ≤ a1 := by omega
theorem oq_b97c161b {a0 a1 : Int} (h0 : a0 = a1) (h1 : a0 ≤ 127) : a1 ≤ 127 := by omega
theorem oq_29af1651 {a0 a1 a2 a3 a4 a5 : Int} (h0 : a0 = 0) (h1 : ((a1 = 1 ∧ (a2 = 0 ∧ (a3 = 1 ∧ a0 = 1))) ∨ ((a1 = 0 ∨ a2 ≠ 0) ∧ (a3 = a2 ∧ ((a0 = 0 ∧ a2 = 0) ∨ (a0 = 1 ∧ a2 ≠ 0)))))) (h2 : ((a4 ≠ 0 ∧ a1 = 0) ∨ (a4 = 0 ∧ a1 = 1))) (h3 : ((a4 = 1 ∧ (0 ≤ a5 ∧ a5 ≤ 127)) ∨ (a4 = 0 ∧ (a5 < 0 ∨ 127 < a5)))) (h4 : a2 = 0) : (0 ≤ a5 ∧ a5 ≤ 127) := by omega
theorem oq_9f99e80f {a0 a1 a2 a3 : Int} (h0 : a0 = 0) (h1 : 0 ≤ a1) (h2 : ((a2 = 1 ∧ (a3 = 0 ∧ (a1 = 1 ∧ a0 = 1))) ∨ ((a2 = 0 ∨ a3 ≠ 0) ∧ (a1 = a3 ∧ ((a0 = 0 ∧ a3 = 0) ∨ (a0 = 1 ∧ a3 ≠ 0)))))) (h3 : a3 = 0) : a1 = 0 := by omega
theorem oq_c0af69ba {a0 a1 a2 a3 a4 a5 : Int} (h0 : a0 = 0) (h1 : ((a1 = 1 ∧ (a2 = 0 ∧ (a3 = 1 ∧ a0 = 1))) ∨ ((a1 = 0 ∨ a2 ≠ 0) ∧ (a3 = a2 ∧ ((a0 = 0 ∧ a2 = 0) ∨ (a0 = 1 ∧ a2 ≠ 0)))))) (h2 : ((a4 ≠ 0 ∧ a1 = 0) ∨ (a4 = 0 ∧ a1 = 1))) (h3 : ((a4 = 1 ∧ (0 ≤ a5 ∧ a5 ≤ 127)) ∨ (a4 = 0 ∧ (a5 < 0 ∨ 127 < a5)))) (h4 : a2 = 0) : 0 ≤ a5 := by omega
theorem oq_6404d05d {a0 a1 a2 a3 a4 a5 : Int} (h0 : a0 = 0) (h1 : ((a1 = 1 ∧ (a2 = 0 ∧ (a3 = 1 ∧ a0 = 1))) ∨ ((a1 = 0 ∨ a2 ≠ 0) ∧ (a3 = a2 ∧ ((a0 = 0 ∧ a2 = 0) ∨ (a0 = 1 ∧ a2 ≠ 0)))))) (h2 : ((a4 ≠ 0 ∧ a1 = 0) ∨ (a4 = 0 ∧ a1 = 1))) (h3 : ((a4 = 1 ∧ (0 ≤ a5 ∧ a5 ≤ 127)) ∨ (a4 = 0 ∧ (a5 < 0 ∨ 127 < a5)))) (h4 : a2 = 0) : a5 ≤ 127 := by omega
theorem oq_4c3c6c9d {a0 a1 a2 : Int} (h0 : a0 ≤ 8) (h1 : a1 = a0) (h2 : a2 = a1) (h3 : a2 = 8) : a0 = 8 := by omega
theorem oq_2d4c9f41 {a0 a1 a2 a3 a4 a5 : Int} (h0 : a0 ≠ 0) (h1 : ((a1 = 1 ∧ (a2 = 0 ∧ (a3 = 1 ∧ a0 = 1))) ∨ ((a1 = 0 ∨ a2 ≠ 0) ∧ (a3 = a2 ∧ ((a0 = 0 ∧ a2 = 0) ∨ (a0 = 1 ∧ a2 ≠ 0)))))) (h2 : ((a4 ≠ 0 ∧ a1 = 0) ∨ (a4 = 0 ∧ a1 = 1))) (h3 : ((a4 = 1 ∧ (0 ≤ a5 ∧ a5 ≤ 127)) ∨ (a4 = 0 ∧ (a5 < 0 ∨ 127 < a5)))) (h4 : a2 = 0) : (a5 < 0 ∨ 127 < a5) := by omega
/-! Contracts that say what is answered -/
/-- the law's long -/
def iO (t : PS) : Int := (gD t 460 0).toInt
theorem iO_u {s : PS} {e : Int} (h : rng e) : iO (uD s 460 (0 : Int).toNat (Int32.ofInt e).toInt64) = e := by
  show ((if 460 = 460 then vp_updL (s.2.2.2.1 460) (0 : Int).toNat (Int32.ofInt e).toInt64 else s.2.2.2.1 460) 0).toInt = e
  rw [if_pos rfl]
  show ((if 0 = (0 : Int).toNat then (Int32.ofInt e).toInt64 else s.2.2.2.1 460 0)).toInt = e
  rw [if_pos (by decide), Int32.toInt_toInt64, zi h]
theorem fm_o {L M : List Nat} {s t : PS} (F : Fm L M s t) (h : 460 + 1000 ∉ M) : iO t = iO s := congrArg Int64.toInt (fm_dd F h)
/-- an array's cells are as they were; but for one -/
def SAM (a : Nat) (s t : PS) : Prop := ∀ j, iC t a j = iC s a j
def UPD (a : Nat) (i x : Int) (s t : PS) : Prop := iC t a i.toNat = x ∧ ∀ j, j ≠ i.toNat → iC t a j = iC s a j
theorem sam_rf {a : Nat} {s : PS} : SAM a s s := fun _ => rfl
theorem sam_fm {L M : List Nat} {a : Nat} {s t : PS} (F : Fm L M s t) (h : a ∉ M) : SAM a s t := fun _ => fm_c F h
theorem sam_ts {a : Nat} {s t u : PS} (h : SAM a s t) (g : SAM a t u) : SAM a s u := fun j => (g j).trans (h j)
theorem upd_ts {a : Nat} {i x : Int} {s t u : PS} (h : UPD a i x s t) (g : SAM a t u) : UPD a i x s u := ⟨(g _).trans h.1, fun j hj => (g j).trans (h.2 j hj)⟩
theorem sam_C {a b i : Nat} {x : Int32} {s t : PS} (hb : a ≠ b) (h : SAM a s t) : SAM a s (uC t b i x) := fun j => (iC_a hb).trans (h j)
theorem upd_C {a b i : Nat} {x : Int32} {y z : Int} {s t : PS} (hb : a ≠ b) (h : UPD a y z s t) : UPD a y z s (uC t b i x) := ⟨(iC_a hb).trans h.1, fun j hj => (iC_a hb).trans (h.2 j hj)⟩
theorem upd_put {a : Nat} {i x : Int} {s t : PS} (h : SAM a s t) (hx : rng x) : UPD a i x s (uC t a i.toNat (Int32.ofInt x)) := ⟨iC_u hx, fun j hj => (iC_n hj).trans (h j)⟩
/-- two arrays are the same, n cells of them -/
def AEQ (a b n : Nat) (s : PS) : Prop := ∀ j, j < n → iC s a j = iC s b j
theorem aeq_sam {a b n : Nat} {s t : PS} (h : AEQ a b n s) (h1 : SAM a s t) (h2 : SAM b s t) : AEQ a b n t := fun j hj => by rw [h1, h2]; exact h j hj
theorem aeq_upd {a b n : Nat} {i x : Int} {s t u : PS} (h : AEQ a b n s) (h1 : UPD a i x s t) (h2 : SAM b s t) (h3 : UPD b i x t u) (h4 : SAM a t u) : AEQ a b n u := fun j hj => by
  by_cases e : j = i.toNat
  · rw [e, h3.1, h4, h1.1]
  · rw [h4, h1.2 j e, h3.2 j e, h2]; exact h j hj
/-- x is among the first n cells; it is not -/
def HAS (a : Nat) (n x : Int) (s : PS) : Prop := ∃ j : Nat, (j : Int) < n ∧ iC s a j = x
def NHS (a : Nat) (n x : Int) (s : PS) : Prop := ∀ j : Nat, (j : Int) < n → iC s a j ≠ x
theorem nhs_0 {a : Nat} {x : Int} {s : PS} : NHS a 0 x s := fun j hj => by omega
theorem nhs_up {a : Nat} {c x : Int} {s : PS} (h : NHS a c x s) (h0 : 0 ≤ c) (h1 : iC s a c.toNat ≠ x) : NHS a (c + 1) x s := fun j hj => by
  by_cases e : j = c.toNat
  · rw [e]; exact h1
  · exact h j (by omega)
theorem nhs_le {a : Nat} {c n x : Int} {s : PS} (h : NHS a c x s) (h0 : n ≤ c) : NHS a n x s := fun j hj => h j (by omega)
theorem hs_of {a : Nat} {n x : Int} {s : PS} (c : Int) (h0 : 0 ≤ c) (h1 : c < n) (h2 : iC s a c.toNat = x) : HAS a n x s := ⟨c.toNat, by omega, h2⟩
theorem upd_ix {a : Nat} {i j x : Int} {s t : PS} (h : UPD a i x s t) (e : i = j) : UPD a j x s t := e ▸ h
/-- the first cells of two arrays are the same, as many as the symbol q says -/
def REQ (a b q : Nat) (s : PS) : Prop := ∀ j : Nat, (j : Int) < iI s q → iC s a j = iC s b j
theorem req_0 {a b q : Nat} {s : PS} (h : iI s q = 0) : REQ a b q s := fun j hj => by omega
theorem req_sam {a b q : Nat} {s t : PS} (h : REQ a b q s) (h1 : SAM a s t) (h2 : SAM b s t) (e : iI t q = iI s q) : REQ a b q t := fun j hj => by rw [h1, h2]; exact h j (by omega)
theorem req_upd {a b q : Nat} {n m x : Int} {s t u : PS} (h : REQ a b q s) (h1 : UPD a n x s t) (h2 : SAM b s t) (h3 : UPD b m x t u) (h4 : SAM a t u) (e1 : n = iI s q) (e2 : m = n) (e3 : iI u q = iI s q + 1) (h0 : 0 ≤ n) : REQ a b q u := fun j hj => by
  subst e2
  by_cases e : j = m.toNat
  · rw [e, h3.1, h4, h1.1]
  · rw [h4, h1.2 j e, h3.2 j e, h2]; exact h j (by omega)
theorem req_no {a b q : Nat} {n m x : Int} {s t : PS} (h : REQ a b q s) (hb : SAM b s t) (h1 : HAS a n x s) (h2 : NHS b m x t) (e1 : n = iI s q) (e2 : m = n) : False := by
  obtain ⟨j, h3, h4⟩ := h1
  exact h2 j (by omega) (by rw [hb, ← h j (by omega)]; exact h4)
theorem req_no2 {a b q : Nat} {n m x : Int} {s t : PS} (h : REQ a b q s) (hb : SAM b s t) (h1 : NHS a n x s) (h2 : HAS b m x t) (e1 : n = iI s q) (e2 : m = n) : False := by
  obtain ⟨j, h3, h4⟩ := h2
  exact h1 j (by omega) (by rw [h j (by omega), ← hb]; exact h4)
theorem aeq_at {a b n : Nat} {i : Int} {s t : PS} (h : AEQ a b n s) (h2 : SAM b s t) (hi : i.toNat < n) : iC s a i.toNat = iC t b i.toNat := by rw [h2]; exact h _ hi
section M87b
variable {l : Launch} {s0 : State} {D : va_G} {tys : List (ClassId × FieldType)} {a0 : Array Value} {A : Nat → Nat} {dT : Nat → ClassId} {s : PS}
set_option maxRecDepth 4000 in
theorem k_in2 (G : GX l s0 D tys a0 dT) (I : Bd s) {x y z : Int} (p0 : rng x) (p1 : rng y) (p2 : rng z) : CT l s0 D A dT 188 (rmN 188) [.int (Int32.ofInt x), .int (Int32.ofInt y), .int (Int32.ofInt z)] s (fun o t => s = t ∧ ∃ e, o = .inl (some (.int (Int32.ofInt e))) ∧ rng e ∧ ((e = 1 ∧ y ≤ x ∧ x ≤ z) ∨ (e = 0 ∧ (x < y ∨ z < x)))) := by
  refine ct_of G (by decide) (Nat.le_of_ble_eq_true rfl) (fun k X E hRt hXt q => ?_)
  show WS k 0 [(0, .int (Int32.ofInt x)), (1, .int (Int32.ofInt y)), (2, .int (Int32.ofInt z))] [] _ 0 0
  have F : Fm [] [] s s := fm_rf _ _ s
  refine z_load_n X (x := x) rfl (List.Mem.head _) (z_load_n X (x := y) rfl (List.Mem.tail _ (List.Mem.head _)) ?_)
  have N1 : ∀ e2 : Int, (((x < y) ∧ e2 = 0) ∨ ((y ≤ x) ∧ (z < x) ∧ e2 = 0) ∨ ((y ≤ x) ∧ (x ≤ z) ∧ e2 = 1)) → WS k 15 [(0, .int (Int32.ofInt x)), (1, .int (Int32.ofInt y)), (2, .int (Int32.ofInt z))] [.int (Int32.ofInt e2)] (Wd A dT s) 0 0 := by
    intro e2 he2
    have re2 : 0 ≤ e2 ∧ e2 ≤ 1 := by first | (clear he2; omega) | omega
    exact w_iret X.1 q hRt (nar_ret (by first | exact oq_31e518ae re2.2 re2.1 | omega)) (ax_d X (show cdA 188 15 = some (.ireturn, 1, 0, 0, 0) from rfl)) (Nat.zero_le _) (Nat.zero_le _) ⟨_, rfl, rfl, e2, rfl, ⟨by first | exact oq_fa4e5087 re2.1 | omega, by first | exact oq_22e1e6b0 re2.2 | omega⟩, by first | exact oq_eb048f71 re2.2 re2.1 he2 | omega⟩
  refine z_icmp_lt X (t := 14) rfl rfl ⟨by first | exact p0.1 | omega, by first | exact p0.2 | omega⟩ ⟨by first | exact p1.1 | omega, by first | exact p1.2 | omega⟩ (fun g3 => ?_) (fun g3 => ?_)
  ·
    exact z_const X rfl (N1 _ (Or.inl ⟨g3, rfl⟩))
  ·
    refine z_load_n X (x := x) rfl (List.Mem.head _) (z_load_n X (x := z) rfl (List.Mem.tail _ (List.Mem.tail _ (List.Mem.head _))) (z_icmp_gt X (t := 14) rfl rfl ⟨by first | exact p0.1 | omega, by first | exact p0.2 | omega⟩ ⟨by first | exact p2.1 | omega, by first | exact p2.2 | omega⟩ (fun g4 => ?_) (fun g4 => ?_)))
    ·
      exact z_const X rfl (N1 _ (Or.inr (Or.inl ⟨g3, g4, rfl⟩)))
    ·
      exact z_const X rfl (z_goto X (t := 15) rfl rfl (N1 _ (Or.inr (Or.inr (⟨g3, g4, rfl⟩)))))
set_option maxRecDepth 4000 in
theorem k_bad2 (G : GX l s0 D tys a0 dT) (I : Bd s) {x y : Int} (p0 : x = 0 ∨ x = 1) (p1 : 1 ≤ y ∧ y ≤ 3) : CT l s0 D A dT 187 (rmN 187) [.ref (A 179), .int (Int32.ofInt x), .int (Int32.ofInt y)] s (fun o t => Bd t ∧ Fm [73] [] s t ∧ ∃ e, o = .inl (some (.int (Int32.ofInt e))) ∧ rng e ∧ (((x = 1 ∧ iI s 73 = 0 ∧ iI t 73 = y ∧ e = 1) ∨ ((x = 0 ∨ iI s 73 ≠ 0) ∧ iI t 73 = iI s 73 ∧ ((e = 0 ∧ iI s 73 = 0) ∨ (e = 1 ∧ iI s 73 ≠ 0)))))) := by
  refine ct_of G (by decide) (Nat.le_of_ble_eq_true rfl) (fun k X E hRt hXt q => ?_)
  show WS k 0 [(0, .ref (A 179)), (1, .int (Int32.ofInt x)), (2, .int (Int32.ofInt y))] [] _ 0 0
  have F : Fm [73] [] s s := fm_rf _ _ s
  have b1 := bi_73 I
  refine z_load_n X (x := x) rfl (List.Mem.tail _ (List.Mem.head _)) (z_if_eq X (t := 16) rfl rfl ⟨by first | exact oq_bde653e9 p0 | omega, by first | exact oq_4ad2cb8b p0 | omega⟩ (fun g2 => ?_) (fun g2 => ?_))
  ·
    refine z_aload_n X (x := A 179) rfl (List.Mem.head _) (z_getI X 179 rfl (c518_ok rfl) rfl rfl ?_)
    have b3 := bi_73 I
    have N4 : ∀ e5 : Int, ((((iI s 73) = 0) ∧ e5 = 0) ∨ (((iI s 73) ≠ 0) ∧ e5 = 1)) → WS k 28 [(0, .ref (A 179)), (1, .int (Int32.ofInt x)), (2, .int (Int32.ofInt y))] [.int (Int32.ofInt e5)] (Wd A dT s) 0 0 := by
      intro e5 he5
      have re5 : 0 ≤ e5 ∧ e5 ≤ 1 := by first | (clear he5 p0; omega) | (clear p0; omega) | omega
      exact w_iret X.1 q hRt (nar_ret (by first | exact oq_31e518ae re5.2 re5.1 | omega)) (ax_d X (show cdA 187 28 = some (.ireturn, 1, 0, 0, 0) from rfl)) (Nat.zero_le _) (Nat.zero_le _) ⟨_, rfl, I, F, e5, rfl, ⟨by first | exact oq_fa4e5087 re5.1 | omega, by first | exact oq_22e1e6b0 re5.2 | omega⟩, by first | exact oq_0fa7b120 re5.2 re5.1 he5 b3.1 g2 | omega⟩
    refine z_if_eq X (t := 27) rfl rfl (rng_to _) (fun g6 => ?_) (fun g6 => ?_)
    ·
      exact z_const X rfl (N4 _ (Or.inl ⟨g6, rfl⟩))
    ·
      exact z_const X rfl (z_goto X (t := 28) rfl rfl (N4 _ (Or.inr (⟨g6, rfl⟩))))
  ·
    refine z_aload_n X (x := A 179) rfl (List.Mem.head _) (z_getI X 179 rfl (c518_ok rfl) rfl rfl ?_)
    have b7 := bi_73 I
    refine z_if_ne X (t := 16) rfl rfl (rng_to _) (fun g8 => ?_) (fun g8 => ?_)
    ·
      refine z_aload_n X (x := A 179) rfl (List.Mem.head _) (z_getI X 179 rfl (c518_ok rfl) rfl rfl ?_)
      have b9 := bi_73 I
      have N10 : ∀ e11 : Int, ((((iI s 73) = 0) ∧ e11 = 0) ∨ (((iI s 73) ≠ 0) ∧ e11 = 1)) → WS k 28 [(0, .ref (A 179)), (1, .int (Int32.ofInt x)), (2, .int (Int32.ofInt y))] [.int (Int32.ofInt e11)] (Wd A dT s) 0 0 := by
        intro e11 he11
        have re11 : 0 ≤ e11 ∧ e11 ≤ 1 := by first | (clear he11 g8 g2 p0; omega) | (clear g8 g2 p0; omega) | omega
        exact w_iret X.1 q hRt (nar_ret (by first | exact oq_438aa68f re11.2 he11 b9.1 g8 | omega)) (ax_d X (show cdA 187 28 = some (.ireturn, 1, 0, 0, 0) from rfl)) (Nat.zero_le _) (Nat.zero_le _) ⟨_, rfl, I, F, e11, rfl, ⟨by first | exact oq_fa4e5087 re11.1 | omega, by first | exact oq_22e1e6b0 re11.2 | omega⟩, by first | exact oq_7136ffd4 re11.2 he11 b9.1 g8 | omega⟩
      refine z_if_eq X (t := 27) rfl rfl (rng_to _) (fun g12 => ?_) (fun g12 => ?_)
      ·
        exact z_const X rfl (N10 _ (Or.inl ⟨g12, rfl⟩))
      ·
        exact z_const X rfl (z_goto X (t := 28) rfl rfl (N10 _ (Or.inr (⟨g12, rfl⟩))))
    ·
      refine z_aload_n X (x := A 179) rfl (List.Mem.head _) (z_load_n X (x := y) rfl (List.Mem.tail _ (List.Mem.tail _ (List.Mem.head _))) (s_putI X 179 rfl (c518_ok rfl) rfl rfl (by decide) rfl rfl rfl (wd_gen (fun s13 hs13 => ?_))))
      have Is13 : Bd s13 := eqB hs13 (bd_I I (show (0 : Int) ≤ y ∧ y ≤ 3 by first | exact ⟨oq_2a6e3b50 p1.1, p1.2⟩ | omega) ⟨by first | exact oq_9462313e p1.1 | omega, by first | exact oq_c5520c83 p1.2 | omega⟩)
      have Fs13 := eqF hs13 (fm_I F (inl_ok (a := 73) rfl))
      have vs13 : iI s13 73 = y := eqI hs13 (iI_u ⟨by first | exact oq_9462313e p1.1 | omega, by first | exact oq_c5520c83 p1.2 | omega⟩)
      have wos13 : iO s13 = iO s := by rw [hs13]; rfl
      refine z_aload_n X (x := A 179) rfl (List.Mem.head _) (z_getI X 179 rfl (c518_ok rfl) rfl rfl ?_)
      have b14 := bi_73 Is13
      have N15 : ∀ e16 : Int, ((((iI s13 73) = 0) ∧ e16 = 0) ∨ (((iI s13 73) ≠ 0) ∧ e16 = 1)) → WS k 28 [(0, .ref (A 179)), (1, .int (Int32.ofInt x)), (2, .int (Int32.ofInt y))] [.int (Int32.ofInt e16)] (Wd A dT s13) 0 0 := by
        intro e16 he16
        have re16 : 0 ≤ e16 ∧ e16 ≤ 1 := by first | (clear he16 g2 p0; omega) | (clear g2 p0; omega) | omega
        exact w_iret X.1 q hRt (nar_ret (by first | exact oq_4f030bbc re16.2 he16 vs13 p1.1 | omega)) (ax_d X (show cdA 187 28 = some (.ireturn, 1, 0, 0, 0) from rfl)) (Nat.zero_le _) (Nat.zero_le _) ⟨_, rfl, Is13, Fs13, e16, rfl, ⟨by first | exact oq_fa4e5087 re16.1 | omega, by first | exact oq_22e1e6b0 re16.2 | omega⟩, by first | exact oq_add61c1a re16.2 he16 vs13 g8 g2 p1.1 p0 | omega⟩
      refine z_if_eq X (t := 27) rfl rfl (rng_to _) (fun g17 => ?_) (fun g17 => ?_)
      ·
        exact z_const X rfl (N15 _ (Or.inl ⟨g17, rfl⟩))
      ·
        exact z_const X rfl (z_goto X (t := 28) rfl rfl (N15 _ (Or.inr (⟨g17, rfl⟩))))
set_option maxRecDepth 4000 in
theorem cs_needWithin2 (G : GX l s0 D tys a0 dT) (I : Bd s) {v lo hi : Int} (p0 : rng v) (p1 : rng lo) (p2 : rng hi) : CT l s0 D A dT 184 (rmN 184) [.ref (A 0), .int (Int32.ofInt v), .int (Int32.ofInt lo), .int (Int32.ofInt hi)] s (fun o t => Bd t ∧ Fm [] [] s t ∧ ((o = .inl none ∧ (lo ≤ v ∧ v ≤ hi)) ∨ ∃ x : Nat, o = .inr (exN x) ∧ (x = 0 ∧ (v < lo ∨ hi < v)))) := by
  refine ct_ofX G (by decide) (Nat.le_of_ble_eq_true rfl) (fun k X E ET hRt hXt q => ?_)
  show WS k 0 [(0, .ref (A 0)), (1, .int (Int32.ofInt v)), (2, .int (Int32.ofInt lo)), (3, .int (Int32.ofInt hi))] [] _ 0 0
  have F : Fm [] [] s s := fm_rf _ _ s
  refine z_load_n X (x := v) rfl (List.Mem.tail _ (List.Mem.head _)) (z_load_n X (x := lo) rfl (List.Mem.tail _ (List.Mem.tail _ (List.Mem.head _))) (z_icmp_lt X (t := 10) rfl rfl ⟨by first | exact p0.1 | omega, by first | exact p0.2 | omega⟩ ⟨by first | exact p1.1 | omega, by first | exact p1.2 | omega⟩ (fun g1 => ?_) (fun g1 => ?_)))
  ·
    exact z_throw G X E ET hXt q (st := []) rfl (by decide) (by decide) (Nat.le_of_ble_eq_true rfl) (show 0 + 1 ≤ 1 by decide) (show 0 + 6 ≤ 6 by decide) (show 0 + 1 ≤ 1 by decide) (show 0 + 6 ≤ 6 by decide) ⟨_, rfl, I, F, Or.inr ⟨0, rfl, by omega⟩⟩
  ·
    refine z_load_n X (x := v) rfl (List.Mem.tail _ (List.Mem.head _)) (z_load_n X (x := hi) rfl (List.Mem.tail _ (List.Mem.tail _ (List.Mem.tail _ (List.Mem.head _)))) (z_icmp_le X (t := 21) rfl rfl ⟨by first | exact p0.1 | omega, by first | exact p0.2 | omega⟩ ⟨by first | exact p2.1 | omega, by first | exact p2.2 | omega⟩ (fun g2 => ?_) (fun g2 => ?_)))
    ·
      exact w_vret X.1 q hRt (ax_d X (show cdA 184 21 = some (.return_, 1, 0, 0, 0) from rfl)) (Nat.zero_le _) (Nat.zero_le _) ⟨_, rfl, I, F, Or.inl ⟨rfl, by first | exact ⟨g1, g2⟩ | omega⟩⟩
    ·
      exact z_throw G X E ET hXt q (st := []) rfl (by decide) (by decide) (Nat.le_of_ble_eq_true rfl) (show 0 + 1 ≤ 1 by decide) (show 0 + 6 ≤ 6 by decide) (show 0 + 1 ≤ 1 by decide) (show 0 + 6 ≤ 6 by decide) ⟨_, rfl, I, F, Or.inr ⟨0, rfl, by omega⟩⟩
set_option maxRecDepth 4000 in
theorem cs_needPiece2 (G : GX l s0 D tys a0 dT) (I : Bd s) {v : Int} (p0 : rng v) : CT l s0 D A dT 182 (rmN 182) [.ref (A 0), .int (Int32.ofInt v)] s (fun o t => Bd t ∧ Fm [] [] s t ∧ ((o = .inl none ∧ (0 ≤ v ∧ v ≤ 7)) ∨ ∃ x : Nat, o = .inr (exN x) ∧ (x = 0 ∧ (v < 0 ∨ 7 < v)))) := by
  refine ct_ofX G (by decide) (Nat.le_of_ble_eq_true rfl) (fun k X E ET hRt hXt q => ?_)
  show WS k 0 [(0, .ref (A 0)), (1, .int (Int32.ofInt v))] [] _ 0 0
  have F : Fm [] [] s s := fm_rf _ _ s
  refine z_aload_n X (x := A 0) rfl (List.Mem.head _) (z_load_n X (x := v) rfl (List.Mem.tail _ (List.Mem.head _)) (z_const X rfl (z_bipush X rfl (z_callV X 0 (rm := rmN 184) (As := [.int (Int32.ofInt v), .int (Int32.ofInt 0), .int (Int32.ofInt 7)]) (st := []) rfl rfl (by decide) rfl (by rw [E.1, E.2.1, E.2.2.1]; exact cs_needWithin2 G I (by first | exact ⟨p0.1, p0.2⟩ | omega) (by first | exact ⟨by decide, by decide⟩ | omega) (by first | exact ⟨by decide, by decide⟩ | omega)) ⟨by rw [E.2.2.2]; exact (show (rmN 184).frames + 1 ≤ (rmN 182).frames by decide), by rw [E.2.2.2]; exact (show 8 + (mNL (miB 184) + 11) + (rmN 184).locals ≤ (rmN 182).locals by decide), by rw [E.2.2.2]; exact (show 0 + 1 ≤ 1 by decide), by rw [E.2.2.2]; exact (show 0 + 6 ≤ 6 by decide)⟩ (Nat.le_of_ble_eq_true rfl) (fun vv s1 hq => ?_) (fun ee s1 hq => ?_)))))
  rotate_left
  · obtain ⟨Is1, Fs1, (⟨hv, hps1⟩ | ⟨xx, hv, hps1⟩)⟩ := hq
    · cases hv
    · cases hv
      have Gs1 := fm_tq F Fs1 rfl rfl
      exact x_out X.1 q (fun x hx => (hXt x hx).elim) (show 1 ≤ 1 by decide) (show 6 ≤ 6 by decide) ⟨_, rfl, Is1, Gs1, Or.inr ⟨xx, rfl, by omega⟩⟩
  obtain ⟨Is1, Fs1, (⟨hv, hps1⟩ | ⟨xx, hv, hps1⟩)⟩ := hq
  rotate_left
  · cases hv
  cases hv
  have Gs1 := fm_tq F Fs1 rfl rfl
  show WS k 8 [(0, .ref (A 0)), (1, .int (Int32.ofInt v))] [] (Wd A dT s1) 1 6
  exact w_vret X.1 q hRt (ax_d X (show cdA 182 8 = some (.return_, 1, 0, 0, 0) from rfl)) (show 1 ≤ 1 by decide) (show 6 ≤ 6 by decide) ⟨_, rfl, Is1, Gs1, Or.inl ⟨rfl, by first | exact ⟨hps1.1, hps1.2⟩ | omega⟩⟩
set_option maxRecDepth 4000 in
theorem k_limit2 (G : GX l s0 D tys a0 dT) (I : Bd s) {x y : Int} (p0 : rng x) (p1 : rng y) : CT l s0 D A dT 236 (rmN 236) [.ref (A 179), .int (Int32.ofInt x), .int (Int32.ofInt y)] s (fun o t => Bd t ∧ Fm [73] [229] s t ∧ ∃ e, o = .inl (some (.int (Int32.ofInt e))) ∧ rng e ∧ ((0 ≤ x ∧ x ≤ 7 ∧ 0 ≤ y ∧ y ≤ 9999 ∧ iI t 73 = 0 ∧ e = iC s 229 x.toNat ∧ UPD 229 x y s t) ∨ ((x < 0 ∨ 7 < x ∨ y < 0 ∨ 9999 < y) ∧ iI t 73 = 1 ∧ SAM 229 s t))) := by
  refine ct_of G (by decide) (Nat.le_of_ble_eq_true rfl) (fun k X E hRt hXt q => ?_)
  show WS k 0 [(0, .ref (A 179)), (1, .int (Int32.ofInt x)), (2, .int (Int32.ofInt y))] [] _ 0 0
  have F : Fm [73] [229] s s := fm_rf _ _ s
  have aw0_229 : SAM 229 s s := sam_rf
  have b1 := bi_73 I
  refine z_aload_n X (x := A 179) rfl (List.Mem.head _) (z_const X rfl (s_putI X 179 rfl (c518_ok rfl) rfl rfl (by decide) rfl rfl rfl (wd_gen (fun s2 hs2 => ?_))))
  have Is2 : Bd s2 := eqB hs2 (bd_I I (show (0 : Int) ≤ 0 ∧ 0 ≤ 3 by first | exact ⟨by decide, by decide⟩ | omega) (by decide))
  have Fs2 := eqF hs2 (fm_I F (inl_ok (a := 73) rfl))
  have vs2 : iI s2 73 = 0 := eqI hs2 (iI_u (by decide))
  have aws2_229 : SAM 229 s s2 := by rw [hs2]; exact aw0_229
  refine z_aload_n X (x := A 179) rfl (List.Mem.head _) (z_load_n X (x := x) rfl (List.Mem.tail _ (List.Mem.head _)) (z_const X rfl (z_bipush X rfl (z_callS X (rm := rmN 188) (As := [.int (Int32.ofInt x), .int (Int32.ofInt 0), .int (Int32.ofInt 7)]) (st := [.ref (A 179)]) rfl rfl (by rw [E.1, E.2.1, E.2.2.1]; exact k_in2 G Is2 (by first | exact ⟨p0.1, p0.2⟩ | omega) (by first | exact ⟨by decide, by decide⟩ | omega) (by first | exact ⟨by decide, by decide⟩ | omega)) ⟨by rw [E.2.2.2]; exact (show (rmN 188).frames + 1 ≤ (rmN 236).frames by decide), by rw [E.2.2.2]; exact (show 8 + (mNL (miB 188) + 11) + (rmN 188).locals ≤ (rmN 236).locals by decide), by rw [E.2.2.2]; exact (show 0 + (rmN 188).cells ≤ (rmN 236).cells by decide), by rw [E.2.2.2]; exact (show 0 + (rmN 188).slots ≤ (rmN 236).slots by decide)⟩ (Nat.le_of_ble_eq_true rfl) (fun vv s3 hq => ?_) (fun ee s3 hq => ?_)))))
  rotate_left
  · obtain ⟨rfl, e4, hv, hrs3, hps3⟩ := hq; cases hv
  obtain ⟨rfl, e4, hv, hrs3, hps3⟩ := hq
  cases hv
  show WS k 13 [(0, .ref (A 179)), (1, .int (Int32.ofInt x)), (2, .int (Int32.ofInt y))] [.int (Int32.ofInt e4), .ref (A 179)] (Wd A dT s2) 0 0
  refine z_if_eq X (t := 27) rfl rfl hrs3 (fun g5 => ?_) (fun g5 => ?_)
  ·
    refine z_const X rfl (z_goto X (t := 32) rfl rfl (z_const X rfl (zcV_i0 X E 179 (As := [.int (Int32.ofInt 1), .int (Int32.ofInt 1)]) (st := []) rfl rfl rfl rfl (k_bad2 G Is2 (by first | exact Or.inr (by decide) | omega) (by first | exact ⟨by decide, by decide⟩ | omega)) rfl (Nat.le_of_ble_eq_true rfl) (fun s6 e7 Is6 Fs6 hrs6 hps6 => ?_))))
    have Gs6 := fm_tq Fs2 Fs6 rfl rfl
    have b8 := bi_73 Is6
    have aws6_229 : SAM 229 s s6 := sam_ts aws2_229 (sam_fm Fs6 (by decide))
    refine z_if_eq X (t := 41) rfl rfl hrs6 (fun g9 => ?_) (fun g9 => ?_)
    ·
      refine z_aload_n X (x := A 179) rfl (List.Mem.head _) (s_getR X 179 rfl (c518_ok rfl) rfl rfl (z_load_n X (x := x) rfl (List.Mem.tail _ (List.Mem.head _)) (z_ald X 257 rfl (c518_ok rfl) rfl (by first | exact oq_674898f9 g9 hps6 vs2 | omega) (show x < 8 by first | exact oq_46361496 g9 hps6 vs2 | omega) (cbig_ok rfl) ?_)))
      have b10 := bc_229 Is6 (show (x).toNat < 8 by first | exact oq_086235ae g9 hps6 vs2 | omega)
      have ar11 : iC s6 229 (x).toNat = iC s 229 (x).toNat := aws6_229 _
      refine z_store_n X (lv' := [(3, .int (Int32.ofInt (iC s6 229 (x).toNat))), (0, .ref (A 179)), (1, .int (Int32.ofInt x)), (2, .int (Int32.ofInt y))]) rfl (by decide) (fun _ h => h) (z_aload_n X (x := A 179) rfl (List.Mem.tail _ (List.Mem.head _)) (s_getR X 179 rfl (c518_ok rfl) rfl rfl (z_load_n X (x := x) rfl (List.Mem.tail _ (List.Mem.tail _ (List.Mem.head _))) (z_load_n X (x := y) rfl (List.Mem.tail _ (List.Mem.tail _ (List.Mem.tail _ (List.Mem.head _)))) (z_ast X 257 rfl (c518_ok rfl) rfl (by first | exact oq_674898f9 g9 hps6 vs2 | omega) (show x < 8 by first | exact oq_46361496 g9 hps6 vs2 | omega) (cbig_ok rfl) (wd_gen (fun s12 hs12 => ?_)))))))
      have Is12 : Bd s12 := eqB hs12 (bd_C Is6 (show (0 : Int) ≤ y ∧ y ≤ 9999 by first | exact ⟨oq_674898f9 g9 hps6 vs2, oq_e48faaef g9 hps6 vs2⟩ | omega) ⟨by first | exact p1.1 | omega, by first | exact p1.2 | omega⟩)
      have Fs12 := eqF hs12 (fm_C Gs6 (inl_ok (a := 229) rfl))
      have ws12_73 : iI s12 73 = iI s6 73 := eqI hs12 rfl
      have aws12_229 : UPD 229 (x) y s s12 := by rw [hs12]; exact upd_put aws6_229 ⟨by first | exact p1.1 | omega, by first | exact p1.2 | omega⟩
      refine z_load_n X (x := (iC s6 229 (x).toNat)) rfl (List.Mem.head _) ?_
      exact w_iret X.1 q hRt rfl (ax_d X (show cdA 236 56 = some (.ireturn, 1, 0, 0, 0) from rfl)) (Nat.zero_le _) (Nat.zero_le _) ⟨_, rfl, Is12, Fs12, (iC s6 229 (x).toNat), rfl, (rng_to _), Or.inl ⟨by first | exact oq_674898f9 g9 hps6 vs2 | omega, by first | exact oq_7d7a532a g9 hps6 vs2 | omega, by first | exact oq_674898f9 g9 hps6 vs2 | omega, by first | exact oq_e48faaef g9 hps6 vs2 | omega, by first | exact oq_8c407924 ws12_73 g9 b8.1 hps6 vs2 | omega, by first | exact ar11 | omega, aws12_229⟩⟩
    ·
      refine z_const X rfl ?_
      exact w_iret X.1 q hRt rfl (ax_d X (show cdA 236 40 = some (.ireturn, 1, 0, 0, 0) from rfl)) (Nat.zero_le _) (Nat.zero_le _) ⟨_, rfl, Is6, Gs6, 0, rfl, (by decide), Or.inr (⟨by first | exact oq_791d66b1 g5 hps3 | omega, by first | exact oq_faabd673 g9 hps6 vs2 | omega, aws6_229⟩)⟩
  ·
    refine z_load_n X (x := y) rfl (List.Mem.tail _ (List.Mem.tail _ (List.Mem.head _))) (z_const X rfl (z_sipush X rfl (z_callS X (rm := rmN 188) (As := [.int (Int32.ofInt y), .int (Int32.ofInt 0), .int (Int32.ofInt 9999)]) (st := [.ref (A 179)]) rfl rfl (by rw [E.1, E.2.1, E.2.2.1]; exact k_in2 G Is2 (by first | exact ⟨p1.1, p1.2⟩ | omega) (by first | exact ⟨by decide, by decide⟩ | omega) (by first | exact ⟨by decide, by decide⟩ | omega)) ⟨by rw [E.2.2.2]; exact (show (rmN 188).frames + 1 ≤ (rmN 236).frames by decide), by rw [E.2.2.2]; exact (show 8 + (mNL (miB 188) + 11) + (rmN 188).locals ≤ (rmN 236).locals by decide), by rw [E.2.2.2]; exact (show 0 + (rmN 188).cells ≤ (rmN 236).cells by decide), by rw [E.2.2.2]; exact (show 0 + (rmN 188).slots ≤ (rmN 236).slots by decide)⟩ (Nat.le_of_ble_eq_true rfl) (fun vv s13 hq => ?_) (fun ee s13 hq => ?_))))
    rotate_left
    · obtain ⟨rfl, e14, hv, hrs13, hps13⟩ := hq; cases hv
    obtain ⟨rfl, e14, hv, hrs13, hps13⟩ := hq
    cases hv
    show WS k 24 [(0, .ref (A 179)), (1, .int (Int32.ofInt x)), (2, .int (Int32.ofInt y))] [.int (Int32.ofInt e14), .ref (A 179)] (Wd A dT s2) 0 0
    have N15 : ∀ e16 : Int, (((e14 ≠ 0) ∧ e16 = 0) ∨ ((e14 = 0) ∧ e16 = 1)) → WS k 32 [(0, .ref (A 179)), (1, .int (Int32.ofInt x)), (2, .int (Int32.ofInt y))] [.int (Int32.ofInt e16), .ref (A 179)] (Wd A dT s2) 0 0 := by
      intro e16 he16
      have re16 : 0 ≤ e16 ∧ e16 ≤ 1 := by first | (clear he16 hps13 g5 hps3; omega) | (clear hps13 g5 hps3; omega) | omega
      refine z_const X rfl (zcV_i0 X E 179 (As := [.int (Int32.ofInt e16), .int (Int32.ofInt 1)]) (st := []) rfl rfl rfl rfl (k_bad2 G Is2 (by first | exact oq_31e518ae re16.2 re16.1 | omega) (by first | exact ⟨by decide, by decide⟩ | omega)) rfl (Nat.le_of_ble_eq_true rfl) (fun s17 e18 Is17 Fs17 hrs17 hps17 => ?_))
      have Gs17 := fm_tq Fs2 Fs17 rfl rfl
      have b19 := bi_73 Is17
      have aws17_229 : SAM 229 s s17 := sam_ts aws2_229 (sam_fm Fs17 (by decide))
      refine z_if_eq X (t := 41) rfl rfl hrs17 (fun g20 => ?_) (fun g20 => ?_)
      ·
        refine z_aload_n X (x := A 179) rfl (List.Mem.head _) (s_getR X 179 rfl (c518_ok rfl) rfl rfl (z_load_n X (x := x) rfl (List.Mem.tail _ (List.Mem.head _)) (z_ald X 257 rfl (c518_ok rfl) rfl (by first | exact oq_28d92795 g5 hps3 | omega) (show x < 8 by first | exact oq_246a8e49 g5 hps3 | omega) (cbig_ok rfl) ?_)))
        have b21 := bc_229 Is17 (show (x).toNat < 8 by first | exact oq_9a20133a g5 hps3 | omega)
        have ar22 : iC s17 229 (x).toNat = iC s 229 (x).toNat := aws17_229 _
        refine z_store_n X (lv' := [(3, .int (Int32.ofInt (iC s17 229 (x).toNat))), (0, .ref (A 179)), (1, .int (Int32.ofInt x)), (2, .int (Int32.ofInt y))]) rfl (by decide) (fun _ h => h) (z_aload_n X (x := A 179) rfl (List.Mem.tail _ (List.Mem.head _)) (s_getR X 179 rfl (c518_ok rfl) rfl rfl (z_load_n X (x := x) rfl (List.Mem.tail _ (List.Mem.tail _ (List.Mem.head _))) (z_load_n X (x := y) rfl (List.Mem.tail _ (List.Mem.tail _ (List.Mem.tail _ (List.Mem.head _)))) (z_ast X 257 rfl (c518_ok rfl) rfl (by first | exact oq_28d92795 g5 hps3 | omega) (show x < 8 by first | exact oq_246a8e49 g5 hps3 | omega) (cbig_ok rfl) (wd_gen (fun s23 hs23 => ?_)))))))
        have Is23 : Bd s23 := eqB hs23 (bd_C Is17 (show (0 : Int) ≤ y ∧ y ≤ 9999 by first | exact ⟨oq_7f8ce9be g20 hps17 he16 hps13 vs2, oq_7cd554bd g20 hps17 he16 hps13 vs2⟩ | omega) ⟨by first | exact p1.1 | omega, by first | exact p1.2 | omega⟩)
        have Fs23 := eqF hs23 (fm_C Gs17 (inl_ok (a := 229) rfl))
        have ws23_73 : iI s23 73 = iI s17 73 := eqI hs23 rfl
        have aws23_229 : UPD 229 (x) y s s23 := by rw [hs23]; exact upd_put aws17_229 ⟨by first | exact p1.1 | omega, by first | exact p1.2 | omega⟩
        refine z_load_n X (x := (iC s17 229 (x).toNat)) rfl (List.Mem.head _) ?_
        exact w_iret X.1 q hRt rfl (ax_d X (show cdA 236 56 = some (.ireturn, 1, 0, 0, 0) from rfl)) (Nat.zero_le _) (Nat.zero_le _) ⟨_, rfl, Is23, Fs23, (iC s17 229 (x).toNat), rfl, (rng_to _), Or.inl ⟨by first | exact oq_28d92795 g5 hps3 | omega, by first | exact oq_ca823699 g5 hps3 | omega, by first | exact oq_7f8ce9be g20 hps17 he16 hps13 vs2 | omega, by first | exact oq_7cd554bd g20 hps17 he16 hps13 vs2 | omega, by first | exact oq_36baa0f5 ws23_73 g20 b19.1 hps17 vs2 | omega, by first | exact ar22 | omega, aws23_229⟩⟩
      ·
        refine z_const X rfl ?_
        exact w_iret X.1 q hRt rfl (ax_d X (show cdA 236 40 = some (.ireturn, 1, 0, 0, 0) from rfl)) (Nat.zero_le _) (Nat.zero_le _) ⟨_, rfl, Is17, Gs17, 0, rfl, (by decide), Or.inr (⟨by first | exact oq_bc7378e0 g20 hps17 he16 hps13 vs2 | omega, by first | exact oq_58a3c280 g20 hps17 vs2 | omega, aws17_229⟩)⟩
    refine z_if_ne X (t := 31) rfl rfl hrs13 (fun g24 => ?_) (fun g24 => ?_)
    ·
      exact z_const X rfl (N15 _ (Or.inl ⟨g24, rfl⟩))
    ·
      exact z_const X rfl (z_goto X (t := 32) rfl rfl (N15 _ (Or.inr (⟨g24, rfl⟩))))
set_option maxRecDepth 4000 in
theorem cs_limit2 (G : GX l s0 D tys a0 dT) (I : Bd s) {u v : Int} (p0 : rng u) (p1 : rng v) : CT l s0 D A dT 145 (rmN 145) [.ref (A 0), .int (Int32.ofInt u), .int (Int32.ofInt v)] s (fun o t => Bd t ∧ Fm [] [24] s t ∧ ((∃ e, o = .inl (some (.int (Int32.ofInt e))) ∧ rng e ∧ (0 ≤ u ∧ u ≤ 7 ∧ 0 ≤ v ∧ v ≤ 9999 ∧ e = iC s 24 u.toNat ∧ UPD 24 u v s t)) ∨ ∃ x : Nat, o = .inr (exN x) ∧ (x = 0 ∧ (u < 0 ∨ 7 < u ∨ v < 0 ∨ 9999 < v) ∧ SAM 24 s t))) := by
  refine ct_ofX G (by decide) (Nat.le_of_ble_eq_true rfl) (fun k X E ET hRt hXt q => ?_)
  show WS k 0 [(0, .ref (A 0)), (1, .int (Int32.ofInt u)), (2, .int (Int32.ofInt v))] [] _ 0 0
  have F : Fm [] [24] s s := fm_rf _ _ s
  have aw0_24 : SAM 24 s s := sam_rf
  refine z_aload_n X (x := A 0) rfl (List.Mem.head _) (z_load_n X (x := u) rfl (List.Mem.tail _ (List.Mem.head _)) (z_callV X 0 (rm := rmN 182) (As := [.int (Int32.ofInt u)]) (st := []) rfl rfl (by decide) rfl (by rw [E.1, E.2.1, E.2.2.1]; exact cs_needPiece2 G I (by first | exact ⟨p0.1, p0.2⟩ | omega)) ⟨by rw [E.2.2.2]; exact (show (rmN 182).frames + 1 ≤ (rmN 145).frames by decide), by rw [E.2.2.2]; exact (show 8 + (mNL (miB 182) + 11) + (rmN 182).locals ≤ (rmN 145).locals by decide), by rw [E.2.2.2]; exact (show 0 + 1 ≤ 2 by decide), by rw [E.2.2.2]; exact (show 0 + 6 ≤ 12 by decide)⟩ (Nat.le_of_ble_eq_true rfl) (fun vv s1 hq => ?_) (fun ee s1 hq => ?_)))
  rotate_left
  · obtain ⟨Is1, Fs1, (⟨hv, hps1⟩ | ⟨xx, hv, hps1⟩)⟩ := hq
    · cases hv
    · cases hv
      have Gs1 := fm_tq F Fs1 rfl rfl
      have aws1_24 : SAM 24 s s1 := sam_ts aw0_24 (sam_fm Fs1 (by decide))
      exact x_out X.1 q (fun x hx => (hXt x hx).elim) (show 1 ≤ 2 by decide) (show 6 ≤ 12 by decide) ⟨_, rfl, Is1, Gs1, Or.inr ⟨xx, rfl, ⟨by omega, by omega, aws1_24⟩⟩⟩
  obtain ⟨Is1, Fs1, (⟨hv, hps1⟩ | ⟨xx, hv, hps1⟩)⟩ := hq
  rotate_left
  · cases hv
  cases hv
  have Gs1 := fm_tq F Fs1 rfl rfl
  have aws1_24 : SAM 24 s s1 := sam_ts aw0_24 (sam_fm Fs1 (by decide))
  show WS k 5 [(0, .ref (A 0)), (1, .int (Int32.ofInt u)), (2, .int (Int32.ofInt v))] [] (Wd A dT s1) 1 6
  refine z_aload_n X (x := A 0) rfl (List.Mem.head _) (z_load_n X (x := v) rfl (List.Mem.tail _ (List.Mem.tail _ (List.Mem.head _))) (z_const X rfl (z_sipush X rfl (z_callV X 0 (rm := rmN 184) (As := [.int (Int32.ofInt v), .int (Int32.ofInt 0), .int (Int32.ofInt 9999)]) (st := []) rfl rfl (by decide) rfl (by rw [E.1, E.2.1, E.2.2.1]; exact cs_needWithin2 G Is1 (by first | exact ⟨p1.1, p1.2⟩ | omega) (by first | exact ⟨by decide, by decide⟩ | omega) (by first | exact ⟨by decide, by decide⟩ | omega)) ⟨by rw [E.2.2.2]; exact (show (rmN 184).frames + 1 ≤ (rmN 145).frames by decide), by rw [E.2.2.2]; exact (show 8 + (mNL (miB 184) + 11) + (rmN 184).locals ≤ (rmN 145).locals by decide), by rw [E.2.2.2]; exact (show 1 + 1 ≤ 2 by decide), by rw [E.2.2.2]; exact (show 6 + 6 ≤ 12 by decide)⟩ (Nat.le_of_ble_eq_true rfl) (fun vv s3 hq => ?_) (fun ee s3 hq => ?_)))))
  rotate_left
  · obtain ⟨Is3, Fs3, (⟨hv, hps3⟩ | ⟨xx, hv, hps3⟩)⟩ := hq
    · cases hv
    · cases hv
      have Gs3 := fm_tq Gs1 Fs3 rfl rfl
      have aws3_24 : SAM 24 s s3 := sam_ts aws1_24 (sam_fm Fs3 (by decide))
      exact x_out X.1 q (fun x hx => (hXt x hx).elim) (show (1 + 1) ≤ 2 by decide) (show (6 + 6) ≤ 12 by decide) ⟨_, rfl, Is3, Gs3, Or.inr ⟨xx, rfl, ⟨by first | (clear hps1; omega) | omega, by first | (clear hps1; omega) | omega, aws3_24⟩⟩⟩
  obtain ⟨Is3, Fs3, (⟨hv, hps3⟩ | ⟨xx, hv, hps3⟩)⟩ := hq
  rotate_left
  · cases hv
  cases hv
  have Gs3 := fm_tq Gs1 Fs3 rfl rfl
  have aws3_24 : SAM 24 s s3 := sam_ts aws1_24 (sam_fm Fs3 (by decide))
  show WS k 14 [(0, .ref (A 0)), (1, .int (Int32.ofInt u)), (2, .int (Int32.ofInt v))] [] (Wd A dT s3) (1 + 1) (6 + 6)
  refine z_aload_n X (x := A 0) rfl (List.Mem.head _) (s_getR X 0 rfl (c518_ok rfl) rfl rfl (s_getR X 25 rfl (c518_ok rfl) rfl rfl (z_load_n X (x := u) rfl (List.Mem.tail _ (List.Mem.head _)) (z_ald X 29 rfl (c518_ok rfl) rfl (by first | exact hps1.1 | omega) (show u < 8 by first | exact oq_aaea290e hps1.2 | omega) (cbig_ok rfl) ?_))))
  have b5 := bc_24 Is3 (show (u).toNat < 8 by first | exact oq_c19a3aae hps1.2 | omega)
  have ar6 : iC s3 24 (u).toNat = iC s 24 (u).toNat := aws3_24 _
  refine z_store_n X (lv' := [(3, .int (Int32.ofInt (iC s3 24 (u).toNat))), (0, .ref (A 0)), (1, .int (Int32.ofInt u)), (2, .int (Int32.ofInt v))]) rfl (by decide) (fun _ h => h) (z_aload_n X (x := A 0) rfl (List.Mem.tail _ (List.Mem.head _)) (s_getR X 0 rfl (c518_ok rfl) rfl rfl (s_getR X 25 rfl (c518_ok rfl) rfl rfl (z_load_n X (x := u) rfl (List.Mem.tail _ (List.Mem.tail _ (List.Mem.head _))) (z_load_n X (x := v) rfl (List.Mem.tail _ (List.Mem.tail _ (List.Mem.tail _ (List.Mem.head _)))) (z_ast X 29 rfl (c518_ok rfl) rfl (by first | exact hps1.1 | omega) (show u < 8 by first | exact oq_aaea290e hps1.2 | omega) (cbig_ok rfl) (wd_gen (fun s7 hs7 => ?_))))))))
  have Is7 : Bd s7 := eqB hs7 (bd_C Is3 (show (0 : Int) ≤ v ∧ v ≤ 9999 by first | exact ⟨hps3.1, hps3.2⟩ | omega) ⟨by first | exact p1.1 | omega, by first | exact p1.2 | omega⟩)
  have Fs7 := eqF hs7 (fm_C Gs3 (inl_ok (a := 24) rfl))
  have aws7_24 : UPD 24 (u) v s s7 := by rw [hs7]; exact upd_put aws3_24 ⟨by first | exact p1.1 | omega, by first | exact p1.2 | omega⟩
  refine z_load_n X (x := (iC s3 24 (u).toNat)) rfl (List.Mem.head _) ?_
  exact w_iret X.1 q hRt rfl (ax_d X (show cdA 145 35 = some (.ireturn, 1, 0, 0, 0) from rfl)) (show (1 + 1) ≤ 2 by decide) (show (6 + 6) ≤ 12 by decide) ⟨_, rfl, Is7, Fs7, Or.inl ⟨(iC s3 24 (u).toNat), rfl, (rng_to _), ⟨by first | exact hps1.1 | omega, by first | exact hps1.2 | omega, by first | exact hps3.1 | omega, by first | exact hps3.2 | omega, by first | exact ar6 | omega, aws7_24⟩⟩⟩
set_option maxRecDepth 4000 in
theorem lw_limit2 (G : GX l s0 D tys a0 dT) (I : Bd s) {u v : Int} (p0 : rng u) (p1 : rng v) : CTL l s0 D A dT 322 (rmN 322) [.ref (A 0), .int (Int32.ofInt u), .int (Int32.ofInt v), .ref (A 517)] s (fun o t => Bd t ∧ Fm [] [24, 1460] s t ∧ ∃ e, o = .inl (some (.int (Int32.ofInt e))) ∧ rng e ∧ ((e = 0 ∧ 0 ≤ u ∧ u ≤ 7 ∧ 0 ≤ v ∧ v ≤ 9999 ∧ iO t = iC s 24 u.toNat ∧ UPD 24 u v s t) ∨ (e = 1 ∧ (u < 0 ∨ 7 < u ∨ v < 0 ∨ 9999 < v) ∧ SAM 24 s t))) := by
  refine ctL_of G (by decide) (Nat.le_of_ble_eq_true rfl) (by decide) rfl (fun k X E ET hRt hEx q => ?_)
  show WS k 0 [(0, .ref (A 0)), (1, .int (Int32.ofInt u)), (2, .int (Int32.ofInt v)), (3, .ref (A 517))] [] _ 0 0
  have F : Fm [] [24, 1460] s s := fm_rf _ _ s
  have aw0_24 : SAM 24 s s := sam_rf
  have hA := swA_rf A
  refine z_aload_n X (x := A 517) rfl (List.Mem.tail _ (List.Mem.tail _ (List.Mem.tail _ (List.Mem.head _)))) (z_const X rfl (z_aload_n X (x := A 0) rfl (List.Mem.head _) (z_load_n X (x := u) rfl (List.Mem.tail _ (List.Mem.head _)) (z_load_n X (x := v) rfl (List.Mem.tail _ (List.Mem.tail _ (List.Mem.head _))) (z_callV X 0 (rm := rmN 145) (As := [.int (Int32.ofInt u), .int (Int32.ofInt v)]) (st := [.int (Int32.ofInt 0), .ref (A 517)]) rfl rfl (by decide) rfl (by rw [E.1, E.2.1, E.2.2.1]; exact cs_limit2 G I (by omega) (by omega)) ⟨by rw [E.2.2.2]; exact (show (rmN 145).frames + 1 ≤ (rmN 322).frames by decide), by rw [E.2.2.2]; exact (show 8 + (mNL (miB 145) + 11) + (rmN 145).locals ≤ (rmN 322).locals by decide), by rw [E.2.2.2]; exact (show 0 + (rmN 145).cells ≤ (rmN 322).cells by decide), by rw [E.2.2.2]; exact (show 0 + (rmN 145).slots ≤ (rmN 322).slots by decide)⟩ (Nat.le_of_ble_eq_true rfl) (fun vv s1 hq => ?_) (fun ee s1 hq => ?_))))))
  rotate_left
  · obtain ⟨Is1, Fs1, (⟨e2, hv, hrs1, hps1⟩ | ⟨xx, hv, hps1⟩)⟩ := hq
    · cases hv
    · cases hv
      rcases (show xx = 0 by omega) with gx
      ·
        subst gx
        have Gs1 := fm_tq F Fs1 rfl rfl
        refine (hEx 5 0).2 13 rfl _ _ _ _ _ (fun q1 => ?_)
        show WS k 13 [(0, .ref (A 0)), (1, .int (Int32.ofInt u)), (2, .int (Int32.ofInt v)), (3, .ref (A 517))] [.ref q1] (Wd A dT s1) 2 12
        refine z_astore X (lv' := [(4, .ref q1), (0, .ref (A 0)), (1, .int (Int32.ofInt u)), (2, .int (Int32.ofInt v)), (3, .ref (A 517))]) rfl (by decide) (fun _ h => h) (z_const X rfl ?_)
        exact w_iret X.1 q hRt rfl (ax_d X (show cdA 322 16 = some (.ireturn, 1, 0, 0, 0) from rfl)) (show 2 ≤ 2 by decide) (show 12 ≤ 12 by decide) ⟨A, _, hA, rfl, Is1, Gs1, 1, rfl, (by decide), Or.inr (⟨by decide, by omega, hps1.2.2⟩)⟩
  obtain ⟨Is1, Fs1, (⟨e2, hv, hrs1, hps1⟩ | ⟨xx, hv, hps1⟩)⟩ := hq
  rotate_left
  · cases hv
  cases hv
  have Gs1 := fm_tq F Fs1 rfl rfl
  show WS k 8 [(0, .ref (A 0)), (1, .int (Int32.ofInt u)), (2, .int (Int32.ofInt v)), (3, .ref (A 517))] [.int (Int32.ofInt e2), .int (Int32.ofInt 0), .ref (A 517)] (Wd A dT s1) 2 12
  refine w_i2l X.1 (ax_d X (show cdA 322 8 = some (.i2l, 1, 0, 0, 0) from rfl)) (z_last X 517 rfl (c518_ok rfl) rfl (by first | (clear hps1; omega) | omega) (show 0 < 1 by first | (clear hps1; omega) | omega) (cbig_ok rfl) (wd_gen (fun s3 hs3 => ?_)))
  have Is3 : Bd s3 := eqB hs3 (bd_D Is1)
  have Fs3 : Fm [] [24, 1460] s s3 := by rw [hs3]; exact fm_D Gs1 (show 460 + 1000 ∈ _ by decide)
  have aws3_24 : UPD 24 u v s s3 := by rw [hs3]; exact hps1.2.2.2.2.2
  have oos3 : iO s3 = e2 := by rw [hs3]; exact iO_u (by first | (clear hps1; omega) | omega)
  refine z_goto X (t := 17) rfl rfl (z_const X rfl ?_)
  exact w_iret X.1 q hRt rfl (ax_d X (show cdA 322 18 = some (.ireturn, 1, 0, 0, 0) from rfl)) (show 2 ≤ 2 by decide) (show 12 ≤ 12 by decide) ⟨A, _, hA, rfl, Is3, Fs3, 0, rfl, (by decide), Or.inl ⟨by decide, by first | (clear hps1; omega) | omega, by first | (clear hps1; omega) | omega, by first | (clear hps1; omega) | omega, by first | (clear hps1; omega) | omega, by first | (clear hps1; omega) | omega, aws3_24⟩⟩
set_option maxRecDepth 4000 in
theorem c5_add2 (G : GX l s0 D tys a0 dT) (I : Bd s) {x : Int} (p0 : 0 ≤ x ∧ x ≤ 127) : CT l s0 D A dT 54 (rmN 54) [.ref (A 46), .int (Int32.ofInt x)] s (fun o t => Bd t ∧ Fm [28] [39] s t ∧ ∃ e, o = .inl (some (.int (Int32.ofInt e))) ∧ rng e ∧ ((iI s 28 = 8 ∧ e = -1 ∧ iI t 28 = 8 ∧ SAM 39 s t) ∨ (iI s 28 ≤ 7 ∧ e = -2 ∧ iI t 28 = iI s 28 ∧ HAS 39 (iI s 28) x s ∧ SAM 39 s t) ∨ (iI s 28 ≤ 7 ∧ e = iI s 28 + 1 ∧ iI t 28 = iI s 28 + 1 ∧ NHS 39 (iI s 28) x s ∧ UPD 39 (iI s 28) x s t))) := by
  refine ct_ofX G (by decide) (Nat.le_of_ble_eq_true rfl) (fun k X E ET hRt hXt q => ?_)
  show WS k 0 [(0, .ref (A 46)), (1, .int (Int32.ofInt x))] [] _ 0 0
  have F : Fm [28] [39] s s := fm_rf _ _ s
  have aw0_39 : SAM 39 s s := sam_rf
  have b1 := bi_28 I
  have L13 : ∀ (n : Nat) (t : PS) (xv c : Int), Bd t → Fm [28] [39] s t → (SAM 39 s t ∧ NHS 39 c xv s) → (xv = x ∧ (0 ≤ xv ∧ xv ≤ 127) ∧ 0 ≤ c ∧ c ≤ 8 ∧ iI t 28 ≤ 7 ∧ iI t 28 = iI s 28) → (8 - c : Int).toNat < n → (∀ (t' : PS) (c' : Int), Bd t' → Fm [28] [39] s t' → (SAM 39 s t' ∧ NHS 39 c' xv s) → (xv = x ∧ (0 ≤ xv ∧ xv ≤ 127) ∧ 0 ≤ c' ∧ c' ≤ 8 ∧ iI t' 28 ≤ 7 ∧ iI t' 28 = iI s 28 ∧ iI t' 28 ≤ c') → WS k 40 [(0, .ref (A 46)), (1, .int (Int32.ofInt xv)), (2, .int (Int32.ofInt c'))] [] (Wd A dT t') 0 0) → WS k 13 [(0, .ref (A 46)), (1, .int (Int32.ofInt xv)), (2, .int (Int32.ofInt c))] [] (Wd A dT t) 0 0 := by
    intro n
    induction n with
    | zero =>
      intro t xv c I F hq hi hm kx
      exact absurd hm (Nat.not_lt_zero _)
    | succ n ih =>
      intro t xv c I F hq hi hm kx
      have b1001 := bi_28 I
      refine z_load_n X (x := c) rfl (List.Mem.tail _ (List.Mem.tail _ (List.Mem.head _))) (z_aload_n X (x := A 46) rfl (List.Mem.head _) (z_getI X 46 rfl (c518_ok rfl) rfl rfl ?_))
      have b1002 := bi_28 I
      refine z_icmp_ge X (t := 40) rfl rfl ⟨by first | exact oq_fa4e5087 hi.2.2.1 | omega, by first | exact oq_d3f5d874 hi.2.2.2.1 | omega⟩ (rng_to _) (fun g1003 => ?_) (fun g1003 => ?_)
      ·
        refine WS_pq [0, 1, 2] (lv' := [(0, .ref (A 46)), (1, .int (Int32.ofInt xv)), (2, .int (Int32.ofInt c))]) rfl ?_
        exact kx _ c I F ⟨hq.1, hq.2⟩ (by first | exact ⟨hi.1, And.intro (hi.2.1.1) (hi.2.1.2), hi.2.2.1, hi.2.2.2.1, hi.2.2.2.2.1, hi.2.2.2.2.2, g1003⟩ | omega)
      ·
        refine z_aload_n X (x := A 46) rfl (List.Mem.head _) (s_getR X 46 rfl (c518_ok rfl) rfl rfl (z_load_n X (x := c) rfl (List.Mem.tail _ (List.Mem.tail _ (List.Mem.head _))) (z_ald X 47 rfl (c518_ok rfl) rfl (by first | exact hi.2.2.1 | omega) (show c < 8 by first | exact oq_7f5b2e79 g1003 b1002.2 | omega) (cbig_ok rfl) ?_)))
        have b1004 := bc_39 I (show (c).toNat < 8 by first | exact oq_67be0351 g1003 b1002.2 | omega)
        have ar1005 : iC t 39 (c).toNat = iC s 39 (c).toNat := hq.1 _
        refine z_load_n X (x := xv) rfl (List.Mem.tail _ (List.Mem.head _)) (z_icmp_ne X (t := 34) rfl rfl (rng_to _) ⟨by first | exact oq_fa4e5087 hi.2.1.1 | omega, by first | exact oq_07d346ce hi.2.1.2 | omega⟩ (fun g1006 => ?_) (fun g1006 => ?_))
        ·
          refine z_inc X (x := c) (lv' := [(2, .int (Int32.ofInt (c + 1))), (0, .ref (A 46)), (1, .int (Int32.ofInt xv))]) rfl (by decide) (List.Mem.tail _ (List.Mem.tail _ (List.Mem.head _))) (fun _ h => h) (z_goto X (t := 13) rfl rfl (WS_pq [1, 2, 0] (lv' := [(0, .ref (A 46)), (1, .int (Int32.ofInt xv)), (2, .int (Int32.ofInt (c + 1)))]) rfl ?_))
          exact ih _ xv (c + 1) I F ⟨hq.1, nhs_up hq.2 (by first | (clear g1006; omega) | omega) (by first | (clear g1006; omega) | omega)⟩ (by first | exact ⟨hi.1, And.intro (hi.2.1.1) (hi.2.1.2), oq_54f49eb5 hi.2.2.1, oq_f6204d84 g1003 b1002.2, hi.2.2.2.2.1, hi.2.2.2.2.2⟩ | omega) (by first | exact qk_me hm (by decide) (oq_ccc5e5e0 g1003 b1002.2) | omega) kx
        ·
          refine z_bipush X rfl ?_
          exact w_iret X.1 q hRt rfl (ax_d X (show cdA 54 33 = some (.ireturn, 1, 0, 0, 0) from rfl)) (Nat.zero_le _) (Nat.zero_le _) ⟨_, rfl, I, F, (-2), rfl, (by decide), Or.inr (Or.inl ⟨by first | exact oq_5f8273e9 hi.2.2.2.2.2 hi.2.2.2.2.1 | omega, by decide, by first | exact hi.2.2.2.2.2 | omega, hs_of c (by omega) (by omega) (by omega), hq.1⟩)⟩
  refine z_aload_n X (x := A 46) rfl (List.Mem.head _) (z_getI X 46 rfl (c518_ok rfl) rfl rfl ?_)
  have b2 := bi_28 I
  refine z_bipush X rfl (z_icmp_lt X (t := 11) rfl rfl (rng_to _) (by decide) (fun g3 => ?_) (fun g3 => ?_))
  ·
    refine z_const X rfl (z_store_n X (lv' := [(2, .int (Int32.ofInt 0)), (0, .ref (A 46)), (1, .int (Int32.ofInt x))]) rfl (by decide) (fun _ h => h) (WS_pq [1, 2, 0] (lv' := [(0, .ref (A 46)), (1, .int (Int32.ofInt x)), (2, .int (Int32.ofInt 0))]) rfl (L13 ((8 - 0 : Int).toNat + 1) s x 0 I F ⟨aw0_39, nhs_0⟩ (by first | exact ⟨by decide, And.intro (p0.1) (p0.2), by decide, by decide, oq_78c639ed g3, by decide⟩ | omega) (Nat.lt_succ_self _) ?_)))
    intro s4 x5 Is4 Fs4 Qs4 hs4
    have b6 := bi_28 Is4
    refine z_aload_n X (x := A 46) rfl (List.Mem.head _) (s_getR X 46 rfl (c518_ok rfl) rfl rfl (z_aload_n X (x := A 46) rfl (List.Mem.head _) (z_getI X 46 rfl (c518_ok rfl) rfl rfl ?_)))
    have b7 := bi_28 Is4
    refine z_load_n X (x := x) rfl (List.Mem.tail _ (List.Mem.head _)) (z_ast X 47 rfl (c518_ok rfl) rfl (by first | exact b7.1 | omega) (show (iI s4 28) < 8 by first | exact oq_aaea290e hs4.2.2.2.2.1 | omega) (cbig_ok rfl) (wd_gen (fun s8 hs8 => ?_)))
    have Is8 : Bd s8 := eqB hs8 (bd_C Is4 (show (0 : Int) ≤ x ∧ x ≤ 127 by first | exact ⟨hs4.2.1.1, hs4.2.1.2⟩ | omega) ⟨by first | exact oq_fa4e5087 hs4.2.1.1 | omega, by first | exact oq_07d346ce hs4.2.1.2 | omega⟩)
    have Fs8 := eqF hs8 (fm_C Fs4 (inl_ok (a := 39) rfl))
    have ws8_28 : iI s8 28 = iI s4 28 := eqI hs8 rfl
    have aws8_39 : UPD 39 ((iI s4 28)) x s s8 := by rw [hs8]; exact upd_put Qs4.1 ⟨by first | exact oq_fa4e5087 hs4.2.1.1 | omega, by first | exact oq_07d346ce hs4.2.1.2 | omega⟩
    refine z_aload_n X (x := A 46) rfl (List.Mem.head _) (w_dup X.1 (ax_d X (show cdA 54 51 = some (.dup, 1, 0, 0, 0) from rfl)) rfl (z_getI X 46 rfl (c518_ok rfl) rfl rfl ?_))
    have b9 := bi_28 Is8
    refine z_const X rfl (z_add X rfl (s_putI X 46 rfl (c518_ok rfl) rfl rfl (by decide) rfl rfl rfl (wd_gen (fun s10 hs10 => ?_))))
    have Is10 : Bd s10 := eqB hs10 (bd_I Is8 (show (0 : Int) ≤ ((iI s8 28) + 1) ∧ ((iI s8 28) + 1) ≤ 8 by first | exact ⟨oq_54f49eb5 b9.1, oq_216077ba ws8_28 hs4.2.2.2.2.1⟩ | omega) ⟨by first | exact oq_74de1e16 b9.1 | omega, by first | exact oq_3762dfb5 b9.2 | omega⟩)
    have Fs10 := eqF hs10 (fm_I Fs8 (inl_ok (a := 28) rfl))
    have vs10 : iI s10 28 = ((iI s8 28) + 1) := eqI hs10 (iI_u ⟨by first | exact oq_74de1e16 b9.1 | omega, by first | exact oq_3762dfb5 b9.2 | omega⟩)
    have aws10_39 : UPD 39 ((iI s4 28)) x s s10 := by rw [hs10]; exact aws8_39
    refine z_aload_n X (x := A 46) rfl (List.Mem.head _) (z_getI X 46 rfl (c518_ok rfl) rfl rfl ?_)
    have b11 := bi_28 Is10
    exact w_iret X.1 q hRt rfl (ax_d X (show cdA 54 64 = some (.ireturn, 1, 0, 0, 0) from rfl)) (Nat.zero_le _) (Nat.zero_le _) ⟨_, rfl, Is10, Fs10, (iI s10 28), rfl, (rng_to _), Or.inr (Or.inr (⟨by first | exact oq_78c639ed g3 | omega, by first | exact oq_869f4f0c vs10 hs4.2.2.2.2.2.1 ws8_28 | omega, by first | exact oq_869f4f0c vs10 hs4.2.2.2.2.2.1 ws8_28 | omega, nhs_le (Qs4.2) (by omega), upd_ix aws10_39 (by omega)⟩))⟩
  ·
    refine z_const X rfl ?_
    exact w_iret X.1 q hRt rfl (ax_d X (show cdA 54 10 = some (.ireturn, 1, 0, 0, 0) from rfl)) (Nat.zero_le _) (Nat.zero_le _) ⟨_, rfl, I, F, (-1), rfl, (by decide), Or.inl ⟨by first | exact oq_73d3719d b2.2 g3 | omega, by decide, by first | exact oq_73d3719d b2.2 g3 | omega, aw0_39⟩⟩
set_option maxRecDepth 4000 in
theorem cs_needCell2 (G : GX l s0 D tys a0 dT) (I : Bd s) {v : Int} (p0 : rng v) : CT l s0 D A dT 181 (rmN 181) [.ref (A 0), .int (Int32.ofInt v)] s (fun o t => Bd t ∧ Fm [] [] s t ∧ ((o = .inl none ∧ (0 ≤ v ∧ v ≤ 127 ∧ s = t)) ∨ ∃ x : Nat, o = .inr (exN x) ∧ (x = 2 ∧ (v < 0 ∨ 127 < v)))) := by
  refine ct_ofX G (by decide) (Nat.le_of_ble_eq_true rfl) (fun k X E ET hRt hXt q => ?_)
  show WS k 0 [(0, .ref (A 0)), (1, .int (Int32.ofInt v))] [] _ 0 0
  have F : Fm [] [] s s := fm_rf _ _ s
  refine z_load_n X (x := v) rfl (List.Mem.tail _ (List.Mem.head _)) (z_if_lt X (t := 11) rfl rfl ⟨by first | exact p0.1 | omega, by first | exact p0.2 | omega⟩ (fun g1 => ?_) (fun g1 => ?_))
  ·
    exact z_throw G X E ET hXt q (st := []) rfl (by decide) (by decide) (Nat.le_of_ble_eq_true rfl) (show 0 + 1 ≤ 1 by decide) (show 0 + 6 ≤ 6 by decide) (show 0 + 1 ≤ 1 by decide) (show 0 + 6 ≤ 6 by decide) ⟨_, rfl, I, F, Or.inr ⟨2, rfl, by omega⟩⟩
  ·
    refine z_load_n X (x := v) rfl (List.Mem.tail _ (List.Mem.head _)) (z_sipush X rfl (z_icmp_lt X (t := 22) rfl rfl ⟨by first | exact p0.1 | omega, by first | exact p0.2 | omega⟩ (by decide) (fun g2 => ?_) (fun g2 => ?_)))
    ·
      exact w_vret X.1 q hRt (ax_d X (show cdA 181 22 = some (.return_, 1, 0, 0, 0) from rfl)) (Nat.zero_le _) (Nat.zero_le _) ⟨_, rfl, I, F, Or.inl ⟨rfl, ⟨by first | exact g1 | omega, by first | exact oq_04367f15 g2 | omega, rfl⟩⟩⟩
    ·
      exact z_throw G X E ET hXt q (st := []) rfl (by decide) (by decide) (Nat.le_of_ble_eq_true rfl) (show 0 + 1 ≤ 1 by decide) (show 0 + 6 ≤ 6 by decide) (show 0 + 1 ≤ 1 by decide) (show 0 + 6 ≤ 6 by decide) ⟨_, rfl, I, F, Or.inr ⟨2, rfl, by omega⟩⟩
set_option maxRecDepth 4000 in
theorem cs_region2 (G : GX l s0 D tys a0 dT) (I : Bd s) {u : Int} (p0 : rng u) : CT l s0 D A dT 157 (rmN 157) [.ref (A 0), .int (Int32.ofInt u)] s (fun o t => Bd t ∧ Fm [28] [39] s t ∧ ((∃ e, o = .inl (some (.int (Int32.ofInt e))) ∧ rng e ∧ (0 ≤ u ∧ u ≤ 127 ∧ ((iI s 28 = 8 ∧ e = -1 ∧ iI t 28 = 8 ∧ SAM 39 s t) ∨ (iI s 28 ≤ 7 ∧ e = -2 ∧ iI t 28 = iI s 28 ∧ HAS 39 (iI s 28) u s ∧ SAM 39 s t) ∨ (iI s 28 ≤ 7 ∧ e = iI s 28 + 1 ∧ iI t 28 = iI s 28 + 1 ∧ NHS 39 (iI s 28) u s ∧ UPD 39 (iI s 28) u s t)))) ∨ ∃ x : Nat, o = .inr (exN x) ∧ (x = 2 ∧ (u < 0 ∨ 127 < u) ∧ iI t 28 = iI s 28 ∧ SAM 39 s t))) := by
  refine ct_ofX G (by decide) (Nat.le_of_ble_eq_true rfl) (fun k X E ET hRt hXt q => ?_)
  show WS k 0 [(0, .ref (A 0)), (1, .int (Int32.ofInt u))] [] _ 0 0
  have F : Fm [28] [39] s s := fm_rf _ _ s
  have aw0_39 : SAM 39 s s := sam_rf
  have b1 := bi_28 I
  refine z_aload_n X (x := A 0) rfl (List.Mem.head _) (z_load_n X (x := u) rfl (List.Mem.tail _ (List.Mem.head _)) (z_callV X 0 (rm := rmN 181) (As := [.int (Int32.ofInt u)]) (st := []) rfl rfl (by decide) rfl (by rw [E.1, E.2.1, E.2.2.1]; exact cs_needCell2 G I (by first | exact ⟨p0.1, p0.2⟩ | omega)) ⟨by rw [E.2.2.2]; exact (show (rmN 181).frames + 1 ≤ (rmN 157).frames by decide), by rw [E.2.2.2]; exact (show 8 + (mNL (miB 181) + 11) + (rmN 181).locals ≤ (rmN 157).locals by decide), by rw [E.2.2.2]; exact (show 0 + 1 ≤ 1 by decide), by rw [E.2.2.2]; exact (show 0 + 6 ≤ 6 by decide)⟩ (Nat.le_of_ble_eq_true rfl) (fun vv s2 hq => ?_) (fun ee s2 hq => ?_)))
  rotate_left
  · obtain ⟨Is2, Fs2, (⟨hv, hps2⟩ | ⟨xx, hv, hps2⟩)⟩ := hq
    · cases hv
    · cases hv
      have Gs2 := fm_tq F Fs2 rfl rfl
      have ws2_28 : iI s2 28 = iI s 28 := fm_iq Fs2 rfl
      have aws2_39 : SAM 39 s s2 := sam_ts aw0_39 (sam_fm Fs2 (by decide))
      exact x_out X.1 q (fun x hx => (hXt x hx).elim) (show 1 ≤ 1 by decide) (show 6 ≤ 6 by decide) ⟨_, rfl, Is2, Gs2, Or.inr ⟨xx, rfl, ⟨by omega, by omega, by omega, aws2_39⟩⟩⟩
  obtain ⟨Is2, Fs2, (⟨hv, hps2⟩ | ⟨xx, hv, hps2⟩)⟩ := hq
  rotate_left
  · cases hv
  cases hv
  have Gs2 := fm_tq F Fs2 rfl rfl
  have ws2_28 : iI s2 28 = iI s 28 := fm_iq Fs2 rfl
  have aws2_39 : SAM 39 s s2 := sam_ts aw0_39 (sam_fm Fs2 (by decide))
  have eTs2 := hps2.2.2
  subst eTs2
  show WS k 5 [(0, .ref (A 0)), (1, .int (Int32.ofInt u))] [] (Wd A dT s) 1 6
  refine z_aload_n X (x := A 0) rfl (List.Mem.head _) (s_getR X 0 rfl (c518_ok rfl) rfl rfl (z_load_n X (x := u) rfl (List.Mem.tail _ (List.Mem.head _)) (z_callV X 46 (rm := rmN 54) (As := [.int (Int32.ofInt u)]) (st := []) rfl rfl (by decide) rfl (by rw [E.1, E.2.1, E.2.2.1]; exact c5_add2 G Is2 (by first | exact ⟨hps2.1, hps2.2.1⟩ | omega)) ⟨by rw [E.2.2.2]; exact (show (rmN 54).frames + 1 ≤ (rmN 157).frames by decide), by rw [E.2.2.2]; exact (show 8 + (mNL (miB 54) + 11) + (rmN 54).locals ≤ (rmN 157).locals by decide), by rw [E.2.2.2]; exact (show 1 + 0 ≤ 1 by decide), by rw [E.2.2.2]; exact (show 6 + 0 ≤ 6 by decide)⟩ (Nat.le_of_ble_eq_true rfl) (fun vv s4 hq => ?_) (fun ee s4 hq => ?_))))
  rotate_left
  · obtain ⟨Is4, Fs4, e5, hv, hrs4, hps4⟩ := hq; cases hv
  obtain ⟨Is4, Fs4, e5, hv, hrs4, hps4⟩ := hq
  cases hv
  have Gs4 := fm_tq Gs2 Fs4 rfl rfl
  have b6 := bi_28 Is4
  show WS k 13 [(0, .ref (A 0)), (1, .int (Int32.ofInt u))] [.int (Int32.ofInt e5)] (Wd A dT s4) 1 6
  exact w_iret X.1 q hRt rfl (ax_d X (show cdA 157 13 = some (.ireturn, 1, 0, 0, 0) from rfl)) (show 1 ≤ 1 by decide) (show 6 ≤ 6 by decide) ⟨_, rfl, Is4, Gs4, Or.inl ⟨e5, rfl, hrs4, ⟨by first | exact hps2.1 | omega, by first | exact hps2.2.1 | omega, hps4⟩⟩⟩
set_option maxRecDepth 4000 in
theorem lw_region2 (G : GX l s0 D tys a0 dT) (I : Bd s) {u : Int} (p0 : rng u) : CTL l s0 D A dT 332 (rmN 332) [.ref (A 0), .int (Int32.ofInt u), .ref (A 517)] s (fun o t => Bd t ∧ Fm [28] [39, 1460] s t ∧ ∃ e, o = .inl (some (.int (Int32.ofInt e))) ∧ rng e ∧ ((e = 1 ∧ (u < 0 ∨ 127 < u) ∧ iI t 28 = iI s 28 ∧ SAM 39 s t) ∨ (e = 0 ∧ 0 ≤ u ∧ u ≤ 127 ∧ iI s 28 = 8 ∧ iO t = -1 ∧ iI t 28 = 8 ∧ SAM 39 s t) ∨ (e = 0 ∧ 0 ≤ u ∧ u ≤ 127 ∧ iI s 28 ≤ 7 ∧ iO t = -2 ∧ iI t 28 = iI s 28 ∧ HAS 39 (iI s 28) u s ∧ SAM 39 s t) ∨ (e = 0 ∧ 0 ≤ u ∧ u ≤ 127 ∧ iI s 28 ≤ 7 ∧ iO t = iI s 28 + 1 ∧ iI t 28 = iI s 28 + 1 ∧ NHS 39 (iI s 28) u s ∧ UPD 39 (iI s 28) u s t))) := by
  refine ctL_of G (by decide) (Nat.le_of_ble_eq_true rfl) (by decide) rfl (fun k X E ET hRt hEx q => ?_)
  show WS k 0 [(0, .ref (A 0)), (1, .int (Int32.ofInt u)), (2, .ref (A 517))] [] _ 0 0
  have F : Fm [28] [39, 1460] s s := fm_rf _ _ s
  have aw0_39 : SAM 39 s s := sam_rf
  have hA := swA_rf A
  have b1 := bi_28 I
  refine z_aload_n X (x := A 517) rfl (List.Mem.tail _ (List.Mem.tail _ (List.Mem.head _))) (z_const X rfl (z_aload_n X (x := A 0) rfl (List.Mem.head _) (z_load_n X (x := u) rfl (List.Mem.tail _ (List.Mem.head _)) (z_callV X 0 (rm := rmN 157) (As := [.int (Int32.ofInt u)]) (st := [.int (Int32.ofInt 0), .ref (A 517)]) rfl rfl (by decide) rfl (by rw [E.1, E.2.1, E.2.2.1]; exact cs_region2 G I (by omega)) ⟨by rw [E.2.2.2]; exact (show (rmN 157).frames + 1 ≤ (rmN 332).frames by decide), by rw [E.2.2.2]; exact (show 8 + (mNL (miB 157) + 11) + (rmN 157).locals ≤ (rmN 332).locals by decide), by rw [E.2.2.2]; exact (show 0 + (rmN 157).cells ≤ (rmN 332).cells by decide), by rw [E.2.2.2]; exact (show 0 + (rmN 157).slots ≤ (rmN 332).slots by decide)⟩ (Nat.le_of_ble_eq_true rfl) (fun vv s2 hq => ?_) (fun ee s2 hq => ?_)))))
  rotate_left
  · obtain ⟨Is2, Fs2, (⟨e3, hv, hrs2, hps2⟩ | ⟨xx, hv, hps2⟩)⟩ := hq
    · cases hv
    · cases hv
      rcases (show xx = 2 by omega) with gx
      ·
        subst gx
        have Gs2 := fm_tq F Fs2 rfl rfl
        have b4 := bi_28 Is2
        refine (hEx 4 2).2 12 rfl _ _ _ _ _ (fun q1 => ?_)
        show WS k 12 [(0, .ref (A 0)), (1, .int (Int32.ofInt u)), (2, .ref (A 517))] [.ref q1] (Wd A dT s2) 1 6
        refine z_astore_n X (lv' := [(3, .ref q1), (0, .ref (A 0)), (1, .int (Int32.ofInt u)), (2, .ref (A 517))]) rfl (by decide) (fun _ h => h) (z_const X rfl ?_)
        exact w_iret X.1 q hRt rfl (ax_d X (show cdA 332 14 = some (.ireturn, 1, 0, 0, 0) from rfl)) (show 1 ≤ 1 by decide) (show 6 ≤ 6 by decide) ⟨A, _, hA, rfl, Is2, Gs2, 1, rfl, (by decide), Or.inl ⟨by decide, by omega, by omega, hps2.2.2.2⟩⟩
  obtain ⟨Is2, Fs2, (⟨e3, hv, hrs2, hps2⟩ | ⟨xx, hv, hps2⟩)⟩ := hq
  rotate_left
  · cases hv
  cases hv
  have Gs2 := fm_tq F Fs2 rfl rfl
  have b5 := bi_28 Is2
  show WS k 7 [(0, .ref (A 0)), (1, .int (Int32.ofInt u)), (2, .ref (A 517))] [.int (Int32.ofInt e3), .int (Int32.ofInt 0), .ref (A 517)] (Wd A dT s2) 1 6
  rcases hps2 with ⟨has2, hbs2, (hc | hc | hc)⟩
  ·
    refine w_i2l X.1 (ax_d X (show cdA 332 7 = some (.i2l, 1, 0, 0, 0) from rfl)) (z_last X 517 rfl (c518_ok rfl) rfl (by first | (clear hps2; omega) | omega) (show 0 < 1 by first | (clear hps2; omega) | omega) (cbig_ok rfl) (wd_gen (fun s6 hs6 => ?_)))
    have Is6 : Bd s6 := eqB hs6 (bd_D Is2)
    have Fs6 : Fm [28] [39, 1460] s s6 := by rw [hs6]; exact fm_D Gs2 (show 460 + 1000 ∈ _ by decide)
    have ws6_28 : iI s6 28 = iI s2 28 := eqI hs6 rfl
    have aws6_39 : SAM 39 s s6 := by rw [hs6]; exact hc.2.2.2
    have oos6 : iO s6 = e3 := by rw [hs6]; exact iO_u (by first | (clear hps2; omega) | omega)
    refine z_goto X (t := 15) rfl rfl (z_const X rfl ?_)
    exact w_iret X.1 q hRt rfl (ax_d X (show cdA 332 16 = some (.ireturn, 1, 0, 0, 0) from rfl)) (show 1 ≤ 1 by decide) (show 6 ≤ 6 by decide) ⟨A, _, hA, rfl, Is6, Fs6, 0, rfl, (by decide), Or.inr (Or.inl ⟨by decide, by first | (clear hps2; omega) | omega, by first | (clear hps2; omega) | omega, by first | (clear hps2; omega) | omega, by first | (clear hps2; omega) | omega, by first | (clear hps2; omega) | omega, aws6_39⟩)⟩
  ·
    refine w_i2l X.1 (ax_d X (show cdA 332 7 = some (.i2l, 1, 0, 0, 0) from rfl)) (z_last X 517 rfl (c518_ok rfl) rfl (by first | (clear hps2; omega) | omega) (show 0 < 1 by first | (clear hps2; omega) | omega) (cbig_ok rfl) (wd_gen (fun s7 hs7 => ?_)))
    have Is7 : Bd s7 := eqB hs7 (bd_D Is2)
    have Fs7 : Fm [28] [39, 1460] s s7 := by rw [hs7]; exact fm_D Gs2 (show 460 + 1000 ∈ _ by decide)
    have ws7_28 : iI s7 28 = iI s2 28 := eqI hs7 rfl
    have aws7_39 : SAM 39 s s7 := by rw [hs7]; exact hc.2.2.2.2
    have oos7 : iO s7 = e3 := by rw [hs7]; exact iO_u (by first | (clear hps2; omega) | omega)
    refine z_goto X (t := 15) rfl rfl (z_const X rfl ?_)
    exact w_iret X.1 q hRt rfl (ax_d X (show cdA 332 16 = some (.ireturn, 1, 0, 0, 0) from rfl)) (show 1 ≤ 1 by decide) (show 6 ≤ 6 by decide) ⟨A, _, hA, rfl, Is7, Fs7, 0, rfl, (by decide), Or.inr (Or.inr (Or.inl ⟨by decide, by first | (clear hps2; omega) | omega, by first | (clear hps2; omega) | omega, by first | (clear hps2; omega) | omega, by first | (clear hps2; omega) | omega, by first | (clear hps2; omega) | omega, hc.2.2.2.1, aws7_39⟩))⟩
  ·
    refine w_i2l X.1 (ax_d X (show cdA 332 7 = some (.i2l, 1, 0, 0, 0) from rfl)) (z_last X 517 rfl (c518_ok rfl) rfl (by first | (clear hps2; omega) | omega) (show 0 < 1 by first | (clear hps2; omega) | omega) (cbig_ok rfl) (wd_gen (fun s8 hs8 => ?_)))
    have Is8 : Bd s8 := eqB hs8 (bd_D Is2)
    have Fs8 : Fm [28] [39, 1460] s s8 := by rw [hs8]; exact fm_D Gs2 (show 460 + 1000 ∈ _ by decide)
    have ws8_28 : iI s8 28 = iI s2 28 := eqI hs8 rfl
    have aws8_39 : UPD 39 (iI s 28) u s s8 := by rw [hs8]; exact hc.2.2.2.2
    have oos8 : iO s8 = e3 := by rw [hs8]; exact iO_u (by first | (clear hps2; omega) | omega)
    refine z_goto X (t := 15) rfl rfl (z_const X rfl ?_)
    exact w_iret X.1 q hRt rfl (ax_d X (show cdA 332 16 = some (.ireturn, 1, 0, 0, 0) from rfl)) (show 1 ≤ 1 by decide) (show 6 ≤ 6 by decide) ⟨A, _, hA, rfl, Is8, Fs8, 0, rfl, (by decide), Or.inr (Or.inr (Or.inr (⟨by decide, by first | (clear hps2; omega) | omega, by first | (clear hps2; omega) | omega, by first | (clear hps2; omega) | omega, by first | (clear hps2; omega) | omega, by first | (clear hps2; omega) | omega, hc.2.2.2.1, aws8_39⟩)))⟩
set_option maxRecDepth 4000 in
theorem k_region2 (G : GX l s0 D tys a0 dT) (I : Bd s) {x : Int} (p0 : rng x) : CT l s0 D A dT 258 (rmN 258) [.ref (A 179), .int (Int32.ofInt x)] s (fun o t => Bd t ∧ Fm [73, 97] [234] s t ∧ ∃ e, o = .inl (some (.int (Int32.ofInt e))) ∧ rng e ∧ (((x < 0 ∨ 127 < x) ∧ iI t 73 = 1 ∧ iI t 97 = iI s 97 ∧ SAM 234 s t) ∨ (0 ≤ x ∧ x ≤ 127 ∧ iI t 73 = 0 ∧ iI s 97 = 8 ∧ e = -1 ∧ iI t 97 = 8 ∧ SAM 234 s t) ∨ (0 ≤ x ∧ x ≤ 127 ∧ iI t 73 = 0 ∧ iI s 97 ≤ 7 ∧ e = -2 ∧ iI t 97 = iI s 97 ∧ HAS 234 (iI s 97) x s ∧ SAM 234 s t) ∨ (0 ≤ x ∧ x ≤ 127 ∧ iI t 73 = 0 ∧ iI s 97 ≤ 7 ∧ e = iI s 97 + 1 ∧ iI t 97 = iI s 97 + 1 ∧ NHS 234 (iI s 97) x s ∧ UPD 234 (iI s 97) x s t))) := by
  refine ct_of G (by decide) (Nat.le_of_ble_eq_true rfl) (fun k X E hRt hXt q => ?_)
  show WS k 0 [(0, .ref (A 179)), (1, .int (Int32.ofInt x))] [] _ 0 0
  have F : Fm [73, 97] [234] s s := fm_rf _ _ s
  have aw0_234 : SAM 234 s s := sam_rf
  have b1 := bi_73 I
  have b2 := bi_97 I
  have L43 : ∀ (n : Nat) (t : PS) (x1 c : Int), Bd t → Fm [73, 97] [234] s t → (SAM 234 s t ∧ NHS 234 c x1 s) → (x1 = x ∧ (0 ≤ x1 ∧ x1 ≤ 127) ∧ 0 ≤ c ∧ c ≤ 8 ∧ iI t 97 ≤ 7 ∧ iI t 97 = iI s 97 ∧ iI t 73 = 0) → (8 - c : Int).toNat < n → (∀ (t' : PS) (c' : Int), Bd t' → Fm [73, 97] [234] s t' → (SAM 234 s t' ∧ NHS 234 c' x1 s) → (x1 = x ∧ (0 ≤ x1 ∧ x1 ≤ 127) ∧ 0 ≤ c' ∧ c' ≤ 8 ∧ iI t' 97 ≤ 7 ∧ iI t' 97 = iI s 97 ∧ iI t' 73 = 0 ∧ iI t' 97 ≤ c') → WS k 70 [(0, .ref (A 179)), (1, .int (Int32.ofInt x1)), (2, .int (Int32.ofInt c'))] [] (Wd A dT t') 0 0) → WS k 43 [(0, .ref (A 179)), (1, .int (Int32.ofInt x1)), (2, .int (Int32.ofInt c))] [] (Wd A dT t) 0 0 := by
    intro n
    induction n with
    | zero =>
      intro t x1 c I F hq hi hm kx
      exact absurd hm (Nat.not_lt_zero _)
    | succ n ih =>
      intro t x1 c I F hq hi hm kx
      have b1001 := bi_73 I
      have b1002 := bi_97 I
      refine z_load_n X (x := c) rfl (List.Mem.tail _ (List.Mem.tail _ (List.Mem.head _))) (z_aload_n X (x := A 179) rfl (List.Mem.head _) (z_getI X 179 rfl (c518_ok rfl) rfl rfl ?_))
      have b1003 := bi_97 I
      refine z_icmp_ge X (t := 70) rfl rfl ⟨by first | exact oq_fa4e5087 hi.2.2.1 | omega, by first | exact oq_d3f5d874 hi.2.2.2.1 | omega⟩ (rng_to _) (fun g1004 => ?_) (fun g1004 => ?_)
      ·
        refine WS_pq [0, 1, 2] (lv' := [(0, .ref (A 179)), (1, .int (Int32.ofInt x1)), (2, .int (Int32.ofInt c))]) rfl ?_
        exact kx _ c I F ⟨hq.1, hq.2⟩ (by first | exact ⟨hi.1, And.intro (hi.2.1.1) (hi.2.1.2), hi.2.2.1, hi.2.2.2.1, hi.2.2.2.2.1, hi.2.2.2.2.2.1, hi.2.2.2.2.2.2, g1004⟩ | omega)
      ·
        refine z_aload_n X (x := A 179) rfl (List.Mem.head _) (s_getR X 179 rfl (c518_ok rfl) rfl rfl (z_load_n X (x := c) rfl (List.Mem.tail _ (List.Mem.tail _ (List.Mem.head _))) (z_ald X 262 rfl (c518_ok rfl) rfl (by first | exact hi.2.2.1 | omega) (show c < 8 by first | exact oq_7f5b2e79 g1004 b1003.2 | omega) (cbig_ok rfl) ?_)))
        have b1005 := bc_234 I (show (c).toNat < 8 by first | exact oq_67be0351 g1004 b1003.2 | omega)
        have ar1006 : iC t 234 (c).toNat = iC s 234 (c).toNat := hq.1 _
        refine z_load_n X (x := x1) rfl (List.Mem.tail _ (List.Mem.head _)) (z_icmp_ne X (t := 64) rfl rfl (rng_to _) ⟨by first | exact oq_fa4e5087 hi.2.1.1 | omega, by first | exact oq_07d346ce hi.2.1.2 | omega⟩ (fun g1007 => ?_) (fun g1007 => ?_))
        ·
          refine z_inc X (x := c) (lv' := [(2, .int (Int32.ofInt (c + 1))), (0, .ref (A 179)), (1, .int (Int32.ofInt x1))]) rfl (by decide) (List.Mem.tail _ (List.Mem.tail _ (List.Mem.head _))) (fun _ h => h) (z_goto X (t := 43) rfl rfl (WS_pq [1, 2, 0] (lv' := [(0, .ref (A 179)), (1, .int (Int32.ofInt x1)), (2, .int (Int32.ofInt (c + 1)))]) rfl ?_))
          exact ih _ x1 (c + 1) I F ⟨hq.1, nhs_up hq.2 (by first | (clear g1007; omega) | omega) (by first | (clear g1007; omega) | omega)⟩ (by first | exact ⟨hi.1, And.intro (hi.2.1.1) (hi.2.1.2), oq_54f49eb5 hi.2.2.1, oq_f6204d84 g1004 b1003.2, hi.2.2.2.2.1, hi.2.2.2.2.2.1, hi.2.2.2.2.2.2⟩ | omega) (by first | exact qk_me hm (by decide) (oq_ccc5e5e0 g1004 b1003.2) | omega) kx
        ·
          refine z_bipush X rfl ?_
          exact w_iret X.1 q hRt rfl (ax_d X (show cdA 258 63 = some (.ireturn, 1, 0, 0, 0) from rfl)) (Nat.zero_le _) (Nat.zero_le _) ⟨_, rfl, I, F, (-2), rfl, (by decide), Or.inr (Or.inr (Or.inl ⟨by first | exact oq_151a919a hi.1 hi.2.1.1 | omega, by first | exact oq_b97c161b hi.1 hi.2.1.2 | omega, by first | exact hi.2.2.2.2.2.2 | omega, by first | exact oq_5f8273e9 hi.2.2.2.2.2.1 hi.2.2.2.2.1 | omega, by decide, by first | exact hi.2.2.2.2.2.1 | omega, hs_of c (by omega) (by omega) (by omega), hq.1⟩))⟩
  refine z_aload_n X (x := A 179) rfl (List.Mem.head _) (z_const X rfl (s_putI X 179 rfl (c518_ok rfl) rfl rfl (by decide) rfl rfl rfl (wd_gen (fun s3 hs3 => ?_))))
  have Is3 : Bd s3 := eqB hs3 (bd_I I (show (0 : Int) ≤ 0 ∧ 0 ≤ 3 by first | exact ⟨by decide, by decide⟩ | omega) (by decide))
  have Fs3 := eqF hs3 (fm_I F (inl_ok (a := 73) rfl))
  have vs3 : iI s3 73 = 0 := eqI hs3 (iI_u (by decide))
  have ws3_97 : iI s3 97 = iI s 97 := eqI hs3 rfl
  have aws3_234 : SAM 234 s s3 := by rw [hs3]; exact aw0_234
  refine z_aload_n X (x := A 179) rfl (List.Mem.head _) (z_load_n X (x := x) rfl (List.Mem.tail _ (List.Mem.head _)) (z_const X rfl (z_bipush X rfl (z_callS X (rm := rmN 188) (As := [.int (Int32.ofInt x), .int (Int32.ofInt 0), .int (Int32.ofInt 127)]) (st := [.ref (A 179)]) rfl rfl (by rw [E.1, E.2.1, E.2.2.1]; exact k_in2 G Is3 (by first | exact ⟨p0.1, p0.2⟩ | omega) (by first | exact ⟨by decide, by decide⟩ | omega) (by first | exact ⟨by decide, by decide⟩ | omega)) ⟨by rw [E.2.2.2]; exact (show (rmN 188).frames + 1 ≤ (rmN 258).frames by decide), by rw [E.2.2.2]; exact (show 8 + (mNL (miB 188) + 11) + (rmN 188).locals ≤ (rmN 258).locals by decide), by rw [E.2.2.2]; exact (show 0 + (rmN 188).cells ≤ (rmN 258).cells by decide), by rw [E.2.2.2]; exact (show 0 + (rmN 188).slots ≤ (rmN 258).slots by decide)⟩ (Nat.le_of_ble_eq_true rfl) (fun vv s4 hq => ?_) (fun ee s4 hq => ?_)))))
  rotate_left
  · obtain ⟨rfl, e5, hv, hrs4, hps4⟩ := hq; cases hv
  obtain ⟨rfl, e5, hv, hrs4, hps4⟩ := hq
  cases hv
  show WS k 13 [(0, .ref (A 179)), (1, .int (Int32.ofInt x))] [.int (Int32.ofInt e5), .ref (A 179)] (Wd A dT s3) 0 0
  have N6 : ∀ e7 : Int, (((e5 ≠ 0) ∧ e7 = 0) ∨ ((e5 = 0) ∧ e7 = 1)) → WS k 21 [(0, .ref (A 179)), (1, .int (Int32.ofInt x))] [.int (Int32.ofInt e7), .ref (A 179)] (Wd A dT s3) 0 0 := by
    intro e7 he7
    have re7 : 0 ≤ e7 ∧ e7 ≤ 1 := by first | (clear he7 hps4; omega) | (clear hps4; omega) | omega
    refine z_const X rfl (zcV_i0 X E 179 (As := [.int (Int32.ofInt e7), .int (Int32.ofInt 1)]) (st := []) rfl rfl rfl rfl (k_bad2 G Is3 (by first | exact oq_31e518ae re7.2 re7.1 | omega) (by first | exact ⟨by decide, by decide⟩ | omega)) rfl (Nat.le_of_ble_eq_true rfl) (fun s8 e9 Is8 Fs8 hrs8 hps8 => ?_))
    have Gs8 := fm_tq Fs3 Fs8 rfl rfl
    have b10 := bi_73 Is8
    have ws8_97 : iI s8 97 = iI s3 97 := fm_iq Fs8 rfl
    have aws8_234 : SAM 234 s s8 := sam_ts aws3_234 (sam_fm Fs8 (by decide))
    refine z_if_eq X (t := 30) rfl rfl hrs8 (fun g11 => ?_) (fun g11 => ?_)
    ·
      refine z_aload_n X (x := A 179) rfl (List.Mem.head _) (z_getI X 179 rfl (c518_ok rfl) rfl rfl ?_)
      have b12 := bi_97 Is8
      refine z_bipush X rfl (z_icmp_ne X (t := 41) rfl rfl (rng_to _) (by decide) (fun g13 => ?_) (fun g13 => ?_))
      ·
        refine z_const X rfl (z_store_n X (lv' := [(2, .int (Int32.ofInt 0)), (0, .ref (A 179)), (1, .int (Int32.ofInt x))]) rfl (by decide) (fun _ h => h) (WS_pq [1, 2, 0] (lv' := [(0, .ref (A 179)), (1, .int (Int32.ofInt x)), (2, .int (Int32.ofInt 0))]) rfl (L43 ((8 - 0 : Int).toNat + 1) s8 x 0 Is8 Gs8 ⟨aws8_234, nhs_0⟩ (by first | exact ⟨by decide, oq_29af1651 g11 hps8 he7 hps4 vs3, by decide, by decide, oq_5dae24e3 g13 b12.2, oq_27118732 ws3_97 ws8_97, oq_9f99e80f g11 b10.1 hps8 vs3⟩ | omega) (Nat.lt_succ_self _) ?_)))
        intro s14 x15 Is14 Fs14 Qs14 hs14
        have b16 := bi_73 Is14
        have b17 := bi_97 Is14
        refine z_aload_n X (x := A 179) rfl (List.Mem.head _) (s_getR X 179 rfl (c518_ok rfl) rfl rfl (z_aload_n X (x := A 179) rfl (List.Mem.head _) (z_getI X 179 rfl (c518_ok rfl) rfl rfl ?_)))
        have b18 := bi_97 Is14
        refine z_load_n X (x := x) rfl (List.Mem.tail _ (List.Mem.head _)) (z_ast X 262 rfl (c518_ok rfl) rfl (by first | exact b18.1 | omega) (show (iI s14 97) < 8 by first | exact oq_aaea290e hs14.2.2.2.2.1 | omega) (cbig_ok rfl) (wd_gen (fun s19 hs19 => ?_)))
        have Is19 : Bd s19 := eqB hs19 (bd_C Is14 (show (0 : Int) ≤ x ∧ x ≤ 127 by first | exact ⟨hs14.2.1.1, hs14.2.1.2⟩ | omega) ⟨by first | exact p0.1 | omega, by first | exact p0.2 | omega⟩)
        have Fs19 := eqF hs19 (fm_C Fs14 (inl_ok (a := 234) rfl))
        have ws19_73 : iI s19 73 = iI s14 73 := eqI hs19 rfl
        have ws19_97 : iI s19 97 = iI s14 97 := eqI hs19 rfl
        have aws19_234 : UPD 234 ((iI s14 97)) x s s19 := by rw [hs19]; exact upd_put Qs14.1 ⟨by first | exact p0.1 | omega, by first | exact p0.2 | omega⟩
        refine z_aload_n X (x := A 179) rfl (List.Mem.head _) (w_dup X.1 (ax_d X (show cdA 258 81 = some (.dup, 1, 0, 0, 0) from rfl)) rfl (z_getI X 179 rfl (c518_ok rfl) rfl rfl ?_))
        have b20 := bi_97 Is19
        refine z_const X rfl (z_add X rfl (s_putI X 179 rfl (c518_ok rfl) rfl rfl (by decide) rfl rfl rfl (wd_gen (fun s21 hs21 => ?_))))
        have Is21 : Bd s21 := eqB hs21 (bd_I Is19 (show (0 : Int) ≤ ((iI s19 97) + 1) ∧ ((iI s19 97) + 1) ≤ 8 by first | exact ⟨oq_54f49eb5 b20.1, oq_216077ba ws19_97 hs14.2.2.2.2.1⟩ | omega) ⟨by first | exact oq_74de1e16 b20.1 | omega, by first | exact oq_3762dfb5 b20.2 | omega⟩)
        have Fs21 := eqF hs21 (fm_I Fs19 (inl_ok (a := 97) rfl))
        have vs21 : iI s21 97 = ((iI s19 97) + 1) := eqI hs21 (iI_u ⟨by first | exact oq_74de1e16 b20.1 | omega, by first | exact oq_3762dfb5 b20.2 | omega⟩)
        have ws21_73 : iI s21 73 = iI s19 73 := eqI hs21 rfl
        have aws21_234 : UPD 234 ((iI s14 97)) x s s21 := by rw [hs21]; exact aws19_234
        refine z_aload_n X (x := A 179) rfl (List.Mem.head _) (z_getI X 179 rfl (c518_ok rfl) rfl rfl ?_)
        have b22 := bi_97 Is21
        exact w_iret X.1 q hRt rfl (ax_d X (show cdA 258 94 = some (.ireturn, 1, 0, 0, 0) from rfl)) (Nat.zero_le _) (Nat.zero_le _) ⟨_, rfl, Is21, Fs21, (iI s21 97), rfl, (rng_to _), Or.inr (Or.inr (Or.inr (⟨by first | exact hs14.2.1.1 | omega, by first | exact hs14.2.1.2 | omega, by first | exact oq_7fe879e0 ws21_73 ws19_73 hs14.2.2.2.2.2.2.1 b16.1 | omega, by first | exact oq_5f8273e9 hs14.2.2.2.2.2.1 hs14.2.2.2.2.1 | omega, by first | exact oq_869f4f0c vs21 hs14.2.2.2.2.2.1 ws19_97 | omega, by first | exact oq_869f4f0c vs21 hs14.2.2.2.2.2.1 ws19_97 | omega, nhs_le (Qs14.2) (by first | (clear g13 hps8 he7 hps4; omega) | (clear hps8 he7 hps4; omega) | omega), upd_ix aws21_234 (by first | (clear g13 hps8 he7 hps4; omega) | (clear hps8 he7 hps4; omega) | omega)⟩)))⟩
      ·
        refine z_const X rfl ?_
        exact w_iret X.1 q hRt rfl (ax_d X (show cdA 258 40 = some (.ireturn, 1, 0, 0, 0) from rfl)) (Nat.zero_le _) (Nat.zero_le _) ⟨_, rfl, Is8, Gs8, (-1), rfl, (by decide), Or.inr (Or.inl ⟨by first | exact oq_c0af69ba g11 hps8 he7 hps4 vs3 | omega, by first | exact oq_6404d05d g11 hps8 he7 hps4 vs3 | omega, by first | exact oq_9f99e80f g11 b10.1 hps8 vs3 | omega, by first | exact oq_4c3c6c9d b2.2 ws3_97 ws8_97 g13 | omega, by decide, by first | exact g13 | omega, aws8_234⟩)⟩
    ·
      refine z_const X rfl ?_
      exact w_iret X.1 q hRt rfl (ax_d X (show cdA 258 29 = some (.ireturn, 1, 0, 0, 0) from rfl)) (Nat.zero_le _) (Nat.zero_le _) ⟨_, rfl, Is8, Gs8, 0, rfl, (by decide), Or.inl ⟨by first | exact oq_2d4c9f41 g11 hps8 he7 hps4 vs3 | omega, by first | exact oq_58a3c280 g11 hps8 vs3 | omega, by first | exact oq_1aa5be9e ws8_97 ws3_97 | omega, aws8_234⟩⟩
  refine z_if_ne X (t := 20) rfl rfl hrs4 (fun g23 => ?_) (fun g23 => ?_)
  ·
    exact z_const X rfl (N6 _ (Or.inl ⟨g23, rfl⟩))
  ·
    exact z_const X rfl (z_goto X (t := 21) rfl rfl (N6 _ (Or.inr (⟨g23, rfl⟩))))
set_option maxRecDepth 4000 in
theorem k_clear2 (G : GX l s0 D tys a0 dT) (I : Bd s)  : CT l s0 D A dT 259 (rmN 259) [.ref (A 179)] s (fun o t => Bd t ∧ Fm [73, 97] [] s t ∧ ∃ e, o = .inl (some (.int (Int32.ofInt e))) ∧ rng e ∧ (e = iI s 97 ∧ iI t 97 = 0)) := by
  refine ct_of G (by decide) (Nat.le_of_ble_eq_true rfl) (fun k X E hRt hXt q => ?_)
  show WS k 0 [(0, .ref (A 179))] [] _ 0 0
  have F : Fm [73, 97] [] s s := fm_rf _ _ s
  have b1 := bi_73 I
  have b2 := bi_97 I
  refine z_aload_n X (x := A 179) rfl (List.Mem.head _) (z_const X rfl (s_putI X 179 rfl (c518_ok rfl) rfl rfl (by decide) rfl rfl rfl (wd_gen (fun s3 hs3 => ?_))))
  have Is3 : Bd s3 := eqB hs3 (bd_I I (show (0 : Int) ≤ 0 ∧ 0 ≤ 3 by first | exact ⟨by decide, by decide⟩ | omega) (by decide))
  have Fs3 := eqF hs3 (fm_I F (inl_ok (a := 73) rfl))
  have vs3 : iI s3 73 = 0 := eqI hs3 (iI_u (by decide))
  have ws3_97 : iI s3 97 = iI s 97 := eqI hs3 rfl
  refine z_aload_n X (x := A 179) rfl (List.Mem.head _) (z_getI X 179 rfl (c518_ok rfl) rfl rfl ?_)
  have b4 := bi_97 Is3
  refine z_store_n X (lv' := [(1, .int (Int32.ofInt (iI s3 97))), (0, .ref (A 179))]) rfl (by decide) (fun _ h => h) (z_aload_n X (x := A 179) rfl (List.Mem.tail _ (List.Mem.head _)) (z_const X rfl (s_putI X 179 rfl (c518_ok rfl) rfl rfl (by decide) rfl rfl rfl (wd_gen (fun s5 hs5 => ?_)))))
  have Is5 : Bd s5 := eqB hs5 (bd_I Is3 (show (0 : Int) ≤ 0 ∧ 0 ≤ 8 by first | exact ⟨by decide, by decide⟩ | omega) (by decide))
  have Fs5 := eqF hs5 (fm_I Fs3 (inl_ok (a := 97) rfl))
  have vs5 : iI s5 97 = 0 := eqI hs5 (iI_u (by decide))
  have ws5_73 : iI s5 73 = iI s3 73 := eqI hs5 rfl
  refine z_load_n X (x := (iI s3 97)) rfl (List.Mem.head _) ?_
  exact w_iret X.1 q hRt rfl (ax_d X (show cdA 259 16 = some (.ireturn, 1, 0, 0, 0) from rfl)) (Nat.zero_le _) (Nat.zero_le _) ⟨_, rfl, Is5, Fs5, (iI s3 97), rfl, (rng_to _), by first | exact ⟨ws3_97, vs5⟩ | omega⟩
set_option maxRecDepth 4000 in
theorem cs_clear2 (G : GX l s0 D tys a0 dT) (I : Bd s)  : CT l s0 D A dT 159 (rmN 159) [.ref (A 0)] s (fun o t => Bd t ∧ Fm [28] [] s t ∧ ∃ e, o = .inl (some (.int (Int32.ofInt e))) ∧ rng e ∧ (e = iI s 28 ∧ iI t 28 = 0)) := by
  refine ct_ofX G (by decide) (Nat.le_of_ble_eq_true rfl) (fun k X E ET hRt hXt q => ?_)
  show WS k 0 [(0, .ref (A 0))] [] _ 0 0
  have F : Fm [28] [] s s := fm_rf _ _ s
  have b1 := bi_28 I
  refine z_aload_n X (x := A 0) rfl (List.Mem.head _) (s_getR X 0 rfl (c518_ok rfl) rfl rfl (z_getI X 46 rfl (c518_ok rfl) rfl rfl ?_))
  have b2 := bi_28 I
  refine z_store_n X (lv' := [(1, .int (Int32.ofInt (iI s 28))), (0, .ref (A 0))]) rfl (by decide) (fun _ h => h) (z_aload_n X (x := A 0) rfl (List.Mem.tail _ (List.Mem.head _)) (s_getR X 0 rfl (c518_ok rfl) rfl rfl (z_const X rfl (s_putI X 46 rfl (c518_ok rfl) rfl rfl (by decide) rfl rfl rfl (wd_gen (fun s3 hs3 => ?_))))))
  have Is3 : Bd s3 := eqB hs3 (bd_I I (show (0 : Int) ≤ 0 ∧ 0 ≤ 8 by first | exact ⟨by decide, by decide⟩ | omega) (by decide))
  have Fs3 := eqF hs3 (fm_I F (inl_ok (a := 28) rfl))
  have vs3 : iI s3 28 = 0 := eqI hs3 (iI_u (by decide))
  refine z_load_n X (x := (iI s 28)) rfl (List.Mem.head _) ?_
  exact w_iret X.1 q hRt rfl (ax_d X (show cdA 159 17 = some (.ireturn, 1, 0, 0, 0) from rfl)) (Nat.zero_le _) (Nat.zero_le _) ⟨_, rfl, Is3, Fs3, (iI s 28), rfl, (rng_to _), by first | exact ⟨by decide, vs3⟩ | omega⟩
set_option maxRecDepth 4000 in
theorem k_thrown2 (G : GX l s0 D tys a0 dT) (I : Bd s)  : CT l s0 D A dT 186 (rmN 186) [.ref (A 179)] s (fun o t => s = t ∧ ∃ e, o = .inl (some (.int (Int32.ofInt e))) ∧ rng e ∧ (e = iI s 73)) := by
  refine ct_of G (by decide) (Nat.le_of_ble_eq_true rfl) (fun k X E hRt hXt q => ?_)
  show WS k 0 [(0, .ref (A 179))] [] _ 0 0
  have F : Fm [] [] s s := fm_rf _ _ s
  refine z_aload_n X (x := A 179) rfl (List.Mem.head _) (z_getI X 179 rfl (c518_ok rfl) rfl rfl ?_)
  have b1 := bi_73 I
  exact w_iret X.1 q hRt rfl (ax_d X (show cdA 186 4 = some (.ireturn, 1, 0, 0, 0) from rfl)) (Nat.zero_le _) (Nat.zero_le _) ⟨_, rfl, rfl, (iI s 73), rfl, (rng_to _), by omega⟩
end M87b
