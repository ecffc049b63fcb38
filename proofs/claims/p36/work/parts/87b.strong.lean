theorem oq_0fa7b120 {a0 a1 a2 a3 : Int} (h0 : a0 ≤ 1) (h1 : 0 ≤ a0) (h2 : ((a1 = 0 ∧ a0 = 0) ∨ (a1 ≠ 0 ∧ a0 = 1))) (h3 : 0 ≤ a1) (h4 : a2 = 0) : ((a2 = 1 ∧ (a1 = 0 ∧ (a1 = a3 ∧ a0 = 1))) ∨ ((a2 = 0 ∨ a1 ≠ 0) ∧ (a1 = a1 ∧ ((a0 = 0 ∧ a1 = 0) ∨ (a0 = 1 ∧ a1 ≠ 0))))) := by omega
theorem oq_7136ffd4 {a0 a1 a2 a3 : Int} (h0 : a0 ≤ 1) (h1 : ((a1 = 0 ∧ a0 = 0) ∨ (a1 ≠ 0 ∧ a0 = 1))) (h2 : 0 ≤ a1) (h3 : a1 ≠ 0) : ((a2 = 1 ∧ (a1 = 0 ∧ (a1 = a3 ∧ a0 = 1))) ∨ ((a2 = 0 ∨ a1 ≠ 0) ∧ (a1 = a1 ∧ ((a0 = 0 ∧ a1 = 0) ∨ (a0 = 1 ∧ a1 ≠ 0))))) := by omega
theorem oq_add61c1a {a0 a1 a2 a3 a4 : Int} (h0 : a0 ≤ 1) (h1 : ((a1 = 0 ∧ a0 = 0) ∨ (a1 ≠ 0 ∧ a0 = 1))) (h2 : a1 = a2) (h3 : a3 = 0) (h4 : a4 ≠ 0) (h5 : 1 ≤ a2) (h6 : (a4 = 0 ∨ a4 = 1)) : ((a4 = 1 ∧ (a3 = 0 ∧ (a1 = a2 ∧ a0 = 1))) ∨ ((a4 = 0 ∨ a3 ≠ 0) ∧ (a1 = a3 ∧ ((a0 = 0 ∧ a3 = 0) ∨ (a0 = 1 ∧ a3 ≠ 0))))) := by omega
theorem oq_8ca45d8a {a0 a1 : Int} (h0 : a0 = a1) (h1 : (a1 = 0 ∨ a1 = 1)) : (a0 = 0 ∨ a0 = 1) := by omega
theorem oq_c0af69ba {a0 a1 a2 a3 a4 a5 : Int} (h0 : a0 = 0) (h1 : ((a1 = 1 ∧ (a2 = 0 ∧ (a3 = 1 ∧ a0 = 1))) ∨ ((a1 = 0 ∨ a2 ≠ 0) ∧ (a3 = a2 ∧ ((a0 = 0 ∧ a2 = 0) ∨ (a0 = 1 ∧ a2 ≠ 0)))))) (h2 : ((a4 ≠ 0 ∧ a1 = 0) ∨ (a4 = 0 ∧ a1 = 1))) (h3 : ((a4 = 1 ∧ (0 ≤ a5 ∧ a5 ≤ 127)) ∨ (a4 = 0 ∧ (a5 < 0 ∨ 127 < a5)))) (h4 : a2 = 0) : 0 ≤ a5 := by omega
theorem oq_34756d52 {a0 a1 a2 a3 a4 a5 : Int} (h0 : a0 = 0) (h1 : ((a1 = 1 ∧ (a2 = 0 ∧ (a3 = 1 ∧ a0 = 1))) ∨ ((a1 = 0 ∨ a2 ≠ 0) ∧ (a3 = a2 ∧ ((a0 = 0 ∧ a2 = 0) ∨ (a0 = 1 ∧ a2 ≠ 0)))))) (h2 : ((a4 ≠ 0 ∧ a1 = 0) ∨ (a4 = 0 ∧ a1 = 1))) (h3 : ((a4 = 1 ∧ (0 ≤ a5 ∧ a5 ≤ 127)) ∨ (a4 = 0 ∧ (a5 < 0 ∨ 127 < a5)))) (h4 : a2 = 0) : a5 < 128 := by omega
theorem oq_a3e036ca {a0 a1 a2 a3 a4 a5 : Int} (h0 : a0 = 0) (h1 : ((a1 = 1 ∧ (a2 = 0 ∧ (a3 = 1 ∧ a0 = 1))) ∨ ((a1 = 0 ∨ a2 ≠ 0) ∧ (a3 = a2 ∧ ((a0 = 0 ∧ a2 = 0) ∨ (a0 = 1 ∧ a2 ≠ 0)))))) (h2 : ((a4 ≠ 0 ∧ a1 = 0) ∨ (a4 = 0 ∧ a1 = 1))) (h3 : ((a4 = 1 ∧ (0 ≤ a5 ∧ a5 ≤ 127)) ∨ (a4 = 0 ∧ (a5 < 0 ∨ 127 < a5)))) (h4 : a2 = 0) : (a5 : Int).toNat < 128 := by omega
theorem oq_6404d05d {a0 a1 a2 a3 a4 a5 : Int} (h0 : a0 = 0) (h1 : ((a1 = 1 ∧ (a2 = 0 ∧ (a3 = 1 ∧ a0 = 1))) ∨ ((a1 = 0 ∨ a2 ≠ 0) ∧ (a3 = a2 ∧ ((a0 = 0 ∧ a2 = 0) ∨ (a0 = 1 ∧ a2 ≠ 0)))))) (h2 : ((a4 ≠ 0 ∧ a1 = 0) ∨ (a4 = 0 ∧ a1 = 1))) (h3 : ((a4 = 1 ∧ (0 ≤ a5 ∧ a5 ≤ 127)) ∨ (a4 = 0 ∧ (a5 < 0 ∨ 127 < a5)))) (h4 : a2 = 0) : a5 ≤ 127 := by omega
theorem oq_36baa0f5 {a0 a1 a2 a3 a4 : Int} (h0 : a0 = a1) (h1 : a2 = 0) (h2 : 0 ≤ a1) (h3 : ((a3 = 1 ∧ (a4 = 0 ∧ (a1 = 1 ∧ a2 = 1))) ∨ ((a3 = 0 ∨ a4 ≠ 0) ∧ (a1 = a4 ∧ ((a2 = 0 ∧ a4 = 0) ∨ (a2 = 1 ∧ a4 ≠ 0)))))) (h4 : a4 = 0) : a0 = 0 := by omega
theorem oq_2d4c9f41 {a0 a1 a2 a3 a4 a5 : Int} (h0 : a0 ≠ 0) (h1 : ((a1 = 1 ∧ (a2 = 0 ∧ (a3 = 1 ∧ a0 = 1))) ∨ ((a1 = 0 ∨ a2 ≠ 0) ∧ (a3 = a2 ∧ ((a0 = 0 ∧ a2 = 0) ∨ (a0 = 1 ∧ a2 ≠ 0)))))) (h2 : ((a4 ≠ 0 ∧ a1 = 0) ∨ (a4 = 0 ∧ a1 = 1))) (h3 : ((a4 = 1 ∧ (0 ≤ a5 ∧ a5 ≤ 127)) ∨ (a4 = 0 ∧ (a5 < 0 ∨ 127 < a5)))) (h4 : a2 = 0) : (a5 < 0 ∨ 127 < a5) := by omega
theorem oq_58a3c280 {a0 a1 a2 a3 : Int} (h0 : a0 ≠ 0) (h1 : ((a1 = 1 ∧ (a2 = 0 ∧ (a3 = 1 ∧ a0 = 1))) ∨ ((a1 = 0 ∨ a2 ≠ 0) ∧ (a3 = a2 ∧ ((a0 = 0 ∧ a2 = 0) ∨ (a0 = 1 ∧ a2 ≠ 0)))))) (h2 : a2 = 0) : a3 = 1 := by omega
/-! Contracts that say what is answered -/
/-- the law's long -/
def iO (t : PS) : Int := (gD t 460 0).toInt
theorem iO_u {s : PS} {e : Int} (h : rng e) : iO (uD s 460 (0 : Int).toNat (Int32.ofInt e).toInt64) = e := by
  show ((if 460 = 460 then vp_updL (s.2.2.2.1 460) (0 : Int).toNat (Int32.ofInt e).toInt64 else s.2.2.2.1 460) 0).toInt = e
  rw [if_pos rfl]
  show ((if 0 = (0 : Int).toNat then (Int32.ofInt e).toInt64 else s.2.2.2.1 460 0)).toInt = e
  rw [if_pos (by decide), Int32.toInt_toInt64, zi h]
theorem fm_o {L M : List Nat} {s t : PS} (F : Fm L M s t) (h : 460 + 1000 ∉ M) : iO t = iO s := congrArg Int64.toInt (fm_dd F h)
/-- an array's cells are as they were; but for one -/
def SAM (a : Nat) (s t : PS) : Prop := ∀ j, iC t a j = iC s a j
def UPD (a : Nat) (i x : Int) (s t : PS) : Prop := iC t a i.toNat = x ∧ ∀ j, j ≠ i.toNat → iC t a j = iC s a j
theorem sam_rf {a : Nat} {s : PS} : SAM a s s := fun _ => rfl
theorem sam_fm {L M : List Nat} {a : Nat} {s t : PS} (F : Fm L M s t) (h : a ∉ M) : SAM a s t := fun _ => fm_c F h
theorem sam_ts {a : Nat} {s t u : PS} (h : SAM a s t) (g : SAM a t u) : SAM a s u := fun j => (g j).trans (h j)
theorem upd_put {a : Nat} {i x : Int} {s t : PS} (h : SAM a s t) (hx : rng x) : UPD a i x s (uC t a i.toNat (Int32.ofInt x)) := ⟨iC_u hx, fun j hj => (iC_n hj).trans (h j)⟩
theorem ts_bit {w : Int64} {s : UInt64} {j : Nat} (hj : j < 64) (hs : s.toNat = j) : ((w.toUInt64 >>> s).toInt64 &&& 1) = 0 ↔ w.toBitVec.getLsbD j = false := by
  have e : (w.toUInt64 >>> s).toInt64.toBitVec = w.toBitVec >>> j := by
    apply BitVec.eq_of_toNat_eq
    show (w.toUInt64 >>> s).toNat = _
    rw [UInt64.toNat_shiftRight, hs, Nat.mod_eq_of_lt hj, BitVec.toNat_ushiftRight]
    rfl
  rw [← Int64.toBitVec_inj, Int64.toBitVec_and, e]
  show w.toBitVec >>> j &&& 1#64 = 0#64 ↔ _
  constructor
  · intro h
    have t := congrArg (fun x => x.getLsbD 0) h
    simpa using t
  · intro h
    apply BitVec.eq_of_getLsbD_eq
    intro i hi
    cases i with
    | zero => simp [h]
    | succ i => simp
theorem wb_cu : ∀ k, k < 64 → ((nI k).toInt64.toUInt64 &&& Int64.toUInt64 63).toNat = k := by decide +kernel
theorem jm_1 : ∀ n, n < 64 → ((1 : Int64) <<< ((nI n).toInt64 &&& 63)).toBitVec = BitVec.twoPow 64 n := by decide +kernel
def jushr (x : Int64) (c : Int) : Int64 := (x.toUInt64 >>> ((Int32.ofInt c).toInt64.toUInt64 &&& Int64.toUInt64 63)).toInt64
def jshl (x : Int64) (c : Int) : Int64 := x <<< ((Int32.ofInt c).toInt64 &&& 63)
/-- bit i of a long -/
def bJ (x : Int64) (i : Nat) : Prop := x.toBitVec.getLsbD i = true
theorem jb_0 {x : Int64} {c : Int} (h : 0 ≤ c ∧ c < 64) : (jushr x c &&& 1) = 0 ↔ ¬ bJ x c.toNat := by
  have e : ((Int32.ofInt c).toInt64.toUInt64 &&& Int64.toUInt64 63).toNat = c.toNat := by rw [on_of h.1]; exact wb_cu c.toNat (by omega)
  have := ts_bit (w := x) (j := c.toNat) (by omega) e
  unfold jushr bJ
  rw [this]
  cases x.toBitVec.getLsbD c.toNat <;> decide
theorem jb_x {x : Int64} {c : Int} {i : Nat} (h : 0 ≤ c ∧ c < 64) (hi : i < 64) : bJ (x ^^^ jshl 1 c) i ↔ (if i = c.toNat then ¬ bJ x i else bJ x i) := by
  have e : (jshl 1 c).toBitVec = BitVec.twoPow 64 c.toNat := by unfold jshl; rw [on_of h.1]; exact jm_1 c.toNat (by omega)
  unfold bJ
  rw [Int64.toBitVec_xor, BitVec.getLsbD_xor, e, BitVec.getLsbD_twoPow]
  have h1 : decide (c.toNat < 64) = true := decide_eq_true (by omega)
  rw [h1]
  by_cases q : i = c.toNat
  · rw [if_pos q, decide_eq_true q.symm]; cases x.toBitVec.getLsbD i <;> decide
  · rw [if_neg q, decide_eq_false (fun z => q z.symm)]; cases x.toBitVec.getLsbD i <;> decide
theorem jb_n {x : Int64} {i : Nat} : bJ (x ^^^ 0) i ↔ bJ x i := by
  unfold bJ
  rw [Int64.toBitVec_xor, BitVec.getLsbD_xor]
  show ((x.toBitVec.getLsbD i ^^ (0#64).getLsbD i) = true) ↔ _
  rw [BitVec.getLsbD_zero]
  cases x.toBitVec.getLsbD i <;> decide
/-- the storm shuts the cell c, by the class's longs -/
def SB (c : Int) (s : PS) : Prop := bJ (if c < 64 then gJ s 0 else gJ s 1) (c.toNat % 64)
def SBU (x y : Int) (s t : PS) : Prop := (y = 1 → SB x t) ∧ (y = 0 → ¬ SB x t) ∧ ∀ c, 0 ≤ c → c ≤ 127 → c ≠ x → (SB c t ↔ SB c s)
def SBS (s t : PS) : Prop := gJ t 0 = gJ s 0 ∧ gJ t 1 = gJ s 1
theorem sb_lo {x : Int} {s : PS} (h : 0 ≤ x ∧ x < 64) : SB x s ↔ bJ (gJ s 0) x.toNat := by
  unfold SB
  rw [if_pos h.2, Nat.mod_eq_of_lt (by omega)]
theorem sb_hi {x : Int} {s : PS} (h : 64 ≤ x ∧ x ≤ 127) : SB x s ↔ bJ (gJ s 1) (x - 64).toNat := by
  unfold SB
  rw [if_neg (by omega), show x.toNat % 64 = (x - 64).toNat by omega]
theorem sb_of {x : Int} {s : PS} (h : 0 ≤ x ∧ x ≤ 127) {w : Int64} (hw : (x < 64 ∧ w = gJ s 0) ∨ (64 ≤ x ∧ w = gJ s 1)) : (jushr w (x % 64) &&& 1) = 0 ↔ ¬ SB x s := by
  rw [jb_0 (by omega)]
  rcases hw with ⟨h1, h2⟩ | ⟨h1, h2⟩
  · rw [sb_lo ⟨h.1, h1⟩, h2, show (x % 64).toNat = x.toNat by omega]
  · rw [sb_hi ⟨h1, h.2⟩, h2, show (x % 64).toNat = (x - 64).toNat by omega]
theorem gJ_u {s : PS} {q : Nat} {w : Int64} : gJ (uJ s q w) q = w := if_pos rfl
theorem gJ_n {s : PS} {q r : Nat} {w : Int64} (h : r ≠ q) : gJ (uJ s q w) r = gJ s r := if_neg h
theorem sbu_lo {x y : Int} {s : PS} {w : Int64} (h : 0 ≤ x ∧ x < 64) (hw : ∀ i, i < 64 → i ≠ x.toNat → (bJ w i ↔ bJ (gJ s 0) i)) (h1 : y = 1 → bJ w x.toNat) (h0 : y = 0 → ¬ bJ w x.toNat) : SBU x y s (uJ s 0 w) := by
  refine ⟨fun q => ?_, fun q => ?_, fun c c0 c1 c2 => ?_⟩
  · rw [sb_lo h, gJ_u]; exact h1 q
  · rw [sb_lo h, gJ_u]; exact h0 q
  · by_cases q : c < 64
    · rw [sb_lo ⟨c0, q⟩, sb_lo ⟨c0, q⟩, gJ_u]; exact hw _ (by omega) (by omega)
    · rw [sb_hi ⟨by omega, c1⟩, sb_hi ⟨by omega, c1⟩, gJ_n (by decide)]
theorem sbu_hi {x y : Int} {s : PS} {w : Int64} (h : 64 ≤ x ∧ x ≤ 127) (hw : ∀ i, i < 64 → i ≠ (x - 64).toNat → (bJ w i ↔ bJ (gJ s 1) i)) (h1 : y = 1 → bJ w (x - 64).toNat) (h0 : y = 0 → ¬ bJ w (x - 64).toNat) : SBU x y s (uJ s 1 w) := by
  refine ⟨fun q => ?_, fun q => ?_, fun c c0 c1 c2 => ?_⟩
  · rw [sb_hi h, gJ_u]; exact h1 q
  · rw [sb_hi h, gJ_u]; exact h0 q
  · by_cases q : c < 64
    · rw [sb_lo ⟨c0, q⟩, sb_lo ⟨c0, q⟩, gJ_n (by decide)]
    · rw [sb_hi ⟨by omega, c1⟩, sb_hi ⟨by omega, c1⟩, gJ_u]; exact hw _ (by omega) (by omega)
/-- the ends of shut: as it was, or turned -/
theorem sbu_l0 {x y e : Int} {s : PS} (h : 0 ≤ x ∧ x < 64) (he : (e = 1 ∧ SB x s) ∨ (e = 0 ∧ ¬ SB x s)) (hy : e = y) : SBU x y s (uJ s 0 (gJ s 0 ^^^ 0)) := by
  rw [sb_lo h] at he
  refine sbu_lo h (fun i _ _ => jb_n) (fun q => ?_) (fun q => ?_) <;> rw [jb_n]
  · rcases he with he | he
    · exact he.2
    · omega
  · rcases he with he | he
    · omega
    · exact he.2
theorem sbu_h0 {x y e : Int} {s : PS} (h : 64 ≤ x ∧ x ≤ 127) (he : (e = 1 ∧ SB x s) ∨ (e = 0 ∧ ¬ SB x s)) (hy : e = y) : SBU x y s (uJ s 1 (gJ s 1 ^^^ 0)) := by
  rw [sb_hi h] at he
  refine sbu_hi h (fun i _ _ => jb_n) (fun q => ?_) (fun q => ?_) <;> rw [jb_n]
  · rcases he with he | he
    · exact he.2
    · omega
  · rcases he with he | he
    · omega
    · exact he.2
theorem sbu_l1 {x y e : Int} {s : PS} (h : 0 ≤ x ∧ x < 64) (he : (e = 1 ∧ SB x s) ∨ (e = 0 ∧ ¬ SB x s)) (hb : y = 0 ∨ y = 1) (hy : e ≠ y) : SBU x y s (uJ s 0 (gJ s 0 ^^^ jshl 1 (x % 64))) := by
  rw [sb_lo h] at he
  have e1 : (x % 64).toNat = x.toNat := by omega
  refine sbu_lo h (fun i hi hn => ?_) (fun q => ?_) (fun q => ?_) <;> rw [jb_x (by omega) (by omega), e1]
  · rw [if_neg hn]
  · rw [if_pos rfl]
    rcases he with he | he
    · omega
    · exact he.2
  · rw [if_pos rfl]
    rcases he with he | he
    · exact fun z => z he.2
    · omega
theorem sbu_h1 {x y e : Int} {s : PS} (h : 64 ≤ x ∧ x ≤ 127) (he : (e = 1 ∧ SB x s) ∨ (e = 0 ∧ ¬ SB x s)) (hb : y = 0 ∨ y = 1) (hy : e ≠ y) : SBU x y s (uJ s 1 (gJ s 1 ^^^ jshl 1 (x % 64))) := by
  rw [sb_hi h] at he
  have e1 : (x % 64).toNat = (x - 64).toNat := by omega
  refine sbu_hi h (fun i hi hn => ?_) (fun q => ?_) (fun q => ?_) <;> rw [jb_x (by omega) (by omega), e1]
  · rw [if_neg hn]
  · rw [if_pos rfl]
    rcases he with he | he
    · omega
    · exact he.2
  · rw [if_pos rfl]
    rcases he with he | he
    · exact fun z => z he.2
    · omega
/-- the class's longs and the model's row say the same of the storm -/
def SEQ (s : PS) : Prop := ∀ c : Int, 0 ≤ c → c ≤ 127 → (SB c s ↔ iC s 399 c.toNat = 1)
theorem sbs_ts {s t u : PS} (h : SBS s t) (g : SBS t u) : SBS s u := ⟨g.1.trans h.1, g.2.trans h.2⟩
theorem sbs_fm {L M : List Nat} {s t : PS} (F : Fm L M s t) (h : 1000 ∉ L ∧ 1001 ∉ L) : SBS s t := ⟨fm_jj (k := 0) F h.1, fm_jj (k := 1) F h.2⟩
theorem sb_s {s t : PS} (h : SBS s t) (c : Int) : SB c t ↔ SB c s := by unfold SB; rw [h.1, h.2]
theorem seq_same {s t : PS} (h : SEQ s) (h1 : SBS s t) (h2 : SAM 399 s t) : SEQ t := fun c c0 c1 => by rw [sb_s h1, h2]; exact h c c0 c1
theorem seq_upd {x y : Int} {s t u : PS} (h : SEQ s) (hx : 0 ≤ x ∧ x ≤ 127) (hy : y = 0 ∨ y = 1) (h1 : SBU x y s t) (h2 : SAM 399 s t) {y' : Int} (hyy : y' = y) (h3 : UPD 399 x y' t u) (h4 : SBS t u) : SEQ u := fun c c0 c1 => by
  subst hyy
  rw [sb_s h4]
  by_cases e : c = x
  · subst e
    rw [h3.1]
    rcases hy with q | q
    · exact ⟨fun z => absurd z (h1.2.1 q), fun z => by omega⟩
    · exact ⟨fun _ => q, fun _ => h1.1 q⟩
  · rw [h1.2.2 c c0 c1 e, h3.2 c.toNat (by omega), h2]
    exact h c c0 c1
theorem seq_ans {x o : Int} {s : PS} (h : SEQ s) (I : Bd s) (hx : 0 ≤ x ∧ x ≤ 127) (ho : (o = 1 ∧ SB x s) ∨ (o = 0 ∧ ¬ SB x s)) : o = iC s 399 x.toNat := by
  have b : (0 : Int) ≤ iC s 399 x.toNat ∧ iC s 399 x.toNat ≤ 1 := I.2 399 _ (show x.toNat < 128 by omega)
  have := h x hx.1 hx.2
  rcases ho with q | q
  · rw [q.1, this.mp q.2]
  · have : iC s 399 x.toNat ≠ 1 := fun z => q.2 (this.mpr z)
    omega
section ZJ
variable {k : kx_T} {mn pc : Nat} {dT : Nat → ClassId} {lv : List (Nat × Value)} {st : List Value} {ws : va_W} {ce sl a b : Nat} {z : Int}
theorem z_jushr (X : AX k mn dT) {x : Int64} {c : Int} (h : cdA mn pc = some (.lushr, 1, a, b, z)) (g : WS k (pc + 1) lv (.long (jushr x c) :: st) ws ce sl) : WS k pc lv (.int (Int32.ofInt c) :: .long x :: st) ws ce sl := w_lushr X.1 (ax_d X h) g
theorem z_jshl (X : AX k mn dT) {x : Int64} {c : Int} (h : cdA mn pc = some (.lshl, 1, a, b, z)) (g : WS k (pc + 1) lv (.long (jshl x c) :: st) ws ce sl) : WS k pc lv (.int (Int32.ofInt c) :: .long x :: st) ws ce sl := w_lshl X.1 (ax_d X h) g
theorem z_jcmp (X : AX k mn dT) {x y : Int64} (h : cdA mn pc = some (.lcmp, 1, a, b, z)) (g1 : x = y → WS k (pc + 1) lv (.int (Int32.ofInt 0) :: st) ws ce sl) (g2 : x ≠ y → ∀ c : Int, rng c → c ≠ 0 → WS k (pc + 1) lv (.int (Int32.ofInt c) :: st) ws ce sl) : WS k pc lv (.long y :: .long x :: st) ws ce sl := by
  refine w_lcmp X.1 (ax_d X h) ?_
  by_cases q : x = y
  · have e : lg_cmp x y = Int32.ofInt 0 := by rw [(lg_cmp_eq x y).mpr q]; rfl
    rw [e]; exact g1 q
  · have h9 := g2 q (lg_cmp x y).toInt (rng_to _) (fun w => q ((lg_cmp_eq x y).mp (Int32.toInt_inj.mp (show _ = (0 : Int32).toInt from w))))
    rwa [ofi_to] at h9
theorem z_and63 (X : AX k mn dT) {x : Int} (h : cdA mn pc = some (.iand, 1, a, b, z)) (hx : 0 ≤ x ∧ x ≤ 127) (g : WS k (pc + 1) lv (.int (Int32.ofInt (x % 64)) :: st) ws ce sl) : WS k pc lv (.int (Int32.ofInt 63) :: .int (Int32.ofInt x) :: st) ws ce sl := by
  refine w_iand X.1 (ax_d X h) ?_
  rw [and_ex (m := 63) (f := fun x => x % 64) (by decide) (by decide +kernel) hx]
  exact g
end ZJ
section M87b
variable {l : Launch} {s0 : State} {D : va_G} {tys : List (ClassId × FieldType)} {a0 : Array Value} {A : Nat → Nat} {dT : Nat → ClassId} {s : PS}
set_option maxRecDepth 4000 in
theorem k_in2 (G : GX l s0 D tys a0 dT) (I : Bd s) {x y z : Int} (p0 : rng x) (p1 : rng y) (p2 : rng z) : CT l s0 D A dT 188 (rmN 188) [.int (Int32.ofInt x), .int (Int32.ofInt y), .int (Int32.ofInt z)] s (fun o t => s = t ∧ ∃ e, o = .inl (some (.int (Int32.ofInt e))) ∧ rng e ∧ ((e = 1 ∧ y ≤ x ∧ x ≤ z) ∨ (e = 0 ∧ (x < y ∨ z < x)))) := by
  refine ct_of G (by decide) (Nat.le_of_ble_eq_true rfl) (fun k X E hRt hXt q => ?_)
  show WS k 0 [(0, .int (Int32.ofInt x)), (1, .int (Int32.ofInt y)), (2, .int (Int32.ofInt z))] [] _ 0 0
  have F : Fm [] [] s s := fm_rf _ _ s
  refine z_load_n X (x := x) rfl (List.Mem.head _) (z_load_n X (x := y) rfl (List.Mem.tail _ (List.Mem.head _)) ?_)
  have N1 : ∀ e2 : Int, (((x < y) ∧ e2 = 0) ∨ ((y ≤ x) ∧ (z < x) ∧ e2 = 0) ∨ ((y ≤ x) ∧ (x ≤ z) ∧ e2 = 1)) → WS k 15 [(0, .int (Int32.ofInt x)), (1, .int (Int32.ofInt y)), (2, .int (Int32.ofInt z))] [.int (Int32.ofInt e2)] (Wd A dT s) 0 0 := by
    intro e2 he2
    have re2 : 0 ≤ e2 ∧ e2 ≤ 1 := by first | (clear he2; omega) | omega
    exact w_iret X.1 q hRt (nar_ret (by first | exact oq_31e518ae re2.2 re2.1 | omega)) (ax_d X (show cdA 188 15 = some (.ireturn, 1, 0, 0, 0) from rfl)) (Nat.zero_le _) (Nat.zero_le _) ⟨_, rfl, rfl, e2, rfl, ⟨by first | exact oq_fa4e5087 re2.1 | omega, by first | exact oq_22e1e6b0 re2.2 | omega⟩, by first | exact oq_eb048f71 re2.2 re2.1 he2 | omega⟩
  refine z_icmp_lt X (t := 14) rfl rfl ⟨by first | exact p0.1 | omega, by first | exact p0.2 | omega⟩ ⟨by first | exact p1.1 | omega, by first | exact p1.2 | omega⟩ (fun g3 => ?_) (fun g3 => ?_)
  ·
    exact z_const X rfl (N1 _ (Or.inl ⟨g3, rfl⟩))
  ·
    refine z_load_n X (x := x) rfl (List.Mem.head _) (z_load_n X (x := z) rfl (List.Mem.tail _ (List.Mem.tail _ (List.Mem.head _))) (z_icmp_gt X (t := 14) rfl rfl ⟨by first | exact p0.1 | omega, by first | exact p0.2 | omega⟩ ⟨by first | exact p2.1 | omega, by first | exact p2.2 | omega⟩ (fun g4 => ?_) (fun g4 => ?_)))
    ·
      exact z_const X rfl (N1 _ (Or.inr (Or.inl ⟨g3, g4, rfl⟩)))
    ·
      exact z_const X rfl (z_goto X (t := 15) rfl rfl (N1 _ (Or.inr (Or.inr (⟨g3, g4, rfl⟩)))))
set_option maxRecDepth 4000 in
theorem k_bad2 (G : GX l s0 D tys a0 dT) (I : Bd s) {x y : Int} (p0 : x = 0 ∨ x = 1) (p1 : 1 ≤ y ∧ y ≤ 3) : CT l s0 D A dT 187 (rmN 187) [.ref (A 179), .int (Int32.ofInt x), .int (Int32.ofInt y)] s (fun o t => Bd t ∧ Fm [73] [] s t ∧ ∃ e, o = .inl (some (.int (Int32.ofInt e))) ∧ rng e ∧ (((x = 1 ∧ iI s 73 = 0 ∧ iI t 73 = y ∧ e = 1) ∨ ((x = 0 ∨ iI s 73 ≠ 0) ∧ iI t 73 = iI s 73 ∧ ((e = 0 ∧ iI s 73 = 0) ∨ (e = 1 ∧ iI s 73 ≠ 0)))))) := by
  refine ct_of G (by decide) (Nat.le_of_ble_eq_true rfl) (fun k X E hRt hXt q => ?_)
  show WS k 0 [(0, .ref (A 179)), (1, .int (Int32.ofInt x)), (2, .int (Int32.ofInt y))] [] _ 0 0
  have F : Fm [73] [] s s := fm_rf _ _ s
  have b1 := bi_73 I
  refine z_load_n X (x := x) rfl (List.Mem.tail _ (List.Mem.head _)) (z_if_eq X (t := 16) rfl rfl ⟨by first | exact oq_bde653e9 p0 | omega, by first | exact oq_4ad2cb8b p0 | omega⟩ (fun g2 => ?_) (fun g2 => ?_))
  ·
    refine z_aload_n X (x := A 179) rfl (List.Mem.head _) (z_getI X 179 rfl (c518_ok rfl) rfl rfl ?_)
    have b3 := bi_73 I
    have N4 : ∀ e5 : Int, ((((iI s 73) = 0) ∧ e5 = 0) ∨ (((iI s 73) ≠ 0) ∧ e5 = 1)) → WS k 28 [(0, .ref (A 179)), (1, .int (Int32.ofInt x)), (2, .int (Int32.ofInt y))] [.int (Int32.ofInt e5)] (Wd A dT s) 0 0 := by
      intro e5 he5
      have re5 : 0 ≤ e5 ∧ e5 ≤ 1 := by first | (clear he5 p0; omega) | (clear p0; omega) | omega
      exact w_iret X.1 q hRt (nar_ret (by first | exact oq_31e518ae re5.2 re5.1 | omega)) (ax_d X (show cdA 187 28 = some (.ireturn, 1, 0, 0, 0) from rfl)) (Nat.zero_le _) (Nat.zero_le _) ⟨_, rfl, I, F, e5, rfl, ⟨by first | exact oq_fa4e5087 re5.1 | omega, by first | exact oq_22e1e6b0 re5.2 | omega⟩, by first | exact oq_0fa7b120 re5.2 re5.1 he5 b3.1 g2 | omega⟩
    refine z_if_eq X (t := 27) rfl rfl (rng_to _) (fun g6 => ?_) (fun g6 => ?_)
    ·
      exact z_const X rfl (N4 _ (Or.inl ⟨g6, rfl⟩))
    ·
      exact z_const X rfl (z_goto X (t := 28) rfl rfl (N4 _ (Or.inr (⟨g6, rfl⟩))))
  ·
    refine z_aload_n X (x := A 179) rfl (List.Mem.head _) (z_getI X 179 rfl (c518_ok rfl) rfl rfl ?_)
    have b7 := bi_73 I
    refine z_if_ne X (t := 16) rfl rfl (rng_to _) (fun g8 => ?_) (fun g8 => ?_)
    ·
      refine z_aload_n X (x := A 179) rfl (List.Mem.head _) (z_getI X 179 rfl (c518_ok rfl) rfl rfl ?_)
      have b9 := bi_73 I
      have N10 : ∀ e11 : Int, ((((iI s 73) = 0) ∧ e11 = 0) ∨ (((iI s 73) ≠ 0) ∧ e11 = 1)) → WS k 28 [(0, .ref (A 179)), (1, .int (Int32.ofInt x)), (2, .int (Int32.ofInt y))] [.int (Int32.ofInt e11)] (Wd A dT s) 0 0 := by
        intro e11 he11
        have re11 : 0 ≤ e11 ∧ e11 ≤ 1 := by first | (clear he11 g8 g2 p0; omega) | (clear g8 g2 p0; omega) | omega
        exact w_iret X.1 q hRt (nar_ret (by first | exact oq_438aa68f re11.2 he11 b9.1 g8 | omega)) (ax_d X (show cdA 187 28 = some (.ireturn, 1, 0, 0, 0) from rfl)) (Nat.zero_le _) (Nat.zero_le _) ⟨_, rfl, I, F, e11, rfl, ⟨by first | exact oq_fa4e5087 re11.1 | omega, by first | exact oq_22e1e6b0 re11.2 | omega⟩, by first | exact oq_7136ffd4 re11.2 he11 b9.1 g8 | omega⟩
      refine z_if_eq X (t := 27) rfl rfl (rng_to _) (fun g12 => ?_) (fun g12 => ?_)
      ·
        exact z_const X rfl (N10 _ (Or.inl ⟨g12, rfl⟩))
      ·
        exact z_const X rfl (z_goto X (t := 28) rfl rfl (N10 _ (Or.inr (⟨g12, rfl⟩))))
    ·
      refine z_aload_n X (x := A 179) rfl (List.Mem.head _) (z_load_n X (x := y) rfl (List.Mem.tail _ (List.Mem.tail _ (List.Mem.head _))) (s_putI X 179 rfl (c518_ok rfl) rfl rfl (by decide) rfl rfl rfl (wd_gen (fun s13 hs13 => ?_))))
      have Is13 : Bd s13 := eqB hs13 (bd_I I (show (0 : Int) ≤ y ∧ y ≤ 3 by first | exact ⟨oq_2a6e3b50 p1.1, p1.2⟩ | omega) ⟨by first | exact oq_9462313e p1.1 | omega, by first | exact oq_c5520c83 p1.2 | omega⟩)
      have Fs13 := eqF hs13 (fm_I F (inl_ok (a := 73) rfl))
      have vs13 : iI s13 73 = y := eqI hs13 (iI_u ⟨by first | exact oq_9462313e p1.1 | omega, by first | exact oq_c5520c83 p1.2 | omega⟩)
      have wos13 : iO s13 = iO s := by rw [hs13]; rfl
      refine z_aload_n X (x := A 179) rfl (List.Mem.head _) (z_getI X 179 rfl (c518_ok rfl) rfl rfl ?_)
      have b14 := bi_73 Is13
      have N15 : ∀ e16 : Int, ((((iI s13 73) = 0) ∧ e16 = 0) ∨ (((iI s13 73) ≠ 0) ∧ e16 = 1)) → WS k 28 [(0, .ref (A 179)), (1, .int (Int32.ofInt x)), (2, .int (Int32.ofInt y))] [.int (Int32.ofInt e16)] (Wd A dT s13) 0 0 := by
        intro e16 he16
        have re16 : 0 ≤ e16 ∧ e16 ≤ 1 := by first | (clear he16 g2 p0; omega) | (clear g2 p0; omega) | omega
        exact w_iret X.1 q hRt (nar_ret (by first | exact oq_4f030bbc re16.2 he16 vs13 p1.1 | omega)) (ax_d X (show cdA 187 28 = some (.ireturn, 1, 0, 0, 0) from rfl)) (Nat.zero_le _) (Nat.zero_le _) ⟨_, rfl, Is13, Fs13, e16, rfl, ⟨by first | exact oq_fa4e5087 re16.1 | omega, by first | exact oq_22e1e6b0 re16.2 | omega⟩, by first | exact oq_add61c1a re16.2 he16 vs13 g8 g2 p1.1 p0 | omega⟩
      refine z_if_eq X (t := 27) rfl rfl (rng_to _) (fun g17 => ?_) (fun g17 => ?_)
      ·
        exact z_const X rfl (N15 _ (Or.inl ⟨g17, rfl⟩))
      ·
        exact z_const X rfl (z_goto X (t := 28) rfl rfl (N15 _ (Or.inr (⟨g17, rfl⟩))))
set_option maxRecDepth 4000 in
theorem c8_isShut2 (G : GX l s0 D tys a0 dT) (I : Bd s) {x : Int} (p0 : 0 ≤ x ∧ x ≤ 127) : CT l s0 D A dT 88 (rmN 88) [.ref (A 67), .int (Int32.ofInt x)] s (fun o t => s = t ∧ ∃ e, o = .inl (some (.int (Int32.ofInt e))) ∧ rng e ∧ (((e = 1 ∧ SB x s) ∨ (e = 0 ∧ ¬ SB x s)))) := by
  refine ct_ofX G (by decide) (Nat.le_of_ble_eq_true rfl) (fun k X E ET hRt hXt q => ?_)
  show WS k 0 [(0, .ref (A 67)), (1, .int (Int32.ofInt x))] [] _ 0 0
  have F : Fm [] [] s s := fm_rf _ _ s
  refine z_load_n X (x := x) rfl (List.Mem.tail _ (List.Mem.head _)) (z_bipush X rfl (z_icmp_ge X (t := 13) rfl rfl ⟨by first | exact oq_fa4e5087 p0.1 | omega, by first | exact oq_07d346ce p0.2 | omega⟩ (by decide) (fun g1 => ?_) (fun g1 => ?_)))
  ·
    refine z_aload_n X (x := A 67) rfl (List.Mem.head _) (s_getJ X 67 rfl (c518_ok rfl) rfl rfl (z_load_n X (x := x) rfl (List.Mem.tail _ (List.Mem.head _)) (z_bipush X rfl (z_and63 X rfl (by omega) (z_jushr X rfl (w_lconst X.1 (ax_d X (show cdA 88 22 = some (.lconst 1, 1, 0, 0, 0) from rfl)) (z := (1 : Int64)) (by decide) (w_land X.1 (ax_d X (show cdA 88 23 = some (.land, 1, 0, 0, 0) from rfl)) (w_lconst X.1 (ax_d X (show cdA 88 24 = some (.lconst 0, 1, 0, 0, 0) from rfl)) (z := (0 : Int64)) (by decide) (z_jcmp X rfl (fun z2 => ?_) (fun z2 c3 hc3 ic3 => ?_))))))))))
    ·
      refine z_if_eq X (t := 33) rfl rfl (by decide) (fun g4 => ?_) (fun g4 => ?_)
      ·
        refine z_const X rfl ?_
        exact w_iret X.1 q hRt (nar_ret (by first | exact Or.inl (by decide) | omega)) (ax_d X (show cdA 88 34 = some (.ireturn, 1, 0, 0, 0) from rfl)) (Nat.zero_le _) (Nat.zero_le _) ⟨_, rfl, rfl, 0, rfl, (by decide), Or.inr ⟨rfl, (sb_of (by omega) (Or.inr ⟨by omega, rfl⟩)).mp z2⟩⟩
      ·
        exfalso
        omega
    ·
      refine z_if_eq X (t := 33) rfl rfl ⟨by omega, by omega⟩ (fun g5 => ?_) (fun g5 => ?_)
      ·
        refine z_const X rfl ?_
        exact w_iret X.1 q hRt (nar_ret (by first | exact Or.inl (by decide) | omega)) (ax_d X (show cdA 88 34 = some (.ireturn, 1, 0, 0, 0) from rfl)) (Nat.zero_le _) (Nat.zero_le _) ⟨_, rfl, rfl, 0, rfl, (by decide), by omega⟩
      ·
        refine z_const X rfl (z_goto X (t := 34) rfl rfl ?_)
        exact w_iret X.1 q hRt (nar_ret (by first | exact Or.inr (by decide) | omega)) (ax_d X (show cdA 88 34 = some (.ireturn, 1, 0, 0, 0) from rfl)) (Nat.zero_le _) (Nat.zero_le _) ⟨_, rfl, rfl, 1, rfl, (by decide), Or.inl ⟨rfl, Classical.byContradiction (fun q => z2 ((sb_of (by first | (clear g5; omega) | omega) (Or.inr ⟨by first | (clear g5; omega) | omega, rfl⟩)).mpr q))⟩⟩
  ·
    refine z_aload_n X (x := A 67) rfl (List.Mem.head _) (s_getJ X 67 rfl (c518_ok rfl) rfl rfl (z_goto X (t := 17) rfl rfl (z_load_n X (x := x) rfl (List.Mem.tail _ (List.Mem.head _)) (z_bipush X rfl (z_and63 X rfl (by omega) (z_jushr X rfl (w_lconst X.1 (ax_d X (show cdA 88 22 = some (.lconst 1, 1, 0, 0, 0) from rfl)) (z := (1 : Int64)) (by decide) (w_land X.1 (ax_d X (show cdA 88 23 = some (.land, 1, 0, 0, 0) from rfl)) (w_lconst X.1 (ax_d X (show cdA 88 24 = some (.lconst 0, 1, 0, 0, 0) from rfl)) (z := (0 : Int64)) (by decide) (z_jcmp X rfl (fun z6 => ?_) (fun z6 c7 hc7 ic7 => ?_)))))))))))
    ·
      refine z_if_eq X (t := 33) rfl rfl (by decide) (fun g8 => ?_) (fun g8 => ?_)
      ·
        refine z_const X rfl ?_
        exact w_iret X.1 q hRt (nar_ret (by first | exact Or.inl (by decide) | omega)) (ax_d X (show cdA 88 34 = some (.ireturn, 1, 0, 0, 0) from rfl)) (Nat.zero_le _) (Nat.zero_le _) ⟨_, rfl, rfl, 0, rfl, (by decide), Or.inr ⟨rfl, (sb_of (by omega) (Or.inl ⟨by omega, rfl⟩)).mp z6⟩⟩
      ·
        exfalso
        omega
    ·
      refine z_if_eq X (t := 33) rfl rfl ⟨by omega, by omega⟩ (fun g9 => ?_) (fun g9 => ?_)
      ·
        refine z_const X rfl ?_
        exact w_iret X.1 q hRt (nar_ret (by first | exact Or.inl (by decide) | omega)) (ax_d X (show cdA 88 34 = some (.ireturn, 1, 0, 0, 0) from rfl)) (Nat.zero_le _) (Nat.zero_le _) ⟨_, rfl, rfl, 0, rfl, (by decide), by omega⟩
      ·
        refine z_const X rfl (z_goto X (t := 34) rfl rfl ?_)
        exact w_iret X.1 q hRt (nar_ret (by first | exact Or.inr (by decide) | omega)) (ax_d X (show cdA 88 34 = some (.ireturn, 1, 0, 0, 0) from rfl)) (Nat.zero_le _) (Nat.zero_le _) ⟨_, rfl, rfl, 1, rfl, (by decide), Or.inl ⟨rfl, Classical.byContradiction (fun q => z6 ((sb_of (by first | (clear g9; omega) | omega) (Or.inl ⟨by first | (clear g9; omega) | omega, rfl⟩)).mpr q))⟩⟩
set_option maxRecDepth 4000 in
theorem c8_shut2 (G : GX l s0 D tys a0 dT) (I : Bd s) {x y : Int} (p0 : 0 ≤ x ∧ x ≤ 127) (p1 : y = 0 ∨ y = 1) : CT l s0 D A dT 87 (rmN 87) [.ref (A 67), .int (Int32.ofInt x), .int (Int32.ofInt y)] s (fun o t => Bd t ∧ Fm [1000, 1001] [] s t ∧ ∃ e, o = .inl (some (.int (Int32.ofInt e))) ∧ rng e ∧ (((e = 1 ∧ SB x s) ∨ (e = 0 ∧ ¬ SB x s)) ∧ SBU x y s t)) := by
  refine ct_ofX G (by decide) (Nat.le_of_ble_eq_true rfl) (fun k X E ET hRt hXt q => ?_)
  show WS k 0 [(0, .ref (A 67)), (1, .int (Int32.ofInt x)), (2, .int (Int32.ofInt y))] [] _ 0 0
  have F : Fm [1000, 1001] [] s s := fm_rf _ _ s
  refine z_aload_n X (x := A 67) rfl (List.Mem.head _) (z_load_n X (x := x) rfl (List.Mem.tail _ (List.Mem.head _)) (z_callV X 67 (rm := rmN 88) (As := [.int (Int32.ofInt x)]) (st := []) rfl rfl (by decide) rfl (by rw [E.1, E.2.1, E.2.2.1]; exact c8_isShut2 G I (by first | exact ⟨p0.1, p0.2⟩ | omega)) ⟨by rw [E.2.2.2]; exact (show (rmN 88).frames + 1 ≤ (rmN 87).frames by decide), by rw [E.2.2.2]; exact (show 8 + (mNL (miB 88) + 11) + (rmN 88).locals ≤ (rmN 87).locals by decide), by rw [E.2.2.2]; exact (show 0 + (rmN 88).cells ≤ (rmN 87).cells by decide), by rw [E.2.2.2]; exact (show 0 + (rmN 88).slots ≤ (rmN 87).slots by decide)⟩ (Nat.le_of_ble_eq_true rfl) (fun vv s1 hq => ?_) (fun ee s1 hq => ?_)))
  rotate_left
  · obtain ⟨rfl, e2, hv, hrs1, hps1⟩ := hq; cases hv
  obtain ⟨rfl, e2, hv, hrs1, hps1⟩ := hq
  cases hv
  show WS k 5 [(0, .ref (A 67)), (1, .int (Int32.ofInt x)), (2, .int (Int32.ofInt y))] [.int (Int32.ofInt e2)] (Wd A dT s) 0 0
  refine z_store_n X (lv' := [(3, .int (Int32.ofInt e2)), (0, .ref (A 67)), (1, .int (Int32.ofInt x)), (2, .int (Int32.ofInt y))]) rfl (by decide) (fun _ h => h) (z_load_n X (x := e2) rfl (List.Mem.head _) (z_load_n X (x := y) rfl (List.Mem.tail _ (List.Mem.tail _ (List.Mem.tail _ (List.Mem.head _)))) (z_icmp_ne X (t := 15) rfl rfl hrs1 ⟨by first | exact oq_bde653e9 p1 | omega, by first | exact oq_4ad2cb8b p1 | omega⟩ (fun g3 => ?_) (fun g3 => ?_))))
  ·
    refine w_lconst X.1 (ax_d X (show cdA 87 15 = some (.lconst 1, 1, 0, 0, 0) from rfl)) (z := (1 : Int64)) (by decide) (z_load_n X (x := x) rfl (List.Mem.tail _ (List.Mem.tail _ (List.Mem.head _))) (z_bipush X rfl (z_and63 X rfl (by first | (clear g3 hps1 p1; omega) | (clear hps1 p1; omega) | omega) (z_jshl X rfl (w_lstore X.1 (lv' := [(4, .long (jshl (1 : Int64) (x % 64))), (3, .int (Int32.ofInt e2)), (0, .ref (A 67)), (1, .int (Int32.ofInt x)), (2, .int (Int32.ofInt y))]) (ax_d X (show cdA 87 21 = some (.lstore 4, 2, 0, 0, 0) from rfl)) (by rw [X.2.1.2.2]; decide) (fun _ h => h) (z_load_n X (x := x) rfl (List.Mem.tail _ (List.Mem.tail _ (List.Mem.tail _ (List.Mem.head _)))) (z_bipush X rfl (z_icmp_ge X (t := 43) rfl rfl ⟨by first | exact oq_fa4e5087 p0.1 | omega, by first | exact oq_07d346ce p0.2 | omega⟩ (by decide) (fun g4 => ?_) (fun g4 => ?_)))))))))
    ·
      refine z_aload_n X (x := A 67) rfl (List.Mem.tail _ (List.Mem.tail _ (List.Mem.head _))) (w_dup X.1 (ax_d X (show cdA 87 44 = some (.dup, 1, 0, 0, 0) from rfl)) rfl (s_getJ X 67 rfl (c518_ok rfl) rfl rfl (w_lload X.1 (ax_d X (show cdA 87 48 = some (.lload 4, 2, 0, 0, 0) from rfl)) (x := (jshl (1 : Int64) (x % 64))) (List.Mem.head _) (w_lxor X.1 (ax_d X (show cdA 87 50 = some (.lxor, 1, 0, 0, 0) from rfl)) (s_putJ X 67 rfl (c518_ok rfl) rfl rfl (by decide) rfl rfl rfl (wd_gen (fun s5 hs5 => ?_)))))))
      have Is5 : Bd s5 := eqB hs5 (bd_J I)
      have Fs5 : Fm [1000, 1001] [] s s5 := by rw [hs5]; exact fm_J F (show 1 + 1000 ∈ _ by decide)
      refine z_load_n X (x := e2) rfl (List.Mem.tail _ (List.Mem.head _)) ?_
      exact w_iret X.1 q hRt (nar_ret (by first | (clear g3 hps1 p1; omega) | (clear hps1 p1; omega) | omega)) (ax_d X (show cdA 87 55 = some (.ireturn, 1, 0, 0, 0) from rfl)) (Nat.zero_le _) (Nat.zero_le _) ⟨_, rfl, Is5, Fs5, e2, rfl, hrs1, ⟨hps1, by rw [hs5]; exact sbu_h1 (by first | (clear g3 hps1 p1; omega) | (clear hps1 p1; omega) | omega) hps1 p1 (by first | (clear g3 hps1 p1; omega) | (clear hps1 p1; omega) | omega)⟩⟩
    ·
      refine z_aload_n X (x := A 67) rfl (List.Mem.tail _ (List.Mem.tail _ (List.Mem.head _))) (w_dup X.1 (ax_d X (show cdA 87 30 = some (.dup, 1, 0, 0, 0) from rfl)) rfl (s_getJ X 67 rfl (c518_ok rfl) rfl rfl (w_lload X.1 (ax_d X (show cdA 87 34 = some (.lload 4, 2, 0, 0, 0) from rfl)) (x := (jshl (1 : Int64) (x % 64))) (List.Mem.head _) (w_lxor X.1 (ax_d X (show cdA 87 36 = some (.lxor, 1, 0, 0, 0) from rfl)) (s_putJ X 67 rfl (c518_ok rfl) rfl rfl (by decide) rfl rfl rfl (wd_gen (fun s6 hs6 => ?_)))))))
      have Is6 : Bd s6 := eqB hs6 (bd_J I)
      have Fs6 : Fm [1000, 1001] [] s s6 := by rw [hs6]; exact fm_J F (show 0 + 1000 ∈ _ by decide)
      refine z_goto X (t := 54) rfl rfl (z_load_n X (x := e2) rfl (List.Mem.tail _ (List.Mem.head _)) ?_)
      exact w_iret X.1 q hRt (nar_ret (by first | (clear g3 hps1 p1; omega) | (clear hps1 p1; omega) | omega)) (ax_d X (show cdA 87 55 = some (.ireturn, 1, 0, 0, 0) from rfl)) (Nat.zero_le _) (Nat.zero_le _) ⟨_, rfl, Is6, Fs6, e2, rfl, hrs1, ⟨hps1, by rw [hs6]; exact sbu_l1 (by first | (clear g3 hps1 p1; omega) | (clear hps1 p1; omega) | omega) hps1 p1 (by first | (clear g3 hps1 p1; omega) | (clear hps1 p1; omega) | omega)⟩⟩
  ·
    refine w_lconst X.1 (ax_d X (show cdA 87 11 = some (.lconst 0, 1, 0, 0, 0) from rfl)) (z := (0 : Int64)) (by decide) (z_goto X (t := 21) rfl rfl (w_lstore X.1 (lv' := [(4, .long (0 : Int64)), (3, .int (Int32.ofInt e2)), (0, .ref (A 67)), (1, .int (Int32.ofInt x)), (2, .int (Int32.ofInt y))]) (ax_d X (show cdA 87 21 = some (.lstore 4, 2, 0, 0, 0) from rfl)) (by rw [X.2.1.2.2]; decide) (fun _ h => h) (z_load_n X (x := x) rfl (List.Mem.tail _ (List.Mem.tail _ (List.Mem.tail _ (List.Mem.head _)))) (z_bipush X rfl (z_icmp_ge X (t := 43) rfl rfl ⟨by first | exact oq_fa4e5087 p0.1 | omega, by first | exact oq_07d346ce p0.2 | omega⟩ (by decide) (fun g7 => ?_) (fun g7 => ?_))))))
    ·
      refine z_aload_n X (x := A 67) rfl (List.Mem.tail _ (List.Mem.tail _ (List.Mem.head _))) (w_dup X.1 (ax_d X (show cdA 87 44 = some (.dup, 1, 0, 0, 0) from rfl)) rfl (s_getJ X 67 rfl (c518_ok rfl) rfl rfl (w_lload X.1 (ax_d X (show cdA 87 48 = some (.lload 4, 2, 0, 0, 0) from rfl)) (x := (0 : Int64)) (List.Mem.head _) (w_lxor X.1 (ax_d X (show cdA 87 50 = some (.lxor, 1, 0, 0, 0) from rfl)) (s_putJ X 67 rfl (c518_ok rfl) rfl rfl (by decide) rfl rfl rfl (wd_gen (fun s8 hs8 => ?_)))))))
      have Is8 : Bd s8 := eqB hs8 (bd_J I)
      have Fs8 : Fm [1000, 1001] [] s s8 := by rw [hs8]; exact fm_J F (show 1 + 1000 ∈ _ by decide)
      refine z_load_n X (x := e2) rfl (List.Mem.tail _ (List.Mem.head _)) ?_
      exact w_iret X.1 q hRt (nar_ret (by first | exact oq_8ca45d8a g3 p1 | omega)) (ax_d X (show cdA 87 55 = some (.ireturn, 1, 0, 0, 0) from rfl)) (Nat.zero_le _) (Nat.zero_le _) ⟨_, rfl, Is8, Fs8, e2, rfl, hrs1, ⟨hps1, by rw [hs8]; exact sbu_h0 (by first | (clear hps1 p1; omega) | (clear p1; omega) | omega) hps1 (by first | (clear hps1 p1; omega) | (clear p1; omega) | omega)⟩⟩
    ·
      refine z_aload_n X (x := A 67) rfl (List.Mem.tail _ (List.Mem.tail _ (List.Mem.head _))) (w_dup X.1 (ax_d X (show cdA 87 30 = some (.dup, 1, 0, 0, 0) from rfl)) rfl (s_getJ X 67 rfl (c518_ok rfl) rfl rfl (w_lload X.1 (ax_d X (show cdA 87 34 = some (.lload 4, 2, 0, 0, 0) from rfl)) (x := (0 : Int64)) (List.Mem.head _) (w_lxor X.1 (ax_d X (show cdA 87 36 = some (.lxor, 1, 0, 0, 0) from rfl)) (s_putJ X 67 rfl (c518_ok rfl) rfl rfl (by decide) rfl rfl rfl (wd_gen (fun s9 hs9 => ?_)))))))
      have Is9 : Bd s9 := eqB hs9 (bd_J I)
      have Fs9 : Fm [1000, 1001] [] s s9 := by rw [hs9]; exact fm_J F (show 0 + 1000 ∈ _ by decide)
      refine z_goto X (t := 54) rfl rfl (z_load_n X (x := e2) rfl (List.Mem.tail _ (List.Mem.head _)) ?_)
      exact w_iret X.1 q hRt (nar_ret (by first | exact oq_8ca45d8a g3 p1 | omega)) (ax_d X (show cdA 87 55 = some (.ireturn, 1, 0, 0, 0) from rfl)) (Nat.zero_le _) (Nat.zero_le _) ⟨_, rfl, Is9, Fs9, e2, rfl, hrs1, ⟨hps1, by rw [hs9]; exact sbu_l0 (by first | (clear hps1 p1; omega) | (clear p1; omega) | omega) hps1 (by first | (clear hps1 p1; omega) | (clear p1; omega) | omega)⟩⟩
set_option maxRecDepth 4000 in
theorem cs_needCell2 (G : GX l s0 D tys a0 dT) (I : Bd s) {v : Int} (p0 : rng v) : CT l s0 D A dT 181 (rmN 181) [.ref (A 0), .int (Int32.ofInt v)] s (fun o t => Bd t ∧ Fm [] [] s t ∧ ((o = .inl none ∧ (0 ≤ v ∧ v ≤ 127 ∧ s = t)) ∨ ∃ x : Nat, o = .inr (exN x) ∧ (x = 2 ∧ (v < 0 ∨ 127 < v)))) := by
  refine ct_ofX G (by decide) (Nat.le_of_ble_eq_true rfl) (fun k X E ET hRt hXt q => ?_)
  show WS k 0 [(0, .ref (A 0)), (1, .int (Int32.ofInt v))] [] _ 0 0
  have F : Fm [] [] s s := fm_rf _ _ s
  refine z_load_n X (x := v) rfl (List.Mem.tail _ (List.Mem.head _)) (z_if_lt X (t := 11) rfl rfl ⟨by first | exact p0.1 | omega, by first | exact p0.2 | omega⟩ (fun g1 => ?_) (fun g1 => ?_))
  ·
    exact z_throw G X E ET hXt q (st := []) rfl (by decide) (by decide) (Nat.le_of_ble_eq_true rfl) (show 0 + 1 ≤ 1 by decide) (show 0 + 6 ≤ 6 by decide) (show 0 + 1 ≤ 1 by decide) (show 0 + 6 ≤ 6 by decide) ⟨_, rfl, I, F, Or.inr ⟨2, rfl, by omega⟩⟩
  ·
    refine z_load_n X (x := v) rfl (List.Mem.tail _ (List.Mem.head _)) (z_sipush X rfl (z_icmp_lt X (t := 22) rfl rfl ⟨by first | exact p0.1 | omega, by first | exact p0.2 | omega⟩ (by decide) (fun g2 => ?_) (fun g2 => ?_)))
    ·
      exact w_vret X.1 q hRt (ax_d X (show cdA 181 22 = some (.return_, 1, 0, 0, 0) from rfl)) (Nat.zero_le _) (Nat.zero_le _) ⟨_, rfl, I, F, Or.inl ⟨rfl, ⟨by first | exact g1 | omega, by first | exact oq_04367f15 g2 | omega, rfl⟩⟩⟩
    ·
      exact z_throw G X E ET hXt q (st := []) rfl (by decide) (by decide) (Nat.le_of_ble_eq_true rfl) (show 0 + 1 ≤ 1 by decide) (show 0 + 6 ≤ 6 by decide) (show 0 + 1 ≤ 1 by decide) (show 0 + 6 ≤ 6 by decide) ⟨_, rfl, I, F, Or.inr ⟨2, rfl, by omega⟩⟩
set_option maxRecDepth 4000 in
theorem cs_storm2 (G : GX l s0 D tys a0 dT) (I : Bd s) {u w : Int} (p0 : rng u) (p1 : w = 0 ∨ w = 1) : CT l s0 D A dT 169 (rmN 169) [.ref (A 0), .int (Int32.ofInt u), .int (Int32.ofInt w)] s (fun o t => Bd t ∧ Fm [1000, 1001] [] s t ∧ ((∃ e, o = .inl (some (.int (Int32.ofInt e))) ∧ rng e ∧ (0 ≤ u ∧ u ≤ 127 ∧ ((e = 1 ∧ SB u s) ∨ (e = 0 ∧ ¬ SB u s)) ∧ SBU u w s t)) ∨ ∃ x : Nat, o = .inr (exN x) ∧ (x = 2 ∧ (u < 0 ∨ 127 < u) ∧ SBS s t))) := by
  refine ct_ofX G (by decide) (Nat.le_of_ble_eq_true rfl) (fun k X E ET hRt hXt q => ?_)
  show WS k 0 [(0, .ref (A 0)), (1, .int (Int32.ofInt u)), (2, .int (Int32.ofInt w))] [] _ 0 0
  have F : Fm [1000, 1001] [] s s := fm_rf _ _ s
  refine z_aload_n X (x := A 0) rfl (List.Mem.head _) (z_load_n X (x := u) rfl (List.Mem.tail _ (List.Mem.head _)) (z_callV X 0 (rm := rmN 181) (As := [.int (Int32.ofInt u)]) (st := []) rfl rfl (by decide) rfl (by rw [E.1, E.2.1, E.2.2.1]; exact cs_needCell2 G I (by first | exact ⟨p0.1, p0.2⟩ | omega)) ⟨by rw [E.2.2.2]; exact (show (rmN 181).frames + 1 ≤ (rmN 169).frames by decide), by rw [E.2.2.2]; exact (show 8 + (mNL (miB 181) + 11) + (rmN 181).locals ≤ (rmN 169).locals by decide), by rw [E.2.2.2]; exact (show 0 + 1 ≤ 1 by decide), by rw [E.2.2.2]; exact (show 0 + 6 ≤ 6 by decide)⟩ (Nat.le_of_ble_eq_true rfl) (fun vv s1 hq => ?_) (fun ee s1 hq => ?_)))
  rotate_left
  · obtain ⟨Is1, Fs1, (⟨hv, hps1⟩ | ⟨xx, hv, hps1⟩)⟩ := hq
    · cases hv
    · cases hv
      have Gs1 := fm_tq F Fs1 rfl rfl
      exact x_out X.1 q (fun x hx => (hXt x hx).elim) (show 1 ≤ 1 by decide) (show 6 ≤ 6 by decide) ⟨_, rfl, Is1, Gs1, Or.inr ⟨xx, rfl, ⟨by first | (clear p1; omega) | omega, by first | (clear p1; omega) | omega, sbs_fm Fs1 (by decide)⟩⟩⟩
  obtain ⟨Is1, Fs1, (⟨hv, hps1⟩ | ⟨xx, hv, hps1⟩)⟩ := hq
  rotate_left
  · cases hv
  cases hv
  have Gs1 := fm_tq F Fs1 rfl rfl
  have eTs1 := hps1.2.2
  subst eTs1
  show WS k 5 [(0, .ref (A 0)), (1, .int (Int32.ofInt u)), (2, .int (Int32.ofInt w))] [] (Wd A dT s) 1 6
  refine z_aload_n X (x := A 0) rfl (List.Mem.head _) (s_getR X 0 rfl (c518_ok rfl) rfl rfl (z_load_n X (x := u) rfl (List.Mem.tail _ (List.Mem.head _)) (z_load_n X (x := w) rfl (List.Mem.tail _ (List.Mem.tail _ (List.Mem.head _))) (z_callV X 67 (rm := rmN 87) (As := [.int (Int32.ofInt u), .int (Int32.ofInt w)]) (st := []) rfl rfl (by decide) rfl (by rw [E.1, E.2.1, E.2.2.1]; exact c8_shut2 G Is1 (by first | exact ⟨hps1.1, hps1.2.1⟩ | omega) (by first | exact p1 | omega)) ⟨by rw [E.2.2.2]; exact (show (rmN 87).frames + 1 ≤ (rmN 169).frames by decide), by rw [E.2.2.2]; exact (show 8 + (mNL (miB 87) + 11) + (rmN 87).locals ≤ (rmN 169).locals by decide), by rw [E.2.2.2]; exact (show 1 + 0 ≤ 1 by decide), by rw [E.2.2.2]; exact (show 6 + 0 ≤ 6 by decide)⟩ (Nat.le_of_ble_eq_true rfl) (fun vv s3 hq => ?_) (fun ee s3 hq => ?_)))))
  rotate_left
  · obtain ⟨Is3, Fs3, e4, hv, hrs3, hps3⟩ := hq; cases hv
  obtain ⟨Is3, Fs3, e4, hv, hrs3, hps3⟩ := hq
  have hps3p := hps3.2
  cases hv
  have Gs3 := fm_tq Gs1 Fs3 rfl rfl
  show WS k 14 [(0, .ref (A 0)), (1, .int (Int32.ofInt u)), (2, .int (Int32.ofInt w))] [.int (Int32.ofInt e4)] (Wd A dT s3) 1 6
  exact w_iret X.1 q hRt (nar_ret (by first | (clear hps3 hps1 p1; omega) | (clear hps1 p1; omega) | omega)) (ax_d X (show cdA 169 14 = some (.ireturn, 1, 0, 0, 0) from rfl)) (show 1 ≤ 1 by decide) (show 6 ≤ 6 by decide) ⟨_, rfl, Is3, Gs3, Or.inl ⟨e4, rfl, hrs3, ⟨by first | exact hps1.1 | omega, by first | exact hps1.2.1 | omega, hps3⟩⟩⟩
set_option maxRecDepth 4000 in
theorem lw_storm2 (G : GX l s0 D tys a0 dT) (I : Bd s) {u w : Int} (p0 : rng u) (p1 : w = 0 ∨ w = 1) : CTL l s0 D A dT 343 (rmN 343) [.ref (A 0), .int (Int32.ofInt u), .int (Int32.ofInt w), .ref (A 517)] s (fun o t => Bd t ∧ Fm [1000, 1001] [1460] s t ∧ ∃ e, o = .inl (some (.int (Int32.ofInt e))) ∧ rng e ∧ ((e = 1 ∧ (u < 0 ∨ 127 < u) ∧ SBS s t) ∨ (e = 0 ∧ 0 ≤ u ∧ u ≤ 127 ∧ ((iO t = 1 ∧ SB u s) ∨ (iO t = 0 ∧ ¬ SB u s)) ∧ SBU u w s t))) := by
  refine ctL_of G (by decide) (Nat.le_of_ble_eq_true rfl) (by decide) rfl (fun k X E ET hRt hEx q => ?_)
  show WS k 0 [(0, .ref (A 0)), (1, .int (Int32.ofInt u)), (2, .int (Int32.ofInt w)), (3, .ref (A 517))] [] _ 0 0
  have F : Fm [1000, 1001] [1460] s s := fm_rf _ _ s
  have hA := swA_rf A
  refine z_aload_n X (x := A 517) rfl (List.Mem.tail _ (List.Mem.tail _ (List.Mem.tail _ (List.Mem.head _)))) (z_const X rfl (z_aload_n X (x := A 0) rfl (List.Mem.head _) (z_load_n X (x := u) rfl (List.Mem.tail _ (List.Mem.head _)) (z_load_n X (x := w) rfl (List.Mem.tail _ (List.Mem.tail _ (List.Mem.head _))) (z_callV X 0 (rm := rmN 169) (As := [.int (Int32.ofInt u), .int (Int32.ofInt w)]) (st := [.int (Int32.ofInt 0), .ref (A 517)]) rfl rfl (by decide) rfl (by rw [E.1, E.2.1, E.2.2.1]; exact cs_storm2 G I (by first | (clear p1; omega) | omega) (by first | (clear p1; omega) | omega)) ⟨by rw [E.2.2.2]; exact (show (rmN 169).frames + 1 ≤ (rmN 343).frames by decide), by rw [E.2.2.2]; exact (show 8 + (mNL (miB 169) + 11) + (rmN 169).locals ≤ (rmN 343).locals by decide), by rw [E.2.2.2]; exact (show 0 + (rmN 169).cells ≤ (rmN 343).cells by decide), by rw [E.2.2.2]; exact (show 0 + (rmN 169).slots ≤ (rmN 343).slots by decide)⟩ (Nat.le_of_ble_eq_true rfl) (fun vv s1 hq => ?_) (fun ee s1 hq => ?_))))))
  rotate_left
  · obtain ⟨Is1, Fs1, (⟨e2, hv, hrs1, hps1⟩ | ⟨xx, hv, hps1⟩)⟩ := hq
    · cases hv
    · cases hv
      rcases (show xx = 2 by omega) with gx
      ·
        subst gx
        have Gs1 := fm_tq F Fs1 rfl rfl
        refine (hEx 5 2).2 20 rfl _ _ _ _ _ (fun q1 => ?_)
        show WS k 20 [(0, .ref (A 0)), (1, .int (Int32.ofInt u)), (2, .int (Int32.ofInt w)), (3, .ref (A 517))] [.ref q1] (Wd A dT s1) 1 6
        refine z_astore X (lv' := [(4, .ref q1), (0, .ref (A 0)), (1, .int (Int32.ofInt u)), (2, .int (Int32.ofInt w)), (3, .ref (A 517))]) rfl (by decide) (fun _ h => h) (z_const X rfl ?_)
        exact w_iret X.1 q hRt rfl (ax_d X (show cdA 343 23 = some (.ireturn, 1, 0, 0, 0) from rfl)) (show 1 ≤ 1 by decide) (show 6 ≤ 6 by decide) ⟨A, _, hA, rfl, Is1, Gs1, 1, rfl, (by decide), Or.inl ⟨by decide, by first | (clear p1; omega) | omega, hps1.2.2⟩⟩
  obtain ⟨Is1, Fs1, (⟨e2, hv, hrs1, hps1⟩ | ⟨xx, hv, hps1⟩)⟩ := hq
  rotate_left
  · cases hv
  cases hv
  have Gs1 := fm_tq F Fs1 rfl rfl
  show WS k 8 [(0, .ref (A 0)), (1, .int (Int32.ofInt u)), (2, .int (Int32.ofInt w)), (3, .ref (A 517))] [.int (Int32.ofInt e2), .int (Int32.ofInt 0), .ref (A 517)] (Wd A dT s1) 1 6
  refine z_if_eq X (t := 15) rfl rfl ⟨by first | (clear hps1 p1; omega) | (clear p1; omega) | omega, by first | (clear hps1 p1; omega) | (clear p1; omega) | omega⟩ (fun g3 => ?_) (fun g3 => ?_)
  ·
    refine w_lconst X.1 (ax_d X (show cdA 343 15 = some (.lconst 0, 1, 0, 0, 0) from rfl)) (z := (Int32.ofInt 0).toInt64) (by decide) (z_last X 517 rfl (c518_ok rfl) rfl (by first | (clear hps1 p1; omega) | (clear p1; omega) | omega) (show 0 < 1 by first | (clear hps1 p1; omega) | (clear p1; omega) | omega) (cbig_ok rfl) (wd_gen (fun s4 hs4 => ?_)))
    have Is4 : Bd s4 := eqB hs4 (bd_D Is1)
    have Fs4 : Fm [1000, 1001] [1460] s s4 := by rw [hs4]; exact fm_D Gs1 (show 460 + 1000 ∈ _ by decide)
    have oos4 : iO s4 = 0 := by rw [hs4]; exact iO_u (by first | (clear hps1 p1; omega) | (clear p1; omega) | omega)
    refine z_goto X (t := 24) rfl rfl (z_const X rfl ?_)
    exact w_iret X.1 q hRt rfl (ax_d X (show cdA 343 25 = some (.ireturn, 1, 0, 0, 0) from rfl)) (show 1 ≤ 1 by decide) (show 6 ≤ 6 by decide) ⟨A, _, hA, rfl, Is4, Fs4, 0, rfl, (by decide), Or.inr ⟨by decide, by first | (clear hps1 p1; omega) | (clear p1; omega) | omega, by first | (clear hps1 p1; omega) | (clear p1; omega) | omega, (hps1.2.2.1).elim (fun q => Or.inl ⟨by first | (clear hps1 p1; omega) | (clear p1; omega) | omega, q.2⟩) (fun q => Or.inr ⟨by first | (clear hps1 p1; omega) | (clear p1; omega) | omega, q.2⟩), by rw [hs4]; exact hps1.2.2.2⟩⟩
  ·
    refine w_lconst X.1 (ax_d X (show cdA 343 11 = some (.lconst 1, 1, 0, 0, 0) from rfl)) (z := (Int32.ofInt 1).toInt64) (by decide) (z_goto X (t := 16) rfl rfl (z_last X 517 rfl (c518_ok rfl) rfl (by first | (clear g3 hps1 p1; omega) | (clear hps1 p1; omega) | omega) (show 0 < 1 by first | (clear g3 hps1 p1; omega) | (clear hps1 p1; omega) | omega) (cbig_ok rfl) (wd_gen (fun s5 hs5 => ?_))))
    have Is5 : Bd s5 := eqB hs5 (bd_D Is1)
    have Fs5 : Fm [1000, 1001] [1460] s s5 := by rw [hs5]; exact fm_D Gs1 (show 460 + 1000 ∈ _ by decide)
    have oos5 : iO s5 = 1 := by rw [hs5]; exact iO_u (by first | (clear g3 hps1 p1; omega) | (clear hps1 p1; omega) | omega)
    refine z_goto X (t := 24) rfl rfl (z_const X rfl ?_)
    exact w_iret X.1 q hRt rfl (ax_d X (show cdA 343 25 = some (.ireturn, 1, 0, 0, 0) from rfl)) (show 1 ≤ 1 by decide) (show 6 ≤ 6 by decide) ⟨A, _, hA, rfl, Is5, Fs5, 0, rfl, (by decide), Or.inr ⟨by decide, by first | (clear g3 hps1 p1; omega) | (clear hps1 p1; omega) | omega, by first | (clear g3 hps1 p1; omega) | (clear hps1 p1; omega) | omega, (hps1.2.2.1).elim (fun q => Or.inl ⟨by first | (clear g3 hps1 p1; omega) | (clear hps1 p1; omega) | omega, q.2⟩) (fun q => Or.inr ⟨by first | (clear g3 hps1 p1; omega) | (clear hps1 p1; omega) | omega, q.2⟩), by rw [hs5]; exact hps1.2.2.2⟩⟩
set_option maxRecDepth 4000 in
theorem k_storm2 (G : GX l s0 D tys a0 dT) (I : Bd s) {x y : Int} (p0 : rng x) (p1 : y = 0 ∨ y = 1) : CT l s0 D A dT 279 (rmN 279) [.ref (A 179), .int (Int32.ofInt x), .int (Int32.ofInt y)] s (fun o t => Bd t ∧ Fm [73] [399] s t ∧ ∃ e, o = .inl (some (.int (Int32.ofInt e))) ∧ rng e ∧ (((x < 0 ∨ 127 < x) ∧ iI t 73 = 1 ∧ SAM 399 s t) ∨ (0 ≤ x ∧ x ≤ 127 ∧ iI t 73 = 0 ∧ e = iC s 399 x.toNat ∧ UPD 399 x y s t))) := by
  refine ct_of G (by decide) (Nat.le_of_ble_eq_true rfl) (fun k X E hRt hXt q => ?_)
  show WS k 0 [(0, .ref (A 179)), (1, .int (Int32.ofInt x)), (2, .int (Int32.ofInt y))] [] _ 0 0
  have F : Fm [73] [399] s s := fm_rf _ _ s
  have aw0_399 : SAM 399 s s := sam_rf
  have b1 := bi_73 I
  refine z_aload_n X (x := A 179) rfl (List.Mem.head _) (z_const X rfl (s_putI X 179 rfl (c518_ok rfl) rfl rfl (by decide) rfl rfl rfl (wd_gen (fun s2 hs2 => ?_))))
  have Is2 : Bd s2 := eqB hs2 (bd_I I (show (0 : Int) ≤ 0 ∧ 0 ≤ 3 by first | exact ⟨by decide, by decide⟩ | omega) (by decide))
  have Fs2 := eqF hs2 (fm_I F (inl_ok (a := 73) rfl))
  have vs2 : iI s2 73 = 0 := eqI hs2 (iI_u (by decide))
  have aws2_399 : SAM 399 s s2 := by rw [hs2]; exact aw0_399
  refine z_aload_n X (x := A 179) rfl (List.Mem.head _) (z_load_n X (x := x) rfl (List.Mem.tail _ (List.Mem.head _)) (z_const X rfl (z_bipush X rfl (z_callS X (rm := rmN 188) (As := [.int (Int32.ofInt x), .int (Int32.ofInt 0), .int (Int32.ofInt 127)]) (st := [.ref (A 179)]) rfl rfl (by rw [E.1, E.2.1, E.2.2.1]; exact k_in2 G Is2 (by first | exact ⟨p0.1, p0.2⟩ | omega) (by first | exact ⟨by decide, by decide⟩ | omega) (by first | exact ⟨by decide, by decide⟩ | omega)) ⟨by rw [E.2.2.2]; exact (show (rmN 188).frames + 1 ≤ (rmN 279).frames by decide), by rw [E.2.2.2]; exact (show 8 + (mNL (miB 188) + 11) + (rmN 188).locals ≤ (rmN 279).locals by decide), by rw [E.2.2.2]; exact (show 0 + (rmN 188).cells ≤ (rmN 279).cells by decide), by rw [E.2.2.2]; exact (show 0 + (rmN 188).slots ≤ (rmN 279).slots by decide)⟩ (Nat.le_of_ble_eq_true rfl) (fun vv s3 hq => ?_) (fun ee s3 hq => ?_)))))
  rotate_left
  · obtain ⟨rfl, e4, hv, hrs3, hps3⟩ := hq; cases hv
  obtain ⟨rfl, e4, hv, hrs3, hps3⟩ := hq
  cases hv
  show WS k 13 [(0, .ref (A 179)), (1, .int (Int32.ofInt x)), (2, .int (Int32.ofInt y))] [.int (Int32.ofInt e4), .ref (A 179)] (Wd A dT s2) 0 0
  have N5 : ∀ e6 : Int, (((e4 ≠ 0) ∧ e6 = 0) ∨ ((e4 = 0) ∧ e6 = 1)) → WS k 21 [(0, .ref (A 179)), (1, .int (Int32.ofInt x)), (2, .int (Int32.ofInt y))] [.int (Int32.ofInt e6), .ref (A 179)] (Wd A dT s2) 0 0 := by
    intro e6 he6
    have re6 : 0 ≤ e6 ∧ e6 ≤ 1 := by first | (clear he6 hps3 p1; omega) | (clear hps3 p1; omega) | omega
    refine z_const X rfl (zcV_i0 X E 179 (As := [.int (Int32.ofInt e6), .int (Int32.ofInt 1)]) (st := []) rfl rfl rfl rfl (k_bad2 G Is2 (by first | exact oq_31e518ae re6.2 re6.1 | omega) (by first | exact ⟨by decide, by decide⟩ | omega)) rfl (Nat.le_of_ble_eq_true rfl) (fun s7 e8 Is7 Fs7 hrs7 hps7 => ?_))
    have Gs7 := fm_tq Fs2 Fs7 rfl rfl
    have b9 := bi_73 Is7
    have aws7_399 : SAM 399 s s7 := sam_ts aws2_399 (sam_fm Fs7 (by decide))
    refine z_if_eq X (t := 30) rfl rfl hrs7 (fun g10 => ?_) (fun g10 => ?_)
    ·
      refine z_aload_n X (x := A 179) rfl (List.Mem.head _) (s_getR X 179 rfl (c518_ok rfl) rfl rfl (z_load_n X (x := x) rfl (List.Mem.tail _ (List.Mem.head _)) (z_zald X 454 rfl (c518_ok rfl) rfl (by first | exact oq_c0af69ba g10 hps7 he6 hps3 vs2 | omega) (show x < 128 by first | exact oq_34756d52 g10 hps7 he6 hps3 vs2 | omega) (cbig_ok rfl) ?_)))
      have b11 := bc_399 Is7 (show (x).toNat < 128 by first | exact oq_a3e036ca g10 hps7 he6 hps3 vs2 | omega)
      have ar12 : iC s7 399 (x).toNat = iC s 399 (x).toNat := aws7_399 _
      refine z_store_n X (lv' := [(3, .int (Int32.ofInt (iC s7 399 (x).toNat))), (0, .ref (A 179)), (1, .int (Int32.ofInt x)), (2, .int (Int32.ofInt y))]) rfl (by decide) (fun _ h => h) (z_aload_n X (x := A 179) rfl (List.Mem.tail _ (List.Mem.head _)) (s_getR X 179 rfl (c518_ok rfl) rfl rfl (z_load_n X (x := x) rfl (List.Mem.tail _ (List.Mem.tail _ (List.Mem.head _))) (z_load_n X (x := y) rfl (List.Mem.tail _ (List.Mem.tail _ (List.Mem.tail _ (List.Mem.head _)))) (z_zast X 454 rfl (c518_ok rfl) rfl (by first | exact oq_c0af69ba g10 hps7 he6 hps3 vs2 | omega) (show x < 128 by first | exact oq_34756d52 g10 hps7 he6 hps3 vs2 | omega) (cbig_ok rfl) (by first | exact p1 | omega) (wd_gen (fun s13 hs13 => ?_)))))))
      have Is13 : Bd s13 := eqB hs13 (bd_C Is7 (show (0 : Int) ≤ y ∧ y ≤ 1 by first | exact ⟨oq_e4aca38c p1, oq_14617724 p1⟩ | omega) ⟨by first | exact oq_bde653e9 p1 | omega, by first | exact oq_4ad2cb8b p1 | omega⟩)
      have Fs13 := eqF hs13 (fm_C Gs7 (inl_ok (a := 399) rfl))
      have ws13_73 : iI s13 73 = iI s7 73 := eqI hs13 rfl
      have aws13_399 : UPD 399 (x) y s s13 := by rw [hs13]; exact upd_put aws7_399 ⟨by first | exact oq_bde653e9 p1 | omega, by first | exact oq_4ad2cb8b p1 | omega⟩
      refine z_load_n X (x := (iC s7 399 (x).toNat)) rfl (List.Mem.head _) ?_
      exact w_iret X.1 q hRt (nar_ret (by first | exact oq_31e518ae b11.2 b11.1 | omega)) (ax_d X (show cdA 279 45 = some (.ireturn, 1, 0, 0, 0) from rfl)) (Nat.zero_le _) (Nat.zero_le _) ⟨_, rfl, Is13, Fs13, (iC s7 399 (x).toNat), rfl, (rng_to _), Or.inr ⟨by first | exact oq_c0af69ba g10 hps7 he6 hps3 vs2 | omega, by first | exact oq_6404d05d g10 hps7 he6 hps3 vs2 | omega, by first | exact oq_36baa0f5 ws13_73 g10 b9.1 hps7 vs2 | omega, by first | exact ar12 | omega, aws13_399⟩⟩
    ·
      refine z_const X rfl ?_
      exact w_iret X.1 q hRt (nar_ret (by first | exact Or.inl (by decide) | omega)) (ax_d X (show cdA 279 29 = some (.ireturn, 1, 0, 0, 0) from rfl)) (Nat.zero_le _) (Nat.zero_le _) ⟨_, rfl, Is7, Gs7, 0, rfl, (by decide), Or.inl ⟨by first | exact oq_2d4c9f41 g10 hps7 he6 hps3 vs2 | omega, by first | exact oq_58a3c280 g10 hps7 vs2 | omega, aws7_399⟩⟩
  refine z_if_ne X (t := 20) rfl rfl hrs3 (fun g14 => ?_) (fun g14 => ?_)
  ·
    exact z_const X rfl (N5 _ (Or.inl ⟨g14, rfl⟩))
  ·
    exact z_const X rfl (z_goto X (t := 21) rfl rfl (N5 _ (Or.inr (⟨g14, rfl⟩))))
set_option maxRecDepth 4000 in
theorem k_thrown2 (G : GX l s0 D tys a0 dT) (I : Bd s)  : CT l s0 D A dT 186 (rmN 186) [.ref (A 179)] s (fun o t => s = t ∧ ∃ e, o = .inl (some (.int (Int32.ofInt e))) ∧ rng e ∧ (e = iI s 73)) := by
  refine ct_of G (by decide) (Nat.le_of_ble_eq_true rfl) (fun k X E hRt hXt q => ?_)
  show WS k 0 [(0, .ref (A 179))] [] _ 0 0
  have F : Fm [] [] s s := fm_rf _ _ s
  refine z_aload_n X (x := A 179) rfl (List.Mem.head _) (z_getI X 179 rfl (c518_ok rfl) rfl rfl ?_)
  have b1 := bi_73 I
  exact w_iret X.1 q hRt rfl (ax_d X (show cdA 186 4 = some (.ireturn, 1, 0, 0, 0) from rfl)) (Nat.zero_le _) (Nat.zero_le _) ⟨_, rfl, rfl, (iI s 73), rfl, (rng_to _), by omega⟩
end M87b
